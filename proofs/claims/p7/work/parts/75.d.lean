/-! the reference as formulas: reachC, reach, parse, fault, place, means, entry, tokenOfTwice, declare, isKName, isK, shifted, quotient, remainder, worked, related, signed, later -/
theorem dX12_reachC_0 : decode cX12_reachC 0 = .ok (.aload_n 0, 1) := by decide +kernel
theorem dX12_reachC_1 : decode cX12_reachC 1 = .ok (.invokevirtual 526, 3) := by decide +kernel
theorem dX12_reachC_4 : decode cX12_reachC 4 = .ok (.istore 5, 2) := by decide +kernel
theorem dX12_reachC_6 : decode cX12_reachC 6 = .ok (.aload_n 0, 1) := by decide +kernel
theorem dX12_reachC_7 : decode cX12_reachC 7 = .ok (.getfield 124, 3) := by decide +kernel
theorem dX12_reachC_10 : decode cX12_reachC 10 = .ok (.istore 6, 2) := by decide +kernel
theorem dX12_reachC_12 : decode cX12_reachC 12 = .ok (.aload_n 0, 1) := by decide +kernel
theorem dX12_reachC_13 : decode cX12_reachC 13 = .ok (.getfield 142, 3) := by decide +kernel
theorem dX12_reachC_16 : decode cX12_reachC 16 = .ok (.istore 7, 2) := by decide +kernel
theorem dX12_reachC_18 : decode cX12_reachC 18 = .ok (.iload_n 1, 1) := by decide +kernel
theorem dX12_reachC_19 : decode cX12_reachC 19 = .ok (.bipush 11, 2) := by decide +kernel
theorem dX12_reachC_21 : decode cX12_reachC 21 = .ok (.if_icmp .ne 27, 3) := by decide +kernel
theorem dX12_reachC_24 : decode cX12_reachC 24 = .ok (.aload_n 0, 1) := by decide +kernel
theorem dX12_reachC_25 : decode cX12_reachC 25 = .ok (.bipush 12, 2) := by decide +kernel
theorem dX12_reachC_27 : decode cX12_reachC 27 = .ok (.aload_n 0, 1) := by decide +kernel
theorem dX12_reachC_28 : decode cX12_reachC 28 = .ok (.getfield 145, 3) := by decide +kernel
theorem dX12_reachC_31 : decode cX12_reachC 31 = .ok (.iconst 0, 1) := by decide +kernel
theorem dX12_reachC_32 : decode cX12_reachC 32 = .ok (.iload 6, 2) := by decide +kernel
theorem dX12_reachC_34 : decode cX12_reachC 34 = .ok (.invokevirtual 534, 3) := by decide +kernel
theorem dX12_reachC_37 : decode cX12_reachC 37 = .ok (.aload_n 0, 1) := by decide +kernel
theorem dX12_reachC_38 : decode cX12_reachC 38 = .ok (.iload 5, 2) := by decide +kernel
theorem dX12_reachC_40 : decode cX12_reachC 40 = .ok (.iload 7, 2) := by decide +kernel
theorem dX12_reachC_42 : decode cX12_reachC 42 = .ok (.iload 6, 2) := by decide +kernel
theorem dX12_reachC_44 : decode cX12_reachC 44 = .ok (.invokevirtual 573, 3) := by decide +kernel
theorem dX12_reachC_47 : decode cX12_reachC 47 = .ok (.ireturn, 1) := by decide +kernel
theorem dX12_reachC_48 : decode cX12_reachC 48 = .ok (.iload_n 1, 1) := by decide +kernel
theorem dX12_reachC_49 : decode cX12_reachC 49 = .ok (.bipush 12, 2) := by decide +kernel
theorem dX12_reachC_51 : decode cX12_reachC 51 = .ok (.if_icmp .ne 116, 3) := by decide +kernel
theorem dX12_reachC_54 : decode cX12_reachC 54 = .ok (.iload 5, 2) := by decide +kernel
theorem dX12_reachC_56 : decode cX12_reachC 56 = .ok (.bipush 68, 2) := by decide +kernel
theorem dX12_reachC_58 : decode cX12_reachC 58 = .ok (.if_icmp .eq 24, 3) := by decide +kernel
theorem dX12_reachC_61 : decode cX12_reachC 61 = .ok (.iload 5, 2) := by decide +kernel
theorem dX12_reachC_63 : decode cX12_reachC 63 = .ok (.bipush 69, 2) := by decide +kernel
theorem dX12_reachC_65 : decode cX12_reachC 65 = .ok (.if_icmp .eq 17, 3) := by decide +kernel
theorem dX12_reachC_68 : decode cX12_reachC 68 = .ok (.iload 5, 2) := by decide +kernel
theorem dX12_reachC_70 : decode cX12_reachC 70 = .ok (.bipush 70, 2) := by decide +kernel
theorem dX12_reachC_72 : decode cX12_reachC 72 = .ok (.if_icmp .eq 10, 3) := by decide +kernel
theorem dX12_reachC_75 : decode cX12_reachC 75 = .ok (.aload_n 0, 1) := by decide +kernel
theorem dX12_reachC_76 : decode cX12_reachC 76 = .ok (.iload_n 2, 1) := by decide +kernel
theorem dX12_reachC_77 : decode cX12_reachC 77 = .ok (.putfield 145, 3) := by decide +kernel
theorem dX12_reachC_80 : decode cX12_reachC 80 = .ok (.iconst 1, 1) := by decide +kernel
theorem dX12_reachC_81 : decode cX12_reachC 81 = .ok (.ireturn, 1) := by decide +kernel
theorem dX12_reachC_82 : decode cX12_reachC 82 = .ok (.aload_n 0, 1) := by decide +kernel
theorem dX12_reachC_83 : decode cX12_reachC 83 = .ok (.invokevirtual 530, 3) := by decide +kernel
theorem dX12_reachC_86 : decode cX12_reachC 86 = .ok (.ifCond .ne 5, 3) := by decide +kernel
theorem dX12_reachC_89 : decode cX12_reachC 89 = .ok (.iconst 0, 1) := by decide +kernel
theorem dX12_reachC_90 : decode cX12_reachC 90 = .ok (.ireturn, 1) := by decide +kernel
theorem dX12_reachC_91 : decode cX12_reachC 91 = .ok (.aload_n 0, 1) := by decide +kernel
theorem dX12_reachC_92 : decode cX12_reachC 92 = .ok (.dup, 1) := by decide +kernel
theorem dX12_reachC_93 : decode cX12_reachC 93 = .ok (.getfield 142, 3) := by decide +kernel
theorem dX12_reachC_96 : decode cX12_reachC 96 = .ok (.iconst 1, 1) := by decide +kernel
theorem dX12_reachC_97 : decode cX12_reachC 97 = .ok (.iadd, 1) := by decide +kernel
theorem dX12_reachC_98 : decode cX12_reachC 98 = .ok (.putfield 142, 3) := by decide +kernel
theorem dX12_reachC_101 : decode cX12_reachC 101 = .ok (.aload_n 0, 1) := by decide +kernel
theorem dX12_reachC_102 : decode cX12_reachC 102 = .ok (.bipush 12, 2) := by decide +kernel
theorem dX12_reachC_104 : decode cX12_reachC 104 = .ok (.iload_n 2, 1) := by decide +kernel
theorem dX12_reachC_105 : decode cX12_reachC 105 = .ok (.iconst 0, 1) := by decide +kernel
theorem dX12_reachC_106 : decode cX12_reachC 106 = .ok (.iload 4, 2) := by decide +kernel
theorem dX12_reachC_108 : decode cX12_reachC 108 = .ok (.invokevirtual 534, 3) := by decide +kernel
theorem dX12_reachC_111 : decode cX12_reachC 111 = .ok (.iload 5, 2) := by decide +kernel
theorem dX12_reachC_113 : decode cX12_reachC 113 = .ok (.bipush 68, 2) := by decide +kernel
theorem dX12_reachC_115 : decode cX12_reachC 115 = .ok (.if_icmp .ne 17, 3) := by decide +kernel
theorem dX12_reachC_118 : decode cX12_reachC 118 = .ok (.aload_n 0, 1) := by decide +kernel
theorem dX12_reachC_119 : decode cX12_reachC 119 = .ok (.bipush 38, 2) := by decide +kernel
theorem dX12_reachC_121 : decode cX12_reachC 121 = .ok (.iload 7, 2) := by decide +kernel
theorem dX12_reachC_123 : decode cX12_reachC 123 = .ok (.iload 4, 2) := by decide +kernel
theorem dX12_reachC_125 : decode cX12_reachC 125 = .ok (.iconst 0, 1) := by decide +kernel
theorem dX12_reachC_126 : decode cX12_reachC 126 = .ok (.invokevirtual 542, 3) := by decide +kernel
theorem dX12_reachC_129 : decode cX12_reachC 129 = .ok (.pop, 1) := by decide +kernel
theorem dX12_reachC_130 : decode cX12_reachC 130 = .ok (.iconst 1, 1) := by decide +kernel
theorem dX12_reachC_131 : decode cX12_reachC 131 = .ok (.ireturn, 1) := by decide +kernel
theorem dX12_reachC_132 : decode cX12_reachC 132 = .ok (.aload_n 0, 1) := by decide +kernel
theorem dX12_reachC_133 : decode cX12_reachC 133 = .ok (.bipush 6, 2) := by decide +kernel
theorem dX12_reachC_135 : decode cX12_reachC 135 = .ok (.iload 5, 2) := by decide +kernel
theorem dX12_reachC_137 : decode cX12_reachC 137 = .ok (.bipush 69, 2) := by decide +kernel
theorem dX12_reachC_139 : decode cX12_reachC 139 = .ok (.if_icmp .ne 8, 3) := by decide +kernel
theorem dX12_reachC_142 : decode cX12_reachC 142 = .ok (.bipush 39, 2) := by decide +kernel
theorem dX12_reachC_144 : decode cX12_reachC 144 = .ok (.goto 5, 3) := by decide +kernel
theorem dX12_reachC_147 : decode cX12_reachC 147 = .ok (.bipush 40, 2) := by decide +kernel
theorem dX12_reachC_149 : decode cX12_reachC 149 = .ok (.iload 7, 2) := by decide +kernel
theorem dX12_reachC_151 : decode cX12_reachC 151 = .ok (.iload 4, 2) := by decide +kernel
theorem dX12_reachC_153 : decode cX12_reachC 153 = .ok (.invokevirtual 534, 3) := by decide +kernel
theorem dX12_reachC_156 : decode cX12_reachC 156 = .ok (.aload_n 0, 1) := by decide +kernel
theorem dX12_reachC_157 : decode cX12_reachC 157 = .ok (.bipush 28, 2) := by decide +kernel
theorem dX12_reachC_159 : decode cX12_reachC 159 = .ok (.iconst 0, 1) := by decide +kernel
theorem dX12_reachC_160 : decode cX12_reachC 160 = .ok (.iconst 0, 1) := by decide +kernel
theorem dX12_reachC_161 : decode cX12_reachC 161 = .ok (.iconst 0, 1) := by decide +kernel
theorem dX12_reachC_162 : decode cX12_reachC 162 = .ok (.invokevirtual 534, 3) := by decide +kernel
theorem dX12_reachC_165 : decode cX12_reachC 165 = .ok (.iconst 1, 1) := by decide +kernel
theorem dX12_reachC_166 : decode cX12_reachC 166 = .ok (.ireturn, 1) := by decide +kernel
theorem dX12_reachC_167 : decode cX12_reachC 167 = .ok (.iload_n 1, 1) := by decide +kernel
theorem dX12_reachC_168 : decode cX12_reachC 168 = .ok (.bipush 41, 2) := by decide +kernel
theorem dX12_reachC_170 : decode cX12_reachC 170 = .ok (.if_icmp .ne 25, 3) := by decide +kernel
theorem dX12_reachC_173 : decode cX12_reachC 173 = .ok (.aload_n 0, 1) := by decide +kernel
theorem dX12_reachC_174 : decode cX12_reachC 174 = .ok (.bipush 56, 2) := by decide +kernel
theorem dX12_reachC_176 : decode cX12_reachC 176 = .ok (.invokevirtual 549, 3) := by decide +kernel
theorem dX12_reachC_179 : decode cX12_reachC 179 = .ok (.ifCond .ne 5, 3) := by decide +kernel
theorem dX12_reachC_182 : decode cX12_reachC 182 = .ok (.iconst 1, 1) := by decide +kernel
theorem dX12_reachC_183 : decode cX12_reachC 183 = .ok (.ireturn, 1) := by decide +kernel
theorem dX12_reachC_184 : decode cX12_reachC 184 = .ok (.aload_n 0, 1) := by decide +kernel
theorem dX12_reachC_185 : decode cX12_reachC 185 = .ok (.bipush 28, 2) := by decide +kernel
theorem dX12_reachC_187 : decode cX12_reachC 187 = .ok (.iconst 0, 1) := by decide +kernel
theorem dX12_reachC_188 : decode cX12_reachC 188 = .ok (.iconst 0, 1) := by decide +kernel
theorem dX12_reachC_189 : decode cX12_reachC 189 = .ok (.iconst 0, 1) := by decide +kernel
theorem dX12_reachC_190 : decode cX12_reachC 190 = .ok (.invokevirtual 534, 3) := by decide +kernel
theorem dX12_reachC_193 : decode cX12_reachC 193 = .ok (.iconst 1, 1) := by decide +kernel
theorem dX12_reachC_194 : decode cX12_reachC 194 = .ok (.ireturn, 1) := by decide +kernel
theorem dX12_reachC_195 : decode cX12_reachC 195 = .ok (.iload_n 1, 1) := by decide +kernel
theorem dX12_reachC_196 : decode cX12_reachC 196 = .ok (.bipush 18, 2) := by decide +kernel
theorem dX12_reachC_198 : decode cX12_reachC 198 = .ok (.if_icmp .ne 23, 3) := by decide +kernel
theorem dX12_reachC_201 : decode cX12_reachC 201 = .ok (.aload_n 0, 1) := by decide +kernel
theorem dX12_reachC_202 : decode cX12_reachC 202 = .ok (.bipush 19, 2) := by decide +kernel
theorem dX12_reachC_204 : decode cX12_reachC 204 = .ok (.iload_n 2, 1) := by decide +kernel
theorem dX12_reachC_205 : decode cX12_reachC 205 = .ok (.iload_n 3, 1) := by decide +kernel
theorem dX12_reachC_206 : decode cX12_reachC 206 = .ok (.iload 4, 2) := by decide +kernel
theorem dX12_reachC_208 : decode cX12_reachC 208 = .ok (.invokevirtual 534, 3) := by decide +kernel
theorem dX12_reachC_211 : decode cX12_reachC 211 = .ok (.aload_n 0, 1) := by decide +kernel
theorem dX12_reachC_212 : decode cX12_reachC 212 = .ok (.iconst 3, 1) := by decide +kernel
theorem dX12_reachC_213 : decode cX12_reachC 213 = .ok (.iconst 0, 1) := by decide +kernel
theorem dX12_reachC_214 : decode cX12_reachC 214 = .ok (.iconst 0, 1) := by decide +kernel
theorem dX12_reachC_215 : decode cX12_reachC 215 = .ok (.iconst 0, 1) := by decide +kernel
theorem dX12_reachC_216 : decode cX12_reachC 216 = .ok (.invokevirtual 534, 3) := by decide +kernel
theorem dX12_reachC_219 : decode cX12_reachC 219 = .ok (.iconst 1, 1) := by decide +kernel
theorem dX12_reachC_220 : decode cX12_reachC 220 = .ok (.ireturn, 1) := by decide +kernel
theorem dX12_reachC_221 : decode cX12_reachC 221 = .ok (.iload_n 1, 1) := by decide +kernel
theorem dX12_reachC_222 : decode cX12_reachC 222 = .ok (.bipush 19, 2) := by decide +kernel
theorem dX12_reachC_224 : decode cX12_reachC 224 = .ok (.if_icmp .ne 61, 3) := by decide +kernel
theorem dX12_reachC_227 : decode cX12_reachC 227 = .ok (.aload_n 0, 1) := by decide +kernel
theorem dX12_reachC_228 : decode cX12_reachC 228 = .ok (.bipush 15, 2) := by decide +kernel
theorem dX12_reachC_230 : decode cX12_reachC 230 = .ok (.invokevirtual 549, 3) := by decide +kernel
theorem dX12_reachC_233 : decode cX12_reachC 233 = .ok (.ifCond .eq 30, 3) := by decide +kernel
theorem dX12_reachC_236 : decode cX12_reachC 236 = .ok (.aload_n 0, 1) := by decide +kernel
theorem dX12_reachC_237 : decode cX12_reachC 237 = .ok (.aload_n 0, 1) := by decide +kernel
theorem dX12_reachC_238 : decode cX12_reachC 238 = .ok (.invokevirtual 526, 3) := by decide +kernel
theorem dX12_reachC_241 : decode cX12_reachC 241 = .ok (.invokestatic 561, 3) := by decide +kernel
theorem dX12_reachC_244 : decode cX12_reachC 244 = .ok (.ifCond .eq 8, 3) := by decide +kernel
theorem dX12_reachC_247 : decode cX12_reachC 247 = .ok (.bipush 18, 2) := by decide +kernel
theorem dX12_reachC_249 : decode cX12_reachC 249 = .ok (.goto 5, 3) := by decide +kernel
theorem dX12_reachC_252 : decode cX12_reachC 252 = .ok (.bipush 20, 2) := by decide +kernel
theorem dX12_reachC_254 : decode cX12_reachC 254 = .ok (.iload_n 2, 1) := by decide +kernel
theorem dX12_reachC_255 : decode cX12_reachC 255 = .ok (.iload_n 3, 1) := by decide +kernel
theorem dX12_reachC_256 : decode cX12_reachC 256 = .ok (.iload 4, 2) := by decide +kernel
theorem dX12_reachC_258 : decode cX12_reachC 258 = .ok (.invokevirtual 534, 3) := by decide +kernel
theorem dX12_reachC_261 : decode cX12_reachC 261 = .ok (.iconst 1, 1) := by decide +kernel
theorem dX12_reachC_262 : decode cX12_reachC 262 = .ok (.ireturn, 1) := by decide +kernel
theorem dX12_reachC_263 : decode cX12_reachC 263 = .ok (.aload_n 0, 1) := by decide +kernel
theorem dX12_reachC_264 : decode cX12_reachC 264 = .ok (.invokevirtual 564, 3) := by decide +kernel
theorem dX12_reachC_267 : decode cX12_reachC 267 = .ok (.ifCond .ne 5, 3) := by decide +kernel
theorem dX12_reachC_270 : decode cX12_reachC 270 = .ok (.iconst 0, 1) := by decide +kernel
theorem dX12_reachC_271 : decode cX12_reachC 271 = .ok (.ireturn, 1) := by decide +kernel
theorem dX12_reachC_272 : decode cX12_reachC 272 = .ok (.aload_n 0, 1) := by decide +kernel
theorem dX12_reachC_273 : decode cX12_reachC 273 = .ok (.bipush 36, 2) := by decide +kernel
theorem dX12_reachC_275 : decode cX12_reachC 275 = .ok (.iload_n 3, 1) := by decide +kernel
theorem dX12_reachC_276 : decode cX12_reachC 276 = .ok (.iload 4, 2) := by decide +kernel
theorem dX12_reachC_278 : decode cX12_reachC 278 = .ok (.iconst 0, 1) := by decide +kernel
theorem dX12_reachC_279 : decode cX12_reachC 279 = .ok (.invokevirtual 542, 3) := by decide +kernel
theorem dX12_reachC_282 : decode cX12_reachC 282 = .ok (.pop, 1) := by decide +kernel
theorem dX12_reachC_283 : decode cX12_reachC 283 = .ok (.iconst 1, 1) := by decide +kernel
theorem dX12_reachC_284 : decode cX12_reachC 284 = .ok (.ireturn, 1) := by decide +kernel
theorem dX12_reachC_285 : decode cX12_reachC 285 = .ok (.iload_n 1, 1) := by decide +kernel
theorem dX12_reachC_286 : decode cX12_reachC 286 = .ok (.bipush 20, 2) := by decide +kernel
theorem dX12_reachC_288 : decode cX12_reachC 288 = .ok (.if_icmp .ne 42, 3) := by decide +kernel
theorem dX12_reachC_291 : decode cX12_reachC 291 = .ok (.aload_n 0, 1) := by decide +kernel
theorem dX12_reachC_292 : decode cX12_reachC 292 = .ok (.bipush 21, 2) := by decide +kernel
theorem dX12_reachC_294 : decode cX12_reachC 294 = .ok (.iload_n 2, 1) := by decide +kernel
theorem dX12_reachC_295 : decode cX12_reachC 295 = .ok (.iload_n 3, 1) := by decide +kernel
theorem dX12_reachC_296 : decode cX12_reachC 296 = .ok (.iload 4, 2) := by decide +kernel
theorem dX12_reachC_298 : decode cX12_reachC 298 = .ok (.invokevirtual 534, 3) := by decide +kernel
theorem dX12_reachC_301 : decode cX12_reachC 301 = .ok (.aload_n 0, 1) := by decide +kernel
theorem dX12_reachC_302 : decode cX12_reachC 302 = .ok (.iload 6, 2) := by decide +kernel
theorem dX12_reachC_304 : decode cX12_reachC 304 = .ok (.invokevirtual 576, 3) := by decide +kernel
theorem dX12_reachC_307 : decode cX12_reachC 307 = .ok (.aload_n 0, 1) := by decide +kernel
theorem dX12_reachC_308 : decode cX12_reachC 308 = .ok (.bipush 6, 2) := by decide +kernel
theorem dX12_reachC_310 : decode cX12_reachC 310 = .ok (.bipush 41, 2) := by decide +kernel
theorem dX12_reachC_312 : decode cX12_reachC 312 = .ok (.iload 7, 2) := by decide +kernel
theorem dX12_reachC_314 : decode cX12_reachC 314 = .ok (.iload 6, 2) := by decide +kernel
theorem dX12_reachC_316 : decode cX12_reachC 316 = .ok (.invokevirtual 534, 3) := by decide +kernel
theorem dX12_reachC_319 : decode cX12_reachC 319 = .ok (.aload_n 0, 1) := by decide +kernel
theorem dX12_reachC_320 : decode cX12_reachC 320 = .ok (.bipush 11, 2) := by decide +kernel
theorem dX12_reachC_322 : decode cX12_reachC 322 = .ok (.iconst 0, 1) := by decide +kernel
theorem dX12_reachC_323 : decode cX12_reachC 323 = .ok (.iconst 0, 1) := by decide +kernel
theorem dX12_reachC_324 : decode cX12_reachC 324 = .ok (.iconst 0, 1) := by decide +kernel
theorem dX12_reachC_325 : decode cX12_reachC 325 = .ok (.invokevirtual 534, 3) := by decide +kernel
theorem dX12_reachC_328 : decode cX12_reachC 328 = .ok (.iconst 1, 1) := by decide +kernel
theorem dX12_reachC_329 : decode cX12_reachC 329 = .ok (.ireturn, 1) := by decide +kernel
theorem dX12_reachC_330 : decode cX12_reachC 330 = .ok (.iload_n 1, 1) := by decide +kernel
theorem dX12_reachC_331 : decode cX12_reachC 331 = .ok (.bipush 21, 2) := by decide +kernel
theorem dX12_reachC_333 : decode cX12_reachC 333 = .ok (.if_icmp .eq 9, 3) := by decide +kernel
theorem dX12_reachC_336 : decode cX12_reachC 336 = .ok (.iload_n 1, 1) := by decide +kernel
theorem dX12_reachC_337 : decode cX12_reachC 337 = .ok (.bipush 24, 2) := by decide +kernel
theorem dX12_reachC_339 : decode cX12_reachC 339 = .ok (.if_icmp .ne 68, 3) := by decide +kernel
theorem dX12_reachC_342 : decode cX12_reachC 342 = .ok (.aload_n 0, 1) := by decide +kernel
theorem dX12_reachC_343 : decode cX12_reachC 343 = .ok (.bipush 15, 2) := by decide +kernel
theorem dX12_reachC_345 : decode cX12_reachC 345 = .ok (.invokevirtual 549, 3) := by decide +kernel
theorem dX12_reachC_348 : decode cX12_reachC 348 = .ok (.ifCond .eq 26, 3) := by decide +kernel
theorem dX12_reachC_351 : decode cX12_reachC 351 = .ok (.aload_n 0, 1) := by decide +kernel
theorem dX12_reachC_352 : decode cX12_reachC 352 = .ok (.iload_n 1, 1) := by decide +kernel
theorem dX12_reachC_353 : decode cX12_reachC 353 = .ok (.bipush 21, 2) := by decide +kernel
theorem dX12_reachC_355 : decode cX12_reachC 355 = .ok (.if_icmp .ne 8, 3) := by decide +kernel
theorem dX12_reachC_358 : decode cX12_reachC 358 = .ok (.bipush 20, 2) := by decide +kernel
theorem dX12_reachC_360 : decode cX12_reachC 360 = .ok (.goto 5, 3) := by decide +kernel
theorem dX12_reachC_363 : decode cX12_reachC 363 = .ok (.bipush 22, 2) := by decide +kernel
theorem dX12_reachC_365 : decode cX12_reachC 365 = .ok (.iload_n 2, 1) := by decide +kernel
theorem dX12_reachC_366 : decode cX12_reachC 366 = .ok (.iload_n 3, 1) := by decide +kernel
theorem dX12_reachC_367 : decode cX12_reachC 367 = .ok (.iload 4, 2) := by decide +kernel
theorem dX12_reachC_369 : decode cX12_reachC 369 = .ok (.invokevirtual 534, 3) := by decide +kernel
theorem dX12_reachC_372 : decode cX12_reachC 372 = .ok (.iconst 1, 1) := by decide +kernel
theorem dX12_reachC_373 : decode cX12_reachC 373 = .ok (.ireturn, 1) := by decide +kernel
theorem dX12_reachC_374 : decode cX12_reachC 374 = .ok (.aload_n 0, 1) := by decide +kernel
theorem dX12_reachC_375 : decode cX12_reachC 375 = .ok (.invokevirtual 564, 3) := by decide +kernel
theorem dX12_reachC_378 : decode cX12_reachC 378 = .ok (.ifCond .ne 5, 3) := by decide +kernel
theorem dX12_reachC_381 : decode cX12_reachC 381 = .ok (.iconst 0, 1) := by decide +kernel
theorem dX12_reachC_382 : decode cX12_reachC 382 = .ok (.ireturn, 1) := by decide +kernel
theorem dX12_reachC_383 : decode cX12_reachC 383 = .ok (.aload_n 0, 1) := by decide +kernel
theorem dX12_reachC_384 : decode cX12_reachC 384 = .ok (.iload_n 1, 1) := by decide +kernel
theorem dX12_reachC_385 : decode cX12_reachC 385 = .ok (.bipush 21, 2) := by decide +kernel
theorem dX12_reachC_387 : decode cX12_reachC 387 = .ok (.if_icmp .ne 8, 3) := by decide +kernel
theorem dX12_reachC_390 : decode cX12_reachC 390 = .ok (.bipush 36, 2) := by decide +kernel
theorem dX12_reachC_392 : decode cX12_reachC 392 = .ok (.goto 5, 3) := by decide +kernel
theorem dX12_reachC_395 : decode cX12_reachC 395 = .ok (.bipush 28, 2) := by decide +kernel
theorem dX12_reachC_397 : decode cX12_reachC 397 = .ok (.iload_n 3, 1) := by decide +kernel
theorem dX12_reachC_398 : decode cX12_reachC 398 = .ok (.iload 4, 2) := by decide +kernel
theorem dX12_reachC_400 : decode cX12_reachC 400 = .ok (.iconst 0, 1) := by decide +kernel
theorem dX12_reachC_401 : decode cX12_reachC 401 = .ok (.invokevirtual 542, 3) := by decide +kernel
theorem dX12_reachC_404 : decode cX12_reachC 404 = .ok (.pop, 1) := by decide +kernel
theorem dX12_reachC_405 : decode cX12_reachC 405 = .ok (.iconst 1, 1) := by decide +kernel
theorem dX12_reachC_406 : decode cX12_reachC 406 = .ok (.ireturn, 1) := by decide +kernel
theorem dX12_reachC_407 : decode cX12_reachC 407 = .ok (.iload_n 1, 1) := by decide +kernel
theorem dX12_reachC_408 : decode cX12_reachC 408 = .ok (.bipush 22, 2) := by decide +kernel
theorem dX12_reachC_410 : decode cX12_reachC 410 = .ok (.if_icmp .ne 26, 3) := by decide +kernel
theorem dX12_reachC_413 : decode cX12_reachC 413 = .ok (.aload_n 0, 1) := by decide +kernel
theorem dX12_reachC_414 : decode cX12_reachC 414 = .ok (.bipush 24, 2) := by decide +kernel
theorem dX12_reachC_416 : decode cX12_reachC 416 = .ok (.iload_n 2, 1) := by decide +kernel
theorem dX12_reachC_417 : decode cX12_reachC 417 = .ok (.iload_n 3, 1) := by decide +kernel
theorem dX12_reachC_418 : decode cX12_reachC 418 = .ok (.iload 4, 2) := by decide +kernel
theorem dX12_reachC_420 : decode cX12_reachC 420 = .ok (.invokevirtual 534, 3) := by decide +kernel
theorem dX12_reachC_423 : decode cX12_reachC 423 = .ok (.aload_n 0, 1) := by decide +kernel
theorem dX12_reachC_424 : decode cX12_reachC 424 = .ok (.bipush 23, 2) := by decide +kernel
theorem dX12_reachC_426 : decode cX12_reachC 426 = .ok (.iload 7, 2) := by decide +kernel
theorem dX12_reachC_428 : decode cX12_reachC 428 = .ok (.iconst 0, 1) := by decide +kernel
theorem dX12_reachC_429 : decode cX12_reachC 429 = .ok (.iload 6, 2) := by decide +kernel
theorem dX12_reachC_431 : decode cX12_reachC 431 = .ok (.invokevirtual 534, 3) := by decide +kernel
theorem dX12_reachC_434 : decode cX12_reachC 434 = .ok (.iconst 1, 1) := by decide +kernel
theorem dX12_reachC_435 : decode cX12_reachC 435 = .ok (.ireturn, 1) := by decide +kernel
theorem dX12_reachC_436 : decode cX12_reachC 436 = .ok (.iload_n 1, 1) := by decide +kernel
theorem dX12_reachC_437 : decode cX12_reachC 437 = .ok (.bipush 23, 2) := by decide +kernel
theorem dX12_reachC_439 : decode cX12_reachC 439 = .ok (.if_icmp .ne 134, 3) := by decide +kernel
theorem dX12_reachC_442 : decode cX12_reachC 442 = .ok (.iload 5, 2) := by decide +kernel
theorem dX12_reachC_444 : decode cX12_reachC 444 = .ok (.bipush 59, 2) := by decide +kernel
theorem dX12_reachC_446 : decode cX12_reachC 446 = .ok (.if_icmp .ne 56, 3) := by decide +kernel
theorem dX12_reachC_449 : decode cX12_reachC 449 = .ok (.aload_n 0, 1) := by decide +kernel
theorem dX12_reachC_450 : decode cX12_reachC 450 = .ok (.dup, 1) := by decide +kernel
theorem dX12_reachC_451 : decode cX12_reachC 451 = .ok (.getfield 142, 3) := by decide +kernel
theorem dX12_reachC_454 : decode cX12_reachC 454 = .ok (.iconst 1, 1) := by decide +kernel
theorem dX12_reachC_455 : decode cX12_reachC 455 = .ok (.iadd, 1) := by decide +kernel
theorem dX12_reachC_456 : decode cX12_reachC 456 = .ok (.putfield 142, 3) := by decide +kernel
theorem dX12_reachC_459 : decode cX12_reachC 459 = .ok (.aload_n 0, 1) := by decide +kernel
theorem dX12_reachC_460 : decode cX12_reachC 460 = .ok (.bipush 23, 2) := by decide +kernel
theorem dX12_reachC_462 : decode cX12_reachC 462 = .ok (.iload_n 2, 1) := by decide +kernel
theorem dX12_reachC_463 : decode cX12_reachC 463 = .ok (.iconst 0, 1) := by decide +kernel
theorem dX12_reachC_464 : decode cX12_reachC 464 = .ok (.iload 4, 2) := by decide +kernel
theorem dX12_reachC_466 : decode cX12_reachC 466 = .ok (.invokevirtual 534, 3) := by decide +kernel
theorem dX12_reachC_469 : decode cX12_reachC 469 = .ok (.aload_n 0, 1) := by decide +kernel
theorem dX12_reachC_470 : decode cX12_reachC 470 = .ok (.bipush 16, 2) := by decide +kernel
theorem dX12_reachC_472 : decode cX12_reachC 472 = .ok (.bipush 17, 2) := by decide +kernel
theorem dX12_reachC_474 : decode cX12_reachC 474 = .ok (.iconst 0, 1) := by decide +kernel
theorem dX12_reachC_475 : decode cX12_reachC 475 = .ok (.iconst 0, 1) := by decide +kernel
theorem dX12_reachC_476 : decode cX12_reachC 476 = .ok (.invokevirtual 534, 3) := by decide +kernel
theorem dX12_reachC_479 : decode cX12_reachC 479 = .ok (.aload_n 0, 1) := by decide +kernel
theorem dX12_reachC_480 : decode cX12_reachC 480 = .ok (.bipush 6, 2) := by decide +kernel
theorem dX12_reachC_482 : decode cX12_reachC 482 = .ok (.bipush 43, 2) := by decide +kernel
theorem dX12_reachC_484 : decode cX12_reachC 484 = .ok (.iload 7, 2) := by decide +kernel
theorem dX12_reachC_486 : decode cX12_reachC 486 = .ok (.iload 6, 2) := by decide +kernel
theorem dX12_reachC_488 : decode cX12_reachC 488 = .ok (.invokevirtual 534, 3) := by decide +kernel
theorem dX12_reachC_491 : decode cX12_reachC 491 = .ok (.aload_n 0, 1) := by decide +kernel
theorem dX12_reachC_492 : decode cX12_reachC 492 = .ok (.bipush 28, 2) := by decide +kernel
theorem dX12_reachC_494 : decode cX12_reachC 494 = .ok (.iconst 0, 1) := by decide +kernel
theorem dX12_reachC_495 : decode cX12_reachC 495 = .ok (.iconst 0, 1) := by decide +kernel
theorem dX12_reachC_496 : decode cX12_reachC 496 = .ok (.iconst 0, 1) := by decide +kernel
theorem dX12_reachC_497 : decode cX12_reachC 497 = .ok (.invokevirtual 534, 3) := by decide +kernel
theorem dX12_reachC_500 : decode cX12_reachC 500 = .ok (.iconst 1, 1) := by decide +kernel
theorem dX12_reachC_501 : decode cX12_reachC 501 = .ok (.ireturn, 1) := by decide +kernel
theorem dX12_reachC_502 : decode cX12_reachC 502 = .ok (.iload 5, 2) := by decide +kernel
theorem dX12_reachC_504 : decode cX12_reachC 504 = .ok (.bipush 60, 2) := by decide +kernel
theorem dX12_reachC_506 : decode cX12_reachC 506 = .ok (.if_icmp .ne 39, 3) := by decide +kernel
theorem dX12_reachC_509 : decode cX12_reachC 509 = .ok (.aload_n 0, 1) := by decide +kernel
theorem dX12_reachC_510 : decode cX12_reachC 510 = .ok (.dup, 1) := by decide +kernel
theorem dX12_reachC_511 : decode cX12_reachC 511 = .ok (.getfield 142, 3) := by decide +kernel
theorem dX12_reachC_514 : decode cX12_reachC 514 = .ok (.iconst 1, 1) := by decide +kernel
theorem dX12_reachC_515 : decode cX12_reachC 515 = .ok (.iadd, 1) := by decide +kernel
theorem dX12_reachC_516 : decode cX12_reachC 516 = .ok (.putfield 142, 3) := by decide +kernel
theorem dX12_reachC_519 : decode cX12_reachC 519 = .ok (.aload_n 0, 1) := by decide +kernel
theorem dX12_reachC_520 : decode cX12_reachC 520 = .ok (.bipush 44, 2) := by decide +kernel
theorem dX12_reachC_522 : decode cX12_reachC 522 = .ok (.iload 7, 2) := by decide +kernel
theorem dX12_reachC_524 : decode cX12_reachC 524 = .ok (.iconst 0, 1) := by decide +kernel
theorem dX12_reachC_525 : decode cX12_reachC 525 = .ok (.invokevirtual 570, 3) := by decide +kernel
theorem dX12_reachC_528 : decode cX12_reachC 528 = .ok (.aload_n 0, 1) := by decide +kernel
theorem dX12_reachC_529 : decode cX12_reachC 529 = .ok (.bipush 23, 2) := by decide +kernel
theorem dX12_reachC_531 : decode cX12_reachC 531 = .ok (.iload_n 2, 1) := by decide +kernel
theorem dX12_reachC_532 : decode cX12_reachC 532 = .ok (.iconst 0, 1) := by decide +kernel
theorem dX12_reachC_533 : decode cX12_reachC 533 = .ok (.iload 4, 2) := by decide +kernel
theorem dX12_reachC_535 : decode cX12_reachC 535 = .ok (.invokevirtual 534, 3) := by decide +kernel
theorem dX12_reachC_538 : decode cX12_reachC 538 = .ok (.aload_n 0, 1) := by decide +kernel
theorem dX12_reachC_539 : decode cX12_reachC 539 = .ok (.bipush 17, 2) := by decide +kernel
theorem dX12_reachC_541 : decode cX12_reachC 541 = .ok (.invokevirtual 549, 3) := by decide +kernel
theorem dX12_reachC_544 : decode cX12_reachC 544 = .ok (.ireturn, 1) := by decide +kernel
theorem dX12_reachC_545 : decode cX12_reachC 545 = .ok (.aload_n 0, 1) := by decide +kernel
theorem dX12_reachC_546 : decode cX12_reachC 546 = .ok (.iload 6, 2) := by decide +kernel
theorem dX12_reachC_548 : decode cX12_reachC 548 = .ok (.invokevirtual 576, 3) := by decide +kernel
theorem dX12_reachC_551 : decode cX12_reachC 551 = .ok (.aload_n 0, 1) := by decide +kernel
theorem dX12_reachC_552 : decode cX12_reachC 552 = .ok (.bipush 6, 2) := by decide +kernel
theorem dX12_reachC_554 : decode cX12_reachC 554 = .ok (.bipush 41, 2) := by decide +kernel
theorem dX12_reachC_556 : decode cX12_reachC 556 = .ok (.iload_n 2, 1) := by decide +kernel
theorem dX12_reachC_557 : decode cX12_reachC 557 = .ok (.iload 4, 2) := by decide +kernel
theorem dX12_reachC_559 : decode cX12_reachC 559 = .ok (.invokevirtual 534, 3) := by decide +kernel
theorem dX12_reachC_562 : decode cX12_reachC 562 = .ok (.aload_n 0, 1) := by decide +kernel
theorem dX12_reachC_563 : decode cX12_reachC 563 = .ok (.bipush 11, 2) := by decide +kernel
theorem dX12_reachC_565 : decode cX12_reachC 565 = .ok (.iconst 0, 1) := by decide +kernel
theorem dX12_reachC_566 : decode cX12_reachC 566 = .ok (.iconst 0, 1) := by decide +kernel
theorem dX12_reachC_567 : decode cX12_reachC 567 = .ok (.iconst 0, 1) := by decide +kernel
theorem dX12_reachC_568 : decode cX12_reachC 568 = .ok (.invokevirtual 534, 3) := by decide +kernel
theorem dX12_reachC_571 : decode cX12_reachC 571 = .ok (.iconst 1, 1) := by decide +kernel
theorem dX12_reachC_572 : decode cX12_reachC 572 = .ok (.ireturn, 1) := by decide +kernel
theorem dX12_reachC_573 : decode cX12_reachC 573 = .ok (.iload_n 1, 1) := by decide +kernel
theorem dX12_reachC_574 : decode cX12_reachC 574 = .ok (.bipush 25, 2) := by decide +kernel
theorem dX12_reachC_576 : decode cX12_reachC 576 = .ok (.if_icmp .ne 79, 3) := by decide +kernel
theorem dX12_reachC_579 : decode cX12_reachC 579 = .ok (.iload 5, 2) := by decide +kernel
theorem dX12_reachC_581 : decode cX12_reachC 581 = .ok (.bipush 14, 2) := by decide +kernel
theorem dX12_reachC_583 : decode cX12_reachC 583 = .ok (.if_icmp .eq 10, 3) := by decide +kernel
theorem dX12_reachC_586 : decode cX12_reachC 586 = .ok (.iload 5, 2) := by decide +kernel
theorem dX12_reachC_588 : decode cX12_reachC 588 = .ok (.bipush 16, 2) := by decide +kernel
theorem dX12_reachC_590 : decode cX12_reachC 590 = .ok (.if_icmp .ne 15, 3) := by decide +kernel
theorem dX12_reachC_593 : decode cX12_reachC 593 = .ok (.aload_n 0, 1) := by decide +kernel
theorem dX12_reachC_594 : decode cX12_reachC 594 = .ok (.bipush 26, 2) := by decide +kernel
theorem dX12_reachC_596 : decode cX12_reachC 596 = .ok (.iconst 1, 1) := by decide +kernel
theorem dX12_reachC_597 : decode cX12_reachC 597 = .ok (.iload_n 3, 1) := by decide +kernel
theorem dX12_reachC_598 : decode cX12_reachC 598 = .ok (.iload 4, 2) := by decide +kernel
theorem dX12_reachC_600 : decode cX12_reachC 600 = .ok (.invokevirtual 534, 3) := by decide +kernel
theorem dX12_reachC_603 : decode cX12_reachC 603 = .ok (.iconst 1, 1) := by decide +kernel
theorem dX12_reachC_604 : decode cX12_reachC 604 = .ok (.ireturn, 1) := by decide +kernel
theorem dX12_reachC_605 : decode cX12_reachC 605 = .ok (.aload_n 0, 1) := by decide +kernel
theorem dX12_reachC_606 : decode cX12_reachC 606 = .ok (.getfield 121, 3) := by decide +kernel
theorem dX12_reachC_609 : decode cX12_reachC 609 = .ok (.aload_n 0, 1) := by decide +kernel
theorem dX12_reachC_610 : decode cX12_reachC 610 = .ok (.getfield 124, 3) := by decide +kernel
theorem dX12_reachC_613 : decode cX12_reachC 613 = .ok (.iconst 1, 1) := by decide +kernel
theorem dX12_reachC_614 : decode cX12_reachC 614 = .ok (.isub, 1) := by decide +kernel
theorem dX12_reachC_615 : decode cX12_reachC 615 = .ok (.iaload, 1) := by decide +kernel
theorem dX12_reachC_616 : decode cX12_reachC 616 = .ok (.istore 8, 2) := by decide +kernel
theorem dX12_reachC_618 : decode cX12_reachC 618 = .ok (.aload_n 0, 1) := by decide +kernel
theorem dX12_reachC_619 : decode cX12_reachC 619 = .ok (.getfield 87, 3) := by decide +kernel
theorem dX12_reachC_622 : decode cX12_reachC 622 = .ok (.iload 8, 2) := by decide +kernel
theorem dX12_reachC_624 : decode cX12_reachC 624 = .ok (.baload, 1) := by decide +kernel
theorem dX12_reachC_625 : decode cX12_reachC 625 = .ok (.bipush 6, 2) := by decide +kernel
theorem dX12_reachC_627 : decode cX12_reachC 627 = .ok (.if_icmp .ne 13, 3) := by decide +kernel
theorem dX12_reachC_630 : decode cX12_reachC 630 = .ok (.aload_n 0, 1) := by decide +kernel
theorem dX12_reachC_631 : decode cX12_reachC 631 = .ok (.getfield 117, 3) := by decide +kernel
theorem dX12_reachC_634 : decode cX12_reachC 634 = .ok (.iload 8, 2) := by decide +kernel
theorem dX12_reachC_636 : decode cX12_reachC 636 = .ok (.baload, 1) := by decide +kernel
theorem dX12_reachC_637 : decode cX12_reachC 637 = .ok (.ifCond .eq 5, 3) := by decide +kernel
theorem dX12_reachC_640 : decode cX12_reachC 640 = .ok (.iconst 0, 1) := by decide +kernel
theorem dX12_reachC_641 : decode cX12_reachC 641 = .ok (.ireturn, 1) := by decide +kernel
theorem dX12_reachC_642 : decode cX12_reachC 642 = .ok (.aload_n 0, 1) := by decide +kernel
theorem dX12_reachC_643 : decode cX12_reachC 643 = .ok (.bipush 21, 2) := by decide +kernel
theorem dX12_reachC_645 : decode cX12_reachC 645 = .ok (.iload_n 3, 1) := by decide +kernel
theorem dX12_reachC_646 : decode cX12_reachC 646 = .ok (.iload 4, 2) := by decide +kernel
theorem dX12_reachC_648 : decode cX12_reachC 648 = .ok (.iconst 0, 1) := by decide +kernel
theorem dX12_reachC_649 : decode cX12_reachC 649 = .ok (.invokevirtual 542, 3) := by decide +kernel
theorem dX12_reachC_652 : decode cX12_reachC 652 = .ok (.pop, 1) := by decide +kernel
theorem dX12_reachC_653 : decode cX12_reachC 653 = .ok (.iconst 1, 1) := by decide +kernel
theorem dX12_reachC_654 : decode cX12_reachC 654 = .ok (.ireturn, 1) := by decide +kernel
theorem dX12_reachC_655 : decode cX12_reachC 655 = .ok (.iload_n 1, 1) := by decide +kernel
theorem dX12_reachC_656 : decode cX12_reachC 656 = .ok (.bipush 26, 2) := by decide +kernel
theorem dX12_reachC_658 : decode cX12_reachC 658 = .ok (.if_icmp .ne 73, 3) := by decide +kernel
theorem dX12_reachC_661 : decode cX12_reachC 661 = .ok (.aload_n 0, 1) := by decide +kernel
theorem dX12_reachC_662 : decode cX12_reachC 662 = .ok (.bipush 14, 2) := by decide +kernel
theorem dX12_reachC_664 : decode cX12_reachC 664 = .ok (.invokevirtual 549, 3) := by decide +kernel
theorem dX12_reachC_667 : decode cX12_reachC 667 = .ok (.ifCond .eq 26, 3) := by decide +kernel
theorem dX12_reachC_670 : decode cX12_reachC 670 = .ok (.aload_n 0, 1) := by decide +kernel
theorem dX12_reachC_671 : decode cX12_reachC 671 = .ok (.bipush 26, 2) := by decide +kernel
theorem dX12_reachC_673 : decode cX12_reachC 673 = .ok (.iload_n 2, 1) := by decide +kernel
theorem dX12_reachC_674 : decode cX12_reachC 674 = .ok (.iconst 1, 1) := by decide +kernel
theorem dX12_reachC_675 : decode cX12_reachC 675 = .ok (.iadd, 1) := by decide +kernel
theorem dX12_reachC_676 : decode cX12_reachC 676 = .ok (.iload_n 3, 1) := by decide +kernel
theorem dX12_reachC_677 : decode cX12_reachC 677 = .ok (.iload 4, 2) := by decide +kernel
theorem dX12_reachC_679 : decode cX12_reachC 679 = .ok (.invokevirtual 534, 3) := by decide +kernel
theorem dX12_reachC_682 : decode cX12_reachC 682 = .ok (.aload_n 0, 1) := by decide +kernel
theorem dX12_reachC_683 : decode cX12_reachC 683 = .ok (.bipush 28, 2) := by decide +kernel
theorem dX12_reachC_685 : decode cX12_reachC 685 = .ok (.iconst 0, 1) := by decide +kernel
theorem dX12_reachC_686 : decode cX12_reachC 686 = .ok (.iconst 0, 1) := by decide +kernel
theorem dX12_reachC_687 : decode cX12_reachC 687 = .ok (.iconst 0, 1) := by decide +kernel
theorem dX12_reachC_688 : decode cX12_reachC 688 = .ok (.invokevirtual 534, 3) := by decide +kernel
theorem dX12_reachC_691 : decode cX12_reachC 691 = .ok (.iconst 1, 1) := by decide +kernel
theorem dX12_reachC_692 : decode cX12_reachC 692 = .ok (.ireturn, 1) := by decide +kernel
theorem dX12_reachC_693 : decode cX12_reachC 693 = .ok (.aload_n 0, 1) := by decide +kernel
theorem dX12_reachC_694 : decode cX12_reachC 694 = .ok (.bipush 16, 2) := by decide +kernel
theorem dX12_reachC_696 : decode cX12_reachC 696 = .ok (.invokevirtual 549, 3) := by decide +kernel
theorem dX12_reachC_699 : decode cX12_reachC 699 = .ok (.ifCond .ne 5, 3) := by decide +kernel
theorem dX12_reachC_702 : decode cX12_reachC 702 = .ok (.iconst 0, 1) := by decide +kernel
theorem dX12_reachC_703 : decode cX12_reachC 703 = .ok (.ireturn, 1) := by decide +kernel
theorem dX12_reachC_704 : decode cX12_reachC 704 = .ok (.aload_n 0, 1) := by decide +kernel
theorem dX12_reachC_705 : decode cX12_reachC 705 = .ok (.bipush 27, 2) := by decide +kernel
theorem dX12_reachC_707 : decode cX12_reachC 707 = .ok (.sipush 8192, 3) := by decide +kernel
theorem dX12_reachC_710 : decode cX12_reachC 710 = .ok (.iload_n 2, 1) := by decide +kernel
theorem dX12_reachC_711 : decode cX12_reachC 711 = .ok (.imul, 1) := by decide +kernel
theorem dX12_reachC_712 : decode cX12_reachC 712 = .ok (.iconst 1, 1) := by decide +kernel
theorem dX12_reachC_713 : decode cX12_reachC 713 = .ok (.iadd, 1) := by decide +kernel
theorem dX12_reachC_714 : decode cX12_reachC 714 = .ok (.iload_n 3, 1) := by decide +kernel
theorem dX12_reachC_715 : decode cX12_reachC 715 = .ok (.iload 4, 2) := by decide +kernel
theorem dX12_reachC_717 : decode cX12_reachC 717 = .ok (.invokevirtual 534, 3) := by decide +kernel
theorem dX12_reachC_720 : decode cX12_reachC 720 = .ok (.aload_n 0, 1) := by decide +kernel
theorem dX12_reachC_721 : decode cX12_reachC 721 = .ok (.bipush 28, 2) := by decide +kernel
theorem dX12_reachC_723 : decode cX12_reachC 723 = .ok (.iconst 0, 1) := by decide +kernel
theorem dX12_reachC_724 : decode cX12_reachC 724 = .ok (.iconst 0, 1) := by decide +kernel
theorem dX12_reachC_725 : decode cX12_reachC 725 = .ok (.iconst 0, 1) := by decide +kernel
theorem dX12_reachC_726 : decode cX12_reachC 726 = .ok (.invokevirtual 534, 3) := by decide +kernel
theorem dX12_reachC_729 : decode cX12_reachC 729 = .ok (.iconst 1, 1) := by decide +kernel
theorem dX12_reachC_730 : decode cX12_reachC 730 = .ok (.ireturn, 1) := by decide +kernel
theorem dX12_reachC_731 : decode cX12_reachC 731 = .ok (.iload_n 1, 1) := by decide +kernel
theorem dX12_reachC_732 : decode cX12_reachC 732 = .ok (.bipush 27, 2) := by decide +kernel
theorem dX12_reachC_734 : decode cX12_reachC 734 = .ok (.if_icmp .ne 70, 3) := by decide +kernel
theorem dX12_reachC_737 : decode cX12_reachC 737 = .ok (.iload_n 2, 1) := by decide +kernel
theorem dX12_reachC_738 : decode cX12_reachC 738 = .ok (.sipush 8192, 3) := by decide +kernel
theorem dX12_reachC_741 : decode cX12_reachC 741 = .ok (.irem, 1) := by decide +kernel
theorem dX12_reachC_742 : decode cX12_reachC 742 = .ok (.iload_n 2, 1) := by decide +kernel
theorem dX12_reachC_743 : decode cX12_reachC 743 = .ok (.sipush 8192, 3) := by decide +kernel
theorem dX12_reachC_746 : decode cX12_reachC 746 = .ok (.idiv, 1) := by decide +kernel
theorem dX12_reachC_747 : decode cX12_reachC 747 = .ok (.if_icmp .ne 23, 3) := by decide +kernel
theorem dX12_reachC_750 : decode cX12_reachC 750 = .ok (.aload_n 0, 1) := by decide +kernel
theorem dX12_reachC_751 : decode cX12_reachC 751 = .ok (.aload_n 0, 1) := by decide +kernel
theorem dX12_reachC_752 : decode cX12_reachC 752 = .ok (.bipush 20, 2) := by decide +kernel
theorem dX12_reachC_754 : decode cX12_reachC 754 = .ok (.iload_n 3, 1) := by decide +kernel
theorem dX12_reachC_755 : decode cX12_reachC 755 = .ok (.iload 4, 2) := by decide +kernel
theorem dX12_reachC_757 : decode cX12_reachC 757 = .ok (.iload_n 2, 1) := by decide +kernel
theorem dX12_reachC_758 : decode cX12_reachC 758 = .ok (.sipush 8192, 3) := by decide +kernel
theorem dX12_reachC_761 : decode cX12_reachC 761 = .ok (.idiv, 1) := by decide +kernel
theorem dX12_reachC_762 : decode cX12_reachC 762 = .ok (.invokevirtual 542, 3) := by decide +kernel
theorem dX12_reachC_765 : decode cX12_reachC 765 = .ok (.invokevirtual 580, 3) := by decide +kernel
theorem dX12_reachC_768 : decode cX12_reachC 768 = .ok (.iconst 1, 1) := by decide +kernel
theorem dX12_reachC_769 : decode cX12_reachC 769 = .ok (.ireturn, 1) := by decide +kernel
theorem dX12_reachC_770 : decode cX12_reachC 770 = .ok (.aload_n 0, 1) := by decide +kernel
theorem dX12_reachC_771 : decode cX12_reachC 771 = .ok (.bipush 14, 2) := by decide +kernel
theorem dX12_reachC_773 : decode cX12_reachC 773 = .ok (.invokevirtual 549, 3) := by decide +kernel
theorem dX12_reachC_776 : decode cX12_reachC 776 = .ok (.ifCond .ne 5, 3) := by decide +kernel
theorem dX12_reachC_779 : decode cX12_reachC 779 = .ok (.iconst 0, 1) := by decide +kernel
theorem dX12_reachC_780 : decode cX12_reachC 780 = .ok (.ireturn, 1) := by decide +kernel
theorem dX12_reachC_781 : decode cX12_reachC 781 = .ok (.aload_n 0, 1) := by decide +kernel
theorem dX12_reachC_782 : decode cX12_reachC 782 = .ok (.bipush 27, 2) := by decide +kernel
theorem dX12_reachC_784 : decode cX12_reachC 784 = .ok (.iload_n 2, 1) := by decide +kernel
theorem dX12_reachC_785 : decode cX12_reachC 785 = .ok (.iconst 1, 1) := by decide +kernel
theorem dX12_reachC_786 : decode cX12_reachC 786 = .ok (.iadd, 1) := by decide +kernel
theorem dX12_reachC_787 : decode cX12_reachC 787 = .ok (.iload_n 3, 1) := by decide +kernel
theorem dX12_reachC_788 : decode cX12_reachC 788 = .ok (.iload 4, 2) := by decide +kernel
theorem dX12_reachC_790 : decode cX12_reachC 790 = .ok (.invokevirtual 534, 3) := by decide +kernel
theorem dX12_reachC_793 : decode cX12_reachC 793 = .ok (.aload_n 0, 1) := by decide +kernel
theorem dX12_reachC_794 : decode cX12_reachC 794 = .ok (.bipush 28, 2) := by decide +kernel
theorem dX12_reachC_796 : decode cX12_reachC 796 = .ok (.iconst 0, 1) := by decide +kernel
theorem dX12_reachC_797 : decode cX12_reachC 797 = .ok (.iconst 0, 1) := by decide +kernel
theorem dX12_reachC_798 : decode cX12_reachC 798 = .ok (.iconst 0, 1) := by decide +kernel
theorem dX12_reachC_799 : decode cX12_reachC 799 = .ok (.invokevirtual 534, 3) := by decide +kernel
theorem dX12_reachC_802 : decode cX12_reachC 802 = .ok (.iconst 1, 1) := by decide +kernel
theorem dX12_reachC_803 : decode cX12_reachC 803 = .ok (.ireturn, 1) := by decide +kernel
theorem dX12_reachC_804 : decode cX12_reachC 804 = .ok (.iconst 0, 1) := by decide +kernel
theorem dX12_reachC_805 : decode cX12_reachC 805 = .ok (.ireturn, 1) := by decide +kernel
def wr_reachC_342 (Q : Int → zS → Prop)  (s0 : zS) (x1 : Int) (x2 : Int) (x3 : Int) (x4 : Int) : Prop :=
  wr_take s0 15 (fun r1 s2 => ((r1 = 0 → wr_shutSection s2  (fun r9 s10 => ((¬ r9 = 0 → ((¬ x1 = 21 → wr_shut s10 28 x3 x4 0 (fun r19 s20 => Q 1 s20)) ∧ (x1 = 21 → wr_shut s10 36 x3 x4 0 (fun r26 s27 => Q 1 s27)))) ∧ (r9 = 0 → Q 0 s10)))) ∧ (¬ r1 = 0 → ((¬ x1 = 21 → wr_goal s2 22 x2 x3 x4 (fun s37 => Q 1 s37)) ∧ (x1 = 21 → wr_goal s2 20 x2 x3 x4 (fun s44 => Q 1 s44))))))
def wr_reachC_82 (Q : Int → zS → Prop)  (s0 : zS) (x2 : Int) (x4 : Int) (x5 : Int) (x7 : Int) : Prop :=
  wr_deeper s0  (fun r1 s2 => ((¬ r1 = 0 → (zR ((zv s2 43) + 1)) ∧ wr_goal (zpv s2 43 ((zv s2 43) + 1)) 12 x2 0 x4 (fun s14 => ((¬ x5 = 68 → ((¬ x5 = 69 → wr_goal s14 6 40 x7 x4 (fun s24 => wr_goal s24 28 0 0 0 (fun s30 => Q 1 s30))) ∧ (x5 = 69 → wr_goal s14 6 39 x7 x4 (fun s37 => wr_goal s37 28 0 0 0 (fun s43 => Q 1 s43))))) ∧ (x5 = 68 → wr_shut s14 38 x7 x4 0 (fun r49 s50 => Q 1 s50))))) ∧ (r1 = 0 → Q 0 s2)))
def wr_reachC (s0 : zS) (a0 : Int) (a1 : Int) (a2 : Int) (a3 : Int) (Q : Int → zS → Prop) : Prop :=
  wr_tk s0  (fun r1 s2 => ((¬ a0 = 11 → ((¬ a0 = 12 → ((¬ a0 = 41 → ((¬ a0 = 18 → ((¬ a0 = 19 → ((¬ a0 = 20 → ((a0 = 21 → wr_reachC_342 Q  s2 a0 a1 a2 a3) ∧ (¬ a0 = 21 → ((¬ a0 = 24 → ((¬ a0 = 22 → ((¬ a0 = 23 → ((¬ a0 = 25 → ((¬ a0 = 26 → ((¬ a0 = 27 → Q 0 s2) ∧ (a0 = 27 → (zR (a1 - zd a1 8192 * 8192)) ∧ ((¬ (a1 - zd a1 8192 * 8192) = (zd a1 8192) → wr_take s2 14 (fun r39 s40 => ((¬ r39 = 0 → (zR (a1 + 1)) ∧ wr_goal s40 27 (a1 + 1) a2 a3 (fun s50 => wr_goal s50 28 0 0 0 (fun s56 => Q 1 s56))) ∧ (r39 = 0 → Q 0 s40)))) ∧ ((a1 - zd a1 8192 * 8192) = (zd a1 8192) → wr_shut s2 20 a2 a3 (zd a1 8192) (fun r63 s64 => wr_pairs s64 r63 (fun s70 => Q 1 s70))))))) ∧ (a0 = 26 → wr_take s2 14 (fun r76 s77 => ((r76 = 0 → wr_take s77 16 (fun r84 s85 => ((¬ r84 = 0 → (zR ((8192 * a1) + 1)) ∧ wr_goal s85 27 ((8192 * a1) + 1) a2 a3 (fun s95 => wr_goal s95 28 0 0 0 (fun s101 => Q 1 s101))) ∧ (r84 = 0 → Q 0 s85)))) ∧ (¬ r76 = 0 → (zR (a1 + 1)) ∧ wr_goal s77 26 (a1 + 1) a2 a3 (fun s111 => wr_goal s111 28 0 0 0 (fun s117 => Q 1 s117)))))))) ∧ (a0 = 25 → ((r1 = 14 → wr_goal s2 26 1 a2 a3 (fun s126 => Q 1 s126)) ∧ (¬ r1 = 14 → ((¬ r1 = 16 → (0 ≤ ((zv s2 37) - 1)) ∧ (((zv s2 37) - 1) < 26000) ∧ (0 ≤ (za s2 36 (Int.toNat ((zv s2 37) - 1)))) ∧ ((za s2 36 (Int.toNat ((zv s2 37) - 1))) < 26000) ∧ ((¬ (za s2 25 (Int.toNat (za s2 36 (Int.toNat ((zv s2 37) - 1))))) = 6 → Q 0 s2) ∧ ((za s2 25 (Int.toNat (za s2 36 (Int.toNat ((zv s2 37) - 1))))) = 6 → (0 ≤ (za s2 36 (Int.toNat ((zv s2 37) - 1)))) ∧ ((za s2 36 (Int.toNat ((zv s2 37) - 1))) < 26000) ∧ (((za s2 35 (Int.toNat (za s2 36 (Int.toNat ((zv s2 37) - 1))))) = 0 → wr_shut s2 21 a2 a3 0 (fun r151 s152 => Q 1 s152)) ∧ (¬ (za s2 35 (Int.toNat (za s2 36 (Int.toNat ((zv s2 37) - 1))))) = 0 → Q 0 s2))))) ∧ (r1 = 16 → wr_goal s2 26 1 a2 a3 (fun s160 => Q 1 s160)))))))) ∧ (a0 = 23 → ((¬ r1 = 59 → ((¬ r1 = 60 → wr_labels s2 (zv s2 37) (fun s171 => wr_goal s171 6 41 a1 a3 (fun s177 => wr_goal s177 11 0 0 0 (fun s183 => Q 1 s183)))) ∧ (r1 = 60 → (zR ((zv s2 43) + 1)) ∧ wr_leaf (zpv s2 43 ((zv s2 43) + 1)) 44 (zv s2 43) 0 (fun s194 => wr_goal s194 23 a1 0 a3 (fun s200 => wr_take s200 17 (fun r205 s206 => (r205 = 0 ∨ r205 = 1) ∧ Q r205 s206)))))) ∧ (r1 = 59 → (zR ((zv s2 43) + 1)) ∧ wr_goal (zpv s2 43 ((zv s2 43) + 1)) 23 a1 0 a3 (fun s219 => wr_goal s219 16 17 0 0 (fun s225 => wr_goal s225 6 43 (zv s2 43) (zv s2 37) (fun s231 => wr_goal s231 28 0 0 0 (fun s237 => Q 1 s237))))))))) ∧ (a0 = 22 → wr_goal s2 24 a1 a2 a3 (fun s244 => wr_goal s244 23 (zv s2 43) 0 (zv s2 37) (fun s250 => Q 1 s250))))) ∧ (a0 = 24 → wr_reachC_342 Q  s2 a0 a1 a2 a3))))) ∧ (a0 = 20 → wr_goal s2 21 a1 a2 a3 (fun s258 => wr_labels s258 (zv s2 37) (fun s264 => wr_goal s264 6 41 (zv s2 43) (zv s2 37) (fun s270 => wr_goal s270 11 0 0 0 (fun s276 => Q 1 s276))))))) ∧ (a0 = 19 → wr_take s2 15 (fun r282 s283 => ((r282 = 0 → wr_shutSection s283  (fun r290 s291 => ((¬ r290 = 0 → wr_shut s291 36 a2 a3 0 (fun r298 s299 => Q 1 s299)) ∧ (r290 = 0 → Q 0 s291)))) ∧ (¬ r282 = 0 → wr_tk s283  (fun r306 s307 => wr_isD s307 r306 (fun r312 s313 => ((r312 = 0 → wr_goal s313 20 a1 a2 a3 (fun s321 => Q 1 s321)) ∧ (¬ r312 = 0 → wr_goal s313 18 a1 a2 a3 (fun s328 => Q 1 s328))))))))))) ∧ (a0 = 18 → wr_goal s2 19 a1 a2 a3 (fun s335 => wr_goal s335 3 0 0 0 (fun s341 => Q 1 s341))))) ∧ (a0 = 41 → wr_take s2 56 (fun r347 s348 => ((¬ r347 = 0 → wr_goal s348 28 0 0 0 (fun s356 => Q 1 s356)) ∧ (r347 = 0 → Q 1 s348)))))) ∧ (a0 = 12 → ((r1 = 68 → wr_reachC_82 Q  s2 a1 a3 r1 (zv s2 43)) ∧ (¬ r1 = 68 → ((r1 = 69 → wr_reachC_82 Q  s2 a1 a3 r1 (zv s2 43)) ∧ (¬ r1 = 69 → ((r1 = 70 → wr_reachC_82 Q  s2 a1 a3 r1 (zv s2 43)) ∧ (¬ r1 = 70 → Q 1 (zpv s2 44 a1)))))))))) ∧ (a0 = 11 → wr_goal s2 12 (zv s2 44) 0 (zv s2 37) (fun s376 => wr_command s376 r1 (zv s2 43) (zv s2 37) (fun r381 s382 => (r381 = 0 ∨ r381 = 1) ∧ Q r381 s382)))))
set_option maxHeartbeats 4000000 in
set_option maxRecDepth 100000 in
theorem rj_reachC_342 {X : gX} {d : gD} {b t : Nat} {T : Nat → Nat} {F0 : gM} (hC : gC RX12 cX12_reachC 9 (some .boolean) "reachC" (gR 3 0 0) d b X) {Q : Int → zS → Prop}   {F : gM} {s0 : zS} {x1 : Int} {x2 : Int} {x3 : Int} {x4 : Int} (Rx1 : zR x1) (Rx2 : zR x2) (Rx3 : zR x3) (Rx4 : zR x4) (hZ : zZ d t T F0 F s0) (hw : wr_reachC_342 Q  s0 x1 x2 x3 x4) : gG X d b (zQi X d b t T F0 Q) F 0 0 342 [some (.ref t), some (.int (zI x1)), some (.int (zI x2)), some (.int (zI x3)), some (.int (zI x4)), none, none, none, none] [] := by
  unfold wr_reachC_342 at hw
  refine g_aload_n hC dX12_reachC_342 rfl ?_
  refine g_bipush (v := zI 15) hC dX12_reachC_343 rfl ?_
  refine zr_callVi (As := [.int (zI 15)]) hC hZ rfl (rm_take X.la d b (by decide) hZ.rf hw) cl_X12_549 rfl rfl (Nat.le_of_ble_eq_true rfl) ⟨Nat.le_of_ble_eq_true rfl, Nat.le_of_ble_eq_true rfl⟩ dX12_reachC_345 (fun r1 s2 F3 R4 hZ5 h6 => ?_)
  refine zr_if_eq (tgt := 374) hC R4 dX12_reachC_348 (by decide) (fun c7 => ?_) (fun c7 => ?_)
  · have h8 := h6.1 c7
    refine g_aload_n hC dX12_reachC_374 rfl ?_
    refine zr_callVi (As := []) hC hZ5 rfl (rm_shutSection X.la d b  hZ5.rf h8) cl_X12_564 rfl rfl (Nat.le_of_ble_eq_true rfl) ⟨Nat.le_of_ble_eq_true rfl, Nat.le_of_ble_eq_true rfl⟩ dX12_reachC_375 (fun r9 s10 F11 R12 hZ13 h14 => ?_)
    refine zr_if_ne (tgt := 383) hC R12 dX12_reachC_378 (by decide) (fun c15 => ?_) (fun c15 => ?_)
    · have h16 := h14.1 c15
      refine g_aload_n hC dX12_reachC_383 rfl ?_
      refine g_iload_n hC dX12_reachC_384 rfl ?_
      refine g_bipush (v := zI 21) hC dX12_reachC_385 rfl ?_
      refine zr_icmp_ne (tgt := 395) hC Rx1 (by decide) dX12_reachC_387 (by decide) (fun c17 => ?_) (fun c17 => ?_)
      · have h18 := h16.1 c17
        refine g_bipush (v := zI 28) hC dX12_reachC_395 rfl ?_
        refine g_iload_n hC dX12_reachC_397 rfl ?_
        refine g_iload hC dX12_reachC_398 rfl ?_
        refine g_iconst (v := zI 0) hC dX12_reachC_400 rfl ?_
        refine zr_callVi (As := [.int (zI 28), .int (zI x3), .int (zI x4), .int (zI 0)]) hC hZ13 rfl (rm_shut X.la d b (by decide) Rx3 Rx4 (by decide) hZ13.rf h18) cl_X12_542 rfl rfl (Nat.le_of_ble_eq_true rfl) ⟨Nat.le_of_ble_eq_true rfl, Nat.le_of_ble_eq_true rfl⟩ dX12_reachC_401 (fun r19 s20 F21 R22 hZ23 h24 => ?_)
        refine g_pop hC dX12_reachC_404 rfl ?_
        refine g_iconst (v := zI 1) hC dX12_reachC_405 rfl ?_
        exact zr_zret hC hZ23 (Or.inr rfl) h24 dX12_reachC_406
      · have h25 := h16.2 c17
        refine g_bipush (v := zI 36) hC dX12_reachC_390 rfl ?_
        refine g_goto (tgt := 397) hC dX12_reachC_392 (by decide) ?_
        refine g_iload_n hC dX12_reachC_397 rfl ?_
        refine g_iload hC dX12_reachC_398 rfl ?_
        refine g_iconst (v := zI 0) hC dX12_reachC_400 rfl ?_
        refine zr_callVi (As := [.int (zI 36), .int (zI x3), .int (zI x4), .int (zI 0)]) hC hZ13 rfl (rm_shut X.la d b (by decide) Rx3 Rx4 (by decide) hZ13.rf h25) cl_X12_542 rfl rfl (Nat.le_of_ble_eq_true rfl) ⟨Nat.le_of_ble_eq_true rfl, Nat.le_of_ble_eq_true rfl⟩ dX12_reachC_401 (fun r26 s27 F28 R29 hZ30 h31 => ?_)
        refine g_pop hC dX12_reachC_404 rfl ?_
        refine g_iconst (v := zI 1) hC dX12_reachC_405 rfl ?_
        exact zr_zret hC hZ30 (Or.inr rfl) h31 dX12_reachC_406
    · have h32 := h14.2 c15
      refine g_iconst (v := zI 0) hC dX12_reachC_381 rfl ?_
      exact zr_zret hC hZ13 (Or.inl rfl) h32 dX12_reachC_382
  · have h33 := h6.2 c7
    refine g_aload_n hC dX12_reachC_351 rfl ?_
    refine g_iload_n hC dX12_reachC_352 rfl ?_
    refine g_bipush (v := zI 21) hC dX12_reachC_353 rfl ?_
    refine zr_icmp_ne (tgt := 363) hC Rx1 (by decide) dX12_reachC_355 (by decide) (fun c34 => ?_) (fun c34 => ?_)
    · have h35 := h33.1 c34
      refine g_bipush (v := zI 22) hC dX12_reachC_363 rfl ?_
      refine g_iload_n hC dX12_reachC_365 rfl ?_
      refine g_iload_n hC dX12_reachC_366 rfl ?_
      refine g_iload hC dX12_reachC_367 rfl ?_
      refine zr_callVv (As := [.int (zI 22), .int (zI x2), .int (zI x3), .int (zI x4)]) hC hZ5 rfl (rm_goal X.la d b (by decide) Rx2 Rx3 Rx4 hZ5.rf h35) cl_X12_534 rfl rfl (Nat.le_of_ble_eq_true rfl) ⟨Nat.le_of_ble_eq_true rfl, Nat.le_of_ble_eq_true rfl⟩ dX12_reachC_369 (fun s37 F38 hZ40 h41 => ?_)
      refine g_iconst (v := zI 1) hC dX12_reachC_372 rfl ?_
      exact zr_zret hC hZ40 (Or.inr rfl) h41 dX12_reachC_373
    · have h42 := h33.2 c34
      refine g_bipush (v := zI 20) hC dX12_reachC_358 rfl ?_
      refine g_goto (tgt := 365) hC dX12_reachC_360 (by decide) ?_
      refine g_iload_n hC dX12_reachC_365 rfl ?_
      refine g_iload_n hC dX12_reachC_366 rfl ?_
      refine g_iload hC dX12_reachC_367 rfl ?_
      refine zr_callVv (As := [.int (zI 20), .int (zI x2), .int (zI x3), .int (zI x4)]) hC hZ5 rfl (rm_goal X.la d b (by decide) Rx2 Rx3 Rx4 hZ5.rf h42) cl_X12_534 rfl rfl (Nat.le_of_ble_eq_true rfl) ⟨Nat.le_of_ble_eq_true rfl, Nat.le_of_ble_eq_true rfl⟩ dX12_reachC_369 (fun s44 F45 hZ47 h48 => ?_)
      refine g_iconst (v := zI 1) hC dX12_reachC_372 rfl ?_
      exact zr_zret hC hZ47 (Or.inr rfl) h48 dX12_reachC_373
set_option maxHeartbeats 4000000 in
set_option maxRecDepth 100000 in
theorem rj_reachC_82 {X : gX} {d : gD} {b t : Nat} {T : Nat → Nat} {F0 : gM} (hC : gC RX12 cX12_reachC 9 (some .boolean) "reachC" (gR 3 0 0) d b X) {Q : Int → zS → Prop}   {F : gM} {s0 : zS} {x2 : Int} {x4 : Int} {x5 : Int} {x7 : Int} (Rx2 : zR x2) (Rx4 : zR x4) (Rx5 : zR x5) (Rx7 : zR x7) (hZ : zZ d t T F0 F s0) (hw : wr_reachC_82 Q  s0 x2 x4 x5 x7) : gG X d b (zQi X d b t T F0 Q) F 0 0 82 [some (.ref t), none, some (.int (zI x2)), none, some (.int (zI x4)), some (.int (zI x5)), none, some (.int (zI x7)), none] [] := by
  unfold wr_reachC_82 at hw
  refine g_aload_n hC dX12_reachC_82 rfl ?_
  refine zr_callVi (As := []) hC hZ rfl (rm_deeper X.la d b  hZ.rf hw) cl_X12_530 rfl rfl (Nat.le_of_ble_eq_true rfl) ⟨Nat.le_of_ble_eq_true rfl, Nat.le_of_ble_eq_true rfl⟩ dX12_reachC_83 (fun r1 s2 F3 R4 hZ5 h6 => ?_)
  refine zr_if_ne (tgt := 91) hC R4 dX12_reachC_86 (by decide) (fun c7 => ?_) (fun c7 => ?_)
  · have h8 := h6.1 c7
    refine g_aload_n hC dX12_reachC_91 rfl ?_
    refine g_dup hC dX12_reachC_92 rfl ?_
    refine zr_get (e := (zv s2 43)) hC hZ5 fl_X12_142 zb_43 (by decide) rfl dX12_reachC_93 ?_
    refine g_iconst (v := zI 1) hC dX12_reachC_96 rfl ?_
    refine zr_iadd hC dX12_reachC_97 ?_
    obtain ⟨o9, h10⟩ := h8
    refine zr_put hC hZ5 fl_X12_142 zb_43 (by decide) o9 dX12_reachC_98 (fun F11 hZ12 => ?_)
    refine g_aload_n hC dX12_reachC_101 rfl ?_
    refine g_bipush (v := zI 12) hC dX12_reachC_102 rfl ?_
    refine g_iload_n hC dX12_reachC_104 rfl ?_
    refine g_iconst (v := zI 0) hC dX12_reachC_105 rfl ?_
    refine g_iload hC dX12_reachC_106 rfl ?_
    refine zr_callVv (As := [.int (zI 12), .int (zI x2), .int (zI 0), .int (zI x4)]) hC hZ12 rfl (rm_goal X.la d b (by decide) Rx2 (by decide) Rx4 hZ12.rf h10) cl_X12_534 rfl rfl (Nat.le_of_ble_eq_true rfl) ⟨Nat.le_of_ble_eq_true rfl, Nat.le_of_ble_eq_true rfl⟩ dX12_reachC_108 (fun s14 F15 hZ17 h18 => ?_)
    refine g_iload hC dX12_reachC_111 rfl ?_
    refine g_bipush (v := zI 68) hC dX12_reachC_113 rfl ?_
    refine zr_icmp_ne (tgt := 132) hC Rx5 (by decide) dX12_reachC_115 (by decide) (fun c19 => ?_) (fun c19 => ?_)
    · have h20 := h18.1 c19
      refine g_aload_n hC dX12_reachC_132 rfl ?_
      refine g_bipush (v := zI 6) hC dX12_reachC_133 rfl ?_
      refine g_iload hC dX12_reachC_135 rfl ?_
      refine g_bipush (v := zI 69) hC dX12_reachC_137 rfl ?_
      refine zr_icmp_ne (tgt := 147) hC Rx5 (by decide) dX12_reachC_139 (by decide) (fun c21 => ?_) (fun c21 => ?_)
      · have h22 := h20.1 c21
        refine g_bipush (v := zI 40) hC dX12_reachC_147 rfl ?_
        refine g_iload hC dX12_reachC_149 rfl ?_
        refine g_iload hC dX12_reachC_151 rfl ?_
        refine zr_callVv (As := [.int (zI 6), .int (zI 40), .int (zI x7), .int (zI x4)]) hC hZ17 rfl (rm_goal X.la d b (by decide) (by decide) Rx7 Rx4 hZ17.rf h22) cl_X12_534 rfl rfl (Nat.le_of_ble_eq_true rfl) ⟨Nat.le_of_ble_eq_true rfl, Nat.le_of_ble_eq_true rfl⟩ dX12_reachC_153 (fun s24 F25 hZ27 h28 => ?_)
        refine g_aload_n hC dX12_reachC_156 rfl ?_
        refine g_bipush (v := zI 28) hC dX12_reachC_157 rfl ?_
        refine g_iconst (v := zI 0) hC dX12_reachC_159 rfl ?_
        refine g_iconst (v := zI 0) hC dX12_reachC_160 rfl ?_
        refine g_iconst (v := zI 0) hC dX12_reachC_161 rfl ?_
        refine zr_callVv (As := [.int (zI 28), .int (zI 0), .int (zI 0), .int (zI 0)]) hC hZ27 rfl (rm_goal X.la d b (by decide) (by decide) (by decide) (by decide) hZ27.rf h28) cl_X12_534 rfl rfl (Nat.le_of_ble_eq_true rfl) ⟨Nat.le_of_ble_eq_true rfl, Nat.le_of_ble_eq_true rfl⟩ dX12_reachC_162 (fun s30 F31 hZ33 h34 => ?_)
        refine g_iconst (v := zI 1) hC dX12_reachC_165 rfl ?_
        exact zr_zret hC hZ33 (Or.inr rfl) h34 dX12_reachC_166
      · have h35 := h20.2 c21
        refine g_bipush (v := zI 39) hC dX12_reachC_142 rfl ?_
        refine g_goto (tgt := 149) hC dX12_reachC_144 (by decide) ?_
        refine g_iload hC dX12_reachC_149 rfl ?_
        refine g_iload hC dX12_reachC_151 rfl ?_
        refine zr_callVv (As := [.int (zI 6), .int (zI 39), .int (zI x7), .int (zI x4)]) hC hZ17 rfl (rm_goal X.la d b (by decide) (by decide) Rx7 Rx4 hZ17.rf h35) cl_X12_534 rfl rfl (Nat.le_of_ble_eq_true rfl) ⟨Nat.le_of_ble_eq_true rfl, Nat.le_of_ble_eq_true rfl⟩ dX12_reachC_153 (fun s37 F38 hZ40 h41 => ?_)
        refine g_aload_n hC dX12_reachC_156 rfl ?_
        refine g_bipush (v := zI 28) hC dX12_reachC_157 rfl ?_
        refine g_iconst (v := zI 0) hC dX12_reachC_159 rfl ?_
        refine g_iconst (v := zI 0) hC dX12_reachC_160 rfl ?_
        refine g_iconst (v := zI 0) hC dX12_reachC_161 rfl ?_
        refine zr_callVv (As := [.int (zI 28), .int (zI 0), .int (zI 0), .int (zI 0)]) hC hZ40 rfl (rm_goal X.la d b (by decide) (by decide) (by decide) (by decide) hZ40.rf h41) cl_X12_534 rfl rfl (Nat.le_of_ble_eq_true rfl) ⟨Nat.le_of_ble_eq_true rfl, Nat.le_of_ble_eq_true rfl⟩ dX12_reachC_162 (fun s43 F44 hZ46 h47 => ?_)
        refine g_iconst (v := zI 1) hC dX12_reachC_165 rfl ?_
        exact zr_zret hC hZ46 (Or.inr rfl) h47 dX12_reachC_166
    · have h48 := h18.2 c19
      refine g_aload_n hC dX12_reachC_118 rfl ?_
      refine g_bipush (v := zI 38) hC dX12_reachC_119 rfl ?_
      refine g_iload hC dX12_reachC_121 rfl ?_
      refine g_iload hC dX12_reachC_123 rfl ?_
      refine g_iconst (v := zI 0) hC dX12_reachC_125 rfl ?_
      refine zr_callVi (As := [.int (zI 38), .int (zI x7), .int (zI x4), .int (zI 0)]) hC hZ17 rfl (rm_shut X.la d b (by decide) Rx7 Rx4 (by decide) hZ17.rf h48) cl_X12_542 rfl rfl (Nat.le_of_ble_eq_true rfl) ⟨Nat.le_of_ble_eq_true rfl, Nat.le_of_ble_eq_true rfl⟩ dX12_reachC_126 (fun r49 s50 F51 R52 hZ53 h54 => ?_)
      refine g_pop hC dX12_reachC_129 rfl ?_
      refine g_iconst (v := zI 1) hC dX12_reachC_130 rfl ?_
      exact zr_zret hC hZ53 (Or.inr rfl) h54 dX12_reachC_131
  · have h55 := h6.2 c7
    refine g_iconst (v := zI 0) hC dX12_reachC_89 rfl ?_
    exact zr_zret hC hZ5 (Or.inl rfl) h55 dX12_reachC_90
set_option maxHeartbeats 4000000 in
set_option maxRecDepth 100000 in
theorem rm_reachC (l : Launch) (d : gD) (b : Nat) {t : Nat} {T : Nat → Nat} {F : gM} {s0 : zS} {a0 : Int} {a1 : Int} {a2 : Int} {a3 : Int} (Ra0 : zR a0) (Ra1 : zR a1) (Ra2 : zR a2) (Ra3 : zR a3) {Q : Int → zS → Prop} (hZ : zZ d t T F F s0) (hw : wr_reachC s0 a0 a1 a2 a3 Q) : gMi l d b yX12_reachC cX12_reachC 9 .boolean 3 0 0 F [.ref t, .int (zI a0), .int (zI a1), .int (zI a2), .int (zI a3)] (zPi d t T F Q) := by
  refine gM_of2 rfl (nL := 9) (Nat.le_of_ble_eq_true rfl) ?_
  intro X hX hC; subst hX
  show gG X d b (zQi X d b t T F Q) F 0 0 0 [some (.ref t), some (.int (zI a0)), some (.int (zI a1)), some (.int (zI a2)), some (.int (zI a3)), none, none, none, none] []
  unfold wr_reachC at hw
  refine g_aload_n hC dX12_reachC_0 rfl ?_
  refine zr_callVi (As := []) hC hZ rfl (rm_tk X.la d b  hZ.rf hw) cl_X12_526 rfl rfl (Nat.le_of_ble_eq_true rfl) ⟨Nat.le_of_ble_eq_true rfl, Nat.le_of_ble_eq_true rfl⟩ dX12_reachC_1 (fun r1 s2 F3 R4 hZ5 h6 => ?_)
  refine g_istore (lv' := [some (.ref t), some (.int (zI a0)), some (.int (zI a1)), some (.int (zI a2)), some (.int (zI a3)), some (.int (zI r1)), none, none, none]) hC dX12_reachC_4 (Nat.le_of_ble_eq_true rfl) rfl rfl ?_
  refine g_aload_n hC dX12_reachC_6 rfl ?_
  refine zr_get (e := (zv s2 37)) hC hZ5 fl_X12_124 zb_37 (by decide) rfl dX12_reachC_7 ?_
  refine g_istore (lv' := [some (.ref t), some (.int (zI a0)), some (.int (zI a1)), some (.int (zI a2)), some (.int (zI a3)), some (.int (zI r1)), some (.int (zI (zv s2 37))), none, none]) hC dX12_reachC_10 (Nat.le_of_ble_eq_true rfl) rfl rfl ?_
  refine g_aload_n hC dX12_reachC_12 rfl ?_
  refine zr_get (e := (zv s2 43)) hC hZ5 fl_X12_142 zb_43 (by decide) rfl dX12_reachC_13 ?_
  refine g_istore (lv' := [some (.ref t), some (.int (zI a0)), some (.int (zI a1)), some (.int (zI a2)), some (.int (zI a3)), some (.int (zI r1)), some (.int (zI (zv s2 37))), some (.int (zI (zv s2 43))), none]) hC dX12_reachC_16 (Nat.le_of_ble_eq_true rfl) rfl rfl ?_
  refine g_iload_n hC dX12_reachC_18 rfl ?_
  refine g_bipush (v := zI 11) hC dX12_reachC_19 rfl ?_
  refine zr_icmp_ne (tgt := 48) hC Ra0 (by decide) dX12_reachC_21 (by decide) (fun c7 => ?_) (fun c7 => ?_)
  · have h8 := h6.1 c7
    refine g_iload_n hC dX12_reachC_48 rfl ?_
    refine g_bipush (v := zI 12) hC dX12_reachC_49 rfl ?_
    refine zr_icmp_ne (tgt := 167) hC Ra0 (by decide) dX12_reachC_51 (by decide) (fun c9 => ?_) (fun c9 => ?_)
    · have h10 := h8.1 c9
      refine g_iload_n hC dX12_reachC_167 rfl ?_
      refine g_bipush (v := zI 41) hC dX12_reachC_168 rfl ?_
      refine zr_icmp_ne (tgt := 195) hC Ra0 (by decide) dX12_reachC_170 (by decide) (fun c11 => ?_) (fun c11 => ?_)
      · have h12 := h10.1 c11
        refine g_iload_n hC dX12_reachC_195 rfl ?_
        refine g_bipush (v := zI 18) hC dX12_reachC_196 rfl ?_
        refine zr_icmp_ne (tgt := 221) hC Ra0 (by decide) dX12_reachC_198 (by decide) (fun c13 => ?_) (fun c13 => ?_)
        · have h14 := h12.1 c13
          refine g_iload_n hC dX12_reachC_221 rfl ?_
          refine g_bipush (v := zI 19) hC dX12_reachC_222 rfl ?_
          refine zr_icmp_ne (tgt := 285) hC Ra0 (by decide) dX12_reachC_224 (by decide) (fun c15 => ?_) (fun c15 => ?_)
          · have h16 := h14.1 c15
            refine g_iload_n hC dX12_reachC_285 rfl ?_
            refine g_bipush (v := zI 20) hC dX12_reachC_286 rfl ?_
            refine zr_icmp_ne (tgt := 330) hC Ra0 (by decide) dX12_reachC_288 (by decide) (fun c17 => ?_) (fun c17 => ?_)
            · have h18 := h16.1 c17
              refine g_iload_n hC dX12_reachC_330 rfl ?_
              refine g_bipush (v := zI 21) hC dX12_reachC_331 rfl ?_
              refine zr_icmp_eq (tgt := 342) hC Ra0 (by decide) dX12_reachC_333 (by decide) (fun c19 => ?_) (fun c19 => ?_)
              · have h20 := h18.1 c19
                refine g_lv (lv' := [some (.ref t), some (.int (zI a0)), some (.int (zI a1)), some (.int (zI a2)), some (.int (zI a3)), none, none, none, none]) ⟨rfl, rfl, rfl, rfl, rfl, trivial⟩ ?_
                exact rj_reachC_342 hC  Ra0 Ra1 Ra2 Ra3 hZ5 h20
              · have h21 := h18.2 c19
                refine g_iload_n hC dX12_reachC_336 rfl ?_
                refine g_bipush (v := zI 24) hC dX12_reachC_337 rfl ?_
                refine zr_icmp_ne (tgt := 407) hC Ra0 (by decide) dX12_reachC_339 (by decide) (fun c22 => ?_) (fun c22 => ?_)
                · have h23 := h21.1 c22
                  refine g_iload_n hC dX12_reachC_407 rfl ?_
                  refine g_bipush (v := zI 22) hC dX12_reachC_408 rfl ?_
                  refine zr_icmp_ne (tgt := 436) hC Ra0 (by decide) dX12_reachC_410 (by decide) (fun c24 => ?_) (fun c24 => ?_)
                  · have h25 := h23.1 c24
                    refine g_iload_n hC dX12_reachC_436 rfl ?_
                    refine g_bipush (v := zI 23) hC dX12_reachC_437 rfl ?_
                    refine zr_icmp_ne (tgt := 573) hC Ra0 (by decide) dX12_reachC_439 (by decide) (fun c26 => ?_) (fun c26 => ?_)
                    · have h27 := h25.1 c26
                      refine g_iload_n hC dX12_reachC_573 rfl ?_
                      refine g_bipush (v := zI 25) hC dX12_reachC_574 rfl ?_
                      refine zr_icmp_ne (tgt := 655) hC Ra0 (by decide) dX12_reachC_576 (by decide) (fun c28 => ?_) (fun c28 => ?_)
                      · have h29 := h27.1 c28
                        refine g_iload_n hC dX12_reachC_655 rfl ?_
                        refine g_bipush (v := zI 26) hC dX12_reachC_656 rfl ?_
                        refine zr_icmp_ne (tgt := 731) hC Ra0 (by decide) dX12_reachC_658 (by decide) (fun c30 => ?_) (fun c30 => ?_)
                        · have h31 := h29.1 c30
                          refine g_iload_n hC dX12_reachC_731 rfl ?_
                          refine g_bipush (v := zI 27) hC dX12_reachC_732 rfl ?_
                          refine zr_icmp_ne (tgt := 804) hC Ra0 (by decide) dX12_reachC_734 (by decide) (fun c32 => ?_) (fun c32 => ?_)
                          · have h33 := h31.1 c32
                            refine g_iconst (v := zI 0) hC dX12_reachC_804 rfl ?_
                            exact zr_zret hC hZ5 (Or.inl rfl) h33 dX12_reachC_805
                          · have h34 := h31.2 c32
                            refine g_iload_n hC dX12_reachC_737 rfl ?_
                            refine g_sipush (v := zI 8192) hC dX12_reachC_738 rfl ?_
                            refine zr_irem hC dX12_reachC_741 (by decide) (by decide) ?_
                            refine g_iload_n hC dX12_reachC_742 rfl ?_
                            refine g_sipush (v := zI 8192) hC dX12_reachC_743 rfl ?_
                            refine zr_idiv hC dX12_reachC_746 (by decide) (by decide) ?_
                            obtain ⟨o35, h36⟩ := h34
                            refine zr_icmp_ne (tgt := 770) hC o35 (zR_t _) dX12_reachC_747 (by decide) (fun c37 => ?_) (fun c37 => ?_)
                            · have h38 := h36.1 c37
                              refine g_aload_n hC dX12_reachC_770 rfl ?_
                              refine g_bipush (v := zI 14) hC dX12_reachC_771 rfl ?_
                              refine zr_callVi (As := [.int (zI 14)]) hC hZ5 rfl (rm_take X.la d b (by decide) hZ5.rf h38) cl_X12_549 rfl rfl (Nat.le_of_ble_eq_true rfl) ⟨Nat.le_of_ble_eq_true rfl, Nat.le_of_ble_eq_true rfl⟩ dX12_reachC_773 (fun r39 s40 F41 R42 hZ43 h44 => ?_)
                              refine zr_if_ne (tgt := 781) hC R42 dX12_reachC_776 (by decide) (fun c45 => ?_) (fun c45 => ?_)
                              · have h46 := h44.1 c45
                                refine g_aload_n hC dX12_reachC_781 rfl ?_
                                refine g_bipush (v := zI 27) hC dX12_reachC_782 rfl ?_
                                refine g_iload_n hC dX12_reachC_784 rfl ?_
                                refine g_iconst (v := zI 1) hC dX12_reachC_785 rfl ?_
                                refine zr_iadd hC dX12_reachC_786 ?_
                                refine g_iload_n hC dX12_reachC_787 rfl ?_
                                refine g_iload hC dX12_reachC_788 rfl ?_
                                obtain ⟨o47, h48⟩ := h46
                                refine zr_callVv (As := [.int (zI 27), .int (zI (a1 + 1)), .int (zI a2), .int (zI a3)]) hC hZ43 rfl (rm_goal X.la d b (by decide) o47 Ra2 Ra3 hZ43.rf h48) cl_X12_534 rfl rfl (Nat.le_of_ble_eq_true rfl) ⟨Nat.le_of_ble_eq_true rfl, Nat.le_of_ble_eq_true rfl⟩ dX12_reachC_790 (fun s50 F51 hZ53 h54 => ?_)
                                refine g_aload_n hC dX12_reachC_793 rfl ?_
                                refine g_bipush (v := zI 28) hC dX12_reachC_794 rfl ?_
                                refine g_iconst (v := zI 0) hC dX12_reachC_796 rfl ?_
                                refine g_iconst (v := zI 0) hC dX12_reachC_797 rfl ?_
                                refine g_iconst (v := zI 0) hC dX12_reachC_798 rfl ?_
                                refine zr_callVv (As := [.int (zI 28), .int (zI 0), .int (zI 0), .int (zI 0)]) hC hZ53 rfl (rm_goal X.la d b (by decide) (by decide) (by decide) (by decide) hZ53.rf h54) cl_X12_534 rfl rfl (Nat.le_of_ble_eq_true rfl) ⟨Nat.le_of_ble_eq_true rfl, Nat.le_of_ble_eq_true rfl⟩ dX12_reachC_799 (fun s56 F57 hZ59 h60 => ?_)
                                refine g_iconst (v := zI 1) hC dX12_reachC_802 rfl ?_
                                exact zr_zret hC hZ59 (Or.inr rfl) h60 dX12_reachC_803
                              · have h61 := h44.2 c45
                                refine g_iconst (v := zI 0) hC dX12_reachC_779 rfl ?_
                                exact zr_zret hC hZ43 (Or.inl rfl) h61 dX12_reachC_780
                            · have h62 := h36.2 c37
                              refine g_aload_n hC dX12_reachC_750 rfl ?_
                              refine g_aload_n hC dX12_reachC_751 rfl ?_
                              refine g_bipush (v := zI 20) hC dX12_reachC_752 rfl ?_
                              refine g_iload_n hC dX12_reachC_754 rfl ?_
                              refine g_iload hC dX12_reachC_755 rfl ?_
                              refine g_iload_n hC dX12_reachC_757 rfl ?_
                              refine g_sipush (v := zI 8192) hC dX12_reachC_758 rfl ?_
                              refine zr_idiv hC dX12_reachC_761 (by decide) (by decide) ?_
                              refine zr_callVi (As := [.int (zI 20), .int (zI a2), .int (zI a3), .int (zI (zd a1 8192))]) hC hZ5 rfl (rm_shut X.la d b (by decide) Ra2 Ra3 (zR_t _) hZ5.rf h62) cl_X12_542 rfl rfl (Nat.le_of_ble_eq_true rfl) ⟨Nat.le_of_ble_eq_true rfl, Nat.le_of_ble_eq_true rfl⟩ dX12_reachC_762 (fun r63 s64 F65 R66 hZ67 h68 => ?_)
                              refine zr_callVv (As := [.int (zI r63)]) hC hZ67 rfl (rm_pairs X.la d b R66 hZ67.rf h68) cl_X12_580 rfl rfl (Nat.le_of_ble_eq_true rfl) ⟨Nat.le_of_ble_eq_true rfl, Nat.le_of_ble_eq_true rfl⟩ dX12_reachC_765 (fun s70 F71 hZ73 h74 => ?_)
                              refine g_iconst (v := zI 1) hC dX12_reachC_768 rfl ?_
                              exact zr_zret hC hZ73 (Or.inr rfl) h74 dX12_reachC_769
                        · have h75 := h29.2 c30
                          refine g_aload_n hC dX12_reachC_661 rfl ?_
                          refine g_bipush (v := zI 14) hC dX12_reachC_662 rfl ?_
                          refine zr_callVi (As := [.int (zI 14)]) hC hZ5 rfl (rm_take X.la d b (by decide) hZ5.rf h75) cl_X12_549 rfl rfl (Nat.le_of_ble_eq_true rfl) ⟨Nat.le_of_ble_eq_true rfl, Nat.le_of_ble_eq_true rfl⟩ dX12_reachC_664 (fun r76 s77 F78 R79 hZ80 h81 => ?_)
                          refine zr_if_eq (tgt := 693) hC R79 dX12_reachC_667 (by decide) (fun c82 => ?_) (fun c82 => ?_)
                          · have h83 := h81.1 c82
                            refine g_aload_n hC dX12_reachC_693 rfl ?_
                            refine g_bipush (v := zI 16) hC dX12_reachC_694 rfl ?_
                            refine zr_callVi (As := [.int (zI 16)]) hC hZ80 rfl (rm_take X.la d b (by decide) hZ80.rf h83) cl_X12_549 rfl rfl (Nat.le_of_ble_eq_true rfl) ⟨Nat.le_of_ble_eq_true rfl, Nat.le_of_ble_eq_true rfl⟩ dX12_reachC_696 (fun r84 s85 F86 R87 hZ88 h89 => ?_)
                            refine zr_if_ne (tgt := 704) hC R87 dX12_reachC_699 (by decide) (fun c90 => ?_) (fun c90 => ?_)
                            · have h91 := h89.1 c90
                              refine g_aload_n hC dX12_reachC_704 rfl ?_
                              refine g_bipush (v := zI 27) hC dX12_reachC_705 rfl ?_
                              refine g_sipush (v := zI 8192) hC dX12_reachC_707 rfl ?_
                              refine g_iload_n hC dX12_reachC_710 rfl ?_
                              refine zr_imul hC dX12_reachC_711 ?_
                              refine g_iconst (v := zI 1) hC dX12_reachC_712 rfl ?_
                              refine zr_iadd hC dX12_reachC_713 ?_
                              refine g_iload_n hC dX12_reachC_714 rfl ?_
                              refine g_iload hC dX12_reachC_715 rfl ?_
                              obtain ⟨o92, h93⟩ := h91
                              refine zr_callVv (As := [.int (zI 27), .int (zI ((8192 * a1) + 1)), .int (zI a2), .int (zI a3)]) hC hZ88 rfl (rm_goal X.la d b (by decide) o92 Ra2 Ra3 hZ88.rf h93) cl_X12_534 rfl rfl (Nat.le_of_ble_eq_true rfl) ⟨Nat.le_of_ble_eq_true rfl, Nat.le_of_ble_eq_true rfl⟩ dX12_reachC_717 (fun s95 F96 hZ98 h99 => ?_)
                              refine g_aload_n hC dX12_reachC_720 rfl ?_
                              refine g_bipush (v := zI 28) hC dX12_reachC_721 rfl ?_
                              refine g_iconst (v := zI 0) hC dX12_reachC_723 rfl ?_
                              refine g_iconst (v := zI 0) hC dX12_reachC_724 rfl ?_
                              refine g_iconst (v := zI 0) hC dX12_reachC_725 rfl ?_
                              refine zr_callVv (As := [.int (zI 28), .int (zI 0), .int (zI 0), .int (zI 0)]) hC hZ98 rfl (rm_goal X.la d b (by decide) (by decide) (by decide) (by decide) hZ98.rf h99) cl_X12_534 rfl rfl (Nat.le_of_ble_eq_true rfl) ⟨Nat.le_of_ble_eq_true rfl, Nat.le_of_ble_eq_true rfl⟩ dX12_reachC_726 (fun s101 F102 hZ104 h105 => ?_)
                              refine g_iconst (v := zI 1) hC dX12_reachC_729 rfl ?_
                              exact zr_zret hC hZ104 (Or.inr rfl) h105 dX12_reachC_730
                            · have h106 := h89.2 c90
                              refine g_iconst (v := zI 0) hC dX12_reachC_702 rfl ?_
                              exact zr_zret hC hZ88 (Or.inl rfl) h106 dX12_reachC_703
                          · have h107 := h81.2 c82
                            refine g_aload_n hC dX12_reachC_670 rfl ?_
                            refine g_bipush (v := zI 26) hC dX12_reachC_671 rfl ?_
                            refine g_iload_n hC dX12_reachC_673 rfl ?_
                            refine g_iconst (v := zI 1) hC dX12_reachC_674 rfl ?_
                            refine zr_iadd hC dX12_reachC_675 ?_
                            refine g_iload_n hC dX12_reachC_676 rfl ?_
                            refine g_iload hC dX12_reachC_677 rfl ?_
                            obtain ⟨o108, h109⟩ := h107
                            refine zr_callVv (As := [.int (zI 26), .int (zI (a1 + 1)), .int (zI a2), .int (zI a3)]) hC hZ80 rfl (rm_goal X.la d b (by decide) o108 Ra2 Ra3 hZ80.rf h109) cl_X12_534 rfl rfl (Nat.le_of_ble_eq_true rfl) ⟨Nat.le_of_ble_eq_true rfl, Nat.le_of_ble_eq_true rfl⟩ dX12_reachC_679 (fun s111 F112 hZ114 h115 => ?_)
                            refine g_aload_n hC dX12_reachC_682 rfl ?_
                            refine g_bipush (v := zI 28) hC dX12_reachC_683 rfl ?_
                            refine g_iconst (v := zI 0) hC dX12_reachC_685 rfl ?_
                            refine g_iconst (v := zI 0) hC dX12_reachC_686 rfl ?_
                            refine g_iconst (v := zI 0) hC dX12_reachC_687 rfl ?_
                            refine zr_callVv (As := [.int (zI 28), .int (zI 0), .int (zI 0), .int (zI 0)]) hC hZ114 rfl (rm_goal X.la d b (by decide) (by decide) (by decide) (by decide) hZ114.rf h115) cl_X12_534 rfl rfl (Nat.le_of_ble_eq_true rfl) ⟨Nat.le_of_ble_eq_true rfl, Nat.le_of_ble_eq_true rfl⟩ dX12_reachC_688 (fun s117 F118 hZ120 h121 => ?_)
                            refine g_iconst (v := zI 1) hC dX12_reachC_691 rfl ?_
                            exact zr_zret hC hZ120 (Or.inr rfl) h121 dX12_reachC_692
                      · have h122 := h27.2 c28
                        refine g_iload hC dX12_reachC_579 rfl ?_
                        refine g_bipush (v := zI 14) hC dX12_reachC_581 rfl ?_
                        refine zr_icmp_eq (tgt := 593) hC R4 (by decide) dX12_reachC_583 (by decide) (fun c123 => ?_) (fun c123 => ?_)
                        · have h124 := h122.1 c123
                          refine g_aload_n hC dX12_reachC_593 rfl ?_
                          refine g_bipush (v := zI 26) hC dX12_reachC_594 rfl ?_
                          refine g_iconst (v := zI 1) hC dX12_reachC_596 rfl ?_
                          refine g_iload_n hC dX12_reachC_597 rfl ?_
                          refine g_iload hC dX12_reachC_598 rfl ?_
                          refine zr_callVv (As := [.int (zI 26), .int (zI 1), .int (zI a2), .int (zI a3)]) hC hZ5 rfl (rm_goal X.la d b (by decide) (by decide) Ra2 Ra3 hZ5.rf h124) cl_X12_534 rfl rfl (Nat.le_of_ble_eq_true rfl) ⟨Nat.le_of_ble_eq_true rfl, Nat.le_of_ble_eq_true rfl⟩ dX12_reachC_600 (fun s126 F127 hZ129 h130 => ?_)
                          refine g_iconst (v := zI 1) hC dX12_reachC_603 rfl ?_
                          exact zr_zret hC hZ129 (Or.inr rfl) h130 dX12_reachC_604
                        · have h131 := h122.2 c123
                          refine g_iload hC dX12_reachC_586 rfl ?_
                          refine g_bipush (v := zI 16) hC dX12_reachC_588 rfl ?_
                          refine zr_icmp_ne (tgt := 605) hC R4 (by decide) dX12_reachC_590 (by decide) (fun c132 => ?_) (fun c132 => ?_)
                          · have h133 := h131.1 c132
                            refine g_aload_n hC dX12_reachC_605 rfl ?_
                            refine zr_geta hC hZ5 fl_X12_121 zb_36 (by decide) dX12_reachC_606 ?_
                            refine g_aload_n hC dX12_reachC_609 rfl ?_
                            refine zr_get (e := (zv s2 37)) hC hZ5 fl_X12_124 zb_37 (by decide) rfl dX12_reachC_610 ?_
                            refine g_iconst (v := zI 1) hC dX12_reachC_613 rfl ?_
                            refine zr_isub hC dX12_reachC_614 ?_
                            obtain ⟨o134, h135⟩ := h133
                            obtain ⟨o136, h137⟩ := h135
                            refine zr_iald (v := (za s2 36 (Int.toNat ((zv s2 37) - 1)))) hC hZ5 zk_36 zb_36 zn_36 (by decide) o134 o136 rfl dX12_reachC_615 ?_
                            refine g_istore (lv' := [some (.ref t), some (.int (zI a0)), some (.int (zI a1)), some (.int (zI a2)), some (.int (zI a3)), some (.int (zI r1)), some (.int (zI (zv s2 37))), some (.int (zI (zv s2 43))), some (.int (zI (za s2 36 (Int.toNat ((zv s2 37) - 1)))))]) hC dX12_reachC_616 (Nat.le_of_ble_eq_true rfl) rfl rfl ?_
                            refine g_aload_n hC dX12_reachC_618 rfl ?_
                            refine zr_geta hC hZ5 fl_X12_87 zb_25 (by decide) dX12_reachC_619 ?_
                            refine g_iload hC dX12_reachC_622 rfl ?_
                            obtain ⟨o138, h139⟩ := h137
                            obtain ⟨o140, h141⟩ := h139
                            refine zr_bald (v := (za s2 25 (Int.toNat (za s2 36 (Int.toNat ((zv s2 37) - 1)))))) hC hZ5 zk_25 zb_25 zn_25 (by decide) o138 o140 rfl dX12_reachC_624 ?_
                            refine g_bipush (v := zI 6) hC dX12_reachC_625 rfl ?_
                            refine zr_icmp_ne (tgt := 640) hC (hZ5.ra 25 _) (by decide) dX12_reachC_627 (by decide) (fun c142 => ?_) (fun c142 => ?_)
                            · have h143 := h141.1 c142
                              refine g_iconst (v := zI 0) hC dX12_reachC_640 rfl ?_
                              exact zr_zret hC hZ5 (Or.inl rfl) h143 dX12_reachC_641
                            · have h144 := h141.2 c142
                              refine g_aload_n hC dX12_reachC_630 rfl ?_
                              refine zr_geta hC hZ5 fl_X12_117 zb_35 (by decide) dX12_reachC_631 ?_
                              refine g_iload hC dX12_reachC_634 rfl ?_
                              obtain ⟨o145, h146⟩ := h144
                              obtain ⟨o147, h148⟩ := h146
                              refine zr_zald (v := (za s2 35 (Int.toNat (za s2 36 (Int.toNat ((zv s2 37) - 1)))))) hC hZ5 zk_35 zb_35 zn_35 (by decide) o145 o147 rfl dX12_reachC_636 ?_
                              refine zr_if_eq (tgt := 642) hC (hZ5.ra 35 _) dX12_reachC_637 (by decide) (fun c149 => ?_) (fun c149 => ?_)
                              · have h150 := h148.1 c149
                                refine g_aload_n hC dX12_reachC_642 rfl ?_
                                refine g_bipush (v := zI 21) hC dX12_reachC_643 rfl ?_
                                refine g_iload_n hC dX12_reachC_645 rfl ?_
                                refine g_iload hC dX12_reachC_646 rfl ?_
                                refine g_iconst (v := zI 0) hC dX12_reachC_648 rfl ?_
                                refine zr_callVi (As := [.int (zI 21), .int (zI a2), .int (zI a3), .int (zI 0)]) hC hZ5 rfl (rm_shut X.la d b (by decide) Ra2 Ra3 (by decide) hZ5.rf h150) cl_X12_542 rfl rfl (Nat.le_of_ble_eq_true rfl) ⟨Nat.le_of_ble_eq_true rfl, Nat.le_of_ble_eq_true rfl⟩ dX12_reachC_649 (fun r151 s152 F153 R154 hZ155 h156 => ?_)
                                refine g_pop hC dX12_reachC_652 rfl ?_
                                refine g_iconst (v := zI 1) hC dX12_reachC_653 rfl ?_
                                exact zr_zret hC hZ155 (Or.inr rfl) h156 dX12_reachC_654
                              · have h157 := h148.2 c149
                                refine g_iconst (v := zI 0) hC dX12_reachC_640 rfl ?_
                                exact zr_zret hC hZ5 (Or.inl rfl) h157 dX12_reachC_641
                          · have h158 := h131.2 c132
                            refine g_aload_n hC dX12_reachC_593 rfl ?_
                            refine g_bipush (v := zI 26) hC dX12_reachC_594 rfl ?_
                            refine g_iconst (v := zI 1) hC dX12_reachC_596 rfl ?_
                            refine g_iload_n hC dX12_reachC_597 rfl ?_
                            refine g_iload hC dX12_reachC_598 rfl ?_
                            refine zr_callVv (As := [.int (zI 26), .int (zI 1), .int (zI a2), .int (zI a3)]) hC hZ5 rfl (rm_goal X.la d b (by decide) (by decide) Ra2 Ra3 hZ5.rf h158) cl_X12_534 rfl rfl (Nat.le_of_ble_eq_true rfl) ⟨Nat.le_of_ble_eq_true rfl, Nat.le_of_ble_eq_true rfl⟩ dX12_reachC_600 (fun s160 F161 hZ163 h164 => ?_)
                            refine g_iconst (v := zI 1) hC dX12_reachC_603 rfl ?_
                            exact zr_zret hC hZ163 (Or.inr rfl) h164 dX12_reachC_604
                    · have h165 := h25.2 c26
                      refine g_iload hC dX12_reachC_442 rfl ?_
                      refine g_bipush (v := zI 59) hC dX12_reachC_444 rfl ?_
                      refine zr_icmp_ne (tgt := 502) hC R4 (by decide) dX12_reachC_446 (by decide) (fun c166 => ?_) (fun c166 => ?_)
                      · have h167 := h165.1 c166
                        refine g_iload hC dX12_reachC_502 rfl ?_
                        refine g_bipush (v := zI 60) hC dX12_reachC_504 rfl ?_
                        refine zr_icmp_ne (tgt := 545) hC R4 (by decide) dX12_reachC_506 (by decide) (fun c168 => ?_) (fun c168 => ?_)
                        · have h169 := h167.1 c168
                          refine g_aload_n hC dX12_reachC_545 rfl ?_
                          refine g_iload hC dX12_reachC_546 rfl ?_
                          refine zr_callVv (As := [.int (zI (zv s2 37))]) hC hZ5 rfl (rm_labels X.la d b (hZ5.rv 37) hZ5.rf h169) cl_X12_576 rfl rfl (Nat.le_of_ble_eq_true rfl) ⟨Nat.le_of_ble_eq_true rfl, Nat.le_of_ble_eq_true rfl⟩ dX12_reachC_548 (fun s171 F172 hZ174 h175 => ?_)
                          refine g_aload_n hC dX12_reachC_551 rfl ?_
                          refine g_bipush (v := zI 6) hC dX12_reachC_552 rfl ?_
                          refine g_bipush (v := zI 41) hC dX12_reachC_554 rfl ?_
                          refine g_iload_n hC dX12_reachC_556 rfl ?_
                          refine g_iload hC dX12_reachC_557 rfl ?_
                          refine zr_callVv (As := [.int (zI 6), .int (zI 41), .int (zI a1), .int (zI a3)]) hC hZ174 rfl (rm_goal X.la d b (by decide) (by decide) Ra1 Ra3 hZ174.rf h175) cl_X12_534 rfl rfl (Nat.le_of_ble_eq_true rfl) ⟨Nat.le_of_ble_eq_true rfl, Nat.le_of_ble_eq_true rfl⟩ dX12_reachC_559 (fun s177 F178 hZ180 h181 => ?_)
                          refine g_aload_n hC dX12_reachC_562 rfl ?_
                          refine g_bipush (v := zI 11) hC dX12_reachC_563 rfl ?_
                          refine g_iconst (v := zI 0) hC dX12_reachC_565 rfl ?_
                          refine g_iconst (v := zI 0) hC dX12_reachC_566 rfl ?_
                          refine g_iconst (v := zI 0) hC dX12_reachC_567 rfl ?_
                          refine zr_callVv (As := [.int (zI 11), .int (zI 0), .int (zI 0), .int (zI 0)]) hC hZ180 rfl (rm_goal X.la d b (by decide) (by decide) (by decide) (by decide) hZ180.rf h181) cl_X12_534 rfl rfl (Nat.le_of_ble_eq_true rfl) ⟨Nat.le_of_ble_eq_true rfl, Nat.le_of_ble_eq_true rfl⟩ dX12_reachC_568 (fun s183 F184 hZ186 h187 => ?_)
                          refine g_iconst (v := zI 1) hC dX12_reachC_571 rfl ?_
                          exact zr_zret hC hZ186 (Or.inr rfl) h187 dX12_reachC_572
                        · have h188 := h167.2 c168
                          refine g_aload_n hC dX12_reachC_509 rfl ?_
                          refine g_dup hC dX12_reachC_510 rfl ?_
                          refine zr_get (e := (zv s2 43)) hC hZ5 fl_X12_142 zb_43 (by decide) rfl dX12_reachC_511 ?_
                          refine g_iconst (v := zI 1) hC dX12_reachC_514 rfl ?_
                          refine zr_iadd hC dX12_reachC_515 ?_
                          obtain ⟨o189, h190⟩ := h188
                          refine zr_put hC hZ5 fl_X12_142 zb_43 (by decide) o189 dX12_reachC_516 (fun F191 hZ192 => ?_)
                          refine g_aload_n hC dX12_reachC_519 rfl ?_
                          refine g_bipush (v := zI 44) hC dX12_reachC_520 rfl ?_
                          refine g_iload hC dX12_reachC_522 rfl ?_
                          refine g_iconst (v := zI 0) hC dX12_reachC_524 rfl ?_
                          refine zr_callVv (As := [.int (zI 44), .int (zI (zv s2 43)), .int (zI 0)]) hC hZ192 rfl (rm_leaf X.la d b (by decide) (hZ5.rv 43) (by decide) hZ192.rf h190) cl_X12_570 rfl rfl (Nat.le_of_ble_eq_true rfl) ⟨Nat.le_of_ble_eq_true rfl, Nat.le_of_ble_eq_true rfl⟩ dX12_reachC_525 (fun s194 F195 hZ197 h198 => ?_)
                          refine g_aload_n hC dX12_reachC_528 rfl ?_
                          refine g_bipush (v := zI 23) hC dX12_reachC_529 rfl ?_
                          refine g_iload_n hC dX12_reachC_531 rfl ?_
                          refine g_iconst (v := zI 0) hC dX12_reachC_532 rfl ?_
                          refine g_iload hC dX12_reachC_533 rfl ?_
                          refine zr_callVv (As := [.int (zI 23), .int (zI a1), .int (zI 0), .int (zI a3)]) hC hZ197 rfl (rm_goal X.la d b (by decide) Ra1 (by decide) Ra3 hZ197.rf h198) cl_X12_534 rfl rfl (Nat.le_of_ble_eq_true rfl) ⟨Nat.le_of_ble_eq_true rfl, Nat.le_of_ble_eq_true rfl⟩ dX12_reachC_535 (fun s200 F201 hZ203 h204 => ?_)
                          refine g_aload_n hC dX12_reachC_538 rfl ?_
                          refine g_bipush (v := zI 17) hC dX12_reachC_539 rfl ?_
                          refine zr_callVi (As := [.int (zI 17)]) hC hZ203 rfl (rm_take X.la d b (by decide) hZ203.rf h204) cl_X12_549 rfl rfl (Nat.le_of_ble_eq_true rfl) ⟨Nat.le_of_ble_eq_true rfl, Nat.le_of_ble_eq_true rfl⟩ dX12_reachC_541 (fun r205 s206 F207 R208 hZ209 h210 => ?_)
                          obtain ⟨o211, h212⟩ := h210
                          exact zr_zret hC hZ209 o211 h212 dX12_reachC_544
                      · have h213 := h165.2 c166
                        refine g_aload_n hC dX12_reachC_449 rfl ?_
                        refine g_dup hC dX12_reachC_450 rfl ?_
                        refine zr_get (e := (zv s2 43)) hC hZ5 fl_X12_142 zb_43 (by decide) rfl dX12_reachC_451 ?_
                        refine g_iconst (v := zI 1) hC dX12_reachC_454 rfl ?_
                        refine zr_iadd hC dX12_reachC_455 ?_
                        obtain ⟨o214, h215⟩ := h213
                        refine zr_put hC hZ5 fl_X12_142 zb_43 (by decide) o214 dX12_reachC_456 (fun F216 hZ217 => ?_)
                        refine g_aload_n hC dX12_reachC_459 rfl ?_
                        refine g_bipush (v := zI 23) hC dX12_reachC_460 rfl ?_
                        refine g_iload_n hC dX12_reachC_462 rfl ?_
                        refine g_iconst (v := zI 0) hC dX12_reachC_463 rfl ?_
                        refine g_iload hC dX12_reachC_464 rfl ?_
                        refine zr_callVv (As := [.int (zI 23), .int (zI a1), .int (zI 0), .int (zI a3)]) hC hZ217 rfl (rm_goal X.la d b (by decide) Ra1 (by decide) Ra3 hZ217.rf h215) cl_X12_534 rfl rfl (Nat.le_of_ble_eq_true rfl) ⟨Nat.le_of_ble_eq_true rfl, Nat.le_of_ble_eq_true rfl⟩ dX12_reachC_466 (fun s219 F220 hZ222 h223 => ?_)
                        refine g_aload_n hC dX12_reachC_469 rfl ?_
                        refine g_bipush (v := zI 16) hC dX12_reachC_470 rfl ?_
                        refine g_bipush (v := zI 17) hC dX12_reachC_472 rfl ?_
                        refine g_iconst (v := zI 0) hC dX12_reachC_474 rfl ?_
                        refine g_iconst (v := zI 0) hC dX12_reachC_475 rfl ?_
                        refine zr_callVv (As := [.int (zI 16), .int (zI 17), .int (zI 0), .int (zI 0)]) hC hZ222 rfl (rm_goal X.la d b (by decide) (by decide) (by decide) (by decide) hZ222.rf h223) cl_X12_534 rfl rfl (Nat.le_of_ble_eq_true rfl) ⟨Nat.le_of_ble_eq_true rfl, Nat.le_of_ble_eq_true rfl⟩ dX12_reachC_476 (fun s225 F226 hZ228 h229 => ?_)
                        refine g_aload_n hC dX12_reachC_479 rfl ?_
                        refine g_bipush (v := zI 6) hC dX12_reachC_480 rfl ?_
                        refine g_bipush (v := zI 43) hC dX12_reachC_482 rfl ?_
                        refine g_iload hC dX12_reachC_484 rfl ?_
                        refine g_iload hC dX12_reachC_486 rfl ?_
                        refine zr_callVv (As := [.int (zI 6), .int (zI 43), .int (zI (zv s2 43)), .int (zI (zv s2 37))]) hC hZ228 rfl (rm_goal X.la d b (by decide) (by decide) (hZ5.rv 43) (hZ5.rv 37) hZ228.rf h229) cl_X12_534 rfl rfl (Nat.le_of_ble_eq_true rfl) ⟨Nat.le_of_ble_eq_true rfl, Nat.le_of_ble_eq_true rfl⟩ dX12_reachC_488 (fun s231 F232 hZ234 h235 => ?_)
                        refine g_aload_n hC dX12_reachC_491 rfl ?_
                        refine g_bipush (v := zI 28) hC dX12_reachC_492 rfl ?_
                        refine g_iconst (v := zI 0) hC dX12_reachC_494 rfl ?_
                        refine g_iconst (v := zI 0) hC dX12_reachC_495 rfl ?_
                        refine g_iconst (v := zI 0) hC dX12_reachC_496 rfl ?_
                        refine zr_callVv (As := [.int (zI 28), .int (zI 0), .int (zI 0), .int (zI 0)]) hC hZ234 rfl (rm_goal X.la d b (by decide) (by decide) (by decide) (by decide) hZ234.rf h235) cl_X12_534 rfl rfl (Nat.le_of_ble_eq_true rfl) ⟨Nat.le_of_ble_eq_true rfl, Nat.le_of_ble_eq_true rfl⟩ dX12_reachC_497 (fun s237 F238 hZ240 h241 => ?_)
                        refine g_iconst (v := zI 1) hC dX12_reachC_500 rfl ?_
                        exact zr_zret hC hZ240 (Or.inr rfl) h241 dX12_reachC_501
                  · have h242 := h23.2 c24
                    refine g_aload_n hC dX12_reachC_413 rfl ?_
                    refine g_bipush (v := zI 24) hC dX12_reachC_414 rfl ?_
                    refine g_iload_n hC dX12_reachC_416 rfl ?_
                    refine g_iload_n hC dX12_reachC_417 rfl ?_
                    refine g_iload hC dX12_reachC_418 rfl ?_
                    refine zr_callVv (As := [.int (zI 24), .int (zI a1), .int (zI a2), .int (zI a3)]) hC hZ5 rfl (rm_goal X.la d b (by decide) Ra1 Ra2 Ra3 hZ5.rf h242) cl_X12_534 rfl rfl (Nat.le_of_ble_eq_true rfl) ⟨Nat.le_of_ble_eq_true rfl, Nat.le_of_ble_eq_true rfl⟩ dX12_reachC_420 (fun s244 F245 hZ247 h248 => ?_)
                    refine g_aload_n hC dX12_reachC_423 rfl ?_
                    refine g_bipush (v := zI 23) hC dX12_reachC_424 rfl ?_
                    refine g_iload hC dX12_reachC_426 rfl ?_
                    refine g_iconst (v := zI 0) hC dX12_reachC_428 rfl ?_
                    refine g_iload hC dX12_reachC_429 rfl ?_
                    refine zr_callVv (As := [.int (zI 23), .int (zI (zv s2 43)), .int (zI 0), .int (zI (zv s2 37))]) hC hZ247 rfl (rm_goal X.la d b (by decide) (hZ5.rv 43) (by decide) (hZ5.rv 37) hZ247.rf h248) cl_X12_534 rfl rfl (Nat.le_of_ble_eq_true rfl) ⟨Nat.le_of_ble_eq_true rfl, Nat.le_of_ble_eq_true rfl⟩ dX12_reachC_431 (fun s250 F251 hZ253 h254 => ?_)
                    refine g_iconst (v := zI 1) hC dX12_reachC_434 rfl ?_
                    exact zr_zret hC hZ253 (Or.inr rfl) h254 dX12_reachC_435
                · have h255 := h21.2 c22
                  refine g_lv (lv' := [some (.ref t), some (.int (zI a0)), some (.int (zI a1)), some (.int (zI a2)), some (.int (zI a3)), none, none, none, none]) ⟨rfl, rfl, rfl, rfl, rfl, trivial⟩ ?_
                  exact rj_reachC_342 hC  Ra0 Ra1 Ra2 Ra3 hZ5 h255
            · have h256 := h16.2 c17
              refine g_aload_n hC dX12_reachC_291 rfl ?_
              refine g_bipush (v := zI 21) hC dX12_reachC_292 rfl ?_
              refine g_iload_n hC dX12_reachC_294 rfl ?_
              refine g_iload_n hC dX12_reachC_295 rfl ?_
              refine g_iload hC dX12_reachC_296 rfl ?_
              refine zr_callVv (As := [.int (zI 21), .int (zI a1), .int (zI a2), .int (zI a3)]) hC hZ5 rfl (rm_goal X.la d b (by decide) Ra1 Ra2 Ra3 hZ5.rf h256) cl_X12_534 rfl rfl (Nat.le_of_ble_eq_true rfl) ⟨Nat.le_of_ble_eq_true rfl, Nat.le_of_ble_eq_true rfl⟩ dX12_reachC_298 (fun s258 F259 hZ261 h262 => ?_)
              refine g_aload_n hC dX12_reachC_301 rfl ?_
              refine g_iload hC dX12_reachC_302 rfl ?_
              refine zr_callVv (As := [.int (zI (zv s2 37))]) hC hZ261 rfl (rm_labels X.la d b (hZ5.rv 37) hZ261.rf h262) cl_X12_576 rfl rfl (Nat.le_of_ble_eq_true rfl) ⟨Nat.le_of_ble_eq_true rfl, Nat.le_of_ble_eq_true rfl⟩ dX12_reachC_304 (fun s264 F265 hZ267 h268 => ?_)
              refine g_aload_n hC dX12_reachC_307 rfl ?_
              refine g_bipush (v := zI 6) hC dX12_reachC_308 rfl ?_
              refine g_bipush (v := zI 41) hC dX12_reachC_310 rfl ?_
              refine g_iload hC dX12_reachC_312 rfl ?_
              refine g_iload hC dX12_reachC_314 rfl ?_
              refine zr_callVv (As := [.int (zI 6), .int (zI 41), .int (zI (zv s2 43)), .int (zI (zv s2 37))]) hC hZ267 rfl (rm_goal X.la d b (by decide) (by decide) (hZ5.rv 43) (hZ5.rv 37) hZ267.rf h268) cl_X12_534 rfl rfl (Nat.le_of_ble_eq_true rfl) ⟨Nat.le_of_ble_eq_true rfl, Nat.le_of_ble_eq_true rfl⟩ dX12_reachC_316 (fun s270 F271 hZ273 h274 => ?_)
              refine g_aload_n hC dX12_reachC_319 rfl ?_
              refine g_bipush (v := zI 11) hC dX12_reachC_320 rfl ?_
              refine g_iconst (v := zI 0) hC dX12_reachC_322 rfl ?_
              refine g_iconst (v := zI 0) hC dX12_reachC_323 rfl ?_
              refine g_iconst (v := zI 0) hC dX12_reachC_324 rfl ?_
              refine zr_callVv (As := [.int (zI 11), .int (zI 0), .int (zI 0), .int (zI 0)]) hC hZ273 rfl (rm_goal X.la d b (by decide) (by decide) (by decide) (by decide) hZ273.rf h274) cl_X12_534 rfl rfl (Nat.le_of_ble_eq_true rfl) ⟨Nat.le_of_ble_eq_true rfl, Nat.le_of_ble_eq_true rfl⟩ dX12_reachC_325 (fun s276 F277 hZ279 h280 => ?_)
              refine g_iconst (v := zI 1) hC dX12_reachC_328 rfl ?_
              exact zr_zret hC hZ279 (Or.inr rfl) h280 dX12_reachC_329
          · have h281 := h14.2 c15
            refine g_aload_n hC dX12_reachC_227 rfl ?_
            refine g_bipush (v := zI 15) hC dX12_reachC_228 rfl ?_
            refine zr_callVi (As := [.int (zI 15)]) hC hZ5 rfl (rm_take X.la d b (by decide) hZ5.rf h281) cl_X12_549 rfl rfl (Nat.le_of_ble_eq_true rfl) ⟨Nat.le_of_ble_eq_true rfl, Nat.le_of_ble_eq_true rfl⟩ dX12_reachC_230 (fun r282 s283 F284 R285 hZ286 h287 => ?_)
            refine zr_if_eq (tgt := 263) hC R285 dX12_reachC_233 (by decide) (fun c288 => ?_) (fun c288 => ?_)
            · have h289 := h287.1 c288
              refine g_aload_n hC dX12_reachC_263 rfl ?_
              refine zr_callVi (As := []) hC hZ286 rfl (rm_shutSection X.la d b  hZ286.rf h289) cl_X12_564 rfl rfl (Nat.le_of_ble_eq_true rfl) ⟨Nat.le_of_ble_eq_true rfl, Nat.le_of_ble_eq_true rfl⟩ dX12_reachC_264 (fun r290 s291 F292 R293 hZ294 h295 => ?_)
              refine zr_if_ne (tgt := 272) hC R293 dX12_reachC_267 (by decide) (fun c296 => ?_) (fun c296 => ?_)
              · have h297 := h295.1 c296
                refine g_aload_n hC dX12_reachC_272 rfl ?_
                refine g_bipush (v := zI 36) hC dX12_reachC_273 rfl ?_
                refine g_iload_n hC dX12_reachC_275 rfl ?_
                refine g_iload hC dX12_reachC_276 rfl ?_
                refine g_iconst (v := zI 0) hC dX12_reachC_278 rfl ?_
                refine zr_callVi (As := [.int (zI 36), .int (zI a2), .int (zI a3), .int (zI 0)]) hC hZ294 rfl (rm_shut X.la d b (by decide) Ra2 Ra3 (by decide) hZ294.rf h297) cl_X12_542 rfl rfl (Nat.le_of_ble_eq_true rfl) ⟨Nat.le_of_ble_eq_true rfl, Nat.le_of_ble_eq_true rfl⟩ dX12_reachC_279 (fun r298 s299 F300 R301 hZ302 h303 => ?_)
                refine g_pop hC dX12_reachC_282 rfl ?_
                refine g_iconst (v := zI 1) hC dX12_reachC_283 rfl ?_
                exact zr_zret hC hZ302 (Or.inr rfl) h303 dX12_reachC_284
              · have h304 := h295.2 c296
                refine g_iconst (v := zI 0) hC dX12_reachC_270 rfl ?_
                exact zr_zret hC hZ294 (Or.inl rfl) h304 dX12_reachC_271
            · have h305 := h287.2 c288
              refine g_aload_n hC dX12_reachC_236 rfl ?_
              refine g_aload_n hC dX12_reachC_237 rfl ?_
              refine zr_callVi (As := []) hC hZ286 rfl (rm_tk X.la d b  hZ286.rf h305) cl_X12_526 rfl rfl (Nat.le_of_ble_eq_true rfl) ⟨Nat.le_of_ble_eq_true rfl, Nat.le_of_ble_eq_true rfl⟩ dX12_reachC_238 (fun r306 s307 F308 R309 hZ310 h311 => ?_)
              refine zr_callSi (As := [.int (zI r306)]) hC hZ310 (rm_isD X.la d b R309 hZ310.rf h311) cl_X12_561 rfl rfl (Nat.le_of_ble_eq_true rfl) ⟨Nat.le_of_ble_eq_true rfl, Nat.le_of_ble_eq_true rfl⟩ dX12_reachC_241 (fun r312 s313 F314 R315 hZ316 h317 => ?_)
              refine zr_if_eq (tgt := 252) hC R315 dX12_reachC_244 (by decide) (fun c318 => ?_) (fun c318 => ?_)
              · have h319 := h317.1 c318
                refine g_bipush (v := zI 20) hC dX12_reachC_252 rfl ?_
                refine g_iload_n hC dX12_reachC_254 rfl ?_
                refine g_iload_n hC dX12_reachC_255 rfl ?_
                refine g_iload hC dX12_reachC_256 rfl ?_
                refine zr_callVv (As := [.int (zI 20), .int (zI a1), .int (zI a2), .int (zI a3)]) hC hZ316 rfl (rm_goal X.la d b (by decide) Ra1 Ra2 Ra3 hZ316.rf h319) cl_X12_534 rfl rfl (Nat.le_of_ble_eq_true rfl) ⟨Nat.le_of_ble_eq_true rfl, Nat.le_of_ble_eq_true rfl⟩ dX12_reachC_258 (fun s321 F322 hZ324 h325 => ?_)
                refine g_iconst (v := zI 1) hC dX12_reachC_261 rfl ?_
                exact zr_zret hC hZ324 (Or.inr rfl) h325 dX12_reachC_262
              · have h326 := h317.2 c318
                refine g_bipush (v := zI 18) hC dX12_reachC_247 rfl ?_
                refine g_goto (tgt := 254) hC dX12_reachC_249 (by decide) ?_
                refine g_iload_n hC dX12_reachC_254 rfl ?_
                refine g_iload_n hC dX12_reachC_255 rfl ?_
                refine g_iload hC dX12_reachC_256 rfl ?_
                refine zr_callVv (As := [.int (zI 18), .int (zI a1), .int (zI a2), .int (zI a3)]) hC hZ316 rfl (rm_goal X.la d b (by decide) Ra1 Ra2 Ra3 hZ316.rf h326) cl_X12_534 rfl rfl (Nat.le_of_ble_eq_true rfl) ⟨Nat.le_of_ble_eq_true rfl, Nat.le_of_ble_eq_true rfl⟩ dX12_reachC_258 (fun s328 F329 hZ331 h332 => ?_)
                refine g_iconst (v := zI 1) hC dX12_reachC_261 rfl ?_
                exact zr_zret hC hZ331 (Or.inr rfl) h332 dX12_reachC_262
        · have h333 := h12.2 c13
          refine g_aload_n hC dX12_reachC_201 rfl ?_
          refine g_bipush (v := zI 19) hC dX12_reachC_202 rfl ?_
          refine g_iload_n hC dX12_reachC_204 rfl ?_
          refine g_iload_n hC dX12_reachC_205 rfl ?_
          refine g_iload hC dX12_reachC_206 rfl ?_
          refine zr_callVv (As := [.int (zI 19), .int (zI a1), .int (zI a2), .int (zI a3)]) hC hZ5 rfl (rm_goal X.la d b (by decide) Ra1 Ra2 Ra3 hZ5.rf h333) cl_X12_534 rfl rfl (Nat.le_of_ble_eq_true rfl) ⟨Nat.le_of_ble_eq_true rfl, Nat.le_of_ble_eq_true rfl⟩ dX12_reachC_208 (fun s335 F336 hZ338 h339 => ?_)
          refine g_aload_n hC dX12_reachC_211 rfl ?_
          refine g_iconst (v := zI 3) hC dX12_reachC_212 rfl ?_
          refine g_iconst (v := zI 0) hC dX12_reachC_213 rfl ?_
          refine g_iconst (v := zI 0) hC dX12_reachC_214 rfl ?_
          refine g_iconst (v := zI 0) hC dX12_reachC_215 rfl ?_
          refine zr_callVv (As := [.int (zI 3), .int (zI 0), .int (zI 0), .int (zI 0)]) hC hZ338 rfl (rm_goal X.la d b (by decide) (by decide) (by decide) (by decide) hZ338.rf h339) cl_X12_534 rfl rfl (Nat.le_of_ble_eq_true rfl) ⟨Nat.le_of_ble_eq_true rfl, Nat.le_of_ble_eq_true rfl⟩ dX12_reachC_216 (fun s341 F342 hZ344 h345 => ?_)
          refine g_iconst (v := zI 1) hC dX12_reachC_219 rfl ?_
          exact zr_zret hC hZ344 (Or.inr rfl) h345 dX12_reachC_220
      · have h346 := h10.2 c11
        refine g_aload_n hC dX12_reachC_173 rfl ?_
        refine g_bipush (v := zI 56) hC dX12_reachC_174 rfl ?_
        refine zr_callVi (As := [.int (zI 56)]) hC hZ5 rfl (rm_take X.la d b (by decide) hZ5.rf h346) cl_X12_549 rfl rfl (Nat.le_of_ble_eq_true rfl) ⟨Nat.le_of_ble_eq_true rfl, Nat.le_of_ble_eq_true rfl⟩ dX12_reachC_176 (fun r347 s348 F349 R350 hZ351 h352 => ?_)
        refine zr_if_ne (tgt := 184) hC R350 dX12_reachC_179 (by decide) (fun c353 => ?_) (fun c353 => ?_)
        · have h354 := h352.1 c353
          refine g_aload_n hC dX12_reachC_184 rfl ?_
          refine g_bipush (v := zI 28) hC dX12_reachC_185 rfl ?_
          refine g_iconst (v := zI 0) hC dX12_reachC_187 rfl ?_
          refine g_iconst (v := zI 0) hC dX12_reachC_188 rfl ?_
          refine g_iconst (v := zI 0) hC dX12_reachC_189 rfl ?_
          refine zr_callVv (As := [.int (zI 28), .int (zI 0), .int (zI 0), .int (zI 0)]) hC hZ351 rfl (rm_goal X.la d b (by decide) (by decide) (by decide) (by decide) hZ351.rf h354) cl_X12_534 rfl rfl (Nat.le_of_ble_eq_true rfl) ⟨Nat.le_of_ble_eq_true rfl, Nat.le_of_ble_eq_true rfl⟩ dX12_reachC_190 (fun s356 F357 hZ359 h360 => ?_)
          refine g_iconst (v := zI 1) hC dX12_reachC_193 rfl ?_
          exact zr_zret hC hZ359 (Or.inr rfl) h360 dX12_reachC_194
        · have h361 := h352.2 c353
          refine g_iconst (v := zI 1) hC dX12_reachC_182 rfl ?_
          exact zr_zret hC hZ351 (Or.inr rfl) h361 dX12_reachC_183
    · have h362 := h8.2 c9
      refine g_iload hC dX12_reachC_54 rfl ?_
      refine g_bipush (v := zI 68) hC dX12_reachC_56 rfl ?_
      refine zr_icmp_eq (tgt := 82) hC R4 (by decide) dX12_reachC_58 (by decide) (fun c363 => ?_) (fun c363 => ?_)
      · have h364 := h362.1 c363
        refine g_lv (lv' := [some (.ref t), none, some (.int (zI a1)), none, some (.int (zI a3)), some (.int (zI r1)), none, some (.int (zI (zv s2 43))), none]) ⟨rfl, rfl, rfl, rfl, rfl, trivial⟩ ?_
        exact rj_reachC_82 hC  Ra1 Ra3 R4 (hZ5.rv 43) hZ5 h364
      · have h365 := h362.2 c363
        refine g_iload hC dX12_reachC_61 rfl ?_
        refine g_bipush (v := zI 69) hC dX12_reachC_63 rfl ?_
        refine zr_icmp_eq (tgt := 82) hC R4 (by decide) dX12_reachC_65 (by decide) (fun c366 => ?_) (fun c366 => ?_)
        · have h367 := h365.1 c366
          refine g_lv (lv' := [some (.ref t), none, some (.int (zI a1)), none, some (.int (zI a3)), some (.int (zI r1)), none, some (.int (zI (zv s2 43))), none]) ⟨rfl, rfl, rfl, rfl, rfl, trivial⟩ ?_
          exact rj_reachC_82 hC  Ra1 Ra3 R4 (hZ5.rv 43) hZ5 h367
        · have h368 := h365.2 c366
          refine g_iload hC dX12_reachC_68 rfl ?_
          refine g_bipush (v := zI 70) hC dX12_reachC_70 rfl ?_
          refine zr_icmp_eq (tgt := 82) hC R4 (by decide) dX12_reachC_72 (by decide) (fun c369 => ?_) (fun c369 => ?_)
          · have h370 := h368.1 c369
            refine g_lv (lv' := [some (.ref t), none, some (.int (zI a1)), none, some (.int (zI a3)), some (.int (zI r1)), none, some (.int (zI (zv s2 43))), none]) ⟨rfl, rfl, rfl, rfl, rfl, trivial⟩ ?_
            exact rj_reachC_82 hC  Ra1 Ra3 R4 (hZ5.rv 43) hZ5 h370
          · have h371 := h368.2 c369
            refine g_aload_n hC dX12_reachC_75 rfl ?_
            refine g_iload_n hC dX12_reachC_76 rfl ?_
            refine zr_put hC hZ5 fl_X12_145 zb_44 (by decide) Ra1 dX12_reachC_77 (fun F372 hZ373 => ?_)
            refine g_iconst (v := zI 1) hC dX12_reachC_80 rfl ?_
            exact zr_zret hC hZ373 (Or.inr rfl) h371 dX12_reachC_81
  · have h374 := h6.2 c7
    refine g_aload_n hC dX12_reachC_24 rfl ?_
    refine g_bipush (v := zI 12) hC dX12_reachC_25 rfl ?_
    refine g_aload_n hC dX12_reachC_27 rfl ?_
    refine zr_get (e := (zv s2 44)) hC hZ5 fl_X12_145 zb_44 (by decide) rfl dX12_reachC_28 ?_
    refine g_iconst (v := zI 0) hC dX12_reachC_31 rfl ?_
    refine g_iload hC dX12_reachC_32 rfl ?_
    refine zr_callVv (As := [.int (zI 12), .int (zI (zv s2 44)), .int (zI 0), .int (zI (zv s2 37))]) hC hZ5 rfl (rm_goal X.la d b (by decide) (hZ5.rv 44) (by decide) (hZ5.rv 37) hZ5.rf h374) cl_X12_534 rfl rfl (Nat.le_of_ble_eq_true rfl) ⟨Nat.le_of_ble_eq_true rfl, Nat.le_of_ble_eq_true rfl⟩ dX12_reachC_34 (fun s376 F377 hZ379 h380 => ?_)
    refine g_aload_n hC dX12_reachC_37 rfl ?_
    refine g_iload hC dX12_reachC_38 rfl ?_
    refine g_iload hC dX12_reachC_40 rfl ?_
    refine g_iload hC dX12_reachC_42 rfl ?_
    refine zr_callVi (As := [.int (zI r1), .int (zI (zv s2 43)), .int (zI (zv s2 37))]) hC hZ379 rfl (rm_command X.la d b R4 (hZ5.rv 43) (hZ5.rv 37) hZ379.rf h380) cl_X12_573 rfl rfl (Nat.le_of_ble_eq_true rfl) ⟨Nat.le_of_ble_eq_true rfl, Nat.le_of_ble_eq_true rfl⟩ dX12_reachC_44 (fun r381 s382 F383 R384 hZ385 h386 => ?_)
    obtain ⟨o387, h388⟩ := h386
    exact zr_zret hC hZ385 o387 h388 dX12_reachC_47
theorem dX12_reach_0 : decode cX12_reach 0 = .ok (.iload_n 1, 1) := by decide +kernel
theorem dX12_reach_1 : decode cX12_reach 1 = .ok (.bipush 28, 2) := by decide +kernel
theorem dX12_reach_3 : decode cX12_reach 3 = .ok (.if_icmp .lt 19, 3) := by decide +kernel
theorem dX12_reach_6 : decode cX12_reach 6 = .ok (.iload_n 1, 1) := by decide +kernel
theorem dX12_reach_7 : decode cX12_reach 7 = .ok (.bipush 40, 2) := by decide +kernel
theorem dX12_reach_9 : decode cX12_reach 9 = .ok (.if_icmp .gt 13, 3) := by decide +kernel
theorem dX12_reach_12 : decode cX12_reach 12 = .ok (.aload_n 0, 1) := by decide +kernel
theorem dX12_reach_13 : decode cX12_reach 13 = .ok (.iload_n 1, 1) := by decide +kernel
theorem dX12_reach_14 : decode cX12_reach 14 = .ok (.iload_n 2, 1) := by decide +kernel
theorem dX12_reach_15 : decode cX12_reach 15 = .ok (.iload_n 3, 1) := by decide +kernel
theorem dX12_reach_16 : decode cX12_reach 16 = .ok (.iload 4, 2) := by decide +kernel
theorem dX12_reach_18 : decode cX12_reach 18 = .ok (.invokevirtual 546, 3) := by decide +kernel
theorem dX12_reach_21 : decode cX12_reach 21 = .ok (.ireturn, 1) := by decide +kernel
theorem dX12_reach_22 : decode cX12_reach 22 = .ok (.iload_n 1, 1) := by decide +kernel
theorem dX12_reach_23 : decode cX12_reach 23 = .ok (.iconst 1, 1) := by decide +kernel
theorem dX12_reach_24 : decode cX12_reach 24 = .ok (.if_icmp .ne 21, 3) := by decide +kernel
theorem dX12_reach_27 : decode cX12_reach 27 = .ok (.aload_n 0, 1) := by decide +kernel
theorem dX12_reach_28 : decode cX12_reach 28 = .ok (.iconst 2, 1) := by decide +kernel
theorem dX12_reach_29 : decode cX12_reach 29 = .ok (.iconst 0, 1) := by decide +kernel
theorem dX12_reach_30 : decode cX12_reach 30 = .ok (.iconst 0, 1) := by decide +kernel
theorem dX12_reach_31 : decode cX12_reach 31 = .ok (.iconst 0, 1) := by decide +kernel
theorem dX12_reach_32 : decode cX12_reach 32 = .ok (.invokevirtual 534, 3) := by decide +kernel
theorem dX12_reach_35 : decode cX12_reach 35 = .ok (.aload_n 0, 1) := by decide +kernel
theorem dX12_reach_36 : decode cX12_reach 36 = .ok (.iconst 3, 1) := by decide +kernel
theorem dX12_reach_37 : decode cX12_reach 37 = .ok (.iconst 1, 1) := by decide +kernel
theorem dX12_reach_38 : decode cX12_reach 38 = .ok (.iconst 0, 1) := by decide +kernel
theorem dX12_reach_39 : decode cX12_reach 39 = .ok (.iconst 0, 1) := by decide +kernel
theorem dX12_reach_40 : decode cX12_reach 40 = .ok (.invokevirtual 534, 3) := by decide +kernel
theorem dX12_reach_43 : decode cX12_reach 43 = .ok (.iconst 1, 1) := by decide +kernel
theorem dX12_reach_44 : decode cX12_reach 44 = .ok (.ireturn, 1) := by decide +kernel
theorem dX12_reach_45 : decode cX12_reach 45 = .ok (.iload_n 1, 1) := by decide +kernel
theorem dX12_reach_46 : decode cX12_reach 46 = .ok (.iconst 2, 1) := by decide +kernel
theorem dX12_reach_47 : decode cX12_reach 47 = .ok (.if_icmp .ne 72, 3) := by decide +kernel
theorem dX12_reach_50 : decode cX12_reach 50 = .ok (.aload_n 0, 1) := by decide +kernel
theorem dX12_reach_51 : decode cX12_reach 51 = .ok (.getfield 142, 3) := by decide +kernel
theorem dX12_reach_54 : decode cX12_reach 54 = .ok (.aload_n 0, 1) := by decide +kernel
theorem dX12_reach_55 : decode cX12_reach 55 = .ok (.getfield 36, 3) := by decide +kernel
theorem dX12_reach_58 : decode cX12_reach 58 = .ok (.if_icmp .ne 16, 3) := by decide +kernel
theorem dX12_reach_61 : decode cX12_reach 61 = .ok (.aload_n 0, 1) := by decide +kernel
theorem dX12_reach_62 : decode cX12_reach 62 = .ok (.getfield 157, 3) := by decide +kernel
theorem dX12_reach_65 : decode cX12_reach 65 = .ok (.ifCond .ge 7, 3) := by decide +kernel
theorem dX12_reach_68 : decode cX12_reach 68 = .ok (.iconst 1, 1) := by decide +kernel
theorem dX12_reach_69 : decode cX12_reach 69 = .ok (.goto 4, 3) := by decide +kernel
theorem dX12_reach_72 : decode cX12_reach 72 = .ok (.iconst 0, 1) := by decide +kernel
theorem dX12_reach_73 : decode cX12_reach 73 = .ok (.ireturn, 1) := by decide +kernel
theorem dX12_reach_74 : decode cX12_reach 74 = .ok (.aload_n 0, 1) := by decide +kernel
theorem dX12_reach_75 : decode cX12_reach 75 = .ok (.bipush 15, 2) := by decide +kernel
theorem dX12_reach_77 : decode cX12_reach 77 = .ok (.invokevirtual 549, 3) := by decide +kernel
theorem dX12_reach_80 : decode cX12_reach 80 = .ok (.ifCond .ne 5, 3) := by decide +kernel
theorem dX12_reach_83 : decode cX12_reach 83 = .ok (.iconst 0, 1) := by decide +kernel
theorem dX12_reach_84 : decode cX12_reach 84 = .ok (.ireturn, 1) := by decide +kernel
theorem dX12_reach_85 : decode cX12_reach 85 = .ok (.aload_n 0, 1) := by decide +kernel
theorem dX12_reach_86 : decode cX12_reach 86 = .ok (.getfield 142, 3) := by decide +kernel
theorem dX12_reach_89 : decode cX12_reach 89 = .ok (.aload_n 0, 1) := by decide +kernel
theorem dX12_reach_90 : decode cX12_reach 90 = .ok (.getfield 36, 3) := by decide +kernel
theorem dX12_reach_93 : decode cX12_reach 93 = .ok (.if_icmp .ne 16, 3) := by decide +kernel
theorem dX12_reach_96 : decode cX12_reach 96 = .ok (.aload_n 0, 1) := by decide +kernel
theorem dX12_reach_97 : decode cX12_reach 97 = .ok (.getfield 157, 3) := by decide +kernel
theorem dX12_reach_100 : decode cX12_reach 100 = .ok (.ifCond .ge 7, 3) := by decide +kernel
theorem dX12_reach_103 : decode cX12_reach 103 = .ok (.iconst 1, 1) := by decide +kernel
theorem dX12_reach_104 : decode cX12_reach 104 = .ok (.goto 4, 3) := by decide +kernel
theorem dX12_reach_107 : decode cX12_reach 107 = .ok (.iconst 0, 1) := by decide +kernel
theorem dX12_reach_108 : decode cX12_reach 108 = .ok (.ireturn, 1) := by decide +kernel
theorem dX12_reach_109 : decode cX12_reach 109 = .ok (.aload_n 0, 1) := by decide +kernel
theorem dX12_reach_110 : decode cX12_reach 110 = .ok (.iconst 1, 1) := by decide +kernel
theorem dX12_reach_111 : decode cX12_reach 111 = .ok (.iconst 0, 1) := by decide +kernel
theorem dX12_reach_112 : decode cX12_reach 112 = .ok (.iconst 0, 1) := by decide +kernel
theorem dX12_reach_113 : decode cX12_reach 113 = .ok (.iconst 0, 1) := by decide +kernel
theorem dX12_reach_114 : decode cX12_reach 114 = .ok (.invokevirtual 534, 3) := by decide +kernel
theorem dX12_reach_117 : decode cX12_reach 117 = .ok (.iconst 1, 1) := by decide +kernel
theorem dX12_reach_118 : decode cX12_reach 118 = .ok (.ireturn, 1) := by decide +kernel
theorem dX12_reach_119 : decode cX12_reach 119 = .ok (.iload_n 1, 1) := by decide +kernel
theorem dX12_reach_120 : decode cX12_reach 120 = .ok (.bipush 6, 2) := by decide +kernel
theorem dX12_reach_122 : decode cX12_reach 122 = .ok (.if_icmp .ne 29, 3) := by decide +kernel
theorem dX12_reach_125 : decode cX12_reach 125 = .ok (.aload_n 0, 1) := by decide +kernel
theorem dX12_reach_126 : decode cX12_reach 126 = .ok (.iload_n 2, 1) := by decide +kernel
theorem dX12_reach_127 : decode cX12_reach 127 = .ok (.iload_n 3, 1) := by decide +kernel
theorem dX12_reach_128 : decode cX12_reach 128 = .ok (.iload 4, 2) := by decide +kernel
theorem dX12_reach_130 : decode cX12_reach 130 = .ok (.iconst 0, 1) := by decide +kernel
theorem dX12_reach_131 : decode cX12_reach 131 = .ok (.invokevirtual 542, 3) := by decide +kernel
theorem dX12_reach_134 : decode cX12_reach 134 = .ok (.istore 5, 2) := by decide +kernel
theorem dX12_reach_136 : decode cX12_reach 136 = .ok (.iload_n 2, 1) := by decide +kernel
theorem dX12_reach_137 : decode cX12_reach 137 = .ok (.iconst 4, 1) := by decide +kernel
theorem dX12_reach_138 : decode cX12_reach 138 = .ok (.if_icmp .ne 11, 3) := by decide +kernel
theorem dX12_reach_141 : decode cX12_reach 141 = .ok (.aload_n 0, 1) := by decide +kernel
theorem dX12_reach_142 : decode cX12_reach 142 = .ok (.getfield 102, 3) := by decide +kernel
theorem dX12_reach_145 : decode cX12_reach 145 = .ok (.iload 5, 2) := by decide +kernel
theorem dX12_reach_147 : decode cX12_reach 147 = .ok (.iconst 0, 1) := by decide +kernel
theorem dX12_reach_148 : decode cX12_reach 148 = .ok (.iastore, 1) := by decide +kernel
theorem dX12_reach_149 : decode cX12_reach 149 = .ok (.iconst 1, 1) := by decide +kernel
theorem dX12_reach_150 : decode cX12_reach 150 = .ok (.ireturn, 1) := by decide +kernel
theorem dX12_reach_151 : decode cX12_reach 151 = .ok (.iload_n 1, 1) := by decide +kernel
theorem dX12_reach_152 : decode cX12_reach 152 = .ok (.bipush 15, 2) := by decide +kernel
theorem dX12_reach_154 : decode cX12_reach 154 = .ok (.if_icmp .ne 10, 3) := by decide +kernel
theorem dX12_reach_157 : decode cX12_reach 157 = .ok (.aload_n 0, 1) := by decide +kernel
theorem dX12_reach_158 : decode cX12_reach 158 = .ok (.iload_n 2, 1) := by decide +kernel
theorem dX12_reach_159 : decode cX12_reach 159 = .ok (.putfield 145, 3) := by decide +kernel
theorem dX12_reach_162 : decode cX12_reach 162 = .ok (.iconst 1, 1) := by decide +kernel
theorem dX12_reach_163 : decode cX12_reach 163 = .ok (.ireturn, 1) := by decide +kernel
theorem dX12_reach_164 : decode cX12_reach 164 = .ok (.iload_n 1, 1) := by decide +kernel
theorem dX12_reach_165 : decode cX12_reach 165 = .ok (.bipush 16, 2) := by decide +kernel
theorem dX12_reach_167 : decode cX12_reach 167 = .ok (.if_icmp .ne 9, 3) := by decide +kernel
theorem dX12_reach_170 : decode cX12_reach 170 = .ok (.aload_n 0, 1) := by decide +kernel
theorem dX12_reach_171 : decode cX12_reach 171 = .ok (.iload_n 2, 1) := by decide +kernel
theorem dX12_reach_172 : decode cX12_reach 172 = .ok (.invokevirtual 549, 3) := by decide +kernel
theorem dX12_reach_175 : decode cX12_reach 175 = .ok (.ireturn, 1) := by decide +kernel
theorem dX12_reach_176 : decode cX12_reach 176 = .ok (.iload_n 1, 1) := by decide +kernel
theorem dX12_reach_177 : decode cX12_reach 177 = .ok (.bipush 17, 2) := by decide +kernel
theorem dX12_reach_179 : decode cX12_reach 179 = .ok (.if_icmp .ne 8, 3) := by decide +kernel
theorem dX12_reach_182 : decode cX12_reach 182 = .ok (.aload_n 0, 1) := by decide +kernel
theorem dX12_reach_183 : decode cX12_reach 183 = .ok (.invokevirtual 552, 3) := by decide +kernel
theorem dX12_reach_186 : decode cX12_reach 186 = .ok (.ireturn, 1) := by decide +kernel
theorem dX12_reach_187 : decode cX12_reach 187 = .ok (.iload_n 1, 1) := by decide +kernel
theorem dX12_reach_188 : decode cX12_reach 188 = .ok (.bipush 13, 2) := by decide +kernel
theorem dX12_reach_190 : decode cX12_reach 190 = .ok (.if_icmp .ne 28, 3) := by decide +kernel
theorem dX12_reach_193 : decode cX12_reach 193 = .ok (.aload_n 0, 1) := by decide +kernel
theorem dX12_reach_194 : decode cX12_reach 194 = .ok (.bipush 48, 2) := by decide +kernel
theorem dX12_reach_196 : decode cX12_reach 196 = .ok (.invokevirtual 549, 3) := by decide +kernel
theorem dX12_reach_199 : decode cX12_reach 199 = .ok (.ifCond .ne 13, 3) := by decide +kernel
theorem dX12_reach_202 : decode cX12_reach 202 = .ok (.aload_n 0, 1) := by decide +kernel
theorem dX12_reach_203 : decode cX12_reach 203 = .ok (.invokevirtual 526, 3) := by decide +kernel
theorem dX12_reach_206 : decode cX12_reach 206 = .ok (.invokestatic 474, 3) := by decide +kernel
theorem dX12_reach_209 : decode cX12_reach 209 = .ok (.ifCond .eq 7, 3) := by decide +kernel
theorem dX12_reach_212 : decode cX12_reach 212 = .ok (.iconst 1, 1) := by decide +kernel
theorem dX12_reach_213 : decode cX12_reach 213 = .ok (.goto 4, 3) := by decide +kernel
theorem dX12_reach_216 : decode cX12_reach 216 = .ok (.iconst 0, 1) := by decide +kernel
theorem dX12_reach_217 : decode cX12_reach 217 = .ok (.ireturn, 1) := by decide +kernel
theorem dX12_reach_218 : decode cX12_reach 218 = .ok (.iload_n 1, 1) := by decide +kernel
theorem dX12_reach_219 : decode cX12_reach 219 = .ok (.bipush 14, 2) := by decide +kernel
theorem dX12_reach_221 : decode cX12_reach 221 = .ok (.if_icmp .ne 29, 3) := by decide +kernel
theorem dX12_reach_224 : decode cX12_reach 224 = .ok (.aload_n 0, 1) := by decide +kernel
theorem dX12_reach_225 : decode cX12_reach 225 = .ok (.bipush 15, 2) := by decide +kernel
theorem dX12_reach_227 : decode cX12_reach 227 = .ok (.aload_n 0, 1) := by decide +kernel
theorem dX12_reach_228 : decode cX12_reach 228 = .ok (.getfield 145, 3) := by decide +kernel
theorem dX12_reach_231 : decode cX12_reach 231 = .ok (.iconst 0, 1) := by decide +kernel
theorem dX12_reach_232 : decode cX12_reach 232 = .ok (.iconst 0, 1) := by decide +kernel
theorem dX12_reach_233 : decode cX12_reach 233 = .ok (.invokevirtual 534, 3) := by decide +kernel
theorem dX12_reach_236 : decode cX12_reach 236 = .ok (.aload_n 0, 1) := by decide +kernel
theorem dX12_reach_237 : decode cX12_reach 237 = .ok (.bipush 11, 2) := by decide +kernel
theorem dX12_reach_239 : decode cX12_reach 239 = .ok (.iconst 0, 1) := by decide +kernel
theorem dX12_reach_240 : decode cX12_reach 240 = .ok (.iconst 0, 1) := by decide +kernel
theorem dX12_reach_241 : decode cX12_reach 241 = .ok (.iconst 0, 1) := by decide +kernel
theorem dX12_reach_242 : decode cX12_reach 242 = .ok (.invokevirtual 534, 3) := by decide +kernel
theorem dX12_reach_245 : decode cX12_reach 245 = .ok (.aload_n 0, 1) := by decide +kernel
theorem dX12_reach_246 : decode cX12_reach 246 = .ok (.invokevirtual 530, 3) := by decide +kernel
theorem dX12_reach_249 : decode cX12_reach 249 = .ok (.ireturn, 1) := by decide +kernel
theorem dX12_reach_250 : decode cX12_reach 250 = .ok (.iload_n 1, 1) := by decide +kernel
theorem dX12_reach_251 : decode cX12_reach 251 = .ok (.bipush 10, 2) := by decide +kernel
theorem dX12_reach_253 : decode cX12_reach 253 = .ok (.if_icmp .gt 13, 3) := by decide +kernel
theorem dX12_reach_256 : decode cX12_reach 256 = .ok (.aload_n 0, 1) := by decide +kernel
theorem dX12_reach_257 : decode cX12_reach 257 = .ok (.iload_n 1, 1) := by decide +kernel
theorem dX12_reach_258 : decode cX12_reach 258 = .ok (.iload_n 2, 1) := by decide +kernel
theorem dX12_reach_259 : decode cX12_reach 259 = .ok (.iload_n 3, 1) := by decide +kernel
theorem dX12_reach_260 : decode cX12_reach 260 = .ok (.iload 4, 2) := by decide +kernel
theorem dX12_reach_262 : decode cX12_reach 262 = .ok (.invokevirtual 555, 3) := by decide +kernel
theorem dX12_reach_265 : decode cX12_reach 265 = .ok (.ireturn, 1) := by decide +kernel
theorem dX12_reach_266 : decode cX12_reach 266 = .ok (.aload_n 0, 1) := by decide +kernel
theorem dX12_reach_267 : decode cX12_reach 267 = .ok (.iload_n 1, 1) := by decide +kernel
theorem dX12_reach_268 : decode cX12_reach 268 = .ok (.iload_n 2, 1) := by decide +kernel
theorem dX12_reach_269 : decode cX12_reach 269 = .ok (.iload_n 3, 1) := by decide +kernel
theorem dX12_reach_270 : decode cX12_reach 270 = .ok (.iload 4, 2) := by decide +kernel
theorem dX12_reach_272 : decode cX12_reach 272 = .ok (.invokevirtual 558, 3) := by decide +kernel
theorem dX12_reach_275 : decode cX12_reach 275 = .ok (.ireturn, 1) := by decide +kernel
def wr_reach_22 (Q : Int → zS → Prop)  (s0 : zS) (x1 : Int) (x2 : Int) (x3 : Int) (x4 : Int) : Prop :=
  ((¬ x1 = 1 → ((¬ x1 = 2 → ((¬ x1 = 6 → ((¬ x1 = 15 → ((¬ x1 = 16 → ((¬ x1 = 17 → ((¬ x1 = 13 → ((¬ x1 = 14 → ((10 < x1 → wr_reachC s0 x1 x2 x3 x4 (fun r19 s20 => (r19 = 0 ∨ r19 = 1) ∧ Q r19 s20)) ∧ (¬ 10 < x1 → wr_reachD s0 x1 x2 x3 x4 (fun r28 s29 => (r28 = 0 ∨ r28 = 1) ∧ Q r28 s29)))) ∧ (x1 = 14 → wr_goal s0 15 (zv s0 44) 0 0 (fun s38 => wr_goal s38 11 0 0 0 (fun s44 => wr_deeper s44  (fun r49 s50 => (r49 = 0 ∨ r49 = 1) ∧ Q r49 s50)))))) ∧ (x1 = 13 → wr_take s0 48 (fun r58 s59 => ((¬ r58 = 0 → Q 1 s59) ∧ (r58 = 0 → wr_tk s59  (fun r67 s68 => wr_isDoless s68 r67 (fun r73 s74 => ((r73 = 0 → Q 0 s74) ∧ (¬ r73 = 0 → Q 1 s74)))))))))) ∧ (x1 = 17 → wr_openSection s0  (fun r83 s84 => (r83 = 0 ∨ r83 = 1) ∧ Q r83 s84)))) ∧ (x1 = 16 → wr_take s0 x2 (fun r92 s93 => (r92 = 0 ∨ r92 = 1) ∧ Q r92 s93)))) ∧ (x1 = 15 → Q 1 (zpv s0 44 x2)))) ∧ (x1 = 6 → wr_shut s0 x2 x3 x4 0 (fun r104 s105 => ((¬ x2 = 4 → Q 1 s105) ∧ (x2 = 4 → (0 ≤ r104) ∧ (r104 < 26000) ∧ Q 1 (zpa s105 30 (Int.toNat r104) 0))))))) ∧ (x1 = 2 → ((¬ (zv s0 43) = (zv s0 8) → wr_take s0 15 (fun r122 s123 => ((¬ r122 = 0 → ((¬ (zv s123 43) = (zv s123 8) → wr_goal s123 1 0 0 0 (fun s133 => Q 1 s133)) ∧ ((zv s123 43) = (zv s123 8) → ((0 ≤ (zv s123 48) → Q 0 s123) ∧ (¬ 0 ≤ (zv s123 48) → Q 1 s123))))) ∧ (r122 = 0 → Q 0 s123)))) ∧ ((zv s0 43) = (zv s0 8) → ((0 ≤ (zv s0 48) → Q 0 s0) ∧ (¬ 0 ≤ (zv s0 48) → Q 1 s0))))))) ∧ (x1 = 1 → wr_goal s0 2 0 0 0 (fun s149 => wr_goal s149 3 1 0 0 (fun s155 => Q 1 s155))))
def wr_reach (s0 : zS) (a0 : Int) (a1 : Int) (a2 : Int) (a3 : Int) (Q : Int → zS → Prop) : Prop :=
  ((a0 < 28 → wr_reach_22 Q  s0 a0 a1 a2 a3) ∧ (¬ a0 < 28 → ((40 < a0 → wr_reach_22 Q  s0 a0 a1 a2 a3) ∧ (¬ 40 < a0 → wr_reachE s0 a0 a1 a2 a3 (fun r7 s8 => (r7 = 0 ∨ r7 = 1) ∧ Q r7 s8)))))
set_option maxHeartbeats 4000000 in
set_option maxRecDepth 100000 in
theorem rj_reach_22 {X : gX} {d : gD} {b t : Nat} {T : Nat → Nat} {F0 : gM} (hC : gC RX12 cX12_reach 6 (some .boolean) "reach" (gR 4 0 0) d b X) {Q : Int → zS → Prop}   {F : gM} {s0 : zS} {x1 : Int} {x2 : Int} {x3 : Int} {x4 : Int} (Rx1 : zR x1) (Rx2 : zR x2) (Rx3 : zR x3) (Rx4 : zR x4) (hZ : zZ d t T F0 F s0) (hw : wr_reach_22 Q  s0 x1 x2 x3 x4) : gG X d b (zQi X d b t T F0 Q) F 0 0 22 [some (.ref t), some (.int (zI x1)), some (.int (zI x2)), some (.int (zI x3)), some (.int (zI x4)), none] [] := by
  unfold wr_reach_22 at hw
  refine g_iload_n hC dX12_reach_22 rfl ?_
  refine g_iconst (v := zI 1) hC dX12_reach_23 rfl ?_
  refine zr_icmp_ne (tgt := 45) hC Rx1 (by decide) dX12_reach_24 (by decide) (fun c1 => ?_) (fun c1 => ?_)
  · have h2 := hw.1 c1
    refine g_iload_n hC dX12_reach_45 rfl ?_
    refine g_iconst (v := zI 2) hC dX12_reach_46 rfl ?_
    refine zr_icmp_ne (tgt := 119) hC Rx1 (by decide) dX12_reach_47 (by decide) (fun c3 => ?_) (fun c3 => ?_)
    · have h4 := h2.1 c3
      refine g_iload_n hC dX12_reach_119 rfl ?_
      refine g_bipush (v := zI 6) hC dX12_reach_120 rfl ?_
      refine zr_icmp_ne (tgt := 151) hC Rx1 (by decide) dX12_reach_122 (by decide) (fun c5 => ?_) (fun c5 => ?_)
      · have h6 := h4.1 c5
        refine g_iload_n hC dX12_reach_151 rfl ?_
        refine g_bipush (v := zI 15) hC dX12_reach_152 rfl ?_
        refine zr_icmp_ne (tgt := 164) hC Rx1 (by decide) dX12_reach_154 (by decide) (fun c7 => ?_) (fun c7 => ?_)
        · have h8 := h6.1 c7
          refine g_iload_n hC dX12_reach_164 rfl ?_
          refine g_bipush (v := zI 16) hC dX12_reach_165 rfl ?_
          refine zr_icmp_ne (tgt := 176) hC Rx1 (by decide) dX12_reach_167 (by decide) (fun c9 => ?_) (fun c9 => ?_)
          · have h10 := h8.1 c9
            refine g_iload_n hC dX12_reach_176 rfl ?_
            refine g_bipush (v := zI 17) hC dX12_reach_177 rfl ?_
            refine zr_icmp_ne (tgt := 187) hC Rx1 (by decide) dX12_reach_179 (by decide) (fun c11 => ?_) (fun c11 => ?_)
            · have h12 := h10.1 c11
              refine g_iload_n hC dX12_reach_187 rfl ?_
              refine g_bipush (v := zI 13) hC dX12_reach_188 rfl ?_
              refine zr_icmp_ne (tgt := 218) hC Rx1 (by decide) dX12_reach_190 (by decide) (fun c13 => ?_) (fun c13 => ?_)
              · have h14 := h12.1 c13
                refine g_iload_n hC dX12_reach_218 rfl ?_
                refine g_bipush (v := zI 14) hC dX12_reach_219 rfl ?_
                refine zr_icmp_ne (tgt := 250) hC Rx1 (by decide) dX12_reach_221 (by decide) (fun c15 => ?_) (fun c15 => ?_)
                · have h16 := h14.1 c15
                  refine g_iload_n hC dX12_reach_250 rfl ?_
                  refine g_bipush (v := zI 10) hC dX12_reach_251 rfl ?_
                  refine zr_icmp_gt (tgt := 266) hC Rx1 (by decide) dX12_reach_253 (by decide) (fun c17 => ?_) (fun c17 => ?_)
                  · have h18 := h16.1 c17
                    refine g_aload_n hC dX12_reach_266 rfl ?_
                    refine g_iload_n hC dX12_reach_267 rfl ?_
                    refine g_iload_n hC dX12_reach_268 rfl ?_
                    refine g_iload_n hC dX12_reach_269 rfl ?_
                    refine g_iload hC dX12_reach_270 rfl ?_
                    refine zr_callVi (As := [.int (zI x1), .int (zI x2), .int (zI x3), .int (zI x4)]) hC hZ rfl (rm_reachC X.la d b Rx1 Rx2 Rx3 Rx4 hZ.rf h18) cl_X12_558 rfl rfl (Nat.le_of_ble_eq_true rfl) ⟨Nat.le_of_ble_eq_true rfl, Nat.le_of_ble_eq_true rfl⟩ dX12_reach_272 (fun r19 s20 F21 R22 hZ23 h24 => ?_)
                    obtain ⟨o25, h26⟩ := h24
                    exact zr_zret hC hZ23 o25 h26 dX12_reach_275
                  · have h27 := h16.2 c17
                    refine g_aload_n hC dX12_reach_256 rfl ?_
                    refine g_iload_n hC dX12_reach_257 rfl ?_
                    refine g_iload_n hC dX12_reach_258 rfl ?_
                    refine g_iload_n hC dX12_reach_259 rfl ?_
                    refine g_iload hC dX12_reach_260 rfl ?_
                    refine zr_callVi (As := [.int (zI x1), .int (zI x2), .int (zI x3), .int (zI x4)]) hC hZ rfl (rm_reachD X.la d b Rx1 Rx2 Rx3 Rx4 hZ.rf h27) cl_X12_555 rfl rfl (Nat.le_of_ble_eq_true rfl) ⟨Nat.le_of_ble_eq_true rfl, Nat.le_of_ble_eq_true rfl⟩ dX12_reach_262 (fun r28 s29 F30 R31 hZ32 h33 => ?_)
                    obtain ⟨o34, h35⟩ := h33
                    exact zr_zret hC hZ32 o34 h35 dX12_reach_265
                · have h36 := h14.2 c15
                  refine g_aload_n hC dX12_reach_224 rfl ?_
                  refine g_bipush (v := zI 15) hC dX12_reach_225 rfl ?_
                  refine g_aload_n hC dX12_reach_227 rfl ?_
                  refine zr_get (e := (zv s0 44)) hC hZ fl_X12_145 zb_44 (by decide) rfl dX12_reach_228 ?_
                  refine g_iconst (v := zI 0) hC dX12_reach_231 rfl ?_
                  refine g_iconst (v := zI 0) hC dX12_reach_232 rfl ?_
                  refine zr_callVv (As := [.int (zI 15), .int (zI (zv s0 44)), .int (zI 0), .int (zI 0)]) hC hZ rfl (rm_goal X.la d b (by decide) (hZ.rv 44) (by decide) (by decide) hZ.rf h36) cl_X12_534 rfl rfl (Nat.le_of_ble_eq_true rfl) ⟨Nat.le_of_ble_eq_true rfl, Nat.le_of_ble_eq_true rfl⟩ dX12_reach_233 (fun s38 F39 hZ41 h42 => ?_)
                  refine g_aload_n hC dX12_reach_236 rfl ?_
                  refine g_bipush (v := zI 11) hC dX12_reach_237 rfl ?_
                  refine g_iconst (v := zI 0) hC dX12_reach_239 rfl ?_
                  refine g_iconst (v := zI 0) hC dX12_reach_240 rfl ?_
                  refine g_iconst (v := zI 0) hC dX12_reach_241 rfl ?_
                  refine zr_callVv (As := [.int (zI 11), .int (zI 0), .int (zI 0), .int (zI 0)]) hC hZ41 rfl (rm_goal X.la d b (by decide) (by decide) (by decide) (by decide) hZ41.rf h42) cl_X12_534 rfl rfl (Nat.le_of_ble_eq_true rfl) ⟨Nat.le_of_ble_eq_true rfl, Nat.le_of_ble_eq_true rfl⟩ dX12_reach_242 (fun s44 F45 hZ47 h48 => ?_)
                  refine g_aload_n hC dX12_reach_245 rfl ?_
                  refine zr_callVi (As := []) hC hZ47 rfl (rm_deeper X.la d b  hZ47.rf h48) cl_X12_530 rfl rfl (Nat.le_of_ble_eq_true rfl) ⟨Nat.le_of_ble_eq_true rfl, Nat.le_of_ble_eq_true rfl⟩ dX12_reach_246 (fun r49 s50 F51 R52 hZ53 h54 => ?_)
                  obtain ⟨o55, h56⟩ := h54
                  exact zr_zret hC hZ53 o55 h56 dX12_reach_249
              · have h57 := h12.2 c13
                refine g_aload_n hC dX12_reach_193 rfl ?_
                refine g_bipush (v := zI 48) hC dX12_reach_194 rfl ?_
                refine zr_callVi (As := [.int (zI 48)]) hC hZ rfl (rm_take X.la d b (by decide) hZ.rf h57) cl_X12_549 rfl rfl (Nat.le_of_ble_eq_true rfl) ⟨Nat.le_of_ble_eq_true rfl, Nat.le_of_ble_eq_true rfl⟩ dX12_reach_196 (fun r58 s59 F60 R61 hZ62 h63 => ?_)
                refine zr_if_ne (tgt := 212) hC R61 dX12_reach_199 (by decide) (fun c64 => ?_) (fun c64 => ?_)
                · have h65 := h63.1 c64
                  refine g_iconst (v := zI 1) hC dX12_reach_212 rfl ?_
                  refine g_goto (tgt := 217) hC dX12_reach_213 (by decide) ?_
                  exact zr_zret hC hZ62 (Or.inr rfl) h65 dX12_reach_217
                · have h66 := h63.2 c64
                  refine g_aload_n hC dX12_reach_202 rfl ?_
                  refine zr_callVi (As := []) hC hZ62 rfl (rm_tk X.la d b  hZ62.rf h66) cl_X12_526 rfl rfl (Nat.le_of_ble_eq_true rfl) ⟨Nat.le_of_ble_eq_true rfl, Nat.le_of_ble_eq_true rfl⟩ dX12_reach_203 (fun r67 s68 F69 R70 hZ71 h72 => ?_)
                  refine zr_callSi (As := [.int (zI r67)]) hC hZ71 (rm_isDoless X.la d b R70 hZ71.rf h72) cl_X12_474 rfl rfl (Nat.le_of_ble_eq_true rfl) ⟨Nat.le_of_ble_eq_true rfl, Nat.le_of_ble_eq_true rfl⟩ dX12_reach_206 (fun r73 s74 F75 R76 hZ77 h78 => ?_)
                  refine zr_if_eq (tgt := 216) hC R76 dX12_reach_209 (by decide) (fun c79 => ?_) (fun c79 => ?_)
                  · have h80 := h78.1 c79
                    refine g_iconst (v := zI 0) hC dX12_reach_216 rfl ?_
                    exact zr_zret hC hZ77 (Or.inl rfl) h80 dX12_reach_217
                  · have h81 := h78.2 c79
                    refine g_iconst (v := zI 1) hC dX12_reach_212 rfl ?_
                    refine g_goto (tgt := 217) hC dX12_reach_213 (by decide) ?_
                    exact zr_zret hC hZ77 (Or.inr rfl) h81 dX12_reach_217
            · have h82 := h10.2 c11
              refine g_aload_n hC dX12_reach_182 rfl ?_
              refine zr_callVi (As := []) hC hZ rfl (rm_openSection X.la d b  hZ.rf h82) cl_X12_552 rfl rfl (Nat.le_of_ble_eq_true rfl) ⟨Nat.le_of_ble_eq_true rfl, Nat.le_of_ble_eq_true rfl⟩ dX12_reach_183 (fun r83 s84 F85 R86 hZ87 h88 => ?_)
              obtain ⟨o89, h90⟩ := h88
              exact zr_zret hC hZ87 o89 h90 dX12_reach_186
          · have h91 := h8.2 c9
            refine g_aload_n hC dX12_reach_170 rfl ?_
            refine g_iload_n hC dX12_reach_171 rfl ?_
            refine zr_callVi (As := [.int (zI x2)]) hC hZ rfl (rm_take X.la d b Rx2 hZ.rf h91) cl_X12_549 rfl rfl (Nat.le_of_ble_eq_true rfl) ⟨Nat.le_of_ble_eq_true rfl, Nat.le_of_ble_eq_true rfl⟩ dX12_reach_172 (fun r92 s93 F94 R95 hZ96 h97 => ?_)
            obtain ⟨o98, h99⟩ := h97
            exact zr_zret hC hZ96 o98 h99 dX12_reach_175
        · have h100 := h6.2 c7
          refine g_aload_n hC dX12_reach_157 rfl ?_
          refine g_iload_n hC dX12_reach_158 rfl ?_
          refine zr_put hC hZ fl_X12_145 zb_44 (by decide) Rx2 dX12_reach_159 (fun F101 hZ102 => ?_)
          refine g_iconst (v := zI 1) hC dX12_reach_162 rfl ?_
          exact zr_zret hC hZ102 (Or.inr rfl) h100 dX12_reach_163
      · have h103 := h4.2 c5
        refine g_aload_n hC dX12_reach_125 rfl ?_
        refine g_iload_n hC dX12_reach_126 rfl ?_
        refine g_iload_n hC dX12_reach_127 rfl ?_
        refine g_iload hC dX12_reach_128 rfl ?_
        refine g_iconst (v := zI 0) hC dX12_reach_130 rfl ?_
        refine zr_callVi (As := [.int (zI x2), .int (zI x3), .int (zI x4), .int (zI 0)]) hC hZ rfl (rm_shut X.la d b Rx2 Rx3 Rx4 (by decide) hZ.rf h103) cl_X12_542 rfl rfl (Nat.le_of_ble_eq_true rfl) ⟨Nat.le_of_ble_eq_true rfl, Nat.le_of_ble_eq_true rfl⟩ dX12_reach_131 (fun r104 s105 F106 R107 hZ108 h109 => ?_)
        refine g_istore (lv' := [some (.ref t), some (.int (zI x1)), some (.int (zI x2)), some (.int (zI x3)), some (.int (zI x4)), some (.int (zI r104))]) hC dX12_reach_134 (Nat.le_of_ble_eq_true rfl) rfl rfl ?_
        refine g_iload_n hC dX12_reach_136 rfl ?_
        refine g_iconst (v := zI 4) hC dX12_reach_137 rfl ?_
        refine zr_icmp_ne (tgt := 149) hC Rx2 (by decide) dX12_reach_138 (by decide) (fun c110 => ?_) (fun c110 => ?_)
        · have h111 := h109.1 c110
          refine g_iconst (v := zI 1) hC dX12_reach_149 rfl ?_
          exact zr_zret hC hZ108 (Or.inr rfl) h111 dX12_reach_150
        · have h112 := h109.2 c110
          refine g_aload_n hC dX12_reach_141 rfl ?_
          refine zr_geta hC hZ108 fl_X12_102 zb_30 (by decide) dX12_reach_142 ?_
          refine g_iload hC dX12_reach_145 rfl ?_
          refine g_iconst (v := zI 0) hC dX12_reach_147 rfl ?_
          obtain ⟨o113, h114⟩ := h112
          obtain ⟨o115, h116⟩ := h114
          refine zr_iast hC hZ108 zk_30 zb_30 zn_30 (by decide) o113 o115 (by decide) dX12_reach_148 (fun F117 hZ118 => ?_)
          refine g_iconst (v := zI 1) hC dX12_reach_149 rfl ?_
          exact zr_zret hC hZ118 (Or.inr rfl) h116 dX12_reach_150
    · have h119 := h2.2 c3
      refine g_aload_n hC dX12_reach_50 rfl ?_
      refine zr_get (e := (zv s0 43)) hC hZ fl_X12_142 zb_43 (by decide) rfl dX12_reach_51 ?_
      refine g_aload_n hC dX12_reach_54 rfl ?_
      refine zr_get (e := (zv s0 8)) hC hZ fl_X12_36 zb_8 (by decide) rfl dX12_reach_55 ?_
      refine zr_icmp_ne (tgt := 74) hC (hZ.rv 43) (hZ.rv 8) dX12_reach_58 (by decide) (fun c120 => ?_) (fun c120 => ?_)
      · have h121 := h119.1 c120
        refine g_aload_n hC dX12_reach_74 rfl ?_
        refine g_bipush (v := zI 15) hC dX12_reach_75 rfl ?_
        refine zr_callVi (As := [.int (zI 15)]) hC hZ rfl (rm_take X.la d b (by decide) hZ.rf h121) cl_X12_549 rfl rfl (Nat.le_of_ble_eq_true rfl) ⟨Nat.le_of_ble_eq_true rfl, Nat.le_of_ble_eq_true rfl⟩ dX12_reach_77 (fun r122 s123 F124 R125 hZ126 h127 => ?_)
        refine zr_if_ne (tgt := 85) hC R125 dX12_reach_80 (by decide) (fun c128 => ?_) (fun c128 => ?_)
        · have h129 := h127.1 c128
          refine g_aload_n hC dX12_reach_85 rfl ?_
          refine zr_get (e := (zv s123 43)) hC hZ126 fl_X12_142 zb_43 (by decide) rfl dX12_reach_86 ?_
          refine g_aload_n hC dX12_reach_89 rfl ?_
          refine zr_get (e := (zv s123 8)) hC hZ126 fl_X12_36 zb_8 (by decide) rfl dX12_reach_90 ?_
          refine zr_icmp_ne (tgt := 109) hC (hZ126.rv 43) (hZ126.rv 8) dX12_reach_93 (by decide) (fun c130 => ?_) (fun c130 => ?_)
          · have h131 := h129.1 c130
            refine g_aload_n hC dX12_reach_109 rfl ?_
            refine g_iconst (v := zI 1) hC dX12_reach_110 rfl ?_
            refine g_iconst (v := zI 0) hC dX12_reach_111 rfl ?_
            refine g_iconst (v := zI 0) hC dX12_reach_112 rfl ?_
            refine g_iconst (v := zI 0) hC dX12_reach_113 rfl ?_
            refine zr_callVv (As := [.int (zI 1), .int (zI 0), .int (zI 0), .int (zI 0)]) hC hZ126 rfl (rm_goal X.la d b (by decide) (by decide) (by decide) (by decide) hZ126.rf h131) cl_X12_534 rfl rfl (Nat.le_of_ble_eq_true rfl) ⟨Nat.le_of_ble_eq_true rfl, Nat.le_of_ble_eq_true rfl⟩ dX12_reach_114 (fun s133 F134 hZ136 h137 => ?_)
            refine g_iconst (v := zI 1) hC dX12_reach_117 rfl ?_
            exact zr_zret hC hZ136 (Or.inr rfl) h137 dX12_reach_118
          · have h138 := h129.2 c130
            refine g_aload_n hC dX12_reach_96 rfl ?_
            refine zr_get (e := (zv s123 48)) hC hZ126 fl_X12_157 zb_48 (by decide) rfl dX12_reach_97 ?_
            refine zr_if_ge (tgt := 107) hC (hZ126.rv 48) dX12_reach_100 (by decide) (fun c139 => ?_) (fun c139 => ?_)
            · have h140 := h138.1 c139
              refine g_iconst (v := zI 0) hC dX12_reach_107 rfl ?_
              exact zr_zret hC hZ126 (Or.inl rfl) h140 dX12_reach_108
            · have h141 := h138.2 c139
              refine g_iconst (v := zI 1) hC dX12_reach_103 rfl ?_
              refine g_goto (tgt := 108) hC dX12_reach_104 (by decide) ?_
              exact zr_zret hC hZ126 (Or.inr rfl) h141 dX12_reach_108
        · have h142 := h127.2 c128
          refine g_iconst (v := zI 0) hC dX12_reach_83 rfl ?_
          exact zr_zret hC hZ126 (Or.inl rfl) h142 dX12_reach_84
      · have h143 := h119.2 c120
        refine g_aload_n hC dX12_reach_61 rfl ?_
        refine zr_get (e := (zv s0 48)) hC hZ fl_X12_157 zb_48 (by decide) rfl dX12_reach_62 ?_
        refine zr_if_ge (tgt := 72) hC (hZ.rv 48) dX12_reach_65 (by decide) (fun c144 => ?_) (fun c144 => ?_)
        · have h145 := h143.1 c144
          refine g_iconst (v := zI 0) hC dX12_reach_72 rfl ?_
          exact zr_zret hC hZ (Or.inl rfl) h145 dX12_reach_73
        · have h146 := h143.2 c144
          refine g_iconst (v := zI 1) hC dX12_reach_68 rfl ?_
          refine g_goto (tgt := 73) hC dX12_reach_69 (by decide) ?_
          exact zr_zret hC hZ (Or.inr rfl) h146 dX12_reach_73
  · have h147 := hw.2 c1
    refine g_aload_n hC dX12_reach_27 rfl ?_
    refine g_iconst (v := zI 2) hC dX12_reach_28 rfl ?_
    refine g_iconst (v := zI 0) hC dX12_reach_29 rfl ?_
    refine g_iconst (v := zI 0) hC dX12_reach_30 rfl ?_
    refine g_iconst (v := zI 0) hC dX12_reach_31 rfl ?_
    refine zr_callVv (As := [.int (zI 2), .int (zI 0), .int (zI 0), .int (zI 0)]) hC hZ rfl (rm_goal X.la d b (by decide) (by decide) (by decide) (by decide) hZ.rf h147) cl_X12_534 rfl rfl (Nat.le_of_ble_eq_true rfl) ⟨Nat.le_of_ble_eq_true rfl, Nat.le_of_ble_eq_true rfl⟩ dX12_reach_32 (fun s149 F150 hZ152 h153 => ?_)
    refine g_aload_n hC dX12_reach_35 rfl ?_
    refine g_iconst (v := zI 3) hC dX12_reach_36 rfl ?_
    refine g_iconst (v := zI 1) hC dX12_reach_37 rfl ?_
    refine g_iconst (v := zI 0) hC dX12_reach_38 rfl ?_
    refine g_iconst (v := zI 0) hC dX12_reach_39 rfl ?_
    refine zr_callVv (As := [.int (zI 3), .int (zI 1), .int (zI 0), .int (zI 0)]) hC hZ152 rfl (rm_goal X.la d b (by decide) (by decide) (by decide) (by decide) hZ152.rf h153) cl_X12_534 rfl rfl (Nat.le_of_ble_eq_true rfl) ⟨Nat.le_of_ble_eq_true rfl, Nat.le_of_ble_eq_true rfl⟩ dX12_reach_40 (fun s155 F156 hZ158 h159 => ?_)
    refine g_iconst (v := zI 1) hC dX12_reach_43 rfl ?_
    exact zr_zret hC hZ158 (Or.inr rfl) h159 dX12_reach_44
set_option maxHeartbeats 4000000 in
set_option maxRecDepth 100000 in
theorem rm_reach (l : Launch) (d : gD) (b : Nat) {t : Nat} {T : Nat → Nat} {F : gM} {s0 : zS} {a0 : Int} {a1 : Int} {a2 : Int} {a3 : Int} (Ra0 : zR a0) (Ra1 : zR a1) (Ra2 : zR a2) (Ra3 : zR a3) {Q : Int → zS → Prop} (hZ : zZ d t T F F s0) (hw : wr_reach s0 a0 a1 a2 a3 Q) : gMi l d b yX12_reach cX12_reach 6 .boolean 4 0 0 F [.ref t, .int (zI a0), .int (zI a1), .int (zI a2), .int (zI a3)] (zPi d t T F Q) := by
  refine gM_of2 rfl (nL := 6) (Nat.le_of_ble_eq_true rfl) ?_
  intro X hX hC; subst hX
  show gG X d b (zQi X d b t T F Q) F 0 0 0 [some (.ref t), some (.int (zI a0)), some (.int (zI a1)), some (.int (zI a2)), some (.int (zI a3)), none] []
  unfold wr_reach at hw
  refine g_iload_n hC dX12_reach_0 rfl ?_
  refine g_bipush (v := zI 28) hC dX12_reach_1 rfl ?_
  refine zr_icmp_lt (tgt := 22) hC Ra0 (by decide) dX12_reach_3 (by decide) (fun c1 => ?_) (fun c1 => ?_)
  · have h2 := hw.1 c1
    exact rj_reach_22 hC  Ra0 Ra1 Ra2 Ra3 hZ h2
  · have h3 := hw.2 c1
    refine g_iload_n hC dX12_reach_6 rfl ?_
    refine g_bipush (v := zI 40) hC dX12_reach_7 rfl ?_
    refine zr_icmp_gt (tgt := 22) hC Ra0 (by decide) dX12_reach_9 (by decide) (fun c4 => ?_) (fun c4 => ?_)
    · have h5 := h3.1 c4
      exact rj_reach_22 hC  Ra0 Ra1 Ra2 Ra3 hZ h5
    · have h6 := h3.2 c4
      refine g_aload_n hC dX12_reach_12 rfl ?_
      refine g_iload_n hC dX12_reach_13 rfl ?_
      refine g_iload_n hC dX12_reach_14 rfl ?_
      refine g_iload_n hC dX12_reach_15 rfl ?_
      refine g_iload hC dX12_reach_16 rfl ?_
      refine zr_callVi (As := [.int (zI a0), .int (zI a1), .int (zI a2), .int (zI a3)]) hC hZ rfl (rm_reachE X.la d b Ra0 Ra1 Ra2 Ra3 hZ.rf h6) cl_X12_546 rfl rfl (Nat.le_of_ble_eq_true rfl) ⟨Nat.le_of_ble_eq_true rfl, Nat.le_of_ble_eq_true rfl⟩ dX12_reach_18 (fun r7 s8 F9 R10 hZ11 h12 => ?_)
      obtain ⟨o13, h14⟩ := h12
      exact zr_zret hC hZ11 o13 h14 dX12_reach_21
theorem dX12_parse_0 : decode cX12_parse 0 = .ok (.aload_n 0, 1) := by decide +kernel
theorem dX12_parse_1 : decode cX12_parse 1 = .ok (.iconst 0, 1) := by decide +kernel
theorem dX12_parse_2 : decode cX12_parse 2 = .ok (.putfield 127, 3) := by decide +kernel
theorem dX12_parse_5 : decode cX12_parse 5 = .ok (.aload_n 0, 1) := by decide +kernel
theorem dX12_parse_6 : decode cX12_parse 6 = .ok (.iconst 0, 1) := by decide +kernel
theorem dX12_parse_7 : decode cX12_parse 7 = .ok (.putfield 124, 3) := by decide +kernel
theorem dX12_parse_10 : decode cX12_parse 10 = .ok (.aload_n 0, 1) := by decide +kernel
theorem dX12_parse_11 : decode cX12_parse 11 = .ok (.iconst 0, 1) := by decide +kernel
theorem dX12_parse_12 : decode cX12_parse 12 = .ok (.putfield 84, 3) := by decide +kernel
theorem dX12_parse_15 : decode cX12_parse 15 = .ok (.aload_n 0, 1) := by decide +kernel
theorem dX12_parse_16 : decode cX12_parse 16 = .ok (.iconst 0, 1) := by decide +kernel
theorem dX12_parse_17 : decode cX12_parse 17 = .ok (.putfield 142, 3) := by decide +kernel
theorem dX12_parse_20 : decode cX12_parse 20 = .ok (.aload_n 0, 1) := by decide +kernel
theorem dX12_parse_21 : decode cX12_parse 21 = .ok (.iconst 0, 1) := by decide +kernel
theorem dX12_parse_22 : decode cX12_parse 22 = .ok (.putfield 145, 3) := by decide +kernel
theorem dX12_parse_25 : decode cX12_parse 25 = .ok (.aload_n 0, 1) := by decide +kernel
theorem dX12_parse_26 : decode cX12_parse 26 = .ok (.iconst 0, 1) := by decide +kernel
theorem dX12_parse_27 : decode cX12_parse 27 = .ok (.putfield 148, 3) := by decide +kernel
theorem dX12_parse_30 : decode cX12_parse 30 = .ok (.aload_n 0, 1) := by decide +kernel
theorem dX12_parse_31 : decode cX12_parse 31 = .ok (.iconst 1, 1) := by decide +kernel
theorem dX12_parse_32 : decode cX12_parse 32 = .ok (.iconst 0, 1) := by decide +kernel
theorem dX12_parse_33 : decode cX12_parse 33 = .ok (.iconst 0, 1) := by decide +kernel
theorem dX12_parse_34 : decode cX12_parse 34 = .ok (.iconst 0, 1) := by decide +kernel
theorem dX12_parse_35 : decode cX12_parse 35 = .ok (.invokevirtual 534, 3) := by decide +kernel
theorem dX12_parse_38 : decode cX12_parse 38 = .ok (.aload_n 0, 1) := by decide +kernel
theorem dX12_parse_39 : decode cX12_parse 39 = .ok (.getfield 127, 3) := by decide +kernel
theorem dX12_parse_42 : decode cX12_parse 42 = .ok (.ifCond .le 58, 3) := by decide +kernel
theorem dX12_parse_45 : decode cX12_parse 45 = .ok (.aload_n 0, 1) := by decide +kernel
theorem dX12_parse_46 : decode cX12_parse 46 = .ok (.dup, 1) := by decide +kernel
theorem dX12_parse_47 : decode cX12_parse 47 = .ok (.getfield 127, 3) := by decide +kernel
theorem dX12_parse_50 : decode cX12_parse 50 = .ok (.iconst 1, 1) := by decide +kernel
theorem dX12_parse_51 : decode cX12_parse 51 = .ok (.isub, 1) := by decide +kernel
theorem dX12_parse_52 : decode cX12_parse 52 = .ok (.putfield 127, 3) := by decide +kernel
theorem dX12_parse_55 : decode cX12_parse 55 = .ok (.aload_n 0, 1) := by decide +kernel
theorem dX12_parse_56 : decode cX12_parse 56 = .ok (.aload_n 0, 1) := by decide +kernel
theorem dX12_parse_57 : decode cX12_parse 57 = .ok (.getfield 130, 3) := by decide +kernel
theorem dX12_parse_60 : decode cX12_parse 60 = .ok (.aload_n 0, 1) := by decide +kernel
theorem dX12_parse_61 : decode cX12_parse 61 = .ok (.getfield 127, 3) := by decide +kernel
theorem dX12_parse_64 : decode cX12_parse 64 = .ok (.iaload, 1) := by decide +kernel
theorem dX12_parse_65 : decode cX12_parse 65 = .ok (.aload_n 0, 1) := by decide +kernel
theorem dX12_parse_66 : decode cX12_parse 66 = .ok (.getfield 133, 3) := by decide +kernel
theorem dX12_parse_69 : decode cX12_parse 69 = .ok (.aload_n 0, 1) := by decide +kernel
theorem dX12_parse_70 : decode cX12_parse 70 = .ok (.getfield 127, 3) := by decide +kernel
theorem dX12_parse_73 : decode cX12_parse 73 = .ok (.iaload, 1) := by decide +kernel
theorem dX12_parse_74 : decode cX12_parse 74 = .ok (.aload_n 0, 1) := by decide +kernel
theorem dX12_parse_75 : decode cX12_parse 75 = .ok (.getfield 136, 3) := by decide +kernel
theorem dX12_parse_78 : decode cX12_parse 78 = .ok (.aload_n 0, 1) := by decide +kernel
theorem dX12_parse_79 : decode cX12_parse 79 = .ok (.getfield 127, 3) := by decide +kernel
theorem dX12_parse_82 : decode cX12_parse 82 = .ok (.iaload, 1) := by decide +kernel
theorem dX12_parse_83 : decode cX12_parse 83 = .ok (.aload_n 0, 1) := by decide +kernel
theorem dX12_parse_84 : decode cX12_parse 84 = .ok (.getfield 139, 3) := by decide +kernel
theorem dX12_parse_87 : decode cX12_parse 87 = .ok (.aload_n 0, 1) := by decide +kernel
theorem dX12_parse_88 : decode cX12_parse 88 = .ok (.getfield 127, 3) := by decide +kernel
theorem dX12_parse_91 : decode cX12_parse 91 = .ok (.iaload, 1) := by decide +kernel
theorem dX12_parse_92 : decode cX12_parse 92 = .ok (.invokevirtual 538, 3) := by decide +kernel
theorem dX12_parse_95 : decode cX12_parse 95 = .ok (.ifCond .ne (-57), 3) := by decide +kernel
theorem dX12_parse_98 : decode cX12_parse 98 = .ok (.iconst 0, 1) := by decide +kernel
theorem dX12_parse_99 : decode cX12_parse 99 = .ok (.ireturn, 1) := by decide +kernel
theorem dX12_parse_100 : decode cX12_parse 100 = .ok (.aload_n 0, 1) := by decide +kernel
theorem dX12_parse_101 : decode cX12_parse 101 = .ok (.bipush 60, 2) := by decide +kernel
theorem dX12_parse_103 : decode cX12_parse 103 = .ok (.iconst 0, 1) := by decide +kernel
theorem dX12_parse_104 : decode cX12_parse 104 = .ok (.iconst 0, 1) := by decide +kernel
theorem dX12_parse_105 : decode cX12_parse 105 = .ok (.iconst 0, 1) := by decide +kernel
theorem dX12_parse_106 : decode cX12_parse 106 = .ok (.invokevirtual 542, 3) := by decide +kernel
theorem dX12_parse_109 : decode cX12_parse 109 = .ok (.pop, 1) := by decide +kernel
theorem dX12_parse_110 : decode cX12_parse 110 = .ok (.iconst 1, 1) := by decide +kernel
theorem dX12_parse_111 : decode cX12_parse 111 = .ok (.ireturn, 1) := by decide +kernel
def wr_parse_38B (Q : Int → zS → Prop) (k38 : zS → Prop) (s0 : zS)  : Prop :=
  (((zv s0 38) ≤ 0 → wr_shut s0 60 0 0 0 (fun r3 s4 => Q 1 s4)) ∧ (¬ (zv s0 38) ≤ 0 → (zR ((zv s0 38) - 1)) ∧ (0 ≤ ((zv s0 38) - 1)) ∧ (((zv s0 38) - 1) < 9000) ∧ (0 ≤ ((zv s0 38) - 1)) ∧ (((zv s0 38) - 1) < 9000) ∧ (0 ≤ ((zv s0 38) - 1)) ∧ (((zv s0 38) - 1) < 9000) ∧ (0 ≤ ((zv s0 38) - 1)) ∧ (((zv s0 38) - 1) < 9000) ∧ wr_reach (zpv s0 38 ((zv s0 38) - 1)) (za s0 39 (Int.toNat ((zv s0 38) - 1))) (za s0 40 (Int.toNat ((zv s0 38) - 1))) (za s0 41 (Int.toNat ((zv s0 38) - 1))) (za s0 42 (Int.toNat ((zv s0 38) - 1))) (fun r30 s31 => ((¬ r30 = 0 → k38 s31 ) ∧ (r30 = 0 → Q 0 s31)))))
def wr_parse_38 (Q : Int → zS → Prop)  : Nat → zS → Prop
  | 0 => fun _ => False
  | m + 1 => fun s0  => wr_parse_38B Q  (wr_parse_38 Q  m) s0 
def wr_parse (s0 : zS)  (Q : Int → zS → Prop) : Prop :=
  wr_goal (zpv (zpv (zpv (zpv (zpv (zpv s0 38 0) 37 0) 24 0) 43 0) 44 0) 45 0) 1 0 0 0 (fun s14 => ∃ n, wr_parse_38 Q  n s14 )
set_option maxHeartbeats 4000000 in
set_option maxRecDepth 100000 in
theorem rb_parse_38 {X : gX} {d : gD} {b t : Nat} {T : Nat → Nat} {F0 : gM} (hC : gC RX12 cX12_parse 1 (some .boolean) "parse" (gR 5 0 0) d b X) {Q : Int → zS → Prop} {k38 : zS → Prop} (hk38 : ∀ (F : gM) (s0 : zS), zZ d t T F0 F s0 → k38 s0  → gG X d b (zQi X d b t T F0 Q) F 0 0 38 [some (.ref t)] []) {F : gM} {s0 : zS}   (hZ : zZ d t T F0 F s0) (hw : wr_parse_38B Q k38 s0 ) : gG X d b (zQi X d b t T F0 Q) F 0 0 38 [some (.ref t)] [] := by
  unfold wr_parse_38B at hw
  refine g_aload_n hC dX12_parse_38 rfl ?_
  refine zr_get (e := (zv s0 38)) hC hZ fl_X12_127 zb_38 (by decide) rfl dX12_parse_39 ?_
  refine zr_if_le (tgt := 100) hC (hZ.rv 38) dX12_parse_42 (by decide) (fun c1 => ?_) (fun c1 => ?_)
  · have h2 := hw.1 c1
    refine g_aload_n hC dX12_parse_100 rfl ?_
    refine g_bipush (v := zI 60) hC dX12_parse_101 rfl ?_
    refine g_iconst (v := zI 0) hC dX12_parse_103 rfl ?_
    refine g_iconst (v := zI 0) hC dX12_parse_104 rfl ?_
    refine g_iconst (v := zI 0) hC dX12_parse_105 rfl ?_
    refine zr_callVi (As := [.int (zI 60), .int (zI 0), .int (zI 0), .int (zI 0)]) hC hZ rfl (rm_shut X.la d b (by decide) (by decide) (by decide) (by decide) hZ.rf h2) cl_X12_542 rfl rfl (Nat.le_of_ble_eq_true rfl) ⟨Nat.le_of_ble_eq_true rfl, Nat.le_of_ble_eq_true rfl⟩ dX12_parse_106 (fun r3 s4 F5 R6 hZ7 h8 => ?_)
    refine g_pop hC dX12_parse_109 rfl ?_
    refine g_iconst (v := zI 1) hC dX12_parse_110 rfl ?_
    exact zr_zret hC hZ7 (Or.inr rfl) h8 dX12_parse_111
  · have h9 := hw.2 c1
    refine g_aload_n hC dX12_parse_45 rfl ?_
    refine g_dup hC dX12_parse_46 rfl ?_
    refine zr_get (e := (zv s0 38)) hC hZ fl_X12_127 zb_38 (by decide) rfl dX12_parse_47 ?_
    refine g_iconst (v := zI 1) hC dX12_parse_50 rfl ?_
    refine zr_isub hC dX12_parse_51 ?_
    obtain ⟨o10, h11⟩ := h9
    refine zr_put hC hZ fl_X12_127 zb_38 (by decide) o10 dX12_parse_52 (fun F12 hZ13 => ?_)
    refine g_aload_n hC dX12_parse_55 rfl ?_
    refine g_aload_n hC dX12_parse_56 rfl ?_
    refine zr_geta hC hZ13 fl_X12_130 zb_39 (by decide) dX12_parse_57 ?_
    refine g_aload_n hC dX12_parse_60 rfl ?_
    refine zr_get (e := ((zv s0 38) - 1)) hC hZ13 fl_X12_127 zb_38 (by decide) rfl dX12_parse_61 ?_
    obtain ⟨o14, h15⟩ := h11
    obtain ⟨o16, h17⟩ := h15
    refine zr_iald (v := (za s0 39 (Int.toNat ((zv s0 38) - 1)))) hC hZ13 zk_39 zb_39 zn_39 (by decide) o14 o16 rfl dX12_parse_64 ?_
    refine g_aload_n hC dX12_parse_65 rfl ?_
    refine zr_geta hC hZ13 fl_X12_133 zb_40 (by decide) dX12_parse_66 ?_
    refine g_aload_n hC dX12_parse_69 rfl ?_
    refine zr_get (e := ((zv s0 38) - 1)) hC hZ13 fl_X12_127 zb_38 (by decide) rfl dX12_parse_70 ?_
    obtain ⟨o18, h19⟩ := h17
    obtain ⟨o20, h21⟩ := h19
    refine zr_iald (v := (za s0 40 (Int.toNat ((zv s0 38) - 1)))) hC hZ13 zk_40 zb_40 zn_40 (by decide) o18 o20 rfl dX12_parse_73 ?_
    refine g_aload_n hC dX12_parse_74 rfl ?_
    refine zr_geta hC hZ13 fl_X12_136 zb_41 (by decide) dX12_parse_75 ?_
    refine g_aload_n hC dX12_parse_78 rfl ?_
    refine zr_get (e := ((zv s0 38) - 1)) hC hZ13 fl_X12_127 zb_38 (by decide) rfl dX12_parse_79 ?_
    obtain ⟨o22, h23⟩ := h21
    obtain ⟨o24, h25⟩ := h23
    refine zr_iald (v := (za s0 41 (Int.toNat ((zv s0 38) - 1)))) hC hZ13 zk_41 zb_41 zn_41 (by decide) o22 o24 rfl dX12_parse_82 ?_
    refine g_aload_n hC dX12_parse_83 rfl ?_
    refine zr_geta hC hZ13 fl_X12_139 zb_42 (by decide) dX12_parse_84 ?_
    refine g_aload_n hC dX12_parse_87 rfl ?_
    refine zr_get (e := ((zv s0 38) - 1)) hC hZ13 fl_X12_127 zb_38 (by decide) rfl dX12_parse_88 ?_
    obtain ⟨o26, h27⟩ := h25
    obtain ⟨o28, h29⟩ := h27
    refine zr_iald (v := (za s0 42 (Int.toNat ((zv s0 38) - 1)))) hC hZ13 zk_42 zb_42 zn_42 (by decide) o26 o28 rfl dX12_parse_91 ?_
    refine zr_callVi (As := [.int (zI (za s0 39 (Int.toNat ((zv s0 38) - 1)))), .int (zI (za s0 40 (Int.toNat ((zv s0 38) - 1)))), .int (zI (za s0 41 (Int.toNat ((zv s0 38) - 1)))), .int (zI (za s0 42 (Int.toNat ((zv s0 38) - 1))))]) hC hZ13 rfl (rm_reach X.la d b (hZ.ra 39 _) (hZ.ra 40 _) (hZ.ra 41 _) (hZ.ra 42 _) hZ13.rf h29) cl_X12_538 rfl rfl (Nat.le_of_ble_eq_true rfl) ⟨Nat.le_of_ble_eq_true rfl, Nat.le_of_ble_eq_true rfl⟩ dX12_parse_92 (fun r30 s31 F32 R33 hZ34 h35 => ?_)
    refine zr_if_ne (tgt := 38) hC R33 dX12_parse_95 (by decide) (fun c36 => ?_) (fun c36 => ?_)
    · have h37 := h35.1 c36
      exact hk38 _ _   hZ34 h37
    · have h38 := h35.2 c36
      refine g_iconst (v := zI 0) hC dX12_parse_98 rfl ?_
      exact zr_zret hC hZ34 (Or.inl rfl) h38 dX12_parse_99
theorem rl_parse_38 {X : gX} {d : gD} {b t : Nat} {T : Nat → Nat} {F0 : gM} (hC : gC RX12 cX12_parse 1 (some .boolean) "parse" (gR 5 0 0) d b X) {Q : Int → zS → Prop}   : ∀ (m : Nat) (F : gM) (s0 : zS), zZ d t T F0 F s0 → wr_parse_38 Q  m s0  → gG X d b (zQi X d b t T F0 Q) F 0 0 38 [some (.ref t)] [] := by
  intro m
  induction m with
  | zero => intro F s0   hZ hw; exact False.elim hw
  | succ m ih => intro F s0   hZ hw; exact rb_parse_38 hC  ih  hZ hw
set_option maxHeartbeats 4000000 in
set_option maxRecDepth 100000 in
theorem rm_parse (l : Launch) (d : gD) (b : Nat) {t : Nat} {T : Nat → Nat} {F : gM} {s0 : zS}   {Q : Int → zS → Prop} (hZ : zZ d t T F F s0) (hw : wr_parse s0  Q) : gMi l d b yX12_parse cX12_parse 1 .boolean 5 0 0 F [.ref t] (zPi d t T F Q) := by
  refine gM_of2 rfl (nL := 1) (Nat.le_of_ble_eq_true rfl) ?_
  intro X hX hC; subst hX
  show gG X d b (zQi X d b t T F Q) F 0 0 0 [some (.ref t)] []
  unfold wr_parse at hw
  refine g_aload_n hC dX12_parse_0 rfl ?_
  refine g_iconst (v := zI 0) hC dX12_parse_1 rfl ?_
  refine zr_put hC hZ fl_X12_127 zb_38 (by decide) (by decide) dX12_parse_2 (fun F1 hZ2 => ?_)
  refine g_aload_n hC dX12_parse_5 rfl ?_
  refine g_iconst (v := zI 0) hC dX12_parse_6 rfl ?_
  refine zr_put hC hZ2 fl_X12_124 zb_37 (by decide) (by decide) dX12_parse_7 (fun F3 hZ4 => ?_)
  refine g_aload_n hC dX12_parse_10 rfl ?_
  refine g_iconst (v := zI 0) hC dX12_parse_11 rfl ?_
  refine zr_put hC hZ4 fl_X12_84 zb_24 (by decide) (by decide) dX12_parse_12 (fun F5 hZ6 => ?_)
  refine g_aload_n hC dX12_parse_15 rfl ?_
  refine g_iconst (v := zI 0) hC dX12_parse_16 rfl ?_
  refine zr_put hC hZ6 fl_X12_142 zb_43 (by decide) (by decide) dX12_parse_17 (fun F7 hZ8 => ?_)
  refine g_aload_n hC dX12_parse_20 rfl ?_
  refine g_iconst (v := zI 0) hC dX12_parse_21 rfl ?_
  refine zr_put hC hZ8 fl_X12_145 zb_44 (by decide) (by decide) dX12_parse_22 (fun F9 hZ10 => ?_)
  refine g_aload_n hC dX12_parse_25 rfl ?_
  refine g_iconst (v := zI 0) hC dX12_parse_26 rfl ?_
  refine zr_put hC hZ10 fl_X12_148 zb_45 (by decide) (by decide) dX12_parse_27 (fun F11 hZ12 => ?_)
  refine g_aload_n hC dX12_parse_30 rfl ?_
  refine g_iconst (v := zI 1) hC dX12_parse_31 rfl ?_
  refine g_iconst (v := zI 0) hC dX12_parse_32 rfl ?_
  refine g_iconst (v := zI 0) hC dX12_parse_33 rfl ?_
  refine g_iconst (v := zI 0) hC dX12_parse_34 rfl ?_
  refine zr_callVv (As := [.int (zI 1), .int (zI 0), .int (zI 0), .int (zI 0)]) hC hZ12 rfl (rm_goal X.la d b (by decide) (by decide) (by decide) (by decide) hZ12.rf hw) cl_X12_534 rfl rfl (Nat.le_of_ble_eq_true rfl) ⟨Nat.le_of_ble_eq_true rfl, Nat.le_of_ble_eq_true rfl⟩ dX12_parse_35 (fun s14 F15 hZ17 h18 => ?_)
  obtain ⟨m19, h20⟩ := h18
  exact rl_parse_38 hC  m19 _ _   hZ17 h20
theorem dX12_fault_0 : decode cX12_fault 0 = .ok (.aload_n 0, 1) := by decide +kernel
theorem dX12_fault_1 : decode cX12_fault 1 = .ok (.getfield 48, 3) := by decide +kernel
theorem dX12_fault_4 : decode cX12_fault 4 = .ok (.ifCond .eq 28, 3) := by decide +kernel
theorem dX12_fault_7 : decode cX12_fault 7 = .ok (.iload_n 2, 1) := by decide +kernel
theorem dX12_fault_8 : decode cX12_fault 8 = .ok (.aload_n 0, 1) := by decide +kernel
theorem dX12_fault_9 : decode cX12_fault 9 = .ok (.getfield 51, 3) := by decide +kernel
theorem dX12_fault_12 : decode cX12_fault 12 = .ok (.if_icmp .gt 19, 3) := by decide +kernel
theorem dX12_fault_15 : decode cX12_fault 15 = .ok (.iload_n 2, 1) := by decide +kernel
theorem dX12_fault_16 : decode cX12_fault 16 = .ok (.aload_n 0, 1) := by decide +kernel
theorem dX12_fault_17 : decode cX12_fault 17 = .ok (.getfield 51, 3) := by decide +kernel
theorem dX12_fault_20 : decode cX12_fault 20 = .ok (.if_icmp .ne 12, 3) := by decide +kernel
theorem dX12_fault_23 : decode cX12_fault 23 = .ok (.iload_n 1, 1) := by decide +kernel
theorem dX12_fault_24 : decode cX12_fault 24 = .ok (.aload_n 0, 1) := by decide +kernel
theorem dX12_fault_25 : decode cX12_fault 25 = .ok (.getfield 48, 3) := by decide +kernel
theorem dX12_fault_28 : decode cX12_fault 28 = .ok (.if_icmp .lt 4, 3) := by decide +kernel
theorem dX12_fault_31 : decode cX12_fault 31 = .ok (.return_, 1) := by decide +kernel
theorem dX12_fault_32 : decode cX12_fault 32 = .ok (.aload_n 0, 1) := by decide +kernel
theorem dX12_fault_33 : decode cX12_fault 33 = .ok (.iload_n 1, 1) := by decide +kernel
theorem dX12_fault_34 : decode cX12_fault 34 = .ok (.putfield 48, 3) := by decide +kernel
theorem dX12_fault_37 : decode cX12_fault 37 = .ok (.aload_n 0, 1) := by decide +kernel
theorem dX12_fault_38 : decode cX12_fault 38 = .ok (.iload_n 2, 1) := by decide +kernel
theorem dX12_fault_39 : decode cX12_fault 39 = .ok (.putfield 51, 3) := by decide +kernel
theorem dX12_fault_42 : decode cX12_fault 42 = .ok (.return_, 1) := by decide +kernel
def wr_fault (s0 : zS) (a0 : Int) (a1 : Int) (Q : zS → Prop) : Prop :=
  (((zv s0 12) = 0 → Q (zpv (zpv s0 12 a0) 13 a1)) ∧ (¬ (zv s0 12) = 0 → (((zv s0 13) < a1 → Q s0) ∧ (¬ (zv s0 13) < a1 → ((¬ a1 = (zv s0 13) → Q (zpv (zpv s0 12 a0) 13 a1)) ∧ (a1 = (zv s0 13) → ((a0 < (zv s0 12) → Q (zpv (zpv s0 12 a0) 13 a1)) ∧ (¬ a0 < (zv s0 12) → Q s0))))))))
set_option maxHeartbeats 4000000 in
set_option maxRecDepth 100000 in
theorem rm_fault (l : Launch) (d : gD) (b : Nat) {t : Nat} {T : Nat → Nat} {F : gM} {s0 : zS} {a0 : Int} {a1 : Int} (Ra0 : zR a0) (Ra1 : zR a1) {Q : zS → Prop} (hZ : zZ d t T F F s0) (hw : wr_fault s0 a0 a1 Q) : gMv l d b yX12_fault cX12_fault 3 0 0 0 F [.ref t, .int (zI a0), .int (zI a1)] (zPv d t T F Q) := by
  refine gM_of2 rfl (nL := 3) (Nat.le_of_ble_eq_true rfl) ?_
  intro X hX hC; subst hX
  show gG X d b (zQv X d b t T F Q) F 0 0 0 [some (.ref t), some (.int (zI a0)), some (.int (zI a1))] []
  unfold wr_fault at hw
  refine g_aload_n hC dX12_fault_0 rfl ?_
  refine zr_get (e := (zv s0 12)) hC hZ fl_X12_48 zb_12 (by decide) rfl dX12_fault_1 ?_
  refine zr_if_eq (tgt := 32) hC (hZ.rv 12) dX12_fault_4 (by decide) (fun c1 => ?_) (fun c1 => ?_)
  · have h2 := hw.1 c1
    refine g_aload_n hC dX12_fault_32 rfl ?_
    refine g_iload_n hC dX12_fault_33 rfl ?_
    refine zr_put hC hZ fl_X12_48 zb_12 (by decide) Ra0 dX12_fault_34 (fun F3 hZ4 => ?_)
    refine g_aload_n hC dX12_fault_37 rfl ?_
    refine g_iload_n hC dX12_fault_38 rfl ?_
    refine zr_put hC hZ4 fl_X12_51 zb_13 (by decide) Ra1 dX12_fault_39 (fun F5 hZ6 => ?_)
    exact zr_vret hC hZ6 h2 dX12_fault_42
  · have h7 := hw.2 c1
    refine g_iload_n hC dX12_fault_7 rfl ?_
    refine g_aload_n hC dX12_fault_8 rfl ?_
    refine zr_get (e := (zv s0 13)) hC hZ fl_X12_51 zb_13 (by decide) rfl dX12_fault_9 ?_
    refine zr_icmp_gt (tgt := 31) hC Ra1 (hZ.rv 13) dX12_fault_12 (by decide) (fun c8 => ?_) (fun c8 => ?_)
    · have h9 := h7.1 c8
      exact zr_vret hC hZ h9 dX12_fault_31
    · have h10 := h7.2 c8
      refine g_iload_n hC dX12_fault_15 rfl ?_
      refine g_aload_n hC dX12_fault_16 rfl ?_
      refine zr_get (e := (zv s0 13)) hC hZ fl_X12_51 zb_13 (by decide) rfl dX12_fault_17 ?_
      refine zr_icmp_ne (tgt := 32) hC Ra1 (hZ.rv 13) dX12_fault_20 (by decide) (fun c11 => ?_) (fun c11 => ?_)
      · have h12 := h10.1 c11
        refine g_aload_n hC dX12_fault_32 rfl ?_
        refine g_iload_n hC dX12_fault_33 rfl ?_
        refine zr_put hC hZ fl_X12_48 zb_12 (by decide) Ra0 dX12_fault_34 (fun F13 hZ14 => ?_)
        refine g_aload_n hC dX12_fault_37 rfl ?_
        refine g_iload_n hC dX12_fault_38 rfl ?_
        refine zr_put hC hZ14 fl_X12_51 zb_13 (by decide) Ra1 dX12_fault_39 (fun F15 hZ16 => ?_)
        exact zr_vret hC hZ16 h12 dX12_fault_42
      · have h17 := h10.2 c11
        refine g_iload_n hC dX12_fault_23 rfl ?_
        refine g_aload_n hC dX12_fault_24 rfl ?_
        refine zr_get (e := (zv s0 12)) hC hZ fl_X12_48 zb_12 (by decide) rfl dX12_fault_25 ?_
        refine zr_icmp_lt (tgt := 32) hC Ra0 (hZ.rv 12) dX12_fault_28 (by decide) (fun c18 => ?_) (fun c18 => ?_)
        · have h19 := h17.1 c18
          refine g_aload_n hC dX12_fault_32 rfl ?_
          refine g_iload_n hC dX12_fault_33 rfl ?_
          refine zr_put hC hZ fl_X12_48 zb_12 (by decide) Ra0 dX12_fault_34 (fun F20 hZ21 => ?_)
          refine g_aload_n hC dX12_fault_37 rfl ?_
          refine g_iload_n hC dX12_fault_38 rfl ?_
          refine zr_put hC hZ21 fl_X12_51 zb_13 (by decide) Ra1 dX12_fault_39 (fun F22 hZ23 => ?_)
          exact zr_vret hC hZ23 h19 dX12_fault_42
        · have h24 := h17.2 c18
          exact zr_vret hC hZ h24 dX12_fault_31
theorem dX12_place_0 : decode cX12_place 0 = .ok (.aload_n 0, 1) := by decide +kernel
theorem dX12_place_1 : decode cX12_place 1 = .ok (.getfield 42, 3) := by decide +kernel
theorem dX12_place_4 : decode cX12_place 4 = .ok (.iload_n 1, 1) := by decide +kernel
theorem dX12_place_5 : decode cX12_place 5 = .ok (.iaload, 1) := by decide +kernel
theorem dX12_place_6 : decode cX12_place 6 = .ok (.ireturn, 1) := by decide +kernel
def wr_place (s0 : zS) (a0 : Int) (Q : Int → zS → Prop) : Prop :=
  (0 ≤ a0) ∧ (a0 < 12100) ∧ Q (za s0 10 (Int.toNat a0)) s0
set_option maxHeartbeats 4000000 in
set_option maxRecDepth 100000 in
theorem rm_place (l : Launch) (d : gD) (b : Nat) {t : Nat} {T : Nat → Nat} {F : gM} {s0 : zS} {a0 : Int} (Ra0 : zR a0) {Q : Int → zS → Prop} (hZ : zZ d t T F F s0) (hw : wr_place s0 a0 Q) : gMi l d b yX12_place cX12_place 2 .int 0 0 0 F [.ref t, .int (zI a0)] (zPi d t T F Q) := by
  refine gM_of2 rfl (nL := 2) (Nat.le_of_ble_eq_true rfl) ?_
  intro X hX hC; subst hX
  show gG X d b (zQi X d b t T F Q) F 0 0 0 [some (.ref t), some (.int (zI a0))] []
  unfold wr_place at hw
  refine g_aload_n hC dX12_place_0 rfl ?_
  refine zr_geta hC hZ fl_X12_42 zb_10 (by decide) dX12_place_1 ?_
  refine g_iload_n hC dX12_place_4 rfl ?_
  obtain ⟨o1, h2⟩ := hw
  obtain ⟨o3, h4⟩ := h2
  refine zr_iald (v := (za s0 10 (Int.toNat a0))) hC hZ zk_10 zb_10 zn_10 (by decide) o1 o3 rfl dX12_place_5 ?_
  exact zr_iret hC hZ (hZ.ra 10 _) h4 dX12_place_6
theorem dX12_means_0 : decode cX12_means 0 = .ok (.aload_n 0, 1) := by decide +kernel
theorem dX12_means_1 : decode cX12_means 1 = .ok (.getfield 160, 3) := by decide +kernel
theorem dX12_means_4 : decode cX12_means 4 = .ok (.iconst 1, 1) := by decide +kernel
theorem dX12_means_5 : decode cX12_means 5 = .ok (.isub, 1) := by decide +kernel
theorem dX12_means_6 : decode cX12_means 6 = .ok (.istore_n 2, 1) := by decide +kernel
theorem dX12_means_7 : decode cX12_means 7 = .ok (.iload_n 2, 1) := by decide +kernel
theorem dX12_means_8 : decode cX12_means 8 = .ok (.ifCond .lt 21, 3) := by decide +kernel
theorem dX12_means_11 : decode cX12_means 11 = .ok (.aload_n 0, 1) := by decide +kernel
theorem dX12_means_12 : decode cX12_means 12 = .ok (.getfield 163, 3) := by decide +kernel
theorem dX12_means_15 : decode cX12_means 15 = .ok (.iload_n 2, 1) := by decide +kernel
theorem dX12_means_16 : decode cX12_means 16 = .ok (.iaload, 1) := by decide +kernel
theorem dX12_means_17 : decode cX12_means 17 = .ok (.iload_n 1, 1) := by decide +kernel
theorem dX12_means_18 : decode cX12_means 18 = .ok (.if_icmp .ne 5, 3) := by decide +kernel
theorem dX12_means_21 : decode cX12_means 21 = .ok (.iload_n 2, 1) := by decide +kernel
theorem dX12_means_22 : decode cX12_means 22 = .ok (.ireturn, 1) := by decide +kernel
theorem dX12_means_23 : decode cX12_means 23 = .ok (.iinc 2 (-1), 3) := by decide +kernel
theorem dX12_means_26 : decode cX12_means 26 = .ok (.goto (-19), 3) := by decide +kernel
theorem dX12_means_29 : decode cX12_means 29 = .ok (.iconst (-1), 1) := by decide +kernel
theorem dX12_means_30 : decode cX12_means 30 = .ok (.ireturn, 1) := by decide +kernel
def wr_means_7B (Q : Int → zS → Prop) (k7 : zS → Int → Int → Prop) (s0 : zS) (x1 : Int) (x2 : Int) : Prop :=
  ((x2 < 0 → Q (-1) s0) ∧ (¬ x2 < 0 → (0 ≤ x2) ∧ (x2 < 9000) ∧ ((¬ (za s0 50 (Int.toNat x2)) = x1 → (zR (x2 + (-1))) ∧ k7 s0 x1 (x2 + (-1))) ∧ ((za s0 50 (Int.toNat x2)) = x1 → Q x2 s0))))
def wr_means_7 (Q : Int → zS → Prop)  : Nat → zS → Int → Int → Prop
  | 0 => fun _ _ _ => False
  | m + 1 => fun s0 x1 x2 => wr_means_7B Q  (wr_means_7 Q  m) s0 x1 x2
def wr_means (s0 : zS) (a0 : Int) (Q : Int → zS → Prop) : Prop :=
  (zR ((zv s0 49) - 1)) ∧ ∃ n, wr_means_7 Q  n s0 a0 ((zv s0 49) - 1)
set_option maxHeartbeats 4000000 in
set_option maxRecDepth 100000 in
theorem rb_means_7 {X : gX} {d : gD} {b t : Nat} {T : Nat → Nat} {F0 : gM} (hC : gC RX12 cX12_means 3 (some .int) "means" (gR 0 0 0) d b X) {Q : Int → zS → Prop} {k7 : zS → Int → Int → Prop} (hk7 : ∀ (F : gM) (s0 : zS) (x1 : Int) (x2 : Int), zR x1 → zR x2 → zZ d t T F0 F s0 → k7 s0 x1 x2 → gG X d b (zQi X d b t T F0 Q) F 0 0 7 [some (.ref t), some (.int (zI x1)), some (.int (zI x2))] []) {F : gM} {s0 : zS} {x1 : Int} {x2 : Int} (Rx1 : zR x1) (Rx2 : zR x2) (hZ : zZ d t T F0 F s0) (hw : wr_means_7B Q k7 s0 x1 x2) : gG X d b (zQi X d b t T F0 Q) F 0 0 7 [some (.ref t), some (.int (zI x1)), some (.int (zI x2))] [] := by
  unfold wr_means_7B at hw
  refine g_iload_n hC dX12_means_7 rfl ?_
  refine zr_if_lt (tgt := 29) hC Rx2 dX12_means_8 (by decide) (fun c1 => ?_) (fun c1 => ?_)
  · have h2 := hw.1 c1
    refine g_iconst (v := zI (-1)) hC dX12_means_29 rfl ?_
    exact zr_iret hC hZ (by decide) h2 dX12_means_30
  · have h3 := hw.2 c1
    refine g_aload_n hC dX12_means_11 rfl ?_
    refine zr_geta hC hZ fl_X12_163 zb_50 (by decide) dX12_means_12 ?_
    refine g_iload_n hC dX12_means_15 rfl ?_
    obtain ⟨o4, h5⟩ := h3
    obtain ⟨o6, h7⟩ := h5
    refine zr_iald (v := (za s0 50 (Int.toNat x2))) hC hZ zk_50 zb_50 zn_50 (by decide) o4 o6 rfl dX12_means_16 ?_
    refine g_iload_n hC dX12_means_17 rfl ?_
    refine zr_icmp_ne (tgt := 23) hC (hZ.ra 50 _) Rx1 dX12_means_18 (by decide) (fun c8 => ?_) (fun c8 => ?_)
    · have h9 := h7.1 c8
      refine zr_iinc (x := x2) (lv' := [some (.ref t), some (.int (zI x1)), some (.int (zI (x2 + (-1))))]) hC dX12_means_23 rfl rfl rfl ?_
      refine g_goto (tgt := 7) hC dX12_means_26 (by decide) ?_
      obtain ⟨o10, h11⟩ := h9
      exact hk7 _ _ _ _ Rx1 o10 hZ h11
    · have h12 := h7.2 c8
      refine g_iload_n hC dX12_means_21 rfl ?_
      exact zr_iret hC hZ Rx2 h12 dX12_means_22
theorem rl_means_7 {X : gX} {d : gD} {b t : Nat} {T : Nat → Nat} {F0 : gM} (hC : gC RX12 cX12_means 3 (some .int) "means" (gR 0 0 0) d b X) {Q : Int → zS → Prop}   : ∀ (m : Nat) (F : gM) (s0 : zS) (x1 : Int) (x2 : Int), zR x1 → zR x2 → zZ d t T F0 F s0 → wr_means_7 Q  m s0 x1 x2 → gG X d b (zQi X d b t T F0 Q) F 0 0 7 [some (.ref t), some (.int (zI x1)), some (.int (zI x2))] [] := by
  intro m
  induction m with
  | zero => intro F s0 x1 x2 Rx1 Rx2 hZ hw; exact False.elim hw
  | succ m ih => intro F s0 x1 x2 Rx1 Rx2 hZ hw; exact rb_means_7 hC  ih Rx1 Rx2 hZ hw
set_option maxHeartbeats 4000000 in
set_option maxRecDepth 100000 in
theorem rm_means (l : Launch) (d : gD) (b : Nat) {t : Nat} {T : Nat → Nat} {F : gM} {s0 : zS} {a0 : Int} (Ra0 : zR a0) {Q : Int → zS → Prop} (hZ : zZ d t T F F s0) (hw : wr_means s0 a0 Q) : gMi l d b yX12_means cX12_means 3 .int 0 0 0 F [.ref t, .int (zI a0)] (zPi d t T F Q) := by
  refine gM_of2 rfl (nL := 3) (Nat.le_of_ble_eq_true rfl) ?_
  intro X hX hC; subst hX
  show gG X d b (zQi X d b t T F Q) F 0 0 0 [some (.ref t), some (.int (zI a0)), none] []
  unfold wr_means at hw
  refine g_aload_n hC dX12_means_0 rfl ?_
  refine zr_get (e := (zv s0 49)) hC hZ fl_X12_160 zb_49 (by decide) rfl dX12_means_1 ?_
  refine g_iconst (v := zI 1) hC dX12_means_4 rfl ?_
  refine zr_isub hC dX12_means_5 ?_
  refine g_istore_n (lv' := [some (.ref t), some (.int (zI a0)), some (.int (zI ((zv s0 49) - 1)))]) hC dX12_means_6 (Nat.le_of_ble_eq_true rfl) rfl rfl ?_
  obtain ⟨o1, h2⟩ := hw
  obtain ⟨m3, h4⟩ := h2
  exact rl_means_7 hC  m3 _ _ _ _ Ra0 o1 hZ h4
theorem dX12_entry_0 : decode cX12_entry 0 = .ok (.aload_n 0, 1) := by decide +kernel
theorem dX12_entry_1 : decode cX12_entry 1 = .ok (.getfield 163, 3) := by decide +kernel
theorem dX12_entry_4 : decode cX12_entry 4 = .ok (.aload_n 0, 1) := by decide +kernel
theorem dX12_entry_5 : decode cX12_entry 5 = .ok (.getfield 160, 3) := by decide +kernel
theorem dX12_entry_8 : decode cX12_entry 8 = .ok (.iload_n 1, 1) := by decide +kernel
theorem dX12_entry_9 : decode cX12_entry 9 = .ok (.iastore, 1) := by decide +kernel
theorem dX12_entry_10 : decode cX12_entry 10 = .ok (.aload_n 0, 1) := by decide +kernel
theorem dX12_entry_11 : decode cX12_entry 11 = .ok (.getfield 166, 3) := by decide +kernel
theorem dX12_entry_14 : decode cX12_entry 14 = .ok (.aload_n 0, 1) := by decide +kernel
theorem dX12_entry_15 : decode cX12_entry 15 = .ok (.getfield 160, 3) := by decide +kernel
theorem dX12_entry_18 : decode cX12_entry 18 = .ok (.iload_n 2, 1) := by decide +kernel
theorem dX12_entry_19 : decode cX12_entry 19 = .ok (.iastore, 1) := by decide +kernel
theorem dX12_entry_20 : decode cX12_entry 20 = .ok (.aload_n 0, 1) := by decide +kernel
theorem dX12_entry_21 : decode cX12_entry 21 = .ok (.getfield 169, 3) := by decide +kernel
theorem dX12_entry_24 : decode cX12_entry 24 = .ok (.aload_n 0, 1) := by decide +kernel
theorem dX12_entry_25 : decode cX12_entry 25 = .ok (.getfield 160, 3) := by decide +kernel
theorem dX12_entry_28 : decode cX12_entry 28 = .ok (.iload_n 3, 1) := by decide +kernel
theorem dX12_entry_29 : decode cX12_entry 29 = .ok (.iastore, 1) := by decide +kernel
theorem dX12_entry_30 : decode cX12_entry 30 = .ok (.aload_n 0, 1) := by decide +kernel
theorem dX12_entry_31 : decode cX12_entry 31 = .ok (.getfield 172, 3) := by decide +kernel
theorem dX12_entry_34 : decode cX12_entry 34 = .ok (.aload_n 0, 1) := by decide +kernel
theorem dX12_entry_35 : decode cX12_entry 35 = .ok (.getfield 160, 3) := by decide +kernel
theorem dX12_entry_38 : decode cX12_entry 38 = .ok (.iload 4, 2) := by decide +kernel
theorem dX12_entry_40 : decode cX12_entry 40 = .ok (.iastore, 1) := by decide +kernel
theorem dX12_entry_41 : decode cX12_entry 41 = .ok (.aload_n 0, 1) := by decide +kernel
theorem dX12_entry_42 : decode cX12_entry 42 = .ok (.getfield 175, 3) := by decide +kernel
theorem dX12_entry_45 : decode cX12_entry 45 = .ok (.aload_n 0, 1) := by decide +kernel
theorem dX12_entry_46 : decode cX12_entry 46 = .ok (.getfield 160, 3) := by decide +kernel
theorem dX12_entry_49 : decode cX12_entry 49 = .ok (.iload 5, 2) := by decide +kernel
theorem dX12_entry_51 : decode cX12_entry 51 = .ok (.iastore, 1) := by decide +kernel
theorem dX12_entry_52 : decode cX12_entry 52 = .ok (.aload_n 0, 1) := by decide +kernel
theorem dX12_entry_53 : decode cX12_entry 53 = .ok (.dup, 1) := by decide +kernel
theorem dX12_entry_54 : decode cX12_entry 54 = .ok (.getfield 160, 3) := by decide +kernel
theorem dX12_entry_57 : decode cX12_entry 57 = .ok (.iconst 1, 1) := by decide +kernel
theorem dX12_entry_58 : decode cX12_entry 58 = .ok (.iadd, 1) := by decide +kernel
theorem dX12_entry_59 : decode cX12_entry 59 = .ok (.putfield 160, 3) := by decide +kernel
theorem dX12_entry_62 : decode cX12_entry 62 = .ok (.aload_n 0, 1) := by decide +kernel
theorem dX12_entry_63 : decode cX12_entry 63 = .ok (.getfield 160, 3) := by decide +kernel
theorem dX12_entry_66 : decode cX12_entry 66 = .ok (.iconst 1, 1) := by decide +kernel
theorem dX12_entry_67 : decode cX12_entry 67 = .ok (.isub, 1) := by decide +kernel
theorem dX12_entry_68 : decode cX12_entry 68 = .ok (.ireturn, 1) := by decide +kernel
def wr_entry (s0 : zS) (a0 : Int) (a1 : Int) (a2 : Int) (a3 : Int) (a4 : Int) (Q : Int → zS → Prop) : Prop :=
  (0 ≤ (zv s0 49)) ∧ ((zv s0 49) < 9000) ∧ (0 ≤ (zv s0 49)) ∧ ((zv s0 49) < 9000) ∧ (0 ≤ (zv s0 49)) ∧ ((zv s0 49) < 9000) ∧ (0 ≤ (zv s0 49)) ∧ ((zv s0 49) < 9000) ∧ (0 ≤ (zv s0 49)) ∧ ((zv s0 49) < 9000) ∧ (zR ((zv s0 49) + 1)) ∧ (zR (((zv s0 49) + 1) - 1)) ∧ Q (((zv s0 49) + 1) - 1) (zpv (zpa (zpa (zpa (zpa (zpa s0 50 (Int.toNat (zv s0 49)) a0) 51 (Int.toNat (zv s0 49)) a1) 52 (Int.toNat (zv s0 49)) a2) 53 (Int.toNat (zv s0 49)) a3) 54 (Int.toNat (zv s0 49)) a4) 49 ((zv s0 49) + 1))
set_option maxHeartbeats 4000000 in
set_option maxRecDepth 100000 in
theorem rm_entry (l : Launch) (d : gD) (b : Nat) {t : Nat} {T : Nat → Nat} {F : gM} {s0 : zS} {a0 : Int} {a1 : Int} {a2 : Int} {a3 : Int} {a4 : Int} (Ra0 : zR a0) (Ra1 : zR a1) (Ra2 : zR a2) (Ra3 : zR a3) (Ra4 : zR a4) {Q : Int → zS → Prop} (hZ : zZ d t T F F s0) (hw : wr_entry s0 a0 a1 a2 a3 a4 Q) : gMi l d b yX12_entry cX12_entry 6 .int 0 0 0 F [.ref t, .int (zI a0), .int (zI a1), .int (zI a2), .int (zI a3), .int (zI a4)] (zPi d t T F Q) := by
  refine gM_of2 rfl (nL := 6) (Nat.le_of_ble_eq_true rfl) ?_
  intro X hX hC; subst hX
  show gG X d b (zQi X d b t T F Q) F 0 0 0 [some (.ref t), some (.int (zI a0)), some (.int (zI a1)), some (.int (zI a2)), some (.int (zI a3)), some (.int (zI a4))] []
  unfold wr_entry at hw
  refine g_aload_n hC dX12_entry_0 rfl ?_
  refine zr_geta hC hZ fl_X12_163 zb_50 (by decide) dX12_entry_1 ?_
  refine g_aload_n hC dX12_entry_4 rfl ?_
  refine zr_get (e := (zv s0 49)) hC hZ fl_X12_160 zb_49 (by decide) rfl dX12_entry_5 ?_
  refine g_iload_n hC dX12_entry_8 rfl ?_
  obtain ⟨o1, h2⟩ := hw
  obtain ⟨o3, h4⟩ := h2
  refine zr_iast hC hZ zk_50 zb_50 zn_50 (by decide) o1 o3 Ra0 dX12_entry_9 (fun F5 hZ6 => ?_)
  refine g_aload_n hC dX12_entry_10 rfl ?_
  refine zr_geta hC hZ6 fl_X12_166 zb_51 (by decide) dX12_entry_11 ?_
  refine g_aload_n hC dX12_entry_14 rfl ?_
  refine zr_get (e := (zv s0 49)) hC hZ6 fl_X12_160 zb_49 (by decide) rfl dX12_entry_15 ?_
  refine g_iload_n hC dX12_entry_18 rfl ?_
  obtain ⟨o7, h8⟩ := h4
  obtain ⟨o9, h10⟩ := h8
  refine zr_iast hC hZ6 zk_51 zb_51 zn_51 (by decide) o7 o9 Ra1 dX12_entry_19 (fun F11 hZ12 => ?_)
  refine g_aload_n hC dX12_entry_20 rfl ?_
  refine zr_geta hC hZ12 fl_X12_169 zb_52 (by decide) dX12_entry_21 ?_
  refine g_aload_n hC dX12_entry_24 rfl ?_
  refine zr_get (e := (zv s0 49)) hC hZ12 fl_X12_160 zb_49 (by decide) rfl dX12_entry_25 ?_
  refine g_iload_n hC dX12_entry_28 rfl ?_
  obtain ⟨o13, h14⟩ := h10
  obtain ⟨o15, h16⟩ := h14
  refine zr_iast hC hZ12 zk_52 zb_52 zn_52 (by decide) o13 o15 Ra2 dX12_entry_29 (fun F17 hZ18 => ?_)
  refine g_aload_n hC dX12_entry_30 rfl ?_
  refine zr_geta hC hZ18 fl_X12_172 zb_53 (by decide) dX12_entry_31 ?_
  refine g_aload_n hC dX12_entry_34 rfl ?_
  refine zr_get (e := (zv s0 49)) hC hZ18 fl_X12_160 zb_49 (by decide) rfl dX12_entry_35 ?_
  refine g_iload hC dX12_entry_38 rfl ?_
  obtain ⟨o19, h20⟩ := h16
  obtain ⟨o21, h22⟩ := h20
  refine zr_iast hC hZ18 zk_53 zb_53 zn_53 (by decide) o19 o21 Ra3 dX12_entry_40 (fun F23 hZ24 => ?_)
  refine g_aload_n hC dX12_entry_41 rfl ?_
  refine zr_geta hC hZ24 fl_X12_175 zb_54 (by decide) dX12_entry_42 ?_
  refine g_aload_n hC dX12_entry_45 rfl ?_
  refine zr_get (e := (zv s0 49)) hC hZ24 fl_X12_160 zb_49 (by decide) rfl dX12_entry_46 ?_
  refine g_iload hC dX12_entry_49 rfl ?_
  obtain ⟨o25, h26⟩ := h22
  obtain ⟨o27, h28⟩ := h26
  refine zr_iast hC hZ24 zk_54 zb_54 zn_54 (by decide) o25 o27 Ra4 dX12_entry_51 (fun F29 hZ30 => ?_)
  refine g_aload_n hC dX12_entry_52 rfl ?_
  refine g_dup hC dX12_entry_53 rfl ?_
  refine zr_get (e := (zv s0 49)) hC hZ30 fl_X12_160 zb_49 (by decide) rfl dX12_entry_54 ?_
  refine g_iconst (v := zI 1) hC dX12_entry_57 rfl ?_
  refine zr_iadd hC dX12_entry_58 ?_
  obtain ⟨o31, h32⟩ := h28
  refine zr_put hC hZ30 fl_X12_160 zb_49 (by decide) o31 dX12_entry_59 (fun F33 hZ34 => ?_)
  refine g_aload_n hC dX12_entry_62 rfl ?_
  refine zr_get (e := ((zv s0 49) + 1)) hC hZ34 fl_X12_160 zb_49 (by decide) rfl dX12_entry_63 ?_
  refine g_iconst (v := zI 1) hC dX12_entry_66 rfl ?_
  refine zr_isub hC dX12_entry_67 ?_
  obtain ⟨o35, h36⟩ := h32
  exact zr_iret hC hZ34 o35 h36 dX12_entry_68
theorem dX12_tokenOfTwice_0 : decode cX12_tokenOfTwice 0 = .ok (.aload_n 0, 1) := by decide +kernel
theorem dX12_tokenOfTwice_1 : decode cX12_tokenOfTwice 1 = .ok (.aload_n 0, 1) := by decide +kernel
theorem dX12_tokenOfTwice_2 : decode cX12_tokenOfTwice 2 = .ok (.getfield 184, 3) := by decide +kernel
theorem dX12_tokenOfTwice_5 : decode cX12_tokenOfTwice 5 = .ok (.iload_n 1, 1) := by decide +kernel
theorem dX12_tokenOfTwice_6 : decode cX12_tokenOfTwice 6 = .ok (.iaload, 1) := by decide +kernel
theorem dX12_tokenOfTwice_7 : decode cX12_tokenOfTwice 7 = .ok (.iload_n 2, 1) := by decide +kernel
theorem dX12_tokenOfTwice_8 : decode cX12_tokenOfTwice 8 = .ok (.if_icmp .le 12, 3) := by decide +kernel
theorem dX12_tokenOfTwice_11 : decode cX12_tokenOfTwice 11 = .ok (.aload_n 0, 1) := by decide +kernel
theorem dX12_tokenOfTwice_12 : decode cX12_tokenOfTwice 12 = .ok (.getfield 184, 3) := by decide +kernel
theorem dX12_tokenOfTwice_15 : decode cX12_tokenOfTwice 15 = .ok (.iload_n 1, 1) := by decide +kernel
theorem dX12_tokenOfTwice_16 : decode cX12_tokenOfTwice 16 = .ok (.iaload, 1) := by decide +kernel
theorem dX12_tokenOfTwice_17 : decode cX12_tokenOfTwice 17 = .ok (.goto 4, 3) := by decide +kernel
theorem dX12_tokenOfTwice_20 : decode cX12_tokenOfTwice 20 = .ok (.iload_n 2, 1) := by decide +kernel
theorem dX12_tokenOfTwice_21 : decode cX12_tokenOfTwice 21 = .ok (.invokevirtual 613, 3) := by decide +kernel
theorem dX12_tokenOfTwice_24 : decode cX12_tokenOfTwice 24 = .ok (.ireturn, 1) := by decide +kernel
def wr_tokenOfTwice (s0 : zS) (a0 : Int) (a1 : Int) (Q : Int → zS → Prop) : Prop :=
  (0 ≤ a0) ∧ (a0 < 9000) ∧ (((za s0 57 (Int.toNat a0)) ≤ a1 → wr_place s0 a1 (fun r7 s8 => Q r7 s8)) ∧ (¬ (za s0 57 (Int.toNat a0)) ≤ a1 → (0 ≤ a0) ∧ (a0 < 9000) ∧ wr_place s0 (za s0 57 (Int.toNat a0)) (fun r18 s19 => Q r18 s19)))
set_option maxHeartbeats 4000000 in
set_option maxRecDepth 100000 in
theorem rm_tokenOfTwice (l : Launch) (d : gD) (b : Nat) {t : Nat} {T : Nat → Nat} {F : gM} {s0 : zS} {a0 : Int} {a1 : Int} (Ra0 : zR a0) (Ra1 : zR a1) {Q : Int → zS → Prop} (hZ : zZ d t T F F s0) (hw : wr_tokenOfTwice s0 a0 a1 Q) : gMi l d b yX12_tokenOfTwice cX12_tokenOfTwice 3 .int 1 0 0 F [.ref t, .int (zI a0), .int (zI a1)] (zPi d t T F Q) := by
  refine gM_of2 rfl (nL := 3) (Nat.le_of_ble_eq_true rfl) ?_
  intro X hX hC; subst hX
  show gG X d b (zQi X d b t T F Q) F 0 0 0 [some (.ref t), some (.int (zI a0)), some (.int (zI a1))] []
  unfold wr_tokenOfTwice at hw
  refine g_aload_n hC dX12_tokenOfTwice_0 rfl ?_
  refine g_aload_n hC dX12_tokenOfTwice_1 rfl ?_
  refine zr_geta hC hZ fl_X12_184 zb_57 (by decide) dX12_tokenOfTwice_2 ?_
  refine g_iload_n hC dX12_tokenOfTwice_5 rfl ?_
  obtain ⟨o1, h2⟩ := hw
  obtain ⟨o3, h4⟩ := h2
  refine zr_iald (v := (za s0 57 (Int.toNat a0))) hC hZ zk_57 zb_57 zn_57 (by decide) o1 o3 rfl dX12_tokenOfTwice_6 ?_
  refine g_iload_n hC dX12_tokenOfTwice_7 rfl ?_
  refine zr_icmp_le (tgt := 20) hC (hZ.ra 57 _) Ra1 dX12_tokenOfTwice_8 (by decide) (fun c5 => ?_) (fun c5 => ?_)
  · have h6 := h4.1 c5
    refine g_iload_n hC dX12_tokenOfTwice_20 rfl ?_
    refine zr_callVi (As := [.int (zI a1)]) hC hZ rfl (rm_place X.la d b Ra1 hZ.rf h6) cl_X12_613 rfl rfl (Nat.le_of_ble_eq_true rfl) ⟨Nat.le_of_ble_eq_true rfl, Nat.le_of_ble_eq_true rfl⟩ dX12_tokenOfTwice_21 (fun r7 s8 F9 R10 hZ11 h12 => ?_)
    exact zr_iret hC hZ11 R10 h12 dX12_tokenOfTwice_24
  · have h13 := h4.2 c5
    refine g_aload_n hC dX12_tokenOfTwice_11 rfl ?_
    refine zr_geta hC hZ fl_X12_184 zb_57 (by decide) dX12_tokenOfTwice_12 ?_
    refine g_iload_n hC dX12_tokenOfTwice_15 rfl ?_
    obtain ⟨o14, h15⟩ := h13
    obtain ⟨o16, h17⟩ := h15
    refine zr_iald (v := (za s0 57 (Int.toNat a0))) hC hZ zk_57 zb_57 zn_57 (by decide) o14 o16 rfl dX12_tokenOfTwice_16 ?_
    refine g_goto (tgt := 21) hC dX12_tokenOfTwice_17 (by decide) ?_
    refine zr_callVi (As := [.int (zI (za s0 57 (Int.toNat a0)))]) hC hZ rfl (rm_place X.la d b (hZ.ra 57 _) hZ.rf h17) cl_X12_613 rfl rfl (Nat.le_of_ble_eq_true rfl) ⟨Nat.le_of_ble_eq_true rfl, Nat.le_of_ble_eq_true rfl⟩ dX12_tokenOfTwice_21 (fun r18 s19 F20 R21 hZ22 h23 => ?_)
    exact zr_iret hC hZ22 R21 h23 dX12_tokenOfTwice_24
theorem dX12_declare_0 : decode cX12_declare 0 = .ok (.aload_n 0, 1) := by decide +kernel
theorem dX12_declare_1 : decode cX12_declare 1 = .ok (.getfield 160, 3) := by decide +kernel
theorem dX12_declare_4 : decode cX12_declare 4 = .ok (.iconst 1, 1) := by decide +kernel
theorem dX12_declare_5 : decode cX12_declare 5 = .ok (.isub, 1) := by decide +kernel
theorem dX12_declare_6 : decode cX12_declare 6 = .ok (.istore 7, 2) := by decide +kernel
theorem dX12_declare_8 : decode cX12_declare 8 = .ok (.iload 7, 2) := by decide +kernel
theorem dX12_declare_10 : decode cX12_declare 10 = .ok (.aload_n 0, 1) := by decide +kernel
theorem dX12_declare_11 : decode cX12_declare 11 = .ok (.getfield 178, 3) := by decide +kernel
theorem dX12_declare_14 : decode cX12_declare 14 = .ok (.if_icmp .lt 32, 3) := by decide +kernel
theorem dX12_declare_17 : decode cX12_declare 17 = .ok (.aload_n 0, 1) := by decide +kernel
theorem dX12_declare_18 : decode cX12_declare 18 = .ok (.getfield 163, 3) := by decide +kernel
theorem dX12_declare_21 : decode cX12_declare 21 = .ok (.iload 7, 2) := by decide +kernel
theorem dX12_declare_23 : decode cX12_declare 23 = .ok (.iaload, 1) := by decide +kernel
theorem dX12_declare_24 : decode cX12_declare 24 = .ok (.iload_n 1, 1) := by decide +kernel
theorem dX12_declare_25 : decode cX12_declare 25 = .ok (.if_icmp .ne 15, 3) := by decide +kernel
theorem dX12_declare_28 : decode cX12_declare 28 = .ok (.aload_n 0, 1) := by decide +kernel
theorem dX12_declare_29 : decode cX12_declare 29 = .ok (.iconst 4, 1) := by decide +kernel
theorem dX12_declare_30 : decode cX12_declare 30 = .ok (.aload_n 0, 1) := by decide +kernel
theorem dX12_declare_31 : decode cX12_declare 31 = .ok (.iload 7, 2) := by decide +kernel
theorem dX12_declare_33 : decode cX12_declare 33 = .ok (.iload_n 2, 1) := by decide +kernel
theorem dX12_declare_34 : decode cX12_declare 34 = .ok (.invokevirtual 602, 3) := by decide +kernel
theorem dX12_declare_37 : decode cX12_declare 37 = .ok (.invokevirtual 605, 3) := by decide +kernel
theorem dX12_declare_40 : decode cX12_declare 40 = .ok (.iinc 7 (-1), 3) := by decide +kernel
theorem dX12_declare_43 : decode cX12_declare 43 = .ok (.goto (-35), 3) := by decide +kernel
theorem dX12_declare_46 : decode cX12_declare 46 = .ok (.aload_n 0, 1) := by decide +kernel
theorem dX12_declare_47 : decode cX12_declare 47 = .ok (.iload_n 1, 1) := by decide +kernel
theorem dX12_declare_48 : decode cX12_declare 48 = .ok (.iload_n 3, 1) := by decide +kernel
theorem dX12_declare_49 : decode cX12_declare 49 = .ok (.iload 4, 2) := by decide +kernel
theorem dX12_declare_51 : decode cX12_declare 51 = .ok (.iload 5, 2) := by decide +kernel
theorem dX12_declare_53 : decode cX12_declare 53 = .ok (.iload 6, 2) := by decide +kernel
theorem dX12_declare_55 : decode cX12_declare 55 = .ok (.invokevirtual 609, 3) := by decide +kernel
theorem dX12_declare_58 : decode cX12_declare 58 = .ok (.istore 7, 2) := by decide +kernel
theorem dX12_declare_60 : decode cX12_declare 60 = .ok (.aload_n 0, 1) := by decide +kernel
theorem dX12_declare_61 : decode cX12_declare 61 = .ok (.getfield 184, 3) := by decide +kernel
theorem dX12_declare_64 : decode cX12_declare 64 = .ok (.iload 7, 2) := by decide +kernel
theorem dX12_declare_66 : decode cX12_declare 66 = .ok (.iload_n 2, 1) := by decide +kernel
theorem dX12_declare_67 : decode cX12_declare 67 = .ok (.iastore, 1) := by decide +kernel
theorem dX12_declare_68 : decode cX12_declare 68 = .ok (.iload 7, 2) := by decide +kernel
theorem dX12_declare_70 : decode cX12_declare 70 = .ok (.ireturn, 1) := by decide +kernel
def wr_declare_8B (Q : Int → zS → Prop) (k8 : zS → Int → Int → Int → Int → Int → Int → Int → Prop) (s0 : zS) (x1 : Int) (x2 : Int) (x3 : Int) (x4 : Int) (x5 : Int) (x6 : Int) (x7 : Int) : Prop :=
  ((x7 < (zv s0 55) → wr_entry s0 x1 x3 x4 x5 x6 (fun r3 s4 => (0 ≤ r3) ∧ (r3 < 9000) ∧ Q r3 (zpa s4 57 (Int.toNat r3) x2))) ∧ (¬ x7 < (zv s0 55) → (0 ≤ x7) ∧ (x7 < 9000) ∧ ((¬ (za s0 50 (Int.toNat x7)) = x1 → (zR (x7 + (-1))) ∧ k8 s0 x1 x2 x3 x4 x5 x6 (x7 + (-1))) ∧ ((za s0 50 (Int.toNat x7)) = x1 → wr_tokenOfTwice s0 x7 x2 (fun r25 s26 => wr_fault s26 4 r25 (fun s32 => (zR (x7 + (-1))) ∧ k8 s32 x1 x2 x3 x4 x5 x6 (x7 + (-1))))))))
def wr_declare_8 (Q : Int → zS → Prop)  : Nat → zS → Int → Int → Int → Int → Int → Int → Int → Prop
  | 0 => fun _ _ _ _ _ _ _ _ => False
  | m + 1 => fun s0 x1 x2 x3 x4 x5 x6 x7 => wr_declare_8B Q  (wr_declare_8 Q  m) s0 x1 x2 x3 x4 x5 x6 x7
def wr_declare (s0 : zS) (a0 : Int) (a1 : Int) (a2 : Int) (a3 : Int) (a4 : Int) (a5 : Int) (Q : Int → zS → Prop) : Prop :=
  (zR ((zv s0 49) - 1)) ∧ ∃ n, wr_declare_8 Q  n s0 a0 a1 a2 a3 a4 a5 ((zv s0 49) - 1)
set_option maxHeartbeats 4000000 in
set_option maxRecDepth 100000 in
theorem rb_declare_8 {X : gX} {d : gD} {b t : Nat} {T : Nat → Nat} {F0 : gM} (hC : gC RX12 cX12_declare 8 (some .int) "declare" (gR 2 0 0) d b X) {Q : Int → zS → Prop} {k8 : zS → Int → Int → Int → Int → Int → Int → Int → Prop} (hk8 : ∀ (F : gM) (s0 : zS) (x1 : Int) (x2 : Int) (x3 : Int) (x4 : Int) (x5 : Int) (x6 : Int) (x7 : Int), zR x1 → zR x2 → zR x3 → zR x4 → zR x5 → zR x6 → zR x7 → zZ d t T F0 F s0 → k8 s0 x1 x2 x3 x4 x5 x6 x7 → gG X d b (zQi X d b t T F0 Q) F 0 0 8 [some (.ref t), some (.int (zI x1)), some (.int (zI x2)), some (.int (zI x3)), some (.int (zI x4)), some (.int (zI x5)), some (.int (zI x6)), some (.int (zI x7))] []) {F : gM} {s0 : zS} {x1 : Int} {x2 : Int} {x3 : Int} {x4 : Int} {x5 : Int} {x6 : Int} {x7 : Int} (Rx1 : zR x1) (Rx2 : zR x2) (Rx3 : zR x3) (Rx4 : zR x4) (Rx5 : zR x5) (Rx6 : zR x6) (Rx7 : zR x7) (hZ : zZ d t T F0 F s0) (hw : wr_declare_8B Q k8 s0 x1 x2 x3 x4 x5 x6 x7) : gG X d b (zQi X d b t T F0 Q) F 0 0 8 [some (.ref t), some (.int (zI x1)), some (.int (zI x2)), some (.int (zI x3)), some (.int (zI x4)), some (.int (zI x5)), some (.int (zI x6)), some (.int (zI x7))] [] := by
  unfold wr_declare_8B at hw
  refine g_iload hC dX12_declare_8 rfl ?_
  refine g_aload_n hC dX12_declare_10 rfl ?_
  refine zr_get (e := (zv s0 55)) hC hZ fl_X12_178 zb_55 (by decide) rfl dX12_declare_11 ?_
  refine zr_icmp_lt (tgt := 46) hC Rx7 (hZ.rv 55) dX12_declare_14 (by decide) (fun c1 => ?_) (fun c1 => ?_)
  · have h2 := hw.1 c1
    refine g_aload_n hC dX12_declare_46 rfl ?_
    refine g_iload_n hC dX12_declare_47 rfl ?_
    refine g_iload_n hC dX12_declare_48 rfl ?_
    refine g_iload hC dX12_declare_49 rfl ?_
    refine g_iload hC dX12_declare_51 rfl ?_
    refine g_iload hC dX12_declare_53 rfl ?_
    refine zr_callVi (As := [.int (zI x1), .int (zI x3), .int (zI x4), .int (zI x5), .int (zI x6)]) hC hZ rfl (rm_entry X.la d b Rx1 Rx3 Rx4 Rx5 Rx6 hZ.rf h2) cl_X12_609 rfl rfl (Nat.le_of_ble_eq_true rfl) ⟨Nat.le_of_ble_eq_true rfl, Nat.le_of_ble_eq_true rfl⟩ dX12_declare_55 (fun r3 s4 F5 R6 hZ7 h8 => ?_)
    refine g_istore (lv' := [some (.ref t), some (.int (zI x1)), some (.int (zI x2)), some (.int (zI x3)), some (.int (zI x4)), some (.int (zI x5)), some (.int (zI x6)), some (.int (zI r3))]) hC dX12_declare_58 (Nat.le_of_ble_eq_true rfl) rfl rfl ?_
    refine g_aload_n hC dX12_declare_60 rfl ?_
    refine zr_geta hC hZ7 fl_X12_184 zb_57 (by decide) dX12_declare_61 ?_
    refine g_iload hC dX12_declare_64 rfl ?_
    refine g_iload_n hC dX12_declare_66 rfl ?_
    obtain ⟨o9, h10⟩ := h8
    obtain ⟨o11, h12⟩ := h10
    refine zr_iast hC hZ7 zk_57 zb_57 zn_57 (by decide) o9 o11 Rx2 dX12_declare_67 (fun F13 hZ14 => ?_)
    refine g_iload hC dX12_declare_68 rfl ?_
    exact zr_iret hC hZ14 R6 h12 dX12_declare_70
  · have h15 := hw.2 c1
    refine g_aload_n hC dX12_declare_17 rfl ?_
    refine zr_geta hC hZ fl_X12_163 zb_50 (by decide) dX12_declare_18 ?_
    refine g_iload hC dX12_declare_21 rfl ?_
    obtain ⟨o16, h17⟩ := h15
    obtain ⟨o18, h19⟩ := h17
    refine zr_iald (v := (za s0 50 (Int.toNat x7))) hC hZ zk_50 zb_50 zn_50 (by decide) o16 o18 rfl dX12_declare_23 ?_
    refine g_iload_n hC dX12_declare_24 rfl ?_
    refine zr_icmp_ne (tgt := 40) hC (hZ.ra 50 _) Rx1 dX12_declare_25 (by decide) (fun c20 => ?_) (fun c20 => ?_)
    · have h21 := h19.1 c20
      refine zr_iinc (x := x7) (lv' := [some (.ref t), some (.int (zI x1)), some (.int (zI x2)), some (.int (zI x3)), some (.int (zI x4)), some (.int (zI x5)), some (.int (zI x6)), some (.int (zI (x7 + (-1))))]) hC dX12_declare_40 rfl rfl rfl ?_
      refine g_goto (tgt := 8) hC dX12_declare_43 (by decide) ?_
      obtain ⟨o22, h23⟩ := h21
      exact hk8 _ _ _ _ _ _ _ _ _ Rx1 Rx2 Rx3 Rx4 Rx5 Rx6 o22 hZ h23
    · have h24 := h19.2 c20
      refine g_aload_n hC dX12_declare_28 rfl ?_
      refine g_iconst (v := zI 4) hC dX12_declare_29 rfl ?_
      refine g_aload_n hC dX12_declare_30 rfl ?_
      refine g_iload hC dX12_declare_31 rfl ?_
      refine g_iload_n hC dX12_declare_33 rfl ?_
      refine zr_callVi (As := [.int (zI x7), .int (zI x2)]) hC hZ rfl (rm_tokenOfTwice X.la d b Rx7 Rx2 hZ.rf h24) cl_X12_602 rfl rfl (Nat.le_of_ble_eq_true rfl) ⟨Nat.le_of_ble_eq_true rfl, Nat.le_of_ble_eq_true rfl⟩ dX12_declare_34 (fun r25 s26 F27 R28 hZ29 h30 => ?_)
      refine zr_callVv (As := [.int (zI 4), .int (zI r25)]) hC hZ29 rfl (rm_fault X.la d b (by decide) R28 hZ29.rf h30) cl_X12_605 rfl rfl (Nat.le_of_ble_eq_true rfl) ⟨Nat.le_of_ble_eq_true rfl, Nat.le_of_ble_eq_true rfl⟩ dX12_declare_37 (fun s32 F33 hZ35 h36 => ?_)
      refine zr_iinc (x := x7) (lv' := [some (.ref t), some (.int (zI x1)), some (.int (zI x2)), some (.int (zI x3)), some (.int (zI x4)), some (.int (zI x5)), some (.int (zI x6)), some (.int (zI (x7 + (-1))))]) hC dX12_declare_40 rfl rfl rfl ?_
      refine g_goto (tgt := 8) hC dX12_declare_43 (by decide) ?_
      obtain ⟨o37, h38⟩ := h36
      exact hk8 _ _ _ _ _ _ _ _ _ Rx1 Rx2 Rx3 Rx4 Rx5 Rx6 o37 hZ35 h38
theorem rl_declare_8 {X : gX} {d : gD} {b t : Nat} {T : Nat → Nat} {F0 : gM} (hC : gC RX12 cX12_declare 8 (some .int) "declare" (gR 2 0 0) d b X) {Q : Int → zS → Prop}   : ∀ (m : Nat) (F : gM) (s0 : zS) (x1 : Int) (x2 : Int) (x3 : Int) (x4 : Int) (x5 : Int) (x6 : Int) (x7 : Int), zR x1 → zR x2 → zR x3 → zR x4 → zR x5 → zR x6 → zR x7 → zZ d t T F0 F s0 → wr_declare_8 Q  m s0 x1 x2 x3 x4 x5 x6 x7 → gG X d b (zQi X d b t T F0 Q) F 0 0 8 [some (.ref t), some (.int (zI x1)), some (.int (zI x2)), some (.int (zI x3)), some (.int (zI x4)), some (.int (zI x5)), some (.int (zI x6)), some (.int (zI x7))] [] := by
  intro m
  induction m with
  | zero => intro F s0 x1 x2 x3 x4 x5 x6 x7 Rx1 Rx2 Rx3 Rx4 Rx5 Rx6 Rx7 hZ hw; exact False.elim hw
  | succ m ih => intro F s0 x1 x2 x3 x4 x5 x6 x7 Rx1 Rx2 Rx3 Rx4 Rx5 Rx6 Rx7 hZ hw; exact rb_declare_8 hC  ih Rx1 Rx2 Rx3 Rx4 Rx5 Rx6 Rx7 hZ hw
set_option maxHeartbeats 4000000 in
set_option maxRecDepth 100000 in
theorem rm_declare (l : Launch) (d : gD) (b : Nat) {t : Nat} {T : Nat → Nat} {F : gM} {s0 : zS} {a0 : Int} {a1 : Int} {a2 : Int} {a3 : Int} {a4 : Int} {a5 : Int} (Ra0 : zR a0) (Ra1 : zR a1) (Ra2 : zR a2) (Ra3 : zR a3) (Ra4 : zR a4) (Ra5 : zR a5) {Q : Int → zS → Prop} (hZ : zZ d t T F F s0) (hw : wr_declare s0 a0 a1 a2 a3 a4 a5 Q) : gMi l d b yX12_declare cX12_declare 8 .int 2 0 0 F [.ref t, .int (zI a0), .int (zI a1), .int (zI a2), .int (zI a3), .int (zI a4), .int (zI a5)] (zPi d t T F Q) := by
  refine gM_of2 rfl (nL := 8) (Nat.le_of_ble_eq_true rfl) ?_
  intro X hX hC; subst hX
  show gG X d b (zQi X d b t T F Q) F 0 0 0 [some (.ref t), some (.int (zI a0)), some (.int (zI a1)), some (.int (zI a2)), some (.int (zI a3)), some (.int (zI a4)), some (.int (zI a5)), none] []
  unfold wr_declare at hw
  refine g_aload_n hC dX12_declare_0 rfl ?_
  refine zr_get (e := (zv s0 49)) hC hZ fl_X12_160 zb_49 (by decide) rfl dX12_declare_1 ?_
  refine g_iconst (v := zI 1) hC dX12_declare_4 rfl ?_
  refine zr_isub hC dX12_declare_5 ?_
  refine g_istore (lv' := [some (.ref t), some (.int (zI a0)), some (.int (zI a1)), some (.int (zI a2)), some (.int (zI a3)), some (.int (zI a4)), some (.int (zI a5)), some (.int (zI ((zv s0 49) - 1)))]) hC dX12_declare_6 (Nat.le_of_ble_eq_true rfl) rfl rfl ?_
  obtain ⟨o1, h2⟩ := hw
  obtain ⟨m3, h4⟩ := h2
  exact rl_declare_8 hC  m3 _ _ _ _ _ _ _ _ _ Ra0 Ra1 Ra2 Ra3 Ra4 Ra5 o1 hZ h4
theorem dX12_isKName_0 : decode cX12_isKName 0 = .ok (.aload_n 0, 1) := by decide +kernel
theorem dX12_isKName_1 : decode cX12_isKName 1 = .ok (.aload_n 0, 1) := by decide +kernel
theorem dX12_isKName_2 : decode cX12_isKName 2 = .ok (.getfield 99, 3) := by decide +kernel
theorem dX12_isKName_5 : decode cX12_isKName 5 = .ok (.iload_n 1, 1) := by decide +kernel
theorem dX12_isKName_6 : decode cX12_isKName 6 = .ok (.iaload, 1) := by decide +kernel
theorem dX12_isKName_7 : decode cX12_isKName 7 = .ok (.invokevirtual 619, 3) := by decide +kernel
theorem dX12_isKName_10 : decode cX12_isKName 10 = .ok (.istore_n 2, 1) := by decide +kernel
theorem dX12_isKName_11 : decode cX12_isKName 11 = .ok (.iload_n 2, 1) := by decide +kernel
theorem dX12_isKName_12 : decode cX12_isKName 12 = .ok (.ifCond .ge 21, 3) := by decide +kernel
theorem dX12_isKName_15 : decode cX12_isKName 15 = .ok (.aload_n 0, 1) := by decide +kernel
theorem dX12_isKName_16 : decode cX12_isKName 16 = .ok (.iconst 3, 1) := by decide +kernel
theorem dX12_isKName_17 : decode cX12_isKName 17 = .ok (.aload_n 0, 1) := by decide +kernel
theorem dX12_isKName_18 : decode cX12_isKName 18 = .ok (.aload_n 0, 1) := by decide +kernel
theorem dX12_isKName_19 : decode cX12_isKName 19 = .ok (.getfield 90, 3) := by decide +kernel
theorem dX12_isKName_22 : decode cX12_isKName 22 = .ok (.iload_n 1, 1) := by decide +kernel
theorem dX12_isKName_23 : decode cX12_isKName 23 = .ok (.iaload, 1) := by decide +kernel
theorem dX12_isKName_24 : decode cX12_isKName 24 = .ok (.invokevirtual 613, 3) := by decide +kernel
theorem dX12_isKName_27 : decode cX12_isKName 27 = .ok (.invokevirtual 605, 3) := by decide +kernel
theorem dX12_isKName_30 : decode cX12_isKName 30 = .ok (.goto 38, 3) := by decide +kernel
theorem dX12_isKName_33 : decode cX12_isKName 33 = .ok (.aload_n 0, 1) := by decide +kernel
theorem dX12_isKName_34 : decode cX12_isKName 34 = .ok (.getfield 166, 3) := by decide +kernel
theorem dX12_isKName_37 : decode cX12_isKName 37 = .ok (.iload_n 2, 1) := by decide +kernel
theorem dX12_isKName_38 : decode cX12_isKName 38 = .ok (.iaload, 1) := by decide +kernel
theorem dX12_isKName_39 : decode cX12_isKName 39 = .ok (.iconst 2, 1) := by decide +kernel
theorem dX12_isKName_40 : decode cX12_isKName 40 = .ok (.if_icmp .ne 12, 3) := by decide +kernel
theorem dX12_isKName_43 : decode cX12_isKName 43 = .ok (.aload_n 0, 1) := by decide +kernel
theorem dX12_isKName_44 : decode cX12_isKName 44 = .ok (.getfield 172, 3) := by decide +kernel
theorem dX12_isKName_47 : decode cX12_isKName 47 = .ok (.iload_n 2, 1) := by decide +kernel
theorem dX12_isKName_48 : decode cX12_isKName 48 = .ok (.iaload, 1) := by decide +kernel
theorem dX12_isKName_49 : decode cX12_isKName 49 = .ok (.ifCond .ne 19, 3) := by decide +kernel
theorem dX12_isKName_52 : decode cX12_isKName 52 = .ok (.aload_n 0, 1) := by decide +kernel
theorem dX12_isKName_53 : decode cX12_isKName 53 = .ok (.bipush 6, 2) := by decide +kernel
theorem dX12_isKName_55 : decode cX12_isKName 55 = .ok (.aload_n 0, 1) := by decide +kernel
theorem dX12_isKName_56 : decode cX12_isKName 56 = .ok (.aload_n 0, 1) := by decide +kernel
theorem dX12_isKName_57 : decode cX12_isKName 57 = .ok (.getfield 90, 3) := by decide +kernel
theorem dX12_isKName_60 : decode cX12_isKName 60 = .ok (.iload_n 1, 1) := by decide +kernel
theorem dX12_isKName_61 : decode cX12_isKName 61 = .ok (.iaload, 1) := by decide +kernel
theorem dX12_isKName_62 : decode cX12_isKName 62 = .ok (.invokevirtual 613, 3) := by decide +kernel
theorem dX12_isKName_65 : decode cX12_isKName 65 = .ok (.invokevirtual 605, 3) := by decide +kernel
theorem dX12_isKName_68 : decode cX12_isKName 68 = .ok (.iload_n 2, 1) := by decide +kernel
theorem dX12_isKName_69 : decode cX12_isKName 69 = .ok (.ifCond .lt 27, 3) := by decide +kernel
theorem dX12_isKName_72 : decode cX12_isKName 72 = .ok (.aload_n 0, 1) := by decide +kernel
theorem dX12_isKName_73 : decode cX12_isKName 73 = .ok (.getfield 166, 3) := by decide +kernel
theorem dX12_isKName_76 : decode cX12_isKName 76 = .ok (.iload_n 2, 1) := by decide +kernel
theorem dX12_isKName_77 : decode cX12_isKName 77 = .ok (.iaload, 1) := by decide +kernel
theorem dX12_isKName_78 : decode cX12_isKName 78 = .ok (.iconst 2, 1) := by decide +kernel
theorem dX12_isKName_79 : decode cX12_isKName 79 = .ok (.if_icmp .ne 17, 3) := by decide +kernel
theorem dX12_isKName_82 : decode cX12_isKName 82 = .ok (.aload_n 0, 1) := by decide +kernel
theorem dX12_isKName_83 : decode cX12_isKName 83 = .ok (.getfield 172, 3) := by decide +kernel
theorem dX12_isKName_86 : decode cX12_isKName 86 = .ok (.iload_n 2, 1) := by decide +kernel
theorem dX12_isKName_87 : decode cX12_isKName 87 = .ok (.iaload, 1) := by decide +kernel
theorem dX12_isKName_88 : decode cX12_isKName 88 = .ok (.iconst 2, 1) := by decide +kernel
theorem dX12_isKName_89 : decode cX12_isKName 89 = .ok (.if_icmp .ne 7, 3) := by decide +kernel
theorem dX12_isKName_92 : decode cX12_isKName 92 = .ok (.iconst 1, 1) := by decide +kernel
theorem dX12_isKName_93 : decode cX12_isKName 93 = .ok (.goto 4, 3) := by decide +kernel
theorem dX12_isKName_96 : decode cX12_isKName 96 = .ok (.iconst 0, 1) := by decide +kernel
theorem dX12_isKName_97 : decode cX12_isKName 97 = .ok (.ireturn, 1) := by decide +kernel
def wr_isKName_68 (Q : Int → zS → Prop)  (s0 : zS) (x2 : Int) : Prop :=
  ((x2 < 0 → Q 0 s0) ∧ (¬ x2 < 0 → (0 ≤ x2) ∧ (x2 < 9000) ∧ ((¬ (za s0 51 (Int.toNat x2)) = 2 → Q 0 s0) ∧ ((za s0 51 (Int.toNat x2)) = 2 → (0 ≤ x2) ∧ (x2 < 9000) ∧ ((¬ (za s0 53 (Int.toNat x2)) = 2 → Q 0 s0) ∧ ((za s0 53 (Int.toNat x2)) = 2 → Q 1 s0))))))
def wr_isKName (s0 : zS) (a0 : Int) (Q : Int → zS → Prop) : Prop :=
  (0 ≤ a0) ∧ (a0 < 26000) ∧ wr_means s0 (za s0 29 (Int.toNat a0)) (fun r5 s6 => ((0 ≤ r5 → (0 ≤ r5) ∧ (r5 < 9000) ∧ ((¬ (za s6 51 (Int.toNat r5)) = 2 → (0 ≤ a0) ∧ (a0 < 26000) ∧ wr_place s6 (za s6 26 (Int.toNat a0)) (fun r23 s24 => wr_fault s24 6 r23 (fun s30 => wr_isKName_68 Q  s30 r5))) ∧ ((za s6 51 (Int.toNat r5)) = 2 → (0 ≤ r5) ∧ (r5 < 9000) ∧ ((¬ (za s6 53 (Int.toNat r5)) = 0 → wr_isKName_68 Q  s6 r5) ∧ ((za s6 53 (Int.toNat r5)) = 0 → (0 ≤ a0) ∧ (a0 < 26000) ∧ wr_place s6 (za s6 26 (Int.toNat a0)) (fun r47 s48 => wr_fault s48 6 r47 (fun s54 => wr_isKName_68 Q  s54 r5))))))) ∧ (¬ 0 ≤ r5 → (0 ≤ a0) ∧ (a0 < 26000) ∧ wr_place s6 (za s6 26 (Int.toNat a0)) (fun r64 s65 => wr_fault s65 3 r64 (fun s71 => wr_isKName_68 Q  s71 r5)))))
set_option maxHeartbeats 4000000 in
set_option maxRecDepth 100000 in
theorem rj_isKName_68 {X : gX} {d : gD} {b t : Nat} {T : Nat → Nat} {F0 : gM} (hC : gC RX12 cX12_isKName 3 (some .boolean) "isKName" (gR 1 0 0) d b X) {Q : Int → zS → Prop}   {F : gM} {s0 : zS} {x2 : Int} (Rx2 : zR x2) (hZ : zZ d t T F0 F s0) (hw : wr_isKName_68 Q  s0 x2) : gG X d b (zQi X d b t T F0 Q) F 0 0 68 [some (.ref t), none, some (.int (zI x2))] [] := by
  unfold wr_isKName_68 at hw
  refine g_iload_n hC dX12_isKName_68 rfl ?_
  refine zr_if_lt (tgt := 96) hC Rx2 dX12_isKName_69 (by decide) (fun c1 => ?_) (fun c1 => ?_)
  · have h2 := hw.1 c1
    refine g_iconst (v := zI 0) hC dX12_isKName_96 rfl ?_
    exact zr_zret hC hZ (Or.inl rfl) h2 dX12_isKName_97
  · have h3 := hw.2 c1
    refine g_aload_n hC dX12_isKName_72 rfl ?_
    refine zr_geta hC hZ fl_X12_166 zb_51 (by decide) dX12_isKName_73 ?_
    refine g_iload_n hC dX12_isKName_76 rfl ?_
    obtain ⟨o4, h5⟩ := h3
    obtain ⟨o6, h7⟩ := h5
    refine zr_iald (v := (za s0 51 (Int.toNat x2))) hC hZ zk_51 zb_51 zn_51 (by decide) o4 o6 rfl dX12_isKName_77 ?_
    refine g_iconst (v := zI 2) hC dX12_isKName_78 rfl ?_
    refine zr_icmp_ne (tgt := 96) hC (hZ.ra 51 _) (by decide) dX12_isKName_79 (by decide) (fun c8 => ?_) (fun c8 => ?_)
    · have h9 := h7.1 c8
      refine g_iconst (v := zI 0) hC dX12_isKName_96 rfl ?_
      exact zr_zret hC hZ (Or.inl rfl) h9 dX12_isKName_97
    · have h10 := h7.2 c8
      refine g_aload_n hC dX12_isKName_82 rfl ?_
      refine zr_geta hC hZ fl_X12_172 zb_53 (by decide) dX12_isKName_83 ?_
      refine g_iload_n hC dX12_isKName_86 rfl ?_
      obtain ⟨o11, h12⟩ := h10
      obtain ⟨o13, h14⟩ := h12
      refine zr_iald (v := (za s0 53 (Int.toNat x2))) hC hZ zk_53 zb_53 zn_53 (by decide) o11 o13 rfl dX12_isKName_87 ?_
      refine g_iconst (v := zI 2) hC dX12_isKName_88 rfl ?_
      refine zr_icmp_ne (tgt := 96) hC (hZ.ra 53 _) (by decide) dX12_isKName_89 (by decide) (fun c15 => ?_) (fun c15 => ?_)
      · have h16 := h14.1 c15
        refine g_iconst (v := zI 0) hC dX12_isKName_96 rfl ?_
        exact zr_zret hC hZ (Or.inl rfl) h16 dX12_isKName_97
      · have h17 := h14.2 c15
        refine g_iconst (v := zI 1) hC dX12_isKName_92 rfl ?_
        refine g_goto (tgt := 97) hC dX12_isKName_93 (by decide) ?_
        exact zr_zret hC hZ (Or.inr rfl) h17 dX12_isKName_97
set_option maxHeartbeats 4000000 in
set_option maxRecDepth 100000 in
theorem rm_isKName (l : Launch) (d : gD) (b : Nat) {t : Nat} {T : Nat → Nat} {F : gM} {s0 : zS} {a0 : Int} (Ra0 : zR a0) {Q : Int → zS → Prop} (hZ : zZ d t T F F s0) (hw : wr_isKName s0 a0 Q) : gMi l d b yX12_isKName cX12_isKName 3 .boolean 1 0 0 F [.ref t, .int (zI a0)] (zPi d t T F Q) := by
  refine gM_of2 rfl (nL := 3) (Nat.le_of_ble_eq_true rfl) ?_
  intro X hX hC; subst hX
  show gG X d b (zQi X d b t T F Q) F 0 0 0 [some (.ref t), some (.int (zI a0)), none] []
  unfold wr_isKName at hw
  refine g_aload_n hC dX12_isKName_0 rfl ?_
  refine g_aload_n hC dX12_isKName_1 rfl ?_
  refine zr_geta hC hZ fl_X12_99 zb_29 (by decide) dX12_isKName_2 ?_
  refine g_iload_n hC dX12_isKName_5 rfl ?_
  obtain ⟨o1, h2⟩ := hw
  obtain ⟨o3, h4⟩ := h2
  refine zr_iald (v := (za s0 29 (Int.toNat a0))) hC hZ zk_29 zb_29 zn_29 (by decide) o1 o3 rfl dX12_isKName_6 ?_
  refine zr_callVi (As := [.int (zI (za s0 29 (Int.toNat a0)))]) hC hZ rfl (rm_means X.la d b (hZ.ra 29 _) hZ.rf h4) cl_X12_619 rfl rfl (Nat.le_of_ble_eq_true rfl) ⟨Nat.le_of_ble_eq_true rfl, Nat.le_of_ble_eq_true rfl⟩ dX12_isKName_7 (fun r5 s6 F7 R8 hZ9 h10 => ?_)
  refine g_istore_n (lv' := [some (.ref t), some (.int (zI a0)), some (.int (zI r5))]) hC dX12_isKName_10 (Nat.le_of_ble_eq_true rfl) rfl rfl ?_
  refine g_iload_n hC dX12_isKName_11 rfl ?_
  refine zr_if_ge (tgt := 33) hC R8 dX12_isKName_12 (by decide) (fun c11 => ?_) (fun c11 => ?_)
  · have h12 := h10.1 c11
    refine g_aload_n hC dX12_isKName_33 rfl ?_
    refine zr_geta hC hZ9 fl_X12_166 zb_51 (by decide) dX12_isKName_34 ?_
    refine g_iload_n hC dX12_isKName_37 rfl ?_
    obtain ⟨o13, h14⟩ := h12
    obtain ⟨o15, h16⟩ := h14
    refine zr_iald (v := (za s6 51 (Int.toNat r5))) hC hZ9 zk_51 zb_51 zn_51 (by decide) o13 o15 rfl dX12_isKName_38 ?_
    refine g_iconst (v := zI 2) hC dX12_isKName_39 rfl ?_
    refine zr_icmp_ne (tgt := 52) hC (hZ9.ra 51 _) (by decide) dX12_isKName_40 (by decide) (fun c17 => ?_) (fun c17 => ?_)
    · have h18 := h16.1 c17
      refine g_aload_n hC dX12_isKName_52 rfl ?_
      refine g_bipush (v := zI 6) hC dX12_isKName_53 rfl ?_
      refine g_aload_n hC dX12_isKName_55 rfl ?_
      refine g_aload_n hC dX12_isKName_56 rfl ?_
      refine zr_geta hC hZ9 fl_X12_90 zb_26 (by decide) dX12_isKName_57 ?_
      refine g_iload_n hC dX12_isKName_60 rfl ?_
      obtain ⟨o19, h20⟩ := h18
      obtain ⟨o21, h22⟩ := h20
      refine zr_iald (v := (za s6 26 (Int.toNat a0))) hC hZ9 zk_26 zb_26 zn_26 (by decide) o19 o21 rfl dX12_isKName_61 ?_
      refine zr_callVi (As := [.int (zI (za s6 26 (Int.toNat a0)))]) hC hZ9 rfl (rm_place X.la d b (hZ9.ra 26 _) hZ9.rf h22) cl_X12_613 rfl rfl (Nat.le_of_ble_eq_true rfl) ⟨Nat.le_of_ble_eq_true rfl, Nat.le_of_ble_eq_true rfl⟩ dX12_isKName_62 (fun r23 s24 F25 R26 hZ27 h28 => ?_)
      refine zr_callVv (As := [.int (zI 6), .int (zI r23)]) hC hZ27 rfl (rm_fault X.la d b (by decide) R26 hZ27.rf h28) cl_X12_605 rfl rfl (Nat.le_of_ble_eq_true rfl) ⟨Nat.le_of_ble_eq_true rfl, Nat.le_of_ble_eq_true rfl⟩ dX12_isKName_65 (fun s30 F31 hZ33 h34 => ?_)
      refine g_lv (lv' := [some (.ref t), none, some (.int (zI r5))]) ⟨rfl, rfl, trivial⟩ ?_
      exact rj_isKName_68 hC  R8 hZ33 h34
    · have h35 := h16.2 c17
      refine g_aload_n hC dX12_isKName_43 rfl ?_
      refine zr_geta hC hZ9 fl_X12_172 zb_53 (by decide) dX12_isKName_44 ?_
      refine g_iload_n hC dX12_isKName_47 rfl ?_
      obtain ⟨o36, h37⟩ := h35
      obtain ⟨o38, h39⟩ := h37
      refine zr_iald (v := (za s6 53 (Int.toNat r5))) hC hZ9 zk_53 zb_53 zn_53 (by decide) o36 o38 rfl dX12_isKName_48 ?_
      refine zr_if_ne (tgt := 68) hC (hZ9.ra 53 _) dX12_isKName_49 (by decide) (fun c40 => ?_) (fun c40 => ?_)
      · have h41 := h39.1 c40
        refine g_lv (lv' := [some (.ref t), none, some (.int (zI r5))]) ⟨rfl, rfl, trivial⟩ ?_
        exact rj_isKName_68 hC  R8 hZ9 h41
      · have h42 := h39.2 c40
        refine g_aload_n hC dX12_isKName_52 rfl ?_
        refine g_bipush (v := zI 6) hC dX12_isKName_53 rfl ?_
        refine g_aload_n hC dX12_isKName_55 rfl ?_
        refine g_aload_n hC dX12_isKName_56 rfl ?_
        refine zr_geta hC hZ9 fl_X12_90 zb_26 (by decide) dX12_isKName_57 ?_
        refine g_iload_n hC dX12_isKName_60 rfl ?_
        obtain ⟨o43, h44⟩ := h42
        obtain ⟨o45, h46⟩ := h44
        refine zr_iald (v := (za s6 26 (Int.toNat a0))) hC hZ9 zk_26 zb_26 zn_26 (by decide) o43 o45 rfl dX12_isKName_61 ?_
        refine zr_callVi (As := [.int (zI (za s6 26 (Int.toNat a0)))]) hC hZ9 rfl (rm_place X.la d b (hZ9.ra 26 _) hZ9.rf h46) cl_X12_613 rfl rfl (Nat.le_of_ble_eq_true rfl) ⟨Nat.le_of_ble_eq_true rfl, Nat.le_of_ble_eq_true rfl⟩ dX12_isKName_62 (fun r47 s48 F49 R50 hZ51 h52 => ?_)
        refine zr_callVv (As := [.int (zI 6), .int (zI r47)]) hC hZ51 rfl (rm_fault X.la d b (by decide) R50 hZ51.rf h52) cl_X12_605 rfl rfl (Nat.le_of_ble_eq_true rfl) ⟨Nat.le_of_ble_eq_true rfl, Nat.le_of_ble_eq_true rfl⟩ dX12_isKName_65 (fun s54 F55 hZ57 h58 => ?_)
        refine g_lv (lv' := [some (.ref t), none, some (.int (zI r5))]) ⟨rfl, rfl, trivial⟩ ?_
        exact rj_isKName_68 hC  R8 hZ57 h58
  · have h59 := h10.2 c11
    refine g_aload_n hC dX12_isKName_15 rfl ?_
    refine g_iconst (v := zI 3) hC dX12_isKName_16 rfl ?_
    refine g_aload_n hC dX12_isKName_17 rfl ?_
    refine g_aload_n hC dX12_isKName_18 rfl ?_
    refine zr_geta hC hZ9 fl_X12_90 zb_26 (by decide) dX12_isKName_19 ?_
    refine g_iload_n hC dX12_isKName_22 rfl ?_
    obtain ⟨o60, h61⟩ := h59
    obtain ⟨o62, h63⟩ := h61
    refine zr_iald (v := (za s6 26 (Int.toNat a0))) hC hZ9 zk_26 zb_26 zn_26 (by decide) o60 o62 rfl dX12_isKName_23 ?_
    refine zr_callVi (As := [.int (zI (za s6 26 (Int.toNat a0)))]) hC hZ9 rfl (rm_place X.la d b (hZ9.ra 26 _) hZ9.rf h63) cl_X12_613 rfl rfl (Nat.le_of_ble_eq_true rfl) ⟨Nat.le_of_ble_eq_true rfl, Nat.le_of_ble_eq_true rfl⟩ dX12_isKName_24 (fun r64 s65 F66 R67 hZ68 h69 => ?_)
    refine zr_callVv (As := [.int (zI 3), .int (zI r64)]) hC hZ68 rfl (rm_fault X.la d b (by decide) R67 hZ68.rf h69) cl_X12_605 rfl rfl (Nat.le_of_ble_eq_true rfl) ⟨Nat.le_of_ble_eq_true rfl, Nat.le_of_ble_eq_true rfl⟩ dX12_isKName_27 (fun s71 F72 hZ74 h75 => ?_)
    refine g_goto (tgt := 68) hC dX12_isKName_30 (by decide) ?_
    refine g_lv (lv' := [some (.ref t), none, some (.int (zI r5))]) ⟨rfl, rfl, trivial⟩ ?_
    exact rj_isKName_68 hC  R8 hZ74 h75
theorem dX12_isK_0 : decode cX12_isK 0 = .ok (.iconst 1, 1) := by decide +kernel
theorem dX12_isK_1 : decode cX12_isK 1 = .ok (.istore_n 2, 1) := by decide +kernel
theorem dX12_isK_2 : decode cX12_isK 2 = .ok (.iconst 1, 1) := by decide +kernel
theorem dX12_isK_3 : decode cX12_isK 3 = .ok (.istore_n 3, 1) := by decide +kernel
theorem dX12_isK_4 : decode cX12_isK 4 = .ok (.aload_n 0, 1) := by decide +kernel
theorem dX12_isK_5 : decode cX12_isK 5 = .ok (.getfield 194, 3) := by decide +kernel
theorem dX12_isK_8 : decode cX12_isK 8 = .ok (.iconst 0, 1) := by decide +kernel
theorem dX12_isK_9 : decode cX12_isK 9 = .ok (.iload_n 1, 1) := by decide +kernel
theorem dX12_isK_10 : decode cX12_isK 10 = .ok (.iastore, 1) := by decide +kernel
theorem dX12_isK_11 : decode cX12_isK 11 = .ok (.iload_n 3, 1) := by decide +kernel
theorem dX12_isK_12 : decode cX12_isK 12 = .ok (.ifCond .le 198, 3) := by decide +kernel
theorem dX12_isK_15 : decode cX12_isK 15 = .ok (.iinc 3 (-1), 3) := by decide +kernel
theorem dX12_isK_18 : decode cX12_isK 18 = .ok (.aload_n 0, 1) := by decide +kernel
theorem dX12_isK_19 : decode cX12_isK 19 = .ok (.getfield 194, 3) := by decide +kernel
theorem dX12_isK_22 : decode cX12_isK 22 = .ok (.iload_n 3, 1) := by decide +kernel
theorem dX12_isK_23 : decode cX12_isK 23 = .ok (.iaload, 1) := by decide +kernel
theorem dX12_isK_24 : decode cX12_isK 24 = .ok (.istore 4, 2) := by decide +kernel
theorem dX12_isK_26 : decode cX12_isK 26 = .ok (.aload_n 0, 1) := by decide +kernel
theorem dX12_isK_27 : decode cX12_isK 27 = .ok (.getfield 87, 3) := by decide +kernel
theorem dX12_isK_30 : decode cX12_isK 30 = .ok (.iload 4, 2) := by decide +kernel
theorem dX12_isK_32 : decode cX12_isK 32 = .ok (.baload, 1) := by decide +kernel
theorem dX12_isK_33 : decode cX12_isK 33 = .ok (.istore 5, 2) := by decide +kernel
theorem dX12_isK_35 : decode cX12_isK 35 = .ok (.iload 5, 2) := by decide +kernel
theorem dX12_isK_37 : decode cX12_isK 37 = .ok (.bipush 6, 2) := by decide +kernel
theorem dX12_isK_39 : decode cX12_isK 39 = .ok (.if_icmp .eq 66, 3) := by decide +kernel
theorem dX12_isK_42 : decode cX12_isK 42 = .ok (.iload 5, 2) := by decide +kernel
theorem dX12_isK_44 : decode cX12_isK 44 = .ok (.bipush 7, 2) := by decide +kernel
theorem dX12_isK_46 : decode cX12_isK 46 = .ok (.if_icmp .eq 59, 3) := by decide +kernel
theorem dX12_isK_49 : decode cX12_isK 49 = .ok (.iload 5, 2) := by decide +kernel
theorem dX12_isK_51 : decode cX12_isK 51 = .ok (.bipush 8, 2) := by decide +kernel
theorem dX12_isK_53 : decode cX12_isK 53 = .ok (.if_icmp .eq 52, 3) := by decide +kernel
theorem dX12_isK_56 : decode cX12_isK 56 = .ok (.iload 5, 2) := by decide +kernel
theorem dX12_isK_58 : decode cX12_isK 58 = .ok (.iconst 4, 1) := by decide +kernel
theorem dX12_isK_59 : decode cX12_isK 59 = .ok (.if_icmp .eq 46, 3) := by decide +kernel
theorem dX12_isK_62 : decode cX12_isK 62 = .ok (.iload 5, 2) := by decide +kernel
theorem dX12_isK_64 : decode cX12_isK 64 = .ok (.iconst 5, 1) := by decide +kernel
theorem dX12_isK_65 : decode cX12_isK 65 = .ok (.if_icmp .eq 40, 3) := by decide +kernel
theorem dX12_isK_68 : decode cX12_isK 68 = .ok (.iload 5, 2) := by decide +kernel
theorem dX12_isK_70 : decode cX12_isK 70 = .ok (.iconst 3, 1) := by decide +kernel
theorem dX12_isK_71 : decode cX12_isK 71 = .ok (.if_icmp .eq 34, 3) := by decide +kernel
theorem dX12_isK_74 : decode cX12_isK 74 = .ok (.iload 5, 2) := by decide +kernel
theorem dX12_isK_76 : decode cX12_isK 76 = .ok (.bipush 9, 2) := by decide +kernel
theorem dX12_isK_78 : decode cX12_isK 78 = .ok (.if_icmp .ne 31, 3) := by decide +kernel
theorem dX12_isK_81 : decode cX12_isK 81 = .ok (.aload_n 0, 1) := by decide +kernel
theorem dX12_isK_82 : decode cX12_isK 82 = .ok (.getfield 99, 3) := by decide +kernel
theorem dX12_isK_85 : decode cX12_isK 85 = .ok (.iload 4, 2) := by decide +kernel
theorem dX12_isK_87 : decode cX12_isK 87 = .ok (.iaload, 1) := by decide +kernel
theorem dX12_isK_88 : decode cX12_isK 88 = .ok (.bipush 18, 2) := by decide +kernel
theorem dX12_isK_90 : decode cX12_isK 90 = .ok (.if_icmp .eq 15, 3) := by decide +kernel
theorem dX12_isK_93 : decode cX12_isK 93 = .ok (.aload_n 0, 1) := by decide +kernel
theorem dX12_isK_94 : decode cX12_isK 94 = .ok (.getfield 99, 3) := by decide +kernel
theorem dX12_isK_97 : decode cX12_isK 97 = .ok (.iload 4, 2) := by decide +kernel
theorem dX12_isK_99 : decode cX12_isK 99 = .ok (.iaload, 1) := by decide +kernel
theorem dX12_isK_100 : decode cX12_isK 100 = .ok (.bipush 19, 2) := by decide +kernel
theorem dX12_isK_102 : decode cX12_isK 102 = .ok (.if_icmp .ne 7, 3) := by decide +kernel
theorem dX12_isK_105 : decode cX12_isK 105 = .ok (.iconst 1, 1) := by decide +kernel
theorem dX12_isK_106 : decode cX12_isK 106 = .ok (.goto 4, 3) := by decide +kernel
theorem dX12_isK_109 : decode cX12_isK 109 = .ok (.iconst 0, 1) := by decide +kernel
theorem dX12_isK_110 : decode cX12_isK 110 = .ok (.istore 6, 2) := by decide +kernel
theorem dX12_isK_112 : decode cX12_isK 112 = .ok (.iload 6, 2) := by decide +kernel
theorem dX12_isK_114 : decode cX12_isK 114 = .ok (.ifCond .eq 22, 3) := by decide +kernel
theorem dX12_isK_117 : decode cX12_isK 117 = .ok (.aload_n 0, 1) := by decide +kernel
theorem dX12_isK_118 : decode cX12_isK 118 = .ok (.bipush 6, 2) := by decide +kernel
theorem dX12_isK_120 : decode cX12_isK 120 = .ok (.aload_n 0, 1) := by decide +kernel
theorem dX12_isK_121 : decode cX12_isK 121 = .ok (.aload_n 0, 1) := by decide +kernel
theorem dX12_isK_122 : decode cX12_isK 122 = .ok (.getfield 90, 3) := by decide +kernel
theorem dX12_isK_125 : decode cX12_isK 125 = .ok (.iload 4, 2) := by decide +kernel
theorem dX12_isK_127 : decode cX12_isK 127 = .ok (.iaload, 1) := by decide +kernel
theorem dX12_isK_128 : decode cX12_isK 128 = .ok (.invokevirtual 613, 3) := by decide +kernel
theorem dX12_isK_131 : decode cX12_isK 131 = .ok (.invokevirtual 605, 3) := by decide +kernel
theorem dX12_isK_134 : decode cX12_isK 134 = .ok (.iconst 0, 1) := by decide +kernel
theorem dX12_isK_135 : decode cX12_isK 135 = .ok (.istore_n 2, 1) := by decide +kernel
theorem dX12_isK_136 : decode cX12_isK 136 = .ok (.iload 5, 2) := by decide +kernel
theorem dX12_isK_138 : decode cX12_isK 138 = .ok (.iconst 1, 1) := by decide +kernel
theorem dX12_isK_139 : decode cX12_isK 139 = .ok (.if_icmp .ne 22, 3) := by decide +kernel
theorem dX12_isK_142 : decode cX12_isK 142 = .ok (.aload_n 0, 1) := by decide +kernel
theorem dX12_isK_143 : decode cX12_isK 143 = .ok (.iload 4, 2) := by decide +kernel
theorem dX12_isK_145 : decode cX12_isK 145 = .ok (.invokevirtual 616, 3) := by decide +kernel
theorem dX12_isK_148 : decode cX12_isK 148 = .ok (.ifCond .eq 11, 3) := by decide +kernel
theorem dX12_isK_151 : decode cX12_isK 151 = .ok (.iload_n 2, 1) := by decide +kernel
theorem dX12_isK_152 : decode cX12_isK 152 = .ok (.ifCond .eq 7, 3) := by decide +kernel
theorem dX12_isK_155 : decode cX12_isK 155 = .ok (.iconst 1, 1) := by decide +kernel
theorem dX12_isK_156 : decode cX12_isK 156 = .ok (.goto 4, 3) := by decide +kernel
theorem dX12_isK_159 : decode cX12_isK 159 = .ok (.iconst 0, 1) := by decide +kernel
theorem dX12_isK_160 : decode cX12_isK 160 = .ok (.istore_n 2, 1) := by decide +kernel
theorem dX12_isK_161 : decode cX12_isK 161 = .ok (.iload 5, 2) := by decide +kernel
theorem dX12_isK_163 : decode cX12_isK 163 = .ok (.iconst 4, 1) := by decide +kernel
theorem dX12_isK_164 : decode cX12_isK 164 = .ok (.if_icmp .ne 6, 3) := by decide +kernel
theorem dX12_isK_167 : decode cX12_isK 167 = .ok (.goto (-156), 3) := by decide +kernel
theorem dX12_isK_170 : decode cX12_isK 170 = .ok (.aload_n 0, 1) := by decide +kernel
theorem dX12_isK_171 : decode cX12_isK 171 = .ok (.getfield 93, 3) := by decide +kernel
theorem dX12_isK_174 : decode cX12_isK 174 = .ok (.iload 4, 2) := by decide +kernel
theorem dX12_isK_176 : decode cX12_isK 176 = .ok (.iaload, 1) := by decide +kernel
theorem dX12_isK_177 : decode cX12_isK 177 = .ok (.istore 7, 2) := by decide +kernel
theorem dX12_isK_179 : decode cX12_isK 179 = .ok (.iload 7, 2) := by decide +kernel
theorem dX12_isK_181 : decode cX12_isK 181 = .ok (.ifCond .lt 26, 3) := by decide +kernel
theorem dX12_isK_184 : decode cX12_isK 184 = .ok (.aload_n 0, 1) := by decide +kernel
theorem dX12_isK_185 : decode cX12_isK 185 = .ok (.getfield 194, 3) := by decide +kernel
theorem dX12_isK_188 : decode cX12_isK 188 = .ok (.iload_n 3, 1) := by decide +kernel
theorem dX12_isK_189 : decode cX12_isK 189 = .ok (.iload 7, 2) := by decide +kernel
theorem dX12_isK_191 : decode cX12_isK 191 = .ok (.iastore, 1) := by decide +kernel
theorem dX12_isK_192 : decode cX12_isK 192 = .ok (.iinc 3 1, 3) := by decide +kernel
theorem dX12_isK_195 : decode cX12_isK 195 = .ok (.aload_n 0, 1) := by decide +kernel
theorem dX12_isK_196 : decode cX12_isK 196 = .ok (.getfield 96, 3) := by decide +kernel
theorem dX12_isK_199 : decode cX12_isK 199 = .ok (.iload 7, 2) := by decide +kernel
theorem dX12_isK_201 : decode cX12_isK 201 = .ok (.iaload, 1) := by decide +kernel
theorem dX12_isK_202 : decode cX12_isK 202 = .ok (.istore 7, 2) := by decide +kernel
theorem dX12_isK_204 : decode cX12_isK 204 = .ok (.goto (-25), 3) := by decide +kernel
theorem dX12_isK_207 : decode cX12_isK 207 = .ok (.goto (-196), 3) := by decide +kernel
theorem dX12_isK_210 : decode cX12_isK 210 = .ok (.iload_n 2, 1) := by decide +kernel
theorem dX12_isK_211 : decode cX12_isK 211 = .ok (.ireturn, 1) := by decide +kernel
def wr_isK_179B (Q : Int → zS → Prop) (k11 : zS → Int → Int → Prop) (k179 : zS → Int → Int → Int → Prop) (s0 : zS) (x2 : Int) (x3 : Int) (x7 : Int) : Prop :=
  ((x7 < 0 → k11 s0 x2 x3) ∧ (¬ x7 < 0 → (0 ≤ x3) ∧ (x3 < 26000) ∧ (0 ≤ x7) ∧ (x7 < 26000) ∧ (zR (x3 + 1)) ∧ k179 (zpa s0 60 (Int.toNat x3) x7) x2 (x3 + 1) (za s0 28 (Int.toNat x7))))
def wr_isK_179 (Q : Int → zS → Prop) (k11 : zS → Int → Int → Prop) : Nat → zS → Int → Int → Int → Prop
  | 0 => fun _ _ _ _ => False
  | m + 1 => fun s0 x2 x3 x7 => wr_isK_179B Q k11 (wr_isK_179 Q k11 m) s0 x2 x3 x7
def wr_isK_136 (Q : Int → zS → Prop) (k11 : zS → Int → Int → Prop) (s0 : zS) (x2 : Int) (x3 : Int) (x4 : Int) (x5 : Int) : Prop :=
  ((¬ x5 = 1 → ((¬ x5 = 4 → (0 ≤ x4) ∧ (x4 < 26000) ∧ ∃ n, wr_isK_179 Q k11 n s0 x2 x3 (za s0 27 (Int.toNat x4))) ∧ (x5 = 4 → k11 s0 x2 x3))) ∧ (x5 = 1 → wr_isKName s0 x4 (fun r13 s14 => ((r13 = 0 → ((¬ x5 = 4 → (0 ≤ x4) ∧ (x4 < 26000) ∧ ∃ n, wr_isK_179 Q k11 n s14 0 x3 (za s14 27 (Int.toNat x4))) ∧ (x5 = 4 → k11 s14 0 x3))) ∧ (¬ r13 = 0 → ((x2 = 0 → ((¬ x5 = 4 → (0 ≤ x4) ∧ (x4 < 26000) ∧ ∃ n, wr_isK_179 Q k11 n s14 0 x3 (za s14 27 (Int.toNat x4))) ∧ (x5 = 4 → k11 s14 0 x3))) ∧ (¬ x2 = 0 → ((¬ x5 = 4 → (0 ≤ x4) ∧ (x4 < 26000) ∧ ∃ n, wr_isK_179 Q k11 n s14 1 x3 (za s14 27 (Int.toNat x4))) ∧ (x5 = 4 → k11 s14 1 x3)))))))))
def wr_isK_105 (Q : Int → zS → Prop) (k11 : zS → Int → Int → Prop) (s0 : zS) (x2 : Int) (x3 : Int) (x4 : Int) (x5 : Int) : Prop :=
  (0 ≤ x4) ∧ (x4 < 26000) ∧ wr_place s0 (za s0 26 (Int.toNat x4)) (fun r6 s7 => wr_fault s7 6 r6 (fun s13 => wr_isK_136 Q k11 s13 0 x3 x4 x5))
def wr_isK_11B (Q : Int → zS → Prop) (k11 : zS → Int → Int → Prop) (s0 : zS) (x2 : Int) (x3 : Int) : Prop :=
  ((x3 ≤ 0 → (x2 = 0 ∨ x2 = 1) ∧ Q x2 s0) ∧ (¬ x3 ≤ 0 → (0 ≤ (x3 + (-1))) ∧ ((x3 + (-1)) < 26000) ∧ (0 ≤ (za s0 60 (Int.toNat (x3 + (-1))))) ∧ ((za s0 60 (Int.toNat (x3 + (-1)))) < 26000) ∧ (((za s0 25 (Int.toNat (za s0 60 (Int.toNat (x3 + (-1)))))) = 6 → wr_isK_105 Q k11 s0 x2 (x3 + (-1)) (za s0 60 (Int.toNat (x3 + (-1)))) (za s0 25 (Int.toNat (za s0 60 (Int.toNat (x3 + (-1))))))) ∧ (¬ (za s0 25 (Int.toNat (za s0 60 (Int.toNat (x3 + (-1)))))) = 6 → (((za s0 25 (Int.toNat (za s0 60 (Int.toNat (x3 + (-1)))))) = 7 → wr_isK_105 Q k11 s0 x2 (x3 + (-1)) (za s0 60 (Int.toNat (x3 + (-1)))) (za s0 25 (Int.toNat (za s0 60 (Int.toNat (x3 + (-1))))))) ∧ (¬ (za s0 25 (Int.toNat (za s0 60 (Int.toNat (x3 + (-1)))))) = 7 → (((za s0 25 (Int.toNat (za s0 60 (Int.toNat (x3 + (-1)))))) = 8 → wr_isK_105 Q k11 s0 x2 (x3 + (-1)) (za s0 60 (Int.toNat (x3 + (-1)))) (za s0 25 (Int.toNat (za s0 60 (Int.toNat (x3 + (-1))))))) ∧ (¬ (za s0 25 (Int.toNat (za s0 60 (Int.toNat (x3 + (-1)))))) = 8 → (((za s0 25 (Int.toNat (za s0 60 (Int.toNat (x3 + (-1)))))) = 4 → wr_isK_105 Q k11 s0 x2 (x3 + (-1)) (za s0 60 (Int.toNat (x3 + (-1)))) (za s0 25 (Int.toNat (za s0 60 (Int.toNat (x3 + (-1))))))) ∧ (¬ (za s0 25 (Int.toNat (za s0 60 (Int.toNat (x3 + (-1)))))) = 4 → (((za s0 25 (Int.toNat (za s0 60 (Int.toNat (x3 + (-1)))))) = 5 → wr_isK_105 Q k11 s0 x2 (x3 + (-1)) (za s0 60 (Int.toNat (x3 + (-1)))) (za s0 25 (Int.toNat (za s0 60 (Int.toNat (x3 + (-1))))))) ∧ (¬ (za s0 25 (Int.toNat (za s0 60 (Int.toNat (x3 + (-1)))))) = 5 → (((za s0 25 (Int.toNat (za s0 60 (Int.toNat (x3 + (-1)))))) = 3 → wr_isK_105 Q k11 s0 x2 (x3 + (-1)) (za s0 60 (Int.toNat (x3 + (-1)))) (za s0 25 (Int.toNat (za s0 60 (Int.toNat (x3 + (-1))))))) ∧ (¬ (za s0 25 (Int.toNat (za s0 60 (Int.toNat (x3 + (-1)))))) = 3 → ((¬ (za s0 25 (Int.toNat (za s0 60 (Int.toNat (x3 + (-1)))))) = 9 → wr_isK_136 Q k11 s0 x2 (x3 + (-1)) (za s0 60 (Int.toNat (x3 + (-1)))) (za s0 25 (Int.toNat (za s0 60 (Int.toNat (x3 + (-1))))))) ∧ ((za s0 25 (Int.toNat (za s0 60 (Int.toNat (x3 + (-1)))))) = 9 → (0 ≤ (za s0 60 (Int.toNat (x3 + (-1))))) ∧ ((za s0 60 (Int.toNat (x3 + (-1)))) < 26000) ∧ (((za s0 29 (Int.toNat (za s0 60 (Int.toNat (x3 + (-1)))))) = 18 → wr_isK_105 Q k11 s0 x2 (x3 + (-1)) (za s0 60 (Int.toNat (x3 + (-1)))) (za s0 25 (Int.toNat (za s0 60 (Int.toNat (x3 + (-1))))))) ∧ (¬ (za s0 29 (Int.toNat (za s0 60 (Int.toNat (x3 + (-1)))))) = 18 → (0 ≤ (za s0 60 (Int.toNat (x3 + (-1))))) ∧ ((za s0 60 (Int.toNat (x3 + (-1)))) < 26000) ∧ ((¬ (za s0 29 (Int.toNat (za s0 60 (Int.toNat (x3 + (-1)))))) = 19 → wr_isK_136 Q k11 s0 x2 (x3 + (-1)) (za s0 60 (Int.toNat (x3 + (-1)))) (za s0 25 (Int.toNat (za s0 60 (Int.toNat (x3 + (-1))))))) ∧ ((za s0 29 (Int.toNat (za s0 60 (Int.toNat (x3 + (-1)))))) = 19 → wr_isK_105 Q k11 s0 x2 (x3 + (-1)) (za s0 60 (Int.toNat (x3 + (-1)))) (za s0 25 (Int.toNat (za s0 60 (Int.toNat (x3 + (-1))))))))))))))))))))))))))
def wr_isK_11 (Q : Int → zS → Prop)  : Nat → zS → Int → Int → Prop
  | 0 => fun _ _ _ => False
  | m + 1 => fun s0 x2 x3 => wr_isK_11B Q  (wr_isK_11 Q  m) s0 x2 x3
def wr_isK (s0 : zS) (a0 : Int) (Q : Int → zS → Prop) : Prop :=
  ∃ n, wr_isK_11 Q  n (zpa s0 60 (Int.toNat 0) a0) 1 1
set_option maxHeartbeats 4000000 in
set_option maxRecDepth 100000 in
theorem rb_isK_179 {X : gX} {d : gD} {b t : Nat} {T : Nat → Nat} {F0 : gM} (hC : gC RX12 cX12_isK 8 (some .boolean) "isK" (gR 2 0 0) d b X) {Q : Int → zS → Prop} {k11 : zS → Int → Int → Prop} {k179 : zS → Int → Int → Int → Prop} (hk11 : ∀ (F : gM) (s0 : zS) (x2 : Int) (x3 : Int), zR x2 → zR x3 → zZ d t T F0 F s0 → k11 s0 x2 x3 → gG X d b (zQi X d b t T F0 Q) F 0 0 11 [some (.ref t), none, some (.int (zI x2)), some (.int (zI x3)), none, none, none, none] []) (hk179 : ∀ (F : gM) (s0 : zS) (x2 : Int) (x3 : Int) (x7 : Int), zR x2 → zR x3 → zR x7 → zZ d t T F0 F s0 → k179 s0 x2 x3 x7 → gG X d b (zQi X d b t T F0 Q) F 0 0 179 [some (.ref t), none, some (.int (zI x2)), some (.int (zI x3)), none, none, none, some (.int (zI x7))] []) {F : gM} {s0 : zS} {x2 : Int} {x3 : Int} {x7 : Int} (Rx2 : zR x2) (Rx3 : zR x3) (Rx7 : zR x7) (hZ : zZ d t T F0 F s0) (hw : wr_isK_179B Q k11 k179 s0 x2 x3 x7) : gG X d b (zQi X d b t T F0 Q) F 0 0 179 [some (.ref t), none, some (.int (zI x2)), some (.int (zI x3)), none, none, none, some (.int (zI x7))] [] := by
  unfold wr_isK_179B at hw
  refine g_iload hC dX12_isK_179 rfl ?_
  refine zr_if_lt (tgt := 207) hC Rx7 dX12_isK_181 (by decide) (fun c1 => ?_) (fun c1 => ?_)
  · have h2 := hw.1 c1
    refine g_goto (tgt := 11) hC dX12_isK_207 (by decide) ?_
    refine g_lv (lv' := [some (.ref t), none, some (.int (zI x2)), some (.int (zI x3)), none, none, none, none]) ⟨rfl, rfl, rfl, trivial⟩ ?_
    exact hk11 _ _ _ _ Rx2 Rx3 hZ h2
  · have h3 := hw.2 c1
    refine g_aload_n hC dX12_isK_184 rfl ?_
    refine zr_geta hC hZ fl_X12_194 zb_60 (by decide) dX12_isK_185 ?_
    refine g_iload_n hC dX12_isK_188 rfl ?_
    refine g_iload hC dX12_isK_189 rfl ?_
    obtain ⟨o4, h5⟩ := h3
    obtain ⟨o6, h7⟩ := h5
    refine zr_iast hC hZ zk_60 zb_60 zn_60 (by decide) o4 o6 Rx7 dX12_isK_191 (fun F8 hZ9 => ?_)
    refine zr_iinc (x := x3) (lv' := [some (.ref t), none, some (.int (zI x2)), some (.int (zI (x3 + 1))), none, none, none, some (.int (zI x7))]) hC dX12_isK_192 rfl rfl rfl ?_
    refine g_aload_n hC dX12_isK_195 rfl ?_
    refine zr_geta hC hZ9 fl_X12_96 zb_28 (by decide) dX12_isK_196 ?_
    refine g_iload hC dX12_isK_199 rfl ?_
    obtain ⟨o10, h11⟩ := h7
    obtain ⟨o12, h13⟩ := h11
    refine zr_iald (v := (za s0 28 (Int.toNat x7))) hC hZ9 zk_28 zb_28 zn_28 (by decide) o10 o12 rfl dX12_isK_201 ?_
    refine g_istore (lv' := [some (.ref t), none, some (.int (zI x2)), some (.int (zI (x3 + 1))), none, none, none, some (.int (zI (za s0 28 (Int.toNat x7))))]) hC dX12_isK_202 (Nat.le_of_ble_eq_true rfl) rfl rfl ?_
    refine g_goto (tgt := 179) hC dX12_isK_204 (by decide) ?_
    obtain ⟨o14, h15⟩ := h13
    exact hk179 _ _ _ _ _ Rx2 o14 (hZ.ra 28 _) hZ9 h15
theorem rl_isK_179 {X : gX} {d : gD} {b t : Nat} {T : Nat → Nat} {F0 : gM} (hC : gC RX12 cX12_isK 8 (some .boolean) "isK" (gR 2 0 0) d b X) {Q : Int → zS → Prop} {k11 : zS → Int → Int → Prop} (hk11 : ∀ (F : gM) (s0 : zS) (x2 : Int) (x3 : Int), zR x2 → zR x3 → zZ d t T F0 F s0 → k11 s0 x2 x3 → gG X d b (zQi X d b t T F0 Q) F 0 0 11 [some (.ref t), none, some (.int (zI x2)), some (.int (zI x3)), none, none, none, none] []) : ∀ (m : Nat) (F : gM) (s0 : zS) (x2 : Int) (x3 : Int) (x7 : Int), zR x2 → zR x3 → zR x7 → zZ d t T F0 F s0 → wr_isK_179 Q k11 m s0 x2 x3 x7 → gG X d b (zQi X d b t T F0 Q) F 0 0 179 [some (.ref t), none, some (.int (zI x2)), some (.int (zI x3)), none, none, none, some (.int (zI x7))] [] := by
  intro m
  induction m with
  | zero => intro F s0 x2 x3 x7 Rx2 Rx3 Rx7 hZ hw; exact False.elim hw
  | succ m ih => intro F s0 x2 x3 x7 Rx2 Rx3 Rx7 hZ hw; exact rb_isK_179 hC hk11 ih Rx2 Rx3 Rx7 hZ hw
set_option maxHeartbeats 4000000 in
set_option maxRecDepth 100000 in
theorem rj_isK_136 {X : gX} {d : gD} {b t : Nat} {T : Nat → Nat} {F0 : gM} (hC : gC RX12 cX12_isK 8 (some .boolean) "isK" (gR 2 0 0) d b X) {Q : Int → zS → Prop} {k11 : zS → Int → Int → Prop} (hk11 : ∀ (F : gM) (s0 : zS) (x2 : Int) (x3 : Int), zR x2 → zR x3 → zZ d t T F0 F s0 → k11 s0 x2 x3 → gG X d b (zQi X d b t T F0 Q) F 0 0 11 [some (.ref t), none, some (.int (zI x2)), some (.int (zI x3)), none, none, none, none] []) {F : gM} {s0 : zS} {x2 : Int} {x3 : Int} {x4 : Int} {x5 : Int} (Rx2 : zR x2) (Rx3 : zR x3) (Rx4 : zR x4) (Rx5 : zR x5) (hZ : zZ d t T F0 F s0) (hw : wr_isK_136 Q k11 s0 x2 x3 x4 x5) : gG X d b (zQi X d b t T F0 Q) F 0 0 136 [some (.ref t), none, some (.int (zI x2)), some (.int (zI x3)), some (.int (zI x4)), some (.int (zI x5)), none, none] [] := by
  unfold wr_isK_136 at hw
  refine g_iload hC dX12_isK_136 rfl ?_
  refine g_iconst (v := zI 1) hC dX12_isK_138 rfl ?_
  refine zr_icmp_ne (tgt := 161) hC Rx5 (by decide) dX12_isK_139 (by decide) (fun c1 => ?_) (fun c1 => ?_)
  · have h2 := hw.1 c1
    refine g_iload hC dX12_isK_161 rfl ?_
    refine g_iconst (v := zI 4) hC dX12_isK_163 rfl ?_
    refine zr_icmp_ne (tgt := 170) hC Rx5 (by decide) dX12_isK_164 (by decide) (fun c3 => ?_) (fun c3 => ?_)
    · have h4 := h2.1 c3
      refine g_aload_n hC dX12_isK_170 rfl ?_
      refine zr_geta hC hZ fl_X12_93 zb_27 (by decide) dX12_isK_171 ?_
      refine g_iload hC dX12_isK_174 rfl ?_
      obtain ⟨o5, h6⟩ := h4
      obtain ⟨o7, h8⟩ := h6
      refine zr_iald (v := (za s0 27 (Int.toNat x4))) hC hZ zk_27 zb_27 zn_27 (by decide) o5 o7 rfl dX12_isK_176 ?_
      refine g_istore (lv' := [some (.ref t), none, some (.int (zI x2)), some (.int (zI x3)), some (.int (zI x4)), some (.int (zI x5)), none, some (.int (zI (za s0 27 (Int.toNat x4))))]) hC dX12_isK_177 (Nat.le_of_ble_eq_true rfl) rfl rfl ?_
      refine g_lv (lv' := [some (.ref t), none, some (.int (zI x2)), some (.int (zI x3)), none, none, none, some (.int (zI (za s0 27 (Int.toNat x4))))]) ⟨rfl, rfl, rfl, rfl, trivial⟩ ?_
      obtain ⟨m9, h10⟩ := h8
      exact rl_isK_179 hC hk11 m9 _ _ _ _ _ Rx2 Rx3 (hZ.ra 27 _) hZ h10
    · have h11 := h2.2 c3
      refine g_goto (tgt := 11) hC dX12_isK_167 (by decide) ?_
      refine g_lv (lv' := [some (.ref t), none, some (.int (zI x2)), some (.int (zI x3)), none, none, none, none]) ⟨rfl, rfl, rfl, trivial⟩ ?_
      exact hk11 _ _ _ _ Rx2 Rx3 hZ h11
  · have h12 := hw.2 c1
    refine g_aload_n hC dX12_isK_142 rfl ?_
    refine g_iload hC dX12_isK_143 rfl ?_
    refine zr_callVi (As := [.int (zI x4)]) hC hZ rfl (rm_isKName X.la d b Rx4 hZ.rf h12) cl_X12_616 rfl rfl (Nat.le_of_ble_eq_true rfl) ⟨Nat.le_of_ble_eq_true rfl, Nat.le_of_ble_eq_true rfl⟩ dX12_isK_145 (fun r13 s14 F15 R16 hZ17 h18 => ?_)
    refine zr_if_eq (tgt := 159) hC R16 dX12_isK_148 (by decide) (fun c19 => ?_) (fun c19 => ?_)
    · have h20 := h18.1 c19
      refine g_iconst (v := zI 0) hC dX12_isK_159 rfl ?_
      refine g_istore_n (lv' := [some (.ref t), none, some (.int (zI 0)), some (.int (zI x3)), some (.int (zI x4)), some (.int (zI x5)), none, none]) hC dX12_isK_160 (Nat.le_of_ble_eq_true rfl) rfl rfl ?_
      refine g_iload hC dX12_isK_161 rfl ?_
      refine g_iconst (v := zI 4) hC dX12_isK_163 rfl ?_
      refine zr_icmp_ne (tgt := 170) hC Rx5 (by decide) dX12_isK_164 (by decide) (fun c21 => ?_) (fun c21 => ?_)
      · have h22 := h20.1 c21
        refine g_aload_n hC dX12_isK_170 rfl ?_
        refine zr_geta hC hZ17 fl_X12_93 zb_27 (by decide) dX12_isK_171 ?_
        refine g_iload hC dX12_isK_174 rfl ?_
        obtain ⟨o23, h24⟩ := h22
        obtain ⟨o25, h26⟩ := h24
        refine zr_iald (v := (za s14 27 (Int.toNat x4))) hC hZ17 zk_27 zb_27 zn_27 (by decide) o23 o25 rfl dX12_isK_176 ?_
        refine g_istore (lv' := [some (.ref t), none, some (.int (zI 0)), some (.int (zI x3)), some (.int (zI x4)), some (.int (zI x5)), none, some (.int (zI (za s14 27 (Int.toNat x4))))]) hC dX12_isK_177 (Nat.le_of_ble_eq_true rfl) rfl rfl ?_
        refine g_lv (lv' := [some (.ref t), none, some (.int (zI 0)), some (.int (zI x3)), none, none, none, some (.int (zI (za s14 27 (Int.toNat x4))))]) ⟨rfl, rfl, rfl, rfl, trivial⟩ ?_
        obtain ⟨m27, h28⟩ := h26
        exact rl_isK_179 hC hk11 m27 _ _ _ _ _ (by decide) Rx3 (hZ17.ra 27 _) hZ17 h28
      · have h29 := h20.2 c21
        refine g_goto (tgt := 11) hC dX12_isK_167 (by decide) ?_
        refine g_lv (lv' := [some (.ref t), none, some (.int (zI 0)), some (.int (zI x3)), none, none, none, none]) ⟨rfl, rfl, rfl, trivial⟩ ?_
        exact hk11 _ _ _ _ (by decide) Rx3 hZ17 h29
    · have h30 := h18.2 c19
      refine g_iload_n hC dX12_isK_151 rfl ?_
      refine zr_if_eq (tgt := 159) hC Rx2 dX12_isK_152 (by decide) (fun c31 => ?_) (fun c31 => ?_)
      · have h32 := h30.1 c31
        refine g_iconst (v := zI 0) hC dX12_isK_159 rfl ?_
        refine g_istore_n (lv' := [some (.ref t), none, some (.int (zI 0)), some (.int (zI x3)), some (.int (zI x4)), some (.int (zI x5)), none, none]) hC dX12_isK_160 (Nat.le_of_ble_eq_true rfl) rfl rfl ?_
        refine g_iload hC dX12_isK_161 rfl ?_
        refine g_iconst (v := zI 4) hC dX12_isK_163 rfl ?_
        refine zr_icmp_ne (tgt := 170) hC Rx5 (by decide) dX12_isK_164 (by decide) (fun c33 => ?_) (fun c33 => ?_)
        · have h34 := h32.1 c33
          refine g_aload_n hC dX12_isK_170 rfl ?_
          refine zr_geta hC hZ17 fl_X12_93 zb_27 (by decide) dX12_isK_171 ?_
          refine g_iload hC dX12_isK_174 rfl ?_
          obtain ⟨o35, h36⟩ := h34
          obtain ⟨o37, h38⟩ := h36
          refine zr_iald (v := (za s14 27 (Int.toNat x4))) hC hZ17 zk_27 zb_27 zn_27 (by decide) o35 o37 rfl dX12_isK_176 ?_
          refine g_istore (lv' := [some (.ref t), none, some (.int (zI 0)), some (.int (zI x3)), some (.int (zI x4)), some (.int (zI x5)), none, some (.int (zI (za s14 27 (Int.toNat x4))))]) hC dX12_isK_177 (Nat.le_of_ble_eq_true rfl) rfl rfl ?_
          refine g_lv (lv' := [some (.ref t), none, some (.int (zI 0)), some (.int (zI x3)), none, none, none, some (.int (zI (za s14 27 (Int.toNat x4))))]) ⟨rfl, rfl, rfl, rfl, trivial⟩ ?_
          obtain ⟨m39, h40⟩ := h38
          exact rl_isK_179 hC hk11 m39 _ _ _ _ _ (by decide) Rx3 (hZ17.ra 27 _) hZ17 h40
        · have h41 := h32.2 c33
          refine g_goto (tgt := 11) hC dX12_isK_167 (by decide) ?_
          refine g_lv (lv' := [some (.ref t), none, some (.int (zI 0)), some (.int (zI x3)), none, none, none, none]) ⟨rfl, rfl, rfl, trivial⟩ ?_
          exact hk11 _ _ _ _ (by decide) Rx3 hZ17 h41
      · have h42 := h30.2 c31
        refine g_iconst (v := zI 1) hC dX12_isK_155 rfl ?_
        refine g_goto (tgt := 160) hC dX12_isK_156 (by decide) ?_
        refine g_istore_n (lv' := [some (.ref t), none, some (.int (zI 1)), some (.int (zI x3)), some (.int (zI x4)), some (.int (zI x5)), none, none]) hC dX12_isK_160 (Nat.le_of_ble_eq_true rfl) rfl rfl ?_
        refine g_iload hC dX12_isK_161 rfl ?_
        refine g_iconst (v := zI 4) hC dX12_isK_163 rfl ?_
        refine zr_icmp_ne (tgt := 170) hC Rx5 (by decide) dX12_isK_164 (by decide) (fun c43 => ?_) (fun c43 => ?_)
        · have h44 := h42.1 c43
          refine g_aload_n hC dX12_isK_170 rfl ?_
          refine zr_geta hC hZ17 fl_X12_93 zb_27 (by decide) dX12_isK_171 ?_
          refine g_iload hC dX12_isK_174 rfl ?_
          obtain ⟨o45, h46⟩ := h44
          obtain ⟨o47, h48⟩ := h46
          refine zr_iald (v := (za s14 27 (Int.toNat x4))) hC hZ17 zk_27 zb_27 zn_27 (by decide) o45 o47 rfl dX12_isK_176 ?_
          refine g_istore (lv' := [some (.ref t), none, some (.int (zI 1)), some (.int (zI x3)), some (.int (zI x4)), some (.int (zI x5)), none, some (.int (zI (za s14 27 (Int.toNat x4))))]) hC dX12_isK_177 (Nat.le_of_ble_eq_true rfl) rfl rfl ?_
          refine g_lv (lv' := [some (.ref t), none, some (.int (zI 1)), some (.int (zI x3)), none, none, none, some (.int (zI (za s14 27 (Int.toNat x4))))]) ⟨rfl, rfl, rfl, rfl, trivial⟩ ?_
          obtain ⟨m49, h50⟩ := h48
          exact rl_isK_179 hC hk11 m49 _ _ _ _ _ (by decide) Rx3 (hZ17.ra 27 _) hZ17 h50
        · have h51 := h42.2 c43
          refine g_goto (tgt := 11) hC dX12_isK_167 (by decide) ?_
          refine g_lv (lv' := [some (.ref t), none, some (.int (zI 1)), some (.int (zI x3)), none, none, none, none]) ⟨rfl, rfl, rfl, trivial⟩ ?_
          exact hk11 _ _ _ _ (by decide) Rx3 hZ17 h51
set_option maxHeartbeats 4000000 in
set_option maxRecDepth 100000 in
theorem rj_isK_105 {X : gX} {d : gD} {b t : Nat} {T : Nat → Nat} {F0 : gM} (hC : gC RX12 cX12_isK 8 (some .boolean) "isK" (gR 2 0 0) d b X) {Q : Int → zS → Prop} {k11 : zS → Int → Int → Prop} (hk11 : ∀ (F : gM) (s0 : zS) (x2 : Int) (x3 : Int), zR x2 → zR x3 → zZ d t T F0 F s0 → k11 s0 x2 x3 → gG X d b (zQi X d b t T F0 Q) F 0 0 11 [some (.ref t), none, some (.int (zI x2)), some (.int (zI x3)), none, none, none, none] []) {F : gM} {s0 : zS} {x2 : Int} {x3 : Int} {x4 : Int} {x5 : Int} (Rx2 : zR x2) (Rx3 : zR x3) (Rx4 : zR x4) (Rx5 : zR x5) (hZ : zZ d t T F0 F s0) (hw : wr_isK_105 Q k11 s0 x2 x3 x4 x5) : gG X d b (zQi X d b t T F0 Q) F 0 0 105 [some (.ref t), none, some (.int (zI x2)), some (.int (zI x3)), some (.int (zI x4)), some (.int (zI x5)), none, none] [] := by
  unfold wr_isK_105 at hw
  refine g_iconst (v := zI 1) hC dX12_isK_105 rfl ?_
  refine g_goto (tgt := 110) hC dX12_isK_106 (by decide) ?_
  refine g_istore (lv' := [some (.ref t), none, some (.int (zI x2)), some (.int (zI x3)), some (.int (zI x4)), some (.int (zI x5)), some (.int (zI 1)), none]) hC dX12_isK_110 (Nat.le_of_ble_eq_true rfl) rfl rfl ?_
  refine g_iload hC dX12_isK_112 rfl ?_
  refine zr_if_eq (tgt := 136) hC (by decide) dX12_isK_114 (by decide) (fun c1 => ?_) (fun c1 => ?_)
  · exact absurd c1 (by decide)
  · refine g_aload_n hC dX12_isK_117 rfl ?_
    refine g_bipush (v := zI 6) hC dX12_isK_118 rfl ?_
    refine g_aload_n hC dX12_isK_120 rfl ?_
    refine g_aload_n hC dX12_isK_121 rfl ?_
    refine zr_geta hC hZ fl_X12_90 zb_26 (by decide) dX12_isK_122 ?_
    refine g_iload hC dX12_isK_125 rfl ?_
    obtain ⟨o2, h3⟩ := hw
    obtain ⟨o4, h5⟩ := h3
    refine zr_iald (v := (za s0 26 (Int.toNat x4))) hC hZ zk_26 zb_26 zn_26 (by decide) o2 o4 rfl dX12_isK_127 ?_
    refine zr_callVi (As := [.int (zI (za s0 26 (Int.toNat x4)))]) hC hZ rfl (rm_place X.la d b (hZ.ra 26 _) hZ.rf h5) cl_X12_613 rfl rfl (Nat.le_of_ble_eq_true rfl) ⟨Nat.le_of_ble_eq_true rfl, Nat.le_of_ble_eq_true rfl⟩ dX12_isK_128 (fun r6 s7 F8 R9 hZ10 h11 => ?_)
    refine zr_callVv (As := [.int (zI 6), .int (zI r6)]) hC hZ10 rfl (rm_fault X.la d b (by decide) R9 hZ10.rf h11) cl_X12_605 rfl rfl (Nat.le_of_ble_eq_true rfl) ⟨Nat.le_of_ble_eq_true rfl, Nat.le_of_ble_eq_true rfl⟩ dX12_isK_131 (fun s13 F14 hZ16 h17 => ?_)
    refine g_iconst (v := zI 0) hC dX12_isK_134 rfl ?_
    refine g_istore_n (lv' := [some (.ref t), none, some (.int (zI 0)), some (.int (zI x3)), some (.int (zI x4)), some (.int (zI x5)), some (.int (zI 1)), none]) hC dX12_isK_135 (Nat.le_of_ble_eq_true rfl) rfl rfl ?_
    refine g_lv (lv' := [some (.ref t), none, some (.int (zI 0)), some (.int (zI x3)), some (.int (zI x4)), some (.int (zI x5)), none, none]) ⟨rfl, rfl, rfl, rfl, rfl, trivial⟩ ?_
    exact rj_isK_136 hC hk11 (by decide) Rx3 Rx4 Rx5 hZ16 h17
set_option maxHeartbeats 4000000 in
set_option maxRecDepth 100000 in
theorem rb_isK_11 {X : gX} {d : gD} {b t : Nat} {T : Nat → Nat} {F0 : gM} (hC : gC RX12 cX12_isK 8 (some .boolean) "isK" (gR 2 0 0) d b X) {Q : Int → zS → Prop} {k11 : zS → Int → Int → Prop} (hk11 : ∀ (F : gM) (s0 : zS) (x2 : Int) (x3 : Int), zR x2 → zR x3 → zZ d t T F0 F s0 → k11 s0 x2 x3 → gG X d b (zQi X d b t T F0 Q) F 0 0 11 [some (.ref t), none, some (.int (zI x2)), some (.int (zI x3)), none, none, none, none] []) {F : gM} {s0 : zS} {x2 : Int} {x3 : Int} (Rx2 : zR x2) (Rx3 : zR x3) (hZ : zZ d t T F0 F s0) (hw : wr_isK_11B Q k11 s0 x2 x3) : gG X d b (zQi X d b t T F0 Q) F 0 0 11 [some (.ref t), none, some (.int (zI x2)), some (.int (zI x3)), none, none, none, none] [] := by
  unfold wr_isK_11B at hw
  refine g_iload_n hC dX12_isK_11 rfl ?_
  refine zr_if_le (tgt := 210) hC Rx3 dX12_isK_12 (by decide) (fun c1 => ?_) (fun c1 => ?_)
  · have h2 := hw.1 c1
    refine g_iload_n hC dX12_isK_210 rfl ?_
    obtain ⟨o3, h4⟩ := h2
    exact zr_zret hC hZ o3 h4 dX12_isK_211
  · have h5 := hw.2 c1
    refine zr_iinc (x := x3) (lv' := [some (.ref t), none, some (.int (zI x2)), some (.int (zI (x3 + (-1)))), none, none, none, none]) hC dX12_isK_15 rfl rfl rfl ?_
    refine g_aload_n hC dX12_isK_18 rfl ?_
    refine zr_geta hC hZ fl_X12_194 zb_60 (by decide) dX12_isK_19 ?_
    refine g_iload_n hC dX12_isK_22 rfl ?_
    obtain ⟨o6, h7⟩ := h5
    obtain ⟨o8, h9⟩ := h7
    refine zr_iald (v := (za s0 60 (Int.toNat (x3 + (-1))))) hC hZ zk_60 zb_60 zn_60 (by decide) o6 o8 rfl dX12_isK_23 ?_
    refine g_istore (lv' := [some (.ref t), none, some (.int (zI x2)), some (.int (zI (x3 + (-1)))), some (.int (zI (za s0 60 (Int.toNat (x3 + (-1)))))), none, none, none]) hC dX12_isK_24 (Nat.le_of_ble_eq_true rfl) rfl rfl ?_
    refine g_aload_n hC dX12_isK_26 rfl ?_
    refine zr_geta hC hZ fl_X12_87 zb_25 (by decide) dX12_isK_27 ?_
    refine g_iload hC dX12_isK_30 rfl ?_
    obtain ⟨o10, h11⟩ := h9
    obtain ⟨o12, h13⟩ := h11
    refine zr_bald (v := (za s0 25 (Int.toNat (za s0 60 (Int.toNat (x3 + (-1))))))) hC hZ zk_25 zb_25 zn_25 (by decide) o10 o12 rfl dX12_isK_32 ?_
    refine g_istore (lv' := [some (.ref t), none, some (.int (zI x2)), some (.int (zI (x3 + (-1)))), some (.int (zI (za s0 60 (Int.toNat (x3 + (-1)))))), some (.int (zI (za s0 25 (Int.toNat (za s0 60 (Int.toNat (x3 + (-1)))))))), none, none]) hC dX12_isK_33 (Nat.le_of_ble_eq_true rfl) rfl rfl ?_
    refine g_iload hC dX12_isK_35 rfl ?_
    refine g_bipush (v := zI 6) hC dX12_isK_37 rfl ?_
    refine zr_icmp_eq (tgt := 105) hC (hZ.ra 25 _) (by decide) dX12_isK_39 (by decide) (fun c14 => ?_) (fun c14 => ?_)
    · have h15 := h13.1 c14
      exact rj_isK_105 hC hk11 Rx2 ⟨by omega, by omega⟩ (hZ.ra 60 _) (hZ.ra 25 _) hZ h15
    · have h16 := h13.2 c14
      refine g_iload hC dX12_isK_42 rfl ?_
      refine g_bipush (v := zI 7) hC dX12_isK_44 rfl ?_
      refine zr_icmp_eq (tgt := 105) hC (hZ.ra 25 _) (by decide) dX12_isK_46 (by decide) (fun c17 => ?_) (fun c17 => ?_)
      · have h18 := h16.1 c17
        exact rj_isK_105 hC hk11 Rx2 ⟨by omega, by omega⟩ (hZ.ra 60 _) (hZ.ra 25 _) hZ h18
      · have h19 := h16.2 c17
        refine g_iload hC dX12_isK_49 rfl ?_
        refine g_bipush (v := zI 8) hC dX12_isK_51 rfl ?_
        refine zr_icmp_eq (tgt := 105) hC (hZ.ra 25 _) (by decide) dX12_isK_53 (by decide) (fun c20 => ?_) (fun c20 => ?_)
        · have h21 := h19.1 c20
          exact rj_isK_105 hC hk11 Rx2 ⟨by omega, by omega⟩ (hZ.ra 60 _) (hZ.ra 25 _) hZ h21
        · have h22 := h19.2 c20
          refine g_iload hC dX12_isK_56 rfl ?_
          refine g_iconst (v := zI 4) hC dX12_isK_58 rfl ?_
          refine zr_icmp_eq (tgt := 105) hC (hZ.ra 25 _) (by decide) dX12_isK_59 (by decide) (fun c23 => ?_) (fun c23 => ?_)
          · have h24 := h22.1 c23
            exact rj_isK_105 hC hk11 Rx2 ⟨by omega, by omega⟩ (hZ.ra 60 _) (hZ.ra 25 _) hZ h24
          · have h25 := h22.2 c23
            refine g_iload hC dX12_isK_62 rfl ?_
            refine g_iconst (v := zI 5) hC dX12_isK_64 rfl ?_
            refine zr_icmp_eq (tgt := 105) hC (hZ.ra 25 _) (by decide) dX12_isK_65 (by decide) (fun c26 => ?_) (fun c26 => ?_)
            · have h27 := h25.1 c26
              exact rj_isK_105 hC hk11 Rx2 ⟨by omega, by omega⟩ (hZ.ra 60 _) (hZ.ra 25 _) hZ h27
            · have h28 := h25.2 c26
              refine g_iload hC dX12_isK_68 rfl ?_
              refine g_iconst (v := zI 3) hC dX12_isK_70 rfl ?_
              refine zr_icmp_eq (tgt := 105) hC (hZ.ra 25 _) (by decide) dX12_isK_71 (by decide) (fun c29 => ?_) (fun c29 => ?_)
              · have h30 := h28.1 c29
                exact rj_isK_105 hC hk11 Rx2 ⟨by omega, by omega⟩ (hZ.ra 60 _) (hZ.ra 25 _) hZ h30
              · have h31 := h28.2 c29
                refine g_iload hC dX12_isK_74 rfl ?_
                refine g_bipush (v := zI 9) hC dX12_isK_76 rfl ?_
                refine zr_icmp_ne (tgt := 109) hC (hZ.ra 25 _) (by decide) dX12_isK_78 (by decide) (fun c32 => ?_) (fun c32 => ?_)
                · have h33 := h31.1 c32
                  refine g_iconst (v := zI 0) hC dX12_isK_109 rfl ?_
                  refine g_istore (lv' := [some (.ref t), none, some (.int (zI x2)), some (.int (zI (x3 + (-1)))), some (.int (zI (za s0 60 (Int.toNat (x3 + (-1)))))), some (.int (zI (za s0 25 (Int.toNat (za s0 60 (Int.toNat (x3 + (-1)))))))), some (.int (zI 0)), none]) hC dX12_isK_110 (Nat.le_of_ble_eq_true rfl) rfl rfl ?_
                  refine g_iload hC dX12_isK_112 rfl ?_
                  refine zr_if_eq (tgt := 136) hC (by decide) dX12_isK_114 (by decide) (fun c34 => ?_) (fun c34 => ?_)
                  · refine g_lv (lv' := [some (.ref t), none, some (.int (zI x2)), some (.int (zI (x3 + (-1)))), some (.int (zI (za s0 60 (Int.toNat (x3 + (-1)))))), some (.int (zI (za s0 25 (Int.toNat (za s0 60 (Int.toNat (x3 + (-1)))))))), none, none]) ⟨rfl, rfl, rfl, rfl, rfl, trivial⟩ ?_
                    exact rj_isK_136 hC hk11 Rx2 ⟨by omega, by omega⟩ (hZ.ra 60 _) (hZ.ra 25 _) hZ h33
                  · exact absurd (by decide) c34
                · have h35 := h31.2 c32
                  refine g_aload_n hC dX12_isK_81 rfl ?_
                  refine zr_geta hC hZ fl_X12_99 zb_29 (by decide) dX12_isK_82 ?_
                  refine g_iload hC dX12_isK_85 rfl ?_
                  obtain ⟨o36, h37⟩ := h35
                  obtain ⟨o38, h39⟩ := h37
                  refine zr_iald (v := (za s0 29 (Int.toNat (za s0 60 (Int.toNat (x3 + (-1))))))) hC hZ zk_29 zb_29 zn_29 (by decide) o36 o38 rfl dX12_isK_87 ?_
                  refine g_bipush (v := zI 18) hC dX12_isK_88 rfl ?_
                  refine zr_icmp_eq (tgt := 105) hC (hZ.ra 29 _) (by decide) dX12_isK_90 (by decide) (fun c40 => ?_) (fun c40 => ?_)
                  · have h41 := h39.1 c40
                    exact rj_isK_105 hC hk11 Rx2 ⟨by omega, by omega⟩ (hZ.ra 60 _) (hZ.ra 25 _) hZ h41
                  · have h42 := h39.2 c40
                    refine g_aload_n hC dX12_isK_93 rfl ?_
                    refine zr_geta hC hZ fl_X12_99 zb_29 (by decide) dX12_isK_94 ?_
                    refine g_iload hC dX12_isK_97 rfl ?_
                    obtain ⟨o43, h44⟩ := h42
                    obtain ⟨o45, h46⟩ := h44
                    refine zr_iald (v := (za s0 29 (Int.toNat (za s0 60 (Int.toNat (x3 + (-1))))))) hC hZ zk_29 zb_29 zn_29 (by decide) o43 o45 rfl dX12_isK_99 ?_
                    refine g_bipush (v := zI 19) hC dX12_isK_100 rfl ?_
                    refine zr_icmp_ne (tgt := 109) hC (hZ.ra 29 _) (by decide) dX12_isK_102 (by decide) (fun c47 => ?_) (fun c47 => ?_)
                    · have h48 := h46.1 c47
                      refine g_iconst (v := zI 0) hC dX12_isK_109 rfl ?_
                      refine g_istore (lv' := [some (.ref t), none, some (.int (zI x2)), some (.int (zI (x3 + (-1)))), some (.int (zI (za s0 60 (Int.toNat (x3 + (-1)))))), some (.int (zI (za s0 25 (Int.toNat (za s0 60 (Int.toNat (x3 + (-1)))))))), some (.int (zI 0)), none]) hC dX12_isK_110 (Nat.le_of_ble_eq_true rfl) rfl rfl ?_
                      refine g_iload hC dX12_isK_112 rfl ?_
                      refine zr_if_eq (tgt := 136) hC (by decide) dX12_isK_114 (by decide) (fun c49 => ?_) (fun c49 => ?_)
                      · refine g_lv (lv' := [some (.ref t), none, some (.int (zI x2)), some (.int (zI (x3 + (-1)))), some (.int (zI (za s0 60 (Int.toNat (x3 + (-1)))))), some (.int (zI (za s0 25 (Int.toNat (za s0 60 (Int.toNat (x3 + (-1)))))))), none, none]) ⟨rfl, rfl, rfl, rfl, rfl, trivial⟩ ?_
                        exact rj_isK_136 hC hk11 Rx2 ⟨by omega, by omega⟩ (hZ.ra 60 _) (hZ.ra 25 _) hZ h48
                      · exact absurd (by decide) c49
                    · have h50 := h46.2 c47
                      exact rj_isK_105 hC hk11 Rx2 ⟨by omega, by omega⟩ (hZ.ra 60 _) (hZ.ra 25 _) hZ h50
theorem rl_isK_11 {X : gX} {d : gD} {b t : Nat} {T : Nat → Nat} {F0 : gM} (hC : gC RX12 cX12_isK 8 (some .boolean) "isK" (gR 2 0 0) d b X) {Q : Int → zS → Prop}   : ∀ (m : Nat) (F : gM) (s0 : zS) (x2 : Int) (x3 : Int), zR x2 → zR x3 → zZ d t T F0 F s0 → wr_isK_11 Q  m s0 x2 x3 → gG X d b (zQi X d b t T F0 Q) F 0 0 11 [some (.ref t), none, some (.int (zI x2)), some (.int (zI x3)), none, none, none, none] [] := by
  intro m
  induction m with
  | zero => intro F s0 x2 x3 Rx2 Rx3 hZ hw; exact False.elim hw
  | succ m ih => intro F s0 x2 x3 Rx2 Rx3 hZ hw; exact rb_isK_11 hC  ih Rx2 Rx3 hZ hw
set_option maxHeartbeats 4000000 in
set_option maxRecDepth 100000 in
theorem rm_isK (l : Launch) (d : gD) (b : Nat) {t : Nat} {T : Nat → Nat} {F : gM} {s0 : zS} {a0 : Int} (Ra0 : zR a0) {Q : Int → zS → Prop} (hZ : zZ d t T F F s0) (hw : wr_isK s0 a0 Q) : gMi l d b yX12_isK cX12_isK 8 .boolean 2 0 0 F [.ref t, .int (zI a0)] (zPi d t T F Q) := by
  refine gM_of2 rfl (nL := 8) (Nat.le_of_ble_eq_true rfl) ?_
  intro X hX hC; subst hX
  show gG X d b (zQi X d b t T F Q) F 0 0 0 [some (.ref t), some (.int (zI a0)), none, none, none, none, none, none] []
  unfold wr_isK at hw
  refine g_iconst (v := zI 1) hC dX12_isK_0 rfl ?_
  refine g_istore_n (lv' := [some (.ref t), some (.int (zI a0)), some (.int (zI 1)), none, none, none, none, none]) hC dX12_isK_1 (Nat.le_of_ble_eq_true rfl) rfl rfl ?_
  refine g_iconst (v := zI 1) hC dX12_isK_2 rfl ?_
  refine g_istore_n (lv' := [some (.ref t), some (.int (zI a0)), some (.int (zI 1)), some (.int (zI 1)), none, none, none, none]) hC dX12_isK_3 (Nat.le_of_ble_eq_true rfl) rfl rfl ?_
  refine g_aload_n hC dX12_isK_4 rfl ?_
  refine zr_geta hC hZ fl_X12_194 zb_60 (by decide) dX12_isK_5 ?_
  refine g_iconst (v := zI 0) hC dX12_isK_8 rfl ?_
  refine g_iload_n hC dX12_isK_9 rfl ?_
  refine zr_iast hC hZ zk_60 zb_60 zn_60 (by decide) (by decide) (by decide) Ra0 dX12_isK_10 (fun F1 hZ2 => ?_)
  refine g_lv (lv' := [some (.ref t), none, some (.int (zI 1)), some (.int (zI 1)), none, none, none, none]) ⟨rfl, rfl, rfl, trivial⟩ ?_
  obtain ⟨m3, h4⟩ := hw
  exact rl_isK_11 hC  m3 _ _ _ _ (by decide) (by decide) hZ2 h4
theorem dX12_shifted_0 : decode cX12_shifted 0 = .ok (.iload_n 1, 1) := by decide +kernel
theorem dX12_shifted_1 : decode cX12_shifted 1 = .ok (.ifCond .lt 9, 3) := by decide +kernel
theorem dX12_shifted_4 : decode cX12_shifted 4 = .ok (.iload_n 1, 1) := by decide +kernel
theorem dX12_shifted_5 : decode cX12_shifted 5 = .ok (.bipush 31, 2) := by decide +kernel
theorem dX12_shifted_7 : decode cX12_shifted 7 = .ok (.if_icmp .le 5, 3) := by decide +kernel
theorem dX12_shifted_10 : decode cX12_shifted 10 = .ok (.iconst 0, 1) := by decide +kernel
theorem dX12_shifted_11 : decode cX12_shifted 11 = .ok (.ireturn, 1) := by decide +kernel
theorem dX12_shifted_12 : decode cX12_shifted 12 = .ok (.iload_n 2, 1) := by decide +kernel
theorem dX12_shifted_13 : decode cX12_shifted 13 = .ok (.ifCond .eq 9, 3) := by decide +kernel
theorem dX12_shifted_16 : decode cX12_shifted 16 = .ok (.iload_n 0, 1) := by decide +kernel
theorem dX12_shifted_17 : decode cX12_shifted 17 = .ok (.iload_n 1, 1) := by decide +kernel
theorem dX12_shifted_18 : decode cX12_shifted 18 = .ok (.ishl, 1) := by decide +kernel
theorem dX12_shifted_19 : decode cX12_shifted 19 = .ok (.goto 6, 3) := by decide +kernel
theorem dX12_shifted_22 : decode cX12_shifted 22 = .ok (.iload_n 0, 1) := by decide +kernel
theorem dX12_shifted_23 : decode cX12_shifted 23 = .ok (.iload_n 1, 1) := by decide +kernel
theorem dX12_shifted_24 : decode cX12_shifted 24 = .ok (.iushr, 1) := by decide +kernel
theorem dX12_shifted_25 : decode cX12_shifted 25 = .ok (.ireturn, 1) := by decide +kernel
def wr_shifted (s0 : zS) (a0 : Int) (a1 : Int) (a2 : Int) (Q : Int → zS → Prop) : Prop :=
  ((a1 < 0 → Q 0 s0) ∧ (¬ a1 < 0 → ((a1 ≤ 31 → ((a2 = 0 → Q (zus a0 a1) s0) ∧ (¬ a2 = 0 → Q (zsl a0 a1) s0))) ∧ (¬ a1 ≤ 31 → Q 0 s0))))
set_option maxHeartbeats 4000000 in
set_option maxRecDepth 100000 in
theorem rm_shifted (l : Launch) (d : gD) (b : Nat) {t : Nat} {T : Nat → Nat} {F : gM} {s0 : zS} {a0 : Int} {a1 : Int} {a2 : Int} (Ra0 : zR a0) (Ra1 : zR a1) (Ra2 : zR a2) {Q : Int → zS → Prop} (hZ : zZ d t T F F s0) (hw : wr_shifted s0 a0 a1 a2 Q) : gMi l d b yX12_shifted cX12_shifted 3 .int 0 0 0 F [.int (zI a0), .int (zI a1), .int (zI a2)] (zPi d t T F Q) := by
  refine gM_of2 rfl (nL := 3) (Nat.le_of_ble_eq_true rfl) ?_
  intro X hX hC; subst hX
  show gG X d b (zQi X d b t T F Q) F 0 0 0 [some (.int (zI a0)), some (.int (zI a1)), some (.int (zI a2))] []
  unfold wr_shifted at hw
  refine g_iload_n hC dX12_shifted_0 rfl ?_
  refine zr_if_lt (tgt := 10) hC Ra1 dX12_shifted_1 (by decide) (fun c1 => ?_) (fun c1 => ?_)
  · have h2 := hw.1 c1
    refine g_iconst (v := zI 0) hC dX12_shifted_10 rfl ?_
    exact zr_iret hC hZ (by decide) h2 dX12_shifted_11
  · have h3 := hw.2 c1
    refine g_iload_n hC dX12_shifted_4 rfl ?_
    refine g_bipush (v := zI 31) hC dX12_shifted_5 rfl ?_
    refine zr_icmp_le (tgt := 12) hC Ra1 (by decide) dX12_shifted_7 (by decide) (fun c4 => ?_) (fun c4 => ?_)
    · have h5 := h3.1 c4
      refine g_iload_n hC dX12_shifted_12 rfl ?_
      refine zr_if_eq (tgt := 22) hC Ra2 dX12_shifted_13 (by decide) (fun c6 => ?_) (fun c6 => ?_)
      · have h7 := h5.1 c6
        refine g_iload_n hC dX12_shifted_22 rfl ?_
        refine g_iload_n hC dX12_shifted_23 rfl ?_
        refine zr_iushr hC dX12_shifted_24 ?_
        exact zr_iret hC hZ (zR_t _) h7 dX12_shifted_25
      · have h8 := h5.2 c6
        refine g_iload_n hC dX12_shifted_16 rfl ?_
        refine g_iload_n hC dX12_shifted_17 rfl ?_
        refine zr_ishl hC dX12_shifted_18 ?_
        refine g_goto (tgt := 25) hC dX12_shifted_19 (by decide) ?_
        exact zr_iret hC hZ (zR_t _) h8 dX12_shifted_25
    · have h9 := h3.2 c4
      refine g_iconst (v := zI 0) hC dX12_shifted_10 rfl ?_
      exact zr_iret hC hZ (by decide) h9 dX12_shifted_11
theorem dX12_quotient_0 : decode cX12_quotient 0 = .ok (.iload_n 1, 1) := by decide +kernel
theorem dX12_quotient_1 : decode cX12_quotient 1 = .ok (.iconst (-1), 1) := by decide +kernel
theorem dX12_quotient_2 : decode cX12_quotient 2 = .ok (.if_icmp .ne 8, 3) := by decide +kernel
theorem dX12_quotient_5 : decode cX12_quotient 5 = .ok (.iload_n 0, 1) := by decide +kernel
theorem dX12_quotient_6 : decode cX12_quotient 6 = .ok (.ineg, 1) := by decide +kernel
theorem dX12_quotient_7 : decode cX12_quotient 7 = .ok (.goto 6, 3) := by decide +kernel
theorem dX12_quotient_10 : decode cX12_quotient 10 = .ok (.iload_n 0, 1) := by decide +kernel
theorem dX12_quotient_11 : decode cX12_quotient 11 = .ok (.iload_n 1, 1) := by decide +kernel
theorem dX12_quotient_12 : decode cX12_quotient 12 = .ok (.idiv, 1) := by decide +kernel
theorem dX12_quotient_13 : decode cX12_quotient 13 = .ok (.ireturn, 1) := by decide +kernel
def wr_quotient (s0 : zS) (a0 : Int) (a1 : Int) (Q : Int → zS → Prop) : Prop :=
  ((¬ a1 = (-1) → (¬ a1 = 0) ∧ Q (zd a0 a1) s0) ∧ (a1 = (-1) → ∀ z6 : Int, z6 = zw (-a0) → zR z6 → Q z6 s0))
set_option maxHeartbeats 4000000 in
set_option maxRecDepth 100000 in
theorem rm_quotient (l : Launch) (d : gD) (b : Nat) {t : Nat} {T : Nat → Nat} {F : gM} {s0 : zS} {a0 : Int} {a1 : Int} (Ra0 : zR a0) (Ra1 : zR a1) {Q : Int → zS → Prop} (hZ : zZ d t T F F s0) (hw : wr_quotient s0 a0 a1 Q) : gMi l d b yX12_quotient cX12_quotient 2 .int 0 0 0 F [.int (zI a0), .int (zI a1)] (zPi d t T F Q) := by
  refine gM_of2 rfl (nL := 2) (Nat.le_of_ble_eq_true rfl) ?_
  intro X hX hC; subst hX
  show gG X d b (zQi X d b t T F Q) F 0 0 0 [some (.int (zI a0)), some (.int (zI a1))] []
  unfold wr_quotient at hw
  refine g_iload_n hC dX12_quotient_0 rfl ?_
  refine g_iconst (v := zI (-1)) hC dX12_quotient_1 rfl ?_
  refine zr_icmp_ne (tgt := 10) hC Ra1 (by decide) dX12_quotient_2 (by decide) (fun c1 => ?_) (fun c1 => ?_)
  · have h2 := hw.1 c1
    refine g_iload_n hC dX12_quotient_10 rfl ?_
    refine g_iload_n hC dX12_quotient_11 rfl ?_
    obtain ⟨o3, h4⟩ := h2
    refine zr_idiv hC dX12_quotient_12 Ra1 o3 ?_
    exact zr_iret hC hZ (zR_t _) h4 dX12_quotient_13
  · have h5 := hw.2 c1
    refine g_iload_n hC dX12_quotient_5 rfl ?_
    refine zr_ineg hC dX12_quotient_6 ?_
    refine zr_w (fun z6 e7 R8 => ?_)
    have h9 := h5 z6 e7 R8
    refine g_goto (tgt := 13) hC dX12_quotient_7 (by decide) ?_
    exact zr_iret hC hZ R8 h9 dX12_quotient_13
theorem dX12_remainder_0 : decode cX12_remainder 0 = .ok (.iload_n 1, 1) := by decide +kernel
theorem dX12_remainder_1 : decode cX12_remainder 1 = .ok (.iconst (-1), 1) := by decide +kernel
theorem dX12_remainder_2 : decode cX12_remainder 2 = .ok (.if_icmp .ne 7, 3) := by decide +kernel
theorem dX12_remainder_5 : decode cX12_remainder 5 = .ok (.iconst 0, 1) := by decide +kernel
theorem dX12_remainder_6 : decode cX12_remainder 6 = .ok (.goto 6, 3) := by decide +kernel
theorem dX12_remainder_9 : decode cX12_remainder 9 = .ok (.iload_n 0, 1) := by decide +kernel
theorem dX12_remainder_10 : decode cX12_remainder 10 = .ok (.iload_n 1, 1) := by decide +kernel
theorem dX12_remainder_11 : decode cX12_remainder 11 = .ok (.irem, 1) := by decide +kernel
theorem dX12_remainder_12 : decode cX12_remainder 12 = .ok (.ireturn, 1) := by decide +kernel
def wr_remainder (s0 : zS) (a0 : Int) (a1 : Int) (Q : Int → zS → Prop) : Prop :=
  ((¬ a1 = (-1) → (¬ a1 = 0) ∧ ∀ z5 : Int, z5 = zw (a0 - zd a0 a1 * a1) → zR z5 → Q z5 s0) ∧ (a1 = (-1) → Q 0 s0))
set_option maxHeartbeats 4000000 in
set_option maxRecDepth 100000 in
theorem rm_remainder (l : Launch) (d : gD) (b : Nat) {t : Nat} {T : Nat → Nat} {F : gM} {s0 : zS} {a0 : Int} {a1 : Int} (Ra0 : zR a0) (Ra1 : zR a1) {Q : Int → zS → Prop} (hZ : zZ d t T F F s0) (hw : wr_remainder s0 a0 a1 Q) : gMi l d b yX12_remainder cX12_remainder 2 .int 0 0 0 F [.int (zI a0), .int (zI a1)] (zPi d t T F Q) := by
  refine gM_of2 rfl (nL := 2) (Nat.le_of_ble_eq_true rfl) ?_
  intro X hX hC; subst hX
  show gG X d b (zQi X d b t T F Q) F 0 0 0 [some (.int (zI a0)), some (.int (zI a1))] []
  unfold wr_remainder at hw
  refine g_iload_n hC dX12_remainder_0 rfl ?_
  refine g_iconst (v := zI (-1)) hC dX12_remainder_1 rfl ?_
  refine zr_icmp_ne (tgt := 9) hC Ra1 (by decide) dX12_remainder_2 (by decide) (fun c1 => ?_) (fun c1 => ?_)
  · have h2 := hw.1 c1
    refine g_iload_n hC dX12_remainder_9 rfl ?_
    refine g_iload_n hC dX12_remainder_10 rfl ?_
    obtain ⟨o3, h4⟩ := h2
    refine zr_irem hC dX12_remainder_11 Ra1 o3 ?_
    refine zr_w (fun z5 e6 R7 => ?_)
    have h8 := h4 z5 e6 R7
    exact zr_iret hC hZ R7 h8 dX12_remainder_12
  · have h9 := hw.2 c1
    refine g_iconst (v := zI 0) hC dX12_remainder_5 rfl ?_
    refine g_goto (tgt := 12) hC dX12_remainder_6 (by decide) ?_
    exact zr_iret hC hZ (by decide) h9 dX12_remainder_12
theorem dX12_worked_0 : decode cX12_worked 0 = .ok (.iload_n 0, 1) := by decide +kernel
theorem dX12_worked_1 : decode cX12_worked 1 = .ok (.bipush 21, 2) := by decide +kernel
theorem dX12_worked_3 : decode cX12_worked 3 = .ok (.if_icmp .ne 7, 3) := by decide +kernel
theorem dX12_worked_6 : decode cX12_worked 6 = .ok (.iload_n 1, 1) := by decide +kernel
theorem dX12_worked_7 : decode cX12_worked 7 = .ok (.iload_n 2, 1) := by decide +kernel
theorem dX12_worked_8 : decode cX12_worked 8 = .ok (.iadd, 1) := by decide +kernel
theorem dX12_worked_9 : decode cX12_worked 9 = .ok (.ireturn, 1) := by decide +kernel
theorem dX12_worked_10 : decode cX12_worked 10 = .ok (.iload_n 0, 1) := by decide +kernel
theorem dX12_worked_11 : decode cX12_worked 11 = .ok (.bipush 22, 2) := by decide +kernel
theorem dX12_worked_13 : decode cX12_worked 13 = .ok (.if_icmp .ne 7, 3) := by decide +kernel
theorem dX12_worked_16 : decode cX12_worked 16 = .ok (.iload_n 1, 1) := by decide +kernel
theorem dX12_worked_17 : decode cX12_worked 17 = .ok (.iload_n 2, 1) := by decide +kernel
theorem dX12_worked_18 : decode cX12_worked 18 = .ok (.isub, 1) := by decide +kernel
theorem dX12_worked_19 : decode cX12_worked 19 = .ok (.ireturn, 1) := by decide +kernel
theorem dX12_worked_20 : decode cX12_worked 20 = .ok (.iload_n 0, 1) := by decide +kernel
theorem dX12_worked_21 : decode cX12_worked 21 = .ok (.bipush 23, 2) := by decide +kernel
theorem dX12_worked_23 : decode cX12_worked 23 = .ok (.if_icmp .ne 7, 3) := by decide +kernel
theorem dX12_worked_26 : decode cX12_worked 26 = .ok (.iload_n 1, 1) := by decide +kernel
theorem dX12_worked_27 : decode cX12_worked 27 = .ok (.iload_n 2, 1) := by decide +kernel
theorem dX12_worked_28 : decode cX12_worked 28 = .ok (.imul, 1) := by decide +kernel
theorem dX12_worked_29 : decode cX12_worked 29 = .ok (.ireturn, 1) := by decide +kernel
theorem dX12_worked_30 : decode cX12_worked 30 = .ok (.iload_n 0, 1) := by decide +kernel
theorem dX12_worked_31 : decode cX12_worked 31 = .ok (.bipush 24, 2) := by decide +kernel
theorem dX12_worked_33 : decode cX12_worked 33 = .ok (.if_icmp .ne 9, 3) := by decide +kernel
theorem dX12_worked_36 : decode cX12_worked 36 = .ok (.iload_n 1, 1) := by decide +kernel
theorem dX12_worked_37 : decode cX12_worked 37 = .ok (.iload_n 2, 1) := by decide +kernel
theorem dX12_worked_38 : decode cX12_worked 38 = .ok (.invokestatic 622, 3) := by decide +kernel
theorem dX12_worked_41 : decode cX12_worked 41 = .ok (.ireturn, 1) := by decide +kernel
theorem dX12_worked_42 : decode cX12_worked 42 = .ok (.iload_n 0, 1) := by decide +kernel
theorem dX12_worked_43 : decode cX12_worked 43 = .ok (.bipush 73, 2) := by decide +kernel
theorem dX12_worked_45 : decode cX12_worked 45 = .ok (.if_icmp .ne 9, 3) := by decide +kernel
theorem dX12_worked_48 : decode cX12_worked 48 = .ok (.iload_n 1, 1) := by decide +kernel
theorem dX12_worked_49 : decode cX12_worked 49 = .ok (.iload_n 2, 1) := by decide +kernel
theorem dX12_worked_50 : decode cX12_worked 50 = .ok (.invokestatic 625, 3) := by decide +kernel
theorem dX12_worked_53 : decode cX12_worked 53 = .ok (.ireturn, 1) := by decide +kernel
theorem dX12_worked_54 : decode cX12_worked 54 = .ok (.iload_n 0, 1) := by decide +kernel
theorem dX12_worked_55 : decode cX12_worked 55 = .ok (.bipush 34, 2) := by decide +kernel
theorem dX12_worked_57 : decode cX12_worked 57 = .ok (.if_icmp .ne 7, 3) := by decide +kernel
theorem dX12_worked_60 : decode cX12_worked 60 = .ok (.iload_n 1, 1) := by decide +kernel
theorem dX12_worked_61 : decode cX12_worked 61 = .ok (.iload_n 2, 1) := by decide +kernel
theorem dX12_worked_62 : decode cX12_worked 62 = .ok (.iand, 1) := by decide +kernel
theorem dX12_worked_63 : decode cX12_worked 63 = .ok (.ireturn, 1) := by decide +kernel
theorem dX12_worked_64 : decode cX12_worked 64 = .ok (.iload_n 0, 1) := by decide +kernel
theorem dX12_worked_65 : decode cX12_worked 65 = .ok (.bipush 35, 2) := by decide +kernel
theorem dX12_worked_67 : decode cX12_worked 67 = .ok (.if_icmp .ne 7, 3) := by decide +kernel
theorem dX12_worked_70 : decode cX12_worked 70 = .ok (.iload_n 1, 1) := by decide +kernel
theorem dX12_worked_71 : decode cX12_worked 71 = .ok (.iload_n 2, 1) := by decide +kernel
theorem dX12_worked_72 : decode cX12_worked 72 = .ok (.ior, 1) := by decide +kernel
theorem dX12_worked_73 : decode cX12_worked 73 = .ok (.ireturn, 1) := by decide +kernel
theorem dX12_worked_74 : decode cX12_worked 74 = .ok (.iload_n 0, 1) := by decide +kernel
theorem dX12_worked_75 : decode cX12_worked 75 = .ok (.bipush 71, 2) := by decide +kernel
theorem dX12_worked_77 : decode cX12_worked 77 = .ok (.if_icmp .ne 9, 3) := by decide +kernel
theorem dX12_worked_80 : decode cX12_worked 80 = .ok (.iload_n 1, 1) := by decide +kernel
theorem dX12_worked_81 : decode cX12_worked 81 = .ok (.iload_n 2, 1) := by decide +kernel
theorem dX12_worked_82 : decode cX12_worked 82 = .ok (.ixor, 1) := by decide +kernel
theorem dX12_worked_83 : decode cX12_worked 83 = .ok (.iconst (-1), 1) := by decide +kernel
theorem dX12_worked_84 : decode cX12_worked 84 = .ok (.ixor, 1) := by decide +kernel
theorem dX12_worked_85 : decode cX12_worked 85 = .ok (.ireturn, 1) := by decide +kernel
theorem dX12_worked_86 : decode cX12_worked 86 = .ok (.iload_n 0, 1) := by decide +kernel
theorem dX12_worked_87 : decode cX12_worked 87 = .ok (.bipush 72, 2) := by decide +kernel
theorem dX12_worked_89 : decode cX12_worked 89 = .ok (.if_icmp .ne 7, 3) := by decide +kernel
theorem dX12_worked_92 : decode cX12_worked 92 = .ok (.iload_n 1, 1) := by decide +kernel
theorem dX12_worked_93 : decode cX12_worked 93 = .ok (.iload_n 2, 1) := by decide +kernel
theorem dX12_worked_94 : decode cX12_worked 94 = .ok (.ixor, 1) := by decide +kernel
theorem dX12_worked_95 : decode cX12_worked 95 = .ok (.ireturn, 1) := by decide +kernel
theorem dX12_worked_96 : decode cX12_worked 96 = .ok (.iload_n 1, 1) := by decide +kernel
theorem dX12_worked_97 : decode cX12_worked 97 = .ok (.iload_n 2, 1) := by decide +kernel
theorem dX12_worked_98 : decode cX12_worked 98 = .ok (.iload_n 0, 1) := by decide +kernel
theorem dX12_worked_99 : decode cX12_worked 99 = .ok (.bipush 31, 2) := by decide +kernel
theorem dX12_worked_101 : decode cX12_worked 101 = .ok (.if_icmp .ne 7, 3) := by decide +kernel
theorem dX12_worked_104 : decode cX12_worked 104 = .ok (.iconst 1, 1) := by decide +kernel
theorem dX12_worked_105 : decode cX12_worked 105 = .ok (.goto 4, 3) := by decide +kernel
theorem dX12_worked_108 : decode cX12_worked 108 = .ok (.iconst 0, 1) := by decide +kernel
theorem dX12_worked_109 : decode cX12_worked 109 = .ok (.invokestatic 628, 3) := by decide +kernel
theorem dX12_worked_112 : decode cX12_worked 112 = .ok (.ireturn, 1) := by decide +kernel
def wr_worked (s0 : zS) (a0 : Int) (a1 : Int) (a2 : Int) (Q : Int → zS → Prop) : Prop :=
  ((¬ a0 = 21 → ((¬ a0 = 22 → ((¬ a0 = 23 → ((¬ a0 = 24 → ((¬ a0 = 73 → ((¬ a0 = 34 → ((¬ a0 = 35 → ((¬ a0 = 71 → ((¬ a0 = 72 → ((¬ a0 = 31 → wr_shifted s0 a1 a2 0 (fun r21 s22 => Q r21 s22)) ∧ (a0 = 31 → wr_shifted s0 a1 a2 1 (fun r28 s29 => Q r28 s29)))) ∧ (a0 = 72 → Q (zxo a1 a2) s0))) ∧ (a0 = 71 → Q (zxo (zxo a1 a2) (-1)) s0))) ∧ (a0 = 35 → Q (zor a1 a2) s0))) ∧ (a0 = 34 → Q (zan a1 a2) s0))) ∧ (a0 = 73 → wr_remainder s0 a1 a2 (fun r39 s40 => Q r39 s40)))) ∧ (a0 = 24 → wr_quotient s0 a1 a2 (fun r46 s47 => Q r46 s47)))) ∧ (a0 = 23 → ∀ z53 : Int, z53 = zw (a1 * a2) → zR z53 → Q z53 s0))) ∧ (a0 = 22 → ∀ z58 : Int, z58 = zw (a1 - a2) → zR z58 → Q z58 s0))) ∧ (a0 = 21 → ∀ z63 : Int, z63 = zw (a1 + a2) → zR z63 → Q z63 s0))
set_option maxHeartbeats 4000000 in
set_option maxRecDepth 100000 in
theorem rm_worked (l : Launch) (d : gD) (b : Nat) {t : Nat} {T : Nat → Nat} {F : gM} {s0 : zS} {a0 : Int} {a1 : Int} {a2 : Int} (Ra0 : zR a0) (Ra1 : zR a1) (Ra2 : zR a2) {Q : Int → zS → Prop} (hZ : zZ d t T F F s0) (hw : wr_worked s0 a0 a1 a2 Q) : gMi l d b yX12_worked cX12_worked 3 .int 1 0 0 F [.int (zI a0), .int (zI a1), .int (zI a2)] (zPi d t T F Q) := by
  refine gM_of2 rfl (nL := 3) (Nat.le_of_ble_eq_true rfl) ?_
  intro X hX hC; subst hX
  show gG X d b (zQi X d b t T F Q) F 0 0 0 [some (.int (zI a0)), some (.int (zI a1)), some (.int (zI a2))] []
  unfold wr_worked at hw
  refine g_iload_n hC dX12_worked_0 rfl ?_
  refine g_bipush (v := zI 21) hC dX12_worked_1 rfl ?_
  refine zr_icmp_ne (tgt := 10) hC Ra0 (by decide) dX12_worked_3 (by decide) (fun c1 => ?_) (fun c1 => ?_)
  · have h2 := hw.1 c1
    refine g_iload_n hC dX12_worked_10 rfl ?_
    refine g_bipush (v := zI 22) hC dX12_worked_11 rfl ?_
    refine zr_icmp_ne (tgt := 20) hC Ra0 (by decide) dX12_worked_13 (by decide) (fun c3 => ?_) (fun c3 => ?_)
    · have h4 := h2.1 c3
      refine g_iload_n hC dX12_worked_20 rfl ?_
      refine g_bipush (v := zI 23) hC dX12_worked_21 rfl ?_
      refine zr_icmp_ne (tgt := 30) hC Ra0 (by decide) dX12_worked_23 (by decide) (fun c5 => ?_) (fun c5 => ?_)
      · have h6 := h4.1 c5
        refine g_iload_n hC dX12_worked_30 rfl ?_
        refine g_bipush (v := zI 24) hC dX12_worked_31 rfl ?_
        refine zr_icmp_ne (tgt := 42) hC Ra0 (by decide) dX12_worked_33 (by decide) (fun c7 => ?_) (fun c7 => ?_)
        · have h8 := h6.1 c7
          refine g_iload_n hC dX12_worked_42 rfl ?_
          refine g_bipush (v := zI 73) hC dX12_worked_43 rfl ?_
          refine zr_icmp_ne (tgt := 54) hC Ra0 (by decide) dX12_worked_45 (by decide) (fun c9 => ?_) (fun c9 => ?_)
          · have h10 := h8.1 c9
            refine g_iload_n hC dX12_worked_54 rfl ?_
            refine g_bipush (v := zI 34) hC dX12_worked_55 rfl ?_
            refine zr_icmp_ne (tgt := 64) hC Ra0 (by decide) dX12_worked_57 (by decide) (fun c11 => ?_) (fun c11 => ?_)
            · have h12 := h10.1 c11
              refine g_iload_n hC dX12_worked_64 rfl ?_
              refine g_bipush (v := zI 35) hC dX12_worked_65 rfl ?_
              refine zr_icmp_ne (tgt := 74) hC Ra0 (by decide) dX12_worked_67 (by decide) (fun c13 => ?_) (fun c13 => ?_)
              · have h14 := h12.1 c13
                refine g_iload_n hC dX12_worked_74 rfl ?_
                refine g_bipush (v := zI 71) hC dX12_worked_75 rfl ?_
                refine zr_icmp_ne (tgt := 86) hC Ra0 (by decide) dX12_worked_77 (by decide) (fun c15 => ?_) (fun c15 => ?_)
                · have h16 := h14.1 c15
                  refine g_iload_n hC dX12_worked_86 rfl ?_
                  refine g_bipush (v := zI 72) hC dX12_worked_87 rfl ?_
                  refine zr_icmp_ne (tgt := 96) hC Ra0 (by decide) dX12_worked_89 (by decide) (fun c17 => ?_) (fun c17 => ?_)
                  · have h18 := h16.1 c17
                    refine g_iload_n hC dX12_worked_96 rfl ?_
                    refine g_iload_n hC dX12_worked_97 rfl ?_
                    refine g_iload_n hC dX12_worked_98 rfl ?_
                    refine g_bipush (v := zI 31) hC dX12_worked_99 rfl ?_
                    refine zr_icmp_ne (tgt := 108) hC Ra0 (by decide) dX12_worked_101 (by decide) (fun c19 => ?_) (fun c19 => ?_)
                    · have h20 := h18.1 c19
                      refine g_iconst (v := zI 0) hC dX12_worked_108 rfl ?_
                      refine zr_callSi (As := [.int (zI a1), .int (zI a2), .int (zI 0)]) hC hZ (rm_shifted X.la d b Ra1 Ra2 (by decide) hZ.rf h20) cl_X12_628 rfl rfl (Nat.le_of_ble_eq_true rfl) ⟨Nat.le_of_ble_eq_true rfl, Nat.le_of_ble_eq_true rfl⟩ dX12_worked_109 (fun r21 s22 F23 R24 hZ25 h26 => ?_)
                      exact zr_iret hC hZ25 R24 h26 dX12_worked_112
                    · have h27 := h18.2 c19
                      refine g_iconst (v := zI 1) hC dX12_worked_104 rfl ?_
                      refine g_goto (tgt := 109) hC dX12_worked_105 (by decide) ?_
                      refine zr_callSi (As := [.int (zI a1), .int (zI a2), .int (zI 1)]) hC hZ (rm_shifted X.la d b Ra1 Ra2 (by decide) hZ.rf h27) cl_X12_628 rfl rfl (Nat.le_of_ble_eq_true rfl) ⟨Nat.le_of_ble_eq_true rfl, Nat.le_of_ble_eq_true rfl⟩ dX12_worked_109 (fun r28 s29 F30 R31 hZ32 h33 => ?_)
                      exact zr_iret hC hZ32 R31 h33 dX12_worked_112
                  · have h34 := h16.2 c17
                    refine g_iload_n hC dX12_worked_92 rfl ?_
                    refine g_iload_n hC dX12_worked_93 rfl ?_
                    refine zr_ixor hC dX12_worked_94 ?_
                    exact zr_iret hC hZ (zR_t _) h34 dX12_worked_95
                · have h35 := h14.2 c15
                  refine g_iload_n hC dX12_worked_80 rfl ?_
                  refine g_iload_n hC dX12_worked_81 rfl ?_
                  refine zr_ixor hC dX12_worked_82 ?_
                  refine g_iconst (v := zI (-1)) hC dX12_worked_83 rfl ?_
                  refine zr_ixor hC dX12_worked_84 ?_
                  exact zr_iret hC hZ (zR_t _) h35 dX12_worked_85
              · have h36 := h12.2 c13
                refine g_iload_n hC dX12_worked_70 rfl ?_
                refine g_iload_n hC dX12_worked_71 rfl ?_
                refine zr_ior hC dX12_worked_72 ?_
                exact zr_iret hC hZ (zR_t _) h36 dX12_worked_73
            · have h37 := h10.2 c11
              refine g_iload_n hC dX12_worked_60 rfl ?_
              refine g_iload_n hC dX12_worked_61 rfl ?_
              refine zr_iand hC dX12_worked_62 ?_
              exact zr_iret hC hZ (zR_t _) h37 dX12_worked_63
          · have h38 := h8.2 c9
            refine g_iload_n hC dX12_worked_48 rfl ?_
            refine g_iload_n hC dX12_worked_49 rfl ?_
            refine zr_callSi (As := [.int (zI a1), .int (zI a2)]) hC hZ (rm_remainder X.la d b Ra1 Ra2 hZ.rf h38) cl_X12_625 rfl rfl (Nat.le_of_ble_eq_true rfl) ⟨Nat.le_of_ble_eq_true rfl, Nat.le_of_ble_eq_true rfl⟩ dX12_worked_50 (fun r39 s40 F41 R42 hZ43 h44 => ?_)
            exact zr_iret hC hZ43 R42 h44 dX12_worked_53
        · have h45 := h6.2 c7
          refine g_iload_n hC dX12_worked_36 rfl ?_
          refine g_iload_n hC dX12_worked_37 rfl ?_
          refine zr_callSi (As := [.int (zI a1), .int (zI a2)]) hC hZ (rm_quotient X.la d b Ra1 Ra2 hZ.rf h45) cl_X12_622 rfl rfl (Nat.le_of_ble_eq_true rfl) ⟨Nat.le_of_ble_eq_true rfl, Nat.le_of_ble_eq_true rfl⟩ dX12_worked_38 (fun r46 s47 F48 R49 hZ50 h51 => ?_)
          exact zr_iret hC hZ50 R49 h51 dX12_worked_41
      · have h52 := h4.2 c5
        refine g_iload_n hC dX12_worked_26 rfl ?_
        refine g_iload_n hC dX12_worked_27 rfl ?_
        refine zr_imul hC dX12_worked_28 ?_
        refine zr_w (fun z53 e54 R55 => ?_)
        have h56 := h52 z53 e54 R55
        exact zr_iret hC hZ R55 h56 dX12_worked_29
    · have h57 := h2.2 c3
      refine g_iload_n hC dX12_worked_16 rfl ?_
      refine g_iload_n hC dX12_worked_17 rfl ?_
      refine zr_isub hC dX12_worked_18 ?_
      refine zr_w (fun z58 e59 R60 => ?_)
      have h61 := h57 z58 e59 R60
      exact zr_iret hC hZ R60 h61 dX12_worked_19
  · have h62 := hw.2 c1
    refine g_iload_n hC dX12_worked_6 rfl ?_
    refine g_iload_n hC dX12_worked_7 rfl ?_
    refine zr_iadd hC dX12_worked_8 ?_
    refine zr_w (fun z63 e64 R65 => ?_)
    have h66 := h62 z63 e64 R65
    exact zr_iret hC hZ R65 h66 dX12_worked_9
theorem dX12_related_0 : decode cX12_related 0 = .ok (.iload_n 0, 1) := by decide +kernel
theorem dX12_related_1 : decode cX12_related 1 = .ok (.bipush 25, 2) := by decide +kernel
theorem dX12_related_3 : decode cX12_related 3 = .ok (.if_icmp .ne 14, 3) := by decide +kernel
theorem dX12_related_6 : decode cX12_related 6 = .ok (.iload_n 1, 1) := by decide +kernel
theorem dX12_related_7 : decode cX12_related 7 = .ok (.iload_n 2, 1) := by decide +kernel
theorem dX12_related_8 : decode cX12_related 8 = .ok (.if_icmp .ne 7, 3) := by decide +kernel
theorem dX12_related_11 : decode cX12_related 11 = .ok (.iconst 1, 1) := by decide +kernel
theorem dX12_related_12 : decode cX12_related 12 = .ok (.goto 4, 3) := by decide +kernel
theorem dX12_related_15 : decode cX12_related 15 = .ok (.iconst 0, 1) := by decide +kernel
theorem dX12_related_16 : decode cX12_related 16 = .ok (.ireturn, 1) := by decide +kernel
theorem dX12_related_17 : decode cX12_related 17 = .ok (.iload_n 0, 1) := by decide +kernel
theorem dX12_related_18 : decode cX12_related 18 = .ok (.bipush 26, 2) := by decide +kernel
theorem dX12_related_20 : decode cX12_related 20 = .ok (.if_icmp .ne 14, 3) := by decide +kernel
theorem dX12_related_23 : decode cX12_related 23 = .ok (.iload_n 1, 1) := by decide +kernel
theorem dX12_related_24 : decode cX12_related 24 = .ok (.iload_n 2, 1) := by decide +kernel
theorem dX12_related_25 : decode cX12_related 25 = .ok (.if_icmp .eq 7, 3) := by decide +kernel
theorem dX12_related_28 : decode cX12_related 28 = .ok (.iconst 1, 1) := by decide +kernel
theorem dX12_related_29 : decode cX12_related 29 = .ok (.goto 4, 3) := by decide +kernel
theorem dX12_related_32 : decode cX12_related 32 = .ok (.iconst 0, 1) := by decide +kernel
theorem dX12_related_33 : decode cX12_related 33 = .ok (.ireturn, 1) := by decide +kernel
theorem dX12_related_34 : decode cX12_related 34 = .ok (.iload_n 0, 1) := by decide +kernel
theorem dX12_related_35 : decode cX12_related 35 = .ok (.bipush 27, 2) := by decide +kernel
theorem dX12_related_37 : decode cX12_related 37 = .ok (.if_icmp .ne 14, 3) := by decide +kernel
theorem dX12_related_40 : decode cX12_related 40 = .ok (.iload_n 1, 1) := by decide +kernel
theorem dX12_related_41 : decode cX12_related 41 = .ok (.iload_n 2, 1) := by decide +kernel
theorem dX12_related_42 : decode cX12_related 42 = .ok (.if_icmp .ge 7, 3) := by decide +kernel
theorem dX12_related_45 : decode cX12_related 45 = .ok (.iconst 1, 1) := by decide +kernel
theorem dX12_related_46 : decode cX12_related 46 = .ok (.goto 4, 3) := by decide +kernel
theorem dX12_related_49 : decode cX12_related 49 = .ok (.iconst 0, 1) := by decide +kernel
theorem dX12_related_50 : decode cX12_related 50 = .ok (.ireturn, 1) := by decide +kernel
theorem dX12_related_51 : decode cX12_related 51 = .ok (.iload_n 0, 1) := by decide +kernel
theorem dX12_related_52 : decode cX12_related 52 = .ok (.bipush 28, 2) := by decide +kernel
theorem dX12_related_54 : decode cX12_related 54 = .ok (.if_icmp .ne 14, 3) := by decide +kernel
theorem dX12_related_57 : decode cX12_related 57 = .ok (.iload_n 1, 1) := by decide +kernel
theorem dX12_related_58 : decode cX12_related 58 = .ok (.iload_n 2, 1) := by decide +kernel
theorem dX12_related_59 : decode cX12_related 59 = .ok (.if_icmp .gt 7, 3) := by decide +kernel
theorem dX12_related_62 : decode cX12_related 62 = .ok (.iconst 1, 1) := by decide +kernel
theorem dX12_related_63 : decode cX12_related 63 = .ok (.goto 4, 3) := by decide +kernel
theorem dX12_related_66 : decode cX12_related 66 = .ok (.iconst 0, 1) := by decide +kernel
theorem dX12_related_67 : decode cX12_related 67 = .ok (.ireturn, 1) := by decide +kernel
theorem dX12_related_68 : decode cX12_related 68 = .ok (.iload_n 0, 1) := by decide +kernel
theorem dX12_related_69 : decode cX12_related 69 = .ok (.bipush 29, 2) := by decide +kernel
theorem dX12_related_71 : decode cX12_related 71 = .ok (.if_icmp .ne 14, 3) := by decide +kernel
theorem dX12_related_74 : decode cX12_related 74 = .ok (.iload_n 1, 1) := by decide +kernel
theorem dX12_related_75 : decode cX12_related 75 = .ok (.iload_n 2, 1) := by decide +kernel
theorem dX12_related_76 : decode cX12_related 76 = .ok (.if_icmp .le 7, 3) := by decide +kernel
theorem dX12_related_79 : decode cX12_related 79 = .ok (.iconst 1, 1) := by decide +kernel
theorem dX12_related_80 : decode cX12_related 80 = .ok (.goto 4, 3) := by decide +kernel
theorem dX12_related_83 : decode cX12_related 83 = .ok (.iconst 0, 1) := by decide +kernel
theorem dX12_related_84 : decode cX12_related 84 = .ok (.ireturn, 1) := by decide +kernel
theorem dX12_related_85 : decode cX12_related 85 = .ok (.iload_n 1, 1) := by decide +kernel
theorem dX12_related_86 : decode cX12_related 86 = .ok (.iload_n 2, 1) := by decide +kernel
theorem dX12_related_87 : decode cX12_related 87 = .ok (.if_icmp .lt 7, 3) := by decide +kernel
theorem dX12_related_90 : decode cX12_related 90 = .ok (.iconst 1, 1) := by decide +kernel
theorem dX12_related_91 : decode cX12_related 91 = .ok (.goto 4, 3) := by decide +kernel
theorem dX12_related_94 : decode cX12_related 94 = .ok (.iconst 0, 1) := by decide +kernel
theorem dX12_related_95 : decode cX12_related 95 = .ok (.ireturn, 1) := by decide +kernel
def wr_related (s0 : zS) (a0 : Int) (a1 : Int) (a2 : Int) (Q : Int → zS → Prop) : Prop :=
  ((¬ a0 = 25 → ((¬ a0 = 26 → ((¬ a0 = 27 → ((¬ a0 = 28 → ((¬ a0 = 29 → ((a1 < a2 → Q 0 s0) ∧ (¬ a1 < a2 → Q 1 s0))) ∧ (a0 = 29 → ((a1 ≤ a2 → Q 0 s0) ∧ (¬ a1 ≤ a2 → Q 1 s0))))) ∧ (a0 = 28 → ((a2 < a1 → Q 0 s0) ∧ (¬ a2 < a1 → Q 1 s0))))) ∧ (a0 = 27 → ((a2 ≤ a1 → Q 0 s0) ∧ (¬ a2 ≤ a1 → Q 1 s0))))) ∧ (a0 = 26 → ((a1 = a2 → Q 0 s0) ∧ (¬ a1 = a2 → Q 1 s0))))) ∧ (a0 = 25 → ((¬ a1 = a2 → Q 0 s0) ∧ (a1 = a2 → Q 1 s0))))
set_option maxHeartbeats 4000000 in
set_option maxRecDepth 100000 in
theorem rm_related (l : Launch) (d : gD) (b : Nat) {t : Nat} {T : Nat → Nat} {F : gM} {s0 : zS} {a0 : Int} {a1 : Int} {a2 : Int} (Ra0 : zR a0) (Ra1 : zR a1) (Ra2 : zR a2) {Q : Int → zS → Prop} (hZ : zZ d t T F F s0) (hw : wr_related s0 a0 a1 a2 Q) : gMi l d b yX12_related cX12_related 3 .boolean 0 0 0 F [.int (zI a0), .int (zI a1), .int (zI a2)] (zPi d t T F Q) := by
  refine gM_of2 rfl (nL := 3) (Nat.le_of_ble_eq_true rfl) ?_
  intro X hX hC; subst hX
  show gG X d b (zQi X d b t T F Q) F 0 0 0 [some (.int (zI a0)), some (.int (zI a1)), some (.int (zI a2))] []
  unfold wr_related at hw
  refine g_iload_n hC dX12_related_0 rfl ?_
  refine g_bipush (v := zI 25) hC dX12_related_1 rfl ?_
  refine zr_icmp_ne (tgt := 17) hC Ra0 (by decide) dX12_related_3 (by decide) (fun c1 => ?_) (fun c1 => ?_)
  · have h2 := hw.1 c1
    refine g_iload_n hC dX12_related_17 rfl ?_
    refine g_bipush (v := zI 26) hC dX12_related_18 rfl ?_
    refine zr_icmp_ne (tgt := 34) hC Ra0 (by decide) dX12_related_20 (by decide) (fun c3 => ?_) (fun c3 => ?_)
    · have h4 := h2.1 c3
      refine g_iload_n hC dX12_related_34 rfl ?_
      refine g_bipush (v := zI 27) hC dX12_related_35 rfl ?_
      refine zr_icmp_ne (tgt := 51) hC Ra0 (by decide) dX12_related_37 (by decide) (fun c5 => ?_) (fun c5 => ?_)
      · have h6 := h4.1 c5
        refine g_iload_n hC dX12_related_51 rfl ?_
        refine g_bipush (v := zI 28) hC dX12_related_52 rfl ?_
        refine zr_icmp_ne (tgt := 68) hC Ra0 (by decide) dX12_related_54 (by decide) (fun c7 => ?_) (fun c7 => ?_)
        · have h8 := h6.1 c7
          refine g_iload_n hC dX12_related_68 rfl ?_
          refine g_bipush (v := zI 29) hC dX12_related_69 rfl ?_
          refine zr_icmp_ne (tgt := 85) hC Ra0 (by decide) dX12_related_71 (by decide) (fun c9 => ?_) (fun c9 => ?_)
          · have h10 := h8.1 c9
            refine g_iload_n hC dX12_related_85 rfl ?_
            refine g_iload_n hC dX12_related_86 rfl ?_
            refine zr_icmp_lt (tgt := 94) hC Ra1 Ra2 dX12_related_87 (by decide) (fun c11 => ?_) (fun c11 => ?_)
            · have h12 := h10.1 c11
              refine g_iconst (v := zI 0) hC dX12_related_94 rfl ?_
              exact zr_zret hC hZ (Or.inl rfl) h12 dX12_related_95
            · have h13 := h10.2 c11
              refine g_iconst (v := zI 1) hC dX12_related_90 rfl ?_
              refine g_goto (tgt := 95) hC dX12_related_91 (by decide) ?_
              exact zr_zret hC hZ (Or.inr rfl) h13 dX12_related_95
          · have h14 := h8.2 c9
            refine g_iload_n hC dX12_related_74 rfl ?_
            refine g_iload_n hC dX12_related_75 rfl ?_
            refine zr_icmp_le (tgt := 83) hC Ra1 Ra2 dX12_related_76 (by decide) (fun c15 => ?_) (fun c15 => ?_)
            · have h16 := h14.1 c15
              refine g_iconst (v := zI 0) hC dX12_related_83 rfl ?_
              exact zr_zret hC hZ (Or.inl rfl) h16 dX12_related_84
            · have h17 := h14.2 c15
              refine g_iconst (v := zI 1) hC dX12_related_79 rfl ?_
              refine g_goto (tgt := 84) hC dX12_related_80 (by decide) ?_
              exact zr_zret hC hZ (Or.inr rfl) h17 dX12_related_84
        · have h18 := h6.2 c7
          refine g_iload_n hC dX12_related_57 rfl ?_
          refine g_iload_n hC dX12_related_58 rfl ?_
          refine zr_icmp_gt (tgt := 66) hC Ra1 Ra2 dX12_related_59 (by decide) (fun c19 => ?_) (fun c19 => ?_)
          · have h20 := h18.1 c19
            refine g_iconst (v := zI 0) hC dX12_related_66 rfl ?_
            exact zr_zret hC hZ (Or.inl rfl) h20 dX12_related_67
          · have h21 := h18.2 c19
            refine g_iconst (v := zI 1) hC dX12_related_62 rfl ?_
            refine g_goto (tgt := 67) hC dX12_related_63 (by decide) ?_
            exact zr_zret hC hZ (Or.inr rfl) h21 dX12_related_67
      · have h22 := h4.2 c5
        refine g_iload_n hC dX12_related_40 rfl ?_
        refine g_iload_n hC dX12_related_41 rfl ?_
        refine zr_icmp_ge (tgt := 49) hC Ra1 Ra2 dX12_related_42 (by decide) (fun c23 => ?_) (fun c23 => ?_)
        · have h24 := h22.1 c23
          refine g_iconst (v := zI 0) hC dX12_related_49 rfl ?_
          exact zr_zret hC hZ (Or.inl rfl) h24 dX12_related_50
        · have h25 := h22.2 c23
          refine g_iconst (v := zI 1) hC dX12_related_45 rfl ?_
          refine g_goto (tgt := 50) hC dX12_related_46 (by decide) ?_
          exact zr_zret hC hZ (Or.inr rfl) h25 dX12_related_50
    · have h26 := h2.2 c3
      refine g_iload_n hC dX12_related_23 rfl ?_
      refine g_iload_n hC dX12_related_24 rfl ?_
      refine zr_icmp_eq (tgt := 32) hC Ra1 Ra2 dX12_related_25 (by decide) (fun c27 => ?_) (fun c27 => ?_)
      · have h28 := h26.1 c27
        refine g_iconst (v := zI 0) hC dX12_related_32 rfl ?_
        exact zr_zret hC hZ (Or.inl rfl) h28 dX12_related_33
      · have h29 := h26.2 c27
        refine g_iconst (v := zI 1) hC dX12_related_28 rfl ?_
        refine g_goto (tgt := 33) hC dX12_related_29 (by decide) ?_
        exact zr_zret hC hZ (Or.inr rfl) h29 dX12_related_33
  · have h30 := hw.2 c1
    refine g_iload_n hC dX12_related_6 rfl ?_
    refine g_iload_n hC dX12_related_7 rfl ?_
    refine zr_icmp_ne (tgt := 15) hC Ra1 Ra2 dX12_related_8 (by decide) (fun c31 => ?_) (fun c31 => ?_)
    · have h32 := h30.1 c31
      refine g_iconst (v := zI 0) hC dX12_related_15 rfl ?_
      exact zr_zret hC hZ (Or.inl rfl) h32 dX12_related_16
    · have h33 := h30.2 c31
      refine g_iconst (v := zI 1) hC dX12_related_11 rfl ?_
      refine g_goto (tgt := 16) hC dX12_related_12 (by decide) ?_
      exact zr_zret hC hZ (Or.inr rfl) h33 dX12_related_16
theorem dX12_signed_0 : decode cX12_signed 0 = .ok (.iload_n 0, 1) := by decide +kernel
theorem dX12_signed_1 : decode cX12_signed 1 = .ok (.bipush 22, 2) := by decide +kernel
theorem dX12_signed_3 : decode cX12_signed 3 = .ok (.if_icmp .ne 8, 3) := by decide +kernel
theorem dX12_signed_6 : decode cX12_signed 6 = .ok (.iload_n 1, 1) := by decide +kernel
theorem dX12_signed_7 : decode cX12_signed 7 = .ok (.ineg, 1) := by decide +kernel
theorem dX12_signed_8 : decode cX12_signed 8 = .ok (.goto 16, 3) := by decide +kernel
theorem dX12_signed_11 : decode cX12_signed 11 = .ok (.iload_n 0, 1) := by decide +kernel
theorem dX12_signed_12 : decode cX12_signed 12 = .ok (.bipush 33, 2) := by decide +kernel
theorem dX12_signed_14 : decode cX12_signed 14 = .ok (.if_icmp .ne 9, 3) := by decide +kernel
theorem dX12_signed_17 : decode cX12_signed 17 = .ok (.iload_n 1, 1) := by decide +kernel
theorem dX12_signed_18 : decode cX12_signed 18 = .ok (.iconst (-1), 1) := by decide +kernel
theorem dX12_signed_19 : decode cX12_signed 19 = .ok (.ixor, 1) := by decide +kernel
theorem dX12_signed_20 : decode cX12_signed 20 = .ok (.goto 4, 3) := by decide +kernel
theorem dX12_signed_23 : decode cX12_signed 23 = .ok (.iload_n 1, 1) := by decide +kernel
theorem dX12_signed_24 : decode cX12_signed 24 = .ok (.ireturn, 1) := by decide +kernel
def wr_signed (s0 : zS) (a0 : Int) (a1 : Int) (Q : Int → zS → Prop) : Prop :=
  ((¬ a0 = 22 → ((¬ a0 = 33 → Q a1 s0) ∧ (a0 = 33 → Q (zxo a1 (-1)) s0))) ∧ (a0 = 22 → ∀ z7 : Int, z7 = zw (-a1) → zR z7 → Q z7 s0))
set_option maxHeartbeats 4000000 in
set_option maxRecDepth 100000 in
theorem rm_signed (l : Launch) (d : gD) (b : Nat) {t : Nat} {T : Nat → Nat} {F : gM} {s0 : zS} {a0 : Int} {a1 : Int} (Ra0 : zR a0) (Ra1 : zR a1) {Q : Int → zS → Prop} (hZ : zZ d t T F F s0) (hw : wr_signed s0 a0 a1 Q) : gMi l d b yX12_signed cX12_signed 2 .int 0 0 0 F [.int (zI a0), .int (zI a1)] (zPi d t T F Q) := by
  refine gM_of2 rfl (nL := 2) (Nat.le_of_ble_eq_true rfl) ?_
  intro X hX hC; subst hX
  show gG X d b (zQi X d b t T F Q) F 0 0 0 [some (.int (zI a0)), some (.int (zI a1))] []
  unfold wr_signed at hw
  refine g_iload_n hC dX12_signed_0 rfl ?_
  refine g_bipush (v := zI 22) hC dX12_signed_1 rfl ?_
  refine zr_icmp_ne (tgt := 11) hC Ra0 (by decide) dX12_signed_3 (by decide) (fun c1 => ?_) (fun c1 => ?_)
  · have h2 := hw.1 c1
    refine g_iload_n hC dX12_signed_11 rfl ?_
    refine g_bipush (v := zI 33) hC dX12_signed_12 rfl ?_
    refine zr_icmp_ne (tgt := 23) hC Ra0 (by decide) dX12_signed_14 (by decide) (fun c3 => ?_) (fun c3 => ?_)
    · have h4 := h2.1 c3
      refine g_iload_n hC dX12_signed_23 rfl ?_
      exact zr_iret hC hZ Ra1 h4 dX12_signed_24
    · have h5 := h2.2 c3
      refine g_iload_n hC dX12_signed_17 rfl ?_
      refine g_iconst (v := zI (-1)) hC dX12_signed_18 rfl ?_
      refine zr_ixor hC dX12_signed_19 ?_
      refine g_goto (tgt := 24) hC dX12_signed_20 (by decide) ?_
      exact zr_iret hC hZ (zR_t _) h5 dX12_signed_24
  · have h6 := hw.2 c1
    refine g_iload_n hC dX12_signed_6 rfl ?_
    refine zr_ineg hC dX12_signed_7 ?_
    refine zr_w (fun z7 e8 R9 => ?_)
    have h10 := h6 z7 e8 R9
    refine g_goto (tgt := 24) hC dX12_signed_8 (by decide) ?_
    exact zr_iret hC hZ R9 h10 dX12_signed_24
theorem dX12_later_0 : decode cX12_later 0 = .ok (.aload_n 0, 1) := by decide +kernel
theorem dX12_later_1 : decode cX12_later 1 = .ok (.getfield 194, 3) := by decide +kernel
theorem dX12_later_4 : decode cX12_later 4 = .ok (.iload_n 1, 1) := by decide +kernel
theorem dX12_later_5 : decode cX12_later 5 = .ok (.iload_n 2, 1) := by decide +kernel
theorem dX12_later_6 : decode cX12_later 6 = .ok (.iastore, 1) := by decide +kernel
theorem dX12_later_7 : decode cX12_later 7 = .ok (.aload_n 0, 1) := by decide +kernel
theorem dX12_later_8 : decode cX12_later 8 = .ok (.getfield 197, 3) := by decide +kernel
theorem dX12_later_11 : decode cX12_later 11 = .ok (.iload_n 1, 1) := by decide +kernel
theorem dX12_later_12 : decode cX12_later 12 = .ok (.iconst 0, 1) := by decide +kernel
theorem dX12_later_13 : decode cX12_later 13 = .ok (.iastore, 1) := by decide +kernel
theorem dX12_later_14 : decode cX12_later 14 = .ok (.iload_n 1, 1) := by decide +kernel
theorem dX12_later_15 : decode cX12_later 15 = .ok (.iconst 1, 1) := by decide +kernel
theorem dX12_later_16 : decode cX12_later 16 = .ok (.iadd, 1) := by decide +kernel
theorem dX12_later_17 : decode cX12_later 17 = .ok (.ireturn, 1) := by decide +kernel
def wr_later (s0 : zS) (a0 : Int) (a1 : Int) (Q : Int → zS → Prop) : Prop :=
  (0 ≤ a0) ∧ (a0 < 26000) ∧ (0 ≤ a0) ∧ (a0 < 26000) ∧ (zR (a0 + 1)) ∧ Q (a0 + 1) (zpa (zpa s0 60 (Int.toNat a0) a1) 61 (Int.toNat a0) 0)
set_option maxHeartbeats 4000000 in
set_option maxRecDepth 100000 in
theorem rm_later (l : Launch) (d : gD) (b : Nat) {t : Nat} {T : Nat → Nat} {F : gM} {s0 : zS} {a0 : Int} {a1 : Int} (Ra0 : zR a0) (Ra1 : zR a1) {Q : Int → zS → Prop} (hZ : zZ d t T F F s0) (hw : wr_later s0 a0 a1 Q) : gMi l d b yX12_later cX12_later 3 .int 0 0 0 F [.ref t, .int (zI a0), .int (zI a1)] (zPi d t T F Q) := by
  refine gM_of2 rfl (nL := 3) (Nat.le_of_ble_eq_true rfl) ?_
  intro X hX hC; subst hX
  show gG X d b (zQi X d b t T F Q) F 0 0 0 [some (.ref t), some (.int (zI a0)), some (.int (zI a1))] []
  unfold wr_later at hw
  refine g_aload_n hC dX12_later_0 rfl ?_
  refine zr_geta hC hZ fl_X12_194 zb_60 (by decide) dX12_later_1 ?_
  refine g_iload_n hC dX12_later_4 rfl ?_
  refine g_iload_n hC dX12_later_5 rfl ?_
  obtain ⟨o1, h2⟩ := hw
  obtain ⟨o3, h4⟩ := h2
  refine zr_iast hC hZ zk_60 zb_60 zn_60 (by decide) o1 o3 Ra1 dX12_later_6 (fun F5 hZ6 => ?_)
  refine g_aload_n hC dX12_later_7 rfl ?_
  refine zr_geta hC hZ6 fl_X12_197 zb_61 (by decide) dX12_later_8 ?_
  refine g_iload_n hC dX12_later_11 rfl ?_
  refine g_iconst (v := zI 0) hC dX12_later_12 rfl ?_
  obtain ⟨o7, h8⟩ := h4
  obtain ⟨o9, h10⟩ := h8
  refine zr_iast hC hZ6 zk_61 zb_61 zn_61 (by decide) o7 o9 (by decide) dX12_later_13 (fun F11 hZ12 => ?_)
  refine g_iload_n hC dX12_later_14 rfl ?_
  refine g_iconst (v := zI 1) hC dX12_later_15 rfl ?_
  refine zr_iadd hC dX12_later_16 ?_
  obtain ⟨o13, h14⟩ := h10
  exact zr_iret hC hZ12 o13 h14 dX12_later_17
