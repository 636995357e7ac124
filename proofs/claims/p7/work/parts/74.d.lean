/-! the reference as formulas: reachE, reachP, reachD, beginsE, command, labels -/
theorem dX12_reachE_0 : decode cX12_reachE 0 = .ok (.aload_n 0, 1) := by decide +kernel
theorem dX12_reachE_1 : decode cX12_reachE 1 = .ok (.invokevirtual 526, 3) := by decide +kernel
theorem dX12_reachE_4 : decode cX12_reachE 4 = .ok (.istore 5, 2) := by decide +kernel
theorem dX12_reachE_6 : decode cX12_reachE 6 = .ok (.aload_n 0, 1) := by decide +kernel
theorem dX12_reachE_7 : decode cX12_reachE 7 = .ok (.getfield 142, 3) := by decide +kernel
theorem dX12_reachE_10 : decode cX12_reachE 10 = .ok (.istore 6, 2) := by decide +kernel
theorem dX12_reachE_12 : decode cX12_reachE 12 = .ok (.iload_n 1, 1) := by decide +kernel
theorem dX12_reachE_13 : decode cX12_reachE 13 = .ok (.bipush 28, 2) := by decide +kernel
theorem dX12_reachE_15 : decode cX12_reachE 15 = .ok (.if_icmp .ne 26, 3) := by decide +kernel
theorem dX12_reachE_18 : decode cX12_reachE 18 = .ok (.aload_n 0, 1) := by decide +kernel
theorem dX12_reachE_19 : decode cX12_reachE 19 = .ok (.bipush 29, 2) := by decide +kernel
theorem dX12_reachE_21 : decode cX12_reachE 21 = .ok (.iconst 0, 1) := by decide +kernel
theorem dX12_reachE_22 : decode cX12_reachE 22 = .ok (.iconst 0, 1) := by decide +kernel
theorem dX12_reachE_23 : decode cX12_reachE 23 = .ok (.aload_n 0, 1) := by decide +kernel
theorem dX12_reachE_24 : decode cX12_reachE 24 = .ok (.getfield 124, 3) := by decide +kernel
theorem dX12_reachE_27 : decode cX12_reachE 27 = .ok (.invokevirtual 534, 3) := by decide +kernel
theorem dX12_reachE_30 : decode cX12_reachE 30 = .ok (.aload_n 0, 1) := by decide +kernel
theorem dX12_reachE_31 : decode cX12_reachE 31 = .ok (.bipush 30, 2) := by decide +kernel
theorem dX12_reachE_33 : decode cX12_reachE 33 = .ok (.iconst 1, 1) := by decide +kernel
theorem dX12_reachE_34 : decode cX12_reachE 34 = .ok (.iconst 0, 1) := by decide +kernel
theorem dX12_reachE_35 : decode cX12_reachE 35 = .ok (.iconst 0, 1) := by decide +kernel
theorem dX12_reachE_36 : decode cX12_reachE 36 = .ok (.invokevirtual 534, 3) := by decide +kernel
theorem dX12_reachE_39 : decode cX12_reachE 39 = .ok (.iconst 1, 1) := by decide +kernel
theorem dX12_reachE_40 : decode cX12_reachE 40 = .ok (.ireturn, 1) := by decide +kernel
theorem dX12_reachE_41 : decode cX12_reachE 41 = .ok (.iload_n 1, 1) := by decide +kernel
theorem dX12_reachE_42 : decode cX12_reachE 42 = .ok (.bipush 29, 2) := by decide +kernel
theorem dX12_reachE_44 : decode cX12_reachE 44 = .ok (.if_icmp .ne 117, 3) := by decide +kernel
theorem dX12_reachE_47 : decode cX12_reachE 47 = .ok (.iload_n 2, 1) := by decide +kernel
theorem dX12_reachE_48 : decode cX12_reachE 48 = .ok (.ifCond .ne 69, 3) := by decide +kernel
theorem dX12_reachE_51 : decode cX12_reachE 51 = .ok (.iload 5, 2) := by decide +kernel
theorem dX12_reachE_53 : decode cX12_reachE 53 = .ok (.bipush 36, 2) := by decide +kernel
theorem dX12_reachE_55 : decode cX12_reachE 55 = .ok (.if_icmp .eq 5, 3) := by decide +kernel
theorem dX12_reachE_58 : decode cX12_reachE 58 = .ok (.iconst 1, 1) := by decide +kernel
theorem dX12_reachE_59 : decode cX12_reachE 59 = .ok (.ireturn, 1) := by decide +kernel
theorem dX12_reachE_60 : decode cX12_reachE 60 = .ok (.aload_n 0, 1) := by decide +kernel
theorem dX12_reachE_61 : decode cX12_reachE 61 = .ok (.getfield 145, 3) := by decide +kernel
theorem dX12_reachE_64 : decode cX12_reachE 64 = .ok (.istore 7, 2) := by decide +kernel
theorem dX12_reachE_66 : decode cX12_reachE 66 = .ok (.aload_n 0, 1) := by decide +kernel
theorem dX12_reachE_67 : decode cX12_reachE 67 = .ok (.invokevirtual 530, 3) := by decide +kernel
theorem dX12_reachE_70 : decode cX12_reachE 70 = .ok (.ifCond .ne 5, 3) := by decide +kernel
theorem dX12_reachE_73 : decode cX12_reachE 73 = .ok (.iconst 0, 1) := by decide +kernel
theorem dX12_reachE_74 : decode cX12_reachE 74 = .ok (.ireturn, 1) := by decide +kernel
theorem dX12_reachE_75 : decode cX12_reachE 75 = .ok (.aload_n 0, 1) := by decide +kernel
theorem dX12_reachE_76 : decode cX12_reachE 76 = .ok (.dup, 1) := by decide +kernel
theorem dX12_reachE_77 : decode cX12_reachE 77 = .ok (.getfield 142, 3) := by decide +kernel
theorem dX12_reachE_80 : decode cX12_reachE 80 = .ok (.iconst 1, 1) := by decide +kernel
theorem dX12_reachE_81 : decode cX12_reachE 81 = .ok (.iadd, 1) := by decide +kernel
theorem dX12_reachE_82 : decode cX12_reachE 82 = .ok (.putfield 142, 3) := by decide +kernel
theorem dX12_reachE_85 : decode cX12_reachE 85 = .ok (.aload_n 0, 1) := by decide +kernel
theorem dX12_reachE_86 : decode cX12_reachE 86 = .ok (.bipush 15, 2) := by decide +kernel
theorem dX12_reachE_88 : decode cX12_reachE 88 = .ok (.iload 7, 2) := by decide +kernel
theorem dX12_reachE_90 : decode cX12_reachE 90 = .ok (.iconst 0, 1) := by decide +kernel
theorem dX12_reachE_91 : decode cX12_reachE 91 = .ok (.iconst 0, 1) := by decide +kernel
theorem dX12_reachE_92 : decode cX12_reachE 92 = .ok (.invokevirtual 534, 3) := by decide +kernel
theorem dX12_reachE_95 : decode cX12_reachE 95 = .ok (.aload_n 0, 1) := by decide +kernel
theorem dX12_reachE_96 : decode cX12_reachE 96 = .ok (.bipush 29, 2) := by decide +kernel
theorem dX12_reachE_98 : decode cX12_reachE 98 = .ok (.iconst 1, 1) := by decide +kernel
theorem dX12_reachE_99 : decode cX12_reachE 99 = .ok (.iload 6, 2) := by decide +kernel
theorem dX12_reachE_101 : decode cX12_reachE 101 = .ok (.iload 4, 2) := by decide +kernel
theorem dX12_reachE_103 : decode cX12_reachE 103 = .ok (.invokevirtual 534, 3) := by decide +kernel
theorem dX12_reachE_106 : decode cX12_reachE 106 = .ok (.aload_n 0, 1) := by decide +kernel
theorem dX12_reachE_107 : decode cX12_reachE 107 = .ok (.bipush 28, 2) := by decide +kernel
theorem dX12_reachE_109 : decode cX12_reachE 109 = .ok (.iconst 0, 1) := by decide +kernel
theorem dX12_reachE_110 : decode cX12_reachE 110 = .ok (.iconst 0, 1) := by decide +kernel
theorem dX12_reachE_111 : decode cX12_reachE 111 = .ok (.iconst 0, 1) := by decide +kernel
theorem dX12_reachE_112 : decode cX12_reachE 112 = .ok (.invokevirtual 534, 3) := by decide +kernel
theorem dX12_reachE_115 : decode cX12_reachE 115 = .ok (.iconst 1, 1) := by decide +kernel
theorem dX12_reachE_116 : decode cX12_reachE 116 = .ok (.ireturn, 1) := by decide +kernel
theorem dX12_reachE_117 : decode cX12_reachE 117 = .ok (.iload_n 2, 1) := by decide +kernel
theorem dX12_reachE_118 : decode cX12_reachE 118 = .ok (.iconst 1, 1) := by decide +kernel
theorem dX12_reachE_119 : decode cX12_reachE 119 = .ok (.if_icmp .ne 29, 3) := by decide +kernel
theorem dX12_reachE_122 : decode cX12_reachE 122 = .ok (.aload_n 0, 1) := by decide +kernel
theorem dX12_reachE_123 : decode cX12_reachE 123 = .ok (.bipush 29, 2) := by decide +kernel
theorem dX12_reachE_125 : decode cX12_reachE 125 = .ok (.iconst 2, 1) := by decide +kernel
theorem dX12_reachE_126 : decode cX12_reachE 126 = .ok (.iload_n 3, 1) := by decide +kernel
theorem dX12_reachE_127 : decode cX12_reachE 127 = .ok (.iload 4, 2) := by decide +kernel
theorem dX12_reachE_129 : decode cX12_reachE 129 = .ok (.invokevirtual 534, 3) := by decide +kernel
theorem dX12_reachE_132 : decode cX12_reachE 132 = .ok (.aload_n 0, 1) := by decide +kernel
theorem dX12_reachE_133 : decode cX12_reachE 133 = .ok (.bipush 28, 2) := by decide +kernel
theorem dX12_reachE_135 : decode cX12_reachE 135 = .ok (.iconst 0, 1) := by decide +kernel
theorem dX12_reachE_136 : decode cX12_reachE 136 = .ok (.iconst 0, 1) := by decide +kernel
theorem dX12_reachE_137 : decode cX12_reachE 137 = .ok (.iconst 0, 1) := by decide +kernel
theorem dX12_reachE_138 : decode cX12_reachE 138 = .ok (.invokevirtual 534, 3) := by decide +kernel
theorem dX12_reachE_141 : decode cX12_reachE 141 = .ok (.aload_n 0, 1) := by decide +kernel
theorem dX12_reachE_142 : decode cX12_reachE 142 = .ok (.bipush 14, 2) := by decide +kernel
theorem dX12_reachE_144 : decode cX12_reachE 144 = .ok (.invokevirtual 549, 3) := by decide +kernel
theorem dX12_reachE_147 : decode cX12_reachE 147 = .ok (.ireturn, 1) := by decide +kernel
theorem dX12_reachE_148 : decode cX12_reachE 148 = .ok (.aload_n 0, 1) := by decide +kernel
theorem dX12_reachE_149 : decode cX12_reachE 149 = .ok (.bipush 12, 2) := by decide +kernel
theorem dX12_reachE_151 : decode cX12_reachE 151 = .ok (.iload_n 3, 1) := by decide +kernel
theorem dX12_reachE_152 : decode cX12_reachE 152 = .ok (.iload 4, 2) := by decide +kernel
theorem dX12_reachE_154 : decode cX12_reachE 154 = .ok (.iconst 0, 1) := by decide +kernel
theorem dX12_reachE_155 : decode cX12_reachE 155 = .ok (.invokevirtual 542, 3) := by decide +kernel
theorem dX12_reachE_158 : decode cX12_reachE 158 = .ok (.pop, 1) := by decide +kernel
theorem dX12_reachE_159 : decode cX12_reachE 159 = .ok (.iconst 1, 1) := by decide +kernel
theorem dX12_reachE_160 : decode cX12_reachE 160 = .ok (.ireturn, 1) := by decide +kernel
theorem dX12_reachE_161 : decode cX12_reachE 161 = .ok (.iload_n 1, 1) := by decide +kernel
theorem dX12_reachE_162 : decode cX12_reachE 162 = .ok (.bipush 30, 2) := by decide +kernel
theorem dX12_reachE_164 : decode cX12_reachE 164 = .ok (.if_icmp .ne 46, 3) := by decide +kernel
theorem dX12_reachE_167 : decode cX12_reachE 167 = .ok (.aload_n 0, 1) := by decide +kernel
theorem dX12_reachE_168 : decode cX12_reachE 168 = .ok (.bipush 31, 2) := by decide +kernel
theorem dX12_reachE_170 : decode cX12_reachE 170 = .ok (.iload_n 2, 1) := by decide +kernel
theorem dX12_reachE_171 : decode cX12_reachE 171 = .ok (.iconst 0, 1) := by decide +kernel
theorem dX12_reachE_172 : decode cX12_reachE 172 = .ok (.aload_n 0, 1) := by decide +kernel
theorem dX12_reachE_173 : decode cX12_reachE 173 = .ok (.getfield 124, 3) := by decide +kernel
theorem dX12_reachE_176 : decode cX12_reachE 176 = .ok (.invokevirtual 534, 3) := by decide +kernel
theorem dX12_reachE_179 : decode cX12_reachE 179 = .ok (.iload_n 2, 1) := by decide +kernel
theorem dX12_reachE_180 : decode cX12_reachE 180 = .ok (.bipush 7, 2) := by decide +kernel
theorem dX12_reachE_182 : decode cX12_reachE 182 = .ok (.if_icmp .ge 17, 3) := by decide +kernel
theorem dX12_reachE_185 : decode cX12_reachE 185 = .ok (.aload_n 0, 1) := by decide +kernel
theorem dX12_reachE_186 : decode cX12_reachE 186 = .ok (.bipush 30, 2) := by decide +kernel
theorem dX12_reachE_188 : decode cX12_reachE 188 = .ok (.iload_n 2, 1) := by decide +kernel
theorem dX12_reachE_189 : decode cX12_reachE 189 = .ok (.iconst 1, 1) := by decide +kernel
theorem dX12_reachE_190 : decode cX12_reachE 190 = .ok (.iadd, 1) := by decide +kernel
theorem dX12_reachE_191 : decode cX12_reachE 191 = .ok (.iconst 0, 1) := by decide +kernel
theorem dX12_reachE_192 : decode cX12_reachE 192 = .ok (.iconst 0, 1) := by decide +kernel
theorem dX12_reachE_193 : decode cX12_reachE 193 = .ok (.invokevirtual 534, 3) := by decide +kernel
theorem dX12_reachE_196 : decode cX12_reachE 196 = .ok (.goto 12, 3) := by decide +kernel
theorem dX12_reachE_199 : decode cX12_reachE 199 = .ok (.aload_n 0, 1) := by decide +kernel
theorem dX12_reachE_200 : decode cX12_reachE 200 = .ok (.bipush 33, 2) := by decide +kernel
theorem dX12_reachE_202 : decode cX12_reachE 202 = .ok (.iconst 0, 1) := by decide +kernel
theorem dX12_reachE_203 : decode cX12_reachE 203 = .ok (.iconst 0, 1) := by decide +kernel
theorem dX12_reachE_204 : decode cX12_reachE 204 = .ok (.iconst 0, 1) := by decide +kernel
theorem dX12_reachE_205 : decode cX12_reachE 205 = .ok (.invokevirtual 534, 3) := by decide +kernel
theorem dX12_reachE_208 : decode cX12_reachE 208 = .ok (.iconst 1, 1) := by decide +kernel
theorem dX12_reachE_209 : decode cX12_reachE 209 = .ok (.ireturn, 1) := by decide +kernel
theorem dX12_reachE_210 : decode cX12_reachE 210 = .ok (.iload_n 1, 1) := by decide +kernel
theorem dX12_reachE_211 : decode cX12_reachE 211 = .ok (.bipush 31, 2) := by decide +kernel
theorem dX12_reachE_213 : decode cX12_reachE 213 = .ok (.if_icmp .ne 76, 3) := by decide +kernel
theorem dX12_reachE_216 : decode cX12_reachE 216 = .ok (.iload 5, 2) := by decide +kernel
theorem dX12_reachE_218 : decode cX12_reachE 218 = .ok (.invokestatic 589, 3) := by decide +kernel
theorem dX12_reachE_221 : decode cX12_reachE 221 = .ok (.iload_n 2, 1) := by decide +kernel
theorem dX12_reachE_222 : decode cX12_reachE 222 = .ok (.if_icmp .eq 5, 3) := by decide +kernel
theorem dX12_reachE_225 : decode cX12_reachE 225 = .ok (.iconst 1, 1) := by decide +kernel
theorem dX12_reachE_226 : decode cX12_reachE 226 = .ok (.ireturn, 1) := by decide +kernel
theorem dX12_reachE_227 : decode cX12_reachE 227 = .ok (.aload_n 0, 1) := by decide +kernel
theorem dX12_reachE_228 : decode cX12_reachE 228 = .ok (.dup, 1) := by decide +kernel
theorem dX12_reachE_229 : decode cX12_reachE 229 = .ok (.getfield 142, 3) := by decide +kernel
theorem dX12_reachE_232 : decode cX12_reachE 232 = .ok (.iconst 1, 1) := by decide +kernel
theorem dX12_reachE_233 : decode cX12_reachE 233 = .ok (.iadd, 1) := by decide +kernel
theorem dX12_reachE_234 : decode cX12_reachE 234 = .ok (.putfield 142, 3) := by decide +kernel
theorem dX12_reachE_237 : decode cX12_reachE 237 = .ok (.aload_n 0, 1) := by decide +kernel
theorem dX12_reachE_238 : decode cX12_reachE 238 = .ok (.bipush 31, 2) := by decide +kernel
theorem dX12_reachE_240 : decode cX12_reachE 240 = .ok (.iload_n 2, 1) := by decide +kernel
theorem dX12_reachE_241 : decode cX12_reachE 241 = .ok (.iconst 0, 1) := by decide +kernel
theorem dX12_reachE_242 : decode cX12_reachE 242 = .ok (.iload 4, 2) := by decide +kernel
theorem dX12_reachE_244 : decode cX12_reachE 244 = .ok (.invokevirtual 534, 3) := by decide +kernel
theorem dX12_reachE_247 : decode cX12_reachE 247 = .ok (.aload_n 0, 1) := by decide +kernel
theorem dX12_reachE_248 : decode cX12_reachE 248 = .ok (.bipush 32, 2) := by decide +kernel
theorem dX12_reachE_250 : decode cX12_reachE 250 = .ok (.iload_n 2, 1) := by decide +kernel
theorem dX12_reachE_251 : decode cX12_reachE 251 = .ok (.iload 6, 2) := by decide +kernel
theorem dX12_reachE_253 : decode cX12_reachE 253 = .ok (.iload 4, 2) := by decide +kernel
theorem dX12_reachE_255 : decode cX12_reachE 255 = .ok (.invokevirtual 534, 3) := by decide +kernel
theorem dX12_reachE_258 : decode cX12_reachE 258 = .ok (.iload_n 2, 1) := by decide +kernel
theorem dX12_reachE_259 : decode cX12_reachE 259 = .ok (.bipush 7, 2) := by decide +kernel
theorem dX12_reachE_261 : decode cX12_reachE 261 = .ok (.if_icmp .ge 17, 3) := by decide +kernel
theorem dX12_reachE_264 : decode cX12_reachE 264 = .ok (.aload_n 0, 1) := by decide +kernel
theorem dX12_reachE_265 : decode cX12_reachE 265 = .ok (.bipush 30, 2) := by decide +kernel
theorem dX12_reachE_267 : decode cX12_reachE 267 = .ok (.iload_n 2, 1) := by decide +kernel
theorem dX12_reachE_268 : decode cX12_reachE 268 = .ok (.iconst 1, 1) := by decide +kernel
theorem dX12_reachE_269 : decode cX12_reachE 269 = .ok (.iadd, 1) := by decide +kernel
theorem dX12_reachE_270 : decode cX12_reachE 270 = .ok (.iconst 0, 1) := by decide +kernel
theorem dX12_reachE_271 : decode cX12_reachE 271 = .ok (.iconst 0, 1) := by decide +kernel
theorem dX12_reachE_272 : decode cX12_reachE 272 = .ok (.invokevirtual 534, 3) := by decide +kernel
theorem dX12_reachE_275 : decode cX12_reachE 275 = .ok (.goto 12, 3) := by decide +kernel
theorem dX12_reachE_278 : decode cX12_reachE 278 = .ok (.aload_n 0, 1) := by decide +kernel
theorem dX12_reachE_279 : decode cX12_reachE 279 = .ok (.bipush 33, 2) := by decide +kernel
theorem dX12_reachE_281 : decode cX12_reachE 281 = .ok (.iconst 0, 1) := by decide +kernel
theorem dX12_reachE_282 : decode cX12_reachE 282 = .ok (.iconst 0, 1) := by decide +kernel
theorem dX12_reachE_283 : decode cX12_reachE 283 = .ok (.iconst 0, 1) := by decide +kernel
theorem dX12_reachE_284 : decode cX12_reachE 284 = .ok (.invokevirtual 534, 3) := by decide +kernel
theorem dX12_reachE_287 : decode cX12_reachE 287 = .ok (.iconst 1, 1) := by decide +kernel
theorem dX12_reachE_288 : decode cX12_reachE 288 = .ok (.ireturn, 1) := by decide +kernel
theorem dX12_reachE_289 : decode cX12_reachE 289 = .ok (.iload_n 1, 1) := by decide +kernel
theorem dX12_reachE_290 : decode cX12_reachE 290 = .ok (.bipush 32, 2) := by decide +kernel
theorem dX12_reachE_292 : decode cX12_reachE 292 = .ok (.if_icmp .ne 13, 3) := by decide +kernel
theorem dX12_reachE_295 : decode cX12_reachE 295 = .ok (.aload_n 0, 1) := by decide +kernel
theorem dX12_reachE_296 : decode cX12_reachE 296 = .ok (.iload_n 2, 1) := by decide +kernel
theorem dX12_reachE_297 : decode cX12_reachE 297 = .ok (.iload_n 3, 1) := by decide +kernel
theorem dX12_reachE_298 : decode cX12_reachE 298 = .ok (.iload 4, 2) := by decide +kernel
theorem dX12_reachE_300 : decode cX12_reachE 300 = .ok (.invokevirtual 592, 3) := by decide +kernel
theorem dX12_reachE_303 : decode cX12_reachE 303 = .ok (.iconst 1, 1) := by decide +kernel
theorem dX12_reachE_304 : decode cX12_reachE 304 = .ok (.ireturn, 1) := by decide +kernel
theorem dX12_reachE_305 : decode cX12_reachE 305 = .ok (.iload_n 1, 1) := by decide +kernel
theorem dX12_reachE_306 : decode cX12_reachE 306 = .ok (.bipush 33, 2) := by decide +kernel
theorem dX12_reachE_308 : decode cX12_reachE 308 = .ok (.if_icmp .ne 94, 3) := by decide +kernel
theorem dX12_reachE_311 : decode cX12_reachE 311 = .ok (.iload 5, 2) := by decide +kernel
theorem dX12_reachE_313 : decode cX12_reachE 313 = .ok (.bipush 21, 2) := by decide +kernel
theorem dX12_reachE_315 : decode cX12_reachE 315 = .ok (.if_icmp .eq 28, 3) := by decide +kernel
theorem dX12_reachE_318 : decode cX12_reachE 318 = .ok (.iload 5, 2) := by decide +kernel
theorem dX12_reachE_320 : decode cX12_reachE 320 = .ok (.bipush 22, 2) := by decide +kernel
theorem dX12_reachE_322 : decode cX12_reachE 322 = .ok (.if_icmp .eq 21, 3) := by decide +kernel
theorem dX12_reachE_325 : decode cX12_reachE 325 = .ok (.iload 5, 2) := by decide +kernel
theorem dX12_reachE_327 : decode cX12_reachE 327 = .ok (.bipush 33, 2) := by decide +kernel
theorem dX12_reachE_329 : decode cX12_reachE 329 = .ok (.if_icmp .eq 14, 3) := by decide +kernel
theorem dX12_reachE_332 : decode cX12_reachE 332 = .ok (.aload_n 0, 1) := by decide +kernel
theorem dX12_reachE_333 : decode cX12_reachE 333 = .ok (.bipush 34, 2) := by decide +kernel
theorem dX12_reachE_335 : decode cX12_reachE 335 = .ok (.iconst 0, 1) := by decide +kernel
theorem dX12_reachE_336 : decode cX12_reachE 336 = .ok (.iconst 0, 1) := by decide +kernel
theorem dX12_reachE_337 : decode cX12_reachE 337 = .ok (.iconst 0, 1) := by decide +kernel
theorem dX12_reachE_338 : decode cX12_reachE 338 = .ok (.invokevirtual 534, 3) := by decide +kernel
theorem dX12_reachE_341 : decode cX12_reachE 341 = .ok (.iconst 1, 1) := by decide +kernel
theorem dX12_reachE_342 : decode cX12_reachE 342 = .ok (.ireturn, 1) := by decide +kernel
theorem dX12_reachE_343 : decode cX12_reachE 343 = .ok (.aload_n 0, 1) := by decide +kernel
theorem dX12_reachE_344 : decode cX12_reachE 344 = .ok (.getfield 145, 3) := by decide +kernel
theorem dX12_reachE_347 : decode cX12_reachE 347 = .ok (.istore 7, 2) := by decide +kernel
theorem dX12_reachE_349 : decode cX12_reachE 349 = .ok (.aload_n 0, 1) := by decide +kernel
theorem dX12_reachE_350 : decode cX12_reachE 350 = .ok (.invokevirtual 530, 3) := by decide +kernel
theorem dX12_reachE_353 : decode cX12_reachE 353 = .ok (.ifCond .ne 5, 3) := by decide +kernel
theorem dX12_reachE_356 : decode cX12_reachE 356 = .ok (.iconst 0, 1) := by decide +kernel
theorem dX12_reachE_357 : decode cX12_reachE 357 = .ok (.ireturn, 1) := by decide +kernel
theorem dX12_reachE_358 : decode cX12_reachE 358 = .ok (.aload_n 0, 1) := by decide +kernel
theorem dX12_reachE_359 : decode cX12_reachE 359 = .ok (.dup, 1) := by decide +kernel
theorem dX12_reachE_360 : decode cX12_reachE 360 = .ok (.getfield 142, 3) := by decide +kernel
theorem dX12_reachE_363 : decode cX12_reachE 363 = .ok (.iconst 1, 1) := by decide +kernel
theorem dX12_reachE_364 : decode cX12_reachE 364 = .ok (.iadd, 1) := by decide +kernel
theorem dX12_reachE_365 : decode cX12_reachE 365 = .ok (.putfield 142, 3) := by decide +kernel
theorem dX12_reachE_368 : decode cX12_reachE 368 = .ok (.aload_n 0, 1) := by decide +kernel
theorem dX12_reachE_369 : decode cX12_reachE 369 = .ok (.bipush 15, 2) := by decide +kernel
theorem dX12_reachE_371 : decode cX12_reachE 371 = .ok (.iload 7, 2) := by decide +kernel
theorem dX12_reachE_373 : decode cX12_reachE 373 = .ok (.iconst 0, 1) := by decide +kernel
theorem dX12_reachE_374 : decode cX12_reachE 374 = .ok (.iconst 0, 1) := by decide +kernel
theorem dX12_reachE_375 : decode cX12_reachE 375 = .ok (.invokevirtual 534, 3) := by decide +kernel
theorem dX12_reachE_378 : decode cX12_reachE 378 = .ok (.aload_n 0, 1) := by decide +kernel
theorem dX12_reachE_379 : decode cX12_reachE 379 = .ok (.bipush 37, 2) := by decide +kernel
theorem dX12_reachE_381 : decode cX12_reachE 381 = .ok (.iconst 1, 1) := by decide +kernel
theorem dX12_reachE_382 : decode cX12_reachE 382 = .ok (.iload 6, 2) := by decide +kernel
theorem dX12_reachE_384 : decode cX12_reachE 384 = .ok (.aload_n 0, 1) := by decide +kernel
theorem dX12_reachE_385 : decode cX12_reachE 385 = .ok (.getfield 124, 3) := by decide +kernel
theorem dX12_reachE_388 : decode cX12_reachE 388 = .ok (.invokevirtual 534, 3) := by decide +kernel
theorem dX12_reachE_391 : decode cX12_reachE 391 = .ok (.aload_n 0, 1) := by decide +kernel
theorem dX12_reachE_392 : decode cX12_reachE 392 = .ok (.bipush 33, 2) := by decide +kernel
theorem dX12_reachE_394 : decode cX12_reachE 394 = .ok (.iconst 0, 1) := by decide +kernel
theorem dX12_reachE_395 : decode cX12_reachE 395 = .ok (.iconst 0, 1) := by decide +kernel
theorem dX12_reachE_396 : decode cX12_reachE 396 = .ok (.iconst 0, 1) := by decide +kernel
theorem dX12_reachE_397 : decode cX12_reachE 397 = .ok (.invokevirtual 534, 3) := by decide +kernel
theorem dX12_reachE_400 : decode cX12_reachE 400 = .ok (.iconst 1, 1) := by decide +kernel
theorem dX12_reachE_401 : decode cX12_reachE 401 = .ok (.ireturn, 1) := by decide +kernel
theorem dX12_reachE_402 : decode cX12_reachE 402 = .ok (.iload_n 1, 1) := by decide +kernel
theorem dX12_reachE_403 : decode cX12_reachE 403 = .ok (.bipush 34, 2) := by decide +kernel
theorem dX12_reachE_405 : decode cX12_reachE 405 = .ok (.if_icmp .ne 142, 3) := by decide +kernel
theorem dX12_reachE_408 : decode cX12_reachE 408 = .ok (.aload_n 0, 1) := by decide +kernel
theorem dX12_reachE_409 : decode cX12_reachE 409 = .ok (.bipush 15, 2) := by decide +kernel
theorem dX12_reachE_411 : decode cX12_reachE 411 = .ok (.aload_n 0, 1) := by decide +kernel
theorem dX12_reachE_412 : decode cX12_reachE 412 = .ok (.getfield 145, 3) := by decide +kernel
theorem dX12_reachE_415 : decode cX12_reachE 415 = .ok (.iconst 0, 1) := by decide +kernel
theorem dX12_reachE_416 : decode cX12_reachE 416 = .ok (.iconst 0, 1) := by decide +kernel
theorem dX12_reachE_417 : decode cX12_reachE 417 = .ok (.invokevirtual 534, 3) := by decide +kernel
theorem dX12_reachE_420 : decode cX12_reachE 420 = .ok (.iload 5, 2) := by decide +kernel
theorem dX12_reachE_422 : decode cX12_reachE 422 = .ok (.bipush 18, 2) := by decide +kernel
theorem dX12_reachE_424 : decode cX12_reachE 424 = .ok (.if_icmp .eq 10, 3) := by decide +kernel
theorem dX12_reachE_427 : decode cX12_reachE 427 = .ok (.iload 5, 2) := by decide +kernel
theorem dX12_reachE_429 : decode cX12_reachE 429 = .ok (.bipush 20, 2) := by decide +kernel
theorem dX12_reachE_431 : decode cX12_reachE 431 = .ok (.if_icmp .ne 81, 3) := by decide +kernel
theorem dX12_reachE_434 : decode cX12_reachE 434 = .ok (.aload_n 0, 1) := by decide +kernel
theorem dX12_reachE_435 : decode cX12_reachE 435 = .ok (.bipush 6, 2) := by decide +kernel
theorem dX12_reachE_437 : decode cX12_reachE 437 = .ok (.iload 5, 2) := by decide +kernel
theorem dX12_reachE_439 : decode cX12_reachE 439 = .ok (.bipush 18, 2) := by decide +kernel
theorem dX12_reachE_441 : decode cX12_reachE 441 = .ok (.if_icmp .ne 8, 3) := by decide +kernel
theorem dX12_reachE_444 : decode cX12_reachE 444 = .ok (.bipush 7, 2) := by decide +kernel
theorem dX12_reachE_446 : decode cX12_reachE 446 = .ok (.goto 5, 3) := by decide +kernel
theorem dX12_reachE_449 : decode cX12_reachE 449 = .ok (.bipush 8, 2) := by decide +kernel
theorem dX12_reachE_451 : decode cX12_reachE 451 = .ok (.iload 6, 2) := by decide +kernel
theorem dX12_reachE_453 : decode cX12_reachE 453 = .ok (.aload_n 0, 1) := by decide +kernel
theorem dX12_reachE_454 : decode cX12_reachE 454 = .ok (.getfield 124, 3) := by decide +kernel
theorem dX12_reachE_457 : decode cX12_reachE 457 = .ok (.invokevirtual 534, 3) := by decide +kernel
theorem dX12_reachE_460 : decode cX12_reachE 460 = .ok (.aload_n 0, 1) := by decide +kernel
theorem dX12_reachE_461 : decode cX12_reachE 461 = .ok (.bipush 34, 2) := by decide +kernel
theorem dX12_reachE_463 : decode cX12_reachE 463 = .ok (.iconst 0, 1) := by decide +kernel
theorem dX12_reachE_464 : decode cX12_reachE 464 = .ok (.iconst 0, 1) := by decide +kernel
theorem dX12_reachE_465 : decode cX12_reachE 465 = .ok (.iconst 0, 1) := by decide +kernel
theorem dX12_reachE_466 : decode cX12_reachE 466 = .ok (.invokevirtual 534, 3) := by decide +kernel
theorem dX12_reachE_469 : decode cX12_reachE 469 = .ok (.aload_n 0, 1) := by decide +kernel
theorem dX12_reachE_470 : decode cX12_reachE 470 = .ok (.dup, 1) := by decide +kernel
theorem dX12_reachE_471 : decode cX12_reachE 471 = .ok (.getfield 142, 3) := by decide +kernel
theorem dX12_reachE_474 : decode cX12_reachE 474 = .ok (.iconst 1, 1) := by decide +kernel
theorem dX12_reachE_475 : decode cX12_reachE 475 = .ok (.iadd, 1) := by decide +kernel
theorem dX12_reachE_476 : decode cX12_reachE 476 = .ok (.putfield 142, 3) := by decide +kernel
theorem dX12_reachE_479 : decode cX12_reachE 479 = .ok (.aload_n 0, 1) := by decide +kernel
theorem dX12_reachE_480 : decode cX12_reachE 480 = .ok (.getfield 145, 3) := by decide +kernel
theorem dX12_reachE_483 : decode cX12_reachE 483 = .ok (.bipush 60, 2) := by decide +kernel
theorem dX12_reachE_485 : decode cX12_reachE 485 = .ok (.if_icmp .ge 15, 3) := by decide +kernel
theorem dX12_reachE_488 : decode cX12_reachE 488 = .ok (.aload_n 0, 1) := by decide +kernel
theorem dX12_reachE_489 : decode cX12_reachE 489 = .ok (.dup, 1) := by decide +kernel
theorem dX12_reachE_490 : decode cX12_reachE 490 = .ok (.getfield 145, 3) := by decide +kernel
theorem dX12_reachE_493 : decode cX12_reachE 493 = .ok (.iconst 1, 1) := by decide +kernel
theorem dX12_reachE_494 : decode cX12_reachE 494 = .ok (.iadd, 1) := by decide +kernel
theorem dX12_reachE_495 : decode cX12_reachE 495 = .ok (.putfield 145, 3) := by decide +kernel
theorem dX12_reachE_498 : decode cX12_reachE 498 = .ok (.iconst 1, 1) := by decide +kernel
theorem dX12_reachE_499 : decode cX12_reachE 499 = .ok (.ireturn, 1) := by decide +kernel
theorem dX12_reachE_500 : decode cX12_reachE 500 = .ok (.aload_n 0, 1) := by decide +kernel
theorem dX12_reachE_501 : decode cX12_reachE 501 = .ok (.dup, 1) := by decide +kernel
theorem dX12_reachE_502 : decode cX12_reachE 502 = .ok (.getfield 142, 3) := by decide +kernel
theorem dX12_reachE_505 : decode cX12_reachE 505 = .ok (.iconst 1, 1) := by decide +kernel
theorem dX12_reachE_506 : decode cX12_reachE 506 = .ok (.isub, 1) := by decide +kernel
theorem dX12_reachE_507 : decode cX12_reachE 507 = .ok (.putfield 142, 3) := by decide +kernel
theorem dX12_reachE_510 : decode cX12_reachE 510 = .ok (.iconst 0, 1) := by decide +kernel
theorem dX12_reachE_511 : decode cX12_reachE 511 = .ok (.ireturn, 1) := by decide +kernel
theorem dX12_reachE_512 : decode cX12_reachE 512 = .ok (.aload_n 0, 1) := by decide +kernel
theorem dX12_reachE_513 : decode cX12_reachE 513 = .ok (.bipush 35, 2) := by decide +kernel
theorem dX12_reachE_515 : decode cX12_reachE 515 = .ok (.iconst 0, 1) := by decide +kernel
theorem dX12_reachE_516 : decode cX12_reachE 516 = .ok (.iconst 0, 1) := by decide +kernel
theorem dX12_reachE_517 : decode cX12_reachE 517 = .ok (.aload_n 0, 1) := by decide +kernel
theorem dX12_reachE_518 : decode cX12_reachE 518 = .ok (.getfield 124, 3) := by decide +kernel
theorem dX12_reachE_521 : decode cX12_reachE 521 = .ok (.invokevirtual 534, 3) := by decide +kernel
theorem dX12_reachE_524 : decode cX12_reachE 524 = .ok (.aload_n 0, 1) := by decide +kernel
theorem dX12_reachE_525 : decode cX12_reachE 525 = .ok (.bipush 37, 2) := by decide +kernel
theorem dX12_reachE_527 : decode cX12_reachE 527 = .ok (.iconst 0, 1) := by decide +kernel
theorem dX12_reachE_528 : decode cX12_reachE 528 = .ok (.iconst 0, 1) := by decide +kernel
theorem dX12_reachE_529 : decode cX12_reachE 529 = .ok (.aload_n 0, 1) := by decide +kernel
theorem dX12_reachE_530 : decode cX12_reachE 530 = .ok (.getfield 124, 3) := by decide +kernel
theorem dX12_reachE_533 : decode cX12_reachE 533 = .ok (.invokevirtual 534, 3) := by decide +kernel
theorem dX12_reachE_536 : decode cX12_reachE 536 = .ok (.aload_n 0, 1) := by decide +kernel
theorem dX12_reachE_537 : decode cX12_reachE 537 = .ok (.bipush 39, 2) := by decide +kernel
theorem dX12_reachE_539 : decode cX12_reachE 539 = .ok (.iconst 0, 1) := by decide +kernel
theorem dX12_reachE_540 : decode cX12_reachE 540 = .ok (.iconst 0, 1) := by decide +kernel
theorem dX12_reachE_541 : decode cX12_reachE 541 = .ok (.iconst 0, 1) := by decide +kernel
theorem dX12_reachE_542 : decode cX12_reachE 542 = .ok (.invokevirtual 534, 3) := by decide +kernel
theorem dX12_reachE_545 : decode cX12_reachE 545 = .ok (.iconst 1, 1) := by decide +kernel
theorem dX12_reachE_546 : decode cX12_reachE 546 = .ok (.ireturn, 1) := by decide +kernel
theorem dX12_reachE_547 : decode cX12_reachE 547 = .ok (.iload_n 1, 1) := by decide +kernel
theorem dX12_reachE_548 : decode cX12_reachE 548 = .ok (.bipush 35, 2) := by decide +kernel
theorem dX12_reachE_550 : decode cX12_reachE 550 = .ok (.if_icmp .ne 71, 3) := by decide +kernel
theorem dX12_reachE_553 : decode cX12_reachE 553 = .ok (.iload 5, 2) := by decide +kernel
theorem dX12_reachE_555 : decode cX12_reachE 555 = .ok (.bipush 18, 2) := by decide +kernel
theorem dX12_reachE_557 : decode cX12_reachE 557 = .ok (.if_icmp .eq 12, 3) := by decide +kernel
theorem dX12_reachE_560 : decode cX12_reachE 560 = .ok (.iload 5, 2) := by decide +kernel
theorem dX12_reachE_562 : decode cX12_reachE 562 = .ok (.bipush 19, 2) := by decide +kernel
theorem dX12_reachE_564 : decode cX12_reachE 564 = .ok (.if_icmp .eq 5, 3) := by decide +kernel
theorem dX12_reachE_567 : decode cX12_reachE 567 = .ok (.iconst 1, 1) := by decide +kernel
theorem dX12_reachE_568 : decode cX12_reachE 568 = .ok (.ireturn, 1) := by decide +kernel
theorem dX12_reachE_569 : decode cX12_reachE 569 = .ok (.aload_n 0, 1) := by decide +kernel
theorem dX12_reachE_570 : decode cX12_reachE 570 = .ok (.invokevirtual 530, 3) := by decide +kernel
theorem dX12_reachE_573 : decode cX12_reachE 573 = .ok (.ifCond .ne 5, 3) := by decide +kernel
theorem dX12_reachE_576 : decode cX12_reachE 576 = .ok (.iconst 0, 1) := by decide +kernel
theorem dX12_reachE_577 : decode cX12_reachE 577 = .ok (.ireturn, 1) := by decide +kernel
theorem dX12_reachE_578 : decode cX12_reachE 578 = .ok (.aload_n 0, 1) := by decide +kernel
theorem dX12_reachE_579 : decode cX12_reachE 579 = .ok (.dup, 1) := by decide +kernel
theorem dX12_reachE_580 : decode cX12_reachE 580 = .ok (.getfield 142, 3) := by decide +kernel
theorem dX12_reachE_583 : decode cX12_reachE 583 = .ok (.iconst 1, 1) := by decide +kernel
theorem dX12_reachE_584 : decode cX12_reachE 584 = .ok (.iadd, 1) := by decide +kernel
theorem dX12_reachE_585 : decode cX12_reachE 585 = .ok (.putfield 142, 3) := by decide +kernel
theorem dX12_reachE_588 : decode cX12_reachE 588 = .ok (.aload_n 0, 1) := by decide +kernel
theorem dX12_reachE_589 : decode cX12_reachE 589 = .ok (.bipush 35, 2) := by decide +kernel
theorem dX12_reachE_591 : decode cX12_reachE 591 = .ok (.iconst 0, 1) := by decide +kernel
theorem dX12_reachE_592 : decode cX12_reachE 592 = .ok (.iconst 0, 1) := by decide +kernel
theorem dX12_reachE_593 : decode cX12_reachE 593 = .ok (.iload 4, 2) := by decide +kernel
theorem dX12_reachE_595 : decode cX12_reachE 595 = .ok (.invokevirtual 534, 3) := by decide +kernel
theorem dX12_reachE_598 : decode cX12_reachE 598 = .ok (.aload_n 0, 1) := by decide +kernel
theorem dX12_reachE_599 : decode cX12_reachE 599 = .ok (.bipush 32, 2) := by decide +kernel
theorem dX12_reachE_601 : decode cX12_reachE 601 = .ok (.bipush 8, 2) := by decide +kernel
theorem dX12_reachE_603 : decode cX12_reachE 603 = .ok (.iload 6, 2) := by decide +kernel
theorem dX12_reachE_605 : decode cX12_reachE 605 = .ok (.iload 4, 2) := by decide +kernel
theorem dX12_reachE_607 : decode cX12_reachE 607 = .ok (.invokevirtual 534, 3) := by decide +kernel
theorem dX12_reachE_610 : decode cX12_reachE 610 = .ok (.aload_n 0, 1) := by decide +kernel
theorem dX12_reachE_611 : decode cX12_reachE 611 = .ok (.bipush 36, 2) := by decide +kernel
theorem dX12_reachE_613 : decode cX12_reachE 613 = .ok (.iconst 0, 1) := by decide +kernel
theorem dX12_reachE_614 : decode cX12_reachE 614 = .ok (.iconst 0, 1) := by decide +kernel
theorem dX12_reachE_615 : decode cX12_reachE 615 = .ok (.iconst 0, 1) := by decide +kernel
theorem dX12_reachE_616 : decode cX12_reachE 616 = .ok (.invokevirtual 534, 3) := by decide +kernel
theorem dX12_reachE_619 : decode cX12_reachE 619 = .ok (.iconst 1, 1) := by decide +kernel
theorem dX12_reachE_620 : decode cX12_reachE 620 = .ok (.ireturn, 1) := by decide +kernel
theorem dX12_reachE_621 : decode cX12_reachE 621 = .ok (.iload_n 1, 1) := by decide +kernel
theorem dX12_reachE_622 : decode cX12_reachE 622 = .ok (.bipush 36, 2) := by decide +kernel
theorem dX12_reachE_624 : decode cX12_reachE 624 = .ok (.if_icmp .ne 96, 3) := by decide +kernel
theorem dX12_reachE_627 : decode cX12_reachE 627 = .ok (.iload 5, 2) := by decide +kernel
theorem dX12_reachE_629 : decode cX12_reachE 629 = .ok (.bipush 18, 2) := by decide +kernel
theorem dX12_reachE_631 : decode cX12_reachE 631 = .ok (.if_icmp .eq 10, 3) := by decide +kernel
theorem dX12_reachE_634 : decode cX12_reachE 634 = .ok (.iload 5, 2) := by decide +kernel
theorem dX12_reachE_636 : decode cX12_reachE 636 = .ok (.bipush 20, 2) := by decide +kernel
theorem dX12_reachE_638 : decode cX12_reachE 638 = .ok (.if_icmp .ne 59, 3) := by decide +kernel
theorem dX12_reachE_641 : decode cX12_reachE 641 = .ok (.aload_n 0, 1) := by decide +kernel
theorem dX12_reachE_642 : decode cX12_reachE 642 = .ok (.invokevirtual 530, 3) := by decide +kernel
theorem dX12_reachE_645 : decode cX12_reachE 645 = .ok (.ifCond .ne 5, 3) := by decide +kernel
theorem dX12_reachE_648 : decode cX12_reachE 648 = .ok (.iconst 0, 1) := by decide +kernel
theorem dX12_reachE_649 : decode cX12_reachE 649 = .ok (.ireturn, 1) := by decide +kernel
theorem dX12_reachE_650 : decode cX12_reachE 650 = .ok (.aload_n 0, 1) := by decide +kernel
theorem dX12_reachE_651 : decode cX12_reachE 651 = .ok (.dup, 1) := by decide +kernel
theorem dX12_reachE_652 : decode cX12_reachE 652 = .ok (.getfield 142, 3) := by decide +kernel
theorem dX12_reachE_655 : decode cX12_reachE 655 = .ok (.iconst 1, 1) := by decide +kernel
theorem dX12_reachE_656 : decode cX12_reachE 656 = .ok (.iadd, 1) := by decide +kernel
theorem dX12_reachE_657 : decode cX12_reachE 657 = .ok (.putfield 142, 3) := by decide +kernel
theorem dX12_reachE_660 : decode cX12_reachE 660 = .ok (.aload_n 0, 1) := by decide +kernel
theorem dX12_reachE_661 : decode cX12_reachE 661 = .ok (.bipush 6, 2) := by decide +kernel
theorem dX12_reachE_663 : decode cX12_reachE 663 = .ok (.iload 5, 2) := by decide +kernel
theorem dX12_reachE_665 : decode cX12_reachE 665 = .ok (.bipush 18, 2) := by decide +kernel
theorem dX12_reachE_667 : decode cX12_reachE 667 = .ok (.if_icmp .ne 8, 3) := by decide +kernel
theorem dX12_reachE_670 : decode cX12_reachE 670 = .ok (.bipush 7, 2) := by decide +kernel
theorem dX12_reachE_672 : decode cX12_reachE 672 = .ok (.goto 5, 3) := by decide +kernel
theorem dX12_reachE_675 : decode cX12_reachE 675 = .ok (.bipush 8, 2) := by decide +kernel
theorem dX12_reachE_677 : decode cX12_reachE 677 = .ok (.iload 6, 2) := by decide +kernel
theorem dX12_reachE_679 : decode cX12_reachE 679 = .ok (.aload_n 0, 1) := by decide +kernel
theorem dX12_reachE_680 : decode cX12_reachE 680 = .ok (.getfield 124, 3) := by decide +kernel
theorem dX12_reachE_683 : decode cX12_reachE 683 = .ok (.invokevirtual 534, 3) := by decide +kernel
theorem dX12_reachE_686 : decode cX12_reachE 686 = .ok (.aload_n 0, 1) := by decide +kernel
theorem dX12_reachE_687 : decode cX12_reachE 687 = .ok (.bipush 36, 2) := by decide +kernel
theorem dX12_reachE_689 : decode cX12_reachE 689 = .ok (.iconst 0, 1) := by decide +kernel
theorem dX12_reachE_690 : decode cX12_reachE 690 = .ok (.iconst 0, 1) := by decide +kernel
theorem dX12_reachE_691 : decode cX12_reachE 691 = .ok (.iconst 0, 1) := by decide +kernel
theorem dX12_reachE_692 : decode cX12_reachE 692 = .ok (.invokevirtual 534, 3) := by decide +kernel
theorem dX12_reachE_695 : decode cX12_reachE 695 = .ok (.iconst 1, 1) := by decide +kernel
theorem dX12_reachE_696 : decode cX12_reachE 696 = .ok (.ireturn, 1) := by decide +kernel
theorem dX12_reachE_697 : decode cX12_reachE 697 = .ok (.aload_n 0, 1) := by decide +kernel
theorem dX12_reachE_698 : decode cX12_reachE 698 = .ok (.bipush 37, 2) := by decide +kernel
theorem dX12_reachE_700 : decode cX12_reachE 700 = .ok (.iconst 0, 1) := by decide +kernel
theorem dX12_reachE_701 : decode cX12_reachE 701 = .ok (.iconst 0, 1) := by decide +kernel
theorem dX12_reachE_702 : decode cX12_reachE 702 = .ok (.aload_n 0, 1) := by decide +kernel
theorem dX12_reachE_703 : decode cX12_reachE 703 = .ok (.getfield 124, 3) := by decide +kernel
theorem dX12_reachE_706 : decode cX12_reachE 706 = .ok (.invokevirtual 534, 3) := by decide +kernel
theorem dX12_reachE_709 : decode cX12_reachE 709 = .ok (.aload_n 0, 1) := by decide +kernel
theorem dX12_reachE_710 : decode cX12_reachE 710 = .ok (.bipush 39, 2) := by decide +kernel
theorem dX12_reachE_712 : decode cX12_reachE 712 = .ok (.iconst 0, 1) := by decide +kernel
theorem dX12_reachE_713 : decode cX12_reachE 713 = .ok (.iconst 0, 1) := by decide +kernel
theorem dX12_reachE_714 : decode cX12_reachE 714 = .ok (.iconst 0, 1) := by decide +kernel
theorem dX12_reachE_715 : decode cX12_reachE 715 = .ok (.invokevirtual 534, 3) := by decide +kernel
theorem dX12_reachE_718 : decode cX12_reachE 718 = .ok (.iconst 1, 1) := by decide +kernel
theorem dX12_reachE_719 : decode cX12_reachE 719 = .ok (.ireturn, 1) := by decide +kernel
theorem dX12_reachE_720 : decode cX12_reachE 720 = .ok (.iload_n 1, 1) := by decide +kernel
theorem dX12_reachE_721 : decode cX12_reachE 721 = .ok (.bipush 37, 2) := by decide +kernel
theorem dX12_reachE_723 : decode cX12_reachE 723 = .ok (.if_icmp .ne 12, 3) := by decide +kernel
theorem dX12_reachE_726 : decode cX12_reachE 726 = .ok (.aload_n 0, 1) := by decide +kernel
theorem dX12_reachE_727 : decode cX12_reachE 727 = .ok (.iload_n 2, 1) := by decide +kernel
theorem dX12_reachE_728 : decode cX12_reachE 728 = .ok (.iload_n 3, 1) := by decide +kernel
theorem dX12_reachE_729 : decode cX12_reachE 729 = .ok (.iload 4, 2) := by decide +kernel
theorem dX12_reachE_731 : decode cX12_reachE 731 = .ok (.invokevirtual 595, 3) := by decide +kernel
theorem dX12_reachE_734 : decode cX12_reachE 734 = .ok (.ireturn, 1) := by decide +kernel
theorem dX12_reachE_735 : decode cX12_reachE 735 = .ok (.iload_n 1, 1) := by decide +kernel
theorem dX12_reachE_736 : decode cX12_reachE 736 = .ok (.bipush 38, 2) := by decide +kernel
theorem dX12_reachE_738 : decode cX12_reachE 738 = .ok (.if_icmp .ne 83, 3) := by decide +kernel
theorem dX12_reachE_741 : decode cX12_reachE 741 = .ok (.aload_n 0, 1) := by decide +kernel
theorem dX12_reachE_742 : decode cX12_reachE 742 = .ok (.bipush 13, 2) := by decide +kernel
theorem dX12_reachE_744 : decode cX12_reachE 744 = .ok (.invokevirtual 549, 3) := by decide +kernel
theorem dX12_reachE_747 : decode cX12_reachE 747 = .ok (.ifCond .eq 26, 3) := by decide +kernel
theorem dX12_reachE_750 : decode cX12_reachE 750 = .ok (.aload_n 0, 1) := by decide +kernel
theorem dX12_reachE_751 : decode cX12_reachE 751 = .ok (.bipush 6, 2) := by decide +kernel
theorem dX12_reachE_753 : decode cX12_reachE 753 = .ok (.iload_n 3, 1) := by decide +kernel
theorem dX12_reachE_754 : decode cX12_reachE 754 = .ok (.iload 4, 2) := by decide +kernel
theorem dX12_reachE_756 : decode cX12_reachE 756 = .ok (.iload_n 2, 1) := by decide +kernel
theorem dX12_reachE_757 : decode cX12_reachE 757 = .ok (.invokevirtual 542, 3) := by decide +kernel
theorem dX12_reachE_760 : decode cX12_reachE 760 = .ok (.pop, 1) := by decide +kernel
theorem dX12_reachE_761 : decode cX12_reachE 761 = .ok (.aload_n 0, 1) := by decide +kernel
theorem dX12_reachE_762 : decode cX12_reachE 762 = .ok (.bipush 37, 2) := by decide +kernel
theorem dX12_reachE_764 : decode cX12_reachE 764 = .ok (.iconst 0, 1) := by decide +kernel
theorem dX12_reachE_765 : decode cX12_reachE 765 = .ok (.iconst 0, 1) := by decide +kernel
theorem dX12_reachE_766 : decode cX12_reachE 766 = .ok (.iload 4, 2) := by decide +kernel
theorem dX12_reachE_768 : decode cX12_reachE 768 = .ok (.invokevirtual 534, 3) := by decide +kernel
theorem dX12_reachE_771 : decode cX12_reachE 771 = .ok (.iconst 1, 1) := by decide +kernel
theorem dX12_reachE_772 : decode cX12_reachE 772 = .ok (.ireturn, 1) := by decide +kernel
theorem dX12_reachE_773 : decode cX12_reachE 773 = .ok (.iload 5, 2) := by decide +kernel
theorem dX12_reachE_775 : decode cX12_reachE 775 = .ok (.bipush 14, 2) := by decide +kernel
theorem dX12_reachE_777 : decode cX12_reachE 777 = .ok (.if_icmp .ne 9, 3) := by decide +kernel
theorem dX12_reachE_780 : decode cX12_reachE 780 = .ok (.iload_n 2, 1) := by decide +kernel
theorem dX12_reachE_781 : decode cX12_reachE 781 = .ok (.bipush 20, 2) := by decide +kernel
theorem dX12_reachE_783 : decode cX12_reachE 783 = .ok (.if_icmp .ne 5, 3) := by decide +kernel
theorem dX12_reachE_786 : decode cX12_reachE 786 = .ok (.iconst 0, 1) := by decide +kernel
theorem dX12_reachE_787 : decode cX12_reachE 787 = .ok (.ireturn, 1) := by decide +kernel
theorem dX12_reachE_788 : decode cX12_reachE 788 = .ok (.aload_n 0, 1) := by decide +kernel
theorem dX12_reachE_789 : decode cX12_reachE 789 = .ok (.dup, 1) := by decide +kernel
theorem dX12_reachE_790 : decode cX12_reachE 790 = .ok (.getfield 142, 3) := by decide +kernel
theorem dX12_reachE_793 : decode cX12_reachE 793 = .ok (.iconst 1, 1) := by decide +kernel
theorem dX12_reachE_794 : decode cX12_reachE 794 = .ok (.iadd, 1) := by decide +kernel
theorem dX12_reachE_795 : decode cX12_reachE 795 = .ok (.putfield 142, 3) := by decide +kernel
theorem dX12_reachE_798 : decode cX12_reachE 798 = .ok (.aload_n 0, 1) := by decide +kernel
theorem dX12_reachE_799 : decode cX12_reachE 799 = .ok (.bipush 38, 2) := by decide +kernel
theorem dX12_reachE_801 : decode cX12_reachE 801 = .ok (.iload_n 2, 1) := by decide +kernel
theorem dX12_reachE_802 : decode cX12_reachE 802 = .ok (.iconst 1, 1) := by decide +kernel
theorem dX12_reachE_803 : decode cX12_reachE 803 = .ok (.iadd, 1) := by decide +kernel
theorem dX12_reachE_804 : decode cX12_reachE 804 = .ok (.iload_n 3, 1) := by decide +kernel
theorem dX12_reachE_805 : decode cX12_reachE 805 = .ok (.iload 4, 2) := by decide +kernel
theorem dX12_reachE_807 : decode cX12_reachE 807 = .ok (.invokevirtual 534, 3) := by decide +kernel
theorem dX12_reachE_810 : decode cX12_reachE 810 = .ok (.aload_n 0, 1) := by decide +kernel
theorem dX12_reachE_811 : decode cX12_reachE 811 = .ok (.bipush 28, 2) := by decide +kernel
theorem dX12_reachE_813 : decode cX12_reachE 813 = .ok (.iconst 0, 1) := by decide +kernel
theorem dX12_reachE_814 : decode cX12_reachE 814 = .ok (.iconst 0, 1) := by decide +kernel
theorem dX12_reachE_815 : decode cX12_reachE 815 = .ok (.iconst 0, 1) := by decide +kernel
theorem dX12_reachE_816 : decode cX12_reachE 816 = .ok (.invokevirtual 534, 3) := by decide +kernel
theorem dX12_reachE_819 : decode cX12_reachE 819 = .ok (.iconst 1, 1) := by decide +kernel
theorem dX12_reachE_820 : decode cX12_reachE 820 = .ok (.ireturn, 1) := by decide +kernel
theorem dX12_reachE_821 : decode cX12_reachE 821 = .ok (.iload_n 1, 1) := by decide +kernel
theorem dX12_reachE_822 : decode cX12_reachE 822 = .ok (.bipush 40, 2) := by decide +kernel
theorem dX12_reachE_824 : decode cX12_reachE 824 = .ok (.if_icmp .ne 45, 3) := by decide +kernel
theorem dX12_reachE_827 : decode cX12_reachE 827 = .ok (.aload_n 0, 1) := by decide +kernel
theorem dX12_reachE_828 : decode cX12_reachE 828 = .ok (.bipush 14, 2) := by decide +kernel
theorem dX12_reachE_830 : decode cX12_reachE 830 = .ok (.invokevirtual 549, 3) := by decide +kernel
theorem dX12_reachE_833 : decode cX12_reachE 833 = .ok (.ifCond .eq 24, 3) := by decide +kernel
theorem dX12_reachE_836 : decode cX12_reachE 836 = .ok (.aload_n 0, 1) := by decide +kernel
theorem dX12_reachE_837 : decode cX12_reachE 837 = .ok (.bipush 40, 2) := by decide +kernel
theorem dX12_reachE_839 : decode cX12_reachE 839 = .ok (.iload_n 2, 1) := by decide +kernel
theorem dX12_reachE_840 : decode cX12_reachE 840 = .ok (.iload_n 3, 1) := by decide +kernel
theorem dX12_reachE_841 : decode cX12_reachE 841 = .ok (.iload 4, 2) := by decide +kernel
theorem dX12_reachE_843 : decode cX12_reachE 843 = .ok (.invokevirtual 534, 3) := by decide +kernel
theorem dX12_reachE_846 : decode cX12_reachE 846 = .ok (.aload_n 0, 1) := by decide +kernel
theorem dX12_reachE_847 : decode cX12_reachE 847 = .ok (.bipush 28, 2) := by decide +kernel
theorem dX12_reachE_849 : decode cX12_reachE 849 = .ok (.iconst 0, 1) := by decide +kernel
theorem dX12_reachE_850 : decode cX12_reachE 850 = .ok (.iconst 0, 1) := by decide +kernel
theorem dX12_reachE_851 : decode cX12_reachE 851 = .ok (.iconst 0, 1) := by decide +kernel
theorem dX12_reachE_852 : decode cX12_reachE 852 = .ok (.invokevirtual 534, 3) := by decide +kernel
theorem dX12_reachE_855 : decode cX12_reachE 855 = .ok (.iconst 1, 1) := by decide +kernel
theorem dX12_reachE_856 : decode cX12_reachE 856 = .ok (.ireturn, 1) := by decide +kernel
theorem dX12_reachE_857 : decode cX12_reachE 857 = .ok (.aload_n 0, 1) := by decide +kernel
theorem dX12_reachE_858 : decode cX12_reachE 858 = .ok (.iconst 5, 1) := by decide +kernel
theorem dX12_reachE_859 : decode cX12_reachE 859 = .ok (.iload_n 3, 1) := by decide +kernel
theorem dX12_reachE_860 : decode cX12_reachE 860 = .ok (.iload 4, 2) := by decide +kernel
theorem dX12_reachE_862 : decode cX12_reachE 862 = .ok (.iconst 0, 1) := by decide +kernel
theorem dX12_reachE_863 : decode cX12_reachE 863 = .ok (.invokevirtual 542, 3) := by decide +kernel
theorem dX12_reachE_866 : decode cX12_reachE 866 = .ok (.pop, 1) := by decide +kernel
theorem dX12_reachE_867 : decode cX12_reachE 867 = .ok (.iconst 1, 1) := by decide +kernel
theorem dX12_reachE_868 : decode cX12_reachE 868 = .ok (.ireturn, 1) := by decide +kernel
theorem dX12_reachE_869 : decode cX12_reachE 869 = .ok (.iload_n 2, 1) := by decide +kernel
theorem dX12_reachE_870 : decode cX12_reachE 870 = .ok (.iconst 1, 1) := by decide +kernel
theorem dX12_reachE_871 : decode cX12_reachE 871 = .ok (.if_icmp .ne 56, 3) := by decide +kernel
theorem dX12_reachE_874 : decode cX12_reachE 874 = .ok (.aload_n 0, 1) := by decide +kernel
theorem dX12_reachE_875 : decode cX12_reachE 875 = .ok (.getfield 121, 3) := by decide +kernel
theorem dX12_reachE_878 : decode cX12_reachE 878 = .ok (.aload_n 0, 1) := by decide +kernel
theorem dX12_reachE_879 : decode cX12_reachE 879 = .ok (.getfield 124, 3) := by decide +kernel
theorem dX12_reachE_882 : decode cX12_reachE 882 = .ok (.iconst 1, 1) := by decide +kernel
theorem dX12_reachE_883 : decode cX12_reachE 883 = .ok (.isub, 1) := by decide +kernel
theorem dX12_reachE_884 : decode cX12_reachE 884 = .ok (.iaload, 1) := by decide +kernel
theorem dX12_reachE_885 : decode cX12_reachE 885 = .ok (.istore 7, 2) := by decide +kernel
theorem dX12_reachE_887 : decode cX12_reachE 887 = .ok (.aload_n 0, 1) := by decide +kernel
theorem dX12_reachE_888 : decode cX12_reachE 888 = .ok (.getfield 117, 3) := by decide +kernel
theorem dX12_reachE_891 : decode cX12_reachE 891 = .ok (.iload 7, 2) := by decide +kernel
theorem dX12_reachE_893 : decode cX12_reachE 893 = .ok (.iconst 1, 1) := by decide +kernel
theorem dX12_reachE_894 : decode cX12_reachE 894 = .ok (.bastore, 1) := by decide +kernel
theorem dX12_reachE_895 : decode cX12_reachE 895 = .ok (.iload_n 3, 1) := by decide +kernel
theorem dX12_reachE_896 : decode cX12_reachE 896 = .ok (.aload_n 0, 1) := by decide +kernel
theorem dX12_reachE_897 : decode cX12_reachE 897 = .ok (.getfield 114, 3) := by decide +kernel
theorem dX12_reachE_900 : decode cX12_reachE 900 = .ok (.iload 7, 2) := by decide +kernel
theorem dX12_reachE_902 : decode cX12_reachE 902 = .ok (.iaload, 1) := by decide +kernel
theorem dX12_reachE_903 : decode cX12_reachE 903 = .ok (.if_icmp .ge 11, 3) := by decide +kernel
theorem dX12_reachE_906 : decode cX12_reachE 906 = .ok (.aload_n 0, 1) := by decide +kernel
theorem dX12_reachE_907 : decode cX12_reachE 907 = .ok (.getfield 114, 3) := by decide +kernel
theorem dX12_reachE_910 : decode cX12_reachE 910 = .ok (.iload 7, 2) := by decide +kernel
theorem dX12_reachE_912 : decode cX12_reachE 912 = .ok (.iload_n 3, 1) := by decide +kernel
theorem dX12_reachE_913 : decode cX12_reachE 913 = .ok (.iastore, 1) := by decide +kernel
theorem dX12_reachE_914 : decode cX12_reachE 914 = .ok (.aload_n 0, 1) := by decide +kernel
theorem dX12_reachE_915 : decode cX12_reachE 915 = .ok (.iload 4, 2) := by decide +kernel
theorem dX12_reachE_917 : decode cX12_reachE 917 = .ok (.putfield 145, 3) := by decide +kernel
theorem dX12_reachE_920 : decode cX12_reachE 920 = .ok (.aload_n 0, 1) := by decide +kernel
theorem dX12_reachE_921 : decode cX12_reachE 921 = .ok (.bipush 13, 2) := by decide +kernel
theorem dX12_reachE_923 : decode cX12_reachE 923 = .ok (.invokevirtual 549, 3) := by decide +kernel
theorem dX12_reachE_926 : decode cX12_reachE 926 = .ok (.ireturn, 1) := by decide +kernel
theorem dX12_reachE_927 : decode cX12_reachE 927 = .ok (.aload_n 0, 1) := by decide +kernel
theorem dX12_reachE_928 : decode cX12_reachE 928 = .ok (.iload 5, 2) := by decide +kernel
theorem dX12_reachE_930 : decode cX12_reachE 930 = .ok (.iload 6, 2) := by decide +kernel
theorem dX12_reachE_932 : decode cX12_reachE 932 = .ok (.invokevirtual 598, 3) := by decide +kernel
theorem dX12_reachE_935 : decode cX12_reachE 935 = .ok (.ireturn, 1) := by decide +kernel
def wr_reachE_641 (Q : Int → zS → Prop)  (s0 : zS) (x5 : Int) (x6 : Int) : Prop :=
  wr_deeper s0  (fun r1 s2 => ((¬ r1 = 0 → (zR ((zv s2 43) + 1)) ∧ ((¬ x5 = 18 → wr_goal (zpv s2 43 ((zv s2 43) + 1)) 6 8 x6 (zv s2 37) (fun s16 => wr_goal s16 36 0 0 0 (fun s22 => Q 1 s22))) ∧ (x5 = 18 → wr_goal (zpv s2 43 ((zv s2 43) + 1)) 6 7 x6 (zv s2 37) (fun s29 => wr_goal s29 36 0 0 0 (fun s35 => Q 1 s35))))) ∧ (r1 = 0 → Q 0 s2)))
def wr_reachE_569 (Q : Int → zS → Prop)  (s0 : zS) (x4 : Int) (x6 : Int) : Prop :=
  wr_deeper s0  (fun r1 s2 => ((¬ r1 = 0 → (zR ((zv s2 43) + 1)) ∧ wr_goal (zpv s2 43 ((zv s2 43) + 1)) 35 0 0 x4 (fun s14 => wr_goal s14 32 8 x6 x4 (fun s20 => wr_goal s20 36 0 0 0 (fun s26 => Q 1 s26)))) ∧ (r1 = 0 → Q 0 s2)))
def wr_reachE_451 (Q : Int → zS → Prop)  (s0 : zS) (x6 : Int) (y0 : Int) (y1 : Int) : Prop :=
  wr_goal s0 y1 y0 x6 (zv s0 37) (fun s2 => wr_goal s2 34 0 0 0 (fun s8 => (zR ((zv s8 43) + 1)) ∧ ((60 ≤ (zv s8 44) → (zR (((zv s8 43) + 1) - 1)) ∧ Q 0 (zpv (zpv s8 43 ((zv s8 43) + 1)) 43 (((zv s8 43) + 1) - 1))) ∧ (¬ 60 ≤ (zv s8 44) → (zR ((zv s8 44) + 1)) ∧ Q 1 (zpv (zpv s8 43 ((zv s8 43) + 1)) 44 ((zv s8 44) + 1))))))
def wr_reachE_343 (Q : Int → zS → Prop)  (s0 : zS) (x6 : Int) : Prop :=
  wr_deeper s0  (fun r1 s2 => ((¬ r1 = 0 → (zR ((zv s2 43) + 1)) ∧ wr_goal (zpv s2 43 ((zv s2 43) + 1)) 15 (zv s0 44) 0 0 (fun s14 => wr_goal s14 37 1 x6 (zv s14 37) (fun s20 => wr_goal s20 33 0 0 0 (fun s26 => Q 1 s26)))) ∧ (r1 = 0 → Q 0 s2)))
def wr_reachE (s0 : zS) (a0 : Int) (a1 : Int) (a2 : Int) (a3 : Int) (Q : Int → zS → Prop) : Prop :=
  wr_tk s0  (fun r1 s2 => ((¬ a0 = 28 → ((¬ a0 = 29 → ((¬ a0 = 30 → ((¬ a0 = 31 → ((¬ a0 = 32 → ((¬ a0 = 33 → ((¬ a0 = 34 → ((¬ a0 = 35 → ((¬ a0 = 36 → ((¬ a0 = 37 → ((¬ a0 = 38 → ((¬ a0 = 40 → ((¬ a1 = 1 → wr_primary s2 r1 (zv s2 43) (fun r33 s34 => (r33 = 0 ∨ r33 = 1) ∧ Q r33 s34)) ∧ (a1 = 1 → (0 ≤ ((zv s2 37) - 1)) ∧ (((zv s2 37) - 1) < 26000) ∧ (0 ≤ (za s2 36 (Int.toNat ((zv s2 37) - 1)))) ∧ ((za s2 36 (Int.toNat ((zv s2 37) - 1))) < 26000) ∧ (0 ≤ (za s2 36 (Int.toNat ((zv s2 37) - 1)))) ∧ ((za s2 36 (Int.toNat ((zv s2 37) - 1))) < 26000) ∧ (((za s2 34 (Int.toNat (za s2 36 (Int.toNat ((zv s2 37) - 1))))) ≤ a2 → wr_take (zpv (zpa s2 35 (Int.toNat (za s2 36 (Int.toNat ((zv s2 37) - 1)))) (znz 1)) 44 a3) 13 (fun r60 s61 => (r60 = 0 ∨ r60 = 1) ∧ Q r60 s61)) ∧ (¬ (za s2 34 (Int.toNat (za s2 36 (Int.toNat ((zv s2 37) - 1))))) ≤ a2 → (0 ≤ (za s2 36 (Int.toNat ((zv s2 37) - 1)))) ∧ ((za s2 36 (Int.toNat ((zv s2 37) - 1))) < 26000) ∧ wr_take (zpv (zpa (zpa s2 35 (Int.toNat (za s2 36 (Int.toNat ((zv s2 37) - 1)))) (znz 1)) 34 (Int.toNat (za s2 36 (Int.toNat ((zv s2 37) - 1)))) a2) 44 a3) 13 (fun r77 s78 => (r77 = 0 ∨ r77 = 1) ∧ Q r77 s78)))))) ∧ (a0 = 40 → wr_take s2 14 (fun r86 s87 => ((r86 = 0 → wr_shut s87 5 a2 a3 0 (fun r94 s95 => Q 1 s95)) ∧ (¬ r86 = 0 → wr_goal s87 40 a1 a2 a3 (fun s102 => wr_goal s102 28 0 0 0 (fun s108 => Q 1 s108)))))))) ∧ (a0 = 38 → wr_take s2 13 (fun r114 s115 => ((r114 = 0 → ((¬ r1 = 14 → Q 0 s115) ∧ (r1 = 14 → ((¬ a1 = 20 → (zR ((zv s115 43) + 1)) ∧ (zR (a1 + 1)) ∧ wr_goal (zpv s115 43 ((zv s115 43) + 1)) 38 (a1 + 1) a2 a3 (fun s134 => wr_goal s134 28 0 0 0 (fun s140 => Q 1 s140))) ∧ (a1 = 20 → Q 0 s115))))) ∧ (¬ r114 = 0 → wr_shut s115 6 a2 a3 a1 (fun r147 s148 => wr_goal s148 37 0 0 a3 (fun s154 => Q 1 s154)))))))) ∧ (a0 = 37 → wr_calls s2 a1 a2 a3 (fun r160 s161 => (r160 = 0 ∨ r160 = 1) ∧ Q r160 s161)))) ∧ (a0 = 36 → ((r1 = 18 → wr_reachE_641 Q  s2 r1 (zv s2 43)) ∧ (¬ r1 = 18 → ((¬ r1 = 20 → wr_goal s2 37 0 0 (zv s2 37) (fun s175 => wr_goal s175 39 0 0 0 (fun s181 => Q 1 s181))) ∧ (r1 = 20 → wr_reachE_641 Q  s2 r1 (zv s2 43)))))))) ∧ (a0 = 35 → ((r1 = 18 → wr_reachE_569 Q  s2 a3 (zv s2 43)) ∧ (¬ r1 = 18 → ((r1 = 19 → wr_reachE_569 Q  s2 a3 (zv s2 43)) ∧ (¬ r1 = 19 → Q 1 s2))))))) ∧ (a0 = 34 → wr_goal s2 15 (zv s2 44) 0 0 (fun s196 => ((r1 = 18 → ((¬ r1 = 18 → wr_reachE_451 Q  s196 (zv s2 43) 8 6) ∧ (r1 = 18 → wr_reachE_451 Q  s196 (zv s2 43) 7 6))) ∧ (¬ r1 = 18 → ((¬ r1 = 20 → wr_goal s196 35 0 0 (zv s196 37) (fun s210 => wr_goal s210 37 0 0 (zv s210 37) (fun s216 => wr_goal s216 39 0 0 0 (fun s222 => Q 1 s222)))) ∧ (r1 = 20 → ((¬ r1 = 18 → wr_reachE_451 Q  s196 (zv s2 43) 8 6) ∧ (r1 = 18 → wr_reachE_451 Q  s196 (zv s2 43) 7 6)))))))))) ∧ (a0 = 33 → ((r1 = 21 → wr_reachE_343 Q  s2 (zv s2 43)) ∧ (¬ r1 = 21 → ((r1 = 22 → wr_reachE_343 Q  s2 (zv s2 43)) ∧ (¬ r1 = 22 → ((r1 = 33 → wr_reachE_343 Q  s2 (zv s2 43)) ∧ (¬ r1 = 33 → wr_goal s2 34 0 0 0 (fun s242 => Q 1 s242)))))))))) ∧ (a0 = 32 → wr_binary s2 a1 a2 a3 (fun s249 => Q 1 s249)))) ∧ (a0 = 31 → wr_levelOf s2 r1 (fun r255 s256 => ((r255 = a1 → (zR ((zv s256 43) + 1)) ∧ wr_goal (zpv s256 43 ((zv s256 43) + 1)) 31 a1 0 a3 (fun s268 => wr_goal s268 32 a1 (zv s2 43) a3 (fun s274 => ((7 ≤ a1 → wr_goal s274 33 0 0 0 (fun s282 => Q 1 s282)) ∧ (¬ 7 ≤ a1 → (zR (a1 + 1)) ∧ wr_goal s274 30 (a1 + 1) 0 0 (fun s291 => Q 1 s291)))))) ∧ (¬ r255 = a1 → Q 1 s256)))))) ∧ (a0 = 30 → wr_goal s2 31 a1 0 (zv s2 37) (fun s299 => ((7 ≤ a1 → wr_goal s299 33 0 0 0 (fun s307 => Q 1 s307)) ∧ (¬ 7 ≤ a1 → (zR (a1 + 1)) ∧ wr_goal s299 30 (a1 + 1) 0 0 (fun s316 => Q 1 s316))))))) ∧ (a0 = 29 → ((¬ a1 = 0 → ((¬ a1 = 1 → wr_shut s2 12 a2 a3 0 (fun r326 s327 => Q 1 s327)) ∧ (a1 = 1 → wr_goal s2 29 2 a2 a3 (fun s334 => wr_goal s334 28 0 0 0 (fun s340 => wr_take s340 14 (fun r345 s346 => (r345 = 0 ∨ r345 = 1) ∧ Q r345 s346)))))) ∧ (a1 = 0 → ((r1 = 36 → wr_deeper s2  (fun r356 s357 => ((¬ r356 = 0 → (zR ((zv s357 43) + 1)) ∧ wr_goal (zpv s357 43 ((zv s357 43) + 1)) 15 (zv s2 44) 0 0 (fun s369 => wr_goal s369 29 1 (zv s2 43) a3 (fun s375 => wr_goal s375 28 0 0 0 (fun s381 => Q 1 s381)))) ∧ (r356 = 0 → Q 0 s357)))) ∧ (¬ r1 = 36 → Q 1 s2))))))) ∧ (a0 = 28 → wr_goal s2 29 0 0 (zv s2 37) (fun s390 => wr_goal s390 30 1 0 0 (fun s396 => Q 1 s396)))))
set_option maxHeartbeats 4000000 in
set_option maxRecDepth 100000 in
theorem rj_reachE_641 {X : gX} {d : gD} {b t : Nat} {T : Nat → Nat} {F0 : gM} (hC : gC RX12 cX12_reachE 8 (some .boolean) "reachE" (gR 3 0 0) d b X) {Q : Int → zS → Prop}   {F : gM} {s0 : zS} {x5 : Int} {x6 : Int} (Rx5 : zR x5) (Rx6 : zR x6) (hZ : zZ d t T F0 F s0) (hw : wr_reachE_641 Q  s0 x5 x6) : gG X d b (zQi X d b t T F0 Q) F 0 0 641 [some (.ref t), none, none, none, none, some (.int (zI x5)), some (.int (zI x6)), none] [] := by
  unfold wr_reachE_641 at hw
  refine g_aload_n hC dX12_reachE_641 rfl ?_
  refine zr_callVi (As := []) hC hZ rfl (rm_deeper X.la d b  hZ.rf hw) cl_X12_530 rfl rfl (Nat.le_of_ble_eq_true rfl) ⟨Nat.le_of_ble_eq_true rfl, Nat.le_of_ble_eq_true rfl⟩ dX12_reachE_642 (fun r1 s2 F3 R4 hZ5 h6 => ?_)
  refine zr_if_ne (tgt := 650) hC R4 dX12_reachE_645 (by decide) (fun c7 => ?_) (fun c7 => ?_)
  · have h8 := h6.1 c7
    refine g_aload_n hC dX12_reachE_650 rfl ?_
    refine g_dup hC dX12_reachE_651 rfl ?_
    refine zr_get (e := (zv s2 43)) hC hZ5 fl_X12_142 zb_43 (by decide) rfl dX12_reachE_652 ?_
    refine g_iconst (v := zI 1) hC dX12_reachE_655 rfl ?_
    refine zr_iadd hC dX12_reachE_656 ?_
    obtain ⟨o9, h10⟩ := h8
    refine zr_put hC hZ5 fl_X12_142 zb_43 (by decide) o9 dX12_reachE_657 (fun F11 hZ12 => ?_)
    refine g_aload_n hC dX12_reachE_660 rfl ?_
    refine g_bipush (v := zI 6) hC dX12_reachE_661 rfl ?_
    refine g_iload hC dX12_reachE_663 rfl ?_
    refine g_bipush (v := zI 18) hC dX12_reachE_665 rfl ?_
    refine zr_icmp_ne (tgt := 675) hC Rx5 (by decide) dX12_reachE_667 (by decide) (fun c13 => ?_) (fun c13 => ?_)
    · have h14 := h10.1 c13
      refine g_bipush (v := zI 8) hC dX12_reachE_675 rfl ?_
      refine g_iload hC dX12_reachE_677 rfl ?_
      refine g_aload_n hC dX12_reachE_679 rfl ?_
      refine zr_get (e := (zv s2 37)) hC hZ12 fl_X12_124 zb_37 (by decide) rfl dX12_reachE_680 ?_
      refine zr_callVv (As := [.int (zI 6), .int (zI 8), .int (zI x6), .int (zI (zv s2 37))]) hC hZ12 rfl (rm_goal X.la d b (by decide) (by decide) Rx6 (hZ5.rv 37) hZ12.rf h14) cl_X12_534 rfl rfl (Nat.le_of_ble_eq_true rfl) ⟨Nat.le_of_ble_eq_true rfl, Nat.le_of_ble_eq_true rfl⟩ dX12_reachE_683 (fun s16 F17 hZ19 h20 => ?_)
      refine g_aload_n hC dX12_reachE_686 rfl ?_
      refine g_bipush (v := zI 36) hC dX12_reachE_687 rfl ?_
      refine g_iconst (v := zI 0) hC dX12_reachE_689 rfl ?_
      refine g_iconst (v := zI 0) hC dX12_reachE_690 rfl ?_
      refine g_iconst (v := zI 0) hC dX12_reachE_691 rfl ?_
      refine zr_callVv (As := [.int (zI 36), .int (zI 0), .int (zI 0), .int (zI 0)]) hC hZ19 rfl (rm_goal X.la d b (by decide) (by decide) (by decide) (by decide) hZ19.rf h20) cl_X12_534 rfl rfl (Nat.le_of_ble_eq_true rfl) ⟨Nat.le_of_ble_eq_true rfl, Nat.le_of_ble_eq_true rfl⟩ dX12_reachE_692 (fun s22 F23 hZ25 h26 => ?_)
      refine g_iconst (v := zI 1) hC dX12_reachE_695 rfl ?_
      exact zr_zret hC hZ25 (Or.inr rfl) h26 dX12_reachE_696
    · have h27 := h10.2 c13
      refine g_bipush (v := zI 7) hC dX12_reachE_670 rfl ?_
      refine g_goto (tgt := 677) hC dX12_reachE_672 (by decide) ?_
      refine g_iload hC dX12_reachE_677 rfl ?_
      refine g_aload_n hC dX12_reachE_679 rfl ?_
      refine zr_get (e := (zv s2 37)) hC hZ12 fl_X12_124 zb_37 (by decide) rfl dX12_reachE_680 ?_
      refine zr_callVv (As := [.int (zI 6), .int (zI 7), .int (zI x6), .int (zI (zv s2 37))]) hC hZ12 rfl (rm_goal X.la d b (by decide) (by decide) Rx6 (hZ5.rv 37) hZ12.rf h27) cl_X12_534 rfl rfl (Nat.le_of_ble_eq_true rfl) ⟨Nat.le_of_ble_eq_true rfl, Nat.le_of_ble_eq_true rfl⟩ dX12_reachE_683 (fun s29 F30 hZ32 h33 => ?_)
      refine g_aload_n hC dX12_reachE_686 rfl ?_
      refine g_bipush (v := zI 36) hC dX12_reachE_687 rfl ?_
      refine g_iconst (v := zI 0) hC dX12_reachE_689 rfl ?_
      refine g_iconst (v := zI 0) hC dX12_reachE_690 rfl ?_
      refine g_iconst (v := zI 0) hC dX12_reachE_691 rfl ?_
      refine zr_callVv (As := [.int (zI 36), .int (zI 0), .int (zI 0), .int (zI 0)]) hC hZ32 rfl (rm_goal X.la d b (by decide) (by decide) (by decide) (by decide) hZ32.rf h33) cl_X12_534 rfl rfl (Nat.le_of_ble_eq_true rfl) ⟨Nat.le_of_ble_eq_true rfl, Nat.le_of_ble_eq_true rfl⟩ dX12_reachE_692 (fun s35 F36 hZ38 h39 => ?_)
      refine g_iconst (v := zI 1) hC dX12_reachE_695 rfl ?_
      exact zr_zret hC hZ38 (Or.inr rfl) h39 dX12_reachE_696
  · have h40 := h6.2 c7
    refine g_iconst (v := zI 0) hC dX12_reachE_648 rfl ?_
    exact zr_zret hC hZ5 (Or.inl rfl) h40 dX12_reachE_649
set_option maxHeartbeats 4000000 in
set_option maxRecDepth 100000 in
theorem rj_reachE_569 {X : gX} {d : gD} {b t : Nat} {T : Nat → Nat} {F0 : gM} (hC : gC RX12 cX12_reachE 8 (some .boolean) "reachE" (gR 3 0 0) d b X) {Q : Int → zS → Prop}   {F : gM} {s0 : zS} {x4 : Int} {x6 : Int} (Rx4 : zR x4) (Rx6 : zR x6) (hZ : zZ d t T F0 F s0) (hw : wr_reachE_569 Q  s0 x4 x6) : gG X d b (zQi X d b t T F0 Q) F 0 0 569 [some (.ref t), none, none, none, some (.int (zI x4)), none, some (.int (zI x6)), none] [] := by
  unfold wr_reachE_569 at hw
  refine g_aload_n hC dX12_reachE_569 rfl ?_
  refine zr_callVi (As := []) hC hZ rfl (rm_deeper X.la d b  hZ.rf hw) cl_X12_530 rfl rfl (Nat.le_of_ble_eq_true rfl) ⟨Nat.le_of_ble_eq_true rfl, Nat.le_of_ble_eq_true rfl⟩ dX12_reachE_570 (fun r1 s2 F3 R4 hZ5 h6 => ?_)
  refine zr_if_ne (tgt := 578) hC R4 dX12_reachE_573 (by decide) (fun c7 => ?_) (fun c7 => ?_)
  · have h8 := h6.1 c7
    refine g_aload_n hC dX12_reachE_578 rfl ?_
    refine g_dup hC dX12_reachE_579 rfl ?_
    refine zr_get (e := (zv s2 43)) hC hZ5 fl_X12_142 zb_43 (by decide) rfl dX12_reachE_580 ?_
    refine g_iconst (v := zI 1) hC dX12_reachE_583 rfl ?_
    refine zr_iadd hC dX12_reachE_584 ?_
    obtain ⟨o9, h10⟩ := h8
    refine zr_put hC hZ5 fl_X12_142 zb_43 (by decide) o9 dX12_reachE_585 (fun F11 hZ12 => ?_)
    refine g_aload_n hC dX12_reachE_588 rfl ?_
    refine g_bipush (v := zI 35) hC dX12_reachE_589 rfl ?_
    refine g_iconst (v := zI 0) hC dX12_reachE_591 rfl ?_
    refine g_iconst (v := zI 0) hC dX12_reachE_592 rfl ?_
    refine g_iload hC dX12_reachE_593 rfl ?_
    refine zr_callVv (As := [.int (zI 35), .int (zI 0), .int (zI 0), .int (zI x4)]) hC hZ12 rfl (rm_goal X.la d b (by decide) (by decide) (by decide) Rx4 hZ12.rf h10) cl_X12_534 rfl rfl (Nat.le_of_ble_eq_true rfl) ⟨Nat.le_of_ble_eq_true rfl, Nat.le_of_ble_eq_true rfl⟩ dX12_reachE_595 (fun s14 F15 hZ17 h18 => ?_)
    refine g_aload_n hC dX12_reachE_598 rfl ?_
    refine g_bipush (v := zI 32) hC dX12_reachE_599 rfl ?_
    refine g_bipush (v := zI 8) hC dX12_reachE_601 rfl ?_
    refine g_iload hC dX12_reachE_603 rfl ?_
    refine g_iload hC dX12_reachE_605 rfl ?_
    refine zr_callVv (As := [.int (zI 32), .int (zI 8), .int (zI x6), .int (zI x4)]) hC hZ17 rfl (rm_goal X.la d b (by decide) (by decide) Rx6 Rx4 hZ17.rf h18) cl_X12_534 rfl rfl (Nat.le_of_ble_eq_true rfl) ⟨Nat.le_of_ble_eq_true rfl, Nat.le_of_ble_eq_true rfl⟩ dX12_reachE_607 (fun s20 F21 hZ23 h24 => ?_)
    refine g_aload_n hC dX12_reachE_610 rfl ?_
    refine g_bipush (v := zI 36) hC dX12_reachE_611 rfl ?_
    refine g_iconst (v := zI 0) hC dX12_reachE_613 rfl ?_
    refine g_iconst (v := zI 0) hC dX12_reachE_614 rfl ?_
    refine g_iconst (v := zI 0) hC dX12_reachE_615 rfl ?_
    refine zr_callVv (As := [.int (zI 36), .int (zI 0), .int (zI 0), .int (zI 0)]) hC hZ23 rfl (rm_goal X.la d b (by decide) (by decide) (by decide) (by decide) hZ23.rf h24) cl_X12_534 rfl rfl (Nat.le_of_ble_eq_true rfl) ⟨Nat.le_of_ble_eq_true rfl, Nat.le_of_ble_eq_true rfl⟩ dX12_reachE_616 (fun s26 F27 hZ29 h30 => ?_)
    refine g_iconst (v := zI 1) hC dX12_reachE_619 rfl ?_
    exact zr_zret hC hZ29 (Or.inr rfl) h30 dX12_reachE_620
  · have h31 := h6.2 c7
    refine g_iconst (v := zI 0) hC dX12_reachE_576 rfl ?_
    exact zr_zret hC hZ5 (Or.inl rfl) h31 dX12_reachE_577
set_option maxHeartbeats 4000000 in
set_option maxRecDepth 100000 in
theorem rj_reachE_451 {X : gX} {d : gD} {b t : Nat} {T : Nat → Nat} {F0 : gM} (hC : gC RX12 cX12_reachE 8 (some .boolean) "reachE" (gR 3 0 0) d b X) {Q : Int → zS → Prop}   {F : gM} {s0 : zS} {x6 : Int} {y0 : Int} {y1 : Int} (Rx6 : zR x6) (Ry0 : zR y0) (Ry1 : zR y1) (hZ : zZ d t T F0 F s0) (hw : wr_reachE_451 Q  s0 x6 y0 y1) : gG X d b (zQi X d b t T F0 Q) F 0 0 451 [some (.ref t), none, none, none, none, none, some (.int (zI x6)), none] [.int (zI y0), .int (zI y1), .ref t] := by
  unfold wr_reachE_451 at hw
  refine g_iload hC dX12_reachE_451 rfl ?_
  refine g_aload_n hC dX12_reachE_453 rfl ?_
  refine zr_get (e := (zv s0 37)) hC hZ fl_X12_124 zb_37 (by decide) rfl dX12_reachE_454 ?_
  refine zr_callVv (As := [.int (zI y1), .int (zI y0), .int (zI x6), .int (zI (zv s0 37))]) hC hZ rfl (rm_goal X.la d b Ry1 Ry0 Rx6 (hZ.rv 37) hZ.rf hw) cl_X12_534 rfl rfl (Nat.le_of_ble_eq_true rfl) ⟨Nat.le_of_ble_eq_true rfl, Nat.le_of_ble_eq_true rfl⟩ dX12_reachE_457 (fun s2 F3 hZ5 h6 => ?_)
  refine g_aload_n hC dX12_reachE_460 rfl ?_
  refine g_bipush (v := zI 34) hC dX12_reachE_461 rfl ?_
  refine g_iconst (v := zI 0) hC dX12_reachE_463 rfl ?_
  refine g_iconst (v := zI 0) hC dX12_reachE_464 rfl ?_
  refine g_iconst (v := zI 0) hC dX12_reachE_465 rfl ?_
  refine zr_callVv (As := [.int (zI 34), .int (zI 0), .int (zI 0), .int (zI 0)]) hC hZ5 rfl (rm_goal X.la d b (by decide) (by decide) (by decide) (by decide) hZ5.rf h6) cl_X12_534 rfl rfl (Nat.le_of_ble_eq_true rfl) ⟨Nat.le_of_ble_eq_true rfl, Nat.le_of_ble_eq_true rfl⟩ dX12_reachE_466 (fun s8 F9 hZ11 h12 => ?_)
  refine g_aload_n hC dX12_reachE_469 rfl ?_
  refine g_dup hC dX12_reachE_470 rfl ?_
  refine zr_get (e := (zv s8 43)) hC hZ11 fl_X12_142 zb_43 (by decide) rfl dX12_reachE_471 ?_
  refine g_iconst (v := zI 1) hC dX12_reachE_474 rfl ?_
  refine zr_iadd hC dX12_reachE_475 ?_
  obtain ⟨o13, h14⟩ := h12
  refine zr_put hC hZ11 fl_X12_142 zb_43 (by decide) o13 dX12_reachE_476 (fun F15 hZ16 => ?_)
  refine g_aload_n hC dX12_reachE_479 rfl ?_
  refine zr_get (e := (zv s8 44)) hC hZ16 fl_X12_145 zb_44 (by decide) rfl dX12_reachE_480 ?_
  refine g_bipush (v := zI 60) hC dX12_reachE_483 rfl ?_
  refine zr_icmp_ge (tgt := 500) hC (hZ11.rv 44) (by decide) dX12_reachE_485 (by decide) (fun c17 => ?_) (fun c17 => ?_)
  · have h18 := h14.1 c17
    refine g_aload_n hC dX12_reachE_500 rfl ?_
    refine g_dup hC dX12_reachE_501 rfl ?_
    refine zr_get (e := ((zv s8 43) + 1)) hC hZ16 fl_X12_142 zb_43 (by decide) rfl dX12_reachE_502 ?_
    refine g_iconst (v := zI 1) hC dX12_reachE_505 rfl ?_
    refine zr_isub hC dX12_reachE_506 ?_
    obtain ⟨o19, h20⟩ := h18
    refine zr_put hC hZ16 fl_X12_142 zb_43 (by decide) o19 dX12_reachE_507 (fun F21 hZ22 => ?_)
    refine g_iconst (v := zI 0) hC dX12_reachE_510 rfl ?_
    exact zr_zret hC hZ22 (Or.inl rfl) h20 dX12_reachE_511
  · have h23 := h14.2 c17
    refine g_aload_n hC dX12_reachE_488 rfl ?_
    refine g_dup hC dX12_reachE_489 rfl ?_
    refine zr_get (e := (zv s8 44)) hC hZ16 fl_X12_145 zb_44 (by decide) rfl dX12_reachE_490 ?_
    refine g_iconst (v := zI 1) hC dX12_reachE_493 rfl ?_
    refine zr_iadd hC dX12_reachE_494 ?_
    obtain ⟨o24, h25⟩ := h23
    refine zr_put hC hZ16 fl_X12_145 zb_44 (by decide) o24 dX12_reachE_495 (fun F26 hZ27 => ?_)
    refine g_iconst (v := zI 1) hC dX12_reachE_498 rfl ?_
    exact zr_zret hC hZ27 (Or.inr rfl) h25 dX12_reachE_499
set_option maxHeartbeats 4000000 in
set_option maxRecDepth 100000 in
theorem rj_reachE_343 {X : gX} {d : gD} {b t : Nat} {T : Nat → Nat} {F0 : gM} (hC : gC RX12 cX12_reachE 8 (some .boolean) "reachE" (gR 3 0 0) d b X) {Q : Int → zS → Prop}   {F : gM} {s0 : zS} {x6 : Int} (Rx6 : zR x6) (hZ : zZ d t T F0 F s0) (hw : wr_reachE_343 Q  s0 x6) : gG X d b (zQi X d b t T F0 Q) F 0 0 343 [some (.ref t), none, none, none, none, none, some (.int (zI x6)), none] [] := by
  unfold wr_reachE_343 at hw
  refine g_aload_n hC dX12_reachE_343 rfl ?_
  refine zr_get (e := (zv s0 44)) hC hZ fl_X12_145 zb_44 (by decide) rfl dX12_reachE_344 ?_
  refine g_istore (lv' := [some (.ref t), none, none, none, none, none, some (.int (zI x6)), some (.int (zI (zv s0 44)))]) hC dX12_reachE_347 (Nat.le_of_ble_eq_true rfl) rfl rfl ?_
  refine g_aload_n hC dX12_reachE_349 rfl ?_
  refine zr_callVi (As := []) hC hZ rfl (rm_deeper X.la d b  hZ.rf hw) cl_X12_530 rfl rfl (Nat.le_of_ble_eq_true rfl) ⟨Nat.le_of_ble_eq_true rfl, Nat.le_of_ble_eq_true rfl⟩ dX12_reachE_350 (fun r1 s2 F3 R4 hZ5 h6 => ?_)
  refine zr_if_ne (tgt := 358) hC R4 dX12_reachE_353 (by decide) (fun c7 => ?_) (fun c7 => ?_)
  · have h8 := h6.1 c7
    refine g_aload_n hC dX12_reachE_358 rfl ?_
    refine g_dup hC dX12_reachE_359 rfl ?_
    refine zr_get (e := (zv s2 43)) hC hZ5 fl_X12_142 zb_43 (by decide) rfl dX12_reachE_360 ?_
    refine g_iconst (v := zI 1) hC dX12_reachE_363 rfl ?_
    refine zr_iadd hC dX12_reachE_364 ?_
    obtain ⟨o9, h10⟩ := h8
    refine zr_put hC hZ5 fl_X12_142 zb_43 (by decide) o9 dX12_reachE_365 (fun F11 hZ12 => ?_)
    refine g_aload_n hC dX12_reachE_368 rfl ?_
    refine g_bipush (v := zI 15) hC dX12_reachE_369 rfl ?_
    refine g_iload hC dX12_reachE_371 rfl ?_
    refine g_iconst (v := zI 0) hC dX12_reachE_373 rfl ?_
    refine g_iconst (v := zI 0) hC dX12_reachE_374 rfl ?_
    refine zr_callVv (As := [.int (zI 15), .int (zI (zv s0 44)), .int (zI 0), .int (zI 0)]) hC hZ12 rfl (rm_goal X.la d b (by decide) (hZ.rv 44) (by decide) (by decide) hZ12.rf h10) cl_X12_534 rfl rfl (Nat.le_of_ble_eq_true rfl) ⟨Nat.le_of_ble_eq_true rfl, Nat.le_of_ble_eq_true rfl⟩ dX12_reachE_375 (fun s14 F15 hZ17 h18 => ?_)
    refine g_aload_n hC dX12_reachE_378 rfl ?_
    refine g_bipush (v := zI 37) hC dX12_reachE_379 rfl ?_
    refine g_iconst (v := zI 1) hC dX12_reachE_381 rfl ?_
    refine g_iload hC dX12_reachE_382 rfl ?_
    refine g_aload_n hC dX12_reachE_384 rfl ?_
    refine zr_get (e := (zv s14 37)) hC hZ17 fl_X12_124 zb_37 (by decide) rfl dX12_reachE_385 ?_
    refine zr_callVv (As := [.int (zI 37), .int (zI 1), .int (zI x6), .int (zI (zv s14 37))]) hC hZ17 rfl (rm_goal X.la d b (by decide) (by decide) Rx6 (hZ17.rv 37) hZ17.rf h18) cl_X12_534 rfl rfl (Nat.le_of_ble_eq_true rfl) ⟨Nat.le_of_ble_eq_true rfl, Nat.le_of_ble_eq_true rfl⟩ dX12_reachE_388 (fun s20 F21 hZ23 h24 => ?_)
    refine g_aload_n hC dX12_reachE_391 rfl ?_
    refine g_bipush (v := zI 33) hC dX12_reachE_392 rfl ?_
    refine g_iconst (v := zI 0) hC dX12_reachE_394 rfl ?_
    refine g_iconst (v := zI 0) hC dX12_reachE_395 rfl ?_
    refine g_iconst (v := zI 0) hC dX12_reachE_396 rfl ?_
    refine zr_callVv (As := [.int (zI 33), .int (zI 0), .int (zI 0), .int (zI 0)]) hC hZ23 rfl (rm_goal X.la d b (by decide) (by decide) (by decide) (by decide) hZ23.rf h24) cl_X12_534 rfl rfl (Nat.le_of_ble_eq_true rfl) ⟨Nat.le_of_ble_eq_true rfl, Nat.le_of_ble_eq_true rfl⟩ dX12_reachE_397 (fun s26 F27 hZ29 h30 => ?_)
    refine g_iconst (v := zI 1) hC dX12_reachE_400 rfl ?_
    exact zr_zret hC hZ29 (Or.inr rfl) h30 dX12_reachE_401
  · have h31 := h6.2 c7
    refine g_iconst (v := zI 0) hC dX12_reachE_356 rfl ?_
    exact zr_zret hC hZ5 (Or.inl rfl) h31 dX12_reachE_357
set_option maxHeartbeats 4000000 in
set_option maxRecDepth 100000 in
theorem rm_reachE (l : Launch) (d : gD) (b : Nat) {t : Nat} {T : Nat → Nat} {F : gM} {s0 : zS} {a0 : Int} {a1 : Int} {a2 : Int} {a3 : Int} (Ra0 : zR a0) (Ra1 : zR a1) (Ra2 : zR a2) (Ra3 : zR a3) {Q : Int → zS → Prop} (hZ : zZ d t T F F s0) (hw : wr_reachE s0 a0 a1 a2 a3 Q) : gMi l d b yX12_reachE cX12_reachE 8 .boolean 3 0 0 F [.ref t, .int (zI a0), .int (zI a1), .int (zI a2), .int (zI a3)] (zPi d t T F Q) := by
  refine gM_of2 rfl (nL := 8) (Nat.le_of_ble_eq_true rfl) ?_
  intro X hX hC; subst hX
  show gG X d b (zQi X d b t T F Q) F 0 0 0 [some (.ref t), some (.int (zI a0)), some (.int (zI a1)), some (.int (zI a2)), some (.int (zI a3)), none, none, none] []
  unfold wr_reachE at hw
  refine g_aload_n hC dX12_reachE_0 rfl ?_
  refine zr_callVi (As := []) hC hZ rfl (rm_tk X.la d b  hZ.rf hw) cl_X12_526 rfl rfl (Nat.le_of_ble_eq_true rfl) ⟨Nat.le_of_ble_eq_true rfl, Nat.le_of_ble_eq_true rfl⟩ dX12_reachE_1 (fun r1 s2 F3 R4 hZ5 h6 => ?_)
  refine g_istore (lv' := [some (.ref t), some (.int (zI a0)), some (.int (zI a1)), some (.int (zI a2)), some (.int (zI a3)), some (.int (zI r1)), none, none]) hC dX12_reachE_4 (Nat.le_of_ble_eq_true rfl) rfl rfl ?_
  refine g_aload_n hC dX12_reachE_6 rfl ?_
  refine zr_get (e := (zv s2 43)) hC hZ5 fl_X12_142 zb_43 (by decide) rfl dX12_reachE_7 ?_
  refine g_istore (lv' := [some (.ref t), some (.int (zI a0)), some (.int (zI a1)), some (.int (zI a2)), some (.int (zI a3)), some (.int (zI r1)), some (.int (zI (zv s2 43))), none]) hC dX12_reachE_10 (Nat.le_of_ble_eq_true rfl) rfl rfl ?_
  refine g_iload_n hC dX12_reachE_12 rfl ?_
  refine g_bipush (v := zI 28) hC dX12_reachE_13 rfl ?_
  refine zr_icmp_ne (tgt := 41) hC Ra0 (by decide) dX12_reachE_15 (by decide) (fun c7 => ?_) (fun c7 => ?_)
  · have h8 := h6.1 c7
    refine g_iload_n hC dX12_reachE_41 rfl ?_
    refine g_bipush (v := zI 29) hC dX12_reachE_42 rfl ?_
    refine zr_icmp_ne (tgt := 161) hC Ra0 (by decide) dX12_reachE_44 (by decide) (fun c9 => ?_) (fun c9 => ?_)
    · have h10 := h8.1 c9
      refine g_iload_n hC dX12_reachE_161 rfl ?_
      refine g_bipush (v := zI 30) hC dX12_reachE_162 rfl ?_
      refine zr_icmp_ne (tgt := 210) hC Ra0 (by decide) dX12_reachE_164 (by decide) (fun c11 => ?_) (fun c11 => ?_)
      · have h12 := h10.1 c11
        refine g_iload_n hC dX12_reachE_210 rfl ?_
        refine g_bipush (v := zI 31) hC dX12_reachE_211 rfl ?_
        refine zr_icmp_ne (tgt := 289) hC Ra0 (by decide) dX12_reachE_213 (by decide) (fun c13 => ?_) (fun c13 => ?_)
        · have h14 := h12.1 c13
          refine g_iload_n hC dX12_reachE_289 rfl ?_
          refine g_bipush (v := zI 32) hC dX12_reachE_290 rfl ?_
          refine zr_icmp_ne (tgt := 305) hC Ra0 (by decide) dX12_reachE_292 (by decide) (fun c15 => ?_) (fun c15 => ?_)
          · have h16 := h14.1 c15
            refine g_iload_n hC dX12_reachE_305 rfl ?_
            refine g_bipush (v := zI 33) hC dX12_reachE_306 rfl ?_
            refine zr_icmp_ne (tgt := 402) hC Ra0 (by decide) dX12_reachE_308 (by decide) (fun c17 => ?_) (fun c17 => ?_)
            · have h18 := h16.1 c17
              refine g_iload_n hC dX12_reachE_402 rfl ?_
              refine g_bipush (v := zI 34) hC dX12_reachE_403 rfl ?_
              refine zr_icmp_ne (tgt := 547) hC Ra0 (by decide) dX12_reachE_405 (by decide) (fun c19 => ?_) (fun c19 => ?_)
              · have h20 := h18.1 c19
                refine g_iload_n hC dX12_reachE_547 rfl ?_
                refine g_bipush (v := zI 35) hC dX12_reachE_548 rfl ?_
                refine zr_icmp_ne (tgt := 621) hC Ra0 (by decide) dX12_reachE_550 (by decide) (fun c21 => ?_) (fun c21 => ?_)
                · have h22 := h20.1 c21
                  refine g_iload_n hC dX12_reachE_621 rfl ?_
                  refine g_bipush (v := zI 36) hC dX12_reachE_622 rfl ?_
                  refine zr_icmp_ne (tgt := 720) hC Ra0 (by decide) dX12_reachE_624 (by decide) (fun c23 => ?_) (fun c23 => ?_)
                  · have h24 := h22.1 c23
                    refine g_iload_n hC dX12_reachE_720 rfl ?_
                    refine g_bipush (v := zI 37) hC dX12_reachE_721 rfl ?_
                    refine zr_icmp_ne (tgt := 735) hC Ra0 (by decide) dX12_reachE_723 (by decide) (fun c25 => ?_) (fun c25 => ?_)
                    · have h26 := h24.1 c25
                      refine g_iload_n hC dX12_reachE_735 rfl ?_
                      refine g_bipush (v := zI 38) hC dX12_reachE_736 rfl ?_
                      refine zr_icmp_ne (tgt := 821) hC Ra0 (by decide) dX12_reachE_738 (by decide) (fun c27 => ?_) (fun c27 => ?_)
                      · have h28 := h26.1 c27
                        refine g_iload_n hC dX12_reachE_821 rfl ?_
                        refine g_bipush (v := zI 40) hC dX12_reachE_822 rfl ?_
                        refine zr_icmp_ne (tgt := 869) hC Ra0 (by decide) dX12_reachE_824 (by decide) (fun c29 => ?_) (fun c29 => ?_)
                        · have h30 := h28.1 c29
                          refine g_iload_n hC dX12_reachE_869 rfl ?_
                          refine g_iconst (v := zI 1) hC dX12_reachE_870 rfl ?_
                          refine zr_icmp_ne (tgt := 927) hC Ra1 (by decide) dX12_reachE_871 (by decide) (fun c31 => ?_) (fun c31 => ?_)
                          · have h32 := h30.1 c31
                            refine g_aload_n hC dX12_reachE_927 rfl ?_
                            refine g_iload hC dX12_reachE_928 rfl ?_
                            refine g_iload hC dX12_reachE_930 rfl ?_
                            refine zr_callVi (As := [.int (zI r1), .int (zI (zv s2 43))]) hC hZ5 rfl (rm_primary X.la d b R4 (hZ5.rv 43) hZ5.rf h32) cl_X12_598 rfl rfl (Nat.le_of_ble_eq_true rfl) ⟨Nat.le_of_ble_eq_true rfl, Nat.le_of_ble_eq_true rfl⟩ dX12_reachE_932 (fun r33 s34 F35 R36 hZ37 h38 => ?_)
                            obtain ⟨o39, h40⟩ := h38
                            exact zr_zret hC hZ37 o39 h40 dX12_reachE_935
                          · have h41 := h30.2 c31
                            refine g_aload_n hC dX12_reachE_874 rfl ?_
                            refine zr_geta hC hZ5 fl_X12_121 zb_36 (by decide) dX12_reachE_875 ?_
                            refine g_aload_n hC dX12_reachE_878 rfl ?_
                            refine zr_get (e := (zv s2 37)) hC hZ5 fl_X12_124 zb_37 (by decide) rfl dX12_reachE_879 ?_
                            refine g_iconst (v := zI 1) hC dX12_reachE_882 rfl ?_
                            refine zr_isub hC dX12_reachE_883 ?_
                            obtain ⟨o42, h43⟩ := h41
                            obtain ⟨o44, h45⟩ := h43
                            refine zr_iald (v := (za s2 36 (Int.toNat ((zv s2 37) - 1)))) hC hZ5 zk_36 zb_36 zn_36 (by decide) o42 o44 rfl dX12_reachE_884 ?_
                            refine g_istore (lv' := [some (.ref t), some (.int (zI a0)), some (.int (zI a1)), some (.int (zI a2)), some (.int (zI a3)), some (.int (zI r1)), some (.int (zI (zv s2 43))), some (.int (zI (za s2 36 (Int.toNat ((zv s2 37) - 1)))))]) hC dX12_reachE_885 (Nat.le_of_ble_eq_true rfl) rfl rfl ?_
                            refine g_aload_n hC dX12_reachE_887 rfl ?_
                            refine zr_geta hC hZ5 fl_X12_117 zb_35 (by decide) dX12_reachE_888 ?_
                            refine g_iload hC dX12_reachE_891 rfl ?_
                            refine g_iconst (v := zI 1) hC dX12_reachE_893 rfl ?_
                            obtain ⟨o46, h47⟩ := h45
                            obtain ⟨o48, h49⟩ := h47
                            refine zr_zast hC hZ5 zk_35 zb_35 zn_35 (by decide) o46 o48  dX12_reachE_894 (fun F50 hZ51 => ?_)
                            refine g_iload_n hC dX12_reachE_895 rfl ?_
                            refine g_aload_n hC dX12_reachE_896 rfl ?_
                            refine zr_geta hC hZ51 fl_X12_114 zb_34 (by decide) dX12_reachE_897 ?_
                            refine g_iload hC dX12_reachE_900 rfl ?_
                            obtain ⟨o52, h53⟩ := h49
                            obtain ⟨o54, h55⟩ := h53
                            refine zr_iald (v := (za s2 34 (Int.toNat (za s2 36 (Int.toNat ((zv s2 37) - 1)))))) hC hZ51 zk_34 zb_34 zn_34 (by decide) o52 o54 rfl dX12_reachE_902 ?_
                            refine zr_icmp_ge (tgt := 914) hC Ra2 (hZ5.ra 34 _) dX12_reachE_903 (by decide) (fun c56 => ?_) (fun c56 => ?_)
                            · have h57 := h55.1 c56
                              refine g_aload_n hC dX12_reachE_914 rfl ?_
                              refine g_iload hC dX12_reachE_915 rfl ?_
                              refine zr_put hC hZ51 fl_X12_145 zb_44 (by decide) Ra3 dX12_reachE_917 (fun F58 hZ59 => ?_)
                              refine g_aload_n hC dX12_reachE_920 rfl ?_
                              refine g_bipush (v := zI 13) hC dX12_reachE_921 rfl ?_
                              refine zr_callVi (As := [.int (zI 13)]) hC hZ59 rfl (rm_take X.la d b (by decide) hZ59.rf h57) cl_X12_549 rfl rfl (Nat.le_of_ble_eq_true rfl) ⟨Nat.le_of_ble_eq_true rfl, Nat.le_of_ble_eq_true rfl⟩ dX12_reachE_923 (fun r60 s61 F62 R63 hZ64 h65 => ?_)
                              obtain ⟨o66, h67⟩ := h65
                              exact zr_zret hC hZ64 o66 h67 dX12_reachE_926
                            · have h68 := h55.2 c56
                              refine g_aload_n hC dX12_reachE_906 rfl ?_
                              refine zr_geta hC hZ51 fl_X12_114 zb_34 (by decide) dX12_reachE_907 ?_
                              refine g_iload hC dX12_reachE_910 rfl ?_
                              refine g_iload_n hC dX12_reachE_912 rfl ?_
                              obtain ⟨o69, h70⟩ := h68
                              obtain ⟨o71, h72⟩ := h70
                              refine zr_iast hC hZ51 zk_34 zb_34 zn_34 (by decide) o69 o71 Ra2 dX12_reachE_913 (fun F73 hZ74 => ?_)
                              refine g_aload_n hC dX12_reachE_914 rfl ?_
                              refine g_iload hC dX12_reachE_915 rfl ?_
                              refine zr_put hC hZ74 fl_X12_145 zb_44 (by decide) Ra3 dX12_reachE_917 (fun F75 hZ76 => ?_)
                              refine g_aload_n hC dX12_reachE_920 rfl ?_
                              refine g_bipush (v := zI 13) hC dX12_reachE_921 rfl ?_
                              refine zr_callVi (As := [.int (zI 13)]) hC hZ76 rfl (rm_take X.la d b (by decide) hZ76.rf h72) cl_X12_549 rfl rfl (Nat.le_of_ble_eq_true rfl) ⟨Nat.le_of_ble_eq_true rfl, Nat.le_of_ble_eq_true rfl⟩ dX12_reachE_923 (fun r77 s78 F79 R80 hZ81 h82 => ?_)
                              obtain ⟨o83, h84⟩ := h82
                              exact zr_zret hC hZ81 o83 h84 dX12_reachE_926
                        · have h85 := h28.2 c29
                          refine g_aload_n hC dX12_reachE_827 rfl ?_
                          refine g_bipush (v := zI 14) hC dX12_reachE_828 rfl ?_
                          refine zr_callVi (As := [.int (zI 14)]) hC hZ5 rfl (rm_take X.la d b (by decide) hZ5.rf h85) cl_X12_549 rfl rfl (Nat.le_of_ble_eq_true rfl) ⟨Nat.le_of_ble_eq_true rfl, Nat.le_of_ble_eq_true rfl⟩ dX12_reachE_830 (fun r86 s87 F88 R89 hZ90 h91 => ?_)
                          refine zr_if_eq (tgt := 857) hC R89 dX12_reachE_833 (by decide) (fun c92 => ?_) (fun c92 => ?_)
                          · have h93 := h91.1 c92
                            refine g_aload_n hC dX12_reachE_857 rfl ?_
                            refine g_iconst (v := zI 5) hC dX12_reachE_858 rfl ?_
                            refine g_iload_n hC dX12_reachE_859 rfl ?_
                            refine g_iload hC dX12_reachE_860 rfl ?_
                            refine g_iconst (v := zI 0) hC dX12_reachE_862 rfl ?_
                            refine zr_callVi (As := [.int (zI 5), .int (zI a2), .int (zI a3), .int (zI 0)]) hC hZ90 rfl (rm_shut X.la d b (by decide) Ra2 Ra3 (by decide) hZ90.rf h93) cl_X12_542 rfl rfl (Nat.le_of_ble_eq_true rfl) ⟨Nat.le_of_ble_eq_true rfl, Nat.le_of_ble_eq_true rfl⟩ dX12_reachE_863 (fun r94 s95 F96 R97 hZ98 h99 => ?_)
                            refine g_pop hC dX12_reachE_866 rfl ?_
                            refine g_iconst (v := zI 1) hC dX12_reachE_867 rfl ?_
                            exact zr_zret hC hZ98 (Or.inr rfl) h99 dX12_reachE_868
                          · have h100 := h91.2 c92
                            refine g_aload_n hC dX12_reachE_836 rfl ?_
                            refine g_bipush (v := zI 40) hC dX12_reachE_837 rfl ?_
                            refine g_iload_n hC dX12_reachE_839 rfl ?_
                            refine g_iload_n hC dX12_reachE_840 rfl ?_
                            refine g_iload hC dX12_reachE_841 rfl ?_
                            refine zr_callVv (As := [.int (zI 40), .int (zI a1), .int (zI a2), .int (zI a3)]) hC hZ90 rfl (rm_goal X.la d b (by decide) Ra1 Ra2 Ra3 hZ90.rf h100) cl_X12_534 rfl rfl (Nat.le_of_ble_eq_true rfl) ⟨Nat.le_of_ble_eq_true rfl, Nat.le_of_ble_eq_true rfl⟩ dX12_reachE_843 (fun s102 F103 hZ105 h106 => ?_)
                            refine g_aload_n hC dX12_reachE_846 rfl ?_
                            refine g_bipush (v := zI 28) hC dX12_reachE_847 rfl ?_
                            refine g_iconst (v := zI 0) hC dX12_reachE_849 rfl ?_
                            refine g_iconst (v := zI 0) hC dX12_reachE_850 rfl ?_
                            refine g_iconst (v := zI 0) hC dX12_reachE_851 rfl ?_
                            refine zr_callVv (As := [.int (zI 28), .int (zI 0), .int (zI 0), .int (zI 0)]) hC hZ105 rfl (rm_goal X.la d b (by decide) (by decide) (by decide) (by decide) hZ105.rf h106) cl_X12_534 rfl rfl (Nat.le_of_ble_eq_true rfl) ⟨Nat.le_of_ble_eq_true rfl, Nat.le_of_ble_eq_true rfl⟩ dX12_reachE_852 (fun s108 F109 hZ111 h112 => ?_)
                            refine g_iconst (v := zI 1) hC dX12_reachE_855 rfl ?_
                            exact zr_zret hC hZ111 (Or.inr rfl) h112 dX12_reachE_856
                      · have h113 := h26.2 c27
                        refine g_aload_n hC dX12_reachE_741 rfl ?_
                        refine g_bipush (v := zI 13) hC dX12_reachE_742 rfl ?_
                        refine zr_callVi (As := [.int (zI 13)]) hC hZ5 rfl (rm_take X.la d b (by decide) hZ5.rf h113) cl_X12_549 rfl rfl (Nat.le_of_ble_eq_true rfl) ⟨Nat.le_of_ble_eq_true rfl, Nat.le_of_ble_eq_true rfl⟩ dX12_reachE_744 (fun r114 s115 F116 R117 hZ118 h119 => ?_)
                        refine zr_if_eq (tgt := 773) hC R117 dX12_reachE_747 (by decide) (fun c120 => ?_) (fun c120 => ?_)
                        · have h121 := h119.1 c120
                          refine g_iload hC dX12_reachE_773 rfl ?_
                          refine g_bipush (v := zI 14) hC dX12_reachE_775 rfl ?_
                          refine zr_icmp_ne (tgt := 786) hC R4 (by decide) dX12_reachE_777 (by decide) (fun c122 => ?_) (fun c122 => ?_)
                          · have h123 := h121.1 c122
                            refine g_iconst (v := zI 0) hC dX12_reachE_786 rfl ?_
                            exact zr_zret hC hZ118 (Or.inl rfl) h123 dX12_reachE_787
                          · have h124 := h121.2 c122
                            refine g_iload_n hC dX12_reachE_780 rfl ?_
                            refine g_bipush (v := zI 20) hC dX12_reachE_781 rfl ?_
                            refine zr_icmp_ne (tgt := 788) hC Ra1 (by decide) dX12_reachE_783 (by decide) (fun c125 => ?_) (fun c125 => ?_)
                            · have h126 := h124.1 c125
                              refine g_aload_n hC dX12_reachE_788 rfl ?_
                              refine g_dup hC dX12_reachE_789 rfl ?_
                              refine zr_get (e := (zv s115 43)) hC hZ118 fl_X12_142 zb_43 (by decide) rfl dX12_reachE_790 ?_
                              refine g_iconst (v := zI 1) hC dX12_reachE_793 rfl ?_
                              refine zr_iadd hC dX12_reachE_794 ?_
                              obtain ⟨o127, h128⟩ := h126
                              refine zr_put hC hZ118 fl_X12_142 zb_43 (by decide) o127 dX12_reachE_795 (fun F129 hZ130 => ?_)
                              refine g_aload_n hC dX12_reachE_798 rfl ?_
                              refine g_bipush (v := zI 38) hC dX12_reachE_799 rfl ?_
                              refine g_iload_n hC dX12_reachE_801 rfl ?_
                              refine g_iconst (v := zI 1) hC dX12_reachE_802 rfl ?_
                              refine zr_iadd hC dX12_reachE_803 ?_
                              refine g_iload_n hC dX12_reachE_804 rfl ?_
                              refine g_iload hC dX12_reachE_805 rfl ?_
                              obtain ⟨o131, h132⟩ := h128
                              refine zr_callVv (As := [.int (zI 38), .int (zI (a1 + 1)), .int (zI a2), .int (zI a3)]) hC hZ130 rfl (rm_goal X.la d b (by decide) o131 Ra2 Ra3 hZ130.rf h132) cl_X12_534 rfl rfl (Nat.le_of_ble_eq_true rfl) ⟨Nat.le_of_ble_eq_true rfl, Nat.le_of_ble_eq_true rfl⟩ dX12_reachE_807 (fun s134 F135 hZ137 h138 => ?_)
                              refine g_aload_n hC dX12_reachE_810 rfl ?_
                              refine g_bipush (v := zI 28) hC dX12_reachE_811 rfl ?_
                              refine g_iconst (v := zI 0) hC dX12_reachE_813 rfl ?_
                              refine g_iconst (v := zI 0) hC dX12_reachE_814 rfl ?_
                              refine g_iconst (v := zI 0) hC dX12_reachE_815 rfl ?_
                              refine zr_callVv (As := [.int (zI 28), .int (zI 0), .int (zI 0), .int (zI 0)]) hC hZ137 rfl (rm_goal X.la d b (by decide) (by decide) (by decide) (by decide) hZ137.rf h138) cl_X12_534 rfl rfl (Nat.le_of_ble_eq_true rfl) ⟨Nat.le_of_ble_eq_true rfl, Nat.le_of_ble_eq_true rfl⟩ dX12_reachE_816 (fun s140 F141 hZ143 h144 => ?_)
                              refine g_iconst (v := zI 1) hC dX12_reachE_819 rfl ?_
                              exact zr_zret hC hZ143 (Or.inr rfl) h144 dX12_reachE_820
                            · have h145 := h124.2 c125
                              refine g_iconst (v := zI 0) hC dX12_reachE_786 rfl ?_
                              exact zr_zret hC hZ118 (Or.inl rfl) h145 dX12_reachE_787
                        · have h146 := h119.2 c120
                          refine g_aload_n hC dX12_reachE_750 rfl ?_
                          refine g_bipush (v := zI 6) hC dX12_reachE_751 rfl ?_
                          refine g_iload_n hC dX12_reachE_753 rfl ?_
                          refine g_iload hC dX12_reachE_754 rfl ?_
                          refine g_iload_n hC dX12_reachE_756 rfl ?_
                          refine zr_callVi (As := [.int (zI 6), .int (zI a2), .int (zI a3), .int (zI a1)]) hC hZ118 rfl (rm_shut X.la d b (by decide) Ra2 Ra3 Ra1 hZ118.rf h146) cl_X12_542 rfl rfl (Nat.le_of_ble_eq_true rfl) ⟨Nat.le_of_ble_eq_true rfl, Nat.le_of_ble_eq_true rfl⟩ dX12_reachE_757 (fun r147 s148 F149 R150 hZ151 h152 => ?_)
                          refine g_pop hC dX12_reachE_760 rfl ?_
                          refine g_aload_n hC dX12_reachE_761 rfl ?_
                          refine g_bipush (v := zI 37) hC dX12_reachE_762 rfl ?_
                          refine g_iconst (v := zI 0) hC dX12_reachE_764 rfl ?_
                          refine g_iconst (v := zI 0) hC dX12_reachE_765 rfl ?_
                          refine g_iload hC dX12_reachE_766 rfl ?_
                          refine zr_callVv (As := [.int (zI 37), .int (zI 0), .int (zI 0), .int (zI a3)]) hC hZ151 rfl (rm_goal X.la d b (by decide) (by decide) (by decide) Ra3 hZ151.rf h152) cl_X12_534 rfl rfl (Nat.le_of_ble_eq_true rfl) ⟨Nat.le_of_ble_eq_true rfl, Nat.le_of_ble_eq_true rfl⟩ dX12_reachE_768 (fun s154 F155 hZ157 h158 => ?_)
                          refine g_iconst (v := zI 1) hC dX12_reachE_771 rfl ?_
                          exact zr_zret hC hZ157 (Or.inr rfl) h158 dX12_reachE_772
                    · have h159 := h24.2 c25
                      refine g_aload_n hC dX12_reachE_726 rfl ?_
                      refine g_iload_n hC dX12_reachE_727 rfl ?_
                      refine g_iload_n hC dX12_reachE_728 rfl ?_
                      refine g_iload hC dX12_reachE_729 rfl ?_
                      refine zr_callVi (As := [.int (zI a1), .int (zI a2), .int (zI a3)]) hC hZ5 rfl (rm_calls X.la d b Ra1 Ra2 Ra3 hZ5.rf h159) cl_X12_595 rfl rfl (Nat.le_of_ble_eq_true rfl) ⟨Nat.le_of_ble_eq_true rfl, Nat.le_of_ble_eq_true rfl⟩ dX12_reachE_731 (fun r160 s161 F162 R163 hZ164 h165 => ?_)
                      obtain ⟨o166, h167⟩ := h165
                      exact zr_zret hC hZ164 o166 h167 dX12_reachE_734
                  · have h168 := h22.2 c23
                    refine g_iload hC dX12_reachE_627 rfl ?_
                    refine g_bipush (v := zI 18) hC dX12_reachE_629 rfl ?_
                    refine zr_icmp_eq (tgt := 641) hC R4 (by decide) dX12_reachE_631 (by decide) (fun c169 => ?_) (fun c169 => ?_)
                    · have h170 := h168.1 c169
                      refine g_lv (lv' := [some (.ref t), none, none, none, none, some (.int (zI r1)), some (.int (zI (zv s2 43))), none]) ⟨rfl, rfl, rfl, trivial⟩ ?_
                      exact rj_reachE_641 hC  R4 (hZ5.rv 43) hZ5 h170
                    · have h171 := h168.2 c169
                      refine g_iload hC dX12_reachE_634 rfl ?_
                      refine g_bipush (v := zI 20) hC dX12_reachE_636 rfl ?_
                      refine zr_icmp_ne (tgt := 697) hC R4 (by decide) dX12_reachE_638 (by decide) (fun c172 => ?_) (fun c172 => ?_)
                      · have h173 := h171.1 c172
                        refine g_aload_n hC dX12_reachE_697 rfl ?_
                        refine g_bipush (v := zI 37) hC dX12_reachE_698 rfl ?_
                        refine g_iconst (v := zI 0) hC dX12_reachE_700 rfl ?_
                        refine g_iconst (v := zI 0) hC dX12_reachE_701 rfl ?_
                        refine g_aload_n hC dX12_reachE_702 rfl ?_
                        refine zr_get (e := (zv s2 37)) hC hZ5 fl_X12_124 zb_37 (by decide) rfl dX12_reachE_703 ?_
                        refine zr_callVv (As := [.int (zI 37), .int (zI 0), .int (zI 0), .int (zI (zv s2 37))]) hC hZ5 rfl (rm_goal X.la d b (by decide) (by decide) (by decide) (hZ5.rv 37) hZ5.rf h173) cl_X12_534 rfl rfl (Nat.le_of_ble_eq_true rfl) ⟨Nat.le_of_ble_eq_true rfl, Nat.le_of_ble_eq_true rfl⟩ dX12_reachE_706 (fun s175 F176 hZ178 h179 => ?_)
                        refine g_aload_n hC dX12_reachE_709 rfl ?_
                        refine g_bipush (v := zI 39) hC dX12_reachE_710 rfl ?_
                        refine g_iconst (v := zI 0) hC dX12_reachE_712 rfl ?_
                        refine g_iconst (v := zI 0) hC dX12_reachE_713 rfl ?_
                        refine g_iconst (v := zI 0) hC dX12_reachE_714 rfl ?_
                        refine zr_callVv (As := [.int (zI 39), .int (zI 0), .int (zI 0), .int (zI 0)]) hC hZ178 rfl (rm_goal X.la d b (by decide) (by decide) (by decide) (by decide) hZ178.rf h179) cl_X12_534 rfl rfl (Nat.le_of_ble_eq_true rfl) ⟨Nat.le_of_ble_eq_true rfl, Nat.le_of_ble_eq_true rfl⟩ dX12_reachE_715 (fun s181 F182 hZ184 h185 => ?_)
                        refine g_iconst (v := zI 1) hC dX12_reachE_718 rfl ?_
                        exact zr_zret hC hZ184 (Or.inr rfl) h185 dX12_reachE_719
                      · have h186 := h171.2 c172
                        refine g_lv (lv' := [some (.ref t), none, none, none, none, some (.int (zI r1)), some (.int (zI (zv s2 43))), none]) ⟨rfl, rfl, rfl, trivial⟩ ?_
                        exact rj_reachE_641 hC  R4 (hZ5.rv 43) hZ5 h186
                · have h187 := h20.2 c21
                  refine g_iload hC dX12_reachE_553 rfl ?_
                  refine g_bipush (v := zI 18) hC dX12_reachE_555 rfl ?_
                  refine zr_icmp_eq (tgt := 569) hC R4 (by decide) dX12_reachE_557 (by decide) (fun c188 => ?_) (fun c188 => ?_)
                  · have h189 := h187.1 c188
                    refine g_lv (lv' := [some (.ref t), none, none, none, some (.int (zI a3)), none, some (.int (zI (zv s2 43))), none]) ⟨rfl, rfl, rfl, trivial⟩ ?_
                    exact rj_reachE_569 hC  Ra3 (hZ5.rv 43) hZ5 h189
                  · have h190 := h187.2 c188
                    refine g_iload hC dX12_reachE_560 rfl ?_
                    refine g_bipush (v := zI 19) hC dX12_reachE_562 rfl ?_
                    refine zr_icmp_eq (tgt := 569) hC R4 (by decide) dX12_reachE_564 (by decide) (fun c191 => ?_) (fun c191 => ?_)
                    · have h192 := h190.1 c191
                      refine g_lv (lv' := [some (.ref t), none, none, none, some (.int (zI a3)), none, some (.int (zI (zv s2 43))), none]) ⟨rfl, rfl, rfl, trivial⟩ ?_
                      exact rj_reachE_569 hC  Ra3 (hZ5.rv 43) hZ5 h192
                    · have h193 := h190.2 c191
                      refine g_iconst (v := zI 1) hC dX12_reachE_567 rfl ?_
                      exact zr_zret hC hZ5 (Or.inr rfl) h193 dX12_reachE_568
              · have h194 := h18.2 c19
                refine g_aload_n hC dX12_reachE_408 rfl ?_
                refine g_bipush (v := zI 15) hC dX12_reachE_409 rfl ?_
                refine g_aload_n hC dX12_reachE_411 rfl ?_
                refine zr_get (e := (zv s2 44)) hC hZ5 fl_X12_145 zb_44 (by decide) rfl dX12_reachE_412 ?_
                refine g_iconst (v := zI 0) hC dX12_reachE_415 rfl ?_
                refine g_iconst (v := zI 0) hC dX12_reachE_416 rfl ?_
                refine zr_callVv (As := [.int (zI 15), .int (zI (zv s2 44)), .int (zI 0), .int (zI 0)]) hC hZ5 rfl (rm_goal X.la d b (by decide) (hZ5.rv 44) (by decide) (by decide) hZ5.rf h194) cl_X12_534 rfl rfl (Nat.le_of_ble_eq_true rfl) ⟨Nat.le_of_ble_eq_true rfl, Nat.le_of_ble_eq_true rfl⟩ dX12_reachE_417 (fun s196 F197 hZ199 h200 => ?_)
                refine g_iload hC dX12_reachE_420 rfl ?_
                refine g_bipush (v := zI 18) hC dX12_reachE_422 rfl ?_
                refine zr_icmp_eq (tgt := 434) hC R4 (by decide) dX12_reachE_424 (by decide) (fun c201 => ?_) (fun c201 => ?_)
                · have h202 := h200.1 c201
                  refine g_aload_n hC dX12_reachE_434 rfl ?_
                  refine g_bipush (v := zI 6) hC dX12_reachE_435 rfl ?_
                  refine g_iload hC dX12_reachE_437 rfl ?_
                  refine g_bipush (v := zI 18) hC dX12_reachE_439 rfl ?_
                  refine zr_icmp_ne (tgt := 449) hC R4 (by decide) dX12_reachE_441 (by decide) (fun c203 => ?_) (fun c203 => ?_)
                  · have h204 := h202.1 c203
                    refine g_bipush (v := zI 8) hC dX12_reachE_449 rfl ?_
                    refine g_lv (lv' := [some (.ref t), none, none, none, none, none, some (.int (zI (zv s2 43))), none]) ⟨rfl, rfl, trivial⟩ ?_
                    exact rj_reachE_451 hC  (hZ5.rv 43) (by decide) (by decide) hZ199 h204
                  · have h205 := h202.2 c203
                    refine g_bipush (v := zI 7) hC dX12_reachE_444 rfl ?_
                    refine g_goto (tgt := 451) hC dX12_reachE_446 (by decide) ?_
                    refine g_lv (lv' := [some (.ref t), none, none, none, none, none, some (.int (zI (zv s2 43))), none]) ⟨rfl, rfl, trivial⟩ ?_
                    exact rj_reachE_451 hC  (hZ5.rv 43) (by decide) (by decide) hZ199 h205
                · have h206 := h200.2 c201
                  refine g_iload hC dX12_reachE_427 rfl ?_
                  refine g_bipush (v := zI 20) hC dX12_reachE_429 rfl ?_
                  refine zr_icmp_ne (tgt := 512) hC R4 (by decide) dX12_reachE_431 (by decide) (fun c207 => ?_) (fun c207 => ?_)
                  · have h208 := h206.1 c207
                    refine g_aload_n hC dX12_reachE_512 rfl ?_
                    refine g_bipush (v := zI 35) hC dX12_reachE_513 rfl ?_
                    refine g_iconst (v := zI 0) hC dX12_reachE_515 rfl ?_
                    refine g_iconst (v := zI 0) hC dX12_reachE_516 rfl ?_
                    refine g_aload_n hC dX12_reachE_517 rfl ?_
                    refine zr_get (e := (zv s196 37)) hC hZ199 fl_X12_124 zb_37 (by decide) rfl dX12_reachE_518 ?_
                    refine zr_callVv (As := [.int (zI 35), .int (zI 0), .int (zI 0), .int (zI (zv s196 37))]) hC hZ199 rfl (rm_goal X.la d b (by decide) (by decide) (by decide) (hZ199.rv 37) hZ199.rf h208) cl_X12_534 rfl rfl (Nat.le_of_ble_eq_true rfl) ⟨Nat.le_of_ble_eq_true rfl, Nat.le_of_ble_eq_true rfl⟩ dX12_reachE_521 (fun s210 F211 hZ213 h214 => ?_)
                    refine g_aload_n hC dX12_reachE_524 rfl ?_
                    refine g_bipush (v := zI 37) hC dX12_reachE_525 rfl ?_
                    refine g_iconst (v := zI 0) hC dX12_reachE_527 rfl ?_
                    refine g_iconst (v := zI 0) hC dX12_reachE_528 rfl ?_
                    refine g_aload_n hC dX12_reachE_529 rfl ?_
                    refine zr_get (e := (zv s210 37)) hC hZ213 fl_X12_124 zb_37 (by decide) rfl dX12_reachE_530 ?_
                    refine zr_callVv (As := [.int (zI 37), .int (zI 0), .int (zI 0), .int (zI (zv s210 37))]) hC hZ213 rfl (rm_goal X.la d b (by decide) (by decide) (by decide) (hZ213.rv 37) hZ213.rf h214) cl_X12_534 rfl rfl (Nat.le_of_ble_eq_true rfl) ⟨Nat.le_of_ble_eq_true rfl, Nat.le_of_ble_eq_true rfl⟩ dX12_reachE_533 (fun s216 F217 hZ219 h220 => ?_)
                    refine g_aload_n hC dX12_reachE_536 rfl ?_
                    refine g_bipush (v := zI 39) hC dX12_reachE_537 rfl ?_
                    refine g_iconst (v := zI 0) hC dX12_reachE_539 rfl ?_
                    refine g_iconst (v := zI 0) hC dX12_reachE_540 rfl ?_
                    refine g_iconst (v := zI 0) hC dX12_reachE_541 rfl ?_
                    refine zr_callVv (As := [.int (zI 39), .int (zI 0), .int (zI 0), .int (zI 0)]) hC hZ219 rfl (rm_goal X.la d b (by decide) (by decide) (by decide) (by decide) hZ219.rf h220) cl_X12_534 rfl rfl (Nat.le_of_ble_eq_true rfl) ⟨Nat.le_of_ble_eq_true rfl, Nat.le_of_ble_eq_true rfl⟩ dX12_reachE_542 (fun s222 F223 hZ225 h226 => ?_)
                    refine g_iconst (v := zI 1) hC dX12_reachE_545 rfl ?_
                    exact zr_zret hC hZ225 (Or.inr rfl) h226 dX12_reachE_546
                  · have h227 := h206.2 c207
                    refine g_aload_n hC dX12_reachE_434 rfl ?_
                    refine g_bipush (v := zI 6) hC dX12_reachE_435 rfl ?_
                    refine g_iload hC dX12_reachE_437 rfl ?_
                    refine g_bipush (v := zI 18) hC dX12_reachE_439 rfl ?_
                    refine zr_icmp_ne (tgt := 449) hC R4 (by decide) dX12_reachE_441 (by decide) (fun c228 => ?_) (fun c228 => ?_)
                    · have h229 := h227.1 c228
                      refine g_bipush (v := zI 8) hC dX12_reachE_449 rfl ?_
                      refine g_lv (lv' := [some (.ref t), none, none, none, none, none, some (.int (zI (zv s2 43))), none]) ⟨rfl, rfl, trivial⟩ ?_
                      exact rj_reachE_451 hC  (hZ5.rv 43) (by decide) (by decide) hZ199 h229
                    · have h230 := h227.2 c228
                      refine g_bipush (v := zI 7) hC dX12_reachE_444 rfl ?_
                      refine g_goto (tgt := 451) hC dX12_reachE_446 (by decide) ?_
                      refine g_lv (lv' := [some (.ref t), none, none, none, none, none, some (.int (zI (zv s2 43))), none]) ⟨rfl, rfl, trivial⟩ ?_
                      exact rj_reachE_451 hC  (hZ5.rv 43) (by decide) (by decide) hZ199 h230
            · have h231 := h16.2 c17
              refine g_iload hC dX12_reachE_311 rfl ?_
              refine g_bipush (v := zI 21) hC dX12_reachE_313 rfl ?_
              refine zr_icmp_eq (tgt := 343) hC R4 (by decide) dX12_reachE_315 (by decide) (fun c232 => ?_) (fun c232 => ?_)
              · have h233 := h231.1 c232
                refine g_lv (lv' := [some (.ref t), none, none, none, none, none, some (.int (zI (zv s2 43))), none]) ⟨rfl, rfl, trivial⟩ ?_
                exact rj_reachE_343 hC  (hZ5.rv 43) hZ5 h233
              · have h234 := h231.2 c232
                refine g_iload hC dX12_reachE_318 rfl ?_
                refine g_bipush (v := zI 22) hC dX12_reachE_320 rfl ?_
                refine zr_icmp_eq (tgt := 343) hC R4 (by decide) dX12_reachE_322 (by decide) (fun c235 => ?_) (fun c235 => ?_)
                · have h236 := h234.1 c235
                  refine g_lv (lv' := [some (.ref t), none, none, none, none, none, some (.int (zI (zv s2 43))), none]) ⟨rfl, rfl, trivial⟩ ?_
                  exact rj_reachE_343 hC  (hZ5.rv 43) hZ5 h236
                · have h237 := h234.2 c235
                  refine g_iload hC dX12_reachE_325 rfl ?_
                  refine g_bipush (v := zI 33) hC dX12_reachE_327 rfl ?_
                  refine zr_icmp_eq (tgt := 343) hC R4 (by decide) dX12_reachE_329 (by decide) (fun c238 => ?_) (fun c238 => ?_)
                  · have h239 := h237.1 c238
                    refine g_lv (lv' := [some (.ref t), none, none, none, none, none, some (.int (zI (zv s2 43))), none]) ⟨rfl, rfl, trivial⟩ ?_
                    exact rj_reachE_343 hC  (hZ5.rv 43) hZ5 h239
                  · have h240 := h237.2 c238
                    refine g_aload_n hC dX12_reachE_332 rfl ?_
                    refine g_bipush (v := zI 34) hC dX12_reachE_333 rfl ?_
                    refine g_iconst (v := zI 0) hC dX12_reachE_335 rfl ?_
                    refine g_iconst (v := zI 0) hC dX12_reachE_336 rfl ?_
                    refine g_iconst (v := zI 0) hC dX12_reachE_337 rfl ?_
                    refine zr_callVv (As := [.int (zI 34), .int (zI 0), .int (zI 0), .int (zI 0)]) hC hZ5 rfl (rm_goal X.la d b (by decide) (by decide) (by decide) (by decide) hZ5.rf h240) cl_X12_534 rfl rfl (Nat.le_of_ble_eq_true rfl) ⟨Nat.le_of_ble_eq_true rfl, Nat.le_of_ble_eq_true rfl⟩ dX12_reachE_338 (fun s242 F243 hZ245 h246 => ?_)
                    refine g_iconst (v := zI 1) hC dX12_reachE_341 rfl ?_
                    exact zr_zret hC hZ245 (Or.inr rfl) h246 dX12_reachE_342
          · have h247 := h14.2 c15
            refine g_aload_n hC dX12_reachE_295 rfl ?_
            refine g_iload_n hC dX12_reachE_296 rfl ?_
            refine g_iload_n hC dX12_reachE_297 rfl ?_
            refine g_iload hC dX12_reachE_298 rfl ?_
            refine zr_callVv (As := [.int (zI a1), .int (zI a2), .int (zI a3)]) hC hZ5 rfl (rm_binary X.la d b Ra1 Ra2 Ra3 hZ5.rf h247) cl_X12_592 rfl rfl (Nat.le_of_ble_eq_true rfl) ⟨Nat.le_of_ble_eq_true rfl, Nat.le_of_ble_eq_true rfl⟩ dX12_reachE_300 (fun s249 F250 hZ252 h253 => ?_)
            refine g_iconst (v := zI 1) hC dX12_reachE_303 rfl ?_
            exact zr_zret hC hZ252 (Or.inr rfl) h253 dX12_reachE_304
        · have h254 := h12.2 c13
          refine g_iload hC dX12_reachE_216 rfl ?_
          refine zr_callSi (As := [.int (zI r1)]) hC hZ5 (rm_levelOf X.la d b R4 hZ5.rf h254) cl_X12_589 rfl rfl (Nat.le_of_ble_eq_true rfl) ⟨Nat.le_of_ble_eq_true rfl, Nat.le_of_ble_eq_true rfl⟩ dX12_reachE_218 (fun r255 s256 F257 R258 hZ259 h260 => ?_)
          refine g_iload_n hC dX12_reachE_221 rfl ?_
          refine zr_icmp_eq (tgt := 227) hC R258 Ra1 dX12_reachE_222 (by decide) (fun c261 => ?_) (fun c261 => ?_)
          · have h262 := h260.1 c261
            refine g_aload_n hC dX12_reachE_227 rfl ?_
            refine g_dup hC dX12_reachE_228 rfl ?_
            refine zr_get (e := (zv s256 43)) hC hZ259 fl_X12_142 zb_43 (by decide) rfl dX12_reachE_229 ?_
            refine g_iconst (v := zI 1) hC dX12_reachE_232 rfl ?_
            refine zr_iadd hC dX12_reachE_233 ?_
            obtain ⟨o263, h264⟩ := h262
            refine zr_put hC hZ259 fl_X12_142 zb_43 (by decide) o263 dX12_reachE_234 (fun F265 hZ266 => ?_)
            refine g_aload_n hC dX12_reachE_237 rfl ?_
            refine g_bipush (v := zI 31) hC dX12_reachE_238 rfl ?_
            refine g_iload_n hC dX12_reachE_240 rfl ?_
            refine g_iconst (v := zI 0) hC dX12_reachE_241 rfl ?_
            refine g_iload hC dX12_reachE_242 rfl ?_
            refine zr_callVv (As := [.int (zI 31), .int (zI a1), .int (zI 0), .int (zI a3)]) hC hZ266 rfl (rm_goal X.la d b (by decide) Ra1 (by decide) Ra3 hZ266.rf h264) cl_X12_534 rfl rfl (Nat.le_of_ble_eq_true rfl) ⟨Nat.le_of_ble_eq_true rfl, Nat.le_of_ble_eq_true rfl⟩ dX12_reachE_244 (fun s268 F269 hZ271 h272 => ?_)
            refine g_aload_n hC dX12_reachE_247 rfl ?_
            refine g_bipush (v := zI 32) hC dX12_reachE_248 rfl ?_
            refine g_iload_n hC dX12_reachE_250 rfl ?_
            refine g_iload hC dX12_reachE_251 rfl ?_
            refine g_iload hC dX12_reachE_253 rfl ?_
            refine zr_callVv (As := [.int (zI 32), .int (zI a1), .int (zI (zv s2 43)), .int (zI a3)]) hC hZ271 rfl (rm_goal X.la d b (by decide) Ra1 (hZ5.rv 43) Ra3 hZ271.rf h272) cl_X12_534 rfl rfl (Nat.le_of_ble_eq_true rfl) ⟨Nat.le_of_ble_eq_true rfl, Nat.le_of_ble_eq_true rfl⟩ dX12_reachE_255 (fun s274 F275 hZ277 h278 => ?_)
            refine g_iload_n hC dX12_reachE_258 rfl ?_
            refine g_bipush (v := zI 7) hC dX12_reachE_259 rfl ?_
            refine zr_icmp_ge (tgt := 278) hC Ra1 (by decide) dX12_reachE_261 (by decide) (fun c279 => ?_) (fun c279 => ?_)
            · have h280 := h278.1 c279
              refine g_aload_n hC dX12_reachE_278 rfl ?_
              refine g_bipush (v := zI 33) hC dX12_reachE_279 rfl ?_
              refine g_iconst (v := zI 0) hC dX12_reachE_281 rfl ?_
              refine g_iconst (v := zI 0) hC dX12_reachE_282 rfl ?_
              refine g_iconst (v := zI 0) hC dX12_reachE_283 rfl ?_
              refine zr_callVv (As := [.int (zI 33), .int (zI 0), .int (zI 0), .int (zI 0)]) hC hZ277 rfl (rm_goal X.la d b (by decide) (by decide) (by decide) (by decide) hZ277.rf h280) cl_X12_534 rfl rfl (Nat.le_of_ble_eq_true rfl) ⟨Nat.le_of_ble_eq_true rfl, Nat.le_of_ble_eq_true rfl⟩ dX12_reachE_284 (fun s282 F283 hZ285 h286 => ?_)
              refine g_iconst (v := zI 1) hC dX12_reachE_287 rfl ?_
              exact zr_zret hC hZ285 (Or.inr rfl) h286 dX12_reachE_288
            · have h287 := h278.2 c279
              refine g_aload_n hC dX12_reachE_264 rfl ?_
              refine g_bipush (v := zI 30) hC dX12_reachE_265 rfl ?_
              refine g_iload_n hC dX12_reachE_267 rfl ?_
              refine g_iconst (v := zI 1) hC dX12_reachE_268 rfl ?_
              refine zr_iadd hC dX12_reachE_269 ?_
              refine g_iconst (v := zI 0) hC dX12_reachE_270 rfl ?_
              refine g_iconst (v := zI 0) hC dX12_reachE_271 rfl ?_
              obtain ⟨o288, h289⟩ := h287
              refine zr_callVv (As := [.int (zI 30), .int (zI (a1 + 1)), .int (zI 0), .int (zI 0)]) hC hZ277 rfl (rm_goal X.la d b (by decide) o288 (by decide) (by decide) hZ277.rf h289) cl_X12_534 rfl rfl (Nat.le_of_ble_eq_true rfl) ⟨Nat.le_of_ble_eq_true rfl, Nat.le_of_ble_eq_true rfl⟩ dX12_reachE_272 (fun s291 F292 hZ294 h295 => ?_)
              refine g_goto (tgt := 287) hC dX12_reachE_275 (by decide) ?_
              refine g_iconst (v := zI 1) hC dX12_reachE_287 rfl ?_
              exact zr_zret hC hZ294 (Or.inr rfl) h295 dX12_reachE_288
          · have h296 := h260.2 c261
            refine g_iconst (v := zI 1) hC dX12_reachE_225 rfl ?_
            exact zr_zret hC hZ259 (Or.inr rfl) h296 dX12_reachE_226
      · have h297 := h10.2 c11
        refine g_aload_n hC dX12_reachE_167 rfl ?_
        refine g_bipush (v := zI 31) hC dX12_reachE_168 rfl ?_
        refine g_iload_n hC dX12_reachE_170 rfl ?_
        refine g_iconst (v := zI 0) hC dX12_reachE_171 rfl ?_
        refine g_aload_n hC dX12_reachE_172 rfl ?_
        refine zr_get (e := (zv s2 37)) hC hZ5 fl_X12_124 zb_37 (by decide) rfl dX12_reachE_173 ?_
        refine zr_callVv (As := [.int (zI 31), .int (zI a1), .int (zI 0), .int (zI (zv s2 37))]) hC hZ5 rfl (rm_goal X.la d b (by decide) Ra1 (by decide) (hZ5.rv 37) hZ5.rf h297) cl_X12_534 rfl rfl (Nat.le_of_ble_eq_true rfl) ⟨Nat.le_of_ble_eq_true rfl, Nat.le_of_ble_eq_true rfl⟩ dX12_reachE_176 (fun s299 F300 hZ302 h303 => ?_)
        refine g_iload_n hC dX12_reachE_179 rfl ?_
        refine g_bipush (v := zI 7) hC dX12_reachE_180 rfl ?_
        refine zr_icmp_ge (tgt := 199) hC Ra1 (by decide) dX12_reachE_182 (by decide) (fun c304 => ?_) (fun c304 => ?_)
        · have h305 := h303.1 c304
          refine g_aload_n hC dX12_reachE_199 rfl ?_
          refine g_bipush (v := zI 33) hC dX12_reachE_200 rfl ?_
          refine g_iconst (v := zI 0) hC dX12_reachE_202 rfl ?_
          refine g_iconst (v := zI 0) hC dX12_reachE_203 rfl ?_
          refine g_iconst (v := zI 0) hC dX12_reachE_204 rfl ?_
          refine zr_callVv (As := [.int (zI 33), .int (zI 0), .int (zI 0), .int (zI 0)]) hC hZ302 rfl (rm_goal X.la d b (by decide) (by decide) (by decide) (by decide) hZ302.rf h305) cl_X12_534 rfl rfl (Nat.le_of_ble_eq_true rfl) ⟨Nat.le_of_ble_eq_true rfl, Nat.le_of_ble_eq_true rfl⟩ dX12_reachE_205 (fun s307 F308 hZ310 h311 => ?_)
          refine g_iconst (v := zI 1) hC dX12_reachE_208 rfl ?_
          exact zr_zret hC hZ310 (Or.inr rfl) h311 dX12_reachE_209
        · have h312 := h303.2 c304
          refine g_aload_n hC dX12_reachE_185 rfl ?_
          refine g_bipush (v := zI 30) hC dX12_reachE_186 rfl ?_
          refine g_iload_n hC dX12_reachE_188 rfl ?_
          refine g_iconst (v := zI 1) hC dX12_reachE_189 rfl ?_
          refine zr_iadd hC dX12_reachE_190 ?_
          refine g_iconst (v := zI 0) hC dX12_reachE_191 rfl ?_
          refine g_iconst (v := zI 0) hC dX12_reachE_192 rfl ?_
          obtain ⟨o313, h314⟩ := h312
          refine zr_callVv (As := [.int (zI 30), .int (zI (a1 + 1)), .int (zI 0), .int (zI 0)]) hC hZ302 rfl (rm_goal X.la d b (by decide) o313 (by decide) (by decide) hZ302.rf h314) cl_X12_534 rfl rfl (Nat.le_of_ble_eq_true rfl) ⟨Nat.le_of_ble_eq_true rfl, Nat.le_of_ble_eq_true rfl⟩ dX12_reachE_193 (fun s316 F317 hZ319 h320 => ?_)
          refine g_goto (tgt := 208) hC dX12_reachE_196 (by decide) ?_
          refine g_iconst (v := zI 1) hC dX12_reachE_208 rfl ?_
          exact zr_zret hC hZ319 (Or.inr rfl) h320 dX12_reachE_209
    · have h321 := h8.2 c9
      refine g_iload_n hC dX12_reachE_47 rfl ?_
      refine zr_if_ne (tgt := 117) hC Ra1 dX12_reachE_48 (by decide) (fun c322 => ?_) (fun c322 => ?_)
      · have h323 := h321.1 c322
        refine g_iload_n hC dX12_reachE_117 rfl ?_
        refine g_iconst (v := zI 1) hC dX12_reachE_118 rfl ?_
        refine zr_icmp_ne (tgt := 148) hC Ra1 (by decide) dX12_reachE_119 (by decide) (fun c324 => ?_) (fun c324 => ?_)
        · have h325 := h323.1 c324
          refine g_aload_n hC dX12_reachE_148 rfl ?_
          refine g_bipush (v := zI 12) hC dX12_reachE_149 rfl ?_
          refine g_iload_n hC dX12_reachE_151 rfl ?_
          refine g_iload hC dX12_reachE_152 rfl ?_
          refine g_iconst (v := zI 0) hC dX12_reachE_154 rfl ?_
          refine zr_callVi (As := [.int (zI 12), .int (zI a2), .int (zI a3), .int (zI 0)]) hC hZ5 rfl (rm_shut X.la d b (by decide) Ra2 Ra3 (by decide) hZ5.rf h325) cl_X12_542 rfl rfl (Nat.le_of_ble_eq_true rfl) ⟨Nat.le_of_ble_eq_true rfl, Nat.le_of_ble_eq_true rfl⟩ dX12_reachE_155 (fun r326 s327 F328 R329 hZ330 h331 => ?_)
          refine g_pop hC dX12_reachE_158 rfl ?_
          refine g_iconst (v := zI 1) hC dX12_reachE_159 rfl ?_
          exact zr_zret hC hZ330 (Or.inr rfl) h331 dX12_reachE_160
        · have h332 := h323.2 c324
          refine g_aload_n hC dX12_reachE_122 rfl ?_
          refine g_bipush (v := zI 29) hC dX12_reachE_123 rfl ?_
          refine g_iconst (v := zI 2) hC dX12_reachE_125 rfl ?_
          refine g_iload_n hC dX12_reachE_126 rfl ?_
          refine g_iload hC dX12_reachE_127 rfl ?_
          refine zr_callVv (As := [.int (zI 29), .int (zI 2), .int (zI a2), .int (zI a3)]) hC hZ5 rfl (rm_goal X.la d b (by decide) (by decide) Ra2 Ra3 hZ5.rf h332) cl_X12_534 rfl rfl (Nat.le_of_ble_eq_true rfl) ⟨Nat.le_of_ble_eq_true rfl, Nat.le_of_ble_eq_true rfl⟩ dX12_reachE_129 (fun s334 F335 hZ337 h338 => ?_)
          refine g_aload_n hC dX12_reachE_132 rfl ?_
          refine g_bipush (v := zI 28) hC dX12_reachE_133 rfl ?_
          refine g_iconst (v := zI 0) hC dX12_reachE_135 rfl ?_
          refine g_iconst (v := zI 0) hC dX12_reachE_136 rfl ?_
          refine g_iconst (v := zI 0) hC dX12_reachE_137 rfl ?_
          refine zr_callVv (As := [.int (zI 28), .int (zI 0), .int (zI 0), .int (zI 0)]) hC hZ337 rfl (rm_goal X.la d b (by decide) (by decide) (by decide) (by decide) hZ337.rf h338) cl_X12_534 rfl rfl (Nat.le_of_ble_eq_true rfl) ⟨Nat.le_of_ble_eq_true rfl, Nat.le_of_ble_eq_true rfl⟩ dX12_reachE_138 (fun s340 F341 hZ343 h344 => ?_)
          refine g_aload_n hC dX12_reachE_141 rfl ?_
          refine g_bipush (v := zI 14) hC dX12_reachE_142 rfl ?_
          refine zr_callVi (As := [.int (zI 14)]) hC hZ343 rfl (rm_take X.la d b (by decide) hZ343.rf h344) cl_X12_549 rfl rfl (Nat.le_of_ble_eq_true rfl) ⟨Nat.le_of_ble_eq_true rfl, Nat.le_of_ble_eq_true rfl⟩ dX12_reachE_144 (fun r345 s346 F347 R348 hZ349 h350 => ?_)
          obtain ⟨o351, h352⟩ := h350
          exact zr_zret hC hZ349 o351 h352 dX12_reachE_147
      · have h353 := h321.2 c322
        refine g_iload hC dX12_reachE_51 rfl ?_
        refine g_bipush (v := zI 36) hC dX12_reachE_53 rfl ?_
        refine zr_icmp_eq (tgt := 60) hC R4 (by decide) dX12_reachE_55 (by decide) (fun c354 => ?_) (fun c354 => ?_)
        · have h355 := h353.1 c354
          refine g_aload_n hC dX12_reachE_60 rfl ?_
          refine zr_get (e := (zv s2 44)) hC hZ5 fl_X12_145 zb_44 (by decide) rfl dX12_reachE_61 ?_
          refine g_istore (lv' := [some (.ref t), some (.int (zI a0)), some (.int (zI a1)), some (.int (zI a2)), some (.int (zI a3)), some (.int (zI r1)), some (.int (zI (zv s2 43))), some (.int (zI (zv s2 44)))]) hC dX12_reachE_64 (Nat.le_of_ble_eq_true rfl) rfl rfl ?_
          refine g_aload_n hC dX12_reachE_66 rfl ?_
          refine zr_callVi (As := []) hC hZ5 rfl (rm_deeper X.la d b  hZ5.rf h355) cl_X12_530 rfl rfl (Nat.le_of_ble_eq_true rfl) ⟨Nat.le_of_ble_eq_true rfl, Nat.le_of_ble_eq_true rfl⟩ dX12_reachE_67 (fun r356 s357 F358 R359 hZ360 h361 => ?_)
          refine zr_if_ne (tgt := 75) hC R359 dX12_reachE_70 (by decide) (fun c362 => ?_) (fun c362 => ?_)
          · have h363 := h361.1 c362
            refine g_aload_n hC dX12_reachE_75 rfl ?_
            refine g_dup hC dX12_reachE_76 rfl ?_
            refine zr_get (e := (zv s357 43)) hC hZ360 fl_X12_142 zb_43 (by decide) rfl dX12_reachE_77 ?_
            refine g_iconst (v := zI 1) hC dX12_reachE_80 rfl ?_
            refine zr_iadd hC dX12_reachE_81 ?_
            obtain ⟨o364, h365⟩ := h363
            refine zr_put hC hZ360 fl_X12_142 zb_43 (by decide) o364 dX12_reachE_82 (fun F366 hZ367 => ?_)
            refine g_aload_n hC dX12_reachE_85 rfl ?_
            refine g_bipush (v := zI 15) hC dX12_reachE_86 rfl ?_
            refine g_iload hC dX12_reachE_88 rfl ?_
            refine g_iconst (v := zI 0) hC dX12_reachE_90 rfl ?_
            refine g_iconst (v := zI 0) hC dX12_reachE_91 rfl ?_
            refine zr_callVv (As := [.int (zI 15), .int (zI (zv s2 44)), .int (zI 0), .int (zI 0)]) hC hZ367 rfl (rm_goal X.la d b (by decide) (hZ5.rv 44) (by decide) (by decide) hZ367.rf h365) cl_X12_534 rfl rfl (Nat.le_of_ble_eq_true rfl) ⟨Nat.le_of_ble_eq_true rfl, Nat.le_of_ble_eq_true rfl⟩ dX12_reachE_92 (fun s369 F370 hZ372 h373 => ?_)
            refine g_aload_n hC dX12_reachE_95 rfl ?_
            refine g_bipush (v := zI 29) hC dX12_reachE_96 rfl ?_
            refine g_iconst (v := zI 1) hC dX12_reachE_98 rfl ?_
            refine g_iload hC dX12_reachE_99 rfl ?_
            refine g_iload hC dX12_reachE_101 rfl ?_
            refine zr_callVv (As := [.int (zI 29), .int (zI 1), .int (zI (zv s2 43)), .int (zI a3)]) hC hZ372 rfl (rm_goal X.la d b (by decide) (by decide) (hZ5.rv 43) Ra3 hZ372.rf h373) cl_X12_534 rfl rfl (Nat.le_of_ble_eq_true rfl) ⟨Nat.le_of_ble_eq_true rfl, Nat.le_of_ble_eq_true rfl⟩ dX12_reachE_103 (fun s375 F376 hZ378 h379 => ?_)
            refine g_aload_n hC dX12_reachE_106 rfl ?_
            refine g_bipush (v := zI 28) hC dX12_reachE_107 rfl ?_
            refine g_iconst (v := zI 0) hC dX12_reachE_109 rfl ?_
            refine g_iconst (v := zI 0) hC dX12_reachE_110 rfl ?_
            refine g_iconst (v := zI 0) hC dX12_reachE_111 rfl ?_
            refine zr_callVv (As := [.int (zI 28), .int (zI 0), .int (zI 0), .int (zI 0)]) hC hZ378 rfl (rm_goal X.la d b (by decide) (by decide) (by decide) (by decide) hZ378.rf h379) cl_X12_534 rfl rfl (Nat.le_of_ble_eq_true rfl) ⟨Nat.le_of_ble_eq_true rfl, Nat.le_of_ble_eq_true rfl⟩ dX12_reachE_112 (fun s381 F382 hZ384 h385 => ?_)
            refine g_iconst (v := zI 1) hC dX12_reachE_115 rfl ?_
            exact zr_zret hC hZ384 (Or.inr rfl) h385 dX12_reachE_116
          · have h386 := h361.2 c362
            refine g_iconst (v := zI 0) hC dX12_reachE_73 rfl ?_
            exact zr_zret hC hZ360 (Or.inl rfl) h386 dX12_reachE_74
        · have h387 := h353.2 c354
          refine g_iconst (v := zI 1) hC dX12_reachE_58 rfl ?_
          exact zr_zret hC hZ5 (Or.inr rfl) h387 dX12_reachE_59
  · have h388 := h6.2 c7
    refine g_aload_n hC dX12_reachE_18 rfl ?_
    refine g_bipush (v := zI 29) hC dX12_reachE_19 rfl ?_
    refine g_iconst (v := zI 0) hC dX12_reachE_21 rfl ?_
    refine g_iconst (v := zI 0) hC dX12_reachE_22 rfl ?_
    refine g_aload_n hC dX12_reachE_23 rfl ?_
    refine zr_get (e := (zv s2 37)) hC hZ5 fl_X12_124 zb_37 (by decide) rfl dX12_reachE_24 ?_
    refine zr_callVv (As := [.int (zI 29), .int (zI 0), .int (zI 0), .int (zI (zv s2 37))]) hC hZ5 rfl (rm_goal X.la d b (by decide) (by decide) (by decide) (hZ5.rv 37) hZ5.rf h388) cl_X12_534 rfl rfl (Nat.le_of_ble_eq_true rfl) ⟨Nat.le_of_ble_eq_true rfl, Nat.le_of_ble_eq_true rfl⟩ dX12_reachE_27 (fun s390 F391 hZ393 h394 => ?_)
    refine g_aload_n hC dX12_reachE_30 rfl ?_
    refine g_bipush (v := zI 30) hC dX12_reachE_31 rfl ?_
    refine g_iconst (v := zI 1) hC dX12_reachE_33 rfl ?_
    refine g_iconst (v := zI 0) hC dX12_reachE_34 rfl ?_
    refine g_iconst (v := zI 0) hC dX12_reachE_35 rfl ?_
    refine zr_callVv (As := [.int (zI 30), .int (zI 1), .int (zI 0), .int (zI 0)]) hC hZ393 rfl (rm_goal X.la d b (by decide) (by decide) (by decide) (by decide) hZ393.rf h394) cl_X12_534 rfl rfl (Nat.le_of_ble_eq_true rfl) ⟨Nat.le_of_ble_eq_true rfl, Nat.le_of_ble_eq_true rfl⟩ dX12_reachE_36 (fun s396 F397 hZ399 h400 => ?_)
    refine g_iconst (v := zI 1) hC dX12_reachE_39 rfl ?_
    exact zr_zret hC hZ399 (Or.inr rfl) h400 dX12_reachE_40
theorem dX12_reachP_0 : decode cX12_reachP 0 = .ok (.aload_n 0, 1) := by decide +kernel
theorem dX12_reachP_1 : decode cX12_reachP 1 = .ok (.getfield 142, 3) := by decide +kernel
theorem dX12_reachP_4 : decode cX12_reachP 4 = .ok (.istore_n 2, 1) := by decide +kernel
theorem dX12_reachP_5 : decode cX12_reachP 5 = .ok (.aload_n 0, 1) := by decide +kernel
theorem dX12_reachP_6 : decode cX12_reachP 6 = .ok (.getfield 124, 3) := by decide +kernel
theorem dX12_reachP_9 : decode cX12_reachP 9 = .ok (.istore_n 3, 1) := by decide +kernel
theorem dX12_reachP_10 : decode cX12_reachP 10 = .ok (.aload_n 0, 1) := by decide +kernel
theorem dX12_reachP_11 : decode cX12_reachP 11 = .ok (.iconst 1, 1) := by decide +kernel
theorem dX12_reachP_12 : decode cX12_reachP 12 = .ok (.invokevirtual 549, 3) := by decide +kernel
theorem dX12_reachP_15 : decode cX12_reachP 15 = .ok (.ifCond .ne 5, 3) := by decide +kernel
theorem dX12_reachP_18 : decode cX12_reachP 18 = .ok (.iconst 0, 1) := by decide +kernel
theorem dX12_reachP_19 : decode cX12_reachP 19 = .ok (.ireturn, 1) := by decide +kernel
theorem dX12_reachP_20 : decode cX12_reachP 20 = .ok (.aload_n 0, 1) := by decide +kernel
theorem dX12_reachP_21 : decode cX12_reachP 21 = .ok (.invokevirtual 526, 3) := by decide +kernel
theorem dX12_reachP_24 : decode cX12_reachP 24 = .ok (.bipush 12, 2) := by decide +kernel
theorem dX12_reachP_26 : decode cX12_reachP 26 = .ok (.if_icmp .ne 197, 3) := by decide +kernel
theorem dX12_reachP_29 : decode cX12_reachP 29 = .ok (.aload_n 0, 1) := by decide +kernel
theorem dX12_reachP_30 : decode cX12_reachP 30 = .ok (.dup, 1) := by decide +kernel
theorem dX12_reachP_31 : decode cX12_reachP 31 = .ok (.getfield 142, 3) := by decide +kernel
theorem dX12_reachP_34 : decode cX12_reachP 34 = .ok (.iconst 1, 1) := by decide +kernel
theorem dX12_reachP_35 : decode cX12_reachP 35 = .ok (.iadd, 1) := by decide +kernel
theorem dX12_reachP_36 : decode cX12_reachP 36 = .ok (.putfield 142, 3) := by decide +kernel
theorem dX12_reachP_39 : decode cX12_reachP 39 = .ok (.iconst 0, 1) := by decide +kernel
theorem dX12_reachP_40 : decode cX12_reachP 40 = .ok (.istore 4, 2) := by decide +kernel
theorem dX12_reachP_42 : decode cX12_reachP 42 = .ok (.aload_n 0, 1) := by decide +kernel
theorem dX12_reachP_43 : decode cX12_reachP 43 = .ok (.invokevirtual 526, 3) := by decide +kernel
theorem dX12_reachP_46 : decode cX12_reachP 46 = .ok (.iconst 1, 1) := by decide +kernel
theorem dX12_reachP_47 : decode cX12_reachP 47 = .ok (.if_icmp .ne 92, 3) := by decide +kernel
theorem dX12_reachP_50 : decode cX12_reachP 50 = .ok (.iload 4, 2) := by decide +kernel
theorem dX12_reachP_52 : decode cX12_reachP 52 = .ok (.bipush 20, 2) := by decide +kernel
theorem dX12_reachP_54 : decode cX12_reachP 54 = .ok (.if_icmp .ge 85, 3) := by decide +kernel
theorem dX12_reachP_57 : decode cX12_reachP 57 = .ok (.aload_n 0, 1) := by decide +kernel
theorem dX12_reachP_58 : decode cX12_reachP 58 = .ok (.bipush 57, 2) := by decide +kernel
theorem dX12_reachP_60 : decode cX12_reachP 60 = .ok (.aload_n 0, 1) := by decide +kernel
theorem dX12_reachP_61 : decode cX12_reachP 61 = .ok (.getfield 142, 3) := by decide +kernel
theorem dX12_reachP_64 : decode cX12_reachP 64 = .ok (.aload_n 0, 1) := by decide +kernel
theorem dX12_reachP_65 : decode cX12_reachP 65 = .ok (.getfield 45, 3) := by decide +kernel
theorem dX12_reachP_68 : decode cX12_reachP 68 = .ok (.aload_n 0, 1) := by decide +kernel
theorem dX12_reachP_69 : decode cX12_reachP 69 = .ok (.getfield 142, 3) := by decide +kernel
theorem dX12_reachP_72 : decode cX12_reachP 72 = .ok (.iaload, 1) := by decide +kernel
theorem dX12_reachP_73 : decode cX12_reachP 73 = .ok (.invokevirtual 570, 3) := by decide +kernel
theorem dX12_reachP_76 : decode cX12_reachP 76 = .ok (.aload_n 0, 1) := by decide +kernel
theorem dX12_reachP_77 : decode cX12_reachP 77 = .ok (.dup, 1) := by decide +kernel
theorem dX12_reachP_78 : decode cX12_reachP 78 = .ok (.getfield 142, 3) := by decide +kernel
theorem dX12_reachP_81 : decode cX12_reachP 81 = .ok (.iconst 1, 1) := by decide +kernel
theorem dX12_reachP_82 : decode cX12_reachP 82 = .ok (.iadd, 1) := by decide +kernel
theorem dX12_reachP_83 : decode cX12_reachP 83 = .ok (.putfield 142, 3) := by decide +kernel
theorem dX12_reachP_86 : decode cX12_reachP 86 = .ok (.iinc 4 1, 3) := by decide +kernel
theorem dX12_reachP_89 : decode cX12_reachP 89 = .ok (.aload_n 0, 1) := by decide +kernel
theorem dX12_reachP_90 : decode cX12_reachP 90 = .ok (.invokevirtual 526, 3) := by decide +kernel
theorem dX12_reachP_93 : decode cX12_reachP 93 = .ok (.bipush 13, 2) := by decide +kernel
theorem dX12_reachP_95 : decode cX12_reachP 95 = .ok (.if_icmp .ne 6, 3) := by decide +kernel
theorem dX12_reachP_98 : decode cX12_reachP 98 = .ok (.goto (-56), 3) := by decide +kernel
theorem dX12_reachP_101 : decode cX12_reachP 101 = .ok (.aload_n 0, 1) := by decide +kernel
theorem dX12_reachP_102 : decode cX12_reachP 102 = .ok (.invokevirtual 526, 3) := by decide +kernel
theorem dX12_reachP_105 : decode cX12_reachP 105 = .ok (.bipush 14, 2) := by decide +kernel
theorem dX12_reachP_107 : decode cX12_reachP 107 = .ok (.if_icmp .ne 10, 3) := by decide +kernel
theorem dX12_reachP_110 : decode cX12_reachP 110 = .ok (.iload 4, 2) := by decide +kernel
theorem dX12_reachP_112 : decode cX12_reachP 112 = .ok (.bipush 20, 2) := by decide +kernel
theorem dX12_reachP_114 : decode cX12_reachP 114 = .ok (.if_icmp .ne 5, 3) := by decide +kernel
theorem dX12_reachP_117 : decode cX12_reachP 117 = .ok (.iconst 0, 1) := by decide +kernel
theorem dX12_reachP_118 : decode cX12_reachP 118 = .ok (.ireturn, 1) := by decide +kernel
theorem dX12_reachP_119 : decode cX12_reachP 119 = .ok (.aload_n 0, 1) := by decide +kernel
theorem dX12_reachP_120 : decode cX12_reachP 120 = .ok (.dup, 1) := by decide +kernel
theorem dX12_reachP_121 : decode cX12_reachP 121 = .ok (.getfield 142, 3) := by decide +kernel
theorem dX12_reachP_124 : decode cX12_reachP 124 = .ok (.iconst 1, 1) := by decide +kernel
theorem dX12_reachP_125 : decode cX12_reachP 125 = .ok (.iadd, 1) := by decide +kernel
theorem dX12_reachP_126 : decode cX12_reachP 126 = .ok (.putfield 142, 3) := by decide +kernel
theorem dX12_reachP_129 : decode cX12_reachP 129 = .ok (.aload_n 0, 1) := by decide +kernel
theorem dX12_reachP_130 : decode cX12_reachP 130 = .ok (.invokevirtual 526, 3) := by decide +kernel
theorem dX12_reachP_133 : decode cX12_reachP 133 = .ok (.iconst 1, 1) := by decide +kernel
theorem dX12_reachP_134 : decode cX12_reachP 134 = .ok (.if_icmp .eq (-92), 3) := by decide +kernel
theorem dX12_reachP_137 : decode cX12_reachP 137 = .ok (.iconst 0, 1) := by decide +kernel
theorem dX12_reachP_138 : decode cX12_reachP 138 = .ok (.ireturn, 1) := by decide +kernel
theorem dX12_reachP_139 : decode cX12_reachP 139 = .ok (.aload_n 0, 1) := by decide +kernel
theorem dX12_reachP_140 : decode cX12_reachP 140 = .ok (.bipush 13, 2) := by decide +kernel
theorem dX12_reachP_142 : decode cX12_reachP 142 = .ok (.invokevirtual 549, 3) := by decide +kernel
theorem dX12_reachP_145 : decode cX12_reachP 145 = .ok (.ifCond .ne 5, 3) := by decide +kernel
theorem dX12_reachP_148 : decode cX12_reachP 148 = .ok (.iconst 0, 1) := by decide +kernel
theorem dX12_reachP_149 : decode cX12_reachP 149 = .ok (.ireturn, 1) := by decide +kernel
theorem dX12_reachP_150 : decode cX12_reachP 150 = .ok (.aload_n 0, 1) := by decide +kernel
theorem dX12_reachP_151 : decode cX12_reachP 151 = .ok (.invokevirtual 526, 3) := by decide +kernel
theorem dX12_reachP_154 : decode cX12_reachP 154 = .ok (.bipush 25, 2) := by decide +kernel
theorem dX12_reachP_156 : decode cX12_reachP 156 = .ok (.if_icmp .ne 7, 3) := by decide +kernel
theorem dX12_reachP_159 : decode cX12_reachP 159 = .ok (.iconst 1, 1) := by decide +kernel
theorem dX12_reachP_160 : decode cX12_reachP 160 = .ok (.goto 4, 3) := by decide +kernel
theorem dX12_reachP_163 : decode cX12_reachP 163 = .ok (.iconst 0, 1) := by decide +kernel
theorem dX12_reachP_164 : decode cX12_reachP 164 = .ok (.istore 5, 2) := by decide +kernel
theorem dX12_reachP_166 : decode cX12_reachP 166 = .ok (.iload 5, 2) := by decide +kernel
theorem dX12_reachP_168 : decode cX12_reachP 168 = .ok (.ifCond .ne 14, 3) := by decide +kernel
theorem dX12_reachP_171 : decode cX12_reachP 171 = .ok (.aload_n 0, 1) := by decide +kernel
theorem dX12_reachP_172 : decode cX12_reachP 172 = .ok (.invokevirtual 526, 3) := by decide +kernel
theorem dX12_reachP_175 : decode cX12_reachP 175 = .ok (.bipush 45, 2) := by decide +kernel
theorem dX12_reachP_177 : decode cX12_reachP 177 = .ok (.if_icmp .eq 5, 3) := by decide +kernel
theorem dX12_reachP_180 : decode cX12_reachP 180 = .ok (.iconst 0, 1) := by decide +kernel
theorem dX12_reachP_181 : decode cX12_reachP 181 = .ok (.ireturn, 1) := by decide +kernel
theorem dX12_reachP_182 : decode cX12_reachP 182 = .ok (.aload_n 0, 1) := by decide +kernel
theorem dX12_reachP_183 : decode cX12_reachP 183 = .ok (.dup, 1) := by decide +kernel
theorem dX12_reachP_184 : decode cX12_reachP 184 = .ok (.getfield 142, 3) := by decide +kernel
theorem dX12_reachP_187 : decode cX12_reachP 187 = .ok (.iconst 1, 1) := by decide +kernel
theorem dX12_reachP_188 : decode cX12_reachP 188 = .ok (.iadd, 1) := by decide +kernel
theorem dX12_reachP_189 : decode cX12_reachP 189 = .ok (.putfield 142, 3) := by decide +kernel
theorem dX12_reachP_192 : decode cX12_reachP 192 = .ok (.aload_n 0, 1) := by decide +kernel
theorem dX12_reachP_193 : decode cX12_reachP 193 = .ok (.bipush 6, 2) := by decide +kernel
theorem dX12_reachP_195 : decode cX12_reachP 195 = .ok (.bipush 54, 2) := by decide +kernel
theorem dX12_reachP_197 : decode cX12_reachP 197 = .ok (.iload_n 2, 1) := by decide +kernel
theorem dX12_reachP_198 : decode cX12_reachP 198 = .ok (.iload_n 3, 1) := by decide +kernel
theorem dX12_reachP_199 : decode cX12_reachP 199 = .ok (.invokevirtual 534, 3) := by decide +kernel
theorem dX12_reachP_202 : decode cX12_reachP 202 = .ok (.aload_n 0, 1) := by decide +kernel
theorem dX12_reachP_203 : decode cX12_reachP 203 = .ok (.iload 5, 2) := by decide +kernel
theorem dX12_reachP_205 : decode cX12_reachP 205 = .ok (.ifCond .eq 8, 3) := by decide +kernel
theorem dX12_reachP_208 : decode cX12_reachP 208 = .ok (.bipush 28, 2) := by decide +kernel
theorem dX12_reachP_210 : decode cX12_reachP 210 = .ok (.goto 5, 3) := by decide +kernel
theorem dX12_reachP_213 : decode cX12_reachP 213 = .ok (.bipush 11, 2) := by decide +kernel
theorem dX12_reachP_215 : decode cX12_reachP 215 = .ok (.iconst 0, 1) := by decide +kernel
theorem dX12_reachP_216 : decode cX12_reachP 216 = .ok (.iconst 0, 1) := by decide +kernel
theorem dX12_reachP_217 : decode cX12_reachP 217 = .ok (.iconst 0, 1) := by decide +kernel
theorem dX12_reachP_218 : decode cX12_reachP 218 = .ok (.invokevirtual 534, 3) := by decide +kernel
theorem dX12_reachP_221 : decode cX12_reachP 221 = .ok (.iconst 1, 1) := by decide +kernel
theorem dX12_reachP_222 : decode cX12_reachP 222 = .ok (.ireturn, 1) := by decide +kernel
theorem dX12_reachP_223 : decode cX12_reachP 223 = .ok (.iload_n 1, 1) := by decide +kernel
theorem dX12_reachP_224 : decode cX12_reachP 224 = .ok (.iconst 1, 1) := by decide +kernel
theorem dX12_reachP_225 : decode cX12_reachP 225 = .ok (.if_icmp .ne 5, 3) := by decide +kernel
theorem dX12_reachP_228 : decode cX12_reachP 228 = .ok (.iconst 0, 1) := by decide +kernel
theorem dX12_reachP_229 : decode cX12_reachP 229 = .ok (.ireturn, 1) := by decide +kernel
theorem dX12_reachP_230 : decode cX12_reachP 230 = .ok (.aload_n 0, 1) := by decide +kernel
theorem dX12_reachP_231 : decode cX12_reachP 231 = .ok (.bipush 58, 2) := by decide +kernel
theorem dX12_reachP_233 : decode cX12_reachP 233 = .ok (.iload_n 2, 1) := by decide +kernel
theorem dX12_reachP_234 : decode cX12_reachP 234 = .ok (.aload_n 0, 1) := by decide +kernel
theorem dX12_reachP_235 : decode cX12_reachP 235 = .ok (.getfield 45, 3) := by decide +kernel
theorem dX12_reachP_238 : decode cX12_reachP 238 = .ok (.iload_n 2, 1) := by decide +kernel
theorem dX12_reachP_239 : decode cX12_reachP 239 = .ok (.iaload, 1) := by decide +kernel
theorem dX12_reachP_240 : decode cX12_reachP 240 = .ok (.invokevirtual 570, 3) := by decide +kernel
theorem dX12_reachP_243 : decode cX12_reachP 243 = .ok (.iconst 1, 1) := by decide +kernel
theorem dX12_reachP_244 : decode cX12_reachP 244 = .ok (.istore 4, 2) := by decide +kernel
theorem dX12_reachP_246 : decode cX12_reachP 246 = .ok (.aload_n 0, 1) := by decide +kernel
theorem dX12_reachP_247 : decode cX12_reachP 247 = .ok (.bipush 14, 2) := by decide +kernel
theorem dX12_reachP_249 : decode cX12_reachP 249 = .ok (.invokevirtual 549, 3) := by decide +kernel
theorem dX12_reachP_252 : decode cX12_reachP 252 = .ok (.ifCond .eq 48, 3) := by decide +kernel
theorem dX12_reachP_255 : decode cX12_reachP 255 = .ok (.aload_n 0, 1) := by decide +kernel
theorem dX12_reachP_256 : decode cX12_reachP 256 = .ok (.invokevirtual 526, 3) := by decide +kernel
theorem dX12_reachP_259 : decode cX12_reachP 259 = .ok (.iconst 1, 1) := by decide +kernel
theorem dX12_reachP_260 : decode cX12_reachP 260 = .ok (.if_icmp .eq 5, 3) := by decide +kernel
theorem dX12_reachP_263 : decode cX12_reachP 263 = .ok (.iconst 0, 1) := by decide +kernel
theorem dX12_reachP_264 : decode cX12_reachP 264 = .ok (.ireturn, 1) := by decide +kernel
theorem dX12_reachP_265 : decode cX12_reachP 265 = .ok (.aload_n 0, 1) := by decide +kernel
theorem dX12_reachP_266 : decode cX12_reachP 266 = .ok (.bipush 58, 2) := by decide +kernel
theorem dX12_reachP_268 : decode cX12_reachP 268 = .ok (.aload_n 0, 1) := by decide +kernel
theorem dX12_reachP_269 : decode cX12_reachP 269 = .ok (.getfield 142, 3) := by decide +kernel
theorem dX12_reachP_272 : decode cX12_reachP 272 = .ok (.aload_n 0, 1) := by decide +kernel
theorem dX12_reachP_273 : decode cX12_reachP 273 = .ok (.getfield 45, 3) := by decide +kernel
theorem dX12_reachP_276 : decode cX12_reachP 276 = .ok (.aload_n 0, 1) := by decide +kernel
theorem dX12_reachP_277 : decode cX12_reachP 277 = .ok (.getfield 142, 3) := by decide +kernel
theorem dX12_reachP_280 : decode cX12_reachP 280 = .ok (.iaload, 1) := by decide +kernel
theorem dX12_reachP_281 : decode cX12_reachP 281 = .ok (.invokevirtual 570, 3) := by decide +kernel
theorem dX12_reachP_284 : decode cX12_reachP 284 = .ok (.aload_n 0, 1) := by decide +kernel
theorem dX12_reachP_285 : decode cX12_reachP 285 = .ok (.dup, 1) := by decide +kernel
theorem dX12_reachP_286 : decode cX12_reachP 286 = .ok (.getfield 142, 3) := by decide +kernel
theorem dX12_reachP_289 : decode cX12_reachP 289 = .ok (.iconst 1, 1) := by decide +kernel
theorem dX12_reachP_290 : decode cX12_reachP 290 = .ok (.iadd, 1) := by decide +kernel
theorem dX12_reachP_291 : decode cX12_reachP 291 = .ok (.putfield 142, 3) := by decide +kernel
theorem dX12_reachP_294 : decode cX12_reachP 294 = .ok (.iinc 4 1, 3) := by decide +kernel
theorem dX12_reachP_297 : decode cX12_reachP 297 = .ok (.goto (-51), 3) := by decide +kernel
theorem dX12_reachP_300 : decode cX12_reachP 300 = .ok (.aload_n 0, 1) := by decide +kernel
theorem dX12_reachP_301 : decode cX12_reachP 301 = .ok (.bipush 25, 2) := by decide +kernel
theorem dX12_reachP_303 : decode cX12_reachP 303 = .ok (.invokevirtual 549, 3) := by decide +kernel
theorem dX12_reachP_306 : decode cX12_reachP 306 = .ok (.ifCond .ne 5, 3) := by decide +kernel
theorem dX12_reachP_309 : decode cX12_reachP 309 = .ok (.iconst 0, 1) := by decide +kernel
theorem dX12_reachP_310 : decode cX12_reachP 310 = .ok (.ireturn, 1) := by decide +kernel
theorem dX12_reachP_311 : decode cX12_reachP 311 = .ok (.aload_n 0, 1) := by decide +kernel
theorem dX12_reachP_312 : decode cX12_reachP 312 = .ok (.bipush 6, 2) := by decide +kernel
theorem dX12_reachP_314 : decode cX12_reachP 314 = .ok (.bipush 55, 2) := by decide +kernel
theorem dX12_reachP_316 : decode cX12_reachP 316 = .ok (.iload_n 2, 1) := by decide +kernel
theorem dX12_reachP_317 : decode cX12_reachP 317 = .ok (.iload_n 3, 1) := by decide +kernel
theorem dX12_reachP_318 : decode cX12_reachP 318 = .ok (.invokevirtual 534, 3) := by decide +kernel
theorem dX12_reachP_321 : decode cX12_reachP 321 = .ok (.aload_n 0, 1) := by decide +kernel
theorem dX12_reachP_322 : decode cX12_reachP 322 = .ok (.bipush 9, 2) := by decide +kernel
theorem dX12_reachP_324 : decode cX12_reachP 324 = .ok (.iload 4, 2) := by decide +kernel
theorem dX12_reachP_326 : decode cX12_reachP 326 = .ok (.iconst 0, 1) := by decide +kernel
theorem dX12_reachP_327 : decode cX12_reachP 327 = .ok (.iconst 0, 1) := by decide +kernel
theorem dX12_reachP_328 : decode cX12_reachP 328 = .ok (.invokevirtual 534, 3) := by decide +kernel
theorem dX12_reachP_331 : decode cX12_reachP 331 = .ok (.iconst 1, 1) := by decide +kernel
theorem dX12_reachP_332 : decode cX12_reachP 332 = .ok (.ireturn, 1) := by decide +kernel
def wr_reachP_246B (Q : Int → zS → Prop) (k246 : zS → Int → Int → Int → Prop) (s0 : zS) (x2 : Int) (x3 : Int) (x4 : Int) : Prop :=
  wr_take s0 14 (fun r1 s2 => ((r1 = 0 → wr_take s2 25 (fun r9 s10 => ((¬ r9 = 0 → wr_goal s10 6 55 x2 x3 (fun s18 => wr_goal s18 9 x4 0 0 (fun s24 => Q 1 s24))) ∧ (r9 = 0 → Q 0 s10)))) ∧ (¬ r1 = 0 → wr_tk s2  (fun r31 s32 => ((r31 = 1 → (0 ≤ (zv s32 43)) ∧ ((zv s32 43) < 12100) ∧ wr_leaf s32 58 (zv s32 43) (za s32 11 (Int.toNat (zv s32 43))) (fun s44 => (zR ((zv s44 43) + 1)) ∧ (zR (x4 + 1)) ∧ k246 (zpv s44 43 ((zv s44 43) + 1)) x2 x3 (x4 + 1))) ∧ (¬ r31 = 1 → Q 0 s32))))))
def wr_reachP_246 (Q : Int → zS → Prop)  : Nat → zS → Int → Int → Int → Prop
  | 0 => fun _ _ _ _ => False
  | m + 1 => fun s0 x2 x3 x4 => wr_reachP_246B Q  (wr_reachP_246 Q  m) s0 x2 x3 x4
def wr_reachP_182 (Q : Int → zS → Prop)  (s0 : zS) (x2 : Int) (x3 : Int) (x5 : Int) : Prop :=
  (zR ((zv s0 43) + 1)) ∧ wr_goal (zpv s0 43 ((zv s0 43) + 1)) 6 54 x2 x3 (fun s6 => ((x5 = 0 → wr_goal s6 11 0 0 0 (fun s14 => Q 1 s14)) ∧ (¬ x5 = 0 → wr_goal s6 28 0 0 0 (fun s21 => Q 1 s21))))
def wr_reachP_139 (Q : Int → zS → Prop)  (s0 : zS) (x2 : Int) (x3 : Int) : Prop :=
  wr_take s0 13 (fun r1 s2 => ((¬ r1 = 0 → wr_tk s2  (fun r9 s10 => ((¬ r9 = 25 → wr_tk s10  (fun r18 s19 => ((r18 = 45 → wr_reachP_182 Q  s19 x2 x3 0) ∧ (¬ r18 = 45 → Q 0 s19)))) ∧ (r9 = 25 → wr_reachP_182 Q  s10 x2 x3 1)))) ∧ (r1 = 0 → Q 0 s2)))
def wr_reachP_42B (Q : Int → zS → Prop) (k42 : zS → Int → Int → Int → Prop) (s0 : zS) (x2 : Int) (x3 : Int) (x4 : Int) : Prop :=
  wr_tk s0  (fun r1 s2 => ((¬ r1 = 1 → wr_reachP_139 Q  s2 x2 x3) ∧ (r1 = 1 → ((20 ≤ x4 → wr_reachP_139 Q  s2 x2 x3) ∧ (¬ 20 ≤ x4 → (0 ≤ (zv s2 43)) ∧ ((zv s2 43) < 12100) ∧ wr_leaf s2 57 (zv s2 43) (za s2 11 (Int.toNat (zv s2 43))) (fun s18 => (zR ((zv s18 43) + 1)) ∧ wr_tk (zpv s18 43 ((zv s18 43) + 1))  (fun r27 s28 => ((¬ r27 = 13 → wr_tk s28  (fun r35 s36 => ((¬ r35 = 14 → Q 0 s36) ∧ (r35 = 14 → (zR (x4 + 1)) ∧ ((¬ (x4 + 1) = 20 → (zR ((zv s36 43) + 1)) ∧ wr_tk (zpv s36 43 ((zv s36 43) + 1))  (fun r52 s53 => ((r52 = 1 → k42 s53 x2 x3 (x4 + 1)) ∧ (¬ r52 = 1 → Q 0 s53)))) ∧ ((x4 + 1) = 20 → Q 0 s36)))))) ∧ (r27 = 13 → (zR (x4 + 1)) ∧ k42 s28 x2 x3 (x4 + 1))))))))))
def wr_reachP_42 (Q : Int → zS → Prop)  : Nat → zS → Int → Int → Int → Prop
  | 0 => fun _ _ _ _ => False
  | m + 1 => fun s0 x2 x3 x4 => wr_reachP_42B Q  (wr_reachP_42 Q  m) s0 x2 x3 x4
def wr_reachP (s0 : zS) (a0 : Int) (Q : Int → zS → Prop) : Prop :=
  wr_take s0 1 (fun r1 s2 => ((¬ r1 = 0 → wr_tk s2  (fun r9 s10 => ((¬ r9 = 12 → ((¬ a0 = 1 → (0 ≤ (zv s0 43)) ∧ ((zv s0 43) < 12100) ∧ wr_leaf s10 58 (zv s0 43) (za s10 11 (Int.toNat (zv s0 43))) (fun s24 => ∃ n, wr_reachP_246 Q  n s24 (zv s0 43) (zv s0 37) 1)) ∧ (a0 = 1 → Q 0 s10))) ∧ (r9 = 12 → (zR ((zv s10 43) + 1)) ∧ ∃ n, wr_reachP_42 Q  n (zpv s10 43 ((zv s10 43) + 1)) (zv s0 43) (zv s0 37) 0)))) ∧ (r1 = 0 → Q 0 s2)))
set_option maxHeartbeats 4000000 in
set_option maxRecDepth 100000 in
theorem rb_reachP_246 {X : gX} {d : gD} {b t : Nat} {T : Nat → Nat} {F0 : gM} (hC : gC RX12 cX12_reachP 6 (some .boolean) "reachP" (gR 2 0 0) d b X) {Q : Int → zS → Prop} {k246 : zS → Int → Int → Int → Prop} (hk246 : ∀ (F : gM) (s0 : zS) (x2 : Int) (x3 : Int) (x4 : Int), zR x2 → zR x3 → zR x4 → zZ d t T F0 F s0 → k246 s0 x2 x3 x4 → gG X d b (zQi X d b t T F0 Q) F 0 0 246 [some (.ref t), none, some (.int (zI x2)), some (.int (zI x3)), some (.int (zI x4)), none] []) {F : gM} {s0 : zS} {x2 : Int} {x3 : Int} {x4 : Int} (Rx2 : zR x2) (Rx3 : zR x3) (Rx4 : zR x4) (hZ : zZ d t T F0 F s0) (hw : wr_reachP_246B Q k246 s0 x2 x3 x4) : gG X d b (zQi X d b t T F0 Q) F 0 0 246 [some (.ref t), none, some (.int (zI x2)), some (.int (zI x3)), some (.int (zI x4)), none] [] := by
  unfold wr_reachP_246B at hw
  refine g_aload_n hC dX12_reachP_246 rfl ?_
  refine g_bipush (v := zI 14) hC dX12_reachP_247 rfl ?_
  refine zr_callVi (As := [.int (zI 14)]) hC hZ rfl (rm_take X.la d b (by decide) hZ.rf hw) cl_X12_549 rfl rfl (Nat.le_of_ble_eq_true rfl) ⟨Nat.le_of_ble_eq_true rfl, Nat.le_of_ble_eq_true rfl⟩ dX12_reachP_249 (fun r1 s2 F3 R4 hZ5 h6 => ?_)
  refine zr_if_eq (tgt := 300) hC R4 dX12_reachP_252 (by decide) (fun c7 => ?_) (fun c7 => ?_)
  · have h8 := h6.1 c7
    refine g_aload_n hC dX12_reachP_300 rfl ?_
    refine g_bipush (v := zI 25) hC dX12_reachP_301 rfl ?_
    refine zr_callVi (As := [.int (zI 25)]) hC hZ5 rfl (rm_take X.la d b (by decide) hZ5.rf h8) cl_X12_549 rfl rfl (Nat.le_of_ble_eq_true rfl) ⟨Nat.le_of_ble_eq_true rfl, Nat.le_of_ble_eq_true rfl⟩ dX12_reachP_303 (fun r9 s10 F11 R12 hZ13 h14 => ?_)
    refine zr_if_ne (tgt := 311) hC R12 dX12_reachP_306 (by decide) (fun c15 => ?_) (fun c15 => ?_)
    · have h16 := h14.1 c15
      refine g_aload_n hC dX12_reachP_311 rfl ?_
      refine g_bipush (v := zI 6) hC dX12_reachP_312 rfl ?_
      refine g_bipush (v := zI 55) hC dX12_reachP_314 rfl ?_
      refine g_iload_n hC dX12_reachP_316 rfl ?_
      refine g_iload_n hC dX12_reachP_317 rfl ?_
      refine zr_callVv (As := [.int (zI 6), .int (zI 55), .int (zI x2), .int (zI x3)]) hC hZ13 rfl (rm_goal X.la d b (by decide) (by decide) Rx2 Rx3 hZ13.rf h16) cl_X12_534 rfl rfl (Nat.le_of_ble_eq_true rfl) ⟨Nat.le_of_ble_eq_true rfl, Nat.le_of_ble_eq_true rfl⟩ dX12_reachP_318 (fun s18 F19 hZ21 h22 => ?_)
      refine g_aload_n hC dX12_reachP_321 rfl ?_
      refine g_bipush (v := zI 9) hC dX12_reachP_322 rfl ?_
      refine g_iload hC dX12_reachP_324 rfl ?_
      refine g_iconst (v := zI 0) hC dX12_reachP_326 rfl ?_
      refine g_iconst (v := zI 0) hC dX12_reachP_327 rfl ?_
      refine zr_callVv (As := [.int (zI 9), .int (zI x4), .int (zI 0), .int (zI 0)]) hC hZ21 rfl (rm_goal X.la d b (by decide) Rx4 (by decide) (by decide) hZ21.rf h22) cl_X12_534 rfl rfl (Nat.le_of_ble_eq_true rfl) ⟨Nat.le_of_ble_eq_true rfl, Nat.le_of_ble_eq_true rfl⟩ dX12_reachP_328 (fun s24 F25 hZ27 h28 => ?_)
      refine g_iconst (v := zI 1) hC dX12_reachP_331 rfl ?_
      exact zr_zret hC hZ27 (Or.inr rfl) h28 dX12_reachP_332
    · have h29 := h14.2 c15
      refine g_iconst (v := zI 0) hC dX12_reachP_309 rfl ?_
      exact zr_zret hC hZ13 (Or.inl rfl) h29 dX12_reachP_310
  · have h30 := h6.2 c7
    refine g_aload_n hC dX12_reachP_255 rfl ?_
    refine zr_callVi (As := []) hC hZ5 rfl (rm_tk X.la d b  hZ5.rf h30) cl_X12_526 rfl rfl (Nat.le_of_ble_eq_true rfl) ⟨Nat.le_of_ble_eq_true rfl, Nat.le_of_ble_eq_true rfl⟩ dX12_reachP_256 (fun r31 s32 F33 R34 hZ35 h36 => ?_)
    refine g_iconst (v := zI 1) hC dX12_reachP_259 rfl ?_
    refine zr_icmp_eq (tgt := 265) hC R34 (by decide) dX12_reachP_260 (by decide) (fun c37 => ?_) (fun c37 => ?_)
    · have h38 := h36.1 c37
      refine g_aload_n hC dX12_reachP_265 rfl ?_
      refine g_bipush (v := zI 58) hC dX12_reachP_266 rfl ?_
      refine g_aload_n hC dX12_reachP_268 rfl ?_
      refine zr_get (e := (zv s32 43)) hC hZ35 fl_X12_142 zb_43 (by decide) rfl dX12_reachP_269 ?_
      refine g_aload_n hC dX12_reachP_272 rfl ?_
      refine zr_geta hC hZ35 fl_X12_45 zb_11 (by decide) dX12_reachP_273 ?_
      refine g_aload_n hC dX12_reachP_276 rfl ?_
      refine zr_get (e := (zv s32 43)) hC hZ35 fl_X12_142 zb_43 (by decide) rfl dX12_reachP_277 ?_
      obtain ⟨o39, h40⟩ := h38
      obtain ⟨o41, h42⟩ := h40
      refine zr_iald (v := (za s32 11 (Int.toNat (zv s32 43)))) hC hZ35 zk_11 zb_11 zn_11 (by decide) o39 o41 rfl dX12_reachP_280 ?_
      refine zr_callVv (As := [.int (zI 58), .int (zI (zv s32 43)), .int (zI (za s32 11 (Int.toNat (zv s32 43))))]) hC hZ35 rfl (rm_leaf X.la d b (by decide) (hZ35.rv 43) (hZ35.ra 11 _) hZ35.rf h42) cl_X12_570 rfl rfl (Nat.le_of_ble_eq_true rfl) ⟨Nat.le_of_ble_eq_true rfl, Nat.le_of_ble_eq_true rfl⟩ dX12_reachP_281 (fun s44 F45 hZ47 h48 => ?_)
      refine g_aload_n hC dX12_reachP_284 rfl ?_
      refine g_dup hC dX12_reachP_285 rfl ?_
      refine zr_get (e := (zv s44 43)) hC hZ47 fl_X12_142 zb_43 (by decide) rfl dX12_reachP_286 ?_
      refine g_iconst (v := zI 1) hC dX12_reachP_289 rfl ?_
      refine zr_iadd hC dX12_reachP_290 ?_
      obtain ⟨o49, h50⟩ := h48
      refine zr_put hC hZ47 fl_X12_142 zb_43 (by decide) o49 dX12_reachP_291 (fun F51 hZ52 => ?_)
      refine zr_iinc (x := x4) (lv' := [some (.ref t), none, some (.int (zI x2)), some (.int (zI x3)), some (.int (zI (x4 + 1))), none]) hC dX12_reachP_294 rfl rfl rfl ?_
      refine g_goto (tgt := 246) hC dX12_reachP_297 (by decide) ?_
      obtain ⟨o53, h54⟩ := h50
      exact hk246 _ _ _ _ _ Rx2 Rx3 o53 hZ52 h54
    · have h55 := h36.2 c37
      refine g_iconst (v := zI 0) hC dX12_reachP_263 rfl ?_
      exact zr_zret hC hZ35 (Or.inl rfl) h55 dX12_reachP_264
theorem rl_reachP_246 {X : gX} {d : gD} {b t : Nat} {T : Nat → Nat} {F0 : gM} (hC : gC RX12 cX12_reachP 6 (some .boolean) "reachP" (gR 2 0 0) d b X) {Q : Int → zS → Prop}   : ∀ (m : Nat) (F : gM) (s0 : zS) (x2 : Int) (x3 : Int) (x4 : Int), zR x2 → zR x3 → zR x4 → zZ d t T F0 F s0 → wr_reachP_246 Q  m s0 x2 x3 x4 → gG X d b (zQi X d b t T F0 Q) F 0 0 246 [some (.ref t), none, some (.int (zI x2)), some (.int (zI x3)), some (.int (zI x4)), none] [] := by
  intro m
  induction m with
  | zero => intro F s0 x2 x3 x4 Rx2 Rx3 Rx4 hZ hw; exact False.elim hw
  | succ m ih => intro F s0 x2 x3 x4 Rx2 Rx3 Rx4 hZ hw; exact rb_reachP_246 hC  ih Rx2 Rx3 Rx4 hZ hw
set_option maxHeartbeats 4000000 in
set_option maxRecDepth 100000 in
theorem rj_reachP_182 {X : gX} {d : gD} {b t : Nat} {T : Nat → Nat} {F0 : gM} (hC : gC RX12 cX12_reachP 6 (some .boolean) "reachP" (gR 2 0 0) d b X) {Q : Int → zS → Prop}   {F : gM} {s0 : zS} {x2 : Int} {x3 : Int} {x5 : Int} (Rx2 : zR x2) (Rx3 : zR x3) (Rx5 : zR x5) (hZ : zZ d t T F0 F s0) (hw : wr_reachP_182 Q  s0 x2 x3 x5) : gG X d b (zQi X d b t T F0 Q) F 0 0 182 [some (.ref t), none, some (.int (zI x2)), some (.int (zI x3)), none, some (.int (zI x5))] [] := by
  unfold wr_reachP_182 at hw
  refine g_aload_n hC dX12_reachP_182 rfl ?_
  refine g_dup hC dX12_reachP_183 rfl ?_
  refine zr_get (e := (zv s0 43)) hC hZ fl_X12_142 zb_43 (by decide) rfl dX12_reachP_184 ?_
  refine g_iconst (v := zI 1) hC dX12_reachP_187 rfl ?_
  refine zr_iadd hC dX12_reachP_188 ?_
  obtain ⟨o1, h2⟩ := hw
  refine zr_put hC hZ fl_X12_142 zb_43 (by decide) o1 dX12_reachP_189 (fun F3 hZ4 => ?_)
  refine g_aload_n hC dX12_reachP_192 rfl ?_
  refine g_bipush (v := zI 6) hC dX12_reachP_193 rfl ?_
  refine g_bipush (v := zI 54) hC dX12_reachP_195 rfl ?_
  refine g_iload_n hC dX12_reachP_197 rfl ?_
  refine g_iload_n hC dX12_reachP_198 rfl ?_
  refine zr_callVv (As := [.int (zI 6), .int (zI 54), .int (zI x2), .int (zI x3)]) hC hZ4 rfl (rm_goal X.la d b (by decide) (by decide) Rx2 Rx3 hZ4.rf h2) cl_X12_534 rfl rfl (Nat.le_of_ble_eq_true rfl) ⟨Nat.le_of_ble_eq_true rfl, Nat.le_of_ble_eq_true rfl⟩ dX12_reachP_199 (fun s6 F7 hZ9 h10 => ?_)
  refine g_aload_n hC dX12_reachP_202 rfl ?_
  refine g_iload hC dX12_reachP_203 rfl ?_
  refine zr_if_eq (tgt := 213) hC Rx5 dX12_reachP_205 (by decide) (fun c11 => ?_) (fun c11 => ?_)
  · have h12 := h10.1 c11
    refine g_bipush (v := zI 11) hC dX12_reachP_213 rfl ?_
    refine g_iconst (v := zI 0) hC dX12_reachP_215 rfl ?_
    refine g_iconst (v := zI 0) hC dX12_reachP_216 rfl ?_
    refine g_iconst (v := zI 0) hC dX12_reachP_217 rfl ?_
    refine zr_callVv (As := [.int (zI 11), .int (zI 0), .int (zI 0), .int (zI 0)]) hC hZ9 rfl (rm_goal X.la d b (by decide) (by decide) (by decide) (by decide) hZ9.rf h12) cl_X12_534 rfl rfl (Nat.le_of_ble_eq_true rfl) ⟨Nat.le_of_ble_eq_true rfl, Nat.le_of_ble_eq_true rfl⟩ dX12_reachP_218 (fun s14 F15 hZ17 h18 => ?_)
    refine g_iconst (v := zI 1) hC dX12_reachP_221 rfl ?_
    exact zr_zret hC hZ17 (Or.inr rfl) h18 dX12_reachP_222
  · have h19 := h10.2 c11
    refine g_bipush (v := zI 28) hC dX12_reachP_208 rfl ?_
    refine g_goto (tgt := 215) hC dX12_reachP_210 (by decide) ?_
    refine g_iconst (v := zI 0) hC dX12_reachP_215 rfl ?_
    refine g_iconst (v := zI 0) hC dX12_reachP_216 rfl ?_
    refine g_iconst (v := zI 0) hC dX12_reachP_217 rfl ?_
    refine zr_callVv (As := [.int (zI 28), .int (zI 0), .int (zI 0), .int (zI 0)]) hC hZ9 rfl (rm_goal X.la d b (by decide) (by decide) (by decide) (by decide) hZ9.rf h19) cl_X12_534 rfl rfl (Nat.le_of_ble_eq_true rfl) ⟨Nat.le_of_ble_eq_true rfl, Nat.le_of_ble_eq_true rfl⟩ dX12_reachP_218 (fun s21 F22 hZ24 h25 => ?_)
    refine g_iconst (v := zI 1) hC dX12_reachP_221 rfl ?_
    exact zr_zret hC hZ24 (Or.inr rfl) h25 dX12_reachP_222
set_option maxHeartbeats 4000000 in
set_option maxRecDepth 100000 in
theorem rj_reachP_139 {X : gX} {d : gD} {b t : Nat} {T : Nat → Nat} {F0 : gM} (hC : gC RX12 cX12_reachP 6 (some .boolean) "reachP" (gR 2 0 0) d b X) {Q : Int → zS → Prop}   {F : gM} {s0 : zS} {x2 : Int} {x3 : Int} (Rx2 : zR x2) (Rx3 : zR x3) (hZ : zZ d t T F0 F s0) (hw : wr_reachP_139 Q  s0 x2 x3) : gG X d b (zQi X d b t T F0 Q) F 0 0 139 [some (.ref t), none, some (.int (zI x2)), some (.int (zI x3)), none, none] [] := by
  unfold wr_reachP_139 at hw
  refine g_aload_n hC dX12_reachP_139 rfl ?_
  refine g_bipush (v := zI 13) hC dX12_reachP_140 rfl ?_
  refine zr_callVi (As := [.int (zI 13)]) hC hZ rfl (rm_take X.la d b (by decide) hZ.rf hw) cl_X12_549 rfl rfl (Nat.le_of_ble_eq_true rfl) ⟨Nat.le_of_ble_eq_true rfl, Nat.le_of_ble_eq_true rfl⟩ dX12_reachP_142 (fun r1 s2 F3 R4 hZ5 h6 => ?_)
  refine zr_if_ne (tgt := 150) hC R4 dX12_reachP_145 (by decide) (fun c7 => ?_) (fun c7 => ?_)
  · have h8 := h6.1 c7
    refine g_aload_n hC dX12_reachP_150 rfl ?_
    refine zr_callVi (As := []) hC hZ5 rfl (rm_tk X.la d b  hZ5.rf h8) cl_X12_526 rfl rfl (Nat.le_of_ble_eq_true rfl) ⟨Nat.le_of_ble_eq_true rfl, Nat.le_of_ble_eq_true rfl⟩ dX12_reachP_151 (fun r9 s10 F11 R12 hZ13 h14 => ?_)
    refine g_bipush (v := zI 25) hC dX12_reachP_154 rfl ?_
    refine zr_icmp_ne (tgt := 163) hC R12 (by decide) dX12_reachP_156 (by decide) (fun c15 => ?_) (fun c15 => ?_)
    · have h16 := h14.1 c15
      refine g_iconst (v := zI 0) hC dX12_reachP_163 rfl ?_
      refine g_istore (lv' := [some (.ref t), none, some (.int (zI x2)), some (.int (zI x3)), none, some (.int (zI 0))]) hC dX12_reachP_164 (Nat.le_of_ble_eq_true rfl) rfl rfl ?_
      refine g_iload hC dX12_reachP_166 rfl ?_
      refine zr_if_ne (tgt := 182) hC (by decide) dX12_reachP_168 (by decide) (fun c17 => ?_) (fun c17 => ?_)
      · exact absurd (by decide) c17
      · refine g_aload_n hC dX12_reachP_171 rfl ?_
        refine zr_callVi (As := []) hC hZ13 rfl (rm_tk X.la d b  hZ13.rf h16) cl_X12_526 rfl rfl (Nat.le_of_ble_eq_true rfl) ⟨Nat.le_of_ble_eq_true rfl, Nat.le_of_ble_eq_true rfl⟩ dX12_reachP_172 (fun r18 s19 F20 R21 hZ22 h23 => ?_)
        refine g_bipush (v := zI 45) hC dX12_reachP_175 rfl ?_
        refine zr_icmp_eq (tgt := 182) hC R21 (by decide) dX12_reachP_177 (by decide) (fun c24 => ?_) (fun c24 => ?_)
        · have h25 := h23.1 c24
          exact rj_reachP_182 hC  Rx2 Rx3 (by decide) hZ22 h25
        · have h26 := h23.2 c24
          refine g_iconst (v := zI 0) hC dX12_reachP_180 rfl ?_
          exact zr_zret hC hZ22 (Or.inl rfl) h26 dX12_reachP_181
    · have h27 := h14.2 c15
      refine g_iconst (v := zI 1) hC dX12_reachP_159 rfl ?_
      refine g_goto (tgt := 164) hC dX12_reachP_160 (by decide) ?_
      refine g_istore (lv' := [some (.ref t), none, some (.int (zI x2)), some (.int (zI x3)), none, some (.int (zI 1))]) hC dX12_reachP_164 (Nat.le_of_ble_eq_true rfl) rfl rfl ?_
      refine g_iload hC dX12_reachP_166 rfl ?_
      refine zr_if_ne (tgt := 182) hC (by decide) dX12_reachP_168 (by decide) (fun c28 => ?_) (fun c28 => ?_)
      · exact rj_reachP_182 hC  Rx2 Rx3 (by decide) hZ13 h27
      · exact absurd c28 (by decide)
  · have h29 := h6.2 c7
    refine g_iconst (v := zI 0) hC dX12_reachP_148 rfl ?_
    exact zr_zret hC hZ5 (Or.inl rfl) h29 dX12_reachP_149
set_option maxHeartbeats 4000000 in
set_option maxRecDepth 100000 in
theorem rb_reachP_42 {X : gX} {d : gD} {b t : Nat} {T : Nat → Nat} {F0 : gM} (hC : gC RX12 cX12_reachP 6 (some .boolean) "reachP" (gR 2 0 0) d b X) {Q : Int → zS → Prop} {k42 : zS → Int → Int → Int → Prop} (hk42 : ∀ (F : gM) (s0 : zS) (x2 : Int) (x3 : Int) (x4 : Int), zR x2 → zR x3 → zR x4 → zZ d t T F0 F s0 → k42 s0 x2 x3 x4 → gG X d b (zQi X d b t T F0 Q) F 0 0 42 [some (.ref t), none, some (.int (zI x2)), some (.int (zI x3)), some (.int (zI x4)), none] []) {F : gM} {s0 : zS} {x2 : Int} {x3 : Int} {x4 : Int} (Rx2 : zR x2) (Rx3 : zR x3) (Rx4 : zR x4) (hZ : zZ d t T F0 F s0) (hw : wr_reachP_42B Q k42 s0 x2 x3 x4) : gG X d b (zQi X d b t T F0 Q) F 0 0 42 [some (.ref t), none, some (.int (zI x2)), some (.int (zI x3)), some (.int (zI x4)), none] [] := by
  unfold wr_reachP_42B at hw
  refine g_aload_n hC dX12_reachP_42 rfl ?_
  refine zr_callVi (As := []) hC hZ rfl (rm_tk X.la d b  hZ.rf hw) cl_X12_526 rfl rfl (Nat.le_of_ble_eq_true rfl) ⟨Nat.le_of_ble_eq_true rfl, Nat.le_of_ble_eq_true rfl⟩ dX12_reachP_43 (fun r1 s2 F3 R4 hZ5 h6 => ?_)
  refine g_iconst (v := zI 1) hC dX12_reachP_46 rfl ?_
  refine zr_icmp_ne (tgt := 139) hC R4 (by decide) dX12_reachP_47 (by decide) (fun c7 => ?_) (fun c7 => ?_)
  · have h8 := h6.1 c7
    refine g_lv (lv' := [some (.ref t), none, some (.int (zI x2)), some (.int (zI x3)), none, none]) ⟨rfl, rfl, rfl, trivial⟩ ?_
    exact rj_reachP_139 hC  Rx2 Rx3 hZ5 h8
  · have h9 := h6.2 c7
    refine g_iload hC dX12_reachP_50 rfl ?_
    refine g_bipush (v := zI 20) hC dX12_reachP_52 rfl ?_
    refine zr_icmp_ge (tgt := 139) hC Rx4 (by decide) dX12_reachP_54 (by decide) (fun c10 => ?_) (fun c10 => ?_)
    · have h11 := h9.1 c10
      refine g_lv (lv' := [some (.ref t), none, some (.int (zI x2)), some (.int (zI x3)), none, none]) ⟨rfl, rfl, rfl, trivial⟩ ?_
      exact rj_reachP_139 hC  Rx2 Rx3 hZ5 h11
    · have h12 := h9.2 c10
      refine g_aload_n hC dX12_reachP_57 rfl ?_
      refine g_bipush (v := zI 57) hC dX12_reachP_58 rfl ?_
      refine g_aload_n hC dX12_reachP_60 rfl ?_
      refine zr_get (e := (zv s2 43)) hC hZ5 fl_X12_142 zb_43 (by decide) rfl dX12_reachP_61 ?_
      refine g_aload_n hC dX12_reachP_64 rfl ?_
      refine zr_geta hC hZ5 fl_X12_45 zb_11 (by decide) dX12_reachP_65 ?_
      refine g_aload_n hC dX12_reachP_68 rfl ?_
      refine zr_get (e := (zv s2 43)) hC hZ5 fl_X12_142 zb_43 (by decide) rfl dX12_reachP_69 ?_
      obtain ⟨o13, h14⟩ := h12
      obtain ⟨o15, h16⟩ := h14
      refine zr_iald (v := (za s2 11 (Int.toNat (zv s2 43)))) hC hZ5 zk_11 zb_11 zn_11 (by decide) o13 o15 rfl dX12_reachP_72 ?_
      refine zr_callVv (As := [.int (zI 57), .int (zI (zv s2 43)), .int (zI (za s2 11 (Int.toNat (zv s2 43))))]) hC hZ5 rfl (rm_leaf X.la d b (by decide) (hZ5.rv 43) (hZ5.ra 11 _) hZ5.rf h16) cl_X12_570 rfl rfl (Nat.le_of_ble_eq_true rfl) ⟨Nat.le_of_ble_eq_true rfl, Nat.le_of_ble_eq_true rfl⟩ dX12_reachP_73 (fun s18 F19 hZ21 h22 => ?_)
      refine g_aload_n hC dX12_reachP_76 rfl ?_
      refine g_dup hC dX12_reachP_77 rfl ?_
      refine zr_get (e := (zv s18 43)) hC hZ21 fl_X12_142 zb_43 (by decide) rfl dX12_reachP_78 ?_
      refine g_iconst (v := zI 1) hC dX12_reachP_81 rfl ?_
      refine zr_iadd hC dX12_reachP_82 ?_
      obtain ⟨o23, h24⟩ := h22
      refine zr_put hC hZ21 fl_X12_142 zb_43 (by decide) o23 dX12_reachP_83 (fun F25 hZ26 => ?_)
      refine zr_iinc (x := x4) (lv' := [some (.ref t), none, some (.int (zI x2)), some (.int (zI x3)), some (.int (zI (x4 + 1))), none]) hC dX12_reachP_86 rfl rfl rfl ?_
      refine g_aload_n hC dX12_reachP_89 rfl ?_
      refine zr_callVi (As := []) hC hZ26 rfl (rm_tk X.la d b  hZ26.rf h24) cl_X12_526 rfl rfl (Nat.le_of_ble_eq_true rfl) ⟨Nat.le_of_ble_eq_true rfl, Nat.le_of_ble_eq_true rfl⟩ dX12_reachP_90 (fun r27 s28 F29 R30 hZ31 h32 => ?_)
      refine g_bipush (v := zI 13) hC dX12_reachP_93 rfl ?_
      refine zr_icmp_ne (tgt := 101) hC R30 (by decide) dX12_reachP_95 (by decide) (fun c33 => ?_) (fun c33 => ?_)
      · have h34 := h32.1 c33
        refine g_aload_n hC dX12_reachP_101 rfl ?_
        refine zr_callVi (As := []) hC hZ31 rfl (rm_tk X.la d b  hZ31.rf h34) cl_X12_526 rfl rfl (Nat.le_of_ble_eq_true rfl) ⟨Nat.le_of_ble_eq_true rfl, Nat.le_of_ble_eq_true rfl⟩ dX12_reachP_102 (fun r35 s36 F37 R38 hZ39 h40 => ?_)
        refine g_bipush (v := zI 14) hC dX12_reachP_105 rfl ?_
        refine zr_icmp_ne (tgt := 117) hC R38 (by decide) dX12_reachP_107 (by decide) (fun c41 => ?_) (fun c41 => ?_)
        · have h42 := h40.1 c41
          refine g_iconst (v := zI 0) hC dX12_reachP_117 rfl ?_
          exact zr_zret hC hZ39 (Or.inl rfl) h42 dX12_reachP_118
        · have h43 := h40.2 c41
          refine g_iload hC dX12_reachP_110 rfl ?_
          refine g_bipush (v := zI 20) hC dX12_reachP_112 rfl ?_
          obtain ⟨o44, h45⟩ := h43
          refine zr_icmp_ne (tgt := 119) hC o44 (by decide) dX12_reachP_114 (by decide) (fun c46 => ?_) (fun c46 => ?_)
          · have h47 := h45.1 c46
            refine g_aload_n hC dX12_reachP_119 rfl ?_
            refine g_dup hC dX12_reachP_120 rfl ?_
            refine zr_get (e := (zv s36 43)) hC hZ39 fl_X12_142 zb_43 (by decide) rfl dX12_reachP_121 ?_
            refine g_iconst (v := zI 1) hC dX12_reachP_124 rfl ?_
            refine zr_iadd hC dX12_reachP_125 ?_
            obtain ⟨o48, h49⟩ := h47
            refine zr_put hC hZ39 fl_X12_142 zb_43 (by decide) o48 dX12_reachP_126 (fun F50 hZ51 => ?_)
            refine g_aload_n hC dX12_reachP_129 rfl ?_
            refine zr_callVi (As := []) hC hZ51 rfl (rm_tk X.la d b  hZ51.rf h49) cl_X12_526 rfl rfl (Nat.le_of_ble_eq_true rfl) ⟨Nat.le_of_ble_eq_true rfl, Nat.le_of_ble_eq_true rfl⟩ dX12_reachP_130 (fun r52 s53 F54 R55 hZ56 h57 => ?_)
            refine g_iconst (v := zI 1) hC dX12_reachP_133 rfl ?_
            refine zr_icmp_eq (tgt := 42) hC R55 (by decide) dX12_reachP_134 (by decide) (fun c58 => ?_) (fun c58 => ?_)
            · have h59 := h57.1 c58
              exact hk42 _ _ _ _ _ Rx2 Rx3 o44 hZ56 h59
            · have h60 := h57.2 c58
              refine g_iconst (v := zI 0) hC dX12_reachP_137 rfl ?_
              exact zr_zret hC hZ56 (Or.inl rfl) h60 dX12_reachP_138
          · have h61 := h45.2 c46
            refine g_iconst (v := zI 0) hC dX12_reachP_117 rfl ?_
            exact zr_zret hC hZ39 (Or.inl rfl) h61 dX12_reachP_118
      · have h62 := h32.2 c33
        refine g_goto (tgt := 42) hC dX12_reachP_98 (by decide) ?_
        obtain ⟨o63, h64⟩ := h62
        exact hk42 _ _ _ _ _ Rx2 Rx3 o63 hZ31 h64
theorem rl_reachP_42 {X : gX} {d : gD} {b t : Nat} {T : Nat → Nat} {F0 : gM} (hC : gC RX12 cX12_reachP 6 (some .boolean) "reachP" (gR 2 0 0) d b X) {Q : Int → zS → Prop}   : ∀ (m : Nat) (F : gM) (s0 : zS) (x2 : Int) (x3 : Int) (x4 : Int), zR x2 → zR x3 → zR x4 → zZ d t T F0 F s0 → wr_reachP_42 Q  m s0 x2 x3 x4 → gG X d b (zQi X d b t T F0 Q) F 0 0 42 [some (.ref t), none, some (.int (zI x2)), some (.int (zI x3)), some (.int (zI x4)), none] [] := by
  intro m
  induction m with
  | zero => intro F s0 x2 x3 x4 Rx2 Rx3 Rx4 hZ hw; exact False.elim hw
  | succ m ih => intro F s0 x2 x3 x4 Rx2 Rx3 Rx4 hZ hw; exact rb_reachP_42 hC  ih Rx2 Rx3 Rx4 hZ hw
set_option maxHeartbeats 4000000 in
set_option maxRecDepth 100000 in
theorem rm_reachP (l : Launch) (d : gD) (b : Nat) {t : Nat} {T : Nat → Nat} {F : gM} {s0 : zS} {a0 : Int} (Ra0 : zR a0) {Q : Int → zS → Prop} (hZ : zZ d t T F F s0) (hw : wr_reachP s0 a0 Q) : gMi l d b yX12_reachP cX12_reachP 6 .boolean 2 0 0 F [.ref t, .int (zI a0)] (zPi d t T F Q) := by
  refine gM_of2 rfl (nL := 6) (Nat.le_of_ble_eq_true rfl) ?_
  intro X hX hC; subst hX
  show gG X d b (zQi X d b t T F Q) F 0 0 0 [some (.ref t), some (.int (zI a0)), none, none, none, none] []
  unfold wr_reachP at hw
  refine g_aload_n hC dX12_reachP_0 rfl ?_
  refine zr_get (e := (zv s0 43)) hC hZ fl_X12_142 zb_43 (by decide) rfl dX12_reachP_1 ?_
  refine g_istore_n (lv' := [some (.ref t), some (.int (zI a0)), some (.int (zI (zv s0 43))), none, none, none]) hC dX12_reachP_4 (Nat.le_of_ble_eq_true rfl) rfl rfl ?_
  refine g_aload_n hC dX12_reachP_5 rfl ?_
  refine zr_get (e := (zv s0 37)) hC hZ fl_X12_124 zb_37 (by decide) rfl dX12_reachP_6 ?_
  refine g_istore_n (lv' := [some (.ref t), some (.int (zI a0)), some (.int (zI (zv s0 43))), some (.int (zI (zv s0 37))), none, none]) hC dX12_reachP_9 (Nat.le_of_ble_eq_true rfl) rfl rfl ?_
  refine g_aload_n hC dX12_reachP_10 rfl ?_
  refine g_iconst (v := zI 1) hC dX12_reachP_11 rfl ?_
  refine zr_callVi (As := [.int (zI 1)]) hC hZ rfl (rm_take X.la d b (by decide) hZ.rf hw) cl_X12_549 rfl rfl (Nat.le_of_ble_eq_true rfl) ⟨Nat.le_of_ble_eq_true rfl, Nat.le_of_ble_eq_true rfl⟩ dX12_reachP_12 (fun r1 s2 F3 R4 hZ5 h6 => ?_)
  refine zr_if_ne (tgt := 20) hC R4 dX12_reachP_15 (by decide) (fun c7 => ?_) (fun c7 => ?_)
  · have h8 := h6.1 c7
    refine g_aload_n hC dX12_reachP_20 rfl ?_
    refine zr_callVi (As := []) hC hZ5 rfl (rm_tk X.la d b  hZ5.rf h8) cl_X12_526 rfl rfl (Nat.le_of_ble_eq_true rfl) ⟨Nat.le_of_ble_eq_true rfl, Nat.le_of_ble_eq_true rfl⟩ dX12_reachP_21 (fun r9 s10 F11 R12 hZ13 h14 => ?_)
    refine g_bipush (v := zI 12) hC dX12_reachP_24 rfl ?_
    refine zr_icmp_ne (tgt := 223) hC R12 (by decide) dX12_reachP_26 (by decide) (fun c15 => ?_) (fun c15 => ?_)
    · have h16 := h14.1 c15
      refine g_iload_n hC dX12_reachP_223 rfl ?_
      refine g_iconst (v := zI 1) hC dX12_reachP_224 rfl ?_
      refine zr_icmp_ne (tgt := 230) hC Ra0 (by decide) dX12_reachP_225 (by decide) (fun c17 => ?_) (fun c17 => ?_)
      · have h18 := h16.1 c17
        refine g_aload_n hC dX12_reachP_230 rfl ?_
        refine g_bipush (v := zI 58) hC dX12_reachP_231 rfl ?_
        refine g_iload_n hC dX12_reachP_233 rfl ?_
        refine g_aload_n hC dX12_reachP_234 rfl ?_
        refine zr_geta hC hZ13 fl_X12_45 zb_11 (by decide) dX12_reachP_235 ?_
        refine g_iload_n hC dX12_reachP_238 rfl ?_
        obtain ⟨o19, h20⟩ := h18
        obtain ⟨o21, h22⟩ := h20
        refine zr_iald (v := (za s10 11 (Int.toNat (zv s0 43)))) hC hZ13 zk_11 zb_11 zn_11 (by decide) o19 o21 rfl dX12_reachP_239 ?_
        refine zr_callVv (As := [.int (zI 58), .int (zI (zv s0 43)), .int (zI (za s10 11 (Int.toNat (zv s0 43))))]) hC hZ13 rfl (rm_leaf X.la d b (by decide) (hZ.rv 43) (hZ13.ra 11 _) hZ13.rf h22) cl_X12_570 rfl rfl (Nat.le_of_ble_eq_true rfl) ⟨Nat.le_of_ble_eq_true rfl, Nat.le_of_ble_eq_true rfl⟩ dX12_reachP_240 (fun s24 F25 hZ27 h28 => ?_)
        refine g_iconst (v := zI 1) hC dX12_reachP_243 rfl ?_
        refine g_istore (lv' := [some (.ref t), some (.int (zI a0)), some (.int (zI (zv s0 43))), some (.int (zI (zv s0 37))), some (.int (zI 1)), none]) hC dX12_reachP_244 (Nat.le_of_ble_eq_true rfl) rfl rfl ?_
        refine g_lv (lv' := [some (.ref t), none, some (.int (zI (zv s0 43))), some (.int (zI (zv s0 37))), some (.int (zI 1)), none]) ⟨rfl, rfl, rfl, rfl, trivial⟩ ?_
        obtain ⟨m29, h30⟩ := h28
        exact rl_reachP_246 hC  m29 _ _ _ _ _ (hZ.rv 43) (hZ.rv 37) (by decide) hZ27 h30
      · have h31 := h16.2 c17
        refine g_iconst (v := zI 0) hC dX12_reachP_228 rfl ?_
        exact zr_zret hC hZ13 (Or.inl rfl) h31 dX12_reachP_229
    · have h32 := h14.2 c15
      refine g_aload_n hC dX12_reachP_29 rfl ?_
      refine g_dup hC dX12_reachP_30 rfl ?_
      refine zr_get (e := (zv s10 43)) hC hZ13 fl_X12_142 zb_43 (by decide) rfl dX12_reachP_31 ?_
      refine g_iconst (v := zI 1) hC dX12_reachP_34 rfl ?_
      refine zr_iadd hC dX12_reachP_35 ?_
      obtain ⟨o33, h34⟩ := h32
      refine zr_put hC hZ13 fl_X12_142 zb_43 (by decide) o33 dX12_reachP_36 (fun F35 hZ36 => ?_)
      refine g_iconst (v := zI 0) hC dX12_reachP_39 rfl ?_
      refine g_istore (lv' := [some (.ref t), some (.int (zI a0)), some (.int (zI (zv s0 43))), some (.int (zI (zv s0 37))), some (.int (zI 0)), none]) hC dX12_reachP_40 (Nat.le_of_ble_eq_true rfl) rfl rfl ?_
      refine g_lv (lv' := [some (.ref t), none, some (.int (zI (zv s0 43))), some (.int (zI (zv s0 37))), some (.int (zI 0)), none]) ⟨rfl, rfl, rfl, rfl, trivial⟩ ?_
      obtain ⟨m37, h38⟩ := h34
      exact rl_reachP_42 hC  m37 _ _ _ _ _ (hZ.rv 43) (hZ.rv 37) (by decide) hZ36 h38
  · have h39 := h6.2 c7
    refine g_iconst (v := zI 0) hC dX12_reachP_18 rfl ?_
    exact zr_zret hC hZ5 (Or.inl rfl) h39 dX12_reachP_19
theorem dX12_reachD_0 : decode cX12_reachD 0 = .ok (.aload_n 0, 1) := by decide +kernel
theorem dX12_reachD_1 : decode cX12_reachD 1 = .ok (.invokevirtual 526, 3) := by decide +kernel
theorem dX12_reachD_4 : decode cX12_reachD 4 = .ok (.istore 5, 2) := by decide +kernel
theorem dX12_reachD_6 : decode cX12_reachD 6 = .ok (.iload_n 1, 1) := by decide +kernel
theorem dX12_reachD_7 : decode cX12_reachD 7 = .ok (.iconst 3, 1) := by decide +kernel
theorem dX12_reachD_8 : decode cX12_reachD 8 = .ok (.if_icmp .ne 123, 3) := by decide +kernel
theorem dX12_reachD_11 : decode cX12_reachD 11 = .ok (.aload_n 0, 1) := by decide +kernel
theorem dX12_reachD_12 : decode cX12_reachD 12 = .ok (.getfield 124, 3) := by decide +kernel
theorem dX12_reachD_15 : decode cX12_reachD 15 = .ok (.istore 6, 2) := by decide +kernel
theorem dX12_reachD_17 : decode cX12_reachD 17 = .ok (.aload_n 0, 1) := by decide +kernel
theorem dX12_reachD_18 : decode cX12_reachD 18 = .ok (.getfield 142, 3) := by decide +kernel
theorem dX12_reachD_21 : decode cX12_reachD 21 = .ok (.istore 7, 2) := by decide +kernel
theorem dX12_reachD_23 : decode cX12_reachD 23 = .ok (.iload 5, 2) := by decide +kernel
theorem dX12_reachD_25 : decode cX12_reachD 25 = .ok (.invokestatic 561, 3) := by decide +kernel
theorem dX12_reachD_28 : decode cX12_reachD 28 = .ok (.ifCond .ne 5, 3) := by decide +kernel
theorem dX12_reachD_31 : decode cX12_reachD 31 = .ok (.iconst 0, 1) := by decide +kernel
theorem dX12_reachD_32 : decode cX12_reachD 32 = .ok (.ireturn, 1) := by decide +kernel
theorem dX12_reachD_33 : decode cX12_reachD 33 = .ok (.aload_n 0, 1) := by decide +kernel
theorem dX12_reachD_34 : decode cX12_reachD 34 = .ok (.dup, 1) := by decide +kernel
theorem dX12_reachD_35 : decode cX12_reachD 35 = .ok (.getfield 142, 3) := by decide +kernel
theorem dX12_reachD_38 : decode cX12_reachD 38 = .ok (.iconst 1, 1) := by decide +kernel
theorem dX12_reachD_39 : decode cX12_reachD 39 = .ok (.iadd, 1) := by decide +kernel
theorem dX12_reachD_40 : decode cX12_reachD 40 = .ok (.putfield 142, 3) := by decide +kernel
theorem dX12_reachD_43 : decode cX12_reachD 43 = .ok (.iload 5, 2) := by decide +kernel
theorem dX12_reachD_45 : decode cX12_reachD 45 = .ok (.bipush 43, 2) := by decide +kernel
theorem dX12_reachD_47 : decode cX12_reachD 47 = .ok (.if_icmp .ne 25, 3) := by decide +kernel
theorem dX12_reachD_50 : decode cX12_reachD 50 = .ok (.aload_n 0, 1) := by decide +kernel
theorem dX12_reachD_51 : decode cX12_reachD 51 = .ok (.bipush 8, 2) := by decide +kernel
theorem dX12_reachD_53 : decode cX12_reachD 53 = .ok (.iload_n 2, 1) := by decide +kernel
theorem dX12_reachD_54 : decode cX12_reachD 54 = .ok (.iload 7, 2) := by decide +kernel
theorem dX12_reachD_56 : decode cX12_reachD 56 = .ok (.iload 6, 2) := by decide +kernel
theorem dX12_reachD_58 : decode cX12_reachD 58 = .ok (.invokevirtual 534, 3) := by decide +kernel
theorem dX12_reachD_61 : decode cX12_reachD 61 = .ok (.aload_n 0, 1) := by decide +kernel
theorem dX12_reachD_62 : decode cX12_reachD 62 = .ok (.bipush 7, 2) := by decide +kernel
theorem dX12_reachD_64 : decode cX12_reachD 64 = .ok (.iload_n 2, 1) := by decide +kernel
theorem dX12_reachD_65 : decode cX12_reachD 65 = .ok (.iconst 0, 1) := by decide +kernel
theorem dX12_reachD_66 : decode cX12_reachD 66 = .ok (.iconst 0, 1) := by decide +kernel
theorem dX12_reachD_67 : decode cX12_reachD 67 = .ok (.invokevirtual 534, 3) := by decide +kernel
theorem dX12_reachD_70 : decode cX12_reachD 70 = .ok (.iconst 1, 1) := by decide +kernel
theorem dX12_reachD_71 : decode cX12_reachD 71 = .ok (.ireturn, 1) := by decide +kernel
theorem dX12_reachD_72 : decode cX12_reachD 72 = .ok (.iload 5, 2) := by decide +kernel
theorem dX12_reachD_74 : decode cX12_reachD 74 = .ok (.bipush 40, 2) := by decide +kernel
theorem dX12_reachD_76 : decode cX12_reachD 76 = .ok (.if_icmp .ne 8, 3) := by decide +kernel
theorem dX12_reachD_79 : decode cX12_reachD 79 = .ok (.bipush 50, 2) := by decide +kernel
theorem dX12_reachD_81 : decode cX12_reachD 81 = .ok (.goto 17, 3) := by decide +kernel
theorem dX12_reachD_84 : decode cX12_reachD 84 = .ok (.iload 5, 2) := by decide +kernel
theorem dX12_reachD_86 : decode cX12_reachD 86 = .ok (.bipush 41, 2) := by decide +kernel
theorem dX12_reachD_88 : decode cX12_reachD 88 = .ok (.if_icmp .ne 8, 3) := by decide +kernel
theorem dX12_reachD_91 : decode cX12_reachD 91 = .ok (.bipush 51, 2) := by decide +kernel
theorem dX12_reachD_93 : decode cX12_reachD 93 = .ok (.goto 5, 3) := by decide +kernel
theorem dX12_reachD_96 : decode cX12_reachD 96 = .ok (.bipush 52, 2) := by decide +kernel
theorem dX12_reachD_98 : decode cX12_reachD 98 = .ok (.istore 8, 2) := by decide +kernel
theorem dX12_reachD_100 : decode cX12_reachD 100 = .ok (.aload_n 0, 1) := by decide +kernel
theorem dX12_reachD_101 : decode cX12_reachD 101 = .ok (.invokevirtual 552, 3) := by decide +kernel
theorem dX12_reachD_104 : decode cX12_reachD 104 = .ok (.ifCond .ne 5, 3) := by decide +kernel
theorem dX12_reachD_107 : decode cX12_reachD 107 = .ok (.iconst 0, 1) := by decide +kernel
theorem dX12_reachD_108 : decode cX12_reachD 108 = .ok (.ireturn, 1) := by decide +kernel
theorem dX12_reachD_109 : decode cX12_reachD 109 = .ok (.aload_n 0, 1) := by decide +kernel
theorem dX12_reachD_110 : decode cX12_reachD 110 = .ok (.iconst 5, 1) := by decide +kernel
theorem dX12_reachD_111 : decode cX12_reachD 111 = .ok (.iload 8, 2) := by decide +kernel
theorem dX12_reachD_113 : decode cX12_reachD 113 = .ok (.iload 7, 2) := by decide +kernel
theorem dX12_reachD_115 : decode cX12_reachD 115 = .ok (.iload 6, 2) := by decide +kernel
theorem dX12_reachD_117 : decode cX12_reachD 117 = .ok (.invokevirtual 534, 3) := by decide +kernel
theorem dX12_reachD_120 : decode cX12_reachD 120 = .ok (.aload_n 0, 1) := by decide +kernel
theorem dX12_reachD_121 : decode cX12_reachD 121 = .ok (.iconst 4, 1) := by decide +kernel
theorem dX12_reachD_122 : decode cX12_reachD 122 = .ok (.iload 8, 2) := by decide +kernel
theorem dX12_reachD_124 : decode cX12_reachD 124 = .ok (.iconst 0, 1) := by decide +kernel
theorem dX12_reachD_125 : decode cX12_reachD 125 = .ok (.iconst 0, 1) := by decide +kernel
theorem dX12_reachD_126 : decode cX12_reachD 126 = .ok (.invokevirtual 534, 3) := by decide +kernel
theorem dX12_reachD_129 : decode cX12_reachD 129 = .ok (.iconst 1, 1) := by decide +kernel
theorem dX12_reachD_130 : decode cX12_reachD 130 = .ok (.ireturn, 1) := by decide +kernel
theorem dX12_reachD_131 : decode cX12_reachD 131 = .ok (.iload_n 1, 1) := by decide +kernel
theorem dX12_reachD_132 : decode cX12_reachD 132 = .ok (.iconst 4, 1) := by decide +kernel
theorem dX12_reachD_133 : decode cX12_reachD 133 = .ok (.if_icmp .ne 65, 3) := by decide +kernel
theorem dX12_reachD_136 : decode cX12_reachD 136 = .ok (.aload_n 0, 1) := by decide +kernel
theorem dX12_reachD_137 : decode cX12_reachD 137 = .ok (.getfield 142, 3) := by decide +kernel
theorem dX12_reachD_140 : decode cX12_reachD 140 = .ok (.istore 6, 2) := by decide +kernel
theorem dX12_reachD_142 : decode cX12_reachD 142 = .ok (.aload_n 0, 1) := by decide +kernel
theorem dX12_reachD_143 : decode cX12_reachD 143 = .ok (.iconst 1, 1) := by decide +kernel
theorem dX12_reachD_144 : decode cX12_reachD 144 = .ok (.invokevirtual 549, 3) := by decide +kernel
theorem dX12_reachD_147 : decode cX12_reachD 147 = .ok (.ifCond .ne 5, 3) := by decide +kernel
theorem dX12_reachD_150 : decode cX12_reachD 150 = .ok (.iconst 0, 1) := by decide +kernel
theorem dX12_reachD_151 : decode cX12_reachD 151 = .ok (.ireturn, 1) := by decide +kernel
theorem dX12_reachD_152 : decode cX12_reachD 152 = .ok (.aload_n 0, 1) := by decide +kernel
theorem dX12_reachD_153 : decode cX12_reachD 153 = .ok (.bipush 6, 2) := by decide +kernel
theorem dX12_reachD_155 : decode cX12_reachD 155 = .ok (.bipush 56, 2) := by decide +kernel
theorem dX12_reachD_157 : decode cX12_reachD 157 = .ok (.iload 6, 2) := by decide +kernel
theorem dX12_reachD_159 : decode cX12_reachD 159 = .ok (.aload_n 0, 1) := by decide +kernel
theorem dX12_reachD_160 : decode cX12_reachD 160 = .ok (.getfield 124, 3) := by decide +kernel
theorem dX12_reachD_163 : decode cX12_reachD 163 = .ok (.invokevirtual 534, 3) := by decide +kernel
theorem dX12_reachD_166 : decode cX12_reachD 166 = .ok (.aload_n 0, 1) := by decide +kernel
theorem dX12_reachD_167 : decode cX12_reachD 167 = .ok (.bipush 28, 2) := by decide +kernel
theorem dX12_reachD_169 : decode cX12_reachD 169 = .ok (.iconst 0, 1) := by decide +kernel
theorem dX12_reachD_170 : decode cX12_reachD 170 = .ok (.iconst 0, 1) := by decide +kernel
theorem dX12_reachD_171 : decode cX12_reachD 171 = .ok (.iconst 0, 1) := by decide +kernel
theorem dX12_reachD_172 : decode cX12_reachD 172 = .ok (.invokevirtual 534, 3) := by decide +kernel
theorem dX12_reachD_175 : decode cX12_reachD 175 = .ok (.aload_n 0, 1) := by decide +kernel
theorem dX12_reachD_176 : decode cX12_reachD 176 = .ok (.bipush 16, 2) := by decide +kernel
theorem dX12_reachD_178 : decode cX12_reachD 178 = .ok (.iload_n 2, 1) := by decide +kernel
theorem dX12_reachD_179 : decode cX12_reachD 179 = .ok (.bipush 50, 2) := by decide +kernel
theorem dX12_reachD_181 : decode cX12_reachD 181 = .ok (.if_icmp .ne 8, 3) := by decide +kernel
theorem dX12_reachD_184 : decode cX12_reachD 184 = .ok (.bipush 17, 2) := by decide +kernel
theorem dX12_reachD_186 : decode cX12_reachD 186 = .ok (.goto 5, 3) := by decide +kernel
theorem dX12_reachD_189 : decode cX12_reachD 189 = .ok (.bipush 25, 2) := by decide +kernel
theorem dX12_reachD_191 : decode cX12_reachD 191 = .ok (.iconst 0, 1) := by decide +kernel
theorem dX12_reachD_192 : decode cX12_reachD 192 = .ok (.iconst 0, 1) := by decide +kernel
theorem dX12_reachD_193 : decode cX12_reachD 193 = .ok (.invokevirtual 534, 3) := by decide +kernel
theorem dX12_reachD_196 : decode cX12_reachD 196 = .ok (.iconst 1, 1) := by decide +kernel
theorem dX12_reachD_197 : decode cX12_reachD 197 = .ok (.ireturn, 1) := by decide +kernel
theorem dX12_reachD_198 : decode cX12_reachD 198 = .ok (.iload_n 1, 1) := by decide +kernel
theorem dX12_reachD_199 : decode cX12_reachD 199 = .ok (.iconst 5, 1) := by decide +kernel
theorem dX12_reachD_200 : decode cX12_reachD 200 = .ok (.if_icmp .ne 52, 3) := by decide +kernel
theorem dX12_reachD_203 : decode cX12_reachD 203 = .ok (.aload_n 0, 1) := by decide +kernel
theorem dX12_reachD_204 : decode cX12_reachD 204 = .ok (.bipush 15, 2) := by decide +kernel
theorem dX12_reachD_206 : decode cX12_reachD 206 = .ok (.invokevirtual 549, 3) := by decide +kernel
theorem dX12_reachD_209 : decode cX12_reachD 209 = .ok (.ifCond .eq 22, 3) := by decide +kernel
theorem dX12_reachD_212 : decode cX12_reachD 212 = .ok (.aload_n 0, 1) := by decide +kernel
theorem dX12_reachD_213 : decode cX12_reachD 213 = .ok (.iconst 5, 1) := by decide +kernel
theorem dX12_reachD_214 : decode cX12_reachD 214 = .ok (.iload_n 2, 1) := by decide +kernel
theorem dX12_reachD_215 : decode cX12_reachD 215 = .ok (.iload_n 3, 1) := by decide +kernel
theorem dX12_reachD_216 : decode cX12_reachD 216 = .ok (.iload 4, 2) := by decide +kernel
theorem dX12_reachD_218 : decode cX12_reachD 218 = .ok (.invokevirtual 534, 3) := by decide +kernel
theorem dX12_reachD_221 : decode cX12_reachD 221 = .ok (.aload_n 0, 1) := by decide +kernel
theorem dX12_reachD_222 : decode cX12_reachD 222 = .ok (.iconst 4, 1) := by decide +kernel
theorem dX12_reachD_223 : decode cX12_reachD 223 = .ok (.iload_n 2, 1) := by decide +kernel
theorem dX12_reachD_224 : decode cX12_reachD 224 = .ok (.iconst 0, 1) := by decide +kernel
theorem dX12_reachD_225 : decode cX12_reachD 225 = .ok (.iconst 0, 1) := by decide +kernel
theorem dX12_reachD_226 : decode cX12_reachD 226 = .ok (.invokevirtual 534, 3) := by decide +kernel
theorem dX12_reachD_229 : decode cX12_reachD 229 = .ok (.iconst 1, 1) := by decide +kernel
theorem dX12_reachD_230 : decode cX12_reachD 230 = .ok (.ireturn, 1) := by decide +kernel
theorem dX12_reachD_231 : decode cX12_reachD 231 = .ok (.aload_n 0, 1) := by decide +kernel
theorem dX12_reachD_232 : decode cX12_reachD 232 = .ok (.invokevirtual 564, 3) := by decide +kernel
theorem dX12_reachD_235 : decode cX12_reachD 235 = .ok (.ifCond .ne 5, 3) := by decide +kernel
theorem dX12_reachD_238 : decode cX12_reachD 238 = .ok (.iconst 0, 1) := by decide +kernel
theorem dX12_reachD_239 : decode cX12_reachD 239 = .ok (.ireturn, 1) := by decide +kernel
theorem dX12_reachD_240 : decode cX12_reachD 240 = .ok (.aload_n 0, 1) := by decide +kernel
theorem dX12_reachD_241 : decode cX12_reachD 241 = .ok (.iload_n 2, 1) := by decide +kernel
theorem dX12_reachD_242 : decode cX12_reachD 242 = .ok (.iload_n 3, 1) := by decide +kernel
theorem dX12_reachD_243 : decode cX12_reachD 243 = .ok (.iload 4, 2) := by decide +kernel
theorem dX12_reachD_245 : decode cX12_reachD 245 = .ok (.iconst 0, 1) := by decide +kernel
theorem dX12_reachD_246 : decode cX12_reachD 246 = .ok (.invokevirtual 542, 3) := by decide +kernel
theorem dX12_reachD_249 : decode cX12_reachD 249 = .ok (.pop, 1) := by decide +kernel
theorem dX12_reachD_250 : decode cX12_reachD 250 = .ok (.iconst 1, 1) := by decide +kernel
theorem dX12_reachD_251 : decode cX12_reachD 251 = .ok (.ireturn, 1) := by decide +kernel
theorem dX12_reachD_252 : decode cX12_reachD 252 = .ok (.iload_n 1, 1) := by decide +kernel
theorem dX12_reachD_253 : decode cX12_reachD 253 = .ok (.bipush 8, 2) := by decide +kernel
theorem dX12_reachD_255 : decode cX12_reachD 255 = .ok (.if_icmp .ne 67, 3) := by decide +kernel
theorem dX12_reachD_258 : decode cX12_reachD 258 = .ok (.aload_n 0, 1) := by decide +kernel
theorem dX12_reachD_259 : decode cX12_reachD 259 = .ok (.getfield 87, 3) := by decide +kernel
theorem dX12_reachD_262 : decode cX12_reachD 262 = .ok (.aload_n 0, 1) := by decide +kernel
theorem dX12_reachD_263 : decode cX12_reachD 263 = .ok (.getfield 121, 3) := by decide +kernel
theorem dX12_reachD_266 : decode cX12_reachD 266 = .ok (.aload_n 0, 1) := by decide +kernel
theorem dX12_reachD_267 : decode cX12_reachD 267 = .ok (.getfield 124, 3) := by decide +kernel
theorem dX12_reachD_270 : decode cX12_reachD 270 = .ok (.iconst 1, 1) := by decide +kernel
theorem dX12_reachD_271 : decode cX12_reachD 271 = .ok (.isub, 1) := by decide +kernel
theorem dX12_reachD_272 : decode cX12_reachD 272 = .ok (.iaload, 1) := by decide +kernel
theorem dX12_reachD_273 : decode cX12_reachD 273 = .ok (.baload, 1) := by decide +kernel
theorem dX12_reachD_274 : decode cX12_reachD 274 = .ok (.bipush 54, 2) := by decide +kernel
theorem dX12_reachD_276 : decode cX12_reachD 276 = .ok (.if_icmp .ne 33, 3) := by decide +kernel
theorem dX12_reachD_279 : decode cX12_reachD 279 = .ok (.aload_n 0, 1) := by decide +kernel
theorem dX12_reachD_280 : decode cX12_reachD 280 = .ok (.bipush 44, 2) := by decide +kernel
theorem dX12_reachD_282 : decode cX12_reachD 282 = .ok (.invokevirtual 549, 3) := by decide +kernel
theorem dX12_reachD_285 : decode cX12_reachD 285 = .ok (.ifCond .eq 24, 3) := by decide +kernel
theorem dX12_reachD_288 : decode cX12_reachD 288 = .ok (.aload_n 0, 1) := by decide +kernel
theorem dX12_reachD_289 : decode cX12_reachD 289 = .ok (.bipush 8, 2) := by decide +kernel
theorem dX12_reachD_291 : decode cX12_reachD 291 = .ok (.iload_n 2, 1) := by decide +kernel
theorem dX12_reachD_292 : decode cX12_reachD 292 = .ok (.iload_n 3, 1) := by decide +kernel
theorem dX12_reachD_293 : decode cX12_reachD 293 = .ok (.iload 4, 2) := by decide +kernel
theorem dX12_reachD_295 : decode cX12_reachD 295 = .ok (.invokevirtual 534, 3) := by decide +kernel
theorem dX12_reachD_298 : decode cX12_reachD 298 = .ok (.aload_n 0, 1) := by decide +kernel
theorem dX12_reachD_299 : decode cX12_reachD 299 = .ok (.bipush 7, 2) := by decide +kernel
theorem dX12_reachD_301 : decode cX12_reachD 301 = .ok (.iconst 1, 1) := by decide +kernel
theorem dX12_reachD_302 : decode cX12_reachD 302 = .ok (.iconst 0, 1) := by decide +kernel
theorem dX12_reachD_303 : decode cX12_reachD 303 = .ok (.iconst 0, 1) := by decide +kernel
theorem dX12_reachD_304 : decode cX12_reachD 304 = .ok (.invokevirtual 534, 3) := by decide +kernel
theorem dX12_reachD_307 : decode cX12_reachD 307 = .ok (.iconst 1, 1) := by decide +kernel
theorem dX12_reachD_308 : decode cX12_reachD 308 = .ok (.ireturn, 1) := by decide +kernel
theorem dX12_reachD_309 : decode cX12_reachD 309 = .ok (.aload_n 0, 1) := by decide +kernel
theorem dX12_reachD_310 : decode cX12_reachD 310 = .ok (.bipush 53, 2) := by decide +kernel
theorem dX12_reachD_312 : decode cX12_reachD 312 = .ok (.iload_n 3, 1) := by decide +kernel
theorem dX12_reachD_313 : decode cX12_reachD 313 = .ok (.iload 4, 2) := by decide +kernel
theorem dX12_reachD_315 : decode cX12_reachD 315 = .ok (.iconst 0, 1) := by decide +kernel
theorem dX12_reachD_316 : decode cX12_reachD 316 = .ok (.invokevirtual 542, 3) := by decide +kernel
theorem dX12_reachD_319 : decode cX12_reachD 319 = .ok (.pop, 1) := by decide +kernel
theorem dX12_reachD_320 : decode cX12_reachD 320 = .ok (.iconst 1, 1) := by decide +kernel
theorem dX12_reachD_321 : decode cX12_reachD 321 = .ok (.ireturn, 1) := by decide +kernel
theorem dX12_reachD_322 : decode cX12_reachD 322 = .ok (.iload_n 1, 1) := by decide +kernel
theorem dX12_reachD_323 : decode cX12_reachD 323 = .ok (.bipush 7, 2) := by decide +kernel
theorem dX12_reachD_325 : decode cX12_reachD 325 = .ok (.if_icmp .ne 9, 3) := by decide +kernel
theorem dX12_reachD_328 : decode cX12_reachD 328 = .ok (.aload_n 0, 1) := by decide +kernel
theorem dX12_reachD_329 : decode cX12_reachD 329 = .ok (.iload_n 2, 1) := by decide +kernel
theorem dX12_reachD_330 : decode cX12_reachD 330 = .ok (.invokevirtual 567, 3) := by decide +kernel
theorem dX12_reachD_333 : decode cX12_reachD 333 = .ok (.ireturn, 1) := by decide +kernel
theorem dX12_reachD_334 : decode cX12_reachD 334 = .ok (.iload_n 1, 1) := by decide +kernel
theorem dX12_reachD_335 : decode cX12_reachD 335 = .ok (.bipush 9, 2) := by decide +kernel
theorem dX12_reachD_337 : decode cX12_reachD 337 = .ok (.if_icmp .ne 67, 3) := by decide +kernel
theorem dX12_reachD_340 : decode cX12_reachD 340 = .ok (.aload_n 0, 1) := by decide +kernel
theorem dX12_reachD_341 : decode cX12_reachD 341 = .ok (.bipush 10, 2) := by decide +kernel
theorem dX12_reachD_343 : decode cX12_reachD 343 = .ok (.iload_n 2, 1) := by decide +kernel
theorem dX12_reachD_344 : decode cX12_reachD 344 = .ok (.iconst 0, 1) := by decide +kernel
theorem dX12_reachD_345 : decode cX12_reachD 345 = .ok (.iconst 0, 1) := by decide +kernel
theorem dX12_reachD_346 : decode cX12_reachD 346 = .ok (.invokevirtual 534, 3) := by decide +kernel
theorem dX12_reachD_349 : decode cX12_reachD 349 = .ok (.iload 5, 2) := by decide +kernel
theorem dX12_reachD_351 : decode cX12_reachD 351 = .ok (.bipush 46, 2) := by decide +kernel
theorem dX12_reachD_353 : decode cX12_reachD 353 = .ok (.if_icmp .eq 14, 3) := by decide +kernel
theorem dX12_reachD_356 : decode cX12_reachD 356 = .ok (.aload_n 0, 1) := by decide +kernel
theorem dX12_reachD_357 : decode cX12_reachD 357 = .ok (.bipush 28, 2) := by decide +kernel
theorem dX12_reachD_359 : decode cX12_reachD 359 = .ok (.iconst 0, 1) := by decide +kernel
theorem dX12_reachD_360 : decode cX12_reachD 360 = .ok (.iconst 0, 1) := by decide +kernel
theorem dX12_reachD_361 : decode cX12_reachD 361 = .ok (.iconst 0, 1) := by decide +kernel
theorem dX12_reachD_362 : decode cX12_reachD 362 = .ok (.invokevirtual 534, 3) := by decide +kernel
theorem dX12_reachD_365 : decode cX12_reachD 365 = .ok (.iconst 1, 1) := by decide +kernel
theorem dX12_reachD_366 : decode cX12_reachD 366 = .ok (.ireturn, 1) := by decide +kernel
theorem dX12_reachD_367 : decode cX12_reachD 367 = .ok (.aload_n 0, 1) := by decide +kernel
theorem dX12_reachD_368 : decode cX12_reachD 368 = .ok (.bipush 6, 2) := by decide +kernel
theorem dX12_reachD_370 : decode cX12_reachD 370 = .ok (.bipush 59, 2) := by decide +kernel
theorem dX12_reachD_372 : decode cX12_reachD 372 = .ok (.aload_n 0, 1) := by decide +kernel
theorem dX12_reachD_373 : decode cX12_reachD 373 = .ok (.getfield 142, 3) := by decide +kernel
theorem dX12_reachD_376 : decode cX12_reachD 376 = .ok (.aload_n 0, 1) := by decide +kernel
theorem dX12_reachD_377 : decode cX12_reachD 377 = .ok (.getfield 124, 3) := by decide +kernel
theorem dX12_reachD_380 : decode cX12_reachD 380 = .ok (.invokevirtual 534, 3) := by decide +kernel
theorem dX12_reachD_383 : decode cX12_reachD 383 = .ok (.aload_n 0, 1) := by decide +kernel
theorem dX12_reachD_384 : decode cX12_reachD 384 = .ok (.dup, 1) := by decide +kernel
theorem dX12_reachD_385 : decode cX12_reachD 385 = .ok (.getfield 142, 3) := by decide +kernel
theorem dX12_reachD_388 : decode cX12_reachD 388 = .ok (.iconst 1, 1) := by decide +kernel
theorem dX12_reachD_389 : decode cX12_reachD 389 = .ok (.iadd, 1) := by decide +kernel
theorem dX12_reachD_390 : decode cX12_reachD 390 = .ok (.putfield 142, 3) := by decide +kernel
theorem dX12_reachD_393 : decode cX12_reachD 393 = .ok (.aload_n 0, 1) := by decide +kernel
theorem dX12_reachD_394 : decode cX12_reachD 394 = .ok (.bipush 28, 2) := by decide +kernel
theorem dX12_reachD_396 : decode cX12_reachD 396 = .ok (.iconst 0, 1) := by decide +kernel
theorem dX12_reachD_397 : decode cX12_reachD 397 = .ok (.iconst 0, 1) := by decide +kernel
theorem dX12_reachD_398 : decode cX12_reachD 398 = .ok (.iconst 0, 1) := by decide +kernel
theorem dX12_reachD_399 : decode cX12_reachD 399 = .ok (.invokevirtual 534, 3) := by decide +kernel
theorem dX12_reachD_402 : decode cX12_reachD 402 = .ok (.iconst 1, 1) := by decide +kernel
theorem dX12_reachD_403 : decode cX12_reachD 403 = .ok (.ireturn, 1) := by decide +kernel
theorem dX12_reachD_404 : decode cX12_reachD 404 = .ok (.iload_n 2, 1) := by decide +kernel
theorem dX12_reachD_405 : decode cX12_reachD 405 = .ok (.iconst 1, 1) := by decide +kernel
theorem dX12_reachD_406 : decode cX12_reachD 406 = .ok (.if_icmp .ne 5, 3) := by decide +kernel
theorem dX12_reachD_409 : decode cX12_reachD 409 = .ok (.iconst 1, 1) := by decide +kernel
theorem dX12_reachD_410 : decode cX12_reachD 410 = .ok (.ireturn, 1) := by decide +kernel
theorem dX12_reachD_411 : decode cX12_reachD 411 = .ok (.aload_n 0, 1) := by decide +kernel
theorem dX12_reachD_412 : decode cX12_reachD 412 = .ok (.bipush 14, 2) := by decide +kernel
theorem dX12_reachD_414 : decode cX12_reachD 414 = .ok (.invokevirtual 549, 3) := by decide +kernel
theorem dX12_reachD_417 : decode cX12_reachD 417 = .ok (.ifCond .ne 5, 3) := by decide +kernel
theorem dX12_reachD_420 : decode cX12_reachD 420 = .ok (.iconst 0, 1) := by decide +kernel
theorem dX12_reachD_421 : decode cX12_reachD 421 = .ok (.ireturn, 1) := by decide +kernel
theorem dX12_reachD_422 : decode cX12_reachD 422 = .ok (.aload_n 0, 1) := by decide +kernel
theorem dX12_reachD_423 : decode cX12_reachD 423 = .ok (.bipush 9, 2) := by decide +kernel
theorem dX12_reachD_425 : decode cX12_reachD 425 = .ok (.iload_n 2, 1) := by decide +kernel
theorem dX12_reachD_426 : decode cX12_reachD 426 = .ok (.iconst 1, 1) := by decide +kernel
theorem dX12_reachD_427 : decode cX12_reachD 427 = .ok (.isub, 1) := by decide +kernel
theorem dX12_reachD_428 : decode cX12_reachD 428 = .ok (.iconst 0, 1) := by decide +kernel
theorem dX12_reachD_429 : decode cX12_reachD 429 = .ok (.iconst 0, 1) := by decide +kernel
theorem dX12_reachD_430 : decode cX12_reachD 430 = .ok (.invokevirtual 534, 3) := by decide +kernel
theorem dX12_reachD_433 : decode cX12_reachD 433 = .ok (.iconst 1, 1) := by decide +kernel
theorem dX12_reachD_434 : decode cX12_reachD 434 = .ok (.ireturn, 1) := by decide +kernel
def wr_reachD_98 (Q : Int → zS → Prop)  (s0 : zS) (x6 : Int) (x7 : Int) (y0 : Int) : Prop :=
  wr_openSection s0  (fun r1 s2 => ((¬ r1 = 0 → wr_goal s2 5 y0 x7 x6 (fun s10 => wr_goal s10 4 y0 0 0 (fun s16 => Q 1 s16))) ∧ (r1 = 0 → Q 0 s2)))
def wr_reachD (s0 : zS) (a0 : Int) (a1 : Int) (a2 : Int) (a3 : Int) (Q : Int → zS → Prop) : Prop :=
  wr_tk s0  (fun r1 s2 => ((¬ a0 = 3 → ((¬ a0 = 4 → ((¬ a0 = 5 → ((¬ a0 = 8 → ((¬ a0 = 7 → ((¬ a0 = 9 → ((¬ a1 = 1 → wr_take s2 14 (fun r21 s22 => ((¬ r21 = 0 → (zR (a1 - 1)) ∧ wr_goal s22 9 (a1 - 1) 0 0 (fun s32 => Q 1 s32)) ∧ (r21 = 0 → Q 0 s22)))) ∧ (a1 = 1 → Q 1 s2))) ∧ (a0 = 9 → wr_goal s2 10 a1 0 0 (fun s41 => ((r1 = 46 → wr_goal s41 6 59 (zv s41 43) (zv s41 37) (fun s49 => (zR ((zv s49 43) + 1)) ∧ wr_goal (zpv s49 43 ((zv s49 43) + 1)) 28 0 0 0 (fun s59 => Q 1 s59))) ∧ (¬ r1 = 46 → wr_goal s41 28 0 0 0 (fun s66 => Q 1 s66))))))) ∧ (a0 = 7 → wr_reachP s2 a1 (fun r72 s73 => (r72 = 0 ∨ r72 = 1) ∧ Q r72 s73)))) ∧ (a0 = 8 → (0 ≤ ((zv s2 37) - 1)) ∧ (((zv s2 37) - 1) < 26000) ∧ (0 ≤ (za s2 36 (Int.toNat ((zv s2 37) - 1)))) ∧ ((za s2 36 (Int.toNat ((zv s2 37) - 1))) < 26000) ∧ ((¬ (za s2 25 (Int.toNat (za s2 36 (Int.toNat ((zv s2 37) - 1))))) = 54 → wr_shut s2 53 a2 a3 0 (fun r91 s92 => Q 1 s92)) ∧ ((za s2 25 (Int.toNat (za s2 36 (Int.toNat ((zv s2 37) - 1))))) = 54 → wr_take s2 44 (fun r98 s99 => ((r98 = 0 → wr_shut s99 53 a2 a3 0 (fun r106 s107 => Q 1 s107)) ∧ (¬ r98 = 0 → wr_goal s99 8 a1 a2 a3 (fun s114 => wr_goal s114 7 1 0 0 (fun s120 => Q 1 s120)))))))))) ∧ (a0 = 5 → wr_take s2 15 (fun r126 s127 => ((r126 = 0 → wr_shutSection s127  (fun r134 s135 => ((¬ r134 = 0 → wr_shut s135 a1 a2 a3 0 (fun r142 s143 => Q 1 s143)) ∧ (r134 = 0 → Q 0 s135)))) ∧ (¬ r126 = 0 → wr_goal s127 5 a1 a2 a3 (fun s151 => wr_goal s151 4 a1 0 0 (fun s157 => Q 1 s157)))))))) ∧ (a0 = 4 → wr_take s2 1 (fun r163 s164 => ((¬ r163 = 0 → wr_goal s164 6 56 (zv s2 43) (zv s164 37) (fun s172 => wr_goal s172 28 0 0 0 (fun s178 => ((¬ a1 = 50 → wr_goal s178 16 25 0 0 (fun s186 => Q 1 s186)) ∧ (a1 = 50 → wr_goal s178 16 17 0 0 (fun s193 => Q 1 s193)))))) ∧ (r163 = 0 → Q 0 s164)))))) ∧ (a0 = 3 → wr_isD s2 r1 (fun r200 s201 => ((¬ r200 = 0 → (zR ((zv s201 43) + 1)) ∧ ((¬ r1 = 43 → ((¬ r1 = 40 → ((¬ r1 = 41 → wr_reachD_98 Q  (zpv s201 43 ((zv s201 43) + 1)) (zv s2 37) (zv s2 43) 52) ∧ (r1 = 41 → wr_reachD_98 Q  (zpv s201 43 ((zv s201 43) + 1)) (zv s2 37) (zv s2 43) 51))) ∧ (r1 = 40 → wr_reachD_98 Q  (zpv s201 43 ((zv s201 43) + 1)) (zv s2 37) (zv s2 43) 50))) ∧ (r1 = 43 → wr_goal (zpv s201 43 ((zv s201 43) + 1)) 8 a1 (zv s2 43) (zv s2 37) (fun s222 => wr_goal s222 7 a1 0 0 (fun s228 => Q 1 s228))))) ∧ (r200 = 0 → Q 0 s201))))))
set_option maxHeartbeats 4000000 in
set_option maxRecDepth 100000 in
theorem rj_reachD_98 {X : gX} {d : gD} {b t : Nat} {T : Nat → Nat} {F0 : gM} (hC : gC RX12 cX12_reachD 9 (some .boolean) "reachD" (gR 3 0 0) d b X) {Q : Int → zS → Prop}   {F : gM} {s0 : zS} {x6 : Int} {x7 : Int} {y0 : Int} (Rx6 : zR x6) (Rx7 : zR x7) (Ry0 : zR y0) (hZ : zZ d t T F0 F s0) (hw : wr_reachD_98 Q  s0 x6 x7 y0) : gG X d b (zQi X d b t T F0 Q) F 0 0 98 [some (.ref t), none, none, none, none, none, some (.int (zI x6)), some (.int (zI x7)), none] [.int (zI y0)] := by
  unfold wr_reachD_98 at hw
  refine g_istore (lv' := [some (.ref t), none, none, none, none, none, some (.int (zI x6)), some (.int (zI x7)), some (.int (zI y0))]) hC dX12_reachD_98 (Nat.le_of_ble_eq_true rfl) rfl rfl ?_
  refine g_aload_n hC dX12_reachD_100 rfl ?_
  refine zr_callVi (As := []) hC hZ rfl (rm_openSection X.la d b  hZ.rf hw) cl_X12_552 rfl rfl (Nat.le_of_ble_eq_true rfl) ⟨Nat.le_of_ble_eq_true rfl, Nat.le_of_ble_eq_true rfl⟩ dX12_reachD_101 (fun r1 s2 F3 R4 hZ5 h6 => ?_)
  refine zr_if_ne (tgt := 109) hC R4 dX12_reachD_104 (by decide) (fun c7 => ?_) (fun c7 => ?_)
  · have h8 := h6.1 c7
    refine g_aload_n hC dX12_reachD_109 rfl ?_
    refine g_iconst (v := zI 5) hC dX12_reachD_110 rfl ?_
    refine g_iload hC dX12_reachD_111 rfl ?_
    refine g_iload hC dX12_reachD_113 rfl ?_
    refine g_iload hC dX12_reachD_115 rfl ?_
    refine zr_callVv (As := [.int (zI 5), .int (zI y0), .int (zI x7), .int (zI x6)]) hC hZ5 rfl (rm_goal X.la d b (by decide) Ry0 Rx7 Rx6 hZ5.rf h8) cl_X12_534 rfl rfl (Nat.le_of_ble_eq_true rfl) ⟨Nat.le_of_ble_eq_true rfl, Nat.le_of_ble_eq_true rfl⟩ dX12_reachD_117 (fun s10 F11 hZ13 h14 => ?_)
    refine g_aload_n hC dX12_reachD_120 rfl ?_
    refine g_iconst (v := zI 4) hC dX12_reachD_121 rfl ?_
    refine g_iload hC dX12_reachD_122 rfl ?_
    refine g_iconst (v := zI 0) hC dX12_reachD_124 rfl ?_
    refine g_iconst (v := zI 0) hC dX12_reachD_125 rfl ?_
    refine zr_callVv (As := [.int (zI 4), .int (zI y0), .int (zI 0), .int (zI 0)]) hC hZ13 rfl (rm_goal X.la d b (by decide) Ry0 (by decide) (by decide) hZ13.rf h14) cl_X12_534 rfl rfl (Nat.le_of_ble_eq_true rfl) ⟨Nat.le_of_ble_eq_true rfl, Nat.le_of_ble_eq_true rfl⟩ dX12_reachD_126 (fun s16 F17 hZ19 h20 => ?_)
    refine g_iconst (v := zI 1) hC dX12_reachD_129 rfl ?_
    exact zr_zret hC hZ19 (Or.inr rfl) h20 dX12_reachD_130
  · have h21 := h6.2 c7
    refine g_iconst (v := zI 0) hC dX12_reachD_107 rfl ?_
    exact zr_zret hC hZ5 (Or.inl rfl) h21 dX12_reachD_108
set_option maxHeartbeats 4000000 in
set_option maxRecDepth 100000 in
theorem rm_reachD (l : Launch) (d : gD) (b : Nat) {t : Nat} {T : Nat → Nat} {F : gM} {s0 : zS} {a0 : Int} {a1 : Int} {a2 : Int} {a3 : Int} (Ra0 : zR a0) (Ra1 : zR a1) (Ra2 : zR a2) (Ra3 : zR a3) {Q : Int → zS → Prop} (hZ : zZ d t T F F s0) (hw : wr_reachD s0 a0 a1 a2 a3 Q) : gMi l d b yX12_reachD cX12_reachD 9 .boolean 3 0 0 F [.ref t, .int (zI a0), .int (zI a1), .int (zI a2), .int (zI a3)] (zPi d t T F Q) := by
  refine gM_of2 rfl (nL := 9) (Nat.le_of_ble_eq_true rfl) ?_
  intro X hX hC; subst hX
  show gG X d b (zQi X d b t T F Q) F 0 0 0 [some (.ref t), some (.int (zI a0)), some (.int (zI a1)), some (.int (zI a2)), some (.int (zI a3)), none, none, none, none] []
  unfold wr_reachD at hw
  refine g_aload_n hC dX12_reachD_0 rfl ?_
  refine zr_callVi (As := []) hC hZ rfl (rm_tk X.la d b  hZ.rf hw) cl_X12_526 rfl rfl (Nat.le_of_ble_eq_true rfl) ⟨Nat.le_of_ble_eq_true rfl, Nat.le_of_ble_eq_true rfl⟩ dX12_reachD_1 (fun r1 s2 F3 R4 hZ5 h6 => ?_)
  refine g_istore (lv' := [some (.ref t), some (.int (zI a0)), some (.int (zI a1)), some (.int (zI a2)), some (.int (zI a3)), some (.int (zI r1)), none, none, none]) hC dX12_reachD_4 (Nat.le_of_ble_eq_true rfl) rfl rfl ?_
  refine g_iload_n hC dX12_reachD_6 rfl ?_
  refine g_iconst (v := zI 3) hC dX12_reachD_7 rfl ?_
  refine zr_icmp_ne (tgt := 131) hC Ra0 (by decide) dX12_reachD_8 (by decide) (fun c7 => ?_) (fun c7 => ?_)
  · have h8 := h6.1 c7
    refine g_iload_n hC dX12_reachD_131 rfl ?_
    refine g_iconst (v := zI 4) hC dX12_reachD_132 rfl ?_
    refine zr_icmp_ne (tgt := 198) hC Ra0 (by decide) dX12_reachD_133 (by decide) (fun c9 => ?_) (fun c9 => ?_)
    · have h10 := h8.1 c9
      refine g_iload_n hC dX12_reachD_198 rfl ?_
      refine g_iconst (v := zI 5) hC dX12_reachD_199 rfl ?_
      refine zr_icmp_ne (tgt := 252) hC Ra0 (by decide) dX12_reachD_200 (by decide) (fun c11 => ?_) (fun c11 => ?_)
      · have h12 := h10.1 c11
        refine g_iload_n hC dX12_reachD_252 rfl ?_
        refine g_bipush (v := zI 8) hC dX12_reachD_253 rfl ?_
        refine zr_icmp_ne (tgt := 322) hC Ra0 (by decide) dX12_reachD_255 (by decide) (fun c13 => ?_) (fun c13 => ?_)
        · have h14 := h12.1 c13
          refine g_iload_n hC dX12_reachD_322 rfl ?_
          refine g_bipush (v := zI 7) hC dX12_reachD_323 rfl ?_
          refine zr_icmp_ne (tgt := 334) hC Ra0 (by decide) dX12_reachD_325 (by decide) (fun c15 => ?_) (fun c15 => ?_)
          · have h16 := h14.1 c15
            refine g_iload_n hC dX12_reachD_334 rfl ?_
            refine g_bipush (v := zI 9) hC dX12_reachD_335 rfl ?_
            refine zr_icmp_ne (tgt := 404) hC Ra0 (by decide) dX12_reachD_337 (by decide) (fun c17 => ?_) (fun c17 => ?_)
            · have h18 := h16.1 c17
              refine g_iload_n hC dX12_reachD_404 rfl ?_
              refine g_iconst (v := zI 1) hC dX12_reachD_405 rfl ?_
              refine zr_icmp_ne (tgt := 411) hC Ra1 (by decide) dX12_reachD_406 (by decide) (fun c19 => ?_) (fun c19 => ?_)
              · have h20 := h18.1 c19
                refine g_aload_n hC dX12_reachD_411 rfl ?_
                refine g_bipush (v := zI 14) hC dX12_reachD_412 rfl ?_
                refine zr_callVi (As := [.int (zI 14)]) hC hZ5 rfl (rm_take X.la d b (by decide) hZ5.rf h20) cl_X12_549 rfl rfl (Nat.le_of_ble_eq_true rfl) ⟨Nat.le_of_ble_eq_true rfl, Nat.le_of_ble_eq_true rfl⟩ dX12_reachD_414 (fun r21 s22 F23 R24 hZ25 h26 => ?_)
                refine zr_if_ne (tgt := 422) hC R24 dX12_reachD_417 (by decide) (fun c27 => ?_) (fun c27 => ?_)
                · have h28 := h26.1 c27
                  refine g_aload_n hC dX12_reachD_422 rfl ?_
                  refine g_bipush (v := zI 9) hC dX12_reachD_423 rfl ?_
                  refine g_iload_n hC dX12_reachD_425 rfl ?_
                  refine g_iconst (v := zI 1) hC dX12_reachD_426 rfl ?_
                  refine zr_isub hC dX12_reachD_427 ?_
                  refine g_iconst (v := zI 0) hC dX12_reachD_428 rfl ?_
                  refine g_iconst (v := zI 0) hC dX12_reachD_429 rfl ?_
                  obtain ⟨o29, h30⟩ := h28
                  refine zr_callVv (As := [.int (zI 9), .int (zI (a1 - 1)), .int (zI 0), .int (zI 0)]) hC hZ25 rfl (rm_goal X.la d b (by decide) o29 (by decide) (by decide) hZ25.rf h30) cl_X12_534 rfl rfl (Nat.le_of_ble_eq_true rfl) ⟨Nat.le_of_ble_eq_true rfl, Nat.le_of_ble_eq_true rfl⟩ dX12_reachD_430 (fun s32 F33 hZ35 h36 => ?_)
                  refine g_iconst (v := zI 1) hC dX12_reachD_433 rfl ?_
                  exact zr_zret hC hZ35 (Or.inr rfl) h36 dX12_reachD_434
                · have h37 := h26.2 c27
                  refine g_iconst (v := zI 0) hC dX12_reachD_420 rfl ?_
                  exact zr_zret hC hZ25 (Or.inl rfl) h37 dX12_reachD_421
              · have h38 := h18.2 c19
                refine g_iconst (v := zI 1) hC dX12_reachD_409 rfl ?_
                exact zr_zret hC hZ5 (Or.inr rfl) h38 dX12_reachD_410
            · have h39 := h16.2 c17
              refine g_aload_n hC dX12_reachD_340 rfl ?_
              refine g_bipush (v := zI 10) hC dX12_reachD_341 rfl ?_
              refine g_iload_n hC dX12_reachD_343 rfl ?_
              refine g_iconst (v := zI 0) hC dX12_reachD_344 rfl ?_
              refine g_iconst (v := zI 0) hC dX12_reachD_345 rfl ?_
              refine zr_callVv (As := [.int (zI 10), .int (zI a1), .int (zI 0), .int (zI 0)]) hC hZ5 rfl (rm_goal X.la d b (by decide) Ra1 (by decide) (by decide) hZ5.rf h39) cl_X12_534 rfl rfl (Nat.le_of_ble_eq_true rfl) ⟨Nat.le_of_ble_eq_true rfl, Nat.le_of_ble_eq_true rfl⟩ dX12_reachD_346 (fun s41 F42 hZ44 h45 => ?_)
              refine g_iload hC dX12_reachD_349 rfl ?_
              refine g_bipush (v := zI 46) hC dX12_reachD_351 rfl ?_
              refine zr_icmp_eq (tgt := 367) hC R4 (by decide) dX12_reachD_353 (by decide) (fun c46 => ?_) (fun c46 => ?_)
              · have h47 := h45.1 c46
                refine g_aload_n hC dX12_reachD_367 rfl ?_
                refine g_bipush (v := zI 6) hC dX12_reachD_368 rfl ?_
                refine g_bipush (v := zI 59) hC dX12_reachD_370 rfl ?_
                refine g_aload_n hC dX12_reachD_372 rfl ?_
                refine zr_get (e := (zv s41 43)) hC hZ44 fl_X12_142 zb_43 (by decide) rfl dX12_reachD_373 ?_
                refine g_aload_n hC dX12_reachD_376 rfl ?_
                refine zr_get (e := (zv s41 37)) hC hZ44 fl_X12_124 zb_37 (by decide) rfl dX12_reachD_377 ?_
                refine zr_callVv (As := [.int (zI 6), .int (zI 59), .int (zI (zv s41 43)), .int (zI (zv s41 37))]) hC hZ44 rfl (rm_goal X.la d b (by decide) (by decide) (hZ44.rv 43) (hZ44.rv 37) hZ44.rf h47) cl_X12_534 rfl rfl (Nat.le_of_ble_eq_true rfl) ⟨Nat.le_of_ble_eq_true rfl, Nat.le_of_ble_eq_true rfl⟩ dX12_reachD_380 (fun s49 F50 hZ52 h53 => ?_)
                refine g_aload_n hC dX12_reachD_383 rfl ?_
                refine g_dup hC dX12_reachD_384 rfl ?_
                refine zr_get (e := (zv s49 43)) hC hZ52 fl_X12_142 zb_43 (by decide) rfl dX12_reachD_385 ?_
                refine g_iconst (v := zI 1) hC dX12_reachD_388 rfl ?_
                refine zr_iadd hC dX12_reachD_389 ?_
                obtain ⟨o54, h55⟩ := h53
                refine zr_put hC hZ52 fl_X12_142 zb_43 (by decide) o54 dX12_reachD_390 (fun F56 hZ57 => ?_)
                refine g_aload_n hC dX12_reachD_393 rfl ?_
                refine g_bipush (v := zI 28) hC dX12_reachD_394 rfl ?_
                refine g_iconst (v := zI 0) hC dX12_reachD_396 rfl ?_
                refine g_iconst (v := zI 0) hC dX12_reachD_397 rfl ?_
                refine g_iconst (v := zI 0) hC dX12_reachD_398 rfl ?_
                refine zr_callVv (As := [.int (zI 28), .int (zI 0), .int (zI 0), .int (zI 0)]) hC hZ57 rfl (rm_goal X.la d b (by decide) (by decide) (by decide) (by decide) hZ57.rf h55) cl_X12_534 rfl rfl (Nat.le_of_ble_eq_true rfl) ⟨Nat.le_of_ble_eq_true rfl, Nat.le_of_ble_eq_true rfl⟩ dX12_reachD_399 (fun s59 F60 hZ62 h63 => ?_)
                refine g_iconst (v := zI 1) hC dX12_reachD_402 rfl ?_
                exact zr_zret hC hZ62 (Or.inr rfl) h63 dX12_reachD_403
              · have h64 := h45.2 c46
                refine g_aload_n hC dX12_reachD_356 rfl ?_
                refine g_bipush (v := zI 28) hC dX12_reachD_357 rfl ?_
                refine g_iconst (v := zI 0) hC dX12_reachD_359 rfl ?_
                refine g_iconst (v := zI 0) hC dX12_reachD_360 rfl ?_
                refine g_iconst (v := zI 0) hC dX12_reachD_361 rfl ?_
                refine zr_callVv (As := [.int (zI 28), .int (zI 0), .int (zI 0), .int (zI 0)]) hC hZ44 rfl (rm_goal X.la d b (by decide) (by decide) (by decide) (by decide) hZ44.rf h64) cl_X12_534 rfl rfl (Nat.le_of_ble_eq_true rfl) ⟨Nat.le_of_ble_eq_true rfl, Nat.le_of_ble_eq_true rfl⟩ dX12_reachD_362 (fun s66 F67 hZ69 h70 => ?_)
                refine g_iconst (v := zI 1) hC dX12_reachD_365 rfl ?_
                exact zr_zret hC hZ69 (Or.inr rfl) h70 dX12_reachD_366
          · have h71 := h14.2 c15
            refine g_aload_n hC dX12_reachD_328 rfl ?_
            refine g_iload_n hC dX12_reachD_329 rfl ?_
            refine zr_callVi (As := [.int (zI a1)]) hC hZ5 rfl (rm_reachP X.la d b Ra1 hZ5.rf h71) cl_X12_567 rfl rfl (Nat.le_of_ble_eq_true rfl) ⟨Nat.le_of_ble_eq_true rfl, Nat.le_of_ble_eq_true rfl⟩ dX12_reachD_330 (fun r72 s73 F74 R75 hZ76 h77 => ?_)
            obtain ⟨o78, h79⟩ := h77
            exact zr_zret hC hZ76 o78 h79 dX12_reachD_333
        · have h80 := h12.2 c13
          refine g_aload_n hC dX12_reachD_258 rfl ?_
          refine zr_geta hC hZ5 fl_X12_87 zb_25 (by decide) dX12_reachD_259 ?_
          refine g_aload_n hC dX12_reachD_262 rfl ?_
          refine zr_geta hC hZ5 fl_X12_121 zb_36 (by decide) dX12_reachD_263 ?_
          refine g_aload_n hC dX12_reachD_266 rfl ?_
          refine zr_get (e := (zv s2 37)) hC hZ5 fl_X12_124 zb_37 (by decide) rfl dX12_reachD_267 ?_
          refine g_iconst (v := zI 1) hC dX12_reachD_270 rfl ?_
          refine zr_isub hC dX12_reachD_271 ?_
          obtain ⟨o81, h82⟩ := h80
          obtain ⟨o83, h84⟩ := h82
          refine zr_iald (v := (za s2 36 (Int.toNat ((zv s2 37) - 1)))) hC hZ5 zk_36 zb_36 zn_36 (by decide) o81 o83 rfl dX12_reachD_272 ?_
          obtain ⟨o85, h86⟩ := h84
          obtain ⟨o87, h88⟩ := h86
          refine zr_bald (v := (za s2 25 (Int.toNat (za s2 36 (Int.toNat ((zv s2 37) - 1)))))) hC hZ5 zk_25 zb_25 zn_25 (by decide) o85 o87 rfl dX12_reachD_273 ?_
          refine g_bipush (v := zI 54) hC dX12_reachD_274 rfl ?_
          refine zr_icmp_ne (tgt := 309) hC (hZ5.ra 25 _) (by decide) dX12_reachD_276 (by decide) (fun c89 => ?_) (fun c89 => ?_)
          · have h90 := h88.1 c89
            refine g_aload_n hC dX12_reachD_309 rfl ?_
            refine g_bipush (v := zI 53) hC dX12_reachD_310 rfl ?_
            refine g_iload_n hC dX12_reachD_312 rfl ?_
            refine g_iload hC dX12_reachD_313 rfl ?_
            refine g_iconst (v := zI 0) hC dX12_reachD_315 rfl ?_
            refine zr_callVi (As := [.int (zI 53), .int (zI a2), .int (zI a3), .int (zI 0)]) hC hZ5 rfl (rm_shut X.la d b (by decide) Ra2 Ra3 (by decide) hZ5.rf h90) cl_X12_542 rfl rfl (Nat.le_of_ble_eq_true rfl) ⟨Nat.le_of_ble_eq_true rfl, Nat.le_of_ble_eq_true rfl⟩ dX12_reachD_316 (fun r91 s92 F93 R94 hZ95 h96 => ?_)
            refine g_pop hC dX12_reachD_319 rfl ?_
            refine g_iconst (v := zI 1) hC dX12_reachD_320 rfl ?_
            exact zr_zret hC hZ95 (Or.inr rfl) h96 dX12_reachD_321
          · have h97 := h88.2 c89
            refine g_aload_n hC dX12_reachD_279 rfl ?_
            refine g_bipush (v := zI 44) hC dX12_reachD_280 rfl ?_
            refine zr_callVi (As := [.int (zI 44)]) hC hZ5 rfl (rm_take X.la d b (by decide) hZ5.rf h97) cl_X12_549 rfl rfl (Nat.le_of_ble_eq_true rfl) ⟨Nat.le_of_ble_eq_true rfl, Nat.le_of_ble_eq_true rfl⟩ dX12_reachD_282 (fun r98 s99 F100 R101 hZ102 h103 => ?_)
            refine zr_if_eq (tgt := 309) hC R101 dX12_reachD_285 (by decide) (fun c104 => ?_) (fun c104 => ?_)
            · have h105 := h103.1 c104
              refine g_aload_n hC dX12_reachD_309 rfl ?_
              refine g_bipush (v := zI 53) hC dX12_reachD_310 rfl ?_
              refine g_iload_n hC dX12_reachD_312 rfl ?_
              refine g_iload hC dX12_reachD_313 rfl ?_
              refine g_iconst (v := zI 0) hC dX12_reachD_315 rfl ?_
              refine zr_callVi (As := [.int (zI 53), .int (zI a2), .int (zI a3), .int (zI 0)]) hC hZ102 rfl (rm_shut X.la d b (by decide) Ra2 Ra3 (by decide) hZ102.rf h105) cl_X12_542 rfl rfl (Nat.le_of_ble_eq_true rfl) ⟨Nat.le_of_ble_eq_true rfl, Nat.le_of_ble_eq_true rfl⟩ dX12_reachD_316 (fun r106 s107 F108 R109 hZ110 h111 => ?_)
              refine g_pop hC dX12_reachD_319 rfl ?_
              refine g_iconst (v := zI 1) hC dX12_reachD_320 rfl ?_
              exact zr_zret hC hZ110 (Or.inr rfl) h111 dX12_reachD_321
            · have h112 := h103.2 c104
              refine g_aload_n hC dX12_reachD_288 rfl ?_
              refine g_bipush (v := zI 8) hC dX12_reachD_289 rfl ?_
              refine g_iload_n hC dX12_reachD_291 rfl ?_
              refine g_iload_n hC dX12_reachD_292 rfl ?_
              refine g_iload hC dX12_reachD_293 rfl ?_
              refine zr_callVv (As := [.int (zI 8), .int (zI a1), .int (zI a2), .int (zI a3)]) hC hZ102 rfl (rm_goal X.la d b (by decide) Ra1 Ra2 Ra3 hZ102.rf h112) cl_X12_534 rfl rfl (Nat.le_of_ble_eq_true rfl) ⟨Nat.le_of_ble_eq_true rfl, Nat.le_of_ble_eq_true rfl⟩ dX12_reachD_295 (fun s114 F115 hZ117 h118 => ?_)
              refine g_aload_n hC dX12_reachD_298 rfl ?_
              refine g_bipush (v := zI 7) hC dX12_reachD_299 rfl ?_
              refine g_iconst (v := zI 1) hC dX12_reachD_301 rfl ?_
              refine g_iconst (v := zI 0) hC dX12_reachD_302 rfl ?_
              refine g_iconst (v := zI 0) hC dX12_reachD_303 rfl ?_
              refine zr_callVv (As := [.int (zI 7), .int (zI 1), .int (zI 0), .int (zI 0)]) hC hZ117 rfl (rm_goal X.la d b (by decide) (by decide) (by decide) (by decide) hZ117.rf h118) cl_X12_534 rfl rfl (Nat.le_of_ble_eq_true rfl) ⟨Nat.le_of_ble_eq_true rfl, Nat.le_of_ble_eq_true rfl⟩ dX12_reachD_304 (fun s120 F121 hZ123 h124 => ?_)
              refine g_iconst (v := zI 1) hC dX12_reachD_307 rfl ?_
              exact zr_zret hC hZ123 (Or.inr rfl) h124 dX12_reachD_308
      · have h125 := h10.2 c11
        refine g_aload_n hC dX12_reachD_203 rfl ?_
        refine g_bipush (v := zI 15) hC dX12_reachD_204 rfl ?_
        refine zr_callVi (As := [.int (zI 15)]) hC hZ5 rfl (rm_take X.la d b (by decide) hZ5.rf h125) cl_X12_549 rfl rfl (Nat.le_of_ble_eq_true rfl) ⟨Nat.le_of_ble_eq_true rfl, Nat.le_of_ble_eq_true rfl⟩ dX12_reachD_206 (fun r126 s127 F128 R129 hZ130 h131 => ?_)
        refine zr_if_eq (tgt := 231) hC R129 dX12_reachD_209 (by decide) (fun c132 => ?_) (fun c132 => ?_)
        · have h133 := h131.1 c132
          refine g_aload_n hC dX12_reachD_231 rfl ?_
          refine zr_callVi (As := []) hC hZ130 rfl (rm_shutSection X.la d b  hZ130.rf h133) cl_X12_564 rfl rfl (Nat.le_of_ble_eq_true rfl) ⟨Nat.le_of_ble_eq_true rfl, Nat.le_of_ble_eq_true rfl⟩ dX12_reachD_232 (fun r134 s135 F136 R137 hZ138 h139 => ?_)
          refine zr_if_ne (tgt := 240) hC R137 dX12_reachD_235 (by decide) (fun c140 => ?_) (fun c140 => ?_)
          · have h141 := h139.1 c140
            refine g_aload_n hC dX12_reachD_240 rfl ?_
            refine g_iload_n hC dX12_reachD_241 rfl ?_
            refine g_iload_n hC dX12_reachD_242 rfl ?_
            refine g_iload hC dX12_reachD_243 rfl ?_
            refine g_iconst (v := zI 0) hC dX12_reachD_245 rfl ?_
            refine zr_callVi (As := [.int (zI a1), .int (zI a2), .int (zI a3), .int (zI 0)]) hC hZ138 rfl (rm_shut X.la d b Ra1 Ra2 Ra3 (by decide) hZ138.rf h141) cl_X12_542 rfl rfl (Nat.le_of_ble_eq_true rfl) ⟨Nat.le_of_ble_eq_true rfl, Nat.le_of_ble_eq_true rfl⟩ dX12_reachD_246 (fun r142 s143 F144 R145 hZ146 h147 => ?_)
            refine g_pop hC dX12_reachD_249 rfl ?_
            refine g_iconst (v := zI 1) hC dX12_reachD_250 rfl ?_
            exact zr_zret hC hZ146 (Or.inr rfl) h147 dX12_reachD_251
          · have h148 := h139.2 c140
            refine g_iconst (v := zI 0) hC dX12_reachD_238 rfl ?_
            exact zr_zret hC hZ138 (Or.inl rfl) h148 dX12_reachD_239
        · have h149 := h131.2 c132
          refine g_aload_n hC dX12_reachD_212 rfl ?_
          refine g_iconst (v := zI 5) hC dX12_reachD_213 rfl ?_
          refine g_iload_n hC dX12_reachD_214 rfl ?_
          refine g_iload_n hC dX12_reachD_215 rfl ?_
          refine g_iload hC dX12_reachD_216 rfl ?_
          refine zr_callVv (As := [.int (zI 5), .int (zI a1), .int (zI a2), .int (zI a3)]) hC hZ130 rfl (rm_goal X.la d b (by decide) Ra1 Ra2 Ra3 hZ130.rf h149) cl_X12_534 rfl rfl (Nat.le_of_ble_eq_true rfl) ⟨Nat.le_of_ble_eq_true rfl, Nat.le_of_ble_eq_true rfl⟩ dX12_reachD_218 (fun s151 F152 hZ154 h155 => ?_)
          refine g_aload_n hC dX12_reachD_221 rfl ?_
          refine g_iconst (v := zI 4) hC dX12_reachD_222 rfl ?_
          refine g_iload_n hC dX12_reachD_223 rfl ?_
          refine g_iconst (v := zI 0) hC dX12_reachD_224 rfl ?_
          refine g_iconst (v := zI 0) hC dX12_reachD_225 rfl ?_
          refine zr_callVv (As := [.int (zI 4), .int (zI a1), .int (zI 0), .int (zI 0)]) hC hZ154 rfl (rm_goal X.la d b (by decide) Ra1 (by decide) (by decide) hZ154.rf h155) cl_X12_534 rfl rfl (Nat.le_of_ble_eq_true rfl) ⟨Nat.le_of_ble_eq_true rfl, Nat.le_of_ble_eq_true rfl⟩ dX12_reachD_226 (fun s157 F158 hZ160 h161 => ?_)
          refine g_iconst (v := zI 1) hC dX12_reachD_229 rfl ?_
          exact zr_zret hC hZ160 (Or.inr rfl) h161 dX12_reachD_230
    · have h162 := h8.2 c9
      refine g_aload_n hC dX12_reachD_136 rfl ?_
      refine zr_get (e := (zv s2 43)) hC hZ5 fl_X12_142 zb_43 (by decide) rfl dX12_reachD_137 ?_
      refine g_istore (lv' := [some (.ref t), some (.int (zI a0)), some (.int (zI a1)), some (.int (zI a2)), some (.int (zI a3)), some (.int (zI r1)), some (.int (zI (zv s2 43))), none, none]) hC dX12_reachD_140 (Nat.le_of_ble_eq_true rfl) rfl rfl ?_
      refine g_aload_n hC dX12_reachD_142 rfl ?_
      refine g_iconst (v := zI 1) hC dX12_reachD_143 rfl ?_
      refine zr_callVi (As := [.int (zI 1)]) hC hZ5 rfl (rm_take X.la d b (by decide) hZ5.rf h162) cl_X12_549 rfl rfl (Nat.le_of_ble_eq_true rfl) ⟨Nat.le_of_ble_eq_true rfl, Nat.le_of_ble_eq_true rfl⟩ dX12_reachD_144 (fun r163 s164 F165 R166 hZ167 h168 => ?_)
      refine zr_if_ne (tgt := 152) hC R166 dX12_reachD_147 (by decide) (fun c169 => ?_) (fun c169 => ?_)
      · have h170 := h168.1 c169
        refine g_aload_n hC dX12_reachD_152 rfl ?_
        refine g_bipush (v := zI 6) hC dX12_reachD_153 rfl ?_
        refine g_bipush (v := zI 56) hC dX12_reachD_155 rfl ?_
        refine g_iload hC dX12_reachD_157 rfl ?_
        refine g_aload_n hC dX12_reachD_159 rfl ?_
        refine zr_get (e := (zv s164 37)) hC hZ167 fl_X12_124 zb_37 (by decide) rfl dX12_reachD_160 ?_
        refine zr_callVv (As := [.int (zI 6), .int (zI 56), .int (zI (zv s2 43)), .int (zI (zv s164 37))]) hC hZ167 rfl (rm_goal X.la d b (by decide) (by decide) (hZ5.rv 43) (hZ167.rv 37) hZ167.rf h170) cl_X12_534 rfl rfl (Nat.le_of_ble_eq_true rfl) ⟨Nat.le_of_ble_eq_true rfl, Nat.le_of_ble_eq_true rfl⟩ dX12_reachD_163 (fun s172 F173 hZ175 h176 => ?_)
        refine g_aload_n hC dX12_reachD_166 rfl ?_
        refine g_bipush (v := zI 28) hC dX12_reachD_167 rfl ?_
        refine g_iconst (v := zI 0) hC dX12_reachD_169 rfl ?_
        refine g_iconst (v := zI 0) hC dX12_reachD_170 rfl ?_
        refine g_iconst (v := zI 0) hC dX12_reachD_171 rfl ?_
        refine zr_callVv (As := [.int (zI 28), .int (zI 0), .int (zI 0), .int (zI 0)]) hC hZ175 rfl (rm_goal X.la d b (by decide) (by decide) (by decide) (by decide) hZ175.rf h176) cl_X12_534 rfl rfl (Nat.le_of_ble_eq_true rfl) ⟨Nat.le_of_ble_eq_true rfl, Nat.le_of_ble_eq_true rfl⟩ dX12_reachD_172 (fun s178 F179 hZ181 h182 => ?_)
        refine g_aload_n hC dX12_reachD_175 rfl ?_
        refine g_bipush (v := zI 16) hC dX12_reachD_176 rfl ?_
        refine g_iload_n hC dX12_reachD_178 rfl ?_
        refine g_bipush (v := zI 50) hC dX12_reachD_179 rfl ?_
        refine zr_icmp_ne (tgt := 189) hC Ra1 (by decide) dX12_reachD_181 (by decide) (fun c183 => ?_) (fun c183 => ?_)
        · have h184 := h182.1 c183
          refine g_bipush (v := zI 25) hC dX12_reachD_189 rfl ?_
          refine g_iconst (v := zI 0) hC dX12_reachD_191 rfl ?_
          refine g_iconst (v := zI 0) hC dX12_reachD_192 rfl ?_
          refine zr_callVv (As := [.int (zI 16), .int (zI 25), .int (zI 0), .int (zI 0)]) hC hZ181 rfl (rm_goal X.la d b (by decide) (by decide) (by decide) (by decide) hZ181.rf h184) cl_X12_534 rfl rfl (Nat.le_of_ble_eq_true rfl) ⟨Nat.le_of_ble_eq_true rfl, Nat.le_of_ble_eq_true rfl⟩ dX12_reachD_193 (fun s186 F187 hZ189 h190 => ?_)
          refine g_iconst (v := zI 1) hC dX12_reachD_196 rfl ?_
          exact zr_zret hC hZ189 (Or.inr rfl) h190 dX12_reachD_197
        · have h191 := h182.2 c183
          refine g_bipush (v := zI 17) hC dX12_reachD_184 rfl ?_
          refine g_goto (tgt := 191) hC dX12_reachD_186 (by decide) ?_
          refine g_iconst (v := zI 0) hC dX12_reachD_191 rfl ?_
          refine g_iconst (v := zI 0) hC dX12_reachD_192 rfl ?_
          refine zr_callVv (As := [.int (zI 16), .int (zI 17), .int (zI 0), .int (zI 0)]) hC hZ181 rfl (rm_goal X.la d b (by decide) (by decide) (by decide) (by decide) hZ181.rf h191) cl_X12_534 rfl rfl (Nat.le_of_ble_eq_true rfl) ⟨Nat.le_of_ble_eq_true rfl, Nat.le_of_ble_eq_true rfl⟩ dX12_reachD_193 (fun s193 F194 hZ196 h197 => ?_)
          refine g_iconst (v := zI 1) hC dX12_reachD_196 rfl ?_
          exact zr_zret hC hZ196 (Or.inr rfl) h197 dX12_reachD_197
      · have h198 := h168.2 c169
        refine g_iconst (v := zI 0) hC dX12_reachD_150 rfl ?_
        exact zr_zret hC hZ167 (Or.inl rfl) h198 dX12_reachD_151
  · have h199 := h6.2 c7
    refine g_aload_n hC dX12_reachD_11 rfl ?_
    refine zr_get (e := (zv s2 37)) hC hZ5 fl_X12_124 zb_37 (by decide) rfl dX12_reachD_12 ?_
    refine g_istore (lv' := [some (.ref t), some (.int (zI a0)), some (.int (zI a1)), some (.int (zI a2)), some (.int (zI a3)), some (.int (zI r1)), some (.int (zI (zv s2 37))), none, none]) hC dX12_reachD_15 (Nat.le_of_ble_eq_true rfl) rfl rfl ?_
    refine g_aload_n hC dX12_reachD_17 rfl ?_
    refine zr_get (e := (zv s2 43)) hC hZ5 fl_X12_142 zb_43 (by decide) rfl dX12_reachD_18 ?_
    refine g_istore (lv' := [some (.ref t), some (.int (zI a0)), some (.int (zI a1)), some (.int (zI a2)), some (.int (zI a3)), some (.int (zI r1)), some (.int (zI (zv s2 37))), some (.int (zI (zv s2 43))), none]) hC dX12_reachD_21 (Nat.le_of_ble_eq_true rfl) rfl rfl ?_
    refine g_iload hC dX12_reachD_23 rfl ?_
    refine zr_callSi (As := [.int (zI r1)]) hC hZ5 (rm_isD X.la d b R4 hZ5.rf h199) cl_X12_561 rfl rfl (Nat.le_of_ble_eq_true rfl) ⟨Nat.le_of_ble_eq_true rfl, Nat.le_of_ble_eq_true rfl⟩ dX12_reachD_25 (fun r200 s201 F202 R203 hZ204 h205 => ?_)
    refine zr_if_ne (tgt := 33) hC R203 dX12_reachD_28 (by decide) (fun c206 => ?_) (fun c206 => ?_)
    · have h207 := h205.1 c206
      refine g_aload_n hC dX12_reachD_33 rfl ?_
      refine g_dup hC dX12_reachD_34 rfl ?_
      refine zr_get (e := (zv s201 43)) hC hZ204 fl_X12_142 zb_43 (by decide) rfl dX12_reachD_35 ?_
      refine g_iconst (v := zI 1) hC dX12_reachD_38 rfl ?_
      refine zr_iadd hC dX12_reachD_39 ?_
      obtain ⟨o208, h209⟩ := h207
      refine zr_put hC hZ204 fl_X12_142 zb_43 (by decide) o208 dX12_reachD_40 (fun F210 hZ211 => ?_)
      refine g_iload hC dX12_reachD_43 rfl ?_
      refine g_bipush (v := zI 43) hC dX12_reachD_45 rfl ?_
      refine zr_icmp_ne (tgt := 72) hC R4 (by decide) dX12_reachD_47 (by decide) (fun c212 => ?_) (fun c212 => ?_)
      · have h213 := h209.1 c212
        refine g_iload hC dX12_reachD_72 rfl ?_
        refine g_bipush (v := zI 40) hC dX12_reachD_74 rfl ?_
        refine zr_icmp_ne (tgt := 84) hC R4 (by decide) dX12_reachD_76 (by decide) (fun c214 => ?_) (fun c214 => ?_)
        · have h215 := h213.1 c214
          refine g_iload hC dX12_reachD_84 rfl ?_
          refine g_bipush (v := zI 41) hC dX12_reachD_86 rfl ?_
          refine zr_icmp_ne (tgt := 96) hC R4 (by decide) dX12_reachD_88 (by decide) (fun c216 => ?_) (fun c216 => ?_)
          · have h217 := h215.1 c216
            refine g_bipush (v := zI 52) hC dX12_reachD_96 rfl ?_
            refine g_lv (lv' := [some (.ref t), none, none, none, none, none, some (.int (zI (zv s2 37))), some (.int (zI (zv s2 43))), none]) ⟨rfl, rfl, rfl, trivial⟩ ?_
            exact rj_reachD_98 hC  (hZ5.rv 37) (hZ5.rv 43) (by decide) hZ211 h217
          · have h218 := h215.2 c216
            refine g_bipush (v := zI 51) hC dX12_reachD_91 rfl ?_
            refine g_goto (tgt := 98) hC dX12_reachD_93 (by decide) ?_
            refine g_lv (lv' := [some (.ref t), none, none, none, none, none, some (.int (zI (zv s2 37))), some (.int (zI (zv s2 43))), none]) ⟨rfl, rfl, rfl, trivial⟩ ?_
            exact rj_reachD_98 hC  (hZ5.rv 37) (hZ5.rv 43) (by decide) hZ211 h218
        · have h219 := h213.2 c214
          refine g_bipush (v := zI 50) hC dX12_reachD_79 rfl ?_
          refine g_goto (tgt := 98) hC dX12_reachD_81 (by decide) ?_
          refine g_lv (lv' := [some (.ref t), none, none, none, none, none, some (.int (zI (zv s2 37))), some (.int (zI (zv s2 43))), none]) ⟨rfl, rfl, rfl, trivial⟩ ?_
          exact rj_reachD_98 hC  (hZ5.rv 37) (hZ5.rv 43) (by decide) hZ211 h219
      · have h220 := h209.2 c212
        refine g_aload_n hC dX12_reachD_50 rfl ?_
        refine g_bipush (v := zI 8) hC dX12_reachD_51 rfl ?_
        refine g_iload_n hC dX12_reachD_53 rfl ?_
        refine g_iload hC dX12_reachD_54 rfl ?_
        refine g_iload hC dX12_reachD_56 rfl ?_
        refine zr_callVv (As := [.int (zI 8), .int (zI a1), .int (zI (zv s2 43)), .int (zI (zv s2 37))]) hC hZ211 rfl (rm_goal X.la d b (by decide) Ra1 (hZ5.rv 43) (hZ5.rv 37) hZ211.rf h220) cl_X12_534 rfl rfl (Nat.le_of_ble_eq_true rfl) ⟨Nat.le_of_ble_eq_true rfl, Nat.le_of_ble_eq_true rfl⟩ dX12_reachD_58 (fun s222 F223 hZ225 h226 => ?_)
        refine g_aload_n hC dX12_reachD_61 rfl ?_
        refine g_bipush (v := zI 7) hC dX12_reachD_62 rfl ?_
        refine g_iload_n hC dX12_reachD_64 rfl ?_
        refine g_iconst (v := zI 0) hC dX12_reachD_65 rfl ?_
        refine g_iconst (v := zI 0) hC dX12_reachD_66 rfl ?_
        refine zr_callVv (As := [.int (zI 7), .int (zI a1), .int (zI 0), .int (zI 0)]) hC hZ225 rfl (rm_goal X.la d b (by decide) Ra1 (by decide) (by decide) hZ225.rf h226) cl_X12_534 rfl rfl (Nat.le_of_ble_eq_true rfl) ⟨Nat.le_of_ble_eq_true rfl, Nat.le_of_ble_eq_true rfl⟩ dX12_reachD_67 (fun s228 F229 hZ231 h232 => ?_)
        refine g_iconst (v := zI 1) hC dX12_reachD_70 rfl ?_
        exact zr_zret hC hZ231 (Or.inr rfl) h232 dX12_reachD_71
    · have h233 := h205.2 c206
      refine g_iconst (v := zI 0) hC dX12_reachD_31 rfl ?_
      exact zr_zret hC hZ204 (Or.inl rfl) h233 dX12_reachD_32
theorem dX12_beginsE_0 : decode cX12_beginsE 0 = .ok (.iload_n 0, 1) := by decide +kernel
theorem dX12_beginsE_1 : decode cX12_beginsE 1 = .ok (.iconst 1, 1) := by decide +kernel
theorem dX12_beginsE_2 : decode cX12_beginsE 2 = .ok (.if_icmp .eq 73, 3) := by decide +kernel
theorem dX12_beginsE_5 : decode cX12_beginsE 5 = .ok (.iload_n 0, 1) := by decide +kernel
theorem dX12_beginsE_6 : decode cX12_beginsE 6 = .ok (.iconst 2, 1) := by decide +kernel
theorem dX12_beginsE_7 : decode cX12_beginsE 7 = .ok (.if_icmp .eq 68, 3) := by decide +kernel
theorem dX12_beginsE_10 : decode cX12_beginsE 10 = .ok (.iload_n 0, 1) := by decide +kernel
theorem dX12_beginsE_11 : decode cX12_beginsE 11 = .ok (.iconst 4, 1) := by decide +kernel
theorem dX12_beginsE_12 : decode cX12_beginsE 12 = .ok (.if_icmp .eq 63, 3) := by decide +kernel
theorem dX12_beginsE_15 : decode cX12_beginsE 15 = .ok (.iload_n 0, 1) := by decide +kernel
theorem dX12_beginsE_16 : decode cX12_beginsE 16 = .ok (.bipush 74, 2) := by decide +kernel
theorem dX12_beginsE_18 : decode cX12_beginsE 18 = .ok (.if_icmp .eq 57, 3) := by decide +kernel
theorem dX12_beginsE_21 : decode cX12_beginsE 21 = .ok (.iload_n 0, 1) := by decide +kernel
theorem dX12_beginsE_22 : decode cX12_beginsE 22 = .ok (.bipush 75, 2) := by decide +kernel
theorem dX12_beginsE_24 : decode cX12_beginsE 24 = .ok (.if_icmp .eq 51, 3) := by decide +kernel
theorem dX12_beginsE_27 : decode cX12_beginsE 27 = .ok (.iload_n 0, 1) := by decide +kernel
theorem dX12_beginsE_28 : decode cX12_beginsE 28 = .ok (.bipush 76, 2) := by decide +kernel
theorem dX12_beginsE_30 : decode cX12_beginsE 30 = .ok (.if_icmp .eq 45, 3) := by decide +kernel
theorem dX12_beginsE_33 : decode cX12_beginsE 33 = .ok (.iload_n 0, 1) := by decide +kernel
theorem dX12_beginsE_34 : decode cX12_beginsE 34 = .ok (.bipush 77, 2) := by decide +kernel
theorem dX12_beginsE_36 : decode cX12_beginsE 36 = .ok (.if_icmp .eq 39, 3) := by decide +kernel
theorem dX12_beginsE_39 : decode cX12_beginsE 39 = .ok (.iload_n 0, 1) := by decide +kernel
theorem dX12_beginsE_40 : decode cX12_beginsE 40 = .ok (.bipush 12, 2) := by decide +kernel
theorem dX12_beginsE_42 : decode cX12_beginsE 42 = .ok (.if_icmp .eq 33, 3) := by decide +kernel
theorem dX12_beginsE_45 : decode cX12_beginsE 45 = .ok (.iload_n 0, 1) := by decide +kernel
theorem dX12_beginsE_46 : decode cX12_beginsE 46 = .ok (.bipush 21, 2) := by decide +kernel
theorem dX12_beginsE_48 : decode cX12_beginsE 48 = .ok (.if_icmp .eq 27, 3) := by decide +kernel
theorem dX12_beginsE_51 : decode cX12_beginsE 51 = .ok (.iload_n 0, 1) := by decide +kernel
theorem dX12_beginsE_52 : decode cX12_beginsE 52 = .ok (.bipush 22, 2) := by decide +kernel
theorem dX12_beginsE_54 : decode cX12_beginsE 54 = .ok (.if_icmp .eq 21, 3) := by decide +kernel
theorem dX12_beginsE_57 : decode cX12_beginsE 57 = .ok (.iload_n 0, 1) := by decide +kernel
theorem dX12_beginsE_58 : decode cX12_beginsE 58 = .ok (.bipush 33, 2) := by decide +kernel
theorem dX12_beginsE_60 : decode cX12_beginsE 60 = .ok (.if_icmp .eq 15, 3) := by decide +kernel
theorem dX12_beginsE_63 : decode cX12_beginsE 63 = .ok (.iload_n 0, 1) := by decide +kernel
theorem dX12_beginsE_64 : decode cX12_beginsE 64 = .ok (.bipush 18, 2) := by decide +kernel
theorem dX12_beginsE_66 : decode cX12_beginsE 66 = .ok (.if_icmp .eq 9, 3) := by decide +kernel
theorem dX12_beginsE_69 : decode cX12_beginsE 69 = .ok (.iload_n 0, 1) := by decide +kernel
theorem dX12_beginsE_70 : decode cX12_beginsE 70 = .ok (.bipush 20, 2) := by decide +kernel
theorem dX12_beginsE_72 : decode cX12_beginsE 72 = .ok (.if_icmp .ne 7, 3) := by decide +kernel
theorem dX12_beginsE_75 : decode cX12_beginsE 75 = .ok (.iconst 1, 1) := by decide +kernel
theorem dX12_beginsE_76 : decode cX12_beginsE 76 = .ok (.goto 4, 3) := by decide +kernel
theorem dX12_beginsE_79 : decode cX12_beginsE 79 = .ok (.iconst 0, 1) := by decide +kernel
theorem dX12_beginsE_80 : decode cX12_beginsE 80 = .ok (.ireturn, 1) := by decide +kernel
def wr_beginsE (s0 : zS) (a0 : Int) (Q : Int → zS → Prop) : Prop :=
  ((a0 = 1 → Q 1 s0) ∧ (¬ a0 = 1 → ((a0 = 2 → Q 1 s0) ∧ (¬ a0 = 2 → ((a0 = 4 → Q 1 s0) ∧ (¬ a0 = 4 → ((a0 = 74 → Q 1 s0) ∧ (¬ a0 = 74 → ((a0 = 75 → Q 1 s0) ∧ (¬ a0 = 75 → ((a0 = 76 → Q 1 s0) ∧ (¬ a0 = 76 → ((a0 = 77 → Q 1 s0) ∧ (¬ a0 = 77 → ((a0 = 12 → Q 1 s0) ∧ (¬ a0 = 12 → ((a0 = 21 → Q 1 s0) ∧ (¬ a0 = 21 → ((a0 = 22 → Q 1 s0) ∧ (¬ a0 = 22 → ((a0 = 33 → Q 1 s0) ∧ (¬ a0 = 33 → ((a0 = 18 → Q 1 s0) ∧ (¬ a0 = 18 → ((¬ a0 = 20 → Q 0 s0) ∧ (a0 = 20 → Q 1 s0))))))))))))))))))))))))))
set_option maxHeartbeats 4000000 in
set_option maxRecDepth 100000 in
theorem rm_beginsE (l : Launch) (d : gD) (b : Nat) {t : Nat} {T : Nat → Nat} {F : gM} {s0 : zS} {a0 : Int} (Ra0 : zR a0) {Q : Int → zS → Prop} (hZ : zZ d t T F F s0) (hw : wr_beginsE s0 a0 Q) : gMi l d b yX12_beginsE cX12_beginsE 1 .boolean 0 0 0 F [.int (zI a0)] (zPi d t T F Q) := by
  refine gM_of2 rfl (nL := 1) (Nat.le_of_ble_eq_true rfl) ?_
  intro X hX hC; subst hX
  show gG X d b (zQi X d b t T F Q) F 0 0 0 [some (.int (zI a0))] []
  unfold wr_beginsE at hw
  refine g_iload_n hC dX12_beginsE_0 rfl ?_
  refine g_iconst (v := zI 1) hC dX12_beginsE_1 rfl ?_
  refine zr_icmp_eq (tgt := 75) hC Ra0 (by decide) dX12_beginsE_2 (by decide) (fun c1 => ?_) (fun c1 => ?_)
  · have h2 := hw.1 c1
    refine g_iconst (v := zI 1) hC dX12_beginsE_75 rfl ?_
    refine g_goto (tgt := 80) hC dX12_beginsE_76 (by decide) ?_
    exact zr_zret hC hZ (Or.inr rfl) h2 dX12_beginsE_80
  · have h3 := hw.2 c1
    refine g_iload_n hC dX12_beginsE_5 rfl ?_
    refine g_iconst (v := zI 2) hC dX12_beginsE_6 rfl ?_
    refine zr_icmp_eq (tgt := 75) hC Ra0 (by decide) dX12_beginsE_7 (by decide) (fun c4 => ?_) (fun c4 => ?_)
    · have h5 := h3.1 c4
      refine g_iconst (v := zI 1) hC dX12_beginsE_75 rfl ?_
      refine g_goto (tgt := 80) hC dX12_beginsE_76 (by decide) ?_
      exact zr_zret hC hZ (Or.inr rfl) h5 dX12_beginsE_80
    · have h6 := h3.2 c4
      refine g_iload_n hC dX12_beginsE_10 rfl ?_
      refine g_iconst (v := zI 4) hC dX12_beginsE_11 rfl ?_
      refine zr_icmp_eq (tgt := 75) hC Ra0 (by decide) dX12_beginsE_12 (by decide) (fun c7 => ?_) (fun c7 => ?_)
      · have h8 := h6.1 c7
        refine g_iconst (v := zI 1) hC dX12_beginsE_75 rfl ?_
        refine g_goto (tgt := 80) hC dX12_beginsE_76 (by decide) ?_
        exact zr_zret hC hZ (Or.inr rfl) h8 dX12_beginsE_80
      · have h9 := h6.2 c7
        refine g_iload_n hC dX12_beginsE_15 rfl ?_
        refine g_bipush (v := zI 74) hC dX12_beginsE_16 rfl ?_
        refine zr_icmp_eq (tgt := 75) hC Ra0 (by decide) dX12_beginsE_18 (by decide) (fun c10 => ?_) (fun c10 => ?_)
        · have h11 := h9.1 c10
          refine g_iconst (v := zI 1) hC dX12_beginsE_75 rfl ?_
          refine g_goto (tgt := 80) hC dX12_beginsE_76 (by decide) ?_
          exact zr_zret hC hZ (Or.inr rfl) h11 dX12_beginsE_80
        · have h12 := h9.2 c10
          refine g_iload_n hC dX12_beginsE_21 rfl ?_
          refine g_bipush (v := zI 75) hC dX12_beginsE_22 rfl ?_
          refine zr_icmp_eq (tgt := 75) hC Ra0 (by decide) dX12_beginsE_24 (by decide) (fun c13 => ?_) (fun c13 => ?_)
          · have h14 := h12.1 c13
            refine g_iconst (v := zI 1) hC dX12_beginsE_75 rfl ?_
            refine g_goto (tgt := 80) hC dX12_beginsE_76 (by decide) ?_
            exact zr_zret hC hZ (Or.inr rfl) h14 dX12_beginsE_80
          · have h15 := h12.2 c13
            refine g_iload_n hC dX12_beginsE_27 rfl ?_
            refine g_bipush (v := zI 76) hC dX12_beginsE_28 rfl ?_
            refine zr_icmp_eq (tgt := 75) hC Ra0 (by decide) dX12_beginsE_30 (by decide) (fun c16 => ?_) (fun c16 => ?_)
            · have h17 := h15.1 c16
              refine g_iconst (v := zI 1) hC dX12_beginsE_75 rfl ?_
              refine g_goto (tgt := 80) hC dX12_beginsE_76 (by decide) ?_
              exact zr_zret hC hZ (Or.inr rfl) h17 dX12_beginsE_80
            · have h18 := h15.2 c16
              refine g_iload_n hC dX12_beginsE_33 rfl ?_
              refine g_bipush (v := zI 77) hC dX12_beginsE_34 rfl ?_
              refine zr_icmp_eq (tgt := 75) hC Ra0 (by decide) dX12_beginsE_36 (by decide) (fun c19 => ?_) (fun c19 => ?_)
              · have h20 := h18.1 c19
                refine g_iconst (v := zI 1) hC dX12_beginsE_75 rfl ?_
                refine g_goto (tgt := 80) hC dX12_beginsE_76 (by decide) ?_
                exact zr_zret hC hZ (Or.inr rfl) h20 dX12_beginsE_80
              · have h21 := h18.2 c19
                refine g_iload_n hC dX12_beginsE_39 rfl ?_
                refine g_bipush (v := zI 12) hC dX12_beginsE_40 rfl ?_
                refine zr_icmp_eq (tgt := 75) hC Ra0 (by decide) dX12_beginsE_42 (by decide) (fun c22 => ?_) (fun c22 => ?_)
                · have h23 := h21.1 c22
                  refine g_iconst (v := zI 1) hC dX12_beginsE_75 rfl ?_
                  refine g_goto (tgt := 80) hC dX12_beginsE_76 (by decide) ?_
                  exact zr_zret hC hZ (Or.inr rfl) h23 dX12_beginsE_80
                · have h24 := h21.2 c22
                  refine g_iload_n hC dX12_beginsE_45 rfl ?_
                  refine g_bipush (v := zI 21) hC dX12_beginsE_46 rfl ?_
                  refine zr_icmp_eq (tgt := 75) hC Ra0 (by decide) dX12_beginsE_48 (by decide) (fun c25 => ?_) (fun c25 => ?_)
                  · have h26 := h24.1 c25
                    refine g_iconst (v := zI 1) hC dX12_beginsE_75 rfl ?_
                    refine g_goto (tgt := 80) hC dX12_beginsE_76 (by decide) ?_
                    exact zr_zret hC hZ (Or.inr rfl) h26 dX12_beginsE_80
                  · have h27 := h24.2 c25
                    refine g_iload_n hC dX12_beginsE_51 rfl ?_
                    refine g_bipush (v := zI 22) hC dX12_beginsE_52 rfl ?_
                    refine zr_icmp_eq (tgt := 75) hC Ra0 (by decide) dX12_beginsE_54 (by decide) (fun c28 => ?_) (fun c28 => ?_)
                    · have h29 := h27.1 c28
                      refine g_iconst (v := zI 1) hC dX12_beginsE_75 rfl ?_
                      refine g_goto (tgt := 80) hC dX12_beginsE_76 (by decide) ?_
                      exact zr_zret hC hZ (Or.inr rfl) h29 dX12_beginsE_80
                    · have h30 := h27.2 c28
                      refine g_iload_n hC dX12_beginsE_57 rfl ?_
                      refine g_bipush (v := zI 33) hC dX12_beginsE_58 rfl ?_
                      refine zr_icmp_eq (tgt := 75) hC Ra0 (by decide) dX12_beginsE_60 (by decide) (fun c31 => ?_) (fun c31 => ?_)
                      · have h32 := h30.1 c31
                        refine g_iconst (v := zI 1) hC dX12_beginsE_75 rfl ?_
                        refine g_goto (tgt := 80) hC dX12_beginsE_76 (by decide) ?_
                        exact zr_zret hC hZ (Or.inr rfl) h32 dX12_beginsE_80
                      · have h33 := h30.2 c31
                        refine g_iload_n hC dX12_beginsE_63 rfl ?_
                        refine g_bipush (v := zI 18) hC dX12_beginsE_64 rfl ?_
                        refine zr_icmp_eq (tgt := 75) hC Ra0 (by decide) dX12_beginsE_66 (by decide) (fun c34 => ?_) (fun c34 => ?_)
                        · have h35 := h33.1 c34
                          refine g_iconst (v := zI 1) hC dX12_beginsE_75 rfl ?_
                          refine g_goto (tgt := 80) hC dX12_beginsE_76 (by decide) ?_
                          exact zr_zret hC hZ (Or.inr rfl) h35 dX12_beginsE_80
                        · have h36 := h33.2 c34
                          refine g_iload_n hC dX12_beginsE_69 rfl ?_
                          refine g_bipush (v := zI 20) hC dX12_beginsE_70 rfl ?_
                          refine zr_icmp_ne (tgt := 79) hC Ra0 (by decide) dX12_beginsE_72 (by decide) (fun c37 => ?_) (fun c37 => ?_)
                          · have h38 := h36.1 c37
                            refine g_iconst (v := zI 0) hC dX12_beginsE_79 rfl ?_
                            exact zr_zret hC hZ (Or.inl rfl) h38 dX12_beginsE_80
                          · have h39 := h36.2 c37
                            refine g_iconst (v := zI 1) hC dX12_beginsE_75 rfl ?_
                            refine g_goto (tgt := 80) hC dX12_beginsE_76 (by decide) ?_
                            exact zr_zret hC hZ (Or.inr rfl) h39 dX12_beginsE_80
theorem dX12_command_0 : decode cX12_command 0 = .ok (.iload_n 1, 1) := by decide +kernel
theorem dX12_command_1 : decode cX12_command 1 = .ok (.bipush 15, 2) := by decide +kernel
theorem dX12_command_3 : decode cX12_command 3 = .ok (.if_icmp .eq 9, 3) := by decide +kernel
theorem dX12_command_6 : decode cX12_command 6 = .ok (.iload_n 1, 1) := by decide +kernel
theorem dX12_command_7 : decode cX12_command 7 = .ok (.bipush 11, 2) := by decide +kernel
theorem dX12_command_9 : decode cX12_command 9 = .ok (.if_icmp .ne 13, 3) := by decide +kernel
theorem dX12_command_12 : decode cX12_command 12 = .ok (.aload_n 0, 1) := by decide +kernel
theorem dX12_command_13 : decode cX12_command 13 = .ok (.bipush 37, 2) := by decide +kernel
theorem dX12_command_15 : decode cX12_command 15 = .ok (.iload_n 2, 1) := by decide +kernel
theorem dX12_command_16 : decode cX12_command 16 = .ok (.iconst 0, 1) := by decide +kernel
theorem dX12_command_17 : decode cX12_command 17 = .ok (.invokevirtual 570, 3) := by decide +kernel
theorem dX12_command_20 : decode cX12_command 20 = .ok (.iconst 1, 1) := by decide +kernel
theorem dX12_command_21 : decode cX12_command 21 = .ok (.ireturn, 1) := by decide +kernel
theorem dX12_command_22 : decode cX12_command 22 = .ok (.iload_n 1, 1) := by decide +kernel
theorem dX12_command_23 : decode cX12_command 23 = .ok (.invokestatic 586, 3) := by decide +kernel
theorem dX12_command_26 : decode cX12_command 26 = .ok (.ifCond .eq 23, 3) := by decide +kernel
theorem dX12_command_29 : decode cX12_command 29 = .ok (.aload_n 0, 1) := by decide +kernel
theorem dX12_command_30 : decode cX12_command 30 = .ok (.bipush 25, 2) := by decide +kernel
theorem dX12_command_32 : decode cX12_command 32 = .ok (.iconst 0, 1) := by decide +kernel
theorem dX12_command_33 : decode cX12_command 33 = .ok (.iload_n 2, 1) := by decide +kernel
theorem dX12_command_34 : decode cX12_command 34 = .ok (.iload_n 3, 1) := by decide +kernel
theorem dX12_command_35 : decode cX12_command 35 = .ok (.invokevirtual 534, 3) := by decide +kernel
theorem dX12_command_38 : decode cX12_command 38 = .ok (.aload_n 0, 1) := by decide +kernel
theorem dX12_command_39 : decode cX12_command 39 = .ok (.bipush 28, 2) := by decide +kernel
theorem dX12_command_41 : decode cX12_command 41 = .ok (.iconst 0, 1) := by decide +kernel
theorem dX12_command_42 : decode cX12_command 42 = .ok (.iconst 0, 1) := by decide +kernel
theorem dX12_command_43 : decode cX12_command 43 = .ok (.iconst 0, 1) := by decide +kernel
theorem dX12_command_44 : decode cX12_command 44 = .ok (.invokevirtual 534, 3) := by decide +kernel
theorem dX12_command_47 : decode cX12_command 47 = .ok (.iconst 1, 1) := by decide +kernel
theorem dX12_command_48 : decode cX12_command 48 = .ok (.ireturn, 1) := by decide +kernel
theorem dX12_command_49 : decode cX12_command 49 = .ok (.iload_n 1, 1) := by decide +kernel
theorem dX12_command_50 : decode cX12_command 50 = .ok (.bipush 10, 2) := by decide +kernel
theorem dX12_command_52 : decode cX12_command 52 = .ok (.if_icmp .ne 38, 3) := by decide +kernel
theorem dX12_command_55 : decode cX12_command 55 = .ok (.aload_n 0, 1) := by decide +kernel
theorem dX12_command_56 : decode cX12_command 56 = .ok (.invokevirtual 552, 3) := by decide +kernel
theorem dX12_command_59 : decode cX12_command 59 = .ok (.ifCond .ne 5, 3) := by decide +kernel
theorem dX12_command_62 : decode cX12_command 62 = .ok (.iconst 0, 1) := by decide +kernel
theorem dX12_command_63 : decode cX12_command 63 = .ok (.ireturn, 1) := by decide +kernel
theorem dX12_command_64 : decode cX12_command 64 = .ok (.aload_n 0, 1) := by decide +kernel
theorem dX12_command_65 : decode cX12_command 65 = .ok (.aload_n 0, 1) := by decide +kernel
theorem dX12_command_66 : decode cX12_command 66 = .ok (.invokevirtual 526, 3) := by decide +kernel
theorem dX12_command_69 : decode cX12_command 69 = .ok (.invokestatic 561, 3) := by decide +kernel
theorem dX12_command_72 : decode cX12_command 72 = .ok (.ifCond .eq 8, 3) := by decide +kernel
theorem dX12_command_75 : decode cX12_command 75 = .ok (.bipush 18, 2) := by decide +kernel
theorem dX12_command_77 : decode cX12_command 77 = .ok (.goto 5, 3) := by decide +kernel
theorem dX12_command_80 : decode cX12_command 80 = .ok (.bipush 20, 2) := by decide +kernel
theorem dX12_command_82 : decode cX12_command 82 = .ok (.iconst 0, 1) := by decide +kernel
theorem dX12_command_83 : decode cX12_command 83 = .ok (.iload_n 2, 1) := by decide +kernel
theorem dX12_command_84 : decode cX12_command 84 = .ok (.iload_n 3, 1) := by decide +kernel
theorem dX12_command_85 : decode cX12_command 85 = .ok (.invokevirtual 534, 3) := by decide +kernel
theorem dX12_command_88 : decode cX12_command 88 = .ok (.iconst 1, 1) := by decide +kernel
theorem dX12_command_89 : decode cX12_command 89 = .ok (.ireturn, 1) := by decide +kernel
theorem dX12_command_90 : decode cX12_command 90 = .ok (.aload_n 0, 1) := by decide +kernel
theorem dX12_command_91 : decode cX12_command 91 = .ok (.dup, 1) := by decide +kernel
theorem dX12_command_92 : decode cX12_command 92 = .ok (.getfield 142, 3) := by decide +kernel
theorem dX12_command_95 : decode cX12_command 95 = .ok (.iconst 1, 1) := by decide +kernel
theorem dX12_command_96 : decode cX12_command 96 = .ok (.iadd, 1) := by decide +kernel
theorem dX12_command_97 : decode cX12_command 97 = .ok (.putfield 142, 3) := by decide +kernel
theorem dX12_command_100 : decode cX12_command 100 = .ok (.iload_n 1, 1) := by decide +kernel
theorem dX12_command_101 : decode cX12_command 101 = .ok (.bipush 61, 2) := by decide +kernel
theorem dX12_command_103 : decode cX12_command 103 = .ok (.if_icmp .ne 8, 3) := by decide +kernel
theorem dX12_command_106 : decode cX12_command 106 = .ok (.bipush 29, 2) := by decide +kernel
theorem dX12_command_108 : decode cX12_command 108 = .ok (.goto 48, 3) := by decide +kernel
theorem dX12_command_111 : decode cX12_command 111 = .ok (.iload_n 1, 1) := by decide +kernel
theorem dX12_command_112 : decode cX12_command 112 = .ok (.bipush 62, 2) := by decide +kernel
theorem dX12_command_114 : decode cX12_command 114 = .ok (.if_icmp .ne 8, 3) := by decide +kernel
theorem dX12_command_117 : decode cX12_command 117 = .ok (.bipush 30, 2) := by decide +kernel
theorem dX12_command_119 : decode cX12_command 119 = .ok (.goto 37, 3) := by decide +kernel
theorem dX12_command_122 : decode cX12_command 122 = .ok (.iload_n 1, 1) := by decide +kernel
theorem dX12_command_123 : decode cX12_command 123 = .ok (.bipush 63, 2) := by decide +kernel
theorem dX12_command_125 : decode cX12_command 125 = .ok (.if_icmp .ne 8, 3) := by decide +kernel
theorem dX12_command_128 : decode cX12_command 128 = .ok (.bipush 31, 2) := by decide +kernel
theorem dX12_command_130 : decode cX12_command 130 = .ok (.goto 26, 3) := by decide +kernel
theorem dX12_command_133 : decode cX12_command 133 = .ok (.iload_n 1, 1) := by decide +kernel
theorem dX12_command_134 : decode cX12_command 134 = .ok (.bipush 64, 2) := by decide +kernel
theorem dX12_command_136 : decode cX12_command 136 = .ok (.if_icmp .ne 8, 3) := by decide +kernel
theorem dX12_command_139 : decode cX12_command 139 = .ok (.bipush 32, 2) := by decide +kernel
theorem dX12_command_141 : decode cX12_command 141 = .ok (.goto 15, 3) := by decide +kernel
theorem dX12_command_144 : decode cX12_command 144 = .ok (.iload_n 1, 1) := by decide +kernel
theorem dX12_command_145 : decode cX12_command 145 = .ok (.bipush 66, 2) := by decide +kernel
theorem dX12_command_147 : decode cX12_command 147 = .ok (.if_icmp .ne 8, 3) := by decide +kernel
theorem dX12_command_150 : decode cX12_command 150 = .ok (.bipush 34, 2) := by decide +kernel
theorem dX12_command_152 : decode cX12_command 152 = .ok (.goto 4, 3) := by decide +kernel
theorem dX12_command_155 : decode cX12_command 155 = .ok (.iconst (-1), 1) := by decide +kernel
theorem dX12_command_156 : decode cX12_command 156 = .ok (.istore 4, 2) := by decide +kernel
theorem dX12_command_158 : decode cX12_command 158 = .ok (.iload 4, 2) := by decide +kernel
theorem dX12_command_160 : decode cX12_command 160 = .ok (.ifCond .lt 13, 3) := by decide +kernel
theorem dX12_command_163 : decode cX12_command 163 = .ok (.aload_n 0, 1) := by decide +kernel
theorem dX12_command_164 : decode cX12_command 164 = .ok (.iload 4, 2) := by decide +kernel
theorem dX12_command_166 : decode cX12_command 166 = .ok (.iload_n 2, 1) := by decide +kernel
theorem dX12_command_167 : decode cX12_command 167 = .ok (.iconst 0, 1) := by decide +kernel
theorem dX12_command_168 : decode cX12_command 168 = .ok (.invokevirtual 570, 3) := by decide +kernel
theorem dX12_command_171 : decode cX12_command 171 = .ok (.iconst 1, 1) := by decide +kernel
theorem dX12_command_172 : decode cX12_command 172 = .ok (.ireturn, 1) := by decide +kernel
theorem dX12_command_173 : decode cX12_command 173 = .ok (.iload_n 1, 1) := by decide +kernel
theorem dX12_command_174 : decode cX12_command 174 = .ok (.bipush 65, 2) := by decide +kernel
theorem dX12_command_176 : decode cX12_command 176 = .ok (.if_icmp .ne 24, 3) := by decide +kernel
theorem dX12_command_179 : decode cX12_command 179 = .ok (.aload_n 0, 1) := by decide +kernel
theorem dX12_command_180 : decode cX12_command 180 = .ok (.bipush 6, 2) := by decide +kernel
theorem dX12_command_182 : decode cX12_command 182 = .ok (.bipush 33, 2) := by decide +kernel
theorem dX12_command_184 : decode cX12_command 184 = .ok (.iload_n 2, 1) := by decide +kernel
theorem dX12_command_185 : decode cX12_command 185 = .ok (.iload_n 3, 1) := by decide +kernel
theorem dX12_command_186 : decode cX12_command 186 = .ok (.invokevirtual 534, 3) := by decide +kernel
theorem dX12_command_189 : decode cX12_command 189 = .ok (.aload_n 0, 1) := by decide +kernel
theorem dX12_command_190 : decode cX12_command 190 = .ok (.bipush 28, 2) := by decide +kernel
theorem dX12_command_192 : decode cX12_command 192 = .ok (.iconst 0, 1) := by decide +kernel
theorem dX12_command_193 : decode cX12_command 193 = .ok (.iconst 0, 1) := by decide +kernel
theorem dX12_command_194 : decode cX12_command 194 = .ok (.iconst 0, 1) := by decide +kernel
theorem dX12_command_195 : decode cX12_command 195 = .ok (.invokevirtual 534, 3) := by decide +kernel
theorem dX12_command_198 : decode cX12_command 198 = .ok (.iconst 1, 1) := by decide +kernel
theorem dX12_command_199 : decode cX12_command 199 = .ok (.ireturn, 1) := by decide +kernel
theorem dX12_command_200 : decode cX12_command 200 = .ok (.iload_n 1, 1) := by decide +kernel
theorem dX12_command_201 : decode cX12_command 201 = .ok (.bipush 67, 2) := by decide +kernel
theorem dX12_command_203 : decode cX12_command 203 = .ok (.if_icmp .ne 44, 3) := by decide +kernel
theorem dX12_command_206 : decode cX12_command 206 = .ok (.aload_n 0, 1) := by decide +kernel
theorem dX12_command_207 : decode cX12_command 207 = .ok (.invokevirtual 526, 3) := by decide +kernel
theorem dX12_command_210 : decode cX12_command 210 = .ok (.iconst 1, 1) := by decide +kernel
theorem dX12_command_211 : decode cX12_command 211 = .ok (.if_icmp .eq 5, 3) := by decide +kernel
theorem dX12_command_214 : decode cX12_command 214 = .ok (.iconst 0, 1) := by decide +kernel
theorem dX12_command_215 : decode cX12_command 215 = .ok (.ireturn, 1) := by decide +kernel
theorem dX12_command_216 : decode cX12_command 216 = .ok (.aload_n 0, 1) := by decide +kernel
theorem dX12_command_217 : decode cX12_command 217 = .ok (.bipush 35, 2) := by decide +kernel
theorem dX12_command_219 : decode cX12_command 219 = .ok (.aload_n 0, 1) := by decide +kernel
theorem dX12_command_220 : decode cX12_command 220 = .ok (.getfield 142, 3) := by decide +kernel
theorem dX12_command_223 : decode cX12_command 223 = .ok (.aload_n 0, 1) := by decide +kernel
theorem dX12_command_224 : decode cX12_command 224 = .ok (.getfield 45, 3) := by decide +kernel
theorem dX12_command_227 : decode cX12_command 227 = .ok (.aload_n 0, 1) := by decide +kernel
theorem dX12_command_228 : decode cX12_command 228 = .ok (.getfield 142, 3) := by decide +kernel
theorem dX12_command_231 : decode cX12_command 231 = .ok (.iaload, 1) := by decide +kernel
theorem dX12_command_232 : decode cX12_command 232 = .ok (.invokevirtual 570, 3) := by decide +kernel
theorem dX12_command_235 : decode cX12_command 235 = .ok (.aload_n 0, 1) := by decide +kernel
theorem dX12_command_236 : decode cX12_command 236 = .ok (.dup, 1) := by decide +kernel
theorem dX12_command_237 : decode cX12_command 237 = .ok (.getfield 142, 3) := by decide +kernel
theorem dX12_command_240 : decode cX12_command 240 = .ok (.iconst 1, 1) := by decide +kernel
theorem dX12_command_241 : decode cX12_command 241 = .ok (.iadd, 1) := by decide +kernel
theorem dX12_command_242 : decode cX12_command 242 = .ok (.putfield 142, 3) := by decide +kernel
theorem dX12_command_245 : decode cX12_command 245 = .ok (.iconst 1, 1) := by decide +kernel
theorem dX12_command_246 : decode cX12_command 246 = .ok (.ireturn, 1) := by decide +kernel
theorem dX12_command_247 : decode cX12_command 247 = .ok (.iload_n 1, 1) := by decide +kernel
theorem dX12_command_248 : decode cX12_command 248 = .ok (.bipush 47, 2) := by decide +kernel
theorem dX12_command_250 : decode cX12_command 250 = .ok (.if_icmp .ne 8, 3) := by decide +kernel
theorem dX12_command_253 : decode cX12_command 253 = .ok (.bipush 22, 2) := by decide +kernel
theorem dX12_command_255 : decode cX12_command 255 = .ok (.goto 37, 3) := by decide +kernel
theorem dX12_command_258 : decode cX12_command 258 = .ok (.iload_n 1, 1) := by decide +kernel
theorem dX12_command_259 : decode cX12_command 259 = .ok (.bipush 49, 2) := by decide +kernel
theorem dX12_command_261 : decode cX12_command 261 = .ok (.if_icmp .ne 8, 3) := by decide +kernel
theorem dX12_command_264 : decode cX12_command 264 = .ok (.bipush 23, 2) := by decide +kernel
theorem dX12_command_266 : decode cX12_command 266 = .ok (.goto 26, 3) := by decide +kernel
theorem dX12_command_269 : decode cX12_command 269 = .ok (.iload_n 1, 1) := by decide +kernel
theorem dX12_command_270 : decode cX12_command 270 = .ok (.bipush 52, 2) := by decide +kernel
theorem dX12_command_272 : decode cX12_command 272 = .ok (.if_icmp .ne 8, 3) := by decide +kernel
theorem dX12_command_275 : decode cX12_command 275 = .ok (.bipush 25, 2) := by decide +kernel
theorem dX12_command_277 : decode cX12_command 277 = .ok (.goto 15, 3) := by decide +kernel
theorem dX12_command_280 : decode cX12_command 280 = .ok (.iload_n 1, 1) := by decide +kernel
theorem dX12_command_281 : decode cX12_command 281 = .ok (.bipush 53, 2) := by decide +kernel
theorem dX12_command_283 : decode cX12_command 283 = .ok (.if_icmp .ne 8, 3) := by decide +kernel
theorem dX12_command_286 : decode cX12_command 286 = .ok (.bipush 26, 2) := by decide +kernel
theorem dX12_command_288 : decode cX12_command 288 = .ok (.goto 4, 3) := by decide +kernel
theorem dX12_command_291 : decode cX12_command 291 = .ok (.iconst (-1), 1) := by decide +kernel
theorem dX12_command_292 : decode cX12_command 292 = .ok (.istore 4, 2) := by decide +kernel
theorem dX12_command_294 : decode cX12_command 294 = .ok (.iload 4, 2) := by decide +kernel
theorem dX12_command_296 : decode cX12_command 296 = .ok (.ifCond .lt 42, 3) := by decide +kernel
theorem dX12_command_299 : decode cX12_command 299 = .ok (.aload_n 0, 1) := by decide +kernel
theorem dX12_command_300 : decode cX12_command 300 = .ok (.bipush 6, 2) := by decide +kernel
theorem dX12_command_302 : decode cX12_command 302 = .ok (.iload 4, 2) := by decide +kernel
theorem dX12_command_304 : decode cX12_command 304 = .ok (.iload_n 2, 1) := by decide +kernel
theorem dX12_command_305 : decode cX12_command 305 = .ok (.iload_n 3, 1) := by decide +kernel
theorem dX12_command_306 : decode cX12_command 306 = .ok (.invokevirtual 534, 3) := by decide +kernel
theorem dX12_command_309 : decode cX12_command 309 = .ok (.aload_n 0, 1) := by decide +kernel
theorem dX12_command_310 : decode cX12_command 310 = .ok (.bipush 14, 2) := by decide +kernel
theorem dX12_command_312 : decode cX12_command 312 = .ok (.iconst 0, 1) := by decide +kernel
theorem dX12_command_313 : decode cX12_command 313 = .ok (.iconst 0, 1) := by decide +kernel
theorem dX12_command_314 : decode cX12_command 314 = .ok (.iconst 0, 1) := by decide +kernel
theorem dX12_command_315 : decode cX12_command 315 = .ok (.invokevirtual 534, 3) := by decide +kernel
theorem dX12_command_318 : decode cX12_command 318 = .ok (.aload_n 0, 1) := by decide +kernel
theorem dX12_command_319 : decode cX12_command 319 = .ok (.bipush 13, 2) := by decide +kernel
theorem dX12_command_321 : decode cX12_command 321 = .ok (.iconst 0, 1) := by decide +kernel
theorem dX12_command_322 : decode cX12_command 322 = .ok (.iconst 0, 1) := by decide +kernel
theorem dX12_command_323 : decode cX12_command 323 = .ok (.iconst 0, 1) := by decide +kernel
theorem dX12_command_324 : decode cX12_command 324 = .ok (.invokevirtual 534, 3) := by decide +kernel
theorem dX12_command_327 : decode cX12_command 327 = .ok (.aload_n 0, 1) := by decide +kernel
theorem dX12_command_328 : decode cX12_command 328 = .ok (.bipush 28, 2) := by decide +kernel
theorem dX12_command_330 : decode cX12_command 330 = .ok (.iconst 0, 1) := by decide +kernel
theorem dX12_command_331 : decode cX12_command 331 = .ok (.iconst 0, 1) := by decide +kernel
theorem dX12_command_332 : decode cX12_command 332 = .ok (.iconst 0, 1) := by decide +kernel
theorem dX12_command_333 : decode cX12_command 333 = .ok (.invokevirtual 534, 3) := by decide +kernel
theorem dX12_command_336 : decode cX12_command 336 = .ok (.iconst 1, 1) := by decide +kernel
theorem dX12_command_337 : decode cX12_command 337 = .ok (.ireturn, 1) := by decide +kernel
theorem dX12_command_338 : decode cX12_command 338 = .ok (.iload_n 1, 1) := by decide +kernel
theorem dX12_command_339 : decode cX12_command 339 = .ok (.bipush 50, 2) := by decide +kernel
theorem dX12_command_341 : decode cX12_command 341 = .ok (.if_icmp .ne 61, 3) := by decide +kernel
theorem dX12_command_344 : decode cX12_command 344 = .ok (.aload_n 0, 1) := by decide +kernel
theorem dX12_command_345 : decode cX12_command 345 = .ok (.bipush 6, 2) := by decide +kernel
theorem dX12_command_347 : decode cX12_command 347 = .ok (.bipush 24, 2) := by decide +kernel
theorem dX12_command_349 : decode cX12_command 349 = .ok (.iload_n 2, 1) := by decide +kernel
theorem dX12_command_350 : decode cX12_command 350 = .ok (.iload_n 3, 1) := by decide +kernel
theorem dX12_command_351 : decode cX12_command 351 = .ok (.invokevirtual 534, 3) := by decide +kernel
theorem dX12_command_354 : decode cX12_command 354 = .ok (.aload_n 0, 1) := by decide +kernel
theorem dX12_command_355 : decode cX12_command 355 = .ok (.bipush 14, 2) := by decide +kernel
theorem dX12_command_357 : decode cX12_command 357 = .ok (.iconst 0, 1) := by decide +kernel
theorem dX12_command_358 : decode cX12_command 358 = .ok (.iconst 0, 1) := by decide +kernel
theorem dX12_command_359 : decode cX12_command 359 = .ok (.iconst 0, 1) := by decide +kernel
theorem dX12_command_360 : decode cX12_command 360 = .ok (.invokevirtual 534, 3) := by decide +kernel
theorem dX12_command_363 : decode cX12_command 363 = .ok (.aload_n 0, 1) := by decide +kernel
theorem dX12_command_364 : decode cX12_command 364 = .ok (.bipush 16, 2) := by decide +kernel
theorem dX12_command_366 : decode cX12_command 366 = .ok (.bipush 51, 2) := by decide +kernel
theorem dX12_command_368 : decode cX12_command 368 = .ok (.iconst 0, 1) := by decide +kernel
theorem dX12_command_369 : decode cX12_command 369 = .ok (.iconst 0, 1) := by decide +kernel
theorem dX12_command_370 : decode cX12_command 370 = .ok (.invokevirtual 534, 3) := by decide +kernel
theorem dX12_command_373 : decode cX12_command 373 = .ok (.aload_n 0, 1) := by decide +kernel
theorem dX12_command_374 : decode cX12_command 374 = .ok (.bipush 14, 2) := by decide +kernel
theorem dX12_command_376 : decode cX12_command 376 = .ok (.iconst 0, 1) := by decide +kernel
theorem dX12_command_377 : decode cX12_command 377 = .ok (.iconst 0, 1) := by decide +kernel
theorem dX12_command_378 : decode cX12_command 378 = .ok (.iconst 0, 1) := by decide +kernel
theorem dX12_command_379 : decode cX12_command 379 = .ok (.invokevirtual 534, 3) := by decide +kernel
theorem dX12_command_382 : decode cX12_command 382 = .ok (.aload_n 0, 1) := by decide +kernel
theorem dX12_command_383 : decode cX12_command 383 = .ok (.bipush 13, 2) := by decide +kernel
theorem dX12_command_385 : decode cX12_command 385 = .ok (.iconst 0, 1) := by decide +kernel
theorem dX12_command_386 : decode cX12_command 386 = .ok (.iconst 0, 1) := by decide +kernel
theorem dX12_command_387 : decode cX12_command 387 = .ok (.iconst 0, 1) := by decide +kernel
theorem dX12_command_388 : decode cX12_command 388 = .ok (.invokevirtual 534, 3) := by decide +kernel
theorem dX12_command_391 : decode cX12_command 391 = .ok (.aload_n 0, 1) := by decide +kernel
theorem dX12_command_392 : decode cX12_command 392 = .ok (.bipush 28, 2) := by decide +kernel
theorem dX12_command_394 : decode cX12_command 394 = .ok (.iconst 0, 1) := by decide +kernel
theorem dX12_command_395 : decode cX12_command 395 = .ok (.iconst 0, 1) := by decide +kernel
theorem dX12_command_396 : decode cX12_command 396 = .ok (.iconst 0, 1) := by decide +kernel
theorem dX12_command_397 : decode cX12_command 397 = .ok (.invokevirtual 534, 3) := by decide +kernel
theorem dX12_command_400 : decode cX12_command 400 = .ok (.iconst 1, 1) := by decide +kernel
theorem dX12_command_401 : decode cX12_command 401 = .ok (.ireturn, 1) := by decide +kernel
theorem dX12_command_402 : decode cX12_command 402 = .ok (.iload_n 1, 1) := by decide +kernel
theorem dX12_command_403 : decode cX12_command 403 = .ok (.bipush 54, 2) := by decide +kernel
theorem dX12_command_405 : decode cX12_command 405 = .ok (.if_icmp .ne 114, 3) := by decide +kernel
theorem dX12_command_408 : decode cX12_command 408 = .ok (.aload_n 0, 1) := by decide +kernel
theorem dX12_command_409 : decode cX12_command 409 = .ok (.invokevirtual 526, 3) := by decide +kernel
theorem dX12_command_412 : decode cX12_command 412 = .ok (.iconst 1, 1) := by decide +kernel
theorem dX12_command_413 : decode cX12_command 413 = .ok (.if_icmp .eq 5, 3) := by decide +kernel
theorem dX12_command_416 : decode cX12_command 416 = .ok (.iconst 0, 1) := by decide +kernel
theorem dX12_command_417 : decode cX12_command 417 = .ok (.ireturn, 1) := by decide +kernel
theorem dX12_command_418 : decode cX12_command 418 = .ok (.aload_n 0, 1) := by decide +kernel
theorem dX12_command_419 : decode cX12_command 419 = .ok (.bipush 58, 2) := by decide +kernel
theorem dX12_command_421 : decode cX12_command 421 = .ok (.aload_n 0, 1) := by decide +kernel
theorem dX12_command_422 : decode cX12_command 422 = .ok (.getfield 142, 3) := by decide +kernel
theorem dX12_command_425 : decode cX12_command 425 = .ok (.aload_n 0, 1) := by decide +kernel
theorem dX12_command_426 : decode cX12_command 426 = .ok (.getfield 45, 3) := by decide +kernel
theorem dX12_command_429 : decode cX12_command 429 = .ok (.aload_n 0, 1) := by decide +kernel
theorem dX12_command_430 : decode cX12_command 430 = .ok (.getfield 142, 3) := by decide +kernel
theorem dX12_command_433 : decode cX12_command 433 = .ok (.iaload, 1) := by decide +kernel
theorem dX12_command_434 : decode cX12_command 434 = .ok (.invokevirtual 570, 3) := by decide +kernel
theorem dX12_command_437 : decode cX12_command 437 = .ok (.aload_n 0, 1) := by decide +kernel
theorem dX12_command_438 : decode cX12_command 438 = .ok (.dup, 1) := by decide +kernel
theorem dX12_command_439 : decode cX12_command 439 = .ok (.getfield 142, 3) := by decide +kernel
theorem dX12_command_442 : decode cX12_command 442 = .ok (.iconst 1, 1) := by decide +kernel
theorem dX12_command_443 : decode cX12_command 443 = .ok (.iadd, 1) := by decide +kernel
theorem dX12_command_444 : decode cX12_command 444 = .ok (.putfield 142, 3) := by decide +kernel
theorem dX12_command_447 : decode cX12_command 447 = .ok (.aload_n 0, 1) := by decide +kernel
theorem dX12_command_448 : decode cX12_command 448 = .ok (.bipush 6, 2) := by decide +kernel
theorem dX12_command_450 : decode cX12_command 450 = .ok (.bipush 27, 2) := by decide +kernel
theorem dX12_command_452 : decode cX12_command 452 = .ok (.iload_n 2, 1) := by decide +kernel
theorem dX12_command_453 : decode cX12_command 453 = .ok (.iload_n 3, 1) := by decide +kernel
theorem dX12_command_454 : decode cX12_command 454 = .ok (.invokevirtual 534, 3) := by decide +kernel
theorem dX12_command_457 : decode cX12_command 457 = .ok (.aload_n 0, 1) := by decide +kernel
theorem dX12_command_458 : decode cX12_command 458 = .ok (.bipush 14, 2) := by decide +kernel
theorem dX12_command_460 : decode cX12_command 460 = .ok (.iconst 0, 1) := by decide +kernel
theorem dX12_command_461 : decode cX12_command 461 = .ok (.iconst 0, 1) := by decide +kernel
theorem dX12_command_462 : decode cX12_command 462 = .ok (.iconst 0, 1) := by decide +kernel
theorem dX12_command_463 : decode cX12_command 463 = .ok (.invokevirtual 534, 3) := by decide +kernel
theorem dX12_command_466 : decode cX12_command 466 = .ok (.aload_n 0, 1) := by decide +kernel
theorem dX12_command_467 : decode cX12_command 467 = .ok (.bipush 13, 2) := by decide +kernel
theorem dX12_command_469 : decode cX12_command 469 = .ok (.iconst 0, 1) := by decide +kernel
theorem dX12_command_470 : decode cX12_command 470 = .ok (.iconst 0, 1) := by decide +kernel
theorem dX12_command_471 : decode cX12_command 471 = .ok (.iconst 0, 1) := by decide +kernel
theorem dX12_command_472 : decode cX12_command 472 = .ok (.invokevirtual 534, 3) := by decide +kernel
theorem dX12_command_475 : decode cX12_command 475 = .ok (.aload_n 0, 1) := by decide +kernel
theorem dX12_command_476 : decode cX12_command 476 = .ok (.bipush 41, 2) := by decide +kernel
theorem dX12_command_478 : decode cX12_command 478 = .ok (.iconst 0, 1) := by decide +kernel
theorem dX12_command_479 : decode cX12_command 479 = .ok (.iconst 0, 1) := by decide +kernel
theorem dX12_command_480 : decode cX12_command 480 = .ok (.iconst 0, 1) := by decide +kernel
theorem dX12_command_481 : decode cX12_command 481 = .ok (.invokevirtual 534, 3) := by decide +kernel
theorem dX12_command_484 : decode cX12_command 484 = .ok (.aload_n 0, 1) := by decide +kernel
theorem dX12_command_485 : decode cX12_command 485 = .ok (.bipush 28, 2) := by decide +kernel
theorem dX12_command_487 : decode cX12_command 487 = .ok (.iconst 0, 1) := by decide +kernel
theorem dX12_command_488 : decode cX12_command 488 = .ok (.iconst 0, 1) := by decide +kernel
theorem dX12_command_489 : decode cX12_command 489 = .ok (.iconst 0, 1) := by decide +kernel
theorem dX12_command_490 : decode cX12_command 490 = .ok (.invokevirtual 534, 3) := by decide +kernel
theorem dX12_command_493 : decode cX12_command 493 = .ok (.aload_n 0, 1) := by decide +kernel
theorem dX12_command_494 : decode cX12_command 494 = .ok (.bipush 16, 2) := by decide +kernel
theorem dX12_command_496 : decode cX12_command 496 = .ok (.bipush 55, 2) := by decide +kernel
theorem dX12_command_498 : decode cX12_command 498 = .ok (.iconst 0, 1) := by decide +kernel
theorem dX12_command_499 : decode cX12_command 499 = .ok (.iconst 0, 1) := by decide +kernel
theorem dX12_command_500 : decode cX12_command 500 = .ok (.invokevirtual 534, 3) := by decide +kernel
theorem dX12_command_503 : decode cX12_command 503 = .ok (.aload_n 0, 1) := by decide +kernel
theorem dX12_command_504 : decode cX12_command 504 = .ok (.bipush 28, 2) := by decide +kernel
theorem dX12_command_506 : decode cX12_command 506 = .ok (.iconst 0, 1) := by decide +kernel
theorem dX12_command_507 : decode cX12_command 507 = .ok (.iconst 0, 1) := by decide +kernel
theorem dX12_command_508 : decode cX12_command 508 = .ok (.iconst 0, 1) := by decide +kernel
theorem dX12_command_509 : decode cX12_command 509 = .ok (.invokevirtual 534, 3) := by decide +kernel
theorem dX12_command_512 : decode cX12_command 512 = .ok (.aload_n 0, 1) := by decide +kernel
theorem dX12_command_513 : decode cX12_command 513 = .ok (.bipush 25, 2) := by decide +kernel
theorem dX12_command_515 : decode cX12_command 515 = .ok (.invokevirtual 549, 3) := by decide +kernel
theorem dX12_command_518 : decode cX12_command 518 = .ok (.ireturn, 1) := by decide +kernel
theorem dX12_command_519 : decode cX12_command 519 = .ok (.iload_n 1, 1) := by decide +kernel
theorem dX12_command_520 : decode cX12_command 520 = .ok (.bipush 57, 2) := by decide +kernel
theorem dX12_command_522 : decode cX12_command 522 = .ok (.if_icmp .ne 42, 3) := by decide +kernel
theorem dX12_command_525 : decode cX12_command 525 = .ok (.aload_n 0, 1) := by decide +kernel
theorem dX12_command_526 : decode cX12_command 526 = .ok (.bipush 22, 2) := by decide +kernel
theorem dX12_command_528 : decode cX12_command 528 = .ok (.iconst 0, 1) := by decide +kernel
theorem dX12_command_529 : decode cX12_command 529 = .ok (.iload_n 2, 1) := by decide +kernel
theorem dX12_command_530 : decode cX12_command 530 = .ok (.iload_n 3, 1) := by decide +kernel
theorem dX12_command_531 : decode cX12_command 531 = .ok (.invokevirtual 534, 3) := by decide +kernel
theorem dX12_command_534 : decode cX12_command 534 = .ok (.aload_n 0, 1) := by decide +kernel
theorem dX12_command_535 : decode cX12_command 535 = .ok (.bipush 17, 2) := by decide +kernel
theorem dX12_command_537 : decode cX12_command 537 = .ok (.iconst 0, 1) := by decide +kernel
theorem dX12_command_538 : decode cX12_command 538 = .ok (.iconst 0, 1) := by decide +kernel
theorem dX12_command_539 : decode cX12_command 539 = .ok (.iconst 0, 1) := by decide +kernel
theorem dX12_command_540 : decode cX12_command 540 = .ok (.invokevirtual 534, 3) := by decide +kernel
theorem dX12_command_543 : decode cX12_command 543 = .ok (.aload_n 0, 1) := by decide +kernel
theorem dX12_command_544 : decode cX12_command 544 = .ok (.bipush 16, 2) := by decide +kernel
theorem dX12_command_546 : decode cX12_command 546 = .ok (.bipush 58, 2) := by decide +kernel
theorem dX12_command_548 : decode cX12_command 548 = .ok (.iconst 0, 1) := by decide +kernel
theorem dX12_command_549 : decode cX12_command 549 = .ok (.iconst 0, 1) := by decide +kernel
theorem dX12_command_550 : decode cX12_command 550 = .ok (.invokevirtual 534, 3) := by decide +kernel
theorem dX12_command_553 : decode cX12_command 553 = .ok (.aload_n 0, 1) := by decide +kernel
theorem dX12_command_554 : decode cX12_command 554 = .ok (.bipush 28, 2) := by decide +kernel
theorem dX12_command_556 : decode cX12_command 556 = .ok (.iconst 0, 1) := by decide +kernel
theorem dX12_command_557 : decode cX12_command 557 = .ok (.iconst 0, 1) := by decide +kernel
theorem dX12_command_558 : decode cX12_command 558 = .ok (.iconst 0, 1) := by decide +kernel
theorem dX12_command_559 : decode cX12_command 559 = .ok (.invokevirtual 534, 3) := by decide +kernel
theorem dX12_command_562 : decode cX12_command 562 = .ok (.iconst 1, 1) := by decide +kernel
theorem dX12_command_563 : decode cX12_command 563 = .ok (.ireturn, 1) := by decide +kernel
theorem dX12_command_564 : decode cX12_command 564 = .ok (.aload_n 0, 1) := by decide +kernel
theorem dX12_command_565 : decode cX12_command 565 = .ok (.dup, 1) := by decide +kernel
theorem dX12_command_566 : decode cX12_command 566 = .ok (.getfield 142, 3) := by decide +kernel
theorem dX12_command_569 : decode cX12_command 569 = .ok (.iconst 1, 1) := by decide +kernel
theorem dX12_command_570 : decode cX12_command 570 = .ok (.isub, 1) := by decide +kernel
theorem dX12_command_571 : decode cX12_command 571 = .ok (.putfield 142, 3) := by decide +kernel
theorem dX12_command_574 : decode cX12_command 574 = .ok (.iconst 0, 1) := by decide +kernel
theorem dX12_command_575 : decode cX12_command 575 = .ok (.ireturn, 1) := by decide +kernel
def wr_command_292 (Q : Int → zS → Prop)  (s0 : zS) (x1 : Int) (x2 : Int) (x3 : Int) (y0 : Int) : Prop :=
  ((y0 < 0 → ((¬ x1 = 50 → ((¬ x1 = 54 → ((¬ x1 = 57 → (zR ((zv s0 43) - 1)) ∧ Q 0 (zpv s0 43 ((zv s0 43) - 1))) ∧ (x1 = 57 → wr_goal s0 22 0 x2 x3 (fun s15 => wr_goal s15 17 0 0 0 (fun s21 => wr_goal s21 16 58 0 0 (fun s27 => wr_goal s27 28 0 0 0 (fun s33 => Q 1 s33))))))) ∧ (x1 = 54 → wr_tk s0  (fun r39 s40 => ((r39 = 1 → (0 ≤ (zv s40 43)) ∧ ((zv s40 43) < 12100) ∧ wr_leaf s40 58 (zv s40 43) (za s40 11 (Int.toNat (zv s40 43))) (fun s52 => (zR ((zv s52 43) + 1)) ∧ wr_goal (zpv s52 43 ((zv s52 43) + 1)) 6 27 x2 x3 (fun s62 => wr_goal s62 14 0 0 0 (fun s68 => wr_goal s68 13 0 0 0 (fun s74 => wr_goal s74 41 0 0 0 (fun s80 => wr_goal s80 28 0 0 0 (fun s86 => wr_goal s86 16 55 0 0 (fun s92 => wr_goal s92 28 0 0 0 (fun s98 => wr_take s98 25 (fun r103 s104 => (r103 = 0 ∨ r103 = 1) ∧ Q r103 s104)))))))))) ∧ (¬ r39 = 1 → Q 0 s40)))))) ∧ (x1 = 50 → wr_goal s0 6 24 x2 x3 (fun s114 => wr_goal s114 14 0 0 0 (fun s120 => wr_goal s120 16 51 0 0 (fun s126 => wr_goal s126 14 0 0 0 (fun s132 => wr_goal s132 13 0 0 0 (fun s138 => wr_goal s138 28 0 0 0 (fun s144 => Q 1 s144))))))))) ∧ (¬ y0 < 0 → wr_goal s0 6 y0 x2 x3 (fun s151 => wr_goal s151 14 0 0 0 (fun s157 => wr_goal s157 13 0 0 0 (fun s163 => wr_goal s163 28 0 0 0 (fun s169 => Q 1 s169))))))
def wr_command_156 (Q : Int → zS → Prop)  (s0 : zS) (x1 : Int) (x2 : Int) (x3 : Int) (y0 : Int) : Prop :=
  ((y0 < 0 → ((¬ x1 = 65 → ((¬ x1 = 67 → ((¬ x1 = 47 → ((¬ x1 = 49 → ((¬ x1 = 52 → ((¬ x1 = 53 → wr_command_292 Q  s0 x1 x2 x3 (-1)) ∧ (x1 = 53 → wr_command_292 Q  s0 x1 x2 x3 26))) ∧ (x1 = 52 → wr_command_292 Q  s0 x1 x2 x3 25))) ∧ (x1 = 49 → wr_command_292 Q  s0 x1 x2 x3 23))) ∧ (x1 = 47 → wr_command_292 Q  s0 x1 x2 x3 22))) ∧ (x1 = 67 → wr_tk s0  (fun r20 s21 => ((r20 = 1 → (0 ≤ (zv s21 43)) ∧ ((zv s21 43) < 12100) ∧ wr_leaf s21 35 (zv s21 43) (za s21 11 (Int.toNat (zv s21 43))) (fun s33 => (zR ((zv s33 43) + 1)) ∧ Q 1 (zpv s33 43 ((zv s33 43) + 1)))) ∧ (¬ r20 = 1 → Q 0 s21)))))) ∧ (x1 = 65 → wr_goal s0 6 33 x2 x3 (fun s45 => wr_goal s45 28 0 0 0 (fun s51 => Q 1 s51))))) ∧ (¬ y0 < 0 → wr_leaf s0 y0 x2 0 (fun s58 => Q 1 s58)))
def wr_command (s0 : zS) (a0 : Int) (a1 : Int) (a2 : Int) (Q : Int → zS → Prop) : Prop :=
  ((a0 = 15 → wr_leaf s0 37 a1 0 (fun s4 => Q 1 s4)) ∧ (¬ a0 = 15 → ((¬ a0 = 11 → wr_beginsE s0 a0 (fun r12 s13 => ((r12 = 0 → ((¬ a0 = 10 → (zR ((zv s13 43) + 1)) ∧ ((¬ a0 = 61 → ((¬ a0 = 62 → ((¬ a0 = 63 → ((¬ a0 = 64 → ((¬ a0 = 66 → wr_command_156 Q  (zpv s13 43 ((zv s13 43) + 1)) a0 a1 a2 (-1)) ∧ (a0 = 66 → wr_command_156 Q  (zpv s13 43 ((zv s13 43) + 1)) a0 a1 a2 34))) ∧ (a0 = 64 → wr_command_156 Q  (zpv s13 43 ((zv s13 43) + 1)) a0 a1 a2 32))) ∧ (a0 = 63 → wr_command_156 Q  (zpv s13 43 ((zv s13 43) + 1)) a0 a1 a2 31))) ∧ (a0 = 62 → wr_command_156 Q  (zpv s13 43 ((zv s13 43) + 1)) a0 a1 a2 30))) ∧ (a0 = 61 → wr_command_156 Q  (zpv s13 43 ((zv s13 43) + 1)) a0 a1 a2 29))) ∧ (a0 = 10 → wr_openSection s13  (fun r42 s43 => ((¬ r42 = 0 → wr_tk s43  (fun r50 s51 => wr_isD s51 r50 (fun r56 s57 => ((r56 = 0 → wr_goal s57 20 0 a1 a2 (fun s65 => Q 1 s65)) ∧ (¬ r56 = 0 → wr_goal s57 18 0 a1 a2 (fun s72 => Q 1 s72)))))) ∧ (r42 = 0 → Q 0 s43)))))) ∧ (¬ r12 = 0 → wr_goal s13 25 0 a1 a2 (fun s80 => wr_goal s80 28 0 0 0 (fun s86 => Q 1 s86)))))) ∧ (a0 = 11 → wr_leaf s0 37 a1 0 (fun s93 => Q 1 s93)))))
set_option maxHeartbeats 4000000 in
set_option maxRecDepth 100000 in
theorem rj_command_292 {X : gX} {d : gD} {b t : Nat} {T : Nat → Nat} {F0 : gM} (hC : gC RX12 cX12_command 5 (some .boolean) "command" (gR 2 0 0) d b X) {Q : Int → zS → Prop}   {F : gM} {s0 : zS} {x1 : Int} {x2 : Int} {x3 : Int} {y0 : Int} (Rx1 : zR x1) (Rx2 : zR x2) (Rx3 : zR x3) (Ry0 : zR y0) (hZ : zZ d t T F0 F s0) (hw : wr_command_292 Q  s0 x1 x2 x3 y0) : gG X d b (zQi X d b t T F0 Q) F 0 0 292 [some (.ref t), some (.int (zI x1)), some (.int (zI x2)), some (.int (zI x3)), none] [.int (zI y0)] := by
  unfold wr_command_292 at hw
  refine g_istore (lv' := [some (.ref t), some (.int (zI x1)), some (.int (zI x2)), some (.int (zI x3)), some (.int (zI y0))]) hC dX12_command_292 (Nat.le_of_ble_eq_true rfl) rfl rfl ?_
  refine g_iload hC dX12_command_294 rfl ?_
  refine zr_if_lt (tgt := 338) hC Ry0 dX12_command_296 (by decide) (fun c1 => ?_) (fun c1 => ?_)
  · have h2 := hw.1 c1
    refine g_iload_n hC dX12_command_338 rfl ?_
    refine g_bipush (v := zI 50) hC dX12_command_339 rfl ?_
    refine zr_icmp_ne (tgt := 402) hC Rx1 (by decide) dX12_command_341 (by decide) (fun c3 => ?_) (fun c3 => ?_)
    · have h4 := h2.1 c3
      refine g_iload_n hC dX12_command_402 rfl ?_
      refine g_bipush (v := zI 54) hC dX12_command_403 rfl ?_
      refine zr_icmp_ne (tgt := 519) hC Rx1 (by decide) dX12_command_405 (by decide) (fun c5 => ?_) (fun c5 => ?_)
      · have h6 := h4.1 c5
        refine g_iload_n hC dX12_command_519 rfl ?_
        refine g_bipush (v := zI 57) hC dX12_command_520 rfl ?_
        refine zr_icmp_ne (tgt := 564) hC Rx1 (by decide) dX12_command_522 (by decide) (fun c7 => ?_) (fun c7 => ?_)
        · have h8 := h6.1 c7
          refine g_aload_n hC dX12_command_564 rfl ?_
          refine g_dup hC dX12_command_565 rfl ?_
          refine zr_get (e := (zv s0 43)) hC hZ fl_X12_142 zb_43 (by decide) rfl dX12_command_566 ?_
          refine g_iconst (v := zI 1) hC dX12_command_569 rfl ?_
          refine zr_isub hC dX12_command_570 ?_
          obtain ⟨o9, h10⟩ := h8
          refine zr_put hC hZ fl_X12_142 zb_43 (by decide) o9 dX12_command_571 (fun F11 hZ12 => ?_)
          refine g_iconst (v := zI 0) hC dX12_command_574 rfl ?_
          exact zr_zret hC hZ12 (Or.inl rfl) h10 dX12_command_575
        · have h13 := h6.2 c7
          refine g_aload_n hC dX12_command_525 rfl ?_
          refine g_bipush (v := zI 22) hC dX12_command_526 rfl ?_
          refine g_iconst (v := zI 0) hC dX12_command_528 rfl ?_
          refine g_iload_n hC dX12_command_529 rfl ?_
          refine g_iload_n hC dX12_command_530 rfl ?_
          refine zr_callVv (As := [.int (zI 22), .int (zI 0), .int (zI x2), .int (zI x3)]) hC hZ rfl (rm_goal X.la d b (by decide) (by decide) Rx2 Rx3 hZ.rf h13) cl_X12_534 rfl rfl (Nat.le_of_ble_eq_true rfl) ⟨Nat.le_of_ble_eq_true rfl, Nat.le_of_ble_eq_true rfl⟩ dX12_command_531 (fun s15 F16 hZ18 h19 => ?_)
          refine g_aload_n hC dX12_command_534 rfl ?_
          refine g_bipush (v := zI 17) hC dX12_command_535 rfl ?_
          refine g_iconst (v := zI 0) hC dX12_command_537 rfl ?_
          refine g_iconst (v := zI 0) hC dX12_command_538 rfl ?_
          refine g_iconst (v := zI 0) hC dX12_command_539 rfl ?_
          refine zr_callVv (As := [.int (zI 17), .int (zI 0), .int (zI 0), .int (zI 0)]) hC hZ18 rfl (rm_goal X.la d b (by decide) (by decide) (by decide) (by decide) hZ18.rf h19) cl_X12_534 rfl rfl (Nat.le_of_ble_eq_true rfl) ⟨Nat.le_of_ble_eq_true rfl, Nat.le_of_ble_eq_true rfl⟩ dX12_command_540 (fun s21 F22 hZ24 h25 => ?_)
          refine g_aload_n hC dX12_command_543 rfl ?_
          refine g_bipush (v := zI 16) hC dX12_command_544 rfl ?_
          refine g_bipush (v := zI 58) hC dX12_command_546 rfl ?_
          refine g_iconst (v := zI 0) hC dX12_command_548 rfl ?_
          refine g_iconst (v := zI 0) hC dX12_command_549 rfl ?_
          refine zr_callVv (As := [.int (zI 16), .int (zI 58), .int (zI 0), .int (zI 0)]) hC hZ24 rfl (rm_goal X.la d b (by decide) (by decide) (by decide) (by decide) hZ24.rf h25) cl_X12_534 rfl rfl (Nat.le_of_ble_eq_true rfl) ⟨Nat.le_of_ble_eq_true rfl, Nat.le_of_ble_eq_true rfl⟩ dX12_command_550 (fun s27 F28 hZ30 h31 => ?_)
          refine g_aload_n hC dX12_command_553 rfl ?_
          refine g_bipush (v := zI 28) hC dX12_command_554 rfl ?_
          refine g_iconst (v := zI 0) hC dX12_command_556 rfl ?_
          refine g_iconst (v := zI 0) hC dX12_command_557 rfl ?_
          refine g_iconst (v := zI 0) hC dX12_command_558 rfl ?_
          refine zr_callVv (As := [.int (zI 28), .int (zI 0), .int (zI 0), .int (zI 0)]) hC hZ30 rfl (rm_goal X.la d b (by decide) (by decide) (by decide) (by decide) hZ30.rf h31) cl_X12_534 rfl rfl (Nat.le_of_ble_eq_true rfl) ⟨Nat.le_of_ble_eq_true rfl, Nat.le_of_ble_eq_true rfl⟩ dX12_command_559 (fun s33 F34 hZ36 h37 => ?_)
          refine g_iconst (v := zI 1) hC dX12_command_562 rfl ?_
          exact zr_zret hC hZ36 (Or.inr rfl) h37 dX12_command_563
      · have h38 := h4.2 c5
        refine g_aload_n hC dX12_command_408 rfl ?_
        refine zr_callVi (As := []) hC hZ rfl (rm_tk X.la d b  hZ.rf h38) cl_X12_526 rfl rfl (Nat.le_of_ble_eq_true rfl) ⟨Nat.le_of_ble_eq_true rfl, Nat.le_of_ble_eq_true rfl⟩ dX12_command_409 (fun r39 s40 F41 R42 hZ43 h44 => ?_)
        refine g_iconst (v := zI 1) hC dX12_command_412 rfl ?_
        refine zr_icmp_eq (tgt := 418) hC R42 (by decide) dX12_command_413 (by decide) (fun c45 => ?_) (fun c45 => ?_)
        · have h46 := h44.1 c45
          refine g_aload_n hC dX12_command_418 rfl ?_
          refine g_bipush (v := zI 58) hC dX12_command_419 rfl ?_
          refine g_aload_n hC dX12_command_421 rfl ?_
          refine zr_get (e := (zv s40 43)) hC hZ43 fl_X12_142 zb_43 (by decide) rfl dX12_command_422 ?_
          refine g_aload_n hC dX12_command_425 rfl ?_
          refine zr_geta hC hZ43 fl_X12_45 zb_11 (by decide) dX12_command_426 ?_
          refine g_aload_n hC dX12_command_429 rfl ?_
          refine zr_get (e := (zv s40 43)) hC hZ43 fl_X12_142 zb_43 (by decide) rfl dX12_command_430 ?_
          obtain ⟨o47, h48⟩ := h46
          obtain ⟨o49, h50⟩ := h48
          refine zr_iald (v := (za s40 11 (Int.toNat (zv s40 43)))) hC hZ43 zk_11 zb_11 zn_11 (by decide) o47 o49 rfl dX12_command_433 ?_
          refine zr_callVv (As := [.int (zI 58), .int (zI (zv s40 43)), .int (zI (za s40 11 (Int.toNat (zv s40 43))))]) hC hZ43 rfl (rm_leaf X.la d b (by decide) (hZ43.rv 43) (hZ43.ra 11 _) hZ43.rf h50) cl_X12_570 rfl rfl (Nat.le_of_ble_eq_true rfl) ⟨Nat.le_of_ble_eq_true rfl, Nat.le_of_ble_eq_true rfl⟩ dX12_command_434 (fun s52 F53 hZ55 h56 => ?_)
          refine g_aload_n hC dX12_command_437 rfl ?_
          refine g_dup hC dX12_command_438 rfl ?_
          refine zr_get (e := (zv s52 43)) hC hZ55 fl_X12_142 zb_43 (by decide) rfl dX12_command_439 ?_
          refine g_iconst (v := zI 1) hC dX12_command_442 rfl ?_
          refine zr_iadd hC dX12_command_443 ?_
          obtain ⟨o57, h58⟩ := h56
          refine zr_put hC hZ55 fl_X12_142 zb_43 (by decide) o57 dX12_command_444 (fun F59 hZ60 => ?_)
          refine g_aload_n hC dX12_command_447 rfl ?_
          refine g_bipush (v := zI 6) hC dX12_command_448 rfl ?_
          refine g_bipush (v := zI 27) hC dX12_command_450 rfl ?_
          refine g_iload_n hC dX12_command_452 rfl ?_
          refine g_iload_n hC dX12_command_453 rfl ?_
          refine zr_callVv (As := [.int (zI 6), .int (zI 27), .int (zI x2), .int (zI x3)]) hC hZ60 rfl (rm_goal X.la d b (by decide) (by decide) Rx2 Rx3 hZ60.rf h58) cl_X12_534 rfl rfl (Nat.le_of_ble_eq_true rfl) ⟨Nat.le_of_ble_eq_true rfl, Nat.le_of_ble_eq_true rfl⟩ dX12_command_454 (fun s62 F63 hZ65 h66 => ?_)
          refine g_aload_n hC dX12_command_457 rfl ?_
          refine g_bipush (v := zI 14) hC dX12_command_458 rfl ?_
          refine g_iconst (v := zI 0) hC dX12_command_460 rfl ?_
          refine g_iconst (v := zI 0) hC dX12_command_461 rfl ?_
          refine g_iconst (v := zI 0) hC dX12_command_462 rfl ?_
          refine zr_callVv (As := [.int (zI 14), .int (zI 0), .int (zI 0), .int (zI 0)]) hC hZ65 rfl (rm_goal X.la d b (by decide) (by decide) (by decide) (by decide) hZ65.rf h66) cl_X12_534 rfl rfl (Nat.le_of_ble_eq_true rfl) ⟨Nat.le_of_ble_eq_true rfl, Nat.le_of_ble_eq_true rfl⟩ dX12_command_463 (fun s68 F69 hZ71 h72 => ?_)
          refine g_aload_n hC dX12_command_466 rfl ?_
          refine g_bipush (v := zI 13) hC dX12_command_467 rfl ?_
          refine g_iconst (v := zI 0) hC dX12_command_469 rfl ?_
          refine g_iconst (v := zI 0) hC dX12_command_470 rfl ?_
          refine g_iconst (v := zI 0) hC dX12_command_471 rfl ?_
          refine zr_callVv (As := [.int (zI 13), .int (zI 0), .int (zI 0), .int (zI 0)]) hC hZ71 rfl (rm_goal X.la d b (by decide) (by decide) (by decide) (by decide) hZ71.rf h72) cl_X12_534 rfl rfl (Nat.le_of_ble_eq_true rfl) ⟨Nat.le_of_ble_eq_true rfl, Nat.le_of_ble_eq_true rfl⟩ dX12_command_472 (fun s74 F75 hZ77 h78 => ?_)
          refine g_aload_n hC dX12_command_475 rfl ?_
          refine g_bipush (v := zI 41) hC dX12_command_476 rfl ?_
          refine g_iconst (v := zI 0) hC dX12_command_478 rfl ?_
          refine g_iconst (v := zI 0) hC dX12_command_479 rfl ?_
          refine g_iconst (v := zI 0) hC dX12_command_480 rfl ?_
          refine zr_callVv (As := [.int (zI 41), .int (zI 0), .int (zI 0), .int (zI 0)]) hC hZ77 rfl (rm_goal X.la d b (by decide) (by decide) (by decide) (by decide) hZ77.rf h78) cl_X12_534 rfl rfl (Nat.le_of_ble_eq_true rfl) ⟨Nat.le_of_ble_eq_true rfl, Nat.le_of_ble_eq_true rfl⟩ dX12_command_481 (fun s80 F81 hZ83 h84 => ?_)
          refine g_aload_n hC dX12_command_484 rfl ?_
          refine g_bipush (v := zI 28) hC dX12_command_485 rfl ?_
          refine g_iconst (v := zI 0) hC dX12_command_487 rfl ?_
          refine g_iconst (v := zI 0) hC dX12_command_488 rfl ?_
          refine g_iconst (v := zI 0) hC dX12_command_489 rfl ?_
          refine zr_callVv (As := [.int (zI 28), .int (zI 0), .int (zI 0), .int (zI 0)]) hC hZ83 rfl (rm_goal X.la d b (by decide) (by decide) (by decide) (by decide) hZ83.rf h84) cl_X12_534 rfl rfl (Nat.le_of_ble_eq_true rfl) ⟨Nat.le_of_ble_eq_true rfl, Nat.le_of_ble_eq_true rfl⟩ dX12_command_490 (fun s86 F87 hZ89 h90 => ?_)
          refine g_aload_n hC dX12_command_493 rfl ?_
          refine g_bipush (v := zI 16) hC dX12_command_494 rfl ?_
          refine g_bipush (v := zI 55) hC dX12_command_496 rfl ?_
          refine g_iconst (v := zI 0) hC dX12_command_498 rfl ?_
          refine g_iconst (v := zI 0) hC dX12_command_499 rfl ?_
          refine zr_callVv (As := [.int (zI 16), .int (zI 55), .int (zI 0), .int (zI 0)]) hC hZ89 rfl (rm_goal X.la d b (by decide) (by decide) (by decide) (by decide) hZ89.rf h90) cl_X12_534 rfl rfl (Nat.le_of_ble_eq_true rfl) ⟨Nat.le_of_ble_eq_true rfl, Nat.le_of_ble_eq_true rfl⟩ dX12_command_500 (fun s92 F93 hZ95 h96 => ?_)
          refine g_aload_n hC dX12_command_503 rfl ?_
          refine g_bipush (v := zI 28) hC dX12_command_504 rfl ?_
          refine g_iconst (v := zI 0) hC dX12_command_506 rfl ?_
          refine g_iconst (v := zI 0) hC dX12_command_507 rfl ?_
          refine g_iconst (v := zI 0) hC dX12_command_508 rfl ?_
          refine zr_callVv (As := [.int (zI 28), .int (zI 0), .int (zI 0), .int (zI 0)]) hC hZ95 rfl (rm_goal X.la d b (by decide) (by decide) (by decide) (by decide) hZ95.rf h96) cl_X12_534 rfl rfl (Nat.le_of_ble_eq_true rfl) ⟨Nat.le_of_ble_eq_true rfl, Nat.le_of_ble_eq_true rfl⟩ dX12_command_509 (fun s98 F99 hZ101 h102 => ?_)
          refine g_aload_n hC dX12_command_512 rfl ?_
          refine g_bipush (v := zI 25) hC dX12_command_513 rfl ?_
          refine zr_callVi (As := [.int (zI 25)]) hC hZ101 rfl (rm_take X.la d b (by decide) hZ101.rf h102) cl_X12_549 rfl rfl (Nat.le_of_ble_eq_true rfl) ⟨Nat.le_of_ble_eq_true rfl, Nat.le_of_ble_eq_true rfl⟩ dX12_command_515 (fun r103 s104 F105 R106 hZ107 h108 => ?_)
          obtain ⟨o109, h110⟩ := h108
          exact zr_zret hC hZ107 o109 h110 dX12_command_518
        · have h111 := h44.2 c45
          refine g_iconst (v := zI 0) hC dX12_command_416 rfl ?_
          exact zr_zret hC hZ43 (Or.inl rfl) h111 dX12_command_417
    · have h112 := h2.2 c3
      refine g_aload_n hC dX12_command_344 rfl ?_
      refine g_bipush (v := zI 6) hC dX12_command_345 rfl ?_
      refine g_bipush (v := zI 24) hC dX12_command_347 rfl ?_
      refine g_iload_n hC dX12_command_349 rfl ?_
      refine g_iload_n hC dX12_command_350 rfl ?_
      refine zr_callVv (As := [.int (zI 6), .int (zI 24), .int (zI x2), .int (zI x3)]) hC hZ rfl (rm_goal X.la d b (by decide) (by decide) Rx2 Rx3 hZ.rf h112) cl_X12_534 rfl rfl (Nat.le_of_ble_eq_true rfl) ⟨Nat.le_of_ble_eq_true rfl, Nat.le_of_ble_eq_true rfl⟩ dX12_command_351 (fun s114 F115 hZ117 h118 => ?_)
      refine g_aload_n hC dX12_command_354 rfl ?_
      refine g_bipush (v := zI 14) hC dX12_command_355 rfl ?_
      refine g_iconst (v := zI 0) hC dX12_command_357 rfl ?_
      refine g_iconst (v := zI 0) hC dX12_command_358 rfl ?_
      refine g_iconst (v := zI 0) hC dX12_command_359 rfl ?_
      refine zr_callVv (As := [.int (zI 14), .int (zI 0), .int (zI 0), .int (zI 0)]) hC hZ117 rfl (rm_goal X.la d b (by decide) (by decide) (by decide) (by decide) hZ117.rf h118) cl_X12_534 rfl rfl (Nat.le_of_ble_eq_true rfl) ⟨Nat.le_of_ble_eq_true rfl, Nat.le_of_ble_eq_true rfl⟩ dX12_command_360 (fun s120 F121 hZ123 h124 => ?_)
      refine g_aload_n hC dX12_command_363 rfl ?_
      refine g_bipush (v := zI 16) hC dX12_command_364 rfl ?_
      refine g_bipush (v := zI 51) hC dX12_command_366 rfl ?_
      refine g_iconst (v := zI 0) hC dX12_command_368 rfl ?_
      refine g_iconst (v := zI 0) hC dX12_command_369 rfl ?_
      refine zr_callVv (As := [.int (zI 16), .int (zI 51), .int (zI 0), .int (zI 0)]) hC hZ123 rfl (rm_goal X.la d b (by decide) (by decide) (by decide) (by decide) hZ123.rf h124) cl_X12_534 rfl rfl (Nat.le_of_ble_eq_true rfl) ⟨Nat.le_of_ble_eq_true rfl, Nat.le_of_ble_eq_true rfl⟩ dX12_command_370 (fun s126 F127 hZ129 h130 => ?_)
      refine g_aload_n hC dX12_command_373 rfl ?_
      refine g_bipush (v := zI 14) hC dX12_command_374 rfl ?_
      refine g_iconst (v := zI 0) hC dX12_command_376 rfl ?_
      refine g_iconst (v := zI 0) hC dX12_command_377 rfl ?_
      refine g_iconst (v := zI 0) hC dX12_command_378 rfl ?_
      refine zr_callVv (As := [.int (zI 14), .int (zI 0), .int (zI 0), .int (zI 0)]) hC hZ129 rfl (rm_goal X.la d b (by decide) (by decide) (by decide) (by decide) hZ129.rf h130) cl_X12_534 rfl rfl (Nat.le_of_ble_eq_true rfl) ⟨Nat.le_of_ble_eq_true rfl, Nat.le_of_ble_eq_true rfl⟩ dX12_command_379 (fun s132 F133 hZ135 h136 => ?_)
      refine g_aload_n hC dX12_command_382 rfl ?_
      refine g_bipush (v := zI 13) hC dX12_command_383 rfl ?_
      refine g_iconst (v := zI 0) hC dX12_command_385 rfl ?_
      refine g_iconst (v := zI 0) hC dX12_command_386 rfl ?_
      refine g_iconst (v := zI 0) hC dX12_command_387 rfl ?_
      refine zr_callVv (As := [.int (zI 13), .int (zI 0), .int (zI 0), .int (zI 0)]) hC hZ135 rfl (rm_goal X.la d b (by decide) (by decide) (by decide) (by decide) hZ135.rf h136) cl_X12_534 rfl rfl (Nat.le_of_ble_eq_true rfl) ⟨Nat.le_of_ble_eq_true rfl, Nat.le_of_ble_eq_true rfl⟩ dX12_command_388 (fun s138 F139 hZ141 h142 => ?_)
      refine g_aload_n hC dX12_command_391 rfl ?_
      refine g_bipush (v := zI 28) hC dX12_command_392 rfl ?_
      refine g_iconst (v := zI 0) hC dX12_command_394 rfl ?_
      refine g_iconst (v := zI 0) hC dX12_command_395 rfl ?_
      refine g_iconst (v := zI 0) hC dX12_command_396 rfl ?_
      refine zr_callVv (As := [.int (zI 28), .int (zI 0), .int (zI 0), .int (zI 0)]) hC hZ141 rfl (rm_goal X.la d b (by decide) (by decide) (by decide) (by decide) hZ141.rf h142) cl_X12_534 rfl rfl (Nat.le_of_ble_eq_true rfl) ⟨Nat.le_of_ble_eq_true rfl, Nat.le_of_ble_eq_true rfl⟩ dX12_command_397 (fun s144 F145 hZ147 h148 => ?_)
      refine g_iconst (v := zI 1) hC dX12_command_400 rfl ?_
      exact zr_zret hC hZ147 (Or.inr rfl) h148 dX12_command_401
  · have h149 := hw.2 c1
    refine g_aload_n hC dX12_command_299 rfl ?_
    refine g_bipush (v := zI 6) hC dX12_command_300 rfl ?_
    refine g_iload hC dX12_command_302 rfl ?_
    refine g_iload_n hC dX12_command_304 rfl ?_
    refine g_iload_n hC dX12_command_305 rfl ?_
    refine zr_callVv (As := [.int (zI 6), .int (zI y0), .int (zI x2), .int (zI x3)]) hC hZ rfl (rm_goal X.la d b (by decide) Ry0 Rx2 Rx3 hZ.rf h149) cl_X12_534 rfl rfl (Nat.le_of_ble_eq_true rfl) ⟨Nat.le_of_ble_eq_true rfl, Nat.le_of_ble_eq_true rfl⟩ dX12_command_306 (fun s151 F152 hZ154 h155 => ?_)
    refine g_aload_n hC dX12_command_309 rfl ?_
    refine g_bipush (v := zI 14) hC dX12_command_310 rfl ?_
    refine g_iconst (v := zI 0) hC dX12_command_312 rfl ?_
    refine g_iconst (v := zI 0) hC dX12_command_313 rfl ?_
    refine g_iconst (v := zI 0) hC dX12_command_314 rfl ?_
    refine zr_callVv (As := [.int (zI 14), .int (zI 0), .int (zI 0), .int (zI 0)]) hC hZ154 rfl (rm_goal X.la d b (by decide) (by decide) (by decide) (by decide) hZ154.rf h155) cl_X12_534 rfl rfl (Nat.le_of_ble_eq_true rfl) ⟨Nat.le_of_ble_eq_true rfl, Nat.le_of_ble_eq_true rfl⟩ dX12_command_315 (fun s157 F158 hZ160 h161 => ?_)
    refine g_aload_n hC dX12_command_318 rfl ?_
    refine g_bipush (v := zI 13) hC dX12_command_319 rfl ?_
    refine g_iconst (v := zI 0) hC dX12_command_321 rfl ?_
    refine g_iconst (v := zI 0) hC dX12_command_322 rfl ?_
    refine g_iconst (v := zI 0) hC dX12_command_323 rfl ?_
    refine zr_callVv (As := [.int (zI 13), .int (zI 0), .int (zI 0), .int (zI 0)]) hC hZ160 rfl (rm_goal X.la d b (by decide) (by decide) (by decide) (by decide) hZ160.rf h161) cl_X12_534 rfl rfl (Nat.le_of_ble_eq_true rfl) ⟨Nat.le_of_ble_eq_true rfl, Nat.le_of_ble_eq_true rfl⟩ dX12_command_324 (fun s163 F164 hZ166 h167 => ?_)
    refine g_aload_n hC dX12_command_327 rfl ?_
    refine g_bipush (v := zI 28) hC dX12_command_328 rfl ?_
    refine g_iconst (v := zI 0) hC dX12_command_330 rfl ?_
    refine g_iconst (v := zI 0) hC dX12_command_331 rfl ?_
    refine g_iconst (v := zI 0) hC dX12_command_332 rfl ?_
    refine zr_callVv (As := [.int (zI 28), .int (zI 0), .int (zI 0), .int (zI 0)]) hC hZ166 rfl (rm_goal X.la d b (by decide) (by decide) (by decide) (by decide) hZ166.rf h167) cl_X12_534 rfl rfl (Nat.le_of_ble_eq_true rfl) ⟨Nat.le_of_ble_eq_true rfl, Nat.le_of_ble_eq_true rfl⟩ dX12_command_333 (fun s169 F170 hZ172 h173 => ?_)
    refine g_iconst (v := zI 1) hC dX12_command_336 rfl ?_
    exact zr_zret hC hZ172 (Or.inr rfl) h173 dX12_command_337
set_option maxHeartbeats 4000000 in
set_option maxRecDepth 100000 in
theorem rj_command_156 {X : gX} {d : gD} {b t : Nat} {T : Nat → Nat} {F0 : gM} (hC : gC RX12 cX12_command 5 (some .boolean) "command" (gR 2 0 0) d b X) {Q : Int → zS → Prop}   {F : gM} {s0 : zS} {x1 : Int} {x2 : Int} {x3 : Int} {y0 : Int} (Rx1 : zR x1) (Rx2 : zR x2) (Rx3 : zR x3) (Ry0 : zR y0) (hZ : zZ d t T F0 F s0) (hw : wr_command_156 Q  s0 x1 x2 x3 y0) : gG X d b (zQi X d b t T F0 Q) F 0 0 156 [some (.ref t), some (.int (zI x1)), some (.int (zI x2)), some (.int (zI x3)), none] [.int (zI y0)] := by
  unfold wr_command_156 at hw
  refine g_istore (lv' := [some (.ref t), some (.int (zI x1)), some (.int (zI x2)), some (.int (zI x3)), some (.int (zI y0))]) hC dX12_command_156 (Nat.le_of_ble_eq_true rfl) rfl rfl ?_
  refine g_iload hC dX12_command_158 rfl ?_
  refine zr_if_lt (tgt := 173) hC Ry0 dX12_command_160 (by decide) (fun c1 => ?_) (fun c1 => ?_)
  · have h2 := hw.1 c1
    refine g_iload_n hC dX12_command_173 rfl ?_
    refine g_bipush (v := zI 65) hC dX12_command_174 rfl ?_
    refine zr_icmp_ne (tgt := 200) hC Rx1 (by decide) dX12_command_176 (by decide) (fun c3 => ?_) (fun c3 => ?_)
    · have h4 := h2.1 c3
      refine g_iload_n hC dX12_command_200 rfl ?_
      refine g_bipush (v := zI 67) hC dX12_command_201 rfl ?_
      refine zr_icmp_ne (tgt := 247) hC Rx1 (by decide) dX12_command_203 (by decide) (fun c5 => ?_) (fun c5 => ?_)
      · have h6 := h4.1 c5
        refine g_iload_n hC dX12_command_247 rfl ?_
        refine g_bipush (v := zI 47) hC dX12_command_248 rfl ?_
        refine zr_icmp_ne (tgt := 258) hC Rx1 (by decide) dX12_command_250 (by decide) (fun c7 => ?_) (fun c7 => ?_)
        · have h8 := h6.1 c7
          refine g_iload_n hC dX12_command_258 rfl ?_
          refine g_bipush (v := zI 49) hC dX12_command_259 rfl ?_
          refine zr_icmp_ne (tgt := 269) hC Rx1 (by decide) dX12_command_261 (by decide) (fun c9 => ?_) (fun c9 => ?_)
          · have h10 := h8.1 c9
            refine g_iload_n hC dX12_command_269 rfl ?_
            refine g_bipush (v := zI 52) hC dX12_command_270 rfl ?_
            refine zr_icmp_ne (tgt := 280) hC Rx1 (by decide) dX12_command_272 (by decide) (fun c11 => ?_) (fun c11 => ?_)
            · have h12 := h10.1 c11
              refine g_iload_n hC dX12_command_280 rfl ?_
              refine g_bipush (v := zI 53) hC dX12_command_281 rfl ?_
              refine zr_icmp_ne (tgt := 291) hC Rx1 (by decide) dX12_command_283 (by decide) (fun c13 => ?_) (fun c13 => ?_)
              · have h14 := h12.1 c13
                refine g_iconst (v := zI (-1)) hC dX12_command_291 rfl ?_
                refine g_lv (lv' := [some (.ref t), some (.int (zI x1)), some (.int (zI x2)), some (.int (zI x3)), none]) ⟨rfl, rfl, rfl, rfl, trivial⟩ ?_
                exact rj_command_292 hC  Rx1 Rx2 Rx3 (by decide) hZ h14
              · have h15 := h12.2 c13
                refine g_bipush (v := zI 26) hC dX12_command_286 rfl ?_
                refine g_goto (tgt := 292) hC dX12_command_288 (by decide) ?_
                refine g_lv (lv' := [some (.ref t), some (.int (zI x1)), some (.int (zI x2)), some (.int (zI x3)), none]) ⟨rfl, rfl, rfl, rfl, trivial⟩ ?_
                exact rj_command_292 hC  Rx1 Rx2 Rx3 (by decide) hZ h15
            · have h16 := h10.2 c11
              refine g_bipush (v := zI 25) hC dX12_command_275 rfl ?_
              refine g_goto (tgt := 292) hC dX12_command_277 (by decide) ?_
              refine g_lv (lv' := [some (.ref t), some (.int (zI x1)), some (.int (zI x2)), some (.int (zI x3)), none]) ⟨rfl, rfl, rfl, rfl, trivial⟩ ?_
              exact rj_command_292 hC  Rx1 Rx2 Rx3 (by decide) hZ h16
          · have h17 := h8.2 c9
            refine g_bipush (v := zI 23) hC dX12_command_264 rfl ?_
            refine g_goto (tgt := 292) hC dX12_command_266 (by decide) ?_
            refine g_lv (lv' := [some (.ref t), some (.int (zI x1)), some (.int (zI x2)), some (.int (zI x3)), none]) ⟨rfl, rfl, rfl, rfl, trivial⟩ ?_
            exact rj_command_292 hC  Rx1 Rx2 Rx3 (by decide) hZ h17
        · have h18 := h6.2 c7
          refine g_bipush (v := zI 22) hC dX12_command_253 rfl ?_
          refine g_goto (tgt := 292) hC dX12_command_255 (by decide) ?_
          refine g_lv (lv' := [some (.ref t), some (.int (zI x1)), some (.int (zI x2)), some (.int (zI x3)), none]) ⟨rfl, rfl, rfl, rfl, trivial⟩ ?_
          exact rj_command_292 hC  Rx1 Rx2 Rx3 (by decide) hZ h18
      · have h19 := h4.2 c5
        refine g_aload_n hC dX12_command_206 rfl ?_
        refine zr_callVi (As := []) hC hZ rfl (rm_tk X.la d b  hZ.rf h19) cl_X12_526 rfl rfl (Nat.le_of_ble_eq_true rfl) ⟨Nat.le_of_ble_eq_true rfl, Nat.le_of_ble_eq_true rfl⟩ dX12_command_207 (fun r20 s21 F22 R23 hZ24 h25 => ?_)
        refine g_iconst (v := zI 1) hC dX12_command_210 rfl ?_
        refine zr_icmp_eq (tgt := 216) hC R23 (by decide) dX12_command_211 (by decide) (fun c26 => ?_) (fun c26 => ?_)
        · have h27 := h25.1 c26
          refine g_aload_n hC dX12_command_216 rfl ?_
          refine g_bipush (v := zI 35) hC dX12_command_217 rfl ?_
          refine g_aload_n hC dX12_command_219 rfl ?_
          refine zr_get (e := (zv s21 43)) hC hZ24 fl_X12_142 zb_43 (by decide) rfl dX12_command_220 ?_
          refine g_aload_n hC dX12_command_223 rfl ?_
          refine zr_geta hC hZ24 fl_X12_45 zb_11 (by decide) dX12_command_224 ?_
          refine g_aload_n hC dX12_command_227 rfl ?_
          refine zr_get (e := (zv s21 43)) hC hZ24 fl_X12_142 zb_43 (by decide) rfl dX12_command_228 ?_
          obtain ⟨o28, h29⟩ := h27
          obtain ⟨o30, h31⟩ := h29
          refine zr_iald (v := (za s21 11 (Int.toNat (zv s21 43)))) hC hZ24 zk_11 zb_11 zn_11 (by decide) o28 o30 rfl dX12_command_231 ?_
          refine zr_callVv (As := [.int (zI 35), .int (zI (zv s21 43)), .int (zI (za s21 11 (Int.toNat (zv s21 43))))]) hC hZ24 rfl (rm_leaf X.la d b (by decide) (hZ24.rv 43) (hZ24.ra 11 _) hZ24.rf h31) cl_X12_570 rfl rfl (Nat.le_of_ble_eq_true rfl) ⟨Nat.le_of_ble_eq_true rfl, Nat.le_of_ble_eq_true rfl⟩ dX12_command_232 (fun s33 F34 hZ36 h37 => ?_)
          refine g_aload_n hC dX12_command_235 rfl ?_
          refine g_dup hC dX12_command_236 rfl ?_
          refine zr_get (e := (zv s33 43)) hC hZ36 fl_X12_142 zb_43 (by decide) rfl dX12_command_237 ?_
          refine g_iconst (v := zI 1) hC dX12_command_240 rfl ?_
          refine zr_iadd hC dX12_command_241 ?_
          obtain ⟨o38, h39⟩ := h37
          refine zr_put hC hZ36 fl_X12_142 zb_43 (by decide) o38 dX12_command_242 (fun F40 hZ41 => ?_)
          refine g_iconst (v := zI 1) hC dX12_command_245 rfl ?_
          exact zr_zret hC hZ41 (Or.inr rfl) h39 dX12_command_246
        · have h42 := h25.2 c26
          refine g_iconst (v := zI 0) hC dX12_command_214 rfl ?_
          exact zr_zret hC hZ24 (Or.inl rfl) h42 dX12_command_215
    · have h43 := h2.2 c3
      refine g_aload_n hC dX12_command_179 rfl ?_
      refine g_bipush (v := zI 6) hC dX12_command_180 rfl ?_
      refine g_bipush (v := zI 33) hC dX12_command_182 rfl ?_
      refine g_iload_n hC dX12_command_184 rfl ?_
      refine g_iload_n hC dX12_command_185 rfl ?_
      refine zr_callVv (As := [.int (zI 6), .int (zI 33), .int (zI x2), .int (zI x3)]) hC hZ rfl (rm_goal X.la d b (by decide) (by decide) Rx2 Rx3 hZ.rf h43) cl_X12_534 rfl rfl (Nat.le_of_ble_eq_true rfl) ⟨Nat.le_of_ble_eq_true rfl, Nat.le_of_ble_eq_true rfl⟩ dX12_command_186 (fun s45 F46 hZ48 h49 => ?_)
      refine g_aload_n hC dX12_command_189 rfl ?_
      refine g_bipush (v := zI 28) hC dX12_command_190 rfl ?_
      refine g_iconst (v := zI 0) hC dX12_command_192 rfl ?_
      refine g_iconst (v := zI 0) hC dX12_command_193 rfl ?_
      refine g_iconst (v := zI 0) hC dX12_command_194 rfl ?_
      refine zr_callVv (As := [.int (zI 28), .int (zI 0), .int (zI 0), .int (zI 0)]) hC hZ48 rfl (rm_goal X.la d b (by decide) (by decide) (by decide) (by decide) hZ48.rf h49) cl_X12_534 rfl rfl (Nat.le_of_ble_eq_true rfl) ⟨Nat.le_of_ble_eq_true rfl, Nat.le_of_ble_eq_true rfl⟩ dX12_command_195 (fun s51 F52 hZ54 h55 => ?_)
      refine g_iconst (v := zI 1) hC dX12_command_198 rfl ?_
      exact zr_zret hC hZ54 (Or.inr rfl) h55 dX12_command_199
  · have h56 := hw.2 c1
    refine g_aload_n hC dX12_command_163 rfl ?_
    refine g_iload hC dX12_command_164 rfl ?_
    refine g_iload_n hC dX12_command_166 rfl ?_
    refine g_iconst (v := zI 0) hC dX12_command_167 rfl ?_
    refine zr_callVv (As := [.int (zI y0), .int (zI x2), .int (zI 0)]) hC hZ rfl (rm_leaf X.la d b Ry0 Rx2 (by decide) hZ.rf h56) cl_X12_570 rfl rfl (Nat.le_of_ble_eq_true rfl) ⟨Nat.le_of_ble_eq_true rfl, Nat.le_of_ble_eq_true rfl⟩ dX12_command_168 (fun s58 F59 hZ61 h62 => ?_)
    refine g_iconst (v := zI 1) hC dX12_command_171 rfl ?_
    exact zr_zret hC hZ61 (Or.inr rfl) h62 dX12_command_172
set_option maxHeartbeats 4000000 in
set_option maxRecDepth 100000 in
theorem rm_command (l : Launch) (d : gD) (b : Nat) {t : Nat} {T : Nat → Nat} {F : gM} {s0 : zS} {a0 : Int} {a1 : Int} {a2 : Int} (Ra0 : zR a0) (Ra1 : zR a1) (Ra2 : zR a2) {Q : Int → zS → Prop} (hZ : zZ d t T F F s0) (hw : wr_command s0 a0 a1 a2 Q) : gMi l d b yX12_command cX12_command 5 .boolean 2 0 0 F [.ref t, .int (zI a0), .int (zI a1), .int (zI a2)] (zPi d t T F Q) := by
  refine gM_of2 rfl (nL := 5) (Nat.le_of_ble_eq_true rfl) ?_
  intro X hX hC; subst hX
  show gG X d b (zQi X d b t T F Q) F 0 0 0 [some (.ref t), some (.int (zI a0)), some (.int (zI a1)), some (.int (zI a2)), none] []
  unfold wr_command at hw
  refine g_iload_n hC dX12_command_0 rfl ?_
  refine g_bipush (v := zI 15) hC dX12_command_1 rfl ?_
  refine zr_icmp_eq (tgt := 12) hC Ra0 (by decide) dX12_command_3 (by decide) (fun c1 => ?_) (fun c1 => ?_)
  · have h2 := hw.1 c1
    refine g_aload_n hC dX12_command_12 rfl ?_
    refine g_bipush (v := zI 37) hC dX12_command_13 rfl ?_
    refine g_iload_n hC dX12_command_15 rfl ?_
    refine g_iconst (v := zI 0) hC dX12_command_16 rfl ?_
    refine zr_callVv (As := [.int (zI 37), .int (zI a1), .int (zI 0)]) hC hZ rfl (rm_leaf X.la d b (by decide) Ra1 (by decide) hZ.rf h2) cl_X12_570 rfl rfl (Nat.le_of_ble_eq_true rfl) ⟨Nat.le_of_ble_eq_true rfl, Nat.le_of_ble_eq_true rfl⟩ dX12_command_17 (fun s4 F5 hZ7 h8 => ?_)
    refine g_iconst (v := zI 1) hC dX12_command_20 rfl ?_
    exact zr_zret hC hZ7 (Or.inr rfl) h8 dX12_command_21
  · have h9 := hw.2 c1
    refine g_iload_n hC dX12_command_6 rfl ?_
    refine g_bipush (v := zI 11) hC dX12_command_7 rfl ?_
    refine zr_icmp_ne (tgt := 22) hC Ra0 (by decide) dX12_command_9 (by decide) (fun c10 => ?_) (fun c10 => ?_)
    · have h11 := h9.1 c10
      refine g_iload_n hC dX12_command_22 rfl ?_
      refine zr_callSi (As := [.int (zI a0)]) hC hZ (rm_beginsE X.la d b Ra0 hZ.rf h11) cl_X12_586 rfl rfl (Nat.le_of_ble_eq_true rfl) ⟨Nat.le_of_ble_eq_true rfl, Nat.le_of_ble_eq_true rfl⟩ dX12_command_23 (fun r12 s13 F14 R15 hZ16 h17 => ?_)
      refine zr_if_eq (tgt := 49) hC R15 dX12_command_26 (by decide) (fun c18 => ?_) (fun c18 => ?_)
      · have h19 := h17.1 c18
        refine g_iload_n hC dX12_command_49 rfl ?_
        refine g_bipush (v := zI 10) hC dX12_command_50 rfl ?_
        refine zr_icmp_ne (tgt := 90) hC Ra0 (by decide) dX12_command_52 (by decide) (fun c20 => ?_) (fun c20 => ?_)
        · have h21 := h19.1 c20
          refine g_aload_n hC dX12_command_90 rfl ?_
          refine g_dup hC dX12_command_91 rfl ?_
          refine zr_get (e := (zv s13 43)) hC hZ16 fl_X12_142 zb_43 (by decide) rfl dX12_command_92 ?_
          refine g_iconst (v := zI 1) hC dX12_command_95 rfl ?_
          refine zr_iadd hC dX12_command_96 ?_
          obtain ⟨o22, h23⟩ := h21
          refine zr_put hC hZ16 fl_X12_142 zb_43 (by decide) o22 dX12_command_97 (fun F24 hZ25 => ?_)
          refine g_iload_n hC dX12_command_100 rfl ?_
          refine g_bipush (v := zI 61) hC dX12_command_101 rfl ?_
          refine zr_icmp_ne (tgt := 111) hC Ra0 (by decide) dX12_command_103 (by decide) (fun c26 => ?_) (fun c26 => ?_)
          · have h27 := h23.1 c26
            refine g_iload_n hC dX12_command_111 rfl ?_
            refine g_bipush (v := zI 62) hC dX12_command_112 rfl ?_
            refine zr_icmp_ne (tgt := 122) hC Ra0 (by decide) dX12_command_114 (by decide) (fun c28 => ?_) (fun c28 => ?_)
            · have h29 := h27.1 c28
              refine g_iload_n hC dX12_command_122 rfl ?_
              refine g_bipush (v := zI 63) hC dX12_command_123 rfl ?_
              refine zr_icmp_ne (tgt := 133) hC Ra0 (by decide) dX12_command_125 (by decide) (fun c30 => ?_) (fun c30 => ?_)
              · have h31 := h29.1 c30
                refine g_iload_n hC dX12_command_133 rfl ?_
                refine g_bipush (v := zI 64) hC dX12_command_134 rfl ?_
                refine zr_icmp_ne (tgt := 144) hC Ra0 (by decide) dX12_command_136 (by decide) (fun c32 => ?_) (fun c32 => ?_)
                · have h33 := h31.1 c32
                  refine g_iload_n hC dX12_command_144 rfl ?_
                  refine g_bipush (v := zI 66) hC dX12_command_145 rfl ?_
                  refine zr_icmp_ne (tgt := 155) hC Ra0 (by decide) dX12_command_147 (by decide) (fun c34 => ?_) (fun c34 => ?_)
                  · have h35 := h33.1 c34
                    refine g_iconst (v := zI (-1)) hC dX12_command_155 rfl ?_
                    exact rj_command_156 hC  Ra0 Ra1 Ra2 (by decide) hZ25 h35
                  · have h36 := h33.2 c34
                    refine g_bipush (v := zI 34) hC dX12_command_150 rfl ?_
                    refine g_goto (tgt := 156) hC dX12_command_152 (by decide) ?_
                    exact rj_command_156 hC  Ra0 Ra1 Ra2 (by decide) hZ25 h36
                · have h37 := h31.2 c32
                  refine g_bipush (v := zI 32) hC dX12_command_139 rfl ?_
                  refine g_goto (tgt := 156) hC dX12_command_141 (by decide) ?_
                  exact rj_command_156 hC  Ra0 Ra1 Ra2 (by decide) hZ25 h37
              · have h38 := h29.2 c30
                refine g_bipush (v := zI 31) hC dX12_command_128 rfl ?_
                refine g_goto (tgt := 156) hC dX12_command_130 (by decide) ?_
                exact rj_command_156 hC  Ra0 Ra1 Ra2 (by decide) hZ25 h38
            · have h39 := h27.2 c28
              refine g_bipush (v := zI 30) hC dX12_command_117 rfl ?_
              refine g_goto (tgt := 156) hC dX12_command_119 (by decide) ?_
              exact rj_command_156 hC  Ra0 Ra1 Ra2 (by decide) hZ25 h39
          · have h40 := h23.2 c26
            refine g_bipush (v := zI 29) hC dX12_command_106 rfl ?_
            refine g_goto (tgt := 156) hC dX12_command_108 (by decide) ?_
            exact rj_command_156 hC  Ra0 Ra1 Ra2 (by decide) hZ25 h40
        · have h41 := h19.2 c20
          refine g_aload_n hC dX12_command_55 rfl ?_
          refine zr_callVi (As := []) hC hZ16 rfl (rm_openSection X.la d b  hZ16.rf h41) cl_X12_552 rfl rfl (Nat.le_of_ble_eq_true rfl) ⟨Nat.le_of_ble_eq_true rfl, Nat.le_of_ble_eq_true rfl⟩ dX12_command_56 (fun r42 s43 F44 R45 hZ46 h47 => ?_)
          refine zr_if_ne (tgt := 64) hC R45 dX12_command_59 (by decide) (fun c48 => ?_) (fun c48 => ?_)
          · have h49 := h47.1 c48
            refine g_aload_n hC dX12_command_64 rfl ?_
            refine g_aload_n hC dX12_command_65 rfl ?_
            refine zr_callVi (As := []) hC hZ46 rfl (rm_tk X.la d b  hZ46.rf h49) cl_X12_526 rfl rfl (Nat.le_of_ble_eq_true rfl) ⟨Nat.le_of_ble_eq_true rfl, Nat.le_of_ble_eq_true rfl⟩ dX12_command_66 (fun r50 s51 F52 R53 hZ54 h55 => ?_)
            refine zr_callSi (As := [.int (zI r50)]) hC hZ54 (rm_isD X.la d b R53 hZ54.rf h55) cl_X12_561 rfl rfl (Nat.le_of_ble_eq_true rfl) ⟨Nat.le_of_ble_eq_true rfl, Nat.le_of_ble_eq_true rfl⟩ dX12_command_69 (fun r56 s57 F58 R59 hZ60 h61 => ?_)
            refine zr_if_eq (tgt := 80) hC R59 dX12_command_72 (by decide) (fun c62 => ?_) (fun c62 => ?_)
            · have h63 := h61.1 c62
              refine g_bipush (v := zI 20) hC dX12_command_80 rfl ?_
              refine g_iconst (v := zI 0) hC dX12_command_82 rfl ?_
              refine g_iload_n hC dX12_command_83 rfl ?_
              refine g_iload_n hC dX12_command_84 rfl ?_
              refine zr_callVv (As := [.int (zI 20), .int (zI 0), .int (zI a1), .int (zI a2)]) hC hZ60 rfl (rm_goal X.la d b (by decide) (by decide) Ra1 Ra2 hZ60.rf h63) cl_X12_534 rfl rfl (Nat.le_of_ble_eq_true rfl) ⟨Nat.le_of_ble_eq_true rfl, Nat.le_of_ble_eq_true rfl⟩ dX12_command_85 (fun s65 F66 hZ68 h69 => ?_)
              refine g_iconst (v := zI 1) hC dX12_command_88 rfl ?_
              exact zr_zret hC hZ68 (Or.inr rfl) h69 dX12_command_89
            · have h70 := h61.2 c62
              refine g_bipush (v := zI 18) hC dX12_command_75 rfl ?_
              refine g_goto (tgt := 82) hC dX12_command_77 (by decide) ?_
              refine g_iconst (v := zI 0) hC dX12_command_82 rfl ?_
              refine g_iload_n hC dX12_command_83 rfl ?_
              refine g_iload_n hC dX12_command_84 rfl ?_
              refine zr_callVv (As := [.int (zI 18), .int (zI 0), .int (zI a1), .int (zI a2)]) hC hZ60 rfl (rm_goal X.la d b (by decide) (by decide) Ra1 Ra2 hZ60.rf h70) cl_X12_534 rfl rfl (Nat.le_of_ble_eq_true rfl) ⟨Nat.le_of_ble_eq_true rfl, Nat.le_of_ble_eq_true rfl⟩ dX12_command_85 (fun s72 F73 hZ75 h76 => ?_)
              refine g_iconst (v := zI 1) hC dX12_command_88 rfl ?_
              exact zr_zret hC hZ75 (Or.inr rfl) h76 dX12_command_89
          · have h77 := h47.2 c48
            refine g_iconst (v := zI 0) hC dX12_command_62 rfl ?_
            exact zr_zret hC hZ46 (Or.inl rfl) h77 dX12_command_63
      · have h78 := h17.2 c18
        refine g_aload_n hC dX12_command_29 rfl ?_
        refine g_bipush (v := zI 25) hC dX12_command_30 rfl ?_
        refine g_iconst (v := zI 0) hC dX12_command_32 rfl ?_
        refine g_iload_n hC dX12_command_33 rfl ?_
        refine g_iload_n hC dX12_command_34 rfl ?_
        refine zr_callVv (As := [.int (zI 25), .int (zI 0), .int (zI a1), .int (zI a2)]) hC hZ16 rfl (rm_goal X.la d b (by decide) (by decide) Ra1 Ra2 hZ16.rf h78) cl_X12_534 rfl rfl (Nat.le_of_ble_eq_true rfl) ⟨Nat.le_of_ble_eq_true rfl, Nat.le_of_ble_eq_true rfl⟩ dX12_command_35 (fun s80 F81 hZ83 h84 => ?_)
        refine g_aload_n hC dX12_command_38 rfl ?_
        refine g_bipush (v := zI 28) hC dX12_command_39 rfl ?_
        refine g_iconst (v := zI 0) hC dX12_command_41 rfl ?_
        refine g_iconst (v := zI 0) hC dX12_command_42 rfl ?_
        refine g_iconst (v := zI 0) hC dX12_command_43 rfl ?_
        refine zr_callVv (As := [.int (zI 28), .int (zI 0), .int (zI 0), .int (zI 0)]) hC hZ83 rfl (rm_goal X.la d b (by decide) (by decide) (by decide) (by decide) hZ83.rf h84) cl_X12_534 rfl rfl (Nat.le_of_ble_eq_true rfl) ⟨Nat.le_of_ble_eq_true rfl, Nat.le_of_ble_eq_true rfl⟩ dX12_command_44 (fun s86 F87 hZ89 h90 => ?_)
        refine g_iconst (v := zI 1) hC dX12_command_47 rfl ?_
        exact zr_zret hC hZ89 (Or.inr rfl) h90 dX12_command_48
    · have h91 := h9.2 c10
      refine g_aload_n hC dX12_command_12 rfl ?_
      refine g_bipush (v := zI 37) hC dX12_command_13 rfl ?_
      refine g_iload_n hC dX12_command_15 rfl ?_
      refine g_iconst (v := zI 0) hC dX12_command_16 rfl ?_
      refine zr_callVv (As := [.int (zI 37), .int (zI a1), .int (zI 0)]) hC hZ rfl (rm_leaf X.la d b (by decide) Ra1 (by decide) hZ.rf h91) cl_X12_570 rfl rfl (Nat.le_of_ble_eq_true rfl) ⟨Nat.le_of_ble_eq_true rfl, Nat.le_of_ble_eq_true rfl⟩ dX12_command_17 (fun s93 F94 hZ96 h97 => ?_)
      refine g_iconst (v := zI 1) hC dX12_command_20 rfl ?_
      exact zr_zret hC hZ96 (Or.inr rfl) h97 dX12_command_21
theorem dX12_labels_0 : decode cX12_labels 0 = .ok (.aload_n 0, 1) := by decide +kernel
theorem dX12_labels_1 : decode cX12_labels 1 = .ok (.invokevirtual 526, 3) := by decide +kernel
theorem dX12_labels_4 : decode cX12_labels 4 = .ok (.iconst 1, 1) := by decide +kernel
theorem dX12_labels_5 : decode cX12_labels 5 = .ok (.if_icmp .ne 44, 3) := by decide +kernel
theorem dX12_labels_8 : decode cX12_labels 8 = .ok (.aload_n 0, 1) := by decide +kernel
theorem dX12_labels_9 : decode cX12_labels 9 = .ok (.invokevirtual 583, 3) := by decide +kernel
theorem dX12_labels_12 : decode cX12_labels 12 = .ok (.bipush 17, 2) := by decide +kernel
theorem dX12_labels_14 : decode cX12_labels 14 = .ok (.if_icmp .ne 35, 3) := by decide +kernel
theorem dX12_labels_17 : decode cX12_labels 17 = .ok (.aload_n 0, 1) := by decide +kernel
theorem dX12_labels_18 : decode cX12_labels 18 = .ok (.bipush 42, 2) := by decide +kernel
theorem dX12_labels_20 : decode cX12_labels 20 = .ok (.aload_n 0, 1) := by decide +kernel
theorem dX12_labels_21 : decode cX12_labels 21 = .ok (.getfield 142, 3) := by decide +kernel
theorem dX12_labels_24 : decode cX12_labels 24 = .ok (.aload_n 0, 1) := by decide +kernel
theorem dX12_labels_25 : decode cX12_labels 25 = .ok (.getfield 45, 3) := by decide +kernel
theorem dX12_labels_28 : decode cX12_labels 28 = .ok (.aload_n 0, 1) := by decide +kernel
theorem dX12_labels_29 : decode cX12_labels 29 = .ok (.getfield 142, 3) := by decide +kernel
theorem dX12_labels_32 : decode cX12_labels 32 = .ok (.iaload, 1) := by decide +kernel
theorem dX12_labels_33 : decode cX12_labels 33 = .ok (.invokevirtual 570, 3) := by decide +kernel
theorem dX12_labels_36 : decode cX12_labels 36 = .ok (.aload_n 0, 1) := by decide +kernel
theorem dX12_labels_37 : decode cX12_labels 37 = .ok (.dup, 1) := by decide +kernel
theorem dX12_labels_38 : decode cX12_labels 38 = .ok (.getfield 142, 3) := by decide +kernel
theorem dX12_labels_41 : decode cX12_labels 41 = .ok (.iconst 2, 1) := by decide +kernel
theorem dX12_labels_42 : decode cX12_labels 42 = .ok (.iadd, 1) := by decide +kernel
theorem dX12_labels_43 : decode cX12_labels 43 = .ok (.putfield 142, 3) := by decide +kernel
theorem dX12_labels_46 : decode cX12_labels 46 = .ok (.goto (-46), 3) := by decide +kernel
theorem dX12_labels_49 : decode cX12_labels 49 = .ok (.return_, 1) := by decide +kernel
def wr_labels_0B (Q : zS → Prop) (k0 : zS → Prop) (s0 : zS)  : Prop :=
  wr_tk s0  (fun r1 s2 => ((¬ r1 = 1 → Q s2) ∧ (r1 = 1 → wr_tkNext s2  (fun r10 s11 => ((¬ r10 = 17 → Q s11) ∧ (r10 = 17 → (0 ≤ (zv s11 43)) ∧ ((zv s11 43) < 12100) ∧ wr_leaf s11 42 (zv s11 43) (za s11 11 (Int.toNat (zv s11 43))) (fun s24 => (zR ((zv s24 43) + 2)) ∧ k0 (zpv s24 43 ((zv s24 43) + 2)) )))))))
def wr_labels_0 (Q : zS → Prop)  : Nat → zS → Prop
  | 0 => fun _ => False
  | m + 1 => fun s0  => wr_labels_0B Q  (wr_labels_0 Q  m) s0 
def wr_labels (s0 : zS) (a0 : Int) (Q : zS → Prop) : Prop :=
  ∃ n, wr_labels_0 Q  n s0 
set_option maxHeartbeats 4000000 in
set_option maxRecDepth 100000 in
theorem rb_labels_0 {X : gX} {d : gD} {b t : Nat} {T : Nat → Nat} {F0 : gM} (hC : gC RX12 cX12_labels 2 none "labels" (gR 2 0 0) d b X) {Q : zS → Prop} {k0 : zS → Prop} (hk0 : ∀ (F : gM) (s0 : zS), zZ d t T F0 F s0 → k0 s0  → gG X d b (zQv X d b t T F0 Q) F 0 0 0 [some (.ref t), none] []) {F : gM} {s0 : zS}   (hZ : zZ d t T F0 F s0) (hw : wr_labels_0B Q k0 s0 ) : gG X d b (zQv X d b t T F0 Q) F 0 0 0 [some (.ref t), none] [] := by
  unfold wr_labels_0B at hw
  refine g_aload_n hC dX12_labels_0 rfl ?_
  refine zr_callVi (As := []) hC hZ rfl (rm_tk X.la d b  hZ.rf hw) cl_X12_526 rfl rfl (Nat.le_of_ble_eq_true rfl) ⟨Nat.le_of_ble_eq_true rfl, Nat.le_of_ble_eq_true rfl⟩ dX12_labels_1 (fun r1 s2 F3 R4 hZ5 h6 => ?_)
  refine g_iconst (v := zI 1) hC dX12_labels_4 rfl ?_
  refine zr_icmp_ne (tgt := 49) hC R4 (by decide) dX12_labels_5 (by decide) (fun c7 => ?_) (fun c7 => ?_)
  · have h8 := h6.1 c7
    exact zr_vret hC hZ5 h8 dX12_labels_49
  · have h9 := h6.2 c7
    refine g_aload_n hC dX12_labels_8 rfl ?_
    refine zr_callVi (As := []) hC hZ5 rfl (rm_tkNext X.la d b  hZ5.rf h9) cl_X12_583 rfl rfl (Nat.le_of_ble_eq_true rfl) ⟨Nat.le_of_ble_eq_true rfl, Nat.le_of_ble_eq_true rfl⟩ dX12_labels_9 (fun r10 s11 F12 R13 hZ14 h15 => ?_)
    refine g_bipush (v := zI 17) hC dX12_labels_12 rfl ?_
    refine zr_icmp_ne (tgt := 49) hC R13 (by decide) dX12_labels_14 (by decide) (fun c16 => ?_) (fun c16 => ?_)
    · have h17 := h15.1 c16
      exact zr_vret hC hZ14 h17 dX12_labels_49
    · have h18 := h15.2 c16
      refine g_aload_n hC dX12_labels_17 rfl ?_
      refine g_bipush (v := zI 42) hC dX12_labels_18 rfl ?_
      refine g_aload_n hC dX12_labels_20 rfl ?_
      refine zr_get (e := (zv s11 43)) hC hZ14 fl_X12_142 zb_43 (by decide) rfl dX12_labels_21 ?_
      refine g_aload_n hC dX12_labels_24 rfl ?_
      refine zr_geta hC hZ14 fl_X12_45 zb_11 (by decide) dX12_labels_25 ?_
      refine g_aload_n hC dX12_labels_28 rfl ?_
      refine zr_get (e := (zv s11 43)) hC hZ14 fl_X12_142 zb_43 (by decide) rfl dX12_labels_29 ?_
      obtain ⟨o19, h20⟩ := h18
      obtain ⟨o21, h22⟩ := h20
      refine zr_iald (v := (za s11 11 (Int.toNat (zv s11 43)))) hC hZ14 zk_11 zb_11 zn_11 (by decide) o19 o21 rfl dX12_labels_32 ?_
      refine zr_callVv (As := [.int (zI 42), .int (zI (zv s11 43)), .int (zI (za s11 11 (Int.toNat (zv s11 43))))]) hC hZ14 rfl (rm_leaf X.la d b (by decide) (hZ14.rv 43) (hZ14.ra 11 _) hZ14.rf h22) cl_X12_570 rfl rfl (Nat.le_of_ble_eq_true rfl) ⟨Nat.le_of_ble_eq_true rfl, Nat.le_of_ble_eq_true rfl⟩ dX12_labels_33 (fun s24 F25 hZ27 h28 => ?_)
      refine g_aload_n hC dX12_labels_36 rfl ?_
      refine g_dup hC dX12_labels_37 rfl ?_
      refine zr_get (e := (zv s24 43)) hC hZ27 fl_X12_142 zb_43 (by decide) rfl dX12_labels_38 ?_
      refine g_iconst (v := zI 2) hC dX12_labels_41 rfl ?_
      refine zr_iadd hC dX12_labels_42 ?_
      obtain ⟨o29, h30⟩ := h28
      refine zr_put hC hZ27 fl_X12_142 zb_43 (by decide) o29 dX12_labels_43 (fun F31 hZ32 => ?_)
      refine g_goto (tgt := 0) hC dX12_labels_46 (by decide) ?_
      exact hk0 _ _   hZ32 h30
theorem rl_labels_0 {X : gX} {d : gD} {b t : Nat} {T : Nat → Nat} {F0 : gM} (hC : gC RX12 cX12_labels 2 none "labels" (gR 2 0 0) d b X) {Q : zS → Prop}   : ∀ (m : Nat) (F : gM) (s0 : zS), zZ d t T F0 F s0 → wr_labels_0 Q  m s0  → gG X d b (zQv X d b t T F0 Q) F 0 0 0 [some (.ref t), none] [] := by
  intro m
  induction m with
  | zero => intro F s0   hZ hw; exact False.elim hw
  | succ m ih => intro F s0   hZ hw; exact rb_labels_0 hC  ih  hZ hw
set_option maxHeartbeats 4000000 in
set_option maxRecDepth 100000 in
theorem rm_labels (l : Launch) (d : gD) (b : Nat) {t : Nat} {T : Nat → Nat} {F : gM} {s0 : zS} {a0 : Int} (Ra0 : zR a0) {Q : zS → Prop} (hZ : zZ d t T F F s0) (hw : wr_labels s0 a0 Q) : gMv l d b yX12_labels cX12_labels 2 2 0 0 F [.ref t, .int (zI a0)] (zPv d t T F Q) := by
  refine gM_of2 rfl (nL := 2) (Nat.le_of_ble_eq_true rfl) ?_
  intro X hX hC; subst hX
  show gG X d b (zQv X d b t T F Q) F 0 0 0 [some (.ref t), some (.int (zI a0))] []
  unfold wr_labels at hw
  refine g_lv (lv' := [some (.ref t), none]) ⟨rfl, trivial⟩ ?_
  obtain ⟨m1, h2⟩ := hw
  exact rl_labels_0 hC  m1 _ _   hZ h2
