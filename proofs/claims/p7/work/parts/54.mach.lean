theorem kw_758 : Cond.fieldLink RX5 42 "WordTongue$Machine" "base" "I" ∈ gWs := List.mem_filter.mpr ⟨gMt3 _ (List.mem_of_getElem? (i := 41) rfl), rfl⟩
theorem fl_X5_42 : gFL RX5 42 5 8 .int false := ⟨RX5, TX5, 16, tyX5, rfl, by decide, inW_RX5, kw_758, tyX5_ok, nmX5, rfl, by decide +kernel, fun h => by cases h⟩
theorem kw_1737 : Cond.code yX5_lookByte cX5_lookByte 3 none ∈ gWs := List.mem_filter.mpr ⟨gMt7 _ (List.mem_of_getElem? (i := 60) rfl), rfl⟩
theorem kw_1734 : Cond.methodLink RX5 149 yX5_lookByte ∈ gWs := List.mem_filter.mpr ⟨gMt7 _ (List.mem_of_getElem? (i := 57) rfl), rfl⟩
theorem kw_1736 : Cond.instanceMethod yX5_lookByte ∈ gWs := List.mem_filter.mpr ⟨gMt7 _ (List.mem_of_getElem? (i := 59) rfl), rfl⟩
theorem kw_106 : Cond.selects RX5 yX5_lookByte yX5_lookByte ∈ gWs := gWm 106 (by decide +kernel) rfl
theorem cl_X5_149 : gCV RX5 149 yX5_lookByte cX5_lookByte 3 none 0 := ⟨g_mk [.methodLink RX5 149 yX5_lookByte, .instanceMethod yX5_lookByte, .selects yX5_lookByte.cls yX5_lookByte yX5_lookByte, .initialized yX5_lookByte.cls] (gWs_all kw_1737) (List.forall_mem_cons.mpr ⟨kw_1734, List.forall_mem_cons.mpr ⟨kw_1736, List.forall_mem_cons.mpr ⟨kw_106, List.forall_mem_cons.mpr ⟨kw_255, fun _ h => nomatch h⟩⟩⟩⟩), rfl, by decide +kernel, by decide +kernel, by decide +kernel⟩
theorem kw_1745 : Cond.code yX5_putByte cX5_putByte 5 none ∈ gWs := List.mem_filter.mpr ⟨gMt7 _ (List.mem_of_getElem? (i := 68) rfl), rfl⟩
theorem kw_1742 : Cond.methodLink RX5 152 yX5_putByte ∈ gWs := List.mem_filter.mpr ⟨gMt7 _ (List.mem_of_getElem? (i := 65) rfl), rfl⟩
theorem kw_1744 : Cond.instanceMethod yX5_putByte ∈ gWs := List.mem_filter.mpr ⟨gMt7 _ (List.mem_of_getElem? (i := 67) rfl), rfl⟩
theorem kw_108 : Cond.selects RX5 yX5_putByte yX5_putByte ∈ gWs := gWm 108 (by decide +kernel) rfl
theorem cl_X5_152 : gCV RX5 152 yX5_putByte cX5_putByte 5 none 0 := ⟨g_mk [.methodLink RX5 152 yX5_putByte, .instanceMethod yX5_putByte, .selects yX5_putByte.cls yX5_putByte yX5_putByte, .initialized yX5_putByte.cls] (gWs_all kw_1745) (List.forall_mem_cons.mpr ⟨kw_1742, List.forall_mem_cons.mpr ⟨kw_1744, List.forall_mem_cons.mpr ⟨kw_108, List.forall_mem_cons.mpr ⟨kw_255, fun _ h => nomatch h⟩⟩⟩⟩), rfl, by decide +kernel, by decide +kernel, by decide +kernel⟩
theorem kw_1749 : Cond.code yX5_finish cX5_finish 3 none ∈ gWs := List.mem_filter.mpr ⟨gMt7 _ (List.mem_of_getElem? (i := 72) rfl), rfl⟩
theorem kw_1746 : Cond.methodLink RX5 155 yX5_finish ∈ gWs := List.mem_filter.mpr ⟨gMt7 _ (List.mem_of_getElem? (i := 69) rfl), rfl⟩
theorem kw_1748 : Cond.instanceMethod yX5_finish ∈ gWs := List.mem_filter.mpr ⟨gMt7 _ (List.mem_of_getElem? (i := 71) rfl), rfl⟩
theorem kw_109 : Cond.selects RX5 yX5_finish yX5_finish ∈ gWs := gWm 109 (by decide +kernel) rfl
theorem cl_X5_155 : gCV RX5 155 yX5_finish cX5_finish 3 none 2 := ⟨g_mk [.methodLink RX5 155 yX5_finish, .instanceMethod yX5_finish, .selects yX5_finish.cls yX5_finish yX5_finish, .initialized yX5_finish.cls] (gWs_all kw_1749) (List.forall_mem_cons.mpr ⟨kw_1746, List.forall_mem_cons.mpr ⟨kw_1748, List.forall_mem_cons.mpr ⟨kw_109, List.forall_mem_cons.mpr ⟨kw_255, fun _ h => nomatch h⟩⟩⟩⟩), rfl, by decide +kernel, by decide +kernel, by decide +kernel⟩
theorem kw_1360 : Cond.code yX11_holds cX11_holds 3 (some .boolean) ∈ gWs := List.mem_filter.mpr ⟨gMt5 _ (List.mem_of_getElem? (i := 163) rfl), rfl⟩
theorem kw_1359 : Cond.static yX11_holds ∈ gWs := List.mem_filter.mpr ⟨gMt5 _ (List.mem_of_getElem? (i := 162) rfl), rfl⟩
theorem cl_X5_178 : gCSN RX5 178 11 yX11_holds cX11_holds 3 (some .boolean) 3 := ⟨_, rfl, gWs_all kw_1360, kw_238, kw_1359, ⟨by decide +kernel, by decide +kernel, by decide +kernel⟩⟩
theorem kw_757 : Cond.fieldLink RX5 39 "WordTongue$Machine" "at" "I" ∈ gWs := List.mem_filter.mpr ⟨gMt3 _ (List.mem_of_getElem? (i := 40) rfl), rfl⟩
theorem fl_X5_39 : gFL RX5 39 5 7 .int false := ⟨RX5, TX5, 16, tyX5, rfl, by decide, inW_RX5, kw_757, tyX5_ok, nmX5, rfl, by decide +kernel, fun h => by cases h⟩
theorem kw_1367 : Cond.code yX11_isDivision cX11_isDivision 1 (some .boolean) ∈ gWs := List.mem_filter.mpr ⟨gMt5 _ (List.mem_of_getElem? (i := 170) rfl), rfl⟩
theorem kw_1366 : Cond.static yX11_isDivision ∈ gWs := List.mem_filter.mpr ⟨gMt5 _ (List.mem_of_getElem? (i := 169) rfl), rfl⟩
theorem cl_X5_182 : gCSN RX5 182 12 yX11_isDivision cX11_isDivision 1 (some .boolean) 1 := ⟨_, rfl, gWs_all kw_1367, kw_238, kw_1366, ⟨by decide +kernel, by decide +kernel, by decide +kernel⟩⟩
theorem cl_X5_185 : gCSN RX5 185 13 yX11_isRelation cX11_isRelation 1 (some .boolean) 1 := ⟨_, rfl, gWs_all kw_1235, kw_238, kw_1234, ⟨by decide +kernel, by decide +kernel, by decide +kernel⟩⟩
theorem kw_1370 : Cond.code yX11_worked cX11_worked 3 (some .int) ∈ gWs := List.mem_filter.mpr ⟨gMt5 _ (List.mem_of_getElem? (i := 173) rfl), rfl⟩
theorem kw_1369 : Cond.static yX11_worked ∈ gWs := List.mem_filter.mpr ⟨gMt5 _ (List.mem_of_getElem? (i := 172) rfl), rfl⟩
theorem cl_X5_188 : gCSN RX5 188 14 yX11_worked cX11_worked 3 (some .int) 3 := ⟨_, rfl, gWs_all kw_1370, kw_238, kw_1369, ⟨by decide +kernel, by decide +kernel, by decide +kernel⟩⟩
theorem dX5_step_0 : decode cX5_step 0 = .ok (.iload_n 1, 1) := by decide +kernel
theorem dX5_step_1 : decode cX5_step 1 = .ok (.tableswitch 284 1 13 #[67, 78, 98, 113, 129, 150, 179, 186, 204, 223, 243, 266, 273], 67) := by decide +kernel
theorem dX5_step_68 : decode cX5_step 68 = .ok (.aload_n 0, 1) := by decide +kernel
theorem dX5_step_69 : decode cX5_step 69 = .ok (.getfield 24, 3) := by decide +kernel
theorem dX5_step_72 : decode cX5_step 72 = .ok (.iload_n 2, 1) := by decide +kernel
theorem dX5_step_73 : decode cX5_step 73 = .ok (.invokevirtual 140, 3) := by decide +kernel
theorem dX5_step_76 : decode cX5_step 76 = .ok (.goto 215, 3) := by decide +kernel
theorem dX5_step_79 : decode cX5_step 79 = .ok (.aload_n 0, 1) := by decide +kernel
theorem dX5_step_80 : decode cX5_step 80 = .ok (.getfield 24, 3) := by decide +kernel
theorem dX5_step_83 : decode cX5_step 83 = .ok (.aload_n 0, 1) := by decide +kernel
theorem dX5_step_84 : decode cX5_step 84 = .ok (.aload_n 0, 1) := by decide +kernel
theorem dX5_step_85 : decode cX5_step 85 = .ok (.getfield 42, 3) := by decide +kernel
theorem dX5_step_88 : decode cX5_step 88 = .ok (.iload_n 2, 1) := by decide +kernel
theorem dX5_step_89 : decode cX5_step 89 = .ok (.iadd, 1) := by decide +kernel
theorem dX5_step_90 : decode cX5_step 90 = .ok (.invokevirtual 143, 3) := by decide +kernel
theorem dX5_step_93 : decode cX5_step 93 = .ok (.invokevirtual 140, 3) := by decide +kernel
theorem dX5_step_96 : decode cX5_step 96 = .ok (.goto 195, 3) := by decide +kernel
theorem dX5_step_99 : decode cX5_step 99 = .ok (.aload_n 0, 1) := by decide +kernel
theorem dX5_step_100 : decode cX5_step 100 = .ok (.getfield 24, 3) := by decide +kernel
theorem dX5_step_103 : decode cX5_step 103 = .ok (.aload_n 0, 1) := by decide +kernel
theorem dX5_step_104 : decode cX5_step 104 = .ok (.iload_n 2, 1) := by decide +kernel
theorem dX5_step_105 : decode cX5_step 105 = .ok (.invokevirtual 143, 3) := by decide +kernel
theorem dX5_step_108 : decode cX5_step 108 = .ok (.invokevirtual 140, 3) := by decide +kernel
theorem dX5_step_111 : decode cX5_step 111 = .ok (.goto 180, 3) := by decide +kernel
theorem dX5_step_114 : decode cX5_step 114 = .ok (.aload_n 0, 1) := by decide +kernel
theorem dX5_step_115 : decode cX5_step 115 = .ok (.getfield 24, 3) := by decide +kernel
theorem dX5_step_118 : decode cX5_step 118 = .ok (.aload_n 0, 1) := by decide +kernel
theorem dX5_step_119 : decode cX5_step 119 = .ok (.getfield 42, 3) := by decide +kernel
theorem dX5_step_122 : decode cX5_step 122 = .ok (.iload_n 2, 1) := by decide +kernel
theorem dX5_step_123 : decode cX5_step 123 = .ok (.iadd, 1) := by decide +kernel
theorem dX5_step_124 : decode cX5_step 124 = .ok (.invokevirtual 140, 3) := by decide +kernel
theorem dX5_step_127 : decode cX5_step 127 = .ok (.goto 164, 3) := by decide +kernel
theorem dX5_step_130 : decode cX5_step 130 = .ok (.aload_n 0, 1) := by decide +kernel
theorem dX5_step_131 : decode cX5_step 131 = .ok (.getfield 24, 3) := by decide +kernel
theorem dX5_step_134 : decode cX5_step 134 = .ok (.aload_n 0, 1) := by decide +kernel
theorem dX5_step_135 : decode cX5_step 135 = .ok (.aload_n 0, 1) := by decide +kernel
theorem dX5_step_136 : decode cX5_step 136 = .ok (.getfield 24, 3) := by decide +kernel
theorem dX5_step_139 : decode cX5_step 139 = .ok (.invokevirtual 146, 3) := by decide +kernel
theorem dX5_step_142 : decode cX5_step 142 = .ok (.invokevirtual 143, 3) := by decide +kernel
theorem dX5_step_145 : decode cX5_step 145 = .ok (.invokevirtual 140, 3) := by decide +kernel
theorem dX5_step_148 : decode cX5_step 148 = .ok (.goto 143, 3) := by decide +kernel
theorem dX5_step_151 : decode cX5_step 151 = .ok (.aload_n 0, 1) := by decide +kernel
theorem dX5_step_152 : decode cX5_step 152 = .ok (.getfield 24, 3) := by decide +kernel
theorem dX5_step_155 : decode cX5_step 155 = .ok (.aload_n 0, 1) := by decide +kernel
theorem dX5_step_156 : decode cX5_step 156 = .ok (.aload_n 0, 1) := by decide +kernel
theorem dX5_step_157 : decode cX5_step 157 = .ok (.getfield 24, 3) := by decide +kernel
theorem dX5_step_160 : decode cX5_step 160 = .ok (.invokevirtual 146, 3) := by decide +kernel
theorem dX5_step_163 : decode cX5_step 163 = .ok (.aload_n 0, 1) := by decide +kernel
theorem dX5_step_164 : decode cX5_step 164 = .ok (.getfield 24, 3) := by decide +kernel
theorem dX5_step_167 : decode cX5_step 167 = .ok (.invokevirtual 146, 3) := by decide +kernel
theorem dX5_step_170 : decode cX5_step 170 = .ok (.iadd, 1) := by decide +kernel
theorem dX5_step_171 : decode cX5_step 171 = .ok (.invokevirtual 143, 3) := by decide +kernel
theorem dX5_step_174 : decode cX5_step 174 = .ok (.invokevirtual 140, 3) := by decide +kernel
theorem dX5_step_177 : decode cX5_step 177 = .ok (.goto 114, 3) := by decide +kernel
theorem dX5_step_180 : decode cX5_step 180 = .ok (.aload_n 0, 1) := by decide +kernel
theorem dX5_step_181 : decode cX5_step 181 = .ok (.invokevirtual 149, 3) := by decide +kernel
theorem dX5_step_184 : decode cX5_step 184 = .ok (.goto 107, 3) := by decide +kernel
theorem dX5_step_187 : decode cX5_step 187 = .ok (.aload_n 0, 1) := by decide +kernel
theorem dX5_step_188 : decode cX5_step 188 = .ok (.getfield 24, 3) := by decide +kernel
theorem dX5_step_191 : decode cX5_step 191 = .ok (.aload_n 0, 1) := by decide +kernel
theorem dX5_step_192 : decode cX5_step 192 = .ok (.getfield 24, 3) := by decide +kernel
theorem dX5_step_195 : decode cX5_step 195 = .ok (.invokevirtual 146, 3) := by decide +kernel
theorem dX5_step_198 : decode cX5_step 198 = .ok (.ineg, 1) := by decide +kernel
theorem dX5_step_199 : decode cX5_step 199 = .ok (.invokevirtual 140, 3) := by decide +kernel
theorem dX5_step_202 : decode cX5_step 202 = .ok (.goto 89, 3) := by decide +kernel
theorem dX5_step_205 : decode cX5_step 205 = .ok (.aload_n 0, 1) := by decide +kernel
theorem dX5_step_206 : decode cX5_step 206 = .ok (.getfield 24, 3) := by decide +kernel
theorem dX5_step_209 : decode cX5_step 209 = .ok (.aload_n 0, 1) := by decide +kernel
theorem dX5_step_210 : decode cX5_step 210 = .ok (.getfield 24, 3) := by decide +kernel
theorem dX5_step_213 : decode cX5_step 213 = .ok (.invokevirtual 146, 3) := by decide +kernel
theorem dX5_step_216 : decode cX5_step 216 = .ok (.iconst (-1), 1) := by decide +kernel
theorem dX5_step_217 : decode cX5_step 217 = .ok (.ixor, 1) := by decide +kernel
theorem dX5_step_218 : decode cX5_step 218 = .ok (.invokevirtual 140, 3) := by decide +kernel
theorem dX5_step_221 : decode cX5_step 221 = .ok (.goto 70, 3) := by decide +kernel
theorem dX5_step_224 : decode cX5_step 224 = .ok (.aload_n 0, 1) := by decide +kernel
theorem dX5_step_225 : decode cX5_step 225 = .ok (.aload_n 0, 1) := by decide +kernel
theorem dX5_step_226 : decode cX5_step 226 = .ok (.getfield 42, 3) := by decide +kernel
theorem dX5_step_229 : decode cX5_step 229 = .ok (.iload_n 2, 1) := by decide +kernel
theorem dX5_step_230 : decode cX5_step 230 = .ok (.iadd, 1) := by decide +kernel
theorem dX5_step_231 : decode cX5_step 231 = .ok (.aload_n 0, 1) := by decide +kernel
theorem dX5_step_232 : decode cX5_step 232 = .ok (.getfield 24, 3) := by decide +kernel
theorem dX5_step_235 : decode cX5_step 235 = .ok (.invokevirtual 146, 3) := by decide +kernel
theorem dX5_step_238 : decode cX5_step 238 = .ok (.invokevirtual 123, 3) := by decide +kernel
theorem dX5_step_241 : decode cX5_step 241 = .ok (.goto 50, 3) := by decide +kernel
theorem dX5_step_244 : decode cX5_step 244 = .ok (.aload_n 0, 1) := by decide +kernel
theorem dX5_step_245 : decode cX5_step 245 = .ok (.getfield 24, 3) := by decide +kernel
theorem dX5_step_248 : decode cX5_step 248 = .ok (.invokevirtual 146, 3) := by decide +kernel
theorem dX5_step_251 : decode cX5_step 251 = .ok (.istore_n 3, 1) := by decide +kernel
theorem dX5_step_252 : decode cX5_step 252 = .ok (.aload_n 0, 1) := by decide +kernel
theorem dX5_step_253 : decode cX5_step 253 = .ok (.iload_n 3, 1) := by decide +kernel
theorem dX5_step_254 : decode cX5_step 254 = .ok (.aload_n 0, 1) := by decide +kernel
theorem dX5_step_255 : decode cX5_step 255 = .ok (.getfield 24, 3) := by decide +kernel
theorem dX5_step_258 : decode cX5_step 258 = .ok (.invokevirtual 146, 3) := by decide +kernel
theorem dX5_step_261 : decode cX5_step 261 = .ok (.invokevirtual 123, 3) := by decide +kernel
theorem dX5_step_264 : decode cX5_step 264 = .ok (.goto 27, 3) := by decide +kernel
theorem dX5_step_267 : decode cX5_step 267 = .ok (.aload_n 0, 1) := by decide +kernel
theorem dX5_step_268 : decode cX5_step 268 = .ok (.invokevirtual 152, 3) := by decide +kernel
theorem dX5_step_271 : decode cX5_step 271 = .ok (.goto 20, 3) := by decide +kernel
theorem dX5_step_274 : decode cX5_step 274 = .ok (.aload_n 0, 1) := by decide +kernel
theorem dX5_step_275 : decode cX5_step 275 = .ok (.getfield 24, 3) := by decide +kernel
theorem dX5_step_278 : decode cX5_step 278 = .ok (.invokevirtual 146, 3) := by decide +kernel
theorem dX5_step_281 : decode cX5_step 281 = .ok (.pop, 1) := by decide +kernel
theorem dX5_step_282 : decode cX5_step 282 = .ok (.goto 9, 3) := by decide +kernel
theorem dX5_step_285 : decode cX5_step 285 = .ok (.aload_n 0, 1) := by decide +kernel
theorem dX5_step_286 : decode cX5_step 286 = .ok (.iconst 0, 1) := by decide +kernel
theorem dX5_step_287 : decode cX5_step 287 = .ok (.iconst 0, 1) := by decide +kernel
theorem dX5_step_288 : decode cX5_step 288 = .ok (.invokevirtual 155, 3) := by decide +kernel
theorem dX5_step_291 : decode cX5_step 291 = .ok (.return_, 1) := by decide +kernel
set_option maxHeartbeats 4000000 in
set_option maxRecDepth 100000 in
theorem s_M_step (l : Launch) (d : gD) (b : Nat) (Y : gYt) (c : Nat × Nat) (F : gM) (k n : Nat) {S : gSt} (hi : hI d b Y c (F, k, n) S) (hA : gPsi S ≤ gAm) (h43 : sZ S 43 ≤ 404) (x y : Int32) : hMv l d b yX5_step cX5_step 4 7 k n F [.ref (gO' Y 7), .int x, .int y] (fun u => ∃ S', hI d b Y c u S' ∧ gKp Y F u.1 ∧ gSm S S' [38, 39, 40, 41, 42, 44, 45] [25, 26, 27, 28, 29, 30, 31, 32, 33, 34, 35, 36] ∧ sZ S' 43 ≤ 404 ∧ gPsi S' ≤ gPsi S ∧ sN S' 45 = sN S 45) := by
  intro mc ms
  refine hM_of2 rfl (nL := 4) (Nat.le_of_ble_eq_true rfl) ?_
  intro X hX hC hr ho; subst hX
  show hG X d b _ F k n 0 [some (.ref (gO' Y 7)), some (.int x), some (.int y), none] []
  refine h_iload_n hC dX5_step_0 rfl ?_
  have T1 : hG X d b (MQ X.be (va_Qv (fun u => ∃ S', hI d b Y c u S' ∧ gKp Y F u.1 ∧ gSm S S' [38, 39, 40, 41, 42, 44, 45] [25, 26, 27, 28, 29, 30, 31, 32, 33, 34, 35, 36] ∧ sZ S' 43 ≤ 404 ∧ gPsi S' ≤ gPsi S ∧ sN S' 45 = sN S 45) (hB d b) (fun q => b ≤ q)) X.ar X.st mc ms (fun q => b ≤ q)) F k n 68 [some (.ref (gO' Y 7)), some (.int x), some (.int y), none] [] := by
    refine h_aload_n hC dX5_step_68 rfl ?_
    refine h_get hC fl_X5_24 (hi.1.o 7 (by decide)) rfl dX5_step_69 ?_
    refine h_iload_n hC dX5_step_72 rfl ?_
    refine hi_add (j := 42) hC hr ho hi (by decide) ⟨fun q => absurd q (by decide), fun q => absurd q (by decide), by omega⟩ cl_X5_140 rfl (Nat.le_of_ble_eq_true rfl) (hFr_of (Nat.le_of_ble_eq_true rfl) (Nat.le_of_ble_eq_true rfl)) dX5_step_73 (fun u9 S3 I4 o8 K5 s6 a7 => ?_)
    have m10 : gSm S S3 [38, 39, 40, 41, 42, 44, 45] [25, 26, 27, 28, 29, 30, 31, 32, 33, 34, 35, 36] := gSm.wk s6 _ _ rfl rfl
    have NS3 : sN S3 45 = sN S 45 := s6.n 45 (by decide)
    have ZS3 : sZ S3 43 = sZ S 43 := s6.z 43 (by decide)
    have Pa7 : gPsi S3 = gPsi S := a7.2.2.2 (by decide)
    refine h_goto (tgt := 291) hC dX5_step_76 (by decide) ?_
    exact h_vret hC hr o8 rfl rfl ⟨S3, I4, K5, m10, by omega, by omega, by omega⟩ dX5_step_291
  have T12 : hG X d b (MQ X.be (va_Qv (fun u => ∃ S', hI d b Y c u S' ∧ gKp Y F u.1 ∧ gSm S S' [38, 39, 40, 41, 42, 44, 45] [25, 26, 27, 28, 29, 30, 31, 32, 33, 34, 35, 36] ∧ sZ S' 43 ≤ 404 ∧ gPsi S' ≤ gPsi S ∧ sN S' 45 = sN S 45) (hB d b) (fun q => b ≤ q)) X.ar X.st mc ms (fun q => b ≤ q)) F k n 79 [some (.ref (gO' Y 7)), some (.int x), some (.int y), none] [] := by
    refine h_aload_n hC dX5_step_79 rfl ?_
    refine h_get hC fl_X5_24 (hi.1.o 7 (by decide)) rfl dX5_step_80 ?_
    refine h_aload_n hC dX5_step_83 rfl ?_
    refine h_aload_n hC dX5_step_84 rfl ?_
    refine h_get hC fl_X5_42 (hi.1.o 7 (by decide)) rfl dX5_step_85 ?_
    refine h_iload_n hC dX5_step_88 rfl ?_
    refine h_iadd hC dX5_step_89 ?_
    refine h_vi (fun x13 ex13 => ?_)
    refine h_callVi (As := [.int x13]) hC hr ho rfl (hi.1.o 7 (by decide)) (s_M_look X.la d b Y c _ _ _ hi (by omega) (by omega) x13) cl_X5_143 rfl rfl (Nat.le_of_ble_eq_true rfl) (hFr_of (Nat.le_of_ble_eq_true rfl) (Nat.le_of_ble_eq_true rfl)) dX5_step_90 (fun r17 u14 p15 o16 => ?_)
    obtain ⟨S18, I19, K20, s21, q22⟩ := p15
    have m23 : gSm S S18 [38, 39, 40, 41, 42, 44, 45] [25, 26, 27, 28, 29, 30, 31, 32, 33, 34, 35, 36] := gSm.wk s21 _ _ rfl rfl
    have ZS18 : sZ S18 43 = sZ S 43 := s21.z 43 (by decide)
    obtain ⟨aq22, bq22, nq22⟩ := q22
    refine hi_add (j := 42) hC hr o16 I19 (by decide) ⟨fun q => absurd q (by decide), fun q => absurd q (by decide), by omega⟩ cl_X5_140 rfl (Nat.le_of_ble_eq_true rfl) (hFr_of (Nat.le_of_ble_eq_true rfl) (Nat.le_of_ble_eq_true rfl)) dX5_step_93 (fun u32 S26 I27 o31 K28 s29 a30 => ?_)
    have m33 : gSm S S26 [38, 39, 40, 41, 42, 44, 45] [25, 26, 27, 28, 29, 30, 31, 32, 33, 34, 35, 36] := m23.tr s29 _ _ rfl rfl
    have K34 := K20.tr K28
    have NS26 : sN S26 45 = sN S18 45 := s29.n 45 (by decide)
    have ZS26 : sZ S26 43 = sZ S18 43 := s29.z 43 (by decide)
    have Pa30 : gPsi S26 = gPsi S18 := a30.2.2.2 (by decide)
    refine h_goto (tgt := 291) hC dX5_step_96 (by decide) ?_
    exact h_vret hC hr o31 rfl rfl ⟨S26, I27, K34, m33, by omega, by omega, by omega⟩ dX5_step_291
  have T35 : hG X d b (MQ X.be (va_Qv (fun u => ∃ S', hI d b Y c u S' ∧ gKp Y F u.1 ∧ gSm S S' [38, 39, 40, 41, 42, 44, 45] [25, 26, 27, 28, 29, 30, 31, 32, 33, 34, 35, 36] ∧ sZ S' 43 ≤ 404 ∧ gPsi S' ≤ gPsi S ∧ sN S' 45 = sN S 45) (hB d b) (fun q => b ≤ q)) X.ar X.st mc ms (fun q => b ≤ q)) F k n 99 [some (.ref (gO' Y 7)), some (.int x), some (.int y), none] [] := by
    refine h_aload_n hC dX5_step_99 rfl ?_
    refine h_get hC fl_X5_24 (hi.1.o 7 (by decide)) rfl dX5_step_100 ?_
    refine h_aload_n hC dX5_step_103 rfl ?_
    refine h_iload_n hC dX5_step_104 rfl ?_
    refine h_callVi (As := [.int y]) hC hr ho rfl (hi.1.o 7 (by decide)) (s_M_look X.la d b Y c _ _ _ hi (by omega) (by omega) y) cl_X5_143 rfl rfl (Nat.le_of_ble_eq_true rfl) (hFr_of (Nat.le_of_ble_eq_true rfl) (Nat.le_of_ble_eq_true rfl)) dX5_step_105 (fun r39 u36 p37 o38 => ?_)
    obtain ⟨S40, I41, K42, s43, q44⟩ := p37
    have m45 : gSm S S40 [38, 39, 40, 41, 42, 44, 45] [25, 26, 27, 28, 29, 30, 31, 32, 33, 34, 35, 36] := gSm.wk s43 _ _ rfl rfl
    have ZS40 : sZ S40 43 = sZ S 43 := s43.z 43 (by decide)
    obtain ⟨aq44, bq44, nq44⟩ := q44
    refine hi_add (j := 42) hC hr o38 I41 (by decide) ⟨fun q => absurd q (by decide), fun q => absurd q (by decide), by omega⟩ cl_X5_140 rfl (Nat.le_of_ble_eq_true rfl) (hFr_of (Nat.le_of_ble_eq_true rfl) (Nat.le_of_ble_eq_true rfl)) dX5_step_108 (fun u54 S48 I49 o53 K50 s51 a52 => ?_)
    have m55 : gSm S S48 [38, 39, 40, 41, 42, 44, 45] [25, 26, 27, 28, 29, 30, 31, 32, 33, 34, 35, 36] := m45.tr s51 _ _ rfl rfl
    have K56 := K42.tr K50
    have NS48 : sN S48 45 = sN S40 45 := s51.n 45 (by decide)
    have ZS48 : sZ S48 43 = sZ S40 43 := s51.z 43 (by decide)
    have Pa52 : gPsi S48 = gPsi S40 := a52.2.2.2 (by decide)
    refine h_goto (tgt := 291) hC dX5_step_111 (by decide) ?_
    exact h_vret hC hr o53 rfl rfl ⟨S48, I49, K56, m55, by omega, by omega, by omega⟩ dX5_step_291
  have T57 : hG X d b (MQ X.be (va_Qv (fun u => ∃ S', hI d b Y c u S' ∧ gKp Y F u.1 ∧ gSm S S' [38, 39, 40, 41, 42, 44, 45] [25, 26, 27, 28, 29, 30, 31, 32, 33, 34, 35, 36] ∧ sZ S' 43 ≤ 404 ∧ gPsi S' ≤ gPsi S ∧ sN S' 45 = sN S 45) (hB d b) (fun q => b ≤ q)) X.ar X.st mc ms (fun q => b ≤ q)) F k n 114 [some (.ref (gO' Y 7)), some (.int x), some (.int y), none] [] := by
    refine h_aload_n hC dX5_step_114 rfl ?_
    refine h_get hC fl_X5_24 (hi.1.o 7 (by decide)) rfl dX5_step_115 ?_
    refine h_aload_n hC dX5_step_118 rfl ?_
    refine h_get hC fl_X5_42 (hi.1.o 7 (by decide)) rfl dX5_step_119 ?_
    refine h_iload_n hC dX5_step_122 rfl ?_
    refine h_iadd hC dX5_step_123 ?_
    refine h_vi (fun x58 ex58 => ?_)
    refine hi_add (j := 42) hC hr ho hi (by decide) ⟨fun q => absurd q (by decide), fun q => absurd q (by decide), by omega⟩ cl_X5_140 rfl (Nat.le_of_ble_eq_true rfl) (hFr_of (Nat.le_of_ble_eq_true rfl) (Nat.le_of_ble_eq_true rfl)) dX5_step_124 (fun u66 S60 I61 o65 K62 s63 a64 => ?_)
    have m67 : gSm S S60 [38, 39, 40, 41, 42, 44, 45] [25, 26, 27, 28, 29, 30, 31, 32, 33, 34, 35, 36] := gSm.wk s63 _ _ rfl rfl
    have NS60 : sN S60 45 = sN S 45 := s63.n 45 (by decide)
    have ZS60 : sZ S60 43 = sZ S 43 := s63.z 43 (by decide)
    have Pa64 : gPsi S60 = gPsi S := a64.2.2.2 (by decide)
    refine h_goto (tgt := 291) hC dX5_step_127 (by decide) ?_
    exact h_vret hC hr o65 rfl rfl ⟨S60, I61, K62, m67, by omega, by omega, by omega⟩ dX5_step_291
  have T69 : hG X d b (MQ X.be (va_Qv (fun u => ∃ S', hI d b Y c u S' ∧ gKp Y F u.1 ∧ gSm S S' [38, 39, 40, 41, 42, 44, 45] [25, 26, 27, 28, 29, 30, 31, 32, 33, 34, 35, 36] ∧ sZ S' 43 ≤ 404 ∧ gPsi S' ≤ gPsi S ∧ sN S' 45 = sN S 45) (hB d b) (fun q => b ≤ q)) X.ar X.st mc ms (fun q => b ≤ q)) F k n 130 [some (.ref (gO' Y 7)), some (.int x), some (.int y), none] [] := by
    refine h_aload_n hC dX5_step_130 rfl ?_
    refine h_get hC fl_X5_24 (hi.1.o 7 (by decide)) rfl dX5_step_131 ?_
    refine h_aload_n hC dX5_step_134 rfl ?_
    refine h_aload_n hC dX5_step_135 rfl ?_
    refine h_get hC fl_X5_24 (hi.1.o 7 (by decide)) rfl dX5_step_136 ?_
    refine hi_pop (j := 42) hC hr ho hi (by decide) cl_X5_146 rfl (Nat.le_of_ble_eq_true rfl) (hFr_of (Nat.le_of_ble_eq_true rfl) (Nat.le_of_ble_eq_true rfl)) dX5_step_139 (fun r76 F70 S71 I72 K73 s74 a75 => ?_)
    have m77 : gSm S S71 [38, 39, 40, 41, 42, 44, 45] [25, 26, 27, 28, 29, 30, 31, 32, 33, 34, 35, 36] := gSm.wk s74 _ _ rfl rfl
    have NS71 : sN S71 45 = sN S 45 := s74.n 45 (by decide)
    have ZS71 : sZ S71 43 = sZ S 43 := s74.z 43 (by decide)
    have Pa75 : gPsi S71 ≤ gPsi S := a75.2.2.2.2.2
    refine h_callVi (As := [.int r76]) hC hr ho rfl (I72.1.o 7 (by decide)) (s_M_look X.la d b Y c _ _ _ I72 (by omega) (by omega) r76) cl_X5_143 rfl rfl (Nat.le_of_ble_eq_true rfl) (hFr_of (Nat.le_of_ble_eq_true rfl) (Nat.le_of_ble_eq_true rfl)) dX5_step_142 (fun r82 u79 p80 o81 => ?_)
    obtain ⟨S83, I84, K85, s86, q87⟩ := p80
    have m88 : gSm S S83 [38, 39, 40, 41, 42, 44, 45] [25, 26, 27, 28, 29, 30, 31, 32, 33, 34, 35, 36] := m77.tr s86 _ _ rfl rfl
    have K89 := K73.tr K85
    have ZS83 : sZ S83 43 = sZ S71 43 := s86.z 43 (by decide)
    obtain ⟨aq87, bq87, nq87⟩ := q87
    refine hi_add (j := 42) hC hr o81 I84 (by decide) ⟨fun q => absurd q (by decide), fun q => absurd q (by decide), by omega⟩ cl_X5_140 rfl (Nat.le_of_ble_eq_true rfl) (hFr_of (Nat.le_of_ble_eq_true rfl) (Nat.le_of_ble_eq_true rfl)) dX5_step_145 (fun u97 S91 I92 o96 K93 s94 a95 => ?_)
    have m98 : gSm S S91 [38, 39, 40, 41, 42, 44, 45] [25, 26, 27, 28, 29, 30, 31, 32, 33, 34, 35, 36] := m88.tr s94 _ _ rfl rfl
    have K99 := K89.tr K93
    have NS91 : sN S91 45 = sN S83 45 := s94.n 45 (by decide)
    have ZS91 : sZ S91 43 = sZ S83 43 := s94.z 43 (by decide)
    have Pa95 : gPsi S91 = gPsi S83 := a95.2.2.2 (by decide)
    refine h_goto (tgt := 291) hC dX5_step_148 (by decide) ?_
    exact h_vret hC hr o96 rfl rfl ⟨S91, I92, K99, m98, by omega, by omega, by omega⟩ dX5_step_291
  have T100 : hG X d b (MQ X.be (va_Qv (fun u => ∃ S', hI d b Y c u S' ∧ gKp Y F u.1 ∧ gSm S S' [38, 39, 40, 41, 42, 44, 45] [25, 26, 27, 28, 29, 30, 31, 32, 33, 34, 35, 36] ∧ sZ S' 43 ≤ 404 ∧ gPsi S' ≤ gPsi S ∧ sN S' 45 = sN S 45) (hB d b) (fun q => b ≤ q)) X.ar X.st mc ms (fun q => b ≤ q)) F k n 151 [some (.ref (gO' Y 7)), some (.int x), some (.int y), none] [] := by
    refine h_aload_n hC dX5_step_151 rfl ?_
    refine h_get hC fl_X5_24 (hi.1.o 7 (by decide)) rfl dX5_step_152 ?_
    refine h_aload_n hC dX5_step_155 rfl ?_
    refine h_aload_n hC dX5_step_156 rfl ?_
    refine h_get hC fl_X5_24 (hi.1.o 7 (by decide)) rfl dX5_step_157 ?_
    refine hi_pop (j := 42) hC hr ho hi (by decide) cl_X5_146 rfl (Nat.le_of_ble_eq_true rfl) (hFr_of (Nat.le_of_ble_eq_true rfl) (Nat.le_of_ble_eq_true rfl)) dX5_step_160 (fun r107 F101 S102 I103 K104 s105 a106 => ?_)
    have m108 : gSm S S102 [38, 39, 40, 41, 42, 44, 45] [25, 26, 27, 28, 29, 30, 31, 32, 33, 34, 35, 36] := gSm.wk s105 _ _ rfl rfl
    have NS102 : sN S102 45 = sN S 45 := s105.n 45 (by decide)
    have ZS102 : sZ S102 43 = sZ S 43 := s105.z 43 (by decide)
    have Pa106 : gPsi S102 ≤ gPsi S := a106.2.2.2.2.2
    refine h_aload_n hC dX5_step_163 rfl ?_
    refine h_get hC fl_X5_24 (I103.1.o 7 (by decide)) rfl dX5_step_164 ?_
    refine hi_pop (j := 42) hC hr ho I103 (by decide) cl_X5_146 rfl (Nat.le_of_ble_eq_true rfl) (hFr_of (Nat.le_of_ble_eq_true rfl) (Nat.le_of_ble_eq_true rfl)) dX5_step_167 (fun r116 F110 S111 I112 K113 s114 a115 => ?_)
    have m117 : gSm S S111 [38, 39, 40, 41, 42, 44, 45] [25, 26, 27, 28, 29, 30, 31, 32, 33, 34, 35, 36] := m108.tr s114 _ _ rfl rfl
    have K118 := K104.tr K113
    have NS111 : sN S111 45 = sN S102 45 := s114.n 45 (by decide)
    have ZS111 : sZ S111 43 = sZ S102 43 := s114.z 43 (by decide)
    have Pa115 : gPsi S111 ≤ gPsi S102 := a115.2.2.2.2.2
    refine h_iadd hC dX5_step_170 ?_
    refine h_vi (fun x119 ex119 => ?_)
    refine h_callVi (As := [.int x119]) hC hr ho rfl (I112.1.o 7 (by decide)) (s_M_look X.la d b Y c _ _ _ I112 (by omega) (by omega) x119) cl_X5_143 rfl rfl (Nat.le_of_ble_eq_true rfl) (hFr_of (Nat.le_of_ble_eq_true rfl) (Nat.le_of_ble_eq_true rfl)) dX5_step_171 (fun r123 u120 p121 o122 => ?_)
    obtain ⟨S124, I125, K126, s127, q128⟩ := p121
    have m129 : gSm S S124 [38, 39, 40, 41, 42, 44, 45] [25, 26, 27, 28, 29, 30, 31, 32, 33, 34, 35, 36] := m117.tr s127 _ _ rfl rfl
    have K130 := K118.tr K126
    have ZS124 : sZ S124 43 = sZ S111 43 := s127.z 43 (by decide)
    obtain ⟨aq128, bq128, nq128⟩ := q128
    refine hi_add (j := 42) hC hr o122 I125 (by decide) ⟨fun q => absurd q (by decide), fun q => absurd q (by decide), by omega⟩ cl_X5_140 rfl (Nat.le_of_ble_eq_true rfl) (hFr_of (Nat.le_of_ble_eq_true rfl) (Nat.le_of_ble_eq_true rfl)) dX5_step_174 (fun u138 S132 I133 o137 K134 s135 a136 => ?_)
    have m139 : gSm S S132 [38, 39, 40, 41, 42, 44, 45] [25, 26, 27, 28, 29, 30, 31, 32, 33, 34, 35, 36] := m129.tr s135 _ _ rfl rfl
    have K140 := K130.tr K134
    have NS132 : sN S132 45 = sN S124 45 := s135.n 45 (by decide)
    have ZS132 : sZ S132 43 = sZ S124 43 := s135.z 43 (by decide)
    have Pa136 : gPsi S132 = gPsi S124 := a136.2.2.2 (by decide)
    refine h_goto (tgt := 291) hC dX5_step_177 (by decide) ?_
    exact h_vret hC hr o137 rfl rfl ⟨S132, I133, K140, m139, by omega, by omega, by omega⟩ dX5_step_291
  have T141 : hG X d b (MQ X.be (va_Qv (fun u => ∃ S', hI d b Y c u S' ∧ gKp Y F u.1 ∧ gSm S S' [38, 39, 40, 41, 42, 44, 45] [25, 26, 27, 28, 29, 30, 31, 32, 33, 34, 35, 36] ∧ sZ S' 43 ≤ 404 ∧ gPsi S' ≤ gPsi S ∧ sN S' 45 = sN S 45) (hB d b) (fun q => b ≤ q)) X.ar X.st mc ms (fun q => b ≤ q)) F k n 180 [some (.ref (gO' Y 7)), some (.int x), some (.int y), none] [] := by
    refine h_aload_n hC dX5_step_180 rfl ?_
    refine h_callVv (As := []) hC hr ho rfl (hi.1.o 7 (by decide)) (s_M_lookByte X.la d b Y c _ _ _ hi (by omega) (by omega) ) cl_X5_149 rfl rfl (Nat.le_of_ble_eq_true rfl) (hFr_of (Nat.le_of_ble_eq_true rfl) (Nat.le_of_ble_eq_true rfl)) dX5_step_181 (fun u142 p143 o144 => ?_)
    obtain ⟨S146, I147, K148, s149, q150⟩ := p143
    have m151 : gSm S S146 [38, 39, 40, 41, 42, 44, 45] [25, 26, 27, 28, 29, 30, 31, 32, 33, 34, 35, 36] := gSm.wk s149 _ _ rfl rfl
    have ZS146 : sZ S146 43 = sZ S 43 := s149.z 43 (by decide)
    obtain ⟨aq150, bq150, nq150⟩ := q150
    refine h_goto (tgt := 291) hC dX5_step_184 (by decide) ?_
    exact h_vret hC hr o144 rfl rfl ⟨S146, I147, K148, m151, by omega, by omega, by omega⟩ dX5_step_291
  have T153 : hG X d b (MQ X.be (va_Qv (fun u => ∃ S', hI d b Y c u S' ∧ gKp Y F u.1 ∧ gSm S S' [38, 39, 40, 41, 42, 44, 45] [25, 26, 27, 28, 29, 30, 31, 32, 33, 34, 35, 36] ∧ sZ S' 43 ≤ 404 ∧ gPsi S' ≤ gPsi S ∧ sN S' 45 = sN S 45) (hB d b) (fun q => b ≤ q)) X.ar X.st mc ms (fun q => b ≤ q)) F k n 187 [some (.ref (gO' Y 7)), some (.int x), some (.int y), none] [] := by
    refine h_aload_n hC dX5_step_187 rfl ?_
    refine h_get hC fl_X5_24 (hi.1.o 7 (by decide)) rfl dX5_step_188 ?_
    refine h_aload_n hC dX5_step_191 rfl ?_
    refine h_get hC fl_X5_24 (hi.1.o 7 (by decide)) rfl dX5_step_192 ?_
    refine hi_pop (j := 42) hC hr ho hi (by decide) cl_X5_146 rfl (Nat.le_of_ble_eq_true rfl) (hFr_of (Nat.le_of_ble_eq_true rfl) (Nat.le_of_ble_eq_true rfl)) dX5_step_195 (fun r160 F154 S155 I156 K157 s158 a159 => ?_)
    have m161 : gSm S S155 [38, 39, 40, 41, 42, 44, 45] [25, 26, 27, 28, 29, 30, 31, 32, 33, 34, 35, 36] := gSm.wk s158 _ _ rfl rfl
    have NS155 : sN S155 45 = sN S 45 := s158.n 45 (by decide)
    have ZS155 : sZ S155 43 = sZ S 43 := s158.z 43 (by decide)
    have Pa159 : gPsi S155 ≤ gPsi S := a159.2.2.2.2.2
    refine h_ineg hC dX5_step_198 ?_
    refine h_vi (fun x163 ex163 => ?_)
    refine hi_add (j := 42) hC hr ho I156 (by decide) ⟨fun q => absurd q (by decide), fun q => absurd q (by decide), by omega⟩ cl_X5_140 rfl (Nat.le_of_ble_eq_true rfl) (hFr_of (Nat.le_of_ble_eq_true rfl) (Nat.le_of_ble_eq_true rfl)) dX5_step_199 (fun u171 S165 I166 o170 K167 s168 a169 => ?_)
    have m172 : gSm S S165 [38, 39, 40, 41, 42, 44, 45] [25, 26, 27, 28, 29, 30, 31, 32, 33, 34, 35, 36] := m161.tr s168 _ _ rfl rfl
    have K173 := K157.tr K167
    have NS165 : sN S165 45 = sN S155 45 := s168.n 45 (by decide)
    have ZS165 : sZ S165 43 = sZ S155 43 := s168.z 43 (by decide)
    have Pa169 : gPsi S165 = gPsi S155 := a169.2.2.2 (by decide)
    refine h_goto (tgt := 291) hC dX5_step_202 (by decide) ?_
    exact h_vret hC hr o170 rfl rfl ⟨S165, I166, K173, m172, by omega, by omega, by omega⟩ dX5_step_291
  have T174 : hG X d b (MQ X.be (va_Qv (fun u => ∃ S', hI d b Y c u S' ∧ gKp Y F u.1 ∧ gSm S S' [38, 39, 40, 41, 42, 44, 45] [25, 26, 27, 28, 29, 30, 31, 32, 33, 34, 35, 36] ∧ sZ S' 43 ≤ 404 ∧ gPsi S' ≤ gPsi S ∧ sN S' 45 = sN S 45) (hB d b) (fun q => b ≤ q)) X.ar X.st mc ms (fun q => b ≤ q)) F k n 205 [some (.ref (gO' Y 7)), some (.int x), some (.int y), none] [] := by
    refine h_aload_n hC dX5_step_205 rfl ?_
    refine h_get hC fl_X5_24 (hi.1.o 7 (by decide)) rfl dX5_step_206 ?_
    refine h_aload_n hC dX5_step_209 rfl ?_
    refine h_get hC fl_X5_24 (hi.1.o 7 (by decide)) rfl dX5_step_210 ?_
    refine hi_pop (j := 42) hC hr ho hi (by decide) cl_X5_146 rfl (Nat.le_of_ble_eq_true rfl) (hFr_of (Nat.le_of_ble_eq_true rfl) (Nat.le_of_ble_eq_true rfl)) dX5_step_213 (fun r181 F175 S176 I177 K178 s179 a180 => ?_)
    have m182 : gSm S S176 [38, 39, 40, 41, 42, 44, 45] [25, 26, 27, 28, 29, 30, 31, 32, 33, 34, 35, 36] := gSm.wk s179 _ _ rfl rfl
    have NS176 : sN S176 45 = sN S 45 := s179.n 45 (by decide)
    have ZS176 : sZ S176 43 = sZ S 43 := s179.z 43 (by decide)
    have Pa180 : gPsi S176 ≤ gPsi S := a180.2.2.2.2.2
    refine h_iconst (v := (-1)) hC dX5_step_216 rfl ?_
    refine h_ixor hC dX5_step_217 ?_
    refine h_vi (fun x184 ex184 => ?_)
    refine hi_add (j := 42) hC hr ho I177 (by decide) ⟨fun q => absurd q (by decide), fun q => absurd q (by decide), by omega⟩ cl_X5_140 rfl (Nat.le_of_ble_eq_true rfl) (hFr_of (Nat.le_of_ble_eq_true rfl) (Nat.le_of_ble_eq_true rfl)) dX5_step_218 (fun u192 S186 I187 o191 K188 s189 a190 => ?_)
    have m193 : gSm S S186 [38, 39, 40, 41, 42, 44, 45] [25, 26, 27, 28, 29, 30, 31, 32, 33, 34, 35, 36] := m182.tr s189 _ _ rfl rfl
    have K194 := K178.tr K188
    have NS186 : sN S186 45 = sN S176 45 := s189.n 45 (by decide)
    have ZS186 : sZ S186 43 = sZ S176 43 := s189.z 43 (by decide)
    have Pa190 : gPsi S186 = gPsi S176 := a190.2.2.2 (by decide)
    refine h_goto (tgt := 291) hC dX5_step_221 (by decide) ?_
    exact h_vret hC hr o191 rfl rfl ⟨S186, I187, K194, m193, by omega, by omega, by omega⟩ dX5_step_291
  have T195 : hG X d b (MQ X.be (va_Qv (fun u => ∃ S', hI d b Y c u S' ∧ gKp Y F u.1 ∧ gSm S S' [38, 39, 40, 41, 42, 44, 45] [25, 26, 27, 28, 29, 30, 31, 32, 33, 34, 35, 36] ∧ sZ S' 43 ≤ 404 ∧ gPsi S' ≤ gPsi S ∧ sN S' 45 = sN S 45) (hB d b) (fun q => b ≤ q)) X.ar X.st mc ms (fun q => b ≤ q)) F k n 224 [some (.ref (gO' Y 7)), some (.int x), some (.int y), none] [] := by
    refine h_aload_n hC dX5_step_224 rfl ?_
    refine h_aload_n hC dX5_step_225 rfl ?_
    refine h_get hC fl_X5_42 (hi.1.o 7 (by decide)) rfl dX5_step_226 ?_
    refine h_iload_n hC dX5_step_229 rfl ?_
    refine h_iadd hC dX5_step_230 ?_
    refine h_vi (fun x196 ex196 => ?_)
    refine h_aload_n hC dX5_step_231 rfl ?_
    refine h_get hC fl_X5_24 (hi.1.o 7 (by decide)) rfl dX5_step_232 ?_
    refine hi_pop (j := 42) hC hr ho hi (by decide) cl_X5_146 rfl (Nat.le_of_ble_eq_true rfl) (hFr_of (Nat.le_of_ble_eq_true rfl) (Nat.le_of_ble_eq_true rfl)) dX5_step_235 (fun r203 F197 S198 I199 K200 s201 a202 => ?_)
    have m204 : gSm S S198 [38, 39, 40, 41, 42, 44, 45] [25, 26, 27, 28, 29, 30, 31, 32, 33, 34, 35, 36] := gSm.wk s201 _ _ rfl rfl
    have NS198 : sN S198 45 = sN S 45 := s201.n 45 (by decide)
    have ZS198 : sZ S198 43 = sZ S 43 := s201.z 43 (by decide)
    have Pa202 : gPsi S198 ≤ gPsi S := a202.2.2.2.2.2
    refine h_callVv (As := [.int x196, .int r203]) hC hr ho rfl (I199.1.o 7 (by decide)) (s_M_put X.la d b Y c _ _ _ I199 (by omega) (by omega) x196 r203) cl_X5_123 rfl rfl (Nat.le_of_ble_eq_true rfl) (hFr_of (Nat.le_of_ble_eq_true rfl) (Nat.le_of_ble_eq_true rfl)) dX5_step_238 (fun u206 p207 o208 => ?_)
    obtain ⟨S210, I211, K212, s213, q214⟩ := p207
    have m215 : gSm S S210 [38, 39, 40, 41, 42, 44, 45] [25, 26, 27, 28, 29, 30, 31, 32, 33, 34, 35, 36] := m204.tr s213 _ _ rfl rfl
    have K216 := K200.tr K212
    have ZS210 : sZ S210 43 = sZ S198 43 := s213.z 43 (by decide)
    obtain ⟨aq214, bq214, nq214⟩ := q214
    refine h_goto (tgt := 291) hC dX5_step_241 (by decide) ?_
    exact h_vret hC hr o208 rfl rfl ⟨S210, I211, K216, m215, by omega, by omega, by omega⟩ dX5_step_291
  have T217 : hG X d b (MQ X.be (va_Qv (fun u => ∃ S', hI d b Y c u S' ∧ gKp Y F u.1 ∧ gSm S S' [38, 39, 40, 41, 42, 44, 45] [25, 26, 27, 28, 29, 30, 31, 32, 33, 34, 35, 36] ∧ sZ S' 43 ≤ 404 ∧ gPsi S' ≤ gPsi S ∧ sN S' 45 = sN S 45) (hB d b) (fun q => b ≤ q)) X.ar X.st mc ms (fun q => b ≤ q)) F k n 244 [some (.ref (gO' Y 7)), some (.int x), some (.int y), none] [] := by
    refine h_aload_n hC dX5_step_244 rfl ?_
    refine h_get hC fl_X5_24 (hi.1.o 7 (by decide)) rfl dX5_step_245 ?_
    refine hi_pop (j := 42) hC hr ho hi (by decide) cl_X5_146 rfl (Nat.le_of_ble_eq_true rfl) (hFr_of (Nat.le_of_ble_eq_true rfl) (Nat.le_of_ble_eq_true rfl)) dX5_step_248 (fun r224 F218 S219 I220 K221 s222 a223 => ?_)
    have m225 : gSm S S219 [38, 39, 40, 41, 42, 44, 45] [25, 26, 27, 28, 29, 30, 31, 32, 33, 34, 35, 36] := gSm.wk s222 _ _ rfl rfl
    have NS219 : sN S219 45 = sN S 45 := s222.n 45 (by decide)
    have ZS219 : sZ S219 43 = sZ S 43 := s222.z 43 (by decide)
    have Pa223 : gPsi S219 ≤ gPsi S := a223.2.2.2.2.2
    refine h_istore_n (lv' := [some (.ref (gO' Y 7)), some (.int x), some (.int y), some (.int r224)]) hC dX5_step_251 (Nat.le_of_ble_eq_true rfl) rfl rfl ?_
    refine h_aload_n hC dX5_step_252 rfl ?_
    refine h_iload_n hC dX5_step_253 rfl ?_
    refine h_aload_n hC dX5_step_254 rfl ?_
    refine h_get hC fl_X5_24 (I220.1.o 7 (by decide)) rfl dX5_step_255 ?_
    refine hi_pop (j := 42) hC hr ho I220 (by decide) cl_X5_146 rfl (Nat.le_of_ble_eq_true rfl) (hFr_of (Nat.le_of_ble_eq_true rfl) (Nat.le_of_ble_eq_true rfl)) dX5_step_258 (fun r233 F227 S228 I229 K230 s231 a232 => ?_)
    have m234 : gSm S S228 [38, 39, 40, 41, 42, 44, 45] [25, 26, 27, 28, 29, 30, 31, 32, 33, 34, 35, 36] := m225.tr s231 _ _ rfl rfl
    have K235 := K221.tr K230
    have NS228 : sN S228 45 = sN S219 45 := s231.n 45 (by decide)
    have ZS228 : sZ S228 43 = sZ S219 43 := s231.z 43 (by decide)
    have Pa232 : gPsi S228 ≤ gPsi S219 := a232.2.2.2.2.2
    refine h_callVv (As := [.int r224, .int r233]) hC hr ho rfl (I229.1.o 7 (by decide)) (s_M_put X.la d b Y c _ _ _ I229 (by omega) (by omega) r224 r233) cl_X5_123 rfl rfl (Nat.le_of_ble_eq_true rfl) (hFr_of (Nat.le_of_ble_eq_true rfl) (Nat.le_of_ble_eq_true rfl)) dX5_step_261 (fun u236 p237 o238 => ?_)
    obtain ⟨S240, I241, K242, s243, q244⟩ := p237
    have m245 : gSm S S240 [38, 39, 40, 41, 42, 44, 45] [25, 26, 27, 28, 29, 30, 31, 32, 33, 34, 35, 36] := m234.tr s243 _ _ rfl rfl
    have K246 := K235.tr K242
    have ZS240 : sZ S240 43 = sZ S228 43 := s243.z 43 (by decide)
    obtain ⟨aq244, bq244, nq244⟩ := q244
    refine h_goto (tgt := 291) hC dX5_step_264 (by decide) ?_
    exact h_vret hC hr o238 rfl rfl ⟨S240, I241, K246, m245, by omega, by omega, by omega⟩ dX5_step_291
  have T247 : hG X d b (MQ X.be (va_Qv (fun u => ∃ S', hI d b Y c u S' ∧ gKp Y F u.1 ∧ gSm S S' [38, 39, 40, 41, 42, 44, 45] [25, 26, 27, 28, 29, 30, 31, 32, 33, 34, 35, 36] ∧ sZ S' 43 ≤ 404 ∧ gPsi S' ≤ gPsi S ∧ sN S' 45 = sN S 45) (hB d b) (fun q => b ≤ q)) X.ar X.st mc ms (fun q => b ≤ q)) F k n 267 [some (.ref (gO' Y 7)), some (.int x), some (.int y), none] [] := by
    refine h_aload_n hC dX5_step_267 rfl ?_
    refine h_callVv (As := []) hC hr ho rfl (hi.1.o 7 (by decide)) (s_M_putByte X.la d b Y c _ _ _ hi (by omega) (by omega) ) cl_X5_152 rfl rfl (Nat.le_of_ble_eq_true rfl) (hFr_of (Nat.le_of_ble_eq_true rfl) (Nat.le_of_ble_eq_true rfl)) dX5_step_268 (fun u248 p249 o250 => ?_)
    obtain ⟨S252, I253, K254, s255, q256⟩ := p249
    have m257 : gSm S S252 [38, 39, 40, 41, 42, 44, 45] [25, 26, 27, 28, 29, 30, 31, 32, 33, 34, 35, 36] := gSm.wk s255 _ _ rfl rfl
    have ZS252 : sZ S252 43 = sZ S 43 := s255.z 43 (by decide)
    obtain ⟨aq256, bq256, nq256⟩ := q256
    refine h_goto (tgt := 291) hC dX5_step_271 (by decide) ?_
    exact h_vret hC hr o250 rfl rfl ⟨S252, I253, K254, m257, by omega, by omega, by omega⟩ dX5_step_291
  have T259 : hG X d b (MQ X.be (va_Qv (fun u => ∃ S', hI d b Y c u S' ∧ gKp Y F u.1 ∧ gSm S S' [38, 39, 40, 41, 42, 44, 45] [25, 26, 27, 28, 29, 30, 31, 32, 33, 34, 35, 36] ∧ sZ S' 43 ≤ 404 ∧ gPsi S' ≤ gPsi S ∧ sN S' 45 = sN S 45) (hB d b) (fun q => b ≤ q)) X.ar X.st mc ms (fun q => b ≤ q)) F k n 274 [some (.ref (gO' Y 7)), some (.int x), some (.int y), none] [] := by
    refine h_aload_n hC dX5_step_274 rfl ?_
    refine h_get hC fl_X5_24 (hi.1.o 7 (by decide)) rfl dX5_step_275 ?_
    refine hi_pop (j := 42) hC hr ho hi (by decide) cl_X5_146 rfl (Nat.le_of_ble_eq_true rfl) (hFr_of (Nat.le_of_ble_eq_true rfl) (Nat.le_of_ble_eq_true rfl)) dX5_step_278 (fun r266 F260 S261 I262 K263 s264 a265 => ?_)
    have m267 : gSm S S261 [38, 39, 40, 41, 42, 44, 45] [25, 26, 27, 28, 29, 30, 31, 32, 33, 34, 35, 36] := gSm.wk s264 _ _ rfl rfl
    have NS261 : sN S261 45 = sN S 45 := s264.n 45 (by decide)
    have ZS261 : sZ S261 43 = sZ S 43 := s264.z 43 (by decide)
    have Pa265 : gPsi S261 ≤ gPsi S := a265.2.2.2.2.2
    refine h_pop hC dX5_step_281 rfl ?_
    refine h_goto (tgt := 291) hC dX5_step_282 (by decide) ?_
    exact h_vret hC hr ho rfl rfl ⟨S261, I262, K263, m267, by omega, by omega, by omega⟩ dX5_step_291
  have T269 : hG X d b (MQ X.be (va_Qv (fun u => ∃ S', hI d b Y c u S' ∧ gKp Y F u.1 ∧ gSm S S' [38, 39, 40, 41, 42, 44, 45] [25, 26, 27, 28, 29, 30, 31, 32, 33, 34, 35, 36] ∧ sZ S' 43 ≤ 404 ∧ gPsi S' ≤ gPsi S ∧ sN S' 45 = sN S 45) (hB d b) (fun q => b ≤ q)) X.ar X.st mc ms (fun q => b ≤ q)) F k n 285 [some (.ref (gO' Y 7)), some (.int x), some (.int y), none] [] := by
    refine h_aload_n hC dX5_step_285 rfl ?_
    refine h_iconst (v := 0) hC dX5_step_286 rfl ?_
    refine h_iconst (v := 0) hC dX5_step_287 rfl ?_
    refine h_callVv (As := [.int 0, .int 0]) hC hr ho rfl (hi.1.o 7 (by decide)) (s_M_finish X.la d b Y c _ _ _ hi (by omega) (by omega) 0 0) cl_X5_155 rfl rfl (Nat.le_of_ble_eq_true rfl) (hFr_of (Nat.le_of_ble_eq_true rfl) (Nat.le_of_ble_eq_true rfl)) dX5_step_288 (fun u270 p271 o272 => ?_)
    obtain ⟨S274, I275, K276, s277, q278⟩ := p271
    have m279 : gSm S S274 [38, 39, 40, 41, 42, 44, 45] [25, 26, 27, 28, 29, 30, 31, 32, 33, 34, 35, 36] := gSm.wk s277 _ _ rfl rfl
    have ZS274 : sZ S274 43 = sZ S 43 := s277.z 43 (by decide)
    obtain ⟨aq278, bq278, nq278⟩ := q278
    exact h_vret hC hr o272 rfl rfl ⟨S274, I275, K276, m279, by omega, by omega, by omega⟩ dX5_step_291
  exact h_tsw hC dX5_step_1 (by decide) (fun tgt ht => (by obtain rfl : tgt = 285 := (by omega); exact T269)) (by decide) (by decide) (List.forall_mem_cons.mpr ⟨fun (tgt : Nat) (ht : ((1 : Nat) : Int) + (67 : Int) = (tgt : Int)) => (by obtain rfl : tgt = 68 := (by omega); exact T1), List.forall_mem_cons.mpr ⟨fun (tgt : Nat) (ht : ((1 : Nat) : Int) + (78 : Int) = (tgt : Int)) => (by obtain rfl : tgt = 79 := (by omega); exact T12), List.forall_mem_cons.mpr ⟨fun (tgt : Nat) (ht : ((1 : Nat) : Int) + (98 : Int) = (tgt : Int)) => (by obtain rfl : tgt = 99 := (by omega); exact T35), List.forall_mem_cons.mpr ⟨fun (tgt : Nat) (ht : ((1 : Nat) : Int) + (113 : Int) = (tgt : Int)) => (by obtain rfl : tgt = 114 := (by omega); exact T57), List.forall_mem_cons.mpr ⟨fun (tgt : Nat) (ht : ((1 : Nat) : Int) + (129 : Int) = (tgt : Int)) => (by obtain rfl : tgt = 130 := (by omega); exact T69), List.forall_mem_cons.mpr ⟨fun (tgt : Nat) (ht : ((1 : Nat) : Int) + (150 : Int) = (tgt : Int)) => (by obtain rfl : tgt = 151 := (by omega); exact T100), List.forall_mem_cons.mpr ⟨fun (tgt : Nat) (ht : ((1 : Nat) : Int) + (179 : Int) = (tgt : Int)) => (by obtain rfl : tgt = 180 := (by omega); exact T141), List.forall_mem_cons.mpr ⟨fun (tgt : Nat) (ht : ((1 : Nat) : Int) + (186 : Int) = (tgt : Int)) => (by obtain rfl : tgt = 187 := (by omega); exact T153), List.forall_mem_cons.mpr ⟨fun (tgt : Nat) (ht : ((1 : Nat) : Int) + (204 : Int) = (tgt : Int)) => (by obtain rfl : tgt = 205 := (by omega); exact T174), List.forall_mem_cons.mpr ⟨fun (tgt : Nat) (ht : ((1 : Nat) : Int) + (223 : Int) = (tgt : Int)) => (by obtain rfl : tgt = 224 := (by omega); exact T195), List.forall_mem_cons.mpr ⟨fun (tgt : Nat) (ht : ((1 : Nat) : Int) + (243 : Int) = (tgt : Int)) => (by obtain rfl : tgt = 244 := (by omega); exact T217), List.forall_mem_cons.mpr ⟨fun (tgt : Nat) (ht : ((1 : Nat) : Int) + (266 : Int) = (tgt : Int)) => (by obtain rfl : tgt = 267 := (by omega); exact T247), List.forall_mem_cons.mpr ⟨fun (tgt : Nat) (ht : ((1 : Nat) : Int) + (273 : Int) = (tgt : Int)) => (by obtain rfl : tgt = 274 := (by omega); exact T259), fun _ h => nomatch h⟩⟩⟩⟩⟩⟩⟩⟩⟩⟩⟩⟩⟩)
theorem dX5_link_0 : decode cX5_link 0 = .ok (.iload_n 1, 1) := by decide +kernel
theorem dX5_link_1 : decode cX5_link 1 = .ok (.iload_n 2, 1) := by decide +kernel
theorem dX5_link_2 : decode cX5_link 2 = .ok (.iload_n 3, 1) := by decide +kernel
theorem dX5_link_3 : decode cX5_link 3 = .ok (.invokestatic 178, 3) := by decide +kernel
theorem dX5_link_6 : decode cX5_link 6 = .ok (.ifCond .eq 14, 3) := by decide +kernel
theorem dX5_link_9 : decode cX5_link 9 = .ok (.aload_n 0, 1) := by decide +kernel
theorem dX5_link_10 : decode cX5_link 10 = .ok (.getfield 24, 3) := by decide +kernel
theorem dX5_link_13 : decode cX5_link 13 = .ok (.iload_n 3, 1) := by decide +kernel
theorem dX5_link_14 : decode cX5_link 14 = .ok (.invokevirtual 140, 3) := by decide +kernel
theorem dX5_link_17 : decode cX5_link 17 = .ok (.goto 17, 3) := by decide +kernel
theorem dX5_link_20 : decode cX5_link 20 = .ok (.aload_n 0, 1) := by decide +kernel
theorem dX5_link_21 : decode cX5_link 21 = .ok (.getfield 24, 3) := by decide +kernel
theorem dX5_link_24 : decode cX5_link 24 = .ok (.iconst 0, 1) := by decide +kernel
theorem dX5_link_25 : decode cX5_link 25 = .ok (.invokevirtual 140, 3) := by decide +kernel
theorem dX5_link_28 : decode cX5_link 28 = .ok (.aload_n 0, 1) := by decide +kernel
theorem dX5_link_29 : decode cX5_link 29 = .ok (.iload 4, 2) := by decide +kernel
theorem dX5_link_31 : decode cX5_link 31 = .ok (.putfield 39, 3) := by decide +kernel
theorem dX5_link_34 : decode cX5_link 34 = .ok (.return_, 1) := by decide +kernel
set_option maxHeartbeats 4000000 in
set_option maxRecDepth 100000 in
theorem s_M_link (l : Launch) (d : gD) (b : Nat) (Y : gYt) (c : Nat × Nat) (F : gM) (k n : Nat) {S : gSt} (hi : hI d b Y c (F, k, n) S) (hA : gPsi S ≤ gAm) (h43 : sZ S 43 ≤ 404) (x y z v : Int32) : hMv l d b yX5_link cX5_link 5 5 k n F [.ref (gO' Y 7), .int x, .int y, .int z, .int v] (fun u => ∃ S', hI d b Y c u S' ∧ gKp Y F u.1 ∧ gSm S S' [38, 39, 40, 41, 42, 44, 45] [25, 26, 27, 28, 29, 30, 31, 32, 33, 34, 35, 36] ∧ sZ S' 43 ≤ 404 ∧ gPsi S' ≤ gPsi S ∧ sN S' 45 = sN S 45) := by
  intro mc ms
  refine hM_of2 rfl (nL := 5) (Nat.le_of_ble_eq_true rfl) ?_
  intro X hX hC hr ho; subst hX
  show hG X d b _ F k n 0 [some (.ref (gO' Y 7)), some (.int x), some (.int y), some (.int z), some (.int v)] []
  refine h_iload_n hC dX5_link_0 rfl ?_
  refine h_iload_n hC dX5_link_1 rfl ?_
  refine h_iload_n hC dX5_link_2 rfl ?_
  refine g_callSNi (As := [.int x, .int y, .int z]) hC (t_holds X.la d b _ x y z) cl_X5_178 rfl rfl (Nat.le_of_ble_eq_true rfl) (h_fit0 hC hr ho (hFr_of (Nat.le_of_ble_eq_true rfl) (Nat.le_of_ble_eq_true rfl))) dX5_link_3 (fun r1 F2 p3 => ?_)
  obtain ⟨er1, eF2⟩ := p3; have eF2 := eF2.symm; subst eF2
  refine h_same hC ho ?_
  refine h_if_eq (tgt := 20) hC dX5_link_6 (by decide) (fun c5 => ?_) (fun c5 => ?_)
  · refine h_aload_n hC dX5_link_20 rfl ?_
    refine h_get hC fl_X5_24 (hi.1.o 7 (by decide)) rfl dX5_link_21 ?_
    refine h_iconst (v := 0) hC dX5_link_24 rfl ?_
    refine hi_add (j := 42) hC hr ho hi (by decide) ⟨fun q => absurd q (by decide), fun q => absurd q (by decide), by omega⟩ cl_X5_140 rfl (Nat.le_of_ble_eq_true rfl) (hFr_of (Nat.le_of_ble_eq_true rfl) (Nat.le_of_ble_eq_true rfl)) dX5_link_25 (fun u13 S7 I8 o12 K9 s10 a11 => ?_)
    have m14 : gSm S S7 [38, 39, 40, 41, 42, 44, 45] [25, 26, 27, 28, 29, 30, 31, 32, 33, 34, 35, 36] := gSm.wk s10 _ _ rfl rfl
    have NS7 : sN S7 45 = sN S 45 := s10.n 45 (by decide)
    have ZS7 : sZ S7 43 = sZ S 43 := s10.z 43 (by decide)
    have Pa11 : gPsi S7 = gPsi S := a11.2.2.2 (by decide)
    refine h_aload_n hC dX5_link_28 rfl ?_
    refine h_iload hC dX5_link_29 rfl ?_
    refine hi_putx (i := 7) (kx := 28) hC I8 (by decide) fl_X5_39 rfl rfl rfl (Nat.le_of_ble_eq_true rfl) rfl gsame_28 (fun q => absurd q (by decide)) dX5_link_31 (fun F16 S17 I18 K19 s20 v21 p22 => ?_)
    have m23 : gSm S S17 [38, 39, 40, 41, 42, 44, 45] [25, 26, 27, 28, 29, 30, 31, 32, 33, 34, 35, 36] := m14.tr s20 _ _ rfl rfl
    have K24 := K9.tr K19
    have NS17 : sN S17 45 = sN S7 45 := s20.n 45 (by decide)
    have ZS17 : sZ S17 43 = sZ S7 43 := s20.z 43 (by decide)
    exact h_vret hC hr o12 rfl rfl ⟨S17, I18, K24, m23, by omega, by omega, by omega⟩ dX5_link_34
  · refine h_aload_n hC dX5_link_9 rfl ?_
    refine h_get hC fl_X5_24 (hi.1.o 7 (by decide)) rfl dX5_link_10 ?_
    refine h_iload_n hC dX5_link_13 rfl ?_
    refine hi_add (j := 42) hC hr ho hi (by decide) ⟨fun q => absurd q (by decide), fun q => absurd q (by decide), by omega⟩ cl_X5_140 rfl (Nat.le_of_ble_eq_true rfl) (hFr_of (Nat.le_of_ble_eq_true rfl) (Nat.le_of_ble_eq_true rfl)) dX5_link_14 (fun u32 S26 I27 o31 K28 s29 a30 => ?_)
    have m33 : gSm S S26 [38, 39, 40, 41, 42, 44, 45] [25, 26, 27, 28, 29, 30, 31, 32, 33, 34, 35, 36] := gSm.wk s29 _ _ rfl rfl
    have NS26 : sN S26 45 = sN S 45 := s29.n 45 (by decide)
    have ZS26 : sZ S26 43 = sZ S 43 := s29.z 43 (by decide)
    have Pa30 : gPsi S26 = gPsi S := a30.2.2.2 (by decide)
    refine h_goto (tgt := 34) hC dX5_link_17 (by decide) ?_
    exact h_vret hC hr o31 rfl rfl ⟨S26, I27, K28, m33, by omega, by omega, by omega⟩ dX5_link_34
theorem dX5_work_0 : decode cX5_work 0 = .ok (.iload_n 1, 1) := by decide +kernel
theorem dX5_work_1 : decode cX5_work 1 = .ok (.invokestatic 182, 3) := by decide +kernel
theorem dX5_work_4 : decode cX5_work 4 = .ok (.ifCond .eq 15, 3) := by decide +kernel
theorem dX5_work_7 : decode cX5_work 7 = .ok (.iload_n 3, 1) := by decide +kernel
theorem dX5_work_8 : decode cX5_work 8 = .ok (.ifCond .ne 11, 3) := by decide +kernel
theorem dX5_work_11 : decode cX5_work 11 = .ok (.aload_n 0, 1) := by decide +kernel
theorem dX5_work_12 : decode cX5_work 12 = .ok (.iconst 3, 1) := by decide +kernel
theorem dX5_work_13 : decode cX5_work 13 = .ok (.invokevirtual 137, 3) := by decide +kernel
theorem dX5_work_16 : decode cX5_work 16 = .ok (.goto 47, 3) := by decide +kernel
theorem dX5_work_19 : decode cX5_work 19 = .ok (.iload_n 1, 1) := by decide +kernel
theorem dX5_work_20 : decode cX5_work 20 = .ok (.invokestatic 185, 3) := by decide +kernel
theorem dX5_work_23 : decode cX5_work 23 = .ok (.ifCond .eq 27, 3) := by decide +kernel
theorem dX5_work_26 : decode cX5_work 26 = .ok (.aload_n 0, 1) := by decide +kernel
theorem dX5_work_27 : decode cX5_work 27 = .ok (.getfield 24, 3) := by decide +kernel
theorem dX5_work_30 : decode cX5_work 30 = .ok (.iload_n 1, 1) := by decide +kernel
theorem dX5_work_31 : decode cX5_work 31 = .ok (.iload_n 2, 1) := by decide +kernel
theorem dX5_work_32 : decode cX5_work 32 = .ok (.iload_n 3, 1) := by decide +kernel
theorem dX5_work_33 : decode cX5_work 33 = .ok (.invokestatic 178, 3) := by decide +kernel
theorem dX5_work_36 : decode cX5_work 36 = .ok (.ifCond .eq 7, 3) := by decide +kernel
theorem dX5_work_39 : decode cX5_work 39 = .ok (.iconst (-1), 1) := by decide +kernel
theorem dX5_work_40 : decode cX5_work 40 = .ok (.goto 4, 3) := by decide +kernel
theorem dX5_work_43 : decode cX5_work 43 = .ok (.iconst 0, 1) := by decide +kernel
theorem dX5_work_44 : decode cX5_work 44 = .ok (.invokevirtual 140, 3) := by decide +kernel
theorem dX5_work_47 : decode cX5_work 47 = .ok (.goto 16, 3) := by decide +kernel
theorem dX5_work_50 : decode cX5_work 50 = .ok (.aload_n 0, 1) := by decide +kernel
theorem dX5_work_51 : decode cX5_work 51 = .ok (.getfield 24, 3) := by decide +kernel
theorem dX5_work_54 : decode cX5_work 54 = .ok (.iload_n 1, 1) := by decide +kernel
theorem dX5_work_55 : decode cX5_work 55 = .ok (.iload_n 2, 1) := by decide +kernel
theorem dX5_work_56 : decode cX5_work 56 = .ok (.iload_n 3, 1) := by decide +kernel
theorem dX5_work_57 : decode cX5_work 57 = .ok (.invokestatic 188, 3) := by decide +kernel
theorem dX5_work_60 : decode cX5_work 60 = .ok (.invokevirtual 140, 3) := by decide +kernel
theorem dX5_work_63 : decode cX5_work 63 = .ok (.return_, 1) := by decide +kernel
set_option maxHeartbeats 4000000 in
set_option maxRecDepth 100000 in
theorem s_M_work (l : Launch) (d : gD) (b : Nat) (Y : gYt) (c : Nat × Nat) (F : gM) (k n : Nat) {S : gSt} (hi : hI d b Y c (F, k, n) S) (hA : gPsi S ≤ gAm) (h43 : sZ S 43 ≤ 404) (x y z : Int32) : hMv l d b yX5_work cX5_work 4 5 k n F [.ref (gO' Y 7), .int x, .int y, .int z] (fun u => ∃ S', hI d b Y c u S' ∧ gKp Y F u.1 ∧ gSm S S' [38, 39, 40, 41, 42, 44, 45] [25, 26, 27, 28, 29, 30, 31, 32, 33, 34, 35, 36] ∧ sZ S' 43 ≤ 404 ∧ gPsi S' ≤ gPsi S ∧ sN S' 45 = sN S 45) := by
  intro mc ms
  refine hM_of2 rfl (nL := 4) (Nat.le_of_ble_eq_true rfl) ?_
  intro X hX hC hr ho; subst hX
  show hG X d b _ F k n 0 [some (.ref (gO' Y 7)), some (.int x), some (.int y), some (.int z)] []
  refine h_iload_n hC dX5_work_0 rfl ?_
  refine g_callSNi (As := [.int x]) hC (t_isDivision X.la d b _ x) cl_X5_182 rfl rfl (Nat.le_of_ble_eq_true rfl) (h_fit0 hC hr ho (hFr_of (Nat.le_of_ble_eq_true rfl) (Nat.le_of_ble_eq_true rfl))) dX5_work_1 (fun r1 F2 p3 => ?_)
  obtain ⟨er1, eF2⟩ := p3; have eF2 := eF2.symm; subst eF2
  refine h_same hC ho ?_
  refine h_if_eq (tgt := 19) hC dX5_work_4 (by decide) (fun c5 => ?_) (fun c5 => ?_)
  · refine h_iload_n hC dX5_work_19 rfl ?_
    refine g_callSNi (As := [.int x]) hC (t_isRelation X.la d b _ x) cl_X5_185 rfl rfl (Nat.le_of_ble_eq_true rfl) (h_fit0 hC hr ho (hFr_of (Nat.le_of_ble_eq_true rfl) (Nat.le_of_ble_eq_true rfl))) dX5_work_20 (fun r6 F7 p8 => ?_)
    obtain ⟨er6, eF7⟩ := p8; have eF7 := eF7.symm; subst eF7
    refine h_same hC ho ?_
    refine h_if_eq (tgt := 50) hC dX5_work_23 (by decide) (fun c10 => ?_) (fun c10 => ?_)
    · refine h_aload_n hC dX5_work_50 rfl ?_
      refine h_get hC fl_X5_24 (hi.1.o 7 (by decide)) rfl dX5_work_51 ?_
      refine h_iload_n hC dX5_work_54 rfl ?_
      refine h_iload_n hC dX5_work_55 rfl ?_
      refine h_iload_n hC dX5_work_56 rfl ?_
      refine g_callSNi (As := [.int x, .int y, .int z]) hC (t_worked X.la d b _ x y z) cl_X5_188 rfl rfl (Nat.le_of_ble_eq_true rfl) (h_fit0 hC hr ho (hFr_of (Nat.le_of_ble_eq_true rfl) (Nat.le_of_ble_eq_true rfl))) dX5_work_57 (fun r11 F12 p13 => ?_)
      obtain ⟨er11, eF12⟩ := p13; have eF12 := eF12.symm; subst eF12
      refine h_same hC ho ?_
      refine hi_add (j := 42) hC hr ho hi (by decide) ⟨fun q => absurd q (by decide), fun q => absurd q (by decide), by omega⟩ cl_X5_140 rfl (Nat.le_of_ble_eq_true rfl) (hFr_of (Nat.le_of_ble_eq_true rfl) (Nat.le_of_ble_eq_true rfl)) dX5_work_60 (fun u22 S16 I17 o21 K18 s19 a20 => ?_)
      have m23 : gSm S S16 [38, 39, 40, 41, 42, 44, 45] [25, 26, 27, 28, 29, 30, 31, 32, 33, 34, 35, 36] := gSm.wk s19 _ _ rfl rfl
      have NS16 : sN S16 45 = sN S 45 := s19.n 45 (by decide)
      have ZS16 : sZ S16 43 = sZ S 43 := s19.z 43 (by decide)
      have Pa20 : gPsi S16 = gPsi S := a20.2.2.2 (by decide)
      exact h_vret hC hr o21 rfl rfl ⟨S16, I17, K18, m23, by omega, by omega, by omega⟩ dX5_work_63
    · refine h_aload_n hC dX5_work_26 rfl ?_
      refine h_get hC fl_X5_24 (hi.1.o 7 (by decide)) rfl dX5_work_27 ?_
      refine h_iload_n hC dX5_work_30 rfl ?_
      refine h_iload_n hC dX5_work_31 rfl ?_
      refine h_iload_n hC dX5_work_32 rfl ?_
      refine g_callSNi (As := [.int x, .int y, .int z]) hC (t_holds X.la d b _ x y z) cl_X5_178 rfl rfl (Nat.le_of_ble_eq_true rfl) (h_fit0 hC hr ho (hFr_of (Nat.le_of_ble_eq_true rfl) (Nat.le_of_ble_eq_true rfl))) dX5_work_33 (fun r25 F26 p27 => ?_)
      obtain ⟨er25, eF26⟩ := p27; have eF26 := eF26.symm; subst eF26
      refine h_same hC ho ?_
      refine h_if_eq (tgt := 43) hC dX5_work_36 (by decide) (fun c29 => ?_) (fun c29 => ?_)
      · refine h_iconst (v := 0) hC dX5_work_43 rfl ?_
        refine hi_add (j := 42) hC hr ho hi (by decide) ⟨fun q => absurd q (by decide), fun q => absurd q (by decide), by omega⟩ cl_X5_140 rfl (Nat.le_of_ble_eq_true rfl) (hFr_of (Nat.le_of_ble_eq_true rfl) (Nat.le_of_ble_eq_true rfl)) dX5_work_44 (fun u37 S31 I32 o36 K33 s34 a35 => ?_)
        have m38 : gSm S S31 [38, 39, 40, 41, 42, 44, 45] [25, 26, 27, 28, 29, 30, 31, 32, 33, 34, 35, 36] := gSm.wk s34 _ _ rfl rfl
        have NS31 : sN S31 45 = sN S 45 := s34.n 45 (by decide)
        have ZS31 : sZ S31 43 = sZ S 43 := s34.z 43 (by decide)
        have Pa35 : gPsi S31 = gPsi S := a35.2.2.2 (by decide)
        refine h_goto (tgt := 63) hC dX5_work_47 (by decide) ?_
        exact h_vret hC hr o36 rfl rfl ⟨S31, I32, K33, m38, by omega, by omega, by omega⟩ dX5_work_63
      · refine h_iconst (v := (-1)) hC dX5_work_39 rfl ?_
        refine h_goto (tgt := 44) hC dX5_work_40 (by decide) ?_
        refine hi_add (j := 42) hC hr ho hi (by decide) ⟨fun q => absurd q (by decide), fun q => absurd q (by decide), by omega⟩ cl_X5_140 rfl (Nat.le_of_ble_eq_true rfl) (hFr_of (Nat.le_of_ble_eq_true rfl) (Nat.le_of_ble_eq_true rfl)) dX5_work_44 (fun u47 S41 I42 o46 K43 s44 a45 => ?_)
        have m48 : gSm S S41 [38, 39, 40, 41, 42, 44, 45] [25, 26, 27, 28, 29, 30, 31, 32, 33, 34, 35, 36] := gSm.wk s44 _ _ rfl rfl
        have NS41 : sN S41 45 = sN S 45 := s44.n 45 (by decide)
        have ZS41 : sZ S41 43 = sZ S 43 := s44.z 43 (by decide)
        have Pa45 : gPsi S41 = gPsi S := a45.2.2.2 (by decide)
        refine h_goto (tgt := 63) hC dX5_work_47 (by decide) ?_
        exact h_vret hC hr o46 rfl rfl ⟨S41, I42, K43, m48, by omega, by omega, by omega⟩ dX5_work_63
  · refine h_iload_n hC dX5_work_7 rfl ?_
    refine h_if_ne (tgt := 19) hC dX5_work_8 (by decide) (fun c50 => ?_) (fun c50 => ?_)
    · refine h_iload_n hC dX5_work_19 rfl ?_
      refine g_callSNi (As := [.int x]) hC (t_isRelation X.la d b _ x) cl_X5_185 rfl rfl (Nat.le_of_ble_eq_true rfl) (h_fit0 hC hr ho (hFr_of (Nat.le_of_ble_eq_true rfl) (Nat.le_of_ble_eq_true rfl))) dX5_work_20 (fun r51 F52 p53 => ?_)
      obtain ⟨er51, eF52⟩ := p53; have eF52 := eF52.symm; subst eF52
      refine h_same hC ho ?_
      refine h_if_eq (tgt := 50) hC dX5_work_23 (by decide) (fun c55 => ?_) (fun c55 => ?_)
      · refine h_aload_n hC dX5_work_50 rfl ?_
        refine h_get hC fl_X5_24 (hi.1.o 7 (by decide)) rfl dX5_work_51 ?_
        refine h_iload_n hC dX5_work_54 rfl ?_
        refine h_iload_n hC dX5_work_55 rfl ?_
        refine h_iload_n hC dX5_work_56 rfl ?_
        refine g_callSNi (As := [.int x, .int y, .int z]) hC (t_worked X.la d b _ x y z) cl_X5_188 rfl rfl (Nat.le_of_ble_eq_true rfl) (h_fit0 hC hr ho (hFr_of (Nat.le_of_ble_eq_true rfl) (Nat.le_of_ble_eq_true rfl))) dX5_work_57 (fun r56 F57 p58 => ?_)
        obtain ⟨er56, eF57⟩ := p58; have eF57 := eF57.symm; subst eF57
        refine h_same hC ho ?_
        refine hi_add (j := 42) hC hr ho hi (by decide) ⟨fun q => absurd q (by decide), fun q => absurd q (by decide), by omega⟩ cl_X5_140 rfl (Nat.le_of_ble_eq_true rfl) (hFr_of (Nat.le_of_ble_eq_true rfl) (Nat.le_of_ble_eq_true rfl)) dX5_work_60 (fun u67 S61 I62 o66 K63 s64 a65 => ?_)
        have m68 : gSm S S61 [38, 39, 40, 41, 42, 44, 45] [25, 26, 27, 28, 29, 30, 31, 32, 33, 34, 35, 36] := gSm.wk s64 _ _ rfl rfl
        have NS61 : sN S61 45 = sN S 45 := s64.n 45 (by decide)
        have ZS61 : sZ S61 43 = sZ S 43 := s64.z 43 (by decide)
        have Pa65 : gPsi S61 = gPsi S := a65.2.2.2 (by decide)
        exact h_vret hC hr o66 rfl rfl ⟨S61, I62, K63, m68, by omega, by omega, by omega⟩ dX5_work_63
      · refine h_aload_n hC dX5_work_26 rfl ?_
        refine h_get hC fl_X5_24 (hi.1.o 7 (by decide)) rfl dX5_work_27 ?_
        refine h_iload_n hC dX5_work_30 rfl ?_
        refine h_iload_n hC dX5_work_31 rfl ?_
        refine h_iload_n hC dX5_work_32 rfl ?_
        refine g_callSNi (As := [.int x, .int y, .int z]) hC (t_holds X.la d b _ x y z) cl_X5_178 rfl rfl (Nat.le_of_ble_eq_true rfl) (h_fit0 hC hr ho (hFr_of (Nat.le_of_ble_eq_true rfl) (Nat.le_of_ble_eq_true rfl))) dX5_work_33 (fun r70 F71 p72 => ?_)
        obtain ⟨er70, eF71⟩ := p72; have eF71 := eF71.symm; subst eF71
        refine h_same hC ho ?_
        refine h_if_eq (tgt := 43) hC dX5_work_36 (by decide) (fun c74 => ?_) (fun c74 => ?_)
        · refine h_iconst (v := 0) hC dX5_work_43 rfl ?_
          refine hi_add (j := 42) hC hr ho hi (by decide) ⟨fun q => absurd q (by decide), fun q => absurd q (by decide), by omega⟩ cl_X5_140 rfl (Nat.le_of_ble_eq_true rfl) (hFr_of (Nat.le_of_ble_eq_true rfl) (Nat.le_of_ble_eq_true rfl)) dX5_work_44 (fun u82 S76 I77 o81 K78 s79 a80 => ?_)
          have m83 : gSm S S76 [38, 39, 40, 41, 42, 44, 45] [25, 26, 27, 28, 29, 30, 31, 32, 33, 34, 35, 36] := gSm.wk s79 _ _ rfl rfl
          have NS76 : sN S76 45 = sN S 45 := s79.n 45 (by decide)
          have ZS76 : sZ S76 43 = sZ S 43 := s79.z 43 (by decide)
          have Pa80 : gPsi S76 = gPsi S := a80.2.2.2 (by decide)
          refine h_goto (tgt := 63) hC dX5_work_47 (by decide) ?_
          exact h_vret hC hr o81 rfl rfl ⟨S76, I77, K78, m83, by omega, by omega, by omega⟩ dX5_work_63
        · refine h_iconst (v := (-1)) hC dX5_work_39 rfl ?_
          refine h_goto (tgt := 44) hC dX5_work_40 (by decide) ?_
          refine hi_add (j := 42) hC hr ho hi (by decide) ⟨fun q => absurd q (by decide), fun q => absurd q (by decide), by omega⟩ cl_X5_140 rfl (Nat.le_of_ble_eq_true rfl) (hFr_of (Nat.le_of_ble_eq_true rfl) (Nat.le_of_ble_eq_true rfl)) dX5_work_44 (fun u92 S86 I87 o91 K88 s89 a90 => ?_)
          have m93 : gSm S S86 [38, 39, 40, 41, 42, 44, 45] [25, 26, 27, 28, 29, 30, 31, 32, 33, 34, 35, 36] := gSm.wk s89 _ _ rfl rfl
          have NS86 : sN S86 45 = sN S 45 := s89.n 45 (by decide)
          have ZS86 : sZ S86 43 = sZ S 43 := s89.z 43 (by decide)
          have Pa90 : gPsi S86 = gPsi S := a90.2.2.2 (by decide)
          refine h_goto (tgt := 63) hC dX5_work_47 (by decide) ?_
          exact h_vret hC hr o91 rfl rfl ⟨S86, I87, K88, m93, by omega, by omega, by omega⟩ dX5_work_63
    · refine h_aload_n hC dX5_work_11 rfl ?_
      refine h_iconst (v := 3) hC dX5_work_12 rfl ?_
      refine h_callVv (As := [.int 3]) hC hr ho rfl (hi.1.o 7 (by decide)) (s_M_fail X.la d b Y c _ _ _ hi (by omega) (by omega) 3) cl_X5_137 rfl rfl (Nat.le_of_ble_eq_true rfl) (hFr_of (Nat.le_of_ble_eq_true rfl) (Nat.le_of_ble_eq_true rfl)) dX5_work_13 (fun u95 p96 o97 => ?_)
      obtain ⟨S99, I100, K101, s102, q103⟩ := p96
      have m104 : gSm S S99 [38, 39, 40, 41, 42, 44, 45] [25, 26, 27, 28, 29, 30, 31, 32, 33, 34, 35, 36] := gSm.wk s102 _ _ rfl rfl
      have ZS99 : sZ S99 43 = sZ S 43 := s102.z 43 (by decide)
      obtain ⟨aq103, bq103, nq103⟩ := q103
      refine h_goto (tgt := 63) hC dX5_work_16 (by decide) ?_
      exact h_vret hC hr o97 rfl rfl ⟨S99, I100, K101, m104, by omega, by omega, by omega⟩ dX5_work_63
