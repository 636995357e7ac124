theorem kw_1754 : Cond.methodLink RX5 158 yX4_top ∈ gWs := List.mem_filter.mpr ⟨gMt7 _ (List.mem_of_getElem? (i := 77) rfl), rfl⟩
theorem cl_X5_158 : gCV RX5 158 yX4_top cX4_top 1 (some .int) 0 := ⟨g_mk [.methodLink RX5 158 yX4_top, .instanceMethod yX4_top, .selects yX4_top.cls yX4_top yX4_top, .initialized yX4_top.cls] (gWs_all kw_879) (List.forall_mem_cons.mpr ⟨kw_1754, List.forall_mem_cons.mpr ⟨kw_877, List.forall_mem_cons.mpr ⟨kw_878, List.forall_mem_cons.mpr ⟨kw_239, fun _ h => nomatch h⟩⟩⟩⟩), rfl, by decide +kernel, by decide +kernel, by decide +kernel⟩
theorem kw_1758 : Cond.code yX5_call cX5_call 4 none ∈ gWs := List.mem_filter.mpr ⟨gMt7 _ (List.mem_of_getElem? (i := 81) rfl), rfl⟩
theorem kw_1755 : Cond.methodLink RX5 165 yX5_call ∈ gWs := List.mem_filter.mpr ⟨gMt7 _ (List.mem_of_getElem? (i := 78) rfl), rfl⟩
theorem kw_1757 : Cond.instanceMethod yX5_call ∈ gWs := List.mem_filter.mpr ⟨gMt7 _ (List.mem_of_getElem? (i := 80) rfl), rfl⟩
theorem kw_111 : Cond.selects RX5 yX5_call yX5_call ∈ gWs := gWm 111 (by decide +kernel) rfl
theorem cl_X5_165 : gCV RX5 165 yX5_call cX5_call 4 none 3 := ⟨g_mk [.methodLink RX5 165 yX5_call, .instanceMethod yX5_call, .selects yX5_call.cls yX5_call yX5_call, .initialized yX5_call.cls] (gWs_all kw_1758) (List.forall_mem_cons.mpr ⟨kw_1755, List.forall_mem_cons.mpr ⟨kw_1757, List.forall_mem_cons.mpr ⟨kw_111, List.forall_mem_cons.mpr ⟨kw_255, fun _ h => nomatch h⟩⟩⟩⟩), rfl, by decide +kernel, by decide +kernel, by decide +kernel⟩
theorem kw_1775 : Cond.code yX5_back cX5_back 2 none ∈ gWs := List.mem_filter.mpr ⟨gMt7 _ (List.mem_of_getElem? (i := 98) rfl), rfl⟩
theorem kw_1772 : Cond.methodLink RX5 168 yX5_back ∈ gWs := List.mem_filter.mpr ⟨gMt7 _ (List.mem_of_getElem? (i := 95) rfl), rfl⟩
theorem kw_1774 : Cond.instanceMethod yX5_back ∈ gWs := List.mem_filter.mpr ⟨gMt7 _ (List.mem_of_getElem? (i := 97) rfl), rfl⟩
theorem kw_113 : Cond.selects RX5 yX5_back yX5_back ∈ gWs := gWm 113 (by decide +kernel) rfl
theorem cl_X5_168 : gCV RX5 168 yX5_back cX5_back 2 none 0 := ⟨g_mk [.methodLink RX5 168 yX5_back, .instanceMethod yX5_back, .selects yX5_back.cls yX5_back yX5_back, .initialized yX5_back.cls] (gWs_all kw_1775) (List.forall_mem_cons.mpr ⟨kw_1772, List.forall_mem_cons.mpr ⟨kw_1774, List.forall_mem_cons.mpr ⟨kw_113, List.forall_mem_cons.mpr ⟨kw_255, fun _ h => nomatch h⟩⟩⟩⟩), rfl, by decide +kernel, by decide +kernel, by decide +kernel⟩
theorem kw_1784 : Cond.code yX5_work cX5_work 4 none ∈ gWs := List.mem_filter.mpr ⟨gMt7 _ (List.mem_of_getElem? (i := 107) rfl), rfl⟩
theorem kw_1781 : Cond.methodLink RX5 175 yX5_work ∈ gWs := List.mem_filter.mpr ⟨gMt7 _ (List.mem_of_getElem? (i := 104) rfl), rfl⟩
theorem kw_1783 : Cond.instanceMethod yX5_work ∈ gWs := List.mem_filter.mpr ⟨gMt7 _ (List.mem_of_getElem? (i := 106) rfl), rfl⟩
theorem kw_115 : Cond.selects RX5 yX5_work yX5_work ∈ gWs := gWm 115 (by decide +kernel) rfl
theorem cl_X5_175 : gCV RX5 175 yX5_work cX5_work 4 none 3 := ⟨g_mk [.methodLink RX5 175 yX5_work, .instanceMethod yX5_work, .selects yX5_work.cls yX5_work yX5_work, .initialized yX5_work.cls] (gWs_all kw_1784) (List.forall_mem_cons.mpr ⟨kw_1781, List.forall_mem_cons.mpr ⟨kw_1783, List.forall_mem_cons.mpr ⟨kw_115, List.forall_mem_cons.mpr ⟨kw_255, fun _ h => nomatch h⟩⟩⟩⟩), rfl, by decide +kernel, by decide +kernel, by decide +kernel⟩
theorem kw_1779 : Cond.code yX5_link cX5_link 5 none ∈ gWs := List.mem_filter.mpr ⟨gMt7 _ (List.mem_of_getElem? (i := 102) rfl), rfl⟩
theorem kw_1776 : Cond.methodLink RX5 171 yX5_link ∈ gWs := List.mem_filter.mpr ⟨gMt7 _ (List.mem_of_getElem? (i := 99) rfl), rfl⟩
theorem kw_1778 : Cond.instanceMethod yX5_link ∈ gWs := List.mem_filter.mpr ⟨gMt7 _ (List.mem_of_getElem? (i := 101) rfl), rfl⟩
theorem kw_114 : Cond.selects RX5 yX5_link yX5_link ∈ gWs := gWm 114 (by decide +kernel) rfl
theorem cl_X5_171 : gCV RX5 171 yX5_link cX5_link 5 none 4 := ⟨g_mk [.methodLink RX5 171 yX5_link, .instanceMethod yX5_link, .selects yX5_link.cls yX5_link yX5_link, .initialized yX5_link.cls] (gWs_all kw_1779) (List.forall_mem_cons.mpr ⟨kw_1776, List.forall_mem_cons.mpr ⟨kw_1778, List.forall_mem_cons.mpr ⟨kw_114, List.forall_mem_cons.mpr ⟨kw_255, fun _ h => nomatch h⟩⟩⟩⟩), rfl, by decide +kernel, by decide +kernel, by decide +kernel⟩
theorem dX5_turn_0 : decode cX5_turn 0 = .ok (.iload_n 1, 1) := by decide +kernel
theorem dX5_turn_1 : decode cX5_turn 1 = .ok (.tableswitch 191 14 21 #[47, 55, 80, 105, 140, 148, 175, 182], 47) := by decide +kernel
theorem dX5_turn_48 : decode cX5_turn 48 = .ok (.aload_n 0, 1) := by decide +kernel
theorem dX5_turn_49 : decode cX5_turn 49 = .ok (.iload_n 2, 1) := by decide +kernel
theorem dX5_turn_50 : decode cX5_turn 50 = .ok (.putfield 39, 3) := by decide +kernel
theorem dX5_turn_53 : decode cX5_turn 53 = .ok (.goto 190, 3) := by decide +kernel
theorem dX5_turn_56 : decode cX5_turn 56 = .ok (.aload_n 0, 1) := by decide +kernel
theorem dX5_turn_57 : decode cX5_turn 57 = .ok (.aload_n 0, 1) := by decide +kernel
theorem dX5_turn_58 : decode cX5_turn 58 = .ok (.getfield 24, 3) := by decide +kernel
theorem dX5_turn_61 : decode cX5_turn 61 = .ok (.invokevirtual 146, 3) := by decide +kernel
theorem dX5_turn_64 : decode cX5_turn 64 = .ok (.ifCond .ne 7, 3) := by decide +kernel
theorem dX5_turn_67 : decode cX5_turn 67 = .ok (.iload_n 2, 1) := by decide +kernel
theorem dX5_turn_68 : decode cX5_turn 68 = .ok (.goto 7, 3) := by decide +kernel
theorem dX5_turn_71 : decode cX5_turn 71 = .ok (.aload_n 0, 1) := by decide +kernel
theorem dX5_turn_72 : decode cX5_turn 72 = .ok (.getfield 39, 3) := by decide +kernel
theorem dX5_turn_75 : decode cX5_turn 75 = .ok (.putfield 39, 3) := by decide +kernel
theorem dX5_turn_78 : decode cX5_turn 78 = .ok (.goto 165, 3) := by decide +kernel
theorem dX5_turn_81 : decode cX5_turn 81 = .ok (.aload_n 0, 1) := by decide +kernel
theorem dX5_turn_82 : decode cX5_turn 82 = .ok (.aload_n 0, 1) := by decide +kernel
theorem dX5_turn_83 : decode cX5_turn 83 = .ok (.getfield 24, 3) := by decide +kernel
theorem dX5_turn_86 : decode cX5_turn 86 = .ok (.invokevirtual 146, 3) := by decide +kernel
theorem dX5_turn_89 : decode cX5_turn 89 = .ok (.ifCond .eq 7, 3) := by decide +kernel
theorem dX5_turn_92 : decode cX5_turn 92 = .ok (.iload_n 2, 1) := by decide +kernel
theorem dX5_turn_93 : decode cX5_turn 93 = .ok (.goto 7, 3) := by decide +kernel
theorem dX5_turn_96 : decode cX5_turn 96 = .ok (.aload_n 0, 1) := by decide +kernel
theorem dX5_turn_97 : decode cX5_turn 97 = .ok (.getfield 39, 3) := by decide +kernel
theorem dX5_turn_100 : decode cX5_turn 100 = .ok (.putfield 39, 3) := by decide +kernel
theorem dX5_turn_103 : decode cX5_turn 103 = .ok (.goto 140, 3) := by decide +kernel
theorem dX5_turn_106 : decode cX5_turn 106 = .ok (.aload_n 0, 1) := by decide +kernel
theorem dX5_turn_107 : decode cX5_turn 107 = .ok (.getfield 24, 3) := by decide +kernel
theorem dX5_turn_110 : decode cX5_turn 110 = .ok (.invokevirtual 158, 3) := by decide +kernel
theorem dX5_turn_113 : decode cX5_turn 113 = .ok (.iload_n 2, 1) := by decide +kernel
theorem dX5_turn_114 : decode cX5_turn 114 = .ok (.if_icmp .ne 14, 3) := by decide +kernel
theorem dX5_turn_117 : decode cX5_turn 117 = .ok (.aload_n 0, 1) := by decide +kernel
theorem dX5_turn_118 : decode cX5_turn 118 = .ok (.getfield 24, 3) := by decide +kernel
theorem dX5_turn_121 : decode cX5_turn 121 = .ok (.invokevirtual 146, 3) := by decide +kernel
theorem dX5_turn_124 : decode cX5_turn 124 = .ok (.pop, 1) := by decide +kernel
theorem dX5_turn_125 : decode cX5_turn 125 = .ok (.goto 118, 3) := by decide +kernel
theorem dX5_turn_128 : decode cX5_turn 128 = .ok (.aload_n 0, 1) := by decide +kernel
theorem dX5_turn_129 : decode cX5_turn 129 = .ok (.dup, 1) := by decide +kernel
theorem dX5_turn_130 : decode cX5_turn 130 = .ok (.getfield 39, 3) := by decide +kernel
theorem dX5_turn_133 : decode cX5_turn 133 = .ok (.iconst 2, 1) := by decide +kernel
theorem dX5_turn_134 : decode cX5_turn 134 = .ok (.iadd, 1) := by decide +kernel
theorem dX5_turn_135 : decode cX5_turn 135 = .ok (.putfield 39, 3) := by decide +kernel
theorem dX5_turn_138 : decode cX5_turn 138 = .ok (.goto 105, 3) := by decide +kernel
theorem dX5_turn_141 : decode cX5_turn 141 = .ok (.aload_n 0, 1) := by decide +kernel
theorem dX5_turn_142 : decode cX5_turn 142 = .ok (.invokevirtual 161, 3) := by decide +kernel
theorem dX5_turn_145 : decode cX5_turn 145 = .ok (.pop, 1) := by decide +kernel
theorem dX5_turn_146 : decode cX5_turn 146 = .ok (.goto 97, 3) := by decide +kernel
theorem dX5_turn_149 : decode cX5_turn 149 = .ok (.aload_n 0, 1) := by decide +kernel
theorem dX5_turn_150 : decode cX5_turn 150 = .ok (.aload_n 0, 1) := by decide +kernel
theorem dX5_turn_151 : decode cX5_turn 151 = .ok (.getfield 24, 3) := by decide +kernel
theorem dX5_turn_154 : decode cX5_turn 154 = .ok (.invokevirtual 146, 3) := by decide +kernel
theorem dX5_turn_157 : decode cX5_turn 157 = .ok (.iload_n 2, 1) := by decide +kernel
theorem dX5_turn_158 : decode cX5_turn 158 = .ok (.bipush 32, 2) := by decide +kernel
theorem dX5_turn_160 : decode cX5_turn 160 = .ok (.irem, 1) := by decide +kernel
theorem dX5_turn_161 : decode cX5_turn 161 = .ok (.aload_n 0, 1) := by decide +kernel
theorem dX5_turn_162 : decode cX5_turn 162 = .ok (.getfield 42, 3) := by decide +kernel
theorem dX5_turn_165 : decode cX5_turn 165 = .ok (.iload_n 2, 1) := by decide +kernel
theorem dX5_turn_166 : decode cX5_turn 166 = .ok (.bipush 32, 2) := by decide +kernel
theorem dX5_turn_168 : decode cX5_turn 168 = .ok (.idiv, 1) := by decide +kernel
theorem dX5_turn_169 : decode cX5_turn 169 = .ok (.iadd, 1) := by decide +kernel
theorem dX5_turn_170 : decode cX5_turn 170 = .ok (.invokevirtual 165, 3) := by decide +kernel
theorem dX5_turn_173 : decode cX5_turn 173 = .ok (.goto 70, 3) := by decide +kernel
theorem dX5_turn_176 : decode cX5_turn 176 = .ok (.aload_n 0, 1) := by decide +kernel
theorem dX5_turn_177 : decode cX5_turn 177 = .ok (.invokevirtual 168, 3) := by decide +kernel
theorem dX5_turn_180 : decode cX5_turn 180 = .ok (.goto 63, 3) := by decide +kernel
theorem dX5_turn_183 : decode cX5_turn 183 = .ok (.aload_n 0, 1) := by decide +kernel
theorem dX5_turn_184 : decode cX5_turn 184 = .ok (.iconst 0, 1) := by decide +kernel
theorem dX5_turn_185 : decode cX5_turn 185 = .ok (.iconst 0, 1) := by decide +kernel
theorem dX5_turn_186 : decode cX5_turn 186 = .ok (.invokevirtual 155, 3) := by decide +kernel
theorem dX5_turn_189 : decode cX5_turn 189 = .ok (.goto 54, 3) := by decide +kernel
theorem dX5_turn_192 : decode cX5_turn 192 = .ok (.aload_n 0, 1) := by decide +kernel
theorem dX5_turn_193 : decode cX5_turn 193 = .ok (.getfield 24, 3) := by decide +kernel
theorem dX5_turn_196 : decode cX5_turn 196 = .ok (.invokevirtual 146, 3) := by decide +kernel
theorem dX5_turn_199 : decode cX5_turn 199 = .ok (.istore_n 3, 1) := by decide +kernel
theorem dX5_turn_200 : decode cX5_turn 200 = .ok (.aload_n 0, 1) := by decide +kernel
theorem dX5_turn_201 : decode cX5_turn 201 = .ok (.getfield 24, 3) := by decide +kernel
theorem dX5_turn_204 : decode cX5_turn 204 = .ok (.invokevirtual 146, 3) := by decide +kernel
theorem dX5_turn_207 : decode cX5_turn 207 = .ok (.istore 4, 2) := by decide +kernel
theorem dX5_turn_209 : decode cX5_turn 209 = .ok (.iload_n 1, 1) := by decide +kernel
theorem dX5_turn_210 : decode cX5_turn 210 = .ok (.sipush 200, 3) := by decide +kernel
theorem dX5_turn_213 : decode cX5_turn 213 = .ok (.if_icmp .le 19, 3) := by decide +kernel
theorem dX5_turn_216 : decode cX5_turn 216 = .ok (.aload_n 0, 1) := by decide +kernel
theorem dX5_turn_217 : decode cX5_turn 217 = .ok (.iload_n 1, 1) := by decide +kernel
theorem dX5_turn_218 : decode cX5_turn 218 = .ok (.sipush 200, 3) := by decide +kernel
theorem dX5_turn_221 : decode cX5_turn 221 = .ok (.isub, 1) := by decide +kernel
theorem dX5_turn_222 : decode cX5_turn 222 = .ok (.iload 4, 2) := by decide +kernel
theorem dX5_turn_224 : decode cX5_turn 224 = .ok (.iload_n 3, 1) := by decide +kernel
theorem dX5_turn_225 : decode cX5_turn 225 = .ok (.iload_n 2, 1) := by decide +kernel
theorem dX5_turn_226 : decode cX5_turn 226 = .ok (.invokevirtual 171, 3) := by decide +kernel
theorem dX5_turn_229 : decode cX5_turn 229 = .ok (.goto 14, 3) := by decide +kernel
theorem dX5_turn_232 : decode cX5_turn 232 = .ok (.aload_n 0, 1) := by decide +kernel
theorem dX5_turn_233 : decode cX5_turn 233 = .ok (.iload_n 1, 1) := by decide +kernel
theorem dX5_turn_234 : decode cX5_turn 234 = .ok (.bipush 100, 2) := by decide +kernel
theorem dX5_turn_236 : decode cX5_turn 236 = .ok (.isub, 1) := by decide +kernel
theorem dX5_turn_237 : decode cX5_turn 237 = .ok (.iload 4, 2) := by decide +kernel
theorem dX5_turn_239 : decode cX5_turn 239 = .ok (.iload_n 3, 1) := by decide +kernel
theorem dX5_turn_240 : decode cX5_turn 240 = .ok (.invokevirtual 175, 3) := by decide +kernel
theorem dX5_turn_243 : decode cX5_turn 243 = .ok (.return_, 1) := by decide +kernel
set_option maxHeartbeats 4000000 in
set_option maxRecDepth 100000 in
theorem s_M_turn (l : Launch) (d : gD) (b : Nat) (Y : gYt) (c : Nat × Nat) (F : gM) (k n : Nat) {S : gSt} (hi : hI d b Y c (F, k, n) S) (hA : gPsi S ≤ gAm) (h43 : sZ S 43 ≤ 404) (x y : Int32) : hMv l d b yX5_turn cX5_turn 5 8 k n F [.ref (gO' Y 7), .int x, .int y] (fun u => ∃ S', hI d b Y c u S' ∧ gKp Y F u.1 ∧ gSm S S' [38, 39, 40, 41, 42, 43, 44, 45] [25, 26, 27, 28, 29, 30, 31, 32, 33, 34, 35, 36] ∧ sZ S' 43 ≤ 404 ∧ gPsi S' ≤ gPsi S ∧ sN S' 45 = sN S 45) := by
  intro mc ms
  refine hM_of2 rfl (nL := 5) (Nat.le_of_ble_eq_true rfl) ?_
  intro X hX hC hr ho; subst hX
  show hG X d b _ F k n 0 [some (.ref (gO' Y 7)), some (.int x), some (.int y), none, none] []
  refine h_iload_n hC dX5_turn_0 rfl ?_
  have T1 : hG X d b (MQ X.be (va_Qv (fun u => ∃ S', hI d b Y c u S' ∧ gKp Y F u.1 ∧ gSm S S' [38, 39, 40, 41, 42, 43, 44, 45] [25, 26, 27, 28, 29, 30, 31, 32, 33, 34, 35, 36] ∧ sZ S' 43 ≤ 404 ∧ gPsi S' ≤ gPsi S ∧ sN S' 45 = sN S 45) (hB d b) (fun q => b ≤ q)) X.ar X.st mc ms (fun q => b ≤ q)) F k n 48 [some (.ref (gO' Y 7)), some (.int x), some (.int y), none, none] [] := by
    refine h_aload_n hC dX5_turn_48 rfl ?_
    refine h_iload_n hC dX5_turn_49 rfl ?_
    refine hi_putx (i := 7) (kx := 28) hC hi (by decide) fl_X5_39 rfl rfl rfl (Nat.le_of_ble_eq_true rfl) rfl gsame_28 (fun q => absurd q (by decide)) dX5_turn_50 (fun F2 S3 I4 K5 s6 v7 p8 => ?_)
    have m9 : gSm S S3 [38, 39, 40, 41, 42, 43, 44, 45] [25, 26, 27, 28, 29, 30, 31, 32, 33, 34, 35, 36] := gSm.wk s6 _ _ rfl rfl
    have NS3 : sN S3 45 = sN S 45 := s6.n 45 (by decide)
    have ZS3 : sZ S3 43 = sZ S 43 := s6.z 43 (by decide)
    refine h_goto (tgt := 243) hC dX5_turn_53 (by decide) ?_
    exact h_vret hC hr ho rfl rfl ⟨S3, I4, K5, m9, by omega, by omega, by omega⟩ dX5_turn_243
  have T11 : hG X d b (MQ X.be (va_Qv (fun u => ∃ S', hI d b Y c u S' ∧ gKp Y F u.1 ∧ gSm S S' [38, 39, 40, 41, 42, 43, 44, 45] [25, 26, 27, 28, 29, 30, 31, 32, 33, 34, 35, 36] ∧ sZ S' 43 ≤ 404 ∧ gPsi S' ≤ gPsi S ∧ sN S' 45 = sN S 45) (hB d b) (fun q => b ≤ q)) X.ar X.st mc ms (fun q => b ≤ q)) F k n 56 [some (.ref (gO' Y 7)), some (.int x), some (.int y), none, none] [] := by
    refine h_aload_n hC dX5_turn_56 rfl ?_
    refine h_aload_n hC dX5_turn_57 rfl ?_
    refine h_get hC fl_X5_24 (hi.1.o 7 (by decide)) rfl dX5_turn_58 ?_
    refine hi_pop (j := 42) hC hr ho hi (by decide) cl_X5_146 rfl (Nat.le_of_ble_eq_true rfl) (hFr_of (Nat.le_of_ble_eq_true rfl) (Nat.le_of_ble_eq_true rfl)) dX5_turn_61 (fun r18 F12 S13 I14 K15 s16 a17 => ?_)
    have m19 : gSm S S13 [38, 39, 40, 41, 42, 43, 44, 45] [25, 26, 27, 28, 29, 30, 31, 32, 33, 34, 35, 36] := gSm.wk s16 _ _ rfl rfl
    have NS13 : sN S13 45 = sN S 45 := s16.n 45 (by decide)
    have ZS13 : sZ S13 43 = sZ S 43 := s16.z 43 (by decide)
    have Pa17 : gPsi S13 ≤ gPsi S := a17.2.2.2.2.2
    refine h_if_ne (tgt := 71) hC dX5_turn_64 (by decide) (fun c21 => ?_) (fun c21 => ?_)
    · refine h_aload_n hC dX5_turn_71 rfl ?_
      refine h_get hC fl_X5_39 (I14.1.o 7 (by decide)) rfl dX5_turn_72 ?_
      refine hi_putx (i := 7) (kx := 28) hC I14 (by decide) fl_X5_39 rfl rfl rfl (Nat.le_of_ble_eq_true rfl) rfl gsame_28 (fun q => absurd q (by decide)) dX5_turn_75 (fun F22 S23 I24 K25 s26 v27 p28 => ?_)
      have m29 : gSm S S23 [38, 39, 40, 41, 42, 43, 44, 45] [25, 26, 27, 28, 29, 30, 31, 32, 33, 34, 35, 36] := m19.tr s26 _ _ rfl rfl
      have K30 := K15.tr K25
      have NS23 : sN S23 45 = sN S13 45 := s26.n 45 (by decide)
      have ZS23 : sZ S23 43 = sZ S13 43 := s26.z 43 (by decide)
      refine h_goto (tgt := 243) hC dX5_turn_78 (by decide) ?_
      exact h_vret hC hr ho rfl rfl ⟨S23, I24, K30, m29, by omega, by omega, by omega⟩ dX5_turn_243
    · refine h_iload_n hC dX5_turn_67 rfl ?_
      refine h_goto (tgt := 75) hC dX5_turn_68 (by decide) ?_
      refine hi_putx (i := 7) (kx := 28) hC I14 (by decide) fl_X5_39 rfl rfl rfl (Nat.le_of_ble_eq_true rfl) rfl gsame_28 (fun q => absurd q (by decide)) dX5_turn_75 (fun F31 S32 I33 K34 s35 v36 p37 => ?_)
      have m38 : gSm S S32 [38, 39, 40, 41, 42, 43, 44, 45] [25, 26, 27, 28, 29, 30, 31, 32, 33, 34, 35, 36] := m19.tr s35 _ _ rfl rfl
      have K39 := K15.tr K34
      have NS32 : sN S32 45 = sN S13 45 := s35.n 45 (by decide)
      have ZS32 : sZ S32 43 = sZ S13 43 := s35.z 43 (by decide)
      refine h_goto (tgt := 243) hC dX5_turn_78 (by decide) ?_
      exact h_vret hC hr ho rfl rfl ⟨S32, I33, K39, m38, by omega, by omega, by omega⟩ dX5_turn_243
  have T40 : hG X d b (MQ X.be (va_Qv (fun u => ∃ S', hI d b Y c u S' ∧ gKp Y F u.1 ∧ gSm S S' [38, 39, 40, 41, 42, 43, 44, 45] [25, 26, 27, 28, 29, 30, 31, 32, 33, 34, 35, 36] ∧ sZ S' 43 ≤ 404 ∧ gPsi S' ≤ gPsi S ∧ sN S' 45 = sN S 45) (hB d b) (fun q => b ≤ q)) X.ar X.st mc ms (fun q => b ≤ q)) F k n 81 [some (.ref (gO' Y 7)), some (.int x), some (.int y), none, none] [] := by
    refine h_aload_n hC dX5_turn_81 rfl ?_
    refine h_aload_n hC dX5_turn_82 rfl ?_
    refine h_get hC fl_X5_24 (hi.1.o 7 (by decide)) rfl dX5_turn_83 ?_
    refine hi_pop (j := 42) hC hr ho hi (by decide) cl_X5_146 rfl (Nat.le_of_ble_eq_true rfl) (hFr_of (Nat.le_of_ble_eq_true rfl) (Nat.le_of_ble_eq_true rfl)) dX5_turn_86 (fun r47 F41 S42 I43 K44 s45 a46 => ?_)
    have m48 : gSm S S42 [38, 39, 40, 41, 42, 43, 44, 45] [25, 26, 27, 28, 29, 30, 31, 32, 33, 34, 35, 36] := gSm.wk s45 _ _ rfl rfl
    have NS42 : sN S42 45 = sN S 45 := s45.n 45 (by decide)
    have ZS42 : sZ S42 43 = sZ S 43 := s45.z 43 (by decide)
    have Pa46 : gPsi S42 ≤ gPsi S := a46.2.2.2.2.2
    refine h_if_eq (tgt := 96) hC dX5_turn_89 (by decide) (fun c50 => ?_) (fun c50 => ?_)
    · refine h_aload_n hC dX5_turn_96 rfl ?_
      refine h_get hC fl_X5_39 (I43.1.o 7 (by decide)) rfl dX5_turn_97 ?_
      refine hi_putx (i := 7) (kx := 28) hC I43 (by decide) fl_X5_39 rfl rfl rfl (Nat.le_of_ble_eq_true rfl) rfl gsame_28 (fun q => absurd q (by decide)) dX5_turn_100 (fun F51 S52 I53 K54 s55 v56 p57 => ?_)
      have m58 : gSm S S52 [38, 39, 40, 41, 42, 43, 44, 45] [25, 26, 27, 28, 29, 30, 31, 32, 33, 34, 35, 36] := m48.tr s55 _ _ rfl rfl
      have K59 := K44.tr K54
      have NS52 : sN S52 45 = sN S42 45 := s55.n 45 (by decide)
      have ZS52 : sZ S52 43 = sZ S42 43 := s55.z 43 (by decide)
      refine h_goto (tgt := 243) hC dX5_turn_103 (by decide) ?_
      exact h_vret hC hr ho rfl rfl ⟨S52, I53, K59, m58, by omega, by omega, by omega⟩ dX5_turn_243
    · refine h_iload_n hC dX5_turn_92 rfl ?_
      refine h_goto (tgt := 100) hC dX5_turn_93 (by decide) ?_
      refine hi_putx (i := 7) (kx := 28) hC I43 (by decide) fl_X5_39 rfl rfl rfl (Nat.le_of_ble_eq_true rfl) rfl gsame_28 (fun q => absurd q (by decide)) dX5_turn_100 (fun F60 S61 I62 K63 s64 v65 p66 => ?_)
      have m67 : gSm S S61 [38, 39, 40, 41, 42, 43, 44, 45] [25, 26, 27, 28, 29, 30, 31, 32, 33, 34, 35, 36] := m48.tr s64 _ _ rfl rfl
      have K68 := K44.tr K63
      have NS61 : sN S61 45 = sN S42 45 := s64.n 45 (by decide)
      have ZS61 : sZ S61 43 = sZ S42 43 := s64.z 43 (by decide)
      refine h_goto (tgt := 243) hC dX5_turn_103 (by decide) ?_
      exact h_vret hC hr ho rfl rfl ⟨S61, I62, K68, m67, by omega, by omega, by omega⟩ dX5_turn_243
  have T69 : hG X d b (MQ X.be (va_Qv (fun u => ∃ S', hI d b Y c u S' ∧ gKp Y F u.1 ∧ gSm S S' [38, 39, 40, 41, 42, 43, 44, 45] [25, 26, 27, 28, 29, 30, 31, 32, 33, 34, 35, 36] ∧ sZ S' 43 ≤ 404 ∧ gPsi S' ≤ gPsi S ∧ sN S' 45 = sN S 45) (hB d b) (fun q => b ≤ q)) X.ar X.st mc ms (fun q => b ≤ q)) F k n 106 [some (.ref (gO' Y 7)), some (.int x), some (.int y), none, none] [] := by
    refine h_aload_n hC dX5_turn_106 rfl ?_
    refine h_get hC fl_X5_24 (hi.1.o 7 (by decide)) rfl dX5_turn_107 ?_
    refine hi_top (j := 42) hC hr ho hi.1 (by decide) cl_X5_158 rfl (Nat.le_of_ble_eq_true rfl) (hFr_of (Nat.le_of_ble_eq_true rfl) (Nat.le_of_ble_eq_true rfl)) dX5_turn_110 ?_
    refine h_vi (fun x70 ex70 => ?_)
    refine h_iload_n hC dX5_turn_113 rfl ?_
    refine h_icmp_ne (tgt := 128) hC dX5_turn_114 (by decide) (fun c71 => ?_) (fun c71 => ?_)
    · refine h_aload_n hC dX5_turn_128 rfl ?_
      refine h_dup hC dX5_turn_129 rfl ?_
      refine h_get hC fl_X5_39 (hi.1.o 7 (by decide)) rfl dX5_turn_130 ?_
      refine h_iconst (v := 2) hC dX5_turn_133 rfl ?_
      refine h_iadd hC dX5_turn_134 ?_
      refine h_vi (fun x72 ex72 => ?_)
      refine hi_putx (i := 7) (kx := 28) hC hi (by decide) fl_X5_39 rfl rfl rfl (Nat.le_of_ble_eq_true rfl) rfl gsame_28 (fun q => absurd q (by decide)) dX5_turn_135 (fun F73 S74 I75 K76 s77 v78 p79 => ?_)
      have m80 : gSm S S74 [38, 39, 40, 41, 42, 43, 44, 45] [25, 26, 27, 28, 29, 30, 31, 32, 33, 34, 35, 36] := gSm.wk s77 _ _ rfl rfl
      have NS74 : sN S74 45 = sN S 45 := s77.n 45 (by decide)
      have ZS74 : sZ S74 43 = sZ S 43 := s77.z 43 (by decide)
      refine h_goto (tgt := 243) hC dX5_turn_138 (by decide) ?_
      exact h_vret hC hr ho rfl rfl ⟨S74, I75, K76, m80, by omega, by omega, by omega⟩ dX5_turn_243
    · refine h_aload_n hC dX5_turn_117 rfl ?_
      refine h_get hC fl_X5_24 (hi.1.o 7 (by decide)) rfl dX5_turn_118 ?_
      refine hi_pop (j := 42) hC hr ho hi (by decide) cl_X5_146 rfl (Nat.le_of_ble_eq_true rfl) (hFr_of (Nat.le_of_ble_eq_true rfl) (Nat.le_of_ble_eq_true rfl)) dX5_turn_121 (fun r88 F82 S83 I84 K85 s86 a87 => ?_)
      have m89 : gSm S S83 [38, 39, 40, 41, 42, 43, 44, 45] [25, 26, 27, 28, 29, 30, 31, 32, 33, 34, 35, 36] := gSm.wk s86 _ _ rfl rfl
      have NS83 : sN S83 45 = sN S 45 := s86.n 45 (by decide)
      have ZS83 : sZ S83 43 = sZ S 43 := s86.z 43 (by decide)
      have Pa87 : gPsi S83 ≤ gPsi S := a87.2.2.2.2.2
      refine h_pop hC dX5_turn_124 rfl ?_
      refine h_goto (tgt := 243) hC dX5_turn_125 (by decide) ?_
      exact h_vret hC hr ho rfl rfl ⟨S83, I84, K85, m89, by omega, by omega, by omega⟩ dX5_turn_243
  have T91 : hG X d b (MQ X.be (va_Qv (fun u => ∃ S', hI d b Y c u S' ∧ gKp Y F u.1 ∧ gSm S S' [38, 39, 40, 41, 42, 43, 44, 45] [25, 26, 27, 28, 29, 30, 31, 32, 33, 34, 35, 36] ∧ sZ S' 43 ≤ 404 ∧ gPsi S' ≤ gPsi S ∧ sN S' 45 = sN S 45) (hB d b) (fun q => b ≤ q)) X.ar X.st mc ms (fun q => b ≤ q)) F k n 141 [some (.ref (gO' Y 7)), some (.int x), some (.int y), none, none] [] := by
    refine h_aload_n hC dX5_turn_141 rfl ?_
    refine h_callVi (As := []) hC hr ho rfl (hi.1.o 7 (by decide)) (s_M_burns X.la d b Y c _ _ _ hi (by omega) (by omega)) cl_X5_161 rfl rfl (Nat.le_of_ble_eq_true rfl) (hFr_of (Nat.le_of_ble_eq_true rfl) (Nat.le_of_ble_eq_true rfl)) dX5_turn_142 (fun r95 u92 p93 o94 => ?_)
    obtain ⟨S96, I97, K98, s99, q100⟩ := p93
    have m101 : gSm S S96 [38, 39, 40, 41, 42, 43, 44, 45] [25, 26, 27, 28, 29, 30, 31, 32, 33, 34, 35, 36] := gSm.wk s99 _ _ rfl rfl
    have ZS96 : sZ S96 43 = sZ S 43 := s99.z 43 (by decide)
    obtain ⟨aq100, bq100, nq100, dq100⟩ := q100
    refine h_pop hC dX5_turn_145 rfl ?_
    refine h_goto (tgt := 243) hC dX5_turn_146 (by decide) ?_
    exact h_vret hC hr o94 rfl rfl ⟨S96, I97, K98, m101, by omega, by omega, by omega⟩ dX5_turn_243
  have T103 : hG X d b (MQ X.be (va_Qv (fun u => ∃ S', hI d b Y c u S' ∧ gKp Y F u.1 ∧ gSm S S' [38, 39, 40, 41, 42, 43, 44, 45] [25, 26, 27, 28, 29, 30, 31, 32, 33, 34, 35, 36] ∧ sZ S' 43 ≤ 404 ∧ gPsi S' ≤ gPsi S ∧ sN S' 45 = sN S 45) (hB d b) (fun q => b ≤ q)) X.ar X.st mc ms (fun q => b ≤ q)) F k n 149 [some (.ref (gO' Y 7)), some (.int x), some (.int y), none, none] [] := by
    refine h_aload_n hC dX5_turn_149 rfl ?_
    refine h_aload_n hC dX5_turn_150 rfl ?_
    refine h_get hC fl_X5_24 (hi.1.o 7 (by decide)) rfl dX5_turn_151 ?_
    refine hi_pop (j := 42) hC hr ho hi (by decide) cl_X5_146 rfl (Nat.le_of_ble_eq_true rfl) (hFr_of (Nat.le_of_ble_eq_true rfl) (Nat.le_of_ble_eq_true rfl)) dX5_turn_154 (fun r110 F104 S105 I106 K107 s108 a109 => ?_)
    have m111 : gSm S S105 [38, 39, 40, 41, 42, 43, 44, 45] [25, 26, 27, 28, 29, 30, 31, 32, 33, 34, 35, 36] := gSm.wk s108 _ _ rfl rfl
    have NS105 : sN S105 45 = sN S 45 := s108.n 45 (by decide)
    have ZS105 : sZ S105 43 = sZ S 43 := s108.z 43 (by decide)
    have Pa109 : gPsi S105 ≤ gPsi S := a109.2.2.2.2.2
    refine h_iload_n hC dX5_turn_157 rfl ?_
    refine h_bipush (v := 32) hC dX5_turn_158 rfl ?_
    refine h_irem hC dX5_turn_160 (by decide) ?_
    refine h_vi (fun x113 ex113 => ?_)
    refine h_aload_n hC dX5_turn_161 rfl ?_
    refine h_get hC fl_X5_42 (I106.1.o 7 (by decide)) rfl dX5_turn_162 ?_
    refine h_iload_n hC dX5_turn_165 rfl ?_
    refine h_bipush (v := 32) hC dX5_turn_166 rfl ?_
    refine h_idiv hC dX5_turn_168 (by decide) ?_
    refine h_vi (fun x114 ex114 => ?_)
    refine h_iadd hC dX5_turn_169 ?_
    refine h_vi (fun x115 ex115 => ?_)
    refine h_callVv (As := [.int r110, .int x113, .int x115]) hC hr ho rfl (I106.1.o 7 (by decide)) (s_M_call X.la d b Y c _ _ _ I106 (by omega) (by omega) r110 x113 x115) cl_X5_165 rfl rfl (Nat.le_of_ble_eq_true rfl) (hFr_of (Nat.le_of_ble_eq_true rfl) (Nat.le_of_ble_eq_true rfl)) dX5_turn_170 (fun u116 p117 o118 => ?_)
    obtain ⟨S120, I121, K122, s123, q124⟩ := p117
    have m125 : gSm S S120 [38, 39, 40, 41, 42, 43, 44, 45] [25, 26, 27, 28, 29, 30, 31, 32, 33, 34, 35, 36] := m111.tr s123 _ _ rfl rfl
    have K126 := K107.tr K122
    obtain ⟨aq124, bq124, nq124⟩ := q124
    refine h_goto (tgt := 243) hC dX5_turn_173 (by decide) ?_
    exact h_vret hC hr o118 rfl rfl ⟨S120, I121, K126, m125, by omega, by omega, by omega⟩ dX5_turn_243
  have T127 : hG X d b (MQ X.be (va_Qv (fun u => ∃ S', hI d b Y c u S' ∧ gKp Y F u.1 ∧ gSm S S' [38, 39, 40, 41, 42, 43, 44, 45] [25, 26, 27, 28, 29, 30, 31, 32, 33, 34, 35, 36] ∧ sZ S' 43 ≤ 404 ∧ gPsi S' ≤ gPsi S ∧ sN S' 45 = sN S 45) (hB d b) (fun q => b ≤ q)) X.ar X.st mc ms (fun q => b ≤ q)) F k n 176 [some (.ref (gO' Y 7)), some (.int x), some (.int y), none, none] [] := by
    refine h_aload_n hC dX5_turn_176 rfl ?_
    refine h_callVv (As := []) hC hr ho rfl (hi.1.o 7 (by decide)) (s_M_back X.la d b Y c _ _ _ hi (by omega) (by omega) ) cl_X5_168 rfl rfl (Nat.le_of_ble_eq_true rfl) (hFr_of (Nat.le_of_ble_eq_true rfl) (Nat.le_of_ble_eq_true rfl)) dX5_turn_177 (fun u128 p129 o130 => ?_)
    obtain ⟨S132, I133, K134, s135, q136⟩ := p129
    have m137 : gSm S S132 [38, 39, 40, 41, 42, 43, 44, 45] [25, 26, 27, 28, 29, 30, 31, 32, 33, 34, 35, 36] := gSm.wk s135 _ _ rfl rfl
    obtain ⟨aq136, bq136, nq136⟩ := q136
    refine h_goto (tgt := 243) hC dX5_turn_180 (by decide) ?_
    exact h_vret hC hr o130 rfl rfl ⟨S132, I133, K134, m137, by omega, by omega, by omega⟩ dX5_turn_243
  have T139 : hG X d b (MQ X.be (va_Qv (fun u => ∃ S', hI d b Y c u S' ∧ gKp Y F u.1 ∧ gSm S S' [38, 39, 40, 41, 42, 43, 44, 45] [25, 26, 27, 28, 29, 30, 31, 32, 33, 34, 35, 36] ∧ sZ S' 43 ≤ 404 ∧ gPsi S' ≤ gPsi S ∧ sN S' 45 = sN S 45) (hB d b) (fun q => b ≤ q)) X.ar X.st mc ms (fun q => b ≤ q)) F k n 183 [some (.ref (gO' Y 7)), some (.int x), some (.int y), none, none] [] := by
    refine h_aload_n hC dX5_turn_183 rfl ?_
    refine h_iconst (v := 0) hC dX5_turn_184 rfl ?_
    refine h_iconst (v := 0) hC dX5_turn_185 rfl ?_
    refine h_callVv (As := [.int 0, .int 0]) hC hr ho rfl (hi.1.o 7 (by decide)) (s_M_finish X.la d b Y c _ _ _ hi (by omega) (by omega) 0 0) cl_X5_155 rfl rfl (Nat.le_of_ble_eq_true rfl) (hFr_of (Nat.le_of_ble_eq_true rfl) (Nat.le_of_ble_eq_true rfl)) dX5_turn_186 (fun u140 p141 o142 => ?_)
    obtain ⟨S144, I145, K146, s147, q148⟩ := p141
    have m149 : gSm S S144 [38, 39, 40, 41, 42, 43, 44, 45] [25, 26, 27, 28, 29, 30, 31, 32, 33, 34, 35, 36] := gSm.wk s147 _ _ rfl rfl
    have ZS144 : sZ S144 43 = sZ S 43 := s147.z 43 (by decide)
    obtain ⟨aq148, bq148, nq148⟩ := q148
    refine h_goto (tgt := 243) hC dX5_turn_189 (by decide) ?_
    exact h_vret hC hr o142 rfl rfl ⟨S144, I145, K146, m149, by omega, by omega, by omega⟩ dX5_turn_243
  have T151 : hG X d b (MQ X.be (va_Qv (fun u => ∃ S', hI d b Y c u S' ∧ gKp Y F u.1 ∧ gSm S S' [38, 39, 40, 41, 42, 43, 44, 45] [25, 26, 27, 28, 29, 30, 31, 32, 33, 34, 35, 36] ∧ sZ S' 43 ≤ 404 ∧ gPsi S' ≤ gPsi S ∧ sN S' 45 = sN S 45) (hB d b) (fun q => b ≤ q)) X.ar X.st mc ms (fun q => b ≤ q)) F k n 192 [some (.ref (gO' Y 7)), some (.int x), some (.int y), none, none] [] := by
    refine h_aload_n hC dX5_turn_192 rfl ?_
    refine h_get hC fl_X5_24 (hi.1.o 7 (by decide)) rfl dX5_turn_193 ?_
    refine hi_pop (j := 42) hC hr ho hi (by decide) cl_X5_146 rfl (Nat.le_of_ble_eq_true rfl) (hFr_of (Nat.le_of_ble_eq_true rfl) (Nat.le_of_ble_eq_true rfl)) dX5_turn_196 (fun r158 F152 S153 I154 K155 s156 a157 => ?_)
    have m159 : gSm S S153 [38, 39, 40, 41, 42, 43, 44, 45] [25, 26, 27, 28, 29, 30, 31, 32, 33, 34, 35, 36] := gSm.wk s156 _ _ rfl rfl
    have NS153 : sN S153 45 = sN S 45 := s156.n 45 (by decide)
    have ZS153 : sZ S153 43 = sZ S 43 := s156.z 43 (by decide)
    have Pa157 : gPsi S153 ≤ gPsi S := a157.2.2.2.2.2
    refine h_istore_n (lv' := [some (.ref (gO' Y 7)), some (.int x), some (.int y), some (.int r158), none]) hC dX5_turn_199 (Nat.le_of_ble_eq_true rfl) rfl rfl ?_
    refine h_aload_n hC dX5_turn_200 rfl ?_
    refine h_get hC fl_X5_24 (I154.1.o 7 (by decide)) rfl dX5_turn_201 ?_
    refine hi_pop (j := 42) hC hr ho I154 (by decide) cl_X5_146 rfl (Nat.le_of_ble_eq_true rfl) (hFr_of (Nat.le_of_ble_eq_true rfl) (Nat.le_of_ble_eq_true rfl)) dX5_turn_204 (fun r167 F161 S162 I163 K164 s165 a166 => ?_)
    have m168 : gSm S S162 [38, 39, 40, 41, 42, 43, 44, 45] [25, 26, 27, 28, 29, 30, 31, 32, 33, 34, 35, 36] := m159.tr s165 _ _ rfl rfl
    have K169 := K155.tr K164
    have NS162 : sN S162 45 = sN S153 45 := s165.n 45 (by decide)
    have ZS162 : sZ S162 43 = sZ S153 43 := s165.z 43 (by decide)
    have Pa166 : gPsi S162 ≤ gPsi S153 := a166.2.2.2.2.2
    refine h_istore (lv' := [some (.ref (gO' Y 7)), some (.int x), some (.int y), some (.int r158), some (.int r167)]) hC dX5_turn_207 (Nat.le_of_ble_eq_true rfl) rfl rfl ?_
    refine h_iload_n hC dX5_turn_209 rfl ?_
    refine h_sipush (v := 200) hC dX5_turn_210 rfl ?_
    refine h_icmp_le (tgt := 232) hC dX5_turn_213 (by decide) (fun c170 => ?_) (fun c170 => ?_)
    · refine h_aload_n hC dX5_turn_232 rfl ?_
      refine h_iload_n hC dX5_turn_233 rfl ?_
      refine h_bipush (v := 100) hC dX5_turn_234 rfl ?_
      refine h_isub hC dX5_turn_236 ?_
      refine h_vi (fun x171 ex171 => ?_)
      refine h_iload hC dX5_turn_237 rfl ?_
      refine h_iload_n hC dX5_turn_239 rfl ?_
      refine h_callVv (As := [.int x171, .int r167, .int r158]) hC hr ho rfl (I163.1.o 7 (by decide)) (s_M_work X.la d b Y c _ _ _ I163 (by omega) (by omega) x171 r167 r158) cl_X5_175 rfl rfl (Nat.le_of_ble_eq_true rfl) (hFr_of (Nat.le_of_ble_eq_true rfl) (Nat.le_of_ble_eq_true rfl)) dX5_turn_240 (fun u172 p173 o174 => ?_)
      obtain ⟨S176, I177, K178, s179, q180⟩ := p173
      have m181 : gSm S S176 [38, 39, 40, 41, 42, 43, 44, 45] [25, 26, 27, 28, 29, 30, 31, 32, 33, 34, 35, 36] := m168.tr s179 _ _ rfl rfl
      have K182 := K169.tr K178
      have ZS176 : sZ S176 43 = sZ S162 43 := s179.z 43 (by decide)
      obtain ⟨aq180, bq180, nq180⟩ := q180
      exact h_vret hC hr o174 rfl rfl ⟨S176, I177, K182, m181, by omega, by omega, by omega⟩ dX5_turn_243
    · refine h_aload_n hC dX5_turn_216 rfl ?_
      refine h_iload_n hC dX5_turn_217 rfl ?_
      refine h_sipush (v := 200) hC dX5_turn_218 rfl ?_
      refine h_isub hC dX5_turn_221 ?_
      refine h_vi (fun x183 ex183 => ?_)
      refine h_iload hC dX5_turn_222 rfl ?_
      refine h_iload_n hC dX5_turn_224 rfl ?_
      refine h_iload_n hC dX5_turn_225 rfl ?_
      refine h_callVv (As := [.int x183, .int r167, .int r158, .int y]) hC hr ho rfl (I163.1.o 7 (by decide)) (s_M_link X.la d b Y c _ _ _ I163 (by omega) (by omega) x183 r167 r158 y) cl_X5_171 rfl rfl (Nat.le_of_ble_eq_true rfl) (hFr_of (Nat.le_of_ble_eq_true rfl) (Nat.le_of_ble_eq_true rfl)) dX5_turn_226 (fun u184 p185 o186 => ?_)
      obtain ⟨S188, I189, K190, s191, q192⟩ := p185
      have m193 : gSm S S188 [38, 39, 40, 41, 42, 43, 44, 45] [25, 26, 27, 28, 29, 30, 31, 32, 33, 34, 35, 36] := m168.tr s191 _ _ rfl rfl
      have K194 := K169.tr K190
      have ZS188 : sZ S188 43 = sZ S162 43 := s191.z 43 (by decide)
      obtain ⟨aq192, bq192, nq192⟩ := q192
      refine h_goto (tgt := 243) hC dX5_turn_229 (by decide) ?_
      exact h_vret hC hr o186 rfl rfl ⟨S188, I189, K194, m193, by omega, by omega, by omega⟩ dX5_turn_243
  exact h_tsw hC dX5_turn_1 (by decide) (fun tgt ht => (by obtain rfl : tgt = 192 := (by omega); exact T151)) (by decide) (by decide) (List.forall_mem_cons.mpr ⟨fun (tgt : Nat) (ht : ((1 : Nat) : Int) + (47 : Int) = (tgt : Int)) => (by obtain rfl : tgt = 48 := (by omega); exact T1), List.forall_mem_cons.mpr ⟨fun (tgt : Nat) (ht : ((1 : Nat) : Int) + (55 : Int) = (tgt : Int)) => (by obtain rfl : tgt = 56 := (by omega); exact T11), List.forall_mem_cons.mpr ⟨fun (tgt : Nat) (ht : ((1 : Nat) : Int) + (80 : Int) = (tgt : Int)) => (by obtain rfl : tgt = 81 := (by omega); exact T40), List.forall_mem_cons.mpr ⟨fun (tgt : Nat) (ht : ((1 : Nat) : Int) + (105 : Int) = (tgt : Int)) => (by obtain rfl : tgt = 106 := (by omega); exact T69), List.forall_mem_cons.mpr ⟨fun (tgt : Nat) (ht : ((1 : Nat) : Int) + (140 : Int) = (tgt : Int)) => (by obtain rfl : tgt = 141 := (by omega); exact T91), List.forall_mem_cons.mpr ⟨fun (tgt : Nat) (ht : ((1 : Nat) : Int) + (148 : Int) = (tgt : Int)) => (by obtain rfl : tgt = 149 := (by omega); exact T103), List.forall_mem_cons.mpr ⟨fun (tgt : Nat) (ht : ((1 : Nat) : Int) + (175 : Int) = (tgt : Int)) => (by obtain rfl : tgt = 176 := (by omega); exact T127), List.forall_mem_cons.mpr ⟨fun (tgt : Nat) (ht : ((1 : Nat) : Int) + (182 : Int) = (tgt : Int)) => (by obtain rfl : tgt = 183 := (by omega); exact T139), fun _ h => nomatch h⟩⟩⟩⟩⟩⟩⟩⟩)
