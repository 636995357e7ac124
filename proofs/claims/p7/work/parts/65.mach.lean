theorem kw_1649 : Cond.code yX7_storeWords cX7_storeWords 1 (some .int) ∈ gWs := List.mem_filter.mpr ⟨gMt6 _ (List.mem_of_getElem? (i := 212) rfl), rfl⟩
theorem kw_1646 : Cond.methodLink RX5 110 yX7_storeWords ∈ gWs := List.mem_filter.mpr ⟨gMt6 _ (List.mem_of_getElem? (i := 209) rfl), rfl⟩
theorem kw_1647 : Cond.instanceMethod yX7_storeWords ∈ gWs := List.mem_filter.mpr ⟨gMt6 _ (List.mem_of_getElem? (i := 210) rfl), rfl⟩
theorem kw_1648 : Cond.selects RX7 yX7_storeWords yX7_storeWords ∈ gWs := List.mem_filter.mpr ⟨gMt6 _ (List.mem_of_getElem? (i := 211) rfl), rfl⟩
theorem cl_X5_110 : gCV RX5 110 yX7_storeWords cX7_storeWords 1 (some .int) 0 := ⟨g_mk [.methodLink RX5 110 yX7_storeWords, .instanceMethod yX7_storeWords, .selects yX7_storeWords.cls yX7_storeWords yX7_storeWords, .initialized yX7_storeWords.cls] (gWs_all kw_1649) (List.forall_mem_cons.mpr ⟨kw_1646, List.forall_mem_cons.mpr ⟨kw_1647, List.forall_mem_cons.mpr ⟨kw_1648, List.forall_mem_cons.mpr ⟨kw_240, fun _ h => nomatch h⟩⟩⟩⟩), rfl, by decide +kernel, by decide +kernel, by decide +kernel⟩
theorem kw_1653 : Cond.code yJ7_fill_53178 cJ7_fill_53178 4 none ∈ gWs := List.mem_filter.mpr ⟨gMt6 _ (List.mem_of_getElem? (i := 216) rfl), rfl⟩
theorem kw_1651 : Cond.methodLink RX5 114 yJ7_fill_53178 ∈ gWs := List.mem_filter.mpr ⟨gMt6 _ (List.mem_of_getElem? (i := 214) rfl), rfl⟩
theorem kw_1652 : Cond.static yJ7_fill_53178 ∈ gWs := List.mem_filter.mpr ⟨gMt6 _ (List.mem_of_getElem? (i := 215) rfl), rfl⟩
theorem cl_X5_114 : gCS RX5 114 yJ7_fill_53178 cJ7_fill_53178 4 none 2 := ⟨g_mk [.methodLink RX5 114 yJ7_fill_53178, .static yJ7_fill_53178, .initialized yJ7_fill_53178.cls] (gWs_all kw_1653) (List.forall_mem_cons.mpr ⟨kw_1651, List.forall_mem_cons.mpr ⟨kw_1652, List.forall_mem_cons.mpr ⟨kw_248, fun _ h => nomatch h⟩⟩⟩), ⟨by decide +kernel, by decide +kernel, by decide +kernel⟩⟩
theorem kw_1654 : Cond.methodLink RX5 88 yX7_words ∈ gWs := List.mem_filter.mpr ⟨gMt6 _ (List.mem_of_getElem? (i := 217) rfl), rfl⟩
theorem cl_X5_88 : gCV RX5 88 yX7_words cX7_words 1 (some .int) 0 := ⟨g_mk [.methodLink RX5 88 yX7_words, .instanceMethod yX7_words, .selects yX7_words.cls yX7_words yX7_words, .initialized yX7_words.cls] (gWs_all kw_1212) (List.forall_mem_cons.mpr ⟨kw_1654, List.forall_mem_cons.mpr ⟨kw_1210, List.forall_mem_cons.mpr ⟨kw_1211, List.forall_mem_cons.mpr ⟨kw_240, fun _ h => nomatch h⟩⟩⟩⟩), rfl, by decide +kernel, by decide +kernel, by decide +kernel⟩
theorem kw_1674 : Cond.code yX3_clear cX3_clear 1 none ∈ gWs := List.mem_filter.mpr ⟨gMt6 _ (List.mem_of_getElem? (i := 237) rfl), rfl⟩
theorem kw_1671 : Cond.methodLink RX5 126 yX3_clear ∈ gWs := List.mem_filter.mpr ⟨gMt6 _ (List.mem_of_getElem? (i := 234) rfl), rfl⟩
theorem kw_1672 : Cond.instanceMethod yX3_clear ∈ gWs := List.mem_filter.mpr ⟨gMt6 _ (List.mem_of_getElem? (i := 235) rfl), rfl⟩
theorem kw_1673 : Cond.selects RX3 yX3_clear yX3_clear ∈ gWs := List.mem_filter.mpr ⟨gMt6 _ (List.mem_of_getElem? (i := 236) rfl), rfl⟩
theorem cl_X5_126 : gCV RX5 126 yX3_clear cX3_clear 1 none 0 := ⟨g_mk [.methodLink RX5 126 yX3_clear, .instanceMethod yX3_clear, .selects yX3_clear.cls yX3_clear yX3_clear, .initialized yX3_clear.cls] (gWs_all kw_1674) (List.forall_mem_cons.mpr ⟨kw_1671, List.forall_mem_cons.mpr ⟨kw_1672, List.forall_mem_cons.mpr ⟨kw_1673, List.forall_mem_cons.mpr ⟨kw_256, fun _ h => nomatch h⟩⟩⟩⟩), rfl, by decide +kernel, by decide +kernel, by decide +kernel⟩
theorem kw_1679 : Cond.code yX0_beginRun cX0_beginRun 2 none ∈ gWs := List.mem_filter.mpr ⟨gMt7 _ (List.mem_of_getElem? (i := 2) rfl), rfl⟩
theorem kw_1676 : Cond.methodLink RX5 129 yX0_beginRun ∈ gWs := List.mem_filter.mpr ⟨gMt6 _ (List.mem_of_getElem? (i := 239) rfl), rfl⟩
theorem kw_1677 : Cond.instanceMethod yX0_beginRun ∈ gWs := List.mem_filter.mpr ⟨gMt7 _ (List.mem_of_getElem? (i := 0) rfl), rfl⟩
theorem kw_1678 : Cond.selects RX0 yX0_beginRun yX0_beginRun ∈ gWs := List.mem_filter.mpr ⟨gMt7 _ (List.mem_of_getElem? (i := 1) rfl), rfl⟩
theorem cl_X5_129 : gCV RX5 129 yX0_beginRun cX0_beginRun 2 none 0 := ⟨g_mk [.methodLink RX5 129 yX0_beginRun, .instanceMethod yX0_beginRun, .selects yX0_beginRun.cls yX0_beginRun yX0_beginRun, .initialized yX0_beginRun.cls] (gWs_all kw_1679) (List.forall_mem_cons.mpr ⟨kw_1676, List.forall_mem_cons.mpr ⟨kw_1677, List.forall_mem_cons.mpr ⟨kw_1678, List.forall_mem_cons.mpr ⟨kw_254, fun _ h => nomatch h⟩⟩⟩⟩), rfl, by decide +kernel, by decide +kernel, by decide +kernel⟩
theorem kw_1658 : Cond.code yX7_wordAt cX7_wordAt 2 (some .int) ∈ gWs := List.mem_filter.mpr ⟨gMt6 _ (List.mem_of_getElem? (i := 221) rfl), rfl⟩
theorem kw_1655 : Cond.methodLink RX5 120 yX7_wordAt ∈ gWs := List.mem_filter.mpr ⟨gMt6 _ (List.mem_of_getElem? (i := 218) rfl), rfl⟩
theorem kw_1656 : Cond.instanceMethod yX7_wordAt ∈ gWs := List.mem_filter.mpr ⟨gMt6 _ (List.mem_of_getElem? (i := 219) rfl), rfl⟩
theorem kw_1657 : Cond.selects RX7 yX7_wordAt yX7_wordAt ∈ gWs := List.mem_filter.mpr ⟨gMt6 _ (List.mem_of_getElem? (i := 220) rfl), rfl⟩
theorem cl_X5_120 : gCV RX5 120 yX7_wordAt cX7_wordAt 2 (some .int) 1 := ⟨g_mk [.methodLink RX5 120 yX7_wordAt, .instanceMethod yX7_wordAt, .selects yX7_wordAt.cls yX7_wordAt yX7_wordAt, .initialized yX7_wordAt.cls] (gWs_all kw_1658) (List.forall_mem_cons.mpr ⟨kw_1655, List.forall_mem_cons.mpr ⟨kw_1656, List.forall_mem_cons.mpr ⟨kw_1657, List.forall_mem_cons.mpr ⟨kw_240, fun _ h => nomatch h⟩⟩⟩⟩), rfl, by decide +kernel, by decide +kernel, by decide +kernel⟩
theorem kw_1650 : Cond.constant RX5 113 65536 ∈ gWs := List.mem_filter.mpr ⟨gMt6 _ (List.mem_of_getElem? (i := 213) rfl), rfl⟩
theorem dX5_prepare_0 : decode cX5_prepare 0 = .ok (.aload_n 0, 1) := by decide +kernel
theorem dX5_prepare_1 : decode cX5_prepare 1 = .ok (.aload_n 0, 1) := by decide +kernel
theorem dX5_prepare_2 : decode cX5_prepare 2 = .ok (.getfield 67, 3) := by decide +kernel
theorem dX5_prepare_5 : decode cX5_prepare 5 = .ok (.invokevirtual 110, 3) := by decide +kernel
theorem dX5_prepare_8 : decode cX5_prepare 8 = .ok (.putfield 35, 3) := by decide +kernel
theorem dX5_prepare_11 : decode cX5_prepare 11 = .ok (.aload_n 0, 1) := by decide +kernel
theorem dX5_prepare_12 : decode cX5_prepare 12 = .ok (.getfield 31, 3) := by decide +kernel
theorem dX5_prepare_15 : decode cX5_prepare 15 = .ok (.arraylength, 1) := by decide +kernel
theorem dX5_prepare_16 : decode cX5_prepare 16 = .ok (.aload_n 0, 1) := by decide +kernel
theorem dX5_prepare_17 : decode cX5_prepare 17 = .ok (.getfield 35, 3) := by decide +kernel
theorem dX5_prepare_20 : decode cX5_prepare 20 = .ok (.if_icmp .ge 22, 3) := by decide +kernel
theorem dX5_prepare_23 : decode cX5_prepare 23 = .ok (.aload_n 0, 1) := by decide +kernel
theorem dX5_prepare_24 : decode cX5_prepare 24 = .ok (.getfield 35, 3) := by decide +kernel
theorem dX5_prepare_27 : decode cX5_prepare 27 = .ok (.ldc 113, 2) := by decide +kernel
theorem dX5_prepare_29 : decode cX5_prepare 29 = .ok (.if_icmp .gt 13, 3) := by decide +kernel
theorem dX5_prepare_32 : decode cX5_prepare 32 = .ok (.aload_n 0, 1) := by decide +kernel
theorem dX5_prepare_33 : decode cX5_prepare 33 = .ok (.aload_n 0, 1) := by decide +kernel
theorem dX5_prepare_34 : decode cX5_prepare 34 = .ok (.getfield 35, 3) := by decide +kernel
theorem dX5_prepare_37 : decode cX5_prepare 37 = .ok (.newarray .int, 2) := by decide +kernel
theorem dX5_prepare_39 : decode cX5_prepare 39 = .ok (.putfield 31, 3) := by decide +kernel
theorem dX5_prepare_42 : decode cX5_prepare 42 = .ok (.aload_n 0, 1) := by decide +kernel
theorem dX5_prepare_43 : decode cX5_prepare 43 = .ok (.getfield 31, 3) := by decide +kernel
theorem dX5_prepare_46 : decode cX5_prepare 46 = .ok (.iconst 0, 1) := by decide +kernel
theorem dX5_prepare_47 : decode cX5_prepare 47 = .ok (.invokestatic 114, 3) := by decide +kernel
theorem dX5_prepare_50 : decode cX5_prepare 50 = .ok (.iconst 0, 1) := by decide +kernel
theorem dX5_prepare_51 : decode cX5_prepare 51 = .ok (.istore_n 1, 1) := by decide +kernel
theorem dX5_prepare_52 : decode cX5_prepare 52 = .ok (.iload_n 1, 1) := by decide +kernel
theorem dX5_prepare_53 : decode cX5_prepare 53 = .ok (.aload_n 0, 1) := by decide +kernel
theorem dX5_prepare_54 : decode cX5_prepare 54 = .ok (.getfield 67, 3) := by decide +kernel
theorem dX5_prepare_57 : decode cX5_prepare 57 = .ok (.invokevirtual 88, 3) := by decide +kernel
theorem dX5_prepare_60 : decode cX5_prepare 60 = .ok (.if_icmp .ge 22, 3) := by decide +kernel
theorem dX5_prepare_63 : decode cX5_prepare 63 = .ok (.aload_n 0, 1) := by decide +kernel
theorem dX5_prepare_64 : decode cX5_prepare 64 = .ok (.iload_n 1, 1) := by decide +kernel
theorem dX5_prepare_65 : decode cX5_prepare 65 = .ok (.aload_n 0, 1) := by decide +kernel
theorem dX5_prepare_66 : decode cX5_prepare 66 = .ok (.getfield 67, 3) := by decide +kernel
theorem dX5_prepare_69 : decode cX5_prepare 69 = .ok (.iload_n 1, 1) := by decide +kernel
theorem dX5_prepare_70 : decode cX5_prepare 70 = .ok (.invokevirtual 120, 3) := by decide +kernel
theorem dX5_prepare_73 : decode cX5_prepare 73 = .ok (.invokevirtual 123, 3) := by decide +kernel
theorem dX5_prepare_76 : decode cX5_prepare 76 = .ok (.iinc 1 1, 3) := by decide +kernel
theorem dX5_prepare_79 : decode cX5_prepare 79 = .ok (.goto (-27), 3) := by decide +kernel
theorem dX5_prepare_82 : decode cX5_prepare 82 = .ok (.aload_n 0, 1) := by decide +kernel
theorem dX5_prepare_83 : decode cX5_prepare 83 = .ok (.getfield 12, 3) := by decide +kernel
theorem dX5_prepare_86 : decode cX5_prepare 86 = .ok (.invokevirtual 126, 3) := by decide +kernel
theorem dX5_prepare_89 : decode cX5_prepare 89 = .ok (.aload_n 0, 1) := by decide +kernel
theorem dX5_prepare_90 : decode cX5_prepare 90 = .ok (.getfield 71, 3) := by decide +kernel
theorem dX5_prepare_93 : decode cX5_prepare 93 = .ok (.invokevirtual 129, 3) := by decide +kernel
theorem dX5_prepare_96 : decode cX5_prepare 96 = .ok (.aload_n 0, 1) := by decide +kernel
theorem dX5_prepare_97 : decode cX5_prepare 97 = .ok (.getfield 24, 3) := by decide +kernel
theorem dX5_prepare_100 : decode cX5_prepare 100 = .ok (.iconst 0, 1) := by decide +kernel
theorem dX5_prepare_101 : decode cX5_prepare 101 = .ok (.invokevirtual 134, 3) := by decide +kernel
theorem dX5_prepare_104 : decode cX5_prepare 104 = .ok (.aload_n 0, 1) := by decide +kernel
theorem dX5_prepare_105 : decode cX5_prepare 105 = .ok (.getfield 28, 3) := by decide +kernel
theorem dX5_prepare_108 : decode cX5_prepare 108 = .ok (.iconst 0, 1) := by decide +kernel
theorem dX5_prepare_109 : decode cX5_prepare 109 = .ok (.invokevirtual 134, 3) := by decide +kernel
theorem dX5_prepare_112 : decode cX5_prepare 112 = .ok (.aload_n 0, 1) := by decide +kernel
theorem dX5_prepare_113 : decode cX5_prepare 113 = .ok (.iconst 0, 1) := by decide +kernel
theorem dX5_prepare_114 : decode cX5_prepare 114 = .ok (.putfield 42, 3) := by decide +kernel
theorem dX5_prepare_117 : decode cX5_prepare 117 = .ok (.aload_n 0, 1) := by decide +kernel
theorem dX5_prepare_118 : decode cX5_prepare 118 = .ok (.iconst (-1), 1) := by decide +kernel
theorem dX5_prepare_119 : decode cX5_prepare 119 = .ok (.putfield 45, 3) := by decide +kernel
theorem dX5_prepare_122 : decode cX5_prepare 122 = .ok (.aload_n 0, 1) := by decide +kernel
theorem dX5_prepare_123 : decode cX5_prepare 123 = .ok (.iconst 0, 1) := by decide +kernel
theorem dX5_prepare_124 : decode cX5_prepare 124 = .ok (.putfield 51, 3) := by decide +kernel
theorem dX5_prepare_127 : decode cX5_prepare 127 = .ok (.aload_n 0, 1) := by decide +kernel
theorem dX5_prepare_128 : decode cX5_prepare 128 = .ok (.iconst 0, 1) := by decide +kernel
theorem dX5_prepare_129 : decode cX5_prepare 129 = .ok (.putfield 54, 3) := by decide +kernel
theorem dX5_prepare_132 : decode cX5_prepare 132 = .ok (.aload_n 0, 1) := by decide +kernel
theorem dX5_prepare_133 : decode cX5_prepare 133 = .ok (.iconst 0, 1) := by decide +kernel
theorem dX5_prepare_134 : decode cX5_prepare 134 = .ok (.putfield 57, 3) := by decide +kernel
theorem dX5_prepare_137 : decode cX5_prepare 137 = .ok (.aload_n 0, 1) := by decide +kernel
theorem dX5_prepare_138 : decode cX5_prepare 138 = .ok (.iconst (-1), 1) := by decide +kernel
theorem dX5_prepare_139 : decode cX5_prepare 139 = .ok (.putfield 61, 3) := by decide +kernel
theorem dX5_prepare_142 : decode cX5_prepare 142 = .ok (.return_, 1) := by decide +kernel
set_option maxHeartbeats 4000000 in
set_option maxRecDepth 100000 in
theorem s_M_prepare (l : Launch) (d : gD) (b : Nat) (Y : gYt) (c : Nat × Nat) (F : gM) (k n : Nat) {S : gSt} (hi : hI d b Y c (F, k, n) S) (hA : gPsi S ≤ gAm) (h43 : sZ S 43 ≤ 404) (hw : ∃ N, gPw N ∧ sV S 2 = nI N) (hn : gPw (sN S 45)) : hMv l d b yX5_prepare cX5_prepare 2 6 k n F [.ref (gO' Y 7)] (fun u => ∃ S', hI d b Y c u S' ∧ gKp Y F u.1 ∧ gSm S S' [38, 39, 40, 41, 42, 43, 44, 45] [25, 26, 27, 28, 29, 30, 31, 32, 33, 34, 35, 36] ∧ sZ S' 43 ≤ 404 ∧ gPsi S' ≤ gPsi S ∧ gPw (sN S' 45)) := by
  intro mc ms
  refine hM_of2 rfl (nL := 2) (Nat.le_of_ble_eq_true rfl) ?_
  intro X hX hC hr ho; subst hX
  show hG X d b _ F k n 0 [some (.ref (gO' Y 7)), none] []
  obtain ⟨NW, hW2, eW⟩ := hw
  refine h_aload_n hC dX5_prepare_0 rfl ?_
  refine h_aload_n hC dX5_prepare_1 rfl ?_
  refine h_get hC fl_X5_67 (hi.1.o 7 (by decide)) rfl dX5_prepare_2 ?_
  refine g_callVi (As := []) hC rfl (hi.1.o 1 (by decide)) (p_P_storeWords X.la d b Y _ S hi.1 ) cl_X5_110 rfl rfl (Nat.le_of_ble_eq_true rfl) (h_fit0 hC hr ho (hFr_of (Nat.le_of_ble_eq_true rfl) (Nat.le_of_ble_eq_true rfl))) dX5_prepare_5 (fun r1 F2 p3 => ?_)
  obtain ⟨er1, eF2⟩ := p3; have eF2 := eF2.symm; subst eF2
  refine h_same hC ho ?_
  subst er1
  refine hi_putx (i := 7) (kx := 27) hC hi (by decide) fl_X5_35 rfl rfl rfl (Nat.le_of_ble_eq_true rfl) rfl gsame_27 (fun q => absurd q (by decide)) dX5_prepare_8 (fun F5 S6 I7 K8 s9 v10 p11 => ?_)
  have m12 : gSm S S6 [38, 39, 40, 41, 42, 43, 44, 45] [25, 26, 27, 28, 29, 30, 31, 32, 33, 34, 35, 36] := gSm.wk s9 _ _ rfl rfl
  have NS6 : sN S6 45 = sN S 45 := s9.n 45 (by decide)
  have ZS6 : sZ S6 43 = sZ S 43 := s9.z 43 (by decide)
  have J14 : ∀ (u15 : hU) (S16 : gSt), hI d b Y c u15 S16 → hOk X b u15.2.1 u15.2.2 → gKp Y F u15.1 → gSm S S16 [38, 39, 40, 41, 42, 43, 44, 45] [25, 26, 27, 28, 29, 30, 31, 32, 33, 34, 35, 36] → (sZ S16 43 ≤ 404) → (gPsi S16 ≤ gPsi S) → (gPw (sN S16 45)) → hG X d b (MQ X.be (va_Qv (fun u => ∃ S', hI d b Y c u S' ∧ gKp Y F u.1 ∧ gSm S S' [38, 39, 40, 41, 42, 43, 44, 45] [25, 26, 27, 28, 29, 30, 31, 32, 33, 34, 35, 36] ∧ sZ S' 43 ≤ 404 ∧ gPsi S' ≤ gPsi S ∧ gPw (sN S' 45)) (hB d b) (fun q => b ≤ q)) X.ar X.st mc ms (fun q => b ≤ q)) u15.1 u15.2.1 u15.2.2 42 [some (.ref (gO' Y 7)), none] [] := by
    intro u15 S16 I17 o18 K19 m20 i43 ips iw
    refine h_aload_n hC dX5_prepare_42 rfl ?_
    refine h_get hC fl_X5_31 (I17.1.o 7 (by decide)) rfl dX5_prepare_43 ?_
    refine h_iconst (v := 0) hC dX5_prepare_46 rfl ?_
    refine g_callSv (As := [.ref (sQ S16 45), .int 0]) hC (c_fill X.la d b _ _ _ _ I17.1.c (Nat.lt_of_le_of_lt I17.1.2.2.1.2.2.2 (by decide)) 0) cl_X5_114 rfl rfl (Nat.le_of_ble_eq_true rfl) (h_fit0 hC hr o18 (hFr_of (Nat.le_of_ble_eq_true rfl) (Nat.le_of_ble_eq_true rfl))) dX5_prepare_47 (fun F21 p22 => ?_)
    obtain ⟨f23, e24⟩ := p22
    refine h_same hC o18 ?_
    obtain ⟨w25, w26⟩ := I17.1.arr45 e24
    have I28 : hI d b Y c (F21, u15.2.1, u15.2.2) (uF S16 45 f23) := I17.smaller w25 (fun _ => rfl)
    obtain ⟨S27, hS27⟩ : ∃ z, z = uF S16 45 f23 := ⟨_, rfl⟩
    have s29 : gSm S16 S27 [45] [] := by rw [hS27]; exact gSm_uF
    have NS27 : sN S27 45 = sN S16 45 := by rw [hS27]; rfl
    have PS27 : gPsi S27 = gPsi S16 := by rw [hS27]; rfl
    rw [← hS27] at I28
    have m30 : gSm S S27 [38, 39, 40, 41, 42, 43, 44, 45] [25, 26, 27, 28, 29, 30, 31, 32, 33, 34, 35, 36] := m20.tr s29 _ _ rfl rfl
    have K31 := K19.tr w26
    have ZS27 : sZ S27 43 = sZ S16 43 := s29.z 43 (by decide)
    refine h_iconst (v := 0) hC dX5_prepare_50 rfl ?_
    refine h_istore_n (lv' := [some (.ref (gO' Y 7)), some (.int 0)]) hC dX5_prepare_51 (Nat.le_of_ble_eq_true rfl) rfl rfl ?_
    have L32 : ∀ (m33 j34 : Nat), j34 + m33 = 2147483647 → ∀ (u37 : hU) (S38 : gSt), hI d b Y c u37 S38 → hOk X b u37.2.1 u37.2.2 → gKp Y F u37.1 → gSm S S38 [38, 39, 40, 41, 42, 43, 44, 45] [25, 26, 27, 28, 29, 30, 31, 32, 33, 34, 35, 36] → (sZ S38 43 ≤ 404) → (gPsi S38 ≤ gPsi S) → (sN S38 45 = sN S16 45) → hG X d b (MQ X.be (va_Qv (fun u => ∃ S', hI d b Y c u S' ∧ gKp Y F u.1 ∧ gSm S S' [38, 39, 40, 41, 42, 43, 44, 45] [25, 26, 27, 28, 29, 30, 31, 32, 33, 34, 35, 36] ∧ sZ S' 43 ≤ 404 ∧ gPsi S' ≤ gPsi S ∧ gPw (sN S' 45)) (hB d b) (fun q => b ≤ q)) X.ar X.st mc ms (fun q => b ≤ q)) u37.1 u37.2.1 u37.2.2 52 [some (.ref (gO' Y 7)), some (.int (nI j34))] [] := by
      intro m33
      refine Nat.strongRecOn m33 (fun m33 ih35 j34 hj36 u37 S38 I39 o40 K41 m42 i43 ips iN => ?_)
      refine h_iload_n hC dX5_prepare_52 rfl ?_
      refine h_aload_n hC dX5_prepare_53 rfl ?_
      refine h_get hC fl_X5_67 (I39.1.o 7 (by decide)) rfl dX5_prepare_54 ?_
      refine g_callVi (As := []) hC rfl (I39.1.o 1 (by decide)) (p_P_words X.la d b Y _ S38 I39.1 ) cl_X5_88 rfl rfl (Nat.le_of_ble_eq_true rfl) (h_fit0 hC hr o40 (hFr_of (Nat.le_of_ble_eq_true rfl) (Nat.le_of_ble_eq_true rfl))) dX5_prepare_57 (fun r43 F44 p45 => ?_)
      obtain ⟨er43, eF44⟩ := p45; have eF44 := eF44.symm; subst eF44
      refine h_same hC o40 ?_
      refine h_icmp_ge (tgt := 82) hC dX5_prepare_60 (by decide) (fun c47 => ?_) (fun c47 => ?_)
      · refine h_aload_n hC dX5_prepare_82 rfl ?_
        refine h_get hC fl_X5_12 (I39.1.o 7 (by decide)) rfl dX5_prepare_83 ?_
        refine h_callVv (As := []) hC hr o40 rfl (I39.1.o 10 (by decide)) (s_H_clear X.la d b Y c _ _ _ I39 ) cl_X5_126 rfl rfl (Nat.le_of_ble_eq_true rfl) (hFr_of (Nat.le_of_ble_eq_true rfl) (Nat.le_of_ble_eq_true rfl)) dX5_prepare_86 (fun u48 p49 o50 => ?_)
        obtain ⟨S52, I53, K54, s55, q56⟩ := p49
        have m57 : gSm S S52 [38, 39, 40, 41, 42, 43, 44, 45] [25, 26, 27, 28, 29, 30, 31, 32, 33, 34, 35, 36] := m42.tr s55 _ _ rfl rfl
        have K58 := K41.tr K54
        have NS52 : sN S52 45 = sN S38 45 := s55.n 45 (by decide)
        have ZS52 : sZ S52 43 = sZ S38 43 := s55.z 43 (by decide)
        refine h_aload_n hC dX5_prepare_89 rfl ?_
        refine h_get hC fl_X5_71 (I53.1.o 7 (by decide)) rfl dX5_prepare_90 ?_
        refine h_callVv (As := []) hC hr o50 rfl (I53.1.o 6 (by decide)) (s_C_beginRun X.la d b Y c _ _ _ I53 ) cl_X5_129 rfl rfl (Nat.le_of_ble_eq_true rfl) (hFr_of (Nat.le_of_ble_eq_true rfl) (Nat.le_of_ble_eq_true rfl)) dX5_prepare_93 (fun u59 p60 o61 => ?_)
        obtain ⟨S63, I64, K65, s66, q67⟩ := p60
        have m68 : gSm S S63 [38, 39, 40, 41, 42, 43, 44, 45] [25, 26, 27, 28, 29, 30, 31, 32, 33, 34, 35, 36] := m57.tr s66 _ _ rfl rfl
        have K69 := K58.tr K65
        have NS63 : sN S63 45 = sN S52 45 := s66.n 45 (by decide)
        have ZS63 : sZ S63 43 = sZ S52 43 := s66.z 43 (by decide)
        refine h_aload_n hC dX5_prepare_96 rfl ?_
        refine h_get hC fl_X5_24 (I64.1.o 7 (by decide)) rfl dX5_prepare_97 ?_
        refine h_iconst (v := 0) hC dX5_prepare_100 rfl ?_
        refine hi_cut (j := 42) hC hr o61 I64 (by decide) cl_X5_134 rfl (Nat.le_of_ble_eq_true rfl) (hFr_of (Nat.le_of_ble_eq_true rfl) (Nat.le_of_ble_eq_true rfl)) dX5_prepare_101 (fun F70 S71 I72 K73 s74 a75 => ?_)
        have m76 : gSm S S71 [38, 39, 40, 41, 42, 43, 44, 45] [25, 26, 27, 28, 29, 30, 31, 32, 33, 34, 35, 36] := m68.tr s74 _ _ rfl rfl
        have K77 := K69.tr K73
        have NS71 : sN S71 45 = sN S63 45 := s74.n 45 (by decide)
        have ZS71 : sZ S71 43 = sZ S63 43 := s74.z 43 (by decide)
        have Pa75 : gPsi S71 ≤ gPsi S63 := a75.2.2.2.2.2
        refine h_aload_n hC dX5_prepare_104 rfl ?_
        refine h_get hC fl_X5_28 (I72.1.o 7 (by decide)) rfl dX5_prepare_105 ?_
        refine h_iconst (v := 0) hC dX5_prepare_108 rfl ?_
        refine hi_cut (j := 43) hC hr o61 I72 (by decide) cl_X5_134 rfl (Nat.le_of_ble_eq_true rfl) (hFr_of (Nat.le_of_ble_eq_true rfl) (Nat.le_of_ble_eq_true rfl)) dX5_prepare_109 (fun F78 S79 I80 K81 s82 a83 => ?_)
        have m84 : gSm S S79 [38, 39, 40, 41, 42, 43, 44, 45] [25, 26, 27, 28, 29, 30, 31, 32, 33, 34, 35, 36] := m76.tr s82 _ _ rfl rfl
        have K85 := K77.tr K81
        have NS79 : sN S79 45 = sN S71 45 := s82.n 45 (by decide)
        have Pa83 : gPsi S79 ≤ gPsi S71 := a83.2.2.2.2.2
        have ZS79 : sZ S79 43 ≤ sZ S71 43 := a83.2.2.2.2.1
        refine h_aload_n hC dX5_prepare_112 rfl ?_
        refine h_iconst (v := 0) hC dX5_prepare_113 rfl ?_
        refine hi_putx (i := 7) (kx := 29) hC I80 (by decide) fl_X5_42 rfl rfl rfl (Nat.le_of_ble_eq_true rfl) rfl gsame_29 (fun q => absurd q (by decide)) dX5_prepare_114 (fun F86 S87 I88 K89 s90 v91 p92 => ?_)
        have m93 : gSm S S87 [38, 39, 40, 41, 42, 43, 44, 45] [25, 26, 27, 28, 29, 30, 31, 32, 33, 34, 35, 36] := m84.tr s90 _ _ rfl rfl
        have K94 := K85.tr K89
        have NS87 : sN S87 45 = sN S79 45 := s90.n 45 (by decide)
        have ZS87 : sZ S87 43 = sZ S79 43 := s90.z 43 (by decide)
        refine h_aload_n hC dX5_prepare_117 rfl ?_
        refine h_iconst (v := (-1)) hC dX5_prepare_118 rfl ?_
        refine hi_putx (i := 7) (kx := 30) hC I88 (by decide) fl_X5_45 rfl rfl rfl (Nat.le_of_ble_eq_true rfl) rfl gsame_30 (fun q => absurd q (by decide)) dX5_prepare_119 (fun F95 S96 I97 K98 s99 v100 p101 => ?_)
        have m102 : gSm S S96 [38, 39, 40, 41, 42, 43, 44, 45] [25, 26, 27, 28, 29, 30, 31, 32, 33, 34, 35, 36] := m93.tr s99 _ _ rfl rfl
        have K103 := K94.tr K98
        have NS96 : sN S96 45 = sN S87 45 := s99.n 45 (by decide)
        have ZS96 : sZ S96 43 = sZ S87 43 := s99.z 43 (by decide)
        refine h_aload_n hC dX5_prepare_122 rfl ?_
        refine h_iconst (v := 0) hC dX5_prepare_123 rfl ?_
        refine hi_putx (i := 7) (kx := 32) hC I97 (by decide) fl_X5_51 rfl rfl rfl (Nat.le_of_ble_eq_true rfl) rfl gsame_32 (fun q => absurd q (by decide)) dX5_prepare_124 (fun F104 S105 I106 K107 s108 v109 p110 => ?_)
        have m111 : gSm S S105 [38, 39, 40, 41, 42, 43, 44, 45] [25, 26, 27, 28, 29, 30, 31, 32, 33, 34, 35, 36] := m102.tr s108 _ _ rfl rfl
        have K112 := K103.tr K107
        have NS105 : sN S105 45 = sN S96 45 := s108.n 45 (by decide)
        have ZS105 : sZ S105 43 = sZ S96 43 := s108.z 43 (by decide)
        refine h_aload_n hC dX5_prepare_127 rfl ?_
        refine h_iconst (v := 0) hC dX5_prepare_128 rfl ?_
        refine hi_putx (i := 7) (kx := 33) hC I106 (by decide) fl_X5_54 rfl rfl rfl (Nat.le_of_ble_eq_true rfl) rfl gsame_33 (fun q => absurd q (by decide)) dX5_prepare_129 (fun F113 S114 I115 K116 s117 v118 p119 => ?_)
        have m120 : gSm S S114 [38, 39, 40, 41, 42, 43, 44, 45] [25, 26, 27, 28, 29, 30, 31, 32, 33, 34, 35, 36] := m111.tr s117 _ _ rfl rfl
        have K121 := K112.tr K116
        have NS114 : sN S114 45 = sN S105 45 := s117.n 45 (by decide)
        have ZS114 : sZ S114 43 = sZ S105 43 := s117.z 43 (by decide)
        refine h_aload_n hC dX5_prepare_132 rfl ?_
        refine h_iconst (v := 0) hC dX5_prepare_133 rfl ?_
        refine hi_putx (i := 7) (kx := 34) hC I115 (by decide) fl_X5_57 rfl (hnb (Or.inl rfl)) rfl (Nat.le_of_ble_eq_true rfl) rfl gsame_34 (fun _ => (Or.inl rfl)) dX5_prepare_134 (fun F122 S123 I124 K125 s126 v127 p128 => ?_)
        have m129 : gSm S S123 [38, 39, 40, 41, 42, 43, 44, 45] [25, 26, 27, 28, 29, 30, 31, 32, 33, 34, 35, 36] := m120.tr s126 _ _ rfl rfl
        have K130 := K121.tr K125
        have NS123 : sN S123 45 = sN S114 45 := s126.n 45 (by decide)
        have ZS123 : sZ S123 43 = sZ S114 43 := s126.z 43 (by decide)
        refine h_aload_n hC dX5_prepare_137 rfl ?_
        refine h_iconst (v := (-1)) hC dX5_prepare_138 rfl ?_
        refine hi_putx (i := 7) (kx := 35) hC I124 (by decide) fl_X5_61 rfl rfl rfl (Nat.le_of_ble_eq_true rfl) rfl gsame_35 (fun q => absurd q (by decide)) dX5_prepare_139 (fun F131 S132 I133 K134 s135 v136 p137 => ?_)
        have m138 : gSm S S132 [38, 39, 40, 41, 42, 43, 44, 45] [25, 26, 27, 28, 29, 30, 31, 32, 33, 34, 35, 36] := m129.tr s135 _ _ rfl rfl
        have K139 := K130.tr K134
        have NS132 : sN S132 45 = sN S123 45 := s135.n 45 (by decide)
        have ZS132 : sZ S132 43 = sZ S123 43 := s135.z 43 (by decide)
        exact h_vret hC hr o61 rfl rfl ⟨S132, I133, K139, m138, by omega, by omega, by rw [show sN S132 45 = sN S16 45 from by omega]; exact iw⟩ dX5_prepare_142
      · have hlt := nI_ltP (by omega) c47
        refine h_aload_n hC dX5_prepare_63 rfl ?_
        refine h_iload_n hC dX5_prepare_64 rfl ?_
        refine h_aload_n hC dX5_prepare_65 rfl ?_
        refine h_get hC fl_X5_67 (I39.1.o 7 (by decide)) rfl dX5_prepare_66 ?_
        refine h_iload_n hC dX5_prepare_69 rfl ?_
        refine g_callVi (As := [.int (nI j34)]) hC rfl (I39.1.o 1 (by decide)) (p_P_wordAt X.la d b Y _ S38 I39.1 (nI j34)) cl_X5_120 rfl rfl (Nat.le_of_ble_eq_true rfl) (h_fit0 hC hr o40 (hFr_of (Nat.le_of_ble_eq_true rfl) (Nat.le_of_ble_eq_true rfl))) dX5_prepare_70 (fun r140 F141 p142 => ?_)
        obtain ⟨er140, eF141⟩ := p142; have eF141 := eF141.symm; subst eF141
        refine h_same hC o40 ?_
        refine h_callVv (As := [.int (nI j34), .int r140]) hC hr o40 rfl (I39.1.o 7 (by decide)) (s_M_put X.la d b Y c _ _ _ I39 (by omega) (by omega) (nI j34) r140) cl_X5_123 rfl rfl (Nat.le_of_ble_eq_true rfl) (hFr_of (Nat.le_of_ble_eq_true rfl) (Nat.le_of_ble_eq_true rfl)) dX5_prepare_73 (fun u144 p145 o146 => ?_)
        obtain ⟨S148, I149, K150, s151, q152⟩ := p145
        have m153 : gSm S S148 [38, 39, 40, 41, 42, 43, 44, 45] [25, 26, 27, 28, 29, 30, 31, 32, 33, 34, 35, 36] := m42.tr s151 _ _ rfl rfl
        have K154 := K41.tr K150
        have ZS148 : sZ S148 43 = sZ S38 43 := s151.z 43 (by decide)
        obtain ⟨aq152, bq152, nq152⟩ := q152
        obtain ⟨x155, ex155⟩ : ∃ y : Int32, y = (nI j34) + 1 := ⟨_, rfl⟩
        refine h_iinc (v := x155) (lv' := [some (.ref (gO' Y 7)), some (.int x155)]) hC dX5_prepare_76 rfl (by rw [ex155]; rfl) rfl rfl ?_
        refine h_goto (tgt := 52) hC dX5_prepare_79 (by decide) ?_
        have zJx155 : x155 = nI (j34 + 1) := by rw [ex155]; exact nI_suc
        subst zJx155
        refine h_lv (lv' := [some (.ref (gO' Y 7)), some (.int (nI (j34 + 1)))]) (by repeat (first | exact trivial | refine ⟨rfl, ?_⟩ | exact trivial)) ?_
        exact ih35 (m33 - 1) (by omega) (j34 + 1) (by omega) _ S148  I149 o146 K154 m153 (by omega) (by omega) (by omega)
    refine h_lv (lv' := [some (.ref (gO' Y 7)), some (.int 0)]) (by repeat (first | exact trivial | refine ⟨rfl, ?_⟩ | exact trivial)) ?_
    exact L32 (2147483647 - 0) 0 (by omega) (F21, u15.2.1, u15.2.2) S27  I28 o18 K31 m30 (by omega) (by omega) (by omega)
  refine h_aload_n hC dX5_prepare_11 rfl ?_
  refine h_get hC fl_X5_31 (I7.1.o 7 (by decide)) rfl dX5_prepare_12 ?_
  refine h_alen hC 0 I7.1.c rfl dX5_prepare_15 ?_
  refine h_aload_n hC dX5_prepare_16 rfl ?_
  refine h_get hC fl_X5_35 (I7.1.o 7 (by decide)) rfl dX5_prepare_17 ?_
  refine h_icmp_ge (tgt := 42) hC dX5_prepare_20 (by decide) (fun c156 => ?_) (fun c156 => ?_)
  · refine h_lv (lv' := [some (.ref (gO' Y 7)), none]) (by repeat (first | exact trivial | refine ⟨rfl, ?_⟩ | exact trivial)) ?_
    exact J14 (F5, k, n) S6  I7 ho K8 m12 (by omega) (by omega) (by rw [show sN S6 45 = sN S 45 from by omega]; exact hn)
  · refine h_aload_n hC dX5_prepare_23 rfl ?_
    refine h_get hC fl_X5_35 (I7.1.o 7 (by decide)) rfl dX5_prepare_24 ?_
    refine h_ldc hC dX5_prepare_27 kw_1650 ?_
    refine h_icmp_gt (tgt := 42) hC dX5_prepare_29 (by decide) (fun c157 => ?_) (fun c157 => ?_)
    · refine h_lv (lv' := [some (.ref (gO' Y 7)), none]) (by repeat (first | exact trivial | refine ⟨rfl, ?_⟩ | exact trivial)) ?_
      exact J14 (F5, k, n) S6  I7 ho K8 m12 (by omega) (by omega) (by rw [show sN S6 45 = sN S 45 from by omega]; exact hn)
    · refine h_aload_n hC dX5_prepare_32 rfl ?_
      refine h_aload_n hC dX5_prepare_33 rfl ?_
      refine h_get hC fl_X5_35 (I7.1.o 7 (by decide)) rfl dX5_prepare_34 ?_
      have hN0 : sN S6 45 = sN S 45 := by omega
      have hlt : sN S6 45 < NW := Nat.not_le.mp (fun q => c156 (by rw [v10, eW]; exact nI_le q (Nat.lt_of_le_of_lt I7.1.2.2.1.2.2.2 (by decide))))
      obtain ⟨g1, g2⟩ := gPw_next (a := sN S6 45) (by rw [hN0]; exact hn) hW2 hlt
      refine hi_newc hC hr ho I7 (N := NW) (v10.trans eW) g1 g2 (by omega) fl_X5_31 dX5_prepare_37 dX5_prepare_39 (fun F158 S159 I160 o161 K162 s163 n164 p165 z166 => ?_)
      have m167 : gSm S S159 [38, 39, 40, 41, 42, 43, 44, 45] [25, 26, 27, 28, 29, 30, 31, 32, 33, 34, 35, 36] := m12.tr s163 _ _ rfl rfl
      have K168 := K8.tr K162
      refine h_lv (lv' := [some (.ref (gO' Y 7)), none]) (by repeat (first | exact trivial | refine ⟨rfl, ?_⟩ | exact trivial)) ?_
      exact J14 (F158, (k + 1), (n + NW)) S159  I160 o161 K168 m167 (by omega) (by omega) (by rw [n164]; exact hW2)
