theorem kw_1645 : Cond.code yX5_prepare cX5_prepare 2 none ∈ gWs := List.mem_filter.mpr ⟨gMt6 _ (List.mem_of_getElem? (i := 208) rfl), rfl⟩
theorem kw_1642 : Cond.methodLink RX5 79 yX5_prepare ∈ gWs := List.mem_filter.mpr ⟨gMt6 _ (List.mem_of_getElem? (i := 205) rfl), rfl⟩
theorem kw_1644 : Cond.instanceMethod yX5_prepare ∈ gWs := List.mem_filter.mpr ⟨gMt6 _ (List.mem_of_getElem? (i := 207) rfl), rfl⟩
theorem kw_97 : Cond.selects RX5 yX5_prepare yX5_prepare ∈ gWs := gWm 97 (by decide +kernel) rfl
theorem cl_X5_79 : gCV RX5 79 yX5_prepare cX5_prepare 2 none 0 := ⟨g_mk [.methodLink RX5 79 yX5_prepare, .instanceMethod yX5_prepare, .selects yX5_prepare.cls yX5_prepare yX5_prepare, .initialized yX5_prepare.cls] (gWs_all kw_1645) (List.forall_mem_cons.mpr ⟨kw_1642, List.forall_mem_cons.mpr ⟨kw_1644, List.forall_mem_cons.mpr ⟨kw_97, List.forall_mem_cons.mpr ⟨kw_255, fun _ h => nomatch h⟩⟩⟩⟩), rfl, by decide +kernel, by decide +kernel, by decide +kernel⟩
theorem kw_1685 : Cond.code yX7_starter cX7_starter 1 (some .int) ∈ gWs := List.mem_filter.mpr ⟨gMt7 _ (List.mem_of_getElem? (i := 8) rfl), rfl⟩
theorem kw_1682 : Cond.methodLink RX5 82 yX7_starter ∈ gWs := List.mem_filter.mpr ⟨gMt7 _ (List.mem_of_getElem? (i := 5) rfl), rfl⟩
theorem kw_1683 : Cond.instanceMethod yX7_starter ∈ gWs := List.mem_filter.mpr ⟨gMt7 _ (List.mem_of_getElem? (i := 6) rfl), rfl⟩
theorem kw_1684 : Cond.selects RX7 yX7_starter yX7_starter ∈ gWs := List.mem_filter.mpr ⟨gMt7 _ (List.mem_of_getElem? (i := 7) rfl), rfl⟩
theorem cl_X5_82 : gCV RX5 82 yX7_starter cX7_starter 1 (some .int) 0 := ⟨g_mk [.methodLink RX5 82 yX7_starter, .instanceMethod yX7_starter, .selects yX7_starter.cls yX7_starter yX7_starter, .initialized yX7_starter.cls] (gWs_all kw_1685) (List.forall_mem_cons.mpr ⟨kw_1682, List.forall_mem_cons.mpr ⟨kw_1683, List.forall_mem_cons.mpr ⟨kw_1684, List.forall_mem_cons.mpr ⟨kw_240, fun _ h => nomatch h⟩⟩⟩⟩), rfl, by decide +kernel, by decide +kernel, by decide +kernel⟩
theorem kw_1720 : Cond.constantLong RX5 94 100000000000 ∈ gWs := List.mem_filter.mpr ⟨gMt7 _ (List.mem_of_getElem? (i := 43) rfl), rfl⟩
theorem kw_1724 : Cond.code yX7_codeAt cX7_codeAt 2 (some .int) ∈ gWs := List.mem_filter.mpr ⟨gMt7 _ (List.mem_of_getElem? (i := 47) rfl), rfl⟩
theorem kw_1721 : Cond.methodLink RX5 96 yX7_codeAt ∈ gWs := List.mem_filter.mpr ⟨gMt7 _ (List.mem_of_getElem? (i := 44) rfl), rfl⟩
theorem kw_1722 : Cond.instanceMethod yX7_codeAt ∈ gWs := List.mem_filter.mpr ⟨gMt7 _ (List.mem_of_getElem? (i := 45) rfl), rfl⟩
theorem kw_1723 : Cond.selects RX7 yX7_codeAt yX7_codeAt ∈ gWs := List.mem_filter.mpr ⟨gMt7 _ (List.mem_of_getElem? (i := 46) rfl), rfl⟩
theorem cl_X5_96 : gCV RX5 96 yX7_codeAt cX7_codeAt 2 (some .int) 1 := ⟨g_mk [.methodLink RX5 96 yX7_codeAt, .instanceMethod yX7_codeAt, .selects yX7_codeAt.cls yX7_codeAt yX7_codeAt, .initialized yX7_codeAt.cls] (gWs_all kw_1724) (List.forall_mem_cons.mpr ⟨kw_1721, List.forall_mem_cons.mpr ⟨kw_1722, List.forall_mem_cons.mpr ⟨kw_1723, List.forall_mem_cons.mpr ⟨kw_240, fun _ h => nomatch h⟩⟩⟩⟩), rfl, by decide +kernel, by decide +kernel, by decide +kernel⟩
theorem kw_1753 : Cond.code yX5_turn cX5_turn 5 none ∈ gWs := List.mem_filter.mpr ⟨gMt7 _ (List.mem_of_getElem? (i := 76) rfl), rfl⟩
theorem kw_1750 : Cond.methodLink RX5 104 yX5_turn ∈ gWs := List.mem_filter.mpr ⟨gMt7 _ (List.mem_of_getElem? (i := 73) rfl), rfl⟩
theorem kw_1752 : Cond.instanceMethod yX5_turn ∈ gWs := List.mem_filter.mpr ⟨gMt7 _ (List.mem_of_getElem? (i := 75) rfl), rfl⟩
theorem kw_110 : Cond.selects RX5 yX5_turn yX5_turn ∈ gWs := gWm 110 (by decide +kernel) rfl
theorem cl_X5_104 : gCV RX5 104 yX5_turn cX5_turn 5 none 2 := ⟨g_mk [.methodLink RX5 104 yX5_turn, .instanceMethod yX5_turn, .selects yX5_turn.cls yX5_turn yX5_turn, .initialized yX5_turn.cls] (gWs_all kw_1753) (List.forall_mem_cons.mpr ⟨kw_1750, List.forall_mem_cons.mpr ⟨kw_1752, List.forall_mem_cons.mpr ⟨kw_110, List.forall_mem_cons.mpr ⟨kw_255, fun _ h => nomatch h⟩⟩⟩⟩), rfl, by decide +kernel, by decide +kernel, by decide +kernel⟩
theorem kw_1791 : Cond.code yX5_serve cX5_serve 5 none ∈ gWs := List.mem_filter.mpr ⟨gMt7 _ (List.mem_of_getElem? (i := 114) rfl), rfl⟩
theorem kw_1788 : Cond.methodLink RX5 107 yX5_serve ∈ gWs := List.mem_filter.mpr ⟨gMt7 _ (List.mem_of_getElem? (i := 111) rfl), rfl⟩
theorem kw_1790 : Cond.instanceMethod yX5_serve ∈ gWs := List.mem_filter.mpr ⟨gMt7 _ (List.mem_of_getElem? (i := 113) rfl), rfl⟩
theorem kw_116 : Cond.selects RX5 yX5_serve yX5_serve ∈ gWs := gWm 116 (by decide +kernel) rfl
theorem cl_X5_107 : gCV RX5 107 yX5_serve cX5_serve 5 none 0 := ⟨g_mk [.methodLink RX5 107 yX5_serve, .instanceMethod yX5_serve, .selects yX5_serve.cls yX5_serve yX5_serve, .initialized yX5_serve.cls] (gWs_all kw_1791) (List.forall_mem_cons.mpr ⟨kw_1788, List.forall_mem_cons.mpr ⟨kw_1790, List.forall_mem_cons.mpr ⟨kw_116, List.forall_mem_cons.mpr ⟨kw_255, fun _ h => nomatch h⟩⟩⟩⟩), rfl, by decide +kernel, by decide +kernel, by decide +kernel⟩
theorem kw_1728 : Cond.code yX5_step cX5_step 4 none ∈ gWs := List.mem_filter.mpr ⟨gMt7 _ (List.mem_of_getElem? (i := 51) rfl), rfl⟩
theorem kw_1725 : Cond.methodLink RX5 100 yX5_step ∈ gWs := List.mem_filter.mpr ⟨gMt7 _ (List.mem_of_getElem? (i := 48) rfl), rfl⟩
theorem kw_1727 : Cond.instanceMethod yX5_step ∈ gWs := List.mem_filter.mpr ⟨gMt7 _ (List.mem_of_getElem? (i := 50) rfl), rfl⟩
theorem kw_104 : Cond.selects RX5 yX5_step yX5_step ∈ gWs := gWm 104 (by decide +kernel) rfl
theorem cl_X5_100 : gCV RX5 100 yX5_step cX5_step 4 none 2 := ⟨g_mk [.methodLink RX5 100 yX5_step, .instanceMethod yX5_step, .selects yX5_step.cls yX5_step yX5_step, .initialized yX5_step.cls] (gWs_all kw_1728) (List.forall_mem_cons.mpr ⟨kw_1725, List.forall_mem_cons.mpr ⟨kw_1727, List.forall_mem_cons.mpr ⟨kw_104, List.forall_mem_cons.mpr ⟨kw_255, fun _ h => nomatch h⟩⟩⟩⟩), rfl, by decide +kernel, by decide +kernel, by decide +kernel⟩
def nJ (j : Nat) : Int64 := Int64.ofNat j
theorem nJ_suc {j : Nat} : nJ j + 1 = nJ (j + 1) := by
  apply Int64.toBitVec_inj.mp
  show BitVec.ofNat 64 j + 1#64 = BitVec.ofNat 64 (j + 1)
  rw [BitVec.ofNat_add]
theorem nJ_lt {j : Nat} {y : Int32} (h : j ≤ 100000000000) (ey : y = lg_cmp (nJ j) 100000000000) (h2 : ¬ 0 ≤ y) : j < 100000000000 := Nat.lt_of_le_of_ne h (fun q => h2 (by subst q; rw [ey]; decide))
theorem dX5_go_0 : decode cX5_go 0 = .ok (.aload_n 0, 1) := by decide +kernel
theorem dX5_go_1 : decode cX5_go 1 = .ok (.invokevirtual 79, 3) := by decide +kernel
theorem dX5_go_4 : decode cX5_go 4 = .ok (.aload_n 0, 1) := by decide +kernel
theorem dX5_go_5 : decode cX5_go 5 = .ok (.iload_n 1, 1) := by decide +kernel
theorem dX5_go_6 : decode cX5_go 6 = .ok (.putfield 48, 3) := by decide +kernel
theorem dX5_go_9 : decode cX5_go 9 = .ok (.aload_n 0, 1) := by decide +kernel
theorem dX5_go_10 : decode cX5_go 10 = .ok (.aload_n 0, 1) := by decide +kernel
theorem dX5_go_11 : decode cX5_go 11 = .ok (.getfield 67, 3) := by decide +kernel
theorem dX5_go_14 : decode cX5_go 14 = .ok (.invokevirtual 82, 3) := by decide +kernel
theorem dX5_go_17 : decode cX5_go 17 = .ok (.iconst 0, 1) := by decide +kernel
theorem dX5_go_18 : decode cX5_go 18 = .ok (.aload_n 0, 1) := by decide +kernel
theorem dX5_go_19 : decode cX5_go 19 = .ok (.getfield 67, 3) := by decide +kernel
theorem dX5_go_22 : decode cX5_go 22 = .ok (.invokevirtual 88, 3) := by decide +kernel
theorem dX5_go_25 : decode cX5_go 25 = .ok (.invokevirtual 90, 3) := by decide +kernel
theorem dX5_go_28 : decode cX5_go 28 = .ok (.lconst 0, 1) := by decide +kernel
theorem dX5_go_29 : decode cX5_go 29 = .ok (.lstore_n 2, 1) := by decide +kernel
theorem dX5_go_30 : decode cX5_go 30 = .ok (.lload_n 2, 1) := by decide +kernel
theorem dX5_go_31 : decode cX5_go 31 = .ok (.ldc2_w 94, 3) := by decide +kernel
theorem dX5_go_34 : decode cX5_go 34 = .ok (.lcmp, 1) := by decide +kernel
theorem dX5_go_35 : decode cX5_go 35 = .ok (.ifCond .ge 93, 3) := by decide +kernel
theorem dX5_go_38 : decode cX5_go 38 = .ok (.aload_n 0, 1) := by decide +kernel
theorem dX5_go_39 : decode cX5_go 39 = .ok (.getfield 57, 3) := by decide +kernel
theorem dX5_go_42 : decode cX5_go 42 = .ok (.ifCond .ne 86, 3) := by decide +kernel
theorem dX5_go_45 : decode cX5_go 45 = .ok (.aload_n 0, 1) := by decide +kernel
theorem dX5_go_46 : decode cX5_go 46 = .ok (.getfield 67, 3) := by decide +kernel
theorem dX5_go_49 : decode cX5_go 49 = .ok (.aload_n 0, 1) := by decide +kernel
theorem dX5_go_50 : decode cX5_go 50 = .ok (.getfield 39, 3) := by decide +kernel
theorem dX5_go_53 : decode cX5_go 53 = .ok (.invokevirtual 96, 3) := by decide +kernel
theorem dX5_go_56 : decode cX5_go 56 = .ok (.istore 4, 2) := by decide +kernel
theorem dX5_go_58 : decode cX5_go 58 = .ok (.aload_n 0, 1) := by decide +kernel
theorem dX5_go_59 : decode cX5_go 59 = .ok (.getfield 67, 3) := by decide +kernel
theorem dX5_go_62 : decode cX5_go 62 = .ok (.aload_n 0, 1) := by decide +kernel
theorem dX5_go_63 : decode cX5_go 63 = .ok (.getfield 39, 3) := by decide +kernel
theorem dX5_go_66 : decode cX5_go 66 = .ok (.iconst 1, 1) := by decide +kernel
theorem dX5_go_67 : decode cX5_go 67 = .ok (.iadd, 1) := by decide +kernel
theorem dX5_go_68 : decode cX5_go 68 = .ok (.invokevirtual 96, 3) := by decide +kernel
theorem dX5_go_71 : decode cX5_go 71 = .ok (.istore 5, 2) := by decide +kernel
theorem dX5_go_73 : decode cX5_go 73 = .ok (.aload_n 0, 1) := by decide +kernel
theorem dX5_go_74 : decode cX5_go 74 = .ok (.dup, 1) := by decide +kernel
theorem dX5_go_75 : decode cX5_go 75 = .ok (.getfield 39, 3) := by decide +kernel
theorem dX5_go_78 : decode cX5_go 78 = .ok (.iconst 2, 1) := by decide +kernel
theorem dX5_go_79 : decode cX5_go 79 = .ok (.iadd, 1) := by decide +kernel
theorem dX5_go_80 : decode cX5_go 80 = .ok (.putfield 39, 3) := by decide +kernel
theorem dX5_go_83 : decode cX5_go 83 = .ok (.iload 4, 2) := by decide +kernel
theorem dX5_go_85 : decode cX5_go 85 = .ok (.bipush 13, 2) := by decide +kernel
theorem dX5_go_87 : decode cX5_go 87 = .ok (.if_icmp .gt 14, 3) := by decide +kernel
theorem dX5_go_90 : decode cX5_go 90 = .ok (.aload_n 0, 1) := by decide +kernel
theorem dX5_go_91 : decode cX5_go 91 = .ok (.iload 4, 2) := by decide +kernel
theorem dX5_go_93 : decode cX5_go 93 = .ok (.iload 5, 2) := by decide +kernel
theorem dX5_go_95 : decode cX5_go 95 = .ok (.invokevirtual 100, 3) := by decide +kernel
theorem dX5_go_98 : decode cX5_go 98 = .ok (.goto 11, 3) := by decide +kernel
theorem dX5_go_101 : decode cX5_go 101 = .ok (.aload_n 0, 1) := by decide +kernel
theorem dX5_go_102 : decode cX5_go 102 = .ok (.iload 4, 2) := by decide +kernel
theorem dX5_go_104 : decode cX5_go 104 = .ok (.iload 5, 2) := by decide +kernel
theorem dX5_go_106 : decode cX5_go 106 = .ok (.invokevirtual 104, 3) := by decide +kernel
theorem dX5_go_109 : decode cX5_go 109 = .ok (.aload_n 0, 1) := by decide +kernel
theorem dX5_go_110 : decode cX5_go 110 = .ok (.getfield 61, 3) := by decide +kernel
theorem dX5_go_113 : decode cX5_go 113 = .ok (.iconst (-1), 1) := by decide +kernel
theorem dX5_go_114 : decode cX5_go 114 = .ok (.if_icmp .eq 7, 3) := by decide +kernel
theorem dX5_go_117 : decode cX5_go 117 = .ok (.aload_n 0, 1) := by decide +kernel
theorem dX5_go_118 : decode cX5_go 118 = .ok (.invokevirtual 107, 3) := by decide +kernel
theorem dX5_go_121 : decode cX5_go 121 = .ok (.lload_n 2, 1) := by decide +kernel
theorem dX5_go_122 : decode cX5_go 122 = .ok (.lconst 1, 1) := by decide +kernel
theorem dX5_go_123 : decode cX5_go 123 = .ok (.ladd, 1) := by decide +kernel
theorem dX5_go_124 : decode cX5_go 124 = .ok (.lstore_n 2, 1) := by decide +kernel
theorem dX5_go_125 : decode cX5_go 125 = .ok (.goto (-95), 3) := by decide +kernel
theorem dX5_go_128 : decode cX5_go 128 = .ok (.aload_n 0, 1) := by decide +kernel
theorem dX5_go_129 : decode cX5_go 129 = .ok (.getfield 54, 3) := by decide +kernel
theorem dX5_go_132 : decode cX5_go 132 = .ok (.ireturn, 1) := by decide +kernel
set_option maxHeartbeats 4000000 in
set_option maxRecDepth 100000 in
theorem s_M_go (l : Launch) (d : gD) (b : Nat) (Y : gYt) (c : Nat × Nat) (F : gM) (k n : Nat) {S : gSt} (hi : hI d b Y c (F, k, n) S) (hA : gPsi S ≤ gAm) (h43 : sZ S 43 ≤ 404) (hw : ∃ N, gPw N ∧ sV S 2 = nI N) (hn : gPw (sN S 45)) (x : Int32) : hMi l d b yX5_go cX5_go 6 .int 10 k n F [.ref (gO' Y 7), .int x] (fun r u => ∃ S', hI d b Y c u S' ∧ gKp Y F u.1 ∧ gSm S S' [38, 39, 40, 41, 42, 43, 44, 45] [25, 26, 27, 28, 29, 30, 31, 32, 33, 34, 35, 36] ∧ sZ S' 43 ≤ 404 ∧ gPsi S' ≤ gPsi S ∧ gPw (sN S' 45)) := by
  intro mc ms
  refine hM_of2 rfl (nL := 6) (Nat.le_of_ble_eq_true rfl) ?_
  intro X hX hC hr ho; subst hX
  show hG X d b _ F k n 0 [some (.ref (gO' Y 7)), some (.int x), none, none, none, none] []
  refine h_aload_n hC dX5_go_0 rfl ?_
  refine h_callVv (As := []) hC hr ho rfl (hi.1.o 7 (by decide)) (s_M_prepare X.la d b Y c _ _ _ hi (by omega) (by omega) hw hn) cl_X5_79 rfl rfl (Nat.le_of_ble_eq_true rfl) (hFr_of (Nat.le_of_ble_eq_true rfl) (Nat.le_of_ble_eq_true rfl)) dX5_go_1 (fun u1 p2 o3 => ?_)
  obtain ⟨S5, I6, K7, s8, q9⟩ := p2
  have m10 : gSm S S5 [38, 39, 40, 41, 42, 43, 44, 45] [25, 26, 27, 28, 29, 30, 31, 32, 33, 34, 35, 36] := gSm.wk s8 _ _ rfl rfl
  obtain ⟨aq9, bq9, nq9⟩ := q9
  refine h_aload_n hC dX5_go_4 rfl ?_
  refine h_iload_n hC dX5_go_5 rfl ?_
  refine hi_putx (i := 7) (kx := 31) hC I6 (by decide) fl_X5_48 rfl rfl rfl (Nat.le_of_ble_eq_true rfl) rfl gsame_31 (fun q => absurd q (by decide)) dX5_go_6 (fun F12 S13 I14 K15 s16 v17 p18 => ?_)
  have m19 : gSm S S13 [38, 39, 40, 41, 42, 43, 44, 45] [25, 26, 27, 28, 29, 30, 31, 32, 33, 34, 35, 36] := m10.tr s16 _ _ rfl rfl
  have K20 := K7.tr K15
  have NS13 : sN S13 45 = sN S5 45 := s16.n 45 (by decide)
  have ZS13 : sZ S13 43 = sZ S5 43 := s16.z 43 (by decide)
  refine h_aload_n hC dX5_go_9 rfl ?_
  refine h_aload_n hC dX5_go_10 rfl ?_
  refine h_get hC fl_X5_67 (I14.1.o 7 (by decide)) rfl dX5_go_11 ?_
  refine g_callVi (As := []) hC rfl (I14.1.o 1 (by decide)) (p_P_starter X.la d b Y _ S13 I14.1 ) cl_X5_82 rfl rfl (Nat.le_of_ble_eq_true rfl) (h_fit0 hC hr o3 (hFr_of (Nat.le_of_ble_eq_true rfl) (Nat.le_of_ble_eq_true rfl))) dX5_go_14 (fun r21 F22 p23 => ?_)
  obtain ⟨er21, eF22⟩ := p23; have eF22 := eF22.symm; subst eF22
  refine h_same hC o3 ?_
  refine h_iconst (v := 0) hC dX5_go_17 rfl ?_
  refine h_aload_n hC dX5_go_18 rfl ?_
  refine h_get hC fl_X5_67 (I14.1.o 7 (by decide)) rfl dX5_go_19 ?_
  refine g_callVi (As := []) hC rfl (I14.1.o 1 (by decide)) (p_P_words X.la d b Y _ S13 I14.1 ) cl_X5_88 rfl rfl (Nat.le_of_ble_eq_true rfl) (h_fit0 hC hr o3 (hFr_of (Nat.le_of_ble_eq_true rfl) (Nat.le_of_ble_eq_true rfl))) dX5_go_22 (fun r25 F26 p27 => ?_)
  obtain ⟨er25, eF26⟩ := p27; have eF26 := eF26.symm; subst eF26
  refine h_same hC o3 ?_
  refine h_callVv (As := [.int r21, .int 0, .int r25]) hC hr o3 rfl (I14.1.o 7 (by decide)) (s_M_enter X.la d b Y c _ _ _ I14 (by omega) (by omega) r21 0 r25) cl_X5_90 rfl rfl (Nat.le_of_ble_eq_true rfl) (hFr_of (Nat.le_of_ble_eq_true rfl) (Nat.le_of_ble_eq_true rfl)) dX5_go_25 (fun u29 p30 o31 => ?_)
  obtain ⟨S33, I34, K35, s36, q37⟩ := p30
  have m38 : gSm S S33 [38, 39, 40, 41, 42, 43, 44, 45] [25, 26, 27, 28, 29, 30, 31, 32, 33, 34, 35, 36] := m19.tr s36 _ _ rfl rfl
  have K39 := K20.tr K35
  obtain ⟨aq37, bq37, nq37⟩ := q37
  refine h_lconst (v := 0) hC dX5_go_28 rfl ?_
  refine h_lstore_n (lv' := [some (.ref (gO' Y 7)), some (.int x), some (.long 0), none, none, none]) hC dX5_go_29 (Nat.le_of_ble_eq_true rfl) rfl rfl ?_
  have L40 : ∀ (m41 j42 : Nat), j42 + m41 = 100000000000 → ∀ (u45 : hU) (S46 : gSt), hI d b Y c u45 S46 → hOk X b u45.2.1 u45.2.2 → gKp Y F u45.1 → gSm S S46 [38, 39, 40, 41, 42, 43, 44, 45] [25, 26, 27, 28, 29, 30, 31, 32, 33, 34, 35, 36] → (sZ S46 43 ≤ 404) → (gPsi S46 ≤ gPsi S) → (sN S46 45 = sN S5 45) → hG X d b (MQ X.be (va_Qi (fun r u => ∃ S', hI d b Y c u S' ∧ gKp Y F u.1 ∧ gSm S S' [38, 39, 40, 41, 42, 43, 44, 45] [25, 26, 27, 28, 29, 30, 31, 32, 33, 34, 35, 36] ∧ sZ S' 43 ≤ 404 ∧ gPsi S' ≤ gPsi S ∧ gPw (sN S' 45)) (hB d b) (fun q => b ≤ q)) X.ar X.st mc ms (fun q => b ≤ q)) u45.1 u45.2.1 u45.2.2 30 [some (.ref (gO' Y 7)), some (.int x), some (.long (nJ j42)), none, none, none] [] := by
    intro m41
    refine Nat.strongRecOn m41 (fun m41 ih43 j42 hj44 u45 S46 I47 o48 K49 m50 i43 ips iN => ?_)
    refine h_lload_n hC dX5_go_30 rfl ?_
    refine h_ldc2 hC dX5_go_31 kw_1720 ?_
    refine h_lcmp hC dX5_go_34 ?_
    refine h_vi (fun x51 ex51 => ?_)
    refine h_if_ge (tgt := 128) hC dX5_go_35 (by decide) (fun c52 => ?_) (fun c52 => ?_)
    · refine h_aload_n hC dX5_go_128 rfl ?_
      refine h_get hC fl_X5_54 (I47.1.o 7 (by decide)) rfl dX5_go_129 ?_
      exact h_iret hC hr o48 rfl rfl rfl ⟨S46, I47, K49, m50, by omega, by omega, by rw [show sN S46 45 = sN S5 45 from by omega]; exact nq9⟩ dX5_go_132
    · have hlt := nJ_lt (by omega) ex51 c52
      refine h_aload_n hC dX5_go_38 rfl ?_
      refine h_get hC fl_X5_57 (I47.1.o 7 (by decide)) rfl dX5_go_39 ?_
      refine h_if_ne (tgt := 128) hC dX5_go_42 (by decide) (fun c53 => ?_) (fun c53 => ?_)
      · refine h_aload_n hC dX5_go_128 rfl ?_
        refine h_get hC fl_X5_54 (I47.1.o 7 (by decide)) rfl dX5_go_129 ?_
        exact h_iret hC hr o48 rfl rfl rfl ⟨S46, I47, K49, m50, by omega, by omega, by rw [show sN S46 45 = sN S5 45 from by omega]; exact nq9⟩ dX5_go_132
      · refine h_aload_n hC dX5_go_45 rfl ?_
        refine h_get hC fl_X5_67 (I47.1.o 7 (by decide)) rfl dX5_go_46 ?_
        refine h_aload_n hC dX5_go_49 rfl ?_
        refine h_get hC fl_X5_39 (I47.1.o 7 (by decide)) rfl dX5_go_50 ?_
        refine g_callVi (As := [.int (sV S46 28)]) hC rfl (I47.1.o 1 (by decide)) (p_P_codeAt X.la d b Y _ S46 I47.1 (sV S46 28)) cl_X5_96 rfl rfl (Nat.le_of_ble_eq_true rfl) (h_fit0 hC hr o48 (hFr_of (Nat.le_of_ble_eq_true rfl) (Nat.le_of_ble_eq_true rfl))) dX5_go_53 (fun r54 F55 p56 => ?_)
        obtain ⟨er54, eF55⟩ := p56; have eF55 := eF55.symm; subst eF55
        refine h_same hC o48 ?_
        refine h_istore (lv' := [some (.ref (gO' Y 7)), some (.int x), some (.long (nJ j42)), none, some (.int r54), none]) hC dX5_go_56 (Nat.le_of_ble_eq_true rfl) rfl rfl ?_
        refine h_aload_n hC dX5_go_58 rfl ?_
        refine h_get hC fl_X5_67 (I47.1.o 7 (by decide)) rfl dX5_go_59 ?_
        refine h_aload_n hC dX5_go_62 rfl ?_
        refine h_get hC fl_X5_39 (I47.1.o 7 (by decide)) rfl dX5_go_63 ?_
        refine h_iconst (v := 1) hC dX5_go_66 rfl ?_
        refine h_iadd hC dX5_go_67 ?_
        refine h_vi (fun x58 ex58 => ?_)
        refine g_callVi (As := [.int x58]) hC rfl (I47.1.o 1 (by decide)) (p_P_codeAt X.la d b Y _ S46 I47.1 x58) cl_X5_96 rfl rfl (Nat.le_of_ble_eq_true rfl) (h_fit0 hC hr o48 (hFr_of (Nat.le_of_ble_eq_true rfl) (Nat.le_of_ble_eq_true rfl))) dX5_go_68 (fun r59 F60 p61 => ?_)
        obtain ⟨er59, eF60⟩ := p61; have eF60 := eF60.symm; subst eF60
        refine h_same hC o48 ?_
        refine h_istore (lv' := [some (.ref (gO' Y 7)), some (.int x), some (.long (nJ j42)), none, some (.int r54), some (.int r59)]) hC dX5_go_71 (Nat.le_of_ble_eq_true rfl) rfl rfl ?_
        refine h_aload_n hC dX5_go_73 rfl ?_
        refine h_dup hC dX5_go_74 rfl ?_
        refine h_get hC fl_X5_39 (I47.1.o 7 (by decide)) rfl dX5_go_75 ?_
        refine h_iconst (v := 2) hC dX5_go_78 rfl ?_
        refine h_iadd hC dX5_go_79 ?_
        refine h_vi (fun x63 ex63 => ?_)
        refine hi_putx (i := 7) (kx := 28) hC I47 (by decide) fl_X5_39 rfl rfl rfl (Nat.le_of_ble_eq_true rfl) rfl gsame_28 (fun q => absurd q (by decide)) dX5_go_80 (fun F64 S65 I66 K67 s68 v69 p70 => ?_)
        have m71 : gSm S S65 [38, 39, 40, 41, 42, 43, 44, 45] [25, 26, 27, 28, 29, 30, 31, 32, 33, 34, 35, 36] := m50.tr s68 _ _ rfl rfl
        have K72 := K49.tr K67
        have NS65 : sN S65 45 = sN S46 45 := s68.n 45 (by decide)
        have ZS65 : sZ S65 43 = sZ S46 43 := s68.z 43 (by decide)
        refine h_iload hC dX5_go_83 rfl ?_
        refine h_bipush (v := 13) hC dX5_go_85 rfl ?_
        refine h_icmp_gt (tgt := 101) hC dX5_go_87 (by decide) (fun c73 => ?_) (fun c73 => ?_)
        · refine h_aload_n hC dX5_go_101 rfl ?_
          refine h_iload hC dX5_go_102 rfl ?_
          refine h_iload hC dX5_go_104 rfl ?_
          refine h_callVv (As := [.int r54, .int r59]) hC hr o48 rfl (I66.1.o 7 (by decide)) (s_M_turn X.la d b Y c _ _ _ I66 (by omega) (by omega) r54 r59) cl_X5_104 rfl rfl (Nat.le_of_ble_eq_true rfl) (hFr_of (Nat.le_of_ble_eq_true rfl) (Nat.le_of_ble_eq_true rfl)) dX5_go_106 (fun u74 p75 o76 => ?_)
          obtain ⟨S78, I79, K80, s81, q82⟩ := p75
          have m83 : gSm S S78 [38, 39, 40, 41, 42, 43, 44, 45] [25, 26, 27, 28, 29, 30, 31, 32, 33, 34, 35, 36] := m71.tr s81 _ _ rfl rfl
          have K84 := K72.tr K80
          obtain ⟨aq82, bq82, nq82⟩ := q82
          refine h_aload_n hC dX5_go_109 rfl ?_
          refine h_get hC fl_X5_61 (I79.1.o 7 (by decide)) rfl dX5_go_110 ?_
          refine h_iconst (v := (-1)) hC dX5_go_113 rfl ?_
          refine h_icmp_eq (tgt := 121) hC dX5_go_114 (by decide) (fun c85 => ?_) (fun c85 => ?_)
          · refine h_lload_n hC dX5_go_121 rfl ?_
            refine h_lconst (v := 1) hC dX5_go_122 rfl ?_
            refine h_ladd hC dX5_go_123 ?_
            refine h_vl (fun x86 ex86 => ?_)
            refine h_lstore_n (lv' := [some (.ref (gO' Y 7)), some (.int x), some (.long x86), none, some (.int r54), some (.int r59)]) hC dX5_go_124 (Nat.le_of_ble_eq_true rfl) rfl rfl ?_
            refine h_goto (tgt := 30) hC dX5_go_125 (by decide) ?_
            have zJx86 : x86 = nJ (j42 + 1) := by rw [ex86]; exact nJ_suc
            subst zJx86
            refine h_lv (lv' := [some (.ref (gO' Y 7)), some (.int x), some (.long (nJ (j42 + 1))), none, none, none]) (by repeat (first | exact trivial | refine ⟨rfl, ?_⟩ | exact trivial)) ?_
            exact ih43 (m41 - 1) (by omega) (j42 + 1) (by omega) _ S78  I79 o76 K84 m83 (by omega) (by omega) (by omega)
          · refine h_aload_n hC dX5_go_117 rfl ?_
            refine h_callVv (As := []) hC hr o76 rfl (I79.1.o 7 (by decide)) (s_M_serve X.la d b Y c _ _ _ I79 (by omega) (by omega) ) cl_X5_107 rfl rfl (Nat.le_of_ble_eq_true rfl) (hFr_of (Nat.le_of_ble_eq_true rfl) (Nat.le_of_ble_eq_true rfl)) dX5_go_118 (fun u87 p88 o89 => ?_)
            obtain ⟨S91, I92, K93, s94, q95⟩ := p88
            have m96 : gSm S S91 [38, 39, 40, 41, 42, 43, 44, 45] [25, 26, 27, 28, 29, 30, 31, 32, 33, 34, 35, 36] := m83.tr s94 _ _ rfl rfl
            have K97 := K84.tr K93
            have ZS91 : sZ S91 43 = sZ S78 43 := s94.z 43 (by decide)
            obtain ⟨aq95, bq95, nq95⟩ := q95
            refine h_lload_n hC dX5_go_121 rfl ?_
            refine h_lconst (v := 1) hC dX5_go_122 rfl ?_
            refine h_ladd hC dX5_go_123 ?_
            refine h_vl (fun x98 ex98 => ?_)
            refine h_lstore_n (lv' := [some (.ref (gO' Y 7)), some (.int x), some (.long x98), none, some (.int r54), some (.int r59)]) hC dX5_go_124 (Nat.le_of_ble_eq_true rfl) rfl rfl ?_
            refine h_goto (tgt := 30) hC dX5_go_125 (by decide) ?_
            have zJx98 : x98 = nJ (j42 + 1) := by rw [ex98]; exact nJ_suc
            subst zJx98
            refine h_lv (lv' := [some (.ref (gO' Y 7)), some (.int x), some (.long (nJ (j42 + 1))), none, none, none]) (by repeat (first | exact trivial | refine ⟨rfl, ?_⟩ | exact trivial)) ?_
            exact ih43 (m41 - 1) (by omega) (j42 + 1) (by omega) _ S91  I92 o89 K97 m96 (by omega) (by omega) (by omega)
        · refine h_aload_n hC dX5_go_90 rfl ?_
          refine h_iload hC dX5_go_91 rfl ?_
          refine h_iload hC dX5_go_93 rfl ?_
          refine h_callVv (As := [.int r54, .int r59]) hC hr o48 rfl (I66.1.o 7 (by decide)) (s_M_step X.la d b Y c _ _ _ I66 (by omega) (by omega) r54 r59) cl_X5_100 rfl rfl (Nat.le_of_ble_eq_true rfl) (hFr_of (Nat.le_of_ble_eq_true rfl) (Nat.le_of_ble_eq_true rfl)) dX5_go_95 (fun u99 p100 o101 => ?_)
          obtain ⟨S103, I104, K105, s106, q107⟩ := p100
          have m108 : gSm S S103 [38, 39, 40, 41, 42, 43, 44, 45] [25, 26, 27, 28, 29, 30, 31, 32, 33, 34, 35, 36] := m71.tr s106 _ _ rfl rfl
          have K109 := K72.tr K105
          have ZS103 : sZ S103 43 = sZ S65 43 := s106.z 43 (by decide)
          obtain ⟨aq107, bq107, nq107⟩ := q107
          refine h_goto (tgt := 109) hC dX5_go_98 (by decide) ?_
          refine h_aload_n hC dX5_go_109 rfl ?_
          refine h_get hC fl_X5_61 (I104.1.o 7 (by decide)) rfl dX5_go_110 ?_
          refine h_iconst (v := (-1)) hC dX5_go_113 rfl ?_
          refine h_icmp_eq (tgt := 121) hC dX5_go_114 (by decide) (fun c110 => ?_) (fun c110 => ?_)
          · refine h_lload_n hC dX5_go_121 rfl ?_
            refine h_lconst (v := 1) hC dX5_go_122 rfl ?_
            refine h_ladd hC dX5_go_123 ?_
            refine h_vl (fun x111 ex111 => ?_)
            refine h_lstore_n (lv' := [some (.ref (gO' Y 7)), some (.int x), some (.long x111), none, some (.int r54), some (.int r59)]) hC dX5_go_124 (Nat.le_of_ble_eq_true rfl) rfl rfl ?_
            refine h_goto (tgt := 30) hC dX5_go_125 (by decide) ?_
            have zJx111 : x111 = nJ (j42 + 1) := by rw [ex111]; exact nJ_suc
            subst zJx111
            refine h_lv (lv' := [some (.ref (gO' Y 7)), some (.int x), some (.long (nJ (j42 + 1))), none, none, none]) (by repeat (first | exact trivial | refine ⟨rfl, ?_⟩ | exact trivial)) ?_
            exact ih43 (m41 - 1) (by omega) (j42 + 1) (by omega) _ S103  I104 o101 K109 m108 (by omega) (by omega) (by omega)
          · refine h_aload_n hC dX5_go_117 rfl ?_
            refine h_callVv (As := []) hC hr o101 rfl (I104.1.o 7 (by decide)) (s_M_serve X.la d b Y c _ _ _ I104 (by omega) (by omega) ) cl_X5_107 rfl rfl (Nat.le_of_ble_eq_true rfl) (hFr_of (Nat.le_of_ble_eq_true rfl) (Nat.le_of_ble_eq_true rfl)) dX5_go_118 (fun u112 p113 o114 => ?_)
            obtain ⟨S116, I117, K118, s119, q120⟩ := p113
            have m121 : gSm S S116 [38, 39, 40, 41, 42, 43, 44, 45] [25, 26, 27, 28, 29, 30, 31, 32, 33, 34, 35, 36] := m108.tr s119 _ _ rfl rfl
            have K122 := K109.tr K118
            have ZS116 : sZ S116 43 = sZ S103 43 := s119.z 43 (by decide)
            obtain ⟨aq120, bq120, nq120⟩ := q120
            refine h_lload_n hC dX5_go_121 rfl ?_
            refine h_lconst (v := 1) hC dX5_go_122 rfl ?_
            refine h_ladd hC dX5_go_123 ?_
            refine h_vl (fun x123 ex123 => ?_)
            refine h_lstore_n (lv' := [some (.ref (gO' Y 7)), some (.int x), some (.long x123), none, some (.int r54), some (.int r59)]) hC dX5_go_124 (Nat.le_of_ble_eq_true rfl) rfl rfl ?_
            refine h_goto (tgt := 30) hC dX5_go_125 (by decide) ?_
            have zJx123 : x123 = nJ (j42 + 1) := by rw [ex123]; exact nJ_suc
            subst zJx123
            refine h_lv (lv' := [some (.ref (gO' Y 7)), some (.int x), some (.long (nJ (j42 + 1))), none, none, none]) (by repeat (first | exact trivial | refine ⟨rfl, ?_⟩ | exact trivial)) ?_
            exact ih43 (m41 - 1) (by omega) (j42 + 1) (by omega) _ S116  I117 o114 K122 m121 (by omega) (by omega) (by omega)
  refine h_lv (lv' := [some (.ref (gO' Y 7)), some (.int x), some (.long 0), none, none, none]) (by repeat (first | exact trivial | refine ⟨rfl, ?_⟩ | exact trivial)) ?_
  exact L40 (100000000000 - 0) 0 (by omega) (u29.1, u29.2.1, u29.2.2) S33  I34 o31 K39 m38 (by omega) (by omega) (by omega)
