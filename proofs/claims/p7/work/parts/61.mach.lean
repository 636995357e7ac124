theorem kw_1847 : Cond.code yX5_reckon cX5_reckon 5 (some .int) ∈ gWs := List.mem_filter.mpr ⟨gMt7 _ (List.mem_of_getElem? (i := 170) rfl), rfl⟩
theorem kw_1844 : Cond.methodLink RX5 231 yX5_reckon ∈ gWs := List.mem_filter.mpr ⟨gMt7 _ (List.mem_of_getElem? (i := 167) rfl), rfl⟩
theorem kw_1846 : Cond.instanceMethod yX5_reckon ∈ gWs := List.mem_filter.mpr ⟨gMt7 _ (List.mem_of_getElem? (i := 169) rfl), rfl⟩
theorem kw_121 : Cond.selects RX5 yX5_reckon yX5_reckon ∈ gWs := gWm 121 (by decide +kernel) rfl
theorem cl_X5_231 : gCV RX5 231 yX5_reckon cX5_reckon 5 (some .int) 4 := ⟨g_mk [.methodLink RX5 231 yX5_reckon, .instanceMethod yX5_reckon, .selects yX5_reckon.cls yX5_reckon yX5_reckon, .initialized yX5_reckon.cls] (gWs_all kw_1847) (List.forall_mem_cons.mpr ⟨kw_1844, List.forall_mem_cons.mpr ⟨kw_1846, List.forall_mem_cons.mpr ⟨kw_121, List.forall_mem_cons.mpr ⟨kw_255, fun _ h => nomatch h⟩⟩⟩⟩), rfl, by decide +kernel, by decide +kernel, by decide +kernel⟩
theorem kw_1795 : Cond.code yX5_exchange cX5_exchange 3 (some .int) ∈ gWs := List.mem_filter.mpr ⟨gMt7 _ (List.mem_of_getElem? (i := 118) rfl), rfl⟩
theorem kw_1792 : Cond.methodLink RX5 228 yX5_exchange ∈ gWs := List.mem_filter.mpr ⟨gMt7 _ (List.mem_of_getElem? (i := 115) rfl), rfl⟩
theorem kw_1794 : Cond.instanceMethod yX5_exchange ∈ gWs := List.mem_filter.mpr ⟨gMt7 _ (List.mem_of_getElem? (i := 117) rfl), rfl⟩
theorem kw_117 : Cond.selects RX5 yX5_exchange yX5_exchange ∈ gWs := gWm 117 (by decide +kernel) rfl
theorem cl_X5_228 : gCV RX5 228 yX5_exchange cX5_exchange 3 (some .int) 2 := ⟨g_mk [.methodLink RX5 228 yX5_exchange, .instanceMethod yX5_exchange, .selects yX5_exchange.cls yX5_exchange yX5_exchange, .initialized yX5_exchange.cls] (gWs_all kw_1795) (List.forall_mem_cons.mpr ⟨kw_1792, List.forall_mem_cons.mpr ⟨kw_1794, List.forall_mem_cons.mpr ⟨kw_117, List.forall_mem_cons.mpr ⟨kw_255, fun _ h => nomatch h⟩⟩⟩⟩), rfl, by decide +kernel, by decide +kernel, by decide +kernel⟩
theorem dX5_serve_0 : decode cX5_serve 0 = .ok (.aload_n 0, 1) := by decide +kernel
theorem dX5_serve_1 : decode cX5_serve 1 = .ok (.getfield 61, 3) := by decide +kernel
theorem dX5_serve_4 : decode cX5_serve 4 = .ok (.istore_n 1, 1) := by decide +kernel
theorem dX5_serve_5 : decode cX5_serve 5 = .ok (.aload_n 0, 1) := by decide +kernel
theorem dX5_serve_6 : decode cX5_serve 6 = .ok (.iconst 0, 1) := by decide +kernel
theorem dX5_serve_7 : decode cX5_serve 7 = .ok (.aload_n 0, 1) := by decide +kernel
theorem dX5_serve_8 : decode cX5_serve 8 = .ok (.getfield 64, 3) := by decide +kernel
theorem dX5_serve_11 : decode cX5_serve 11 = .ok (.invokevirtual 219, 3) := by decide +kernel
theorem dX5_serve_14 : decode cX5_serve 14 = .ok (.istore_n 2, 1) := by decide +kernel
theorem dX5_serve_15 : decode cX5_serve 15 = .ok (.aload_n 0, 1) := by decide +kernel
theorem dX5_serve_16 : decode cX5_serve 16 = .ok (.iconst 1, 1) := by decide +kernel
theorem dX5_serve_17 : decode cX5_serve 17 = .ok (.aload_n 0, 1) := by decide +kernel
theorem dX5_serve_18 : decode cX5_serve 18 = .ok (.getfield 64, 3) := by decide +kernel
theorem dX5_serve_21 : decode cX5_serve 21 = .ok (.invokevirtual 219, 3) := by decide +kernel
theorem dX5_serve_24 : decode cX5_serve 24 = .ok (.istore_n 3, 1) := by decide +kernel
theorem dX5_serve_25 : decode cX5_serve 25 = .ok (.aload_n 0, 1) := by decide +kernel
theorem dX5_serve_26 : decode cX5_serve 26 = .ok (.iconst 2, 1) := by decide +kernel
theorem dX5_serve_27 : decode cX5_serve 27 = .ok (.aload_n 0, 1) := by decide +kernel
theorem dX5_serve_28 : decode cX5_serve 28 = .ok (.getfield 64, 3) := by decide +kernel
theorem dX5_serve_31 : decode cX5_serve 31 = .ok (.invokevirtual 219, 3) := by decide +kernel
theorem dX5_serve_34 : decode cX5_serve 34 = .ok (.istore 4, 2) := by decide +kernel
theorem dX5_serve_36 : decode cX5_serve 36 = .ok (.aload_n 0, 1) := by decide +kernel
theorem dX5_serve_37 : decode cX5_serve 37 = .ok (.iconst (-1), 1) := by decide +kernel
theorem dX5_serve_38 : decode cX5_serve 38 = .ok (.putfield 61, 3) := by decide +kernel
theorem dX5_serve_41 : decode cX5_serve 41 = .ok (.aload_n 0, 1) := by decide +kernel
theorem dX5_serve_42 : decode cX5_serve 42 = .ok (.getfield 24, 3) := by decide +kernel
theorem dX5_serve_45 : decode cX5_serve 45 = .ok (.aload_n 0, 1) := by decide +kernel
theorem dX5_serve_46 : decode cX5_serve 46 = .ok (.getfield 24, 3) := by decide +kernel
theorem dX5_serve_49 : decode cX5_serve 49 = .ok (.invokevirtual 207, 3) := by decide +kernel
theorem dX5_serve_52 : decode cX5_serve 52 = .ok (.aload_n 0, 1) := by decide +kernel
theorem dX5_serve_53 : decode cX5_serve 53 = .ok (.getfield 64, 3) := by decide +kernel
theorem dX5_serve_56 : decode cX5_serve 56 = .ok (.isub, 1) := by decide +kernel
theorem dX5_serve_57 : decode cX5_serve 57 = .ok (.invokevirtual 134, 3) := by decide +kernel
theorem dX5_serve_60 : decode cX5_serve 60 = .ok (.aload_n 0, 1) := by decide +kernel
theorem dX5_serve_61 : decode cX5_serve 61 = .ok (.getfield 24, 3) := by decide +kernel
theorem dX5_serve_64 : decode cX5_serve 64 = .ok (.iload_n 1, 1) := by decide +kernel
theorem dX5_serve_65 : decode cX5_serve 65 = .ok (.bipush 11, 2) := by decide +kernel
theorem dX5_serve_67 : decode cX5_serve 67 = .ok (.if_icmp .ge 12, 3) := by decide +kernel
theorem dX5_serve_70 : decode cX5_serve 70 = .ok (.aload_n 0, 1) := by decide +kernel
theorem dX5_serve_71 : decode cX5_serve 71 = .ok (.iload_n 1, 1) := by decide +kernel
theorem dX5_serve_72 : decode cX5_serve 72 = .ok (.iload_n 2, 1) := by decide +kernel
theorem dX5_serve_73 : decode cX5_serve 73 = .ok (.invokevirtual 228, 3) := by decide +kernel
theorem dX5_serve_76 : decode cX5_serve 76 = .ok (.goto 12, 3) := by decide +kernel
theorem dX5_serve_79 : decode cX5_serve 79 = .ok (.aload_n 0, 1) := by decide +kernel
theorem dX5_serve_80 : decode cX5_serve 80 = .ok (.iload_n 1, 1) := by decide +kernel
theorem dX5_serve_81 : decode cX5_serve 81 = .ok (.iload_n 2, 1) := by decide +kernel
theorem dX5_serve_82 : decode cX5_serve 82 = .ok (.iload_n 3, 1) := by decide +kernel
theorem dX5_serve_83 : decode cX5_serve 83 = .ok (.iload 4, 2) := by decide +kernel
theorem dX5_serve_85 : decode cX5_serve 85 = .ok (.invokevirtual 231, 3) := by decide +kernel
theorem dX5_serve_88 : decode cX5_serve 88 = .ok (.invokevirtual 140, 3) := by decide +kernel
theorem dX5_serve_91 : decode cX5_serve 91 = .ok (.return_, 1) := by decide +kernel
set_option maxHeartbeats 4000000 in
set_option maxRecDepth 100000 in
theorem s_M_serve (l : Launch) (d : gD) (b : Nat) (Y : gYt) (c : Nat × Nat) (F : gM) (k n : Nat) {S : gSt} (hi : hI d b Y c (F, k, n) S) (hA : gPsi S ≤ gAm) (h43 : sZ S 43 ≤ 404) : hMv l d b yX5_serve cX5_serve 5 7 k n F [.ref (gO' Y 7)] (fun u => ∃ S', hI d b Y c u S' ∧ gKp Y F u.1 ∧ gSm S S' [38, 39, 40, 41, 42, 44, 45] [25, 26, 27, 28, 29, 30, 31, 32, 33, 34, 35, 36] ∧ sZ S' 43 ≤ 404 ∧ gPsi S' ≤ gPsi S ∧ sN S' 45 = sN S 45) := by
  intro mc ms
  refine hM_of2 rfl (nL := 5) (Nat.le_of_ble_eq_true rfl) ?_
  intro X hX hC hr ho; subst hX
  show hG X d b _ F k n 0 [some (.ref (gO' Y 7)), none, none, none, none] []
  refine h_aload_n hC dX5_serve_0 rfl ?_
  refine h_get hC fl_X5_61 (hi.1.o 7 (by decide)) rfl dX5_serve_1 ?_
  refine h_istore_n (lv' := [some (.ref (gO' Y 7)), some (.int (sV S 35)), none, none, none]) hC dX5_serve_4 (Nat.le_of_ble_eq_true rfl) rfl rfl ?_
  refine h_aload_n hC dX5_serve_5 rfl ?_
  refine h_iconst (v := 0) hC dX5_serve_6 rfl ?_
  refine h_aload_n hC dX5_serve_7 rfl ?_
  refine h_get hC fl_X5_64 (hi.1.o 7 (by decide)) rfl dX5_serve_8 ?_
  refine h_callVi (As := [.int 0, .int (sV S 36)]) hC hr ho rfl (hi.1.o 7 (by decide)) (s_M_argument X.la d b Y c _ _ _ hi 0 (sV S 36)) cl_X5_219 rfl rfl (Nat.le_of_ble_eq_true rfl) (hFr_of (Nat.le_of_ble_eq_true rfl) (Nat.le_of_ble_eq_true rfl)) dX5_serve_11 (fun r4 u1 p2 o3 => ?_)
  obtain ⟨q5, rfl⟩ := p2
  refine h_istore_n (lv' := [some (.ref (gO' Y 7)), some (.int (sV S 35)), some (.int r4), none, none]) hC dX5_serve_14 (Nat.le_of_ble_eq_true rfl) rfl rfl ?_
  refine h_aload_n hC dX5_serve_15 rfl ?_
  refine h_iconst (v := 1) hC dX5_serve_16 rfl ?_
  refine h_aload_n hC dX5_serve_17 rfl ?_
  refine h_get hC fl_X5_64 (hi.1.o 7 (by decide)) rfl dX5_serve_18 ?_
  refine h_callVi (As := [.int 1, .int (sV S 36)]) hC hr o3 rfl (hi.1.o 7 (by decide)) (s_M_argument X.la d b Y c _ _ _ hi 1 (sV S 36)) cl_X5_219 rfl rfl (Nat.le_of_ble_eq_true rfl) (hFr_of (Nat.le_of_ble_eq_true rfl) (Nat.le_of_ble_eq_true rfl)) dX5_serve_21 (fun r9 u6 p7 o8 => ?_)
  obtain ⟨q10, rfl⟩ := p7
  refine h_istore_n (lv' := [some (.ref (gO' Y 7)), some (.int (sV S 35)), some (.int r4), some (.int r9), none]) hC dX5_serve_24 (Nat.le_of_ble_eq_true rfl) rfl rfl ?_
  refine h_aload_n hC dX5_serve_25 rfl ?_
  refine h_iconst (v := 2) hC dX5_serve_26 rfl ?_
  refine h_aload_n hC dX5_serve_27 rfl ?_
  refine h_get hC fl_X5_64 (hi.1.o 7 (by decide)) rfl dX5_serve_28 ?_
  refine h_callVi (As := [.int 2, .int (sV S 36)]) hC hr o8 rfl (hi.1.o 7 (by decide)) (s_M_argument X.la d b Y c _ _ _ hi 2 (sV S 36)) cl_X5_219 rfl rfl (Nat.le_of_ble_eq_true rfl) (hFr_of (Nat.le_of_ble_eq_true rfl) (Nat.le_of_ble_eq_true rfl)) dX5_serve_31 (fun r14 u11 p12 o13 => ?_)
  obtain ⟨q15, rfl⟩ := p12
  refine h_istore (lv' := [some (.ref (gO' Y 7)), some (.int (sV S 35)), some (.int r4), some (.int r9), some (.int r14)]) hC dX5_serve_34 (Nat.le_of_ble_eq_true rfl) rfl rfl ?_
  refine h_aload_n hC dX5_serve_36 rfl ?_
  refine h_iconst (v := (-1)) hC dX5_serve_37 rfl ?_
  refine hi_putx (i := 7) (kx := 35) hC hi (by decide) fl_X5_61 rfl rfl rfl (Nat.le_of_ble_eq_true rfl) rfl gsame_35 (fun q => absurd q (by decide)) dX5_serve_38 (fun F16 S17 I18 K19 s20 v21 p22 => ?_)
  have m23 : gSm S S17 [38, 39, 40, 41, 42, 44, 45] [25, 26, 27, 28, 29, 30, 31, 32, 33, 34, 35, 36] := gSm.wk s20 _ _ rfl rfl
  have NS17 : sN S17 45 = sN S 45 := s20.n 45 (by decide)
  have ZS17 : sZ S17 43 = sZ S 43 := s20.z 43 (by decide)
  refine h_aload_n hC dX5_serve_41 rfl ?_
  refine h_get hC fl_X5_24 (I18.1.o 7 (by decide)) rfl dX5_serve_42 ?_
  refine h_aload_n hC dX5_serve_45 rfl ?_
  refine h_get hC fl_X5_24 (I18.1.o 7 (by decide)) rfl dX5_serve_46 ?_
  refine hi_size (j := 42) hC hr o13 I18.1 (by decide) cl_X5_207 rfl (Nat.le_of_ble_eq_true rfl) (hFr_of (Nat.le_of_ble_eq_true rfl) (Nat.le_of_ble_eq_true rfl)) dX5_serve_49 ?_
  refine h_aload_n hC dX5_serve_52 rfl ?_
  refine h_get hC fl_X5_64 (I18.1.o 7 (by decide)) rfl dX5_serve_53 ?_
  refine h_isub hC dX5_serve_56 ?_
  refine h_vi (fun x25 ex25 => ?_)
  refine hi_cut (j := 42) hC hr o13 I18 (by decide) cl_X5_134 rfl (Nat.le_of_ble_eq_true rfl) (hFr_of (Nat.le_of_ble_eq_true rfl) (Nat.le_of_ble_eq_true rfl)) dX5_serve_57 (fun F26 S27 I28 K29 s30 a31 => ?_)
  have m32 : gSm S S27 [38, 39, 40, 41, 42, 44, 45] [25, 26, 27, 28, 29, 30, 31, 32, 33, 34, 35, 36] := m23.tr s30 _ _ rfl rfl
  have K33 := K19.tr K29
  have NS27 : sN S27 45 = sN S17 45 := s30.n 45 (by decide)
  have ZS27 : sZ S27 43 = sZ S17 43 := s30.z 43 (by decide)
  have Pa31 : gPsi S27 ≤ gPsi S17 := a31.2.2.2.2.2
  refine h_aload_n hC dX5_serve_60 rfl ?_
  refine h_get hC fl_X5_24 (I28.1.o 7 (by decide)) rfl dX5_serve_61 ?_
  refine h_iload_n hC dX5_serve_64 rfl ?_
  refine h_bipush (v := 11) hC dX5_serve_65 rfl ?_
  refine h_icmp_ge (tgt := 79) hC dX5_serve_67 (by decide) (fun c34 => ?_) (fun c34 => ?_)
  · refine h_aload_n hC dX5_serve_79 rfl ?_
    refine h_iload_n hC dX5_serve_80 rfl ?_
    refine h_iload_n hC dX5_serve_81 rfl ?_
    refine h_iload_n hC dX5_serve_82 rfl ?_
    refine h_iload hC dX5_serve_83 rfl ?_
    refine h_callVi (As := [.int (sV S 35), .int r4, .int r9, .int r14]) hC hr o13 rfl (I28.1.o 7 (by decide)) (s_M_reckon X.la d b Y c _ _ _ I28 (by omega) (by omega) (sV S 35) r4 r9 r14) cl_X5_231 rfl rfl (Nat.le_of_ble_eq_true rfl) (hFr_of (Nat.le_of_ble_eq_true rfl) (Nat.le_of_ble_eq_true rfl)) dX5_serve_85 (fun r38 u35 p36 o37 => ?_)
    obtain ⟨S39, I40, K41, s42, q43⟩ := p36
    have m44 : gSm S S39 [38, 39, 40, 41, 42, 44, 45] [25, 26, 27, 28, 29, 30, 31, 32, 33, 34, 35, 36] := m32.tr s42 _ _ rfl rfl
    have K45 := K33.tr K41
    have ZS39 : sZ S39 43 = sZ S27 43 := s42.z 43 (by decide)
    obtain ⟨aq43, bq43, nq43⟩ := q43
    refine hi_add (j := 42) hC hr o37 I40 (by decide) ⟨fun q => absurd q (by decide), fun q => absurd q (by decide), by omega⟩ cl_X5_140 rfl (Nat.le_of_ble_eq_true rfl) (hFr_of (Nat.le_of_ble_eq_true rfl) (Nat.le_of_ble_eq_true rfl)) dX5_serve_88 (fun u53 S47 I48 o52 K49 s50 a51 => ?_)
    have m54 : gSm S S47 [38, 39, 40, 41, 42, 44, 45] [25, 26, 27, 28, 29, 30, 31, 32, 33, 34, 35, 36] := m44.tr s50 _ _ rfl rfl
    have K55 := K45.tr K49
    have NS47 : sN S47 45 = sN S39 45 := s50.n 45 (by decide)
    have ZS47 : sZ S47 43 = sZ S39 43 := s50.z 43 (by decide)
    have Pa51 : gPsi S47 = gPsi S39 := a51.2.2.2 (by decide)
    exact h_vret hC hr o52 rfl rfl ⟨S47, I48, K55, m54, by omega, by omega, by omega⟩ dX5_serve_91
  · refine h_aload_n hC dX5_serve_70 rfl ?_
    refine h_iload_n hC dX5_serve_71 rfl ?_
    refine h_iload_n hC dX5_serve_72 rfl ?_
    refine h_callVi (As := [.int (sV S 35), .int r4]) hC hr o13 rfl (I28.1.o 7 (by decide)) (s_M_exchange X.la d b Y c _ _ _ I28 (by omega) (by omega) (sV S 35) r4) cl_X5_228 rfl rfl (Nat.le_of_ble_eq_true rfl) (hFr_of (Nat.le_of_ble_eq_true rfl) (Nat.le_of_ble_eq_true rfl)) dX5_serve_73 (fun r59 u56 p57 o58 => ?_)
    obtain ⟨S60, I61, K62, s63, q64⟩ := p57
    have m65 : gSm S S60 [38, 39, 40, 41, 42, 44, 45] [25, 26, 27, 28, 29, 30, 31, 32, 33, 34, 35, 36] := m32.tr s63 _ _ rfl rfl
    have K66 := K33.tr K62
    have ZS60 : sZ S60 43 = sZ S27 43 := s63.z 43 (by decide)
    obtain ⟨aq64, bq64, nq64⟩ := q64
    refine h_goto (tgt := 88) hC dX5_serve_76 (by decide) ?_
    refine hi_add (j := 42) hC hr o58 I61 (by decide) ⟨fun q => absurd q (by decide), fun q => absurd q (by decide), by omega⟩ cl_X5_140 rfl (Nat.le_of_ble_eq_true rfl) (hFr_of (Nat.le_of_ble_eq_true rfl) (Nat.le_of_ble_eq_true rfl)) dX5_serve_88 (fun u74 S68 I69 o73 K70 s71 a72 => ?_)
    have m75 : gSm S S68 [38, 39, 40, 41, 42, 44, 45] [25, 26, 27, 28, 29, 30, 31, 32, 33, 34, 35, 36] := m65.tr s71 _ _ rfl rfl
    have K76 := K66.tr K70
    have NS68 : sN S68 45 = sN S60 45 := s71.n 45 (by decide)
    have ZS68 : sZ S68 43 = sZ S60 43 := s71.z 43 (by decide)
    have Pa72 : gPsi S68 = gPsi S60 := a72.2.2.2 (by decide)
    exact h_vret hC hr o73 rfl rfl ⟨S68, I69, K76, m75, by omega, by omega, by omega⟩ dX5_serve_91
