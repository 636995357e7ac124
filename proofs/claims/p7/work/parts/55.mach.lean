theorem kw_1694 : Cond.methodLink RX5 207 yX4_size ∈ gWs := List.mem_filter.mpr ⟨gMt7 _ (List.mem_of_getElem? (i := 17) rfl), rfl⟩
theorem cl_X5_207 : gCV RX5 207 yX4_size cX4_size 1 (some .int) 0 := ⟨g_mk [.methodLink RX5 207 yX4_size, .instanceMethod yX4_size, .selects yX4_size.cls yX4_size yX4_size, .initialized yX4_size.cls] (gWs_all kw_428) (List.forall_mem_cons.mpr ⟨kw_1694, List.forall_mem_cons.mpr ⟨kw_426, List.forall_mem_cons.mpr ⟨kw_427, List.forall_mem_cons.mpr ⟨kw_239, fun _ h => nomatch h⟩⟩⟩⟩), rfl, by decide +kernel, by decide +kernel, by decide +kernel⟩
theorem kw_1714 : Cond.methodLink RX5 225 yX4_get ∈ gWs := List.mem_filter.mpr ⟨gMt7 _ (List.mem_of_getElem? (i := 37) rfl), rfl⟩
theorem cl_X5_225 : gCV RX5 225 yX4_get cX4_get 2 (some .int) 1 := ⟨g_mk [.methodLink RX5 225 yX4_get, .instanceMethod yX4_get, .selects yX4_get.cls yX4_get yX4_get, .initialized yX4_get.cls] (gWs_all kw_436) (List.forall_mem_cons.mpr ⟨kw_1714, List.forall_mem_cons.mpr ⟨kw_434, List.forall_mem_cons.mpr ⟨kw_435, List.forall_mem_cons.mpr ⟨kw_239, fun _ h => nomatch h⟩⟩⟩⟩), rfl, by decide +kernel, by decide +kernel, by decide +kernel⟩
theorem kw_754 : Cond.fieldLink RX5 28 "WordTongue$Machine" "calls" "LWordTongue$Ints;" ∈ gWs := List.mem_filter.mpr ⟨gMt3 _ (List.mem_of_getElem? (i := 37) rfl), rfl⟩
theorem fl_X5_28 : gFL RX5 28 5 4 (.object "WordTongue$Ints") true := ⟨RX5, TX5, 16, tyX5, rfl, by decide, inW_RX5, kw_754, tyX5_ok, nmX5, rfl, by decide +kernel, fun _ => rfl⟩
theorem kw_1681 : Cond.methodLink RX5 134 yX4_cut ∈ gWs := List.mem_filter.mpr ⟨gMt7 _ (List.mem_of_getElem? (i := 4) rfl), rfl⟩
theorem cl_X5_134 : gCV RX5 134 yX4_cut cX4_cut 2 none 1 := ⟨g_mk [.methodLink RX5 134 yX4_cut, .instanceMethod yX4_cut, .selects yX4_cut.cls yX4_cut yX4_cut, .initialized yX4_cut.cls] (gWs_all kw_468) (List.forall_mem_cons.mpr ⟨kw_1681, List.forall_mem_cons.mpr ⟨kw_466, List.forall_mem_cons.mpr ⟨kw_467, List.forall_mem_cons.mpr ⟨kw_239, fun _ h => nomatch h⟩⟩⟩⟩), rfl, by decide +kernel, by decide +kernel, by decide +kernel⟩
theorem kw_759 : Cond.fieldLink RX5 45 "WordTongue$Machine" "routine" "I" ∈ gWs := List.mem_filter.mpr ⟨gMt3 _ (List.mem_of_getElem? (i := 42) rfl), rfl⟩
theorem fl_X5_45 : gFL RX5 45 5 9 .int false := ⟨RX5, TX5, 16, tyX5, rfl, by decide, inW_RX5, kw_759, tyX5_ok, nmX5, rfl, by decide +kernel, fun h => by cases h⟩
theorem nI_ltP {j : Nat} {P : Int32} (hj : j ≤ 2147483647) (h : ¬ P ≤ nI j) : j < 2147483647 := Nat.lt_of_le_of_ne hj (fun q => h (by
  subst q
  rw [Int32.le_iff_toInt_le]
  have e : (nI 2147483647).toInt = 2147483647 := by decide
  have m := Int32.toInt_le P
  have m2 : (Int32.maxValue).toInt = 2147483647 := by decide
  rw [e]
  omega))
theorem dX5_argument_0 : decode cX5_argument 0 = .ok (.iload_n 1, 1) := by decide +kernel
theorem dX5_argument_1 : decode cX5_argument 1 = .ok (.iload_n 2, 1) := by decide +kernel
theorem dX5_argument_2 : decode cX5_argument 2 = .ok (.if_icmp .ge 24, 3) := by decide +kernel
theorem dX5_argument_5 : decode cX5_argument 5 = .ok (.aload_n 0, 1) := by decide +kernel
theorem dX5_argument_6 : decode cX5_argument 6 = .ok (.getfield 24, 3) := by decide +kernel
theorem dX5_argument_9 : decode cX5_argument 9 = .ok (.aload_n 0, 1) := by decide +kernel
theorem dX5_argument_10 : decode cX5_argument 10 = .ok (.getfield 24, 3) := by decide +kernel
theorem dX5_argument_13 : decode cX5_argument 13 = .ok (.invokevirtual 207, 3) := by decide +kernel
theorem dX5_argument_16 : decode cX5_argument 16 = .ok (.iload_n 2, 1) := by decide +kernel
theorem dX5_argument_17 : decode cX5_argument 17 = .ok (.isub, 1) := by decide +kernel
theorem dX5_argument_18 : decode cX5_argument 18 = .ok (.iload_n 1, 1) := by decide +kernel
theorem dX5_argument_19 : decode cX5_argument 19 = .ok (.iadd, 1) := by decide +kernel
theorem dX5_argument_20 : decode cX5_argument 20 = .ok (.invokevirtual 225, 3) := by decide +kernel
theorem dX5_argument_23 : decode cX5_argument 23 = .ok (.goto 4, 3) := by decide +kernel
theorem dX5_argument_26 : decode cX5_argument 26 = .ok (.iconst 0, 1) := by decide +kernel
theorem dX5_argument_27 : decode cX5_argument 27 = .ok (.ireturn, 1) := by decide +kernel
set_option maxHeartbeats 4000000 in
set_option maxRecDepth 100000 in
theorem s_M_argument (l : Launch) (d : gD) (b : Nat) (Y : gYt) (c : Nat × Nat) (F : gM) (k n : Nat) {S : gSt} (hi : hI d b Y c (F, k, n) S) (x y : Int32) : hMi l d b yX5_argument cX5_argument 3 .int 2 k n F [.ref (gO' Y 7), .int x, .int y] (fun r u => True ∧ u = (F, k, n)) := by
  intro mc ms
  refine hM_of2 rfl (nL := 3) (Nat.le_of_ble_eq_true rfl) ?_
  intro X hX hC hr ho; subst hX
  show hG X d b _ F k n 0 [some (.ref (gO' Y 7)), some (.int x), some (.int y)] []
  refine h_iload_n hC dX5_argument_0 rfl ?_
  refine h_iload_n hC dX5_argument_1 rfl ?_
  refine h_icmp_ge (tgt := 26) hC dX5_argument_2 (by decide) (fun c1 => ?_) (fun c1 => ?_)
  · refine h_iconst (v := 0) hC dX5_argument_26 rfl ?_
    exact h_iret hC hr ho rfl rfl rfl ⟨trivial, rfl⟩ dX5_argument_27
  · refine h_aload_n hC dX5_argument_5 rfl ?_
    refine h_get hC fl_X5_24 (hi.1.o 7 (by decide)) rfl dX5_argument_6 ?_
    refine h_aload_n hC dX5_argument_9 rfl ?_
    refine h_get hC fl_X5_24 (hi.1.o 7 (by decide)) rfl dX5_argument_10 ?_
    refine hi_size (j := 42) hC hr ho hi.1 (by decide) cl_X5_207 rfl (Nat.le_of_ble_eq_true rfl) (hFr_of (Nat.le_of_ble_eq_true rfl) (Nat.le_of_ble_eq_true rfl)) dX5_argument_13 ?_
    refine h_iload_n hC dX5_argument_16 rfl ?_
    refine h_isub hC dX5_argument_17 ?_
    refine h_vi (fun x2 ex2 => ?_)
    refine h_iload_n hC dX5_argument_18 rfl ?_
    refine h_iadd hC dX5_argument_19 ?_
    refine h_vi (fun x3 ex3 => ?_)
    refine hi_get (j := 42) hC hr ho hi.1 (by decide) cl_X5_225 rfl (Nat.le_of_ble_eq_true rfl) (hFr_of (Nat.le_of_ble_eq_true rfl) (Nat.le_of_ble_eq_true rfl)) dX5_argument_20 ?_
    refine h_vi (fun x4 ex4 => ?_)
    refine h_goto (tgt := 27) hC dX5_argument_23 (by decide) ?_
    exact h_iret hC hr ho rfl rfl rfl ⟨trivial, rfl⟩ dX5_argument_27
theorem dX5_back_0 : decode cX5_back 0 = .ok (.aload_n 0, 1) := by decide +kernel
theorem dX5_back_1 : decode cX5_back 1 = .ok (.getfield 24, 3) := by decide +kernel
theorem dX5_back_4 : decode cX5_back 4 = .ok (.invokevirtual 146, 3) := by decide +kernel
theorem dX5_back_7 : decode cX5_back 7 = .ok (.istore_n 1, 1) := by decide +kernel
theorem dX5_back_8 : decode cX5_back 8 = .ok (.aload_n 0, 1) := by decide +kernel
theorem dX5_back_9 : decode cX5_back 9 = .ok (.getfield 24, 3) := by decide +kernel
theorem dX5_back_12 : decode cX5_back 12 = .ok (.aload_n 0, 1) := by decide +kernel
theorem dX5_back_13 : decode cX5_back 13 = .ok (.getfield 28, 3) := by decide +kernel
theorem dX5_back_16 : decode cX5_back 16 = .ok (.invokevirtual 146, 3) := by decide +kernel
theorem dX5_back_19 : decode cX5_back 19 = .ok (.invokevirtual 134, 3) := by decide +kernel
theorem dX5_back_22 : decode cX5_back 22 = .ok (.aload_n 0, 1) := by decide +kernel
theorem dX5_back_23 : decode cX5_back 23 = .ok (.aload_n 0, 1) := by decide +kernel
theorem dX5_back_24 : decode cX5_back 24 = .ok (.getfield 28, 3) := by decide +kernel
theorem dX5_back_27 : decode cX5_back 27 = .ok (.invokevirtual 146, 3) := by decide +kernel
theorem dX5_back_30 : decode cX5_back 30 = .ok (.putfield 45, 3) := by decide +kernel
theorem dX5_back_33 : decode cX5_back 33 = .ok (.aload_n 0, 1) := by decide +kernel
theorem dX5_back_34 : decode cX5_back 34 = .ok (.aload_n 0, 1) := by decide +kernel
theorem dX5_back_35 : decode cX5_back 35 = .ok (.getfield 28, 3) := by decide +kernel
theorem dX5_back_38 : decode cX5_back 38 = .ok (.invokevirtual 146, 3) := by decide +kernel
theorem dX5_back_41 : decode cX5_back 41 = .ok (.putfield 42, 3) := by decide +kernel
theorem dX5_back_44 : decode cX5_back 44 = .ok (.aload_n 0, 1) := by decide +kernel
theorem dX5_back_45 : decode cX5_back 45 = .ok (.aload_n 0, 1) := by decide +kernel
theorem dX5_back_46 : decode cX5_back 46 = .ok (.getfield 28, 3) := by decide +kernel
theorem dX5_back_49 : decode cX5_back 49 = .ok (.invokevirtual 146, 3) := by decide +kernel
theorem dX5_back_52 : decode cX5_back 52 = .ok (.putfield 39, 3) := by decide +kernel
theorem dX5_back_55 : decode cX5_back 55 = .ok (.aload_n 0, 1) := by decide +kernel
theorem dX5_back_56 : decode cX5_back 56 = .ok (.getfield 24, 3) := by decide +kernel
theorem dX5_back_59 : decode cX5_back 59 = .ok (.iload_n 1, 1) := by decide +kernel
theorem dX5_back_60 : decode cX5_back 60 = .ok (.invokevirtual 140, 3) := by decide +kernel
theorem dX5_back_63 : decode cX5_back 63 = .ok (.aload_n 0, 1) := by decide +kernel
theorem dX5_back_64 : decode cX5_back 64 = .ok (.getfield 28, 3) := by decide +kernel
theorem dX5_back_67 : decode cX5_back 67 = .ok (.invokevirtual 207, 3) := by decide +kernel
theorem dX5_back_70 : decode cX5_back 70 = .ok (.ifCond .ne 9, 3) := by decide +kernel
theorem dX5_back_73 : decode cX5_back 73 = .ok (.aload_n 0, 1) := by decide +kernel
theorem dX5_back_74 : decode cX5_back 74 = .ok (.iload_n 1, 1) := by decide +kernel
theorem dX5_back_75 : decode cX5_back 75 = .ok (.iconst 0, 1) := by decide +kernel
theorem dX5_back_76 : decode cX5_back 76 = .ok (.invokevirtual 155, 3) := by decide +kernel
theorem dX5_back_79 : decode cX5_back 79 = .ok (.return_, 1) := by decide +kernel
set_option maxHeartbeats 4000000 in
set_option maxRecDepth 100000 in
theorem s_M_back (l : Launch) (d : gD) (b : Nat) (Y : gYt) (c : Nat × Nat) (F : gM) (k n : Nat) {S : gSt} (hi : hI d b Y c (F, k, n) S) (hA : gPsi S ≤ gAm) (h43 : sZ S 43 ≤ 404) : hMv l d b yX5_back cX5_back 2 3 k n F [.ref (gO' Y 7)] (fun u => ∃ S', hI d b Y c u S' ∧ gKp Y F u.1 ∧ gSm S S' [38, 39, 40, 41, 42, 43, 44, 45] [25, 26, 27, 28, 29, 30, 31, 32, 33, 34, 35, 36] ∧ sZ S' 43 ≤ 404 ∧ gPsi S' ≤ gPsi S ∧ sN S' 45 = sN S 45) := by
  intro mc ms
  refine hM_of2 rfl (nL := 2) (Nat.le_of_ble_eq_true rfl) ?_
  intro X hX hC hr ho; subst hX
  show hG X d b _ F k n 0 [some (.ref (gO' Y 7)), none] []
  refine h_aload_n hC dX5_back_0 rfl ?_
  refine h_get hC fl_X5_24 (hi.1.o 7 (by decide)) rfl dX5_back_1 ?_
  refine hi_pop (j := 42) hC hr ho hi (by decide) cl_X5_146 rfl (Nat.le_of_ble_eq_true rfl) (hFr_of (Nat.le_of_ble_eq_true rfl) (Nat.le_of_ble_eq_true rfl)) dX5_back_4 (fun r7 F1 S2 I3 K4 s5 a6 => ?_)
  have m8 : gSm S S2 [38, 39, 40, 41, 42, 43, 44, 45] [25, 26, 27, 28, 29, 30, 31, 32, 33, 34, 35, 36] := gSm.wk s5 _ _ rfl rfl
  have NS2 : sN S2 45 = sN S 45 := s5.n 45 (by decide)
  have ZS2 : sZ S2 43 = sZ S 43 := s5.z 43 (by decide)
  have Pa6 : gPsi S2 ≤ gPsi S := a6.2.2.2.2.2
  refine h_istore_n (lv' := [some (.ref (gO' Y 7)), some (.int r7)]) hC dX5_back_7 (Nat.le_of_ble_eq_true rfl) rfl rfl ?_
  refine h_aload_n hC dX5_back_8 rfl ?_
  refine h_get hC fl_X5_24 (I3.1.o 7 (by decide)) rfl dX5_back_9 ?_
  refine h_aload_n hC dX5_back_12 rfl ?_
  refine h_get hC fl_X5_28 (I3.1.o 7 (by decide)) rfl dX5_back_13 ?_
  refine hi_pop (j := 43) hC hr ho I3 (by decide) cl_X5_146 rfl (Nat.le_of_ble_eq_true rfl) (hFr_of (Nat.le_of_ble_eq_true rfl) (Nat.le_of_ble_eq_true rfl)) dX5_back_16 (fun r16 F10 S11 I12 K13 s14 a15 => ?_)
  have m17 : gSm S S11 [38, 39, 40, 41, 42, 43, 44, 45] [25, 26, 27, 28, 29, 30, 31, 32, 33, 34, 35, 36] := m8.tr s14 _ _ rfl rfl
  have K18 := K4.tr K13
  have NS11 : sN S11 45 = sN S2 45 := s14.n 45 (by decide)
  have Pa15 : gPsi S11 ≤ gPsi S2 := a15.2.2.2.2.2
  have ZS11 : sZ S11 43 = sZ S2 43 - 1 := a15.2.1
  refine hi_cut (j := 42) hC hr ho I12 (by decide) cl_X5_134 rfl (Nat.le_of_ble_eq_true rfl) (hFr_of (Nat.le_of_ble_eq_true rfl) (Nat.le_of_ble_eq_true rfl)) dX5_back_19 (fun F19 S20 I21 K22 s23 a24 => ?_)
  have m25 : gSm S S20 [38, 39, 40, 41, 42, 43, 44, 45] [25, 26, 27, 28, 29, 30, 31, 32, 33, 34, 35, 36] := m17.tr s23 _ _ rfl rfl
  have K26 := K18.tr K22
  have NS20 : sN S20 45 = sN S11 45 := s23.n 45 (by decide)
  have ZS20 : sZ S20 43 = sZ S11 43 := s23.z 43 (by decide)
  have Pa24 : gPsi S20 ≤ gPsi S11 := a24.2.2.2.2.2
  refine h_aload_n hC dX5_back_22 rfl ?_
  refine h_aload_n hC dX5_back_23 rfl ?_
  refine h_get hC fl_X5_28 (I21.1.o 7 (by decide)) rfl dX5_back_24 ?_
  refine hi_pop (j := 43) hC hr ho I21 (by decide) cl_X5_146 rfl (Nat.le_of_ble_eq_true rfl) (hFr_of (Nat.le_of_ble_eq_true rfl) (Nat.le_of_ble_eq_true rfl)) dX5_back_27 (fun r33 F27 S28 I29 K30 s31 a32 => ?_)
  have m34 : gSm S S28 [38, 39, 40, 41, 42, 43, 44, 45] [25, 26, 27, 28, 29, 30, 31, 32, 33, 34, 35, 36] := m25.tr s31 _ _ rfl rfl
  have K35 := K26.tr K30
  have NS28 : sN S28 45 = sN S20 45 := s31.n 45 (by decide)
  have Pa32 : gPsi S28 ≤ gPsi S20 := a32.2.2.2.2.2
  have ZS28 : sZ S28 43 = sZ S20 43 - 1 := a32.2.1
  refine hi_putx (i := 7) (kx := 30) hC I29 (by decide) fl_X5_45 rfl rfl rfl (Nat.le_of_ble_eq_true rfl) rfl gsame_30 (fun q => absurd q (by decide)) dX5_back_30 (fun F36 S37 I38 K39 s40 v41 p42 => ?_)
  have m43 : gSm S S37 [38, 39, 40, 41, 42, 43, 44, 45] [25, 26, 27, 28, 29, 30, 31, 32, 33, 34, 35, 36] := m34.tr s40 _ _ rfl rfl
  have K44 := K35.tr K39
  have NS37 : sN S37 45 = sN S28 45 := s40.n 45 (by decide)
  have ZS37 : sZ S37 43 = sZ S28 43 := s40.z 43 (by decide)
  refine h_aload_n hC dX5_back_33 rfl ?_
  refine h_aload_n hC dX5_back_34 rfl ?_
  refine h_get hC fl_X5_28 (I38.1.o 7 (by decide)) rfl dX5_back_35 ?_
  refine hi_pop (j := 43) hC hr ho I38 (by decide) cl_X5_146 rfl (Nat.le_of_ble_eq_true rfl) (hFr_of (Nat.le_of_ble_eq_true rfl) (Nat.le_of_ble_eq_true rfl)) dX5_back_38 (fun r51 F45 S46 I47 K48 s49 a50 => ?_)
  have m52 : gSm S S46 [38, 39, 40, 41, 42, 43, 44, 45] [25, 26, 27, 28, 29, 30, 31, 32, 33, 34, 35, 36] := m43.tr s49 _ _ rfl rfl
  have K53 := K44.tr K48
  have NS46 : sN S46 45 = sN S37 45 := s49.n 45 (by decide)
  have Pa50 : gPsi S46 ≤ gPsi S37 := a50.2.2.2.2.2
  have ZS46 : sZ S46 43 = sZ S37 43 - 1 := a50.2.1
  refine hi_putx (i := 7) (kx := 29) hC I47 (by decide) fl_X5_42 rfl rfl rfl (Nat.le_of_ble_eq_true rfl) rfl gsame_29 (fun q => absurd q (by decide)) dX5_back_41 (fun F54 S55 I56 K57 s58 v59 p60 => ?_)
  have m61 : gSm S S55 [38, 39, 40, 41, 42, 43, 44, 45] [25, 26, 27, 28, 29, 30, 31, 32, 33, 34, 35, 36] := m52.tr s58 _ _ rfl rfl
  have K62 := K53.tr K57
  have NS55 : sN S55 45 = sN S46 45 := s58.n 45 (by decide)
  have ZS55 : sZ S55 43 = sZ S46 43 := s58.z 43 (by decide)
  refine h_aload_n hC dX5_back_44 rfl ?_
  refine h_aload_n hC dX5_back_45 rfl ?_
  refine h_get hC fl_X5_28 (I56.1.o 7 (by decide)) rfl dX5_back_46 ?_
  refine hi_pop (j := 43) hC hr ho I56 (by decide) cl_X5_146 rfl (Nat.le_of_ble_eq_true rfl) (hFr_of (Nat.le_of_ble_eq_true rfl) (Nat.le_of_ble_eq_true rfl)) dX5_back_49 (fun r69 F63 S64 I65 K66 s67 a68 => ?_)
  have m70 : gSm S S64 [38, 39, 40, 41, 42, 43, 44, 45] [25, 26, 27, 28, 29, 30, 31, 32, 33, 34, 35, 36] := m61.tr s67 _ _ rfl rfl
  have K71 := K62.tr K66
  have NS64 : sN S64 45 = sN S55 45 := s67.n 45 (by decide)
  have Pa68 : gPsi S64 ≤ gPsi S55 := a68.2.2.2.2.2
  have ZS64 : sZ S64 43 = sZ S55 43 - 1 := a68.2.1
  refine hi_putx (i := 7) (kx := 28) hC I65 (by decide) fl_X5_39 rfl rfl rfl (Nat.le_of_ble_eq_true rfl) rfl gsame_28 (fun q => absurd q (by decide)) dX5_back_52 (fun F72 S73 I74 K75 s76 v77 p78 => ?_)
  have m79 : gSm S S73 [38, 39, 40, 41, 42, 43, 44, 45] [25, 26, 27, 28, 29, 30, 31, 32, 33, 34, 35, 36] := m70.tr s76 _ _ rfl rfl
  have K80 := K71.tr K75
  have NS73 : sN S73 45 = sN S64 45 := s76.n 45 (by decide)
  have ZS73 : sZ S73 43 = sZ S64 43 := s76.z 43 (by decide)
  refine h_aload_n hC dX5_back_55 rfl ?_
  refine h_get hC fl_X5_24 (I74.1.o 7 (by decide)) rfl dX5_back_56 ?_
  refine h_iload_n hC dX5_back_59 rfl ?_
  refine hi_add (j := 42) hC hr ho I74 (by decide) ⟨fun q => absurd q (by decide), fun q => absurd q (by decide), by omega⟩ cl_X5_140 rfl (Nat.le_of_ble_eq_true rfl) (hFr_of (Nat.le_of_ble_eq_true rfl) (Nat.le_of_ble_eq_true rfl)) dX5_back_60 (fun u88 S82 I83 o87 K84 s85 a86 => ?_)
  have m89 : gSm S S82 [38, 39, 40, 41, 42, 43, 44, 45] [25, 26, 27, 28, 29, 30, 31, 32, 33, 34, 35, 36] := m79.tr s85 _ _ rfl rfl
  have K90 := K80.tr K84
  have NS82 : sN S82 45 = sN S73 45 := s85.n 45 (by decide)
  have ZS82 : sZ S82 43 = sZ S73 43 := s85.z 43 (by decide)
  have Pa86 : gPsi S82 = gPsi S73 := a86.2.2.2 (by decide)
  refine h_aload_n hC dX5_back_63 rfl ?_
  refine h_get hC fl_X5_28 (I83.1.o 7 (by decide)) rfl dX5_back_64 ?_
  refine hi_size (j := 43) hC hr o87 I83.1 (by decide) cl_X5_207 rfl (Nat.le_of_ble_eq_true rfl) (hFr_of (Nat.le_of_ble_eq_true rfl) (Nat.le_of_ble_eq_true rfl)) dX5_back_67 ?_
  refine h_if_ne (tgt := 79) hC dX5_back_70 (by decide) (fun c91 => ?_) (fun c91 => ?_)
  · exact h_vret hC hr o87 rfl rfl ⟨S82, I83, K90, m89, by omega, by omega, by omega⟩ dX5_back_79
  · refine h_aload_n hC dX5_back_73 rfl ?_
    refine h_iload_n hC dX5_back_74 rfl ?_
    refine h_iconst (v := 0) hC dX5_back_75 rfl ?_
    refine h_callVv (As := [.int r7, .int 0]) hC hr o87 rfl (I83.1.o 7 (by decide)) (s_M_finish X.la d b Y c _ _ _ I83 (by omega) (by omega) r7 0) cl_X5_155 rfl rfl (Nat.le_of_ble_eq_true rfl) (hFr_of (Nat.le_of_ble_eq_true rfl) (Nat.le_of_ble_eq_true rfl)) dX5_back_76 (fun u92 p93 o94 => ?_)
    obtain ⟨S96, I97, K98, s99, q100⟩ := p93
    have m101 : gSm S S96 [38, 39, 40, 41, 42, 43, 44, 45] [25, 26, 27, 28, 29, 30, 31, 32, 33, 34, 35, 36] := m89.tr s99 _ _ rfl rfl
    have K102 := K90.tr K98
    have ZS96 : sZ S96 43 = sZ S82 43 := s99.z 43 (by decide)
    obtain ⟨aq100, bq100, nq100⟩ := q100
    exact h_vret hC hr o94 rfl rfl ⟨S96, I97, K102, m101, by omega, by omega, by omega⟩ dX5_back_79
