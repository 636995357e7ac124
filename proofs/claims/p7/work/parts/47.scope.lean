theorem kw_588 : Cond.fieldLink RX9 15 "WordTongue$Scope" "names" "LWordTongue$Ints;" ∈ gWs := List.mem_filter.mpr ⟨gMt2 _ (List.mem_of_getElem? (i := 111) rfl), rfl⟩
theorem fl_X9_15 : gFL RX9 15 9 1 (.object "WordTongue$Ints") true := ⟨RX9, TX9, 8, tyX9, rfl, by decide, inW_RX9, kw_588, tyX9_ok, nmX9, rfl, by decide +kernel, fun _ => rfl⟩
theorem kw_1278 : Cond.methodLink RX9 47 yX4_cut ∈ gWs := List.mem_filter.mpr ⟨gMt5 _ (List.mem_of_getElem? (i := 81) rfl), rfl⟩
theorem cl_X9_47 : gCV RX9 47 yX4_cut cX4_cut 2 none 1 := ⟨g_mk [.methodLink RX9 47 yX4_cut, .instanceMethod yX4_cut, .selects yX4_cut.cls yX4_cut yX4_cut, .initialized yX4_cut.cls] (gWs_all kw_468) (List.forall_mem_cons.mpr ⟨kw_1278, List.forall_mem_cons.mpr ⟨kw_466, List.forall_mem_cons.mpr ⟨kw_467, List.forall_mem_cons.mpr ⟨kw_239, fun _ h => nomatch h⟩⟩⟩⟩), rfl, by decide +kernel, by decide +kernel, by decide +kernel⟩
theorem kw_1284 : Cond.methodLink RX9 53 yX4_add ∈ gWs := List.mem_filter.mpr ⟨gMt5 _ (List.mem_of_getElem? (i := 87) rfl), rfl⟩
theorem cl_X9_53 : gCV RX9 53 yX4_add cX4_add 2 none 1 := ⟨g_mk [.methodLink RX9 53 yX4_add, .instanceMethod yX4_add, .selects yX4_add.cls yX4_add yX4_add, .initialized yX4_add.cls] (gWs_all kw_444) (List.forall_mem_cons.mpr ⟨kw_1284, List.forall_mem_cons.mpr ⟨kw_442, List.forall_mem_cons.mpr ⟨kw_443, List.forall_mem_cons.mpr ⟨kw_239, fun _ h => nomatch h⟩⟩⟩⟩), rfl, by decide +kernel, by decide +kernel, by decide +kernel⟩
theorem kw_1285 : Cond.methodLink RX9 56 yX4_size ∈ gWs := List.mem_filter.mpr ⟨gMt5 _ (List.mem_of_getElem? (i := 88) rfl), rfl⟩
theorem cl_X9_56 : gCV RX9 56 yX4_size cX4_size 1 (some .int) 0 := ⟨g_mk [.methodLink RX9 56 yX4_size, .instanceMethod yX4_size, .selects yX4_size.cls yX4_size yX4_size, .initialized yX4_size.cls] (gWs_all kw_428) (List.forall_mem_cons.mpr ⟨kw_1285, List.forall_mem_cons.mpr ⟨kw_426, List.forall_mem_cons.mpr ⟨kw_427, List.forall_mem_cons.mpr ⟨kw_239, fun _ h => nomatch h⟩⟩⟩⟩), rfl, by decide +kernel, by decide +kernel, by decide +kernel⟩
theorem kw_593 : Cond.fieldLink RX9 33 "WordTongue$Scope" "marks" "LWordTongue$Ints;" ∈ gWs := List.mem_filter.mpr ⟨gMt2 _ (List.mem_of_getElem? (i := 116) rfl), rfl⟩
theorem fl_X9_33 : gFL RX9 33 9 6 (.object "WordTongue$Ints") true := ⟨RX9, TX9, 8, tyX9, rfl, by decide, inW_RX9, kw_593, tyX9_ok, nmX9, rfl, by decide +kernel, fun _ => rfl⟩
theorem kw_594 : Cond.fieldLink RX9 36 "WordTongue$Scope" "floor" "I" ∈ gWs := List.mem_filter.mpr ⟨gMt2 _ (List.mem_of_getElem? (i := 117) rfl), rfl⟩
theorem fl_X9_36 : gFL RX9 36 9 7 .int false := ⟨RX9, TX9, 8, tyX9, rfl, by decide, inW_RX9, kw_594, tyX9_ok, nmX9, rfl, by decide +kernel, fun h => by cases h⟩
theorem kw_252 : Cond.initialized RX9 ∈ gWs := List.mem_filter.mpr ⟨gMt1 _ (List.mem_of_getElem? (i := 15) rfl), rfl⟩
theorem kw_1277 : Cond.code yX9_cut cX9_cut 2 none ∈ gWs := List.mem_filter.mpr ⟨gMt5 _ (List.mem_of_getElem? (i := 80) rfl), rfl⟩
theorem kw_1274 : Cond.methodLink RX9 44 yX9_cut ∈ gWs := List.mem_filter.mpr ⟨gMt5 _ (List.mem_of_getElem? (i := 77) rfl), rfl⟩
theorem kw_1276 : Cond.instanceMethod yX9_cut ∈ gWs := List.mem_filter.mpr ⟨gMt5 _ (List.mem_of_getElem? (i := 79) rfl), rfl⟩
theorem kw_55 : Cond.selects RX9 yX9_cut yX9_cut ∈ gWs := gWm 55 (by decide +kernel) rfl
theorem cl_X9_44 : gCV RX9 44 yX9_cut cX9_cut 2 none 1 := ⟨g_mk [.methodLink RX9 44 yX9_cut, .instanceMethod yX9_cut, .selects yX9_cut.cls yX9_cut yX9_cut, .initialized yX9_cut.cls] (gWs_all kw_1277) (List.forall_mem_cons.mpr ⟨kw_1274, List.forall_mem_cons.mpr ⟨kw_1276, List.forall_mem_cons.mpr ⟨kw_55, List.forall_mem_cons.mpr ⟨kw_252, fun _ h => nomatch h⟩⟩⟩⟩), rfl, by decide +kernel, by decide +kernel, by decide +kernel⟩
theorem kw_1141 : Cond.code yX4_pop cX4_pop 1 (some .int) ∈ gWs := List.mem_filter.mpr ⟨gMt4 _ (List.mem_of_getElem? (i := 184) rfl), rfl⟩
theorem kw_1516 : Cond.methodLink RX9 60 yX4_pop ∈ gWs := List.mem_filter.mpr ⟨gMt6 _ (List.mem_of_getElem? (i := 79) rfl), rfl⟩
theorem kw_1139 : Cond.instanceMethod yX4_pop ∈ gWs := List.mem_filter.mpr ⟨gMt4 _ (List.mem_of_getElem? (i := 182) rfl), rfl⟩
theorem kw_1140 : Cond.selects RX4 yX4_pop yX4_pop ∈ gWs := List.mem_filter.mpr ⟨gMt4 _ (List.mem_of_getElem? (i := 183) rfl), rfl⟩
theorem cl_X9_60 : gCV RX9 60 yX4_pop cX4_pop 1 (some .int) 0 := ⟨g_mk [.methodLink RX9 60 yX4_pop, .instanceMethod yX4_pop, .selects yX4_pop.cls yX4_pop yX4_pop, .initialized yX4_pop.cls] (gWs_all kw_1141) (List.forall_mem_cons.mpr ⟨kw_1516, List.forall_mem_cons.mpr ⟨kw_1139, List.forall_mem_cons.mpr ⟨kw_1140, List.forall_mem_cons.mpr ⟨kw_239, fun _ h => nomatch h⟩⟩⟩⟩), rfl, by decide +kernel, by decide +kernel, by decide +kernel⟩
theorem dX10_hang_0 : decode cX10_hang 0 = .ok (.aload_n 0, 1) := by decide +kernel
theorem dX10_hang_1 : decode cX10_hang 1 = .ok (.getfield 30, 3) := by decide +kernel
theorem dX10_hang_4 : decode cX10_hang 4 = .ok (.iload_n 1, 1) := by decide +kernel
theorem dX10_hang_5 : decode cX10_hang 5 = .ok (.invokevirtual 53, 3) := by decide +kernel
theorem dX10_hang_8 : decode cX10_hang 8 = .ok (.ifCond .ne 15, 3) := by decide +kernel
theorem dX10_hang_11 : decode cX10_hang 11 = .ok (.aload_n 0, 1) := by decide +kernel
theorem dX10_hang_12 : decode cX10_hang 12 = .ok (.getfield 30, 3) := by decide +kernel
theorem dX10_hang_15 : decode cX10_hang 15 = .ok (.iload_n 1, 1) := by decide +kernel
theorem dX10_hang_16 : decode cX10_hang 16 = .ok (.iload_n 2, 1) := by decide +kernel
theorem dX10_hang_17 : decode cX10_hang 17 = .ok (.invokevirtual 57, 3) := by decide +kernel
theorem dX10_hang_20 : decode cX10_hang 20 = .ok (.goto 19, 3) := by decide +kernel
theorem dX10_hang_23 : decode cX10_hang 23 = .ok (.aload_n 0, 1) := by decide +kernel
theorem dX10_hang_24 : decode cX10_hang 24 = .ok (.getfield 36, 3) := by decide +kernel
theorem dX10_hang_27 : decode cX10_hang 27 = .ok (.aload_n 0, 1) := by decide +kernel
theorem dX10_hang_28 : decode cX10_hang 28 = .ok (.getfield 33, 3) := by decide +kernel
theorem dX10_hang_31 : decode cX10_hang 31 = .ok (.iload_n 1, 1) := by decide +kernel
theorem dX10_hang_32 : decode cX10_hang 32 = .ok (.invokevirtual 53, 3) := by decide +kernel
theorem dX10_hang_35 : decode cX10_hang 35 = .ok (.iload_n 2, 1) := by decide +kernel
theorem dX10_hang_36 : decode cX10_hang 36 = .ok (.invokevirtual 57, 3) := by decide +kernel
theorem dX10_hang_39 : decode cX10_hang 39 = .ok (.aload_n 0, 1) := by decide +kernel
theorem dX10_hang_40 : decode cX10_hang 40 = .ok (.getfield 33, 3) := by decide +kernel
theorem dX10_hang_43 : decode cX10_hang 43 = .ok (.iload_n 1, 1) := by decide +kernel
theorem dX10_hang_44 : decode cX10_hang 44 = .ok (.iload_n 2, 1) := by decide +kernel
theorem dX10_hang_45 : decode cX10_hang 45 = .ok (.invokevirtual 57, 3) := by decide +kernel
theorem dX10_hang_48 : decode cX10_hang 48 = .ok (.return_, 1) := by decide +kernel
set_option maxHeartbeats 4000000 in
set_option maxRecDepth 100000 in
theorem s_T_hang0 (l : Launch) (d : gD) (b : Nat) (Y : gYt) (c : Nat × Nat) (F : gM) (k n : Nat) {S : gSt} (hi : hI d b Y c (F, k, n) S) (x y : Int32) : hMv l d b yX10_hang cX10_hang 3 3 k n F [.ref (gO' Y 2), .int x, .int y] (fun u => ∃ S', hI d b Y c u S' ∧ gKp Y F u.1 ∧ gSm S S' [11, 12, 13] [] ∧ gPsi S' ≤ gPsi S) := by
  intro mc ms
  refine hM_of2 rfl (nL := 3) (Nat.le_of_ble_eq_true rfl) ?_
  intro X hX hC hr ho; subst hX
  show hG X d b _ F k n 0 [some (.ref (gO' Y 2)), some (.int x), some (.int y)] []
  refine h_aload_n hC dX10_hang_0 rfl ?_
  refine h_get hC fl_X10_30 (hi.1.o 2 (by decide)) rfl dX10_hang_1 ?_
  refine h_iload_n hC dX10_hang_4 rfl ?_
  refine hi_get (j := 11) hC hr ho hi.1 (by decide) cl_X10_53 rfl (Nat.le_of_ble_eq_true rfl) (hFr_of (Nat.le_of_ble_eq_true rfl) (Nat.le_of_ble_eq_true rfl)) dX10_hang_5 ?_
  refine h_vi (fun x1 ex1 => ?_)
  refine h_if_ne (tgt := 23) hC dX10_hang_8 (by decide) (fun c2 => ?_) (fun c2 => ?_)
  · refine h_aload_n hC dX10_hang_23 rfl ?_
    refine h_get hC fl_X10_36 (hi.1.o 2 (by decide)) rfl dX10_hang_24 ?_
    refine h_aload_n hC dX10_hang_27 rfl ?_
    refine h_get hC fl_X10_33 (hi.1.o 2 (by decide)) rfl dX10_hang_28 ?_
    refine h_iload_n hC dX10_hang_31 rfl ?_
    refine hi_get (j := 12) hC hr ho hi.1 (by decide) cl_X10_53 rfl (Nat.le_of_ble_eq_true rfl) (hFr_of (Nat.le_of_ble_eq_true rfl) (Nat.le_of_ble_eq_true rfl)) dX10_hang_32 ?_
    refine h_vi (fun x3 ex3 => ?_)
    refine h_iload_n hC dX10_hang_35 rfl ?_
    refine hi_set (j := 13) hC hr ho hi (by decide) cl_X10_57 rfl (Nat.le_of_ble_eq_true rfl) (hFr_of (Nat.le_of_ble_eq_true rfl) (Nat.le_of_ble_eq_true rfl)) dX10_hang_36 (fun F4 S5 I6 K7 s8 a9 => ?_)
    have m10 : gSm S S5 [11, 12, 13] [] := gSm.wk s8 _ _ rfl rfl
    have Pa9 : gPsi S5 ≤ gPsi S := a9.2.2.2.2
    refine h_aload_n hC dX10_hang_39 rfl ?_
    refine h_get hC fl_X10_33 (I6.1.o 2 (by decide)) rfl dX10_hang_40 ?_
    refine h_iload_n hC dX10_hang_43 rfl ?_
    refine h_iload_n hC dX10_hang_44 rfl ?_
    refine hi_set (j := 12) hC hr ho I6 (by decide) cl_X10_57 rfl (Nat.le_of_ble_eq_true rfl) (hFr_of (Nat.le_of_ble_eq_true rfl) (Nat.le_of_ble_eq_true rfl)) dX10_hang_45 (fun F12 S13 I14 K15 s16 a17 => ?_)
    have m18 : gSm S S13 [11, 12, 13] [] := m10.tr s16 _ _ rfl rfl
    have K19 := K7.tr K15
    have Pa17 : gPsi S13 ≤ gPsi S5 := a17.2.2.2.2
    exact h_vret hC hr ho rfl rfl ⟨S13, I14, K19, m18, by omega⟩ dX10_hang_48
  · refine h_aload_n hC dX10_hang_11 rfl ?_
    refine h_get hC fl_X10_30 (hi.1.o 2 (by decide)) rfl dX10_hang_12 ?_
    refine h_iload_n hC dX10_hang_15 rfl ?_
    refine h_iload_n hC dX10_hang_16 rfl ?_
    refine hi_set (j := 11) hC hr ho hi (by decide) cl_X10_57 rfl (Nat.le_of_ble_eq_true rfl) (hFr_of (Nat.le_of_ble_eq_true rfl) (Nat.le_of_ble_eq_true rfl)) dX10_hang_17 (fun F20 S21 I22 K23 s24 a25 => ?_)
    have m26 : gSm S S21 [11, 12, 13] [] := gSm.wk s24 _ _ rfl rfl
    have Pa25 : gPsi S21 ≤ gPsi S := a25.2.2.2.2
    refine h_goto (tgt := 39) hC dX10_hang_20 (by decide) ?_
    refine h_aload_n hC dX10_hang_39 rfl ?_
    refine h_get hC fl_X10_33 (I22.1.o 2 (by decide)) rfl dX10_hang_40 ?_
    refine h_iload_n hC dX10_hang_43 rfl ?_
    refine h_iload_n hC dX10_hang_44 rfl ?_
    refine hi_set (j := 12) hC hr ho I22 (by decide) cl_X10_57 rfl (Nat.le_of_ble_eq_true rfl) (hFr_of (Nat.le_of_ble_eq_true rfl) (Nat.le_of_ble_eq_true rfl)) dX10_hang_45 (fun F28 S29 I30 K31 s32 a33 => ?_)
    have m34 : gSm S S29 [11, 12, 13] [] := m26.tr s32 _ _ rfl rfl
    have K35 := K23.tr K31
    have Pa33 : gPsi S29 ≤ gPsi S21 := a33.2.2.2.2
    exact h_vret hC hr ho rfl rfl ⟨S29, I30, K35, m34, by omega⟩ dX10_hang_48
theorem dX10_clear_0 : decode cX10_clear 0 = .ok (.aload_n 0, 1) := by decide +kernel
theorem dX10_clear_1 : decode cX10_clear 1 = .ok (.getfield 15, 3) := by decide +kernel
theorem dX10_clear_4 : decode cX10_clear 4 = .ok (.iconst 0, 1) := by decide +kernel
theorem dX10_clear_5 : decode cX10_clear 5 = .ok (.invokevirtual 39, 3) := by decide +kernel
theorem dX10_clear_8 : decode cX10_clear 8 = .ok (.aload_n 0, 1) := by decide +kernel
theorem dX10_clear_9 : decode cX10_clear 9 = .ok (.getfield 21, 3) := by decide +kernel
theorem dX10_clear_12 : decode cX10_clear 12 = .ok (.iconst 0, 1) := by decide +kernel
theorem dX10_clear_13 : decode cX10_clear 13 = .ok (.invokevirtual 39, 3) := by decide +kernel
theorem dX10_clear_16 : decode cX10_clear 16 = .ok (.aload_n 0, 1) := by decide +kernel
theorem dX10_clear_17 : decode cX10_clear 17 = .ok (.getfield 24, 3) := by decide +kernel
theorem dX10_clear_20 : decode cX10_clear 20 = .ok (.iconst 0, 1) := by decide +kernel
theorem dX10_clear_21 : decode cX10_clear 21 = .ok (.invokevirtual 39, 3) := by decide +kernel
theorem dX10_clear_24 : decode cX10_clear 24 = .ok (.aload_n 0, 1) := by decide +kernel
theorem dX10_clear_25 : decode cX10_clear 25 = .ok (.getfield 27, 3) := by decide +kernel
theorem dX10_clear_28 : decode cX10_clear 28 = .ok (.iconst 0, 1) := by decide +kernel
theorem dX10_clear_29 : decode cX10_clear 29 = .ok (.invokevirtual 39, 3) := by decide +kernel
theorem dX10_clear_32 : decode cX10_clear 32 = .ok (.aload_n 0, 1) := by decide +kernel
theorem dX10_clear_33 : decode cX10_clear 33 = .ok (.getfield 30, 3) := by decide +kernel
theorem dX10_clear_36 : decode cX10_clear 36 = .ok (.iconst 0, 1) := by decide +kernel
theorem dX10_clear_37 : decode cX10_clear 37 = .ok (.invokevirtual 39, 3) := by decide +kernel
theorem dX10_clear_40 : decode cX10_clear 40 = .ok (.aload_n 0, 1) := by decide +kernel
theorem dX10_clear_41 : decode cX10_clear 41 = .ok (.getfield 33, 3) := by decide +kernel
theorem dX10_clear_44 : decode cX10_clear 44 = .ok (.iconst 0, 1) := by decide +kernel
theorem dX10_clear_45 : decode cX10_clear 45 = .ok (.invokevirtual 39, 3) := by decide +kernel
theorem dX10_clear_48 : decode cX10_clear 48 = .ok (.aload_n 0, 1) := by decide +kernel
theorem dX10_clear_49 : decode cX10_clear 49 = .ok (.getfield 36, 3) := by decide +kernel
theorem dX10_clear_52 : decode cX10_clear 52 = .ok (.iconst 0, 1) := by decide +kernel
theorem dX10_clear_53 : decode cX10_clear 53 = .ok (.invokevirtual 39, 3) := by decide +kernel
theorem dX10_clear_56 : decode cX10_clear 56 = .ok (.aload_n 0, 1) := by decide +kernel
theorem dX10_clear_57 : decode cX10_clear 57 = .ok (.iconst 0, 1) := by decide +kernel
theorem dX10_clear_58 : decode cX10_clear 58 = .ok (.iconst 0, 1) := by decide +kernel
theorem dX10_clear_59 : decode cX10_clear 59 = .ok (.iconst 0, 1) := by decide +kernel
theorem dX10_clear_60 : decode cX10_clear 60 = .ok (.invokevirtual 42, 3) := by decide +kernel
theorem dX10_clear_63 : decode cX10_clear 63 = .ok (.pop, 1) := by decide +kernel
theorem dX10_clear_64 : decode cX10_clear 64 = .ok (.return_, 1) := by decide +kernel
set_option maxHeartbeats 4000000 in
set_option maxRecDepth 100000 in
theorem s_T_clear0 (l : Launch) (d : gD) (b : Nat) (Y : gYt) (c : Nat × Nat) (F : gM) (k n : Nat) {S : gSt} (hi : hI d b Y c (F, k, n) S) (hA : gPsi S + 7 ≤ gAm) : hMv l d b yX10_clear cX10_clear 1 4 k n F [.ref (gO' Y 2)] (fun u => ∃ S', hI d b Y c u S' ∧ gKp Y F u.1 ∧ gSm S S' [7, 8, 9, 10, 11, 12, 13] [] ∧ gPsi S' ≤ gPsi S + 7) := by
  intro mc ms
  refine hM_of2 rfl (nL := 1) (Nat.le_of_ble_eq_true rfl) ?_
  intro X hX hC hr ho; subst hX
  show hG X d b _ F k n 0 [some (.ref (gO' Y 2))] []
  refine h_aload_n hC dX10_clear_0 rfl ?_
  refine h_get hC fl_X10_15 (hi.1.o 2 (by decide)) rfl dX10_clear_1 ?_
  refine h_iconst (v := 0) hC dX10_clear_4 rfl ?_
  refine hi_cut (j := 7) hC hr ho hi (by decide) cl_X10_39 rfl (Nat.le_of_ble_eq_true rfl) (hFr_of (Nat.le_of_ble_eq_true rfl) (Nat.le_of_ble_eq_true rfl)) dX10_clear_5 (fun F1 S2 I3 K4 s5 a6 => ?_)
  have m7 : gSm S S2 [7, 8, 9, 10, 11, 12, 13] [] := gSm.wk s5 _ _ rfl rfl
  have Pa6 : gPsi S2 ≤ gPsi S := a6.2.2.2.2.2
  refine h_aload_n hC dX10_clear_8 rfl ?_
  refine h_get hC fl_X10_21 (I3.1.o 2 (by decide)) rfl dX10_clear_9 ?_
  refine h_iconst (v := 0) hC dX10_clear_12 rfl ?_
  refine hi_cut (j := 8) hC hr ho I3 (by decide) cl_X10_39 rfl (Nat.le_of_ble_eq_true rfl) (hFr_of (Nat.le_of_ble_eq_true rfl) (Nat.le_of_ble_eq_true rfl)) dX10_clear_13 (fun F9 S10 I11 K12 s13 a14 => ?_)
  have m15 : gSm S S10 [7, 8, 9, 10, 11, 12, 13] [] := m7.tr s13 _ _ rfl rfl
  have K16 := K4.tr K12
  have Pa14 : gPsi S10 ≤ gPsi S2 := a14.2.2.2.2.2
  refine h_aload_n hC dX10_clear_16 rfl ?_
  refine h_get hC fl_X10_24 (I11.1.o 2 (by decide)) rfl dX10_clear_17 ?_
  refine h_iconst (v := 0) hC dX10_clear_20 rfl ?_
  refine hi_cut (j := 9) hC hr ho I11 (by decide) cl_X10_39 rfl (Nat.le_of_ble_eq_true rfl) (hFr_of (Nat.le_of_ble_eq_true rfl) (Nat.le_of_ble_eq_true rfl)) dX10_clear_21 (fun F17 S18 I19 K20 s21 a22 => ?_)
  have m23 : gSm S S18 [7, 8, 9, 10, 11, 12, 13] [] := m15.tr s21 _ _ rfl rfl
  have K24 := K16.tr K20
  have Pa22 : gPsi S18 ≤ gPsi S10 := a22.2.2.2.2.2
  refine h_aload_n hC dX10_clear_24 rfl ?_
  refine h_get hC fl_X10_27 (I19.1.o 2 (by decide)) rfl dX10_clear_25 ?_
  refine h_iconst (v := 0) hC dX10_clear_28 rfl ?_
  refine hi_cut (j := 10) hC hr ho I19 (by decide) cl_X10_39 rfl (Nat.le_of_ble_eq_true rfl) (hFr_of (Nat.le_of_ble_eq_true rfl) (Nat.le_of_ble_eq_true rfl)) dX10_clear_29 (fun F25 S26 I27 K28 s29 a30 => ?_)
  have m31 : gSm S S26 [7, 8, 9, 10, 11, 12, 13] [] := m23.tr s29 _ _ rfl rfl
  have K32 := K24.tr K28
  have Pa30 : gPsi S26 ≤ gPsi S18 := a30.2.2.2.2.2
  refine h_aload_n hC dX10_clear_32 rfl ?_
  refine h_get hC fl_X10_30 (I27.1.o 2 (by decide)) rfl dX10_clear_33 ?_
  refine h_iconst (v := 0) hC dX10_clear_36 rfl ?_
  refine hi_cut (j := 11) hC hr ho I27 (by decide) cl_X10_39 rfl (Nat.le_of_ble_eq_true rfl) (hFr_of (Nat.le_of_ble_eq_true rfl) (Nat.le_of_ble_eq_true rfl)) dX10_clear_37 (fun F33 S34 I35 K36 s37 a38 => ?_)
  have m39 : gSm S S34 [7, 8, 9, 10, 11, 12, 13] [] := m31.tr s37 _ _ rfl rfl
  have K40 := K32.tr K36
  have Pa38 : gPsi S34 ≤ gPsi S26 := a38.2.2.2.2.2
  refine h_aload_n hC dX10_clear_40 rfl ?_
  refine h_get hC fl_X10_33 (I35.1.o 2 (by decide)) rfl dX10_clear_41 ?_
  refine h_iconst (v := 0) hC dX10_clear_44 rfl ?_
  refine hi_cut (j := 12) hC hr ho I35 (by decide) cl_X10_39 rfl (Nat.le_of_ble_eq_true rfl) (hFr_of (Nat.le_of_ble_eq_true rfl) (Nat.le_of_ble_eq_true rfl)) dX10_clear_45 (fun F41 S42 I43 K44 s45 a46 => ?_)
  have m47 : gSm S S42 [7, 8, 9, 10, 11, 12, 13] [] := m39.tr s45 _ _ rfl rfl
  have K48 := K40.tr K44
  have Pa46 : gPsi S42 ≤ gPsi S34 := a46.2.2.2.2.2
  refine h_aload_n hC dX10_clear_48 rfl ?_
  refine h_get hC fl_X10_36 (I43.1.o 2 (by decide)) rfl dX10_clear_49 ?_
  refine h_iconst (v := 0) hC dX10_clear_52 rfl ?_
  refine hi_cut (j := 13) hC hr ho I43 (by decide) cl_X10_39 rfl (Nat.le_of_ble_eq_true rfl) (hFr_of (Nat.le_of_ble_eq_true rfl) (Nat.le_of_ble_eq_true rfl)) dX10_clear_53 (fun F49 S50 I51 K52 s53 a54 => ?_)
  have m55 : gSm S S50 [7, 8, 9, 10, 11, 12, 13] [] := m47.tr s53 _ _ rfl rfl
  have K56 := K48.tr K52
  have Pa54 : gPsi S50 ≤ gPsi S42 := a54.2.2.2.2.2
  refine h_aload_n hC dX10_clear_56 rfl ?_
  refine h_iconst (v := 0) hC dX10_clear_57 rfl ?_
  refine h_iconst (v := 0) hC dX10_clear_58 rfl ?_
  refine h_iconst (v := 0) hC dX10_clear_59 rfl ?_
  refine h_callVi (As := [.int 0, .int 0, .int 0]) hC hr ho rfl (I51.1.o 2 (by decide)) (s_T_node X.la d b Y c _ _ _ I51 (by omega) 0 0 0) cl_X10_42 rfl rfl (Nat.le_of_ble_eq_true rfl) (hFr_of (Nat.le_of_ble_eq_true rfl) (Nat.le_of_ble_eq_true rfl)) dX10_clear_60 (fun r60 u57 p58 o59 => ?_)
  obtain ⟨S61, I62, K63, s64, q65⟩ := p58
  have m66 : gSm S S61 [7, 8, 9, 10, 11, 12, 13] [] := m55.tr s64 _ _ rfl rfl
  have K67 := K56.tr K63
  obtain ⟨q65, -⟩ := q65
  refine h_pop hC dX10_clear_63 rfl ?_
  exact h_vret hC hr o59 rfl rfl ⟨S61, I62, K67, m66, by omega⟩ dX10_clear_64
theorem dX9_cut_0 : decode cX9_cut 0 = .ok (.aload_n 0, 1) := by decide +kernel
theorem dX9_cut_1 : decode cX9_cut 1 = .ok (.getfield 15, 3) := by decide +kernel
theorem dX9_cut_4 : decode cX9_cut 4 = .ok (.iload_n 1, 1) := by decide +kernel
theorem dX9_cut_5 : decode cX9_cut 5 = .ok (.invokevirtual 47, 3) := by decide +kernel
theorem dX9_cut_8 : decode cX9_cut 8 = .ok (.aload_n 0, 1) := by decide +kernel
theorem dX9_cut_9 : decode cX9_cut 9 = .ok (.getfield 21, 3) := by decide +kernel
theorem dX9_cut_12 : decode cX9_cut 12 = .ok (.iload_n 1, 1) := by decide +kernel
theorem dX9_cut_13 : decode cX9_cut 13 = .ok (.invokevirtual 47, 3) := by decide +kernel
theorem dX9_cut_16 : decode cX9_cut 16 = .ok (.aload_n 0, 1) := by decide +kernel
theorem dX9_cut_17 : decode cX9_cut 17 = .ok (.getfield 24, 3) := by decide +kernel
theorem dX9_cut_20 : decode cX9_cut 20 = .ok (.iload_n 1, 1) := by decide +kernel
theorem dX9_cut_21 : decode cX9_cut 21 = .ok (.invokevirtual 47, 3) := by decide +kernel
theorem dX9_cut_24 : decode cX9_cut 24 = .ok (.aload_n 0, 1) := by decide +kernel
theorem dX9_cut_25 : decode cX9_cut 25 = .ok (.getfield 27, 3) := by decide +kernel
theorem dX9_cut_28 : decode cX9_cut 28 = .ok (.iload_n 1, 1) := by decide +kernel
theorem dX9_cut_29 : decode cX9_cut 29 = .ok (.invokevirtual 47, 3) := by decide +kernel
theorem dX9_cut_32 : decode cX9_cut 32 = .ok (.aload_n 0, 1) := by decide +kernel
theorem dX9_cut_33 : decode cX9_cut 33 = .ok (.getfield 30, 3) := by decide +kernel
theorem dX9_cut_36 : decode cX9_cut 36 = .ok (.iload_n 1, 1) := by decide +kernel
theorem dX9_cut_37 : decode cX9_cut 37 = .ok (.invokevirtual 47, 3) := by decide +kernel
theorem dX9_cut_40 : decode cX9_cut 40 = .ok (.return_, 1) := by decide +kernel
set_option maxHeartbeats 4000000 in
set_option maxRecDepth 100000 in
theorem s_S_cut (l : Launch) (d : gD) (b : Nat) (Y : gYt) (c : Nat × Nat) (F : gM) (k n : Nat) {S : gSt} (hi : hI d b Y c (F, k, n) S) (x : Int32) : hMv l d b yX9_cut cX9_cut 2 2 k n F [.ref (gO' Y 8), .int x] (fun u => ∃ S', hI d b Y c u S' ∧ gKp Y F u.1 ∧ gSm S S' [27, 28, 29, 30, 31] [] ∧ gPsi S' ≤ gPsi S) := by
  intro mc ms
  refine hM_of2 rfl (nL := 2) (Nat.le_of_ble_eq_true rfl) ?_
  intro X hX hC hr ho; subst hX
  show hG X d b _ F k n 0 [some (.ref (gO' Y 8)), some (.int x)] []
  refine h_aload_n hC dX9_cut_0 rfl ?_
  refine h_get hC fl_X9_15 (hi.1.o 8 (by decide)) rfl dX9_cut_1 ?_
  refine h_iload_n hC dX9_cut_4 rfl ?_
  refine hi_cut (j := 27) hC hr ho hi (by decide) cl_X9_47 rfl (Nat.le_of_ble_eq_true rfl) (hFr_of (Nat.le_of_ble_eq_true rfl) (Nat.le_of_ble_eq_true rfl)) dX9_cut_5 (fun F1 S2 I3 K4 s5 a6 => ?_)
  have m7 : gSm S S2 [27, 28, 29, 30, 31] [] := gSm.wk s5 _ _ rfl rfl
  have Pa6 : gPsi S2 ≤ gPsi S := a6.2.2.2.2.2
  refine h_aload_n hC dX9_cut_8 rfl ?_
  refine h_get hC fl_X9_21 (I3.1.o 8 (by decide)) rfl dX9_cut_9 ?_
  refine h_iload_n hC dX9_cut_12 rfl ?_
  refine hi_cut (j := 28) hC hr ho I3 (by decide) cl_X9_47 rfl (Nat.le_of_ble_eq_true rfl) (hFr_of (Nat.le_of_ble_eq_true rfl) (Nat.le_of_ble_eq_true rfl)) dX9_cut_13 (fun F9 S10 I11 K12 s13 a14 => ?_)
  have m15 : gSm S S10 [27, 28, 29, 30, 31] [] := m7.tr s13 _ _ rfl rfl
  have K16 := K4.tr K12
  have Pa14 : gPsi S10 ≤ gPsi S2 := a14.2.2.2.2.2
  refine h_aload_n hC dX9_cut_16 rfl ?_
  refine h_get hC fl_X9_24 (I11.1.o 8 (by decide)) rfl dX9_cut_17 ?_
  refine h_iload_n hC dX9_cut_20 rfl ?_
  refine hi_cut (j := 29) hC hr ho I11 (by decide) cl_X9_47 rfl (Nat.le_of_ble_eq_true rfl) (hFr_of (Nat.le_of_ble_eq_true rfl) (Nat.le_of_ble_eq_true rfl)) dX9_cut_21 (fun F17 S18 I19 K20 s21 a22 => ?_)
  have m23 : gSm S S18 [27, 28, 29, 30, 31] [] := m15.tr s21 _ _ rfl rfl
  have K24 := K16.tr K20
  have Pa22 : gPsi S18 ≤ gPsi S10 := a22.2.2.2.2.2
  refine h_aload_n hC dX9_cut_24 rfl ?_
  refine h_get hC fl_X9_27 (I19.1.o 8 (by decide)) rfl dX9_cut_25 ?_
  refine h_iload_n hC dX9_cut_28 rfl ?_
  refine hi_cut (j := 30) hC hr ho I19 (by decide) cl_X9_47 rfl (Nat.le_of_ble_eq_true rfl) (hFr_of (Nat.le_of_ble_eq_true rfl) (Nat.le_of_ble_eq_true rfl)) dX9_cut_29 (fun F25 S26 I27 K28 s29 a30 => ?_)
  have m31 : gSm S S26 [27, 28, 29, 30, 31] [] := m23.tr s29 _ _ rfl rfl
  have K32 := K24.tr K28
  have Pa30 : gPsi S26 ≤ gPsi S18 := a30.2.2.2.2.2
  refine h_aload_n hC dX9_cut_32 rfl ?_
  refine h_get hC fl_X9_30 (I27.1.o 8 (by decide)) rfl dX9_cut_33 ?_
  refine h_iload_n hC dX9_cut_36 rfl ?_
  refine hi_cut (j := 31) hC hr ho I27 (by decide) cl_X9_47 rfl (Nat.le_of_ble_eq_true rfl) (hFr_of (Nat.le_of_ble_eq_true rfl) (Nat.le_of_ble_eq_true rfl)) dX9_cut_37 (fun F33 S34 I35 K36 s37 a38 => ?_)
  have m39 : gSm S S34 [27, 28, 29, 30, 31] [] := m31.tr s37 _ _ rfl rfl
  have K40 := K32.tr K36
  have Pa38 : gPsi S34 ≤ gPsi S26 := a38.2.2.2.2.2
  exact h_vret hC hr ho rfl rfl ⟨S34, I35, K40, m39, by omega⟩ dX9_cut_40
theorem dX9_put_0 : decode cX9_put 0 = .ok (.aload_n 0, 1) := by decide +kernel
theorem dX9_put_1 : decode cX9_put 1 = .ok (.getfield 15, 3) := by decide +kernel
theorem dX9_put_4 : decode cX9_put 4 = .ok (.iload_n 1, 1) := by decide +kernel
theorem dX9_put_5 : decode cX9_put 5 = .ok (.invokevirtual 53, 3) := by decide +kernel
theorem dX9_put_8 : decode cX9_put 8 = .ok (.aload_n 0, 1) := by decide +kernel
theorem dX9_put_9 : decode cX9_put 9 = .ok (.getfield 21, 3) := by decide +kernel
theorem dX9_put_12 : decode cX9_put 12 = .ok (.iload_n 2, 1) := by decide +kernel
theorem dX9_put_13 : decode cX9_put 13 = .ok (.invokevirtual 53, 3) := by decide +kernel
theorem dX9_put_16 : decode cX9_put 16 = .ok (.aload_n 0, 1) := by decide +kernel
theorem dX9_put_17 : decode cX9_put 17 = .ok (.getfield 24, 3) := by decide +kernel
theorem dX9_put_20 : decode cX9_put 20 = .ok (.iload_n 3, 1) := by decide +kernel
theorem dX9_put_21 : decode cX9_put 21 = .ok (.invokevirtual 53, 3) := by decide +kernel
theorem dX9_put_24 : decode cX9_put 24 = .ok (.aload_n 0, 1) := by decide +kernel
theorem dX9_put_25 : decode cX9_put 25 = .ok (.getfield 27, 3) := by decide +kernel
theorem dX9_put_28 : decode cX9_put 28 = .ok (.iload 4, 2) := by decide +kernel
theorem dX9_put_30 : decode cX9_put 30 = .ok (.invokevirtual 53, 3) := by decide +kernel
theorem dX9_put_33 : decode cX9_put 33 = .ok (.aload_n 0, 1) := by decide +kernel
theorem dX9_put_34 : decode cX9_put 34 = .ok (.getfield 30, 3) := by decide +kernel
theorem dX9_put_37 : decode cX9_put 37 = .ok (.iload 5, 2) := by decide +kernel
theorem dX9_put_39 : decode cX9_put 39 = .ok (.invokevirtual 53, 3) := by decide +kernel
theorem dX9_put_42 : decode cX9_put 42 = .ok (.aload_n 0, 1) := by decide +kernel
theorem dX9_put_43 : decode cX9_put 43 = .ok (.getfield 15, 3) := by decide +kernel
theorem dX9_put_46 : decode cX9_put 46 = .ok (.invokevirtual 56, 3) := by decide +kernel
theorem dX9_put_49 : decode cX9_put 49 = .ok (.iconst 1, 1) := by decide +kernel
theorem dX9_put_50 : decode cX9_put 50 = .ok (.isub, 1) := by decide +kernel
theorem dX9_put_51 : decode cX9_put 51 = .ok (.ireturn, 1) := by decide +kernel
set_option maxHeartbeats 4000000 in
set_option maxRecDepth 100000 in
theorem s_S_put (l : Launch) (d : gD) (b : Nat) (Y : gYt) (c : Nat × Nat) (F : gM) (k n : Nat) {S : gSt} (hi : hI d b Y c (F, k, n) S) (hA : gPsi S + 5 ≤ gAm) (x y z v t : Int32) : hMi l d b yX9_put cX9_put 6 .int 3 k n F [.ref (gO' Y 8), .int x, .int y, .int z, .int v, .int t] (fun r u => ∃ S', hI d b Y c u S' ∧ gKp Y F u.1 ∧ gSm S S' [27, 28, 29, 30, 31] [] ∧ gPsi S' ≤ gPsi S + 5) := by
  intro mc ms
  refine hM_of2 rfl (nL := 6) (Nat.le_of_ble_eq_true rfl) ?_
  intro X hX hC hr ho; subst hX
  show hG X d b _ F k n 0 [some (.ref (gO' Y 8)), some (.int x), some (.int y), some (.int z), some (.int v), some (.int t)] []
  refine h_aload_n hC dX9_put_0 rfl ?_
  refine h_get hC fl_X9_15 (hi.1.o 8 (by decide)) rfl dX9_put_1 ?_
  refine h_iload_n hC dX9_put_4 rfl ?_
  refine hi_add (j := 27) hC hr ho hi (by decide) ⟨fun _ => by omega, fun q => absurd q (by decide), by omega⟩ cl_X9_53 rfl (Nat.le_of_ble_eq_true rfl) (hFr_of (Nat.le_of_ble_eq_true rfl) (Nat.le_of_ble_eq_true rfl)) dX9_put_5 (fun u8 S2 I3 o7 K4 s5 a6 => ?_)
  have m9 : gSm S S2 [27, 28, 29, 30, 31] [] := gSm.wk s5 _ _ rfl rfl
  have Pa6 : gPsi S2 ≤ gPsi S + 1 := a6.2.2.1 ⟨by decide, by decide⟩
  refine h_aload_n hC dX9_put_8 rfl ?_
  refine h_get hC fl_X9_21 (I3.1.o 8 (by decide)) rfl dX9_put_9 ?_
  refine h_iload_n hC dX9_put_12 rfl ?_
  refine hi_add (j := 28) hC hr o7 I3 (by decide) ⟨fun _ => by omega, fun q => absurd q (by decide), by omega⟩ cl_X9_53 rfl (Nat.le_of_ble_eq_true rfl) (hFr_of (Nat.le_of_ble_eq_true rfl) (Nat.le_of_ble_eq_true rfl)) dX9_put_13 (fun u18 S12 I13 o17 K14 s15 a16 => ?_)
  have m19 : gSm S S12 [27, 28, 29, 30, 31] [] := m9.tr s15 _ _ rfl rfl
  have K20 := K4.tr K14
  have Pa16 : gPsi S12 ≤ gPsi S2 + 1 := a16.2.2.1 ⟨by decide, by decide⟩
  refine h_aload_n hC dX9_put_16 rfl ?_
  refine h_get hC fl_X9_24 (I13.1.o 8 (by decide)) rfl dX9_put_17 ?_
  refine h_iload_n hC dX9_put_20 rfl ?_
  refine hi_add (j := 29) hC hr o17 I13 (by decide) ⟨fun _ => by omega, fun q => absurd q (by decide), by omega⟩ cl_X9_53 rfl (Nat.le_of_ble_eq_true rfl) (hFr_of (Nat.le_of_ble_eq_true rfl) (Nat.le_of_ble_eq_true rfl)) dX9_put_21 (fun u28 S22 I23 o27 K24 s25 a26 => ?_)
  have m29 : gSm S S22 [27, 28, 29, 30, 31] [] := m19.tr s25 _ _ rfl rfl
  have K30 := K20.tr K24
  have Pa26 : gPsi S22 ≤ gPsi S12 + 1 := a26.2.2.1 ⟨by decide, by decide⟩
  refine h_aload_n hC dX9_put_24 rfl ?_
  refine h_get hC fl_X9_27 (I23.1.o 8 (by decide)) rfl dX9_put_25 ?_
  refine h_iload hC dX9_put_28 rfl ?_
  refine hi_add (j := 30) hC hr o27 I23 (by decide) ⟨fun _ => by omega, fun q => absurd q (by decide), by omega⟩ cl_X9_53 rfl (Nat.le_of_ble_eq_true rfl) (hFr_of (Nat.le_of_ble_eq_true rfl) (Nat.le_of_ble_eq_true rfl)) dX9_put_30 (fun u38 S32 I33 o37 K34 s35 a36 => ?_)
  have m39 : gSm S S32 [27, 28, 29, 30, 31] [] := m29.tr s35 _ _ rfl rfl
  have K40 := K30.tr K34
  have Pa36 : gPsi S32 ≤ gPsi S22 + 1 := a36.2.2.1 ⟨by decide, by decide⟩
  refine h_aload_n hC dX9_put_33 rfl ?_
  refine h_get hC fl_X9_30 (I33.1.o 8 (by decide)) rfl dX9_put_34 ?_
  refine h_iload hC dX9_put_37 rfl ?_
  refine hi_add (j := 31) hC hr o37 I33 (by decide) ⟨fun _ => by omega, fun q => absurd q (by decide), by omega⟩ cl_X9_53 rfl (Nat.le_of_ble_eq_true rfl) (hFr_of (Nat.le_of_ble_eq_true rfl) (Nat.le_of_ble_eq_true rfl)) dX9_put_39 (fun u48 S42 I43 o47 K44 s45 a46 => ?_)
  have m49 : gSm S S42 [27, 28, 29, 30, 31] [] := m39.tr s45 _ _ rfl rfl
  have K50 := K40.tr K44
  have Pa46 : gPsi S42 ≤ gPsi S32 + 1 := a46.2.2.1 ⟨by decide, by decide⟩
  refine h_aload_n hC dX9_put_42 rfl ?_
  refine h_get hC fl_X9_15 (I43.1.o 8 (by decide)) rfl dX9_put_43 ?_
  refine hi_size (j := 27) hC hr o47 I43.1 (by decide) cl_X9_56 rfl (Nat.le_of_ble_eq_true rfl) (hFr_of (Nat.le_of_ble_eq_true rfl) (Nat.le_of_ble_eq_true rfl)) dX9_put_46 ?_
  refine h_iconst (v := 1) hC dX9_put_49 rfl ?_
  refine h_isub hC dX9_put_50 ?_
  refine h_vi (fun x51 ex51 => ?_)
  exact h_iret hC hr o47 rfl rfl rfl ⟨S42, I43, K50, m49, by omega⟩ dX9_put_51
theorem dX9_open_0 : decode cX9_open 0 = .ok (.aload_n 0, 1) := by decide +kernel
theorem dX9_open_1 : decode cX9_open 1 = .ok (.getfield 33, 3) := by decide +kernel
theorem dX9_open_4 : decode cX9_open 4 = .ok (.aload_n 0, 1) := by decide +kernel
theorem dX9_open_5 : decode cX9_open 5 = .ok (.getfield 36, 3) := by decide +kernel
theorem dX9_open_8 : decode cX9_open 8 = .ok (.invokevirtual 53, 3) := by decide +kernel
theorem dX9_open_11 : decode cX9_open 11 = .ok (.aload_n 0, 1) := by decide +kernel
theorem dX9_open_12 : decode cX9_open 12 = .ok (.aload_n 0, 1) := by decide +kernel
theorem dX9_open_13 : decode cX9_open 13 = .ok (.getfield 15, 3) := by decide +kernel
theorem dX9_open_16 : decode cX9_open 16 = .ok (.invokevirtual 56, 3) := by decide +kernel
theorem dX9_open_19 : decode cX9_open 19 = .ok (.putfield 36, 3) := by decide +kernel
theorem dX9_open_22 : decode cX9_open 22 = .ok (.return_, 1) := by decide +kernel
set_option maxHeartbeats 4000000 in
set_option maxRecDepth 100000 in
theorem s_S_open (l : Launch) (d : gD) (b : Nat) (Y : gYt) (c : Nat × Nat) (F : gM) (k n : Nat) {S : gSt} (hi : hI d b Y c (F, k, n) S) (hA : gPsi S + 1 ≤ gAm) : hMv l d b yX9_open cX9_open 1 3 k n F [.ref (gO' Y 8)] (fun u => ∃ S', hI d b Y c u S' ∧ gKp Y F u.1 ∧ gSm S S' [32] [37] ∧ gPsi S' ≤ gPsi S + 1) := by
  intro mc ms
  refine hM_of2 rfl (nL := 1) (Nat.le_of_ble_eq_true rfl) ?_
  intro X hX hC hr ho; subst hX
  show hG X d b _ F k n 0 [some (.ref (gO' Y 8))] []
  refine h_aload_n hC dX9_open_0 rfl ?_
  refine h_get hC fl_X9_33 (hi.1.o 8 (by decide)) rfl dX9_open_1 ?_
  refine h_aload_n hC dX9_open_4 rfl ?_
  refine h_get hC fl_X9_36 (hi.1.o 8 (by decide)) rfl dX9_open_5 ?_
  refine hi_add (j := 32) hC hr ho hi (by decide) ⟨fun _ => by omega, fun q => absurd q (by decide), by omega⟩ cl_X9_53 rfl (Nat.le_of_ble_eq_true rfl) (hFr_of (Nat.le_of_ble_eq_true rfl) (Nat.le_of_ble_eq_true rfl)) dX9_open_8 (fun u8 S2 I3 o7 K4 s5 a6 => ?_)
  have m9 : gSm S S2 [32] [37] := gSm.wk s5 _ _ rfl rfl
  have Pa6 : gPsi S2 ≤ gPsi S + 1 := a6.2.2.1 ⟨by decide, by decide⟩
  refine h_aload_n hC dX9_open_11 rfl ?_
  refine h_aload_n hC dX9_open_12 rfl ?_
  refine h_get hC fl_X9_15 (I3.1.o 8 (by decide)) rfl dX9_open_13 ?_
  refine hi_size (j := 27) hC hr o7 I3.1 (by decide) cl_X9_56 rfl (Nat.le_of_ble_eq_true rfl) (hFr_of (Nat.le_of_ble_eq_true rfl) (Nat.le_of_ble_eq_true rfl)) dX9_open_16 ?_
  refine hi_putx (i := 8) (kx := 37) hC I3 (by decide) fl_X9_36 rfl rfl rfl (Nat.le_of_ble_eq_true rfl) rfl gsame_37 (fun q => absurd q (by decide)) dX9_open_19 (fun F11 S12 I13 K14 s15 v16 p17 => ?_)
  have m18 : gSm S S12 [32] [37] := m9.tr s15 _ _ rfl rfl
  have K19 := K4.tr K14
  exact h_vret hC hr o7 rfl rfl ⟨S12, I13, K19, m18, by omega⟩ dX9_open_22
theorem dX9_close_0 : decode cX9_close 0 = .ok (.aload_n 0, 1) := by decide +kernel
theorem dX9_close_1 : decode cX9_close 1 = .ok (.aload_n 0, 1) := by decide +kernel
theorem dX9_close_2 : decode cX9_close 2 = .ok (.getfield 36, 3) := by decide +kernel
theorem dX9_close_5 : decode cX9_close 5 = .ok (.invokevirtual 44, 3) := by decide +kernel
theorem dX9_close_8 : decode cX9_close 8 = .ok (.aload_n 0, 1) := by decide +kernel
theorem dX9_close_9 : decode cX9_close 9 = .ok (.aload_n 0, 1) := by decide +kernel
theorem dX9_close_10 : decode cX9_close 10 = .ok (.getfield 33, 3) := by decide +kernel
theorem dX9_close_13 : decode cX9_close 13 = .ok (.invokevirtual 60, 3) := by decide +kernel
theorem dX9_close_16 : decode cX9_close 16 = .ok (.putfield 36, 3) := by decide +kernel
theorem dX9_close_19 : decode cX9_close 19 = .ok (.return_, 1) := by decide +kernel
set_option maxHeartbeats 4000000 in
set_option maxRecDepth 100000 in
theorem s_S_close (l : Launch) (d : gD) (b : Nat) (Y : gYt) (c : Nat × Nat) (F : gM) (k n : Nat) {S : gSt} (hi : hI d b Y c (F, k, n) S)  : hMv l d b yX9_close cX9_close 1 3 k n F [.ref (gO' Y 8)] (fun u => ∃ S', hI d b Y c u S' ∧ gKp Y F u.1 ∧ gSm S S' [27, 28, 29, 30, 31, 32] [37] ∧ gPsi S' ≤ gPsi S) := by
  intro mc ms
  refine hM_of2 rfl (nL := 1) (Nat.le_of_ble_eq_true rfl) ?_
  intro X hX hC hr ho; subst hX
  show hG X d b _ F k n 0 [some (.ref (gO' Y 8))] []
  refine h_aload_n hC dX9_close_0 rfl ?_
  refine h_aload_n hC dX9_close_1 rfl ?_
  refine h_get hC fl_X9_36 (hi.1.o 8 (by decide)) rfl dX9_close_2 ?_
  refine h_callVv (As := [.int (sV S 37)]) hC hr ho rfl (hi.1.o 8 (by decide)) (s_S_cut X.la d b Y c _ _ _ hi (sV S 37)) cl_X9_44 rfl rfl (Nat.le_of_ble_eq_true rfl) (hFr_of (Nat.le_of_ble_eq_true rfl) (Nat.le_of_ble_eq_true rfl)) dX9_close_5 (fun u1 p2 o3 => ?_)
  obtain ⟨S5, I6, K7, s8, q9⟩ := p2
  have m10 : gSm S S5 [27, 28, 29, 30, 31, 32] [37] := gSm.wk s8 _ _ rfl rfl
  refine h_aload_n hC dX9_close_8 rfl ?_
  refine h_aload_n hC dX9_close_9 rfl ?_
  refine h_get hC fl_X9_33 (I6.1.o 8 (by decide)) rfl dX9_close_10 ?_
  refine hi_pop (j := 32) hC hr o3 I6 (by decide) cl_X9_60 rfl (Nat.le_of_ble_eq_true rfl) (hFr_of (Nat.le_of_ble_eq_true rfl) (Nat.le_of_ble_eq_true rfl)) dX9_close_13 (fun r18 F12 S13 I14 K15 s16 a17 => ?_)
  have m19 : gSm S S13 [27, 28, 29, 30, 31, 32] [37] := m10.tr s16 _ _ rfl rfl
  have K20 := K7.tr K15
  have Pa17 : gPsi S13 ≤ gPsi S5 := a17.2.2.2.2.2
  refine hi_putx (i := 8) (kx := 37) hC I14 (by decide) fl_X9_36 rfl rfl rfl (Nat.le_of_ble_eq_true rfl) rfl gsame_37 (fun q => absurd q (by decide)) dX9_close_16 (fun F21 S22 I23 K24 s25 v26 p27 => ?_)
  have m28 : gSm S S22 [27, 28, 29, 30, 31, 32] [37] := m19.tr s25 _ _ rfl rfl
  have K29 := K20.tr K24
  exact h_vret hC hr o3 rfl rfl ⟨S22, I23, K29, m28, by omega⟩ dX9_close_19
