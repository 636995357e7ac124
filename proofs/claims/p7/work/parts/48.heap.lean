theorem kw_740 : Cond.fieldLink RX3 14 "WordTongue$Heap" "starts" "LWordTongue$Ints;" ∈ gWs := List.mem_filter.mpr ⟨gMt3 _ (List.mem_of_getElem? (i := 23) rfl), rfl⟩
theorem kw_742 : Cond.laysFinal RX3 "WordTongue$Heap" "starts" "LWordTongue$Ints;" ∈ gWs := List.mem_filter.mpr ⟨gMt3 _ (List.mem_of_getElem? (i := 25) rfl), rfl⟩
theorem kw_744 : Cond.laysFinal RX3 "WordTongue$Heap" "lengths" "LWordTongue$Ints;" ∈ gWs := List.mem_filter.mpr ⟨gMt3 _ (List.mem_of_getElem? (i := 27) rfl), rfl⟩
set_option maxRecDepth 20000 in
theorem inW_RX3 : ∀ w ∈ u_ws RX3 TX3 2, w ∈ gWs := List.forall_mem_cons.mpr ⟨kw_742, List.forall_mem_cons.mpr ⟨kw_744, fun _ h => nomatch h⟩⟩
theorem fl_X3_14 : gFL RX3 14 3 0 (.object "WordTongue$Ints") true := ⟨RX3, TX3, 2, tyX3, rfl, by decide, inW_RX3, kw_740, tyX3_ok, nmX3, rfl, by decide +kernel, fun _ => rfl⟩
theorem kw_1675 : Cond.methodLink RX3 23 yX4_cut ∈ gWs := List.mem_filter.mpr ⟨gMt6 _ (List.mem_of_getElem? (i := 238) rfl), rfl⟩
theorem cl_X3_23 : gCV RX3 23 yX4_cut cX4_cut 2 none 1 := ⟨g_mk [.methodLink RX3 23 yX4_cut, .instanceMethod yX4_cut, .selects yX4_cut.cls yX4_cut yX4_cut, .initialized yX4_cut.cls] (gWs_all kw_468) (List.forall_mem_cons.mpr ⟨kw_1675, List.forall_mem_cons.mpr ⟨kw_466, List.forall_mem_cons.mpr ⟨kw_467, List.forall_mem_cons.mpr ⟨kw_239, fun _ h => nomatch h⟩⟩⟩⟩), rfl, by decide +kernel, by decide +kernel, by decide +kernel⟩
theorem kw_741 : Cond.fieldLink RX3 20 "WordTongue$Heap" "lengths" "LWordTongue$Ints;" ∈ gWs := List.mem_filter.mpr ⟨gMt3 _ (List.mem_of_getElem? (i := 24) rfl), rfl⟩
theorem fl_X3_20 : gFL RX3 20 3 1 (.object "WordTongue$Ints") true := ⟨RX3, TX3, 2, tyX3, rfl, by decide, inW_RX3, kw_741, tyX3_ok, nmX3, rfl, by decide +kernel, fun _ => rfl⟩
theorem kw_1703 : Cond.methodLink RX3 26 yX4_size ∈ gWs := List.mem_filter.mpr ⟨gMt7 _ (List.mem_of_getElem? (i := 26) rfl), rfl⟩
theorem cl_X3_26 : gCV RX3 26 yX4_size cX4_size 1 (some .int) 0 := ⟨g_mk [.methodLink RX3 26 yX4_size, .instanceMethod yX4_size, .selects yX4_size.cls yX4_size yX4_size, .initialized yX4_size.cls] (gWs_all kw_428) (List.forall_mem_cons.mpr ⟨kw_1703, List.forall_mem_cons.mpr ⟨kw_426, List.forall_mem_cons.mpr ⟨kw_427, List.forall_mem_cons.mpr ⟨kw_239, fun _ h => nomatch h⟩⟩⟩⟩), rfl, by decide +kernel, by decide +kernel, by decide +kernel⟩
theorem kw_1704 : Cond.methodLink RX3 37 yX4_get ∈ gWs := List.mem_filter.mpr ⟨gMt7 _ (List.mem_of_getElem? (i := 27) rfl), rfl⟩
theorem cl_X3_37 : gCV RX3 37 yX4_get cX4_get 2 (some .int) 1 := ⟨g_mk [.methodLink RX3 37 yX4_get, .instanceMethod yX4_get, .selects yX4_get.cls yX4_get yX4_get, .initialized yX4_get.cls] (gWs_all kw_436) (List.forall_mem_cons.mpr ⟨kw_1704, List.forall_mem_cons.mpr ⟨kw_434, List.forall_mem_cons.mpr ⟨kw_435, List.forall_mem_cons.mpr ⟨kw_239, fun _ h => nomatch h⟩⟩⟩⟩), rfl, by decide +kernel, by decide +kernel, by decide +kernel⟩
theorem kw_1705 : Cond.methodLink RX3 51 Lib.Math.min.name ∈ gWs := List.mem_filter.mpr ⟨gMt7 _ (List.mem_of_getElem? (i := 28) rfl), rfl⟩
theorem kw_879 : Cond.code yX4_top cX4_top 1 (some .int) ∈ gWs := List.mem_filter.mpr ⟨gMt3 _ (List.mem_of_getElem? (i := 162) rfl), rfl⟩
theorem kw_1861 : Cond.methodLink RX3 41 yX4_top ∈ gWs := List.mem_filter.mpr ⟨gMt7 _ (List.mem_of_getElem? (i := 184) rfl), rfl⟩
theorem kw_877 : Cond.instanceMethod yX4_top ∈ gWs := List.mem_filter.mpr ⟨gMt3 _ (List.mem_of_getElem? (i := 160) rfl), rfl⟩
theorem kw_878 : Cond.selects RX4 yX4_top yX4_top ∈ gWs := List.mem_filter.mpr ⟨gMt3 _ (List.mem_of_getElem? (i := 161) rfl), rfl⟩
theorem cl_X3_41 : gCV RX3 41 yX4_top cX4_top 1 (some .int) 0 := ⟨g_mk [.methodLink RX3 41 yX4_top, .instanceMethod yX4_top, .selects yX4_top.cls yX4_top yX4_top, .initialized yX4_top.cls] (gWs_all kw_879) (List.forall_mem_cons.mpr ⟨kw_1861, List.forall_mem_cons.mpr ⟨kw_877, List.forall_mem_cons.mpr ⟨kw_878, List.forall_mem_cons.mpr ⟨kw_239, fun _ h => nomatch h⟩⟩⟩⟩), rfl, by decide +kernel, by decide +kernel, by decide +kernel⟩
theorem kw_1862 : Cond.methodLink RX3 44 yX4_set ∈ gWs := List.mem_filter.mpr ⟨gMt7 _ (List.mem_of_getElem? (i := 185) rfl), rfl⟩
theorem cl_X3_44 : gCV RX3 44 yX4_set cX4_set 3 none 2 := ⟨g_mk [.methodLink RX3 44 yX4_set, .instanceMethod yX4_set, .selects yX4_set.cls yX4_set yX4_set, .initialized yX4_set.cls] (gWs_all kw_931) (List.forall_mem_cons.mpr ⟨kw_1862, List.forall_mem_cons.mpr ⟨kw_929, List.forall_mem_cons.mpr ⟨kw_930, List.forall_mem_cons.mpr ⟨kw_239, fun _ h => nomatch h⟩⟩⟩⟩), rfl, by decide +kernel, by decide +kernel, by decide +kernel⟩
theorem kw_1863 : Cond.methodLink RX3 48 yX4_pop ∈ gWs := List.mem_filter.mpr ⟨gMt7 _ (List.mem_of_getElem? (i := 186) rfl), rfl⟩
theorem cl_X3_48 : gCV RX3 48 yX4_pop cX4_pop 1 (some .int) 0 := ⟨g_mk [.methodLink RX3 48 yX4_pop, .instanceMethod yX4_pop, .selects yX4_pop.cls yX4_pop yX4_pop, .initialized yX4_pop.cls] (gWs_all kw_1141) (List.forall_mem_cons.mpr ⟨kw_1863, List.forall_mem_cons.mpr ⟨kw_1139, List.forall_mem_cons.mpr ⟨kw_1140, List.forall_mem_cons.mpr ⟨kw_239, fun _ h => nomatch h⟩⟩⟩⟩), rfl, by decide +kernel, by decide +kernel, by decide +kernel⟩
theorem kw_256 : Cond.initialized RX3 ∈ gWs := List.mem_filter.mpr ⟨gMt1 _ (List.mem_of_getElem? (i := 19) rfl), rfl⟩
theorem kw_1855 : Cond.code yX3_touched cX3_touched 4 (some .int) ∈ gWs := List.mem_filter.mpr ⟨gMt7 _ (List.mem_of_getElem? (i := 178) rfl), rfl⟩
theorem kw_1852 : Cond.methodLink RX3 30 yX3_touched ∈ gWs := List.mem_filter.mpr ⟨gMt7 _ (List.mem_of_getElem? (i := 175) rfl), rfl⟩
theorem kw_1854 : Cond.instanceMethod yX3_touched ∈ gWs := List.mem_filter.mpr ⟨gMt7 _ (List.mem_of_getElem? (i := 177) rfl), rfl⟩
theorem kw_122 : Cond.selects RX3 yX3_touched yX3_touched ∈ gWs := gWm 122 (by decide +kernel) rfl
theorem cl_X3_30 : gCV RX3 30 yX3_touched cX3_touched 4 (some .int) 2 := ⟨g_mk [.methodLink RX3 30 yX3_touched, .instanceMethod yX3_touched, .selects yX3_touched.cls yX3_touched yX3_touched, .initialized yX3_touched.cls] (gWs_all kw_1855) (List.forall_mem_cons.mpr ⟨kw_1852, List.forall_mem_cons.mpr ⟨kw_1854, List.forall_mem_cons.mpr ⟨kw_122, List.forall_mem_cons.mpr ⟨kw_256, fun _ h => nomatch h⟩⟩⟩⟩), rfl, by decide +kernel, by decide +kernel, by decide +kernel⟩
theorem kw_1856 : Cond.methodLink RX3 34 yX4_add ∈ gWs := List.mem_filter.mpr ⟨gMt7 _ (List.mem_of_getElem? (i := 179) rfl), rfl⟩
theorem cl_X3_34 : gCV RX3 34 yX4_add cX4_add 2 none 1 := ⟨g_mk [.methodLink RX3 34 yX4_add, .instanceMethod yX4_add, .selects yX4_add.cls yX4_add yX4_add, .initialized yX4_add.cls] (gWs_all kw_444) (List.forall_mem_cons.mpr ⟨kw_1856, List.forall_mem_cons.mpr ⟨kw_442, List.forall_mem_cons.mpr ⟨kw_443, List.forall_mem_cons.mpr ⟨kw_239, fun _ h => nomatch h⟩⟩⟩⟩), rfl, by decide +kernel, by decide +kernel, by decide +kernel⟩
theorem hI.zlt {d : gD} {b : Nat} {Y : gYt} {c : Nat × Nat} {u : hU} {S : gSt} (h : hI d b Y c u S) {j : Nat} (hj : j < 44) : sZ S j < 2 ^ 31 := by
  obtain ⟨-, -, h1, h2, h3, h4⟩ := h.1.r j hj
  omega
theorem nI_ltB {j B : Nat} (hj : j < 2 ^ 31) (h : ¬ nI B ≤ nI j) : j < B := Nat.not_le.mp (fun q => h (nI_le q hj))
theorem dX3_clear_0 : decode cX3_clear 0 = .ok (.aload_n 0, 1) := by decide +kernel
theorem dX3_clear_1 : decode cX3_clear 1 = .ok (.getfield 14, 3) := by decide +kernel
theorem dX3_clear_4 : decode cX3_clear 4 = .ok (.iconst 0, 1) := by decide +kernel
theorem dX3_clear_5 : decode cX3_clear 5 = .ok (.invokevirtual 23, 3) := by decide +kernel
theorem dX3_clear_8 : decode cX3_clear 8 = .ok (.aload_n 0, 1) := by decide +kernel
theorem dX3_clear_9 : decode cX3_clear 9 = .ok (.getfield 20, 3) := by decide +kernel
theorem dX3_clear_12 : decode cX3_clear 12 = .ok (.iconst 0, 1) := by decide +kernel
theorem dX3_clear_13 : decode cX3_clear 13 = .ok (.invokevirtual 23, 3) := by decide +kernel
theorem dX3_clear_16 : decode cX3_clear 16 = .ok (.return_, 1) := by decide +kernel
set_option maxHeartbeats 4000000 in
set_option maxRecDepth 100000 in
theorem s_H_clear (l : Launch) (d : gD) (b : Nat) (Y : gYt) (c : Nat × Nat) (F : gM) (k n : Nat) {S : gSt} (hi : hI d b Y c (F, k, n) S)  : hMv l d b yX3_clear cX3_clear 1 2 k n F [.ref (gO' Y 10)] (fun u => ∃ S', hI d b Y c u S' ∧ gKp Y F u.1 ∧ gSm S S' [40, 41] [] ∧ gPsi S' ≤ gPsi S) := by
  intro mc ms
  refine hM_of2 rfl (nL := 1) (Nat.le_of_ble_eq_true rfl) ?_
  intro X hX hC hr ho; subst hX
  show hG X d b _ F k n 0 [some (.ref (gO' Y 10))] []
  refine h_aload_n hC dX3_clear_0 rfl ?_
  refine h_get hC fl_X3_14 (hi.1.o 10 (by decide)) rfl dX3_clear_1 ?_
  refine h_iconst (v := 0) hC dX3_clear_4 rfl ?_
  refine hi_cut (j := 40) hC hr ho hi (by decide) cl_X3_23 rfl (Nat.le_of_ble_eq_true rfl) (hFr_of (Nat.le_of_ble_eq_true rfl) (Nat.le_of_ble_eq_true rfl)) dX3_clear_5 (fun F1 S2 I3 K4 s5 a6 => ?_)
  have m7 : gSm S S2 [40, 41] [] := gSm.wk s5 _ _ rfl rfl
  have Pa6 : gPsi S2 ≤ gPsi S := a6.2.2.2.2.2
  refine h_aload_n hC dX3_clear_8 rfl ?_
  refine h_get hC fl_X3_20 (I3.1.o 10 (by decide)) rfl dX3_clear_9 ?_
  refine h_iconst (v := 0) hC dX3_clear_12 rfl ?_
  refine hi_cut (j := 41) hC hr ho I3 (by decide) cl_X3_23 rfl (Nat.le_of_ble_eq_true rfl) (hFr_of (Nat.le_of_ble_eq_true rfl) (Nat.le_of_ble_eq_true rfl)) dX3_clear_13 (fun F9 S10 I11 K12 s13 a14 => ?_)
  have m15 : gSm S S10 [40, 41] [] := m7.tr s13 _ _ rfl rfl
  have K16 := K4.tr K12
  have Pa14 : gPsi S10 ≤ gPsi S2 := a14.2.2.2.2.2
  exact h_vret hC hr ho rfl rfl ⟨S10, I11, K16, m15, by omega⟩ dX3_clear_16
theorem dX3_touched_0 : decode cX3_touched 0 = .ok (.iconst 0, 1) := by decide +kernel
theorem dX3_touched_1 : decode cX3_touched 1 = .ok (.istore_n 3, 1) := by decide +kernel
theorem dX3_touched_2 : decode cX3_touched 2 = .ok (.iload_n 3, 1) := by decide +kernel
theorem dX3_touched_3 : decode cX3_touched 3 = .ok (.aload_n 0, 1) := by decide +kernel
theorem dX3_touched_4 : decode cX3_touched 4 = .ok (.getfield 14, 3) := by decide +kernel
theorem dX3_touched_7 : decode cX3_touched 7 = .ok (.invokevirtual 26, 3) := by decide +kernel
theorem dX3_touched_10 : decode cX3_touched 10 = .ok (.if_icmp .ge 46, 3) := by decide +kernel
theorem dX3_touched_13 : decode cX3_touched 13 = .ok (.aload_n 0, 1) := by decide +kernel
theorem dX3_touched_14 : decode cX3_touched 14 = .ok (.getfield 14, 3) := by decide +kernel
theorem dX3_touched_17 : decode cX3_touched 17 = .ok (.iload_n 3, 1) := by decide +kernel
theorem dX3_touched_18 : decode cX3_touched 18 = .ok (.invokevirtual 37, 3) := by decide +kernel
theorem dX3_touched_21 : decode cX3_touched 21 = .ok (.iload_n 1, 1) := by decide +kernel
theorem dX3_touched_22 : decode cX3_touched 22 = .ok (.iload_n 2, 1) := by decide +kernel
theorem dX3_touched_23 : decode cX3_touched 23 = .ok (.iadd, 1) := by decide +kernel
theorem dX3_touched_24 : decode cX3_touched 24 = .ok (.if_icmp .ge 26, 3) := by decide +kernel
theorem dX3_touched_27 : decode cX3_touched 27 = .ok (.iload_n 1, 1) := by decide +kernel
theorem dX3_touched_28 : decode cX3_touched 28 = .ok (.aload_n 0, 1) := by decide +kernel
theorem dX3_touched_29 : decode cX3_touched 29 = .ok (.getfield 14, 3) := by decide +kernel
theorem dX3_touched_32 : decode cX3_touched 32 = .ok (.iload_n 3, 1) := by decide +kernel
theorem dX3_touched_33 : decode cX3_touched 33 = .ok (.invokevirtual 37, 3) := by decide +kernel
theorem dX3_touched_36 : decode cX3_touched 36 = .ok (.aload_n 0, 1) := by decide +kernel
theorem dX3_touched_37 : decode cX3_touched 37 = .ok (.getfield 20, 3) := by decide +kernel
theorem dX3_touched_40 : decode cX3_touched 40 = .ok (.iload_n 3, 1) := by decide +kernel
theorem dX3_touched_41 : decode cX3_touched 41 = .ok (.invokevirtual 37, 3) := by decide +kernel
theorem dX3_touched_44 : decode cX3_touched 44 = .ok (.iadd, 1) := by decide +kernel
theorem dX3_touched_45 : decode cX3_touched 45 = .ok (.if_icmp .ge 5, 3) := by decide +kernel
theorem dX3_touched_48 : decode cX3_touched 48 = .ok (.iload_n 3, 1) := by decide +kernel
theorem dX3_touched_49 : decode cX3_touched 49 = .ok (.ireturn, 1) := by decide +kernel
theorem dX3_touched_50 : decode cX3_touched 50 = .ok (.iinc 3 1, 3) := by decide +kernel
theorem dX3_touched_53 : decode cX3_touched 53 = .ok (.goto (-51), 3) := by decide +kernel
theorem dX3_touched_56 : decode cX3_touched 56 = .ok (.iconst (-1), 1) := by decide +kernel
theorem dX3_touched_57 : decode cX3_touched 57 = .ok (.ireturn, 1) := by decide +kernel
set_option maxHeartbeats 4000000 in
set_option maxRecDepth 100000 in
theorem s_H_touched (l : Launch) (d : gD) (b : Nat) (Y : gYt) (c : Nat × Nat) (F : gM) (k n : Nat) {S : gSt} (hi : hI d b Y c (F, k, n) S) (x y : Int32) : hMi l d b yX3_touched cX3_touched 4 .int 1 k n F [.ref (gO' Y 10), .int x, .int y] (fun r u => True ∧ u = (F, k, n)) := by
  intro mc ms
  refine hM_of2 rfl (nL := 4) (Nat.le_of_ble_eq_true rfl) ?_
  intro X hX hC hr ho; subst hX
  show hG X d b _ F k n 0 [some (.ref (gO' Y 10)), some (.int x), some (.int y), none] []
  refine h_iconst (v := 0) hC dX3_touched_0 rfl ?_
  refine h_istore_n (lv' := [some (.ref (gO' Y 10)), some (.int x), some (.int y), some (.int 0)]) hC dX3_touched_1 (Nat.le_of_ble_eq_true rfl) rfl rfl ?_
  have hB40 : sZ S 40 < 2 ^ 31 := hI.zlt hi (by decide)
  have L1 : ∀ (m2 j3 : Nat), j3 + m2 = (sZ S 40) →  hG X d b (MQ X.be (va_Qi (fun r u => True ∧ u = (F, k, n)) (hB d b) (fun q => b ≤ q)) X.ar X.st mc ms (fun q => b ≤ q)) F k n 2 [some (.ref (gO' Y 10)), some (.int x), some (.int y), some (.int (nI j3))] [] := by
    intro m2
    refine Nat.strongRecOn m2 (fun m2 ih4 j3 hj5  => ?_)
    refine h_iload_n hC dX3_touched_2 rfl ?_
    refine h_aload_n hC dX3_touched_3 rfl ?_
    refine h_get hC fl_X3_14 (hi.1.o 10 (by decide)) rfl dX3_touched_4 ?_
    refine hi_size (j := 40) hC hr ho hi.1 (by decide) cl_X3_26 rfl (Nat.le_of_ble_eq_true rfl) (hFr_of (Nat.le_of_ble_eq_true rfl) (Nat.le_of_ble_eq_true rfl)) dX3_touched_7 ?_
    refine h_icmp_ge (tgt := 56) hC dX3_touched_10 (by decide) (fun c6 => ?_) (fun c6 => ?_)
    · refine h_iconst (v := (-1)) hC dX3_touched_56 rfl ?_
      exact h_iret hC hr ho rfl rfl rfl ⟨trivial, rfl⟩ dX3_touched_57
    · have hlt := nI_ltB (by omega) c6
      refine h_aload_n hC dX3_touched_13 rfl ?_
      refine h_get hC fl_X3_14 (hi.1.o 10 (by decide)) rfl dX3_touched_14 ?_
      refine h_iload_n hC dX3_touched_17 rfl ?_
      refine hi_get (j := 40) hC hr ho hi.1 (by decide) cl_X3_37 rfl (Nat.le_of_ble_eq_true rfl) (hFr_of (Nat.le_of_ble_eq_true rfl) (Nat.le_of_ble_eq_true rfl)) dX3_touched_18 ?_
      refine h_vi (fun x7 ex7 => ?_)
      refine h_iload_n hC dX3_touched_21 rfl ?_
      refine h_iload_n hC dX3_touched_22 rfl ?_
      refine h_iadd hC dX3_touched_23 ?_
      refine h_vi (fun x8 ex8 => ?_)
      refine h_icmp_ge (tgt := 50) hC dX3_touched_24 (by decide) (fun c9 => ?_) (fun c9 => ?_)
      · obtain ⟨x10, ex10⟩ : ∃ y : Int32, y = (nI j3) + 1 := ⟨_, rfl⟩
        refine h_iinc (v := x10) (lv' := [some (.ref (gO' Y 10)), some (.int x), some (.int y), some (.int x10)]) hC dX3_touched_50 rfl (by rw [ex10]; rfl) rfl rfl ?_
        refine h_goto (tgt := 2) hC dX3_touched_53 (by decide) ?_
        have zJx10 : x10 = nI (j3 + 1) := by rw [ex10]; exact nI_suc
        subst zJx10
        refine h_lv (lv' := [some (.ref (gO' Y 10)), some (.int x), some (.int y), some (.int (nI (j3 + 1)))]) (by repeat (first | exact trivial | refine ⟨rfl, ?_⟩ | exact trivial)) ?_
        exact ih4 (m2 - 1) (by omega) (j3 + 1) (by omega)  
      · refine h_iload_n hC dX3_touched_27 rfl ?_
        refine h_aload_n hC dX3_touched_28 rfl ?_
        refine h_get hC fl_X3_14 (hi.1.o 10 (by decide)) rfl dX3_touched_29 ?_
        refine h_iload_n hC dX3_touched_32 rfl ?_
        refine hi_get (j := 40) hC hr ho hi.1 (by decide) cl_X3_37 rfl (Nat.le_of_ble_eq_true rfl) (hFr_of (Nat.le_of_ble_eq_true rfl) (Nat.le_of_ble_eq_true rfl)) dX3_touched_33 ?_
        refine h_vi (fun x11 ex11 => ?_)
        refine h_aload_n hC dX3_touched_36 rfl ?_
        refine h_get hC fl_X3_20 (hi.1.o 10 (by decide)) rfl dX3_touched_37 ?_
        refine h_iload_n hC dX3_touched_40 rfl ?_
        refine hi_get (j := 41) hC hr ho hi.1 (by decide) cl_X3_37 rfl (Nat.le_of_ble_eq_true rfl) (hFr_of (Nat.le_of_ble_eq_true rfl) (Nat.le_of_ble_eq_true rfl)) dX3_touched_41 ?_
        refine h_vi (fun x12 ex12 => ?_)
        refine h_iadd hC dX3_touched_44 ?_
        refine h_vi (fun x13 ex13 => ?_)
        refine h_icmp_ge (tgt := 50) hC dX3_touched_45 (by decide) (fun c14 => ?_) (fun c14 => ?_)
        · obtain ⟨x15, ex15⟩ : ∃ y : Int32, y = (nI j3) + 1 := ⟨_, rfl⟩
          refine h_iinc (v := x15) (lv' := [some (.ref (gO' Y 10)), some (.int x), some (.int y), some (.int x15)]) hC dX3_touched_50 rfl (by rw [ex15]; rfl) rfl rfl ?_
          refine h_goto (tgt := 2) hC dX3_touched_53 (by decide) ?_
          have zJx15 : x15 = nI (j3 + 1) := by rw [ex15]; exact nI_suc
          subst zJx15
          refine h_lv (lv' := [some (.ref (gO' Y 10)), some (.int x), some (.int y), some (.int (nI (j3 + 1)))]) (by repeat (first | exact trivial | refine ⟨rfl, ?_⟩ | exact trivial)) ?_
          exact ih4 (m2 - 1) (by omega) (j3 + 1) (by omega)  
        · refine h_iload_n hC dX3_touched_48 rfl ?_
          exact h_iret hC hr ho rfl rfl rfl ⟨trivial, rfl⟩ dX3_touched_49
  refine h_lv (lv' := [some (.ref (gO' Y 10)), some (.int x), some (.int y), some (.int 0)]) (by repeat (first | exact trivial | refine ⟨rfl, ?_⟩ | exact trivial)) ?_
  exact L1 (sZ S 40) 0 (Nat.zero_add _)  
theorem dX3_limit_0 : decode cX3_limit 0 = .ok (.iload_n 1, 1) := by decide +kernel
theorem dX3_limit_1 : decode cX3_limit 1 = .ok (.istore_n 2, 1) := by decide +kernel
theorem dX3_limit_2 : decode cX3_limit 2 = .ok (.iconst 0, 1) := by decide +kernel
theorem dX3_limit_3 : decode cX3_limit 3 = .ok (.istore_n 3, 1) := by decide +kernel
theorem dX3_limit_4 : decode cX3_limit 4 = .ok (.iload_n 3, 1) := by decide +kernel
theorem dX3_limit_5 : decode cX3_limit 5 = .ok (.aload_n 0, 1) := by decide +kernel
theorem dX3_limit_6 : decode cX3_limit 6 = .ok (.getfield 14, 3) := by decide +kernel
theorem dX3_limit_9 : decode cX3_limit 9 = .ok (.invokevirtual 26, 3) := by decide +kernel
theorem dX3_limit_12 : decode cX3_limit 12 = .ok (.if_icmp .ge 22, 3) := by decide +kernel
theorem dX3_limit_15 : decode cX3_limit 15 = .ok (.iload_n 2, 1) := by decide +kernel
theorem dX3_limit_16 : decode cX3_limit 16 = .ok (.aload_n 0, 1) := by decide +kernel
theorem dX3_limit_17 : decode cX3_limit 17 = .ok (.getfield 14, 3) := by decide +kernel
theorem dX3_limit_20 : decode cX3_limit 20 = .ok (.iload_n 3, 1) := by decide +kernel
theorem dX3_limit_21 : decode cX3_limit 21 = .ok (.invokevirtual 37, 3) := by decide +kernel
theorem dX3_limit_24 : decode cX3_limit 24 = .ok (.invokestatic 51, 3) := by decide +kernel
theorem dX3_limit_27 : decode cX3_limit 27 = .ok (.istore_n 2, 1) := by decide +kernel
theorem dX3_limit_28 : decode cX3_limit 28 = .ok (.iinc 3 1, 3) := by decide +kernel
theorem dX3_limit_31 : decode cX3_limit 31 = .ok (.goto (-27), 3) := by decide +kernel
theorem dX3_limit_34 : decode cX3_limit 34 = .ok (.iload_n 2, 1) := by decide +kernel
theorem dX3_limit_35 : decode cX3_limit 35 = .ok (.ireturn, 1) := by decide +kernel
set_option maxHeartbeats 4000000 in
set_option maxRecDepth 100000 in
theorem s_H_limit (l : Launch) (d : gD) (b : Nat) (Y : gYt) (c : Nat × Nat) (F : gM) (k n : Nat) {S : gSt} (hi : hI d b Y c (F, k, n) S) (x : Int32) : hMi l d b yX3_limit cX3_limit 4 .int 2 k n F [.ref (gO' Y 10), .int x] (fun r u => True ∧ u = (F, k, n)) := by
  intro mc ms
  refine hM_of2 rfl (nL := 4) (Nat.le_of_ble_eq_true rfl) ?_
  intro X hX hC hr ho; subst hX
  show hG X d b _ F k n 0 [some (.ref (gO' Y 10)), some (.int x), none, none] []
  refine h_iload_n hC dX3_limit_0 rfl ?_
  refine h_istore_n (lv' := [some (.ref (gO' Y 10)), some (.int x), some (.int x), none]) hC dX3_limit_1 (Nat.le_of_ble_eq_true rfl) rfl rfl ?_
  refine h_iconst (v := 0) hC dX3_limit_2 rfl ?_
  refine h_istore_n (lv' := [some (.ref (gO' Y 10)), some (.int x), some (.int x), some (.int 0)]) hC dX3_limit_3 (Nat.le_of_ble_eq_true rfl) rfl rfl ?_
  have hB40 : sZ S 40 < 2 ^ 31 := hI.zlt hi (by decide)
  have L1 : ∀ (m2 j3 : Nat), j3 + m2 = (sZ S 40) → ∀ (x6 : Int32),  hG X d b (MQ X.be (va_Qi (fun r u => True ∧ u = (F, k, n)) (hB d b) (fun q => b ≤ q)) X.ar X.st mc ms (fun q => b ≤ q)) F k n 4 [some (.ref (gO' Y 10)), some (.int x), some (.int x6), some (.int (nI j3))] [] := by
    intro m2
    refine Nat.strongRecOn m2 (fun m2 ih4 j3 hj5 x6  => ?_)
    refine h_iload_n hC dX3_limit_4 rfl ?_
    refine h_aload_n hC dX3_limit_5 rfl ?_
    refine h_get hC fl_X3_14 (hi.1.o 10 (by decide)) rfl dX3_limit_6 ?_
    refine hi_size (j := 40) hC hr ho hi.1 (by decide) cl_X3_26 rfl (Nat.le_of_ble_eq_true rfl) (hFr_of (Nat.le_of_ble_eq_true rfl) (Nat.le_of_ble_eq_true rfl)) dX3_limit_9 ?_
    refine h_icmp_ge (tgt := 34) hC dX3_limit_12 (by decide) (fun c7 => ?_) (fun c7 => ?_)
    · refine h_iload_n hC dX3_limit_34 rfl ?_
      exact h_iret hC hr ho rfl rfl rfl ⟨trivial, rfl⟩ dX3_limit_35
    · have hlt := nI_ltB (by omega) c7
      refine h_iload_n hC dX3_limit_15 rfl ?_
      refine h_aload_n hC dX3_limit_16 rfl ?_
      refine h_get hC fl_X3_14 (hi.1.o 10 (by decide)) rfl dX3_limit_17 ?_
      refine h_iload_n hC dX3_limit_20 rfl ?_
      refine hi_get (j := 40) hC hr ho hi.1 (by decide) cl_X3_37 rfl (Nat.le_of_ble_eq_true rfl) (hFr_of (Nat.le_of_ble_eq_true rfl) (Nat.le_of_ble_eq_true rfl)) dX3_limit_21 ?_
      refine h_vi (fun x8 ex8 => ?_)
      refine h_min hC hr ho kw_1705 rfl ⟨Nat.le_of_ble_eq_true rfl, Nat.le_of_ble_eq_true rfl⟩ (Nat.le_of_ble_eq_true rfl) dX3_limit_24 ?_
      refine h_vi (fun x9 ex9 => ?_)
      refine h_istore_n (lv' := [some (.ref (gO' Y 10)), some (.int x), some (.int x9), some (.int (nI j3))]) hC dX3_limit_27 (Nat.le_of_ble_eq_true rfl) rfl rfl ?_
      obtain ⟨x10, ex10⟩ : ∃ y : Int32, y = (nI j3) + 1 := ⟨_, rfl⟩
      refine h_iinc (v := x10) (lv' := [some (.ref (gO' Y 10)), some (.int x), some (.int x9), some (.int x10)]) hC dX3_limit_28 rfl (by rw [ex10]; rfl) rfl rfl ?_
      refine h_goto (tgt := 4) hC dX3_limit_31 (by decide) ?_
      have zJx10 : x10 = nI (j3 + 1) := by rw [ex10]; exact nI_suc
      subst zJx10
      refine h_lv (lv' := [some (.ref (gO' Y 10)), some (.int x), some (.int x9), some (.int (nI (j3 + 1)))]) (by repeat (first | exact trivial | refine ⟨rfl, ?_⟩ | exact trivial)) ?_
      exact ih4 (m2 - 1) (by omega) (j3 + 1) (by omega) x9 
  refine h_lv (lv' := [some (.ref (gO' Y 10)), some (.int x), some (.int x), some (.int 0)]) (by repeat (first | exact trivial | refine ⟨rfl, ?_⟩ | exact trivial)) ?_
  exact L1 (sZ S 40) 0 (Nat.zero_add _) x 
theorem dX3_free_0 : decode cX3_free 0 = .ok (.iconst 0, 1) := by decide +kernel
theorem dX3_free_1 : decode cX3_free 1 = .ok (.istore_n 2, 1) := by decide +kernel
theorem dX3_free_2 : decode cX3_free 2 = .ok (.iload_n 2, 1) := by decide +kernel
theorem dX3_free_3 : decode cX3_free 3 = .ok (.aload_n 0, 1) := by decide +kernel
theorem dX3_free_4 : decode cX3_free 4 = .ok (.getfield 14, 3) := by decide +kernel
theorem dX3_free_7 : decode cX3_free 7 = .ok (.invokevirtual 26, 3) := by decide +kernel
theorem dX3_free_10 : decode cX3_free 10 = .ok (.if_icmp .ge 69, 3) := by decide +kernel
theorem dX3_free_13 : decode cX3_free 13 = .ok (.aload_n 0, 1) := by decide +kernel
theorem dX3_free_14 : decode cX3_free 14 = .ok (.getfield 14, 3) := by decide +kernel
theorem dX3_free_17 : decode cX3_free 17 = .ok (.iload_n 2, 1) := by decide +kernel
theorem dX3_free_18 : decode cX3_free 18 = .ok (.invokevirtual 37, 3) := by decide +kernel
theorem dX3_free_21 : decode cX3_free 21 = .ok (.iload_n 1, 1) := by decide +kernel
theorem dX3_free_22 : decode cX3_free 22 = .ok (.if_icmp .ne 51, 3) := by decide +kernel
theorem dX3_free_25 : decode cX3_free 25 = .ok (.aload_n 0, 1) := by decide +kernel
theorem dX3_free_26 : decode cX3_free 26 = .ok (.getfield 14, 3) := by decide +kernel
theorem dX3_free_29 : decode cX3_free 29 = .ok (.iload_n 2, 1) := by decide +kernel
theorem dX3_free_30 : decode cX3_free 30 = .ok (.aload_n 0, 1) := by decide +kernel
theorem dX3_free_31 : decode cX3_free 31 = .ok (.getfield 14, 3) := by decide +kernel
theorem dX3_free_34 : decode cX3_free 34 = .ok (.invokevirtual 41, 3) := by decide +kernel
theorem dX3_free_37 : decode cX3_free 37 = .ok (.invokevirtual 44, 3) := by decide +kernel
theorem dX3_free_40 : decode cX3_free 40 = .ok (.aload_n 0, 1) := by decide +kernel
theorem dX3_free_41 : decode cX3_free 41 = .ok (.getfield 20, 3) := by decide +kernel
theorem dX3_free_44 : decode cX3_free 44 = .ok (.iload_n 2, 1) := by decide +kernel
theorem dX3_free_45 : decode cX3_free 45 = .ok (.aload_n 0, 1) := by decide +kernel
theorem dX3_free_46 : decode cX3_free 46 = .ok (.getfield 20, 3) := by decide +kernel
theorem dX3_free_49 : decode cX3_free 49 = .ok (.invokevirtual 41, 3) := by decide +kernel
theorem dX3_free_52 : decode cX3_free 52 = .ok (.invokevirtual 44, 3) := by decide +kernel
theorem dX3_free_55 : decode cX3_free 55 = .ok (.aload_n 0, 1) := by decide +kernel
theorem dX3_free_56 : decode cX3_free 56 = .ok (.getfield 14, 3) := by decide +kernel
theorem dX3_free_59 : decode cX3_free 59 = .ok (.invokevirtual 48, 3) := by decide +kernel
theorem dX3_free_62 : decode cX3_free 62 = .ok (.pop, 1) := by decide +kernel
theorem dX3_free_63 : decode cX3_free 63 = .ok (.aload_n 0, 1) := by decide +kernel
theorem dX3_free_64 : decode cX3_free 64 = .ok (.getfield 20, 3) := by decide +kernel
theorem dX3_free_67 : decode cX3_free 67 = .ok (.invokevirtual 48, 3) := by decide +kernel
theorem dX3_free_70 : decode cX3_free 70 = .ok (.pop, 1) := by decide +kernel
theorem dX3_free_71 : decode cX3_free 71 = .ok (.iconst 1, 1) := by decide +kernel
theorem dX3_free_72 : decode cX3_free 72 = .ok (.ireturn, 1) := by decide +kernel
theorem dX3_free_73 : decode cX3_free 73 = .ok (.iinc 2 1, 3) := by decide +kernel
theorem dX3_free_76 : decode cX3_free 76 = .ok (.goto (-74), 3) := by decide +kernel
theorem dX3_free_79 : decode cX3_free 79 = .ok (.iconst 0, 1) := by decide +kernel
theorem dX3_free_80 : decode cX3_free 80 = .ok (.ireturn, 1) := by decide +kernel
set_option maxHeartbeats 4000000 in
set_option maxRecDepth 100000 in
theorem s_H_free (l : Launch) (d : gD) (b : Nat) (Y : gYt) (c : Nat × Nat) (F : gM) (k n : Nat) {S : gSt} (hi : hI d b Y c (F, k, n) S) (x : Int32) : hMi l d b yX3_free cX3_free 3 .boolean 2 k n F [.ref (gO' Y 10), .int x] (fun r u => ∃ S', hI d b Y c u S' ∧ gKp Y F u.1 ∧ gSm S S' [40, 41] [] ∧ (r = 0 ∨ r = 1) ∧ gPsi S' ≤ gPsi S) := by
  intro mc ms
  refine hM_of2 rfl (nL := 3) (Nat.le_of_ble_eq_true rfl) ?_
  intro X hX hC hr ho; subst hX
  show hG X d b _ F k n 0 [some (.ref (gO' Y 10)), some (.int x), none] []
  refine h_iconst (v := 0) hC dX3_free_0 rfl ?_
  refine h_istore_n (lv' := [some (.ref (gO' Y 10)), some (.int x), some (.int 0)]) hC dX3_free_1 (Nat.le_of_ble_eq_true rfl) rfl rfl ?_
  have hB40 : sZ S 40 < 2 ^ 31 := hI.zlt hi (by decide)
  have L1 : ∀ (m2 j3 : Nat), j3 + m2 = (sZ S 40) →  hG X d b (MQ X.be (va_Qi (fun r u => ∃ S', hI d b Y c u S' ∧ gKp Y F u.1 ∧ gSm S S' [40, 41] [] ∧ (r = 0 ∨ r = 1) ∧ gPsi S' ≤ gPsi S) (hB d b) (fun q => b ≤ q)) X.ar X.st mc ms (fun q => b ≤ q)) F k n 2 [some (.ref (gO' Y 10)), some (.int x), some (.int (nI j3))] [] := by
    intro m2
    refine Nat.strongRecOn m2 (fun m2 ih4 j3 hj5  => ?_)
    refine h_iload_n hC dX3_free_2 rfl ?_
    refine h_aload_n hC dX3_free_3 rfl ?_
    refine h_get hC fl_X3_14 (hi.1.o 10 (by decide)) rfl dX3_free_4 ?_
    refine hi_size (j := 40) hC hr ho hi.1 (by decide) cl_X3_26 rfl (Nat.le_of_ble_eq_true rfl) (hFr_of (Nat.le_of_ble_eq_true rfl) (Nat.le_of_ble_eq_true rfl)) dX3_free_7 ?_
    refine h_icmp_ge (tgt := 79) hC dX3_free_10 (by decide) (fun c6 => ?_) (fun c6 => ?_)
    · refine h_iconst (v := 0) hC dX3_free_79 rfl ?_
      exact h_iret hC hr ho rfl rfl rfl ⟨S, hi, gKp.rf, gSm.rf, by decide, by omega⟩ dX3_free_80
    · have hlt := nI_ltB (by omega) c6
      refine h_aload_n hC dX3_free_13 rfl ?_
      refine h_get hC fl_X3_14 (hi.1.o 10 (by decide)) rfl dX3_free_14 ?_
      refine h_iload_n hC dX3_free_17 rfl ?_
      refine hi_get (j := 40) hC hr ho hi.1 (by decide) cl_X3_37 rfl (Nat.le_of_ble_eq_true rfl) (hFr_of (Nat.le_of_ble_eq_true rfl) (Nat.le_of_ble_eq_true rfl)) dX3_free_18 ?_
      refine h_vi (fun x7 ex7 => ?_)
      refine h_iload_n hC dX3_free_21 rfl ?_
      refine h_icmp_ne (tgt := 73) hC dX3_free_22 (by decide) (fun c8 => ?_) (fun c8 => ?_)
      · obtain ⟨x9, ex9⟩ : ∃ y : Int32, y = (nI j3) + 1 := ⟨_, rfl⟩
        refine h_iinc (v := x9) (lv' := [some (.ref (gO' Y 10)), some (.int x), some (.int x9)]) hC dX3_free_73 rfl (by rw [ex9]; rfl) rfl rfl ?_
        refine h_goto (tgt := 2) hC dX3_free_76 (by decide) ?_
        have zJx9 : x9 = nI (j3 + 1) := by rw [ex9]; exact nI_suc
        subst zJx9
        refine h_lv (lv' := [some (.ref (gO' Y 10)), some (.int x), some (.int (nI (j3 + 1)))]) (by repeat (first | exact trivial | refine ⟨rfl, ?_⟩ | exact trivial)) ?_
        exact ih4 (m2 - 1) (by omega) (j3 + 1) (by omega)  
      · refine h_aload_n hC dX3_free_25 rfl ?_
        refine h_get hC fl_X3_14 (hi.1.o 10 (by decide)) rfl dX3_free_26 ?_
        refine h_iload_n hC dX3_free_29 rfl ?_
        refine h_aload_n hC dX3_free_30 rfl ?_
        refine h_get hC fl_X3_14 (hi.1.o 10 (by decide)) rfl dX3_free_31 ?_
        refine hi_top (j := 40) hC hr ho hi.1 (by decide) cl_X3_41 rfl (Nat.le_of_ble_eq_true rfl) (hFr_of (Nat.le_of_ble_eq_true rfl) (Nat.le_of_ble_eq_true rfl)) dX3_free_34 ?_
        refine h_vi (fun x10 ex10 => ?_)
        refine hi_set (j := 40) hC hr ho hi (by decide) cl_X3_44 rfl (Nat.le_of_ble_eq_true rfl) (hFr_of (Nat.le_of_ble_eq_true rfl) (Nat.le_of_ble_eq_true rfl)) dX3_free_37 (fun F11 S12 I13 K14 s15 a16 => ?_)
        have m17 : gSm S S12 [40, 41] [] := gSm.wk s15 _ _ rfl rfl
        have Pa16 : gPsi S12 ≤ gPsi S := a16.2.2.2.2
        refine h_aload_n hC dX3_free_40 rfl ?_
        refine h_get hC fl_X3_20 (I13.1.o 10 (by decide)) rfl dX3_free_41 ?_
        refine h_iload_n hC dX3_free_44 rfl ?_
        refine h_aload_n hC dX3_free_45 rfl ?_
        refine h_get hC fl_X3_20 (I13.1.o 10 (by decide)) rfl dX3_free_46 ?_
        refine hi_top (j := 41) hC hr ho I13.1 (by decide) cl_X3_41 rfl (Nat.le_of_ble_eq_true rfl) (hFr_of (Nat.le_of_ble_eq_true rfl) (Nat.le_of_ble_eq_true rfl)) dX3_free_49 ?_
        refine h_vi (fun x19 ex19 => ?_)
        refine hi_set (j := 41) hC hr ho I13 (by decide) cl_X3_44 rfl (Nat.le_of_ble_eq_true rfl) (hFr_of (Nat.le_of_ble_eq_true rfl) (Nat.le_of_ble_eq_true rfl)) dX3_free_52 (fun F20 S21 I22 K23 s24 a25 => ?_)
        have m26 : gSm S S21 [40, 41] [] := m17.tr s24 _ _ rfl rfl
        have K27 := K14.tr K23
        have Pa25 : gPsi S21 ≤ gPsi S12 := a25.2.2.2.2
        refine h_aload_n hC dX3_free_55 rfl ?_
        refine h_get hC fl_X3_14 (I22.1.o 10 (by decide)) rfl dX3_free_56 ?_
        refine hi_pop (j := 40) hC hr ho I22 (by decide) cl_X3_48 rfl (Nat.le_of_ble_eq_true rfl) (hFr_of (Nat.le_of_ble_eq_true rfl) (Nat.le_of_ble_eq_true rfl)) dX3_free_59 (fun r34 F28 S29 I30 K31 s32 a33 => ?_)
        have m35 : gSm S S29 [40, 41] [] := m26.tr s32 _ _ rfl rfl
        have K36 := K27.tr K31
        have Pa33 : gPsi S29 ≤ gPsi S21 := a33.2.2.2.2.2
        refine h_pop hC dX3_free_62 rfl ?_
        refine h_aload_n hC dX3_free_63 rfl ?_
        refine h_get hC fl_X3_20 (I30.1.o 10 (by decide)) rfl dX3_free_64 ?_
        refine hi_pop (j := 41) hC hr ho I30 (by decide) cl_X3_48 rfl (Nat.le_of_ble_eq_true rfl) (hFr_of (Nat.le_of_ble_eq_true rfl) (Nat.le_of_ble_eq_true rfl)) dX3_free_67 (fun r43 F37 S38 I39 K40 s41 a42 => ?_)
        have m44 : gSm S S38 [40, 41] [] := m35.tr s41 _ _ rfl rfl
        have K45 := K36.tr K40
        have Pa42 : gPsi S38 ≤ gPsi S29 := a42.2.2.2.2.2
        refine h_pop hC dX3_free_70 rfl ?_
        refine h_iconst (v := 1) hC dX3_free_71 rfl ?_
        exact h_iret hC hr ho rfl rfl rfl ⟨S38, I39, K45, m44, by decide, by omega⟩ dX3_free_72
  refine h_lv (lv' := [some (.ref (gO' Y 10)), some (.int x), some (.int 0)]) (by repeat (first | exact trivial | refine ⟨rfl, ?_⟩ | exact trivial)) ?_
  exact L1 (sZ S 40) 0 (Nat.zero_add _)  
theorem nI_le100 {j : Nat} (h : j ≤ 101) (h2 : ¬ (100 : Int32) < nI j) : j < 101 := Nat.lt_of_le_of_ne h (fun q => h2 (by subst q; decide))
theorem dX3_get_0 : decode cX3_get 0 = .ok (.iload_n 1, 1) := by decide +kernel
theorem dX3_get_1 : decode cX3_get 1 = .ok (.iconst 1, 1) := by decide +kernel
theorem dX3_get_2 : decode cX3_get 2 = .ok (.if_icmp .lt 20, 3) := by decide +kernel
theorem dX3_get_5 : decode cX3_get 5 = .ok (.iload_n 1, 1) := by decide +kernel
theorem dX3_get_6 : decode cX3_get 6 = .ok (.iload_n 3, 1) := by decide +kernel
theorem dX3_get_7 : decode cX3_get 7 = .ok (.if_icmp .gt 15, 3) := by decide +kernel
theorem dX3_get_10 : decode cX3_get 10 = .ok (.aload_n 0, 1) := by decide +kernel
theorem dX3_get_11 : decode cX3_get 11 = .ok (.getfield 14, 3) := by decide +kernel
theorem dX3_get_14 : decode cX3_get 14 = .ok (.invokevirtual 26, 3) := by decide +kernel
theorem dX3_get_17 : decode cX3_get 17 = .ok (.bipush 100, 2) := by decide +kernel
theorem dX3_get_19 : decode cX3_get 19 = .ok (.if_icmp .lt 5, 3) := by decide +kernel
theorem dX3_get_22 : decode cX3_get 22 = .ok (.iconst 0, 1) := by decide +kernel
theorem dX3_get_23 : decode cX3_get 23 = .ok (.ireturn, 1) := by decide +kernel
theorem dX3_get_24 : decode cX3_get 24 = .ok (.iload_n 3, 1) := by decide +kernel
theorem dX3_get_25 : decode cX3_get 25 = .ok (.iload_n 1, 1) := by decide +kernel
theorem dX3_get_26 : decode cX3_get 26 = .ok (.isub, 1) := by decide +kernel
theorem dX3_get_27 : decode cX3_get 27 = .ok (.istore 4, 2) := by decide +kernel
theorem dX3_get_29 : decode cX3_get 29 = .ok (.iconst 0, 1) := by decide +kernel
theorem dX3_get_30 : decode cX3_get 30 = .ok (.istore 5, 2) := by decide +kernel
theorem dX3_get_32 : decode cX3_get 32 = .ok (.iload 5, 2) := by decide +kernel
theorem dX3_get_34 : decode cX3_get 34 = .ok (.bipush 100, 2) := by decide +kernel
theorem dX3_get_36 : decode cX3_get 36 = .ok (.if_icmp .gt 62, 3) := by decide +kernel
theorem dX3_get_39 : decode cX3_get 39 = .ok (.iload 4, 2) := by decide +kernel
theorem dX3_get_41 : decode cX3_get 41 = .ok (.iload_n 2, 1) := by decide +kernel
theorem dX3_get_42 : decode cX3_get 42 = .ok (.if_icmp .lt 56, 3) := by decide +kernel
theorem dX3_get_45 : decode cX3_get 45 = .ok (.aload_n 0, 1) := by decide +kernel
theorem dX3_get_46 : decode cX3_get 46 = .ok (.iload 4, 2) := by decide +kernel
theorem dX3_get_48 : decode cX3_get 48 = .ok (.iload_n 1, 1) := by decide +kernel
theorem dX3_get_49 : decode cX3_get 49 = .ok (.invokevirtual 30, 3) := by decide +kernel
theorem dX3_get_52 : decode cX3_get 52 = .ok (.istore 6, 2) := by decide +kernel
theorem dX3_get_54 : decode cX3_get 54 = .ok (.iload 6, 2) := by decide +kernel
theorem dX3_get_56 : decode cX3_get 56 = .ok (.ifCond .ge 23, 3) := by decide +kernel
theorem dX3_get_59 : decode cX3_get 59 = .ok (.aload_n 0, 1) := by decide +kernel
theorem dX3_get_60 : decode cX3_get 60 = .ok (.getfield 14, 3) := by decide +kernel
theorem dX3_get_63 : decode cX3_get 63 = .ok (.iload 4, 2) := by decide +kernel
theorem dX3_get_65 : decode cX3_get 65 = .ok (.invokevirtual 34, 3) := by decide +kernel
theorem dX3_get_68 : decode cX3_get 68 = .ok (.aload_n 0, 1) := by decide +kernel
theorem dX3_get_69 : decode cX3_get 69 = .ok (.getfield 20, 3) := by decide +kernel
theorem dX3_get_72 : decode cX3_get 72 = .ok (.iload_n 1, 1) := by decide +kernel
theorem dX3_get_73 : decode cX3_get 73 = .ok (.invokevirtual 34, 3) := by decide +kernel
theorem dX3_get_76 : decode cX3_get 76 = .ok (.iload 4, 2) := by decide +kernel
theorem dX3_get_78 : decode cX3_get 78 = .ok (.ireturn, 1) := by decide +kernel
theorem dX3_get_79 : decode cX3_get 79 = .ok (.aload_n 0, 1) := by decide +kernel
theorem dX3_get_80 : decode cX3_get 80 = .ok (.getfield 14, 3) := by decide +kernel
theorem dX3_get_83 : decode cX3_get 83 = .ok (.iload 6, 2) := by decide +kernel
theorem dX3_get_85 : decode cX3_get 85 = .ok (.invokevirtual 37, 3) := by decide +kernel
theorem dX3_get_88 : decode cX3_get 88 = .ok (.iload_n 1, 1) := by decide +kernel
theorem dX3_get_89 : decode cX3_get 89 = .ok (.isub, 1) := by decide +kernel
theorem dX3_get_90 : decode cX3_get 90 = .ok (.istore 4, 2) := by decide +kernel
theorem dX3_get_92 : decode cX3_get 92 = .ok (.iinc 5 1, 3) := by decide +kernel
theorem dX3_get_95 : decode cX3_get 95 = .ok (.goto (-63), 3) := by decide +kernel
theorem dX3_get_98 : decode cX3_get 98 = .ok (.iconst 0, 1) := by decide +kernel
theorem dX3_get_99 : decode cX3_get 99 = .ok (.ireturn, 1) := by decide +kernel
set_option maxHeartbeats 4000000 in
set_option maxRecDepth 100000 in
theorem s_H_get (l : Launch) (d : gD) (b : Nat) (Y : gYt) (c : Nat × Nat) (F : gM) (k n : Nat) {S : gSt} (hi : hI d b Y c (F, k, n) S) (hA : gPsi S ≤ gAm) (x y z : Int32) : hMi l d b yX3_get cX3_get 7 .int 3 k n F [.ref (gO' Y 10), .int x, .int y, .int z] (fun r u => ∃ S', hI d b Y c u S' ∧ gKp Y F u.1 ∧ gSm S S' [40, 41] [] ∧ gPsi S' ≤ gPsi S) := by
  intro mc ms
  refine hM_of2 rfl (nL := 7) (Nat.le_of_ble_eq_true rfl) ?_
  intro X hX hC hr ho; subst hX
  show hG X d b _ F k n 0 [some (.ref (gO' Y 10)), some (.int x), some (.int y), some (.int z), none, none, none] []
  refine h_iload_n hC dX3_get_0 rfl ?_
  refine h_iconst (v := 1) hC dX3_get_1 rfl ?_
  refine h_icmp_lt (tgt := 22) hC dX3_get_2 (by decide) (fun c1 => ?_) (fun c1 => ?_)
  · refine h_iconst (v := 0) hC dX3_get_22 rfl ?_
    exact h_iret hC hr ho rfl rfl rfl ⟨S, hi, gKp.rf, gSm.rf, by omega⟩ dX3_get_23
  · refine h_iload_n hC dX3_get_5 rfl ?_
    refine h_iload_n hC dX3_get_6 rfl ?_
    refine h_icmp_gt (tgt := 22) hC dX3_get_7 (by decide) (fun c2 => ?_) (fun c2 => ?_)
    · refine h_iconst (v := 0) hC dX3_get_22 rfl ?_
      exact h_iret hC hr ho rfl rfl rfl ⟨S, hi, gKp.rf, gSm.rf, by omega⟩ dX3_get_23
    · refine h_aload_n hC dX3_get_10 rfl ?_
      refine h_get hC fl_X3_14 (hi.1.o 10 (by decide)) rfl dX3_get_11 ?_
      refine hi_size (j := 40) hC hr ho hi.1 (by decide) cl_X3_26 rfl (Nat.le_of_ble_eq_true rfl) (hFr_of (Nat.le_of_ble_eq_true rfl) (Nat.le_of_ble_eq_true rfl)) dX3_get_14 ?_
      refine h_bipush (v := 100) hC dX3_get_17 rfl ?_
      refine h_icmp_lt (tgt := 24) hC dX3_get_19 (by decide) (fun c3 => ?_) (fun c3 => ?_)
      · refine h_iload_n hC dX3_get_24 rfl ?_
        refine h_iload_n hC dX3_get_25 rfl ?_
        refine h_isub hC dX3_get_26 ?_
        refine h_vi (fun x4 ex4 => ?_)
        refine h_istore (lv' := [some (.ref (gO' Y 10)), some (.int x), some (.int y), some (.int z), some (.int x4), none, none]) hC dX3_get_27 (Nat.le_of_ble_eq_true rfl) rfl rfl ?_
        refine h_iconst (v := 0) hC dX3_get_29 rfl ?_
        refine h_istore (lv' := [some (.ref (gO' Y 10)), some (.int x), some (.int y), some (.int z), some (.int x4), some (.int 0), none]) hC dX3_get_30 (Nat.le_of_ble_eq_true rfl) rfl rfl ?_
        have L5 : ∀ (m6 j7 : Nat), j7 + m6 = 101 → ∀ (x10 : Int32),  hG X d b (MQ X.be (va_Qi (fun r u => ∃ S', hI d b Y c u S' ∧ gKp Y F u.1 ∧ gSm S S' [40, 41] [] ∧ gPsi S' ≤ gPsi S) (hB d b) (fun q => b ≤ q)) X.ar X.st mc ms (fun q => b ≤ q)) F k n 32 [some (.ref (gO' Y 10)), some (.int x), some (.int y), some (.int z), some (.int x10), some (.int (nI j7)), none] [] := by
          intro m6
          refine Nat.strongRecOn m6 (fun m6 ih8 j7 hj9 x10  => ?_)
          refine h_iload hC dX3_get_32 rfl ?_
          refine h_bipush (v := 100) hC dX3_get_34 rfl ?_
          refine h_icmp_gt (tgt := 98) hC dX3_get_36 (by decide) (fun c11 => ?_) (fun c11 => ?_)
          · refine h_iconst (v := 0) hC dX3_get_98 rfl ?_
            exact h_iret hC hr ho rfl rfl rfl ⟨S, hi, gKp.rf, gSm.rf, by omega⟩ dX3_get_99
          · have hlt := nI_le100 (by omega) c11
            refine h_iload hC dX3_get_39 rfl ?_
            refine h_iload_n hC dX3_get_41 rfl ?_
            refine h_icmp_lt (tgt := 98) hC dX3_get_42 (by decide) (fun c12 => ?_) (fun c12 => ?_)
            · refine h_iconst (v := 0) hC dX3_get_98 rfl ?_
              exact h_iret hC hr ho rfl rfl rfl ⟨S, hi, gKp.rf, gSm.rf, by omega⟩ dX3_get_99
            · refine h_aload_n hC dX3_get_45 rfl ?_
              refine h_iload hC dX3_get_46 rfl ?_
              refine h_iload_n hC dX3_get_48 rfl ?_
              refine h_callVi (As := [.int x10, .int x]) hC hr ho rfl (hi.1.o 10 (by decide)) (s_H_touched X.la d b Y c _ _ _ hi x10 x) cl_X3_30 rfl rfl (Nat.le_of_ble_eq_true rfl) (hFr_of (Nat.le_of_ble_eq_true rfl) (Nat.le_of_ble_eq_true rfl)) dX3_get_49 (fun r16 u13 p14 o15 => ?_)
              obtain ⟨q17, rfl⟩ := p14
              refine h_istore (lv' := [some (.ref (gO' Y 10)), some (.int x), some (.int y), some (.int z), some (.int x10), some (.int (nI j7)), some (.int r16)]) hC dX3_get_52 (Nat.le_of_ble_eq_true rfl) rfl rfl ?_
              refine h_iload hC dX3_get_54 rfl ?_
              refine h_if_ge (tgt := 79) hC dX3_get_56 (by decide) (fun c18 => ?_) (fun c18 => ?_)
              · refine h_aload_n hC dX3_get_79 rfl ?_
                refine h_get hC fl_X3_14 (hi.1.o 10 (by decide)) rfl dX3_get_80 ?_
                refine h_iload hC dX3_get_83 rfl ?_
                refine hi_get (j := 40) hC hr o15 hi.1 (by decide) cl_X3_37 rfl (Nat.le_of_ble_eq_true rfl) (hFr_of (Nat.le_of_ble_eq_true rfl) (Nat.le_of_ble_eq_true rfl)) dX3_get_85 ?_
                refine h_vi (fun x19 ex19 => ?_)
                refine h_iload_n hC dX3_get_88 rfl ?_
                refine h_isub hC dX3_get_89 ?_
                refine h_vi (fun x20 ex20 => ?_)
                refine h_istore (lv' := [some (.ref (gO' Y 10)), some (.int x), some (.int y), some (.int z), some (.int x20), some (.int (nI j7)), some (.int r16)]) hC dX3_get_90 (Nat.le_of_ble_eq_true rfl) rfl rfl ?_
                obtain ⟨x21, ex21⟩ : ∃ y : Int32, y = (nI j7) + 1 := ⟨_, rfl⟩
                refine h_iinc (v := x21) (lv' := [some (.ref (gO' Y 10)), some (.int x), some (.int y), some (.int z), some (.int x20), some (.int x21), some (.int r16)]) hC dX3_get_92 rfl (by rw [ex21]; rfl) rfl rfl ?_
                refine h_goto (tgt := 32) hC dX3_get_95 (by decide) ?_
                have zJx21 : x21 = nI (j7 + 1) := by rw [ex21]; exact nI_suc
                subst zJx21
                refine h_lv (lv' := [some (.ref (gO' Y 10)), some (.int x), some (.int y), some (.int z), some (.int x20), some (.int (nI (j7 + 1))), none]) (by repeat (first | exact trivial | refine ⟨rfl, ?_⟩ | exact trivial)) ?_
                exact ih8 (m6 - 1) (by omega) (j7 + 1) (by omega) x20 
              · refine h_aload_n hC dX3_get_59 rfl ?_
                refine h_get hC fl_X3_14 (hi.1.o 10 (by decide)) rfl dX3_get_60 ?_
                refine h_iload hC dX3_get_63 rfl ?_
                refine hi_add (j := 40) hC hr o15 hi (by decide) ⟨fun _ => by omega, fun q => absurd q (by decide), by omega⟩ cl_X3_34 rfl (Nat.le_of_ble_eq_true rfl) (hFr_of (Nat.le_of_ble_eq_true rfl) (Nat.le_of_ble_eq_true rfl)) dX3_get_65 (fun u29 S23 I24 o28 K25 s26 a27 => ?_)
                have m30 : gSm S S23 [40, 41] [] := gSm.wk s26 _ _ rfl rfl
                have Pa27 : gPsi S23 = gPsi S := a27.2.2.2 (by decide)
                refine h_aload_n hC dX3_get_68 rfl ?_
                refine h_get hC fl_X3_20 (I24.1.o 10 (by decide)) rfl dX3_get_69 ?_
                refine h_iload_n hC dX3_get_72 rfl ?_
                refine hi_add (j := 41) hC hr o28 I24 (by decide) ⟨fun _ => by omega, fun q => absurd q (by decide), by omega⟩ cl_X3_34 rfl (Nat.le_of_ble_eq_true rfl) (hFr_of (Nat.le_of_ble_eq_true rfl) (Nat.le_of_ble_eq_true rfl)) dX3_get_73 (fun u39 S33 I34 o38 K35 s36 a37 => ?_)
                have m40 : gSm S S33 [40, 41] [] := m30.tr s36 _ _ rfl rfl
                have K41 := K25.tr K35
                have Pa37 : gPsi S33 = gPsi S23 := a37.2.2.2 (by decide)
                refine h_iload hC dX3_get_76 rfl ?_
                exact h_iret hC hr o38 rfl rfl rfl ⟨S33, I34, K41, m40, by omega⟩ dX3_get_78
        refine h_lv (lv' := [some (.ref (gO' Y 10)), some (.int x), some (.int y), some (.int z), some (.int x4), some (.int 0), none]) (by repeat (first | exact trivial | refine ⟨rfl, ?_⟩ | exact trivial)) ?_
        exact L5 101 0 (Nat.zero_add _) x4 
      · refine h_iconst (v := 0) hC dX3_get_22 rfl ?_
        exact h_iret hC hr ho rfl rfl rfl ⟨S, hi, gKp.rf, gSm.rf, by omega⟩ dX3_get_23
