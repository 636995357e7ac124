theorem kw_1637 : Cond.constant RX11 137 100000 ∈ gWs := List.mem_filter.mpr ⟨gMt6 _ (List.mem_of_getElem? (i := 200) rfl), rfl⟩
theorem kw_1641 : Cond.code yX5_go cX5_go 6 (some .int) ∈ gWs := List.mem_filter.mpr ⟨gMt6 _ (List.mem_of_getElem? (i := 204) rfl), rfl⟩
theorem kw_1638 : Cond.methodLink RX11 138 yX5_go ∈ gWs := List.mem_filter.mpr ⟨gMt6 _ (List.mem_of_getElem? (i := 201) rfl), rfl⟩
theorem kw_1639 : Cond.instanceMethod yX5_go ∈ gWs := List.mem_filter.mpr ⟨gMt6 _ (List.mem_of_getElem? (i := 202) rfl), rfl⟩
theorem kw_1640 : Cond.selects RX5 yX5_go yX5_go ∈ gWs := List.mem_filter.mpr ⟨gMt6 _ (List.mem_of_getElem? (i := 203) rfl), rfl⟩
theorem cl_X11_138 : gCV RX11 138 yX5_go cX5_go 6 (some .int) 1 := ⟨g_mk [.methodLink RX11 138 yX5_go, .instanceMethod yX5_go, .selects yX5_go.cls yX5_go yX5_go, .initialized yX5_go.cls] (gWs_all kw_1641) (List.forall_mem_cons.mpr ⟨kw_1638, List.forall_mem_cons.mpr ⟨kw_1639, List.forall_mem_cons.mpr ⟨kw_1640, List.forall_mem_cons.mpr ⟨kw_255, fun _ h => nomatch h⟩⟩⟩⟩), rfl, by decide +kernel, by decide +kernel, by decide +kernel⟩
set_option maxHeartbeats 4000000 in
set_option maxRecDepth 100000 in
theorem s_W_run (l : Launch) (d : gD) (b : Nat) (Y : gYt) (c : Nat × Nat) (F : gM) (k n : Nat) {S : gSt} (hi : hI d b Y c (F, k, n) S) (hA : gPsi S ≤ gAm) (h43 : sZ S 43 ≤ 404) (hw : ∃ N, gPw N ∧ sV S 2 = nI N) (hn : gPw (sN S 45)) (x : Int32) : hMi l d b yX11_run cX11_run 2 .int 12 k n F [.ref (gO' Y 0), .int x] (fun r u => ∃ S', hI d b Y c u S' ∧ gKp Y F u.1 ∧ gSm S S' [38, 39, 40, 41, 42, 43, 44, 45] [25, 26, 27, 28, 29, 30, 31, 32, 33, 34, 35, 36] ∧ sZ S' 43 ≤ 404 ∧ gPsi S' ≤ gPsi S ∧ gPw (sN S' 45)) := by
  intro mc ms
  refine hM_of2 rfl (nL := 2) (Nat.le_of_ble_eq_true rfl) ?_
  intro X hX hC hr ho; subst hX
  show hG X d b _ F k n 0 [some (.ref (gO' Y 0)), some (.int x)] []
  refine h_aload_n hC dX11_run_0 rfl ?_
  refine h_get hC fl_X11_21 (hi.1.o 0 (by decide)) rfl dX11_run_1 ?_
  refine g_callVi (As := []) hC rfl (hi.1.o 1 (by decide)) (p_P_isReady X.la d b Y _ S hi.1 ) cl_X11_134 rfl rfl (Nat.le_of_ble_eq_true rfl) (h_fit0 hC hr ho (hFr_of (Nat.le_of_ble_eq_true rfl) (Nat.le_of_ble_eq_true rfl))) dX11_run_4 (fun r1 F2 p3 => ?_)
  obtain ⟨er1, eF2⟩ := p3; have eF2 := eF2.symm; subst eF2
  refine h_same hC ho ?_
  refine h_if_eq (tgt := 20) hC dX11_run_7 (by decide) (fun c5 => ?_) (fun c5 => ?_)
  · refine h_iconst (v := (-1)) hC dX11_run_20 rfl ?_
    exact h_iret hC hr ho rfl rfl rfl ⟨S, hi, gKp.rf, gSm.rf, h43, Nat.le_refl _, hn⟩ dX11_run_21
  · refine h_iload_n hC dX11_run_10 rfl ?_
    refine h_if_lt (tgt := 20) hC dX11_run_11 (by decide) (fun c6 => ?_) (fun c6 => ?_)
    · refine h_iconst (v := (-1)) hC dX11_run_20 rfl ?_
      exact h_iret hC hr ho rfl rfl rfl ⟨S, hi, gKp.rf, gSm.rf, h43, Nat.le_refl _, hn⟩ dX11_run_21
    · refine h_iload_n hC dX11_run_14 rfl ?_
      refine h_ldc hC dX11_run_15 kw_1637 ?_
      refine h_icmp_le (tgt := 22) hC dX11_run_17 (by decide) (fun c7 => ?_) (fun c7 => ?_)
      · refine h_aload_n hC dX11_run_22 rfl ?_
        refine h_get hC fl_X11_71 (hi.1.o 0 (by decide)) rfl dX11_run_23 ?_
        refine h_iload_n hC dX11_run_26 rfl ?_
        refine h_callVi (As := [.int x]) hC hr ho rfl (hi.1.o 7 (by decide)) (s_M_go X.la d b Y c _ _ _ hi hA h43 hw hn x) cl_X11_138 rfl rfl (Nat.le_of_ble_eq_true rfl) (hFr_of (Nat.le_of_ble_eq_true rfl) (Nat.le_of_ble_eq_true rfl)) dX11_run_27 (fun r11 u8 p9 o10 => ?_)
        obtain ⟨S12, I13, K14, s15, q16⟩ := p9
        have m17 : gSm S S12 [38, 39, 40, 41, 42, 43, 44, 45] [25, 26, 27, 28, 29, 30, 31, 32, 33, 34, 35, 36] := gSm.wk s15 _ _ rfl rfl
        exact h_iret hC hr o10 rfl rfl rfl ⟨S12, I13, K14, m17, q16.1, q16.2.1, q16.2.2⟩ dX11_run_30
      · refine h_iconst (v := (-1)) hC dX11_run_20 rfl ?_
        exact h_iret hC hr ho rfl rfl rfl ⟨S, hi, gKp.rf, gSm.rf, h43, Nat.le_refl _, hn⟩ dX11_run_21
set_option maxHeartbeats 4000000 in
set_option maxRecDepth 100000 in
theorem s_M_left (l : Launch) (d : gD) (b : Nat) (Y : gYt) (c : Nat × Nat) (F : gM) (k n : Nat) {S : gSt} (hi : hI d b Y c (F, k, n) S) (x : Int32) : hMi l d b yX5_left cX5_left 2 .int 2 k n F [.ref (gO' Y 7), .int x] (fun r u => True ∧ u = (F, k, n)) := by
  intro mc ms
  refine hM_of2 rfl (nL := 2) (Nat.le_of_ble_eq_true rfl) ?_
  intro X hX hC hr ho; subst hX
  show hG X d b _ F k n 0 [some (.ref (gO' Y 7)), some (.int x)] []
  refine h_aload_n hC dX5_left_0 rfl ?_
  refine h_iload_n hC dX5_left_1 rfl ?_
  refine h_callVi (As := [.int x]) hC hr ho rfl (hi.1.o 7 (by decide)) (s_M_isThere X.la d b Y c _ _ _ hi x) cl_X5_75 rfl rfl (Nat.le_of_ble_eq_true rfl) (hFr_of (Nat.le_of_ble_eq_true rfl) (Nat.le_of_ble_eq_true rfl)) dX5_left_2 (fun r4 u1 p2 o3 => ?_)
  obtain ⟨q5, rfl⟩ := p2
  refine h_if_eq (tgt := 17) hC dX5_left_5 (by decide) (fun c6 => ?_) (fun c6 => ?_)
  · refine h_iconst (v := 0) hC dX5_left_17 rfl ?_
    exact h_iret hC hr o3 rfl rfl rfl ⟨trivial, rfl⟩ dX5_left_18
  · refine h_aload_n hC dX5_left_8 rfl ?_
    refine h_get hC fl_X5_31 (hi.1.o 7 (by decide)) rfl dX5_left_9 ?_
    refine h_iload_n hC dX5_left_12 rfl ?_
    refine h_iald hC hi.1.c (q5.2 c6) dX5_left_13 ?_
    refine h_vi (fun x7 ex7 => ?_)
    refine h_goto (tgt := 18) hC dX5_left_14 (by decide) ?_
    exact h_iret hC hr o3 rfl rfl rfl ⟨trivial, rfl⟩ dX5_left_18
