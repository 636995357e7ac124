theorem kw_1680 : Cond.methodLink RX0 53 yX4_cut ∈ gWs := List.mem_filter.mpr ⟨gMt7 _ (List.mem_of_getElem? (i := 3) rfl), rfl⟩
theorem cl_X0_53 : gCV RX0 53 yX4_cut cX4_cut 2 none 1 := ⟨g_mk [.methodLink RX0 53 yX4_cut, .instanceMethod yX4_cut, .selects yX4_cut.cls yX4_cut yX4_cut, .initialized yX4_cut.cls] (gWs_all kw_468) (List.forall_mem_cons.mpr ⟨kw_1680, List.forall_mem_cons.mpr ⟨kw_466, List.forall_mem_cons.mpr ⟨kw_467, List.forall_mem_cons.mpr ⟨kw_239, fun _ h => nomatch h⟩⟩⟩⟩), rfl, by decide +kernel, by decide +kernel, by decide +kernel⟩
theorem kw_1279 : Cond.constant RX9 48 2000000 ∈ gWs := List.mem_filter.mpr ⟨gMt5 _ (List.mem_of_getElem? (i := 82) rfl), rfl⟩
theorem kw_1283 : Cond.code yX9_put cX9_put 6 (some .int) ∈ gWs := List.mem_filter.mpr ⟨gMt5 _ (List.mem_of_getElem? (i := 86) rfl), rfl⟩
theorem kw_1280 : Cond.methodLink RX9 49 yX9_put ∈ gWs := List.mem_filter.mpr ⟨gMt5 _ (List.mem_of_getElem? (i := 83) rfl), rfl⟩
theorem kw_1282 : Cond.instanceMethod yX9_put ∈ gWs := List.mem_filter.mpr ⟨gMt5 _ (List.mem_of_getElem? (i := 85) rfl), rfl⟩
theorem kw_56 : Cond.selects RX9 yX9_put yX9_put ∈ gWs := gWm 56 (by decide +kernel) rfl
theorem cl_X9_49 : gCV RX9 49 yX9_put cX9_put 6 (some .int) 5 := ⟨g_mk [.methodLink RX9 49 yX9_put, .instanceMethod yX9_put, .selects yX9_put.cls yX9_put yX9_put, .initialized yX9_put.cls] (gWs_all kw_1283) (List.forall_mem_cons.mpr ⟨kw_1280, List.forall_mem_cons.mpr ⟨kw_1282, List.forall_mem_cons.mpr ⟨kw_56, List.forall_mem_cons.mpr ⟨kw_252, fun _ h => nomatch h⟩⟩⟩⟩), rfl, by decide +kernel, by decide +kernel, by decide +kernel⟩
theorem dX0_beginRun_0 : decode cX0_beginRun 0 = .ok (.aload_n 0, 1) := by decide +kernel
theorem dX0_beginRun_1 : decode cX0_beginRun 1 = .ok (.iconst 0, 1) := by decide +kernel
theorem dX0_beginRun_2 : decode cX0_beginRun 2 = .ok (.putfield 27, 3) := by decide +kernel
theorem dX0_beginRun_5 : decode cX0_beginRun 5 = .ok (.aload_n 0, 1) := by decide +kernel
theorem dX0_beginRun_6 : decode cX0_beginRun 6 = .ok (.iconst 0, 1) := by decide +kernel
theorem dX0_beginRun_7 : decode cX0_beginRun 7 = .ok (.putfield 31, 3) := by decide +kernel
theorem dX0_beginRun_10 : decode cX0_beginRun 10 = .ok (.iconst 0, 1) := by decide +kernel
theorem dX0_beginRun_11 : decode cX0_beginRun 11 = .ok (.istore_n 1, 1) := by decide +kernel
theorem dX0_beginRun_12 : decode cX0_beginRun 12 = .ok (.iload_n 1, 1) := by decide +kernel
theorem dX0_beginRun_13 : decode cX0_beginRun 13 = .ok (.aload_n 0, 1) := by decide +kernel
theorem dX0_beginRun_14 : decode cX0_beginRun 14 = .ok (.getfield 24, 3) := by decide +kernel
theorem dX0_beginRun_17 : decode cX0_beginRun 17 = .ok (.arraylength, 1) := by decide +kernel
theorem dX0_beginRun_18 : decode cX0_beginRun 18 = .ok (.if_icmp .ge 19, 3) := by decide +kernel
theorem dX0_beginRun_21 : decode cX0_beginRun 21 = .ok (.aload_n 0, 1) := by decide +kernel
theorem dX0_beginRun_22 : decode cX0_beginRun 22 = .ok (.getfield 24, 3) := by decide +kernel
theorem dX0_beginRun_25 : decode cX0_beginRun 25 = .ok (.iload_n 1, 1) := by decide +kernel
theorem dX0_beginRun_26 : decode cX0_beginRun 26 = .ok (.aaload, 1) := by decide +kernel
theorem dX0_beginRun_27 : decode cX0_beginRun 27 = .ok (.iconst 0, 1) := by decide +kernel
theorem dX0_beginRun_28 : decode cX0_beginRun 28 = .ok (.invokevirtual 53, 3) := by decide +kernel
theorem dX0_beginRun_31 : decode cX0_beginRun 31 = .ok (.iinc 1 1, 3) := by decide +kernel
theorem dX0_beginRun_34 : decode cX0_beginRun 34 = .ok (.goto (-22), 3) := by decide +kernel
theorem dX0_beginRun_37 : decode cX0_beginRun 37 = .ok (.return_, 1) := by decide +kernel
set_option maxHeartbeats 4000000 in
set_option maxRecDepth 100000 in
theorem s_C_beginRun (l : Launch) (d : gD) (b : Nat) (Y : gYt) (c : Nat × Nat) (F : gM) (k n : Nat) {S : gSt} (hi : hI d b Y c (F, k, n) S)  : hMv l d b yX0_beginRun cX0_beginRun 2 2 k n F [.ref (gO' Y 6)] (fun u => ∃ S', hI d b Y c u S' ∧ gKp Y F u.1 ∧ gSm S S' [38, 39] [25, 26] ∧ gPsi S' ≤ gPsi S) := by
  intro mc ms
  refine hM_of2 rfl (nL := 2) (Nat.le_of_ble_eq_true rfl) ?_
  intro X hX hC hr ho; subst hX
  show hG X d b _ F k n 0 [some (.ref (gO' Y 6)), none] []
  refine h_aload_n hC dX0_beginRun_0 rfl ?_
  refine h_iconst (v := 0) hC dX0_beginRun_1 rfl ?_
  refine hi_putx (i := 6) (kx := 25) hC hi (by decide) fl_X0_27 rfl rfl rfl (Nat.le_of_ble_eq_true rfl) rfl gsame_25 (fun q => absurd q (by decide)) dX0_beginRun_2 (fun F1 S2 I3 K4 s5 v6 p7 => ?_)
  have m8 : gSm S S2 [38, 39] [25, 26] := gSm.wk s5 _ _ rfl rfl
  refine h_aload_n hC dX0_beginRun_5 rfl ?_
  refine h_iconst (v := 0) hC dX0_beginRun_6 rfl ?_
  refine hi_putx (i := 6) (kx := 26) hC I3 (by decide) fl_X0_31 rfl rfl rfl (Nat.le_of_ble_eq_true rfl) rfl gsame_26 (fun q => absurd q (by decide)) dX0_beginRun_7 (fun F10 S11 I12 K13 s14 v15 p16 => ?_)
  have m17 : gSm S S11 [38, 39] [25, 26] := m8.tr s14 _ _ rfl rfl
  have K18 := K4.tr K13
  refine h_iconst (v := 0) hC dX0_beginRun_10 rfl ?_
  refine h_istore_n (lv' := [some (.ref (gO' Y 6)), some (.int 0)]) hC dX0_beginRun_11 (Nat.le_of_ble_eq_true rfl) rfl rfl ?_
  refine h_iload_n hC dX0_beginRun_12 rfl ?_
  refine h_aload_n hC dX0_beginRun_13 rfl ?_
  refine h_get hC fl_X0_24 (I12.1.o 6 (by decide)) rfl dX0_beginRun_14 ?_
  refine hi_alen1 hC I12 dX0_beginRun_17 ?_
  refine h_icmp_ge (tgt := 37) hC dX0_beginRun_18 (by decide) (fun c19 => ?_) (fun c19 => ?_)
  · exact absurd c19 (by decide)
  · refine h_aload_n hC dX0_beginRun_21 rfl ?_
    refine h_get hC fl_X0_24 (I12.1.o 6 (by decide)) rfl dX0_beginRun_22 ?_
    refine h_iload_n hC dX0_beginRun_25 rfl ?_
    refine hi_aald1 hC I12 (N := 0) (show (0 : Int32) = nI 0 from rfl) (by decide) dX0_beginRun_26 ?_
    refine h_iconst (v := 0) hC dX0_beginRun_27 rfl ?_
    refine hi_cut (j := 38) hC hr ho I12 (by decide) cl_X0_53 rfl (Nat.le_of_ble_eq_true rfl) (hFr_of (Nat.le_of_ble_eq_true rfl) (Nat.le_of_ble_eq_true rfl)) dX0_beginRun_28 (fun F20 S21 I22 K23 s24 a25 => ?_)
    have m26 : gSm S S21 [38, 39] [25, 26] := m17.tr s24 _ _ rfl rfl
    have K27 := K18.tr K23
    have Pa25 : gPsi S21 ≤ gPsi S11 := a25.2.2.2.2.2
    obtain ⟨x28, ex28⟩ : ∃ y : Int32, y = 0 + 1 := ⟨_, rfl⟩
    refine h_iinc (v := x28) (lv' := [some (.ref (gO' Y 6)), some (.int x28)]) hC dX0_beginRun_31 rfl (by rw [ex28]; rfl) rfl rfl ?_
    refine h_goto (tgt := 12) hC dX0_beginRun_34 (by decide) ?_
    have zx28 : x28 = 1 := by rw [ex28]; rfl
    subst zx28
    refine h_iload_n hC dX0_beginRun_12 rfl ?_
    refine h_aload_n hC dX0_beginRun_13 rfl ?_
    refine h_get hC fl_X0_24 (I22.1.o 6 (by decide)) rfl dX0_beginRun_14 ?_
    refine hi_alen1 hC I22 dX0_beginRun_17 ?_
    refine h_icmp_ge (tgt := 37) hC dX0_beginRun_18 (by decide) (fun c29 => ?_) (fun c29 => ?_)
    · exact absurd c29 (by decide)
    · refine h_aload_n hC dX0_beginRun_21 rfl ?_
      refine h_get hC fl_X0_24 (I22.1.o 6 (by decide)) rfl dX0_beginRun_22 ?_
      refine h_iload_n hC dX0_beginRun_25 rfl ?_
      refine hi_aald1 hC I22 (N := 1) (show (1 : Int32) = nI 1 from rfl) (by decide) dX0_beginRun_26 ?_
      refine h_iconst (v := 0) hC dX0_beginRun_27 rfl ?_
      refine hi_cut (j := 39) hC hr ho I22 (by decide) cl_X0_53 rfl (Nat.le_of_ble_eq_true rfl) (hFr_of (Nat.le_of_ble_eq_true rfl) (Nat.le_of_ble_eq_true rfl)) dX0_beginRun_28 (fun F30 S31 I32 K33 s34 a35 => ?_)
      have m36 : gSm S S31 [38, 39] [25, 26] := m26.tr s34 _ _ rfl rfl
      have K37 := K27.tr K33
      have Pa35 : gPsi S31 ≤ gPsi S21 := a35.2.2.2.2.2
      obtain ⟨x38, ex38⟩ : ∃ y : Int32, y = 1 + 1 := ⟨_, rfl⟩
      refine h_iinc (v := x38) (lv' := [some (.ref (gO' Y 6)), some (.int x38)]) hC dX0_beginRun_31 rfl (by rw [ex38]; rfl) rfl rfl ?_
      refine h_goto (tgt := 12) hC dX0_beginRun_34 (by decide) ?_
      have zx38 : x38 = 2 := by rw [ex38]; rfl
      subst zx38
      refine h_iload_n hC dX0_beginRun_12 rfl ?_
      refine h_aload_n hC dX0_beginRun_13 rfl ?_
      refine h_get hC fl_X0_24 (I32.1.o 6 (by decide)) rfl dX0_beginRun_14 ?_
      refine hi_alen1 hC I32 dX0_beginRun_17 ?_
      refine h_icmp_ge (tgt := 37) hC dX0_beginRun_18 (by decide) (fun c39 => ?_) (fun c39 => ?_)
      · exact h_vret hC hr ho rfl rfl ⟨S31, I32, K37, m36, by omega⟩ dX0_beginRun_37
      · exact absurd (by decide) c39
theorem nI_lt18 {j : Nat} (h : j ≤ 18) (h2 : ¬ (18 : Int32) ≤ nI j) : j < 18 := Nat.lt_of_le_of_ne h (fun q => h2 (by subst q; decide))
theorem dX9_clear_0 : decode cX9_clear 0 = .ok (.aload_n 0, 1) := by decide +kernel
theorem dX9_clear_1 : decode cX9_clear 1 = .ok (.iconst 0, 1) := by decide +kernel
theorem dX9_clear_2 : decode cX9_clear 2 = .ok (.invokevirtual 44, 3) := by decide +kernel
theorem dX9_clear_5 : decode cX9_clear 5 = .ok (.aload_n 0, 1) := by decide +kernel
theorem dX9_clear_6 : decode cX9_clear 6 = .ok (.getfield 33, 3) := by decide +kernel
theorem dX9_clear_9 : decode cX9_clear 9 = .ok (.iconst 0, 1) := by decide +kernel
theorem dX9_clear_10 : decode cX9_clear 10 = .ok (.invokevirtual 47, 3) := by decide +kernel
theorem dX9_clear_13 : decode cX9_clear 13 = .ok (.aload_n 0, 1) := by decide +kernel
theorem dX9_clear_14 : decode cX9_clear 14 = .ok (.iconst 0, 1) := by decide +kernel
theorem dX9_clear_15 : decode cX9_clear 15 = .ok (.putfield 36, 3) := by decide +kernel
theorem dX9_clear_18 : decode cX9_clear 18 = .ok (.iconst 0, 1) := by decide +kernel
theorem dX9_clear_19 : decode cX9_clear 19 = .ok (.istore_n 1, 1) := by decide +kernel
theorem dX9_clear_20 : decode cX9_clear 20 = .ok (.iload_n 1, 1) := by decide +kernel
theorem dX9_clear_21 : decode cX9_clear 21 = .ok (.bipush 18, 2) := by decide +kernel
theorem dX9_clear_23 : decode cX9_clear 23 = .ok (.if_icmp .ge 25, 3) := by decide +kernel
theorem dX9_clear_26 : decode cX9_clear 26 = .ok (.aload_n 0, 1) := by decide +kernel
theorem dX9_clear_27 : decode cX9_clear 27 = .ok (.bipush 42, 2) := by decide +kernel
theorem dX9_clear_29 : decode cX9_clear 29 = .ok (.iload_n 1, 1) := by decide +kernel
theorem dX9_clear_30 : decode cX9_clear 30 = .ok (.iadd, 1) := by decide +kernel
theorem dX9_clear_31 : decode cX9_clear 31 = .ok (.iconst 5, 1) := by decide +kernel
theorem dX9_clear_32 : decode cX9_clear 32 = .ok (.ldc 48, 2) := by decide +kernel
theorem dX9_clear_34 : decode cX9_clear 34 = .ok (.iload_n 1, 1) := by decide +kernel
theorem dX9_clear_35 : decode cX9_clear 35 = .ok (.iadd, 1) := by decide +kernel
theorem dX9_clear_36 : decode cX9_clear 36 = .ok (.iconst 0, 1) := by decide +kernel
theorem dX9_clear_37 : decode cX9_clear 37 = .ok (.iconst 0, 1) := by decide +kernel
theorem dX9_clear_38 : decode cX9_clear 38 = .ok (.invokevirtual 49, 3) := by decide +kernel
theorem dX9_clear_41 : decode cX9_clear 41 = .ok (.pop, 1) := by decide +kernel
theorem dX9_clear_42 : decode cX9_clear 42 = .ok (.iinc 1 1, 3) := by decide +kernel
theorem dX9_clear_45 : decode cX9_clear 45 = .ok (.goto (-25), 3) := by decide +kernel
theorem dX9_clear_48 : decode cX9_clear 48 = .ok (.return_, 1) := by decide +kernel
set_option maxHeartbeats 4000000 in
set_option maxRecDepth 100000 in
theorem s_S_clear (l : Launch) (d : gD) (b : Nat) (Y : gYt) (c : Nat × Nat) (F : gM) (k n : Nat) {S : gSt} (hi : hI d b Y c (F, k, n) S) (hA : gPsi S + 90 ≤ gAm) : hMv l d b yX9_clear cX9_clear 2 4 k n F [.ref (gO' Y 8)] (fun u => ∃ S', hI d b Y c u S' ∧ gKp Y F u.1 ∧ gSm S S' [27, 28, 29, 30, 31, 32] [37] ∧ gPsi S' ≤ gPsi S + 90) := by
  intro mc ms
  refine hM_of2 rfl (nL := 2) (Nat.le_of_ble_eq_true rfl) ?_
  intro X hX hC hr ho; subst hX
  show hG X d b _ F k n 0 [some (.ref (gO' Y 8)), none] []
  refine h_aload_n hC dX9_clear_0 rfl ?_
  refine h_iconst (v := 0) hC dX9_clear_1 rfl ?_
  refine h_callVv (As := [.int 0]) hC hr ho rfl (hi.1.o 8 (by decide)) (s_S_cut X.la d b Y c _ _ _ hi 0) cl_X9_44 rfl rfl (Nat.le_of_ble_eq_true rfl) (hFr_of (Nat.le_of_ble_eq_true rfl) (Nat.le_of_ble_eq_true rfl)) dX9_clear_2 (fun u1 p2 o3 => ?_)
  obtain ⟨S5, I6, K7, s8, q9⟩ := p2
  have m10 : gSm S S5 [27, 28, 29, 30, 31, 32] [37] := gSm.wk s8 _ _ rfl rfl
  refine h_aload_n hC dX9_clear_5 rfl ?_
  refine h_get hC fl_X9_33 (I6.1.o 8 (by decide)) rfl dX9_clear_6 ?_
  refine h_iconst (v := 0) hC dX9_clear_9 rfl ?_
  refine hi_cut (j := 32) hC hr o3 I6 (by decide) cl_X9_47 rfl (Nat.le_of_ble_eq_true rfl) (hFr_of (Nat.le_of_ble_eq_true rfl) (Nat.le_of_ble_eq_true rfl)) dX9_clear_10 (fun F12 S13 I14 K15 s16 a17 => ?_)
  have m18 : gSm S S13 [27, 28, 29, 30, 31, 32] [37] := m10.tr s16 _ _ rfl rfl
  have K19 := K7.tr K15
  have Pa17 : gPsi S13 ≤ gPsi S5 := a17.2.2.2.2.2
  refine h_aload_n hC dX9_clear_13 rfl ?_
  refine h_iconst (v := 0) hC dX9_clear_14 rfl ?_
  refine hi_putx (i := 8) (kx := 37) hC I14 (by decide) fl_X9_36 rfl rfl rfl (Nat.le_of_ble_eq_true rfl) rfl gsame_37 (fun q => absurd q (by decide)) dX9_clear_15 (fun F20 S21 I22 K23 s24 v25 p26 => ?_)
  have m27 : gSm S S21 [27, 28, 29, 30, 31, 32] [37] := m18.tr s24 _ _ rfl rfl
  have K28 := K19.tr K23
  refine h_iconst (v := 0) hC dX9_clear_18 rfl ?_
  refine h_istore_n (lv' := [some (.ref (gO' Y 8)), some (.int 0)]) hC dX9_clear_19 (Nat.le_of_ble_eq_true rfl) rfl rfl ?_
  have L29 : ∀ (m30 j31 : Nat), j31 + m30 = 18 → ∀ (u34 : hU) (S35 : gSt), hI d b Y c u34 S35 → hOk X b u34.2.1 u34.2.2 → gKp Y F u34.1 → gSm S S35 [27, 28, 29, 30, 31, 32] [37] → (gPsi S35 ≤ gPsi S + 5 * j31) → hG X d b (MQ X.be (va_Qv (fun u => ∃ S', hI d b Y c u S' ∧ gKp Y F u.1 ∧ gSm S S' [27, 28, 29, 30, 31, 32] [37] ∧ gPsi S' ≤ gPsi S + 90) (hB d b) (fun q => b ≤ q)) X.ar X.st mc ms (fun q => b ≤ q)) u34.1 u34.2.1 u34.2.2 20 [some (.ref (gO' Y 8)), some (.int (nI j31))] [] := by
    intro m30
    refine Nat.strongRecOn m30 (fun m30 ih32 j31 hj33 u34 S35 I36 o37 K38 m39 ips => ?_)
    refine h_iload_n hC dX9_clear_20 rfl ?_
    refine h_bipush (v := 18) hC dX9_clear_21 rfl ?_
    refine h_icmp_ge (tgt := 48) hC dX9_clear_23 (by decide) (fun c40 => ?_) (fun c40 => ?_)
    · exact h_vret hC hr o37 rfl rfl ⟨S35, I36, K38, m39, by omega⟩ dX9_clear_48
    · have hlt := nI_lt18 (by omega) c40
      refine h_aload_n hC dX9_clear_26 rfl ?_
      refine h_bipush (v := 42) hC dX9_clear_27 rfl ?_
      refine h_iload_n hC dX9_clear_29 rfl ?_
      refine h_iadd hC dX9_clear_30 ?_
      refine h_vi (fun x41 ex41 => ?_)
      refine h_iconst (v := 5) hC dX9_clear_31 rfl ?_
      refine h_ldc hC dX9_clear_32 kw_1279 ?_
      refine h_iload_n hC dX9_clear_34 rfl ?_
      refine h_iadd hC dX9_clear_35 ?_
      refine h_vi (fun x42 ex42 => ?_)
      refine h_iconst (v := 0) hC dX9_clear_36 rfl ?_
      refine h_iconst (v := 0) hC dX9_clear_37 rfl ?_
      refine h_callVi (As := [.int x41, .int 5, .int x42, .int 0, .int 0]) hC hr o37 rfl (I36.1.o 8 (by decide)) (s_S_put X.la d b Y c _ _ _ I36 (by omega) x41 5 x42 0 0) cl_X9_49 rfl rfl (Nat.le_of_ble_eq_true rfl) (hFr_of (Nat.le_of_ble_eq_true rfl) (Nat.le_of_ble_eq_true rfl)) dX9_clear_38 (fun r46 u43 p44 o45 => ?_)
      obtain ⟨S47, I48, K49, s50, q51⟩ := p44
      have m52 : gSm S S47 [27, 28, 29, 30, 31, 32] [37] := m39.tr s50 _ _ rfl rfl
      have K53 := K38.tr K49
      refine h_pop hC dX9_clear_41 rfl ?_
      obtain ⟨x54, ex54⟩ : ∃ y : Int32, y = (nI j31) + 1 := ⟨_, rfl⟩
      refine h_iinc (v := x54) (lv' := [some (.ref (gO' Y 8)), some (.int x54)]) hC dX9_clear_42 rfl (by rw [ex54]; rfl) rfl rfl ?_
      refine h_goto (tgt := 20) hC dX9_clear_45 (by decide) ?_
      have zJx54 : x54 = nI (j31 + 1) := by rw [ex54]; exact nI_suc
      subst zJx54
      refine h_lv (lv' := [some (.ref (gO' Y 8)), some (.int (nI (j31 + 1)))]) (by repeat (first | exact trivial | refine ⟨rfl, ?_⟩ | exact trivial)) ?_
      exact ih32 (m30 - 1) (by omega) (j31 + 1) (by omega) _ S47  I48 o45 K53 m52 (by omega)
  refine h_lv (lv' := [some (.ref (gO' Y 8)), some (.int 0)]) (by repeat (first | exact trivial | refine ⟨rfl, ?_⟩ | exact trivial)) ?_
  exact L29 (18 - 0) 0 (by omega) (F20, u1.2.1, u1.2.2) S21  I22 o3 K28 m27 (by omega)
