theorem kw_296 : Cond.constant RX7 11 1000000 ∈ gWs := List.mem_filter.mpr ⟨gMt1 _ (List.mem_of_getElem? (i := 59) rfl), rfl⟩
theorem kw_1321 : Cond.code yX7_here cX7_here 1 (some .int) ∈ gWs := List.mem_filter.mpr ⟨gMt5 _ (List.mem_of_getElem? (i := 124) rfl), rfl⟩
theorem kw_1445 : Cond.methodLink RX7 84 yX7_here ∈ gWs := List.mem_filter.mpr ⟨gMt6 _ (List.mem_of_getElem? (i := 8) rfl), rfl⟩
theorem kw_1319 : Cond.instanceMethod yX7_here ∈ gWs := List.mem_filter.mpr ⟨gMt5 _ (List.mem_of_getElem? (i := 122) rfl), rfl⟩
theorem kw_1320 : Cond.selects RX7 yX7_here yX7_here ∈ gWs := List.mem_filter.mpr ⟨gMt5 _ (List.mem_of_getElem? (i := 123) rfl), rfl⟩
theorem cl_X7_84 : gCV RX7 84 yX7_here cX7_here 1 (some .int) 0 := ⟨g_mk [.methodLink RX7 84 yX7_here, .instanceMethod yX7_here, .selects yX7_here.cls yX7_here yX7_here, .initialized yX7_here.cls] (gWs_all kw_1321) (List.forall_mem_cons.mpr ⟨kw_1445, List.forall_mem_cons.mpr ⟨kw_1319, List.forall_mem_cons.mpr ⟨kw_1320, List.forall_mem_cons.mpr ⟨kw_240, fun _ h => nomatch h⟩⟩⟩⟩), rfl, by decide +kernel, by decide +kernel, by decide +kernel⟩
theorem kw_1095 : Cond.code yX7_addWord cX7_addWord 2 (some .int) ∈ gWs := List.mem_filter.mpr ⟨gMt4 _ (List.mem_of_getElem? (i := 138) rfl), rfl⟩
theorem kw_1253 : Cond.methodLink RX7 81 yX7_addWord ∈ gWs := List.mem_filter.mpr ⟨gMt5 _ (List.mem_of_getElem? (i := 56) rfl), rfl⟩
theorem kw_1093 : Cond.instanceMethod yX7_addWord ∈ gWs := List.mem_filter.mpr ⟨gMt4 _ (List.mem_of_getElem? (i := 136) rfl), rfl⟩
theorem kw_1094 : Cond.selects RX7 yX7_addWord yX7_addWord ∈ gWs := List.mem_filter.mpr ⟨gMt4 _ (List.mem_of_getElem? (i := 137) rfl), rfl⟩
theorem cl_X7_81 : gCV RX7 81 yX7_addWord cX7_addWord 2 (some .int) 1 := ⟨g_mk [.methodLink RX7 81 yX7_addWord, .instanceMethod yX7_addWord, .selects yX7_addWord.cls yX7_addWord yX7_addWord, .initialized yX7_addWord.cls] (gWs_all kw_1095) (List.forall_mem_cons.mpr ⟨kw_1253, List.forall_mem_cons.mpr ⟨kw_1093, List.forall_mem_cons.mpr ⟨kw_1094, List.forall_mem_cons.mpr ⟨kw_240, fun _ h => nomatch h⟩⟩⟩⟩), rfl, by decide +kernel, by decide +kernel, by decide +kernel⟩
theorem nI_suc {j : Nat} : nI j + 1 = nI (j + 1) := by
  apply Int32.toBitVec_inj.mp
  show BitVec.ofNat 32 j + 1#32 = BitVec.ofNat 32 (j + 1)
  rw [BitVec.ofNat_add]
theorem nI_ltN {j : Nat} (h : j ≤ 1000000) (h2 : ¬ (1000000 : Int32) ≤ nI j) : j < 1000000 := Nat.lt_of_le_of_ne h (fun q => h2 (by subst q; decide))
theorem dX7_addWord_0 : decode cX7_addWord 0 = .ok (.aload_n 0, 1) := by decide +kernel
theorem dX7_addWord_1 : decode cX7_addWord 1 = .ok (.getfield 21, 3) := by decide +kernel
theorem dX7_addWord_4 : decode cX7_addWord 4 = .ok (.iload_n 1, 1) := by decide +kernel
theorem dX7_addWord_5 : decode cX7_addWord 5 = .ok (.invokevirtual 56, 3) := by decide +kernel
theorem dX7_addWord_8 : decode cX7_addWord 8 = .ok (.aload_n 0, 1) := by decide +kernel
theorem dX7_addWord_9 : decode cX7_addWord 9 = .ok (.getfield 21, 3) := by decide +kernel
theorem dX7_addWord_12 : decode cX7_addWord 12 = .ok (.invokevirtual 67, 3) := by decide +kernel
theorem dX7_addWord_15 : decode cX7_addWord 15 = .ok (.iconst 1, 1) := by decide +kernel
theorem dX7_addWord_16 : decode cX7_addWord 16 = .ok (.isub, 1) := by decide +kernel
theorem dX7_addWord_17 : decode cX7_addWord 17 = .ok (.ireturn, 1) := by decide +kernel
set_option maxHeartbeats 4000000 in
set_option maxRecDepth 100000 in
theorem s_P_addWord (l : Launch) (d : gD) (b : Nat) (Y : gYt) (c : Nat × Nat) (F : gM) (k n : Nat) {S : gSt} (hi : hI d b Y c (F, k, n) S) (hA : gPsi S + 1 ≤ gAm) (x : Int32) : hMi l d b yX7_addWord cX7_addWord 2 .int 3 k n F [.ref (gO' Y 1), .int x] (fun r u => ∃ S', hI d b Y c u S' ∧ gKp Y F u.1 ∧ gSm S S' [2] [] ∧ gPsi S' ≤ gPsi S + 1 ∧ gAd S S' 2 x ∧ r = nI (sZ S' 2) - 1) := by
  intro mc ms
  refine hM_of2 rfl (nL := 2) (Nat.le_of_ble_eq_true rfl) ?_
  intro X hX hC hr ho; subst hX
  show hG X d b _ F k n 0 [some (.ref (gO' Y 1)), some (.int x)] []
  refine h_aload_n hC dX7_addWord_0 rfl ?_
  refine h_get hC fl_X7_21 (hi.1.o 1 (by decide)) rfl dX7_addWord_1 ?_
  refine h_iload_n hC dX7_addWord_4 rfl ?_
  refine hi_add (j := 2) hC hr ho hi (by decide) ⟨fun _ => by omega, fun q => absurd q (by decide), by omega⟩ cl_X7_56 rfl (Nat.le_of_ble_eq_true rfl) (hFr_of (Nat.le_of_ble_eq_true rfl) (Nat.le_of_ble_eq_true rfl)) dX7_addWord_5 (fun u8 S2 I3 o7 K4 s5 a6 => ?_)
  have m9 : gSm S S2 [2] [] := gSm.wk s5 _ _ rfl rfl
  have Pa6 : gPsi S2 ≤ gPsi S + 1 := a6.2.2.1 ⟨by decide, by decide⟩
  refine h_aload_n hC dX7_addWord_8 rfl ?_
  refine h_get hC fl_X7_21 (I3.1.o 1 (by decide)) rfl dX7_addWord_9 ?_
  refine hi_size (j := 2) hC hr o7 I3.1 (by decide) cl_X7_67 rfl (Nat.le_of_ble_eq_true rfl) (hFr_of (Nat.le_of_ble_eq_true rfl) (Nat.le_of_ble_eq_true rfl)) dX7_addWord_12 ?_
  refine h_iconst (v := 1) hC dX7_addWord_15 rfl ?_
  refine h_isub hC dX7_addWord_16 ?_
  refine h_vi (fun x11 ex11 => ?_)
  exact h_iret hC hr o7 rfl rfl rfl ⟨S2, I3, K4, m9, by omega, a6, ex11⟩ dX7_addWord_17
theorem dX7_emit_0 : decode cX7_emit 0 = .ok (.aload_n 0, 1) := by decide +kernel
theorem dX7_emit_1 : decode cX7_emit 1 = .ok (.getfield 15, 3) := by decide +kernel
theorem dX7_emit_4 : decode cX7_emit 4 = .ok (.iload_n 1, 1) := by decide +kernel
theorem dX7_emit_5 : decode cX7_emit 5 = .ok (.invokevirtual 56, 3) := by decide +kernel
theorem dX7_emit_8 : decode cX7_emit 8 = .ok (.aload_n 0, 1) := by decide +kernel
theorem dX7_emit_9 : decode cX7_emit 9 = .ok (.getfield 15, 3) := by decide +kernel
theorem dX7_emit_12 : decode cX7_emit 12 = .ok (.iload_n 2, 1) := by decide +kernel
theorem dX7_emit_13 : decode cX7_emit 13 = .ok (.invokevirtual 56, 3) := by decide +kernel
theorem dX7_emit_16 : decode cX7_emit 16 = .ok (.aload_n 0, 1) := by decide +kernel
theorem dX7_emit_17 : decode cX7_emit 17 = .ok (.getfield 15, 3) := by decide +kernel
theorem dX7_emit_20 : decode cX7_emit 20 = .ok (.invokevirtual 67, 3) := by decide +kernel
theorem dX7_emit_23 : decode cX7_emit 23 = .ok (.iconst 1, 1) := by decide +kernel
theorem dX7_emit_24 : decode cX7_emit 24 = .ok (.isub, 1) := by decide +kernel
theorem dX7_emit_25 : decode cX7_emit 25 = .ok (.ireturn, 1) := by decide +kernel
set_option maxHeartbeats 4000000 in
set_option maxRecDepth 100000 in
theorem s_P_emit (l : Launch) (d : gD) (b : Nat) (Y : gYt) (c : Nat × Nat) (F : gM) (k n : Nat) {S : gSt} (hi : hI d b Y c (F, k, n) S) (hA : gPsi S + 2 ≤ gAm) (x y : Int32) : hMi l d b yX7_emit cX7_emit 3 .int 3 k n F [.ref (gO' Y 1), .int x, .int y] (fun r u => ∃ S', hI d b Y c u S' ∧ gKp Y F u.1 ∧ gSm S S' [1] [] ∧ gPsi S' ≤ gPsi S + 2 ∧ (∃ S1, gAd S S1 1 x ∧ gAd S1 S' 1 y) ∧ r = nI (sZ S' 1) - 1) := by
  intro mc ms
  refine hM_of2 rfl (nL := 3) (Nat.le_of_ble_eq_true rfl) ?_
  intro X hX hC hr ho; subst hX
  show hG X d b _ F k n 0 [some (.ref (gO' Y 1)), some (.int x), some (.int y)] []
  refine h_aload_n hC dX7_emit_0 rfl ?_
  refine h_get hC fl_X7_15 (hi.1.o 1 (by decide)) rfl dX7_emit_1 ?_
  refine h_iload_n hC dX7_emit_4 rfl ?_
  refine hi_add (j := 1) hC hr ho hi (by decide) ⟨fun _ => by omega, fun q => absurd q (by decide), by omega⟩ cl_X7_56 rfl (Nat.le_of_ble_eq_true rfl) (hFr_of (Nat.le_of_ble_eq_true rfl) (Nat.le_of_ble_eq_true rfl)) dX7_emit_5 (fun u8 S2 I3 o7 K4 s5 a6 => ?_)
  have m9 : gSm S S2 [1] [] := gSm.wk s5 _ _ rfl rfl
  have Pa6 : gPsi S2 ≤ gPsi S + 1 := a6.2.2.1 ⟨by decide, by decide⟩
  refine h_aload_n hC dX7_emit_8 rfl ?_
  refine h_get hC fl_X7_15 (I3.1.o 1 (by decide)) rfl dX7_emit_9 ?_
  refine h_iload_n hC dX7_emit_12 rfl ?_
  refine hi_add (j := 1) hC hr o7 I3 (by decide) ⟨fun _ => by omega, fun q => absurd q (by decide), by omega⟩ cl_X7_56 rfl (Nat.le_of_ble_eq_true rfl) (hFr_of (Nat.le_of_ble_eq_true rfl) (Nat.le_of_ble_eq_true rfl)) dX7_emit_13 (fun u18 S12 I13 o17 K14 s15 a16 => ?_)
  have m19 : gSm S S12 [1] [] := m9.tr s15 _ _ rfl rfl
  have K20 := K4.tr K14
  have Pa16 : gPsi S12 ≤ gPsi S2 + 1 := a16.2.2.1 ⟨by decide, by decide⟩
  refine h_aload_n hC dX7_emit_16 rfl ?_
  refine h_get hC fl_X7_15 (I13.1.o 1 (by decide)) rfl dX7_emit_17 ?_
  refine hi_size (j := 1) hC hr o17 I13.1 (by decide) cl_X7_67 rfl (Nat.le_of_ble_eq_true rfl) (hFr_of (Nat.le_of_ble_eq_true rfl) (Nat.le_of_ble_eq_true rfl)) dX7_emit_20 ?_
  refine h_iconst (v := 1) hC dX7_emit_23 rfl ?_
  refine h_isub hC dX7_emit_24 ?_
  refine h_vi (fun x21 ex21 => ?_)
  exact h_iret hC hr o17 rfl rfl rfl ⟨S12, I13, K20, m19, by omega, ⟨S2, a6, a16⟩, ex21⟩ dX7_emit_25
theorem dX7_blame_0 : decode cX7_blame 0 = .ok (.iload_n 2, 1) := by decide +kernel
theorem dX7_blame_1 : decode cX7_blame 1 = .ok (.aload_n 0, 1) := by decide +kernel
theorem dX7_blame_2 : decode cX7_blame 2 = .ok (.getfield 46, 3) := by decide +kernel
theorem dX7_blame_5 : decode cX7_blame 5 = .ok (.if_icmp .lt 19, 3) := by decide +kernel
theorem dX7_blame_8 : decode cX7_blame 8 = .ok (.iload_n 2, 1) := by decide +kernel
theorem dX7_blame_9 : decode cX7_blame 9 = .ok (.aload_n 0, 1) := by decide +kernel
theorem dX7_blame_10 : decode cX7_blame 10 = .ok (.getfield 46, 3) := by decide +kernel
theorem dX7_blame_13 : decode cX7_blame 13 = .ok (.if_icmp .ne 15, 3) := by decide +kernel
theorem dX7_blame_16 : decode cX7_blame 16 = .ok (.iload_n 1, 1) := by decide +kernel
theorem dX7_blame_17 : decode cX7_blame 17 = .ok (.aload_n 0, 1) := by decide +kernel
theorem dX7_blame_18 : decode cX7_blame 18 = .ok (.getfield 43, 3) := by decide +kernel
theorem dX7_blame_21 : decode cX7_blame 21 = .ok (.if_icmp .ge 7, 3) := by decide +kernel
theorem dX7_blame_24 : decode cX7_blame 24 = .ok (.iconst 1, 1) := by decide +kernel
theorem dX7_blame_25 : decode cX7_blame 25 = .ok (.goto 4, 3) := by decide +kernel
theorem dX7_blame_28 : decode cX7_blame 28 = .ok (.iconst 0, 1) := by decide +kernel
theorem dX7_blame_29 : decode cX7_blame 29 = .ok (.istore_n 3, 1) := by decide +kernel
theorem dX7_blame_30 : decode cX7_blame 30 = .ok (.aload_n 0, 1) := by decide +kernel
theorem dX7_blame_31 : decode cX7_blame 31 = .ok (.getfield 43, 3) := by decide +kernel
theorem dX7_blame_34 : decode cX7_blame 34 = .ok (.ifCond .eq 7, 3) := by decide +kernel
theorem dX7_blame_37 : decode cX7_blame 37 = .ok (.iload_n 3, 1) := by decide +kernel
theorem dX7_blame_38 : decode cX7_blame 38 = .ok (.ifCond .eq 13, 3) := by decide +kernel
theorem dX7_blame_41 : decode cX7_blame 41 = .ok (.aload_n 0, 1) := by decide +kernel
theorem dX7_blame_42 : decode cX7_blame 42 = .ok (.iload_n 1, 1) := by decide +kernel
theorem dX7_blame_43 : decode cX7_blame 43 = .ok (.putfield 43, 3) := by decide +kernel
theorem dX7_blame_46 : decode cX7_blame 46 = .ok (.aload_n 0, 1) := by decide +kernel
theorem dX7_blame_47 : decode cX7_blame 47 = .ok (.iload_n 2, 1) := by decide +kernel
theorem dX7_blame_48 : decode cX7_blame 48 = .ok (.putfield 46, 3) := by decide +kernel
theorem dX7_blame_51 : decode cX7_blame 51 = .ok (.return_, 1) := by decide +kernel
set_option maxHeartbeats 4000000 in
set_option maxRecDepth 100000 in
theorem s_P_blame (l : Launch) (d : gD) (b : Nat) (Y : gYt) (c : Nat × Nat) (F : gM) (k n : Nat) {S : gSt} (hi : hI d b Y c (F, k, n) S) (x y : Int32) : hMv l d b yX7_blame cX7_blame 4 1 k n F [.ref (gO' Y 1), .int x, .int y] (fun u => ∃ S', hI d b Y c u S' ∧ gKp Y F u.1 ∧ gSm S S' [] [4, 5] ∧ gPsi S' ≤ gPsi S) := by
  intro mc ms
  refine hM_of2 rfl (nL := 4) (Nat.le_of_ble_eq_true rfl) ?_
  intro X hX hC hr ho; subst hX
  show hG X d b _ F k n 0 [some (.ref (gO' Y 1)), some (.int x), some (.int y), none] []
  refine h_iload_n hC dX7_blame_0 rfl ?_
  refine h_aload_n hC dX7_blame_1 rfl ?_
  refine h_get hC fl_X7_46 (hi.1.o 1 (by decide)) rfl dX7_blame_2 ?_
  refine h_icmp_lt (tgt := 24) hC dX7_blame_5 (by decide) (fun c1 => ?_) (fun c1 => ?_)
  · refine h_iconst (v := 1) hC dX7_blame_24 rfl ?_
    refine h_goto (tgt := 29) hC dX7_blame_25 (by decide) ?_
    refine h_istore_n (lv' := [some (.ref (gO' Y 1)), some (.int x), some (.int y), some (.int 1)]) hC dX7_blame_29 (Nat.le_of_ble_eq_true rfl) rfl rfl ?_
    refine h_aload_n hC dX7_blame_30 rfl ?_
    refine h_get hC fl_X7_43 (hi.1.o 1 (by decide)) rfl dX7_blame_31 ?_
    refine h_if_eq (tgt := 41) hC dX7_blame_34 (by decide) (fun c2 => ?_) (fun c2 => ?_)
    · refine h_aload_n hC dX7_blame_41 rfl ?_
      refine h_iload_n hC dX7_blame_42 rfl ?_
      refine hi_putx (i := 1) (kx := 4) hC hi (by decide) fl_X7_43 rfl rfl rfl (Nat.le_of_ble_eq_true rfl) rfl gsame_4 (fun q => absurd q (by decide)) dX7_blame_43 (fun F3 S4 I5 K6 s7 v8 p9 => ?_)
      have m10 : gSm S S4 [] [4, 5] := gSm.wk s7 _ _ rfl rfl
      refine h_aload_n hC dX7_blame_46 rfl ?_
      refine h_iload_n hC dX7_blame_47 rfl ?_
      refine hi_putx (i := 1) (kx := 5) hC I5 (by decide) fl_X7_46 rfl rfl rfl (Nat.le_of_ble_eq_true rfl) rfl gsame_5 (fun q => absurd q (by decide)) dX7_blame_48 (fun F12 S13 I14 K15 s16 v17 p18 => ?_)
      have m19 : gSm S S13 [] [4, 5] := m10.tr s16 _ _ rfl rfl
      have K20 := K6.tr K15
      exact h_vret hC hr ho rfl rfl ⟨S13, I14, K20, m19, by omega⟩ dX7_blame_51
    · refine h_iload_n hC dX7_blame_37 rfl ?_
      refine h_if_eq (tgt := 51) hC dX7_blame_38 (by decide) (fun c21 => ?_) (fun c21 => ?_)
      · exact absurd c21 (by decide)
      · refine h_aload_n hC dX7_blame_41 rfl ?_
        refine h_iload_n hC dX7_blame_42 rfl ?_
        refine hi_putx (i := 1) (kx := 4) hC hi (by decide) fl_X7_43 rfl rfl rfl (Nat.le_of_ble_eq_true rfl) rfl gsame_4 (fun q => absurd q (by decide)) dX7_blame_43 (fun F22 S23 I24 K25 s26 v27 p28 => ?_)
        have m29 : gSm S S23 [] [4, 5] := gSm.wk s26 _ _ rfl rfl
        refine h_aload_n hC dX7_blame_46 rfl ?_
        refine h_iload_n hC dX7_blame_47 rfl ?_
        refine hi_putx (i := 1) (kx := 5) hC I24 (by decide) fl_X7_46 rfl rfl rfl (Nat.le_of_ble_eq_true rfl) rfl gsame_5 (fun q => absurd q (by decide)) dX7_blame_48 (fun F31 S32 I33 K34 s35 v36 p37 => ?_)
        have m38 : gSm S S32 [] [4, 5] := m29.tr s35 _ _ rfl rfl
        have K39 := K25.tr K34
        exact h_vret hC hr ho rfl rfl ⟨S32, I33, K39, m38, by omega⟩ dX7_blame_51
  · refine h_iload_n hC dX7_blame_8 rfl ?_
    refine h_aload_n hC dX7_blame_9 rfl ?_
    refine h_get hC fl_X7_46 (hi.1.o 1 (by decide)) rfl dX7_blame_10 ?_
    refine h_icmp_ne (tgt := 28) hC dX7_blame_13 (by decide) (fun c40 => ?_) (fun c40 => ?_)
    · refine h_iconst (v := 0) hC dX7_blame_28 rfl ?_
      refine h_istore_n (lv' := [some (.ref (gO' Y 1)), some (.int x), some (.int y), some (.int 0)]) hC dX7_blame_29 (Nat.le_of_ble_eq_true rfl) rfl rfl ?_
      refine h_aload_n hC dX7_blame_30 rfl ?_
      refine h_get hC fl_X7_43 (hi.1.o 1 (by decide)) rfl dX7_blame_31 ?_
      refine h_if_eq (tgt := 41) hC dX7_blame_34 (by decide) (fun c41 => ?_) (fun c41 => ?_)
      · refine h_aload_n hC dX7_blame_41 rfl ?_
        refine h_iload_n hC dX7_blame_42 rfl ?_
        refine hi_putx (i := 1) (kx := 4) hC hi (by decide) fl_X7_43 rfl rfl rfl (Nat.le_of_ble_eq_true rfl) rfl gsame_4 (fun q => absurd q (by decide)) dX7_blame_43 (fun F42 S43 I44 K45 s46 v47 p48 => ?_)
        have m49 : gSm S S43 [] [4, 5] := gSm.wk s46 _ _ rfl rfl
        refine h_aload_n hC dX7_blame_46 rfl ?_
        refine h_iload_n hC dX7_blame_47 rfl ?_
        refine hi_putx (i := 1) (kx := 5) hC I44 (by decide) fl_X7_46 rfl rfl rfl (Nat.le_of_ble_eq_true rfl) rfl gsame_5 (fun q => absurd q (by decide)) dX7_blame_48 (fun F51 S52 I53 K54 s55 v56 p57 => ?_)
        have m58 : gSm S S52 [] [4, 5] := m49.tr s55 _ _ rfl rfl
        have K59 := K45.tr K54
        exact h_vret hC hr ho rfl rfl ⟨S52, I53, K59, m58, by omega⟩ dX7_blame_51
      · refine h_iload_n hC dX7_blame_37 rfl ?_
        refine h_if_eq (tgt := 51) hC dX7_blame_38 (by decide) (fun c60 => ?_) (fun c60 => ?_)
        · exact h_vret hC hr ho rfl rfl ⟨S, hi, gKp.rf, gSm.rf, Nat.le_refl _⟩ dX7_blame_51
        · exact absurd rfl c60
    · refine h_iload_n hC dX7_blame_16 rfl ?_
      refine h_aload_n hC dX7_blame_17 rfl ?_
      refine h_get hC fl_X7_43 (hi.1.o 1 (by decide)) rfl dX7_blame_18 ?_
      refine h_icmp_ge (tgt := 28) hC dX7_blame_21 (by decide) (fun c61 => ?_) (fun c61 => ?_)
      · refine h_iconst (v := 0) hC dX7_blame_28 rfl ?_
        refine h_istore_n (lv' := [some (.ref (gO' Y 1)), some (.int x), some (.int y), some (.int 0)]) hC dX7_blame_29 (Nat.le_of_ble_eq_true rfl) rfl rfl ?_
        refine h_aload_n hC dX7_blame_30 rfl ?_
        refine h_get hC fl_X7_43 (hi.1.o 1 (by decide)) rfl dX7_blame_31 ?_
        refine h_if_eq (tgt := 41) hC dX7_blame_34 (by decide) (fun c62 => ?_) (fun c62 => ?_)
        · refine h_aload_n hC dX7_blame_41 rfl ?_
          refine h_iload_n hC dX7_blame_42 rfl ?_
          refine hi_putx (i := 1) (kx := 4) hC hi (by decide) fl_X7_43 rfl rfl rfl (Nat.le_of_ble_eq_true rfl) rfl gsame_4 (fun q => absurd q (by decide)) dX7_blame_43 (fun F63 S64 I65 K66 s67 v68 p69 => ?_)
          have m70 : gSm S S64 [] [4, 5] := gSm.wk s67 _ _ rfl rfl
          refine h_aload_n hC dX7_blame_46 rfl ?_
          refine h_iload_n hC dX7_blame_47 rfl ?_
          refine hi_putx (i := 1) (kx := 5) hC I65 (by decide) fl_X7_46 rfl rfl rfl (Nat.le_of_ble_eq_true rfl) rfl gsame_5 (fun q => absurd q (by decide)) dX7_blame_48 (fun F72 S73 I74 K75 s76 v77 p78 => ?_)
          have m79 : gSm S S73 [] [4, 5] := m70.tr s76 _ _ rfl rfl
          have K80 := K66.tr K75
          exact h_vret hC hr ho rfl rfl ⟨S73, I74, K80, m79, by omega⟩ dX7_blame_51
        · refine h_iload_n hC dX7_blame_37 rfl ?_
          refine h_if_eq (tgt := 51) hC dX7_blame_38 (by decide) (fun c81 => ?_) (fun c81 => ?_)
          · exact h_vret hC hr ho rfl rfl ⟨S, hi, gKp.rf, gSm.rf, Nat.le_refl _⟩ dX7_blame_51
          · exact absurd rfl c81
      · refine h_iconst (v := 1) hC dX7_blame_24 rfl ?_
        refine h_goto (tgt := 29) hC dX7_blame_25 (by decide) ?_
        refine h_istore_n (lv' := [some (.ref (gO' Y 1)), some (.int x), some (.int y), some (.int 1)]) hC dX7_blame_29 (Nat.le_of_ble_eq_true rfl) rfl rfl ?_
        refine h_aload_n hC dX7_blame_30 rfl ?_
        refine h_get hC fl_X7_43 (hi.1.o 1 (by decide)) rfl dX7_blame_31 ?_
        refine h_if_eq (tgt := 41) hC dX7_blame_34 (by decide) (fun c82 => ?_) (fun c82 => ?_)
        · refine h_aload_n hC dX7_blame_41 rfl ?_
          refine h_iload_n hC dX7_blame_42 rfl ?_
          refine hi_putx (i := 1) (kx := 4) hC hi (by decide) fl_X7_43 rfl rfl rfl (Nat.le_of_ble_eq_true rfl) rfl gsame_4 (fun q => absurd q (by decide)) dX7_blame_43 (fun F83 S84 I85 K86 s87 v88 p89 => ?_)
          have m90 : gSm S S84 [] [4, 5] := gSm.wk s87 _ _ rfl rfl
          refine h_aload_n hC dX7_blame_46 rfl ?_
          refine h_iload_n hC dX7_blame_47 rfl ?_
          refine hi_putx (i := 1) (kx := 5) hC I85 (by decide) fl_X7_46 rfl rfl rfl (Nat.le_of_ble_eq_true rfl) rfl gsame_5 (fun q => absurd q (by decide)) dX7_blame_48 (fun F92 S93 I94 K95 s96 v97 p98 => ?_)
          have m99 : gSm S S93 [] [4, 5] := m90.tr s96 _ _ rfl rfl
          have K100 := K86.tr K95
          exact h_vret hC hr ho rfl rfl ⟨S93, I94, K100, m99, by omega⟩ dX7_blame_51
        · refine h_iload_n hC dX7_blame_37 rfl ?_
          refine h_if_eq (tgt := 51) hC dX7_blame_38 (by decide) (fun c101 => ?_) (fun c101 => ?_)
          · exact absurd c101 (by decide)
          · refine h_aload_n hC dX7_blame_41 rfl ?_
            refine h_iload_n hC dX7_blame_42 rfl ?_
            refine hi_putx (i := 1) (kx := 4) hC hi (by decide) fl_X7_43 rfl rfl rfl (Nat.le_of_ble_eq_true rfl) rfl gsame_4 (fun q => absurd q (by decide)) dX7_blame_43 (fun F102 S103 I104 K105 s106 v107 p108 => ?_)
            have m109 : gSm S S103 [] [4, 5] := gSm.wk s106 _ _ rfl rfl
            refine h_aload_n hC dX7_blame_46 rfl ?_
            refine h_iload_n hC dX7_blame_47 rfl ?_
            refine hi_putx (i := 1) (kx := 5) hC I104 (by decide) fl_X7_46 rfl rfl rfl (Nat.le_of_ble_eq_true rfl) rfl gsame_5 (fun q => absurd q (by decide)) dX7_blame_48 (fun F111 S112 I113 K114 s115 v116 p117 => ?_)
            have m118 : gSm S S112 [] [4, 5] := m109.tr s115 _ _ rfl rfl
            have K119 := K105.tr K114
            exact h_vret hC hr ho rfl rfl ⟨S112, I113, K119, m118, by omega⟩ dX7_blame_51
theorem dX7_setStarter_0 : decode cX7_setStarter 0 = .ok (.aload_n 0, 1) := by decide +kernel
theorem dX7_setStarter_1 : decode cX7_setStarter 1 = .ok (.getfield 40, 3) := by decide +kernel
theorem dX7_setStarter_4 : decode cX7_setStarter 4 = .ok (.ifCond .ge 8, 3) := by decide +kernel
theorem dX7_setStarter_7 : decode cX7_setStarter 7 = .ok (.aload_n 0, 1) := by decide +kernel
theorem dX7_setStarter_8 : decode cX7_setStarter 8 = .ok (.iload_n 1, 1) := by decide +kernel
theorem dX7_setStarter_9 : decode cX7_setStarter 9 = .ok (.putfield 40, 3) := by decide +kernel
theorem dX7_setStarter_12 : decode cX7_setStarter 12 = .ok (.return_, 1) := by decide +kernel
set_option maxHeartbeats 4000000 in
set_option maxRecDepth 100000 in
theorem s_P_setStarter (l : Launch) (d : gD) (b : Nat) (Y : gYt) (c : Nat × Nat) (F : gM) (k n : Nat) {S : gSt} (hi : hI d b Y c (F, k, n) S) (x : Int32) : hMv l d b yX7_setStarter cX7_setStarter 2 1 k n F [.ref (gO' Y 1), .int x] (fun u => ∃ S', hI d b Y c u S' ∧ gKp Y F u.1 ∧ gSm S S' [] [3] ∧ gPsi S' ≤ gPsi S) := by
  intro mc ms
  refine hM_of2 rfl (nL := 2) (Nat.le_of_ble_eq_true rfl) ?_
  intro X hX hC hr ho; subst hX
  show hG X d b _ F k n 0 [some (.ref (gO' Y 1)), some (.int x)] []
  refine h_aload_n hC dX7_setStarter_0 rfl ?_
  refine h_get hC fl_X7_40 (hi.1.o 1 (by decide)) rfl dX7_setStarter_1 ?_
  refine h_if_ge (tgt := 12) hC dX7_setStarter_4 (by decide) (fun c1 => ?_) (fun c1 => ?_)
  · exact h_vret hC hr ho rfl rfl ⟨S, hi, gKp.rf, gSm.rf, Nat.le_refl _⟩ dX7_setStarter_12
  · refine h_aload_n hC dX7_setStarter_7 rfl ?_
    refine h_iload_n hC dX7_setStarter_8 rfl ?_
    refine hi_putx (i := 1) (kx := 3) hC hi (by decide) fl_X7_40 rfl rfl rfl (Nat.le_of_ble_eq_true rfl) rfl gsame_3 (fun q => absurd q (by decide)) dX7_setStarter_9 (fun F2 S3 I4 K5 s6 v7 p8 => ?_)
    have m9 : gSm S S3 [] [3] := gSm.wk s6 _ _ rfl rfl
    exact h_vret hC hr ho rfl rfl ⟨S3, I4, K5, m9, by omega⟩ dX7_setStarter_12
theorem dX7_land_0 : decode cX7_land 0 = .ok (.iload_n 1, 1) := by decide +kernel
theorem dX7_land_1 : decode cX7_land 1 = .ok (.istore_n 2, 1) := by decide +kernel
theorem dX7_land_2 : decode cX7_land 2 = .ok (.iconst 0, 1) := by decide +kernel
theorem dX7_land_3 : decode cX7_land 3 = .ok (.istore_n 3, 1) := by decide +kernel
theorem dX7_land_4 : decode cX7_land 4 = .ok (.iload_n 3, 1) := by decide +kernel
theorem dX7_land_5 : decode cX7_land 5 = .ok (.ldc 11, 2) := by decide +kernel
theorem dX7_land_7 : decode cX7_land 7 = .ok (.if_icmp .ge 38, 3) := by decide +kernel
theorem dX7_land_10 : decode cX7_land 10 = .ok (.iload_n 2, 1) := by decide +kernel
theorem dX7_land_11 : decode cX7_land 11 = .ok (.ifCond .le 34, 3) := by decide +kernel
theorem dX7_land_14 : decode cX7_land 14 = .ok (.aload_n 0, 1) := by decide +kernel
theorem dX7_land_15 : decode cX7_land 15 = .ok (.getfield 15, 3) := by decide +kernel
theorem dX7_land_18 : decode cX7_land 18 = .ok (.iload_n 2, 1) := by decide +kernel
theorem dX7_land_19 : decode cX7_land 19 = .ok (.invokevirtual 70, 3) := by decide +kernel
theorem dX7_land_22 : decode cX7_land 22 = .ok (.istore 4, 2) := by decide +kernel
theorem dX7_land_24 : decode cX7_land 24 = .ok (.aload_n 0, 1) := by decide +kernel
theorem dX7_land_25 : decode cX7_land 25 = .ok (.getfield 15, 3) := by decide +kernel
theorem dX7_land_28 : decode cX7_land 28 = .ok (.iload_n 2, 1) := by decide +kernel
theorem dX7_land_29 : decode cX7_land 29 = .ok (.aload_n 0, 1) := by decide +kernel
theorem dX7_land_30 : decode cX7_land 30 = .ok (.invokevirtual 84, 3) := by decide +kernel
theorem dX7_land_33 : decode cX7_land 33 = .ok (.invokevirtual 78, 3) := by decide +kernel
theorem dX7_land_36 : decode cX7_land 36 = .ok (.iload 4, 2) := by decide +kernel
theorem dX7_land_38 : decode cX7_land 38 = .ok (.istore_n 2, 1) := by decide +kernel
theorem dX7_land_39 : decode cX7_land 39 = .ok (.iinc 3 1, 3) := by decide +kernel
theorem dX7_land_42 : decode cX7_land 42 = .ok (.goto (-38), 3) := by decide +kernel
theorem dX7_land_45 : decode cX7_land 45 = .ok (.return_, 1) := by decide +kernel
set_option maxHeartbeats 4000000 in
set_option maxRecDepth 100000 in
theorem s_P_land (l : Launch) (d : gD) (b : Nat) (Y : gYt) (c : Nat × Nat) (F : gM) (k n : Nat) {S : gSt} (hi : hI d b Y c (F, k, n) S) (x : Int32) : hMv l d b yX7_land cX7_land 5 3 k n F [.ref (gO' Y 1), .int x] (fun u => ∃ S', hI d b Y c u S' ∧ gKp Y F u.1 ∧ gSm S S' [1] [] ∧ gPsi S' ≤ gPsi S) := by
  intro mc ms
  refine hM_of2 rfl (nL := 5) (Nat.le_of_ble_eq_true rfl) ?_
  intro X hX hC hr ho; subst hX
  show hG X d b _ F k n 0 [some (.ref (gO' Y 1)), some (.int x), none, none, none] []
  refine h_iload_n hC dX7_land_0 rfl ?_
  refine h_istore_n (lv' := [some (.ref (gO' Y 1)), some (.int x), some (.int x), none, none]) hC dX7_land_1 (Nat.le_of_ble_eq_true rfl) rfl rfl ?_
  refine h_iconst (v := 0) hC dX7_land_2 rfl ?_
  refine h_istore_n (lv' := [some (.ref (gO' Y 1)), some (.int x), some (.int x), some (.int 0), none]) hC dX7_land_3 (Nat.le_of_ble_eq_true rfl) rfl rfl ?_
  have L1 : ∀ (m2 j3 : Nat), j3 + m2 = 1000000 → ∀ (u7 : hU) (S8 : gSt) (x6 : Int32), hI d b Y c u7 S8 → hOk X b u7.2.1 u7.2.2 → gKp Y F u7.1 → gSm S S8 [1] [] → (gPsi S8 ≤ gPsi S) → hG X d b (MQ X.be (va_Qv (fun u => ∃ S', hI d b Y c u S' ∧ gKp Y F u.1 ∧ gSm S S' [1] [] ∧ gPsi S' ≤ gPsi S) (hB d b) (fun q => b ≤ q)) X.ar X.st mc ms (fun q => b ≤ q)) u7.1 u7.2.1 u7.2.2 4 [some (.ref (gO' Y 1)), none, some (.int x6), some (.int (nI j3)), none] [] := by
    intro m2
    refine Nat.strongRecOn m2 (fun m2 ih4 j3 hj5 u7 S8 x6 I9 o10 K11 m12 hp => ?_)
    refine h_iload_n hC dX7_land_4 rfl ?_
    refine h_ldc hC dX7_land_5 kw_296 ?_
    refine h_icmp_ge (tgt := 45) hC dX7_land_7 (by decide) (fun c13 => ?_) (fun c13 => ?_)
    · exact h_vret hC hr o10 rfl rfl ⟨S8, I9, K11, m12, by omega⟩ dX7_land_45
    · have hlt : j3 < 1000000 := nI_ltN (Nat.le_of_lt_succ (by omega)) c13
      refine h_iload_n hC dX7_land_10 rfl ?_
      refine h_if_le (tgt := 45) hC dX7_land_11 (by decide) (fun c14 => ?_) (fun c14 => ?_)
      · exact h_vret hC hr o10 rfl rfl ⟨S8, I9, K11, m12, by omega⟩ dX7_land_45
      · refine h_aload_n hC dX7_land_14 rfl ?_
        refine h_get hC fl_X7_15 (I9.1.o 1 (by decide)) rfl dX7_land_15 ?_
        refine h_iload_n hC dX7_land_18 rfl ?_
        refine hi_get (j := 1) hC hr o10 I9.1 (by decide) cl_X7_70 rfl (Nat.le_of_ble_eq_true rfl) (hFr_of (Nat.le_of_ble_eq_true rfl) (Nat.le_of_ble_eq_true rfl)) dX7_land_19 ?_
        refine h_vi (fun x15 ex15 => ?_)
        refine h_istore (lv' := [some (.ref (gO' Y 1)), none, some (.int x6), some (.int (nI j3)), some (.int x15)]) hC dX7_land_22 (Nat.le_of_ble_eq_true rfl) rfl rfl ?_
        refine h_aload_n hC dX7_land_24 rfl ?_
        refine h_get hC fl_X7_15 (I9.1.o 1 (by decide)) rfl dX7_land_25 ?_
        refine h_iload_n hC dX7_land_28 rfl ?_
        refine h_aload_n hC dX7_land_29 rfl ?_
        refine g_callVi (As := []) hC rfl (I9.1.o 1 (by decide)) (p_P_here X.la d b Y _ S8 I9.1 ) cl_X7_84 rfl rfl (Nat.le_of_ble_eq_true rfl) (h_fit0 hC hr o10 (hFr_of (Nat.le_of_ble_eq_true rfl) (Nat.le_of_ble_eq_true rfl))) dX7_land_30 (fun r16 F17 p18 => ?_)
        obtain ⟨er16, eF17⟩ := p18; have eF17 := eF17.symm; subst eF17
        refine h_same hC o10 ?_
        subst er16
        refine hi_set (j := 1) hC hr o10 I9 (by decide) cl_X7_78 rfl (Nat.le_of_ble_eq_true rfl) (hFr_of (Nat.le_of_ble_eq_true rfl) (Nat.le_of_ble_eq_true rfl)) dX7_land_33 (fun F20 S21 I22 K23 s24 a25 => ?_)
        have m26 : gSm S S21 [1] [] := m12.tr s24 _ _ rfl rfl
        have K27 := K11.tr K23
        have Pa25 : gPsi S21 ≤ gPsi S8 := a25.2.2.2.2
        refine h_iload hC dX7_land_36 rfl ?_
        refine h_istore_n (lv' := [some (.ref (gO' Y 1)), none, some (.int x15), some (.int (nI j3)), some (.int x15)]) hC dX7_land_38 (Nat.le_of_ble_eq_true rfl) rfl rfl ?_
        obtain ⟨x28, ex28⟩ : ∃ y : Int32, y = (nI j3) + 1 := ⟨_, rfl⟩
        refine h_iinc (v := x28) (lv' := [some (.ref (gO' Y 1)), none, some (.int x15), some (.int x28), some (.int x15)]) hC dX7_land_39 rfl (by rw [ex28]; rfl) rfl rfl ?_
        refine h_goto (tgt := 4) hC dX7_land_42 (by decide) ?_
        have zJx28 : x28 = nI (j3 + 1) := by rw [ex28]; exact nI_suc
        subst zJx28
        refine h_lv (lv' := [some (.ref (gO' Y 1)), none, some (.int x15), some (.int (nI (j3 + 1))), none]) (by repeat (first | exact trivial | refine ⟨rfl, ?_⟩ | exact trivial)) ?_
        exact ih4 (m2 - 1) (by omega) (j3 + 1) (by omega) _ S21 x15 I22 o10 K27 m26 (by omega)
  refine h_lv (lv' := [some (.ref (gO' Y 1)), none, some (.int x), some (.int 0), none]) (by repeat (first | exact trivial | refine ⟨rfl, ?_⟩ | exact trivial)) ?_
  exact L1 (1000000 - 0) 0 (by omega) (F, k, n) S x hi ho gKp.rf gSm.rf (Nat.le_refl _)
theorem dX7_landAt_0 : decode cX7_landAt 0 = .ok (.iload_n 1, 1) := by decide +kernel
theorem dX7_landAt_1 : decode cX7_landAt 1 = .ok (.istore_n 3, 1) := by decide +kernel
theorem dX7_landAt_2 : decode cX7_landAt 2 = .ok (.iconst 0, 1) := by decide +kernel
theorem dX7_landAt_3 : decode cX7_landAt 3 = .ok (.istore 4, 2) := by decide +kernel
theorem dX7_landAt_5 : decode cX7_landAt 5 = .ok (.iload 4, 2) := by decide +kernel
theorem dX7_landAt_7 : decode cX7_landAt 7 = .ok (.ldc 11, 2) := by decide +kernel
theorem dX7_landAt_9 : decode cX7_landAt 9 = .ok (.if_icmp .ge 35, 3) := by decide +kernel
theorem dX7_landAt_12 : decode cX7_landAt 12 = .ok (.iload_n 3, 1) := by decide +kernel
theorem dX7_landAt_13 : decode cX7_landAt 13 = .ok (.ifCond .le 31, 3) := by decide +kernel
theorem dX7_landAt_16 : decode cX7_landAt 16 = .ok (.aload_n 0, 1) := by decide +kernel
theorem dX7_landAt_17 : decode cX7_landAt 17 = .ok (.getfield 15, 3) := by decide +kernel
theorem dX7_landAt_20 : decode cX7_landAt 20 = .ok (.iload_n 3, 1) := by decide +kernel
theorem dX7_landAt_21 : decode cX7_landAt 21 = .ok (.invokevirtual 70, 3) := by decide +kernel
theorem dX7_landAt_24 : decode cX7_landAt 24 = .ok (.istore 5, 2) := by decide +kernel
theorem dX7_landAt_26 : decode cX7_landAt 26 = .ok (.aload_n 0, 1) := by decide +kernel
theorem dX7_landAt_27 : decode cX7_landAt 27 = .ok (.getfield 15, 3) := by decide +kernel
theorem dX7_landAt_30 : decode cX7_landAt 30 = .ok (.iload_n 3, 1) := by decide +kernel
theorem dX7_landAt_31 : decode cX7_landAt 31 = .ok (.iload_n 2, 1) := by decide +kernel
theorem dX7_landAt_32 : decode cX7_landAt 32 = .ok (.invokevirtual 78, 3) := by decide +kernel
theorem dX7_landAt_35 : decode cX7_landAt 35 = .ok (.iload 5, 2) := by decide +kernel
theorem dX7_landAt_37 : decode cX7_landAt 37 = .ok (.istore_n 3, 1) := by decide +kernel
theorem dX7_landAt_38 : decode cX7_landAt 38 = .ok (.iinc 4 1, 3) := by decide +kernel
theorem dX7_landAt_41 : decode cX7_landAt 41 = .ok (.goto (-36), 3) := by decide +kernel
theorem dX7_landAt_44 : decode cX7_landAt 44 = .ok (.return_, 1) := by decide +kernel
set_option maxHeartbeats 4000000 in
set_option maxRecDepth 100000 in
theorem s_P_landAt (l : Launch) (d : gD) (b : Nat) (Y : gYt) (c : Nat × Nat) (F : gM) (k n : Nat) {S : gSt} (hi : hI d b Y c (F, k, n) S) (x y : Int32) : hMv l d b yX7_landAt cX7_landAt 6 3 k n F [.ref (gO' Y 1), .int x, .int y] (fun u => ∃ S', hI d b Y c u S' ∧ gKp Y F u.1 ∧ gSm S S' [1] [] ∧ gPsi S' ≤ gPsi S) := by
  intro mc ms
  refine hM_of2 rfl (nL := 6) (Nat.le_of_ble_eq_true rfl) ?_
  intro X hX hC hr ho; subst hX
  show hG X d b _ F k n 0 [some (.ref (gO' Y 1)), some (.int x), some (.int y), none, none, none] []
  refine h_iload_n hC dX7_landAt_0 rfl ?_
  refine h_istore_n (lv' := [some (.ref (gO' Y 1)), some (.int x), some (.int y), some (.int x), none, none]) hC dX7_landAt_1 (Nat.le_of_ble_eq_true rfl) rfl rfl ?_
  refine h_iconst (v := 0) hC dX7_landAt_2 rfl ?_
  refine h_istore (lv' := [some (.ref (gO' Y 1)), some (.int x), some (.int y), some (.int x), some (.int 0), none]) hC dX7_landAt_3 (Nat.le_of_ble_eq_true rfl) rfl rfl ?_
  have L1 : ∀ (m2 j3 : Nat), j3 + m2 = 1000000 → ∀ (u7 : hU) (S8 : gSt) (x6 : Int32), hI d b Y c u7 S8 → hOk X b u7.2.1 u7.2.2 → gKp Y F u7.1 → gSm S S8 [1] [] → (gPsi S8 ≤ gPsi S) → hG X d b (MQ X.be (va_Qv (fun u => ∃ S', hI d b Y c u S' ∧ gKp Y F u.1 ∧ gSm S S' [1] [] ∧ gPsi S' ≤ gPsi S) (hB d b) (fun q => b ≤ q)) X.ar X.st mc ms (fun q => b ≤ q)) u7.1 u7.2.1 u7.2.2 5 [some (.ref (gO' Y 1)), none, some (.int y), some (.int x6), some (.int (nI j3)), none] [] := by
    intro m2
    refine Nat.strongRecOn m2 (fun m2 ih4 j3 hj5 u7 S8 x6 I9 o10 K11 m12 hp => ?_)
    refine h_iload hC dX7_landAt_5 rfl ?_
    refine h_ldc hC dX7_landAt_7 kw_296 ?_
    refine h_icmp_ge (tgt := 44) hC dX7_landAt_9 (by decide) (fun c13 => ?_) (fun c13 => ?_)
    · exact h_vret hC hr o10 rfl rfl ⟨S8, I9, K11, m12, by omega⟩ dX7_landAt_44
    · have hlt : j3 < 1000000 := nI_ltN (Nat.le_of_lt_succ (by omega)) c13
      refine h_iload_n hC dX7_landAt_12 rfl ?_
      refine h_if_le (tgt := 44) hC dX7_landAt_13 (by decide) (fun c14 => ?_) (fun c14 => ?_)
      · exact h_vret hC hr o10 rfl rfl ⟨S8, I9, K11, m12, by omega⟩ dX7_landAt_44
      · refine h_aload_n hC dX7_landAt_16 rfl ?_
        refine h_get hC fl_X7_15 (I9.1.o 1 (by decide)) rfl dX7_landAt_17 ?_
        refine h_iload_n hC dX7_landAt_20 rfl ?_
        refine hi_get (j := 1) hC hr o10 I9.1 (by decide) cl_X7_70 rfl (Nat.le_of_ble_eq_true rfl) (hFr_of (Nat.le_of_ble_eq_true rfl) (Nat.le_of_ble_eq_true rfl)) dX7_landAt_21 ?_
        refine h_vi (fun x15 ex15 => ?_)
        refine h_istore (lv' := [some (.ref (gO' Y 1)), none, some (.int y), some (.int x6), some (.int (nI j3)), some (.int x15)]) hC dX7_landAt_24 (Nat.le_of_ble_eq_true rfl) rfl rfl ?_
        refine h_aload_n hC dX7_landAt_26 rfl ?_
        refine h_get hC fl_X7_15 (I9.1.o 1 (by decide)) rfl dX7_landAt_27 ?_
        refine h_iload_n hC dX7_landAt_30 rfl ?_
        refine h_iload_n hC dX7_landAt_31 rfl ?_
        refine hi_set (j := 1) hC hr o10 I9 (by decide) cl_X7_78 rfl (Nat.le_of_ble_eq_true rfl) (hFr_of (Nat.le_of_ble_eq_true rfl) (Nat.le_of_ble_eq_true rfl)) dX7_landAt_32 (fun F16 S17 I18 K19 s20 a21 => ?_)
        have m22 : gSm S S17 [1] [] := m12.tr s20 _ _ rfl rfl
        have K23 := K11.tr K19
        have Pa21 : gPsi S17 ≤ gPsi S8 := a21.2.2.2.2
        refine h_iload hC dX7_landAt_35 rfl ?_
        refine h_istore_n (lv' := [some (.ref (gO' Y 1)), none, some (.int y), some (.int x15), some (.int (nI j3)), some (.int x15)]) hC dX7_landAt_37 (Nat.le_of_ble_eq_true rfl) rfl rfl ?_
        obtain ⟨x24, ex24⟩ : ∃ y : Int32, y = (nI j3) + 1 := ⟨_, rfl⟩
        refine h_iinc (v := x24) (lv' := [some (.ref (gO' Y 1)), none, some (.int y), some (.int x15), some (.int x24), some (.int x15)]) hC dX7_landAt_38 rfl (by rw [ex24]; rfl) rfl rfl ?_
        refine h_goto (tgt := 5) hC dX7_landAt_41 (by decide) ?_
        have zJx24 : x24 = nI (j3 + 1) := by rw [ex24]; exact nI_suc
        subst zJx24
        refine h_lv (lv' := [some (.ref (gO' Y 1)), none, some (.int y), some (.int x15), some (.int (nI (j3 + 1))), none]) (by repeat (first | exact trivial | refine ⟨rfl, ?_⟩ | exact trivial)) ?_
        exact ih4 (m2 - 1) (by omega) (j3 + 1) (by omega) _ S17 x15 I18 o10 K23 m22 (by omega)
  refine h_lv (lv' := [some (.ref (gO' Y 1)), none, some (.int y), some (.int x), some (.int 0), none]) (by repeat (first | exact trivial | refine ⟨rfl, ?_⟩ | exact trivial)) ?_
  exact L1 (1000000 - 0) 0 (by omega) (F, k, n) S x hi ho gKp.rf gSm.rf (Nat.le_refl _)
theorem dX7_setBegin_0 : decode cX7_setBegin 0 = .ok (.aload_n 0, 1) := by decide +kernel
theorem dX7_setBegin_1 : decode cX7_setBegin 1 = .ok (.getfield 27, 3) := by decide +kernel
theorem dX7_setBegin_4 : decode cX7_setBegin 4 = .ok (.iload_n 1, 1) := by decide +kernel
theorem dX7_setBegin_5 : decode cX7_setBegin 5 = .ok (.aload_n 0, 1) := by decide +kernel
theorem dX7_setBegin_6 : decode cX7_setBegin 6 = .ok (.invokevirtual 84, 3) := by decide +kernel
theorem dX7_setBegin_9 : decode cX7_setBegin 9 = .ok (.invokevirtual 78, 3) := by decide +kernel
theorem dX7_setBegin_12 : decode cX7_setBegin 12 = .ok (.aload_n 0, 1) := by decide +kernel
theorem dX7_setBegin_13 : decode cX7_setBegin 13 = .ok (.getfield 33, 3) := by decide +kernel
theorem dX7_setBegin_16 : decode cX7_setBegin 16 = .ok (.iload_n 1, 1) := by decide +kernel
theorem dX7_setBegin_17 : decode cX7_setBegin 17 = .ok (.iload_n 2, 1) := by decide +kernel
theorem dX7_setBegin_18 : decode cX7_setBegin 18 = .ok (.invokevirtual 78, 3) := by decide +kernel
theorem dX7_setBegin_21 : decode cX7_setBegin 21 = .ok (.return_, 1) := by decide +kernel
set_option maxHeartbeats 4000000 in
set_option maxRecDepth 100000 in
theorem s_P_setBegin (l : Launch) (d : gD) (b : Nat) (Y : gYt) (c : Nat × Nat) (F : gM) (k n : Nat) {S : gSt} (hi : hI d b Y c (F, k, n) S) (x y : Int32) : hMv l d b yX7_setBegin cX7_setBegin 3 3 k n F [.ref (gO' Y 1), .int x, .int y] (fun u => ∃ S', hI d b Y c u S' ∧ gKp Y F u.1 ∧ gSm S S' [4, 6] [] ∧ gPsi S' ≤ gPsi S) := by
  intro mc ms
  refine hM_of2 rfl (nL := 3) (Nat.le_of_ble_eq_true rfl) ?_
  intro X hX hC hr ho; subst hX
  show hG X d b _ F k n 0 [some (.ref (gO' Y 1)), some (.int x), some (.int y)] []
  refine h_aload_n hC dX7_setBegin_0 rfl ?_
  refine h_get hC fl_X7_27 (hi.1.o 1 (by decide)) rfl dX7_setBegin_1 ?_
  refine h_iload_n hC dX7_setBegin_4 rfl ?_
  refine h_aload_n hC dX7_setBegin_5 rfl ?_
  refine g_callVi (As := []) hC rfl (hi.1.o 1 (by decide)) (p_P_here X.la d b Y _ S hi.1 ) cl_X7_84 rfl rfl (Nat.le_of_ble_eq_true rfl) (h_fit0 hC hr ho (hFr_of (Nat.le_of_ble_eq_true rfl) (Nat.le_of_ble_eq_true rfl))) dX7_setBegin_6 (fun r1 F2 p3 => ?_)
  obtain ⟨er1, eF2⟩ := p3; have eF2 := eF2.symm; subst eF2
  refine h_same hC ho ?_
  subst er1
  refine hi_set (j := 4) hC hr ho hi (by decide) cl_X7_78 rfl (Nat.le_of_ble_eq_true rfl) (hFr_of (Nat.le_of_ble_eq_true rfl) (Nat.le_of_ble_eq_true rfl)) dX7_setBegin_9 (fun F5 S6 I7 K8 s9 a10 => ?_)
  have m11 : gSm S S6 [4, 6] [] := gSm.wk s9 _ _ rfl rfl
  have Pa10 : gPsi S6 ≤ gPsi S := a10.2.2.2.2
  refine h_aload_n hC dX7_setBegin_12 rfl ?_
  refine h_get hC fl_X7_33 (I7.1.o 1 (by decide)) rfl dX7_setBegin_13 ?_
  refine h_iload_n hC dX7_setBegin_16 rfl ?_
  refine h_iload_n hC dX7_setBegin_17 rfl ?_
  refine hi_set (j := 6) hC hr ho I7 (by decide) cl_X7_78 rfl (Nat.le_of_ble_eq_true rfl) (hFr_of (Nat.le_of_ble_eq_true rfl) (Nat.le_of_ble_eq_true rfl)) dX7_setBegin_18 (fun F13 S14 I15 K16 s17 a18 => ?_)
  have m19 : gSm S S14 [4, 6] [] := m11.tr s17 _ _ rfl rfl
  have K20 := K8.tr K16
  have Pa18 : gPsi S14 ≤ gPsi S6 := a18.2.2.2.2
  exact h_vret hC hr ho rfl rfl ⟨S14, I15, K20, m19, by omega⟩ dX7_setBegin_21
theorem dX7_addRoutine_0 : decode cX7_addRoutine 0 = .ok (.aload_n 0, 1) := by decide +kernel
theorem dX7_addRoutine_1 : decode cX7_addRoutine 1 = .ok (.getfield 24, 3) := by decide +kernel
theorem dX7_addRoutine_4 : decode cX7_addRoutine 4 = .ok (.invokevirtual 67, 3) := by decide +kernel
theorem dX7_addRoutine_7 : decode cX7_addRoutine 7 = .ok (.istore_n 2, 1) := by decide +kernel
theorem dX7_addRoutine_8 : decode cX7_addRoutine 8 = .ok (.aload_n 0, 1) := by decide +kernel
theorem dX7_addRoutine_9 : decode cX7_addRoutine 9 = .ok (.getfield 24, 3) := by decide +kernel
theorem dX7_addRoutine_12 : decode cX7_addRoutine 12 = .ok (.iload_n 1, 1) := by decide +kernel
theorem dX7_addRoutine_13 : decode cX7_addRoutine 13 = .ok (.ifCond .eq 14, 3) := by decide +kernel
theorem dX7_addRoutine_16 : decode cX7_addRoutine 16 = .ok (.aload_n 0, 1) := by decide +kernel
theorem dX7_addRoutine_17 : decode cX7_addRoutine 17 = .ok (.ldc 11, 2) := by decide +kernel
theorem dX7_addRoutine_19 : decode cX7_addRoutine 19 = .ok (.iload_n 2, 1) := by decide +kernel
theorem dX7_addRoutine_20 : decode cX7_addRoutine 20 = .ok (.iadd, 1) := by decide +kernel
theorem dX7_addRoutine_21 : decode cX7_addRoutine 21 = .ok (.invokevirtual 81, 3) := by decide +kernel
theorem dX7_addRoutine_24 : decode cX7_addRoutine 24 = .ok (.goto 4, 3) := by decide +kernel
theorem dX7_addRoutine_27 : decode cX7_addRoutine 27 = .ok (.iconst (-1), 1) := by decide +kernel
theorem dX7_addRoutine_28 : decode cX7_addRoutine 28 = .ok (.invokevirtual 56, 3) := by decide +kernel
theorem dX7_addRoutine_31 : decode cX7_addRoutine 31 = .ok (.aload_n 0, 1) := by decide +kernel
theorem dX7_addRoutine_32 : decode cX7_addRoutine 32 = .ok (.getfield 27, 3) := by decide +kernel
theorem dX7_addRoutine_35 : decode cX7_addRoutine 35 = .ok (.iconst 0, 1) := by decide +kernel
theorem dX7_addRoutine_36 : decode cX7_addRoutine 36 = .ok (.invokevirtual 56, 3) := by decide +kernel
theorem dX7_addRoutine_39 : decode cX7_addRoutine 39 = .ok (.aload_n 0, 1) := by decide +kernel
theorem dX7_addRoutine_40 : decode cX7_addRoutine 40 = .ok (.getfield 30, 3) := by decide +kernel
theorem dX7_addRoutine_43 : decode cX7_addRoutine 43 = .ok (.iconst 0, 1) := by decide +kernel
theorem dX7_addRoutine_44 : decode cX7_addRoutine 44 = .ok (.invokevirtual 56, 3) := by decide +kernel
theorem dX7_addRoutine_47 : decode cX7_addRoutine 47 = .ok (.aload_n 0, 1) := by decide +kernel
theorem dX7_addRoutine_48 : decode cX7_addRoutine 48 = .ok (.getfield 33, 3) := by decide +kernel
theorem dX7_addRoutine_51 : decode cX7_addRoutine 51 = .ok (.iconst 0, 1) := by decide +kernel
theorem dX7_addRoutine_52 : decode cX7_addRoutine 52 = .ok (.invokevirtual 56, 3) := by decide +kernel
theorem dX7_addRoutine_55 : decode cX7_addRoutine 55 = .ok (.iload_n 2, 1) := by decide +kernel
theorem dX7_addRoutine_56 : decode cX7_addRoutine 56 = .ok (.ireturn, 1) := by decide +kernel
set_option maxHeartbeats 4000000 in
set_option maxRecDepth 100000 in
theorem s_P_addRoutine (l : Launch) (d : gD) (b : Nat) (Y : gYt) (c : Nat × Nat) (F : gM) (k n : Nat) {S : gSt} (hi : hI d b Y c (F, k, n) S) (hA : gPsi S + 5 ≤ gAm) (x : Int32) : hMi l d b yX7_addRoutine cX7_addRoutine 3 .int 4 k n F [.ref (gO' Y 1), .int x] (fun r u => ∃ S', hI d b Y c u S' ∧ gKp Y F u.1 ∧ gSm S S' [2, 3, 4, 5, 6] [] ∧ gPsi S' ≤ gPsi S + 5) := by
  intro mc ms
  refine hM_of2 rfl (nL := 3) (Nat.le_of_ble_eq_true rfl) ?_
  intro X hX hC hr ho; subst hX
  show hG X d b _ F k n 0 [some (.ref (gO' Y 1)), some (.int x), none] []
  refine h_aload_n hC dX7_addRoutine_0 rfl ?_
  refine h_get hC fl_X7_24 (hi.1.o 1 (by decide)) rfl dX7_addRoutine_1 ?_
  refine hi_size (j := 3) hC hr ho hi.1 (by decide) cl_X7_67 rfl (Nat.le_of_ble_eq_true rfl) (hFr_of (Nat.le_of_ble_eq_true rfl) (Nat.le_of_ble_eq_true rfl)) dX7_addRoutine_4 ?_
  refine h_istore_n (lv' := [some (.ref (gO' Y 1)), some (.int x), some (.int (nI (sZ S 3)))]) hC dX7_addRoutine_7 (Nat.le_of_ble_eq_true rfl) rfl rfl ?_
  refine h_aload_n hC dX7_addRoutine_8 rfl ?_
  refine h_get hC fl_X7_24 (hi.1.o 1 (by decide)) rfl dX7_addRoutine_9 ?_
  refine h_iload_n hC dX7_addRoutine_12 rfl ?_
  refine h_if_eq (tgt := 27) hC dX7_addRoutine_13 (by decide) (fun c1 => ?_) (fun c1 => ?_)
  · refine h_iconst (v := (-1)) hC dX7_addRoutine_27 rfl ?_
    refine hi_add (j := 3) hC hr ho hi (by decide) ⟨fun _ => by omega, fun q => absurd q (by decide), by omega⟩ cl_X7_56 rfl (Nat.le_of_ble_eq_true rfl) (hFr_of (Nat.le_of_ble_eq_true rfl) (Nat.le_of_ble_eq_true rfl)) dX7_addRoutine_28 (fun u9 S3 I4 o8 K5 s6 a7 => ?_)
    have m10 : gSm S S3 [2, 3, 4, 5, 6] [] := gSm.wk s6 _ _ rfl rfl
    have Pa7 : gPsi S3 ≤ gPsi S + 1 := a7.2.2.1 ⟨by decide, by decide⟩
    refine h_aload_n hC dX7_addRoutine_31 rfl ?_
    refine h_get hC fl_X7_27 (I4.1.o 1 (by decide)) rfl dX7_addRoutine_32 ?_
    refine h_iconst (v := 0) hC dX7_addRoutine_35 rfl ?_
    refine hi_add (j := 4) hC hr o8 I4 (by decide) ⟨fun _ => by omega, fun q => absurd q (by decide), by omega⟩ cl_X7_56 rfl (Nat.le_of_ble_eq_true rfl) (hFr_of (Nat.le_of_ble_eq_true rfl) (Nat.le_of_ble_eq_true rfl)) dX7_addRoutine_36 (fun u19 S13 I14 o18 K15 s16 a17 => ?_)
    have m20 : gSm S S13 [2, 3, 4, 5, 6] [] := m10.tr s16 _ _ rfl rfl
    have K21 := K5.tr K15
    have Pa17 : gPsi S13 ≤ gPsi S3 + 1 := a17.2.2.1 ⟨by decide, by decide⟩
    refine h_aload_n hC dX7_addRoutine_39 rfl ?_
    refine h_get hC fl_X7_30 (I14.1.o 1 (by decide)) rfl dX7_addRoutine_40 ?_
    refine h_iconst (v := 0) hC dX7_addRoutine_43 rfl ?_
    refine hi_add (j := 5) hC hr o18 I14 (by decide) ⟨fun _ => by omega, fun q => absurd q (by decide), by omega⟩ cl_X7_56 rfl (Nat.le_of_ble_eq_true rfl) (hFr_of (Nat.le_of_ble_eq_true rfl) (Nat.le_of_ble_eq_true rfl)) dX7_addRoutine_44 (fun u29 S23 I24 o28 K25 s26 a27 => ?_)
    have m30 : gSm S S23 [2, 3, 4, 5, 6] [] := m20.tr s26 _ _ rfl rfl
    have K31 := K21.tr K25
    have Pa27 : gPsi S23 ≤ gPsi S13 + 1 := a27.2.2.1 ⟨by decide, by decide⟩
    refine h_aload_n hC dX7_addRoutine_47 rfl ?_
    refine h_get hC fl_X7_33 (I24.1.o 1 (by decide)) rfl dX7_addRoutine_48 ?_
    refine h_iconst (v := 0) hC dX7_addRoutine_51 rfl ?_
    refine hi_add (j := 6) hC hr o28 I24 (by decide) ⟨fun _ => by omega, fun q => absurd q (by decide), by omega⟩ cl_X7_56 rfl (Nat.le_of_ble_eq_true rfl) (hFr_of (Nat.le_of_ble_eq_true rfl) (Nat.le_of_ble_eq_true rfl)) dX7_addRoutine_52 (fun u39 S33 I34 o38 K35 s36 a37 => ?_)
    have m40 : gSm S S33 [2, 3, 4, 5, 6] [] := m30.tr s36 _ _ rfl rfl
    have K41 := K31.tr K35
    have Pa37 : gPsi S33 ≤ gPsi S23 + 1 := a37.2.2.1 ⟨by decide, by decide⟩
    refine h_iload_n hC dX7_addRoutine_55 rfl ?_
    exact h_iret hC hr o38 rfl rfl rfl ⟨S33, I34, K41, m40, by omega⟩ dX7_addRoutine_56
  · refine h_aload_n hC dX7_addRoutine_16 rfl ?_
    refine h_ldc hC dX7_addRoutine_17 kw_296 ?_
    refine h_iload_n hC dX7_addRoutine_19 rfl ?_
    refine h_iadd hC dX7_addRoutine_20 ?_
    refine h_vi (fun x42 ex42 => ?_)
    refine h_callVi (As := [.int x42]) hC hr ho rfl (hi.1.o 1 (by decide)) (s_P_addWord X.la d b Y c _ _ _ hi (by omega) x42) cl_X7_81 rfl rfl (Nat.le_of_ble_eq_true rfl) (hFr_of (Nat.le_of_ble_eq_true rfl) (Nat.le_of_ble_eq_true rfl)) dX7_addRoutine_21 (fun r46 u43 p44 o45 => ?_)
    obtain ⟨S47, I48, K49, s50, q51⟩ := p44
    have m52 : gSm S S47 [2, 3, 4, 5, 6] [] := gSm.wk s50 _ _ rfl rfl
    obtain ⟨q51, -⟩ := q51
    refine h_goto (tgt := 28) hC dX7_addRoutine_24 (by decide) ?_
    refine hi_add (j := 3) hC hr o45 I48 (by decide) ⟨fun _ => by omega, fun q => absurd q (by decide), by omega⟩ cl_X7_56 rfl (Nat.le_of_ble_eq_true rfl) (hFr_of (Nat.le_of_ble_eq_true rfl) (Nat.le_of_ble_eq_true rfl)) dX7_addRoutine_28 (fun u61 S55 I56 o60 K57 s58 a59 => ?_)
    have m62 : gSm S S55 [2, 3, 4, 5, 6] [] := m52.tr s58 _ _ rfl rfl
    have K63 := K49.tr K57
    have Pa59 : gPsi S55 ≤ gPsi S47 + 1 := a59.2.2.1 ⟨by decide, by decide⟩
    refine h_aload_n hC dX7_addRoutine_31 rfl ?_
    refine h_get hC fl_X7_27 (I56.1.o 1 (by decide)) rfl dX7_addRoutine_32 ?_
    refine h_iconst (v := 0) hC dX7_addRoutine_35 rfl ?_
    refine hi_add (j := 4) hC hr o60 I56 (by decide) ⟨fun _ => by omega, fun q => absurd q (by decide), by omega⟩ cl_X7_56 rfl (Nat.le_of_ble_eq_true rfl) (hFr_of (Nat.le_of_ble_eq_true rfl) (Nat.le_of_ble_eq_true rfl)) dX7_addRoutine_36 (fun u71 S65 I66 o70 K67 s68 a69 => ?_)
    have m72 : gSm S S65 [2, 3, 4, 5, 6] [] := m62.tr s68 _ _ rfl rfl
    have K73 := K63.tr K67
    have Pa69 : gPsi S65 ≤ gPsi S55 + 1 := a69.2.2.1 ⟨by decide, by decide⟩
    refine h_aload_n hC dX7_addRoutine_39 rfl ?_
    refine h_get hC fl_X7_30 (I66.1.o 1 (by decide)) rfl dX7_addRoutine_40 ?_
    refine h_iconst (v := 0) hC dX7_addRoutine_43 rfl ?_
    refine hi_add (j := 5) hC hr o70 I66 (by decide) ⟨fun _ => by omega, fun q => absurd q (by decide), by omega⟩ cl_X7_56 rfl (Nat.le_of_ble_eq_true rfl) (hFr_of (Nat.le_of_ble_eq_true rfl) (Nat.le_of_ble_eq_true rfl)) dX7_addRoutine_44 (fun u81 S75 I76 o80 K77 s78 a79 => ?_)
    have m82 : gSm S S75 [2, 3, 4, 5, 6] [] := m72.tr s78 _ _ rfl rfl
    have K83 := K73.tr K77
    have Pa79 : gPsi S75 ≤ gPsi S65 + 1 := a79.2.2.1 ⟨by decide, by decide⟩
    refine h_aload_n hC dX7_addRoutine_47 rfl ?_
    refine h_get hC fl_X7_33 (I76.1.o 1 (by decide)) rfl dX7_addRoutine_48 ?_
    refine h_iconst (v := 0) hC dX7_addRoutine_51 rfl ?_
    refine hi_add (j := 6) hC hr o80 I76 (by decide) ⟨fun _ => by omega, fun q => absurd q (by decide), by omega⟩ cl_X7_56 rfl (Nat.le_of_ble_eq_true rfl) (hFr_of (Nat.le_of_ble_eq_true rfl) (Nat.le_of_ble_eq_true rfl)) dX7_addRoutine_52 (fun u91 S85 I86 o90 K87 s88 a89 => ?_)
    have m92 : gSm S S85 [2, 3, 4, 5, 6] [] := m82.tr s88 _ _ rfl rfl
    have K93 := K83.tr K87
    have Pa89 : gPsi S85 ≤ gPsi S75 + 1 := a89.2.2.1 ⟨by decide, by decide⟩
    refine h_iload_n hC dX7_addRoutine_55 rfl ?_
    exact h_iret hC hr o90 rfl rfl rfl ⟨S85, I86, K93, m92, by omega⟩ dX7_addRoutine_56
theorem nI_lt100 {j : Nat} (h : j ≤ 100) (h2 : ¬ (100 : Int32) ≤ nI j) : j < 100 := Nat.lt_of_le_of_ne h (fun q => h2 (by subst q; decide))
theorem dX7_clear_0 : decode cX7_clear 0 = .ok (.aload_n 0, 1) := by decide +kernel
theorem dX7_clear_1 : decode cX7_clear 1 = .ok (.getfield 15, 3) := by decide +kernel
theorem dX7_clear_4 : decode cX7_clear 4 = .ok (.iconst 0, 1) := by decide +kernel
theorem dX7_clear_5 : decode cX7_clear 5 = .ok (.invokevirtual 53, 3) := by decide +kernel
theorem dX7_clear_8 : decode cX7_clear 8 = .ok (.aload_n 0, 1) := by decide +kernel
theorem dX7_clear_9 : decode cX7_clear 9 = .ok (.getfield 21, 3) := by decide +kernel
theorem dX7_clear_12 : decode cX7_clear 12 = .ok (.iconst 0, 1) := by decide +kernel
theorem dX7_clear_13 : decode cX7_clear 13 = .ok (.invokevirtual 53, 3) := by decide +kernel
theorem dX7_clear_16 : decode cX7_clear 16 = .ok (.aload_n 0, 1) := by decide +kernel
theorem dX7_clear_17 : decode cX7_clear 17 = .ok (.getfield 24, 3) := by decide +kernel
theorem dX7_clear_20 : decode cX7_clear 20 = .ok (.iconst 0, 1) := by decide +kernel
theorem dX7_clear_21 : decode cX7_clear 21 = .ok (.invokevirtual 53, 3) := by decide +kernel
theorem dX7_clear_24 : decode cX7_clear 24 = .ok (.aload_n 0, 1) := by decide +kernel
theorem dX7_clear_25 : decode cX7_clear 25 = .ok (.getfield 27, 3) := by decide +kernel
theorem dX7_clear_28 : decode cX7_clear 28 = .ok (.iconst 0, 1) := by decide +kernel
theorem dX7_clear_29 : decode cX7_clear 29 = .ok (.invokevirtual 53, 3) := by decide +kernel
theorem dX7_clear_32 : decode cX7_clear 32 = .ok (.aload_n 0, 1) := by decide +kernel
theorem dX7_clear_33 : decode cX7_clear 33 = .ok (.getfield 30, 3) := by decide +kernel
theorem dX7_clear_36 : decode cX7_clear 36 = .ok (.iconst 0, 1) := by decide +kernel
theorem dX7_clear_37 : decode cX7_clear 37 = .ok (.invokevirtual 53, 3) := by decide +kernel
theorem dX7_clear_40 : decode cX7_clear 40 = .ok (.aload_n 0, 1) := by decide +kernel
theorem dX7_clear_41 : decode cX7_clear 41 = .ok (.getfield 33, 3) := by decide +kernel
theorem dX7_clear_44 : decode cX7_clear 44 = .ok (.iconst 0, 1) := by decide +kernel
theorem dX7_clear_45 : decode cX7_clear 45 = .ok (.invokevirtual 53, 3) := by decide +kernel
theorem dX7_clear_48 : decode cX7_clear 48 = .ok (.iconst 0, 1) := by decide +kernel
theorem dX7_clear_49 : decode cX7_clear 49 = .ok (.istore_n 2, 1) := by decide +kernel
theorem dX7_clear_50 : decode cX7_clear 50 = .ok (.iload_n 2, 1) := by decide +kernel
theorem dX7_clear_51 : decode cX7_clear 51 = .ok (.bipush 100, 2) := by decide +kernel
theorem dX7_clear_53 : decode cX7_clear 53 = .ok (.if_icmp .ge 17, 3) := by decide +kernel
theorem dX7_clear_56 : decode cX7_clear 56 = .ok (.aload_n 0, 1) := by decide +kernel
theorem dX7_clear_57 : decode cX7_clear 57 = .ok (.getfield 21, 3) := by decide +kernel
theorem dX7_clear_60 : decode cX7_clear 60 = .ok (.iconst 0, 1) := by decide +kernel
theorem dX7_clear_61 : decode cX7_clear 61 = .ok (.invokevirtual 56, 3) := by decide +kernel
theorem dX7_clear_64 : decode cX7_clear 64 = .ok (.iinc 2 1, 3) := by decide +kernel
theorem dX7_clear_67 : decode cX7_clear 67 = .ok (.goto (-17), 3) := by decide +kernel
theorem dX7_clear_70 : decode cX7_clear 70 = .ok (.aload_n 0, 1) := by decide +kernel
theorem dX7_clear_71 : decode cX7_clear 71 = .ok (.iconst 0, 1) := by decide +kernel
theorem dX7_clear_72 : decode cX7_clear 72 = .ok (.iconst 0, 1) := by decide +kernel
theorem dX7_clear_73 : decode cX7_clear 73 = .ok (.invokevirtual 59, 3) := by decide +kernel
theorem dX7_clear_76 : decode cX7_clear 76 = .ok (.pop, 1) := by decide +kernel
theorem dX7_clear_77 : decode cX7_clear 77 = .ok (.aload_n 0, 1) := by decide +kernel
theorem dX7_clear_78 : decode cX7_clear 78 = .ok (.iload_n 1, 1) := by decide +kernel
theorem dX7_clear_79 : decode cX7_clear 79 = .ok (.putfield 36, 3) := by decide +kernel
theorem dX7_clear_82 : decode cX7_clear 82 = .ok (.aload_n 0, 1) := by decide +kernel
theorem dX7_clear_83 : decode cX7_clear 83 = .ok (.iconst (-1), 1) := by decide +kernel
theorem dX7_clear_84 : decode cX7_clear 84 = .ok (.putfield 40, 3) := by decide +kernel
theorem dX7_clear_87 : decode cX7_clear 87 = .ok (.aload_n 0, 1) := by decide +kernel
theorem dX7_clear_88 : decode cX7_clear 88 = .ok (.iconst 0, 1) := by decide +kernel
theorem dX7_clear_89 : decode cX7_clear 89 = .ok (.putfield 43, 3) := by decide +kernel
theorem dX7_clear_92 : decode cX7_clear 92 = .ok (.aload_n 0, 1) := by decide +kernel
theorem dX7_clear_93 : decode cX7_clear 93 = .ok (.iconst 0, 1) := by decide +kernel
theorem dX7_clear_94 : decode cX7_clear 94 = .ok (.putfield 46, 3) := by decide +kernel
theorem dX7_clear_97 : decode cX7_clear 97 = .ok (.aload_n 0, 1) := by decide +kernel
theorem dX7_clear_98 : decode cX7_clear 98 = .ok (.iconst 0, 1) := by decide +kernel
theorem dX7_clear_99 : decode cX7_clear 99 = .ok (.putfield 49, 3) := by decide +kernel
theorem dX7_clear_102 : decode cX7_clear 102 = .ok (.return_, 1) := by decide +kernel
set_option maxHeartbeats 4000000 in
set_option maxRecDepth 100000 in
theorem s_P_clear (l : Launch) (d : gD) (b : Nat) (Y : gYt) (c : Nat × Nat) (F : gM) (k n : Nat) {S : gSt} (hi : hI d b Y c (F, k, n) S) (hA : gPsi S + 102 ≤ gAm) (x : Int32) : hMv l d b yX7_clear cX7_clear 3 4 k n F [.ref (gO' Y 1), .int x] (fun u => ∃ S', hI d b Y c u S' ∧ gKp Y F u.1 ∧ gSm S S' [1, 2, 3, 4, 5, 6] [2, 3, 4, 5, 6] ∧ gPsi S' ≤ gPsi S + 102) := by
  intro mc ms
  refine hM_of2 rfl (nL := 3) (Nat.le_of_ble_eq_true rfl) ?_
  intro X hX hC hr ho; subst hX
  show hG X d b _ F k n 0 [some (.ref (gO' Y 1)), some (.int x), none] []
  refine h_aload_n hC dX7_clear_0 rfl ?_
  refine h_get hC fl_X7_15 (hi.1.o 1 (by decide)) rfl dX7_clear_1 ?_
  refine h_iconst (v := 0) hC dX7_clear_4 rfl ?_
  refine hi_cut (j := 1) hC hr ho hi (by decide) cl_X7_53 rfl (Nat.le_of_ble_eq_true rfl) (hFr_of (Nat.le_of_ble_eq_true rfl) (Nat.le_of_ble_eq_true rfl)) dX7_clear_5 (fun F1 S2 I3 K4 s5 a6 => ?_)
  have m7 : gSm S S2 [1, 2, 3, 4, 5, 6] [2, 3, 4, 5, 6] := gSm.wk s5 _ _ rfl rfl
  have Pa6 : gPsi S2 ≤ gPsi S := a6.2.2.2.2.2
  refine h_aload_n hC dX7_clear_8 rfl ?_
  refine h_get hC fl_X7_21 (I3.1.o 1 (by decide)) rfl dX7_clear_9 ?_
  refine h_iconst (v := 0) hC dX7_clear_12 rfl ?_
  refine hi_cut (j := 2) hC hr ho I3 (by decide) cl_X7_53 rfl (Nat.le_of_ble_eq_true rfl) (hFr_of (Nat.le_of_ble_eq_true rfl) (Nat.le_of_ble_eq_true rfl)) dX7_clear_13 (fun F9 S10 I11 K12 s13 a14 => ?_)
  have m15 : gSm S S10 [1, 2, 3, 4, 5, 6] [2, 3, 4, 5, 6] := m7.tr s13 _ _ rfl rfl
  have K16 := K4.tr K12
  have Pa14 : gPsi S10 ≤ gPsi S2 := a14.2.2.2.2.2
  refine h_aload_n hC dX7_clear_16 rfl ?_
  refine h_get hC fl_X7_24 (I11.1.o 1 (by decide)) rfl dX7_clear_17 ?_
  refine h_iconst (v := 0) hC dX7_clear_20 rfl ?_
  refine hi_cut (j := 3) hC hr ho I11 (by decide) cl_X7_53 rfl (Nat.le_of_ble_eq_true rfl) (hFr_of (Nat.le_of_ble_eq_true rfl) (Nat.le_of_ble_eq_true rfl)) dX7_clear_21 (fun F17 S18 I19 K20 s21 a22 => ?_)
  have m23 : gSm S S18 [1, 2, 3, 4, 5, 6] [2, 3, 4, 5, 6] := m15.tr s21 _ _ rfl rfl
  have K24 := K16.tr K20
  have Pa22 : gPsi S18 ≤ gPsi S10 := a22.2.2.2.2.2
  refine h_aload_n hC dX7_clear_24 rfl ?_
  refine h_get hC fl_X7_27 (I19.1.o 1 (by decide)) rfl dX7_clear_25 ?_
  refine h_iconst (v := 0) hC dX7_clear_28 rfl ?_
  refine hi_cut (j := 4) hC hr ho I19 (by decide) cl_X7_53 rfl (Nat.le_of_ble_eq_true rfl) (hFr_of (Nat.le_of_ble_eq_true rfl) (Nat.le_of_ble_eq_true rfl)) dX7_clear_29 (fun F25 S26 I27 K28 s29 a30 => ?_)
  have m31 : gSm S S26 [1, 2, 3, 4, 5, 6] [2, 3, 4, 5, 6] := m23.tr s29 _ _ rfl rfl
  have K32 := K24.tr K28
  have Pa30 : gPsi S26 ≤ gPsi S18 := a30.2.2.2.2.2
  refine h_aload_n hC dX7_clear_32 rfl ?_
  refine h_get hC fl_X7_30 (I27.1.o 1 (by decide)) rfl dX7_clear_33 ?_
  refine h_iconst (v := 0) hC dX7_clear_36 rfl ?_
  refine hi_cut (j := 5) hC hr ho I27 (by decide) cl_X7_53 rfl (Nat.le_of_ble_eq_true rfl) (hFr_of (Nat.le_of_ble_eq_true rfl) (Nat.le_of_ble_eq_true rfl)) dX7_clear_37 (fun F33 S34 I35 K36 s37 a38 => ?_)
  have m39 : gSm S S34 [1, 2, 3, 4, 5, 6] [2, 3, 4, 5, 6] := m31.tr s37 _ _ rfl rfl
  have K40 := K32.tr K36
  have Pa38 : gPsi S34 ≤ gPsi S26 := a38.2.2.2.2.2
  refine h_aload_n hC dX7_clear_40 rfl ?_
  refine h_get hC fl_X7_33 (I35.1.o 1 (by decide)) rfl dX7_clear_41 ?_
  refine h_iconst (v := 0) hC dX7_clear_44 rfl ?_
  refine hi_cut (j := 6) hC hr ho I35 (by decide) cl_X7_53 rfl (Nat.le_of_ble_eq_true rfl) (hFr_of (Nat.le_of_ble_eq_true rfl) (Nat.le_of_ble_eq_true rfl)) dX7_clear_45 (fun F41 S42 I43 K44 s45 a46 => ?_)
  have m47 : gSm S S42 [1, 2, 3, 4, 5, 6] [2, 3, 4, 5, 6] := m39.tr s45 _ _ rfl rfl
  have K48 := K40.tr K44
  have Pa46 : gPsi S42 ≤ gPsi S34 := a46.2.2.2.2.2
  refine h_iconst (v := 0) hC dX7_clear_48 rfl ?_
  refine h_istore_n (lv' := [some (.ref (gO' Y 1)), some (.int x), some (.int 0)]) hC dX7_clear_49 (Nat.le_of_ble_eq_true rfl) rfl rfl ?_
  have L49 : ∀ (m50 j51 : Nat), j51 + m50 = 100 → ∀ (u54 : hU) (S55 : gSt), hI d b Y c u54 S55 → hOk X b u54.2.1 u54.2.2 → gKp Y F u54.1 → gSm S S55 [1, 2, 3, 4, 5, 6] [2, 3, 4, 5, 6] → (gPsi S55 ≤ gPsi S + j51) → hG X d b (MQ X.be (va_Qv (fun u => ∃ S', hI d b Y c u S' ∧ gKp Y F u.1 ∧ gSm S S' [1, 2, 3, 4, 5, 6] [2, 3, 4, 5, 6] ∧ gPsi S' ≤ gPsi S + 102) (hB d b) (fun q => b ≤ q)) X.ar X.st mc ms (fun q => b ≤ q)) u54.1 u54.2.1 u54.2.2 50 [some (.ref (gO' Y 1)), some (.int x), some (.int (nI j51))] [] := by
    intro m50
    refine Nat.strongRecOn m50 (fun m50 ih52 j51 hj53 u54 S55 I56 o57 K58 m59 hp => ?_)
    refine h_iload_n hC dX7_clear_50 rfl ?_
    refine h_bipush (v := 100) hC dX7_clear_51 rfl ?_
    refine h_icmp_ge (tgt := 70) hC dX7_clear_53 (by decide) (fun c60 => ?_) (fun c60 => ?_)
    · refine h_aload_n hC dX7_clear_70 rfl ?_
      refine h_iconst (v := 0) hC dX7_clear_71 rfl ?_
      refine h_iconst (v := 0) hC dX7_clear_72 rfl ?_
      refine h_callVi (As := [.int 0, .int 0]) hC hr o57 rfl (I56.1.o 1 (by decide)) (s_P_emit X.la d b Y c _ _ _ I56 (by omega) 0 0) cl_X7_59 rfl rfl (Nat.le_of_ble_eq_true rfl) (hFr_of (Nat.le_of_ble_eq_true rfl) (Nat.le_of_ble_eq_true rfl)) dX7_clear_73 (fun r64 u61 p62 o63 => ?_)
      obtain ⟨S65, I66, K67, s68, q69⟩ := p62
      have m70 : gSm S S65 [1, 2, 3, 4, 5, 6] [2, 3, 4, 5, 6] := m59.tr s68 _ _ rfl rfl
      have K71 := K58.tr K67
      obtain ⟨q69, -⟩ := q69
      refine h_pop hC dX7_clear_76 rfl ?_
      refine h_aload_n hC dX7_clear_77 rfl ?_
      refine h_iload_n hC dX7_clear_78 rfl ?_
      refine hi_putx (i := 1) (kx := 2) hC I66 (by decide) fl_X7_36 rfl rfl rfl (Nat.le_of_ble_eq_true rfl) rfl gsame_2 (fun q => absurd q (by decide)) dX7_clear_79 (fun F72 S73 I74 K75 s76 v77 p78 => ?_)
      have m79 : gSm S S73 [1, 2, 3, 4, 5, 6] [2, 3, 4, 5, 6] := m70.tr s76 _ _ rfl rfl
      have K80 := K71.tr K75
      refine h_aload_n hC dX7_clear_82 rfl ?_
      refine h_iconst (v := (-1)) hC dX7_clear_83 rfl ?_
      refine hi_putx (i := 1) (kx := 3) hC I74 (by decide) fl_X7_40 rfl rfl rfl (Nat.le_of_ble_eq_true rfl) rfl gsame_3 (fun q => absurd q (by decide)) dX7_clear_84 (fun F81 S82 I83 K84 s85 v86 p87 => ?_)
      have m88 : gSm S S82 [1, 2, 3, 4, 5, 6] [2, 3, 4, 5, 6] := m79.tr s85 _ _ rfl rfl
      have K89 := K80.tr K84
      refine h_aload_n hC dX7_clear_87 rfl ?_
      refine h_iconst (v := 0) hC dX7_clear_88 rfl ?_
      refine hi_putx (i := 1) (kx := 4) hC I83 (by decide) fl_X7_43 rfl rfl rfl (Nat.le_of_ble_eq_true rfl) rfl gsame_4 (fun q => absurd q (by decide)) dX7_clear_89 (fun F90 S91 I92 K93 s94 v95 p96 => ?_)
      have m97 : gSm S S91 [1, 2, 3, 4, 5, 6] [2, 3, 4, 5, 6] := m88.tr s94 _ _ rfl rfl
      have K98 := K89.tr K93
      refine h_aload_n hC dX7_clear_92 rfl ?_
      refine h_iconst (v := 0) hC dX7_clear_93 rfl ?_
      refine hi_putx (i := 1) (kx := 5) hC I92 (by decide) fl_X7_46 rfl rfl rfl (Nat.le_of_ble_eq_true rfl) rfl gsame_5 (fun q => absurd q (by decide)) dX7_clear_94 (fun F99 S100 I101 K102 s103 v104 p105 => ?_)
      have m106 : gSm S S100 [1, 2, 3, 4, 5, 6] [2, 3, 4, 5, 6] := m97.tr s103 _ _ rfl rfl
      have K107 := K98.tr K102
      refine h_aload_n hC dX7_clear_97 rfl ?_
      refine h_iconst (v := 0) hC dX7_clear_98 rfl ?_
      refine hi_putx (i := 1) (kx := 6) hC I101 (by decide) fl_X7_49 rfl (hnb (Or.inl rfl)) rfl (Nat.le_of_ble_eq_true rfl) rfl gsame_6 (fun _ => (Or.inl rfl)) dX7_clear_99 (fun F108 S109 I110 K111 s112 v113 p114 => ?_)
      have m115 : gSm S S109 [1, 2, 3, 4, 5, 6] [2, 3, 4, 5, 6] := m106.tr s112 _ _ rfl rfl
      have K116 := K107.tr K111
      exact h_vret hC hr o63 rfl rfl ⟨S109, I110, K116, m115, by omega⟩ dX7_clear_102
    · have hlt : j51 < 100 := nI_lt100 (Nat.le_of_lt_succ (by omega)) c60
      refine h_aload_n hC dX7_clear_56 rfl ?_
      refine h_get hC fl_X7_21 (I56.1.o 1 (by decide)) rfl dX7_clear_57 ?_
      refine h_iconst (v := 0) hC dX7_clear_60 rfl ?_
      refine hi_add (j := 2) hC hr o57 I56 (by decide) ⟨fun _ => by omega, fun q => absurd q (by decide), by omega⟩ cl_X7_56 rfl (Nat.le_of_ble_eq_true rfl) (hFr_of (Nat.le_of_ble_eq_true rfl) (Nat.le_of_ble_eq_true rfl)) dX7_clear_61 (fun u124 S118 I119 o123 K120 s121 a122 => ?_)
      have m125 : gSm S S118 [1, 2, 3, 4, 5, 6] [2, 3, 4, 5, 6] := m59.tr s121 _ _ rfl rfl
      have K126 := K58.tr K120
      have Pa122 : gPsi S118 ≤ gPsi S55 + 1 := a122.2.2.1 ⟨by decide, by decide⟩
      obtain ⟨x127, ex127⟩ : ∃ y : Int32, y = (nI j51) + 1 := ⟨_, rfl⟩
      refine h_iinc (v := x127) (lv' := [some (.ref (gO' Y 1)), some (.int x), some (.int x127)]) hC dX7_clear_64 rfl (by rw [ex127]; rfl) rfl rfl ?_
      refine h_goto (tgt := 50) hC dX7_clear_67 (by decide) ?_
      have zJx127 : x127 = nI (j51 + 1) := by rw [ex127]; exact nI_suc
      subst zJx127
      refine h_lv (lv' := [some (.ref (gO' Y 1)), some (.int x), some (.int (nI (j51 + 1)))]) (by repeat (first | exact trivial | refine ⟨rfl, ?_⟩ | exact trivial)) ?_
      exact ih52 (m50 - 1) (by omega) (j51 + 1) (by omega) _ S118  I119 o123 K126 m125 (by omega)
  refine h_lv (lv' := [some (.ref (gO' Y 1)), some (.int x), some (.int 0)]) (by repeat (first | exact trivial | refine ⟨rfl, ?_⟩ | exact trivial)) ?_
  exact L49 (100 - 0) 0 (by omega) (F41, k, n) S42  I43 ho K48 m47 (by omega)
