theorem kw_755 : Cond.fieldLink RX5 31 "WordTongue$Machine" "cells" "[I" ∈ gWs := List.mem_filter.mpr ⟨gMt3 _ (List.mem_of_getElem? (i := 38) rfl), rfl⟩
theorem fl_X5_31 : gFL RX5 31 5 5 (.array .int) false := ⟨RX5, TX5, 16, tyX5, rfl, by decide, inW_RX5, kw_755, tyX5_ok, nmX5, rfl, by decide +kernel, fun h => by cases h⟩
theorem kw_763 : Cond.fieldLink RX5 57 "WordTongue$Machine" "over" "Z" ∈ gWs := List.mem_filter.mpr ⟨gMt3 _ (List.mem_of_getElem? (i := 46) rfl), rfl⟩
theorem fl_X5_57 : gFL RX5 57 5 13 .boolean false := ⟨RX5, TX5, 16, tyX5, rfl, by decide, inW_RX5, kw_763, tyX5_ok, nmX5, rfl, by decide +kernel, fun h => by cases h⟩
theorem kw_762 : Cond.fieldLink RX5 54 "WordTongue$Machine" "error" "I" ∈ gWs := List.mem_filter.mpr ⟨gMt3 _ (List.mem_of_getElem? (i := 45) rfl), rfl⟩
theorem fl_X5_54 : gFL RX5 54 5 12 .int false := ⟨RX5, TX5, 16, tyX5, rfl, by decide, inW_RX5, kw_762, tyX5_ok, nmX5, rfl, by decide +kernel, fun h => by cases h⟩
theorem kw_1670 : Cond.code yX5_fail cX5_fail 2 none ∈ gWs := List.mem_filter.mpr ⟨gMt6 _ (List.mem_of_getElem? (i := 233) rfl), rfl⟩
theorem kw_1667 : Cond.methodLink RX5 137 yX5_fail ∈ gWs := List.mem_filter.mpr ⟨gMt6 _ (List.mem_of_getElem? (i := 230) rfl), rfl⟩
theorem kw_1669 : Cond.instanceMethod yX5_fail ∈ gWs := List.mem_filter.mpr ⟨gMt6 _ (List.mem_of_getElem? (i := 232) rfl), rfl⟩
theorem kw_100 : Cond.selects RX5 yX5_fail yX5_fail ∈ gWs := gWm 100 (by decide +kernel) rfl
theorem cl_X5_137 : gCV RX5 137 yX5_fail cX5_fail 2 none 1 := ⟨g_mk [.methodLink RX5 137 yX5_fail, .instanceMethod yX5_fail, .selects yX5_fail.cls yX5_fail yX5_fail, .initialized yX5_fail.cls] (gWs_all kw_1670) (List.forall_mem_cons.mpr ⟨kw_1667, List.forall_mem_cons.mpr ⟨kw_1669, List.forall_mem_cons.mpr ⟨kw_100, List.forall_mem_cons.mpr ⟨kw_255, fun _ h => nomatch h⟩⟩⟩⟩), rfl, by decide +kernel, by decide +kernel, by decide +kernel⟩
theorem kw_753 : Cond.fieldLink RX5 24 "WordTongue$Machine" "stack" "LWordTongue$Ints;" ∈ gWs := List.mem_filter.mpr ⟨gMt3 _ (List.mem_of_getElem? (i := 36) rfl), rfl⟩
theorem fl_X5_24 : gFL RX5 24 5 3 (.object "WordTongue$Ints") true := ⟨RX5, TX5, 16, tyX5, rfl, by decide, inW_RX5, kw_753, tyX5_ok, nmX5, rfl, by decide +kernel, fun _ => rfl⟩
theorem kw_1733 : Cond.methodLink RX5 146 yX4_pop ∈ gWs := List.mem_filter.mpr ⟨gMt7 _ (List.mem_of_getElem? (i := 56) rfl), rfl⟩
theorem cl_X5_146 : gCV RX5 146 yX4_pop cX4_pop 1 (some .int) 0 := ⟨g_mk [.methodLink RX5 146 yX4_pop, .instanceMethod yX4_pop, .selects yX4_pop.cls yX4_pop yX4_pop, .initialized yX4_pop.cls] (gWs_all kw_1141) (List.forall_mem_cons.mpr ⟨kw_1733, List.forall_mem_cons.mpr ⟨kw_1139, List.forall_mem_cons.mpr ⟨kw_1140, List.forall_mem_cons.mpr ⟨kw_239, fun _ h => nomatch h⟩⟩⟩⟩), rfl, by decide +kernel, by decide +kernel, by decide +kernel⟩
theorem kw_1741 : Cond.code yX5_wordOfByte cX5_wordOfByte 5 (some .int) ∈ gWs := List.mem_filter.mpr ⟨gMt7 _ (List.mem_of_getElem? (i := 64) rfl), rfl⟩
theorem kw_1738 : Cond.methodLink RX5 192 yX5_wordOfByte ∈ gWs := List.mem_filter.mpr ⟨gMt7 _ (List.mem_of_getElem? (i := 61) rfl), rfl⟩
theorem kw_1740 : Cond.instanceMethod yX5_wordOfByte ∈ gWs := List.mem_filter.mpr ⟨gMt7 _ (List.mem_of_getElem? (i := 63) rfl), rfl⟩
theorem kw_107 : Cond.selects RX5 yX5_wordOfByte yX5_wordOfByte ∈ gWs := gWm 107 (by decide +kernel) rfl
theorem cl_X5_192 : gCV RX5 192 yX5_wordOfByte cX5_wordOfByte 5 (some .int) 2 := ⟨g_mk [.methodLink RX5 192 yX5_wordOfByte, .instanceMethod yX5_wordOfByte, .selects yX5_wordOfByte.cls yX5_wordOfByte yX5_wordOfByte, .initialized yX5_wordOfByte.cls] (gWs_all kw_1741) (List.forall_mem_cons.mpr ⟨kw_1738, List.forall_mem_cons.mpr ⟨kw_1740, List.forall_mem_cons.mpr ⟨kw_107, List.forall_mem_cons.mpr ⟨kw_255, fun _ h => nomatch h⟩⟩⟩⟩), rfl, by decide +kernel, by decide +kernel, by decide +kernel⟩
theorem kw_1732 : Cond.code yX5_look cX5_look 2 (some .int) ∈ gWs := List.mem_filter.mpr ⟨gMt7 _ (List.mem_of_getElem? (i := 55) rfl), rfl⟩
theorem kw_1729 : Cond.methodLink RX5 143 yX5_look ∈ gWs := List.mem_filter.mpr ⟨gMt7 _ (List.mem_of_getElem? (i := 52) rfl), rfl⟩
theorem kw_1731 : Cond.instanceMethod yX5_look ∈ gWs := List.mem_filter.mpr ⟨gMt7 _ (List.mem_of_getElem? (i := 54) rfl), rfl⟩
theorem kw_105 : Cond.selects RX5 yX5_look yX5_look ∈ gWs := gWm 105 (by decide +kernel) rfl
theorem cl_X5_143 : gCV RX5 143 yX5_look cX5_look 2 (some .int) 1 := ⟨g_mk [.methodLink RX5 143 yX5_look, .instanceMethod yX5_look, .selects yX5_look.cls yX5_look yX5_look, .initialized yX5_look.cls] (gWs_all kw_1732) (List.forall_mem_cons.mpr ⟨kw_1729, List.forall_mem_cons.mpr ⟨kw_1731, List.forall_mem_cons.mpr ⟨kw_105, List.forall_mem_cons.mpr ⟨kw_255, fun _ h => nomatch h⟩⟩⟩⟩), rfl, by decide +kernel, by decide +kernel, by decide +kernel⟩
theorem kw_1715 : Cond.methodLink RX5 140 yX4_add ∈ gWs := List.mem_filter.mpr ⟨gMt7 _ (List.mem_of_getElem? (i := 38) rfl), rfl⟩
theorem cl_X5_140 : gCV RX5 140 yX4_add cX4_add 2 none 1 := ⟨g_mk [.methodLink RX5 140 yX4_add, .instanceMethod yX4_add, .selects yX4_add.cls yX4_add yX4_add, .initialized yX4_add.cls] (gWs_all kw_444) (List.forall_mem_cons.mpr ⟨kw_1715, List.forall_mem_cons.mpr ⟨kw_442, List.forall_mem_cons.mpr ⟨kw_443, List.forall_mem_cons.mpr ⟨kw_239, fun _ h => nomatch h⟩⟩⟩⟩), rfl, by decide +kernel, by decide +kernel, by decide +kernel⟩
theorem kw_1662 : Cond.code yX5_put cX5_put 3 none ∈ gWs := List.mem_filter.mpr ⟨gMt6 _ (List.mem_of_getElem? (i := 225) rfl), rfl⟩
theorem kw_1659 : Cond.methodLink RX5 123 yX5_put ∈ gWs := List.mem_filter.mpr ⟨gMt6 _ (List.mem_of_getElem? (i := 222) rfl), rfl⟩
theorem kw_1661 : Cond.instanceMethod yX5_put ∈ gWs := List.mem_filter.mpr ⟨gMt6 _ (List.mem_of_getElem? (i := 224) rfl), rfl⟩
theorem kw_98 : Cond.selects RX5 yX5_put yX5_put ∈ gWs := gWm 98 (by decide +kernel) rfl
theorem cl_X5_123 : gCV RX5 123 yX5_put cX5_put 3 none 2 := ⟨g_mk [.methodLink RX5 123 yX5_put, .instanceMethod yX5_put, .selects yX5_put.cls yX5_put yX5_put, .initialized yX5_put.cls] (gWs_all kw_1662) (List.forall_mem_cons.mpr ⟨kw_1659, List.forall_mem_cons.mpr ⟨kw_1661, List.forall_mem_cons.mpr ⟨kw_98, List.forall_mem_cons.mpr ⟨kw_255, fun _ h => nomatch h⟩⟩⟩⟩), rfl, by decide +kernel, by decide +kernel, by decide +kernel⟩
set_option maxHeartbeats 4000000 in
set_option maxRecDepth 100000 in
theorem s_M_isThere (l : Launch) (d : gD) (b : Nat) (Y : gYt) (c : Nat × Nat) (F : gM) (k n : Nat) {S : gSt} (hi : hI d b Y c (F, k, n) S) (x : Int32) : hMi l d b yX5_isThere cX5_isThere 2 .boolean 1 k n F [.ref (gO' Y 7), .int x] (fun r u => ((r = 0 ∨ r = 1) ∧ (¬ r = 0 → vp_in x (sN S 45))) ∧ u = (F, k, n)) := by
  intro mc ms
  refine hM_of2 rfl (nL := 2) (Nat.le_of_ble_eq_true rfl) ?_
  intro X hX hC hr ho; subst hX
  show hG X d b _ F k n 0 [some (.ref (gO' Y 7)), some (.int x)] []
  refine h_iload_n hC dX5_isThere_0 rfl ?_
  refine h_if_lt (tgt := 25) hC dX5_isThere_1 (by decide) (fun c1 => ?_) (fun c1 => ?_)
  · refine h_iconst (v := 0) hC dX5_isThere_25 rfl ?_
    exact h_iret hC hr ho rfl rfl rfl ⟨⟨Or.inl rfl, fun q => absurd rfl q⟩, rfl⟩ dX5_isThere_26
  · refine h_iload_n hC dX5_isThere_4 rfl ?_
    refine h_aload_n hC dX5_isThere_5 rfl ?_
    refine h_get hC fl_X5_35 (hi.1.o 7 (by decide)) rfl dX5_isThere_6 ?_
    refine h_icmp_ge (tgt := 25) hC dX5_isThere_9 (by decide) (fun c2 => ?_) (fun c2 => ?_)
    · refine h_iconst (v := 0) hC dX5_isThere_25 rfl ?_
      exact h_iret hC hr ho rfl rfl rfl ⟨⟨Or.inl rfl, fun q => absurd rfl q⟩, rfl⟩ dX5_isThere_26
    · refine h_iload_n hC dX5_isThere_12 rfl ?_
      refine h_aload_n hC dX5_isThere_13 rfl ?_
      refine h_get hC fl_X5_31 (hi.1.o 7 (by decide)) rfl dX5_isThere_14 ?_
      refine h_alen hC 0 hi.1.c rfl dX5_isThere_17 ?_
      refine h_icmp_ge (tgt := 25) hC dX5_isThere_18 (by decide) (fun c3 => ?_) (fun c3 => ?_)
      · refine h_iconst (v := 0) hC dX5_isThere_25 rfl ?_
        exact h_iret hC hr ho rfl rfl rfl ⟨⟨Or.inl rfl, fun q => absurd rfl q⟩, rfl⟩ dX5_isThere_26
      · refine h_iconst (v := 1) hC dX5_isThere_21 rfl ?_
        refine h_goto (tgt := 26) hC dX5_isThere_22 (by decide) ?_
        exact h_iret hC hr ho rfl rfl rfl ⟨⟨Or.inr rfl, fun _ => gmi c1 (gmv c1 c3 (Nat.lt_of_le_of_lt hi.1.2.2.1.2.2.2 (by decide)))⟩, rfl⟩ dX5_isThere_26
theorem dX5_fail_0 : decode cX5_fail 0 = .ok (.aload_n 0, 1) := by decide +kernel
theorem dX5_fail_1 : decode cX5_fail 1 = .ok (.getfield 57, 3) := by decide +kernel
theorem dX5_fail_4 : decode cX5_fail 4 = .ok (.ifCond .ne 13, 3) := by decide +kernel
theorem dX5_fail_7 : decode cX5_fail 7 = .ok (.aload_n 0, 1) := by decide +kernel
theorem dX5_fail_8 : decode cX5_fail 8 = .ok (.iload_n 1, 1) := by decide +kernel
theorem dX5_fail_9 : decode cX5_fail 9 = .ok (.putfield 54, 3) := by decide +kernel
theorem dX5_fail_12 : decode cX5_fail 12 = .ok (.aload_n 0, 1) := by decide +kernel
theorem dX5_fail_13 : decode cX5_fail 13 = .ok (.iconst 1, 1) := by decide +kernel
theorem dX5_fail_14 : decode cX5_fail 14 = .ok (.putfield 57, 3) := by decide +kernel
theorem dX5_fail_17 : decode cX5_fail 17 = .ok (.return_, 1) := by decide +kernel
set_option maxHeartbeats 4000000 in
set_option maxRecDepth 100000 in
theorem s_M_fail (l : Launch) (d : gD) (b : Nat) (Y : gYt) (c : Nat × Nat) (F : gM) (k n : Nat) {S : gSt} (hi : hI d b Y c (F, k, n) S) (hA : gPsi S ≤ gAm) (h43 : sZ S 43 ≤ 404) (x : Int32) : hMv l d b yX5_fail cX5_fail 2 1 k n F [.ref (gO' Y 7), .int x] (fun u => ∃ S', hI d b Y c u S' ∧ gKp Y F u.1 ∧ gSm S S' [38, 39, 40, 41, 42, 44, 45] [25, 26, 27, 28, 29, 30, 31, 32, 33, 34, 35, 36] ∧ sZ S' 43 ≤ 404 ∧ gPsi S' ≤ gPsi S ∧ sN S' 45 = sN S 45) := by
  intro mc ms
  refine hM_of2 rfl (nL := 2) (Nat.le_of_ble_eq_true rfl) ?_
  intro X hX hC hr ho; subst hX
  show hG X d b _ F k n 0 [some (.ref (gO' Y 7)), some (.int x)] []
  refine h_aload_n hC dX5_fail_0 rfl ?_
  refine h_get hC fl_X5_57 (hi.1.o 7 (by decide)) rfl dX5_fail_1 ?_
  refine h_if_ne (tgt := 17) hC dX5_fail_4 (by decide) (fun c1 => ?_) (fun c1 => ?_)
  · exact h_vret hC hr ho rfl rfl ⟨S, hi, gKp.rf, gSm.rf, h43, Nat.le_refl _, rfl⟩ dX5_fail_17
  · refine h_aload_n hC dX5_fail_7 rfl ?_
    refine h_iload_n hC dX5_fail_8 rfl ?_
    refine hi_putx (i := 7) (kx := 33) hC hi (by decide) fl_X5_54 rfl rfl rfl (Nat.le_of_ble_eq_true rfl) rfl gsame_33 (fun q => absurd q (by decide)) dX5_fail_9 (fun F2 S3 I4 K5 s6 v7 p8 => ?_)
    have m9 : gSm S S3 [38, 39, 40, 41, 42, 44, 45] [25, 26, 27, 28, 29, 30, 31, 32, 33, 34, 35, 36] := gSm.wk s6 _ _ rfl rfl
    have NS3 : sN S3 45 = sN S 45 := s6.n 45 (by decide)
    have ZS3 : sZ S3 43 = sZ S 43 := s6.z 43 (by decide)
    refine h_aload_n hC dX5_fail_12 rfl ?_
    refine h_iconst (v := 1) hC dX5_fail_13 rfl ?_
    refine hi_putx (i := 7) (kx := 34) hC I4 (by decide) fl_X5_57 rfl (hnb (Or.inr rfl)) rfl (Nat.le_of_ble_eq_true rfl) rfl gsame_34 (fun _ => (Or.inr rfl)) dX5_fail_14 (fun F11 S12 I13 K14 s15 v16 p17 => ?_)
    have m18 : gSm S S12 [38, 39, 40, 41, 42, 44, 45] [25, 26, 27, 28, 29, 30, 31, 32, 33, 34, 35, 36] := m9.tr s15 _ _ rfl rfl
    have K19 := K5.tr K14
    have NS12 : sN S12 45 = sN S3 45 := s15.n 45 (by decide)
    have ZS12 : sZ S12 43 = sZ S3 43 := s15.z 43 (by decide)
    exact h_vret hC hr ho rfl rfl ⟨S12, I13, K19, m18, by omega, by omega, by omega⟩ dX5_fail_17
theorem dX5_finish_0 : decode cX5_finish 0 = .ok (.aload_n 0, 1) := by decide +kernel
theorem dX5_finish_1 : decode cX5_finish 1 = .ok (.iload_n 1, 1) := by decide +kernel
theorem dX5_finish_2 : decode cX5_finish 2 = .ok (.putfield 51, 3) := by decide +kernel
theorem dX5_finish_5 : decode cX5_finish 5 = .ok (.aload_n 0, 1) := by decide +kernel
theorem dX5_finish_6 : decode cX5_finish 6 = .ok (.iload_n 2, 1) := by decide +kernel
theorem dX5_finish_7 : decode cX5_finish 7 = .ok (.putfield 54, 3) := by decide +kernel
theorem dX5_finish_10 : decode cX5_finish 10 = .ok (.aload_n 0, 1) := by decide +kernel
theorem dX5_finish_11 : decode cX5_finish 11 = .ok (.iconst 1, 1) := by decide +kernel
theorem dX5_finish_12 : decode cX5_finish 12 = .ok (.putfield 57, 3) := by decide +kernel
theorem dX5_finish_15 : decode cX5_finish 15 = .ok (.return_, 1) := by decide +kernel
set_option maxHeartbeats 4000000 in
set_option maxRecDepth 100000 in
theorem s_M_finish (l : Launch) (d : gD) (b : Nat) (Y : gYt) (c : Nat × Nat) (F : gM) (k n : Nat) {S : gSt} (hi : hI d b Y c (F, k, n) S) (hA : gPsi S ≤ gAm) (h43 : sZ S 43 ≤ 404) (x y : Int32) : hMv l d b yX5_finish cX5_finish 3 1 k n F [.ref (gO' Y 7), .int x, .int y] (fun u => ∃ S', hI d b Y c u S' ∧ gKp Y F u.1 ∧ gSm S S' [38, 39, 40, 41, 42, 44, 45] [25, 26, 27, 28, 29, 30, 31, 32, 33, 34, 35, 36] ∧ sZ S' 43 ≤ 404 ∧ gPsi S' ≤ gPsi S ∧ sN S' 45 = sN S 45) := by
  intro mc ms
  refine hM_of2 rfl (nL := 3) (Nat.le_of_ble_eq_true rfl) ?_
  intro X hX hC hr ho; subst hX
  show hG X d b _ F k n 0 [some (.ref (gO' Y 7)), some (.int x), some (.int y)] []
  refine h_aload_n hC dX5_finish_0 rfl ?_
  refine h_iload_n hC dX5_finish_1 rfl ?_
  refine hi_putx (i := 7) (kx := 32) hC hi (by decide) fl_X5_51 rfl rfl rfl (Nat.le_of_ble_eq_true rfl) rfl gsame_32 (fun q => absurd q (by decide)) dX5_finish_2 (fun F1 S2 I3 K4 s5 v6 p7 => ?_)
  have m8 : gSm S S2 [38, 39, 40, 41, 42, 44, 45] [25, 26, 27, 28, 29, 30, 31, 32, 33, 34, 35, 36] := gSm.wk s5 _ _ rfl rfl
  have NS2 : sN S2 45 = sN S 45 := s5.n 45 (by decide)
  have ZS2 : sZ S2 43 = sZ S 43 := s5.z 43 (by decide)
  refine h_aload_n hC dX5_finish_5 rfl ?_
  refine h_iload_n hC dX5_finish_6 rfl ?_
  refine hi_putx (i := 7) (kx := 33) hC I3 (by decide) fl_X5_54 rfl rfl rfl (Nat.le_of_ble_eq_true rfl) rfl gsame_33 (fun q => absurd q (by decide)) dX5_finish_7 (fun F10 S11 I12 K13 s14 v15 p16 => ?_)
  have m17 : gSm S S11 [38, 39, 40, 41, 42, 44, 45] [25, 26, 27, 28, 29, 30, 31, 32, 33, 34, 35, 36] := m8.tr s14 _ _ rfl rfl
  have K18 := K4.tr K13
  have NS11 : sN S11 45 = sN S2 45 := s14.n 45 (by decide)
  have ZS11 : sZ S11 43 = sZ S2 43 := s14.z 43 (by decide)
  refine h_aload_n hC dX5_finish_10 rfl ?_
  refine h_iconst (v := 1) hC dX5_finish_11 rfl ?_
  refine hi_putx (i := 7) (kx := 34) hC I12 (by decide) fl_X5_57 rfl (hnb (Or.inr rfl)) rfl (Nat.le_of_ble_eq_true rfl) rfl gsame_34 (fun _ => (Or.inr rfl)) dX5_finish_12 (fun F19 S20 I21 K22 s23 v24 p25 => ?_)
  have m26 : gSm S S20 [38, 39, 40, 41, 42, 44, 45] [25, 26, 27, 28, 29, 30, 31, 32, 33, 34, 35, 36] := m17.tr s23 _ _ rfl rfl
  have K27 := K18.tr K22
  have NS20 : sN S20 45 = sN S11 45 := s23.n 45 (by decide)
  have ZS20 : sZ S20 43 = sZ S11 43 := s23.z 43 (by decide)
  exact h_vret hC hr ho rfl rfl ⟨S20, I21, K27, m26, by omega, by omega, by omega⟩ dX5_finish_15
theorem dX5_burns_0 : decode cX5_burns 0 = .ok (.aload_n 0, 1) := by decide +kernel
theorem dX5_burns_1 : decode cX5_burns 1 = .ok (.getfield 48, 3) := by decide +kernel
theorem dX5_burns_4 : decode cX5_burns 4 = .ok (.iconst 1, 1) := by decide +kernel
theorem dX5_burns_5 : decode cX5_burns 5 = .ok (.if_icmp .ge 10, 3) := by decide +kernel
theorem dX5_burns_8 : decode cX5_burns 8 = .ok (.aload_n 0, 1) := by decide +kernel
theorem dX5_burns_9 : decode cX5_burns 9 = .ok (.iconst 1, 1) := by decide +kernel
theorem dX5_burns_10 : decode cX5_burns 10 = .ok (.invokevirtual 137, 3) := by decide +kernel
theorem dX5_burns_13 : decode cX5_burns 13 = .ok (.iconst 0, 1) := by decide +kernel
theorem dX5_burns_14 : decode cX5_burns 14 = .ok (.ireturn, 1) := by decide +kernel
theorem dX5_burns_15 : decode cX5_burns 15 = .ok (.aload_n 0, 1) := by decide +kernel
theorem dX5_burns_16 : decode cX5_burns 16 = .ok (.dup, 1) := by decide +kernel
theorem dX5_burns_17 : decode cX5_burns 17 = .ok (.getfield 48, 3) := by decide +kernel
theorem dX5_burns_20 : decode cX5_burns 20 = .ok (.iconst 1, 1) := by decide +kernel
theorem dX5_burns_21 : decode cX5_burns 21 = .ok (.isub, 1) := by decide +kernel
theorem dX5_burns_22 : decode cX5_burns 22 = .ok (.putfield 48, 3) := by decide +kernel
theorem dX5_burns_25 : decode cX5_burns 25 = .ok (.iconst 1, 1) := by decide +kernel
theorem dX5_burns_26 : decode cX5_burns 26 = .ok (.ireturn, 1) := by decide +kernel
set_option maxHeartbeats 4000000 in
set_option maxRecDepth 100000 in
theorem s_M_burns (l : Launch) (d : gD) (b : Nat) (Y : gYt) (c : Nat × Nat) (F : gM) (k n : Nat) {S : gSt} (hi : hI d b Y c (F, k, n) S) (hA : gPsi S ≤ gAm) (h43 : sZ S 43 ≤ 404) : hMi l d b yX5_burns cX5_burns 1 .boolean 3 k n F [.ref (gO' Y 7)] (fun r u => ∃ S', hI d b Y c u S' ∧ gKp Y F u.1 ∧ gSm S S' [38, 39, 40, 41, 42, 44, 45] [25, 26, 27, 28, 29, 30, 31, 32, 33, 34, 35, 36] ∧ sZ S' 43 ≤ 404 ∧ gPsi S' ≤ gPsi S ∧ sN S' 45 = sN S 45 ∧ (r = 0 ∨ r = 1)) := by
  intro mc ms
  refine hM_of2 rfl (nL := 1) (Nat.le_of_ble_eq_true rfl) ?_
  intro X hX hC hr ho; subst hX
  show hG X d b _ F k n 0 [some (.ref (gO' Y 7))] []
  refine h_aload_n hC dX5_burns_0 rfl ?_
  refine h_get hC fl_X5_48 (hi.1.o 7 (by decide)) rfl dX5_burns_1 ?_
  refine h_iconst (v := 1) hC dX5_burns_4 rfl ?_
  refine h_icmp_ge (tgt := 15) hC dX5_burns_5 (by decide) (fun c1 => ?_) (fun c1 => ?_)
  · refine h_aload_n hC dX5_burns_15 rfl ?_
    refine h_dup hC dX5_burns_16 rfl ?_
    refine h_get hC fl_X5_48 (hi.1.o 7 (by decide)) rfl dX5_burns_17 ?_
    refine h_iconst (v := 1) hC dX5_burns_20 rfl ?_
    refine h_isub hC dX5_burns_21 ?_
    refine h_vi (fun x2 ex2 => ?_)
    refine hi_putx (i := 7) (kx := 31) hC hi (by decide) fl_X5_48 rfl rfl rfl (Nat.le_of_ble_eq_true rfl) rfl gsame_31 (fun q => absurd q (by decide)) dX5_burns_22 (fun F3 S4 I5 K6 s7 v8 p9 => ?_)
    have m10 : gSm S S4 [38, 39, 40, 41, 42, 44, 45] [25, 26, 27, 28, 29, 30, 31, 32, 33, 34, 35, 36] := gSm.wk s7 _ _ rfl rfl
    have NS4 : sN S4 45 = sN S 45 := s7.n 45 (by decide)
    have ZS4 : sZ S4 43 = sZ S 43 := s7.z 43 (by decide)
    refine h_iconst (v := 1) hC dX5_burns_25 rfl ?_
    exact h_iret hC hr ho rfl rfl rfl ⟨S4, I5, K6, m10, by omega, by omega, by omega, by decide⟩ dX5_burns_26
  · refine h_aload_n hC dX5_burns_8 rfl ?_
    refine h_iconst (v := 1) hC dX5_burns_9 rfl ?_
    refine h_callVv (As := [.int 1]) hC hr ho rfl (hi.1.o 7 (by decide)) (s_M_fail X.la d b Y c _ _ _ hi (by omega) (by omega) 1) cl_X5_137 rfl rfl (Nat.le_of_ble_eq_true rfl) (hFr_of (Nat.le_of_ble_eq_true rfl) (Nat.le_of_ble_eq_true rfl)) dX5_burns_10 (fun u12 p13 o14 => ?_)
    obtain ⟨S16, I17, K18, s19, q20⟩ := p13
    have m21 : gSm S S16 [38, 39, 40, 41, 42, 44, 45] [25, 26, 27, 28, 29, 30, 31, 32, 33, 34, 35, 36] := gSm.wk s19 _ _ rfl rfl
    have ZS16 : sZ S16 43 = sZ S 43 := s19.z 43 (by decide)
    obtain ⟨aq20, bq20, nq20⟩ := q20
    refine h_iconst (v := 0) hC dX5_burns_13 rfl ?_
    exact h_iret hC hr o14 rfl rfl rfl ⟨S16, I17, K18, m21, by omega, by omega, by omega, by decide⟩ dX5_burns_14
theorem dX5_put_0 : decode cX5_put 0 = .ok (.aload_n 0, 1) := by decide +kernel
theorem dX5_put_1 : decode cX5_put 1 = .ok (.iload_n 1, 1) := by decide +kernel
theorem dX5_put_2 : decode cX5_put 2 = .ok (.invokevirtual 75, 3) := by decide +kernel
theorem dX5_put_5 : decode cX5_put 5 = .ok (.ifCond .eq 13, 3) := by decide +kernel
theorem dX5_put_8 : decode cX5_put 8 = .ok (.aload_n 0, 1) := by decide +kernel
theorem dX5_put_9 : decode cX5_put 9 = .ok (.getfield 31, 3) := by decide +kernel
theorem dX5_put_12 : decode cX5_put 12 = .ok (.iload_n 1, 1) := by decide +kernel
theorem dX5_put_13 : decode cX5_put 13 = .ok (.iload_n 2, 1) := by decide +kernel
theorem dX5_put_14 : decode cX5_put 14 = .ok (.iastore, 1) := by decide +kernel
theorem dX5_put_15 : decode cX5_put 15 = .ok (.goto 8, 3) := by decide +kernel
theorem dX5_put_18 : decode cX5_put 18 = .ok (.aload_n 0, 1) := by decide +kernel
theorem dX5_put_19 : decode cX5_put 19 = .ok (.iconst 2, 1) := by decide +kernel
theorem dX5_put_20 : decode cX5_put 20 = .ok (.invokevirtual 137, 3) := by decide +kernel
theorem dX5_put_23 : decode cX5_put 23 = .ok (.return_, 1) := by decide +kernel
set_option maxHeartbeats 4000000 in
set_option maxRecDepth 100000 in
theorem s_M_put (l : Launch) (d : gD) (b : Nat) (Y : gYt) (c : Nat × Nat) (F : gM) (k n : Nat) {S : gSt} (hi : hI d b Y c (F, k, n) S) (hA : gPsi S ≤ gAm) (h43 : sZ S 43 ≤ 404) (x y : Int32) : hMv l d b yX5_put cX5_put 3 3 k n F [.ref (gO' Y 7), .int x, .int y] (fun u => ∃ S', hI d b Y c u S' ∧ gKp Y F u.1 ∧ gSm S S' [38, 39, 40, 41, 42, 44, 45] [25, 26, 27, 28, 29, 30, 31, 32, 33, 34, 35, 36] ∧ sZ S' 43 ≤ 404 ∧ gPsi S' ≤ gPsi S ∧ sN S' 45 = sN S 45) := by
  intro mc ms
  refine hM_of2 rfl (nL := 3) (Nat.le_of_ble_eq_true rfl) ?_
  intro X hX hC hr ho; subst hX
  show hG X d b _ F k n 0 [some (.ref (gO' Y 7)), some (.int x), some (.int y)] []
  refine h_aload_n hC dX5_put_0 rfl ?_
  refine h_iload_n hC dX5_put_1 rfl ?_
  refine h_callVi (As := [.int x]) hC hr ho rfl (hi.1.o 7 (by decide)) (s_M_isThere X.la d b Y c _ _ _ hi x) cl_X5_75 rfl rfl (Nat.le_of_ble_eq_true rfl) (hFr_of (Nat.le_of_ble_eq_true rfl) (Nat.le_of_ble_eq_true rfl)) dX5_put_2 (fun r4 u1 p2 o3 => ?_)
  obtain ⟨q5, rfl⟩ := p2
  refine h_if_eq (tgt := 18) hC dX5_put_5 (by decide) (fun c6 => ?_) (fun c6 => ?_)
  · refine h_aload_n hC dX5_put_18 rfl ?_
    refine h_iconst (v := 2) hC dX5_put_19 rfl ?_
    refine h_callVv (As := [.int 2]) hC hr o3 rfl (hi.1.o 7 (by decide)) (s_M_fail X.la d b Y c _ _ _ hi (by omega) (by omega) 2) cl_X5_137 rfl rfl (Nat.le_of_ble_eq_true rfl) (hFr_of (Nat.le_of_ble_eq_true rfl) (Nat.le_of_ble_eq_true rfl)) dX5_put_20 (fun u7 p8 o9 => ?_)
    obtain ⟨S11, I12, K13, s14, q15⟩ := p8
    have m16 : gSm S S11 [38, 39, 40, 41, 42, 44, 45] [25, 26, 27, 28, 29, 30, 31, 32, 33, 34, 35, 36] := gSm.wk s14 _ _ rfl rfl
    have ZS11 : sZ S11 43 = sZ S 43 := s14.z 43 (by decide)
    obtain ⟨aq15, bq15, nq15⟩ := q15
    exact h_vret hC hr o9 rfl rfl ⟨S11, I12, K13, m16, by omega, by omega, by omega⟩ dX5_put_23
  · refine h_aload_n hC dX5_put_8 rfl ?_
    refine h_get hC fl_X5_31 (hi.1.o 7 (by decide)) rfl dX5_put_9 ?_
    refine h_iload_n hC dX5_put_12 rfl ?_
    refine h_iload_n hC dX5_put_13 rfl ?_
    refine hi_cst hC hi (q5.2 c6) dX5_put_14 (fun F18 S19 I20 K21 s22 p23 => ?_)
    have m24 : gSm S S19 [38, 39, 40, 41, 42, 44, 45] [25, 26, 27, 28, 29, 30, 31, 32, 33, 34, 35, 36] := gSm.wk s22 _ _ rfl rfl
    have ZS19 : sZ S19 43 = sZ S 43 := s22.z 43 (by decide)
    have NS19 : sN S19 45 = sN S 45 := p23.2
    have p23 := p23.1
    refine h_goto (tgt := 23) hC dX5_put_15 (by decide) ?_
    exact h_vret hC hr o3 rfl rfl ⟨S19, I20, K21, m24, by omega, by omega, by omega⟩ dX5_put_23
theorem dX5_look_0 : decode cX5_look 0 = .ok (.aload_n 0, 1) := by decide +kernel
theorem dX5_look_1 : decode cX5_look 1 = .ok (.iload_n 1, 1) := by decide +kernel
theorem dX5_look_2 : decode cX5_look 2 = .ok (.invokevirtual 75, 3) := by decide +kernel
theorem dX5_look_5 : decode cX5_look 5 = .ok (.ifCond .eq 10, 3) := by decide +kernel
theorem dX5_look_8 : decode cX5_look 8 = .ok (.aload_n 0, 1) := by decide +kernel
theorem dX5_look_9 : decode cX5_look 9 = .ok (.getfield 31, 3) := by decide +kernel
theorem dX5_look_12 : decode cX5_look 12 = .ok (.iload_n 1, 1) := by decide +kernel
theorem dX5_look_13 : decode cX5_look 13 = .ok (.iaload, 1) := by decide +kernel
theorem dX5_look_14 : decode cX5_look 14 = .ok (.ireturn, 1) := by decide +kernel
theorem dX5_look_15 : decode cX5_look 15 = .ok (.aload_n 0, 1) := by decide +kernel
theorem dX5_look_16 : decode cX5_look 16 = .ok (.iconst 2, 1) := by decide +kernel
theorem dX5_look_17 : decode cX5_look 17 = .ok (.invokevirtual 137, 3) := by decide +kernel
theorem dX5_look_20 : decode cX5_look 20 = .ok (.iconst 0, 1) := by decide +kernel
theorem dX5_look_21 : decode cX5_look 21 = .ok (.ireturn, 1) := by decide +kernel
set_option maxHeartbeats 4000000 in
set_option maxRecDepth 100000 in
theorem s_M_look (l : Launch) (d : gD) (b : Nat) (Y : gYt) (c : Nat × Nat) (F : gM) (k n : Nat) {S : gSt} (hi : hI d b Y c (F, k, n) S) (hA : gPsi S ≤ gAm) (h43 : sZ S 43 ≤ 404) (x : Int32) : hMi l d b yX5_look cX5_look 2 .int 3 k n F [.ref (gO' Y 7), .int x] (fun r u => ∃ S', hI d b Y c u S' ∧ gKp Y F u.1 ∧ gSm S S' [38, 39, 40, 41, 42, 44, 45] [25, 26, 27, 28, 29, 30, 31, 32, 33, 34, 35, 36] ∧ sZ S' 43 ≤ 404 ∧ gPsi S' ≤ gPsi S ∧ sN S' 45 = sN S 45) := by
  intro mc ms
  refine hM_of2 rfl (nL := 2) (Nat.le_of_ble_eq_true rfl) ?_
  intro X hX hC hr ho; subst hX
  show hG X d b _ F k n 0 [some (.ref (gO' Y 7)), some (.int x)] []
  refine h_aload_n hC dX5_look_0 rfl ?_
  refine h_iload_n hC dX5_look_1 rfl ?_
  refine h_callVi (As := [.int x]) hC hr ho rfl (hi.1.o 7 (by decide)) (s_M_isThere X.la d b Y c _ _ _ hi x) cl_X5_75 rfl rfl (Nat.le_of_ble_eq_true rfl) (hFr_of (Nat.le_of_ble_eq_true rfl) (Nat.le_of_ble_eq_true rfl)) dX5_look_2 (fun r4 u1 p2 o3 => ?_)
  obtain ⟨q5, rfl⟩ := p2
  refine h_if_eq (tgt := 15) hC dX5_look_5 (by decide) (fun c6 => ?_) (fun c6 => ?_)
  · refine h_aload_n hC dX5_look_15 rfl ?_
    refine h_iconst (v := 2) hC dX5_look_16 rfl ?_
    refine h_callVv (As := [.int 2]) hC hr o3 rfl (hi.1.o 7 (by decide)) (s_M_fail X.la d b Y c _ _ _ hi (by omega) (by omega) 2) cl_X5_137 rfl rfl (Nat.le_of_ble_eq_true rfl) (hFr_of (Nat.le_of_ble_eq_true rfl) (Nat.le_of_ble_eq_true rfl)) dX5_look_17 (fun u7 p8 o9 => ?_)
    obtain ⟨S11, I12, K13, s14, q15⟩ := p8
    have m16 : gSm S S11 [38, 39, 40, 41, 42, 44, 45] [25, 26, 27, 28, 29, 30, 31, 32, 33, 34, 35, 36] := gSm.wk s14 _ _ rfl rfl
    have ZS11 : sZ S11 43 = sZ S 43 := s14.z 43 (by decide)
    obtain ⟨aq15, bq15, nq15⟩ := q15
    refine h_iconst (v := 0) hC dX5_look_20 rfl ?_
    exact h_iret hC hr o9 rfl rfl rfl ⟨S11, I12, K13, m16, by omega, by omega, by omega⟩ dX5_look_21
  · refine h_aload_n hC dX5_look_8 rfl ?_
    refine h_get hC fl_X5_31 (hi.1.o 7 (by decide)) rfl dX5_look_9 ?_
    refine h_iload_n hC dX5_look_12 rfl ?_
    refine h_iald hC hi.1.c (q5.2 c6) dX5_look_13 ?_
    refine h_vi (fun x18 ex18 => ?_)
    exact h_iret hC hr o3 rfl rfl rfl ⟨S, hi, gKp.rf, gSm.rf, h43, Nat.le_refl _, rfl⟩ dX5_look_14
theorem dX5_wordOfByte_0 : decode cX5_wordOfByte 0 = .ok (.iload_n 1, 1) := by decide +kernel
theorem dX5_wordOfByte_1 : decode cX5_wordOfByte 1 = .ok (.i2l, 1) := by decide +kernel
theorem dX5_wordOfByte_2 : decode cX5_wordOfByte 2 = .ok (.iload_n 2, 1) := by decide +kernel
theorem dX5_wordOfByte_3 : decode cX5_wordOfByte 3 = .ok (.iconst 2, 1) := by decide +kernel
theorem dX5_wordOfByte_4 : decode cX5_wordOfByte 4 = .ok (.ishr, 1) := by decide +kernel
theorem dX5_wordOfByte_5 : decode cX5_wordOfByte 5 = .ok (.i2l, 1) := by decide +kernel
theorem dX5_wordOfByte_6 : decode cX5_wordOfByte 6 = .ok (.ladd, 1) := by decide +kernel
theorem dX5_wordOfByte_7 : decode cX5_wordOfByte 7 = .ok (.lstore_n 3, 1) := by decide +kernel
theorem dX5_wordOfByte_8 : decode cX5_wordOfByte 8 = .ok (.lload_n 3, 1) := by decide +kernel
theorem dX5_wordOfByte_9 : decode cX5_wordOfByte 9 = .ok (.lconst 0, 1) := by decide +kernel
theorem dX5_wordOfByte_10 : decode cX5_wordOfByte 10 = .ok (.lcmp, 1) := by decide +kernel
theorem dX5_wordOfByte_11 : decode cX5_wordOfByte 11 = .ok (.ifCond .lt 13, 3) := by decide +kernel
theorem dX5_wordOfByte_14 : decode cX5_wordOfByte 14 = .ok (.lload_n 3, 1) := by decide +kernel
theorem dX5_wordOfByte_15 : decode cX5_wordOfByte 15 = .ok (.aload_n 0, 1) := by decide +kernel
theorem dX5_wordOfByte_16 : decode cX5_wordOfByte 16 = .ok (.getfield 35, 3) := by decide +kernel
theorem dX5_wordOfByte_19 : decode cX5_wordOfByte 19 = .ok (.i2l, 1) := by decide +kernel
theorem dX5_wordOfByte_20 : decode cX5_wordOfByte 20 = .ok (.lcmp, 1) := by decide +kernel
theorem dX5_wordOfByte_21 : decode cX5_wordOfByte 21 = .ok (.ifCond .lt 10, 3) := by decide +kernel
theorem dX5_wordOfByte_24 : decode cX5_wordOfByte 24 = .ok (.aload_n 0, 1) := by decide +kernel
theorem dX5_wordOfByte_25 : decode cX5_wordOfByte 25 = .ok (.iconst 2, 1) := by decide +kernel
theorem dX5_wordOfByte_26 : decode cX5_wordOfByte 26 = .ok (.invokevirtual 137, 3) := by decide +kernel
theorem dX5_wordOfByte_29 : decode cX5_wordOfByte 29 = .ok (.iconst (-1), 1) := by decide +kernel
theorem dX5_wordOfByte_30 : decode cX5_wordOfByte 30 = .ok (.ireturn, 1) := by decide +kernel
theorem dX5_wordOfByte_31 : decode cX5_wordOfByte 31 = .ok (.lload_n 3, 1) := by decide +kernel
theorem dX5_wordOfByte_32 : decode cX5_wordOfByte 32 = .ok (.l2i, 1) := by decide +kernel
theorem dX5_wordOfByte_33 : decode cX5_wordOfByte 33 = .ok (.ireturn, 1) := by decide +kernel
set_option maxHeartbeats 4000000 in
set_option maxRecDepth 100000 in
theorem s_M_wordOfByte (l : Launch) (d : gD) (b : Nat) (Y : gYt) (c : Nat × Nat) (F : gM) (k n : Nat) {S : gSt} (hi : hI d b Y c (F, k, n) S) (hA : gPsi S ≤ gAm) (h43 : sZ S 43 ≤ 404) (x y : Int32) : hMi l d b yX5_wordOfByte cX5_wordOfByte 5 .int 3 k n F [.ref (gO' Y 7), .int x, .int y] (fun r u => ∃ S', hI d b Y c u S' ∧ gKp Y F u.1 ∧ gSm S S' [38, 39, 40, 41, 42, 44, 45] [25, 26, 27, 28, 29, 30, 31, 32, 33, 34, 35, 36] ∧ sZ S' 43 ≤ 404 ∧ gPsi S' ≤ gPsi S ∧ sN S' 45 = sN S 45) := by
  intro mc ms
  refine hM_of2 rfl (nL := 5) (Nat.le_of_ble_eq_true rfl) ?_
  intro X hX hC hr ho; subst hX
  show hG X d b _ F k n 0 [some (.ref (gO' Y 7)), some (.int x), some (.int y), none, none] []
  refine h_iload_n hC dX5_wordOfByte_0 rfl ?_
  refine h_i2l hC dX5_wordOfByte_1 ?_
  refine h_vl (fun x1 ex1 => ?_)
  refine h_iload_n hC dX5_wordOfByte_2 rfl ?_
  refine h_iconst (v := 2) hC dX5_wordOfByte_3 rfl ?_
  refine h_ishr hC dX5_wordOfByte_4 ?_
  refine h_vi (fun x2 ex2 => ?_)
  refine h_i2l hC dX5_wordOfByte_5 ?_
  refine h_vl (fun x3 ex3 => ?_)
  refine h_ladd hC dX5_wordOfByte_6 ?_
  refine h_vl (fun x4 ex4 => ?_)
  refine h_lstore_n (lv' := [some (.ref (gO' Y 7)), some (.int x), some (.int y), some (.long x4), none]) hC dX5_wordOfByte_7 (Nat.le_of_ble_eq_true rfl) rfl rfl ?_
  refine h_lload_n hC dX5_wordOfByte_8 rfl ?_
  refine h_lconst (v := 0) hC dX5_wordOfByte_9 rfl ?_
  refine h_lcmp hC dX5_wordOfByte_10 ?_
  refine h_vi (fun x5 ex5 => ?_)
  refine h_if_lt (tgt := 24) hC dX5_wordOfByte_11 (by decide) (fun c6 => ?_) (fun c6 => ?_)
  · refine h_aload_n hC dX5_wordOfByte_24 rfl ?_
    refine h_iconst (v := 2) hC dX5_wordOfByte_25 rfl ?_
    refine h_callVv (As := [.int 2]) hC hr ho rfl (hi.1.o 7 (by decide)) (s_M_fail X.la d b Y c _ _ _ hi (by omega) (by omega) 2) cl_X5_137 rfl rfl (Nat.le_of_ble_eq_true rfl) (hFr_of (Nat.le_of_ble_eq_true rfl) (Nat.le_of_ble_eq_true rfl)) dX5_wordOfByte_26 (fun u7 p8 o9 => ?_)
    obtain ⟨S11, I12, K13, s14, q15⟩ := p8
    have m16 : gSm S S11 [38, 39, 40, 41, 42, 44, 45] [25, 26, 27, 28, 29, 30, 31, 32, 33, 34, 35, 36] := gSm.wk s14 _ _ rfl rfl
    have ZS11 : sZ S11 43 = sZ S 43 := s14.z 43 (by decide)
    obtain ⟨aq15, bq15, nq15⟩ := q15
    refine h_iconst (v := (-1)) hC dX5_wordOfByte_29 rfl ?_
    exact h_iret hC hr o9 rfl rfl rfl ⟨S11, I12, K13, m16, by omega, by omega, by omega⟩ dX5_wordOfByte_30
  · refine h_lload_n hC dX5_wordOfByte_14 rfl ?_
    refine h_aload_n hC dX5_wordOfByte_15 rfl ?_
    refine h_get hC fl_X5_35 (hi.1.o 7 (by decide)) rfl dX5_wordOfByte_16 ?_
    refine h_i2l hC dX5_wordOfByte_19 ?_
    refine h_vl (fun x18 ex18 => ?_)
    refine h_lcmp hC dX5_wordOfByte_20 ?_
    refine h_vi (fun x19 ex19 => ?_)
    refine h_if_lt (tgt := 31) hC dX5_wordOfByte_21 (by decide) (fun c20 => ?_) (fun c20 => ?_)
    · refine h_lload_n hC dX5_wordOfByte_31 rfl ?_
      refine h_l2i hC dX5_wordOfByte_32 ?_
      refine h_vi (fun x21 ex21 => ?_)
      exact h_iret hC hr ho rfl rfl rfl ⟨S, hi, gKp.rf, gSm.rf, h43, Nat.le_refl _, rfl⟩ dX5_wordOfByte_33
    · refine h_aload_n hC dX5_wordOfByte_24 rfl ?_
      refine h_iconst (v := 2) hC dX5_wordOfByte_25 rfl ?_
      refine h_callVv (As := [.int 2]) hC hr ho rfl (hi.1.o 7 (by decide)) (s_M_fail X.la d b Y c _ _ _ hi (by omega) (by omega) 2) cl_X5_137 rfl rfl (Nat.le_of_ble_eq_true rfl) (hFr_of (Nat.le_of_ble_eq_true rfl) (Nat.le_of_ble_eq_true rfl)) dX5_wordOfByte_26 (fun u22 p23 o24 => ?_)
      obtain ⟨S26, I27, K28, s29, q30⟩ := p23
      have m31 : gSm S S26 [38, 39, 40, 41, 42, 44, 45] [25, 26, 27, 28, 29, 30, 31, 32, 33, 34, 35, 36] := gSm.wk s29 _ _ rfl rfl
      have ZS26 : sZ S26 43 = sZ S 43 := s29.z 43 (by decide)
      obtain ⟨aq30, bq30, nq30⟩ := q30
      refine h_iconst (v := (-1)) hC dX5_wordOfByte_29 rfl ?_
      exact h_iret hC hr o24 rfl rfl rfl ⟨S26, I27, K28, m31, by omega, by omega, by omega⟩ dX5_wordOfByte_30
theorem dX5_lookByte_0 : decode cX5_lookByte 0 = .ok (.aload_n 0, 1) := by decide +kernel
theorem dX5_lookByte_1 : decode cX5_lookByte 1 = .ok (.getfield 24, 3) := by decide +kernel
theorem dX5_lookByte_4 : decode cX5_lookByte 4 = .ok (.invokevirtual 146, 3) := by decide +kernel
theorem dX5_lookByte_7 : decode cX5_lookByte 7 = .ok (.istore_n 1, 1) := by decide +kernel
theorem dX5_lookByte_8 : decode cX5_lookByte 8 = .ok (.aload_n 0, 1) := by decide +kernel
theorem dX5_lookByte_9 : decode cX5_lookByte 9 = .ok (.aload_n 0, 1) := by decide +kernel
theorem dX5_lookByte_10 : decode cX5_lookByte 10 = .ok (.getfield 24, 3) := by decide +kernel
theorem dX5_lookByte_13 : decode cX5_lookByte 13 = .ok (.invokevirtual 146, 3) := by decide +kernel
theorem dX5_lookByte_16 : decode cX5_lookByte 16 = .ok (.iload_n 1, 1) := by decide +kernel
theorem dX5_lookByte_17 : decode cX5_lookByte 17 = .ok (.invokevirtual 192, 3) := by decide +kernel
theorem dX5_lookByte_20 : decode cX5_lookByte 20 = .ok (.istore_n 2, 1) := by decide +kernel
theorem dX5_lookByte_21 : decode cX5_lookByte 21 = .ok (.aload_n 0, 1) := by decide +kernel
theorem dX5_lookByte_22 : decode cX5_lookByte 22 = .ok (.getfield 57, 3) := by decide +kernel
theorem dX5_lookByte_25 : decode cX5_lookByte 25 = .ok (.ifCond .ne 26, 3) := by decide +kernel
theorem dX5_lookByte_28 : decode cX5_lookByte 28 = .ok (.aload_n 0, 1) := by decide +kernel
theorem dX5_lookByte_29 : decode cX5_lookByte 29 = .ok (.getfield 24, 3) := by decide +kernel
theorem dX5_lookByte_32 : decode cX5_lookByte 32 = .ok (.aload_n 0, 1) := by decide +kernel
theorem dX5_lookByte_33 : decode cX5_lookByte 33 = .ok (.iload_n 2, 1) := by decide +kernel
theorem dX5_lookByte_34 : decode cX5_lookByte 34 = .ok (.invokevirtual 143, 3) := by decide +kernel
theorem dX5_lookByte_37 : decode cX5_lookByte 37 = .ok (.bipush 8, 2) := by decide +kernel
theorem dX5_lookByte_39 : decode cX5_lookByte 39 = .ok (.iload_n 1, 1) := by decide +kernel
theorem dX5_lookByte_40 : decode cX5_lookByte 40 = .ok (.iconst 3, 1) := by decide +kernel
theorem dX5_lookByte_41 : decode cX5_lookByte 41 = .ok (.iand, 1) := by decide +kernel
theorem dX5_lookByte_42 : decode cX5_lookByte 42 = .ok (.imul, 1) := by decide +kernel
theorem dX5_lookByte_43 : decode cX5_lookByte 43 = .ok (.iushr, 1) := by decide +kernel
theorem dX5_lookByte_44 : decode cX5_lookByte 44 = .ok (.sipush 255, 3) := by decide +kernel
theorem dX5_lookByte_47 : decode cX5_lookByte 47 = .ok (.iand, 1) := by decide +kernel
theorem dX5_lookByte_48 : decode cX5_lookByte 48 = .ok (.invokevirtual 140, 3) := by decide +kernel
theorem dX5_lookByte_51 : decode cX5_lookByte 51 = .ok (.return_, 1) := by decide +kernel
set_option maxHeartbeats 4000000 in
set_option maxRecDepth 100000 in
theorem s_M_lookByte (l : Launch) (d : gD) (b : Nat) (Y : gYt) (c : Nat × Nat) (F : gM) (k n : Nat) {S : gSt} (hi : hI d b Y c (F, k, n) S) (hA : gPsi S ≤ gAm) (h43 : sZ S 43 ≤ 404) : hMv l d b yX5_lookByte cX5_lookByte 3 5 k n F [.ref (gO' Y 7)] (fun u => ∃ S', hI d b Y c u S' ∧ gKp Y F u.1 ∧ gSm S S' [38, 39, 40, 41, 42, 44, 45] [25, 26, 27, 28, 29, 30, 31, 32, 33, 34, 35, 36] ∧ sZ S' 43 ≤ 404 ∧ gPsi S' ≤ gPsi S ∧ sN S' 45 = sN S 45) := by
  intro mc ms
  refine hM_of2 rfl (nL := 3) (Nat.le_of_ble_eq_true rfl) ?_
  intro X hX hC hr ho; subst hX
  show hG X d b _ F k n 0 [some (.ref (gO' Y 7)), none, none] []
  refine h_aload_n hC dX5_lookByte_0 rfl ?_
  refine h_get hC fl_X5_24 (hi.1.o 7 (by decide)) rfl dX5_lookByte_1 ?_
  refine hi_pop (j := 42) hC hr ho hi (by decide) cl_X5_146 rfl (Nat.le_of_ble_eq_true rfl) (hFr_of (Nat.le_of_ble_eq_true rfl) (Nat.le_of_ble_eq_true rfl)) dX5_lookByte_4 (fun r7 F1 S2 I3 K4 s5 a6 => ?_)
  have m8 : gSm S S2 [38, 39, 40, 41, 42, 44, 45] [25, 26, 27, 28, 29, 30, 31, 32, 33, 34, 35, 36] := gSm.wk s5 _ _ rfl rfl
  have NS2 : sN S2 45 = sN S 45 := s5.n 45 (by decide)
  have ZS2 : sZ S2 43 = sZ S 43 := s5.z 43 (by decide)
  have Pa6 : gPsi S2 ≤ gPsi S := a6.2.2.2.2.2
  refine h_istore_n (lv' := [some (.ref (gO' Y 7)), some (.int r7), none]) hC dX5_lookByte_7 (Nat.le_of_ble_eq_true rfl) rfl rfl ?_
  refine h_aload_n hC dX5_lookByte_8 rfl ?_
  refine h_aload_n hC dX5_lookByte_9 rfl ?_
  refine h_get hC fl_X5_24 (I3.1.o 7 (by decide)) rfl dX5_lookByte_10 ?_
  refine hi_pop (j := 42) hC hr ho I3 (by decide) cl_X5_146 rfl (Nat.le_of_ble_eq_true rfl) (hFr_of (Nat.le_of_ble_eq_true rfl) (Nat.le_of_ble_eq_true rfl)) dX5_lookByte_13 (fun r16 F10 S11 I12 K13 s14 a15 => ?_)
  have m17 : gSm S S11 [38, 39, 40, 41, 42, 44, 45] [25, 26, 27, 28, 29, 30, 31, 32, 33, 34, 35, 36] := m8.tr s14 _ _ rfl rfl
  have K18 := K4.tr K13
  have NS11 : sN S11 45 = sN S2 45 := s14.n 45 (by decide)
  have ZS11 : sZ S11 43 = sZ S2 43 := s14.z 43 (by decide)
  have Pa15 : gPsi S11 ≤ gPsi S2 := a15.2.2.2.2.2
  refine h_iload_n hC dX5_lookByte_16 rfl ?_
  refine h_callVi (As := [.int r16, .int r7]) hC hr ho rfl (I12.1.o 7 (by decide)) (s_M_wordOfByte X.la d b Y c _ _ _ I12 (by omega) (by omega) r16 r7) cl_X5_192 rfl rfl (Nat.le_of_ble_eq_true rfl) (hFr_of (Nat.le_of_ble_eq_true rfl) (Nat.le_of_ble_eq_true rfl)) dX5_lookByte_17 (fun r22 u19 p20 o21 => ?_)
  obtain ⟨S23, I24, K25, s26, q27⟩ := p20
  have m28 : gSm S S23 [38, 39, 40, 41, 42, 44, 45] [25, 26, 27, 28, 29, 30, 31, 32, 33, 34, 35, 36] := m17.tr s26 _ _ rfl rfl
  have K29 := K18.tr K25
  have ZS23 : sZ S23 43 = sZ S11 43 := s26.z 43 (by decide)
  obtain ⟨aq27, bq27, nq27⟩ := q27
  refine h_istore_n (lv' := [some (.ref (gO' Y 7)), some (.int r7), some (.int r22)]) hC dX5_lookByte_20 (Nat.le_of_ble_eq_true rfl) rfl rfl ?_
  refine h_aload_n hC dX5_lookByte_21 rfl ?_
  refine h_get hC fl_X5_57 (I24.1.o 7 (by decide)) rfl dX5_lookByte_22 ?_
  refine h_if_ne (tgt := 51) hC dX5_lookByte_25 (by decide) (fun c30 => ?_) (fun c30 => ?_)
  · exact h_vret hC hr o21 rfl rfl ⟨S23, I24, K29, m28, by omega, by omega, by omega⟩ dX5_lookByte_51
  · refine h_aload_n hC dX5_lookByte_28 rfl ?_
    refine h_get hC fl_X5_24 (I24.1.o 7 (by decide)) rfl dX5_lookByte_29 ?_
    refine h_aload_n hC dX5_lookByte_32 rfl ?_
    refine h_iload_n hC dX5_lookByte_33 rfl ?_
    refine h_callVi (As := [.int r22]) hC hr o21 rfl (I24.1.o 7 (by decide)) (s_M_look X.la d b Y c _ _ _ I24 (by omega) (by omega) r22) cl_X5_143 rfl rfl (Nat.le_of_ble_eq_true rfl) (hFr_of (Nat.le_of_ble_eq_true rfl) (Nat.le_of_ble_eq_true rfl)) dX5_lookByte_34 (fun r34 u31 p32 o33 => ?_)
    obtain ⟨S35, I36, K37, s38, q39⟩ := p32
    have m40 : gSm S S35 [38, 39, 40, 41, 42, 44, 45] [25, 26, 27, 28, 29, 30, 31, 32, 33, 34, 35, 36] := m28.tr s38 _ _ rfl rfl
    have K41 := K29.tr K37
    have ZS35 : sZ S35 43 = sZ S23 43 := s38.z 43 (by decide)
    obtain ⟨aq39, bq39, nq39⟩ := q39
    refine h_bipush (v := 8) hC dX5_lookByte_37 rfl ?_
    refine h_iload_n hC dX5_lookByte_39 rfl ?_
    refine h_iconst (v := 3) hC dX5_lookByte_40 rfl ?_
    refine h_iand hC dX5_lookByte_41 ?_
    refine h_vi (fun x42 ex42 => ?_)
    refine h_imul hC dX5_lookByte_42 ?_
    refine h_vi (fun x43 ex43 => ?_)
    refine h_iushr hC dX5_lookByte_43 ?_
    refine h_vi (fun x44 ex44 => ?_)
    refine h_sipush (v := 255) hC dX5_lookByte_44 rfl ?_
    refine h_iand hC dX5_lookByte_47 ?_
    refine h_vi (fun x45 ex45 => ?_)
    refine hi_add (j := 42) hC hr o33 I36 (by decide) ⟨fun q => absurd q (by decide), fun q => absurd q (by decide), by omega⟩ cl_X5_140 rfl (Nat.le_of_ble_eq_true rfl) (hFr_of (Nat.le_of_ble_eq_true rfl) (Nat.le_of_ble_eq_true rfl)) dX5_lookByte_48 (fun u53 S47 I48 o52 K49 s50 a51 => ?_)
    have m54 : gSm S S47 [38, 39, 40, 41, 42, 44, 45] [25, 26, 27, 28, 29, 30, 31, 32, 33, 34, 35, 36] := m40.tr s50 _ _ rfl rfl
    have K55 := K41.tr K49
    have NS47 : sN S47 45 = sN S35 45 := s50.n 45 (by decide)
    have ZS47 : sZ S47 43 = sZ S35 43 := s50.z 43 (by decide)
    have Pa51 : gPsi S47 = gPsi S35 := a51.2.2.2 (by decide)
    exact h_vret hC hr o52 rfl rfl ⟨S47, I48, K55, m54, by omega, by omega, by omega⟩ dX5_lookByte_51
theorem dX5_putByte_0 : decode cX5_putByte 0 = .ok (.aload_n 0, 1) := by decide +kernel
theorem dX5_putByte_1 : decode cX5_putByte 1 = .ok (.getfield 24, 3) := by decide +kernel
theorem dX5_putByte_4 : decode cX5_putByte 4 = .ok (.invokevirtual 146, 3) := by decide +kernel
theorem dX5_putByte_7 : decode cX5_putByte 7 = .ok (.istore_n 1, 1) := by decide +kernel
theorem dX5_putByte_8 : decode cX5_putByte 8 = .ok (.aload_n 0, 1) := by decide +kernel
theorem dX5_putByte_9 : decode cX5_putByte 9 = .ok (.aload_n 0, 1) := by decide +kernel
theorem dX5_putByte_10 : decode cX5_putByte 10 = .ok (.getfield 24, 3) := by decide +kernel
theorem dX5_putByte_13 : decode cX5_putByte 13 = .ok (.invokevirtual 146, 3) := by decide +kernel
theorem dX5_putByte_16 : decode cX5_putByte 16 = .ok (.iload_n 1, 1) := by decide +kernel
theorem dX5_putByte_17 : decode cX5_putByte 17 = .ok (.invokevirtual 192, 3) := by decide +kernel
theorem dX5_putByte_20 : decode cX5_putByte 20 = .ok (.istore_n 2, 1) := by decide +kernel
theorem dX5_putByte_21 : decode cX5_putByte 21 = .ok (.aload_n 0, 1) := by decide +kernel
theorem dX5_putByte_22 : decode cX5_putByte 22 = .ok (.getfield 24, 3) := by decide +kernel
theorem dX5_putByte_25 : decode cX5_putByte 25 = .ok (.invokevirtual 146, 3) := by decide +kernel
theorem dX5_putByte_28 : decode cX5_putByte 28 = .ok (.istore_n 3, 1) := by decide +kernel
theorem dX5_putByte_29 : decode cX5_putByte 29 = .ok (.bipush 8, 2) := by decide +kernel
theorem dX5_putByte_31 : decode cX5_putByte 31 = .ok (.iload_n 1, 1) := by decide +kernel
theorem dX5_putByte_32 : decode cX5_putByte 32 = .ok (.iconst 3, 1) := by decide +kernel
theorem dX5_putByte_33 : decode cX5_putByte 33 = .ok (.iand, 1) := by decide +kernel
theorem dX5_putByte_34 : decode cX5_putByte 34 = .ok (.imul, 1) := by decide +kernel
theorem dX5_putByte_35 : decode cX5_putByte 35 = .ok (.istore 4, 2) := by decide +kernel
theorem dX5_putByte_37 : decode cX5_putByte 37 = .ok (.aload_n 0, 1) := by decide +kernel
theorem dX5_putByte_38 : decode cX5_putByte 38 = .ok (.getfield 57, 3) := by decide +kernel
theorem dX5_putByte_41 : decode cX5_putByte 41 = .ok (.ifCond .ne 31, 3) := by decide +kernel
theorem dX5_putByte_44 : decode cX5_putByte 44 = .ok (.aload_n 0, 1) := by decide +kernel
theorem dX5_putByte_45 : decode cX5_putByte 45 = .ok (.iload_n 2, 1) := by decide +kernel
theorem dX5_putByte_46 : decode cX5_putByte 46 = .ok (.aload_n 0, 1) := by decide +kernel
theorem dX5_putByte_47 : decode cX5_putByte 47 = .ok (.iload_n 2, 1) := by decide +kernel
theorem dX5_putByte_48 : decode cX5_putByte 48 = .ok (.invokevirtual 143, 3) := by decide +kernel
theorem dX5_putByte_51 : decode cX5_putByte 51 = .ok (.sipush 255, 3) := by decide +kernel
theorem dX5_putByte_54 : decode cX5_putByte 54 = .ok (.iload 4, 2) := by decide +kernel
theorem dX5_putByte_56 : decode cX5_putByte 56 = .ok (.ishl, 1) := by decide +kernel
theorem dX5_putByte_57 : decode cX5_putByte 57 = .ok (.iconst (-1), 1) := by decide +kernel
theorem dX5_putByte_58 : decode cX5_putByte 58 = .ok (.ixor, 1) := by decide +kernel
theorem dX5_putByte_59 : decode cX5_putByte 59 = .ok (.iand, 1) := by decide +kernel
theorem dX5_putByte_60 : decode cX5_putByte 60 = .ok (.iload_n 3, 1) := by decide +kernel
theorem dX5_putByte_61 : decode cX5_putByte 61 = .ok (.sipush 255, 3) := by decide +kernel
theorem dX5_putByte_64 : decode cX5_putByte 64 = .ok (.iand, 1) := by decide +kernel
theorem dX5_putByte_65 : decode cX5_putByte 65 = .ok (.iload 4, 2) := by decide +kernel
theorem dX5_putByte_67 : decode cX5_putByte 67 = .ok (.ishl, 1) := by decide +kernel
theorem dX5_putByte_68 : decode cX5_putByte 68 = .ok (.ior, 1) := by decide +kernel
theorem dX5_putByte_69 : decode cX5_putByte 69 = .ok (.invokevirtual 123, 3) := by decide +kernel
theorem dX5_putByte_72 : decode cX5_putByte 72 = .ok (.return_, 1) := by decide +kernel
set_option maxHeartbeats 4000000 in
set_option maxRecDepth 100000 in
theorem s_M_putByte (l : Launch) (d : gD) (b : Nat) (Y : gYt) (c : Nat × Nat) (F : gM) (k n : Nat) {S : gSt} (hi : hI d b Y c (F, k, n) S) (hA : gPsi S ≤ gAm) (h43 : sZ S 43 ≤ 404) : hMv l d b yX5_putByte cX5_putByte 5 5 k n F [.ref (gO' Y 7)] (fun u => ∃ S', hI d b Y c u S' ∧ gKp Y F u.1 ∧ gSm S S' [38, 39, 40, 41, 42, 44, 45] [25, 26, 27, 28, 29, 30, 31, 32, 33, 34, 35, 36] ∧ sZ S' 43 ≤ 404 ∧ gPsi S' ≤ gPsi S ∧ sN S' 45 = sN S 45) := by
  intro mc ms
  refine hM_of2 rfl (nL := 5) (Nat.le_of_ble_eq_true rfl) ?_
  intro X hX hC hr ho; subst hX
  show hG X d b _ F k n 0 [some (.ref (gO' Y 7)), none, none, none, none] []
  refine h_aload_n hC dX5_putByte_0 rfl ?_
  refine h_get hC fl_X5_24 (hi.1.o 7 (by decide)) rfl dX5_putByte_1 ?_
  refine hi_pop (j := 42) hC hr ho hi (by decide) cl_X5_146 rfl (Nat.le_of_ble_eq_true rfl) (hFr_of (Nat.le_of_ble_eq_true rfl) (Nat.le_of_ble_eq_true rfl)) dX5_putByte_4 (fun r7 F1 S2 I3 K4 s5 a6 => ?_)
  have m8 : gSm S S2 [38, 39, 40, 41, 42, 44, 45] [25, 26, 27, 28, 29, 30, 31, 32, 33, 34, 35, 36] := gSm.wk s5 _ _ rfl rfl
  have NS2 : sN S2 45 = sN S 45 := s5.n 45 (by decide)
  have ZS2 : sZ S2 43 = sZ S 43 := s5.z 43 (by decide)
  have Pa6 : gPsi S2 ≤ gPsi S := a6.2.2.2.2.2
  refine h_istore_n (lv' := [some (.ref (gO' Y 7)), some (.int r7), none, none, none]) hC dX5_putByte_7 (Nat.le_of_ble_eq_true rfl) rfl rfl ?_
  refine h_aload_n hC dX5_putByte_8 rfl ?_
  refine h_aload_n hC dX5_putByte_9 rfl ?_
  refine h_get hC fl_X5_24 (I3.1.o 7 (by decide)) rfl dX5_putByte_10 ?_
  refine hi_pop (j := 42) hC hr ho I3 (by decide) cl_X5_146 rfl (Nat.le_of_ble_eq_true rfl) (hFr_of (Nat.le_of_ble_eq_true rfl) (Nat.le_of_ble_eq_true rfl)) dX5_putByte_13 (fun r16 F10 S11 I12 K13 s14 a15 => ?_)
  have m17 : gSm S S11 [38, 39, 40, 41, 42, 44, 45] [25, 26, 27, 28, 29, 30, 31, 32, 33, 34, 35, 36] := m8.tr s14 _ _ rfl rfl
  have K18 := K4.tr K13
  have NS11 : sN S11 45 = sN S2 45 := s14.n 45 (by decide)
  have ZS11 : sZ S11 43 = sZ S2 43 := s14.z 43 (by decide)
  have Pa15 : gPsi S11 ≤ gPsi S2 := a15.2.2.2.2.2
  refine h_iload_n hC dX5_putByte_16 rfl ?_
  refine h_callVi (As := [.int r16, .int r7]) hC hr ho rfl (I12.1.o 7 (by decide)) (s_M_wordOfByte X.la d b Y c _ _ _ I12 (by omega) (by omega) r16 r7) cl_X5_192 rfl rfl (Nat.le_of_ble_eq_true rfl) (hFr_of (Nat.le_of_ble_eq_true rfl) (Nat.le_of_ble_eq_true rfl)) dX5_putByte_17 (fun r22 u19 p20 o21 => ?_)
  obtain ⟨S23, I24, K25, s26, q27⟩ := p20
  have m28 : gSm S S23 [38, 39, 40, 41, 42, 44, 45] [25, 26, 27, 28, 29, 30, 31, 32, 33, 34, 35, 36] := m17.tr s26 _ _ rfl rfl
  have K29 := K18.tr K25
  have ZS23 : sZ S23 43 = sZ S11 43 := s26.z 43 (by decide)
  obtain ⟨aq27, bq27, nq27⟩ := q27
  refine h_istore_n (lv' := [some (.ref (gO' Y 7)), some (.int r7), some (.int r22), none, none]) hC dX5_putByte_20 (Nat.le_of_ble_eq_true rfl) rfl rfl ?_
  refine h_aload_n hC dX5_putByte_21 rfl ?_
  refine h_get hC fl_X5_24 (I24.1.o 7 (by decide)) rfl dX5_putByte_22 ?_
  refine hi_pop (j := 42) hC hr o21 I24 (by decide) cl_X5_146 rfl (Nat.le_of_ble_eq_true rfl) (hFr_of (Nat.le_of_ble_eq_true rfl) (Nat.le_of_ble_eq_true rfl)) dX5_putByte_25 (fun r36 F30 S31 I32 K33 s34 a35 => ?_)
  have m37 : gSm S S31 [38, 39, 40, 41, 42, 44, 45] [25, 26, 27, 28, 29, 30, 31, 32, 33, 34, 35, 36] := m28.tr s34 _ _ rfl rfl
  have K38 := K29.tr K33
  have NS31 : sN S31 45 = sN S23 45 := s34.n 45 (by decide)
  have ZS31 : sZ S31 43 = sZ S23 43 := s34.z 43 (by decide)
  have Pa35 : gPsi S31 ≤ gPsi S23 := a35.2.2.2.2.2
  refine h_istore_n (lv' := [some (.ref (gO' Y 7)), some (.int r7), some (.int r22), some (.int r36), none]) hC dX5_putByte_28 (Nat.le_of_ble_eq_true rfl) rfl rfl ?_
  refine h_bipush (v := 8) hC dX5_putByte_29 rfl ?_
  refine h_iload_n hC dX5_putByte_31 rfl ?_
  refine h_iconst (v := 3) hC dX5_putByte_32 rfl ?_
  refine h_iand hC dX5_putByte_33 ?_
  refine h_vi (fun x39 ex39 => ?_)
  refine h_imul hC dX5_putByte_34 ?_
  refine h_vi (fun x40 ex40 => ?_)
  refine h_istore (lv' := [some (.ref (gO' Y 7)), some (.int r7), some (.int r22), some (.int r36), some (.int x40)]) hC dX5_putByte_35 (Nat.le_of_ble_eq_true rfl) rfl rfl ?_
  refine h_aload_n hC dX5_putByte_37 rfl ?_
  refine h_get hC fl_X5_57 (I32.1.o 7 (by decide)) rfl dX5_putByte_38 ?_
  refine h_if_ne (tgt := 72) hC dX5_putByte_41 (by decide) (fun c41 => ?_) (fun c41 => ?_)
  · exact h_vret hC hr o21 rfl rfl ⟨S31, I32, K38, m37, by omega, by omega, by omega⟩ dX5_putByte_72
  · refine h_aload_n hC dX5_putByte_44 rfl ?_
    refine h_iload_n hC dX5_putByte_45 rfl ?_
    refine h_aload_n hC dX5_putByte_46 rfl ?_
    refine h_iload_n hC dX5_putByte_47 rfl ?_
    refine h_callVi (As := [.int r22]) hC hr o21 rfl (I32.1.o 7 (by decide)) (s_M_look X.la d b Y c _ _ _ I32 (by omega) (by omega) r22) cl_X5_143 rfl rfl (Nat.le_of_ble_eq_true rfl) (hFr_of (Nat.le_of_ble_eq_true rfl) (Nat.le_of_ble_eq_true rfl)) dX5_putByte_48 (fun r45 u42 p43 o44 => ?_)
    obtain ⟨S46, I47, K48, s49, q50⟩ := p43
    have m51 : gSm S S46 [38, 39, 40, 41, 42, 44, 45] [25, 26, 27, 28, 29, 30, 31, 32, 33, 34, 35, 36] := m37.tr s49 _ _ rfl rfl
    have K52 := K38.tr K48
    have ZS46 : sZ S46 43 = sZ S31 43 := s49.z 43 (by decide)
    obtain ⟨aq50, bq50, nq50⟩ := q50
    refine h_sipush (v := 255) hC dX5_putByte_51 rfl ?_
    refine h_iload hC dX5_putByte_54 rfl ?_
    refine h_ishl hC dX5_putByte_56 ?_
    refine h_vi (fun x53 ex53 => ?_)
    refine h_iconst (v := (-1)) hC dX5_putByte_57 rfl ?_
    refine h_ixor hC dX5_putByte_58 ?_
    refine h_vi (fun x54 ex54 => ?_)
    refine h_iand hC dX5_putByte_59 ?_
    refine h_vi (fun x55 ex55 => ?_)
    refine h_iload_n hC dX5_putByte_60 rfl ?_
    refine h_sipush (v := 255) hC dX5_putByte_61 rfl ?_
    refine h_iand hC dX5_putByte_64 ?_
    refine h_vi (fun x56 ex56 => ?_)
    refine h_iload hC dX5_putByte_65 rfl ?_
    refine h_ishl hC dX5_putByte_67 ?_
    refine h_vi (fun x57 ex57 => ?_)
    refine h_ior hC dX5_putByte_68 ?_
    refine h_vi (fun x58 ex58 => ?_)
    refine h_callVv (As := [.int r22, .int x58]) hC hr o44 rfl (I47.1.o 7 (by decide)) (s_M_put X.la d b Y c _ _ _ I47 (by omega) (by omega) r22 x58) cl_X5_123 rfl rfl (Nat.le_of_ble_eq_true rfl) (hFr_of (Nat.le_of_ble_eq_true rfl) (Nat.le_of_ble_eq_true rfl)) dX5_putByte_69 (fun u59 p60 o61 => ?_)
    obtain ⟨S63, I64, K65, s66, q67⟩ := p60
    have m68 : gSm S S63 [38, 39, 40, 41, 42, 44, 45] [25, 26, 27, 28, 29, 30, 31, 32, 33, 34, 35, 36] := m51.tr s66 _ _ rfl rfl
    have K69 := K52.tr K65
    have ZS63 : sZ S63 43 = sZ S46 43 := s66.z 43 (by decide)
    obtain ⟨aq67, bq67, nq67⟩ := q67
    exact h_vret hC hr o61 rfl rfl ⟨S63, I64, K69, m68, by omega, by omega, by omega⟩ dX5_putByte_72
