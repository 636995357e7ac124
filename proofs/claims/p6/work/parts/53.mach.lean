theorem kw_755 : Cond.fieldLink RX5 31 "WordTongue$Machine" "cells" "[I" ∈ gWs := gWm 755 (by decide +kernel) rfl
theorem fl_X5_31 : gFL RX5 31 5 5 (.array .int) false := ⟨RX5, TX5, 16, tyX5, rfl, by decide, inW_RX5, kw_755, tyX5_ok, nmX5, rfl, by decide +kernel, fun h => by cases h⟩
theorem kw_763 : Cond.fieldLink RX5 57 "WordTongue$Machine" "over" "Z" ∈ gWs := gWm 763 (by decide +kernel) rfl
theorem fl_X5_57 : gFL RX5 57 5 13 .boolean false := ⟨RX5, TX5, 16, tyX5, rfl, by decide, inW_RX5, kw_763, tyX5_ok, nmX5, rfl, by decide +kernel, fun h => by cases h⟩
theorem kw_762 : Cond.fieldLink RX5 54 "WordTongue$Machine" "error" "I" ∈ gWs := gWm 762 (by decide +kernel) rfl
theorem fl_X5_54 : gFL RX5 54 5 12 .int false := ⟨RX5, TX5, 16, tyX5, rfl, by decide, inW_RX5, kw_762, tyX5_ok, nmX5, rfl, by decide +kernel, fun h => by cases h⟩
theorem kw_1670 : Cond.code yX5_fail cX5_fail 2 none ∈ gWs := gWm 1670 (by decide +kernel) rfl
theorem kw_1667 : Cond.methodLink RX5 137 yX5_fail ∈ gWs := gWm 1667 (by decide +kernel) rfl
theorem kw_1669 : Cond.instanceMethod yX5_fail ∈ gWs := gWm 1669 (by decide +kernel) rfl
theorem kw_100 : Cond.selects RX5 yX5_fail yX5_fail ∈ gWs := gWm 100 (by decide +kernel) rfl
theorem cl_X5_137 : gCV RX5 137 yX5_fail cX5_fail 2 none 1 := ⟨g_mk [.methodLink RX5 137 yX5_fail, .instanceMethod yX5_fail, .selects yX5_fail.cls yX5_fail yX5_fail, .initialized yX5_fail.cls] (gWs_all kw_1670) (List.forall_mem_cons.mpr ⟨kw_1667, List.forall_mem_cons.mpr ⟨kw_1669, List.forall_mem_cons.mpr ⟨kw_100, List.forall_mem_cons.mpr ⟨kw_255, fun _ h => nomatch h⟩⟩⟩⟩), rfl, by decide +kernel, by decide +kernel, by decide +kernel⟩
set_option maxHeartbeats 4000000 in
set_option maxRecDepth 100000 in
theorem s_M_isThere (l : Launch) (d : gD) (b : Nat) (Y : gYt) (c : Nat × Nat) (F : gM) (k n : Nat) {S : gSt} (hi : hI d b Y c (F, k, n) S) (x : Int32) : hMi l d b yX5_isThere cX5_isThere 2 .boolean 1 k n F [.ref (gO' Y 7), .int x] (fun r u => ((r = 0 ∨ r = 1) ∧ (¬ r = 0 → vp_in x (sN S 45))) ∧ u = (F, k, n)) := by
  intro mc ms
  refine hM_of2 rfl (nL := 2) (Nat.le_of_ble_eq_true rfl) ?_
  intro X hX hC hr ho; subst hX
  show hG X d b _ F k n 0 [some (.ref (gO' Y 7)), some (.int x)] []
  refine h_iload_n hC dX5_isThere_0 rfl ?_
  refine h_if_lt (tgt := 25) hC dX5_isThere_1 (by decide) (fun c1 => ?_) (fun c1 => ?_)
  · refine h_iconst (v := 0) hC dX5_isThere_25 rfl ?_
    exact h_iret hC hr ho rfl rfl rfl ⟨⟨Or.inl rfl, fun q => absurd rfl q⟩, rfl⟩ dX5_isThere_26
  · refine h_iload_n hC dX5_isThere_4 rfl ?_
    refine h_aload_n hC dX5_isThere_5 rfl ?_
    refine h_get hC fl_X5_35 (hi.1.o 7 (by decide)) rfl dX5_isThere_6 ?_
    refine h_icmp_ge (tgt := 25) hC dX5_isThere_9 (by decide) (fun c2 => ?_) (fun c2 => ?_)
    · refine h_iconst (v := 0) hC dX5_isThere_25 rfl ?_
      exact h_iret hC hr ho rfl rfl rfl ⟨⟨Or.inl rfl, fun q => absurd rfl q⟩, rfl⟩ dX5_isThere_26
    · refine h_iload_n hC dX5_isThere_12 rfl ?_
      refine h_aload_n hC dX5_isThere_13 rfl ?_
      refine h_get hC fl_X5_31 (hi.1.o 7 (by decide)) rfl dX5_isThere_14 ?_
      refine h_alen hC 0 hi.1.c rfl dX5_isThere_17 ?_
      refine h_icmp_ge (tgt := 25) hC dX5_isThere_18 (by decide) (fun c3 => ?_) (fun c3 => ?_)
      · refine h_iconst (v := 0) hC dX5_isThere_25 rfl ?_
        exact h_iret hC hr ho rfl rfl rfl ⟨⟨Or.inl rfl, fun q => absurd rfl q⟩, rfl⟩ dX5_isThere_26
      · refine h_iconst (v := 1) hC dX5_isThere_21 rfl ?_
        refine h_goto (tgt := 26) hC dX5_isThere_22 (by decide) ?_
        exact h_iret hC hr ho rfl rfl rfl ⟨⟨Or.inr rfl, fun _ => gmi c1 (gmv c1 c3 (Nat.lt_of_le_of_lt hi.1.2.2.1.2.2.2 (by decide)))⟩, rfl⟩ dX5_isThere_26
theorem dX5_fail_0 : decode cX5_fail 0 = .ok (.aload_n 0, 1) := by decide +kernel
theorem dX5_fail_1 : decode cX5_fail 1 = .ok (.getfield 57, 3) := by decide +kernel
theorem dX5_fail_4 : decode cX5_fail 4 = .ok (.ifCond .ne 13, 3) := by decide +kernel
theorem dX5_fail_7 : decode cX5_fail 7 = .ok (.aload_n 0, 1) := by decide +kernel
theorem dX5_fail_8 : decode cX5_fail 8 = .ok (.iload_n 1, 1) := by decide +kernel
theorem dX5_fail_9 : decode cX5_fail 9 = .ok (.putfield 54, 3) := by decide +kernel
theorem dX5_fail_12 : decode cX5_fail 12 = .ok (.aload_n 0, 1) := by decide +kernel
theorem dX5_fail_13 : decode cX5_fail 13 = .ok (.iconst 1, 1) := by decide +kernel
theorem dX5_fail_14 : decode cX5_fail 14 = .ok (.putfield 57, 3) := by decide +kernel
theorem dX5_fail_17 : decode cX5_fail 17 = .ok (.return_, 1) := by decide +kernel
set_option maxHeartbeats 4000000 in
set_option maxRecDepth 100000 in
theorem s_M_fail (l : Launch) (d : gD) (b : Nat) (Y : gYt) (c : Nat × Nat) (F : gM) (k n : Nat) {S : gSt} (hi : hI d b Y c (F, k, n) S) (hA : gPsi S ≤ gAm) (h43 : sZ S 43 ≤ 404) (x : Int32) : hMv l d b yX5_fail cX5_fail 2 1 k n F [.ref (gO' Y 7), .int x] (fun u => ∃ S', hI d b Y c u S' ∧ gKp Y F u.1 ∧ gSm S S' [38, 39, 40, 41, 42, 43, 44, 45] [25, 26, 27, 28, 29, 30, 31, 32, 33, 34, 35, 36] ∧ sZ S' 43 ≤ 404 ∧ gPsi S' ≤ gPsi S) := by
  intro mc ms
  refine hM_of2 rfl (nL := 2) (Nat.le_of_ble_eq_true rfl) ?_
  intro X hX hC hr ho; subst hX
  show hG X d b _ F k n 0 [some (.ref (gO' Y 7)), some (.int x)] []
  refine h_aload_n hC dX5_fail_0 rfl ?_
  refine h_get hC fl_X5_57 (hi.1.o 7 (by decide)) rfl dX5_fail_1 ?_
  refine h_if_ne (tgt := 17) hC dX5_fail_4 (by decide) (fun c1 => ?_) (fun c1 => ?_)
  · exact h_vret hC hr ho rfl rfl ⟨S, hi, gKp.rf, gSm.rf, h43, Nat.le_refl _⟩ dX5_fail_17
  · refine h_aload_n hC dX5_fail_7 rfl ?_
    refine h_iload_n hC dX5_fail_8 rfl ?_
    refine hi_putx (i := 7) (kx := 33) hC hi (by decide) fl_X5_54 rfl rfl rfl (Nat.le_of_ble_eq_true rfl) rfl gsame_33 (fun q => absurd q (by decide)) dX5_fail_9 (fun F2 S3 I4 K5 s6 v7 p8 => ?_)
    have m9 : gSm S S3 [38, 39, 40, 41, 42, 43, 44, 45] [25, 26, 27, 28, 29, 30, 31, 32, 33, 34, 35, 36] := gSm.wk s6 _ _ rfl rfl
    have ZS3 : sZ S3 43 = sZ S 43 := s6.z 43 (by decide)
    refine h_aload_n hC dX5_fail_12 rfl ?_
    refine h_iconst (v := 1) hC dX5_fail_13 rfl ?_
    refine hi_putx (i := 7) (kx := 34) hC I4 (by decide) fl_X5_57 rfl (hnb (Or.inr rfl)) rfl (Nat.le_of_ble_eq_true rfl) rfl gsame_34 (fun _ => (Or.inr rfl)) dX5_fail_14 (fun F11 S12 I13 K14 s15 v16 p17 => ?_)
    have m18 : gSm S S12 [38, 39, 40, 41, 42, 43, 44, 45] [25, 26, 27, 28, 29, 30, 31, 32, 33, 34, 35, 36] := m9.tr s15 _ _ rfl rfl
    have K19 := K5.tr K14
    have ZS12 : sZ S12 43 = sZ S3 43 := s15.z 43 (by decide)
    exact h_vret hC hr ho rfl rfl ⟨S12, I13, K19, m18, by omega, by omega⟩ dX5_fail_17
theorem dX5_finish_0 : decode cX5_finish 0 = .ok (.aload_n 0, 1) := by decide +kernel
theorem dX5_finish_1 : decode cX5_finish 1 = .ok (.iload_n 1, 1) := by decide +kernel
theorem dX5_finish_2 : decode cX5_finish 2 = .ok (.putfield 51, 3) := by decide +kernel
theorem dX5_finish_5 : decode cX5_finish 5 = .ok (.aload_n 0, 1) := by decide +kernel
theorem dX5_finish_6 : decode cX5_finish 6 = .ok (.iload_n 2, 1) := by decide +kernel
theorem dX5_finish_7 : decode cX5_finish 7 = .ok (.putfield 54, 3) := by decide +kernel
theorem dX5_finish_10 : decode cX5_finish 10 = .ok (.aload_n 0, 1) := by decide +kernel
theorem dX5_finish_11 : decode cX5_finish 11 = .ok (.iconst 1, 1) := by decide +kernel
theorem dX5_finish_12 : decode cX5_finish 12 = .ok (.putfield 57, 3) := by decide +kernel
theorem dX5_finish_15 : decode cX5_finish 15 = .ok (.return_, 1) := by decide +kernel
set_option maxHeartbeats 4000000 in
set_option maxRecDepth 100000 in
theorem s_M_finish (l : Launch) (d : gD) (b : Nat) (Y : gYt) (c : Nat × Nat) (F : gM) (k n : Nat) {S : gSt} (hi : hI d b Y c (F, k, n) S) (hA : gPsi S ≤ gAm) (h43 : sZ S 43 ≤ 404) (x y : Int32) : hMv l d b yX5_finish cX5_finish 3 1 k n F [.ref (gO' Y 7), .int x, .int y] (fun u => ∃ S', hI d b Y c u S' ∧ gKp Y F u.1 ∧ gSm S S' [38, 39, 40, 41, 42, 43, 44, 45] [25, 26, 27, 28, 29, 30, 31, 32, 33, 34, 35, 36] ∧ sZ S' 43 ≤ 404 ∧ gPsi S' ≤ gPsi S) := by
  intro mc ms
  refine hM_of2 rfl (nL := 3) (Nat.le_of_ble_eq_true rfl) ?_
  intro X hX hC hr ho; subst hX
  show hG X d b _ F k n 0 [some (.ref (gO' Y 7)), some (.int x), some (.int y)] []
  refine h_aload_n hC dX5_finish_0 rfl ?_
  refine h_iload_n hC dX5_finish_1 rfl ?_
  refine hi_putx (i := 7) (kx := 32) hC hi (by decide) fl_X5_51 rfl rfl rfl (Nat.le_of_ble_eq_true rfl) rfl gsame_32 (fun q => absurd q (by decide)) dX5_finish_2 (fun F1 S2 I3 K4 s5 v6 p7 => ?_)
  have m8 : gSm S S2 [38, 39, 40, 41, 42, 43, 44, 45] [25, 26, 27, 28, 29, 30, 31, 32, 33, 34, 35, 36] := gSm.wk s5 _ _ rfl rfl
  have ZS2 : sZ S2 43 = sZ S 43 := s5.z 43 (by decide)
  refine h_aload_n hC dX5_finish_5 rfl ?_
  refine h_iload_n hC dX5_finish_6 rfl ?_
  refine hi_putx (i := 7) (kx := 33) hC I3 (by decide) fl_X5_54 rfl rfl rfl (Nat.le_of_ble_eq_true rfl) rfl gsame_33 (fun q => absurd q (by decide)) dX5_finish_7 (fun F10 S11 I12 K13 s14 v15 p16 => ?_)
  have m17 : gSm S S11 [38, 39, 40, 41, 42, 43, 44, 45] [25, 26, 27, 28, 29, 30, 31, 32, 33, 34, 35, 36] := m8.tr s14 _ _ rfl rfl
  have K18 := K4.tr K13
  have ZS11 : sZ S11 43 = sZ S2 43 := s14.z 43 (by decide)
  refine h_aload_n hC dX5_finish_10 rfl ?_
  refine h_iconst (v := 1) hC dX5_finish_11 rfl ?_
  refine hi_putx (i := 7) (kx := 34) hC I12 (by decide) fl_X5_57 rfl (hnb (Or.inr rfl)) rfl (Nat.le_of_ble_eq_true rfl) rfl gsame_34 (fun _ => (Or.inr rfl)) dX5_finish_12 (fun F19 S20 I21 K22 s23 v24 p25 => ?_)
  have m26 : gSm S S20 [38, 39, 40, 41, 42, 43, 44, 45] [25, 26, 27, 28, 29, 30, 31, 32, 33, 34, 35, 36] := m17.tr s23 _ _ rfl rfl
  have K27 := K18.tr K22
  have ZS20 : sZ S20 43 = sZ S11 43 := s23.z 43 (by decide)
  exact h_vret hC hr ho rfl rfl ⟨S20, I21, K27, m26, by omega, by omega⟩ dX5_finish_15
theorem dX5_burns_0 : decode cX5_burns 0 = .ok (.aload_n 0, 1) := by decide +kernel
theorem dX5_burns_1 : decode cX5_burns 1 = .ok (.getfield 48, 3) := by decide +kernel
theorem dX5_burns_4 : decode cX5_burns 4 = .ok (.iconst 1, 1) := by decide +kernel
theorem dX5_burns_5 : decode cX5_burns 5 = .ok (.if_icmp .ge 10, 3) := by decide +kernel
theorem dX5_burns_8 : decode cX5_burns 8 = .ok (.aload_n 0, 1) := by decide +kernel
theorem dX5_burns_9 : decode cX5_burns 9 = .ok (.iconst 1, 1) := by decide +kernel
theorem dX5_burns_10 : decode cX5_burns 10 = .ok (.invokevirtual 137, 3) := by decide +kernel
theorem dX5_burns_13 : decode cX5_burns 13 = .ok (.iconst 0, 1) := by decide +kernel
theorem dX5_burns_14 : decode cX5_burns 14 = .ok (.ireturn, 1) := by decide +kernel
theorem dX5_burns_15 : decode cX5_burns 15 = .ok (.aload_n 0, 1) := by decide +kernel
theorem dX5_burns_16 : decode cX5_burns 16 = .ok (.dup, 1) := by decide +kernel
theorem dX5_burns_17 : decode cX5_burns 17 = .ok (.getfield 48, 3) := by decide +kernel
theorem dX5_burns_20 : decode cX5_burns 20 = .ok (.iconst 1, 1) := by decide +kernel
theorem dX5_burns_21 : decode cX5_burns 21 = .ok (.isub, 1) := by decide +kernel
theorem dX5_burns_22 : decode cX5_burns 22 = .ok (.putfield 48, 3) := by decide +kernel
theorem dX5_burns_25 : decode cX5_burns 25 = .ok (.iconst 1, 1) := by decide +kernel
theorem dX5_burns_26 : decode cX5_burns 26 = .ok (.ireturn, 1) := by decide +kernel
set_option maxHeartbeats 4000000 in
set_option maxRecDepth 100000 in
theorem s_M_burns (l : Launch) (d : gD) (b : Nat) (Y : gYt) (c : Nat × Nat) (F : gM) (k n : Nat) {S : gSt} (hi : hI d b Y c (F, k, n) S) (hA : gPsi S ≤ gAm) (h43 : sZ S 43 ≤ 404) : hMi l d b yX5_burns cX5_burns 1 .boolean 3 k n F [.ref (gO' Y 7)] (fun r u => ∃ S', hI d b Y c u S' ∧ gKp Y F u.1 ∧ gSm S S' [38, 39, 40, 41, 42, 43, 44, 45] [25, 26, 27, 28, 29, 30, 31, 32, 33, 34, 35, 36] ∧ sZ S' 43 ≤ 404 ∧ gPsi S' ≤ gPsi S ∧ (r = 0 ∨ r = 1)) := by
  intro mc ms
  refine hM_of2 rfl (nL := 1) (Nat.le_of_ble_eq_true rfl) ?_
  intro X hX hC hr ho; subst hX
  show hG X d b _ F k n 0 [some (.ref (gO' Y 7))] []
  refine h_aload_n hC dX5_burns_0 rfl ?_
  refine h_get hC fl_X5_48 (hi.1.o 7 (by decide)) rfl dX5_burns_1 ?_
  refine h_iconst (v := 1) hC dX5_burns_4 rfl ?_
  refine h_icmp_ge (tgt := 15) hC dX5_burns_5 (by decide) (fun c1 => ?_) (fun c1 => ?_)
  · refine h_aload_n hC dX5_burns_15 rfl ?_
    refine h_dup hC dX5_burns_16 rfl ?_
    refine h_get hC fl_X5_48 (hi.1.o 7 (by decide)) rfl dX5_burns_17 ?_
    refine h_iconst (v := 1) hC dX5_burns_20 rfl ?_
    refine h_isub hC dX5_burns_21 ?_
    refine h_vi (fun x2 ex2 => ?_)
    refine hi_putx (i := 7) (kx := 31) hC hi (by decide) fl_X5_48 rfl rfl rfl (Nat.le_of_ble_eq_true rfl) rfl gsame_31 (fun q => absurd q (by decide)) dX5_burns_22 (fun F3 S4 I5 K6 s7 v8 p9 => ?_)
    have m10 : gSm S S4 [38, 39, 40, 41, 42, 43, 44, 45] [25, 26, 27, 28, 29, 30, 31, 32, 33, 34, 35, 36] := gSm.wk s7 _ _ rfl rfl
    have ZS4 : sZ S4 43 = sZ S 43 := s7.z 43 (by decide)
    refine h_iconst (v := 1) hC dX5_burns_25 rfl ?_
    exact h_iret hC hr ho rfl rfl rfl ⟨S4, I5, K6, m10, by omega, by omega, by decide⟩ dX5_burns_26
  · refine h_aload_n hC dX5_burns_8 rfl ?_
    refine h_iconst (v := 1) hC dX5_burns_9 rfl ?_
    refine h_callVv (As := [.int 1]) hC hr ho rfl (hi.1.o 7 (by decide)) (s_M_fail X.la d b Y c _ _ _ hi (by omega) (by omega) 1) cl_X5_137 rfl rfl (Nat.le_of_ble_eq_true rfl) (hFr_of (Nat.le_of_ble_eq_true rfl) (Nat.le_of_ble_eq_true rfl)) dX5_burns_10 (fun u12 p13 o14 => ?_)
    obtain ⟨S16, I17, K18, s19, q20⟩ := p13
    have m21 : gSm S S16 [38, 39, 40, 41, 42, 43, 44, 45] [25, 26, 27, 28, 29, 30, 31, 32, 33, 34, 35, 36] := gSm.wk s19 _ _ rfl rfl
    obtain ⟨aq20, bq20⟩ := q20
    refine h_iconst (v := 0) hC dX5_burns_13 rfl ?_
    exact h_iret hC hr o14 rfl rfl rfl ⟨S16, I17, K18, m21, by omega, by omega, by decide⟩ dX5_burns_14
theorem dX5_put_0 : decode cX5_put 0 = .ok (.aload_n 0, 1) := by decide +kernel
theorem dX5_put_1 : decode cX5_put 1 = .ok (.iload_n 1, 1) := by decide +kernel
theorem dX5_put_2 : decode cX5_put 2 = .ok (.invokevirtual 75, 3) := by decide +kernel
theorem dX5_put_5 : decode cX5_put 5 = .ok (.ifCond .eq 13, 3) := by decide +kernel
theorem dX5_put_8 : decode cX5_put 8 = .ok (.aload_n 0, 1) := by decide +kernel
theorem dX5_put_9 : decode cX5_put 9 = .ok (.getfield 31, 3) := by decide +kernel
theorem dX5_put_12 : decode cX5_put 12 = .ok (.iload_n 1, 1) := by decide +kernel
theorem dX5_put_13 : decode cX5_put 13 = .ok (.iload_n 2, 1) := by decide +kernel
theorem dX5_put_14 : decode cX5_put 14 = .ok (.iastore, 1) := by decide +kernel
theorem dX5_put_15 : decode cX5_put 15 = .ok (.goto 8, 3) := by decide +kernel
theorem dX5_put_18 : decode cX5_put 18 = .ok (.aload_n 0, 1) := by decide +kernel
theorem dX5_put_19 : decode cX5_put 19 = .ok (.iconst 2, 1) := by decide +kernel
theorem dX5_put_20 : decode cX5_put 20 = .ok (.invokevirtual 137, 3) := by decide +kernel
theorem dX5_put_23 : decode cX5_put 23 = .ok (.return_, 1) := by decide +kernel
set_option maxHeartbeats 4000000 in
set_option maxRecDepth 100000 in
theorem s_M_put (l : Launch) (d : gD) (b : Nat) (Y : gYt) (c : Nat × Nat) (F : gM) (k n : Nat) {S : gSt} (hi : hI d b Y c (F, k, n) S) (hA : gPsi S ≤ gAm) (h43 : sZ S 43 ≤ 404) (x y : Int32) : hMv l d b yX5_put cX5_put 3 3 k n F [.ref (gO' Y 7), .int x, .int y] (fun u => ∃ S', hI d b Y c u S' ∧ gKp Y F u.1 ∧ gSm S S' [38, 39, 40, 41, 42, 43, 44, 45] [25, 26, 27, 28, 29, 30, 31, 32, 33, 34, 35, 36] ∧ sZ S' 43 ≤ 404 ∧ gPsi S' ≤ gPsi S) := by
  intro mc ms
  refine hM_of2 rfl (nL := 3) (Nat.le_of_ble_eq_true rfl) ?_
  intro X hX hC hr ho; subst hX
  show hG X d b _ F k n 0 [some (.ref (gO' Y 7)), some (.int x), some (.int y)] []
  refine h_aload_n hC dX5_put_0 rfl ?_
  refine h_iload_n hC dX5_put_1 rfl ?_
  refine h_callVi (As := [.int x]) hC hr ho rfl (hi.1.o 7 (by decide)) (s_M_isThere X.la d b Y c _ _ _ hi x) cl_X5_75 rfl rfl (Nat.le_of_ble_eq_true rfl) (hFr_of (Nat.le_of_ble_eq_true rfl) (Nat.le_of_ble_eq_true rfl)) dX5_put_2 (fun r4 u1 p2 o3 => ?_)
  obtain ⟨q5, rfl⟩ := p2
  refine h_if_eq (tgt := 18) hC dX5_put_5 (by decide) (fun c6 => ?_) (fun c6 => ?_)
  · refine h_aload_n hC dX5_put_18 rfl ?_
    refine h_iconst (v := 2) hC dX5_put_19 rfl ?_
    refine h_callVv (As := [.int 2]) hC hr o3 rfl (hi.1.o 7 (by decide)) (s_M_fail X.la d b Y c _ _ _ hi (by omega) (by omega) 2) cl_X5_137 rfl rfl (Nat.le_of_ble_eq_true rfl) (hFr_of (Nat.le_of_ble_eq_true rfl) (Nat.le_of_ble_eq_true rfl)) dX5_put_20 (fun u7 p8 o9 => ?_)
    obtain ⟨S11, I12, K13, s14, q15⟩ := p8
    have m16 : gSm S S11 [38, 39, 40, 41, 42, 43, 44, 45] [25, 26, 27, 28, 29, 30, 31, 32, 33, 34, 35, 36] := gSm.wk s14 _ _ rfl rfl
    obtain ⟨aq15, bq15⟩ := q15
    exact h_vret hC hr o9 rfl rfl ⟨S11, I12, K13, m16, by omega, by omega⟩ dX5_put_23
  · refine h_aload_n hC dX5_put_8 rfl ?_
    refine h_get hC fl_X5_31 (hi.1.o 7 (by decide)) rfl dX5_put_9 ?_
    refine h_iload_n hC dX5_put_12 rfl ?_
    refine h_iload_n hC dX5_put_13 rfl ?_
    refine hi_cst hC hi (q5.2 c6) dX5_put_14 (fun F18 S19 I20 K21 s22 p23 => ?_)
    have m24 : gSm S S19 [38, 39, 40, 41, 42, 43, 44, 45] [25, 26, 27, 28, 29, 30, 31, 32, 33, 34, 35, 36] := gSm.wk s22 _ _ rfl rfl
    have ZS19 : sZ S19 43 = sZ S 43 := s22.z 43 (by decide)
    refine h_goto (tgt := 23) hC dX5_put_15 (by decide) ?_
    exact h_vret hC hr o3 rfl rfl ⟨S19, I20, K21, m24, by omega, by omega⟩ dX5_put_23
theorem dX5_look_0 : decode cX5_look 0 = .ok (.aload_n 0, 1) := by decide +kernel
theorem dX5_look_1 : decode cX5_look 1 = .ok (.iload_n 1, 1) := by decide +kernel
theorem dX5_look_2 : decode cX5_look 2 = .ok (.invokevirtual 75, 3) := by decide +kernel
theorem dX5_look_5 : decode cX5_look 5 = .ok (.ifCond .eq 10, 3) := by decide +kernel
theorem dX5_look_8 : decode cX5_look 8 = .ok (.aload_n 0, 1) := by decide +kernel
theorem dX5_look_9 : decode cX5_look 9 = .ok (.getfield 31, 3) := by decide +kernel
theorem dX5_look_12 : decode cX5_look 12 = .ok (.iload_n 1, 1) := by decide +kernel
theorem dX5_look_13 : decode cX5_look 13 = .ok (.iaload, 1) := by decide +kernel
theorem dX5_look_14 : decode cX5_look 14 = .ok (.ireturn, 1) := by decide +kernel
theorem dX5_look_15 : decode cX5_look 15 = .ok (.aload_n 0, 1) := by decide +kernel
theorem dX5_look_16 : decode cX5_look 16 = .ok (.iconst 2, 1) := by decide +kernel
theorem dX5_look_17 : decode cX5_look 17 = .ok (.invokevirtual 137, 3) := by decide +kernel
theorem dX5_look_20 : decode cX5_look 20 = .ok (.iconst 0, 1) := by decide +kernel
theorem dX5_look_21 : decode cX5_look 21 = .ok (.ireturn, 1) := by decide +kernel
set_option maxHeartbeats 4000000 in
set_option maxRecDepth 100000 in
theorem s_M_look (l : Launch) (d : gD) (b : Nat) (Y : gYt) (c : Nat × Nat) (F : gM) (k n : Nat) {S : gSt} (hi : hI d b Y c (F, k, n) S) (hA : gPsi S ≤ gAm) (h43 : sZ S 43 ≤ 404) (x : Int32) : hMi l d b yX5_look cX5_look 2 .int 3 k n F [.ref (gO' Y 7), .int x] (fun r u => ∃ S', hI d b Y c u S' ∧ gKp Y F u.1 ∧ gSm S S' [38, 39, 40, 41, 42, 43, 44, 45] [25, 26, 27, 28, 29, 30, 31, 32, 33, 34, 35, 36] ∧ sZ S' 43 ≤ 404 ∧ gPsi S' ≤ gPsi S) := by
  intro mc ms
  refine hM_of2 rfl (nL := 2) (Nat.le_of_ble_eq_true rfl) ?_
  intro X hX hC hr ho; subst hX
  show hG X d b _ F k n 0 [some (.ref (gO' Y 7)), some (.int x)] []
  refine h_aload_n hC dX5_look_0 rfl ?_
  refine h_iload_n hC dX5_look_1 rfl ?_
  refine h_callVi (As := [.int x]) hC hr ho rfl (hi.1.o 7 (by decide)) (s_M_isThere X.la d b Y c _ _ _ hi x) cl_X5_75 rfl rfl (Nat.le_of_ble_eq_true rfl) (hFr_of (Nat.le_of_ble_eq_true rfl) (Nat.le_of_ble_eq_true rfl)) dX5_look_2 (fun r4 u1 p2 o3 => ?_)
  obtain ⟨q5, rfl⟩ := p2
  refine h_if_eq (tgt := 15) hC dX5_look_5 (by decide) (fun c6 => ?_) (fun c6 => ?_)
  · refine h_aload_n hC dX5_look_15 rfl ?_
    refine h_iconst (v := 2) hC dX5_look_16 rfl ?_
    refine h_callVv (As := [.int 2]) hC hr o3 rfl (hi.1.o 7 (by decide)) (s_M_fail X.la d b Y c _ _ _ hi (by omega) (by omega) 2) cl_X5_137 rfl rfl (Nat.le_of_ble_eq_true rfl) (hFr_of (Nat.le_of_ble_eq_true rfl) (Nat.le_of_ble_eq_true rfl)) dX5_look_17 (fun u7 p8 o9 => ?_)
    obtain ⟨S11, I12, K13, s14, q15⟩ := p8
    have m16 : gSm S S11 [38, 39, 40, 41, 42, 43, 44, 45] [25, 26, 27, 28, 29, 30, 31, 32, 33, 34, 35, 36] := gSm.wk s14 _ _ rfl rfl
    obtain ⟨aq15, bq15⟩ := q15
    refine h_iconst (v := 0) hC dX5_look_20 rfl ?_
    exact h_iret hC hr o9 rfl rfl rfl ⟨S11, I12, K13, m16, by omega, by omega⟩ dX5_look_21
  · refine h_aload_n hC dX5_look_8 rfl ?_
    refine h_get hC fl_X5_31 (hi.1.o 7 (by decide)) rfl dX5_look_9 ?_
    refine h_iload_n hC dX5_look_12 rfl ?_
    refine h_iald hC hi.1.c (q5.2 c6) dX5_look_13 ?_
    refine h_vi (fun x18 ex18 => ?_)
    exact h_iret hC hr o3 rfl rfl rfl ⟨S, hi, gKp.rf, gSm.rf, h43, Nat.le_refl _⟩ dX5_look_14
