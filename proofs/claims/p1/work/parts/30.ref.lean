theorem kw_257 : Cond.initialized RX12 ∈ gWs := gWm 257 (by decide +kernel) rfl
theorem kw_2757 : Cond.code yX12_rowsOf cX12_rowsOf 9 none ∈ gWs := gWm 2757 (by decide +kernel) rfl
theorem kw_2754 : Cond.methodLink RX12 927 yX12_rowsOf ∈ gWs := gWm 2754 (by decide +kernel) rfl
theorem kw_2756 : Cond.instanceMethod yX12_rowsOf ∈ gWs := gWm 2756 (by decide +kernel) rfl
theorem kw_197 : Cond.selects RX12 yX12_rowsOf yX12_rowsOf ∈ gWs := gWm 197 (by decide +kernel) rfl
theorem cl_X12_927 : gCV RX12 927 yX12_rowsOf cX12_rowsOf 9 none 1 := ⟨g_mk [.methodLink RX12 927 yX12_rowsOf, .instanceMethod yX12_rowsOf, .selects yX12_rowsOf.cls yX12_rowsOf yX12_rowsOf, .initialized yX12_rowsOf.cls] (gWs_all kw_2757) (List.forall_mem_cons.mpr ⟨kw_2754, List.forall_mem_cons.mpr ⟨kw_2756, List.forall_mem_cons.mpr ⟨kw_197, List.forall_mem_cons.mpr ⟨kw_257, fun _ h => nomatch h⟩⟩⟩⟩), rfl, by decide +kernel, by decide +kernel, by decide +kernel⟩
theorem gin1 {i : Int32} (m : Nat) (hm : m < 1000000) (h1 : ¬ i < 0) (h2 : i ≤ nI m) : ∃ N : Nat, N < m + 1 ∧ i = nI N := by
  obtain ⟨N, hN, rfl⟩ := nI_of h1
  refine ⟨N, ?_, rfl⟩
  rcases Nat.lt_or_ge N (m + 1) with h | h
  · exact h
  · exact absurd h2 (nI_ge (by omega) (by omega))
theorem dX12_out_0 : decode cX12_out 0 = .ok (.aload_n 0, 1) := by decide +kernel
theorem dX12_out_1 : decode cX12_out 1 = .ok (.iconst 0, 1) := by decide +kernel
theorem dX12_out_2 : decode cX12_out 2 = .ok (.putfield 7, 3) := by decide +kernel
theorem dX12_out_5 : decode cX12_out 5 = .ok (.iload_n 1, 1) := by decide +kernel
theorem dX12_out_6 : decode cX12_out 6 = .ok (.ifCond .lt 8, 3) := by decide +kernel
theorem dX12_out_9 : decode cX12_out 9 = .ok (.iload_n 1, 1) := by decide +kernel
theorem dX12_out_10 : decode cX12_out 10 = .ok (.iconst 1, 1) := by decide +kernel
theorem dX12_out_11 : decode cX12_out 11 = .ok (.if_icmp .le 7, 3) := by decide +kernel
theorem dX12_out_14 : decode cX12_out 14 = .ok (.iconst (-1), 1) := by decide +kernel
theorem dX12_out_15 : decode cX12_out 15 = .ok (.goto 9, 3) := by decide +kernel
theorem dX12_out_18 : decode cX12_out 18 = .ok (.aload_n 0, 1) := by decide +kernel
theorem dX12_out_19 : decode cX12_out 19 = .ok (.getfield 366, 3) := by decide +kernel
theorem dX12_out_22 : decode cX12_out 22 = .ok (.iload_n 1, 1) := by decide +kernel
theorem dX12_out_23 : decode cX12_out 23 = .ok (.iaload, 1) := by decide +kernel
theorem dX12_out_24 : decode cX12_out 24 = .ok (.ireturn, 1) := by decide +kernel
set_option maxHeartbeats 4000000 in
set_option maxRecDepth 100000 in
theorem r_out (l : Launch) (d : gD) (b : Nat) (F : gM) (t : Nat) (f : Nat → Value) (i : Int32) (w7 : Nat) (h : gRo F t f) (hv116 : f 116 = .ref w7) (ha_w7 : F w7 = .inl (gI d, 2, .inl (fun _ => 0)))  : gMi l d b yX12_out cX12_out 2 .int 0 0 0 F [.ref t, .int i] (fun r _ => (i < 0 ∨ ¬ i ≤ 1 → r = (-1)) ∧ (¬ i < 0 ∧ i ≤ 1 → r = 0)) := by
  refine gM_of2 rfl (nL := 2) (Nat.le_of_ble_eq_true rfl) ?_
  intro X hX hC; subst hX
  show gG X d b _ F 0 0 0 [some (.ref t), some (.int i)] []
  refine g_aload_n hC dX12_out_0 rfl ?_
  refine g_iconst (v := 0) hC dX12_out_1 rfl ?_
  refine g_rput hC h fl_X12_7 rfl rfl (by decide) dX12_out_2 (fun F1 f2 e3 ho4 hx5 => ?_)
  have f6 : F1 w7 = .inl (gI d, 2, .inl (fun _ => 0)) := (hx5 w7 (gne ha_w7 h gk_ao)).trans ha_w7
  have p7 : f2 116 = .ref w7 := by rw [e3]; exact (va_up_ne _ _ (by decide)).trans hv116
  have p8 : f2 0 = .int 0 := by rw [e3]; exact va_up_self _ _ _
  refine g_iload_n hC dX12_out_5 rfl ?_
  refine g_if_lt (tgt := 14) hC dX12_out_6 (by decide) (fun c9 => ?_) (fun c9 => ?_)
  · refine g_iconst (v := (-1)) hC dX12_out_14 rfl ?_
    refine g_goto (tgt := 24) hC dX12_out_15 (by decide) ?_
    exact g_iret hC rfl ⟨fun _ => rfl, fun z => absurd c9 z.1⟩ (by first | exact Nat.le_of_ble_eq_true rfl | omega | (simp only [gR]; omega)) (by first | exact Nat.le_of_ble_eq_true rfl | omega | (simp only [gR]; omega)) dX12_out_24
  · refine g_iload_n hC dX12_out_9 rfl ?_
    refine g_iconst (v := 1) hC dX12_out_10 rfl ?_
    refine g_icmp_le (tgt := 18) hC dX12_out_11 (by decide) (fun c10 => ?_) (fun c10 => ?_)
    · refine g_aload_n hC dX12_out_18 rfl ?_
      refine g_rget hC ho4 fl_X12_366 p7 (by decide) dX12_out_19 ?_
      refine g_iload_n hC dX12_out_22 rfl ?_
      refine g_iald hC f6 (by obtain ⟨N, hN, rfl⟩ := gin1 1 (by decide) c9 c10; exact vp_in_nI hN (by decide)) dX12_out_23 ?_
      refine g_vi (fun x11 ex11 => ?_)
      exact g_iret hC rfl ⟨fun z => z.elim (fun a => absurd a c9) (fun a => absurd c10 a), fun _ => ex11⟩ (by first | exact Nat.le_of_ble_eq_true rfl | omega | (simp only [gR]; omega)) (by first | exact Nat.le_of_ble_eq_true rfl | omega | (simp only [gR]; omega)) dX12_out_24
    · refine g_iconst (v := (-1)) hC dX12_out_14 rfl ?_
      refine g_goto (tgt := 24) hC dX12_out_15 (by decide) ?_
      exact g_iret hC rfl ⟨fun _ => rfl, fun z => absurd z.2 c10⟩ (by first | exact Nat.le_of_ble_eq_true rfl | omega | (simp only [gR]; omega)) (by first | exact Nat.le_of_ble_eq_true rfl | omega | (simp only [gR]; omega)) dX12_out_24
theorem dX12_outAt_0 : decode cX12_outAt 0 = .ok (.aload_n 0, 1) := by decide +kernel
theorem dX12_outAt_1 : decode cX12_outAt 1 = .ok (.iconst 0, 1) := by decide +kernel
theorem dX12_outAt_2 : decode cX12_outAt 2 = .ok (.putfield 7, 3) := by decide +kernel
theorem dX12_outAt_5 : decode cX12_outAt 5 = .ok (.iload_n 1, 1) := by decide +kernel
theorem dX12_outAt_6 : decode cX12_outAt 6 = .ok (.ifCond .lt 22, 3) := by decide +kernel
theorem dX12_outAt_9 : decode cX12_outAt 9 = .ok (.iload_n 1, 1) := by decide +kernel
theorem dX12_outAt_10 : decode cX12_outAt 10 = .ok (.iconst 1, 1) := by decide +kernel
theorem dX12_outAt_11 : decode cX12_outAt 11 = .ok (.if_icmp .gt 17, 3) := by decide +kernel
theorem dX12_outAt_14 : decode cX12_outAt 14 = .ok (.iload_n 2, 1) := by decide +kernel
theorem dX12_outAt_15 : decode cX12_outAt 15 = .ok (.ifCond .lt 13, 3) := by decide +kernel
theorem dX12_outAt_18 : decode cX12_outAt 18 = .ok (.iload_n 2, 1) := by decide +kernel
theorem dX12_outAt_19 : decode cX12_outAt 19 = .ok (.aload_n 0, 1) := by decide +kernel
theorem dX12_outAt_20 : decode cX12_outAt 20 = .ok (.getfield 366, 3) := by decide +kernel
theorem dX12_outAt_23 : decode cX12_outAt 23 = .ok (.iload_n 1, 1) := by decide +kernel
theorem dX12_outAt_24 : decode cX12_outAt 24 = .ok (.iaload, 1) := by decide +kernel
theorem dX12_outAt_25 : decode cX12_outAt 25 = .ok (.if_icmp .lt 10, 3) := by decide +kernel
theorem dX12_outAt_28 : decode cX12_outAt 28 = .ok (.aload_n 0, 1) := by decide +kernel
theorem dX12_outAt_29 : decode cX12_outAt 29 = .ok (.iconst 1, 1) := by decide +kernel
theorem dX12_outAt_30 : decode cX12_outAt 30 = .ok (.putfield 7, 3) := by decide +kernel
theorem dX12_outAt_33 : decode cX12_outAt 33 = .ok (.iconst 0, 1) := by decide +kernel
theorem dX12_outAt_34 : decode cX12_outAt 34 = .ok (.ireturn, 1) := by decide +kernel
theorem dX12_outAt_35 : decode cX12_outAt 35 = .ok (.aload_n 0, 1) := by decide +kernel
theorem dX12_outAt_36 : decode cX12_outAt 36 = .ok (.getfield 363, 3) := by decide +kernel
theorem dX12_outAt_39 : decode cX12_outAt 39 = .ok (.sipush 4096, 3) := by decide +kernel
theorem dX12_outAt_42 : decode cX12_outAt 42 = .ok (.iload_n 1, 1) := by decide +kernel
theorem dX12_outAt_43 : decode cX12_outAt 43 = .ok (.imul, 1) := by decide +kernel
theorem dX12_outAt_44 : decode cX12_outAt 44 = .ok (.iload_n 2, 1) := by decide +kernel
theorem dX12_outAt_45 : decode cX12_outAt 45 = .ok (.iadd, 1) := by decide +kernel
theorem dX12_outAt_46 : decode cX12_outAt 46 = .ok (.baload, 1) := by decide +kernel
theorem dX12_outAt_47 : decode cX12_outAt 47 = .ok (.sipush 255, 3) := by decide +kernel
theorem dX12_outAt_50 : decode cX12_outAt 50 = .ok (.iand, 1) := by decide +kernel
theorem dX12_outAt_51 : decode cX12_outAt 51 = .ok (.ireturn, 1) := by decide +kernel
set_option maxHeartbeats 4000000 in
set_option maxRecDepth 100000 in
theorem r_outAt (l : Launch) (d : gD) (b : Nat) (F : gM) (t : Nat) (f : Nat → Value) (i k : Int32) (w7 : Nat) (h : gRo F t f) (hv116 : f 116 = .ref w7) (ha_w7 : F w7 = .inl (gI d, 2, .inl (fun _ => 0)))  : gMi l d b yX12_outAt cX12_outAt 3 .int 0 0 0 F [.ref t, .int i, .int k] (fun r F' => ∃ f', gRo F' t f' ∧ f' 0 = .int 1) := by
  refine gM_of2 rfl (nL := 3) (Nat.le_of_ble_eq_true rfl) ?_
  intro X hX hC; subst hX
  show gG X d b _ F 0 0 0 [some (.ref t), some (.int i), some (.int k)] []
  refine g_aload_n hC dX12_outAt_0 rfl ?_
  refine g_iconst (v := 0) hC dX12_outAt_1 rfl ?_
  refine g_rput hC h fl_X12_7 rfl rfl (by decide) dX12_outAt_2 (fun F1 f2 e3 ho4 hx5 => ?_)
  have f6 : F1 w7 = .inl (gI d, 2, .inl (fun _ => 0)) := (hx5 w7 (gne ha_w7 h gk_ao)).trans ha_w7
  have p7 : f2 116 = .ref w7 := by rw [e3]; exact (va_up_ne _ _ (by decide)).trans hv116
  have p8 : f2 0 = .int 0 := by rw [e3]; exact va_up_self _ _ _
  refine g_iload_n hC dX12_outAt_5 rfl ?_
  refine g_if_lt (tgt := 28) hC dX12_outAt_6 (by decide) (fun c9 => ?_) (fun c9 => ?_)
  · refine g_aload_n hC dX12_outAt_28 rfl ?_
    refine g_iconst (v := 1) hC dX12_outAt_29 rfl ?_
    refine g_rput hC ho4 fl_X12_7 rfl rfl (by decide) dX12_outAt_30 (fun F10 f11 e12 ho13 hx14 => ?_)
    have f15 : F10 w7 = .inl (gI d, 2, .inl (fun _ => 0)) := (hx14 w7 (gne f6 ho4 gk_ao)).trans f6
    have p16 : f11 116 = .ref w7 := by rw [e12]; exact (va_up_ne _ _ (by decide)).trans p7
    have p17 : f11 0 = .int 1 := by rw [e12]; exact va_up_self _ _ _
    refine g_iconst (v := 0) hC dX12_outAt_33 rfl ?_
    exact g_iret hC rfl ⟨_, ho13, p17⟩ (by first | exact Nat.le_of_ble_eq_true rfl | omega | (simp only [gR]; omega)) (by first | exact Nat.le_of_ble_eq_true rfl | omega | (simp only [gR]; omega)) dX12_outAt_34
  · refine g_iload_n hC dX12_outAt_9 rfl ?_
    refine g_iconst (v := 1) hC dX12_outAt_10 rfl ?_
    refine g_icmp_gt (tgt := 28) hC dX12_outAt_11 (by decide) (fun c18 => ?_) (fun c18 => ?_)
    · refine g_aload_n hC dX12_outAt_28 rfl ?_
      refine g_iconst (v := 1) hC dX12_outAt_29 rfl ?_
      refine g_rput hC ho4 fl_X12_7 rfl rfl (by decide) dX12_outAt_30 (fun F19 f20 e21 ho22 hx23 => ?_)
      have f24 : F19 w7 = .inl (gI d, 2, .inl (fun _ => 0)) := (hx23 w7 (gne f6 ho4 gk_ao)).trans f6
      have p25 : f20 116 = .ref w7 := by rw [e21]; exact (va_up_ne _ _ (by decide)).trans p7
      have p26 : f20 0 = .int 1 := by rw [e21]; exact va_up_self _ _ _
      refine g_iconst (v := 0) hC dX12_outAt_33 rfl ?_
      exact g_iret hC rfl ⟨_, ho22, p26⟩ (by first | exact Nat.le_of_ble_eq_true rfl | omega | (simp only [gR]; omega)) (by first | exact Nat.le_of_ble_eq_true rfl | omega | (simp only [gR]; omega)) dX12_outAt_34
    · have hi1 : i ≤ 1 := Int32.not_lt.mp c18
      refine g_iload_n hC dX12_outAt_14 rfl ?_
      refine g_if_lt (tgt := 28) hC dX12_outAt_15 (by decide) (fun c27 => ?_) (fun c27 => ?_)
      · refine g_aload_n hC dX12_outAt_28 rfl ?_
        refine g_iconst (v := 1) hC dX12_outAt_29 rfl ?_
        refine g_rput hC ho4 fl_X12_7 rfl rfl (by decide) dX12_outAt_30 (fun F28 f29 e30 ho31 hx32 => ?_)
        have f33 : F28 w7 = .inl (gI d, 2, .inl (fun _ => 0)) := (hx32 w7 (gne f6 ho4 gk_ao)).trans f6
        have p34 : f29 116 = .ref w7 := by rw [e30]; exact (va_up_ne _ _ (by decide)).trans p7
        have p35 : f29 0 = .int 1 := by rw [e30]; exact va_up_self _ _ _
        refine g_iconst (v := 0) hC dX12_outAt_33 rfl ?_
        exact g_iret hC rfl ⟨_, ho31, p35⟩ (by first | exact Nat.le_of_ble_eq_true rfl | omega | (simp only [gR]; omega)) (by first | exact Nat.le_of_ble_eq_true rfl | omega | (simp only [gR]; omega)) dX12_outAt_34
      · refine g_iload_n hC dX12_outAt_18 rfl ?_
        refine g_aload_n hC dX12_outAt_19 rfl ?_
        refine g_rget hC ho4 fl_X12_366 p7 (by decide) dX12_outAt_20 ?_
        refine g_iload_n hC dX12_outAt_23 rfl ?_
        refine g_iald hC f6 (by obtain ⟨N, hN, rfl⟩ := gin1 1 (by decide) c9 hi1; exact vp_in_nI hN (by decide)) dX12_outAt_24 ?_
        refine g_vi (fun x36 ex36 => ?_)
        refine g_icmp_lt (tgt := 35) hC dX12_outAt_25 (by decide) (fun c37 => ?_) (fun c37 => ?_)
        · exact absurd (c37 : k < x36) (by rw [ex36]; exact c27)
        · refine g_aload_n hC dX12_outAt_28 rfl ?_
          refine g_iconst (v := 1) hC dX12_outAt_29 rfl ?_
          refine g_rput hC ho4 fl_X12_7 rfl rfl (by decide) dX12_outAt_30 (fun F38 f39 e40 ho41 hx42 => ?_)
          have f43 : F38 w7 = .inl (gI d, 2, .inl (fun _ => 0)) := (hx42 w7 (gne f6 ho4 gk_ao)).trans f6
          have p44 : f39 116 = .ref w7 := by rw [e40]; exact (va_up_ne _ _ (by decide)).trans p7
          have p45 : f39 0 = .int 1 := by rw [e40]; exact va_up_self _ _ _
          refine g_iconst (v := 0) hC dX12_outAt_33 rfl ?_
          exact g_iret hC rfl ⟨_, ho41, p45⟩ (by first | exact Nat.le_of_ble_eq_true rfl | omega | (simp only [gR]; omega)) (by first | exact Nat.le_of_ble_eq_true rfl | omega | (simp only [gR]; omega)) dX12_outAt_34
theorem g4095 {i : Int32} (h : i < 4096) : i ≤ nI 4095 := by
  rw [Int32.le_iff_toInt_le]
  have a := Int32.lt_iff_toInt_lt.mp h
  have b : (4096 : Int32).toInt = 4096 := by decide
  have c : (nI 4095).toInt = 4095 := by decide
  omega
theorem dX12_word_0 : decode cX12_word 0 = .ok (.aload_n 0, 1) := by decide +kernel
theorem dX12_word_1 : decode cX12_word 1 = .ok (.iconst 0, 1) := by decide +kernel
theorem dX12_word_2 : decode cX12_word 2 = .ok (.putfield 7, 3) := by decide +kernel
theorem dX12_word_5 : decode cX12_word 5 = .ok (.iload_n 1, 1) := by decide +kernel
theorem dX12_word_6 : decode cX12_word 6 = .ok (.ifCond .lt 11, 3) := by decide +kernel
theorem dX12_word_9 : decode cX12_word 9 = .ok (.iload_n 1, 1) := by decide +kernel
theorem dX12_word_10 : decode cX12_word 10 = .ok (.aload_n 0, 1) := by decide +kernel
theorem dX12_word_11 : decode cX12_word 11 = .ok (.getfield 315, 3) := by decide +kernel
theorem dX12_word_14 : decode cX12_word 14 = .ok (.if_icmp .lt 10, 3) := by decide +kernel
theorem dX12_word_17 : decode cX12_word 17 = .ok (.aload_n 0, 1) := by decide +kernel
theorem dX12_word_18 : decode cX12_word 18 = .ok (.iconst 1, 1) := by decide +kernel
theorem dX12_word_19 : decode cX12_word 19 = .ok (.putfield 7, 3) := by decide +kernel
theorem dX12_word_22 : decode cX12_word 22 = .ok (.iconst 0, 1) := by decide +kernel
theorem dX12_word_23 : decode cX12_word 23 = .ok (.ireturn, 1) := by decide +kernel
theorem dX12_word_24 : decode cX12_word 24 = .ok (.aload_n 0, 1) := by decide +kernel
theorem dX12_word_25 : decode cX12_word 25 = .ok (.getfield 312, 3) := by decide +kernel
theorem dX12_word_28 : decode cX12_word 28 = .ok (.iload_n 1, 1) := by decide +kernel
theorem dX12_word_29 : decode cX12_word 29 = .ok (.iaload, 1) := by decide +kernel
theorem dX12_word_30 : decode cX12_word 30 = .ok (.ireturn, 1) := by decide +kernel
set_option maxHeartbeats 4000000 in
set_option maxRecDepth 100000 in
theorem r_word (l : Launch) (d : gD) (b : Nat) (F : gM) (t : Nat) (f : Nat → Value) (i : Int32) (w8 : Nat) (h : gRo F t f) (hv99 : f 99 = .int 4096) (hv98 : f 98 = .ref w8) (ha_w8 : F w8 = .inl (gI d, 65536, .inl (fun _ => 0)))  : gMi l d b yX12_word cX12_word 2 .int 0 0 0 F [.ref t, .int i] (fun r F' => ∃ (f' : Nat → Value) (u : Int32), gRo F' t f' ∧ f' 0 = .int u ∧ (¬ i < 0 ∧ i < 4096 → u = 0 ∧ r = 0) ∧ (i < 0 ∨ ¬ i < 4096 → u = 1) ∧ ∀ x, x ≠ t → F' x = F x) := by
  refine gM_of2 rfl (nL := 2) (Nat.le_of_ble_eq_true rfl) ?_
  intro X hX hC; subst hX
  show gG X d b _ F 0 0 0 [some (.ref t), some (.int i)] []
  refine g_aload_n hC dX12_word_0 rfl ?_
  refine g_iconst (v := 0) hC dX12_word_1 rfl ?_
  refine g_rput hC h fl_X12_7 rfl rfl (by decide) dX12_word_2 (fun F1 f2 e3 ho4 hx5 => ?_)
  have f6 : F1 w8 = .inl (gI d, 65536, .inl (fun _ => 0)) := (hx5 w8 (gne ha_w8 h gk_ao)).trans ha_w8
  have k7 : gKr F F1 t [] := gKr.tr (gKr.rf (F := F) (t := t) (l := [])) (fun x h1 _ => hx5 x h1)
  have p8 : f2 99 = .int 4096 := by rw [e3]; exact (va_up_ne _ _ (by decide)).trans hv99
  have p9 : f2 98 = .ref w8 := by rw [e3]; exact (va_up_ne _ _ (by decide)).trans hv98
  have p10 : f2 0 = .int 0 := by rw [e3]; exact va_up_self _ _ _
  refine g_iload_n hC dX12_word_5 rfl ?_
  refine g_if_lt (tgt := 17) hC dX12_word_6 (by decide) (fun c11 => ?_) (fun c11 => ?_)
  · refine g_aload_n hC dX12_word_17 rfl ?_
    refine g_iconst (v := 1) hC dX12_word_18 rfl ?_
    refine g_rput hC ho4 fl_X12_7 rfl rfl (by decide) dX12_word_19 (fun F12 f13 e14 ho15 hx16 => ?_)
    have f17 : F12 w8 = .inl (gI d, 65536, .inl (fun _ => 0)) := (hx16 w8 (gne f6 ho4 gk_ao)).trans f6
    have k18 : gKr F F12 t [] := gKr.tr k7 (fun x h1 _ => hx16 x h1)
    have p19 : f13 99 = .int 4096 := by rw [e14]; exact (va_up_ne _ _ (by decide)).trans p8
    have p20 : f13 98 = .ref w8 := by rw [e14]; exact (va_up_ne _ _ (by decide)).trans p9
    have p21 : f13 0 = .int 1 := by rw [e14]; exact va_up_self _ _ _
    refine g_iconst (v := 0) hC dX12_word_22 rfl ?_
    exact g_iret hC rfl ⟨_, 1, ho15, p21, fun z => absurd c11 z.1, fun _ => rfl, fun x hx => k18 x hx List.not_mem_nil⟩ (by first | exact Nat.le_of_ble_eq_true rfl | omega | (simp only [gR]; omega)) (by first | exact Nat.le_of_ble_eq_true rfl | omega | (simp only [gR]; omega)) dX12_word_23
  · refine g_iload_n hC dX12_word_9 rfl ?_
    refine g_aload_n hC dX12_word_10 rfl ?_
    refine g_rget hC ho4 fl_X12_315 p8 (by decide) dX12_word_11 ?_
    refine g_icmp_lt (tgt := 24) hC dX12_word_14 (by decide) (fun c22 => ?_) (fun c22 => ?_)
    · have hi1 : i ≤ nI 4095 := g4095 c22
      refine g_aload_n hC dX12_word_24 rfl ?_
      refine g_rget hC ho4 fl_X12_312 p9 (by decide) dX12_word_25 ?_
      refine g_iload_n hC dX12_word_28 rfl ?_
      refine g_iald hC f6 (by obtain ⟨N, hN, rfl⟩ := gin1 4095 (by decide) c11 hi1; exact vp_in_nI (by omega) (by decide)) dX12_word_29 ?_
      refine g_vi (fun x23 ex23 => ?_)
      exact g_iret hC rfl ⟨_, 0, ho4, p10, fun _ => ⟨rfl, ex23⟩, fun z => z.elim (fun a => absurd a c11) (fun a => absurd c22 a), fun x hx => k7 x hx List.not_mem_nil⟩ (by first | exact Nat.le_of_ble_eq_true rfl | omega | (simp only [gR]; omega)) (by first | exact Nat.le_of_ble_eq_true rfl | omega | (simp only [gR]; omega)) dX12_word_30
    · refine g_aload_n hC dX12_word_17 rfl ?_
      refine g_iconst (v := 1) hC dX12_word_18 rfl ?_
      refine g_rput hC ho4 fl_X12_7 rfl rfl (by decide) dX12_word_19 (fun F24 f25 e26 ho27 hx28 => ?_)
      have f29 : F24 w8 = .inl (gI d, 65536, .inl (fun _ => 0)) := (hx28 w8 (gne f6 ho4 gk_ao)).trans f6
      have k30 : gKr F F24 t [] := gKr.tr k7 (fun x h1 _ => hx28 x h1)
      have p31 : f25 99 = .int 4096 := by rw [e26]; exact (va_up_ne _ _ (by decide)).trans p8
      have p32 : f25 98 = .ref w8 := by rw [e26]; exact (va_up_ne _ _ (by decide)).trans p9
      have p33 : f25 0 = .int 1 := by rw [e26]; exact va_up_self _ _ _
      refine g_iconst (v := 0) hC dX12_word_22 rfl ?_
      exact g_iret hC rfl ⟨_, 1, ho27, p33, fun z => absurd z.2 c22, fun _ => rfl, fun x hx => k30 x hx List.not_mem_nil⟩ (by first | exact Nat.le_of_ble_eq_true rfl | omega | (simp only [gR]; omega)) (by first | exact Nat.le_of_ble_eq_true rfl | omega | (simp only [gR]; omega)) dX12_word_23
theorem dX12_rowsOf_0 : decode cX12_rowsOf 0 = .ok (.iconst 1, 1) := by decide +kernel
theorem dX12_rowsOf_1 : decode cX12_rowsOf 1 = .ok (.istore_n 2, 1) := by decide +kernel
theorem dX12_rowsOf_2 : decode cX12_rowsOf 2 = .ok (.aload_n 0, 1) := by decide +kernel
theorem dX12_rowsOf_3 : decode cX12_rowsOf 3 = .ok (.getfield 354, 3) := by decide +kernel
theorem dX12_rowsOf_6 : decode cX12_rowsOf 6 = .ok (.iload_n 1, 1) := by decide +kernel
theorem dX12_rowsOf_7 : decode cX12_rowsOf 7 = .ok (.iaload, 1) := by decide +kernel
theorem dX12_rowsOf_8 : decode cX12_rowsOf 8 = .ok (.iconst 1, 1) := by decide +kernel
theorem dX12_rowsOf_9 : decode cX12_rowsOf 9 = .ok (.isub, 1) := by decide +kernel
theorem dX12_rowsOf_10 : decode cX12_rowsOf 10 = .ok (.istore_n 3, 1) := by decide +kernel
theorem dX12_rowsOf_11 : decode cX12_rowsOf 11 = .ok (.iload_n 3, 1) := by decide +kernel
theorem dX12_rowsOf_12 : decode cX12_rowsOf 12 = .ok (.ifCond .lt 199, 3) := by decide +kernel
theorem dX12_rowsOf_15 : decode cX12_rowsOf 15 = .ok (.sipush 6000, 3) := by decide +kernel
theorem dX12_rowsOf_18 : decode cX12_rowsOf 18 = .ok (.iload_n 1, 1) := by decide +kernel
theorem dX12_rowsOf_19 : decode cX12_rowsOf 19 = .ok (.imul, 1) := by decide +kernel
theorem dX12_rowsOf_20 : decode cX12_rowsOf 20 = .ok (.iload_n 3, 1) := by decide +kernel
theorem dX12_rowsOf_21 : decode cX12_rowsOf 21 = .ok (.iadd, 1) := by decide +kernel
theorem dX12_rowsOf_22 : decode cX12_rowsOf 22 = .ok (.istore 4, 2) := by decide +kernel
theorem dX12_rowsOf_24 : decode cX12_rowsOf 24 = .ok (.aload_n 0, 1) := by decide +kernel
theorem dX12_rowsOf_25 : decode cX12_rowsOf 25 = .ok (.getfield 345, 3) := by decide +kernel
theorem dX12_rowsOf_28 : decode cX12_rowsOf 28 = .ok (.iload 4, 2) := by decide +kernel
theorem dX12_rowsOf_30 : decode cX12_rowsOf 30 = .ok (.baload, 1) := by decide +kernel
theorem dX12_rowsOf_31 : decode cX12_rowsOf 31 = .ok (.sipush 255, 3) := by decide +kernel
theorem dX12_rowsOf_34 : decode cX12_rowsOf 34 = .ok (.iand, 1) := by decide +kernel
theorem dX12_rowsOf_35 : decode cX12_rowsOf 35 = .ok (.istore 5, 2) := by decide +kernel
theorem dX12_rowsOf_37 : decode cX12_rowsOf 37 = .ok (.iload_n 3, 1) := by decide +kernel
theorem dX12_rowsOf_38 : decode cX12_rowsOf 38 = .ok (.iconst 1, 1) := by decide +kernel
theorem dX12_rowsOf_39 : decode cX12_rowsOf 39 = .ok (.iadd, 1) := by decide +kernel
theorem dX12_rowsOf_40 : decode cX12_rowsOf 40 = .ok (.aload_n 0, 1) := by decide +kernel
theorem dX12_rowsOf_41 : decode cX12_rowsOf 41 = .ok (.getfield 354, 3) := by decide +kernel
theorem dX12_rowsOf_44 : decode cX12_rowsOf 44 = .ok (.iload_n 1, 1) := by decide +kernel
theorem dX12_rowsOf_45 : decode cX12_rowsOf 45 = .ok (.iaload, 1) := by decide +kernel
theorem dX12_rowsOf_46 : decode cX12_rowsOf 46 = .ok (.if_icmp .ge 7, 3) := by decide +kernel
theorem dX12_rowsOf_49 : decode cX12_rowsOf 49 = .ok (.iconst 1, 1) := by decide +kernel
theorem dX12_rowsOf_50 : decode cX12_rowsOf 50 = .ok (.goto 4, 3) := by decide +kernel
theorem dX12_rowsOf_53 : decode cX12_rowsOf 53 = .ok (.iconst 0, 1) := by decide +kernel
theorem dX12_rowsOf_54 : decode cX12_rowsOf 54 = .ok (.istore 6, 2) := by decide +kernel
theorem dX12_rowsOf_56 : decode cX12_rowsOf 56 = .ok (.iload 6, 2) := by decide +kernel
theorem dX12_rowsOf_58 : decode cX12_rowsOf 58 = .ok (.ifCond .eq 19, 3) := by decide +kernel
theorem dX12_rowsOf_61 : decode cX12_rowsOf 61 = .ok (.aload_n 0, 1) := by decide +kernel
theorem dX12_rowsOf_62 : decode cX12_rowsOf 62 = .ok (.getfield 345, 3) := by decide +kernel
theorem dX12_rowsOf_65 : decode cX12_rowsOf 65 = .ok (.iload 4, 2) := by decide +kernel
theorem dX12_rowsOf_67 : decode cX12_rowsOf 67 = .ok (.iconst 1, 1) := by decide +kernel
theorem dX12_rowsOf_68 : decode cX12_rowsOf 68 = .ok (.iadd, 1) := by decide +kernel
theorem dX12_rowsOf_69 : decode cX12_rowsOf 69 = .ok (.baload, 1) := by decide +kernel
theorem dX12_rowsOf_70 : decode cX12_rowsOf 70 = .ok (.sipush 255, 3) := by decide +kernel
theorem dX12_rowsOf_73 : decode cX12_rowsOf 73 = .ok (.iand, 1) := by decide +kernel
theorem dX12_rowsOf_74 : decode cX12_rowsOf 74 = .ok (.goto 4, 3) := by decide +kernel
theorem dX12_rowsOf_77 : decode cX12_rowsOf 77 = .ok (.iconst (-1), 1) := by decide +kernel
theorem dX12_rowsOf_78 : decode cX12_rowsOf 78 = .ok (.istore 7, 2) := by decide +kernel
theorem dX12_rowsOf_80 : decode cX12_rowsOf 80 = .ok (.iload 5, 2) := by decide +kernel
theorem dX12_rowsOf_82 : decode cX12_rowsOf 82 = .ok (.invokestatic 840, 3) := by decide +kernel
theorem dX12_rowsOf_85 : decode cX12_rowsOf 85 = .ok (.ifCond .eq 11, 3) := by decide +kernel
theorem dX12_rowsOf_88 : decode cX12_rowsOf 88 = .ok (.iload 7, 2) := by decide +kernel
theorem dX12_rowsOf_90 : decode cX12_rowsOf 90 = .ok (.invokestatic 840, 3) := by decide +kernel
theorem dX12_rowsOf_93 : decode cX12_rowsOf 93 = .ok (.ifCond .ne 19, 3) := by decide +kernel
theorem dX12_rowsOf_96 : decode cX12_rowsOf 96 = .ok (.iload 5, 2) := by decide +kernel
theorem dX12_rowsOf_98 : decode cX12_rowsOf 98 = .ok (.invokestatic 471, 3) := by decide +kernel
theorem dX12_rowsOf_101 : decode cX12_rowsOf 101 = .ok (.ifCond .eq 15, 3) := by decide +kernel
theorem dX12_rowsOf_104 : decode cX12_rowsOf 104 = .ok (.iload 7, 2) := by decide +kernel
theorem dX12_rowsOf_106 : decode cX12_rowsOf 106 = .ok (.invokestatic 471, 3) := by decide +kernel
theorem dX12_rowsOf_109 : decode cX12_rowsOf 109 = .ok (.ifCond .eq 7, 3) := by decide +kernel
theorem dX12_rowsOf_112 : decode cX12_rowsOf 112 = .ok (.iconst 1, 1) := by decide +kernel
theorem dX12_rowsOf_113 : decode cX12_rowsOf 113 = .ok (.goto 4, 3) := by decide +kernel
theorem dX12_rowsOf_116 : decode cX12_rowsOf 116 = .ok (.iconst 0, 1) := by decide +kernel
theorem dX12_rowsOf_117 : decode cX12_rowsOf 117 = .ok (.istore 8, 2) := by decide +kernel
theorem dX12_rowsOf_119 : decode cX12_rowsOf 119 = .ok (.aload_n 0, 1) := by decide +kernel
theorem dX12_rowsOf_120 : decode cX12_rowsOf 120 = .ok (.getfield 348, 3) := by decide +kernel
theorem dX12_rowsOf_123 : decode cX12_rowsOf 123 = .ok (.iload 4, 2) := by decide +kernel
theorem dX12_rowsOf_125 : decode cX12_rowsOf 125 = .ok (.iload 8, 2) := by decide +kernel
theorem dX12_rowsOf_127 : decode cX12_rowsOf 127 = .ok (.ifCond .eq 15, 3) := by decide +kernel
theorem dX12_rowsOf_130 : decode cX12_rowsOf 130 = .ok (.aload_n 0, 1) := by decide +kernel
theorem dX12_rowsOf_131 : decode cX12_rowsOf 131 = .ok (.getfield 348, 3) := by decide +kernel
theorem dX12_rowsOf_134 : decode cX12_rowsOf 134 = .ok (.iload 4, 2) := by decide +kernel
theorem dX12_rowsOf_136 : decode cX12_rowsOf 136 = .ok (.iconst 1, 1) := by decide +kernel
theorem dX12_rowsOf_137 : decode cX12_rowsOf 137 = .ok (.iadd, 1) := by decide +kernel
theorem dX12_rowsOf_138 : decode cX12_rowsOf 138 = .ok (.iaload, 1) := by decide +kernel
theorem dX12_rowsOf_139 : decode cX12_rowsOf 139 = .ok (.goto 6, 3) := by decide +kernel
theorem dX12_rowsOf_142 : decode cX12_rowsOf 142 = .ok (.iload_n 3, 1) := by decide +kernel
theorem dX12_rowsOf_143 : decode cX12_rowsOf 143 = .ok (.iconst 1, 1) := by decide +kernel
theorem dX12_rowsOf_144 : decode cX12_rowsOf 144 = .ok (.iadd, 1) := by decide +kernel
theorem dX12_rowsOf_145 : decode cX12_rowsOf 145 = .ok (.iastore, 1) := by decide +kernel
theorem dX12_rowsOf_146 : decode cX12_rowsOf 146 = .ok (.iload 8, 2) := by decide +kernel
theorem dX12_rowsOf_148 : decode cX12_rowsOf 148 = .ok (.ifCond .eq 10, 3) := by decide +kernel
theorem dX12_rowsOf_151 : decode cX12_rowsOf 151 = .ok (.iload_n 2, 1) := by decide +kernel
theorem dX12_rowsOf_152 : decode cX12_rowsOf 152 = .ok (.bipush 10, 2) := by decide +kernel
theorem dX12_rowsOf_154 : decode cX12_rowsOf 154 = .ok (.imul, 1) := by decide +kernel
theorem dX12_rowsOf_155 : decode cX12_rowsOf 155 = .ok (.goto 4, 3) := by decide +kernel
theorem dX12_rowsOf_158 : decode cX12_rowsOf 158 = .ok (.iconst 1, 1) := by decide +kernel
theorem dX12_rowsOf_159 : decode cX12_rowsOf 159 = .ok (.istore_n 2, 1) := by decide +kernel
theorem dX12_rowsOf_160 : decode cX12_rowsOf 160 = .ok (.aload_n 0, 1) := by decide +kernel
theorem dX12_rowsOf_161 : decode cX12_rowsOf 161 = .ok (.getfield 351, 3) := by decide +kernel
theorem dX12_rowsOf_164 : decode cX12_rowsOf 164 = .ok (.iload 4, 2) := by decide +kernel
theorem dX12_rowsOf_166 : decode cX12_rowsOf 166 = .ok (.iload 5, 2) := by decide +kernel
theorem dX12_rowsOf_168 : decode cX12_rowsOf 168 = .ok (.invokestatic 471, 3) := by decide +kernel
theorem dX12_rowsOf_171 : decode cX12_rowsOf 171 = .ok (.ifCond .eq 32, 3) := by decide +kernel
theorem dX12_rowsOf_174 : decode cX12_rowsOf 174 = .ok (.iload 8, 2) := by decide +kernel
theorem dX12_rowsOf_176 : decode cX12_rowsOf 176 = .ok (.ifCond .eq 15, 3) := by decide +kernel
theorem dX12_rowsOf_179 : decode cX12_rowsOf 179 = .ok (.aload_n 0, 1) := by decide +kernel
theorem dX12_rowsOf_180 : decode cX12_rowsOf 180 = .ok (.getfield 351, 3) := by decide +kernel
theorem dX12_rowsOf_183 : decode cX12_rowsOf 183 = .ok (.iload 4, 2) := by decide +kernel
theorem dX12_rowsOf_185 : decode cX12_rowsOf 185 = .ok (.iconst 1, 1) := by decide +kernel
theorem dX12_rowsOf_186 : decode cX12_rowsOf 186 = .ok (.iadd, 1) := by decide +kernel
theorem dX12_rowsOf_187 : decode cX12_rowsOf 187 = .ok (.iaload, 1) := by decide +kernel
theorem dX12_rowsOf_188 : decode cX12_rowsOf 188 = .ok (.goto 4, 3) := by decide +kernel
theorem dX12_rowsOf_191 : decode cX12_rowsOf 191 = .ok (.iconst 0, 1) := by decide +kernel
theorem dX12_rowsOf_192 : decode cX12_rowsOf 192 = .ok (.iload 5, 2) := by decide +kernel
theorem dX12_rowsOf_194 : decode cX12_rowsOf 194 = .ok (.bipush 48, 2) := by decide +kernel
theorem dX12_rowsOf_196 : decode cX12_rowsOf 196 = .ok (.isub, 1) := by decide +kernel
theorem dX12_rowsOf_197 : decode cX12_rowsOf 197 = .ok (.iload_n 2, 1) := by decide +kernel
theorem dX12_rowsOf_198 : decode cX12_rowsOf 198 = .ok (.imul, 1) := by decide +kernel
theorem dX12_rowsOf_199 : decode cX12_rowsOf 199 = .ok (.iadd, 1) := by decide +kernel
theorem dX12_rowsOf_200 : decode cX12_rowsOf 200 = .ok (.goto 4, 3) := by decide +kernel
theorem dX12_rowsOf_203 : decode cX12_rowsOf 203 = .ok (.iconst 0, 1) := by decide +kernel
theorem dX12_rowsOf_204 : decode cX12_rowsOf 204 = .ok (.iastore, 1) := by decide +kernel
theorem dX12_rowsOf_205 : decode cX12_rowsOf 205 = .ok (.iinc 3 (-1), 3) := by decide +kernel
theorem dX12_rowsOf_208 : decode cX12_rowsOf 208 = .ok (.goto (-197), 3) := by decide +kernel
theorem dX12_rowsOf_211 : decode cX12_rowsOf 211 = .ok (.return_, 1) := by decide +kernel
set_option maxHeartbeats 4000000 in
set_option maxRecDepth 100000 in
theorem r_rowsOf (l : Launch) (d : gD) (b : Nat) (F : gM) (t : Nat) (f : Nat → Value) (i : Int32) (w5 : Nat) (g : Nat → Int32) (h : gRo F t f) (hv112 : f 112 = .ref w5) (ha_w5 : F w5 = .inl (gI d, 4, .inl g)) (hin : vp_in i 4) (hg : g i.toNatClampNeg = 0) : gMv l d b yX12_rowsOf cX12_rowsOf 9 0 0 0 F [.ref t, .int i] (fun _ => True) := by
  refine gM_of2 rfl (nL := 9) (Nat.le_of_ble_eq_true rfl) ?_
  intro X hX hC; subst hX
  show gG X d b _ F 0 0 0 [some (.ref t), some (.int i), none, none, none, none, none, none, none] []
  refine g_iconst (v := 1) hC dX12_rowsOf_0 rfl ?_
  refine g_istore_n (lv' := [some (.ref t), some (.int i), some (.int 1), none, none, none, none, none, none]) hC dX12_rowsOf_1 (Nat.le_of_ble_eq_true rfl) rfl rfl ?_
  refine g_aload_n hC dX12_rowsOf_2 rfl ?_
  refine g_rget hC h fl_X12_354 hv112 (by decide) dX12_rowsOf_3 ?_
  refine g_iload_n hC dX12_rowsOf_6 rfl ?_
  refine g_iald hC ha_w5 hin dX12_rowsOf_7 ?_
  refine g_vi (fun x1 ex1 => ?_)
  refine g_iconst (v := 1) hC dX12_rowsOf_8 rfl ?_
  refine g_isub hC dX12_rowsOf_9 ?_
  refine g_vi (fun x2 ex2 => ?_)
  refine g_istore_n (lv' := [some (.ref t), some (.int i), some (.int 1), some (.int x2), none, none, none, none, none]) hC dX12_rowsOf_10 (Nat.le_of_ble_eq_true rfl) rfl rfl ?_
  refine g_iload_n hC dX12_rowsOf_11 rfl ?_
  refine g_if_lt (tgt := 211) hC dX12_rowsOf_12 (by decide) (fun c3 => ?_) (fun c3 => ?_)
  · exact g_vret hC trivial (by first | exact Nat.le_of_ble_eq_true rfl | omega | (simp only [gR]; omega)) (by first | exact Nat.le_of_ble_eq_true rfl | omega | (simp only [gR]; omega)) dX12_rowsOf_211
  · exact absurd (by subst_vars; rw [hg]; decide) c3
theorem dX12_input_0 : decode cX12_input 0 = .ok (.aload_n 0, 1) := by decide +kernel
theorem dX12_input_1 : decode cX12_input 1 = .ok (.iconst 0, 1) := by decide +kernel
theorem dX12_input_2 : decode cX12_input 2 = .ok (.putfield 7, 3) := by decide +kernel
theorem dX12_input_5 : decode cX12_input 5 = .ok (.aload_n 0, 1) := by decide +kernel
theorem dX12_input_6 : decode cX12_input 6 = .ok (.getfield 17, 3) := by decide +kernel
theorem dX12_input_9 : decode cX12_input 9 = .ok (.istore_n 2, 1) := by decide +kernel
theorem dX12_input_10 : decode cX12_input 10 = .ok (.aload_n 0, 1) := by decide +kernel
theorem dX12_input_11 : decode cX12_input 11 = .ok (.iconst 0, 1) := by decide +kernel
theorem dX12_input_12 : decode cX12_input 12 = .ok (.putfield 17, 3) := by decide +kernel
theorem dX12_input_15 : decode cX12_input 15 = .ok (.iload_n 1, 1) := by decide +kernel
theorem dX12_input_16 : decode cX12_input 16 = .ok (.ifCond .lt 8, 3) := by decide +kernel
theorem dX12_input_19 : decode cX12_input 19 = .ok (.iload_n 1, 1) := by decide +kernel
theorem dX12_input_20 : decode cX12_input 20 = .ok (.iconst 3, 1) := by decide +kernel
theorem dX12_input_21 : decode cX12_input 21 = .ok (.if_icmp .le 5, 3) := by decide +kernel
theorem dX12_input_24 : decode cX12_input 24 = .ok (.iconst (-1), 1) := by decide +kernel
theorem dX12_input_25 : decode cX12_input 25 = .ok (.ireturn, 1) := by decide +kernel
theorem dX12_input_26 : decode cX12_input 26 = .ok (.iconst 0, 1) := by decide +kernel
theorem dX12_input_27 : decode cX12_input 27 = .ok (.istore_n 3, 1) := by decide +kernel
theorem dX12_input_28 : decode cX12_input 28 = .ok (.iload_n 3, 1) := by decide +kernel
theorem dX12_input_29 : decode cX12_input 29 = .ok (.iload_n 2, 1) := by decide +kernel
theorem dX12_input_30 : decode cX12_input 30 = .ok (.if_icmp .ge 27, 3) := by decide +kernel
theorem dX12_input_33 : decode cX12_input 33 = .ok (.aload_n 0, 1) := by decide +kernel
theorem dX12_input_34 : decode cX12_input 34 = .ok (.getfield 345, 3) := by decide +kernel
theorem dX12_input_37 : decode cX12_input 37 = .ok (.sipush 6000, 3) := by decide +kernel
theorem dX12_input_40 : decode cX12_input 40 = .ok (.iload_n 1, 1) := by decide +kernel
theorem dX12_input_41 : decode cX12_input 41 = .ok (.imul, 1) := by decide +kernel
theorem dX12_input_42 : decode cX12_input 42 = .ok (.iload_n 3, 1) := by decide +kernel
theorem dX12_input_43 : decode cX12_input 43 = .ok (.iadd, 1) := by decide +kernel
theorem dX12_input_44 : decode cX12_input 44 = .ok (.aload_n 0, 1) := by decide +kernel
theorem dX12_input_45 : decode cX12_input 45 = .ok (.getfield 13, 3) := by decide +kernel
theorem dX12_input_48 : decode cX12_input 48 = .ok (.iload_n 3, 1) := by decide +kernel
theorem dX12_input_49 : decode cX12_input 49 = .ok (.baload, 1) := by decide +kernel
theorem dX12_input_50 : decode cX12_input 50 = .ok (.bastore, 1) := by decide +kernel
theorem dX12_input_51 : decode cX12_input 51 = .ok (.iinc 3 1, 3) := by decide +kernel
theorem dX12_input_54 : decode cX12_input 54 = .ok (.goto (-26), 3) := by decide +kernel
theorem dX12_input_57 : decode cX12_input 57 = .ok (.aload_n 0, 1) := by decide +kernel
theorem dX12_input_58 : decode cX12_input 58 = .ok (.getfield 354, 3) := by decide +kernel
theorem dX12_input_61 : decode cX12_input 61 = .ok (.iload_n 1, 1) := by decide +kernel
theorem dX12_input_62 : decode cX12_input 62 = .ok (.iload_n 2, 1) := by decide +kernel
theorem dX12_input_63 : decode cX12_input 63 = .ok (.iastore, 1) := by decide +kernel
theorem dX12_input_64 : decode cX12_input 64 = .ok (.aload_n 0, 1) := by decide +kernel
theorem dX12_input_65 : decode cX12_input 65 = .ok (.getfield 357, 3) := by decide +kernel
theorem dX12_input_68 : decode cX12_input 68 = .ok (.iload_n 1, 1) := by decide +kernel
theorem dX12_input_69 : decode cX12_input 69 = .ok (.iconst 0, 1) := by decide +kernel
theorem dX12_input_70 : decode cX12_input 70 = .ok (.iastore, 1) := by decide +kernel
theorem dX12_input_71 : decode cX12_input 71 = .ok (.aload_n 0, 1) := by decide +kernel
theorem dX12_input_72 : decode cX12_input 72 = .ok (.iload_n 1, 1) := by decide +kernel
theorem dX12_input_73 : decode cX12_input 73 = .ok (.invokevirtual 927, 3) := by decide +kernel
theorem dX12_input_76 : decode cX12_input 76 = .ok (.iload_n 2, 1) := by decide +kernel
theorem dX12_input_77 : decode cX12_input 77 = .ok (.ireturn, 1) := by decide +kernel
set_option maxHeartbeats 4000000 in
set_option maxRecDepth 100000 in
theorem r_input (l : Launch) (d : gD) (b : Nat) (F : gM) (t : Nat) (f : Nat → Value) (i : Int32) (w5 w6 : Nat) (h : gRo F t f) (hv2 : f 2 = .int 0) (hv112 : f 112 = .ref w5) (hv113 : f 113 = .ref w6) (ha_w5 : F w5 = .inl (gI d, 4, .inl (fun _ => 0))) (ha_w6 : F w6 = .inl (gI d, 4, .inl (fun _ => 0))) (hne : w5 ≠ w6) : gMi l d b yX12_input cX12_input 4 .int 1 0 0 F [.ref t, .int i] (fun r _ => (i < 0 ∨ ¬ i ≤ 3 → r = (-1)) ∧ (¬ i < 0 ∧ i ≤ 3 → r = 0)) := by
  refine gM_of2 rfl (nL := 4) (Nat.le_of_ble_eq_true rfl) ?_
  intro X hX hC; subst hX
  show gG X d b _ F 0 0 0 [some (.ref t), some (.int i), none, none] []
  refine g_aload_n hC dX12_input_0 rfl ?_
  refine g_iconst (v := 0) hC dX12_input_1 rfl ?_
  refine g_rput hC h fl_X12_7 rfl rfl (by decide) dX12_input_2 (fun F1 f2 e3 ho4 hx5 => ?_)
  have f6 : F1 w5 = .inl (gI d, 4, .inl (fun _ => 0)) := (hx5 w5 (gne ha_w5 h gk_ao)).trans ha_w5
  have f7 : F1 w6 = .inl (gI d, 4, .inl (fun _ => 0)) := (hx5 w6 (gne ha_w6 h gk_ao)).trans ha_w6
  have p8 : f2 2 = .int 0 := by rw [e3]; exact (va_up_ne _ _ (by decide)).trans hv2
  have p9 : f2 112 = .ref w5 := by rw [e3]; exact (va_up_ne _ _ (by decide)).trans hv112
  have p10 : f2 113 = .ref w6 := by rw [e3]; exact (va_up_ne _ _ (by decide)).trans hv113
  have p11 : f2 0 = .int 0 := by rw [e3]; exact va_up_self _ _ _
  refine g_aload_n hC dX12_input_5 rfl ?_
  refine g_rget hC ho4 fl_X12_17 p8 (by decide) dX12_input_6 ?_
  refine g_istore_n (lv' := [some (.ref t), some (.int i), some (.int 0), none]) hC dX12_input_9 (Nat.le_of_ble_eq_true rfl) rfl rfl ?_
  refine g_aload_n hC dX12_input_10 rfl ?_
  refine g_iconst (v := 0) hC dX12_input_11 rfl ?_
  refine g_rput hC ho4 fl_X12_17 rfl rfl (by decide) dX12_input_12 (fun F12 f13 e14 ho15 hx16 => ?_)
  have f17 : F12 w5 = .inl (gI d, 4, .inl (fun _ => 0)) := (hx16 w5 (gne f6 ho4 gk_ao)).trans f6
  have f18 : F12 w6 = .inl (gI d, 4, .inl (fun _ => 0)) := (hx16 w6 (gne f7 ho4 gk_ao)).trans f7
  have p19 : f13 112 = .ref w5 := by rw [e14]; exact (va_up_ne _ _ (by decide)).trans p9
  have p20 : f13 113 = .ref w6 := by rw [e14]; exact (va_up_ne _ _ (by decide)).trans p10
  have p21 : f13 0 = .int 0 := by rw [e14]; exact (va_up_ne _ _ (by decide)).trans p11
  have p22 : f13 2 = .int 0 := by rw [e14]; exact va_up_self _ _ _
  refine g_iload_n hC dX12_input_15 rfl ?_
  refine g_if_lt (tgt := 24) hC dX12_input_16 (by decide) (fun c23 => ?_) (fun c23 => ?_)
  · refine g_iconst (v := (-1)) hC dX12_input_24 rfl ?_
    exact g_iret hC rfl ⟨fun _ => rfl, fun z => absurd c23 z.1⟩ (by first | exact Nat.le_of_ble_eq_true rfl | omega | (simp only [gR]; omega)) (by first | exact Nat.le_of_ble_eq_true rfl | omega | (simp only [gR]; omega)) dX12_input_25
  · refine g_iload_n hC dX12_input_19 rfl ?_
    refine g_iconst (v := 3) hC dX12_input_20 rfl ?_
    refine g_icmp_le (tgt := 26) hC dX12_input_21 (by decide) (fun c24 => ?_) (fun c24 => ?_)
    · refine g_iconst (v := 0) hC dX12_input_26 rfl ?_
      refine g_istore_n (lv' := [some (.ref t), some (.int i), some (.int 0), some (.int 0)]) hC dX12_input_27 (Nat.le_of_ble_eq_true rfl) rfl rfl ?_
      refine g_iload_n hC dX12_input_28 rfl ?_
      refine g_iload_n hC dX12_input_29 rfl ?_
      refine g_icmp_ge (tgt := 57) hC dX12_input_30 (by decide) (fun c25 => ?_) (fun c25 => ?_)
      · refine g_aload_n hC dX12_input_57 rfl ?_
        refine g_rget hC ho15 fl_X12_354 p19 (by decide) dX12_input_58 ?_
        refine g_iload_n hC dX12_input_61 rfl ?_
        refine g_iload_n hC dX12_input_62 rfl ?_
        refine g_iast hC f17 (by obtain ⟨N, hN, rfl⟩ := gin1 3 (by decide) c23 c24; exact vp_in_nI hN (by decide)) dX12_input_63 ?_
        refine g_vF (fun F26 hF26 => ?_)
        have f28 : F26 w6 = .inl (gI d, 4, .inl (fun _ => 0)) := by rw [hF26, va_up_ne _ _ (Ne.symm hne)]; exact f18
        have f27 : F26 w5 = .inl (gI d, 4, .inl (upd (fun _ => 0) (i).toNatClampNeg 0)) := by rw [hF26]; exact va_up_self _ _ _
        have ho29 : gRo F26 t f13 := by show F26 t = _; rw [hF26, va_up_ne _ _ (gne ho15 f17 gk_oa)]; exact ho15
        refine g_aload_n hC dX12_input_64 rfl ?_
        refine g_rget hC ho29 fl_X12_357 p20 (by decide) dX12_input_65 ?_
        refine g_iload_n hC dX12_input_68 rfl ?_
        refine g_iconst (v := 0) hC dX12_input_69 rfl ?_
        refine g_iast hC f28 (by obtain ⟨N, hN, rfl⟩ := gin1 3 (by decide) c23 c24; exact vp_in_nI hN (by decide)) dX12_input_70 ?_
        refine g_vF (fun F30 hF30 => ?_)
        have f32 : F30 w5 = .inl (gI d, 4, .inl (upd (fun _ => 0) (i).toNatClampNeg 0)) := by rw [hF30, va_up_ne _ _ hne]; exact f27
        have f31 : F30 w6 = .inl (gI d, 4, .inl (upd (fun _ => 0) (i).toNatClampNeg 0)) := by rw [hF30]; exact va_up_self _ _ _
        have ho33 : gRo F30 t f13 := by show F30 t = _; rw [hF30, va_up_ne _ _ (gne ho29 f28 gk_oa)]; exact ho29
        refine g_aload_n hC dX12_input_71 rfl ?_
        refine g_iload_n hC dX12_input_72 rfl ?_
        refine g_callVv (As := [.int i]) hC rfl ho33 (r_rowsOf X.la d b F30 t _ i w5 _ ho33 p19 f32 (by obtain ⟨N, hN, rfl⟩ := gin1 3 (by decide) c23 c24; exact vp_in_nI hN (by decide)) (by simp [upd])) cl_X12_927 rfl rfl (Nat.le_of_ble_eq_true rfl) (gFit_of (Nat.le_of_ble_eq_true rfl) (Nat.le_of_ble_eq_true rfl) (by first | exact Nat.le_of_ble_eq_true rfl | omega | (simp only [gR]; omega)) (by first | exact Nat.le_of_ble_eq_true rfl | omega | (simp only [gR]; omega))) dX12_input_73 (fun F34 p35 => ?_)
        refine g_iload_n hC dX12_input_76 rfl ?_
        exact g_iret hC rfl ⟨fun z => z.elim (fun a => absurd a c23) (fun a => absurd c24 a), fun _ => rfl⟩ (by first | exact Nat.le_of_ble_eq_true rfl | omega | (simp only [gR]; omega)) (by first | exact Nat.le_of_ble_eq_true rfl | omega | (simp only [gR]; omega)) dX12_input_77
      · exact absurd (by decide) c25
    · refine g_iconst (v := (-1)) hC dX12_input_24 rfl ?_
      exact g_iret hC rfl ⟨fun _ => rfl, fun z => absurd z.2 c24⟩ (by first | exact Nat.le_of_ble_eq_true rfl | omega | (simp only [gR]; omega)) (by first | exact Nat.le_of_ble_eq_true rfl | omega | (simp only [gR]; omega)) dX12_input_25
