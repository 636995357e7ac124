theorem kw_713 : Cond.fieldLink RX0 27 "WordTongue$Channels" "inHand" "I" ∈ gWs := List.mem_filter.mpr ⟨gMt2 _ (List.mem_of_getElem? (i := 236) rfl), rfl⟩
theorem fl_X0_27 : gFL RX0 27 0 3 .int false := ⟨RX0, TX0, 5, tyX0, rfl, by decide, inW_RX0, kw_713, tyX0_ok, nmX0, rfl, by decide +kernel, fun h => by cases h⟩
theorem kw_1827 : Cond.methodLink RX0 49 yX4_get ∈ gWs := List.mem_filter.mpr ⟨gMt7 _ (List.mem_of_getElem? (i := 150) rfl), rfl⟩
theorem cl_X0_49 : gCV RX0 49 yX4_get cX4_get 2 (some .int) 1 := ⟨g_mk [.methodLink RX0 49 yX4_get, .instanceMethod yX4_get, .selects yX4_get.cls yX4_get yX4_get, .initialized yX4_get.cls] (gWs_all kw_436) (List.forall_mem_cons.mpr ⟨kw_1827, List.forall_mem_cons.mpr ⟨kw_434, List.forall_mem_cons.mpr ⟨kw_435, List.forall_mem_cons.mpr ⟨kw_239, fun _ h => nomatch h⟩⟩⟩⟩), rfl, by decide +kernel, by decide +kernel, by decide +kernel⟩
theorem kw_1826 : Cond.code yX0_next cX0_next 2 (some .int) ∈ gWs := List.mem_filter.mpr ⟨gMt7 _ (List.mem_of_getElem? (i := 149) rfl), rfl⟩
theorem kw_1823 : Cond.methodLink RX0 56 yX0_next ∈ gWs := List.mem_filter.mpr ⟨gMt7 _ (List.mem_of_getElem? (i := 146) rfl), rfl⟩
theorem kw_1825 : Cond.instanceMethod yX0_next ∈ gWs := List.mem_filter.mpr ⟨gMt7 _ (List.mem_of_getElem? (i := 148) rfl), rfl⟩
theorem kw_120 : Cond.selects RX0 yX0_next yX0_next ∈ gWs := gWm 120 (by decide +kernel) rfl
theorem cl_X0_56 : gCV RX0 56 yX0_next cX0_next 2 (some .int) 0 := ⟨g_mk [.methodLink RX0 56 yX0_next, .instanceMethod yX0_next, .selects yX0_next.cls yX0_next yX0_next, .initialized yX0_next.cls] (gWs_all kw_1826) (List.forall_mem_cons.mpr ⟨kw_1823, List.forall_mem_cons.mpr ⟨kw_1825, List.forall_mem_cons.mpr ⟨kw_120, List.forall_mem_cons.mpr ⟨kw_254, fun _ h => nomatch h⟩⟩⟩⟩), rfl, by decide +kernel, by decide +kernel, by decide +kernel⟩
theorem kw_714 : Cond.fieldLink RX0 31 "WordTongue$Channels" "outHand" "I" ∈ gWs := List.mem_filter.mpr ⟨gMt2 _ (List.mem_of_getElem? (i := 237) rfl), rfl⟩
theorem fl_X0_31 : gFL RX0 31 0 4 .int false := ⟨RX0, TX0, 5, tyX0, rfl, by decide, inW_RX0, kw_714, tyX0_ok, nmX0, rfl, by decide +kernel, fun h => by cases h⟩
theorem kw_1813 : Cond.methodLink RX0 66 yX4_add ∈ gWs := List.mem_filter.mpr ⟨gMt7 _ (List.mem_of_getElem? (i := 136) rfl), rfl⟩
theorem cl_X0_66 : gCV RX0 66 yX4_add cX4_add 2 none 1 := ⟨g_mk [.methodLink RX0 66 yX4_add, .instanceMethod yX4_add, .selects yX4_add.cls yX4_add yX4_add, .initialized yX4_add.cls] (gWs_all kw_444) (List.forall_mem_cons.mpr ⟨kw_1813, List.forall_mem_cons.mpr ⟨kw_442, List.forall_mem_cons.mpr ⟨kw_443, List.forall_mem_cons.mpr ⟨kw_239, fun _ h => nomatch h⟩⟩⟩⟩), rfl, by decide +kernel, by decide +kernel, by decide +kernel⟩
theorem gib {i r : Int32} {m : Nat} (h1 : i < 0 ∨ nI m ≤ i → r = 0) (h2 : ¬ i < 0 ∧ ¬ nI m ≤ i → r = 1) : r = 0 ∨ r = 1 :=
  (Classical.em (i < 0 ∨ nI m ≤ i)).elim (fun q => Or.inl (h1 q)) (fun q => Or.inr (h2 ⟨fun z => q (Or.inl z), fun z => q (Or.inr z)⟩))
theorem dX0_rewind_0 : decode cX0_rewind 0 = .ok (.aload_n 0, 1) := by decide +kernel
theorem dX0_rewind_1 : decode cX0_rewind 1 = .ok (.aload_n 0, 1) := by decide +kernel
theorem dX0_rewind_2 : decode cX0_rewind 2 = .ok (.getfield 27, 3) := by decide +kernel
theorem dX0_rewind_5 : decode cX0_rewind 5 = .ok (.invokevirtual 34, 3) := by decide +kernel
theorem dX0_rewind_8 : decode cX0_rewind 8 = .ok (.ifCond .eq 13, 3) := by decide +kernel
theorem dX0_rewind_11 : decode cX0_rewind 11 = .ok (.aload_n 0, 1) := by decide +kernel
theorem dX0_rewind_12 : decode cX0_rewind 12 = .ok (.getfield 20, 3) := by decide +kernel
theorem dX0_rewind_15 : decode cX0_rewind 15 = .ok (.aload_n 0, 1) := by decide +kernel
theorem dX0_rewind_16 : decode cX0_rewind 16 = .ok (.getfield 27, 3) := by decide +kernel
theorem dX0_rewind_19 : decode cX0_rewind 19 = .ok (.iconst 0, 1) := by decide +kernel
theorem dX0_rewind_20 : decode cX0_rewind 20 = .ok (.iastore, 1) := by decide +kernel
theorem dX0_rewind_21 : decode cX0_rewind 21 = .ok (.return_, 1) := by decide +kernel
set_option maxHeartbeats 4000000 in
set_option maxRecDepth 100000 in
theorem s_C_rewind (l : Launch) (d : gD) (b : Nat) (Y : gYt) (c : Nat × Nat) (F : gM) (k n : Nat) {S : gSt} (hi : hI d b Y c (F, k, n) S) (hA : gPsi S ≤ gAm) : hMv l d b yX0_rewind cX0_rewind 1 2 k n F [.ref (gO' Y 6)] (fun u => ∃ S', hI d b Y c u S' ∧ gKp Y F u.1 ∧ gSm S S' [44] [] ∧ gPsi S' ≤ gPsi S) := by
  intro mc ms
  refine hM_of2 rfl (nL := 1) (Nat.le_of_ble_eq_true rfl) ?_
  intro X hX hC hr ho; subst hX
  show hG X d b _ F k n 0 [some (.ref (gO' Y 6))] []
  refine h_aload_n hC dX0_rewind_0 rfl ?_
  refine h_aload_n hC dX0_rewind_1 rfl ?_
  refine h_get hC fl_X0_27 (hi.1.o 6 (by decide)) rfl dX0_rewind_2 ?_
  refine g_callVi (As := [.int (sV S 25)]) hC rfl (hi.1.o 6 (by decide)) (c_C_isInput X.la d b Y _ S hi.1 (sV S 25)) cl_X0_34 rfl rfl (Nat.le_of_ble_eq_true rfl) (h_fit0 hC hr ho (hFr_of (Nat.le_of_ble_eq_true rfl) (Nat.le_of_ble_eq_true rfl))) dX0_rewind_5 (fun r1 F2 p3 => ?_)
  obtain ⟨zr1, yr1, eF2⟩ := p3; have eF2 := eF2.symm; subst eF2
  refine h_same hC ho ?_
  refine h_if_eq (tgt := 21) hC dX0_rewind_8 (by decide) (fun c4 => ?_) (fun c4 => ?_)
  · exact h_vret hC hr ho rfl rfl ⟨S, hi, gKp.rf, gSm.rf, by omega⟩ dX0_rewind_21
  · obtain ⟨N5, hN5, e6⟩ := hin_of (by decide) zr1 c4
    obtain rfl | rfl | rfl | rfl := (by omega : N5 = 0 ∨ N5 = 1 ∨ N5 = 2 ∨ N5 = 3)
    · refine h_aload_n hC dX0_rewind_11 rfl ?_
      refine h_get hC fl_X0_20 (hi.1.o 6 (by decide)) rfl dX0_rewind_12 ?_
      refine h_aload_n hC dX0_rewind_15 rfl ?_
      refine h_get hC fl_X0_27 (hi.1.o 6 (by decide)) rfl dX0_rewind_16 ?_
      refine h_iconst (v := 0) hC dX0_rewind_19 rfl ?_
      refine hi_pst hC hi (by rw [e6]; exact vp_in_nI (by decide) (by decide)) dX0_rewind_20 (fun F7 S8 I9 K10 s11 p12 => ?_)
      have m13 : gSm S S8 [44] [] := gSm.wk s11 _ _ rfl rfl
      exact h_vret hC hr ho rfl rfl ⟨S8, I9, K10, m13, by omega⟩ dX0_rewind_21
    · refine h_aload_n hC dX0_rewind_11 rfl ?_
      refine h_get hC fl_X0_20 (hi.1.o 6 (by decide)) rfl dX0_rewind_12 ?_
      refine h_aload_n hC dX0_rewind_15 rfl ?_
      refine h_get hC fl_X0_27 (hi.1.o 6 (by decide)) rfl dX0_rewind_16 ?_
      refine h_iconst (v := 0) hC dX0_rewind_19 rfl ?_
      refine hi_pst hC hi (by rw [e6]; exact vp_in_nI (by decide) (by decide)) dX0_rewind_20 (fun F15 S16 I17 K18 s19 p20 => ?_)
      have m21 : gSm S S16 [44] [] := gSm.wk s19 _ _ rfl rfl
      exact h_vret hC hr ho rfl rfl ⟨S16, I17, K18, m21, by omega⟩ dX0_rewind_21
    · refine h_aload_n hC dX0_rewind_11 rfl ?_
      refine h_get hC fl_X0_20 (hi.1.o 6 (by decide)) rfl dX0_rewind_12 ?_
      refine h_aload_n hC dX0_rewind_15 rfl ?_
      refine h_get hC fl_X0_27 (hi.1.o 6 (by decide)) rfl dX0_rewind_16 ?_
      refine h_iconst (v := 0) hC dX0_rewind_19 rfl ?_
      refine hi_pst hC hi (by rw [e6]; exact vp_in_nI (by decide) (by decide)) dX0_rewind_20 (fun F23 S24 I25 K26 s27 p28 => ?_)
      have m29 : gSm S S24 [44] [] := gSm.wk s27 _ _ rfl rfl
      exact h_vret hC hr ho rfl rfl ⟨S24, I25, K26, m29, by omega⟩ dX0_rewind_21
    · refine h_aload_n hC dX0_rewind_11 rfl ?_
      refine h_get hC fl_X0_20 (hi.1.o 6 (by decide)) rfl dX0_rewind_12 ?_
      refine h_aload_n hC dX0_rewind_15 rfl ?_
      refine h_get hC fl_X0_27 (hi.1.o 6 (by decide)) rfl dX0_rewind_16 ?_
      refine h_iconst (v := 0) hC dX0_rewind_19 rfl ?_
      refine hi_pst hC hi (by rw [e6]; exact vp_in_nI (by decide) (by decide)) dX0_rewind_20 (fun F31 S32 I33 K34 s35 p36 => ?_)
      have m37 : gSm S S32 [44] [] := gSm.wk s35 _ _ rfl rfl
      exact h_vret hC hr ho rfl rfl ⟨S32, I33, K34, m37, by omega⟩ dX0_rewind_21
theorem dX0_next_0 : decode cX0_next 0 = .ok (.aload_n 0, 1) := by decide +kernel
theorem dX0_next_1 : decode cX0_next 1 = .ok (.aload_n 0, 1) := by decide +kernel
theorem dX0_next_2 : decode cX0_next 2 = .ok (.getfield 27, 3) := by decide +kernel
theorem dX0_next_5 : decode cX0_next 5 = .ok (.invokevirtual 34, 3) := by decide +kernel
theorem dX0_next_8 : decode cX0_next 8 = .ok (.ifCond .eq 31, 3) := by decide +kernel
theorem dX0_next_11 : decode cX0_next 11 = .ok (.aload_n 0, 1) := by decide +kernel
theorem dX0_next_12 : decode cX0_next 12 = .ok (.getfield 20, 3) := by decide +kernel
theorem dX0_next_15 : decode cX0_next 15 = .ok (.aload_n 0, 1) := by decide +kernel
theorem dX0_next_16 : decode cX0_next 16 = .ok (.getfield 27, 3) := by decide +kernel
theorem dX0_next_19 : decode cX0_next 19 = .ok (.iaload, 1) := by decide +kernel
theorem dX0_next_20 : decode cX0_next 20 = .ok (.aload_n 0, 1) := by decide +kernel
theorem dX0_next_21 : decode cX0_next 21 = .ok (.getfield 14, 3) := by decide +kernel
theorem dX0_next_24 : decode cX0_next 24 = .ok (.aload_n 0, 1) := by decide +kernel
theorem dX0_next_25 : decode cX0_next 25 = .ok (.getfield 27, 3) := by decide +kernel
theorem dX0_next_28 : decode cX0_next 28 = .ok (.aaload, 1) := by decide +kernel
theorem dX0_next_29 : decode cX0_next 29 = .ok (.invokevirtual 42, 3) := by decide +kernel
theorem dX0_next_32 : decode cX0_next 32 = .ok (.if_icmp .ge 7, 3) := by decide +kernel
theorem dX0_next_35 : decode cX0_next 35 = .ok (.iconst 1, 1) := by decide +kernel
theorem dX0_next_36 : decode cX0_next 36 = .ok (.goto 4, 3) := by decide +kernel
theorem dX0_next_39 : decode cX0_next 39 = .ok (.iconst 0, 1) := by decide +kernel
theorem dX0_next_40 : decode cX0_next 40 = .ok (.istore_n 1, 1) := by decide +kernel
theorem dX0_next_41 : decode cX0_next 41 = .ok (.iload_n 1, 1) := by decide +kernel
theorem dX0_next_42 : decode cX0_next 42 = .ok (.ifCond .eq 27, 3) := by decide +kernel
theorem dX0_next_45 : decode cX0_next 45 = .ok (.aload_n 0, 1) := by decide +kernel
theorem dX0_next_46 : decode cX0_next 46 = .ok (.getfield 14, 3) := by decide +kernel
theorem dX0_next_49 : decode cX0_next 49 = .ok (.aload_n 0, 1) := by decide +kernel
theorem dX0_next_50 : decode cX0_next 50 = .ok (.getfield 27, 3) := by decide +kernel
theorem dX0_next_53 : decode cX0_next 53 = .ok (.aaload, 1) := by decide +kernel
theorem dX0_next_54 : decode cX0_next 54 = .ok (.aload_n 0, 1) := by decide +kernel
theorem dX0_next_55 : decode cX0_next 55 = .ok (.getfield 20, 3) := by decide +kernel
theorem dX0_next_58 : decode cX0_next 58 = .ok (.aload_n 0, 1) := by decide +kernel
theorem dX0_next_59 : decode cX0_next 59 = .ok (.getfield 27, 3) := by decide +kernel
theorem dX0_next_62 : decode cX0_next 62 = .ok (.iaload, 1) := by decide +kernel
theorem dX0_next_63 : decode cX0_next 63 = .ok (.invokevirtual 49, 3) := by decide +kernel
theorem dX0_next_66 : decode cX0_next 66 = .ok (.goto 4, 3) := by decide +kernel
theorem dX0_next_69 : decode cX0_next 69 = .ok (.iconst (-1), 1) := by decide +kernel
theorem dX0_next_70 : decode cX0_next 70 = .ok (.ireturn, 1) := by decide +kernel
set_option maxHeartbeats 4000000 in
set_option maxRecDepth 100000 in
theorem s_C_next (l : Launch) (d : gD) (b : Nat) (Y : gYt) (c : Nat × Nat) (F : gM) (k n : Nat) {S : gSt} (hi : hI d b Y c (F, k, n) S)  : hMi l d b yX0_next cX0_next 2 .int 2 k n F [.ref (gO' Y 6)] (fun r u => True ∧ u = (F, k, n)) := by
  intro mc ms
  refine hM_of2 rfl (nL := 2) (Nat.le_of_ble_eq_true rfl) ?_
  intro X hX hC hr ho; subst hX
  show hG X d b _ F k n 0 [some (.ref (gO' Y 6)), none] []
  refine h_aload_n hC dX0_next_0 rfl ?_
  refine h_aload_n hC dX0_next_1 rfl ?_
  refine h_get hC fl_X0_27 (hi.1.o 6 (by decide)) rfl dX0_next_2 ?_
  refine g_callVi (As := [.int (sV S 25)]) hC rfl (hi.1.o 6 (by decide)) (c_C_isInput X.la d b Y _ S hi.1 (sV S 25)) cl_X0_34 rfl rfl (Nat.le_of_ble_eq_true rfl) (h_fit0 hC hr ho (hFr_of (Nat.le_of_ble_eq_true rfl) (Nat.le_of_ble_eq_true rfl))) dX0_next_5 (fun r1 F2 p3 => ?_)
  obtain ⟨zr1, yr1, eF2⟩ := p3; have eF2 := eF2.symm; subst eF2
  refine h_same hC ho ?_
  refine h_if_eq (tgt := 39) hC dX0_next_8 (by decide) (fun c4 => ?_) (fun c4 => ?_)
  · refine h_iconst (v := 0) hC dX0_next_39 rfl ?_
    refine h_istore_n (lv' := [some (.ref (gO' Y 6)), some (.int 0)]) hC dX0_next_40 (Nat.le_of_ble_eq_true rfl) rfl rfl ?_
    refine h_iload_n hC dX0_next_41 rfl ?_
    refine h_if_eq (tgt := 69) hC dX0_next_42 (by decide) (fun c5 => ?_) (fun c5 => ?_)
    · refine h_iconst (v := (-1)) hC dX0_next_69 rfl ?_
      exact h_iret hC hr ho rfl rfl rfl ⟨trivial, rfl⟩ dX0_next_70
    · exact absurd rfl c5
  · obtain ⟨N6, hN6, e7⟩ := hin_of (by decide) zr1 c4
    obtain rfl | rfl | rfl | rfl := (by omega : N6 = 0 ∨ N6 = 1 ∨ N6 = 2 ∨ N6 = 3)
    · refine h_aload_n hC dX0_next_11 rfl ?_
      refine h_get hC fl_X0_20 (hi.1.o 6 (by decide)) rfl dX0_next_12 ?_
      refine h_aload_n hC dX0_next_15 rfl ?_
      refine h_get hC fl_X0_27 (hi.1.o 6 (by decide)) rfl dX0_next_16 ?_
      refine h_iald hC hi.1.p (by rw [e7]; exact vp_in_nI (by decide) (by decide)) dX0_next_19 ?_
      refine h_vi (fun x8 ex8 => ?_)
      refine h_aload_n hC dX0_next_20 rfl ?_
      refine h_get hC fl_X0_14 (hi.1.o 6 (by decide)) rfl dX0_next_21 ?_
      refine h_aload_n hC dX0_next_24 rfl ?_
      refine h_get hC fl_X0_27 (hi.1.o 6 (by decide)) rfl dX0_next_25 ?_
      refine hi_aald0 hC hi (N := 0) e7 (by decide) dX0_next_28 ?_
      refine hi_size (j := 34) hC hr ho hi.1 (by decide) cl_X0_42 rfl (Nat.le_of_ble_eq_true rfl) (hFr_of (Nat.le_of_ble_eq_true rfl) (Nat.le_of_ble_eq_true rfl)) dX0_next_29 ?_
      refine h_icmp_ge (tgt := 39) hC dX0_next_32 (by decide) (fun c9 => ?_) (fun c9 => ?_)
      · refine h_iconst (v := 0) hC dX0_next_39 rfl ?_
        refine h_istore_n (lv' := [some (.ref (gO' Y 6)), some (.int 0)]) hC dX0_next_40 (Nat.le_of_ble_eq_true rfl) rfl rfl ?_
        refine h_iload_n hC dX0_next_41 rfl ?_
        refine h_if_eq (tgt := 69) hC dX0_next_42 (by decide) (fun c10 => ?_) (fun c10 => ?_)
        · refine h_iconst (v := (-1)) hC dX0_next_69 rfl ?_
          exact h_iret hC hr ho rfl rfl rfl ⟨trivial, rfl⟩ dX0_next_70
        · exact absurd rfl c10
      · refine h_iconst (v := 1) hC dX0_next_35 rfl ?_
        refine h_goto (tgt := 40) hC dX0_next_36 (by decide) ?_
        refine h_istore_n (lv' := [some (.ref (gO' Y 6)), some (.int 1)]) hC dX0_next_40 (Nat.le_of_ble_eq_true rfl) rfl rfl ?_
        refine h_iload_n hC dX0_next_41 rfl ?_
        refine h_if_eq (tgt := 69) hC dX0_next_42 (by decide) (fun c11 => ?_) (fun c11 => ?_)
        · exact absurd c11 (by decide)
        · refine h_aload_n hC dX0_next_45 rfl ?_
          refine h_get hC fl_X0_14 (hi.1.o 6 (by decide)) rfl dX0_next_46 ?_
          refine h_aload_n hC dX0_next_49 rfl ?_
          refine h_get hC fl_X0_27 (hi.1.o 6 (by decide)) rfl dX0_next_50 ?_
          refine hi_aald0 hC hi (N := 0) e7 (by decide) dX0_next_53 ?_
          refine h_aload_n hC dX0_next_54 rfl ?_
          refine h_get hC fl_X0_20 (hi.1.o 6 (by decide)) rfl dX0_next_55 ?_
          refine h_aload_n hC dX0_next_58 rfl ?_
          refine h_get hC fl_X0_27 (hi.1.o 6 (by decide)) rfl dX0_next_59 ?_
          refine h_iald hC hi.1.p (by rw [e7]; exact vp_in_nI (by decide) (by decide)) dX0_next_62 ?_
          refine h_vi (fun x12 ex12 => ?_)
          refine hi_get (j := 34) hC hr ho hi.1 (by decide) cl_X0_49 rfl (Nat.le_of_ble_eq_true rfl) (hFr_of (Nat.le_of_ble_eq_true rfl) (Nat.le_of_ble_eq_true rfl)) dX0_next_63 ?_
          refine h_vi (fun x13 ex13 => ?_)
          refine h_goto (tgt := 70) hC dX0_next_66 (by decide) ?_
          exact h_iret hC hr ho rfl rfl rfl ⟨trivial, rfl⟩ dX0_next_70
    · refine h_aload_n hC dX0_next_11 rfl ?_
      refine h_get hC fl_X0_20 (hi.1.o 6 (by decide)) rfl dX0_next_12 ?_
      refine h_aload_n hC dX0_next_15 rfl ?_
      refine h_get hC fl_X0_27 (hi.1.o 6 (by decide)) rfl dX0_next_16 ?_
      refine h_iald hC hi.1.p (by rw [e7]; exact vp_in_nI (by decide) (by decide)) dX0_next_19 ?_
      refine h_vi (fun x14 ex14 => ?_)
      refine h_aload_n hC dX0_next_20 rfl ?_
      refine h_get hC fl_X0_14 (hi.1.o 6 (by decide)) rfl dX0_next_21 ?_
      refine h_aload_n hC dX0_next_24 rfl ?_
      refine h_get hC fl_X0_27 (hi.1.o 6 (by decide)) rfl dX0_next_25 ?_
      refine hi_aald0 hC hi (N := 1) e7 (by decide) dX0_next_28 ?_
      refine hi_size (j := 35) hC hr ho hi.1 (by decide) cl_X0_42 rfl (Nat.le_of_ble_eq_true rfl) (hFr_of (Nat.le_of_ble_eq_true rfl) (Nat.le_of_ble_eq_true rfl)) dX0_next_29 ?_
      refine h_icmp_ge (tgt := 39) hC dX0_next_32 (by decide) (fun c15 => ?_) (fun c15 => ?_)
      · refine h_iconst (v := 0) hC dX0_next_39 rfl ?_
        refine h_istore_n (lv' := [some (.ref (gO' Y 6)), some (.int 0)]) hC dX0_next_40 (Nat.le_of_ble_eq_true rfl) rfl rfl ?_
        refine h_iload_n hC dX0_next_41 rfl ?_
        refine h_if_eq (tgt := 69) hC dX0_next_42 (by decide) (fun c16 => ?_) (fun c16 => ?_)
        · refine h_iconst (v := (-1)) hC dX0_next_69 rfl ?_
          exact h_iret hC hr ho rfl rfl rfl ⟨trivial, rfl⟩ dX0_next_70
        · exact absurd rfl c16
      · refine h_iconst (v := 1) hC dX0_next_35 rfl ?_
        refine h_goto (tgt := 40) hC dX0_next_36 (by decide) ?_
        refine h_istore_n (lv' := [some (.ref (gO' Y 6)), some (.int 1)]) hC dX0_next_40 (Nat.le_of_ble_eq_true rfl) rfl rfl ?_
        refine h_iload_n hC dX0_next_41 rfl ?_
        refine h_if_eq (tgt := 69) hC dX0_next_42 (by decide) (fun c17 => ?_) (fun c17 => ?_)
        · exact absurd c17 (by decide)
        · refine h_aload_n hC dX0_next_45 rfl ?_
          refine h_get hC fl_X0_14 (hi.1.o 6 (by decide)) rfl dX0_next_46 ?_
          refine h_aload_n hC dX0_next_49 rfl ?_
          refine h_get hC fl_X0_27 (hi.1.o 6 (by decide)) rfl dX0_next_50 ?_
          refine hi_aald0 hC hi (N := 1) e7 (by decide) dX0_next_53 ?_
          refine h_aload_n hC dX0_next_54 rfl ?_
          refine h_get hC fl_X0_20 (hi.1.o 6 (by decide)) rfl dX0_next_55 ?_
          refine h_aload_n hC dX0_next_58 rfl ?_
          refine h_get hC fl_X0_27 (hi.1.o 6 (by decide)) rfl dX0_next_59 ?_
          refine h_iald hC hi.1.p (by rw [e7]; exact vp_in_nI (by decide) (by decide)) dX0_next_62 ?_
          refine h_vi (fun x18 ex18 => ?_)
          refine hi_get (j := 35) hC hr ho hi.1 (by decide) cl_X0_49 rfl (Nat.le_of_ble_eq_true rfl) (hFr_of (Nat.le_of_ble_eq_true rfl) (Nat.le_of_ble_eq_true rfl)) dX0_next_63 ?_
          refine h_vi (fun x19 ex19 => ?_)
          refine h_goto (tgt := 70) hC dX0_next_66 (by decide) ?_
          exact h_iret hC hr ho rfl rfl rfl ⟨trivial, rfl⟩ dX0_next_70
    · refine h_aload_n hC dX0_next_11 rfl ?_
      refine h_get hC fl_X0_20 (hi.1.o 6 (by decide)) rfl dX0_next_12 ?_
      refine h_aload_n hC dX0_next_15 rfl ?_
      refine h_get hC fl_X0_27 (hi.1.o 6 (by decide)) rfl dX0_next_16 ?_
      refine h_iald hC hi.1.p (by rw [e7]; exact vp_in_nI (by decide) (by decide)) dX0_next_19 ?_
      refine h_vi (fun x20 ex20 => ?_)
      refine h_aload_n hC dX0_next_20 rfl ?_
      refine h_get hC fl_X0_14 (hi.1.o 6 (by decide)) rfl dX0_next_21 ?_
      refine h_aload_n hC dX0_next_24 rfl ?_
      refine h_get hC fl_X0_27 (hi.1.o 6 (by decide)) rfl dX0_next_25 ?_
      refine hi_aald0 hC hi (N := 2) e7 (by decide) dX0_next_28 ?_
      refine hi_size (j := 36) hC hr ho hi.1 (by decide) cl_X0_42 rfl (Nat.le_of_ble_eq_true rfl) (hFr_of (Nat.le_of_ble_eq_true rfl) (Nat.le_of_ble_eq_true rfl)) dX0_next_29 ?_
      refine h_icmp_ge (tgt := 39) hC dX0_next_32 (by decide) (fun c21 => ?_) (fun c21 => ?_)
      · refine h_iconst (v := 0) hC dX0_next_39 rfl ?_
        refine h_istore_n (lv' := [some (.ref (gO' Y 6)), some (.int 0)]) hC dX0_next_40 (Nat.le_of_ble_eq_true rfl) rfl rfl ?_
        refine h_iload_n hC dX0_next_41 rfl ?_
        refine h_if_eq (tgt := 69) hC dX0_next_42 (by decide) (fun c22 => ?_) (fun c22 => ?_)
        · refine h_iconst (v := (-1)) hC dX0_next_69 rfl ?_
          exact h_iret hC hr ho rfl rfl rfl ⟨trivial, rfl⟩ dX0_next_70
        · exact absurd rfl c22
      · refine h_iconst (v := 1) hC dX0_next_35 rfl ?_
        refine h_goto (tgt := 40) hC dX0_next_36 (by decide) ?_
        refine h_istore_n (lv' := [some (.ref (gO' Y 6)), some (.int 1)]) hC dX0_next_40 (Nat.le_of_ble_eq_true rfl) rfl rfl ?_
        refine h_iload_n hC dX0_next_41 rfl ?_
        refine h_if_eq (tgt := 69) hC dX0_next_42 (by decide) (fun c23 => ?_) (fun c23 => ?_)
        · exact absurd c23 (by decide)
        · refine h_aload_n hC dX0_next_45 rfl ?_
          refine h_get hC fl_X0_14 (hi.1.o 6 (by decide)) rfl dX0_next_46 ?_
          refine h_aload_n hC dX0_next_49 rfl ?_
          refine h_get hC fl_X0_27 (hi.1.o 6 (by decide)) rfl dX0_next_50 ?_
          refine hi_aald0 hC hi (N := 2) e7 (by decide) dX0_next_53 ?_
          refine h_aload_n hC dX0_next_54 rfl ?_
          refine h_get hC fl_X0_20 (hi.1.o 6 (by decide)) rfl dX0_next_55 ?_
          refine h_aload_n hC dX0_next_58 rfl ?_
          refine h_get hC fl_X0_27 (hi.1.o 6 (by decide)) rfl dX0_next_59 ?_
          refine h_iald hC hi.1.p (by rw [e7]; exact vp_in_nI (by decide) (by decide)) dX0_next_62 ?_
          refine h_vi (fun x24 ex24 => ?_)
          refine hi_get (j := 36) hC hr ho hi.1 (by decide) cl_X0_49 rfl (Nat.le_of_ble_eq_true rfl) (hFr_of (Nat.le_of_ble_eq_true rfl) (Nat.le_of_ble_eq_true rfl)) dX0_next_63 ?_
          refine h_vi (fun x25 ex25 => ?_)
          refine h_goto (tgt := 70) hC dX0_next_66 (by decide) ?_
          exact h_iret hC hr ho rfl rfl rfl ⟨trivial, rfl⟩ dX0_next_70
    · refine h_aload_n hC dX0_next_11 rfl ?_
      refine h_get hC fl_X0_20 (hi.1.o 6 (by decide)) rfl dX0_next_12 ?_
      refine h_aload_n hC dX0_next_15 rfl ?_
      refine h_get hC fl_X0_27 (hi.1.o 6 (by decide)) rfl dX0_next_16 ?_
      refine h_iald hC hi.1.p (by rw [e7]; exact vp_in_nI (by decide) (by decide)) dX0_next_19 ?_
      refine h_vi (fun x26 ex26 => ?_)
      refine h_aload_n hC dX0_next_20 rfl ?_
      refine h_get hC fl_X0_14 (hi.1.o 6 (by decide)) rfl dX0_next_21 ?_
      refine h_aload_n hC dX0_next_24 rfl ?_
      refine h_get hC fl_X0_27 (hi.1.o 6 (by decide)) rfl dX0_next_25 ?_
      refine hi_aald0 hC hi (N := 3) e7 (by decide) dX0_next_28 ?_
      refine hi_size (j := 37) hC hr ho hi.1 (by decide) cl_X0_42 rfl (Nat.le_of_ble_eq_true rfl) (hFr_of (Nat.le_of_ble_eq_true rfl) (Nat.le_of_ble_eq_true rfl)) dX0_next_29 ?_
      refine h_icmp_ge (tgt := 39) hC dX0_next_32 (by decide) (fun c27 => ?_) (fun c27 => ?_)
      · refine h_iconst (v := 0) hC dX0_next_39 rfl ?_
        refine h_istore_n (lv' := [some (.ref (gO' Y 6)), some (.int 0)]) hC dX0_next_40 (Nat.le_of_ble_eq_true rfl) rfl rfl ?_
        refine h_iload_n hC dX0_next_41 rfl ?_
        refine h_if_eq (tgt := 69) hC dX0_next_42 (by decide) (fun c28 => ?_) (fun c28 => ?_)
        · refine h_iconst (v := (-1)) hC dX0_next_69 rfl ?_
          exact h_iret hC hr ho rfl rfl rfl ⟨trivial, rfl⟩ dX0_next_70
        · exact absurd rfl c28
      · refine h_iconst (v := 1) hC dX0_next_35 rfl ?_
        refine h_goto (tgt := 40) hC dX0_next_36 (by decide) ?_
        refine h_istore_n (lv' := [some (.ref (gO' Y 6)), some (.int 1)]) hC dX0_next_40 (Nat.le_of_ble_eq_true rfl) rfl rfl ?_
        refine h_iload_n hC dX0_next_41 rfl ?_
        refine h_if_eq (tgt := 69) hC dX0_next_42 (by decide) (fun c29 => ?_) (fun c29 => ?_)
        · exact absurd c29 (by decide)
        · refine h_aload_n hC dX0_next_45 rfl ?_
          refine h_get hC fl_X0_14 (hi.1.o 6 (by decide)) rfl dX0_next_46 ?_
          refine h_aload_n hC dX0_next_49 rfl ?_
          refine h_get hC fl_X0_27 (hi.1.o 6 (by decide)) rfl dX0_next_50 ?_
          refine hi_aald0 hC hi (N := 3) e7 (by decide) dX0_next_53 ?_
          refine h_aload_n hC dX0_next_54 rfl ?_
          refine h_get hC fl_X0_20 (hi.1.o 6 (by decide)) rfl dX0_next_55 ?_
          refine h_aload_n hC dX0_next_58 rfl ?_
          refine h_get hC fl_X0_27 (hi.1.o 6 (by decide)) rfl dX0_next_59 ?_
          refine h_iald hC hi.1.p (by rw [e7]; exact vp_in_nI (by decide) (by decide)) dX0_next_62 ?_
          refine h_vi (fun x30 ex30 => ?_)
          refine hi_get (j := 37) hC hr ho hi.1 (by decide) cl_X0_49 rfl (Nat.le_of_ble_eq_true rfl) (hFr_of (Nat.le_of_ble_eq_true rfl) (Nat.le_of_ble_eq_true rfl)) dX0_next_63 ?_
          refine h_vi (fun x31 ex31 => ?_)
          refine h_goto (tgt := 70) hC dX0_next_66 (by decide) ?_
          exact h_iret hC hr ho rfl rfl rfl ⟨trivial, rfl⟩ dX0_next_70
theorem dX0_unread_0 : decode cX0_unread 0 = .ok (.aload_n 0, 1) := by decide +kernel
theorem dX0_unread_1 : decode cX0_unread 1 = .ok (.aload_n 0, 1) := by decide +kernel
theorem dX0_unread_2 : decode cX0_unread 2 = .ok (.getfield 27, 3) := by decide +kernel
theorem dX0_unread_5 : decode cX0_unread 5 = .ok (.invokevirtual 34, 3) := by decide +kernel
theorem dX0_unread_8 : decode cX0_unread 8 = .ok (.ifCond .eq 15, 3) := by decide +kernel
theorem dX0_unread_11 : decode cX0_unread 11 = .ok (.aload_n 0, 1) := by decide +kernel
theorem dX0_unread_12 : decode cX0_unread 12 = .ok (.getfield 20, 3) := by decide +kernel
theorem dX0_unread_15 : decode cX0_unread 15 = .ok (.aload_n 0, 1) := by decide +kernel
theorem dX0_unread_16 : decode cX0_unread 16 = .ok (.getfield 27, 3) := by decide +kernel
theorem dX0_unread_19 : decode cX0_unread 19 = .ok (.iaload, 1) := by decide +kernel
theorem dX0_unread_20 : decode cX0_unread 20 = .ok (.ifCond .gt 5, 3) := by decide +kernel
theorem dX0_unread_23 : decode cX0_unread 23 = .ok (.iconst 0, 1) := by decide +kernel
theorem dX0_unread_24 : decode cX0_unread 24 = .ok (.ireturn, 1) := by decide +kernel
theorem dX0_unread_25 : decode cX0_unread 25 = .ok (.aload_n 0, 1) := by decide +kernel
theorem dX0_unread_26 : decode cX0_unread 26 = .ok (.getfield 20, 3) := by decide +kernel
theorem dX0_unread_29 : decode cX0_unread 29 = .ok (.aload_n 0, 1) := by decide +kernel
theorem dX0_unread_30 : decode cX0_unread 30 = .ok (.getfield 27, 3) := by decide +kernel
theorem dX0_unread_33 : decode cX0_unread 33 = .ok (.dup2, 1) := by decide +kernel
theorem dX0_unread_34 : decode cX0_unread 34 = .ok (.iaload, 1) := by decide +kernel
theorem dX0_unread_35 : decode cX0_unread 35 = .ok (.iconst 1, 1) := by decide +kernel
theorem dX0_unread_36 : decode cX0_unread 36 = .ok (.isub, 1) := by decide +kernel
theorem dX0_unread_37 : decode cX0_unread 37 = .ok (.iastore, 1) := by decide +kernel
theorem dX0_unread_38 : decode cX0_unread 38 = .ok (.iconst 1, 1) := by decide +kernel
theorem dX0_unread_39 : decode cX0_unread 39 = .ok (.ireturn, 1) := by decide +kernel
set_option maxHeartbeats 4000000 in
set_option maxRecDepth 100000 in
theorem s_C_unread (l : Launch) (d : gD) (b : Nat) (Y : gYt) (c : Nat × Nat) (F : gM) (k n : Nat) {S : gSt} (hi : hI d b Y c (F, k, n) S)  : hMi l d b yX0_unread cX0_unread 1 .boolean 2 k n F [.ref (gO' Y 6)] (fun r u => ∃ S', hI d b Y c u S' ∧ gKp Y F u.1 ∧ gSm S S' [44] [] ∧ (r = 0 ∨ r = 1) ∧ gPsi S' ≤ gPsi S) := by
  intro mc ms
  refine hM_of2 rfl (nL := 1) (Nat.le_of_ble_eq_true rfl) ?_
  intro X hX hC hr ho; subst hX
  show hG X d b _ F k n 0 [some (.ref (gO' Y 6))] []
  refine h_aload_n hC dX0_unread_0 rfl ?_
  refine h_aload_n hC dX0_unread_1 rfl ?_
  refine h_get hC fl_X0_27 (hi.1.o 6 (by decide)) rfl dX0_unread_2 ?_
  refine g_callVi (As := [.int (sV S 25)]) hC rfl (hi.1.o 6 (by decide)) (c_C_isInput X.la d b Y _ S hi.1 (sV S 25)) cl_X0_34 rfl rfl (Nat.le_of_ble_eq_true rfl) (h_fit0 hC hr ho (hFr_of (Nat.le_of_ble_eq_true rfl) (Nat.le_of_ble_eq_true rfl))) dX0_unread_5 (fun r1 F2 p3 => ?_)
  obtain ⟨zr1, yr1, eF2⟩ := p3; have eF2 := eF2.symm; subst eF2
  refine h_same hC ho ?_
  refine h_if_eq (tgt := 23) hC dX0_unread_8 (by decide) (fun c4 => ?_) (fun c4 => ?_)
  · refine h_iconst (v := 0) hC dX0_unread_23 rfl ?_
    exact h_iret hC hr ho rfl rfl rfl ⟨S, hi, gKp.rf, gSm.rf, by decide, by omega⟩ dX0_unread_24
  · obtain ⟨N5, hN5, e6⟩ := hin_of (by decide) zr1 c4
    obtain rfl | rfl | rfl | rfl := (by omega : N5 = 0 ∨ N5 = 1 ∨ N5 = 2 ∨ N5 = 3)
    · refine h_aload_n hC dX0_unread_11 rfl ?_
      refine h_get hC fl_X0_20 (hi.1.o 6 (by decide)) rfl dX0_unread_12 ?_
      refine h_aload_n hC dX0_unread_15 rfl ?_
      refine h_get hC fl_X0_27 (hi.1.o 6 (by decide)) rfl dX0_unread_16 ?_
      refine h_iald hC hi.1.p (by rw [e6]; exact vp_in_nI (by decide) (by decide)) dX0_unread_19 ?_
      refine h_vi (fun x7 ex7 => ?_)
      refine h_if_gt (tgt := 25) hC dX0_unread_20 (by decide) (fun c8 => ?_) (fun c8 => ?_)
      · refine h_aload_n hC dX0_unread_25 rfl ?_
        refine h_get hC fl_X0_20 (hi.1.o 6 (by decide)) rfl dX0_unread_26 ?_
        refine h_aload_n hC dX0_unread_29 rfl ?_
        refine h_get hC fl_X0_27 (hi.1.o 6 (by decide)) rfl dX0_unread_30 ?_
        refine h_dup2 hC dX0_unread_33 rfl rfl ?_
        refine h_iald hC hi.1.p (by rw [e6]; exact vp_in_nI (by decide) (by decide)) dX0_unread_34 ?_
        refine h_vi (fun x9 ex9 => ?_)
        refine h_iconst (v := 1) hC dX0_unread_35 rfl ?_
        refine h_isub hC dX0_unread_36 ?_
        refine h_vi (fun x10 ex10 => ?_)
        refine hi_pst hC hi (by rw [e6]; exact vp_in_nI (by decide) (by decide)) dX0_unread_37 (fun F11 S12 I13 K14 s15 p16 => ?_)
        have m17 : gSm S S12 [44] [] := gSm.wk s15 _ _ rfl rfl
        refine h_iconst (v := 1) hC dX0_unread_38 rfl ?_
        exact h_iret hC hr ho rfl rfl rfl ⟨S12, I13, K14, m17, by decide, by omega⟩ dX0_unread_39
      · refine h_iconst (v := 0) hC dX0_unread_23 rfl ?_
        exact h_iret hC hr ho rfl rfl rfl ⟨S, hi, gKp.rf, gSm.rf, by decide, by omega⟩ dX0_unread_24
    · refine h_aload_n hC dX0_unread_11 rfl ?_
      refine h_get hC fl_X0_20 (hi.1.o 6 (by decide)) rfl dX0_unread_12 ?_
      refine h_aload_n hC dX0_unread_15 rfl ?_
      refine h_get hC fl_X0_27 (hi.1.o 6 (by decide)) rfl dX0_unread_16 ?_
      refine h_iald hC hi.1.p (by rw [e6]; exact vp_in_nI (by decide) (by decide)) dX0_unread_19 ?_
      refine h_vi (fun x19 ex19 => ?_)
      refine h_if_gt (tgt := 25) hC dX0_unread_20 (by decide) (fun c20 => ?_) (fun c20 => ?_)
      · refine h_aload_n hC dX0_unread_25 rfl ?_
        refine h_get hC fl_X0_20 (hi.1.o 6 (by decide)) rfl dX0_unread_26 ?_
        refine h_aload_n hC dX0_unread_29 rfl ?_
        refine h_get hC fl_X0_27 (hi.1.o 6 (by decide)) rfl dX0_unread_30 ?_
        refine h_dup2 hC dX0_unread_33 rfl rfl ?_
        refine h_iald hC hi.1.p (by rw [e6]; exact vp_in_nI (by decide) (by decide)) dX0_unread_34 ?_
        refine h_vi (fun x21 ex21 => ?_)
        refine h_iconst (v := 1) hC dX0_unread_35 rfl ?_
        refine h_isub hC dX0_unread_36 ?_
        refine h_vi (fun x22 ex22 => ?_)
        refine hi_pst hC hi (by rw [e6]; exact vp_in_nI (by decide) (by decide)) dX0_unread_37 (fun F23 S24 I25 K26 s27 p28 => ?_)
        have m29 : gSm S S24 [44] [] := gSm.wk s27 _ _ rfl rfl
        refine h_iconst (v := 1) hC dX0_unread_38 rfl ?_
        exact h_iret hC hr ho rfl rfl rfl ⟨S24, I25, K26, m29, by decide, by omega⟩ dX0_unread_39
      · refine h_iconst (v := 0) hC dX0_unread_23 rfl ?_
        exact h_iret hC hr ho rfl rfl rfl ⟨S, hi, gKp.rf, gSm.rf, by decide, by omega⟩ dX0_unread_24
    · refine h_aload_n hC dX0_unread_11 rfl ?_
      refine h_get hC fl_X0_20 (hi.1.o 6 (by decide)) rfl dX0_unread_12 ?_
      refine h_aload_n hC dX0_unread_15 rfl ?_
      refine h_get hC fl_X0_27 (hi.1.o 6 (by decide)) rfl dX0_unread_16 ?_
      refine h_iald hC hi.1.p (by rw [e6]; exact vp_in_nI (by decide) (by decide)) dX0_unread_19 ?_
      refine h_vi (fun x31 ex31 => ?_)
      refine h_if_gt (tgt := 25) hC dX0_unread_20 (by decide) (fun c32 => ?_) (fun c32 => ?_)
      · refine h_aload_n hC dX0_unread_25 rfl ?_
        refine h_get hC fl_X0_20 (hi.1.o 6 (by decide)) rfl dX0_unread_26 ?_
        refine h_aload_n hC dX0_unread_29 rfl ?_
        refine h_get hC fl_X0_27 (hi.1.o 6 (by decide)) rfl dX0_unread_30 ?_
        refine h_dup2 hC dX0_unread_33 rfl rfl ?_
        refine h_iald hC hi.1.p (by rw [e6]; exact vp_in_nI (by decide) (by decide)) dX0_unread_34 ?_
        refine h_vi (fun x33 ex33 => ?_)
        refine h_iconst (v := 1) hC dX0_unread_35 rfl ?_
        refine h_isub hC dX0_unread_36 ?_
        refine h_vi (fun x34 ex34 => ?_)
        refine hi_pst hC hi (by rw [e6]; exact vp_in_nI (by decide) (by decide)) dX0_unread_37 (fun F35 S36 I37 K38 s39 p40 => ?_)
        have m41 : gSm S S36 [44] [] := gSm.wk s39 _ _ rfl rfl
        refine h_iconst (v := 1) hC dX0_unread_38 rfl ?_
        exact h_iret hC hr ho rfl rfl rfl ⟨S36, I37, K38, m41, by decide, by omega⟩ dX0_unread_39
      · refine h_iconst (v := 0) hC dX0_unread_23 rfl ?_
        exact h_iret hC hr ho rfl rfl rfl ⟨S, hi, gKp.rf, gSm.rf, by decide, by omega⟩ dX0_unread_24
    · refine h_aload_n hC dX0_unread_11 rfl ?_
      refine h_get hC fl_X0_20 (hi.1.o 6 (by decide)) rfl dX0_unread_12 ?_
      refine h_aload_n hC dX0_unread_15 rfl ?_
      refine h_get hC fl_X0_27 (hi.1.o 6 (by decide)) rfl dX0_unread_16 ?_
      refine h_iald hC hi.1.p (by rw [e6]; exact vp_in_nI (by decide) (by decide)) dX0_unread_19 ?_
      refine h_vi (fun x43 ex43 => ?_)
      refine h_if_gt (tgt := 25) hC dX0_unread_20 (by decide) (fun c44 => ?_) (fun c44 => ?_)
      · refine h_aload_n hC dX0_unread_25 rfl ?_
        refine h_get hC fl_X0_20 (hi.1.o 6 (by decide)) rfl dX0_unread_26 ?_
        refine h_aload_n hC dX0_unread_29 rfl ?_
        refine h_get hC fl_X0_27 (hi.1.o 6 (by decide)) rfl dX0_unread_30 ?_
        refine h_dup2 hC dX0_unread_33 rfl rfl ?_
        refine h_iald hC hi.1.p (by rw [e6]; exact vp_in_nI (by decide) (by decide)) dX0_unread_34 ?_
        refine h_vi (fun x45 ex45 => ?_)
        refine h_iconst (v := 1) hC dX0_unread_35 rfl ?_
        refine h_isub hC dX0_unread_36 ?_
        refine h_vi (fun x46 ex46 => ?_)
        refine hi_pst hC hi (by rw [e6]; exact vp_in_nI (by decide) (by decide)) dX0_unread_37 (fun F47 S48 I49 K50 s51 p52 => ?_)
        have m53 : gSm S S48 [44] [] := gSm.wk s51 _ _ rfl rfl
        refine h_iconst (v := 1) hC dX0_unread_38 rfl ?_
        exact h_iret hC hr ho rfl rfl rfl ⟨S48, I49, K50, m53, by decide, by omega⟩ dX0_unread_39
      · refine h_iconst (v := 0) hC dX0_unread_23 rfl ?_
        exact h_iret hC hr ho rfl rfl rfl ⟨S, hi, gKp.rf, gSm.rf, by decide, by omega⟩ dX0_unread_24
theorem dX0_read_0 : decode cX0_read 0 = .ok (.aload_n 0, 1) := by decide +kernel
theorem dX0_read_1 : decode cX0_read 1 = .ok (.invokevirtual 56, 3) := by decide +kernel
theorem dX0_read_4 : decode cX0_read 4 = .ok (.istore_n 1, 1) := by decide +kernel
theorem dX0_read_5 : decode cX0_read 5 = .ok (.iload_n 1, 1) := by decide +kernel
theorem dX0_read_6 : decode cX0_read 6 = .ok (.ifCond .lt 27, 3) := by decide +kernel
theorem dX0_read_9 : decode cX0_read 9 = .ok (.aload_n 0, 1) := by decide +kernel
theorem dX0_read_10 : decode cX0_read 10 = .ok (.aload_n 0, 1) := by decide +kernel
theorem dX0_read_11 : decode cX0_read 11 = .ok (.getfield 27, 3) := by decide +kernel
theorem dX0_read_14 : decode cX0_read 14 = .ok (.invokevirtual 34, 3) := by decide +kernel
theorem dX0_read_17 : decode cX0_read 17 = .ok (.ifCond .eq 16, 3) := by decide +kernel
theorem dX0_read_20 : decode cX0_read 20 = .ok (.aload_n 0, 1) := by decide +kernel
theorem dX0_read_21 : decode cX0_read 21 = .ok (.getfield 20, 3) := by decide +kernel
theorem dX0_read_24 : decode cX0_read 24 = .ok (.aload_n 0, 1) := by decide +kernel
theorem dX0_read_25 : decode cX0_read 25 = .ok (.getfield 27, 3) := by decide +kernel
theorem dX0_read_28 : decode cX0_read 28 = .ok (.dup2, 1) := by decide +kernel
theorem dX0_read_29 : decode cX0_read 29 = .ok (.iaload, 1) := by decide +kernel
theorem dX0_read_30 : decode cX0_read 30 = .ok (.iconst 1, 1) := by decide +kernel
theorem dX0_read_31 : decode cX0_read 31 = .ok (.iadd, 1) := by decide +kernel
theorem dX0_read_32 : decode cX0_read 32 = .ok (.iastore, 1) := by decide +kernel
theorem dX0_read_33 : decode cX0_read 33 = .ok (.iload_n 1, 1) := by decide +kernel
theorem dX0_read_34 : decode cX0_read 34 = .ok (.ireturn, 1) := by decide +kernel
set_option maxHeartbeats 4000000 in
set_option maxRecDepth 100000 in
theorem s_C_read (l : Launch) (d : gD) (b : Nat) (Y : gYt) (c : Nat × Nat) (F : gM) (k n : Nat) {S : gSt} (hi : hI d b Y c (F, k, n) S)  : hMi l d b yX0_read cX0_read 2 .int 3 k n F [.ref (gO' Y 6)] (fun r u => ∃ S', hI d b Y c u S' ∧ gKp Y F u.1 ∧ gSm S S' [44] [] ∧ gPsi S' ≤ gPsi S) := by
  intro mc ms
  refine hM_of2 rfl (nL := 2) (Nat.le_of_ble_eq_true rfl) ?_
  intro X hX hC hr ho; subst hX
  show hG X d b _ F k n 0 [some (.ref (gO' Y 6)), none] []
  refine h_aload_n hC dX0_read_0 rfl ?_
  refine h_callVi (As := []) hC hr ho rfl (hi.1.o 6 (by decide)) (s_C_next X.la d b Y c _ _ _ hi ) cl_X0_56 rfl rfl (Nat.le_of_ble_eq_true rfl) (hFr_of (Nat.le_of_ble_eq_true rfl) (Nat.le_of_ble_eq_true rfl)) dX0_read_1 (fun r4 u1 p2 o3 => ?_)
  obtain ⟨q5, rfl⟩ := p2
  refine h_istore_n (lv' := [some (.ref (gO' Y 6)), some (.int r4)]) hC dX0_read_4 (Nat.le_of_ble_eq_true rfl) rfl rfl ?_
  refine h_iload_n hC dX0_read_5 rfl ?_
  refine h_if_lt (tgt := 33) hC dX0_read_6 (by decide) (fun c6 => ?_) (fun c6 => ?_)
  · refine h_iload_n hC dX0_read_33 rfl ?_
    exact h_iret hC hr o3 rfl rfl rfl ⟨S, hi, gKp.rf, gSm.rf, by omega⟩ dX0_read_34
  · refine h_aload_n hC dX0_read_9 rfl ?_
    refine h_aload_n hC dX0_read_10 rfl ?_
    refine h_get hC fl_X0_27 (hi.1.o 6 (by decide)) rfl dX0_read_11 ?_
    refine g_callVi (As := [.int (sV S 25)]) hC rfl (hi.1.o 6 (by decide)) (c_C_isInput X.la d b Y _ S hi.1 (sV S 25)) cl_X0_34 rfl rfl (Nat.le_of_ble_eq_true rfl) (h_fit0 hC hr o3 (hFr_of (Nat.le_of_ble_eq_true rfl) (Nat.le_of_ble_eq_true rfl))) dX0_read_14 (fun r7 F8 p9 => ?_)
    obtain ⟨zr7, yr7, eF8⟩ := p9; have eF8 := eF8.symm; subst eF8
    refine h_same hC o3 ?_
    refine h_if_eq (tgt := 33) hC dX0_read_17 (by decide) (fun c10 => ?_) (fun c10 => ?_)
    · refine h_iload_n hC dX0_read_33 rfl ?_
      exact h_iret hC hr o3 rfl rfl rfl ⟨S, hi, gKp.rf, gSm.rf, by omega⟩ dX0_read_34
    · obtain ⟨N11, hN11, e12⟩ := hin_of (by decide) zr7 c10
      obtain rfl | rfl | rfl | rfl := (by omega : N11 = 0 ∨ N11 = 1 ∨ N11 = 2 ∨ N11 = 3)
      · refine h_aload_n hC dX0_read_20 rfl ?_
        refine h_get hC fl_X0_20 (hi.1.o 6 (by decide)) rfl dX0_read_21 ?_
        refine h_aload_n hC dX0_read_24 rfl ?_
        refine h_get hC fl_X0_27 (hi.1.o 6 (by decide)) rfl dX0_read_25 ?_
        refine h_dup2 hC dX0_read_28 rfl rfl ?_
        refine h_iald hC hi.1.p (by rw [e12]; exact vp_in_nI (by decide) (by decide)) dX0_read_29 ?_
        refine h_vi (fun x13 ex13 => ?_)
        refine h_iconst (v := 1) hC dX0_read_30 rfl ?_
        refine h_iadd hC dX0_read_31 ?_
        refine h_vi (fun x14 ex14 => ?_)
        refine hi_pst hC hi (by rw [e12]; exact vp_in_nI (by decide) (by decide)) dX0_read_32 (fun F15 S16 I17 K18 s19 p20 => ?_)
        have m21 : gSm S S16 [44] [] := gSm.wk s19 _ _ rfl rfl
        refine h_iload_n hC dX0_read_33 rfl ?_
        exact h_iret hC hr o3 rfl rfl rfl ⟨S16, I17, K18, m21, by omega⟩ dX0_read_34
      · refine h_aload_n hC dX0_read_20 rfl ?_
        refine h_get hC fl_X0_20 (hi.1.o 6 (by decide)) rfl dX0_read_21 ?_
        refine h_aload_n hC dX0_read_24 rfl ?_
        refine h_get hC fl_X0_27 (hi.1.o 6 (by decide)) rfl dX0_read_25 ?_
        refine h_dup2 hC dX0_read_28 rfl rfl ?_
        refine h_iald hC hi.1.p (by rw [e12]; exact vp_in_nI (by decide) (by decide)) dX0_read_29 ?_
        refine h_vi (fun x23 ex23 => ?_)
        refine h_iconst (v := 1) hC dX0_read_30 rfl ?_
        refine h_iadd hC dX0_read_31 ?_
        refine h_vi (fun x24 ex24 => ?_)
        refine hi_pst hC hi (by rw [e12]; exact vp_in_nI (by decide) (by decide)) dX0_read_32 (fun F25 S26 I27 K28 s29 p30 => ?_)
        have m31 : gSm S S26 [44] [] := gSm.wk s29 _ _ rfl rfl
        refine h_iload_n hC dX0_read_33 rfl ?_
        exact h_iret hC hr o3 rfl rfl rfl ⟨S26, I27, K28, m31, by omega⟩ dX0_read_34
      · refine h_aload_n hC dX0_read_20 rfl ?_
        refine h_get hC fl_X0_20 (hi.1.o 6 (by decide)) rfl dX0_read_21 ?_
        refine h_aload_n hC dX0_read_24 rfl ?_
        refine h_get hC fl_X0_27 (hi.1.o 6 (by decide)) rfl dX0_read_25 ?_
        refine h_dup2 hC dX0_read_28 rfl rfl ?_
        refine h_iald hC hi.1.p (by rw [e12]; exact vp_in_nI (by decide) (by decide)) dX0_read_29 ?_
        refine h_vi (fun x33 ex33 => ?_)
        refine h_iconst (v := 1) hC dX0_read_30 rfl ?_
        refine h_iadd hC dX0_read_31 ?_
        refine h_vi (fun x34 ex34 => ?_)
        refine hi_pst hC hi (by rw [e12]; exact vp_in_nI (by decide) (by decide)) dX0_read_32 (fun F35 S36 I37 K38 s39 p40 => ?_)
        have m41 : gSm S S36 [44] [] := gSm.wk s39 _ _ rfl rfl
        refine h_iload_n hC dX0_read_33 rfl ?_
        exact h_iret hC hr o3 rfl rfl rfl ⟨S36, I37, K38, m41, by omega⟩ dX0_read_34
      · refine h_aload_n hC dX0_read_20 rfl ?_
        refine h_get hC fl_X0_20 (hi.1.o 6 (by decide)) rfl dX0_read_21 ?_
        refine h_aload_n hC dX0_read_24 rfl ?_
        refine h_get hC fl_X0_27 (hi.1.o 6 (by decide)) rfl dX0_read_25 ?_
        refine h_dup2 hC dX0_read_28 rfl rfl ?_
        refine h_iald hC hi.1.p (by rw [e12]; exact vp_in_nI (by decide) (by decide)) dX0_read_29 ?_
        refine h_vi (fun x43 ex43 => ?_)
        refine h_iconst (v := 1) hC dX0_read_30 rfl ?_
        refine h_iadd hC dX0_read_31 ?_
        refine h_vi (fun x44 ex44 => ?_)
        refine hi_pst hC hi (by rw [e12]; exact vp_in_nI (by decide) (by decide)) dX0_read_32 (fun F45 S46 I47 K48 s49 p50 => ?_)
        have m51 : gSm S S46 [44] [] := gSm.wk s49 _ _ rfl rfl
        refine h_iload_n hC dX0_read_33 rfl ?_
        exact h_iret hC hr o3 rfl rfl rfl ⟨S46, I47, K48, m51, by omega⟩ dX0_read_34
theorem dX0_write_0 : decode cX0_write 0 = .ok (.aload_n 0, 1) := by decide +kernel
theorem dX0_write_1 : decode cX0_write 1 = .ok (.aload_n 0, 1) := by decide +kernel
theorem dX0_write_2 : decode cX0_write 2 = .ok (.getfield 31, 3) := by decide +kernel
theorem dX0_write_5 : decode cX0_write 5 = .ok (.invokevirtual 46, 3) := by decide +kernel
theorem dX0_write_8 : decode cX0_write 8 = .ok (.ifCond .eq 20, 3) := by decide +kernel
theorem dX0_write_11 : decode cX0_write 11 = .ok (.aload_n 0, 1) := by decide +kernel
theorem dX0_write_12 : decode cX0_write 12 = .ok (.getfield 24, 3) := by decide +kernel
theorem dX0_write_15 : decode cX0_write 15 = .ok (.aload_n 0, 1) := by decide +kernel
theorem dX0_write_16 : decode cX0_write 16 = .ok (.getfield 31, 3) := by decide +kernel
theorem dX0_write_19 : decode cX0_write 19 = .ok (.aaload, 1) := by decide +kernel
theorem dX0_write_20 : decode cX0_write 20 = .ok (.iload_n 1, 1) := by decide +kernel
theorem dX0_write_21 : decode cX0_write 21 = .ok (.sipush 255, 3) := by decide +kernel
theorem dX0_write_24 : decode cX0_write 24 = .ok (.iand, 1) := by decide +kernel
theorem dX0_write_25 : decode cX0_write 25 = .ok (.invokevirtual 66, 3) := by decide +kernel
theorem dX0_write_28 : decode cX0_write 28 = .ok (.return_, 1) := by decide +kernel
set_option maxHeartbeats 4000000 in
set_option maxRecDepth 100000 in
theorem s_C_write (l : Launch) (d : gD) (b : Nat) (Y : gYt) (c : Nat × Nat) (F : gM) (k n : Nat) {S : gSt} (hi : hI d b Y c (F, k, n) S) (hA : gPsi S ≤ gAm) (x : Int32) : hMv l d b yX0_write cX0_write 2 3 k n F [.ref (gO' Y 6), .int x] (fun u => ∃ S', hI d b Y c u S' ∧ gKp Y F u.1 ∧ gSm S S' [38, 39] [] ∧ gPsi S' ≤ gPsi S) := by
  intro mc ms
  refine hM_of2 rfl (nL := 2) (Nat.le_of_ble_eq_true rfl) ?_
  intro X hX hC hr ho; subst hX
  show hG X d b _ F k n 0 [some (.ref (gO' Y 6)), some (.int x)] []
  refine h_aload_n hC dX0_write_0 rfl ?_
  refine h_aload_n hC dX0_write_1 rfl ?_
  refine h_get hC fl_X0_31 (hi.1.o 6 (by decide)) rfl dX0_write_2 ?_
  refine g_callVi (As := [.int (sV S 26)]) hC rfl (hi.1.o 6 (by decide)) (c_C_isOutput X.la d b Y _ S hi.1 (sV S 26)) cl_X0_46 rfl rfl (Nat.le_of_ble_eq_true rfl) (h_fit0 hC hr ho (hFr_of (Nat.le_of_ble_eq_true rfl) (Nat.le_of_ble_eq_true rfl))) dX0_write_5 (fun r1 F2 p3 => ?_)
  obtain ⟨zr1, yr1, eF2⟩ := p3; have eF2 := eF2.symm; subst eF2
  refine h_same hC ho ?_
  refine h_if_eq (tgt := 28) hC dX0_write_8 (by decide) (fun c4 => ?_) (fun c4 => ?_)
  · exact h_vret hC hr ho rfl rfl ⟨S, hi, gKp.rf, gSm.rf, by omega⟩ dX0_write_28
  · obtain ⟨N5, hN5, e6⟩ := hin_of (by decide) zr1 c4
    obtain rfl | rfl := (by omega : N5 = 0 ∨ N5 = 1)
    · refine h_aload_n hC dX0_write_11 rfl ?_
      refine h_get hC fl_X0_24 (hi.1.o 6 (by decide)) rfl dX0_write_12 ?_
      refine h_aload_n hC dX0_write_15 rfl ?_
      refine h_get hC fl_X0_31 (hi.1.o 6 (by decide)) rfl dX0_write_16 ?_
      refine hi_aald1 hC hi (N := 0) e6 (by decide) dX0_write_19 ?_
      refine h_iload_n hC dX0_write_20 rfl ?_
      refine h_sipush (v := 255) hC dX0_write_21 rfl ?_
      refine h_iand hC dX0_write_24 ?_
      refine h_vi (fun x7 ex7 => ?_)
      refine hi_add (j := 38) hC hr ho hi (by decide) ⟨fun q => absurd q (by decide), fun q => absurd q (by decide), hA⟩ cl_X0_66 rfl (Nat.le_of_ble_eq_true rfl) (hFr_of (Nat.le_of_ble_eq_true rfl) (Nat.le_of_ble_eq_true rfl)) dX0_write_25 (fun u15 S9 I10 o14 K11 s12 a13 => ?_)
      have m16 : gSm S S9 [38, 39] [] := gSm.wk s12 _ _ rfl rfl
      have Pa13 : gPsi S9 = gPsi S := a13.2.2.2 (by decide)
      exact h_vret hC hr o14 rfl rfl ⟨S9, I10, K11, m16, by omega⟩ dX0_write_28
    · refine h_aload_n hC dX0_write_11 rfl ?_
      refine h_get hC fl_X0_24 (hi.1.o 6 (by decide)) rfl dX0_write_12 ?_
      refine h_aload_n hC dX0_write_15 rfl ?_
      refine h_get hC fl_X0_31 (hi.1.o 6 (by decide)) rfl dX0_write_16 ?_
      refine hi_aald1 hC hi (N := 1) e6 (by decide) dX0_write_19 ?_
      refine h_iload_n hC dX0_write_20 rfl ?_
      refine h_sipush (v := 255) hC dX0_write_21 rfl ?_
      refine h_iand hC dX0_write_24 ?_
      refine h_vi (fun x18 ex18 => ?_)
      refine hi_add (j := 39) hC hr ho hi (by decide) ⟨fun q => absurd q (by decide), fun q => absurd q (by decide), hA⟩ cl_X0_66 rfl (Nat.le_of_ble_eq_true rfl) (hFr_of (Nat.le_of_ble_eq_true rfl) (Nat.le_of_ble_eq_true rfl)) dX0_write_25 (fun u26 S20 I21 o25 K22 s23 a24 => ?_)
      have m27 : gSm S S20 [38, 39] [] := gSm.wk s23 _ _ rfl rfl
      have Pa24 : gPsi S20 = gPsi S := a24.2.2.2 (by decide)
      exact h_vret hC hr o25 rfl rfl ⟨S20, I21, K22, m27, by omega⟩ dX0_write_28
theorem dX0_selectInput_0 : decode cX0_selectInput 0 = .ok (.aload_n 0, 1) := by decide +kernel
theorem dX0_selectInput_1 : decode cX0_selectInput 1 = .ok (.iload_n 1, 1) := by decide +kernel
theorem dX0_selectInput_2 : decode cX0_selectInput 2 = .ok (.invokevirtual 34, 3) := by decide +kernel
theorem dX0_selectInput_5 : decode cX0_selectInput 5 = .ok (.ifCond .eq 8, 3) := by decide +kernel
theorem dX0_selectInput_8 : decode cX0_selectInput 8 = .ok (.aload_n 0, 1) := by decide +kernel
theorem dX0_selectInput_9 : decode cX0_selectInput 9 = .ok (.iload_n 1, 1) := by decide +kernel
theorem dX0_selectInput_10 : decode cX0_selectInput 10 = .ok (.putfield 27, 3) := by decide +kernel
theorem dX0_selectInput_13 : decode cX0_selectInput 13 = .ok (.aload_n 0, 1) := by decide +kernel
theorem dX0_selectInput_14 : decode cX0_selectInput 14 = .ok (.iload_n 1, 1) := by decide +kernel
theorem dX0_selectInput_15 : decode cX0_selectInput 15 = .ok (.invokevirtual 34, 3) := by decide +kernel
theorem dX0_selectInput_18 : decode cX0_selectInput 18 = .ok (.ireturn, 1) := by decide +kernel
set_option maxHeartbeats 4000000 in
set_option maxRecDepth 100000 in
theorem s_C_selectInput (l : Launch) (d : gD) (b : Nat) (Y : gYt) (c : Nat × Nat) (F : gM) (k n : Nat) {S : gSt} (hi : hI d b Y c (F, k, n) S) (x : Int32) : hMi l d b yX0_selectInput cX0_selectInput 2 .boolean 2 k n F [.ref (gO' Y 6), .int x] (fun r u => ∃ S', hI d b Y c u S' ∧ gKp Y F u.1 ∧ gSm S S' [] [25] ∧ (r = 0 ∨ r = 1) ∧ gPsi S' ≤ gPsi S) := by
  intro mc ms
  refine hM_of2 rfl (nL := 2) (Nat.le_of_ble_eq_true rfl) ?_
  intro X hX hC hr ho; subst hX
  show hG X d b _ F k n 0 [some (.ref (gO' Y 6)), some (.int x)] []
  refine h_aload_n hC dX0_selectInput_0 rfl ?_
  refine h_iload_n hC dX0_selectInput_1 rfl ?_
  refine g_callVi (As := [.int x]) hC rfl (hi.1.o 6 (by decide)) (c_C_isInput X.la d b Y _ S hi.1 x) cl_X0_34 rfl rfl (Nat.le_of_ble_eq_true rfl) (h_fit0 hC hr ho (hFr_of (Nat.le_of_ble_eq_true rfl) (Nat.le_of_ble_eq_true rfl))) dX0_selectInput_2 (fun r1 F2 p3 => ?_)
  obtain ⟨zr1, yr1, eF2⟩ := p3; have eF2 := eF2.symm; subst eF2
  refine h_same hC ho ?_
  refine h_if_eq (tgt := 13) hC dX0_selectInput_5 (by decide) (fun c4 => ?_) (fun c4 => ?_)
  · refine h_aload_n hC dX0_selectInput_13 rfl ?_
    refine h_iload_n hC dX0_selectInput_14 rfl ?_
    refine g_callVi (As := [.int x]) hC rfl (hi.1.o 6 (by decide)) (c_C_isInput X.la d b Y _ S hi.1 x) cl_X0_34 rfl rfl (Nat.le_of_ble_eq_true rfl) (h_fit0 hC hr ho (hFr_of (Nat.le_of_ble_eq_true rfl) (Nat.le_of_ble_eq_true rfl))) dX0_selectInput_15 (fun r5 F6 p7 => ?_)
    obtain ⟨zr5, yr5, eF6⟩ := p7; have eF6 := eF6.symm; subst eF6
    refine h_same hC ho ?_
    exact h_iret hC hr ho rfl rfl (hnb (gib zr5 yr5)) ⟨S, hi, gKp.rf, gSm.rf, gib zr5 yr5, by omega⟩ dX0_selectInput_18
  · refine h_aload_n hC dX0_selectInput_8 rfl ?_
    refine h_iload_n hC dX0_selectInput_9 rfl ?_
    refine hi_putx (i := 6) (kx := 25) hC hi (by decide) fl_X0_27 rfl rfl rfl (Nat.le_of_ble_eq_true rfl) rfl gsame_25 (fun q => absurd q (by decide)) dX0_selectInput_10 (fun F8 S9 I10 K11 s12 v13 p14 => ?_)
    have m15 : gSm S S9 [] [25] := gSm.wk s12 _ _ rfl rfl
    refine h_aload_n hC dX0_selectInput_13 rfl ?_
    refine h_iload_n hC dX0_selectInput_14 rfl ?_
    refine g_callVi (As := [.int x]) hC rfl (I10.1.o 6 (by decide)) (c_C_isInput X.la d b Y _ S9 I10.1 x) cl_X0_34 rfl rfl (Nat.le_of_ble_eq_true rfl) (h_fit0 hC hr ho (hFr_of (Nat.le_of_ble_eq_true rfl) (Nat.le_of_ble_eq_true rfl))) dX0_selectInput_15 (fun r17 F18 p19 => ?_)
    obtain ⟨zr17, yr17, eF18⟩ := p19; have eF18 := eF18.symm; subst eF18
    refine h_same hC ho ?_
    exact h_iret hC hr ho rfl rfl (hnb (gib zr17 yr17)) ⟨S9, I10, K11, m15, gib zr17 yr17, by omega⟩ dX0_selectInput_18
theorem dX0_selectOutput_0 : decode cX0_selectOutput 0 = .ok (.aload_n 0, 1) := by decide +kernel
theorem dX0_selectOutput_1 : decode cX0_selectOutput 1 = .ok (.iload_n 1, 1) := by decide +kernel
theorem dX0_selectOutput_2 : decode cX0_selectOutput 2 = .ok (.invokevirtual 46, 3) := by decide +kernel
theorem dX0_selectOutput_5 : decode cX0_selectOutput 5 = .ok (.ifCond .eq 8, 3) := by decide +kernel
theorem dX0_selectOutput_8 : decode cX0_selectOutput 8 = .ok (.aload_n 0, 1) := by decide +kernel
theorem dX0_selectOutput_9 : decode cX0_selectOutput 9 = .ok (.iload_n 1, 1) := by decide +kernel
theorem dX0_selectOutput_10 : decode cX0_selectOutput 10 = .ok (.putfield 31, 3) := by decide +kernel
theorem dX0_selectOutput_13 : decode cX0_selectOutput 13 = .ok (.aload_n 0, 1) := by decide +kernel
theorem dX0_selectOutput_14 : decode cX0_selectOutput 14 = .ok (.iload_n 1, 1) := by decide +kernel
theorem dX0_selectOutput_15 : decode cX0_selectOutput 15 = .ok (.invokevirtual 46, 3) := by decide +kernel
theorem dX0_selectOutput_18 : decode cX0_selectOutput 18 = .ok (.ireturn, 1) := by decide +kernel
set_option maxHeartbeats 4000000 in
set_option maxRecDepth 100000 in
theorem s_C_selectOutput (l : Launch) (d : gD) (b : Nat) (Y : gYt) (c : Nat × Nat) (F : gM) (k n : Nat) {S : gSt} (hi : hI d b Y c (F, k, n) S) (x : Int32) : hMi l d b yX0_selectOutput cX0_selectOutput 2 .boolean 2 k n F [.ref (gO' Y 6), .int x] (fun r u => ∃ S', hI d b Y c u S' ∧ gKp Y F u.1 ∧ gSm S S' [] [26] ∧ (r = 0 ∨ r = 1) ∧ gPsi S' ≤ gPsi S) := by
  intro mc ms
  refine hM_of2 rfl (nL := 2) (Nat.le_of_ble_eq_true rfl) ?_
  intro X hX hC hr ho; subst hX
  show hG X d b _ F k n 0 [some (.ref (gO' Y 6)), some (.int x)] []
  refine h_aload_n hC dX0_selectOutput_0 rfl ?_
  refine h_iload_n hC dX0_selectOutput_1 rfl ?_
  refine g_callVi (As := [.int x]) hC rfl (hi.1.o 6 (by decide)) (c_C_isOutput X.la d b Y _ S hi.1 x) cl_X0_46 rfl rfl (Nat.le_of_ble_eq_true rfl) (h_fit0 hC hr ho (hFr_of (Nat.le_of_ble_eq_true rfl) (Nat.le_of_ble_eq_true rfl))) dX0_selectOutput_2 (fun r1 F2 p3 => ?_)
  obtain ⟨zr1, yr1, eF2⟩ := p3; have eF2 := eF2.symm; subst eF2
  refine h_same hC ho ?_
  refine h_if_eq (tgt := 13) hC dX0_selectOutput_5 (by decide) (fun c4 => ?_) (fun c4 => ?_)
  · refine h_aload_n hC dX0_selectOutput_13 rfl ?_
    refine h_iload_n hC dX0_selectOutput_14 rfl ?_
    refine g_callVi (As := [.int x]) hC rfl (hi.1.o 6 (by decide)) (c_C_isOutput X.la d b Y _ S hi.1 x) cl_X0_46 rfl rfl (Nat.le_of_ble_eq_true rfl) (h_fit0 hC hr ho (hFr_of (Nat.le_of_ble_eq_true rfl) (Nat.le_of_ble_eq_true rfl))) dX0_selectOutput_15 (fun r5 F6 p7 => ?_)
    obtain ⟨zr5, yr5, eF6⟩ := p7; have eF6 := eF6.symm; subst eF6
    refine h_same hC ho ?_
    exact h_iret hC hr ho rfl rfl (hnb (gib zr5 yr5)) ⟨S, hi, gKp.rf, gSm.rf, gib zr5 yr5, by omega⟩ dX0_selectOutput_18
  · refine h_aload_n hC dX0_selectOutput_8 rfl ?_
    refine h_iload_n hC dX0_selectOutput_9 rfl ?_
    refine hi_putx (i := 6) (kx := 26) hC hi (by decide) fl_X0_31 rfl rfl rfl (Nat.le_of_ble_eq_true rfl) rfl gsame_26 (fun q => absurd q (by decide)) dX0_selectOutput_10 (fun F8 S9 I10 K11 s12 v13 p14 => ?_)
    have m15 : gSm S S9 [] [26] := gSm.wk s12 _ _ rfl rfl
    refine h_aload_n hC dX0_selectOutput_13 rfl ?_
    refine h_iload_n hC dX0_selectOutput_14 rfl ?_
    refine g_callVi (As := [.int x]) hC rfl (I10.1.o 6 (by decide)) (c_C_isOutput X.la d b Y _ S9 I10.1 x) cl_X0_46 rfl rfl (Nat.le_of_ble_eq_true rfl) (h_fit0 hC hr ho (hFr_of (Nat.le_of_ble_eq_true rfl) (Nat.le_of_ble_eq_true rfl))) dX0_selectOutput_15 (fun r17 F18 p19 => ?_)
    obtain ⟨zr17, yr17, eF18⟩ := p19; have eF18 := eF18.symm; subst eF18
    refine h_same hC ho ?_
    exact h_iret hC hr ho rfl rfl (hnb (gib zr17 yr17)) ⟨S9, I10, K11, m15, gib zr17 yr17, by omega⟩ dX0_selectOutput_18
