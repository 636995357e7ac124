theorem kw_587 : Cond.fieldLink RX9 40 "WordTongue$Scope" "program" "LWordTongue$Program;" ∈ gWs := List.mem_filter.mpr ⟨gMt2 _ (List.mem_of_getElem? (i := 110) rfl), rfl⟩
theorem fl_X9_40 : gFL RX9 40 9 0 (.object "WordTongue$Program") true := ⟨RX9, TX9, 8, tyX9, rfl, by decide, inW_RX9, kw_587, tyX9_ok, nmX9, rfl, by decide +kernel, fun _ => rfl⟩
theorem kw_1310 : Cond.methodLink RX9 67 Lib.Math.max.name ∈ gWs := List.mem_filter.mpr ⟨gMt5 _ (List.mem_of_getElem? (i := 113) rfl), rfl⟩
theorem kw_1311 : Cond.methodLink RX9 73 yX7_blame ∈ gWs := List.mem_filter.mpr ⟨gMt5 _ (List.mem_of_getElem? (i := 114) rfl), rfl⟩
theorem cl_X9_73 : gCV RX9 73 yX7_blame cX7_blame 4 none 2 := ⟨g_mk [.methodLink RX9 73 yX7_blame, .instanceMethod yX7_blame, .selects yX7_blame.cls yX7_blame yX7_blame, .initialized yX7_blame.cls] (gWs_all kw_1008) (List.forall_mem_cons.mpr ⟨kw_1311, List.forall_mem_cons.mpr ⟨kw_1006, List.forall_mem_cons.mpr ⟨kw_1007, List.forall_mem_cons.mpr ⟨kw_240, fun _ h => nomatch h⟩⟩⟩⟩), rfl, by decide +kernel, by decide +kernel, by decide +kernel⟩
theorem nI_stp {x y : Int32} (h : x.toInt < 2147483647) (e : y = x + 1) : y.toInt = x.toInt + 1 := by
  have h0 := Int32.le_toInt x
  have e1 : (1 : Int32).toInt = 1 := by decide
  rw [e, Int32.toInt_add, e1]
  apply Int.bmod_eq_of_le
  · omega
  · omega
theorem nI_top {x P : Int32} (h : ¬ P ≤ x) : x.toInt < 2147483647 := by
  rw [Int32.le_iff_toInt_le] at h
  have m := Int32.toInt_le P
  have m2 : (Int32.maxValue).toInt = 2147483647 := by decide
  omega
theorem dX9_declare_0 : decode cX9_declare 0 = .ok (.iload_n 1, 1) := by decide +kernel
theorem dX9_declare_1 : decode cX9_declare 1 = .ok (.istore 6, 2) := by decide +kernel
theorem dX9_declare_3 : decode cX9_declare 3 = .ok (.aload_n 0, 1) := by decide +kernel
theorem dX9_declare_4 : decode cX9_declare 4 = .ok (.getfield 36, 3) := by decide +kernel
theorem dX9_declare_7 : decode cX9_declare 7 = .ok (.istore 7, 2) := by decide +kernel
theorem dX9_declare_9 : decode cX9_declare 9 = .ok (.iload 7, 2) := by decide +kernel
theorem dX9_declare_11 : decode cX9_declare 11 = .ok (.aload_n 0, 1) := by decide +kernel
theorem dX9_declare_12 : decode cX9_declare 12 = .ok (.getfield 15, 3) := by decide +kernel
theorem dX9_declare_15 : decode cX9_declare 15 = .ok (.invokevirtual 56, 3) := by decide +kernel
theorem dX9_declare_18 : decode cX9_declare 18 = .ok (.if_icmp .ge 66, 3) := by decide +kernel
theorem dX9_declare_21 : decode cX9_declare 21 = .ok (.aload_n 0, 1) := by decide +kernel
theorem dX9_declare_22 : decode cX9_declare 22 = .ok (.getfield 15, 3) := by decide +kernel
theorem dX9_declare_25 : decode cX9_declare 25 = .ok (.iload 7, 2) := by decide +kernel
theorem dX9_declare_27 : decode cX9_declare 27 = .ok (.invokevirtual 63, 3) := by decide +kernel
theorem dX9_declare_30 : decode cX9_declare 30 = .ok (.iload_n 1, 1) := by decide +kernel
theorem dX9_declare_31 : decode cX9_declare 31 = .ok (.if_icmp .ne 47, 3) := by decide +kernel
theorem dX9_declare_34 : decode cX9_declare 34 = .ok (.aload_n 0, 1) := by decide +kernel
theorem dX9_declare_35 : decode cX9_declare 35 = .ok (.getfield 40, 3) := by decide +kernel
theorem dX9_declare_38 : decode cX9_declare 38 = .ok (.iconst 4, 1) := by decide +kernel
theorem dX9_declare_39 : decode cX9_declare 39 = .ok (.iload 5, 2) := by decide +kernel
theorem dX9_declare_41 : decode cX9_declare 41 = .ok (.aload_n 0, 1) := by decide +kernel
theorem dX9_declare_42 : decode cX9_declare 42 = .ok (.getfield 30, 3) := by decide +kernel
theorem dX9_declare_45 : decode cX9_declare 45 = .ok (.iload 7, 2) := by decide +kernel
theorem dX9_declare_47 : decode cX9_declare 47 = .ok (.invokevirtual 63, 3) := by decide +kernel
theorem dX9_declare_50 : decode cX9_declare 50 = .ok (.invokestatic 67, 3) := by decide +kernel
theorem dX9_declare_53 : decode cX9_declare 53 = .ok (.invokevirtual 73, 3) := by decide +kernel
theorem dX9_declare_56 : decode cX9_declare 56 = .ok (.iload 5, 2) := by decide +kernel
theorem dX9_declare_58 : decode cX9_declare 58 = .ok (.aload_n 0, 1) := by decide +kernel
theorem dX9_declare_59 : decode cX9_declare 59 = .ok (.getfield 30, 3) := by decide +kernel
theorem dX9_declare_62 : decode cX9_declare 62 = .ok (.iload 7, 2) := by decide +kernel
theorem dX9_declare_64 : decode cX9_declare 64 = .ok (.invokevirtual 63, 3) := by decide +kernel
theorem dX9_declare_67 : decode cX9_declare 67 = .ok (.if_icmp .le 7, 3) := by decide +kernel
theorem dX9_declare_70 : decode cX9_declare 70 = .ok (.iconst (-1), 1) := by decide +kernel
theorem dX9_declare_71 : decode cX9_declare 71 = .ok (.goto 5, 3) := by decide +kernel
theorem dX9_declare_74 : decode cX9_declare 74 = .ok (.iload 6, 2) := by decide +kernel
theorem dX9_declare_76 : decode cX9_declare 76 = .ok (.istore 6, 2) := by decide +kernel
theorem dX9_declare_78 : decode cX9_declare 78 = .ok (.iinc 7 1, 3) := by decide +kernel
theorem dX9_declare_81 : decode cX9_declare 81 = .ok (.goto (-72), 3) := by decide +kernel
theorem dX9_declare_84 : decode cX9_declare 84 = .ok (.aload_n 0, 1) := by decide +kernel
theorem dX9_declare_85 : decode cX9_declare 85 = .ok (.iload 6, 2) := by decide +kernel
theorem dX9_declare_87 : decode cX9_declare 87 = .ok (.iload_n 2, 1) := by decide +kernel
theorem dX9_declare_88 : decode cX9_declare 88 = .ok (.iload_n 3, 1) := by decide +kernel
theorem dX9_declare_89 : decode cX9_declare 89 = .ok (.iload 4, 2) := by decide +kernel
theorem dX9_declare_91 : decode cX9_declare 91 = .ok (.iload 5, 2) := by decide +kernel
theorem dX9_declare_93 : decode cX9_declare 93 = .ok (.invokevirtual 49, 3) := by decide +kernel
theorem dX9_declare_96 : decode cX9_declare 96 = .ok (.ireturn, 1) := by decide +kernel
set_option maxHeartbeats 4000000 in
set_option maxRecDepth 100000 in
theorem s_S_declare (l : Launch) (d : gD) (b : Nat) (Y : gYt) (c : Nat × Nat) (F : gM) (k n : Nat) {S : gSt} (hi : hI d b Y c (F, k, n) S) (hA : gPsi S + 5 ≤ gAm) (x y z v t : Int32) : hMi l d b yX9_declare cX9_declare 8 .int 5 k n F [.ref (gO' Y 8), .int x, .int y, .int z, .int v, .int t] (fun r u => ∃ S', hI d b Y c u S' ∧ gKp Y F u.1 ∧ gSm S S' [27, 28, 29, 30, 31] [4, 5] ∧ gPsi S' ≤ gPsi S + 5) := by
  intro mc ms
  refine hM_of2 rfl (nL := 8) (Nat.le_of_ble_eq_true rfl) ?_
  intro X hX hC hr ho; subst hX
  show hG X d b _ F k n 0 [some (.ref (gO' Y 8)), some (.int x), some (.int y), some (.int z), some (.int v), some (.int t), none, none] []
  refine h_iload_n hC dX9_declare_0 rfl ?_
  refine h_istore (lv' := [some (.ref (gO' Y 8)), some (.int x), some (.int y), some (.int z), some (.int v), some (.int t), some (.int x), none]) hC dX9_declare_1 (Nat.le_of_ble_eq_true rfl) rfl rfl ?_
  refine h_aload_n hC dX9_declare_3 rfl ?_
  refine h_get hC fl_X9_36 (hi.1.o 8 (by decide)) rfl dX9_declare_4 ?_
  refine h_istore (lv' := [some (.ref (gO' Y 8)), some (.int x), some (.int y), some (.int z), some (.int v), some (.int t), some (.int x), some (.int (sV S 37))]) hC dX9_declare_7 (Nat.le_of_ble_eq_true rfl) rfl rfl ?_
  have L1 : ∀ (m2 : Nat) (x5 : Int32), (2147483648 - x5.toInt).toNat = m2 → ∀ (u7 : hU) (S8 : gSt) (x6 : Int32), hI d b Y c u7 S8 → hOk X b u7.2.1 u7.2.2 → gKp Y F u7.1 → gSm S S8 [27, 28, 29, 30, 31] [4, 5] → (gPsi S8 ≤ gPsi S) → hG X d b (MQ X.be (va_Qi (fun r u => ∃ S', hI d b Y c u S' ∧ gKp Y F u.1 ∧ gSm S S' [27, 28, 29, 30, 31] [4, 5] ∧ gPsi S' ≤ gPsi S + 5) (hB d b) (fun q => b ≤ q)) X.ar X.st mc ms (fun q => b ≤ q)) u7.1 u7.2.1 u7.2.2 9 [some (.ref (gO' Y 8)), some (.int x), some (.int y), some (.int z), some (.int v), some (.int t), some (.int x6), some (.int x5)] [] := by
    intro m2
    refine Nat.strongRecOn m2 (fun m2 ih3 x5 hm4 u7 S8 x6 I9 o10 K11 m12 ips => ?_)
    refine h_iload hC dX9_declare_9 rfl ?_
    refine h_aload_n hC dX9_declare_11 rfl ?_
    refine h_get hC fl_X9_15 (I9.1.o 8 (by decide)) rfl dX9_declare_12 ?_
    refine hi_size (j := 27) hC hr o10 I9.1 (by decide) cl_X9_56 rfl (Nat.le_of_ble_eq_true rfl) (hFr_of (Nat.le_of_ble_eq_true rfl) (Nat.le_of_ble_eq_true rfl)) dX9_declare_15 ?_
    refine h_icmp_ge (tgt := 84) hC dX9_declare_18 (by decide) (fun c13 => ?_) (fun c13 => ?_)
    · refine h_aload_n hC dX9_declare_84 rfl ?_
      refine h_iload hC dX9_declare_85 rfl ?_
      refine h_iload_n hC dX9_declare_87 rfl ?_
      refine h_iload_n hC dX9_declare_88 rfl ?_
      refine h_iload hC dX9_declare_89 rfl ?_
      refine h_iload hC dX9_declare_91 rfl ?_
      refine h_callVi (As := [.int x6, .int y, .int z, .int v, .int t]) hC hr o10 rfl (I9.1.o 8 (by decide)) (s_S_put X.la d b Y c _ _ _ I9 (by omega) x6 y z v t) cl_X9_49 rfl rfl (Nat.le_of_ble_eq_true rfl) (hFr_of (Nat.le_of_ble_eq_true rfl) (Nat.le_of_ble_eq_true rfl)) dX9_declare_93 (fun r17 u14 p15 o16 => ?_)
      obtain ⟨S18, I19, K20, s21, q22⟩ := p15
      have m23 : gSm S S18 [27, 28, 29, 30, 31] [4, 5] := m12.tr s21 _ _ rfl rfl
      have K24 := K11.tr K20
      exact h_iret hC hr o16 rfl rfl rfl ⟨S18, I19, K24, m23, by omega⟩ dX9_declare_96
    · have htop := nI_top c13
      refine h_aload_n hC dX9_declare_21 rfl ?_
      refine h_get hC fl_X9_15 (I9.1.o 8 (by decide)) rfl dX9_declare_22 ?_
      refine h_iload hC dX9_declare_25 rfl ?_
      refine hi_get (j := 27) hC hr o10 I9.1 (by decide) cl_X9_63 rfl (Nat.le_of_ble_eq_true rfl) (hFr_of (Nat.le_of_ble_eq_true rfl) (Nat.le_of_ble_eq_true rfl)) dX9_declare_27 ?_
      refine h_vi (fun x25 ex25 => ?_)
      refine h_iload_n hC dX9_declare_30 rfl ?_
      refine h_icmp_ne (tgt := 78) hC dX9_declare_31 (by decide) (fun c26 => ?_) (fun c26 => ?_)
      · obtain ⟨x27, ex27⟩ : ∃ y : Int32, y = x5 + 1 := ⟨_, rfl⟩
        refine h_iinc (v := x27) (lv' := [some (.ref (gO' Y 8)), some (.int x), some (.int y), some (.int z), some (.int v), some (.int t), some (.int x6), some (.int x27)]) hC dX9_declare_78 rfl (by rw [ex27]; rfl) rfl rfl ?_
        refine h_goto (tgt := 9) hC dX9_declare_81 (by decide) ?_
        refine h_lv (lv' := [some (.ref (gO' Y 8)), some (.int x), some (.int y), some (.int z), some (.int v), some (.int t), some (.int x6), some (.int x27)]) (by repeat (first | exact trivial | refine ⟨rfl, ?_⟩ | exact trivial)) ?_
        have hsx27 := nI_stp htop ex27
        exact ih3 (2147483648 - x27.toInt).toNat (by omega) x27 rfl _ S8 x6 I9 o10 K11 m12 (by omega)
      · refine h_aload_n hC dX9_declare_34 rfl ?_
        refine h_get hC fl_X9_40 (I9.1.o 8 (by decide)) rfl dX9_declare_35 ?_
        refine h_iconst (v := 4) hC dX9_declare_38 rfl ?_
        refine h_iload hC dX9_declare_39 rfl ?_
        refine h_aload_n hC dX9_declare_41 rfl ?_
        refine h_get hC fl_X9_30 (I9.1.o 8 (by decide)) rfl dX9_declare_42 ?_
        refine h_iload hC dX9_declare_45 rfl ?_
        refine hi_get (j := 31) hC hr o10 I9.1 (by decide) cl_X9_63 rfl (Nat.le_of_ble_eq_true rfl) (hFr_of (Nat.le_of_ble_eq_true rfl) (Nat.le_of_ble_eq_true rfl)) dX9_declare_47 ?_
        refine h_vi (fun x28 ex28 => ?_)
        refine h_max hC hr o10 kw_1310 rfl ⟨Nat.le_of_ble_eq_true rfl, Nat.le_of_ble_eq_true rfl⟩ (Nat.le_of_ble_eq_true rfl) dX9_declare_50 ?_
        refine h_vi (fun x29 ex29 => ?_)
        refine h_callVv (As := [.int 4, .int x29]) hC hr o10 rfl (I9.1.o 1 (by decide)) (s_P_blame X.la d b Y c _ _ _ I9 4 x29) cl_X9_73 rfl rfl (Nat.le_of_ble_eq_true rfl) (hFr_of (Nat.le_of_ble_eq_true rfl) (Nat.le_of_ble_eq_true rfl)) dX9_declare_53 (fun u30 p31 o32 => ?_)
        obtain ⟨S34, I35, K36, s37, q38⟩ := p31
        have m39 : gSm S S34 [27, 28, 29, 30, 31] [4, 5] := m12.tr s37 _ _ rfl rfl
        have K40 := K11.tr K36
        refine h_iload hC dX9_declare_56 rfl ?_
        refine h_aload_n hC dX9_declare_58 rfl ?_
        refine h_get hC fl_X9_30 (I35.1.o 8 (by decide)) rfl dX9_declare_59 ?_
        refine h_iload hC dX9_declare_62 rfl ?_
        refine hi_get (j := 31) hC hr o32 I35.1 (by decide) cl_X9_63 rfl (Nat.le_of_ble_eq_true rfl) (hFr_of (Nat.le_of_ble_eq_true rfl) (Nat.le_of_ble_eq_true rfl)) dX9_declare_64 ?_
        refine h_vi (fun x41 ex41 => ?_)
        refine h_icmp_le (tgt := 74) hC dX9_declare_67 (by decide) (fun c42 => ?_) (fun c42 => ?_)
        · refine h_iload hC dX9_declare_74 rfl ?_
          refine h_istore (lv' := [some (.ref (gO' Y 8)), some (.int x), some (.int y), some (.int z), some (.int v), some (.int t), some (.int x6), some (.int x5)]) hC dX9_declare_76 (Nat.le_of_ble_eq_true rfl) rfl rfl ?_
          obtain ⟨x43, ex43⟩ : ∃ y : Int32, y = x5 + 1 := ⟨_, rfl⟩
          refine h_iinc (v := x43) (lv' := [some (.ref (gO' Y 8)), some (.int x), some (.int y), some (.int z), some (.int v), some (.int t), some (.int x6), some (.int x43)]) hC dX9_declare_78 rfl (by rw [ex43]; rfl) rfl rfl ?_
          refine h_goto (tgt := 9) hC dX9_declare_81 (by decide) ?_
          refine h_lv (lv' := [some (.ref (gO' Y 8)), some (.int x), some (.int y), some (.int z), some (.int v), some (.int t), some (.int x6), some (.int x43)]) (by repeat (first | exact trivial | refine ⟨rfl, ?_⟩ | exact trivial)) ?_
          have hsx43 := nI_stp htop ex43
          exact ih3 (2147483648 - x43.toInt).toNat (by omega) x43 rfl _ S34 x6 I35 o32 K40 m39 (by omega)
        · refine h_iconst (v := (-1)) hC dX9_declare_70 rfl ?_
          refine h_goto (tgt := 76) hC dX9_declare_71 (by decide) ?_
          refine h_istore (lv' := [some (.ref (gO' Y 8)), some (.int x), some (.int y), some (.int z), some (.int v), some (.int t), some (.int (-1)), some (.int x5)]) hC dX9_declare_76 (Nat.le_of_ble_eq_true rfl) rfl rfl ?_
          obtain ⟨x44, ex44⟩ : ∃ y : Int32, y = x5 + 1 := ⟨_, rfl⟩
          refine h_iinc (v := x44) (lv' := [some (.ref (gO' Y 8)), some (.int x), some (.int y), some (.int z), some (.int v), some (.int t), some (.int (-1)), some (.int x44)]) hC dX9_declare_78 rfl (by rw [ex44]; rfl) rfl rfl ?_
          refine h_goto (tgt := 9) hC dX9_declare_81 (by decide) ?_
          refine h_lv (lv' := [some (.ref (gO' Y 8)), some (.int x), some (.int y), some (.int z), some (.int v), some (.int t), some (.int (-1)), some (.int x44)]) (by repeat (first | exact trivial | refine ⟨rfl, ?_⟩ | exact trivial)) ?_
          have hsx44 := nI_stp htop ex44
          exact ih3 (2147483648 - x44.toInt).toNat (by omega) x44 rfl _ S34 (-1) I35 o32 K40 m39 (by omega)
  refine h_lv (lv' := [some (.ref (gO' Y 8)), some (.int x), some (.int y), some (.int z), some (.int v), some (.int t), some (.int x), some (.int (sV S 37))]) (by repeat (first | exact trivial | refine ⟨rfl, ?_⟩ | exact trivial)) ?_
  exact L1 _ (sV S 37) rfl (F, k, n) S x hi ho gKp.rf gSm.rf (by omega)
