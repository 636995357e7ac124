theorem kw_1873 : Cond.constant RX0 59 1000000 ∈ gWs := List.mem_filter.mpr ⟨gMt7 _ (List.mem_of_getElem? (i := 196) rfl), rfl⟩
theorem kw_1822 : Cond.code yX0_read cX0_read 2 (some .int) ∈ gWs := List.mem_filter.mpr ⟨gMt7 _ (List.mem_of_getElem? (i := 145) rfl), rfl⟩
theorem kw_1877 : Cond.methodLink RX0 63 yX0_read ∈ gWs := List.mem_filter.mpr ⟨gMt7 _ (List.mem_of_getElem? (i := 200) rfl), rfl⟩
theorem kw_1820 : Cond.instanceMethod yX0_read ∈ gWs := List.mem_filter.mpr ⟨gMt7 _ (List.mem_of_getElem? (i := 143) rfl), rfl⟩
theorem kw_1821 : Cond.selects RX0 yX0_read yX0_read ∈ gWs := List.mem_filter.mpr ⟨gMt7 _ (List.mem_of_getElem? (i := 144) rfl), rfl⟩
theorem cl_X0_63 : gCV RX0 63 yX0_read cX0_read 2 (some .int) 0 := ⟨g_mk [.methodLink RX0 63 yX0_read, .instanceMethod yX0_read, .selects yX0_read.cls yX0_read yX0_read, .initialized yX0_read.cls] (gWs_all kw_1822) (List.forall_mem_cons.mpr ⟨kw_1877, List.forall_mem_cons.mpr ⟨kw_1820, List.forall_mem_cons.mpr ⟨kw_1821, List.forall_mem_cons.mpr ⟨kw_254, fun _ h => nomatch h⟩⟩⟩⟩), rfl, by decide +kernel, by decide +kernel, by decide +kernel⟩
theorem kw_1876 : Cond.code yX0_isBlank cX0_isBlank 1 (some .boolean) ∈ gWs := List.mem_filter.mpr ⟨gMt7 _ (List.mem_of_getElem? (i := 199) rfl), rfl⟩
theorem kw_1874 : Cond.methodLink RX0 60 yX0_isBlank ∈ gWs := List.mem_filter.mpr ⟨gMt7 _ (List.mem_of_getElem? (i := 197) rfl), rfl⟩
theorem kw_1875 : Cond.static yX0_isBlank ∈ gWs := List.mem_filter.mpr ⟨gMt7 _ (List.mem_of_getElem? (i := 198) rfl), rfl⟩
theorem cl_X0_60 : gCS RX0 60 yX0_isBlank cX0_isBlank 1 (some .boolean) 1 := ⟨g_mk [.methodLink RX0 60 yX0_isBlank, .static yX0_isBlank, .initialized yX0_isBlank.cls] (gWs_all kw_1876) (List.forall_mem_cons.mpr ⟨kw_1874, List.forall_mem_cons.mpr ⟨kw_1875, List.forall_mem_cons.mpr ⟨kw_254, fun _ h => nomatch h⟩⟩⟩), ⟨by decide +kernel, by decide +kernel, by decide +kernel⟩⟩
theorem kw_1804 : Cond.methodLink RX0 77 Lib.Math.min.name ∈ gWs := List.mem_filter.mpr ⟨gMt7 _ (List.mem_of_getElem? (i := 127) rfl), rfl⟩
theorem kw_1868 : Cond.methodLink RX0 84 Lib.Math.max.name ∈ gWs := List.mem_filter.mpr ⟨gMt7 _ (List.mem_of_getElem? (i := 191) rfl), rfl⟩
theorem kw_1808 : Cond.code yX0_write cX0_write 2 none ∈ gWs := List.mem_filter.mpr ⟨gMt7 _ (List.mem_of_getElem? (i := 131) rfl), rfl⟩
theorem kw_1805 : Cond.methodLink RX0 81 yX0_write ∈ gWs := List.mem_filter.mpr ⟨gMt7 _ (List.mem_of_getElem? (i := 128) rfl), rfl⟩
theorem kw_1806 : Cond.instanceMethod yX0_write ∈ gWs := List.mem_filter.mpr ⟨gMt7 _ (List.mem_of_getElem? (i := 129) rfl), rfl⟩
theorem kw_1807 : Cond.selects RX0 yX0_write yX0_write ∈ gWs := List.mem_filter.mpr ⟨gMt7 _ (List.mem_of_getElem? (i := 130) rfl), rfl⟩
theorem cl_X0_81 : gCV RX0 81 yX0_write cX0_write 2 none 1 := ⟨g_mk [.methodLink RX0 81 yX0_write, .instanceMethod yX0_write, .selects yX0_write.cls yX0_write yX0_write, .initialized yX0_write.cls] (gWs_all kw_1808) (List.forall_mem_cons.mpr ⟨kw_1805, List.forall_mem_cons.mpr ⟨kw_1806, List.forall_mem_cons.mpr ⟨kw_1807, List.forall_mem_cons.mpr ⟨kw_254, fun _ h => nomatch h⟩⟩⟩⟩), rfl, by decide +kernel, by decide +kernel, by decide +kernel⟩
theorem dX0_readNumber_0 : decode cX0_readNumber 0 = .ok (.iconst 0, 1) := by decide +kernel
theorem dX0_readNumber_1 : decode cX0_readNumber 1 = .ok (.istore_n 1, 1) := by decide +kernel
theorem dX0_readNumber_2 : decode cX0_readNumber 2 = .ok (.iload_n 1, 1) := by decide +kernel
theorem dX0_readNumber_3 : decode cX0_readNumber 3 = .ok (.ldc 59, 2) := by decide +kernel
theorem dX0_readNumber_5 : decode cX0_readNumber 5 = .ok (.if_icmp .ge 24, 3) := by decide +kernel
theorem dX0_readNumber_8 : decode cX0_readNumber 8 = .ok (.aload_n 0, 1) := by decide +kernel
theorem dX0_readNumber_9 : decode cX0_readNumber 9 = .ok (.invokevirtual 56, 3) := by decide +kernel
theorem dX0_readNumber_12 : decode cX0_readNumber 12 = .ok (.invokestatic 60, 3) := by decide +kernel
theorem dX0_readNumber_15 : decode cX0_readNumber 15 = .ok (.ifCond .eq 14, 3) := by decide +kernel
theorem dX0_readNumber_18 : decode cX0_readNumber 18 = .ok (.aload_n 0, 1) := by decide +kernel
theorem dX0_readNumber_19 : decode cX0_readNumber 19 = .ok (.invokevirtual 63, 3) := by decide +kernel
theorem dX0_readNumber_22 : decode cX0_readNumber 22 = .ok (.pop, 1) := by decide +kernel
theorem dX0_readNumber_23 : decode cX0_readNumber 23 = .ok (.iinc 1 1, 3) := by decide +kernel
theorem dX0_readNumber_26 : decode cX0_readNumber 26 = .ok (.goto (-24), 3) := by decide +kernel
theorem dX0_readNumber_29 : decode cX0_readNumber 29 = .ok (.aload_n 0, 1) := by decide +kernel
theorem dX0_readNumber_30 : decode cX0_readNumber 30 = .ok (.invokevirtual 56, 3) := by decide +kernel
theorem dX0_readNumber_33 : decode cX0_readNumber 33 = .ok (.bipush 45, 2) := by decide +kernel
theorem dX0_readNumber_35 : decode cX0_readNumber 35 = .ok (.if_icmp .ne 7, 3) := by decide +kernel
theorem dX0_readNumber_38 : decode cX0_readNumber 38 = .ok (.iconst 1, 1) := by decide +kernel
theorem dX0_readNumber_39 : decode cX0_readNumber 39 = .ok (.goto 4, 3) := by decide +kernel
theorem dX0_readNumber_42 : decode cX0_readNumber 42 = .ok (.iconst 0, 1) := by decide +kernel
theorem dX0_readNumber_43 : decode cX0_readNumber 43 = .ok (.istore_n 1, 1) := by decide +kernel
theorem dX0_readNumber_44 : decode cX0_readNumber 44 = .ok (.iload_n 1, 1) := by decide +kernel
theorem dX0_readNumber_45 : decode cX0_readNumber 45 = .ok (.ifCond .ne 12, 3) := by decide +kernel
theorem dX0_readNumber_48 : decode cX0_readNumber 48 = .ok (.aload_n 0, 1) := by decide +kernel
theorem dX0_readNumber_49 : decode cX0_readNumber 49 = .ok (.invokevirtual 56, 3) := by decide +kernel
theorem dX0_readNumber_52 : decode cX0_readNumber 52 = .ok (.bipush 43, 2) := by decide +kernel
theorem dX0_readNumber_54 : decode cX0_readNumber 54 = .ok (.if_icmp .ne 8, 3) := by decide +kernel
theorem dX0_readNumber_57 : decode cX0_readNumber 57 = .ok (.aload_n 0, 1) := by decide +kernel
theorem dX0_readNumber_58 : decode cX0_readNumber 58 = .ok (.invokevirtual 63, 3) := by decide +kernel
theorem dX0_readNumber_61 : decode cX0_readNumber 61 = .ok (.pop, 1) := by decide +kernel
theorem dX0_readNumber_62 : decode cX0_readNumber 62 = .ok (.iconst 0, 1) := by decide +kernel
theorem dX0_readNumber_63 : decode cX0_readNumber 63 = .ok (.istore_n 2, 1) := by decide +kernel
theorem dX0_readNumber_64 : decode cX0_readNumber 64 = .ok (.iconst 0, 1) := by decide +kernel
theorem dX0_readNumber_65 : decode cX0_readNumber 65 = .ok (.istore_n 3, 1) := by decide +kernel
theorem dX0_readNumber_66 : decode cX0_readNumber 66 = .ok (.iload_n 3, 1) := by decide +kernel
theorem dX0_readNumber_67 : decode cX0_readNumber 67 = .ok (.ldc 59, 2) := by decide +kernel
theorem dX0_readNumber_69 : decode cX0_readNumber 69 = .ok (.if_icmp .ge 40, 3) := by decide +kernel
theorem dX0_readNumber_72 : decode cX0_readNumber 72 = .ok (.aload_n 0, 1) := by decide +kernel
theorem dX0_readNumber_73 : decode cX0_readNumber 73 = .ok (.invokevirtual 56, 3) := by decide +kernel
theorem dX0_readNumber_76 : decode cX0_readNumber 76 = .ok (.bipush 48, 2) := by decide +kernel
theorem dX0_readNumber_78 : decode cX0_readNumber 78 = .ok (.if_icmp .lt 31, 3) := by decide +kernel
theorem dX0_readNumber_81 : decode cX0_readNumber 81 = .ok (.aload_n 0, 1) := by decide +kernel
theorem dX0_readNumber_82 : decode cX0_readNumber 82 = .ok (.invokevirtual 56, 3) := by decide +kernel
theorem dX0_readNumber_85 : decode cX0_readNumber 85 = .ok (.bipush 57, 2) := by decide +kernel
theorem dX0_readNumber_87 : decode cX0_readNumber 87 = .ok (.if_icmp .gt 22, 3) := by decide +kernel
theorem dX0_readNumber_90 : decode cX0_readNumber 90 = .ok (.iload_n 2, 1) := by decide +kernel
theorem dX0_readNumber_91 : decode cX0_readNumber 91 = .ok (.bipush 10, 2) := by decide +kernel
theorem dX0_readNumber_93 : decode cX0_readNumber 93 = .ok (.imul, 1) := by decide +kernel
theorem dX0_readNumber_94 : decode cX0_readNumber 94 = .ok (.aload_n 0, 1) := by decide +kernel
theorem dX0_readNumber_95 : decode cX0_readNumber 95 = .ok (.invokevirtual 63, 3) := by decide +kernel
theorem dX0_readNumber_98 : decode cX0_readNumber 98 = .ok (.iadd, 1) := by decide +kernel
theorem dX0_readNumber_99 : decode cX0_readNumber 99 = .ok (.bipush 48, 2) := by decide +kernel
theorem dX0_readNumber_101 : decode cX0_readNumber 101 = .ok (.isub, 1) := by decide +kernel
theorem dX0_readNumber_102 : decode cX0_readNumber 102 = .ok (.istore_n 2, 1) := by decide +kernel
theorem dX0_readNumber_103 : decode cX0_readNumber 103 = .ok (.iinc 3 1, 3) := by decide +kernel
theorem dX0_readNumber_106 : decode cX0_readNumber 106 = .ok (.goto (-40), 3) := by decide +kernel
theorem dX0_readNumber_109 : decode cX0_readNumber 109 = .ok (.iload_n 1, 1) := by decide +kernel
theorem dX0_readNumber_110 : decode cX0_readNumber 110 = .ok (.ifCond .eq 8, 3) := by decide +kernel
theorem dX0_readNumber_113 : decode cX0_readNumber 113 = .ok (.iload_n 2, 1) := by decide +kernel
theorem dX0_readNumber_114 : decode cX0_readNumber 114 = .ok (.ineg, 1) := by decide +kernel
theorem dX0_readNumber_115 : decode cX0_readNumber 115 = .ok (.goto 4, 3) := by decide +kernel
theorem dX0_readNumber_118 : decode cX0_readNumber 118 = .ok (.iload_n 2, 1) := by decide +kernel
theorem dX0_readNumber_119 : decode cX0_readNumber 119 = .ok (.ireturn, 1) := by decide +kernel
set_option maxHeartbeats 4000000 in
set_option maxRecDepth 100000 in
theorem s_C_readNumber (l : Launch) (d : gD) (b : Nat) (Y : gYt) (c : Nat × Nat) (F : gM) (k n : Nat) {S : gSt} (hi : hI d b Y c (F, k, n) S)  : hMi l d b yX0_readNumber cX0_readNumber 4 .int 4 k n F [.ref (gO' Y 6)] (fun r u => ∃ S', hI d b Y c u S' ∧ gKp Y F u.1 ∧ gSm S S' [44] [] ∧ gPsi S' ≤ gPsi S) := by
  intro mc ms
  refine hM_of2 rfl (nL := 4) (Nat.le_of_ble_eq_true rfl) ?_
  intro X hX hC hr ho; subst hX
  show hG X d b _ F k n 0 [some (.ref (gO' Y 6)), none, none, none] []
  refine h_iconst (v := 0) hC dX0_readNumber_0 rfl ?_
  refine h_istore_n (lv' := [some (.ref (gO' Y 6)), some (.int 0), none, none]) hC dX0_readNumber_1 (Nat.le_of_ble_eq_true rfl) rfl rfl ?_
  have J1 : ∀ (u2 : hU) (S3 : gSt), hI d b Y c u2 S3 → hOk X b u2.2.1 u2.2.2 → gKp Y F u2.1 → gSm S S3 [44] [] → (gPsi S3 ≤ gPsi S) → hG X d b (MQ X.be (va_Qi (fun r u => ∃ S', hI d b Y c u S' ∧ gKp Y F u.1 ∧ gSm S S' [44] [] ∧ gPsi S' ≤ gPsi S) (hB d b) (fun q => b ≤ q)) X.ar X.st mc ms (fun q => b ≤ q)) u2.1 u2.2.1 u2.2.2 29 [some (.ref (gO' Y 6)), none, none, none] [] := by
    intro u2 S3 I4 o5 K6 m7 ips
    refine h_aload_n hC dX0_readNumber_29 rfl ?_
    refine h_callVi (As := []) hC hr o5 rfl (I4.1.o 6 (by decide)) (s_C_next X.la d b Y c _ _ _ I4 ) cl_X0_56 rfl rfl (Nat.le_of_ble_eq_true rfl) (hFr_of (Nat.le_of_ble_eq_true rfl) (Nat.le_of_ble_eq_true rfl)) dX0_readNumber_30 (fun r11 u8 p9 o10 => ?_)
    obtain ⟨q12, rfl⟩ := p9
    refine h_bipush (v := 45) hC dX0_readNumber_33 rfl ?_
    refine h_icmp_ne (tgt := 42) hC dX0_readNumber_35 (by decide) (fun c13 => ?_) (fun c13 => ?_)
    · refine h_iconst (v := 0) hC dX0_readNumber_42 rfl ?_
      refine h_istore_n (lv' := [some (.ref (gO' Y 6)), some (.int 0), none, none]) hC dX0_readNumber_43 (Nat.le_of_ble_eq_true rfl) rfl rfl ?_
      refine h_iload_n hC dX0_readNumber_44 rfl ?_
      refine h_if_ne (tgt := 57) hC dX0_readNumber_45 (by decide) (fun c14 => ?_) (fun c14 => ?_)
      · exact absurd rfl c14
      · refine h_aload_n hC dX0_readNumber_48 rfl ?_
        refine h_callVi (As := []) hC hr o10 rfl (I4.1.o 6 (by decide)) (s_C_next X.la d b Y c _ _ _ I4 ) cl_X0_56 rfl rfl (Nat.le_of_ble_eq_true rfl) (hFr_of (Nat.le_of_ble_eq_true rfl) (Nat.le_of_ble_eq_true rfl)) dX0_readNumber_49 (fun r18 u15 p16 o17 => ?_)
        obtain ⟨q19, rfl⟩ := p16
        refine h_bipush (v := 43) hC dX0_readNumber_52 rfl ?_
        refine h_icmp_ne (tgt := 62) hC dX0_readNumber_54 (by decide) (fun c20 => ?_) (fun c20 => ?_)
        · refine h_iconst (v := 0) hC dX0_readNumber_62 rfl ?_
          refine h_istore_n (lv' := [some (.ref (gO' Y 6)), some (.int 0), some (.int 0), none]) hC dX0_readNumber_63 (Nat.le_of_ble_eq_true rfl) rfl rfl ?_
          refine h_iconst (v := 0) hC dX0_readNumber_64 rfl ?_
          refine h_istore_n (lv' := [some (.ref (gO' Y 6)), some (.int 0), some (.int 0), some (.int 0)]) hC dX0_readNumber_65 (Nat.le_of_ble_eq_true rfl) rfl rfl ?_
          have L21 : ∀ (m22 j23 : Nat), j23 + m22 = 1000000 → ∀ (u27 : hU) (S28 : gSt) (x26 : Int32), hI d b Y c u27 S28 → hOk X b u27.2.1 u27.2.2 → gKp Y F u27.1 → gSm S S28 [44] [] → (gPsi S28 ≤ gPsi S) → hG X d b (MQ X.be (va_Qi (fun r u => ∃ S', hI d b Y c u S' ∧ gKp Y F u.1 ∧ gSm S S' [44] [] ∧ gPsi S' ≤ gPsi S) (hB d b) (fun q => b ≤ q)) X.ar X.st mc ms (fun q => b ≤ q)) u27.1 u27.2.1 u27.2.2 66 [some (.ref (gO' Y 6)), some (.int 0), some (.int x26), some (.int (nI j23))] [] := by
            intro m22
            refine Nat.strongRecOn m22 (fun m22 ih24 j23 hj25 u27 S28 x26 I29 o30 K31 m32 ips => ?_)
            refine h_iload_n hC dX0_readNumber_66 rfl ?_
            refine h_ldc hC dX0_readNumber_67 kw_1873 ?_
            refine h_icmp_ge (tgt := 109) hC dX0_readNumber_69 (by decide) (fun c33 => ?_) (fun c33 => ?_)
            · refine h_iload_n hC dX0_readNumber_109 rfl ?_
              refine h_if_eq (tgt := 118) hC dX0_readNumber_110 (by decide) (fun c34 => ?_) (fun c34 => ?_)
              · refine h_iload_n hC dX0_readNumber_118 rfl ?_
                exact h_iret hC hr o30 rfl rfl rfl ⟨S28, I29, K31, m32, by omega⟩ dX0_readNumber_119
              · exact absurd rfl c34
            · have hlt := nI_ltN (by omega) c33
              refine h_aload_n hC dX0_readNumber_72 rfl ?_
              refine h_callVi (As := []) hC hr o30 rfl (I29.1.o 6 (by decide)) (s_C_next X.la d b Y c _ _ _ I29 ) cl_X0_56 rfl rfl (Nat.le_of_ble_eq_true rfl) (hFr_of (Nat.le_of_ble_eq_true rfl) (Nat.le_of_ble_eq_true rfl)) dX0_readNumber_73 (fun r38 u35 p36 o37 => ?_)
              obtain ⟨q39, rfl⟩ := p36
              refine h_bipush (v := 48) hC dX0_readNumber_76 rfl ?_
              refine h_icmp_lt (tgt := 109) hC dX0_readNumber_78 (by decide) (fun c40 => ?_) (fun c40 => ?_)
              · refine h_iload_n hC dX0_readNumber_109 rfl ?_
                refine h_if_eq (tgt := 118) hC dX0_readNumber_110 (by decide) (fun c41 => ?_) (fun c41 => ?_)
                · refine h_iload_n hC dX0_readNumber_118 rfl ?_
                  exact h_iret hC hr o37 rfl rfl rfl ⟨S28, I29, K31, m32, by omega⟩ dX0_readNumber_119
                · exact absurd rfl c41
              · refine h_aload_n hC dX0_readNumber_81 rfl ?_
                refine h_callVi (As := []) hC hr o37 rfl (I29.1.o 6 (by decide)) (s_C_next X.la d b Y c _ _ _ I29 ) cl_X0_56 rfl rfl (Nat.le_of_ble_eq_true rfl) (hFr_of (Nat.le_of_ble_eq_true rfl) (Nat.le_of_ble_eq_true rfl)) dX0_readNumber_82 (fun r45 u42 p43 o44 => ?_)
                obtain ⟨q46, rfl⟩ := p43
                refine h_bipush (v := 57) hC dX0_readNumber_85 rfl ?_
                refine h_icmp_gt (tgt := 109) hC dX0_readNumber_87 (by decide) (fun c47 => ?_) (fun c47 => ?_)
                · refine h_iload_n hC dX0_readNumber_109 rfl ?_
                  refine h_if_eq (tgt := 118) hC dX0_readNumber_110 (by decide) (fun c48 => ?_) (fun c48 => ?_)
                  · refine h_iload_n hC dX0_readNumber_118 rfl ?_
                    exact h_iret hC hr o44 rfl rfl rfl ⟨S28, I29, K31, m32, by omega⟩ dX0_readNumber_119
                  · exact absurd rfl c48
                · refine h_iload_n hC dX0_readNumber_90 rfl ?_
                  refine h_bipush (v := 10) hC dX0_readNumber_91 rfl ?_
                  refine h_imul hC dX0_readNumber_93 ?_
                  refine h_vi (fun x49 ex49 => ?_)
                  refine h_aload_n hC dX0_readNumber_94 rfl ?_
                  refine h_callVi (As := []) hC hr o44 rfl (I29.1.o 6 (by decide)) (s_C_read X.la d b Y c _ _ _ I29 ) cl_X0_63 rfl rfl (Nat.le_of_ble_eq_true rfl) (hFr_of (Nat.le_of_ble_eq_true rfl) (Nat.le_of_ble_eq_true rfl)) dX0_readNumber_95 (fun r53 u50 p51 o52 => ?_)
                  obtain ⟨S54, I55, K56, s57, q58⟩ := p51
                  have m59 : gSm S S54 [44] [] := m32.tr s57 _ _ rfl rfl
                  have K60 := K31.tr K56
                  refine h_iadd hC dX0_readNumber_98 ?_
                  refine h_vi (fun x61 ex61 => ?_)
                  refine h_bipush (v := 48) hC dX0_readNumber_99 rfl ?_
                  refine h_isub hC dX0_readNumber_101 ?_
                  refine h_vi (fun x62 ex62 => ?_)
                  refine h_istore_n (lv' := [some (.ref (gO' Y 6)), some (.int 0), some (.int x62), some (.int (nI j23))]) hC dX0_readNumber_102 (Nat.le_of_ble_eq_true rfl) rfl rfl ?_
                  obtain ⟨x63, ex63⟩ : ∃ y : Int32, y = (nI j23) + 1 := ⟨_, rfl⟩
                  refine h_iinc (v := x63) (lv' := [some (.ref (gO' Y 6)), some (.int 0), some (.int x62), some (.int x63)]) hC dX0_readNumber_103 rfl (by rw [ex63]; rfl) rfl rfl ?_
                  refine h_goto (tgt := 66) hC dX0_readNumber_106 (by decide) ?_
                  have zJx63 : x63 = nI (j23 + 1) := by rw [ex63]; exact nI_suc
                  subst zJx63
                  refine h_lv (lv' := [some (.ref (gO' Y 6)), some (.int 0), some (.int x62), some (.int (nI (j23 + 1)))]) (by repeat (first | exact trivial | refine ⟨rfl, ?_⟩ | exact trivial)) ?_
                  exact ih24 (m22 - 1) (by omega) (j23 + 1) (by omega) _ S54 x62 I55 o52 K60 m59 (by omega)
          refine h_lv (lv' := [some (.ref (gO' Y 6)), some (.int 0), some (.int 0), some (.int 0)]) (by repeat (first | exact trivial | refine ⟨rfl, ?_⟩ | exact trivial)) ?_
          exact L21 (1000000 - 0) 0 (by omega) (u2.1, u2.2.1, u2.2.2) S3 0 I4 o17 K6 m7 (by omega)
        · refine h_aload_n hC dX0_readNumber_57 rfl ?_
          refine h_callVi (As := []) hC hr o17 rfl (I4.1.o 6 (by decide)) (s_C_read X.la d b Y c _ _ _ I4 ) cl_X0_63 rfl rfl (Nat.le_of_ble_eq_true rfl) (hFr_of (Nat.le_of_ble_eq_true rfl) (Nat.le_of_ble_eq_true rfl)) dX0_readNumber_58 (fun r67 u64 p65 o66 => ?_)
          obtain ⟨S68, I69, K70, s71, q72⟩ := p65
          have m73 : gSm S S68 [44] [] := m7.tr s71 _ _ rfl rfl
          have K74 := K6.tr K70
          refine h_pop hC dX0_readNumber_61 rfl ?_
          refine h_iconst (v := 0) hC dX0_readNumber_62 rfl ?_
          refine h_istore_n (lv' := [some (.ref (gO' Y 6)), some (.int 0), some (.int 0), none]) hC dX0_readNumber_63 (Nat.le_of_ble_eq_true rfl) rfl rfl ?_
          refine h_iconst (v := 0) hC dX0_readNumber_64 rfl ?_
          refine h_istore_n (lv' := [some (.ref (gO' Y 6)), some (.int 0), some (.int 0), some (.int 0)]) hC dX0_readNumber_65 (Nat.le_of_ble_eq_true rfl) rfl rfl ?_
          have L75 : ∀ (m76 j77 : Nat), j77 + m76 = 1000000 → ∀ (u81 : hU) (S82 : gSt) (x80 : Int32), hI d b Y c u81 S82 → hOk X b u81.2.1 u81.2.2 → gKp Y F u81.1 → gSm S S82 [44] [] → (gPsi S82 ≤ gPsi S) → hG X d b (MQ X.be (va_Qi (fun r u => ∃ S', hI d b Y c u S' ∧ gKp Y F u.1 ∧ gSm S S' [44] [] ∧ gPsi S' ≤ gPsi S) (hB d b) (fun q => b ≤ q)) X.ar X.st mc ms (fun q => b ≤ q)) u81.1 u81.2.1 u81.2.2 66 [some (.ref (gO' Y 6)), some (.int 0), some (.int x80), some (.int (nI j77))] [] := by
            intro m76
            refine Nat.strongRecOn m76 (fun m76 ih78 j77 hj79 u81 S82 x80 I83 o84 K85 m86 ips => ?_)
            refine h_iload_n hC dX0_readNumber_66 rfl ?_
            refine h_ldc hC dX0_readNumber_67 kw_1873 ?_
            refine h_icmp_ge (tgt := 109) hC dX0_readNumber_69 (by decide) (fun c87 => ?_) (fun c87 => ?_)
            · refine h_iload_n hC dX0_readNumber_109 rfl ?_
              refine h_if_eq (tgt := 118) hC dX0_readNumber_110 (by decide) (fun c88 => ?_) (fun c88 => ?_)
              · refine h_iload_n hC dX0_readNumber_118 rfl ?_
                exact h_iret hC hr o84 rfl rfl rfl ⟨S82, I83, K85, m86, by omega⟩ dX0_readNumber_119
              · exact absurd rfl c88
            · have hlt := nI_ltN (by omega) c87
              refine h_aload_n hC dX0_readNumber_72 rfl ?_
              refine h_callVi (As := []) hC hr o84 rfl (I83.1.o 6 (by decide)) (s_C_next X.la d b Y c _ _ _ I83 ) cl_X0_56 rfl rfl (Nat.le_of_ble_eq_true rfl) (hFr_of (Nat.le_of_ble_eq_true rfl) (Nat.le_of_ble_eq_true rfl)) dX0_readNumber_73 (fun r92 u89 p90 o91 => ?_)
              obtain ⟨q93, rfl⟩ := p90
              refine h_bipush (v := 48) hC dX0_readNumber_76 rfl ?_
              refine h_icmp_lt (tgt := 109) hC dX0_readNumber_78 (by decide) (fun c94 => ?_) (fun c94 => ?_)
              · refine h_iload_n hC dX0_readNumber_109 rfl ?_
                refine h_if_eq (tgt := 118) hC dX0_readNumber_110 (by decide) (fun c95 => ?_) (fun c95 => ?_)
                · refine h_iload_n hC dX0_readNumber_118 rfl ?_
                  exact h_iret hC hr o91 rfl rfl rfl ⟨S82, I83, K85, m86, by omega⟩ dX0_readNumber_119
                · exact absurd rfl c95
              · refine h_aload_n hC dX0_readNumber_81 rfl ?_
                refine h_callVi (As := []) hC hr o91 rfl (I83.1.o 6 (by decide)) (s_C_next X.la d b Y c _ _ _ I83 ) cl_X0_56 rfl rfl (Nat.le_of_ble_eq_true rfl) (hFr_of (Nat.le_of_ble_eq_true rfl) (Nat.le_of_ble_eq_true rfl)) dX0_readNumber_82 (fun r99 u96 p97 o98 => ?_)
                obtain ⟨q100, rfl⟩ := p97
                refine h_bipush (v := 57) hC dX0_readNumber_85 rfl ?_
                refine h_icmp_gt (tgt := 109) hC dX0_readNumber_87 (by decide) (fun c101 => ?_) (fun c101 => ?_)
                · refine h_iload_n hC dX0_readNumber_109 rfl ?_
                  refine h_if_eq (tgt := 118) hC dX0_readNumber_110 (by decide) (fun c102 => ?_) (fun c102 => ?_)
                  · refine h_iload_n hC dX0_readNumber_118 rfl ?_
                    exact h_iret hC hr o98 rfl rfl rfl ⟨S82, I83, K85, m86, by omega⟩ dX0_readNumber_119
                  · exact absurd rfl c102
                · refine h_iload_n hC dX0_readNumber_90 rfl ?_
                  refine h_bipush (v := 10) hC dX0_readNumber_91 rfl ?_
                  refine h_imul hC dX0_readNumber_93 ?_
                  refine h_vi (fun x103 ex103 => ?_)
                  refine h_aload_n hC dX0_readNumber_94 rfl ?_
                  refine h_callVi (As := []) hC hr o98 rfl (I83.1.o 6 (by decide)) (s_C_read X.la d b Y c _ _ _ I83 ) cl_X0_63 rfl rfl (Nat.le_of_ble_eq_true rfl) (hFr_of (Nat.le_of_ble_eq_true rfl) (Nat.le_of_ble_eq_true rfl)) dX0_readNumber_95 (fun r107 u104 p105 o106 => ?_)
                  obtain ⟨S108, I109, K110, s111, q112⟩ := p105
                  have m113 : gSm S S108 [44] [] := m86.tr s111 _ _ rfl rfl
                  have K114 := K85.tr K110
                  refine h_iadd hC dX0_readNumber_98 ?_
                  refine h_vi (fun x115 ex115 => ?_)
                  refine h_bipush (v := 48) hC dX0_readNumber_99 rfl ?_
                  refine h_isub hC dX0_readNumber_101 ?_
                  refine h_vi (fun x116 ex116 => ?_)
                  refine h_istore_n (lv' := [some (.ref (gO' Y 6)), some (.int 0), some (.int x116), some (.int (nI j77))]) hC dX0_readNumber_102 (Nat.le_of_ble_eq_true rfl) rfl rfl ?_
                  obtain ⟨x117, ex117⟩ : ∃ y : Int32, y = (nI j77) + 1 := ⟨_, rfl⟩
                  refine h_iinc (v := x117) (lv' := [some (.ref (gO' Y 6)), some (.int 0), some (.int x116), some (.int x117)]) hC dX0_readNumber_103 rfl (by rw [ex117]; rfl) rfl rfl ?_
                  refine h_goto (tgt := 66) hC dX0_readNumber_106 (by decide) ?_
                  have zJx117 : x117 = nI (j77 + 1) := by rw [ex117]; exact nI_suc
                  subst zJx117
                  refine h_lv (lv' := [some (.ref (gO' Y 6)), some (.int 0), some (.int x116), some (.int (nI (j77 + 1)))]) (by repeat (first | exact trivial | refine ⟨rfl, ?_⟩ | exact trivial)) ?_
                  exact ih78 (m76 - 1) (by omega) (j77 + 1) (by omega) _ S108 x116 I109 o106 K114 m113 (by omega)
          refine h_lv (lv' := [some (.ref (gO' Y 6)), some (.int 0), some (.int 0), some (.int 0)]) (by repeat (first | exact trivial | refine ⟨rfl, ?_⟩ | exact trivial)) ?_
          exact L75 (1000000 - 0) 0 (by omega) (u64.1, u64.2.1, u64.2.2) S68 0 I69 o66 K74 m73 (by omega)
    · refine h_iconst (v := 1) hC dX0_readNumber_38 rfl ?_
      refine h_goto (tgt := 43) hC dX0_readNumber_39 (by decide) ?_
      refine h_istore_n (lv' := [some (.ref (gO' Y 6)), some (.int 1), none, none]) hC dX0_readNumber_43 (Nat.le_of_ble_eq_true rfl) rfl rfl ?_
      refine h_iload_n hC dX0_readNumber_44 rfl ?_
      refine h_if_ne (tgt := 57) hC dX0_readNumber_45 (by decide) (fun c118 => ?_) (fun c118 => ?_)
      · refine h_aload_n hC dX0_readNumber_57 rfl ?_
        refine h_callVi (As := []) hC hr o10 rfl (I4.1.o 6 (by decide)) (s_C_read X.la d b Y c _ _ _ I4 ) cl_X0_63 rfl rfl (Nat.le_of_ble_eq_true rfl) (hFr_of (Nat.le_of_ble_eq_true rfl) (Nat.le_of_ble_eq_true rfl)) dX0_readNumber_58 (fun r122 u119 p120 o121 => ?_)
        obtain ⟨S123, I124, K125, s126, q127⟩ := p120
        have m128 : gSm S S123 [44] [] := m7.tr s126 _ _ rfl rfl
        have K129 := K6.tr K125
        refine h_pop hC dX0_readNumber_61 rfl ?_
        refine h_iconst (v := 0) hC dX0_readNumber_62 rfl ?_
        refine h_istore_n (lv' := [some (.ref (gO' Y 6)), some (.int 1), some (.int 0), none]) hC dX0_readNumber_63 (Nat.le_of_ble_eq_true rfl) rfl rfl ?_
        refine h_iconst (v := 0) hC dX0_readNumber_64 rfl ?_
        refine h_istore_n (lv' := [some (.ref (gO' Y 6)), some (.int 1), some (.int 0), some (.int 0)]) hC dX0_readNumber_65 (Nat.le_of_ble_eq_true rfl) rfl rfl ?_
        have L130 : ∀ (m131 j132 : Nat), j132 + m131 = 1000000 → ∀ (u136 : hU) (S137 : gSt) (x135 : Int32), hI d b Y c u136 S137 → hOk X b u136.2.1 u136.2.2 → gKp Y F u136.1 → gSm S S137 [44] [] → (gPsi S137 ≤ gPsi S) → hG X d b (MQ X.be (va_Qi (fun r u => ∃ S', hI d b Y c u S' ∧ gKp Y F u.1 ∧ gSm S S' [44] [] ∧ gPsi S' ≤ gPsi S) (hB d b) (fun q => b ≤ q)) X.ar X.st mc ms (fun q => b ≤ q)) u136.1 u136.2.1 u136.2.2 66 [some (.ref (gO' Y 6)), some (.int 1), some (.int x135), some (.int (nI j132))] [] := by
          intro m131
          refine Nat.strongRecOn m131 (fun m131 ih133 j132 hj134 u136 S137 x135 I138 o139 K140 m141 ips => ?_)
          refine h_iload_n hC dX0_readNumber_66 rfl ?_
          refine h_ldc hC dX0_readNumber_67 kw_1873 ?_
          refine h_icmp_ge (tgt := 109) hC dX0_readNumber_69 (by decide) (fun c142 => ?_) (fun c142 => ?_)
          · refine h_iload_n hC dX0_readNumber_109 rfl ?_
            refine h_if_eq (tgt := 118) hC dX0_readNumber_110 (by decide) (fun c143 => ?_) (fun c143 => ?_)
            · exact absurd c143 (by decide)
            · refine h_iload_n hC dX0_readNumber_113 rfl ?_
              refine h_ineg hC dX0_readNumber_114 ?_
              refine h_vi (fun x144 ex144 => ?_)
              refine h_goto (tgt := 119) hC dX0_readNumber_115 (by decide) ?_
              exact h_iret hC hr o139 rfl rfl rfl ⟨S137, I138, K140, m141, by omega⟩ dX0_readNumber_119
          · have hlt := nI_ltN (by omega) c142
            refine h_aload_n hC dX0_readNumber_72 rfl ?_
            refine h_callVi (As := []) hC hr o139 rfl (I138.1.o 6 (by decide)) (s_C_next X.la d b Y c _ _ _ I138 ) cl_X0_56 rfl rfl (Nat.le_of_ble_eq_true rfl) (hFr_of (Nat.le_of_ble_eq_true rfl) (Nat.le_of_ble_eq_true rfl)) dX0_readNumber_73 (fun r148 u145 p146 o147 => ?_)
            obtain ⟨q149, rfl⟩ := p146
            refine h_bipush (v := 48) hC dX0_readNumber_76 rfl ?_
            refine h_icmp_lt (tgt := 109) hC dX0_readNumber_78 (by decide) (fun c150 => ?_) (fun c150 => ?_)
            · refine h_iload_n hC dX0_readNumber_109 rfl ?_
              refine h_if_eq (tgt := 118) hC dX0_readNumber_110 (by decide) (fun c151 => ?_) (fun c151 => ?_)
              · exact absurd c151 (by decide)
              · refine h_iload_n hC dX0_readNumber_113 rfl ?_
                refine h_ineg hC dX0_readNumber_114 ?_
                refine h_vi (fun x152 ex152 => ?_)
                refine h_goto (tgt := 119) hC dX0_readNumber_115 (by decide) ?_
                exact h_iret hC hr o147 rfl rfl rfl ⟨S137, I138, K140, m141, by omega⟩ dX0_readNumber_119
            · refine h_aload_n hC dX0_readNumber_81 rfl ?_
              refine h_callVi (As := []) hC hr o147 rfl (I138.1.o 6 (by decide)) (s_C_next X.la d b Y c _ _ _ I138 ) cl_X0_56 rfl rfl (Nat.le_of_ble_eq_true rfl) (hFr_of (Nat.le_of_ble_eq_true rfl) (Nat.le_of_ble_eq_true rfl)) dX0_readNumber_82 (fun r156 u153 p154 o155 => ?_)
              obtain ⟨q157, rfl⟩ := p154
              refine h_bipush (v := 57) hC dX0_readNumber_85 rfl ?_
              refine h_icmp_gt (tgt := 109) hC dX0_readNumber_87 (by decide) (fun c158 => ?_) (fun c158 => ?_)
              · refine h_iload_n hC dX0_readNumber_109 rfl ?_
                refine h_if_eq (tgt := 118) hC dX0_readNumber_110 (by decide) (fun c159 => ?_) (fun c159 => ?_)
                · exact absurd c159 (by decide)
                · refine h_iload_n hC dX0_readNumber_113 rfl ?_
                  refine h_ineg hC dX0_readNumber_114 ?_
                  refine h_vi (fun x160 ex160 => ?_)
                  refine h_goto (tgt := 119) hC dX0_readNumber_115 (by decide) ?_
                  exact h_iret hC hr o155 rfl rfl rfl ⟨S137, I138, K140, m141, by omega⟩ dX0_readNumber_119
              · refine h_iload_n hC dX0_readNumber_90 rfl ?_
                refine h_bipush (v := 10) hC dX0_readNumber_91 rfl ?_
                refine h_imul hC dX0_readNumber_93 ?_
                refine h_vi (fun x161 ex161 => ?_)
                refine h_aload_n hC dX0_readNumber_94 rfl ?_
                refine h_callVi (As := []) hC hr o155 rfl (I138.1.o 6 (by decide)) (s_C_read X.la d b Y c _ _ _ I138 ) cl_X0_63 rfl rfl (Nat.le_of_ble_eq_true rfl) (hFr_of (Nat.le_of_ble_eq_true rfl) (Nat.le_of_ble_eq_true rfl)) dX0_readNumber_95 (fun r165 u162 p163 o164 => ?_)
                obtain ⟨S166, I167, K168, s169, q170⟩ := p163
                have m171 : gSm S S166 [44] [] := m141.tr s169 _ _ rfl rfl
                have K172 := K140.tr K168
                refine h_iadd hC dX0_readNumber_98 ?_
                refine h_vi (fun x173 ex173 => ?_)
                refine h_bipush (v := 48) hC dX0_readNumber_99 rfl ?_
                refine h_isub hC dX0_readNumber_101 ?_
                refine h_vi (fun x174 ex174 => ?_)
                refine h_istore_n (lv' := [some (.ref (gO' Y 6)), some (.int 1), some (.int x174), some (.int (nI j132))]) hC dX0_readNumber_102 (Nat.le_of_ble_eq_true rfl) rfl rfl ?_
                obtain ⟨x175, ex175⟩ : ∃ y : Int32, y = (nI j132) + 1 := ⟨_, rfl⟩
                refine h_iinc (v := x175) (lv' := [some (.ref (gO' Y 6)), some (.int 1), some (.int x174), some (.int x175)]) hC dX0_readNumber_103 rfl (by rw [ex175]; rfl) rfl rfl ?_
                refine h_goto (tgt := 66) hC dX0_readNumber_106 (by decide) ?_
                have zJx175 : x175 = nI (j132 + 1) := by rw [ex175]; exact nI_suc
                subst zJx175
                refine h_lv (lv' := [some (.ref (gO' Y 6)), some (.int 1), some (.int x174), some (.int (nI (j132 + 1)))]) (by repeat (first | exact trivial | refine ⟨rfl, ?_⟩ | exact trivial)) ?_
                exact ih133 (m131 - 1) (by omega) (j132 + 1) (by omega) _ S166 x174 I167 o164 K172 m171 (by omega)
        refine h_lv (lv' := [some (.ref (gO' Y 6)), some (.int 1), some (.int 0), some (.int 0)]) (by repeat (first | exact trivial | refine ⟨rfl, ?_⟩ | exact trivial)) ?_
        exact L130 (1000000 - 0) 0 (by omega) (u119.1, u119.2.1, u119.2.2) S123 0 I124 o121 K129 m128 (by omega)
      · exact absurd c118 (by decide)
  have L176 : ∀ (m177 j178 : Nat), j178 + m177 = 1000000 → ∀ (u181 : hU) (S182 : gSt), hI d b Y c u181 S182 → hOk X b u181.2.1 u181.2.2 → gKp Y F u181.1 → gSm S S182 [44] [] → (gPsi S182 ≤ gPsi S) → hG X d b (MQ X.be (va_Qi (fun r u => ∃ S', hI d b Y c u S' ∧ gKp Y F u.1 ∧ gSm S S' [44] [] ∧ gPsi S' ≤ gPsi S) (hB d b) (fun q => b ≤ q)) X.ar X.st mc ms (fun q => b ≤ q)) u181.1 u181.2.1 u181.2.2 2 [some (.ref (gO' Y 6)), some (.int (nI j178)), none, none] [] := by
    intro m177
    refine Nat.strongRecOn m177 (fun m177 ih179 j178 hj180 u181 S182 I183 o184 K185 m186 ips => ?_)
    refine h_iload_n hC dX0_readNumber_2 rfl ?_
    refine h_ldc hC dX0_readNumber_3 kw_1873 ?_
    refine h_icmp_ge (tgt := 29) hC dX0_readNumber_5 (by decide) (fun c187 => ?_) (fun c187 => ?_)
    · refine h_lv (lv' := [some (.ref (gO' Y 6)), none, none, none]) (by repeat (first | exact trivial | refine ⟨rfl, ?_⟩ | exact trivial)) ?_
      exact J1 (u181.1, u181.2.1, u181.2.2) S182  I183 o184 K185 m186 (by omega)
    · have hlt := nI_ltN (by omega) c187
      refine h_aload_n hC dX0_readNumber_8 rfl ?_
      refine h_callVi (As := []) hC hr o184 rfl (I183.1.o 6 (by decide)) (s_C_next X.la d b Y c _ _ _ I183 ) cl_X0_56 rfl rfl (Nat.le_of_ble_eq_true rfl) (hFr_of (Nat.le_of_ble_eq_true rfl) (Nat.le_of_ble_eq_true rfl)) dX0_readNumber_9 (fun r191 u188 p189 o190 => ?_)
      obtain ⟨q192, rfl⟩ := p189
      refine g_callSi (As := [.int r191]) hC (t_isBlank X.la d b _ r191) cl_X0_60 rfl rfl (Nat.le_of_ble_eq_true rfl) (h_fit0 hC hr o190 (hFr_of (Nat.le_of_ble_eq_true rfl) (Nat.le_of_ble_eq_true rfl))) dX0_readNumber_12 (fun r193 F194 p195 => ?_)
      obtain ⟨er193, eF194⟩ := p195; have eF194 := eF194.symm; subst eF194
      refine h_same hC o190 ?_
      refine h_if_eq (tgt := 29) hC dX0_readNumber_15 (by decide) (fun c197 => ?_) (fun c197 => ?_)
      · refine h_lv (lv' := [some (.ref (gO' Y 6)), none, none, none]) (by repeat (first | exact trivial | refine ⟨rfl, ?_⟩ | exact trivial)) ?_
        exact J1 (u181.1, u181.2.1, u181.2.2) S182  I183 o190 K185 m186 (by omega)
      · refine h_aload_n hC dX0_readNumber_18 rfl ?_
        refine h_callVi (As := []) hC hr o190 rfl (I183.1.o 6 (by decide)) (s_C_read X.la d b Y c _ _ _ I183 ) cl_X0_63 rfl rfl (Nat.le_of_ble_eq_true rfl) (hFr_of (Nat.le_of_ble_eq_true rfl) (Nat.le_of_ble_eq_true rfl)) dX0_readNumber_19 (fun r201 u198 p199 o200 => ?_)
        obtain ⟨S202, I203, K204, s205, q206⟩ := p199
        have m207 : gSm S S202 [44] [] := m186.tr s205 _ _ rfl rfl
        have K208 := K185.tr K204
        refine h_pop hC dX0_readNumber_22 rfl ?_
        obtain ⟨x209, ex209⟩ : ∃ y : Int32, y = (nI j178) + 1 := ⟨_, rfl⟩
        refine h_iinc (v := x209) (lv' := [some (.ref (gO' Y 6)), some (.int x209), none, none]) hC dX0_readNumber_23 rfl (by rw [ex209]; rfl) rfl rfl ?_
        refine h_goto (tgt := 2) hC dX0_readNumber_26 (by decide) ?_
        have zJx209 : x209 = nI (j178 + 1) := by rw [ex209]; exact nI_suc
        subst zJx209
        refine h_lv (lv' := [some (.ref (gO' Y 6)), some (.int (nI (j178 + 1))), none, none]) (by repeat (first | exact trivial | refine ⟨rfl, ?_⟩ | exact trivial)) ?_
        exact ih179 (m177 - 1) (by omega) (j178 + 1) (by omega) _ S202  I203 o200 K208 m207 (by omega)
  refine h_lv (lv' := [some (.ref (gO' Y 6)), some (.int 0), none, none]) (by repeat (first | exact trivial | refine ⟨rfl, ?_⟩ | exact trivial)) ?_
  exact L176 (1000000 - 0) 0 (by omega) (F, k, n) S  hi ho gKp.rf gSm.rf (by omega)
theorem nI_dn {m : Nat} (h : 0 < m) (h2 : m < 2 ^ 31) : nI m - 1 + (-1) = nI (m - 1) - 1 := by
  rw [nI_prd h h2]
  exact (Int32.sub_eq_add_neg _ _).symm
theorem nI_dnp {m : Nat} (h : ¬ nI m - 1 < 0) : 0 < m := Nat.pos_of_ne_zero (fun q => h (by subst q; decide))
theorem gmx1 {y : Int32} : ¬ (if (1 : Int32) < y then y else 1) < 0 := by
  split
  · rename_i h
    rw [Int32.lt_iff_toInt_lt] at *
    have e : (1 : Int32).toInt = 1 := by decide
    have e0 : (0 : Int32).toInt = 0 := by decide
    omega
  · decide
theorem dX0_writeHex_0 : decode cX0_writeHex 0 = .ok (.iconst 1, 1) := by decide +kernel
theorem dX0_writeHex_1 : decode cX0_writeHex 1 = .ok (.bipush 8, 2) := by decide +kernel
theorem dX0_writeHex_3 : decode cX0_writeHex 3 = .ok (.iload_n 2, 1) := by decide +kernel
theorem dX0_writeHex_4 : decode cX0_writeHex 4 = .ok (.invokestatic 77, 3) := by decide +kernel
theorem dX0_writeHex_7 : decode cX0_writeHex 7 = .ok (.invokestatic 84, 3) := by decide +kernel
theorem dX0_writeHex_10 : decode cX0_writeHex 10 = .ok (.iconst 1, 1) := by decide +kernel
theorem dX0_writeHex_11 : decode cX0_writeHex 11 = .ok (.isub, 1) := by decide +kernel
theorem dX0_writeHex_12 : decode cX0_writeHex 12 = .ok (.istore_n 3, 1) := by decide +kernel
theorem dX0_writeHex_13 : decode cX0_writeHex 13 = .ok (.iload_n 3, 1) := by decide +kernel
theorem dX0_writeHex_14 : decode cX0_writeHex 14 = .ok (.ifCond .lt 46, 3) := by decide +kernel
theorem dX0_writeHex_17 : decode cX0_writeHex 17 = .ok (.iload_n 1, 1) := by decide +kernel
theorem dX0_writeHex_18 : decode cX0_writeHex 18 = .ok (.iconst 4, 1) := by decide +kernel
theorem dX0_writeHex_19 : decode cX0_writeHex 19 = .ok (.iload_n 3, 1) := by decide +kernel
theorem dX0_writeHex_20 : decode cX0_writeHex 20 = .ok (.imul, 1) := by decide +kernel
theorem dX0_writeHex_21 : decode cX0_writeHex 21 = .ok (.iushr, 1) := by decide +kernel
theorem dX0_writeHex_22 : decode cX0_writeHex 22 = .ok (.bipush 15, 2) := by decide +kernel
theorem dX0_writeHex_24 : decode cX0_writeHex 24 = .ok (.iand, 1) := by decide +kernel
theorem dX0_writeHex_25 : decode cX0_writeHex 25 = .ok (.istore 4, 2) := by decide +kernel
theorem dX0_writeHex_27 : decode cX0_writeHex 27 = .ok (.aload_n 0, 1) := by decide +kernel
theorem dX0_writeHex_28 : decode cX0_writeHex 28 = .ok (.iload 4, 2) := by decide +kernel
theorem dX0_writeHex_30 : decode cX0_writeHex 30 = .ok (.bipush 10, 2) := by decide +kernel
theorem dX0_writeHex_32 : decode cX0_writeHex 32 = .ok (.if_icmp .ge 11, 3) := by decide +kernel
theorem dX0_writeHex_35 : decode cX0_writeHex 35 = .ok (.bipush 48, 2) := by decide +kernel
theorem dX0_writeHex_37 : decode cX0_writeHex 37 = .ok (.iload 4, 2) := by decide +kernel
theorem dX0_writeHex_39 : decode cX0_writeHex 39 = .ok (.iadd, 1) := by decide +kernel
theorem dX0_writeHex_40 : decode cX0_writeHex 40 = .ok (.goto 11, 3) := by decide +kernel
theorem dX0_writeHex_43 : decode cX0_writeHex 43 = .ok (.bipush 65, 2) := by decide +kernel
theorem dX0_writeHex_45 : decode cX0_writeHex 45 = .ok (.iload 4, 2) := by decide +kernel
theorem dX0_writeHex_47 : decode cX0_writeHex 47 = .ok (.iadd, 1) := by decide +kernel
theorem dX0_writeHex_48 : decode cX0_writeHex 48 = .ok (.bipush 10, 2) := by decide +kernel
theorem dX0_writeHex_50 : decode cX0_writeHex 50 = .ok (.isub, 1) := by decide +kernel
theorem dX0_writeHex_51 : decode cX0_writeHex 51 = .ok (.invokevirtual 81, 3) := by decide +kernel
theorem dX0_writeHex_54 : decode cX0_writeHex 54 = .ok (.iinc 3 (-1), 3) := by decide +kernel
theorem dX0_writeHex_57 : decode cX0_writeHex 57 = .ok (.goto (-44), 3) := by decide +kernel
theorem dX0_writeHex_60 : decode cX0_writeHex 60 = .ok (.return_, 1) := by decide +kernel
set_option maxHeartbeats 4000000 in
set_option maxRecDepth 100000 in
theorem s_C_writeHex (l : Launch) (d : gD) (b : Nat) (Y : gYt) (c : Nat × Nat) (F : gM) (k n : Nat) {S : gSt} (hi : hI d b Y c (F, k, n) S) (hA : gPsi S ≤ gAm) (x y : Int32) : hMv l d b yX0_writeHex cX0_writeHex 5 5 k n F [.ref (gO' Y 6), .int x, .int y] (fun u => ∃ S', hI d b Y c u S' ∧ gKp Y F u.1 ∧ gSm S S' [38, 39] [] ∧ gPsi S' ≤ gPsi S) := by
  intro mc ms
  refine hM_of2 rfl (nL := 5) (Nat.le_of_ble_eq_true rfl) ?_
  intro X hX hC hr ho; subst hX
  show hG X d b _ F k n 0 [some (.ref (gO' Y 6)), some (.int x), some (.int y), none, none] []
  refine h_iconst (v := 1) hC dX0_writeHex_0 rfl ?_
  refine h_bipush (v := 8) hC dX0_writeHex_1 rfl ?_
  refine h_iload_n hC dX0_writeHex_3 rfl ?_
  refine h_min hC hr ho kw_1804 rfl ⟨Nat.le_of_ble_eq_true rfl, Nat.le_of_ble_eq_true rfl⟩ (Nat.le_of_ble_eq_true rfl) dX0_writeHex_4 ?_
  refine h_vi (fun x1 ex1 => ?_)
  refine h_max hC hr ho kw_1868 rfl ⟨Nat.le_of_ble_eq_true rfl, Nat.le_of_ble_eq_true rfl⟩ (Nat.le_of_ble_eq_true rfl) dX0_writeHex_7 ?_
  refine h_vi (fun x2 ex2 => ?_)
  obtain ⟨NN, hNN, eNN⟩ : ∃ z : Nat, z < 2 ^ 31 ∧ x2 = nI z := by obtain ⟨z, h1, h2⟩ := nI_of (x := x2) (by rw [ex2]; exact gmx1); exact ⟨z, h1, h2⟩
  refine h_iconst (v := 1) hC dX0_writeHex_10 rfl ?_
  refine h_isub hC dX0_writeHex_11 ?_
  refine h_vi (fun x3 ex3 => ?_)
  refine h_istore_n (lv' := [some (.ref (gO' Y 6)), some (.int x), some (.int y), some (.int x3), none]) hC dX0_writeHex_12 (Nat.le_of_ble_eq_true rfl) rfl rfl ?_
  have L4 : ∀ (m5 : Nat), m5 < 2 ^ 31 → ∀ (u8 : hU) (S9 : gSt), hI d b Y c u8 S9 → hOk X b u8.2.1 u8.2.2 → gKp Y F u8.1 → gSm S S9 [38, 39] [] → (gPsi S9 ≤ gPsi S) → hG X d b (MQ X.be (va_Qv (fun u => ∃ S', hI d b Y c u S' ∧ gKp Y F u.1 ∧ gSm S S' [38, 39] [] ∧ gPsi S' ≤ gPsi S) (hB d b) (fun q => b ≤ q)) X.ar X.st mc ms (fun q => b ≤ q)) u8.1 u8.2.1 u8.2.2 13 [some (.ref (gO' Y 6)), some (.int x), none, some (.int (nI m5 - 1)), none] [] := by
    intro m5
    refine Nat.strongRecOn m5 (fun m5 ih6 hm7 u8 S9  I10 o11 K12 m13 ips => ?_)
    refine h_iload_n hC dX0_writeHex_13 rfl ?_
    refine h_if_lt (tgt := 60) hC dX0_writeHex_14 (by decide) (fun c14 => ?_) (fun c14 => ?_)
    · exact h_vret hC hr o11 rfl rfl ⟨S9, I10, K12, m13, by omega⟩ dX0_writeHex_60
    · have hdn := nI_dnp c14
      refine h_iload_n hC dX0_writeHex_17 rfl ?_
      refine h_iconst (v := 4) hC dX0_writeHex_18 rfl ?_
      refine h_iload_n hC dX0_writeHex_19 rfl ?_
      refine h_imul hC dX0_writeHex_20 ?_
      refine h_vi (fun x15 ex15 => ?_)
      refine h_iushr hC dX0_writeHex_21 ?_
      refine h_vi (fun x16 ex16 => ?_)
      refine h_bipush (v := 15) hC dX0_writeHex_22 rfl ?_
      refine h_iand hC dX0_writeHex_24 ?_
      refine h_vi (fun x17 ex17 => ?_)
      refine h_istore (lv' := [some (.ref (gO' Y 6)), some (.int x), none, some (.int (nI m5 - 1)), some (.int x17)]) hC dX0_writeHex_25 (Nat.le_of_ble_eq_true rfl) rfl rfl ?_
      refine h_aload_n hC dX0_writeHex_27 rfl ?_
      refine h_iload hC dX0_writeHex_28 rfl ?_
      refine h_bipush (v := 10) hC dX0_writeHex_30 rfl ?_
      refine h_icmp_ge (tgt := 43) hC dX0_writeHex_32 (by decide) (fun c18 => ?_) (fun c18 => ?_)
      · refine h_bipush (v := 65) hC dX0_writeHex_43 rfl ?_
        refine h_iload hC dX0_writeHex_45 rfl ?_
        refine h_iadd hC dX0_writeHex_47 ?_
        refine h_vi (fun x19 ex19 => ?_)
        refine h_bipush (v := 10) hC dX0_writeHex_48 rfl ?_
        refine h_isub hC dX0_writeHex_50 ?_
        refine h_vi (fun x20 ex20 => ?_)
        refine h_callVv (As := [.int x20]) hC hr o11 rfl (I10.1.o 6 (by decide)) (s_C_write X.la d b Y c _ _ _ I10 (by omega) x20) cl_X0_81 rfl rfl (Nat.le_of_ble_eq_true rfl) (hFr_of (Nat.le_of_ble_eq_true rfl) (Nat.le_of_ble_eq_true rfl)) dX0_writeHex_51 (fun u21 p22 o23 => ?_)
        obtain ⟨S25, I26, K27, s28, q29⟩ := p22
        have m30 : gSm S S25 [38, 39] [] := m13.tr s28 _ _ rfl rfl
        have K31 := K12.tr K27
        obtain ⟨x32, ex32⟩ : ∃ y : Int32, y = (nI m5 - 1) + (-1) := ⟨_, rfl⟩
        refine h_iinc (v := x32) (lv' := [some (.ref (gO' Y 6)), some (.int x), none, some (.int x32), some (.int x17)]) hC dX0_writeHex_54 rfl (by rw [ex32]; rfl) rfl rfl ?_
        refine h_goto (tgt := 13) hC dX0_writeHex_57 (by decide) ?_
        have zDx32 : x32 = nI (m5 - 1) - 1 := by rw [ex32]; exact nI_dn (by omega) hm7
        subst zDx32
        refine h_lv (lv' := [some (.ref (gO' Y 6)), some (.int x), none, some (.int (nI (m5 - 1) - 1)), none]) (by repeat (first | exact trivial | refine ⟨rfl, ?_⟩ | exact trivial)) ?_
        exact ih6 (m5 - 1) (by omega) (by omega) _ S25  I26 o23 K31 m30 (by omega)
      · refine h_bipush (v := 48) hC dX0_writeHex_35 rfl ?_
        refine h_iload hC dX0_writeHex_37 rfl ?_
        refine h_iadd hC dX0_writeHex_39 ?_
        refine h_vi (fun x33 ex33 => ?_)
        refine h_goto (tgt := 51) hC dX0_writeHex_40 (by decide) ?_
        refine h_callVv (As := [.int x33]) hC hr o11 rfl (I10.1.o 6 (by decide)) (s_C_write X.la d b Y c _ _ _ I10 (by omega) x33) cl_X0_81 rfl rfl (Nat.le_of_ble_eq_true rfl) (hFr_of (Nat.le_of_ble_eq_true rfl) (Nat.le_of_ble_eq_true rfl)) dX0_writeHex_51 (fun u34 p35 o36 => ?_)
        obtain ⟨S38, I39, K40, s41, q42⟩ := p35
        have m43 : gSm S S38 [38, 39] [] := m13.tr s41 _ _ rfl rfl
        have K44 := K12.tr K40
        obtain ⟨x45, ex45⟩ : ∃ y : Int32, y = (nI m5 - 1) + (-1) := ⟨_, rfl⟩
        refine h_iinc (v := x45) (lv' := [some (.ref (gO' Y 6)), some (.int x), none, some (.int x45), some (.int x17)]) hC dX0_writeHex_54 rfl (by rw [ex45]; rfl) rfl rfl ?_
        refine h_goto (tgt := 13) hC dX0_writeHex_57 (by decide) ?_
        have zDx45 : x45 = nI (m5 - 1) - 1 := by rw [ex45]; exact nI_dn (by omega) hm7
        subst zDx45
        refine h_lv (lv' := [some (.ref (gO' Y 6)), some (.int x), none, some (.int (nI (m5 - 1) - 1)), none]) (by repeat (first | exact trivial | refine ⟨rfl, ?_⟩ | exact trivial)) ?_
        exact ih6 (m5 - 1) (by omega) (by omega) _ S38  I39 o36 K44 m43 (by omega)
  have zS : x3 = nI NN - 1 := by rw [ex3, eNN]
  rw [zS]
  refine h_lv (lv' := [some (.ref (gO' Y 6)), some (.int x), none, some (.int (nI NN - 1)), none]) (by repeat (first | exact trivial | refine ⟨rfl, ?_⟩ | exact trivial)) ?_
  exact L4 NN hNN (F, k, n) S  hi ho gKp.rf gSm.rf (by omega)
theorem dX9_find_0 : decode cX9_find 0 = .ok (.aload_n 0, 1) := by decide +kernel
theorem dX9_find_1 : decode cX9_find 1 = .ok (.getfield 15, 3) := by decide +kernel
theorem dX9_find_4 : decode cX9_find 4 = .ok (.invokevirtual 56, 3) := by decide +kernel
theorem dX9_find_7 : decode cX9_find 7 = .ok (.iconst 1, 1) := by decide +kernel
theorem dX9_find_8 : decode cX9_find 8 = .ok (.isub, 1) := by decide +kernel
theorem dX9_find_9 : decode cX9_find 9 = .ok (.istore_n 2, 1) := by decide +kernel
theorem dX9_find_10 : decode cX9_find 10 = .ok (.iload_n 2, 1) := by decide +kernel
theorem dX9_find_11 : decode cX9_find 11 = .ok (.ifCond .lt 23, 3) := by decide +kernel
theorem dX9_find_14 : decode cX9_find 14 = .ok (.aload_n 0, 1) := by decide +kernel
theorem dX9_find_15 : decode cX9_find 15 = .ok (.getfield 15, 3) := by decide +kernel
theorem dX9_find_18 : decode cX9_find 18 = .ok (.iload_n 2, 1) := by decide +kernel
theorem dX9_find_19 : decode cX9_find 19 = .ok (.invokevirtual 63, 3) := by decide +kernel
theorem dX9_find_22 : decode cX9_find 22 = .ok (.iload_n 1, 1) := by decide +kernel
theorem dX9_find_23 : decode cX9_find 23 = .ok (.if_icmp .ne 5, 3) := by decide +kernel
theorem dX9_find_26 : decode cX9_find 26 = .ok (.iload_n 2, 1) := by decide +kernel
theorem dX9_find_27 : decode cX9_find 27 = .ok (.ireturn, 1) := by decide +kernel
theorem dX9_find_28 : decode cX9_find 28 = .ok (.iinc 2 (-1), 3) := by decide +kernel
theorem dX9_find_31 : decode cX9_find 31 = .ok (.goto (-21), 3) := by decide +kernel
theorem dX9_find_34 : decode cX9_find 34 = .ok (.iconst (-1), 1) := by decide +kernel
theorem dX9_find_35 : decode cX9_find 35 = .ok (.ireturn, 1) := by decide +kernel
set_option maxHeartbeats 4000000 in
set_option maxRecDepth 100000 in
theorem s_S_find (l : Launch) (d : gD) (b : Nat) (Y : gYt) (c : Nat × Nat) (F : gM) (k n : Nat) {S : gSt} (hi : hI d b Y c (F, k, n) S) (x : Int32) : hMi l d b yX9_find cX9_find 3 .int 2 k n F [.ref (gO' Y 8), .int x] (fun r u => True ∧ u = (F, k, n)) := by
  intro mc ms
  refine hM_of2 rfl (nL := 3) (Nat.le_of_ble_eq_true rfl) ?_
  intro X hX hC hr ho; subst hX
  show hG X d b _ F k n 0 [some (.ref (gO' Y 8)), some (.int x), none] []
  refine h_aload_n hC dX9_find_0 rfl ?_
  refine h_get hC fl_X9_15 (hi.1.o 8 (by decide)) rfl dX9_find_1 ?_
  refine hi_size (j := 27) hC hr ho hi.1 (by decide) cl_X9_56 rfl (Nat.le_of_ble_eq_true rfl) (hFr_of (Nat.le_of_ble_eq_true rfl) (Nat.le_of_ble_eq_true rfl)) dX9_find_4 ?_
  refine h_iconst (v := 1) hC dX9_find_7 rfl ?_
  refine h_isub hC dX9_find_8 ?_
  refine h_vi (fun x1 ex1 => ?_)
  refine h_istore_n (lv' := [some (.ref (gO' Y 8)), some (.int x), some (.int x1)]) hC dX9_find_9 (Nat.le_of_ble_eq_true rfl) rfl rfl ?_
  have L2 : ∀ (m3 : Nat), m3 < 2 ^ 31 →  hG X d b (MQ X.be (va_Qi (fun r u => True ∧ u = (F, k, n)) (hB d b) (fun q => b ≤ q)) X.ar X.st mc ms (fun q => b ≤ q)) F k n 10 [some (.ref (gO' Y 8)), some (.int x), some (.int (nI m3 - 1))] [] := by
    intro m3
    refine Nat.strongRecOn m3 (fun m3 ih4 hm5   => ?_)
    refine h_iload_n hC dX9_find_10 rfl ?_
    refine h_if_lt (tgt := 34) hC dX9_find_11 (by decide) (fun c6 => ?_) (fun c6 => ?_)
    · refine h_iconst (v := (-1)) hC dX9_find_34 rfl ?_
      exact h_iret hC hr ho rfl rfl rfl ⟨trivial, rfl⟩ dX9_find_35
    · have hdn := nI_dnp c6
      refine h_aload_n hC dX9_find_14 rfl ?_
      refine h_get hC fl_X9_15 (hi.1.o 8 (by decide)) rfl dX9_find_15 ?_
      refine h_iload_n hC dX9_find_18 rfl ?_
      refine hi_get (j := 27) hC hr ho hi.1 (by decide) cl_X9_63 rfl (Nat.le_of_ble_eq_true rfl) (hFr_of (Nat.le_of_ble_eq_true rfl) (Nat.le_of_ble_eq_true rfl)) dX9_find_19 ?_
      refine h_vi (fun x7 ex7 => ?_)
      refine h_iload_n hC dX9_find_22 rfl ?_
      refine h_icmp_ne (tgt := 28) hC dX9_find_23 (by decide) (fun c8 => ?_) (fun c8 => ?_)
      · obtain ⟨x9, ex9⟩ : ∃ y : Int32, y = (nI m3 - 1) + (-1) := ⟨_, rfl⟩
        refine h_iinc (v := x9) (lv' := [some (.ref (gO' Y 8)), some (.int x), some (.int x9)]) hC dX9_find_28 rfl (by rw [ex9]; rfl) rfl rfl ?_
        refine h_goto (tgt := 10) hC dX9_find_31 (by decide) ?_
        have zDx9 : x9 = nI (m3 - 1) - 1 := by rw [ex9]; exact nI_dn (by omega) hm5
        subst zDx9
        refine h_lv (lv' := [some (.ref (gO' Y 8)), some (.int x), some (.int (nI (m3 - 1) - 1))]) (by repeat (first | exact trivial | refine ⟨rfl, ?_⟩ | exact trivial)) ?_
        exact ih4 (m3 - 1) (by omega) (by omega)  
      · refine h_iload_n hC dX9_find_26 rfl ?_
        exact h_iret hC hr ho rfl rfl rfl ⟨trivial, rfl⟩ dX9_find_27
  have zS : x1 = nI (sZ S 27) - 1 := ex1
  rw [zS]
  refine h_lv (lv' := [some (.ref (gO' Y 8)), some (.int x), some (.int (nI (sZ S 27) - 1))]) (by repeat (first | exact trivial | refine ⟨rfl, ?_⟩ | exact trivial)) ?_
  exact L2 (sZ S 27) (hI.zlt hi (by decide))  
