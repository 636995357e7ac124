theorem kw_1235 : Cond.code yX11_isRelation cX11_isRelation 1 (some .boolean) ∈ gWs := List.mem_filter.mpr ⟨gMt5 _ (List.mem_of_getElem? (i := 38) rfl), rfl⟩
theorem kw_1233 : Cond.methodLink RX11 160 yX11_isRelation ∈ gWs := List.mem_filter.mpr ⟨gMt5 _ (List.mem_of_getElem? (i := 36) rfl), rfl⟩
theorem kw_1234 : Cond.static yX11_isRelation ∈ gWs := List.mem_filter.mpr ⟨gMt5 _ (List.mem_of_getElem? (i := 37) rfl), rfl⟩
theorem cl_X11_160 : gCS RX11 160 yX11_isRelation cX11_isRelation 1 (some .boolean) 1 := ⟨g_mk [.methodLink RX11 160 yX11_isRelation, .static yX11_isRelation, .initialized yX11_isRelation.cls] (gWs_all kw_1235) (List.forall_mem_cons.mpr ⟨kw_1233, List.forall_mem_cons.mpr ⟨kw_1234, List.forall_mem_cons.mpr ⟨kw_238, fun _ h => nomatch h⟩⟩⟩), ⟨by decide +kernel, by decide +kernel, by decide +kernel⟩⟩
theorem kw_893 : Cond.code yX8_isLetter cX8_isLetter 1 (some .boolean) ∈ gWs := List.mem_filter.mpr ⟨gMt3 _ (List.mem_of_getElem? (i := 176) rfl), rfl⟩
theorem kw_891 : Cond.methodLink RX8 119 yX8_isLetter ∈ gWs := List.mem_filter.mpr ⟨gMt3 _ (List.mem_of_getElem? (i := 174) rfl), rfl⟩
theorem kw_892 : Cond.static yX8_isLetter ∈ gWs := List.mem_filter.mpr ⟨gMt3 _ (List.mem_of_getElem? (i := 175) rfl), rfl⟩
theorem cl_X8_119 : gCS RX8 119 yX8_isLetter cX8_isLetter 1 (some .boolean) 1 := ⟨g_mk [.methodLink RX8 119 yX8_isLetter, .static yX8_isLetter, .initialized yX8_isLetter.cls] (gWs_all kw_893) (List.forall_mem_cons.mpr ⟨kw_891, List.forall_mem_cons.mpr ⟨kw_892, List.forall_mem_cons.mpr ⟨kw_242, fun _ h => nomatch h⟩⟩⟩), ⟨by decide +kernel, by decide +kernel, by decide +kernel⟩⟩
theorem kw_907 : Cond.code yX8_isDigit cX8_isDigit 1 (some .boolean) ∈ gWs := List.mem_filter.mpr ⟨gMt3 _ (List.mem_of_getElem? (i := 190) rfl), rfl⟩
theorem kw_905 : Cond.methodLink RX8 125 yX8_isDigit ∈ gWs := List.mem_filter.mpr ⟨gMt3 _ (List.mem_of_getElem? (i := 188) rfl), rfl⟩
theorem kw_906 : Cond.static yX8_isDigit ∈ gWs := List.mem_filter.mpr ⟨gMt3 _ (List.mem_of_getElem? (i := 189) rfl), rfl⟩
theorem cl_X8_125 : gCS RX8 125 yX8_isDigit cX8_isDigit 1 (some .boolean) 1 := ⟨g_mk [.methodLink RX8 125 yX8_isDigit, .static yX8_isDigit, .initialized yX8_isDigit.cls] (gWs_all kw_907) (List.forall_mem_cons.mpr ⟨kw_905, List.forall_mem_cons.mpr ⟨kw_906, List.forall_mem_cons.mpr ⟨kw_242, fun _ h => nomatch h⟩⟩⟩), ⟨by decide +kernel, by decide +kernel, by decide +kernel⟩⟩
theorem dX11_isRelation_0 : decode cX11_isRelation 0 = .ok (.iload_n 0, 1) := by decide +kernel
theorem dX11_isRelation_1 : decode cX11_isRelation 1 = .ok (.bipush 20, 2) := by decide +kernel
theorem dX11_isRelation_3 : decode cX11_isRelation 3 = .ok (.if_icmp .lt 13, 3) := by decide +kernel
theorem dX11_isRelation_6 : decode cX11_isRelation 6 = .ok (.iload_n 0, 1) := by decide +kernel
theorem dX11_isRelation_7 : decode cX11_isRelation 7 = .ok (.bipush 25, 2) := by decide +kernel
theorem dX11_isRelation_9 : decode cX11_isRelation 9 = .ok (.if_icmp .gt 7, 3) := by decide +kernel
theorem dX11_isRelation_12 : decode cX11_isRelation 12 = .ok (.iconst 1, 1) := by decide +kernel
theorem dX11_isRelation_13 : decode cX11_isRelation 13 = .ok (.goto 4, 3) := by decide +kernel
theorem dX11_isRelation_16 : decode cX11_isRelation 16 = .ok (.iconst 0, 1) := by decide +kernel
theorem dX11_isRelation_17 : decode cX11_isRelation 17 = .ok (.ireturn, 1) := by decide +kernel
set_option maxHeartbeats 4000000 in
set_option maxRecDepth 100000 in
theorem t_isRelation (l : Launch) (d : gD) (b : Nat) (F : gM) (x : Int32) : gMi l d b yX11_isRelation cX11_isRelation 1 .boolean 0 0 0 F [.int x] (fun r F' => (r = 0 ∨ r = 1) ∧ F' = F) := by
  refine gM_of2 rfl (nL := 1) (Nat.le_of_ble_eq_true rfl) ?_
  intro X hX hC; subst hX
  show gG X d b _ F 0 0 0 [some (.int x)] []
  refine g_iload_n hC dX11_isRelation_0 rfl ?_
  refine g_bipush (v := 20) hC dX11_isRelation_1 rfl ?_
  refine g_icmp_lt (tgt := 16) hC dX11_isRelation_3 (by decide) (fun c1 => ?_) (fun c1 => ?_)
  · refine g_iconst (v := 0) hC dX11_isRelation_16 rfl ?_
    exact g_iret hC (gnb (Or.inl rfl)) ⟨Or.inl rfl, rfl⟩ (Nat.le_refl _) (Nat.le_refl _) dX11_isRelation_17
  · refine g_iload_n hC dX11_isRelation_6 rfl ?_
    refine g_bipush (v := 25) hC dX11_isRelation_7 rfl ?_
    refine g_icmp_gt (tgt := 16) hC dX11_isRelation_9 (by decide) (fun c2 => ?_) (fun c2 => ?_)
    · refine g_iconst (v := 0) hC dX11_isRelation_16 rfl ?_
      exact g_iret hC (gnb (Or.inl rfl)) ⟨Or.inl rfl, rfl⟩ (Nat.le_refl _) (Nat.le_refl _) dX11_isRelation_17
    · refine g_iconst (v := 1) hC dX11_isRelation_12 rfl ?_
      refine g_goto (tgt := 17) hC dX11_isRelation_13 (by decide) ?_
      exact g_iret hC (gnb (Or.inr rfl)) ⟨Or.inr rfl, rfl⟩ (Nat.le_refl _) (Nat.le_refl _) dX11_isRelation_17
theorem dX11_isDivision_0 : decode cX11_isDivision 0 = .ok (.iload_n 0, 1) := by decide +kernel
theorem dX11_isDivision_1 : decode cX11_isDivision 1 = .ok (.bipush 19, 2) := by decide +kernel
theorem dX11_isDivision_3 : decode cX11_isDivision 3 = .ok (.if_icmp .eq 9, 3) := by decide +kernel
theorem dX11_isDivision_6 : decode cX11_isDivision 6 = .ok (.iload_n 0, 1) := by decide +kernel
theorem dX11_isDivision_7 : decode cX11_isDivision 7 = .ok (.bipush 72, 2) := by decide +kernel
theorem dX11_isDivision_9 : decode cX11_isDivision 9 = .ok (.if_icmp .ne 7, 3) := by decide +kernel
theorem dX11_isDivision_12 : decode cX11_isDivision 12 = .ok (.iconst 1, 1) := by decide +kernel
theorem dX11_isDivision_13 : decode cX11_isDivision 13 = .ok (.goto 4, 3) := by decide +kernel
theorem dX11_isDivision_16 : decode cX11_isDivision 16 = .ok (.iconst 0, 1) := by decide +kernel
theorem dX11_isDivision_17 : decode cX11_isDivision 17 = .ok (.ireturn, 1) := by decide +kernel
set_option maxHeartbeats 4000000 in
set_option maxRecDepth 100000 in
theorem t_isDivision (l : Launch) (d : gD) (b : Nat) (F : gM) (x : Int32) : gMi l d b yX11_isDivision cX11_isDivision 1 .boolean 0 0 0 F [.int x] (fun r F' => (r = 0 ∨ r = 1) ∧ F' = F) := by
  refine gM_of2 rfl (nL := 1) (Nat.le_of_ble_eq_true rfl) ?_
  intro X hX hC; subst hX
  show gG X d b _ F 0 0 0 [some (.int x)] []
  refine g_iload_n hC dX11_isDivision_0 rfl ?_
  refine g_bipush (v := 19) hC dX11_isDivision_1 rfl ?_
  refine g_icmp_eq (tgt := 12) hC dX11_isDivision_3 (by decide) (fun c1 => ?_) (fun c1 => ?_)
  · refine g_iconst (v := 1) hC dX11_isDivision_12 rfl ?_
    refine g_goto (tgt := 17) hC dX11_isDivision_13 (by decide) ?_
    exact g_iret hC (gnb (Or.inr rfl)) ⟨Or.inr rfl, rfl⟩ (Nat.le_refl _) (Nat.le_refl _) dX11_isDivision_17
  · refine g_iload_n hC dX11_isDivision_6 rfl ?_
    refine g_bipush (v := 72) hC dX11_isDivision_7 rfl ?_
    refine g_icmp_ne (tgt := 16) hC dX11_isDivision_9 (by decide) (fun c2 => ?_) (fun c2 => ?_)
    · refine g_iconst (v := 0) hC dX11_isDivision_16 rfl ?_
      exact g_iret hC (gnb (Or.inl rfl)) ⟨Or.inl rfl, rfl⟩ (Nat.le_refl _) (Nat.le_refl _) dX11_isDivision_17
    · refine g_iconst (v := 1) hC dX11_isDivision_12 rfl ?_
      refine g_goto (tgt := 17) hC dX11_isDivision_13 (by decide) ?_
      exact g_iret hC (gnb (Or.inr rfl)) ⟨Or.inr rfl, rfl⟩ (Nat.le_refl _) (Nat.le_refl _) dX11_isDivision_17
theorem dX11_holds_0 : decode cX11_holds 0 = .ok (.iload_n 0, 1) := by decide +kernel
theorem dX11_holds_1 : decode cX11_holds 1 = .ok (.tableswitch 90 20 24 #[35, 46, 57, 68, 79], 35) := by decide +kernel
theorem dX11_holds_36 : decode cX11_holds 36 = .ok (.iload_n 1, 1) := by decide +kernel
theorem dX11_holds_37 : decode cX11_holds 37 = .ok (.iload_n 2, 1) := by decide +kernel
theorem dX11_holds_38 : decode cX11_holds 38 = .ok (.if_icmp .ne 7, 3) := by decide +kernel
theorem dX11_holds_41 : decode cX11_holds 41 = .ok (.iconst 1, 1) := by decide +kernel
theorem dX11_holds_42 : decode cX11_holds 42 = .ok (.goto 4, 3) := by decide +kernel
theorem dX11_holds_45 : decode cX11_holds 45 = .ok (.iconst 0, 1) := by decide +kernel
theorem dX11_holds_46 : decode cX11_holds 46 = .ok (.ireturn, 1) := by decide +kernel
theorem dX11_holds_47 : decode cX11_holds 47 = .ok (.iload_n 1, 1) := by decide +kernel
theorem dX11_holds_48 : decode cX11_holds 48 = .ok (.iload_n 2, 1) := by decide +kernel
theorem dX11_holds_49 : decode cX11_holds 49 = .ok (.if_icmp .eq 7, 3) := by decide +kernel
theorem dX11_holds_52 : decode cX11_holds 52 = .ok (.iconst 1, 1) := by decide +kernel
theorem dX11_holds_53 : decode cX11_holds 53 = .ok (.goto 4, 3) := by decide +kernel
theorem dX11_holds_56 : decode cX11_holds 56 = .ok (.iconst 0, 1) := by decide +kernel
theorem dX11_holds_57 : decode cX11_holds 57 = .ok (.ireturn, 1) := by decide +kernel
theorem dX11_holds_58 : decode cX11_holds 58 = .ok (.iload_n 1, 1) := by decide +kernel
theorem dX11_holds_59 : decode cX11_holds 59 = .ok (.iload_n 2, 1) := by decide +kernel
theorem dX11_holds_60 : decode cX11_holds 60 = .ok (.if_icmp .ge 7, 3) := by decide +kernel
theorem dX11_holds_63 : decode cX11_holds 63 = .ok (.iconst 1, 1) := by decide +kernel
theorem dX11_holds_64 : decode cX11_holds 64 = .ok (.goto 4, 3) := by decide +kernel
theorem dX11_holds_67 : decode cX11_holds 67 = .ok (.iconst 0, 1) := by decide +kernel
theorem dX11_holds_68 : decode cX11_holds 68 = .ok (.ireturn, 1) := by decide +kernel
theorem dX11_holds_69 : decode cX11_holds 69 = .ok (.iload_n 1, 1) := by decide +kernel
theorem dX11_holds_70 : decode cX11_holds 70 = .ok (.iload_n 2, 1) := by decide +kernel
theorem dX11_holds_71 : decode cX11_holds 71 = .ok (.if_icmp .gt 7, 3) := by decide +kernel
theorem dX11_holds_74 : decode cX11_holds 74 = .ok (.iconst 1, 1) := by decide +kernel
theorem dX11_holds_75 : decode cX11_holds 75 = .ok (.goto 4, 3) := by decide +kernel
theorem dX11_holds_78 : decode cX11_holds 78 = .ok (.iconst 0, 1) := by decide +kernel
theorem dX11_holds_79 : decode cX11_holds 79 = .ok (.ireturn, 1) := by decide +kernel
theorem dX11_holds_80 : decode cX11_holds 80 = .ok (.iload_n 1, 1) := by decide +kernel
theorem dX11_holds_81 : decode cX11_holds 81 = .ok (.iload_n 2, 1) := by decide +kernel
theorem dX11_holds_82 : decode cX11_holds 82 = .ok (.if_icmp .le 7, 3) := by decide +kernel
theorem dX11_holds_85 : decode cX11_holds 85 = .ok (.iconst 1, 1) := by decide +kernel
theorem dX11_holds_86 : decode cX11_holds 86 = .ok (.goto 4, 3) := by decide +kernel
theorem dX11_holds_89 : decode cX11_holds 89 = .ok (.iconst 0, 1) := by decide +kernel
theorem dX11_holds_90 : decode cX11_holds 90 = .ok (.ireturn, 1) := by decide +kernel
theorem dX11_holds_91 : decode cX11_holds 91 = .ok (.iload_n 1, 1) := by decide +kernel
theorem dX11_holds_92 : decode cX11_holds 92 = .ok (.iload_n 2, 1) := by decide +kernel
theorem dX11_holds_93 : decode cX11_holds 93 = .ok (.if_icmp .lt 7, 3) := by decide +kernel
theorem dX11_holds_96 : decode cX11_holds 96 = .ok (.iconst 1, 1) := by decide +kernel
theorem dX11_holds_97 : decode cX11_holds 97 = .ok (.goto 4, 3) := by decide +kernel
theorem dX11_holds_100 : decode cX11_holds 100 = .ok (.iconst 0, 1) := by decide +kernel
theorem dX11_holds_101 : decode cX11_holds 101 = .ok (.ireturn, 1) := by decide +kernel
set_option maxHeartbeats 4000000 in
set_option maxRecDepth 100000 in
theorem t_holds (l : Launch) (d : gD) (b : Nat) (F : gM) (x y z : Int32) : gMi l d b yX11_holds cX11_holds 3 .boolean 0 0 0 F [.int x, .int y, .int z] (fun r F' => (r = 0 ∨ r = 1) ∧ F' = F) := by
  refine gM_of2 rfl (nL := 3) (Nat.le_of_ble_eq_true rfl) ?_
  intro X hX hC; subst hX
  show gG X d b _ F 0 0 0 [some (.int x), some (.int y), some (.int z)] []
  refine g_iload_n hC dX11_holds_0 rfl ?_
  have T1 : gG X d b (MQ X.be (va_Qi (fun r F' => (r = 0 ∨ r = 1) ∧ F' = F) (gB d b) (fun q => b ≤ q)) X.ar X.st 0 0 (fun q => b ≤ q)) F 0 0 36 [some (.int x), some (.int y), some (.int z)] [] := by
    refine g_iload_n hC dX11_holds_36 rfl ?_
    refine g_iload_n hC dX11_holds_37 rfl ?_
    refine g_icmp_ne (tgt := 45) hC dX11_holds_38 (by decide) (fun c2 => ?_) (fun c2 => ?_)
    · refine g_iconst (v := 0) hC dX11_holds_45 rfl ?_
      exact g_iret hC (gnb (Or.inl rfl)) ⟨Or.inl rfl, rfl⟩ (Nat.le_refl _) (Nat.le_refl _) dX11_holds_46
    · refine g_iconst (v := 1) hC dX11_holds_41 rfl ?_
      refine g_goto (tgt := 46) hC dX11_holds_42 (by decide) ?_
      exact g_iret hC (gnb (Or.inr rfl)) ⟨Or.inr rfl, rfl⟩ (Nat.le_refl _) (Nat.le_refl _) dX11_holds_46
  have T3 : gG X d b (MQ X.be (va_Qi (fun r F' => (r = 0 ∨ r = 1) ∧ F' = F) (gB d b) (fun q => b ≤ q)) X.ar X.st 0 0 (fun q => b ≤ q)) F 0 0 47 [some (.int x), some (.int y), some (.int z)] [] := by
    refine g_iload_n hC dX11_holds_47 rfl ?_
    refine g_iload_n hC dX11_holds_48 rfl ?_
    refine g_icmp_eq (tgt := 56) hC dX11_holds_49 (by decide) (fun c4 => ?_) (fun c4 => ?_)
    · refine g_iconst (v := 0) hC dX11_holds_56 rfl ?_
      exact g_iret hC (gnb (Or.inl rfl)) ⟨Or.inl rfl, rfl⟩ (Nat.le_refl _) (Nat.le_refl _) dX11_holds_57
    · refine g_iconst (v := 1) hC dX11_holds_52 rfl ?_
      refine g_goto (tgt := 57) hC dX11_holds_53 (by decide) ?_
      exact g_iret hC (gnb (Or.inr rfl)) ⟨Or.inr rfl, rfl⟩ (Nat.le_refl _) (Nat.le_refl _) dX11_holds_57
  have T5 : gG X d b (MQ X.be (va_Qi (fun r F' => (r = 0 ∨ r = 1) ∧ F' = F) (gB d b) (fun q => b ≤ q)) X.ar X.st 0 0 (fun q => b ≤ q)) F 0 0 58 [some (.int x), some (.int y), some (.int z)] [] := by
    refine g_iload_n hC dX11_holds_58 rfl ?_
    refine g_iload_n hC dX11_holds_59 rfl ?_
    refine g_icmp_ge (tgt := 67) hC dX11_holds_60 (by decide) (fun c6 => ?_) (fun c6 => ?_)
    · refine g_iconst (v := 0) hC dX11_holds_67 rfl ?_
      exact g_iret hC (gnb (Or.inl rfl)) ⟨Or.inl rfl, rfl⟩ (Nat.le_refl _) (Nat.le_refl _) dX11_holds_68
    · refine g_iconst (v := 1) hC dX11_holds_63 rfl ?_
      refine g_goto (tgt := 68) hC dX11_holds_64 (by decide) ?_
      exact g_iret hC (gnb (Or.inr rfl)) ⟨Or.inr rfl, rfl⟩ (Nat.le_refl _) (Nat.le_refl _) dX11_holds_68
  have T7 : gG X d b (MQ X.be (va_Qi (fun r F' => (r = 0 ∨ r = 1) ∧ F' = F) (gB d b) (fun q => b ≤ q)) X.ar X.st 0 0 (fun q => b ≤ q)) F 0 0 69 [some (.int x), some (.int y), some (.int z)] [] := by
    refine g_iload_n hC dX11_holds_69 rfl ?_
    refine g_iload_n hC dX11_holds_70 rfl ?_
    refine g_icmp_gt (tgt := 78) hC dX11_holds_71 (by decide) (fun c8 => ?_) (fun c8 => ?_)
    · refine g_iconst (v := 0) hC dX11_holds_78 rfl ?_
      exact g_iret hC (gnb (Or.inl rfl)) ⟨Or.inl rfl, rfl⟩ (Nat.le_refl _) (Nat.le_refl _) dX11_holds_79
    · refine g_iconst (v := 1) hC dX11_holds_74 rfl ?_
      refine g_goto (tgt := 79) hC dX11_holds_75 (by decide) ?_
      exact g_iret hC (gnb (Or.inr rfl)) ⟨Or.inr rfl, rfl⟩ (Nat.le_refl _) (Nat.le_refl _) dX11_holds_79
  have T9 : gG X d b (MQ X.be (va_Qi (fun r F' => (r = 0 ∨ r = 1) ∧ F' = F) (gB d b) (fun q => b ≤ q)) X.ar X.st 0 0 (fun q => b ≤ q)) F 0 0 80 [some (.int x), some (.int y), some (.int z)] [] := by
    refine g_iload_n hC dX11_holds_80 rfl ?_
    refine g_iload_n hC dX11_holds_81 rfl ?_
    refine g_icmp_le (tgt := 89) hC dX11_holds_82 (by decide) (fun c10 => ?_) (fun c10 => ?_)
    · refine g_iconst (v := 0) hC dX11_holds_89 rfl ?_
      exact g_iret hC (gnb (Or.inl rfl)) ⟨Or.inl rfl, rfl⟩ (Nat.le_refl _) (Nat.le_refl _) dX11_holds_90
    · refine g_iconst (v := 1) hC dX11_holds_85 rfl ?_
      refine g_goto (tgt := 90) hC dX11_holds_86 (by decide) ?_
      exact g_iret hC (gnb (Or.inr rfl)) ⟨Or.inr rfl, rfl⟩ (Nat.le_refl _) (Nat.le_refl _) dX11_holds_90
  have T11 : gG X d b (MQ X.be (va_Qi (fun r F' => (r = 0 ∨ r = 1) ∧ F' = F) (gB d b) (fun q => b ≤ q)) X.ar X.st 0 0 (fun q => b ≤ q)) F 0 0 91 [some (.int x), some (.int y), some (.int z)] [] := by
    refine g_iload_n hC dX11_holds_91 rfl ?_
    refine g_iload_n hC dX11_holds_92 rfl ?_
    refine g_icmp_lt (tgt := 100) hC dX11_holds_93 (by decide) (fun c12 => ?_) (fun c12 => ?_)
    · refine g_iconst (v := 0) hC dX11_holds_100 rfl ?_
      exact g_iret hC (gnb (Or.inl rfl)) ⟨Or.inl rfl, rfl⟩ (Nat.le_refl _) (Nat.le_refl _) dX11_holds_101
    · refine g_iconst (v := 1) hC dX11_holds_96 rfl ?_
      refine g_goto (tgt := 101) hC dX11_holds_97 (by decide) ?_
      exact g_iret hC (gnb (Or.inr rfl)) ⟨Or.inr rfl, rfl⟩ (Nat.le_refl _) (Nat.le_refl _) dX11_holds_101
  exact g_tsw hC dX11_holds_1 (by decide) (fun tgt ht => (by obtain rfl : tgt = 91 := (by omega); exact T11)) (by decide) (by decide) (List.forall_mem_cons.mpr ⟨fun (tgt : Nat) (ht : ((1 : Nat) : Int) + (35 : Int) = (tgt : Int)) => (by obtain rfl : tgt = 36 := (by omega); exact T1), List.forall_mem_cons.mpr ⟨fun (tgt : Nat) (ht : ((1 : Nat) : Int) + (46 : Int) = (tgt : Int)) => (by obtain rfl : tgt = 47 := (by omega); exact T3), List.forall_mem_cons.mpr ⟨fun (tgt : Nat) (ht : ((1 : Nat) : Int) + (57 : Int) = (tgt : Int)) => (by obtain rfl : tgt = 58 := (by omega); exact T5), List.forall_mem_cons.mpr ⟨fun (tgt : Nat) (ht : ((1 : Nat) : Int) + (68 : Int) = (tgt : Int)) => (by obtain rfl : tgt = 69 := (by omega); exact T7), List.forall_mem_cons.mpr ⟨fun (tgt : Nat) (ht : ((1 : Nat) : Int) + (79 : Int) = (tgt : Int)) => (by obtain rfl : tgt = 80 := (by omega); exact T9), fun _ h => nomatch h⟩⟩⟩⟩⟩)
theorem dX11_power_0 : decode cX11_power 0 = .ok (.iload_n 0, 1) := by decide +kernel
theorem dX11_power_1 : decode cX11_power 1 = .ok (.lookupswitch 113 #[(16, 107), (17, 107), (18, 110), (19, 110), (26, 105), (27, 105), (29, 103), (30, 101), (70, 99), (71, 99), (72, 110)], 99) := by decide +kernel
theorem dX11_power_100 : decode cX11_power 100 = .ok (.iconst 1, 1) := by decide +kernel
theorem dX11_power_101 : decode cX11_power 101 = .ok (.ireturn, 1) := by decide +kernel
theorem dX11_power_102 : decode cX11_power 102 = .ok (.iconst 2, 1) := by decide +kernel
theorem dX11_power_103 : decode cX11_power 103 = .ok (.ireturn, 1) := by decide +kernel
theorem dX11_power_104 : decode cX11_power 104 = .ok (.iconst 3, 1) := by decide +kernel
theorem dX11_power_105 : decode cX11_power 105 = .ok (.ireturn, 1) := by decide +kernel
theorem dX11_power_106 : decode cX11_power 106 = .ok (.iconst 4, 1) := by decide +kernel
theorem dX11_power_107 : decode cX11_power 107 = .ok (.ireturn, 1) := by decide +kernel
theorem dX11_power_108 : decode cX11_power 108 = .ok (.bipush 6, 2) := by decide +kernel
theorem dX11_power_110 : decode cX11_power 110 = .ok (.ireturn, 1) := by decide +kernel
theorem dX11_power_111 : decode cX11_power 111 = .ok (.bipush 7, 2) := by decide +kernel
theorem dX11_power_113 : decode cX11_power 113 = .ok (.ireturn, 1) := by decide +kernel
theorem dX11_power_114 : decode cX11_power 114 = .ok (.iload_n 0, 1) := by decide +kernel
theorem dX11_power_115 : decode cX11_power 115 = .ok (.invokestatic 160, 3) := by decide +kernel
theorem dX11_power_118 : decode cX11_power 118 = .ok (.ifCond .eq 7, 3) := by decide +kernel
theorem dX11_power_121 : decode cX11_power 121 = .ok (.iconst 5, 1) := by decide +kernel
theorem dX11_power_122 : decode cX11_power 122 = .ok (.goto 4, 3) := by decide +kernel
theorem dX11_power_125 : decode cX11_power 125 = .ok (.iconst 0, 1) := by decide +kernel
theorem dX11_power_126 : decode cX11_power 126 = .ok (.ireturn, 1) := by decide +kernel
set_option maxHeartbeats 4000000 in
set_option maxRecDepth 100000 in
theorem t_power (l : Launch) (d : gD) (b : Nat) (F : gM) (x : Int32) : gMi l d b yX11_power cX11_power 1 .int 2 0 0 F [.int x] (fun r F' => True ∧ F' = F) := by
  refine gM_of2 rfl (nL := 1) (Nat.le_of_ble_eq_true rfl) ?_
  intro X hX hC; subst hX
  show gG X d b _ F 0 0 0 [some (.int x)] []
  refine g_iload_n hC dX11_power_0 rfl ?_
  have T1 : gG X d b (MQ X.be (va_Qi (fun r F' => True ∧ F' = F) (gB d b) (fun q => b ≤ q)) X.ar X.st 0 0 (fun q => b ≤ q)) F 0 0 100 [some (.int x)] [] := by
    refine g_iconst (v := 1) hC dX11_power_100 rfl ?_
    exact g_iret hC rfl ⟨trivial, rfl⟩ (Nat.le_refl _) (Nat.le_refl _) dX11_power_101
  have T2 : gG X d b (MQ X.be (va_Qi (fun r F' => True ∧ F' = F) (gB d b) (fun q => b ≤ q)) X.ar X.st 0 0 (fun q => b ≤ q)) F 0 0 102 [some (.int x)] [] := by
    refine g_iconst (v := 2) hC dX11_power_102 rfl ?_
    exact g_iret hC rfl ⟨trivial, rfl⟩ (Nat.le_refl _) (Nat.le_refl _) dX11_power_103
  have T3 : gG X d b (MQ X.be (va_Qi (fun r F' => True ∧ F' = F) (gB d b) (fun q => b ≤ q)) X.ar X.st 0 0 (fun q => b ≤ q)) F 0 0 104 [some (.int x)] [] := by
    refine g_iconst (v := 3) hC dX11_power_104 rfl ?_
    exact g_iret hC rfl ⟨trivial, rfl⟩ (Nat.le_refl _) (Nat.le_refl _) dX11_power_105
  have T4 : gG X d b (MQ X.be (va_Qi (fun r F' => True ∧ F' = F) (gB d b) (fun q => b ≤ q)) X.ar X.st 0 0 (fun q => b ≤ q)) F 0 0 106 [some (.int x)] [] := by
    refine g_iconst (v := 4) hC dX11_power_106 rfl ?_
    exact g_iret hC rfl ⟨trivial, rfl⟩ (Nat.le_refl _) (Nat.le_refl _) dX11_power_107
  have T5 : gG X d b (MQ X.be (va_Qi (fun r F' => True ∧ F' = F) (gB d b) (fun q => b ≤ q)) X.ar X.st 0 0 (fun q => b ≤ q)) F 0 0 108 [some (.int x)] [] := by
    refine g_bipush (v := 6) hC dX11_power_108 rfl ?_
    exact g_iret hC rfl ⟨trivial, rfl⟩ (Nat.le_refl _) (Nat.le_refl _) dX11_power_110
  have T6 : gG X d b (MQ X.be (va_Qi (fun r F' => True ∧ F' = F) (gB d b) (fun q => b ≤ q)) X.ar X.st 0 0 (fun q => b ≤ q)) F 0 0 111 [some (.int x)] [] := by
    refine g_bipush (v := 7) hC dX11_power_111 rfl ?_
    exact g_iret hC rfl ⟨trivial, rfl⟩ (Nat.le_refl _) (Nat.le_refl _) dX11_power_113
  have T7 : gG X d b (MQ X.be (va_Qi (fun r F' => True ∧ F' = F) (gB d b) (fun q => b ≤ q)) X.ar X.st 0 0 (fun q => b ≤ q)) F 0 0 114 [some (.int x)] [] := by
    refine g_iload_n hC dX11_power_114 rfl ?_
    refine g_callSi (As := [.int x]) hC (t_isRelation X.la d b F x) cl_X11_160 rfl rfl (Nat.le_of_ble_eq_true rfl) (gFit_of (Nat.le_of_ble_eq_true rfl) (Nat.le_of_ble_eq_true rfl) (Nat.le_refl _) (Nat.le_refl _)) dX11_power_115 (fun r8 F9 p10 => ?_)
    obtain ⟨er8, eF9⟩ := p10; have eF9 := eF9.symm; subst eF9
    refine g_if_eq (tgt := 125) hC dX11_power_118 (by decide) (fun c11 => ?_) (fun c11 => ?_)
    · refine g_iconst (v := 0) hC dX11_power_125 rfl ?_
      exact g_iret hC rfl ⟨trivial, rfl⟩ (Nat.le_refl _) (Nat.le_refl _) dX11_power_126
    · refine g_iconst (v := 5) hC dX11_power_121 rfl ?_
      refine g_goto (tgt := 126) hC dX11_power_122 (by decide) ?_
      exact g_iret hC rfl ⟨trivial, rfl⟩ (Nat.le_refl _) (Nat.le_refl _) dX11_power_126
  exact g_lsw hC dX11_power_1 (by decide) (by decide) (by decide) (fun tgt ht => (by obtain rfl : tgt = 114 := (by omega); exact T7)) (List.forall_mem_cons.mpr ⟨fun (tgt : Nat) (ht : ((1 : Nat) : Int) + (107 : Int) = (tgt : Int)) => (by obtain rfl : tgt = 108 := (by omega); exact T5), List.forall_mem_cons.mpr ⟨fun (tgt : Nat) (ht : ((1 : Nat) : Int) + (107 : Int) = (tgt : Int)) => (by obtain rfl : tgt = 108 := (by omega); exact T5), List.forall_mem_cons.mpr ⟨fun (tgt : Nat) (ht : ((1 : Nat) : Int) + (110 : Int) = (tgt : Int)) => (by obtain rfl : tgt = 111 := (by omega); exact T6), List.forall_mem_cons.mpr ⟨fun (tgt : Nat) (ht : ((1 : Nat) : Int) + (110 : Int) = (tgt : Int)) => (by obtain rfl : tgt = 111 := (by omega); exact T6), List.forall_mem_cons.mpr ⟨fun (tgt : Nat) (ht : ((1 : Nat) : Int) + (105 : Int) = (tgt : Int)) => (by obtain rfl : tgt = 106 := (by omega); exact T4), List.forall_mem_cons.mpr ⟨fun (tgt : Nat) (ht : ((1 : Nat) : Int) + (105 : Int) = (tgt : Int)) => (by obtain rfl : tgt = 106 := (by omega); exact T4), List.forall_mem_cons.mpr ⟨fun (tgt : Nat) (ht : ((1 : Nat) : Int) + (103 : Int) = (tgt : Int)) => (by obtain rfl : tgt = 104 := (by omega); exact T3), List.forall_mem_cons.mpr ⟨fun (tgt : Nat) (ht : ((1 : Nat) : Int) + (101 : Int) = (tgt : Int)) => (by obtain rfl : tgt = 102 := (by omega); exact T2), List.forall_mem_cons.mpr ⟨fun (tgt : Nat) (ht : ((1 : Nat) : Int) + (99 : Int) = (tgt : Int)) => (by obtain rfl : tgt = 100 := (by omega); exact T1), List.forall_mem_cons.mpr ⟨fun (tgt : Nat) (ht : ((1 : Nat) : Int) + (99 : Int) = (tgt : Int)) => (by obtain rfl : tgt = 100 := (by omega); exact T1), List.forall_mem_cons.mpr ⟨fun (tgt : Nat) (ht : ((1 : Nat) : Int) + (110 : Int) = (tgt : Int)) => (by obtain rfl : tgt = 111 := (by omega); exact T6), fun _ h => nomatch h⟩⟩⟩⟩⟩⟩⟩⟩⟩⟩⟩)
theorem dX11_worked_0 : decode cX11_worked 0 = .ok (.iload_n 0, 1) := by decide +kernel
theorem dX11_worked_1 : decode cX11_worked 1 = .ok (.lookupswitch 177 #[(16, 91), (17, 95), (18, 99), (19, 103), (26, 127), (27, 145), (29, 163), (30, 167), (70, 171), (72, 115)], 91) := by decide +kernel
theorem dX11_worked_92 : decode cX11_worked 92 = .ok (.iload_n 1, 1) := by decide +kernel
theorem dX11_worked_93 : decode cX11_worked 93 = .ok (.iload_n 2, 1) := by decide +kernel
theorem dX11_worked_94 : decode cX11_worked 94 = .ok (.iadd, 1) := by decide +kernel
theorem dX11_worked_95 : decode cX11_worked 95 = .ok (.ireturn, 1) := by decide +kernel
theorem dX11_worked_96 : decode cX11_worked 96 = .ok (.iload_n 1, 1) := by decide +kernel
theorem dX11_worked_97 : decode cX11_worked 97 = .ok (.iload_n 2, 1) := by decide +kernel
theorem dX11_worked_98 : decode cX11_worked 98 = .ok (.isub, 1) := by decide +kernel
theorem dX11_worked_99 : decode cX11_worked 99 = .ok (.ireturn, 1) := by decide +kernel
theorem dX11_worked_100 : decode cX11_worked 100 = .ok (.iload_n 1, 1) := by decide +kernel
theorem dX11_worked_101 : decode cX11_worked 101 = .ok (.iload_n 2, 1) := by decide +kernel
theorem dX11_worked_102 : decode cX11_worked 102 = .ok (.imul, 1) := by decide +kernel
theorem dX11_worked_103 : decode cX11_worked 103 = .ok (.ireturn, 1) := by decide +kernel
theorem dX11_worked_104 : decode cX11_worked 104 = .ok (.iload_n 2, 1) := by decide +kernel
theorem dX11_worked_105 : decode cX11_worked 105 = .ok (.ifCond .ne 7, 3) := by decide +kernel
theorem dX11_worked_108 : decode cX11_worked 108 = .ok (.iconst 0, 1) := by decide +kernel
theorem dX11_worked_109 : decode cX11_worked 109 = .ok (.goto 6, 3) := by decide +kernel
theorem dX11_worked_112 : decode cX11_worked 112 = .ok (.iload_n 1, 1) := by decide +kernel
theorem dX11_worked_113 : decode cX11_worked 113 = .ok (.iload_n 2, 1) := by decide +kernel
theorem dX11_worked_114 : decode cX11_worked 114 = .ok (.idiv, 1) := by decide +kernel
theorem dX11_worked_115 : decode cX11_worked 115 = .ok (.ireturn, 1) := by decide +kernel
theorem dX11_worked_116 : decode cX11_worked 116 = .ok (.iload_n 2, 1) := by decide +kernel
theorem dX11_worked_117 : decode cX11_worked 117 = .ok (.ifCond .ne 7, 3) := by decide +kernel
theorem dX11_worked_120 : decode cX11_worked 120 = .ok (.iconst 0, 1) := by decide +kernel
theorem dX11_worked_121 : decode cX11_worked 121 = .ok (.goto 6, 3) := by decide +kernel
theorem dX11_worked_124 : decode cX11_worked 124 = .ok (.iload_n 1, 1) := by decide +kernel
theorem dX11_worked_125 : decode cX11_worked 125 = .ok (.iload_n 2, 1) := by decide +kernel
theorem dX11_worked_126 : decode cX11_worked 126 = .ok (.irem, 1) := by decide +kernel
theorem dX11_worked_127 : decode cX11_worked 127 = .ok (.ireturn, 1) := by decide +kernel
theorem dX11_worked_128 : decode cX11_worked 128 = .ok (.iload_n 2, 1) := by decide +kernel
theorem dX11_worked_129 : decode cX11_worked 129 = .ok (.ifCond .lt 9, 3) := by decide +kernel
theorem dX11_worked_132 : decode cX11_worked 132 = .ok (.iload_n 2, 1) := by decide +kernel
theorem dX11_worked_133 : decode cX11_worked 133 = .ok (.bipush 31, 2) := by decide +kernel
theorem dX11_worked_135 : decode cX11_worked 135 = .ok (.if_icmp .le 7, 3) := by decide +kernel
theorem dX11_worked_138 : decode cX11_worked 138 = .ok (.iconst 0, 1) := by decide +kernel
theorem dX11_worked_139 : decode cX11_worked 139 = .ok (.goto 6, 3) := by decide +kernel
theorem dX11_worked_142 : decode cX11_worked 142 = .ok (.iload_n 1, 1) := by decide +kernel
theorem dX11_worked_143 : decode cX11_worked 143 = .ok (.iload_n 2, 1) := by decide +kernel
theorem dX11_worked_144 : decode cX11_worked 144 = .ok (.ishl, 1) := by decide +kernel
theorem dX11_worked_145 : decode cX11_worked 145 = .ok (.ireturn, 1) := by decide +kernel
theorem dX11_worked_146 : decode cX11_worked 146 = .ok (.iload_n 2, 1) := by decide +kernel
theorem dX11_worked_147 : decode cX11_worked 147 = .ok (.ifCond .lt 9, 3) := by decide +kernel
theorem dX11_worked_150 : decode cX11_worked 150 = .ok (.iload_n 2, 1) := by decide +kernel
theorem dX11_worked_151 : decode cX11_worked 151 = .ok (.bipush 31, 2) := by decide +kernel
theorem dX11_worked_153 : decode cX11_worked 153 = .ok (.if_icmp .le 7, 3) := by decide +kernel
theorem dX11_worked_156 : decode cX11_worked 156 = .ok (.iconst 0, 1) := by decide +kernel
theorem dX11_worked_157 : decode cX11_worked 157 = .ok (.goto 6, 3) := by decide +kernel
theorem dX11_worked_160 : decode cX11_worked 160 = .ok (.iload_n 1, 1) := by decide +kernel
theorem dX11_worked_161 : decode cX11_worked 161 = .ok (.iload_n 2, 1) := by decide +kernel
theorem dX11_worked_162 : decode cX11_worked 162 = .ok (.iushr, 1) := by decide +kernel
theorem dX11_worked_163 : decode cX11_worked 163 = .ok (.ireturn, 1) := by decide +kernel
theorem dX11_worked_164 : decode cX11_worked 164 = .ok (.iload_n 1, 1) := by decide +kernel
theorem dX11_worked_165 : decode cX11_worked 165 = .ok (.iload_n 2, 1) := by decide +kernel
theorem dX11_worked_166 : decode cX11_worked 166 = .ok (.iand, 1) := by decide +kernel
theorem dX11_worked_167 : decode cX11_worked 167 = .ok (.ireturn, 1) := by decide +kernel
theorem dX11_worked_168 : decode cX11_worked 168 = .ok (.iload_n 1, 1) := by decide +kernel
theorem dX11_worked_169 : decode cX11_worked 169 = .ok (.iload_n 2, 1) := by decide +kernel
theorem dX11_worked_170 : decode cX11_worked 170 = .ok (.ior, 1) := by decide +kernel
theorem dX11_worked_171 : decode cX11_worked 171 = .ok (.ireturn, 1) := by decide +kernel
theorem dX11_worked_172 : decode cX11_worked 172 = .ok (.iload_n 1, 1) := by decide +kernel
theorem dX11_worked_173 : decode cX11_worked 173 = .ok (.iload_n 2, 1) := by decide +kernel
theorem dX11_worked_174 : decode cX11_worked 174 = .ok (.ixor, 1) := by decide +kernel
theorem dX11_worked_175 : decode cX11_worked 175 = .ok (.iconst (-1), 1) := by decide +kernel
theorem dX11_worked_176 : decode cX11_worked 176 = .ok (.ixor, 1) := by decide +kernel
theorem dX11_worked_177 : decode cX11_worked 177 = .ok (.ireturn, 1) := by decide +kernel
theorem dX11_worked_178 : decode cX11_worked 178 = .ok (.iload_n 1, 1) := by decide +kernel
theorem dX11_worked_179 : decode cX11_worked 179 = .ok (.iload_n 2, 1) := by decide +kernel
theorem dX11_worked_180 : decode cX11_worked 180 = .ok (.ixor, 1) := by decide +kernel
theorem dX11_worked_181 : decode cX11_worked 181 = .ok (.ireturn, 1) := by decide +kernel
set_option maxHeartbeats 4000000 in
set_option maxRecDepth 100000 in
theorem t_worked (l : Launch) (d : gD) (b : Nat) (F : gM) (x y z : Int32) : gMi l d b yX11_worked cX11_worked 3 .int 0 0 0 F [.int x, .int y, .int z] (fun r F' => True ∧ F' = F) := by
  refine gM_of2 rfl (nL := 3) (Nat.le_of_ble_eq_true rfl) ?_
  intro X hX hC; subst hX
  show gG X d b _ F 0 0 0 [some (.int x), some (.int y), some (.int z)] []
  refine g_iload_n hC dX11_worked_0 rfl ?_
  have T1 : gG X d b (MQ X.be (va_Qi (fun r F' => True ∧ F' = F) (gB d b) (fun q => b ≤ q)) X.ar X.st 0 0 (fun q => b ≤ q)) F 0 0 92 [some (.int x), some (.int y), some (.int z)] [] := by
    refine g_iload_n hC dX11_worked_92 rfl ?_
    refine g_iload_n hC dX11_worked_93 rfl ?_
    refine g_iadd hC dX11_worked_94 ?_
    refine g_vi (fun x2 ex2 => ?_)
    exact g_iret hC rfl ⟨trivial, rfl⟩ (Nat.le_refl _) (Nat.le_refl _) dX11_worked_95
  have T3 : gG X d b (MQ X.be (va_Qi (fun r F' => True ∧ F' = F) (gB d b) (fun q => b ≤ q)) X.ar X.st 0 0 (fun q => b ≤ q)) F 0 0 96 [some (.int x), some (.int y), some (.int z)] [] := by
    refine g_iload_n hC dX11_worked_96 rfl ?_
    refine g_iload_n hC dX11_worked_97 rfl ?_
    refine g_isub hC dX11_worked_98 ?_
    refine g_vi (fun x4 ex4 => ?_)
    exact g_iret hC rfl ⟨trivial, rfl⟩ (Nat.le_refl _) (Nat.le_refl _) dX11_worked_99
  have T5 : gG X d b (MQ X.be (va_Qi (fun r F' => True ∧ F' = F) (gB d b) (fun q => b ≤ q)) X.ar X.st 0 0 (fun q => b ≤ q)) F 0 0 100 [some (.int x), some (.int y), some (.int z)] [] := by
    refine g_iload_n hC dX11_worked_100 rfl ?_
    refine g_iload_n hC dX11_worked_101 rfl ?_
    refine g_imul hC dX11_worked_102 ?_
    refine g_vi (fun x6 ex6 => ?_)
    exact g_iret hC rfl ⟨trivial, rfl⟩ (Nat.le_refl _) (Nat.le_refl _) dX11_worked_103
  have T7 : gG X d b (MQ X.be (va_Qi (fun r F' => True ∧ F' = F) (gB d b) (fun q => b ≤ q)) X.ar X.st 0 0 (fun q => b ≤ q)) F 0 0 104 [some (.int x), some (.int y), some (.int z)] [] := by
    refine g_iload_n hC dX11_worked_104 rfl ?_
    refine g_if_ne (tgt := 112) hC dX11_worked_105 (by decide) (fun c8 => ?_) (fun c8 => ?_)
    · refine g_iload_n hC dX11_worked_112 rfl ?_
      refine g_iload_n hC dX11_worked_113 rfl ?_
      refine g_idiv hC dX11_worked_114 c8 ?_
      refine g_vi (fun x9 ex9 => ?_)
      exact g_iret hC rfl ⟨trivial, rfl⟩ (Nat.le_refl _) (Nat.le_refl _) dX11_worked_115
    · refine g_iconst (v := 0) hC dX11_worked_108 rfl ?_
      refine g_goto (tgt := 115) hC dX11_worked_109 (by decide) ?_
      exact g_iret hC rfl ⟨trivial, rfl⟩ (Nat.le_refl _) (Nat.le_refl _) dX11_worked_115
  have T10 : gG X d b (MQ X.be (va_Qi (fun r F' => True ∧ F' = F) (gB d b) (fun q => b ≤ q)) X.ar X.st 0 0 (fun q => b ≤ q)) F 0 0 116 [some (.int x), some (.int y), some (.int z)] [] := by
    refine g_iload_n hC dX11_worked_116 rfl ?_
    refine g_if_ne (tgt := 124) hC dX11_worked_117 (by decide) (fun c11 => ?_) (fun c11 => ?_)
    · refine g_iload_n hC dX11_worked_124 rfl ?_
      refine g_iload_n hC dX11_worked_125 rfl ?_
      refine g_irem hC dX11_worked_126 c11 ?_
      refine g_vi (fun x12 ex12 => ?_)
      exact g_iret hC rfl ⟨trivial, rfl⟩ (Nat.le_refl _) (Nat.le_refl _) dX11_worked_127
    · refine g_iconst (v := 0) hC dX11_worked_120 rfl ?_
      refine g_goto (tgt := 127) hC dX11_worked_121 (by decide) ?_
      exact g_iret hC rfl ⟨trivial, rfl⟩ (Nat.le_refl _) (Nat.le_refl _) dX11_worked_127
  have T13 : gG X d b (MQ X.be (va_Qi (fun r F' => True ∧ F' = F) (gB d b) (fun q => b ≤ q)) X.ar X.st 0 0 (fun q => b ≤ q)) F 0 0 128 [some (.int x), some (.int y), some (.int z)] [] := by
    refine g_iload_n hC dX11_worked_128 rfl ?_
    refine g_if_lt (tgt := 138) hC dX11_worked_129 (by decide) (fun c14 => ?_) (fun c14 => ?_)
    · refine g_iconst (v := 0) hC dX11_worked_138 rfl ?_
      refine g_goto (tgt := 145) hC dX11_worked_139 (by decide) ?_
      exact g_iret hC rfl ⟨trivial, rfl⟩ (Nat.le_refl _) (Nat.le_refl _) dX11_worked_145
    · refine g_iload_n hC dX11_worked_132 rfl ?_
      refine g_bipush (v := 31) hC dX11_worked_133 rfl ?_
      refine g_icmp_le (tgt := 142) hC dX11_worked_135 (by decide) (fun c15 => ?_) (fun c15 => ?_)
      · refine g_iload_n hC dX11_worked_142 rfl ?_
        refine g_iload_n hC dX11_worked_143 rfl ?_
        refine g_ishl hC dX11_worked_144 ?_
        refine g_vi (fun x16 ex16 => ?_)
        exact g_iret hC rfl ⟨trivial, rfl⟩ (Nat.le_refl _) (Nat.le_refl _) dX11_worked_145
      · refine g_iconst (v := 0) hC dX11_worked_138 rfl ?_
        refine g_goto (tgt := 145) hC dX11_worked_139 (by decide) ?_
        exact g_iret hC rfl ⟨trivial, rfl⟩ (Nat.le_refl _) (Nat.le_refl _) dX11_worked_145
  have T17 : gG X d b (MQ X.be (va_Qi (fun r F' => True ∧ F' = F) (gB d b) (fun q => b ≤ q)) X.ar X.st 0 0 (fun q => b ≤ q)) F 0 0 146 [some (.int x), some (.int y), some (.int z)] [] := by
    refine g_iload_n hC dX11_worked_146 rfl ?_
    refine g_if_lt (tgt := 156) hC dX11_worked_147 (by decide) (fun c18 => ?_) (fun c18 => ?_)
    · refine g_iconst (v := 0) hC dX11_worked_156 rfl ?_
      refine g_goto (tgt := 163) hC dX11_worked_157 (by decide) ?_
      exact g_iret hC rfl ⟨trivial, rfl⟩ (Nat.le_refl _) (Nat.le_refl _) dX11_worked_163
    · refine g_iload_n hC dX11_worked_150 rfl ?_
      refine g_bipush (v := 31) hC dX11_worked_151 rfl ?_
      refine g_icmp_le (tgt := 160) hC dX11_worked_153 (by decide) (fun c19 => ?_) (fun c19 => ?_)
      · refine g_iload_n hC dX11_worked_160 rfl ?_
        refine g_iload_n hC dX11_worked_161 rfl ?_
        refine g_iushr hC dX11_worked_162 ?_
        refine g_vi (fun x20 ex20 => ?_)
        exact g_iret hC rfl ⟨trivial, rfl⟩ (Nat.le_refl _) (Nat.le_refl _) dX11_worked_163
      · refine g_iconst (v := 0) hC dX11_worked_156 rfl ?_
        refine g_goto (tgt := 163) hC dX11_worked_157 (by decide) ?_
        exact g_iret hC rfl ⟨trivial, rfl⟩ (Nat.le_refl _) (Nat.le_refl _) dX11_worked_163
  have T21 : gG X d b (MQ X.be (va_Qi (fun r F' => True ∧ F' = F) (gB d b) (fun q => b ≤ q)) X.ar X.st 0 0 (fun q => b ≤ q)) F 0 0 164 [some (.int x), some (.int y), some (.int z)] [] := by
    refine g_iload_n hC dX11_worked_164 rfl ?_
    refine g_iload_n hC dX11_worked_165 rfl ?_
    refine g_iand hC dX11_worked_166 ?_
    refine g_vi (fun x22 ex22 => ?_)
    exact g_iret hC rfl ⟨trivial, rfl⟩ (Nat.le_refl _) (Nat.le_refl _) dX11_worked_167
  have T23 : gG X d b (MQ X.be (va_Qi (fun r F' => True ∧ F' = F) (gB d b) (fun q => b ≤ q)) X.ar X.st 0 0 (fun q => b ≤ q)) F 0 0 168 [some (.int x), some (.int y), some (.int z)] [] := by
    refine g_iload_n hC dX11_worked_168 rfl ?_
    refine g_iload_n hC dX11_worked_169 rfl ?_
    refine g_ior hC dX11_worked_170 ?_
    refine g_vi (fun x24 ex24 => ?_)
    exact g_iret hC rfl ⟨trivial, rfl⟩ (Nat.le_refl _) (Nat.le_refl _) dX11_worked_171
  have T25 : gG X d b (MQ X.be (va_Qi (fun r F' => True ∧ F' = F) (gB d b) (fun q => b ≤ q)) X.ar X.st 0 0 (fun q => b ≤ q)) F 0 0 172 [some (.int x), some (.int y), some (.int z)] [] := by
    refine g_iload_n hC dX11_worked_172 rfl ?_
    refine g_iload_n hC dX11_worked_173 rfl ?_
    refine g_ixor hC dX11_worked_174 ?_
    refine g_vi (fun x26 ex26 => ?_)
    refine g_iconst (v := (-1)) hC dX11_worked_175 rfl ?_
    refine g_ixor hC dX11_worked_176 ?_
    refine g_vi (fun x27 ex27 => ?_)
    exact g_iret hC rfl ⟨trivial, rfl⟩ (Nat.le_refl _) (Nat.le_refl _) dX11_worked_177
  have T28 : gG X d b (MQ X.be (va_Qi (fun r F' => True ∧ F' = F) (gB d b) (fun q => b ≤ q)) X.ar X.st 0 0 (fun q => b ≤ q)) F 0 0 178 [some (.int x), some (.int y), some (.int z)] [] := by
    refine g_iload_n hC dX11_worked_178 rfl ?_
    refine g_iload_n hC dX11_worked_179 rfl ?_
    refine g_ixor hC dX11_worked_180 ?_
    refine g_vi (fun x29 ex29 => ?_)
    exact g_iret hC rfl ⟨trivial, rfl⟩ (Nat.le_refl _) (Nat.le_refl _) dX11_worked_181
  exact g_lsw hC dX11_worked_1 (by decide) (by decide) (by decide) (fun tgt ht => (by obtain rfl : tgt = 178 := (by omega); exact T28)) (List.forall_mem_cons.mpr ⟨fun (tgt : Nat) (ht : ((1 : Nat) : Int) + (91 : Int) = (tgt : Int)) => (by obtain rfl : tgt = 92 := (by omega); exact T1), List.forall_mem_cons.mpr ⟨fun (tgt : Nat) (ht : ((1 : Nat) : Int) + (95 : Int) = (tgt : Int)) => (by obtain rfl : tgt = 96 := (by omega); exact T3), List.forall_mem_cons.mpr ⟨fun (tgt : Nat) (ht : ((1 : Nat) : Int) + (99 : Int) = (tgt : Int)) => (by obtain rfl : tgt = 100 := (by omega); exact T5), List.forall_mem_cons.mpr ⟨fun (tgt : Nat) (ht : ((1 : Nat) : Int) + (103 : Int) = (tgt : Int)) => (by obtain rfl : tgt = 104 := (by omega); exact T7), List.forall_mem_cons.mpr ⟨fun (tgt : Nat) (ht : ((1 : Nat) : Int) + (127 : Int) = (tgt : Int)) => (by obtain rfl : tgt = 128 := (by omega); exact T13), List.forall_mem_cons.mpr ⟨fun (tgt : Nat) (ht : ((1 : Nat) : Int) + (145 : Int) = (tgt : Int)) => (by obtain rfl : tgt = 146 := (by omega); exact T17), List.forall_mem_cons.mpr ⟨fun (tgt : Nat) (ht : ((1 : Nat) : Int) + (163 : Int) = (tgt : Int)) => (by obtain rfl : tgt = 164 := (by omega); exact T21), List.forall_mem_cons.mpr ⟨fun (tgt : Nat) (ht : ((1 : Nat) : Int) + (167 : Int) = (tgt : Int)) => (by obtain rfl : tgt = 168 := (by omega); exact T23), List.forall_mem_cons.mpr ⟨fun (tgt : Nat) (ht : ((1 : Nat) : Int) + (171 : Int) = (tgt : Int)) => (by obtain rfl : tgt = 172 := (by omega); exact T25), List.forall_mem_cons.mpr ⟨fun (tgt : Nat) (ht : ((1 : Nat) : Int) + (115 : Int) = (tgt : Int)) => (by obtain rfl : tgt = 116 := (by omega); exact T10), fun _ h => nomatch h⟩⟩⟩⟩⟩⟩⟩⟩⟩⟩)
theorem dX8_isLetter_0 : decode cX8_isLetter 0 = .ok (.iload_n 0, 1) := by decide +kernel
theorem dX8_isLetter_1 : decode cX8_isLetter 1 = .ok (.bipush 65, 2) := by decide +kernel
theorem dX8_isLetter_3 : decode cX8_isLetter 3 = .ok (.if_icmp .lt 9, 3) := by decide +kernel
theorem dX8_isLetter_6 : decode cX8_isLetter 6 = .ok (.iload_n 0, 1) := by decide +kernel
theorem dX8_isLetter_7 : decode cX8_isLetter 7 = .ok (.bipush 90, 2) := by decide +kernel
theorem dX8_isLetter_9 : decode cX8_isLetter 9 = .ok (.if_icmp .le 15, 3) := by decide +kernel
theorem dX8_isLetter_12 : decode cX8_isLetter 12 = .ok (.iload_n 0, 1) := by decide +kernel
theorem dX8_isLetter_13 : decode cX8_isLetter 13 = .ok (.bipush 97, 2) := by decide +kernel
theorem dX8_isLetter_15 : decode cX8_isLetter 15 = .ok (.if_icmp .lt 13, 3) := by decide +kernel
theorem dX8_isLetter_18 : decode cX8_isLetter 18 = .ok (.iload_n 0, 1) := by decide +kernel
theorem dX8_isLetter_19 : decode cX8_isLetter 19 = .ok (.bipush 122, 2) := by decide +kernel
theorem dX8_isLetter_21 : decode cX8_isLetter 21 = .ok (.if_icmp .gt 7, 3) := by decide +kernel
theorem dX8_isLetter_24 : decode cX8_isLetter 24 = .ok (.iconst 1, 1) := by decide +kernel
theorem dX8_isLetter_25 : decode cX8_isLetter 25 = .ok (.goto 4, 3) := by decide +kernel
theorem dX8_isLetter_28 : decode cX8_isLetter 28 = .ok (.iconst 0, 1) := by decide +kernel
theorem dX8_isLetter_29 : decode cX8_isLetter 29 = .ok (.ireturn, 1) := by decide +kernel
set_option maxHeartbeats 4000000 in
set_option maxRecDepth 100000 in
theorem t_isLetter (l : Launch) (d : gD) (b : Nat) (F : gM) (x : Int32) : gMi l d b yX8_isLetter cX8_isLetter 1 .boolean 0 0 0 F [.int x] (fun r F' => (r = 0 ∨ r = 1) ∧ F' = F) := by
  refine gM_of2 rfl (nL := 1) (Nat.le_of_ble_eq_true rfl) ?_
  intro X hX hC; subst hX
  show gG X d b _ F 0 0 0 [some (.int x)] []
  refine g_iload_n hC dX8_isLetter_0 rfl ?_
  refine g_bipush (v := 65) hC dX8_isLetter_1 rfl ?_
  refine g_icmp_lt (tgt := 12) hC dX8_isLetter_3 (by decide) (fun c1 => ?_) (fun c1 => ?_)
  · refine g_iload_n hC dX8_isLetter_12 rfl ?_
    refine g_bipush (v := 97) hC dX8_isLetter_13 rfl ?_
    refine g_icmp_lt (tgt := 28) hC dX8_isLetter_15 (by decide) (fun c2 => ?_) (fun c2 => ?_)
    · refine g_iconst (v := 0) hC dX8_isLetter_28 rfl ?_
      exact g_iret hC (gnb (Or.inl rfl)) ⟨Or.inl rfl, rfl⟩ (Nat.le_refl _) (Nat.le_refl _) dX8_isLetter_29
    · refine g_iload_n hC dX8_isLetter_18 rfl ?_
      refine g_bipush (v := 122) hC dX8_isLetter_19 rfl ?_
      refine g_icmp_gt (tgt := 28) hC dX8_isLetter_21 (by decide) (fun c3 => ?_) (fun c3 => ?_)
      · refine g_iconst (v := 0) hC dX8_isLetter_28 rfl ?_
        exact g_iret hC (gnb (Or.inl rfl)) ⟨Or.inl rfl, rfl⟩ (Nat.le_refl _) (Nat.le_refl _) dX8_isLetter_29
      · refine g_iconst (v := 1) hC dX8_isLetter_24 rfl ?_
        refine g_goto (tgt := 29) hC dX8_isLetter_25 (by decide) ?_
        exact g_iret hC (gnb (Or.inr rfl)) ⟨Or.inr rfl, rfl⟩ (Nat.le_refl _) (Nat.le_refl _) dX8_isLetter_29
  · refine g_iload_n hC dX8_isLetter_6 rfl ?_
    refine g_bipush (v := 90) hC dX8_isLetter_7 rfl ?_
    refine g_icmp_le (tgt := 24) hC dX8_isLetter_9 (by decide) (fun c4 => ?_) (fun c4 => ?_)
    · refine g_iconst (v := 1) hC dX8_isLetter_24 rfl ?_
      refine g_goto (tgt := 29) hC dX8_isLetter_25 (by decide) ?_
      exact g_iret hC (gnb (Or.inr rfl)) ⟨Or.inr rfl, rfl⟩ (Nat.le_refl _) (Nat.le_refl _) dX8_isLetter_29
    · refine g_iload_n hC dX8_isLetter_12 rfl ?_
      refine g_bipush (v := 97) hC dX8_isLetter_13 rfl ?_
      refine g_icmp_lt (tgt := 28) hC dX8_isLetter_15 (by decide) (fun c5 => ?_) (fun c5 => ?_)
      · refine g_iconst (v := 0) hC dX8_isLetter_28 rfl ?_
        exact g_iret hC (gnb (Or.inl rfl)) ⟨Or.inl rfl, rfl⟩ (Nat.le_refl _) (Nat.le_refl _) dX8_isLetter_29
      · refine g_iload_n hC dX8_isLetter_18 rfl ?_
        refine g_bipush (v := 122) hC dX8_isLetter_19 rfl ?_
        refine g_icmp_gt (tgt := 28) hC dX8_isLetter_21 (by decide) (fun c6 => ?_) (fun c6 => ?_)
        · refine g_iconst (v := 0) hC dX8_isLetter_28 rfl ?_
          exact g_iret hC (gnb (Or.inl rfl)) ⟨Or.inl rfl, rfl⟩ (Nat.le_refl _) (Nat.le_refl _) dX8_isLetter_29
        · refine g_iconst (v := 1) hC dX8_isLetter_24 rfl ?_
          refine g_goto (tgt := 29) hC dX8_isLetter_25 (by decide) ?_
          exact g_iret hC (gnb (Or.inr rfl)) ⟨Or.inr rfl, rfl⟩ (Nat.le_refl _) (Nat.le_refl _) dX8_isLetter_29
theorem dX8_isDigit_0 : decode cX8_isDigit 0 = .ok (.iload_n 0, 1) := by decide +kernel
theorem dX8_isDigit_1 : decode cX8_isDigit 1 = .ok (.bipush 48, 2) := by decide +kernel
theorem dX8_isDigit_3 : decode cX8_isDigit 3 = .ok (.if_icmp .lt 13, 3) := by decide +kernel
theorem dX8_isDigit_6 : decode cX8_isDigit 6 = .ok (.iload_n 0, 1) := by decide +kernel
theorem dX8_isDigit_7 : decode cX8_isDigit 7 = .ok (.bipush 57, 2) := by decide +kernel
theorem dX8_isDigit_9 : decode cX8_isDigit 9 = .ok (.if_icmp .gt 7, 3) := by decide +kernel
theorem dX8_isDigit_12 : decode cX8_isDigit 12 = .ok (.iconst 1, 1) := by decide +kernel
theorem dX8_isDigit_13 : decode cX8_isDigit 13 = .ok (.goto 4, 3) := by decide +kernel
theorem dX8_isDigit_16 : decode cX8_isDigit 16 = .ok (.iconst 0, 1) := by decide +kernel
theorem dX8_isDigit_17 : decode cX8_isDigit 17 = .ok (.ireturn, 1) := by decide +kernel
set_option maxHeartbeats 4000000 in
set_option maxRecDepth 100000 in
theorem t_isDigit (l : Launch) (d : gD) (b : Nat) (F : gM) (x : Int32) : gMi l d b yX8_isDigit cX8_isDigit 1 .boolean 0 0 0 F [.int x] (fun r F' => (r = 0 ∨ r = 1) ∧ F' = F) := by
  refine gM_of2 rfl (nL := 1) (Nat.le_of_ble_eq_true rfl) ?_
  intro X hX hC; subst hX
  show gG X d b _ F 0 0 0 [some (.int x)] []
  refine g_iload_n hC dX8_isDigit_0 rfl ?_
  refine g_bipush (v := 48) hC dX8_isDigit_1 rfl ?_
  refine g_icmp_lt (tgt := 16) hC dX8_isDigit_3 (by decide) (fun c1 => ?_) (fun c1 => ?_)
  · refine g_iconst (v := 0) hC dX8_isDigit_16 rfl ?_
    exact g_iret hC (gnb (Or.inl rfl)) ⟨Or.inl rfl, rfl⟩ (Nat.le_refl _) (Nat.le_refl _) dX8_isDigit_17
  · refine g_iload_n hC dX8_isDigit_6 rfl ?_
    refine g_bipush (v := 57) hC dX8_isDigit_7 rfl ?_
    refine g_icmp_gt (tgt := 16) hC dX8_isDigit_9 (by decide) (fun c2 => ?_) (fun c2 => ?_)
    · refine g_iconst (v := 0) hC dX8_isDigit_16 rfl ?_
      exact g_iret hC (gnb (Or.inl rfl)) ⟨Or.inl rfl, rfl⟩ (Nat.le_refl _) (Nat.le_refl _) dX8_isDigit_17
    · refine g_iconst (v := 1) hC dX8_isDigit_12 rfl ?_
      refine g_goto (tgt := 17) hC dX8_isDigit_13 (by decide) ?_
      exact g_iret hC (gnb (Or.inr rfl)) ⟨Or.inr rfl, rfl⟩ (Nat.le_refl _) (Nat.le_refl _) dX8_isDigit_17
theorem dX8_isRest_0 : decode cX8_isRest 0 = .ok (.iload_n 0, 1) := by decide +kernel
theorem dX8_isRest_1 : decode cX8_isRest 1 = .ok (.invokestatic 119, 3) := by decide +kernel
theorem dX8_isRest_4 : decode cX8_isRest 4 = .ok (.ifCond .ne 22, 3) := by decide +kernel
theorem dX8_isRest_7 : decode cX8_isRest 7 = .ok (.iload_n 0, 1) := by decide +kernel
theorem dX8_isRest_8 : decode cX8_isRest 8 = .ok (.invokestatic 125, 3) := by decide +kernel
theorem dX8_isRest_11 : decode cX8_isRest 11 = .ok (.ifCond .ne 15, 3) := by decide +kernel
theorem dX8_isRest_14 : decode cX8_isRest 14 = .ok (.iload_n 0, 1) := by decide +kernel
theorem dX8_isRest_15 : decode cX8_isRest 15 = .ok (.bipush 46, 2) := by decide +kernel
theorem dX8_isRest_17 : decode cX8_isRest 17 = .ok (.if_icmp .eq 9, 3) := by decide +kernel
theorem dX8_isRest_20 : decode cX8_isRest 20 = .ok (.iload_n 0, 1) := by decide +kernel
theorem dX8_isRest_21 : decode cX8_isRest 21 = .ok (.bipush 95, 2) := by decide +kernel
theorem dX8_isRest_23 : decode cX8_isRest 23 = .ok (.if_icmp .ne 7, 3) := by decide +kernel
theorem dX8_isRest_26 : decode cX8_isRest 26 = .ok (.iconst 1, 1) := by decide +kernel
theorem dX8_isRest_27 : decode cX8_isRest 27 = .ok (.goto 4, 3) := by decide +kernel
theorem dX8_isRest_30 : decode cX8_isRest 30 = .ok (.iconst 0, 1) := by decide +kernel
theorem dX8_isRest_31 : decode cX8_isRest 31 = .ok (.ireturn, 1) := by decide +kernel
set_option maxHeartbeats 4000000 in
set_option maxRecDepth 100000 in
theorem t_isRest (l : Launch) (d : gD) (b : Nat) (F : gM) (x : Int32) : gMi l d b yX8_isRest cX8_isRest 1 .boolean 2 0 0 F [.int x] (fun r F' => (r = 0 ∨ r = 1) ∧ F' = F) := by
  refine gM_of2 rfl (nL := 1) (Nat.le_of_ble_eq_true rfl) ?_
  intro X hX hC; subst hX
  show gG X d b _ F 0 0 0 [some (.int x)] []
  refine g_iload_n hC dX8_isRest_0 rfl ?_
  refine g_callSi (As := [.int x]) hC (t_isLetter X.la d b F x) cl_X8_119 rfl rfl (Nat.le_of_ble_eq_true rfl) (gFit_of (Nat.le_of_ble_eq_true rfl) (Nat.le_of_ble_eq_true rfl) (Nat.le_refl _) (Nat.le_refl _)) dX8_isRest_1 (fun r1 F2 p3 => ?_)
  obtain ⟨er1, eF2⟩ := p3; have eF2 := eF2.symm; subst eF2
  refine g_if_ne (tgt := 26) hC dX8_isRest_4 (by decide) (fun c4 => ?_) (fun c4 => ?_)
  · refine g_iconst (v := 1) hC dX8_isRest_26 rfl ?_
    refine g_goto (tgt := 31) hC dX8_isRest_27 (by decide) ?_
    exact g_iret hC (gnb (Or.inr rfl)) ⟨Or.inr rfl, rfl⟩ (Nat.le_refl _) (Nat.le_refl _) dX8_isRest_31
  · refine g_iload_n hC dX8_isRest_7 rfl ?_
    refine g_callSi (As := [.int x]) hC (t_isDigit X.la d b F x) cl_X8_125 rfl rfl (Nat.le_of_ble_eq_true rfl) (gFit_of (Nat.le_of_ble_eq_true rfl) (Nat.le_of_ble_eq_true rfl) (Nat.le_refl _) (Nat.le_refl _)) dX8_isRest_8 (fun r5 F6 p7 => ?_)
    obtain ⟨er5, eF6⟩ := p7; have eF6 := eF6.symm; subst eF6
    refine g_if_ne (tgt := 26) hC dX8_isRest_11 (by decide) (fun c8 => ?_) (fun c8 => ?_)
    · refine g_iconst (v := 1) hC dX8_isRest_26 rfl ?_
      refine g_goto (tgt := 31) hC dX8_isRest_27 (by decide) ?_
      exact g_iret hC (gnb (Or.inr rfl)) ⟨Or.inr rfl, rfl⟩ (Nat.le_refl _) (Nat.le_refl _) dX8_isRest_31
    · refine g_iload_n hC dX8_isRest_14 rfl ?_
      refine g_bipush (v := 46) hC dX8_isRest_15 rfl ?_
      refine g_icmp_eq (tgt := 26) hC dX8_isRest_17 (by decide) (fun c9 => ?_) (fun c9 => ?_)
      · refine g_iconst (v := 1) hC dX8_isRest_26 rfl ?_
        refine g_goto (tgt := 31) hC dX8_isRest_27 (by decide) ?_
        exact g_iret hC (gnb (Or.inr rfl)) ⟨Or.inr rfl, rfl⟩ (Nat.le_refl _) (Nat.le_refl _) dX8_isRest_31
      · refine g_iload_n hC dX8_isRest_20 rfl ?_
        refine g_bipush (v := 95) hC dX8_isRest_21 rfl ?_
        refine g_icmp_ne (tgt := 30) hC dX8_isRest_23 (by decide) (fun c10 => ?_) (fun c10 => ?_)
        · refine g_iconst (v := 0) hC dX8_isRest_30 rfl ?_
          exact g_iret hC (gnb (Or.inl rfl)) ⟨Or.inl rfl, rfl⟩ (Nat.le_refl _) (Nat.le_refl _) dX8_isRest_31
        · refine g_iconst (v := 1) hC dX8_isRest_26 rfl ?_
          refine g_goto (tgt := 31) hC dX8_isRest_27 (by decide) ?_
          exact g_iret hC (gnb (Or.inr rfl)) ⟨Or.inr rfl, rfl⟩ (Nat.le_refl _) (Nat.le_refl _) dX8_isRest_31
theorem dX8_mayEnd_0 : decode cX8_mayEnd 0 = .ok (.iload_n 0, 1) := by decide +kernel
theorem dX8_mayEnd_1 : decode cX8_mayEnd 1 = .ok (.tableswitch 213 2 50 #[211, 211, 211, 213, 211, 213, 211, 213, 213, 213, 213, 213, 213, 213, 213, 213, 213, 213, 213, 213, 213, 213, 213, 213, 213, 213, 213, 213, 213, 213, 211, 211, 213, 213, 213, 213, 213, 213, 213, 213, 213, 213, 213, 211, 211, 211, 211, 213, 211], 211) := by decide +kernel
theorem dX8_mayEnd_212 : decode cX8_mayEnd 212 = .ok (.iconst 1, 1) := by decide +kernel
theorem dX8_mayEnd_213 : decode cX8_mayEnd 213 = .ok (.ireturn, 1) := by decide +kernel
theorem dX8_mayEnd_214 : decode cX8_mayEnd 214 = .ok (.iconst 0, 1) := by decide +kernel
theorem dX8_mayEnd_215 : decode cX8_mayEnd 215 = .ok (.ireturn, 1) := by decide +kernel
set_option maxHeartbeats 4000000 in
set_option maxRecDepth 100000 in
theorem t_mayEnd (l : Launch) (d : gD) (b : Nat) (F : gM) (x : Int32) : gMi l d b yX8_mayEnd cX8_mayEnd 1 .boolean 2 0 0 F [.int x] (fun r F' => (r = 0 ∨ r = 1) ∧ F' = F) := by
  refine gM_of2 rfl (nL := 1) (Nat.le_of_ble_eq_true rfl) ?_
  intro X hX hC; subst hX
  show gG X d b _ F 0 0 0 [some (.int x)] []
  refine g_iload_n hC dX8_mayEnd_0 rfl ?_
  have T1 : gG X d b (MQ X.be (va_Qi (fun r F' => (r = 0 ∨ r = 1) ∧ F' = F) (gB d b) (fun q => b ≤ q)) X.ar X.st 0 0 (fun q => b ≤ q)) F 0 0 212 [some (.int x)] [] := by
    refine g_iconst (v := 1) hC dX8_mayEnd_212 rfl ?_
    exact g_iret hC (gnb (Or.inr rfl)) ⟨Or.inr rfl, rfl⟩ (Nat.le_refl _) (Nat.le_refl _) dX8_mayEnd_213
  have T2 : gG X d b (MQ X.be (va_Qi (fun r F' => (r = 0 ∨ r = 1) ∧ F' = F) (gB d b) (fun q => b ≤ q)) X.ar X.st 0 0 (fun q => b ≤ q)) F 0 0 214 [some (.int x)] [] := by
    refine g_iconst (v := 0) hC dX8_mayEnd_214 rfl ?_
    exact g_iret hC (gnb (Or.inl rfl)) ⟨Or.inl rfl, rfl⟩ (Nat.le_refl _) (Nat.le_refl _) dX8_mayEnd_215
  exact g_tsw hC dX8_mayEnd_1 (by decide) (fun tgt ht => (by obtain rfl : tgt = 214 := (by omega); exact T2)) (by decide) (by decide) (List.forall_mem_cons.mpr ⟨fun (tgt : Nat) (ht : ((1 : Nat) : Int) + (211 : Int) = (tgt : Int)) => (by obtain rfl : tgt = 212 := (by omega); exact T1), List.forall_mem_cons.mpr ⟨fun (tgt : Nat) (ht : ((1 : Nat) : Int) + (211 : Int) = (tgt : Int)) => (by obtain rfl : tgt = 212 := (by omega); exact T1), List.forall_mem_cons.mpr ⟨fun (tgt : Nat) (ht : ((1 : Nat) : Int) + (211 : Int) = (tgt : Int)) => (by obtain rfl : tgt = 212 := (by omega); exact T1), List.forall_mem_cons.mpr ⟨fun (tgt : Nat) (ht : ((1 : Nat) : Int) + (213 : Int) = (tgt : Int)) => (by obtain rfl : tgt = 214 := (by omega); exact T2), List.forall_mem_cons.mpr ⟨fun (tgt : Nat) (ht : ((1 : Nat) : Int) + (211 : Int) = (tgt : Int)) => (by obtain rfl : tgt = 212 := (by omega); exact T1), List.forall_mem_cons.mpr ⟨fun (tgt : Nat) (ht : ((1 : Nat) : Int) + (213 : Int) = (tgt : Int)) => (by obtain rfl : tgt = 214 := (by omega); exact T2), List.forall_mem_cons.mpr ⟨fun (tgt : Nat) (ht : ((1 : Nat) : Int) + (211 : Int) = (tgt : Int)) => (by obtain rfl : tgt = 212 := (by omega); exact T1), List.forall_mem_cons.mpr ⟨fun (tgt : Nat) (ht : ((1 : Nat) : Int) + (213 : Int) = (tgt : Int)) => (by obtain rfl : tgt = 214 := (by omega); exact T2), List.forall_mem_cons.mpr ⟨fun (tgt : Nat) (ht : ((1 : Nat) : Int) + (213 : Int) = (tgt : Int)) => (by obtain rfl : tgt = 214 := (by omega); exact T2), List.forall_mem_cons.mpr ⟨fun (tgt : Nat) (ht : ((1 : Nat) : Int) + (213 : Int) = (tgt : Int)) => (by obtain rfl : tgt = 214 := (by omega); exact T2), List.forall_mem_cons.mpr ⟨fun (tgt : Nat) (ht : ((1 : Nat) : Int) + (213 : Int) = (tgt : Int)) => (by obtain rfl : tgt = 214 := (by omega); exact T2), List.forall_mem_cons.mpr ⟨fun (tgt : Nat) (ht : ((1 : Nat) : Int) + (213 : Int) = (tgt : Int)) => (by obtain rfl : tgt = 214 := (by omega); exact T2), List.forall_mem_cons.mpr ⟨fun (tgt : Nat) (ht : ((1 : Nat) : Int) + (213 : Int) = (tgt : Int)) => (by obtain rfl : tgt = 214 := (by omega); exact T2), List.forall_mem_cons.mpr ⟨fun (tgt : Nat) (ht : ((1 : Nat) : Int) + (213 : Int) = (tgt : Int)) => (by obtain rfl : tgt = 214 := (by omega); exact T2), List.forall_mem_cons.mpr ⟨fun (tgt : Nat) (ht : ((1 : Nat) : Int) + (213 : Int) = (tgt : Int)) => (by obtain rfl : tgt = 214 := (by omega); exact T2), List.forall_mem_cons.mpr ⟨fun (tgt : Nat) (ht : ((1 : Nat) : Int) + (213 : Int) = (tgt : Int)) => (by obtain rfl : tgt = 214 := (by omega); exact T2), List.forall_mem_cons.mpr ⟨fun (tgt : Nat) (ht : ((1 : Nat) : Int) + (213 : Int) = (tgt : Int)) => (by obtain rfl : tgt = 214 := (by omega); exact T2), List.forall_mem_cons.mpr ⟨fun (tgt : Nat) (ht : ((1 : Nat) : Int) + (213 : Int) = (tgt : Int)) => (by obtain rfl : tgt = 214 := (by omega); exact T2), List.forall_mem_cons.mpr ⟨fun (tgt : Nat) (ht : ((1 : Nat) : Int) + (213 : Int) = (tgt : Int)) => (by obtain rfl : tgt = 214 := (by omega); exact T2), List.forall_mem_cons.mpr ⟨fun (tgt : Nat) (ht : ((1 : Nat) : Int) + (213 : Int) = (tgt : Int)) => (by obtain rfl : tgt = 214 := (by omega); exact T2), List.forall_mem_cons.mpr ⟨fun (tgt : Nat) (ht : ((1 : Nat) : Int) + (213 : Int) = (tgt : Int)) => (by obtain rfl : tgt = 214 := (by omega); exact T2), List.forall_mem_cons.mpr ⟨fun (tgt : Nat) (ht : ((1 : Nat) : Int) + (213 : Int) = (tgt : Int)) => (by obtain rfl : tgt = 214 := (by omega); exact T2), List.forall_mem_cons.mpr ⟨fun (tgt : Nat) (ht : ((1 : Nat) : Int) + (213 : Int) = (tgt : Int)) => (by obtain rfl : tgt = 214 := (by omega); exact T2), List.forall_mem_cons.mpr ⟨fun (tgt : Nat) (ht : ((1 : Nat) : Int) + (213 : Int) = (tgt : Int)) => (by obtain rfl : tgt = 214 := (by omega); exact T2), List.forall_mem_cons.mpr ⟨fun (tgt : Nat) (ht : ((1 : Nat) : Int) + (213 : Int) = (tgt : Int)) => (by obtain rfl : tgt = 214 := (by omega); exact T2), List.forall_mem_cons.mpr ⟨fun (tgt : Nat) (ht : ((1 : Nat) : Int) + (213 : Int) = (tgt : Int)) => (by obtain rfl : tgt = 214 := (by omega); exact T2), List.forall_mem_cons.mpr ⟨fun (tgt : Nat) (ht : ((1 : Nat) : Int) + (213 : Int) = (tgt : Int)) => (by obtain rfl : tgt = 214 := (by omega); exact T2), List.forall_mem_cons.mpr ⟨fun (tgt : Nat) (ht : ((1 : Nat) : Int) + (213 : Int) = (tgt : Int)) => (by obtain rfl : tgt = 214 := (by omega); exact T2), List.forall_mem_cons.mpr ⟨fun (tgt : Nat) (ht : ((1 : Nat) : Int) + (213 : Int) = (tgt : Int)) => (by obtain rfl : tgt = 214 := (by omega); exact T2), List.forall_mem_cons.mpr ⟨fun (tgt : Nat) (ht : ((1 : Nat) : Int) + (213 : Int) = (tgt : Int)) => (by obtain rfl : tgt = 214 := (by omega); exact T2), List.forall_mem_cons.mpr ⟨fun (tgt : Nat) (ht : ((1 : Nat) : Int) + (211 : Int) = (tgt : Int)) => (by obtain rfl : tgt = 212 := (by omega); exact T1), List.forall_mem_cons.mpr ⟨fun (tgt : Nat) (ht : ((1 : Nat) : Int) + (211 : Int) = (tgt : Int)) => (by obtain rfl : tgt = 212 := (by omega); exact T1), List.forall_mem_cons.mpr ⟨fun (tgt : Nat) (ht : ((1 : Nat) : Int) + (213 : Int) = (tgt : Int)) => (by obtain rfl : tgt = 214 := (by omega); exact T2), List.forall_mem_cons.mpr ⟨fun (tgt : Nat) (ht : ((1 : Nat) : Int) + (213 : Int) = (tgt : Int)) => (by obtain rfl : tgt = 214 := (by omega); exact T2), List.forall_mem_cons.mpr ⟨fun (tgt : Nat) (ht : ((1 : Nat) : Int) + (213 : Int) = (tgt : Int)) => (by obtain rfl : tgt = 214 := (by omega); exact T2), List.forall_mem_cons.mpr ⟨fun (tgt : Nat) (ht : ((1 : Nat) : Int) + (213 : Int) = (tgt : Int)) => (by obtain rfl : tgt = 214 := (by omega); exact T2), List.forall_mem_cons.mpr ⟨fun (tgt : Nat) (ht : ((1 : Nat) : Int) + (213 : Int) = (tgt : Int)) => (by obtain rfl : tgt = 214 := (by omega); exact T2), List.forall_mem_cons.mpr ⟨fun (tgt : Nat) (ht : ((1 : Nat) : Int) + (213 : Int) = (tgt : Int)) => (by obtain rfl : tgt = 214 := (by omega); exact T2), List.forall_mem_cons.mpr ⟨fun (tgt : Nat) (ht : ((1 : Nat) : Int) + (213 : Int) = (tgt : Int)) => (by obtain rfl : tgt = 214 := (by omega); exact T2), List.forall_mem_cons.mpr ⟨fun (tgt : Nat) (ht : ((1 : Nat) : Int) + (213 : Int) = (tgt : Int)) => (by obtain rfl : tgt = 214 := (by omega); exact T2), List.forall_mem_cons.mpr ⟨fun (tgt : Nat) (ht : ((1 : Nat) : Int) + (213 : Int) = (tgt : Int)) => (by obtain rfl : tgt = 214 := (by omega); exact T2), List.forall_mem_cons.mpr ⟨fun (tgt : Nat) (ht : ((1 : Nat) : Int) + (213 : Int) = (tgt : Int)) => (by obtain rfl : tgt = 214 := (by omega); exact T2), List.forall_mem_cons.mpr ⟨fun (tgt : Nat) (ht : ((1 : Nat) : Int) + (213 : Int) = (tgt : Int)) => (by obtain rfl : tgt = 214 := (by omega); exact T2), List.forall_mem_cons.mpr ⟨fun (tgt : Nat) (ht : ((1 : Nat) : Int) + (211 : Int) = (tgt : Int)) => (by obtain rfl : tgt = 212 := (by omega); exact T1), List.forall_mem_cons.mpr ⟨fun (tgt : Nat) (ht : ((1 : Nat) : Int) + (211 : Int) = (tgt : Int)) => (by obtain rfl : tgt = 212 := (by omega); exact T1), List.forall_mem_cons.mpr ⟨fun (tgt : Nat) (ht : ((1 : Nat) : Int) + (211 : Int) = (tgt : Int)) => (by obtain rfl : tgt = 212 := (by omega); exact T1), List.forall_mem_cons.mpr ⟨fun (tgt : Nat) (ht : ((1 : Nat) : Int) + (211 : Int) = (tgt : Int)) => (by obtain rfl : tgt = 212 := (by omega); exact T1), List.forall_mem_cons.mpr ⟨fun (tgt : Nat) (ht : ((1 : Nat) : Int) + (213 : Int) = (tgt : Int)) => (by obtain rfl : tgt = 214 := (by omega); exact T2), List.forall_mem_cons.mpr ⟨fun (tgt : Nat) (ht : ((1 : Nat) : Int) + (211 : Int) = (tgt : Int)) => (by obtain rfl : tgt = 212 := (by omega); exact T1), fun _ h => nomatch h⟩⟩⟩⟩⟩⟩⟩⟩⟩⟩⟩⟩⟩⟩⟩⟩⟩⟩⟩⟩⟩⟩⟩⟩⟩⟩⟩⟩⟩⟩⟩⟩⟩⟩⟩⟩⟩⟩⟩⟩⟩⟩⟩⟩⟩⟩⟩⟩⟩)
theorem dX8_mayBegin_0 : decode cX8_mayBegin 0 = .ok (.iload_n 0, 1) := by decide +kernel
theorem dX8_mayBegin_1 : decode cX8_mayBegin 1 = .ok (.tableswitch 73 2 15 #[71, 71, 71, 71, 73, 71, 73, 73, 73, 73, 73, 71, 73, 71], 71) := by decide +kernel
theorem dX8_mayBegin_72 : decode cX8_mayBegin 72 = .ok (.iconst 1, 1) := by decide +kernel
theorem dX8_mayBegin_73 : decode cX8_mayBegin 73 = .ok (.ireturn, 1) := by decide +kernel
theorem dX8_mayBegin_74 : decode cX8_mayBegin 74 = .ok (.iload_n 0, 1) := by decide +kernel
theorem dX8_mayBegin_75 : decode cX8_mayBegin 75 = .ok (.bipush 32, 2) := by decide +kernel
theorem dX8_mayBegin_77 : decode cX8_mayBegin 77 = .ok (.if_icmp .lt 13, 3) := by decide +kernel
theorem dX8_mayBegin_80 : decode cX8_mayBegin 80 = .ok (.iload_n 0, 1) := by decide +kernel
theorem dX8_mayBegin_81 : decode cX8_mayBegin 81 = .ok (.bipush 55, 2) := by decide +kernel
theorem dX8_mayBegin_83 : decode cX8_mayBegin 83 = .ok (.if_icmp .gt 7, 3) := by decide +kernel
theorem dX8_mayBegin_86 : decode cX8_mayBegin 86 = .ok (.iconst 1, 1) := by decide +kernel
theorem dX8_mayBegin_87 : decode cX8_mayBegin 87 = .ok (.goto 4, 3) := by decide +kernel
theorem dX8_mayBegin_90 : decode cX8_mayBegin 90 = .ok (.iconst 0, 1) := by decide +kernel
theorem dX8_mayBegin_91 : decode cX8_mayBegin 91 = .ok (.ireturn, 1) := by decide +kernel
set_option maxHeartbeats 4000000 in
set_option maxRecDepth 100000 in
theorem t_mayBegin (l : Launch) (d : gD) (b : Nat) (F : gM) (x : Int32) : gMi l d b yX8_mayBegin cX8_mayBegin 1 .boolean 2 0 0 F [.int x] (fun r F' => (r = 0 ∨ r = 1) ∧ F' = F) := by
  refine gM_of2 rfl (nL := 1) (Nat.le_of_ble_eq_true rfl) ?_
  intro X hX hC; subst hX
  show gG X d b _ F 0 0 0 [some (.int x)] []
  refine g_iload_n hC dX8_mayBegin_0 rfl ?_
  have T1 : gG X d b (MQ X.be (va_Qi (fun r F' => (r = 0 ∨ r = 1) ∧ F' = F) (gB d b) (fun q => b ≤ q)) X.ar X.st 0 0 (fun q => b ≤ q)) F 0 0 72 [some (.int x)] [] := by
    refine g_iconst (v := 1) hC dX8_mayBegin_72 rfl ?_
    exact g_iret hC (gnb (Or.inr rfl)) ⟨Or.inr rfl, rfl⟩ (Nat.le_refl _) (Nat.le_refl _) dX8_mayBegin_73
  have T2 : gG X d b (MQ X.be (va_Qi (fun r F' => (r = 0 ∨ r = 1) ∧ F' = F) (gB d b) (fun q => b ≤ q)) X.ar X.st 0 0 (fun q => b ≤ q)) F 0 0 74 [some (.int x)] [] := by
    refine g_iload_n hC dX8_mayBegin_74 rfl ?_
    refine g_bipush (v := 32) hC dX8_mayBegin_75 rfl ?_
    refine g_icmp_lt (tgt := 90) hC dX8_mayBegin_77 (by decide) (fun c3 => ?_) (fun c3 => ?_)
    · refine g_iconst (v := 0) hC dX8_mayBegin_90 rfl ?_
      exact g_iret hC (gnb (Or.inl rfl)) ⟨Or.inl rfl, rfl⟩ (Nat.le_refl _) (Nat.le_refl _) dX8_mayBegin_91
    · refine g_iload_n hC dX8_mayBegin_80 rfl ?_
      refine g_bipush (v := 55) hC dX8_mayBegin_81 rfl ?_
      refine g_icmp_gt (tgt := 90) hC dX8_mayBegin_83 (by decide) (fun c4 => ?_) (fun c4 => ?_)
      · refine g_iconst (v := 0) hC dX8_mayBegin_90 rfl ?_
        exact g_iret hC (gnb (Or.inl rfl)) ⟨Or.inl rfl, rfl⟩ (Nat.le_refl _) (Nat.le_refl _) dX8_mayBegin_91
      · refine g_iconst (v := 1) hC dX8_mayBegin_86 rfl ?_
        refine g_goto (tgt := 91) hC dX8_mayBegin_87 (by decide) ?_
        exact g_iret hC (gnb (Or.inr rfl)) ⟨Or.inr rfl, rfl⟩ (Nat.le_refl _) (Nat.le_refl _) dX8_mayBegin_91
  exact g_tsw hC dX8_mayBegin_1 (by decide) (fun tgt ht => (by obtain rfl : tgt = 74 := (by omega); exact T2)) (by decide) (by decide) (List.forall_mem_cons.mpr ⟨fun (tgt : Nat) (ht : ((1 : Nat) : Int) + (71 : Int) = (tgt : Int)) => (by obtain rfl : tgt = 72 := (by omega); exact T1), List.forall_mem_cons.mpr ⟨fun (tgt : Nat) (ht : ((1 : Nat) : Int) + (71 : Int) = (tgt : Int)) => (by obtain rfl : tgt = 72 := (by omega); exact T1), List.forall_mem_cons.mpr ⟨fun (tgt : Nat) (ht : ((1 : Nat) : Int) + (71 : Int) = (tgt : Int)) => (by obtain rfl : tgt = 72 := (by omega); exact T1), List.forall_mem_cons.mpr ⟨fun (tgt : Nat) (ht : ((1 : Nat) : Int) + (71 : Int) = (tgt : Int)) => (by obtain rfl : tgt = 72 := (by omega); exact T1), List.forall_mem_cons.mpr ⟨fun (tgt : Nat) (ht : ((1 : Nat) : Int) + (73 : Int) = (tgt : Int)) => (by obtain rfl : tgt = 74 := (by omega); exact T2), List.forall_mem_cons.mpr ⟨fun (tgt : Nat) (ht : ((1 : Nat) : Int) + (71 : Int) = (tgt : Int)) => (by obtain rfl : tgt = 72 := (by omega); exact T1), List.forall_mem_cons.mpr ⟨fun (tgt : Nat) (ht : ((1 : Nat) : Int) + (73 : Int) = (tgt : Int)) => (by obtain rfl : tgt = 74 := (by omega); exact T2), List.forall_mem_cons.mpr ⟨fun (tgt : Nat) (ht : ((1 : Nat) : Int) + (73 : Int) = (tgt : Int)) => (by obtain rfl : tgt = 74 := (by omega); exact T2), List.forall_mem_cons.mpr ⟨fun (tgt : Nat) (ht : ((1 : Nat) : Int) + (73 : Int) = (tgt : Int)) => (by obtain rfl : tgt = 74 := (by omega); exact T2), List.forall_mem_cons.mpr ⟨fun (tgt : Nat) (ht : ((1 : Nat) : Int) + (73 : Int) = (tgt : Int)) => (by obtain rfl : tgt = 74 := (by omega); exact T2), List.forall_mem_cons.mpr ⟨fun (tgt : Nat) (ht : ((1 : Nat) : Int) + (73 : Int) = (tgt : Int)) => (by obtain rfl : tgt = 74 := (by omega); exact T2), List.forall_mem_cons.mpr ⟨fun (tgt : Nat) (ht : ((1 : Nat) : Int) + (71 : Int) = (tgt : Int)) => (by obtain rfl : tgt = 72 := (by omega); exact T1), List.forall_mem_cons.mpr ⟨fun (tgt : Nat) (ht : ((1 : Nat) : Int) + (73 : Int) = (tgt : Int)) => (by obtain rfl : tgt = 74 := (by omega); exact T2), List.forall_mem_cons.mpr ⟨fun (tgt : Nat) (ht : ((1 : Nat) : Int) + (71 : Int) = (tgt : Int)) => (by obtain rfl : tgt = 72 := (by omega); exact T1), fun _ h => nomatch h⟩⟩⟩⟩⟩⟩⟩⟩⟩⟩⟩⟩⟩⟩)
theorem dX8_digitOf_0 : decode cX8_digitOf 0 = .ok (.iload_n 0, 1) := by decide +kernel
theorem dX8_digitOf_1 : decode cX8_digitOf 1 = .ok (.invokestatic 125, 3) := by decide +kernel
theorem dX8_digitOf_4 : decode cX8_digitOf 4 = .ok (.ifCond .eq 10, 3) := by decide +kernel
theorem dX8_digitOf_7 : decode cX8_digitOf 7 = .ok (.iload_n 0, 1) := by decide +kernel
theorem dX8_digitOf_8 : decode cX8_digitOf 8 = .ok (.bipush 48, 2) := by decide +kernel
theorem dX8_digitOf_10 : decode cX8_digitOf 10 = .ok (.isub, 1) := by decide +kernel
theorem dX8_digitOf_11 : decode cX8_digitOf 11 = .ok (.goto 27, 3) := by decide +kernel
theorem dX8_digitOf_14 : decode cX8_digitOf 14 = .ok (.iload_n 0, 1) := by decide +kernel
theorem dX8_digitOf_15 : decode cX8_digitOf 15 = .ok (.bipush 65, 2) := by decide +kernel
theorem dX8_digitOf_17 : decode cX8_digitOf 17 = .ok (.if_icmp .lt 19, 3) := by decide +kernel
theorem dX8_digitOf_20 : decode cX8_digitOf 20 = .ok (.iload_n 0, 1) := by decide +kernel
theorem dX8_digitOf_21 : decode cX8_digitOf 21 = .ok (.bipush 70, 2) := by decide +kernel
theorem dX8_digitOf_23 : decode cX8_digitOf 23 = .ok (.if_icmp .gt 13, 3) := by decide +kernel
theorem dX8_digitOf_26 : decode cX8_digitOf 26 = .ok (.iload_n 0, 1) := by decide +kernel
theorem dX8_digitOf_27 : decode cX8_digitOf 27 = .ok (.bipush 65, 2) := by decide +kernel
theorem dX8_digitOf_29 : decode cX8_digitOf 29 = .ok (.isub, 1) := by decide +kernel
theorem dX8_digitOf_30 : decode cX8_digitOf 30 = .ok (.bipush 10, 2) := by decide +kernel
theorem dX8_digitOf_32 : decode cX8_digitOf 32 = .ok (.iadd, 1) := by decide +kernel
theorem dX8_digitOf_33 : decode cX8_digitOf 33 = .ok (.goto 5, 3) := by decide +kernel
theorem dX8_digitOf_36 : decode cX8_digitOf 36 = .ok (.bipush 99, 2) := by decide +kernel
theorem dX8_digitOf_38 : decode cX8_digitOf 38 = .ok (.ireturn, 1) := by decide +kernel
set_option maxHeartbeats 4000000 in
set_option maxRecDepth 100000 in
theorem t_digitOf (l : Launch) (d : gD) (b : Nat) (F : gM) (x : Int32) : gMi l d b yX8_digitOf cX8_digitOf 1 .int 2 0 0 F [.int x] (fun r F' => True ∧ F' = F) := by
  refine gM_of2 rfl (nL := 1) (Nat.le_of_ble_eq_true rfl) ?_
  intro X hX hC; subst hX
  show gG X d b _ F 0 0 0 [some (.int x)] []
  refine g_iload_n hC dX8_digitOf_0 rfl ?_
  refine g_callSi (As := [.int x]) hC (t_isDigit X.la d b F x) cl_X8_125 rfl rfl (Nat.le_of_ble_eq_true rfl) (gFit_of (Nat.le_of_ble_eq_true rfl) (Nat.le_of_ble_eq_true rfl) (Nat.le_refl _) (Nat.le_refl _)) dX8_digitOf_1 (fun r1 F2 p3 => ?_)
  obtain ⟨er1, eF2⟩ := p3; have eF2 := eF2.symm; subst eF2
  refine g_if_eq (tgt := 14) hC dX8_digitOf_4 (by decide) (fun c4 => ?_) (fun c4 => ?_)
  · refine g_iload_n hC dX8_digitOf_14 rfl ?_
    refine g_bipush (v := 65) hC dX8_digitOf_15 rfl ?_
    refine g_icmp_lt (tgt := 36) hC dX8_digitOf_17 (by decide) (fun c5 => ?_) (fun c5 => ?_)
    · refine g_bipush (v := 99) hC dX8_digitOf_36 rfl ?_
      exact g_iret hC rfl ⟨trivial, rfl⟩ (Nat.le_refl _) (Nat.le_refl _) dX8_digitOf_38
    · refine g_iload_n hC dX8_digitOf_20 rfl ?_
      refine g_bipush (v := 70) hC dX8_digitOf_21 rfl ?_
      refine g_icmp_gt (tgt := 36) hC dX8_digitOf_23 (by decide) (fun c6 => ?_) (fun c6 => ?_)
      · refine g_bipush (v := 99) hC dX8_digitOf_36 rfl ?_
        exact g_iret hC rfl ⟨trivial, rfl⟩ (Nat.le_refl _) (Nat.le_refl _) dX8_digitOf_38
      · refine g_iload_n hC dX8_digitOf_26 rfl ?_
        refine g_bipush (v := 65) hC dX8_digitOf_27 rfl ?_
        refine g_isub hC dX8_digitOf_29 ?_
        refine g_vi (fun x7 ex7 => ?_)
        refine g_bipush (v := 10) hC dX8_digitOf_30 rfl ?_
        refine g_iadd hC dX8_digitOf_32 ?_
        refine g_vi (fun x8 ex8 => ?_)
        refine g_goto (tgt := 38) hC dX8_digitOf_33 (by decide) ?_
        exact g_iret hC rfl ⟨trivial, rfl⟩ (Nat.le_refl _) (Nat.le_refl _) dX8_digitOf_38
  · refine g_iload_n hC dX8_digitOf_7 rfl ?_
    refine g_bipush (v := 48) hC dX8_digitOf_8 rfl ?_
    refine g_isub hC dX8_digitOf_10 ?_
    refine g_vi (fun x9 ex9 => ?_)
    refine g_goto (tgt := 38) hC dX8_digitOf_11 (by decide) ?_
    exact g_iret hC rfl ⟨trivial, rfl⟩ (Nat.le_refl _) (Nat.le_refl _) dX8_digitOf_38
theorem dX8_doubled_0 : decode cX8_doubled 0 = .ok (.iload_n 0, 1) := by decide +kernel
theorem dX8_doubled_1 : decode cX8_doubled 1 = .ok (.lookupswitch 138 #[(45, 125), (58, 51), (60, 77), (62, 101), (126, 64)], 51) := by decide +kernel
theorem dX8_doubled_52 : decode cX8_doubled 52 = .ok (.iload_n 1, 1) := by decide +kernel
theorem dX8_doubled_53 : decode cX8_doubled 53 = .ok (.bipush 61, 2) := by decide +kernel
theorem dX8_doubled_55 : decode cX8_doubled 55 = .ok (.if_icmp .ne 8, 3) := by decide +kernel
theorem dX8_doubled_58 : decode cX8_doubled 58 = .ok (.bipush 11, 2) := by decide +kernel
theorem dX8_doubled_60 : decode cX8_doubled 60 = .ok (.goto 4, 3) := by decide +kernel
theorem dX8_doubled_63 : decode cX8_doubled 63 = .ok (.iconst 1, 1) := by decide +kernel
theorem dX8_doubled_64 : decode cX8_doubled 64 = .ok (.ireturn, 1) := by decide +kernel
theorem dX8_doubled_65 : decode cX8_doubled 65 = .ok (.iload_n 1, 1) := by decide +kernel
theorem dX8_doubled_66 : decode cX8_doubled 66 = .ok (.bipush 61, 2) := by decide +kernel
theorem dX8_doubled_68 : decode cX8_doubled 68 = .ok (.if_icmp .ne 8, 3) := by decide +kernel
theorem dX8_doubled_71 : decode cX8_doubled 71 = .ok (.bipush 21, 2) := by decide +kernel
theorem dX8_doubled_73 : decode cX8_doubled 73 = .ok (.goto 4, 3) := by decide +kernel
theorem dX8_doubled_76 : decode cX8_doubled 76 = .ok (.iconst 1, 1) := by decide +kernel
theorem dX8_doubled_77 : decode cX8_doubled 77 = .ok (.ireturn, 1) := by decide +kernel
theorem dX8_doubled_78 : decode cX8_doubled 78 = .ok (.iload_n 1, 1) := by decide +kernel
theorem dX8_doubled_79 : decode cX8_doubled 79 = .ok (.bipush 61, 2) := by decide +kernel
theorem dX8_doubled_81 : decode cX8_doubled 81 = .ok (.if_icmp .ne 8, 3) := by decide +kernel
theorem dX8_doubled_84 : decode cX8_doubled 84 = .ok (.bipush 23, 2) := by decide +kernel
theorem dX8_doubled_86 : decode cX8_doubled 86 = .ok (.goto 15, 3) := by decide +kernel
theorem dX8_doubled_89 : decode cX8_doubled 89 = .ok (.iload_n 1, 1) := by decide +kernel
theorem dX8_doubled_90 : decode cX8_doubled 90 = .ok (.bipush 60, 2) := by decide +kernel
theorem dX8_doubled_92 : decode cX8_doubled 92 = .ok (.if_icmp .ne 8, 3) := by decide +kernel
theorem dX8_doubled_95 : decode cX8_doubled 95 = .ok (.bipush 26, 2) := by decide +kernel
theorem dX8_doubled_97 : decode cX8_doubled 97 = .ok (.goto 4, 3) := by decide +kernel
theorem dX8_doubled_100 : decode cX8_doubled 100 = .ok (.iconst 1, 1) := by decide +kernel
theorem dX8_doubled_101 : decode cX8_doubled 101 = .ok (.ireturn, 1) := by decide +kernel
theorem dX8_doubled_102 : decode cX8_doubled 102 = .ok (.iload_n 1, 1) := by decide +kernel
theorem dX8_doubled_103 : decode cX8_doubled 103 = .ok (.bipush 61, 2) := by decide +kernel
theorem dX8_doubled_105 : decode cX8_doubled 105 = .ok (.if_icmp .ne 8, 3) := by decide +kernel
theorem dX8_doubled_108 : decode cX8_doubled 108 = .ok (.bipush 25, 2) := by decide +kernel
theorem dX8_doubled_110 : decode cX8_doubled 110 = .ok (.goto 15, 3) := by decide +kernel
theorem dX8_doubled_113 : decode cX8_doubled 113 = .ok (.iload_n 1, 1) := by decide +kernel
theorem dX8_doubled_114 : decode cX8_doubled 114 = .ok (.bipush 62, 2) := by decide +kernel
theorem dX8_doubled_116 : decode cX8_doubled 116 = .ok (.if_icmp .ne 8, 3) := by decide +kernel
theorem dX8_doubled_119 : decode cX8_doubled 119 = .ok (.bipush 27, 2) := by decide +kernel
theorem dX8_doubled_121 : decode cX8_doubled 121 = .ok (.goto 4, 3) := by decide +kernel
theorem dX8_doubled_124 : decode cX8_doubled 124 = .ok (.iconst 1, 1) := by decide +kernel
theorem dX8_doubled_125 : decode cX8_doubled 125 = .ok (.ireturn, 1) := by decide +kernel
theorem dX8_doubled_126 : decode cX8_doubled 126 = .ok (.iload_n 1, 1) := by decide +kernel
theorem dX8_doubled_127 : decode cX8_doubled 127 = .ok (.bipush 62, 2) := by decide +kernel
theorem dX8_doubled_129 : decode cX8_doubled 129 = .ok (.if_icmp .ne 8, 3) := by decide +kernel
theorem dX8_doubled_132 : decode cX8_doubled 132 = .ok (.bipush 31, 2) := by decide +kernel
theorem dX8_doubled_134 : decode cX8_doubled 134 = .ok (.goto 4, 3) := by decide +kernel
theorem dX8_doubled_137 : decode cX8_doubled 137 = .ok (.iconst 1, 1) := by decide +kernel
theorem dX8_doubled_138 : decode cX8_doubled 138 = .ok (.ireturn, 1) := by decide +kernel
theorem dX8_doubled_139 : decode cX8_doubled 139 = .ok (.iconst 1, 1) := by decide +kernel
theorem dX8_doubled_140 : decode cX8_doubled 140 = .ok (.ireturn, 1) := by decide +kernel
set_option maxHeartbeats 4000000 in
set_option maxRecDepth 100000 in
theorem t_doubled (l : Launch) (d : gD) (b : Nat) (F : gM) (x y : Int32) : gMi l d b yX8_doubled cX8_doubled 2 .int 2 0 0 F [.int x, .int y] (fun r F' => True ∧ F' = F) := by
  refine gM_of2 rfl (nL := 2) (Nat.le_of_ble_eq_true rfl) ?_
  intro X hX hC; subst hX
  show gG X d b _ F 0 0 0 [some (.int x), some (.int y)] []
  refine g_iload_n hC dX8_doubled_0 rfl ?_
  have T1 : gG X d b (MQ X.be (va_Qi (fun r F' => True ∧ F' = F) (gB d b) (fun q => b ≤ q)) X.ar X.st 0 0 (fun q => b ≤ q)) F 0 0 52 [some (.int x), some (.int y)] [] := by
    refine g_iload_n hC dX8_doubled_52 rfl ?_
    refine g_bipush (v := 61) hC dX8_doubled_53 rfl ?_
    refine g_icmp_ne (tgt := 63) hC dX8_doubled_55 (by decide) (fun c2 => ?_) (fun c2 => ?_)
    · refine g_iconst (v := 1) hC dX8_doubled_63 rfl ?_
      exact g_iret hC rfl ⟨trivial, rfl⟩ (Nat.le_refl _) (Nat.le_refl _) dX8_doubled_64
    · refine g_bipush (v := 11) hC dX8_doubled_58 rfl ?_
      refine g_goto (tgt := 64) hC dX8_doubled_60 (by decide) ?_
      exact g_iret hC rfl ⟨trivial, rfl⟩ (Nat.le_refl _) (Nat.le_refl _) dX8_doubled_64
  have T3 : gG X d b (MQ X.be (va_Qi (fun r F' => True ∧ F' = F) (gB d b) (fun q => b ≤ q)) X.ar X.st 0 0 (fun q => b ≤ q)) F 0 0 65 [some (.int x), some (.int y)] [] := by
    refine g_iload_n hC dX8_doubled_65 rfl ?_
    refine g_bipush (v := 61) hC dX8_doubled_66 rfl ?_
    refine g_icmp_ne (tgt := 76) hC dX8_doubled_68 (by decide) (fun c4 => ?_) (fun c4 => ?_)
    · refine g_iconst (v := 1) hC dX8_doubled_76 rfl ?_
      exact g_iret hC rfl ⟨trivial, rfl⟩ (Nat.le_refl _) (Nat.le_refl _) dX8_doubled_77
    · refine g_bipush (v := 21) hC dX8_doubled_71 rfl ?_
      refine g_goto (tgt := 77) hC dX8_doubled_73 (by decide) ?_
      exact g_iret hC rfl ⟨trivial, rfl⟩ (Nat.le_refl _) (Nat.le_refl _) dX8_doubled_77
  have T5 : gG X d b (MQ X.be (va_Qi (fun r F' => True ∧ F' = F) (gB d b) (fun q => b ≤ q)) X.ar X.st 0 0 (fun q => b ≤ q)) F 0 0 78 [some (.int x), some (.int y)] [] := by
    refine g_iload_n hC dX8_doubled_78 rfl ?_
    refine g_bipush (v := 61) hC dX8_doubled_79 rfl ?_
    refine g_icmp_ne (tgt := 89) hC dX8_doubled_81 (by decide) (fun c6 => ?_) (fun c6 => ?_)
    · refine g_iload_n hC dX8_doubled_89 rfl ?_
      refine g_bipush (v := 60) hC dX8_doubled_90 rfl ?_
      refine g_icmp_ne (tgt := 100) hC dX8_doubled_92 (by decide) (fun c7 => ?_) (fun c7 => ?_)
      · refine g_iconst (v := 1) hC dX8_doubled_100 rfl ?_
        exact g_iret hC rfl ⟨trivial, rfl⟩ (Nat.le_refl _) (Nat.le_refl _) dX8_doubled_101
      · refine g_bipush (v := 26) hC dX8_doubled_95 rfl ?_
        refine g_goto (tgt := 101) hC dX8_doubled_97 (by decide) ?_
        exact g_iret hC rfl ⟨trivial, rfl⟩ (Nat.le_refl _) (Nat.le_refl _) dX8_doubled_101
    · refine g_bipush (v := 23) hC dX8_doubled_84 rfl ?_
      refine g_goto (tgt := 101) hC dX8_doubled_86 (by decide) ?_
      exact g_iret hC rfl ⟨trivial, rfl⟩ (Nat.le_refl _) (Nat.le_refl _) dX8_doubled_101
  have T8 : gG X d b (MQ X.be (va_Qi (fun r F' => True ∧ F' = F) (gB d b) (fun q => b ≤ q)) X.ar X.st 0 0 (fun q => b ≤ q)) F 0 0 102 [some (.int x), some (.int y)] [] := by
    refine g_iload_n hC dX8_doubled_102 rfl ?_
    refine g_bipush (v := 61) hC dX8_doubled_103 rfl ?_
    refine g_icmp_ne (tgt := 113) hC dX8_doubled_105 (by decide) (fun c9 => ?_) (fun c9 => ?_)
    · refine g_iload_n hC dX8_doubled_113 rfl ?_
      refine g_bipush (v := 62) hC dX8_doubled_114 rfl ?_
      refine g_icmp_ne (tgt := 124) hC dX8_doubled_116 (by decide) (fun c10 => ?_) (fun c10 => ?_)
      · refine g_iconst (v := 1) hC dX8_doubled_124 rfl ?_
        exact g_iret hC rfl ⟨trivial, rfl⟩ (Nat.le_refl _) (Nat.le_refl _) dX8_doubled_125
      · refine g_bipush (v := 27) hC dX8_doubled_119 rfl ?_
        refine g_goto (tgt := 125) hC dX8_doubled_121 (by decide) ?_
        exact g_iret hC rfl ⟨trivial, rfl⟩ (Nat.le_refl _) (Nat.le_refl _) dX8_doubled_125
    · refine g_bipush (v := 25) hC dX8_doubled_108 rfl ?_
      refine g_goto (tgt := 125) hC dX8_doubled_110 (by decide) ?_
      exact g_iret hC rfl ⟨trivial, rfl⟩ (Nat.le_refl _) (Nat.le_refl _) dX8_doubled_125
  have T11 : gG X d b (MQ X.be (va_Qi (fun r F' => True ∧ F' = F) (gB d b) (fun q => b ≤ q)) X.ar X.st 0 0 (fun q => b ≤ q)) F 0 0 126 [some (.int x), some (.int y)] [] := by
    refine g_iload_n hC dX8_doubled_126 rfl ?_
    refine g_bipush (v := 62) hC dX8_doubled_127 rfl ?_
    refine g_icmp_ne (tgt := 137) hC dX8_doubled_129 (by decide) (fun c12 => ?_) (fun c12 => ?_)
    · refine g_iconst (v := 1) hC dX8_doubled_137 rfl ?_
      exact g_iret hC rfl ⟨trivial, rfl⟩ (Nat.le_refl _) (Nat.le_refl _) dX8_doubled_138
    · refine g_bipush (v := 31) hC dX8_doubled_132 rfl ?_
      refine g_goto (tgt := 138) hC dX8_doubled_134 (by decide) ?_
      exact g_iret hC rfl ⟨trivial, rfl⟩ (Nat.le_refl _) (Nat.le_refl _) dX8_doubled_138
  have T13 : gG X d b (MQ X.be (va_Qi (fun r F' => True ∧ F' = F) (gB d b) (fun q => b ≤ q)) X.ar X.st 0 0 (fun q => b ≤ q)) F 0 0 139 [some (.int x), some (.int y)] [] := by
    refine g_iconst (v := 1) hC dX8_doubled_139 rfl ?_
    exact g_iret hC rfl ⟨trivial, rfl⟩ (Nat.le_refl _) (Nat.le_refl _) dX8_doubled_140
  exact g_lsw hC dX8_doubled_1 (by decide) (by decide) (by decide) (fun tgt ht => (by obtain rfl : tgt = 139 := (by omega); exact T13)) (List.forall_mem_cons.mpr ⟨fun (tgt : Nat) (ht : ((1 : Nat) : Int) + (125 : Int) = (tgt : Int)) => (by obtain rfl : tgt = 126 := (by omega); exact T11), List.forall_mem_cons.mpr ⟨fun (tgt : Nat) (ht : ((1 : Nat) : Int) + (51 : Int) = (tgt : Int)) => (by obtain rfl : tgt = 52 := (by omega); exact T1), List.forall_mem_cons.mpr ⟨fun (tgt : Nat) (ht : ((1 : Nat) : Int) + (77 : Int) = (tgt : Int)) => (by obtain rfl : tgt = 78 := (by omega); exact T5), List.forall_mem_cons.mpr ⟨fun (tgt : Nat) (ht : ((1 : Nat) : Int) + (101 : Int) = (tgt : Int)) => (by obtain rfl : tgt = 102 := (by omega); exact T8), List.forall_mem_cons.mpr ⟨fun (tgt : Nat) (ht : ((1 : Nat) : Int) + (64 : Int) = (tgt : Int)) => (by obtain rfl : tgt = 65 := (by omega); exact T3), fun _ h => nomatch h⟩⟩⟩⟩⟩)
theorem dX8_single_0 : decode cX8_single 0 = .ok (.iload_n 0, 1) := by decide +kernel
theorem dX8_single_1 : decode cX8_single 1 = .ok (.lookupswitch 209 #[(33, 170), (37, 173), (38, 203), (40, 155), (41, 158), (42, 185), (43, 179), (44, 161), (45, 182), (47, 188), (58, 167), (59, 164), (60, 194), (61, 191), (62, 197), (64, 176), (124, 206), (126, 200)], 155) := by decide +kernel
theorem dX8_single_156 : decode cX8_single 156 = .ok (.bipush 7, 2) := by decide +kernel
theorem dX8_single_158 : decode cX8_single 158 = .ok (.ireturn, 1) := by decide +kernel
theorem dX8_single_159 : decode cX8_single 159 = .ok (.bipush 8, 2) := by decide +kernel
theorem dX8_single_161 : decode cX8_single 161 = .ok (.ireturn, 1) := by decide +kernel
theorem dX8_single_162 : decode cX8_single 162 = .ok (.bipush 9, 2) := by decide +kernel
theorem dX8_single_164 : decode cX8_single 164 = .ok (.ireturn, 1) := by decide +kernel
theorem dX8_single_165 : decode cX8_single 165 = .ok (.bipush 10, 2) := by decide +kernel
theorem dX8_single_167 : decode cX8_single 167 = .ok (.ireturn, 1) := by decide +kernel
theorem dX8_single_168 : decode cX8_single 168 = .ok (.bipush 12, 2) := by decide +kernel
theorem dX8_single_170 : decode cX8_single 170 = .ok (.ireturn, 1) := by decide +kernel
theorem dX8_single_171 : decode cX8_single 171 = .ok (.bipush 13, 2) := by decide +kernel
theorem dX8_single_173 : decode cX8_single 173 = .ok (.ireturn, 1) := by decide +kernel
theorem dX8_single_174 : decode cX8_single 174 = .ok (.bipush 14, 2) := by decide +kernel
theorem dX8_single_176 : decode cX8_single 176 = .ok (.ireturn, 1) := by decide +kernel
theorem dX8_single_177 : decode cX8_single 177 = .ok (.bipush 15, 2) := by decide +kernel
theorem dX8_single_179 : decode cX8_single 179 = .ok (.ireturn, 1) := by decide +kernel
theorem dX8_single_180 : decode cX8_single 180 = .ok (.bipush 16, 2) := by decide +kernel
theorem dX8_single_182 : decode cX8_single 182 = .ok (.ireturn, 1) := by decide +kernel
theorem dX8_single_183 : decode cX8_single 183 = .ok (.bipush 17, 2) := by decide +kernel
theorem dX8_single_185 : decode cX8_single 185 = .ok (.ireturn, 1) := by decide +kernel
theorem dX8_single_186 : decode cX8_single 186 = .ok (.bipush 18, 2) := by decide +kernel
theorem dX8_single_188 : decode cX8_single 188 = .ok (.ireturn, 1) := by decide +kernel
theorem dX8_single_189 : decode cX8_single 189 = .ok (.bipush 19, 2) := by decide +kernel
theorem dX8_single_191 : decode cX8_single 191 = .ok (.ireturn, 1) := by decide +kernel
theorem dX8_single_192 : decode cX8_single 192 = .ok (.bipush 20, 2) := by decide +kernel
theorem dX8_single_194 : decode cX8_single 194 = .ok (.ireturn, 1) := by decide +kernel
theorem dX8_single_195 : decode cX8_single 195 = .ok (.bipush 22, 2) := by decide +kernel
theorem dX8_single_197 : decode cX8_single 197 = .ok (.ireturn, 1) := by decide +kernel
theorem dX8_single_198 : decode cX8_single 198 = .ok (.bipush 24, 2) := by decide +kernel
theorem dX8_single_200 : decode cX8_single 200 = .ok (.ireturn, 1) := by decide +kernel
theorem dX8_single_201 : decode cX8_single 201 = .ok (.bipush 28, 2) := by decide +kernel
theorem dX8_single_203 : decode cX8_single 203 = .ok (.ireturn, 1) := by decide +kernel
theorem dX8_single_204 : decode cX8_single 204 = .ok (.bipush 29, 2) := by decide +kernel
theorem dX8_single_206 : decode cX8_single 206 = .ok (.ireturn, 1) := by decide +kernel
theorem dX8_single_207 : decode cX8_single 207 = .ok (.bipush 30, 2) := by decide +kernel
theorem dX8_single_209 : decode cX8_single 209 = .ok (.ireturn, 1) := by decide +kernel
theorem dX8_single_210 : decode cX8_single 210 = .ok (.iconst 1, 1) := by decide +kernel
theorem dX8_single_211 : decode cX8_single 211 = .ok (.ireturn, 1) := by decide +kernel
set_option maxHeartbeats 4000000 in
set_option maxRecDepth 100000 in
theorem t_single (l : Launch) (d : gD) (b : Nat) (F : gM) (x : Int32) : gMi l d b yX8_single cX8_single 1 .int 2 0 0 F [.int x] (fun r F' => True ∧ F' = F) := by
  refine gM_of2 rfl (nL := 1) (Nat.le_of_ble_eq_true rfl) ?_
  intro X hX hC; subst hX
  show gG X d b _ F 0 0 0 [some (.int x)] []
  refine g_iload_n hC dX8_single_0 rfl ?_
  have T1 : gG X d b (MQ X.be (va_Qi (fun r F' => True ∧ F' = F) (gB d b) (fun q => b ≤ q)) X.ar X.st 0 0 (fun q => b ≤ q)) F 0 0 156 [some (.int x)] [] := by
    refine g_bipush (v := 7) hC dX8_single_156 rfl ?_
    exact g_iret hC rfl ⟨trivial, rfl⟩ (Nat.le_refl _) (Nat.le_refl _) dX8_single_158
  have T2 : gG X d b (MQ X.be (va_Qi (fun r F' => True ∧ F' = F) (gB d b) (fun q => b ≤ q)) X.ar X.st 0 0 (fun q => b ≤ q)) F 0 0 159 [some (.int x)] [] := by
    refine g_bipush (v := 8) hC dX8_single_159 rfl ?_
    exact g_iret hC rfl ⟨trivial, rfl⟩ (Nat.le_refl _) (Nat.le_refl _) dX8_single_161
  have T3 : gG X d b (MQ X.be (va_Qi (fun r F' => True ∧ F' = F) (gB d b) (fun q => b ≤ q)) X.ar X.st 0 0 (fun q => b ≤ q)) F 0 0 162 [some (.int x)] [] := by
    refine g_bipush (v := 9) hC dX8_single_162 rfl ?_
    exact g_iret hC rfl ⟨trivial, rfl⟩ (Nat.le_refl _) (Nat.le_refl _) dX8_single_164
  have T4 : gG X d b (MQ X.be (va_Qi (fun r F' => True ∧ F' = F) (gB d b) (fun q => b ≤ q)) X.ar X.st 0 0 (fun q => b ≤ q)) F 0 0 165 [some (.int x)] [] := by
    refine g_bipush (v := 10) hC dX8_single_165 rfl ?_
    exact g_iret hC rfl ⟨trivial, rfl⟩ (Nat.le_refl _) (Nat.le_refl _) dX8_single_167
  have T5 : gG X d b (MQ X.be (va_Qi (fun r F' => True ∧ F' = F) (gB d b) (fun q => b ≤ q)) X.ar X.st 0 0 (fun q => b ≤ q)) F 0 0 168 [some (.int x)] [] := by
    refine g_bipush (v := 12) hC dX8_single_168 rfl ?_
    exact g_iret hC rfl ⟨trivial, rfl⟩ (Nat.le_refl _) (Nat.le_refl _) dX8_single_170
  have T6 : gG X d b (MQ X.be (va_Qi (fun r F' => True ∧ F' = F) (gB d b) (fun q => b ≤ q)) X.ar X.st 0 0 (fun q => b ≤ q)) F 0 0 171 [some (.int x)] [] := by
    refine g_bipush (v := 13) hC dX8_single_171 rfl ?_
    exact g_iret hC rfl ⟨trivial, rfl⟩ (Nat.le_refl _) (Nat.le_refl _) dX8_single_173
  have T7 : gG X d b (MQ X.be (va_Qi (fun r F' => True ∧ F' = F) (gB d b) (fun q => b ≤ q)) X.ar X.st 0 0 (fun q => b ≤ q)) F 0 0 174 [some (.int x)] [] := by
    refine g_bipush (v := 14) hC dX8_single_174 rfl ?_
    exact g_iret hC rfl ⟨trivial, rfl⟩ (Nat.le_refl _) (Nat.le_refl _) dX8_single_176
  have T8 : gG X d b (MQ X.be (va_Qi (fun r F' => True ∧ F' = F) (gB d b) (fun q => b ≤ q)) X.ar X.st 0 0 (fun q => b ≤ q)) F 0 0 177 [some (.int x)] [] := by
    refine g_bipush (v := 15) hC dX8_single_177 rfl ?_
    exact g_iret hC rfl ⟨trivial, rfl⟩ (Nat.le_refl _) (Nat.le_refl _) dX8_single_179
  have T9 : gG X d b (MQ X.be (va_Qi (fun r F' => True ∧ F' = F) (gB d b) (fun q => b ≤ q)) X.ar X.st 0 0 (fun q => b ≤ q)) F 0 0 180 [some (.int x)] [] := by
    refine g_bipush (v := 16) hC dX8_single_180 rfl ?_
    exact g_iret hC rfl ⟨trivial, rfl⟩ (Nat.le_refl _) (Nat.le_refl _) dX8_single_182
  have T10 : gG X d b (MQ X.be (va_Qi (fun r F' => True ∧ F' = F) (gB d b) (fun q => b ≤ q)) X.ar X.st 0 0 (fun q => b ≤ q)) F 0 0 183 [some (.int x)] [] := by
    refine g_bipush (v := 17) hC dX8_single_183 rfl ?_
    exact g_iret hC rfl ⟨trivial, rfl⟩ (Nat.le_refl _) (Nat.le_refl _) dX8_single_185
  have T11 : gG X d b (MQ X.be (va_Qi (fun r F' => True ∧ F' = F) (gB d b) (fun q => b ≤ q)) X.ar X.st 0 0 (fun q => b ≤ q)) F 0 0 186 [some (.int x)] [] := by
    refine g_bipush (v := 18) hC dX8_single_186 rfl ?_
    exact g_iret hC rfl ⟨trivial, rfl⟩ (Nat.le_refl _) (Nat.le_refl _) dX8_single_188
  have T12 : gG X d b (MQ X.be (va_Qi (fun r F' => True ∧ F' = F) (gB d b) (fun q => b ≤ q)) X.ar X.st 0 0 (fun q => b ≤ q)) F 0 0 189 [some (.int x)] [] := by
    refine g_bipush (v := 19) hC dX8_single_189 rfl ?_
    exact g_iret hC rfl ⟨trivial, rfl⟩ (Nat.le_refl _) (Nat.le_refl _) dX8_single_191
  have T13 : gG X d b (MQ X.be (va_Qi (fun r F' => True ∧ F' = F) (gB d b) (fun q => b ≤ q)) X.ar X.st 0 0 (fun q => b ≤ q)) F 0 0 192 [some (.int x)] [] := by
    refine g_bipush (v := 20) hC dX8_single_192 rfl ?_
    exact g_iret hC rfl ⟨trivial, rfl⟩ (Nat.le_refl _) (Nat.le_refl _) dX8_single_194
  have T14 : gG X d b (MQ X.be (va_Qi (fun r F' => True ∧ F' = F) (gB d b) (fun q => b ≤ q)) X.ar X.st 0 0 (fun q => b ≤ q)) F 0 0 195 [some (.int x)] [] := by
    refine g_bipush (v := 22) hC dX8_single_195 rfl ?_
    exact g_iret hC rfl ⟨trivial, rfl⟩ (Nat.le_refl _) (Nat.le_refl _) dX8_single_197
  have T15 : gG X d b (MQ X.be (va_Qi (fun r F' => True ∧ F' = F) (gB d b) (fun q => b ≤ q)) X.ar X.st 0 0 (fun q => b ≤ q)) F 0 0 198 [some (.int x)] [] := by
    refine g_bipush (v := 24) hC dX8_single_198 rfl ?_
    exact g_iret hC rfl ⟨trivial, rfl⟩ (Nat.le_refl _) (Nat.le_refl _) dX8_single_200
  have T16 : gG X d b (MQ X.be (va_Qi (fun r F' => True ∧ F' = F) (gB d b) (fun q => b ≤ q)) X.ar X.st 0 0 (fun q => b ≤ q)) F 0 0 201 [some (.int x)] [] := by
    refine g_bipush (v := 28) hC dX8_single_201 rfl ?_
    exact g_iret hC rfl ⟨trivial, rfl⟩ (Nat.le_refl _) (Nat.le_refl _) dX8_single_203
  have T17 : gG X d b (MQ X.be (va_Qi (fun r F' => True ∧ F' = F) (gB d b) (fun q => b ≤ q)) X.ar X.st 0 0 (fun q => b ≤ q)) F 0 0 204 [some (.int x)] [] := by
    refine g_bipush (v := 29) hC dX8_single_204 rfl ?_
    exact g_iret hC rfl ⟨trivial, rfl⟩ (Nat.le_refl _) (Nat.le_refl _) dX8_single_206
  have T18 : gG X d b (MQ X.be (va_Qi (fun r F' => True ∧ F' = F) (gB d b) (fun q => b ≤ q)) X.ar X.st 0 0 (fun q => b ≤ q)) F 0 0 207 [some (.int x)] [] := by
    refine g_bipush (v := 30) hC dX8_single_207 rfl ?_
    exact g_iret hC rfl ⟨trivial, rfl⟩ (Nat.le_refl _) (Nat.le_refl _) dX8_single_209
  have T19 : gG X d b (MQ X.be (va_Qi (fun r F' => True ∧ F' = F) (gB d b) (fun q => b ≤ q)) X.ar X.st 0 0 (fun q => b ≤ q)) F 0 0 210 [some (.int x)] [] := by
    refine g_iconst (v := 1) hC dX8_single_210 rfl ?_
    exact g_iret hC rfl ⟨trivial, rfl⟩ (Nat.le_refl _) (Nat.le_refl _) dX8_single_211
  exact g_lsw hC dX8_single_1 (by decide) (by decide) (by decide) (fun tgt ht => (by obtain rfl : tgt = 210 := (by omega); exact T19)) (List.forall_mem_cons.mpr ⟨fun (tgt : Nat) (ht : ((1 : Nat) : Int) + (170 : Int) = (tgt : Int)) => (by obtain rfl : tgt = 171 := (by omega); exact T6), List.forall_mem_cons.mpr ⟨fun (tgt : Nat) (ht : ((1 : Nat) : Int) + (173 : Int) = (tgt : Int)) => (by obtain rfl : tgt = 174 := (by omega); exact T7), List.forall_mem_cons.mpr ⟨fun (tgt : Nat) (ht : ((1 : Nat) : Int) + (203 : Int) = (tgt : Int)) => (by obtain rfl : tgt = 204 := (by omega); exact T17), List.forall_mem_cons.mpr ⟨fun (tgt : Nat) (ht : ((1 : Nat) : Int) + (155 : Int) = (tgt : Int)) => (by obtain rfl : tgt = 156 := (by omega); exact T1), List.forall_mem_cons.mpr ⟨fun (tgt : Nat) (ht : ((1 : Nat) : Int) + (158 : Int) = (tgt : Int)) => (by obtain rfl : tgt = 159 := (by omega); exact T2), List.forall_mem_cons.mpr ⟨fun (tgt : Nat) (ht : ((1 : Nat) : Int) + (185 : Int) = (tgt : Int)) => (by obtain rfl : tgt = 186 := (by omega); exact T11), List.forall_mem_cons.mpr ⟨fun (tgt : Nat) (ht : ((1 : Nat) : Int) + (179 : Int) = (tgt : Int)) => (by obtain rfl : tgt = 180 := (by omega); exact T9), List.forall_mem_cons.mpr ⟨fun (tgt : Nat) (ht : ((1 : Nat) : Int) + (161 : Int) = (tgt : Int)) => (by obtain rfl : tgt = 162 := (by omega); exact T3), List.forall_mem_cons.mpr ⟨fun (tgt : Nat) (ht : ((1 : Nat) : Int) + (182 : Int) = (tgt : Int)) => (by obtain rfl : tgt = 183 := (by omega); exact T10), List.forall_mem_cons.mpr ⟨fun (tgt : Nat) (ht : ((1 : Nat) : Int) + (188 : Int) = (tgt : Int)) => (by obtain rfl : tgt = 189 := (by omega); exact T12), List.forall_mem_cons.mpr ⟨fun (tgt : Nat) (ht : ((1 : Nat) : Int) + (167 : Int) = (tgt : Int)) => (by obtain rfl : tgt = 168 := (by omega); exact T5), List.forall_mem_cons.mpr ⟨fun (tgt : Nat) (ht : ((1 : Nat) : Int) + (164 : Int) = (tgt : Int)) => (by obtain rfl : tgt = 165 := (by omega); exact T4), List.forall_mem_cons.mpr ⟨fun (tgt : Nat) (ht : ((1 : Nat) : Int) + (194 : Int) = (tgt : Int)) => (by obtain rfl : tgt = 195 := (by omega); exact T14), List.forall_mem_cons.mpr ⟨fun (tgt : Nat) (ht : ((1 : Nat) : Int) + (191 : Int) = (tgt : Int)) => (by obtain rfl : tgt = 192 := (by omega); exact T13), List.forall_mem_cons.mpr ⟨fun (tgt : Nat) (ht : ((1 : Nat) : Int) + (197 : Int) = (tgt : Int)) => (by obtain rfl : tgt = 198 := (by omega); exact T15), List.forall_mem_cons.mpr ⟨fun (tgt : Nat) (ht : ((1 : Nat) : Int) + (176 : Int) = (tgt : Int)) => (by obtain rfl : tgt = 177 := (by omega); exact T8), List.forall_mem_cons.mpr ⟨fun (tgt : Nat) (ht : ((1 : Nat) : Int) + (206 : Int) = (tgt : Int)) => (by obtain rfl : tgt = 207 := (by omega); exact T18), List.forall_mem_cons.mpr ⟨fun (tgt : Nat) (ht : ((1 : Nat) : Int) + (200 : Int) = (tgt : Int)) => (by obtain rfl : tgt = 201 := (by omega); exact T16), fun _ h => nomatch h⟩⟩⟩⟩⟩⟩⟩⟩⟩⟩⟩⟩⟩⟩⟩⟩⟩⟩)
theorem dX6_isRepeat_0 : decode cX6_isRepeat 0 = .ok (.iload_n 0, 1) := by decide +kernel
theorem dX6_isRepeat_1 : decode cX6_isRepeat 1 = .ok (.bipush 67, 2) := by decide +kernel
theorem dX6_isRepeat_3 : decode cX6_isRepeat 3 = .ok (.if_icmp .lt 13, 3) := by decide +kernel
theorem dX6_isRepeat_6 : decode cX6_isRepeat 6 = .ok (.iload_n 0, 1) := by decide +kernel
theorem dX6_isRepeat_7 : decode cX6_isRepeat 7 = .ok (.bipush 69, 2) := by decide +kernel
theorem dX6_isRepeat_9 : decode cX6_isRepeat 9 = .ok (.if_icmp .gt 7, 3) := by decide +kernel
theorem dX6_isRepeat_12 : decode cX6_isRepeat 12 = .ok (.iconst 1, 1) := by decide +kernel
theorem dX6_isRepeat_13 : decode cX6_isRepeat 13 = .ok (.goto 4, 3) := by decide +kernel
theorem dX6_isRepeat_16 : decode cX6_isRepeat 16 = .ok (.iconst 0, 1) := by decide +kernel
theorem dX6_isRepeat_17 : decode cX6_isRepeat 17 = .ok (.ireturn, 1) := by decide +kernel
set_option maxHeartbeats 4000000 in
set_option maxRecDepth 100000 in
theorem t_isRepeat (l : Launch) (d : gD) (b : Nat) (F : gM) (x : Int32) : gMi l d b yX6_isRepeat cX6_isRepeat 1 .boolean 0 0 0 F [.int x] (fun r F' => (r = 0 ∨ r = 1) ∧ F' = F) := by
  refine gM_of2 rfl (nL := 1) (Nat.le_of_ble_eq_true rfl) ?_
  intro X hX hC; subst hX
  show gG X d b _ F 0 0 0 [some (.int x)] []
  refine g_iload_n hC dX6_isRepeat_0 rfl ?_
  refine g_bipush (v := 67) hC dX6_isRepeat_1 rfl ?_
  refine g_icmp_lt (tgt := 16) hC dX6_isRepeat_3 (by decide) (fun c1 => ?_) (fun c1 => ?_)
  · refine g_iconst (v := 0) hC dX6_isRepeat_16 rfl ?_
    exact g_iret hC (gnb (Or.inl rfl)) ⟨Or.inl rfl, rfl⟩ (Nat.le_refl _) (Nat.le_refl _) dX6_isRepeat_17
  · refine g_iload_n hC dX6_isRepeat_6 rfl ?_
    refine g_bipush (v := 69) hC dX6_isRepeat_7 rfl ?_
    refine g_icmp_gt (tgt := 16) hC dX6_isRepeat_9 (by decide) (fun c2 => ?_) (fun c2 => ?_)
    · refine g_iconst (v := 0) hC dX6_isRepeat_16 rfl ?_
      exact g_iret hC (gnb (Or.inl rfl)) ⟨Or.inl rfl, rfl⟩ (Nat.le_refl _) (Nat.le_refl _) dX6_isRepeat_17
    · refine g_iconst (v := 1) hC dX6_isRepeat_12 rfl ?_
      refine g_goto (tgt := 17) hC dX6_isRepeat_13 (by decide) ?_
      exact g_iret hC (gnb (Or.inr rfl)) ⟨Or.inr rfl, rfl⟩ (Nat.le_refl _) (Nat.le_refl _) dX6_isRepeat_17
theorem dX0_isBlank_0 : decode cX0_isBlank 0 = .ok (.iload_n 0, 1) := by decide +kernel
theorem dX0_isBlank_1 : decode cX0_isBlank 1 = .ok (.bipush 32, 2) := by decide +kernel
theorem dX0_isBlank_3 : decode cX0_isBlank 3 = .ok (.if_icmp .eq 21, 3) := by decide +kernel
theorem dX0_isBlank_6 : decode cX0_isBlank 6 = .ok (.iload_n 0, 1) := by decide +kernel
theorem dX0_isBlank_7 : decode cX0_isBlank 7 = .ok (.bipush 9, 2) := by decide +kernel
theorem dX0_isBlank_9 : decode cX0_isBlank 9 = .ok (.if_icmp .eq 15, 3) := by decide +kernel
theorem dX0_isBlank_12 : decode cX0_isBlank 12 = .ok (.iload_n 0, 1) := by decide +kernel
theorem dX0_isBlank_13 : decode cX0_isBlank 13 = .ok (.bipush 10, 2) := by decide +kernel
theorem dX0_isBlank_15 : decode cX0_isBlank 15 = .ok (.if_icmp .eq 9, 3) := by decide +kernel
theorem dX0_isBlank_18 : decode cX0_isBlank 18 = .ok (.iload_n 0, 1) := by decide +kernel
theorem dX0_isBlank_19 : decode cX0_isBlank 19 = .ok (.bipush 13, 2) := by decide +kernel
theorem dX0_isBlank_21 : decode cX0_isBlank 21 = .ok (.if_icmp .ne 7, 3) := by decide +kernel
theorem dX0_isBlank_24 : decode cX0_isBlank 24 = .ok (.iconst 1, 1) := by decide +kernel
theorem dX0_isBlank_25 : decode cX0_isBlank 25 = .ok (.goto 4, 3) := by decide +kernel
theorem dX0_isBlank_28 : decode cX0_isBlank 28 = .ok (.iconst 0, 1) := by decide +kernel
theorem dX0_isBlank_29 : decode cX0_isBlank 29 = .ok (.ireturn, 1) := by decide +kernel
set_option maxHeartbeats 4000000 in
set_option maxRecDepth 100000 in
theorem t_isBlank (l : Launch) (d : gD) (b : Nat) (F : gM) (x : Int32) : gMi l d b yX0_isBlank cX0_isBlank 1 .boolean 0 0 0 F [.int x] (fun r F' => (r = 0 ∨ r = 1) ∧ F' = F) := by
  refine gM_of2 rfl (nL := 1) (Nat.le_of_ble_eq_true rfl) ?_
  intro X hX hC; subst hX
  show gG X d b _ F 0 0 0 [some (.int x)] []
  refine g_iload_n hC dX0_isBlank_0 rfl ?_
  refine g_bipush (v := 32) hC dX0_isBlank_1 rfl ?_
  refine g_icmp_eq (tgt := 24) hC dX0_isBlank_3 (by decide) (fun c1 => ?_) (fun c1 => ?_)
  · refine g_iconst (v := 1) hC dX0_isBlank_24 rfl ?_
    refine g_goto (tgt := 29) hC dX0_isBlank_25 (by decide) ?_
    exact g_iret hC (gnb (Or.inr rfl)) ⟨Or.inr rfl, rfl⟩ (Nat.le_refl _) (Nat.le_refl _) dX0_isBlank_29
  · refine g_iload_n hC dX0_isBlank_6 rfl ?_
    refine g_bipush (v := 9) hC dX0_isBlank_7 rfl ?_
    refine g_icmp_eq (tgt := 24) hC dX0_isBlank_9 (by decide) (fun c2 => ?_) (fun c2 => ?_)
    · refine g_iconst (v := 1) hC dX0_isBlank_24 rfl ?_
      refine g_goto (tgt := 29) hC dX0_isBlank_25 (by decide) ?_
      exact g_iret hC (gnb (Or.inr rfl)) ⟨Or.inr rfl, rfl⟩ (Nat.le_refl _) (Nat.le_refl _) dX0_isBlank_29
    · refine g_iload_n hC dX0_isBlank_12 rfl ?_
      refine g_bipush (v := 10) hC dX0_isBlank_13 rfl ?_
      refine g_icmp_eq (tgt := 24) hC dX0_isBlank_15 (by decide) (fun c3 => ?_) (fun c3 => ?_)
      · refine g_iconst (v := 1) hC dX0_isBlank_24 rfl ?_
        refine g_goto (tgt := 29) hC dX0_isBlank_25 (by decide) ?_
        exact g_iret hC (gnb (Or.inr rfl)) ⟨Or.inr rfl, rfl⟩ (Nat.le_refl _) (Nat.le_refl _) dX0_isBlank_29
      · refine g_iload_n hC dX0_isBlank_18 rfl ?_
        refine g_bipush (v := 13) hC dX0_isBlank_19 rfl ?_
        refine g_icmp_ne (tgt := 28) hC dX0_isBlank_21 (by decide) (fun c4 => ?_) (fun c4 => ?_)
        · refine g_iconst (v := 0) hC dX0_isBlank_28 rfl ?_
          exact g_iret hC (gnb (Or.inl rfl)) ⟨Or.inl rfl, rfl⟩ (Nat.le_refl _) (Nat.le_refl _) dX0_isBlank_29
        · refine g_iconst (v := 1) hC dX0_isBlank_24 rfl ?_
          refine g_goto (tgt := 29) hC dX0_isBlank_25 (by decide) ?_
          exact g_iret hC (gnb (Or.inr rfl)) ⟨Or.inr rfl, rfl⟩ (Nat.le_refl _) (Nat.le_refl _) dX0_isBlank_29
theorem dX5_isBetween_0 : decode cX5_isBetween 0 = .ok (.iload_n 0, 1) := by decide +kernel
theorem dX5_isBetween_1 : decode cX5_isBetween 1 = .ok (.iload_n 1, 1) := by decide +kernel
theorem dX5_isBetween_2 : decode cX5_isBetween 2 = .ok (.if_icmp .lt 14, 3) := by decide +kernel
theorem dX5_isBetween_5 : decode cX5_isBetween 5 = .ok (.iload_n 0, 1) := by decide +kernel
theorem dX5_isBetween_6 : decode cX5_isBetween 6 = .ok (.iload_n 1, 1) := by decide +kernel
theorem dX5_isBetween_7 : decode cX5_isBetween 7 = .ok (.isub, 1) := by decide +kernel
theorem dX5_isBetween_8 : decode cX5_isBetween 8 = .ok (.iload_n 2, 1) := by decide +kernel
theorem dX5_isBetween_9 : decode cX5_isBetween 9 = .ok (.if_icmp .ge 7, 3) := by decide +kernel
theorem dX5_isBetween_12 : decode cX5_isBetween 12 = .ok (.iconst 1, 1) := by decide +kernel
theorem dX5_isBetween_13 : decode cX5_isBetween 13 = .ok (.goto 4, 3) := by decide +kernel
theorem dX5_isBetween_16 : decode cX5_isBetween 16 = .ok (.iconst 0, 1) := by decide +kernel
theorem dX5_isBetween_17 : decode cX5_isBetween 17 = .ok (.ireturn, 1) := by decide +kernel
set_option maxHeartbeats 4000000 in
set_option maxRecDepth 100000 in
theorem t_isBetween (l : Launch) (d : gD) (b : Nat) (F : gM) (x y z : Int32) : gMi l d b yX5_isBetween cX5_isBetween 3 .boolean 0 0 0 F [.int x, .int y, .int z] (fun r F' => (r = 0 ∨ r = 1) ∧ F' = F) := by
  refine gM_of2 rfl (nL := 3) (Nat.le_of_ble_eq_true rfl) ?_
  intro X hX hC; subst hX
  show gG X d b _ F 0 0 0 [some (.int x), some (.int y), some (.int z)] []
  refine g_iload_n hC dX5_isBetween_0 rfl ?_
  refine g_iload_n hC dX5_isBetween_1 rfl ?_
  refine g_icmp_lt (tgt := 16) hC dX5_isBetween_2 (by decide) (fun c1 => ?_) (fun c1 => ?_)
  · refine g_iconst (v := 0) hC dX5_isBetween_16 rfl ?_
    exact g_iret hC (gnb (Or.inl rfl)) ⟨Or.inl rfl, rfl⟩ (Nat.le_refl _) (Nat.le_refl _) dX5_isBetween_17
  · refine g_iload_n hC dX5_isBetween_5 rfl ?_
    refine g_iload_n hC dX5_isBetween_6 rfl ?_
    refine g_isub hC dX5_isBetween_7 ?_
    refine g_vi (fun x2 ex2 => ?_)
    refine g_iload_n hC dX5_isBetween_8 rfl ?_
    refine g_icmp_ge (tgt := 16) hC dX5_isBetween_9 (by decide) (fun c3 => ?_) (fun c3 => ?_)
    · refine g_iconst (v := 0) hC dX5_isBetween_16 rfl ?_
      exact g_iret hC (gnb (Or.inl rfl)) ⟨Or.inl rfl, rfl⟩ (Nat.le_refl _) (Nat.le_refl _) dX5_isBetween_17
    · refine g_iconst (v := 1) hC dX5_isBetween_12 rfl ?_
      refine g_goto (tgt := 17) hC dX5_isBetween_13 (by decide) ?_
      exact g_iret hC (gnb (Or.inr rfl)) ⟨Or.inr rfl, rfl⟩ (Nat.le_refl _) (Nat.le_refl _) dX5_isBetween_17
