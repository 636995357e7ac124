theorem kw_2449 : Cond.code yX12_goal cX12_goal 5 none ∈ gWs := gWm 2449 (by decide +kernel) rfl
theorem kw_2446 : Cond.methodLink RX12 534 yX12_goal ∈ gWs := gWm 2446 (by decide +kernel) rfl
theorem kw_2448 : Cond.instanceMethod yX12_goal ∈ gWs := gWm 2448 (by decide +kernel) rfl
theorem kw_136 : Cond.selects RX12 yX12_goal yX12_goal ∈ gWs := gWm 136 (by decide +kernel) rfl
theorem cl_X12_534 : gCV RX12 534 yX12_goal cX12_goal 5 none 4 := ⟨g_mk [.methodLink RX12 534 yX12_goal, .instanceMethod yX12_goal, .selects yX12_goal.cls yX12_goal yX12_goal, .initialized yX12_goal.cls] (gWs_all kw_2449) (List.forall_mem_cons.mpr ⟨kw_2446, List.forall_mem_cons.mpr ⟨kw_2448, List.forall_mem_cons.mpr ⟨kw_136, List.forall_mem_cons.mpr ⟨kw_257, fun _ h => nomatch h⟩⟩⟩⟩), rfl, by decide +kernel, by decide +kernel, by decide +kernel⟩
theorem kw_2461 : Cond.code yX12_tk cX12_tk 1 (some .int) ∈ gWs := gWm 2461 (by decide +kernel) rfl
theorem kw_2458 : Cond.methodLink RX12 526 yX12_tk ∈ gWs := gWm 2458 (by decide +kernel) rfl
theorem kw_2460 : Cond.instanceMethod yX12_tk ∈ gWs := gWm 2460 (by decide +kernel) rfl
theorem kw_139 : Cond.selects RX12 yX12_tk yX12_tk ∈ gWs := gWm 139 (by decide +kernel) rfl
theorem cl_X12_526 : gCV RX12 526 yX12_tk cX12_tk 1 (some .int) 0 := ⟨g_mk [.methodLink RX12 526 yX12_tk, .instanceMethod yX12_tk, .selects yX12_tk.cls yX12_tk yX12_tk, .initialized yX12_tk.cls] (gWs_all kw_2461) (List.forall_mem_cons.mpr ⟨kw_2458, List.forall_mem_cons.mpr ⟨kw_2460, List.forall_mem_cons.mpr ⟨kw_139, List.forall_mem_cons.mpr ⟨kw_257, fun _ h => nomatch h⟩⟩⟩⟩), rfl, by decide +kernel, by decide +kernel, by decide +kernel⟩
theorem kw_2507 : Cond.code yX12_isD cX12_isD 1 (some .boolean) ∈ gWs := gWm 2507 (by decide +kernel) rfl
theorem kw_2505 : Cond.methodLink RX12 561 yX12_isD ∈ gWs := gWm 2505 (by decide +kernel) rfl
theorem kw_2506 : Cond.static yX12_isD ∈ gWs := gWm 2506 (by decide +kernel) rfl
theorem cl_X12_561 : gCS RX12 561 yX12_isD cX12_isD 1 (some .boolean) 1 := ⟨g_mk [.methodLink RX12 561 yX12_isD, .static yX12_isD, .initialized yX12_isD.cls] (gWs_all kw_2507) (List.forall_mem_cons.mpr ⟨kw_2505, List.forall_mem_cons.mpr ⟨kw_2506, List.forall_mem_cons.mpr ⟨kw_257, fun _ h => nomatch h⟩⟩⟩), ⟨by decide +kernel, by decide +kernel, by decide +kernel⟩⟩
theorem gMt10 : ∀ w ∈ tables_1_10, w ∈ lw_tbl := fun w h => List.mem_append_right _ (List.mem_append_right _ (List.mem_append_right _ (List.mem_append_right _ (List.mem_append_right _ (List.mem_append_right _ (List.mem_append_right _ (List.mem_append_right _ (List.mem_append_right _ (List.mem_append_right _ (List.mem_append_left _ h))))))))))
theorem kw_2504 : Cond.code yX12_reachD cX12_reachD 9 (some .boolean) ∈ gWs := List.mem_filter.mpr ⟨gMt10 _ (List.mem_of_getElem? (i := 107) rfl), rfl⟩
theorem kw_2501 : Cond.methodLink RX12 555 yX12_reachD ∈ gWs := gWm 2501 (by decide +kernel) rfl
theorem kw_2503 : Cond.instanceMethod yX12_reachD ∈ gWs := gWm 2503 (by decide +kernel) rfl
theorem kw_149 : Cond.selects RX12 yX12_reachD yX12_reachD ∈ gWs := gWm 149 (by decide +kernel) rfl
theorem cl_X12_555 : gCV RX12 555 yX12_reachD cX12_reachD 9 (some .boolean) 4 := ⟨g_mk [.methodLink RX12 555 yX12_reachD, .instanceMethod yX12_reachD, .selects yX12_reachD.cls yX12_reachD yX12_reachD, .initialized yX12_reachD.cls] (gWs_all kw_2504) (List.forall_mem_cons.mpr ⟨kw_2501, List.forall_mem_cons.mpr ⟨kw_2503, List.forall_mem_cons.mpr ⟨kw_149, List.forall_mem_cons.mpr ⟨kw_257, fun _ h => nomatch h⟩⟩⟩⟩), rfl, by decide +kernel, by decide +kernel, by decide +kernel⟩
def gVr (f f' : Nat → Value) (js : List Nat) : Prop := ∀ j, j ∉ js → f' j = f j
theorem gVr.rf {f : Nat → Value} {js : List Nat} : gVr f f js := fun _ _ => rfl
theorem gVr.put {f f1 f2 : Nat → Value} {js : List Nat} {j : Nat} {v : Value} (h : gVr f f1 js) (e : f2 = va_up f1 j v) (hj : j ∈ js) : gVr f f2 js := fun x hx => by
  rw [e, va_up_ne _ _ (fun z => hx (by rw [z]; exact hj))]
  exact h x hx
theorem gVr.tr {f f1 f2 : Nat → Value} {js ks : List Nat} (h : gVr f f1 js) (h2 : gVr f1 f2 ks) (hs : ks.all (fun z => js.contains z) = true) : gVr f f2 js := fun x hx => (h2 x (fun z => hx (gsub hs z))).trans (h x hx)
theorem dX12_tk_0 : decode cX12_tk 0 = .ok (.aload_n 0, 1) := by decide +kernel
theorem dX12_tk_1 : decode cX12_tk 1 = .ok (.getfield 142, 3) := by decide +kernel
theorem dX12_tk_4 : decode cX12_tk 4 = .ok (.aload_n 0, 1) := by decide +kernel
theorem dX12_tk_5 : decode cX12_tk 5 = .ok (.getfield 36, 3) := by decide +kernel
theorem dX12_tk_8 : decode cX12_tk 8 = .ok (.if_icmp .ge 15, 3) := by decide +kernel
theorem dX12_tk_11 : decode cX12_tk 11 = .ok (.aload_n 0, 1) := by decide +kernel
theorem dX12_tk_12 : decode cX12_tk 12 = .ok (.getfield 39, 3) := by decide +kernel
theorem dX12_tk_15 : decode cX12_tk 15 = .ok (.aload_n 0, 1) := by decide +kernel
theorem dX12_tk_16 : decode cX12_tk 16 = .ok (.getfield 142, 3) := by decide +kernel
theorem dX12_tk_19 : decode cX12_tk 19 = .ok (.iaload, 1) := by decide +kernel
theorem dX12_tk_20 : decode cX12_tk 20 = .ok (.goto 4, 3) := by decide +kernel
theorem dX12_tk_23 : decode cX12_tk 23 = .ok (.iconst 0, 1) := by decide +kernel
theorem dX12_tk_24 : decode cX12_tk 24 = .ok (.ireturn, 1) := by decide +kernel
set_option maxHeartbeats 4000000 in
set_option maxRecDepth 100000 in
theorem r_tk (l : Launch) (d : gD) (b : Nat) (F : gM) (t : Nat) (f : Nat → Value)  (h : gRo F t f) (hv43 : f 43 = .int 0) (hv8 : f 8 = .int 0)   : gMi l d b yX12_tk cX12_tk 1 .int 0 0 0 F [.ref t] (fun r F' => r = 0 ∧ F' = F) := by
  refine gM_of2 rfl (nL := 1) (Nat.le_of_ble_eq_true rfl) ?_
  intro X hX hC; subst hX
  show gG X d b _ F 0 0 0 [some (.ref t)] []
  refine g_aload_n hC dX12_tk_0 rfl ?_
  refine g_rget hC h fl_X12_142 hv43 (by decide) dX12_tk_1 ?_
  refine g_aload_n hC dX12_tk_4 rfl ?_
  refine g_rget hC h fl_X12_36 hv8 (by decide) dX12_tk_5 ?_
  refine g_icmp_ge (tgt := 23) hC dX12_tk_8 (by decide) (fun _ => ?_) (fun c1 => False.elim (by revert c1; decide))
  refine g_iconst (v := 0) hC dX12_tk_23 rfl ?_
  exact g_iret hC rfl ⟨rfl, rfl⟩ (by first | exact Nat.le_of_ble_eq_true rfl | omega | (simp only [gR]; omega)) (by first | exact Nat.le_of_ble_eq_true rfl | omega | (simp only [gR]; omega)) dX12_tk_24
theorem dX12_isD_0 : decode cX12_isD 0 = .ok (.iload_n 0, 1) := by decide +kernel
theorem dX12_isD_1 : decode cX12_isD 1 = .ok (.bipush 40, 2) := by decide +kernel
theorem dX12_isD_3 : decode cX12_isD 3 = .ok (.if_icmp .eq 21, 3) := by decide +kernel
theorem dX12_isD_6 : decode cX12_isD 6 = .ok (.iload_n 0, 1) := by decide +kernel
theorem dX12_isD_7 : decode cX12_isD 7 = .ok (.bipush 41, 2) := by decide +kernel
theorem dX12_isD_9 : decode cX12_isD 9 = .ok (.if_icmp .eq 15, 3) := by decide +kernel
theorem dX12_isD_12 : decode cX12_isD 12 = .ok (.iload_n 0, 1) := by decide +kernel
theorem dX12_isD_13 : decode cX12_isD 13 = .ok (.bipush 42, 2) := by decide +kernel
theorem dX12_isD_15 : decode cX12_isD 15 = .ok (.if_icmp .eq 9, 3) := by decide +kernel
theorem dX12_isD_18 : decode cX12_isD 18 = .ok (.iload_n 0, 1) := by decide +kernel
theorem dX12_isD_19 : decode cX12_isD 19 = .ok (.bipush 43, 2) := by decide +kernel
theorem dX12_isD_21 : decode cX12_isD 21 = .ok (.if_icmp .ne 7, 3) := by decide +kernel
theorem dX12_isD_24 : decode cX12_isD 24 = .ok (.iconst 1, 1) := by decide +kernel
theorem dX12_isD_25 : decode cX12_isD 25 = .ok (.goto 4, 3) := by decide +kernel
theorem dX12_isD_28 : decode cX12_isD 28 = .ok (.iconst 0, 1) := by decide +kernel
theorem dX12_isD_29 : decode cX12_isD 29 = .ok (.ireturn, 1) := by decide +kernel
set_option maxHeartbeats 4000000 in
set_option maxRecDepth 100000 in
theorem r_isD (l : Launch) (d : gD) (b : Nat) (F : gM) : gMi l d b yX12_isD cX12_isD 1 .boolean 0 0 0 F [.int 0] (fun r F' => r = 0 ∧ F' = F) := by
  refine gM_of2 rfl (nL := 1) (Nat.le_of_ble_eq_true rfl) ?_
  intro X hX hC; subst hX
  show gG X d b _ F 0 0 0 [some (.int 0)] []
  refine g_iload_n hC dX12_isD_0 rfl ?_
  refine g_bipush (v := 40) hC dX12_isD_1 rfl ?_
  refine g_icmp_eq (tgt := 24) hC dX12_isD_3 (by decide) (fun c1 => False.elim (by revert c1; decide)) (fun _ => ?_)
  refine g_iload_n hC dX12_isD_6 rfl ?_
  refine g_bipush (v := 41) hC dX12_isD_7 rfl ?_
  refine g_icmp_eq (tgt := 24) hC dX12_isD_9 (by decide) (fun c2 => False.elim (by revert c2; decide)) (fun _ => ?_)
  refine g_iload_n hC dX12_isD_12 rfl ?_
  refine g_bipush (v := 42) hC dX12_isD_13 rfl ?_
  refine g_icmp_eq (tgt := 24) hC dX12_isD_15 (by decide) (fun c3 => False.elim (by revert c3; decide)) (fun _ => ?_)
  refine g_iload_n hC dX12_isD_18 rfl ?_
  refine g_bipush (v := 43) hC dX12_isD_19 rfl ?_
  refine g_icmp_ne (tgt := 28) hC dX12_isD_21 (by decide) (fun _ => ?_) (fun c4 => False.elim (by revert c4; decide))
  refine g_iconst (v := 0) hC dX12_isD_28 rfl ?_
  exact g_iret hC rfl ⟨rfl, rfl⟩ (by first | exact Nat.le_of_ble_eq_true rfl | omega | (simp only [gR]; omega)) (by first | exact Nat.le_of_ble_eq_true rfl | omega | (simp only [gR]; omega)) dX12_isD_29
theorem dX12_scan_0 : decode cX12_scan 0 = .ok (.aload_n 0, 1) := by decide +kernel
theorem dX12_scan_1 : decode cX12_scan 1 = .ok (.iconst 0, 1) := by decide +kernel
theorem dX12_scan_2 : decode cX12_scan 2 = .ok (.putfield 36, 3) := by decide +kernel
theorem dX12_scan_5 : decode cX12_scan 5 = .ok (.aload_n 0, 1) := by decide +kernel
theorem dX12_scan_6 : decode cX12_scan 6 = .ok (.iconst 0, 1) := by decide +kernel
theorem dX12_scan_7 : decode cX12_scan 7 = .ok (.putfield 26, 3) := by decide +kernel
theorem dX12_scan_10 : decode cX12_scan 10 = .ok (.aload_n 0, 1) := by decide +kernel
theorem dX12_scan_11 : decode cX12_scan 11 = .ok (.iconst 0, 1) := by decide +kernel
theorem dX12_scan_12 : decode cX12_scan 12 = .ok (.putfield 66, 3) := by decide +kernel
theorem dX12_scan_15 : decode cX12_scan 15 = .ok (.aload_n 0, 1) := by decide +kernel
theorem dX12_scan_16 : decode cX12_scan 16 = .ok (.iconst 0, 1) := by decide +kernel
theorem dX12_scan_17 : decode cX12_scan 17 = .ok (.putfield 57, 3) := by decide +kernel
theorem dX12_scan_20 : decode cX12_scan 20 = .ok (.aload_n 0, 1) := by decide +kernel
theorem dX12_scan_21 : decode cX12_scan 21 = .ok (.iconst 0, 1) := by decide +kernel
theorem dX12_scan_22 : decode cX12_scan 22 = .ok (.putfield 69, 3) := by decide +kernel
theorem dX12_scan_25 : decode cX12_scan 25 = .ok (.aload_n 0, 1) := by decide +kernel
theorem dX12_scan_26 : decode cX12_scan 26 = .ok (.iconst 0, 1) := by decide +kernel
theorem dX12_scan_27 : decode cX12_scan 27 = .ok (.putfield 72, 3) := by decide +kernel
theorem dX12_scan_30 : decode cX12_scan 30 = .ok (.iconst 0, 1) := by decide +kernel
theorem dX12_scan_31 : decode cX12_scan 31 = .ok (.istore_n 1, 1) := by decide +kernel
theorem dX12_scan_32 : decode cX12_scan 32 = .ok (.iload_n 1, 1) := by decide +kernel
theorem dX12_scan_33 : decode cX12_scan 33 = .ok (.aload_n 0, 1) := by decide +kernel
theorem dX12_scan_34 : decode cX12_scan 34 = .ok (.getfield 23, 3) := by decide +kernel
theorem dX12_scan_37 : decode cX12_scan 37 = .ok (.if_icmp .ge 109, 3) := by decide +kernel
theorem dX12_scan_40 : decode cX12_scan 40 = .ok (.aload_n 0, 1) := by decide +kernel
theorem dX12_scan_41 : decode cX12_scan 41 = .ok (.iload_n 1, 1) := by decide +kernel
theorem dX12_scan_42 : decode cX12_scan 42 = .ok (.invokevirtual 483, 3) := by decide +kernel
theorem dX12_scan_45 : decode cX12_scan 45 = .ok (.istore_n 2, 1) := by decide +kernel
theorem dX12_scan_46 : decode cX12_scan 46 = .ok (.iload_n 2, 1) := by decide +kernel
theorem dX12_scan_47 : decode cX12_scan 47 = .ok (.bipush 10, 2) := by decide +kernel
theorem dX12_scan_49 : decode cX12_scan 49 = .ok (.if_icmp .ne 19, 3) := by decide +kernel
theorem dX12_scan_52 : decode cX12_scan 52 = .ok (.aload_n 0, 1) := by decide +kernel
theorem dX12_scan_53 : decode cX12_scan 53 = .ok (.dup, 1) := by decide +kernel
theorem dX12_scan_54 : decode cX12_scan 54 = .ok (.getfield 69, 3) := by decide +kernel
theorem dX12_scan_57 : decode cX12_scan 57 = .ok (.iconst 1, 1) := by decide +kernel
theorem dX12_scan_58 : decode cX12_scan 58 = .ok (.iadd, 1) := by decide +kernel
theorem dX12_scan_59 : decode cX12_scan 59 = .ok (.putfield 69, 3) := by decide +kernel
theorem dX12_scan_62 : decode cX12_scan 62 = .ok (.iinc 1 1, 3) := by decide +kernel
theorem dX12_scan_65 : decode cX12_scan 65 = .ok (.goto 78, 3) := by decide +kernel
theorem dX12_scan_68 : decode cX12_scan 68 = .ok (.iload_n 2, 1) := by decide +kernel
theorem dX12_scan_69 : decode cX12_scan 69 = .ok (.bipush 9, 2) := by decide +kernel
theorem dX12_scan_71 : decode cX12_scan 71 = .ok (.if_icmp .eq 15, 3) := by decide +kernel
theorem dX12_scan_74 : decode cX12_scan 74 = .ok (.iload_n 2, 1) := by decide +kernel
theorem dX12_scan_75 : decode cX12_scan 75 = .ok (.bipush 13, 2) := by decide +kernel
theorem dX12_scan_77 : decode cX12_scan 77 = .ok (.if_icmp .eq 9, 3) := by decide +kernel
theorem dX12_scan_80 : decode cX12_scan 80 = .ok (.iload_n 2, 1) := by decide +kernel
theorem dX12_scan_81 : decode cX12_scan 81 = .ok (.bipush 32, 2) := by decide +kernel
theorem dX12_scan_83 : decode cX12_scan 83 = .ok (.if_icmp .ne 9, 3) := by decide +kernel
theorem dX12_scan_86 : decode cX12_scan 86 = .ok (.iinc 1 1, 3) := by decide +kernel
theorem dX12_scan_89 : decode cX12_scan 89 = .ok (.goto 54, 3) := by decide +kernel
theorem dX12_scan_92 : decode cX12_scan 92 = .ok (.aload_n 0, 1) := by decide +kernel
theorem dX12_scan_93 : decode cX12_scan 93 = .ok (.iload_n 1, 1) := by decide +kernel
theorem dX12_scan_94 : decode cX12_scan 94 = .ok (.bipush 47, 2) := by decide +kernel
theorem dX12_scan_96 : decode cX12_scan 96 = .ok (.bipush 47, 2) := by decide +kernel
theorem dX12_scan_98 : decode cX12_scan 98 = .ok (.invokevirtual 493, 3) := by decide +kernel
theorem dX12_scan_101 : decode cX12_scan 101 = .ok (.ifCond .eq 27, 3) := by decide +kernel
theorem dX12_scan_104 : decode cX12_scan 104 = .ok (.iload_n 1, 1) := by decide +kernel
theorem dX12_scan_105 : decode cX12_scan 105 = .ok (.aload_n 0, 1) := by decide +kernel
theorem dX12_scan_106 : decode cX12_scan 106 = .ok (.getfield 23, 3) := by decide +kernel
theorem dX12_scan_109 : decode cX12_scan 109 = .ok (.if_icmp .ge 34, 3) := by decide +kernel
theorem dX12_scan_112 : decode cX12_scan 112 = .ok (.aload_n 0, 1) := by decide +kernel
theorem dX12_scan_113 : decode cX12_scan 113 = .ok (.iload_n 1, 1) := by decide +kernel
theorem dX12_scan_114 : decode cX12_scan 114 = .ok (.invokevirtual 483, 3) := by decide +kernel
theorem dX12_scan_117 : decode cX12_scan 117 = .ok (.bipush 10, 2) := by decide +kernel
theorem dX12_scan_119 : decode cX12_scan 119 = .ok (.if_icmp .eq 24, 3) := by decide +kernel
theorem dX12_scan_122 : decode cX12_scan 122 = .ok (.iinc 1 1, 3) := by decide +kernel
theorem dX12_scan_125 : decode cX12_scan 125 = .ok (.goto (-21), 3) := by decide +kernel
theorem dX12_scan_128 : decode cX12_scan 128 = .ok (.aload_n 0, 1) := by decide +kernel
theorem dX12_scan_129 : decode cX12_scan 129 = .ok (.iload_n 1, 1) := by decide +kernel
theorem dX12_scan_130 : decode cX12_scan 130 = .ok (.iload_n 2, 1) := by decide +kernel
theorem dX12_scan_131 : decode cX12_scan 131 = .ok (.invokevirtual 497, 3) := by decide +kernel
theorem dX12_scan_134 : decode cX12_scan 134 = .ok (.istore_n 1, 1) := by decide +kernel
theorem dX12_scan_135 : decode cX12_scan 135 = .ok (.iload_n 1, 1) := by decide +kernel
theorem dX12_scan_136 : decode cX12_scan 136 = .ok (.ifCond .ge 7, 3) := by decide +kernel
theorem dX12_scan_139 : decode cX12_scan 139 = .ok (.iconst (-1), 1) := by decide +kernel
theorem dX12_scan_140 : decode cX12_scan 140 = .ok (.iload_n 1, 1) := by decide +kernel
theorem dX12_scan_141 : decode cX12_scan 141 = .ok (.isub, 1) := by decide +kernel
theorem dX12_scan_142 : decode cX12_scan 142 = .ok (.ireturn, 1) := by decide +kernel
theorem dX12_scan_143 : decode cX12_scan 143 = .ok (.goto (-111), 3) := by decide +kernel
theorem dX12_scan_146 : decode cX12_scan 146 = .ok (.iconst (-1), 1) := by decide +kernel
theorem dX12_scan_147 : decode cX12_scan 147 = .ok (.ireturn, 1) := by decide +kernel
set_option maxHeartbeats 4000000 in
set_option maxRecDepth 100000 in
theorem r_scan (l : Launch) (d : gD) (b : Nat) (F : gM) (t : Nat) (f : Nat → Value)  (h : gRo F t f) (hv4 : f 4 = .int 0)   : gMi l d b yX12_scan cX12_scan 3 .int 0 0 0 F [.ref t] (fun r F' => r = (-1) ∧ ∃ f', gRo F' t f' ∧ gVr f f' [8, 5, 18, 15, 19, 20] ∧ f' 8 = .int 0 ∧ gKr F F' t []) := by
  refine gM_of2 rfl (nL := 3) (Nat.le_of_ble_eq_true rfl) ?_
  intro X hX hC; subst hX
  show gG X d b _ F 0 0 0 [some (.ref t), none, none] []
  refine g_aload_n hC dX12_scan_0 rfl ?_
  refine g_iconst (v := 0) hC dX12_scan_1 rfl ?_
  refine g_rput hC h fl_X12_36 rfl rfl (by decide) dX12_scan_2 (fun F1 f2 e3 ho4 hx5 => ?_)
  have k6 : gKr F F1 t [] := gKr.tr (gKr.rf (F := F) (t := t) (l := [])) (fun x h1 _ => hx5 x h1)
  have p7 : f2 4 = .int 0 := by rw [e3]; exact (va_up_ne _ _ (by decide)).trans hv4
  have p8 : f2 8 = .int 0 := by rw [e3]; exact va_up_self _ _ _
  have v9 : gVr f f2 [8, 5, 18, 15, 19, 20] := gVr.put (gVr.rf (f := f) (js := [8, 5, 18, 15, 19, 20])) e3 (by decide)
  refine g_aload_n hC dX12_scan_5 rfl ?_
  refine g_iconst (v := 0) hC dX12_scan_6 rfl ?_
  refine g_rput hC ho4 fl_X12_26 rfl rfl (by decide) dX12_scan_7 (fun F10 f11 e12 ho13 hx14 => ?_)
  have k15 : gKr F F10 t [] := gKr.tr k6 (fun x h1 _ => hx14 x h1)
  have p16 : f11 4 = .int 0 := by rw [e12]; exact (va_up_ne _ _ (by decide)).trans p7
  have p17 : f11 8 = .int 0 := by rw [e12]; exact (va_up_ne _ _ (by decide)).trans p8
  have p18 : f11 5 = .int 0 := by rw [e12]; exact va_up_self _ _ _
  have v19 : gVr f f11 [8, 5, 18, 15, 19, 20] := gVr.put v9 e12 (by decide)
  refine g_aload_n hC dX12_scan_10 rfl ?_
  refine g_iconst (v := 0) hC dX12_scan_11 rfl ?_
  refine g_rput hC ho13 fl_X12_66 rfl rfl (by decide) dX12_scan_12 (fun F20 f21 e22 ho23 hx24 => ?_)
  have k25 : gKr F F20 t [] := gKr.tr k15 (fun x h1 _ => hx24 x h1)
  have p26 : f21 4 = .int 0 := by rw [e22]; exact (va_up_ne _ _ (by decide)).trans p16
  have p27 : f21 8 = .int 0 := by rw [e22]; exact (va_up_ne _ _ (by decide)).trans p17
  have p28 : f21 5 = .int 0 := by rw [e22]; exact (va_up_ne _ _ (by decide)).trans p18
  have p29 : f21 18 = .int 0 := by rw [e22]; exact va_up_self _ _ _
  have v30 : gVr f f21 [8, 5, 18, 15, 19, 20] := gVr.put v19 e22 (by decide)
  refine g_aload_n hC dX12_scan_15 rfl ?_
  refine g_iconst (v := 0) hC dX12_scan_16 rfl ?_
  refine g_rput hC ho23 fl_X12_57 rfl rfl (by decide) dX12_scan_17 (fun F31 f32 e33 ho34 hx35 => ?_)
  have k36 : gKr F F31 t [] := gKr.tr k25 (fun x h1 _ => hx35 x h1)
  have p37 : f32 4 = .int 0 := by rw [e33]; exact (va_up_ne _ _ (by decide)).trans p26
  have p38 : f32 8 = .int 0 := by rw [e33]; exact (va_up_ne _ _ (by decide)).trans p27
  have p39 : f32 5 = .int 0 := by rw [e33]; exact (va_up_ne _ _ (by decide)).trans p28
  have p40 : f32 18 = .int 0 := by rw [e33]; exact (va_up_ne _ _ (by decide)).trans p29
  have p41 : f32 15 = .int 0 := by rw [e33]; exact va_up_self _ _ _
  have v42 : gVr f f32 [8, 5, 18, 15, 19, 20] := gVr.put v30 e33 (by decide)
  refine g_aload_n hC dX12_scan_20 rfl ?_
  refine g_iconst (v := 0) hC dX12_scan_21 rfl ?_
  refine g_rput hC ho34 fl_X12_69 rfl rfl (by decide) dX12_scan_22 (fun F43 f44 e45 ho46 hx47 => ?_)
  have k48 : gKr F F43 t [] := gKr.tr k36 (fun x h1 _ => hx47 x h1)
  have p49 : f44 4 = .int 0 := by rw [e45]; exact (va_up_ne _ _ (by decide)).trans p37
  have p50 : f44 8 = .int 0 := by rw [e45]; exact (va_up_ne _ _ (by decide)).trans p38
  have p51 : f44 5 = .int 0 := by rw [e45]; exact (va_up_ne _ _ (by decide)).trans p39
  have p52 : f44 18 = .int 0 := by rw [e45]; exact (va_up_ne _ _ (by decide)).trans p40
  have p53 : f44 15 = .int 0 := by rw [e45]; exact (va_up_ne _ _ (by decide)).trans p41
  have p54 : f44 19 = .int 0 := by rw [e45]; exact va_up_self _ _ _
  have v55 : gVr f f44 [8, 5, 18, 15, 19, 20] := gVr.put v42 e45 (by decide)
  refine g_aload_n hC dX12_scan_25 rfl ?_
  refine g_iconst (v := 0) hC dX12_scan_26 rfl ?_
  refine g_rput hC ho46 fl_X12_72 rfl rfl (by decide) dX12_scan_27 (fun F56 f57 e58 ho59 hx60 => ?_)
  have k61 : gKr F F56 t [] := gKr.tr k48 (fun x h1 _ => hx60 x h1)
  have p62 : f57 4 = .int 0 := by rw [e58]; exact (va_up_ne _ _ (by decide)).trans p49
  have p63 : f57 8 = .int 0 := by rw [e58]; exact (va_up_ne _ _ (by decide)).trans p50
  have p64 : f57 5 = .int 0 := by rw [e58]; exact (va_up_ne _ _ (by decide)).trans p51
  have p65 : f57 18 = .int 0 := by rw [e58]; exact (va_up_ne _ _ (by decide)).trans p52
  have p66 : f57 15 = .int 0 := by rw [e58]; exact (va_up_ne _ _ (by decide)).trans p53
  have p67 : f57 19 = .int 0 := by rw [e58]; exact (va_up_ne _ _ (by decide)).trans p54
  have p68 : f57 20 = .int 0 := by rw [e58]; exact va_up_self _ _ _
  have v69 : gVr f f57 [8, 5, 18, 15, 19, 20] := gVr.put v55 e58 (by decide)
  refine g_iconst (v := 0) hC dX12_scan_30 rfl ?_
  refine g_istore_n (lv' := [some (.ref t), some (.int 0), none]) hC dX12_scan_31 (Nat.le_of_ble_eq_true rfl) rfl rfl ?_
  refine g_iload_n hC dX12_scan_32 rfl ?_
  refine g_aload_n hC dX12_scan_33 rfl ?_
  refine g_rget hC ho59 fl_X12_23 p62 (by decide) dX12_scan_34 ?_
  refine g_icmp_ge (tgt := 146) hC dX12_scan_37 (by decide) (fun _ => ?_) (fun c70 => False.elim (by revert c70; decide))
  refine g_iconst (v := (-1)) hC dX12_scan_146 rfl ?_
  exact g_iret hC rfl ⟨rfl, _, ho59, v69, p63, k61⟩ (by first | exact Nat.le_of_ble_eq_true rfl | omega | (simp only [gR]; omega)) (by first | exact Nat.le_of_ble_eq_true rfl | omega | (simp only [gR]; omega)) dX12_scan_147
theorem dX12_goal_0 : decode cX12_goal 0 = .ok (.aload_n 0, 1) := by decide +kernel
theorem dX12_goal_1 : decode cX12_goal 1 = .ok (.getfield 130, 3) := by decide +kernel
theorem dX12_goal_4 : decode cX12_goal 4 = .ok (.aload_n 0, 1) := by decide +kernel
theorem dX12_goal_5 : decode cX12_goal 5 = .ok (.getfield 127, 3) := by decide +kernel
theorem dX12_goal_8 : decode cX12_goal 8 = .ok (.iload_n 1, 1) := by decide +kernel
theorem dX12_goal_9 : decode cX12_goal 9 = .ok (.iastore, 1) := by decide +kernel
theorem dX12_goal_10 : decode cX12_goal 10 = .ok (.aload_n 0, 1) := by decide +kernel
theorem dX12_goal_11 : decode cX12_goal 11 = .ok (.getfield 133, 3) := by decide +kernel
theorem dX12_goal_14 : decode cX12_goal 14 = .ok (.aload_n 0, 1) := by decide +kernel
theorem dX12_goal_15 : decode cX12_goal 15 = .ok (.getfield 127, 3) := by decide +kernel
theorem dX12_goal_18 : decode cX12_goal 18 = .ok (.iload_n 2, 1) := by decide +kernel
theorem dX12_goal_19 : decode cX12_goal 19 = .ok (.iastore, 1) := by decide +kernel
theorem dX12_goal_20 : decode cX12_goal 20 = .ok (.aload_n 0, 1) := by decide +kernel
theorem dX12_goal_21 : decode cX12_goal 21 = .ok (.getfield 136, 3) := by decide +kernel
theorem dX12_goal_24 : decode cX12_goal 24 = .ok (.aload_n 0, 1) := by decide +kernel
theorem dX12_goal_25 : decode cX12_goal 25 = .ok (.getfield 127, 3) := by decide +kernel
theorem dX12_goal_28 : decode cX12_goal 28 = .ok (.iload_n 3, 1) := by decide +kernel
theorem dX12_goal_29 : decode cX12_goal 29 = .ok (.iastore, 1) := by decide +kernel
theorem dX12_goal_30 : decode cX12_goal 30 = .ok (.aload_n 0, 1) := by decide +kernel
theorem dX12_goal_31 : decode cX12_goal 31 = .ok (.getfield 139, 3) := by decide +kernel
theorem dX12_goal_34 : decode cX12_goal 34 = .ok (.aload_n 0, 1) := by decide +kernel
theorem dX12_goal_35 : decode cX12_goal 35 = .ok (.getfield 127, 3) := by decide +kernel
theorem dX12_goal_38 : decode cX12_goal 38 = .ok (.iload 4, 2) := by decide +kernel
theorem dX12_goal_40 : decode cX12_goal 40 = .ok (.iastore, 1) := by decide +kernel
theorem dX12_goal_41 : decode cX12_goal 41 = .ok (.aload_n 0, 1) := by decide +kernel
theorem dX12_goal_42 : decode cX12_goal 42 = .ok (.dup, 1) := by decide +kernel
theorem dX12_goal_43 : decode cX12_goal 43 = .ok (.getfield 127, 3) := by decide +kernel
theorem dX12_goal_46 : decode cX12_goal 46 = .ok (.iconst 1, 1) := by decide +kernel
theorem dX12_goal_47 : decode cX12_goal 47 = .ok (.iadd, 1) := by decide +kernel
theorem dX12_goal_48 : decode cX12_goal 48 = .ok (.putfield 127, 3) := by decide +kernel
theorem dX12_goal_51 : decode cX12_goal 51 = .ok (.return_, 1) := by decide +kernel
set_option maxHeartbeats 4000000 in
set_option maxRecDepth 100000 in
theorem r_goal (l : Launch) (d : gD) (b : Nat) (F : gM) (t : Nat) (f : Nat → Value) (i1 i2 i3 i4 : Int32) (g w1 w2 w3 w4 : Nat) (g1 g2 g3 g4 : Nat → Int32) (h : gRo F t f) (hv39 : f 39 = .ref w1) (hv40 : f 40 = .ref w2) (hv41 : f 41 = .ref w3) (hv42 : f 42 = .ref w4) (hv38 : f 38 = .int (nI g)) (ha_w1 : F w1 = .inl (gI d, 9000, .inl g1)) (ha_w2 : F w2 = .inl (gI d, 9000, .inl g2)) (ha_w3 : F w3 = .inl (gI d, 9000, .inl g3)) (ha_w4 : F w4 = .inl (gI d, 9000, .inl g4)) (hg : g < 9000) (hne01 : w1 ≠ w2) (hne02 : w1 ≠ w3) (hne03 : w1 ≠ w4) (hne12 : w2 ≠ w3) (hne13 : w2 ≠ w4) (hne23 : w3 ≠ w4) : gMv l d b yX12_goal cX12_goal 5 0 0 0 F [.ref t, .int i1, .int i2, .int i3, .int i4] (fun F' => ∃ f', gRo F' t f' ∧ gVr f f' [38] ∧ f' 38 = .int (nI (g + 1)) ∧ gKr F F' t [w1, w2, w3, w4] ∧ F' w1 = .inl (gI d, 9000, .inl (upd g1 g i1)) ∧ F' w2 = .inl (gI d, 9000, .inl (upd g2 g i2)) ∧ F' w3 = .inl (gI d, 9000, .inl (upd g3 g i3)) ∧ F' w4 = .inl (gI d, 9000, .inl (upd g4 g i4))) := by
  refine gM_of2 rfl (nL := 5) (Nat.le_of_ble_eq_true rfl) ?_
  intro X hX hC; subst hX
  show gG X d b _ F 0 0 0 [some (.ref t), some (.int i1), some (.int i2), some (.int i3), some (.int i4)] []
  refine g_aload_n hC dX12_goal_0 rfl ?_
  refine g_rget hC h fl_X12_130 hv39 (by decide) dX12_goal_1 ?_
  refine g_aload_n hC dX12_goal_4 rfl ?_
  refine g_rget hC h fl_X12_127 hv38 (by decide) dX12_goal_5 ?_
  refine g_iload_n hC dX12_goal_8 rfl ?_
  refine g_iast hC ha_w1 (vp_in_nI hg (by decide)) dX12_goal_9 ?_
  refine g_vF (fun F1 hF1 => ?_)
  have f3 : F1 w2 = .inl (gI d, 9000, .inl g2) := by rw [hF1, va_up_ne _ _ (Ne.symm hne01)]; exact ha_w2
  have f4 : F1 w3 = .inl (gI d, 9000, .inl g3) := by rw [hF1, va_up_ne _ _ (Ne.symm hne02)]; exact ha_w3
  have f5 : F1 w4 = .inl (gI d, 9000, .inl g4) := by rw [hF1, va_up_ne _ _ (Ne.symm hne03)]; exact ha_w4
  have f2 : F1 w1 = .inl (gI d, 9000, .inl (upd g1 g i1)) := by rw [hF1]; exact (by rw [va_up_self, nI_clamp (by omega)])
  have ho6 : gRo F1 t f := by show F1 t = _; rw [hF1, va_up_ne _ _ (gne h ha_w1 gk_oa)]; exact h
  have k7 : gKr F F1 t [w1, w2, w3, w4] := gKr.tr (gKr.rf (F := F) (t := t) (l := [w1, w2, w3, w4])) (fun x _ h2 => by rw [hF1, va_up_ne _ _ (fun e => h2 (by rw [e]; simp))])
  refine g_aload_n hC dX12_goal_10 rfl ?_
  refine g_rget hC ho6 fl_X12_133 hv40 (by decide) dX12_goal_11 ?_
  refine g_aload_n hC dX12_goal_14 rfl ?_
  refine g_rget hC ho6 fl_X12_127 hv38 (by decide) dX12_goal_15 ?_
  refine g_iload_n hC dX12_goal_18 rfl ?_
  refine g_iast hC f3 (vp_in_nI hg (by decide)) dX12_goal_19 ?_
  refine g_vF (fun F8 hF8 => ?_)
  have f10 : F8 w3 = .inl (gI d, 9000, .inl g3) := by rw [hF8, va_up_ne _ _ (Ne.symm hne12)]; exact f4
  have f11 : F8 w4 = .inl (gI d, 9000, .inl g4) := by rw [hF8, va_up_ne _ _ (Ne.symm hne13)]; exact f5
  have f12 : F8 w1 = .inl (gI d, 9000, .inl (upd g1 g i1)) := by rw [hF8, va_up_ne _ _ hne01]; exact f2
  have f9 : F8 w2 = .inl (gI d, 9000, .inl (upd g2 g i2)) := by rw [hF8]; exact (by rw [va_up_self, nI_clamp (by omega)])
  have ho13 : gRo F8 t f := by show F8 t = _; rw [hF8, va_up_ne _ _ (gne ho6 f3 gk_oa)]; exact ho6
  have k14 : gKr F F8 t [w1, w2, w3, w4] := gKr.tr k7 (fun x _ h2 => by rw [hF8, va_up_ne _ _ (fun e => h2 (by rw [e]; simp))])
  refine g_aload_n hC dX12_goal_20 rfl ?_
  refine g_rget hC ho13 fl_X12_136 hv41 (by decide) dX12_goal_21 ?_
  refine g_aload_n hC dX12_goal_24 rfl ?_
  refine g_rget hC ho13 fl_X12_127 hv38 (by decide) dX12_goal_25 ?_
  refine g_iload_n hC dX12_goal_28 rfl ?_
  refine g_iast hC f10 (vp_in_nI hg (by decide)) dX12_goal_29 ?_
  refine g_vF (fun F15 hF15 => ?_)
  have f17 : F15 w4 = .inl (gI d, 9000, .inl g4) := by rw [hF15, va_up_ne _ _ (Ne.symm hne23)]; exact f11
  have f18 : F15 w1 = .inl (gI d, 9000, .inl (upd g1 g i1)) := by rw [hF15, va_up_ne _ _ hne02]; exact f12
  have f19 : F15 w2 = .inl (gI d, 9000, .inl (upd g2 g i2)) := by rw [hF15, va_up_ne _ _ hne12]; exact f9
  have f16 : F15 w3 = .inl (gI d, 9000, .inl (upd g3 g i3)) := by rw [hF15]; exact (by rw [va_up_self, nI_clamp (by omega)])
  have ho20 : gRo F15 t f := by show F15 t = _; rw [hF15, va_up_ne _ _ (gne ho13 f10 gk_oa)]; exact ho13
  have k21 : gKr F F15 t [w1, w2, w3, w4] := gKr.tr k14 (fun x _ h2 => by rw [hF15, va_up_ne _ _ (fun e => h2 (by rw [e]; simp))])
  refine g_aload_n hC dX12_goal_30 rfl ?_
  refine g_rget hC ho20 fl_X12_139 hv42 (by decide) dX12_goal_31 ?_
  refine g_aload_n hC dX12_goal_34 rfl ?_
  refine g_rget hC ho20 fl_X12_127 hv38 (by decide) dX12_goal_35 ?_
  refine g_iload hC dX12_goal_38 rfl ?_
  refine g_iast hC f17 (vp_in_nI hg (by decide)) dX12_goal_40 ?_
  refine g_vF (fun F22 hF22 => ?_)
  have f24 : F22 w1 = .inl (gI d, 9000, .inl (upd g1 g i1)) := by rw [hF22, va_up_ne _ _ hne03]; exact f18
  have f25 : F22 w2 = .inl (gI d, 9000, .inl (upd g2 g i2)) := by rw [hF22, va_up_ne _ _ hne13]; exact f19
  have f26 : F22 w3 = .inl (gI d, 9000, .inl (upd g3 g i3)) := by rw [hF22, va_up_ne _ _ hne23]; exact f16
  have f23 : F22 w4 = .inl (gI d, 9000, .inl (upd g4 g i4)) := by rw [hF22]; exact (by rw [va_up_self, nI_clamp (by omega)])
  have ho27 : gRo F22 t f := by show F22 t = _; rw [hF22, va_up_ne _ _ (gne ho20 f17 gk_oa)]; exact ho20
  have k28 : gKr F F22 t [w1, w2, w3, w4] := gKr.tr k21 (fun x _ h2 => by rw [hF22, va_up_ne _ _ (fun e => h2 (by rw [e]; simp))])
  refine g_aload_n hC dX12_goal_41 rfl ?_
  refine g_dup hC dX12_goal_42 rfl ?_
  refine g_rget hC ho27 fl_X12_127 hv38 (by decide) dX12_goal_43 ?_
  refine g_iconst (v := 1) hC dX12_goal_46 rfl ?_
  refine g_iadd hC dX12_goal_47 ?_
  refine g_vi (fun x29 ex29 => ?_)
  refine g_rput hC ho27 fl_X12_127 rfl rfl (by decide) dX12_goal_48 (fun F30 f31 e32 ho33 hx34 => ?_)
  have f35 : F30 w1 = .inl (gI d, 9000, .inl (upd g1 g i1)) := (hx34 w1 (gne f24 ho27 gk_ao)).trans f24
  have f36 : F30 w2 = .inl (gI d, 9000, .inl (upd g2 g i2)) := (hx34 w2 (gne f25 ho27 gk_ao)).trans f25
  have f37 : F30 w3 = .inl (gI d, 9000, .inl (upd g3 g i3)) := (hx34 w3 (gne f26 ho27 gk_ao)).trans f26
  have f38 : F30 w4 = .inl (gI d, 9000, .inl (upd g4 g i4)) := (hx34 w4 (gne f23 ho27 gk_ao)).trans f23
  have k39 : gKr F F30 t [w1, w2, w3, w4] := gKr.tr k28 (fun x h1 _ => hx34 x h1)
  have p40 : f31 39 = .ref w1 := by rw [e32]; exact (va_up_ne _ _ (by decide)).trans hv39
  have p41 : f31 40 = .ref w2 := by rw [e32]; exact (va_up_ne _ _ (by decide)).trans hv40
  have p42 : f31 41 = .ref w3 := by rw [e32]; exact (va_up_ne _ _ (by decide)).trans hv41
  have p43 : f31 42 = .ref w4 := by rw [e32]; exact (va_up_ne _ _ (by decide)).trans hv42
  have p44 : f31 38 = .int x29 := by rw [e32]; exact va_up_self _ _ _
  have v45 : gVr f f31 [38] := gVr.put (gVr.rf (f := f) (js := [38])) e32 (by decide)
  exact g_vret hC ⟨_, ho33, v45, (p44.trans (by rw [ex29]; exact congrArg _ (nI_1 g))), k39, f35, f36, f37, f38⟩ (by first | exact Nat.le_of_ble_eq_true rfl | omega | (simp only [gR]; omega)) (by first | exact Nat.le_of_ble_eq_true rfl | omega | (simp only [gR]; omega)) dX12_goal_51
theorem dX12_reach_0 : decode cX12_reach 0 = .ok (.iload_n 1, 1) := by decide +kernel
theorem dX12_reach_1 : decode cX12_reach 1 = .ok (.bipush 28, 2) := by decide +kernel
theorem dX12_reach_3 : decode cX12_reach 3 = .ok (.if_icmp .lt 19, 3) := by decide +kernel
theorem dX12_reach_6 : decode cX12_reach 6 = .ok (.iload_n 1, 1) := by decide +kernel
theorem dX12_reach_7 : decode cX12_reach 7 = .ok (.bipush 40, 2) := by decide +kernel
theorem dX12_reach_9 : decode cX12_reach 9 = .ok (.if_icmp .gt 13, 3) := by decide +kernel
theorem dX12_reach_12 : decode cX12_reach 12 = .ok (.aload_n 0, 1) := by decide +kernel
theorem dX12_reach_13 : decode cX12_reach 13 = .ok (.iload_n 1, 1) := by decide +kernel
theorem dX12_reach_14 : decode cX12_reach 14 = .ok (.iload_n 2, 1) := by decide +kernel
theorem dX12_reach_15 : decode cX12_reach 15 = .ok (.iload_n 3, 1) := by decide +kernel
theorem dX12_reach_16 : decode cX12_reach 16 = .ok (.iload 4, 2) := by decide +kernel
theorem dX12_reach_18 : decode cX12_reach 18 = .ok (.invokevirtual 546, 3) := by decide +kernel
theorem dX12_reach_21 : decode cX12_reach 21 = .ok (.ireturn, 1) := by decide +kernel
theorem dX12_reach_22 : decode cX12_reach 22 = .ok (.iload_n 1, 1) := by decide +kernel
theorem dX12_reach_23 : decode cX12_reach 23 = .ok (.iconst 1, 1) := by decide +kernel
theorem dX12_reach_24 : decode cX12_reach 24 = .ok (.if_icmp .ne 21, 3) := by decide +kernel
theorem dX12_reach_27 : decode cX12_reach 27 = .ok (.aload_n 0, 1) := by decide +kernel
theorem dX12_reach_28 : decode cX12_reach 28 = .ok (.iconst 2, 1) := by decide +kernel
theorem dX12_reach_29 : decode cX12_reach 29 = .ok (.iconst 0, 1) := by decide +kernel
theorem dX12_reach_30 : decode cX12_reach 30 = .ok (.iconst 0, 1) := by decide +kernel
theorem dX12_reach_31 : decode cX12_reach 31 = .ok (.iconst 0, 1) := by decide +kernel
theorem dX12_reach_32 : decode cX12_reach 32 = .ok (.invokevirtual 534, 3) := by decide +kernel
theorem dX12_reach_35 : decode cX12_reach 35 = .ok (.aload_n 0, 1) := by decide +kernel
theorem dX12_reach_36 : decode cX12_reach 36 = .ok (.iconst 3, 1) := by decide +kernel
theorem dX12_reach_37 : decode cX12_reach 37 = .ok (.iconst 1, 1) := by decide +kernel
theorem dX12_reach_38 : decode cX12_reach 38 = .ok (.iconst 0, 1) := by decide +kernel
theorem dX12_reach_39 : decode cX12_reach 39 = .ok (.iconst 0, 1) := by decide +kernel
theorem dX12_reach_40 : decode cX12_reach 40 = .ok (.invokevirtual 534, 3) := by decide +kernel
theorem dX12_reach_43 : decode cX12_reach 43 = .ok (.iconst 1, 1) := by decide +kernel
theorem dX12_reach_44 : decode cX12_reach 44 = .ok (.ireturn, 1) := by decide +kernel
theorem dX12_reach_45 : decode cX12_reach 45 = .ok (.iload_n 1, 1) := by decide +kernel
theorem dX12_reach_46 : decode cX12_reach 46 = .ok (.iconst 2, 1) := by decide +kernel
theorem dX12_reach_47 : decode cX12_reach 47 = .ok (.if_icmp .ne 72, 3) := by decide +kernel
theorem dX12_reach_50 : decode cX12_reach 50 = .ok (.aload_n 0, 1) := by decide +kernel
theorem dX12_reach_51 : decode cX12_reach 51 = .ok (.getfield 142, 3) := by decide +kernel
theorem dX12_reach_54 : decode cX12_reach 54 = .ok (.aload_n 0, 1) := by decide +kernel
theorem dX12_reach_55 : decode cX12_reach 55 = .ok (.getfield 36, 3) := by decide +kernel
theorem dX12_reach_58 : decode cX12_reach 58 = .ok (.if_icmp .ne 16, 3) := by decide +kernel
theorem dX12_reach_61 : decode cX12_reach 61 = .ok (.aload_n 0, 1) := by decide +kernel
theorem dX12_reach_62 : decode cX12_reach 62 = .ok (.getfield 157, 3) := by decide +kernel
theorem dX12_reach_65 : decode cX12_reach 65 = .ok (.ifCond .ge 7, 3) := by decide +kernel
theorem dX12_reach_68 : decode cX12_reach 68 = .ok (.iconst 1, 1) := by decide +kernel
theorem dX12_reach_69 : decode cX12_reach 69 = .ok (.goto 4, 3) := by decide +kernel
theorem dX12_reach_72 : decode cX12_reach 72 = .ok (.iconst 0, 1) := by decide +kernel
theorem dX12_reach_73 : decode cX12_reach 73 = .ok (.ireturn, 1) := by decide +kernel
theorem dX12_reach_74 : decode cX12_reach 74 = .ok (.aload_n 0, 1) := by decide +kernel
theorem dX12_reach_75 : decode cX12_reach 75 = .ok (.bipush 15, 2) := by decide +kernel
theorem dX12_reach_77 : decode cX12_reach 77 = .ok (.invokevirtual 549, 3) := by decide +kernel
theorem dX12_reach_80 : decode cX12_reach 80 = .ok (.ifCond .ne 5, 3) := by decide +kernel
theorem dX12_reach_83 : decode cX12_reach 83 = .ok (.iconst 0, 1) := by decide +kernel
theorem dX12_reach_84 : decode cX12_reach 84 = .ok (.ireturn, 1) := by decide +kernel
theorem dX12_reach_85 : decode cX12_reach 85 = .ok (.aload_n 0, 1) := by decide +kernel
theorem dX12_reach_86 : decode cX12_reach 86 = .ok (.getfield 142, 3) := by decide +kernel
theorem dX12_reach_89 : decode cX12_reach 89 = .ok (.aload_n 0, 1) := by decide +kernel
theorem dX12_reach_90 : decode cX12_reach 90 = .ok (.getfield 36, 3) := by decide +kernel
theorem dX12_reach_93 : decode cX12_reach 93 = .ok (.if_icmp .ne 16, 3) := by decide +kernel
theorem dX12_reach_96 : decode cX12_reach 96 = .ok (.aload_n 0, 1) := by decide +kernel
theorem dX12_reach_97 : decode cX12_reach 97 = .ok (.getfield 157, 3) := by decide +kernel
theorem dX12_reach_100 : decode cX12_reach 100 = .ok (.ifCond .ge 7, 3) := by decide +kernel
theorem dX12_reach_103 : decode cX12_reach 103 = .ok (.iconst 1, 1) := by decide +kernel
theorem dX12_reach_104 : decode cX12_reach 104 = .ok (.goto 4, 3) := by decide +kernel
theorem dX12_reach_107 : decode cX12_reach 107 = .ok (.iconst 0, 1) := by decide +kernel
theorem dX12_reach_108 : decode cX12_reach 108 = .ok (.ireturn, 1) := by decide +kernel
theorem dX12_reach_109 : decode cX12_reach 109 = .ok (.aload_n 0, 1) := by decide +kernel
theorem dX12_reach_110 : decode cX12_reach 110 = .ok (.iconst 1, 1) := by decide +kernel
theorem dX12_reach_111 : decode cX12_reach 111 = .ok (.iconst 0, 1) := by decide +kernel
theorem dX12_reach_112 : decode cX12_reach 112 = .ok (.iconst 0, 1) := by decide +kernel
theorem dX12_reach_113 : decode cX12_reach 113 = .ok (.iconst 0, 1) := by decide +kernel
theorem dX12_reach_114 : decode cX12_reach 114 = .ok (.invokevirtual 534, 3) := by decide +kernel
theorem dX12_reach_117 : decode cX12_reach 117 = .ok (.iconst 1, 1) := by decide +kernel
theorem dX12_reach_118 : decode cX12_reach 118 = .ok (.ireturn, 1) := by decide +kernel
theorem dX12_reach_119 : decode cX12_reach 119 = .ok (.iload_n 1, 1) := by decide +kernel
theorem dX12_reach_120 : decode cX12_reach 120 = .ok (.bipush 6, 2) := by decide +kernel
theorem dX12_reach_122 : decode cX12_reach 122 = .ok (.if_icmp .ne 29, 3) := by decide +kernel
theorem dX12_reach_125 : decode cX12_reach 125 = .ok (.aload_n 0, 1) := by decide +kernel
theorem dX12_reach_126 : decode cX12_reach 126 = .ok (.iload_n 2, 1) := by decide +kernel
theorem dX12_reach_127 : decode cX12_reach 127 = .ok (.iload_n 3, 1) := by decide +kernel
theorem dX12_reach_128 : decode cX12_reach 128 = .ok (.iload 4, 2) := by decide +kernel
theorem dX12_reach_130 : decode cX12_reach 130 = .ok (.iconst 0, 1) := by decide +kernel
theorem dX12_reach_131 : decode cX12_reach 131 = .ok (.invokevirtual 542, 3) := by decide +kernel
theorem dX12_reach_134 : decode cX12_reach 134 = .ok (.istore 5, 2) := by decide +kernel
theorem dX12_reach_136 : decode cX12_reach 136 = .ok (.iload_n 2, 1) := by decide +kernel
theorem dX12_reach_137 : decode cX12_reach 137 = .ok (.iconst 4, 1) := by decide +kernel
theorem dX12_reach_138 : decode cX12_reach 138 = .ok (.if_icmp .ne 11, 3) := by decide +kernel
theorem dX12_reach_141 : decode cX12_reach 141 = .ok (.aload_n 0, 1) := by decide +kernel
theorem dX12_reach_142 : decode cX12_reach 142 = .ok (.getfield 102, 3) := by decide +kernel
theorem dX12_reach_145 : decode cX12_reach 145 = .ok (.iload 5, 2) := by decide +kernel
theorem dX12_reach_147 : decode cX12_reach 147 = .ok (.iconst 0, 1) := by decide +kernel
theorem dX12_reach_148 : decode cX12_reach 148 = .ok (.iastore, 1) := by decide +kernel
theorem dX12_reach_149 : decode cX12_reach 149 = .ok (.iconst 1, 1) := by decide +kernel
theorem dX12_reach_150 : decode cX12_reach 150 = .ok (.ireturn, 1) := by decide +kernel
theorem dX12_reach_151 : decode cX12_reach 151 = .ok (.iload_n 1, 1) := by decide +kernel
theorem dX12_reach_152 : decode cX12_reach 152 = .ok (.bipush 15, 2) := by decide +kernel
theorem dX12_reach_154 : decode cX12_reach 154 = .ok (.if_icmp .ne 10, 3) := by decide +kernel
theorem dX12_reach_157 : decode cX12_reach 157 = .ok (.aload_n 0, 1) := by decide +kernel
theorem dX12_reach_158 : decode cX12_reach 158 = .ok (.iload_n 2, 1) := by decide +kernel
theorem dX12_reach_159 : decode cX12_reach 159 = .ok (.putfield 145, 3) := by decide +kernel
theorem dX12_reach_162 : decode cX12_reach 162 = .ok (.iconst 1, 1) := by decide +kernel
theorem dX12_reach_163 : decode cX12_reach 163 = .ok (.ireturn, 1) := by decide +kernel
theorem dX12_reach_164 : decode cX12_reach 164 = .ok (.iload_n 1, 1) := by decide +kernel
theorem dX12_reach_165 : decode cX12_reach 165 = .ok (.bipush 16, 2) := by decide +kernel
theorem dX12_reach_167 : decode cX12_reach 167 = .ok (.if_icmp .ne 9, 3) := by decide +kernel
theorem dX12_reach_170 : decode cX12_reach 170 = .ok (.aload_n 0, 1) := by decide +kernel
theorem dX12_reach_171 : decode cX12_reach 171 = .ok (.iload_n 2, 1) := by decide +kernel
theorem dX12_reach_172 : decode cX12_reach 172 = .ok (.invokevirtual 549, 3) := by decide +kernel
theorem dX12_reach_175 : decode cX12_reach 175 = .ok (.ireturn, 1) := by decide +kernel
theorem dX12_reach_176 : decode cX12_reach 176 = .ok (.iload_n 1, 1) := by decide +kernel
theorem dX12_reach_177 : decode cX12_reach 177 = .ok (.bipush 17, 2) := by decide +kernel
theorem dX12_reach_179 : decode cX12_reach 179 = .ok (.if_icmp .ne 8, 3) := by decide +kernel
theorem dX12_reach_182 : decode cX12_reach 182 = .ok (.aload_n 0, 1) := by decide +kernel
theorem dX12_reach_183 : decode cX12_reach 183 = .ok (.invokevirtual 552, 3) := by decide +kernel
theorem dX12_reach_186 : decode cX12_reach 186 = .ok (.ireturn, 1) := by decide +kernel
theorem dX12_reach_187 : decode cX12_reach 187 = .ok (.iload_n 1, 1) := by decide +kernel
theorem dX12_reach_188 : decode cX12_reach 188 = .ok (.bipush 13, 2) := by decide +kernel
theorem dX12_reach_190 : decode cX12_reach 190 = .ok (.if_icmp .ne 28, 3) := by decide +kernel
theorem dX12_reach_193 : decode cX12_reach 193 = .ok (.aload_n 0, 1) := by decide +kernel
theorem dX12_reach_194 : decode cX12_reach 194 = .ok (.bipush 48, 2) := by decide +kernel
theorem dX12_reach_196 : decode cX12_reach 196 = .ok (.invokevirtual 549, 3) := by decide +kernel
theorem dX12_reach_199 : decode cX12_reach 199 = .ok (.ifCond .ne 13, 3) := by decide +kernel
theorem dX12_reach_202 : decode cX12_reach 202 = .ok (.aload_n 0, 1) := by decide +kernel
theorem dX12_reach_203 : decode cX12_reach 203 = .ok (.invokevirtual 526, 3) := by decide +kernel
theorem dX12_reach_206 : decode cX12_reach 206 = .ok (.invokestatic 474, 3) := by decide +kernel
theorem dX12_reach_209 : decode cX12_reach 209 = .ok (.ifCond .eq 7, 3) := by decide +kernel
theorem dX12_reach_212 : decode cX12_reach 212 = .ok (.iconst 1, 1) := by decide +kernel
theorem dX12_reach_213 : decode cX12_reach 213 = .ok (.goto 4, 3) := by decide +kernel
theorem dX12_reach_216 : decode cX12_reach 216 = .ok (.iconst 0, 1) := by decide +kernel
theorem dX12_reach_217 : decode cX12_reach 217 = .ok (.ireturn, 1) := by decide +kernel
theorem dX12_reach_218 : decode cX12_reach 218 = .ok (.iload_n 1, 1) := by decide +kernel
theorem dX12_reach_219 : decode cX12_reach 219 = .ok (.bipush 14, 2) := by decide +kernel
theorem dX12_reach_221 : decode cX12_reach 221 = .ok (.if_icmp .ne 29, 3) := by decide +kernel
theorem dX12_reach_224 : decode cX12_reach 224 = .ok (.aload_n 0, 1) := by decide +kernel
theorem dX12_reach_225 : decode cX12_reach 225 = .ok (.bipush 15, 2) := by decide +kernel
theorem dX12_reach_227 : decode cX12_reach 227 = .ok (.aload_n 0, 1) := by decide +kernel
theorem dX12_reach_228 : decode cX12_reach 228 = .ok (.getfield 145, 3) := by decide +kernel
theorem dX12_reach_231 : decode cX12_reach 231 = .ok (.iconst 0, 1) := by decide +kernel
theorem dX12_reach_232 : decode cX12_reach 232 = .ok (.iconst 0, 1) := by decide +kernel
theorem dX12_reach_233 : decode cX12_reach 233 = .ok (.invokevirtual 534, 3) := by decide +kernel
theorem dX12_reach_236 : decode cX12_reach 236 = .ok (.aload_n 0, 1) := by decide +kernel
theorem dX12_reach_237 : decode cX12_reach 237 = .ok (.bipush 11, 2) := by decide +kernel
theorem dX12_reach_239 : decode cX12_reach 239 = .ok (.iconst 0, 1) := by decide +kernel
theorem dX12_reach_240 : decode cX12_reach 240 = .ok (.iconst 0, 1) := by decide +kernel
theorem dX12_reach_241 : decode cX12_reach 241 = .ok (.iconst 0, 1) := by decide +kernel
theorem dX12_reach_242 : decode cX12_reach 242 = .ok (.invokevirtual 534, 3) := by decide +kernel
theorem dX12_reach_245 : decode cX12_reach 245 = .ok (.aload_n 0, 1) := by decide +kernel
theorem dX12_reach_246 : decode cX12_reach 246 = .ok (.invokevirtual 530, 3) := by decide +kernel
theorem dX12_reach_249 : decode cX12_reach 249 = .ok (.ireturn, 1) := by decide +kernel
theorem dX12_reach_250 : decode cX12_reach 250 = .ok (.iload_n 1, 1) := by decide +kernel
theorem dX12_reach_251 : decode cX12_reach 251 = .ok (.bipush 10, 2) := by decide +kernel
theorem dX12_reach_253 : decode cX12_reach 253 = .ok (.if_icmp .gt 13, 3) := by decide +kernel
theorem dX12_reach_256 : decode cX12_reach 256 = .ok (.aload_n 0, 1) := by decide +kernel
theorem dX12_reach_257 : decode cX12_reach 257 = .ok (.iload_n 1, 1) := by decide +kernel
theorem dX12_reach_258 : decode cX12_reach 258 = .ok (.iload_n 2, 1) := by decide +kernel
theorem dX12_reach_259 : decode cX12_reach 259 = .ok (.iload_n 3, 1) := by decide +kernel
theorem dX12_reach_260 : decode cX12_reach 260 = .ok (.iload 4, 2) := by decide +kernel
theorem dX12_reach_262 : decode cX12_reach 262 = .ok (.invokevirtual 555, 3) := by decide +kernel
theorem dX12_reach_265 : decode cX12_reach 265 = .ok (.ireturn, 1) := by decide +kernel
theorem dX12_reach_266 : decode cX12_reach 266 = .ok (.aload_n 0, 1) := by decide +kernel
theorem dX12_reach_267 : decode cX12_reach 267 = .ok (.iload_n 1, 1) := by decide +kernel
theorem dX12_reach_268 : decode cX12_reach 268 = .ok (.iload_n 2, 1) := by decide +kernel
theorem dX12_reach_269 : decode cX12_reach 269 = .ok (.iload_n 3, 1) := by decide +kernel
theorem dX12_reach_270 : decode cX12_reach 270 = .ok (.iload 4, 2) := by decide +kernel
theorem dX12_reach_272 : decode cX12_reach 272 = .ok (.invokevirtual 558, 3) := by decide +kernel
theorem dX12_reach_275 : decode cX12_reach 275 = .ok (.ireturn, 1) := by decide +kernel
set_option maxHeartbeats 4000000 in
set_option maxRecDepth 100000 in
theorem r_reach1 (l : Launch) (d : gD) (b : Nat) (F : gM) (t : Nat) (f : Nat → Value) (w1 w2 w3 w4 : Nat) (g1 g2 g3 g4 : Nat → Int32) (h : gRo F t f) (hv39 : f 39 = .ref w1) (hv40 : f 40 = .ref w2) (hv41 : f 41 = .ref w3) (hv42 : f 42 = .ref w4) (hv38 : f 38 = .int (nI 0)) (ha_w1 : F w1 = .inl (gI d, 9000, .inl g1)) (ha_w2 : F w2 = .inl (gI d, 9000, .inl g2)) (ha_w3 : F w3 = .inl (gI d, 9000, .inl g3)) (ha_w4 : F w4 = .inl (gI d, 9000, .inl g4)) (hne01 : w1 ≠ w2) (hne02 : w1 ≠ w3) (hne03 : w1 ≠ w4) (hne12 : w2 ≠ w3) (hne13 : w2 ≠ w4) (hne23 : w3 ≠ w4) : gMi l d b yX12_reach cX12_reach 6 .boolean 1 0 0 F [.ref t, .int 1, .int 0, .int 0, .int 0] (fun r F' => r = 1 ∧ ∃ f', gRo F' t f' ∧ gVr f f' [38] ∧ f' 38 = .int (nI 2) ∧ gKr F F' t [w1, w2, w3, w4] ∧ F' w1 = .inl (gI d, 9000, .inl (upd (upd g1 0 2) 1 3)) ∧ F' w2 = .inl (gI d, 9000, .inl (upd (upd g2 0 0) 1 1)) ∧ F' w3 = .inl (gI d, 9000, .inl (upd (upd g3 0 0) 1 0)) ∧ F' w4 = .inl (gI d, 9000, .inl (upd (upd g4 0 0) 1 0))) := by
  refine gM_of2 rfl (nL := 6) (Nat.le_of_ble_eq_true rfl) ?_
  intro X hX hC; subst hX
  show gG X d b _ F 0 0 0 [some (.ref t), some (.int 1), some (.int 0), some (.int 0), some (.int 0), none] []
  refine g_iload_n hC dX12_reach_0 rfl ?_
  refine g_bipush (v := 28) hC dX12_reach_1 rfl ?_
  refine g_icmp_lt (tgt := 22) hC dX12_reach_3 (by decide) (fun _ => ?_) (fun c1 => False.elim (by revert c1; decide))
  refine g_iload_n hC dX12_reach_22 rfl ?_
  refine g_iconst (v := 1) hC dX12_reach_23 rfl ?_
  refine g_icmp_ne (tgt := 45) hC dX12_reach_24 (by decide) (fun c2 => False.elim (by revert c2; decide)) (fun _ => ?_)
  refine g_aload_n hC dX12_reach_27 rfl ?_
  refine g_iconst (v := 2) hC dX12_reach_28 rfl ?_
  refine g_iconst (v := 0) hC dX12_reach_29 rfl ?_
  refine g_iconst (v := 0) hC dX12_reach_30 rfl ?_
  refine g_iconst (v := 0) hC dX12_reach_31 rfl ?_
  refine g_callVv (As := [.int 2, .int 0, .int 0, .int 0]) hC rfl h (r_goal X.la d b F t _ 2 0 0 0 0 w1 w2 w3 w4 (g1) (g2) (g3) (g4) h hv39 hv40 hv41 hv42 hv38 ha_w1 ha_w2 ha_w3 ha_w4 (by decide) hne01 hne02 hne03 hne12 hne13 hne23) cl_X12_534 rfl rfl (Nat.le_of_ble_eq_true rfl) (gFit_of (Nat.le_of_ble_eq_true rfl) (Nat.le_of_ble_eq_true rfl) (by first | exact Nat.le_of_ble_eq_true rfl | omega | (simp only [gR]; omega)) (by first | exact Nat.le_of_ble_eq_true rfl | omega | (simp only [gR]; omega))) dX12_reach_32 (fun F3 p4 => ?_)
  obtain ⟨f6, ho7, vr8, p9, kr10, f11, f12, f13, f14⟩ := p4
  have p15 : f6 39 = .ref w1 := (vr8 39 (by decide)).trans hv39
  have p16 : f6 40 = .ref w2 := (vr8 40 (by decide)).trans hv40
  have p17 : f6 41 = .ref w3 := (vr8 41 (by decide)).trans hv41
  have p18 : f6 42 = .ref w4 := (vr8 42 (by decide)).trans hv42
  have v19 : gVr f f6 [38] := gVr.tr (gVr.rf (f := f) (js := [38])) vr8 (by decide)
  have k20 : gKr F F3 t [w1, w2, w3, w4] := gKr.tr (gKr.rf (F := F) (t := t) (l := [w1, w2, w3, w4])) kr10
  refine g_aload_n hC dX12_reach_35 rfl ?_
  refine g_iconst (v := 3) hC dX12_reach_36 rfl ?_
  refine g_iconst (v := 1) hC dX12_reach_37 rfl ?_
  refine g_iconst (v := 0) hC dX12_reach_38 rfl ?_
  refine g_iconst (v := 0) hC dX12_reach_39 rfl ?_
  refine g_callVv (As := [.int 3, .int 1, .int 0, .int 0]) hC rfl ho7 (r_goal X.la d b F3 t _ 3 1 0 0 1 w1 w2 w3 w4 ((upd (g1) 0 2)) ((upd (g2) 0 0)) ((upd (g3) 0 0)) ((upd (g4) 0 0)) ho7 p15 p16 p17 p18 p9 f11 f12 f13 f14 (by decide) hne01 hne02 hne03 hne12 hne13 hne23) cl_X12_534 rfl rfl (Nat.le_of_ble_eq_true rfl) (gFit_of (Nat.le_of_ble_eq_true rfl) (Nat.le_of_ble_eq_true rfl) (by first | exact Nat.le_of_ble_eq_true rfl | omega | (simp only [gR]; omega)) (by first | exact Nat.le_of_ble_eq_true rfl | omega | (simp only [gR]; omega))) dX12_reach_40 (fun F21 p22 => ?_)
  obtain ⟨f24, ho25, vr26, p27, kr28, f29, f30, f31, f32⟩ := p22
  have p33 : f24 39 = .ref w1 := (vr26 39 (by decide)).trans p15
  have p34 : f24 40 = .ref w2 := (vr26 40 (by decide)).trans p16
  have p35 : f24 41 = .ref w3 := (vr26 41 (by decide)).trans p17
  have p36 : f24 42 = .ref w4 := (vr26 42 (by decide)).trans p18
  have v37 : gVr f f24 [38] := gVr.tr v19 vr26 (by decide)
  have k38 : gKr F F21 t [w1, w2, w3, w4] := gKr.tr k20 kr28
  refine g_iconst (v := 1) hC dX12_reach_43 rfl ?_
  exact g_iret hC rfl ⟨rfl, _, ho25, v37, p27, k38, f29, f30, f31, f32⟩ (by first | exact Nat.le_of_ble_eq_true rfl | omega | (simp only [gR]; omega)) (by first | exact Nat.le_of_ble_eq_true rfl | omega | (simp only [gR]; omega)) dX12_reach_44
theorem dX12_reachD_0 : decode cX12_reachD 0 = .ok (.aload_n 0, 1) := by decide +kernel
theorem dX12_reachD_1 : decode cX12_reachD 1 = .ok (.invokevirtual 526, 3) := by decide +kernel
theorem dX12_reachD_4 : decode cX12_reachD 4 = .ok (.istore 5, 2) := by decide +kernel
theorem dX12_reachD_6 : decode cX12_reachD 6 = .ok (.iload_n 1, 1) := by decide +kernel
theorem dX12_reachD_7 : decode cX12_reachD 7 = .ok (.iconst 3, 1) := by decide +kernel
theorem dX12_reachD_8 : decode cX12_reachD 8 = .ok (.if_icmp .ne 123, 3) := by decide +kernel
theorem dX12_reachD_11 : decode cX12_reachD 11 = .ok (.aload_n 0, 1) := by decide +kernel
theorem dX12_reachD_12 : decode cX12_reachD 12 = .ok (.getfield 124, 3) := by decide +kernel
theorem dX12_reachD_15 : decode cX12_reachD 15 = .ok (.istore 6, 2) := by decide +kernel
theorem dX12_reachD_17 : decode cX12_reachD 17 = .ok (.aload_n 0, 1) := by decide +kernel
theorem dX12_reachD_18 : decode cX12_reachD 18 = .ok (.getfield 142, 3) := by decide +kernel
theorem dX12_reachD_21 : decode cX12_reachD 21 = .ok (.istore 7, 2) := by decide +kernel
theorem dX12_reachD_23 : decode cX12_reachD 23 = .ok (.iload 5, 2) := by decide +kernel
theorem dX12_reachD_25 : decode cX12_reachD 25 = .ok (.invokestatic 561, 3) := by decide +kernel
theorem dX12_reachD_28 : decode cX12_reachD 28 = .ok (.ifCond .ne 5, 3) := by decide +kernel
theorem dX12_reachD_31 : decode cX12_reachD 31 = .ok (.iconst 0, 1) := by decide +kernel
theorem dX12_reachD_32 : decode cX12_reachD 32 = .ok (.ireturn, 1) := by decide +kernel
theorem dX12_reachD_33 : decode cX12_reachD 33 = .ok (.aload_n 0, 1) := by decide +kernel
theorem dX12_reachD_34 : decode cX12_reachD 34 = .ok (.dup, 1) := by decide +kernel
theorem dX12_reachD_35 : decode cX12_reachD 35 = .ok (.getfield 142, 3) := by decide +kernel
theorem dX12_reachD_38 : decode cX12_reachD 38 = .ok (.iconst 1, 1) := by decide +kernel
theorem dX12_reachD_39 : decode cX12_reachD 39 = .ok (.iadd, 1) := by decide +kernel
theorem dX12_reachD_40 : decode cX12_reachD 40 = .ok (.putfield 142, 3) := by decide +kernel
theorem dX12_reachD_43 : decode cX12_reachD 43 = .ok (.iload 5, 2) := by decide +kernel
theorem dX12_reachD_45 : decode cX12_reachD 45 = .ok (.bipush 43, 2) := by decide +kernel
theorem dX12_reachD_47 : decode cX12_reachD 47 = .ok (.if_icmp .ne 25, 3) := by decide +kernel
theorem dX12_reachD_50 : decode cX12_reachD 50 = .ok (.aload_n 0, 1) := by decide +kernel
theorem dX12_reachD_51 : decode cX12_reachD 51 = .ok (.bipush 8, 2) := by decide +kernel
theorem dX12_reachD_53 : decode cX12_reachD 53 = .ok (.iload_n 2, 1) := by decide +kernel
theorem dX12_reachD_54 : decode cX12_reachD 54 = .ok (.iload 7, 2) := by decide +kernel
theorem dX12_reachD_56 : decode cX12_reachD 56 = .ok (.iload 6, 2) := by decide +kernel
theorem dX12_reachD_58 : decode cX12_reachD 58 = .ok (.invokevirtual 534, 3) := by decide +kernel
theorem dX12_reachD_61 : decode cX12_reachD 61 = .ok (.aload_n 0, 1) := by decide +kernel
theorem dX12_reachD_62 : decode cX12_reachD 62 = .ok (.bipush 7, 2) := by decide +kernel
theorem dX12_reachD_64 : decode cX12_reachD 64 = .ok (.iload_n 2, 1) := by decide +kernel
theorem dX12_reachD_65 : decode cX12_reachD 65 = .ok (.iconst 0, 1) := by decide +kernel
theorem dX12_reachD_66 : decode cX12_reachD 66 = .ok (.iconst 0, 1) := by decide +kernel
theorem dX12_reachD_67 : decode cX12_reachD 67 = .ok (.invokevirtual 534, 3) := by decide +kernel
theorem dX12_reachD_70 : decode cX12_reachD 70 = .ok (.iconst 1, 1) := by decide +kernel
theorem dX12_reachD_71 : decode cX12_reachD 71 = .ok (.ireturn, 1) := by decide +kernel
theorem dX12_reachD_72 : decode cX12_reachD 72 = .ok (.iload 5, 2) := by decide +kernel
theorem dX12_reachD_74 : decode cX12_reachD 74 = .ok (.bipush 40, 2) := by decide +kernel
theorem dX12_reachD_76 : decode cX12_reachD 76 = .ok (.if_icmp .ne 8, 3) := by decide +kernel
theorem dX12_reachD_79 : decode cX12_reachD 79 = .ok (.bipush 50, 2) := by decide +kernel
theorem dX12_reachD_81 : decode cX12_reachD 81 = .ok (.goto 17, 3) := by decide +kernel
theorem dX12_reachD_84 : decode cX12_reachD 84 = .ok (.iload 5, 2) := by decide +kernel
theorem dX12_reachD_86 : decode cX12_reachD 86 = .ok (.bipush 41, 2) := by decide +kernel
theorem dX12_reachD_88 : decode cX12_reachD 88 = .ok (.if_icmp .ne 8, 3) := by decide +kernel
theorem dX12_reachD_91 : decode cX12_reachD 91 = .ok (.bipush 51, 2) := by decide +kernel
theorem dX12_reachD_93 : decode cX12_reachD 93 = .ok (.goto 5, 3) := by decide +kernel
theorem dX12_reachD_96 : decode cX12_reachD 96 = .ok (.bipush 52, 2) := by decide +kernel
theorem dX12_reachD_98 : decode cX12_reachD 98 = .ok (.istore 8, 2) := by decide +kernel
theorem dX12_reachD_100 : decode cX12_reachD 100 = .ok (.aload_n 0, 1) := by decide +kernel
theorem dX12_reachD_101 : decode cX12_reachD 101 = .ok (.invokevirtual 552, 3) := by decide +kernel
theorem dX12_reachD_104 : decode cX12_reachD 104 = .ok (.ifCond .ne 5, 3) := by decide +kernel
theorem dX12_reachD_107 : decode cX12_reachD 107 = .ok (.iconst 0, 1) := by decide +kernel
theorem dX12_reachD_108 : decode cX12_reachD 108 = .ok (.ireturn, 1) := by decide +kernel
theorem dX12_reachD_109 : decode cX12_reachD 109 = .ok (.aload_n 0, 1) := by decide +kernel
theorem dX12_reachD_110 : decode cX12_reachD 110 = .ok (.iconst 5, 1) := by decide +kernel
theorem dX12_reachD_111 : decode cX12_reachD 111 = .ok (.iload 8, 2) := by decide +kernel
theorem dX12_reachD_113 : decode cX12_reachD 113 = .ok (.iload 7, 2) := by decide +kernel
theorem dX12_reachD_115 : decode cX12_reachD 115 = .ok (.iload 6, 2) := by decide +kernel
theorem dX12_reachD_117 : decode cX12_reachD 117 = .ok (.invokevirtual 534, 3) := by decide +kernel
theorem dX12_reachD_120 : decode cX12_reachD 120 = .ok (.aload_n 0, 1) := by decide +kernel
theorem dX12_reachD_121 : decode cX12_reachD 121 = .ok (.iconst 4, 1) := by decide +kernel
theorem dX12_reachD_122 : decode cX12_reachD 122 = .ok (.iload 8, 2) := by decide +kernel
theorem dX12_reachD_124 : decode cX12_reachD 124 = .ok (.iconst 0, 1) := by decide +kernel
theorem dX12_reachD_125 : decode cX12_reachD 125 = .ok (.iconst 0, 1) := by decide +kernel
theorem dX12_reachD_126 : decode cX12_reachD 126 = .ok (.invokevirtual 534, 3) := by decide +kernel
theorem dX12_reachD_129 : decode cX12_reachD 129 = .ok (.iconst 1, 1) := by decide +kernel
theorem dX12_reachD_130 : decode cX12_reachD 130 = .ok (.ireturn, 1) := by decide +kernel
theorem dX12_reachD_131 : decode cX12_reachD 131 = .ok (.iload_n 1, 1) := by decide +kernel
theorem dX12_reachD_132 : decode cX12_reachD 132 = .ok (.iconst 4, 1) := by decide +kernel
theorem dX12_reachD_133 : decode cX12_reachD 133 = .ok (.if_icmp .ne 65, 3) := by decide +kernel
theorem dX12_reachD_136 : decode cX12_reachD 136 = .ok (.aload_n 0, 1) := by decide +kernel
theorem dX12_reachD_137 : decode cX12_reachD 137 = .ok (.getfield 142, 3) := by decide +kernel
theorem dX12_reachD_140 : decode cX12_reachD 140 = .ok (.istore 6, 2) := by decide +kernel
theorem dX12_reachD_142 : decode cX12_reachD 142 = .ok (.aload_n 0, 1) := by decide +kernel
theorem dX12_reachD_143 : decode cX12_reachD 143 = .ok (.iconst 1, 1) := by decide +kernel
theorem dX12_reachD_144 : decode cX12_reachD 144 = .ok (.invokevirtual 549, 3) := by decide +kernel
theorem dX12_reachD_147 : decode cX12_reachD 147 = .ok (.ifCond .ne 5, 3) := by decide +kernel
theorem dX12_reachD_150 : decode cX12_reachD 150 = .ok (.iconst 0, 1) := by decide +kernel
theorem dX12_reachD_151 : decode cX12_reachD 151 = .ok (.ireturn, 1) := by decide +kernel
theorem dX12_reachD_152 : decode cX12_reachD 152 = .ok (.aload_n 0, 1) := by decide +kernel
theorem dX12_reachD_153 : decode cX12_reachD 153 = .ok (.bipush 6, 2) := by decide +kernel
theorem dX12_reachD_155 : decode cX12_reachD 155 = .ok (.bipush 56, 2) := by decide +kernel
theorem dX12_reachD_157 : decode cX12_reachD 157 = .ok (.iload 6, 2) := by decide +kernel
theorem dX12_reachD_159 : decode cX12_reachD 159 = .ok (.aload_n 0, 1) := by decide +kernel
theorem dX12_reachD_160 : decode cX12_reachD 160 = .ok (.getfield 124, 3) := by decide +kernel
theorem dX12_reachD_163 : decode cX12_reachD 163 = .ok (.invokevirtual 534, 3) := by decide +kernel
theorem dX12_reachD_166 : decode cX12_reachD 166 = .ok (.aload_n 0, 1) := by decide +kernel
theorem dX12_reachD_167 : decode cX12_reachD 167 = .ok (.bipush 28, 2) := by decide +kernel
theorem dX12_reachD_169 : decode cX12_reachD 169 = .ok (.iconst 0, 1) := by decide +kernel
theorem dX12_reachD_170 : decode cX12_reachD 170 = .ok (.iconst 0, 1) := by decide +kernel
theorem dX12_reachD_171 : decode cX12_reachD 171 = .ok (.iconst 0, 1) := by decide +kernel
theorem dX12_reachD_172 : decode cX12_reachD 172 = .ok (.invokevirtual 534, 3) := by decide +kernel
theorem dX12_reachD_175 : decode cX12_reachD 175 = .ok (.aload_n 0, 1) := by decide +kernel
theorem dX12_reachD_176 : decode cX12_reachD 176 = .ok (.bipush 16, 2) := by decide +kernel
theorem dX12_reachD_178 : decode cX12_reachD 178 = .ok (.iload_n 2, 1) := by decide +kernel
theorem dX12_reachD_179 : decode cX12_reachD 179 = .ok (.bipush 50, 2) := by decide +kernel
theorem dX12_reachD_181 : decode cX12_reachD 181 = .ok (.if_icmp .ne 8, 3) := by decide +kernel
theorem dX12_reachD_184 : decode cX12_reachD 184 = .ok (.bipush 17, 2) := by decide +kernel
theorem dX12_reachD_186 : decode cX12_reachD 186 = .ok (.goto 5, 3) := by decide +kernel
theorem dX12_reachD_189 : decode cX12_reachD 189 = .ok (.bipush 25, 2) := by decide +kernel
theorem dX12_reachD_191 : decode cX12_reachD 191 = .ok (.iconst 0, 1) := by decide +kernel
theorem dX12_reachD_192 : decode cX12_reachD 192 = .ok (.iconst 0, 1) := by decide +kernel
theorem dX12_reachD_193 : decode cX12_reachD 193 = .ok (.invokevirtual 534, 3) := by decide +kernel
theorem dX12_reachD_196 : decode cX12_reachD 196 = .ok (.iconst 1, 1) := by decide +kernel
theorem dX12_reachD_197 : decode cX12_reachD 197 = .ok (.ireturn, 1) := by decide +kernel
theorem dX12_reachD_198 : decode cX12_reachD 198 = .ok (.iload_n 1, 1) := by decide +kernel
theorem dX12_reachD_199 : decode cX12_reachD 199 = .ok (.iconst 5, 1) := by decide +kernel
theorem dX12_reachD_200 : decode cX12_reachD 200 = .ok (.if_icmp .ne 52, 3) := by decide +kernel
theorem dX12_reachD_203 : decode cX12_reachD 203 = .ok (.aload_n 0, 1) := by decide +kernel
theorem dX12_reachD_204 : decode cX12_reachD 204 = .ok (.bipush 15, 2) := by decide +kernel
theorem dX12_reachD_206 : decode cX12_reachD 206 = .ok (.invokevirtual 549, 3) := by decide +kernel
theorem dX12_reachD_209 : decode cX12_reachD 209 = .ok (.ifCond .eq 22, 3) := by decide +kernel
theorem dX12_reachD_212 : decode cX12_reachD 212 = .ok (.aload_n 0, 1) := by decide +kernel
theorem dX12_reachD_213 : decode cX12_reachD 213 = .ok (.iconst 5, 1) := by decide +kernel
theorem dX12_reachD_214 : decode cX12_reachD 214 = .ok (.iload_n 2, 1) := by decide +kernel
theorem dX12_reachD_215 : decode cX12_reachD 215 = .ok (.iload_n 3, 1) := by decide +kernel
theorem dX12_reachD_216 : decode cX12_reachD 216 = .ok (.iload 4, 2) := by decide +kernel
theorem dX12_reachD_218 : decode cX12_reachD 218 = .ok (.invokevirtual 534, 3) := by decide +kernel
theorem dX12_reachD_221 : decode cX12_reachD 221 = .ok (.aload_n 0, 1) := by decide +kernel
theorem dX12_reachD_222 : decode cX12_reachD 222 = .ok (.iconst 4, 1) := by decide +kernel
theorem dX12_reachD_223 : decode cX12_reachD 223 = .ok (.iload_n 2, 1) := by decide +kernel
theorem dX12_reachD_224 : decode cX12_reachD 224 = .ok (.iconst 0, 1) := by decide +kernel
theorem dX12_reachD_225 : decode cX12_reachD 225 = .ok (.iconst 0, 1) := by decide +kernel
theorem dX12_reachD_226 : decode cX12_reachD 226 = .ok (.invokevirtual 534, 3) := by decide +kernel
theorem dX12_reachD_229 : decode cX12_reachD 229 = .ok (.iconst 1, 1) := by decide +kernel
theorem dX12_reachD_230 : decode cX12_reachD 230 = .ok (.ireturn, 1) := by decide +kernel
theorem dX12_reachD_231 : decode cX12_reachD 231 = .ok (.aload_n 0, 1) := by decide +kernel
theorem dX12_reachD_232 : decode cX12_reachD 232 = .ok (.invokevirtual 564, 3) := by decide +kernel
theorem dX12_reachD_235 : decode cX12_reachD 235 = .ok (.ifCond .ne 5, 3) := by decide +kernel
theorem dX12_reachD_238 : decode cX12_reachD 238 = .ok (.iconst 0, 1) := by decide +kernel
theorem dX12_reachD_239 : decode cX12_reachD 239 = .ok (.ireturn, 1) := by decide +kernel
theorem dX12_reachD_240 : decode cX12_reachD 240 = .ok (.aload_n 0, 1) := by decide +kernel
theorem dX12_reachD_241 : decode cX12_reachD 241 = .ok (.iload_n 2, 1) := by decide +kernel
theorem dX12_reachD_242 : decode cX12_reachD 242 = .ok (.iload_n 3, 1) := by decide +kernel
theorem dX12_reachD_243 : decode cX12_reachD 243 = .ok (.iload 4, 2) := by decide +kernel
theorem dX12_reachD_245 : decode cX12_reachD 245 = .ok (.iconst 0, 1) := by decide +kernel
theorem dX12_reachD_246 : decode cX12_reachD 246 = .ok (.invokevirtual 542, 3) := by decide +kernel
theorem dX12_reachD_249 : decode cX12_reachD 249 = .ok (.pop, 1) := by decide +kernel
theorem dX12_reachD_250 : decode cX12_reachD 250 = .ok (.iconst 1, 1) := by decide +kernel
theorem dX12_reachD_251 : decode cX12_reachD 251 = .ok (.ireturn, 1) := by decide +kernel
theorem dX12_reachD_252 : decode cX12_reachD 252 = .ok (.iload_n 1, 1) := by decide +kernel
theorem dX12_reachD_253 : decode cX12_reachD 253 = .ok (.bipush 8, 2) := by decide +kernel
theorem dX12_reachD_255 : decode cX12_reachD 255 = .ok (.if_icmp .ne 67, 3) := by decide +kernel
theorem dX12_reachD_258 : decode cX12_reachD 258 = .ok (.aload_n 0, 1) := by decide +kernel
theorem dX12_reachD_259 : decode cX12_reachD 259 = .ok (.getfield 87, 3) := by decide +kernel
theorem dX12_reachD_262 : decode cX12_reachD 262 = .ok (.aload_n 0, 1) := by decide +kernel
theorem dX12_reachD_263 : decode cX12_reachD 263 = .ok (.getfield 121, 3) := by decide +kernel
theorem dX12_reachD_266 : decode cX12_reachD 266 = .ok (.aload_n 0, 1) := by decide +kernel
theorem dX12_reachD_267 : decode cX12_reachD 267 = .ok (.getfield 124, 3) := by decide +kernel
theorem dX12_reachD_270 : decode cX12_reachD 270 = .ok (.iconst 1, 1) := by decide +kernel
theorem dX12_reachD_271 : decode cX12_reachD 271 = .ok (.isub, 1) := by decide +kernel
theorem dX12_reachD_272 : decode cX12_reachD 272 = .ok (.iaload, 1) := by decide +kernel
theorem dX12_reachD_273 : decode cX12_reachD 273 = .ok (.baload, 1) := by decide +kernel
theorem dX12_reachD_274 : decode cX12_reachD 274 = .ok (.bipush 54, 2) := by decide +kernel
theorem dX12_reachD_276 : decode cX12_reachD 276 = .ok (.if_icmp .ne 33, 3) := by decide +kernel
theorem dX12_reachD_279 : decode cX12_reachD 279 = .ok (.aload_n 0, 1) := by decide +kernel
theorem dX12_reachD_280 : decode cX12_reachD 280 = .ok (.bipush 44, 2) := by decide +kernel
theorem dX12_reachD_282 : decode cX12_reachD 282 = .ok (.invokevirtual 549, 3) := by decide +kernel
theorem dX12_reachD_285 : decode cX12_reachD 285 = .ok (.ifCond .eq 24, 3) := by decide +kernel
theorem dX12_reachD_288 : decode cX12_reachD 288 = .ok (.aload_n 0, 1) := by decide +kernel
theorem dX12_reachD_289 : decode cX12_reachD 289 = .ok (.bipush 8, 2) := by decide +kernel
theorem dX12_reachD_291 : decode cX12_reachD 291 = .ok (.iload_n 2, 1) := by decide +kernel
theorem dX12_reachD_292 : decode cX12_reachD 292 = .ok (.iload_n 3, 1) := by decide +kernel
theorem dX12_reachD_293 : decode cX12_reachD 293 = .ok (.iload 4, 2) := by decide +kernel
theorem dX12_reachD_295 : decode cX12_reachD 295 = .ok (.invokevirtual 534, 3) := by decide +kernel
theorem dX12_reachD_298 : decode cX12_reachD 298 = .ok (.aload_n 0, 1) := by decide +kernel
theorem dX12_reachD_299 : decode cX12_reachD 299 = .ok (.bipush 7, 2) := by decide +kernel
theorem dX12_reachD_301 : decode cX12_reachD 301 = .ok (.iconst 1, 1) := by decide +kernel
theorem dX12_reachD_302 : decode cX12_reachD 302 = .ok (.iconst 0, 1) := by decide +kernel
theorem dX12_reachD_303 : decode cX12_reachD 303 = .ok (.iconst 0, 1) := by decide +kernel
theorem dX12_reachD_304 : decode cX12_reachD 304 = .ok (.invokevirtual 534, 3) := by decide +kernel
theorem dX12_reachD_307 : decode cX12_reachD 307 = .ok (.iconst 1, 1) := by decide +kernel
theorem dX12_reachD_308 : decode cX12_reachD 308 = .ok (.ireturn, 1) := by decide +kernel
theorem dX12_reachD_309 : decode cX12_reachD 309 = .ok (.aload_n 0, 1) := by decide +kernel
theorem dX12_reachD_310 : decode cX12_reachD 310 = .ok (.bipush 53, 2) := by decide +kernel
theorem dX12_reachD_312 : decode cX12_reachD 312 = .ok (.iload_n 3, 1) := by decide +kernel
theorem dX12_reachD_313 : decode cX12_reachD 313 = .ok (.iload 4, 2) := by decide +kernel
theorem dX12_reachD_315 : decode cX12_reachD 315 = .ok (.iconst 0, 1) := by decide +kernel
theorem dX12_reachD_316 : decode cX12_reachD 316 = .ok (.invokevirtual 542, 3) := by decide +kernel
theorem dX12_reachD_319 : decode cX12_reachD 319 = .ok (.pop, 1) := by decide +kernel
theorem dX12_reachD_320 : decode cX12_reachD 320 = .ok (.iconst 1, 1) := by decide +kernel
theorem dX12_reachD_321 : decode cX12_reachD 321 = .ok (.ireturn, 1) := by decide +kernel
theorem dX12_reachD_322 : decode cX12_reachD 322 = .ok (.iload_n 1, 1) := by decide +kernel
theorem dX12_reachD_323 : decode cX12_reachD 323 = .ok (.bipush 7, 2) := by decide +kernel
theorem dX12_reachD_325 : decode cX12_reachD 325 = .ok (.if_icmp .ne 9, 3) := by decide +kernel
theorem dX12_reachD_328 : decode cX12_reachD 328 = .ok (.aload_n 0, 1) := by decide +kernel
theorem dX12_reachD_329 : decode cX12_reachD 329 = .ok (.iload_n 2, 1) := by decide +kernel
theorem dX12_reachD_330 : decode cX12_reachD 330 = .ok (.invokevirtual 567, 3) := by decide +kernel
theorem dX12_reachD_333 : decode cX12_reachD 333 = .ok (.ireturn, 1) := by decide +kernel
theorem dX12_reachD_334 : decode cX12_reachD 334 = .ok (.iload_n 1, 1) := by decide +kernel
theorem dX12_reachD_335 : decode cX12_reachD 335 = .ok (.bipush 9, 2) := by decide +kernel
theorem dX12_reachD_337 : decode cX12_reachD 337 = .ok (.if_icmp .ne 67, 3) := by decide +kernel
theorem dX12_reachD_340 : decode cX12_reachD 340 = .ok (.aload_n 0, 1) := by decide +kernel
theorem dX12_reachD_341 : decode cX12_reachD 341 = .ok (.bipush 10, 2) := by decide +kernel
theorem dX12_reachD_343 : decode cX12_reachD 343 = .ok (.iload_n 2, 1) := by decide +kernel
theorem dX12_reachD_344 : decode cX12_reachD 344 = .ok (.iconst 0, 1) := by decide +kernel
theorem dX12_reachD_345 : decode cX12_reachD 345 = .ok (.iconst 0, 1) := by decide +kernel
theorem dX12_reachD_346 : decode cX12_reachD 346 = .ok (.invokevirtual 534, 3) := by decide +kernel
theorem dX12_reachD_349 : decode cX12_reachD 349 = .ok (.iload 5, 2) := by decide +kernel
theorem dX12_reachD_351 : decode cX12_reachD 351 = .ok (.bipush 46, 2) := by decide +kernel
theorem dX12_reachD_353 : decode cX12_reachD 353 = .ok (.if_icmp .eq 14, 3) := by decide +kernel
theorem dX12_reachD_356 : decode cX12_reachD 356 = .ok (.aload_n 0, 1) := by decide +kernel
theorem dX12_reachD_357 : decode cX12_reachD 357 = .ok (.bipush 28, 2) := by decide +kernel
theorem dX12_reachD_359 : decode cX12_reachD 359 = .ok (.iconst 0, 1) := by decide +kernel
theorem dX12_reachD_360 : decode cX12_reachD 360 = .ok (.iconst 0, 1) := by decide +kernel
theorem dX12_reachD_361 : decode cX12_reachD 361 = .ok (.iconst 0, 1) := by decide +kernel
theorem dX12_reachD_362 : decode cX12_reachD 362 = .ok (.invokevirtual 534, 3) := by decide +kernel
theorem dX12_reachD_365 : decode cX12_reachD 365 = .ok (.iconst 1, 1) := by decide +kernel
theorem dX12_reachD_366 : decode cX12_reachD 366 = .ok (.ireturn, 1) := by decide +kernel
theorem dX12_reachD_367 : decode cX12_reachD 367 = .ok (.aload_n 0, 1) := by decide +kernel
theorem dX12_reachD_368 : decode cX12_reachD 368 = .ok (.bipush 6, 2) := by decide +kernel
theorem dX12_reachD_370 : decode cX12_reachD 370 = .ok (.bipush 59, 2) := by decide +kernel
theorem dX12_reachD_372 : decode cX12_reachD 372 = .ok (.aload_n 0, 1) := by decide +kernel
theorem dX12_reachD_373 : decode cX12_reachD 373 = .ok (.getfield 142, 3) := by decide +kernel
theorem dX12_reachD_376 : decode cX12_reachD 376 = .ok (.aload_n 0, 1) := by decide +kernel
theorem dX12_reachD_377 : decode cX12_reachD 377 = .ok (.getfield 124, 3) := by decide +kernel
theorem dX12_reachD_380 : decode cX12_reachD 380 = .ok (.invokevirtual 534, 3) := by decide +kernel
theorem dX12_reachD_383 : decode cX12_reachD 383 = .ok (.aload_n 0, 1) := by decide +kernel
theorem dX12_reachD_384 : decode cX12_reachD 384 = .ok (.dup, 1) := by decide +kernel
theorem dX12_reachD_385 : decode cX12_reachD 385 = .ok (.getfield 142, 3) := by decide +kernel
theorem dX12_reachD_388 : decode cX12_reachD 388 = .ok (.iconst 1, 1) := by decide +kernel
theorem dX12_reachD_389 : decode cX12_reachD 389 = .ok (.iadd, 1) := by decide +kernel
theorem dX12_reachD_390 : decode cX12_reachD 390 = .ok (.putfield 142, 3) := by decide +kernel
theorem dX12_reachD_393 : decode cX12_reachD 393 = .ok (.aload_n 0, 1) := by decide +kernel
theorem dX12_reachD_394 : decode cX12_reachD 394 = .ok (.bipush 28, 2) := by decide +kernel
theorem dX12_reachD_396 : decode cX12_reachD 396 = .ok (.iconst 0, 1) := by decide +kernel
theorem dX12_reachD_397 : decode cX12_reachD 397 = .ok (.iconst 0, 1) := by decide +kernel
theorem dX12_reachD_398 : decode cX12_reachD 398 = .ok (.iconst 0, 1) := by decide +kernel
theorem dX12_reachD_399 : decode cX12_reachD 399 = .ok (.invokevirtual 534, 3) := by decide +kernel
theorem dX12_reachD_402 : decode cX12_reachD 402 = .ok (.iconst 1, 1) := by decide +kernel
theorem dX12_reachD_403 : decode cX12_reachD 403 = .ok (.ireturn, 1) := by decide +kernel
theorem dX12_reachD_404 : decode cX12_reachD 404 = .ok (.iload_n 2, 1) := by decide +kernel
theorem dX12_reachD_405 : decode cX12_reachD 405 = .ok (.iconst 1, 1) := by decide +kernel
theorem dX12_reachD_406 : decode cX12_reachD 406 = .ok (.if_icmp .ne 5, 3) := by decide +kernel
theorem dX12_reachD_409 : decode cX12_reachD 409 = .ok (.iconst 1, 1) := by decide +kernel
theorem dX12_reachD_410 : decode cX12_reachD 410 = .ok (.ireturn, 1) := by decide +kernel
theorem dX12_reachD_411 : decode cX12_reachD 411 = .ok (.aload_n 0, 1) := by decide +kernel
theorem dX12_reachD_412 : decode cX12_reachD 412 = .ok (.bipush 14, 2) := by decide +kernel
theorem dX12_reachD_414 : decode cX12_reachD 414 = .ok (.invokevirtual 549, 3) := by decide +kernel
theorem dX12_reachD_417 : decode cX12_reachD 417 = .ok (.ifCond .ne 5, 3) := by decide +kernel
theorem dX12_reachD_420 : decode cX12_reachD 420 = .ok (.iconst 0, 1) := by decide +kernel
theorem dX12_reachD_421 : decode cX12_reachD 421 = .ok (.ireturn, 1) := by decide +kernel
theorem dX12_reachD_422 : decode cX12_reachD 422 = .ok (.aload_n 0, 1) := by decide +kernel
theorem dX12_reachD_423 : decode cX12_reachD 423 = .ok (.bipush 9, 2) := by decide +kernel
theorem dX12_reachD_425 : decode cX12_reachD 425 = .ok (.iload_n 2, 1) := by decide +kernel
theorem dX12_reachD_426 : decode cX12_reachD 426 = .ok (.iconst 1, 1) := by decide +kernel
theorem dX12_reachD_427 : decode cX12_reachD 427 = .ok (.isub, 1) := by decide +kernel
theorem dX12_reachD_428 : decode cX12_reachD 428 = .ok (.iconst 0, 1) := by decide +kernel
theorem dX12_reachD_429 : decode cX12_reachD 429 = .ok (.iconst 0, 1) := by decide +kernel
theorem dX12_reachD_430 : decode cX12_reachD 430 = .ok (.invokevirtual 534, 3) := by decide +kernel
theorem dX12_reachD_433 : decode cX12_reachD 433 = .ok (.iconst 1, 1) := by decide +kernel
theorem dX12_reachD_434 : decode cX12_reachD 434 = .ok (.ireturn, 1) := by decide +kernel
set_option maxHeartbeats 4000000 in
set_option maxRecDepth 100000 in
theorem r_reachD3 (l : Launch) (d : gD) (b : Nat) (F : gM) (t : Nat) (f : Nat → Value)  (h : gRo F t f) (hv43 : f 43 = .int 0) (hv8 : f 8 = .int 0) (hv37 : f 37 = .int 0)   : gMi l d b yX12_reachD cX12_reachD 9 .boolean 1 0 0 F [.ref t, .int 3, .int 1, .int 0, .int 0] (fun r F' => r = 0 ∧ F' = F) := by
  refine gM_of2 rfl (nL := 9) (Nat.le_of_ble_eq_true rfl) ?_
  intro X hX hC; subst hX
  show gG X d b _ F 0 0 0 [some (.ref t), some (.int 3), some (.int 1), some (.int 0), some (.int 0), none, none, none, none] []
  refine g_aload_n hC dX12_reachD_0 rfl ?_
  refine g_callVi (As := []) hC rfl h (r_tk X.la d b F t _ h hv43 hv8) cl_X12_526 rfl rfl (Nat.le_of_ble_eq_true rfl) (gFit_of (Nat.le_of_ble_eq_true rfl) (Nat.le_of_ble_eq_true rfl) (by first | exact Nat.le_of_ble_eq_true rfl | omega | (simp only [gR]; omega)) (by first | exact Nat.le_of_ble_eq_true rfl | omega | (simp only [gR]; omega))) dX12_reachD_1 (fun r3 F1 p2 => ?_)
  obtain ⟨rfl, eF1⟩ := p2; have eF1 := eF1.symm; subst eF1
  refine g_istore (lv' := [some (.ref t), some (.int 3), some (.int 1), some (.int 0), some (.int 0), some (.int 0), none, none, none]) hC dX12_reachD_4 (Nat.le_of_ble_eq_true rfl) rfl rfl ?_
  refine g_iload_n hC dX12_reachD_6 rfl ?_
  refine g_iconst (v := 3) hC dX12_reachD_7 rfl ?_
  refine g_icmp_ne (tgt := 131) hC dX12_reachD_8 (by decide) (fun c4 => False.elim (by revert c4; decide)) (fun _ => ?_)
  refine g_aload_n hC dX12_reachD_11 rfl ?_
  refine g_rget hC h fl_X12_124 hv37 (by decide) dX12_reachD_12 ?_
  refine g_istore (lv' := [some (.ref t), some (.int 3), some (.int 1), some (.int 0), some (.int 0), some (.int 0), some (.int 0), none, none]) hC dX12_reachD_15 (Nat.le_of_ble_eq_true rfl) rfl rfl ?_
  refine g_aload_n hC dX12_reachD_17 rfl ?_
  refine g_rget hC h fl_X12_142 hv43 (by decide) dX12_reachD_18 ?_
  refine g_istore (lv' := [some (.ref t), some (.int 3), some (.int 1), some (.int 0), some (.int 0), some (.int 0), some (.int 0), some (.int 0), none]) hC dX12_reachD_21 (Nat.le_of_ble_eq_true rfl) rfl rfl ?_
  refine g_iload hC dX12_reachD_23 rfl ?_
  refine g_callSi (As := [.int 0]) hC (r_isD X.la d b F) cl_X12_561 rfl rfl (Nat.le_of_ble_eq_true rfl) (gFit_of (Nat.le_of_ble_eq_true rfl) (Nat.le_of_ble_eq_true rfl) (by first | exact Nat.le_of_ble_eq_true rfl | omega | (simp only [gR]; omega)) (by first | exact Nat.le_of_ble_eq_true rfl | omega | (simp only [gR]; omega))) dX12_reachD_25 (fun r7 F5 p6 => ?_)
  obtain ⟨rfl, eF5⟩ := p6; have eF5 := eF5.symm; subst eF5
  refine g_if_ne (tgt := 33) hC dX12_reachD_28 (by decide) (fun c8 => False.elim (by revert c8; decide)) (fun _ => ?_)
  refine g_iconst (v := 0) hC dX12_reachD_31 rfl ?_
  exact g_iret hC rfl ⟨rfl, rfl⟩ (by first | exact Nat.le_of_ble_eq_true rfl | omega | (simp only [gR]; omega)) (by first | exact Nat.le_of_ble_eq_true rfl | omega | (simp only [gR]; omega)) dX12_reachD_32
set_option maxHeartbeats 4000000 in
set_option maxRecDepth 100000 in
theorem r_reach3 (l : Launch) (d : gD) (b : Nat) (F : gM) (t : Nat) (f : Nat → Value)  (h : gRo F t f) (hv43 : f 43 = .int 0) (hv8 : f 8 = .int 0) (hv37 : f 37 = .int 0)   : gMi l d b yX12_reach cX12_reach 6 .boolean 2 0 0 F [.ref t, .int 3, .int 1, .int 0, .int 0] (fun r F' => r = 0 ∧ F' = F) := by
  refine gM_of2 rfl (nL := 6) (Nat.le_of_ble_eq_true rfl) ?_
  intro X hX hC; subst hX
  show gG X d b _ F 0 0 0 [some (.ref t), some (.int 3), some (.int 1), some (.int 0), some (.int 0), none] []
  refine g_iload_n hC dX12_reach_0 rfl ?_
  refine g_bipush (v := 28) hC dX12_reach_1 rfl ?_
  refine g_icmp_lt (tgt := 22) hC dX12_reach_3 (by decide) (fun _ => ?_) (fun c1 => False.elim (by revert c1; decide))
  refine g_iload_n hC dX12_reach_22 rfl ?_
  refine g_iconst (v := 1) hC dX12_reach_23 rfl ?_
  refine g_icmp_ne (tgt := 45) hC dX12_reach_24 (by decide) (fun _ => ?_) (fun c2 => False.elim (by revert c2; decide))
  refine g_iload_n hC dX12_reach_45 rfl ?_
  refine g_iconst (v := 2) hC dX12_reach_46 rfl ?_
  refine g_icmp_ne (tgt := 119) hC dX12_reach_47 (by decide) (fun _ => ?_) (fun c3 => False.elim (by revert c3; decide))
  refine g_iload_n hC dX12_reach_119 rfl ?_
  refine g_bipush (v := 6) hC dX12_reach_120 rfl ?_
  refine g_icmp_ne (tgt := 151) hC dX12_reach_122 (by decide) (fun _ => ?_) (fun c4 => False.elim (by revert c4; decide))
  refine g_iload_n hC dX12_reach_151 rfl ?_
  refine g_bipush (v := 15) hC dX12_reach_152 rfl ?_
  refine g_icmp_ne (tgt := 164) hC dX12_reach_154 (by decide) (fun _ => ?_) (fun c5 => False.elim (by revert c5; decide))
  refine g_iload_n hC dX12_reach_164 rfl ?_
  refine g_bipush (v := 16) hC dX12_reach_165 rfl ?_
  refine g_icmp_ne (tgt := 176) hC dX12_reach_167 (by decide) (fun _ => ?_) (fun c6 => False.elim (by revert c6; decide))
  refine g_iload_n hC dX12_reach_176 rfl ?_
  refine g_bipush (v := 17) hC dX12_reach_177 rfl ?_
  refine g_icmp_ne (tgt := 187) hC dX12_reach_179 (by decide) (fun _ => ?_) (fun c7 => False.elim (by revert c7; decide))
  refine g_iload_n hC dX12_reach_187 rfl ?_
  refine g_bipush (v := 13) hC dX12_reach_188 rfl ?_
  refine g_icmp_ne (tgt := 218) hC dX12_reach_190 (by decide) (fun _ => ?_) (fun c8 => False.elim (by revert c8; decide))
  refine g_iload_n hC dX12_reach_218 rfl ?_
  refine g_bipush (v := 14) hC dX12_reach_219 rfl ?_
  refine g_icmp_ne (tgt := 250) hC dX12_reach_221 (by decide) (fun _ => ?_) (fun c9 => False.elim (by revert c9; decide))
  refine g_iload_n hC dX12_reach_250 rfl ?_
  refine g_bipush (v := 10) hC dX12_reach_251 rfl ?_
  refine g_icmp_gt (tgt := 266) hC dX12_reach_253 (by decide) (fun c10 => False.elim (by revert c10; decide)) (fun _ => ?_)
  refine g_aload_n hC dX12_reach_256 rfl ?_
  refine g_iload_n hC dX12_reach_257 rfl ?_
  refine g_iload_n hC dX12_reach_258 rfl ?_
  refine g_iload_n hC dX12_reach_259 rfl ?_
  refine g_iload hC dX12_reach_260 rfl ?_
  refine g_callVi (As := [.int 3, .int 1, .int 0, .int 0]) hC rfl h (r_reachD3 X.la d b F t _ h hv43 hv8 hv37) cl_X12_555 rfl rfl (Nat.le_of_ble_eq_true rfl) (gFit_of (Nat.le_of_ble_eq_true rfl) (Nat.le_of_ble_eq_true rfl) (by first | exact Nat.le_of_ble_eq_true rfl | omega | (simp only [gR]; omega)) (by first | exact Nat.le_of_ble_eq_true rfl | omega | (simp only [gR]; omega))) dX12_reach_262 (fun r13 F11 p12 => ?_)
  obtain ⟨rfl, eF11⟩ := p12; have eF11 := eF11.symm; subst eF11
  exact g_iret hC rfl ⟨rfl, rfl⟩ (by first | exact Nat.le_of_ble_eq_true rfl | omega | (simp only [gR]; omega)) (by first | exact Nat.le_of_ble_eq_true rfl | omega | (simp only [gR]; omega)) dX12_reach_265
