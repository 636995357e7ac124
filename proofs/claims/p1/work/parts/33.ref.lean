theorem kw_2453 : Cond.code yX12_reach cX12_reach 6 (some .boolean) ∈ gWs := gWm 2453 (by decide +kernel) rfl
theorem kw_2450 : Cond.methodLink RX12 538 yX12_reach ∈ gWs := gWm 2450 (by decide +kernel) rfl
theorem kw_2452 : Cond.instanceMethod yX12_reach ∈ gWs := gWm 2452 (by decide +kernel) rfl
theorem kw_137 : Cond.selects RX12 yX12_reach yX12_reach ∈ gWs := gWm 137 (by decide +kernel) rfl
theorem cl_X12_538 : gCV RX12 538 yX12_reach cX12_reach 6 (some .boolean) 4 := ⟨g_mk [.methodLink RX12 538 yX12_reach, .instanceMethod yX12_reach, .selects yX12_reach.cls yX12_reach yX12_reach, .initialized yX12_reach.cls] (gWs_all kw_2453) (List.forall_mem_cons.mpr ⟨kw_2450, List.forall_mem_cons.mpr ⟨kw_2452, List.forall_mem_cons.mpr ⟨kw_137, List.forall_mem_cons.mpr ⟨kw_257, fun _ h => nomatch h⟩⟩⟩⟩), rfl, by decide +kernel, by decide +kernel, by decide +kernel⟩
theorem kw_2334 : Cond.code yX12_scan cX12_scan 3 (some .int) ∈ gWs := gWm 2334 (by decide +kernel) rfl
theorem kw_2331 : Cond.methodLink RX12 917 yX12_scan ∈ gWs := gWm 2331 (by decide +kernel) rfl
theorem kw_2333 : Cond.instanceMethod yX12_scan ∈ gWs := gWm 2333 (by decide +kernel) rfl
theorem kw_123 : Cond.selects RX12 yX12_scan yX12_scan ∈ gWs := gWm 123 (by decide +kernel) rfl
theorem cl_X12_917 : gCV RX12 917 yX12_scan cX12_scan 3 (some .int) 0 := ⟨g_mk [.methodLink RX12 917 yX12_scan, .instanceMethod yX12_scan, .selects yX12_scan.cls yX12_scan yX12_scan, .initialized yX12_scan.cls] (gWs_all kw_2334) (List.forall_mem_cons.mpr ⟨kw_2331, List.forall_mem_cons.mpr ⟨kw_2333, List.forall_mem_cons.mpr ⟨kw_123, List.forall_mem_cons.mpr ⟨kw_257, fun _ h => nomatch h⟩⟩⟩⟩), rfl, by decide +kernel, by decide +kernel, by decide +kernel⟩
theorem kw_2445 : Cond.code yX12_parse cX12_parse 1 (some .boolean) ∈ gWs := gWm 2445 (by decide +kernel) rfl
theorem kw_2442 : Cond.methodLink RX12 920 yX12_parse ∈ gWs := gWm 2442 (by decide +kernel) rfl
theorem kw_2444 : Cond.instanceMethod yX12_parse ∈ gWs := gWm 2444 (by decide +kernel) rfl
theorem kw_135 : Cond.selects RX12 yX12_parse yX12_parse ∈ gWs := gWm 135 (by decide +kernel) rfl
theorem cl_X12_920 : gCV RX12 920 yX12_parse cX12_parse 1 (some .boolean) 0 := ⟨g_mk [.methodLink RX12 920 yX12_parse, .instanceMethod yX12_parse, .selects yX12_parse.cls yX12_parse yX12_parse, .initialized yX12_parse.cls] (gWs_all kw_2445) (List.forall_mem_cons.mpr ⟨kw_2442, List.forall_mem_cons.mpr ⟨kw_2444, List.forall_mem_cons.mpr ⟨kw_135, List.forall_mem_cons.mpr ⟨kw_257, fun _ h => nomatch h⟩⟩⟩⟩), rfl, by decide +kernel, by decide +kernel, by decide +kernel⟩
theorem kw_2542 : Cond.code yX12_fault cX12_fault 3 none ∈ gWs := gWm 2542 (by decide +kernel) rfl
theorem kw_2539 : Cond.methodLink RX12 605 yX12_fault ∈ gWs := gWm 2539 (by decide +kernel) rfl
theorem kw_2541 : Cond.instanceMethod yX12_fault ∈ gWs := gWm 2541 (by decide +kernel) rfl
theorem kw_157 : Cond.selects RX12 yX12_fault yX12_fault ∈ gWs := gWm 157 (by decide +kernel) rfl
theorem cl_X12_605 : gCV RX12 605 yX12_fault cX12_fault 3 none 2 := ⟨g_mk [.methodLink RX12 605 yX12_fault, .instanceMethod yX12_fault, .selects yX12_fault.cls yX12_fault yX12_fault, .initialized yX12_fault.cls] (gWs_all kw_2542) (List.forall_mem_cons.mpr ⟨kw_2539, List.forall_mem_cons.mpr ⟨kw_2541, List.forall_mem_cons.mpr ⟨kw_157, List.forall_mem_cons.mpr ⟨kw_257, fun _ h => nomatch h⟩⟩⟩⟩), rfl, by decide +kernel, by decide +kernel, by decide +kernel⟩
theorem dX12_fault_0 : decode cX12_fault 0 = .ok (.aload_n 0, 1) := by decide +kernel
theorem dX12_fault_1 : decode cX12_fault 1 = .ok (.getfield 48, 3) := by decide +kernel
theorem dX12_fault_4 : decode cX12_fault 4 = .ok (.ifCond .eq 28, 3) := by decide +kernel
theorem dX12_fault_7 : decode cX12_fault 7 = .ok (.iload_n 2, 1) := by decide +kernel
theorem dX12_fault_8 : decode cX12_fault 8 = .ok (.aload_n 0, 1) := by decide +kernel
theorem dX12_fault_9 : decode cX12_fault 9 = .ok (.getfield 51, 3) := by decide +kernel
theorem dX12_fault_12 : decode cX12_fault 12 = .ok (.if_icmp .gt 19, 3) := by decide +kernel
theorem dX12_fault_15 : decode cX12_fault 15 = .ok (.iload_n 2, 1) := by decide +kernel
theorem dX12_fault_16 : decode cX12_fault 16 = .ok (.aload_n 0, 1) := by decide +kernel
theorem dX12_fault_17 : decode cX12_fault 17 = .ok (.getfield 51, 3) := by decide +kernel
theorem dX12_fault_20 : decode cX12_fault 20 = .ok (.if_icmp .ne 12, 3) := by decide +kernel
theorem dX12_fault_23 : decode cX12_fault 23 = .ok (.iload_n 1, 1) := by decide +kernel
theorem dX12_fault_24 : decode cX12_fault 24 = .ok (.aload_n 0, 1) := by decide +kernel
theorem dX12_fault_25 : decode cX12_fault 25 = .ok (.getfield 48, 3) := by decide +kernel
theorem dX12_fault_28 : decode cX12_fault 28 = .ok (.if_icmp .lt 4, 3) := by decide +kernel
theorem dX12_fault_31 : decode cX12_fault 31 = .ok (.return_, 1) := by decide +kernel
theorem dX12_fault_32 : decode cX12_fault 32 = .ok (.aload_n 0, 1) := by decide +kernel
theorem dX12_fault_33 : decode cX12_fault 33 = .ok (.iload_n 1, 1) := by decide +kernel
theorem dX12_fault_34 : decode cX12_fault 34 = .ok (.putfield 48, 3) := by decide +kernel
theorem dX12_fault_37 : decode cX12_fault 37 = .ok (.aload_n 0, 1) := by decide +kernel
theorem dX12_fault_38 : decode cX12_fault 38 = .ok (.iload_n 2, 1) := by decide +kernel
theorem dX12_fault_39 : decode cX12_fault 39 = .ok (.putfield 51, 3) := by decide +kernel
theorem dX12_fault_42 : decode cX12_fault 42 = .ok (.return_, 1) := by decide +kernel
set_option maxHeartbeats 4000000 in
set_option maxRecDepth 100000 in
theorem r_fault2 (l : Launch) (d : gD) (b : Nat) (F : gM) (t : Nat) (f : Nat → Value) (i1 i2 : Int32) (h : gRo F t f) (hv12 : f 12 = .int 0)   : gMv l d b yX12_fault cX12_fault 3 0 0 0 F [.ref t, .int i1, .int i2] (fun F' => ∃ f', gRo F' t f' ∧ f' 13 = .int i2) := by
  refine gM_of2 rfl (nL := 3) (Nat.le_of_ble_eq_true rfl) ?_
  intro X hX hC; subst hX
  show gG X d b _ F 0 0 0 [some (.ref t), some (.int i1), some (.int i2)] []
  refine g_aload_n hC dX12_fault_0 rfl ?_
  refine g_rget hC h fl_X12_48 hv12 (by decide) dX12_fault_1 ?_
  refine g_if_eq (tgt := 32) hC dX12_fault_4 (by decide) (fun _ => ?_) (fun c1 => False.elim (by revert c1; decide))
  refine g_aload_n hC dX12_fault_32 rfl ?_
  refine g_iload_n hC dX12_fault_33 rfl ?_
  refine g_rput hC h fl_X12_48 rfl rfl (by decide) dX12_fault_34 (fun F2 f3 e4 ho5 hx6 => ?_)
  have p7 : f3 12 = .int i1 := by rw [e4]; exact va_up_self _ _ _
  refine g_aload_n hC dX12_fault_37 rfl ?_
  refine g_iload_n hC dX12_fault_38 rfl ?_
  refine g_rput hC ho5 fl_X12_51 rfl rfl (by decide) dX12_fault_39 (fun F8 f9 e10 ho11 hx12 => ?_)
  have p13 : f9 12 = .int i1 := by rw [e10]; exact (va_up_ne _ _ (by decide)).trans p7
  have p14 : f9 13 = .int i2 := by rw [e10]; exact va_up_self _ _ _
  exact g_vret hC ⟨_, ho11, p14⟩ (by first | exact Nat.le_of_ble_eq_true rfl | omega | (simp only [gR]; omega)) (by first | exact Nat.le_of_ble_eq_true rfl | omega | (simp only [gR]; omega)) dX12_fault_42
theorem dX12_parse_0 : decode cX12_parse 0 = .ok (.aload_n 0, 1) := by decide +kernel
theorem dX12_parse_1 : decode cX12_parse 1 = .ok (.iconst 0, 1) := by decide +kernel
theorem dX12_parse_2 : decode cX12_parse 2 = .ok (.putfield 127, 3) := by decide +kernel
theorem dX12_parse_5 : decode cX12_parse 5 = .ok (.aload_n 0, 1) := by decide +kernel
theorem dX12_parse_6 : decode cX12_parse 6 = .ok (.iconst 0, 1) := by decide +kernel
theorem dX12_parse_7 : decode cX12_parse 7 = .ok (.putfield 124, 3) := by decide +kernel
theorem dX12_parse_10 : decode cX12_parse 10 = .ok (.aload_n 0, 1) := by decide +kernel
theorem dX12_parse_11 : decode cX12_parse 11 = .ok (.iconst 0, 1) := by decide +kernel
theorem dX12_parse_12 : decode cX12_parse 12 = .ok (.putfield 84, 3) := by decide +kernel
theorem dX12_parse_15 : decode cX12_parse 15 = .ok (.aload_n 0, 1) := by decide +kernel
theorem dX12_parse_16 : decode cX12_parse 16 = .ok (.iconst 0, 1) := by decide +kernel
theorem dX12_parse_17 : decode cX12_parse 17 = .ok (.putfield 142, 3) := by decide +kernel
theorem dX12_parse_20 : decode cX12_parse 20 = .ok (.aload_n 0, 1) := by decide +kernel
theorem dX12_parse_21 : decode cX12_parse 21 = .ok (.iconst 0, 1) := by decide +kernel
theorem dX12_parse_22 : decode cX12_parse 22 = .ok (.putfield 145, 3) := by decide +kernel
theorem dX12_parse_25 : decode cX12_parse 25 = .ok (.aload_n 0, 1) := by decide +kernel
theorem dX12_parse_26 : decode cX12_parse 26 = .ok (.iconst 0, 1) := by decide +kernel
theorem dX12_parse_27 : decode cX12_parse 27 = .ok (.putfield 148, 3) := by decide +kernel
theorem dX12_parse_30 : decode cX12_parse 30 = .ok (.aload_n 0, 1) := by decide +kernel
theorem dX12_parse_31 : decode cX12_parse 31 = .ok (.iconst 1, 1) := by decide +kernel
theorem dX12_parse_32 : decode cX12_parse 32 = .ok (.iconst 0, 1) := by decide +kernel
theorem dX12_parse_33 : decode cX12_parse 33 = .ok (.iconst 0, 1) := by decide +kernel
theorem dX12_parse_34 : decode cX12_parse 34 = .ok (.iconst 0, 1) := by decide +kernel
theorem dX12_parse_35 : decode cX12_parse 35 = .ok (.invokevirtual 534, 3) := by decide +kernel
theorem dX12_parse_38 : decode cX12_parse 38 = .ok (.aload_n 0, 1) := by decide +kernel
theorem dX12_parse_39 : decode cX12_parse 39 = .ok (.getfield 127, 3) := by decide +kernel
theorem dX12_parse_42 : decode cX12_parse 42 = .ok (.ifCond .le 58, 3) := by decide +kernel
theorem dX12_parse_45 : decode cX12_parse 45 = .ok (.aload_n 0, 1) := by decide +kernel
theorem dX12_parse_46 : decode cX12_parse 46 = .ok (.dup, 1) := by decide +kernel
theorem dX12_parse_47 : decode cX12_parse 47 = .ok (.getfield 127, 3) := by decide +kernel
theorem dX12_parse_50 : decode cX12_parse 50 = .ok (.iconst 1, 1) := by decide +kernel
theorem dX12_parse_51 : decode cX12_parse 51 = .ok (.isub, 1) := by decide +kernel
theorem dX12_parse_52 : decode cX12_parse 52 = .ok (.putfield 127, 3) := by decide +kernel
theorem dX12_parse_55 : decode cX12_parse 55 = .ok (.aload_n 0, 1) := by decide +kernel
theorem dX12_parse_56 : decode cX12_parse 56 = .ok (.aload_n 0, 1) := by decide +kernel
theorem dX12_parse_57 : decode cX12_parse 57 = .ok (.getfield 130, 3) := by decide +kernel
theorem dX12_parse_60 : decode cX12_parse 60 = .ok (.aload_n 0, 1) := by decide +kernel
theorem dX12_parse_61 : decode cX12_parse 61 = .ok (.getfield 127, 3) := by decide +kernel
theorem dX12_parse_64 : decode cX12_parse 64 = .ok (.iaload, 1) := by decide +kernel
theorem dX12_parse_65 : decode cX12_parse 65 = .ok (.aload_n 0, 1) := by decide +kernel
theorem dX12_parse_66 : decode cX12_parse 66 = .ok (.getfield 133, 3) := by decide +kernel
theorem dX12_parse_69 : decode cX12_parse 69 = .ok (.aload_n 0, 1) := by decide +kernel
theorem dX12_parse_70 : decode cX12_parse 70 = .ok (.getfield 127, 3) := by decide +kernel
theorem dX12_parse_73 : decode cX12_parse 73 = .ok (.iaload, 1) := by decide +kernel
theorem dX12_parse_74 : decode cX12_parse 74 = .ok (.aload_n 0, 1) := by decide +kernel
theorem dX12_parse_75 : decode cX12_parse 75 = .ok (.getfield 136, 3) := by decide +kernel
theorem dX12_parse_78 : decode cX12_parse 78 = .ok (.aload_n 0, 1) := by decide +kernel
theorem dX12_parse_79 : decode cX12_parse 79 = .ok (.getfield 127, 3) := by decide +kernel
theorem dX12_parse_82 : decode cX12_parse 82 = .ok (.iaload, 1) := by decide +kernel
theorem dX12_parse_83 : decode cX12_parse 83 = .ok (.aload_n 0, 1) := by decide +kernel
theorem dX12_parse_84 : decode cX12_parse 84 = .ok (.getfield 139, 3) := by decide +kernel
theorem dX12_parse_87 : decode cX12_parse 87 = .ok (.aload_n 0, 1) := by decide +kernel
theorem dX12_parse_88 : decode cX12_parse 88 = .ok (.getfield 127, 3) := by decide +kernel
theorem dX12_parse_91 : decode cX12_parse 91 = .ok (.iaload, 1) := by decide +kernel
theorem dX12_parse_92 : decode cX12_parse 92 = .ok (.invokevirtual 538, 3) := by decide +kernel
theorem dX12_parse_95 : decode cX12_parse 95 = .ok (.ifCond .ne (-57), 3) := by decide +kernel
theorem dX12_parse_98 : decode cX12_parse 98 = .ok (.iconst 0, 1) := by decide +kernel
theorem dX12_parse_99 : decode cX12_parse 99 = .ok (.ireturn, 1) := by decide +kernel
theorem dX12_parse_100 : decode cX12_parse 100 = .ok (.aload_n 0, 1) := by decide +kernel
theorem dX12_parse_101 : decode cX12_parse 101 = .ok (.bipush 60, 2) := by decide +kernel
theorem dX12_parse_103 : decode cX12_parse 103 = .ok (.iconst 0, 1) := by decide +kernel
theorem dX12_parse_104 : decode cX12_parse 104 = .ok (.iconst 0, 1) := by decide +kernel
theorem dX12_parse_105 : decode cX12_parse 105 = .ok (.iconst 0, 1) := by decide +kernel
theorem dX12_parse_106 : decode cX12_parse 106 = .ok (.invokevirtual 542, 3) := by decide +kernel
theorem dX12_parse_109 : decode cX12_parse 109 = .ok (.pop, 1) := by decide +kernel
theorem dX12_parse_110 : decode cX12_parse 110 = .ok (.iconst 1, 1) := by decide +kernel
theorem dX12_parse_111 : decode cX12_parse 111 = .ok (.ireturn, 1) := by decide +kernel
set_option maxHeartbeats 4000000 in
set_option maxRecDepth 100000 in
theorem r_parse (l : Launch) (d : gD) (b : Nat) (F : gM) (t : Nat) (f : Nat → Value) (w1 w2 w3 w4 : Nat) (h : gRo F t f) (hv39 : f 39 = .ref w1) (hv40 : f 40 = .ref w2) (hv41 : f 41 = .ref w3) (hv42 : f 42 = .ref w4) (hv8 : f 8 = .int 0) (ha_w1 : F w1 = .inl (gI d, 9000, .inl (fun _ => 0))) (ha_w2 : F w2 = .inl (gI d, 9000, .inl (fun _ => 0))) (ha_w3 : F w3 = .inl (gI d, 9000, .inl (fun _ => 0))) (ha_w4 : F w4 = .inl (gI d, 9000, .inl (fun _ => 0))) (hne01 : w1 ≠ w2) (hne02 : w1 ≠ w3) (hne03 : w1 ≠ w4) (hne12 : w2 ≠ w3) (hne13 : w2 ≠ w4) (hne23 : w3 ≠ w4) : gMi l d b yX12_parse cX12_parse 1 .boolean 3 0 0 F [.ref t] (fun r F' => r = 0 ∧ ∃ f', gRo F' t f' ∧ gVr f f' [38, 37, 24, 43, 44, 45] ∧ f' 43 = .int 0) := by
  refine gM_of2 rfl (nL := 1) (Nat.le_of_ble_eq_true rfl) ?_
  intro X hX hC; subst hX
  show gG X d b _ F 0 0 0 [some (.ref t)] []
  refine g_aload_n hC dX12_parse_0 rfl ?_
  refine g_iconst (v := 0) hC dX12_parse_1 rfl ?_
  refine g_rput hC h fl_X12_127 rfl rfl (by decide) dX12_parse_2 (fun F1 f2 e3 ho4 hx5 => ?_)
  have f6 : F1 w1 = .inl (gI d, 9000, .inl (fun _ => 0)) := (hx5 w1 (gne ha_w1 h gk_ao)).trans ha_w1
  have f7 : F1 w2 = .inl (gI d, 9000, .inl (fun _ => 0)) := (hx5 w2 (gne ha_w2 h gk_ao)).trans ha_w2
  have f8 : F1 w3 = .inl (gI d, 9000, .inl (fun _ => 0)) := (hx5 w3 (gne ha_w3 h gk_ao)).trans ha_w3
  have f9 : F1 w4 = .inl (gI d, 9000, .inl (fun _ => 0)) := (hx5 w4 (gne ha_w4 h gk_ao)).trans ha_w4
  have p10 : f2 39 = .ref w1 := by rw [e3]; exact (va_up_ne _ _ (by decide)).trans hv39
  have p11 : f2 40 = .ref w2 := by rw [e3]; exact (va_up_ne _ _ (by decide)).trans hv40
  have p12 : f2 41 = .ref w3 := by rw [e3]; exact (va_up_ne _ _ (by decide)).trans hv41
  have p13 : f2 42 = .ref w4 := by rw [e3]; exact (va_up_ne _ _ (by decide)).trans hv42
  have p14 : f2 8 = .int 0 := by rw [e3]; exact (va_up_ne _ _ (by decide)).trans hv8
  have p15 : f2 38 = .int 0 := by rw [e3]; exact va_up_self _ _ _
  have v16 : gVr f f2 [38, 37, 24, 43, 44, 45] := gVr.put (gVr.rf (f := f) (js := [38, 37, 24, 43, 44, 45])) e3 (by decide)
  refine g_aload_n hC dX12_parse_5 rfl ?_
  refine g_iconst (v := 0) hC dX12_parse_6 rfl ?_
  refine g_rput hC ho4 fl_X12_124 rfl rfl (by decide) dX12_parse_7 (fun F17 f18 e19 ho20 hx21 => ?_)
  have f22 : F17 w1 = .inl (gI d, 9000, .inl (fun _ => 0)) := (hx21 w1 (gne f6 ho4 gk_ao)).trans f6
  have f23 : F17 w2 = .inl (gI d, 9000, .inl (fun _ => 0)) := (hx21 w2 (gne f7 ho4 gk_ao)).trans f7
  have f24 : F17 w3 = .inl (gI d, 9000, .inl (fun _ => 0)) := (hx21 w3 (gne f8 ho4 gk_ao)).trans f8
  have f25 : F17 w4 = .inl (gI d, 9000, .inl (fun _ => 0)) := (hx21 w4 (gne f9 ho4 gk_ao)).trans f9
  have p26 : f18 39 = .ref w1 := by rw [e19]; exact (va_up_ne _ _ (by decide)).trans p10
  have p27 : f18 40 = .ref w2 := by rw [e19]; exact (va_up_ne _ _ (by decide)).trans p11
  have p28 : f18 41 = .ref w3 := by rw [e19]; exact (va_up_ne _ _ (by decide)).trans p12
  have p29 : f18 42 = .ref w4 := by rw [e19]; exact (va_up_ne _ _ (by decide)).trans p13
  have p30 : f18 8 = .int 0 := by rw [e19]; exact (va_up_ne _ _ (by decide)).trans p14
  have p31 : f18 38 = .int 0 := by rw [e19]; exact (va_up_ne _ _ (by decide)).trans p15
  have p32 : f18 37 = .int 0 := by rw [e19]; exact va_up_self _ _ _
  have v33 : gVr f f18 [38, 37, 24, 43, 44, 45] := gVr.put v16 e19 (by decide)
  refine g_aload_n hC dX12_parse_10 rfl ?_
  refine g_iconst (v := 0) hC dX12_parse_11 rfl ?_
  refine g_rput hC ho20 fl_X12_84 rfl rfl (by decide) dX12_parse_12 (fun F34 f35 e36 ho37 hx38 => ?_)
  have f39 : F34 w1 = .inl (gI d, 9000, .inl (fun _ => 0)) := (hx38 w1 (gne f22 ho20 gk_ao)).trans f22
  have f40 : F34 w2 = .inl (gI d, 9000, .inl (fun _ => 0)) := (hx38 w2 (gne f23 ho20 gk_ao)).trans f23
  have f41 : F34 w3 = .inl (gI d, 9000, .inl (fun _ => 0)) := (hx38 w3 (gne f24 ho20 gk_ao)).trans f24
  have f42 : F34 w4 = .inl (gI d, 9000, .inl (fun _ => 0)) := (hx38 w4 (gne f25 ho20 gk_ao)).trans f25
  have p43 : f35 39 = .ref w1 := by rw [e36]; exact (va_up_ne _ _ (by decide)).trans p26
  have p44 : f35 40 = .ref w2 := by rw [e36]; exact (va_up_ne _ _ (by decide)).trans p27
  have p45 : f35 41 = .ref w3 := by rw [e36]; exact (va_up_ne _ _ (by decide)).trans p28
  have p46 : f35 42 = .ref w4 := by rw [e36]; exact (va_up_ne _ _ (by decide)).trans p29
  have p47 : f35 8 = .int 0 := by rw [e36]; exact (va_up_ne _ _ (by decide)).trans p30
  have p48 : f35 38 = .int 0 := by rw [e36]; exact (va_up_ne _ _ (by decide)).trans p31
  have p49 : f35 37 = .int 0 := by rw [e36]; exact (va_up_ne _ _ (by decide)).trans p32
  have p50 : f35 24 = .int 0 := by rw [e36]; exact va_up_self _ _ _
  have v51 : gVr f f35 [38, 37, 24, 43, 44, 45] := gVr.put v33 e36 (by decide)
  refine g_aload_n hC dX12_parse_15 rfl ?_
  refine g_iconst (v := 0) hC dX12_parse_16 rfl ?_
  refine g_rput hC ho37 fl_X12_142 rfl rfl (by decide) dX12_parse_17 (fun F52 f53 e54 ho55 hx56 => ?_)
  have f57 : F52 w1 = .inl (gI d, 9000, .inl (fun _ => 0)) := (hx56 w1 (gne f39 ho37 gk_ao)).trans f39
  have f58 : F52 w2 = .inl (gI d, 9000, .inl (fun _ => 0)) := (hx56 w2 (gne f40 ho37 gk_ao)).trans f40
  have f59 : F52 w3 = .inl (gI d, 9000, .inl (fun _ => 0)) := (hx56 w3 (gne f41 ho37 gk_ao)).trans f41
  have f60 : F52 w4 = .inl (gI d, 9000, .inl (fun _ => 0)) := (hx56 w4 (gne f42 ho37 gk_ao)).trans f42
  have p61 : f53 39 = .ref w1 := by rw [e54]; exact (va_up_ne _ _ (by decide)).trans p43
  have p62 : f53 40 = .ref w2 := by rw [e54]; exact (va_up_ne _ _ (by decide)).trans p44
  have p63 : f53 41 = .ref w3 := by rw [e54]; exact (va_up_ne _ _ (by decide)).trans p45
  have p64 : f53 42 = .ref w4 := by rw [e54]; exact (va_up_ne _ _ (by decide)).trans p46
  have p65 : f53 8 = .int 0 := by rw [e54]; exact (va_up_ne _ _ (by decide)).trans p47
  have p66 : f53 38 = .int 0 := by rw [e54]; exact (va_up_ne _ _ (by decide)).trans p48
  have p67 : f53 37 = .int 0 := by rw [e54]; exact (va_up_ne _ _ (by decide)).trans p49
  have p68 : f53 24 = .int 0 := by rw [e54]; exact (va_up_ne _ _ (by decide)).trans p50
  have p69 : f53 43 = .int 0 := by rw [e54]; exact va_up_self _ _ _
  have v70 : gVr f f53 [38, 37, 24, 43, 44, 45] := gVr.put v51 e54 (by decide)
  refine g_aload_n hC dX12_parse_20 rfl ?_
  refine g_iconst (v := 0) hC dX12_parse_21 rfl ?_
  refine g_rput hC ho55 fl_X12_145 rfl rfl (by decide) dX12_parse_22 (fun F71 f72 e73 ho74 hx75 => ?_)
  have f76 : F71 w1 = .inl (gI d, 9000, .inl (fun _ => 0)) := (hx75 w1 (gne f57 ho55 gk_ao)).trans f57
  have f77 : F71 w2 = .inl (gI d, 9000, .inl (fun _ => 0)) := (hx75 w2 (gne f58 ho55 gk_ao)).trans f58
  have f78 : F71 w3 = .inl (gI d, 9000, .inl (fun _ => 0)) := (hx75 w3 (gne f59 ho55 gk_ao)).trans f59
  have f79 : F71 w4 = .inl (gI d, 9000, .inl (fun _ => 0)) := (hx75 w4 (gne f60 ho55 gk_ao)).trans f60
  have p80 : f72 39 = .ref w1 := by rw [e73]; exact (va_up_ne _ _ (by decide)).trans p61
  have p81 : f72 40 = .ref w2 := by rw [e73]; exact (va_up_ne _ _ (by decide)).trans p62
  have p82 : f72 41 = .ref w3 := by rw [e73]; exact (va_up_ne _ _ (by decide)).trans p63
  have p83 : f72 42 = .ref w4 := by rw [e73]; exact (va_up_ne _ _ (by decide)).trans p64
  have p84 : f72 8 = .int 0 := by rw [e73]; exact (va_up_ne _ _ (by decide)).trans p65
  have p85 : f72 38 = .int 0 := by rw [e73]; exact (va_up_ne _ _ (by decide)).trans p66
  have p86 : f72 37 = .int 0 := by rw [e73]; exact (va_up_ne _ _ (by decide)).trans p67
  have p87 : f72 24 = .int 0 := by rw [e73]; exact (va_up_ne _ _ (by decide)).trans p68
  have p88 : f72 43 = .int 0 := by rw [e73]; exact (va_up_ne _ _ (by decide)).trans p69
  have p89 : f72 44 = .int 0 := by rw [e73]; exact va_up_self _ _ _
  have v90 : gVr f f72 [38, 37, 24, 43, 44, 45] := gVr.put v70 e73 (by decide)
  refine g_aload_n hC dX12_parse_25 rfl ?_
  refine g_iconst (v := 0) hC dX12_parse_26 rfl ?_
  refine g_rput hC ho74 fl_X12_148 rfl rfl (by decide) dX12_parse_27 (fun F91 f92 e93 ho94 hx95 => ?_)
  have f96 : F91 w1 = .inl (gI d, 9000, .inl (fun _ => 0)) := (hx95 w1 (gne f76 ho74 gk_ao)).trans f76
  have f97 : F91 w2 = .inl (gI d, 9000, .inl (fun _ => 0)) := (hx95 w2 (gne f77 ho74 gk_ao)).trans f77
  have f98 : F91 w3 = .inl (gI d, 9000, .inl (fun _ => 0)) := (hx95 w3 (gne f78 ho74 gk_ao)).trans f78
  have f99 : F91 w4 = .inl (gI d, 9000, .inl (fun _ => 0)) := (hx95 w4 (gne f79 ho74 gk_ao)).trans f79
  have p100 : f92 39 = .ref w1 := by rw [e93]; exact (va_up_ne _ _ (by decide)).trans p80
  have p101 : f92 40 = .ref w2 := by rw [e93]; exact (va_up_ne _ _ (by decide)).trans p81
  have p102 : f92 41 = .ref w3 := by rw [e93]; exact (va_up_ne _ _ (by decide)).trans p82
  have p103 : f92 42 = .ref w4 := by rw [e93]; exact (va_up_ne _ _ (by decide)).trans p83
  have p104 : f92 8 = .int 0 := by rw [e93]; exact (va_up_ne _ _ (by decide)).trans p84
  have p105 : f92 38 = .int 0 := by rw [e93]; exact (va_up_ne _ _ (by decide)).trans p85
  have p106 : f92 37 = .int 0 := by rw [e93]; exact (va_up_ne _ _ (by decide)).trans p86
  have p107 : f92 24 = .int 0 := by rw [e93]; exact (va_up_ne _ _ (by decide)).trans p87
  have p108 : f92 43 = .int 0 := by rw [e93]; exact (va_up_ne _ _ (by decide)).trans p88
  have p109 : f92 44 = .int 0 := by rw [e93]; exact (va_up_ne _ _ (by decide)).trans p89
  have p110 : f92 45 = .int 0 := by rw [e93]; exact va_up_self _ _ _
  have v111 : gVr f f92 [38, 37, 24, 43, 44, 45] := gVr.put v90 e93 (by decide)
  refine g_aload_n hC dX12_parse_30 rfl ?_
  refine g_iconst (v := 1) hC dX12_parse_31 rfl ?_
  refine g_iconst (v := 0) hC dX12_parse_32 rfl ?_
  refine g_iconst (v := 0) hC dX12_parse_33 rfl ?_
  refine g_iconst (v := 0) hC dX12_parse_34 rfl ?_
  refine g_callVv (As := [.int 1, .int 0, .int 0, .int 0]) hC rfl ho94 (r_goal X.la d b F91 t _ 1 0 0 0 0 w1 w2 w3 w4 ((fun _ => 0)) ((fun _ => 0)) ((fun _ => 0)) ((fun _ => 0)) ho94 p100 p101 p102 p103 p105 f96 f97 f98 f99 (by decide) hne01 hne02 hne03 hne12 hne13 hne23) cl_X12_534 rfl rfl (Nat.le_of_ble_eq_true rfl) (gFit_of (Nat.le_of_ble_eq_true rfl) (Nat.le_of_ble_eq_true rfl) (by first | exact Nat.le_of_ble_eq_true rfl | omega | (simp only [gR]; omega)) (by first | exact Nat.le_of_ble_eq_true rfl | omega | (simp only [gR]; omega))) dX12_parse_35 (fun F112 p113 => ?_)
  obtain ⟨f115, ho116, vr117, p118, kr119, f120, f121, f122, f123⟩ := p113
  have p124 : f115 39 = .ref w1 := (vr117 39 (by decide)).trans p100
  have p125 : f115 40 = .ref w2 := (vr117 40 (by decide)).trans p101
  have p126 : f115 41 = .ref w3 := (vr117 41 (by decide)).trans p102
  have p127 : f115 42 = .ref w4 := (vr117 42 (by decide)).trans p103
  have p128 : f115 8 = .int 0 := (vr117 8 (by decide)).trans p104
  have p129 : f115 37 = .int 0 := (vr117 37 (by decide)).trans p106
  have p130 : f115 24 = .int 0 := (vr117 24 (by decide)).trans p107
  have p131 : f115 43 = .int 0 := (vr117 43 (by decide)).trans p108
  have p132 : f115 44 = .int 0 := (vr117 44 (by decide)).trans p109
  have p133 : f115 45 = .int 0 := (vr117 45 (by decide)).trans p110
  have v134 : gVr f f115 [38, 37, 24, 43, 44, 45] := gVr.tr v111 vr117 (by decide)
  refine g_aload_n hC dX12_parse_38 rfl ?_
  refine g_rget hC ho116 fl_X12_127 p118 (by decide) dX12_parse_39 ?_
  refine g_if_le (tgt := 100) hC dX12_parse_42 (by decide) (fun c135 => False.elim (by revert c135; decide)) (fun _ => ?_)
  refine g_aload_n hC dX12_parse_45 rfl ?_
  refine g_dup hC dX12_parse_46 rfl ?_
  refine g_rget hC ho116 fl_X12_127 p118 (by decide) dX12_parse_47 ?_
  refine g_iconst (v := 1) hC dX12_parse_50 rfl ?_
  refine g_isub hC dX12_parse_51 ?_
  refine g_vi (fun x136 ex136 => ?_)
  have zx136 : x136 = nI 0 := by rw [ex136]; decide
  subst zx136
  refine g_rput hC ho116 fl_X12_127 rfl rfl (by decide) dX12_parse_52 (fun F137 f138 e139 ho140 hx141 => ?_)
  have f142 : F137 w1 = .inl (gI d, 9000, .inl (upd ((fun _ => 0)) 0 1)) := (hx141 w1 (gne f120 ho116 gk_ao)).trans f120
  have f143 : F137 w2 = .inl (gI d, 9000, .inl (upd ((fun _ => 0)) 0 0)) := (hx141 w2 (gne f121 ho116 gk_ao)).trans f121
  have f144 : F137 w3 = .inl (gI d, 9000, .inl (upd ((fun _ => 0)) 0 0)) := (hx141 w3 (gne f122 ho116 gk_ao)).trans f122
  have f145 : F137 w4 = .inl (gI d, 9000, .inl (upd ((fun _ => 0)) 0 0)) := (hx141 w4 (gne f123 ho116 gk_ao)).trans f123
  have p146 : f138 39 = .ref w1 := by rw [e139]; exact (va_up_ne _ _ (by decide)).trans p124
  have p147 : f138 40 = .ref w2 := by rw [e139]; exact (va_up_ne _ _ (by decide)).trans p125
  have p148 : f138 41 = .ref w3 := by rw [e139]; exact (va_up_ne _ _ (by decide)).trans p126
  have p149 : f138 42 = .ref w4 := by rw [e139]; exact (va_up_ne _ _ (by decide)).trans p127
  have p150 : f138 8 = .int 0 := by rw [e139]; exact (va_up_ne _ _ (by decide)).trans p128
  have p151 : f138 37 = .int 0 := by rw [e139]; exact (va_up_ne _ _ (by decide)).trans p129
  have p152 : f138 24 = .int 0 := by rw [e139]; exact (va_up_ne _ _ (by decide)).trans p130
  have p153 : f138 43 = .int 0 := by rw [e139]; exact (va_up_ne _ _ (by decide)).trans p131
  have p154 : f138 44 = .int 0 := by rw [e139]; exact (va_up_ne _ _ (by decide)).trans p132
  have p155 : f138 45 = .int 0 := by rw [e139]; exact (va_up_ne _ _ (by decide)).trans p133
  have p156 : f138 38 = .int (nI 0) := by rw [e139]; exact va_up_self _ _ _
  have v157 : gVr f f138 [38, 37, 24, 43, 44, 45] := gVr.put v134 e139 (by decide)
  refine g_aload_n hC dX12_parse_55 rfl ?_
  refine g_aload_n hC dX12_parse_56 rfl ?_
  refine g_rget hC ho140 fl_X12_130 p146 (by decide) dX12_parse_57 ?_
  refine g_aload_n hC dX12_parse_60 rfl ?_
  refine g_rget hC ho140 fl_X12_127 p156 (by decide) dX12_parse_61 ?_
  refine g_iald hC f142 (vp_in_nI (by decide) (by decide)) dX12_parse_64 ?_
  refine g_vi (fun x158 ex158 => ?_)
  have zx158 : x158 = 1 := by rw [ex158]; decide
  subst zx158
  refine g_aload_n hC dX12_parse_65 rfl ?_
  refine g_rget hC ho140 fl_X12_133 p147 (by decide) dX12_parse_66 ?_
  refine g_aload_n hC dX12_parse_69 rfl ?_
  refine g_rget hC ho140 fl_X12_127 p156 (by decide) dX12_parse_70 ?_
  refine g_iald hC f143 (vp_in_nI (by decide) (by decide)) dX12_parse_73 ?_
  refine g_vi (fun x159 ex159 => ?_)
  have zx159 : x159 = 0 := by rw [ex159]; decide
  subst zx159
  refine g_aload_n hC dX12_parse_74 rfl ?_
  refine g_rget hC ho140 fl_X12_136 p148 (by decide) dX12_parse_75 ?_
  refine g_aload_n hC dX12_parse_78 rfl ?_
  refine g_rget hC ho140 fl_X12_127 p156 (by decide) dX12_parse_79 ?_
  refine g_iald hC f144 (vp_in_nI (by decide) (by decide)) dX12_parse_82 ?_
  refine g_vi (fun x160 ex160 => ?_)
  have zx160 : x160 = 0 := by rw [ex160]; decide
  subst zx160
  refine g_aload_n hC dX12_parse_83 rfl ?_
  refine g_rget hC ho140 fl_X12_139 p149 (by decide) dX12_parse_84 ?_
  refine g_aload_n hC dX12_parse_87 rfl ?_
  refine g_rget hC ho140 fl_X12_127 p156 (by decide) dX12_parse_88 ?_
  refine g_iald hC f145 (vp_in_nI (by decide) (by decide)) dX12_parse_91 ?_
  refine g_vi (fun x161 ex161 => ?_)
  have zx161 : x161 = 0 := by rw [ex161]; decide
  subst zx161
  refine g_callVi (As := [.int 1, .int 0, .int 0, .int 0]) hC rfl ho140 (r_reach1 X.la d b F137 t _ w1 w2 w3 w4 ((upd ((fun _ => 0)) 0 1)) ((upd ((fun _ => 0)) 0 0)) ((upd ((fun _ => 0)) 0 0)) ((upd ((fun _ => 0)) 0 0)) ho140 p146 p147 p148 p149 p156 f142 f143 f144 f145 hne01 hne02 hne03 hne12 hne13 hne23) cl_X12_538 rfl rfl (Nat.le_of_ble_eq_true rfl) (gFit_of (Nat.le_of_ble_eq_true rfl) (Nat.le_of_ble_eq_true rfl) (by first | exact Nat.le_of_ble_eq_true rfl | omega | (simp only [gR]; omega)) (by first | exact Nat.le_of_ble_eq_true rfl | omega | (simp only [gR]; omega))) dX12_parse_92 (fun r164 F162 p163 => ?_)
  obtain ⟨rfl, f165, ho166, vr167, p168, kr169, f170, f171, f172, f173⟩ := p163
  have p174 : f165 39 = .ref w1 := (vr167 39 (by decide)).trans p146
  have p175 : f165 40 = .ref w2 := (vr167 40 (by decide)).trans p147
  have p176 : f165 41 = .ref w3 := (vr167 41 (by decide)).trans p148
  have p177 : f165 42 = .ref w4 := (vr167 42 (by decide)).trans p149
  have p178 : f165 8 = .int 0 := (vr167 8 (by decide)).trans p150
  have p179 : f165 37 = .int 0 := (vr167 37 (by decide)).trans p151
  have p180 : f165 24 = .int 0 := (vr167 24 (by decide)).trans p152
  have p181 : f165 43 = .int 0 := (vr167 43 (by decide)).trans p153
  have p182 : f165 44 = .int 0 := (vr167 44 (by decide)).trans p154
  have p183 : f165 45 = .int 0 := (vr167 45 (by decide)).trans p155
  have v184 : gVr f f165 [38, 37, 24, 43, 44, 45] := gVr.tr v157 vr167 (by decide)
  refine g_if_ne (tgt := 38) hC dX12_parse_95 (by decide) (fun _ => ?_) (fun c185 => False.elim (by revert c185; decide))
  refine g_aload_n hC dX12_parse_38 rfl ?_
  refine g_rget hC ho166 fl_X12_127 p168 (by decide) dX12_parse_39 ?_
  refine g_if_le (tgt := 100) hC dX12_parse_42 (by decide) (fun c186 => False.elim (by revert c186; decide)) (fun _ => ?_)
  refine g_aload_n hC dX12_parse_45 rfl ?_
  refine g_dup hC dX12_parse_46 rfl ?_
  refine g_rget hC ho166 fl_X12_127 p168 (by decide) dX12_parse_47 ?_
  refine g_iconst (v := 1) hC dX12_parse_50 rfl ?_
  refine g_isub hC dX12_parse_51 ?_
  refine g_vi (fun x187 ex187 => ?_)
  have zx187 : x187 = nI 1 := by rw [ex187]; decide
  subst zx187
  refine g_rput hC ho166 fl_X12_127 rfl rfl (by decide) dX12_parse_52 (fun F188 f189 e190 ho191 hx192 => ?_)
  have f193 : F188 w1 = .inl (gI d, 9000, .inl (upd (upd ((upd ((fun _ => 0)) 0 1)) 0 2) 1 3)) := (hx192 w1 (gne f170 ho166 gk_ao)).trans f170
  have f194 : F188 w2 = .inl (gI d, 9000, .inl (upd (upd ((upd ((fun _ => 0)) 0 0)) 0 0) 1 1)) := (hx192 w2 (gne f171 ho166 gk_ao)).trans f171
  have f195 : F188 w3 = .inl (gI d, 9000, .inl (upd (upd ((upd ((fun _ => 0)) 0 0)) 0 0) 1 0)) := (hx192 w3 (gne f172 ho166 gk_ao)).trans f172
  have f196 : F188 w4 = .inl (gI d, 9000, .inl (upd (upd ((upd ((fun _ => 0)) 0 0)) 0 0) 1 0)) := (hx192 w4 (gne f173 ho166 gk_ao)).trans f173
  have p197 : f189 39 = .ref w1 := by rw [e190]; exact (va_up_ne _ _ (by decide)).trans p174
  have p198 : f189 40 = .ref w2 := by rw [e190]; exact (va_up_ne _ _ (by decide)).trans p175
  have p199 : f189 41 = .ref w3 := by rw [e190]; exact (va_up_ne _ _ (by decide)).trans p176
  have p200 : f189 42 = .ref w4 := by rw [e190]; exact (va_up_ne _ _ (by decide)).trans p177
  have p201 : f189 8 = .int 0 := by rw [e190]; exact (va_up_ne _ _ (by decide)).trans p178
  have p202 : f189 37 = .int 0 := by rw [e190]; exact (va_up_ne _ _ (by decide)).trans p179
  have p203 : f189 24 = .int 0 := by rw [e190]; exact (va_up_ne _ _ (by decide)).trans p180
  have p204 : f189 43 = .int 0 := by rw [e190]; exact (va_up_ne _ _ (by decide)).trans p181
  have p205 : f189 44 = .int 0 := by rw [e190]; exact (va_up_ne _ _ (by decide)).trans p182
  have p206 : f189 45 = .int 0 := by rw [e190]; exact (va_up_ne _ _ (by decide)).trans p183
  have p207 : f189 38 = .int (nI 1) := by rw [e190]; exact va_up_self _ _ _
  have v208 : gVr f f189 [38, 37, 24, 43, 44, 45] := gVr.put v184 e190 (by decide)
  refine g_aload_n hC dX12_parse_55 rfl ?_
  refine g_aload_n hC dX12_parse_56 rfl ?_
  refine g_rget hC ho191 fl_X12_130 p197 (by decide) dX12_parse_57 ?_
  refine g_aload_n hC dX12_parse_60 rfl ?_
  refine g_rget hC ho191 fl_X12_127 p207 (by decide) dX12_parse_61 ?_
  refine g_iald hC f193 (vp_in_nI (by decide) (by decide)) dX12_parse_64 ?_
  refine g_vi (fun x209 ex209 => ?_)
  have zx209 : x209 = 3 := by rw [ex209]; decide
  subst zx209
  refine g_aload_n hC dX12_parse_65 rfl ?_
  refine g_rget hC ho191 fl_X12_133 p198 (by decide) dX12_parse_66 ?_
  refine g_aload_n hC dX12_parse_69 rfl ?_
  refine g_rget hC ho191 fl_X12_127 p207 (by decide) dX12_parse_70 ?_
  refine g_iald hC f194 (vp_in_nI (by decide) (by decide)) dX12_parse_73 ?_
  refine g_vi (fun x210 ex210 => ?_)
  have zx210 : x210 = 1 := by rw [ex210]; decide
  subst zx210
  refine g_aload_n hC dX12_parse_74 rfl ?_
  refine g_rget hC ho191 fl_X12_136 p199 (by decide) dX12_parse_75 ?_
  refine g_aload_n hC dX12_parse_78 rfl ?_
  refine g_rget hC ho191 fl_X12_127 p207 (by decide) dX12_parse_79 ?_
  refine g_iald hC f195 (vp_in_nI (by decide) (by decide)) dX12_parse_82 ?_
  refine g_vi (fun x211 ex211 => ?_)
  have zx211 : x211 = 0 := by rw [ex211]; decide
  subst zx211
  refine g_aload_n hC dX12_parse_83 rfl ?_
  refine g_rget hC ho191 fl_X12_139 p200 (by decide) dX12_parse_84 ?_
  refine g_aload_n hC dX12_parse_87 rfl ?_
  refine g_rget hC ho191 fl_X12_127 p207 (by decide) dX12_parse_88 ?_
  refine g_iald hC f196 (vp_in_nI (by decide) (by decide)) dX12_parse_91 ?_
  refine g_vi (fun x212 ex212 => ?_)
  have zx212 : x212 = 0 := by rw [ex212]; decide
  subst zx212
  refine g_callVi (As := [.int 3, .int 1, .int 0, .int 0]) hC rfl ho191 (r_reach3 X.la d b F188 t _ ho191 p204 p201 p202) cl_X12_538 rfl rfl (Nat.le_of_ble_eq_true rfl) (gFit_of (Nat.le_of_ble_eq_true rfl) (Nat.le_of_ble_eq_true rfl) (by first | exact Nat.le_of_ble_eq_true rfl | omega | (simp only [gR]; omega)) (by first | exact Nat.le_of_ble_eq_true rfl | omega | (simp only [gR]; omega))) dX12_parse_92 (fun r215 F213 p214 => ?_)
  obtain ⟨rfl, eF213⟩ := p214; have eF213 := eF213.symm; subst eF213
  refine g_if_ne (tgt := 38) hC dX12_parse_95 (by decide) (fun c216 => False.elim (by revert c216; decide)) (fun _ => ?_)
  refine g_iconst (v := 0) hC dX12_parse_98 rfl ?_
  exact g_iret hC rfl ⟨rfl, _, ho191, v208, p204⟩ (by first | exact Nat.le_of_ble_eq_true rfl | omega | (simp only [gR]; omega)) (by first | exact Nat.le_of_ble_eq_true rfl | omega | (simp only [gR]; omega)) dX12_parse_99
theorem dX12_compile_0 : decode cX12_compile 0 = .ok (.aload_n 0, 1) := by decide +kernel
theorem dX12_compile_1 : decode cX12_compile 1 = .ok (.iconst 0, 1) := by decide +kernel
theorem dX12_compile_2 : decode cX12_compile 2 = .ok (.putfield 7, 3) := by decide +kernel
theorem dX12_compile_5 : decode cX12_compile 5 = .ok (.aload_n 0, 1) := by decide +kernel
theorem dX12_compile_6 : decode cX12_compile 6 = .ok (.aload_n 0, 1) := by decide +kernel
theorem dX12_compile_7 : decode cX12_compile 7 = .ok (.getfield 17, 3) := by decide +kernel
theorem dX12_compile_10 : decode cX12_compile 10 = .ok (.putfield 23, 3) := by decide +kernel
theorem dX12_compile_13 : decode cX12_compile 13 = .ok (.aload_n 0, 1) := by decide +kernel
theorem dX12_compile_14 : decode cX12_compile 14 = .ok (.iconst 0, 1) := by decide +kernel
theorem dX12_compile_15 : decode cX12_compile 15 = .ok (.putfield 17, 3) := by decide +kernel
theorem dX12_compile_18 : decode cX12_compile 18 = .ok (.iconst 0, 1) := by decide +kernel
theorem dX12_compile_19 : decode cX12_compile 19 = .ok (.istore_n 1, 1) := by decide +kernel
theorem dX12_compile_20 : decode cX12_compile 20 = .ok (.iload_n 1, 1) := by decide +kernel
theorem dX12_compile_21 : decode cX12_compile 21 = .ok (.aload_n 0, 1) := by decide +kernel
theorem dX12_compile_22 : decode cX12_compile 22 = .ok (.getfield 23, 3) := by decide +kernel
theorem dX12_compile_25 : decode cX12_compile 25 = .ok (.if_icmp .ge 21, 3) := by decide +kernel
theorem dX12_compile_28 : decode cX12_compile 28 = .ok (.aload_n 0, 1) := by decide +kernel
theorem dX12_compile_29 : decode cX12_compile 29 = .ok (.getfield 20, 3) := by decide +kernel
theorem dX12_compile_32 : decode cX12_compile 32 = .ok (.iload_n 1, 1) := by decide +kernel
theorem dX12_compile_33 : decode cX12_compile 33 = .ok (.aload_n 0, 1) := by decide +kernel
theorem dX12_compile_34 : decode cX12_compile 34 = .ok (.getfield 13, 3) := by decide +kernel
theorem dX12_compile_37 : decode cX12_compile 37 = .ok (.iload_n 1, 1) := by decide +kernel
theorem dX12_compile_38 : decode cX12_compile 38 = .ok (.baload, 1) := by decide +kernel
theorem dX12_compile_39 : decode cX12_compile 39 = .ok (.bastore, 1) := by decide +kernel
theorem dX12_compile_40 : decode cX12_compile 40 = .ok (.iinc 1 1, 3) := by decide +kernel
theorem dX12_compile_43 : decode cX12_compile 43 = .ok (.goto (-23), 3) := by decide +kernel
theorem dX12_compile_46 : decode cX12_compile 46 = .ok (.aload_n 0, 1) := by decide +kernel
theorem dX12_compile_47 : decode cX12_compile 47 = .ok (.iconst 0, 1) := by decide +kernel
theorem dX12_compile_48 : decode cX12_compile 48 = .ok (.putfield 333, 3) := by decide +kernel
theorem dX12_compile_51 : decode cX12_compile 51 = .ok (.aload_n 0, 1) := by decide +kernel
theorem dX12_compile_52 : decode cX12_compile 52 = .ok (.iconst 0, 1) := by decide +kernel
theorem dX12_compile_53 : decode cX12_compile 53 = .ok (.putfield 48, 3) := by decide +kernel
theorem dX12_compile_56 : decode cX12_compile 56 = .ok (.aload_n 0, 1) := by decide +kernel
theorem dX12_compile_57 : decode cX12_compile 57 = .ok (.iconst 0, 1) := by decide +kernel
theorem dX12_compile_58 : decode cX12_compile 58 = .ok (.putfield 51, 3) := by decide +kernel
theorem dX12_compile_61 : decode cX12_compile 61 = .ok (.aload_n 0, 1) := by decide +kernel
theorem dX12_compile_62 : decode cX12_compile 62 = .ok (.aload_n 0, 1) := by decide +kernel
theorem dX12_compile_63 : decode cX12_compile 63 = .ok (.invokevirtual 917, 3) := by decide +kernel
theorem dX12_compile_66 : decode cX12_compile 66 = .ok (.putfield 157, 3) := by decide +kernel
theorem dX12_compile_69 : decode cX12_compile 69 = .ok (.aload_n 0, 1) := by decide +kernel
theorem dX12_compile_70 : decode cX12_compile 70 = .ok (.invokevirtual 920, 3) := by decide +kernel
theorem dX12_compile_73 : decode cX12_compile 73 = .ok (.ifCond .ne 85, 3) := by decide +kernel
theorem dX12_compile_76 : decode cX12_compile 76 = .ok (.aload_n 0, 1) := by decide +kernel
theorem dX12_compile_77 : decode cX12_compile 77 = .ok (.getfield 142, 3) := by decide +kernel
theorem dX12_compile_80 : decode cX12_compile 80 = .ok (.aload_n 0, 1) := by decide +kernel
theorem dX12_compile_81 : decode cX12_compile 81 = .ok (.getfield 36, 3) := by decide +kernel
theorem dX12_compile_84 : decode cX12_compile 84 = .ok (.if_icmp .ne 14, 3) := by decide +kernel
theorem dX12_compile_87 : decode cX12_compile 87 = .ok (.aload_n 0, 1) := by decide +kernel
theorem dX12_compile_88 : decode cX12_compile 88 = .ok (.getfield 157, 3) := by decide +kernel
theorem dX12_compile_91 : decode cX12_compile 91 = .ok (.ifCond .lt 7, 3) := by decide +kernel
theorem dX12_compile_94 : decode cX12_compile 94 = .ok (.iconst 1, 1) := by decide +kernel
theorem dX12_compile_95 : decode cX12_compile 95 = .ok (.goto 4, 3) := by decide +kernel
theorem dX12_compile_98 : decode cX12_compile 98 = .ok (.iconst 0, 1) := by decide +kernel
theorem dX12_compile_99 : decode cX12_compile 99 = .ok (.istore_n 1, 1) := by decide +kernel
theorem dX12_compile_100 : decode cX12_compile 100 = .ok (.aload_n 0, 1) := by decide +kernel
theorem dX12_compile_101 : decode cX12_compile 101 = .ok (.iload_n 1, 1) := by decide +kernel
theorem dX12_compile_102 : decode cX12_compile 102 = .ok (.ifCond .eq 7, 3) := by decide +kernel
theorem dX12_compile_105 : decode cX12_compile 105 = .ok (.iconst 1, 1) := by decide +kernel
theorem dX12_compile_106 : decode cX12_compile 106 = .ok (.goto 4, 3) := by decide +kernel
theorem dX12_compile_109 : decode cX12_compile 109 = .ok (.iconst 2, 1) := by decide +kernel
theorem dX12_compile_110 : decode cX12_compile 110 = .ok (.iload_n 1, 1) := by decide +kernel
theorem dX12_compile_111 : decode cX12_compile 111 = .ok (.ifCond .eq 10, 3) := by decide +kernel
theorem dX12_compile_114 : decode cX12_compile 114 = .ok (.aload_n 0, 1) := by decide +kernel
theorem dX12_compile_115 : decode cX12_compile 115 = .ok (.getfield 157, 3) := by decide +kernel
theorem dX12_compile_118 : decode cX12_compile 118 = .ok (.goto 30, 3) := by decide +kernel
theorem dX12_compile_121 : decode cX12_compile 121 = .ok (.aload_n 0, 1) := by decide +kernel
theorem dX12_compile_122 : decode cX12_compile 122 = .ok (.getfield 142, 3) := by decide +kernel
theorem dX12_compile_125 : decode cX12_compile 125 = .ok (.aload_n 0, 1) := by decide +kernel
theorem dX12_compile_126 : decode cX12_compile 126 = .ok (.getfield 36, 3) := by decide +kernel
theorem dX12_compile_129 : decode cX12_compile 129 = .ok (.if_icmp .ne 10, 3) := by decide +kernel
theorem dX12_compile_132 : decode cX12_compile 132 = .ok (.aload_n 0, 1) := by decide +kernel
theorem dX12_compile_133 : decode cX12_compile 133 = .ok (.getfield 23, 3) := by decide +kernel
theorem dX12_compile_136 : decode cX12_compile 136 = .ok (.goto 12, 3) := by decide +kernel
theorem dX12_compile_139 : decode cX12_compile 139 = .ok (.aload_n 0, 1) := by decide +kernel
theorem dX12_compile_140 : decode cX12_compile 140 = .ok (.getfield 42, 3) := by decide +kernel
theorem dX12_compile_143 : decode cX12_compile 143 = .ok (.aload_n 0, 1) := by decide +kernel
theorem dX12_compile_144 : decode cX12_compile 144 = .ok (.getfield 142, 3) := by decide +kernel
theorem dX12_compile_147 : decode cX12_compile 147 = .ok (.iaload, 1) := by decide +kernel
theorem dX12_compile_148 : decode cX12_compile 148 = .ok (.invokevirtual 605, 3) := by decide +kernel
theorem dX12_compile_151 : decode cX12_compile 151 = .ok (.iconst (-1), 1) := by decide +kernel
theorem dX12_compile_152 : decode cX12_compile 152 = .ok (.aload_n 0, 1) := by decide +kernel
theorem dX12_compile_153 : decode cX12_compile 153 = .ok (.getfield 51, 3) := by decide +kernel
theorem dX12_compile_156 : decode cX12_compile 156 = .ok (.isub, 1) := by decide +kernel
theorem dX12_compile_157 : decode cX12_compile 157 = .ok (.ireturn, 1) := by decide +kernel
theorem dX12_compile_158 : decode cX12_compile 158 = .ok (.aload_n 0, 1) := by decide +kernel
theorem dX12_compile_159 : decode cX12_compile 159 = .ok (.invokevirtual 923, 3) := by decide +kernel
theorem dX12_compile_162 : decode cX12_compile 162 = .ok (.aload_n 0, 1) := by decide +kernel
theorem dX12_compile_163 : decode cX12_compile 163 = .ok (.getfield 48, 3) := by decide +kernel
theorem dX12_compile_166 : decode cX12_compile 166 = .ok (.ifCond .eq 10, 3) := by decide +kernel
theorem dX12_compile_169 : decode cX12_compile 169 = .ok (.iconst (-1), 1) := by decide +kernel
theorem dX12_compile_170 : decode cX12_compile 170 = .ok (.aload_n 0, 1) := by decide +kernel
theorem dX12_compile_171 : decode cX12_compile 171 = .ok (.getfield 51, 3) := by decide +kernel
theorem dX12_compile_174 : decode cX12_compile 174 = .ok (.isub, 1) := by decide +kernel
theorem dX12_compile_175 : decode cX12_compile 175 = .ok (.ireturn, 1) := by decide +kernel
theorem dX12_compile_176 : decode cX12_compile 176 = .ok (.aload_n 0, 1) := by decide +kernel
theorem dX12_compile_177 : decode cX12_compile 177 = .ok (.iconst 1, 1) := by decide +kernel
theorem dX12_compile_178 : decode cX12_compile 178 = .ok (.putfield 333, 3) := by decide +kernel
theorem dX12_compile_181 : decode cX12_compile 181 = .ok (.aload_n 0, 1) := by decide +kernel
theorem dX12_compile_182 : decode cX12_compile 182 = .ok (.aload_n 0, 1) := by decide +kernel
theorem dX12_compile_183 : decode cX12_compile 183 = .ok (.getfield 318, 3) := by decide +kernel
theorem dX12_compile_186 : decode cX12_compile 186 = .ok (.putfield 315, 3) := by decide +kernel
theorem dX12_compile_189 : decode cX12_compile 189 = .ok (.aload_n 0, 1) := by decide +kernel
theorem dX12_compile_190 : decode cX12_compile 190 = .ok (.getfield 258, 3) := by decide +kernel
theorem dX12_compile_193 : decode cX12_compile 193 = .ok (.ireturn, 1) := by decide +kernel
set_option maxHeartbeats 4000000 in
set_option maxRecDepth 100000 in
theorem r_compile (l : Launch) (d : gD) (b : Nat) (F : gM) (t : Nat) (f : Nat → Value) (w1 w2 w3 w4 : Nat) (h : gRo F t f) (hv39 : f 39 = .ref w1) (hv40 : f 40 = .ref w2) (hv41 : f 41 = .ref w3) (hv42 : f 42 = .ref w4) (hv2 : f 2 = .int 0) (ha_w1 : F w1 = .inl (gI d, 9000, .inl (fun _ => 0))) (ha_w2 : F w2 = .inl (gI d, 9000, .inl (fun _ => 0))) (ha_w3 : F w3 = .inl (gI d, 9000, .inl (fun _ => 0))) (ha_w4 : F w4 = .inl (gI d, 9000, .inl (fun _ => 0))) (hne01 : w1 ≠ w2) (hne02 : w1 ≠ w3) (hne03 : w1 ≠ w4) (hne12 : w2 ≠ w3) (hne13 : w2 ≠ w4) (hne23 : w3 ≠ w4) : gMi l d b yX12_compile cX12_compile 2 .int 4 0 0 F [.ref t] (fun r _ => r = (-1)) := by
  refine gM_of2 rfl (nL := 2) (Nat.le_of_ble_eq_true rfl) ?_
  intro X hX hC; subst hX
  show gG X d b _ F 0 0 0 [some (.ref t), none] []
  refine g_aload_n hC dX12_compile_0 rfl ?_
  refine g_iconst (v := 0) hC dX12_compile_1 rfl ?_
  refine g_rput hC h fl_X12_7 rfl rfl (by decide) dX12_compile_2 (fun F1 f2 e3 ho4 hx5 => ?_)
  have f6 : F1 w1 = .inl (gI d, 9000, .inl (fun _ => 0)) := (hx5 w1 (gne ha_w1 h gk_ao)).trans ha_w1
  have f7 : F1 w2 = .inl (gI d, 9000, .inl (fun _ => 0)) := (hx5 w2 (gne ha_w2 h gk_ao)).trans ha_w2
  have f8 : F1 w3 = .inl (gI d, 9000, .inl (fun _ => 0)) := (hx5 w3 (gne ha_w3 h gk_ao)).trans ha_w3
  have f9 : F1 w4 = .inl (gI d, 9000, .inl (fun _ => 0)) := (hx5 w4 (gne ha_w4 h gk_ao)).trans ha_w4
  have p10 : f2 39 = .ref w1 := by rw [e3]; exact (va_up_ne _ _ (by decide)).trans hv39
  have p11 : f2 40 = .ref w2 := by rw [e3]; exact (va_up_ne _ _ (by decide)).trans hv40
  have p12 : f2 41 = .ref w3 := by rw [e3]; exact (va_up_ne _ _ (by decide)).trans hv41
  have p13 : f2 42 = .ref w4 := by rw [e3]; exact (va_up_ne _ _ (by decide)).trans hv42
  have p14 : f2 2 = .int 0 := by rw [e3]; exact (va_up_ne _ _ (by decide)).trans hv2
  have p15 : f2 0 = .int 0 := by rw [e3]; exact va_up_self _ _ _
  refine g_aload_n hC dX12_compile_5 rfl ?_
  refine g_aload_n hC dX12_compile_6 rfl ?_
  refine g_rget hC ho4 fl_X12_17 p14 (by decide) dX12_compile_7 ?_
  refine g_rput hC ho4 fl_X12_23 rfl rfl (by decide) dX12_compile_10 (fun F16 f17 e18 ho19 hx20 => ?_)
  have f21 : F16 w1 = .inl (gI d, 9000, .inl (fun _ => 0)) := (hx20 w1 (gne f6 ho4 gk_ao)).trans f6
  have f22 : F16 w2 = .inl (gI d, 9000, .inl (fun _ => 0)) := (hx20 w2 (gne f7 ho4 gk_ao)).trans f7
  have f23 : F16 w3 = .inl (gI d, 9000, .inl (fun _ => 0)) := (hx20 w3 (gne f8 ho4 gk_ao)).trans f8
  have f24 : F16 w4 = .inl (gI d, 9000, .inl (fun _ => 0)) := (hx20 w4 (gne f9 ho4 gk_ao)).trans f9
  have p25 : f17 39 = .ref w1 := by rw [e18]; exact (va_up_ne _ _ (by decide)).trans p10
  have p26 : f17 40 = .ref w2 := by rw [e18]; exact (va_up_ne _ _ (by decide)).trans p11
  have p27 : f17 41 = .ref w3 := by rw [e18]; exact (va_up_ne _ _ (by decide)).trans p12
  have p28 : f17 42 = .ref w4 := by rw [e18]; exact (va_up_ne _ _ (by decide)).trans p13
  have p29 : f17 2 = .int 0 := by rw [e18]; exact (va_up_ne _ _ (by decide)).trans p14
  have p30 : f17 0 = .int 0 := by rw [e18]; exact (va_up_ne _ _ (by decide)).trans p15
  have p31 : f17 4 = .int 0 := by rw [e18]; exact va_up_self _ _ _
  refine g_aload_n hC dX12_compile_13 rfl ?_
  refine g_iconst (v := 0) hC dX12_compile_14 rfl ?_
  refine g_rput hC ho19 fl_X12_17 rfl rfl (by decide) dX12_compile_15 (fun F32 f33 e34 ho35 hx36 => ?_)
  have f37 : F32 w1 = .inl (gI d, 9000, .inl (fun _ => 0)) := (hx36 w1 (gne f21 ho19 gk_ao)).trans f21
  have f38 : F32 w2 = .inl (gI d, 9000, .inl (fun _ => 0)) := (hx36 w2 (gne f22 ho19 gk_ao)).trans f22
  have f39 : F32 w3 = .inl (gI d, 9000, .inl (fun _ => 0)) := (hx36 w3 (gne f23 ho19 gk_ao)).trans f23
  have f40 : F32 w4 = .inl (gI d, 9000, .inl (fun _ => 0)) := (hx36 w4 (gne f24 ho19 gk_ao)).trans f24
  have p41 : f33 39 = .ref w1 := by rw [e34]; exact (va_up_ne _ _ (by decide)).trans p25
  have p42 : f33 40 = .ref w2 := by rw [e34]; exact (va_up_ne _ _ (by decide)).trans p26
  have p43 : f33 41 = .ref w3 := by rw [e34]; exact (va_up_ne _ _ (by decide)).trans p27
  have p44 : f33 42 = .ref w4 := by rw [e34]; exact (va_up_ne _ _ (by decide)).trans p28
  have p45 : f33 0 = .int 0 := by rw [e34]; exact (va_up_ne _ _ (by decide)).trans p30
  have p46 : f33 4 = .int 0 := by rw [e34]; exact (va_up_ne _ _ (by decide)).trans p31
  have p47 : f33 2 = .int 0 := by rw [e34]; exact va_up_self _ _ _
  refine g_iconst (v := 0) hC dX12_compile_18 rfl ?_
  refine g_istore_n (lv' := [some (.ref t), some (.int 0)]) hC dX12_compile_19 (Nat.le_of_ble_eq_true rfl) rfl rfl ?_
  refine g_iload_n hC dX12_compile_20 rfl ?_
  refine g_aload_n hC dX12_compile_21 rfl ?_
  refine g_rget hC ho35 fl_X12_23 p46 (by decide) dX12_compile_22 ?_
  refine g_icmp_ge (tgt := 46) hC dX12_compile_25 (by decide) (fun _ => ?_) (fun c48 => False.elim (by revert c48; decide))
  refine g_aload_n hC dX12_compile_46 rfl ?_
  refine g_iconst (v := 0) hC dX12_compile_47 rfl ?_
  refine g_rput hC ho35 fl_X12_333 rfl rfl (by decide) dX12_compile_48 (fun F49 f50 e51 ho52 hx53 => ?_)
  have f54 : F49 w1 = .inl (gI d, 9000, .inl (fun _ => 0)) := (hx53 w1 (gne f37 ho35 gk_ao)).trans f37
  have f55 : F49 w2 = .inl (gI d, 9000, .inl (fun _ => 0)) := (hx53 w2 (gne f38 ho35 gk_ao)).trans f38
  have f56 : F49 w3 = .inl (gI d, 9000, .inl (fun _ => 0)) := (hx53 w3 (gne f39 ho35 gk_ao)).trans f39
  have f57 : F49 w4 = .inl (gI d, 9000, .inl (fun _ => 0)) := (hx53 w4 (gne f40 ho35 gk_ao)).trans f40
  have p58 : f50 39 = .ref w1 := by rw [e51]; exact (va_up_ne _ _ (by decide)).trans p41
  have p59 : f50 40 = .ref w2 := by rw [e51]; exact (va_up_ne _ _ (by decide)).trans p42
  have p60 : f50 41 = .ref w3 := by rw [e51]; exact (va_up_ne _ _ (by decide)).trans p43
  have p61 : f50 42 = .ref w4 := by rw [e51]; exact (va_up_ne _ _ (by decide)).trans p44
  have p62 : f50 0 = .int 0 := by rw [e51]; exact (va_up_ne _ _ (by decide)).trans p45
  have p63 : f50 4 = .int 0 := by rw [e51]; exact (va_up_ne _ _ (by decide)).trans p46
  have p64 : f50 2 = .int 0 := by rw [e51]; exact (va_up_ne _ _ (by decide)).trans p47
  have p65 : f50 105 = .int 0 := by rw [e51]; exact va_up_self _ _ _
  refine g_aload_n hC dX12_compile_51 rfl ?_
  refine g_iconst (v := 0) hC dX12_compile_52 rfl ?_
  refine g_rput hC ho52 fl_X12_48 rfl rfl (by decide) dX12_compile_53 (fun F66 f67 e68 ho69 hx70 => ?_)
  have f71 : F66 w1 = .inl (gI d, 9000, .inl (fun _ => 0)) := (hx70 w1 (gne f54 ho52 gk_ao)).trans f54
  have f72 : F66 w2 = .inl (gI d, 9000, .inl (fun _ => 0)) := (hx70 w2 (gne f55 ho52 gk_ao)).trans f55
  have f73 : F66 w3 = .inl (gI d, 9000, .inl (fun _ => 0)) := (hx70 w3 (gne f56 ho52 gk_ao)).trans f56
  have f74 : F66 w4 = .inl (gI d, 9000, .inl (fun _ => 0)) := (hx70 w4 (gne f57 ho52 gk_ao)).trans f57
  have p75 : f67 39 = .ref w1 := by rw [e68]; exact (va_up_ne _ _ (by decide)).trans p58
  have p76 : f67 40 = .ref w2 := by rw [e68]; exact (va_up_ne _ _ (by decide)).trans p59
  have p77 : f67 41 = .ref w3 := by rw [e68]; exact (va_up_ne _ _ (by decide)).trans p60
  have p78 : f67 42 = .ref w4 := by rw [e68]; exact (va_up_ne _ _ (by decide)).trans p61
  have p79 : f67 0 = .int 0 := by rw [e68]; exact (va_up_ne _ _ (by decide)).trans p62
  have p80 : f67 4 = .int 0 := by rw [e68]; exact (va_up_ne _ _ (by decide)).trans p63
  have p81 : f67 2 = .int 0 := by rw [e68]; exact (va_up_ne _ _ (by decide)).trans p64
  have p82 : f67 105 = .int 0 := by rw [e68]; exact (va_up_ne _ _ (by decide)).trans p65
  have p83 : f67 12 = .int 0 := by rw [e68]; exact va_up_self _ _ _
  refine g_aload_n hC dX12_compile_56 rfl ?_
  refine g_iconst (v := 0) hC dX12_compile_57 rfl ?_
  refine g_rput hC ho69 fl_X12_51 rfl rfl (by decide) dX12_compile_58 (fun F84 f85 e86 ho87 hx88 => ?_)
  have f89 : F84 w1 = .inl (gI d, 9000, .inl (fun _ => 0)) := (hx88 w1 (gne f71 ho69 gk_ao)).trans f71
  have f90 : F84 w2 = .inl (gI d, 9000, .inl (fun _ => 0)) := (hx88 w2 (gne f72 ho69 gk_ao)).trans f72
  have f91 : F84 w3 = .inl (gI d, 9000, .inl (fun _ => 0)) := (hx88 w3 (gne f73 ho69 gk_ao)).trans f73
  have f92 : F84 w4 = .inl (gI d, 9000, .inl (fun _ => 0)) := (hx88 w4 (gne f74 ho69 gk_ao)).trans f74
  have p93 : f85 39 = .ref w1 := by rw [e86]; exact (va_up_ne _ _ (by decide)).trans p75
  have p94 : f85 40 = .ref w2 := by rw [e86]; exact (va_up_ne _ _ (by decide)).trans p76
  have p95 : f85 41 = .ref w3 := by rw [e86]; exact (va_up_ne _ _ (by decide)).trans p77
  have p96 : f85 42 = .ref w4 := by rw [e86]; exact (va_up_ne _ _ (by decide)).trans p78
  have p97 : f85 0 = .int 0 := by rw [e86]; exact (va_up_ne _ _ (by decide)).trans p79
  have p98 : f85 4 = .int 0 := by rw [e86]; exact (va_up_ne _ _ (by decide)).trans p80
  have p99 : f85 2 = .int 0 := by rw [e86]; exact (va_up_ne _ _ (by decide)).trans p81
  have p100 : f85 105 = .int 0 := by rw [e86]; exact (va_up_ne _ _ (by decide)).trans p82
  have p101 : f85 12 = .int 0 := by rw [e86]; exact (va_up_ne _ _ (by decide)).trans p83
  have p102 : f85 13 = .int 0 := by rw [e86]; exact va_up_self _ _ _
  refine g_aload_n hC dX12_compile_61 rfl ?_
  refine g_aload_n hC dX12_compile_62 rfl ?_
  refine g_callVi (As := []) hC rfl ho87 (r_scan X.la d b F84 t _ ho87 p98) cl_X12_917 rfl rfl (Nat.le_of_ble_eq_true rfl) (gFit_of (Nat.le_of_ble_eq_true rfl) (Nat.le_of_ble_eq_true rfl) (by first | exact Nat.le_of_ble_eq_true rfl | omega | (simp only [gR]; omega)) (by first | exact Nat.le_of_ble_eq_true rfl | omega | (simp only [gR]; omega))) dX12_compile_63 (fun r105 F103 p104 => ?_)
  obtain ⟨rfl, f106, ho107, vr108, p109, kr110⟩ := p104
  have f111 : F103 w1 = .inl (gI d, 9000, .inl (fun _ => 0)) := (kr110 w1 (gne f89 ho87 gk_ao) List.not_mem_nil).trans f89
  have f112 : F103 w2 = .inl (gI d, 9000, .inl (fun _ => 0)) := (kr110 w2 (gne f90 ho87 gk_ao) List.not_mem_nil).trans f90
  have f113 : F103 w3 = .inl (gI d, 9000, .inl (fun _ => 0)) := (kr110 w3 (gne f91 ho87 gk_ao) List.not_mem_nil).trans f91
  have f114 : F103 w4 = .inl (gI d, 9000, .inl (fun _ => 0)) := (kr110 w4 (gne f92 ho87 gk_ao) List.not_mem_nil).trans f92
  have p115 : f106 39 = .ref w1 := (vr108 39 (by decide)).trans p93
  have p116 : f106 40 = .ref w2 := (vr108 40 (by decide)).trans p94
  have p117 : f106 41 = .ref w3 := (vr108 41 (by decide)).trans p95
  have p118 : f106 42 = .ref w4 := (vr108 42 (by decide)).trans p96
  have p119 : f106 0 = .int 0 := (vr108 0 (by decide)).trans p97
  have p120 : f106 4 = .int 0 := (vr108 4 (by decide)).trans p98
  have p121 : f106 2 = .int 0 := (vr108 2 (by decide)).trans p99
  have p122 : f106 105 = .int 0 := (vr108 105 (by decide)).trans p100
  have p123 : f106 12 = .int 0 := (vr108 12 (by decide)).trans p101
  have p124 : f106 13 = .int 0 := (vr108 13 (by decide)).trans p102
  refine g_rput hC ho107 fl_X12_157 rfl rfl (by decide) dX12_compile_66 (fun F125 f126 e127 ho128 hx129 => ?_)
  have f130 : F125 w1 = .inl (gI d, 9000, .inl (fun _ => 0)) := (hx129 w1 (gne f111 ho107 gk_ao)).trans f111
  have f131 : F125 w2 = .inl (gI d, 9000, .inl (fun _ => 0)) := (hx129 w2 (gne f112 ho107 gk_ao)).trans f112
  have f132 : F125 w3 = .inl (gI d, 9000, .inl (fun _ => 0)) := (hx129 w3 (gne f113 ho107 gk_ao)).trans f113
  have f133 : F125 w4 = .inl (gI d, 9000, .inl (fun _ => 0)) := (hx129 w4 (gne f114 ho107 gk_ao)).trans f114
  have p134 : f126 39 = .ref w1 := by rw [e127]; exact (va_up_ne _ _ (by decide)).trans p115
  have p135 : f126 40 = .ref w2 := by rw [e127]; exact (va_up_ne _ _ (by decide)).trans p116
  have p136 : f126 41 = .ref w3 := by rw [e127]; exact (va_up_ne _ _ (by decide)).trans p117
  have p137 : f126 42 = .ref w4 := by rw [e127]; exact (va_up_ne _ _ (by decide)).trans p118
  have p138 : f126 0 = .int 0 := by rw [e127]; exact (va_up_ne _ _ (by decide)).trans p119
  have p139 : f126 4 = .int 0 := by rw [e127]; exact (va_up_ne _ _ (by decide)).trans p120
  have p140 : f126 2 = .int 0 := by rw [e127]; exact (va_up_ne _ _ (by decide)).trans p121
  have p141 : f126 105 = .int 0 := by rw [e127]; exact (va_up_ne _ _ (by decide)).trans p122
  have p142 : f126 12 = .int 0 := by rw [e127]; exact (va_up_ne _ _ (by decide)).trans p123
  have p143 : f126 13 = .int 0 := by rw [e127]; exact (va_up_ne _ _ (by decide)).trans p124
  have p144 : f126 8 = .int 0 := by rw [e127]; exact (va_up_ne _ _ (by decide)).trans p109
  have p145 : f126 48 = .int (-1) := by rw [e127]; exact va_up_self _ _ _
  refine g_aload_n hC dX12_compile_69 rfl ?_
  refine g_callVi (As := []) hC rfl ho128 (r_parse X.la d b F125 t _ w1 w2 w3 w4 ho128 p134 p135 p136 p137 p144 f130 f131 f132 f133 hne01 hne02 hne03 hne12 hne13 hne23) cl_X12_920 rfl rfl (Nat.le_of_ble_eq_true rfl) (gFit_of (Nat.le_of_ble_eq_true rfl) (Nat.le_of_ble_eq_true rfl) (by first | exact Nat.le_of_ble_eq_true rfl | omega | (simp only [gR]; omega)) (by first | exact Nat.le_of_ble_eq_true rfl | omega | (simp only [gR]; omega))) dX12_compile_70 (fun r148 F146 p147 => ?_)
  obtain ⟨rfl, f149, ho150, vr151, p152⟩ := p147
  have p153 : f149 39 = .ref w1 := (vr151 39 (by decide)).trans p134
  have p154 : f149 40 = .ref w2 := (vr151 40 (by decide)).trans p135
  have p155 : f149 41 = .ref w3 := (vr151 41 (by decide)).trans p136
  have p156 : f149 42 = .ref w4 := (vr151 42 (by decide)).trans p137
  have p157 : f149 0 = .int 0 := (vr151 0 (by decide)).trans p138
  have p158 : f149 4 = .int 0 := (vr151 4 (by decide)).trans p139
  have p159 : f149 2 = .int 0 := (vr151 2 (by decide)).trans p140
  have p160 : f149 105 = .int 0 := (vr151 105 (by decide)).trans p141
  have p161 : f149 12 = .int 0 := (vr151 12 (by decide)).trans p142
  have p162 : f149 13 = .int 0 := (vr151 13 (by decide)).trans p143
  have p163 : f149 8 = .int 0 := (vr151 8 (by decide)).trans p144
  have p164 : f149 48 = .int (-1) := (vr151 48 (by decide)).trans p145
  refine g_if_ne (tgt := 158) hC dX12_compile_73 (by decide) (fun c165 => False.elim (by revert c165; decide)) (fun _ => ?_)
  refine g_aload_n hC dX12_compile_76 rfl ?_
  refine g_rget hC ho150 fl_X12_142 p152 (by decide) dX12_compile_77 ?_
  refine g_aload_n hC dX12_compile_80 rfl ?_
  refine g_rget hC ho150 fl_X12_36 p163 (by decide) dX12_compile_81 ?_
  refine g_icmp_ne (tgt := 98) hC dX12_compile_84 (by decide) (fun c166 => False.elim (by revert c166; decide)) (fun _ => ?_)
  refine g_aload_n hC dX12_compile_87 rfl ?_
  refine g_rget hC ho150 fl_X12_157 p164 (by decide) dX12_compile_88 ?_
  refine g_if_lt (tgt := 98) hC dX12_compile_91 (by decide) (fun _ => ?_) (fun c167 => False.elim (by revert c167; decide))
  refine g_iconst (v := 0) hC dX12_compile_98 rfl ?_
  refine g_istore_n (lv' := [some (.ref t), some (.int 0)]) hC dX12_compile_99 (Nat.le_of_ble_eq_true rfl) rfl rfl ?_
  refine g_aload_n hC dX12_compile_100 rfl ?_
  refine g_iload_n hC dX12_compile_101 rfl ?_
  refine g_if_eq (tgt := 109) hC dX12_compile_102 (by decide) (fun _ => ?_) (fun c168 => False.elim (by revert c168; decide))
  refine g_iconst (v := 2) hC dX12_compile_109 rfl ?_
  refine g_iload_n hC dX12_compile_110 rfl ?_
  refine g_if_eq (tgt := 121) hC dX12_compile_111 (by decide) (fun _ => ?_) (fun c169 => False.elim (by revert c169; decide))
  refine g_aload_n hC dX12_compile_121 rfl ?_
  refine g_rget hC ho150 fl_X12_142 p152 (by decide) dX12_compile_122 ?_
  refine g_aload_n hC dX12_compile_125 rfl ?_
  refine g_rget hC ho150 fl_X12_36 p163 (by decide) dX12_compile_126 ?_
  refine g_icmp_ne (tgt := 139) hC dX12_compile_129 (by decide) (fun c170 => False.elim (by revert c170; decide)) (fun _ => ?_)
  refine g_aload_n hC dX12_compile_132 rfl ?_
  refine g_rget hC ho150 fl_X12_23 p158 (by decide) dX12_compile_133 ?_
  refine g_goto (tgt := 148) hC dX12_compile_136 (by decide) ?_
  refine g_callVv (As := [.int 2, .int 0]) hC rfl ho150 (r_fault2 X.la d b F146 t _ 2 0 ho150 p161) cl_X12_605 rfl rfl (Nat.le_of_ble_eq_true rfl) (gFit_of (Nat.le_of_ble_eq_true rfl) (Nat.le_of_ble_eq_true rfl) (by first | exact Nat.le_of_ble_eq_true rfl | omega | (simp only [gR]; omega)) (by first | exact Nat.le_of_ble_eq_true rfl | omega | (simp only [gR]; omega))) dX12_compile_148 (fun F171 p172 => ?_)
  obtain ⟨f174, ho175, p176⟩ := p172
  refine g_iconst (v := (-1)) hC dX12_compile_151 rfl ?_
  refine g_aload_n hC dX12_compile_152 rfl ?_
  refine g_rget hC ho175 fl_X12_51 p176 (by decide) dX12_compile_153 ?_
  refine g_isub hC dX12_compile_156 ?_
  refine g_vi (fun x177 ex177 => ?_)
  exact g_iret hC rfl (by rw [ex177]; decide) (by first | exact Nat.le_of_ble_eq_true rfl | omega | (simp only [gR]; omega)) (by first | exact Nat.le_of_ble_eq_true rfl | omega | (simp only [gR]; omega)) dX12_compile_157
