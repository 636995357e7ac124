theorem kw_1693 : Cond.code yX5_burns cX5_burns 1 (some .boolean) ∈ gWs := List.mem_filter.mpr ⟨gMt7 _ (List.mem_of_getElem? (i := 16) rfl), rfl⟩
theorem kw_1690 : Cond.methodLink RX5 161 yX5_burns ∈ gWs := List.mem_filter.mpr ⟨gMt7 _ (List.mem_of_getElem? (i := 13) rfl), rfl⟩
theorem kw_1692 : Cond.instanceMethod yX5_burns ∈ gWs := List.mem_filter.mpr ⟨gMt7 _ (List.mem_of_getElem? (i := 15) rfl), rfl⟩
theorem kw_102 : Cond.selects RX5 yX5_burns yX5_burns ∈ gWs := gWm 102 (by decide +kernel) rfl
theorem cl_X5_161 : gCV RX5 161 yX5_burns cX5_burns 1 (some .boolean) 0 := ⟨g_mk [.methodLink RX5 161 yX5_burns, .instanceMethod yX5_burns, .selects yX5_burns.cls yX5_burns yX5_burns, .initialized yX5_burns.cls] (gWs_all kw_1693) (List.forall_mem_cons.mpr ⟨kw_1690, List.forall_mem_cons.mpr ⟨kw_1692, List.forall_mem_cons.mpr ⟨kw_102, List.forall_mem_cons.mpr ⟨kw_255, fun _ h => nomatch h⟩⟩⟩⟩), rfl, by decide +kernel, by decide +kernel, by decide +kernel⟩
theorem kw_750 : Cond.fieldLink RX5 67 "WordTongue$Machine" "program" "LWordTongue$Program;" ∈ gWs := List.mem_filter.mpr ⟨gMt3 _ (List.mem_of_getElem? (i := 33) rfl), rfl⟩
theorem fl_X5_67 : gFL RX5 67 5 0 (.object "WordTongue$Program") true := ⟨RX5, TX5, 16, tyX5, rfl, by decide, inW_RX5, kw_750, tyX5_ok, nmX5, rfl, by decide +kernel, fun _ => rfl⟩
theorem kw_1698 : Cond.code yX7_frame cX7_frame 2 (some .int) ∈ gWs := List.mem_filter.mpr ⟨gMt7 _ (List.mem_of_getElem? (i := 21) rfl), rfl⟩
theorem kw_1695 : Cond.methodLink RX5 210 yX7_frame ∈ gWs := List.mem_filter.mpr ⟨gMt7 _ (List.mem_of_getElem? (i := 18) rfl), rfl⟩
theorem kw_1696 : Cond.instanceMethod yX7_frame ∈ gWs := List.mem_filter.mpr ⟨gMt7 _ (List.mem_of_getElem? (i := 19) rfl), rfl⟩
theorem kw_1697 : Cond.selects RX7 yX7_frame yX7_frame ∈ gWs := List.mem_filter.mpr ⟨gMt7 _ (List.mem_of_getElem? (i := 20) rfl), rfl⟩
theorem cl_X5_210 : gCV RX5 210 yX7_frame cX7_frame 2 (some .int) 1 := ⟨g_mk [.methodLink RX5 210 yX7_frame, .instanceMethod yX7_frame, .selects yX7_frame.cls yX7_frame yX7_frame, .initialized yX7_frame.cls] (gWs_all kw_1698) (List.forall_mem_cons.mpr ⟨kw_1695, List.forall_mem_cons.mpr ⟨kw_1696, List.forall_mem_cons.mpr ⟨kw_1697, List.forall_mem_cons.mpr ⟨kw_240, fun _ h => nomatch h⟩⟩⟩⟩), rfl, by decide +kernel, by decide +kernel, by decide +kernel⟩
theorem kw_752 : Cond.fieldLink RX5 12 "WordTongue$Machine" "heap" "LWordTongue$Heap;" ∈ gWs := List.mem_filter.mpr ⟨gMt3 _ (List.mem_of_getElem? (i := 35) rfl), rfl⟩
theorem fl_X5_12 : gFL RX5 12 5 2 (.object "WordTongue$Heap") true := ⟨RX5, TX5, 16, tyX5, rfl, by decide, inW_RX5, kw_752, tyX5_ok, nmX5, rfl, by decide +kernel, fun _ => rfl⟩
theorem kw_1702 : Cond.code yX3_limit cX3_limit 4 (some .int) ∈ gWs := List.mem_filter.mpr ⟨gMt7 _ (List.mem_of_getElem? (i := 25) rfl), rfl⟩
theorem kw_1699 : Cond.methodLink RX5 213 yX3_limit ∈ gWs := List.mem_filter.mpr ⟨gMt7 _ (List.mem_of_getElem? (i := 22) rfl), rfl⟩
theorem kw_1700 : Cond.instanceMethod yX3_limit ∈ gWs := List.mem_filter.mpr ⟨gMt7 _ (List.mem_of_getElem? (i := 23) rfl), rfl⟩
theorem kw_1701 : Cond.selects RX3 yX3_limit yX3_limit ∈ gWs := List.mem_filter.mpr ⟨gMt7 _ (List.mem_of_getElem? (i := 24) rfl), rfl⟩
theorem cl_X5_213 : gCV RX5 213 yX3_limit cX3_limit 4 (some .int) 1 := ⟨g_mk [.methodLink RX5 213 yX3_limit, .instanceMethod yX3_limit, .selects yX3_limit.cls yX3_limit yX3_limit, .initialized yX3_limit.cls] (gWs_all kw_1702) (List.forall_mem_cons.mpr ⟨kw_1699, List.forall_mem_cons.mpr ⟨kw_1700, List.forall_mem_cons.mpr ⟨kw_1701, List.forall_mem_cons.mpr ⟨kw_256, fun _ h => nomatch h⟩⟩⟩⟩), rfl, by decide +kernel, by decide +kernel, by decide +kernel⟩
theorem kw_748 : Cond.constant RX5 20 1000000 ∈ gWs := List.mem_filter.mpr ⟨gMt3 _ (List.mem_of_getElem? (i := 31) rfl), rfl⟩
theorem kw_1709 : Cond.code yX7_params cX7_params 2 (some .int) ∈ gWs := List.mem_filter.mpr ⟨gMt7 _ (List.mem_of_getElem? (i := 32) rfl), rfl⟩
theorem kw_1706 : Cond.methodLink RX5 216 yX7_params ∈ gWs := List.mem_filter.mpr ⟨gMt7 _ (List.mem_of_getElem? (i := 29) rfl), rfl⟩
theorem kw_1707 : Cond.instanceMethod yX7_params ∈ gWs := List.mem_filter.mpr ⟨gMt7 _ (List.mem_of_getElem? (i := 30) rfl), rfl⟩
theorem kw_1708 : Cond.selects RX7 yX7_params yX7_params ∈ gWs := List.mem_filter.mpr ⟨gMt7 _ (List.mem_of_getElem? (i := 31) rfl), rfl⟩
theorem cl_X5_216 : gCV RX5 216 yX7_params cX7_params 2 (some .int) 1 := ⟨g_mk [.methodLink RX5 216 yX7_params, .instanceMethod yX7_params, .selects yX7_params.cls yX7_params yX7_params, .initialized yX7_params.cls] (gWs_all kw_1709) (List.forall_mem_cons.mpr ⟨kw_1706, List.forall_mem_cons.mpr ⟨kw_1707, List.forall_mem_cons.mpr ⟨kw_1708, List.forall_mem_cons.mpr ⟨kw_240, fun _ h => nomatch h⟩⟩⟩⟩), rfl, by decide +kernel, by decide +kernel, by decide +kernel⟩
theorem kw_1719 : Cond.code yX7_begin cX7_begin 2 (some .int) ∈ gWs := List.mem_filter.mpr ⟨gMt7 _ (List.mem_of_getElem? (i := 42) rfl), rfl⟩
theorem kw_1716 : Cond.methodLink RX5 222 yX7_begin ∈ gWs := List.mem_filter.mpr ⟨gMt7 _ (List.mem_of_getElem? (i := 39) rfl), rfl⟩
theorem kw_1717 : Cond.instanceMethod yX7_begin ∈ gWs := List.mem_filter.mpr ⟨gMt7 _ (List.mem_of_getElem? (i := 40) rfl), rfl⟩
theorem kw_1718 : Cond.selects RX7 yX7_begin yX7_begin ∈ gWs := List.mem_filter.mpr ⟨gMt7 _ (List.mem_of_getElem? (i := 41) rfl), rfl⟩
theorem cl_X5_222 : gCV RX5 222 yX7_begin cX7_begin 2 (some .int) 1 := ⟨g_mk [.methodLink RX5 222 yX7_begin, .instanceMethod yX7_begin, .selects yX7_begin.cls yX7_begin yX7_begin, .initialized yX7_begin.cls] (gWs_all kw_1719) (List.forall_mem_cons.mpr ⟨kw_1716, List.forall_mem_cons.mpr ⟨kw_1717, List.forall_mem_cons.mpr ⟨kw_1718, List.forall_mem_cons.mpr ⟨kw_240, fun _ h => nomatch h⟩⟩⟩⟩), rfl, by decide +kernel, by decide +kernel, by decide +kernel⟩
theorem kw_1713 : Cond.code yX5_argument cX5_argument 3 (some .int) ∈ gWs := List.mem_filter.mpr ⟨gMt7 _ (List.mem_of_getElem? (i := 36) rfl), rfl⟩
theorem kw_1710 : Cond.methodLink RX5 219 yX5_argument ∈ gWs := List.mem_filter.mpr ⟨gMt7 _ (List.mem_of_getElem? (i := 33) rfl), rfl⟩
theorem kw_1712 : Cond.instanceMethod yX5_argument ∈ gWs := List.mem_filter.mpr ⟨gMt7 _ (List.mem_of_getElem? (i := 35) rfl), rfl⟩
theorem kw_103 : Cond.selects RX5 yX5_argument yX5_argument ∈ gWs := gWm 103 (by decide +kernel) rfl
theorem cl_X5_219 : gCV RX5 219 yX5_argument cX5_argument 3 (some .int) 2 := ⟨g_mk [.methodLink RX5 219 yX5_argument, .instanceMethod yX5_argument, .selects yX5_argument.cls yX5_argument yX5_argument, .initialized yX5_argument.cls] (gWs_all kw_1713) (List.forall_mem_cons.mpr ⟨kw_1710, List.forall_mem_cons.mpr ⟨kw_1712, List.forall_mem_cons.mpr ⟨kw_103, List.forall_mem_cons.mpr ⟨kw_255, fun _ h => nomatch h⟩⟩⟩⟩), rfl, by decide +kernel, by decide +kernel, by decide +kernel⟩
theorem kw_1762 : Cond.code yX7_routines cX7_routines 1 (some .int) ∈ gWs := List.mem_filter.mpr ⟨gMt7 _ (List.mem_of_getElem? (i := 85) rfl), rfl⟩
theorem kw_1759 : Cond.methodLink RX5 196 yX7_routines ∈ gWs := List.mem_filter.mpr ⟨gMt7 _ (List.mem_of_getElem? (i := 82) rfl), rfl⟩
theorem kw_1760 : Cond.instanceMethod yX7_routines ∈ gWs := List.mem_filter.mpr ⟨gMt7 _ (List.mem_of_getElem? (i := 83) rfl), rfl⟩
theorem kw_1761 : Cond.selects RX7 yX7_routines yX7_routines ∈ gWs := List.mem_filter.mpr ⟨gMt7 _ (List.mem_of_getElem? (i := 84) rfl), rfl⟩
theorem cl_X5_196 : gCV RX5 196 yX7_routines cX7_routines 1 (some .int) 0 := ⟨g_mk [.methodLink RX5 196 yX7_routines, .instanceMethod yX7_routines, .selects yX7_routines.cls yX7_routines yX7_routines, .initialized yX7_routines.cls] (gWs_all kw_1762) (List.forall_mem_cons.mpr ⟨kw_1759, List.forall_mem_cons.mpr ⟨kw_1760, List.forall_mem_cons.mpr ⟨kw_1761, List.forall_mem_cons.mpr ⟨kw_240, fun _ h => nomatch h⟩⟩⟩⟩), rfl, by decide +kernel, by decide +kernel, by decide +kernel⟩
theorem kw_1765 : Cond.code yX5_isBetween cX5_isBetween 3 (some .boolean) ∈ gWs := List.mem_filter.mpr ⟨gMt7 _ (List.mem_of_getElem? (i := 88) rfl), rfl⟩
theorem kw_1763 : Cond.methodLink RX5 199 yX5_isBetween ∈ gWs := List.mem_filter.mpr ⟨gMt7 _ (List.mem_of_getElem? (i := 86) rfl), rfl⟩
theorem kw_1764 : Cond.static yX5_isBetween ∈ gWs := List.mem_filter.mpr ⟨gMt7 _ (List.mem_of_getElem? (i := 87) rfl), rfl⟩
theorem cl_X5_199 : gCS RX5 199 yX5_isBetween cX5_isBetween 3 (some .boolean) 3 := ⟨g_mk [.methodLink RX5 199 yX5_isBetween, .static yX5_isBetween, .initialized yX5_isBetween.cls] (gWs_all kw_1765) (List.forall_mem_cons.mpr ⟨kw_1763, List.forall_mem_cons.mpr ⟨kw_1764, List.forall_mem_cons.mpr ⟨kw_255, fun _ h => nomatch h⟩⟩⟩), ⟨by decide +kernel, by decide +kernel, by decide +kernel⟩⟩
theorem kw_1766 : Cond.constant RX5 202 2000013 ∈ gWs := List.mem_filter.mpr ⟨gMt7 _ (List.mem_of_getElem? (i := 89) rfl), rfl⟩
theorem kw_1771 : Cond.constant RX5 206 2000000 ∈ gWs := List.mem_filter.mpr ⟨gMt7 _ (List.mem_of_getElem? (i := 94) rfl), rfl⟩
theorem kw_764 : Cond.fieldLink RX5 61 "WordTongue$Machine" "service" "I" ∈ gWs := List.mem_filter.mpr ⟨gMt3 _ (List.mem_of_getElem? (i := 47) rfl), rfl⟩
theorem fl_X5_61 : gFL RX5 61 5 14 .int false := ⟨RX5, TX5, 16, tyX5, rfl, by decide, inW_RX5, kw_764, tyX5_ok, nmX5, rfl, by decide +kernel, fun h => by cases h⟩
theorem kw_765 : Cond.fieldLink RX5 64 "WordTongue$Machine" "given" "I" ∈ gWs := List.mem_filter.mpr ⟨gMt3 _ (List.mem_of_getElem? (i := 48) rfl), rfl⟩
theorem fl_X5_64 : gFL RX5 64 5 15 .int false := ⟨RX5, TX5, 16, tyX5, rfl, by decide, inW_RX5, kw_765, tyX5_ok, nmX5, rfl, by decide +kernel, fun h => by cases h⟩
theorem kw_1689 : Cond.code yX5_enter cX5_enter 5 none ∈ gWs := List.mem_filter.mpr ⟨gMt7 _ (List.mem_of_getElem? (i := 12) rfl), rfl⟩
theorem kw_1686 : Cond.methodLink RX5 90 yX5_enter ∈ gWs := List.mem_filter.mpr ⟨gMt7 _ (List.mem_of_getElem? (i := 9) rfl), rfl⟩
theorem kw_1688 : Cond.instanceMethod yX5_enter ∈ gWs := List.mem_filter.mpr ⟨gMt7 _ (List.mem_of_getElem? (i := 11) rfl), rfl⟩
theorem kw_101 : Cond.selects RX5 yX5_enter yX5_enter ∈ gWs := gWm 101 (by decide +kernel) rfl
theorem cl_X5_90 : gCV RX5 90 yX5_enter cX5_enter 5 none 3 := ⟨g_mk [.methodLink RX5 90 yX5_enter, .instanceMethod yX5_enter, .selects yX5_enter.cls yX5_enter yX5_enter, .initialized yX5_enter.cls] (gWs_all kw_1689) (List.forall_mem_cons.mpr ⟨kw_1686, List.forall_mem_cons.mpr ⟨kw_1688, List.forall_mem_cons.mpr ⟨kw_101, List.forall_mem_cons.mpr ⟨kw_255, fun _ h => nomatch h⟩⟩⟩⟩), rfl, by decide +kernel, by decide +kernel, by decide +kernel⟩
theorem kw_1770 : Cond.code yX5_apply cX5_apply 7 none ∈ gWs := List.mem_filter.mpr ⟨gMt7 _ (List.mem_of_getElem? (i := 93) rfl), rfl⟩
theorem kw_1767 : Cond.methodLink RX5 203 yX5_apply ∈ gWs := List.mem_filter.mpr ⟨gMt7 _ (List.mem_of_getElem? (i := 90) rfl), rfl⟩
theorem kw_1769 : Cond.instanceMethod yX5_apply ∈ gWs := List.mem_filter.mpr ⟨gMt7 _ (List.mem_of_getElem? (i := 92) rfl), rfl⟩
theorem kw_112 : Cond.selects RX5 yX5_apply yX5_apply ∈ gWs := gWm 112 (by decide +kernel) rfl
theorem cl_X5_203 : gCV RX5 203 yX5_apply cX5_apply 7 none 2 := ⟨g_mk [.methodLink RX5 203 yX5_apply, .instanceMethod yX5_apply, .selects yX5_apply.cls yX5_apply yX5_apply, .initialized yX5_apply.cls] (gWs_all kw_1770) (List.forall_mem_cons.mpr ⟨kw_1767, List.forall_mem_cons.mpr ⟨kw_1769, List.forall_mem_cons.mpr ⟨kw_112, List.forall_mem_cons.mpr ⟨kw_255, fun _ h => nomatch h⟩⟩⟩⟩), rfl, by decide +kernel, by decide +kernel, by decide +kernel⟩
theorem dX5_enter_0 : decode cX5_enter 0 = .ok (.aload_n 0, 1) := by decide +kernel
theorem dX5_enter_1 : decode cX5_enter 1 = .ok (.invokevirtual 161, 3) := by decide +kernel
theorem dX5_enter_4 : decode cX5_enter 4 = .ok (.ifCond .ne 4, 3) := by decide +kernel
theorem dX5_enter_7 : decode cX5_enter 7 = .ok (.return_, 1) := by decide +kernel
theorem dX5_enter_8 : decode cX5_enter 8 = .ok (.aload_n 0, 1) := by decide +kernel
theorem dX5_enter_9 : decode cX5_enter 9 = .ok (.getfield 28, 3) := by decide +kernel
theorem dX5_enter_12 : decode cX5_enter 12 = .ok (.invokevirtual 207, 3) := by decide +kernel
theorem dX5_enter_15 : decode cX5_enter 15 = .ok (.sipush 400, 3) := by decide +kernel
theorem dX5_enter_18 : decode cX5_enter 18 = .ok (.if_icmp .ge 27, 3) := by decide +kernel
theorem dX5_enter_21 : decode cX5_enter 21 = .ok (.iload_n 3, 1) := by decide +kernel
theorem dX5_enter_22 : decode cX5_enter 22 = .ok (.aload_n 0, 1) := by decide +kernel
theorem dX5_enter_23 : decode cX5_enter 23 = .ok (.getfield 67, 3) := by decide +kernel
theorem dX5_enter_26 : decode cX5_enter 26 = .ok (.iload_n 1, 1) := by decide +kernel
theorem dX5_enter_27 : decode cX5_enter 27 = .ok (.invokevirtual 210, 3) := by decide +kernel
theorem dX5_enter_30 : decode cX5_enter 30 = .ok (.iadd, 1) := by decide +kernel
theorem dX5_enter_31 : decode cX5_enter 31 = .ok (.aload_n 0, 1) := by decide +kernel
theorem dX5_enter_32 : decode cX5_enter 32 = .ok (.getfield 12, 3) := by decide +kernel
theorem dX5_enter_35 : decode cX5_enter 35 = .ok (.aload_n 0, 1) := by decide +kernel
theorem dX5_enter_36 : decode cX5_enter 36 = .ok (.getfield 35, 3) := by decide +kernel
theorem dX5_enter_39 : decode cX5_enter 39 = .ok (.invokevirtual 213, 3) := by decide +kernel
theorem dX5_enter_42 : decode cX5_enter 42 = .ok (.if_icmp .le 9, 3) := by decide +kernel
theorem dX5_enter_45 : decode cX5_enter 45 = .ok (.aload_n 0, 1) := by decide +kernel
theorem dX5_enter_46 : decode cX5_enter 46 = .ok (.iconst 5, 1) := by decide +kernel
theorem dX5_enter_47 : decode cX5_enter 47 = .ok (.invokevirtual 137, 3) := by decide +kernel
theorem dX5_enter_50 : decode cX5_enter 50 = .ok (.return_, 1) := by decide +kernel
theorem dX5_enter_51 : decode cX5_enter 51 = .ok (.aload_n 0, 1) := by decide +kernel
theorem dX5_enter_52 : decode cX5_enter 52 = .ok (.iload_n 3, 1) := by decide +kernel
theorem dX5_enter_53 : decode cX5_enter 53 = .ok (.aload_n 0, 1) := by decide +kernel
theorem dX5_enter_54 : decode cX5_enter 54 = .ok (.getfield 42, 3) := by decide +kernel
theorem dX5_enter_57 : decode cX5_enter 57 = .ok (.invokevirtual 123, 3) := by decide +kernel
theorem dX5_enter_60 : decode cX5_enter 60 = .ok (.aload_n 0, 1) := by decide +kernel
theorem dX5_enter_61 : decode cX5_enter 61 = .ok (.iload_n 3, 1) := by decide +kernel
theorem dX5_enter_62 : decode cX5_enter 62 = .ok (.iconst 1, 1) := by decide +kernel
theorem dX5_enter_63 : decode cX5_enter 63 = .ok (.iadd, 1) := by decide +kernel
theorem dX5_enter_64 : decode cX5_enter 64 = .ok (.ldc 20, 2) := by decide +kernel
theorem dX5_enter_66 : decode cX5_enter 66 = .ok (.iload_n 1, 1) := by decide +kernel
theorem dX5_enter_67 : decode cX5_enter 67 = .ok (.iadd, 1) := by decide +kernel
theorem dX5_enter_68 : decode cX5_enter 68 = .ok (.invokevirtual 123, 3) := by decide +kernel
theorem dX5_enter_71 : decode cX5_enter 71 = .ok (.iconst 0, 1) := by decide +kernel
theorem dX5_enter_72 : decode cX5_enter 72 = .ok (.istore 4, 2) := by decide +kernel
theorem dX5_enter_74 : decode cX5_enter 74 = .ok (.iload 4, 2) := by decide +kernel
theorem dX5_enter_76 : decode cX5_enter 76 = .ok (.aload_n 0, 1) := by decide +kernel
theorem dX5_enter_77 : decode cX5_enter 77 = .ok (.getfield 67, 3) := by decide +kernel
theorem dX5_enter_80 : decode cX5_enter 80 = .ok (.iload_n 1, 1) := by decide +kernel
theorem dX5_enter_81 : decode cX5_enter 81 = .ok (.invokevirtual 216, 3) := by decide +kernel
theorem dX5_enter_84 : decode cX5_enter 84 = .ok (.if_icmp .ge 26, 3) := by decide +kernel
theorem dX5_enter_87 : decode cX5_enter 87 = .ok (.aload_n 0, 1) := by decide +kernel
theorem dX5_enter_88 : decode cX5_enter 88 = .ok (.iload_n 3, 1) := by decide +kernel
theorem dX5_enter_89 : decode cX5_enter 89 = .ok (.iconst 2, 1) := by decide +kernel
theorem dX5_enter_90 : decode cX5_enter 90 = .ok (.iadd, 1) := by decide +kernel
theorem dX5_enter_91 : decode cX5_enter 91 = .ok (.iload 4, 2) := by decide +kernel
theorem dX5_enter_93 : decode cX5_enter 93 = .ok (.iadd, 1) := by decide +kernel
theorem dX5_enter_94 : decode cX5_enter 94 = .ok (.aload_n 0, 1) := by decide +kernel
theorem dX5_enter_95 : decode cX5_enter 95 = .ok (.iload 4, 2) := by decide +kernel
theorem dX5_enter_97 : decode cX5_enter 97 = .ok (.iload_n 2, 1) := by decide +kernel
theorem dX5_enter_98 : decode cX5_enter 98 = .ok (.invokevirtual 219, 3) := by decide +kernel
theorem dX5_enter_101 : decode cX5_enter 101 = .ok (.invokevirtual 123, 3) := by decide +kernel
theorem dX5_enter_104 : decode cX5_enter 104 = .ok (.iinc 4 1, 3) := by decide +kernel
theorem dX5_enter_107 : decode cX5_enter 107 = .ok (.goto (-33), 3) := by decide +kernel
theorem dX5_enter_110 : decode cX5_enter 110 = .ok (.aload_n 0, 1) := by decide +kernel
theorem dX5_enter_111 : decode cX5_enter 111 = .ok (.getfield 24, 3) := by decide +kernel
theorem dX5_enter_114 : decode cX5_enter 114 = .ok (.aload_n 0, 1) := by decide +kernel
theorem dX5_enter_115 : decode cX5_enter 115 = .ok (.getfield 24, 3) := by decide +kernel
theorem dX5_enter_118 : decode cX5_enter 118 = .ok (.invokevirtual 207, 3) := by decide +kernel
theorem dX5_enter_121 : decode cX5_enter 121 = .ok (.iload_n 2, 1) := by decide +kernel
theorem dX5_enter_122 : decode cX5_enter 122 = .ok (.isub, 1) := by decide +kernel
theorem dX5_enter_123 : decode cX5_enter 123 = .ok (.invokevirtual 134, 3) := by decide +kernel
theorem dX5_enter_126 : decode cX5_enter 126 = .ok (.aload_n 0, 1) := by decide +kernel
theorem dX5_enter_127 : decode cX5_enter 127 = .ok (.getfield 28, 3) := by decide +kernel
theorem dX5_enter_130 : decode cX5_enter 130 = .ok (.aload_n 0, 1) := by decide +kernel
theorem dX5_enter_131 : decode cX5_enter 131 = .ok (.getfield 39, 3) := by decide +kernel
theorem dX5_enter_134 : decode cX5_enter 134 = .ok (.invokevirtual 140, 3) := by decide +kernel
theorem dX5_enter_137 : decode cX5_enter 137 = .ok (.aload_n 0, 1) := by decide +kernel
theorem dX5_enter_138 : decode cX5_enter 138 = .ok (.getfield 28, 3) := by decide +kernel
theorem dX5_enter_141 : decode cX5_enter 141 = .ok (.aload_n 0, 1) := by decide +kernel
theorem dX5_enter_142 : decode cX5_enter 142 = .ok (.getfield 42, 3) := by decide +kernel
theorem dX5_enter_145 : decode cX5_enter 145 = .ok (.invokevirtual 140, 3) := by decide +kernel
theorem dX5_enter_148 : decode cX5_enter 148 = .ok (.aload_n 0, 1) := by decide +kernel
theorem dX5_enter_149 : decode cX5_enter 149 = .ok (.getfield 28, 3) := by decide +kernel
theorem dX5_enter_152 : decode cX5_enter 152 = .ok (.aload_n 0, 1) := by decide +kernel
theorem dX5_enter_153 : decode cX5_enter 153 = .ok (.getfield 45, 3) := by decide +kernel
theorem dX5_enter_156 : decode cX5_enter 156 = .ok (.invokevirtual 140, 3) := by decide +kernel
theorem dX5_enter_159 : decode cX5_enter 159 = .ok (.aload_n 0, 1) := by decide +kernel
theorem dX5_enter_160 : decode cX5_enter 160 = .ok (.getfield 28, 3) := by decide +kernel
theorem dX5_enter_163 : decode cX5_enter 163 = .ok (.aload_n 0, 1) := by decide +kernel
theorem dX5_enter_164 : decode cX5_enter 164 = .ok (.getfield 24, 3) := by decide +kernel
theorem dX5_enter_167 : decode cX5_enter 167 = .ok (.invokevirtual 207, 3) := by decide +kernel
theorem dX5_enter_170 : decode cX5_enter 170 = .ok (.invokevirtual 140, 3) := by decide +kernel
theorem dX5_enter_173 : decode cX5_enter 173 = .ok (.aload_n 0, 1) := by decide +kernel
theorem dX5_enter_174 : decode cX5_enter 174 = .ok (.iload_n 3, 1) := by decide +kernel
theorem dX5_enter_175 : decode cX5_enter 175 = .ok (.putfield 42, 3) := by decide +kernel
theorem dX5_enter_178 : decode cX5_enter 178 = .ok (.aload_n 0, 1) := by decide +kernel
theorem dX5_enter_179 : decode cX5_enter 179 = .ok (.iload_n 1, 1) := by decide +kernel
theorem dX5_enter_180 : decode cX5_enter 180 = .ok (.putfield 45, 3) := by decide +kernel
theorem dX5_enter_183 : decode cX5_enter 183 = .ok (.aload_n 0, 1) := by decide +kernel
theorem dX5_enter_184 : decode cX5_enter 184 = .ok (.aload_n 0, 1) := by decide +kernel
theorem dX5_enter_185 : decode cX5_enter 185 = .ok (.getfield 67, 3) := by decide +kernel
theorem dX5_enter_188 : decode cX5_enter 188 = .ok (.iload_n 1, 1) := by decide +kernel
theorem dX5_enter_189 : decode cX5_enter 189 = .ok (.invokevirtual 222, 3) := by decide +kernel
theorem dX5_enter_192 : decode cX5_enter 192 = .ok (.putfield 39, 3) := by decide +kernel
theorem dX5_enter_195 : decode cX5_enter 195 = .ok (.return_, 1) := by decide +kernel
set_option maxHeartbeats 4000000 in
set_option maxRecDepth 100000 in
theorem s_M_enter (l : Launch) (d : gD) (b : Nat) (Y : gYt) (c : Nat × Nat) (F : gM) (k n : Nat) {S : gSt} (hi : hI d b Y c (F, k, n) S) (hA : gPsi S ≤ gAm) (h43 : sZ S 43 ≤ 404) (x y z : Int32) : hMv l d b yX5_enter cX5_enter 5 5 k n F [.ref (gO' Y 7), .int x, .int y, .int z] (fun u => ∃ S', hI d b Y c u S' ∧ gKp Y F u.1 ∧ gSm S S' [38, 39, 40, 41, 42, 43, 44, 45] [25, 26, 27, 28, 29, 30, 31, 32, 33, 34, 35, 36] ∧ sZ S' 43 ≤ 404 ∧ gPsi S' ≤ gPsi S ∧ sN S' 45 = sN S 45) := by
  intro mc ms
  refine hM_of2 rfl (nL := 5) (Nat.le_of_ble_eq_true rfl) ?_
  intro X hX hC hr ho; subst hX
  show hG X d b _ F k n 0 [some (.ref (gO' Y 7)), some (.int x), some (.int y), some (.int z), none] []
  refine h_aload_n hC dX5_enter_0 rfl ?_
  refine h_callVi (As := []) hC hr ho rfl (hi.1.o 7 (by decide)) (s_M_burns X.la d b Y c _ _ _ hi (by omega) (by omega)) cl_X5_161 rfl rfl (Nat.le_of_ble_eq_true rfl) (hFr_of (Nat.le_of_ble_eq_true rfl) (Nat.le_of_ble_eq_true rfl)) dX5_enter_1 (fun r4 u1 p2 o3 => ?_)
  obtain ⟨S5, I6, K7, s8, q9⟩ := p2
  have m10 : gSm S S5 [38, 39, 40, 41, 42, 43, 44, 45] [25, 26, 27, 28, 29, 30, 31, 32, 33, 34, 35, 36] := gSm.wk s8 _ _ rfl rfl
  have ZS5 : sZ S5 43 = sZ S 43 := s8.z 43 (by decide)
  obtain ⟨aq9, bq9, nq9, dq9⟩ := q9
  refine h_if_ne (tgt := 8) hC dX5_enter_4 (by decide) (fun c12 => ?_) (fun c12 => ?_)
  · refine h_aload_n hC dX5_enter_8 rfl ?_
    refine h_get hC fl_X5_28 (I6.1.o 7 (by decide)) rfl dX5_enter_9 ?_
    refine hi_size (j := 43) hC hr o3 I6.1 (by decide) cl_X5_207 rfl (Nat.le_of_ble_eq_true rfl) (hFr_of (Nat.le_of_ble_eq_true rfl) (Nat.le_of_ble_eq_true rfl)) dX5_enter_12 ?_
    refine h_sipush (v := 400) hC dX5_enter_15 rfl ?_
    refine h_icmp_ge (tgt := 45) hC dX5_enter_18 (by decide) (fun c13 => ?_) (fun c13 => ?_)
    · refine h_aload_n hC dX5_enter_45 rfl ?_
      refine h_iconst (v := 5) hC dX5_enter_46 rfl ?_
      refine h_callVv (As := [.int 5]) hC hr o3 rfl (I6.1.o 7 (by decide)) (s_M_fail X.la d b Y c _ _ _ I6 (by omega) (by omega) 5) cl_X5_137 rfl rfl (Nat.le_of_ble_eq_true rfl) (hFr_of (Nat.le_of_ble_eq_true rfl) (Nat.le_of_ble_eq_true rfl)) dX5_enter_47 (fun u14 p15 o16 => ?_)
      obtain ⟨S18, I19, K20, s21, q22⟩ := p15
      have m23 : gSm S S18 [38, 39, 40, 41, 42, 43, 44, 45] [25, 26, 27, 28, 29, 30, 31, 32, 33, 34, 35, 36] := m10.tr s21 _ _ rfl rfl
      have K24 := K7.tr K20
      have ZS18 : sZ S18 43 = sZ S5 43 := s21.z 43 (by decide)
      obtain ⟨aq22, bq22, nq22⟩ := q22
      exact h_vret hC hr o16 rfl rfl ⟨S18, I19, K24, m23, by omega, by omega, by omega⟩ dX5_enter_50
    · have h400 : sZ S5 43 < 400 := nI_ltB (by omega) c13
      refine h_iload_n hC dX5_enter_21 rfl ?_
      refine h_aload_n hC dX5_enter_22 rfl ?_
      refine h_get hC fl_X5_67 (I6.1.o 7 (by decide)) rfl dX5_enter_23 ?_
      refine h_iload_n hC dX5_enter_26 rfl ?_
      refine g_callVi (As := [.int x]) hC rfl (I6.1.o 1 (by decide)) (p_P_frame X.la d b Y _ S5 I6.1 x) cl_X5_210 rfl rfl (Nat.le_of_ble_eq_true rfl) (h_fit0 hC hr o3 (hFr_of (Nat.le_of_ble_eq_true rfl) (Nat.le_of_ble_eq_true rfl))) dX5_enter_27 (fun r25 F26 p27 => ?_)
      obtain ⟨er25, eF26⟩ := p27; have eF26 := eF26.symm; subst eF26
      refine h_same hC o3 ?_
      refine h_iadd hC dX5_enter_30 ?_
      refine h_vi (fun x29 ex29 => ?_)
      refine h_aload_n hC dX5_enter_31 rfl ?_
      refine h_get hC fl_X5_12 (I6.1.o 7 (by decide)) rfl dX5_enter_32 ?_
      refine h_aload_n hC dX5_enter_35 rfl ?_
      refine h_get hC fl_X5_35 (I6.1.o 7 (by decide)) rfl dX5_enter_36 ?_
      refine h_callVi (As := [.int (sV S5 27)]) hC hr o3 rfl (I6.1.o 10 (by decide)) (s_H_limit X.la d b Y c _ _ _ I6 (sV S5 27)) cl_X5_213 rfl rfl (Nat.le_of_ble_eq_true rfl) (hFr_of (Nat.le_of_ble_eq_true rfl) (Nat.le_of_ble_eq_true rfl)) dX5_enter_39 (fun r33 u30 p31 o32 => ?_)
      obtain ⟨q34, rfl⟩ := p31
      refine h_icmp_le (tgt := 51) hC dX5_enter_42 (by decide) (fun c35 => ?_) (fun c35 => ?_)
      · refine h_aload_n hC dX5_enter_51 rfl ?_
        refine h_iload_n hC dX5_enter_52 rfl ?_
        refine h_aload_n hC dX5_enter_53 rfl ?_
        refine h_get hC fl_X5_42 (I6.1.o 7 (by decide)) rfl dX5_enter_54 ?_
        refine h_callVv (As := [.int z, .int (sV S5 29)]) hC hr o32 rfl (I6.1.o 7 (by decide)) (s_M_put X.la d b Y c _ _ _ I6 (by omega) (by omega) z (sV S5 29)) cl_X5_123 rfl rfl (Nat.le_of_ble_eq_true rfl) (hFr_of (Nat.le_of_ble_eq_true rfl) (Nat.le_of_ble_eq_true rfl)) dX5_enter_57 (fun u36 p37 o38 => ?_)
        obtain ⟨S40, I41, K42, s43, q44⟩ := p37
        have m45 : gSm S S40 [38, 39, 40, 41, 42, 43, 44, 45] [25, 26, 27, 28, 29, 30, 31, 32, 33, 34, 35, 36] := m10.tr s43 _ _ rfl rfl
        have K46 := K7.tr K42
        have ZS40 : sZ S40 43 = sZ S5 43 := s43.z 43 (by decide)
        obtain ⟨aq44, bq44, nq44⟩ := q44
        refine h_aload_n hC dX5_enter_60 rfl ?_
        refine h_iload_n hC dX5_enter_61 rfl ?_
        refine h_iconst (v := 1) hC dX5_enter_62 rfl ?_
        refine h_iadd hC dX5_enter_63 ?_
        refine h_vi (fun x47 ex47 => ?_)
        refine h_ldc hC dX5_enter_64 kw_748 ?_
        refine h_iload_n hC dX5_enter_66 rfl ?_
        refine h_iadd hC dX5_enter_67 ?_
        refine h_vi (fun x48 ex48 => ?_)
        refine h_callVv (As := [.int x47, .int x48]) hC hr o38 rfl (I41.1.o 7 (by decide)) (s_M_put X.la d b Y c _ _ _ I41 (by omega) (by omega) x47 x48) cl_X5_123 rfl rfl (Nat.le_of_ble_eq_true rfl) (hFr_of (Nat.le_of_ble_eq_true rfl) (Nat.le_of_ble_eq_true rfl)) dX5_enter_68 (fun u49 p50 o51 => ?_)
        obtain ⟨S53, I54, K55, s56, q57⟩ := p50
        have m58 : gSm S S53 [38, 39, 40, 41, 42, 43, 44, 45] [25, 26, 27, 28, 29, 30, 31, 32, 33, 34, 35, 36] := m45.tr s56 _ _ rfl rfl
        have K59 := K46.tr K55
        have ZS53 : sZ S53 43 = sZ S40 43 := s56.z 43 (by decide)
        obtain ⟨aq57, bq57, nq57⟩ := q57
        refine h_iconst (v := 0) hC dX5_enter_71 rfl ?_
        refine h_istore (lv' := [some (.ref (gO' Y 7)), some (.int x), some (.int y), some (.int z), some (.int 0)]) hC dX5_enter_72 (Nat.le_of_ble_eq_true rfl) rfl rfl ?_
        have L60 : ∀ (m61 j62 : Nat), j62 + m61 = 2147483647 → ∀ (u65 : hU) (S66 : gSt), hI d b Y c u65 S66 → hOk X b u65.2.1 u65.2.2 → gKp Y F u65.1 → gSm S S66 [38, 39, 40, 41, 42, 43, 44, 45] [25, 26, 27, 28, 29, 30, 31, 32, 33, 34, 35, 36] → (sZ S66 43 ≤ 399) → (gPsi S66 ≤ gPsi S) → (sN S66 45 = sN S 45) → hG X d b (MQ X.be (va_Qv (fun u => ∃ S', hI d b Y c u S' ∧ gKp Y F u.1 ∧ gSm S S' [38, 39, 40, 41, 42, 43, 44, 45] [25, 26, 27, 28, 29, 30, 31, 32, 33, 34, 35, 36] ∧ sZ S' 43 ≤ 404 ∧ gPsi S' ≤ gPsi S ∧ sN S' 45 = sN S 45) (hB d b) (fun q => b ≤ q)) X.ar X.st mc ms (fun q => b ≤ q)) u65.1 u65.2.1 u65.2.2 74 [some (.ref (gO' Y 7)), some (.int x), some (.int y), some (.int z), some (.int (nI j62))] [] := by
          intro m61
          refine Nat.strongRecOn m61 (fun m61 ih63 j62 hj64 u65 S66 I67 o68 K69 m70 i43 ips iN => ?_)
          refine h_iload hC dX5_enter_74 rfl ?_
          refine h_aload_n hC dX5_enter_76 rfl ?_
          refine h_get hC fl_X5_67 (I67.1.o 7 (by decide)) rfl dX5_enter_77 ?_
          refine h_iload_n hC dX5_enter_80 rfl ?_
          refine g_callVi (As := [.int x]) hC rfl (I67.1.o 1 (by decide)) (p_P_params X.la d b Y _ S66 I67.1 x) cl_X5_216 rfl rfl (Nat.le_of_ble_eq_true rfl) (h_fit0 hC hr o68 (hFr_of (Nat.le_of_ble_eq_true rfl) (Nat.le_of_ble_eq_true rfl))) dX5_enter_81 (fun r71 F72 p73 => ?_)
          obtain ⟨er71, eF72⟩ := p73; have eF72 := eF72.symm; subst eF72
          refine h_same hC o68 ?_
          refine h_icmp_ge (tgt := 110) hC dX5_enter_84 (by decide) (fun c75 => ?_) (fun c75 => ?_)
          · refine h_aload_n hC dX5_enter_110 rfl ?_
            refine h_get hC fl_X5_24 (I67.1.o 7 (by decide)) rfl dX5_enter_111 ?_
            refine h_aload_n hC dX5_enter_114 rfl ?_
            refine h_get hC fl_X5_24 (I67.1.o 7 (by decide)) rfl dX5_enter_115 ?_
            refine hi_size (j := 42) hC hr o68 I67.1 (by decide) cl_X5_207 rfl (Nat.le_of_ble_eq_true rfl) (hFr_of (Nat.le_of_ble_eq_true rfl) (Nat.le_of_ble_eq_true rfl)) dX5_enter_118 ?_
            refine h_iload_n hC dX5_enter_121 rfl ?_
            refine h_isub hC dX5_enter_122 ?_
            refine h_vi (fun x76 ex76 => ?_)
            refine hi_cut (j := 42) hC hr o68 I67 (by decide) cl_X5_134 rfl (Nat.le_of_ble_eq_true rfl) (hFr_of (Nat.le_of_ble_eq_true rfl) (Nat.le_of_ble_eq_true rfl)) dX5_enter_123 (fun F77 S78 I79 K80 s81 a82 => ?_)
            have m83 : gSm S S78 [38, 39, 40, 41, 42, 43, 44, 45] [25, 26, 27, 28, 29, 30, 31, 32, 33, 34, 35, 36] := m70.tr s81 _ _ rfl rfl
            have K84 := K69.tr K80
            have NS78 : sN S78 45 = sN S66 45 := s81.n 45 (by decide)
            have ZS78 : sZ S78 43 = sZ S66 43 := s81.z 43 (by decide)
            have Pa82 : gPsi S78 ≤ gPsi S66 := a82.2.2.2.2.2
            refine h_aload_n hC dX5_enter_126 rfl ?_
            refine h_get hC fl_X5_28 (I79.1.o 7 (by decide)) rfl dX5_enter_127 ?_
            refine h_aload_n hC dX5_enter_130 rfl ?_
            refine h_get hC fl_X5_39 (I79.1.o 7 (by decide)) rfl dX5_enter_131 ?_
            refine hi_add (j := 43) hC hr o68 I79 (by decide) ⟨fun q => absurd q (by decide), fun q => by omega, by omega⟩ cl_X5_140 rfl (Nat.le_of_ble_eq_true rfl) (hFr_of (Nat.le_of_ble_eq_true rfl) (Nat.le_of_ble_eq_true rfl)) dX5_enter_134 (fun u92 S86 I87 o91 K88 s89 a90 => ?_)
            have m93 : gSm S S86 [38, 39, 40, 41, 42, 43, 44, 45] [25, 26, 27, 28, 29, 30, 31, 32, 33, 34, 35, 36] := m83.tr s89 _ _ rfl rfl
            have K94 := K84.tr K88
            have NS86 : sN S86 45 = sN S78 45 := s89.n 45 (by decide)
            have Pa90 : gPsi S86 = gPsi S78 := a90.2.2.2 (by decide)
            have ZS86 : sZ S86 43 = sZ S78 43 + 1 := (a90.1 (Nat.lt_of_le_of_lt (by omega : sZ S78 43 ≤ 500) (by decide))).1
            refine h_aload_n hC dX5_enter_137 rfl ?_
            refine h_get hC fl_X5_28 (I87.1.o 7 (by decide)) rfl dX5_enter_138 ?_
            refine h_aload_n hC dX5_enter_141 rfl ?_
            refine h_get hC fl_X5_42 (I87.1.o 7 (by decide)) rfl dX5_enter_142 ?_
            refine hi_add (j := 43) hC hr o91 I87 (by decide) ⟨fun q => absurd q (by decide), fun q => by omega, by omega⟩ cl_X5_140 rfl (Nat.le_of_ble_eq_true rfl) (hFr_of (Nat.le_of_ble_eq_true rfl) (Nat.le_of_ble_eq_true rfl)) dX5_enter_145 (fun u102 S96 I97 o101 K98 s99 a100 => ?_)
            have m103 : gSm S S96 [38, 39, 40, 41, 42, 43, 44, 45] [25, 26, 27, 28, 29, 30, 31, 32, 33, 34, 35, 36] := m93.tr s99 _ _ rfl rfl
            have K104 := K94.tr K98
            have NS96 : sN S96 45 = sN S86 45 := s99.n 45 (by decide)
            have Pa100 : gPsi S96 = gPsi S86 := a100.2.2.2 (by decide)
            have ZS96 : sZ S96 43 = sZ S86 43 + 1 := (a100.1 (Nat.lt_of_le_of_lt (by omega : sZ S86 43 ≤ 500) (by decide))).1
            refine h_aload_n hC dX5_enter_148 rfl ?_
            refine h_get hC fl_X5_28 (I97.1.o 7 (by decide)) rfl dX5_enter_149 ?_
            refine h_aload_n hC dX5_enter_152 rfl ?_
            refine h_get hC fl_X5_45 (I97.1.o 7 (by decide)) rfl dX5_enter_153 ?_
            refine hi_add (j := 43) hC hr o101 I97 (by decide) ⟨fun q => absurd q (by decide), fun q => by omega, by omega⟩ cl_X5_140 rfl (Nat.le_of_ble_eq_true rfl) (hFr_of (Nat.le_of_ble_eq_true rfl) (Nat.le_of_ble_eq_true rfl)) dX5_enter_156 (fun u112 S106 I107 o111 K108 s109 a110 => ?_)
            have m113 : gSm S S106 [38, 39, 40, 41, 42, 43, 44, 45] [25, 26, 27, 28, 29, 30, 31, 32, 33, 34, 35, 36] := m103.tr s109 _ _ rfl rfl
            have K114 := K104.tr K108
            have NS106 : sN S106 45 = sN S96 45 := s109.n 45 (by decide)
            have Pa110 : gPsi S106 = gPsi S96 := a110.2.2.2 (by decide)
            have ZS106 : sZ S106 43 = sZ S96 43 + 1 := (a110.1 (Nat.lt_of_le_of_lt (by omega : sZ S96 43 ≤ 500) (by decide))).1
            refine h_aload_n hC dX5_enter_159 rfl ?_
            refine h_get hC fl_X5_28 (I107.1.o 7 (by decide)) rfl dX5_enter_160 ?_
            refine h_aload_n hC dX5_enter_163 rfl ?_
            refine h_get hC fl_X5_24 (I107.1.o 7 (by decide)) rfl dX5_enter_164 ?_
            refine hi_size (j := 42) hC hr o111 I107.1 (by decide) cl_X5_207 rfl (Nat.le_of_ble_eq_true rfl) (hFr_of (Nat.le_of_ble_eq_true rfl) (Nat.le_of_ble_eq_true rfl)) dX5_enter_167 ?_
            refine hi_add (j := 43) hC hr o111 I107 (by decide) ⟨fun q => absurd q (by decide), fun q => by omega, by omega⟩ cl_X5_140 rfl (Nat.le_of_ble_eq_true rfl) (hFr_of (Nat.le_of_ble_eq_true rfl) (Nat.le_of_ble_eq_true rfl)) dX5_enter_170 (fun u122 S116 I117 o121 K118 s119 a120 => ?_)
            have m123 : gSm S S116 [38, 39, 40, 41, 42, 43, 44, 45] [25, 26, 27, 28, 29, 30, 31, 32, 33, 34, 35, 36] := m113.tr s119 _ _ rfl rfl
            have K124 := K114.tr K118
            have NS116 : sN S116 45 = sN S106 45 := s119.n 45 (by decide)
            have Pa120 : gPsi S116 = gPsi S106 := a120.2.2.2 (by decide)
            have ZS116 : sZ S116 43 = sZ S106 43 + 1 := (a120.1 (Nat.lt_of_le_of_lt (by omega : sZ S106 43 ≤ 500) (by decide))).1
            refine h_aload_n hC dX5_enter_173 rfl ?_
            refine h_iload_n hC dX5_enter_174 rfl ?_
            refine hi_putx (i := 7) (kx := 29) hC I117 (by decide) fl_X5_42 rfl rfl rfl (Nat.le_of_ble_eq_true rfl) rfl gsame_29 (fun q => absurd q (by decide)) dX5_enter_175 (fun F125 S126 I127 K128 s129 v130 p131 => ?_)
            have m132 : gSm S S126 [38, 39, 40, 41, 42, 43, 44, 45] [25, 26, 27, 28, 29, 30, 31, 32, 33, 34, 35, 36] := m123.tr s129 _ _ rfl rfl
            have K133 := K124.tr K128
            have NS126 : sN S126 45 = sN S116 45 := s129.n 45 (by decide)
            have ZS126 : sZ S126 43 = sZ S116 43 := s129.z 43 (by decide)
            refine h_aload_n hC dX5_enter_178 rfl ?_
            refine h_iload_n hC dX5_enter_179 rfl ?_
            refine hi_putx (i := 7) (kx := 30) hC I127 (by decide) fl_X5_45 rfl rfl rfl (Nat.le_of_ble_eq_true rfl) rfl gsame_30 (fun q => absurd q (by decide)) dX5_enter_180 (fun F134 S135 I136 K137 s138 v139 p140 => ?_)
            have m141 : gSm S S135 [38, 39, 40, 41, 42, 43, 44, 45] [25, 26, 27, 28, 29, 30, 31, 32, 33, 34, 35, 36] := m132.tr s138 _ _ rfl rfl
            have K142 := K133.tr K137
            have NS135 : sN S135 45 = sN S126 45 := s138.n 45 (by decide)
            have ZS135 : sZ S135 43 = sZ S126 43 := s138.z 43 (by decide)
            refine h_aload_n hC dX5_enter_183 rfl ?_
            refine h_aload_n hC dX5_enter_184 rfl ?_
            refine h_get hC fl_X5_67 (I136.1.o 7 (by decide)) rfl dX5_enter_185 ?_
            refine h_iload_n hC dX5_enter_188 rfl ?_
            refine g_callVi (As := [.int x]) hC rfl (I136.1.o 1 (by decide)) (p_P_begin X.la d b Y _ S135 I136.1 x) cl_X5_222 rfl rfl (Nat.le_of_ble_eq_true rfl) (h_fit0 hC hr o121 (hFr_of (Nat.le_of_ble_eq_true rfl) (Nat.le_of_ble_eq_true rfl))) dX5_enter_189 (fun r143 F144 p145 => ?_)
            obtain ⟨er143, eF144⟩ := p145; have eF144 := eF144.symm; subst eF144
            refine h_same hC o121 ?_
            refine hi_putx (i := 7) (kx := 28) hC I136 (by decide) fl_X5_39 rfl rfl rfl (Nat.le_of_ble_eq_true rfl) rfl gsame_28 (fun q => absurd q (by decide)) dX5_enter_192 (fun F147 S148 I149 K150 s151 v152 p153 => ?_)
            have m154 : gSm S S148 [38, 39, 40, 41, 42, 43, 44, 45] [25, 26, 27, 28, 29, 30, 31, 32, 33, 34, 35, 36] := m141.tr s151 _ _ rfl rfl
            have K155 := K142.tr K150
            have NS148 : sN S148 45 = sN S135 45 := s151.n 45 (by decide)
            have ZS148 : sZ S148 43 = sZ S135 43 := s151.z 43 (by decide)
            exact h_vret hC hr o121 rfl rfl ⟨S148, I149, K155, m154, by omega, by omega, by omega⟩ dX5_enter_195
          · have hlt := nI_ltP (by omega) c75
            refine h_aload_n hC dX5_enter_87 rfl ?_
            refine h_iload_n hC dX5_enter_88 rfl ?_
            refine h_iconst (v := 2) hC dX5_enter_89 rfl ?_
            refine h_iadd hC dX5_enter_90 ?_
            refine h_vi (fun x156 ex156 => ?_)
            refine h_iload hC dX5_enter_91 rfl ?_
            refine h_iadd hC dX5_enter_93 ?_
            refine h_vi (fun x157 ex157 => ?_)
            refine h_aload_n hC dX5_enter_94 rfl ?_
            refine h_iload hC dX5_enter_95 rfl ?_
            refine h_iload_n hC dX5_enter_97 rfl ?_
            refine h_callVi (As := [.int (nI j62), .int y]) hC hr o68 rfl (I67.1.o 7 (by decide)) (s_M_argument X.la d b Y c _ _ _ I67 (nI j62) y) cl_X5_219 rfl rfl (Nat.le_of_ble_eq_true rfl) (hFr_of (Nat.le_of_ble_eq_true rfl) (Nat.le_of_ble_eq_true rfl)) dX5_enter_98 (fun r161 u158 p159 o160 => ?_)
            obtain ⟨q162, rfl⟩ := p159
            refine h_callVv (As := [.int x157, .int r161]) hC hr o160 rfl (I67.1.o 7 (by decide)) (s_M_put X.la d b Y c _ _ _ I67 (by omega) (by omega) x157 r161) cl_X5_123 rfl rfl (Nat.le_of_ble_eq_true rfl) (hFr_of (Nat.le_of_ble_eq_true rfl) (Nat.le_of_ble_eq_true rfl)) dX5_enter_101 (fun u163 p164 o165 => ?_)
            obtain ⟨S167, I168, K169, s170, q171⟩ := p164
            have m172 : gSm S S167 [38, 39, 40, 41, 42, 43, 44, 45] [25, 26, 27, 28, 29, 30, 31, 32, 33, 34, 35, 36] := m70.tr s170 _ _ rfl rfl
            have K173 := K69.tr K169
            have ZS167 : sZ S167 43 = sZ S66 43 := s170.z 43 (by decide)
            obtain ⟨aq171, bq171, nq171⟩ := q171
            obtain ⟨x174, ex174⟩ : ∃ y : Int32, y = (nI j62) + 1 := ⟨_, rfl⟩
            refine h_iinc (v := x174) (lv' := [some (.ref (gO' Y 7)), some (.int x), some (.int y), some (.int z), some (.int x174)]) hC dX5_enter_104 rfl (by rw [ex174]; rfl) rfl rfl ?_
            refine h_goto (tgt := 74) hC dX5_enter_107 (by decide) ?_
            have zJx174 : x174 = nI (j62 + 1) := by rw [ex174]; exact nI_suc
            subst zJx174
            refine h_lv (lv' := [some (.ref (gO' Y 7)), some (.int x), some (.int y), some (.int z), some (.int (nI (j62 + 1)))]) (by repeat (first | exact trivial | refine ⟨rfl, ?_⟩ | exact trivial)) ?_
            exact ih63 (m61 - 1) (by omega) (j62 + 1) (by omega) _ S167  I168 o165 K173 m172 (by omega) (by omega) (by omega)
        refine h_lv (lv' := [some (.ref (gO' Y 7)), some (.int x), some (.int y), some (.int z), some (.int 0)]) (by repeat (first | exact trivial | refine ⟨rfl, ?_⟩ | exact trivial)) ?_
        exact L60 (2147483647 - 0) 0 (by omega) (u49.1, u49.2.1, u49.2.2) S53  I54 o51 K59 m58 (by omega) (by omega) (by omega)
      · refine h_aload_n hC dX5_enter_45 rfl ?_
        refine h_iconst (v := 5) hC dX5_enter_46 rfl ?_
        refine h_callVv (As := [.int 5]) hC hr o32 rfl (I6.1.o 7 (by decide)) (s_M_fail X.la d b Y c _ _ _ I6 (by omega) (by omega) 5) cl_X5_137 rfl rfl (Nat.le_of_ble_eq_true rfl) (hFr_of (Nat.le_of_ble_eq_true rfl) (Nat.le_of_ble_eq_true rfl)) dX5_enter_47 (fun u175 p176 o177 => ?_)
        obtain ⟨S179, I180, K181, s182, q183⟩ := p176
        have m184 : gSm S S179 [38, 39, 40, 41, 42, 43, 44, 45] [25, 26, 27, 28, 29, 30, 31, 32, 33, 34, 35, 36] := m10.tr s182 _ _ rfl rfl
        have K185 := K7.tr K181
        have ZS179 : sZ S179 43 = sZ S5 43 := s182.z 43 (by decide)
        obtain ⟨aq183, bq183, nq183⟩ := q183
        exact h_vret hC hr o177 rfl rfl ⟨S179, I180, K185, m184, by omega, by omega, by omega⟩ dX5_enter_50
  · exact h_vret hC hr o3 rfl rfl ⟨S5, I6, K7, m10, by omega, by omega, by omega⟩ dX5_enter_7
theorem dX5_apply_0 : decode cX5_apply 0 = .ok (.aload_n 0, 1) := by decide +kernel
theorem dX5_apply_1 : decode cX5_apply 1 = .ok (.iconst 0, 1) := by decide +kernel
theorem dX5_apply_2 : decode cX5_apply 2 = .ok (.iload_n 1, 1) := by decide +kernel
theorem dX5_apply_3 : decode cX5_apply 3 = .ok (.invokevirtual 219, 3) := by decide +kernel
theorem dX5_apply_6 : decode cX5_apply 6 = .ok (.istore_n 3, 1) := by decide +kernel
theorem dX5_apply_7 : decode cX5_apply 7 = .ok (.aload_n 0, 1) := by decide +kernel
theorem dX5_apply_8 : decode cX5_apply 8 = .ok (.iconst 1, 1) := by decide +kernel
theorem dX5_apply_9 : decode cX5_apply 9 = .ok (.iload_n 1, 1) := by decide +kernel
theorem dX5_apply_10 : decode cX5_apply 10 = .ok (.invokevirtual 219, 3) := by decide +kernel
theorem dX5_apply_13 : decode cX5_apply 13 = .ok (.istore 4, 2) := by decide +kernel
theorem dX5_apply_15 : decode cX5_apply 15 = .ok (.iload_n 3, 1) := by decide +kernel
theorem dX5_apply_16 : decode cX5_apply 16 = .ok (.ldc 20, 2) := by decide +kernel
theorem dX5_apply_18 : decode cX5_apply 18 = .ok (.aload_n 0, 1) := by decide +kernel
theorem dX5_apply_19 : decode cX5_apply 19 = .ok (.getfield 67, 3) := by decide +kernel
theorem dX5_apply_22 : decode cX5_apply 22 = .ok (.invokevirtual 196, 3) := by decide +kernel
theorem dX5_apply_25 : decode cX5_apply 25 = .ok (.invokestatic 199, 3) := by decide +kernel
theorem dX5_apply_28 : decode cX5_apply 28 = .ok (.istore 5, 2) := by decide +kernel
theorem dX5_apply_30 : decode cX5_apply 30 = .ok (.iload 5, 2) := by decide +kernel
theorem dX5_apply_32 : decode cX5_apply 32 = .ok (.ifCond .ne 22, 3) := by decide +kernel
theorem dX5_apply_35 : decode cX5_apply 35 = .ok (.iload_n 3, 1) := by decide +kernel
theorem dX5_apply_36 : decode cX5_apply 36 = .ok (.ldc 206, 2) := by decide +kernel
theorem dX5_apply_38 : decode cX5_apply 38 = .ok (.bipush 18, 2) := by decide +kernel
theorem dX5_apply_40 : decode cX5_apply 40 = .ok (.invokestatic 199, 3) := by decide +kernel
theorem dX5_apply_43 : decode cX5_apply 43 = .ok (.ifCond .ne 11, 3) := by decide +kernel
theorem dX5_apply_46 : decode cX5_apply 46 = .ok (.aload_n 0, 1) := by decide +kernel
theorem dX5_apply_47 : decode cX5_apply 47 = .ok (.iconst 4, 1) := by decide +kernel
theorem dX5_apply_48 : decode cX5_apply 48 = .ok (.invokevirtual 137, 3) := by decide +kernel
theorem dX5_apply_51 : decode cX5_apply 51 = .ok (.goto 136, 3) := by decide +kernel
theorem dX5_apply_54 : decode cX5_apply 54 = .ok (.iload 4, 2) := by decide +kernel
theorem dX5_apply_56 : decode cX5_apply 56 = .ok (.ifCond .lt 12, 3) := by decide +kernel
theorem dX5_apply_59 : decode cX5_apply 59 = .ok (.iload 4, 2) := by decide +kernel
theorem dX5_apply_61 : decode cX5_apply 61 = .ok (.aload_n 0, 1) := by decide +kernel
theorem dX5_apply_62 : decode cX5_apply 62 = .ok (.getfield 35, 3) := by decide +kernel
theorem dX5_apply_65 : decode cX5_apply 65 = .ok (.if_icmp .lt 11, 3) := by decide +kernel
theorem dX5_apply_68 : decode cX5_apply 68 = .ok (.aload_n 0, 1) := by decide +kernel
theorem dX5_apply_69 : decode cX5_apply 69 = .ok (.iconst 2, 1) := by decide +kernel
theorem dX5_apply_70 : decode cX5_apply 70 = .ok (.invokevirtual 137, 3) := by decide +kernel
theorem dX5_apply_73 : decode cX5_apply 73 = .ok (.goto 114, 3) := by decide +kernel
theorem dX5_apply_76 : decode cX5_apply 76 = .ok (.aload_n 0, 1) := by decide +kernel
theorem dX5_apply_77 : decode cX5_apply 77 = .ok (.getfield 24, 3) := by decide +kernel
theorem dX5_apply_80 : decode cX5_apply 80 = .ok (.aload_n 0, 1) := by decide +kernel
theorem dX5_apply_81 : decode cX5_apply 81 = .ok (.getfield 24, 3) := by decide +kernel
theorem dX5_apply_84 : decode cX5_apply 84 = .ok (.invokevirtual 207, 3) := by decide +kernel
theorem dX5_apply_87 : decode cX5_apply 87 = .ok (.iload_n 1, 1) := by decide +kernel
theorem dX5_apply_88 : decode cX5_apply 88 = .ok (.isub, 1) := by decide +kernel
theorem dX5_apply_89 : decode cX5_apply 89 = .ok (.invokevirtual 134, 3) := by decide +kernel
theorem dX5_apply_92 : decode cX5_apply 92 = .ok (.aload_n 0, 1) := by decide +kernel
theorem dX5_apply_93 : decode cX5_apply 93 = .ok (.getfield 24, 3) := by decide +kernel
theorem dX5_apply_96 : decode cX5_apply 96 = .ok (.iload_n 2, 1) := by decide +kernel
theorem dX5_apply_97 : decode cX5_apply 97 = .ok (.invokevirtual 140, 3) := by decide +kernel
theorem dX5_apply_100 : decode cX5_apply 100 = .ok (.aload_n 0, 1) := by decide +kernel
theorem dX5_apply_101 : decode cX5_apply 101 = .ok (.getfield 24, 3) := by decide +kernel
theorem dX5_apply_104 : decode cX5_apply 104 = .ok (.iload 4, 2) := by decide +kernel
theorem dX5_apply_106 : decode cX5_apply 106 = .ok (.invokevirtual 140, 3) := by decide +kernel
theorem dX5_apply_109 : decode cX5_apply 109 = .ok (.iload_n 2, 1) := by decide +kernel
theorem dX5_apply_110 : decode cX5_apply 110 = .ok (.iload 4, 2) := by decide +kernel
theorem dX5_apply_112 : decode cX5_apply 112 = .ok (.iadd, 1) := by decide +kernel
theorem dX5_apply_113 : decode cX5_apply 113 = .ok (.iconst 1, 1) := by decide +kernel
theorem dX5_apply_114 : decode cX5_apply 114 = .ok (.iadd, 1) := by decide +kernel
theorem dX5_apply_115 : decode cX5_apply 115 = .ok (.istore 6, 2) := by decide +kernel
theorem dX5_apply_117 : decode cX5_apply 117 = .ok (.iload 5, 2) := by decide +kernel
theorem dX5_apply_119 : decode cX5_apply 119 = .ok (.ifCond .eq 17, 3) := by decide +kernel
theorem dX5_apply_122 : decode cX5_apply 122 = .ok (.aload_n 0, 1) := by decide +kernel
theorem dX5_apply_123 : decode cX5_apply 123 = .ok (.iload_n 3, 1) := by decide +kernel
theorem dX5_apply_124 : decode cX5_apply 124 = .ok (.ldc 20, 2) := by decide +kernel
theorem dX5_apply_126 : decode cX5_apply 126 = .ok (.isub, 1) := by decide +kernel
theorem dX5_apply_127 : decode cX5_apply 127 = .ok (.iconst 2, 1) := by decide +kernel
theorem dX5_apply_128 : decode cX5_apply 128 = .ok (.iload 6, 2) := by decide +kernel
theorem dX5_apply_130 : decode cX5_apply 130 = .ok (.invokevirtual 90, 3) := by decide +kernel
theorem dX5_apply_133 : decode cX5_apply 133 = .ok (.goto 54, 3) := by decide +kernel
theorem dX5_apply_136 : decode cX5_apply 136 = .ok (.iload 6, 2) := by decide +kernel
theorem dX5_apply_138 : decode cX5_apply 138 = .ok (.aload_n 0, 1) := by decide +kernel
theorem dX5_apply_139 : decode cX5_apply 139 = .ok (.getfield 12, 3) := by decide +kernel
theorem dX5_apply_142 : decode cX5_apply 142 = .ok (.aload_n 0, 1) := by decide +kernel
theorem dX5_apply_143 : decode cX5_apply 143 = .ok (.getfield 35, 3) := by decide +kernel
theorem dX5_apply_146 : decode cX5_apply 146 = .ok (.invokevirtual 213, 3) := by decide +kernel
theorem dX5_apply_149 : decode cX5_apply 149 = .ok (.if_icmp .le 11, 3) := by decide +kernel
theorem dX5_apply_152 : decode cX5_apply 152 = .ok (.aload_n 0, 1) := by decide +kernel
theorem dX5_apply_153 : decode cX5_apply 153 = .ok (.iconst 5, 1) := by decide +kernel
theorem dX5_apply_154 : decode cX5_apply 154 = .ok (.invokevirtual 137, 3) := by decide +kernel
theorem dX5_apply_157 : decode cX5_apply 157 = .ok (.goto 30, 3) := by decide +kernel
theorem dX5_apply_160 : decode cX5_apply 160 = .ok (.iload_n 3, 1) := by decide +kernel
theorem dX5_apply_161 : decode cX5_apply 161 = .ok (.ldc 202, 2) := by decide +kernel
theorem dX5_apply_163 : decode cX5_apply 163 = .ok (.if_icmp .ne 11, 3) := by decide +kernel
theorem dX5_apply_166 : decode cX5_apply 166 = .ok (.aload_n 0, 1) := by decide +kernel
theorem dX5_apply_167 : decode cX5_apply 167 = .ok (.iconst 4, 1) := by decide +kernel
theorem dX5_apply_168 : decode cX5_apply 168 = .ok (.invokevirtual 137, 3) := by decide +kernel
theorem dX5_apply_171 : decode cX5_apply 171 = .ok (.goto 16, 3) := by decide +kernel
theorem dX5_apply_174 : decode cX5_apply 174 = .ok (.aload_n 0, 1) := by decide +kernel
theorem dX5_apply_175 : decode cX5_apply 175 = .ok (.iload_n 3, 1) := by decide +kernel
theorem dX5_apply_176 : decode cX5_apply 176 = .ok (.ldc 206, 2) := by decide +kernel
theorem dX5_apply_178 : decode cX5_apply 178 = .ok (.isub, 1) := by decide +kernel
theorem dX5_apply_179 : decode cX5_apply 179 = .ok (.putfield 61, 3) := by decide +kernel
theorem dX5_apply_182 : decode cX5_apply 182 = .ok (.aload_n 0, 1) := by decide +kernel
theorem dX5_apply_183 : decode cX5_apply 183 = .ok (.iconst 2, 1) := by decide +kernel
theorem dX5_apply_184 : decode cX5_apply 184 = .ok (.putfield 64, 3) := by decide +kernel
theorem dX5_apply_187 : decode cX5_apply 187 = .ok (.return_, 1) := by decide +kernel
set_option maxHeartbeats 4000000 in
set_option maxRecDepth 100000 in
theorem s_M_apply (l : Launch) (d : gD) (b : Nat) (Y : gYt) (c : Nat × Nat) (F : gM) (k n : Nat) {S : gSt} (hi : hI d b Y c (F, k, n) S) (hA : gPsi S ≤ gAm) (h43 : sZ S 43 ≤ 404) (x y : Int32) : hMv l d b yX5_apply cX5_apply 7 6 k n F [.ref (gO' Y 7), .int x, .int y] (fun u => ∃ S', hI d b Y c u S' ∧ gKp Y F u.1 ∧ gSm S S' [38, 39, 40, 41, 42, 43, 44, 45] [25, 26, 27, 28, 29, 30, 31, 32, 33, 34, 35, 36] ∧ sZ S' 43 ≤ 404 ∧ gPsi S' ≤ gPsi S ∧ sN S' 45 = sN S 45) := by
  intro mc ms
  refine hM_of2 rfl (nL := 7) (Nat.le_of_ble_eq_true rfl) ?_
  intro X hX hC hr ho; subst hX
  show hG X d b _ F k n 0 [some (.ref (gO' Y 7)), some (.int x), some (.int y), none, none, none, none] []
  refine h_aload_n hC dX5_apply_0 rfl ?_
  refine h_iconst (v := 0) hC dX5_apply_1 rfl ?_
  refine h_iload_n hC dX5_apply_2 rfl ?_
  refine h_callVi (As := [.int 0, .int x]) hC hr ho rfl (hi.1.o 7 (by decide)) (s_M_argument X.la d b Y c _ _ _ hi 0 x) cl_X5_219 rfl rfl (Nat.le_of_ble_eq_true rfl) (hFr_of (Nat.le_of_ble_eq_true rfl) (Nat.le_of_ble_eq_true rfl)) dX5_apply_3 (fun r4 u1 p2 o3 => ?_)
  obtain ⟨q5, rfl⟩ := p2
  refine h_istore_n (lv' := [some (.ref (gO' Y 7)), some (.int x), some (.int y), some (.int r4), none, none, none]) hC dX5_apply_6 (Nat.le_of_ble_eq_true rfl) rfl rfl ?_
  refine h_aload_n hC dX5_apply_7 rfl ?_
  refine h_iconst (v := 1) hC dX5_apply_8 rfl ?_
  refine h_iload_n hC dX5_apply_9 rfl ?_
  refine h_callVi (As := [.int 1, .int x]) hC hr o3 rfl (hi.1.o 7 (by decide)) (s_M_argument X.la d b Y c _ _ _ hi 1 x) cl_X5_219 rfl rfl (Nat.le_of_ble_eq_true rfl) (hFr_of (Nat.le_of_ble_eq_true rfl) (Nat.le_of_ble_eq_true rfl)) dX5_apply_10 (fun r9 u6 p7 o8 => ?_)
  obtain ⟨q10, rfl⟩ := p7
  refine h_istore (lv' := [some (.ref (gO' Y 7)), some (.int x), some (.int y), some (.int r4), some (.int r9), none, none]) hC dX5_apply_13 (Nat.le_of_ble_eq_true rfl) rfl rfl ?_
  refine h_iload_n hC dX5_apply_15 rfl ?_
  refine h_ldc hC dX5_apply_16 kw_748 ?_
  refine h_aload_n hC dX5_apply_18 rfl ?_
  refine h_get hC fl_X5_67 (hi.1.o 7 (by decide)) rfl dX5_apply_19 ?_
  refine g_callVi (As := []) hC rfl (hi.1.o 1 (by decide)) (p_P_routines X.la d b Y _ S hi.1 ) cl_X5_196 rfl rfl (Nat.le_of_ble_eq_true rfl) (h_fit0 hC hr o8 (hFr_of (Nat.le_of_ble_eq_true rfl) (Nat.le_of_ble_eq_true rfl))) dX5_apply_22 (fun r11 F12 p13 => ?_)
  obtain ⟨er11, eF12⟩ := p13; have eF12 := eF12.symm; subst eF12
  refine h_same hC o8 ?_
  refine g_callSi (As := [.int r4, .int 1000000, .int r11]) hC (t_isBetween X.la d b _ r4 1000000 r11) cl_X5_199 rfl rfl (Nat.le_of_ble_eq_true rfl) (h_fit0 hC hr o8 (hFr_of (Nat.le_of_ble_eq_true rfl) (Nat.le_of_ble_eq_true rfl))) dX5_apply_25 (fun r15 F16 p17 => ?_)
  obtain ⟨er15, eF16⟩ := p17; have eF16 := eF16.symm; subst eF16
  refine h_same hC o8 ?_
  refine h_istore (lv' := [some (.ref (gO' Y 7)), some (.int x), some (.int y), some (.int r4), some (.int r9), some (.int r15), none]) hC dX5_apply_28 (Nat.le_of_ble_eq_true rfl) rfl rfl ?_
  refine h_iload hC dX5_apply_30 rfl ?_
  refine h_if_ne (tgt := 54) hC dX5_apply_32 (by decide) (fun c19 => ?_) (fun c19 => ?_)
  · refine h_iload hC dX5_apply_54 rfl ?_
    refine h_if_lt (tgt := 68) hC dX5_apply_56 (by decide) (fun c20 => ?_) (fun c20 => ?_)
    · refine h_aload_n hC dX5_apply_68 rfl ?_
      refine h_iconst (v := 2) hC dX5_apply_69 rfl ?_
      refine h_callVv (As := [.int 2]) hC hr o8 rfl (hi.1.o 7 (by decide)) (s_M_fail X.la d b Y c _ _ _ hi (by omega) (by omega) 2) cl_X5_137 rfl rfl (Nat.le_of_ble_eq_true rfl) (hFr_of (Nat.le_of_ble_eq_true rfl) (Nat.le_of_ble_eq_true rfl)) dX5_apply_70 (fun u21 p22 o23 => ?_)
      obtain ⟨S25, I26, K27, s28, q29⟩ := p22
      have m30 : gSm S S25 [38, 39, 40, 41, 42, 43, 44, 45] [25, 26, 27, 28, 29, 30, 31, 32, 33, 34, 35, 36] := gSm.wk s28 _ _ rfl rfl
      have ZS25 : sZ S25 43 = sZ S 43 := s28.z 43 (by decide)
      obtain ⟨aq29, bq29, nq29⟩ := q29
      refine h_goto (tgt := 187) hC dX5_apply_73 (by decide) ?_
      exact h_vret hC hr o23 rfl rfl ⟨S25, I26, K27, m30, by omega, by omega, by omega⟩ dX5_apply_187
    · refine h_iload hC dX5_apply_59 rfl ?_
      refine h_aload_n hC dX5_apply_61 rfl ?_
      refine h_get hC fl_X5_35 (hi.1.o 7 (by decide)) rfl dX5_apply_62 ?_
      refine h_icmp_lt (tgt := 76) hC dX5_apply_65 (by decide) (fun c32 => ?_) (fun c32 => ?_)
      · refine h_aload_n hC dX5_apply_76 rfl ?_
        refine h_get hC fl_X5_24 (hi.1.o 7 (by decide)) rfl dX5_apply_77 ?_
        refine h_aload_n hC dX5_apply_80 rfl ?_
        refine h_get hC fl_X5_24 (hi.1.o 7 (by decide)) rfl dX5_apply_81 ?_
        refine hi_size (j := 42) hC hr o8 hi.1 (by decide) cl_X5_207 rfl (Nat.le_of_ble_eq_true rfl) (hFr_of (Nat.le_of_ble_eq_true rfl) (Nat.le_of_ble_eq_true rfl)) dX5_apply_84 ?_
        refine h_iload_n hC dX5_apply_87 rfl ?_
        refine h_isub hC dX5_apply_88 ?_
        refine h_vi (fun x33 ex33 => ?_)
        refine hi_cut (j := 42) hC hr o8 hi (by decide) cl_X5_134 rfl (Nat.le_of_ble_eq_true rfl) (hFr_of (Nat.le_of_ble_eq_true rfl) (Nat.le_of_ble_eq_true rfl)) dX5_apply_89 (fun F34 S35 I36 K37 s38 a39 => ?_)
        have m40 : gSm S S35 [38, 39, 40, 41, 42, 43, 44, 45] [25, 26, 27, 28, 29, 30, 31, 32, 33, 34, 35, 36] := gSm.wk s38 _ _ rfl rfl
        have NS35 : sN S35 45 = sN S 45 := s38.n 45 (by decide)
        have ZS35 : sZ S35 43 = sZ S 43 := s38.z 43 (by decide)
        have Pa39 : gPsi S35 ≤ gPsi S := a39.2.2.2.2.2
        refine h_aload_n hC dX5_apply_92 rfl ?_
        refine h_get hC fl_X5_24 (I36.1.o 7 (by decide)) rfl dX5_apply_93 ?_
        refine h_iload_n hC dX5_apply_96 rfl ?_
        refine hi_add (j := 42) hC hr o8 I36 (by decide) ⟨fun q => absurd q (by decide), fun q => absurd q (by decide), by omega⟩ cl_X5_140 rfl (Nat.le_of_ble_eq_true rfl) (hFr_of (Nat.le_of_ble_eq_true rfl) (Nat.le_of_ble_eq_true rfl)) dX5_apply_97 (fun u49 S43 I44 o48 K45 s46 a47 => ?_)
        have m50 : gSm S S43 [38, 39, 40, 41, 42, 43, 44, 45] [25, 26, 27, 28, 29, 30, 31, 32, 33, 34, 35, 36] := m40.tr s46 _ _ rfl rfl
        have K51 := K37.tr K45
        have NS43 : sN S43 45 = sN S35 45 := s46.n 45 (by decide)
        have ZS43 : sZ S43 43 = sZ S35 43 := s46.z 43 (by decide)
        have Pa47 : gPsi S43 = gPsi S35 := a47.2.2.2 (by decide)
        refine h_aload_n hC dX5_apply_100 rfl ?_
        refine h_get hC fl_X5_24 (I44.1.o 7 (by decide)) rfl dX5_apply_101 ?_
        refine h_iload hC dX5_apply_104 rfl ?_
        refine hi_add (j := 42) hC hr o48 I44 (by decide) ⟨fun q => absurd q (by decide), fun q => absurd q (by decide), by omega⟩ cl_X5_140 rfl (Nat.le_of_ble_eq_true rfl) (hFr_of (Nat.le_of_ble_eq_true rfl) (Nat.le_of_ble_eq_true rfl)) dX5_apply_106 (fun u59 S53 I54 o58 K55 s56 a57 => ?_)
        have m60 : gSm S S53 [38, 39, 40, 41, 42, 43, 44, 45] [25, 26, 27, 28, 29, 30, 31, 32, 33, 34, 35, 36] := m50.tr s56 _ _ rfl rfl
        have K61 := K51.tr K55
        have NS53 : sN S53 45 = sN S43 45 := s56.n 45 (by decide)
        have ZS53 : sZ S53 43 = sZ S43 43 := s56.z 43 (by decide)
        have Pa57 : gPsi S53 = gPsi S43 := a57.2.2.2 (by decide)
        refine h_iload_n hC dX5_apply_109 rfl ?_
        refine h_iload hC dX5_apply_110 rfl ?_
        refine h_iadd hC dX5_apply_112 ?_
        refine h_vi (fun x62 ex62 => ?_)
        refine h_iconst (v := 1) hC dX5_apply_113 rfl ?_
        refine h_iadd hC dX5_apply_114 ?_
        refine h_vi (fun x63 ex63 => ?_)
        refine h_istore (lv' := [some (.ref (gO' Y 7)), some (.int x), some (.int y), some (.int r4), some (.int r9), some (.int r15), some (.int x63)]) hC dX5_apply_115 (Nat.le_of_ble_eq_true rfl) rfl rfl ?_
        refine h_iload hC dX5_apply_117 rfl ?_
        refine h_if_eq (tgt := 136) hC dX5_apply_119 (by decide) (fun c64 => ?_) (fun c64 => ?_)
        · refine h_iload hC dX5_apply_136 rfl ?_
          refine h_aload_n hC dX5_apply_138 rfl ?_
          refine h_get hC fl_X5_12 (I54.1.o 7 (by decide)) rfl dX5_apply_139 ?_
          refine h_aload_n hC dX5_apply_142 rfl ?_
          refine h_get hC fl_X5_35 (I54.1.o 7 (by decide)) rfl dX5_apply_143 ?_
          refine h_callVi (As := [.int (sV S53 27)]) hC hr o58 rfl (I54.1.o 10 (by decide)) (s_H_limit X.la d b Y c _ _ _ I54 (sV S53 27)) cl_X5_213 rfl rfl (Nat.le_of_ble_eq_true rfl) (hFr_of (Nat.le_of_ble_eq_true rfl) (Nat.le_of_ble_eq_true rfl)) dX5_apply_146 (fun r68 u65 p66 o67 => ?_)
          obtain ⟨q69, rfl⟩ := p66
          refine h_icmp_le (tgt := 160) hC dX5_apply_149 (by decide) (fun c70 => ?_) (fun c70 => ?_)
          · refine h_iload_n hC dX5_apply_160 rfl ?_
            refine h_ldc hC dX5_apply_161 kw_1766 ?_
            refine h_icmp_ne (tgt := 174) hC dX5_apply_163 (by decide) (fun c71 => ?_) (fun c71 => ?_)
            · refine h_aload_n hC dX5_apply_174 rfl ?_
              refine h_iload_n hC dX5_apply_175 rfl ?_
              refine h_ldc hC dX5_apply_176 kw_1771 ?_
              refine h_isub hC dX5_apply_178 ?_
              refine h_vi (fun x72 ex72 => ?_)
              refine hi_putx (i := 7) (kx := 35) hC I54 (by decide) fl_X5_61 rfl rfl rfl (Nat.le_of_ble_eq_true rfl) rfl gsame_35 (fun q => absurd q (by decide)) dX5_apply_179 (fun F73 S74 I75 K76 s77 v78 p79 => ?_)
              have m80 : gSm S S74 [38, 39, 40, 41, 42, 43, 44, 45] [25, 26, 27, 28, 29, 30, 31, 32, 33, 34, 35, 36] := m60.tr s77 _ _ rfl rfl
              have K81 := K61.tr K76
              have NS74 : sN S74 45 = sN S53 45 := s77.n 45 (by decide)
              have ZS74 : sZ S74 43 = sZ S53 43 := s77.z 43 (by decide)
              refine h_aload_n hC dX5_apply_182 rfl ?_
              refine h_iconst (v := 2) hC dX5_apply_183 rfl ?_
              refine hi_putx (i := 7) (kx := 36) hC I75 (by decide) fl_X5_64 rfl rfl rfl (Nat.le_of_ble_eq_true rfl) rfl gsame_36 (fun q => absurd q (by decide)) dX5_apply_184 (fun F82 S83 I84 K85 s86 v87 p88 => ?_)
              have m89 : gSm S S83 [38, 39, 40, 41, 42, 43, 44, 45] [25, 26, 27, 28, 29, 30, 31, 32, 33, 34, 35, 36] := m80.tr s86 _ _ rfl rfl
              have K90 := K81.tr K85
              have NS83 : sN S83 45 = sN S74 45 := s86.n 45 (by decide)
              have ZS83 : sZ S83 43 = sZ S74 43 := s86.z 43 (by decide)
              exact h_vret hC hr o67 rfl rfl ⟨S83, I84, K90, m89, by omega, by omega, by omega⟩ dX5_apply_187
            · refine h_aload_n hC dX5_apply_166 rfl ?_
              refine h_iconst (v := 4) hC dX5_apply_167 rfl ?_
              refine h_callVv (As := [.int 4]) hC hr o67 rfl (I54.1.o 7 (by decide)) (s_M_fail X.la d b Y c _ _ _ I54 (by omega) (by omega) 4) cl_X5_137 rfl rfl (Nat.le_of_ble_eq_true rfl) (hFr_of (Nat.le_of_ble_eq_true rfl) (Nat.le_of_ble_eq_true rfl)) dX5_apply_168 (fun u91 p92 o93 => ?_)
              obtain ⟨S95, I96, K97, s98, q99⟩ := p92
              have m100 : gSm S S95 [38, 39, 40, 41, 42, 43, 44, 45] [25, 26, 27, 28, 29, 30, 31, 32, 33, 34, 35, 36] := m60.tr s98 _ _ rfl rfl
              have K101 := K61.tr K97
              have ZS95 : sZ S95 43 = sZ S53 43 := s98.z 43 (by decide)
              obtain ⟨aq99, bq99, nq99⟩ := q99
              refine h_goto (tgt := 187) hC dX5_apply_171 (by decide) ?_
              exact h_vret hC hr o93 rfl rfl ⟨S95, I96, K101, m100, by omega, by omega, by omega⟩ dX5_apply_187
          · refine h_aload_n hC dX5_apply_152 rfl ?_
            refine h_iconst (v := 5) hC dX5_apply_153 rfl ?_
            refine h_callVv (As := [.int 5]) hC hr o67 rfl (I54.1.o 7 (by decide)) (s_M_fail X.la d b Y c _ _ _ I54 (by omega) (by omega) 5) cl_X5_137 rfl rfl (Nat.le_of_ble_eq_true rfl) (hFr_of (Nat.le_of_ble_eq_true rfl) (Nat.le_of_ble_eq_true rfl)) dX5_apply_154 (fun u102 p103 o104 => ?_)
            obtain ⟨S106, I107, K108, s109, q110⟩ := p103
            have m111 : gSm S S106 [38, 39, 40, 41, 42, 43, 44, 45] [25, 26, 27, 28, 29, 30, 31, 32, 33, 34, 35, 36] := m60.tr s109 _ _ rfl rfl
            have K112 := K61.tr K108
            have ZS106 : sZ S106 43 = sZ S53 43 := s109.z 43 (by decide)
            obtain ⟨aq110, bq110, nq110⟩ := q110
            refine h_goto (tgt := 187) hC dX5_apply_157 (by decide) ?_
            exact h_vret hC hr o104 rfl rfl ⟨S106, I107, K112, m111, by omega, by omega, by omega⟩ dX5_apply_187
        · refine h_aload_n hC dX5_apply_122 rfl ?_
          refine h_iload_n hC dX5_apply_123 rfl ?_
          refine h_ldc hC dX5_apply_124 kw_748 ?_
          refine h_isub hC dX5_apply_126 ?_
          refine h_vi (fun x113 ex113 => ?_)
          refine h_iconst (v := 2) hC dX5_apply_127 rfl ?_
          refine h_iload hC dX5_apply_128 rfl ?_
          refine h_callVv (As := [.int x113, .int 2, .int x63]) hC hr o58 rfl (I54.1.o 7 (by decide)) (s_M_enter X.la d b Y c _ _ _ I54 (by omega) (by omega) x113 2 x63) cl_X5_90 rfl rfl (Nat.le_of_ble_eq_true rfl) (hFr_of (Nat.le_of_ble_eq_true rfl) (Nat.le_of_ble_eq_true rfl)) dX5_apply_130 (fun u114 p115 o116 => ?_)
          obtain ⟨S118, I119, K120, s121, q122⟩ := p115
          have m123 : gSm S S118 [38, 39, 40, 41, 42, 43, 44, 45] [25, 26, 27, 28, 29, 30, 31, 32, 33, 34, 35, 36] := m60.tr s121 _ _ rfl rfl
          have K124 := K61.tr K120
          obtain ⟨aq122, bq122, nq122⟩ := q122
          refine h_goto (tgt := 187) hC dX5_apply_133 (by decide) ?_
          exact h_vret hC hr o116 rfl rfl ⟨S118, I119, K124, m123, by omega, by omega, by omega⟩ dX5_apply_187
      · refine h_aload_n hC dX5_apply_68 rfl ?_
        refine h_iconst (v := 2) hC dX5_apply_69 rfl ?_
        refine h_callVv (As := [.int 2]) hC hr o8 rfl (hi.1.o 7 (by decide)) (s_M_fail X.la d b Y c _ _ _ hi (by omega) (by omega) 2) cl_X5_137 rfl rfl (Nat.le_of_ble_eq_true rfl) (hFr_of (Nat.le_of_ble_eq_true rfl) (Nat.le_of_ble_eq_true rfl)) dX5_apply_70 (fun u125 p126 o127 => ?_)
        obtain ⟨S129, I130, K131, s132, q133⟩ := p126
        have m134 : gSm S S129 [38, 39, 40, 41, 42, 43, 44, 45] [25, 26, 27, 28, 29, 30, 31, 32, 33, 34, 35, 36] := gSm.wk s132 _ _ rfl rfl
        have ZS129 : sZ S129 43 = sZ S 43 := s132.z 43 (by decide)
        obtain ⟨aq133, bq133, nq133⟩ := q133
        refine h_goto (tgt := 187) hC dX5_apply_73 (by decide) ?_
        exact h_vret hC hr o127 rfl rfl ⟨S129, I130, K131, m134, by omega, by omega, by omega⟩ dX5_apply_187
  · refine h_iload_n hC dX5_apply_35 rfl ?_
    refine h_ldc hC dX5_apply_36 kw_1771 ?_
    refine h_bipush (v := 18) hC dX5_apply_38 rfl ?_
    refine g_callSi (As := [.int r4, .int 2000000, .int 18]) hC (t_isBetween X.la d b _ r4 2000000 18) cl_X5_199 rfl rfl (Nat.le_of_ble_eq_true rfl) (h_fit0 hC hr o8 (hFr_of (Nat.le_of_ble_eq_true rfl) (Nat.le_of_ble_eq_true rfl))) dX5_apply_40 (fun r136 F137 p138 => ?_)
    obtain ⟨er136, eF137⟩ := p138; have eF137 := eF137.symm; subst eF137
    refine h_same hC o8 ?_
    refine h_if_ne (tgt := 54) hC dX5_apply_43 (by decide) (fun c140 => ?_) (fun c140 => ?_)
    · refine h_iload hC dX5_apply_54 rfl ?_
      refine h_if_lt (tgt := 68) hC dX5_apply_56 (by decide) (fun c141 => ?_) (fun c141 => ?_)
      · refine h_aload_n hC dX5_apply_68 rfl ?_
        refine h_iconst (v := 2) hC dX5_apply_69 rfl ?_
        refine h_callVv (As := [.int 2]) hC hr o8 rfl (hi.1.o 7 (by decide)) (s_M_fail X.la d b Y c _ _ _ hi (by omega) (by omega) 2) cl_X5_137 rfl rfl (Nat.le_of_ble_eq_true rfl) (hFr_of (Nat.le_of_ble_eq_true rfl) (Nat.le_of_ble_eq_true rfl)) dX5_apply_70 (fun u142 p143 o144 => ?_)
        obtain ⟨S146, I147, K148, s149, q150⟩ := p143
        have m151 : gSm S S146 [38, 39, 40, 41, 42, 43, 44, 45] [25, 26, 27, 28, 29, 30, 31, 32, 33, 34, 35, 36] := gSm.wk s149 _ _ rfl rfl
        have ZS146 : sZ S146 43 = sZ S 43 := s149.z 43 (by decide)
        obtain ⟨aq150, bq150, nq150⟩ := q150
        refine h_goto (tgt := 187) hC dX5_apply_73 (by decide) ?_
        exact h_vret hC hr o144 rfl rfl ⟨S146, I147, K148, m151, by omega, by omega, by omega⟩ dX5_apply_187
      · refine h_iload hC dX5_apply_59 rfl ?_
        refine h_aload_n hC dX5_apply_61 rfl ?_
        refine h_get hC fl_X5_35 (hi.1.o 7 (by decide)) rfl dX5_apply_62 ?_
        refine h_icmp_lt (tgt := 76) hC dX5_apply_65 (by decide) (fun c153 => ?_) (fun c153 => ?_)
        · refine h_aload_n hC dX5_apply_76 rfl ?_
          refine h_get hC fl_X5_24 (hi.1.o 7 (by decide)) rfl dX5_apply_77 ?_
          refine h_aload_n hC dX5_apply_80 rfl ?_
          refine h_get hC fl_X5_24 (hi.1.o 7 (by decide)) rfl dX5_apply_81 ?_
          refine hi_size (j := 42) hC hr o8 hi.1 (by decide) cl_X5_207 rfl (Nat.le_of_ble_eq_true rfl) (hFr_of (Nat.le_of_ble_eq_true rfl) (Nat.le_of_ble_eq_true rfl)) dX5_apply_84 ?_
          refine h_iload_n hC dX5_apply_87 rfl ?_
          refine h_isub hC dX5_apply_88 ?_
          refine h_vi (fun x154 ex154 => ?_)
          refine hi_cut (j := 42) hC hr o8 hi (by decide) cl_X5_134 rfl (Nat.le_of_ble_eq_true rfl) (hFr_of (Nat.le_of_ble_eq_true rfl) (Nat.le_of_ble_eq_true rfl)) dX5_apply_89 (fun F155 S156 I157 K158 s159 a160 => ?_)
          have m161 : gSm S S156 [38, 39, 40, 41, 42, 43, 44, 45] [25, 26, 27, 28, 29, 30, 31, 32, 33, 34, 35, 36] := gSm.wk s159 _ _ rfl rfl
          have NS156 : sN S156 45 = sN S 45 := s159.n 45 (by decide)
          have ZS156 : sZ S156 43 = sZ S 43 := s159.z 43 (by decide)
          have Pa160 : gPsi S156 ≤ gPsi S := a160.2.2.2.2.2
          refine h_aload_n hC dX5_apply_92 rfl ?_
          refine h_get hC fl_X5_24 (I157.1.o 7 (by decide)) rfl dX5_apply_93 ?_
          refine h_iload_n hC dX5_apply_96 rfl ?_
          refine hi_add (j := 42) hC hr o8 I157 (by decide) ⟨fun q => absurd q (by decide), fun q => absurd q (by decide), by omega⟩ cl_X5_140 rfl (Nat.le_of_ble_eq_true rfl) (hFr_of (Nat.le_of_ble_eq_true rfl) (Nat.le_of_ble_eq_true rfl)) dX5_apply_97 (fun u170 S164 I165 o169 K166 s167 a168 => ?_)
          have m171 : gSm S S164 [38, 39, 40, 41, 42, 43, 44, 45] [25, 26, 27, 28, 29, 30, 31, 32, 33, 34, 35, 36] := m161.tr s167 _ _ rfl rfl
          have K172 := K158.tr K166
          have NS164 : sN S164 45 = sN S156 45 := s167.n 45 (by decide)
          have ZS164 : sZ S164 43 = sZ S156 43 := s167.z 43 (by decide)
          have Pa168 : gPsi S164 = gPsi S156 := a168.2.2.2 (by decide)
          refine h_aload_n hC dX5_apply_100 rfl ?_
          refine h_get hC fl_X5_24 (I165.1.o 7 (by decide)) rfl dX5_apply_101 ?_
          refine h_iload hC dX5_apply_104 rfl ?_
          refine hi_add (j := 42) hC hr o169 I165 (by decide) ⟨fun q => absurd q (by decide), fun q => absurd q (by decide), by omega⟩ cl_X5_140 rfl (Nat.le_of_ble_eq_true rfl) (hFr_of (Nat.le_of_ble_eq_true rfl) (Nat.le_of_ble_eq_true rfl)) dX5_apply_106 (fun u180 S174 I175 o179 K176 s177 a178 => ?_)
          have m181 : gSm S S174 [38, 39, 40, 41, 42, 43, 44, 45] [25, 26, 27, 28, 29, 30, 31, 32, 33, 34, 35, 36] := m171.tr s177 _ _ rfl rfl
          have K182 := K172.tr K176
          have NS174 : sN S174 45 = sN S164 45 := s177.n 45 (by decide)
          have ZS174 : sZ S174 43 = sZ S164 43 := s177.z 43 (by decide)
          have Pa178 : gPsi S174 = gPsi S164 := a178.2.2.2 (by decide)
          refine h_iload_n hC dX5_apply_109 rfl ?_
          refine h_iload hC dX5_apply_110 rfl ?_
          refine h_iadd hC dX5_apply_112 ?_
          refine h_vi (fun x183 ex183 => ?_)
          refine h_iconst (v := 1) hC dX5_apply_113 rfl ?_
          refine h_iadd hC dX5_apply_114 ?_
          refine h_vi (fun x184 ex184 => ?_)
          refine h_istore (lv' := [some (.ref (gO' Y 7)), some (.int x), some (.int y), some (.int r4), some (.int r9), some (.int r15), some (.int x184)]) hC dX5_apply_115 (Nat.le_of_ble_eq_true rfl) rfl rfl ?_
          refine h_iload hC dX5_apply_117 rfl ?_
          refine h_if_eq (tgt := 136) hC dX5_apply_119 (by decide) (fun c185 => ?_) (fun c185 => ?_)
          · refine h_iload hC dX5_apply_136 rfl ?_
            refine h_aload_n hC dX5_apply_138 rfl ?_
            refine h_get hC fl_X5_12 (I175.1.o 7 (by decide)) rfl dX5_apply_139 ?_
            refine h_aload_n hC dX5_apply_142 rfl ?_
            refine h_get hC fl_X5_35 (I175.1.o 7 (by decide)) rfl dX5_apply_143 ?_
            refine h_callVi (As := [.int (sV S174 27)]) hC hr o179 rfl (I175.1.o 10 (by decide)) (s_H_limit X.la d b Y c _ _ _ I175 (sV S174 27)) cl_X5_213 rfl rfl (Nat.le_of_ble_eq_true rfl) (hFr_of (Nat.le_of_ble_eq_true rfl) (Nat.le_of_ble_eq_true rfl)) dX5_apply_146 (fun r189 u186 p187 o188 => ?_)
            obtain ⟨q190, rfl⟩ := p187
            refine h_icmp_le (tgt := 160) hC dX5_apply_149 (by decide) (fun c191 => ?_) (fun c191 => ?_)
            · refine h_iload_n hC dX5_apply_160 rfl ?_
              refine h_ldc hC dX5_apply_161 kw_1766 ?_
              refine h_icmp_ne (tgt := 174) hC dX5_apply_163 (by decide) (fun c192 => ?_) (fun c192 => ?_)
              · refine h_aload_n hC dX5_apply_174 rfl ?_
                refine h_iload_n hC dX5_apply_175 rfl ?_
                refine h_ldc hC dX5_apply_176 kw_1771 ?_
                refine h_isub hC dX5_apply_178 ?_
                refine h_vi (fun x193 ex193 => ?_)
                refine hi_putx (i := 7) (kx := 35) hC I175 (by decide) fl_X5_61 rfl rfl rfl (Nat.le_of_ble_eq_true rfl) rfl gsame_35 (fun q => absurd q (by decide)) dX5_apply_179 (fun F194 S195 I196 K197 s198 v199 p200 => ?_)
                have m201 : gSm S S195 [38, 39, 40, 41, 42, 43, 44, 45] [25, 26, 27, 28, 29, 30, 31, 32, 33, 34, 35, 36] := m181.tr s198 _ _ rfl rfl
                have K202 := K182.tr K197
                have NS195 : sN S195 45 = sN S174 45 := s198.n 45 (by decide)
                have ZS195 : sZ S195 43 = sZ S174 43 := s198.z 43 (by decide)
                refine h_aload_n hC dX5_apply_182 rfl ?_
                refine h_iconst (v := 2) hC dX5_apply_183 rfl ?_
                refine hi_putx (i := 7) (kx := 36) hC I196 (by decide) fl_X5_64 rfl rfl rfl (Nat.le_of_ble_eq_true rfl) rfl gsame_36 (fun q => absurd q (by decide)) dX5_apply_184 (fun F203 S204 I205 K206 s207 v208 p209 => ?_)
                have m210 : gSm S S204 [38, 39, 40, 41, 42, 43, 44, 45] [25, 26, 27, 28, 29, 30, 31, 32, 33, 34, 35, 36] := m201.tr s207 _ _ rfl rfl
                have K211 := K202.tr K206
                have NS204 : sN S204 45 = sN S195 45 := s207.n 45 (by decide)
                have ZS204 : sZ S204 43 = sZ S195 43 := s207.z 43 (by decide)
                exact h_vret hC hr o188 rfl rfl ⟨S204, I205, K211, m210, by omega, by omega, by omega⟩ dX5_apply_187
              · refine h_aload_n hC dX5_apply_166 rfl ?_
                refine h_iconst (v := 4) hC dX5_apply_167 rfl ?_
                refine h_callVv (As := [.int 4]) hC hr o188 rfl (I175.1.o 7 (by decide)) (s_M_fail X.la d b Y c _ _ _ I175 (by omega) (by omega) 4) cl_X5_137 rfl rfl (Nat.le_of_ble_eq_true rfl) (hFr_of (Nat.le_of_ble_eq_true rfl) (Nat.le_of_ble_eq_true rfl)) dX5_apply_168 (fun u212 p213 o214 => ?_)
                obtain ⟨S216, I217, K218, s219, q220⟩ := p213
                have m221 : gSm S S216 [38, 39, 40, 41, 42, 43, 44, 45] [25, 26, 27, 28, 29, 30, 31, 32, 33, 34, 35, 36] := m181.tr s219 _ _ rfl rfl
                have K222 := K182.tr K218
                have ZS216 : sZ S216 43 = sZ S174 43 := s219.z 43 (by decide)
                obtain ⟨aq220, bq220, nq220⟩ := q220
                refine h_goto (tgt := 187) hC dX5_apply_171 (by decide) ?_
                exact h_vret hC hr o214 rfl rfl ⟨S216, I217, K222, m221, by omega, by omega, by omega⟩ dX5_apply_187
            · refine h_aload_n hC dX5_apply_152 rfl ?_
              refine h_iconst (v := 5) hC dX5_apply_153 rfl ?_
              refine h_callVv (As := [.int 5]) hC hr o188 rfl (I175.1.o 7 (by decide)) (s_M_fail X.la d b Y c _ _ _ I175 (by omega) (by omega) 5) cl_X5_137 rfl rfl (Nat.le_of_ble_eq_true rfl) (hFr_of (Nat.le_of_ble_eq_true rfl) (Nat.le_of_ble_eq_true rfl)) dX5_apply_154 (fun u223 p224 o225 => ?_)
              obtain ⟨S227, I228, K229, s230, q231⟩ := p224
              have m232 : gSm S S227 [38, 39, 40, 41, 42, 43, 44, 45] [25, 26, 27, 28, 29, 30, 31, 32, 33, 34, 35, 36] := m181.tr s230 _ _ rfl rfl
              have K233 := K182.tr K229
              have ZS227 : sZ S227 43 = sZ S174 43 := s230.z 43 (by decide)
              obtain ⟨aq231, bq231, nq231⟩ := q231
              refine h_goto (tgt := 187) hC dX5_apply_157 (by decide) ?_
              exact h_vret hC hr o225 rfl rfl ⟨S227, I228, K233, m232, by omega, by omega, by omega⟩ dX5_apply_187
          · refine h_aload_n hC dX5_apply_122 rfl ?_
            refine h_iload_n hC dX5_apply_123 rfl ?_
            refine h_ldc hC dX5_apply_124 kw_748 ?_
            refine h_isub hC dX5_apply_126 ?_
            refine h_vi (fun x234 ex234 => ?_)
            refine h_iconst (v := 2) hC dX5_apply_127 rfl ?_
            refine h_iload hC dX5_apply_128 rfl ?_
            refine h_callVv (As := [.int x234, .int 2, .int x184]) hC hr o179 rfl (I175.1.o 7 (by decide)) (s_M_enter X.la d b Y c _ _ _ I175 (by omega) (by omega) x234 2 x184) cl_X5_90 rfl rfl (Nat.le_of_ble_eq_true rfl) (hFr_of (Nat.le_of_ble_eq_true rfl) (Nat.le_of_ble_eq_true rfl)) dX5_apply_130 (fun u235 p236 o237 => ?_)
            obtain ⟨S239, I240, K241, s242, q243⟩ := p236
            have m244 : gSm S S239 [38, 39, 40, 41, 42, 43, 44, 45] [25, 26, 27, 28, 29, 30, 31, 32, 33, 34, 35, 36] := m181.tr s242 _ _ rfl rfl
            have K245 := K182.tr K241
            obtain ⟨aq243, bq243, nq243⟩ := q243
            refine h_goto (tgt := 187) hC dX5_apply_133 (by decide) ?_
            exact h_vret hC hr o237 rfl rfl ⟨S239, I240, K245, m244, by omega, by omega, by omega⟩ dX5_apply_187
        · refine h_aload_n hC dX5_apply_68 rfl ?_
          refine h_iconst (v := 2) hC dX5_apply_69 rfl ?_
          refine h_callVv (As := [.int 2]) hC hr o8 rfl (hi.1.o 7 (by decide)) (s_M_fail X.la d b Y c _ _ _ hi (by omega) (by omega) 2) cl_X5_137 rfl rfl (Nat.le_of_ble_eq_true rfl) (hFr_of (Nat.le_of_ble_eq_true rfl) (Nat.le_of_ble_eq_true rfl)) dX5_apply_70 (fun u246 p247 o248 => ?_)
          obtain ⟨S250, I251, K252, s253, q254⟩ := p247
          have m255 : gSm S S250 [38, 39, 40, 41, 42, 43, 44, 45] [25, 26, 27, 28, 29, 30, 31, 32, 33, 34, 35, 36] := gSm.wk s253 _ _ rfl rfl
          have ZS250 : sZ S250 43 = sZ S 43 := s253.z 43 (by decide)
          obtain ⟨aq254, bq254, nq254⟩ := q254
          refine h_goto (tgt := 187) hC dX5_apply_73 (by decide) ?_
          exact h_vret hC hr o248 rfl rfl ⟨S250, I251, K252, m255, by omega, by omega, by omega⟩ dX5_apply_187
    · refine h_aload_n hC dX5_apply_46 rfl ?_
      refine h_iconst (v := 4) hC dX5_apply_47 rfl ?_
      refine h_callVv (As := [.int 4]) hC hr o8 rfl (hi.1.o 7 (by decide)) (s_M_fail X.la d b Y c _ _ _ hi (by omega) (by omega) 4) cl_X5_137 rfl rfl (Nat.le_of_ble_eq_true rfl) (hFr_of (Nat.le_of_ble_eq_true rfl) (Nat.le_of_ble_eq_true rfl)) dX5_apply_48 (fun u257 p258 o259 => ?_)
      obtain ⟨S261, I262, K263, s264, q265⟩ := p258
      have m266 : gSm S S261 [38, 39, 40, 41, 42, 43, 44, 45] [25, 26, 27, 28, 29, 30, 31, 32, 33, 34, 35, 36] := gSm.wk s264 _ _ rfl rfl
      have ZS261 : sZ S261 43 = sZ S 43 := s264.z 43 (by decide)
      obtain ⟨aq265, bq265, nq265⟩ := q265
      refine h_goto (tgt := 187) hC dX5_apply_51 (by decide) ?_
      exact h_vret hC hr o259 rfl rfl ⟨S261, I262, K263, m266, by omega, by omega, by omega⟩ dX5_apply_187
theorem dX5_call_0 : decode cX5_call 0 = .ok (.iload_n 1, 1) := by decide +kernel
theorem dX5_call_1 : decode cX5_call 1 = .ok (.ldc 20, 2) := by decide +kernel
theorem dX5_call_3 : decode cX5_call 3 = .ok (.aload_n 0, 1) := by decide +kernel
theorem dX5_call_4 : decode cX5_call 4 = .ok (.getfield 67, 3) := by decide +kernel
theorem dX5_call_7 : decode cX5_call 7 = .ok (.invokevirtual 196, 3) := by decide +kernel
theorem dX5_call_10 : decode cX5_call 10 = .ok (.invokestatic 199, 3) := by decide +kernel
theorem dX5_call_13 : decode cX5_call 13 = .ok (.ifCond .eq 16, 3) := by decide +kernel
theorem dX5_call_16 : decode cX5_call 16 = .ok (.aload_n 0, 1) := by decide +kernel
theorem dX5_call_17 : decode cX5_call 17 = .ok (.iload_n 1, 1) := by decide +kernel
theorem dX5_call_18 : decode cX5_call 18 = .ok (.ldc 20, 2) := by decide +kernel
theorem dX5_call_20 : decode cX5_call 20 = .ok (.isub, 1) := by decide +kernel
theorem dX5_call_21 : decode cX5_call 21 = .ok (.iload_n 2, 1) := by decide +kernel
theorem dX5_call_22 : decode cX5_call 22 = .ok (.iload_n 3, 1) := by decide +kernel
theorem dX5_call_23 : decode cX5_call 23 = .ok (.invokevirtual 90, 3) := by decide +kernel
theorem dX5_call_26 : decode cX5_call 26 = .ok (.goto 50, 3) := by decide +kernel
theorem dX5_call_29 : decode cX5_call 29 = .ok (.iload_n 1, 1) := by decide +kernel
theorem dX5_call_30 : decode cX5_call 30 = .ok (.ldc 202, 2) := by decide +kernel
theorem dX5_call_32 : decode cX5_call 32 = .ok (.if_icmp .ne 12, 3) := by decide +kernel
theorem dX5_call_35 : decode cX5_call 35 = .ok (.aload_n 0, 1) := by decide +kernel
theorem dX5_call_36 : decode cX5_call 36 = .ok (.iload_n 2, 1) := by decide +kernel
theorem dX5_call_37 : decode cX5_call 37 = .ok (.iload_n 3, 1) := by decide +kernel
theorem dX5_call_38 : decode cX5_call 38 = .ok (.invokevirtual 203, 3) := by decide +kernel
theorem dX5_call_41 : decode cX5_call 41 = .ok (.goto 35, 3) := by decide +kernel
theorem dX5_call_44 : decode cX5_call 44 = .ok (.iload_n 1, 1) := by decide +kernel
theorem dX5_call_45 : decode cX5_call 45 = .ok (.ldc 206, 2) := by decide +kernel
theorem dX5_call_47 : decode cX5_call 47 = .ok (.bipush 18, 2) := by decide +kernel
theorem dX5_call_49 : decode cX5_call 49 = .ok (.invokestatic 199, 3) := by decide +kernel
theorem dX5_call_52 : decode cX5_call 52 = .ok (.ifCond .eq 19, 3) := by decide +kernel
theorem dX5_call_55 : decode cX5_call 55 = .ok (.aload_n 0, 1) := by decide +kernel
theorem dX5_call_56 : decode cX5_call 56 = .ok (.iload_n 1, 1) := by decide +kernel
theorem dX5_call_57 : decode cX5_call 57 = .ok (.ldc 206, 2) := by decide +kernel
theorem dX5_call_59 : decode cX5_call 59 = .ok (.isub, 1) := by decide +kernel
theorem dX5_call_60 : decode cX5_call 60 = .ok (.putfield 61, 3) := by decide +kernel
theorem dX5_call_63 : decode cX5_call 63 = .ok (.aload_n 0, 1) := by decide +kernel
theorem dX5_call_64 : decode cX5_call 64 = .ok (.iload_n 2, 1) := by decide +kernel
theorem dX5_call_65 : decode cX5_call 65 = .ok (.putfield 64, 3) := by decide +kernel
theorem dX5_call_68 : decode cX5_call 68 = .ok (.goto 8, 3) := by decide +kernel
theorem dX5_call_71 : decode cX5_call 71 = .ok (.aload_n 0, 1) := by decide +kernel
theorem dX5_call_72 : decode cX5_call 72 = .ok (.iconst 4, 1) := by decide +kernel
theorem dX5_call_73 : decode cX5_call 73 = .ok (.invokevirtual 137, 3) := by decide +kernel
theorem dX5_call_76 : decode cX5_call 76 = .ok (.return_, 1) := by decide +kernel
set_option maxHeartbeats 4000000 in
set_option maxRecDepth 100000 in
theorem s_M_call (l : Launch) (d : gD) (b : Nat) (Y : gYt) (c : Nat × Nat) (F : gM) (k n : Nat) {S : gSt} (hi : hI d b Y c (F, k, n) S) (hA : gPsi S ≤ gAm) (h43 : sZ S 43 ≤ 404) (x y z : Int32) : hMv l d b yX5_call cX5_call 4 7 k n F [.ref (gO' Y 7), .int x, .int y, .int z] (fun u => ∃ S', hI d b Y c u S' ∧ gKp Y F u.1 ∧ gSm S S' [38, 39, 40, 41, 42, 43, 44, 45] [25, 26, 27, 28, 29, 30, 31, 32, 33, 34, 35, 36] ∧ sZ S' 43 ≤ 404 ∧ gPsi S' ≤ gPsi S ∧ sN S' 45 = sN S 45) := by
  intro mc ms
  refine hM_of2 rfl (nL := 4) (Nat.le_of_ble_eq_true rfl) ?_
  intro X hX hC hr ho; subst hX
  show hG X d b _ F k n 0 [some (.ref (gO' Y 7)), some (.int x), some (.int y), some (.int z)] []
  refine h_iload_n hC dX5_call_0 rfl ?_
  refine h_ldc hC dX5_call_1 kw_748 ?_
  refine h_aload_n hC dX5_call_3 rfl ?_
  refine h_get hC fl_X5_67 (hi.1.o 7 (by decide)) rfl dX5_call_4 ?_
  refine g_callVi (As := []) hC rfl (hi.1.o 1 (by decide)) (p_P_routines X.la d b Y _ S hi.1 ) cl_X5_196 rfl rfl (Nat.le_of_ble_eq_true rfl) (h_fit0 hC hr ho (hFr_of (Nat.le_of_ble_eq_true rfl) (Nat.le_of_ble_eq_true rfl))) dX5_call_7 (fun r1 F2 p3 => ?_)
  obtain ⟨er1, eF2⟩ := p3; have eF2 := eF2.symm; subst eF2
  refine h_same hC ho ?_
  refine g_callSi (As := [.int x, .int 1000000, .int r1]) hC (t_isBetween X.la d b _ x 1000000 r1) cl_X5_199 rfl rfl (Nat.le_of_ble_eq_true rfl) (h_fit0 hC hr ho (hFr_of (Nat.le_of_ble_eq_true rfl) (Nat.le_of_ble_eq_true rfl))) dX5_call_10 (fun r5 F6 p7 => ?_)
  obtain ⟨er5, eF6⟩ := p7; have eF6 := eF6.symm; subst eF6
  refine h_same hC ho ?_
  refine h_if_eq (tgt := 29) hC dX5_call_13 (by decide) (fun c9 => ?_) (fun c9 => ?_)
  · refine h_iload_n hC dX5_call_29 rfl ?_
    refine h_ldc hC dX5_call_30 kw_1766 ?_
    refine h_icmp_ne (tgt := 44) hC dX5_call_32 (by decide) (fun c10 => ?_) (fun c10 => ?_)
    · refine h_iload_n hC dX5_call_44 rfl ?_
      refine h_ldc hC dX5_call_45 kw_1771 ?_
      refine h_bipush (v := 18) hC dX5_call_47 rfl ?_
      refine g_callSi (As := [.int x, .int 2000000, .int 18]) hC (t_isBetween X.la d b _ x 2000000 18) cl_X5_199 rfl rfl (Nat.le_of_ble_eq_true rfl) (h_fit0 hC hr ho (hFr_of (Nat.le_of_ble_eq_true rfl) (Nat.le_of_ble_eq_true rfl))) dX5_call_49 (fun r11 F12 p13 => ?_)
      obtain ⟨er11, eF12⟩ := p13; have eF12 := eF12.symm; subst eF12
      refine h_same hC ho ?_
      refine h_if_eq (tgt := 71) hC dX5_call_52 (by decide) (fun c15 => ?_) (fun c15 => ?_)
      · refine h_aload_n hC dX5_call_71 rfl ?_
        refine h_iconst (v := 4) hC dX5_call_72 rfl ?_
        refine h_callVv (As := [.int 4]) hC hr ho rfl (hi.1.o 7 (by decide)) (s_M_fail X.la d b Y c _ _ _ hi (by omega) (by omega) 4) cl_X5_137 rfl rfl (Nat.le_of_ble_eq_true rfl) (hFr_of (Nat.le_of_ble_eq_true rfl) (Nat.le_of_ble_eq_true rfl)) dX5_call_73 (fun u16 p17 o18 => ?_)
        obtain ⟨S20, I21, K22, s23, q24⟩ := p17
        have m25 : gSm S S20 [38, 39, 40, 41, 42, 43, 44, 45] [25, 26, 27, 28, 29, 30, 31, 32, 33, 34, 35, 36] := gSm.wk s23 _ _ rfl rfl
        have ZS20 : sZ S20 43 = sZ S 43 := s23.z 43 (by decide)
        obtain ⟨aq24, bq24, nq24⟩ := q24
        exact h_vret hC hr o18 rfl rfl ⟨S20, I21, K22, m25, by omega, by omega, by omega⟩ dX5_call_76
      · refine h_aload_n hC dX5_call_55 rfl ?_
        refine h_iload_n hC dX5_call_56 rfl ?_
        refine h_ldc hC dX5_call_57 kw_1771 ?_
        refine h_isub hC dX5_call_59 ?_
        refine h_vi (fun x27 ex27 => ?_)
        refine hi_putx (i := 7) (kx := 35) hC hi (by decide) fl_X5_61 rfl rfl rfl (Nat.le_of_ble_eq_true rfl) rfl gsame_35 (fun q => absurd q (by decide)) dX5_call_60 (fun F28 S29 I30 K31 s32 v33 p34 => ?_)
        have m35 : gSm S S29 [38, 39, 40, 41, 42, 43, 44, 45] [25, 26, 27, 28, 29, 30, 31, 32, 33, 34, 35, 36] := gSm.wk s32 _ _ rfl rfl
        have NS29 : sN S29 45 = sN S 45 := s32.n 45 (by decide)
        have ZS29 : sZ S29 43 = sZ S 43 := s32.z 43 (by decide)
        refine h_aload_n hC dX5_call_63 rfl ?_
        refine h_iload_n hC dX5_call_64 rfl ?_
        refine hi_putx (i := 7) (kx := 36) hC I30 (by decide) fl_X5_64 rfl rfl rfl (Nat.le_of_ble_eq_true rfl) rfl gsame_36 (fun q => absurd q (by decide)) dX5_call_65 (fun F37 S38 I39 K40 s41 v42 p43 => ?_)
        have m44 : gSm S S38 [38, 39, 40, 41, 42, 43, 44, 45] [25, 26, 27, 28, 29, 30, 31, 32, 33, 34, 35, 36] := m35.tr s41 _ _ rfl rfl
        have K45 := K31.tr K40
        have NS38 : sN S38 45 = sN S29 45 := s41.n 45 (by decide)
        have ZS38 : sZ S38 43 = sZ S29 43 := s41.z 43 (by decide)
        refine h_goto (tgt := 76) hC dX5_call_68 (by decide) ?_
        exact h_vret hC hr ho rfl rfl ⟨S38, I39, K45, m44, by omega, by omega, by omega⟩ dX5_call_76
    · refine h_aload_n hC dX5_call_35 rfl ?_
      refine h_iload_n hC dX5_call_36 rfl ?_
      refine h_iload_n hC dX5_call_37 rfl ?_
      refine h_callVv (As := [.int y, .int z]) hC hr ho rfl (hi.1.o 7 (by decide)) (s_M_apply X.la d b Y c _ _ _ hi (by omega) (by omega) y z) cl_X5_203 rfl rfl (Nat.le_of_ble_eq_true rfl) (hFr_of (Nat.le_of_ble_eq_true rfl) (Nat.le_of_ble_eq_true rfl)) dX5_call_38 (fun u46 p47 o48 => ?_)
      obtain ⟨S50, I51, K52, s53, q54⟩ := p47
      have m55 : gSm S S50 [38, 39, 40, 41, 42, 43, 44, 45] [25, 26, 27, 28, 29, 30, 31, 32, 33, 34, 35, 36] := gSm.wk s53 _ _ rfl rfl
      obtain ⟨aq54, bq54, nq54⟩ := q54
      refine h_goto (tgt := 76) hC dX5_call_41 (by decide) ?_
      exact h_vret hC hr o48 rfl rfl ⟨S50, I51, K52, m55, by omega, by omega, by omega⟩ dX5_call_76
  · refine h_aload_n hC dX5_call_16 rfl ?_
    refine h_iload_n hC dX5_call_17 rfl ?_
    refine h_ldc hC dX5_call_18 kw_748 ?_
    refine h_isub hC dX5_call_20 ?_
    refine h_vi (fun x57 ex57 => ?_)
    refine h_iload_n hC dX5_call_21 rfl ?_
    refine h_iload_n hC dX5_call_22 rfl ?_
    refine h_callVv (As := [.int x57, .int y, .int z]) hC hr ho rfl (hi.1.o 7 (by decide)) (s_M_enter X.la d b Y c _ _ _ hi (by omega) (by omega) x57 y z) cl_X5_90 rfl rfl (Nat.le_of_ble_eq_true rfl) (hFr_of (Nat.le_of_ble_eq_true rfl) (Nat.le_of_ble_eq_true rfl)) dX5_call_23 (fun u58 p59 o60 => ?_)
    obtain ⟨S62, I63, K64, s65, q66⟩ := p59
    have m67 : gSm S S62 [38, 39, 40, 41, 42, 43, 44, 45] [25, 26, 27, 28, 29, 30, 31, 32, 33, 34, 35, 36] := gSm.wk s65 _ _ rfl rfl
    obtain ⟨aq66, bq66, nq66⟩ := q66
    refine h_goto (tgt := 76) hC dX5_call_26 (by decide) ?_
    exact h_vret hC hr o60 rfl rfl ⟨S62, I63, K64, m67, by omega, by omega, by omega⟩ dX5_call_76
