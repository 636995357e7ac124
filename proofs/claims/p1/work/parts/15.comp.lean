theorem kw_954 : Cond.code yX10_clear cX10_clear 1 none ∈ gWs := gWm 954 (by decide +kernel) rfl
theorem kw_951 : Cond.methodLink RX6 68 yX10_clear ∈ gWs := gWm 951 (by decide +kernel) rfl
theorem kw_952 : Cond.instanceMethod yX10_clear ∈ gWs := gWm 952 (by decide +kernel) rfl
theorem kw_953 : Cond.selects RX10 yX10_clear yX10_clear ∈ gWs := gWm 953 (by decide +kernel) rfl
theorem cl_X6_68 : gCV RX6 68 yX10_clear cX10_clear 1 none 0 := ⟨g_mk [.methodLink RX6 68 yX10_clear, .instanceMethod yX10_clear, .selects yX10_clear.cls yX10_clear yX10_clear, .initialized yX10_clear.cls] (gWs_all kw_954) (List.forall_mem_cons.mpr ⟨kw_951, List.forall_mem_cons.mpr ⟨kw_952, List.forall_mem_cons.mpr ⟨kw_953, List.forall_mem_cons.mpr ⟨kw_241, fun _ h => nomatch h⟩⟩⟩⟩), rfl, by decide +kernel, by decide +kernel, by decide +kernel⟩
theorem kw_538 : Cond.fieldLink RX6 15 "WordTongue$Parser" "tags" "LWordTongue$Ints;" ∈ gWs := gWm 538 (by decide +kernel) rfl
theorem fl_X6_15 : gFL RX6 15 6 6 (.object "WordTongue$Ints") true := ⟨RX6, TX6, 12, tyX6, rfl, by decide, inW_RX6, kw_538, tyX6_ok, nmX6, rfl, by decide +kernel, fun _ => rfl⟩
theorem kw_962 : Cond.methodLink RX6 73 yX4_cut ∈ gWs := gWm 962 (by decide +kernel) rfl
theorem cl_X6_73 : gCV RX6 73 yX4_cut cX4_cut 2 none 1 := ⟨g_mk [.methodLink RX6 73 yX4_cut, .instanceMethod yX4_cut, .selects yX4_cut.cls yX4_cut yX4_cut, .initialized yX4_cut.cls] (gWs_all kw_468) (List.forall_mem_cons.mpr ⟨kw_962, List.forall_mem_cons.mpr ⟨kw_466, List.forall_mem_cons.mpr ⟨kw_467, List.forall_mem_cons.mpr ⟨kw_239, fun _ h => nomatch h⟩⟩⟩⟩), rfl, by decide +kernel, by decide +kernel, by decide +kernel⟩
theorem kw_539 : Cond.fieldLink RX6 21 "WordTongue$Parser" "signs" "LWordTongue$Ints;" ∈ gWs := gWm 539 (by decide +kernel) rfl
theorem fl_X6_21 : gFL RX6 21 6 7 (.object "WordTongue$Ints") true := ⟨RX6, TX6, 12, tyX6, rfl, by decide, inW_RX6, kw_539, tyX6_ok, nmX6, rfl, by decide +kernel, fun _ => rfl⟩
theorem kw_540 : Cond.fieldLink RX6 24 "WordTongue$Parser" "globals" "LWordTongue$Ints;" ∈ gWs := gWm 540 (by decide +kernel) rfl
theorem fl_X6_24 : gFL RX6 24 6 8 (.object "WordTongue$Ints") true := ⟨RX6, TX6, 12, tyX6, rfl, by decide, inW_RX6, kw_540, tyX6_ok, nmX6, rfl, by decide +kernel, fun _ => rfl⟩
theorem kw_542 : Cond.fieldLink RX6 31 "WordTongue$Parser" "depth" "I" ∈ gWs := gWm 542 (by decide +kernel) rfl
theorem fl_X6_31 : gFL RX6 31 6 10 .int false := ⟨RX6, TX6, 12, tyX6, rfl, by decide, inW_RX6, kw_542, tyX6_ok, nmX6, rfl, by decide +kernel, fun h => by cases h⟩
theorem kw_966 : Cond.code yX6_text cX6_text 3 (some .int) ∈ gWs := gWm 966 (by decide +kernel) rfl
theorem kw_963 : Cond.methodLink RX6 76 yX6_text ∈ gWs := gWm 963 (by decide +kernel) rfl
theorem kw_965 : Cond.instanceMethod yX6_text ∈ gWs := gWm 965 (by decide +kernel) rfl
theorem kw_15 : Cond.selects RX6 yX6_text yX6_text ∈ gWs := gWm 15 (by decide +kernel) rfl
theorem cl_X6_76 : gCV RX6 76 yX6_text cX6_text 3 (some .int) 0 := ⟨g_mk [.methodLink RX6 76 yX6_text, .instanceMethod yX6_text, .selects yX6_text.cls yX6_text yX6_text, .initialized yX6_text.cls] (gWs_all kw_966) (List.forall_mem_cons.mpr ⟨kw_963, List.forall_mem_cons.mpr ⟨kw_965, List.forall_mem_cons.mpr ⟨kw_15, List.forall_mem_cons.mpr ⟨kw_250, fun _ h => nomatch h⟩⟩⟩⟩), rfl, by decide +kernel, by decide +kernel, by decide +kernel⟩
theorem kw_800 : Cond.fieldLink RX11 21 "WordTongue" "program" "LWordTongue$Program;" ∈ gWs := gWm 800 (by decide +kernel) rfl
theorem kw_809 : Cond.laysFinal RX11 "WordTongue" "tape" "LWordTongue$Ints;" ∈ gWs := gWm 809 (by decide +kernel) rfl
theorem kw_811 : Cond.laysFinal RX11 "WordTongue" "program" "LWordTongue$Program;" ∈ gWs := gWm 811 (by decide +kernel) rfl
theorem kw_813 : Cond.laysFinal RX11 "WordTongue" "tree" "LWordTongue$Tree;" ∈ gWs := gWm 813 (by decide +kernel) rfl
theorem kw_815 : Cond.laysFinal RX11 "WordTongue" "scanner" "LWordTongue$Scanner;" ∈ gWs := gWm 815 (by decide +kernel) rfl
theorem kw_817 : Cond.laysFinal RX11 "WordTongue" "parser" "LWordTongue$Parser;" ∈ gWs := gWm 817 (by decide +kernel) rfl
theorem kw_819 : Cond.laysFinal RX11 "WordTongue" "coder" "LWordTongue$Coder;" ∈ gWs := gWm 819 (by decide +kernel) rfl
theorem kw_821 : Cond.laysFinal RX11 "WordTongue" "channels" "LWordTongue$Channels;" ∈ gWs := gWm 821 (by decide +kernel) rfl
theorem kw_823 : Cond.laysFinal RX11 "WordTongue" "machine" "LWordTongue$Machine;" ∈ gWs := gWm 823 (by decide +kernel) rfl
theorem kw_825 : Cond.lays RX11 "WordTongue" "storeWords" "I" ∈ gWs := gWm 825 (by decide +kernel) rfl
theorem kw_827 : Cond.lays RX11 "WordTongue" "goodWords" "I" ∈ gWs := gWm 827 (by decide +kernel) rfl
set_option maxRecDepth 20000 in
theorem inW_RX11 : ∀ w ∈ u_ws RX11 TX11 10, w ∈ gWs := List.forall_mem_cons.mpr ⟨kw_809, List.forall_mem_cons.mpr ⟨kw_811, List.forall_mem_cons.mpr ⟨kw_813, List.forall_mem_cons.mpr ⟨kw_815, List.forall_mem_cons.mpr ⟨kw_817, List.forall_mem_cons.mpr ⟨kw_819, List.forall_mem_cons.mpr ⟨kw_821, List.forall_mem_cons.mpr ⟨kw_823, List.forall_mem_cons.mpr ⟨kw_825, List.forall_mem_cons.mpr ⟨kw_827, fun _ h => nomatch h⟩⟩⟩⟩⟩⟩⟩⟩⟩⟩
theorem fl_X11_21 : gFL RX11 21 11 1 (.object "WordTongue$Program") true := ⟨RX11, TX11, 10, tyX11, rfl, by decide, inW_RX11, kw_800, tyX11_ok, nmX11, rfl, by decide +kernel, fun _ => rfl⟩
theorem kw_807 : Cond.fieldLink RX11 75 "WordTongue" "storeWords" "I" ∈ gWs := gWm 807 (by decide +kernel) rfl
theorem fl_X11_75 : gFL RX11 75 11 8 .int false := ⟨RX11, TX11, 10, tyX11, rfl, by decide, inW_RX11, kw_807, tyX11_ok, nmX11, rfl, by decide +kernel, fun h => by cases h⟩
theorem kw_852 : Cond.code yX7_clear cX7_clear 3 none ∈ gWs := gWm 852 (by decide +kernel) rfl
theorem kw_849 : Cond.methodLink RX11 95 yX7_clear ∈ gWs := gWm 849 (by decide +kernel) rfl
theorem kw_850 : Cond.instanceMethod yX7_clear ∈ gWs := gWm 850 (by decide +kernel) rfl
theorem kw_851 : Cond.selects RX7 yX7_clear yX7_clear ∈ gWs := gWm 851 (by decide +kernel) rfl
theorem cl_X11_95 : gCV RX11 95 yX7_clear cX7_clear 3 none 1 := ⟨g_mk [.methodLink RX11 95 yX7_clear, .instanceMethod yX7_clear, .selects yX7_clear.cls yX7_clear yX7_clear, .initialized yX7_clear.cls] (gWs_all kw_852) (List.forall_mem_cons.mpr ⟨kw_849, List.forall_mem_cons.mpr ⟨kw_850, List.forall_mem_cons.mpr ⟨kw_851, List.forall_mem_cons.mpr ⟨kw_240, fun _ h => nomatch h⟩⟩⟩⟩), rfl, by decide +kernel, by decide +kernel, by decide +kernel⟩
theorem kw_802 : Cond.fieldLink RX11 37 "WordTongue" "scanner" "LWordTongue$Scanner;" ∈ gWs := gWm 802 (by decide +kernel) rfl
theorem fl_X11_37 : gFL RX11 37 11 3 (.object "WordTongue$Scanner") true := ⟨RX11, TX11, 10, tyX11, rfl, by decide, inW_RX11, kw_802, tyX11_ok, nmX11, rfl, by decide +kernel, fun _ => rfl⟩
theorem kw_863 : Cond.code yX8_scan cX8_scan 2 none ∈ gWs := gWm 863 (by decide +kernel) rfl
theorem kw_860 : Cond.methodLink RX11 98 yX8_scan ∈ gWs := gWm 860 (by decide +kernel) rfl
theorem kw_861 : Cond.instanceMethod yX8_scan ∈ gWs := gWm 861 (by decide +kernel) rfl
theorem kw_862 : Cond.selects RX8 yX8_scan yX8_scan ∈ gWs := gWm 862 (by decide +kernel) rfl
theorem cl_X11_98 : gCV RX11 98 yX8_scan cX8_scan 2 none 0 := ⟨g_mk [.methodLink RX11 98 yX8_scan, .instanceMethod yX8_scan, .selects yX8_scan.cls yX8_scan yX8_scan, .initialized yX8_scan.cls] (gWs_all kw_863) (List.forall_mem_cons.mpr ⟨kw_860, List.forall_mem_cons.mpr ⟨kw_861, List.forall_mem_cons.mpr ⟨kw_862, List.forall_mem_cons.mpr ⟨kw_242, fun _ h => nomatch h⟩⟩⟩⟩), rfl, by decide +kernel, by decide +kernel, by decide +kernel⟩
theorem kw_803 : Cond.fieldLink RX11 46 "WordTongue" "parser" "LWordTongue$Parser;" ∈ gWs := gWm 803 (by decide +kernel) rfl
theorem fl_X11_46 : gFL RX11 46 11 4 (.object "WordTongue$Parser") true := ⟨RX11, TX11, 10, tyX11, rfl, by decide, inW_RX11, kw_803, tyX11_ok, nmX11, rfl, by decide +kernel, fun _ => rfl⟩
theorem kw_949 : Cond.codeWith yX6_reads cX6_reads 2 (some .boolean) [(41, 50, 51, 80)] ∈ gWs := gWm 949 (by decide +kernel) rfl
theorem kw_946 : Cond.methodLink RX11 101 yX6_reads ∈ gWs := gWm 946 (by decide +kernel) rfl
theorem kw_947 : Cond.instanceMethod yX6_reads ∈ gWs := gWm 947 (by decide +kernel) rfl
theorem kw_948 : Cond.selects RX6 yX6_reads yX6_reads ∈ gWs := gWm 948 (by decide +kernel) rfl
theorem kw_1582 : Cond.code yX7_judge cX7_judge 3 none ∈ gWs := gWm 1582 (by decide +kernel) rfl
theorem kw_1579 : Cond.methodLink RX11 111 yX7_judge ∈ gWs := gWm 1579 (by decide +kernel) rfl
theorem kw_1580 : Cond.instanceMethod yX7_judge ∈ gWs := gWm 1580 (by decide +kernel) rfl
theorem kw_1581 : Cond.selects RX7 yX7_judge yX7_judge ∈ gWs := gWm 1581 (by decide +kernel) rfl
theorem cl_X11_111 : gCV RX11 111 yX7_judge cX7_judge 3 none 0 := ⟨g_mk [.methodLink RX11 111 yX7_judge, .instanceMethod yX7_judge, .selects yX7_judge.cls yX7_judge yX7_judge, .initialized yX7_judge.cls] (gWs_all kw_1582) (List.forall_mem_cons.mpr ⟨kw_1579, List.forall_mem_cons.mpr ⟨kw_1580, List.forall_mem_cons.mpr ⟨kw_1581, List.forall_mem_cons.mpr ⟨kw_240, fun _ h => nomatch h⟩⟩⟩⟩), rfl, by decide +kernel, by decide +kernel, by decide +kernel⟩
theorem kw_799 : Cond.fieldLink RX11 14 "WordTongue" "tape" "LWordTongue$Ints;" ∈ gWs := gWm 799 (by decide +kernel) rfl
theorem fl_X11_14 : gFL RX11 14 11 0 (.object "WordTongue$Ints") true := ⟨RX11, TX11, 10, tyX11, rfl, by decide, inW_RX11, kw_799, tyX11_ok, nmX11, rfl, by decide +kernel, fun _ => rfl⟩
theorem kw_844 : Cond.methodLink RX11 92 yX4_cut ∈ gWs := gWm 844 (by decide +kernel) rfl
theorem cl_X11_92 : gCV RX11 92 yX4_cut cX4_cut 2 none 1 := ⟨g_mk [.methodLink RX11 92 yX4_cut, .instanceMethod yX4_cut, .selects yX4_cut.cls yX4_cut yX4_cut, .initialized yX4_cut.cls] (gWs_all kw_468) (List.forall_mem_cons.mpr ⟨kw_844, List.forall_mem_cons.mpr ⟨kw_466, List.forall_mem_cons.mpr ⟨kw_467, List.forall_mem_cons.mpr ⟨kw_239, fun _ h => nomatch h⟩⟩⟩⟩), rfl, by decide +kernel, by decide +kernel, by decide +kernel⟩
theorem kw_1588 : Cond.code yX7_faultKind cX7_faultKind 1 (some .int) ∈ gWs := gWm 1588 (by decide +kernel) rfl
theorem kw_1585 : Cond.methodLink RX11 114 yX7_faultKind ∈ gWs := gWm 1585 (by decide +kernel) rfl
theorem kw_1586 : Cond.instanceMethod yX7_faultKind ∈ gWs := gWm 1586 (by decide +kernel) rfl
theorem kw_1587 : Cond.selects RX7 yX7_faultKind yX7_faultKind ∈ gWs := gWm 1587 (by decide +kernel) rfl
theorem cl_X11_114 : gCV RX11 114 yX7_faultKind cX7_faultKind 1 (some .int) 0 := ⟨g_mk [.methodLink RX11 114 yX7_faultKind, .instanceMethod yX7_faultKind, .selects yX7_faultKind.cls yX7_faultKind yX7_faultKind, .initialized yX7_faultKind.cls] (gWs_all kw_1588) (List.forall_mem_cons.mpr ⟨kw_1585, List.forall_mem_cons.mpr ⟨kw_1586, List.forall_mem_cons.mpr ⟨kw_1587, List.forall_mem_cons.mpr ⟨kw_240, fun _ h => nomatch h⟩⟩⟩⟩), rfl, by decide +kernel, by decide +kernel, by decide +kernel⟩
theorem kw_1592 : Cond.code yX7_faultPlace cX7_faultPlace 1 (some .int) ∈ gWs := gWm 1592 (by decide +kernel) rfl
theorem kw_1589 : Cond.methodLink RX11 117 yX7_faultPlace ∈ gWs := gWm 1589 (by decide +kernel) rfl
theorem kw_1590 : Cond.instanceMethod yX7_faultPlace ∈ gWs := gWm 1590 (by decide +kernel) rfl
theorem kw_1591 : Cond.selects RX7 yX7_faultPlace yX7_faultPlace ∈ gWs := gWm 1591 (by decide +kernel) rfl
theorem cl_X11_117 : gCV RX11 117 yX7_faultPlace cX7_faultPlace 1 (some .int) 0 := ⟨g_mk [.methodLink RX11 117 yX7_faultPlace, .instanceMethod yX7_faultPlace, .selects yX7_faultPlace.cls yX7_faultPlace yX7_faultPlace, .initialized yX7_faultPlace.cls] (gWs_all kw_1592) (List.forall_mem_cons.mpr ⟨kw_1589, List.forall_mem_cons.mpr ⟨kw_1590, List.forall_mem_cons.mpr ⟨kw_1591, List.forall_mem_cons.mpr ⟨kw_240, fun _ h => nomatch h⟩⟩⟩⟩), rfl, by decide +kernel, by decide +kernel, by decide +kernel⟩
theorem gWs_allW {y : MethodName} {cc : ByteArray} {mL : Nat} {rt : Option FieldType} {hh : List (Nat × Nat × Nat × Nat)} (h : Cond.codeWith y cc mL rt hh ∈ gWs) : GoodIn gWs (.codeWith y cc mL rt hh :: gWs) := fun w hw => by
  have hw' : w ∈ gWs := (List.mem_cons.mp hw).elim (fun e => by rw [e]; exact h) id
  exact ⟨hw', good_of_word (gWs_good w hw')⟩
theorem cl_X11_101 : gCVW RX11 101 yX6_reads cX6_reads 2 (some .boolean) [(41, 50, 51, 80)] 0 := ⟨g_mk [.methodLink RX11 101 yX6_reads, .instanceMethod yX6_reads, .selects yX6_reads.cls yX6_reads yX6_reads, .initialized yX6_reads.cls] (gWs_allW kw_949) (List.forall_mem_cons.mpr ⟨kw_946, List.forall_mem_cons.mpr ⟨kw_947, List.forall_mem_cons.mpr ⟨kw_948, List.forall_mem_cons.mpr ⟨kw_250, fun _ h => nomatch h⟩⟩⟩⟩), rfl, by decide +kernel, by decide +kernel, by decide +kernel⟩
theorem dX6_reads_0 : decode cX6_reads 0 = .ok (.aload_n 0, 1) := by decide +kernel
theorem dX6_reads_1 : decode cX6_reads 1 = .ok (.getfield 60, 3) := by decide +kernel
theorem dX6_reads_4 : decode cX6_reads 4 = .ok (.invokevirtual 68, 3) := by decide +kernel
theorem dX6_reads_7 : decode cX6_reads 7 = .ok (.aload_n 0, 1) := by decide +kernel
theorem dX6_reads_8 : decode cX6_reads 8 = .ok (.getfield 15, 3) := by decide +kernel
theorem dX6_reads_11 : decode cX6_reads 11 = .ok (.iconst 0, 1) := by decide +kernel
theorem dX6_reads_12 : decode cX6_reads 12 = .ok (.invokevirtual 73, 3) := by decide +kernel
theorem dX6_reads_15 : decode cX6_reads 15 = .ok (.aload_n 0, 1) := by decide +kernel
theorem dX6_reads_16 : decode cX6_reads 16 = .ok (.getfield 21, 3) := by decide +kernel
theorem dX6_reads_19 : decode cX6_reads 19 = .ok (.iconst 0, 1) := by decide +kernel
theorem dX6_reads_20 : decode cX6_reads 20 = .ok (.invokevirtual 73, 3) := by decide +kernel
theorem dX6_reads_23 : decode cX6_reads 23 = .ok (.aload_n 0, 1) := by decide +kernel
theorem dX6_reads_24 : decode cX6_reads 24 = .ok (.getfield 24, 3) := by decide +kernel
theorem dX6_reads_27 : decode cX6_reads 27 = .ok (.iconst 0, 1) := by decide +kernel
theorem dX6_reads_28 : decode cX6_reads 28 = .ok (.invokevirtual 73, 3) := by decide +kernel
theorem dX6_reads_31 : decode cX6_reads 31 = .ok (.aload_n 0, 1) := by decide +kernel
theorem dX6_reads_32 : decode cX6_reads 32 = .ok (.iconst 0, 1) := by decide +kernel
theorem dX6_reads_33 : decode cX6_reads 33 = .ok (.putfield 27, 3) := by decide +kernel
theorem dX6_reads_36 : decode cX6_reads 36 = .ok (.aload_n 0, 1) := by decide +kernel
theorem dX6_reads_37 : decode cX6_reads 37 = .ok (.iconst 0, 1) := by decide +kernel
theorem dX6_reads_38 : decode cX6_reads 38 = .ok (.putfield 31, 3) := by decide +kernel
theorem dX6_reads_41 : decode cX6_reads 41 = .ok (.aload_n 0, 1) := by decide +kernel
theorem dX6_reads_42 : decode cX6_reads 42 = .ok (.aload_n 0, 1) := by decide +kernel
theorem dX6_reads_43 : decode cX6_reads 43 = .ok (.invokevirtual 76, 3) := by decide +kernel
theorem dX6_reads_46 : decode cX6_reads 46 = .ok (.putfield 34, 3) := by decide +kernel
theorem dX6_reads_49 : decode cX6_reads 49 = .ok (.iconst 1, 1) := by decide +kernel
theorem dX6_reads_50 : decode cX6_reads 50 = .ok (.ireturn, 1) := by decide +kernel
theorem dX6_reads_51 : decode cX6_reads 51 = .ok (.astore_n 1, 1) := by decide +kernel
theorem dX6_reads_52 : decode cX6_reads 52 = .ok (.iconst 0, 1) := by decide +kernel
theorem dX6_reads_53 : decode cX6_reads 53 = .ok (.ireturn, 1) := by decide +kernel
set_option maxHeartbeats 4000000 in
set_option maxRecDepth 100000 in
theorem c_Pa_reads0 (l : Launch) (d : gD) (b : Nat) (Y : gYt) (F : gM) (S : gSt) (hW : gWT d Y F S) (hl : l.stackTraces = false) (hv4 : sV S 4 = 0) (hf14 : sF S 14 0 = 0) (hf16 : sF S 16 0 = 0) (hz7 : sZ S 7 = 0) (hn7 : sN S 7 = 16) (hz8 : sZ S 8 = 0) (hn8 : sN S 8 = 16) (hz9 : sZ S 9 = 0) (hn9 : sN S 9 = 16) (hz10 : sZ S 10 = 0) (hn10 : sN S 10 = 16) (hz11 : sZ S 11 = 0) (hn11 : sN S 11 = 16) (hz12 : sZ S 12 = 0) (hn12 : sN S 12 = 16) (hz13 : sZ S 13 = 0) (hn13 : sN S 13 = 16) (hz21 : sZ S 21 = 0) (hn21 : sN S 21 = 16) (hz22 : sZ S 22 = 0) (hn22 : sN S 22 = 16) (hz23 : sZ S 23 = 0) (hn23 : sN S 23 = 16) : Met l yX6_reads (.codeWith yX6_reads cX6_reads 2 (some .boolean) [(41, 50, 51, 80)] :: gWs) (gR 10 1 6) (va_Pc [.ref (gO' Y 4)] (gB d b F)) (va_Qi (fun r F' => r = 0 ∧ ∃ S', gWT d Y F' S' ∧ gKp Y F F' ∧ gSm S S' [7, 8, 9, 10, 11, 12, 13, 21, 22, 23] [4, 5, 10, 11] ∧ sV S' 4 = 2 ∧ sV S' 5 = 0) (gB d b) (fun q => b ≤ q)) 1 6 (fun q => b ≤ q) := by
  refine gH_of2 rfl (nL := 2) (Nat.le_of_ble_eq_true rfl) ?_
  intro X hX hT hC; subst hX
  show gG X d b _ F 0 0 0 [some (.ref (gO' Y 4)), none] []
  have hM0 : gSm S S [7, 8, 9, 10, 11, 12, 13, 21, 22, 23] [4, 5, 10, 11] := gSm.rf
  have hK0 : gKp Y F F := gKp.rf
  refine g_aload_n hC dX6_reads_0 rfl ?_
  refine g_get hC fl_X6_60 (hW.o 4 (by decide)) rfl dX6_reads_1 ?_
  refine g_callVv (As := []) hC rfl (hW.o 2 (by decide)) (c_T_clear X.la d b Y F S hW hz7 hn7 hz8 hn8 hz9 hn9 hz10 hn10 hz11 hn11 hz12 hn12 hz13 hn13) cl_X6_68 rfl rfl (Nat.le_of_ble_eq_true rfl) (gFit_of (Nat.le_of_ble_eq_true rfl) (Nat.le_of_ble_eq_true rfl) (by first | exact Nat.le_of_ble_eq_true rfl | omega | (simp only [gR]; omega)) (by first | exact Nat.le_of_ble_eq_true rfl | omega | (simp only [gR]; omega))) dX6_reads_4 (fun F1 p2 => ?_)
  obtain ⟨S4, hW5, k6, s7, y8, y9, y10, y11, y12, y13, y14, y15, y16, y17, y18, y19, y20, y21⟩ := p2
  have hM22 : gSm S S4 [7, 8, 9, 10, 11, 12, 13, 21, 22, 23] [4, 5, 10, 11] := hM0.tr s7 _ _ rfl rfl
  have hK23 : gKp Y F F1 := hK0.tr k6
  have z24 : sZ S4 21 = 0 := (s7.z 21 (by decide)).trans hz21
  have z25 : sN S4 21 = 16 := (s7.n 21 (by decide)).trans hn21
  have z26 : sZ S4 22 = 0 := (s7.z 22 (by decide)).trans hz22
  have z27 : sN S4 22 = 16 := (s7.n 22 (by decide)).trans hn22
  have z28 : sZ S4 23 = 0 := (s7.z 23 (by decide)).trans hz23
  have z29 : sN S4 23 = 16 := (s7.n 23 (by decide)).trans hn23
  have z30 : sV S4 4 = 0 := (s7.v 4 (by decide)).trans hv4
  clear hz7 hn7 hz8 hn8 hz9 hn9 hz10 hn10 hz11 hn11 hz12 hn12 hz13 hn13 hz21 hn21 hz22 hn22 hz23 hn23 hv4 hM0 hK0 s7 k6 hW
  refine g_aload_n hC dX6_reads_7 rfl ?_
  refine g_get hC fl_X6_15 (hW5.o 4 (by decide)) rfl dX6_reads_8 ?_
  refine g_iconst (v := 0) hC dX6_reads_11 rfl ?_
  refine g_callVv (As := [.int 0]) hC rfl (hW5.r 21 (by decide)).1 (c_Ints_cut X.la d b F1 _ _ _ _ _ _ (hW5.r 21 (by decide)) 0) cl_X6_73 rfl rfl (Nat.le_of_ble_eq_true rfl) (gFit_of (Nat.le_of_ble_eq_true rfl) (Nat.le_of_ble_eq_true rfl) (by first | exact Nat.le_of_ble_eq_true rfl | omega | (simp only [gR]; omega)) (by first | exact Nat.le_of_ble_eq_true rfl | omega | (simp only [gR]; omega))) dX6_reads_12 (fun F32 p33 => ?_)
  obtain ⟨S34, hW35, k36, s37, u38, u39, u40, u41, u42⟩ := wt_cut hW5 (by decide) p33
  have hM43 : gSm S S34 [7, 8, 9, 10, 11, 12, 13, 21, 22, 23] [4, 5, 10, 11] := hM22.tr s37 _ _ rfl rfl
  have hK44 : gKp Y F F32 := hK23.tr k36
  have z45 : sZ S34 22 = 0 := (s37.z 22 (by decide)).trans z26
  have z46 : sN S34 22 = 16 := (s37.n 22 (by decide)).trans z27
  have z47 : sZ S34 23 = 0 := (s37.z 23 (by decide)).trans z28
  have z48 : sN S34 23 = 16 := (s37.n 23 (by decide)).trans z29
  have z49 : sZ S34 7 = 1 := (s37.z 7 (by decide)).trans y8
  have z50 : sN S34 7 = 16 := (s37.n 7 (by decide)).trans y15
  have z51 : sZ S34 8 = 1 := (s37.z 8 (by decide)).trans y9
  have z52 : sN S34 8 = 16 := (s37.n 8 (by decide)).trans y16
  have z53 : sZ S34 9 = 1 := (s37.z 9 (by decide)).trans y10
  have z54 : sN S34 9 = 16 := (s37.n 9 (by decide)).trans y17
  have z55 : sZ S34 10 = 1 := (s37.z 10 (by decide)).trans y11
  have z56 : sN S34 10 = 16 := (s37.n 10 (by decide)).trans y18
  have z57 : sZ S34 11 = 1 := (s37.z 11 (by decide)).trans y12
  have z58 : sN S34 11 = 16 := (s37.n 11 (by decide)).trans y19
  have z59 : sZ S34 12 = 1 := (s37.z 12 (by decide)).trans y13
  have z60 : sN S34 12 = 16 := (s37.n 12 (by decide)).trans y20
  have z61 : sZ S34 13 = 1 := (s37.z 13 (by decide)).trans y14
  have z62 : sN S34 13 = 16 := (s37.n 13 (by decide)).trans y21
  have z63 : sV S34 4 = 0 := (s37.v 4 (by decide)).trans z30
  have z64 : sZ S34 21 = 0 := Nat.le_zero.mp (Nat.le_trans u42 (Nat.le_of_eq z24))
  have z65 : sN S34 21 = 16 := u38.trans z25
  clear z24 z25 z26 z27 z28 z29 y8 y15 y9 y16 y10 y17 y11 y18 y12 y19 y13 y20 y14 y21 z30 hM22 hK23 s37 k36 hW5 p33 u38 u39 u40 u41 u42
  refine g_aload_n hC dX6_reads_15 rfl ?_
  refine g_get hC fl_X6_21 (hW35.o 4 (by decide)) rfl dX6_reads_16 ?_
  refine g_iconst (v := 0) hC dX6_reads_19 rfl ?_
  refine g_callVv (As := [.int 0]) hC rfl (hW35.r 22 (by decide)).1 (c_Ints_cut X.la d b F32 _ _ _ _ _ _ (hW35.r 22 (by decide)) 0) cl_X6_73 rfl rfl (Nat.le_of_ble_eq_true rfl) (gFit_of (Nat.le_of_ble_eq_true rfl) (Nat.le_of_ble_eq_true rfl) (by first | exact Nat.le_of_ble_eq_true rfl | omega | (simp only [gR]; omega)) (by first | exact Nat.le_of_ble_eq_true rfl | omega | (simp only [gR]; omega))) dX6_reads_20 (fun F67 p68 => ?_)
  obtain ⟨S69, hW70, k71, s72, u73, u74, u75, u76, u77⟩ := wt_cut hW35 (by decide) p68
  have hM78 : gSm S S69 [7, 8, 9, 10, 11, 12, 13, 21, 22, 23] [4, 5, 10, 11] := hM43.tr s72 _ _ rfl rfl
  have hK79 : gKp Y F F67 := hK44.tr k71
  have z80 : sZ S69 23 = 0 := (s72.z 23 (by decide)).trans z47
  have z81 : sN S69 23 = 16 := (s72.n 23 (by decide)).trans z48
  have z82 : sZ S69 7 = 1 := (s72.z 7 (by decide)).trans z49
  have z83 : sN S69 7 = 16 := (s72.n 7 (by decide)).trans z50
  have z84 : sZ S69 8 = 1 := (s72.z 8 (by decide)).trans z51
  have z85 : sN S69 8 = 16 := (s72.n 8 (by decide)).trans z52
  have z86 : sZ S69 9 = 1 := (s72.z 9 (by decide)).trans z53
  have z87 : sN S69 9 = 16 := (s72.n 9 (by decide)).trans z54
  have z88 : sZ S69 10 = 1 := (s72.z 10 (by decide)).trans z55
  have z89 : sN S69 10 = 16 := (s72.n 10 (by decide)).trans z56
  have z90 : sZ S69 11 = 1 := (s72.z 11 (by decide)).trans z57
  have z91 : sN S69 11 = 16 := (s72.n 11 (by decide)).trans z58
  have z92 : sZ S69 12 = 1 := (s72.z 12 (by decide)).trans z59
  have z93 : sN S69 12 = 16 := (s72.n 12 (by decide)).trans z60
  have z94 : sZ S69 13 = 1 := (s72.z 13 (by decide)).trans z61
  have z95 : sN S69 13 = 16 := (s72.n 13 (by decide)).trans z62
  have z96 : sZ S69 21 = 0 := (s72.z 21 (by decide)).trans z64
  have z97 : sN S69 21 = 16 := (s72.n 21 (by decide)).trans z65
  have z98 : sV S69 4 = 0 := (s72.v 4 (by decide)).trans z63
  have z99 : sZ S69 22 = 0 := Nat.le_zero.mp (Nat.le_trans u77 (Nat.le_of_eq z45))
  have z100 : sN S69 22 = 16 := u73.trans z46
  clear z45 z46 z47 z48 z49 z50 z51 z52 z53 z54 z55 z56 z57 z58 z59 z60 z61 z62 z64 z65 z63 hM43 hK44 s72 k71 hW35 p68 u73 u74 u75 u76 u77
  refine g_aload_n hC dX6_reads_23 rfl ?_
  refine g_get hC fl_X6_24 (hW70.o 4 (by decide)) rfl dX6_reads_24 ?_
  refine g_iconst (v := 0) hC dX6_reads_27 rfl ?_
  refine g_callVv (As := [.int 0]) hC rfl (hW70.r 23 (by decide)).1 (c_Ints_cut X.la d b F67 _ _ _ _ _ _ (hW70.r 23 (by decide)) 0) cl_X6_73 rfl rfl (Nat.le_of_ble_eq_true rfl) (gFit_of (Nat.le_of_ble_eq_true rfl) (Nat.le_of_ble_eq_true rfl) (by first | exact Nat.le_of_ble_eq_true rfl | omega | (simp only [gR]; omega)) (by first | exact Nat.le_of_ble_eq_true rfl | omega | (simp only [gR]; omega))) dX6_reads_28 (fun F102 p103 => ?_)
  obtain ⟨S104, hW105, k106, s107, u108, u109, u110, u111, u112⟩ := wt_cut hW70 (by decide) p103
  have hM113 : gSm S S104 [7, 8, 9, 10, 11, 12, 13, 21, 22, 23] [4, 5, 10, 11] := hM78.tr s107 _ _ rfl rfl
  have hK114 : gKp Y F F102 := hK79.tr k106
  have z115 : sZ S104 7 = 1 := (s107.z 7 (by decide)).trans z82
  have z116 : sN S104 7 = 16 := (s107.n 7 (by decide)).trans z83
  have z117 : sZ S104 8 = 1 := (s107.z 8 (by decide)).trans z84
  have z118 : sN S104 8 = 16 := (s107.n 8 (by decide)).trans z85
  have z119 : sZ S104 9 = 1 := (s107.z 9 (by decide)).trans z86
  have z120 : sN S104 9 = 16 := (s107.n 9 (by decide)).trans z87
  have z121 : sZ S104 10 = 1 := (s107.z 10 (by decide)).trans z88
  have z122 : sN S104 10 = 16 := (s107.n 10 (by decide)).trans z89
  have z123 : sZ S104 11 = 1 := (s107.z 11 (by decide)).trans z90
  have z124 : sN S104 11 = 16 := (s107.n 11 (by decide)).trans z91
  have z125 : sZ S104 12 = 1 := (s107.z 12 (by decide)).trans z92
  have z126 : sN S104 12 = 16 := (s107.n 12 (by decide)).trans z93
  have z127 : sZ S104 13 = 1 := (s107.z 13 (by decide)).trans z94
  have z128 : sN S104 13 = 16 := (s107.n 13 (by decide)).trans z95
  have z129 : sZ S104 21 = 0 := (s107.z 21 (by decide)).trans z96
  have z130 : sN S104 21 = 16 := (s107.n 21 (by decide)).trans z97
  have z131 : sZ S104 22 = 0 := (s107.z 22 (by decide)).trans z99
  have z132 : sN S104 22 = 16 := (s107.n 22 (by decide)).trans z100
  have z133 : sV S104 4 = 0 := (s107.v 4 (by decide)).trans z98
  have z134 : sZ S104 23 = 0 := Nat.le_zero.mp (Nat.le_trans u112 (Nat.le_of_eq z80))
  have z135 : sN S104 23 = 16 := u108.trans z81
  clear z80 z81 z82 z83 z84 z85 z86 z87 z88 z89 z90 z91 z92 z93 z94 z95 z96 z97 z99 z100 z98 hM78 hK79 s107 k106 hW70 p103 u108 u109 u110 u111 u112
  refine g_aload_n hC dX6_reads_31 rfl ?_
  refine g_iconst (v := 0) hC dX6_reads_32 rfl ?_
  refine g_put hC fl_X6_27 (hW105.o 4 (by decide)) rfl rfl (Nat.le_of_ble_eq_true rfl) dX6_reads_33 ?_
  refine g_vF (fun F136 hF136 => ?_)
  obtain ⟨hW138, k139⟩ := gWT.put (k := 10) (x := 0) hW105 (i := 4) (by decide) hF136 rfl gsame_10 (fun q => absurd q (by decide))
  obtain ⟨S137, hS137⟩ : ∃ z, z = uV S104 10 0 := ⟨_, rfl⟩
  rw [← hS137] at hW138
  have s140 : gSm S104 S137 [] [10] := by rw [hS137]; exact gSm_uV
  have hM141 : gSm S S137 [7, 8, 9, 10, 11, 12, 13, 21, 22, 23] [4, 5, 10, 11] := hM113.tr s140 _ _ rfl rfl
  have hK142 : gKp Y F F136 := hK114.tr k139
  have z143 : sZ S137 7 = 1 := (s140.z 7 (by decide)).trans z115
  have z144 : sN S137 7 = 16 := (s140.n 7 (by decide)).trans z116
  have z145 : sZ S137 8 = 1 := (s140.z 8 (by decide)).trans z117
  have z146 : sN S137 8 = 16 := (s140.n 8 (by decide)).trans z118
  have z147 : sZ S137 9 = 1 := (s140.z 9 (by decide)).trans z119
  have z148 : sN S137 9 = 16 := (s140.n 9 (by decide)).trans z120
  have z149 : sZ S137 10 = 1 := (s140.z 10 (by decide)).trans z121
  have z150 : sN S137 10 = 16 := (s140.n 10 (by decide)).trans z122
  have z151 : sZ S137 11 = 1 := (s140.z 11 (by decide)).trans z123
  have z152 : sN S137 11 = 16 := (s140.n 11 (by decide)).trans z124
  have z153 : sZ S137 12 = 1 := (s140.z 12 (by decide)).trans z125
  have z154 : sN S137 12 = 16 := (s140.n 12 (by decide)).trans z126
  have z155 : sZ S137 13 = 1 := (s140.z 13 (by decide)).trans z127
  have z156 : sN S137 13 = 16 := (s140.n 13 (by decide)).trans z128
  have z157 : sZ S137 21 = 0 := (s140.z 21 (by decide)).trans z129
  have z158 : sN S137 21 = 16 := (s140.n 21 (by decide)).trans z130
  have z159 : sZ S137 22 = 0 := (s140.z 22 (by decide)).trans z131
  have z160 : sN S137 22 = 16 := (s140.n 22 (by decide)).trans z132
  have z161 : sZ S137 23 = 0 := (s140.z 23 (by decide)).trans z134
  have z162 : sN S137 23 = 16 := (s140.n 23 (by decide)).trans z135
  have z163 : sV S137 4 = 0 := (s140.v 4 (by decide)).trans z133
  have z164 : sV S137 10 = 0 := by rw [hS137]; exact uV_self
  clear z115 z116 z117 z118 z119 z120 z121 z122 z123 z124 z125 z126 z127 z128 z129 z130 z131 z132 z134 z135 z133 hM113 hK114 s140 k139 hW105
  refine g_aload_n hC dX6_reads_36 rfl ?_
  refine g_iconst (v := 0) hC dX6_reads_37 rfl ?_
  refine g_put hC fl_X6_31 (hW138.o 4 (by decide)) rfl rfl (Nat.le_of_ble_eq_true rfl) dX6_reads_38 ?_
  refine g_vF (fun F165 hF165 => ?_)
  obtain ⟨hW167, k168⟩ := gWT.put (k := 11) (x := 0) hW138 (i := 4) (by decide) hF165 rfl gsame_11 (fun q => absurd q (by decide))
  obtain ⟨S166, hS166⟩ : ∃ z, z = uV S137 11 0 := ⟨_, rfl⟩
  rw [← hS166] at hW167
  have s169 : gSm S137 S166 [] [11] := by rw [hS166]; exact gSm_uV
  have hM170 : gSm S S166 [7, 8, 9, 10, 11, 12, 13, 21, 22, 23] [4, 5, 10, 11] := hM141.tr s169 _ _ rfl rfl
  have hK171 : gKp Y F F165 := hK142.tr k168
  have z172 : sZ S166 7 = 1 := (s169.z 7 (by decide)).trans z143
  have z173 : sN S166 7 = 16 := (s169.n 7 (by decide)).trans z144
  have z174 : sZ S166 8 = 1 := (s169.z 8 (by decide)).trans z145
  have z175 : sN S166 8 = 16 := (s169.n 8 (by decide)).trans z146
  have z176 : sZ S166 9 = 1 := (s169.z 9 (by decide)).trans z147
  have z177 : sN S166 9 = 16 := (s169.n 9 (by decide)).trans z148
  have z178 : sZ S166 10 = 1 := (s169.z 10 (by decide)).trans z149
  have z179 : sN S166 10 = 16 := (s169.n 10 (by decide)).trans z150
  have z180 : sZ S166 11 = 1 := (s169.z 11 (by decide)).trans z151
  have z181 : sN S166 11 = 16 := (s169.n 11 (by decide)).trans z152
  have z182 : sZ S166 12 = 1 := (s169.z 12 (by decide)).trans z153
  have z183 : sN S166 12 = 16 := (s169.n 12 (by decide)).trans z154
  have z184 : sZ S166 13 = 1 := (s169.z 13 (by decide)).trans z155
  have z185 : sN S166 13 = 16 := (s169.n 13 (by decide)).trans z156
  have z186 : sZ S166 21 = 0 := (s169.z 21 (by decide)).trans z157
  have z187 : sN S166 21 = 16 := (s169.n 21 (by decide)).trans z158
  have z188 : sZ S166 22 = 0 := (s169.z 22 (by decide)).trans z159
  have z189 : sN S166 22 = 16 := (s169.n 22 (by decide)).trans z160
  have z190 : sZ S166 23 = 0 := (s169.z 23 (by decide)).trans z161
  have z191 : sN S166 23 = 16 := (s169.n 23 (by decide)).trans z162
  have z192 : sV S166 4 = 0 := (s169.v 4 (by decide)).trans z163
  have z193 : sV S166 10 = 0 := (s169.v 10 (by decide)).trans z164
  have z194 : sV S166 11 = 0 := by rw [hS166]; exact uV_self
  clear z143 z144 z145 z146 z147 z148 z149 z150 z151 z152 z153 z154 z155 z156 z157 z158 z159 z160 z161 z162 z163 z164 hM141 hK142 s169 k168 hW138
  have f195 : sF S166 14 0 = 0 := by rw [hM170.f 14 (by decide)]; exact hf14
  have f196 : sF S166 16 0 = 0 := by rw [hM170.f 16 (by decide)]; exact hf16
  refine g_aload_n hC dX6_reads_41 rfl ?_
  refine g_aload_n hC dX6_reads_42 rfl ?_
  refine g_xcallVi (As := []) hC rfl (hW167.o 4 (by decide)) (c_Pa_text X.la d b Y F165 S166 hW167 hl z192 z193 f195 f196 z172 z173 z174 z175 z176 z177 z178 z179 z180 z181 z182 z183 z184 z185) cl_X6_76 rfl rfl (Nat.le_of_ble_eq_true rfl) (gFit_of (Nat.le_of_ble_eq_true rfl) (Nat.le_of_ble_eq_true rfl) (by first | exact Nat.le_of_ble_eq_true rfl | omega | (simp only [gR]; omega)) (by first | exact Nat.le_of_ble_eq_true rfl | omega | (simp only [gR]; omega))) dX6_reads_43 (fun F197 p198 => ?_) (fun _ _ q => q.elim)
  obtain ⟨S199, hW200, k201, s202, y203, y204⟩ := p198
  have hM205 : gSm S S199 [7, 8, 9, 10, 11, 12, 13, 21, 22, 23] [4, 5, 10, 11] := hM170.tr s202 _ _ rfl rfl
  have hK206 : gKp Y F F197 := hK171.tr k201
  have z207 : sZ S199 21 = 0 := (s202.z 21 (by decide)).trans z186
  have z208 : sN S199 21 = 16 := (s202.n 21 (by decide)).trans z187
  have z209 : sZ S199 22 = 0 := (s202.z 22 (by decide)).trans z188
  have z210 : sN S199 22 = 16 := (s202.n 22 (by decide)).trans z189
  have z211 : sZ S199 23 = 0 := (s202.z 23 (by decide)).trans z190
  have z212 : sN S199 23 = 16 := (s202.n 23 (by decide)).trans z191
  have z213 : sV S199 10 = 0 := (s202.v 10 (by decide)).trans z193
  have z214 : sV S199 11 = 0 := (s202.v 11 (by decide)).trans z194
  refine g_xcatch (name := "java/lang/IllegalStateException") hC hT ⟨by decide, by decide⟩ (by decide) kw_950 (by decide) (fun q215 => ?_)
  refine g_astore_n (lv' := [some (.ref (gO' Y 4)), some (.ref q215)]) hC dX6_reads_51 (Nat.le_of_ble_eq_true rfl) rfl rfl ?_
  refine g_iconst (v := 0) hC dX6_reads_52 rfl ?_
  exact g_iret hC rfl ⟨rfl, S199, hW200, hK206, hM205, y203, y204⟩ (by first | exact Nat.le_of_ble_eq_true rfl | omega | (simp only [gR]; omega)) (by first | exact Nat.le_of_ble_eq_true rfl | omega | (simp only [gR]; omega)) dX6_reads_53
theorem dX11_compile_0 : decode cX11_compile 0 = .ok (.aload_n 0, 1) := by decide +kernel
theorem dX11_compile_1 : decode cX11_compile 1 = .ok (.getfield 21, 3) := by decide +kernel
theorem dX11_compile_4 : decode cX11_compile 4 = .ok (.aload_n 0, 1) := by decide +kernel
theorem dX11_compile_5 : decode cX11_compile 5 = .ok (.getfield 75, 3) := by decide +kernel
theorem dX11_compile_8 : decode cX11_compile 8 = .ok (.invokevirtual 95, 3) := by decide +kernel
theorem dX11_compile_11 : decode cX11_compile 11 = .ok (.aload_n 0, 1) := by decide +kernel
theorem dX11_compile_12 : decode cX11_compile 12 = .ok (.getfield 37, 3) := by decide +kernel
theorem dX11_compile_15 : decode cX11_compile 15 = .ok (.invokevirtual 98, 3) := by decide +kernel
theorem dX11_compile_18 : decode cX11_compile 18 = .ok (.aload_n 0, 1) := by decide +kernel
theorem dX11_compile_19 : decode cX11_compile 19 = .ok (.getfield 46, 3) := by decide +kernel
theorem dX11_compile_22 : decode cX11_compile 22 = .ok (.invokevirtual 101, 3) := by decide +kernel
theorem dX11_compile_25 : decode cX11_compile 25 = .ok (.ifCond .eq 17, 3) := by decide +kernel
theorem dX11_compile_28 : decode cX11_compile 28 = .ok (.aload_n 0, 1) := by decide +kernel
theorem dX11_compile_29 : decode cX11_compile 29 = .ok (.getfield 55, 3) := by decide +kernel
theorem dX11_compile_32 : decode cX11_compile 32 = .ok (.aload_n 0, 1) := by decide +kernel
theorem dX11_compile_33 : decode cX11_compile 33 = .ok (.getfield 46, 3) := by decide +kernel
theorem dX11_compile_36 : decode cX11_compile 36 = .ok (.invokevirtual 105, 3) := by decide +kernel
theorem dX11_compile_39 : decode cX11_compile 39 = .ok (.invokevirtual 108, 3) := by decide +kernel
theorem dX11_compile_42 : decode cX11_compile 42 = .ok (.aload_n 0, 1) := by decide +kernel
theorem dX11_compile_43 : decode cX11_compile 43 = .ok (.getfield 21, 3) := by decide +kernel
theorem dX11_compile_46 : decode cX11_compile 46 = .ok (.invokevirtual 111, 3) := by decide +kernel
theorem dX11_compile_49 : decode cX11_compile 49 = .ok (.aload_n 0, 1) := by decide +kernel
theorem dX11_compile_50 : decode cX11_compile 50 = .ok (.getfield 14, 3) := by decide +kernel
theorem dX11_compile_53 : decode cX11_compile 53 = .ok (.iconst 0, 1) := by decide +kernel
theorem dX11_compile_54 : decode cX11_compile 54 = .ok (.invokevirtual 92, 3) := by decide +kernel
theorem dX11_compile_57 : decode cX11_compile 57 = .ok (.aload_n 0, 1) := by decide +kernel
theorem dX11_compile_58 : decode cX11_compile 58 = .ok (.getfield 21, 3) := by decide +kernel
theorem dX11_compile_61 : decode cX11_compile 61 = .ok (.invokevirtual 114, 3) := by decide +kernel
theorem dX11_compile_64 : decode cX11_compile 64 = .ok (.ifCond .eq 13, 3) := by decide +kernel
theorem dX11_compile_67 : decode cX11_compile 67 = .ok (.iconst (-1), 1) := by decide +kernel
theorem dX11_compile_68 : decode cX11_compile 68 = .ok (.aload_n 0, 1) := by decide +kernel
theorem dX11_compile_69 : decode cX11_compile 69 = .ok (.getfield 21, 3) := by decide +kernel
theorem dX11_compile_72 : decode cX11_compile 72 = .ok (.invokevirtual 117, 3) := by decide +kernel
theorem dX11_compile_75 : decode cX11_compile 75 = .ok (.isub, 1) := by decide +kernel
theorem dX11_compile_76 : decode cX11_compile 76 = .ok (.ireturn, 1) := by decide +kernel
theorem dX11_compile_77 : decode cX11_compile 77 = .ok (.aload_n 0, 1) := by decide +kernel
theorem dX11_compile_78 : decode cX11_compile 78 = .ok (.aload_n 0, 1) := by decide +kernel
theorem dX11_compile_79 : decode cX11_compile 79 = .ok (.getfield 75, 3) := by decide +kernel
theorem dX11_compile_82 : decode cX11_compile 82 = .ok (.putfield 79, 3) := by decide +kernel
theorem dX11_compile_85 : decode cX11_compile 85 = .ok (.aload_n 0, 1) := by decide +kernel
theorem dX11_compile_86 : decode cX11_compile 86 = .ok (.getfield 21, 3) := by decide +kernel
theorem dX11_compile_89 : decode cX11_compile 89 = .ok (.invokevirtual 120, 3) := by decide +kernel
theorem dX11_compile_92 : decode cX11_compile 92 = .ok (.ireturn, 1) := by decide +kernel
set_option maxHeartbeats 4000000 in
set_option maxRecDepth 100000 in
theorem c_W_compile0 (l : Launch) (d : gD) (b : Nat) (Y : gYt) (F : gM) (S : gSt) (hW : gWT d Y F S) (hl : l.stackTraces = false) (hz0 : sZ S 0 = 0) (hn0 : sN S 0 = 16) (hz1 : sZ S 1 = 0) (hn1 : sN S 1 = 16) (hz2 : sZ S 2 = 0) (hn2 : sN S 2 = 16) (hz3 : sZ S 3 = 0) (hn3 : sN S 3 = 16) (hz4 : sZ S 4 = 0) (hn4 : sN S 4 = 16) (hz5 : sZ S 5 = 0) (hn5 : sN S 5 = 16) (hz6 : sZ S 6 = 0) (hn6 : sN S 6 = 16) (hz7 : sZ S 7 = 0) (hn7 : sN S 7 = 16) (hz8 : sZ S 8 = 0) (hn8 : sN S 8 = 16) (hz9 : sZ S 9 = 0) (hn9 : sN S 9 = 16) (hz10 : sZ S 10 = 0) (hn10 : sN S 10 = 16) (hz11 : sZ S 11 = 0) (hn11 : sN S 11 = 16) (hz12 : sZ S 12 = 0) (hn12 : sN S 12 = 16) (hz13 : sZ S 13 = 0) (hn13 : sN S 13 = 16) (hz21 : sZ S 21 = 0) (hn21 : sN S 21 = 16) (hz22 : sZ S 22 = 0) (hn22 : sN S 22 = 16) (hz23 : sZ S 23 = 0) (hn23 : sN S 23 = 16) (hz14 : sZ S 14 = 0) (hn14 : sN S 14 = 16) (hz15 : sZ S 15 = 0) (hn15 : sN S 15 = 16) (hz16 : sZ S 16 = 0) (hn16 : sN S 16 = 16) : gMi l d b yX11_compile cX11_compile 1 .int 11 200 26000 F [.ref (gO' Y 0)] (fun r F' => r = (-1) ∧ ∃ S', gWT d Y F' S' ∧ gKp Y F F' ∧ gSm S S' [0, 1, 2, 3, 4, 5, 6, 7, 8, 9, 10, 11, 12, 13, 14, 15, 16, 17, 18, 19, 20, 21, 22, 23] [2, 3, 4, 5, 6, 8, 9, 10, 11]) := by
  refine gM_of2 rfl (nL := 1) (Nat.le_of_ble_eq_true rfl) ?_
  intro X hX hC; subst hX
  show gG X d b _ F 0 0 0 [some (.ref (gO' Y 0))] []
  have hM0 : gSm S S [0, 1, 2, 3, 4, 5, 6, 7, 8, 9, 10, 11, 12, 13, 14, 15, 16, 17, 18, 19, 20, 21, 22, 23] [2, 3, 4, 5, 6, 8, 9, 10, 11] := gSm.rf
  have hK0 : gKp Y F F := gKp.rf
  refine g_aload_n hC dX11_compile_0 rfl ?_
  refine g_get hC fl_X11_21 (hW.o 0 (by decide)) rfl dX11_compile_1 ?_
  refine g_aload_n hC dX11_compile_4 rfl ?_
  refine g_get hC fl_X11_75 (hW.o 0 (by decide)) rfl dX11_compile_5 ?_
  refine g_callVv (As := [.int (sV S 0)]) hC rfl (hW.o 1 (by decide)) (c_P_clear X.la d b Y F S hW (sV S 0) hz1 hn1 hz2 hn2 hz3 hn3 hz4 hn4 hz5 hn5 hz6 hn6) cl_X11_95 rfl rfl (Nat.le_of_ble_eq_true rfl) (gFit_of (Nat.le_of_ble_eq_true rfl) (Nat.le_of_ble_eq_true rfl) (by first | exact Nat.le_of_ble_eq_true rfl | omega | (simp only [gR]; omega)) (by first | exact Nat.le_of_ble_eq_true rfl | omega | (simp only [gR]; omega))) dX11_compile_8 (fun F1 p2 => ?_)
  obtain ⟨S4, hW5, k6, s7, y8, y9, y10, y11, y12, y13, y14⟩ := p2
  have hM15 : gSm S S4 [0, 1, 2, 3, 4, 5, 6, 7, 8, 9, 10, 11, 12, 13, 14, 15, 16, 17, 18, 19, 20, 21, 22, 23] [2, 3, 4, 5, 6, 8, 9, 10, 11] := hM0.tr s7 _ _ rfl rfl
  have hK16 : gKp Y F F1 := hK0.tr k6
  have z17 : sZ S4 0 = 0 := (s7.z 0 (by decide)).trans hz0
  have z18 : sN S4 0 = 16 := (s7.n 0 (by decide)).trans hn0
  have z19 : sZ S4 7 = 0 := (s7.z 7 (by decide)).trans hz7
  have z20 : sN S4 7 = 16 := (s7.n 7 (by decide)).trans hn7
  have z21 : sZ S4 8 = 0 := (s7.z 8 (by decide)).trans hz8
  have z22 : sN S4 8 = 16 := (s7.n 8 (by decide)).trans hn8
  have z23 : sZ S4 9 = 0 := (s7.z 9 (by decide)).trans hz9
  have z24 : sN S4 9 = 16 := (s7.n 9 (by decide)).trans hn9
  have z25 : sZ S4 10 = 0 := (s7.z 10 (by decide)).trans hz10
  have z26 : sN S4 10 = 16 := (s7.n 10 (by decide)).trans hn10
  have z27 : sZ S4 11 = 0 := (s7.z 11 (by decide)).trans hz11
  have z28 : sN S4 11 = 16 := (s7.n 11 (by decide)).trans hn11
  have z29 : sZ S4 12 = 0 := (s7.z 12 (by decide)).trans hz12
  have z30 : sN S4 12 = 16 := (s7.n 12 (by decide)).trans hn12
  have z31 : sZ S4 13 = 0 := (s7.z 13 (by decide)).trans hz13
  have z32 : sN S4 13 = 16 := (s7.n 13 (by decide)).trans hn13
  have z33 : sZ S4 21 = 0 := (s7.z 21 (by decide)).trans hz21
  have z34 : sN S4 21 = 16 := (s7.n 21 (by decide)).trans hn21
  have z35 : sZ S4 22 = 0 := (s7.z 22 (by decide)).trans hz22
  have z36 : sN S4 22 = 16 := (s7.n 22 (by decide)).trans hn22
  have z37 : sZ S4 23 = 0 := (s7.z 23 (by decide)).trans hz23
  have z38 : sN S4 23 = 16 := (s7.n 23 (by decide)).trans hn23
  have z39 : sZ S4 14 = 0 := (s7.z 14 (by decide)).trans hz14
  have z40 : sN S4 14 = 16 := (s7.n 14 (by decide)).trans hn14
  have z41 : sZ S4 15 = 0 := (s7.z 15 (by decide)).trans hz15
  have z42 : sN S4 15 = 16 := (s7.n 15 (by decide)).trans hn15
  have z43 : sZ S4 16 = 0 := (s7.z 16 (by decide)).trans hz16
  have z44 : sN S4 16 = 16 := (s7.n 16 (by decide)).trans hn16
  clear hz0 hn0 hz1 hn1 hz2 hn2 hz3 hn3 hz4 hn4 hz5 hn5 hz6 hn6 hz7 hn7 hz8 hn8 hz9 hn9 hz10 hn10 hz11 hn11 hz12 hn12 hz13 hn13 hz21 hn21 hz22 hn22 hz23 hn23 hz14 hn14 hz15 hn15 hz16 hn16 hM0 hK0 s7 k6 hW
  refine g_aload_n hC dX11_compile_11 rfl ?_
  refine g_get hC fl_X11_37 (hW5.o 0 (by decide)) rfl dX11_compile_12 ?_
  refine g_callVv (As := []) hC rfl (hW5.o 3 (by decide)) (c_S_scan0 X.la d b Y F1 S4 hW5 z17 z18 z39 z40 z41 z42 z43 z44) cl_X11_98 rfl rfl (Nat.le_of_ble_eq_true rfl) (gFit_of (Nat.le_of_ble_eq_true rfl) (Nat.le_of_ble_eq_true rfl) (by first | exact Nat.le_of_ble_eq_true rfl | omega | (simp only [gR]; omega)) (by first | exact Nat.le_of_ble_eq_true rfl | omega | (simp only [gR]; omega))) dX11_compile_15 (fun F45 p46 => ?_)
  obtain ⟨S48, hW49, k50, s51, y52, y53, y54⟩ := p46
  have hM55 : gSm S S48 [0, 1, 2, 3, 4, 5, 6, 7, 8, 9, 10, 11, 12, 13, 14, 15, 16, 17, 18, 19, 20, 21, 22, 23] [2, 3, 4, 5, 6, 8, 9, 10, 11] := hM15.tr s51 _ _ rfl rfl
  have hK56 : gKp Y F F45 := hK16.tr k50
  have z57 : sZ S48 0 = 0 := (s51.z 0 (by decide)).trans z17
  have z58 : sN S48 0 = 16 := (s51.n 0 (by decide)).trans z18
  have z59 : sZ S48 7 = 0 := (s51.z 7 (by decide)).trans z19
  have z60 : sN S48 7 = 16 := (s51.n 7 (by decide)).trans z20
  have z61 : sZ S48 8 = 0 := (s51.z 8 (by decide)).trans z21
  have z62 : sN S48 8 = 16 := (s51.n 8 (by decide)).trans z22
  have z63 : sZ S48 9 = 0 := (s51.z 9 (by decide)).trans z23
  have z64 : sN S48 9 = 16 := (s51.n 9 (by decide)).trans z24
  have z65 : sZ S48 10 = 0 := (s51.z 10 (by decide)).trans z25
  have z66 : sN S48 10 = 16 := (s51.n 10 (by decide)).trans z26
  have z67 : sZ S48 11 = 0 := (s51.z 11 (by decide)).trans z27
  have z68 : sN S48 11 = 16 := (s51.n 11 (by decide)).trans z28
  have z69 : sZ S48 12 = 0 := (s51.z 12 (by decide)).trans z29
  have z70 : sN S48 12 = 16 := (s51.n 12 (by decide)).trans z30
  have z71 : sZ S48 13 = 0 := (s51.z 13 (by decide)).trans z31
  have z72 : sN S48 13 = 16 := (s51.n 13 (by decide)).trans z32
  have z73 : sZ S48 21 = 0 := (s51.z 21 (by decide)).trans z33
  have z74 : sN S48 21 = 16 := (s51.n 21 (by decide)).trans z34
  have z75 : sZ S48 22 = 0 := (s51.z 22 (by decide)).trans z35
  have z76 : sN S48 22 = 16 := (s51.n 22 (by decide)).trans z36
  have z77 : sZ S48 23 = 0 := (s51.z 23 (by decide)).trans z37
  have z78 : sN S48 23 = 16 := (s51.n 23 (by decide)).trans z38
  have z79 : sZ S48 2 = 100 := (s51.z 2 (by decide)).trans y8
  have z80 : sN S48 2 = (sN S4 2) := (s51.n 2 (by decide)).trans rfl
  have z81 : sZ S48 3 = 0 := (s51.z 3 (by decide)).trans y9
  have z82 : sN S48 3 = (sN S4 3) := (s51.n 3 (by decide)).trans rfl
  have z83 : sZ S48 5 = 0 := (s51.z 5 (by decide)).trans y10
  have z84 : sN S48 5 = (sN S4 5) := (s51.n 5 (by decide)).trans rfl
  have z85 : sV S48 3 = (-1) := (s51.v 3 (by decide)).trans y11
  have z86 : sV S48 4 = 0 := (s51.v 4 (by decide)).trans y12
  have z87 : sV S48 5 = 0 := (s51.v 5 (by decide)).trans y13
  have z88 : sV S48 6 = 0 := (s51.v 6 (by decide)).trans y14
  clear z17 z18 z19 z20 z21 z22 z23 z24 z25 z26 z27 z28 z29 z30 z31 z32 z33 z34 z35 z36 z37 z38 z39 z40 z41 z42 z43 z44 y8 y9 y10 y11 y12 y13 y14 hM15 hK16 s51 k50 hW5
  refine g_aload_n hC dX11_compile_18 rfl ?_
  refine g_get hC fl_X11_46 (hW49.o 0 (by decide)) rfl dX11_compile_19 ?_
  refine g_callVWi (As := []) hC rfl (hW49.o 4 (by decide)) (c_Pa_reads0 X.la d b Y F45 S48 hW49 hl z86 y53 y54 z59 z60 z61 z62 z63 z64 z65 z66 z67 z68 z69 z70 z71 z72 z73 z74 z75 z76 z77 z78) cl_X11_101 rfl rfl (Nat.le_of_ble_eq_true rfl) (gFit_of (Nat.le_of_ble_eq_true rfl) (Nat.le_of_ble_eq_true rfl) (by first | exact Nat.le_of_ble_eq_true rfl | omega | (simp only [gR]; omega)) (by first | exact Nat.le_of_ble_eq_true rfl | omega | (simp only [gR]; omega))) dX11_compile_22 (fun r89 F90 p91 => ?_)
  obtain ⟨rfl, S92, hW93, k94, s95, y96, y97⟩ := p91
  have hM98 : gSm S S92 [0, 1, 2, 3, 4, 5, 6, 7, 8, 9, 10, 11, 12, 13, 14, 15, 16, 17, 18, 19, 20, 21, 22, 23] [2, 3, 4, 5, 6, 8, 9, 10, 11] := hM55.tr s95 _ _ rfl rfl
  have hK99 : gKp Y F F90 := hK56.tr k94
  have z100 : sZ S92 0 = 0 := (s95.z 0 (by decide)).trans z57
  have z101 : sN S92 0 = 16 := (s95.n 0 (by decide)).trans z58
  have z102 : sZ S92 2 = 100 := (s95.z 2 (by decide)).trans z79
  have z103 : sN S92 2 = (sN S4 2) := (s95.n 2 (by decide)).trans z80
  have z104 : sZ S92 3 = 0 := (s95.z 3 (by decide)).trans z81
  have z105 : sN S92 3 = (sN S4 3) := (s95.n 3 (by decide)).trans z82
  have z106 : sZ S92 5 = 0 := (s95.z 5 (by decide)).trans z83
  have z107 : sN S92 5 = (sN S4 5) := (s95.n 5 (by decide)).trans z84
  have z108 : sV S92 3 = (-1) := (s95.v 3 (by decide)).trans z85
  have z109 : sV S92 6 = 0 := (s95.v 6 (by decide)).trans z88
  refine g_if_eq (tgt := 42) hC dX11_compile_25 (by decide) (fun c110 => ?_) (fun c110 => ?_)
  · refine g_aload_n hC dX11_compile_42 rfl ?_
    refine g_get hC fl_X11_21 (hW93.o 0 (by decide)) rfl dX11_compile_43 ?_
    refine g_callVv (As := []) hC rfl (hW93.o 1 (by decide)) (c_P_judge1 X.la d b Y F90 S92 hW93 z102 z104 z106 y96) cl_X11_111 rfl rfl (Nat.le_of_ble_eq_true rfl) (gFit_of (Nat.le_of_ble_eq_true rfl) (Nat.le_of_ble_eq_true rfl) (by first | exact Nat.le_of_ble_eq_true rfl | omega | (simp only [gR]; omega)) (by first | exact Nat.le_of_ble_eq_true rfl | omega | (simp only [gR]; omega))) dX11_compile_46 (fun F111 p112 => ?_)
    obtain ⟨S114, hW115, k116, s117⟩ := p112
    have hM118 : gSm S S114 [0, 1, 2, 3, 4, 5, 6, 7, 8, 9, 10, 11, 12, 13, 14, 15, 16, 17, 18, 19, 20, 21, 22, 23] [2, 3, 4, 5, 6, 8, 9, 10, 11] := hM98.tr s117 _ _ rfl rfl
    have hK119 : gKp Y F F111 := hK99.tr k116
    have z120 : sZ S114 0 = 0 := (s117.z 0 (by decide)).trans z100
    have z121 : sN S114 0 = 16 := (s117.n 0 (by decide)).trans z101
    have z122 : sZ S114 2 = 100 := (s117.z 2 (by decide)).trans z102
    have z123 : sN S114 2 = (sN S4 2) := (s117.n 2 (by decide)).trans z103
    have z124 : sZ S114 3 = 0 := (s117.z 3 (by decide)).trans z104
    have z125 : sN S114 3 = (sN S4 3) := (s117.n 3 (by decide)).trans z105
    have z126 : sZ S114 5 = 0 := (s117.z 5 (by decide)).trans z106
    have z127 : sN S114 5 = (sN S4 5) := (s117.n 5 (by decide)).trans z107
    have z128 : sV S114 3 = (-1) := (s117.v 3 (by decide)).trans z108
    have z129 : sV S114 4 = 2 := (s117.v 4 (by decide)).trans y96
    have z130 : sV S114 5 = 0 := (s117.v 5 (by decide)).trans y97
    clear z57 z58 z59 z60 z61 z62 z63 z64 z65 z66 z67 z68 z69 z70 z71 z72 z73 z74 z75 z76 z77 z78 z79 z80 z81 z82 z83 z84 z85 z86 z87 z88 hM55 hK56 z100 z101 z102 z103 z104 z105 z106 z107 z108 z109 y96 y97 hM98 hK99 s117 k116 hW93
    refine g_aload_n hC dX11_compile_49 rfl ?_
    refine g_get hC fl_X11_14 (hW115.o 0 (by decide)) rfl dX11_compile_50 ?_
    refine g_iconst (v := 0) hC dX11_compile_53 rfl ?_
    refine g_callVv (As := [.int 0]) hC rfl (hW115.r 0 (by decide)).1 (c_Ints_cut X.la d b F111 _ _ _ _ _ _ (hW115.r 0 (by decide)) 0) cl_X11_92 rfl rfl (Nat.le_of_ble_eq_true rfl) (gFit_of (Nat.le_of_ble_eq_true rfl) (Nat.le_of_ble_eq_true rfl) (by first | exact Nat.le_of_ble_eq_true rfl | omega | (simp only [gR]; omega)) (by first | exact Nat.le_of_ble_eq_true rfl | omega | (simp only [gR]; omega))) dX11_compile_54 (fun F132 p133 => ?_)
    obtain ⟨S134, hW135, k136, s137, u138, u139, u140, u141, u142⟩ := wt_cut hW115 (by decide) p133
    have hM143 : gSm S S134 [0, 1, 2, 3, 4, 5, 6, 7, 8, 9, 10, 11, 12, 13, 14, 15, 16, 17, 18, 19, 20, 21, 22, 23] [2, 3, 4, 5, 6, 8, 9, 10, 11] := hM118.tr s137 _ _ rfl rfl
    have hK144 : gKp Y F F132 := hK119.tr k136
    have z145 : sZ S134 2 = 100 := (s137.z 2 (by decide)).trans z122
    have z146 : sN S134 2 = (sN S4 2) := (s137.n 2 (by decide)).trans z123
    have z147 : sZ S134 3 = 0 := (s137.z 3 (by decide)).trans z124
    have z148 : sN S134 3 = (sN S4 3) := (s137.n 3 (by decide)).trans z125
    have z149 : sZ S134 5 = 0 := (s137.z 5 (by decide)).trans z126
    have z150 : sN S134 5 = (sN S4 5) := (s137.n 5 (by decide)).trans z127
    have z151 : sV S134 3 = (-1) := (s137.v 3 (by decide)).trans z128
    have z152 : sV S134 4 = 2 := (s137.v 4 (by decide)).trans z129
    have z153 : sV S134 5 = 0 := (s137.v 5 (by decide)).trans z130
    have z154 : sZ S134 0 = 0 := Nat.le_zero.mp (Nat.le_trans u142 (Nat.le_of_eq z120))
    have z155 : sN S134 0 = 16 := u138.trans z121
    clear z120 z121 z122 z123 z124 z125 z126 z127 z128 z129 z130 hM118 hK119 s137 k136 hW115 p133 u138 u139 u140 u141 u142
    refine g_aload_n hC dX11_compile_57 rfl ?_
    refine g_get hC fl_X11_21 (hW135.o 0 (by decide)) rfl dX11_compile_58 ?_
    refine g_callVi (As := []) hC rfl (hW135.o 1 (by decide)) (c_P_kind X.la d b Y F132 S134 hW135 ) cl_X11_114 rfl rfl (Nat.le_of_ble_eq_true rfl) (gFit_of (Nat.le_of_ble_eq_true rfl) (Nat.le_of_ble_eq_true rfl) (by first | exact Nat.le_of_ble_eq_true rfl | omega | (simp only [gR]; omega)) (by first | exact Nat.le_of_ble_eq_true rfl | omega | (simp only [gR]; omega))) dX11_compile_61 (fun r158 F156 p157 => ?_)
    obtain ⟨rfl, eF156⟩ := p157; have eF156 := eF156.symm; subst eF156
    refine g_if_eq (tgt := 77) hC dX11_compile_64 (by decide) (fun c159 => ?_) (fun c159 => ?_)
    · rw [z152] at c159; exact absurd c159 (by decide)
    · refine g_iconst (v := (-1)) hC dX11_compile_67 rfl ?_
      refine g_aload_n hC dX11_compile_68 rfl ?_
      refine g_get hC fl_X11_21 (hW135.o 0 (by decide)) rfl dX11_compile_69 ?_
      refine g_callVi (As := []) hC rfl (hW135.o 1 (by decide)) (c_P_place X.la d b Y F132 S134 hW135 ) cl_X11_117 rfl rfl (Nat.le_of_ble_eq_true rfl) (gFit_of (Nat.le_of_ble_eq_true rfl) (Nat.le_of_ble_eq_true rfl) (by first | exact Nat.le_of_ble_eq_true rfl | omega | (simp only [gR]; omega)) (by first | exact Nat.le_of_ble_eq_true rfl | omega | (simp only [gR]; omega))) dX11_compile_72 (fun r162 F160 p161 => ?_)
      obtain ⟨rfl, eF160⟩ := p161; have eF160 := eF160.symm; subst eF160
      refine g_isub hC dX11_compile_75 ?_
      refine g_vi (fun x163 ex163 => ?_)
      exact g_iret hC rfl ⟨by rw [ex163, z153]; rfl, S134, hW135, hK144, hM143⟩ (by first | exact Nat.le_of_ble_eq_true rfl | omega | (simp only [gR]; omega)) (by first | exact Nat.le_of_ble_eq_true rfl | omega | (simp only [gR]; omega)) dX11_compile_76
  · exact absurd rfl c110
