theorem kw_532 : Cond.fieldLink RX6 43 "WordTongue$Parser" "kinds" "LWordTongue$Ints;" ∈ gWs := gWm 532 (by decide +kernel) rfl
theorem kw_544 : Cond.laysFinal RX6 "WordTongue$Parser" "kinds" "LWordTongue$Ints;" ∈ gWs := gWm 544 (by decide +kernel) rfl
theorem kw_546 : Cond.laysFinal RX6 "WordTongue$Parser" "infos" "LWordTongue$Ints;" ∈ gWs := gWm 546 (by decide +kernel) rfl
theorem kw_548 : Cond.laysFinal RX6 "WordTongue$Parser" "places" "LWordTongue$Ints;" ∈ gWs := gWm 548 (by decide +kernel) rfl
theorem kw_550 : Cond.laysFinal RX6 "WordTongue$Parser" "strings" "LWordTongue$Ints;" ∈ gWs := gWm 550 (by decide +kernel) rfl
theorem kw_552 : Cond.laysFinal RX6 "WordTongue$Parser" "tree" "LWordTongue$Tree;" ∈ gWs := gWm 552 (by decide +kernel) rfl
theorem kw_554 : Cond.laysFinal RX6 "WordTongue$Parser" "program" "LWordTongue$Program;" ∈ gWs := gWm 554 (by decide +kernel) rfl
theorem kw_556 : Cond.laysFinal RX6 "WordTongue$Parser" "tags" "LWordTongue$Ints;" ∈ gWs := gWm 556 (by decide +kernel) rfl
theorem kw_558 : Cond.laysFinal RX6 "WordTongue$Parser" "signs" "LWordTongue$Ints;" ∈ gWs := gWm 558 (by decide +kernel) rfl
theorem kw_560 : Cond.laysFinal RX6 "WordTongue$Parser" "globals" "LWordTongue$Ints;" ∈ gWs := gWm 560 (by decide +kernel) rfl
theorem kw_562 : Cond.lays RX6 "WordTongue$Parser" "at" "I" ∈ gWs := gWm 562 (by decide +kernel) rfl
theorem kw_564 : Cond.lays RX6 "WordTongue$Parser" "depth" "I" ∈ gWs := gWm 564 (by decide +kernel) rfl
theorem kw_566 : Cond.lays RX6 "WordTongue$Parser" "root" "I" ∈ gWs := gWm 566 (by decide +kernel) rfl
set_option maxRecDepth 20000 in
theorem inW_RX6 : ∀ w ∈ u_ws RX6 TX6 12, w ∈ gWs := List.forall_mem_cons.mpr ⟨kw_544, List.forall_mem_cons.mpr ⟨kw_546, List.forall_mem_cons.mpr ⟨kw_548, List.forall_mem_cons.mpr ⟨kw_550, List.forall_mem_cons.mpr ⟨kw_552, List.forall_mem_cons.mpr ⟨kw_554, List.forall_mem_cons.mpr ⟨kw_556, List.forall_mem_cons.mpr ⟨kw_558, List.forall_mem_cons.mpr ⟨kw_560, List.forall_mem_cons.mpr ⟨kw_562, List.forall_mem_cons.mpr ⟨kw_564, List.forall_mem_cons.mpr ⟨kw_566, fun _ h => nomatch h⟩⟩⟩⟩⟩⟩⟩⟩⟩⟩⟩⟩
theorem fl_X6_43 : gFL RX6 43 6 0 (.object "WordTongue$Ints") true := ⟨RX6, TX6, 12, tyX6, rfl, by decide, inW_RX6, kw_532, tyX6_ok, nmX6, rfl, by decide +kernel, fun _ => rfl⟩
theorem kw_541 : Cond.fieldLink RX6 27 "WordTongue$Parser" "at" "I" ∈ gWs := gWm 541 (by decide +kernel) rfl
theorem fl_X6_27 : gFL RX6 27 6 9 .int false := ⟨RX6, TX6, 12, tyX6, rfl, by decide, inW_RX6, kw_541, tyX6_ok, nmX6, rfl, by decide +kernel, fun h => by cases h⟩
theorem kw_436 : Cond.code yX4_get cX4_get 2 (some .int) ∈ gWs := gWm 436 (by decide +kernel) rfl
theorem kw_971 : Cond.methodLink RX6 82 yX4_get ∈ gWs := gWm 971 (by decide +kernel) rfl
theorem kw_434 : Cond.instanceMethod yX4_get ∈ gWs := gWm 434 (by decide +kernel) rfl
theorem kw_435 : Cond.selects RX4 yX4_get yX4_get ∈ gWs := gWm 435 (by decide +kernel) rfl
theorem cl_X6_82 : gCV RX6 82 yX4_get cX4_get 2 (some .int) 1 := ⟨g_mk [.methodLink RX6 82 yX4_get, .instanceMethod yX4_get, .selects yX4_get.cls yX4_get yX4_get, .initialized yX4_get.cls] (gWs_all kw_436) (List.forall_mem_cons.mpr ⟨kw_971, List.forall_mem_cons.mpr ⟨kw_434, List.forall_mem_cons.mpr ⟨kw_435, List.forall_mem_cons.mpr ⟨kw_239, fun _ h => nomatch h⟩⟩⟩⟩), rfl, by decide +kernel, by decide +kernel, by decide +kernel⟩
theorem kw_534 : Cond.fieldLink RX6 53 "WordTongue$Parser" "places" "LWordTongue$Ints;" ∈ gWs := gWm 534 (by decide +kernel) rfl
theorem fl_X6_53 : gFL RX6 53 6 2 (.object "WordTongue$Ints") true := ⟨RX6, TX6, 12, tyX6, rfl, by decide, inW_RX6, kw_534, tyX6_ok, nmX6, rfl, by decide +kernel, fun _ => rfl⟩
theorem kw_537 : Cond.fieldLink RX6 64 "WordTongue$Parser" "program" "LWordTongue$Program;" ∈ gWs := gWm 537 (by decide +kernel) rfl
theorem fl_X6_64 : gFL RX6 64 6 5 (.object "WordTongue$Program") true := ⟨RX6, TX6, 12, tyX6, rfl, by decide, inW_RX6, kw_537, tyX6_ok, nmX6, rfl, by decide +kernel, fun _ => rfl⟩
theorem kw_1008 : Cond.code yX7_blame cX7_blame 4 none ∈ gWs := gWm 1008 (by decide +kernel) rfl
theorem kw_1005 : Cond.methodLink RX6 86 yX7_blame ∈ gWs := gWm 1005 (by decide +kernel) rfl
theorem kw_1006 : Cond.instanceMethod yX7_blame ∈ gWs := gWm 1006 (by decide +kernel) rfl
theorem kw_1007 : Cond.selects RX7 yX7_blame yX7_blame ∈ gWs := gWm 1007 (by decide +kernel) rfl
theorem cl_X6_86 : gCV RX6 86 yX7_blame cX7_blame 4 none 2 := ⟨g_mk [.methodLink RX6 86 yX7_blame, .instanceMethod yX7_blame, .selects yX7_blame.cls yX7_blame yX7_blame, .initialized yX7_blame.cls] (gWs_all kw_1008) (List.forall_mem_cons.mpr ⟨kw_1005, List.forall_mem_cons.mpr ⟨kw_1006, List.forall_mem_cons.mpr ⟨kw_1007, List.forall_mem_cons.mpr ⟨kw_240, fun _ h => nomatch h⟩⟩⟩⟩), rfl, by decide +kernel, by decide +kernel, by decide +kernel⟩
theorem kw_950 : Cond.classLink RX6 80 "java/lang/IllegalStateException" ∈ gWs := gWm 950 (by decide +kernel) rfl
theorem kw_261 : Cond.initialized "java/lang/IllegalStateException" ∈ gWs := gWm 261 (by decide +kernel) rfl
theorem kw_250 : Cond.initialized RX6 ∈ gWs := gWm 250 (by decide +kernel) rfl
theorem kw_980 : Cond.code yX6_kind cX6_kind 1 (some .int) ∈ gWs := gWm 980 (by decide +kernel) rfl
theorem kw_977 : Cond.methodLink RX6 97 yX6_kind ∈ gWs := gWm 977 (by decide +kernel) rfl
theorem kw_979 : Cond.instanceMethod yX6_kind ∈ gWs := gWm 979 (by decide +kernel) rfl
theorem kw_18 : Cond.selects RX6 yX6_kind yX6_kind ∈ gWs := gWm 18 (by decide +kernel) rfl
theorem cl_X6_97 : gCV RX6 97 yX6_kind cX6_kind 1 (some .int) 0 := ⟨g_mk [.methodLink RX6 97 yX6_kind, .instanceMethod yX6_kind, .selects yX6_kind.cls yX6_kind yX6_kind, .initialized yX6_kind.cls] (gWs_all kw_980) (List.forall_mem_cons.mpr ⟨kw_977, List.forall_mem_cons.mpr ⟨kw_979, List.forall_mem_cons.mpr ⟨kw_18, List.forall_mem_cons.mpr ⟨kw_250, fun _ h => nomatch h⟩⟩⟩⟩), rfl, by decide +kernel, by decide +kernel, by decide +kernel⟩
theorem kw_1004 : Cond.code yX6_refuse cX6_refuse 1 none ∈ gWs := gWm 1004 (by decide +kernel) rfl
theorem kw_1001 : Cond.methodLink RX6 100 yX6_refuse ∈ gWs := gWm 1001 (by decide +kernel) rfl
theorem kw_1003 : Cond.instanceMethod yX6_refuse ∈ gWs := gWm 1003 (by decide +kernel) rfl
theorem kw_24 : Cond.selects RX6 yX6_refuse yX6_refuse ∈ gWs := gWm 24 (by decide +kernel) rfl
theorem cl_X6_100 : gCV RX6 100 yX6_refuse cX6_refuse 1 none 0 := ⟨g_mk [.methodLink RX6 100 yX6_refuse, .instanceMethod yX6_refuse, .selects yX6_refuse.cls yX6_refuse yX6_refuse, .initialized yX6_refuse.cls] (gWs_all kw_1004) (List.forall_mem_cons.mpr ⟨kw_1001, List.forall_mem_cons.mpr ⟨kw_1003, List.forall_mem_cons.mpr ⟨kw_24, List.forall_mem_cons.mpr ⟨kw_250, fun _ h => nomatch h⟩⟩⟩⟩), rfl, by decide +kernel, by decide +kernel, by decide +kernel⟩
theorem kw_536 : Cond.fieldLink RX6 60 "WordTongue$Parser" "tree" "LWordTongue$Tree;" ∈ gWs := gWm 536 (by decide +kernel) rfl
theorem fl_X6_60 : gFL RX6 60 6 4 (.object "WordTongue$Tree") true := ⟨RX6, TX6, 12, tyX6, rfl, by decide, inW_RX6, kw_536, tyX6_ok, nmX6, rfl, by decide +kernel, fun _ => rfl⟩
theorem kw_970 : Cond.code yX6_place cX6_place 1 (some .int) ∈ gWs := gWm 970 (by decide +kernel) rfl
theorem kw_967 : Cond.methodLink RX6 112 yX6_place ∈ gWs := gWm 967 (by decide +kernel) rfl
theorem kw_969 : Cond.instanceMethod yX6_place ∈ gWs := gWm 969 (by decide +kernel) rfl
theorem kw_16 : Cond.selects RX6 yX6_place yX6_place ∈ gWs := gWm 16 (by decide +kernel) rfl
theorem cl_X6_112 : gCV RX6 112 yX6_place cX6_place 1 (some .int) 0 := ⟨g_mk [.methodLink RX6 112 yX6_place, .instanceMethod yX6_place, .selects yX6_place.cls yX6_place yX6_place, .initialized yX6_place.cls] (gWs_all kw_970) (List.forall_mem_cons.mpr ⟨kw_967, List.forall_mem_cons.mpr ⟨kw_969, List.forall_mem_cons.mpr ⟨kw_16, List.forall_mem_cons.mpr ⟨kw_250, fun _ h => nomatch h⟩⟩⟩⟩), rfl, by decide +kernel, by decide +kernel, by decide +kernel⟩
theorem kw_972 : Cond.methodLink RX6 115 yX10_node ∈ gWs := gWm 972 (by decide +kernel) rfl
theorem cl_X6_115 : gCV RX6 115 yX10_node cX10_node 4 (some .int) 3 := ⟨g_mk [.methodLink RX6 115 yX10_node, .instanceMethod yX10_node, .selects yX10_node.cls yX10_node yX10_node, .initialized yX10_node.cls] (gWs_all kw_959) (List.forall_mem_cons.mpr ⟨kw_972, List.forall_mem_cons.mpr ⟨kw_957, List.forall_mem_cons.mpr ⟨kw_958, List.forall_mem_cons.mpr ⟨kw_241, fun _ h => nomatch h⟩⟩⟩⟩), rfl, by decide +kernel, by decide +kernel, by decide +kernel⟩
theorem kw_1086 : Cond.code yX6_due cX6_due 2 none ∈ gWs := gWm 1086 (by decide +kernel) rfl
theorem kw_1083 : Cond.methodLink RX6 109 yX6_due ∈ gWs := gWm 1083 (by decide +kernel) rfl
theorem kw_1085 : Cond.instanceMethod yX6_due ∈ gWs := gWm 1085 (by decide +kernel) rfl
theorem kw_28 : Cond.selects RX6 yX6_due yX6_due ∈ gWs := gWm 28 (by decide +kernel) rfl
theorem cl_X6_109 : gCV RX6 109 yX6_due cX6_due 2 none 1 := ⟨g_mk [.methodLink RX6 109 yX6_due, .instanceMethod yX6_due, .selects yX6_due.cls yX6_due yX6_due, .initialized yX6_due.cls] (gWs_all kw_1086) (List.forall_mem_cons.mpr ⟨kw_1083, List.forall_mem_cons.mpr ⟨kw_1085, List.forall_mem_cons.mpr ⟨kw_28, List.forall_mem_cons.mpr ⟨kw_250, fun _ h => nomatch h⟩⟩⟩⟩), rfl, by decide +kernel, by decide +kernel, by decide +kernel⟩
theorem kw_514 : Cond.constant RX6 11 1000000 ∈ gWs := gWm 514 (by decide +kernel) rfl
theorem kw_976 : Cond.code yX6_declaration cX6_declaration 5 (some .int) ∈ gWs := gWm 976 (by decide +kernel) rfl
theorem kw_973 : Cond.methodLink RX6 119 yX6_declaration ∈ gWs := gWm 973 (by decide +kernel) rfl
theorem kw_975 : Cond.instanceMethod yX6_declaration ∈ gWs := gWm 975 (by decide +kernel) rfl
theorem kw_17 : Cond.selects RX6 yX6_declaration yX6_declaration ∈ gWs := gWm 17 (by decide +kernel) rfl
theorem cl_X6_119 : gCV RX6 119 yX6_declaration cX6_declaration 5 (some .int) 1 := ⟨g_mk [.methodLink RX6 119 yX6_declaration, .instanceMethod yX6_declaration, .selects yX6_declaration.cls yX6_declaration yX6_declaration, .initialized yX6_declaration.cls] (gWs_all kw_976) (List.forall_mem_cons.mpr ⟨kw_973, List.forall_mem_cons.mpr ⟨kw_975, List.forall_mem_cons.mpr ⟨kw_17, List.forall_mem_cons.mpr ⟨kw_250, fun _ h => nomatch h⟩⟩⟩⟩), rfl, by decide +kernel, by decide +kernel, by decide +kernel⟩
theorem gGet00 {f : Nat → Int32} {z : Nat} (h : f 0 = 0) : gGet f z 0 = 0 := by
  unfold gGet
  rw [if_neg (by decide)]
  split
  · exact h
  · rfl
theorem dX6_kind_0 : decode cX6_kind 0 = .ok (.aload_n 0, 1) := by decide +kernel
theorem dX6_kind_1 : decode cX6_kind 1 = .ok (.getfield 43, 3) := by decide +kernel
theorem dX6_kind_4 : decode cX6_kind 4 = .ok (.aload_n 0, 1) := by decide +kernel
theorem dX6_kind_5 : decode cX6_kind 5 = .ok (.getfield 27, 3) := by decide +kernel
theorem dX6_kind_8 : decode cX6_kind 8 = .ok (.invokevirtual 82, 3) := by decide +kernel
theorem dX6_kind_11 : decode cX6_kind 11 = .ok (.ireturn, 1) := by decide +kernel
set_option maxHeartbeats 4000000 in
set_option maxRecDepth 100000 in
theorem c_Pa_kind (l : Launch) (d : gD) (b : Nat) (Y : gYt) (F : gM) (S : gSt) (hW : gWT d Y F S)  : gMi l d b yX6_kind cX6_kind 1 .int 1 0 0 F [.ref (gO' Y 4)] (fun r F' => r = gGet (sF S 14) (sZ S 14) (sV S 10) ∧ F' = F) := by
  refine gM_of2 rfl (nL := 1) (Nat.le_of_ble_eq_true rfl) ?_
  intro X hX hC; subst hX
  show gG X d b _ F 0 0 0 [some (.ref (gO' Y 4))] []
  have hM0 : gSm S S [] [] := gSm.rf
  have hK0 : gKp Y F F := gKp.rf
  refine g_aload_n hC dX6_kind_0 rfl ?_
  refine g_get hC fl_X6_43 (hW.o 4 (by decide)) rfl dX6_kind_1 ?_
  refine g_aload_n hC dX6_kind_4 rfl ?_
  refine g_get hC fl_X6_27 (hW.o 4 (by decide)) rfl dX6_kind_5 ?_
  refine g_callVi (As := [.int (sV S 10)]) hC rfl (hW.r 14 (by decide)).1 (c_Ints_get X.la d b F _ _ _ _ _ _ (hW.r 14 (by decide)) (sV S 10)) cl_X6_82 rfl rfl (Nat.le_of_ble_eq_true rfl) (gFit_of (Nat.le_of_ble_eq_true rfl) (Nat.le_of_ble_eq_true rfl) (by first | exact Nat.le_of_ble_eq_true rfl | omega | (simp only [gR]; omega)) (by first | exact Nat.le_of_ble_eq_true rfl | omega | (simp only [gR]; omega))) dX6_kind_8 (fun r1 F2 p3 => ?_)
  obtain ⟨er1, eF2⟩ := p3; have eF2 := eF2.symm; subst eF2
  exact g_iret hC rfl ⟨er1, rfl⟩ (by first | exact Nat.le_of_ble_eq_true rfl | omega | (simp only [gR]; omega)) (by first | exact Nat.le_of_ble_eq_true rfl | omega | (simp only [gR]; omega)) dX6_kind_11
theorem dX6_place_0 : decode cX6_place 0 = .ok (.aload_n 0, 1) := by decide +kernel
theorem dX6_place_1 : decode cX6_place 1 = .ok (.getfield 53, 3) := by decide +kernel
theorem dX6_place_4 : decode cX6_place 4 = .ok (.aload_n 0, 1) := by decide +kernel
theorem dX6_place_5 : decode cX6_place 5 = .ok (.getfield 27, 3) := by decide +kernel
theorem dX6_place_8 : decode cX6_place 8 = .ok (.invokevirtual 82, 3) := by decide +kernel
theorem dX6_place_11 : decode cX6_place 11 = .ok (.ireturn, 1) := by decide +kernel
set_option maxHeartbeats 4000000 in
set_option maxRecDepth 100000 in
theorem c_Pa_place (l : Launch) (d : gD) (b : Nat) (Y : gYt) (F : gM) (S : gSt) (hW : gWT d Y F S)  : gMi l d b yX6_place cX6_place 1 .int 1 0 0 F [.ref (gO' Y 4)] (fun r F' => r = gGet (sF S 16) (sZ S 16) (sV S 10) ∧ F' = F) := by
  refine gM_of2 rfl (nL := 1) (Nat.le_of_ble_eq_true rfl) ?_
  intro X hX hC; subst hX
  show gG X d b _ F 0 0 0 [some (.ref (gO' Y 4))] []
  have hM0 : gSm S S [] [] := gSm.rf
  have hK0 : gKp Y F F := gKp.rf
  refine g_aload_n hC dX6_place_0 rfl ?_
  refine g_get hC fl_X6_53 (hW.o 4 (by decide)) rfl dX6_place_1 ?_
  refine g_aload_n hC dX6_place_4 rfl ?_
  refine g_get hC fl_X6_27 (hW.o 4 (by decide)) rfl dX6_place_5 ?_
  refine g_callVi (As := [.int (sV S 10)]) hC rfl (hW.r 16 (by decide)).1 (c_Ints_get X.la d b F _ _ _ _ _ _ (hW.r 16 (by decide)) (sV S 10)) cl_X6_82 rfl rfl (Nat.le_of_ble_eq_true rfl) (gFit_of (Nat.le_of_ble_eq_true rfl) (Nat.le_of_ble_eq_true rfl) (by first | exact Nat.le_of_ble_eq_true rfl | omega | (simp only [gR]; omega)) (by first | exact Nat.le_of_ble_eq_true rfl | omega | (simp only [gR]; omega))) dX6_place_8 (fun r1 F2 p3 => ?_)
  obtain ⟨er1, eF2⟩ := p3; have eF2 := eF2.symm; subst eF2
  exact g_iret hC rfl ⟨er1, rfl⟩ (by first | exact Nat.le_of_ble_eq_true rfl | omega | (simp only [gR]; omega)) (by first | exact Nat.le_of_ble_eq_true rfl | omega | (simp only [gR]; omega)) dX6_place_11
set_option maxRecDepth 20000 in
theorem x_ise1 : ∀ w ∈ (vx_atS RX6 94 "java/lang/IllegalStateException" ["java/lang/RuntimeException", "java/lang/Exception"]).filter goodWord, w ∈ gWs := fun w h => List.mem_filter.mpr ⟨(by decide +kernel : ∀ w ∈ (vx_atS RX6 94 "java/lang/IllegalStateException" ["java/lang/RuntimeException", "java/lang/Exception"]).filter goodWord, w ∈ lw_tbl) w h, (List.mem_filter.mp h).2⟩
theorem x_ise2 : ∀ w ∈ (vx_atS RX6 94 "java/lang/IllegalStateException" ["java/lang/RuntimeException", "java/lang/Exception"]).filter (fun w => !goodWord w), w ∈ gCs.map (fun q => Cond.castable q.1 q.2) ++ gDs.map Cond.declares := by decide +kernel
theorem x_ise3 : ∀ w ∈ Cond.classLink RX6 80 "java/lang/IllegalStateException" :: Cond.initialized "java/lang/IllegalStateException" :: vx_atS RX6 94 "java/lang/IllegalStateException" ["java/lang/RuntimeException", "java/lang/Exception"], vx_ot w = true := by decide +kernel
theorem dX6_refuse_0 : decode cX6_refuse 0 = .ok (.aload_n 0, 1) := by decide +kernel
theorem dX6_refuse_1 : decode cX6_refuse 1 = .ok (.getfield 64, 3) := by decide +kernel
theorem dX6_refuse_4 : decode cX6_refuse 4 = .ok (.aload_n 0, 1) := by decide +kernel
theorem dX6_refuse_5 : decode cX6_refuse 5 = .ok (.getfield 43, 3) := by decide +kernel
theorem dX6_refuse_8 : decode cX6_refuse 8 = .ok (.aload_n 0, 1) := by decide +kernel
theorem dX6_refuse_9 : decode cX6_refuse 9 = .ok (.getfield 27, 3) := by decide +kernel
theorem dX6_refuse_12 : decode cX6_refuse 12 = .ok (.invokevirtual 82, 3) := by decide +kernel
theorem dX6_refuse_15 : decode cX6_refuse 15 = .ok (.iconst 1, 1) := by decide +kernel
theorem dX6_refuse_16 : decode cX6_refuse 16 = .ok (.if_icmp .ne 7, 3) := by decide +kernel
theorem dX6_refuse_19 : decode cX6_refuse 19 = .ok (.iconst 1, 1) := by decide +kernel
theorem dX6_refuse_20 : decode cX6_refuse 20 = .ok (.goto 4, 3) := by decide +kernel
theorem dX6_refuse_23 : decode cX6_refuse 23 = .ok (.iconst 2, 1) := by decide +kernel
theorem dX6_refuse_24 : decode cX6_refuse 24 = .ok (.aload_n 0, 1) := by decide +kernel
theorem dX6_refuse_25 : decode cX6_refuse 25 = .ok (.getfield 53, 3) := by decide +kernel
theorem dX6_refuse_28 : decode cX6_refuse 28 = .ok (.aload_n 0, 1) := by decide +kernel
theorem dX6_refuse_29 : decode cX6_refuse 29 = .ok (.getfield 27, 3) := by decide +kernel
theorem dX6_refuse_32 : decode cX6_refuse 32 = .ok (.invokevirtual 82, 3) := by decide +kernel
theorem dX6_refuse_35 : decode cX6_refuse 35 = .ok (.invokevirtual 86, 3) := by decide +kernel
theorem dX6_refuse_38 : decode cX6_refuse 38 = .ok (.new 80, 3) := by decide +kernel
theorem dX6_refuse_41 : decode cX6_refuse 41 = .ok (.dup, 1) := by decide +kernel
theorem dX6_refuse_42 : decode cX6_refuse 42 = .ok (.ldc 92, 2) := by decide +kernel
theorem dX6_refuse_44 : decode cX6_refuse 44 = .ok (.invokespecial 94, 3) := by decide +kernel
theorem dX6_refuse_47 : decode cX6_refuse 47 = .ok (.athrow, 1) := by decide +kernel
set_option maxHeartbeats 4000000 in
set_option maxRecDepth 100000 in
theorem c_Pa_refuse (l : Launch) (d : gD) (b : Nat) (Y : gYt) (F : gM) (S : gSt) (hW : gWT d Y F S) (hl : l.stackTraces = false) (hv4 : sV S 4 = 0) (hv10 : sV S 10 = 0) (hf14 : sF S 14 0 = 0) (hf16 : sF S 16 0 = 0) : gXv l d b yX6_refuse cX6_refuse 1 6 1 6 F [.ref (gO' Y 4)] (fun _ => False) "java/lang/IllegalStateException" (fun F' => ∃ S', gWT d Y F' S' ∧ gKp Y F F' ∧ gSm S S' [] [4, 5] ∧ sV S' 4 = 2 ∧ sV S' 5 = 0) := by
  refine gX_of2 rfl (nL := 1) (Nat.le_of_ble_eq_true rfl) ?_
  intro X hX hT hC; subst hX
  show gG X d b _ F 0 0 0 [some (.ref (gO' Y 4))] []
  have hM0 : gSm S S [] [4, 5] := gSm.rf
  have hK0 : gKp Y F F := gKp.rf
  refine g_aload_n hC dX6_refuse_0 rfl ?_
  refine g_get hC fl_X6_64 (hW.o 4 (by decide)) rfl dX6_refuse_1 ?_
  refine g_aload_n hC dX6_refuse_4 rfl ?_
  refine g_get hC fl_X6_43 (hW.o 4 (by decide)) rfl dX6_refuse_5 ?_
  refine g_aload_n hC dX6_refuse_8 rfl ?_
  refine g_get hC fl_X6_27 (hW.o 4 (by decide)) rfl dX6_refuse_9 ?_
  refine g_callVi (As := [.int (sV S 10)]) hC rfl (hW.r 14 (by decide)).1 (c_Ints_get X.la d b F _ _ _ _ _ _ (hW.r 14 (by decide)) (sV S 10)) cl_X6_82 rfl rfl (Nat.le_of_ble_eq_true rfl) (gFit_of (Nat.le_of_ble_eq_true rfl) (Nat.le_of_ble_eq_true rfl) (by first | exact Nat.le_of_ble_eq_true rfl | omega | (simp only [gR]; omega)) (by first | exact Nat.le_of_ble_eq_true rfl | omega | (simp only [gR]; omega))) dX6_refuse_12 (fun r1 F2 p3 => ?_)
  obtain ⟨er1, eF2⟩ := p3; have eF2 := eF2.symm; subst eF2
  have zr1 : r1 = 0 := by rw [er1, hv10]; exact gGet00 hf14
  subst zr1
  refine g_iconst (v := 1) hC dX6_refuse_15 rfl ?_
  refine g_icmp_ne (tgt := 23) hC dX6_refuse_16 (by decide) (fun c4 => ?_) (fun c4 => ?_)
  · refine g_iconst (v := 2) hC dX6_refuse_23 rfl ?_
    refine g_aload_n hC dX6_refuse_24 rfl ?_
    refine g_get hC fl_X6_53 (hW.o 4 (by decide)) rfl dX6_refuse_25 ?_
    refine g_aload_n hC dX6_refuse_28 rfl ?_
    refine g_get hC fl_X6_27 (hW.o 4 (by decide)) rfl dX6_refuse_29 ?_
    refine g_callVi (As := [.int (sV S 10)]) hC rfl (hW.r 16 (by decide)).1 (c_Ints_get X.la d b F _ _ _ _ _ _ (hW.r 16 (by decide)) (sV S 10)) cl_X6_82 rfl rfl (Nat.le_of_ble_eq_true rfl) (gFit_of (Nat.le_of_ble_eq_true rfl) (Nat.le_of_ble_eq_true rfl) (by first | exact Nat.le_of_ble_eq_true rfl | omega | (simp only [gR]; omega)) (by first | exact Nat.le_of_ble_eq_true rfl | omega | (simp only [gR]; omega))) dX6_refuse_32 (fun r5 F6 p7 => ?_)
    obtain ⟨er5, eF6⟩ := p7; have eF6 := eF6.symm; subst eF6
    have zr5 : r5 = 0 := by rw [er5, hv10]; exact gGet00 hf16
    subst zr5
    refine g_callVv (As := [.int 2, .int 0]) hC rfl (hW.o 1 (by decide)) (c_P_blame0 X.la d b Y F S hW 2 0 hv4) cl_X6_86 rfl rfl (Nat.le_of_ble_eq_true rfl) (gFit_of (Nat.le_of_ble_eq_true rfl) (Nat.le_of_ble_eq_true rfl) (by first | exact Nat.le_of_ble_eq_true rfl | omega | (simp only [gR]; omega)) (by first | exact Nat.le_of_ble_eq_true rfl | omega | (simp only [gR]; omega))) dX6_refuse_35 (fun F8 p9 => ?_)
    obtain ⟨S11, hW12, k13, s14, y15, y16⟩ := p9
    have hM17 : gSm S S11 [] [4, 5] := hM0.tr s14 _ _ rfl rfl
    have hK18 : gKp Y F F8 := hK0.tr k13
    clear hM0 hK0 s14 k13 hW
    exact g_throwS (is := 92) (ic := 94) (ik := 80) (i := 4) (names := ["java/lang/RuntimeException", "java/lang/Exception"]) (px := fun F' => ∃ S', gWT d Y F' S' ∧ gKp Y F F' ∧ gSm S S' [] [4, 5] ∧ sV S' 4 = 2 ∧ sV S' 5 = 0) hC hl hT (by decide +kernel) (by decide +kernel) kw_950 kw_261 rfl x_ise1 x_ise2 x_ise3 rfl dX6_refuse_38 dX6_refuse_41 dX6_refuse_42 dX6_refuse_44 dX6_refuse_47 (Nat.le_of_ble_eq_true rfl) (by decide) (gRc (Nat.le_of_ble_eq_true rfl)) (gRs (Nat.le_of_ble_eq_true rfl)) ⟨S11, hW12, hK18, hM17, y15, y16⟩ (Nat.le_of_ble_eq_true rfl) (Nat.le_of_ble_eq_true rfl)
  · exact absurd c4 (by decide)
theorem dX6_due_0 : decode cX6_due 0 = .ok (.aload_n 0, 1) := by decide +kernel
theorem dX6_due_1 : decode cX6_due 1 = .ok (.invokevirtual 97, 3) := by decide +kernel
theorem dX6_due_4 : decode cX6_due 4 = .ok (.iload_n 1, 1) := by decide +kernel
theorem dX6_due_5 : decode cX6_due 5 = .ok (.if_icmp .eq 7, 3) := by decide +kernel
theorem dX6_due_8 : decode cX6_due 8 = .ok (.aload_n 0, 1) := by decide +kernel
theorem dX6_due_9 : decode cX6_due 9 = .ok (.invokevirtual 100, 3) := by decide +kernel
theorem dX6_due_12 : decode cX6_due 12 = .ok (.aload_n 0, 1) := by decide +kernel
theorem dX6_due_13 : decode cX6_due 13 = .ok (.invokevirtual 103, 3) := by decide +kernel
theorem dX6_due_16 : decode cX6_due 16 = .ok (.return_, 1) := by decide +kernel
set_option maxHeartbeats 4000000 in
set_option maxRecDepth 100000 in
theorem c_Pa_due (l : Launch) (d : gD) (b : Nat) (Y : gYt) (F : gM) (S : gSt) (hW : gWT d Y F S) (hl : l.stackTraces = false) (hv4 : sV S 4 = 0) (hv10 : sV S 10 = 0) (hf14 : sF S 14 0 = 0) (hf16 : sF S 16 0 = 0) : gXv l d b yX6_due cX6_due 2 7 1 6 F [.ref (gO' Y 4), .int 52] (fun _ => False) "java/lang/IllegalStateException" (fun F' => ∃ S', gWT d Y F' S' ∧ gKp Y F F' ∧ gSm S S' [] [4, 5] ∧ sV S' 4 = 2 ∧ sV S' 5 = 0) := by
  refine gX_of2 rfl (nL := 2) (Nat.le_of_ble_eq_true rfl) ?_
  intro X hX hT hC; subst hX
  show gG X d b _ F 0 0 0 [some (.ref (gO' Y 4)), some (.int 52)] []
  have hM0 : gSm S S [] [4, 5] := gSm.rf
  have hK0 : gKp Y F F := gKp.rf
  refine g_aload_n hC dX6_due_0 rfl ?_
  refine g_callVi (As := []) hC rfl (hW.o 4 (by decide)) (c_Pa_kind X.la d b Y F S hW ) cl_X6_97 rfl rfl (Nat.le_of_ble_eq_true rfl) (gFit_of (Nat.le_of_ble_eq_true rfl) (Nat.le_of_ble_eq_true rfl) (by first | exact Nat.le_of_ble_eq_true rfl | omega | (simp only [gR]; omega)) (by first | exact Nat.le_of_ble_eq_true rfl | omega | (simp only [gR]; omega))) dX6_due_1 (fun r3 F1 p2 => ?_)
  obtain ⟨er3, eF1⟩ := p2; have eF1 := eF1.symm; subst eF1
  have zr3 : r3 = 0 := by rw [er3, hv10]; exact gGet00 hf14
  subst zr3
  refine g_iload_n hC dX6_due_4 rfl ?_
  refine g_icmp_eq (tgt := 12) hC dX6_due_5 (by decide) (fun c4 => ?_) (fun c4 => ?_)
  · exact absurd c4 (by decide)
  · refine g_aload_n hC dX6_due_8 rfl ?_
    refine g_xcallVv (As := []) hC rfl (hW.o 4 (by decide)) (c_Pa_refuse X.la d b Y F S hW hl hv4 hv10 hf14 hf16) cl_X6_100 rfl rfl (Nat.le_of_ble_eq_true rfl) (gFit_of (Nat.le_of_ble_eq_true rfl) (Nat.le_of_ble_eq_true rfl) (by first | exact Nat.le_of_ble_eq_true rfl | omega | (simp only [gR]; omega)) (by first | exact Nat.le_of_ble_eq_true rfl | omega | (simp only [gR]; omega))) dX6_due_9 (fun F5 p6 => ?_) (fun _ q => q.elim)
    obtain ⟨S7, hW8, k9, s10, y11, y12⟩ := p6
    have hM13 : gSm S S7 [] [4, 5] := hM0.tr s10 _ _ rfl rfl
    have hK14 : gKp Y F F5 := hK0.tr k9
    exact g_xout hC hT ⟨S7, hW8, hK14, hM13, y11, y12⟩ (by first | exact Nat.le_of_ble_eq_true rfl | omega | (simp only [gR]; omega)) (by first | exact Nat.le_of_ble_eq_true rfl | omega | (simp only [gR]; omega))
theorem dX6_declaration_0 : decode cX6_declaration 0 = .ok (.aload_n 0, 1) := by decide +kernel
theorem dX6_declaration_1 : decode cX6_declaration 1 = .ok (.invokevirtual 97, 3) := by decide +kernel
theorem dX6_declaration_4 : decode cX6_declaration 4 = .ok (.istore_n 2, 1) := by decide +kernel
theorem dX6_declaration_5 : decode cX6_declaration 5 = .ok (.iload_n 2, 1) := by decide +kernel
theorem dX6_declaration_6 : decode cX6_declaration 6 = .ok (.bipush 53, 2) := by decide +kernel
theorem dX6_declaration_8 : decode cX6_declaration 8 = .ok (.if_icmp .eq 15, 3) := by decide +kernel
theorem dX6_declaration_11 : decode cX6_declaration 11 = .ok (.iload_n 2, 1) := by decide +kernel
theorem dX6_declaration_12 : decode cX6_declaration 12 = .ok (.bipush 54, 2) := by decide +kernel
theorem dX6_declaration_14 : decode cX6_declaration 14 = .ok (.if_icmp .eq 9, 3) := by decide +kernel
theorem dX6_declaration_17 : decode cX6_declaration 17 = .ok (.iload_n 2, 1) := by decide +kernel
theorem dX6_declaration_18 : decode cX6_declaration 18 = .ok (.bipush 55, 2) := by decide +kernel
theorem dX6_declaration_20 : decode cX6_declaration 20 = .ok (.if_icmp .ne 9, 3) := by decide +kernel
theorem dX6_declaration_23 : decode cX6_declaration 23 = .ok (.aload_n 0, 1) := by decide +kernel
theorem dX6_declaration_24 : decode cX6_declaration 24 = .ok (.iload_n 1, 1) := by decide +kernel
theorem dX6_declaration_25 : decode cX6_declaration 25 = .ok (.invokevirtual 126, 3) := by decide +kernel
theorem dX6_declaration_28 : decode cX6_declaration 28 = .ok (.ireturn, 1) := by decide +kernel
theorem dX6_declaration_29 : decode cX6_declaration 29 = .ok (.aload_n 0, 1) := by decide +kernel
theorem dX6_declaration_30 : decode cX6_declaration 30 = .ok (.getfield 60, 3) := by decide +kernel
theorem dX6_declaration_33 : decode cX6_declaration 33 = .ok (.bipush 94, 2) := by decide +kernel
theorem dX6_declaration_35 : decode cX6_declaration 35 = .ok (.aload_n 0, 1) := by decide +kernel
theorem dX6_declaration_36 : decode cX6_declaration 36 = .ok (.invokevirtual 112, 3) := by decide +kernel
theorem dX6_declaration_39 : decode cX6_declaration 39 = .ok (.iconst 0, 1) := by decide +kernel
theorem dX6_declaration_40 : decode cX6_declaration 40 = .ok (.invokevirtual 115, 3) := by decide +kernel
theorem dX6_declaration_43 : decode cX6_declaration 43 = .ok (.istore_n 3, 1) := by decide +kernel
theorem dX6_declaration_44 : decode cX6_declaration 44 = .ok (.aload_n 0, 1) := by decide +kernel
theorem dX6_declaration_45 : decode cX6_declaration 45 = .ok (.bipush 52, 2) := by decide +kernel
theorem dX6_declaration_47 : decode cX6_declaration 47 = .ok (.invokevirtual 109, 3) := by decide +kernel
theorem dX6_declaration_50 : decode cX6_declaration 50 = .ok (.iload_n 1, 1) := by decide +kernel
theorem dX6_declaration_51 : decode cX6_declaration 51 = .ok (.ifCond .ne 36, 3) := by decide +kernel
theorem dX6_declaration_54 : decode cX6_declaration 54 = .ok (.aload_n 0, 1) := by decide +kernel
theorem dX6_declaration_55 : decode cX6_declaration 55 = .ok (.invokevirtual 97, 3) := by decide +kernel
theorem dX6_declaration_58 : decode cX6_declaration 58 = .ok (.iconst 2, 1) := by decide +kernel
theorem dX6_declaration_59 : decode cX6_declaration 59 = .ok (.if_icmp .ne 28, 3) := by decide +kernel
theorem dX6_declaration_62 : decode cX6_declaration 62 = .ok (.aload_n 0, 1) := by decide +kernel
theorem dX6_declaration_63 : decode cX6_declaration 63 = .ok (.getfield 43, 3) := by decide +kernel
theorem dX6_declaration_66 : decode cX6_declaration 66 = .ok (.aload_n 0, 1) := by decide +kernel
theorem dX6_declaration_67 : decode cX6_declaration 67 = .ok (.getfield 27, 3) := by decide +kernel
theorem dX6_declaration_70 : decode cX6_declaration 70 = .ok (.iconst 1, 1) := by decide +kernel
theorem dX6_declaration_71 : decode cX6_declaration 71 = .ok (.iadd, 1) := by decide +kernel
theorem dX6_declaration_72 : decode cX6_declaration 72 = .ok (.invokevirtual 82, 3) := by decide +kernel
theorem dX6_declaration_75 : decode cX6_declaration 75 = .ok (.bipush 7, 2) := by decide +kernel
theorem dX6_declaration_77 : decode cX6_declaration 77 = .ok (.if_icmp .eq 10, 3) := by decide +kernel
theorem dX6_declaration_80 : decode cX6_declaration 80 = .ok (.aload_n 0, 1) := by decide +kernel
theorem dX6_declaration_81 : decode cX6_declaration 81 = .ok (.iload_n 3, 1) := by decide +kernel
theorem dX6_declaration_82 : decode cX6_declaration 82 = .ok (.invokevirtual 129, 3) := by decide +kernel
theorem dX6_declaration_85 : decode cX6_declaration 85 = .ok (.iload_n 3, 1) := by decide +kernel
theorem dX6_declaration_86 : decode cX6_declaration 86 = .ok (.ireturn, 1) := by decide +kernel
theorem dX6_declaration_87 : decode cX6_declaration 87 = .ok (.iconst 0, 1) := by decide +kernel
theorem dX6_declaration_88 : decode cX6_declaration 88 = .ok (.istore 4, 2) := by decide +kernel
theorem dX6_declaration_90 : decode cX6_declaration 90 = .ok (.iload 4, 2) := by decide +kernel
theorem dX6_declaration_92 : decode cX6_declaration 92 = .ok (.ldc 11, 2) := by decide +kernel
theorem dX6_declaration_94 : decode cX6_declaration 94 = .ok (.if_icmp .ge 38, 3) := by decide +kernel
theorem dX6_declaration_97 : decode cX6_declaration 97 = .ok (.aload_n 0, 1) := by decide +kernel
theorem dX6_declaration_98 : decode cX6_declaration 98 = .ok (.getfield 60, 3) := by decide +kernel
theorem dX6_declaration_101 : decode cX6_declaration 101 = .ok (.iload_n 3, 1) := by decide +kernel
theorem dX6_declaration_102 : decode cX6_declaration 102 = .ok (.aload_n 0, 1) := by decide +kernel
theorem dX6_declaration_103 : decode cX6_declaration 103 = .ok (.iload_n 1, 1) := by decide +kernel
theorem dX6_declaration_104 : decode cX6_declaration 104 = .ok (.invokevirtual 132, 3) := by decide +kernel
theorem dX6_declaration_107 : decode cX6_declaration 107 = .ok (.invokevirtual 123, 3) := by decide +kernel
theorem dX6_declaration_110 : decode cX6_declaration 110 = .ok (.aload_n 0, 1) := by decide +kernel
theorem dX6_declaration_111 : decode cX6_declaration 111 = .ok (.invokevirtual 97, 3) := by decide +kernel
theorem dX6_declaration_114 : decode cX6_declaration 114 = .ok (.bipush 57, 2) := by decide +kernel
theorem dX6_declaration_116 : decode cX6_declaration 116 = .ok (.if_icmp .eq 6, 3) := by decide +kernel
theorem dX6_declaration_119 : decode cX6_declaration 119 = .ok (.goto 13, 3) := by decide +kernel
theorem dX6_declaration_122 : decode cX6_declaration 122 = .ok (.aload_n 0, 1) := by decide +kernel
theorem dX6_declaration_123 : decode cX6_declaration 123 = .ok (.invokevirtual 103, 3) := by decide +kernel
theorem dX6_declaration_126 : decode cX6_declaration 126 = .ok (.iinc 4 1, 3) := by decide +kernel
theorem dX6_declaration_129 : decode cX6_declaration 129 = .ok (.goto (-39), 3) := by decide +kernel
theorem dX6_declaration_132 : decode cX6_declaration 132 = .ok (.iload_n 3, 1) := by decide +kernel
theorem dX6_declaration_133 : decode cX6_declaration 133 = .ok (.ireturn, 1) := by decide +kernel
set_option maxHeartbeats 4000000 in
set_option maxRecDepth 100000 in
theorem c_Pa_decl (l : Launch) (d : gD) (b : Nat) (Y : gYt) (F : gM) (S : gSt) (hW : gWT d Y F S) (hl : l.stackTraces = false) (hv4 : sV S 4 = 0) (hv10 : sV S 10 = 0) (hf14 : sF S 14 0 = 0) (hf16 : sF S 16 0 = 0) (hz7 : sZ S 7 = 2) (hn7 : sN S 7 = 16) (hz8 : sZ S 8 = 2) (hn8 : sN S 8 = 16) (hz9 : sZ S 9 = 2) (hn9 : sN S 9 = 16) (hz10 : sZ S 10 = 2) (hn10 : sN S 10 = 16) (hz11 : sZ S 11 = 2) (hn11 : sN S 11 = 16) (hz12 : sZ S 12 = 2) (hn12 : sN S 12 = 16) (hz13 : sZ S 13 = 2) (hn13 : sN S 13 = 16) : gXi l d b yX6_declaration cX6_declaration 5 .int 8 1 6 F [.ref (gO' Y 4), .int 1] (fun _ _ => False) "java/lang/IllegalStateException" (fun F' => ∃ S', gWT d Y F' S' ∧ gKp Y F F' ∧ gSm S S' [7, 8, 9, 10, 11, 12, 13] [4, 5] ∧ sV S' 4 = 2 ∧ sV S' 5 = 0) := by
  refine gX_of2 rfl (nL := 5) (Nat.le_of_ble_eq_true rfl) ?_
  intro X hX hT hC; subst hX
  show gG X d b _ F 0 0 0 [some (.ref (gO' Y 4)), some (.int 1), none, none, none] []
  have hM0 : gSm S S [7, 8, 9, 10, 11, 12, 13] [4, 5] := gSm.rf
  have hK0 : gKp Y F F := gKp.rf
  refine g_aload_n hC dX6_declaration_0 rfl ?_
  refine g_callVi (As := []) hC rfl (hW.o 4 (by decide)) (c_Pa_kind X.la d b Y F S hW ) cl_X6_97 rfl rfl (Nat.le_of_ble_eq_true rfl) (gFit_of (Nat.le_of_ble_eq_true rfl) (Nat.le_of_ble_eq_true rfl) (by first | exact Nat.le_of_ble_eq_true rfl | omega | (simp only [gR]; omega)) (by first | exact Nat.le_of_ble_eq_true rfl | omega | (simp only [gR]; omega))) dX6_declaration_1 (fun r3 F1 p2 => ?_)
  obtain ⟨er3, eF1⟩ := p2; have eF1 := eF1.symm; subst eF1
  have zr3 : r3 = 0 := by rw [er3, hv10]; exact gGet00 hf14
  subst zr3
  refine g_istore_n (lv' := [some (.ref (gO' Y 4)), some (.int 1), some (.int 0), none, none]) hC dX6_declaration_4 (Nat.le_of_ble_eq_true rfl) rfl rfl ?_
  refine g_iload_n hC dX6_declaration_5 rfl ?_
  refine g_bipush (v := 53) hC dX6_declaration_6 rfl ?_
  refine g_icmp_eq (tgt := 23) hC dX6_declaration_8 (by decide) (fun c4 => ?_) (fun c4 => ?_)
  · exact absurd c4 (by decide)
  · refine g_iload_n hC dX6_declaration_11 rfl ?_
    refine g_bipush (v := 54) hC dX6_declaration_12 rfl ?_
    refine g_icmp_eq (tgt := 23) hC dX6_declaration_14 (by decide) (fun c5 => ?_) (fun c5 => ?_)
    · exact absurd c5 (by decide)
    · refine g_iload_n hC dX6_declaration_17 rfl ?_
      refine g_bipush (v := 55) hC dX6_declaration_18 rfl ?_
      refine g_icmp_ne (tgt := 29) hC dX6_declaration_20 (by decide) (fun c6 => ?_) (fun c6 => ?_)
      · refine g_aload_n hC dX6_declaration_29 rfl ?_
        refine g_get hC fl_X6_60 (hW.o 4 (by decide)) rfl dX6_declaration_30 ?_
        refine g_bipush (v := 94) hC dX6_declaration_33 rfl ?_
        refine g_aload_n hC dX6_declaration_35 rfl ?_
        refine g_callVi (As := []) hC rfl (hW.o 4 (by decide)) (c_Pa_place X.la d b Y F S hW ) cl_X6_112 rfl rfl (Nat.le_of_ble_eq_true rfl) (gFit_of (Nat.le_of_ble_eq_true rfl) (Nat.le_of_ble_eq_true rfl) (by first | exact Nat.le_of_ble_eq_true rfl | omega | (simp only [gR]; omega)) (by first | exact Nat.le_of_ble_eq_true rfl | omega | (simp only [gR]; omega))) dX6_declaration_36 (fun r9 F7 p8 => ?_)
        obtain ⟨er9, eF7⟩ := p8; have eF7 := eF7.symm; subst eF7
        refine g_iconst (v := 0) hC dX6_declaration_39 rfl ?_
        refine g_callVi (As := [.int 94, .int r9, .int 0]) hC rfl (hW.o 2 (by decide)) (c_T_node X.la d b Y F S hW 94 r9 0 2 (by decide) hz7 hn7 hz8 hn8 hz9 hn9 hz10 hn10 hz11 hn11 hz12 hn12 hz13 hn13) cl_X6_115 rfl rfl (Nat.le_of_ble_eq_true rfl) (gFit_of (Nat.le_of_ble_eq_true rfl) (Nat.le_of_ble_eq_true rfl) (by first | exact Nat.le_of_ble_eq_true rfl | omega | (simp only [gR]; omega)) (by first | exact Nat.le_of_ble_eq_true rfl | omega | (simp only [gR]; omega))) dX6_declaration_40 (fun r12 F10 p11 => ?_)
        obtain ⟨S13, hW14, k15, s16, y17, y18, y19, y20, y21, y22, y23, y24, y25, y26, y27, y28, y29, y30⟩ := p11
        have hM31 : gSm S S13 [7, 8, 9, 10, 11, 12, 13] [4, 5] := hM0.tr s16 _ _ rfl rfl
        have hK32 : gKp Y F F10 := hK0.tr k15
        have z33 : sV S13 4 = 0 := (s16.v 4 (by decide)).trans hv4
        have z34 : sV S13 10 = 0 := (s16.v 10 (by decide)).trans hv10
        have f35 : sF S13 14 0 = 0 := by rw [s16.f 14 (by decide)]; exact hf14
        have f36 : sF S13 16 0 = 0 := by rw [s16.f 16 (by decide)]; exact hf16
        clear hz7 hn7 hz8 hn8 hz9 hn9 hz10 hn10 hz11 hn11 hz12 hn12 hz13 hn13 hv4 hv10 hM0 hK0 s16 k15 hW
        refine g_istore_n (lv' := [some (.ref (gO' Y 4)), some (.int 1), some (.int 0), some (.int r12), none]) hC dX6_declaration_43 (Nat.le_of_ble_eq_true rfl) rfl rfl ?_
        refine g_aload_n hC dX6_declaration_44 rfl ?_
        refine g_bipush (v := 52) hC dX6_declaration_45 rfl ?_
        refine g_xcallVv (As := [.int 52]) hC rfl (hW14.o 4 (by decide)) (c_Pa_due X.la d b Y F10 S13 hW14 hl z33 z34 f35 f36) cl_X6_109 rfl rfl (Nat.le_of_ble_eq_true rfl) (gFit_of (Nat.le_of_ble_eq_true rfl) (Nat.le_of_ble_eq_true rfl) (by first | exact Nat.le_of_ble_eq_true rfl | omega | (simp only [gR]; omega)) (by first | exact Nat.le_of_ble_eq_true rfl | omega | (simp only [gR]; omega))) dX6_declaration_47 (fun F37 p38 => ?_) (fun _ q => q.elim)
        obtain ⟨S39, hW40, k41, s42, y43, y44⟩ := p38
        have hM45 : gSm S S39 [7, 8, 9, 10, 11, 12, 13] [4, 5] := hM31.tr s42 _ _ rfl rfl
        have hK46 : gKp Y F F37 := hK32.tr k41
        have z47 : sZ S39 7 = 3 := (s42.z 7 (by decide)).trans y17
        have z48 : sN S39 7 = 16 := (s42.n 7 (by decide)).trans y24
        have z49 : sZ S39 8 = 3 := (s42.z 8 (by decide)).trans y18
        have z50 : sN S39 8 = 16 := (s42.n 8 (by decide)).trans y25
        have z51 : sZ S39 9 = 3 := (s42.z 9 (by decide)).trans y19
        have z52 : sN S39 9 = 16 := (s42.n 9 (by decide)).trans y26
        have z53 : sZ S39 10 = 3 := (s42.z 10 (by decide)).trans y20
        have z54 : sN S39 10 = 16 := (s42.n 10 (by decide)).trans y27
        have z55 : sZ S39 11 = 3 := (s42.z 11 (by decide)).trans y21
        have z56 : sN S39 11 = 16 := (s42.n 11 (by decide)).trans y28
        have z57 : sZ S39 12 = 3 := (s42.z 12 (by decide)).trans y22
        have z58 : sN S39 12 = 16 := (s42.n 12 (by decide)).trans y29
        have z59 : sZ S39 13 = 3 := (s42.z 13 (by decide)).trans y23
        have z60 : sN S39 13 = 16 := (s42.n 13 (by decide)).trans y30
        have z61 : sV S39 10 = 0 := (s42.v 10 (by decide)).trans z34
        exact g_xout hC hT ⟨S39, hW40, hK46, hM45, y43, y44⟩ (by first | exact Nat.le_of_ble_eq_true rfl | omega | (simp only [gR]; omega)) (by first | exact Nat.le_of_ble_eq_true rfl | omega | (simp only [gR]; omega))
      · exact absurd c6 (by decide)
theorem dX6_text_0 : decode cX6_text 0 = .ok (.aload_n 0, 1) := by decide +kernel
theorem dX6_text_1 : decode cX6_text 1 = .ok (.getfield 60, 3) := by decide +kernel
theorem dX6_text_4 : decode cX6_text 4 = .ok (.bipush 92, 2) := by decide +kernel
theorem dX6_text_6 : decode cX6_text 6 = .ok (.aload_n 0, 1) := by decide +kernel
theorem dX6_text_7 : decode cX6_text 7 = .ok (.invokevirtual 112, 3) := by decide +kernel
theorem dX6_text_10 : decode cX6_text 10 = .ok (.iconst 0, 1) := by decide +kernel
theorem dX6_text_11 : decode cX6_text 11 = .ok (.invokevirtual 115, 3) := by decide +kernel
theorem dX6_text_14 : decode cX6_text 14 = .ok (.istore_n 1, 1) := by decide +kernel
theorem dX6_text_15 : decode cX6_text 15 = .ok (.iconst 0, 1) := by decide +kernel
theorem dX6_text_16 : decode cX6_text 16 = .ok (.istore_n 2, 1) := by decide +kernel
theorem dX6_text_17 : decode cX6_text 17 = .ok (.iload_n 2, 1) := by decide +kernel
theorem dX6_text_18 : decode cX6_text 18 = .ok (.ldc 11, 2) := by decide +kernel
theorem dX6_text_20 : decode cX6_text 20 = .ok (.if_icmp .ge 48, 3) := by decide +kernel
theorem dX6_text_23 : decode cX6_text 23 = .ok (.aload_n 0, 1) := by decide +kernel
theorem dX6_text_24 : decode cX6_text 24 = .ok (.getfield 60, 3) := by decide +kernel
theorem dX6_text_27 : decode cX6_text 27 = .ok (.iload_n 1, 1) := by decide +kernel
theorem dX6_text_28 : decode cX6_text 28 = .ok (.aload_n 0, 1) := by decide +kernel
theorem dX6_text_29 : decode cX6_text 29 = .ok (.iconst 1, 1) := by decide +kernel
theorem dX6_text_30 : decode cX6_text 30 = .ok (.invokevirtual 119, 3) := by decide +kernel
theorem dX6_text_33 : decode cX6_text 33 = .ok (.invokevirtual 123, 3) := by decide +kernel
theorem dX6_text_36 : decode cX6_text 36 = .ok (.aload_n 0, 1) := by decide +kernel
theorem dX6_text_37 : decode cX6_text 37 = .ok (.invokevirtual 97, 3) := by decide +kernel
theorem dX6_text_40 : decode cX6_text 40 = .ok (.ifCond .ne 6, 3) := by decide +kernel
theorem dX6_text_43 : decode cX6_text 43 = .ok (.goto 25, 3) := by decide +kernel
theorem dX6_text_46 : decode cX6_text 46 = .ok (.aload_n 0, 1) := by decide +kernel
theorem dX6_text_47 : decode cX6_text 47 = .ok (.bipush 10, 2) := by decide +kernel
theorem dX6_text_49 : decode cX6_text 49 = .ok (.invokevirtual 109, 3) := by decide +kernel
theorem dX6_text_52 : decode cX6_text 52 = .ok (.aload_n 0, 1) := by decide +kernel
theorem dX6_text_53 : decode cX6_text 53 = .ok (.invokevirtual 97, 3) := by decide +kernel
theorem dX6_text_56 : decode cX6_text 56 = .ok (.ifCond .ne 6, 3) := by decide +kernel
theorem dX6_text_59 : decode cX6_text 59 = .ok (.goto 9, 3) := by decide +kernel
theorem dX6_text_62 : decode cX6_text 62 = .ok (.iinc 2 1, 3) := by decide +kernel
theorem dX6_text_65 : decode cX6_text 65 = .ok (.goto (-48), 3) := by decide +kernel
theorem dX6_text_68 : decode cX6_text 68 = .ok (.iload_n 1, 1) := by decide +kernel
theorem dX6_text_69 : decode cX6_text 69 = .ok (.ireturn, 1) := by decide +kernel
set_option maxHeartbeats 4000000 in
set_option maxRecDepth 100000 in
theorem c_Pa_text (l : Launch) (d : gD) (b : Nat) (Y : gYt) (F : gM) (S : gSt) (hW : gWT d Y F S) (hl : l.stackTraces = false) (hv4 : sV S 4 = 0) (hv10 : sV S 10 = 0) (hf14 : sF S 14 0 = 0) (hf16 : sF S 16 0 = 0) (hz7 : sZ S 7 = 1) (hn7 : sN S 7 = 16) (hz8 : sZ S 8 = 1) (hn8 : sN S 8 = 16) (hz9 : sZ S 9 = 1) (hn9 : sN S 9 = 16) (hz10 : sZ S 10 = 1) (hn10 : sN S 10 = 16) (hz11 : sZ S 11 = 1) (hn11 : sN S 11 = 16) (hz12 : sZ S 12 = 1) (hn12 : sN S 12 = 16) (hz13 : sZ S 13 = 1) (hn13 : sN S 13 = 16) : gXi l d b yX6_text cX6_text 3 .int 9 1 6 F [.ref (gO' Y 4)] (fun _ _ => False) "java/lang/IllegalStateException" (fun F' => ∃ S', gWT d Y F' S' ∧ gKp Y F F' ∧ gSm S S' [7, 8, 9, 10, 11, 12, 13] [4, 5] ∧ sV S' 4 = 2 ∧ sV S' 5 = 0) := by
  refine gX_of2 rfl (nL := 3) (Nat.le_of_ble_eq_true rfl) ?_
  intro X hX hT hC; subst hX
  show gG X d b _ F 0 0 0 [some (.ref (gO' Y 4)), none, none] []
  have hM0 : gSm S S [7, 8, 9, 10, 11, 12, 13] [4, 5] := gSm.rf
  have hK0 : gKp Y F F := gKp.rf
  refine g_aload_n hC dX6_text_0 rfl ?_
  refine g_get hC fl_X6_60 (hW.o 4 (by decide)) rfl dX6_text_1 ?_
  refine g_bipush (v := 92) hC dX6_text_4 rfl ?_
  refine g_aload_n hC dX6_text_6 rfl ?_
  refine g_callVi (As := []) hC rfl (hW.o 4 (by decide)) (c_Pa_place X.la d b Y F S hW ) cl_X6_112 rfl rfl (Nat.le_of_ble_eq_true rfl) (gFit_of (Nat.le_of_ble_eq_true rfl) (Nat.le_of_ble_eq_true rfl) (by first | exact Nat.le_of_ble_eq_true rfl | omega | (simp only [gR]; omega)) (by first | exact Nat.le_of_ble_eq_true rfl | omega | (simp only [gR]; omega))) dX6_text_7 (fun r3 F1 p2 => ?_)
  obtain ⟨er3, eF1⟩ := p2; have eF1 := eF1.symm; subst eF1
  refine g_iconst (v := 0) hC dX6_text_10 rfl ?_
  refine g_callVi (As := [.int 92, .int r3, .int 0]) hC rfl (hW.o 2 (by decide)) (c_T_node X.la d b Y F S hW 92 r3 0 1 (by decide) hz7 hn7 hz8 hn8 hz9 hn9 hz10 hn10 hz11 hn11 hz12 hn12 hz13 hn13) cl_X6_115 rfl rfl (Nat.le_of_ble_eq_true rfl) (gFit_of (Nat.le_of_ble_eq_true rfl) (Nat.le_of_ble_eq_true rfl) (by first | exact Nat.le_of_ble_eq_true rfl | omega | (simp only [gR]; omega)) (by first | exact Nat.le_of_ble_eq_true rfl | omega | (simp only [gR]; omega))) dX6_text_11 (fun r6 F4 p5 => ?_)
  obtain ⟨S7, hW8, k9, s10, y11, y12, y13, y14, y15, y16, y17, y18, y19, y20, y21, y22, y23, y24⟩ := p5
  have hM25 : gSm S S7 [7, 8, 9, 10, 11, 12, 13] [4, 5] := hM0.tr s10 _ _ rfl rfl
  have hK26 : gKp Y F F4 := hK0.tr k9
  have z27 : sV S7 4 = 0 := (s10.v 4 (by decide)).trans hv4
  have z28 : sV S7 10 = 0 := (s10.v 10 (by decide)).trans hv10
  have f29 : sF S7 14 0 = 0 := by rw [s10.f 14 (by decide)]; exact hf14
  have f30 : sF S7 16 0 = 0 := by rw [s10.f 16 (by decide)]; exact hf16
  clear hz7 hn7 hz8 hn8 hz9 hn9 hz10 hn10 hz11 hn11 hz12 hn12 hz13 hn13 hv4 hv10 hM0 hK0 s10 k9 hW
  refine g_istore_n (lv' := [some (.ref (gO' Y 4)), some (.int r6), none]) hC dX6_text_14 (Nat.le_of_ble_eq_true rfl) rfl rfl ?_
  refine g_iconst (v := 0) hC dX6_text_15 rfl ?_
  refine g_istore_n (lv' := [some (.ref (gO' Y 4)), some (.int r6), some (.int 0)]) hC dX6_text_16 (Nat.le_of_ble_eq_true rfl) rfl rfl ?_
  refine g_iload_n hC dX6_text_17 rfl ?_
  refine g_ldc hC dX6_text_18 kw_514 ?_
  refine g_icmp_ge (tgt := 68) hC dX6_text_20 (by decide) (fun c31 => ?_) (fun c31 => ?_)
  · exact absurd c31 (by decide)
  · refine g_aload_n hC dX6_text_23 rfl ?_
    refine g_get hC fl_X6_60 (hW8.o 4 (by decide)) rfl dX6_text_24 ?_
    refine g_iload_n hC dX6_text_27 rfl ?_
    refine g_aload_n hC dX6_text_28 rfl ?_
    refine g_iconst (v := 1) hC dX6_text_29 rfl ?_
    refine g_xcallVi (As := [.int 1]) hC rfl (hW8.o 4 (by decide)) (c_Pa_decl X.la d b Y F4 S7 hW8 hl z27 z28 f29 f30 y11 y18 y12 y19 y13 y20 y14 y21 y15 y22 y16 y23 y17 y24) cl_X6_119 rfl rfl (Nat.le_of_ble_eq_true rfl) (gFit_of (Nat.le_of_ble_eq_true rfl) (Nat.le_of_ble_eq_true rfl) (by first | exact Nat.le_of_ble_eq_true rfl | omega | (simp only [gR]; omega)) (by first | exact Nat.le_of_ble_eq_true rfl | omega | (simp only [gR]; omega))) dX6_text_30 (fun F32 p33 => ?_) (fun _ _ q => q.elim)
    obtain ⟨S34, hW35, k36, s37, y38, y39⟩ := p33
    have hM40 : gSm S S34 [7, 8, 9, 10, 11, 12, 13] [4, 5] := hM25.tr s37 _ _ rfl rfl
    have hK41 : gKp Y F F32 := hK26.tr k36
    have z42 : sV S34 10 = 0 := (s37.v 10 (by decide)).trans z28
    exact g_xout hC hT ⟨S34, hW35, hK41, hM40, y38, y39⟩ (by first | exact Nat.le_of_ble_eq_true rfl | omega | (simp only [gR]; omega)) (by first | exact Nat.le_of_ble_eq_true rfl | omega | (simp only [gR]; omega))
