theorem kw_1091 : Cond.methodLink RX10 53 yX4_get ∈ gWs := List.mem_filter.mpr ⟨gMt4 _ (List.mem_of_getElem? (i := 134) rfl), rfl⟩
theorem cl_X10_53 : gCV RX10 53 yX4_get cX4_get 2 (some .int) 1 := ⟨g_mk [.methodLink RX10 53 yX4_get, .instanceMethod yX4_get, .selects yX4_get.cls yX4_get yX4_get, .initialized yX4_get.cls] (gWs_all kw_436) (List.forall_mem_cons.mpr ⟨kw_1091, List.forall_mem_cons.mpr ⟨kw_434, List.forall_mem_cons.mpr ⟨kw_435, List.forall_mem_cons.mpr ⟨kw_239, fun _ h => nomatch h⟩⟩⟩⟩), rfl, by decide +kernel, by decide +kernel, by decide +kernel⟩
theorem kw_931 : Cond.code yX4_set cX4_set 3 none ∈ gWs := List.mem_filter.mpr ⟨gMt3 _ (List.mem_of_getElem? (i := 214) rfl), rfl⟩
theorem kw_1100 : Cond.methodLink RX10 57 yX4_set ∈ gWs := List.mem_filter.mpr ⟨gMt4 _ (List.mem_of_getElem? (i := 143) rfl), rfl⟩
theorem kw_929 : Cond.instanceMethod yX4_set ∈ gWs := List.mem_filter.mpr ⟨gMt3 _ (List.mem_of_getElem? (i := 212) rfl), rfl⟩
theorem kw_930 : Cond.selects RX4 yX4_set yX4_set ∈ gWs := List.mem_filter.mpr ⟨gMt3 _ (List.mem_of_getElem? (i := 213) rfl), rfl⟩
theorem cl_X10_57 : gCV RX10 57 yX4_set cX4_set 3 none 2 := ⟨g_mk [.methodLink RX10 57 yX4_set, .instanceMethod yX4_set, .selects yX4_set.cls yX4_set yX4_set, .initialized yX4_set.cls] (gWs_all kw_931) (List.forall_mem_cons.mpr ⟨kw_1100, List.forall_mem_cons.mpr ⟨kw_929, List.forall_mem_cons.mpr ⟨kw_930, List.forall_mem_cons.mpr ⟨kw_239, fun _ h => nomatch h⟩⟩⟩⟩), rfl, by decide +kernel, by decide +kernel, by decide +kernel⟩
theorem kw_1409 : Cond.methodLink RX7 70 yX4_get ∈ gWs := List.mem_filter.mpr ⟨gMt5 _ (List.mem_of_getElem? (i := 212) rfl), rfl⟩
theorem cl_X7_70 : gCV RX7 70 yX4_get cX4_get 2 (some .int) 1 := ⟨g_mk [.methodLink RX7 70 yX4_get, .instanceMethod yX4_get, .selects yX4_get.cls yX4_get yX4_get, .initialized yX4_get.cls] (gWs_all kw_436) (List.forall_mem_cons.mpr ⟨kw_1409, List.forall_mem_cons.mpr ⟨kw_434, List.forall_mem_cons.mpr ⟨kw_435, List.forall_mem_cons.mpr ⟨kw_239, fun _ h => nomatch h⟩⟩⟩⟩), rfl, by decide +kernel, by decide +kernel, by decide +kernel⟩
theorem kw_1427 : Cond.methodLink RX7 78 yX4_set ∈ gWs := List.mem_filter.mpr ⟨gMt5 _ (List.mem_of_getElem? (i := 230) rfl), rfl⟩
theorem cl_X7_78 : gCV RX7 78 yX4_set cX4_set 3 none 2 := ⟨g_mk [.methodLink RX7 78 yX4_set, .instanceMethod yX4_set, .selects yX4_set.cls yX4_set yX4_set, .initialized yX4_set.cls] (gWs_all kw_931) (List.forall_mem_cons.mpr ⟨kw_1427, List.forall_mem_cons.mpr ⟨kw_929, List.forall_mem_cons.mpr ⟨kw_930, List.forall_mem_cons.mpr ⟨kw_239, fun _ h => nomatch h⟩⟩⟩⟩), rfl, by decide +kernel, by decide +kernel, by decide +kernel⟩
theorem kw_589 : Cond.fieldLink RX9 21 "WordTongue$Scope" "kinds" "LWordTongue$Ints;" ∈ gWs := List.mem_filter.mpr ⟨gMt2 _ (List.mem_of_getElem? (i := 112) rfl), rfl⟩
theorem kw_595 : Cond.laysFinal RX9 "WordTongue$Scope" "program" "LWordTongue$Program;" ∈ gWs := List.mem_filter.mpr ⟨gMt2 _ (List.mem_of_getElem? (i := 118) rfl), rfl⟩
theorem kw_597 : Cond.laysFinal RX9 "WordTongue$Scope" "names" "LWordTongue$Ints;" ∈ gWs := List.mem_filter.mpr ⟨gMt2 _ (List.mem_of_getElem? (i := 120) rfl), rfl⟩
theorem kw_599 : Cond.laysFinal RX9 "WordTongue$Scope" "kinds" "LWordTongue$Ints;" ∈ gWs := List.mem_filter.mpr ⟨gMt2 _ (List.mem_of_getElem? (i := 122) rfl), rfl⟩
theorem kw_601 : Cond.laysFinal RX9 "WordTongue$Scope" "datas" "LWordTongue$Ints;" ∈ gWs := List.mem_filter.mpr ⟨gMt2 _ (List.mem_of_getElem? (i := 124) rfl), rfl⟩
theorem kw_603 : Cond.laysFinal RX9 "WordTongue$Scope" "owners" "LWordTongue$Ints;" ∈ gWs := List.mem_filter.mpr ⟨gMt2 _ (List.mem_of_getElem? (i := 126) rfl), rfl⟩
theorem kw_605 : Cond.laysFinal RX9 "WordTongue$Scope" "places" "LWordTongue$Ints;" ∈ gWs := List.mem_filter.mpr ⟨gMt2 _ (List.mem_of_getElem? (i := 128) rfl), rfl⟩
theorem kw_607 : Cond.laysFinal RX9 "WordTongue$Scope" "marks" "LWordTongue$Ints;" ∈ gWs := List.mem_filter.mpr ⟨gMt2 _ (List.mem_of_getElem? (i := 130) rfl), rfl⟩
theorem kw_609 : Cond.lays RX9 "WordTongue$Scope" "floor" "I" ∈ gWs := List.mem_filter.mpr ⟨gMt2 _ (List.mem_of_getElem? (i := 132) rfl), rfl⟩
set_option maxRecDepth 20000 in
theorem inW_RX9 : ∀ w ∈ u_ws RX9 TX9 8, w ∈ gWs := List.forall_mem_cons.mpr ⟨kw_595, List.forall_mem_cons.mpr ⟨kw_597, List.forall_mem_cons.mpr ⟨kw_599, List.forall_mem_cons.mpr ⟨kw_601, List.forall_mem_cons.mpr ⟨kw_603, List.forall_mem_cons.mpr ⟨kw_605, List.forall_mem_cons.mpr ⟨kw_607, List.forall_mem_cons.mpr ⟨kw_609, fun _ h => nomatch h⟩⟩⟩⟩⟩⟩⟩⟩
theorem fl_X9_21 : gFL RX9 21 9 2 (.object "WordTongue$Ints") true := ⟨RX9, TX9, 8, tyX9, rfl, by decide, inW_RX9, kw_589, tyX9_ok, nmX9, rfl, by decide +kernel, fun _ => rfl⟩
theorem kw_1309 : Cond.methodLink RX9 63 yX4_get ∈ gWs := List.mem_filter.mpr ⟨gMt5 _ (List.mem_of_getElem? (i := 112) rfl), rfl⟩
theorem cl_X9_63 : gCV RX9 63 yX4_get cX4_get 2 (some .int) 1 := ⟨g_mk [.methodLink RX9 63 yX4_get, .instanceMethod yX4_get, .selects yX4_get.cls yX4_get yX4_get, .initialized yX4_get.cls] (gWs_all kw_436) (List.forall_mem_cons.mpr ⟨kw_1309, List.forall_mem_cons.mpr ⟨kw_434, List.forall_mem_cons.mpr ⟨kw_435, List.forall_mem_cons.mpr ⟨kw_239, fun _ h => nomatch h⟩⟩⟩⟩), rfl, by decide +kernel, by decide +kernel, by decide +kernel⟩
theorem kw_590 : Cond.fieldLink RX9 24 "WordTongue$Scope" "datas" "LWordTongue$Ints;" ∈ gWs := List.mem_filter.mpr ⟨gMt2 _ (List.mem_of_getElem? (i := 113) rfl), rfl⟩
theorem fl_X9_24 : gFL RX9 24 9 3 (.object "WordTongue$Ints") true := ⟨RX9, TX9, 8, tyX9, rfl, by decide, inW_RX9, kw_590, tyX9_ok, nmX9, rfl, by decide +kernel, fun _ => rfl⟩
theorem kw_591 : Cond.fieldLink RX9 27 "WordTongue$Scope" "owners" "LWordTongue$Ints;" ∈ gWs := List.mem_filter.mpr ⟨gMt2 _ (List.mem_of_getElem? (i := 114) rfl), rfl⟩
theorem fl_X9_27 : gFL RX9 27 9 4 (.object "WordTongue$Ints") true := ⟨RX9, TX9, 8, tyX9, rfl, by decide, inW_RX9, kw_591, tyX9_ok, nmX9, rfl, by decide +kernel, fun _ => rfl⟩
theorem kw_592 : Cond.fieldLink RX9 30 "WordTongue$Scope" "places" "LWordTongue$Ints;" ∈ gWs := List.mem_filter.mpr ⟨gMt2 _ (List.mem_of_getElem? (i := 115) rfl), rfl⟩
theorem fl_X9_30 : gFL RX9 30 9 5 (.object "WordTongue$Ints") true := ⟨RX9, TX9, 8, tyX9, rfl, by decide, inW_RX9, kw_592, tyX9_ok, nmX9, rfl, by decide +kernel, fun _ => rfl⟩
theorem kw_1421 : Cond.methodLink RX9 79 yX4_set ∈ gWs := List.mem_filter.mpr ⟨gMt5 _ (List.mem_of_getElem? (i := 224) rfl), rfl⟩
theorem cl_X9_79 : gCV RX9 79 yX4_set cX4_set 3 none 2 := ⟨g_mk [.methodLink RX9 79 yX4_set, .instanceMethod yX4_set, .selects yX4_set.cls yX4_set yX4_set, .initialized yX4_set.cls] (gWs_all kw_931) (List.forall_mem_cons.mpr ⟨kw_1421, List.forall_mem_cons.mpr ⟨kw_929, List.forall_mem_cons.mpr ⟨kw_930, List.forall_mem_cons.mpr ⟨kw_239, fun _ h => nomatch h⟩⟩⟩⟩), rfl, by decide +kernel, by decide +kernel, by decide +kernel⟩
theorem dX10_kind_0 : decode cX10_kind 0 = .ok (.aload_n 0, 1) := by decide +kernel
theorem dX10_kind_1 : decode cX10_kind 1 = .ok (.getfield 15, 3) := by decide +kernel
theorem dX10_kind_4 : decode cX10_kind 4 = .ok (.iload_n 1, 1) := by decide +kernel
theorem dX10_kind_5 : decode cX10_kind 5 = .ok (.invokevirtual 53, 3) := by decide +kernel
theorem dX10_kind_8 : decode cX10_kind 8 = .ok (.ireturn, 1) := by decide +kernel
set_option maxHeartbeats 4000000 in
set_option maxRecDepth 100000 in
theorem p_T_kind (l : Launch) (d : gD) (b : Nat) (Y : gYt) (F : gM) (S : gSt) (hW : gWT d Y F S) (i : Int32) : gMi l d b yX10_kind cX10_kind 2 .int 2 0 0 F [.ref (gO' Y 2), .int i] (fun r F' => r = gGet (sF S 7) (sZ S 7) i ∧ F' = F) := by
  refine gM_of2 rfl (nL := 2) (Nat.le_of_ble_eq_true rfl) ?_
  intro X hX hC; subst hX
  show gG X d b _ F 0 0 0 [some (.ref (gO' Y 2)), some (.int i)] []
  have hM0 : gSm S S [] [] := gSm.rf
  have hK0 : gKp Y F F := gKp.rf
  refine g_aload_n hC dX10_kind_0 rfl ?_
  refine g_get hC fl_X10_15 (hW.o 2 (by decide)) rfl dX10_kind_1 ?_
  refine g_iload_n hC dX10_kind_4 rfl ?_
  refine g_callVi (As := [.int i]) hC rfl (hW.r 7 (by decide)).1 (c_Ints_get X.la d b F _ _ _ _ _ _ (hW.r 7 (by decide)) i) cl_X10_53 rfl rfl (Nat.le_of_ble_eq_true rfl) (gFit_of (Nat.le_of_ble_eq_true rfl) (Nat.le_of_ble_eq_true rfl) (by first | exact Nat.le_of_ble_eq_true rfl | omega | (simp only [gR]; omega)) (by first | exact Nat.le_of_ble_eq_true rfl | omega | (simp only [gR]; omega))) dX10_kind_5 (fun r1 F2 p3 => ?_)
  obtain ⟨er1, eF2⟩ := p3; have eF2 := eF2.symm; subst eF2
  exact g_iret hC rfl ⟨er1, rfl⟩ (by first | exact Nat.le_of_ble_eq_true rfl | omega | (simp only [gR]; omega)) (by first | exact Nat.le_of_ble_eq_true rfl | omega | (simp only [gR]; omega)) dX10_kind_8
theorem dX10_place_0 : decode cX10_place 0 = .ok (.aload_n 0, 1) := by decide +kernel
theorem dX10_place_1 : decode cX10_place 1 = .ok (.getfield 21, 3) := by decide +kernel
theorem dX10_place_4 : decode cX10_place 4 = .ok (.iload_n 1, 1) := by decide +kernel
theorem dX10_place_5 : decode cX10_place 5 = .ok (.invokevirtual 53, 3) := by decide +kernel
theorem dX10_place_8 : decode cX10_place 8 = .ok (.ireturn, 1) := by decide +kernel
set_option maxHeartbeats 4000000 in
set_option maxRecDepth 100000 in
theorem p_T_place (l : Launch) (d : gD) (b : Nat) (Y : gYt) (F : gM) (S : gSt) (hW : gWT d Y F S) (i : Int32) : gMi l d b yX10_place cX10_place 2 .int 2 0 0 F [.ref (gO' Y 2), .int i] (fun r F' => r = gGet (sF S 8) (sZ S 8) i ∧ F' = F) := by
  refine gM_of2 rfl (nL := 2) (Nat.le_of_ble_eq_true rfl) ?_
  intro X hX hC; subst hX
  show gG X d b _ F 0 0 0 [some (.ref (gO' Y 2)), some (.int i)] []
  have hM0 : gSm S S [] [] := gSm.rf
  have hK0 : gKp Y F F := gKp.rf
  refine g_aload_n hC dX10_place_0 rfl ?_
  refine g_get hC fl_X10_21 (hW.o 2 (by decide)) rfl dX10_place_1 ?_
  refine g_iload_n hC dX10_place_4 rfl ?_
  refine g_callVi (As := [.int i]) hC rfl (hW.r 8 (by decide)).1 (c_Ints_get X.la d b F _ _ _ _ _ _ (hW.r 8 (by decide)) i) cl_X10_53 rfl rfl (Nat.le_of_ble_eq_true rfl) (gFit_of (Nat.le_of_ble_eq_true rfl) (Nat.le_of_ble_eq_true rfl) (by first | exact Nat.le_of_ble_eq_true rfl | omega | (simp only [gR]; omega)) (by first | exact Nat.le_of_ble_eq_true rfl | omega | (simp only [gR]; omega))) dX10_place_5 (fun r1 F2 p3 => ?_)
  obtain ⟨er1, eF2⟩ := p3; have eF2 := eF2.symm; subst eF2
  exact g_iret hC rfl ⟨er1, rfl⟩ (by first | exact Nat.le_of_ble_eq_true rfl | omega | (simp only [gR]; omega)) (by first | exact Nat.le_of_ble_eq_true rfl | omega | (simp only [gR]; omega)) dX10_place_8
theorem dX10_data_0 : decode cX10_data 0 = .ok (.aload_n 0, 1) := by decide +kernel
theorem dX10_data_1 : decode cX10_data 1 = .ok (.getfield 24, 3) := by decide +kernel
theorem dX10_data_4 : decode cX10_data 4 = .ok (.iload_n 1, 1) := by decide +kernel
theorem dX10_data_5 : decode cX10_data 5 = .ok (.invokevirtual 53, 3) := by decide +kernel
theorem dX10_data_8 : decode cX10_data 8 = .ok (.ireturn, 1) := by decide +kernel
set_option maxHeartbeats 4000000 in
set_option maxRecDepth 100000 in
theorem p_T_data (l : Launch) (d : gD) (b : Nat) (Y : gYt) (F : gM) (S : gSt) (hW : gWT d Y F S) (i : Int32) : gMi l d b yX10_data cX10_data 2 .int 2 0 0 F [.ref (gO' Y 2), .int i] (fun r F' => r = gGet (sF S 9) (sZ S 9) i ∧ F' = F) := by
  refine gM_of2 rfl (nL := 2) (Nat.le_of_ble_eq_true rfl) ?_
  intro X hX hC; subst hX
  show gG X d b _ F 0 0 0 [some (.ref (gO' Y 2)), some (.int i)] []
  have hM0 : gSm S S [] [] := gSm.rf
  have hK0 : gKp Y F F := gKp.rf
  refine g_aload_n hC dX10_data_0 rfl ?_
  refine g_get hC fl_X10_24 (hW.o 2 (by decide)) rfl dX10_data_1 ?_
  refine g_iload_n hC dX10_data_4 rfl ?_
  refine g_callVi (As := [.int i]) hC rfl (hW.r 9 (by decide)).1 (c_Ints_get X.la d b F _ _ _ _ _ _ (hW.r 9 (by decide)) i) cl_X10_53 rfl rfl (Nat.le_of_ble_eq_true rfl) (gFit_of (Nat.le_of_ble_eq_true rfl) (Nat.le_of_ble_eq_true rfl) (by first | exact Nat.le_of_ble_eq_true rfl | omega | (simp only [gR]; omega)) (by first | exact Nat.le_of_ble_eq_true rfl | omega | (simp only [gR]; omega))) dX10_data_5 (fun r1 F2 p3 => ?_)
  obtain ⟨er1, eF2⟩ := p3; have eF2 := eF2.symm; subst eF2
  exact g_iret hC rfl ⟨er1, rfl⟩ (by first | exact Nat.le_of_ble_eq_true rfl | omega | (simp only [gR]; omega)) (by first | exact Nat.le_of_ble_eq_true rfl | omega | (simp only [gR]; omega)) dX10_data_8
theorem dX10_extra_0 : decode cX10_extra 0 = .ok (.aload_n 0, 1) := by decide +kernel
theorem dX10_extra_1 : decode cX10_extra 1 = .ok (.getfield 27, 3) := by decide +kernel
theorem dX10_extra_4 : decode cX10_extra 4 = .ok (.iload_n 1, 1) := by decide +kernel
theorem dX10_extra_5 : decode cX10_extra 5 = .ok (.invokevirtual 53, 3) := by decide +kernel
theorem dX10_extra_8 : decode cX10_extra 8 = .ok (.ireturn, 1) := by decide +kernel
set_option maxHeartbeats 4000000 in
set_option maxRecDepth 100000 in
theorem p_T_extra (l : Launch) (d : gD) (b : Nat) (Y : gYt) (F : gM) (S : gSt) (hW : gWT d Y F S) (i : Int32) : gMi l d b yX10_extra cX10_extra 2 .int 2 0 0 F [.ref (gO' Y 2), .int i] (fun r F' => r = gGet (sF S 10) (sZ S 10) i ∧ F' = F) := by
  refine gM_of2 rfl (nL := 2) (Nat.le_of_ble_eq_true rfl) ?_
  intro X hX hC; subst hX
  show gG X d b _ F 0 0 0 [some (.ref (gO' Y 2)), some (.int i)] []
  have hM0 : gSm S S [] [] := gSm.rf
  have hK0 : gKp Y F F := gKp.rf
  refine g_aload_n hC dX10_extra_0 rfl ?_
  refine g_get hC fl_X10_27 (hW.o 2 (by decide)) rfl dX10_extra_1 ?_
  refine g_iload_n hC dX10_extra_4 rfl ?_
  refine g_callVi (As := [.int i]) hC rfl (hW.r 10 (by decide)).1 (c_Ints_get X.la d b F _ _ _ _ _ _ (hW.r 10 (by decide)) i) cl_X10_53 rfl rfl (Nat.le_of_ble_eq_true rfl) (gFit_of (Nat.le_of_ble_eq_true rfl) (Nat.le_of_ble_eq_true rfl) (by first | exact Nat.le_of_ble_eq_true rfl | omega | (simp only [gR]; omega)) (by first | exact Nat.le_of_ble_eq_true rfl | omega | (simp only [gR]; omega))) dX10_extra_5 (fun r1 F2 p3 => ?_)
  obtain ⟨er1, eF2⟩ := p3; have eF2 := eF2.symm; subst eF2
  exact g_iret hC rfl ⟨er1, rfl⟩ (by first | exact Nat.le_of_ble_eq_true rfl | omega | (simp only [gR]; omega)) (by first | exact Nat.le_of_ble_eq_true rfl | omega | (simp only [gR]; omega)) dX10_extra_8
theorem dX10_first_0 : decode cX10_first 0 = .ok (.aload_n 0, 1) := by decide +kernel
theorem dX10_first_1 : decode cX10_first 1 = .ok (.getfield 30, 3) := by decide +kernel
theorem dX10_first_4 : decode cX10_first 4 = .ok (.iload_n 1, 1) := by decide +kernel
theorem dX10_first_5 : decode cX10_first 5 = .ok (.invokevirtual 53, 3) := by decide +kernel
theorem dX10_first_8 : decode cX10_first 8 = .ok (.ireturn, 1) := by decide +kernel
set_option maxHeartbeats 4000000 in
set_option maxRecDepth 100000 in
theorem p_T_first (l : Launch) (d : gD) (b : Nat) (Y : gYt) (F : gM) (S : gSt) (hW : gWT d Y F S) (i : Int32) : gMi l d b yX10_first cX10_first 2 .int 2 0 0 F [.ref (gO' Y 2), .int i] (fun r F' => r = gGet (sF S 11) (sZ S 11) i ∧ F' = F) := by
  refine gM_of2 rfl (nL := 2) (Nat.le_of_ble_eq_true rfl) ?_
  intro X hX hC; subst hX
  show gG X d b _ F 0 0 0 [some (.ref (gO' Y 2)), some (.int i)] []
  have hM0 : gSm S S [] [] := gSm.rf
  have hK0 : gKp Y F F := gKp.rf
  refine g_aload_n hC dX10_first_0 rfl ?_
  refine g_get hC fl_X10_30 (hW.o 2 (by decide)) rfl dX10_first_1 ?_
  refine g_iload_n hC dX10_first_4 rfl ?_
  refine g_callVi (As := [.int i]) hC rfl (hW.r 11 (by decide)).1 (c_Ints_get X.la d b F _ _ _ _ _ _ (hW.r 11 (by decide)) i) cl_X10_53 rfl rfl (Nat.le_of_ble_eq_true rfl) (gFit_of (Nat.le_of_ble_eq_true rfl) (Nat.le_of_ble_eq_true rfl) (by first | exact Nat.le_of_ble_eq_true rfl | omega | (simp only [gR]; omega)) (by first | exact Nat.le_of_ble_eq_true rfl | omega | (simp only [gR]; omega))) dX10_first_5 (fun r1 F2 p3 => ?_)
  obtain ⟨er1, eF2⟩ := p3; have eF2 := eF2.symm; subst eF2
  exact g_iret hC rfl ⟨er1, rfl⟩ (by first | exact Nat.le_of_ble_eq_true rfl | omega | (simp only [gR]; omega)) (by first | exact Nat.le_of_ble_eq_true rfl | omega | (simp only [gR]; omega)) dX10_first_8
theorem dX10_last_0 : decode cX10_last 0 = .ok (.aload_n 0, 1) := by decide +kernel
theorem dX10_last_1 : decode cX10_last 1 = .ok (.getfield 33, 3) := by decide +kernel
theorem dX10_last_4 : decode cX10_last 4 = .ok (.iload_n 1, 1) := by decide +kernel
theorem dX10_last_5 : decode cX10_last 5 = .ok (.invokevirtual 53, 3) := by decide +kernel
theorem dX10_last_8 : decode cX10_last 8 = .ok (.ireturn, 1) := by decide +kernel
set_option maxHeartbeats 4000000 in
set_option maxRecDepth 100000 in
theorem p_T_last (l : Launch) (d : gD) (b : Nat) (Y : gYt) (F : gM) (S : gSt) (hW : gWT d Y F S) (i : Int32) : gMi l d b yX10_last cX10_last 2 .int 2 0 0 F [.ref (gO' Y 2), .int i] (fun r F' => r = gGet (sF S 12) (sZ S 12) i ∧ F' = F) := by
  refine gM_of2 rfl (nL := 2) (Nat.le_of_ble_eq_true rfl) ?_
  intro X hX hC; subst hX
  show gG X d b _ F 0 0 0 [some (.ref (gO' Y 2)), some (.int i)] []
  have hM0 : gSm S S [] [] := gSm.rf
  have hK0 : gKp Y F F := gKp.rf
  refine g_aload_n hC dX10_last_0 rfl ?_
  refine g_get hC fl_X10_33 (hW.o 2 (by decide)) rfl dX10_last_1 ?_
  refine g_iload_n hC dX10_last_4 rfl ?_
  refine g_callVi (As := [.int i]) hC rfl (hW.r 12 (by decide)).1 (c_Ints_get X.la d b F _ _ _ _ _ _ (hW.r 12 (by decide)) i) cl_X10_53 rfl rfl (Nat.le_of_ble_eq_true rfl) (gFit_of (Nat.le_of_ble_eq_true rfl) (Nat.le_of_ble_eq_true rfl) (by first | exact Nat.le_of_ble_eq_true rfl | omega | (simp only [gR]; omega)) (by first | exact Nat.le_of_ble_eq_true rfl | omega | (simp only [gR]; omega))) dX10_last_5 (fun r1 F2 p3 => ?_)
  obtain ⟨er1, eF2⟩ := p3; have eF2 := eF2.symm; subst eF2
  exact g_iret hC rfl ⟨er1, rfl⟩ (by first | exact Nat.le_of_ble_eq_true rfl | omega | (simp only [gR]; omega)) (by first | exact Nat.le_of_ble_eq_true rfl | omega | (simp only [gR]; omega)) dX10_last_8
theorem dX10_next_0 : decode cX10_next 0 = .ok (.aload_n 0, 1) := by decide +kernel
theorem dX10_next_1 : decode cX10_next 1 = .ok (.getfield 36, 3) := by decide +kernel
theorem dX10_next_4 : decode cX10_next 4 = .ok (.iload_n 1, 1) := by decide +kernel
theorem dX10_next_5 : decode cX10_next 5 = .ok (.invokevirtual 53, 3) := by decide +kernel
theorem dX10_next_8 : decode cX10_next 8 = .ok (.ireturn, 1) := by decide +kernel
set_option maxHeartbeats 4000000 in
set_option maxRecDepth 100000 in
theorem p_T_next (l : Launch) (d : gD) (b : Nat) (Y : gYt) (F : gM) (S : gSt) (hW : gWT d Y F S) (i : Int32) : gMi l d b yX10_next cX10_next 2 .int 2 0 0 F [.ref (gO' Y 2), .int i] (fun r F' => r = gGet (sF S 13) (sZ S 13) i ∧ F' = F) := by
  refine gM_of2 rfl (nL := 2) (Nat.le_of_ble_eq_true rfl) ?_
  intro X hX hC; subst hX
  show gG X d b _ F 0 0 0 [some (.ref (gO' Y 2)), some (.int i)] []
  have hM0 : gSm S S [] [] := gSm.rf
  have hK0 : gKp Y F F := gKp.rf
  refine g_aload_n hC dX10_next_0 rfl ?_
  refine g_get hC fl_X10_36 (hW.o 2 (by decide)) rfl dX10_next_1 ?_
  refine g_iload_n hC dX10_next_4 rfl ?_
  refine g_callVi (As := [.int i]) hC rfl (hW.r 13 (by decide)).1 (c_Ints_get X.la d b F _ _ _ _ _ _ (hW.r 13 (by decide)) i) cl_X10_53 rfl rfl (Nat.le_of_ble_eq_true rfl) (gFit_of (Nat.le_of_ble_eq_true rfl) (Nat.le_of_ble_eq_true rfl) (by first | exact Nat.le_of_ble_eq_true rfl | omega | (simp only [gR]; omega)) (by first | exact Nat.le_of_ble_eq_true rfl | omega | (simp only [gR]; omega))) dX10_next_5 (fun r1 F2 p3 => ?_)
  obtain ⟨er1, eF2⟩ := p3; have eF2 := eF2.symm; subst eF2
  exact g_iret hC rfl ⟨er1, rfl⟩ (by first | exact Nat.le_of_ble_eq_true rfl | omega | (simp only [gR]; omega)) (by first | exact Nat.le_of_ble_eq_true rfl | omega | (simp only [gR]; omega)) dX10_next_8
theorem dX10_setKind_0 : decode cX10_setKind 0 = .ok (.aload_n 0, 1) := by decide +kernel
theorem dX10_setKind_1 : decode cX10_setKind 1 = .ok (.getfield 15, 3) := by decide +kernel
theorem dX10_setKind_4 : decode cX10_setKind 4 = .ok (.iload_n 1, 1) := by decide +kernel
theorem dX10_setKind_5 : decode cX10_setKind 5 = .ok (.iload_n 2, 1) := by decide +kernel
theorem dX10_setKind_6 : decode cX10_setKind 6 = .ok (.invokevirtual 57, 3) := by decide +kernel
theorem dX10_setKind_9 : decode cX10_setKind 9 = .ok (.return_, 1) := by decide +kernel
set_option maxHeartbeats 4000000 in
set_option maxRecDepth 100000 in
theorem s_T_setKind (l : Launch) (d : gD) (b : Nat) (Y : gYt) (c : Nat × Nat) (F : gM) (k n : Nat) {S : gSt} (hi : hI d b Y c (F, k, n) S) (i x : Int32) : hMv l d b yX10_setKind cX10_setKind 3 2 k n F [.ref (gO' Y 2), .int i, .int x] (fun u => ∃ S', hI d b Y c u S' ∧ gKp Y F u.1 ∧ gSm S S' [7] [] ∧ gSe S S' 7 i x) := by
  intro mc ms
  refine hM_of2 rfl (nL := 3) (Nat.le_of_ble_eq_true rfl) ?_
  intro X hX hC hr ho; subst hX
  show hG X d b _ F k n 0 [some (.ref (gO' Y 2)), some (.int i), some (.int x)] []
  refine h_aload_n hC dX10_setKind_0 rfl ?_
  refine h_get hC fl_X10_15 (hi.1.o 2 (by decide)) rfl dX10_setKind_1 ?_
  refine h_iload_n hC dX10_setKind_4 rfl ?_
  refine h_iload_n hC dX10_setKind_5 rfl ?_
  refine hi_set (j := 7) hC hr ho hi (by decide) cl_X10_57 rfl (Nat.le_of_ble_eq_true rfl) (hFr_of (Nat.le_of_ble_eq_true rfl) (Nat.le_of_ble_eq_true rfl)) dX10_setKind_6 (fun F1 S2 I3 K4 s5 a6 => ?_)
  have m7 : gSm S S2 [7] [] := gSm.wk s5 _ _ rfl rfl
  have Pa6 : gPsi S2 ≤ gPsi S := a6.2.2.2.2
  exact h_vret hC hr ho rfl rfl ⟨S2, I3, K4, m7, a6⟩ dX10_setKind_9
theorem dX10_setData_0 : decode cX10_setData 0 = .ok (.aload_n 0, 1) := by decide +kernel
theorem dX10_setData_1 : decode cX10_setData 1 = .ok (.getfield 24, 3) := by decide +kernel
theorem dX10_setData_4 : decode cX10_setData 4 = .ok (.iload_n 1, 1) := by decide +kernel
theorem dX10_setData_5 : decode cX10_setData 5 = .ok (.iload_n 2, 1) := by decide +kernel
theorem dX10_setData_6 : decode cX10_setData 6 = .ok (.invokevirtual 57, 3) := by decide +kernel
theorem dX10_setData_9 : decode cX10_setData 9 = .ok (.return_, 1) := by decide +kernel
set_option maxHeartbeats 4000000 in
set_option maxRecDepth 100000 in
theorem s_T_setData (l : Launch) (d : gD) (b : Nat) (Y : gYt) (c : Nat × Nat) (F : gM) (k n : Nat) {S : gSt} (hi : hI d b Y c (F, k, n) S) (i x : Int32) : hMv l d b yX10_setData cX10_setData 3 2 k n F [.ref (gO' Y 2), .int i, .int x] (fun u => ∃ S', hI d b Y c u S' ∧ gKp Y F u.1 ∧ gSm S S' [9] [] ∧ gSe S S' 9 i x) := by
  intro mc ms
  refine hM_of2 rfl (nL := 3) (Nat.le_of_ble_eq_true rfl) ?_
  intro X hX hC hr ho; subst hX
  show hG X d b _ F k n 0 [some (.ref (gO' Y 2)), some (.int i), some (.int x)] []
  refine h_aload_n hC dX10_setData_0 rfl ?_
  refine h_get hC fl_X10_24 (hi.1.o 2 (by decide)) rfl dX10_setData_1 ?_
  refine h_iload_n hC dX10_setData_4 rfl ?_
  refine h_iload_n hC dX10_setData_5 rfl ?_
  refine hi_set (j := 9) hC hr ho hi (by decide) cl_X10_57 rfl (Nat.le_of_ble_eq_true rfl) (hFr_of (Nat.le_of_ble_eq_true rfl) (Nat.le_of_ble_eq_true rfl)) dX10_setData_6 (fun F1 S2 I3 K4 s5 a6 => ?_)
  have m7 : gSm S S2 [9] [] := gSm.wk s5 _ _ rfl rfl
  have Pa6 : gPsi S2 ≤ gPsi S := a6.2.2.2.2
  exact h_vret hC hr ho rfl rfl ⟨S2, I3, K4, m7, a6⟩ dX10_setData_9
theorem dX10_setExtra_0 : decode cX10_setExtra 0 = .ok (.aload_n 0, 1) := by decide +kernel
theorem dX10_setExtra_1 : decode cX10_setExtra 1 = .ok (.getfield 27, 3) := by decide +kernel
theorem dX10_setExtra_4 : decode cX10_setExtra 4 = .ok (.iload_n 1, 1) := by decide +kernel
theorem dX10_setExtra_5 : decode cX10_setExtra 5 = .ok (.iload_n 2, 1) := by decide +kernel
theorem dX10_setExtra_6 : decode cX10_setExtra 6 = .ok (.invokevirtual 57, 3) := by decide +kernel
theorem dX10_setExtra_9 : decode cX10_setExtra 9 = .ok (.return_, 1) := by decide +kernel
set_option maxHeartbeats 4000000 in
set_option maxRecDepth 100000 in
theorem s_T_setExtra (l : Launch) (d : gD) (b : Nat) (Y : gYt) (c : Nat × Nat) (F : gM) (k n : Nat) {S : gSt} (hi : hI d b Y c (F, k, n) S) (i x : Int32) : hMv l d b yX10_setExtra cX10_setExtra 3 2 k n F [.ref (gO' Y 2), .int i, .int x] (fun u => ∃ S', hI d b Y c u S' ∧ gKp Y F u.1 ∧ gSm S S' [10] [] ∧ gSe S S' 10 i x) := by
  intro mc ms
  refine hM_of2 rfl (nL := 3) (Nat.le_of_ble_eq_true rfl) ?_
  intro X hX hC hr ho; subst hX
  show hG X d b _ F k n 0 [some (.ref (gO' Y 2)), some (.int i), some (.int x)] []
  refine h_aload_n hC dX10_setExtra_0 rfl ?_
  refine h_get hC fl_X10_27 (hi.1.o 2 (by decide)) rfl dX10_setExtra_1 ?_
  refine h_iload_n hC dX10_setExtra_4 rfl ?_
  refine h_iload_n hC dX10_setExtra_5 rfl ?_
  refine hi_set (j := 10) hC hr ho hi (by decide) cl_X10_57 rfl (Nat.le_of_ble_eq_true rfl) (hFr_of (Nat.le_of_ble_eq_true rfl) (Nat.le_of_ble_eq_true rfl)) dX10_setExtra_6 (fun F1 S2 I3 K4 s5 a6 => ?_)
  have m7 : gSm S S2 [10] [] := gSm.wk s5 _ _ rfl rfl
  have Pa6 : gPsi S2 ≤ gPsi S := a6.2.2.2.2
  exact h_vret hC hr ho rfl rfl ⟨S2, I3, K4, m7, a6⟩ dX10_setExtra_9
theorem dX7_wordAt_0 : decode cX7_wordAt 0 = .ok (.aload_n 0, 1) := by decide +kernel
theorem dX7_wordAt_1 : decode cX7_wordAt 1 = .ok (.getfield 21, 3) := by decide +kernel
theorem dX7_wordAt_4 : decode cX7_wordAt 4 = .ok (.iload_n 1, 1) := by decide +kernel
theorem dX7_wordAt_5 : decode cX7_wordAt 5 = .ok (.invokevirtual 70, 3) := by decide +kernel
theorem dX7_wordAt_8 : decode cX7_wordAt 8 = .ok (.ireturn, 1) := by decide +kernel
set_option maxHeartbeats 4000000 in
set_option maxRecDepth 100000 in
theorem p_P_wordAt (l : Launch) (d : gD) (b : Nat) (Y : gYt) (F : gM) (S : gSt) (hW : gWT d Y F S) (i : Int32) : gMi l d b yX7_wordAt cX7_wordAt 2 .int 2 0 0 F [.ref (gO' Y 1), .int i] (fun r F' => r = gGet (sF S 2) (sZ S 2) i ∧ F' = F) := by
  refine gM_of2 rfl (nL := 2) (Nat.le_of_ble_eq_true rfl) ?_
  intro X hX hC; subst hX
  show gG X d b _ F 0 0 0 [some (.ref (gO' Y 1)), some (.int i)] []
  have hM0 : gSm S S [] [] := gSm.rf
  have hK0 : gKp Y F F := gKp.rf
  refine g_aload_n hC dX7_wordAt_0 rfl ?_
  refine g_get hC fl_X7_21 (hW.o 1 (by decide)) rfl dX7_wordAt_1 ?_
  refine g_iload_n hC dX7_wordAt_4 rfl ?_
  refine g_callVi (As := [.int i]) hC rfl (hW.r 2 (by decide)).1 (c_Ints_get X.la d b F _ _ _ _ _ _ (hW.r 2 (by decide)) i) cl_X7_70 rfl rfl (Nat.le_of_ble_eq_true rfl) (gFit_of (Nat.le_of_ble_eq_true rfl) (Nat.le_of_ble_eq_true rfl) (by first | exact Nat.le_of_ble_eq_true rfl | omega | (simp only [gR]; omega)) (by first | exact Nat.le_of_ble_eq_true rfl | omega | (simp only [gR]; omega))) dX7_wordAt_5 (fun r1 F2 p3 => ?_)
  obtain ⟨er1, eF2⟩ := p3; have eF2 := eF2.symm; subst eF2
  exact g_iret hC rfl ⟨er1, rfl⟩ (by first | exact Nat.le_of_ble_eq_true rfl | omega | (simp only [gR]; omega)) (by first | exact Nat.le_of_ble_eq_true rfl | omega | (simp only [gR]; omega)) dX7_wordAt_8
theorem dX7_home_0 : decode cX7_home 0 = .ok (.aload_n 0, 1) := by decide +kernel
theorem dX7_home_1 : decode cX7_home 1 = .ok (.getfield 24, 3) := by decide +kernel
theorem dX7_home_4 : decode cX7_home 4 = .ok (.iload_n 1, 1) := by decide +kernel
theorem dX7_home_5 : decode cX7_home 5 = .ok (.invokevirtual 70, 3) := by decide +kernel
theorem dX7_home_8 : decode cX7_home 8 = .ok (.ireturn, 1) := by decide +kernel
set_option maxHeartbeats 4000000 in
set_option maxRecDepth 100000 in
theorem p_P_home (l : Launch) (d : gD) (b : Nat) (Y : gYt) (F : gM) (S : gSt) (hW : gWT d Y F S) (i : Int32) : gMi l d b yX7_home cX7_home 2 .int 2 0 0 F [.ref (gO' Y 1), .int i] (fun r F' => r = gGet (sF S 3) (sZ S 3) i ∧ F' = F) := by
  refine gM_of2 rfl (nL := 2) (Nat.le_of_ble_eq_true rfl) ?_
  intro X hX hC; subst hX
  show gG X d b _ F 0 0 0 [some (.ref (gO' Y 1)), some (.int i)] []
  have hM0 : gSm S S [] [] := gSm.rf
  have hK0 : gKp Y F F := gKp.rf
  refine g_aload_n hC dX7_home_0 rfl ?_
  refine g_get hC fl_X7_24 (hW.o 1 (by decide)) rfl dX7_home_1 ?_
  refine g_iload_n hC dX7_home_4 rfl ?_
  refine g_callVi (As := [.int i]) hC rfl (hW.r 3 (by decide)).1 (c_Ints_get X.la d b F _ _ _ _ _ _ (hW.r 3 (by decide)) i) cl_X7_70 rfl rfl (Nat.le_of_ble_eq_true rfl) (gFit_of (Nat.le_of_ble_eq_true rfl) (Nat.le_of_ble_eq_true rfl) (by first | exact Nat.le_of_ble_eq_true rfl | omega | (simp only [gR]; omega)) (by first | exact Nat.le_of_ble_eq_true rfl | omega | (simp only [gR]; omega))) dX7_home_5 (fun r1 F2 p3 => ?_)
  obtain ⟨er1, eF2⟩ := p3; have eF2 := eF2.symm; subst eF2
  exact g_iret hC rfl ⟨er1, rfl⟩ (by first | exact Nat.le_of_ble_eq_true rfl | omega | (simp only [gR]; omega)) (by first | exact Nat.le_of_ble_eq_true rfl | omega | (simp only [gR]; omega)) dX7_home_8
theorem dX7_begin_0 : decode cX7_begin 0 = .ok (.aload_n 0, 1) := by decide +kernel
theorem dX7_begin_1 : decode cX7_begin 1 = .ok (.getfield 27, 3) := by decide +kernel
theorem dX7_begin_4 : decode cX7_begin 4 = .ok (.iload_n 1, 1) := by decide +kernel
theorem dX7_begin_5 : decode cX7_begin 5 = .ok (.invokevirtual 70, 3) := by decide +kernel
theorem dX7_begin_8 : decode cX7_begin 8 = .ok (.ireturn, 1) := by decide +kernel
set_option maxHeartbeats 4000000 in
set_option maxRecDepth 100000 in
theorem p_P_begin (l : Launch) (d : gD) (b : Nat) (Y : gYt) (F : gM) (S : gSt) (hW : gWT d Y F S) (i : Int32) : gMi l d b yX7_begin cX7_begin 2 .int 2 0 0 F [.ref (gO' Y 1), .int i] (fun r F' => r = gGet (sF S 4) (sZ S 4) i ∧ F' = F) := by
  refine gM_of2 rfl (nL := 2) (Nat.le_of_ble_eq_true rfl) ?_
  intro X hX hC; subst hX
  show gG X d b _ F 0 0 0 [some (.ref (gO' Y 1)), some (.int i)] []
  have hM0 : gSm S S [] [] := gSm.rf
  have hK0 : gKp Y F F := gKp.rf
  refine g_aload_n hC dX7_begin_0 rfl ?_
  refine g_get hC fl_X7_27 (hW.o 1 (by decide)) rfl dX7_begin_1 ?_
  refine g_iload_n hC dX7_begin_4 rfl ?_
  refine g_callVi (As := [.int i]) hC rfl (hW.r 4 (by decide)).1 (c_Ints_get X.la d b F _ _ _ _ _ _ (hW.r 4 (by decide)) i) cl_X7_70 rfl rfl (Nat.le_of_ble_eq_true rfl) (gFit_of (Nat.le_of_ble_eq_true rfl) (Nat.le_of_ble_eq_true rfl) (by first | exact Nat.le_of_ble_eq_true rfl | omega | (simp only [gR]; omega)) (by first | exact Nat.le_of_ble_eq_true rfl | omega | (simp only [gR]; omega))) dX7_begin_5 (fun r1 F2 p3 => ?_)
  obtain ⟨er1, eF2⟩ := p3; have eF2 := eF2.symm; subst eF2
  exact g_iret hC rfl ⟨er1, rfl⟩ (by first | exact Nat.le_of_ble_eq_true rfl | omega | (simp only [gR]; omega)) (by first | exact Nat.le_of_ble_eq_true rfl | omega | (simp only [gR]; omega)) dX7_begin_8
theorem dX7_frame_0 : decode cX7_frame 0 = .ok (.aload_n 0, 1) := by decide +kernel
theorem dX7_frame_1 : decode cX7_frame 1 = .ok (.getfield 30, 3) := by decide +kernel
theorem dX7_frame_4 : decode cX7_frame 4 = .ok (.iload_n 1, 1) := by decide +kernel
theorem dX7_frame_5 : decode cX7_frame 5 = .ok (.invokevirtual 70, 3) := by decide +kernel
theorem dX7_frame_8 : decode cX7_frame 8 = .ok (.ireturn, 1) := by decide +kernel
set_option maxHeartbeats 4000000 in
set_option maxRecDepth 100000 in
theorem p_P_frame (l : Launch) (d : gD) (b : Nat) (Y : gYt) (F : gM) (S : gSt) (hW : gWT d Y F S) (i : Int32) : gMi l d b yX7_frame cX7_frame 2 .int 2 0 0 F [.ref (gO' Y 1), .int i] (fun r F' => r = gGet (sF S 5) (sZ S 5) i ∧ F' = F) := by
  refine gM_of2 rfl (nL := 2) (Nat.le_of_ble_eq_true rfl) ?_
  intro X hX hC; subst hX
  show gG X d b _ F 0 0 0 [some (.ref (gO' Y 1)), some (.int i)] []
  have hM0 : gSm S S [] [] := gSm.rf
  have hK0 : gKp Y F F := gKp.rf
  refine g_aload_n hC dX7_frame_0 rfl ?_
  refine g_get hC fl_X7_30 (hW.o 1 (by decide)) rfl dX7_frame_1 ?_
  refine g_iload_n hC dX7_frame_4 rfl ?_
  refine g_callVi (As := [.int i]) hC rfl (hW.r 5 (by decide)).1 (c_Ints_get X.la d b F _ _ _ _ _ _ (hW.r 5 (by decide)) i) cl_X7_70 rfl rfl (Nat.le_of_ble_eq_true rfl) (gFit_of (Nat.le_of_ble_eq_true rfl) (Nat.le_of_ble_eq_true rfl) (by first | exact Nat.le_of_ble_eq_true rfl | omega | (simp only [gR]; omega)) (by first | exact Nat.le_of_ble_eq_true rfl | omega | (simp only [gR]; omega))) dX7_frame_5 (fun r1 F2 p3 => ?_)
  obtain ⟨er1, eF2⟩ := p3; have eF2 := eF2.symm; subst eF2
  exact g_iret hC rfl ⟨er1, rfl⟩ (by first | exact Nat.le_of_ble_eq_true rfl | omega | (simp only [gR]; omega)) (by first | exact Nat.le_of_ble_eq_true rfl | omega | (simp only [gR]; omega)) dX7_frame_8
theorem dX7_params_0 : decode cX7_params 0 = .ok (.aload_n 0, 1) := by decide +kernel
theorem dX7_params_1 : decode cX7_params 1 = .ok (.getfield 33, 3) := by decide +kernel
theorem dX7_params_4 : decode cX7_params 4 = .ok (.iload_n 1, 1) := by decide +kernel
theorem dX7_params_5 : decode cX7_params 5 = .ok (.invokevirtual 70, 3) := by decide +kernel
theorem dX7_params_8 : decode cX7_params 8 = .ok (.ireturn, 1) := by decide +kernel
set_option maxHeartbeats 4000000 in
set_option maxRecDepth 100000 in
theorem p_P_params (l : Launch) (d : gD) (b : Nat) (Y : gYt) (F : gM) (S : gSt) (hW : gWT d Y F S) (i : Int32) : gMi l d b yX7_params cX7_params 2 .int 2 0 0 F [.ref (gO' Y 1), .int i] (fun r F' => r = gGet (sF S 6) (sZ S 6) i ∧ F' = F) := by
  refine gM_of2 rfl (nL := 2) (Nat.le_of_ble_eq_true rfl) ?_
  intro X hX hC; subst hX
  show gG X d b _ F 0 0 0 [some (.ref (gO' Y 1)), some (.int i)] []
  have hM0 : gSm S S [] [] := gSm.rf
  have hK0 : gKp Y F F := gKp.rf
  refine g_aload_n hC dX7_params_0 rfl ?_
  refine g_get hC fl_X7_33 (hW.o 1 (by decide)) rfl dX7_params_1 ?_
  refine g_iload_n hC dX7_params_4 rfl ?_
  refine g_callVi (As := [.int i]) hC rfl (hW.r 6 (by decide)).1 (c_Ints_get X.la d b F _ _ _ _ _ _ (hW.r 6 (by decide)) i) cl_X7_70 rfl rfl (Nat.le_of_ble_eq_true rfl) (gFit_of (Nat.le_of_ble_eq_true rfl) (Nat.le_of_ble_eq_true rfl) (by first | exact Nat.le_of_ble_eq_true rfl | omega | (simp only [gR]; omega)) (by first | exact Nat.le_of_ble_eq_true rfl | omega | (simp only [gR]; omega))) dX7_params_5 (fun r1 F2 p3 => ?_)
  obtain ⟨er1, eF2⟩ := p3; have eF2 := eF2.symm; subst eF2
  exact g_iret hC rfl ⟨er1, rfl⟩ (by first | exact Nat.le_of_ble_eq_true rfl | omega | (simp only [gR]; omega)) (by first | exact Nat.le_of_ble_eq_true rfl | omega | (simp only [gR]; omega)) dX7_params_8
theorem dX7_codeAt_0 : decode cX7_codeAt 0 = .ok (.aload_n 0, 1) := by decide +kernel
theorem dX7_codeAt_1 : decode cX7_codeAt 1 = .ok (.getfield 15, 3) := by decide +kernel
theorem dX7_codeAt_4 : decode cX7_codeAt 4 = .ok (.iload_n 1, 1) := by decide +kernel
theorem dX7_codeAt_5 : decode cX7_codeAt 5 = .ok (.invokevirtual 70, 3) := by decide +kernel
theorem dX7_codeAt_8 : decode cX7_codeAt 8 = .ok (.ireturn, 1) := by decide +kernel
set_option maxHeartbeats 4000000 in
set_option maxRecDepth 100000 in
theorem p_P_codeAt (l : Launch) (d : gD) (b : Nat) (Y : gYt) (F : gM) (S : gSt) (hW : gWT d Y F S) (i : Int32) : gMi l d b yX7_codeAt cX7_codeAt 2 .int 2 0 0 F [.ref (gO' Y 1), .int i] (fun r F' => r = gGet (sF S 1) (sZ S 1) i ∧ F' = F) := by
  refine gM_of2 rfl (nL := 2) (Nat.le_of_ble_eq_true rfl) ?_
  intro X hX hC; subst hX
  show gG X d b _ F 0 0 0 [some (.ref (gO' Y 1)), some (.int i)] []
  have hM0 : gSm S S [] [] := gSm.rf
  have hK0 : gKp Y F F := gKp.rf
  refine g_aload_n hC dX7_codeAt_0 rfl ?_
  refine g_get hC fl_X7_15 (hW.o 1 (by decide)) rfl dX7_codeAt_1 ?_
  refine g_iload_n hC dX7_codeAt_4 rfl ?_
  refine g_callVi (As := [.int i]) hC rfl (hW.r 1 (by decide)).1 (c_Ints_get X.la d b F _ _ _ _ _ _ (hW.r 1 (by decide)) i) cl_X7_70 rfl rfl (Nat.le_of_ble_eq_true rfl) (gFit_of (Nat.le_of_ble_eq_true rfl) (Nat.le_of_ble_eq_true rfl) (by first | exact Nat.le_of_ble_eq_true rfl | omega | (simp only [gR]; omega)) (by first | exact Nat.le_of_ble_eq_true rfl | omega | (simp only [gR]; omega))) dX7_codeAt_5 (fun r1 F2 p3 => ?_)
  obtain ⟨er1, eF2⟩ := p3; have eF2 := eF2.symm; subst eF2
  exact g_iret hC rfl ⟨er1, rfl⟩ (by first | exact Nat.le_of_ble_eq_true rfl | omega | (simp only [gR]; omega)) (by first | exact Nat.le_of_ble_eq_true rfl | omega | (simp only [gR]; omega)) dX7_codeAt_8
theorem dX7_words_0 : decode cX7_words 0 = .ok (.aload_n 0, 1) := by decide +kernel
theorem dX7_words_1 : decode cX7_words 1 = .ok (.getfield 21, 3) := by decide +kernel
theorem dX7_words_4 : decode cX7_words 4 = .ok (.invokevirtual 67, 3) := by decide +kernel
theorem dX7_words_7 : decode cX7_words 7 = .ok (.ireturn, 1) := by decide +kernel
set_option maxHeartbeats 4000000 in
set_option maxRecDepth 100000 in
theorem p_P_words (l : Launch) (d : gD) (b : Nat) (Y : gYt) (F : gM) (S : gSt) (hW : gWT d Y F S)  : gMi l d b yX7_words cX7_words 1 .int 2 0 0 F [.ref (gO' Y 1)] (fun r F' => r = nI (sZ S 2) ∧ F' = F) := by
  refine gM_of2 rfl (nL := 1) (Nat.le_of_ble_eq_true rfl) ?_
  intro X hX hC; subst hX
  show gG X d b _ F 0 0 0 [some (.ref (gO' Y 1))] []
  have hM0 : gSm S S [] [] := gSm.rf
  have hK0 : gKp Y F F := gKp.rf
  refine g_aload_n hC dX7_words_0 rfl ?_
  refine g_get hC fl_X7_21 (hW.o 1 (by decide)) rfl dX7_words_1 ?_
  refine g_callVi (As := []) hC rfl (hW.r 2 (by decide)).1 (c_Ints_size X.la d b F _ _ _ _ _ _ (hW.r 2 (by decide))) cl_X7_67 rfl rfl (Nat.le_of_ble_eq_true rfl) (gFit_of (Nat.le_of_ble_eq_true rfl) (Nat.le_of_ble_eq_true rfl) (by first | exact Nat.le_of_ble_eq_true rfl | omega | (simp only [gR]; omega)) (by first | exact Nat.le_of_ble_eq_true rfl | omega | (simp only [gR]; omega))) dX7_words_4 (fun r1 F2 p3 => ?_)
  obtain ⟨rfl, eF2⟩ := p3; have eF2 := eF2.symm; subst eF2
  exact g_iret hC rfl ⟨rfl, rfl⟩ (by first | exact Nat.le_of_ble_eq_true rfl | omega | (simp only [gR]; omega)) (by first | exact Nat.le_of_ble_eq_true rfl | omega | (simp only [gR]; omega)) dX7_words_7
theorem dX7_routines_0 : decode cX7_routines 0 = .ok (.aload_n 0, 1) := by decide +kernel
theorem dX7_routines_1 : decode cX7_routines 1 = .ok (.getfield 24, 3) := by decide +kernel
theorem dX7_routines_4 : decode cX7_routines 4 = .ok (.invokevirtual 67, 3) := by decide +kernel
theorem dX7_routines_7 : decode cX7_routines 7 = .ok (.ireturn, 1) := by decide +kernel
set_option maxHeartbeats 4000000 in
set_option maxRecDepth 100000 in
theorem p_P_routines (l : Launch) (d : gD) (b : Nat) (Y : gYt) (F : gM) (S : gSt) (hW : gWT d Y F S)  : gMi l d b yX7_routines cX7_routines 1 .int 2 0 0 F [.ref (gO' Y 1)] (fun r F' => r = nI (sZ S 3) ∧ F' = F) := by
  refine gM_of2 rfl (nL := 1) (Nat.le_of_ble_eq_true rfl) ?_
  intro X hX hC; subst hX
  show gG X d b _ F 0 0 0 [some (.ref (gO' Y 1))] []
  have hM0 : gSm S S [] [] := gSm.rf
  have hK0 : gKp Y F F := gKp.rf
  refine g_aload_n hC dX7_routines_0 rfl ?_
  refine g_get hC fl_X7_24 (hW.o 1 (by decide)) rfl dX7_routines_1 ?_
  refine g_callVi (As := []) hC rfl (hW.r 3 (by decide)).1 (c_Ints_size X.la d b F _ _ _ _ _ _ (hW.r 3 (by decide))) cl_X7_67 rfl rfl (Nat.le_of_ble_eq_true rfl) (gFit_of (Nat.le_of_ble_eq_true rfl) (Nat.le_of_ble_eq_true rfl) (by first | exact Nat.le_of_ble_eq_true rfl | omega | (simp only [gR]; omega)) (by first | exact Nat.le_of_ble_eq_true rfl | omega | (simp only [gR]; omega))) dX7_routines_4 (fun r1 F2 p3 => ?_)
  obtain ⟨rfl, eF2⟩ := p3; have eF2 := eF2.symm; subst eF2
  exact g_iret hC rfl ⟨rfl, rfl⟩ (by first | exact Nat.le_of_ble_eq_true rfl | omega | (simp only [gR]; omega)) (by first | exact Nat.le_of_ble_eq_true rfl | omega | (simp only [gR]; omega)) dX7_routines_7
theorem dX7_here_0 : decode cX7_here 0 = .ok (.aload_n 0, 1) := by decide +kernel
theorem dX7_here_1 : decode cX7_here 1 = .ok (.getfield 15, 3) := by decide +kernel
theorem dX7_here_4 : decode cX7_here 4 = .ok (.invokevirtual 67, 3) := by decide +kernel
theorem dX7_here_7 : decode cX7_here 7 = .ok (.ireturn, 1) := by decide +kernel
set_option maxHeartbeats 4000000 in
set_option maxRecDepth 100000 in
theorem p_P_here (l : Launch) (d : gD) (b : Nat) (Y : gYt) (F : gM) (S : gSt) (hW : gWT d Y F S)  : gMi l d b yX7_here cX7_here 1 .int 2 0 0 F [.ref (gO' Y 1)] (fun r F' => r = nI (sZ S 1) ∧ F' = F) := by
  refine gM_of2 rfl (nL := 1) (Nat.le_of_ble_eq_true rfl) ?_
  intro X hX hC; subst hX
  show gG X d b _ F 0 0 0 [some (.ref (gO' Y 1))] []
  have hM0 : gSm S S [] [] := gSm.rf
  have hK0 : gKp Y F F := gKp.rf
  refine g_aload_n hC dX7_here_0 rfl ?_
  refine g_get hC fl_X7_15 (hW.o 1 (by decide)) rfl dX7_here_1 ?_
  refine g_callVi (As := []) hC rfl (hW.r 1 (by decide)).1 (c_Ints_size X.la d b F _ _ _ _ _ _ (hW.r 1 (by decide))) cl_X7_67 rfl rfl (Nat.le_of_ble_eq_true rfl) (gFit_of (Nat.le_of_ble_eq_true rfl) (Nat.le_of_ble_eq_true rfl) (by first | exact Nat.le_of_ble_eq_true rfl | omega | (simp only [gR]; omega)) (by first | exact Nat.le_of_ble_eq_true rfl | omega | (simp only [gR]; omega))) dX7_here_4 (fun r1 F2 p3 => ?_)
  obtain ⟨rfl, eF2⟩ := p3; have eF2 := eF2.symm; subst eF2
  exact g_iret hC rfl ⟨rfl, rfl⟩ (by first | exact Nat.le_of_ble_eq_true rfl | omega | (simp only [gR]; omega)) (by first | exact Nat.le_of_ble_eq_true rfl | omega | (simp only [gR]; omega)) dX7_here_7
set_option maxHeartbeats 4000000 in
set_option maxRecDepth 100000 in
theorem p_P_faultKind (l : Launch) (d : gD) (b : Nat) (Y : gYt) (F : gM) (S : gSt) (hW : gWT d Y F S)  : gMi l d b yX7_faultKind cX7_faultKind 1 .int 1 0 0 F [.ref (gO' Y 1)] (fun r F' => r = sV S 4 ∧ F' = F) := by
  refine gM_of2 rfl (nL := 1) (Nat.le_of_ble_eq_true rfl) ?_
  intro X hX hC; subst hX
  show gG X d b _ F 0 0 0 [some (.ref (gO' Y 1))] []
  have hM0 : gSm S S [] [] := gSm.rf
  have hK0 : gKp Y F F := gKp.rf
  refine g_aload_n hC dX7_faultKind_0 rfl ?_
  refine g_get hC fl_X7_43 (hW.o 1 (by decide)) rfl dX7_faultKind_1 ?_
  exact g_iret hC rfl ⟨rfl, rfl⟩ (by first | exact Nat.le_of_ble_eq_true rfl | omega | (simp only [gR]; omega)) (by first | exact Nat.le_of_ble_eq_true rfl | omega | (simp only [gR]; omega)) dX7_faultKind_4
theorem dX7_faultPlace_0 : decode cX7_faultPlace 0 = .ok (.aload_n 0, 1) := by decide +kernel
theorem dX7_faultPlace_1 : decode cX7_faultPlace 1 = .ok (.getfield 46, 3) := by decide +kernel
theorem dX7_faultPlace_4 : decode cX7_faultPlace 4 = .ok (.ireturn, 1) := by decide +kernel
set_option maxHeartbeats 4000000 in
set_option maxRecDepth 100000 in
theorem p_P_faultPlace (l : Launch) (d : gD) (b : Nat) (Y : gYt) (F : gM) (S : gSt) (hW : gWT d Y F S)  : gMi l d b yX7_faultPlace cX7_faultPlace 1 .int 1 0 0 F [.ref (gO' Y 1)] (fun r F' => r = sV S 5 ∧ F' = F) := by
  refine gM_of2 rfl (nL := 1) (Nat.le_of_ble_eq_true rfl) ?_
  intro X hX hC; subst hX
  show gG X d b _ F 0 0 0 [some (.ref (gO' Y 1))] []
  have hM0 : gSm S S [] [] := gSm.rf
  have hK0 : gKp Y F F := gKp.rf
  refine g_aload_n hC dX7_faultPlace_0 rfl ?_
  refine g_get hC fl_X7_46 (hW.o 1 (by decide)) rfl dX7_faultPlace_1 ?_
  exact g_iret hC rfl ⟨rfl, rfl⟩ (by first | exact Nat.le_of_ble_eq_true rfl | omega | (simp only [gR]; omega)) (by first | exact Nat.le_of_ble_eq_true rfl | omega | (simp only [gR]; omega)) dX7_faultPlace_4
theorem dX7_storeWords_0 : decode cX7_storeWords 0 = .ok (.aload_n 0, 1) := by decide +kernel
theorem dX7_storeWords_1 : decode cX7_storeWords 1 = .ok (.getfield 36, 3) := by decide +kernel
theorem dX7_storeWords_4 : decode cX7_storeWords 4 = .ok (.ireturn, 1) := by decide +kernel
set_option maxHeartbeats 4000000 in
set_option maxRecDepth 100000 in
theorem p_P_storeWords (l : Launch) (d : gD) (b : Nat) (Y : gYt) (F : gM) (S : gSt) (hW : gWT d Y F S)  : gMi l d b yX7_storeWords cX7_storeWords 1 .int 1 0 0 F [.ref (gO' Y 1)] (fun r F' => r = sV S 2 ∧ F' = F) := by
  refine gM_of2 rfl (nL := 1) (Nat.le_of_ble_eq_true rfl) ?_
  intro X hX hC; subst hX
  show gG X d b _ F 0 0 0 [some (.ref (gO' Y 1))] []
  have hM0 : gSm S S [] [] := gSm.rf
  have hK0 : gKp Y F F := gKp.rf
  refine g_aload_n hC dX7_storeWords_0 rfl ?_
  refine g_get hC fl_X7_36 (hW.o 1 (by decide)) rfl dX7_storeWords_1 ?_
  exact g_iret hC rfl ⟨rfl, rfl⟩ (by first | exact Nat.le_of_ble_eq_true rfl | omega | (simp only [gR]; omega)) (by first | exact Nat.le_of_ble_eq_true rfl | omega | (simp only [gR]; omega)) dX7_storeWords_4
theorem dX7_starter_0 : decode cX7_starter 0 = .ok (.aload_n 0, 1) := by decide +kernel
theorem dX7_starter_1 : decode cX7_starter 1 = .ok (.getfield 40, 3) := by decide +kernel
theorem dX7_starter_4 : decode cX7_starter 4 = .ok (.ireturn, 1) := by decide +kernel
set_option maxHeartbeats 4000000 in
set_option maxRecDepth 100000 in
theorem p_P_starter (l : Launch) (d : gD) (b : Nat) (Y : gYt) (F : gM) (S : gSt) (hW : gWT d Y F S)  : gMi l d b yX7_starter cX7_starter 1 .int 1 0 0 F [.ref (gO' Y 1)] (fun r F' => r = sV S 3 ∧ F' = F) := by
  refine gM_of2 rfl (nL := 1) (Nat.le_of_ble_eq_true rfl) ?_
  intro X hX hC; subst hX
  show gG X d b _ F 0 0 0 [some (.ref (gO' Y 1))] []
  have hM0 : gSm S S [] [] := gSm.rf
  have hK0 : gKp Y F F := gKp.rf
  refine g_aload_n hC dX7_starter_0 rfl ?_
  refine g_get hC fl_X7_40 (hW.o 1 (by decide)) rfl dX7_starter_1 ?_
  exact g_iret hC rfl ⟨rfl, rfl⟩ (by first | exact Nat.le_of_ble_eq_true rfl | omega | (simp only [gR]; omega)) (by first | exact Nat.le_of_ble_eq_true rfl | omega | (simp only [gR]; omega)) dX7_starter_4
set_option maxHeartbeats 4000000 in
set_option maxRecDepth 100000 in
theorem p_P_isReady (l : Launch) (d : gD) (b : Nat) (Y : gYt) (F : gM) (S : gSt) (hW : gWT d Y F S)  : gMi l d b yX7_isReady cX7_isReady 1 .boolean 1 0 0 F [.ref (gO' Y 1)] (fun r F' => r = sV S 6 ∧ F' = F) := by
  refine gM_of2 rfl (nL := 1) (Nat.le_of_ble_eq_true rfl) ?_
  intro X hX hC; subst hX
  show gG X d b _ F 0 0 0 [some (.ref (gO' Y 1))] []
  have hM0 : gSm S S [] [] := gSm.rf
  have hK0 : gKp Y F F := gKp.rf
  refine g_aload_n hC dX7_isReady_0 rfl ?_
  refine g_get hC fl_X7_49 (hW.o 1 (by decide)) rfl dX7_isReady_1 ?_
  exact g_iret hC (hnb (hW.bo 6 (by decide))) ⟨rfl, rfl⟩ (by first | exact Nat.le_of_ble_eq_true rfl | omega | (simp only [gR]; omega)) (by first | exact Nat.le_of_ble_eq_true rfl | omega | (simp only [gR]; omega)) dX7_isReady_4
theorem dX7_setWord_0 : decode cX7_setWord 0 = .ok (.aload_n 0, 1) := by decide +kernel
theorem dX7_setWord_1 : decode cX7_setWord 1 = .ok (.getfield 21, 3) := by decide +kernel
theorem dX7_setWord_4 : decode cX7_setWord 4 = .ok (.iload_n 1, 1) := by decide +kernel
theorem dX7_setWord_5 : decode cX7_setWord 5 = .ok (.iload_n 2, 1) := by decide +kernel
theorem dX7_setWord_6 : decode cX7_setWord 6 = .ok (.invokevirtual 78, 3) := by decide +kernel
theorem dX7_setWord_9 : decode cX7_setWord 9 = .ok (.return_, 1) := by decide +kernel
set_option maxHeartbeats 4000000 in
set_option maxRecDepth 100000 in
theorem s_P_setWord (l : Launch) (d : gD) (b : Nat) (Y : gYt) (c : Nat × Nat) (F : gM) (k n : Nat) {S : gSt} (hi : hI d b Y c (F, k, n) S) (i x : Int32) : hMv l d b yX7_setWord cX7_setWord 3 2 k n F [.ref (gO' Y 1), .int i, .int x] (fun u => ∃ S', hI d b Y c u S' ∧ gKp Y F u.1 ∧ gSm S S' [2] [] ∧ gSe S S' 2 i x) := by
  intro mc ms
  refine hM_of2 rfl (nL := 3) (Nat.le_of_ble_eq_true rfl) ?_
  intro X hX hC hr ho; subst hX
  show hG X d b _ F k n 0 [some (.ref (gO' Y 1)), some (.int i), some (.int x)] []
  refine h_aload_n hC dX7_setWord_0 rfl ?_
  refine h_get hC fl_X7_21 (hi.1.o 1 (by decide)) rfl dX7_setWord_1 ?_
  refine h_iload_n hC dX7_setWord_4 rfl ?_
  refine h_iload_n hC dX7_setWord_5 rfl ?_
  refine hi_set (j := 2) hC hr ho hi (by decide) cl_X7_78 rfl (Nat.le_of_ble_eq_true rfl) (hFr_of (Nat.le_of_ble_eq_true rfl) (Nat.le_of_ble_eq_true rfl)) dX7_setWord_6 (fun F1 S2 I3 K4 s5 a6 => ?_)
  have m7 : gSm S S2 [2] [] := gSm.wk s5 _ _ rfl rfl
  have Pa6 : gPsi S2 ≤ gPsi S := a6.2.2.2.2
  exact h_vret hC hr ho rfl rfl ⟨S2, I3, K4, m7, a6⟩ dX7_setWord_9
theorem dX7_setFrame_0 : decode cX7_setFrame 0 = .ok (.aload_n 0, 1) := by decide +kernel
theorem dX7_setFrame_1 : decode cX7_setFrame 1 = .ok (.getfield 30, 3) := by decide +kernel
theorem dX7_setFrame_4 : decode cX7_setFrame 4 = .ok (.iload_n 1, 1) := by decide +kernel
theorem dX7_setFrame_5 : decode cX7_setFrame 5 = .ok (.iload_n 2, 1) := by decide +kernel
theorem dX7_setFrame_6 : decode cX7_setFrame 6 = .ok (.invokevirtual 78, 3) := by decide +kernel
theorem dX7_setFrame_9 : decode cX7_setFrame 9 = .ok (.return_, 1) := by decide +kernel
set_option maxHeartbeats 4000000 in
set_option maxRecDepth 100000 in
theorem s_P_setFrame (l : Launch) (d : gD) (b : Nat) (Y : gYt) (c : Nat × Nat) (F : gM) (k n : Nat) {S : gSt} (hi : hI d b Y c (F, k, n) S) (i x : Int32) : hMv l d b yX7_setFrame cX7_setFrame 3 2 k n F [.ref (gO' Y 1), .int i, .int x] (fun u => ∃ S', hI d b Y c u S' ∧ gKp Y F u.1 ∧ gSm S S' [5] [] ∧ gSe S S' 5 i x) := by
  intro mc ms
  refine hM_of2 rfl (nL := 3) (Nat.le_of_ble_eq_true rfl) ?_
  intro X hX hC hr ho; subst hX
  show hG X d b _ F k n 0 [some (.ref (gO' Y 1)), some (.int i), some (.int x)] []
  refine h_aload_n hC dX7_setFrame_0 rfl ?_
  refine h_get hC fl_X7_30 (hi.1.o 1 (by decide)) rfl dX7_setFrame_1 ?_
  refine h_iload_n hC dX7_setFrame_4 rfl ?_
  refine h_iload_n hC dX7_setFrame_5 rfl ?_
  refine hi_set (j := 5) hC hr ho hi (by decide) cl_X7_78 rfl (Nat.le_of_ble_eq_true rfl) (hFr_of (Nat.le_of_ble_eq_true rfl) (Nat.le_of_ble_eq_true rfl)) dX7_setFrame_6 (fun F1 S2 I3 K4 s5 a6 => ?_)
  have m7 : gSm S S2 [5] [] := gSm.wk s5 _ _ rfl rfl
  have Pa6 : gPsi S2 ≤ gPsi S := a6.2.2.2.2
  exact h_vret hC hr ho rfl rfl ⟨S2, I3, K4, m7, a6⟩ dX7_setFrame_9
theorem dX7_setOperand_0 : decode cX7_setOperand 0 = .ok (.aload_n 0, 1) := by decide +kernel
theorem dX7_setOperand_1 : decode cX7_setOperand 1 = .ok (.getfield 15, 3) := by decide +kernel
theorem dX7_setOperand_4 : decode cX7_setOperand 4 = .ok (.iload_n 1, 1) := by decide +kernel
theorem dX7_setOperand_5 : decode cX7_setOperand 5 = .ok (.iload_n 2, 1) := by decide +kernel
theorem dX7_setOperand_6 : decode cX7_setOperand 6 = .ok (.invokevirtual 78, 3) := by decide +kernel
theorem dX7_setOperand_9 : decode cX7_setOperand 9 = .ok (.return_, 1) := by decide +kernel
set_option maxHeartbeats 4000000 in
set_option maxRecDepth 100000 in
theorem s_P_setOperand (l : Launch) (d : gD) (b : Nat) (Y : gYt) (c : Nat × Nat) (F : gM) (k n : Nat) {S : gSt} (hi : hI d b Y c (F, k, n) S) (i x : Int32) : hMv l d b yX7_setOperand cX7_setOperand 3 2 k n F [.ref (gO' Y 1), .int i, .int x] (fun u => ∃ S', hI d b Y c u S' ∧ gKp Y F u.1 ∧ gSm S S' [1] [] ∧ gSe S S' 1 i x) := by
  intro mc ms
  refine hM_of2 rfl (nL := 3) (Nat.le_of_ble_eq_true rfl) ?_
  intro X hX hC hr ho; subst hX
  show hG X d b _ F k n 0 [some (.ref (gO' Y 1)), some (.int i), some (.int x)] []
  refine h_aload_n hC dX7_setOperand_0 rfl ?_
  refine h_get hC fl_X7_15 (hi.1.o 1 (by decide)) rfl dX7_setOperand_1 ?_
  refine h_iload_n hC dX7_setOperand_4 rfl ?_
  refine h_iload_n hC dX7_setOperand_5 rfl ?_
  refine hi_set (j := 1) hC hr ho hi (by decide) cl_X7_78 rfl (Nat.le_of_ble_eq_true rfl) (hFr_of (Nat.le_of_ble_eq_true rfl) (Nat.le_of_ble_eq_true rfl)) dX7_setOperand_6 (fun F1 S2 I3 K4 s5 a6 => ?_)
  have m7 : gSm S S2 [1] [] := gSm.wk s5 _ _ rfl rfl
  have Pa6 : gPsi S2 ≤ gPsi S := a6.2.2.2.2
  exact h_vret hC hr ho rfl rfl ⟨S2, I3, K4, m7, a6⟩ dX7_setOperand_9
theorem dX9_kind_0 : decode cX9_kind 0 = .ok (.aload_n 0, 1) := by decide +kernel
theorem dX9_kind_1 : decode cX9_kind 1 = .ok (.getfield 21, 3) := by decide +kernel
theorem dX9_kind_4 : decode cX9_kind 4 = .ok (.iload_n 1, 1) := by decide +kernel
theorem dX9_kind_5 : decode cX9_kind 5 = .ok (.invokevirtual 63, 3) := by decide +kernel
theorem dX9_kind_8 : decode cX9_kind 8 = .ok (.ireturn, 1) := by decide +kernel
set_option maxHeartbeats 4000000 in
set_option maxRecDepth 100000 in
theorem p_S_kind (l : Launch) (d : gD) (b : Nat) (Y : gYt) (F : gM) (S : gSt) (hW : gWT d Y F S) (i : Int32) : gMi l d b yX9_kind cX9_kind 2 .int 2 0 0 F [.ref (gO' Y 8), .int i] (fun r F' => r = gGet (sF S 28) (sZ S 28) i ∧ F' = F) := by
  refine gM_of2 rfl (nL := 2) (Nat.le_of_ble_eq_true rfl) ?_
  intro X hX hC; subst hX
  show gG X d b _ F 0 0 0 [some (.ref (gO' Y 8)), some (.int i)] []
  have hM0 : gSm S S [] [] := gSm.rf
  have hK0 : gKp Y F F := gKp.rf
  refine g_aload_n hC dX9_kind_0 rfl ?_
  refine g_get hC fl_X9_21 (hW.o 8 (by decide)) rfl dX9_kind_1 ?_
  refine g_iload_n hC dX9_kind_4 rfl ?_
  refine g_callVi (As := [.int i]) hC rfl (hW.r 28 (by decide)).1 (c_Ints_get X.la d b F _ _ _ _ _ _ (hW.r 28 (by decide)) i) cl_X9_63 rfl rfl (Nat.le_of_ble_eq_true rfl) (gFit_of (Nat.le_of_ble_eq_true rfl) (Nat.le_of_ble_eq_true rfl) (by first | exact Nat.le_of_ble_eq_true rfl | omega | (simp only [gR]; omega)) (by first | exact Nat.le_of_ble_eq_true rfl | omega | (simp only [gR]; omega))) dX9_kind_5 (fun r1 F2 p3 => ?_)
  obtain ⟨er1, eF2⟩ := p3; have eF2 := eF2.symm; subst eF2
  exact g_iret hC rfl ⟨er1, rfl⟩ (by first | exact Nat.le_of_ble_eq_true rfl | omega | (simp only [gR]; omega)) (by first | exact Nat.le_of_ble_eq_true rfl | omega | (simp only [gR]; omega)) dX9_kind_8
theorem dX9_data_0 : decode cX9_data 0 = .ok (.aload_n 0, 1) := by decide +kernel
theorem dX9_data_1 : decode cX9_data 1 = .ok (.getfield 24, 3) := by decide +kernel
theorem dX9_data_4 : decode cX9_data 4 = .ok (.iload_n 1, 1) := by decide +kernel
theorem dX9_data_5 : decode cX9_data 5 = .ok (.invokevirtual 63, 3) := by decide +kernel
theorem dX9_data_8 : decode cX9_data 8 = .ok (.ireturn, 1) := by decide +kernel
set_option maxHeartbeats 4000000 in
set_option maxRecDepth 100000 in
theorem p_S_data (l : Launch) (d : gD) (b : Nat) (Y : gYt) (F : gM) (S : gSt) (hW : gWT d Y F S) (i : Int32) : gMi l d b yX9_data cX9_data 2 .int 2 0 0 F [.ref (gO' Y 8), .int i] (fun r F' => r = gGet (sF S 29) (sZ S 29) i ∧ F' = F) := by
  refine gM_of2 rfl (nL := 2) (Nat.le_of_ble_eq_true rfl) ?_
  intro X hX hC; subst hX
  show gG X d b _ F 0 0 0 [some (.ref (gO' Y 8)), some (.int i)] []
  have hM0 : gSm S S [] [] := gSm.rf
  have hK0 : gKp Y F F := gKp.rf
  refine g_aload_n hC dX9_data_0 rfl ?_
  refine g_get hC fl_X9_24 (hW.o 8 (by decide)) rfl dX9_data_1 ?_
  refine g_iload_n hC dX9_data_4 rfl ?_
  refine g_callVi (As := [.int i]) hC rfl (hW.r 29 (by decide)).1 (c_Ints_get X.la d b F _ _ _ _ _ _ (hW.r 29 (by decide)) i) cl_X9_63 rfl rfl (Nat.le_of_ble_eq_true rfl) (gFit_of (Nat.le_of_ble_eq_true rfl) (Nat.le_of_ble_eq_true rfl) (by first | exact Nat.le_of_ble_eq_true rfl | omega | (simp only [gR]; omega)) (by first | exact Nat.le_of_ble_eq_true rfl | omega | (simp only [gR]; omega))) dX9_data_5 (fun r1 F2 p3 => ?_)
  obtain ⟨er1, eF2⟩ := p3; have eF2 := eF2.symm; subst eF2
  exact g_iret hC rfl ⟨er1, rfl⟩ (by first | exact Nat.le_of_ble_eq_true rfl | omega | (simp only [gR]; omega)) (by first | exact Nat.le_of_ble_eq_true rfl | omega | (simp only [gR]; omega)) dX9_data_8
theorem dX9_owner_0 : decode cX9_owner 0 = .ok (.aload_n 0, 1) := by decide +kernel
theorem dX9_owner_1 : decode cX9_owner 1 = .ok (.getfield 27, 3) := by decide +kernel
theorem dX9_owner_4 : decode cX9_owner 4 = .ok (.iload_n 1, 1) := by decide +kernel
theorem dX9_owner_5 : decode cX9_owner 5 = .ok (.invokevirtual 63, 3) := by decide +kernel
theorem dX9_owner_8 : decode cX9_owner 8 = .ok (.ireturn, 1) := by decide +kernel
set_option maxHeartbeats 4000000 in
set_option maxRecDepth 100000 in
theorem p_S_owner (l : Launch) (d : gD) (b : Nat) (Y : gYt) (F : gM) (S : gSt) (hW : gWT d Y F S) (i : Int32) : gMi l d b yX9_owner cX9_owner 2 .int 2 0 0 F [.ref (gO' Y 8), .int i] (fun r F' => r = gGet (sF S 30) (sZ S 30) i ∧ F' = F) := by
  refine gM_of2 rfl (nL := 2) (Nat.le_of_ble_eq_true rfl) ?_
  intro X hX hC; subst hX
  show gG X d b _ F 0 0 0 [some (.ref (gO' Y 8)), some (.int i)] []
  have hM0 : gSm S S [] [] := gSm.rf
  have hK0 : gKp Y F F := gKp.rf
  refine g_aload_n hC dX9_owner_0 rfl ?_
  refine g_get hC fl_X9_27 (hW.o 8 (by decide)) rfl dX9_owner_1 ?_
  refine g_iload_n hC dX9_owner_4 rfl ?_
  refine g_callVi (As := [.int i]) hC rfl (hW.r 30 (by decide)).1 (c_Ints_get X.la d b F _ _ _ _ _ _ (hW.r 30 (by decide)) i) cl_X9_63 rfl rfl (Nat.le_of_ble_eq_true rfl) (gFit_of (Nat.le_of_ble_eq_true rfl) (Nat.le_of_ble_eq_true rfl) (by first | exact Nat.le_of_ble_eq_true rfl | omega | (simp only [gR]; omega)) (by first | exact Nat.le_of_ble_eq_true rfl | omega | (simp only [gR]; omega))) dX9_owner_5 (fun r1 F2 p3 => ?_)
  obtain ⟨er1, eF2⟩ := p3; have eF2 := eF2.symm; subst eF2
  exact g_iret hC rfl ⟨er1, rfl⟩ (by first | exact Nat.le_of_ble_eq_true rfl | omega | (simp only [gR]; omega)) (by first | exact Nat.le_of_ble_eq_true rfl | omega | (simp only [gR]; omega)) dX9_owner_8
theorem dX9_place_0 : decode cX9_place 0 = .ok (.aload_n 0, 1) := by decide +kernel
theorem dX9_place_1 : decode cX9_place 1 = .ok (.getfield 30, 3) := by decide +kernel
theorem dX9_place_4 : decode cX9_place 4 = .ok (.iload_n 1, 1) := by decide +kernel
theorem dX9_place_5 : decode cX9_place 5 = .ok (.invokevirtual 63, 3) := by decide +kernel
theorem dX9_place_8 : decode cX9_place 8 = .ok (.ireturn, 1) := by decide +kernel
set_option maxHeartbeats 4000000 in
set_option maxRecDepth 100000 in
theorem p_S_place (l : Launch) (d : gD) (b : Nat) (Y : gYt) (F : gM) (S : gSt) (hW : gWT d Y F S) (i : Int32) : gMi l d b yX9_place cX9_place 2 .int 2 0 0 F [.ref (gO' Y 8), .int i] (fun r F' => r = gGet (sF S 31) (sZ S 31) i ∧ F' = F) := by
  refine gM_of2 rfl (nL := 2) (Nat.le_of_ble_eq_true rfl) ?_
  intro X hX hC; subst hX
  show gG X d b _ F 0 0 0 [some (.ref (gO' Y 8)), some (.int i)] []
  have hM0 : gSm S S [] [] := gSm.rf
  have hK0 : gKp Y F F := gKp.rf
  refine g_aload_n hC dX9_place_0 rfl ?_
  refine g_get hC fl_X9_30 (hW.o 8 (by decide)) rfl dX9_place_1 ?_
  refine g_iload_n hC dX9_place_4 rfl ?_
  refine g_callVi (As := [.int i]) hC rfl (hW.r 31 (by decide)).1 (c_Ints_get X.la d b F _ _ _ _ _ _ (hW.r 31 (by decide)) i) cl_X9_63 rfl rfl (Nat.le_of_ble_eq_true rfl) (gFit_of (Nat.le_of_ble_eq_true rfl) (Nat.le_of_ble_eq_true rfl) (by first | exact Nat.le_of_ble_eq_true rfl | omega | (simp only [gR]; omega)) (by first | exact Nat.le_of_ble_eq_true rfl | omega | (simp only [gR]; omega))) dX9_place_5 (fun r1 F2 p3 => ?_)
  obtain ⟨er1, eF2⟩ := p3; have eF2 := eF2.symm; subst eF2
  exact g_iret hC rfl ⟨er1, rfl⟩ (by first | exact Nat.le_of_ble_eq_true rfl | omega | (simp only [gR]; omega)) (by first | exact Nat.le_of_ble_eq_true rfl | omega | (simp only [gR]; omega)) dX9_place_8
theorem dX9_setData_0 : decode cX9_setData 0 = .ok (.aload_n 0, 1) := by decide +kernel
theorem dX9_setData_1 : decode cX9_setData 1 = .ok (.getfield 24, 3) := by decide +kernel
theorem dX9_setData_4 : decode cX9_setData 4 = .ok (.iload_n 1, 1) := by decide +kernel
theorem dX9_setData_5 : decode cX9_setData 5 = .ok (.iload_n 2, 1) := by decide +kernel
theorem dX9_setData_6 : decode cX9_setData 6 = .ok (.invokevirtual 79, 3) := by decide +kernel
theorem dX9_setData_9 : decode cX9_setData 9 = .ok (.return_, 1) := by decide +kernel
set_option maxHeartbeats 4000000 in
set_option maxRecDepth 100000 in
theorem s_S_setData (l : Launch) (d : gD) (b : Nat) (Y : gYt) (c : Nat × Nat) (F : gM) (k n : Nat) {S : gSt} (hi : hI d b Y c (F, k, n) S) (i x : Int32) : hMv l d b yX9_setData cX9_setData 3 2 k n F [.ref (gO' Y 8), .int i, .int x] (fun u => ∃ S', hI d b Y c u S' ∧ gKp Y F u.1 ∧ gSm S S' [29] [] ∧ gSe S S' 29 i x) := by
  intro mc ms
  refine hM_of2 rfl (nL := 3) (Nat.le_of_ble_eq_true rfl) ?_
  intro X hX hC hr ho; subst hX
  show hG X d b _ F k n 0 [some (.ref (gO' Y 8)), some (.int i), some (.int x)] []
  refine h_aload_n hC dX9_setData_0 rfl ?_
  refine h_get hC fl_X9_24 (hi.1.o 8 (by decide)) rfl dX9_setData_1 ?_
  refine h_iload_n hC dX9_setData_4 rfl ?_
  refine h_iload_n hC dX9_setData_5 rfl ?_
  refine hi_set (j := 29) hC hr ho hi (by decide) cl_X9_79 rfl (Nat.le_of_ble_eq_true rfl) (hFr_of (Nat.le_of_ble_eq_true rfl) (Nat.le_of_ble_eq_true rfl)) dX9_setData_6 (fun F1 S2 I3 K4 s5 a6 => ?_)
  have m7 : gSm S S2 [29] [] := gSm.wk s5 _ _ rfl rfl
  have Pa6 : gPsi S2 ≤ gPsi S := a6.2.2.2.2
  exact h_vret hC hr ho rfl rfl ⟨S2, I3, K4, m7, a6⟩ dX9_setData_9
theorem dX9_setOwner_0 : decode cX9_setOwner 0 = .ok (.aload_n 0, 1) := by decide +kernel
theorem dX9_setOwner_1 : decode cX9_setOwner 1 = .ok (.getfield 27, 3) := by decide +kernel
theorem dX9_setOwner_4 : decode cX9_setOwner 4 = .ok (.iload_n 1, 1) := by decide +kernel
theorem dX9_setOwner_5 : decode cX9_setOwner 5 = .ok (.iload_n 2, 1) := by decide +kernel
theorem dX9_setOwner_6 : decode cX9_setOwner 6 = .ok (.invokevirtual 79, 3) := by decide +kernel
theorem dX9_setOwner_9 : decode cX9_setOwner 9 = .ok (.return_, 1) := by decide +kernel
set_option maxHeartbeats 4000000 in
set_option maxRecDepth 100000 in
theorem s_S_setOwner (l : Launch) (d : gD) (b : Nat) (Y : gYt) (c : Nat × Nat) (F : gM) (k n : Nat) {S : gSt} (hi : hI d b Y c (F, k, n) S) (i x : Int32) : hMv l d b yX9_setOwner cX9_setOwner 3 2 k n F [.ref (gO' Y 8), .int i, .int x] (fun u => ∃ S', hI d b Y c u S' ∧ gKp Y F u.1 ∧ gSm S S' [30] [] ∧ gSe S S' 30 i x) := by
  intro mc ms
  refine hM_of2 rfl (nL := 3) (Nat.le_of_ble_eq_true rfl) ?_
  intro X hX hC hr ho; subst hX
  show hG X d b _ F k n 0 [some (.ref (gO' Y 8)), some (.int i), some (.int x)] []
  refine h_aload_n hC dX9_setOwner_0 rfl ?_
  refine h_get hC fl_X9_27 (hi.1.o 8 (by decide)) rfl dX9_setOwner_1 ?_
  refine h_iload_n hC dX9_setOwner_4 rfl ?_
  refine h_iload_n hC dX9_setOwner_5 rfl ?_
  refine hi_set (j := 30) hC hr ho hi (by decide) cl_X9_79 rfl (Nat.le_of_ble_eq_true rfl) (hFr_of (Nat.le_of_ble_eq_true rfl) (Nat.le_of_ble_eq_true rfl)) dX9_setOwner_6 (fun F1 S2 I3 K4 s5 a6 => ?_)
  have m7 : gSm S S2 [30] [] := gSm.wk s5 _ _ rfl rfl
  have Pa6 : gPsi S2 ≤ gPsi S := a6.2.2.2.2
  exact h_vret hC hr ho rfl rfl ⟨S2, I3, K4, m7, a6⟩ dX9_setOwner_9
