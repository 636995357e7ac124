theorem kw_512 : Cond.methodLink RX6 3 objectInit ∈ gWs := List.mem_filter.mpr ⟨gMt2 _ (List.mem_of_getElem? (i := 35) rfl), rfl⟩
theorem kw_513 : Cond.classLink RX6 9 RX4 ∈ gWs := List.mem_filter.mpr ⟨gMt2 _ (List.mem_of_getElem? (i := 36) rfl), rfl⟩
theorem nl_X6_9 : gNL RX6 9 4 3 [.int 0, .null, .int 0] := ⟨RX4, TX4, tyX4, rfl, inW_RX4, tyX4_ok, kw_513, kw_273, kw_239, by decide +kernel⟩
theorem kw_515 : Cond.methodLink RX6 12 yX4_init ∈ gWs := List.mem_filter.mpr ⟨gMt2 _ (List.mem_of_getElem? (i := 38) rfl), rfl⟩
theorem cl_X6_12 : gCI RX6 12 yX4_init cX4_init 2 1 := ⟨gWs_all kw_276, kw_239, kw_515, kw_275, rfl, ⟨by decide +kernel, by decide +kernel, by decide +kernel⟩⟩
theorem kw_519 : Cond.code yX8_kinds cX8_kinds 1 (some (.object "WordTongue$Ints")) ∈ gWs := List.mem_filter.mpr ⟨gMt2 _ (List.mem_of_getElem? (i := 42) rfl), rfl⟩
theorem kw_516 : Cond.methodLink RX6 37 yX8_kinds ∈ gWs := List.mem_filter.mpr ⟨gMt2 _ (List.mem_of_getElem? (i := 39) rfl), rfl⟩
theorem kw_517 : Cond.instanceMethod yX8_kinds ∈ gWs := List.mem_filter.mpr ⟨gMt2 _ (List.mem_of_getElem? (i := 40) rfl), rfl⟩
theorem kw_518 : Cond.selects RX8 yX8_kinds yX8_kinds ∈ gWs := List.mem_filter.mpr ⟨gMt2 _ (List.mem_of_getElem? (i := 41) rfl), rfl⟩
theorem cl_X6_37 : gCV RX6 37 yX8_kinds cX8_kinds 1 (some (.object "WordTongue$Ints")) 0 := ⟨g_mk [.methodLink RX6 37 yX8_kinds, .instanceMethod yX8_kinds, .selects yX8_kinds.cls yX8_kinds yX8_kinds, .initialized yX8_kinds.cls] (gWs_all kw_519) (List.forall_mem_cons.mpr ⟨kw_516, List.forall_mem_cons.mpr ⟨kw_517, List.forall_mem_cons.mpr ⟨kw_518, List.forall_mem_cons.mpr ⟨kw_242, fun _ h => nomatch h⟩⟩⟩⟩), rfl, by decide +kernel, by decide +kernel, by decide +kernel⟩
theorem kw_523 : Cond.code yX8_infos cX8_infos 1 (some (.object "WordTongue$Ints")) ∈ gWs := List.mem_filter.mpr ⟨gMt2 _ (List.mem_of_getElem? (i := 46) rfl), rfl⟩
theorem kw_520 : Cond.methodLink RX6 45 yX8_infos ∈ gWs := List.mem_filter.mpr ⟨gMt2 _ (List.mem_of_getElem? (i := 43) rfl), rfl⟩
theorem kw_521 : Cond.instanceMethod yX8_infos ∈ gWs := List.mem_filter.mpr ⟨gMt2 _ (List.mem_of_getElem? (i := 44) rfl), rfl⟩
theorem kw_522 : Cond.selects RX8 yX8_infos yX8_infos ∈ gWs := List.mem_filter.mpr ⟨gMt2 _ (List.mem_of_getElem? (i := 45) rfl), rfl⟩
theorem cl_X6_45 : gCV RX6 45 yX8_infos cX8_infos 1 (some (.object "WordTongue$Ints")) 0 := ⟨g_mk [.methodLink RX6 45 yX8_infos, .instanceMethod yX8_infos, .selects yX8_infos.cls yX8_infos yX8_infos, .initialized yX8_infos.cls] (gWs_all kw_523) (List.forall_mem_cons.mpr ⟨kw_520, List.forall_mem_cons.mpr ⟨kw_521, List.forall_mem_cons.mpr ⟨kw_522, List.forall_mem_cons.mpr ⟨kw_242, fun _ h => nomatch h⟩⟩⟩⟩), rfl, by decide +kernel, by decide +kernel, by decide +kernel⟩
theorem kw_527 : Cond.code yX8_places cX8_places 1 (some (.object "WordTongue$Ints")) ∈ gWs := List.mem_filter.mpr ⟨gMt2 _ (List.mem_of_getElem? (i := 50) rfl), rfl⟩
theorem kw_524 : Cond.methodLink RX6 50 yX8_places ∈ gWs := List.mem_filter.mpr ⟨gMt2 _ (List.mem_of_getElem? (i := 47) rfl), rfl⟩
theorem kw_525 : Cond.instanceMethod yX8_places ∈ gWs := List.mem_filter.mpr ⟨gMt2 _ (List.mem_of_getElem? (i := 48) rfl), rfl⟩
theorem kw_526 : Cond.selects RX8 yX8_places yX8_places ∈ gWs := List.mem_filter.mpr ⟨gMt2 _ (List.mem_of_getElem? (i := 49) rfl), rfl⟩
theorem cl_X6_50 : gCV RX6 50 yX8_places cX8_places 1 (some (.object "WordTongue$Ints")) 0 := ⟨g_mk [.methodLink RX6 50 yX8_places, .instanceMethod yX8_places, .selects yX8_places.cls yX8_places yX8_places, .initialized yX8_places.cls] (gWs_all kw_527) (List.forall_mem_cons.mpr ⟨kw_524, List.forall_mem_cons.mpr ⟨kw_525, List.forall_mem_cons.mpr ⟨kw_526, List.forall_mem_cons.mpr ⟨kw_242, fun _ h => nomatch h⟩⟩⟩⟩), rfl, by decide +kernel, by decide +kernel, by decide +kernel⟩
theorem kw_531 : Cond.code yX8_strings cX8_strings 1 (some (.object "WordTongue$Ints")) ∈ gWs := List.mem_filter.mpr ⟨gMt2 _ (List.mem_of_getElem? (i := 54) rfl), rfl⟩
theorem kw_528 : Cond.methodLink RX6 55 yX8_strings ∈ gWs := List.mem_filter.mpr ⟨gMt2 _ (List.mem_of_getElem? (i := 51) rfl), rfl⟩
theorem kw_529 : Cond.instanceMethod yX8_strings ∈ gWs := List.mem_filter.mpr ⟨gMt2 _ (List.mem_of_getElem? (i := 52) rfl), rfl⟩
theorem kw_530 : Cond.selects RX8 yX8_strings yX8_strings ∈ gWs := List.mem_filter.mpr ⟨gMt2 _ (List.mem_of_getElem? (i := 53) rfl), rfl⟩
theorem cl_X6_55 : gCV RX6 55 yX8_strings cX8_strings 1 (some (.object "WordTongue$Ints")) 0 := ⟨g_mk [.methodLink RX6 55 yX8_strings, .instanceMethod yX8_strings, .selects yX8_strings.cls yX8_strings yX8_strings, .initialized yX8_strings.cls] (gWs_all kw_531) (List.forall_mem_cons.mpr ⟨kw_528, List.forall_mem_cons.mpr ⟨kw_529, List.forall_mem_cons.mpr ⟨kw_530, List.forall_mem_cons.mpr ⟨kw_242, fun _ h => nomatch h⟩⟩⟩⟩), rfl, by decide +kernel, by decide +kernel, by decide +kernel⟩
theorem dX8_kinds_0 : decode cX8_kinds 0 = .ok (.aload_n 0, 1) := by decide +kernel
theorem dX8_kinds_1 : decode cX8_kinds 1 = .ok (.getfield 15, 3) := by decide +kernel
theorem dX8_kinds_4 : decode cX8_kinds 4 = .ok (.areturn, 1) := by decide +kernel
set_option maxHeartbeats 4000000 in
set_option maxRecDepth 100000 in
theorem c_S_kinds (l : Launch) (d : gD) (b : Nat) (F : gM) (t : Nat) {x0 x1 x2 x3 x4 x5 x6 x7 : Nat} {y0 y1 y2 : Int32} (h : F t = .inr (8, [.ref x0, .ref x1, .ref x2, .ref x3, .ref x4, .ref x5, .ref x6, .ref x7, .int y0, .int y1, .int y2])) : gMq l d b yX8_kinds cX8_kinds 1 (.object "WordTongue$Ints") 0 0 0 F [.ref t] (fun r F' => r = some x1 ∧ F' = F) := by
  refine gM_of2 rfl (nL := 1) (Nat.le_of_ble_eq_true rfl) ?_
  intro X hX hC; subst hX
  show gG X d b _ F 0 0 0 [some (.ref t)] []
  refine g_aload_n hC dX8_kinds_0 rfl ?_
  refine g_get hC fl_X8_15 h rfl dX8_kinds_1 ?_
  exact g_aret (v := some x1) hC (Or.inl ⟨_, rfl⟩) ⟨rfl, rfl⟩ (by first | exact Nat.le_of_ble_eq_true rfl | omega | (simp only [gR]; omega)) (by first | exact Nat.le_of_ble_eq_true rfl | omega | (simp only [gR]; omega)) dX8_kinds_4
theorem dX8_infos_0 : decode cX8_infos 0 = .ok (.aload_n 0, 1) := by decide +kernel
theorem dX8_infos_1 : decode cX8_infos 1 = .ok (.getfield 21, 3) := by decide +kernel
theorem dX8_infos_4 : decode cX8_infos 4 = .ok (.areturn, 1) := by decide +kernel
set_option maxHeartbeats 4000000 in
set_option maxRecDepth 100000 in
theorem c_S_infos (l : Launch) (d : gD) (b : Nat) (F : gM) (t : Nat) {x0 x1 x2 x3 x4 x5 x6 x7 : Nat} {y0 y1 y2 : Int32} (h : F t = .inr (8, [.ref x0, .ref x1, .ref x2, .ref x3, .ref x4, .ref x5, .ref x6, .ref x7, .int y0, .int y1, .int y2])) : gMq l d b yX8_infos cX8_infos 1 (.object "WordTongue$Ints") 0 0 0 F [.ref t] (fun r F' => r = some x2 ∧ F' = F) := by
  refine gM_of2 rfl (nL := 1) (Nat.le_of_ble_eq_true rfl) ?_
  intro X hX hC; subst hX
  show gG X d b _ F 0 0 0 [some (.ref t)] []
  refine g_aload_n hC dX8_infos_0 rfl ?_
  refine g_get hC fl_X8_21 h rfl dX8_infos_1 ?_
  exact g_aret (v := some x2) hC (Or.inl ⟨_, rfl⟩) ⟨rfl, rfl⟩ (by first | exact Nat.le_of_ble_eq_true rfl | omega | (simp only [gR]; omega)) (by first | exact Nat.le_of_ble_eq_true rfl | omega | (simp only [gR]; omega)) dX8_infos_4
theorem dX8_places_0 : decode cX8_places 0 = .ok (.aload_n 0, 1) := by decide +kernel
theorem dX8_places_1 : decode cX8_places 1 = .ok (.getfield 24, 3) := by decide +kernel
theorem dX8_places_4 : decode cX8_places 4 = .ok (.areturn, 1) := by decide +kernel
set_option maxHeartbeats 4000000 in
set_option maxRecDepth 100000 in
theorem c_S_places (l : Launch) (d : gD) (b : Nat) (F : gM) (t : Nat) {x0 x1 x2 x3 x4 x5 x6 x7 : Nat} {y0 y1 y2 : Int32} (h : F t = .inr (8, [.ref x0, .ref x1, .ref x2, .ref x3, .ref x4, .ref x5, .ref x6, .ref x7, .int y0, .int y1, .int y2])) : gMq l d b yX8_places cX8_places 1 (.object "WordTongue$Ints") 0 0 0 F [.ref t] (fun r F' => r = some x3 ∧ F' = F) := by
  refine gM_of2 rfl (nL := 1) (Nat.le_of_ble_eq_true rfl) ?_
  intro X hX hC; subst hX
  show gG X d b _ F 0 0 0 [some (.ref t)] []
  refine g_aload_n hC dX8_places_0 rfl ?_
  refine g_get hC fl_X8_24 h rfl dX8_places_1 ?_
  exact g_aret (v := some x3) hC (Or.inl ⟨_, rfl⟩) ⟨rfl, rfl⟩ (by first | exact Nat.le_of_ble_eq_true rfl | omega | (simp only [gR]; omega)) (by first | exact Nat.le_of_ble_eq_true rfl | omega | (simp only [gR]; omega)) dX8_places_4
theorem dX8_strings_0 : decode cX8_strings 0 = .ok (.aload_n 0, 1) := by decide +kernel
theorem dX8_strings_1 : decode cX8_strings 1 = .ok (.getfield 27, 3) := by decide +kernel
theorem dX8_strings_4 : decode cX8_strings 4 = .ok (.areturn, 1) := by decide +kernel
set_option maxHeartbeats 4000000 in
set_option maxRecDepth 100000 in
theorem c_S_strings (l : Launch) (d : gD) (b : Nat) (F : gM) (t : Nat) {x0 x1 x2 x3 x4 x5 x6 x7 : Nat} {y0 y1 y2 : Int32} (h : F t = .inr (8, [.ref x0, .ref x1, .ref x2, .ref x3, .ref x4, .ref x5, .ref x6, .ref x7, .int y0, .int y1, .int y2])) : gMq l d b yX8_strings cX8_strings 1 (.object "WordTongue$Ints") 0 0 0 F [.ref t] (fun r F' => r = some x4 ∧ F' = F) := by
  refine gM_of2 rfl (nL := 1) (Nat.le_of_ble_eq_true rfl) ?_
  intro X hX hC; subst hX
  show gG X d b _ F 0 0 0 [some (.ref t)] []
  refine g_aload_n hC dX8_strings_0 rfl ?_
  refine g_get hC fl_X8_27 h rfl dX8_strings_1 ?_
  exact g_aret (v := some x4) hC (Or.inl ⟨_, rfl⟩) ⟨rfl, rfl⟩ (by first | exact Nat.le_of_ble_eq_true rfl | omega | (simp only [gR]; omega)) (by first | exact Nat.le_of_ble_eq_true rfl | omega | (simp only [gR]; omega)) dX8_strings_4
theorem dX6_init_0 : decode cX6_init 0 = .ok (.aload_n 0, 1) := by decide +kernel
theorem dX6_init_1 : decode cX6_init 1 = .ok (.invokespecial 3, 3) := by decide +kernel
theorem dX6_init_4 : decode cX6_init 4 = .ok (.aload_n 0, 1) := by decide +kernel
theorem dX6_init_5 : decode cX6_init 5 = .ok (.new 9, 3) := by decide +kernel
theorem dX6_init_8 : decode cX6_init 8 = .ok (.dup, 1) := by decide +kernel
theorem dX6_init_9 : decode cX6_init 9 = .ok (.ldc 11, 2) := by decide +kernel
theorem dX6_init_11 : decode cX6_init 11 = .ok (.invokespecial 12, 3) := by decide +kernel
theorem dX6_init_14 : decode cX6_init 14 = .ok (.putfield 15, 3) := by decide +kernel
theorem dX6_init_17 : decode cX6_init 17 = .ok (.aload_n 0, 1) := by decide +kernel
theorem dX6_init_18 : decode cX6_init 18 = .ok (.new 9, 3) := by decide +kernel
theorem dX6_init_21 : decode cX6_init 21 = .ok (.dup, 1) := by decide +kernel
theorem dX6_init_22 : decode cX6_init 22 = .ok (.ldc 11, 2) := by decide +kernel
theorem dX6_init_24 : decode cX6_init 24 = .ok (.invokespecial 12, 3) := by decide +kernel
theorem dX6_init_27 : decode cX6_init 27 = .ok (.putfield 21, 3) := by decide +kernel
theorem dX6_init_30 : decode cX6_init 30 = .ok (.aload_n 0, 1) := by decide +kernel
theorem dX6_init_31 : decode cX6_init 31 = .ok (.new 9, 3) := by decide +kernel
theorem dX6_init_34 : decode cX6_init 34 = .ok (.dup, 1) := by decide +kernel
theorem dX6_init_35 : decode cX6_init 35 = .ok (.ldc 11, 2) := by decide +kernel
theorem dX6_init_37 : decode cX6_init 37 = .ok (.invokespecial 12, 3) := by decide +kernel
theorem dX6_init_40 : decode cX6_init 40 = .ok (.putfield 24, 3) := by decide +kernel
theorem dX6_init_43 : decode cX6_init 43 = .ok (.aload_n 0, 1) := by decide +kernel
theorem dX6_init_44 : decode cX6_init 44 = .ok (.iconst 0, 1) := by decide +kernel
theorem dX6_init_45 : decode cX6_init 45 = .ok (.putfield 27, 3) := by decide +kernel
theorem dX6_init_48 : decode cX6_init 48 = .ok (.aload_n 0, 1) := by decide +kernel
theorem dX6_init_49 : decode cX6_init 49 = .ok (.iconst 0, 1) := by decide +kernel
theorem dX6_init_50 : decode cX6_init 50 = .ok (.putfield 31, 3) := by decide +kernel
theorem dX6_init_53 : decode cX6_init 53 = .ok (.aload_n 0, 1) := by decide +kernel
theorem dX6_init_54 : decode cX6_init 54 = .ok (.iconst 0, 1) := by decide +kernel
theorem dX6_init_55 : decode cX6_init 55 = .ok (.putfield 34, 3) := by decide +kernel
theorem dX6_init_58 : decode cX6_init 58 = .ok (.aload_n 0, 1) := by decide +kernel
theorem dX6_init_59 : decode cX6_init 59 = .ok (.aload_n 1, 1) := by decide +kernel
theorem dX6_init_60 : decode cX6_init 60 = .ok (.invokevirtual 37, 3) := by decide +kernel
theorem dX6_init_63 : decode cX6_init 63 = .ok (.putfield 43, 3) := by decide +kernel
theorem dX6_init_66 : decode cX6_init 66 = .ok (.aload_n 0, 1) := by decide +kernel
theorem dX6_init_67 : decode cX6_init 67 = .ok (.aload_n 1, 1) := by decide +kernel
theorem dX6_init_68 : decode cX6_init 68 = .ok (.invokevirtual 45, 3) := by decide +kernel
theorem dX6_init_71 : decode cX6_init 71 = .ok (.putfield 48, 3) := by decide +kernel
theorem dX6_init_74 : decode cX6_init 74 = .ok (.aload_n 0, 1) := by decide +kernel
theorem dX6_init_75 : decode cX6_init 75 = .ok (.aload_n 1, 1) := by decide +kernel
theorem dX6_init_76 : decode cX6_init 76 = .ok (.invokevirtual 50, 3) := by decide +kernel
theorem dX6_init_79 : decode cX6_init 79 = .ok (.putfield 53, 3) := by decide +kernel
theorem dX6_init_82 : decode cX6_init 82 = .ok (.aload_n 0, 1) := by decide +kernel
theorem dX6_init_83 : decode cX6_init 83 = .ok (.aload_n 1, 1) := by decide +kernel
theorem dX6_init_84 : decode cX6_init 84 = .ok (.invokevirtual 55, 3) := by decide +kernel
theorem dX6_init_87 : decode cX6_init 87 = .ok (.putfield 58, 3) := by decide +kernel
theorem dX6_init_90 : decode cX6_init 90 = .ok (.aload_n 0, 1) := by decide +kernel
theorem dX6_init_91 : decode cX6_init 91 = .ok (.aload_n 2, 1) := by decide +kernel
theorem dX6_init_92 : decode cX6_init 92 = .ok (.putfield 60, 3) := by decide +kernel
theorem dX6_init_95 : decode cX6_init 95 = .ok (.aload_n 0, 1) := by decide +kernel
theorem dX6_init_96 : decode cX6_init 96 = .ok (.aload_n 3, 1) := by decide +kernel
theorem dX6_init_97 : decode cX6_init 97 = .ok (.putfield 64, 3) := by decide +kernel
theorem dX6_init_100 : decode cX6_init 100 = .ok (.return_, 1) := by decide +kernel
set_option maxHeartbeats 4000000 in
set_option maxRecDepth 100000 in
theorem k_Par (l : Launch) (d : gD) (b : Nat) (F : gM) (t : Nat) (p0 p1 p2 : Nat) {x0 x1 x2 x3 x4 x5 x6 x7 : Nat} {y0 y1 y2 : Int32} (h : F t = .inr (6, [.null, .null, .null, .null, .null, .null, .null, .null, .null, .int 0, .int 0, .int 0])) (hsc : F p0 = .inr (8, [.ref x0, .ref x1, .ref x2, .ref x3, .ref x4, .ref x5, .ref x6, .ref x7, .int y0, .int y1, .int y2])) : gMv l d b yX6_init cX6_init 4 3 6 57 F [.ref t, .ref p0, .ref p1, .ref p2] (fun F' => ∃ a0 q1 a2 q3 a4 q5 : Nat, gCn d t 6 F F' [.ref x1, .ref x2, .ref x3, .ref x4, .ref p1, .ref p2, .ref a0, .ref a2, .ref a4, .int 0, .int 0, .int 0] [(a0, q1, 1000000, 0), (a2, q3, 1000000, 0), (a4, q5, 1000000, 0)]) := by
  refine gM_of2 rfl (nL := 4) (Nat.le_of_ble_eq_true rfl) ?_
  intro X hX hC; subst hX
  show gG X d b _ F 0 0 0 [some (.ref t), some (.ref p0), some (.ref p1), some (.ref p2)] []
  have hcn : gCn d t 6 F F [.null, .null, .null, .null, .null, .null, .null, .null, .null, .int 0, .int 0, .int 0] [] := ⟨h, by rw [h]; exact g0_o, gEx.rf, gNw.nil⟩
  refine g_aload_n hC dX6_init_0 rfl ?_
  refine g_objInit hC dX6_init_1 kw_512 rfl ⟨Nat.le_of_ble_eq_true rfl, Nat.le_of_ble_eq_true rfl⟩ (Nat.le_of_ble_eq_true rfl) ?_
  refine g_newInts 1000000 hC hcn rfl rfl (by decide) (by decide) dX6_init_4 dX6_init_5 dX6_init_8 (fun _ _ _ _ kk => g_ldc hC dX6_init_9 kw_514 kk) dX6_init_11 dX6_init_14 nl_X6_9 cl_X6_12 fl_X6_15 (fun _ => ⟨rfl, rfl⟩) (Nat.le_of_ble_eq_true rfl) (fun _ => ⟨_, _, rfl⟩) (by first | exact Nat.le_of_ble_eq_true rfl | omega | (simp only [gR]; omega)) (by first | exact Nat.le_of_ble_eq_true rfl | omega | (simp only [gR]; omega)) (Nat.le_of_ble_eq_true rfl) (Nat.le_of_ble_eq_true rfl) (fun a1 q2 F3 h4 e6 hx7 => ?_)
  have f8 : F3 p0 = .inr (8, [.ref x0, .ref x1, .ref x2, .ref x3, .ref x4, .ref x5, .ref x6, .ref x7, .int y0, .int y1, .int y2]) := (hx7 p0 (gne hsc hcn.1 (gk_oo rfl)) (by rw [hsc]; exact g0_o)).trans hsc
  have hcn5 : gCn d t 6 F F3 [.null, .null, .null, .null, .null, .null, .ref a1, .null, .null, .int 0, .int 0, .int 0] [(a1, q2, 1000000, 0)] := h4
  refine g_newInts 1000000 hC hcn5 rfl rfl (by decide) (by decide) dX6_init_17 dX6_init_18 dX6_init_21 (fun _ _ _ _ kk => g_ldc hC dX6_init_22 kw_514 kk) dX6_init_24 dX6_init_27 nl_X6_9 cl_X6_12 fl_X6_21 (fun _ => ⟨rfl, rfl⟩) (Nat.le_of_ble_eq_true rfl) (fun _ => ⟨_, _, rfl⟩) (by first | exact Nat.le_of_ble_eq_true rfl | omega | (simp only [gR]; omega)) (by first | exact Nat.le_of_ble_eq_true rfl | omega | (simp only [gR]; omega)) (Nat.le_of_ble_eq_true rfl) (Nat.le_of_ble_eq_true rfl) (fun a9 q10 F11 h12 e14 hx15 => ?_)
  have f16 : F11 p0 = .inr (8, [.ref x0, .ref x1, .ref x2, .ref x3, .ref x4, .ref x5, .ref x6, .ref x7, .int y0, .int y1, .int y2]) := (hx15 p0 (gne f8 hcn5.1 (gk_oo rfl)) (by rw [f8]; exact g0_o)).trans f8
  have hcn13 : gCn d t 6 F F11 [.null, .null, .null, .null, .null, .null, .ref a1, .ref a9, .null, .int 0, .int 0, .int 0] [(a1, q2, 1000000, 0), (a9, q10, 1000000, 0)] := h12
  refine g_newInts 1000000 hC hcn13 rfl rfl (by decide) (by decide) dX6_init_30 dX6_init_31 dX6_init_34 (fun _ _ _ _ kk => g_ldc hC dX6_init_35 kw_514 kk) dX6_init_37 dX6_init_40 nl_X6_9 cl_X6_12 fl_X6_24 (fun _ => ⟨rfl, rfl⟩) (Nat.le_of_ble_eq_true rfl) (fun _ => ⟨_, _, rfl⟩) (by first | exact Nat.le_of_ble_eq_true rfl | omega | (simp only [gR]; omega)) (by first | exact Nat.le_of_ble_eq_true rfl | omega | (simp only [gR]; omega)) (Nat.le_of_ble_eq_true rfl) (Nat.le_of_ble_eq_true rfl) (fun a17 q18 F19 h20 e22 hx23 => ?_)
  have f24 : F19 p0 = .inr (8, [.ref x0, .ref x1, .ref x2, .ref x3, .ref x4, .ref x5, .ref x6, .ref x7, .int y0, .int y1, .int y2]) := (hx23 p0 (gne f16 hcn13.1 (gk_oo rfl)) (by rw [f16]; exact g0_o)).trans f16
  have hcn21 : gCn d t 6 F F19 [.null, .null, .null, .null, .null, .null, .ref a1, .ref a9, .ref a17, .int 0, .int 0, .int 0] [(a1, q2, 1000000, 0), (a9, q10, 1000000, 0), (a17, q18, 1000000, 0)] := h20
  refine g_aload_n hC dX6_init_43 rfl ?_
  refine g_iconst (v := 0) hC dX6_init_44 rfl ?_
  refine g_putC hC hcn21 fl_X6_27 rfl rfl (Nat.le_of_ble_eq_true rfl) rfl dX6_init_45 (fun F25 hcn26 hx27 => ?_)
  have hx28 : ∀ x, x ≠ t → F19 x ≠ g0 → F25 x = F19 x := fun x q _ => hx27 x q
  have f29 : F25 p0 = .inr (8, [.ref x0, .ref x1, .ref x2, .ref x3, .ref x4, .ref x5, .ref x6, .ref x7, .int y0, .int y1, .int y2]) := (hx28 p0 (gne f24 hcn21.1 (gk_oo rfl)) (by rw [f24]; exact g0_o)).trans f24
  refine g_aload_n hC dX6_init_48 rfl ?_
  refine g_iconst (v := 0) hC dX6_init_49 rfl ?_
  refine g_putC hC hcn26 fl_X6_31 rfl rfl (Nat.le_of_ble_eq_true rfl) rfl dX6_init_50 (fun F30 hcn31 hx32 => ?_)
  have hx33 : ∀ x, x ≠ t → F25 x ≠ g0 → F30 x = F25 x := fun x q _ => hx32 x q
  have f34 : F30 p0 = .inr (8, [.ref x0, .ref x1, .ref x2, .ref x3, .ref x4, .ref x5, .ref x6, .ref x7, .int y0, .int y1, .int y2]) := (hx33 p0 (gne f29 hcn26.1 (gk_oo rfl)) (by rw [f29]; exact g0_o)).trans f29
  refine g_aload_n hC dX6_init_53 rfl ?_
  refine g_iconst (v := 0) hC dX6_init_54 rfl ?_
  refine g_putC hC hcn31 fl_X6_34 rfl rfl (Nat.le_of_ble_eq_true rfl) rfl dX6_init_55 (fun F35 hcn36 hx37 => ?_)
  have hx38 : ∀ x, x ≠ t → F30 x ≠ g0 → F35 x = F30 x := fun x q _ => hx37 x q
  have f39 : F35 p0 = .inr (8, [.ref x0, .ref x1, .ref x2, .ref x3, .ref x4, .ref x5, .ref x6, .ref x7, .int y0, .int y1, .int y2]) := (hx38 p0 (gne f34 hcn31.1 (gk_oo rfl)) (by rw [f34]; exact g0_o)).trans f34
  refine g_aload_n hC dX6_init_58 rfl ?_
  refine g_aload_n hC dX6_init_59 rfl ?_
  refine g_callVq (As := []) hC rfl f39 (c_S_kinds X.la d b F35 p0 f39) cl_X6_37 rfl rfl (Nat.le_of_ble_eq_true rfl) (gFit_of (Nat.le_of_ble_eq_true rfl) (Nat.le_of_ble_eq_true rfl) (by first | exact Nat.le_of_ble_eq_true rfl | omega | (simp only [gR]; omega)) (by first | exact Nat.le_of_ble_eq_true rfl | omega | (simp only [gR]; omega))) dX6_init_60 (fun r40 F41 p42 => ?_)
  obtain ⟨rfl, eF41⟩ := p42; have eF41 := eF41.symm; subst eF41
  show gG X d b _ _ _ _ 63 _ [.ref x1, .ref t]
  refine g_putC hC hcn36 fl_X6_43 rfl rfl (Nat.le_of_ble_eq_true rfl) rfl dX6_init_63 (fun F43 hcn44 hx45 => ?_)
  have hx46 : ∀ x, x ≠ t → F35 x ≠ g0 → F43 x = F35 x := fun x q _ => hx45 x q
  have f47 : F43 p0 = .inr (8, [.ref x0, .ref x1, .ref x2, .ref x3, .ref x4, .ref x5, .ref x6, .ref x7, .int y0, .int y1, .int y2]) := (hx46 p0 (gne f39 hcn36.1 (gk_oo rfl)) (by rw [f39]; exact g0_o)).trans f39
  refine g_aload_n hC dX6_init_66 rfl ?_
  refine g_aload_n hC dX6_init_67 rfl ?_
  refine g_callVq (As := []) hC rfl f47 (c_S_infos X.la d b F43 p0 f47) cl_X6_45 rfl rfl (Nat.le_of_ble_eq_true rfl) (gFit_of (Nat.le_of_ble_eq_true rfl) (Nat.le_of_ble_eq_true rfl) (by first | exact Nat.le_of_ble_eq_true rfl | omega | (simp only [gR]; omega)) (by first | exact Nat.le_of_ble_eq_true rfl | omega | (simp only [gR]; omega))) dX6_init_68 (fun r48 F49 p50 => ?_)
  obtain ⟨rfl, eF49⟩ := p50; have eF49 := eF49.symm; subst eF49
  show gG X d b _ _ _ _ 71 _ [.ref x2, .ref t]
  refine g_putC hC hcn44 fl_X6_48 rfl rfl (Nat.le_of_ble_eq_true rfl) rfl dX6_init_71 (fun F51 hcn52 hx53 => ?_)
  have hx54 : ∀ x, x ≠ t → F43 x ≠ g0 → F51 x = F43 x := fun x q _ => hx53 x q
  have f55 : F51 p0 = .inr (8, [.ref x0, .ref x1, .ref x2, .ref x3, .ref x4, .ref x5, .ref x6, .ref x7, .int y0, .int y1, .int y2]) := (hx54 p0 (gne f47 hcn44.1 (gk_oo rfl)) (by rw [f47]; exact g0_o)).trans f47
  refine g_aload_n hC dX6_init_74 rfl ?_
  refine g_aload_n hC dX6_init_75 rfl ?_
  refine g_callVq (As := []) hC rfl f55 (c_S_places X.la d b F51 p0 f55) cl_X6_50 rfl rfl (Nat.le_of_ble_eq_true rfl) (gFit_of (Nat.le_of_ble_eq_true rfl) (Nat.le_of_ble_eq_true rfl) (by first | exact Nat.le_of_ble_eq_true rfl | omega | (simp only [gR]; omega)) (by first | exact Nat.le_of_ble_eq_true rfl | omega | (simp only [gR]; omega))) dX6_init_76 (fun r56 F57 p58 => ?_)
  obtain ⟨rfl, eF57⟩ := p58; have eF57 := eF57.symm; subst eF57
  show gG X d b _ _ _ _ 79 _ [.ref x3, .ref t]
  refine g_putC hC hcn52 fl_X6_53 rfl rfl (Nat.le_of_ble_eq_true rfl) rfl dX6_init_79 (fun F59 hcn60 hx61 => ?_)
  have hx62 : ∀ x, x ≠ t → F51 x ≠ g0 → F59 x = F51 x := fun x q _ => hx61 x q
  have f63 : F59 p0 = .inr (8, [.ref x0, .ref x1, .ref x2, .ref x3, .ref x4, .ref x5, .ref x6, .ref x7, .int y0, .int y1, .int y2]) := (hx62 p0 (gne f55 hcn52.1 (gk_oo rfl)) (by rw [f55]; exact g0_o)).trans f55
  refine g_aload_n hC dX6_init_82 rfl ?_
  refine g_aload_n hC dX6_init_83 rfl ?_
  refine g_callVq (As := []) hC rfl f63 (c_S_strings X.la d b F59 p0 f63) cl_X6_55 rfl rfl (Nat.le_of_ble_eq_true rfl) (gFit_of (Nat.le_of_ble_eq_true rfl) (Nat.le_of_ble_eq_true rfl) (by first | exact Nat.le_of_ble_eq_true rfl | omega | (simp only [gR]; omega)) (by first | exact Nat.le_of_ble_eq_true rfl | omega | (simp only [gR]; omega))) dX6_init_84 (fun r64 F65 p66 => ?_)
  obtain ⟨rfl, eF65⟩ := p66; have eF65 := eF65.symm; subst eF65
  show gG X d b _ _ _ _ 87 _ [.ref x4, .ref t]
  refine g_putC hC hcn60 fl_X6_58 rfl rfl (Nat.le_of_ble_eq_true rfl) rfl dX6_init_87 (fun F67 hcn68 hx69 => ?_)
  have hx70 : ∀ x, x ≠ t → F59 x ≠ g0 → F67 x = F59 x := fun x q _ => hx69 x q
  have f71 : F67 p0 = .inr (8, [.ref x0, .ref x1, .ref x2, .ref x3, .ref x4, .ref x5, .ref x6, .ref x7, .int y0, .int y1, .int y2]) := (hx70 p0 (gne f63 hcn60.1 (gk_oo rfl)) (by rw [f63]; exact g0_o)).trans f63
  refine g_aload_n hC dX6_init_90 rfl ?_
  refine g_aload_n hC dX6_init_91 rfl ?_
  refine g_putC hC hcn68 fl_X6_60 rfl rfl (Nat.le_of_ble_eq_true rfl) rfl dX6_init_92 (fun F72 hcn73 hx74 => ?_)
  have hx75 : ∀ x, x ≠ t → F67 x ≠ g0 → F72 x = F67 x := fun x q _ => hx74 x q
  have f76 : F72 p0 = .inr (8, [.ref x0, .ref x1, .ref x2, .ref x3, .ref x4, .ref x5, .ref x6, .ref x7, .int y0, .int y1, .int y2]) := (hx75 p0 (gne f71 hcn68.1 (gk_oo rfl)) (by rw [f71]; exact g0_o)).trans f71
  refine g_aload_n hC dX6_init_95 rfl ?_
  refine g_aload_n hC dX6_init_96 rfl ?_
  refine g_putC hC hcn73 fl_X6_64 rfl rfl (Nat.le_of_ble_eq_true rfl) rfl dX6_init_97 (fun F77 hcn78 hx79 => ?_)
  have hx80 : ∀ x, x ≠ t → F72 x ≠ g0 → F77 x = F72 x := fun x q _ => hx79 x q
  have f81 : F77 p0 = .inr (8, [.ref x0, .ref x1, .ref x2, .ref x3, .ref x4, .ref x5, .ref x6, .ref x7, .int y0, .int y1, .int y2]) := (hx80 p0 (gne f76 hcn73.1 (gk_oo rfl)) (by rw [f76]; exact g0_o)).trans f76
  exact g_vret hC ⟨a1, q2, a9, q10, a17, q18, hcn78⟩ (by first | exact Nat.le_of_ble_eq_true rfl | omega | (simp only [gR]; omega)) (by first | exact Nat.le_of_ble_eq_true rfl | omega | (simp only [gR]; omega)) dX6_init_100
