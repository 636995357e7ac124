theorem kw_306 : Cond.fieldLink RX7 43 "WordTongue$Program" "kind" "I" ∈ gWs := gWm 306 (by decide +kernel) rfl
theorem kw_309 : Cond.laysFinal RX7 "WordTongue$Program" "code" "LWordTongue$Ints;" ∈ gWs := gWm 309 (by decide +kernel) rfl
theorem kw_311 : Cond.laysFinal RX7 "WordTongue$Program" "image" "LWordTongue$Ints;" ∈ gWs := gWm 311 (by decide +kernel) rfl
theorem kw_313 : Cond.laysFinal RX7 "WordTongue$Program" "homes" "LWordTongue$Ints;" ∈ gWs := gWm 313 (by decide +kernel) rfl
theorem kw_315 : Cond.laysFinal RX7 "WordTongue$Program" "starts" "LWordTongue$Ints;" ∈ gWs := gWm 315 (by decide +kernel) rfl
theorem kw_317 : Cond.laysFinal RX7 "WordTongue$Program" "frames" "LWordTongue$Ints;" ∈ gWs := gWm 317 (by decide +kernel) rfl
theorem kw_319 : Cond.laysFinal RX7 "WordTongue$Program" "params" "LWordTongue$Ints;" ∈ gWs := gWm 319 (by decide +kernel) rfl
theorem kw_321 : Cond.lays RX7 "WordTongue$Program" "storeWords" "I" ∈ gWs := gWm 321 (by decide +kernel) rfl
theorem kw_323 : Cond.lays RX7 "WordTongue$Program" "starter" "I" ∈ gWs := gWm 323 (by decide +kernel) rfl
theorem kw_325 : Cond.lays RX7 "WordTongue$Program" "kind" "I" ∈ gWs := gWm 325 (by decide +kernel) rfl
theorem kw_327 : Cond.lays RX7 "WordTongue$Program" "place" "I" ∈ gWs := gWm 327 (by decide +kernel) rfl
theorem kw_329 : Cond.lays RX7 "WordTongue$Program" "ready" "Z" ∈ gWs := gWm 329 (by decide +kernel) rfl
set_option maxRecDepth 20000 in
theorem inW_RX7 : ∀ w ∈ u_ws RX7 TX7 11, w ∈ gWs := List.forall_mem_cons.mpr ⟨kw_309, List.forall_mem_cons.mpr ⟨kw_311, List.forall_mem_cons.mpr ⟨kw_313, List.forall_mem_cons.mpr ⟨kw_315, List.forall_mem_cons.mpr ⟨kw_317, List.forall_mem_cons.mpr ⟨kw_319, List.forall_mem_cons.mpr ⟨kw_321, List.forall_mem_cons.mpr ⟨kw_323, List.forall_mem_cons.mpr ⟨kw_325, List.forall_mem_cons.mpr ⟨kw_327, List.forall_mem_cons.mpr ⟨kw_329, fun _ h => nomatch h⟩⟩⟩⟩⟩⟩⟩⟩⟩⟩⟩
theorem fl_X7_43 : gFL RX7 43 7 8 .int false := ⟨RX7, TX7, 11, tyX7, rfl, by decide, inW_RX7, kw_306, tyX7_ok, nmX7, rfl, by decide +kernel, fun h => by cases h⟩
theorem kw_307 : Cond.fieldLink RX7 46 "WordTongue$Program" "place" "I" ∈ gWs := gWm 307 (by decide +kernel) rfl
theorem fl_X7_46 : gFL RX7 46 7 9 .int false := ⟨RX7, TX7, 11, tyX7, rfl, by decide, inW_RX7, kw_307, tyX7_ok, nmX7, rfl, by decide +kernel, fun h => by cases h⟩
theorem kw_308 : Cond.fieldLink RX7 49 "WordTongue$Program" "ready" "Z" ∈ gWs := gWm 308 (by decide +kernel) rfl
theorem fl_X7_49 : gFL RX7 49 7 10 .boolean false := ⟨RX7, TX7, 11, tyX7, rfl, by decide, inW_RX7, kw_308, tyX7_ok, nmX7, rfl, by decide +kernel, fun h => by cases h⟩
theorem kw_299 : Cond.fieldLink RX7 21 "WordTongue$Program" "image" "LWordTongue$Ints;" ∈ gWs := gWm 299 (by decide +kernel) rfl
theorem fl_X7_21 : gFL RX7 21 7 1 (.object "WordTongue$Ints") true := ⟨RX7, TX7, 11, tyX7, rfl, by decide, inW_RX7, kw_299, tyX7_ok, nmX7, rfl, by decide +kernel, fun _ => rfl⟩
theorem kw_239 : Cond.initialized RX4 ∈ gWs := gWm 239 (by decide +kernel) rfl
theorem kw_428 : Cond.code yX4_size cX4_size 1 (some .int) ∈ gWs := gWm 428 (by decide +kernel) rfl
theorem kw_859 : Cond.methodLink RX7 67 yX4_size ∈ gWs := gWm 859 (by decide +kernel) rfl
theorem kw_426 : Cond.instanceMethod yX4_size ∈ gWs := gWm 426 (by decide +kernel) rfl
theorem kw_427 : Cond.selects RX4 yX4_size yX4_size ∈ gWs := gWm 427 (by decide +kernel) rfl
theorem cl_X7_67 : gCV RX7 67 yX4_size cX4_size 1 (some .int) 0 := ⟨g_mk [.methodLink RX7 67 yX4_size, .instanceMethod yX4_size, .selects yX4_size.cls yX4_size yX4_size, .initialized yX4_size.cls] (gWs_all kw_428) (List.forall_mem_cons.mpr ⟨kw_859, List.forall_mem_cons.mpr ⟨kw_426, List.forall_mem_cons.mpr ⟨kw_427, List.forall_mem_cons.mpr ⟨kw_239, fun _ h => nomatch h⟩⟩⟩⟩), rfl, by decide +kernel, by decide +kernel, by decide +kernel⟩
theorem kw_298 : Cond.fieldLink RX7 15 "WordTongue$Program" "code" "LWordTongue$Ints;" ∈ gWs := gWm 298 (by decide +kernel) rfl
theorem fl_X7_15 : gFL RX7 15 7 0 (.object "WordTongue$Ints") true := ⟨RX7, TX7, 11, tyX7, rfl, by decide, inW_RX7, kw_298, tyX7_ok, nmX7, rfl, by decide +kernel, fun _ => rfl⟩
theorem kw_444 : Cond.code yX4_add cX4_add 2 none ∈ gWs := gWm 444 (by decide +kernel) rfl
theorem kw_854 : Cond.methodLink RX7 56 yX4_add ∈ gWs := gWm 854 (by decide +kernel) rfl
theorem kw_442 : Cond.instanceMethod yX4_add ∈ gWs := gWm 442 (by decide +kernel) rfl
theorem kw_443 : Cond.selects RX4 yX4_add yX4_add ∈ gWs := gWm 443 (by decide +kernel) rfl
theorem cl_X7_56 : gCV RX7 56 yX4_add cX4_add 2 none 1 := ⟨g_mk [.methodLink RX7 56 yX4_add, .instanceMethod yX4_add, .selects yX4_add.cls yX4_add yX4_add, .initialized yX4_add.cls] (gWs_all kw_444) (List.forall_mem_cons.mpr ⟨kw_854, List.forall_mem_cons.mpr ⟨kw_442, List.forall_mem_cons.mpr ⟨kw_443, List.forall_mem_cons.mpr ⟨kw_239, fun _ h => nomatch h⟩⟩⟩⟩), rfl, by decide +kernel, by decide +kernel, by decide +kernel⟩
theorem kw_468 : Cond.code yX4_cut cX4_cut 2 none ∈ gWs := gWm 468 (by decide +kernel) rfl
theorem kw_853 : Cond.methodLink RX7 53 yX4_cut ∈ gWs := gWm 853 (by decide +kernel) rfl
theorem kw_466 : Cond.instanceMethod yX4_cut ∈ gWs := gWm 466 (by decide +kernel) rfl
theorem kw_467 : Cond.selects RX4 yX4_cut yX4_cut ∈ gWs := gWm 467 (by decide +kernel) rfl
theorem cl_X7_53 : gCV RX7 53 yX4_cut cX4_cut 2 none 1 := ⟨g_mk [.methodLink RX7 53 yX4_cut, .instanceMethod yX4_cut, .selects yX4_cut.cls yX4_cut yX4_cut, .initialized yX4_cut.cls] (gWs_all kw_468) (List.forall_mem_cons.mpr ⟨kw_853, List.forall_mem_cons.mpr ⟨kw_466, List.forall_mem_cons.mpr ⟨kw_467, List.forall_mem_cons.mpr ⟨kw_239, fun _ h => nomatch h⟩⟩⟩⟩), rfl, by decide +kernel, by decide +kernel, by decide +kernel⟩
theorem kw_300 : Cond.fieldLink RX7 24 "WordTongue$Program" "homes" "LWordTongue$Ints;" ∈ gWs := gWm 300 (by decide +kernel) rfl
theorem fl_X7_24 : gFL RX7 24 7 2 (.object "WordTongue$Ints") true := ⟨RX7, TX7, 11, tyX7, rfl, by decide, inW_RX7, kw_300, tyX7_ok, nmX7, rfl, by decide +kernel, fun _ => rfl⟩
theorem kw_301 : Cond.fieldLink RX7 27 "WordTongue$Program" "starts" "LWordTongue$Ints;" ∈ gWs := gWm 301 (by decide +kernel) rfl
theorem fl_X7_27 : gFL RX7 27 7 3 (.object "WordTongue$Ints") true := ⟨RX7, TX7, 11, tyX7, rfl, by decide, inW_RX7, kw_301, tyX7_ok, nmX7, rfl, by decide +kernel, fun _ => rfl⟩
theorem kw_302 : Cond.fieldLink RX7 30 "WordTongue$Program" "frames" "LWordTongue$Ints;" ∈ gWs := gWm 302 (by decide +kernel) rfl
theorem fl_X7_30 : gFL RX7 30 7 4 (.object "WordTongue$Ints") true := ⟨RX7, TX7, 11, tyX7, rfl, by decide, inW_RX7, kw_302, tyX7_ok, nmX7, rfl, by decide +kernel, fun _ => rfl⟩
theorem kw_303 : Cond.fieldLink RX7 33 "WordTongue$Program" "params" "LWordTongue$Ints;" ∈ gWs := gWm 303 (by decide +kernel) rfl
theorem fl_X7_33 : gFL RX7 33 7 5 (.object "WordTongue$Ints") true := ⟨RX7, TX7, 11, tyX7, rfl, by decide, inW_RX7, kw_303, tyX7_ok, nmX7, rfl, by decide +kernel, fun _ => rfl⟩
theorem kw_240 : Cond.initialized RX7 ∈ gWs := gWm 240 (by decide +kernel) rfl
theorem kw_858 : Cond.code yX7_emit cX7_emit 3 (some .int) ∈ gWs := gWm 858 (by decide +kernel) rfl
theorem kw_855 : Cond.methodLink RX7 59 yX7_emit ∈ gWs := gWm 855 (by decide +kernel) rfl
theorem kw_856 : Cond.instanceMethod yX7_emit ∈ gWs := gWm 856 (by decide +kernel) rfl
theorem kw_857 : Cond.selects RX7 yX7_emit yX7_emit ∈ gWs := gWm 857 (by decide +kernel) rfl
theorem cl_X7_59 : gCV RX7 59 yX7_emit cX7_emit 3 (some .int) 2 := ⟨g_mk [.methodLink RX7 59 yX7_emit, .instanceMethod yX7_emit, .selects yX7_emit.cls yX7_emit yX7_emit, .initialized yX7_emit.cls] (gWs_all kw_858) (List.forall_mem_cons.mpr ⟨kw_855, List.forall_mem_cons.mpr ⟨kw_856, List.forall_mem_cons.mpr ⟨kw_857, List.forall_mem_cons.mpr ⟨kw_240, fun _ h => nomatch h⟩⟩⟩⟩), rfl, by decide +kernel, by decide +kernel, by decide +kernel⟩
theorem kw_304 : Cond.fieldLink RX7 36 "WordTongue$Program" "storeWords" "I" ∈ gWs := gWm 304 (by decide +kernel) rfl
theorem fl_X7_36 : gFL RX7 36 7 6 .int false := ⟨RX7, TX7, 11, tyX7, rfl, by decide, inW_RX7, kw_304, tyX7_ok, nmX7, rfl, by decide +kernel, fun h => by cases h⟩
theorem kw_305 : Cond.fieldLink RX7 40 "WordTongue$Program" "starter" "I" ∈ gWs := gWm 305 (by decide +kernel) rfl
theorem fl_X7_40 : gFL RX7 40 7 7 .int false := ⟨RX7, TX7, 11, tyX7, rfl, by decide, inW_RX7, kw_305, tyX7_ok, nmX7, rfl, by decide +kernel, fun h => by cases h⟩
theorem w_mo (j : Nat) : 100 ≤ gmo j := by
  unfold gmo
  split <;> omega
theorem gnb {x : Int32} (h : x = 0 ∨ x = 1) : narrow .boolean (.int x) = .int x := by rcases h with rfl | rfl <;> rfl
theorem dX7_faultKind_0 : decode cX7_faultKind 0 = .ok (.aload_n 0, 1) := by decide +kernel
theorem dX7_faultKind_1 : decode cX7_faultKind 1 = .ok (.getfield 43, 3) := by decide +kernel
theorem dX7_faultKind_4 : decode cX7_faultKind 4 = .ok (.ireturn, 1) := by decide +kernel
set_option maxHeartbeats 4000000 in
set_option maxRecDepth 100000 in
theorem c_P_kind (l : Launch) (d : gD) (b : Nat) (Y : gYt) (F : gM) (S : gSt) (hW : gWT d Y F S)  : gMi l d b yX7_faultKind cX7_faultKind 1 .int 0 0 0 F [.ref (gO' Y 1)] (fun r F' => r = sV S 4 ∧ F' = F) := by
  refine gM_of2 rfl (nL := 1) (Nat.le_of_ble_eq_true rfl) ?_
  intro X hX hC; subst hX
  show gG X d b _ F 0 0 0 [some (.ref (gO' Y 1))] []
  have hM0 : gSm S S [] [] := gSm.rf
  have hK0 : gKp Y F F := gKp.rf
  refine g_aload_n hC dX7_faultKind_0 rfl ?_
  refine g_get hC fl_X7_43 (hW.o 1 (by decide)) rfl dX7_faultKind_1 ?_
  exact g_iret hC rfl ⟨rfl, rfl⟩ (by first | exact Nat.le_of_ble_eq_true rfl | omega | (simp only [gR]; omega)) (by first | exact Nat.le_of_ble_eq_true rfl | omega | (simp only [gR]; omega)) dX7_faultKind_4
theorem dX7_faultPlace_0 : decode cX7_faultPlace 0 = .ok (.aload_n 0, 1) := by decide +kernel
theorem dX7_faultPlace_1 : decode cX7_faultPlace 1 = .ok (.getfield 46, 3) := by decide +kernel
theorem dX7_faultPlace_4 : decode cX7_faultPlace 4 = .ok (.ireturn, 1) := by decide +kernel
set_option maxHeartbeats 4000000 in
set_option maxRecDepth 100000 in
theorem c_P_place (l : Launch) (d : gD) (b : Nat) (Y : gYt) (F : gM) (S : gSt) (hW : gWT d Y F S)  : gMi l d b yX7_faultPlace cX7_faultPlace 1 .int 0 0 0 F [.ref (gO' Y 1)] (fun r F' => r = sV S 5 ∧ F' = F) := by
  refine gM_of2 rfl (nL := 1) (Nat.le_of_ble_eq_true rfl) ?_
  intro X hX hC; subst hX
  show gG X d b _ F 0 0 0 [some (.ref (gO' Y 1))] []
  have hM0 : gSm S S [] [] := gSm.rf
  have hK0 : gKp Y F F := gKp.rf
  refine g_aload_n hC dX7_faultPlace_0 rfl ?_
  refine g_get hC fl_X7_46 (hW.o 1 (by decide)) rfl dX7_faultPlace_1 ?_
  exact g_iret hC rfl ⟨rfl, rfl⟩ (by first | exact Nat.le_of_ble_eq_true rfl | omega | (simp only [gR]; omega)) (by first | exact Nat.le_of_ble_eq_true rfl | omega | (simp only [gR]; omega)) dX7_faultPlace_4
theorem dX7_isReady_0 : decode cX7_isReady 0 = .ok (.aload_n 0, 1) := by decide +kernel
theorem dX7_isReady_1 : decode cX7_isReady 1 = .ok (.getfield 49, 3) := by decide +kernel
theorem dX7_isReady_4 : decode cX7_isReady 4 = .ok (.ireturn, 1) := by decide +kernel
set_option maxHeartbeats 4000000 in
set_option maxRecDepth 100000 in
theorem c_P_ready (l : Launch) (d : gD) (b : Nat) (Y : gYt) (F : gM) (S : gSt) (hW : gWT d Y F S)  : gMi l d b yX7_isReady cX7_isReady 1 .boolean 0 0 0 F [.ref (gO' Y 1)] (fun r F' => r = sV S 6 ∧ F' = F) := by
  refine gM_of2 rfl (nL := 1) (Nat.le_of_ble_eq_true rfl) ?_
  intro X hX hC; subst hX
  show gG X d b _ F 0 0 0 [some (.ref (gO' Y 1))] []
  have hM0 : gSm S S [] [] := gSm.rf
  have hK0 : gKp Y F F := gKp.rf
  refine g_aload_n hC dX7_isReady_0 rfl ?_
  refine g_get hC fl_X7_49 (hW.o 1 (by decide)) rfl dX7_isReady_1 ?_
  exact g_iret hC (gnb (hW.bo 6 (by decide))) ⟨rfl, rfl⟩ (by first | exact Nat.le_of_ble_eq_true rfl | omega | (simp only [gR]; omega)) (by first | exact Nat.le_of_ble_eq_true rfl | omega | (simp only [gR]; omega)) dX7_isReady_4
theorem dX7_words_0 : decode cX7_words 0 = .ok (.aload_n 0, 1) := by decide +kernel
theorem dX7_words_1 : decode cX7_words 1 = .ok (.getfield 21, 3) := by decide +kernel
theorem dX7_words_4 : decode cX7_words 4 = .ok (.invokevirtual 67, 3) := by decide +kernel
theorem dX7_words_7 : decode cX7_words 7 = .ok (.ireturn, 1) := by decide +kernel
set_option maxHeartbeats 4000000 in
set_option maxRecDepth 100000 in
theorem c_P_words (l : Launch) (d : gD) (b : Nat) (Y : gYt) (F : gM) (S : gSt) (hW : gWT d Y F S)  : gMi l d b yX7_words cX7_words 1 .int 1 0 0 F [.ref (gO' Y 1)] (fun r F' => r = nI (sZ S 2) ∧ F' = F) := by
  refine gM_of2 rfl (nL := 1) (Nat.le_of_ble_eq_true rfl) ?_
  intro X hX hC; subst hX
  show gG X d b _ F 0 0 0 [some (.ref (gO' Y 1))] []
  have hM0 : gSm S S [] [] := gSm.rf
  have hK0 : gKp Y F F := gKp.rf
  refine g_aload_n hC dX7_words_0 rfl ?_
  refine g_get hC fl_X7_21 (hW.o 1 (by decide)) rfl dX7_words_1 ?_
  refine g_callVi (As := []) hC rfl (hW.r 2 (by decide)).1 (c_Ints_size X.la d b F _ _ _ _ _ _ (hW.r 2 (by decide))) cl_X7_67 rfl rfl (Nat.le_of_ble_eq_true rfl) (gFit_of (Nat.le_of_ble_eq_true rfl) (Nat.le_of_ble_eq_true rfl) (by first | exact Nat.le_of_ble_eq_true rfl | omega | (simp only [gR]; omega)) (by first | exact Nat.le_of_ble_eq_true rfl | omega | (simp only [gR]; omega))) dX7_words_4 (fun r1 F2 p3 => ?_)
  obtain ⟨rfl, eF2⟩ := p3; have eF2 := eF2.symm; subst eF2
  exact g_iret hC rfl ⟨rfl, rfl⟩ (by first | exact Nat.le_of_ble_eq_true rfl | omega | (simp only [gR]; omega)) (by first | exact Nat.le_of_ble_eq_true rfl | omega | (simp only [gR]; omega)) dX7_words_7
theorem dX7_emit_0 : decode cX7_emit 0 = .ok (.aload_n 0, 1) := by decide +kernel
theorem dX7_emit_1 : decode cX7_emit 1 = .ok (.getfield 15, 3) := by decide +kernel
theorem dX7_emit_4 : decode cX7_emit 4 = .ok (.iload_n 1, 1) := by decide +kernel
theorem dX7_emit_5 : decode cX7_emit 5 = .ok (.invokevirtual 56, 3) := by decide +kernel
theorem dX7_emit_8 : decode cX7_emit 8 = .ok (.aload_n 0, 1) := by decide +kernel
theorem dX7_emit_9 : decode cX7_emit 9 = .ok (.getfield 15, 3) := by decide +kernel
theorem dX7_emit_12 : decode cX7_emit 12 = .ok (.iload_n 2, 1) := by decide +kernel
theorem dX7_emit_13 : decode cX7_emit 13 = .ok (.invokevirtual 56, 3) := by decide +kernel
theorem dX7_emit_16 : decode cX7_emit 16 = .ok (.aload_n 0, 1) := by decide +kernel
theorem dX7_emit_17 : decode cX7_emit 17 = .ok (.getfield 15, 3) := by decide +kernel
theorem dX7_emit_20 : decode cX7_emit 20 = .ok (.invokevirtual 67, 3) := by decide +kernel
theorem dX7_emit_23 : decode cX7_emit 23 = .ok (.iconst 1, 1) := by decide +kernel
theorem dX7_emit_24 : decode cX7_emit 24 = .ok (.isub, 1) := by decide +kernel
theorem dX7_emit_25 : decode cX7_emit 25 = .ok (.ireturn, 1) := by decide +kernel
set_option maxHeartbeats 4000000 in
set_option maxRecDepth 100000 in
theorem c_P_emit (l : Launch) (d : gD) (b : Nat) (Y : gYt) (F : gM) (S : gSt) (hW : gWT d Y F S) (x y : Int32) (z : Nat) (hz : sZ S 1 = z) (hn : sN S 1 = 16) (hl : z < 14) : gMi l d b yX7_emit cX7_emit 3 .int 3 0 0 F [.ref (gO' Y 1), .int x, .int y] (fun r F' => ∃ S', gWT d Y F' S' ∧ gKp Y F F' ∧ gSm S S' [1] [] ∧ sZ S' 1 = z + 1 + 1 ∧ sN S' 1 = 16) := by
  refine gM_of2 rfl (nL := 3) (Nat.le_of_ble_eq_true rfl) ?_
  intro X hX hC; subst hX
  show gG X d b _ F 0 0 0 [some (.ref (gO' Y 1)), some (.int x), some (.int y)] []
  have hM0 : gSm S S [1] [] := gSm.rf
  have hK0 : gKp Y F F := gKp.rf
  refine g_aload_n hC dX7_emit_0 rfl ?_
  refine g_get hC fl_X7_15 (hW.o 1 (by decide)) rfl dX7_emit_1 ?_
  refine g_iload_n hC dX7_emit_4 rfl ?_
  have z4 : gAc (sN S 1) (sZ S 1) = 0 := gAc0 (by rw [hz, hn]; exact (by omega))
  have z5 : gAs (gmo 1) (sN S 1) (sZ S 1) = 0 := gAs0 (by rw [hz, hn]; exact (by omega))
  refine g_callVv (As := [.int x]) hC rfl (hW.r 1 (by decide)).1 (c_Ints_add X.la d b F _ _ _ _ _ _ (hW.r 1 (by decide)) x) cl_X7_56 rfl rfl (Nat.le_of_ble_eq_true rfl) (gFit_add (Nat.le_of_ble_eq_true rfl) (Nat.le_of_ble_eq_true rfl) z4 z5 (Nat.le_of_ble_eq_true rfl) (Nat.le_of_ble_eq_true rfl)) dX7_emit_5 (fun F2 p3 => ?_)
  refine g_kn (k2 := 0) (n2 := 0) (by rw [z4]) (by rw [z5]) ?_
  obtain ⟨S6, hW7, k8, s9, a10, -⟩ := wt_add hW (by decide) p3
  have a10 := a10 (by rw [hz]; exact Nat.lt_of_lt_of_le (by omega) (w_mo 1))
  have hM11 : gSm S S6 [1] [] := hM0.tr s9 _ _ rfl rfl
  have hK12 : gKp Y F F2 := hK0.tr k8
  have z13 : sZ S6 1 = (z + 1) := by rw [a10.1, hz]
  have z14 : sN S6 1 = 16 := by rw [a10.2.1, gAn0 (by rw [hz, hn]; exact (by omega)), hn]
  clear hz hn hM0 hK0 s9 k8 hW a10 z4 z5 p3
  refine g_aload_n hC dX7_emit_8 rfl ?_
  refine g_get hC fl_X7_15 (hW7.o 1 (by decide)) rfl dX7_emit_9 ?_
  refine g_iload_n hC dX7_emit_12 rfl ?_
  have z18 : gAc (sN S6 1) (sZ S6 1) = 0 := gAc0 (by rw [z13, z14]; exact (by omega))
  have z19 : gAs (gmo 1) (sN S6 1) (sZ S6 1) = 0 := gAs0 (by rw [z13, z14]; exact (by omega))
  refine g_callVv (As := [.int y]) hC rfl (hW7.r 1 (by decide)).1 (c_Ints_add X.la d b F2 _ _ _ _ _ _ (hW7.r 1 (by decide)) y) cl_X7_56 rfl rfl (Nat.le_of_ble_eq_true rfl) (gFit_add (Nat.le_of_ble_eq_true rfl) (Nat.le_of_ble_eq_true rfl) z18 z19 (Nat.le_of_ble_eq_true rfl) (Nat.le_of_ble_eq_true rfl)) dX7_emit_13 (fun F16 p17 => ?_)
  refine g_kn (k2 := 0) (n2 := 0) (by rw [z18]) (by rw [z19]) ?_
  obtain ⟨S20, hW21, k22, s23, a24, -⟩ := wt_add hW7 (by decide) p17
  have a24 := a24 (by rw [z13]; exact Nat.lt_of_lt_of_le (by omega) (w_mo 1))
  have hM25 : gSm S S20 [1] [] := hM11.tr s23 _ _ rfl rfl
  have hK26 : gKp Y F F16 := hK12.tr k22
  have z27 : sZ S20 1 = ((z + 1) + 1) := by rw [a24.1, z13]
  have z28 : sN S20 1 = 16 := by rw [a24.2.1, gAn0 (by rw [z13, z14]; exact (by omega)), z14]
  clear z13 z14 hM11 hK12 s23 k22 hW7 a24 z18 z19 p17
  refine g_aload_n hC dX7_emit_16 rfl ?_
  refine g_get hC fl_X7_15 (hW21.o 1 (by decide)) rfl dX7_emit_17 ?_
  refine g_callVi (As := []) hC rfl (hW21.r 1 (by decide)).1 (c_Ints_size X.la d b F16 _ _ _ _ _ _ (hW21.r 1 (by decide))) cl_X7_67 rfl rfl (Nat.le_of_ble_eq_true rfl) (gFit_of (Nat.le_of_ble_eq_true rfl) (Nat.le_of_ble_eq_true rfl) (by first | exact Nat.le_of_ble_eq_true rfl | omega | (simp only [gR]; omega)) (by first | exact Nat.le_of_ble_eq_true rfl | omega | (simp only [gR]; omega))) dX7_emit_20 (fun r29 F30 p31 => ?_)
  obtain ⟨rfl, eF30⟩ := p31; have eF30 := eF30.symm; subst eF30
  refine g_iconst (v := 1) hC dX7_emit_23 rfl ?_
  refine g_isub hC dX7_emit_24 ?_
  refine g_vi (fun x32 ex32 => ?_)
  exact g_iret hC rfl ⟨S20, hW21, hK26, hM25, z27, z28⟩ (by first | exact Nat.le_of_ble_eq_true rfl | omega | (simp only [gR]; omega)) (by first | exact Nat.le_of_ble_eq_true rfl | omega | (simp only [gR]; omega)) dX7_emit_25
theorem dX7_clear_0 : decode cX7_clear 0 = .ok (.aload_n 0, 1) := by decide +kernel
theorem dX7_clear_1 : decode cX7_clear 1 = .ok (.getfield 15, 3) := by decide +kernel
theorem dX7_clear_4 : decode cX7_clear 4 = .ok (.iconst 0, 1) := by decide +kernel
theorem dX7_clear_5 : decode cX7_clear 5 = .ok (.invokevirtual 53, 3) := by decide +kernel
theorem dX7_clear_8 : decode cX7_clear 8 = .ok (.aload_n 0, 1) := by decide +kernel
theorem dX7_clear_9 : decode cX7_clear 9 = .ok (.getfield 21, 3) := by decide +kernel
theorem dX7_clear_12 : decode cX7_clear 12 = .ok (.iconst 0, 1) := by decide +kernel
theorem dX7_clear_13 : decode cX7_clear 13 = .ok (.invokevirtual 53, 3) := by decide +kernel
theorem dX7_clear_16 : decode cX7_clear 16 = .ok (.aload_n 0, 1) := by decide +kernel
theorem dX7_clear_17 : decode cX7_clear 17 = .ok (.getfield 24, 3) := by decide +kernel
theorem dX7_clear_20 : decode cX7_clear 20 = .ok (.iconst 0, 1) := by decide +kernel
theorem dX7_clear_21 : decode cX7_clear 21 = .ok (.invokevirtual 53, 3) := by decide +kernel
theorem dX7_clear_24 : decode cX7_clear 24 = .ok (.aload_n 0, 1) := by decide +kernel
theorem dX7_clear_25 : decode cX7_clear 25 = .ok (.getfield 27, 3) := by decide +kernel
theorem dX7_clear_28 : decode cX7_clear 28 = .ok (.iconst 0, 1) := by decide +kernel
theorem dX7_clear_29 : decode cX7_clear 29 = .ok (.invokevirtual 53, 3) := by decide +kernel
theorem dX7_clear_32 : decode cX7_clear 32 = .ok (.aload_n 0, 1) := by decide +kernel
theorem dX7_clear_33 : decode cX7_clear 33 = .ok (.getfield 30, 3) := by decide +kernel
theorem dX7_clear_36 : decode cX7_clear 36 = .ok (.iconst 0, 1) := by decide +kernel
theorem dX7_clear_37 : decode cX7_clear 37 = .ok (.invokevirtual 53, 3) := by decide +kernel
theorem dX7_clear_40 : decode cX7_clear 40 = .ok (.aload_n 0, 1) := by decide +kernel
theorem dX7_clear_41 : decode cX7_clear 41 = .ok (.getfield 33, 3) := by decide +kernel
theorem dX7_clear_44 : decode cX7_clear 44 = .ok (.iconst 0, 1) := by decide +kernel
theorem dX7_clear_45 : decode cX7_clear 45 = .ok (.invokevirtual 53, 3) := by decide +kernel
theorem dX7_clear_48 : decode cX7_clear 48 = .ok (.iconst 0, 1) := by decide +kernel
theorem dX7_clear_49 : decode cX7_clear 49 = .ok (.istore_n 2, 1) := by decide +kernel
theorem dX7_clear_50 : decode cX7_clear 50 = .ok (.iload_n 2, 1) := by decide +kernel
theorem dX7_clear_51 : decode cX7_clear 51 = .ok (.bipush 100, 2) := by decide +kernel
theorem dX7_clear_53 : decode cX7_clear 53 = .ok (.if_icmp .ge 17, 3) := by decide +kernel
theorem dX7_clear_56 : decode cX7_clear 56 = .ok (.aload_n 0, 1) := by decide +kernel
theorem dX7_clear_57 : decode cX7_clear 57 = .ok (.getfield 21, 3) := by decide +kernel
theorem dX7_clear_60 : decode cX7_clear 60 = .ok (.iconst 0, 1) := by decide +kernel
theorem dX7_clear_61 : decode cX7_clear 61 = .ok (.invokevirtual 56, 3) := by decide +kernel
theorem dX7_clear_64 : decode cX7_clear 64 = .ok (.iinc 2 1, 3) := by decide +kernel
theorem dX7_clear_67 : decode cX7_clear 67 = .ok (.goto (-17), 3) := by decide +kernel
theorem dX7_clear_70 : decode cX7_clear 70 = .ok (.aload_n 0, 1) := by decide +kernel
theorem dX7_clear_71 : decode cX7_clear 71 = .ok (.iconst 0, 1) := by decide +kernel
theorem dX7_clear_72 : decode cX7_clear 72 = .ok (.iconst 0, 1) := by decide +kernel
theorem dX7_clear_73 : decode cX7_clear 73 = .ok (.invokevirtual 59, 3) := by decide +kernel
theorem dX7_clear_76 : decode cX7_clear 76 = .ok (.pop, 1) := by decide +kernel
theorem dX7_clear_77 : decode cX7_clear 77 = .ok (.aload_n 0, 1) := by decide +kernel
theorem dX7_clear_78 : decode cX7_clear 78 = .ok (.iload_n 1, 1) := by decide +kernel
theorem dX7_clear_79 : decode cX7_clear 79 = .ok (.putfield 36, 3) := by decide +kernel
theorem dX7_clear_82 : decode cX7_clear 82 = .ok (.aload_n 0, 1) := by decide +kernel
theorem dX7_clear_83 : decode cX7_clear 83 = .ok (.iconst (-1), 1) := by decide +kernel
theorem dX7_clear_84 : decode cX7_clear 84 = .ok (.putfield 40, 3) := by decide +kernel
theorem dX7_clear_87 : decode cX7_clear 87 = .ok (.aload_n 0, 1) := by decide +kernel
theorem dX7_clear_88 : decode cX7_clear 88 = .ok (.iconst 0, 1) := by decide +kernel
theorem dX7_clear_89 : decode cX7_clear 89 = .ok (.putfield 43, 3) := by decide +kernel
theorem dX7_clear_92 : decode cX7_clear 92 = .ok (.aload_n 0, 1) := by decide +kernel
theorem dX7_clear_93 : decode cX7_clear 93 = .ok (.iconst 0, 1) := by decide +kernel
theorem dX7_clear_94 : decode cX7_clear 94 = .ok (.putfield 46, 3) := by decide +kernel
theorem dX7_clear_97 : decode cX7_clear 97 = .ok (.aload_n 0, 1) := by decide +kernel
theorem dX7_clear_98 : decode cX7_clear 98 = .ok (.iconst 0, 1) := by decide +kernel
theorem dX7_clear_99 : decode cX7_clear 99 = .ok (.putfield 49, 3) := by decide +kernel
theorem dX7_clear_102 : decode cX7_clear 102 = .ok (.return_, 1) := by decide +kernel
set_option maxHeartbeats 4000000 in
set_option maxRecDepth 100000 in
theorem c_P_clear (l : Launch) (d : gD) (b : Nat) (Y : gYt) (F : gM) (S : gSt) (hW : gWT d Y F S) (words : Int32) (hz1 : sZ S 1 = 0) (hn1 : sN S 1 = 16) (hz2 : sZ S 2 = 0) (hn2 : sN S 2 = 16) (hz3 : sZ S 3 = 0) (hn3 : sN S 3 = 16) (hz4 : sZ S 4 = 0) (hn4 : sN S 4 = 16) (hz5 : sZ S 5 = 0) (hn5 : sN S 5 = 16) (hz6 : sZ S 6 = 0) (hn6 : sN S 6 = 16) : gMv l d b yX7_clear cX7_clear 3 4 100 25600 F [.ref (gO' Y 1), .int words] (fun F' => ∃ S', gWT d Y F' S' ∧ gKp Y F F' ∧ gSm S S' [1, 2, 3, 4, 5, 6] [2, 3, 4, 5, 6] ∧ sZ S' 2 = 100 ∧ sZ S' 3 = 0 ∧ sZ S' 5 = 0 ∧ sV S' 3 = (-1) ∧ sV S' 4 = 0 ∧ sV S' 5 = 0 ∧ sV S' 6 = 0) := by
  refine gM_of2 rfl (nL := 3) (Nat.le_of_ble_eq_true rfl) ?_
  intro X hX hC; subst hX
  show gG X d b _ F 0 0 0 [some (.ref (gO' Y 1)), some (.int words), none] []
  have hM0 : gSm S S [1, 2, 3, 4, 5, 6] [2, 3, 4, 5, 6] := gSm.rf
  have hK0 : gKp Y F F := gKp.rf
  refine g_aload_n hC dX7_clear_0 rfl ?_
  refine g_get hC fl_X7_15 (hW.o 1 (by decide)) rfl dX7_clear_1 ?_
  refine g_iconst (v := 0) hC dX7_clear_4 rfl ?_
  refine g_callVv (As := [.int 0]) hC rfl (hW.r 1 (by decide)).1 (c_Ints_cut X.la d b F _ _ _ _ _ _ (hW.r 1 (by decide)) 0) cl_X7_53 rfl rfl (Nat.le_of_ble_eq_true rfl) (gFit_of (Nat.le_of_ble_eq_true rfl) (Nat.le_of_ble_eq_true rfl) (by first | exact Nat.le_of_ble_eq_true rfl | omega | (simp only [gR]; omega)) (by first | exact Nat.le_of_ble_eq_true rfl | omega | (simp only [gR]; omega))) dX7_clear_5 (fun F2 p3 => ?_)
  obtain ⟨S4, hW5, k6, s7, u8, u9, u10, u11, u12⟩ := wt_cut hW (by decide) p3
  have hM13 : gSm S S4 [1, 2, 3, 4, 5, 6] [2, 3, 4, 5, 6] := hM0.tr s7 _ _ rfl rfl
  have hK14 : gKp Y F F2 := hK0.tr k6
  have z15 : sZ S4 2 = 0 := (s7.z 2 (by decide)).trans hz2
  have z16 : sN S4 2 = 16 := (s7.n 2 (by decide)).trans hn2
  have z17 : sZ S4 3 = 0 := (s7.z 3 (by decide)).trans hz3
  have z18 : sN S4 3 = 16 := (s7.n 3 (by decide)).trans hn3
  have z19 : sZ S4 4 = 0 := (s7.z 4 (by decide)).trans hz4
  have z20 : sN S4 4 = 16 := (s7.n 4 (by decide)).trans hn4
  have z21 : sZ S4 5 = 0 := (s7.z 5 (by decide)).trans hz5
  have z22 : sN S4 5 = 16 := (s7.n 5 (by decide)).trans hn5
  have z23 : sZ S4 6 = 0 := (s7.z 6 (by decide)).trans hz6
  have z24 : sN S4 6 = 16 := (s7.n 6 (by decide)).trans hn6
  have z25 : sZ S4 1 = 0 := Nat.le_zero.mp (Nat.le_trans u12 (Nat.le_of_eq hz1))
  have z26 : sN S4 1 = 16 := u8.trans hn1
  clear hz1 hn1 hz2 hn2 hz3 hn3 hz4 hn4 hz5 hn5 hz6 hn6 hM0 hK0 s7 k6 hW p3 u8 u9 u10 u11 u12
  refine g_aload_n hC dX7_clear_8 rfl ?_
  refine g_get hC fl_X7_21 (hW5.o 1 (by decide)) rfl dX7_clear_9 ?_
  refine g_iconst (v := 0) hC dX7_clear_12 rfl ?_
  refine g_callVv (As := [.int 0]) hC rfl (hW5.r 2 (by decide)).1 (c_Ints_cut X.la d b F2 _ _ _ _ _ _ (hW5.r 2 (by decide)) 0) cl_X7_53 rfl rfl (Nat.le_of_ble_eq_true rfl) (gFit_of (Nat.le_of_ble_eq_true rfl) (Nat.le_of_ble_eq_true rfl) (by first | exact Nat.le_of_ble_eq_true rfl | omega | (simp only [gR]; omega)) (by first | exact Nat.le_of_ble_eq_true rfl | omega | (simp only [gR]; omega))) dX7_clear_13 (fun F28 p29 => ?_)
  obtain ⟨S30, hW31, k32, s33, u34, u35, u36, u37, u38⟩ := wt_cut hW5 (by decide) p29
  have hM39 : gSm S S30 [1, 2, 3, 4, 5, 6] [2, 3, 4, 5, 6] := hM13.tr s33 _ _ rfl rfl
  have hK40 : gKp Y F F28 := hK14.tr k32
  have z41 : sZ S30 3 = 0 := (s33.z 3 (by decide)).trans z17
  have z42 : sN S30 3 = 16 := (s33.n 3 (by decide)).trans z18
  have z43 : sZ S30 4 = 0 := (s33.z 4 (by decide)).trans z19
  have z44 : sN S30 4 = 16 := (s33.n 4 (by decide)).trans z20
  have z45 : sZ S30 5 = 0 := (s33.z 5 (by decide)).trans z21
  have z46 : sN S30 5 = 16 := (s33.n 5 (by decide)).trans z22
  have z47 : sZ S30 6 = 0 := (s33.z 6 (by decide)).trans z23
  have z48 : sN S30 6 = 16 := (s33.n 6 (by decide)).trans z24
  have z49 : sZ S30 1 = 0 := (s33.z 1 (by decide)).trans z25
  have z50 : sN S30 1 = 16 := (s33.n 1 (by decide)).trans z26
  have z51 : sZ S30 2 = 0 := Nat.le_zero.mp (Nat.le_trans u38 (Nat.le_of_eq z15))
  have z52 : sN S30 2 = 16 := u34.trans z16
  clear z15 z16 z17 z18 z19 z20 z21 z22 z23 z24 z25 z26 hM13 hK14 s33 k32 hW5 p29 u34 u35 u36 u37 u38
  refine g_aload_n hC dX7_clear_16 rfl ?_
  refine g_get hC fl_X7_24 (hW31.o 1 (by decide)) rfl dX7_clear_17 ?_
  refine g_iconst (v := 0) hC dX7_clear_20 rfl ?_
  refine g_callVv (As := [.int 0]) hC rfl (hW31.r 3 (by decide)).1 (c_Ints_cut X.la d b F28 _ _ _ _ _ _ (hW31.r 3 (by decide)) 0) cl_X7_53 rfl rfl (Nat.le_of_ble_eq_true rfl) (gFit_of (Nat.le_of_ble_eq_true rfl) (Nat.le_of_ble_eq_true rfl) (by first | exact Nat.le_of_ble_eq_true rfl | omega | (simp only [gR]; omega)) (by first | exact Nat.le_of_ble_eq_true rfl | omega | (simp only [gR]; omega))) dX7_clear_21 (fun F54 p55 => ?_)
  obtain ⟨S56, hW57, k58, s59, u60, u61, u62, u63, u64⟩ := wt_cut hW31 (by decide) p55
  have hM65 : gSm S S56 [1, 2, 3, 4, 5, 6] [2, 3, 4, 5, 6] := hM39.tr s59 _ _ rfl rfl
  have hK66 : gKp Y F F54 := hK40.tr k58
  have z67 : sZ S56 4 = 0 := (s59.z 4 (by decide)).trans z43
  have z68 : sN S56 4 = 16 := (s59.n 4 (by decide)).trans z44
  have z69 : sZ S56 5 = 0 := (s59.z 5 (by decide)).trans z45
  have z70 : sN S56 5 = 16 := (s59.n 5 (by decide)).trans z46
  have z71 : sZ S56 6 = 0 := (s59.z 6 (by decide)).trans z47
  have z72 : sN S56 6 = 16 := (s59.n 6 (by decide)).trans z48
  have z73 : sZ S56 1 = 0 := (s59.z 1 (by decide)).trans z49
  have z74 : sN S56 1 = 16 := (s59.n 1 (by decide)).trans z50
  have z75 : sZ S56 2 = 0 := (s59.z 2 (by decide)).trans z51
  have z76 : sN S56 2 = 16 := (s59.n 2 (by decide)).trans z52
  have z77 : sZ S56 3 = 0 := Nat.le_zero.mp (Nat.le_trans u64 (Nat.le_of_eq z41))
  have z78 : sN S56 3 = 16 := u60.trans z42
  clear z41 z42 z43 z44 z45 z46 z47 z48 z49 z50 z51 z52 hM39 hK40 s59 k58 hW31 p55 u60 u61 u62 u63 u64
  refine g_aload_n hC dX7_clear_24 rfl ?_
  refine g_get hC fl_X7_27 (hW57.o 1 (by decide)) rfl dX7_clear_25 ?_
  refine g_iconst (v := 0) hC dX7_clear_28 rfl ?_
  refine g_callVv (As := [.int 0]) hC rfl (hW57.r 4 (by decide)).1 (c_Ints_cut X.la d b F54 _ _ _ _ _ _ (hW57.r 4 (by decide)) 0) cl_X7_53 rfl rfl (Nat.le_of_ble_eq_true rfl) (gFit_of (Nat.le_of_ble_eq_true rfl) (Nat.le_of_ble_eq_true rfl) (by first | exact Nat.le_of_ble_eq_true rfl | omega | (simp only [gR]; omega)) (by first | exact Nat.le_of_ble_eq_true rfl | omega | (simp only [gR]; omega))) dX7_clear_29 (fun F80 p81 => ?_)
  obtain ⟨S82, hW83, k84, s85, u86, u87, u88, u89, u90⟩ := wt_cut hW57 (by decide) p81
  have hM91 : gSm S S82 [1, 2, 3, 4, 5, 6] [2, 3, 4, 5, 6] := hM65.tr s85 _ _ rfl rfl
  have hK92 : gKp Y F F80 := hK66.tr k84
  have z93 : sZ S82 5 = 0 := (s85.z 5 (by decide)).trans z69
  have z94 : sN S82 5 = 16 := (s85.n 5 (by decide)).trans z70
  have z95 : sZ S82 6 = 0 := (s85.z 6 (by decide)).trans z71
  have z96 : sN S82 6 = 16 := (s85.n 6 (by decide)).trans z72
  have z97 : sZ S82 1 = 0 := (s85.z 1 (by decide)).trans z73
  have z98 : sN S82 1 = 16 := (s85.n 1 (by decide)).trans z74
  have z99 : sZ S82 2 = 0 := (s85.z 2 (by decide)).trans z75
  have z100 : sN S82 2 = 16 := (s85.n 2 (by decide)).trans z76
  have z101 : sZ S82 3 = 0 := (s85.z 3 (by decide)).trans z77
  have z102 : sN S82 3 = 16 := (s85.n 3 (by decide)).trans z78
  have z103 : sZ S82 4 = 0 := Nat.le_zero.mp (Nat.le_trans u90 (Nat.le_of_eq z67))
  have z104 : sN S82 4 = 16 := u86.trans z68
  clear z67 z68 z69 z70 z71 z72 z73 z74 z75 z76 z77 z78 hM65 hK66 s85 k84 hW57 p81 u86 u87 u88 u89 u90
  refine g_aload_n hC dX7_clear_32 rfl ?_
  refine g_get hC fl_X7_30 (hW83.o 1 (by decide)) rfl dX7_clear_33 ?_
  refine g_iconst (v := 0) hC dX7_clear_36 rfl ?_
  refine g_callVv (As := [.int 0]) hC rfl (hW83.r 5 (by decide)).1 (c_Ints_cut X.la d b F80 _ _ _ _ _ _ (hW83.r 5 (by decide)) 0) cl_X7_53 rfl rfl (Nat.le_of_ble_eq_true rfl) (gFit_of (Nat.le_of_ble_eq_true rfl) (Nat.le_of_ble_eq_true rfl) (by first | exact Nat.le_of_ble_eq_true rfl | omega | (simp only [gR]; omega)) (by first | exact Nat.le_of_ble_eq_true rfl | omega | (simp only [gR]; omega))) dX7_clear_37 (fun F106 p107 => ?_)
  obtain ⟨S108, hW109, k110, s111, u112, u113, u114, u115, u116⟩ := wt_cut hW83 (by decide) p107
  have hM117 : gSm S S108 [1, 2, 3, 4, 5, 6] [2, 3, 4, 5, 6] := hM91.tr s111 _ _ rfl rfl
  have hK118 : gKp Y F F106 := hK92.tr k110
  have z119 : sZ S108 6 = 0 := (s111.z 6 (by decide)).trans z95
  have z120 : sN S108 6 = 16 := (s111.n 6 (by decide)).trans z96
  have z121 : sZ S108 1 = 0 := (s111.z 1 (by decide)).trans z97
  have z122 : sN S108 1 = 16 := (s111.n 1 (by decide)).trans z98
  have z123 : sZ S108 2 = 0 := (s111.z 2 (by decide)).trans z99
  have z124 : sN S108 2 = 16 := (s111.n 2 (by decide)).trans z100
  have z125 : sZ S108 3 = 0 := (s111.z 3 (by decide)).trans z101
  have z126 : sN S108 3 = 16 := (s111.n 3 (by decide)).trans z102
  have z127 : sZ S108 4 = 0 := (s111.z 4 (by decide)).trans z103
  have z128 : sN S108 4 = 16 := (s111.n 4 (by decide)).trans z104
  have z129 : sZ S108 5 = 0 := Nat.le_zero.mp (Nat.le_trans u116 (Nat.le_of_eq z93))
  have z130 : sN S108 5 = 16 := u112.trans z94
  clear z93 z94 z95 z96 z97 z98 z99 z100 z101 z102 z103 z104 hM91 hK92 s111 k110 hW83 p107 u112 u113 u114 u115 u116
  refine g_aload_n hC dX7_clear_40 rfl ?_
  refine g_get hC fl_X7_33 (hW109.o 1 (by decide)) rfl dX7_clear_41 ?_
  refine g_iconst (v := 0) hC dX7_clear_44 rfl ?_
  refine g_callVv (As := [.int 0]) hC rfl (hW109.r 6 (by decide)).1 (c_Ints_cut X.la d b F106 _ _ _ _ _ _ (hW109.r 6 (by decide)) 0) cl_X7_53 rfl rfl (Nat.le_of_ble_eq_true rfl) (gFit_of (Nat.le_of_ble_eq_true rfl) (Nat.le_of_ble_eq_true rfl) (by first | exact Nat.le_of_ble_eq_true rfl | omega | (simp only [gR]; omega)) (by first | exact Nat.le_of_ble_eq_true rfl | omega | (simp only [gR]; omega))) dX7_clear_45 (fun F132 p133 => ?_)
  obtain ⟨S134, hW135, k136, s137, u138, u139, u140, u141, u142⟩ := wt_cut hW109 (by decide) p133
  have hM143 : gSm S S134 [1, 2, 3, 4, 5, 6] [2, 3, 4, 5, 6] := hM117.tr s137 _ _ rfl rfl
  have hK144 : gKp Y F F132 := hK118.tr k136
  have z145 : sZ S134 1 = 0 := (s137.z 1 (by decide)).trans z121
  have z146 : sN S134 1 = 16 := (s137.n 1 (by decide)).trans z122
  have z147 : sZ S134 2 = 0 := (s137.z 2 (by decide)).trans z123
  have z148 : sN S134 2 = 16 := (s137.n 2 (by decide)).trans z124
  have z149 : sZ S134 3 = 0 := (s137.z 3 (by decide)).trans z125
  have z150 : sN S134 3 = 16 := (s137.n 3 (by decide)).trans z126
  have z151 : sZ S134 4 = 0 := (s137.z 4 (by decide)).trans z127
  have z152 : sN S134 4 = 16 := (s137.n 4 (by decide)).trans z128
  have z153 : sZ S134 5 = 0 := (s137.z 5 (by decide)).trans z129
  have z154 : sN S134 5 = 16 := (s137.n 5 (by decide)).trans z130
  have z155 : sZ S134 6 = 0 := Nat.le_zero.mp (Nat.le_trans u142 (Nat.le_of_eq z119))
  have z156 : sN S134 6 = 16 := u138.trans z120
  clear z119 z120 z121 z122 z123 z124 z125 z126 z127 z128 z129 z130 hM117 hK118 s137 k136 hW109 p133 u138 u139 u140 u141 u142
  refine g_iconst (v := 0) hC dX7_clear_48 rfl ?_
  refine g_istore_n (lv' := [some (.ref (gO' Y 1)), some (.int words), some (.int 0)]) hC dX7_clear_49 (Nat.le_of_ble_eq_true rfl) rfl rfl ?_
  have LOOP : ∀ (m i : Nat) (F1 : gM) (S1 : gSt), m + i = 100 → gWT d Y F1 S1 → gKp Y F F1 → gSm S S1 [1, 2, 3, 4, 5, 6] [2, 3, 4, 5, 6] → sZ S1 2 = i → sN S1 2 ≤ 256 → sZ S1 1 = 0 → sN S1 1 = 16 → sZ S1 3 = 0 → sN S1 3 = 16 → sZ S1 5 = 0 → sN S1 5 = 16 → gG X d b (MQ X.be (va_Qv (fun F' => ∃ S', gWT d Y F' S' ∧ gKp Y F F' ∧ gSm S S' [1, 2, 3, 4, 5, 6] [2, 3, 4, 5, 6] ∧ sZ S' 2 = 100 ∧ sZ S' 3 = 0 ∧ sZ S' 5 = 0 ∧ sV S' 3 = (-1) ∧ sV S' 4 = 0 ∧ sV S' 5 = 0 ∧ sV S' 6 = 0) (gB d b) (fun q => b ≤ q)) X.ar X.st 100 25600 (fun q => b ≤ q)) F1 i (256 * i) 50 [some (.ref (gO' Y 1)), some (.int words), some (.int (nI i))] [] := by
    intro m
    induction m with
    | zero =>
      intro i F1 S1 hmi hW1 hK1 hM1 hz2 hn2 hz1 hn1 hz3 hn3 hz5 hn5
      refine g_iload_n hC dX7_clear_50 rfl ?_
      refine g_bipush (v := 100) hC dX7_clear_51 rfl ?_
      refine g_icmp_ge (tgt := 70) hC dX7_clear_53 (by decide) (fun c157 => ?_) (fun c157 => ?_)
      · have hi : i = 100 := by omega
        subst hi
        refine g_aload_n hC dX7_clear_70 rfl ?_
        refine g_iconst (v := 0) hC dX7_clear_71 rfl ?_
        refine g_iconst (v := 0) hC dX7_clear_72 rfl ?_
        refine g_callVi (As := [.int 0, .int 0]) hC rfl (hW1.o 1 (by decide)) (c_P_emit X.la d b Y F1 S1 hW1 0 0 0 hz1 hn1 (by decide)) cl_X7_59 rfl rfl (Nat.le_of_ble_eq_true rfl) (gFit_of (Nat.le_of_ble_eq_true rfl) (Nat.le_of_ble_eq_true rfl) (by first | exact Nat.le_of_ble_eq_true rfl | omega | (simp only [gR]; omega)) (by first | exact Nat.le_of_ble_eq_true rfl | omega | (simp only [gR]; omega))) dX7_clear_73 (fun r160 F158 p159 => ?_)
        obtain ⟨S161, hW162, k163, s164, y165, y166⟩ := p159
        have hM167 : gSm S S161 [1, 2, 3, 4, 5, 6] [2, 3, 4, 5, 6] := hM1.tr s164 _ _ rfl rfl
        have hK168 : gKp Y F F158 := hK1.tr k163
        have z169 : sZ S161 3 = 0 := (s164.z 3 (by decide)).trans hz3
        have z170 : sN S161 3 = 16 := (s164.n 3 (by decide)).trans hn3
        have z171 : sZ S161 5 = 0 := (s164.z 5 (by decide)).trans hz5
        have z172 : sN S161 5 = 16 := (s164.n 5 (by decide)).trans hn5
        have z173 : sZ S161 2 = 100 := (s164.z 2 (by decide)).trans hz2
        have z174 : sN S161 2 = (sN S1 2) := (s164.n 2 (by decide)).trans rfl
        clear hz1 hn1 hz3 hn3 hz5 hn5 hz2 hM1 hK1 s164 k163 hW1
        refine g_pop hC dX7_clear_76 rfl ?_
        refine g_aload_n hC dX7_clear_77 rfl ?_
        refine g_iload_n hC dX7_clear_78 rfl ?_
        refine g_put hC fl_X7_36 (hW162.o 1 (by decide)) rfl rfl (Nat.le_of_ble_eq_true rfl) dX7_clear_79 ?_
        refine g_vF (fun F175 hF175 => ?_)
        obtain ⟨hW177, k178⟩ := gWT.put (k := 2) (x := words) hW162 (i := 1) (by decide) hF175 rfl gsame_2 (fun q => absurd q (by decide))
        obtain ⟨S176, hS176⟩ : ∃ z, z = uV S161 2 words := ⟨_, rfl⟩
        rw [← hS176] at hW177
        have s179 : gSm S161 S176 [] [2] := by rw [hS176]; exact gSm_uV
        have hM180 : gSm S S176 [1, 2, 3, 4, 5, 6] [2, 3, 4, 5, 6] := hM167.tr s179 _ _ rfl rfl
        have hK181 : gKp Y F F175 := hK168.tr k178
        have z182 : sZ S176 3 = 0 := (s179.z 3 (by decide)).trans z169
        have z183 : sN S176 3 = 16 := (s179.n 3 (by decide)).trans z170
        have z184 : sZ S176 5 = 0 := (s179.z 5 (by decide)).trans z171
        have z185 : sN S176 5 = 16 := (s179.n 5 (by decide)).trans z172
        have z186 : sZ S176 2 = 100 := (s179.z 2 (by decide)).trans z173
        have z187 : sN S176 2 = (sN S1 2) := (s179.n 2 (by decide)).trans z174
        have z188 : sZ S176 1 = (0 + 1 + 1) := (s179.z 1 (by decide)).trans y165
        have z189 : sN S176 1 = 16 := (s179.n 1 (by decide)).trans y166
        have z190 : sV S176 2 = words := by rw [hS176]; exact uV_self
        clear z169 z170 z171 z172 z173 z174 y165 y166 hM167 hK168 s179 k178 hW162
        refine g_aload_n hC dX7_clear_82 rfl ?_
        refine g_iconst (v := (-1)) hC dX7_clear_83 rfl ?_
        refine g_put hC fl_X7_40 (hW177.o 1 (by decide)) rfl rfl (Nat.le_of_ble_eq_true rfl) dX7_clear_84 ?_
        refine g_vF (fun F191 hF191 => ?_)
        obtain ⟨hW193, k194⟩ := gWT.put (k := 3) (x := (-1)) hW177 (i := 1) (by decide) hF191 rfl gsame_3 (fun q => absurd q (by decide))
        obtain ⟨S192, hS192⟩ : ∃ z, z = uV S176 3 (-1) := ⟨_, rfl⟩
        rw [← hS192] at hW193
        have s195 : gSm S176 S192 [] [3] := by rw [hS192]; exact gSm_uV
        have hM196 : gSm S S192 [1, 2, 3, 4, 5, 6] [2, 3, 4, 5, 6] := hM180.tr s195 _ _ rfl rfl
        have hK197 : gKp Y F F191 := hK181.tr k194
        have z198 : sZ S192 3 = 0 := (s195.z 3 (by decide)).trans z182
        have z199 : sN S192 3 = 16 := (s195.n 3 (by decide)).trans z183
        have z200 : sZ S192 5 = 0 := (s195.z 5 (by decide)).trans z184
        have z201 : sN S192 5 = 16 := (s195.n 5 (by decide)).trans z185
        have z202 : sZ S192 2 = 100 := (s195.z 2 (by decide)).trans z186
        have z203 : sN S192 2 = (sN S1 2) := (s195.n 2 (by decide)).trans z187
        have z204 : sZ S192 1 = (0 + 1 + 1) := (s195.z 1 (by decide)).trans z188
        have z205 : sN S192 1 = 16 := (s195.n 1 (by decide)).trans z189
        have z206 : sV S192 2 = words := (s195.v 2 (by decide)).trans z190
        have z207 : sV S192 3 = (-1) := by rw [hS192]; exact uV_self
        clear z182 z183 z184 z185 z186 z187 z188 z189 z190 hM180 hK181 s195 k194 hW177
        refine g_aload_n hC dX7_clear_87 rfl ?_
        refine g_iconst (v := 0) hC dX7_clear_88 rfl ?_
        refine g_put hC fl_X7_43 (hW193.o 1 (by decide)) rfl rfl (Nat.le_of_ble_eq_true rfl) dX7_clear_89 ?_
        refine g_vF (fun F208 hF208 => ?_)
        obtain ⟨hW210, k211⟩ := gWT.put (k := 4) (x := 0) hW193 (i := 1) (by decide) hF208 rfl gsame_4 (fun q => absurd q (by decide))
        obtain ⟨S209, hS209⟩ : ∃ z, z = uV S192 4 0 := ⟨_, rfl⟩
        rw [← hS209] at hW210
        have s212 : gSm S192 S209 [] [4] := by rw [hS209]; exact gSm_uV
        have hM213 : gSm S S209 [1, 2, 3, 4, 5, 6] [2, 3, 4, 5, 6] := hM196.tr s212 _ _ rfl rfl
        have hK214 : gKp Y F F208 := hK197.tr k211
        have z215 : sZ S209 3 = 0 := (s212.z 3 (by decide)).trans z198
        have z216 : sN S209 3 = 16 := (s212.n 3 (by decide)).trans z199
        have z217 : sZ S209 5 = 0 := (s212.z 5 (by decide)).trans z200
        have z218 : sN S209 5 = 16 := (s212.n 5 (by decide)).trans z201
        have z219 : sZ S209 2 = 100 := (s212.z 2 (by decide)).trans z202
        have z220 : sN S209 2 = (sN S1 2) := (s212.n 2 (by decide)).trans z203
        have z221 : sZ S209 1 = (0 + 1 + 1) := (s212.z 1 (by decide)).trans z204
        have z222 : sN S209 1 = 16 := (s212.n 1 (by decide)).trans z205
        have z223 : sV S209 2 = words := (s212.v 2 (by decide)).trans z206
        have z224 : sV S209 3 = (-1) := (s212.v 3 (by decide)).trans z207
        have z225 : sV S209 4 = 0 := by rw [hS209]; exact uV_self
        clear z198 z199 z200 z201 z202 z203 z204 z205 z206 z207 hM196 hK197 s212 k211 hW193
        refine g_aload_n hC dX7_clear_92 rfl ?_
        refine g_iconst (v := 0) hC dX7_clear_93 rfl ?_
        refine g_put hC fl_X7_46 (hW210.o 1 (by decide)) rfl rfl (Nat.le_of_ble_eq_true rfl) dX7_clear_94 ?_
        refine g_vF (fun F226 hF226 => ?_)
        obtain ⟨hW228, k229⟩ := gWT.put (k := 5) (x := 0) hW210 (i := 1) (by decide) hF226 rfl gsame_5 (fun q => absurd q (by decide))
        obtain ⟨S227, hS227⟩ : ∃ z, z = uV S209 5 0 := ⟨_, rfl⟩
        rw [← hS227] at hW228
        have s230 : gSm S209 S227 [] [5] := by rw [hS227]; exact gSm_uV
        have hM231 : gSm S S227 [1, 2, 3, 4, 5, 6] [2, 3, 4, 5, 6] := hM213.tr s230 _ _ rfl rfl
        have hK232 : gKp Y F F226 := hK214.tr k229
        have z233 : sZ S227 3 = 0 := (s230.z 3 (by decide)).trans z215
        have z234 : sN S227 3 = 16 := (s230.n 3 (by decide)).trans z216
        have z235 : sZ S227 5 = 0 := (s230.z 5 (by decide)).trans z217
        have z236 : sN S227 5 = 16 := (s230.n 5 (by decide)).trans z218
        have z237 : sZ S227 2 = 100 := (s230.z 2 (by decide)).trans z219
        have z238 : sN S227 2 = (sN S1 2) := (s230.n 2 (by decide)).trans z220
        have z239 : sZ S227 1 = (0 + 1 + 1) := (s230.z 1 (by decide)).trans z221
        have z240 : sN S227 1 = 16 := (s230.n 1 (by decide)).trans z222
        have z241 : sV S227 2 = words := (s230.v 2 (by decide)).trans z223
        have z242 : sV S227 3 = (-1) := (s230.v 3 (by decide)).trans z224
        have z243 : sV S227 4 = 0 := (s230.v 4 (by decide)).trans z225
        have z244 : sV S227 5 = 0 := by rw [hS227]; exact uV_self
        clear z215 z216 z217 z218 z219 z220 z221 z222 z223 z224 z225 hM213 hK214 s230 k229 hW210
        refine g_aload_n hC dX7_clear_97 rfl ?_
        refine g_iconst (v := 0) hC dX7_clear_98 rfl ?_
        refine g_put hC fl_X7_49 (hW228.o 1 (by decide)) rfl rfl (Nat.le_of_ble_eq_true rfl) dX7_clear_99 ?_
        refine g_vF (fun F245 hF245 => ?_)
        obtain ⟨hW247, k248⟩ := gWT.put (k := 6) (x := 0) hW228 (i := 1) (by decide) hF245 rfl gsame_6 (fun _ => by decide)
        obtain ⟨S246, hS246⟩ : ∃ z, z = uV S227 6 0 := ⟨_, rfl⟩
        rw [← hS246] at hW247
        have s249 : gSm S227 S246 [] [6] := by rw [hS246]; exact gSm_uV
        have hM250 : gSm S S246 [1, 2, 3, 4, 5, 6] [2, 3, 4, 5, 6] := hM231.tr s249 _ _ rfl rfl
        have hK251 : gKp Y F F245 := hK232.tr k248
        have z252 : sZ S246 3 = 0 := (s249.z 3 (by decide)).trans z233
        have z253 : sN S246 3 = 16 := (s249.n 3 (by decide)).trans z234
        have z254 : sZ S246 5 = 0 := (s249.z 5 (by decide)).trans z235
        have z255 : sN S246 5 = 16 := (s249.n 5 (by decide)).trans z236
        have z256 : sZ S246 2 = 100 := (s249.z 2 (by decide)).trans z237
        have z257 : sN S246 2 = (sN S1 2) := (s249.n 2 (by decide)).trans z238
        have z258 : sZ S246 1 = (0 + 1 + 1) := (s249.z 1 (by decide)).trans z239
        have z259 : sN S246 1 = 16 := (s249.n 1 (by decide)).trans z240
        have z260 : sV S246 2 = words := (s249.v 2 (by decide)).trans z241
        have z261 : sV S246 3 = (-1) := (s249.v 3 (by decide)).trans z242
        have z262 : sV S246 4 = 0 := (s249.v 4 (by decide)).trans z243
        have z263 : sV S246 5 = 0 := (s249.v 5 (by decide)).trans z244
        have z264 : sV S246 6 = 0 := by rw [hS246]; exact uV_self
        clear z233 z234 z235 z236 z237 z238 z239 z240 z241 z242 z243 z244 hM231 hK232 s249 k248 hW228
        exact g_vret hC ⟨S246, hW247, hK251, hM250, z256, z252, z254, z261, z262, z263, z264⟩ (by first | exact Nat.le_of_ble_eq_true rfl | omega | (simp only [gR]; omega)) (by first | exact Nat.le_of_ble_eq_true rfl | omega | (simp only [gR]; omega)) dX7_clear_102
      · exact absurd (nI_le (a := 100) (b := i) (by omega) (by omega)) c157
    | succ m ih =>
      intro i F1 S1 hmi hW1 hK1 hM1 hz2 hn2 hz1 hn1 hz3 hn3 hz5 hn5
      refine g_iload_n hC dX7_clear_50 rfl ?_
      refine g_bipush (v := 100) hC dX7_clear_51 rfl ?_
      refine g_icmp_ge (tgt := 70) hC dX7_clear_53 (by decide) (fun c265 => ?_) (fun c265 => ?_)
      · exact absurd ((nI_leI (a := 100) (by omega) (by omega)).mp c265) (by omega)
      · refine g_aload_n hC dX7_clear_56 rfl ?_
        refine g_get hC fl_X7_21 (hW1.o 1 (by decide)) rfl dX7_clear_57 ?_
        refine g_iconst (v := 0) hC dX7_clear_60 rfl ?_
        have hA1 : gAc (sN S1 2) (sZ S1 2) ≤ 1 := by unfold gAc; split <;> omega
        have hA2 : gAs (gmo 2) (sN S1 2) (sZ S1 2) ≤ 256 := by
          unfold gAs; rw [hz2]; split
          · omega
          · exact Nat.le_trans (Nat.min_le_right _ _) (by omega)
        have hA3 : gAn (gmo 2) (sN S1 2) (sZ S1 2) ≤ 256 := by
          unfold gAn; rw [hz2]; split
          · omega
          · exact Nat.le_trans (Nat.min_le_right _ _) (by omega)
        refine g_callVv (As := [.int 0]) hC rfl (hW1.r 2 (by decide)).1 (c_Ints_add X.la d b F1 _ _ _ _ _ _ (hW1.r 2 (by decide)) 0) cl_X7_56 rfl rfl (Nat.le_of_ble_eq_true rfl) (gFit_of (Nat.le_of_ble_eq_true rfl) (Nat.le_of_ble_eq_true rfl) (by first | exact Nat.le_of_ble_eq_true rfl | omega | (simp only [gR]; omega)) (by first | exact Nat.le_of_ble_eq_true rfl | omega | (simp only [gR]; omega))) dX7_clear_61 (fun F269 p270 => ?_)
        refine g_widen (k2 := i + 1) (n2 := 256 * (i + 1)) (by omega) (by omega) ?_
        obtain ⟨S271, hW272, k273, s274, a275, -⟩ := wt_add hW1 (by decide) p270
        have a275 := a275 (by rw [hz2]; show i < 1000000; omega)
        have hM276 : gSm S S271 [1, 2, 3, 4, 5, 6] [2, 3, 4, 5, 6] := hM1.tr s274 _ _ rfl rfl
        have hK277 : gKp Y F F269 := hK1.tr k273
        have z278 : sZ S271 1 = 0 := (s274.z 1 (by decide)).trans hz1
        have z279 : sN S271 1 = 16 := (s274.n 1 (by decide)).trans hn1
        have z280 : sZ S271 3 = 0 := (s274.z 3 (by decide)).trans hz3
        have z281 : sN S271 3 = 16 := (s274.n 3 (by decide)).trans hn3
        have z282 : sZ S271 5 = 0 := (s274.z 5 (by decide)).trans hz5
        have z283 : sN S271 5 = 16 := (s274.n 5 (by decide)).trans hn5
        obtain ⟨x284, ex284⟩ : ∃ y : Int32, y = (nI i) + 1 := ⟨_, rfl⟩
        refine g_iinc (v := x284) (lv' := [some (.ref (gO' Y 1)), some (.int words), some (.int x284)]) hC dX7_clear_64 rfl (by rw [ex284]; rfl) rfl rfl ?_
        have zx284 : x284 = nI (i + 1) := by rw [ex284]; exact nI_1 i
        subst zx284
        refine g_goto (tgt := 50) hC dX7_clear_67 (by decide) ?_
        exact ih (i + 1) _ _ (by omega) hW272 hK277 hM276 (by rw [a275.1, hz2]) (by rw [a275.2.1]; exact hA3) z278 z279 z280 z281 z282 z283
  exact LOOP 100 0 _ _ rfl hW135 hK144 hM143 z147 (by rw [z148]; omega) z145 z146 z149 z150 z153 z154
