theorem kw_1212 : Cond.code yX7_words cX7_words 1 (some .int) ∈ gWs := gWm 1212 (by decide +kernel) rfl
theorem kw_1583 : Cond.methodLink RX7 63 yX7_words ∈ gWs := gWm 1583 (by decide +kernel) rfl
theorem kw_1210 : Cond.instanceMethod yX7_words ∈ gWs := gWm 1210 (by decide +kernel) rfl
theorem kw_1211 : Cond.selects RX7 yX7_words yX7_words ∈ gWs := gWm 1211 (by decide +kernel) rfl
theorem cl_X7_63 : gCV RX7 63 yX7_words cX7_words 1 (some .int) 0 := ⟨g_mk [.methodLink RX7 63 yX7_words, .instanceMethod yX7_words, .selects yX7_words.cls yX7_words yX7_words, .initialized yX7_words.cls] (gWs_all kw_1212) (List.forall_mem_cons.mpr ⟨kw_1583, List.forall_mem_cons.mpr ⟨kw_1210, List.forall_mem_cons.mpr ⟨kw_1211, List.forall_mem_cons.mpr ⟨kw_240, fun _ h => nomatch h⟩⟩⟩⟩), rfl, by decide +kernel, by decide +kernel, by decide +kernel⟩
theorem kw_341 : Cond.fieldLink RX10 15 "WordTongue$Tree" "kinds" "LWordTongue$Ints;" ∈ gWs := gWm 341 (by decide +kernel) rfl
theorem kw_348 : Cond.laysFinal RX10 "WordTongue$Tree" "kinds" "LWordTongue$Ints;" ∈ gWs := gWm 348 (by decide +kernel) rfl
theorem kw_350 : Cond.laysFinal RX10 "WordTongue$Tree" "places" "LWordTongue$Ints;" ∈ gWs := gWm 350 (by decide +kernel) rfl
theorem kw_352 : Cond.laysFinal RX10 "WordTongue$Tree" "datas" "LWordTongue$Ints;" ∈ gWs := gWm 352 (by decide +kernel) rfl
theorem kw_354 : Cond.laysFinal RX10 "WordTongue$Tree" "extras" "LWordTongue$Ints;" ∈ gWs := gWm 354 (by decide +kernel) rfl
theorem kw_356 : Cond.laysFinal RX10 "WordTongue$Tree" "firsts" "LWordTongue$Ints;" ∈ gWs := gWm 356 (by decide +kernel) rfl
theorem kw_358 : Cond.laysFinal RX10 "WordTongue$Tree" "lasts" "LWordTongue$Ints;" ∈ gWs := gWm 358 (by decide +kernel) rfl
theorem kw_360 : Cond.laysFinal RX10 "WordTongue$Tree" "nexts" "LWordTongue$Ints;" ∈ gWs := gWm 360 (by decide +kernel) rfl
set_option maxRecDepth 20000 in
theorem inW_RX10 : ∀ w ∈ u_ws RX10 TX10 7, w ∈ gWs := List.forall_mem_cons.mpr ⟨kw_348, List.forall_mem_cons.mpr ⟨kw_350, List.forall_mem_cons.mpr ⟨kw_352, List.forall_mem_cons.mpr ⟨kw_354, List.forall_mem_cons.mpr ⟨kw_356, List.forall_mem_cons.mpr ⟨kw_358, List.forall_mem_cons.mpr ⟨kw_360, fun _ h => nomatch h⟩⟩⟩⟩⟩⟩⟩
theorem fl_X10_15 : gFL RX10 15 10 0 (.object "WordTongue$Ints") true := ⟨RX10, TX10, 7, tyX10, rfl, by decide, inW_RX10, kw_341, tyX10_ok, nmX10, rfl, by decide +kernel, fun _ => rfl⟩
theorem kw_960 : Cond.methodLink RX10 46 yX4_add ∈ gWs := gWm 960 (by decide +kernel) rfl
theorem cl_X10_46 : gCV RX10 46 yX4_add cX4_add 2 none 1 := ⟨g_mk [.methodLink RX10 46 yX4_add, .instanceMethod yX4_add, .selects yX4_add.cls yX4_add yX4_add, .initialized yX4_add.cls] (gWs_all kw_444) (List.forall_mem_cons.mpr ⟨kw_960, List.forall_mem_cons.mpr ⟨kw_442, List.forall_mem_cons.mpr ⟨kw_443, List.forall_mem_cons.mpr ⟨kw_239, fun _ h => nomatch h⟩⟩⟩⟩), rfl, by decide +kernel, by decide +kernel, by decide +kernel⟩
theorem kw_342 : Cond.fieldLink RX10 21 "WordTongue$Tree" "places" "LWordTongue$Ints;" ∈ gWs := gWm 342 (by decide +kernel) rfl
theorem fl_X10_21 : gFL RX10 21 10 1 (.object "WordTongue$Ints") true := ⟨RX10, TX10, 7, tyX10, rfl, by decide, inW_RX10, kw_342, tyX10_ok, nmX10, rfl, by decide +kernel, fun _ => rfl⟩
theorem kw_343 : Cond.fieldLink RX10 24 "WordTongue$Tree" "datas" "LWordTongue$Ints;" ∈ gWs := gWm 343 (by decide +kernel) rfl
theorem fl_X10_24 : gFL RX10 24 10 2 (.object "WordTongue$Ints") true := ⟨RX10, TX10, 7, tyX10, rfl, by decide, inW_RX10, kw_343, tyX10_ok, nmX10, rfl, by decide +kernel, fun _ => rfl⟩
theorem kw_344 : Cond.fieldLink RX10 27 "WordTongue$Tree" "extras" "LWordTongue$Ints;" ∈ gWs := gWm 344 (by decide +kernel) rfl
theorem fl_X10_27 : gFL RX10 27 10 3 (.object "WordTongue$Ints") true := ⟨RX10, TX10, 7, tyX10, rfl, by decide, inW_RX10, kw_344, tyX10_ok, nmX10, rfl, by decide +kernel, fun _ => rfl⟩
theorem kw_345 : Cond.fieldLink RX10 30 "WordTongue$Tree" "firsts" "LWordTongue$Ints;" ∈ gWs := gWm 345 (by decide +kernel) rfl
theorem fl_X10_30 : gFL RX10 30 10 4 (.object "WordTongue$Ints") true := ⟨RX10, TX10, 7, tyX10, rfl, by decide, inW_RX10, kw_345, tyX10_ok, nmX10, rfl, by decide +kernel, fun _ => rfl⟩
theorem kw_346 : Cond.fieldLink RX10 33 "WordTongue$Tree" "lasts" "LWordTongue$Ints;" ∈ gWs := gWm 346 (by decide +kernel) rfl
theorem fl_X10_33 : gFL RX10 33 10 5 (.object "WordTongue$Ints") true := ⟨RX10, TX10, 7, tyX10, rfl, by decide, inW_RX10, kw_346, tyX10_ok, nmX10, rfl, by decide +kernel, fun _ => rfl⟩
theorem kw_347 : Cond.fieldLink RX10 36 "WordTongue$Tree" "nexts" "LWordTongue$Ints;" ∈ gWs := gWm 347 (by decide +kernel) rfl
theorem fl_X10_36 : gFL RX10 36 10 6 (.object "WordTongue$Ints") true := ⟨RX10, TX10, 7, tyX10, rfl, by decide, inW_RX10, kw_347, tyX10_ok, nmX10, rfl, by decide +kernel, fun _ => rfl⟩
theorem kw_961 : Cond.methodLink RX10 49 yX4_size ∈ gWs := gWm 961 (by decide +kernel) rfl
theorem cl_X10_49 : gCV RX10 49 yX4_size cX4_size 1 (some .int) 0 := ⟨g_mk [.methodLink RX10 49 yX4_size, .instanceMethod yX4_size, .selects yX4_size.cls yX4_size yX4_size, .initialized yX4_size.cls] (gWs_all kw_428) (List.forall_mem_cons.mpr ⟨kw_961, List.forall_mem_cons.mpr ⟨kw_426, List.forall_mem_cons.mpr ⟨kw_427, List.forall_mem_cons.mpr ⟨kw_239, fun _ h => nomatch h⟩⟩⟩⟩), rfl, by decide +kernel, by decide +kernel, by decide +kernel⟩
theorem kw_955 : Cond.methodLink RX10 39 yX4_cut ∈ gWs := gWm 955 (by decide +kernel) rfl
theorem cl_X10_39 : gCV RX10 39 yX4_cut cX4_cut 2 none 1 := ⟨g_mk [.methodLink RX10 39 yX4_cut, .instanceMethod yX4_cut, .selects yX4_cut.cls yX4_cut yX4_cut, .initialized yX4_cut.cls] (gWs_all kw_468) (List.forall_mem_cons.mpr ⟨kw_955, List.forall_mem_cons.mpr ⟨kw_466, List.forall_mem_cons.mpr ⟨kw_467, List.forall_mem_cons.mpr ⟨kw_239, fun _ h => nomatch h⟩⟩⟩⟩), rfl, by decide +kernel, by decide +kernel, by decide +kernel⟩
theorem kw_241 : Cond.initialized RX10 ∈ gWs := gWm 241 (by decide +kernel) rfl
theorem kw_959 : Cond.code yX10_node cX10_node 4 (some .int) ∈ gWs := gWm 959 (by decide +kernel) rfl
theorem kw_956 : Cond.methodLink RX10 42 yX10_node ∈ gWs := gWm 956 (by decide +kernel) rfl
theorem kw_957 : Cond.instanceMethod yX10_node ∈ gWs := gWm 957 (by decide +kernel) rfl
theorem kw_958 : Cond.selects RX10 yX10_node yX10_node ∈ gWs := gWm 958 (by decide +kernel) rfl
theorem cl_X10_42 : gCV RX10 42 yX10_node cX10_node 4 (some .int) 3 := ⟨g_mk [.methodLink RX10 42 yX10_node, .instanceMethod yX10_node, .selects yX10_node.cls yX10_node yX10_node, .initialized yX10_node.cls] (gWs_all kw_959) (List.forall_mem_cons.mpr ⟨kw_956, List.forall_mem_cons.mpr ⟨kw_957, List.forall_mem_cons.mpr ⟨kw_958, List.forall_mem_cons.mpr ⟨kw_241, fun _ h => nomatch h⟩⟩⟩⟩), rfl, by decide +kernel, by decide +kernel, by decide +kernel⟩
theorem kw_472 : Cond.fieldLink RX8 47 "WordTongue$Scanner" "text" "LWordTongue$Ints;" ∈ gWs := gWm 472 (by decide +kernel) rfl
theorem kw_483 : Cond.laysFinal RX8 "WordTongue$Scanner" "text" "LWordTongue$Ints;" ∈ gWs := gWm 483 (by decide +kernel) rfl
theorem kw_485 : Cond.laysFinal RX8 "WordTongue$Scanner" "kinds" "LWordTongue$Ints;" ∈ gWs := gWm 485 (by decide +kernel) rfl
theorem kw_487 : Cond.laysFinal RX8 "WordTongue$Scanner" "infos" "LWordTongue$Ints;" ∈ gWs := gWm 487 (by decide +kernel) rfl
theorem kw_489 : Cond.laysFinal RX8 "WordTongue$Scanner" "places" "LWordTongue$Ints;" ∈ gWs := gWm 489 (by decide +kernel) rfl
theorem kw_491 : Cond.laysFinal RX8 "WordTongue$Scanner" "strings" "LWordTongue$Ints;" ∈ gWs := gWm 491 (by decide +kernel) rfl
theorem kw_493 : Cond.laysFinal RX8 "WordTongue$Scanner" "letters" "LWordTongue$Ints;" ∈ gWs := gWm 493 (by decide +kernel) rfl
theorem kw_495 : Cond.laysFinal RX8 "WordTongue$Scanner" "heads" "LWordTongue$Ints;" ∈ gWs := gWm 495 (by decide +kernel) rfl
theorem kw_497 : Cond.laysFinal RX8 "WordTongue$Scanner" "sums" "LWordTongue$Ints;" ∈ gWs := gWm 497 (by decide +kernel) rfl
theorem kw_499 : Cond.laysFinal RX8 "WordTongue$Scanner" "knownLetters" "I" ∈ gWs := gWm 499 (by decide +kernel) rfl
theorem kw_501 : Cond.lays RX8 "WordTongue$Scanner" "at" "I" ∈ gWs := gWm 501 (by decide +kernel) rfl
theorem kw_503 : Cond.lays RX8 "WordTongue$Scanner" "fresh" "Z" ∈ gWs := gWm 503 (by decide +kernel) rfl
set_option maxRecDepth 20000 in
theorem inW_RX8 : ∀ w ∈ u_ws RX8 TX8 11, w ∈ gWs := List.forall_mem_cons.mpr ⟨kw_483, List.forall_mem_cons.mpr ⟨kw_485, List.forall_mem_cons.mpr ⟨kw_487, List.forall_mem_cons.mpr ⟨kw_489, List.forall_mem_cons.mpr ⟨kw_491, List.forall_mem_cons.mpr ⟨kw_493, List.forall_mem_cons.mpr ⟨kw_495, List.forall_mem_cons.mpr ⟨kw_497, List.forall_mem_cons.mpr ⟨kw_499, List.forall_mem_cons.mpr ⟨kw_501, List.forall_mem_cons.mpr ⟨kw_503, fun _ h => nomatch h⟩⟩⟩⟩⟩⟩⟩⟩⟩⟩⟩
theorem fl_X8_47 : gFL RX8 47 8 0 (.object "WordTongue$Ints") true := ⟨RX8, TX8, 11, tyX8, rfl, by decide, inW_RX8, kw_472, tyX8_ok, nmX8, rfl, by decide +kernel, fun _ => rfl⟩
theorem kw_425 : Cond.methodLink RX8 62 yX4_size ∈ gWs := gWm 425 (by decide +kernel) rfl
theorem cl_X8_62 : gCV RX8 62 yX4_size cX4_size 1 (some .int) 0 := ⟨g_mk [.methodLink RX8 62 yX4_size, .instanceMethod yX4_size, .selects yX4_size.cls yX4_size yX4_size, .initialized yX4_size.cls] (gWs_all kw_428) (List.forall_mem_cons.mpr ⟨kw_425, List.forall_mem_cons.mpr ⟨kw_426, List.forall_mem_cons.mpr ⟨kw_427, List.forall_mem_cons.mpr ⟨kw_239, fun _ h => nomatch h⟩⟩⟩⟩), rfl, by decide +kernel, by decide +kernel, by decide +kernel⟩
theorem kw_481 : Cond.fieldLink RX8 39 "WordTongue$Scanner" "at" "I" ∈ gWs := gWm 481 (by decide +kernel) rfl
theorem fl_X8_39 : gFL RX8 39 8 9 .int false := ⟨RX8, TX8, 11, tyX8, rfl, by decide, inW_RX8, kw_481, tyX8_ok, nmX8, rfl, by decide +kernel, fun h => by cases h⟩
theorem kw_482 : Cond.fieldLink RX8 43 "WordTongue$Scanner" "fresh" "Z" ∈ gWs := gWm 482 (by decide +kernel) rfl
theorem fl_X8_43 : gFL RX8 43 8 10 .boolean false := ⟨RX8, TX8, 11, tyX8, rfl, by decide, inW_RX8, kw_482, tyX8_ok, nmX8, rfl, by decide +kernel, fun h => by cases h⟩
theorem kw_473 : Cond.fieldLink RX8 15 "WordTongue$Scanner" "kinds" "LWordTongue$Ints;" ∈ gWs := gWm 473 (by decide +kernel) rfl
theorem fl_X8_15 : gFL RX8 15 8 1 (.object "WordTongue$Ints") true := ⟨RX8, TX8, 11, tyX8, rfl, by decide, inW_RX8, kw_473, tyX8_ok, nmX8, rfl, by decide +kernel, fun _ => rfl⟩
theorem kw_441 : Cond.methodLink RX8 85 yX4_add ∈ gWs := gWm 441 (by decide +kernel) rfl
theorem cl_X8_85 : gCV RX8 85 yX4_add cX4_add 2 none 1 := ⟨g_mk [.methodLink RX8 85 yX4_add, .instanceMethod yX4_add, .selects yX4_add.cls yX4_add yX4_add, .initialized yX4_add.cls] (gWs_all kw_444) (List.forall_mem_cons.mpr ⟨kw_441, List.forall_mem_cons.mpr ⟨kw_442, List.forall_mem_cons.mpr ⟨kw_443, List.forall_mem_cons.mpr ⟨kw_239, fun _ h => nomatch h⟩⟩⟩⟩), rfl, by decide +kernel, by decide +kernel, by decide +kernel⟩
theorem kw_474 : Cond.fieldLink RX8 21 "WordTongue$Scanner" "infos" "LWordTongue$Ints;" ∈ gWs := gWm 474 (by decide +kernel) rfl
theorem fl_X8_21 : gFL RX8 21 8 2 (.object "WordTongue$Ints") true := ⟨RX8, TX8, 11, tyX8, rfl, by decide, inW_RX8, kw_474, tyX8_ok, nmX8, rfl, by decide +kernel, fun _ => rfl⟩
theorem kw_475 : Cond.fieldLink RX8 24 "WordTongue$Scanner" "places" "LWordTongue$Ints;" ∈ gWs := gWm 475 (by decide +kernel) rfl
theorem fl_X8_24 : gFL RX8 24 8 3 (.object "WordTongue$Ints") true := ⟨RX8, TX8, 11, tyX8, rfl, by decide, inW_RX8, kw_475, tyX8_ok, nmX8, rfl, by decide +kernel, fun _ => rfl⟩
theorem kw_465 : Cond.methodLink RX8 82 yX4_cut ∈ gWs := gWm 465 (by decide +kernel) rfl
theorem cl_X8_82 : gCV RX8 82 yX4_cut cX4_cut 2 none 1 := ⟨g_mk [.methodLink RX8 82 yX4_cut, .instanceMethod yX4_cut, .selects yX4_cut.cls yX4_cut yX4_cut, .initialized yX4_cut.cls] (gWs_all kw_468) (List.forall_mem_cons.mpr ⟨kw_465, List.forall_mem_cons.mpr ⟨kw_466, List.forall_mem_cons.mpr ⟨kw_467, List.forall_mem_cons.mpr ⟨kw_239, fun _ h => nomatch h⟩⟩⟩⟩), rfl, by decide +kernel, by decide +kernel, by decide +kernel⟩
theorem kw_476 : Cond.fieldLink RX8 27 "WordTongue$Scanner" "strings" "LWordTongue$Ints;" ∈ gWs := gWm 476 (by decide +kernel) rfl
theorem fl_X8_27 : gFL RX8 27 8 4 (.object "WordTongue$Ints") true := ⟨RX8, TX8, 11, tyX8, rfl, by decide, inW_RX8, kw_476, tyX8_ok, nmX8, rfl, by decide +kernel, fun _ => rfl⟩
theorem kw_477 : Cond.fieldLink RX8 30 "WordTongue$Scanner" "letters" "LWordTongue$Ints;" ∈ gWs := gWm 477 (by decide +kernel) rfl
theorem fl_X8_30 : gFL RX8 30 8 5 (.object "WordTongue$Ints") true := ⟨RX8, TX8, 11, tyX8, rfl, by decide, inW_RX8, kw_477, tyX8_ok, nmX8, rfl, by decide +kernel, fun _ => rfl⟩
theorem kw_480 : Cond.fieldLink RX8 66 "WordTongue$Scanner" "knownLetters" "I" ∈ gWs := gWm 480 (by decide +kernel) rfl
theorem fl_X8_66 : gFL RX8 66 8 8 .int true := ⟨RX8, TX8, 11, tyX8, rfl, by decide, inW_RX8, kw_480, tyX8_ok, nmX8, rfl, by decide +kernel, fun _ => rfl⟩
theorem kw_478 : Cond.fieldLink RX8 33 "WordTongue$Scanner" "heads" "LWordTongue$Ints;" ∈ gWs := gWm 478 (by decide +kernel) rfl
theorem fl_X8_33 : gFL RX8 33 8 6 (.object "WordTongue$Ints") true := ⟨RX8, TX8, 11, tyX8, rfl, by decide, inW_RX8, kw_478, tyX8_ok, nmX8, rfl, by decide +kernel, fun _ => rfl⟩
theorem kw_479 : Cond.fieldLink RX8 36 "WordTongue$Scanner" "sums" "LWordTongue$Ints;" ∈ gWs := gWm 479 (by decide +kernel) rfl
theorem fl_X8_36 : gFL RX8 36 8 7 (.object "WordTongue$Ints") true := ⟨RX8, TX8, 11, tyX8, rfl, by decide, inW_RX8, kw_479, tyX8_ok, nmX8, rfl, by decide +kernel, fun _ => rfl⟩
theorem kw_370 : Cond.constant RX8 11 1000000 ∈ gWs := gWm 370 (by decide +kernel) rfl
theorem kw_242 : Cond.initialized RX8 ∈ gWs := gWm 242 (by decide +kernel) rfl
theorem kw_867 : Cond.code yX8_pass cX8_pass 3 none ∈ gWs := gWm 867 (by decide +kernel) rfl
theorem kw_864 : Cond.methodLink RX8 96 yX8_pass ∈ gWs := gWm 864 (by decide +kernel) rfl
theorem kw_866 : Cond.instanceMethod yX8_pass ∈ gWs := gWm 866 (by decide +kernel) rfl
theorem kw_4 : Cond.selects RX8 yX8_pass yX8_pass ∈ gWs := gWm 4 (by decide +kernel) rfl
theorem cl_X8_96 : gCV RX8 96 yX8_pass cX8_pass 3 none 0 := ⟨g_mk [.methodLink RX8 96 yX8_pass, .instanceMethod yX8_pass, .selects yX8_pass.cls yX8_pass yX8_pass, .initialized yX8_pass.cls] (gWs_all kw_867) (List.forall_mem_cons.mpr ⟨kw_864, List.forall_mem_cons.mpr ⟨kw_866, List.forall_mem_cons.mpr ⟨kw_4, List.forall_mem_cons.mpr ⟨kw_242, fun _ h => nomatch h⟩⟩⟩⟩), rfl, by decide +kernel, by decide +kernel, by decide +kernel⟩
theorem kw_875 : Cond.code yX8_put cX8_put 4 none ∈ gWs := gWm 875 (by decide +kernel) rfl
theorem kw_872 : Cond.methodLink RX8 99 yX8_put ∈ gWs := gWm 872 (by decide +kernel) rfl
theorem kw_874 : Cond.instanceMethod yX8_put ∈ gWs := gWm 874 (by decide +kernel) rfl
theorem kw_6 : Cond.selects RX8 yX8_put yX8_put ∈ gWs := gWm 6 (by decide +kernel) rfl
theorem cl_X8_99 : gCV RX8 99 yX8_put cX8_put 4 none 3 := ⟨g_mk [.methodLink RX8 99 yX8_put, .instanceMethod yX8_put, .selects yX8_put.cls yX8_put yX8_put, .initialized yX8_put.cls] (gWs_all kw_875) (List.forall_mem_cons.mpr ⟨kw_872, List.forall_mem_cons.mpr ⟨kw_874, List.forall_mem_cons.mpr ⟨kw_6, List.forall_mem_cons.mpr ⟨kw_242, fun _ h => nomatch h⟩⟩⟩⟩), rfl, by decide +kernel, by decide +kernel, by decide +kernel⟩
theorem dX7_blame_0 : decode cX7_blame 0 = .ok (.iload_n 2, 1) := by decide +kernel
theorem dX7_blame_1 : decode cX7_blame 1 = .ok (.aload_n 0, 1) := by decide +kernel
theorem dX7_blame_2 : decode cX7_blame 2 = .ok (.getfield 46, 3) := by decide +kernel
theorem dX7_blame_5 : decode cX7_blame 5 = .ok (.if_icmp .lt 19, 3) := by decide +kernel
theorem dX7_blame_8 : decode cX7_blame 8 = .ok (.iload_n 2, 1) := by decide +kernel
theorem dX7_blame_9 : decode cX7_blame 9 = .ok (.aload_n 0, 1) := by decide +kernel
theorem dX7_blame_10 : decode cX7_blame 10 = .ok (.getfield 46, 3) := by decide +kernel
theorem dX7_blame_13 : decode cX7_blame 13 = .ok (.if_icmp .ne 15, 3) := by decide +kernel
theorem dX7_blame_16 : decode cX7_blame 16 = .ok (.iload_n 1, 1) := by decide +kernel
theorem dX7_blame_17 : decode cX7_blame 17 = .ok (.aload_n 0, 1) := by decide +kernel
theorem dX7_blame_18 : decode cX7_blame 18 = .ok (.getfield 43, 3) := by decide +kernel
theorem dX7_blame_21 : decode cX7_blame 21 = .ok (.if_icmp .ge 7, 3) := by decide +kernel
theorem dX7_blame_24 : decode cX7_blame 24 = .ok (.iconst 1, 1) := by decide +kernel
theorem dX7_blame_25 : decode cX7_blame 25 = .ok (.goto 4, 3) := by decide +kernel
theorem dX7_blame_28 : decode cX7_blame 28 = .ok (.iconst 0, 1) := by decide +kernel
theorem dX7_blame_29 : decode cX7_blame 29 = .ok (.istore_n 3, 1) := by decide +kernel
theorem dX7_blame_30 : decode cX7_blame 30 = .ok (.aload_n 0, 1) := by decide +kernel
theorem dX7_blame_31 : decode cX7_blame 31 = .ok (.getfield 43, 3) := by decide +kernel
theorem dX7_blame_34 : decode cX7_blame 34 = .ok (.ifCond .eq 7, 3) := by decide +kernel
theorem dX7_blame_37 : decode cX7_blame 37 = .ok (.iload_n 3, 1) := by decide +kernel
theorem dX7_blame_38 : decode cX7_blame 38 = .ok (.ifCond .eq 13, 3) := by decide +kernel
theorem dX7_blame_41 : decode cX7_blame 41 = .ok (.aload_n 0, 1) := by decide +kernel
theorem dX7_blame_42 : decode cX7_blame 42 = .ok (.iload_n 1, 1) := by decide +kernel
theorem dX7_blame_43 : decode cX7_blame 43 = .ok (.putfield 43, 3) := by decide +kernel
theorem dX7_blame_46 : decode cX7_blame 46 = .ok (.aload_n 0, 1) := by decide +kernel
theorem dX7_blame_47 : decode cX7_blame 47 = .ok (.iload_n 2, 1) := by decide +kernel
theorem dX7_blame_48 : decode cX7_blame 48 = .ok (.putfield 46, 3) := by decide +kernel
theorem dX7_blame_51 : decode cX7_blame 51 = .ok (.return_, 1) := by decide +kernel
set_option maxHeartbeats 4000000 in
set_option maxRecDepth 100000 in
theorem c_P_blame0 (l : Launch) (d : gD) (b : Nat) (Y : gYt) (F : gM) (S : gSt) (hW : gWT d Y F S) (x y : Int32) (hv4 : sV S 4 = 0) : gMv l d b yX7_blame cX7_blame 4 1 0 0 F [.ref (gO' Y 1), .int x, .int y] (fun F' => ∃ S', gWT d Y F' S' ∧ gKp Y F F' ∧ gSm S S' [] [4, 5] ∧ sV S' 4 = x ∧ sV S' 5 = y) := by
  refine gM_of2 rfl (nL := 4) (Nat.le_of_ble_eq_true rfl) ?_
  intro X hX hC; subst hX
  show gG X d b _ F 0 0 0 [some (.ref (gO' Y 1)), some (.int x), some (.int y), none] []
  have hM0 : gSm S S [] [4, 5] := gSm.rf
  have hK0 : gKp Y F F := gKp.rf
  refine g_iload_n hC dX7_blame_0 rfl ?_
  refine g_aload_n hC dX7_blame_1 rfl ?_
  refine g_get hC fl_X7_46 (hW.o 1 (by decide)) rfl dX7_blame_2 ?_
  refine g_icmp_lt (tgt := 24) hC dX7_blame_5 (by decide) (fun c1 => ?_) (fun c1 => ?_)
  · refine g_iconst (v := 1) hC dX7_blame_24 rfl ?_
    refine g_goto (tgt := 29) hC dX7_blame_25 (by decide) ?_
    refine g_istore_n (lv' := [some (.ref (gO' Y 1)), some (.int x), some (.int y), some (.int 1)]) hC dX7_blame_29 (Nat.le_of_ble_eq_true rfl) rfl rfl ?_
    refine g_aload_n hC dX7_blame_30 rfl ?_
    refine g_get hC fl_X7_43 (hW.o 1 (by decide)) rfl dX7_blame_31 ?_
    refine g_if_eq (tgt := 41) hC dX7_blame_34 (by decide) (fun c2 => ?_) (fun c2 => ?_)
    · refine g_aload_n hC dX7_blame_41 rfl ?_
      refine g_iload_n hC dX7_blame_42 rfl ?_
      refine g_put hC fl_X7_43 (hW.o 1 (by decide)) rfl rfl (Nat.le_of_ble_eq_true rfl) dX7_blame_43 ?_
      refine g_vF (fun F3 hF3 => ?_)
      obtain ⟨hW5, k6⟩ := gWT.put (k := 4) (x := x) hW (i := 1) (by decide) hF3 rfl gsame_4 (fun q => absurd q (by decide))
      obtain ⟨S4, hS4⟩ : ∃ z, z = uV S 4 x := ⟨_, rfl⟩
      rw [← hS4] at hW5
      have s7 : gSm S S4 [] [4] := by rw [hS4]; exact gSm_uV
      have hM8 : gSm S S4 [] [4, 5] := hM0.tr s7 _ _ rfl rfl
      have hK9 : gKp Y F F3 := hK0.tr k6
      have z10 : sV S4 4 = x := by rw [hS4]; exact uV_self
      clear hM0 hK0 s7 k6 hW
      refine g_aload_n hC dX7_blame_46 rfl ?_
      refine g_iload_n hC dX7_blame_47 rfl ?_
      refine g_put hC fl_X7_46 (hW5.o 1 (by decide)) rfl rfl (Nat.le_of_ble_eq_true rfl) dX7_blame_48 ?_
      refine g_vF (fun F11 hF11 => ?_)
      obtain ⟨hW13, k14⟩ := gWT.put (k := 5) (x := y) hW5 (i := 1) (by decide) hF11 rfl gsame_5 (fun q => absurd q (by decide))
      obtain ⟨S12, hS12⟩ : ∃ z, z = uV S4 5 y := ⟨_, rfl⟩
      rw [← hS12] at hW13
      have s15 : gSm S4 S12 [] [5] := by rw [hS12]; exact gSm_uV
      have hM16 : gSm S S12 [] [4, 5] := hM8.tr s15 _ _ rfl rfl
      have hK17 : gKp Y F F11 := hK9.tr k14
      have z18 : sV S12 4 = x := (s15.v 4 (by decide)).trans z10
      have z19 : sV S12 5 = y := by rw [hS12]; exact uV_self
      clear z10 hM8 hK9 s15 k14 hW5
      exact g_vret hC ⟨S12, hW13, hK17, hM16, z18, z19⟩ (by first | exact Nat.le_of_ble_eq_true rfl | omega | (simp only [gR]; omega)) (by first | exact Nat.le_of_ble_eq_true rfl | omega | (simp only [gR]; omega)) dX7_blame_51
    · exact absurd hv4 c2
  · refine g_iload_n hC dX7_blame_8 rfl ?_
    refine g_aload_n hC dX7_blame_9 rfl ?_
    refine g_get hC fl_X7_46 (hW.o 1 (by decide)) rfl dX7_blame_10 ?_
    refine g_icmp_ne (tgt := 28) hC dX7_blame_13 (by decide) (fun c20 => ?_) (fun c20 => ?_)
    · refine g_iconst (v := 0) hC dX7_blame_28 rfl ?_
      refine g_istore_n (lv' := [some (.ref (gO' Y 1)), some (.int x), some (.int y), some (.int 0)]) hC dX7_blame_29 (Nat.le_of_ble_eq_true rfl) rfl rfl ?_
      refine g_aload_n hC dX7_blame_30 rfl ?_
      refine g_get hC fl_X7_43 (hW.o 1 (by decide)) rfl dX7_blame_31 ?_
      refine g_if_eq (tgt := 41) hC dX7_blame_34 (by decide) (fun c21 => ?_) (fun c21 => ?_)
      · refine g_aload_n hC dX7_blame_41 rfl ?_
        refine g_iload_n hC dX7_blame_42 rfl ?_
        refine g_put hC fl_X7_43 (hW.o 1 (by decide)) rfl rfl (Nat.le_of_ble_eq_true rfl) dX7_blame_43 ?_
        refine g_vF (fun F22 hF22 => ?_)
        obtain ⟨hW24, k25⟩ := gWT.put (k := 4) (x := x) hW (i := 1) (by decide) hF22 rfl gsame_4 (fun q => absurd q (by decide))
        obtain ⟨S23, hS23⟩ : ∃ z, z = uV S 4 x := ⟨_, rfl⟩
        rw [← hS23] at hW24
        have s26 : gSm S S23 [] [4] := by rw [hS23]; exact gSm_uV
        have hM27 : gSm S S23 [] [4, 5] := hM0.tr s26 _ _ rfl rfl
        have hK28 : gKp Y F F22 := hK0.tr k25
        have z29 : sV S23 4 = x := by rw [hS23]; exact uV_self
        clear hM0 hK0 s26 k25 hW
        refine g_aload_n hC dX7_blame_46 rfl ?_
        refine g_iload_n hC dX7_blame_47 rfl ?_
        refine g_put hC fl_X7_46 (hW24.o 1 (by decide)) rfl rfl (Nat.le_of_ble_eq_true rfl) dX7_blame_48 ?_
        refine g_vF (fun F30 hF30 => ?_)
        obtain ⟨hW32, k33⟩ := gWT.put (k := 5) (x := y) hW24 (i := 1) (by decide) hF30 rfl gsame_5 (fun q => absurd q (by decide))
        obtain ⟨S31, hS31⟩ : ∃ z, z = uV S23 5 y := ⟨_, rfl⟩
        rw [← hS31] at hW32
        have s34 : gSm S23 S31 [] [5] := by rw [hS31]; exact gSm_uV
        have hM35 : gSm S S31 [] [4, 5] := hM27.tr s34 _ _ rfl rfl
        have hK36 : gKp Y F F30 := hK28.tr k33
        have z37 : sV S31 4 = x := (s34.v 4 (by decide)).trans z29
        have z38 : sV S31 5 = y := by rw [hS31]; exact uV_self
        clear z29 hM27 hK28 s34 k33 hW24
        exact g_vret hC ⟨S31, hW32, hK36, hM35, z37, z38⟩ (by first | exact Nat.le_of_ble_eq_true rfl | omega | (simp only [gR]; omega)) (by first | exact Nat.le_of_ble_eq_true rfl | omega | (simp only [gR]; omega)) dX7_blame_51
      · exact absurd hv4 c21
    · refine g_iload_n hC dX7_blame_16 rfl ?_
      refine g_aload_n hC dX7_blame_17 rfl ?_
      refine g_get hC fl_X7_43 (hW.o 1 (by decide)) rfl dX7_blame_18 ?_
      refine g_icmp_ge (tgt := 28) hC dX7_blame_21 (by decide) (fun c39 => ?_) (fun c39 => ?_)
      · refine g_iconst (v := 0) hC dX7_blame_28 rfl ?_
        refine g_istore_n (lv' := [some (.ref (gO' Y 1)), some (.int x), some (.int y), some (.int 0)]) hC dX7_blame_29 (Nat.le_of_ble_eq_true rfl) rfl rfl ?_
        refine g_aload_n hC dX7_blame_30 rfl ?_
        refine g_get hC fl_X7_43 (hW.o 1 (by decide)) rfl dX7_blame_31 ?_
        refine g_if_eq (tgt := 41) hC dX7_blame_34 (by decide) (fun c40 => ?_) (fun c40 => ?_)
        · refine g_aload_n hC dX7_blame_41 rfl ?_
          refine g_iload_n hC dX7_blame_42 rfl ?_
          refine g_put hC fl_X7_43 (hW.o 1 (by decide)) rfl rfl (Nat.le_of_ble_eq_true rfl) dX7_blame_43 ?_
          refine g_vF (fun F41 hF41 => ?_)
          obtain ⟨hW43, k44⟩ := gWT.put (k := 4) (x := x) hW (i := 1) (by decide) hF41 rfl gsame_4 (fun q => absurd q (by decide))
          obtain ⟨S42, hS42⟩ : ∃ z, z = uV S 4 x := ⟨_, rfl⟩
          rw [← hS42] at hW43
          have s45 : gSm S S42 [] [4] := by rw [hS42]; exact gSm_uV
          have hM46 : gSm S S42 [] [4, 5] := hM0.tr s45 _ _ rfl rfl
          have hK47 : gKp Y F F41 := hK0.tr k44
          have z48 : sV S42 4 = x := by rw [hS42]; exact uV_self
          clear hM0 hK0 s45 k44 hW
          refine g_aload_n hC dX7_blame_46 rfl ?_
          refine g_iload_n hC dX7_blame_47 rfl ?_
          refine g_put hC fl_X7_46 (hW43.o 1 (by decide)) rfl rfl (Nat.le_of_ble_eq_true rfl) dX7_blame_48 ?_
          refine g_vF (fun F49 hF49 => ?_)
          obtain ⟨hW51, k52⟩ := gWT.put (k := 5) (x := y) hW43 (i := 1) (by decide) hF49 rfl gsame_5 (fun q => absurd q (by decide))
          obtain ⟨S50, hS50⟩ : ∃ z, z = uV S42 5 y := ⟨_, rfl⟩
          rw [← hS50] at hW51
          have s53 : gSm S42 S50 [] [5] := by rw [hS50]; exact gSm_uV
          have hM54 : gSm S S50 [] [4, 5] := hM46.tr s53 _ _ rfl rfl
          have hK55 : gKp Y F F49 := hK47.tr k52
          have z56 : sV S50 4 = x := (s53.v 4 (by decide)).trans z48
          have z57 : sV S50 5 = y := by rw [hS50]; exact uV_self
          clear z48 hM46 hK47 s53 k52 hW43
          exact g_vret hC ⟨S50, hW51, hK55, hM54, z56, z57⟩ (by first | exact Nat.le_of_ble_eq_true rfl | omega | (simp only [gR]; omega)) (by first | exact Nat.le_of_ble_eq_true rfl | omega | (simp only [gR]; omega)) dX7_blame_51
        · exact absurd hv4 c40
      · refine g_iconst (v := 1) hC dX7_blame_24 rfl ?_
        refine g_goto (tgt := 29) hC dX7_blame_25 (by decide) ?_
        refine g_istore_n (lv' := [some (.ref (gO' Y 1)), some (.int x), some (.int y), some (.int 1)]) hC dX7_blame_29 (Nat.le_of_ble_eq_true rfl) rfl rfl ?_
        refine g_aload_n hC dX7_blame_30 rfl ?_
        refine g_get hC fl_X7_43 (hW.o 1 (by decide)) rfl dX7_blame_31 ?_
        refine g_if_eq (tgt := 41) hC dX7_blame_34 (by decide) (fun c58 => ?_) (fun c58 => ?_)
        · refine g_aload_n hC dX7_blame_41 rfl ?_
          refine g_iload_n hC dX7_blame_42 rfl ?_
          refine g_put hC fl_X7_43 (hW.o 1 (by decide)) rfl rfl (Nat.le_of_ble_eq_true rfl) dX7_blame_43 ?_
          refine g_vF (fun F59 hF59 => ?_)
          obtain ⟨hW61, k62⟩ := gWT.put (k := 4) (x := x) hW (i := 1) (by decide) hF59 rfl gsame_4 (fun q => absurd q (by decide))
          obtain ⟨S60, hS60⟩ : ∃ z, z = uV S 4 x := ⟨_, rfl⟩
          rw [← hS60] at hW61
          have s63 : gSm S S60 [] [4] := by rw [hS60]; exact gSm_uV
          have hM64 : gSm S S60 [] [4, 5] := hM0.tr s63 _ _ rfl rfl
          have hK65 : gKp Y F F59 := hK0.tr k62
          have z66 : sV S60 4 = x := by rw [hS60]; exact uV_self
          clear hM0 hK0 s63 k62 hW
          refine g_aload_n hC dX7_blame_46 rfl ?_
          refine g_iload_n hC dX7_blame_47 rfl ?_
          refine g_put hC fl_X7_46 (hW61.o 1 (by decide)) rfl rfl (Nat.le_of_ble_eq_true rfl) dX7_blame_48 ?_
          refine g_vF (fun F67 hF67 => ?_)
          obtain ⟨hW69, k70⟩ := gWT.put (k := 5) (x := y) hW61 (i := 1) (by decide) hF67 rfl gsame_5 (fun q => absurd q (by decide))
          obtain ⟨S68, hS68⟩ : ∃ z, z = uV S60 5 y := ⟨_, rfl⟩
          rw [← hS68] at hW69
          have s71 : gSm S60 S68 [] [5] := by rw [hS68]; exact gSm_uV
          have hM72 : gSm S S68 [] [4, 5] := hM64.tr s71 _ _ rfl rfl
          have hK73 : gKp Y F F67 := hK65.tr k70
          have z74 : sV S68 4 = x := (s71.v 4 (by decide)).trans z66
          have z75 : sV S68 5 = y := by rw [hS68]; exact uV_self
          clear z66 hM64 hK65 s71 k70 hW61
          exact g_vret hC ⟨S68, hW69, hK73, hM72, z74, z75⟩ (by first | exact Nat.le_of_ble_eq_true rfl | omega | (simp only [gR]; omega)) (by first | exact Nat.le_of_ble_eq_true rfl | omega | (simp only [gR]; omega)) dX7_blame_51
        · exact absurd hv4 c58
theorem dX7_judge_0 : decode cX7_judge 0 = .ok (.aload_n 0, 1) := by decide +kernel
theorem dX7_judge_1 : decode cX7_judge 1 = .ok (.invokevirtual 63, 3) := by decide +kernel
theorem dX7_judge_4 : decode cX7_judge 4 = .ok (.bipush 100, 2) := by decide +kernel
theorem dX7_judge_6 : decode cX7_judge 6 = .ok (.isub, 1) := by decide +kernel
theorem dX7_judge_7 : decode cX7_judge 7 = .ok (.sipush 1500, 3) := by decide +kernel
theorem dX7_judge_10 : decode cX7_judge 10 = .ok (.if_icmp .gt 16, 3) := by decide +kernel
theorem dX7_judge_13 : decode cX7_judge 13 = .ok (.aload_n 0, 1) := by decide +kernel
theorem dX7_judge_14 : decode cX7_judge 14 = .ok (.getfield 24, 3) := by decide +kernel
theorem dX7_judge_17 : decode cX7_judge 17 = .ok (.invokevirtual 67, 3) := by decide +kernel
theorem dX7_judge_20 : decode cX7_judge 20 = .ok (.sipush 200, 3) := by decide +kernel
theorem dX7_judge_23 : decode cX7_judge 23 = .ok (.if_icmp .le 7, 3) := by decide +kernel
theorem dX7_judge_26 : decode cX7_judge 26 = .ok (.iconst 1, 1) := by decide +kernel
theorem dX7_judge_27 : decode cX7_judge 27 = .ok (.goto 4, 3) := by decide +kernel
theorem dX7_judge_30 : decode cX7_judge 30 = .ok (.iconst 0, 1) := by decide +kernel
theorem dX7_judge_31 : decode cX7_judge 31 = .ok (.istore_n 1, 1) := by decide +kernel
theorem dX7_judge_32 : decode cX7_judge 32 = .ok (.iconst 0, 1) := by decide +kernel
theorem dX7_judge_33 : decode cX7_judge 33 = .ok (.istore_n 2, 1) := by decide +kernel
theorem dX7_judge_34 : decode cX7_judge 34 = .ok (.iload_n 2, 1) := by decide +kernel
theorem dX7_judge_35 : decode cX7_judge 35 = .ok (.aload_n 0, 1) := by decide +kernel
theorem dX7_judge_36 : decode cX7_judge 36 = .ok (.getfield 30, 3) := by decide +kernel
theorem dX7_judge_39 : decode cX7_judge 39 = .ok (.invokevirtual 67, 3) := by decide +kernel
theorem dX7_judge_42 : decode cX7_judge 42 = .ok (.if_icmp .ge 33, 3) := by decide +kernel
theorem dX7_judge_45 : decode cX7_judge 45 = .ok (.iload_n 1, 1) := by decide +kernel
theorem dX7_judge_46 : decode cX7_judge 46 = .ok (.ifCond .ne 17, 3) := by decide +kernel
theorem dX7_judge_49 : decode cX7_judge 49 = .ok (.aload_n 0, 1) := by decide +kernel
theorem dX7_judge_50 : decode cX7_judge 50 = .ok (.getfield 30, 3) := by decide +kernel
theorem dX7_judge_53 : decode cX7_judge 53 = .ok (.iload_n 2, 1) := by decide +kernel
theorem dX7_judge_54 : decode cX7_judge 54 = .ok (.invokevirtual 70, 3) := by decide +kernel
theorem dX7_judge_57 : decode cX7_judge 57 = .ok (.sipush 32000, 3) := by decide +kernel
theorem dX7_judge_60 : decode cX7_judge 60 = .ok (.if_icmp .le 7, 3) := by decide +kernel
theorem dX7_judge_63 : decode cX7_judge 63 = .ok (.iconst 1, 1) := by decide +kernel
theorem dX7_judge_64 : decode cX7_judge 64 = .ok (.goto 4, 3) := by decide +kernel
theorem dX7_judge_67 : decode cX7_judge 67 = .ok (.iconst 0, 1) := by decide +kernel
theorem dX7_judge_68 : decode cX7_judge 68 = .ok (.istore_n 1, 1) := by decide +kernel
theorem dX7_judge_69 : decode cX7_judge 69 = .ok (.iinc 2 1, 3) := by decide +kernel
theorem dX7_judge_72 : decode cX7_judge 72 = .ok (.goto (-38), 3) := by decide +kernel
theorem dX7_judge_75 : decode cX7_judge 75 = .ok (.aload_n 0, 1) := by decide +kernel
theorem dX7_judge_76 : decode cX7_judge 76 = .ok (.getfield 43, 3) := by decide +kernel
theorem dX7_judge_79 : decode cX7_judge 79 = .ok (.ifCond .ne 21, 3) := by decide +kernel
theorem dX7_judge_82 : decode cX7_judge 82 = .ok (.iload_n 1, 1) := by decide +kernel
theorem dX7_judge_83 : decode cX7_judge 83 = .ok (.ifCond .ne 10, 3) := by decide +kernel
theorem dX7_judge_86 : decode cX7_judge 86 = .ok (.aload_n 0, 1) := by decide +kernel
theorem dX7_judge_87 : decode cX7_judge 87 = .ok (.getfield 40, 3) := by decide +kernel
theorem dX7_judge_90 : decode cX7_judge 90 = .ok (.ifCond .ge 10, 3) := by decide +kernel
theorem dX7_judge_93 : decode cX7_judge 93 = .ok (.aload_n 0, 1) := by decide +kernel
theorem dX7_judge_94 : decode cX7_judge 94 = .ok (.bipush 7, 2) := by decide +kernel
theorem dX7_judge_96 : decode cX7_judge 96 = .ok (.iconst 0, 1) := by decide +kernel
theorem dX7_judge_97 : decode cX7_judge 97 = .ok (.invokevirtual 74, 3) := by decide +kernel
theorem dX7_judge_100 : decode cX7_judge 100 = .ok (.aload_n 0, 1) := by decide +kernel
theorem dX7_judge_101 : decode cX7_judge 101 = .ok (.aload_n 0, 1) := by decide +kernel
theorem dX7_judge_102 : decode cX7_judge 102 = .ok (.getfield 43, 3) := by decide +kernel
theorem dX7_judge_105 : decode cX7_judge 105 = .ok (.ifCond .ne 7, 3) := by decide +kernel
theorem dX7_judge_108 : decode cX7_judge 108 = .ok (.iconst 1, 1) := by decide +kernel
theorem dX7_judge_109 : decode cX7_judge 109 = .ok (.goto 4, 3) := by decide +kernel
theorem dX7_judge_112 : decode cX7_judge 112 = .ok (.iconst 0, 1) := by decide +kernel
theorem dX7_judge_113 : decode cX7_judge 113 = .ok (.putfield 49, 3) := by decide +kernel
theorem dX7_judge_116 : decode cX7_judge 116 = .ok (.return_, 1) := by decide +kernel
set_option maxHeartbeats 4000000 in
set_option maxRecDepth 100000 in
theorem c_P_judge1 (l : Launch) (d : gD) (b : Nat) (Y : gYt) (F : gM) (S : gSt) (hW : gWT d Y F S) (hz2 : sZ S 2 = 100) (hz3 : sZ S 3 = 0) (hz5 : sZ S 5 = 0) (hv4 : sV S 4 = 2) : gMv l d b yX7_judge cX7_judge 3 2 0 0 F [.ref (gO' Y 1)] (fun F' => ∃ S', gWT d Y F' S' ∧ gKp Y F F' ∧ gSm S S' [] [6]) := by
  refine gM_of2 rfl (nL := 3) (Nat.le_of_ble_eq_true rfl) ?_
  intro X hX hC; subst hX
  show gG X d b _ F 0 0 0 [some (.ref (gO' Y 1)), none, none] []
  have hM0 : gSm S S [] [6] := gSm.rf
  have hK0 : gKp Y F F := gKp.rf
  refine g_aload_n hC dX7_judge_0 rfl ?_
  refine g_callVi (As := []) hC rfl (hW.o 1 (by decide)) (c_P_words X.la d b Y F S hW ) cl_X7_63 rfl rfl (Nat.le_of_ble_eq_true rfl) (gFit_of (Nat.le_of_ble_eq_true rfl) (Nat.le_of_ble_eq_true rfl) (by first | exact Nat.le_of_ble_eq_true rfl | omega | (simp only [gR]; omega)) (by first | exact Nat.le_of_ble_eq_true rfl | omega | (simp only [gR]; omega))) dX7_judge_1 (fun r3 F1 p2 => ?_)
  obtain ⟨rfl, eF1⟩ := p2; have eF1 := eF1.symm; subst eF1
  refine g_bipush (v := 100) hC dX7_judge_4 rfl ?_
  refine g_isub hC dX7_judge_6 ?_
  refine g_vi (fun x4 ex4 => ?_)
  refine g_sipush (v := 1500) hC dX7_judge_7 rfl ?_
  refine g_icmp_gt (tgt := 26) hC dX7_judge_10 (by decide) (fun c5 => ?_) (fun c5 => ?_)
  · rw [hz2] at ex4
    subst ex4
    exact absurd c5 (by decide)
  · refine g_aload_n hC dX7_judge_13 rfl ?_
    refine g_get hC fl_X7_24 (hW.o 1 (by decide)) rfl dX7_judge_14 ?_
    refine g_callVi (As := []) hC rfl (hW.r 3 (by decide)).1 (c_Ints_size X.la d b F _ _ _ _ _ _ (hW.r 3 (by decide))) cl_X7_67 rfl rfl (Nat.le_of_ble_eq_true rfl) (gFit_of (Nat.le_of_ble_eq_true rfl) (Nat.le_of_ble_eq_true rfl) (by first | exact Nat.le_of_ble_eq_true rfl | omega | (simp only [gR]; omega)) (by first | exact Nat.le_of_ble_eq_true rfl | omega | (simp only [gR]; omega))) dX7_judge_17 (fun r6 F7 p8 => ?_)
    obtain ⟨rfl, eF7⟩ := p8; have eF7 := eF7.symm; subst eF7
    refine g_sipush (v := 200) hC dX7_judge_20 rfl ?_
    refine g_icmp_le (tgt := 30) hC dX7_judge_23 (by decide) (fun c9 => ?_) (fun c9 => ?_)
    · refine g_iconst (v := 0) hC dX7_judge_30 rfl ?_
      refine g_istore_n (lv' := [some (.ref (gO' Y 1)), some (.int 0), none]) hC dX7_judge_31 (Nat.le_of_ble_eq_true rfl) rfl rfl ?_
      refine g_iconst (v := 0) hC dX7_judge_32 rfl ?_
      refine g_istore_n (lv' := [some (.ref (gO' Y 1)), some (.int 0), some (.int 0)]) hC dX7_judge_33 (Nat.le_of_ble_eq_true rfl) rfl rfl ?_
      refine g_iload_n hC dX7_judge_34 rfl ?_
      refine g_aload_n hC dX7_judge_35 rfl ?_
      refine g_get hC fl_X7_30 (hW.o 1 (by decide)) rfl dX7_judge_36 ?_
      refine g_callVi (As := []) hC rfl (hW.r 5 (by decide)).1 (c_Ints_size X.la d b F _ _ _ _ _ _ (hW.r 5 (by decide))) cl_X7_67 rfl rfl (Nat.le_of_ble_eq_true rfl) (gFit_of (Nat.le_of_ble_eq_true rfl) (Nat.le_of_ble_eq_true rfl) (by first | exact Nat.le_of_ble_eq_true rfl | omega | (simp only [gR]; omega)) (by first | exact Nat.le_of_ble_eq_true rfl | omega | (simp only [gR]; omega))) dX7_judge_39 (fun r10 F11 p12 => ?_)
      obtain ⟨rfl, eF11⟩ := p12; have eF11 := eF11.symm; subst eF11
      refine g_icmp_ge (tgt := 75) hC dX7_judge_42 (by decide) (fun c13 => ?_) (fun c13 => ?_)
      · refine g_aload_n hC dX7_judge_75 rfl ?_
        refine g_get hC fl_X7_43 (hW.o 1 (by decide)) rfl dX7_judge_76 ?_
        refine g_if_ne (tgt := 100) hC dX7_judge_79 (by decide) (fun c14 => ?_) (fun c14 => ?_)
        · refine g_aload_n hC dX7_judge_100 rfl ?_
          refine g_aload_n hC dX7_judge_101 rfl ?_
          refine g_get hC fl_X7_43 (hW.o 1 (by decide)) rfl dX7_judge_102 ?_
          refine g_if_ne (tgt := 112) hC dX7_judge_105 (by decide) (fun c15 => ?_) (fun c15 => ?_)
          · refine g_iconst (v := 0) hC dX7_judge_112 rfl ?_
            refine g_put hC fl_X7_49 (hW.o 1 (by decide)) rfl rfl (Nat.le_of_ble_eq_true rfl) dX7_judge_113 ?_
            refine g_vF (fun F16 hF16 => ?_)
            obtain ⟨hW18, k19⟩ := gWT.put (k := 6) (x := 0) hW (i := 1) (by decide) hF16 rfl gsame_6 (fun _ => by decide)
            obtain ⟨S17, hS17⟩ : ∃ z, z = uV S 6 0 := ⟨_, rfl⟩
            rw [← hS17] at hW18
            have s20 : gSm S S17 [] [6] := by rw [hS17]; exact gSm_uV
            have hM21 : gSm S S17 [] [6] := hM0.tr s20 _ _ rfl rfl
            have hK22 : gKp Y F F16 := hK0.tr k19
            have z23 : sV S17 6 = 0 := by rw [hS17]; exact uV_self
            clear hM0 hK0 s20 k19 hW
            exact g_vret hC ⟨S17, hW18, hK22, hM21⟩ (by first | exact Nat.le_of_ble_eq_true rfl | omega | (simp only [gR]; omega)) (by first | exact Nat.le_of_ble_eq_true rfl | omega | (simp only [gR]; omega)) dX7_judge_116
          · rw [hv4] at c15; exact absurd c15 (by decide)
        · rw [hv4] at c14; exact absurd c14 (by decide)
      · rw [hz5] at c13; exact absurd (by decide) c13
    · rw [hz3] at c9; exact absurd c9 (by decide)
theorem dX10_node_0 : decode cX10_node 0 = .ok (.aload_n 0, 1) := by decide +kernel
theorem dX10_node_1 : decode cX10_node 1 = .ok (.getfield 15, 3) := by decide +kernel
theorem dX10_node_4 : decode cX10_node 4 = .ok (.iload_n 1, 1) := by decide +kernel
theorem dX10_node_5 : decode cX10_node 5 = .ok (.invokevirtual 46, 3) := by decide +kernel
theorem dX10_node_8 : decode cX10_node 8 = .ok (.aload_n 0, 1) := by decide +kernel
theorem dX10_node_9 : decode cX10_node 9 = .ok (.getfield 21, 3) := by decide +kernel
theorem dX10_node_12 : decode cX10_node 12 = .ok (.iload_n 2, 1) := by decide +kernel
theorem dX10_node_13 : decode cX10_node 13 = .ok (.invokevirtual 46, 3) := by decide +kernel
theorem dX10_node_16 : decode cX10_node 16 = .ok (.aload_n 0, 1) := by decide +kernel
theorem dX10_node_17 : decode cX10_node 17 = .ok (.getfield 24, 3) := by decide +kernel
theorem dX10_node_20 : decode cX10_node 20 = .ok (.iload_n 3, 1) := by decide +kernel
theorem dX10_node_21 : decode cX10_node 21 = .ok (.invokevirtual 46, 3) := by decide +kernel
theorem dX10_node_24 : decode cX10_node 24 = .ok (.aload_n 0, 1) := by decide +kernel
theorem dX10_node_25 : decode cX10_node 25 = .ok (.getfield 27, 3) := by decide +kernel
theorem dX10_node_28 : decode cX10_node 28 = .ok (.iconst 0, 1) := by decide +kernel
theorem dX10_node_29 : decode cX10_node 29 = .ok (.invokevirtual 46, 3) := by decide +kernel
theorem dX10_node_32 : decode cX10_node 32 = .ok (.aload_n 0, 1) := by decide +kernel
theorem dX10_node_33 : decode cX10_node 33 = .ok (.getfield 30, 3) := by decide +kernel
theorem dX10_node_36 : decode cX10_node 36 = .ok (.iconst 0, 1) := by decide +kernel
theorem dX10_node_37 : decode cX10_node 37 = .ok (.invokevirtual 46, 3) := by decide +kernel
theorem dX10_node_40 : decode cX10_node 40 = .ok (.aload_n 0, 1) := by decide +kernel
theorem dX10_node_41 : decode cX10_node 41 = .ok (.getfield 33, 3) := by decide +kernel
theorem dX10_node_44 : decode cX10_node 44 = .ok (.iconst 0, 1) := by decide +kernel
theorem dX10_node_45 : decode cX10_node 45 = .ok (.invokevirtual 46, 3) := by decide +kernel
theorem dX10_node_48 : decode cX10_node 48 = .ok (.aload_n 0, 1) := by decide +kernel
theorem dX10_node_49 : decode cX10_node 49 = .ok (.getfield 36, 3) := by decide +kernel
theorem dX10_node_52 : decode cX10_node 52 = .ok (.iconst 0, 1) := by decide +kernel
theorem dX10_node_53 : decode cX10_node 53 = .ok (.invokevirtual 46, 3) := by decide +kernel
theorem dX10_node_56 : decode cX10_node 56 = .ok (.aload_n 0, 1) := by decide +kernel
theorem dX10_node_57 : decode cX10_node 57 = .ok (.getfield 15, 3) := by decide +kernel
theorem dX10_node_60 : decode cX10_node 60 = .ok (.invokevirtual 49, 3) := by decide +kernel
theorem dX10_node_63 : decode cX10_node 63 = .ok (.iconst 1, 1) := by decide +kernel
theorem dX10_node_64 : decode cX10_node 64 = .ok (.isub, 1) := by decide +kernel
theorem dX10_node_65 : decode cX10_node 65 = .ok (.ireturn, 1) := by decide +kernel
set_option maxHeartbeats 4000000 in
set_option maxRecDepth 100000 in
theorem c_T_node (l : Launch) (d : gD) (b : Nat) (Y : gYt) (F : gM) (S : gSt) (hW : gWT d Y F S) (x y u : Int32) (z : Nat) (hl : z < 15) (hz7 : sZ S 7 = z) (hn7 : sN S 7 = 16) (hz8 : sZ S 8 = z) (hn8 : sN S 8 = 16) (hz9 : sZ S 9 = z) (hn9 : sN S 9 = 16) (hz10 : sZ S 10 = z) (hn10 : sN S 10 = 16) (hz11 : sZ S 11 = z) (hn11 : sN S 11 = 16) (hz12 : sZ S 12 = z) (hn12 : sN S 12 = 16) (hz13 : sZ S 13 = z) (hn13 : sN S 13 = 16) : gMi l d b yX10_node cX10_node 4 .int 3 0 0 F [.ref (gO' Y 2), .int x, .int y, .int u] (fun r F' => ∃ S', gWT d Y F' S' ∧ gKp Y F F' ∧ gSm S S' [7, 8, 9, 10, 11, 12, 13] [] ∧ sZ S' 7 = z + 1 ∧ sZ S' 8 = z + 1 ∧ sZ S' 9 = z + 1 ∧ sZ S' 10 = z + 1 ∧ sZ S' 11 = z + 1 ∧ sZ S' 12 = z + 1 ∧ sZ S' 13 = z + 1 ∧ sN S' 7 = 16 ∧ sN S' 8 = 16 ∧ sN S' 9 = 16 ∧ sN S' 10 = 16 ∧ sN S' 11 = 16 ∧ sN S' 12 = 16 ∧ sN S' 13 = 16) := by
  refine gM_of2 rfl (nL := 4) (Nat.le_of_ble_eq_true rfl) ?_
  intro X hX hC; subst hX
  show gG X d b _ F 0 0 0 [some (.ref (gO' Y 2)), some (.int x), some (.int y), some (.int u)] []
  have hM0 : gSm S S [7, 8, 9, 10, 11, 12, 13] [] := gSm.rf
  have hK0 : gKp Y F F := gKp.rf
  refine g_aload_n hC dX10_node_0 rfl ?_
  refine g_get hC fl_X10_15 (hW.o 2 (by decide)) rfl dX10_node_1 ?_
  refine g_iload_n hC dX10_node_4 rfl ?_
  have z4 : gAc (sN S 7) (sZ S 7) = 0 := gAc0 (by rw [hz7, hn7]; exact (Nat.lt_succ_of_lt hl))
  have z5 : gAs (gmo 7) (sN S 7) (sZ S 7) = 0 := gAs0 (by rw [hz7, hn7]; exact (Nat.lt_succ_of_lt hl))
  refine g_callVv (As := [.int x]) hC rfl (hW.r 7 (by decide)).1 (c_Ints_add X.la d b F _ _ _ _ _ _ (hW.r 7 (by decide)) x) cl_X10_46 rfl rfl (Nat.le_of_ble_eq_true rfl) (gFit_add (Nat.le_of_ble_eq_true rfl) (Nat.le_of_ble_eq_true rfl) z4 z5 (Nat.le_of_ble_eq_true rfl) (Nat.le_of_ble_eq_true rfl)) dX10_node_5 (fun F2 p3 => ?_)
  refine g_kn (k2 := 0) (n2 := 0) (by rw [z4]) (by rw [z5]) ?_
  obtain ⟨S6, hW7, k8, s9, a10, -⟩ := wt_add hW (by decide) p3
  have a10 := a10 (by rw [hz7]; exact Nat.lt_of_lt_of_le (Nat.lt_of_lt_of_le hl (by decide)) (w_mo 7))
  have hM11 : gSm S S6 [7, 8, 9, 10, 11, 12, 13] [] := hM0.tr s9 _ _ rfl rfl
  have hK12 : gKp Y F F2 := hK0.tr k8
  have z13 : sZ S6 8 = z := (s9.z 8 (by decide)).trans hz8
  have z14 : sN S6 8 = 16 := (s9.n 8 (by decide)).trans hn8
  have z15 : sZ S6 9 = z := (s9.z 9 (by decide)).trans hz9
  have z16 : sN S6 9 = 16 := (s9.n 9 (by decide)).trans hn9
  have z17 : sZ S6 10 = z := (s9.z 10 (by decide)).trans hz10
  have z18 : sN S6 10 = 16 := (s9.n 10 (by decide)).trans hn10
  have z19 : sZ S6 11 = z := (s9.z 11 (by decide)).trans hz11
  have z20 : sN S6 11 = 16 := (s9.n 11 (by decide)).trans hn11
  have z21 : sZ S6 12 = z := (s9.z 12 (by decide)).trans hz12
  have z22 : sN S6 12 = 16 := (s9.n 12 (by decide)).trans hn12
  have z23 : sZ S6 13 = z := (s9.z 13 (by decide)).trans hz13
  have z24 : sN S6 13 = 16 := (s9.n 13 (by decide)).trans hn13
  have z25 : sZ S6 7 = (z + 1) := by rw [a10.1, hz7]
  have z26 : sN S6 7 = 16 := by rw [a10.2.1, gAn0 (by rw [hz7, hn7]; exact (Nat.lt_succ_of_lt hl)), hn7]
  clear hz7 hn7 hz8 hn8 hz9 hn9 hz10 hn10 hz11 hn11 hz12 hn12 hz13 hn13 hM0 hK0 s9 k8 hW a10 z4 z5 p3
  refine g_aload_n hC dX10_node_8 rfl ?_
  refine g_get hC fl_X10_21 (hW7.o 2 (by decide)) rfl dX10_node_9 ?_
  refine g_iload_n hC dX10_node_12 rfl ?_
  have z30 : gAc (sN S6 8) (sZ S6 8) = 0 := gAc0 (by rw [z13, z14]; exact (Nat.lt_succ_of_lt hl))
  have z31 : gAs (gmo 8) (sN S6 8) (sZ S6 8) = 0 := gAs0 (by rw [z13, z14]; exact (Nat.lt_succ_of_lt hl))
  refine g_callVv (As := [.int y]) hC rfl (hW7.r 8 (by decide)).1 (c_Ints_add X.la d b F2 _ _ _ _ _ _ (hW7.r 8 (by decide)) y) cl_X10_46 rfl rfl (Nat.le_of_ble_eq_true rfl) (gFit_add (Nat.le_of_ble_eq_true rfl) (Nat.le_of_ble_eq_true rfl) z30 z31 (Nat.le_of_ble_eq_true rfl) (Nat.le_of_ble_eq_true rfl)) dX10_node_13 (fun F28 p29 => ?_)
  refine g_kn (k2 := 0) (n2 := 0) (by rw [z30]) (by rw [z31]) ?_
  obtain ⟨S32, hW33, k34, s35, a36, -⟩ := wt_add hW7 (by decide) p29
  have a36 := a36 (by rw [z13]; exact Nat.lt_of_lt_of_le (Nat.lt_of_lt_of_le hl (by decide)) (w_mo 8))
  have hM37 : gSm S S32 [7, 8, 9, 10, 11, 12, 13] [] := hM11.tr s35 _ _ rfl rfl
  have hK38 : gKp Y F F28 := hK12.tr k34
  have z39 : sZ S32 9 = z := (s35.z 9 (by decide)).trans z15
  have z40 : sN S32 9 = 16 := (s35.n 9 (by decide)).trans z16
  have z41 : sZ S32 10 = z := (s35.z 10 (by decide)).trans z17
  have z42 : sN S32 10 = 16 := (s35.n 10 (by decide)).trans z18
  have z43 : sZ S32 11 = z := (s35.z 11 (by decide)).trans z19
  have z44 : sN S32 11 = 16 := (s35.n 11 (by decide)).trans z20
  have z45 : sZ S32 12 = z := (s35.z 12 (by decide)).trans z21
  have z46 : sN S32 12 = 16 := (s35.n 12 (by decide)).trans z22
  have z47 : sZ S32 13 = z := (s35.z 13 (by decide)).trans z23
  have z48 : sN S32 13 = 16 := (s35.n 13 (by decide)).trans z24
  have z49 : sZ S32 7 = (z + 1) := (s35.z 7 (by decide)).trans z25
  have z50 : sN S32 7 = 16 := (s35.n 7 (by decide)).trans z26
  have z51 : sZ S32 8 = (z + 1) := by rw [a36.1, z13]
  have z52 : sN S32 8 = 16 := by rw [a36.2.1, gAn0 (by rw [z13, z14]; exact (Nat.lt_succ_of_lt hl)), z14]
  clear z13 z14 z15 z16 z17 z18 z19 z20 z21 z22 z23 z24 z25 z26 hM11 hK12 s35 k34 hW7 a36 z30 z31 p29
  refine g_aload_n hC dX10_node_16 rfl ?_
  refine g_get hC fl_X10_24 (hW33.o 2 (by decide)) rfl dX10_node_17 ?_
  refine g_iload_n hC dX10_node_20 rfl ?_
  have z56 : gAc (sN S32 9) (sZ S32 9) = 0 := gAc0 (by rw [z39, z40]; exact (Nat.lt_succ_of_lt hl))
  have z57 : gAs (gmo 9) (sN S32 9) (sZ S32 9) = 0 := gAs0 (by rw [z39, z40]; exact (Nat.lt_succ_of_lt hl))
  refine g_callVv (As := [.int u]) hC rfl (hW33.r 9 (by decide)).1 (c_Ints_add X.la d b F28 _ _ _ _ _ _ (hW33.r 9 (by decide)) u) cl_X10_46 rfl rfl (Nat.le_of_ble_eq_true rfl) (gFit_add (Nat.le_of_ble_eq_true rfl) (Nat.le_of_ble_eq_true rfl) z56 z57 (Nat.le_of_ble_eq_true rfl) (Nat.le_of_ble_eq_true rfl)) dX10_node_21 (fun F54 p55 => ?_)
  refine g_kn (k2 := 0) (n2 := 0) (by rw [z56]) (by rw [z57]) ?_
  obtain ⟨S58, hW59, k60, s61, a62, -⟩ := wt_add hW33 (by decide) p55
  have a62 := a62 (by rw [z39]; exact Nat.lt_of_lt_of_le (Nat.lt_of_lt_of_le hl (by decide)) (w_mo 9))
  have hM63 : gSm S S58 [7, 8, 9, 10, 11, 12, 13] [] := hM37.tr s61 _ _ rfl rfl
  have hK64 : gKp Y F F54 := hK38.tr k60
  have z65 : sZ S58 10 = z := (s61.z 10 (by decide)).trans z41
  have z66 : sN S58 10 = 16 := (s61.n 10 (by decide)).trans z42
  have z67 : sZ S58 11 = z := (s61.z 11 (by decide)).trans z43
  have z68 : sN S58 11 = 16 := (s61.n 11 (by decide)).trans z44
  have z69 : sZ S58 12 = z := (s61.z 12 (by decide)).trans z45
  have z70 : sN S58 12 = 16 := (s61.n 12 (by decide)).trans z46
  have z71 : sZ S58 13 = z := (s61.z 13 (by decide)).trans z47
  have z72 : sN S58 13 = 16 := (s61.n 13 (by decide)).trans z48
  have z73 : sZ S58 7 = (z + 1) := (s61.z 7 (by decide)).trans z49
  have z74 : sN S58 7 = 16 := (s61.n 7 (by decide)).trans z50
  have z75 : sZ S58 8 = (z + 1) := (s61.z 8 (by decide)).trans z51
  have z76 : sN S58 8 = 16 := (s61.n 8 (by decide)).trans z52
  have z77 : sZ S58 9 = (z + 1) := by rw [a62.1, z39]
  have z78 : sN S58 9 = 16 := by rw [a62.2.1, gAn0 (by rw [z39, z40]; exact (Nat.lt_succ_of_lt hl)), z40]
  clear z39 z40 z41 z42 z43 z44 z45 z46 z47 z48 z49 z50 z51 z52 hM37 hK38 s61 k60 hW33 a62 z56 z57 p55
  refine g_aload_n hC dX10_node_24 rfl ?_
  refine g_get hC fl_X10_27 (hW59.o 2 (by decide)) rfl dX10_node_25 ?_
  refine g_iconst (v := 0) hC dX10_node_28 rfl ?_
  have z82 : gAc (sN S58 10) (sZ S58 10) = 0 := gAc0 (by rw [z65, z66]; exact (Nat.lt_succ_of_lt hl))
  have z83 : gAs (gmo 10) (sN S58 10) (sZ S58 10) = 0 := gAs0 (by rw [z65, z66]; exact (Nat.lt_succ_of_lt hl))
  refine g_callVv (As := [.int 0]) hC rfl (hW59.r 10 (by decide)).1 (c_Ints_add X.la d b F54 _ _ _ _ _ _ (hW59.r 10 (by decide)) 0) cl_X10_46 rfl rfl (Nat.le_of_ble_eq_true rfl) (gFit_add (Nat.le_of_ble_eq_true rfl) (Nat.le_of_ble_eq_true rfl) z82 z83 (Nat.le_of_ble_eq_true rfl) (Nat.le_of_ble_eq_true rfl)) dX10_node_29 (fun F80 p81 => ?_)
  refine g_kn (k2 := 0) (n2 := 0) (by rw [z82]) (by rw [z83]) ?_
  obtain ⟨S84, hW85, k86, s87, a88, -⟩ := wt_add hW59 (by decide) p81
  have a88 := a88 (by rw [z65]; exact Nat.lt_of_lt_of_le (Nat.lt_of_lt_of_le hl (by decide)) (w_mo 10))
  have hM89 : gSm S S84 [7, 8, 9, 10, 11, 12, 13] [] := hM63.tr s87 _ _ rfl rfl
  have hK90 : gKp Y F F80 := hK64.tr k86
  have z91 : sZ S84 11 = z := (s87.z 11 (by decide)).trans z67
  have z92 : sN S84 11 = 16 := (s87.n 11 (by decide)).trans z68
  have z93 : sZ S84 12 = z := (s87.z 12 (by decide)).trans z69
  have z94 : sN S84 12 = 16 := (s87.n 12 (by decide)).trans z70
  have z95 : sZ S84 13 = z := (s87.z 13 (by decide)).trans z71
  have z96 : sN S84 13 = 16 := (s87.n 13 (by decide)).trans z72
  have z97 : sZ S84 7 = (z + 1) := (s87.z 7 (by decide)).trans z73
  have z98 : sN S84 7 = 16 := (s87.n 7 (by decide)).trans z74
  have z99 : sZ S84 8 = (z + 1) := (s87.z 8 (by decide)).trans z75
  have z100 : sN S84 8 = 16 := (s87.n 8 (by decide)).trans z76
  have z101 : sZ S84 9 = (z + 1) := (s87.z 9 (by decide)).trans z77
  have z102 : sN S84 9 = 16 := (s87.n 9 (by decide)).trans z78
  have z103 : sZ S84 10 = (z + 1) := by rw [a88.1, z65]
  have z104 : sN S84 10 = 16 := by rw [a88.2.1, gAn0 (by rw [z65, z66]; exact (Nat.lt_succ_of_lt hl)), z66]
  clear z65 z66 z67 z68 z69 z70 z71 z72 z73 z74 z75 z76 z77 z78 hM63 hK64 s87 k86 hW59 a88 z82 z83 p81
  refine g_aload_n hC dX10_node_32 rfl ?_
  refine g_get hC fl_X10_30 (hW85.o 2 (by decide)) rfl dX10_node_33 ?_
  refine g_iconst (v := 0) hC dX10_node_36 rfl ?_
  have z108 : gAc (sN S84 11) (sZ S84 11) = 0 := gAc0 (by rw [z91, z92]; exact (Nat.lt_succ_of_lt hl))
  have z109 : gAs (gmo 11) (sN S84 11) (sZ S84 11) = 0 := gAs0 (by rw [z91, z92]; exact (Nat.lt_succ_of_lt hl))
  refine g_callVv (As := [.int 0]) hC rfl (hW85.r 11 (by decide)).1 (c_Ints_add X.la d b F80 _ _ _ _ _ _ (hW85.r 11 (by decide)) 0) cl_X10_46 rfl rfl (Nat.le_of_ble_eq_true rfl) (gFit_add (Nat.le_of_ble_eq_true rfl) (Nat.le_of_ble_eq_true rfl) z108 z109 (Nat.le_of_ble_eq_true rfl) (Nat.le_of_ble_eq_true rfl)) dX10_node_37 (fun F106 p107 => ?_)
  refine g_kn (k2 := 0) (n2 := 0) (by rw [z108]) (by rw [z109]) ?_
  obtain ⟨S110, hW111, k112, s113, a114, -⟩ := wt_add hW85 (by decide) p107
  have a114 := a114 (by rw [z91]; exact Nat.lt_of_lt_of_le (Nat.lt_of_lt_of_le hl (by decide)) (w_mo 11))
  have hM115 : gSm S S110 [7, 8, 9, 10, 11, 12, 13] [] := hM89.tr s113 _ _ rfl rfl
  have hK116 : gKp Y F F106 := hK90.tr k112
  have z117 : sZ S110 12 = z := (s113.z 12 (by decide)).trans z93
  have z118 : sN S110 12 = 16 := (s113.n 12 (by decide)).trans z94
  have z119 : sZ S110 13 = z := (s113.z 13 (by decide)).trans z95
  have z120 : sN S110 13 = 16 := (s113.n 13 (by decide)).trans z96
  have z121 : sZ S110 7 = (z + 1) := (s113.z 7 (by decide)).trans z97
  have z122 : sN S110 7 = 16 := (s113.n 7 (by decide)).trans z98
  have z123 : sZ S110 8 = (z + 1) := (s113.z 8 (by decide)).trans z99
  have z124 : sN S110 8 = 16 := (s113.n 8 (by decide)).trans z100
  have z125 : sZ S110 9 = (z + 1) := (s113.z 9 (by decide)).trans z101
  have z126 : sN S110 9 = 16 := (s113.n 9 (by decide)).trans z102
  have z127 : sZ S110 10 = (z + 1) := (s113.z 10 (by decide)).trans z103
  have z128 : sN S110 10 = 16 := (s113.n 10 (by decide)).trans z104
  have z129 : sZ S110 11 = (z + 1) := by rw [a114.1, z91]
  have z130 : sN S110 11 = 16 := by rw [a114.2.1, gAn0 (by rw [z91, z92]; exact (Nat.lt_succ_of_lt hl)), z92]
  clear z91 z92 z93 z94 z95 z96 z97 z98 z99 z100 z101 z102 z103 z104 hM89 hK90 s113 k112 hW85 a114 z108 z109 p107
  refine g_aload_n hC dX10_node_40 rfl ?_
  refine g_get hC fl_X10_33 (hW111.o 2 (by decide)) rfl dX10_node_41 ?_
  refine g_iconst (v := 0) hC dX10_node_44 rfl ?_
  have z134 : gAc (sN S110 12) (sZ S110 12) = 0 := gAc0 (by rw [z117, z118]; exact (Nat.lt_succ_of_lt hl))
  have z135 : gAs (gmo 12) (sN S110 12) (sZ S110 12) = 0 := gAs0 (by rw [z117, z118]; exact (Nat.lt_succ_of_lt hl))
  refine g_callVv (As := [.int 0]) hC rfl (hW111.r 12 (by decide)).1 (c_Ints_add X.la d b F106 _ _ _ _ _ _ (hW111.r 12 (by decide)) 0) cl_X10_46 rfl rfl (Nat.le_of_ble_eq_true rfl) (gFit_add (Nat.le_of_ble_eq_true rfl) (Nat.le_of_ble_eq_true rfl) z134 z135 (Nat.le_of_ble_eq_true rfl) (Nat.le_of_ble_eq_true rfl)) dX10_node_45 (fun F132 p133 => ?_)
  refine g_kn (k2 := 0) (n2 := 0) (by rw [z134]) (by rw [z135]) ?_
  obtain ⟨S136, hW137, k138, s139, a140, -⟩ := wt_add hW111 (by decide) p133
  have a140 := a140 (by rw [z117]; exact Nat.lt_of_lt_of_le (Nat.lt_of_lt_of_le hl (by decide)) (w_mo 12))
  have hM141 : gSm S S136 [7, 8, 9, 10, 11, 12, 13] [] := hM115.tr s139 _ _ rfl rfl
  have hK142 : gKp Y F F132 := hK116.tr k138
  have z143 : sZ S136 13 = z := (s139.z 13 (by decide)).trans z119
  have z144 : sN S136 13 = 16 := (s139.n 13 (by decide)).trans z120
  have z145 : sZ S136 7 = (z + 1) := (s139.z 7 (by decide)).trans z121
  have z146 : sN S136 7 = 16 := (s139.n 7 (by decide)).trans z122
  have z147 : sZ S136 8 = (z + 1) := (s139.z 8 (by decide)).trans z123
  have z148 : sN S136 8 = 16 := (s139.n 8 (by decide)).trans z124
  have z149 : sZ S136 9 = (z + 1) := (s139.z 9 (by decide)).trans z125
  have z150 : sN S136 9 = 16 := (s139.n 9 (by decide)).trans z126
  have z151 : sZ S136 10 = (z + 1) := (s139.z 10 (by decide)).trans z127
  have z152 : sN S136 10 = 16 := (s139.n 10 (by decide)).trans z128
  have z153 : sZ S136 11 = (z + 1) := (s139.z 11 (by decide)).trans z129
  have z154 : sN S136 11 = 16 := (s139.n 11 (by decide)).trans z130
  have z155 : sZ S136 12 = (z + 1) := by rw [a140.1, z117]
  have z156 : sN S136 12 = 16 := by rw [a140.2.1, gAn0 (by rw [z117, z118]; exact (Nat.lt_succ_of_lt hl)), z118]
  clear z117 z118 z119 z120 z121 z122 z123 z124 z125 z126 z127 z128 z129 z130 hM115 hK116 s139 k138 hW111 a140 z134 z135 p133
  refine g_aload_n hC dX10_node_48 rfl ?_
  refine g_get hC fl_X10_36 (hW137.o 2 (by decide)) rfl dX10_node_49 ?_
  refine g_iconst (v := 0) hC dX10_node_52 rfl ?_
  have z160 : gAc (sN S136 13) (sZ S136 13) = 0 := gAc0 (by rw [z143, z144]; exact (Nat.lt_succ_of_lt hl))
  have z161 : gAs (gmo 13) (sN S136 13) (sZ S136 13) = 0 := gAs0 (by rw [z143, z144]; exact (Nat.lt_succ_of_lt hl))
  refine g_callVv (As := [.int 0]) hC rfl (hW137.r 13 (by decide)).1 (c_Ints_add X.la d b F132 _ _ _ _ _ _ (hW137.r 13 (by decide)) 0) cl_X10_46 rfl rfl (Nat.le_of_ble_eq_true rfl) (gFit_add (Nat.le_of_ble_eq_true rfl) (Nat.le_of_ble_eq_true rfl) z160 z161 (Nat.le_of_ble_eq_true rfl) (Nat.le_of_ble_eq_true rfl)) dX10_node_53 (fun F158 p159 => ?_)
  refine g_kn (k2 := 0) (n2 := 0) (by rw [z160]) (by rw [z161]) ?_
  obtain ⟨S162, hW163, k164, s165, a166, -⟩ := wt_add hW137 (by decide) p159
  have a166 := a166 (by rw [z143]; exact Nat.lt_of_lt_of_le (Nat.lt_of_lt_of_le hl (by decide)) (w_mo 13))
  have hM167 : gSm S S162 [7, 8, 9, 10, 11, 12, 13] [] := hM141.tr s165 _ _ rfl rfl
  have hK168 : gKp Y F F158 := hK142.tr k164
  have z169 : sZ S162 7 = (z + 1) := (s165.z 7 (by decide)).trans z145
  have z170 : sN S162 7 = 16 := (s165.n 7 (by decide)).trans z146
  have z171 : sZ S162 8 = (z + 1) := (s165.z 8 (by decide)).trans z147
  have z172 : sN S162 8 = 16 := (s165.n 8 (by decide)).trans z148
  have z173 : sZ S162 9 = (z + 1) := (s165.z 9 (by decide)).trans z149
  have z174 : sN S162 9 = 16 := (s165.n 9 (by decide)).trans z150
  have z175 : sZ S162 10 = (z + 1) := (s165.z 10 (by decide)).trans z151
  have z176 : sN S162 10 = 16 := (s165.n 10 (by decide)).trans z152
  have z177 : sZ S162 11 = (z + 1) := (s165.z 11 (by decide)).trans z153
  have z178 : sN S162 11 = 16 := (s165.n 11 (by decide)).trans z154
  have z179 : sZ S162 12 = (z + 1) := (s165.z 12 (by decide)).trans z155
  have z180 : sN S162 12 = 16 := (s165.n 12 (by decide)).trans z156
  have z181 : sZ S162 13 = (z + 1) := by rw [a166.1, z143]
  have z182 : sN S162 13 = 16 := by rw [a166.2.1, gAn0 (by rw [z143, z144]; exact (Nat.lt_succ_of_lt hl)), z144]
  clear z143 z144 z145 z146 z147 z148 z149 z150 z151 z152 z153 z154 z155 z156 hM141 hK142 s165 k164 hW137 a166 z160 z161 p159
  refine g_aload_n hC dX10_node_56 rfl ?_
  refine g_get hC fl_X10_15 (hW163.o 2 (by decide)) rfl dX10_node_57 ?_
  refine g_callVi (As := []) hC rfl (hW163.r 7 (by decide)).1 (c_Ints_size X.la d b F158 _ _ _ _ _ _ (hW163.r 7 (by decide))) cl_X10_49 rfl rfl (Nat.le_of_ble_eq_true rfl) (gFit_of (Nat.le_of_ble_eq_true rfl) (Nat.le_of_ble_eq_true rfl) (by first | exact Nat.le_of_ble_eq_true rfl | omega | (simp only [gR]; omega)) (by first | exact Nat.le_of_ble_eq_true rfl | omega | (simp only [gR]; omega))) dX10_node_60 (fun r183 F184 p185 => ?_)
  obtain ⟨rfl, eF184⟩ := p185; have eF184 := eF184.symm; subst eF184
  refine g_iconst (v := 1) hC dX10_node_63 rfl ?_
  refine g_isub hC dX10_node_64 ?_
  refine g_vi (fun x186 ex186 => ?_)
  exact g_iret hC rfl ⟨S162, hW163, hK168, hM167, z169, z171, z173, z175, z177, z179, z181, z170, z172, z174, z176, z178, z180, z182⟩ (by first | exact Nat.le_of_ble_eq_true rfl | omega | (simp only [gR]; omega)) (by first | exact Nat.le_of_ble_eq_true rfl | omega | (simp only [gR]; omega)) dX10_node_65
theorem dX10_clear_0 : decode cX10_clear 0 = .ok (.aload_n 0, 1) := by decide +kernel
theorem dX10_clear_1 : decode cX10_clear 1 = .ok (.getfield 15, 3) := by decide +kernel
theorem dX10_clear_4 : decode cX10_clear 4 = .ok (.iconst 0, 1) := by decide +kernel
theorem dX10_clear_5 : decode cX10_clear 5 = .ok (.invokevirtual 39, 3) := by decide +kernel
theorem dX10_clear_8 : decode cX10_clear 8 = .ok (.aload_n 0, 1) := by decide +kernel
theorem dX10_clear_9 : decode cX10_clear 9 = .ok (.getfield 21, 3) := by decide +kernel
theorem dX10_clear_12 : decode cX10_clear 12 = .ok (.iconst 0, 1) := by decide +kernel
theorem dX10_clear_13 : decode cX10_clear 13 = .ok (.invokevirtual 39, 3) := by decide +kernel
theorem dX10_clear_16 : decode cX10_clear 16 = .ok (.aload_n 0, 1) := by decide +kernel
theorem dX10_clear_17 : decode cX10_clear 17 = .ok (.getfield 24, 3) := by decide +kernel
theorem dX10_clear_20 : decode cX10_clear 20 = .ok (.iconst 0, 1) := by decide +kernel
theorem dX10_clear_21 : decode cX10_clear 21 = .ok (.invokevirtual 39, 3) := by decide +kernel
theorem dX10_clear_24 : decode cX10_clear 24 = .ok (.aload_n 0, 1) := by decide +kernel
theorem dX10_clear_25 : decode cX10_clear 25 = .ok (.getfield 27, 3) := by decide +kernel
theorem dX10_clear_28 : decode cX10_clear 28 = .ok (.iconst 0, 1) := by decide +kernel
theorem dX10_clear_29 : decode cX10_clear 29 = .ok (.invokevirtual 39, 3) := by decide +kernel
theorem dX10_clear_32 : decode cX10_clear 32 = .ok (.aload_n 0, 1) := by decide +kernel
theorem dX10_clear_33 : decode cX10_clear 33 = .ok (.getfield 30, 3) := by decide +kernel
theorem dX10_clear_36 : decode cX10_clear 36 = .ok (.iconst 0, 1) := by decide +kernel
theorem dX10_clear_37 : decode cX10_clear 37 = .ok (.invokevirtual 39, 3) := by decide +kernel
theorem dX10_clear_40 : decode cX10_clear 40 = .ok (.aload_n 0, 1) := by decide +kernel
theorem dX10_clear_41 : decode cX10_clear 41 = .ok (.getfield 33, 3) := by decide +kernel
theorem dX10_clear_44 : decode cX10_clear 44 = .ok (.iconst 0, 1) := by decide +kernel
theorem dX10_clear_45 : decode cX10_clear 45 = .ok (.invokevirtual 39, 3) := by decide +kernel
theorem dX10_clear_48 : decode cX10_clear 48 = .ok (.aload_n 0, 1) := by decide +kernel
theorem dX10_clear_49 : decode cX10_clear 49 = .ok (.getfield 36, 3) := by decide +kernel
theorem dX10_clear_52 : decode cX10_clear 52 = .ok (.iconst 0, 1) := by decide +kernel
theorem dX10_clear_53 : decode cX10_clear 53 = .ok (.invokevirtual 39, 3) := by decide +kernel
theorem dX10_clear_56 : decode cX10_clear 56 = .ok (.aload_n 0, 1) := by decide +kernel
theorem dX10_clear_57 : decode cX10_clear 57 = .ok (.iconst 0, 1) := by decide +kernel
theorem dX10_clear_58 : decode cX10_clear 58 = .ok (.iconst 0, 1) := by decide +kernel
theorem dX10_clear_59 : decode cX10_clear 59 = .ok (.iconst 0, 1) := by decide +kernel
theorem dX10_clear_60 : decode cX10_clear 60 = .ok (.invokevirtual 42, 3) := by decide +kernel
theorem dX10_clear_63 : decode cX10_clear 63 = .ok (.pop, 1) := by decide +kernel
theorem dX10_clear_64 : decode cX10_clear 64 = .ok (.return_, 1) := by decide +kernel
set_option maxHeartbeats 4000000 in
set_option maxRecDepth 100000 in
theorem c_T_clear (l : Launch) (d : gD) (b : Nat) (Y : gYt) (F : gM) (S : gSt) (hW : gWT d Y F S) (hz7 : sZ S 7 = 0) (hn7 : sN S 7 = 16) (hz8 : sZ S 8 = 0) (hn8 : sN S 8 = 16) (hz9 : sZ S 9 = 0) (hn9 : sN S 9 = 16) (hz10 : sZ S 10 = 0) (hn10 : sN S 10 = 16) (hz11 : sZ S 11 = 0) (hn11 : sN S 11 = 16) (hz12 : sZ S 12 = 0) (hn12 : sN S 12 = 16) (hz13 : sZ S 13 = 0) (hn13 : sN S 13 = 16) : gMv l d b yX10_clear cX10_clear 1 4 0 0 F [.ref (gO' Y 2)] (fun F' => ∃ S', gWT d Y F' S' ∧ gKp Y F F' ∧ gSm S S' [7, 8, 9, 10, 11, 12, 13] [] ∧ sZ S' 7 = 1 ∧ sZ S' 8 = 1 ∧ sZ S' 9 = 1 ∧ sZ S' 10 = 1 ∧ sZ S' 11 = 1 ∧ sZ S' 12 = 1 ∧ sZ S' 13 = 1 ∧ sN S' 7 = 16 ∧ sN S' 8 = 16 ∧ sN S' 9 = 16 ∧ sN S' 10 = 16 ∧ sN S' 11 = 16 ∧ sN S' 12 = 16 ∧ sN S' 13 = 16) := by
  refine gM_of2 rfl (nL := 1) (Nat.le_of_ble_eq_true rfl) ?_
  intro X hX hC; subst hX
  show gG X d b _ F 0 0 0 [some (.ref (gO' Y 2))] []
  have hM0 : gSm S S [7, 8, 9, 10, 11, 12, 13] [] := gSm.rf
  have hK0 : gKp Y F F := gKp.rf
  refine g_aload_n hC dX10_clear_0 rfl ?_
  refine g_get hC fl_X10_15 (hW.o 2 (by decide)) rfl dX10_clear_1 ?_
  refine g_iconst (v := 0) hC dX10_clear_4 rfl ?_
  refine g_callVv (As := [.int 0]) hC rfl (hW.r 7 (by decide)).1 (c_Ints_cut X.la d b F _ _ _ _ _ _ (hW.r 7 (by decide)) 0) cl_X10_39 rfl rfl (Nat.le_of_ble_eq_true rfl) (gFit_of (Nat.le_of_ble_eq_true rfl) (Nat.le_of_ble_eq_true rfl) (by first | exact Nat.le_of_ble_eq_true rfl | omega | (simp only [gR]; omega)) (by first | exact Nat.le_of_ble_eq_true rfl | omega | (simp only [gR]; omega))) dX10_clear_5 (fun F2 p3 => ?_)
  obtain ⟨S4, hW5, k6, s7, u8, u9, u10, u11, u12⟩ := wt_cut hW (by decide) p3
  have hM13 : gSm S S4 [7, 8, 9, 10, 11, 12, 13] [] := hM0.tr s7 _ _ rfl rfl
  have hK14 : gKp Y F F2 := hK0.tr k6
  have z15 : sZ S4 8 = 0 := (s7.z 8 (by decide)).trans hz8
  have z16 : sN S4 8 = 16 := (s7.n 8 (by decide)).trans hn8
  have z17 : sZ S4 9 = 0 := (s7.z 9 (by decide)).trans hz9
  have z18 : sN S4 9 = 16 := (s7.n 9 (by decide)).trans hn9
  have z19 : sZ S4 10 = 0 := (s7.z 10 (by decide)).trans hz10
  have z20 : sN S4 10 = 16 := (s7.n 10 (by decide)).trans hn10
  have z21 : sZ S4 11 = 0 := (s7.z 11 (by decide)).trans hz11
  have z22 : sN S4 11 = 16 := (s7.n 11 (by decide)).trans hn11
  have z23 : sZ S4 12 = 0 := (s7.z 12 (by decide)).trans hz12
  have z24 : sN S4 12 = 16 := (s7.n 12 (by decide)).trans hn12
  have z25 : sZ S4 13 = 0 := (s7.z 13 (by decide)).trans hz13
  have z26 : sN S4 13 = 16 := (s7.n 13 (by decide)).trans hn13
  have z27 : sZ S4 7 = 0 := Nat.le_zero.mp (Nat.le_trans u12 (Nat.le_of_eq hz7))
  have z28 : sN S4 7 = 16 := u8.trans hn7
  clear hz7 hn7 hz8 hn8 hz9 hn9 hz10 hn10 hz11 hn11 hz12 hn12 hz13 hn13 hM0 hK0 s7 k6 hW p3 u8 u9 u10 u11 u12
  refine g_aload_n hC dX10_clear_8 rfl ?_
  refine g_get hC fl_X10_21 (hW5.o 2 (by decide)) rfl dX10_clear_9 ?_
  refine g_iconst (v := 0) hC dX10_clear_12 rfl ?_
  refine g_callVv (As := [.int 0]) hC rfl (hW5.r 8 (by decide)).1 (c_Ints_cut X.la d b F2 _ _ _ _ _ _ (hW5.r 8 (by decide)) 0) cl_X10_39 rfl rfl (Nat.le_of_ble_eq_true rfl) (gFit_of (Nat.le_of_ble_eq_true rfl) (Nat.le_of_ble_eq_true rfl) (by first | exact Nat.le_of_ble_eq_true rfl | omega | (simp only [gR]; omega)) (by first | exact Nat.le_of_ble_eq_true rfl | omega | (simp only [gR]; omega))) dX10_clear_13 (fun F30 p31 => ?_)
  obtain ⟨S32, hW33, k34, s35, u36, u37, u38, u39, u40⟩ := wt_cut hW5 (by decide) p31
  have hM41 : gSm S S32 [7, 8, 9, 10, 11, 12, 13] [] := hM13.tr s35 _ _ rfl rfl
  have hK42 : gKp Y F F30 := hK14.tr k34
  have z43 : sZ S32 9 = 0 := (s35.z 9 (by decide)).trans z17
  have z44 : sN S32 9 = 16 := (s35.n 9 (by decide)).trans z18
  have z45 : sZ S32 10 = 0 := (s35.z 10 (by decide)).trans z19
  have z46 : sN S32 10 = 16 := (s35.n 10 (by decide)).trans z20
  have z47 : sZ S32 11 = 0 := (s35.z 11 (by decide)).trans z21
  have z48 : sN S32 11 = 16 := (s35.n 11 (by decide)).trans z22
  have z49 : sZ S32 12 = 0 := (s35.z 12 (by decide)).trans z23
  have z50 : sN S32 12 = 16 := (s35.n 12 (by decide)).trans z24
  have z51 : sZ S32 13 = 0 := (s35.z 13 (by decide)).trans z25
  have z52 : sN S32 13 = 16 := (s35.n 13 (by decide)).trans z26
  have z53 : sZ S32 7 = 0 := (s35.z 7 (by decide)).trans z27
  have z54 : sN S32 7 = 16 := (s35.n 7 (by decide)).trans z28
  have z55 : sZ S32 8 = 0 := Nat.le_zero.mp (Nat.le_trans u40 (Nat.le_of_eq z15))
  have z56 : sN S32 8 = 16 := u36.trans z16
  clear z15 z16 z17 z18 z19 z20 z21 z22 z23 z24 z25 z26 z27 z28 hM13 hK14 s35 k34 hW5 p31 u36 u37 u38 u39 u40
  refine g_aload_n hC dX10_clear_16 rfl ?_
  refine g_get hC fl_X10_24 (hW33.o 2 (by decide)) rfl dX10_clear_17 ?_
  refine g_iconst (v := 0) hC dX10_clear_20 rfl ?_
  refine g_callVv (As := [.int 0]) hC rfl (hW33.r 9 (by decide)).1 (c_Ints_cut X.la d b F30 _ _ _ _ _ _ (hW33.r 9 (by decide)) 0) cl_X10_39 rfl rfl (Nat.le_of_ble_eq_true rfl) (gFit_of (Nat.le_of_ble_eq_true rfl) (Nat.le_of_ble_eq_true rfl) (by first | exact Nat.le_of_ble_eq_true rfl | omega | (simp only [gR]; omega)) (by first | exact Nat.le_of_ble_eq_true rfl | omega | (simp only [gR]; omega))) dX10_clear_21 (fun F58 p59 => ?_)
  obtain ⟨S60, hW61, k62, s63, u64, u65, u66, u67, u68⟩ := wt_cut hW33 (by decide) p59
  have hM69 : gSm S S60 [7, 8, 9, 10, 11, 12, 13] [] := hM41.tr s63 _ _ rfl rfl
  have hK70 : gKp Y F F58 := hK42.tr k62
  have z71 : sZ S60 10 = 0 := (s63.z 10 (by decide)).trans z45
  have z72 : sN S60 10 = 16 := (s63.n 10 (by decide)).trans z46
  have z73 : sZ S60 11 = 0 := (s63.z 11 (by decide)).trans z47
  have z74 : sN S60 11 = 16 := (s63.n 11 (by decide)).trans z48
  have z75 : sZ S60 12 = 0 := (s63.z 12 (by decide)).trans z49
  have z76 : sN S60 12 = 16 := (s63.n 12 (by decide)).trans z50
  have z77 : sZ S60 13 = 0 := (s63.z 13 (by decide)).trans z51
  have z78 : sN S60 13 = 16 := (s63.n 13 (by decide)).trans z52
  have z79 : sZ S60 7 = 0 := (s63.z 7 (by decide)).trans z53
  have z80 : sN S60 7 = 16 := (s63.n 7 (by decide)).trans z54
  have z81 : sZ S60 8 = 0 := (s63.z 8 (by decide)).trans z55
  have z82 : sN S60 8 = 16 := (s63.n 8 (by decide)).trans z56
  have z83 : sZ S60 9 = 0 := Nat.le_zero.mp (Nat.le_trans u68 (Nat.le_of_eq z43))
  have z84 : sN S60 9 = 16 := u64.trans z44
  clear z43 z44 z45 z46 z47 z48 z49 z50 z51 z52 z53 z54 z55 z56 hM41 hK42 s63 k62 hW33 p59 u64 u65 u66 u67 u68
  refine g_aload_n hC dX10_clear_24 rfl ?_
  refine g_get hC fl_X10_27 (hW61.o 2 (by decide)) rfl dX10_clear_25 ?_
  refine g_iconst (v := 0) hC dX10_clear_28 rfl ?_
  refine g_callVv (As := [.int 0]) hC rfl (hW61.r 10 (by decide)).1 (c_Ints_cut X.la d b F58 _ _ _ _ _ _ (hW61.r 10 (by decide)) 0) cl_X10_39 rfl rfl (Nat.le_of_ble_eq_true rfl) (gFit_of (Nat.le_of_ble_eq_true rfl) (Nat.le_of_ble_eq_true rfl) (by first | exact Nat.le_of_ble_eq_true rfl | omega | (simp only [gR]; omega)) (by first | exact Nat.le_of_ble_eq_true rfl | omega | (simp only [gR]; omega))) dX10_clear_29 (fun F86 p87 => ?_)
  obtain ⟨S88, hW89, k90, s91, u92, u93, u94, u95, u96⟩ := wt_cut hW61 (by decide) p87
  have hM97 : gSm S S88 [7, 8, 9, 10, 11, 12, 13] [] := hM69.tr s91 _ _ rfl rfl
  have hK98 : gKp Y F F86 := hK70.tr k90
  have z99 : sZ S88 11 = 0 := (s91.z 11 (by decide)).trans z73
  have z100 : sN S88 11 = 16 := (s91.n 11 (by decide)).trans z74
  have z101 : sZ S88 12 = 0 := (s91.z 12 (by decide)).trans z75
  have z102 : sN S88 12 = 16 := (s91.n 12 (by decide)).trans z76
  have z103 : sZ S88 13 = 0 := (s91.z 13 (by decide)).trans z77
  have z104 : sN S88 13 = 16 := (s91.n 13 (by decide)).trans z78
  have z105 : sZ S88 7 = 0 := (s91.z 7 (by decide)).trans z79
  have z106 : sN S88 7 = 16 := (s91.n 7 (by decide)).trans z80
  have z107 : sZ S88 8 = 0 := (s91.z 8 (by decide)).trans z81
  have z108 : sN S88 8 = 16 := (s91.n 8 (by decide)).trans z82
  have z109 : sZ S88 9 = 0 := (s91.z 9 (by decide)).trans z83
  have z110 : sN S88 9 = 16 := (s91.n 9 (by decide)).trans z84
  have z111 : sZ S88 10 = 0 := Nat.le_zero.mp (Nat.le_trans u96 (Nat.le_of_eq z71))
  have z112 : sN S88 10 = 16 := u92.trans z72
  clear z71 z72 z73 z74 z75 z76 z77 z78 z79 z80 z81 z82 z83 z84 hM69 hK70 s91 k90 hW61 p87 u92 u93 u94 u95 u96
  refine g_aload_n hC dX10_clear_32 rfl ?_
  refine g_get hC fl_X10_30 (hW89.o 2 (by decide)) rfl dX10_clear_33 ?_
  refine g_iconst (v := 0) hC dX10_clear_36 rfl ?_
  refine g_callVv (As := [.int 0]) hC rfl (hW89.r 11 (by decide)).1 (c_Ints_cut X.la d b F86 _ _ _ _ _ _ (hW89.r 11 (by decide)) 0) cl_X10_39 rfl rfl (Nat.le_of_ble_eq_true rfl) (gFit_of (Nat.le_of_ble_eq_true rfl) (Nat.le_of_ble_eq_true rfl) (by first | exact Nat.le_of_ble_eq_true rfl | omega | (simp only [gR]; omega)) (by first | exact Nat.le_of_ble_eq_true rfl | omega | (simp only [gR]; omega))) dX10_clear_37 (fun F114 p115 => ?_)
  obtain ⟨S116, hW117, k118, s119, u120, u121, u122, u123, u124⟩ := wt_cut hW89 (by decide) p115
  have hM125 : gSm S S116 [7, 8, 9, 10, 11, 12, 13] [] := hM97.tr s119 _ _ rfl rfl
  have hK126 : gKp Y F F114 := hK98.tr k118
  have z127 : sZ S116 12 = 0 := (s119.z 12 (by decide)).trans z101
  have z128 : sN S116 12 = 16 := (s119.n 12 (by decide)).trans z102
  have z129 : sZ S116 13 = 0 := (s119.z 13 (by decide)).trans z103
  have z130 : sN S116 13 = 16 := (s119.n 13 (by decide)).trans z104
  have z131 : sZ S116 7 = 0 := (s119.z 7 (by decide)).trans z105
  have z132 : sN S116 7 = 16 := (s119.n 7 (by decide)).trans z106
  have z133 : sZ S116 8 = 0 := (s119.z 8 (by decide)).trans z107
  have z134 : sN S116 8 = 16 := (s119.n 8 (by decide)).trans z108
  have z135 : sZ S116 9 = 0 := (s119.z 9 (by decide)).trans z109
  have z136 : sN S116 9 = 16 := (s119.n 9 (by decide)).trans z110
  have z137 : sZ S116 10 = 0 := (s119.z 10 (by decide)).trans z111
  have z138 : sN S116 10 = 16 := (s119.n 10 (by decide)).trans z112
  have z139 : sZ S116 11 = 0 := Nat.le_zero.mp (Nat.le_trans u124 (Nat.le_of_eq z99))
  have z140 : sN S116 11 = 16 := u120.trans z100
  clear z99 z100 z101 z102 z103 z104 z105 z106 z107 z108 z109 z110 z111 z112 hM97 hK98 s119 k118 hW89 p115 u120 u121 u122 u123 u124
  refine g_aload_n hC dX10_clear_40 rfl ?_
  refine g_get hC fl_X10_33 (hW117.o 2 (by decide)) rfl dX10_clear_41 ?_
  refine g_iconst (v := 0) hC dX10_clear_44 rfl ?_
  refine g_callVv (As := [.int 0]) hC rfl (hW117.r 12 (by decide)).1 (c_Ints_cut X.la d b F114 _ _ _ _ _ _ (hW117.r 12 (by decide)) 0) cl_X10_39 rfl rfl (Nat.le_of_ble_eq_true rfl) (gFit_of (Nat.le_of_ble_eq_true rfl) (Nat.le_of_ble_eq_true rfl) (by first | exact Nat.le_of_ble_eq_true rfl | omega | (simp only [gR]; omega)) (by first | exact Nat.le_of_ble_eq_true rfl | omega | (simp only [gR]; omega))) dX10_clear_45 (fun F142 p143 => ?_)
  obtain ⟨S144, hW145, k146, s147, u148, u149, u150, u151, u152⟩ := wt_cut hW117 (by decide) p143
  have hM153 : gSm S S144 [7, 8, 9, 10, 11, 12, 13] [] := hM125.tr s147 _ _ rfl rfl
  have hK154 : gKp Y F F142 := hK126.tr k146
  have z155 : sZ S144 13 = 0 := (s147.z 13 (by decide)).trans z129
  have z156 : sN S144 13 = 16 := (s147.n 13 (by decide)).trans z130
  have z157 : sZ S144 7 = 0 := (s147.z 7 (by decide)).trans z131
  have z158 : sN S144 7 = 16 := (s147.n 7 (by decide)).trans z132
  have z159 : sZ S144 8 = 0 := (s147.z 8 (by decide)).trans z133
  have z160 : sN S144 8 = 16 := (s147.n 8 (by decide)).trans z134
  have z161 : sZ S144 9 = 0 := (s147.z 9 (by decide)).trans z135
  have z162 : sN S144 9 = 16 := (s147.n 9 (by decide)).trans z136
  have z163 : sZ S144 10 = 0 := (s147.z 10 (by decide)).trans z137
  have z164 : sN S144 10 = 16 := (s147.n 10 (by decide)).trans z138
  have z165 : sZ S144 11 = 0 := (s147.z 11 (by decide)).trans z139
  have z166 : sN S144 11 = 16 := (s147.n 11 (by decide)).trans z140
  have z167 : sZ S144 12 = 0 := Nat.le_zero.mp (Nat.le_trans u152 (Nat.le_of_eq z127))
  have z168 : sN S144 12 = 16 := u148.trans z128
  clear z127 z128 z129 z130 z131 z132 z133 z134 z135 z136 z137 z138 z139 z140 hM125 hK126 s147 k146 hW117 p143 u148 u149 u150 u151 u152
  refine g_aload_n hC dX10_clear_48 rfl ?_
  refine g_get hC fl_X10_36 (hW145.o 2 (by decide)) rfl dX10_clear_49 ?_
  refine g_iconst (v := 0) hC dX10_clear_52 rfl ?_
  refine g_callVv (As := [.int 0]) hC rfl (hW145.r 13 (by decide)).1 (c_Ints_cut X.la d b F142 _ _ _ _ _ _ (hW145.r 13 (by decide)) 0) cl_X10_39 rfl rfl (Nat.le_of_ble_eq_true rfl) (gFit_of (Nat.le_of_ble_eq_true rfl) (Nat.le_of_ble_eq_true rfl) (by first | exact Nat.le_of_ble_eq_true rfl | omega | (simp only [gR]; omega)) (by first | exact Nat.le_of_ble_eq_true rfl | omega | (simp only [gR]; omega))) dX10_clear_53 (fun F170 p171 => ?_)
  obtain ⟨S172, hW173, k174, s175, u176, u177, u178, u179, u180⟩ := wt_cut hW145 (by decide) p171
  have hM181 : gSm S S172 [7, 8, 9, 10, 11, 12, 13] [] := hM153.tr s175 _ _ rfl rfl
  have hK182 : gKp Y F F170 := hK154.tr k174
  have z183 : sZ S172 7 = 0 := (s175.z 7 (by decide)).trans z157
  have z184 : sN S172 7 = 16 := (s175.n 7 (by decide)).trans z158
  have z185 : sZ S172 8 = 0 := (s175.z 8 (by decide)).trans z159
  have z186 : sN S172 8 = 16 := (s175.n 8 (by decide)).trans z160
  have z187 : sZ S172 9 = 0 := (s175.z 9 (by decide)).trans z161
  have z188 : sN S172 9 = 16 := (s175.n 9 (by decide)).trans z162
  have z189 : sZ S172 10 = 0 := (s175.z 10 (by decide)).trans z163
  have z190 : sN S172 10 = 16 := (s175.n 10 (by decide)).trans z164
  have z191 : sZ S172 11 = 0 := (s175.z 11 (by decide)).trans z165
  have z192 : sN S172 11 = 16 := (s175.n 11 (by decide)).trans z166
  have z193 : sZ S172 12 = 0 := (s175.z 12 (by decide)).trans z167
  have z194 : sN S172 12 = 16 := (s175.n 12 (by decide)).trans z168
  have z195 : sZ S172 13 = 0 := Nat.le_zero.mp (Nat.le_trans u180 (Nat.le_of_eq z155))
  have z196 : sN S172 13 = 16 := u176.trans z156
  clear z155 z156 z157 z158 z159 z160 z161 z162 z163 z164 z165 z166 z167 z168 hM153 hK154 s175 k174 hW145 p171 u176 u177 u178 u179 u180
  refine g_aload_n hC dX10_clear_56 rfl ?_
  refine g_iconst (v := 0) hC dX10_clear_57 rfl ?_
  refine g_iconst (v := 0) hC dX10_clear_58 rfl ?_
  refine g_iconst (v := 0) hC dX10_clear_59 rfl ?_
  refine g_callVi (As := [.int 0, .int 0, .int 0]) hC rfl (hW173.o 2 (by decide)) (c_T_node X.la d b Y F170 S172 hW173 0 0 0 0 (by omega) z183 z184 z185 z186 z187 z188 z189 z190 z191 z192 z193 z194 z195 z196) cl_X10_42 rfl rfl (Nat.le_of_ble_eq_true rfl) (gFit_of (Nat.le_of_ble_eq_true rfl) (Nat.le_of_ble_eq_true rfl) (by first | exact Nat.le_of_ble_eq_true rfl | omega | (simp only [gR]; omega)) (by first | exact Nat.le_of_ble_eq_true rfl | omega | (simp only [gR]; omega))) dX10_clear_60 (fun r199 F197 p198 => ?_)
  obtain ⟨S200, hW201, k202, s203, y204, y205, y206, y207, y208, y209, y210, y211, y212, y213, y214, y215, y216, y217⟩ := p198
  have hM218 : gSm S S200 [7, 8, 9, 10, 11, 12, 13] [] := hM181.tr s203 _ _ rfl rfl
  have hK219 : gKp Y F F197 := hK182.tr k202
  clear z183 z184 z185 z186 z187 z188 z189 z190 z191 z192 z193 z194 z195 z196 hM181 hK182 s203 k202 hW173
  refine g_pop hC dX10_clear_63 rfl ?_
  exact g_vret hC ⟨S200, hW201, hK219, hM218, y204, y205, y206, y207, y208, y209, y210, y211, y212, y213, y214, y215, y216, y217⟩ (by first | exact Nat.le_of_ble_eq_true rfl | omega | (simp only [gR]; omega)) (by first | exact Nat.le_of_ble_eq_true rfl | omega | (simp only [gR]; omega)) dX10_clear_64
theorem dX8_pass_0 : decode cX8_pass 0 = .ok (.iconst 0, 1) := by decide +kernel
theorem dX8_pass_1 : decode cX8_pass 1 = .ok (.istore_n 1, 1) := by decide +kernel
theorem dX8_pass_2 : decode cX8_pass 2 = .ok (.iload_n 1, 1) := by decide +kernel
theorem dX8_pass_3 : decode cX8_pass 3 = .ok (.aload_n 0, 1) := by decide +kernel
theorem dX8_pass_4 : decode cX8_pass 4 = .ok (.getfield 47, 3) := by decide +kernel
theorem dX8_pass_7 : decode cX8_pass 7 = .ok (.invokevirtual 62, 3) := by decide +kernel
theorem dX8_pass_10 : decode cX8_pass 10 = .ok (.if_icmp .gt 122, 3) := by decide +kernel
theorem dX8_pass_13 : decode cX8_pass 13 = .ok (.aload_n 0, 1) := by decide +kernel
theorem dX8_pass_14 : decode cX8_pass 14 = .ok (.getfield 39, 3) := by decide +kernel
theorem dX8_pass_17 : decode cX8_pass 17 = .ok (.aload_n 0, 1) := by decide +kernel
theorem dX8_pass_18 : decode cX8_pass 18 = .ok (.getfield 47, 3) := by decide +kernel
theorem dX8_pass_21 : decode cX8_pass 21 = .ok (.invokevirtual 62, 3) := by decide +kernel
theorem dX8_pass_24 : decode cX8_pass 24 = .ok (.if_icmp .ge 108, 3) := by decide +kernel
theorem dX8_pass_27 : decode cX8_pass 27 = .ok (.aload_n 0, 1) := by decide +kernel
theorem dX8_pass_28 : decode cX8_pass 28 = .ok (.getfield 47, 3) := by decide +kernel
theorem dX8_pass_31 : decode cX8_pass 31 = .ok (.aload_n 0, 1) := by decide +kernel
theorem dX8_pass_32 : decode cX8_pass 32 = .ok (.getfield 39, 3) := by decide +kernel
theorem dX8_pass_35 : decode cX8_pass 35 = .ok (.invokevirtual 88, 3) := by decide +kernel
theorem dX8_pass_38 : decode cX8_pass 38 = .ok (.istore_n 2, 1) := by decide +kernel
theorem dX8_pass_39 : decode cX8_pass 39 = .ok (.iload_n 2, 1) := by decide +kernel
theorem dX8_pass_40 : decode cX8_pass 40 = .ok (.bipush 47, 2) := by decide +kernel
theorem dX8_pass_42 : decode cX8_pass 42 = .ok (.if_icmp .ne 28, 3) := by decide +kernel
theorem dX8_pass_45 : decode cX8_pass 45 = .ok (.aload_n 0, 1) := by decide +kernel
theorem dX8_pass_46 : decode cX8_pass 46 = .ok (.getfield 47, 3) := by decide +kernel
theorem dX8_pass_49 : decode cX8_pass 49 = .ok (.aload_n 0, 1) := by decide +kernel
theorem dX8_pass_50 : decode cX8_pass 50 = .ok (.getfield 39, 3) := by decide +kernel
theorem dX8_pass_53 : decode cX8_pass 53 = .ok (.iconst 1, 1) := by decide +kernel
theorem dX8_pass_54 : decode cX8_pass 54 = .ok (.iadd, 1) := by decide +kernel
theorem dX8_pass_55 : decode cX8_pass 55 = .ok (.invokevirtual 88, 3) := by decide +kernel
theorem dX8_pass_58 : decode cX8_pass 58 = .ok (.bipush 47, 2) := by decide +kernel
theorem dX8_pass_60 : decode cX8_pass 60 = .ok (.if_icmp .ne 10, 3) := by decide +kernel
theorem dX8_pass_63 : decode cX8_pass 63 = .ok (.aload_n 0, 1) := by decide +kernel
theorem dX8_pass_64 : decode cX8_pass 64 = .ok (.invokevirtual 109, 3) := by decide +kernel
theorem dX8_pass_67 : decode cX8_pass 67 = .ok (.goto 59, 3) := by decide +kernel
theorem dX8_pass_70 : decode cX8_pass 70 = .ok (.iload_n 2, 1) := by decide +kernel
theorem dX8_pass_71 : decode cX8_pass 71 = .ok (.bipush 10, 2) := by decide +kernel
theorem dX8_pass_73 : decode cX8_pass 73 = .ok (.if_icmp .ne 21, 3) := by decide +kernel
theorem dX8_pass_76 : decode cX8_pass 76 = .ok (.aload_n 0, 1) := by decide +kernel
theorem dX8_pass_77 : decode cX8_pass 77 = .ok (.iconst 1, 1) := by decide +kernel
theorem dX8_pass_78 : decode cX8_pass 78 = .ok (.putfield 43, 3) := by decide +kernel
theorem dX8_pass_81 : decode cX8_pass 81 = .ok (.aload_n 0, 1) := by decide +kernel
theorem dX8_pass_82 : decode cX8_pass 82 = .ok (.dup, 1) := by decide +kernel
theorem dX8_pass_83 : decode cX8_pass 83 = .ok (.getfield 39, 3) := by decide +kernel
theorem dX8_pass_86 : decode cX8_pass 86 = .ok (.iconst 1, 1) := by decide +kernel
theorem dX8_pass_87 : decode cX8_pass 87 = .ok (.iadd, 1) := by decide +kernel
theorem dX8_pass_88 : decode cX8_pass 88 = .ok (.putfield 39, 3) := by decide +kernel
theorem dX8_pass_91 : decode cX8_pass 91 = .ok (.goto 35, 3) := by decide +kernel
theorem dX8_pass_94 : decode cX8_pass 94 = .ok (.iload_n 2, 1) := by decide +kernel
theorem dX8_pass_95 : decode cX8_pass 95 = .ok (.bipush 9, 2) := by decide +kernel
theorem dX8_pass_97 : decode cX8_pass 97 = .ok (.if_icmp .eq 15, 3) := by decide +kernel
theorem dX8_pass_100 : decode cX8_pass 100 = .ok (.iload_n 2, 1) := by decide +kernel
theorem dX8_pass_101 : decode cX8_pass 101 = .ok (.bipush 13, 2) := by decide +kernel
theorem dX8_pass_103 : decode cX8_pass 103 = .ok (.if_icmp .eq 9, 3) := by decide +kernel
theorem dX8_pass_106 : decode cX8_pass 106 = .ok (.iload_n 2, 1) := by decide +kernel
theorem dX8_pass_107 : decode cX8_pass 107 = .ok (.bipush 32, 2) := by decide +kernel
theorem dX8_pass_109 : decode cX8_pass 109 = .ok (.if_icmp .ne 16, 3) := by decide +kernel
theorem dX8_pass_112 : decode cX8_pass 112 = .ok (.aload_n 0, 1) := by decide +kernel
theorem dX8_pass_113 : decode cX8_pass 113 = .ok (.dup, 1) := by decide +kernel
theorem dX8_pass_114 : decode cX8_pass 114 = .ok (.getfield 39, 3) := by decide +kernel
theorem dX8_pass_117 : decode cX8_pass 117 = .ok (.iconst 1, 1) := by decide +kernel
theorem dX8_pass_118 : decode cX8_pass 118 = .ok (.iadd, 1) := by decide +kernel
theorem dX8_pass_119 : decode cX8_pass 119 = .ok (.putfield 39, 3) := by decide +kernel
theorem dX8_pass_122 : decode cX8_pass 122 = .ok (.goto 4, 3) := by decide +kernel
theorem dX8_pass_125 : decode cX8_pass 125 = .ok (.return_, 1) := by decide +kernel
theorem dX8_pass_126 : decode cX8_pass 126 = .ok (.iinc 1 1, 3) := by decide +kernel
theorem dX8_pass_129 : decode cX8_pass 129 = .ok (.goto (-127), 3) := by decide +kernel
theorem dX8_pass_132 : decode cX8_pass 132 = .ok (.return_, 1) := by decide +kernel
set_option maxHeartbeats 4000000 in
set_option maxRecDepth 100000 in
theorem c_S_pass0 (l : Launch) (d : gD) (b : Nat) (Y : gYt) (F : gM) (S : gSt) (hW : gWT d Y F S) (hz0 : sZ S 0 = 0) (hv8 : sV S 8 = 0) : gMv l d b yX8_pass cX8_pass 3 1 0 0 F [.ref (gO' Y 3)] (fun F' => F' = F) := by
  refine gM_of2 rfl (nL := 3) (Nat.le_of_ble_eq_true rfl) ?_
  intro X hX hC; subst hX
  show gG X d b _ F 0 0 0 [some (.ref (gO' Y 3)), none, none] []
  have hM0 : gSm S S [] [] := gSm.rf
  have hK0 : gKp Y F F := gKp.rf
  refine g_iconst (v := 0) hC dX8_pass_0 rfl ?_
  refine g_istore_n (lv' := [some (.ref (gO' Y 3)), some (.int 0), none]) hC dX8_pass_1 (Nat.le_of_ble_eq_true rfl) rfl rfl ?_
  refine g_iload_n hC dX8_pass_2 rfl ?_
  refine g_aload_n hC dX8_pass_3 rfl ?_
  refine g_get hC fl_X8_47 (hW.o 3 (by decide)) rfl dX8_pass_4 ?_
  refine g_callVi (As := []) hC rfl (hW.r 0 (by decide)).1 (c_Ints_size X.la d b F _ _ _ _ _ _ (hW.r 0 (by decide))) cl_X8_62 rfl rfl (Nat.le_of_ble_eq_true rfl) (gFit_of (Nat.le_of_ble_eq_true rfl) (Nat.le_of_ble_eq_true rfl) (by first | exact Nat.le_of_ble_eq_true rfl | omega | (simp only [gR]; omega)) (by first | exact Nat.le_of_ble_eq_true rfl | omega | (simp only [gR]; omega))) dX8_pass_7 (fun r1 F2 p3 => ?_)
  obtain ⟨rfl, eF2⟩ := p3; have eF2 := eF2.symm; subst eF2
  refine g_icmp_gt (tgt := 132) hC dX8_pass_10 (by decide) (fun c4 => ?_) (fun c4 => ?_)
  · rw [hz0] at c4; exact absurd c4 (by decide)
  · refine g_aload_n hC dX8_pass_13 rfl ?_
    refine g_get hC fl_X8_39 (hW.o 3 (by decide)) rfl dX8_pass_14 ?_
    refine g_aload_n hC dX8_pass_17 rfl ?_
    refine g_get hC fl_X8_47 (hW.o 3 (by decide)) rfl dX8_pass_18 ?_
    refine g_callVi (As := []) hC rfl (hW.r 0 (by decide)).1 (c_Ints_size X.la d b F _ _ _ _ _ _ (hW.r 0 (by decide))) cl_X8_62 rfl rfl (Nat.le_of_ble_eq_true rfl) (gFit_of (Nat.le_of_ble_eq_true rfl) (Nat.le_of_ble_eq_true rfl) (by first | exact Nat.le_of_ble_eq_true rfl | omega | (simp only [gR]; omega)) (by first | exact Nat.le_of_ble_eq_true rfl | omega | (simp only [gR]; omega))) dX8_pass_21 (fun r5 F6 p7 => ?_)
    obtain ⟨rfl, eF6⟩ := p7; have eF6 := eF6.symm; subst eF6
    refine g_icmp_ge (tgt := 132) hC dX8_pass_24 (by decide) (fun c8 => ?_) (fun c8 => ?_)
    · exact g_vret hC rfl (by first | exact Nat.le_of_ble_eq_true rfl | omega | (simp only [gR]; omega)) (by first | exact Nat.le_of_ble_eq_true rfl | omega | (simp only [gR]; omega)) dX8_pass_132
    · rw [hz0, hv8] at c8; exact absurd (by decide) c8
theorem dX8_put_0 : decode cX8_put 0 = .ok (.aload_n 0, 1) := by decide +kernel
theorem dX8_put_1 : decode cX8_put 1 = .ok (.getfield 43, 3) := by decide +kernel
theorem dX8_put_4 : decode cX8_put 4 = .ok (.ifCond .eq 48, 3) := by decide +kernel
theorem dX8_put_7 : decode cX8_put 7 = .ok (.aload_n 0, 1) := by decide +kernel
theorem dX8_put_8 : decode cX8_put 8 = .ok (.getfield 15, 3) := by decide +kernel
theorem dX8_put_11 : decode cX8_put 11 = .ok (.invokevirtual 106, 3) := by decide +kernel
theorem dX8_put_14 : decode cX8_put 14 = .ok (.invokestatic 112, 3) := by decide +kernel
theorem dX8_put_17 : decode cX8_put 17 = .ok (.ifCond .eq 35, 3) := by decide +kernel
theorem dX8_put_20 : decode cX8_put 20 = .ok (.iload_n 1, 1) := by decide +kernel
theorem dX8_put_21 : decode cX8_put 21 = .ok (.invokestatic 116, 3) := by decide +kernel
theorem dX8_put_24 : decode cX8_put 24 = .ok (.ifCond .eq 28, 3) := by decide +kernel
theorem dX8_put_27 : decode cX8_put 27 = .ok (.aload_n 0, 1) := by decide +kernel
theorem dX8_put_28 : decode cX8_put 28 = .ok (.getfield 15, 3) := by decide +kernel
theorem dX8_put_31 : decode cX8_put 31 = .ok (.bipush 10, 2) := by decide +kernel
theorem dX8_put_33 : decode cX8_put 33 = .ok (.invokevirtual 85, 3) := by decide +kernel
theorem dX8_put_36 : decode cX8_put 36 = .ok (.aload_n 0, 1) := by decide +kernel
theorem dX8_put_37 : decode cX8_put 37 = .ok (.getfield 21, 3) := by decide +kernel
theorem dX8_put_40 : decode cX8_put 40 = .ok (.iconst 0, 1) := by decide +kernel
theorem dX8_put_41 : decode cX8_put 41 = .ok (.invokevirtual 85, 3) := by decide +kernel
theorem dX8_put_44 : decode cX8_put 44 = .ok (.aload_n 0, 1) := by decide +kernel
theorem dX8_put_45 : decode cX8_put 45 = .ok (.getfield 24, 3) := by decide +kernel
theorem dX8_put_48 : decode cX8_put 48 = .ok (.iload_n 3, 1) := by decide +kernel
theorem dX8_put_49 : decode cX8_put 49 = .ok (.invokevirtual 85, 3) := by decide +kernel
theorem dX8_put_52 : decode cX8_put 52 = .ok (.aload_n 0, 1) := by decide +kernel
theorem dX8_put_53 : decode cX8_put 53 = .ok (.iconst 0, 1) := by decide +kernel
theorem dX8_put_54 : decode cX8_put 54 = .ok (.putfield 43, 3) := by decide +kernel
theorem dX8_put_57 : decode cX8_put 57 = .ok (.aload_n 0, 1) := by decide +kernel
theorem dX8_put_58 : decode cX8_put 58 = .ok (.getfield 15, 3) := by decide +kernel
theorem dX8_put_61 : decode cX8_put 61 = .ok (.iload_n 1, 1) := by decide +kernel
theorem dX8_put_62 : decode cX8_put 62 = .ok (.invokevirtual 85, 3) := by decide +kernel
theorem dX8_put_65 : decode cX8_put 65 = .ok (.aload_n 0, 1) := by decide +kernel
theorem dX8_put_66 : decode cX8_put 66 = .ok (.getfield 21, 3) := by decide +kernel
theorem dX8_put_69 : decode cX8_put 69 = .ok (.iload_n 2, 1) := by decide +kernel
theorem dX8_put_70 : decode cX8_put 70 = .ok (.invokevirtual 85, 3) := by decide +kernel
theorem dX8_put_73 : decode cX8_put 73 = .ok (.aload_n 0, 1) := by decide +kernel
theorem dX8_put_74 : decode cX8_put 74 = .ok (.getfield 24, 3) := by decide +kernel
theorem dX8_put_77 : decode cX8_put 77 = .ok (.iload_n 3, 1) := by decide +kernel
theorem dX8_put_78 : decode cX8_put 78 = .ok (.invokevirtual 85, 3) := by decide +kernel
theorem dX8_put_81 : decode cX8_put 81 = .ok (.return_, 1) := by decide +kernel
set_option maxHeartbeats 4000000 in
set_option maxRecDepth 100000 in
theorem c_S_put0 (l : Launch) (d : gD) (b : Nat) (Y : gYt) (F : gM) (S : gSt) (hW : gWT d Y F S) (x y u : Int32) (hv9 : sV S 9 = 0) (hz14 : sZ S 14 = 0) (hn14 : sN S 14 = 16) (hz15 : sZ S 15 = 0) (hn15 : sN S 15 = 16) (hz16 : sZ S 16 = 0) (hn16 : sN S 16 = 16) : gMv l d b yX8_put cX8_put 4 3 0 0 F [.ref (gO' Y 3), .int x, .int y, .int u] (fun F' => ∃ S', gWT d Y F' S' ∧ gKp Y F F' ∧ gSm S S' [14, 15, 16] [9] ∧ sZ S' 14 = 0 + 1 ∧ sZ S' 15 = 0 + 1 ∧ sZ S' 16 = 0 + 1 ∧ sF S' 14 0 = x ∧ sF S' 16 0 = u) := by
  refine gM_of2 rfl (nL := 4) (Nat.le_of_ble_eq_true rfl) ?_
  intro X hX hC; subst hX
  show gG X d b _ F 0 0 0 [some (.ref (gO' Y 3)), some (.int x), some (.int y), some (.int u)] []
  have hM0 : gSm S S [14, 15, 16] [9] := gSm.rf
  have hK0 : gKp Y F F := gKp.rf
  refine g_aload_n hC dX8_put_0 rfl ?_
  refine g_get hC fl_X8_43 (hW.o 3 (by decide)) rfl dX8_put_1 ?_
  refine g_if_eq (tgt := 52) hC dX8_put_4 (by decide) (fun c1 => ?_) (fun c1 => ?_)
  · refine g_aload_n hC dX8_put_52 rfl ?_
    refine g_iconst (v := 0) hC dX8_put_53 rfl ?_
    refine g_put hC fl_X8_43 (hW.o 3 (by decide)) rfl rfl (Nat.le_of_ble_eq_true rfl) dX8_put_54 ?_
    refine g_vF (fun F2 hF2 => ?_)
    obtain ⟨hW4, k5⟩ := gWT.put (k := 9) (x := 0) hW (i := 3) (by decide) hF2 rfl gsame_9 (fun _ => by decide)
    obtain ⟨S3, hS3⟩ : ∃ z, z = uV S 9 0 := ⟨_, rfl⟩
    rw [← hS3] at hW4
    have s6 : gSm S S3 [] [9] := by rw [hS3]; exact gSm_uV
    have hM7 : gSm S S3 [14, 15, 16] [9] := hM0.tr s6 _ _ rfl rfl
    have hK8 : gKp Y F F2 := hK0.tr k5
    have z9 : sZ S3 14 = 0 := (s6.z 14 (by decide)).trans hz14
    have z10 : sN S3 14 = 16 := (s6.n 14 (by decide)).trans hn14
    have z11 : sZ S3 15 = 0 := (s6.z 15 (by decide)).trans hz15
    have z12 : sN S3 15 = 16 := (s6.n 15 (by decide)).trans hn15
    have z13 : sZ S3 16 = 0 := (s6.z 16 (by decide)).trans hz16
    have z14 : sN S3 16 = 16 := (s6.n 16 (by decide)).trans hn16
    have z15 : sV S3 9 = 0 := by rw [hS3]; exact uV_self
    refine g_aload_n hC dX8_put_57 rfl ?_
    refine g_get hC fl_X8_15 (hW4.o 3 (by decide)) rfl dX8_put_58 ?_
    refine g_iload_n hC dX8_put_61 rfl ?_
    have z19 : gAc (sN S3 14) (sZ S3 14) = 0 := gAc0 (by rw [z9, z10]; exact (Nat.le_of_ble_eq_true rfl))
    have z20 : gAs (gmo 14) (sN S3 14) (sZ S3 14) = 0 := gAs0 (by rw [z9, z10]; exact (Nat.le_of_ble_eq_true rfl))
    refine g_callVv (As := [.int x]) hC rfl (hW4.r 14 (by decide)).1 (c_Ints_add X.la d b F2 _ _ _ _ _ _ (hW4.r 14 (by decide)) x) cl_X8_85 rfl rfl (Nat.le_of_ble_eq_true rfl) (gFit_add (Nat.le_of_ble_eq_true rfl) (Nat.le_of_ble_eq_true rfl) z19 z20 (Nat.le_of_ble_eq_true rfl) (Nat.le_of_ble_eq_true rfl)) dX8_put_62 (fun F17 p18 => ?_)
    refine g_kn (k2 := 0) (n2 := 0) (by rw [z19]) (by rw [z20]) ?_
    obtain ⟨S21, hW22, k23, s24, a25, -⟩ := wt_add hW4 (by decide) p18
    have a25 := a25 (by rw [z9]; exact Nat.lt_of_lt_of_le (Nat.le_of_ble_eq_true rfl) (w_mo 14))
    have hM26 : gSm S S21 [14, 15, 16] [9] := hM7.tr s24 _ _ rfl rfl
    have hK27 : gKp Y F F17 := hK8.tr k23
    have z28 : sZ S21 15 = 0 := (s24.z 15 (by decide)).trans z11
    have z29 : sN S21 15 = 16 := (s24.n 15 (by decide)).trans z12
    have z30 : sZ S21 16 = 0 := (s24.z 16 (by decide)).trans z13
    have z31 : sN S21 16 = 16 := (s24.n 16 (by decide)).trans z14
    have z32 : sV S21 9 = 0 := (s24.v 9 (by decide)).trans z15
    have z33 : sZ S21 14 = 1 := by rw [a25.1, z9]
    have z34 : sN S21 14 = 16 := by rw [a25.2.1, gAn0 (by rw [z9, z10]; exact (Nat.le_of_ble_eq_true rfl)), z10]
    refine g_aload_n hC dX8_put_65 rfl ?_
    refine g_get hC fl_X8_21 (hW22.o 3 (by decide)) rfl dX8_put_66 ?_
    refine g_iload_n hC dX8_put_69 rfl ?_
    have z38 : gAc (sN S21 15) (sZ S21 15) = 0 := gAc0 (by rw [z28, z29]; exact (Nat.le_of_ble_eq_true rfl))
    have z39 : gAs (gmo 15) (sN S21 15) (sZ S21 15) = 0 := gAs0 (by rw [z28, z29]; exact (Nat.le_of_ble_eq_true rfl))
    refine g_callVv (As := [.int y]) hC rfl (hW22.r 15 (by decide)).1 (c_Ints_add X.la d b F17 _ _ _ _ _ _ (hW22.r 15 (by decide)) y) cl_X8_85 rfl rfl (Nat.le_of_ble_eq_true rfl) (gFit_add (Nat.le_of_ble_eq_true rfl) (Nat.le_of_ble_eq_true rfl) z38 z39 (Nat.le_of_ble_eq_true rfl) (Nat.le_of_ble_eq_true rfl)) dX8_put_70 (fun F36 p37 => ?_)
    refine g_kn (k2 := 0) (n2 := 0) (by rw [z38]) (by rw [z39]) ?_
    obtain ⟨S40, hW41, k42, s43, a44, -⟩ := wt_add hW22 (by decide) p37
    have a44 := a44 (by rw [z28]; exact Nat.lt_of_lt_of_le (Nat.le_of_ble_eq_true rfl) (w_mo 15))
    have hM45 : gSm S S40 [14, 15, 16] [9] := hM26.tr s43 _ _ rfl rfl
    have hK46 : gKp Y F F36 := hK27.tr k42
    have z47 : sZ S40 16 = 0 := (s43.z 16 (by decide)).trans z30
    have z48 : sN S40 16 = 16 := (s43.n 16 (by decide)).trans z31
    have z49 : sZ S40 14 = 1 := (s43.z 14 (by decide)).trans z33
    have z50 : sN S40 14 = 16 := (s43.n 14 (by decide)).trans z34
    have z51 : sV S40 9 = 0 := (s43.v 9 (by decide)).trans z32
    have z52 : sZ S40 15 = 1 := by rw [a44.1, z28]
    have z53 : sN S40 15 = 16 := by rw [a44.2.1, gAn0 (by rw [z28, z29]; exact (Nat.le_of_ble_eq_true rfl)), z29]
    refine g_aload_n hC dX8_put_73 rfl ?_
    refine g_get hC fl_X8_24 (hW41.o 3 (by decide)) rfl dX8_put_74 ?_
    refine g_iload_n hC dX8_put_77 rfl ?_
    have z57 : gAc (sN S40 16) (sZ S40 16) = 0 := gAc0 (by rw [z47, z48]; exact (Nat.le_of_ble_eq_true rfl))
    have z58 : gAs (gmo 16) (sN S40 16) (sZ S40 16) = 0 := gAs0 (by rw [z47, z48]; exact (Nat.le_of_ble_eq_true rfl))
    refine g_callVv (As := [.int u]) hC rfl (hW41.r 16 (by decide)).1 (c_Ints_add X.la d b F36 _ _ _ _ _ _ (hW41.r 16 (by decide)) u) cl_X8_85 rfl rfl (Nat.le_of_ble_eq_true rfl) (gFit_add (Nat.le_of_ble_eq_true rfl) (Nat.le_of_ble_eq_true rfl) z57 z58 (Nat.le_of_ble_eq_true rfl) (Nat.le_of_ble_eq_true rfl)) dX8_put_78 (fun F55 p56 => ?_)
    refine g_kn (k2 := 0) (n2 := 0) (by rw [z57]) (by rw [z58]) ?_
    obtain ⟨S59, hW60, k61, s62, a63, -⟩ := wt_add hW41 (by decide) p56
    have a63 := a63 (by rw [z47]; exact Nat.lt_of_lt_of_le (Nat.le_of_ble_eq_true rfl) (w_mo 16))
    have hM64 : gSm S S59 [14, 15, 16] [9] := hM45.tr s62 _ _ rfl rfl
    have hK65 : gKp Y F F55 := hK46.tr k61
    have z66 : sZ S59 14 = 1 := (s62.z 14 (by decide)).trans z49
    have z67 : sN S59 14 = 16 := (s62.n 14 (by decide)).trans z50
    have z68 : sZ S59 15 = 1 := (s62.z 15 (by decide)).trans z52
    have z69 : sN S59 15 = 16 := (s62.n 15 (by decide)).trans z53
    have z70 : sV S59 9 = 0 := (s62.v 9 (by decide)).trans z51
    have z71 : sZ S59 16 = 1 := by rw [a63.1, z47]
    have z72 : sN S59 16 = 16 := by rw [a63.2.1, gAn0 (by rw [z47, z48]; exact (Nat.le_of_ble_eq_true rfl)), z48]
    exact g_vret hC ⟨S59, hW60, hK65, hM64, z66, z68, z71, by rw [s62.f 14 (by decide), s43.f 14 (by decide)]; have q := a25.2.2.2; rw [z9] at q; exact q, by have q := a63.2.2.2; rw [z47] at q; exact q⟩ (by first | exact Nat.le_of_ble_eq_true rfl | omega | (simp only [gR]; omega)) (by first | exact Nat.le_of_ble_eq_true rfl | omega | (simp only [gR]; omega)) dX8_put_81
  · exact absurd hv9 c1
theorem dX8_scan_0 : decode cX8_scan 0 = .ok (.aload_n 0, 1) := by decide +kernel
theorem dX8_scan_1 : decode cX8_scan 1 = .ok (.getfield 15, 3) := by decide +kernel
theorem dX8_scan_4 : decode cX8_scan 4 = .ok (.iconst 0, 1) := by decide +kernel
theorem dX8_scan_5 : decode cX8_scan 5 = .ok (.invokevirtual 82, 3) := by decide +kernel
theorem dX8_scan_8 : decode cX8_scan 8 = .ok (.aload_n 0, 1) := by decide +kernel
theorem dX8_scan_9 : decode cX8_scan 9 = .ok (.getfield 21, 3) := by decide +kernel
theorem dX8_scan_12 : decode cX8_scan 12 = .ok (.iconst 0, 1) := by decide +kernel
theorem dX8_scan_13 : decode cX8_scan 13 = .ok (.invokevirtual 82, 3) := by decide +kernel
theorem dX8_scan_16 : decode cX8_scan 16 = .ok (.aload_n 0, 1) := by decide +kernel
theorem dX8_scan_17 : decode cX8_scan 17 = .ok (.getfield 24, 3) := by decide +kernel
theorem dX8_scan_20 : decode cX8_scan 20 = .ok (.iconst 0, 1) := by decide +kernel
theorem dX8_scan_21 : decode cX8_scan 21 = .ok (.invokevirtual 82, 3) := by decide +kernel
theorem dX8_scan_24 : decode cX8_scan 24 = .ok (.aload_n 0, 1) := by decide +kernel
theorem dX8_scan_25 : decode cX8_scan 25 = .ok (.getfield 27, 3) := by decide +kernel
theorem dX8_scan_28 : decode cX8_scan 28 = .ok (.iconst 0, 1) := by decide +kernel
theorem dX8_scan_29 : decode cX8_scan 29 = .ok (.invokevirtual 82, 3) := by decide +kernel
theorem dX8_scan_32 : decode cX8_scan 32 = .ok (.aload_n 0, 1) := by decide +kernel
theorem dX8_scan_33 : decode cX8_scan 33 = .ok (.getfield 30, 3) := by decide +kernel
theorem dX8_scan_36 : decode cX8_scan 36 = .ok (.aload_n 0, 1) := by decide +kernel
theorem dX8_scan_37 : decode cX8_scan 37 = .ok (.getfield 66, 3) := by decide +kernel
theorem dX8_scan_40 : decode cX8_scan 40 = .ok (.invokevirtual 82, 3) := by decide +kernel
theorem dX8_scan_43 : decode cX8_scan 43 = .ok (.aload_n 0, 1) := by decide +kernel
theorem dX8_scan_44 : decode cX8_scan 44 = .ok (.getfield 33, 3) := by decide +kernel
theorem dX8_scan_47 : decode cX8_scan 47 = .ok (.bipush 61, 2) := by decide +kernel
theorem dX8_scan_49 : decode cX8_scan 49 = .ok (.invokevirtual 82, 3) := by decide +kernel
theorem dX8_scan_52 : decode cX8_scan 52 = .ok (.aload_n 0, 1) := by decide +kernel
theorem dX8_scan_53 : decode cX8_scan 53 = .ok (.getfield 36, 3) := by decide +kernel
theorem dX8_scan_56 : decode cX8_scan 56 = .ok (.bipush 61, 2) := by decide +kernel
theorem dX8_scan_58 : decode cX8_scan 58 = .ok (.invokevirtual 82, 3) := by decide +kernel
theorem dX8_scan_61 : decode cX8_scan 61 = .ok (.aload_n 0, 1) := by decide +kernel
theorem dX8_scan_62 : decode cX8_scan 62 = .ok (.iconst 0, 1) := by decide +kernel
theorem dX8_scan_63 : decode cX8_scan 63 = .ok (.putfield 39, 3) := by decide +kernel
theorem dX8_scan_66 : decode cX8_scan 66 = .ok (.aload_n 0, 1) := by decide +kernel
theorem dX8_scan_67 : decode cX8_scan 67 = .ok (.iconst 0, 1) := by decide +kernel
theorem dX8_scan_68 : decode cX8_scan 68 = .ok (.putfield 43, 3) := by decide +kernel
theorem dX8_scan_71 : decode cX8_scan 71 = .ok (.iconst 0, 1) := by decide +kernel
theorem dX8_scan_72 : decode cX8_scan 72 = .ok (.istore_n 1, 1) := by decide +kernel
theorem dX8_scan_73 : decode cX8_scan 73 = .ok (.iload_n 1, 1) := by decide +kernel
theorem dX8_scan_74 : decode cX8_scan 74 = .ok (.ldc 11, 2) := by decide +kernel
theorem dX8_scan_76 : decode cX8_scan 76 = .ok (.if_icmp .ge 57, 3) := by decide +kernel
theorem dX8_scan_79 : decode cX8_scan 79 = .ok (.aload_n 0, 1) := by decide +kernel
theorem dX8_scan_80 : decode cX8_scan 80 = .ok (.invokevirtual 96, 3) := by decide +kernel
theorem dX8_scan_83 : decode cX8_scan 83 = .ok (.aload_n 0, 1) := by decide +kernel
theorem dX8_scan_84 : decode cX8_scan 84 = .ok (.getfield 39, 3) := by decide +kernel
theorem dX8_scan_87 : decode cX8_scan 87 = .ok (.aload_n 0, 1) := by decide +kernel
theorem dX8_scan_88 : decode cX8_scan 88 = .ok (.getfield 47, 3) := by decide +kernel
theorem dX8_scan_91 : decode cX8_scan 91 = .ok (.invokevirtual 62, 3) := by decide +kernel
theorem dX8_scan_94 : decode cX8_scan 94 = .ok (.if_icmp .lt 17, 3) := by decide +kernel
theorem dX8_scan_97 : decode cX8_scan 97 = .ok (.aload_n 0, 1) := by decide +kernel
theorem dX8_scan_98 : decode cX8_scan 98 = .ok (.iconst 0, 1) := by decide +kernel
theorem dX8_scan_99 : decode cX8_scan 99 = .ok (.iconst 0, 1) := by decide +kernel
theorem dX8_scan_100 : decode cX8_scan 100 = .ok (.aload_n 0, 1) := by decide +kernel
theorem dX8_scan_101 : decode cX8_scan 101 = .ok (.getfield 47, 3) := by decide +kernel
theorem dX8_scan_104 : decode cX8_scan 104 = .ok (.invokevirtual 62, 3) := by decide +kernel
theorem dX8_scan_107 : decode cX8_scan 107 = .ok (.invokevirtual 99, 3) := by decide +kernel
theorem dX8_scan_110 : decode cX8_scan 110 = .ok (.return_, 1) := by decide +kernel
theorem dX8_scan_111 : decode cX8_scan 111 = .ok (.aload_n 0, 1) := by decide +kernel
theorem dX8_scan_112 : decode cX8_scan 112 = .ok (.invokevirtual 103, 3) := by decide +kernel
theorem dX8_scan_115 : decode cX8_scan 115 = .ok (.aload_n 0, 1) := by decide +kernel
theorem dX8_scan_116 : decode cX8_scan 116 = .ok (.getfield 15, 3) := by decide +kernel
theorem dX8_scan_119 : decode cX8_scan 119 = .ok (.invokevirtual 106, 3) := by decide +kernel
theorem dX8_scan_122 : decode cX8_scan 122 = .ok (.iconst 1, 1) := by decide +kernel
theorem dX8_scan_123 : decode cX8_scan 123 = .ok (.if_icmp .ne 4, 3) := by decide +kernel
theorem dX8_scan_126 : decode cX8_scan 126 = .ok (.return_, 1) := by decide +kernel
theorem dX8_scan_127 : decode cX8_scan 127 = .ok (.iinc 1 1, 3) := by decide +kernel
theorem dX8_scan_130 : decode cX8_scan 130 = .ok (.goto (-57), 3) := by decide +kernel
theorem dX8_scan_133 : decode cX8_scan 133 = .ok (.return_, 1) := by decide +kernel
set_option maxHeartbeats 4000000 in
set_option maxRecDepth 100000 in
theorem c_S_scan0 (l : Launch) (d : gD) (b : Nat) (Y : gYt) (F : gM) (S : gSt) (hW : gWT d Y F S) (hz0 : sZ S 0 = 0) (hn0 : sN S 0 = 16) (hz14 : sZ S 14 = 0) (hn14 : sN S 14 = 16) (hz15 : sZ S 15 = 0) (hn15 : sN S 15 = 16) (hz16 : sZ S 16 = 0) (hn16 : sN S 16 = 16) : gMv l d b yX8_scan cX8_scan 2 4 0 0 F [.ref (gO' Y 3)] (fun F' => ∃ S', gWT d Y F' S' ∧ gKp Y F F' ∧ gSm S S' [14, 15, 16, 17, 18, 19, 20] [8, 9] ∧ sZ S' 14 = 0 + 1 ∧ sF S' 14 0 = 0 ∧ sF S' 16 0 = 0) := by
  refine gM_of2 rfl (nL := 2) (Nat.le_of_ble_eq_true rfl) ?_
  intro X hX hC; subst hX
  show gG X d b _ F 0 0 0 [some (.ref (gO' Y 3)), none] []
  have hM0 : gSm S S [14, 15, 16, 17, 18, 19, 20] [8, 9] := gSm.rf
  have hK0 : gKp Y F F := gKp.rf
  refine g_aload_n hC dX8_scan_0 rfl ?_
  refine g_get hC fl_X8_15 (hW.o 3 (by decide)) rfl dX8_scan_1 ?_
  refine g_iconst (v := 0) hC dX8_scan_4 rfl ?_
  refine g_callVv (As := [.int 0]) hC rfl (hW.r 14 (by decide)).1 (c_Ints_cut X.la d b F _ _ _ _ _ _ (hW.r 14 (by decide)) 0) cl_X8_82 rfl rfl (Nat.le_of_ble_eq_true rfl) (gFit_of (Nat.le_of_ble_eq_true rfl) (Nat.le_of_ble_eq_true rfl) (by first | exact Nat.le_of_ble_eq_true rfl | omega | (simp only [gR]; omega)) (by first | exact Nat.le_of_ble_eq_true rfl | omega | (simp only [gR]; omega))) dX8_scan_5 (fun F2 p3 => ?_)
  obtain ⟨S4, hW5, k6, s7, u8, u9, u10, u11, u12⟩ := wt_cut hW (by decide) p3
  have hM13 : gSm S S4 [14, 15, 16, 17, 18, 19, 20] [8, 9] := hM0.tr s7 _ _ rfl rfl
  have hK14 : gKp Y F F2 := hK0.tr k6
  have z15 : sZ S4 0 = 0 := (s7.z 0 (by decide)).trans hz0
  have z16 : sN S4 0 = 16 := (s7.n 0 (by decide)).trans hn0
  have z17 : sZ S4 15 = 0 := (s7.z 15 (by decide)).trans hz15
  have z18 : sN S4 15 = 16 := (s7.n 15 (by decide)).trans hn15
  have z19 : sZ S4 16 = 0 := (s7.z 16 (by decide)).trans hz16
  have z20 : sN S4 16 = 16 := (s7.n 16 (by decide)).trans hn16
  have z21 : sZ S4 14 = 0 := Nat.le_zero.mp (Nat.le_trans u12 (Nat.le_of_eq hz14))
  have z22 : sN S4 14 = 16 := u8.trans hn14
  clear hz0 hn0 hz14 hn14 hz15 hn15 hz16 hn16 hM0 hK0 s7 k6 hW p3 u8 u9 u10 u11 u12
  refine g_aload_n hC dX8_scan_8 rfl ?_
  refine g_get hC fl_X8_21 (hW5.o 3 (by decide)) rfl dX8_scan_9 ?_
  refine g_iconst (v := 0) hC dX8_scan_12 rfl ?_
  refine g_callVv (As := [.int 0]) hC rfl (hW5.r 15 (by decide)).1 (c_Ints_cut X.la d b F2 _ _ _ _ _ _ (hW5.r 15 (by decide)) 0) cl_X8_82 rfl rfl (Nat.le_of_ble_eq_true rfl) (gFit_of (Nat.le_of_ble_eq_true rfl) (Nat.le_of_ble_eq_true rfl) (by first | exact Nat.le_of_ble_eq_true rfl | omega | (simp only [gR]; omega)) (by first | exact Nat.le_of_ble_eq_true rfl | omega | (simp only [gR]; omega))) dX8_scan_13 (fun F24 p25 => ?_)
  obtain ⟨S26, hW27, k28, s29, u30, u31, u32, u33, u34⟩ := wt_cut hW5 (by decide) p25
  have hM35 : gSm S S26 [14, 15, 16, 17, 18, 19, 20] [8, 9] := hM13.tr s29 _ _ rfl rfl
  have hK36 : gKp Y F F24 := hK14.tr k28
  have z37 : sZ S26 0 = 0 := (s29.z 0 (by decide)).trans z15
  have z38 : sN S26 0 = 16 := (s29.n 0 (by decide)).trans z16
  have z39 : sZ S26 16 = 0 := (s29.z 16 (by decide)).trans z19
  have z40 : sN S26 16 = 16 := (s29.n 16 (by decide)).trans z20
  have z41 : sZ S26 14 = 0 := (s29.z 14 (by decide)).trans z21
  have z42 : sN S26 14 = 16 := (s29.n 14 (by decide)).trans z22
  have z43 : sZ S26 15 = 0 := Nat.le_zero.mp (Nat.le_trans u34 (Nat.le_of_eq z17))
  have z44 : sN S26 15 = 16 := u30.trans z18
  clear z15 z16 z17 z18 z19 z20 z21 z22 hM13 hK14 s29 k28 hW5 p25 u30 u31 u32 u33 u34
  refine g_aload_n hC dX8_scan_16 rfl ?_
  refine g_get hC fl_X8_24 (hW27.o 3 (by decide)) rfl dX8_scan_17 ?_
  refine g_iconst (v := 0) hC dX8_scan_20 rfl ?_
  refine g_callVv (As := [.int 0]) hC rfl (hW27.r 16 (by decide)).1 (c_Ints_cut X.la d b F24 _ _ _ _ _ _ (hW27.r 16 (by decide)) 0) cl_X8_82 rfl rfl (Nat.le_of_ble_eq_true rfl) (gFit_of (Nat.le_of_ble_eq_true rfl) (Nat.le_of_ble_eq_true rfl) (by first | exact Nat.le_of_ble_eq_true rfl | omega | (simp only [gR]; omega)) (by first | exact Nat.le_of_ble_eq_true rfl | omega | (simp only [gR]; omega))) dX8_scan_21 (fun F46 p47 => ?_)
  obtain ⟨S48, hW49, k50, s51, u52, u53, u54, u55, u56⟩ := wt_cut hW27 (by decide) p47
  have hM57 : gSm S S48 [14, 15, 16, 17, 18, 19, 20] [8, 9] := hM35.tr s51 _ _ rfl rfl
  have hK58 : gKp Y F F46 := hK36.tr k50
  have z59 : sZ S48 0 = 0 := (s51.z 0 (by decide)).trans z37
  have z60 : sN S48 0 = 16 := (s51.n 0 (by decide)).trans z38
  have z61 : sZ S48 14 = 0 := (s51.z 14 (by decide)).trans z41
  have z62 : sN S48 14 = 16 := (s51.n 14 (by decide)).trans z42
  have z63 : sZ S48 15 = 0 := (s51.z 15 (by decide)).trans z43
  have z64 : sN S48 15 = 16 := (s51.n 15 (by decide)).trans z44
  have z65 : sZ S48 16 = 0 := Nat.le_zero.mp (Nat.le_trans u56 (Nat.le_of_eq z39))
  have z66 : sN S48 16 = 16 := u52.trans z40
  clear z37 z38 z39 z40 z41 z42 z43 z44 hM35 hK36 s51 k50 hW27 p47 u52 u53 u54 u55 u56
  refine g_aload_n hC dX8_scan_24 rfl ?_
  refine g_get hC fl_X8_27 (hW49.o 3 (by decide)) rfl dX8_scan_25 ?_
  refine g_iconst (v := 0) hC dX8_scan_28 rfl ?_
  refine g_callVv (As := [.int 0]) hC rfl (hW49.r 17 (by decide)).1 (c_Ints_cut X.la d b F46 _ _ _ _ _ _ (hW49.r 17 (by decide)) 0) cl_X8_82 rfl rfl (Nat.le_of_ble_eq_true rfl) (gFit_of (Nat.le_of_ble_eq_true rfl) (Nat.le_of_ble_eq_true rfl) (by first | exact Nat.le_of_ble_eq_true rfl | omega | (simp only [gR]; omega)) (by first | exact Nat.le_of_ble_eq_true rfl | omega | (simp only [gR]; omega))) dX8_scan_29 (fun F68 p69 => ?_)
  obtain ⟨S70, hW71, k72, s73, u74, u75, u76, u77, u78⟩ := wt_cut hW49 (by decide) p69
  have hM79 : gSm S S70 [14, 15, 16, 17, 18, 19, 20] [8, 9] := hM57.tr s73 _ _ rfl rfl
  have hK80 : gKp Y F F68 := hK58.tr k72
  have z81 : sZ S70 0 = 0 := (s73.z 0 (by decide)).trans z59
  have z82 : sN S70 0 = 16 := (s73.n 0 (by decide)).trans z60
  have z83 : sZ S70 14 = 0 := (s73.z 14 (by decide)).trans z61
  have z84 : sN S70 14 = 16 := (s73.n 14 (by decide)).trans z62
  have z85 : sZ S70 15 = 0 := (s73.z 15 (by decide)).trans z63
  have z86 : sN S70 15 = 16 := (s73.n 15 (by decide)).trans z64
  have z87 : sZ S70 16 = 0 := (s73.z 16 (by decide)).trans z65
  have z88 : sN S70 16 = 16 := (s73.n 16 (by decide)).trans z66
  clear z59 z60 z61 z62 z63 z64 z65 z66 hM57 hK58 s73 k72 hW49 p69 u74 u75 u76 u77 u78
  refine g_aload_n hC dX8_scan_32 rfl ?_
  refine g_get hC fl_X8_30 (hW71.o 3 (by decide)) rfl dX8_scan_33 ?_
  refine g_aload_n hC dX8_scan_36 rfl ?_
  refine g_get hC fl_X8_66 (hW71.o 3 (by decide)) rfl dX8_scan_37 ?_
  refine g_callVv (As := [.int (sV S70 7)]) hC rfl (hW71.r 18 (by decide)).1 (c_Ints_cut X.la d b F68 _ _ _ _ _ _ (hW71.r 18 (by decide)) (sV S70 7)) cl_X8_82 rfl rfl (Nat.le_of_ble_eq_true rfl) (gFit_of (Nat.le_of_ble_eq_true rfl) (Nat.le_of_ble_eq_true rfl) (by first | exact Nat.le_of_ble_eq_true rfl | omega | (simp only [gR]; omega)) (by first | exact Nat.le_of_ble_eq_true rfl | omega | (simp only [gR]; omega))) dX8_scan_40 (fun F90 p91 => ?_)
  obtain ⟨S92, hW93, k94, s95, u96, u97, u98, u99, u100⟩ := wt_cut hW71 (by decide) p91
  have hM101 : gSm S S92 [14, 15, 16, 17, 18, 19, 20] [8, 9] := hM79.tr s95 _ _ rfl rfl
  have hK102 : gKp Y F F90 := hK80.tr k94
  have z103 : sZ S92 0 = 0 := (s95.z 0 (by decide)).trans z81
  have z104 : sN S92 0 = 16 := (s95.n 0 (by decide)).trans z82
  have z105 : sZ S92 14 = 0 := (s95.z 14 (by decide)).trans z83
  have z106 : sN S92 14 = 16 := (s95.n 14 (by decide)).trans z84
  have z107 : sZ S92 15 = 0 := (s95.z 15 (by decide)).trans z85
  have z108 : sN S92 15 = 16 := (s95.n 15 (by decide)).trans z86
  have z109 : sZ S92 16 = 0 := (s95.z 16 (by decide)).trans z87
  have z110 : sN S92 16 = 16 := (s95.n 16 (by decide)).trans z88
  clear z81 z82 z83 z84 z85 z86 z87 z88 hM79 hK80 s95 k94 hW71 p91 u96 u97 u98 u99 u100
  refine g_aload_n hC dX8_scan_43 rfl ?_
  refine g_get hC fl_X8_33 (hW93.o 3 (by decide)) rfl dX8_scan_44 ?_
  refine g_bipush (v := 61) hC dX8_scan_47 rfl ?_
  refine g_callVv (As := [.int 61]) hC rfl (hW93.r 19 (by decide)).1 (c_Ints_cut X.la d b F90 _ _ _ _ _ _ (hW93.r 19 (by decide)) 61) cl_X8_82 rfl rfl (Nat.le_of_ble_eq_true rfl) (gFit_of (Nat.le_of_ble_eq_true rfl) (Nat.le_of_ble_eq_true rfl) (by first | exact Nat.le_of_ble_eq_true rfl | omega | (simp only [gR]; omega)) (by first | exact Nat.le_of_ble_eq_true rfl | omega | (simp only [gR]; omega))) dX8_scan_49 (fun F112 p113 => ?_)
  obtain ⟨S114, hW115, k116, s117, u118, u119, u120, u121, u122⟩ := wt_cut hW93 (by decide) p113
  have hM123 : gSm S S114 [14, 15, 16, 17, 18, 19, 20] [8, 9] := hM101.tr s117 _ _ rfl rfl
  have hK124 : gKp Y F F112 := hK102.tr k116
  have z125 : sZ S114 0 = 0 := (s117.z 0 (by decide)).trans z103
  have z126 : sN S114 0 = 16 := (s117.n 0 (by decide)).trans z104
  have z127 : sZ S114 14 = 0 := (s117.z 14 (by decide)).trans z105
  have z128 : sN S114 14 = 16 := (s117.n 14 (by decide)).trans z106
  have z129 : sZ S114 15 = 0 := (s117.z 15 (by decide)).trans z107
  have z130 : sN S114 15 = 16 := (s117.n 15 (by decide)).trans z108
  have z131 : sZ S114 16 = 0 := (s117.z 16 (by decide)).trans z109
  have z132 : sN S114 16 = 16 := (s117.n 16 (by decide)).trans z110
  clear z103 z104 z105 z106 z107 z108 z109 z110 hM101 hK102 s117 k116 hW93 p113 u118 u119 u120 u121 u122
  refine g_aload_n hC dX8_scan_52 rfl ?_
  refine g_get hC fl_X8_36 (hW115.o 3 (by decide)) rfl dX8_scan_53 ?_
  refine g_bipush (v := 61) hC dX8_scan_56 rfl ?_
  refine g_callVv (As := [.int 61]) hC rfl (hW115.r 20 (by decide)).1 (c_Ints_cut X.la d b F112 _ _ _ _ _ _ (hW115.r 20 (by decide)) 61) cl_X8_82 rfl rfl (Nat.le_of_ble_eq_true rfl) (gFit_of (Nat.le_of_ble_eq_true rfl) (Nat.le_of_ble_eq_true rfl) (by first | exact Nat.le_of_ble_eq_true rfl | omega | (simp only [gR]; omega)) (by first | exact Nat.le_of_ble_eq_true rfl | omega | (simp only [gR]; omega))) dX8_scan_58 (fun F134 p135 => ?_)
  obtain ⟨S136, hW137, k138, s139, u140, u141, u142, u143, u144⟩ := wt_cut hW115 (by decide) p135
  have hM145 : gSm S S136 [14, 15, 16, 17, 18, 19, 20] [8, 9] := hM123.tr s139 _ _ rfl rfl
  have hK146 : gKp Y F F134 := hK124.tr k138
  have z147 : sZ S136 0 = 0 := (s139.z 0 (by decide)).trans z125
  have z148 : sN S136 0 = 16 := (s139.n 0 (by decide)).trans z126
  have z149 : sZ S136 14 = 0 := (s139.z 14 (by decide)).trans z127
  have z150 : sN S136 14 = 16 := (s139.n 14 (by decide)).trans z128
  have z151 : sZ S136 15 = 0 := (s139.z 15 (by decide)).trans z129
  have z152 : sN S136 15 = 16 := (s139.n 15 (by decide)).trans z130
  have z153 : sZ S136 16 = 0 := (s139.z 16 (by decide)).trans z131
  have z154 : sN S136 16 = 16 := (s139.n 16 (by decide)).trans z132
  clear z125 z126 z127 z128 z129 z130 z131 z132 hM123 hK124 s139 k138 hW115 p135 u140 u141 u142 u143 u144
  refine g_aload_n hC dX8_scan_61 rfl ?_
  refine g_iconst (v := 0) hC dX8_scan_62 rfl ?_
  refine g_put hC fl_X8_39 (hW137.o 3 (by decide)) rfl rfl (Nat.le_of_ble_eq_true rfl) dX8_scan_63 ?_
  refine g_vF (fun F155 hF155 => ?_)
  obtain ⟨hW157, k158⟩ := gWT.put (k := 8) (x := 0) hW137 (i := 3) (by decide) hF155 rfl gsame_8 (fun q => absurd q (by decide))
  obtain ⟨S156, hS156⟩ : ∃ z, z = uV S136 8 0 := ⟨_, rfl⟩
  rw [← hS156] at hW157
  have s159 : gSm S136 S156 [] [8] := by rw [hS156]; exact gSm_uV
  have hM160 : gSm S S156 [14, 15, 16, 17, 18, 19, 20] [8, 9] := hM145.tr s159 _ _ rfl rfl
  have hK161 : gKp Y F F155 := hK146.tr k158
  have z162 : sZ S156 0 = 0 := (s159.z 0 (by decide)).trans z147
  have z163 : sN S156 0 = 16 := (s159.n 0 (by decide)).trans z148
  have z164 : sZ S156 14 = 0 := (s159.z 14 (by decide)).trans z149
  have z165 : sN S156 14 = 16 := (s159.n 14 (by decide)).trans z150
  have z166 : sZ S156 15 = 0 := (s159.z 15 (by decide)).trans z151
  have z167 : sN S156 15 = 16 := (s159.n 15 (by decide)).trans z152
  have z168 : sZ S156 16 = 0 := (s159.z 16 (by decide)).trans z153
  have z169 : sN S156 16 = 16 := (s159.n 16 (by decide)).trans z154
  have z170 : sV S156 8 = 0 := by rw [hS156]; exact uV_self
  clear z147 z148 z149 z150 z151 z152 z153 z154 hM145 hK146 s159 k158 hW137
  refine g_aload_n hC dX8_scan_66 rfl ?_
  refine g_iconst (v := 0) hC dX8_scan_67 rfl ?_
  refine g_put hC fl_X8_43 (hW157.o 3 (by decide)) rfl rfl (Nat.le_of_ble_eq_true rfl) dX8_scan_68 ?_
  refine g_vF (fun F171 hF171 => ?_)
  obtain ⟨hW173, k174⟩ := gWT.put (k := 9) (x := 0) hW157 (i := 3) (by decide) hF171 rfl gsame_9 (fun _ => by decide)
  obtain ⟨S172, hS172⟩ : ∃ z, z = uV S156 9 0 := ⟨_, rfl⟩
  rw [← hS172] at hW173
  have s175 : gSm S156 S172 [] [9] := by rw [hS172]; exact gSm_uV
  have hM176 : gSm S S172 [14, 15, 16, 17, 18, 19, 20] [8, 9] := hM160.tr s175 _ _ rfl rfl
  have hK177 : gKp Y F F171 := hK161.tr k174
  have z178 : sZ S172 0 = 0 := (s175.z 0 (by decide)).trans z162
  have z179 : sN S172 0 = 16 := (s175.n 0 (by decide)).trans z163
  have z180 : sZ S172 14 = 0 := (s175.z 14 (by decide)).trans z164
  have z181 : sN S172 14 = 16 := (s175.n 14 (by decide)).trans z165
  have z182 : sZ S172 15 = 0 := (s175.z 15 (by decide)).trans z166
  have z183 : sN S172 15 = 16 := (s175.n 15 (by decide)).trans z167
  have z184 : sZ S172 16 = 0 := (s175.z 16 (by decide)).trans z168
  have z185 : sN S172 16 = 16 := (s175.n 16 (by decide)).trans z169
  have z186 : sV S172 8 = 0 := (s175.v 8 (by decide)).trans z170
  have z187 : sV S172 9 = 0 := by rw [hS172]; exact uV_self
  clear z162 z163 z164 z165 z166 z167 z168 z169 z170 hM160 hK161 s175 k174 hW157
  refine g_iconst (v := 0) hC dX8_scan_71 rfl ?_
  refine g_istore_n (lv' := [some (.ref (gO' Y 3)), some (.int 0)]) hC dX8_scan_72 (Nat.le_of_ble_eq_true rfl) rfl rfl ?_
  refine g_iload_n hC dX8_scan_73 rfl ?_
  refine g_ldc hC dX8_scan_74 kw_370 ?_
  refine g_icmp_ge (tgt := 133) hC dX8_scan_76 (by decide) (fun c188 => ?_) (fun c188 => ?_)
  · exact absurd c188 (by decide)
  · refine g_aload_n hC dX8_scan_79 rfl ?_
    refine g_callVv (As := []) hC rfl (hW173.o 3 (by decide)) (c_S_pass0 X.la d b Y F171 S172 hW173 z178 z186) cl_X8_96 rfl rfl (Nat.le_of_ble_eq_true rfl) (gFit_of (Nat.le_of_ble_eq_true rfl) (Nat.le_of_ble_eq_true rfl) (by first | exact Nat.le_of_ble_eq_true rfl | omega | (simp only [gR]; omega)) (by first | exact Nat.le_of_ble_eq_true rfl | omega | (simp only [gR]; omega))) dX8_scan_80 (fun F189 p190 => ?_)
    have eF189 := p190.symm; subst eF189
    refine g_aload_n hC dX8_scan_83 rfl ?_
    refine g_get hC fl_X8_39 (hW173.o 3 (by decide)) rfl dX8_scan_84 ?_
    refine g_aload_n hC dX8_scan_87 rfl ?_
    refine g_get hC fl_X8_47 (hW173.o 3 (by decide)) rfl dX8_scan_88 ?_
    refine g_callVi (As := []) hC rfl (hW173.r 0 (by decide)).1 (c_Ints_size X.la d b F171 _ _ _ _ _ _ (hW173.r 0 (by decide))) cl_X8_62 rfl rfl (Nat.le_of_ble_eq_true rfl) (gFit_of (Nat.le_of_ble_eq_true rfl) (Nat.le_of_ble_eq_true rfl) (by first | exact Nat.le_of_ble_eq_true rfl | omega | (simp only [gR]; omega)) (by first | exact Nat.le_of_ble_eq_true rfl | omega | (simp only [gR]; omega))) dX8_scan_91 (fun r192 F193 p194 => ?_)
    obtain ⟨rfl, eF193⟩ := p194; have eF193 := eF193.symm; subst eF193
    refine g_icmp_lt (tgt := 111) hC dX8_scan_94 (by decide) (fun c195 => ?_) (fun c195 => ?_)
    · rw [z178, z186] at c195; exact absurd c195 (by decide)
    · refine g_aload_n hC dX8_scan_97 rfl ?_
      refine g_iconst (v := 0) hC dX8_scan_98 rfl ?_
      refine g_iconst (v := 0) hC dX8_scan_99 rfl ?_
      refine g_aload_n hC dX8_scan_100 rfl ?_
      refine g_get hC fl_X8_47 (hW173.o 3 (by decide)) rfl dX8_scan_101 ?_
      refine g_callVi (As := []) hC rfl (hW173.r 0 (by decide)).1 (c_Ints_size X.la d b F171 _ _ _ _ _ _ (hW173.r 0 (by decide))) cl_X8_62 rfl rfl (Nat.le_of_ble_eq_true rfl) (gFit_of (Nat.le_of_ble_eq_true rfl) (Nat.le_of_ble_eq_true rfl) (by first | exact Nat.le_of_ble_eq_true rfl | omega | (simp only [gR]; omega)) (by first | exact Nat.le_of_ble_eq_true rfl | omega | (simp only [gR]; omega))) dX8_scan_104 (fun r196 F197 p198 => ?_)
      obtain ⟨rfl, eF197⟩ := p198; have eF197 := eF197.symm; subst eF197
      refine g_callVv (As := [.int 0, .int 0, .int (nI (sZ S172 0))]) hC rfl (hW173.o 3 (by decide)) (c_S_put0 X.la d b Y F171 S172 hW173 0 0 (nI (sZ S172 0)) z187 z180 z181 z182 z183 z184 z185) cl_X8_99 rfl rfl (Nat.le_of_ble_eq_true rfl) (gFit_of (Nat.le_of_ble_eq_true rfl) (Nat.le_of_ble_eq_true rfl) (by first | exact Nat.le_of_ble_eq_true rfl | omega | (simp only [gR]; omega)) (by first | exact Nat.le_of_ble_eq_true rfl | omega | (simp only [gR]; omega))) dX8_scan_107 (fun F199 p200 => ?_)
      obtain ⟨S202, hW203, k204, s205, y206, y207, y208, y209, y210⟩ := p200
      have hM211 : gSm S S202 [14, 15, 16, 17, 18, 19, 20] [8, 9] := hM176.tr s205 _ _ rfl rfl
      have hK212 : gKp Y F F199 := hK177.tr k204
      have z213 : sZ S202 0 = 0 := (s205.z 0 (by decide)).trans z178
      have z214 : sN S202 0 = 16 := (s205.n 0 (by decide)).trans z179
      have z215 : sV S202 8 = 0 := (s205.v 8 (by decide)).trans z186
      have hu : sF S202 16 0 = 0 := y210.trans (by rw [z178]; rfl)
      clear z178 z179 z180 z181 z182 z183 z184 z185 z186 z187 hM176 hK177 s205 k204 hW173
      exact g_vret hC ⟨S202, hW203, hK212, hM211, y206, y209, hu⟩ (by first | exact Nat.le_of_ble_eq_true rfl | omega | (simp only [gR]; omega)) (by first | exact Nat.le_of_ble_eq_true rfl | omega | (simp only [gR]; omega)) dX8_scan_110
