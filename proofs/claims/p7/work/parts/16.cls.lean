theorem kw_306 : Cond.fieldLink RX7 43 "WordTongue$Program" "kind" "I" ∈ gWs := List.mem_filter.mpr ⟨gMt1 _ (List.mem_of_getElem? (i := 69) rfl), rfl⟩
theorem kw_309 : Cond.laysFinal RX7 "WordTongue$Program" "code" "LWordTongue$Ints;" ∈ gWs := List.mem_filter.mpr ⟨gMt1 _ (List.mem_of_getElem? (i := 72) rfl), rfl⟩
theorem kw_311 : Cond.laysFinal RX7 "WordTongue$Program" "image" "LWordTongue$Ints;" ∈ gWs := List.mem_filter.mpr ⟨gMt1 _ (List.mem_of_getElem? (i := 74) rfl), rfl⟩
theorem kw_313 : Cond.laysFinal RX7 "WordTongue$Program" "homes" "LWordTongue$Ints;" ∈ gWs := List.mem_filter.mpr ⟨gMt1 _ (List.mem_of_getElem? (i := 76) rfl), rfl⟩
theorem kw_315 : Cond.laysFinal RX7 "WordTongue$Program" "starts" "LWordTongue$Ints;" ∈ gWs := List.mem_filter.mpr ⟨gMt1 _ (List.mem_of_getElem? (i := 78) rfl), rfl⟩
theorem kw_317 : Cond.laysFinal RX7 "WordTongue$Program" "frames" "LWordTongue$Ints;" ∈ gWs := List.mem_filter.mpr ⟨gMt1 _ (List.mem_of_getElem? (i := 80) rfl), rfl⟩
theorem kw_319 : Cond.laysFinal RX7 "WordTongue$Program" "params" "LWordTongue$Ints;" ∈ gWs := List.mem_filter.mpr ⟨gMt1 _ (List.mem_of_getElem? (i := 82) rfl), rfl⟩
theorem kw_321 : Cond.lays RX7 "WordTongue$Program" "storeWords" "I" ∈ gWs := List.mem_filter.mpr ⟨gMt1 _ (List.mem_of_getElem? (i := 84) rfl), rfl⟩
theorem kw_323 : Cond.lays RX7 "WordTongue$Program" "starter" "I" ∈ gWs := List.mem_filter.mpr ⟨gMt1 _ (List.mem_of_getElem? (i := 86) rfl), rfl⟩
theorem kw_325 : Cond.lays RX7 "WordTongue$Program" "kind" "I" ∈ gWs := List.mem_filter.mpr ⟨gMt1 _ (List.mem_of_getElem? (i := 88) rfl), rfl⟩
theorem kw_327 : Cond.lays RX7 "WordTongue$Program" "place" "I" ∈ gWs := List.mem_filter.mpr ⟨gMt1 _ (List.mem_of_getElem? (i := 90) rfl), rfl⟩
theorem kw_329 : Cond.lays RX7 "WordTongue$Program" "ready" "Z" ∈ gWs := List.mem_filter.mpr ⟨gMt1 _ (List.mem_of_getElem? (i := 92) rfl), rfl⟩
set_option maxRecDepth 20000 in
theorem inW_RX7 : ∀ w ∈ u_ws RX7 TX7 11, w ∈ gWs := List.forall_mem_cons.mpr ⟨kw_309, List.forall_mem_cons.mpr ⟨kw_311, List.forall_mem_cons.mpr ⟨kw_313, List.forall_mem_cons.mpr ⟨kw_315, List.forall_mem_cons.mpr ⟨kw_317, List.forall_mem_cons.mpr ⟨kw_319, List.forall_mem_cons.mpr ⟨kw_321, List.forall_mem_cons.mpr ⟨kw_323, List.forall_mem_cons.mpr ⟨kw_325, List.forall_mem_cons.mpr ⟨kw_327, List.forall_mem_cons.mpr ⟨kw_329, fun _ h => nomatch h⟩⟩⟩⟩⟩⟩⟩⟩⟩⟩⟩
theorem fl_X7_43 : gFL RX7 43 7 8 .int false := ⟨RX7, TX7, 11, tyX7, rfl, by decide, inW_RX7, kw_306, tyX7_ok, nmX7, rfl, by decide +kernel, fun h => by cases h⟩
theorem kw_307 : Cond.fieldLink RX7 46 "WordTongue$Program" "place" "I" ∈ gWs := List.mem_filter.mpr ⟨gMt1 _ (List.mem_of_getElem? (i := 70) rfl), rfl⟩
theorem fl_X7_46 : gFL RX7 46 7 9 .int false := ⟨RX7, TX7, 11, tyX7, rfl, by decide, inW_RX7, kw_307, tyX7_ok, nmX7, rfl, by decide +kernel, fun h => by cases h⟩
theorem kw_308 : Cond.fieldLink RX7 49 "WordTongue$Program" "ready" "Z" ∈ gWs := List.mem_filter.mpr ⟨gMt1 _ (List.mem_of_getElem? (i := 71) rfl), rfl⟩
theorem fl_X7_49 : gFL RX7 49 7 10 .boolean false := ⟨RX7, TX7, 11, tyX7, rfl, by decide, inW_RX7, kw_308, tyX7_ok, nmX7, rfl, by decide +kernel, fun h => by cases h⟩
theorem kw_299 : Cond.fieldLink RX7 21 "WordTongue$Program" "image" "LWordTongue$Ints;" ∈ gWs := List.mem_filter.mpr ⟨gMt1 _ (List.mem_of_getElem? (i := 62) rfl), rfl⟩
theorem fl_X7_21 : gFL RX7 21 7 1 (.object "WordTongue$Ints") true := ⟨RX7, TX7, 11, tyX7, rfl, by decide, inW_RX7, kw_299, tyX7_ok, nmX7, rfl, by decide +kernel, fun _ => rfl⟩
theorem kw_239 : Cond.initialized RX4 ∈ gWs := List.mem_filter.mpr ⟨gMt1 _ (List.mem_of_getElem? (i := 2) rfl), rfl⟩
theorem kw_428 : Cond.code yX4_size cX4_size 1 (some .int) ∈ gWs := List.mem_filter.mpr ⟨gMt1 _ (List.mem_of_getElem? (i := 191) rfl), rfl⟩
theorem kw_859 : Cond.methodLink RX7 67 yX4_size ∈ gWs := List.mem_filter.mpr ⟨gMt3 _ (List.mem_of_getElem? (i := 142) rfl), rfl⟩
theorem kw_426 : Cond.instanceMethod yX4_size ∈ gWs := List.mem_filter.mpr ⟨gMt1 _ (List.mem_of_getElem? (i := 189) rfl), rfl⟩
theorem kw_427 : Cond.selects RX4 yX4_size yX4_size ∈ gWs := List.mem_filter.mpr ⟨gMt1 _ (List.mem_of_getElem? (i := 190) rfl), rfl⟩
theorem cl_X7_67 : gCV RX7 67 yX4_size cX4_size 1 (some .int) 0 := ⟨g_mk [.methodLink RX7 67 yX4_size, .instanceMethod yX4_size, .selects yX4_size.cls yX4_size yX4_size, .initialized yX4_size.cls] (gWs_all kw_428) (List.forall_mem_cons.mpr ⟨kw_859, List.forall_mem_cons.mpr ⟨kw_426, List.forall_mem_cons.mpr ⟨kw_427, List.forall_mem_cons.mpr ⟨kw_239, fun _ h => nomatch h⟩⟩⟩⟩), rfl, by decide +kernel, by decide +kernel, by decide +kernel⟩
theorem kw_298 : Cond.fieldLink RX7 15 "WordTongue$Program" "code" "LWordTongue$Ints;" ∈ gWs := List.mem_filter.mpr ⟨gMt1 _ (List.mem_of_getElem? (i := 61) rfl), rfl⟩
theorem fl_X7_15 : gFL RX7 15 7 0 (.object "WordTongue$Ints") true := ⟨RX7, TX7, 11, tyX7, rfl, by decide, inW_RX7, kw_298, tyX7_ok, nmX7, rfl, by decide +kernel, fun _ => rfl⟩
theorem kw_444 : Cond.code yX4_add cX4_add 2 none ∈ gWs := List.mem_filter.mpr ⟨gMt1 _ (List.mem_of_getElem? (i := 207) rfl), rfl⟩
theorem kw_854 : Cond.methodLink RX7 56 yX4_add ∈ gWs := List.mem_filter.mpr ⟨gMt3 _ (List.mem_of_getElem? (i := 137) rfl), rfl⟩
theorem kw_442 : Cond.instanceMethod yX4_add ∈ gWs := List.mem_filter.mpr ⟨gMt1 _ (List.mem_of_getElem? (i := 205) rfl), rfl⟩
theorem kw_443 : Cond.selects RX4 yX4_add yX4_add ∈ gWs := List.mem_filter.mpr ⟨gMt1 _ (List.mem_of_getElem? (i := 206) rfl), rfl⟩
theorem cl_X7_56 : gCV RX7 56 yX4_add cX4_add 2 none 1 := ⟨g_mk [.methodLink RX7 56 yX4_add, .instanceMethod yX4_add, .selects yX4_add.cls yX4_add yX4_add, .initialized yX4_add.cls] (gWs_all kw_444) (List.forall_mem_cons.mpr ⟨kw_854, List.forall_mem_cons.mpr ⟨kw_442, List.forall_mem_cons.mpr ⟨kw_443, List.forall_mem_cons.mpr ⟨kw_239, fun _ h => nomatch h⟩⟩⟩⟩), rfl, by decide +kernel, by decide +kernel, by decide +kernel⟩
theorem kw_468 : Cond.code yX4_cut cX4_cut 2 none ∈ gWs := List.mem_filter.mpr ⟨gMt1 _ (List.mem_of_getElem? (i := 231) rfl), rfl⟩
theorem kw_853 : Cond.methodLink RX7 53 yX4_cut ∈ gWs := List.mem_filter.mpr ⟨gMt3 _ (List.mem_of_getElem? (i := 136) rfl), rfl⟩
theorem kw_466 : Cond.instanceMethod yX4_cut ∈ gWs := List.mem_filter.mpr ⟨gMt1 _ (List.mem_of_getElem? (i := 229) rfl), rfl⟩
theorem kw_467 : Cond.selects RX4 yX4_cut yX4_cut ∈ gWs := List.mem_filter.mpr ⟨gMt1 _ (List.mem_of_getElem? (i := 230) rfl), rfl⟩
theorem cl_X7_53 : gCV RX7 53 yX4_cut cX4_cut 2 none 1 := ⟨g_mk [.methodLink RX7 53 yX4_cut, .instanceMethod yX4_cut, .selects yX4_cut.cls yX4_cut yX4_cut, .initialized yX4_cut.cls] (gWs_all kw_468) (List.forall_mem_cons.mpr ⟨kw_853, List.forall_mem_cons.mpr ⟨kw_466, List.forall_mem_cons.mpr ⟨kw_467, List.forall_mem_cons.mpr ⟨kw_239, fun _ h => nomatch h⟩⟩⟩⟩), rfl, by decide +kernel, by decide +kernel, by decide +kernel⟩
theorem kw_300 : Cond.fieldLink RX7 24 "WordTongue$Program" "homes" "LWordTongue$Ints;" ∈ gWs := List.mem_filter.mpr ⟨gMt1 _ (List.mem_of_getElem? (i := 63) rfl), rfl⟩
theorem fl_X7_24 : gFL RX7 24 7 2 (.object "WordTongue$Ints") true := ⟨RX7, TX7, 11, tyX7, rfl, by decide, inW_RX7, kw_300, tyX7_ok, nmX7, rfl, by decide +kernel, fun _ => rfl⟩
theorem kw_301 : Cond.fieldLink RX7 27 "WordTongue$Program" "starts" "LWordTongue$Ints;" ∈ gWs := List.mem_filter.mpr ⟨gMt1 _ (List.mem_of_getElem? (i := 64) rfl), rfl⟩
theorem fl_X7_27 : gFL RX7 27 7 3 (.object "WordTongue$Ints") true := ⟨RX7, TX7, 11, tyX7, rfl, by decide, inW_RX7, kw_301, tyX7_ok, nmX7, rfl, by decide +kernel, fun _ => rfl⟩
theorem kw_302 : Cond.fieldLink RX7 30 "WordTongue$Program" "frames" "LWordTongue$Ints;" ∈ gWs := List.mem_filter.mpr ⟨gMt1 _ (List.mem_of_getElem? (i := 65) rfl), rfl⟩
theorem fl_X7_30 : gFL RX7 30 7 4 (.object "WordTongue$Ints") true := ⟨RX7, TX7, 11, tyX7, rfl, by decide, inW_RX7, kw_302, tyX7_ok, nmX7, rfl, by decide +kernel, fun _ => rfl⟩
theorem kw_303 : Cond.fieldLink RX7 33 "WordTongue$Program" "params" "LWordTongue$Ints;" ∈ gWs := List.mem_filter.mpr ⟨gMt1 _ (List.mem_of_getElem? (i := 66) rfl), rfl⟩
theorem fl_X7_33 : gFL RX7 33 7 5 (.object "WordTongue$Ints") true := ⟨RX7, TX7, 11, tyX7, rfl, by decide, inW_RX7, kw_303, tyX7_ok, nmX7, rfl, by decide +kernel, fun _ => rfl⟩
theorem kw_240 : Cond.initialized RX7 ∈ gWs := List.mem_filter.mpr ⟨gMt1 _ (List.mem_of_getElem? (i := 3) rfl), rfl⟩
theorem kw_858 : Cond.code yX7_emit cX7_emit 3 (some .int) ∈ gWs := List.mem_filter.mpr ⟨gMt3 _ (List.mem_of_getElem? (i := 141) rfl), rfl⟩
theorem kw_855 : Cond.methodLink RX7 59 yX7_emit ∈ gWs := List.mem_filter.mpr ⟨gMt3 _ (List.mem_of_getElem? (i := 138) rfl), rfl⟩
theorem kw_856 : Cond.instanceMethod yX7_emit ∈ gWs := List.mem_filter.mpr ⟨gMt3 _ (List.mem_of_getElem? (i := 139) rfl), rfl⟩
theorem kw_857 : Cond.selects RX7 yX7_emit yX7_emit ∈ gWs := List.mem_filter.mpr ⟨gMt3 _ (List.mem_of_getElem? (i := 140) rfl), rfl⟩
theorem cl_X7_59 : gCV RX7 59 yX7_emit cX7_emit 3 (some .int) 2 := ⟨g_mk [.methodLink RX7 59 yX7_emit, .instanceMethod yX7_emit, .selects yX7_emit.cls yX7_emit yX7_emit, .initialized yX7_emit.cls] (gWs_all kw_858) (List.forall_mem_cons.mpr ⟨kw_855, List.forall_mem_cons.mpr ⟨kw_856, List.forall_mem_cons.mpr ⟨kw_857, List.forall_mem_cons.mpr ⟨kw_240, fun _ h => nomatch h⟩⟩⟩⟩), rfl, by decide +kernel, by decide +kernel, by decide +kernel⟩
theorem kw_304 : Cond.fieldLink RX7 36 "WordTongue$Program" "storeWords" "I" ∈ gWs := List.mem_filter.mpr ⟨gMt1 _ (List.mem_of_getElem? (i := 67) rfl), rfl⟩
theorem fl_X7_36 : gFL RX7 36 7 6 .int false := ⟨RX7, TX7, 11, tyX7, rfl, by decide, inW_RX7, kw_304, tyX7_ok, nmX7, rfl, by decide +kernel, fun h => by cases h⟩
theorem kw_305 : Cond.fieldLink RX7 40 "WordTongue$Program" "starter" "I" ∈ gWs := List.mem_filter.mpr ⟨gMt1 _ (List.mem_of_getElem? (i := 68) rfl), rfl⟩
theorem fl_X7_40 : gFL RX7 40 7 7 .int false := ⟨RX7, TX7, 11, tyX7, rfl, by decide, inW_RX7, kw_305, tyX7_ok, nmX7, rfl, by decide +kernel, fun h => by cases h⟩
theorem kw_1212 : Cond.code yX7_words cX7_words 1 (some .int) ∈ gWs := List.mem_filter.mpr ⟨gMt5 _ (List.mem_of_getElem? (i := 15) rfl), rfl⟩
theorem kw_1583 : Cond.methodLink RX7 63 yX7_words ∈ gWs := List.mem_filter.mpr ⟨gMt6 _ (List.mem_of_getElem? (i := 146) rfl), rfl⟩
theorem kw_1210 : Cond.instanceMethod yX7_words ∈ gWs := List.mem_filter.mpr ⟨gMt5 _ (List.mem_of_getElem? (i := 13) rfl), rfl⟩
theorem kw_1211 : Cond.selects RX7 yX7_words yX7_words ∈ gWs := List.mem_filter.mpr ⟨gMt5 _ (List.mem_of_getElem? (i := 14) rfl), rfl⟩
theorem cl_X7_63 : gCV RX7 63 yX7_words cX7_words 1 (some .int) 0 := ⟨g_mk [.methodLink RX7 63 yX7_words, .instanceMethod yX7_words, .selects yX7_words.cls yX7_words yX7_words, .initialized yX7_words.cls] (gWs_all kw_1212) (List.forall_mem_cons.mpr ⟨kw_1583, List.forall_mem_cons.mpr ⟨kw_1210, List.forall_mem_cons.mpr ⟨kw_1211, List.forall_mem_cons.mpr ⟨kw_240, fun _ h => nomatch h⟩⟩⟩⟩), rfl, by decide +kernel, by decide +kernel, by decide +kernel⟩
theorem kw_341 : Cond.fieldLink RX10 15 "WordTongue$Tree" "kinds" "LWordTongue$Ints;" ∈ gWs := List.mem_filter.mpr ⟨gMt1 _ (List.mem_of_getElem? (i := 104) rfl), rfl⟩
theorem kw_348 : Cond.laysFinal RX10 "WordTongue$Tree" "kinds" "LWordTongue$Ints;" ∈ gWs := List.mem_filter.mpr ⟨gMt1 _ (List.mem_of_getElem? (i := 111) rfl), rfl⟩
theorem kw_350 : Cond.laysFinal RX10 "WordTongue$Tree" "places" "LWordTongue$Ints;" ∈ gWs := List.mem_filter.mpr ⟨gMt1 _ (List.mem_of_getElem? (i := 113) rfl), rfl⟩
theorem kw_352 : Cond.laysFinal RX10 "WordTongue$Tree" "datas" "LWordTongue$Ints;" ∈ gWs := List.mem_filter.mpr ⟨gMt1 _ (List.mem_of_getElem? (i := 115) rfl), rfl⟩
theorem kw_354 : Cond.laysFinal RX10 "WordTongue$Tree" "extras" "LWordTongue$Ints;" ∈ gWs := List.mem_filter.mpr ⟨gMt1 _ (List.mem_of_getElem? (i := 117) rfl), rfl⟩
theorem kw_356 : Cond.laysFinal RX10 "WordTongue$Tree" "firsts" "LWordTongue$Ints;" ∈ gWs := List.mem_filter.mpr ⟨gMt1 _ (List.mem_of_getElem? (i := 119) rfl), rfl⟩
theorem kw_358 : Cond.laysFinal RX10 "WordTongue$Tree" "lasts" "LWordTongue$Ints;" ∈ gWs := List.mem_filter.mpr ⟨gMt1 _ (List.mem_of_getElem? (i := 121) rfl), rfl⟩
theorem kw_360 : Cond.laysFinal RX10 "WordTongue$Tree" "nexts" "LWordTongue$Ints;" ∈ gWs := List.mem_filter.mpr ⟨gMt1 _ (List.mem_of_getElem? (i := 123) rfl), rfl⟩
set_option maxRecDepth 20000 in
theorem inW_RX10 : ∀ w ∈ u_ws RX10 TX10 7, w ∈ gWs := List.forall_mem_cons.mpr ⟨kw_348, List.forall_mem_cons.mpr ⟨kw_350, List.forall_mem_cons.mpr ⟨kw_352, List.forall_mem_cons.mpr ⟨kw_354, List.forall_mem_cons.mpr ⟨kw_356, List.forall_mem_cons.mpr ⟨kw_358, List.forall_mem_cons.mpr ⟨kw_360, fun _ h => nomatch h⟩⟩⟩⟩⟩⟩⟩
theorem fl_X10_15 : gFL RX10 15 10 0 (.object "WordTongue$Ints") true := ⟨RX10, TX10, 7, tyX10, rfl, by decide, inW_RX10, kw_341, tyX10_ok, nmX10, rfl, by decide +kernel, fun _ => rfl⟩
theorem kw_960 : Cond.methodLink RX10 46 yX4_add ∈ gWs := List.mem_filter.mpr ⟨gMt4 _ (List.mem_of_getElem? (i := 3) rfl), rfl⟩
theorem cl_X10_46 : gCV RX10 46 yX4_add cX4_add 2 none 1 := ⟨g_mk [.methodLink RX10 46 yX4_add, .instanceMethod yX4_add, .selects yX4_add.cls yX4_add yX4_add, .initialized yX4_add.cls] (gWs_all kw_444) (List.forall_mem_cons.mpr ⟨kw_960, List.forall_mem_cons.mpr ⟨kw_442, List.forall_mem_cons.mpr ⟨kw_443, List.forall_mem_cons.mpr ⟨kw_239, fun _ h => nomatch h⟩⟩⟩⟩), rfl, by decide +kernel, by decide +kernel, by decide +kernel⟩
theorem kw_342 : Cond.fieldLink RX10 21 "WordTongue$Tree" "places" "LWordTongue$Ints;" ∈ gWs := List.mem_filter.mpr ⟨gMt1 _ (List.mem_of_getElem? (i := 105) rfl), rfl⟩
theorem fl_X10_21 : gFL RX10 21 10 1 (.object "WordTongue$Ints") true := ⟨RX10, TX10, 7, tyX10, rfl, by decide, inW_RX10, kw_342, tyX10_ok, nmX10, rfl, by decide +kernel, fun _ => rfl⟩
theorem kw_343 : Cond.fieldLink RX10 24 "WordTongue$Tree" "datas" "LWordTongue$Ints;" ∈ gWs := List.mem_filter.mpr ⟨gMt1 _ (List.mem_of_getElem? (i := 106) rfl), rfl⟩
theorem fl_X10_24 : gFL RX10 24 10 2 (.object "WordTongue$Ints") true := ⟨RX10, TX10, 7, tyX10, rfl, by decide, inW_RX10, kw_343, tyX10_ok, nmX10, rfl, by decide +kernel, fun _ => rfl⟩
theorem kw_344 : Cond.fieldLink RX10 27 "WordTongue$Tree" "extras" "LWordTongue$Ints;" ∈ gWs := List.mem_filter.mpr ⟨gMt1 _ (List.mem_of_getElem? (i := 107) rfl), rfl⟩
theorem fl_X10_27 : gFL RX10 27 10 3 (.object "WordTongue$Ints") true := ⟨RX10, TX10, 7, tyX10, rfl, by decide, inW_RX10, kw_344, tyX10_ok, nmX10, rfl, by decide +kernel, fun _ => rfl⟩
theorem kw_345 : Cond.fieldLink RX10 30 "WordTongue$Tree" "firsts" "LWordTongue$Ints;" ∈ gWs := List.mem_filter.mpr ⟨gMt1 _ (List.mem_of_getElem? (i := 108) rfl), rfl⟩
theorem fl_X10_30 : gFL RX10 30 10 4 (.object "WordTongue$Ints") true := ⟨RX10, TX10, 7, tyX10, rfl, by decide, inW_RX10, kw_345, tyX10_ok, nmX10, rfl, by decide +kernel, fun _ => rfl⟩
theorem kw_346 : Cond.fieldLink RX10 33 "WordTongue$Tree" "lasts" "LWordTongue$Ints;" ∈ gWs := List.mem_filter.mpr ⟨gMt1 _ (List.mem_of_getElem? (i := 109) rfl), rfl⟩
theorem fl_X10_33 : gFL RX10 33 10 5 (.object "WordTongue$Ints") true := ⟨RX10, TX10, 7, tyX10, rfl, by decide, inW_RX10, kw_346, tyX10_ok, nmX10, rfl, by decide +kernel, fun _ => rfl⟩
theorem kw_347 : Cond.fieldLink RX10 36 "WordTongue$Tree" "nexts" "LWordTongue$Ints;" ∈ gWs := List.mem_filter.mpr ⟨gMt1 _ (List.mem_of_getElem? (i := 110) rfl), rfl⟩
theorem fl_X10_36 : gFL RX10 36 10 6 (.object "WordTongue$Ints") true := ⟨RX10, TX10, 7, tyX10, rfl, by decide, inW_RX10, kw_347, tyX10_ok, nmX10, rfl, by decide +kernel, fun _ => rfl⟩
theorem kw_961 : Cond.methodLink RX10 49 yX4_size ∈ gWs := List.mem_filter.mpr ⟨gMt4 _ (List.mem_of_getElem? (i := 4) rfl), rfl⟩
theorem cl_X10_49 : gCV RX10 49 yX4_size cX4_size 1 (some .int) 0 := ⟨g_mk [.methodLink RX10 49 yX4_size, .instanceMethod yX4_size, .selects yX4_size.cls yX4_size yX4_size, .initialized yX4_size.cls] (gWs_all kw_428) (List.forall_mem_cons.mpr ⟨kw_961, List.forall_mem_cons.mpr ⟨kw_426, List.forall_mem_cons.mpr ⟨kw_427, List.forall_mem_cons.mpr ⟨kw_239, fun _ h => nomatch h⟩⟩⟩⟩), rfl, by decide +kernel, by decide +kernel, by decide +kernel⟩
theorem kw_955 : Cond.methodLink RX10 39 yX4_cut ∈ gWs := List.mem_filter.mpr ⟨gMt3 _ (List.mem_of_getElem? (i := 238) rfl), rfl⟩
theorem cl_X10_39 : gCV RX10 39 yX4_cut cX4_cut 2 none 1 := ⟨g_mk [.methodLink RX10 39 yX4_cut, .instanceMethod yX4_cut, .selects yX4_cut.cls yX4_cut yX4_cut, .initialized yX4_cut.cls] (gWs_all kw_468) (List.forall_mem_cons.mpr ⟨kw_955, List.forall_mem_cons.mpr ⟨kw_466, List.forall_mem_cons.mpr ⟨kw_467, List.forall_mem_cons.mpr ⟨kw_239, fun _ h => nomatch h⟩⟩⟩⟩), rfl, by decide +kernel, by decide +kernel, by decide +kernel⟩
theorem kw_241 : Cond.initialized RX10 ∈ gWs := List.mem_filter.mpr ⟨gMt1 _ (List.mem_of_getElem? (i := 4) rfl), rfl⟩
theorem kw_959 : Cond.code yX10_node cX10_node 4 (some .int) ∈ gWs := List.mem_filter.mpr ⟨gMt4 _ (List.mem_of_getElem? (i := 2) rfl), rfl⟩
theorem kw_956 : Cond.methodLink RX10 42 yX10_node ∈ gWs := List.mem_filter.mpr ⟨gMt3 _ (List.mem_of_getElem? (i := 239) rfl), rfl⟩
theorem kw_957 : Cond.instanceMethod yX10_node ∈ gWs := List.mem_filter.mpr ⟨gMt4 _ (List.mem_of_getElem? (i := 0) rfl), rfl⟩
theorem kw_958 : Cond.selects RX10 yX10_node yX10_node ∈ gWs := List.mem_filter.mpr ⟨gMt4 _ (List.mem_of_getElem? (i := 1) rfl), rfl⟩
theorem cl_X10_42 : gCV RX10 42 yX10_node cX10_node 4 (some .int) 3 := ⟨g_mk [.methodLink RX10 42 yX10_node, .instanceMethod yX10_node, .selects yX10_node.cls yX10_node yX10_node, .initialized yX10_node.cls] (gWs_all kw_959) (List.forall_mem_cons.mpr ⟨kw_956, List.forall_mem_cons.mpr ⟨kw_957, List.forall_mem_cons.mpr ⟨kw_958, List.forall_mem_cons.mpr ⟨kw_241, fun _ h => nomatch h⟩⟩⟩⟩), rfl, by decide +kernel, by decide +kernel, by decide +kernel⟩
theorem kw_472 : Cond.fieldLink RX8 47 "WordTongue$Scanner" "text" "LWordTongue$Ints;" ∈ gWs := List.mem_filter.mpr ⟨gMt1 _ (List.mem_of_getElem? (i := 235) rfl), rfl⟩
theorem kw_483 : Cond.laysFinal RX8 "WordTongue$Scanner" "text" "LWordTongue$Ints;" ∈ gWs := List.mem_filter.mpr ⟨gMt2 _ (List.mem_of_getElem? (i := 6) rfl), rfl⟩
theorem kw_485 : Cond.laysFinal RX8 "WordTongue$Scanner" "kinds" "LWordTongue$Ints;" ∈ gWs := List.mem_filter.mpr ⟨gMt2 _ (List.mem_of_getElem? (i := 8) rfl), rfl⟩
theorem kw_487 : Cond.laysFinal RX8 "WordTongue$Scanner" "infos" "LWordTongue$Ints;" ∈ gWs := List.mem_filter.mpr ⟨gMt2 _ (List.mem_of_getElem? (i := 10) rfl), rfl⟩
theorem kw_489 : Cond.laysFinal RX8 "WordTongue$Scanner" "places" "LWordTongue$Ints;" ∈ gWs := List.mem_filter.mpr ⟨gMt2 _ (List.mem_of_getElem? (i := 12) rfl), rfl⟩
theorem kw_491 : Cond.laysFinal RX8 "WordTongue$Scanner" "strings" "LWordTongue$Ints;" ∈ gWs := List.mem_filter.mpr ⟨gMt2 _ (List.mem_of_getElem? (i := 14) rfl), rfl⟩
theorem kw_493 : Cond.laysFinal RX8 "WordTongue$Scanner" "letters" "LWordTongue$Ints;" ∈ gWs := List.mem_filter.mpr ⟨gMt2 _ (List.mem_of_getElem? (i := 16) rfl), rfl⟩
theorem kw_495 : Cond.laysFinal RX8 "WordTongue$Scanner" "heads" "LWordTongue$Ints;" ∈ gWs := List.mem_filter.mpr ⟨gMt2 _ (List.mem_of_getElem? (i := 18) rfl), rfl⟩
theorem kw_497 : Cond.laysFinal RX8 "WordTongue$Scanner" "sums" "LWordTongue$Ints;" ∈ gWs := List.mem_filter.mpr ⟨gMt2 _ (List.mem_of_getElem? (i := 20) rfl), rfl⟩
theorem kw_499 : Cond.laysFinal RX8 "WordTongue$Scanner" "knownLetters" "I" ∈ gWs := List.mem_filter.mpr ⟨gMt2 _ (List.mem_of_getElem? (i := 22) rfl), rfl⟩
theorem kw_501 : Cond.lays RX8 "WordTongue$Scanner" "at" "I" ∈ gWs := List.mem_filter.mpr ⟨gMt2 _ (List.mem_of_getElem? (i := 24) rfl), rfl⟩
theorem kw_503 : Cond.lays RX8 "WordTongue$Scanner" "fresh" "Z" ∈ gWs := List.mem_filter.mpr ⟨gMt2 _ (List.mem_of_getElem? (i := 26) rfl), rfl⟩
set_option maxRecDepth 20000 in
theorem inW_RX8 : ∀ w ∈ u_ws RX8 TX8 11, w ∈ gWs := List.forall_mem_cons.mpr ⟨kw_483, List.forall_mem_cons.mpr ⟨kw_485, List.forall_mem_cons.mpr ⟨kw_487, List.forall_mem_cons.mpr ⟨kw_489, List.forall_mem_cons.mpr ⟨kw_491, List.forall_mem_cons.mpr ⟨kw_493, List.forall_mem_cons.mpr ⟨kw_495, List.forall_mem_cons.mpr ⟨kw_497, List.forall_mem_cons.mpr ⟨kw_499, List.forall_mem_cons.mpr ⟨kw_501, List.forall_mem_cons.mpr ⟨kw_503, fun _ h => nomatch h⟩⟩⟩⟩⟩⟩⟩⟩⟩⟩⟩
theorem fl_X8_47 : gFL RX8 47 8 0 (.object "WordTongue$Ints") true := ⟨RX8, TX8, 11, tyX8, rfl, by decide, inW_RX8, kw_472, tyX8_ok, nmX8, rfl, by decide +kernel, fun _ => rfl⟩
theorem kw_425 : Cond.methodLink RX8 62 yX4_size ∈ gWs := List.mem_filter.mpr ⟨gMt1 _ (List.mem_of_getElem? (i := 188) rfl), rfl⟩
theorem cl_X8_62 : gCV RX8 62 yX4_size cX4_size 1 (some .int) 0 := ⟨g_mk [.methodLink RX8 62 yX4_size, .instanceMethod yX4_size, .selects yX4_size.cls yX4_size yX4_size, .initialized yX4_size.cls] (gWs_all kw_428) (List.forall_mem_cons.mpr ⟨kw_425, List.forall_mem_cons.mpr ⟨kw_426, List.forall_mem_cons.mpr ⟨kw_427, List.forall_mem_cons.mpr ⟨kw_239, fun _ h => nomatch h⟩⟩⟩⟩), rfl, by decide +kernel, by decide +kernel, by decide +kernel⟩
theorem kw_481 : Cond.fieldLink RX8 39 "WordTongue$Scanner" "at" "I" ∈ gWs := List.mem_filter.mpr ⟨gMt2 _ (List.mem_of_getElem? (i := 4) rfl), rfl⟩
theorem fl_X8_39 : gFL RX8 39 8 9 .int false := ⟨RX8, TX8, 11, tyX8, rfl, by decide, inW_RX8, kw_481, tyX8_ok, nmX8, rfl, by decide +kernel, fun h => by cases h⟩
theorem kw_482 : Cond.fieldLink RX8 43 "WordTongue$Scanner" "fresh" "Z" ∈ gWs := List.mem_filter.mpr ⟨gMt2 _ (List.mem_of_getElem? (i := 5) rfl), rfl⟩
theorem fl_X8_43 : gFL RX8 43 8 10 .boolean false := ⟨RX8, TX8, 11, tyX8, rfl, by decide, inW_RX8, kw_482, tyX8_ok, nmX8, rfl, by decide +kernel, fun h => by cases h⟩
theorem kw_473 : Cond.fieldLink RX8 15 "WordTongue$Scanner" "kinds" "LWordTongue$Ints;" ∈ gWs := List.mem_filter.mpr ⟨gMt1 _ (List.mem_of_getElem? (i := 236) rfl), rfl⟩
theorem fl_X8_15 : gFL RX8 15 8 1 (.object "WordTongue$Ints") true := ⟨RX8, TX8, 11, tyX8, rfl, by decide, inW_RX8, kw_473, tyX8_ok, nmX8, rfl, by decide +kernel, fun _ => rfl⟩
theorem kw_441 : Cond.methodLink RX8 85 yX4_add ∈ gWs := List.mem_filter.mpr ⟨gMt1 _ (List.mem_of_getElem? (i := 204) rfl), rfl⟩
theorem cl_X8_85 : gCV RX8 85 yX4_add cX4_add 2 none 1 := ⟨g_mk [.methodLink RX8 85 yX4_add, .instanceMethod yX4_add, .selects yX4_add.cls yX4_add yX4_add, .initialized yX4_add.cls] (gWs_all kw_444) (List.forall_mem_cons.mpr ⟨kw_441, List.forall_mem_cons.mpr ⟨kw_442, List.forall_mem_cons.mpr ⟨kw_443, List.forall_mem_cons.mpr ⟨kw_239, fun _ h => nomatch h⟩⟩⟩⟩), rfl, by decide +kernel, by decide +kernel, by decide +kernel⟩
theorem kw_474 : Cond.fieldLink RX8 21 "WordTongue$Scanner" "infos" "LWordTongue$Ints;" ∈ gWs := List.mem_filter.mpr ⟨gMt1 _ (List.mem_of_getElem? (i := 237) rfl), rfl⟩
theorem fl_X8_21 : gFL RX8 21 8 2 (.object "WordTongue$Ints") true := ⟨RX8, TX8, 11, tyX8, rfl, by decide, inW_RX8, kw_474, tyX8_ok, nmX8, rfl, by decide +kernel, fun _ => rfl⟩
theorem kw_475 : Cond.fieldLink RX8 24 "WordTongue$Scanner" "places" "LWordTongue$Ints;" ∈ gWs := List.mem_filter.mpr ⟨gMt1 _ (List.mem_of_getElem? (i := 238) rfl), rfl⟩
theorem fl_X8_24 : gFL RX8 24 8 3 (.object "WordTongue$Ints") true := ⟨RX8, TX8, 11, tyX8, rfl, by decide, inW_RX8, kw_475, tyX8_ok, nmX8, rfl, by decide +kernel, fun _ => rfl⟩
theorem kw_465 : Cond.methodLink RX8 82 yX4_cut ∈ gWs := List.mem_filter.mpr ⟨gMt1 _ (List.mem_of_getElem? (i := 228) rfl), rfl⟩
theorem cl_X8_82 : gCV RX8 82 yX4_cut cX4_cut 2 none 1 := ⟨g_mk [.methodLink RX8 82 yX4_cut, .instanceMethod yX4_cut, .selects yX4_cut.cls yX4_cut yX4_cut, .initialized yX4_cut.cls] (gWs_all kw_468) (List.forall_mem_cons.mpr ⟨kw_465, List.forall_mem_cons.mpr ⟨kw_466, List.forall_mem_cons.mpr ⟨kw_467, List.forall_mem_cons.mpr ⟨kw_239, fun _ h => nomatch h⟩⟩⟩⟩), rfl, by decide +kernel, by decide +kernel, by decide +kernel⟩
theorem kw_476 : Cond.fieldLink RX8 27 "WordTongue$Scanner" "strings" "LWordTongue$Ints;" ∈ gWs := List.mem_filter.mpr ⟨gMt1 _ (List.mem_of_getElem? (i := 239) rfl), rfl⟩
theorem fl_X8_27 : gFL RX8 27 8 4 (.object "WordTongue$Ints") true := ⟨RX8, TX8, 11, tyX8, rfl, by decide, inW_RX8, kw_476, tyX8_ok, nmX8, rfl, by decide +kernel, fun _ => rfl⟩
theorem kw_477 : Cond.fieldLink RX8 30 "WordTongue$Scanner" "letters" "LWordTongue$Ints;" ∈ gWs := List.mem_filter.mpr ⟨gMt2 _ (List.mem_of_getElem? (i := 0) rfl), rfl⟩
theorem fl_X8_30 : gFL RX8 30 8 5 (.object "WordTongue$Ints") true := ⟨RX8, TX8, 11, tyX8, rfl, by decide, inW_RX8, kw_477, tyX8_ok, nmX8, rfl, by decide +kernel, fun _ => rfl⟩
theorem kw_480 : Cond.fieldLink RX8 66 "WordTongue$Scanner" "knownLetters" "I" ∈ gWs := List.mem_filter.mpr ⟨gMt2 _ (List.mem_of_getElem? (i := 3) rfl), rfl⟩
theorem fl_X8_66 : gFL RX8 66 8 8 .int true := ⟨RX8, TX8, 11, tyX8, rfl, by decide, inW_RX8, kw_480, tyX8_ok, nmX8, rfl, by decide +kernel, fun _ => rfl⟩
theorem kw_478 : Cond.fieldLink RX8 33 "WordTongue$Scanner" "heads" "LWordTongue$Ints;" ∈ gWs := List.mem_filter.mpr ⟨gMt2 _ (List.mem_of_getElem? (i := 1) rfl), rfl⟩
theorem fl_X8_33 : gFL RX8 33 8 6 (.object "WordTongue$Ints") true := ⟨RX8, TX8, 11, tyX8, rfl, by decide, inW_RX8, kw_478, tyX8_ok, nmX8, rfl, by decide +kernel, fun _ => rfl⟩
theorem kw_479 : Cond.fieldLink RX8 36 "WordTongue$Scanner" "sums" "LWordTongue$Ints;" ∈ gWs := List.mem_filter.mpr ⟨gMt2 _ (List.mem_of_getElem? (i := 2) rfl), rfl⟩
theorem fl_X8_36 : gFL RX8 36 8 7 (.object "WordTongue$Ints") true := ⟨RX8, TX8, 11, tyX8, rfl, by decide, inW_RX8, kw_479, tyX8_ok, nmX8, rfl, by decide +kernel, fun _ => rfl⟩
theorem kw_370 : Cond.constant RX8 11 1000000 ∈ gWs := List.mem_filter.mpr ⟨gMt1 _ (List.mem_of_getElem? (i := 133) rfl), rfl⟩
theorem kw_242 : Cond.initialized RX8 ∈ gWs := List.mem_filter.mpr ⟨gMt1 _ (List.mem_of_getElem? (i := 5) rfl), rfl⟩
theorem kw_867 : Cond.code yX8_pass cX8_pass 3 none ∈ gWs := List.mem_filter.mpr ⟨gMt3 _ (List.mem_of_getElem? (i := 150) rfl), rfl⟩
theorem kw_864 : Cond.methodLink RX8 96 yX8_pass ∈ gWs := List.mem_filter.mpr ⟨gMt3 _ (List.mem_of_getElem? (i := 147) rfl), rfl⟩
theorem kw_866 : Cond.instanceMethod yX8_pass ∈ gWs := List.mem_filter.mpr ⟨gMt3 _ (List.mem_of_getElem? (i := 149) rfl), rfl⟩
theorem kw_4 : Cond.selects RX8 yX8_pass yX8_pass ∈ gWs := gWm 4 (by decide +kernel) rfl
theorem cl_X8_96 : gCV RX8 96 yX8_pass cX8_pass 3 none 0 := ⟨g_mk [.methodLink RX8 96 yX8_pass, .instanceMethod yX8_pass, .selects yX8_pass.cls yX8_pass yX8_pass, .initialized yX8_pass.cls] (gWs_all kw_867) (List.forall_mem_cons.mpr ⟨kw_864, List.forall_mem_cons.mpr ⟨kw_866, List.forall_mem_cons.mpr ⟨kw_4, List.forall_mem_cons.mpr ⟨kw_242, fun _ h => nomatch h⟩⟩⟩⟩), rfl, by decide +kernel, by decide +kernel, by decide +kernel⟩
theorem kw_875 : Cond.code yX8_put cX8_put 4 none ∈ gWs := List.mem_filter.mpr ⟨gMt3 _ (List.mem_of_getElem? (i := 158) rfl), rfl⟩
theorem kw_872 : Cond.methodLink RX8 99 yX8_put ∈ gWs := List.mem_filter.mpr ⟨gMt3 _ (List.mem_of_getElem? (i := 155) rfl), rfl⟩
theorem kw_874 : Cond.instanceMethod yX8_put ∈ gWs := List.mem_filter.mpr ⟨gMt3 _ (List.mem_of_getElem? (i := 157) rfl), rfl⟩
theorem kw_6 : Cond.selects RX8 yX8_put yX8_put ∈ gWs := gWm 6 (by decide +kernel) rfl
theorem cl_X8_99 : gCV RX8 99 yX8_put cX8_put 4 none 3 := ⟨g_mk [.methodLink RX8 99 yX8_put, .instanceMethod yX8_put, .selects yX8_put.cls yX8_put yX8_put, .initialized yX8_put.cls] (gWs_all kw_875) (List.forall_mem_cons.mpr ⟨kw_872, List.forall_mem_cons.mpr ⟨kw_874, List.forall_mem_cons.mpr ⟨kw_6, List.forall_mem_cons.mpr ⟨kw_242, fun _ h => nomatch h⟩⟩⟩⟩), rfl, by decide +kernel, by decide +kernel, by decide +kernel⟩
theorem kw_532 : Cond.fieldLink RX6 43 "WordTongue$Parser" "kinds" "LWordTongue$Ints;" ∈ gWs := List.mem_filter.mpr ⟨gMt2 _ (List.mem_of_getElem? (i := 55) rfl), rfl⟩
theorem kw_544 : Cond.laysFinal RX6 "WordTongue$Parser" "kinds" "LWordTongue$Ints;" ∈ gWs := List.mem_filter.mpr ⟨gMt2 _ (List.mem_of_getElem? (i := 67) rfl), rfl⟩
theorem kw_546 : Cond.laysFinal RX6 "WordTongue$Parser" "infos" "LWordTongue$Ints;" ∈ gWs := List.mem_filter.mpr ⟨gMt2 _ (List.mem_of_getElem? (i := 69) rfl), rfl⟩
theorem kw_548 : Cond.laysFinal RX6 "WordTongue$Parser" "places" "LWordTongue$Ints;" ∈ gWs := List.mem_filter.mpr ⟨gMt2 _ (List.mem_of_getElem? (i := 71) rfl), rfl⟩
theorem kw_550 : Cond.laysFinal RX6 "WordTongue$Parser" "strings" "LWordTongue$Ints;" ∈ gWs := List.mem_filter.mpr ⟨gMt2 _ (List.mem_of_getElem? (i := 73) rfl), rfl⟩
theorem kw_552 : Cond.laysFinal RX6 "WordTongue$Parser" "tree" "LWordTongue$Tree;" ∈ gWs := List.mem_filter.mpr ⟨gMt2 _ (List.mem_of_getElem? (i := 75) rfl), rfl⟩
theorem kw_554 : Cond.laysFinal RX6 "WordTongue$Parser" "program" "LWordTongue$Program;" ∈ gWs := List.mem_filter.mpr ⟨gMt2 _ (List.mem_of_getElem? (i := 77) rfl), rfl⟩
theorem kw_556 : Cond.laysFinal RX6 "WordTongue$Parser" "tags" "LWordTongue$Ints;" ∈ gWs := List.mem_filter.mpr ⟨gMt2 _ (List.mem_of_getElem? (i := 79) rfl), rfl⟩
theorem kw_558 : Cond.laysFinal RX6 "WordTongue$Parser" "signs" "LWordTongue$Ints;" ∈ gWs := List.mem_filter.mpr ⟨gMt2 _ (List.mem_of_getElem? (i := 81) rfl), rfl⟩
theorem kw_560 : Cond.laysFinal RX6 "WordTongue$Parser" "globals" "LWordTongue$Ints;" ∈ gWs := List.mem_filter.mpr ⟨gMt2 _ (List.mem_of_getElem? (i := 83) rfl), rfl⟩
theorem kw_562 : Cond.lays RX6 "WordTongue$Parser" "at" "I" ∈ gWs := List.mem_filter.mpr ⟨gMt2 _ (List.mem_of_getElem? (i := 85) rfl), rfl⟩
theorem kw_564 : Cond.lays RX6 "WordTongue$Parser" "depth" "I" ∈ gWs := List.mem_filter.mpr ⟨gMt2 _ (List.mem_of_getElem? (i := 87) rfl), rfl⟩
theorem kw_566 : Cond.lays RX6 "WordTongue$Parser" "root" "I" ∈ gWs := List.mem_filter.mpr ⟨gMt2 _ (List.mem_of_getElem? (i := 89) rfl), rfl⟩
set_option maxRecDepth 20000 in
theorem inW_RX6 : ∀ w ∈ u_ws RX6 TX6 12, w ∈ gWs := List.forall_mem_cons.mpr ⟨kw_544, List.forall_mem_cons.mpr ⟨kw_546, List.forall_mem_cons.mpr ⟨kw_548, List.forall_mem_cons.mpr ⟨kw_550, List.forall_mem_cons.mpr ⟨kw_552, List.forall_mem_cons.mpr ⟨kw_554, List.forall_mem_cons.mpr ⟨kw_556, List.forall_mem_cons.mpr ⟨kw_558, List.forall_mem_cons.mpr ⟨kw_560, List.forall_mem_cons.mpr ⟨kw_562, List.forall_mem_cons.mpr ⟨kw_564, List.forall_mem_cons.mpr ⟨kw_566, fun _ h => nomatch h⟩⟩⟩⟩⟩⟩⟩⟩⟩⟩⟩⟩
theorem fl_X6_43 : gFL RX6 43 6 0 (.object "WordTongue$Ints") true := ⟨RX6, TX6, 12, tyX6, rfl, by decide, inW_RX6, kw_532, tyX6_ok, nmX6, rfl, by decide +kernel, fun _ => rfl⟩
theorem kw_541 : Cond.fieldLink RX6 27 "WordTongue$Parser" "at" "I" ∈ gWs := List.mem_filter.mpr ⟨gMt2 _ (List.mem_of_getElem? (i := 64) rfl), rfl⟩
theorem fl_X6_27 : gFL RX6 27 6 9 .int false := ⟨RX6, TX6, 12, tyX6, rfl, by decide, inW_RX6, kw_541, tyX6_ok, nmX6, rfl, by decide +kernel, fun h => by cases h⟩
theorem kw_436 : Cond.code yX4_get cX4_get 2 (some .int) ∈ gWs := List.mem_filter.mpr ⟨gMt1 _ (List.mem_of_getElem? (i := 199) rfl), rfl⟩
theorem kw_971 : Cond.methodLink RX6 82 yX4_get ∈ gWs := List.mem_filter.mpr ⟨gMt4 _ (List.mem_of_getElem? (i := 14) rfl), rfl⟩
theorem kw_434 : Cond.instanceMethod yX4_get ∈ gWs := List.mem_filter.mpr ⟨gMt1 _ (List.mem_of_getElem? (i := 197) rfl), rfl⟩
theorem kw_435 : Cond.selects RX4 yX4_get yX4_get ∈ gWs := List.mem_filter.mpr ⟨gMt1 _ (List.mem_of_getElem? (i := 198) rfl), rfl⟩
theorem cl_X6_82 : gCV RX6 82 yX4_get cX4_get 2 (some .int) 1 := ⟨g_mk [.methodLink RX6 82 yX4_get, .instanceMethod yX4_get, .selects yX4_get.cls yX4_get yX4_get, .initialized yX4_get.cls] (gWs_all kw_436) (List.forall_mem_cons.mpr ⟨kw_971, List.forall_mem_cons.mpr ⟨kw_434, List.forall_mem_cons.mpr ⟨kw_435, List.forall_mem_cons.mpr ⟨kw_239, fun _ h => nomatch h⟩⟩⟩⟩), rfl, by decide +kernel, by decide +kernel, by decide +kernel⟩
theorem kw_534 : Cond.fieldLink RX6 53 "WordTongue$Parser" "places" "LWordTongue$Ints;" ∈ gWs := List.mem_filter.mpr ⟨gMt2 _ (List.mem_of_getElem? (i := 57) rfl), rfl⟩
theorem fl_X6_53 : gFL RX6 53 6 2 (.object "WordTongue$Ints") true := ⟨RX6, TX6, 12, tyX6, rfl, by decide, inW_RX6, kw_534, tyX6_ok, nmX6, rfl, by decide +kernel, fun _ => rfl⟩
theorem kw_537 : Cond.fieldLink RX6 64 "WordTongue$Parser" "program" "LWordTongue$Program;" ∈ gWs := List.mem_filter.mpr ⟨gMt2 _ (List.mem_of_getElem? (i := 60) rfl), rfl⟩
theorem fl_X6_64 : gFL RX6 64 6 5 (.object "WordTongue$Program") true := ⟨RX6, TX6, 12, tyX6, rfl, by decide, inW_RX6, kw_537, tyX6_ok, nmX6, rfl, by decide +kernel, fun _ => rfl⟩
theorem kw_1008 : Cond.code yX7_blame cX7_blame 4 none ∈ gWs := List.mem_filter.mpr ⟨gMt4 _ (List.mem_of_getElem? (i := 51) rfl), rfl⟩
theorem kw_1005 : Cond.methodLink RX6 86 yX7_blame ∈ gWs := List.mem_filter.mpr ⟨gMt4 _ (List.mem_of_getElem? (i := 48) rfl), rfl⟩
theorem kw_1006 : Cond.instanceMethod yX7_blame ∈ gWs := List.mem_filter.mpr ⟨gMt4 _ (List.mem_of_getElem? (i := 49) rfl), rfl⟩
theorem kw_1007 : Cond.selects RX7 yX7_blame yX7_blame ∈ gWs := List.mem_filter.mpr ⟨gMt4 _ (List.mem_of_getElem? (i := 50) rfl), rfl⟩
theorem cl_X6_86 : gCV RX6 86 yX7_blame cX7_blame 4 none 2 := ⟨g_mk [.methodLink RX6 86 yX7_blame, .instanceMethod yX7_blame, .selects yX7_blame.cls yX7_blame yX7_blame, .initialized yX7_blame.cls] (gWs_all kw_1008) (List.forall_mem_cons.mpr ⟨kw_1005, List.forall_mem_cons.mpr ⟨kw_1006, List.forall_mem_cons.mpr ⟨kw_1007, List.forall_mem_cons.mpr ⟨kw_240, fun _ h => nomatch h⟩⟩⟩⟩), rfl, by decide +kernel, by decide +kernel, by decide +kernel⟩
theorem kw_950 : Cond.classLink RX6 80 "java/lang/IllegalStateException" ∈ gWs := List.mem_filter.mpr ⟨gMt3 _ (List.mem_of_getElem? (i := 233) rfl), rfl⟩
theorem kw_261 : Cond.initialized "java/lang/IllegalStateException" ∈ gWs := List.mem_filter.mpr ⟨gMt1 _ (List.mem_of_getElem? (i := 24) rfl), rfl⟩
theorem kw_250 : Cond.initialized RX6 ∈ gWs := List.mem_filter.mpr ⟨gMt1 _ (List.mem_of_getElem? (i := 13) rfl), rfl⟩
theorem kw_980 : Cond.code yX6_kind cX6_kind 1 (some .int) ∈ gWs := List.mem_filter.mpr ⟨gMt4 _ (List.mem_of_getElem? (i := 23) rfl), rfl⟩
theorem kw_977 : Cond.methodLink RX6 97 yX6_kind ∈ gWs := List.mem_filter.mpr ⟨gMt4 _ (List.mem_of_getElem? (i := 20) rfl), rfl⟩
theorem kw_979 : Cond.instanceMethod yX6_kind ∈ gWs := List.mem_filter.mpr ⟨gMt4 _ (List.mem_of_getElem? (i := 22) rfl), rfl⟩
theorem kw_18 : Cond.selects RX6 yX6_kind yX6_kind ∈ gWs := gWm 18 (by decide +kernel) rfl
theorem cl_X6_97 : gCV RX6 97 yX6_kind cX6_kind 1 (some .int) 0 := ⟨g_mk [.methodLink RX6 97 yX6_kind, .instanceMethod yX6_kind, .selects yX6_kind.cls yX6_kind yX6_kind, .initialized yX6_kind.cls] (gWs_all kw_980) (List.forall_mem_cons.mpr ⟨kw_977, List.forall_mem_cons.mpr ⟨kw_979, List.forall_mem_cons.mpr ⟨kw_18, List.forall_mem_cons.mpr ⟨kw_250, fun _ h => nomatch h⟩⟩⟩⟩), rfl, by decide +kernel, by decide +kernel, by decide +kernel⟩
theorem kw_1004 : Cond.code yX6_refuse cX6_refuse 1 none ∈ gWs := List.mem_filter.mpr ⟨gMt4 _ (List.mem_of_getElem? (i := 47) rfl), rfl⟩
theorem kw_1001 : Cond.methodLink RX6 100 yX6_refuse ∈ gWs := List.mem_filter.mpr ⟨gMt4 _ (List.mem_of_getElem? (i := 44) rfl), rfl⟩
theorem kw_1003 : Cond.instanceMethod yX6_refuse ∈ gWs := List.mem_filter.mpr ⟨gMt4 _ (List.mem_of_getElem? (i := 46) rfl), rfl⟩
theorem kw_24 : Cond.selects RX6 yX6_refuse yX6_refuse ∈ gWs := gWm 24 (by decide +kernel) rfl
theorem cl_X6_100 : gCV RX6 100 yX6_refuse cX6_refuse 1 none 0 := ⟨g_mk [.methodLink RX6 100 yX6_refuse, .instanceMethod yX6_refuse, .selects yX6_refuse.cls yX6_refuse yX6_refuse, .initialized yX6_refuse.cls] (gWs_all kw_1004) (List.forall_mem_cons.mpr ⟨kw_1001, List.forall_mem_cons.mpr ⟨kw_1003, List.forall_mem_cons.mpr ⟨kw_24, List.forall_mem_cons.mpr ⟨kw_250, fun _ h => nomatch h⟩⟩⟩⟩), rfl, by decide +kernel, by decide +kernel, by decide +kernel⟩
theorem kw_536 : Cond.fieldLink RX6 60 "WordTongue$Parser" "tree" "LWordTongue$Tree;" ∈ gWs := List.mem_filter.mpr ⟨gMt2 _ (List.mem_of_getElem? (i := 59) rfl), rfl⟩
theorem fl_X6_60 : gFL RX6 60 6 4 (.object "WordTongue$Tree") true := ⟨RX6, TX6, 12, tyX6, rfl, by decide, inW_RX6, kw_536, tyX6_ok, nmX6, rfl, by decide +kernel, fun _ => rfl⟩
theorem kw_970 : Cond.code yX6_place cX6_place 1 (some .int) ∈ gWs := List.mem_filter.mpr ⟨gMt4 _ (List.mem_of_getElem? (i := 13) rfl), rfl⟩
theorem kw_967 : Cond.methodLink RX6 112 yX6_place ∈ gWs := List.mem_filter.mpr ⟨gMt4 _ (List.mem_of_getElem? (i := 10) rfl), rfl⟩
theorem kw_969 : Cond.instanceMethod yX6_place ∈ gWs := List.mem_filter.mpr ⟨gMt4 _ (List.mem_of_getElem? (i := 12) rfl), rfl⟩
theorem kw_16 : Cond.selects RX6 yX6_place yX6_place ∈ gWs := gWm 16 (by decide +kernel) rfl
theorem cl_X6_112 : gCV RX6 112 yX6_place cX6_place 1 (some .int) 0 := ⟨g_mk [.methodLink RX6 112 yX6_place, .instanceMethod yX6_place, .selects yX6_place.cls yX6_place yX6_place, .initialized yX6_place.cls] (gWs_all kw_970) (List.forall_mem_cons.mpr ⟨kw_967, List.forall_mem_cons.mpr ⟨kw_969, List.forall_mem_cons.mpr ⟨kw_16, List.forall_mem_cons.mpr ⟨kw_250, fun _ h => nomatch h⟩⟩⟩⟩), rfl, by decide +kernel, by decide +kernel, by decide +kernel⟩
theorem kw_972 : Cond.methodLink RX6 115 yX10_node ∈ gWs := List.mem_filter.mpr ⟨gMt4 _ (List.mem_of_getElem? (i := 15) rfl), rfl⟩
theorem cl_X6_115 : gCV RX6 115 yX10_node cX10_node 4 (some .int) 3 := ⟨g_mk [.methodLink RX6 115 yX10_node, .instanceMethod yX10_node, .selects yX10_node.cls yX10_node yX10_node, .initialized yX10_node.cls] (gWs_all kw_959) (List.forall_mem_cons.mpr ⟨kw_972, List.forall_mem_cons.mpr ⟨kw_957, List.forall_mem_cons.mpr ⟨kw_958, List.forall_mem_cons.mpr ⟨kw_241, fun _ h => nomatch h⟩⟩⟩⟩), rfl, by decide +kernel, by decide +kernel, by decide +kernel⟩
theorem kw_1086 : Cond.code yX6_due cX6_due 2 none ∈ gWs := List.mem_filter.mpr ⟨gMt4 _ (List.mem_of_getElem? (i := 129) rfl), rfl⟩
theorem kw_1083 : Cond.methodLink RX6 109 yX6_due ∈ gWs := List.mem_filter.mpr ⟨gMt4 _ (List.mem_of_getElem? (i := 126) rfl), rfl⟩
theorem kw_1085 : Cond.instanceMethod yX6_due ∈ gWs := List.mem_filter.mpr ⟨gMt4 _ (List.mem_of_getElem? (i := 128) rfl), rfl⟩
theorem kw_28 : Cond.selects RX6 yX6_due yX6_due ∈ gWs := gWm 28 (by decide +kernel) rfl
theorem cl_X6_109 : gCV RX6 109 yX6_due cX6_due 2 none 1 := ⟨g_mk [.methodLink RX6 109 yX6_due, .instanceMethod yX6_due, .selects yX6_due.cls yX6_due yX6_due, .initialized yX6_due.cls] (gWs_all kw_1086) (List.forall_mem_cons.mpr ⟨kw_1083, List.forall_mem_cons.mpr ⟨kw_1085, List.forall_mem_cons.mpr ⟨kw_28, List.forall_mem_cons.mpr ⟨kw_250, fun _ h => nomatch h⟩⟩⟩⟩), rfl, by decide +kernel, by decide +kernel, by decide +kernel⟩
theorem kw_514 : Cond.constant RX6 11 1000000 ∈ gWs := List.mem_filter.mpr ⟨gMt2 _ (List.mem_of_getElem? (i := 37) rfl), rfl⟩
theorem kw_976 : Cond.code yX6_declaration cX6_declaration 5 (some .int) ∈ gWs := List.mem_filter.mpr ⟨gMt4 _ (List.mem_of_getElem? (i := 19) rfl), rfl⟩
theorem kw_973 : Cond.methodLink RX6 119 yX6_declaration ∈ gWs := List.mem_filter.mpr ⟨gMt4 _ (List.mem_of_getElem? (i := 16) rfl), rfl⟩
theorem kw_975 : Cond.instanceMethod yX6_declaration ∈ gWs := List.mem_filter.mpr ⟨gMt4 _ (List.mem_of_getElem? (i := 18) rfl), rfl⟩
theorem kw_17 : Cond.selects RX6 yX6_declaration yX6_declaration ∈ gWs := gWm 17 (by decide +kernel) rfl
theorem cl_X6_119 : gCV RX6 119 yX6_declaration cX6_declaration 5 (some .int) 1 := ⟨g_mk [.methodLink RX6 119 yX6_declaration, .instanceMethod yX6_declaration, .selects yX6_declaration.cls yX6_declaration yX6_declaration, .initialized yX6_declaration.cls] (gWs_all kw_976) (List.forall_mem_cons.mpr ⟨kw_973, List.forall_mem_cons.mpr ⟨kw_975, List.forall_mem_cons.mpr ⟨kw_17, List.forall_mem_cons.mpr ⟨kw_250, fun _ h => nomatch h⟩⟩⟩⟩), rfl, by decide +kernel, by decide +kernel, by decide +kernel⟩
theorem kw_954 : Cond.code yX10_clear cX10_clear 1 none ∈ gWs := List.mem_filter.mpr ⟨gMt3 _ (List.mem_of_getElem? (i := 237) rfl), rfl⟩
theorem kw_951 : Cond.methodLink RX6 68 yX10_clear ∈ gWs := List.mem_filter.mpr ⟨gMt3 _ (List.mem_of_getElem? (i := 234) rfl), rfl⟩
theorem kw_952 : Cond.instanceMethod yX10_clear ∈ gWs := List.mem_filter.mpr ⟨gMt3 _ (List.mem_of_getElem? (i := 235) rfl), rfl⟩
theorem kw_953 : Cond.selects RX10 yX10_clear yX10_clear ∈ gWs := List.mem_filter.mpr ⟨gMt3 _ (List.mem_of_getElem? (i := 236) rfl), rfl⟩
theorem cl_X6_68 : gCV RX6 68 yX10_clear cX10_clear 1 none 0 := ⟨g_mk [.methodLink RX6 68 yX10_clear, .instanceMethod yX10_clear, .selects yX10_clear.cls yX10_clear yX10_clear, .initialized yX10_clear.cls] (gWs_all kw_954) (List.forall_mem_cons.mpr ⟨kw_951, List.forall_mem_cons.mpr ⟨kw_952, List.forall_mem_cons.mpr ⟨kw_953, List.forall_mem_cons.mpr ⟨kw_241, fun _ h => nomatch h⟩⟩⟩⟩), rfl, by decide +kernel, by decide +kernel, by decide +kernel⟩
theorem kw_538 : Cond.fieldLink RX6 15 "WordTongue$Parser" "tags" "LWordTongue$Ints;" ∈ gWs := List.mem_filter.mpr ⟨gMt2 _ (List.mem_of_getElem? (i := 61) rfl), rfl⟩
theorem fl_X6_15 : gFL RX6 15 6 6 (.object "WordTongue$Ints") true := ⟨RX6, TX6, 12, tyX6, rfl, by decide, inW_RX6, kw_538, tyX6_ok, nmX6, rfl, by decide +kernel, fun _ => rfl⟩
theorem kw_962 : Cond.methodLink RX6 73 yX4_cut ∈ gWs := List.mem_filter.mpr ⟨gMt4 _ (List.mem_of_getElem? (i := 5) rfl), rfl⟩
theorem cl_X6_73 : gCV RX6 73 yX4_cut cX4_cut 2 none 1 := ⟨g_mk [.methodLink RX6 73 yX4_cut, .instanceMethod yX4_cut, .selects yX4_cut.cls yX4_cut yX4_cut, .initialized yX4_cut.cls] (gWs_all kw_468) (List.forall_mem_cons.mpr ⟨kw_962, List.forall_mem_cons.mpr ⟨kw_466, List.forall_mem_cons.mpr ⟨kw_467, List.forall_mem_cons.mpr ⟨kw_239, fun _ h => nomatch h⟩⟩⟩⟩), rfl, by decide +kernel, by decide +kernel, by decide +kernel⟩
theorem kw_539 : Cond.fieldLink RX6 21 "WordTongue$Parser" "signs" "LWordTongue$Ints;" ∈ gWs := List.mem_filter.mpr ⟨gMt2 _ (List.mem_of_getElem? (i := 62) rfl), rfl⟩
theorem fl_X6_21 : gFL RX6 21 6 7 (.object "WordTongue$Ints") true := ⟨RX6, TX6, 12, tyX6, rfl, by decide, inW_RX6, kw_539, tyX6_ok, nmX6, rfl, by decide +kernel, fun _ => rfl⟩
theorem kw_540 : Cond.fieldLink RX6 24 "WordTongue$Parser" "globals" "LWordTongue$Ints;" ∈ gWs := List.mem_filter.mpr ⟨gMt2 _ (List.mem_of_getElem? (i := 63) rfl), rfl⟩
theorem fl_X6_24 : gFL RX6 24 6 8 (.object "WordTongue$Ints") true := ⟨RX6, TX6, 12, tyX6, rfl, by decide, inW_RX6, kw_540, tyX6_ok, nmX6, rfl, by decide +kernel, fun _ => rfl⟩
theorem kw_542 : Cond.fieldLink RX6 31 "WordTongue$Parser" "depth" "I" ∈ gWs := List.mem_filter.mpr ⟨gMt2 _ (List.mem_of_getElem? (i := 65) rfl), rfl⟩
theorem fl_X6_31 : gFL RX6 31 6 10 .int false := ⟨RX6, TX6, 12, tyX6, rfl, by decide, inW_RX6, kw_542, tyX6_ok, nmX6, rfl, by decide +kernel, fun h => by cases h⟩
theorem kw_966 : Cond.code yX6_text cX6_text 3 (some .int) ∈ gWs := List.mem_filter.mpr ⟨gMt4 _ (List.mem_of_getElem? (i := 9) rfl), rfl⟩
theorem kw_963 : Cond.methodLink RX6 76 yX6_text ∈ gWs := List.mem_filter.mpr ⟨gMt4 _ (List.mem_of_getElem? (i := 6) rfl), rfl⟩
theorem kw_965 : Cond.instanceMethod yX6_text ∈ gWs := List.mem_filter.mpr ⟨gMt4 _ (List.mem_of_getElem? (i := 8) rfl), rfl⟩
theorem kw_15 : Cond.selects RX6 yX6_text yX6_text ∈ gWs := gWm 15 (by decide +kernel) rfl
theorem cl_X6_76 : gCV RX6 76 yX6_text cX6_text 3 (some .int) 0 := ⟨g_mk [.methodLink RX6 76 yX6_text, .instanceMethod yX6_text, .selects yX6_text.cls yX6_text yX6_text, .initialized yX6_text.cls] (gWs_all kw_966) (List.forall_mem_cons.mpr ⟨kw_963, List.forall_mem_cons.mpr ⟨kw_965, List.forall_mem_cons.mpr ⟨kw_15, List.forall_mem_cons.mpr ⟨kw_250, fun _ h => nomatch h⟩⟩⟩⟩), rfl, by decide +kernel, by decide +kernel, by decide +kernel⟩
theorem kw_800 : Cond.fieldLink RX11 21 "WordTongue" "program" "LWordTongue$Program;" ∈ gWs := List.mem_filter.mpr ⟨gMt3 _ (List.mem_of_getElem? (i := 83) rfl), rfl⟩
theorem kw_809 : Cond.laysFinal RX11 "WordTongue" "tape" "LWordTongue$Ints;" ∈ gWs := List.mem_filter.mpr ⟨gMt3 _ (List.mem_of_getElem? (i := 92) rfl), rfl⟩
theorem kw_811 : Cond.laysFinal RX11 "WordTongue" "program" "LWordTongue$Program;" ∈ gWs := List.mem_filter.mpr ⟨gMt3 _ (List.mem_of_getElem? (i := 94) rfl), rfl⟩
theorem kw_813 : Cond.laysFinal RX11 "WordTongue" "tree" "LWordTongue$Tree;" ∈ gWs := List.mem_filter.mpr ⟨gMt3 _ (List.mem_of_getElem? (i := 96) rfl), rfl⟩
theorem kw_815 : Cond.laysFinal RX11 "WordTongue" "scanner" "LWordTongue$Scanner;" ∈ gWs := List.mem_filter.mpr ⟨gMt3 _ (List.mem_of_getElem? (i := 98) rfl), rfl⟩
theorem kw_817 : Cond.laysFinal RX11 "WordTongue" "parser" "LWordTongue$Parser;" ∈ gWs := List.mem_filter.mpr ⟨gMt3 _ (List.mem_of_getElem? (i := 100) rfl), rfl⟩
theorem kw_819 : Cond.laysFinal RX11 "WordTongue" "coder" "LWordTongue$Coder;" ∈ gWs := List.mem_filter.mpr ⟨gMt3 _ (List.mem_of_getElem? (i := 102) rfl), rfl⟩
theorem kw_821 : Cond.laysFinal RX11 "WordTongue" "channels" "LWordTongue$Channels;" ∈ gWs := List.mem_filter.mpr ⟨gMt3 _ (List.mem_of_getElem? (i := 104) rfl), rfl⟩
theorem kw_823 : Cond.laysFinal RX11 "WordTongue" "machine" "LWordTongue$Machine;" ∈ gWs := List.mem_filter.mpr ⟨gMt3 _ (List.mem_of_getElem? (i := 106) rfl), rfl⟩
theorem kw_825 : Cond.lays RX11 "WordTongue" "storeWords" "I" ∈ gWs := List.mem_filter.mpr ⟨gMt3 _ (List.mem_of_getElem? (i := 108) rfl), rfl⟩
theorem kw_827 : Cond.lays RX11 "WordTongue" "goodWords" "I" ∈ gWs := List.mem_filter.mpr ⟨gMt3 _ (List.mem_of_getElem? (i := 110) rfl), rfl⟩
set_option maxRecDepth 20000 in
theorem inW_RX11 : ∀ w ∈ u_ws RX11 TX11 10, w ∈ gWs := List.forall_mem_cons.mpr ⟨kw_809, List.forall_mem_cons.mpr ⟨kw_811, List.forall_mem_cons.mpr ⟨kw_813, List.forall_mem_cons.mpr ⟨kw_815, List.forall_mem_cons.mpr ⟨kw_817, List.forall_mem_cons.mpr ⟨kw_819, List.forall_mem_cons.mpr ⟨kw_821, List.forall_mem_cons.mpr ⟨kw_823, List.forall_mem_cons.mpr ⟨kw_825, List.forall_mem_cons.mpr ⟨kw_827, fun _ h => nomatch h⟩⟩⟩⟩⟩⟩⟩⟩⟩⟩
theorem fl_X11_21 : gFL RX11 21 11 1 (.object "WordTongue$Program") true := ⟨RX11, TX11, 10, tyX11, rfl, by decide, inW_RX11, kw_800, tyX11_ok, nmX11, rfl, by decide +kernel, fun _ => rfl⟩
theorem kw_807 : Cond.fieldLink RX11 75 "WordTongue" "storeWords" "I" ∈ gWs := List.mem_filter.mpr ⟨gMt3 _ (List.mem_of_getElem? (i := 90) rfl), rfl⟩
theorem fl_X11_75 : gFL RX11 75 11 8 .int false := ⟨RX11, TX11, 10, tyX11, rfl, by decide, inW_RX11, kw_807, tyX11_ok, nmX11, rfl, by decide +kernel, fun h => by cases h⟩
theorem kw_852 : Cond.code yX7_clear cX7_clear 3 none ∈ gWs := List.mem_filter.mpr ⟨gMt3 _ (List.mem_of_getElem? (i := 135) rfl), rfl⟩
theorem kw_849 : Cond.methodLink RX11 95 yX7_clear ∈ gWs := List.mem_filter.mpr ⟨gMt3 _ (List.mem_of_getElem? (i := 132) rfl), rfl⟩
theorem kw_850 : Cond.instanceMethod yX7_clear ∈ gWs := List.mem_filter.mpr ⟨gMt3 _ (List.mem_of_getElem? (i := 133) rfl), rfl⟩
theorem kw_851 : Cond.selects RX7 yX7_clear yX7_clear ∈ gWs := List.mem_filter.mpr ⟨gMt3 _ (List.mem_of_getElem? (i := 134) rfl), rfl⟩
theorem cl_X11_95 : gCV RX11 95 yX7_clear cX7_clear 3 none 1 := ⟨g_mk [.methodLink RX11 95 yX7_clear, .instanceMethod yX7_clear, .selects yX7_clear.cls yX7_clear yX7_clear, .initialized yX7_clear.cls] (gWs_all kw_852) (List.forall_mem_cons.mpr ⟨kw_849, List.forall_mem_cons.mpr ⟨kw_850, List.forall_mem_cons.mpr ⟨kw_851, List.forall_mem_cons.mpr ⟨kw_240, fun _ h => nomatch h⟩⟩⟩⟩), rfl, by decide +kernel, by decide +kernel, by decide +kernel⟩
theorem kw_802 : Cond.fieldLink RX11 37 "WordTongue" "scanner" "LWordTongue$Scanner;" ∈ gWs := List.mem_filter.mpr ⟨gMt3 _ (List.mem_of_getElem? (i := 85) rfl), rfl⟩
theorem fl_X11_37 : gFL RX11 37 11 3 (.object "WordTongue$Scanner") true := ⟨RX11, TX11, 10, tyX11, rfl, by decide, inW_RX11, kw_802, tyX11_ok, nmX11, rfl, by decide +kernel, fun _ => rfl⟩
theorem kw_863 : Cond.code yX8_scan cX8_scan 2 none ∈ gWs := List.mem_filter.mpr ⟨gMt3 _ (List.mem_of_getElem? (i := 146) rfl), rfl⟩
theorem kw_860 : Cond.methodLink RX11 98 yX8_scan ∈ gWs := List.mem_filter.mpr ⟨gMt3 _ (List.mem_of_getElem? (i := 143) rfl), rfl⟩
theorem kw_861 : Cond.instanceMethod yX8_scan ∈ gWs := List.mem_filter.mpr ⟨gMt3 _ (List.mem_of_getElem? (i := 144) rfl), rfl⟩
theorem kw_862 : Cond.selects RX8 yX8_scan yX8_scan ∈ gWs := List.mem_filter.mpr ⟨gMt3 _ (List.mem_of_getElem? (i := 145) rfl), rfl⟩
theorem cl_X11_98 : gCV RX11 98 yX8_scan cX8_scan 2 none 0 := ⟨g_mk [.methodLink RX11 98 yX8_scan, .instanceMethod yX8_scan, .selects yX8_scan.cls yX8_scan yX8_scan, .initialized yX8_scan.cls] (gWs_all kw_863) (List.forall_mem_cons.mpr ⟨kw_860, List.forall_mem_cons.mpr ⟨kw_861, List.forall_mem_cons.mpr ⟨kw_862, List.forall_mem_cons.mpr ⟨kw_242, fun _ h => nomatch h⟩⟩⟩⟩), rfl, by decide +kernel, by decide +kernel, by decide +kernel⟩
theorem kw_803 : Cond.fieldLink RX11 46 "WordTongue" "parser" "LWordTongue$Parser;" ∈ gWs := List.mem_filter.mpr ⟨gMt3 _ (List.mem_of_getElem? (i := 86) rfl), rfl⟩
theorem fl_X11_46 : gFL RX11 46 11 4 (.object "WordTongue$Parser") true := ⟨RX11, TX11, 10, tyX11, rfl, by decide, inW_RX11, kw_803, tyX11_ok, nmX11, rfl, by decide +kernel, fun _ => rfl⟩
theorem kw_949 : Cond.codeWith yX6_reads cX6_reads 2 (some .boolean) [(41, 50, 51, 80)] ∈ gWs := List.mem_filter.mpr ⟨gMt3 _ (List.mem_of_getElem? (i := 232) rfl), rfl⟩
theorem kw_946 : Cond.methodLink RX11 101 yX6_reads ∈ gWs := List.mem_filter.mpr ⟨gMt3 _ (List.mem_of_getElem? (i := 229) rfl), rfl⟩
theorem kw_947 : Cond.instanceMethod yX6_reads ∈ gWs := List.mem_filter.mpr ⟨gMt3 _ (List.mem_of_getElem? (i := 230) rfl), rfl⟩
theorem kw_948 : Cond.selects RX6 yX6_reads yX6_reads ∈ gWs := List.mem_filter.mpr ⟨gMt3 _ (List.mem_of_getElem? (i := 231) rfl), rfl⟩
theorem kw_1582 : Cond.code yX7_judge cX7_judge 3 none ∈ gWs := List.mem_filter.mpr ⟨gMt6 _ (List.mem_of_getElem? (i := 145) rfl), rfl⟩
theorem kw_1579 : Cond.methodLink RX11 111 yX7_judge ∈ gWs := List.mem_filter.mpr ⟨gMt6 _ (List.mem_of_getElem? (i := 142) rfl), rfl⟩
theorem kw_1580 : Cond.instanceMethod yX7_judge ∈ gWs := List.mem_filter.mpr ⟨gMt6 _ (List.mem_of_getElem? (i := 143) rfl), rfl⟩
theorem kw_1581 : Cond.selects RX7 yX7_judge yX7_judge ∈ gWs := List.mem_filter.mpr ⟨gMt6 _ (List.mem_of_getElem? (i := 144) rfl), rfl⟩
theorem cl_X11_111 : gCV RX11 111 yX7_judge cX7_judge 3 none 0 := ⟨g_mk [.methodLink RX11 111 yX7_judge, .instanceMethod yX7_judge, .selects yX7_judge.cls yX7_judge yX7_judge, .initialized yX7_judge.cls] (gWs_all kw_1582) (List.forall_mem_cons.mpr ⟨kw_1579, List.forall_mem_cons.mpr ⟨kw_1580, List.forall_mem_cons.mpr ⟨kw_1581, List.forall_mem_cons.mpr ⟨kw_240, fun _ h => nomatch h⟩⟩⟩⟩), rfl, by decide +kernel, by decide +kernel, by decide +kernel⟩
theorem kw_799 : Cond.fieldLink RX11 14 "WordTongue" "tape" "LWordTongue$Ints;" ∈ gWs := List.mem_filter.mpr ⟨gMt3 _ (List.mem_of_getElem? (i := 82) rfl), rfl⟩
theorem fl_X11_14 : gFL RX11 14 11 0 (.object "WordTongue$Ints") true := ⟨RX11, TX11, 10, tyX11, rfl, by decide, inW_RX11, kw_799, tyX11_ok, nmX11, rfl, by decide +kernel, fun _ => rfl⟩
theorem kw_844 : Cond.methodLink RX11 92 yX4_cut ∈ gWs := List.mem_filter.mpr ⟨gMt3 _ (List.mem_of_getElem? (i := 127) rfl), rfl⟩
theorem cl_X11_92 : gCV RX11 92 yX4_cut cX4_cut 2 none 1 := ⟨g_mk [.methodLink RX11 92 yX4_cut, .instanceMethod yX4_cut, .selects yX4_cut.cls yX4_cut yX4_cut, .initialized yX4_cut.cls] (gWs_all kw_468) (List.forall_mem_cons.mpr ⟨kw_844, List.forall_mem_cons.mpr ⟨kw_466, List.forall_mem_cons.mpr ⟨kw_467, List.forall_mem_cons.mpr ⟨kw_239, fun _ h => nomatch h⟩⟩⟩⟩), rfl, by decide +kernel, by decide +kernel, by decide +kernel⟩
theorem kw_1588 : Cond.code yX7_faultKind cX7_faultKind 1 (some .int) ∈ gWs := List.mem_filter.mpr ⟨gMt6 _ (List.mem_of_getElem? (i := 151) rfl), rfl⟩
theorem kw_1585 : Cond.methodLink RX11 114 yX7_faultKind ∈ gWs := List.mem_filter.mpr ⟨gMt6 _ (List.mem_of_getElem? (i := 148) rfl), rfl⟩
theorem kw_1586 : Cond.instanceMethod yX7_faultKind ∈ gWs := List.mem_filter.mpr ⟨gMt6 _ (List.mem_of_getElem? (i := 149) rfl), rfl⟩
theorem kw_1587 : Cond.selects RX7 yX7_faultKind yX7_faultKind ∈ gWs := List.mem_filter.mpr ⟨gMt6 _ (List.mem_of_getElem? (i := 150) rfl), rfl⟩
theorem cl_X11_114 : gCV RX11 114 yX7_faultKind cX7_faultKind 1 (some .int) 0 := ⟨g_mk [.methodLink RX11 114 yX7_faultKind, .instanceMethod yX7_faultKind, .selects yX7_faultKind.cls yX7_faultKind yX7_faultKind, .initialized yX7_faultKind.cls] (gWs_all kw_1588) (List.forall_mem_cons.mpr ⟨kw_1585, List.forall_mem_cons.mpr ⟨kw_1586, List.forall_mem_cons.mpr ⟨kw_1587, List.forall_mem_cons.mpr ⟨kw_240, fun _ h => nomatch h⟩⟩⟩⟩), rfl, by decide +kernel, by decide +kernel, by decide +kernel⟩
theorem kw_1592 : Cond.code yX7_faultPlace cX7_faultPlace 1 (some .int) ∈ gWs := List.mem_filter.mpr ⟨gMt6 _ (List.mem_of_getElem? (i := 155) rfl), rfl⟩
theorem kw_1589 : Cond.methodLink RX11 117 yX7_faultPlace ∈ gWs := List.mem_filter.mpr ⟨gMt6 _ (List.mem_of_getElem? (i := 152) rfl), rfl⟩
theorem kw_1590 : Cond.instanceMethod yX7_faultPlace ∈ gWs := List.mem_filter.mpr ⟨gMt6 _ (List.mem_of_getElem? (i := 153) rfl), rfl⟩
theorem kw_1591 : Cond.selects RX7 yX7_faultPlace yX7_faultPlace ∈ gWs := List.mem_filter.mpr ⟨gMt6 _ (List.mem_of_getElem? (i := 154) rfl), rfl⟩
theorem cl_X11_117 : gCV RX11 117 yX7_faultPlace cX7_faultPlace 1 (some .int) 0 := ⟨g_mk [.methodLink RX11 117 yX7_faultPlace, .instanceMethod yX7_faultPlace, .selects yX7_faultPlace.cls yX7_faultPlace yX7_faultPlace, .initialized yX7_faultPlace.cls] (gWs_all kw_1592) (List.forall_mem_cons.mpr ⟨kw_1589, List.forall_mem_cons.mpr ⟨kw_1590, List.forall_mem_cons.mpr ⟨kw_1591, List.forall_mem_cons.mpr ⟨kw_240, fun _ h => nomatch h⟩⟩⟩⟩), rfl, by decide +kernel, by decide +kernel, by decide +kernel⟩
theorem kw_761 : Cond.fieldLink RX5 51 "WordTongue$Machine" "answer" "I" ∈ gWs := List.mem_filter.mpr ⟨gMt3 _ (List.mem_of_getElem? (i := 44) rfl), rfl⟩
theorem kw_766 : Cond.laysFinal RX5 "WordTongue$Machine" "program" "LWordTongue$Program;" ∈ gWs := List.mem_filter.mpr ⟨gMt3 _ (List.mem_of_getElem? (i := 49) rfl), rfl⟩
theorem kw_768 : Cond.laysFinal RX5 "WordTongue$Machine" "channels" "LWordTongue$Channels;" ∈ gWs := List.mem_filter.mpr ⟨gMt3 _ (List.mem_of_getElem? (i := 51) rfl), rfl⟩
theorem kw_770 : Cond.laysFinal RX5 "WordTongue$Machine" "heap" "LWordTongue$Heap;" ∈ gWs := List.mem_filter.mpr ⟨gMt3 _ (List.mem_of_getElem? (i := 53) rfl), rfl⟩
theorem kw_772 : Cond.laysFinal RX5 "WordTongue$Machine" "stack" "LWordTongue$Ints;" ∈ gWs := List.mem_filter.mpr ⟨gMt3 _ (List.mem_of_getElem? (i := 55) rfl), rfl⟩
theorem kw_774 : Cond.laysFinal RX5 "WordTongue$Machine" "calls" "LWordTongue$Ints;" ∈ gWs := List.mem_filter.mpr ⟨gMt3 _ (List.mem_of_getElem? (i := 57) rfl), rfl⟩
theorem kw_776 : Cond.lays RX5 "WordTongue$Machine" "cells" "[I" ∈ gWs := List.mem_filter.mpr ⟨gMt3 _ (List.mem_of_getElem? (i := 59) rfl), rfl⟩
theorem kw_778 : Cond.lays RX5 "WordTongue$Machine" "words" "I" ∈ gWs := List.mem_filter.mpr ⟨gMt3 _ (List.mem_of_getElem? (i := 61) rfl), rfl⟩
theorem kw_780 : Cond.lays RX5 "WordTongue$Machine" "at" "I" ∈ gWs := List.mem_filter.mpr ⟨gMt3 _ (List.mem_of_getElem? (i := 63) rfl), rfl⟩
theorem kw_782 : Cond.lays RX5 "WordTongue$Machine" "base" "I" ∈ gWs := List.mem_filter.mpr ⟨gMt3 _ (List.mem_of_getElem? (i := 65) rfl), rfl⟩
theorem kw_784 : Cond.lays RX5 "WordTongue$Machine" "routine" "I" ∈ gWs := List.mem_filter.mpr ⟨gMt3 _ (List.mem_of_getElem? (i := 67) rfl), rfl⟩
theorem kw_786 : Cond.lays RX5 "WordTongue$Machine" "rest" "I" ∈ gWs := List.mem_filter.mpr ⟨gMt3 _ (List.mem_of_getElem? (i := 69) rfl), rfl⟩
theorem kw_788 : Cond.lays RX5 "WordTongue$Machine" "answer" "I" ∈ gWs := List.mem_filter.mpr ⟨gMt3 _ (List.mem_of_getElem? (i := 71) rfl), rfl⟩
theorem kw_790 : Cond.lays RX5 "WordTongue$Machine" "error" "I" ∈ gWs := List.mem_filter.mpr ⟨gMt3 _ (List.mem_of_getElem? (i := 73) rfl), rfl⟩
theorem kw_792 : Cond.lays RX5 "WordTongue$Machine" "over" "Z" ∈ gWs := List.mem_filter.mpr ⟨gMt3 _ (List.mem_of_getElem? (i := 75) rfl), rfl⟩
theorem kw_794 : Cond.lays RX5 "WordTongue$Machine" "service" "I" ∈ gWs := List.mem_filter.mpr ⟨gMt3 _ (List.mem_of_getElem? (i := 77) rfl), rfl⟩
theorem kw_796 : Cond.lays RX5 "WordTongue$Machine" "given" "I" ∈ gWs := List.mem_filter.mpr ⟨gMt3 _ (List.mem_of_getElem? (i := 79) rfl), rfl⟩
set_option maxRecDepth 20000 in
theorem inW_RX5 : ∀ w ∈ u_ws RX5 TX5 16, w ∈ gWs := List.forall_mem_cons.mpr ⟨kw_766, List.forall_mem_cons.mpr ⟨kw_768, List.forall_mem_cons.mpr ⟨kw_770, List.forall_mem_cons.mpr ⟨kw_772, List.forall_mem_cons.mpr ⟨kw_774, List.forall_mem_cons.mpr ⟨kw_776, List.forall_mem_cons.mpr ⟨kw_778, List.forall_mem_cons.mpr ⟨kw_780, List.forall_mem_cons.mpr ⟨kw_782, List.forall_mem_cons.mpr ⟨kw_784, List.forall_mem_cons.mpr ⟨kw_786, List.forall_mem_cons.mpr ⟨kw_788, List.forall_mem_cons.mpr ⟨kw_790, List.forall_mem_cons.mpr ⟨kw_792, List.forall_mem_cons.mpr ⟨kw_794, List.forall_mem_cons.mpr ⟨kw_796, fun _ h => nomatch h⟩⟩⟩⟩⟩⟩⟩⟩⟩⟩⟩⟩⟩⟩⟩⟩
theorem fl_X5_51 : gFL RX5 51 5 11 .int false := ⟨RX5, TX5, 16, tyX5, rfl, by decide, inW_RX5, kw_761, tyX5_ok, nmX5, rfl, by decide +kernel, fun h => by cases h⟩
theorem kw_760 : Cond.fieldLink RX5 48 "WordTongue$Machine" "rest" "I" ∈ gWs := List.mem_filter.mpr ⟨gMt3 _ (List.mem_of_getElem? (i := 43) rfl), rfl⟩
theorem fl_X5_48 : gFL RX5 48 5 10 .int false := ⟨RX5, TX5, 16, tyX5, rfl, by decide, inW_RX5, kw_760, tyX5_ok, nmX5, rfl, by decide +kernel, fun h => by cases h⟩
theorem kw_806 : Cond.fieldLink RX11 71 "WordTongue" "machine" "LWordTongue$Machine;" ∈ gWs := List.mem_filter.mpr ⟨gMt3 _ (List.mem_of_getElem? (i := 89) rfl), rfl⟩
theorem fl_X11_71 : gFL RX11 71 11 7 (.object "WordTongue$Machine") true := ⟨RX11, TX11, 10, tyX11, rfl, by decide, inW_RX11, kw_806, tyX11_ok, nmX11, rfl, by decide +kernel, fun _ => rfl⟩
theorem kw_255 : Cond.initialized RX5 ∈ gWs := List.mem_filter.mpr ⟨gMt1 _ (List.mem_of_getElem? (i := 18) rfl), rfl⟩
theorem kw_1885 : Cond.code yX5_told cX5_told 1 (some .int) ∈ gWs := List.mem_filter.mpr ⟨gMt7 _ (List.mem_of_getElem? (i := 208) rfl), rfl⟩
theorem kw_1882 : Cond.methodLink RX11 141 yX5_told ∈ gWs := List.mem_filter.mpr ⟨gMt7 _ (List.mem_of_getElem? (i := 205) rfl), rfl⟩
theorem kw_1883 : Cond.instanceMethod yX5_told ∈ gWs := List.mem_filter.mpr ⟨gMt7 _ (List.mem_of_getElem? (i := 206) rfl), rfl⟩
theorem kw_1884 : Cond.selects RX5 yX5_told yX5_told ∈ gWs := List.mem_filter.mpr ⟨gMt7 _ (List.mem_of_getElem? (i := 207) rfl), rfl⟩
theorem cl_X11_141 : gCV RX11 141 yX5_told cX5_told 1 (some .int) 0 := ⟨g_mk [.methodLink RX11 141 yX5_told, .instanceMethod yX5_told, .selects yX5_told.cls yX5_told yX5_told, .initialized yX5_told.cls] (gWs_all kw_1885) (List.forall_mem_cons.mpr ⟨kw_1882, List.forall_mem_cons.mpr ⟨kw_1883, List.forall_mem_cons.mpr ⟨kw_1884, List.forall_mem_cons.mpr ⟨kw_255, fun _ h => nomatch h⟩⟩⟩⟩), rfl, by decide +kernel, by decide +kernel, by decide +kernel⟩
theorem kw_1901 : Cond.code yX5_fuelLeft cX5_fuelLeft 1 (some .int) ∈ gWs := List.mem_filter.mpr ⟨gMt7 _ (List.mem_of_getElem? (i := 224) rfl), rfl⟩
theorem kw_1898 : Cond.methodLink RX11 157 yX5_fuelLeft ∈ gWs := List.mem_filter.mpr ⟨gMt7 _ (List.mem_of_getElem? (i := 221) rfl), rfl⟩
theorem kw_1899 : Cond.instanceMethod yX5_fuelLeft ∈ gWs := List.mem_filter.mpr ⟨gMt7 _ (List.mem_of_getElem? (i := 222) rfl), rfl⟩
theorem kw_1900 : Cond.selects RX5 yX5_fuelLeft yX5_fuelLeft ∈ gWs := List.mem_filter.mpr ⟨gMt7 _ (List.mem_of_getElem? (i := 223) rfl), rfl⟩
theorem cl_X11_157 : gCV RX11 157 yX5_fuelLeft cX5_fuelLeft 1 (some .int) 0 := ⟨g_mk [.methodLink RX11 157 yX5_fuelLeft, .instanceMethod yX5_fuelLeft, .selects yX5_fuelLeft.cls yX5_fuelLeft yX5_fuelLeft, .initialized yX5_fuelLeft.cls] (gWs_all kw_1901) (List.forall_mem_cons.mpr ⟨kw_1898, List.forall_mem_cons.mpr ⟨kw_1899, List.forall_mem_cons.mpr ⟨kw_1900, List.forall_mem_cons.mpr ⟨kw_255, fun _ h => nomatch h⟩⟩⟩⟩), rfl, by decide +kernel, by decide +kernel, by decide +kernel⟩
theorem kw_1636 : Cond.code yX7_isReady cX7_isReady 1 (some .boolean) ∈ gWs := List.mem_filter.mpr ⟨gMt6 _ (List.mem_of_getElem? (i := 199) rfl), rfl⟩
theorem kw_1633 : Cond.methodLink RX11 134 yX7_isReady ∈ gWs := List.mem_filter.mpr ⟨gMt6 _ (List.mem_of_getElem? (i := 196) rfl), rfl⟩
theorem kw_1634 : Cond.instanceMethod yX7_isReady ∈ gWs := List.mem_filter.mpr ⟨gMt6 _ (List.mem_of_getElem? (i := 197) rfl), rfl⟩
theorem kw_1635 : Cond.selects RX7 yX7_isReady yX7_isReady ∈ gWs := List.mem_filter.mpr ⟨gMt6 _ (List.mem_of_getElem? (i := 198) rfl), rfl⟩
theorem cl_X11_134 : gCV RX11 134 yX7_isReady cX7_isReady 1 (some .boolean) 0 := ⟨g_mk [.methodLink RX11 134 yX7_isReady, .instanceMethod yX7_isReady, .selects yX7_isReady.cls yX7_isReady yX7_isReady, .initialized yX7_isReady.cls] (gWs_all kw_1636) (List.forall_mem_cons.mpr ⟨kw_1633, List.forall_mem_cons.mpr ⟨kw_1634, List.forall_mem_cons.mpr ⟨kw_1635, List.forall_mem_cons.mpr ⟨kw_240, fun _ h => nomatch h⟩⟩⟩⟩), rfl, by decide +kernel, by decide +kernel, by decide +kernel⟩
theorem kw_834 : Cond.methodLink RX11 82 yX4_size ∈ gWs := List.mem_filter.mpr ⟨gMt3 _ (List.mem_of_getElem? (i := 117) rfl), rfl⟩
theorem cl_X11_82 : gCV RX11 82 yX4_size cX4_size 1 (some .int) 0 := ⟨g_mk [.methodLink RX11 82 yX4_size, .instanceMethod yX4_size, .selects yX4_size.cls yX4_size yX4_size, .initialized yX4_size.cls] (gWs_all kw_428) (List.forall_mem_cons.mpr ⟨kw_834, List.forall_mem_cons.mpr ⟨kw_426, List.forall_mem_cons.mpr ⟨kw_427, List.forall_mem_cons.mpr ⟨kw_239, fun _ h => nomatch h⟩⟩⟩⟩), rfl, by decide +kernel, by decide +kernel, by decide +kernel⟩
theorem kw_710 : Cond.fieldLink RX0 14 "WordTongue$Channels" "inputs" "[LWordTongue$Ints;" ∈ gWs := List.mem_filter.mpr ⟨gMt2 _ (List.mem_of_getElem? (i := 233) rfl), rfl⟩
theorem kw_715 : Cond.laysFinal RX0 "WordTongue$Channels" "inputs" "[LWordTongue$Ints;" ∈ gWs := List.mem_filter.mpr ⟨gMt2 _ (List.mem_of_getElem? (i := 238) rfl), rfl⟩
theorem kw_717 : Cond.laysFinal RX0 "WordTongue$Channels" "positions" "[I" ∈ gWs := List.mem_filter.mpr ⟨gMt3 _ (List.mem_of_getElem? (i := 0) rfl), rfl⟩
theorem kw_719 : Cond.laysFinal RX0 "WordTongue$Channels" "outputs" "[LWordTongue$Ints;" ∈ gWs := List.mem_filter.mpr ⟨gMt3 _ (List.mem_of_getElem? (i := 2) rfl), rfl⟩
theorem kw_721 : Cond.lays RX0 "WordTongue$Channels" "inHand" "I" ∈ gWs := List.mem_filter.mpr ⟨gMt3 _ (List.mem_of_getElem? (i := 4) rfl), rfl⟩
theorem kw_723 : Cond.lays RX0 "WordTongue$Channels" "outHand" "I" ∈ gWs := List.mem_filter.mpr ⟨gMt3 _ (List.mem_of_getElem? (i := 6) rfl), rfl⟩
set_option maxRecDepth 20000 in
theorem inW_RX0 : ∀ w ∈ u_ws RX0 TX0 5, w ∈ gWs := List.forall_mem_cons.mpr ⟨kw_715, List.forall_mem_cons.mpr ⟨kw_717, List.forall_mem_cons.mpr ⟨kw_719, List.forall_mem_cons.mpr ⟨kw_721, List.forall_mem_cons.mpr ⟨kw_723, fun _ h => nomatch h⟩⟩⟩⟩⟩
theorem fl_X0_14 : gFL RX0 14 0 0 (.array (.object "WordTongue$Ints")) true := ⟨RX0, TX0, 5, tyX0, rfl, by decide, inW_RX0, kw_710, tyX0_ok, nmX0, rfl, by decide +kernel, fun _ => rfl⟩
theorem kw_711 : Cond.fieldLink RX0 20 "WordTongue$Channels" "positions" "[I" ∈ gWs := List.mem_filter.mpr ⟨gMt2 _ (List.mem_of_getElem? (i := 234) rfl), rfl⟩
theorem fl_X0_20 : gFL RX0 20 0 1 (.array .int) true := ⟨RX0, TX0, 5, tyX0, rfl, by decide, inW_RX0, kw_711, tyX0_ok, nmX0, rfl, by decide +kernel, fun _ => rfl⟩
theorem kw_712 : Cond.fieldLink RX0 24 "WordTongue$Channels" "outputs" "[LWordTongue$Ints;" ∈ gWs := List.mem_filter.mpr ⟨gMt2 _ (List.mem_of_getElem? (i := 235) rfl), rfl⟩
theorem fl_X0_24 : gFL RX0 24 0 2 (.array (.object "WordTongue$Ints")) true := ⟨RX0, TX0, 5, tyX0, rfl, by decide, inW_RX0, kw_712, tyX0_ok, nmX0, rfl, by decide +kernel, fun _ => rfl⟩
theorem kw_254 : Cond.initialized RX0 ∈ gWs := List.mem_filter.mpr ⟨gMt1 _ (List.mem_of_getElem? (i := 17) rfl), rfl⟩
theorem kw_1812 : Cond.code yX0_isOutput cX0_isOutput 2 (some .boolean) ∈ gWs := List.mem_filter.mpr ⟨gMt7 _ (List.mem_of_getElem? (i := 135) rfl), rfl⟩
theorem kw_1809 : Cond.methodLink RX0 46 yX0_isOutput ∈ gWs := List.mem_filter.mpr ⟨gMt7 _ (List.mem_of_getElem? (i := 132) rfl), rfl⟩
theorem kw_1811 : Cond.instanceMethod yX0_isOutput ∈ gWs := List.mem_filter.mpr ⟨gMt7 _ (List.mem_of_getElem? (i := 134) rfl), rfl⟩
theorem kw_118 : Cond.selects RX0 yX0_isOutput yX0_isOutput ∈ gWs := gWm 118 (by decide +kernel) rfl
theorem cl_X0_46 : gCV RX0 46 yX0_isOutput cX0_isOutput 2 (some .boolean) 1 := ⟨g_mk [.methodLink RX0 46 yX0_isOutput, .instanceMethod yX0_isOutput, .selects yX0_isOutput.cls yX0_isOutput yX0_isOutput, .initialized yX0_isOutput.cls] (gWs_all kw_1812) (List.forall_mem_cons.mpr ⟨kw_1809, List.forall_mem_cons.mpr ⟨kw_1811, List.forall_mem_cons.mpr ⟨kw_118, List.forall_mem_cons.mpr ⟨kw_254, fun _ h => nomatch h⟩⟩⟩⟩), rfl, by decide +kernel, by decide +kernel, by decide +kernel⟩
theorem kw_1628 : Cond.methodLink RX0 42 yX4_size ∈ gWs := List.mem_filter.mpr ⟨gMt6 _ (List.mem_of_getElem? (i := 191) rfl), rfl⟩
theorem cl_X0_42 : gCV RX0 42 yX4_size cX4_size 1 (some .int) 0 := ⟨g_mk [.methodLink RX0 42 yX4_size, .instanceMethod yX4_size, .selects yX4_size.cls yX4_size yX4_size, .initialized yX4_size.cls] (gWs_all kw_428) (List.forall_mem_cons.mpr ⟨kw_1628, List.forall_mem_cons.mpr ⟨kw_426, List.forall_mem_cons.mpr ⟨kw_427, List.forall_mem_cons.mpr ⟨kw_239, fun _ h => nomatch h⟩⟩⟩⟩), rfl, by decide +kernel, by decide +kernel, by decide +kernel⟩
theorem kw_805 : Cond.fieldLink RX11 62 "WordTongue" "channels" "LWordTongue$Channels;" ∈ gWs := List.mem_filter.mpr ⟨gMt3 _ (List.mem_of_getElem? (i := 88) rfl), rfl⟩
theorem fl_X11_62 : gFL RX11 62 11 6 (.object "WordTongue$Channels") true := ⟨RX11, TX11, 10, tyX11, rfl, by decide, inW_RX11, kw_805, tyX11_ok, nmX11, rfl, by decide +kernel, fun _ => rfl⟩
theorem kw_1893 : Cond.code yX0_length cX0_length 2 (some .int) ∈ gWs := List.mem_filter.mpr ⟨gMt7 _ (List.mem_of_getElem? (i := 216) rfl), rfl⟩
theorem kw_1890 : Cond.methodLink RX11 144 yX0_length ∈ gWs := List.mem_filter.mpr ⟨gMt7 _ (List.mem_of_getElem? (i := 213) rfl), rfl⟩
theorem kw_1891 : Cond.instanceMethod yX0_length ∈ gWs := List.mem_filter.mpr ⟨gMt7 _ (List.mem_of_getElem? (i := 214) rfl), rfl⟩
theorem kw_1892 : Cond.selects RX0 yX0_length yX0_length ∈ gWs := List.mem_filter.mpr ⟨gMt7 _ (List.mem_of_getElem? (i := 215) rfl), rfl⟩
theorem cl_X11_144 : gCV RX11 144 yX0_length cX0_length 2 (some .int) 1 := ⟨g_mk [.methodLink RX11 144 yX0_length, .instanceMethod yX0_length, .selects yX0_length.cls yX0_length yX0_length, .initialized yX0_length.cls] (gWs_all kw_1893) (List.forall_mem_cons.mpr ⟨kw_1890, List.forall_mem_cons.mpr ⟨kw_1891, List.forall_mem_cons.mpr ⟨kw_1892, List.forall_mem_cons.mpr ⟨kw_254, fun _ h => nomatch h⟩⟩⟩⟩), rfl, by decide +kernel, by decide +kernel, by decide +kernel⟩
theorem kw_756 : Cond.fieldLink RX5 35 "WordTongue$Machine" "words" "I" ∈ gWs := List.mem_filter.mpr ⟨gMt3 _ (List.mem_of_getElem? (i := 39) rfl), rfl⟩
theorem fl_X5_35 : gFL RX5 35 5 6 .int false := ⟨RX5, TX5, 16, tyX5, rfl, by decide, inW_RX5, kw_756, tyX5_ok, nmX5, rfl, by decide +kernel, fun h => by cases h⟩
theorem kw_1666 : Cond.code yX5_isThere cX5_isThere 2 (some .boolean) ∈ gWs := List.mem_filter.mpr ⟨gMt6 _ (List.mem_of_getElem? (i := 229) rfl), rfl⟩
theorem kw_1663 : Cond.methodLink RX5 75 yX5_isThere ∈ gWs := List.mem_filter.mpr ⟨gMt6 _ (List.mem_of_getElem? (i := 226) rfl), rfl⟩
theorem kw_1665 : Cond.instanceMethod yX5_isThere ∈ gWs := List.mem_filter.mpr ⟨gMt6 _ (List.mem_of_getElem? (i := 228) rfl), rfl⟩
theorem kw_99 : Cond.selects RX5 yX5_isThere yX5_isThere ∈ gWs := gWm 99 (by decide +kernel) rfl
theorem cl_X5_75 : gCV RX5 75 yX5_isThere cX5_isThere 2 (some .boolean) 1 := ⟨g_mk [.methodLink RX5 75 yX5_isThere, .instanceMethod yX5_isThere, .selects yX5_isThere.cls yX5_isThere yX5_isThere, .initialized yX5_isThere.cls] (gWs_all kw_1666) (List.forall_mem_cons.mpr ⟨kw_1663, List.forall_mem_cons.mpr ⟨kw_1665, List.forall_mem_cons.mpr ⟨kw_99, List.forall_mem_cons.mpr ⟨kw_255, fun _ h => nomatch h⟩⟩⟩⟩), rfl, by decide +kernel, by decide +kernel, by decide +kernel⟩
theorem kw_1625 : Cond.methodLink RX4 39 yX4_cut ∈ gWs := List.mem_filter.mpr ⟨gMt6 _ (List.mem_of_getElem? (i := 188) rfl), rfl⟩
theorem cl_X4_39 : gCV RX4 39 yX4_cut cX4_cut 2 none 1 := ⟨g_mk [.methodLink RX4 39 yX4_cut, .instanceMethod yX4_cut, .selects yX4_cut.cls yX4_cut yX4_cut, .initialized yX4_cut.cls] (gWs_all kw_468) (List.forall_mem_cons.mpr ⟨kw_1625, List.forall_mem_cons.mpr ⟨kw_466, List.forall_mem_cons.mpr ⟨kw_467, List.forall_mem_cons.mpr ⟨kw_239, fun _ h => nomatch h⟩⟩⟩⟩), rfl, by decide +kernel, by decide +kernel, by decide +kernel⟩
theorem kw_1626 : Cond.methodLink RX4 43 yX4_size ∈ gWs := List.mem_filter.mpr ⟨gMt6 _ (List.mem_of_getElem? (i := 189) rfl), rfl⟩
theorem cl_X4_43 : gCV RX4 43 yX4_size cX4_size 1 (some .int) 0 := ⟨g_mk [.methodLink RX4 43 yX4_size, .instanceMethod yX4_size, .selects yX4_size.cls yX4_size yX4_size, .initialized yX4_size.cls] (gWs_all kw_428) (List.forall_mem_cons.mpr ⟨kw_1626, List.forall_mem_cons.mpr ⟨kw_426, List.forall_mem_cons.mpr ⟨kw_427, List.forall_mem_cons.mpr ⟨kw_239, fun _ h => nomatch h⟩⟩⟩⟩), rfl, by decide +kernel, by decide +kernel, by decide +kernel⟩
theorem kw_1620 : Cond.code yX0_isInput cX0_isInput 2 (some .boolean) ∈ gWs := List.mem_filter.mpr ⟨gMt6 _ (List.mem_of_getElem? (i := 183) rfl), rfl⟩
theorem kw_1617 : Cond.methodLink RX0 34 yX0_isInput ∈ gWs := List.mem_filter.mpr ⟨gMt6 _ (List.mem_of_getElem? (i := 180) rfl), rfl⟩
theorem kw_1619 : Cond.instanceMethod yX0_isInput ∈ gWs := List.mem_filter.mpr ⟨gMt6 _ (List.mem_of_getElem? (i := 182) rfl), rfl⟩
theorem kw_96 : Cond.selects RX0 yX0_isInput yX0_isInput ∈ gWs := gWm 96 (by decide +kernel) rfl
theorem cl_X0_34 : gCV RX0 34 yX0_isInput cX0_isInput 2 (some .boolean) 1 := ⟨g_mk [.methodLink RX0 34 yX0_isInput, .instanceMethod yX0_isInput, .selects yX0_isInput.cls yX0_isInput yX0_isInput, .initialized yX0_isInput.cls] (gWs_all kw_1620) (List.forall_mem_cons.mpr ⟨kw_1617, List.forall_mem_cons.mpr ⟨kw_1619, List.forall_mem_cons.mpr ⟨kw_96, List.forall_mem_cons.mpr ⟨kw_254, fun _ h => nomatch h⟩⟩⟩⟩), rfl, by decide +kernel, by decide +kernel, by decide +kernel⟩
theorem kw_1624 : Cond.code yX4_copyFrom cX4_copyFrom 3 none ∈ gWs := List.mem_filter.mpr ⟨gMt6 _ (List.mem_of_getElem? (i := 187) rfl), rfl⟩
theorem kw_1621 : Cond.methodLink RX0 38 yX4_copyFrom ∈ gWs := List.mem_filter.mpr ⟨gMt6 _ (List.mem_of_getElem? (i := 184) rfl), rfl⟩
theorem kw_1622 : Cond.instanceMethod yX4_copyFrom ∈ gWs := List.mem_filter.mpr ⟨gMt6 _ (List.mem_of_getElem? (i := 185) rfl), rfl⟩
theorem kw_1623 : Cond.selects RX4 yX4_copyFrom yX4_copyFrom ∈ gWs := List.mem_filter.mpr ⟨gMt6 _ (List.mem_of_getElem? (i := 186) rfl), rfl⟩
theorem cl_X0_38 : gCV RX0 38 yX4_copyFrom cX4_copyFrom 3 none 1 := ⟨g_mk [.methodLink RX0 38 yX4_copyFrom, .instanceMethod yX4_copyFrom, .selects yX4_copyFrom.cls yX4_copyFrom yX4_copyFrom, .initialized yX4_copyFrom.cls] (gWs_all kw_1624) (List.forall_mem_cons.mpr ⟨kw_1621, List.forall_mem_cons.mpr ⟨kw_1622, List.forall_mem_cons.mpr ⟨kw_1623, List.forall_mem_cons.mpr ⟨kw_239, fun _ h => nomatch h⟩⟩⟩⟩), rfl, by decide +kernel, by decide +kernel, by decide +kernel⟩
theorem kw_1616 : Cond.code yX0_take cX0_take 3 (some .int) ∈ gWs := List.mem_filter.mpr ⟨gMt6 _ (List.mem_of_getElem? (i := 179) rfl), rfl⟩
theorem kw_1613 : Cond.methodLink RX11 130 yX0_take ∈ gWs := List.mem_filter.mpr ⟨gMt6 _ (List.mem_of_getElem? (i := 176) rfl), rfl⟩
theorem kw_1614 : Cond.instanceMethod yX0_take ∈ gWs := List.mem_filter.mpr ⟨gMt6 _ (List.mem_of_getElem? (i := 177) rfl), rfl⟩
theorem kw_1615 : Cond.selects RX0 yX0_take yX0_take ∈ gWs := List.mem_filter.mpr ⟨gMt6 _ (List.mem_of_getElem? (i := 178) rfl), rfl⟩
theorem cl_X11_130 : gCV RX11 130 yX0_take cX0_take 3 (some .int) 2 := ⟨g_mk [.methodLink RX11 130 yX0_take, .instanceMethod yX0_take, .selects yX0_take.cls yX0_take yX0_take, .initialized yX0_take.cls] (gWs_all kw_1616) (List.forall_mem_cons.mpr ⟨kw_1613, List.forall_mem_cons.mpr ⟨kw_1614, List.forall_mem_cons.mpr ⟨kw_1615, List.forall_mem_cons.mpr ⟨kw_254, fun _ h => nomatch h⟩⟩⟩⟩), rfl, by decide +kernel, by decide +kernel, by decide +kernel⟩
theorem kw_839 : Cond.methodLink RX11 89 yX4_add ∈ gWs := List.mem_filter.mpr ⟨gMt3 _ (List.mem_of_getElem? (i := 122) rfl), rfl⟩
theorem cl_X11_89 : gCV RX11 89 yX4_add cX4_add 2 none 1 := ⟨g_mk [.methodLink RX11 89 yX4_add, .instanceMethod yX4_add, .selects yX4_add.cls yX4_add yX4_add, .initialized yX4_add.cls] (gWs_all kw_444) (List.forall_mem_cons.mpr ⟨kw_839, List.forall_mem_cons.mpr ⟨kw_442, List.forall_mem_cons.mpr ⟨kw_443, List.forall_mem_cons.mpr ⟨kw_239, fun _ h => nomatch h⟩⟩⟩⟩), rfl, by decide +kernel, by decide +kernel, by decide +kernel⟩
theorem kw_238 : Cond.initialized RX11 ∈ gWs := List.mem_filter.mpr ⟨gMt1 _ (List.mem_of_getElem? (i := 1) rfl), rfl⟩
theorem kw_838 : Cond.code yX11_addBytes cX11_addBytes 3 none ∈ gWs := List.mem_filter.mpr ⟨gMt3 _ (List.mem_of_getElem? (i := 121) rfl), rfl⟩
theorem kw_835 : Cond.methodLink RX11 86 yX11_addBytes ∈ gWs := List.mem_filter.mpr ⟨gMt3 _ (List.mem_of_getElem? (i := 118) rfl), rfl⟩
theorem kw_837 : Cond.instanceMethod yX11_addBytes ∈ gWs := List.mem_filter.mpr ⟨gMt3 _ (List.mem_of_getElem? (i := 120) rfl), rfl⟩
theorem kw_3 : Cond.selects RX11 yX11_addBytes yX11_addBytes ∈ gWs := gWm 3 (by decide +kernel) rfl
theorem cl_X11_86 : gCV RX11 86 yX11_addBytes cX11_addBytes 3 none 1 := ⟨g_mk [.methodLink RX11 86 yX11_addBytes, .instanceMethod yX11_addBytes, .selects yX11_addBytes.cls yX11_addBytes yX11_addBytes, .initialized yX11_addBytes.cls] (gWs_all kw_838) (List.forall_mem_cons.mpr ⟨kw_835, List.forall_mem_cons.mpr ⟨kw_837, List.forall_mem_cons.mpr ⟨kw_3, List.forall_mem_cons.mpr ⟨kw_238, fun _ h => nomatch h⟩⟩⟩⟩), rfl, by decide +kernel, by decide +kernel, by decide +kernel⟩
theorem kw_1606 : Cond.constant RJ6 265 1431655765 ∈ gWs := List.mem_filter.mpr ⟨gMt6 _ (List.mem_of_getElem? (i := 169) rfl), rfl⟩
theorem kw_1607 : Cond.constant RJ6 266 858993459 ∈ gWs := List.mem_filter.mpr ⟨gMt6 _ (List.mem_of_getElem? (i := 170) rfl), rfl⟩
theorem kw_1608 : Cond.constant RJ6 267 252645135 ∈ gWs := List.mem_filter.mpr ⟨gMt6 _ (List.mem_of_getElem? (i := 171) rfl), rfl⟩
theorem kw_1602 : Cond.constant RX11 123 65536 ∈ gWs := List.mem_filter.mpr ⟨gMt6 _ (List.mem_of_getElem? (i := 165) rfl), rfl⟩
theorem kw_262 : Cond.initialized RJ6 ∈ gWs := List.mem_filter.mpr ⟨gMt1 _ (List.mem_of_getElem? (i := 25) rfl), rfl⟩
theorem kw_1605 : Cond.code yJ6_bitCount_0f7a4 cJ6_bitCount_0f7a4 1 (some .int) ∈ gWs := List.mem_filter.mpr ⟨gMt6 _ (List.mem_of_getElem? (i := 168) rfl), rfl⟩
theorem kw_1603 : Cond.methodLink RX11 124 yJ6_bitCount_0f7a4 ∈ gWs := List.mem_filter.mpr ⟨gMt6 _ (List.mem_of_getElem? (i := 166) rfl), rfl⟩
theorem kw_1604 : Cond.static yJ6_bitCount_0f7a4 ∈ gWs := List.mem_filter.mpr ⟨gMt6 _ (List.mem_of_getElem? (i := 167) rfl), rfl⟩
theorem cl_X11_124 : gCS RX11 124 yJ6_bitCount_0f7a4 cJ6_bitCount_0f7a4 1 (some .int) 1 := ⟨g_mk [.methodLink RX11 124 yJ6_bitCount_0f7a4, .static yJ6_bitCount_0f7a4, .initialized yJ6_bitCount_0f7a4.cls] (gWs_all kw_1605) (List.forall_mem_cons.mpr ⟨kw_1603, List.forall_mem_cons.mpr ⟨kw_1604, List.forall_mem_cons.mpr ⟨kw_262, fun _ h => nomatch h⟩⟩⟩), ⟨by decide +kernel, by decide +kernel, by decide +kernel⟩⟩
theorem kw_1910 : Cond.classLink RX11 147 "java/util/NoSuchElementException" ∈ gWs := List.mem_filter.mpr ⟨gMt7 _ (List.mem_of_getElem? (i := 233) rfl), rfl⟩
theorem kw_263 : Cond.initialized "java/util/NoSuchElementException" ∈ gWs := List.mem_filter.mpr ⟨gMt1 _ (List.mem_of_getElem? (i := 26) rfl), rfl⟩
theorem kw_808 : Cond.fieldLink RX11 79 "WordTongue" "goodWords" "I" ∈ gWs := List.mem_filter.mpr ⟨gMt3 _ (List.mem_of_getElem? (i := 91) rfl), rfl⟩
theorem fl_X11_79 : gFL RX11 79 11 9 .int false := ⟨RX11, TX11, 10, tyX11, rfl, by decide, inW_RX11, kw_808, tyX11_ok, nmX11, rfl, by decide +kernel, fun h => by cases h⟩
theorem kw_1945 : Cond.code yX5_left cX5_left 2 (some .int) ∈ gWs := List.mem_filter.mpr ⟨gMt8 _ (List.mem_of_getElem? (i := 28) rfl), rfl⟩
theorem kw_1942 : Cond.methodLink RX11 154 yX5_left ∈ gWs := List.mem_filter.mpr ⟨gMt8 _ (List.mem_of_getElem? (i := 25) rfl), rfl⟩
theorem kw_1943 : Cond.instanceMethod yX5_left ∈ gWs := List.mem_filter.mpr ⟨gMt8 _ (List.mem_of_getElem? (i := 26) rfl), rfl⟩
theorem kw_1944 : Cond.selects RX5 yX5_left yX5_left ∈ gWs := List.mem_filter.mpr ⟨gMt8 _ (List.mem_of_getElem? (i := 27) rfl), rfl⟩
theorem cl_X11_154 : gCV RX11 154 yX5_left cX5_left 2 (some .int) 1 := ⟨g_mk [.methodLink RX11 154 yX5_left, .instanceMethod yX5_left, .selects yX5_left.cls yX5_left yX5_left, .initialized yX5_left.cls] (gWs_all kw_1945) (List.forall_mem_cons.mpr ⟨kw_1942, List.forall_mem_cons.mpr ⟨kw_1943, List.forall_mem_cons.mpr ⟨kw_1944, List.forall_mem_cons.mpr ⟨kw_255, fun _ h => nomatch h⟩⟩⟩⟩), rfl, by decide +kernel, by decide +kernel, by decide +kernel⟩
theorem gnb {x : Int32} (h : x = 0 ∨ x = 1) : narrow .boolean (.int x) = .int x := by
  rcases h with rfl | rfl <;> rfl
theorem dX7_faultKind_0 : decode cX7_faultKind 0 = .ok (.aload_n 0, 1) := by decide +kernel
theorem dX7_faultKind_1 : decode cX7_faultKind 1 = .ok (.getfield 43, 3) := by decide +kernel
theorem dX7_faultKind_4 : decode cX7_faultKind 4 = .ok (.ireturn, 1) := by decide +kernel
set_option maxHeartbeats 4000000 in
set_option maxRecDepth 100000 in
theorem c_P_kind (l : Launch) (d : gD) (b : Nat) (Y : gYt) (F : gM) (S : gSt) (hW : gWT d Y F S)  : gMi l d b yX7_faultKind cX7_faultKind 1 .int 0 0 0 F [.ref (gO' Y 1)] (fun r F' => r = sV S 4 ∧ F' = F) := by
  refine gM_of2 rfl (nL := 1) (Nat.le_of_ble_eq_true rfl) ?_
  intro X hX hC; subst hX
  show gG X d b _ F 0 0 0 [some (.ref (gO' Y 1))] []
  have hM0 : gSm S S [] [] := gSm.rf
  have hK0 : gKp Y F F := gKp.rf
  refine g_aload_n hC dX7_faultKind_0 rfl ?_
  refine g_get hC fl_X7_43 (hW.o 1 (by decide)) rfl dX7_faultKind_1 ?_
  exact g_iret hC rfl ⟨rfl, rfl⟩ (by first | exact Nat.le_of_ble_eq_true rfl | omega | (simp only [gR]; omega)) (by first | exact Nat.le_of_ble_eq_true rfl | omega | (simp only [gR]; omega)) dX7_faultKind_4
theorem dX7_isReady_0 : decode cX7_isReady 0 = .ok (.aload_n 0, 1) := by decide +kernel
theorem dX7_isReady_1 : decode cX7_isReady 1 = .ok (.getfield 49, 3) := by decide +kernel
theorem dX7_isReady_4 : decode cX7_isReady 4 = .ok (.ireturn, 1) := by decide +kernel
set_option maxHeartbeats 4000000 in
set_option maxRecDepth 100000 in
theorem c_P_ready (l : Launch) (d : gD) (b : Nat) (Y : gYt) (F : gM) (S : gSt) (hW : gWT d Y F S)  : gMi l d b yX7_isReady cX7_isReady 1 .boolean 0 0 0 F [.ref (gO' Y 1)] (fun r F' => r = sV S 6 ∧ F' = F) := by
  refine gM_of2 rfl (nL := 1) (Nat.le_of_ble_eq_true rfl) ?_
  intro X hX hC; subst hX
  show gG X d b _ F 0 0 0 [some (.ref (gO' Y 1))] []
  have hM0 : gSm S S [] [] := gSm.rf
  have hK0 : gKp Y F F := gKp.rf
  refine g_aload_n hC dX7_isReady_0 rfl ?_
  refine g_get hC fl_X7_49 (hW.o 1 (by decide)) rfl dX7_isReady_1 ?_
  exact g_iret hC (gnb (hW.bo 6 (by decide))) ⟨rfl, rfl⟩ (by first | exact Nat.le_of_ble_eq_true rfl | omega | (simp only [gR]; omega)) (by first | exact Nat.le_of_ble_eq_true rfl | omega | (simp only [gR]; omega)) dX7_isReady_4
theorem dX5_told_0 : decode cX5_told 0 = .ok (.aload_n 0, 1) := by decide +kernel
theorem dX5_told_1 : decode cX5_told 1 = .ok (.getfield 51, 3) := by decide +kernel
theorem dX5_told_4 : decode cX5_told 4 = .ok (.ireturn, 1) := by decide +kernel
set_option maxHeartbeats 4000000 in
set_option maxRecDepth 100000 in
theorem c_M_told (l : Launch) (d : gD) (b : Nat) (Y : gYt) (F : gM) (S : gSt) (hW : gWT d Y F S)  : gMi l d b yX5_told cX5_told 1 .int 0 0 0 F [.ref (gO' Y 7)] (fun r F' => r = sV S 32 ∧ F' = F) := by
  refine gM_of2 rfl (nL := 1) (Nat.le_of_ble_eq_true rfl) ?_
  intro X hX hC; subst hX
  show gG X d b _ F 0 0 0 [some (.ref (gO' Y 7))] []
  have hM0 : gSm S S [] [] := gSm.rf
  have hK0 : gKp Y F F := gKp.rf
  refine g_aload_n hC dX5_told_0 rfl ?_
  refine g_get hC fl_X5_51 (hW.o 7 (by decide)) rfl dX5_told_1 ?_
  exact g_iret hC rfl ⟨rfl, rfl⟩ (by first | exact Nat.le_of_ble_eq_true rfl | omega | (simp only [gR]; omega)) (by first | exact Nat.le_of_ble_eq_true rfl | omega | (simp only [gR]; omega)) dX5_told_4
theorem dX5_fuelLeft_0 : decode cX5_fuelLeft 0 = .ok (.aload_n 0, 1) := by decide +kernel
theorem dX5_fuelLeft_1 : decode cX5_fuelLeft 1 = .ok (.getfield 48, 3) := by decide +kernel
theorem dX5_fuelLeft_4 : decode cX5_fuelLeft 4 = .ok (.ireturn, 1) := by decide +kernel
set_option maxHeartbeats 4000000 in
set_option maxRecDepth 100000 in
theorem c_M_left (l : Launch) (d : gD) (b : Nat) (Y : gYt) (F : gM) (S : gSt) (hW : gWT d Y F S)  : gMi l d b yX5_fuelLeft cX5_fuelLeft 1 .int 0 0 0 F [.ref (gO' Y 7)] (fun r F' => r = sV S 31 ∧ F' = F) := by
  refine gM_of2 rfl (nL := 1) (Nat.le_of_ble_eq_true rfl) ?_
  intro X hX hC; subst hX
  show gG X d b _ F 0 0 0 [some (.ref (gO' Y 7))] []
  have hM0 : gSm S S [] [] := gSm.rf
  have hK0 : gKp Y F F := gKp.rf
  refine g_aload_n hC dX5_fuelLeft_0 rfl ?_
  refine g_get hC fl_X5_48 (hW.o 7 (by decide)) rfl dX5_fuelLeft_1 ?_
  exact g_iret hC rfl ⟨rfl, rfl⟩ (by first | exact Nat.le_of_ble_eq_true rfl | omega | (simp only [gR]; omega)) (by first | exact Nat.le_of_ble_eq_true rfl | omega | (simp only [gR]; omega)) dX5_fuelLeft_4
theorem dX11_fault_0 : decode cX11_fault 0 = .ok (.aload_n 0, 1) := by decide +kernel
theorem dX11_fault_1 : decode cX11_fault 1 = .ok (.getfield 21, 3) := by decide +kernel
theorem dX11_fault_4 : decode cX11_fault 4 = .ok (.invokevirtual 114, 3) := by decide +kernel
theorem dX11_fault_7 : decode cX11_fault 7 = .ok (.ireturn, 1) := by decide +kernel
set_option maxHeartbeats 4000000 in
set_option maxRecDepth 100000 in
theorem c_W_fault (l : Launch) (d : gD) (b : Nat) (Y : gYt) (F : gM) (S : gSt) (hW : gWT d Y F S)  : gMi l d b yX11_fault cX11_fault 1 .int 2 0 0 F [.ref (gO' Y 0)] (fun r F' => r = sV S 4 ∧ F' = F) := by
  refine gM_of2 rfl (nL := 1) (Nat.le_of_ble_eq_true rfl) ?_
  intro X hX hC; subst hX
  show gG X d b _ F 0 0 0 [some (.ref (gO' Y 0))] []
  have hM0 : gSm S S [] [] := gSm.rf
  have hK0 : gKp Y F F := gKp.rf
  refine g_aload_n hC dX11_fault_0 rfl ?_
  refine g_get hC fl_X11_21 (hW.o 0 (by decide)) rfl dX11_fault_1 ?_
  refine g_callVi (As := []) hC rfl (hW.o 1 (by decide)) (c_P_kind X.la d b Y F S hW ) cl_X11_114 rfl rfl (Nat.le_of_ble_eq_true rfl) (gFit_of (Nat.le_of_ble_eq_true rfl) (Nat.le_of_ble_eq_true rfl) (by first | exact Nat.le_of_ble_eq_true rfl | omega | (simp only [gR]; omega)) (by first | exact Nat.le_of_ble_eq_true rfl | omega | (simp only [gR]; omega))) dX11_fault_4 (fun r3 F1 p2 => ?_)
  obtain ⟨rfl, eF1⟩ := p2; have eF1 := eF1.symm; subst eF1
  exact g_iret hC rfl ⟨rfl, rfl⟩ (by first | exact Nat.le_of_ble_eq_true rfl | omega | (simp only [gR]; omega)) (by first | exact Nat.le_of_ble_eq_true rfl | omega | (simp only [gR]; omega)) dX11_fault_7
theorem dX11_value_0 : decode cX11_value 0 = .ok (.aload_n 0, 1) := by decide +kernel
theorem dX11_value_1 : decode cX11_value 1 = .ok (.getfield 71, 3) := by decide +kernel
theorem dX11_value_4 : decode cX11_value 4 = .ok (.invokevirtual 141, 3) := by decide +kernel
theorem dX11_value_7 : decode cX11_value 7 = .ok (.ireturn, 1) := by decide +kernel
set_option maxHeartbeats 4000000 in
set_option maxRecDepth 100000 in
theorem c_W_value (l : Launch) (d : gD) (b : Nat) (Y : gYt) (F : gM) (S : gSt) (hW : gWT d Y F S)  : gMi l d b yX11_value cX11_value 1 .int 2 0 0 F [.ref (gO' Y 0)] (fun r F' => r = sV S 32 ∧ F' = F) := by
  refine gM_of2 rfl (nL := 1) (Nat.le_of_ble_eq_true rfl) ?_
  intro X hX hC; subst hX
  show gG X d b _ F 0 0 0 [some (.ref (gO' Y 0))] []
  have hM0 : gSm S S [] [] := gSm.rf
  have hK0 : gKp Y F F := gKp.rf
  refine g_aload_n hC dX11_value_0 rfl ?_
  refine g_get hC fl_X11_71 (hW.o 0 (by decide)) rfl dX11_value_1 ?_
  refine g_callVi (As := []) hC rfl (hW.o 7 (by decide)) (c_M_told X.la d b Y F S hW ) cl_X11_141 rfl rfl (Nat.le_of_ble_eq_true rfl) (gFit_of (Nat.le_of_ble_eq_true rfl) (Nat.le_of_ble_eq_true rfl) (by first | exact Nat.le_of_ble_eq_true rfl | omega | (simp only [gR]; omega)) (by first | exact Nat.le_of_ble_eq_true rfl | omega | (simp only [gR]; omega))) dX11_value_4 (fun r3 F1 p2 => ?_)
  obtain ⟨rfl, eF1⟩ := p2; have eF1 := eF1.symm; subst eF1
  exact g_iret hC rfl ⟨rfl, rfl⟩ (by first | exact Nat.le_of_ble_eq_true rfl | omega | (simp only [gR]; omega)) (by first | exact Nat.le_of_ble_eq_true rfl | omega | (simp only [gR]; omega)) dX11_value_7
theorem dX11_fuel_0 : decode cX11_fuel 0 = .ok (.aload_n 0, 1) := by decide +kernel
theorem dX11_fuel_1 : decode cX11_fuel 1 = .ok (.getfield 71, 3) := by decide +kernel
theorem dX11_fuel_4 : decode cX11_fuel 4 = .ok (.invokevirtual 157, 3) := by decide +kernel
theorem dX11_fuel_7 : decode cX11_fuel 7 = .ok (.ireturn, 1) := by decide +kernel
set_option maxHeartbeats 4000000 in
set_option maxRecDepth 100000 in
theorem c_W_fuel (l : Launch) (d : gD) (b : Nat) (Y : gYt) (F : gM) (S : gSt) (hW : gWT d Y F S)  : gMi l d b yX11_fuel cX11_fuel 1 .int 2 0 0 F [.ref (gO' Y 0)] (fun r F' => r = sV S 31 ∧ F' = F) := by
  refine gM_of2 rfl (nL := 1) (Nat.le_of_ble_eq_true rfl) ?_
  intro X hX hC; subst hX
  show gG X d b _ F 0 0 0 [some (.ref (gO' Y 0))] []
  have hM0 : gSm S S [] [] := gSm.rf
  have hK0 : gKp Y F F := gKp.rf
  refine g_aload_n hC dX11_fuel_0 rfl ?_
  refine g_get hC fl_X11_71 (hW.o 0 (by decide)) rfl dX11_fuel_1 ?_
  refine g_callVi (As := []) hC rfl (hW.o 7 (by decide)) (c_M_left X.la d b Y F S hW ) cl_X11_157 rfl rfl (Nat.le_of_ble_eq_true rfl) (gFit_of (Nat.le_of_ble_eq_true rfl) (Nat.le_of_ble_eq_true rfl) (by first | exact Nat.le_of_ble_eq_true rfl | omega | (simp only [gR]; omega)) (by first | exact Nat.le_of_ble_eq_true rfl | omega | (simp only [gR]; omega))) dX11_fuel_4 (fun r3 F1 p2 => ?_)
  obtain ⟨rfl, eF1⟩ := p2; have eF1 := eF1.symm; subst eF1
  exact g_iret hC rfl ⟨rfl, rfl⟩ (by first | exact Nat.le_of_ble_eq_true rfl | omega | (simp only [gR]; omega)) (by first | exact Nat.le_of_ble_eq_true rfl | omega | (simp only [gR]; omega)) dX11_fuel_7
theorem dX11_run_0 : decode cX11_run 0 = .ok (.aload_n 0, 1) := by decide +kernel
theorem dX11_run_1 : decode cX11_run 1 = .ok (.getfield 21, 3) := by decide +kernel
theorem dX11_run_4 : decode cX11_run 4 = .ok (.invokevirtual 134, 3) := by decide +kernel
theorem dX11_run_7 : decode cX11_run 7 = .ok (.ifCond .eq 13, 3) := by decide +kernel
theorem dX11_run_10 : decode cX11_run 10 = .ok (.iload_n 1, 1) := by decide +kernel
theorem dX11_run_11 : decode cX11_run 11 = .ok (.ifCond .lt 9, 3) := by decide +kernel
theorem dX11_run_14 : decode cX11_run 14 = .ok (.iload_n 1, 1) := by decide +kernel
theorem dX11_run_15 : decode cX11_run 15 = .ok (.ldc 137, 2) := by decide +kernel
theorem dX11_run_17 : decode cX11_run 17 = .ok (.if_icmp .le 5, 3) := by decide +kernel
theorem dX11_run_20 : decode cX11_run 20 = .ok (.iconst (-1), 1) := by decide +kernel
theorem dX11_run_21 : decode cX11_run 21 = .ok (.ireturn, 1) := by decide +kernel
theorem dX11_run_22 : decode cX11_run 22 = .ok (.aload_n 0, 1) := by decide +kernel
theorem dX11_run_23 : decode cX11_run 23 = .ok (.getfield 71, 3) := by decide +kernel
theorem dX11_run_26 : decode cX11_run 26 = .ok (.iload_n 1, 1) := by decide +kernel
theorem dX11_run_27 : decode cX11_run 27 = .ok (.invokevirtual 138, 3) := by decide +kernel
theorem dX11_run_30 : decode cX11_run 30 = .ok (.ireturn, 1) := by decide +kernel
set_option maxHeartbeats 4000000 in
set_option maxRecDepth 100000 in
theorem c_W_run0 (l : Launch) (d : gD) (b : Nat) (Y : gYt) (F : gM) (S : gSt) (hW : gWT d Y F S) (hv6 : sV S 6 = 0) (i : Int32) : gMi l d b yX11_run cX11_run 2 .int 2 0 0 F [.ref (gO' Y 0), .int i] (fun r F' => r = (-1) ∧ F' = F) := by
  refine gM_of2 rfl (nL := 2) (Nat.le_of_ble_eq_true rfl) ?_
  intro X hX hC; subst hX
  show gG X d b _ F 0 0 0 [some (.ref (gO' Y 0)), some (.int i)] []
  have hM0 : gSm S S [] [] := gSm.rf
  have hK0 : gKp Y F F := gKp.rf
  refine g_aload_n hC dX11_run_0 rfl ?_
  refine g_get hC fl_X11_21 (hW.o 0 (by decide)) rfl dX11_run_1 ?_
  refine g_callVi (As := []) hC rfl (hW.o 1 (by decide)) (c_P_ready X.la d b Y F S hW ) cl_X11_134 rfl rfl (Nat.le_of_ble_eq_true rfl) (gFit_of (Nat.le_of_ble_eq_true rfl) (Nat.le_of_ble_eq_true rfl) (by first | exact Nat.le_of_ble_eq_true rfl | omega | (simp only [gR]; omega)) (by first | exact Nat.le_of_ble_eq_true rfl | omega | (simp only [gR]; omega))) dX11_run_4 (fun r3 F1 p2 => ?_)
  obtain ⟨rfl, eF1⟩ := p2; have eF1 := eF1.symm; subst eF1
  refine g_if_eq (tgt := 20) hC dX11_run_7 (by decide) (fun c4 => ?_) (fun c4 => ?_)
  · refine g_iconst (v := (-1)) hC dX11_run_20 rfl ?_
    exact g_iret hC rfl ⟨rfl, rfl⟩ (by first | exact Nat.le_of_ble_eq_true rfl | omega | (simp only [gR]; omega)) (by first | exact Nat.le_of_ble_eq_true rfl | omega | (simp only [gR]; omega)) dX11_run_21
  · exact absurd hv6 c4
theorem gend {i : Int32} {n z : Nat} (h1 : ¬ i < 0) (h2 : i ≤ nI n) (hn : n < 2 ^ 31) (a : ¬ i < 0 ∧ i.toNatClampNeg < n → z = i.toNatClampNeg) (b : i < 0 ∨ nI n ≤ i → z = n) : z = i.toNatClampNeg := by
  obtain ⟨j, hj, rfl⟩ := nI_of h1
  rw [nI_clamp hj] at a ⊢
  have h3 : j ≤ n := (nI_leI hj hn).mp h2
  by_cases c : j < n
  · exact a ⟨h1, c⟩
  · rw [b (Or.inr (nI_le (by omega) hj))]
    omega
theorem dX11_end_0 : decode cX11_end 0 = .ok (.iload_n 1, 1) := by decide +kernel
theorem dX11_end_1 : decode cX11_end 1 = .ok (.ifCond .lt 14, 3) := by decide +kernel
theorem dX11_end_4 : decode cX11_end 4 = .ok (.iload_n 1, 1) := by decide +kernel
theorem dX11_end_5 : decode cX11_end 5 = .ok (.aload_n 0, 1) := by decide +kernel
theorem dX11_end_6 : decode cX11_end 6 = .ok (.getfield 14, 3) := by decide +kernel
theorem dX11_end_9 : decode cX11_end 9 = .ok (.invokevirtual 82, 3) := by decide +kernel
theorem dX11_end_12 : decode cX11_end 12 = .ok (.if_icmp .le 5, 3) := by decide +kernel
theorem dX11_end_15 : decode cX11_end 15 = .ok (.iconst 0, 1) := by decide +kernel
theorem dX11_end_16 : decode cX11_end 16 = .ok (.ireturn, 1) := by decide +kernel
theorem dX11_end_17 : decode cX11_end 17 = .ok (.aload_n 0, 1) := by decide +kernel
theorem dX11_end_18 : decode cX11_end 18 = .ok (.getfield 14, 3) := by decide +kernel
theorem dX11_end_21 : decode cX11_end 21 = .ok (.iload_n 1, 1) := by decide +kernel
theorem dX11_end_22 : decode cX11_end 22 = .ok (.invokevirtual 92, 3) := by decide +kernel
theorem dX11_end_25 : decode cX11_end 25 = .ok (.iconst 1, 1) := by decide +kernel
theorem dX11_end_26 : decode cX11_end 26 = .ok (.ireturn, 1) := by decide +kernel
set_option maxHeartbeats 4000000 in
set_option maxRecDepth 100000 in
theorem c_W_end (l : Launch) (d : gD) (b : Nat) (Y : gYt) (F : gM) (S : gSt) (hW : gWT d Y F S) (i : Int32) : gMi l d b yX11_end cX11_end 2 .boolean 2 0 0 F [.ref (gO' Y 0), .int i] (fun r F' => (i < 0 ∨ ¬ i ≤ nI (sZ S 0) → r = 0 ∧ ∃ S', gWT d Y F' S' ∧ gKp Y F F' ∧ gSm S S' [0] [] ∧ S' = S) ∧ (¬ i < 0 ∧ i ≤ nI (sZ S 0) → r = 1 ∧ ∃ S', gWT d Y F' S' ∧ gKp Y F F' ∧ gSm S S' [0] [] ∧ sZ S' 0 = i.toNatClampNeg)) := by
  refine gM_of2 rfl (nL := 2) (Nat.le_of_ble_eq_true rfl) ?_
  intro X hX hC; subst hX
  show gG X d b _ F 0 0 0 [some (.ref (gO' Y 0)), some (.int i)] []
  have hM0 : gSm S S [0] [] := gSm.rf
  have hK0 : gKp Y F F := gKp.rf
  refine g_iload_n hC dX11_end_0 rfl ?_
  refine g_if_lt (tgt := 15) hC dX11_end_1 (by decide) (fun c1 => ?_) (fun c1 => ?_)
  · refine g_iconst (v := 0) hC dX11_end_15 rfl ?_
    exact g_iret hC rfl ⟨fun _ => ⟨rfl, S, hW, gKp.rf, gSm.rf, rfl⟩, fun z => absurd c1 z.1⟩ (by first | exact Nat.le_of_ble_eq_true rfl | omega | (simp only [gR]; omega)) (by first | exact Nat.le_of_ble_eq_true rfl | omega | (simp only [gR]; omega)) dX11_end_16
  · refine g_iload_n hC dX11_end_4 rfl ?_
    refine g_aload_n hC dX11_end_5 rfl ?_
    refine g_get hC fl_X11_14 (hW.o 0 (by decide)) rfl dX11_end_6 ?_
    refine g_callVi (As := []) hC rfl (hW.r 0 (by decide)).1 (c_Ints_size X.la d b F _ _ _ _ _ _ (hW.r 0 (by decide))) cl_X11_82 rfl rfl (Nat.le_of_ble_eq_true rfl) (gFit_of (Nat.le_of_ble_eq_true rfl) (Nat.le_of_ble_eq_true rfl) (by first | exact Nat.le_of_ble_eq_true rfl | omega | (simp only [gR]; omega)) (by first | exact Nat.le_of_ble_eq_true rfl | omega | (simp only [gR]; omega))) dX11_end_9 (fun r2 F3 p4 => ?_)
    obtain ⟨rfl, eF3⟩ := p4; have eF3 := eF3.symm; subst eF3
    refine g_icmp_le (tgt := 17) hC dX11_end_12 (by decide) (fun c5 => ?_) (fun c5 => ?_)
    · refine g_aload_n hC dX11_end_17 rfl ?_
      refine g_get hC fl_X11_14 (hW.o 0 (by decide)) rfl dX11_end_18 ?_
      refine g_iload_n hC dX11_end_21 rfl ?_
      refine g_callVv (As := [.int i]) hC rfl (hW.r 0 (by decide)).1 (c_Ints_cut X.la d b F _ _ _ _ _ _ (hW.r 0 (by decide)) i) cl_X11_92 rfl rfl (Nat.le_of_ble_eq_true rfl) (gFit_of (Nat.le_of_ble_eq_true rfl) (Nat.le_of_ble_eq_true rfl) (by first | exact Nat.le_of_ble_eq_true rfl | omega | (simp only [gR]; omega)) (by first | exact Nat.le_of_ble_eq_true rfl | omega | (simp only [gR]; omega))) dX11_end_22 (fun F7 p8 => ?_)
      obtain ⟨S9, hW10, k11, s12, u13, u14, u15, u16, u17⟩ := wt_cut hW (by decide) p8
      have hM18 : gSm S S9 [0] [] := hM0.tr s12 _ _ rfl rfl
      have hK19 : gKp Y F F7 := hK0.tr k11
      have hz : sZ S9 0 = i.toNatClampNeg := gend c1 c5 (Nat.lt_of_le_of_lt (hW.r 0 (by decide)).2.2.1 (Nat.lt_of_le_of_lt (hW.r 0 (by decide)).2.2.2.2.1 (by decide))) u15 u16
      refine g_iconst (v := 1) hC dX11_end_25 rfl ?_
      exact g_iret hC rfl ⟨fun z => absurd z (fun z => z.elim c1 (fun z => z c5)), fun _ => ⟨rfl, S9, hW10, hK19, hM18, hz⟩⟩ (by first | exact Nat.le_of_ble_eq_true rfl | omega | (simp only [gR]; omega)) (by first | exact Nat.le_of_ble_eq_true rfl | omega | (simp only [gR]; omega)) dX11_end_26
    · refine g_iconst (v := 0) hC dX11_end_15 rfl ?_
      exact g_iret hC rfl ⟨fun _ => ⟨rfl, S, hW, gKp.rf, gSm.rf, rfl⟩, fun z => absurd z.2 c5⟩ (by first | exact Nat.le_of_ble_eq_true rfl | omega | (simp only [gR]; omega)) (by first | exact Nat.le_of_ble_eq_true rfl | omega | (simp only [gR]; omega)) dX11_end_16
theorem dX0_isInput_0 : decode cX0_isInput 0 = .ok (.iload_n 1, 1) := by decide +kernel
theorem dX0_isInput_1 : decode cX0_isInput 1 = .ok (.ifCond .lt 25, 3) := by decide +kernel
theorem dX0_isInput_4 : decode cX0_isInput 4 = .ok (.iload_n 1, 1) := by decide +kernel
theorem dX0_isInput_5 : decode cX0_isInput 5 = .ok (.aload_n 0, 1) := by decide +kernel
theorem dX0_isInput_6 : decode cX0_isInput 6 = .ok (.getfield 14, 3) := by decide +kernel
theorem dX0_isInput_9 : decode cX0_isInput 9 = .ok (.arraylength, 1) := by decide +kernel
theorem dX0_isInput_10 : decode cX0_isInput 10 = .ok (.if_icmp .ge 16, 3) := by decide +kernel
theorem dX0_isInput_13 : decode cX0_isInput 13 = .ok (.iload_n 1, 1) := by decide +kernel
theorem dX0_isInput_14 : decode cX0_isInput 14 = .ok (.aload_n 0, 1) := by decide +kernel
theorem dX0_isInput_15 : decode cX0_isInput 15 = .ok (.getfield 20, 3) := by decide +kernel
theorem dX0_isInput_18 : decode cX0_isInput 18 = .ok (.arraylength, 1) := by decide +kernel
theorem dX0_isInput_19 : decode cX0_isInput 19 = .ok (.if_icmp .ge 7, 3) := by decide +kernel
theorem dX0_isInput_22 : decode cX0_isInput 22 = .ok (.iconst 1, 1) := by decide +kernel
theorem dX0_isInput_23 : decode cX0_isInput 23 = .ok (.goto 4, 3) := by decide +kernel
theorem dX0_isInput_26 : decode cX0_isInput 26 = .ok (.iconst 0, 1) := by decide +kernel
theorem dX0_isInput_27 : decode cX0_isInput 27 = .ok (.ireturn, 1) := by decide +kernel
set_option maxHeartbeats 4000000 in
set_option maxRecDepth 100000 in
theorem c_C_isInput (l : Launch) (d : gD) (b : Nat) (Y : gYt) (F : gM) (S : gSt) (hW : gWT d Y F S) (i : Int32) : gMi l d b yX0_isInput cX0_isInput 2 .boolean 0 0 0 F [.ref (gO' Y 6), .int i] (fun r F' => (i < 0 ∨ nI 4 ≤ i → r = 0) ∧ (¬ i < 0 ∧ ¬ nI 4 ≤ i → r = 1) ∧ F' = F) := by
  refine gM_of2 rfl (nL := 2) (Nat.le_of_ble_eq_true rfl) ?_
  intro X hX hC; subst hX
  show gG X d b _ F 0 0 0 [some (.ref (gO' Y 6)), some (.int i)] []
  obtain ⟨⟨fI, hI, hI2⟩, fO, hO, hO2⟩ := id hW.2.2.2.1
  have hM0 : gSm S S [] [] := gSm.rf
  have hK0 : gKp Y F F := gKp.rf
  refine g_iload_n hC dX0_isInput_0 rfl ?_
  refine g_if_lt (tgt := 26) hC dX0_isInput_1 (by decide) (fun c1 => ?_) (fun c1 => ?_)
  · refine g_iconst (v := 0) hC dX0_isInput_26 rfl ?_
    exact g_iret hC rfl ⟨fun _ => rfl, fun z => absurd c1 z.1, rfl⟩ (by first | exact Nat.le_of_ble_eq_true rfl | omega | (simp only [gR]; omega)) (by first | exact Nat.le_of_ble_eq_true rfl | omega | (simp only [gR]; omega)) dX0_isInput_27
  · refine g_iload_n hC dX0_isInput_4 rfl ?_
    refine g_aload_n hC dX0_isInput_5 rfl ?_
    refine g_get hC fl_X0_14 (hW.o 6 (by decide)) rfl dX0_isInput_6 ?_
    refine g_alen hC 4 hI rfl dX0_isInput_9 ?_
    refine g_icmp_ge (tgt := 26) hC dX0_isInput_10 (by decide) (fun c2 => ?_) (fun c2 => ?_)
    · refine g_iconst (v := 0) hC dX0_isInput_26 rfl ?_
      exact g_iret hC rfl ⟨fun _ => rfl, fun z => absurd c2 z.2, rfl⟩ (by first | exact Nat.le_of_ble_eq_true rfl | omega | (simp only [gR]; omega)) (by first | exact Nat.le_of_ble_eq_true rfl | omega | (simp only [gR]; omega)) dX0_isInput_27
    · refine g_iload_n hC dX0_isInput_13 rfl ?_
      refine g_aload_n hC dX0_isInput_14 rfl ?_
      refine g_get hC fl_X0_20 (hW.o 6 (by decide)) rfl dX0_isInput_15 ?_
      refine g_alen hC 0 hW.p rfl dX0_isInput_18 ?_
      refine g_icmp_ge (tgt := 26) hC dX0_isInput_19 (by decide) (fun c3 => ?_) (fun c3 => ?_)
      · exact absurd c3 c2
      · refine g_iconst (v := 1) hC dX0_isInput_22 rfl ?_
        refine g_goto (tgt := 27) hC dX0_isInput_23 (by decide) ?_
        exact g_iret hC rfl ⟨fun z => absurd z (fun z => z.elim c1 c2), fun _ => rfl, rfl⟩ (by first | exact Nat.le_of_ble_eq_true rfl | omega | (simp only [gR]; omega)) (by first | exact Nat.le_of_ble_eq_true rfl | omega | (simp only [gR]; omega)) dX0_isInput_27
theorem dX0_isOutput_0 : decode cX0_isOutput 0 = .ok (.iload_n 1, 1) := by decide +kernel
theorem dX0_isOutput_1 : decode cX0_isOutput 1 = .ok (.ifCond .lt 16, 3) := by decide +kernel
theorem dX0_isOutput_4 : decode cX0_isOutput 4 = .ok (.iload_n 1, 1) := by decide +kernel
theorem dX0_isOutput_5 : decode cX0_isOutput 5 = .ok (.aload_n 0, 1) := by decide +kernel
theorem dX0_isOutput_6 : decode cX0_isOutput 6 = .ok (.getfield 24, 3) := by decide +kernel
theorem dX0_isOutput_9 : decode cX0_isOutput 9 = .ok (.arraylength, 1) := by decide +kernel
theorem dX0_isOutput_10 : decode cX0_isOutput 10 = .ok (.if_icmp .ge 7, 3) := by decide +kernel
theorem dX0_isOutput_13 : decode cX0_isOutput 13 = .ok (.iconst 1, 1) := by decide +kernel
theorem dX0_isOutput_14 : decode cX0_isOutput 14 = .ok (.goto 4, 3) := by decide +kernel
theorem dX0_isOutput_17 : decode cX0_isOutput 17 = .ok (.iconst 0, 1) := by decide +kernel
theorem dX0_isOutput_18 : decode cX0_isOutput 18 = .ok (.ireturn, 1) := by decide +kernel
set_option maxHeartbeats 4000000 in
set_option maxRecDepth 100000 in
theorem c_C_isOutput (l : Launch) (d : gD) (b : Nat) (Y : gYt) (F : gM) (S : gSt) (hW : gWT d Y F S) (i : Int32) : gMi l d b yX0_isOutput cX0_isOutput 2 .boolean 0 0 0 F [.ref (gO' Y 6), .int i] (fun r F' => (i < 0 ∨ nI 2 ≤ i → r = 0) ∧ (¬ i < 0 ∧ ¬ nI 2 ≤ i → r = 1) ∧ F' = F) := by
  refine gM_of2 rfl (nL := 2) (Nat.le_of_ble_eq_true rfl) ?_
  intro X hX hC; subst hX
  show gG X d b _ F 0 0 0 [some (.ref (gO' Y 6)), some (.int i)] []
  obtain ⟨⟨fI, hI, hI2⟩, fO, hO, hO2⟩ := id hW.2.2.2.1
  have hM0 : gSm S S [] [] := gSm.rf
  have hK0 : gKp Y F F := gKp.rf
  refine g_iload_n hC dX0_isOutput_0 rfl ?_
  refine g_if_lt (tgt := 17) hC dX0_isOutput_1 (by decide) (fun c1 => ?_) (fun c1 => ?_)
  · refine g_iconst (v := 0) hC dX0_isOutput_17 rfl ?_
    exact g_iret hC rfl ⟨fun _ => rfl, fun z => absurd c1 z.1, rfl⟩ (by first | exact Nat.le_of_ble_eq_true rfl | omega | (simp only [gR]; omega)) (by first | exact Nat.le_of_ble_eq_true rfl | omega | (simp only [gR]; omega)) dX0_isOutput_18
  · refine g_iload_n hC dX0_isOutput_4 rfl ?_
    refine g_aload_n hC dX0_isOutput_5 rfl ?_
    refine g_get hC fl_X0_24 (hW.o 6 (by decide)) rfl dX0_isOutput_6 ?_
    refine g_alen hC 4 hO rfl dX0_isOutput_9 ?_
    refine g_icmp_ge (tgt := 17) hC dX0_isOutput_10 (by decide) (fun c2 => ?_) (fun c2 => ?_)
    · refine g_iconst (v := 0) hC dX0_isOutput_17 rfl ?_
      exact g_iret hC rfl ⟨fun _ => rfl, fun z => absurd c2 z.2, rfl⟩ (by first | exact Nat.le_of_ble_eq_true rfl | omega | (simp only [gR]; omega)) (by first | exact Nat.le_of_ble_eq_true rfl | omega | (simp only [gR]; omega)) dX0_isOutput_18
    · refine g_iconst (v := 1) hC dX0_isOutput_13 rfl ?_
      refine g_goto (tgt := 18) hC dX0_isOutput_14 (by decide) ?_
      exact g_iret hC rfl ⟨fun z => absurd z (fun z => z.elim c1 c2), fun _ => rfl, rfl⟩ (by first | exact Nat.le_of_ble_eq_true rfl | omega | (simp only [gR]; omega)) (by first | exact Nat.le_of_ble_eq_true rfl | omega | (simp only [gR]; omega)) dX0_isOutput_18
theorem dX0_length_0 : decode cX0_length 0 = .ok (.aload_n 0, 1) := by decide +kernel
theorem dX0_length_1 : decode cX0_length 1 = .ok (.iload_n 1, 1) := by decide +kernel
theorem dX0_length_2 : decode cX0_length 2 = .ok (.invokevirtual 46, 3) := by decide +kernel
theorem dX0_length_5 : decode cX0_length 5 = .ok (.ifCond .eq 15, 3) := by decide +kernel
theorem dX0_length_8 : decode cX0_length 8 = .ok (.aload_n 0, 1) := by decide +kernel
theorem dX0_length_9 : decode cX0_length 9 = .ok (.getfield 24, 3) := by decide +kernel
theorem dX0_length_12 : decode cX0_length 12 = .ok (.iload_n 1, 1) := by decide +kernel
theorem dX0_length_13 : decode cX0_length 13 = .ok (.aaload, 1) := by decide +kernel
theorem dX0_length_14 : decode cX0_length 14 = .ok (.invokevirtual 42, 3) := by decide +kernel
theorem dX0_length_17 : decode cX0_length 17 = .ok (.goto 4, 3) := by decide +kernel
theorem dX0_length_20 : decode cX0_length 20 = .ok (.iconst (-1), 1) := by decide +kernel
theorem dX0_length_21 : decode cX0_length 21 = .ok (.ireturn, 1) := by decide +kernel
set_option maxHeartbeats 4000000 in
set_option maxRecDepth 100000 in
theorem c_C_length (l : Launch) (d : gD) (b : Nat) (Y : gYt) (F : gM) (S : gSt) (hW : gWT d Y F S) (i : Int32) : gMi l d b yX0_length cX0_length 2 .int 1 0 0 F [.ref (gO' Y 6), .int i] (fun r F' => (i < 0 ∨ nI 2 ≤ i → r = (-1)) ∧ (∀ j, j < 2 → i = nI j → r = nI (sZ S (38 + j))) ∧ F' = F) := by
  refine gM_of2 rfl (nL := 2) (Nat.le_of_ble_eq_true rfl) ?_
  intro X hX hC; subst hX
  show gG X d b _ F 0 0 0 [some (.ref (gO' Y 6)), some (.int i)] []
  obtain ⟨⟨fI, hI, hI2⟩, fO, hO, hO2⟩ := id hW.2.2.2.1
  have hM0 : gSm S S [] [] := gSm.rf
  have hK0 : gKp Y F F := gKp.rf
  refine g_aload_n hC dX0_length_0 rfl ?_
  refine g_iload_n hC dX0_length_1 rfl ?_
  refine g_callVi (As := [.int i]) hC rfl (hW.o 6 (by decide)) (c_C_isOutput X.la d b Y F S hW i) cl_X0_46 rfl rfl (Nat.le_of_ble_eq_true rfl) (gFit_of (Nat.le_of_ble_eq_true rfl) (Nat.le_of_ble_eq_true rfl) (by first | exact Nat.le_of_ble_eq_true rfl | omega | (simp only [gR]; omega)) (by first | exact Nat.le_of_ble_eq_true rfl | omega | (simp only [gR]; omega))) dX0_length_2 (fun r3 F1 p2 => ?_)
  obtain ⟨ar3, br3, er3⟩ := p2; have er3 := er3.symm; subst er3
  refine g_if_eq (tgt := 20) hC dX0_length_5 (by decide) (fun c4 => ?_) (fun c4 => ?_)
  · have hno : i < 0 ∨ nI 2 ≤ i := Classical.byContradiction fun z => by
      rw [br3 ⟨fun q => z (Or.inl q), fun q => z (Or.inr q)⟩] at c4
      exact absurd c4 (by decide)
    refine g_iconst (v := (-1)) hC dX0_length_20 rfl ?_
    exact g_iret hC rfl ⟨fun _ => rfl, fun j hj e => by rw [e] at hno; exact absurd hno (fun z => z.elim (nI_pos (by omega)) (fun z => absurd ((nI_leI (by omega) (by omega)).mp z) (by omega))), rfl⟩ (by first | exact Nat.le_of_ble_eq_true rfl | omega | (simp only [gR]; omega)) (by first | exact Nat.le_of_ble_eq_true rfl | omega | (simp only [gR]; omega)) dX0_length_21
  · have hc1 : ¬ i < 0 := fun q => c4 (ar3 (Or.inl q))
    have hc2 : ¬ nI 2 ≤ i := fun q => c4 (ar3 (Or.inr q))
    obtain ⟨j, hj, rfl⟩ : ∃ j : Nat, j < 2 ∧ i = nI j := by
      obtain ⟨j, hj, rfl⟩ := nI_of hc1
      exact ⟨j, Nat.not_le.mp (fun q => hc2 (nI_le q hj)), rfl⟩
    refine g_aload_n hC dX0_length_8 rfl ?_
    refine g_get hC fl_X0_24 (hW.o 6 (by decide)) rfl dX0_length_9 ?_
    refine g_iload_n hC dX0_length_12 rfl ?_
    refine g_aald hC hO (vp_in_nI hj (by decide)) dX0_length_13 ?_
    rw [nI_clamp (by omega), hO2 j hj]
    refine g_callVi (As := []) hC rfl (hW.r (38 + j) (by omega)).1 (c_Ints_size X.la d b F _ _ _ _ _ _ (hW.r (38 + j) (by omega))) cl_X0_42 rfl rfl (Nat.le_of_ble_eq_true rfl) (gFit_of (Nat.le_of_ble_eq_true rfl) (Nat.le_of_ble_eq_true rfl) (by first | exact Nat.le_of_ble_eq_true rfl | omega | (simp only [gR]; omega)) (by first | exact Nat.le_of_ble_eq_true rfl | omega | (simp only [gR]; omega))) dX0_length_14 (fun r5 F6 p7 => ?_)
    obtain ⟨rfl, eF6⟩ := p7; have eF6 := eF6.symm; subst eF6
    refine g_goto (tgt := 21) hC dX0_length_17 (by decide) ?_
    exact g_iret hC rfl ⟨fun z => absurd z (fun z => z.elim hc1 hc2), fun j2 hj2 e => by rw [(nI_eq (by omega) (by omega)).mp e], rfl⟩ (by first | exact Nat.le_of_ble_eq_true rfl | omega | (simp only [gR]; omega)) (by first | exact Nat.le_of_ble_eq_true rfl | omega | (simp only [gR]; omega)) dX0_length_21
theorem dX11_out_0 : decode cX11_out 0 = .ok (.aload_n 0, 1) := by decide +kernel
theorem dX11_out_1 : decode cX11_out 1 = .ok (.getfield 62, 3) := by decide +kernel
theorem dX11_out_4 : decode cX11_out 4 = .ok (.iload_n 1, 1) := by decide +kernel
theorem dX11_out_5 : decode cX11_out 5 = .ok (.invokevirtual 144, 3) := by decide +kernel
theorem dX11_out_8 : decode cX11_out 8 = .ok (.ireturn, 1) := by decide +kernel
set_option maxHeartbeats 4000000 in
set_option maxRecDepth 100000 in
theorem c_W_out (l : Launch) (d : gD) (b : Nat) (Y : gYt) (F : gM) (S : gSt) (hW : gWT d Y F S) (i : Int32) : gMi l d b yX11_out cX11_out 2 .int 2 0 0 F [.ref (gO' Y 0), .int i] (fun r F' => (i < 0 ∨ nI 2 ≤ i → r = (-1)) ∧ (∀ j, j < 2 → i = nI j → r = nI (sZ S (38 + j))) ∧ F' = F) := by
  refine gM_of2 rfl (nL := 2) (Nat.le_of_ble_eq_true rfl) ?_
  intro X hX hC; subst hX
  show gG X d b _ F 0 0 0 [some (.ref (gO' Y 0)), some (.int i)] []
  have hM0 : gSm S S [] [] := gSm.rf
  have hK0 : gKp Y F F := gKp.rf
  refine g_aload_n hC dX11_out_0 rfl ?_
  refine g_get hC fl_X11_62 (hW.o 0 (by decide)) rfl dX11_out_1 ?_
  refine g_iload_n hC dX11_out_4 rfl ?_
  refine g_callVi (As := [.int i]) hC rfl (hW.o 6 (by decide)) (c_C_length X.la d b Y F S hW i) cl_X11_144 rfl rfl (Nat.le_of_ble_eq_true rfl) (gFit_of (Nat.le_of_ble_eq_true rfl) (Nat.le_of_ble_eq_true rfl) (by first | exact Nat.le_of_ble_eq_true rfl | omega | (simp only [gR]; omega)) (by first | exact Nat.le_of_ble_eq_true rfl | omega | (simp only [gR]; omega))) dX11_out_5 (fun r3 F1 p2 => ?_)
  obtain ⟨ar3, br3, er3⟩ := p2; have er3 := er3.symm; subst er3
  exact g_iret hC rfl ⟨ar3, br3, rfl⟩ (by first | exact Nat.le_of_ble_eq_true rfl | omega | (simp only [gR]; omega)) (by first | exact Nat.le_of_ble_eq_true rfl | omega | (simp only [gR]; omega)) dX11_out_8
theorem dX5_isThere_0 : decode cX5_isThere 0 = .ok (.iload_n 1, 1) := by decide +kernel
theorem dX5_isThere_1 : decode cX5_isThere 1 = .ok (.ifCond .lt 24, 3) := by decide +kernel
theorem dX5_isThere_4 : decode cX5_isThere 4 = .ok (.iload_n 1, 1) := by decide +kernel
theorem dX5_isThere_5 : decode cX5_isThere 5 = .ok (.aload_n 0, 1) := by decide +kernel
theorem dX5_isThere_6 : decode cX5_isThere 6 = .ok (.getfield 35, 3) := by decide +kernel
theorem dX5_isThere_9 : decode cX5_isThere 9 = .ok (.if_icmp .ge 16, 3) := by decide +kernel
theorem dX5_isThere_12 : decode cX5_isThere 12 = .ok (.iload_n 1, 1) := by decide +kernel
theorem dX5_isThere_13 : decode cX5_isThere 13 = .ok (.aload_n 0, 1) := by decide +kernel
theorem dX5_isThere_14 : decode cX5_isThere 14 = .ok (.getfield 31, 3) := by decide +kernel
theorem dX5_isThere_17 : decode cX5_isThere 17 = .ok (.arraylength, 1) := by decide +kernel
theorem dX5_isThere_18 : decode cX5_isThere 18 = .ok (.if_icmp .ge 7, 3) := by decide +kernel
theorem dX5_isThere_21 : decode cX5_isThere 21 = .ok (.iconst 1, 1) := by decide +kernel
theorem dX5_isThere_22 : decode cX5_isThere 22 = .ok (.goto 4, 3) := by decide +kernel
theorem dX5_isThere_25 : decode cX5_isThere 25 = .ok (.iconst 0, 1) := by decide +kernel
theorem dX5_isThere_26 : decode cX5_isThere 26 = .ok (.ireturn, 1) := by decide +kernel
set_option maxHeartbeats 4000000 in
set_option maxRecDepth 100000 in
theorem c_M_isThere0 (l : Launch) (d : gD) (b : Nat) (Y : gYt) (F : gM) (S : gSt) (hW : gWT d Y F S) (hv27 : sV S 27 = 0) (i : Int32) : gMi l d b yX5_isThere cX5_isThere 2 .boolean 0 0 0 F [.ref (gO' Y 7), .int i] (fun r F' => r = 0 ∧ F' = F) := by
  refine gM_of2 rfl (nL := 2) (Nat.le_of_ble_eq_true rfl) ?_
  intro X hX hC; subst hX
  show gG X d b _ F 0 0 0 [some (.ref (gO' Y 7)), some (.int i)] []
  obtain ⟨⟨fI, hI, hI2⟩, fO, hO, hO2⟩ := id hW.2.2.2.1
  have hM0 : gSm S S [] [] := gSm.rf
  have hK0 : gKp Y F F := gKp.rf
  refine g_iload_n hC dX5_isThere_0 rfl ?_
  refine g_if_lt (tgt := 25) hC dX5_isThere_1 (by decide) (fun c1 => ?_) (fun c1 => ?_)
  · refine g_iconst (v := 0) hC dX5_isThere_25 rfl ?_
    exact g_iret hC rfl ⟨rfl, rfl⟩ (by first | exact Nat.le_of_ble_eq_true rfl | omega | (simp only [gR]; omega)) (by first | exact Nat.le_of_ble_eq_true rfl | omega | (simp only [gR]; omega)) dX5_isThere_26
  · refine g_iload_n hC dX5_isThere_4 rfl ?_
    refine g_aload_n hC dX5_isThere_5 rfl ?_
    refine g_get hC fl_X5_35 (hW.o 7 (by decide)) rfl dX5_isThere_6 ?_
    refine g_icmp_ge (tgt := 25) hC dX5_isThere_9 (by decide) (fun c2 => ?_) (fun c2 => ?_)
    · refine g_iconst (v := 0) hC dX5_isThere_25 rfl ?_
      exact g_iret hC rfl ⟨rfl, rfl⟩ (by first | exact Nat.le_of_ble_eq_true rfl | omega | (simp only [gR]; omega)) (by first | exact Nat.le_of_ble_eq_true rfl | omega | (simp only [gR]; omega)) dX5_isThere_26
    · exact absurd (hv27 ▸ (Int32.not_lt.mp c1 : (0 : Int32) ≤ i)) c2
theorem dX5_left_0 : decode cX5_left 0 = .ok (.aload_n 0, 1) := by decide +kernel
theorem dX5_left_1 : decode cX5_left 1 = .ok (.iload_n 1, 1) := by decide +kernel
theorem dX5_left_2 : decode cX5_left 2 = .ok (.invokevirtual 75, 3) := by decide +kernel
theorem dX5_left_5 : decode cX5_left 5 = .ok (.ifCond .eq 12, 3) := by decide +kernel
theorem dX5_left_8 : decode cX5_left 8 = .ok (.aload_n 0, 1) := by decide +kernel
theorem dX5_left_9 : decode cX5_left 9 = .ok (.getfield 31, 3) := by decide +kernel
theorem dX5_left_12 : decode cX5_left 12 = .ok (.iload_n 1, 1) := by decide +kernel
theorem dX5_left_13 : decode cX5_left 13 = .ok (.iaload, 1) := by decide +kernel
theorem dX5_left_14 : decode cX5_left 14 = .ok (.goto 4, 3) := by decide +kernel
theorem dX5_left_17 : decode cX5_left 17 = .ok (.iconst 0, 1) := by decide +kernel
theorem dX5_left_18 : decode cX5_left 18 = .ok (.ireturn, 1) := by decide +kernel
set_option maxHeartbeats 4000000 in
set_option maxRecDepth 100000 in
theorem c_M_left0 (l : Launch) (d : gD) (b : Nat) (Y : gYt) (F : gM) (S : gSt) (hW : gWT d Y F S) (hv27 : sV S 27 = 0) (i : Int32) : gMi l d b yX5_left cX5_left 2 .int 1 0 0 F [.ref (gO' Y 7), .int i] (fun r F' => r = 0 ∧ F' = F) := by
  refine gM_of2 rfl (nL := 2) (Nat.le_of_ble_eq_true rfl) ?_
  intro X hX hC; subst hX
  show gG X d b _ F 0 0 0 [some (.ref (gO' Y 7)), some (.int i)] []
  obtain ⟨⟨fI, hI, hI2⟩, fO, hO, hO2⟩ := id hW.2.2.2.1
  have hM0 : gSm S S [] [] := gSm.rf
  have hK0 : gKp Y F F := gKp.rf
  refine g_aload_n hC dX5_left_0 rfl ?_
  refine g_iload_n hC dX5_left_1 rfl ?_
  refine g_callVi (As := [.int i]) hC rfl (hW.o 7 (by decide)) (c_M_isThere0 X.la d b Y F S hW hv27 i) cl_X5_75 rfl rfl (Nat.le_of_ble_eq_true rfl) (gFit_of (Nat.le_of_ble_eq_true rfl) (Nat.le_of_ble_eq_true rfl) (by first | exact Nat.le_of_ble_eq_true rfl | omega | (simp only [gR]; omega)) (by first | exact Nat.le_of_ble_eq_true rfl | omega | (simp only [gR]; omega))) dX5_left_2 (fun r3 F1 p2 => ?_)
  obtain ⟨rfl, eF1⟩ := p2; have eF1 := eF1.symm; subst eF1
  refine g_if_eq (tgt := 17) hC dX5_left_5 (by decide) (fun c4 => ?_) (fun c4 => ?_)
  · refine g_iconst (v := 0) hC dX5_left_17 rfl ?_
    exact g_iret hC rfl ⟨rfl, rfl⟩ (by first | exact Nat.le_of_ble_eq_true rfl | omega | (simp only [gR]; omega)) (by first | exact Nat.le_of_ble_eq_true rfl | omega | (simp only [gR]; omega)) dX5_left_18
  · exact absurd rfl c4
