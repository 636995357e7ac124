theorem kw_1909 : Cond.code yX11_outAt cX11_outAt 3 (some .int) ∈ gWs := List.mem_filter.mpr ⟨gMt7 _ (List.mem_of_getElem? (i := 232) rfl), rfl⟩
theorem kw_1906 : Cond.methodLink RL 7 yX11_outAt ∈ gWs := List.mem_filter.mpr ⟨gMt7 _ (List.mem_of_getElem? (i := 229) rfl), rfl⟩
theorem kw_1907 : Cond.instanceMethod yX11_outAt ∈ gWs := List.mem_filter.mpr ⟨gMt7 _ (List.mem_of_getElem? (i := 230) rfl), rfl⟩
theorem kw_1908 : Cond.selects RX11 yX11_outAt yX11_outAt ∈ gWs := List.mem_filter.mpr ⟨gMt7 _ (List.mem_of_getElem? (i := 231) rfl), rfl⟩
theorem cl_L_7 : gCV RL 7 yX11_outAt cX11_outAt 3 (some .int) 2 := ⟨g_mk [.methodLink RL 7 yX11_outAt, .instanceMethod yX11_outAt, .selects yX11_outAt.cls yX11_outAt yX11_outAt, .initialized yX11_outAt.cls] (gWs_all kw_1909) (List.forall_mem_cons.mpr ⟨kw_1906, List.forall_mem_cons.mpr ⟨kw_1907, List.forall_mem_cons.mpr ⟨kw_1908, List.forall_mem_cons.mpr ⟨kw_238, fun _ h => nomatch h⟩⟩⟩⟩), rfl, by decide +kernel, by decide +kernel, by decide +kernel⟩
theorem kw_1905 : Cond.classLink RL 13 "java/util/NoSuchElementException" ∈ gWs := List.mem_filter.mpr ⟨gMt7 _ (List.mem_of_getElem? (i := 228) rfl), rfl⟩
theorem kw_1904 : Cond.codeWith yL_outAt cL_outAt 5 (some .int) [(0, 10, 13, 13)] ∈ gWs := List.mem_filter.mpr ⟨gMt7 _ (List.mem_of_getElem? (i := 227) rfl), rfl⟩
theorem kw_1902 : Cond.methodLink RL 62 yL_outAt ∈ gWs := List.mem_filter.mpr ⟨gMt7 _ (List.mem_of_getElem? (i := 225) rfl), rfl⟩
theorem kw_1903 : Cond.static yL_outAt ∈ gWs := List.mem_filter.mpr ⟨gMt7 _ (List.mem_of_getElem? (i := 226) rfl), rfl⟩
theorem kw_237 : Cond.initialized RL ∈ gWs := List.mem_filter.mpr ⟨gMt1 _ (List.mem_of_getElem? (i := 0) rfl), rfl⟩
theorem kw_1941 : Cond.code yX11_word cX11_word 2 (some .int) ∈ gWs := List.mem_filter.mpr ⟨gMt8 _ (List.mem_of_getElem? (i := 24) rfl), rfl⟩
theorem kw_1938 : Cond.methodLink RL 15 yX11_word ∈ gWs := List.mem_filter.mpr ⟨gMt8 _ (List.mem_of_getElem? (i := 21) rfl), rfl⟩
theorem kw_1939 : Cond.instanceMethod yX11_word ∈ gWs := List.mem_filter.mpr ⟨gMt8 _ (List.mem_of_getElem? (i := 22) rfl), rfl⟩
theorem kw_1940 : Cond.selects RX11 yX11_word yX11_word ∈ gWs := List.mem_filter.mpr ⟨gMt8 _ (List.mem_of_getElem? (i := 23) rfl), rfl⟩
theorem cl_L_15 : gCV RL 15 yX11_word cX11_word 2 (some .int) 1 := ⟨g_mk [.methodLink RL 15 yX11_word, .instanceMethod yX11_word, .selects yX11_word.cls yX11_word yX11_word, .initialized yX11_word.cls] (gWs_all kw_1941) (List.forall_mem_cons.mpr ⟨kw_1938, List.forall_mem_cons.mpr ⟨kw_1939, List.forall_mem_cons.mpr ⟨kw_1940, List.forall_mem_cons.mpr ⟨kw_238, fun _ h => nomatch h⟩⟩⟩⟩), rfl, by decide +kernel, by decide +kernel, by decide +kernel⟩
theorem kw_1937 : Cond.codeWith yL_word cL_word 4 (some .int) [(0, 9, 12, 13)] ∈ gWs := List.mem_filter.mpr ⟨gMt8 _ (List.mem_of_getElem? (i := 20) rfl), rfl⟩
theorem kw_1935 : Cond.methodLink RL 68 yL_word ∈ gWs := List.mem_filter.mpr ⟨gMt8 _ (List.mem_of_getElem? (i := 18) rfl), rfl⟩
theorem kw_1936 : Cond.static yL_word ∈ gWs := List.mem_filter.mpr ⟨gMt8 _ (List.mem_of_getElem? (i := 19) rfl), rfl⟩
theorem kw_833 : Cond.code yX11_feed cX11_feed 6 (some .boolean) ∈ gWs := List.mem_filter.mpr ⟨gMt3 _ (List.mem_of_getElem? (i := 116) rfl), rfl⟩
theorem kw_830 : Cond.methodLink RL 23 yX11_feed ∈ gWs := List.mem_filter.mpr ⟨gMt3 _ (List.mem_of_getElem? (i := 113) rfl), rfl⟩
theorem kw_831 : Cond.instanceMethod yX11_feed ∈ gWs := List.mem_filter.mpr ⟨gMt3 _ (List.mem_of_getElem? (i := 114) rfl), rfl⟩
theorem kw_832 : Cond.selects RX11 yX11_feed yX11_feed ∈ gWs := List.mem_filter.mpr ⟨gMt3 _ (List.mem_of_getElem? (i := 115) rfl), rfl⟩
theorem cl_L_23 : gCV RL 23 yX11_feed cX11_feed 6 (some .boolean) 5 := ⟨g_mk [.methodLink RL 23 yX11_feed, .instanceMethod yX11_feed, .selects yX11_feed.cls yX11_feed yX11_feed, .initialized yX11_feed.cls] (gWs_all kw_833) (List.forall_mem_cons.mpr ⟨kw_830, List.forall_mem_cons.mpr ⟨kw_831, List.forall_mem_cons.mpr ⟨kw_832, List.forall_mem_cons.mpr ⟨kw_238, fun _ h => nomatch h⟩⟩⟩⟩), rfl, by decide +kernel, by decide +kernel, by decide +kernel⟩
theorem kw_257 : Cond.initialized RX12 ∈ gWs := List.mem_filter.mpr ⟨gMt1 _ (List.mem_of_getElem? (i := 20) rfl), rfl⟩
theorem kw_2318 : Cond.code yX12_feed cX12_feed 8 (some .boolean) ∈ gWs := List.mem_filter.mpr ⟨gMt9 _ (List.mem_of_getElem? (i := 161) rfl), rfl⟩
theorem kw_2315 : Cond.methodLink RL 27 yX12_feed ∈ gWs := List.mem_filter.mpr ⟨gMt9 _ (List.mem_of_getElem? (i := 158) rfl), rfl⟩
theorem kw_2316 : Cond.instanceMethod yX12_feed ∈ gWs := List.mem_filter.mpr ⟨gMt9 _ (List.mem_of_getElem? (i := 159) rfl), rfl⟩
theorem kw_2317 : Cond.selects RX12 yX12_feed yX12_feed ∈ gWs := List.mem_filter.mpr ⟨gMt9 _ (List.mem_of_getElem? (i := 160) rfl), rfl⟩
theorem cl_L_27 : gCV RL 27 yX12_feed cX12_feed 8 (some .boolean) 5 := ⟨g_mk [.methodLink RL 27 yX12_feed, .instanceMethod yX12_feed, .selects yX12_feed.cls yX12_feed yX12_feed, .initialized yX12_feed.cls] (gWs_all kw_2318) (List.forall_mem_cons.mpr ⟨kw_2315, List.forall_mem_cons.mpr ⟨kw_2316, List.forall_mem_cons.mpr ⟨kw_2317, List.forall_mem_cons.mpr ⟨kw_257, fun _ h => nomatch h⟩⟩⟩⟩), rfl, by decide +kernel, by decide +kernel, by decide +kernel⟩
theorem kw_843 : Cond.code yX11_end cX11_end 2 (some .boolean) ∈ gWs := List.mem_filter.mpr ⟨gMt3 _ (List.mem_of_getElem? (i := 126) rfl), rfl⟩
theorem kw_840 : Cond.methodLink RL 28 yX11_end ∈ gWs := List.mem_filter.mpr ⟨gMt3 _ (List.mem_of_getElem? (i := 123) rfl), rfl⟩
theorem kw_841 : Cond.instanceMethod yX11_end ∈ gWs := List.mem_filter.mpr ⟨gMt3 _ (List.mem_of_getElem? (i := 124) rfl), rfl⟩
theorem kw_842 : Cond.selects RX11 yX11_end yX11_end ∈ gWs := List.mem_filter.mpr ⟨gMt3 _ (List.mem_of_getElem? (i := 125) rfl), rfl⟩
theorem cl_L_28 : gCV RL 28 yX11_end cX11_end 2 (some .boolean) 1 := ⟨g_mk [.methodLink RL 28 yX11_end, .instanceMethod yX11_end, .selects yX11_end.cls yX11_end yX11_end, .initialized yX11_end.cls] (gWs_all kw_843) (List.forall_mem_cons.mpr ⟨kw_840, List.forall_mem_cons.mpr ⟨kw_841, List.forall_mem_cons.mpr ⟨kw_842, List.forall_mem_cons.mpr ⟨kw_238, fun _ h => nomatch h⟩⟩⟩⟩), rfl, by decide +kernel, by decide +kernel, by decide +kernel⟩
theorem kw_2322 : Cond.code yX12_end cX12_end 2 (some .boolean) ∈ gWs := List.mem_filter.mpr ⟨gMt9 _ (List.mem_of_getElem? (i := 165) rfl), rfl⟩
theorem kw_2319 : Cond.methodLink RL 32 yX12_end ∈ gWs := List.mem_filter.mpr ⟨gMt9 _ (List.mem_of_getElem? (i := 162) rfl), rfl⟩
theorem kw_2320 : Cond.instanceMethod yX12_end ∈ gWs := List.mem_filter.mpr ⟨gMt9 _ (List.mem_of_getElem? (i := 163) rfl), rfl⟩
theorem kw_2321 : Cond.selects RX12 yX12_end yX12_end ∈ gWs := List.mem_filter.mpr ⟨gMt9 _ (List.mem_of_getElem? (i := 164) rfl), rfl⟩
theorem cl_L_32 : gCV RL 32 yX12_end cX12_end 2 (some .boolean) 1 := ⟨g_mk [.methodLink RL 32 yX12_end, .instanceMethod yX12_end, .selects yX12_end.cls yX12_end yX12_end, .initialized yX12_end.cls] (gWs_all kw_2322) (List.forall_mem_cons.mpr ⟨kw_2319, List.forall_mem_cons.mpr ⟨kw_2320, List.forall_mem_cons.mpr ⟨kw_2321, List.forall_mem_cons.mpr ⟨kw_257, fun _ h => nomatch h⟩⟩⟩⟩), rfl, by decide +kernel, by decide +kernel, by decide +kernel⟩
theorem kw_848 : Cond.code yX11_compile cX11_compile 1 (some .int) ∈ gWs := List.mem_filter.mpr ⟨gMt3 _ (List.mem_of_getElem? (i := 131) rfl), rfl⟩
theorem kw_845 : Cond.methodLink RL 33 yX11_compile ∈ gWs := List.mem_filter.mpr ⟨gMt3 _ (List.mem_of_getElem? (i := 128) rfl), rfl⟩
theorem kw_846 : Cond.instanceMethod yX11_compile ∈ gWs := List.mem_filter.mpr ⟨gMt3 _ (List.mem_of_getElem? (i := 129) rfl), rfl⟩
theorem kw_847 : Cond.selects RX11 yX11_compile yX11_compile ∈ gWs := List.mem_filter.mpr ⟨gMt3 _ (List.mem_of_getElem? (i := 130) rfl), rfl⟩
theorem cl_L_33 : gCV RL 33 yX11_compile cX11_compile 1 (some .int) 0 := ⟨g_mk [.methodLink RL 33 yX11_compile, .instanceMethod yX11_compile, .selects yX11_compile.cls yX11_compile yX11_compile, .initialized yX11_compile.cls] (gWs_all kw_848) (List.forall_mem_cons.mpr ⟨kw_845, List.forall_mem_cons.mpr ⟨kw_846, List.forall_mem_cons.mpr ⟨kw_847, List.forall_mem_cons.mpr ⟨kw_238, fun _ h => nomatch h⟩⟩⟩⟩), rfl, by decide +kernel, by decide +kernel, by decide +kernel⟩
theorem kw_2326 : Cond.code yX12_compile cX12_compile 2 (some .int) ∈ gWs := List.mem_filter.mpr ⟨gMt9 _ (List.mem_of_getElem? (i := 169) rfl), rfl⟩
theorem kw_2323 : Cond.methodLink RL 37 yX12_compile ∈ gWs := List.mem_filter.mpr ⟨gMt9 _ (List.mem_of_getElem? (i := 166) rfl), rfl⟩
theorem kw_2324 : Cond.instanceMethod yX12_compile ∈ gWs := List.mem_filter.mpr ⟨gMt9 _ (List.mem_of_getElem? (i := 167) rfl), rfl⟩
theorem kw_2325 : Cond.selects RX12 yX12_compile yX12_compile ∈ gWs := List.mem_filter.mpr ⟨gMt9 _ (List.mem_of_getElem? (i := 168) rfl), rfl⟩
theorem cl_L_37 : gCV RL 37 yX12_compile cX12_compile 2 (some .int) 0 := ⟨g_mk [.methodLink RL 37 yX12_compile, .instanceMethod yX12_compile, .selects yX12_compile.cls yX12_compile yX12_compile, .initialized yX12_compile.cls] (gWs_all kw_2326) (List.forall_mem_cons.mpr ⟨kw_2323, List.forall_mem_cons.mpr ⟨kw_2324, List.forall_mem_cons.mpr ⟨kw_2325, List.forall_mem_cons.mpr ⟨kw_257, fun _ h => nomatch h⟩⟩⟩⟩), rfl, by decide +kernel, by decide +kernel, by decide +kernel⟩
theorem kw_1597 : Cond.code yX11_fault cX11_fault 1 (some .int) ∈ gWs := List.mem_filter.mpr ⟨gMt6 _ (List.mem_of_getElem? (i := 160) rfl), rfl⟩
theorem kw_1594 : Cond.methodLink RL 38 yX11_fault ∈ gWs := List.mem_filter.mpr ⟨gMt6 _ (List.mem_of_getElem? (i := 157) rfl), rfl⟩
theorem kw_1595 : Cond.instanceMethod yX11_fault ∈ gWs := List.mem_filter.mpr ⟨gMt6 _ (List.mem_of_getElem? (i := 158) rfl), rfl⟩
theorem kw_1596 : Cond.selects RX11 yX11_fault yX11_fault ∈ gWs := List.mem_filter.mpr ⟨gMt6 _ (List.mem_of_getElem? (i := 159) rfl), rfl⟩
theorem cl_L_38 : gCV RL 38 yX11_fault cX11_fault 1 (some .int) 0 := ⟨g_mk [.methodLink RL 38 yX11_fault, .instanceMethod yX11_fault, .selects yX11_fault.cls yX11_fault yX11_fault, .initialized yX11_fault.cls] (gWs_all kw_1597) (List.forall_mem_cons.mpr ⟨kw_1594, List.forall_mem_cons.mpr ⟨kw_1595, List.forall_mem_cons.mpr ⟨kw_1596, List.forall_mem_cons.mpr ⟨kw_238, fun _ h => nomatch h⟩⟩⟩⟩), rfl, by decide +kernel, by decide +kernel, by decide +kernel⟩
theorem kw_2740 : Cond.code yX12_fault_ cX12_fault_ 1 (some .int) ∈ gWs := List.mem_filter.mpr ⟨gMt11 _ (List.mem_of_getElem? (i := 103) rfl), rfl⟩
theorem kw_2737 : Cond.methodLink RL 41 yX12_fault_ ∈ gWs := List.mem_filter.mpr ⟨gMt11 _ (List.mem_of_getElem? (i := 100) rfl), rfl⟩
theorem kw_2738 : Cond.instanceMethod yX12_fault_ ∈ gWs := List.mem_filter.mpr ⟨gMt11 _ (List.mem_of_getElem? (i := 101) rfl), rfl⟩
theorem kw_2739 : Cond.selects RX12 yX12_fault_ yX12_fault_ ∈ gWs := List.mem_filter.mpr ⟨gMt11 _ (List.mem_of_getElem? (i := 102) rfl), rfl⟩
theorem cl_L_41 : gCV RL 41 yX12_fault_ cX12_fault_ 1 (some .int) 0 := ⟨g_mk [.methodLink RL 41 yX12_fault_, .instanceMethod yX12_fault_, .selects yX12_fault_.cls yX12_fault_ yX12_fault_, .initialized yX12_fault_.cls] (gWs_all kw_2740) (List.forall_mem_cons.mpr ⟨kw_2737, List.forall_mem_cons.mpr ⟨kw_2738, List.forall_mem_cons.mpr ⟨kw_2739, List.forall_mem_cons.mpr ⟨kw_257, fun _ h => nomatch h⟩⟩⟩⟩), rfl, by decide +kernel, by decide +kernel, by decide +kernel⟩
theorem kw_1601 : Cond.code yX11_store cX11_store 2 (some .boolean) ∈ gWs := List.mem_filter.mpr ⟨gMt6 _ (List.mem_of_getElem? (i := 164) rfl), rfl⟩
theorem kw_1598 : Cond.methodLink RL 42 yX11_store ∈ gWs := List.mem_filter.mpr ⟨gMt6 _ (List.mem_of_getElem? (i := 161) rfl), rfl⟩
theorem kw_1599 : Cond.instanceMethod yX11_store ∈ gWs := List.mem_filter.mpr ⟨gMt6 _ (List.mem_of_getElem? (i := 162) rfl), rfl⟩
theorem kw_1600 : Cond.selects RX11 yX11_store yX11_store ∈ gWs := List.mem_filter.mpr ⟨gMt6 _ (List.mem_of_getElem? (i := 163) rfl), rfl⟩
theorem cl_L_42 : gCV RL 42 yX11_store cX11_store 2 (some .boolean) 1 := ⟨g_mk [.methodLink RL 42 yX11_store, .instanceMethod yX11_store, .selects yX11_store.cls yX11_store yX11_store, .initialized yX11_store.cls] (gWs_all kw_1601) (List.forall_mem_cons.mpr ⟨kw_1598, List.forall_mem_cons.mpr ⟨kw_1599, List.forall_mem_cons.mpr ⟨kw_1600, List.forall_mem_cons.mpr ⟨kw_238, fun _ h => nomatch h⟩⟩⟩⟩), rfl, by decide +kernel, by decide +kernel, by decide +kernel⟩
theorem kw_2744 : Cond.code yX12_store cX12_store 2 (some .boolean) ∈ gWs := List.mem_filter.mpr ⟨gMt11 _ (List.mem_of_getElem? (i := 107) rfl), rfl⟩
theorem kw_2741 : Cond.methodLink RL 45 yX12_store ∈ gWs := List.mem_filter.mpr ⟨gMt11 _ (List.mem_of_getElem? (i := 104) rfl), rfl⟩
theorem kw_2742 : Cond.instanceMethod yX12_store ∈ gWs := List.mem_filter.mpr ⟨gMt11 _ (List.mem_of_getElem? (i := 105) rfl), rfl⟩
theorem kw_2743 : Cond.selects RX12 yX12_store yX12_store ∈ gWs := List.mem_filter.mpr ⟨gMt11 _ (List.mem_of_getElem? (i := 106) rfl), rfl⟩
theorem cl_L_45 : gCV RL 45 yX12_store cX12_store 2 (some .boolean) 1 := ⟨g_mk [.methodLink RL 45 yX12_store, .instanceMethod yX12_store, .selects yX12_store.cls yX12_store yX12_store, .initialized yX12_store.cls] (gWs_all kw_2744) (List.forall_mem_cons.mpr ⟨kw_2741, List.forall_mem_cons.mpr ⟨kw_2742, List.forall_mem_cons.mpr ⟨kw_2743, List.forall_mem_cons.mpr ⟨kw_257, fun _ h => nomatch h⟩⟩⟩⟩), rfl, by decide +kernel, by decide +kernel, by decide +kernel⟩
theorem kw_1612 : Cond.code yX11_input cX11_input 3 (some .int) ∈ gWs := List.mem_filter.mpr ⟨gMt6 _ (List.mem_of_getElem? (i := 175) rfl), rfl⟩
theorem kw_1609 : Cond.methodLink RL 46 yX11_input ∈ gWs := List.mem_filter.mpr ⟨gMt6 _ (List.mem_of_getElem? (i := 172) rfl), rfl⟩
theorem kw_1610 : Cond.instanceMethod yX11_input ∈ gWs := List.mem_filter.mpr ⟨gMt6 _ (List.mem_of_getElem? (i := 173) rfl), rfl⟩
theorem kw_1611 : Cond.selects RX11 yX11_input yX11_input ∈ gWs := List.mem_filter.mpr ⟨gMt6 _ (List.mem_of_getElem? (i := 174) rfl), rfl⟩
theorem cl_L_46 : gCV RL 46 yX11_input cX11_input 3 (some .int) 1 := ⟨g_mk [.methodLink RL 46 yX11_input, .instanceMethod yX11_input, .selects yX11_input.cls yX11_input yX11_input, .initialized yX11_input.cls] (gWs_all kw_1612) (List.forall_mem_cons.mpr ⟨kw_1609, List.forall_mem_cons.mpr ⟨kw_1610, List.forall_mem_cons.mpr ⟨kw_1611, List.forall_mem_cons.mpr ⟨kw_238, fun _ h => nomatch h⟩⟩⟩⟩), rfl, by decide +kernel, by decide +kernel, by decide +kernel⟩
theorem kw_2749 : Cond.code yX12_input cX12_input 4 (some .int) ∈ gWs := List.mem_filter.mpr ⟨gMt11 _ (List.mem_of_getElem? (i := 112) rfl), rfl⟩
theorem kw_2746 : Cond.methodLink RL 49 yX12_input ∈ gWs := List.mem_filter.mpr ⟨gMt11 _ (List.mem_of_getElem? (i := 109) rfl), rfl⟩
theorem kw_2747 : Cond.instanceMethod yX12_input ∈ gWs := List.mem_filter.mpr ⟨gMt11 _ (List.mem_of_getElem? (i := 110) rfl), rfl⟩
theorem kw_2748 : Cond.selects RX12 yX12_input yX12_input ∈ gWs := List.mem_filter.mpr ⟨gMt11 _ (List.mem_of_getElem? (i := 111) rfl), rfl⟩
theorem cl_L_49 : gCV RL 49 yX12_input cX12_input 4 (some .int) 1 := ⟨g_mk [.methodLink RL 49 yX12_input, .instanceMethod yX12_input, .selects yX12_input.cls yX12_input yX12_input, .initialized yX12_input.cls] (gWs_all kw_2749) (List.forall_mem_cons.mpr ⟨kw_2746, List.forall_mem_cons.mpr ⟨kw_2747, List.forall_mem_cons.mpr ⟨kw_2748, List.forall_mem_cons.mpr ⟨kw_257, fun _ h => nomatch h⟩⟩⟩⟩), rfl, by decide +kernel, by decide +kernel, by decide +kernel⟩
theorem kw_1632 : Cond.code yX11_run cX11_run 2 (some .int) ∈ gWs := List.mem_filter.mpr ⟨gMt6 _ (List.mem_of_getElem? (i := 195) rfl), rfl⟩
theorem kw_1629 : Cond.methodLink RL 50 yX11_run ∈ gWs := List.mem_filter.mpr ⟨gMt6 _ (List.mem_of_getElem? (i := 192) rfl), rfl⟩
theorem kw_1630 : Cond.instanceMethod yX11_run ∈ gWs := List.mem_filter.mpr ⟨gMt6 _ (List.mem_of_getElem? (i := 193) rfl), rfl⟩
theorem kw_1631 : Cond.selects RX11 yX11_run yX11_run ∈ gWs := List.mem_filter.mpr ⟨gMt6 _ (List.mem_of_getElem? (i := 194) rfl), rfl⟩
theorem cl_L_50 : gCV RL 50 yX11_run cX11_run 2 (some .int) 1 := ⟨g_mk [.methodLink RL 50 yX11_run, .instanceMethod yX11_run, .selects yX11_run.cls yX11_run yX11_run, .initialized yX11_run.cls] (gWs_all kw_1632) (List.forall_mem_cons.mpr ⟨kw_1629, List.forall_mem_cons.mpr ⟨kw_1630, List.forall_mem_cons.mpr ⟨kw_1631, List.forall_mem_cons.mpr ⟨kw_238, fun _ h => nomatch h⟩⟩⟩⟩), rfl, by decide +kernel, by decide +kernel, by decide +kernel⟩
theorem kw_2760 : Cond.code yX12_run cX12_run 3 (some .int) ∈ gWs := List.mem_filter.mpr ⟨gMt11 _ (List.mem_of_getElem? (i := 123) rfl), rfl⟩
theorem kw_2757 : Cond.methodLink RL 53 yX12_run ∈ gWs := List.mem_filter.mpr ⟨gMt11 _ (List.mem_of_getElem? (i := 120) rfl), rfl⟩
theorem kw_2758 : Cond.instanceMethod yX12_run ∈ gWs := List.mem_filter.mpr ⟨gMt11 _ (List.mem_of_getElem? (i := 121) rfl), rfl⟩
theorem kw_2759 : Cond.selects RX12 yX12_run yX12_run ∈ gWs := List.mem_filter.mpr ⟨gMt11 _ (List.mem_of_getElem? (i := 122) rfl), rfl⟩
theorem cl_L_53 : gCV RL 53 yX12_run cX12_run 3 (some .int) 1 := ⟨g_mk [.methodLink RL 53 yX12_run, .instanceMethod yX12_run, .selects yX12_run.cls yX12_run yX12_run, .initialized yX12_run.cls] (gWs_all kw_2760) (List.forall_mem_cons.mpr ⟨kw_2757, List.forall_mem_cons.mpr ⟨kw_2758, List.forall_mem_cons.mpr ⟨kw_2759, List.forall_mem_cons.mpr ⟨kw_257, fun _ h => nomatch h⟩⟩⟩⟩), rfl, by decide +kernel, by decide +kernel, by decide +kernel⟩
theorem kw_1881 : Cond.code yX11_value cX11_value 1 (some .int) ∈ gWs := List.mem_filter.mpr ⟨gMt7 _ (List.mem_of_getElem? (i := 204) rfl), rfl⟩
theorem kw_1878 : Cond.methodLink RL 54 yX11_value ∈ gWs := List.mem_filter.mpr ⟨gMt7 _ (List.mem_of_getElem? (i := 201) rfl), rfl⟩
theorem kw_1879 : Cond.instanceMethod yX11_value ∈ gWs := List.mem_filter.mpr ⟨gMt7 _ (List.mem_of_getElem? (i := 202) rfl), rfl⟩
theorem kw_1880 : Cond.selects RX11 yX11_value yX11_value ∈ gWs := List.mem_filter.mpr ⟨gMt7 _ (List.mem_of_getElem? (i := 203) rfl), rfl⟩
theorem cl_L_54 : gCV RL 54 yX11_value cX11_value 1 (some .int) 0 := ⟨g_mk [.methodLink RL 54 yX11_value, .instanceMethod yX11_value, .selects yX11_value.cls yX11_value yX11_value, .initialized yX11_value.cls] (gWs_all kw_1881) (List.forall_mem_cons.mpr ⟨kw_1878, List.forall_mem_cons.mpr ⟨kw_1879, List.forall_mem_cons.mpr ⟨kw_1880, List.forall_mem_cons.mpr ⟨kw_238, fun _ h => nomatch h⟩⟩⟩⟩), rfl, by decide +kernel, by decide +kernel, by decide +kernel⟩
theorem kw_2927 : Cond.code yX12_value cX12_value 1 (some .int) ∈ gWs := List.mem_filter.mpr ⟨gMt12 _ (List.mem_of_getElem? (i := 50) rfl), rfl⟩
theorem kw_2924 : Cond.methodLink RL 57 yX12_value ∈ gWs := List.mem_filter.mpr ⟨gMt12 _ (List.mem_of_getElem? (i := 47) rfl), rfl⟩
theorem kw_2925 : Cond.instanceMethod yX12_value ∈ gWs := List.mem_filter.mpr ⟨gMt12 _ (List.mem_of_getElem? (i := 48) rfl), rfl⟩
theorem kw_2926 : Cond.selects RX12 yX12_value yX12_value ∈ gWs := List.mem_filter.mpr ⟨gMt12 _ (List.mem_of_getElem? (i := 49) rfl), rfl⟩
theorem cl_L_57 : gCV RL 57 yX12_value cX12_value 1 (some .int) 0 := ⟨g_mk [.methodLink RL 57 yX12_value, .instanceMethod yX12_value, .selects yX12_value.cls yX12_value yX12_value, .initialized yX12_value.cls] (gWs_all kw_2927) (List.forall_mem_cons.mpr ⟨kw_2924, List.forall_mem_cons.mpr ⟨kw_2925, List.forall_mem_cons.mpr ⟨kw_2926, List.forall_mem_cons.mpr ⟨kw_257, fun _ h => nomatch h⟩⟩⟩⟩), rfl, by decide +kernel, by decide +kernel, by decide +kernel⟩
theorem kw_1889 : Cond.code yX11_out cX11_out 2 (some .int) ∈ gWs := List.mem_filter.mpr ⟨gMt7 _ (List.mem_of_getElem? (i := 212) rfl), rfl⟩
theorem kw_1886 : Cond.methodLink RL 58 yX11_out ∈ gWs := List.mem_filter.mpr ⟨gMt7 _ (List.mem_of_getElem? (i := 209) rfl), rfl⟩
theorem kw_1887 : Cond.instanceMethod yX11_out ∈ gWs := List.mem_filter.mpr ⟨gMt7 _ (List.mem_of_getElem? (i := 210) rfl), rfl⟩
theorem kw_1888 : Cond.selects RX11 yX11_out yX11_out ∈ gWs := List.mem_filter.mpr ⟨gMt7 _ (List.mem_of_getElem? (i := 211) rfl), rfl⟩
theorem cl_L_58 : gCV RL 58 yX11_out cX11_out 2 (some .int) 1 := ⟨g_mk [.methodLink RL 58 yX11_out, .instanceMethod yX11_out, .selects yX11_out.cls yX11_out yX11_out, .initialized yX11_out.cls] (gWs_all kw_1889) (List.forall_mem_cons.mpr ⟨kw_1886, List.forall_mem_cons.mpr ⟨kw_1887, List.forall_mem_cons.mpr ⟨kw_1888, List.forall_mem_cons.mpr ⟨kw_238, fun _ h => nomatch h⟩⟩⟩⟩), rfl, by decide +kernel, by decide +kernel, by decide +kernel⟩
theorem kw_2931 : Cond.code yX12_out cX12_out 2 (some .int) ∈ gWs := List.mem_filter.mpr ⟨gMt12 _ (List.mem_of_getElem? (i := 54) rfl), rfl⟩
theorem kw_2928 : Cond.methodLink RL 61 yX12_out ∈ gWs := List.mem_filter.mpr ⟨gMt12 _ (List.mem_of_getElem? (i := 51) rfl), rfl⟩
theorem kw_2929 : Cond.instanceMethod yX12_out ∈ gWs := List.mem_filter.mpr ⟨gMt12 _ (List.mem_of_getElem? (i := 52) rfl), rfl⟩
theorem kw_2930 : Cond.selects RX12 yX12_out yX12_out ∈ gWs := List.mem_filter.mpr ⟨gMt12 _ (List.mem_of_getElem? (i := 53) rfl), rfl⟩
theorem cl_L_61 : gCV RL 61 yX12_out cX12_out 2 (some .int) 1 := ⟨g_mk [.methodLink RL 61 yX12_out, .instanceMethod yX12_out, .selects yX12_out.cls yX12_out yX12_out, .initialized yX12_out.cls] (gWs_all kw_2931) (List.forall_mem_cons.mpr ⟨kw_2928, List.forall_mem_cons.mpr ⟨kw_2929, List.forall_mem_cons.mpr ⟨kw_2930, List.forall_mem_cons.mpr ⟨kw_257, fun _ h => nomatch h⟩⟩⟩⟩), rfl, by decide +kernel, by decide +kernel, by decide +kernel⟩
theorem kw_2935 : Cond.code yX12_outAt cX12_outAt 3 (some .int) ∈ gWs := List.mem_filter.mpr ⟨gMt12 _ (List.mem_of_getElem? (i := 58) rfl), rfl⟩
theorem kw_2932 : Cond.methodLink RL 67 yX12_outAt ∈ gWs := List.mem_filter.mpr ⟨gMt12 _ (List.mem_of_getElem? (i := 55) rfl), rfl⟩
theorem kw_2933 : Cond.instanceMethod yX12_outAt ∈ gWs := List.mem_filter.mpr ⟨gMt12 _ (List.mem_of_getElem? (i := 56) rfl), rfl⟩
theorem kw_2934 : Cond.selects RX12 yX12_outAt yX12_outAt ∈ gWs := List.mem_filter.mpr ⟨gMt12 _ (List.mem_of_getElem? (i := 57) rfl), rfl⟩
theorem cl_L_67 : gCV RL 67 yX12_outAt cX12_outAt 3 (some .int) 2 := ⟨g_mk [.methodLink RL 67 yX12_outAt, .instanceMethod yX12_outAt, .selects yX12_outAt.cls yX12_outAt yX12_outAt, .initialized yX12_outAt.cls] (gWs_all kw_2935) (List.forall_mem_cons.mpr ⟨kw_2932, List.forall_mem_cons.mpr ⟨kw_2933, List.forall_mem_cons.mpr ⟨kw_2934, List.forall_mem_cons.mpr ⟨kw_257, fun _ h => nomatch h⟩⟩⟩⟩), rfl, by decide +kernel, by decide +kernel, by decide +kernel⟩
theorem kw_2939 : Cond.code yX12_word cX12_word 2 (some .int) ∈ gWs := List.mem_filter.mpr ⟨gMt12 _ (List.mem_of_getElem? (i := 62) rfl), rfl⟩
theorem kw_2936 : Cond.methodLink RL 71 yX12_word ∈ gWs := List.mem_filter.mpr ⟨gMt12 _ (List.mem_of_getElem? (i := 59) rfl), rfl⟩
theorem kw_2937 : Cond.instanceMethod yX12_word ∈ gWs := List.mem_filter.mpr ⟨gMt12 _ (List.mem_of_getElem? (i := 60) rfl), rfl⟩
theorem kw_2938 : Cond.selects RX12 yX12_word yX12_word ∈ gWs := List.mem_filter.mpr ⟨gMt12 _ (List.mem_of_getElem? (i := 61) rfl), rfl⟩
theorem cl_L_71 : gCV RL 71 yX12_word cX12_word 2 (some .int) 1 := ⟨g_mk [.methodLink RL 71 yX12_word, .instanceMethod yX12_word, .selects yX12_word.cls yX12_word yX12_word, .initialized yX12_word.cls] (gWs_all kw_2939) (List.forall_mem_cons.mpr ⟨kw_2936, List.forall_mem_cons.mpr ⟨kw_2937, List.forall_mem_cons.mpr ⟨kw_2938, List.forall_mem_cons.mpr ⟨kw_257, fun _ h => nomatch h⟩⟩⟩⟩), rfl, by decide +kernel, by decide +kernel, by decide +kernel⟩
theorem kw_1897 : Cond.code yX11_fuel cX11_fuel 1 (some .int) ∈ gWs := List.mem_filter.mpr ⟨gMt7 _ (List.mem_of_getElem? (i := 220) rfl), rfl⟩
theorem kw_1894 : Cond.methodLink RL 72 yX11_fuel ∈ gWs := List.mem_filter.mpr ⟨gMt7 _ (List.mem_of_getElem? (i := 217) rfl), rfl⟩
theorem kw_1895 : Cond.instanceMethod yX11_fuel ∈ gWs := List.mem_filter.mpr ⟨gMt7 _ (List.mem_of_getElem? (i := 218) rfl), rfl⟩
theorem kw_1896 : Cond.selects RX11 yX11_fuel yX11_fuel ∈ gWs := List.mem_filter.mpr ⟨gMt7 _ (List.mem_of_getElem? (i := 219) rfl), rfl⟩
theorem cl_L_72 : gCV RL 72 yX11_fuel cX11_fuel 1 (some .int) 0 := ⟨g_mk [.methodLink RL 72 yX11_fuel, .instanceMethod yX11_fuel, .selects yX11_fuel.cls yX11_fuel yX11_fuel, .initialized yX11_fuel.cls] (gWs_all kw_1897) (List.forall_mem_cons.mpr ⟨kw_1894, List.forall_mem_cons.mpr ⟨kw_1895, List.forall_mem_cons.mpr ⟨kw_1896, List.forall_mem_cons.mpr ⟨kw_238, fun _ h => nomatch h⟩⟩⟩⟩), rfl, by decide +kernel, by decide +kernel, by decide +kernel⟩
theorem kw_2943 : Cond.code yX12_fuel cX12_fuel 1 (some .int) ∈ gWs := List.mem_filter.mpr ⟨gMt12 _ (List.mem_of_getElem? (i := 66) rfl), rfl⟩
theorem kw_2940 : Cond.methodLink RL 75 yX12_fuel ∈ gWs := List.mem_filter.mpr ⟨gMt12 _ (List.mem_of_getElem? (i := 63) rfl), rfl⟩
theorem kw_2941 : Cond.instanceMethod yX12_fuel ∈ gWs := List.mem_filter.mpr ⟨gMt12 _ (List.mem_of_getElem? (i := 64) rfl), rfl⟩
theorem kw_2942 : Cond.selects RX12 yX12_fuel yX12_fuel ∈ gWs := List.mem_filter.mpr ⟨gMt12 _ (List.mem_of_getElem? (i := 65) rfl), rfl⟩
theorem cl_L_75 : gCV RL 75 yX12_fuel cX12_fuel 1 (some .int) 0 := ⟨g_mk [.methodLink RL 75 yX12_fuel, .instanceMethod yX12_fuel, .selects yX12_fuel.cls yX12_fuel yX12_fuel, .initialized yX12_fuel.cls] (gWs_all kw_2943) (List.forall_mem_cons.mpr ⟨kw_2940, List.forall_mem_cons.mpr ⟨kw_2941, List.forall_mem_cons.mpr ⟨kw_2942, List.forall_mem_cons.mpr ⟨kw_257, fun _ h => nomatch h⟩⟩⟩⟩), rfl, by decide +kernel, by decide +kernel, by decide +kernel⟩
theorem gWs_allW {y : MethodName} {cc : ByteArray} {mL : Nat} {rt : Option FieldType} {hh : List (Nat × Nat × Nat × Nat)} (h : Cond.codeWith y cc mL rt hh ∈ gWs) : GoodIn gWs (.codeWith y cc mL rt hh :: gWs) := fun w hw => by
  have hw' : w ∈ gWs := (List.mem_cons.mp hw).elim (fun e => by rw [e]; exact h) id
  exact ⟨hw', good_of_word (gWs_good w hw')⟩
theorem hFr_law {lvl mL : Nat} (h1 : lvl ≤ 1300) (h2 : mL ≤ 40) : hFr room_1 lvl mL := ⟨by show lvl + 1 ≤ 2048; omega, by show 8 + (mL + 11) + 64 * lvl ≤ 84000; omega⟩
theorem nI_zz (n : Nat) : nI n = zI (n : Int) := (Int32.ofInt_eq_ofNat (n := n)).symm
theorem nI_plus (a j : Nat) : nI a + nI j = nI (a + j) := by
  rw [nI_zz, nI_zz, nI_zz, ← zI_add]
  exact congrArg zI (by omega)
theorem law_le {i L : Nat} (hL : L ≤ 384) (hi : i ≤ 64) (h : ¬ (nI (6 * i) > nI L - 6)) : 6 * i + 6 ≤ L := by
  have e : nI L - 6 = zI ((L : Int) - 6) := by
    rw [zI_sub, ← nI_zz]
    rfl
  rw [e, nI_zz] at h
  have h2 : ¬ ((L : Int) - 6 < ((6 * i : Nat) : Int)) := fun q => h ((zI_lt (a := (L : Int) - 6) (b := ((6 * i : Nat) : Int)) ⟨by omega, by omega⟩ ⟨by omega, by omega⟩).mpr q)
  omega
theorem law_in {i L j : Nat} {x z : Int32} (ex : x = nI (6 * i) + z) (ez : z = nI j) (h : 6 * i + j < L) (hL : L ≤ 384) : vp_in x L := by
  rw [ex, ez, nI_plus]
  exact vp_in_nI h (by omega)
theorem law_ii {i : Nat} {x : Int32} (ex : x = nI (6 * i) + 6) : x = nI (6 * (i + 1)) := by
  rw [ex, show (6 : Int32) = nI 6 from by decide, nI_plus]
  exact congrArg nI (by omega)
section HL
variable {own : String} {cc : ByteArray} {nL : Nat} {rt : Option FieldType} {nm : String} {R : Room} {d : gD} {b : Nat} {X : gX} {Q : State → Prop} {F : gM} {k n pc : Nat} {lv : List (Option Value)} {st : List Value}
theorem h_sld (hC : gC own cc nL rt nm R d b X) {b0 L : Nat} {xs : Nat → Int32} (hX : va_X b0 L xs X.st X.st.heap) (hb : b0 < X.st.heap.size) (hb2 : b0 < b) {i : Int32} (hin : vp_in i L) (hdg : decode cc pc = .ok (.iaload, 1)) (kk : hG X d b Q F k n (pc + 1) lv (.int (xs i.toNatClampNeg) :: st)) : hG X d b Q F k n pc lv (.int i :: .ref b0 :: st) := fun H locs ls hH hS hL =>
  va_sld hC.hx hC.hb hX hb (Nat.not_le.mpr hb2) hS hin hdg (kk H locs ls hH hS hL)
theorem h_scl (hC : gC own cc nL rt nm R d b X) {b0 L : Nat} {xs : Nat → Int32} (hX : va_X b0 L xs X.st X.st.heap) (hb : b0 < X.st.heap.size) (hb2 : b0 < b) (hdg : decode cc pc = .ok (.arraylength, 1)) (kk : hG X d b Q F k n (pc + 1) lv (.int (nI L) :: st)) : hG X d b Q F k n pc lv (.ref b0 :: st) := fun H locs ls hH hS hL =>
  va_slen hC.hx hC.hb hX hb (Nat.not_le.mpr hb2) hS hdg (kk H locs ls hH hS hL)
theorem h_callSWi {Q : State → Prop} {rt0 : FieldType} {hh : List (Nat × Nat × Nat × Nat)} (hC : gC own cc nL rt nm R d b X) (hr0 : hRm X b) (ho : hOk X b k n) {y : MethodName} {c2 : ByteArray} {mL nA lvl idx : Nat} {As : List Value} {post : Int32 → hU → Prop} (hm : ∀ mc ms, Met X.la y (.codeWith y c2 mL (some rt0) hh :: gWs) (gR lvl mc ms) (va_Pc As (hP d b F k n mc ms)) (va_Qi post (hB d b) (fun q => b ≤ q)) mc ms (fun q => b ≤ q)) (hl : gCSW own idx y c2 mL (some rt0) hh nA) (hA : As.length = nA) (hn : nL = lv.length) (hr : (st.map fun v => v.category).sum ≤ 8) (hf : hFr R lvl mL) (hdg : decode cc pc = .ok (.invokestatic idx, 3)) (kk : ∀ (r : Int32) (u : hU), post r u → hOk X b u.2.1 u.2.2 → hG X d b Q u.1 u.2.1 u.2.2 (pc + 3) lv (.int r :: st)) : hG X d b Q F k n pc lv (As.reverse ++ st) := by
  refine h_at hC ho (fun H locs ls hH hS hL y1 y2 y3 y4 => ?_)
  obtain ⟨r1, r2⟩ := hR_R hC hr0
  exact va_calli (vx_runSW (As := As) (rest := st) ⟨hC.hx, hC.hb, hC.hml, hC.how, hC.hts⟩ (hm (gKm b - H.size) (gNm - gsm b H)) (vx_cwSW nA hC.hts hl.1 rfl rfl rfl hl.2 (by rw [hC.hR]; exact hf)) ⟨hP.blind, fun U hU hW => ⟨rfl, hE_B hC hH hS y2 y4 hU hW, by rw [hU]; omega, by rw [hU]; omega⟩⟩ rfl hA (hL.1.trans hn.symm) rfl (lv_room hr) hdg (by rw [hC.hR]; exact ⟨by omega, by omega⟩)) hS (fun q _ h => h) (fun q h => h) (fun r u t H1 locs1 ht hvm hp hB hz hk1 hS1 => h_back hC u (by rw [← ht]; exact hB.1.2) hS1 hL (by rw [← ht]; exact hB.2.1) (by rw [← ht]; exact hB.2.2) (kk r u hp))
end HL
theorem dL_law_0 : decode cL_law 0 = .ok (.new 8, 3) := by decide +kernel
theorem dL_law_3 : decode cL_law 3 = .ok (.dup, 1) := by decide +kernel
theorem dL_law_4 : decode cL_law 4 = .ok (.invokespecial 19, 3) := by decide +kernel
theorem dL_law_7 : decode cL_law 7 = .ok (.astore_n 1, 1) := by decide +kernel
theorem dL_law_8 : decode cL_law 8 = .ok (.new 20, 3) := by decide +kernel
theorem dL_law_11 : decode cL_law 11 = .ok (.dup, 1) := by decide +kernel
theorem dL_law_12 : decode cL_law 12 = .ok (.invokespecial 22, 3) := by decide +kernel
theorem dL_law_15 : decode cL_law 15 = .ok (.astore_n 2, 1) := by decide +kernel
theorem dL_law_16 : decode cL_law 16 = .ok (.iconst 1, 1) := by decide +kernel
theorem dL_law_17 : decode cL_law 17 = .ok (.newarray .long, 2) := by decide +kernel
theorem dL_law_19 : decode cL_law 19 = .ok (.astore_n 3, 1) := by decide +kernel
theorem dL_law_20 : decode cL_law 20 = .ok (.iconst 0, 1) := by decide +kernel
theorem dL_law_21 : decode cL_law 21 = .ok (.istore 4, 2) := by decide +kernel
theorem dL_law_23 : decode cL_law 23 = .ok (.iload 4, 2) := by decide +kernel
theorem dL_law_25 : decode cL_law 25 = .ok (.aload_n 0, 1) := by decide +kernel
theorem dL_law_26 : decode cL_law 26 = .ok (.arraylength, 1) := by decide +kernel
theorem dL_law_27 : decode cL_law 27 = .ok (.bipush 6, 2) := by decide +kernel
theorem dL_law_29 : decode cL_law 29 = .ok (.isub, 1) := by decide +kernel
theorem dL_law_30 : decode cL_law 30 = .ok (.if_icmp .gt 398, 3) := by decide +kernel
theorem dL_law_33 : decode cL_law 33 = .ok (.aload_n 0, 1) := by decide +kernel
theorem dL_law_34 : decode cL_law 34 = .ok (.iload 4, 2) := by decide +kernel
theorem dL_law_36 : decode cL_law 36 = .ok (.iaload, 1) := by decide +kernel
theorem dL_law_37 : decode cL_law 37 = .ok (.bipush 15, 2) := by decide +kernel
theorem dL_law_39 : decode cL_law 39 = .ok (.iand, 1) := by decide +kernel
theorem dL_law_40 : decode cL_law 40 = .ok (.tableswitch 382 0 11 #[64, 137, 162, 175, 188, 213, 238, 263, 276, 301, 341, 369], 64) := by decide +kernel
theorem dL_law_104 : decode cL_law 104 = .ok (.aload_n 1, 1) := by decide +kernel
theorem dL_law_105 : decode cL_law 105 = .ok (.aload_n 0, 1) := by decide +kernel
theorem dL_law_106 : decode cL_law 106 = .ok (.iload 4, 2) := by decide +kernel
theorem dL_law_108 : decode cL_law 108 = .ok (.iconst 1, 1) := by decide +kernel
theorem dL_law_109 : decode cL_law 109 = .ok (.iadd, 1) := by decide +kernel
theorem dL_law_110 : decode cL_law 110 = .ok (.iaload, 1) := by decide +kernel
theorem dL_law_111 : decode cL_law 111 = .ok (.aload_n 0, 1) := by decide +kernel
theorem dL_law_112 : decode cL_law 112 = .ok (.iload 4, 2) := by decide +kernel
theorem dL_law_114 : decode cL_law 114 = .ok (.iconst 2, 1) := by decide +kernel
theorem dL_law_115 : decode cL_law 115 = .ok (.iadd, 1) := by decide +kernel
theorem dL_law_116 : decode cL_law 116 = .ok (.iaload, 1) := by decide +kernel
theorem dL_law_117 : decode cL_law 117 = .ok (.aload_n 0, 1) := by decide +kernel
theorem dL_law_118 : decode cL_law 118 = .ok (.iload 4, 2) := by decide +kernel
theorem dL_law_120 : decode cL_law 120 = .ok (.iconst 3, 1) := by decide +kernel
theorem dL_law_121 : decode cL_law 121 = .ok (.iadd, 1) := by decide +kernel
theorem dL_law_122 : decode cL_law 122 = .ok (.iaload, 1) := by decide +kernel
theorem dL_law_123 : decode cL_law 123 = .ok (.aload_n 0, 1) := by decide +kernel
theorem dL_law_124 : decode cL_law 124 = .ok (.iload 4, 2) := by decide +kernel
theorem dL_law_126 : decode cL_law 126 = .ok (.iconst 4, 1) := by decide +kernel
theorem dL_law_127 : decode cL_law 127 = .ok (.iadd, 1) := by decide +kernel
theorem dL_law_128 : decode cL_law 128 = .ok (.iaload, 1) := by decide +kernel
theorem dL_law_129 : decode cL_law 129 = .ok (.aload_n 0, 1) := by decide +kernel
theorem dL_law_130 : decode cL_law 130 = .ok (.iload 4, 2) := by decide +kernel
theorem dL_law_132 : decode cL_law 132 = .ok (.iconst 5, 1) := by decide +kernel
theorem dL_law_133 : decode cL_law 133 = .ok (.iadd, 1) := by decide +kernel
theorem dL_law_134 : decode cL_law 134 = .ok (.iaload, 1) := by decide +kernel
theorem dL_law_135 : decode cL_law 135 = .ok (.invokevirtual 23, 3) := by decide +kernel
theorem dL_law_138 : decode cL_law 138 = .ok (.pop, 1) := by decide +kernel
theorem dL_law_139 : decode cL_law 139 = .ok (.aload_n 2, 1) := by decide +kernel
theorem dL_law_140 : decode cL_law 140 = .ok (.aload_n 0, 1) := by decide +kernel
theorem dL_law_141 : decode cL_law 141 = .ok (.iload 4, 2) := by decide +kernel
theorem dL_law_143 : decode cL_law 143 = .ok (.iconst 1, 1) := by decide +kernel
theorem dL_law_144 : decode cL_law 144 = .ok (.iadd, 1) := by decide +kernel
theorem dL_law_145 : decode cL_law 145 = .ok (.iaload, 1) := by decide +kernel
theorem dL_law_146 : decode cL_law 146 = .ok (.aload_n 0, 1) := by decide +kernel
theorem dL_law_147 : decode cL_law 147 = .ok (.iload 4, 2) := by decide +kernel
theorem dL_law_149 : decode cL_law 149 = .ok (.iconst 2, 1) := by decide +kernel
theorem dL_law_150 : decode cL_law 150 = .ok (.iadd, 1) := by decide +kernel
theorem dL_law_151 : decode cL_law 151 = .ok (.iaload, 1) := by decide +kernel
theorem dL_law_152 : decode cL_law 152 = .ok (.aload_n 0, 1) := by decide +kernel
theorem dL_law_153 : decode cL_law 153 = .ok (.iload 4, 2) := by decide +kernel
theorem dL_law_155 : decode cL_law 155 = .ok (.iconst 3, 1) := by decide +kernel
theorem dL_law_156 : decode cL_law 156 = .ok (.iadd, 1) := by decide +kernel
theorem dL_law_157 : decode cL_law 157 = .ok (.iaload, 1) := by decide +kernel
theorem dL_law_158 : decode cL_law 158 = .ok (.aload_n 0, 1) := by decide +kernel
theorem dL_law_159 : decode cL_law 159 = .ok (.iload 4, 2) := by decide +kernel
theorem dL_law_161 : decode cL_law 161 = .ok (.iconst 4, 1) := by decide +kernel
theorem dL_law_162 : decode cL_law 162 = .ok (.iadd, 1) := by decide +kernel
theorem dL_law_163 : decode cL_law 163 = .ok (.iaload, 1) := by decide +kernel
theorem dL_law_164 : decode cL_law 164 = .ok (.aload_n 0, 1) := by decide +kernel
theorem dL_law_165 : decode cL_law 165 = .ok (.iload 4, 2) := by decide +kernel
theorem dL_law_167 : decode cL_law 167 = .ok (.iconst 5, 1) := by decide +kernel
theorem dL_law_168 : decode cL_law 168 = .ok (.iadd, 1) := by decide +kernel
theorem dL_law_169 : decode cL_law 169 = .ok (.iaload, 1) := by decide +kernel
theorem dL_law_170 : decode cL_law 170 = .ok (.invokevirtual 27, 3) := by decide +kernel
theorem dL_law_173 : decode cL_law 173 = .ok (.pop, 1) := by decide +kernel
theorem dL_law_174 : decode cL_law 174 = .ok (.goto 248, 3) := by decide +kernel
theorem dL_law_177 : decode cL_law 177 = .ok (.aload_n 1, 1) := by decide +kernel
theorem dL_law_178 : decode cL_law 178 = .ok (.aload_n 0, 1) := by decide +kernel
theorem dL_law_179 : decode cL_law 179 = .ok (.iload 4, 2) := by decide +kernel
theorem dL_law_181 : decode cL_law 181 = .ok (.iconst 1, 1) := by decide +kernel
theorem dL_law_182 : decode cL_law 182 = .ok (.iadd, 1) := by decide +kernel
theorem dL_law_183 : decode cL_law 183 = .ok (.iaload, 1) := by decide +kernel
theorem dL_law_184 : decode cL_law 184 = .ok (.invokevirtual 28, 3) := by decide +kernel
theorem dL_law_187 : decode cL_law 187 = .ok (.pop, 1) := by decide +kernel
theorem dL_law_188 : decode cL_law 188 = .ok (.aload_n 2, 1) := by decide +kernel
theorem dL_law_189 : decode cL_law 189 = .ok (.aload_n 0, 1) := by decide +kernel
theorem dL_law_190 : decode cL_law 190 = .ok (.iload 4, 2) := by decide +kernel
theorem dL_law_192 : decode cL_law 192 = .ok (.iconst 1, 1) := by decide +kernel
theorem dL_law_193 : decode cL_law 193 = .ok (.iadd, 1) := by decide +kernel
theorem dL_law_194 : decode cL_law 194 = .ok (.iaload, 1) := by decide +kernel
theorem dL_law_195 : decode cL_law 195 = .ok (.invokevirtual 32, 3) := by decide +kernel
theorem dL_law_198 : decode cL_law 198 = .ok (.pop, 1) := by decide +kernel
theorem dL_law_199 : decode cL_law 199 = .ok (.goto 223, 3) := by decide +kernel
theorem dL_law_202 : decode cL_law 202 = .ok (.aload_n 1, 1) := by decide +kernel
theorem dL_law_203 : decode cL_law 203 = .ok (.invokevirtual 33, 3) := by decide +kernel
theorem dL_law_206 : decode cL_law 206 = .ok (.pop, 1) := by decide +kernel
theorem dL_law_207 : decode cL_law 207 = .ok (.aload_n 2, 1) := by decide +kernel
theorem dL_law_208 : decode cL_law 208 = .ok (.invokevirtual 37, 3) := by decide +kernel
theorem dL_law_211 : decode cL_law 211 = .ok (.pop, 1) := by decide +kernel
theorem dL_law_212 : decode cL_law 212 = .ok (.goto 210, 3) := by decide +kernel
theorem dL_law_215 : decode cL_law 215 = .ok (.aload_n 1, 1) := by decide +kernel
theorem dL_law_216 : decode cL_law 216 = .ok (.invokevirtual 38, 3) := by decide +kernel
theorem dL_law_219 : decode cL_law 219 = .ok (.pop, 1) := by decide +kernel
theorem dL_law_220 : decode cL_law 220 = .ok (.aload_n 2, 1) := by decide +kernel
theorem dL_law_221 : decode cL_law 221 = .ok (.invokevirtual 41, 3) := by decide +kernel
theorem dL_law_224 : decode cL_law 224 = .ok (.pop, 1) := by decide +kernel
theorem dL_law_225 : decode cL_law 225 = .ok (.goto 197, 3) := by decide +kernel
theorem dL_law_228 : decode cL_law 228 = .ok (.aload_n 1, 1) := by decide +kernel
theorem dL_law_229 : decode cL_law 229 = .ok (.aload_n 0, 1) := by decide +kernel
theorem dL_law_230 : decode cL_law 230 = .ok (.iload 4, 2) := by decide +kernel
theorem dL_law_232 : decode cL_law 232 = .ok (.iconst 1, 1) := by decide +kernel
theorem dL_law_233 : decode cL_law 233 = .ok (.iadd, 1) := by decide +kernel
theorem dL_law_234 : decode cL_law 234 = .ok (.iaload, 1) := by decide +kernel
theorem dL_law_235 : decode cL_law 235 = .ok (.invokevirtual 42, 3) := by decide +kernel
theorem dL_law_238 : decode cL_law 238 = .ok (.pop, 1) := by decide +kernel
theorem dL_law_239 : decode cL_law 239 = .ok (.aload_n 2, 1) := by decide +kernel
theorem dL_law_240 : decode cL_law 240 = .ok (.aload_n 0, 1) := by decide +kernel
theorem dL_law_241 : decode cL_law 241 = .ok (.iload 4, 2) := by decide +kernel
theorem dL_law_243 : decode cL_law 243 = .ok (.iconst 1, 1) := by decide +kernel
theorem dL_law_244 : decode cL_law 244 = .ok (.iadd, 1) := by decide +kernel
theorem dL_law_245 : decode cL_law 245 = .ok (.iaload, 1) := by decide +kernel
theorem dL_law_246 : decode cL_law 246 = .ok (.invokevirtual 45, 3) := by decide +kernel
theorem dL_law_249 : decode cL_law 249 = .ok (.pop, 1) := by decide +kernel
theorem dL_law_250 : decode cL_law 250 = .ok (.goto 172, 3) := by decide +kernel
theorem dL_law_253 : decode cL_law 253 = .ok (.aload_n 1, 1) := by decide +kernel
theorem dL_law_254 : decode cL_law 254 = .ok (.aload_n 0, 1) := by decide +kernel
theorem dL_law_255 : decode cL_law 255 = .ok (.iload 4, 2) := by decide +kernel
theorem dL_law_257 : decode cL_law 257 = .ok (.iconst 1, 1) := by decide +kernel
theorem dL_law_258 : decode cL_law 258 = .ok (.iadd, 1) := by decide +kernel
theorem dL_law_259 : decode cL_law 259 = .ok (.iaload, 1) := by decide +kernel
theorem dL_law_260 : decode cL_law 260 = .ok (.invokevirtual 46, 3) := by decide +kernel
theorem dL_law_263 : decode cL_law 263 = .ok (.aload_n 2, 1) := by decide +kernel
theorem dL_law_264 : decode cL_law 264 = .ok (.aload_n 0, 1) := by decide +kernel
theorem dL_law_265 : decode cL_law 265 = .ok (.iload 4, 2) := by decide +kernel
theorem dL_law_267 : decode cL_law 267 = .ok (.iconst 1, 1) := by decide +kernel
theorem dL_law_268 : decode cL_law 268 = .ok (.iadd, 1) := by decide +kernel
theorem dL_law_269 : decode cL_law 269 = .ok (.iaload, 1) := by decide +kernel
theorem dL_law_270 : decode cL_law 270 = .ok (.invokevirtual 49, 3) := by decide +kernel
theorem dL_law_273 : decode cL_law 273 = .ok (.if_icmp .eq 149, 3) := by decide +kernel
theorem dL_law_276 : decode cL_law 276 = .ok (.iconst 0, 1) := by decide +kernel
theorem dL_law_277 : decode cL_law 277 = .ok (.ireturn, 1) := by decide +kernel
theorem dL_law_278 : decode cL_law 278 = .ok (.aload_n 1, 1) := by decide +kernel
theorem dL_law_279 : decode cL_law 279 = .ok (.aload_n 0, 1) := by decide +kernel
theorem dL_law_280 : decode cL_law 280 = .ok (.iload 4, 2) := by decide +kernel
theorem dL_law_282 : decode cL_law 282 = .ok (.iconst 1, 1) := by decide +kernel
theorem dL_law_283 : decode cL_law 283 = .ok (.iadd, 1) := by decide +kernel
theorem dL_law_284 : decode cL_law 284 = .ok (.iaload, 1) := by decide +kernel
theorem dL_law_285 : decode cL_law 285 = .ok (.invokevirtual 50, 3) := by decide +kernel
theorem dL_law_288 : decode cL_law 288 = .ok (.pop, 1) := by decide +kernel
theorem dL_law_289 : decode cL_law 289 = .ok (.aload_n 2, 1) := by decide +kernel
theorem dL_law_290 : decode cL_law 290 = .ok (.aload_n 0, 1) := by decide +kernel
theorem dL_law_291 : decode cL_law 291 = .ok (.iload 4, 2) := by decide +kernel
theorem dL_law_293 : decode cL_law 293 = .ok (.iconst 1, 1) := by decide +kernel
theorem dL_law_294 : decode cL_law 294 = .ok (.iadd, 1) := by decide +kernel
theorem dL_law_295 : decode cL_law 295 = .ok (.iaload, 1) := by decide +kernel
theorem dL_law_296 : decode cL_law 296 = .ok (.invokevirtual 53, 3) := by decide +kernel
theorem dL_law_299 : decode cL_law 299 = .ok (.pop, 1) := by decide +kernel
theorem dL_law_300 : decode cL_law 300 = .ok (.goto 122, 3) := by decide +kernel
theorem dL_law_303 : decode cL_law 303 = .ok (.aload_n 1, 1) := by decide +kernel
theorem dL_law_304 : decode cL_law 304 = .ok (.invokevirtual 54, 3) := by decide +kernel
theorem dL_law_307 : decode cL_law 307 = .ok (.pop, 1) := by decide +kernel
theorem dL_law_308 : decode cL_law 308 = .ok (.aload_n 2, 1) := by decide +kernel
theorem dL_law_309 : decode cL_law 309 = .ok (.invokevirtual 57, 3) := by decide +kernel
theorem dL_law_312 : decode cL_law 312 = .ok (.pop, 1) := by decide +kernel
theorem dL_law_313 : decode cL_law 313 = .ok (.goto 109, 3) := by decide +kernel
theorem dL_law_316 : decode cL_law 316 = .ok (.aload_n 1, 1) := by decide +kernel
theorem dL_law_317 : decode cL_law 317 = .ok (.aload_n 0, 1) := by decide +kernel
theorem dL_law_318 : decode cL_law 318 = .ok (.iload 4, 2) := by decide +kernel
theorem dL_law_320 : decode cL_law 320 = .ok (.iconst 1, 1) := by decide +kernel
theorem dL_law_321 : decode cL_law 321 = .ok (.iadd, 1) := by decide +kernel
theorem dL_law_322 : decode cL_law 322 = .ok (.iaload, 1) := by decide +kernel
theorem dL_law_323 : decode cL_law 323 = .ok (.invokevirtual 58, 3) := by decide +kernel
theorem dL_law_326 : decode cL_law 326 = .ok (.pop, 1) := by decide +kernel
theorem dL_law_327 : decode cL_law 327 = .ok (.aload_n 2, 1) := by decide +kernel
theorem dL_law_328 : decode cL_law 328 = .ok (.aload_n 0, 1) := by decide +kernel
theorem dL_law_329 : decode cL_law 329 = .ok (.iload 4, 2) := by decide +kernel
theorem dL_law_331 : decode cL_law 331 = .ok (.iconst 1, 1) := by decide +kernel
theorem dL_law_332 : decode cL_law 332 = .ok (.iadd, 1) := by decide +kernel
theorem dL_law_333 : decode cL_law 333 = .ok (.iaload, 1) := by decide +kernel
theorem dL_law_334 : decode cL_law 334 = .ok (.invokevirtual 61, 3) := by decide +kernel
theorem dL_law_337 : decode cL_law 337 = .ok (.pop, 1) := by decide +kernel
theorem dL_law_338 : decode cL_law 338 = .ok (.goto 84, 3) := by decide +kernel
theorem dL_law_341 : decode cL_law 341 = .ok (.aload_n 1, 1) := by decide +kernel
theorem dL_law_342 : decode cL_law 342 = .ok (.aload_n 0, 1) := by decide +kernel
theorem dL_law_343 : decode cL_law 343 = .ok (.iload 4, 2) := by decide +kernel
theorem dL_law_345 : decode cL_law 345 = .ok (.iconst 1, 1) := by decide +kernel
theorem dL_law_346 : decode cL_law 346 = .ok (.iadd, 1) := by decide +kernel
theorem dL_law_347 : decode cL_law 347 = .ok (.iaload, 1) := by decide +kernel
theorem dL_law_348 : decode cL_law 348 = .ok (.aload_n 0, 1) := by decide +kernel
theorem dL_law_349 : decode cL_law 349 = .ok (.iload 4, 2) := by decide +kernel
theorem dL_law_351 : decode cL_law 351 = .ok (.iconst 2, 1) := by decide +kernel
theorem dL_law_352 : decode cL_law 352 = .ok (.iadd, 1) := by decide +kernel
theorem dL_law_353 : decode cL_law 353 = .ok (.iaload, 1) := by decide +kernel
theorem dL_law_354 : decode cL_law 354 = .ok (.aload_n 3, 1) := by decide +kernel
theorem dL_law_355 : decode cL_law 355 = .ok (.invokestatic 62, 3) := by decide +kernel
theorem dL_law_358 : decode cL_law 358 = .ok (.istore 5, 2) := by decide +kernel
theorem dL_law_360 : decode cL_law 360 = .ok (.aload_n 2, 1) := by decide +kernel
theorem dL_law_361 : decode cL_law 361 = .ok (.aload_n 0, 1) := by decide +kernel
theorem dL_law_362 : decode cL_law 362 = .ok (.iload 4, 2) := by decide +kernel
theorem dL_law_364 : decode cL_law 364 = .ok (.iconst 1, 1) := by decide +kernel
theorem dL_law_365 : decode cL_law 365 = .ok (.iadd, 1) := by decide +kernel
theorem dL_law_366 : decode cL_law 366 = .ok (.iaload, 1) := by decide +kernel
theorem dL_law_367 : decode cL_law 367 = .ok (.aload_n 0, 1) := by decide +kernel
theorem dL_law_368 : decode cL_law 368 = .ok (.iload 4, 2) := by decide +kernel
theorem dL_law_370 : decode cL_law 370 = .ok (.iconst 2, 1) := by decide +kernel
theorem dL_law_371 : decode cL_law 371 = .ok (.iadd, 1) := by decide +kernel
theorem dL_law_372 : decode cL_law 372 = .ok (.iaload, 1) := by decide +kernel
theorem dL_law_373 : decode cL_law 373 = .ok (.invokevirtual 67, 3) := by decide +kernel
theorem dL_law_376 : decode cL_law 376 = .ok (.istore 6, 2) := by decide +kernel
theorem dL_law_378 : decode cL_law 378 = .ok (.goto 44, 3) := by decide +kernel
theorem dL_law_381 : decode cL_law 381 = .ok (.aload_n 1, 1) := by decide +kernel
theorem dL_law_382 : decode cL_law 382 = .ok (.aload_n 0, 1) := by decide +kernel
theorem dL_law_383 : decode cL_law 383 = .ok (.iload 4, 2) := by decide +kernel
theorem dL_law_385 : decode cL_law 385 = .ok (.iconst 1, 1) := by decide +kernel
theorem dL_law_386 : decode cL_law 386 = .ok (.iadd, 1) := by decide +kernel
theorem dL_law_387 : decode cL_law 387 = .ok (.iaload, 1) := by decide +kernel
theorem dL_law_388 : decode cL_law 388 = .ok (.aload_n 3, 1) := by decide +kernel
theorem dL_law_389 : decode cL_law 389 = .ok (.invokestatic 68, 3) := by decide +kernel
theorem dL_law_392 : decode cL_law 392 = .ok (.istore 5, 2) := by decide +kernel
theorem dL_law_394 : decode cL_law 394 = .ok (.aload_n 2, 1) := by decide +kernel
theorem dL_law_395 : decode cL_law 395 = .ok (.aload_n 0, 1) := by decide +kernel
theorem dL_law_396 : decode cL_law 396 = .ok (.iload 4, 2) := by decide +kernel
theorem dL_law_398 : decode cL_law 398 = .ok (.iconst 1, 1) := by decide +kernel
theorem dL_law_399 : decode cL_law 399 = .ok (.iadd, 1) := by decide +kernel
theorem dL_law_400 : decode cL_law 400 = .ok (.iaload, 1) := by decide +kernel
theorem dL_law_401 : decode cL_law 401 = .ok (.invokevirtual 71, 3) := by decide +kernel
theorem dL_law_404 : decode cL_law 404 = .ok (.istore 6, 2) := by decide +kernel
theorem dL_law_406 : decode cL_law 406 = .ok (.goto 16, 3) := by decide +kernel
theorem dL_law_409 : decode cL_law 409 = .ok (.aload_n 1, 1) := by decide +kernel
theorem dL_law_410 : decode cL_law 410 = .ok (.invokevirtual 72, 3) := by decide +kernel
theorem dL_law_413 : decode cL_law 413 = .ok (.pop, 1) := by decide +kernel
theorem dL_law_414 : decode cL_law 414 = .ok (.aload_n 2, 1) := by decide +kernel
theorem dL_law_415 : decode cL_law 415 = .ok (.invokevirtual 75, 3) := by decide +kernel
theorem dL_law_418 : decode cL_law 418 = .ok (.pop, 1) := by decide +kernel
theorem dL_law_419 : decode cL_law 419 = .ok (.goto 3, 3) := by decide +kernel
theorem dL_law_422 : decode cL_law 422 = .ok (.iinc 4 6, 3) := by decide +kernel
theorem dL_law_425 : decode cL_law 425 = .ok (.goto (-402), 3) := by decide +kernel
theorem dL_law_428 : decode cL_law 428 = .ok (.iconst 1, 1) := by decide +kernel
theorem dL_law_429 : decode cL_law 429 = .ok (.ireturn, 1) := by decide +kernel
theorem dL_outAt_0 : decode cL_outAt 0 = .ok (.aload_n 3, 1) := by decide +kernel
theorem dL_outAt_1 : decode cL_outAt 1 = .ok (.iconst 0, 1) := by decide +kernel
theorem dL_outAt_2 : decode cL_outAt 2 = .ok (.aload_n 0, 1) := by decide +kernel
theorem dL_outAt_3 : decode cL_outAt 3 = .ok (.iload_n 1, 1) := by decide +kernel
theorem dL_outAt_4 : decode cL_outAt 4 = .ok (.iload_n 2, 1) := by decide +kernel
theorem dL_outAt_5 : decode cL_outAt 5 = .ok (.invokevirtual 7, 3) := by decide +kernel
theorem dL_outAt_8 : decode cL_outAt 8 = .ok (.i2l, 1) := by decide +kernel
theorem dL_outAt_9 : decode cL_outAt 9 = .ok (.lastore, 1) := by decide +kernel
theorem dL_outAt_10 : decode cL_outAt 10 = .ok (.goto 7, 3) := by decide +kernel
theorem dL_outAt_13 : decode cL_outAt 13 = .ok (.astore 4, 2) := by decide +kernel
theorem dL_outAt_15 : decode cL_outAt 15 = .ok (.iconst 1, 1) := by decide +kernel
theorem dL_outAt_16 : decode cL_outAt 16 = .ok (.ireturn, 1) := by decide +kernel
theorem dL_outAt_17 : decode cL_outAt 17 = .ok (.iconst 0, 1) := by decide +kernel
theorem dL_outAt_18 : decode cL_outAt 18 = .ok (.ireturn, 1) := by decide +kernel
set_option maxHeartbeats 40000000 in
set_option maxRecDepth 100000 in
theorem hL_outAt (l : Launch) (d : gD) (b : Nat) {o z lc k n : Nat} {F : gM} {v0 : Value} {fs : List Value} (fo : F o = .inr (11, v0 :: fs)) {M Px : hU → Prop} {Pc : Int32 → hU → Prop} (a0 : Int32) (a1 : Int32) (C : hXi l d b yX11_outAt cX11_outAt 3 .int lc k n F [.ref o, .int a0, .int a1] Pc "java/util/NoSuchElementException" Px) (c1 : ∀ x u, Pc x u → M u) (c2 : ∀ u, Px u → M u) (hz : ∀ u, M u → ∃ f : Nat → Int64, u.1 z = .inl (gJ d, 1, .inr (.inl f))) (hM : ∀ (u : hU) (f : Nat → Int64), M u → M (va_up u.1 z (.inl (gJ d, 1, .inr (.inl f))), u.2)) : ∀ mc ms, Met l yL_outAt (.codeWith yL_outAt cL_outAt 5 (some .int) [(0, 10, 13, 13)] :: gWs) (gR (lc + 1) mc ms) (va_Pc [.ref o, .int a0, .int a1, .ref z] (hP d b F k n mc ms)) (va_Qi (fun _ u => M u) (hB d b) (fun q => b ≤ q)) mc ms (fun q => b ≤ q) := by
  intro mc ms
  refine hH_of2 rfl (nL := 5) (Nat.le_of_ble_eq_true rfl) ?_
  intro X hX hT hC hr ho; subst hX
  show hG X d b _ F k n 0 [some (.ref o), some (.int a0), some (.int a1), some (.ref z), none] []
  refine h_aload_n hC dL_outAt_0 rfl ?_
  refine h_iconst (v := 0) hC dL_outAt_1 rfl ?_
  refine h_aload_n hC dL_outAt_2 rfl ?_
  refine h_iload_n hC dL_outAt_3 rfl ?_
  refine h_iload_n hC dL_outAt_4 rfl ?_
  refine h_xcallVi (As := [.int a0, .int a1]) hC hr ho rfl fo C cl_L_7 rfl rfl (Nat.le_of_ble_eq_true rfl) (hFr_of (Nat.le_refl _) (by decide)) dL_outAt_5 (fun u1 p0 o1 => ?_) (fun r1 u1 p0 o1 => ?_)
  · have p1 := c2 _ p0
    refine h_xcatch (name := "java/util/NoSuchElementException") hC hT ⟨by decide, by decide⟩ (by decide) kw_1905 (by decide) (fun q => ?_)
    refine h_astore (lv' := [some (.ref o), some (.int a0), some (.int a1), some (.ref z), some (.ref q)]) hC dL_outAt_13 (Nat.le_of_ble_eq_true rfl) rfl rfl ?_
    refine h_iconst (v := 1) hC dL_outAt_15 rfl ?_
    exact h_iret hC hr o1 rfl rfl rfl p1 dL_outAt_16
  · have p1 := c1 _ _ p0
    obtain ⟨f, hf⟩ := hz _ p1
    refine h_i2l hC dL_outAt_8 ?_
    refine h_vl (fun x1 ex1 => ?_)
    refine h_last hC hf (vp_in_nI (n := 0) (by decide) (by decide)) dL_outAt_9 ?_
    refine h_vF (fun F3 h3 => ?_)
    refine h_goto (tgt := 17) hC dL_outAt_10 (by decide) ?_
    refine h_iconst (v := 0) hC dL_outAt_17 rfl ?_
    exact h_iret hC hr o1 rfl rfl rfl (by show M (F3, u1.2.1, u1.2.2); rw [h3]; exact hM u1 _ p1) dL_outAt_18
theorem cl_L_62 : gCSW RL 62 yL_outAt cL_outAt 5 (some .int) [(0, 10, 13, 13)] 4 := ⟨g_mk [.methodLink RL 62 yL_outAt, .static yL_outAt, .initialized yL_outAt.cls] (gWs_allW kw_1904) (List.forall_mem_cons.mpr ⟨kw_1902, List.forall_mem_cons.mpr ⟨kw_1903, List.forall_mem_cons.mpr ⟨kw_237, fun _ h => nomatch h⟩⟩⟩), by decide +kernel, by decide +kernel, by decide +kernel⟩
theorem dL_word_0 : decode cL_word 0 = .ok (.aload_n 2, 1) := by decide +kernel
theorem dL_word_1 : decode cL_word 1 = .ok (.iconst 0, 1) := by decide +kernel
theorem dL_word_2 : decode cL_word 2 = .ok (.aload_n 0, 1) := by decide +kernel
theorem dL_word_3 : decode cL_word 3 = .ok (.iload_n 1, 1) := by decide +kernel
theorem dL_word_4 : decode cL_word 4 = .ok (.invokevirtual 15, 3) := by decide +kernel
theorem dL_word_7 : decode cL_word 7 = .ok (.i2l, 1) := by decide +kernel
theorem dL_word_8 : decode cL_word 8 = .ok (.lastore, 1) := by decide +kernel
theorem dL_word_9 : decode cL_word 9 = .ok (.goto 6, 3) := by decide +kernel
theorem dL_word_12 : decode cL_word 12 = .ok (.astore_n 3, 1) := by decide +kernel
theorem dL_word_13 : decode cL_word 13 = .ok (.iconst 1, 1) := by decide +kernel
theorem dL_word_14 : decode cL_word 14 = .ok (.ireturn, 1) := by decide +kernel
theorem dL_word_15 : decode cL_word 15 = .ok (.iconst 0, 1) := by decide +kernel
theorem dL_word_16 : decode cL_word 16 = .ok (.ireturn, 1) := by decide +kernel
set_option maxHeartbeats 40000000 in
set_option maxRecDepth 100000 in
theorem hL_word (l : Launch) (d : gD) (b : Nat) {o z lc k n : Nat} {F : gM} {v0 : Value} {fs : List Value} (fo : F o = .inr (11, v0 :: fs)) {M Px : hU → Prop} {Pc : Int32 → hU → Prop} (a0 : Int32) (C : hXi l d b yX11_word cX11_word 2 .int lc k n F [.ref o, .int a0] Pc "java/util/NoSuchElementException" Px) (c1 : ∀ x u, Pc x u → M u) (c2 : ∀ u, Px u → M u) (hz : ∀ u, M u → ∃ f : Nat → Int64, u.1 z = .inl (gJ d, 1, .inr (.inl f))) (hM : ∀ (u : hU) (f : Nat → Int64), M u → M (va_up u.1 z (.inl (gJ d, 1, .inr (.inl f))), u.2)) : ∀ mc ms, Met l yL_word (.codeWith yL_word cL_word 4 (some .int) [(0, 9, 12, 13)] :: gWs) (gR (lc + 1) mc ms) (va_Pc [.ref o, .int a0, .ref z] (hP d b F k n mc ms)) (va_Qi (fun _ u => M u) (hB d b) (fun q => b ≤ q)) mc ms (fun q => b ≤ q) := by
  intro mc ms
  refine hH_of2 rfl (nL := 4) (Nat.le_of_ble_eq_true rfl) ?_
  intro X hX hT hC hr ho; subst hX
  show hG X d b _ F k n 0 [some (.ref o), some (.int a0), some (.ref z), none] []
  refine h_aload_n hC dL_word_0 rfl ?_
  refine h_iconst (v := 0) hC dL_word_1 rfl ?_
  refine h_aload_n hC dL_word_2 rfl ?_
  refine h_iload_n hC dL_word_3 rfl ?_
  refine h_xcallVi (As := [.int a0]) hC hr ho rfl fo C cl_L_15 rfl rfl (Nat.le_of_ble_eq_true rfl) (hFr_of (Nat.le_refl _) (by decide)) dL_word_4 (fun u1 p0 o1 => ?_) (fun r1 u1 p0 o1 => ?_)
  · have p1 := c2 _ p0
    refine h_xcatch (name := "java/util/NoSuchElementException") hC hT ⟨by decide, by decide⟩ (by decide) kw_1905 (by decide) (fun q => ?_)
    refine h_astore_n (lv' := [some (.ref o), some (.int a0), some (.ref z), some (.ref q)]) hC dL_word_12 (Nat.le_of_ble_eq_true rfl) rfl rfl ?_
    refine h_iconst (v := 1) hC dL_word_13 rfl ?_
    exact h_iret hC hr o1 rfl rfl rfl p1 dL_word_14
  · have p1 := c1 _ _ p0
    obtain ⟨f, hf⟩ := hz _ p1
    refine h_i2l hC dL_word_7 ?_
    refine h_vl (fun x1 ex1 => ?_)
    refine h_last hC hf (vp_in_nI (n := 0) (by decide) (by decide)) dL_word_8 ?_
    refine h_vF (fun F3 h3 => ?_)
    refine h_goto (tgt := 15) hC dL_word_9 (by decide) ?_
    refine h_iconst (v := 0) hC dL_word_15 rfl ?_
    exact h_iret hC hr o1 rfl rfl rfl (by show M (F3, u1.2.1, u1.2.2); rw [h3]; exact hM u1 _ p1) dL_word_16
theorem cl_L_68 : gCSW RL 68 yL_word cL_word 4 (some .int) [(0, 9, 12, 13)] 3 := ⟨g_mk [.methodLink RL 68 yL_word, .static yL_word, .initialized yL_word.cls] (gWs_allW kw_1937) (List.forall_mem_cons.mpr ⟨kw_1935, List.forall_mem_cons.mpr ⟨kw_1936, List.forall_mem_cons.mpr ⟨kw_237, fun _ h => nomatch h⟩⟩⟩), by decide +kernel, by decide +kernel, by decide +kernel⟩
