theorem kw_264 : Cond.classLink RL 8 RX11 ∈ gWs := gWm 264 (by decide +kernel) rfl
theorem kw_265 : Cond.instantiable RX11 10 ∈ gWs := gWm 265 (by decide +kernel) rfl
theorem nl_L_8 : gNL RL 8 11 10 [.null, .null, .null, .null, .null, .null, .null, .null, .int 0, .int 0] := ⟨RX11, TX11, tyX11, rfl, inW_RX11, tyX11_ok, kw_264, kw_265, kw_238, by decide +kernel⟩
theorem kw_268 : Cond.code yX11_init cX11_init 1 none ∈ gWs := gWm 268 (by decide +kernel) rfl
theorem kw_266 : Cond.methodLink RL 19 yX11_init ∈ gWs := gWm 266 (by decide +kernel) rfl
theorem kw_267 : Cond.instanceMethod yX11_init ∈ gWs := gWm 267 (by decide +kernel) rfl
theorem cl_L_19 : gCI RL 19 yX11_init cX11_init 1 0 := ⟨gWs_all kw_268, kw_238, kw_266, kw_267, rfl, ⟨by decide +kernel, by decide +kernel, by decide +kernel⟩⟩
theorem kw_1946 : Cond.classLink RL 20 RX12 ∈ gWs := gWm 1946 (by decide +kernel) rfl
theorem kw_1947 : Cond.instantiable RX12 119 ∈ gWs := gWm 1947 (by decide +kernel) rfl
theorem nl_L_20 : gNL RL 20 12 119 [.int 0, .null, .int 0, .null, .int 0, .int 0, .null, .null, .int 0, .null, .null, .null, .int 0, .int 0, .null, .int 0, .null, .null, .int 0, .int 0, .int 0, .int 0, .int 0, .int 0, .int 0, .null, .null, .null, .null, .null, .null, .null, .null, .null, .null, .null, .null, .int 0, .int 0, .null, .null, .null, .null, .int 0, .int 0, .int 0, .null, .null, .int 0, .int 0, .null, .null, .null, .null, .null, .int 0, .null, .null, .int 0, .int 0, .null, .null, .null, .int 0, .null, .null, .null, .int 0, .null, .int 0, .null, .null, .null, .int 0, .int 0, .int 0, .int 0, .int 0, .int 0, .int 0, .int 0, .int 0, .int 0, .int 0, .int 0, .null, .null, .int 0, .null, .null, .null, .int 0, .null, .null, .null, .int 0, .int 0, .int 0, .null, .int 0, .int 0, .int 0, .int 0, .int 0, .int 0, .int 0, .int 0, .null, .null, .null, .null, .null, .null, .null, .int 0, .null, .null, .int 0, .null] := ⟨RX12, TX12, tyX12, rfl, inW_RX12, tyX12_ok, kw_1946, kw_1947, kw_257, by decide +kernel⟩
theorem gMt8 : ∀ w ∈ tables_1_8, w ∈ lw_tbl := fun w h => List.mem_append_right _ (List.mem_append_right _ (List.mem_append_right _ (List.mem_append_right _ (List.mem_append_right _ (List.mem_append_right _ (List.mem_append_right _ (List.mem_append_right _ (List.mem_append_left _ h))))))))
theorem kw_1950 : Cond.code yX12_init cX12_init 1 none ∈ gWs := List.mem_filter.mpr ⟨gMt8 _ (List.mem_of_getElem? (i := 33) rfl), rfl⟩
theorem kw_1948 : Cond.methodLink RL 22 yX12_init ∈ gWs := gWm 1948 (by decide +kernel) rfl
theorem kw_1949 : Cond.instanceMethod yX12_init ∈ gWs := gWm 1949 (by decide +kernel) rfl
theorem cl_L_22 : gCI RL 22 yX12_init cX12_init 1 0 := ⟨gWs_all kw_1950, kw_257, kw_1948, kw_1949, rfl, ⟨by decide +kernel, by decide +kernel, by decide +kernel⟩⟩
theorem kw_2948 : Cond.arrayClass .long ∈ gWs := gWm 2948 (by decide +kernel) rfl
theorem kw_833 : Cond.code yX11_feed cX11_feed 6 (some .boolean) ∈ gWs := gWm 833 (by decide +kernel) rfl
theorem kw_830 : Cond.methodLink RL 23 yX11_feed ∈ gWs := gWm 830 (by decide +kernel) rfl
theorem kw_831 : Cond.instanceMethod yX11_feed ∈ gWs := gWm 831 (by decide +kernel) rfl
theorem kw_832 : Cond.selects RX11 yX11_feed yX11_feed ∈ gWs := gWm 832 (by decide +kernel) rfl
theorem cl_L_23 : gCV RL 23 yX11_feed cX11_feed 6 (some .boolean) 5 := ⟨g_mk [.methodLink RL 23 yX11_feed, .instanceMethod yX11_feed, .selects yX11_feed.cls yX11_feed yX11_feed, .initialized yX11_feed.cls] (gWs_all kw_833) (List.forall_mem_cons.mpr ⟨kw_830, List.forall_mem_cons.mpr ⟨kw_831, List.forall_mem_cons.mpr ⟨kw_832, List.forall_mem_cons.mpr ⟨kw_238, fun _ h => nomatch h⟩⟩⟩⟩), rfl, by decide +kernel, by decide +kernel, by decide +kernel⟩
theorem kw_2322 : Cond.code yX12_feed cX12_feed 8 (some .boolean) ∈ gWs := gWm 2322 (by decide +kernel) rfl
theorem kw_2319 : Cond.methodLink RL 27 yX12_feed ∈ gWs := gWm 2319 (by decide +kernel) rfl
theorem kw_2320 : Cond.instanceMethod yX12_feed ∈ gWs := gWm 2320 (by decide +kernel) rfl
theorem kw_2321 : Cond.selects RX12 yX12_feed yX12_feed ∈ gWs := gWm 2321 (by decide +kernel) rfl
theorem cl_L_27 : gCV RL 27 yX12_feed cX12_feed 8 (some .boolean) 5 := ⟨g_mk [.methodLink RL 27 yX12_feed, .instanceMethod yX12_feed, .selects yX12_feed.cls yX12_feed yX12_feed, .initialized yX12_feed.cls] (gWs_all kw_2322) (List.forall_mem_cons.mpr ⟨kw_2319, List.forall_mem_cons.mpr ⟨kw_2320, List.forall_mem_cons.mpr ⟨kw_2321, List.forall_mem_cons.mpr ⟨kw_257, fun _ h => nomatch h⟩⟩⟩⟩), rfl, by decide +kernel, by decide +kernel, by decide +kernel⟩
theorem kw_843 : Cond.code yX11_end cX11_end 2 (some .boolean) ∈ gWs := gWm 843 (by decide +kernel) rfl
theorem kw_840 : Cond.methodLink RL 28 yX11_end ∈ gWs := gWm 840 (by decide +kernel) rfl
theorem kw_841 : Cond.instanceMethod yX11_end ∈ gWs := gWm 841 (by decide +kernel) rfl
theorem kw_842 : Cond.selects RX11 yX11_end yX11_end ∈ gWs := gWm 842 (by decide +kernel) rfl
theorem cl_L_28 : gCV RL 28 yX11_end cX11_end 2 (some .boolean) 1 := ⟨g_mk [.methodLink RL 28 yX11_end, .instanceMethod yX11_end, .selects yX11_end.cls yX11_end yX11_end, .initialized yX11_end.cls] (gWs_all kw_843) (List.forall_mem_cons.mpr ⟨kw_840, List.forall_mem_cons.mpr ⟨kw_841, List.forall_mem_cons.mpr ⟨kw_842, List.forall_mem_cons.mpr ⟨kw_238, fun _ h => nomatch h⟩⟩⟩⟩), rfl, by decide +kernel, by decide +kernel, by decide +kernel⟩
theorem kw_2326 : Cond.code yX12_end cX12_end 2 (some .boolean) ∈ gWs := gWm 2326 (by decide +kernel) rfl
theorem kw_2323 : Cond.methodLink RL 32 yX12_end ∈ gWs := gWm 2323 (by decide +kernel) rfl
theorem kw_2324 : Cond.instanceMethod yX12_end ∈ gWs := gWm 2324 (by decide +kernel) rfl
theorem kw_2325 : Cond.selects RX12 yX12_end yX12_end ∈ gWs := gWm 2325 (by decide +kernel) rfl
theorem cl_L_32 : gCV RL 32 yX12_end cX12_end 2 (some .boolean) 1 := ⟨g_mk [.methodLink RL 32 yX12_end, .instanceMethod yX12_end, .selects yX12_end.cls yX12_end yX12_end, .initialized yX12_end.cls] (gWs_all kw_2326) (List.forall_mem_cons.mpr ⟨kw_2323, List.forall_mem_cons.mpr ⟨kw_2324, List.forall_mem_cons.mpr ⟨kw_2325, List.forall_mem_cons.mpr ⟨kw_257, fun _ h => nomatch h⟩⟩⟩⟩), rfl, by decide +kernel, by decide +kernel, by decide +kernel⟩
theorem kw_848 : Cond.code yX11_compile cX11_compile 1 (some .int) ∈ gWs := gWm 848 (by decide +kernel) rfl
theorem kw_845 : Cond.methodLink RL 33 yX11_compile ∈ gWs := gWm 845 (by decide +kernel) rfl
theorem kw_846 : Cond.instanceMethod yX11_compile ∈ gWs := gWm 846 (by decide +kernel) rfl
theorem kw_847 : Cond.selects RX11 yX11_compile yX11_compile ∈ gWs := gWm 847 (by decide +kernel) rfl
theorem cl_L_33 : gCV RL 33 yX11_compile cX11_compile 1 (some .int) 0 := ⟨g_mk [.methodLink RL 33 yX11_compile, .instanceMethod yX11_compile, .selects yX11_compile.cls yX11_compile yX11_compile, .initialized yX11_compile.cls] (gWs_all kw_848) (List.forall_mem_cons.mpr ⟨kw_845, List.forall_mem_cons.mpr ⟨kw_846, List.forall_mem_cons.mpr ⟨kw_847, List.forall_mem_cons.mpr ⟨kw_238, fun _ h => nomatch h⟩⟩⟩⟩), rfl, by decide +kernel, by decide +kernel, by decide +kernel⟩
theorem kw_2330 : Cond.code yX12_compile cX12_compile 2 (some .int) ∈ gWs := gWm 2330 (by decide +kernel) rfl
theorem kw_2327 : Cond.methodLink RL 37 yX12_compile ∈ gWs := gWm 2327 (by decide +kernel) rfl
theorem kw_2328 : Cond.instanceMethod yX12_compile ∈ gWs := gWm 2328 (by decide +kernel) rfl
theorem kw_2329 : Cond.selects RX12 yX12_compile yX12_compile ∈ gWs := gWm 2329 (by decide +kernel) rfl
theorem cl_L_37 : gCV RL 37 yX12_compile cX12_compile 2 (some .int) 0 := ⟨g_mk [.methodLink RL 37 yX12_compile, .instanceMethod yX12_compile, .selects yX12_compile.cls yX12_compile yX12_compile, .initialized yX12_compile.cls] (gWs_all kw_2330) (List.forall_mem_cons.mpr ⟨kw_2327, List.forall_mem_cons.mpr ⟨kw_2328, List.forall_mem_cons.mpr ⟨kw_2329, List.forall_mem_cons.mpr ⟨kw_257, fun _ h => nomatch h⟩⟩⟩⟩), rfl, by decide +kernel, by decide +kernel, by decide +kernel⟩
theorem kw_1597 : Cond.code yX11_fault cX11_fault 1 (some .int) ∈ gWs := gWm 1597 (by decide +kernel) rfl
theorem kw_1594 : Cond.methodLink RL 38 yX11_fault ∈ gWs := gWm 1594 (by decide +kernel) rfl
theorem kw_1595 : Cond.instanceMethod yX11_fault ∈ gWs := gWm 1595 (by decide +kernel) rfl
theorem kw_1596 : Cond.selects RX11 yX11_fault yX11_fault ∈ gWs := gWm 1596 (by decide +kernel) rfl
theorem cl_L_38 : gCV RL 38 yX11_fault cX11_fault 1 (some .int) 0 := ⟨g_mk [.methodLink RL 38 yX11_fault, .instanceMethod yX11_fault, .selects yX11_fault.cls yX11_fault yX11_fault, .initialized yX11_fault.cls] (gWs_all kw_1597) (List.forall_mem_cons.mpr ⟨kw_1594, List.forall_mem_cons.mpr ⟨kw_1595, List.forall_mem_cons.mpr ⟨kw_1596, List.forall_mem_cons.mpr ⟨kw_238, fun _ h => nomatch h⟩⟩⟩⟩), rfl, by decide +kernel, by decide +kernel, by decide +kernel⟩
theorem kw_2744 : Cond.code yX12_fault_ cX12_fault_ 1 (some .int) ∈ gWs := gWm 2744 (by decide +kernel) rfl
theorem kw_2741 : Cond.methodLink RL 41 yX12_fault_ ∈ gWs := gWm 2741 (by decide +kernel) rfl
theorem kw_2742 : Cond.instanceMethod yX12_fault_ ∈ gWs := gWm 2742 (by decide +kernel) rfl
theorem kw_2743 : Cond.selects RX12 yX12_fault_ yX12_fault_ ∈ gWs := gWm 2743 (by decide +kernel) rfl
theorem cl_L_41 : gCV RL 41 yX12_fault_ cX12_fault_ 1 (some .int) 0 := ⟨g_mk [.methodLink RL 41 yX12_fault_, .instanceMethod yX12_fault_, .selects yX12_fault_.cls yX12_fault_ yX12_fault_, .initialized yX12_fault_.cls] (gWs_all kw_2744) (List.forall_mem_cons.mpr ⟨kw_2741, List.forall_mem_cons.mpr ⟨kw_2742, List.forall_mem_cons.mpr ⟨kw_2743, List.forall_mem_cons.mpr ⟨kw_257, fun _ h => nomatch h⟩⟩⟩⟩), rfl, by decide +kernel, by decide +kernel, by decide +kernel⟩
theorem kw_1601 : Cond.code yX11_store cX11_store 2 (some .boolean) ∈ gWs := gWm 1601 (by decide +kernel) rfl
theorem kw_1598 : Cond.methodLink RL 42 yX11_store ∈ gWs := gWm 1598 (by decide +kernel) rfl
theorem kw_1599 : Cond.instanceMethod yX11_store ∈ gWs := gWm 1599 (by decide +kernel) rfl
theorem kw_1600 : Cond.selects RX11 yX11_store yX11_store ∈ gWs := gWm 1600 (by decide +kernel) rfl
theorem cl_L_42 : gCV RL 42 yX11_store cX11_store 2 (some .boolean) 1 := ⟨g_mk [.methodLink RL 42 yX11_store, .instanceMethod yX11_store, .selects yX11_store.cls yX11_store yX11_store, .initialized yX11_store.cls] (gWs_all kw_1601) (List.forall_mem_cons.mpr ⟨kw_1598, List.forall_mem_cons.mpr ⟨kw_1599, List.forall_mem_cons.mpr ⟨kw_1600, List.forall_mem_cons.mpr ⟨kw_238, fun _ h => nomatch h⟩⟩⟩⟩), rfl, by decide +kernel, by decide +kernel, by decide +kernel⟩
theorem kw_2748 : Cond.code yX12_store cX12_store 2 (some .boolean) ∈ gWs := gWm 2748 (by decide +kernel) rfl
theorem kw_2745 : Cond.methodLink RL 45 yX12_store ∈ gWs := gWm 2745 (by decide +kernel) rfl
theorem kw_2746 : Cond.instanceMethod yX12_store ∈ gWs := gWm 2746 (by decide +kernel) rfl
theorem kw_2747 : Cond.selects RX12 yX12_store yX12_store ∈ gWs := gWm 2747 (by decide +kernel) rfl
theorem cl_L_45 : gCV RL 45 yX12_store cX12_store 2 (some .boolean) 1 := ⟨g_mk [.methodLink RL 45 yX12_store, .instanceMethod yX12_store, .selects yX12_store.cls yX12_store yX12_store, .initialized yX12_store.cls] (gWs_all kw_2748) (List.forall_mem_cons.mpr ⟨kw_2745, List.forall_mem_cons.mpr ⟨kw_2746, List.forall_mem_cons.mpr ⟨kw_2747, List.forall_mem_cons.mpr ⟨kw_257, fun _ h => nomatch h⟩⟩⟩⟩), rfl, by decide +kernel, by decide +kernel, by decide +kernel⟩
theorem kw_1612 : Cond.code yX11_input cX11_input 3 (some .int) ∈ gWs := gWm 1612 (by decide +kernel) rfl
theorem kw_1609 : Cond.methodLink RL 46 yX11_input ∈ gWs := gWm 1609 (by decide +kernel) rfl
theorem kw_1610 : Cond.instanceMethod yX11_input ∈ gWs := gWm 1610 (by decide +kernel) rfl
theorem kw_1611 : Cond.selects RX11 yX11_input yX11_input ∈ gWs := gWm 1611 (by decide +kernel) rfl
theorem cl_L_46 : gCV RL 46 yX11_input cX11_input 3 (some .int) 1 := ⟨g_mk [.methodLink RL 46 yX11_input, .instanceMethod yX11_input, .selects yX11_input.cls yX11_input yX11_input, .initialized yX11_input.cls] (gWs_all kw_1612) (List.forall_mem_cons.mpr ⟨kw_1609, List.forall_mem_cons.mpr ⟨kw_1610, List.forall_mem_cons.mpr ⟨kw_1611, List.forall_mem_cons.mpr ⟨kw_238, fun _ h => nomatch h⟩⟩⟩⟩), rfl, by decide +kernel, by decide +kernel, by decide +kernel⟩
theorem kw_2753 : Cond.code yX12_input cX12_input 4 (some .int) ∈ gWs := gWm 2753 (by decide +kernel) rfl
theorem kw_2750 : Cond.methodLink RL 49 yX12_input ∈ gWs := gWm 2750 (by decide +kernel) rfl
theorem kw_2751 : Cond.instanceMethod yX12_input ∈ gWs := gWm 2751 (by decide +kernel) rfl
theorem kw_2752 : Cond.selects RX12 yX12_input yX12_input ∈ gWs := gWm 2752 (by decide +kernel) rfl
theorem cl_L_49 : gCV RL 49 yX12_input cX12_input 4 (some .int) 1 := ⟨g_mk [.methodLink RL 49 yX12_input, .instanceMethod yX12_input, .selects yX12_input.cls yX12_input yX12_input, .initialized yX12_input.cls] (gWs_all kw_2753) (List.forall_mem_cons.mpr ⟨kw_2750, List.forall_mem_cons.mpr ⟨kw_2751, List.forall_mem_cons.mpr ⟨kw_2752, List.forall_mem_cons.mpr ⟨kw_257, fun _ h => nomatch h⟩⟩⟩⟩), rfl, by decide +kernel, by decide +kernel, by decide +kernel⟩
theorem kw_1632 : Cond.code yX11_run cX11_run 2 (some .int) ∈ gWs := gWm 1632 (by decide +kernel) rfl
theorem kw_1629 : Cond.methodLink RL 50 yX11_run ∈ gWs := gWm 1629 (by decide +kernel) rfl
theorem kw_1630 : Cond.instanceMethod yX11_run ∈ gWs := gWm 1630 (by decide +kernel) rfl
theorem kw_1631 : Cond.selects RX11 yX11_run yX11_run ∈ gWs := gWm 1631 (by decide +kernel) rfl
theorem cl_L_50 : gCV RL 50 yX11_run cX11_run 2 (some .int) 1 := ⟨g_mk [.methodLink RL 50 yX11_run, .instanceMethod yX11_run, .selects yX11_run.cls yX11_run yX11_run, .initialized yX11_run.cls] (gWs_all kw_1632) (List.forall_mem_cons.mpr ⟨kw_1629, List.forall_mem_cons.mpr ⟨kw_1630, List.forall_mem_cons.mpr ⟨kw_1631, List.forall_mem_cons.mpr ⟨kw_238, fun _ h => nomatch h⟩⟩⟩⟩), rfl, by decide +kernel, by decide +kernel, by decide +kernel⟩
theorem kw_2764 : Cond.code yX12_run cX12_run 3 (some .int) ∈ gWs := gWm 2764 (by decide +kernel) rfl
theorem kw_2761 : Cond.methodLink RL 53 yX12_run ∈ gWs := gWm 2761 (by decide +kernel) rfl
theorem kw_2762 : Cond.instanceMethod yX12_run ∈ gWs := gWm 2762 (by decide +kernel) rfl
theorem kw_2763 : Cond.selects RX12 yX12_run yX12_run ∈ gWs := gWm 2763 (by decide +kernel) rfl
theorem cl_L_53 : gCV RL 53 yX12_run cX12_run 3 (some .int) 1 := ⟨g_mk [.methodLink RL 53 yX12_run, .instanceMethod yX12_run, .selects yX12_run.cls yX12_run yX12_run, .initialized yX12_run.cls] (gWs_all kw_2764) (List.forall_mem_cons.mpr ⟨kw_2761, List.forall_mem_cons.mpr ⟨kw_2762, List.forall_mem_cons.mpr ⟨kw_2763, List.forall_mem_cons.mpr ⟨kw_257, fun _ h => nomatch h⟩⟩⟩⟩), rfl, by decide +kernel, by decide +kernel, by decide +kernel⟩
theorem kw_1881 : Cond.code yX11_value cX11_value 1 (some .int) ∈ gWs := gWm 1881 (by decide +kernel) rfl
theorem kw_1878 : Cond.methodLink RL 54 yX11_value ∈ gWs := gWm 1878 (by decide +kernel) rfl
theorem kw_1879 : Cond.instanceMethod yX11_value ∈ gWs := gWm 1879 (by decide +kernel) rfl
theorem kw_1880 : Cond.selects RX11 yX11_value yX11_value ∈ gWs := gWm 1880 (by decide +kernel) rfl
theorem cl_L_54 : gCV RL 54 yX11_value cX11_value 1 (some .int) 0 := ⟨g_mk [.methodLink RL 54 yX11_value, .instanceMethod yX11_value, .selects yX11_value.cls yX11_value yX11_value, .initialized yX11_value.cls] (gWs_all kw_1881) (List.forall_mem_cons.mpr ⟨kw_1878, List.forall_mem_cons.mpr ⟨kw_1879, List.forall_mem_cons.mpr ⟨kw_1880, List.forall_mem_cons.mpr ⟨kw_238, fun _ h => nomatch h⟩⟩⟩⟩), rfl, by decide +kernel, by decide +kernel, by decide +kernel⟩
theorem kw_2931 : Cond.code yX12_value cX12_value 1 (some .int) ∈ gWs := gWm 2931 (by decide +kernel) rfl
theorem kw_2928 : Cond.methodLink RL 57 yX12_value ∈ gWs := gWm 2928 (by decide +kernel) rfl
theorem kw_2929 : Cond.instanceMethod yX12_value ∈ gWs := gWm 2929 (by decide +kernel) rfl
theorem kw_2930 : Cond.selects RX12 yX12_value yX12_value ∈ gWs := gWm 2930 (by decide +kernel) rfl
theorem cl_L_57 : gCV RL 57 yX12_value cX12_value 1 (some .int) 0 := ⟨g_mk [.methodLink RL 57 yX12_value, .instanceMethod yX12_value, .selects yX12_value.cls yX12_value yX12_value, .initialized yX12_value.cls] (gWs_all kw_2931) (List.forall_mem_cons.mpr ⟨kw_2928, List.forall_mem_cons.mpr ⟨kw_2929, List.forall_mem_cons.mpr ⟨kw_2930, List.forall_mem_cons.mpr ⟨kw_257, fun _ h => nomatch h⟩⟩⟩⟩), rfl, by decide +kernel, by decide +kernel, by decide +kernel⟩
theorem kw_1889 : Cond.code yX11_out cX11_out 2 (some .int) ∈ gWs := gWm 1889 (by decide +kernel) rfl
theorem kw_1886 : Cond.methodLink RL 58 yX11_out ∈ gWs := gWm 1886 (by decide +kernel) rfl
theorem kw_1887 : Cond.instanceMethod yX11_out ∈ gWs := gWm 1887 (by decide +kernel) rfl
theorem kw_1888 : Cond.selects RX11 yX11_out yX11_out ∈ gWs := gWm 1888 (by decide +kernel) rfl
theorem cl_L_58 : gCV RL 58 yX11_out cX11_out 2 (some .int) 1 := ⟨g_mk [.methodLink RL 58 yX11_out, .instanceMethod yX11_out, .selects yX11_out.cls yX11_out yX11_out, .initialized yX11_out.cls] (gWs_all kw_1889) (List.forall_mem_cons.mpr ⟨kw_1886, List.forall_mem_cons.mpr ⟨kw_1887, List.forall_mem_cons.mpr ⟨kw_1888, List.forall_mem_cons.mpr ⟨kw_238, fun _ h => nomatch h⟩⟩⟩⟩), rfl, by decide +kernel, by decide +kernel, by decide +kernel⟩
theorem kw_2935 : Cond.code yX12_out cX12_out 2 (some .int) ∈ gWs := gWm 2935 (by decide +kernel) rfl
theorem kw_2932 : Cond.methodLink RL 61 yX12_out ∈ gWs := gWm 2932 (by decide +kernel) rfl
theorem kw_2933 : Cond.instanceMethod yX12_out ∈ gWs := gWm 2933 (by decide +kernel) rfl
theorem kw_2934 : Cond.selects RX12 yX12_out yX12_out ∈ gWs := gWm 2934 (by decide +kernel) rfl
theorem cl_L_61 : gCV RL 61 yX12_out cX12_out 2 (some .int) 1 := ⟨g_mk [.methodLink RL 61 yX12_out, .instanceMethod yX12_out, .selects yX12_out.cls yX12_out yX12_out, .initialized yX12_out.cls] (gWs_all kw_2935) (List.forall_mem_cons.mpr ⟨kw_2932, List.forall_mem_cons.mpr ⟨kw_2933, List.forall_mem_cons.mpr ⟨kw_2934, List.forall_mem_cons.mpr ⟨kw_257, fun _ h => nomatch h⟩⟩⟩⟩), rfl, by decide +kernel, by decide +kernel, by decide +kernel⟩
theorem kw_2939 : Cond.code yX12_outAt cX12_outAt 3 (some .int) ∈ gWs := gWm 2939 (by decide +kernel) rfl
theorem kw_2936 : Cond.methodLink RL 67 yX12_outAt ∈ gWs := gWm 2936 (by decide +kernel) rfl
theorem kw_2937 : Cond.instanceMethod yX12_outAt ∈ gWs := gWm 2937 (by decide +kernel) rfl
theorem kw_2938 : Cond.selects RX12 yX12_outAt yX12_outAt ∈ gWs := gWm 2938 (by decide +kernel) rfl
theorem cl_L_67 : gCV RL 67 yX12_outAt cX12_outAt 3 (some .int) 2 := ⟨g_mk [.methodLink RL 67 yX12_outAt, .instanceMethod yX12_outAt, .selects yX12_outAt.cls yX12_outAt yX12_outAt, .initialized yX12_outAt.cls] (gWs_all kw_2939) (List.forall_mem_cons.mpr ⟨kw_2936, List.forall_mem_cons.mpr ⟨kw_2937, List.forall_mem_cons.mpr ⟨kw_2938, List.forall_mem_cons.mpr ⟨kw_257, fun _ h => nomatch h⟩⟩⟩⟩), rfl, by decide +kernel, by decide +kernel, by decide +kernel⟩
theorem kw_2318 : Cond.code yX12_thrown cX12_thrown 1 (some .int) ∈ gWs := gWm 2318 (by decide +kernel) rfl
theorem kw_2315 : Cond.methodLink RL 68 yX12_thrown ∈ gWs := gWm 2315 (by decide +kernel) rfl
theorem kw_2316 : Cond.instanceMethod yX12_thrown ∈ gWs := gWm 2316 (by decide +kernel) rfl
theorem kw_2317 : Cond.selects RX12 yX12_thrown yX12_thrown ∈ gWs := gWm 2317 (by decide +kernel) rfl
theorem cl_L_68 : gCV RL 68 yX12_thrown cX12_thrown 1 (some .int) 0 := ⟨g_mk [.methodLink RL 68 yX12_thrown, .instanceMethod yX12_thrown, .selects yX12_thrown.cls yX12_thrown yX12_thrown, .initialized yX12_thrown.cls] (gWs_all kw_2318) (List.forall_mem_cons.mpr ⟨kw_2315, List.forall_mem_cons.mpr ⟨kw_2316, List.forall_mem_cons.mpr ⟨kw_2317, List.forall_mem_cons.mpr ⟨kw_257, fun _ h => nomatch h⟩⟩⟩⟩), rfl, by decide +kernel, by decide +kernel, by decide +kernel⟩
theorem kw_2943 : Cond.code yX12_word cX12_word 2 (some .int) ∈ gWs := gWm 2943 (by decide +kernel) rfl
theorem kw_2940 : Cond.methodLink RL 74 yX12_word ∈ gWs := gWm 2940 (by decide +kernel) rfl
theorem kw_2941 : Cond.instanceMethod yX12_word ∈ gWs := gWm 2941 (by decide +kernel) rfl
theorem kw_2942 : Cond.selects RX12 yX12_word yX12_word ∈ gWs := gWm 2942 (by decide +kernel) rfl
theorem cl_L_74 : gCV RL 74 yX12_word cX12_word 2 (some .int) 1 := ⟨g_mk [.methodLink RL 74 yX12_word, .instanceMethod yX12_word, .selects yX12_word.cls yX12_word yX12_word, .initialized yX12_word.cls] (gWs_all kw_2943) (List.forall_mem_cons.mpr ⟨kw_2940, List.forall_mem_cons.mpr ⟨kw_2941, List.forall_mem_cons.mpr ⟨kw_2942, List.forall_mem_cons.mpr ⟨kw_257, fun _ h => nomatch h⟩⟩⟩⟩), rfl, by decide +kernel, by decide +kernel, by decide +kernel⟩
theorem kw_1897 : Cond.code yX11_fuel cX11_fuel 1 (some .int) ∈ gWs := gWm 1897 (by decide +kernel) rfl
theorem kw_1894 : Cond.methodLink RL 75 yX11_fuel ∈ gWs := gWm 1894 (by decide +kernel) rfl
theorem kw_1895 : Cond.instanceMethod yX11_fuel ∈ gWs := gWm 1895 (by decide +kernel) rfl
theorem kw_1896 : Cond.selects RX11 yX11_fuel yX11_fuel ∈ gWs := gWm 1896 (by decide +kernel) rfl
theorem cl_L_75 : gCV RL 75 yX11_fuel cX11_fuel 1 (some .int) 0 := ⟨g_mk [.methodLink RL 75 yX11_fuel, .instanceMethod yX11_fuel, .selects yX11_fuel.cls yX11_fuel yX11_fuel, .initialized yX11_fuel.cls] (gWs_all kw_1897) (List.forall_mem_cons.mpr ⟨kw_1894, List.forall_mem_cons.mpr ⟨kw_1895, List.forall_mem_cons.mpr ⟨kw_1896, List.forall_mem_cons.mpr ⟨kw_238, fun _ h => nomatch h⟩⟩⟩⟩), rfl, by decide +kernel, by decide +kernel, by decide +kernel⟩
theorem kw_2947 : Cond.code yX12_fuel cX12_fuel 1 (some .int) ∈ gWs := gWm 2947 (by decide +kernel) rfl
theorem kw_2944 : Cond.methodLink RL 78 yX12_fuel ∈ gWs := gWm 2944 (by decide +kernel) rfl
theorem kw_2945 : Cond.instanceMethod yX12_fuel ∈ gWs := gWm 2945 (by decide +kernel) rfl
theorem kw_2946 : Cond.selects RX12 yX12_fuel yX12_fuel ∈ gWs := gWm 2946 (by decide +kernel) rfl
theorem cl_L_78 : gCV RL 78 yX12_fuel cX12_fuel 1 (some .int) 0 := ⟨g_mk [.methodLink RL 78 yX12_fuel, .instanceMethod yX12_fuel, .selects yX12_fuel.cls yX12_fuel yX12_fuel, .initialized yX12_fuel.cls] (gWs_all kw_2947) (List.forall_mem_cons.mpr ⟨kw_2944, List.forall_mem_cons.mpr ⟨kw_2945, List.forall_mem_cons.mpr ⟨kw_2946, List.forall_mem_cons.mpr ⟨kw_257, fun _ h => nomatch h⟩⟩⟩⟩), rfl, by decide +kernel, by decide +kernel, by decide +kernel⟩
theorem g43a {i : Int32} (h : ¬ nI 4 ≤ i) : i ≤ 3 := by
  rw [Int32.le_iff_toInt_le] at *
  have b : (nI 4).toInt = 4 := by decide
  have c : (3 : Int32).toInt = 3 := by decide
  omega
theorem g43b {i : Int32} (h : nI 4 ≤ i) : ¬ i ≤ 3 := by
  rw [Int32.le_iff_toInt_le] at *
  have b : (nI 4).toInt = 4 := by decide
  have c : (3 : Int32).toInt = 3 := by decide
  omega
theorem g21b {i : Int32} (h : ¬ i ≤ 1) : nI 2 ≤ i := by
  rw [Int32.le_iff_toInt_le] at *
  have b : (nI 2).toInt = 2 := by decide
  have c : (1 : Int32).toInt = 1 := by decide
  omega
theorem dL_law_0 : decode cL_law 0 = .ok (.new 8, 3) := by decide +kernel
theorem dL_law_3 : decode cL_law 3 = .ok (.dup, 1) := by decide +kernel
theorem dL_law_4 : decode cL_law 4 = .ok (.invokespecial 19, 3) := by decide +kernel
theorem dL_law_7 : decode cL_law 7 = .ok (.astore_n 1, 1) := by decide +kernel
theorem dL_law_8 : decode cL_law 8 = .ok (.new 20, 3) := by decide +kernel
theorem dL_law_11 : decode cL_law 11 = .ok (.dup, 1) := by decide +kernel
theorem dL_law_12 : decode cL_law 12 = .ok (.invokespecial 22, 3) := by decide +kernel
theorem dL_law_15 : decode cL_law 15 = .ok (.astore_n 2, 1) := by decide +kernel
theorem dL_law_16 : decode cL_law 16 = .ok (.iconst 1, 1) := by decide +kernel
theorem dL_law_17 : decode cL_law 17 = .ok (.newarray .long, 2) := by decide +kernel
theorem dL_law_19 : decode cL_law 19 = .ok (.astore_n 3, 1) := by decide +kernel
theorem dL_law_20 : decode cL_law 20 = .ok (.iconst 0, 1) := by decide +kernel
theorem dL_law_21 : decode cL_law 21 = .ok (.istore 4, 2) := by decide +kernel
theorem dL_law_23 : decode cL_law 23 = .ok (.iload 4, 2) := by decide +kernel
theorem dL_law_25 : decode cL_law 25 = .ok (.aload_n 0, 1) := by decide +kernel
theorem dL_law_26 : decode cL_law 26 = .ok (.arraylength, 1) := by decide +kernel
theorem dL_law_27 : decode cL_law 27 = .ok (.bipush 6, 2) := by decide +kernel
theorem dL_law_29 : decode cL_law 29 = .ok (.isub, 1) := by decide +kernel
theorem dL_law_30 : decode cL_law 30 = .ok (.if_icmp .gt 454, 3) := by decide +kernel
theorem dL_law_33 : decode cL_law 33 = .ok (.aload_n 0, 1) := by decide +kernel
theorem dL_law_34 : decode cL_law 34 = .ok (.iload 4, 2) := by decide +kernel
theorem dL_law_36 : decode cL_law 36 = .ok (.iaload, 1) := by decide +kernel
theorem dL_law_37 : decode cL_law 37 = .ok (.bipush 15, 2) := by decide +kernel
theorem dL_law_39 : decode cL_law 39 = .ok (.iand, 1) := by decide +kernel
theorem dL_law_40 : decode cL_law 40 = .ok (.tableswitch 438 0 11 #[64, 137, 162, 175, 188, 213, 238, 263, 276, 301, 369, 425], 64) := by decide +kernel
theorem dL_law_104 : decode cL_law 104 = .ok (.aload_n 1, 1) := by decide +kernel
theorem dL_law_105 : decode cL_law 105 = .ok (.aload_n 0, 1) := by decide +kernel
theorem dL_law_106 : decode cL_law 106 = .ok (.iload 4, 2) := by decide +kernel
theorem dL_law_108 : decode cL_law 108 = .ok (.iconst 1, 1) := by decide +kernel
theorem dL_law_109 : decode cL_law 109 = .ok (.iadd, 1) := by decide +kernel
theorem dL_law_110 : decode cL_law 110 = .ok (.iaload, 1) := by decide +kernel
theorem dL_law_111 : decode cL_law 111 = .ok (.aload_n 0, 1) := by decide +kernel
theorem dL_law_112 : decode cL_law 112 = .ok (.iload 4, 2) := by decide +kernel
theorem dL_law_114 : decode cL_law 114 = .ok (.iconst 2, 1) := by decide +kernel
theorem dL_law_115 : decode cL_law 115 = .ok (.iadd, 1) := by decide +kernel
theorem dL_law_116 : decode cL_law 116 = .ok (.iaload, 1) := by decide +kernel
theorem dL_law_117 : decode cL_law 117 = .ok (.aload_n 0, 1) := by decide +kernel
theorem dL_law_118 : decode cL_law 118 = .ok (.iload 4, 2) := by decide +kernel
theorem dL_law_120 : decode cL_law 120 = .ok (.iconst 3, 1) := by decide +kernel
theorem dL_law_121 : decode cL_law 121 = .ok (.iadd, 1) := by decide +kernel
theorem dL_law_122 : decode cL_law 122 = .ok (.iaload, 1) := by decide +kernel
theorem dL_law_123 : decode cL_law 123 = .ok (.aload_n 0, 1) := by decide +kernel
theorem dL_law_124 : decode cL_law 124 = .ok (.iload 4, 2) := by decide +kernel
theorem dL_law_126 : decode cL_law 126 = .ok (.iconst 4, 1) := by decide +kernel
theorem dL_law_127 : decode cL_law 127 = .ok (.iadd, 1) := by decide +kernel
theorem dL_law_128 : decode cL_law 128 = .ok (.iaload, 1) := by decide +kernel
theorem dL_law_129 : decode cL_law 129 = .ok (.aload_n 0, 1) := by decide +kernel
theorem dL_law_130 : decode cL_law 130 = .ok (.iload 4, 2) := by decide +kernel
theorem dL_law_132 : decode cL_law 132 = .ok (.iconst 5, 1) := by decide +kernel
theorem dL_law_133 : decode cL_law 133 = .ok (.iadd, 1) := by decide +kernel
theorem dL_law_134 : decode cL_law 134 = .ok (.iaload, 1) := by decide +kernel
theorem dL_law_135 : decode cL_law 135 = .ok (.invokevirtual 23, 3) := by decide +kernel
theorem dL_law_138 : decode cL_law 138 = .ok (.aload_n 2, 1) := by decide +kernel
theorem dL_law_139 : decode cL_law 139 = .ok (.aload_n 0, 1) := by decide +kernel
theorem dL_law_140 : decode cL_law 140 = .ok (.iload 4, 2) := by decide +kernel
theorem dL_law_142 : decode cL_law 142 = .ok (.iconst 1, 1) := by decide +kernel
theorem dL_law_143 : decode cL_law 143 = .ok (.iadd, 1) := by decide +kernel
theorem dL_law_144 : decode cL_law 144 = .ok (.iaload, 1) := by decide +kernel
theorem dL_law_145 : decode cL_law 145 = .ok (.aload_n 0, 1) := by decide +kernel
theorem dL_law_146 : decode cL_law 146 = .ok (.iload 4, 2) := by decide +kernel
theorem dL_law_148 : decode cL_law 148 = .ok (.iconst 2, 1) := by decide +kernel
theorem dL_law_149 : decode cL_law 149 = .ok (.iadd, 1) := by decide +kernel
theorem dL_law_150 : decode cL_law 150 = .ok (.iaload, 1) := by decide +kernel
theorem dL_law_151 : decode cL_law 151 = .ok (.aload_n 0, 1) := by decide +kernel
theorem dL_law_152 : decode cL_law 152 = .ok (.iload 4, 2) := by decide +kernel
theorem dL_law_154 : decode cL_law 154 = .ok (.iconst 3, 1) := by decide +kernel
theorem dL_law_155 : decode cL_law 155 = .ok (.iadd, 1) := by decide +kernel
theorem dL_law_156 : decode cL_law 156 = .ok (.iaload, 1) := by decide +kernel
theorem dL_law_157 : decode cL_law 157 = .ok (.aload_n 0, 1) := by decide +kernel
theorem dL_law_158 : decode cL_law 158 = .ok (.iload 4, 2) := by decide +kernel
theorem dL_law_160 : decode cL_law 160 = .ok (.iconst 4, 1) := by decide +kernel
theorem dL_law_161 : decode cL_law 161 = .ok (.iadd, 1) := by decide +kernel
theorem dL_law_162 : decode cL_law 162 = .ok (.iaload, 1) := by decide +kernel
theorem dL_law_163 : decode cL_law 163 = .ok (.aload_n 0, 1) := by decide +kernel
theorem dL_law_164 : decode cL_law 164 = .ok (.iload 4, 2) := by decide +kernel
theorem dL_law_166 : decode cL_law 166 = .ok (.iconst 5, 1) := by decide +kernel
theorem dL_law_167 : decode cL_law 167 = .ok (.iadd, 1) := by decide +kernel
theorem dL_law_168 : decode cL_law 168 = .ok (.iaload, 1) := by decide +kernel
theorem dL_law_169 : decode cL_law 169 = .ok (.invokevirtual 27, 3) := by decide +kernel
theorem dL_law_172 : decode cL_law 172 = .ok (.if_icmp .eq 306, 3) := by decide +kernel
theorem dL_law_175 : decode cL_law 175 = .ok (.iconst 0, 1) := by decide +kernel
theorem dL_law_176 : decode cL_law 176 = .ok (.ireturn, 1) := by decide +kernel
theorem dL_law_177 : decode cL_law 177 = .ok (.aload_n 1, 1) := by decide +kernel
theorem dL_law_178 : decode cL_law 178 = .ok (.aload_n 0, 1) := by decide +kernel
theorem dL_law_179 : decode cL_law 179 = .ok (.iload 4, 2) := by decide +kernel
theorem dL_law_181 : decode cL_law 181 = .ok (.iconst 1, 1) := by decide +kernel
theorem dL_law_182 : decode cL_law 182 = .ok (.iadd, 1) := by decide +kernel
theorem dL_law_183 : decode cL_law 183 = .ok (.iaload, 1) := by decide +kernel
theorem dL_law_184 : decode cL_law 184 = .ok (.invokevirtual 28, 3) := by decide +kernel
theorem dL_law_187 : decode cL_law 187 = .ok (.aload_n 2, 1) := by decide +kernel
theorem dL_law_188 : decode cL_law 188 = .ok (.aload_n 0, 1) := by decide +kernel
theorem dL_law_189 : decode cL_law 189 = .ok (.iload 4, 2) := by decide +kernel
theorem dL_law_191 : decode cL_law 191 = .ok (.iconst 1, 1) := by decide +kernel
theorem dL_law_192 : decode cL_law 192 = .ok (.iadd, 1) := by decide +kernel
theorem dL_law_193 : decode cL_law 193 = .ok (.iaload, 1) := by decide +kernel
theorem dL_law_194 : decode cL_law 194 = .ok (.invokevirtual 32, 3) := by decide +kernel
theorem dL_law_197 : decode cL_law 197 = .ok (.if_icmp .eq 281, 3) := by decide +kernel
theorem dL_law_200 : decode cL_law 200 = .ok (.iconst 0, 1) := by decide +kernel
theorem dL_law_201 : decode cL_law 201 = .ok (.ireturn, 1) := by decide +kernel
theorem dL_law_202 : decode cL_law 202 = .ok (.aload_n 1, 1) := by decide +kernel
theorem dL_law_203 : decode cL_law 203 = .ok (.invokevirtual 33, 3) := by decide +kernel
theorem dL_law_206 : decode cL_law 206 = .ok (.aload_n 2, 1) := by decide +kernel
theorem dL_law_207 : decode cL_law 207 = .ok (.invokevirtual 37, 3) := by decide +kernel
theorem dL_law_210 : decode cL_law 210 = .ok (.if_icmp .eq 268, 3) := by decide +kernel
theorem dL_law_213 : decode cL_law 213 = .ok (.iconst 0, 1) := by decide +kernel
theorem dL_law_214 : decode cL_law 214 = .ok (.ireturn, 1) := by decide +kernel
theorem dL_law_215 : decode cL_law 215 = .ok (.aload_n 1, 1) := by decide +kernel
theorem dL_law_216 : decode cL_law 216 = .ok (.invokevirtual 38, 3) := by decide +kernel
theorem dL_law_219 : decode cL_law 219 = .ok (.aload_n 2, 1) := by decide +kernel
theorem dL_law_220 : decode cL_law 220 = .ok (.invokevirtual 41, 3) := by decide +kernel
theorem dL_law_223 : decode cL_law 223 = .ok (.if_icmp .eq 255, 3) := by decide +kernel
theorem dL_law_226 : decode cL_law 226 = .ok (.iconst 0, 1) := by decide +kernel
theorem dL_law_227 : decode cL_law 227 = .ok (.ireturn, 1) := by decide +kernel
theorem dL_law_228 : decode cL_law 228 = .ok (.aload_n 1, 1) := by decide +kernel
theorem dL_law_229 : decode cL_law 229 = .ok (.aload_n 0, 1) := by decide +kernel
theorem dL_law_230 : decode cL_law 230 = .ok (.iload 4, 2) := by decide +kernel
theorem dL_law_232 : decode cL_law 232 = .ok (.iconst 1, 1) := by decide +kernel
theorem dL_law_233 : decode cL_law 233 = .ok (.iadd, 1) := by decide +kernel
theorem dL_law_234 : decode cL_law 234 = .ok (.iaload, 1) := by decide +kernel
theorem dL_law_235 : decode cL_law 235 = .ok (.invokevirtual 42, 3) := by decide +kernel
theorem dL_law_238 : decode cL_law 238 = .ok (.aload_n 2, 1) := by decide +kernel
theorem dL_law_239 : decode cL_law 239 = .ok (.aload_n 0, 1) := by decide +kernel
theorem dL_law_240 : decode cL_law 240 = .ok (.iload 4, 2) := by decide +kernel
theorem dL_law_242 : decode cL_law 242 = .ok (.iconst 1, 1) := by decide +kernel
theorem dL_law_243 : decode cL_law 243 = .ok (.iadd, 1) := by decide +kernel
theorem dL_law_244 : decode cL_law 244 = .ok (.iaload, 1) := by decide +kernel
theorem dL_law_245 : decode cL_law 245 = .ok (.invokevirtual 45, 3) := by decide +kernel
theorem dL_law_248 : decode cL_law 248 = .ok (.if_icmp .eq 230, 3) := by decide +kernel
theorem dL_law_251 : decode cL_law 251 = .ok (.iconst 0, 1) := by decide +kernel
theorem dL_law_252 : decode cL_law 252 = .ok (.ireturn, 1) := by decide +kernel
theorem dL_law_253 : decode cL_law 253 = .ok (.aload_n 1, 1) := by decide +kernel
theorem dL_law_254 : decode cL_law 254 = .ok (.aload_n 0, 1) := by decide +kernel
theorem dL_law_255 : decode cL_law 255 = .ok (.iload 4, 2) := by decide +kernel
theorem dL_law_257 : decode cL_law 257 = .ok (.iconst 1, 1) := by decide +kernel
theorem dL_law_258 : decode cL_law 258 = .ok (.iadd, 1) := by decide +kernel
theorem dL_law_259 : decode cL_law 259 = .ok (.iaload, 1) := by decide +kernel
theorem dL_law_260 : decode cL_law 260 = .ok (.invokevirtual 46, 3) := by decide +kernel
theorem dL_law_263 : decode cL_law 263 = .ok (.aload_n 2, 1) := by decide +kernel
theorem dL_law_264 : decode cL_law 264 = .ok (.aload_n 0, 1) := by decide +kernel
theorem dL_law_265 : decode cL_law 265 = .ok (.iload 4, 2) := by decide +kernel
theorem dL_law_267 : decode cL_law 267 = .ok (.iconst 1, 1) := by decide +kernel
theorem dL_law_268 : decode cL_law 268 = .ok (.iadd, 1) := by decide +kernel
theorem dL_law_269 : decode cL_law 269 = .ok (.iaload, 1) := by decide +kernel
theorem dL_law_270 : decode cL_law 270 = .ok (.invokevirtual 49, 3) := by decide +kernel
theorem dL_law_273 : decode cL_law 273 = .ok (.if_icmp .eq 205, 3) := by decide +kernel
theorem dL_law_276 : decode cL_law 276 = .ok (.iconst 0, 1) := by decide +kernel
theorem dL_law_277 : decode cL_law 277 = .ok (.ireturn, 1) := by decide +kernel
theorem dL_law_278 : decode cL_law 278 = .ok (.aload_n 1, 1) := by decide +kernel
theorem dL_law_279 : decode cL_law 279 = .ok (.aload_n 0, 1) := by decide +kernel
theorem dL_law_280 : decode cL_law 280 = .ok (.iload 4, 2) := by decide +kernel
theorem dL_law_282 : decode cL_law 282 = .ok (.iconst 1, 1) := by decide +kernel
theorem dL_law_283 : decode cL_law 283 = .ok (.iadd, 1) := by decide +kernel
theorem dL_law_284 : decode cL_law 284 = .ok (.iaload, 1) := by decide +kernel
theorem dL_law_285 : decode cL_law 285 = .ok (.invokevirtual 50, 3) := by decide +kernel
theorem dL_law_288 : decode cL_law 288 = .ok (.aload_n 2, 1) := by decide +kernel
theorem dL_law_289 : decode cL_law 289 = .ok (.aload_n 0, 1) := by decide +kernel
theorem dL_law_290 : decode cL_law 290 = .ok (.iload 4, 2) := by decide +kernel
theorem dL_law_292 : decode cL_law 292 = .ok (.iconst 1, 1) := by decide +kernel
theorem dL_law_293 : decode cL_law 293 = .ok (.iadd, 1) := by decide +kernel
theorem dL_law_294 : decode cL_law 294 = .ok (.iaload, 1) := by decide +kernel
theorem dL_law_295 : decode cL_law 295 = .ok (.invokevirtual 53, 3) := by decide +kernel
theorem dL_law_298 : decode cL_law 298 = .ok (.if_icmp .eq 180, 3) := by decide +kernel
theorem dL_law_301 : decode cL_law 301 = .ok (.iconst 0, 1) := by decide +kernel
theorem dL_law_302 : decode cL_law 302 = .ok (.ireturn, 1) := by decide +kernel
theorem dL_law_303 : decode cL_law 303 = .ok (.aload_n 1, 1) := by decide +kernel
theorem dL_law_304 : decode cL_law 304 = .ok (.invokevirtual 54, 3) := by decide +kernel
theorem dL_law_307 : decode cL_law 307 = .ok (.aload_n 2, 1) := by decide +kernel
theorem dL_law_308 : decode cL_law 308 = .ok (.invokevirtual 57, 3) := by decide +kernel
theorem dL_law_311 : decode cL_law 311 = .ok (.if_icmp .eq 167, 3) := by decide +kernel
theorem dL_law_314 : decode cL_law 314 = .ok (.iconst 0, 1) := by decide +kernel
theorem dL_law_315 : decode cL_law 315 = .ok (.ireturn, 1) := by decide +kernel
theorem dL_law_316 : decode cL_law 316 = .ok (.aload_n 1, 1) := by decide +kernel
theorem dL_law_317 : decode cL_law 317 = .ok (.aload_n 0, 1) := by decide +kernel
theorem dL_law_318 : decode cL_law 318 = .ok (.iload 4, 2) := by decide +kernel
theorem dL_law_320 : decode cL_law 320 = .ok (.iconst 1, 1) := by decide +kernel
theorem dL_law_321 : decode cL_law 321 = .ok (.iadd, 1) := by decide +kernel
theorem dL_law_322 : decode cL_law 322 = .ok (.iaload, 1) := by decide +kernel
theorem dL_law_323 : decode cL_law 323 = .ok (.invokevirtual 58, 3) := by decide +kernel
theorem dL_law_326 : decode cL_law 326 = .ok (.aload_n 2, 1) := by decide +kernel
theorem dL_law_327 : decode cL_law 327 = .ok (.aload_n 0, 1) := by decide +kernel
theorem dL_law_328 : decode cL_law 328 = .ok (.iload 4, 2) := by decide +kernel
theorem dL_law_330 : decode cL_law 330 = .ok (.iconst 1, 1) := by decide +kernel
theorem dL_law_331 : decode cL_law 331 = .ok (.iadd, 1) := by decide +kernel
theorem dL_law_332 : decode cL_law 332 = .ok (.iaload, 1) := by decide +kernel
theorem dL_law_333 : decode cL_law 333 = .ok (.invokevirtual 61, 3) := by decide +kernel
theorem dL_law_336 : decode cL_law 336 = .ok (.if_icmp .eq 142, 3) := by decide +kernel
theorem dL_law_339 : decode cL_law 339 = .ok (.iconst 0, 1) := by decide +kernel
theorem dL_law_340 : decode cL_law 340 = .ok (.ireturn, 1) := by decide +kernel
theorem dL_law_341 : decode cL_law 341 = .ok (.aload_n 1, 1) := by decide +kernel
theorem dL_law_342 : decode cL_law 342 = .ok (.aload_n 0, 1) := by decide +kernel
theorem dL_law_343 : decode cL_law 343 = .ok (.iload 4, 2) := by decide +kernel
theorem dL_law_345 : decode cL_law 345 = .ok (.iconst 1, 1) := by decide +kernel
theorem dL_law_346 : decode cL_law 346 = .ok (.iadd, 1) := by decide +kernel
theorem dL_law_347 : decode cL_law 347 = .ok (.iaload, 1) := by decide +kernel
theorem dL_law_348 : decode cL_law 348 = .ok (.aload_n 0, 1) := by decide +kernel
theorem dL_law_349 : decode cL_law 349 = .ok (.iload 4, 2) := by decide +kernel
theorem dL_law_351 : decode cL_law 351 = .ok (.iconst 2, 1) := by decide +kernel
theorem dL_law_352 : decode cL_law 352 = .ok (.iadd, 1) := by decide +kernel
theorem dL_law_353 : decode cL_law 353 = .ok (.iaload, 1) := by decide +kernel
theorem dL_law_354 : decode cL_law 354 = .ok (.aload_n 3, 1) := by decide +kernel
theorem dL_law_355 : decode cL_law 355 = .ok (.invokestatic 62, 3) := by decide +kernel
theorem dL_law_358 : decode cL_law 358 = .ok (.istore 5, 2) := by decide +kernel
theorem dL_law_360 : decode cL_law 360 = .ok (.aload_n 2, 1) := by decide +kernel
theorem dL_law_361 : decode cL_law 361 = .ok (.aload_n 0, 1) := by decide +kernel
theorem dL_law_362 : decode cL_law 362 = .ok (.iload 4, 2) := by decide +kernel
theorem dL_law_364 : decode cL_law 364 = .ok (.iconst 1, 1) := by decide +kernel
theorem dL_law_365 : decode cL_law 365 = .ok (.iadd, 1) := by decide +kernel
theorem dL_law_366 : decode cL_law 366 = .ok (.iaload, 1) := by decide +kernel
theorem dL_law_367 : decode cL_law 367 = .ok (.aload_n 0, 1) := by decide +kernel
theorem dL_law_368 : decode cL_law 368 = .ok (.iload 4, 2) := by decide +kernel
theorem dL_law_370 : decode cL_law 370 = .ok (.iconst 2, 1) := by decide +kernel
theorem dL_law_371 : decode cL_law 371 = .ok (.iadd, 1) := by decide +kernel
theorem dL_law_372 : decode cL_law 372 = .ok (.iaload, 1) := by decide +kernel
theorem dL_law_373 : decode cL_law 373 = .ok (.invokevirtual 67, 3) := by decide +kernel
theorem dL_law_376 : decode cL_law 376 = .ok (.istore 6, 2) := by decide +kernel
theorem dL_law_378 : decode cL_law 378 = .ok (.aload_n 2, 1) := by decide +kernel
theorem dL_law_379 : decode cL_law 379 = .ok (.invokevirtual 68, 3) := by decide +kernel
theorem dL_law_382 : decode cL_law 382 = .ok (.iload 5, 2) := by decide +kernel
theorem dL_law_384 : decode cL_law 384 = .ok (.if_icmp .eq 5, 3) := by decide +kernel
theorem dL_law_387 : decode cL_law 387 = .ok (.iconst 0, 1) := by decide +kernel
theorem dL_law_388 : decode cL_law 388 = .ok (.ireturn, 1) := by decide +kernel
theorem dL_law_389 : decode cL_law 389 = .ok (.iload 5, 2) := by decide +kernel
theorem dL_law_391 : decode cL_law 391 = .ok (.ifCond .ne 15, 3) := by decide +kernel
theorem dL_law_394 : decode cL_law 394 = .ok (.aload_n 3, 1) := by decide +kernel
theorem dL_law_395 : decode cL_law 395 = .ok (.iconst 0, 1) := by decide +kernel
theorem dL_law_396 : decode cL_law 396 = .ok (.laload, 1) := by decide +kernel
theorem dL_law_397 : decode cL_law 397 = .ok (.iload 6, 2) := by decide +kernel
theorem dL_law_399 : decode cL_law 399 = .ok (.i2l, 1) := by decide +kernel
theorem dL_law_400 : decode cL_law 400 = .ok (.lcmp, 1) := by decide +kernel
theorem dL_law_401 : decode cL_law 401 = .ok (.ifCond .eq 5, 3) := by decide +kernel
theorem dL_law_404 : decode cL_law 404 = .ok (.iconst 0, 1) := by decide +kernel
theorem dL_law_405 : decode cL_law 405 = .ok (.ireturn, 1) := by decide +kernel
theorem dL_law_406 : decode cL_law 406 = .ok (.goto 72, 3) := by decide +kernel
theorem dL_law_409 : decode cL_law 409 = .ok (.aload_n 1, 1) := by decide +kernel
theorem dL_law_410 : decode cL_law 410 = .ok (.aload_n 0, 1) := by decide +kernel
theorem dL_law_411 : decode cL_law 411 = .ok (.iload 4, 2) := by decide +kernel
theorem dL_law_413 : decode cL_law 413 = .ok (.iconst 1, 1) := by decide +kernel
theorem dL_law_414 : decode cL_law 414 = .ok (.iadd, 1) := by decide +kernel
theorem dL_law_415 : decode cL_law 415 = .ok (.iaload, 1) := by decide +kernel
theorem dL_law_416 : decode cL_law 416 = .ok (.aload_n 3, 1) := by decide +kernel
theorem dL_law_417 : decode cL_law 417 = .ok (.invokestatic 71, 3) := by decide +kernel
theorem dL_law_420 : decode cL_law 420 = .ok (.istore 5, 2) := by decide +kernel
theorem dL_law_422 : decode cL_law 422 = .ok (.aload_n 2, 1) := by decide +kernel
theorem dL_law_423 : decode cL_law 423 = .ok (.aload_n 0, 1) := by decide +kernel
theorem dL_law_424 : decode cL_law 424 = .ok (.iload 4, 2) := by decide +kernel
theorem dL_law_426 : decode cL_law 426 = .ok (.iconst 1, 1) := by decide +kernel
theorem dL_law_427 : decode cL_law 427 = .ok (.iadd, 1) := by decide +kernel
theorem dL_law_428 : decode cL_law 428 = .ok (.iaload, 1) := by decide +kernel
theorem dL_law_429 : decode cL_law 429 = .ok (.invokevirtual 74, 3) := by decide +kernel
theorem dL_law_432 : decode cL_law 432 = .ok (.istore 6, 2) := by decide +kernel
theorem dL_law_434 : decode cL_law 434 = .ok (.aload_n 2, 1) := by decide +kernel
theorem dL_law_435 : decode cL_law 435 = .ok (.invokevirtual 68, 3) := by decide +kernel
theorem dL_law_438 : decode cL_law 438 = .ok (.iload 5, 2) := by decide +kernel
theorem dL_law_440 : decode cL_law 440 = .ok (.if_icmp .eq 5, 3) := by decide +kernel
theorem dL_law_443 : decode cL_law 443 = .ok (.iconst 0, 1) := by decide +kernel
theorem dL_law_444 : decode cL_law 444 = .ok (.ireturn, 1) := by decide +kernel
theorem dL_law_445 : decode cL_law 445 = .ok (.iload 5, 2) := by decide +kernel
theorem dL_law_447 : decode cL_law 447 = .ok (.ifCond .ne 15, 3) := by decide +kernel
theorem dL_law_450 : decode cL_law 450 = .ok (.aload_n 3, 1) := by decide +kernel
theorem dL_law_451 : decode cL_law 451 = .ok (.iconst 0, 1) := by decide +kernel
theorem dL_law_452 : decode cL_law 452 = .ok (.laload, 1) := by decide +kernel
theorem dL_law_453 : decode cL_law 453 = .ok (.iload 6, 2) := by decide +kernel
theorem dL_law_455 : decode cL_law 455 = .ok (.i2l, 1) := by decide +kernel
theorem dL_law_456 : decode cL_law 456 = .ok (.lcmp, 1) := by decide +kernel
theorem dL_law_457 : decode cL_law 457 = .ok (.ifCond .eq 5, 3) := by decide +kernel
theorem dL_law_460 : decode cL_law 460 = .ok (.iconst 0, 1) := by decide +kernel
theorem dL_law_461 : decode cL_law 461 = .ok (.ireturn, 1) := by decide +kernel
theorem dL_law_462 : decode cL_law 462 = .ok (.goto 16, 3) := by decide +kernel
theorem dL_law_465 : decode cL_law 465 = .ok (.aload_n 1, 1) := by decide +kernel
theorem dL_law_466 : decode cL_law 466 = .ok (.invokevirtual 75, 3) := by decide +kernel
theorem dL_law_469 : decode cL_law 469 = .ok (.aload_n 2, 1) := by decide +kernel
theorem dL_law_470 : decode cL_law 470 = .ok (.invokevirtual 78, 3) := by decide +kernel
theorem dL_law_473 : decode cL_law 473 = .ok (.if_icmp .eq 5, 3) := by decide +kernel
theorem dL_law_476 : decode cL_law 476 = .ok (.iconst 0, 1) := by decide +kernel
theorem dL_law_477 : decode cL_law 477 = .ok (.ireturn, 1) := by decide +kernel
theorem dL_law_478 : decode cL_law 478 = .ok (.iinc 4 6, 3) := by decide +kernel
theorem dL_law_481 : decode cL_law 481 = .ok (.goto (-458), 3) := by decide +kernel
theorem dL_law_484 : decode cL_law 484 = .ok (.iconst 1, 1) := by decide +kernel
theorem dL_law_485 : decode cL_law 485 = .ok (.ireturn, 1) := by decide +kernel
