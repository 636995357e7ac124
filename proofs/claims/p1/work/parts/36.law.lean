theorem kw_264 : Cond.classLink RL 8 RX11 ∈ gWs := gWm 264 (by decide +kernel) rfl
theorem kw_265 : Cond.instantiable RX11 10 ∈ gWs := gWm 265 (by decide +kernel) rfl
theorem nl_L_8 : gNL RL 8 11 10 [.null, .null, .null, .null, .null, .null, .null, .null, .int 0, .int 0] := ⟨RX11, TX11, tyX11, rfl, inW_RX11, tyX11_ok, kw_264, kw_265, kw_238, by decide +kernel⟩
theorem kw_268 : Cond.code yX11_init cX11_init 1 none ∈ gWs := gWm 268 (by decide +kernel) rfl
theorem kw_266 : Cond.methodLink RL 19 yX11_init ∈ gWs := gWm 266 (by decide +kernel) rfl
theorem kw_267 : Cond.instanceMethod yX11_init ∈ gWs := gWm 267 (by decide +kernel) rfl
theorem cl_L_19 : gCI RL 19 yX11_init cX11_init 1 0 := ⟨gWs_all kw_268, kw_238, kw_266, kw_267, rfl, ⟨by decide +kernel, by decide +kernel, by decide +kernel⟩⟩
theorem kw_1946 : Cond.classLink RL 20 RX12 ∈ gWs := gWm 1946 (by decide +kernel) rfl
theorem kw_1947 : Cond.instantiable RX12 119 ∈ gWs := gWm 1947 (by decide +kernel) rfl
theorem nl_L_20 : gNL RL 20 12 119 [.int 0, .null, .int 0, .null, .int 0, .int 0, .null, .null, .int 0, .null, .null, .null, .int 0, .int 0, .null, .int 0, .null, .null, .int 0, .int 0, .int 0, .int 0, .int 0, .int 0, .int 0, .null, .null, .null, .null, .null, .null, .null, .null, .null, .null, .null, .null, .int 0, .int 0, .null, .null, .null, .null, .int 0, .int 0, .int 0, .null, .null, .int 0, .int 0, .null, .null, .null, .null, .null, .int 0, .null, .null, .int 0, .int 0, .null, .null, .null, .int 0, .null, .null, .null, .int 0, .null, .int 0, .null, .null, .null, .int 0, .int 0, .int 0, .int 0, .int 0, .int 0, .int 0, .int 0, .int 0, .int 0, .int 0, .int 0, .null, .null, .int 0, .null, .null, .null, .int 0, .null, .null, .null, .int 0, .int 0, .int 0, .null, .int 0, .int 0, .int 0, .int 0, .int 0, .int 0, .int 0, .int 0, .null, .null, .null, .null, .null, .null, .null, .int 0, .null, .null, .int 0, .null] := ⟨RX12, TX12, tyX12, rfl, inW_RX12, tyX12_ok, kw_1946, kw_1947, kw_257, by decide +kernel⟩
theorem kw_1950 : Cond.code yX12_init cX12_init 1 none ∈ gWs := gWm 1950 (by decide +kernel) rfl
theorem kw_1948 : Cond.methodLink RL 22 yX12_init ∈ gWs := gWm 1948 (by decide +kernel) rfl
theorem kw_1949 : Cond.instanceMethod yX12_init ∈ gWs := gWm 1949 (by decide +kernel) rfl
theorem cl_L_22 : gCI RL 22 yX12_init cX12_init 1 0 := ⟨gWs_all kw_1950, kw_257, kw_1948, kw_1949, rfl, ⟨by decide +kernel, by decide +kernel, by decide +kernel⟩⟩
theorem kw_2948 : Cond.arrayClass .long ∈ gWs := gWm 2948 (by decide +kernel) rfl
theorem kw_833 : Cond.code yX11_feed cX11_feed 6 (some .boolean) ∈ gWs := gWm 833 (by decide +kernel) rfl
theorem kw_830 : Cond.methodLink RL 23 yX11_feed ∈ gWs := gWm 830 (by decide +kernel) rfl
theorem kw_831 : Cond.instanceMethod yX11_feed ∈ gWs := gWm 831 (by decide +kernel) rfl
theorem kw_832 : Cond.selects RX11 yX11_feed yX11_feed ∈ gWs := gWm 832 (by decide +kernel) rfl
theorem cl_L_23 : gCV RL 23 yX11_feed cX11_feed 6 (some .boolean) 5 := ⟨g_mk [.methodLink RL 23 yX11_feed, .instanceMethod yX11_feed, .selects yX11_feed.cls yX11_feed yX11_feed, .initialized yX11_feed.cls] (gWs_all kw_833) (List.forall_mem_cons.mpr ⟨kw_830, List.forall_mem_cons.mpr ⟨kw_831, List.forall_mem_cons.mpr ⟨kw_832, List.forall_mem_cons.mpr ⟨kw_238, fun _ h => nomatch h⟩⟩⟩⟩), rfl, by decide +kernel, by decide +kernel, by decide +kernel⟩
theorem kw_2322 : Cond.code yX12_feed cX12_feed 8 (some .boolean) ∈ gWs := gWm 2322 (by decide +kernel) rfl
theorem kw_2319 : Cond.methodLink RL 27 yX12_feed ∈ gWs := gWm 2319 (by decide +kernel) rfl
theorem kw_2320 : Cond.instanceMethod yX12_feed ∈ gWs := gWm 2320 (by decide +kernel) rfl
theorem kw_2321 : Cond.selects RX12 yX12_feed yX12_feed ∈ gWs := gWm 2321 (by decide +kernel) rfl
theorem cl_L_27 : gCV RL 27 yX12_feed cX12_feed 8 (some .boolean) 5 := ⟨g_mk [.methodLink RL 27 yX12_feed, .instanceMethod yX12_feed, .selects yX12_feed.cls yX12_feed yX12_feed, .initialized yX12_feed.cls] (gWs_all kw_2322) (List.forall_mem_cons.mpr ⟨kw_2319, List.forall_mem_cons.mpr ⟨kw_2320, List.forall_mem_cons.mpr ⟨kw_2321, List.forall_mem_cons.mpr ⟨kw_257, fun _ h => nomatch h⟩⟩⟩⟩), rfl, by decide +kernel, by decide +kernel, by decide +kernel⟩
theorem kw_843 : Cond.code yX11_end cX11_end 2 (some .boolean) ∈ gWs := gWm 843 (by decide +kernel) rfl
theorem kw_840 : Cond.methodLink RL 28 yX11_end ∈ gWs := gWm 840 (by decide +kernel) rfl
theorem kw_841 : Cond.instanceMethod yX11_end ∈ gWs := gWm 841 (by decide +kernel) rfl
theorem kw_842 : Cond.selects RX11 yX11_end yX11_end ∈ gWs := gWm 842 (by decide +kernel) rfl
theorem cl_L_28 : gCV RL 28 yX11_end cX11_end 2 (some .boolean) 1 := ⟨g_mk [.methodLink RL 28 yX11_end, .instanceMethod yX11_end, .selects yX11_end.cls yX11_end yX11_end, .initialized yX11_end.cls] (gWs_all kw_843) (List.forall_mem_cons.mpr ⟨kw_840, List.forall_mem_cons.mpr ⟨kw_841, List.forall_mem_cons.mpr ⟨kw_842, List.forall_mem_cons.mpr ⟨kw_238, fun _ h => nomatch h⟩⟩⟩⟩), rfl, by decide +kernel, by decide +kernel, by decide +kernel⟩
theorem kw_2326 : Cond.code yX12_end cX12_end 2 (some .boolean) ∈ gWs := gWm 2326 (by decide +kernel) rfl
theorem kw_2323 : Cond.methodLink RL 32 yX12_end ∈ gWs := gWm 2323 (by decide +kernel) rfl
theorem kw_2324 : Cond.instanceMethod yX12_end ∈ gWs := gWm 2324 (by decide +kernel) rfl
theorem kw_2325 : Cond.selects RX12 yX12_end yX12_end ∈ gWs := gWm 2325 (by decide +kernel) rfl
theorem cl_L_32 : gCV RL 32 yX12_end cX12_end 2 (some .boolean) 1 := ⟨g_mk [.methodLink RL 32 yX12_end, .instanceMethod yX12_end, .selects yX12_end.cls yX12_end yX12_end, .initialized yX12_end.cls] (gWs_all kw_2326) (List.forall_mem_cons.mpr ⟨kw_2323, List.forall_mem_cons.mpr ⟨kw_2324, List.forall_mem_cons.mpr ⟨kw_2325, List.forall_mem_cons.mpr ⟨kw_257, fun _ h => nomatch h⟩⟩⟩⟩), rfl, by decide +kernel, by decide +kernel, by decide +kernel⟩
theorem kw_848 : Cond.code yX11_compile cX11_compile 1 (some .int) ∈ gWs := gWm 848 (by decide +kernel) rfl
theorem kw_845 : Cond.methodLink RL 33 yX11_compile ∈ gWs := gWm 845 (by decide +kernel) rfl
theorem kw_846 : Cond.instanceMethod yX11_compile ∈ gWs := gWm 846 (by decide +kernel) rfl
theorem kw_847 : Cond.selects RX11 yX11_compile yX11_compile ∈ gWs := gWm 847 (by decide +kernel) rfl
theorem cl_L_33 : gCV RL 33 yX11_compile cX11_compile 1 (some .int) 0 := ⟨g_mk [.methodLink RL 33 yX11_compile, .instanceMethod yX11_compile, .selects yX11_compile.cls yX11_compile yX11_compile, .initialized yX11_compile.cls] (gWs_all kw_848) (List.forall_mem_cons.mpr ⟨kw_845, List.forall_mem_cons.mpr ⟨kw_846, List.forall_mem_cons.mpr ⟨kw_847, List.forall_mem_cons.mpr ⟨kw_238, fun _ h => nomatch h⟩⟩⟩⟩), rfl, by decide +kernel, by decide +kernel, by decide +kernel⟩
theorem kw_2330 : Cond.code yX12_compile cX12_compile 2 (some .int) ∈ gWs := gWm 2330 (by decide +kernel) rfl
theorem kw_2327 : Cond.methodLink RL 37 yX12_compile ∈ gWs := gWm 2327 (by decide +kernel) rfl
theorem kw_2328 : Cond.instanceMethod yX12_compile ∈ gWs := gWm 2328 (by decide +kernel) rfl
theorem kw_2329 : Cond.selects RX12 yX12_compile yX12_compile ∈ gWs := gWm 2329 (by decide +kernel) rfl
theorem cl_L_37 : gCV RL 37 yX12_compile cX12_compile 2 (some .int) 0 := ⟨g_mk [.methodLink RL 37 yX12_compile, .instanceMethod yX12_compile, .selects yX12_compile.cls yX12_compile yX12_compile, .initialized yX12_compile.cls] (gWs_all kw_2330) (List.forall_mem_cons.mpr ⟨kw_2327, List.forall_mem_cons.mpr ⟨kw_2328, List.forall_mem_cons.mpr ⟨kw_2329, List.forall_mem_cons.mpr ⟨kw_257, fun _ h => nomatch h⟩⟩⟩⟩), rfl, by decide +kernel, by decide +kernel, by decide +kernel⟩
theorem kw_1597 : Cond.code yX11_fault cX11_fault 1 (some .int) ∈ gWs := gWm 1597 (by decide +kernel) rfl
theorem kw_1594 : Cond.methodLink RL 38 yX11_fault ∈ gWs := gWm 1594 (by decide +kernel) rfl
theorem kw_1595 : Cond.instanceMethod yX11_fault ∈ gWs := gWm 1595 (by decide +kernel) rfl
theorem kw_1596 : Cond.selects RX11 yX11_fault yX11_fault ∈ gWs := gWm 1596 (by decide +kernel) rfl
theorem cl_L_38 : gCV RL 38 yX11_fault cX11_fault 1 (some .int) 0 := ⟨g_mk [.methodLink RL 38 yX11_fault, .instanceMethod yX11_fault, .selects yX11_fault.cls yX11_fault yX11_fault, .initialized yX11_fault.cls] (gWs_all kw_1597) (List.forall_mem_cons.mpr ⟨kw_1594, List.forall_mem_cons.mpr ⟨kw_1595, List.forall_mem_cons.mpr ⟨kw_1596, List.forall_mem_cons.mpr ⟨kw_238, fun _ h => nomatch h⟩⟩⟩⟩), rfl, by decide +kernel, by decide +kernel, by decide +kernel⟩
theorem kw_2744 : Cond.code yX12_fault_ cX12_fault_ 1 (some .int) ∈ gWs := gWm 2744 (by decide +kernel) rfl
theorem kw_2741 : Cond.methodLink RL 41 yX12_fault_ ∈ gWs := gWm 2741 (by decide +kernel) rfl
theorem kw_2742 : Cond.instanceMethod yX12_fault_ ∈ gWs := gWm 2742 (by decide +kernel) rfl
theorem kw_2743 : Cond.selects RX12 yX12_fault_ yX12_fault_ ∈ gWs := gWm 2743 (by decide +kernel) rfl
theorem cl_L_41 : gCV RL 41 yX12_fault_ cX12_fault_ 1 (some .int) 0 := ⟨g_mk [.methodLink RL 41 yX12_fault_, .instanceMethod yX12_fault_, .selects yX12_fault_.cls yX12_fault_ yX12_fault_, .initialized yX12_fault_.cls] (gWs_all kw_2744) (List.forall_mem_cons.mpr ⟨kw_2741, List.forall_mem_cons.mpr ⟨kw_2742, List.forall_mem_cons.mpr ⟨kw_2743, List.forall_mem_cons.mpr ⟨kw_257, fun _ h => nomatch h⟩⟩⟩⟩), rfl, by decide +kernel, by decide +kernel, by decide +kernel⟩
theorem kw_1601 : Cond.code yX11_store cX11_store 2 (some .boolean) ∈ gWs := gWm 1601 (by decide +kernel) rfl
theorem kw_1598 : Cond.methodLink RL 42 yX11_store ∈ gWs := gWm 1598 (by decide +kernel) rfl
theorem kw_1599 : Cond.instanceMethod yX11_store ∈ gWs := gWm 1599 (by decide +kernel) rfl
theorem kw_1600 : Cond.selects RX11 yX11_store yX11_store ∈ gWs := gWm 1600 (by decide +kernel) rfl
theorem cl_L_42 : gCV RL 42 yX11_store cX11_store 2 (some .boolean) 1 := ⟨g_mk [.methodLink RL 42 yX11_store, .instanceMethod yX11_store, .selects yX11_store.cls yX11_store yX11_store, .initialized yX11_store.cls] (gWs_all kw_1601) (List.forall_mem_cons.mpr ⟨kw_1598, List.forall_mem_cons.mpr ⟨kw_1599, List.forall_mem_cons.mpr ⟨kw_1600, List.forall_mem_cons.mpr ⟨kw_238, fun _ h => nomatch h⟩⟩⟩⟩), rfl, by decide +kernel, by decide +kernel, by decide +kernel⟩
theorem kw_2748 : Cond.code yX12_store cX12_store 2 (some .boolean) ∈ gWs := gWm 2748 (by decide +kernel) rfl
theorem kw_2745 : Cond.methodLink RL 45 yX12_store ∈ gWs := gWm 2745 (by decide +kernel) rfl
theorem kw_2746 : Cond.instanceMethod yX12_store ∈ gWs := gWm 2746 (by decide +kernel) rfl
theorem kw_2747 : Cond.selects RX12 yX12_store yX12_store ∈ gWs := gWm 2747 (by decide +kernel) rfl
theorem cl_L_45 : gCV RL 45 yX12_store cX12_store 2 (some .boolean) 1 := ⟨g_mk [.methodLink RL 45 yX12_store, .instanceMethod yX12_store, .selects yX12_store.cls yX12_store yX12_store, .initialized yX12_store.cls] (gWs_all kw_2748) (List.forall_mem_cons.mpr ⟨kw_2745, List.forall_mem_cons.mpr ⟨kw_2746, List.forall_mem_cons.mpr ⟨kw_2747, List.forall_mem_cons.mpr ⟨kw_257, fun _ h => nomatch h⟩⟩⟩⟩), rfl, by decide +kernel, by decide +kernel, by decide +kernel⟩
theorem kw_1612 : Cond.code yX11_input cX11_input 3 (some .int) ∈ gWs := gWm 1612 (by decide +kernel) rfl
theorem kw_1609 : Cond.methodLink RL 46 yX11_input ∈ gWs := gWm 1609 (by decide +kernel) rfl
theorem kw_1610 : Cond.instanceMethod yX11_input ∈ gWs := gWm 1610 (by decide +kernel) rfl
theorem kw_1611 : Cond.selects RX11 yX11_input yX11_input ∈ gWs := gWm 1611 (by decide +kernel) rfl
theorem cl_L_46 : gCV RL 46 yX11_input cX11_input 3 (some .int) 1 := ⟨g_mk [.methodLink RL 46 yX11_input, .instanceMethod yX11_input, .selects yX11_input.cls yX11_input yX11_input, .initialized yX11_input.cls] (gWs_all kw_1612) (List.forall_mem_cons.mpr ⟨kw_1609, List.forall_mem_cons.mpr ⟨kw_1610, List.forall_mem_cons.mpr ⟨kw_1611, List.forall_mem_cons.mpr ⟨kw_238, fun _ h => nomatch h⟩⟩⟩⟩), rfl, by decide +kernel, by decide +kernel, by decide +kernel⟩
theorem kw_2753 : Cond.code yX12_input cX12_input 4 (some .int) ∈ gWs := gWm 2753 (by decide +kernel) rfl
theorem kw_2750 : Cond.methodLink RL 49 yX12_input ∈ gWs := gWm 2750 (by decide +kernel) rfl
theorem kw_2751 : Cond.instanceMethod yX12_input ∈ gWs := gWm 2751 (by decide +kernel) rfl
theorem kw_2752 : Cond.selects RX12 yX12_input yX12_input ∈ gWs := gWm 2752 (by decide +kernel) rfl
theorem cl_L_49 : gCV RL 49 yX12_input cX12_input 4 (some .int) 1 := ⟨g_mk [.methodLink RL 49 yX12_input, .instanceMethod yX12_input, .selects yX12_input.cls yX12_input yX12_input, .initialized yX12_input.cls] (gWs_all kw_2753) (List.forall_mem_cons.mpr ⟨kw_2750, List.forall_mem_cons.mpr ⟨kw_2751, List.forall_mem_cons.mpr ⟨kw_2752, List.forall_mem_cons.mpr ⟨kw_257, fun _ h => nomatch h⟩⟩⟩⟩), rfl, by decide +kernel, by decide +kernel, by decide +kernel⟩
theorem kw_1632 : Cond.code yX11_run cX11_run 2 (some .int) ∈ gWs := gWm 1632 (by decide +kernel) rfl
theorem kw_1629 : Cond.methodLink RL 50 yX11_run ∈ gWs := gWm 1629 (by decide +kernel) rfl
theorem kw_1630 : Cond.instanceMethod yX11_run ∈ gWs := gWm 1630 (by decide +kernel) rfl
theorem kw_1631 : Cond.selects RX11 yX11_run yX11_run ∈ gWs := gWm 1631 (by decide +kernel) rfl
theorem cl_L_50 : gCV RL 50 yX11_run cX11_run 2 (some .int) 1 := ⟨g_mk [.methodLink RL 50 yX11_run, .instanceMethod yX11_run, .selects yX11_run.cls yX11_run yX11_run, .initialized yX11_run.cls] (gWs_all kw_1632) (List.forall_mem_cons.mpr ⟨kw_1629, List.forall_mem_cons.mpr ⟨kw_1630, List.forall_mem_cons.mpr ⟨kw_1631, List.forall_mem_cons.mpr ⟨kw_238, fun _ h => nomatch h⟩⟩⟩⟩), rfl, by decide +kernel, by decide +kernel, by decide +kernel⟩
theorem kw_2764 : Cond.code yX12_run cX12_run 3 (some .int) ∈ gWs := gWm 2764 (by decide +kernel) rfl
theorem kw_2761 : Cond.methodLink RL 53 yX12_run ∈ gWs := gWm 2761 (by decide +kernel) rfl
theorem kw_2762 : Cond.instanceMethod yX12_run ∈ gWs := gWm 2762 (by decide +kernel) rfl
theorem kw_2763 : Cond.selects RX12 yX12_run yX12_run ∈ gWs := gWm 2763 (by decide +kernel) rfl
theorem cl_L_53 : gCV RL 53 yX12_run cX12_run 3 (some .int) 1 := ⟨g_mk [.methodLink RL 53 yX12_run, .instanceMethod yX12_run, .selects yX12_run.cls yX12_run yX12_run, .initialized yX12_run.cls] (gWs_all kw_2764) (List.forall_mem_cons.mpr ⟨kw_2761, List.forall_mem_cons.mpr ⟨kw_2762, List.forall_mem_cons.mpr ⟨kw_2763, List.forall_mem_cons.mpr ⟨kw_257, fun _ h => nomatch h⟩⟩⟩⟩), rfl, by decide +kernel, by decide +kernel, by decide +kernel⟩
theorem kw_1881 : Cond.code yX11_value cX11_value 1 (some .int) ∈ gWs := gWm 1881 (by decide +kernel) rfl
theorem kw_1878 : Cond.methodLink RL 54 yX11_value ∈ gWs := gWm 1878 (by decide +kernel) rfl
theorem kw_1879 : Cond.instanceMethod yX11_value ∈ gWs := gWm 1879 (by decide +kernel) rfl
theorem kw_1880 : Cond.selects RX11 yX11_value yX11_value ∈ gWs := gWm 1880 (by decide +kernel) rfl
theorem cl_L_54 : gCV RL 54 yX11_value cX11_value 1 (some .int) 0 := ⟨g_mk [.methodLink RL 54 yX11_value, .instanceMethod yX11_value, .selects yX11_value.cls yX11_value yX11_value, .initialized yX11_value.cls] (gWs_all kw_1881) (List.forall_mem_cons.mpr ⟨kw_1878, List.forall_mem_cons.mpr ⟨kw_1879, List.forall_mem_cons.mpr ⟨kw_1880, List.forall_mem_cons.mpr ⟨kw_238, fun _ h => nomatch h⟩⟩⟩⟩), rfl, by decide +kernel, by decide +kernel, by decide +kernel⟩
theorem kw_2931 : Cond.code yX12_value cX12_value 1 (some .int) ∈ gWs := gWm 2931 (by decide +kernel) rfl
theorem kw_2928 : Cond.methodLink RL 57 yX12_value ∈ gWs := gWm 2928 (by decide +kernel) rfl
theorem kw_2929 : Cond.instanceMethod yX12_value ∈ gWs := gWm 2929 (by decide +kernel) rfl
theorem kw_2930 : Cond.selects RX12 yX12_value yX12_value ∈ gWs := gWm 2930 (by decide +kernel) rfl
theorem cl_L_57 : gCV RL 57 yX12_value cX12_value 1 (some .int) 0 := ⟨g_mk [.methodLink RL 57 yX12_value, .instanceMethod yX12_value, .selects yX12_value.cls yX12_value yX12_value, .initialized yX12_value.cls] (gWs_all kw_2931) (List.forall_mem_cons.mpr ⟨kw_2928, List.forall_mem_cons.mpr ⟨kw_2929, List.forall_mem_cons.mpr ⟨kw_2930, List.forall_mem_cons.mpr ⟨kw_257, fun _ h => nomatch h⟩⟩⟩⟩), rfl, by decide +kernel, by decide +kernel, by decide +kernel⟩
theorem kw_1889 : Cond.code yX11_out cX11_out 2 (some .int) ∈ gWs := gWm 1889 (by decide +kernel) rfl
theorem kw_1886 : Cond.methodLink RL 58 yX11_out ∈ gWs := gWm 1886 (by decide +kernel) rfl
theorem kw_1887 : Cond.instanceMethod yX11_out ∈ gWs := gWm 1887 (by decide +kernel) rfl
theorem kw_1888 : Cond.selects RX11 yX11_out yX11_out ∈ gWs := gWm 1888 (by decide +kernel) rfl
theorem cl_L_58 : gCV RL 58 yX11_out cX11_out 2 (some .int) 1 := ⟨g_mk [.methodLink RL 58 yX11_out, .instanceMethod yX11_out, .selects yX11_out.cls yX11_out yX11_out, .initialized yX11_out.cls] (gWs_all kw_1889) (List.forall_mem_cons.mpr ⟨kw_1886, List.forall_mem_cons.mpr ⟨kw_1887, List.forall_mem_cons.mpr ⟨kw_1888, List.forall_mem_cons.mpr ⟨kw_238, fun _ h => nomatch h⟩⟩⟩⟩), rfl, by decide +kernel, by decide +kernel, by decide +kernel⟩
theorem kw_2935 : Cond.code yX12_out cX12_out 2 (some .int) ∈ gWs := gWm 2935 (by decide +kernel) rfl
theorem kw_2932 : Cond.methodLink RL 61 yX12_out ∈ gWs := gWm 2932 (by decide +kernel) rfl
theorem kw_2933 : Cond.instanceMethod yX12_out ∈ gWs := gWm 2933 (by decide +kernel) rfl
theorem kw_2934 : Cond.selects RX12 yX12_out yX12_out ∈ gWs := gWm 2934 (by decide +kernel) rfl
theorem cl_L_61 : gCV RL 61 yX12_out cX12_out 2 (some .int) 1 := ⟨g_mk [.methodLink RL 61 yX12_out, .instanceMethod yX12_out, .selects yX12_out.cls yX12_out yX12_out, .initialized yX12_out.cls] (gWs_all kw_2935) (List.forall_mem_cons.mpr ⟨kw_2932, List.forall_mem_cons.mpr ⟨kw_2933, List.forall_mem_cons.mpr ⟨kw_2934, List.forall_mem_cons.mpr ⟨kw_257, fun _ h => nomatch h⟩⟩⟩⟩), rfl, by decide +kernel, by decide +kernel, by decide +kernel⟩
theorem kw_1897 : Cond.code yX11_fuel cX11_fuel 1 (some .int) ∈ gWs := gWm 1897 (by decide +kernel) rfl
theorem kw_1894 : Cond.methodLink RL 75 yX11_fuel ∈ gWs := gWm 1894 (by decide +kernel) rfl
theorem kw_1895 : Cond.instanceMethod yX11_fuel ∈ gWs := gWm 1895 (by decide +kernel) rfl
theorem kw_1896 : Cond.selects RX11 yX11_fuel yX11_fuel ∈ gWs := gWm 1896 (by decide +kernel) rfl
theorem cl_L_75 : gCV RL 75 yX11_fuel cX11_fuel 1 (some .int) 0 := ⟨g_mk [.methodLink RL 75 yX11_fuel, .instanceMethod yX11_fuel, .selects yX11_fuel.cls yX11_fuel yX11_fuel, .initialized yX11_fuel.cls] (gWs_all kw_1897) (List.forall_mem_cons.mpr ⟨kw_1894, List.forall_mem_cons.mpr ⟨kw_1895, List.forall_mem_cons.mpr ⟨kw_1896, List.forall_mem_cons.mpr ⟨kw_238, fun _ h => nomatch h⟩⟩⟩⟩), rfl, by decide +kernel, by decide +kernel, by decide +kernel⟩
theorem kw_2947 : Cond.code yX12_fuel cX12_fuel 1 (some .int) ∈ gWs := gWm 2947 (by decide +kernel) rfl
theorem kw_2944 : Cond.methodLink RL 78 yX12_fuel ∈ gWs := gWm 2944 (by decide +kernel) rfl
theorem kw_2945 : Cond.instanceMethod yX12_fuel ∈ gWs := gWm 2945 (by decide +kernel) rfl
theorem kw_2946 : Cond.selects RX12 yX12_fuel yX12_fuel ∈ gWs := gWm 2946 (by decide +kernel) rfl
theorem cl_L_78 : gCV RL 78 yX12_fuel cX12_fuel 1 (some .int) 0 := ⟨g_mk [.methodLink RL 78 yX12_fuel, .instanceMethod yX12_fuel, .selects yX12_fuel.cls yX12_fuel yX12_fuel, .initialized yX12_fuel.cls] (gWs_all kw_2947) (List.forall_mem_cons.mpr ⟨kw_2944, List.forall_mem_cons.mpr ⟨kw_2945, List.forall_mem_cons.mpr ⟨kw_2946, List.forall_mem_cons.mpr ⟨kw_257, fun _ h => nomatch h⟩⟩⟩⟩), rfl, by decide +kernel, by decide +kernel, by decide +kernel⟩
theorem g43a {i : Int32} (h : ¬ nI 4 ≤ i) : i ≤ 3 := by
  rw [Int32.le_iff_toInt_le] at *
  have b : (nI 4).toInt = 4 := by decide
  have c : (3 : Int32).toInt = 3 := by decide
  omega
theorem g43b {i : Int32} (h : nI 4 ≤ i) : ¬ i ≤ 3 := by
  rw [Int32.le_iff_toInt_le] at *
  have b : (nI 4).toInt = 4 := by decide
  have c : (3 : Int32).toInt = 3 := by decide
  omega
theorem g21b {i : Int32} (h : ¬ i ≤ 1) : nI 2 ≤ i := by
  rw [Int32.le_iff_toInt_le] at *
  have b : (nI 2).toInt = 2 := by decide
  have c : (1 : Int32).toInt = 1 := by decide
  omega
theorem dL_law_0 : decode cL_law 0 = .ok (.new 8, 3) := by decide +kernel
theorem dL_law_3 : decode cL_law 3 = .ok (.dup, 1) := by decide +kernel
theorem dL_law_4 : decode cL_law 4 = .ok (.invokespecial 19, 3) := by decide +kernel
theorem dL_law_7 : decode cL_law 7 = .ok (.astore_n 1, 1) := by decide +kernel
theorem dL_law_8 : decode cL_law 8 = .ok (.new 20, 3) := by decide +kernel
theorem dL_law_11 : decode cL_law 11 = .ok (.dup, 1) := by decide +kernel
theorem dL_law_12 : decode cL_law 12 = .ok (.invokespecial 22, 3) := by decide +kernel
theorem dL_law_15 : decode cL_law 15 = .ok (.astore_n 2, 1) := by decide +kernel
theorem dL_law_16 : decode cL_law 16 = .ok (.iconst 1, 1) := by decide +kernel
theorem dL_law_17 : decode cL_law 17 = .ok (.newarray .long, 2) := by decide +kernel
theorem dL_law_19 : decode cL_law 19 = .ok (.astore_n 3, 1) := by decide +kernel
theorem dL_law_20 : decode cL_law 20 = .ok (.iconst 0, 1) := by decide +kernel
theorem dL_law_21 : decode cL_law 21 = .ok (.istore 4, 2) := by decide +kernel
theorem dL_law_23 : decode cL_law 23 = .ok (.iload 4, 2) := by decide +kernel
theorem dL_law_25 : decode cL_law 25 = .ok (.aload_n 0, 1) := by decide +kernel
theorem dL_law_26 : decode cL_law 26 = .ok (.arraylength, 1) := by decide +kernel
theorem dL_law_27 : decode cL_law 27 = .ok (.bipush 6, 2) := by decide +kernel
theorem dL_law_29 : decode cL_law 29 = .ok (.isub, 1) := by decide +kernel
theorem dL_law_30 : decode cL_law 30 = .ok (.if_icmp .gt 454, 3) := by decide +kernel
theorem dL_law_33 : decode cL_law 33 = .ok (.aload_n 0, 1) := by decide +kernel
theorem dL_law_34 : decode cL_law 34 = .ok (.iload 4, 2) := by decide +kernel
theorem dL_law_36 : decode cL_law 36 = .ok (.iaload, 1) := by decide +kernel
theorem dL_law_37 : decode cL_law 37 = .ok (.bipush 15, 2) := by decide +kernel
theorem dL_law_39 : decode cL_law 39 = .ok (.iand, 1) := by decide +kernel
theorem dL_law_40 : decode cL_law 40 = .ok (.tableswitch 438 0 11 #[64, 137, 162, 175, 188, 213, 238, 263, 276, 301, 369, 425], 64) := by decide +kernel
theorem dL_law_104 : decode cL_law 104 = .ok (.aload_n 1, 1) := by decide +kernel
theorem dL_law_105 : decode cL_law 105 = .ok (.aload_n 0, 1) := by decide +kernel
theorem dL_law_106 : decode cL_law 106 = .ok (.iload 4, 2) := by decide +kernel
theorem dL_law_108 : decode cL_law 108 = .ok (.iconst 1, 1) := by decide +kernel
theorem dL_law_109 : decode cL_law 109 = .ok (.iadd, 1) := by decide +kernel
theorem dL_law_110 : decode cL_law 110 = .ok (.iaload, 1) := by decide +kernel
theorem dL_law_111 : decode cL_law 111 = .ok (.aload_n 0, 1) := by decide +kernel
theorem dL_law_112 : decode cL_law 112 = .ok (.iload 4, 2) := by decide +kernel
theorem dL_law_114 : decode cL_law 114 = .ok (.iconst 2, 1) := by decide +kernel
theorem dL_law_115 : decode cL_law 115 = .ok (.iadd, 1) := by decide +kernel
theorem dL_law_116 : decode cL_law 116 = .ok (.iaload, 1) := by decide +kernel
theorem dL_law_117 : decode cL_law 117 = .ok (.aload_n 0, 1) := by decide +kernel
theorem dL_law_118 : decode cL_law 118 = .ok (.iload 4, 2) := by decide +kernel
theorem dL_law_120 : decode cL_law 120 = .ok (.iconst 3, 1) := by decide +kernel
theorem dL_law_121 : decode cL_law 121 = .ok (.iadd, 1) := by decide +kernel
theorem dL_law_122 : decode cL_law 122 = .ok (.iaload, 1) := by decide +kernel
theorem dL_law_123 : decode cL_law 123 = .ok (.aload_n 0, 1) := by decide +kernel
theorem dL_law_124 : decode cL_law 124 = .ok (.iload 4, 2) := by decide +kernel
theorem dL_law_126 : decode cL_law 126 = .ok (.iconst 4, 1) := by decide +kernel
theorem dL_law_127 : decode cL_law 127 = .ok (.iadd, 1) := by decide +kernel
theorem dL_law_128 : decode cL_law 128 = .ok (.iaload, 1) := by decide +kernel
theorem dL_law_129 : decode cL_law 129 = .ok (.aload_n 0, 1) := by decide +kernel
theorem dL_law_130 : decode cL_law 130 = .ok (.iload 4, 2) := by decide +kernel
theorem dL_law_132 : decode cL_law 132 = .ok (.iconst 5, 1) := by decide +kernel
theorem dL_law_133 : decode cL_law 133 = .ok (.iadd, 1) := by decide +kernel
theorem dL_law_134 : decode cL_law 134 = .ok (.iaload, 1) := by decide +kernel
theorem dL_law_135 : decode cL_law 135 = .ok (.invokevirtual 23, 3) := by decide +kernel
theorem dL_law_138 : decode cL_law 138 = .ok (.aload_n 2, 1) := by decide +kernel
theorem dL_law_139 : decode cL_law 139 = .ok (.aload_n 0, 1) := by decide +kernel
theorem dL_law_140 : decode cL_law 140 = .ok (.iload 4, 2) := by decide +kernel
theorem dL_law_142 : decode cL_law 142 = .ok (.iconst 1, 1) := by decide +kernel
theorem dL_law_143 : decode cL_law 143 = .ok (.iadd, 1) := by decide +kernel
theorem dL_law_144 : decode cL_law 144 = .ok (.iaload, 1) := by decide +kernel
theorem dL_law_145 : decode cL_law 145 = .ok (.aload_n 0, 1) := by decide +kernel
theorem dL_law_146 : decode cL_law 146 = .ok (.iload 4, 2) := by decide +kernel
theorem dL_law_148 : decode cL_law 148 = .ok (.iconst 2, 1) := by decide +kernel
theorem dL_law_149 : decode cL_law 149 = .ok (.iadd, 1) := by decide +kernel
theorem dL_law_150 : decode cL_law 150 = .ok (.iaload, 1) := by decide +kernel
theorem dL_law_151 : decode cL_law 151 = .ok (.aload_n 0, 1) := by decide +kernel
theorem dL_law_152 : decode cL_law 152 = .ok (.iload 4, 2) := by decide +kernel
theorem dL_law_154 : decode cL_law 154 = .ok (.iconst 3, 1) := by decide +kernel
theorem dL_law_155 : decode cL_law 155 = .ok (.iadd, 1) := by decide +kernel
theorem dL_law_156 : decode cL_law 156 = .ok (.iaload, 1) := by decide +kernel
theorem dL_law_157 : decode cL_law 157 = .ok (.aload_n 0, 1) := by decide +kernel
theorem dL_law_158 : decode cL_law 158 = .ok (.iload 4, 2) := by decide +kernel
theorem dL_law_160 : decode cL_law 160 = .ok (.iconst 4, 1) := by decide +kernel
theorem dL_law_161 : decode cL_law 161 = .ok (.iadd, 1) := by decide +kernel
theorem dL_law_162 : decode cL_law 162 = .ok (.iaload, 1) := by decide +kernel
theorem dL_law_163 : decode cL_law 163 = .ok (.aload_n 0, 1) := by decide +kernel
theorem dL_law_164 : decode cL_law 164 = .ok (.iload 4, 2) := by decide +kernel
theorem dL_law_166 : decode cL_law 166 = .ok (.iconst 5, 1) := by decide +kernel
theorem dL_law_167 : decode cL_law 167 = .ok (.iadd, 1) := by decide +kernel
theorem dL_law_168 : decode cL_law 168 = .ok (.iaload, 1) := by decide +kernel
theorem dL_law_169 : decode cL_law 169 = .ok (.invokevirtual 27, 3) := by decide +kernel
theorem dL_law_172 : decode cL_law 172 = .ok (.if_icmp .eq 306, 3) := by decide +kernel
theorem dL_law_175 : decode cL_law 175 = .ok (.iconst 0, 1) := by decide +kernel
theorem dL_law_176 : decode cL_law 176 = .ok (.ireturn, 1) := by decide +kernel
theorem dL_law_177 : decode cL_law 177 = .ok (.aload_n 1, 1) := by decide +kernel
theorem dL_law_178 : decode cL_law 178 = .ok (.aload_n 0, 1) := by decide +kernel
theorem dL_law_179 : decode cL_law 179 = .ok (.iload 4, 2) := by decide +kernel
theorem dL_law_181 : decode cL_law 181 = .ok (.iconst 1, 1) := by decide +kernel
theorem dL_law_182 : decode cL_law 182 = .ok (.iadd, 1) := by decide +kernel
theorem dL_law_183 : decode cL_law 183 = .ok (.iaload, 1) := by decide +kernel
theorem dL_law_184 : decode cL_law 184 = .ok (.invokevirtual 28, 3) := by decide +kernel
theorem dL_law_187 : decode cL_law 187 = .ok (.aload_n 2, 1) := by decide +kernel
theorem dL_law_188 : decode cL_law 188 = .ok (.aload_n 0, 1) := by decide +kernel
theorem dL_law_189 : decode cL_law 189 = .ok (.iload 4, 2) := by decide +kernel
theorem dL_law_191 : decode cL_law 191 = .ok (.iconst 1, 1) := by decide +kernel
theorem dL_law_192 : decode cL_law 192 = .ok (.iadd, 1) := by decide +kernel
theorem dL_law_193 : decode cL_law 193 = .ok (.iaload, 1) := by decide +kernel
theorem dL_law_194 : decode cL_law 194 = .ok (.invokevirtual 32, 3) := by decide +kernel
theorem dL_law_197 : decode cL_law 197 = .ok (.if_icmp .eq 281, 3) := by decide +kernel
theorem dL_law_200 : decode cL_law 200 = .ok (.iconst 0, 1) := by decide +kernel
theorem dL_law_201 : decode cL_law 201 = .ok (.ireturn, 1) := by decide +kernel
theorem dL_law_202 : decode cL_law 202 = .ok (.aload_n 1, 1) := by decide +kernel
theorem dL_law_203 : decode cL_law 203 = .ok (.invokevirtual 33, 3) := by decide +kernel
theorem dL_law_206 : decode cL_law 206 = .ok (.aload_n 2, 1) := by decide +kernel
theorem dL_law_207 : decode cL_law 207 = .ok (.invokevirtual 37, 3) := by decide +kernel
theorem dL_law_210 : decode cL_law 210 = .ok (.if_icmp .eq 268, 3) := by decide +kernel
theorem dL_law_213 : decode cL_law 213 = .ok (.iconst 0, 1) := by decide +kernel
theorem dL_law_214 : decode cL_law 214 = .ok (.ireturn, 1) := by decide +kernel
theorem dL_law_215 : decode cL_law 215 = .ok (.aload_n 1, 1) := by decide +kernel
theorem dL_law_216 : decode cL_law 216 = .ok (.invokevirtual 38, 3) := by decide +kernel
theorem dL_law_219 : decode cL_law 219 = .ok (.aload_n 2, 1) := by decide +kernel
theorem dL_law_220 : decode cL_law 220 = .ok (.invokevirtual 41, 3) := by decide +kernel
theorem dL_law_223 : decode cL_law 223 = .ok (.if_icmp .eq 255, 3) := by decide +kernel
theorem dL_law_226 : decode cL_law 226 = .ok (.iconst 0, 1) := by decide +kernel
theorem dL_law_227 : decode cL_law 227 = .ok (.ireturn, 1) := by decide +kernel
theorem dL_law_228 : decode cL_law 228 = .ok (.aload_n 1, 1) := by decide +kernel
theorem dL_law_229 : decode cL_law 229 = .ok (.aload_n 0, 1) := by decide +kernel
theorem dL_law_230 : decode cL_law 230 = .ok (.iload 4, 2) := by decide +kernel
theorem dL_law_232 : decode cL_law 232 = .ok (.iconst 1, 1) := by decide +kernel
theorem dL_law_233 : decode cL_law 233 = .ok (.iadd, 1) := by decide +kernel
theorem dL_law_234 : decode cL_law 234 = .ok (.iaload, 1) := by decide +kernel
theorem dL_law_235 : decode cL_law 235 = .ok (.invokevirtual 42, 3) := by decide +kernel
theorem dL_law_238 : decode cL_law 238 = .ok (.aload_n 2, 1) := by decide +kernel
theorem dL_law_239 : decode cL_law 239 = .ok (.aload_n 0, 1) := by decide +kernel
theorem dL_law_240 : decode cL_law 240 = .ok (.iload 4, 2) := by decide +kernel
theorem dL_law_242 : decode cL_law 242 = .ok (.iconst 1, 1) := by decide +kernel
theorem dL_law_243 : decode cL_law 243 = .ok (.iadd, 1) := by decide +kernel
theorem dL_law_244 : decode cL_law 244 = .ok (.iaload, 1) := by decide +kernel
theorem dL_law_245 : decode cL_law 245 = .ok (.invokevirtual 45, 3) := by decide +kernel
theorem dL_law_248 : decode cL_law 248 = .ok (.if_icmp .eq 230, 3) := by decide +kernel
theorem dL_law_251 : decode cL_law 251 = .ok (.iconst 0, 1) := by decide +kernel
theorem dL_law_252 : decode cL_law 252 = .ok (.ireturn, 1) := by decide +kernel
theorem dL_law_253 : decode cL_law 253 = .ok (.aload_n 1, 1) := by decide +kernel
theorem dL_law_254 : decode cL_law 254 = .ok (.aload_n 0, 1) := by decide +kernel
theorem dL_law_255 : decode cL_law 255 = .ok (.iload 4, 2) := by decide +kernel
theorem dL_law_257 : decode cL_law 257 = .ok (.iconst 1, 1) := by decide +kernel
theorem dL_law_258 : decode cL_law 258 = .ok (.iadd, 1) := by decide +kernel
theorem dL_law_259 : decode cL_law 259 = .ok (.iaload, 1) := by decide +kernel
theorem dL_law_260 : decode cL_law 260 = .ok (.invokevirtual 46, 3) := by decide +kernel
theorem dL_law_263 : decode cL_law 263 = .ok (.aload_n 2, 1) := by decide +kernel
theorem dL_law_264 : decode cL_law 264 = .ok (.aload_n 0, 1) := by decide +kernel
theorem dL_law_265 : decode cL_law 265 = .ok (.iload 4, 2) := by decide +kernel
theorem dL_law_267 : decode cL_law 267 = .ok (.iconst 1, 1) := by decide +kernel
theorem dL_law_268 : decode cL_law 268 = .ok (.iadd, 1) := by decide +kernel
theorem dL_law_269 : decode cL_law 269 = .ok (.iaload, 1) := by decide +kernel
theorem dL_law_270 : decode cL_law 270 = .ok (.invokevirtual 49, 3) := by decide +kernel
theorem dL_law_273 : decode cL_law 273 = .ok (.if_icmp .eq 205, 3) := by decide +kernel
theorem dL_law_276 : decode cL_law 276 = .ok (.iconst 0, 1) := by decide +kernel
theorem dL_law_277 : decode cL_law 277 = .ok (.ireturn, 1) := by decide +kernel
theorem dL_law_278 : decode cL_law 278 = .ok (.aload_n 1, 1) := by decide +kernel
theorem dL_law_279 : decode cL_law 279 = .ok (.aload_n 0, 1) := by decide +kernel
theorem dL_law_280 : decode cL_law 280 = .ok (.iload 4, 2) := by decide +kernel
theorem dL_law_282 : decode cL_law 282 = .ok (.iconst 1, 1) := by decide +kernel
theorem dL_law_283 : decode cL_law 283 = .ok (.iadd, 1) := by decide +kernel
theorem dL_law_284 : decode cL_law 284 = .ok (.iaload, 1) := by decide +kernel
theorem dL_law_285 : decode cL_law 285 = .ok (.invokevirtual 50, 3) := by decide +kernel
theorem dL_law_288 : decode cL_law 288 = .ok (.aload_n 2, 1) := by decide +kernel
theorem dL_law_289 : decode cL_law 289 = .ok (.aload_n 0, 1) := by decide +kernel
theorem dL_law_290 : decode cL_law 290 = .ok (.iload 4, 2) := by decide +kernel
theorem dL_law_292 : decode cL_law 292 = .ok (.iconst 1, 1) := by decide +kernel
theorem dL_law_293 : decode cL_law 293 = .ok (.iadd, 1) := by decide +kernel
theorem dL_law_294 : decode cL_law 294 = .ok (.iaload, 1) := by decide +kernel
theorem dL_law_295 : decode cL_law 295 = .ok (.invokevirtual 53, 3) := by decide +kernel
theorem dL_law_298 : decode cL_law 298 = .ok (.if_icmp .eq 180, 3) := by decide +kernel
theorem dL_law_301 : decode cL_law 301 = .ok (.iconst 0, 1) := by decide +kernel
theorem dL_law_302 : decode cL_law 302 = .ok (.ireturn, 1) := by decide +kernel
theorem dL_law_303 : decode cL_law 303 = .ok (.aload_n 1, 1) := by decide +kernel
theorem dL_law_304 : decode cL_law 304 = .ok (.invokevirtual 54, 3) := by decide +kernel
theorem dL_law_307 : decode cL_law 307 = .ok (.aload_n 2, 1) := by decide +kernel
theorem dL_law_308 : decode cL_law 308 = .ok (.invokevirtual 57, 3) := by decide +kernel
theorem dL_law_311 : decode cL_law 311 = .ok (.if_icmp .eq 167, 3) := by decide +kernel
theorem dL_law_314 : decode cL_law 314 = .ok (.iconst 0, 1) := by decide +kernel
theorem dL_law_315 : decode cL_law 315 = .ok (.ireturn, 1) := by decide +kernel
theorem dL_law_316 : decode cL_law 316 = .ok (.aload_n 1, 1) := by decide +kernel
theorem dL_law_317 : decode cL_law 317 = .ok (.aload_n 0, 1) := by decide +kernel
theorem dL_law_318 : decode cL_law 318 = .ok (.iload 4, 2) := by decide +kernel
theorem dL_law_320 : decode cL_law 320 = .ok (.iconst 1, 1) := by decide +kernel
theorem dL_law_321 : decode cL_law 321 = .ok (.iadd, 1) := by decide +kernel
theorem dL_law_322 : decode cL_law 322 = .ok (.iaload, 1) := by decide +kernel
theorem dL_law_323 : decode cL_law 323 = .ok (.invokevirtual 58, 3) := by decide +kernel
theorem dL_law_326 : decode cL_law 326 = .ok (.aload_n 2, 1) := by decide +kernel
theorem dL_law_327 : decode cL_law 327 = .ok (.aload_n 0, 1) := by decide +kernel
theorem dL_law_328 : decode cL_law 328 = .ok (.iload 4, 2) := by decide +kernel
theorem dL_law_330 : decode cL_law 330 = .ok (.iconst 1, 1) := by decide +kernel
theorem dL_law_331 : decode cL_law 331 = .ok (.iadd, 1) := by decide +kernel
theorem dL_law_332 : decode cL_law 332 = .ok (.iaload, 1) := by decide +kernel
theorem dL_law_333 : decode cL_law 333 = .ok (.invokevirtual 61, 3) := by decide +kernel
theorem dL_law_336 : decode cL_law 336 = .ok (.if_icmp .eq 142, 3) := by decide +kernel
theorem dL_law_339 : decode cL_law 339 = .ok (.iconst 0, 1) := by decide +kernel
theorem dL_law_340 : decode cL_law 340 = .ok (.ireturn, 1) := by decide +kernel
theorem dL_law_341 : decode cL_law 341 = .ok (.aload_n 1, 1) := by decide +kernel
theorem dL_law_342 : decode cL_law 342 = .ok (.aload_n 0, 1) := by decide +kernel
theorem dL_law_343 : decode cL_law 343 = .ok (.iload 4, 2) := by decide +kernel
theorem dL_law_345 : decode cL_law 345 = .ok (.iconst 1, 1) := by decide +kernel
theorem dL_law_346 : decode cL_law 346 = .ok (.iadd, 1) := by decide +kernel
theorem dL_law_347 : decode cL_law 347 = .ok (.iaload, 1) := by decide +kernel
theorem dL_law_348 : decode cL_law 348 = .ok (.aload_n 0, 1) := by decide +kernel
theorem dL_law_349 : decode cL_law 349 = .ok (.iload 4, 2) := by decide +kernel
theorem dL_law_351 : decode cL_law 351 = .ok (.iconst 2, 1) := by decide +kernel
theorem dL_law_352 : decode cL_law 352 = .ok (.iadd, 1) := by decide +kernel
theorem dL_law_353 : decode cL_law 353 = .ok (.iaload, 1) := by decide +kernel
theorem dL_law_354 : decode cL_law 354 = .ok (.aload_n 3, 1) := by decide +kernel
theorem dL_law_355 : decode cL_law 355 = .ok (.invokestatic 62, 3) := by decide +kernel
theorem dL_law_358 : decode cL_law 358 = .ok (.istore 5, 2) := by decide +kernel
theorem dL_law_360 : decode cL_law 360 = .ok (.aload_n 2, 1) := by decide +kernel
theorem dL_law_361 : decode cL_law 361 = .ok (.aload_n 0, 1) := by decide +kernel
theorem dL_law_362 : decode cL_law 362 = .ok (.iload 4, 2) := by decide +kernel
theorem dL_law_364 : decode cL_law 364 = .ok (.iconst 1, 1) := by decide +kernel
theorem dL_law_365 : decode cL_law 365 = .ok (.iadd, 1) := by decide +kernel
theorem dL_law_366 : decode cL_law 366 = .ok (.iaload, 1) := by decide +kernel
theorem dL_law_367 : decode cL_law 367 = .ok (.aload_n 0, 1) := by decide +kernel
theorem dL_law_368 : decode cL_law 368 = .ok (.iload 4, 2) := by decide +kernel
theorem dL_law_370 : decode cL_law 370 = .ok (.iconst 2, 1) := by decide +kernel
theorem dL_law_371 : decode cL_law 371 = .ok (.iadd, 1) := by decide +kernel
theorem dL_law_372 : decode cL_law 372 = .ok (.iaload, 1) := by decide +kernel
theorem dL_law_373 : decode cL_law 373 = .ok (.invokevirtual 67, 3) := by decide +kernel
theorem dL_law_376 : decode cL_law 376 = .ok (.istore 6, 2) := by decide +kernel
theorem dL_law_378 : decode cL_law 378 = .ok (.aload_n 2, 1) := by decide +kernel
theorem dL_law_379 : decode cL_law 379 = .ok (.invokevirtual 68, 3) := by decide +kernel
theorem dL_law_382 : decode cL_law 382 = .ok (.iload 5, 2) := by decide +kernel
theorem dL_law_384 : decode cL_law 384 = .ok (.if_icmp .eq 5, 3) := by decide +kernel
theorem dL_law_387 : decode cL_law 387 = .ok (.iconst 0, 1) := by decide +kernel
theorem dL_law_388 : decode cL_law 388 = .ok (.ireturn, 1) := by decide +kernel
theorem dL_law_389 : decode cL_law 389 = .ok (.iload 5, 2) := by decide +kernel
theorem dL_law_391 : decode cL_law 391 = .ok (.ifCond .ne 15, 3) := by decide +kernel
theorem dL_law_394 : decode cL_law 394 = .ok (.aload_n 3, 1) := by decide +kernel
theorem dL_law_395 : decode cL_law 395 = .ok (.iconst 0, 1) := by decide +kernel
theorem dL_law_396 : decode cL_law 396 = .ok (.laload, 1) := by decide +kernel
theorem dL_law_397 : decode cL_law 397 = .ok (.iload 6, 2) := by decide +kernel
theorem dL_law_399 : decode cL_law 399 = .ok (.i2l, 1) := by decide +kernel
theorem dL_law_400 : decode cL_law 400 = .ok (.lcmp, 1) := by decide +kernel
theorem dL_law_401 : decode cL_law 401 = .ok (.ifCond .eq 5, 3) := by decide +kernel
theorem dL_law_404 : decode cL_law 404 = .ok (.iconst 0, 1) := by decide +kernel
theorem dL_law_405 : decode cL_law 405 = .ok (.ireturn, 1) := by decide +kernel
theorem dL_law_406 : decode cL_law 406 = .ok (.goto 72, 3) := by decide +kernel
theorem dL_law_409 : decode cL_law 409 = .ok (.aload_n 1, 1) := by decide +kernel
theorem dL_law_410 : decode cL_law 410 = .ok (.aload_n 0, 1) := by decide +kernel
theorem dL_law_411 : decode cL_law 411 = .ok (.iload 4, 2) := by decide +kernel
theorem dL_law_413 : decode cL_law 413 = .ok (.iconst 1, 1) := by decide +kernel
theorem dL_law_414 : decode cL_law 414 = .ok (.iadd, 1) := by decide +kernel
theorem dL_law_415 : decode cL_law 415 = .ok (.iaload, 1) := by decide +kernel
theorem dL_law_416 : decode cL_law 416 = .ok (.aload_n 3, 1) := by decide +kernel
theorem dL_law_417 : decode cL_law 417 = .ok (.invokestatic 71, 3) := by decide +kernel
theorem dL_law_420 : decode cL_law 420 = .ok (.istore 5, 2) := by decide +kernel
theorem dL_law_422 : decode cL_law 422 = .ok (.aload_n 2, 1) := by decide +kernel
theorem dL_law_423 : decode cL_law 423 = .ok (.aload_n 0, 1) := by decide +kernel
theorem dL_law_424 : decode cL_law 424 = .ok (.iload 4, 2) := by decide +kernel
theorem dL_law_426 : decode cL_law 426 = .ok (.iconst 1, 1) := by decide +kernel
theorem dL_law_427 : decode cL_law 427 = .ok (.iadd, 1) := by decide +kernel
theorem dL_law_428 : decode cL_law 428 = .ok (.iaload, 1) := by decide +kernel
theorem dL_law_429 : decode cL_law 429 = .ok (.invokevirtual 74, 3) := by decide +kernel
theorem dL_law_432 : decode cL_law 432 = .ok (.istore 6, 2) := by decide +kernel
theorem dL_law_434 : decode cL_law 434 = .ok (.aload_n 2, 1) := by decide +kernel
theorem dL_law_435 : decode cL_law 435 = .ok (.invokevirtual 68, 3) := by decide +kernel
theorem dL_law_438 : decode cL_law 438 = .ok (.iload 5, 2) := by decide +kernel
theorem dL_law_440 : decode cL_law 440 = .ok (.if_icmp .eq 5, 3) := by decide +kernel
theorem dL_law_443 : decode cL_law 443 = .ok (.iconst 0, 1) := by decide +kernel
theorem dL_law_444 : decode cL_law 444 = .ok (.ireturn, 1) := by decide +kernel
theorem dL_law_445 : decode cL_law 445 = .ok (.iload 5, 2) := by decide +kernel
theorem dL_law_447 : decode cL_law 447 = .ok (.ifCond .ne 15, 3) := by decide +kernel
theorem dL_law_450 : decode cL_law 450 = .ok (.aload_n 3, 1) := by decide +kernel
theorem dL_law_451 : decode cL_law 451 = .ok (.iconst 0, 1) := by decide +kernel
theorem dL_law_452 : decode cL_law 452 = .ok (.laload, 1) := by decide +kernel
theorem dL_law_453 : decode cL_law 453 = .ok (.iload 6, 2) := by decide +kernel
theorem dL_law_455 : decode cL_law 455 = .ok (.i2l, 1) := by decide +kernel
theorem dL_law_456 : decode cL_law 456 = .ok (.lcmp, 1) := by decide +kernel
theorem dL_law_457 : decode cL_law 457 = .ok (.ifCond .eq 5, 3) := by decide +kernel
theorem dL_law_460 : decode cL_law 460 = .ok (.iconst 0, 1) := by decide +kernel
theorem dL_law_461 : decode cL_law 461 = .ok (.ireturn, 1) := by decide +kernel
theorem dL_law_462 : decode cL_law 462 = .ok (.goto 16, 3) := by decide +kernel
theorem dL_law_465 : decode cL_law 465 = .ok (.aload_n 1, 1) := by decide +kernel
theorem dL_law_466 : decode cL_law 466 = .ok (.invokevirtual 75, 3) := by decide +kernel
theorem dL_law_469 : decode cL_law 469 = .ok (.aload_n 2, 1) := by decide +kernel
theorem dL_law_470 : decode cL_law 470 = .ok (.invokevirtual 78, 3) := by decide +kernel
theorem dL_law_473 : decode cL_law 473 = .ok (.if_icmp .eq 5, 3) := by decide +kernel
theorem dL_law_476 : decode cL_law 476 = .ok (.iconst 0, 1) := by decide +kernel
theorem dL_law_477 : decode cL_law 477 = .ok (.ireturn, 1) := by decide +kernel
theorem dL_law_478 : decode cL_law 478 = .ok (.iinc 4 6, 3) := by decide +kernel
theorem dL_law_481 : decode cL_law 481 = .ok (.goto (-458), 3) := by decide +kernel
theorem dL_law_484 : decode cL_law 484 = .ok (.iconst 1, 1) := by decide +kernel
theorem dL_law_485 : decode cL_law 485 = .ok (.ireturn, 1) := by decide +kernel
set_option maxHeartbeats 40000000 in
set_option maxRecDepth 100000 in
theorem law_body {nm : String} {d : gD} {b : Nat} {X : gX} {Q : State → Prop} {b0 L : Nat} {xs : Nat → Int32} (hC : gC RL cL_law 7 (some .boolean) nm room_1 d b X) (hl : X.la.stackTraces = false) (hX : va_X b0 L xs X.st X.st.heap) (hb : b0 < X.st.heap.size) (hb2 : b0 < b) (hL : L < 7) (hend : ∀ (F : gM) (k n : Nat) (lv : List (Option Value)), k ≤ 600002 → n ≤ 7302232 → gG X d b Q F k n 485 lv [.int 1]) : gG X d b Q (fun _ => g0) 0 0 0 [some (.ref b0), none, none, none, none, none, none] [] := by
  have END : ∀ (F6 : gM) (k6 n6 : Nat), k6 ≤ 600002 → n6 ≤ 7302232 → L = 6 → gG X d b Q F6 k6 n6 478 [some (.ref b0), none, none, none, some (.int 0), none, none] [] := by
    intro F6 k6 n6 hk6 hn6 hL6
    obtain ⟨x1, ex1⟩ : ∃ y : Int32, y = 0 + 6 := ⟨_, rfl⟩
    refine g_iinc (v := x1) (lv' := [some (.ref b0), none, none, none, some (.int x1), none, none]) hC dL_law_478 rfl (by rw [ex1]; rfl) rfl rfl ?_
    refine g_goto (tgt := 23) hC dL_law_481 (by decide) ?_
    refine g_iload hC dL_law_23 rfl ?_
    refine g_aload_n hC dL_law_25 rfl ?_
    refine g_scl hC hX hb hb2 dL_law_26 ?_
    refine g_bipush (v := 6) hC dL_law_27 rfl ?_
    refine g_isub hC dL_law_29 ?_
    refine g_vi (fun x2 ex2 => ?_)
    refine g_icmp_gt (tgt := 484) hC dL_law_30 (by decide) (fun c3 => ?_) (fun c3 => ?_)
    · refine g_iconst (v := 1) hC dL_law_484 rfl ?_
      exact hend _ _ _ _ hk6 hn6
    · exact absurd (by subst_vars; decide) c3
  refine g_new hC nl_L_8 (Nat.le_of_ble_eq_true rfl) (Nat.le_of_ble_eq_true rfl) dL_law_0 (fun o4 e_o4 => ?_)
  refine g_vF (fun F5 hF5 => ?_)
  have ft : F5 o4 = .inr (11, [.null, .null, .null, .null, .null, .null, .null, .null, .int 0, .int 0]) := by rw [hF5]; exact va_up_self _ _ _
  refine g_dup hC dL_law_3 rfl ?_
  refine g_callIv (As := []) hC (k_W X.la d b F5 o4 ft) cl_L_19 rfl rfl (Nat.le_of_ble_eq_true rfl) (gFit_law (by decide) (by decide) (Nat.le_of_ble_eq_true rfl) (Nat.le_of_ble_eq_true rfl)) dL_law_4 (fun G2 p => ?_)
  obtain ⟨u_a0, u_q1, u_a2, u_q3, u_a4, u_q5, u_a6, u_q7, u_a8, u_q9, u_a10, u_q11, u_a12, u_q13, u_a14, u_q15, u_a16, u_q17, u_a18, u_q19, u_a20, u_q21, u_a22, u_q23, u_a24, u_q25, u_a26, u_q27, u_a28, u_q29, u_a30, u_q31, u_a32, u_q33, u_a34, u_q35, u_a36, u_q37, u_a38, u_q39, u_a40, u_q41, u_a42, u_q43, u_a44, u_q45, u_a46, u_q47, u_a48, u_q49, u_a50, u_q51, u_a52, u_q53, u_a54, u_q55, u_a56, u_q57, u_a58, u_q59, u_a60, u_q61, u_a62, u_q63, u_a64, u_q65, u_a66, u_q67, u_o68, u_q69, u_o70, u_q71, u_o72, u_q73, u_o74, u_q75, u_q76, u_o77, u_q78, u_o79, u_q80, u_a81, u_q82, u_a83, u_q84, u_a85, u_q86, u_a87, u_q88, u_q89, u_o90, u_o91, u_o92, u_o93, u_o94, u_o95, u_o96, u_o97, u_z98, u_z99, u_o100, u_o101, u_kn0, hcn, kk0, kk1, kk2, kk3, kk4, kk5, kk6, kk7, kk8, kk9, kk10, kk11⟩ := p
  obtain ⟨Y, S, hY, hW, ⟨hzn, hn45, hv⟩, hnP⟩ := gWT_of hcn kk0 kk1 kk2 kk3 kk4 kk5 kk6 kk7 kk8 kk9 kk10 kk11
  clear hcn kk0 kk1 kk2 kk3 kk4 kk5 kk6 kk7 kk8 kk9 kk10 kk11
  refine g_astore_n (lv' := [some (.ref b0), some (.ref o4), none, none, none, none, none]) hC dL_law_7 (Nat.le_of_ble_eq_true rfl) rfl rfl ?_
  refine g_new hC nl_L_20 (Nat.le_of_ble_eq_true rfl) (Nat.le_of_ble_eq_true rfl) dL_law_8 (fun o6 e_o6 => ?_)
  refine g_vF (fun F7 hF7 => ?_)
  have fr : gRo F7 o6 gdv := by show F7 o6 = _; rw [hF7]; exact va_up_self _ _ _
  refine g_dup hC dL_law_11 rfl ?_
  refine g_callIv (As := []) hC (k_R X.la d b F7 o6 fr) cl_L_22 rfl rfl (Nat.le_of_ble_eq_true rfl) (gFit_law (by decide) (by decide) (Nat.le_of_ble_eq_true rfl) (Nat.le_of_ble_eq_true rfl)) dL_law_12 (fun G4 p => ?_)
  obtain ⟨f, w0, w1, w2, w3, w4, w5, w6, w7, w8, ho, hex, ⟨v0, v2, v12, v99, v101, v105, v104⟩, ⟨v1, v39, v40, v41, v42, v112, v113, v116, v98⟩, ⟨⟨m0, gf0⟩, ⟨m1, gf1⟩, ⟨m2, gf2⟩, ⟨m3, gf3⟩, ⟨m4, gf4⟩, ⟨m5, gf5⟩, ⟨m6, gf6⟩, ⟨m7, gf7⟩, ⟨m8, gf8⟩⟩, hnd⟩ := p
  refine g_astore_n (lv' := [some (.ref b0), some (.ref o4), some (.ref o6), none, none, none, none]) hC dL_law_15 (Nat.le_of_ble_eq_true rfl) rfl rfl ?_
  refine g_iconst (v := 1) hC dL_law_16 rfl ?_
  refine g_newa (atype := .long) (N := 1) (a0 := (1, .inr (.inl (fun _ => 0)))) hC 3 kw_2948 rfl (by decide) (fun _ => rfl) (by decide) rfl (Nat.le_of_ble_eq_true rfl) (Nat.le_of_ble_eq_true rfl) (Nat.le_of_ble_eq_true rfl) dL_law_17 (fun z e_z => ?_)
  refine g_vF (fun G5 h5 => ?_)
  refine g_astore_n (lv' := [some (.ref b0), some (.ref o4), some (.ref o6), some (.ref z), none, none, none]) hC dL_law_19 (Nat.le_of_ble_eq_true rfl) rfl rfl ?_
  obtain ⟨hW5, k5⟩ := gLaw0 (ws := [w0, w1, w2, w3, w4, w5, w6, w7, w8]) hW e_o6 hF7 g0_o hex (fun x hx => by
    simp only [List.mem_cons, List.not_mem_nil, or_false] at hx
    rcases hx with rfl | rfl | rfl | rfl | rfl | rfl | rfl | rfl | rfl
    · exact ⟨gf0, by rw [m0]; exact g0_a⟩
    · exact ⟨gf1, by rw [m1]; exact g0_a⟩
    · exact ⟨gf2, by rw [m2]; exact g0_a⟩
    · exact ⟨gf3, by rw [m3]; exact g0_a⟩
    · exact ⟨gf4, by rw [m4]; exact g0_a⟩
    · exact ⟨gf5, by rw [m5]; exact g0_a⟩
    · exact ⟨gf6, by rw [m6]; exact g0_a⟩
    · exact ⟨gf7, by rw [m7]; exact g0_a⟩
    · exact ⟨gf8, by rw [m8]; exact g0_a⟩) e_z h5 g0_a
  have ho5 : gRo G5 o6 f := (k5 o6 (by rw [ho]; exact g0_o)).trans ho
  have a0 : G5 w0 = .inl (gY d, 6000, .inl (fun _ => 0)) := (k5 _ (by rw [m0]; exact g0_a)).trans m0
  have a1 : G5 w1 = .inl (gI d, 9000, .inl (fun _ => 0)) := (k5 _ (by rw [m1]; exact g0_a)).trans m1
  have a2 : G5 w2 = .inl (gI d, 9000, .inl (fun _ => 0)) := (k5 _ (by rw [m2]; exact g0_a)).trans m2
  have a3 : G5 w3 = .inl (gI d, 9000, .inl (fun _ => 0)) := (k5 _ (by rw [m3]; exact g0_a)).trans m3
  have a4 : G5 w4 = .inl (gI d, 9000, .inl (fun _ => 0)) := (k5 _ (by rw [m4]; exact g0_a)).trans m4
  have a5 : G5 w5 = .inl (gI d, 4, .inl (fun _ => 0)) := (k5 _ (by rw [m5]; exact g0_a)).trans m5
  have a6 : G5 w6 = .inl (gI d, 4, .inl (fun _ => 0)) := (k5 _ (by rw [m6]; exact g0_a)).trans m6
  have a7 : G5 w7 = .inl (gI d, 2, .inl (fun _ => 0)) := (k5 _ (by rw [m7]; exact g0_a)).trans m7
  have a8 : G5 w8 = .inl (gI d, 65536, .inl (fun _ => 0)) := (k5 _ (by rw [m8]; exact g0_a)).trans m8
  have z5 : G5 z = .inl (gJ d, 1, .inr (.inl (fun _ => 0))) := by rw [h5]; exact va_up_self _ _ _
  have hne01 : w1 ≠ w2 := fun e => absurd (gNdup hnd (i := 1) (j := 2) rfl (e ▸ rfl)) (by decide)
  have hne02 : w1 ≠ w3 := fun e => absurd (gNdup hnd (i := 1) (j := 3) rfl (e ▸ rfl)) (by decide)
  have hne03 : w1 ≠ w4 := fun e => absurd (gNdup hnd (i := 1) (j := 4) rfl (e ▸ rfl)) (by decide)
  have hne12 : w2 ≠ w3 := fun e => absurd (gNdup hnd (i := 2) (j := 3) rfl (e ▸ rfl)) (by decide)
  have hne13 : w2 ≠ w4 := fun e => absurd (gNdup hnd (i := 2) (j := 4) rfl (e ▸ rfl)) (by decide)
  have hne23 : w3 ≠ w4 := fun e => absurd (gNdup hnd (i := 3) (j := 4) rfl (e ▸ rfl)) (by decide)
  have hne56 : w5 ≠ w6 := fun e => absurd (gNdup hnd (i := 5) (j := 6) rfl (e ▸ rfl)) (by decide)
  subst hY
  refine g_iconst (v := 0) hC dL_law_20 rfl ?_
  refine g_istore (lv' := [some (.ref b0), some (.ref (gO' Y 0)), some (.ref o6), some (.ref z), some (.int 0), none, none]) hC dL_law_21 (Nat.le_of_ble_eq_true rfl) rfl rfl ?_
  refine g_iload hC dL_law_23 rfl ?_
  refine g_aload_n hC dL_law_25 rfl ?_
  refine g_scl hC hX hb hb2 dL_law_26 ?_
  refine g_bipush (v := 6) hC dL_law_27 rfl ?_
  refine g_isub hC dL_law_29 ?_
  refine g_vi (fun x8 ex8 => ?_)
  refine g_icmp_gt (tgt := 484) hC dL_law_30 (by decide) (fun c9 => ?_) (fun c9 => ?_)
  · refine g_iconst (v := 1) hC dL_law_484 rfl ?_
    exact hend _ _ _ _ (Nat.le_of_ble_eq_true rfl) (Nat.le_of_ble_eq_true rfl)
  · have hL6 := gL6 L hL (by subst_vars; exact c9)
    subst hL6
    refine g_aload_n hC dL_law_33 rfl ?_
    refine g_iload hC dL_law_34 rfl ?_
    refine g_sld hC hX hb hb2 (by decide) dL_law_36 ?_
    refine g_vi (fun x10 ex10 => ?_)
    have zx10 : x10 = xs 0 := by rw [ex10]; rfl
    subst zx10
    refine g_bipush (v := 15) hC dL_law_37 rfl ?_
    refine g_iand hC dL_law_39 ?_
    refine g_vi (fun x11 ex11 => ?_)
    obtain ⟨N, hN, eN⟩ := gop (xs 0)
    have zz := ex11.trans eN
    subst zz
    obtain rfl | rfl | rfl | rfl | rfl | rfl | rfl | rfl | rfl | rfl | rfl | rfl | rfl | rfl | rfl | rfl := (by omega : N = 0 ∨ N = 1 ∨ N = 2 ∨ N = 3 ∨ N = 4 ∨ N = 5 ∨ N = 6 ∨ N = 7 ∨ N = 8 ∨ N = 9 ∨ N = 10 ∨ N = 11 ∨ N = 12 ∨ N = 13 ∨ N = 14 ∨ N = 15)
    · refine g_tableIn (off := 64) (tgt := 104) hC dL_law_40 (by decide) (by decide) rfl (by decide) ?_
      refine g_aload_n hC dL_law_104 rfl ?_
      refine g_aload_n hC dL_law_105 rfl ?_
      refine g_iload hC dL_law_106 rfl ?_
      refine g_iconst (v := 1) hC dL_law_108 rfl ?_
      refine g_iadd hC dL_law_109 ?_
      refine g_vi (fun x12 ex12 => ?_)
      refine g_sld hC hX hb hb2 (by rw [ex12]; decide) dL_law_110 ?_
      refine g_vi (fun x13 ex13 => ?_)
      have zx13 : x13 = xs 1 := by rw [ex13, ex12]; rfl
      subst zx13
      refine g_aload_n hC dL_law_111 rfl ?_
      refine g_iload hC dL_law_112 rfl ?_
      refine g_iconst (v := 2) hC dL_law_114 rfl ?_
      refine g_iadd hC dL_law_115 ?_
      refine g_vi (fun x14 ex14 => ?_)
      refine g_sld hC hX hb hb2 (by rw [ex14]; decide) dL_law_116 ?_
      refine g_vi (fun x15 ex15 => ?_)
      have zx15 : x15 = xs 2 := by rw [ex15, ex14]; rfl
      subst zx15
      refine g_aload_n hC dL_law_117 rfl ?_
      refine g_iload hC dL_law_118 rfl ?_
      refine g_iconst (v := 3) hC dL_law_120 rfl ?_
      refine g_iadd hC dL_law_121 ?_
      refine g_vi (fun x16 ex16 => ?_)
      refine g_sld hC hX hb hb2 (by rw [ex16]; decide) dL_law_122 ?_
      refine g_vi (fun x17 ex17 => ?_)
      have zx17 : x17 = xs 3 := by rw [ex17, ex16]; rfl
      subst zx17
      refine g_aload_n hC dL_law_123 rfl ?_
      refine g_iload hC dL_law_124 rfl ?_
      refine g_iconst (v := 4) hC dL_law_126 rfl ?_
      refine g_iadd hC dL_law_127 ?_
      refine g_vi (fun x18 ex18 => ?_)
      refine g_sld hC hX hb hb2 (by rw [ex18]; decide) dL_law_128 ?_
      refine g_vi (fun x19 ex19 => ?_)
      have zx19 : x19 = xs 4 := by rw [ex19, ex18]; rfl
      subst zx19
      refine g_aload_n hC dL_law_129 rfl ?_
      refine g_iload hC dL_law_130 rfl ?_
      refine g_iconst (v := 5) hC dL_law_132 rfl ?_
      refine g_iadd hC dL_law_133 ?_
      refine g_vi (fun x20 ex20 => ?_)
      refine g_sld hC hX hb hb2 (by rw [ex20]; decide) dL_law_134 ?_
      refine g_vi (fun x21 ex21 => ?_)
      have zx21 : x21 = xs 5 := by rw [ex21, ex20]; rfl
      subst zx21
      refine g_callVi (As := [.int (xs 1), .int (xs 2), .int (xs 3), .int (xs 4), .int (xs 5)]) hC rfl (hW5.o 0 (by decide)) (c_W_feed0 X.la d b _ G5 S hW5 ((hzn 0 (by decide) rfl).1) ((hzn 0 (by decide) rfl).2) (xs 1) (xs 2) (xs 3) (xs 4) (xs 5)) cl_L_23 rfl rfl (Nat.le_of_ble_eq_true rfl) (gFit_law (by decide) (by decide) (Nat.le_of_ble_eq_true rfl) (Nat.le_of_ble_eq_true rfl)) dL_law_135 (fun r22 F23 p24 => ?_)
      obtain ⟨rfl, S1, hW6, hK, -⟩ := p24
      refine g_aload_n hC dL_law_138 rfl ?_
      refine g_aload_n hC dL_law_139 rfl ?_
      refine g_iload hC dL_law_140 rfl ?_
      refine g_iconst (v := 1) hC dL_law_142 rfl ?_
      refine g_iadd hC dL_law_143 ?_
      refine g_vi (fun x25 ex25 => ?_)
      refine g_sld hC hX hb hb2 (by rw [ex25]; decide) dL_law_144 ?_
      refine g_vi (fun x26 ex26 => ?_)
      have zx26 : x26 = xs 1 := by rw [ex26, ex25]; rfl
      subst zx26
      refine g_aload_n hC dL_law_145 rfl ?_
      refine g_iload hC dL_law_146 rfl ?_
      refine g_iconst (v := 2) hC dL_law_148 rfl ?_
      refine g_iadd hC dL_law_149 ?_
      refine g_vi (fun x27 ex27 => ?_)
      refine g_sld hC hX hb hb2 (by rw [ex27]; decide) dL_law_150 ?_
      refine g_vi (fun x28 ex28 => ?_)
      have zx28 : x28 = xs 2 := by rw [ex28, ex27]; rfl
      subst zx28
      refine g_aload_n hC dL_law_151 rfl ?_
      refine g_iload hC dL_law_152 rfl ?_
      refine g_iconst (v := 3) hC dL_law_154 rfl ?_
      refine g_iadd hC dL_law_155 ?_
      refine g_vi (fun x29 ex29 => ?_)
      refine g_sld hC hX hb hb2 (by rw [ex29]; decide) dL_law_156 ?_
      refine g_vi (fun x30 ex30 => ?_)
      have zx30 : x30 = xs 3 := by rw [ex30, ex29]; rfl
      subst zx30
      refine g_aload_n hC dL_law_157 rfl ?_
      refine g_iload hC dL_law_158 rfl ?_
      refine g_iconst (v := 4) hC dL_law_160 rfl ?_
      refine g_iadd hC dL_law_161 ?_
      refine g_vi (fun x31 ex31 => ?_)
      refine g_sld hC hX hb hb2 (by rw [ex31]; decide) dL_law_162 ?_
      refine g_vi (fun x32 ex32 => ?_)
      have zx32 : x32 = xs 4 := by rw [ex32, ex31]; rfl
      subst zx32
      refine g_aload_n hC dL_law_163 rfl ?_
      refine g_iload hC dL_law_164 rfl ?_
      refine g_iconst (v := 5) hC dL_law_166 rfl ?_
      refine g_iadd hC dL_law_167 ?_
      refine g_vi (fun x33 ex33 => ?_)
      refine g_sld hC hX hb hb2 (by rw [ex33]; decide) dL_law_168 ?_
      refine g_vi (fun x34 ex34 => ?_)
      have zx34 : x34 = xs 5 := by rw [ex34, ex33]; rfl
      subst zx34
      refine g_callVi (As := [.int (xs 1), .int (xs 2), .int (xs 3), .int (xs 4), .int (xs 5)]) hC rfl ((hK o6 (Or.inl rfl)).trans ho5) (r_feed X.la d b F23 r f (xs 1) (xs 2) (xs 3) (xs 4) (xs 5) w0 ((hK o6 (Or.inl rfl)).trans ho5) v2 v1 ((hK w0 (Or.inr (Or.inl (List.mem_of_getElem? (i := 0) rfl)))).trans a0) ) cl_L_27 rfl rfl (Nat.le_of_ble_eq_true rfl) (gFit_law (by decide) (by decide) (Nat.le_of_ble_eq_true rfl) (Nat.le_of_ble_eq_true rfl)) dL_law_169 (fun r35 F36 p37 => ?_)
      refine g_icmp_eq (tgt := 478) hC dL_law_172 (by decide) (fun _ => ?_) (fun c => absurd p37.symm c)
      exact g_lv (lv' := [some (.ref b0), none, none, none, some (.int 0), none, none]) ⟨rfl, rfl, trivial⟩ (END _ _ _ (Nat.le_of_ble_eq_true rfl) (Nat.le_of_ble_eq_true rfl) rfl)
    · refine g_tableIn (off := 137) (tgt := 177) hC dL_law_40 (by decide) (by decide) rfl (by decide) ?_
      refine g_aload_n hC dL_law_177 rfl ?_
      refine g_aload_n hC dL_law_178 rfl ?_
      refine g_iload hC dL_law_179 rfl ?_
      refine g_iconst (v := 1) hC dL_law_181 rfl ?_
      refine g_iadd hC dL_law_182 ?_
      refine g_vi (fun x38 ex38 => ?_)
      refine g_sld hC hX hb hb2 (by rw [ex38]; decide) dL_law_183 ?_
      refine g_vi (fun x39 ex39 => ?_)
      have zx39 : x39 = xs 1 := by rw [ex39, ex38]; rfl
      subst zx39
      refine g_callVi (As := [.int (xs 1)]) hC rfl (hW5.o 0 (by decide)) (c_W_end X.la d b _ G5 S hW5 (xs 1)) cl_L_28 rfl rfl (Nat.le_of_ble_eq_true rfl) (gFit_law (by decide) (by decide) (Nat.le_of_ble_eq_true rfl) (Nat.le_of_ble_eq_true rfl)) dL_law_184 (fun r40 F41 p42 => ?_)
      rw [(hzn 0 (by decide) rfl).1] at p42
      have hK : gKp _ G5 F41 := by
        by_cases q : (xs 1) < 0 ∨ ¬ (xs 1) ≤ 0
        · obtain ⟨-, S1, -, h, -⟩ := p42.1 q; exact h
        · obtain ⟨-, S1, -, h, -⟩ := p42.2 ⟨fun a => q (Or.inl a), Classical.not_not.mp (fun a => q (Or.inr a))⟩; exact h
      refine g_aload_n hC dL_law_187 rfl ?_
      refine g_aload_n hC dL_law_188 rfl ?_
      refine g_iload hC dL_law_189 rfl ?_
      refine g_iconst (v := 1) hC dL_law_191 rfl ?_
      refine g_iadd hC dL_law_192 ?_
      refine g_vi (fun x43 ex43 => ?_)
      refine g_sld hC hX hb hb2 (by rw [ex43]; decide) dL_law_193 ?_
      refine g_vi (fun x44 ex44 => ?_)
      have zx44 : x44 = xs 1 := by rw [ex44, ex43]; rfl
      subst zx44
      refine g_callVi (As := [.int (xs 1)]) hC rfl ((hK o6 (Or.inl rfl)).trans ho5) (r_end X.la d b F41 r f (xs 1) ((hK o6 (Or.inl rfl)).trans ho5) v2  ) cl_L_32 rfl rfl (Nat.le_of_ble_eq_true rfl) (gFit_law (by decide) (by decide) (Nat.le_of_ble_eq_true rfl) (Nat.le_of_ble_eq_true rfl)) dL_law_194 (fun r45 F46 p47 => ?_)
      refine g_icmp_eq (tgt := 478) hC dL_law_197 (by decide) (fun _ => ?_) (fun c => absurd (by by_cases z : (xs 1) < 0 ∨ ¬ (xs 1) ≤ 0; · exact (p42.1 z).1.trans (p47.1 z).symm; · exact (p42.2 ⟨fun a => z (Or.inl a), Classical.not_not.mp (fun a => z (Or.inr a))⟩).1.trans (p47.2 ⟨fun a => z (Or.inl a), Classical.not_not.mp (fun a => z (Or.inr a))⟩).symm) c)
      exact g_lv (lv' := [some (.ref b0), none, none, none, some (.int 0), none, none]) ⟨rfl, rfl, trivial⟩ (END _ _ _ (Nat.le_of_ble_eq_true rfl) (Nat.le_of_ble_eq_true rfl) rfl)
    · refine g_tableIn (off := 162) (tgt := 202) hC dL_law_40 (by decide) (by decide) rfl (by decide) ?_
      refine g_aload_n hC dL_law_202 rfl ?_
      refine g_callVi (As := []) hC rfl (hW5.o 0 (by decide)) (c_W_compile0 X.la d b _ G5 S hW5 hl ((hzn 0 (by decide) rfl).1) ((hzn 0 (by decide) rfl).2) ((hzn 1 (by decide) rfl).1) ((hzn 1 (by decide) rfl).2) ((hzn 2 (by decide) rfl).1) ((hzn 2 (by decide) rfl).2) ((hzn 3 (by decide) rfl).1) ((hzn 3 (by decide) rfl).2) ((hzn 4 (by decide) rfl).1) ((hzn 4 (by decide) rfl).2) ((hzn 5 (by decide) rfl).1) ((hzn 5 (by decide) rfl).2) ((hzn 6 (by decide) rfl).1) ((hzn 6 (by decide) rfl).2) ((hzn 7 (by decide) rfl).1) ((hzn 7 (by decide) rfl).2) ((hzn 8 (by decide) rfl).1) ((hzn 8 (by decide) rfl).2) ((hzn 9 (by decide) rfl).1) ((hzn 9 (by decide) rfl).2) ((hzn 10 (by decide) rfl).1) ((hzn 10 (by decide) rfl).2) ((hzn 11 (by decide) rfl).1) ((hzn 11 (by decide) rfl).2) ((hzn 12 (by decide) rfl).1) ((hzn 12 (by decide) rfl).2) ((hzn 13 (by decide) rfl).1) ((hzn 13 (by decide) rfl).2) ((hzn 21 (by decide) rfl).1) ((hzn 21 (by decide) rfl).2) ((hzn 22 (by decide) rfl).1) ((hzn 22 (by decide) rfl).2) ((hzn 23 (by decide) rfl).1) ((hzn 23 (by decide) rfl).2) ((hzn 14 (by decide) rfl).1) ((hzn 14 (by decide) rfl).2) ((hzn 15 (by decide) rfl).1) ((hzn 15 (by decide) rfl).2) ((hzn 16 (by decide) rfl).1) ((hzn 16 (by decide) rfl).2)) cl_L_33 rfl rfl (Nat.le_of_ble_eq_true rfl) (gFit_law (by decide) (by decide) (Nat.le_of_ble_eq_true rfl) (Nat.le_of_ble_eq_true rfl)) dL_law_203 (fun r48 F49 p50 => ?_)
      obtain ⟨rfl, S1, hW6, hK, -⟩ := p50
      refine g_aload_n hC dL_law_206 rfl ?_
      refine g_callVi (As := []) hC rfl ((hK o6 (Or.inl rfl)).trans ho5) (r_compile X.la d b F49 r f w1 w2 w3 w4 ((hK o6 (Or.inl rfl)).trans ho5) v39 v40 v41 v42 v2 ((hK w1 (Or.inr (Or.inl (List.mem_of_getElem? (i := 1) rfl)))).trans a1) ((hK w2 (Or.inr (Or.inl (List.mem_of_getElem? (i := 2) rfl)))).trans a2) ((hK w3 (Or.inr (Or.inl (List.mem_of_getElem? (i := 3) rfl)))).trans a3) ((hK w4 (Or.inr (Or.inl (List.mem_of_getElem? (i := 4) rfl)))).trans a4) hne01 hne02 hne03 hne12 hne13 hne23) cl_L_37 rfl rfl (Nat.le_of_ble_eq_true rfl) (gFit_law (by decide) (by decide) (Nat.le_of_ble_eq_true rfl) (Nat.le_of_ble_eq_true rfl)) dL_law_207 (fun r51 F52 p53 => ?_)
      refine g_icmp_eq (tgt := 478) hC dL_law_210 (by decide) (fun _ => ?_) (fun c => absurd p53.symm c)
      exact g_lv (lv' := [some (.ref b0), none, none, none, some (.int 0), none, none]) ⟨rfl, rfl, trivial⟩ (END _ _ _ (Nat.le_of_ble_eq_true rfl) (Nat.le_of_ble_eq_true rfl) rfl)
    · refine g_tableIn (off := 175) (tgt := 215) hC dL_law_40 (by decide) (by decide) rfl (by decide) ?_
      refine g_aload_n hC dL_law_215 rfl ?_
      refine g_callVi (As := []) hC rfl (hW5.o 0 (by decide)) (c_W_fault X.la d b _ G5 S hW5) cl_L_38 rfl rfl (Nat.le_of_ble_eq_true rfl) (gFit_law (by decide) (by decide) (Nat.le_of_ble_eq_true rfl) (Nat.le_of_ble_eq_true rfl)) dL_law_216 (fun r54 F55 p56 => ?_)
      obtain ⟨hr1, eF⟩ := p56
      have eF := eF.symm; subst eF
      refine g_aload_n hC dL_law_219 rfl ?_
      refine g_callVi (As := []) hC rfl ho5 (r_fault X.la d b G5 r f  ho5 v12  ) cl_L_41 rfl rfl (Nat.le_of_ble_eq_true rfl) (gFit_law (by decide) (by decide) (Nat.le_of_ble_eq_true rfl) (Nat.le_of_ble_eq_true rfl)) dL_law_220 (fun r57 F58 p59 => ?_)
      refine g_icmp_eq (tgt := 478) hC dL_law_223 (by decide) (fun _ => ?_) (fun c => absurd (hr1.trans (hv 4 (by decide))).trans p59.symm c)
      exact g_lv (lv' := [some (.ref b0), none, none, none, some (.int 0), none, none]) ⟨rfl, rfl, trivial⟩ (END _ _ _ (Nat.le_of_ble_eq_true rfl) (Nat.le_of_ble_eq_true rfl) rfl)
    · refine g_tableIn (off := 188) (tgt := 228) hC dL_law_40 (by decide) (by decide) rfl (by decide) ?_
      refine g_aload_n hC dL_law_228 rfl ?_
      refine g_aload_n hC dL_law_229 rfl ?_
      refine g_iload hC dL_law_230 rfl ?_
      refine g_iconst (v := 1) hC dL_law_232 rfl ?_
      refine g_iadd hC dL_law_233 ?_
      refine g_vi (fun x60 ex60 => ?_)
      refine g_sld hC hX hb hb2 (by rw [ex60]; decide) dL_law_234 ?_
      refine g_vi (fun x61 ex61 => ?_)
      have zx61 : x61 = xs 1 := by rw [ex61, ex60]; rfl
      subst zx61
      refine g_callVi (As := [.int (xs 1)]) hC rfl (hW5.o 0 (by decide)) (c_W_store X.la d b _ G5 S hW5 (xs 1)) cl_L_42 rfl rfl (Nat.le_of_ble_eq_true rfl) (gFit_law (by decide) (by decide) (Nat.le_of_ble_eq_true rfl) (Nat.le_of_ble_eq_true rfl)) dL_law_235 (fun r62 F63 p64 => ?_)
      obtain ⟨hy, hn1, S1, hW6, hK, -⟩ := p64
      refine g_aload_n hC dL_law_238 rfl ?_
      refine g_aload_n hC dL_law_239 rfl ?_
      refine g_iload hC dL_law_240 rfl ?_
      refine g_iconst (v := 1) hC dL_law_242 rfl ?_
      refine g_iadd hC dL_law_243 ?_
      refine g_vi (fun x65 ex65 => ?_)
      refine g_sld hC hX hb hb2 (by rw [ex65]; decide) dL_law_244 ?_
      refine g_vi (fun x66 ex66 => ?_)
      have zx66 : x66 = xs 1 := by rw [ex66, ex65]; rfl
      subst zx66
      refine g_callVi (As := [.int (xs 1)]) hC rfl ((hK o6 (Or.inl rfl)).trans ho5) (r_store X.la d b F63 r f (xs 1) ((hK o6 (Or.inl rfl)).trans ho5)   ) cl_L_45 rfl rfl (Nat.le_of_ble_eq_true rfl) (gFit_law (by decide) (by decide) (Nat.le_of_ble_eq_true rfl) (Nat.le_of_ble_eq_true rfl)) dL_law_245 (fun r67 F68 p69 => ?_)
      refine g_icmp_eq (tgt := 478) hC dL_law_248 (by decide) (fun _ => ?_) (fun c => absurd (by by_cases z : gFive (xs 1); · exact (hy z).trans (p69.1 z).symm; · exact (hn1 z).trans (p69.2 z).symm) c)
      exact g_lv (lv' := [some (.ref b0), none, none, none, some (.int 0), none, none]) ⟨rfl, rfl, trivial⟩ (END _ _ _ (Nat.le_of_ble_eq_true rfl) (Nat.le_of_ble_eq_true rfl) rfl)
    · refine g_tableIn (off := 213) (tgt := 253) hC dL_law_40 (by decide) (by decide) rfl (by decide) ?_
      refine g_aload_n hC dL_law_253 rfl ?_
      refine g_aload_n hC dL_law_254 rfl ?_
      refine g_iload hC dL_law_255 rfl ?_
      refine g_iconst (v := 1) hC dL_law_257 rfl ?_
      refine g_iadd hC dL_law_258 ?_
      refine g_vi (fun x70 ex70 => ?_)
      refine g_sld hC hX hb hb2 (by rw [ex70]; decide) dL_law_259 ?_
      refine g_vi (fun x71 ex71 => ?_)
      have zx71 : x71 = xs 1 := by rw [ex71, ex70]; rfl
      subst zx71
      refine g_callVi (As := [.int (xs 1)]) hC rfl (hW5.o 0 (by decide)) (c_W_input0 X.la d b _ G5 S hW5 ((hzn 0 (by decide) rfl).1) (fun j hj => (hzn (34 + j) (by omega) (by (obtain rfl | rfl | rfl | rfl : j = 0 ∨ j = 1 ∨ j = 2 ∨ j = 3 := by omega) <;> rfl)).1) (xs 1)) cl_L_46 rfl rfl (Nat.le_of_ble_eq_true rfl) (gFit_law (by decide) (by decide) (Nat.le_of_ble_eq_true rfl) (Nat.le_of_ble_eq_true rfl)) dL_law_260 (fun r72 F73 p74 => ?_)
      obtain ⟨hy, hn1, S1, hW6, hK, -⟩ := p74
      refine g_aload_n hC dL_law_263 rfl ?_
      refine g_aload_n hC dL_law_264 rfl ?_
      refine g_iload hC dL_law_265 rfl ?_
      refine g_iconst (v := 1) hC dL_law_267 rfl ?_
      refine g_iadd hC dL_law_268 ?_
      refine g_vi (fun x75 ex75 => ?_)
      refine g_sld hC hX hb hb2 (by rw [ex75]; decide) dL_law_269 ?_
      refine g_vi (fun x76 ex76 => ?_)
      have zx76 : x76 = xs 1 := by rw [ex76, ex75]; rfl
      subst zx76
      refine g_callVi (As := [.int (xs 1)]) hC rfl ((hK o6 (Or.inl rfl)).trans ho5) (r_input X.la d b F73 r f (xs 1) w5 w6 ((hK o6 (Or.inl rfl)).trans ho5) v2 v112 v113 ((hK w5 (Or.inr (Or.inl (List.mem_of_getElem? (i := 5) rfl)))).trans a5) ((hK w6 (Or.inr (Or.inl (List.mem_of_getElem? (i := 6) rfl)))).trans a6) hne56) cl_L_49 rfl rfl (Nat.le_of_ble_eq_true rfl) (gFit_law (by decide) (by decide) (Nat.le_of_ble_eq_true rfl) (Nat.le_of_ble_eq_true rfl)) dL_law_270 (fun r77 F78 p79 => ?_)
      refine g_icmp_eq (tgt := 478) hC dL_law_273 (by decide) (fun _ => ?_) (fun c => absurd (by by_cases z : (xs 1) < 0; · exact (hy (Or.inl z)).trans (p79.1 (Or.inl z)).symm; · by_cases z2 : nI 4 ≤ (xs 1); · exact (hy (Or.inr z2)).trans (p79.1 (Or.inr (g43b z2))).symm; · exact (hn1 ⟨z, z2⟩).trans (p79.2 ⟨z, g43a z2⟩).symm) c)
      exact g_lv (lv' := [some (.ref b0), none, none, none, some (.int 0), none, none]) ⟨rfl, rfl, trivial⟩ (END _ _ _ (Nat.le_of_ble_eq_true rfl) (Nat.le_of_ble_eq_true rfl) rfl)
    · refine g_tableIn (off := 238) (tgt := 278) hC dL_law_40 (by decide) (by decide) rfl (by decide) ?_
      refine g_aload_n hC dL_law_278 rfl ?_
      refine g_aload_n hC dL_law_279 rfl ?_
      refine g_iload hC dL_law_280 rfl ?_
      refine g_iconst (v := 1) hC dL_law_282 rfl ?_
      refine g_iadd hC dL_law_283 ?_
      refine g_vi (fun x80 ex80 => ?_)
      refine g_sld hC hX hb hb2 (by rw [ex80]; decide) dL_law_284 ?_
      refine g_vi (fun x81 ex81 => ?_)
      have zx81 : x81 = xs 1 := by rw [ex81, ex80]; rfl
      subst zx81
      refine g_callVi (As := [.int (xs 1)]) hC rfl (hW5.o 0 (by decide)) (c_W_run0 X.la d b _ G5 S hW5 (hv 6 (by decide)) (xs 1)) cl_L_50 rfl rfl (Nat.le_of_ble_eq_true rfl) (gFit_law (by decide) (by decide) (Nat.le_of_ble_eq_true rfl) (Nat.le_of_ble_eq_true rfl)) dL_law_285 (fun r82 F83 p84 => ?_)
      obtain ⟨hr1, eF⟩ := p84
      have eF := eF.symm; subst eF
      refine g_aload_n hC dL_law_288 rfl ?_
      refine g_aload_n hC dL_law_289 rfl ?_
      refine g_iload hC dL_law_290 rfl ?_
      refine g_iconst (v := 1) hC dL_law_292 rfl ?_
      refine g_iadd hC dL_law_293 ?_
      refine g_vi (fun x85 ex85 => ?_)
      refine g_sld hC hX hb hb2 (by rw [ex85]; decide) dL_law_294 ?_
      refine g_vi (fun x86 ex86 => ?_)
      have zx86 : x86 = xs 1 := by rw [ex86, ex85]; rfl
      subst zx86
      refine g_callVi (As := [.int (xs 1)]) hC rfl ho5 (r_run X.la d b G5 r f (xs 1) ho5 v105  ) cl_L_53 rfl rfl (Nat.le_of_ble_eq_true rfl) (gFit_law (by decide) (by decide) (Nat.le_of_ble_eq_true rfl) (Nat.le_of_ble_eq_true rfl)) dL_law_295 (fun r87 F88 p89 => ?_)
      refine g_icmp_eq (tgt := 478) hC dL_law_298 (by decide) (fun _ => ?_) (fun c => absurd hr1.trans p89.symm c)
      exact g_lv (lv' := [some (.ref b0), none, none, none, some (.int 0), none, none]) ⟨rfl, rfl, trivial⟩ (END _ _ _ (Nat.le_of_ble_eq_true rfl) (Nat.le_of_ble_eq_true rfl) rfl)
    · refine g_tableIn (off := 263) (tgt := 303) hC dL_law_40 (by decide) (by decide) rfl (by decide) ?_
      refine g_aload_n hC dL_law_303 rfl ?_
      refine g_callVi (As := []) hC rfl (hW5.o 0 (by decide)) (c_W_value X.la d b _ G5 S hW5) cl_L_54 rfl rfl (Nat.le_of_ble_eq_true rfl) (gFit_law (by decide) (by decide) (Nat.le_of_ble_eq_true rfl) (Nat.le_of_ble_eq_true rfl)) dL_law_304 (fun r90 F91 p92 => ?_)
      obtain ⟨hr1, eF⟩ := p92
      have eF := eF.symm; subst eF
      refine g_aload_n hC dL_law_307 rfl ?_
      refine g_callVi (As := []) hC rfl ho5 (r_value X.la d b G5 r f  ho5 v104  ) cl_L_57 rfl rfl (Nat.le_of_ble_eq_true rfl) (gFit_law (by decide) (by decide) (Nat.le_of_ble_eq_true rfl) (Nat.le_of_ble_eq_true rfl)) dL_law_308 (fun r93 F94 p95 => ?_)
      refine g_icmp_eq (tgt := 478) hC dL_law_311 (by decide) (fun _ => ?_) (fun c => absurd (hr1.trans (hv 32 (by decide))).trans p95.symm c)
      exact g_lv (lv' := [some (.ref b0), none, none, none, some (.int 0), none, none]) ⟨rfl, rfl, trivial⟩ (END _ _ _ (Nat.le_of_ble_eq_true rfl) (Nat.le_of_ble_eq_true rfl) rfl)
    · refine g_tableIn (off := 276) (tgt := 316) hC dL_law_40 (by decide) (by decide) rfl (by decide) ?_
      refine g_aload_n hC dL_law_316 rfl ?_
      refine g_aload_n hC dL_law_317 rfl ?_
      refine g_iload hC dL_law_318 rfl ?_
      refine g_iconst (v := 1) hC dL_law_320 rfl ?_
      refine g_iadd hC dL_law_321 ?_
      refine g_vi (fun x96 ex96 => ?_)
      refine g_sld hC hX hb hb2 (by rw [ex96]; decide) dL_law_322 ?_
      refine g_vi (fun x97 ex97 => ?_)
      have zx97 : x97 = xs 1 := by rw [ex97, ex96]; rfl
      subst zx97
      refine g_callVi (As := [.int (xs 1)]) hC rfl (hW5.o 0 (by decide)) (c_W_out X.la d b _ G5 S hW5 (xs 1)) cl_L_58 rfl rfl (Nat.le_of_ble_eq_true rfl) (gFit_law (by decide) (by decide) (Nat.le_of_ble_eq_true rfl) (Nat.le_of_ble_eq_true rfl)) dL_law_323 (fun r98 F99 p100 => ?_)
      obtain ⟨hy, hn1, eF⟩ := p100
      have eF := eF.symm; subst eF
      refine g_aload_n hC dL_law_326 rfl ?_
      refine g_aload_n hC dL_law_327 rfl ?_
      refine g_iload hC dL_law_328 rfl ?_
      refine g_iconst (v := 1) hC dL_law_330 rfl ?_
      refine g_iadd hC dL_law_331 ?_
      refine g_vi (fun x101 ex101 => ?_)
      refine g_sld hC hX hb hb2 (by rw [ex101]; decide) dL_law_332 ?_
      refine g_vi (fun x102 ex102 => ?_)
      have zx102 : x102 = xs 1 := by rw [ex102, ex101]; rfl
      subst zx102
      refine g_callVi (As := [.int (xs 1)]) hC rfl ho5 (r_out X.la d b G5 r f (xs 1) w7 ho5 v116 a7 ) cl_L_61 rfl rfl (Nat.le_of_ble_eq_true rfl) (gFit_law (by decide) (by decide) (Nat.le_of_ble_eq_true rfl) (Nat.le_of_ble_eq_true rfl)) dL_law_333 (fun r103 F104 p105 => ?_)
      refine g_icmp_eq (tgt := 478) hC dL_law_336 (by decide) (fun _ => ?_) (fun c => absurd (by by_cases z : (xs 1) < 0; · exact (hy (Or.inl z)).trans (p105.1 (Or.inl z)).symm; · by_cases z2 : (xs 1) ≤ 1; · obtain ⟨N, hN, e⟩ := gin1 1 (by decide) z z2; exact ((hn1 N hN e).trans (by rw [(hzn (38 + N) (by omega) (by (obtain rfl | rfl : N = 0 ∨ N = 1 := by omega) <;> rfl)).1]; rfl)).trans (p105.2 ⟨z, z2⟩).symm; · exact (hy (Or.inr (g21b z2))).trans (p105.1 (Or.inr z2)).symm) c)
      exact g_lv (lv' := [some (.ref b0), none, none, none, some (.int 0), none, none]) ⟨rfl, rfl, trivial⟩ (END _ _ _ (Nat.le_of_ble_eq_true rfl) (Nat.le_of_ble_eq_true rfl) rfl)
    · refine g_tableIn (off := 301) (tgt := 341) hC dL_law_40 (by decide) (by decide) rfl (by decide) ?_
      sorry
    · refine g_tableIn (off := 369) (tgt := 409) hC dL_law_40 (by decide) (by decide) rfl (by decide) ?_
      sorry
    · refine g_tableIn (off := 425) (tgt := 465) hC dL_law_40 (by decide) (by decide) rfl (by decide) ?_
      refine g_aload_n hC dL_law_465 rfl ?_
      refine g_callVi (As := []) hC rfl (hW5.o 0 (by decide)) (c_W_fuel X.la d b _ G5 S hW5) cl_L_75 rfl rfl (Nat.le_of_ble_eq_true rfl) (gFit_law (by decide) (by decide) (Nat.le_of_ble_eq_true rfl) (Nat.le_of_ble_eq_true rfl)) dL_law_466 (fun r106 F107 p108 => ?_)
      obtain ⟨hr1, eF⟩ := p108
      have eF := eF.symm; subst eF
      refine g_aload_n hC dL_law_469 rfl ?_
      refine g_callVi (As := []) hC rfl ho5 (r_fuel X.la d b G5 r f  ho5 v101  ) cl_L_78 rfl rfl (Nat.le_of_ble_eq_true rfl) (gFit_law (by decide) (by decide) (Nat.le_of_ble_eq_true rfl) (Nat.le_of_ble_eq_true rfl)) dL_law_470 (fun r109 F110 p111 => ?_)
      refine g_icmp_eq (tgt := 478) hC dL_law_473 (by decide) (fun _ => ?_) (fun c => absurd (hr1.trans (hv 31 (by decide))).trans p111.symm c)
      exact g_lv (lv' := [some (.ref b0), none, none, none, some (.int 0), none, none]) ⟨rfl, rfl, trivial⟩ (END _ _ _ (Nat.le_of_ble_eq_true rfl) (Nat.le_of_ble_eq_true rfl) rfl)
    · refine g_tableOut (tgt := 478) hC dL_law_40 (Or.inr (by decide)) (by decide) ?_
      exact g_lv (lv' := [some (.ref b0), none, none, none, some (.int 0), none, none]) ⟨rfl, rfl, trivial⟩ (END _ _ _ (Nat.le_of_ble_eq_true rfl) (Nat.le_of_ble_eq_true rfl) rfl)
    · refine g_tableOut (tgt := 478) hC dL_law_40 (Or.inr (by decide)) (by decide) ?_
      exact g_lv (lv' := [some (.ref b0), none, none, none, some (.int 0), none, none]) ⟨rfl, rfl, trivial⟩ (END _ _ _ (Nat.le_of_ble_eq_true rfl) (Nat.le_of_ble_eq_true rfl) rfl)
    · refine g_tableOut (tgt := 478) hC dL_law_40 (Or.inr (by decide)) (by decide) ?_
      exact g_lv (lv' := [some (.ref b0), none, none, none, some (.int 0), none, none]) ⟨rfl, rfl, trivial⟩ (END _ _ _ (Nat.le_of_ble_eq_true rfl) (Nat.le_of_ble_eq_true rfl) rfl)
    · refine g_tableOut (tgt := 478) hC dL_law_40 (Or.inr (by decide)) (by decide) ?_
      exact g_lv (lv' := [some (.ref b0), none, none, none, some (.int 0), none, none]) ⟨rfl, rfl, trivial⟩ (END _ _ _ (Nat.le_of_ble_eq_true rfl) (Nat.le_of_ble_eq_true rfl) rfl)
