theorem kw_1584 : Cond.methodLink RX7 74 yX7_blame ∈ gWs := List.mem_filter.mpr ⟨gMt6 _ (List.mem_of_getElem? (i := 147) rfl), rfl⟩
theorem cl_X7_74 : gCV RX7 74 yX7_blame cX7_blame 4 none 2 := ⟨g_mk [.methodLink RX7 74 yX7_blame, .instanceMethod yX7_blame, .selects yX7_blame.cls yX7_blame yX7_blame, .initialized yX7_blame.cls] (gWs_all kw_1008) (List.forall_mem_cons.mpr ⟨kw_1584, List.forall_mem_cons.mpr ⟨kw_1006, List.forall_mem_cons.mpr ⟨kw_1007, List.forall_mem_cons.mpr ⟨kw_240, fun _ h => nomatch h⟩⟩⟩⟩), rfl, by decide +kernel, by decide +kernel, by decide +kernel⟩
theorem kw_433 : Cond.methodLink RX8 88 yX4_get ∈ gWs := List.mem_filter.mpr ⟨gMt1 _ (List.mem_of_getElem? (i := 196) rfl), rfl⟩
theorem cl_X8_88 : gCV RX8 88 yX4_get cX4_get 2 (some .int) 1 := ⟨g_mk [.methodLink RX8 88 yX4_get, .instanceMethod yX4_get, .selects yX4_get.cls yX4_get yX4_get, .initialized yX4_get.cls] (gWs_all kw_436) (List.forall_mem_cons.mpr ⟨kw_433, List.forall_mem_cons.mpr ⟨kw_434, List.forall_mem_cons.mpr ⟨kw_435, List.forall_mem_cons.mpr ⟨kw_239, fun _ h => nomatch h⟩⟩⟩⟩), rfl, by decide +kernel, by decide +kernel, by decide +kernel⟩
theorem kw_440 : Cond.code yX8_isAlike cX8_isAlike 8 (some .boolean) ∈ gWs := List.mem_filter.mpr ⟨gMt1 _ (List.mem_of_getElem? (i := 203) rfl), rfl⟩
theorem kw_437 : Cond.methodLink RX8 92 yX8_isAlike ∈ gWs := List.mem_filter.mpr ⟨gMt1 _ (List.mem_of_getElem? (i := 200) rfl), rfl⟩
theorem kw_439 : Cond.instanceMethod yX8_isAlike ∈ gWs := List.mem_filter.mpr ⟨gMt1 _ (List.mem_of_getElem? (i := 202) rfl), rfl⟩
theorem kw_2 : Cond.selects RX8 yX8_isAlike yX8_isAlike ∈ gWs := gWm 2 (by decide +kernel) rfl
theorem cl_X8_92 : gCV RX8 92 yX8_isAlike cX8_isAlike 8 (some .boolean) 4 := ⟨g_mk [.methodLink RX8 92 yX8_isAlike, .instanceMethod yX8_isAlike, .selects yX8_isAlike.cls yX8_isAlike yX8_isAlike, .initialized yX8_isAlike.cls] (gWs_all kw_440) (List.forall_mem_cons.mpr ⟨kw_437, List.forall_mem_cons.mpr ⟨kw_439, List.forall_mem_cons.mpr ⟨kw_2, List.forall_mem_cons.mpr ⟨kw_242, fun _ h => nomatch h⟩⟩⟩⟩), rfl, by decide +kernel, by decide +kernel, by decide +kernel⟩
theorem kw_871 : Cond.code yX8_skipLine cX8_skipLine 2 none ∈ gWs := List.mem_filter.mpr ⟨gMt3 _ (List.mem_of_getElem? (i := 154) rfl), rfl⟩
theorem kw_868 : Cond.methodLink RX8 109 yX8_skipLine ∈ gWs := List.mem_filter.mpr ⟨gMt3 _ (List.mem_of_getElem? (i := 151) rfl), rfl⟩
theorem kw_870 : Cond.instanceMethod yX8_skipLine ∈ gWs := List.mem_filter.mpr ⟨gMt3 _ (List.mem_of_getElem? (i := 153) rfl), rfl⟩
theorem kw_5 : Cond.selects RX8 yX8_skipLine yX8_skipLine ∈ gWs := gWm 5 (by decide +kernel) rfl
theorem cl_X8_109 : gCV RX8 109 yX8_skipLine cX8_skipLine 2 none 0 := ⟨g_mk [.methodLink RX8 109 yX8_skipLine, .instanceMethod yX8_skipLine, .selects yX8_skipLine.cls yX8_skipLine yX8_skipLine, .initialized yX8_skipLine.cls] (gWs_all kw_871) (List.forall_mem_cons.mpr ⟨kw_868, List.forall_mem_cons.mpr ⟨kw_870, List.forall_mem_cons.mpr ⟨kw_5, List.forall_mem_cons.mpr ⟨kw_242, fun _ h => nomatch h⟩⟩⟩⟩), rfl, by decide +kernel, by decide +kernel, by decide +kernel⟩
theorem kw_876 : Cond.methodLink RX8 106 yX4_top ∈ gWs := List.mem_filter.mpr ⟨gMt3 _ (List.mem_of_getElem? (i := 159) rfl), rfl⟩
theorem cl_X8_106 : gCV RX8 106 yX4_top cX4_top 1 (some .int) 0 := ⟨g_mk [.methodLink RX8 106 yX4_top, .instanceMethod yX4_top, .selects yX4_top.cls yX4_top yX4_top, .initialized yX4_top.cls] (gWs_all kw_879) (List.forall_mem_cons.mpr ⟨kw_876, List.forall_mem_cons.mpr ⟨kw_877, List.forall_mem_cons.mpr ⟨kw_878, List.forall_mem_cons.mpr ⟨kw_239, fun _ h => nomatch h⟩⟩⟩⟩), rfl, by decide +kernel, by decide +kernel, by decide +kernel⟩
theorem kw_883 : Cond.code yX8_mayEnd cX8_mayEnd 1 (some .boolean) ∈ gWs := List.mem_filter.mpr ⟨gMt3 _ (List.mem_of_getElem? (i := 166) rfl), rfl⟩
theorem kw_881 : Cond.methodLink RX8 112 yX8_mayEnd ∈ gWs := List.mem_filter.mpr ⟨gMt3 _ (List.mem_of_getElem? (i := 164) rfl), rfl⟩
theorem kw_882 : Cond.static yX8_mayEnd ∈ gWs := List.mem_filter.mpr ⟨gMt3 _ (List.mem_of_getElem? (i := 165) rfl), rfl⟩
theorem cl_X8_112 : gCS RX8 112 yX8_mayEnd cX8_mayEnd 1 (some .boolean) 1 := ⟨g_mk [.methodLink RX8 112 yX8_mayEnd, .static yX8_mayEnd, .initialized yX8_mayEnd.cls] (gWs_all kw_883) (List.forall_mem_cons.mpr ⟨kw_881, List.forall_mem_cons.mpr ⟨kw_882, List.forall_mem_cons.mpr ⟨kw_242, fun _ h => nomatch h⟩⟩⟩), ⟨by decide +kernel, by decide +kernel, by decide +kernel⟩⟩
theorem kw_886 : Cond.code yX8_mayBegin cX8_mayBegin 1 (some .boolean) ∈ gWs := List.mem_filter.mpr ⟨gMt3 _ (List.mem_of_getElem? (i := 169) rfl), rfl⟩
theorem kw_884 : Cond.methodLink RX8 116 yX8_mayBegin ∈ gWs := List.mem_filter.mpr ⟨gMt3 _ (List.mem_of_getElem? (i := 167) rfl), rfl⟩
theorem kw_885 : Cond.static yX8_mayBegin ∈ gWs := List.mem_filter.mpr ⟨gMt3 _ (List.mem_of_getElem? (i := 168) rfl), rfl⟩
theorem cl_X8_116 : gCS RX8 116 yX8_mayBegin cX8_mayBegin 1 (some .boolean) 1 := ⟨g_mk [.methodLink RX8 116 yX8_mayBegin, .static yX8_mayBegin, .initialized yX8_mayBegin.cls] (gWs_all kw_886) (List.forall_mem_cons.mpr ⟨kw_884, List.forall_mem_cons.mpr ⟨kw_885, List.forall_mem_cons.mpr ⟨kw_242, fun _ h => nomatch h⟩⟩⟩), ⟨by decide +kernel, by decide +kernel, by decide +kernel⟩⟩
theorem kw_904 : Cond.code yX8_isRest cX8_isRest 1 (some .boolean) ∈ gWs := List.mem_filter.mpr ⟨gMt3 _ (List.mem_of_getElem? (i := 187) rfl), rfl⟩
theorem kw_902 : Cond.methodLink RX8 144 yX8_isRest ∈ gWs := List.mem_filter.mpr ⟨gMt3 _ (List.mem_of_getElem? (i := 185) rfl), rfl⟩
theorem kw_903 : Cond.static yX8_isRest ∈ gWs := List.mem_filter.mpr ⟨gMt3 _ (List.mem_of_getElem? (i := 186) rfl), rfl⟩
theorem cl_X8_144 : gCS RX8 144 yX8_isRest cX8_isRest 1 (some .boolean) 1 := ⟨g_mk [.methodLink RX8 144 yX8_isRest, .static yX8_isRest, .initialized yX8_isRest.cls] (gWs_all kw_904) (List.forall_mem_cons.mpr ⟨kw_902, List.forall_mem_cons.mpr ⟨kw_903, List.forall_mem_cons.mpr ⟨kw_242, fun _ h => nomatch h⟩⟩⟩), ⟨by decide +kernel, by decide +kernel, by decide +kernel⟩⟩
theorem kw_901 : Cond.code yX8_restEnd cX8_restEnd 3 (some .int) ∈ gWs := List.mem_filter.mpr ⟨gMt3 _ (List.mem_of_getElem? (i := 184) rfl), rfl⟩
theorem kw_898 : Cond.methodLink RX8 147 yX8_restEnd ∈ gWs := List.mem_filter.mpr ⟨gMt3 _ (List.mem_of_getElem? (i := 181) rfl), rfl⟩
theorem kw_900 : Cond.instanceMethod yX8_restEnd ∈ gWs := List.mem_filter.mpr ⟨gMt3 _ (List.mem_of_getElem? (i := 183) rfl), rfl⟩
theorem kw_9 : Cond.selects RX8 yX8_restEnd yX8_restEnd ∈ gWs := gWm 9 (by decide +kernel) rfl
theorem cl_X8_147 : gCV RX8 147 yX8_restEnd cX8_restEnd 3 (some .int) 1 := ⟨g_mk [.methodLink RX8 147 yX8_restEnd, .instanceMethod yX8_restEnd, .selects yX8_restEnd.cls yX8_restEnd yX8_restEnd, .initialized yX8_restEnd.cls] (gWs_all kw_901) (List.forall_mem_cons.mpr ⟨kw_898, List.forall_mem_cons.mpr ⟨kw_900, List.forall_mem_cons.mpr ⟨kw_9, List.forall_mem_cons.mpr ⟨kw_242, fun _ h => nomatch h⟩⟩⟩⟩), rfl, by decide +kernel, by decide +kernel, by decide +kernel⟩
theorem kw_432 : Cond.code yX8_idOf cX8_idOf 6 (some .int) ∈ gWs := List.mem_filter.mpr ⟨gMt1 _ (List.mem_of_getElem? (i := 195) rfl), rfl⟩
theorem kw_429 : Cond.methodLink RX8 78 yX8_idOf ∈ gWs := List.mem_filter.mpr ⟨gMt1 _ (List.mem_of_getElem? (i := 192) rfl), rfl⟩
theorem kw_431 : Cond.instanceMethod yX8_idOf ∈ gWs := List.mem_filter.mpr ⟨gMt1 _ (List.mem_of_getElem? (i := 194) rfl), rfl⟩
theorem kw_1 : Cond.selects RX8 yX8_idOf yX8_idOf ∈ gWs := gWm 1 (by decide +kernel) rfl
theorem cl_X8_78 : gCV RX8 78 yX8_idOf cX8_idOf 6 (some .int) 3 := ⟨g_mk [.methodLink RX8 78 yX8_idOf, .instanceMethod yX8_idOf, .selects yX8_idOf.cls yX8_idOf yX8_idOf, .initialized yX8_idOf.cls] (gWs_all kw_432) (List.forall_mem_cons.mpr ⟨kw_429, List.forall_mem_cons.mpr ⟨kw_431, List.forall_mem_cons.mpr ⟨kw_1, List.forall_mem_cons.mpr ⟨kw_242, fun _ h => nomatch h⟩⟩⟩⟩), rfl, by decide +kernel, by decide +kernel, by decide +kernel⟩
theorem kw_919 : Cond.constantLong RX8 161 4294967296 ∈ gWs := List.mem_filter.mpr ⟨gMt3 _ (List.mem_of_getElem? (i := 202) rfl), rfl⟩
theorem kw_914 : Cond.code yX8_digitOf cX8_digitOf 1 (some .int) ∈ gWs := List.mem_filter.mpr ⟨gMt3 _ (List.mem_of_getElem? (i := 197) rfl), rfl⟩
theorem kw_912 : Cond.methodLink RX8 150 yX8_digitOf ∈ gWs := List.mem_filter.mpr ⟨gMt3 _ (List.mem_of_getElem? (i := 195) rfl), rfl⟩
theorem kw_913 : Cond.static yX8_digitOf ∈ gWs := List.mem_filter.mpr ⟨gMt3 _ (List.mem_of_getElem? (i := 196) rfl), rfl⟩
theorem cl_X8_150 : gCS RX8 150 yX8_digitOf cX8_digitOf 1 (some .int) 1 := ⟨g_mk [.methodLink RX8 150 yX8_digitOf, .static yX8_digitOf, .initialized yX8_digitOf.cls] (gWs_all kw_914) (List.forall_mem_cons.mpr ⟨kw_912, List.forall_mem_cons.mpr ⟨kw_913, List.forall_mem_cons.mpr ⟨kw_242, fun _ h => nomatch h⟩⟩⟩), ⟨by decide +kernel, by decide +kernel, by decide +kernel⟩⟩
theorem kw_915 : Cond.constantLong RX8 153 1099511627776 ∈ gWs := List.mem_filter.mpr ⟨gMt3 _ (List.mem_of_getElem? (i := 198) rfl), rfl⟩
theorem kw_916 : Cond.methodLink RX8 155 Lib.MathLoose.min_long.x ∈ gWs := List.mem_filter.mpr ⟨gMt3 _ (List.mem_of_getElem? (i := 199) rfl), rfl⟩
theorem kw_928 : Cond.methodLink RX8 163 yX4_set ∈ gWs := List.mem_filter.mpr ⟨gMt3 _ (List.mem_of_getElem? (i := 211) rfl), rfl⟩
theorem cl_X8_163 : gCV RX8 163 yX4_set cX4_set 3 none 2 := ⟨g_mk [.methodLink RX8 163 yX4_set, .instanceMethod yX4_set, .selects yX4_set.cls yX4_set yX4_set, .initialized yX4_set.cls] (gWs_all kw_931) (List.forall_mem_cons.mpr ⟨kw_928, List.forall_mem_cons.mpr ⟨kw_929, List.forall_mem_cons.mpr ⟨kw_930, List.forall_mem_cons.mpr ⟨kw_239, fun _ h => nomatch h⟩⟩⟩⟩), rfl, by decide +kernel, by decide +kernel, by decide +kernel⟩
theorem kw_923 : Cond.code yX8_quoted cX8_quoted 4 (some .int) ∈ gWs := List.mem_filter.mpr ⟨gMt3 _ (List.mem_of_getElem? (i := 206) rfl), rfl⟩
theorem kw_920 : Cond.methodLink RX8 131 yX8_quoted ∈ gWs := List.mem_filter.mpr ⟨gMt3 _ (List.mem_of_getElem? (i := 203) rfl), rfl⟩
theorem kw_922 : Cond.instanceMethod yX8_quoted ∈ gWs := List.mem_filter.mpr ⟨gMt3 _ (List.mem_of_getElem? (i := 205) rfl), rfl⟩
theorem kw_11 : Cond.selects RX8 yX8_quoted yX8_quoted ∈ gWs := gWm 11 (by decide +kernel) rfl
theorem cl_X8_131 : gCV RX8 131 yX8_quoted cX8_quoted 4 (some .int) 1 := ⟨g_mk [.methodLink RX8 131 yX8_quoted, .instanceMethod yX8_quoted, .selects yX8_quoted.cls yX8_quoted yX8_quoted, .initialized yX8_quoted.cls] (gWs_all kw_923) (List.forall_mem_cons.mpr ⟨kw_920, List.forall_mem_cons.mpr ⟨kw_922, List.forall_mem_cons.mpr ⟨kw_11, List.forall_mem_cons.mpr ⟨kw_242, fun _ h => nomatch h⟩⟩⟩⟩), rfl, by decide +kernel, by decide +kernel, by decide +kernel⟩
theorem kw_942 : Cond.code yX8_doubled cX8_doubled 2 (some .int) ∈ gWs := List.mem_filter.mpr ⟨gMt3 _ (List.mem_of_getElem? (i := 225) rfl), rfl⟩
theorem kw_940 : Cond.methodLink RX8 166 yX8_doubled ∈ gWs := List.mem_filter.mpr ⟨gMt3 _ (List.mem_of_getElem? (i := 223) rfl), rfl⟩
theorem kw_941 : Cond.static yX8_doubled ∈ gWs := List.mem_filter.mpr ⟨gMt3 _ (List.mem_of_getElem? (i := 224) rfl), rfl⟩
theorem cl_X8_166 : gCS RX8 166 yX8_doubled cX8_doubled 2 (some .int) 2 := ⟨g_mk [.methodLink RX8 166 yX8_doubled, .static yX8_doubled, .initialized yX8_doubled.cls] (gWs_all kw_942) (List.forall_mem_cons.mpr ⟨kw_940, List.forall_mem_cons.mpr ⟨kw_941, List.forall_mem_cons.mpr ⟨kw_242, fun _ h => nomatch h⟩⟩⟩), ⟨by decide +kernel, by decide +kernel, by decide +kernel⟩⟩
theorem kw_945 : Cond.code yX8_single cX8_single 1 (some .int) ∈ gWs := List.mem_filter.mpr ⟨gMt3 _ (List.mem_of_getElem? (i := 228) rfl), rfl⟩
theorem kw_943 : Cond.methodLink RX8 170 yX8_single ∈ gWs := List.mem_filter.mpr ⟨gMt3 _ (List.mem_of_getElem? (i := 226) rfl), rfl⟩
theorem kw_944 : Cond.static yX8_single ∈ gWs := List.mem_filter.mpr ⟨gMt3 _ (List.mem_of_getElem? (i := 227) rfl), rfl⟩
theorem cl_X8_170 : gCS RX8 170 yX8_single cX8_single 1 (some .int) 1 := ⟨g_mk [.methodLink RX8 170 yX8_single, .static yX8_single, .initialized yX8_single.cls] (gWs_all kw_945) (List.forall_mem_cons.mpr ⟨kw_943, List.forall_mem_cons.mpr ⟨kw_944, List.forall_mem_cons.mpr ⟨kw_242, fun _ h => nomatch h⟩⟩⟩), ⟨by decide +kernel, by decide +kernel, by decide +kernel⟩⟩
theorem kw_939 : Cond.code yX8_sign cX8_sign 5 none ∈ gWs := List.mem_filter.mpr ⟨gMt3 _ (List.mem_of_getElem? (i := 222) rfl), rfl⟩
theorem kw_936 : Cond.methodLink RX8 140 yX8_sign ∈ gWs := List.mem_filter.mpr ⟨gMt3 _ (List.mem_of_getElem? (i := 219) rfl), rfl⟩
theorem kw_938 : Cond.instanceMethod yX8_sign ∈ gWs := List.mem_filter.mpr ⟨gMt3 _ (List.mem_of_getElem? (i := 221) rfl), rfl⟩
theorem kw_14 : Cond.selects RX8 yX8_sign yX8_sign ∈ gWs := gWm 14 (by decide +kernel) rfl
theorem cl_X8_140 : gCV RX8 140 yX8_sign cX8_sign 5 none 2 := ⟨g_mk [.methodLink RX8 140 yX8_sign, .instanceMethod yX8_sign, .selects yX8_sign.cls yX8_sign yX8_sign, .initialized yX8_sign.cls] (gWs_all kw_939) (List.forall_mem_cons.mpr ⟨kw_936, List.forall_mem_cons.mpr ⟨kw_938, List.forall_mem_cons.mpr ⟨kw_14, List.forall_mem_cons.mpr ⟨kw_242, fun _ h => nomatch h⟩⟩⟩⟩), rfl, by decide +kernel, by decide +kernel, by decide +kernel⟩
theorem kw_935 : Cond.code yX8_section cX8_section 6 none ∈ gWs := List.mem_filter.mpr ⟨gMt3 _ (List.mem_of_getElem? (i := 218) rfl), rfl⟩
theorem kw_932 : Cond.methodLink RX8 137 yX8_section ∈ gWs := List.mem_filter.mpr ⟨gMt3 _ (List.mem_of_getElem? (i := 215) rfl), rfl⟩
theorem kw_934 : Cond.instanceMethod yX8_section ∈ gWs := List.mem_filter.mpr ⟨gMt3 _ (List.mem_of_getElem? (i := 217) rfl), rfl⟩
theorem kw_13 : Cond.selects RX8 yX8_section yX8_section ∈ gWs := gWm 13 (by decide +kernel) rfl
theorem cl_X8_137 : gCV RX8 137 yX8_section cX8_section 6 none 1 := ⟨g_mk [.methodLink RX8 137 yX8_section, .instanceMethod yX8_section, .selects yX8_section.cls yX8_section yX8_section, .initialized yX8_section.cls] (gWs_all kw_935) (List.forall_mem_cons.mpr ⟨kw_932, List.forall_mem_cons.mpr ⟨kw_934, List.forall_mem_cons.mpr ⟨kw_13, List.forall_mem_cons.mpr ⟨kw_242, fun _ h => nomatch h⟩⟩⟩⟩), rfl, by decide +kernel, by decide +kernel, by decide +kernel⟩
theorem kw_927 : Cond.code yX8_string cX8_string 5 none ∈ gWs := List.mem_filter.mpr ⟨gMt3 _ (List.mem_of_getElem? (i := 210) rfl), rfl⟩
theorem kw_924 : Cond.methodLink RX8 134 yX8_string ∈ gWs := List.mem_filter.mpr ⟨gMt3 _ (List.mem_of_getElem? (i := 207) rfl), rfl⟩
theorem kw_926 : Cond.instanceMethod yX8_string ∈ gWs := List.mem_filter.mpr ⟨gMt3 _ (List.mem_of_getElem? (i := 209) rfl), rfl⟩
theorem kw_12 : Cond.selects RX8 yX8_string yX8_string ∈ gWs := gWm 12 (by decide +kernel) rfl
theorem cl_X8_134 : gCV RX8 134 yX8_string cX8_string 5 none 1 := ⟨g_mk [.methodLink RX8 134 yX8_string, .instanceMethod yX8_string, .selects yX8_string.cls yX8_string yX8_string, .initialized yX8_string.cls] (gWs_all kw_927) (List.forall_mem_cons.mpr ⟨kw_924, List.forall_mem_cons.mpr ⟨kw_926, List.forall_mem_cons.mpr ⟨kw_12, List.forall_mem_cons.mpr ⟨kw_242, fun _ h => nomatch h⟩⟩⟩⟩), rfl, by decide +kernel, by decide +kernel, by decide +kernel⟩
theorem kw_911 : Cond.code yX8_number cX8_number 7 none ∈ gWs := List.mem_filter.mpr ⟨gMt3 _ (List.mem_of_getElem? (i := 194) rfl), rfl⟩
theorem kw_908 : Cond.methodLink RX8 128 yX8_number ∈ gWs := List.mem_filter.mpr ⟨gMt3 _ (List.mem_of_getElem? (i := 191) rfl), rfl⟩
theorem kw_910 : Cond.instanceMethod yX8_number ∈ gWs := List.mem_filter.mpr ⟨gMt3 _ (List.mem_of_getElem? (i := 193) rfl), rfl⟩
theorem kw_10 : Cond.selects RX8 yX8_number yX8_number ∈ gWs := gWm 10 (by decide +kernel) rfl
theorem cl_X8_128 : gCV RX8 128 yX8_number cX8_number 7 none 3 := ⟨g_mk [.methodLink RX8 128 yX8_number, .instanceMethod yX8_number, .selects yX8_number.cls yX8_number yX8_number, .initialized yX8_number.cls] (gWs_all kw_911) (List.forall_mem_cons.mpr ⟨kw_908, List.forall_mem_cons.mpr ⟨kw_910, List.forall_mem_cons.mpr ⟨kw_10, List.forall_mem_cons.mpr ⟨kw_242, fun _ h => nomatch h⟩⟩⟩⟩), rfl, by decide +kernel, by decide +kernel, by decide +kernel⟩
theorem kw_897 : Cond.code yX8_name cX8_name 4 none ∈ gWs := List.mem_filter.mpr ⟨gMt3 _ (List.mem_of_getElem? (i := 180) rfl), rfl⟩
theorem kw_894 : Cond.methodLink RX8 122 yX8_name ∈ gWs := List.mem_filter.mpr ⟨gMt3 _ (List.mem_of_getElem? (i := 177) rfl), rfl⟩
theorem kw_896 : Cond.instanceMethod yX8_name ∈ gWs := List.mem_filter.mpr ⟨gMt3 _ (List.mem_of_getElem? (i := 179) rfl), rfl⟩
theorem kw_8 : Cond.selects RX8 yX8_name yX8_name ∈ gWs := gWm 8 (by decide +kernel) rfl
theorem cl_X8_122 : gCV RX8 122 yX8_name cX8_name 4 none 1 := ⟨g_mk [.methodLink RX8 122 yX8_name, .instanceMethod yX8_name, .selects yX8_name.cls yX8_name yX8_name, .initialized yX8_name.cls] (gWs_all kw_897) (List.forall_mem_cons.mpr ⟨kw_894, List.forall_mem_cons.mpr ⟨kw_896, List.forall_mem_cons.mpr ⟨kw_8, List.forall_mem_cons.mpr ⟨kw_242, fun _ h => nomatch h⟩⟩⟩⟩), rfl, by decide +kernel, by decide +kernel, by decide +kernel⟩
theorem kw_890 : Cond.code yX8_token cX8_token 4 none ∈ gWs := List.mem_filter.mpr ⟨gMt3 _ (List.mem_of_getElem? (i := 173) rfl), rfl⟩
theorem kw_887 : Cond.methodLink RX8 103 yX8_token ∈ gWs := List.mem_filter.mpr ⟨gMt3 _ (List.mem_of_getElem? (i := 170) rfl), rfl⟩
theorem kw_889 : Cond.instanceMethod yX8_token ∈ gWs := List.mem_filter.mpr ⟨gMt3 _ (List.mem_of_getElem? (i := 172) rfl), rfl⟩
theorem kw_7 : Cond.selects RX8 yX8_token yX8_token ∈ gWs := gWm 7 (by decide +kernel) rfl
theorem cl_X8_103 : gCV RX8 103 yX8_token cX8_token 4 none 0 := ⟨g_mk [.methodLink RX8 103 yX8_token, .instanceMethod yX8_token, .selects yX8_token.cls yX8_token yX8_token, .initialized yX8_token.cls] (gWs_all kw_890) (List.forall_mem_cons.mpr ⟨kw_887, List.forall_mem_cons.mpr ⟨kw_889, List.forall_mem_cons.mpr ⟨kw_7, List.forall_mem_cons.mpr ⟨kw_242, fun _ h => nomatch h⟩⟩⟩⟩), rfl, by decide +kernel, by decide +kernel, by decide +kernel⟩
theorem kw_625 : Cond.fieldLink RX2 21 "WordTongue$Constants" "failed" "Z" ∈ gWs := List.mem_filter.mpr ⟨gMt2 _ (List.mem_of_getElem? (i := 148) rfl), rfl⟩
theorem fl_X2_21 : gFL RX2 21 2 4 .boolean false := ⟨RX2, TX2, 7, tyX2, rfl, by decide, inW_RX2, kw_625, tyX2_ok, nmX2, rfl, by decide +kernel, fun h => by cases h⟩
theorem kw_626 : Cond.fieldLink RX2 25 "WordTongue$Constants" "faultKind" "I" ∈ gWs := List.mem_filter.mpr ⟨gMt2 _ (List.mem_of_getElem? (i := 149) rfl), rfl⟩
theorem fl_X2_25 : gFL RX2 25 2 5 .int false := ⟨RX2, TX2, 7, tyX2, rfl, by decide, inW_RX2, kw_626, tyX2_ok, nmX2, rfl, by decide +kernel, fun h => by cases h⟩
theorem kw_627 : Cond.fieldLink RX2 29 "WordTongue$Constants" "faultPlace" "I" ∈ gWs := List.mem_filter.mpr ⟨gMt2 _ (List.mem_of_getElem? (i := 150) rfl), rfl⟩
theorem fl_X2_29 : gFL RX2 29 2 6 .int false := ⟨RX2, TX2, 7, tyX2, rfl, by decide, inW_RX2, kw_627, tyX2_ok, nmX2, rfl, by decide +kernel, fun h => by cases h⟩
theorem kw_624 : Cond.fieldLink RX2 15 "WordTongue$Constants" "stack" "LWordTongue$Ints;" ∈ gWs := List.mem_filter.mpr ⟨gMt2 _ (List.mem_of_getElem? (i := 147) rfl), rfl⟩
theorem fl_X2_15 : gFL RX2 15 2 3 (.object "WordTongue$Ints") true := ⟨RX2, TX2, 7, tyX2, rfl, by decide, inW_RX2, kw_624, tyX2_ok, nmX2, rfl, by decide +kernel, fun _ => rfl⟩
theorem kw_1357 : Cond.methodLink RX2 113 yX4_pop ∈ gWs := List.mem_filter.mpr ⟨gMt5 _ (List.mem_of_getElem? (i := 160) rfl), rfl⟩
theorem cl_X2_113 : gCV RX2 113 yX4_pop cX4_pop 1 (some .int) 0 := ⟨g_mk [.methodLink RX2 113 yX4_pop, .instanceMethod yX4_pop, .selects yX4_pop.cls yX4_pop yX4_pop, .initialized yX4_pop.cls] (gWs_all kw_1141) (List.forall_mem_cons.mpr ⟨kw_1357, List.forall_mem_cons.mpr ⟨kw_1139, List.forall_mem_cons.mpr ⟨kw_1140, List.forall_mem_cons.mpr ⟨kw_239, fun _ h => nomatch h⟩⟩⟩⟩), rfl, by decide +kernel, by decide +kernel, by decide +kernel⟩
theorem kw_1341 : Cond.methodLink RX2 75 yX4_add ∈ gWs := List.mem_filter.mpr ⟨gMt5 _ (List.mem_of_getElem? (i := 144) rfl), rfl⟩
theorem cl_X2_75 : gCV RX2 75 yX4_add cX4_add 2 none 1 := ⟨g_mk [.methodLink RX2 75 yX4_add, .instanceMethod yX4_add, .selects yX4_add.cls yX4_add yX4_add, .initialized yX4_add.cls] (gWs_all kw_444) (List.forall_mem_cons.mpr ⟨kw_1341, List.forall_mem_cons.mpr ⟨kw_442, List.forall_mem_cons.mpr ⟨kw_443, List.forall_mem_cons.mpr ⟨kw_239, fun _ h => nomatch h⟩⟩⟩⟩), rfl, by decide +kernel, by decide +kernel, by decide +kernel⟩
theorem cl_X2_117 : gCSN RX2 117 7 yX11_holds cX11_holds 3 (some .boolean) 3 := ⟨_, rfl, gWs_all kw_1360, kw_238, kw_1359, ⟨by decide +kernel, by decide +kernel, by decide +kernel⟩⟩
theorem cl_X2_121 : gCSN RX2 121 8 yX11_isDivision cX11_isDivision 1 (some .boolean) 1 := ⟨_, rfl, gWs_all kw_1367, kw_238, kw_1366, ⟨by decide +kernel, by decide +kernel, by decide +kernel⟩⟩
theorem cl_X2_124 : gCSN RX2 124 9 yX11_worked cX11_worked 3 (some .int) 3 := ⟨_, rfl, gWs_all kw_1370, kw_238, kw_1369, ⟨by decide +kernel, by decide +kernel, by decide +kernel⟩⟩
theorem kw_253 : Cond.initialized RX2 ∈ gWs := List.mem_filter.mpr ⟨gMt1 _ (List.mem_of_getElem? (i := 16) rfl), rfl⟩
theorem kw_1350 : Cond.code yX2_fail cX2_fail 3 none ∈ gWs := List.mem_filter.mpr ⟨gMt5 _ (List.mem_of_getElem? (i := 153) rfl), rfl⟩
theorem kw_1347 : Cond.methodLink RX2 57 yX2_fail ∈ gWs := List.mem_filter.mpr ⟨gMt5 _ (List.mem_of_getElem? (i := 150) rfl), rfl⟩
theorem kw_1349 : Cond.instanceMethod yX2_fail ∈ gWs := List.mem_filter.mpr ⟨gMt5 _ (List.mem_of_getElem? (i := 152) rfl), rfl⟩
theorem kw_62 : Cond.selects RX2 yX2_fail yX2_fail ∈ gWs := gWm 62 (by decide +kernel) rfl
theorem cl_X2_57 : gCV RX2 57 yX2_fail cX2_fail 3 none 2 := ⟨g_mk [.methodLink RX2 57 yX2_fail, .instanceMethod yX2_fail, .selects yX2_fail.cls yX2_fail yX2_fail, .initialized yX2_fail.cls] (gWs_all kw_1350) (List.forall_mem_cons.mpr ⟨kw_1347, List.forall_mem_cons.mpr ⟨kw_1349, List.forall_mem_cons.mpr ⟨kw_62, List.forall_mem_cons.mpr ⟨kw_253, fun _ h => nomatch h⟩⟩⟩⟩), rfl, by decide +kernel, by decide +kernel, by decide +kernel⟩
theorem kw_621 : Cond.fieldLink RX2 32 "WordTongue$Constants" "tree" "LWordTongue$Tree;" ∈ gWs := List.mem_filter.mpr ⟨gMt2 _ (List.mem_of_getElem? (i := 144) rfl), rfl⟩
theorem fl_X2_32 : gFL RX2 32 2 0 (.object "WordTongue$Tree") true := ⟨RX2, TX2, 7, tyX2, rfl, by decide, inW_RX2, kw_621, tyX2_ok, nmX2, rfl, by decide +kernel, fun _ => rfl⟩
theorem kw_1177 : Cond.code yX10_first cX10_first 2 (some .int) ∈ gWs := List.mem_filter.mpr ⟨gMt4 _ (List.mem_of_getElem? (i := 220) rfl), rfl⟩
theorem kw_1337 : Cond.methodLink RX2 66 yX10_first ∈ gWs := List.mem_filter.mpr ⟨gMt5 _ (List.mem_of_getElem? (i := 140) rfl), rfl⟩
theorem kw_1175 : Cond.instanceMethod yX10_first ∈ gWs := List.mem_filter.mpr ⟨gMt4 _ (List.mem_of_getElem? (i := 218) rfl), rfl⟩
theorem kw_1176 : Cond.selects RX10 yX10_first yX10_first ∈ gWs := List.mem_filter.mpr ⟨gMt4 _ (List.mem_of_getElem? (i := 219) rfl), rfl⟩
theorem cl_X2_66 : gCV RX2 66 yX10_first cX10_first 2 (some .int) 1 := ⟨g_mk [.methodLink RX2 66 yX10_first, .instanceMethod yX10_first, .selects yX10_first.cls yX10_first yX10_first, .initialized yX10_first.cls] (gWs_all kw_1177) (List.forall_mem_cons.mpr ⟨kw_1337, List.forall_mem_cons.mpr ⟨kw_1175, List.forall_mem_cons.mpr ⟨kw_1176, List.forall_mem_cons.mpr ⟨kw_241, fun _ h => nomatch h⟩⟩⟩⟩), rfl, by decide +kernel, by decide +kernel, by decide +kernel⟩
theorem kw_619 : Cond.constant RX2 11 1000000 ∈ gWs := List.mem_filter.mpr ⟨gMt2 _ (List.mem_of_getElem? (i := 142) rfl), rfl⟩
theorem kw_1090 : Cond.code yX10_data cX10_data 2 (some .int) ∈ gWs := List.mem_filter.mpr ⟨gMt4 _ (List.mem_of_getElem? (i := 133) rfl), rfl⟩
theorem kw_1338 : Cond.methodLink RX2 69 yX10_data ∈ gWs := List.mem_filter.mpr ⟨gMt5 _ (List.mem_of_getElem? (i := 141) rfl), rfl⟩
theorem kw_1088 : Cond.instanceMethod yX10_data ∈ gWs := List.mem_filter.mpr ⟨gMt4 _ (List.mem_of_getElem? (i := 131) rfl), rfl⟩
theorem kw_1089 : Cond.selects RX10 yX10_data yX10_data ∈ gWs := List.mem_filter.mpr ⟨gMt4 _ (List.mem_of_getElem? (i := 132) rfl), rfl⟩
theorem cl_X2_69 : gCV RX2 69 yX10_data cX10_data 2 (some .int) 1 := ⟨g_mk [.methodLink RX2 69 yX10_data, .instanceMethod yX10_data, .selects yX10_data.cls yX10_data yX10_data, .initialized yX10_data.cls] (gWs_all kw_1090) (List.forall_mem_cons.mpr ⟨kw_1338, List.forall_mem_cons.mpr ⟨kw_1088, List.forall_mem_cons.mpr ⟨kw_1089, List.forall_mem_cons.mpr ⟨kw_241, fun _ h => nomatch h⟩⟩⟩⟩), rfl, by decide +kernel, by decide +kernel, by decide +kernel⟩
theorem kw_1200 : Cond.code yX10_place cX10_place 2 (some .int) ∈ gWs := List.mem_filter.mpr ⟨gMt5 _ (List.mem_of_getElem? (i := 3) rfl), rfl⟩
theorem kw_1339 : Cond.methodLink RX2 51 yX10_place ∈ gWs := List.mem_filter.mpr ⟨gMt5 _ (List.mem_of_getElem? (i := 142) rfl), rfl⟩
theorem kw_1198 : Cond.instanceMethod yX10_place ∈ gWs := List.mem_filter.mpr ⟨gMt5 _ (List.mem_of_getElem? (i := 1) rfl), rfl⟩
theorem kw_1199 : Cond.selects RX10 yX10_place yX10_place ∈ gWs := List.mem_filter.mpr ⟨gMt5 _ (List.mem_of_getElem? (i := 2) rfl), rfl⟩
theorem cl_X2_51 : gCV RX2 51 yX10_place cX10_place 2 (some .int) 1 := ⟨g_mk [.methodLink RX2 51 yX10_place, .instanceMethod yX10_place, .selects yX10_place.cls yX10_place yX10_place, .initialized yX10_place.cls] (gWs_all kw_1200) (List.forall_mem_cons.mpr ⟨kw_1339, List.forall_mem_cons.mpr ⟨kw_1198, List.forall_mem_cons.mpr ⟨kw_1199, List.forall_mem_cons.mpr ⟨kw_241, fun _ h => nomatch h⟩⟩⟩⟩), rfl, by decide +kernel, by decide +kernel, by decide +kernel⟩
theorem kw_1157 : Cond.code yX10_kind cX10_kind 2 (some .int) ∈ gWs := List.mem_filter.mpr ⟨gMt4 _ (List.mem_of_getElem? (i := 200) rfl), rfl⟩
theorem kw_1340 : Cond.methodLink RX2 72 yX10_kind ∈ gWs := List.mem_filter.mpr ⟨gMt5 _ (List.mem_of_getElem? (i := 143) rfl), rfl⟩
theorem kw_1155 : Cond.instanceMethod yX10_kind ∈ gWs := List.mem_filter.mpr ⟨gMt4 _ (List.mem_of_getElem? (i := 198) rfl), rfl⟩
theorem kw_1156 : Cond.selects RX10 yX10_kind yX10_kind ∈ gWs := List.mem_filter.mpr ⟨gMt4 _ (List.mem_of_getElem? (i := 199) rfl), rfl⟩
theorem cl_X2_72 : gCV RX2 72 yX10_kind cX10_kind 2 (some .int) 1 := ⟨g_mk [.methodLink RX2 72 yX10_kind, .instanceMethod yX10_kind, .selects yX10_kind.cls yX10_kind yX10_kind, .initialized yX10_kind.cls] (gWs_all kw_1157) (List.forall_mem_cons.mpr ⟨kw_1340, List.forall_mem_cons.mpr ⟨kw_1155, List.forall_mem_cons.mpr ⟨kw_1156, List.forall_mem_cons.mpr ⟨kw_241, fun _ h => nomatch h⟩⟩⟩⟩), rfl, by decide +kernel, by decide +kernel, by decide +kernel⟩
theorem kw_623 : Cond.fieldLink RX2 40 "WordTongue$Constants" "scope" "LWordTongue$Scope;" ∈ gWs := List.mem_filter.mpr ⟨gMt2 _ (List.mem_of_getElem? (i := 146) rfl), rfl⟩
theorem fl_X2_40 : gFL RX2 40 2 2 (.object "WordTongue$Scope") true := ⟨RX2, TX2, 7, tyX2, rfl, by decide, inW_RX2, kw_623, tyX2_ok, nmX2, rfl, by decide +kernel, fun _ => rfl⟩
theorem kw_1374 : Cond.code yX9_find cX9_find 3 (some .int) ∈ gWs := List.mem_filter.mpr ⟨gMt5 _ (List.mem_of_getElem? (i := 177) rfl), rfl⟩
theorem kw_1371 : Cond.methodLink RX2 99 yX9_find ∈ gWs := List.mem_filter.mpr ⟨gMt5 _ (List.mem_of_getElem? (i := 174) rfl), rfl⟩
theorem kw_1372 : Cond.instanceMethod yX9_find ∈ gWs := List.mem_filter.mpr ⟨gMt5 _ (List.mem_of_getElem? (i := 175) rfl), rfl⟩
theorem kw_1373 : Cond.selects RX9 yX9_find yX9_find ∈ gWs := List.mem_filter.mpr ⟨gMt5 _ (List.mem_of_getElem? (i := 176) rfl), rfl⟩
theorem cl_X2_99 : gCV RX2 99 yX9_find cX9_find 3 (some .int) 1 := ⟨g_mk [.methodLink RX2 99 yX9_find, .instanceMethod yX9_find, .selects yX9_find.cls yX9_find yX9_find, .initialized yX9_find.cls] (gWs_all kw_1374) (List.forall_mem_cons.mpr ⟨kw_1371, List.forall_mem_cons.mpr ⟨kw_1372, List.forall_mem_cons.mpr ⟨kw_1373, List.forall_mem_cons.mpr ⟨kw_252, fun _ h => nomatch h⟩⟩⟩⟩), rfl, by decide +kernel, by decide +kernel, by decide +kernel⟩
theorem kw_1185 : Cond.code yX10_next cX10_next 2 (some .int) ∈ gWs := List.mem_filter.mpr ⟨gMt4 _ (List.mem_of_getElem? (i := 228) rfl), rfl⟩
theorem kw_1346 : Cond.methodLink RX2 81 yX10_next ∈ gWs := List.mem_filter.mpr ⟨gMt5 _ (List.mem_of_getElem? (i := 149) rfl), rfl⟩
theorem kw_1183 : Cond.instanceMethod yX10_next ∈ gWs := List.mem_filter.mpr ⟨gMt4 _ (List.mem_of_getElem? (i := 226) rfl), rfl⟩
theorem kw_1184 : Cond.selects RX10 yX10_next yX10_next ∈ gWs := List.mem_filter.mpr ⟨gMt4 _ (List.mem_of_getElem? (i := 227) rfl), rfl⟩
theorem cl_X2_81 : gCV RX2 81 yX10_next cX10_next 2 (some .int) 1 := ⟨g_mk [.methodLink RX2 81 yX10_next, .instanceMethod yX10_next, .selects yX10_next.cls yX10_next yX10_next, .initialized yX10_next.cls] (gWs_all kw_1185) (List.forall_mem_cons.mpr ⟨kw_1346, List.forall_mem_cons.mpr ⟨kw_1183, List.forall_mem_cons.mpr ⟨kw_1184, List.forall_mem_cons.mpr ⟨kw_241, fun _ h => nomatch h⟩⟩⟩⟩), rfl, by decide +kernel, by decide +kernel, by decide +kernel⟩
theorem kw_1386 : Cond.code yX9_data cX9_data 2 (some .int) ∈ gWs := List.mem_filter.mpr ⟨gMt5 _ (List.mem_of_getElem? (i := 189) rfl), rfl⟩
theorem kw_1383 : Cond.methodLink RX2 108 yX9_data ∈ gWs := List.mem_filter.mpr ⟨gMt5 _ (List.mem_of_getElem? (i := 186) rfl), rfl⟩
theorem kw_1384 : Cond.instanceMethod yX9_data ∈ gWs := List.mem_filter.mpr ⟨gMt5 _ (List.mem_of_getElem? (i := 187) rfl), rfl⟩
theorem kw_1385 : Cond.selects RX9 yX9_data yX9_data ∈ gWs := List.mem_filter.mpr ⟨gMt5 _ (List.mem_of_getElem? (i := 188) rfl), rfl⟩
theorem cl_X2_108 : gCV RX2 108 yX9_data cX9_data 2 (some .int) 1 := ⟨g_mk [.methodLink RX2 108 yX9_data, .instanceMethod yX9_data, .selects yX9_data.cls yX9_data yX9_data, .initialized yX9_data.cls] (gWs_all kw_1386) (List.forall_mem_cons.mpr ⟨kw_1383, List.forall_mem_cons.mpr ⟨kw_1384, List.forall_mem_cons.mpr ⟨kw_1385, List.forall_mem_cons.mpr ⟨kw_252, fun _ h => nomatch h⟩⟩⟩⟩), rfl, by decide +kernel, by decide +kernel, by decide +kernel⟩
theorem kw_1378 : Cond.code yX9_kind cX9_kind 2 (some .int) ∈ gWs := List.mem_filter.mpr ⟨gMt5 _ (List.mem_of_getElem? (i := 181) rfl), rfl⟩
theorem kw_1375 : Cond.methodLink RX2 104 yX9_kind ∈ gWs := List.mem_filter.mpr ⟨gMt5 _ (List.mem_of_getElem? (i := 178) rfl), rfl⟩
theorem kw_1376 : Cond.instanceMethod yX9_kind ∈ gWs := List.mem_filter.mpr ⟨gMt5 _ (List.mem_of_getElem? (i := 179) rfl), rfl⟩
theorem kw_1377 : Cond.selects RX9 yX9_kind yX9_kind ∈ gWs := List.mem_filter.mpr ⟨gMt5 _ (List.mem_of_getElem? (i := 180) rfl), rfl⟩
theorem cl_X2_104 : gCV RX2 104 yX9_kind cX9_kind 2 (some .int) 1 := ⟨g_mk [.methodLink RX2 104 yX9_kind, .instanceMethod yX9_kind, .selects yX9_kind.cls yX9_kind yX9_kind, .initialized yX9_kind.cls] (gWs_all kw_1378) (List.forall_mem_cons.mpr ⟨kw_1375, List.forall_mem_cons.mpr ⟨kw_1376, List.forall_mem_cons.mpr ⟨kw_1377, List.forall_mem_cons.mpr ⟨kw_252, fun _ h => nomatch h⟩⟩⟩⟩), rfl, by decide +kernel, by decide +kernel, by decide +kernel⟩
theorem kw_1382 : Cond.code yX9_owner cX9_owner 2 (some .int) ∈ gWs := List.mem_filter.mpr ⟨gMt5 _ (List.mem_of_getElem? (i := 185) rfl), rfl⟩
theorem kw_1379 : Cond.methodLink RX2 105 yX9_owner ∈ gWs := List.mem_filter.mpr ⟨gMt5 _ (List.mem_of_getElem? (i := 182) rfl), rfl⟩
theorem kw_1380 : Cond.instanceMethod yX9_owner ∈ gWs := List.mem_filter.mpr ⟨gMt5 _ (List.mem_of_getElem? (i := 183) rfl), rfl⟩
theorem kw_1381 : Cond.selects RX9 yX9_owner yX9_owner ∈ gWs := List.mem_filter.mpr ⟨gMt5 _ (List.mem_of_getElem? (i := 184) rfl), rfl⟩
theorem cl_X2_105 : gCV RX2 105 yX9_owner cX9_owner 2 (some .int) 1 := ⟨g_mk [.methodLink RX2 105 yX9_owner, .instanceMethod yX9_owner, .selects yX9_owner.cls yX9_owner yX9_owner, .initialized yX9_owner.cls] (gWs_all kw_1382) (List.forall_mem_cons.mpr ⟨kw_1379, List.forall_mem_cons.mpr ⟨kw_1380, List.forall_mem_cons.mpr ⟨kw_1381, List.forall_mem_cons.mpr ⟨kw_252, fun _ h => nomatch h⟩⟩⟩⟩), rfl, by decide +kernel, by decide +kernel, by decide +kernel⟩
theorem kw_1345 : Cond.code yX2_choose cX2_choose 8 (some .int) ∈ gWs := List.mem_filter.mpr ⟨gMt5 _ (List.mem_of_getElem? (i := 148) rfl), rfl⟩
theorem kw_1342 : Cond.methodLink RX2 78 yX2_choose ∈ gWs := List.mem_filter.mpr ⟨gMt5 _ (List.mem_of_getElem? (i := 145) rfl), rfl⟩
theorem kw_1344 : Cond.instanceMethod yX2_choose ∈ gWs := List.mem_filter.mpr ⟨gMt5 _ (List.mem_of_getElem? (i := 147) rfl), rfl⟩
theorem kw_61 : Cond.selects RX2 yX2_choose yX2_choose ∈ gWs := gWm 61 (by decide +kernel) rfl
theorem cl_X2_78 : gCV RX2 78 yX2_choose cX2_choose 8 (some .int) 2 := ⟨g_mk [.methodLink RX2 78 yX2_choose, .instanceMethod yX2_choose, .selects yX2_choose.cls yX2_choose yX2_choose, .initialized yX2_choose.cls] (gWs_all kw_1345) (List.forall_mem_cons.mpr ⟨kw_1342, List.forall_mem_cons.mpr ⟨kw_1344, List.forall_mem_cons.mpr ⟨kw_61, List.forall_mem_cons.mpr ⟨kw_253, fun _ h => nomatch h⟩⟩⟩⟩), rfl, by decide +kernel, by decide +kernel, by decide +kernel⟩
theorem kw_1336 : Cond.code yX2_reckon cX2_reckon 11 (some .int) ∈ gWs := List.mem_filter.mpr ⟨gMt5 _ (List.mem_of_getElem? (i := 139) rfl), rfl⟩
theorem kw_1333 : Cond.methodLink RX2 47 yX2_reckon ∈ gWs := List.mem_filter.mpr ⟨gMt5 _ (List.mem_of_getElem? (i := 136) rfl), rfl⟩
theorem kw_1335 : Cond.instanceMethod yX2_reckon ∈ gWs := List.mem_filter.mpr ⟨gMt5 _ (List.mem_of_getElem? (i := 138) rfl), rfl⟩
theorem kw_60 : Cond.selects RX2 yX2_reckon yX2_reckon ∈ gWs := gWm 60 (by decide +kernel) rfl
theorem cl_X2_47 : gCV RX2 47 yX2_reckon cX2_reckon 11 (some .int) 2 := ⟨g_mk [.methodLink RX2 47 yX2_reckon, .instanceMethod yX2_reckon, .selects yX2_reckon.cls yX2_reckon yX2_reckon, .initialized yX2_reckon.cls] (gWs_all kw_1336) (List.forall_mem_cons.mpr ⟨kw_1333, List.forall_mem_cons.mpr ⟨kw_1335, List.forall_mem_cons.mpr ⟨kw_60, List.forall_mem_cons.mpr ⟨kw_253, fun _ h => nomatch h⟩⟩⟩⟩), rfl, by decide +kernel, by decide +kernel, by decide +kernel⟩
theorem cl_X2_84 : gCSN RX2 84 6 yX11_isRelation cX11_isRelation 1 (some .boolean) 1 := ⟨_, rfl, gWs_all kw_1235, kw_238, kw_1234, ⟨by decide +kernel, by decide +kernel, by decide +kernel⟩⟩
theorem kw_1364 : Cond.code yX2_work cX2_work 6 none ∈ gWs := List.mem_filter.mpr ⟨gMt5 _ (List.mem_of_getElem? (i := 167) rfl), rfl⟩
theorem kw_1361 : Cond.methodLink RX2 95 yX2_work ∈ gWs := List.mem_filter.mpr ⟨gMt5 _ (List.mem_of_getElem? (i := 164) rfl), rfl⟩
theorem kw_1363 : Cond.instanceMethod yX2_work ∈ gWs := List.mem_filter.mpr ⟨gMt5 _ (List.mem_of_getElem? (i := 166) rfl), rfl⟩
theorem kw_64 : Cond.selects RX2 yX2_work yX2_work ∈ gWs := gWm 64 (by decide +kernel) rfl
theorem cl_X2_95 : gCV RX2 95 yX2_work cX2_work 6 none 3 := ⟨g_mk [.methodLink RX2 95 yX2_work, .instanceMethod yX2_work, .selects yX2_work.cls yX2_work yX2_work, .initialized yX2_work.cls] (gWs_all kw_1364) (List.forall_mem_cons.mpr ⟨kw_1361, List.forall_mem_cons.mpr ⟨kw_1363, List.forall_mem_cons.mpr ⟨kw_64, List.forall_mem_cons.mpr ⟨kw_253, fun _ h => nomatch h⟩⟩⟩⟩), rfl, by decide +kernel, by decide +kernel, by decide +kernel⟩
theorem kw_1317 : Cond.code yX10_extra cX10_extra 2 (some .int) ∈ gWs := List.mem_filter.mpr ⟨gMt5 _ (List.mem_of_getElem? (i := 120) rfl), rfl⟩
theorem kw_1352 : Cond.methodLink RX2 88 yX10_extra ∈ gWs := List.mem_filter.mpr ⟨gMt5 _ (List.mem_of_getElem? (i := 155) rfl), rfl⟩
theorem kw_1315 : Cond.instanceMethod yX10_extra ∈ gWs := List.mem_filter.mpr ⟨gMt5 _ (List.mem_of_getElem? (i := 118) rfl), rfl⟩
theorem kw_1316 : Cond.selects RX10 yX10_extra yX10_extra ∈ gWs := List.mem_filter.mpr ⟨gMt5 _ (List.mem_of_getElem? (i := 119) rfl), rfl⟩
theorem cl_X2_88 : gCV RX2 88 yX10_extra cX10_extra 2 (some .int) 1 := ⟨g_mk [.methodLink RX2 88 yX10_extra, .instanceMethod yX10_extra, .selects yX10_extra.cls yX10_extra yX10_extra, .initialized yX10_extra.cls] (gWs_all kw_1317) (List.forall_mem_cons.mpr ⟨kw_1352, List.forall_mem_cons.mpr ⟨kw_1315, List.forall_mem_cons.mpr ⟨kw_1316, List.forall_mem_cons.mpr ⟨kw_241, fun _ h => nomatch h⟩⟩⟩⟩), rfl, by decide +kernel, by decide +kernel, by decide +kernel⟩
theorem kw_1356 : Cond.code yX2_relate cX2_relate 7 (some .boolean) ∈ gWs := List.mem_filter.mpr ⟨gMt5 _ (List.mem_of_getElem? (i := 159) rfl), rfl⟩
theorem kw_1353 : Cond.methodLink RX2 91 yX2_relate ∈ gWs := List.mem_filter.mpr ⟨gMt5 _ (List.mem_of_getElem? (i := 156) rfl), rfl⟩
theorem kw_1355 : Cond.instanceMethod yX2_relate ∈ gWs := List.mem_filter.mpr ⟨gMt5 _ (List.mem_of_getElem? (i := 158) rfl), rfl⟩
theorem kw_63 : Cond.selects RX2 yX2_relate yX2_relate ∈ gWs := gWm 63 (by decide +kernel) rfl
theorem cl_X2_91 : gCV RX2 91 yX2_relate cX2_relate 7 (some .boolean) 3 := ⟨g_mk [.methodLink RX2 91 yX2_relate, .instanceMethod yX2_relate, .selects yX2_relate.cls yX2_relate yX2_relate, .initialized yX2_relate.cls] (gWs_all kw_1356) (List.forall_mem_cons.mpr ⟨kw_1353, List.forall_mem_cons.mpr ⟨kw_1355, List.forall_mem_cons.mpr ⟨kw_63, List.forall_mem_cons.mpr ⟨kw_253, fun _ h => nomatch h⟩⟩⟩⟩), rfl, by decide +kernel, by decide +kernel, by decide +kernel⟩
theorem kw_1390 : Cond.code yX2_single cX2_single 5 none ∈ gWs := List.mem_filter.mpr ⟨gMt5 _ (List.mem_of_getElem? (i := 193) rfl), rfl⟩
theorem kw_1387 : Cond.methodLink RX2 109 yX2_single ∈ gWs := List.mem_filter.mpr ⟨gMt5 _ (List.mem_of_getElem? (i := 190) rfl), rfl⟩
theorem kw_1389 : Cond.instanceMethod yX2_single ∈ gWs := List.mem_filter.mpr ⟨gMt5 _ (List.mem_of_getElem? (i := 192) rfl), rfl⟩
theorem kw_65 : Cond.selects RX2 yX2_single yX2_single ∈ gWs := gWm 65 (by decide +kernel) rfl
theorem cl_X2_109 : gCV RX2 109 yX2_single cX2_single 5 none 3 := ⟨g_mk [.methodLink RX2 109 yX2_single, .instanceMethod yX2_single, .selects yX2_single.cls yX2_single yX2_single, .initialized yX2_single.cls] (gWs_all kw_1390) (List.forall_mem_cons.mpr ⟨kw_1387, List.forall_mem_cons.mpr ⟨kw_1389, List.forall_mem_cons.mpr ⟨kw_65, List.forall_mem_cons.mpr ⟨kw_253, fun _ h => nomatch h⟩⟩⟩⟩), rfl, by decide +kernel, by decide +kernel, by decide +kernel⟩
theorem kw_1332 : Cond.methodLink RX2 44 yX4_cut ∈ gWs := List.mem_filter.mpr ⟨gMt5 _ (List.mem_of_getElem? (i := 135) rfl), rfl⟩
theorem cl_X2_44 : gCV RX2 44 yX4_cut cX4_cut 2 none 1 := ⟨g_mk [.methodLink RX2 44 yX4_cut, .instanceMethod yX4_cut, .selects yX4_cut.cls yX4_cut yX4_cut, .initialized yX4_cut.cls] (gWs_all kw_468) (List.forall_mem_cons.mpr ⟨kw_1332, List.forall_mem_cons.mpr ⟨kw_466, List.forall_mem_cons.mpr ⟨kw_467, List.forall_mem_cons.mpr ⟨kw_239, fun _ h => nomatch h⟩⟩⟩⟩), rfl, by decide +kernel, by decide +kernel, by decide +kernel⟩
theorem kw_622 : Cond.fieldLink RX2 36 "WordTongue$Constants" "program" "LWordTongue$Program;" ∈ gWs := List.mem_filter.mpr ⟨gMt2 _ (List.mem_of_getElem? (i := 145) rfl), rfl⟩
theorem fl_X2_36 : gFL RX2 36 2 1 (.object "WordTongue$Program") true := ⟨RX2, TX2, 7, tyX2, rfl, by decide, inW_RX2, kw_622, tyX2_ok, nmX2, rfl, by decide +kernel, fun _ => rfl⟩
theorem kw_1391 : Cond.methodLink RX2 61 yX7_blame ∈ gWs := List.mem_filter.mpr ⟨gMt5 _ (List.mem_of_getElem? (i := 194) rfl), rfl⟩
theorem cl_X2_61 : gCV RX2 61 yX7_blame cX7_blame 4 none 2 := ⟨g_mk [.methodLink RX2 61 yX7_blame, .instanceMethod yX7_blame, .selects yX7_blame.cls yX7_blame yX7_blame, .initialized yX7_blame.cls] (gWs_all kw_1008) (List.forall_mem_cons.mpr ⟨kw_1391, List.forall_mem_cons.mpr ⟨kw_1006, List.forall_mem_cons.mpr ⟨kw_1007, List.forall_mem_cons.mpr ⟨kw_240, fun _ h => nomatch h⟩⟩⟩⟩), rfl, by decide +kernel, by decide +kernel, by decide +kernel⟩
theorem kw_650 : Cond.fieldLink RX1 27 "WordTongue$Coder" "breaks" "I" ∈ gWs := List.mem_filter.mpr ⟨gMt2 _ (List.mem_of_getElem? (i := 173) rfl), rfl⟩
theorem fl_X1_27 : gFL RX1 27 1 7 .int false := ⟨RX1, TX1, 19, tyX1, rfl, by decide, inW_RX1, kw_650, tyX1_ok, nmX1, rfl, by decide +kernel, fun h => by cases h⟩
theorem kw_651 : Cond.fieldLink RX1 31 "WordTongue$Coder" "loops" "I" ∈ gWs := List.mem_filter.mpr ⟨gMt2 _ (List.mem_of_getElem? (i := 174) rfl), rfl⟩
theorem fl_X1_31 : gFL RX1 31 1 8 .int false := ⟨RX1, TX1, 19, tyX1, rfl, by decide, inW_RX1, kw_651, tyX1_ok, nmX1, rfl, by decide +kernel, fun h => by cases h⟩
theorem kw_652 : Cond.fieldLink RX1 34 "WordTongue$Coder" "endcases" "I" ∈ gWs := List.mem_filter.mpr ⟨gMt2 _ (List.mem_of_getElem? (i := 175) rfl), rfl⟩
theorem fl_X1_34 : gFL RX1 34 1 9 .int false := ⟨RX1, TX1, 19, tyX1, rfl, by decide, inW_RX1, kw_652, tyX1_ok, nmX1, rfl, by decide +kernel, fun h => by cases h⟩
theorem kw_653 : Cond.fieldLink RX1 37 "WordTongue$Coder" "results" "I" ∈ gWs := List.mem_filter.mpr ⟨gMt2 _ (List.mem_of_getElem? (i := 176) rfl), rfl⟩
theorem fl_X1_37 : gFL RX1 37 1 10 .int false := ⟨RX1, TX1, 19, tyX1, rfl, by decide, inW_RX1, kw_653, tyX1_ok, nmX1, rfl, by decide +kernel, fun h => by cases h⟩
theorem kw_643 : Cond.fieldLink RX1 65 "WordTongue$Coder" "tree" "LWordTongue$Tree;" ∈ gWs := List.mem_filter.mpr ⟨gMt2 _ (List.mem_of_getElem? (i := 166) rfl), rfl⟩
theorem fl_X1_65 : gFL RX1 65 1 0 (.object "WordTongue$Tree") true := ⟨RX1, TX1, 19, tyX1, rfl, by decide, inW_RX1, kw_643, tyX1_ok, nmX1, rfl, by decide +kernel, fun _ => rfl⟩
theorem kw_1300 : Cond.methodLink RX1 121 yX10_kind ∈ gWs := List.mem_filter.mpr ⟨gMt5 _ (List.mem_of_getElem? (i := 103) rfl), rfl⟩
theorem cl_X1_121 : gCV RX1 121 yX10_kind cX10_kind 2 (some .int) 1 := ⟨g_mk [.methodLink RX1 121 yX10_kind, .instanceMethod yX10_kind, .selects yX10_kind.cls yX10_kind yX10_kind, .initialized yX10_kind.cls] (gWs_all kw_1157) (List.forall_mem_cons.mpr ⟨kw_1300, List.forall_mem_cons.mpr ⟨kw_1155, List.forall_mem_cons.mpr ⟨kw_1156, List.forall_mem_cons.mpr ⟨kw_241, fun _ h => nomatch h⟩⟩⟩⟩), rfl, by decide +kernel, by decide +kernel, by decide +kernel⟩
theorem kw_1299 : Cond.methodLink RX1 126 yX10_first ∈ gWs := List.mem_filter.mpr ⟨gMt5 _ (List.mem_of_getElem? (i := 102) rfl), rfl⟩
theorem cl_X1_126 : gCV RX1 126 yX10_first cX10_first 2 (some .int) 1 := ⟨g_mk [.methodLink RX1 126 yX10_first, .instanceMethod yX10_first, .selects yX10_first.cls yX10_first yX10_first, .initialized yX10_first.cls] (gWs_all kw_1177) (List.forall_mem_cons.mpr ⟨kw_1299, List.forall_mem_cons.mpr ⟨kw_1175, List.forall_mem_cons.mpr ⟨kw_1176, List.forall_mem_cons.mpr ⟨kw_241, fun _ h => nomatch h⟩⟩⟩⟩), rfl, by decide +kernel, by decide +kernel, by decide +kernel⟩
theorem kw_646 : Cond.fieldLink RX1 87 "WordTongue$Coder" "constants" "LWordTongue$Constants;" ∈ gWs := List.mem_filter.mpr ⟨gMt2 _ (List.mem_of_getElem? (i := 169) rfl), rfl⟩
theorem fl_X1_87 : gFL RX1 87 1 3 (.object "WordTongue$Constants") true := ⟨RX1, TX1, 19, tyX1, rfl, by decide, inW_RX1, kw_646, tyX1_ok, nmX1, rfl, by decide +kernel, fun _ => rfl⟩
theorem kw_1331 : Cond.code yX2_number cX2_number 4 (some .int) ∈ gWs := List.mem_filter.mpr ⟨gMt5 _ (List.mem_of_getElem? (i := 134) rfl), rfl⟩
theorem kw_1328 : Cond.methodLink RX1 145 yX2_number ∈ gWs := List.mem_filter.mpr ⟨gMt5 _ (List.mem_of_getElem? (i := 131) rfl), rfl⟩
theorem kw_1329 : Cond.instanceMethod yX2_number ∈ gWs := List.mem_filter.mpr ⟨gMt5 _ (List.mem_of_getElem? (i := 132) rfl), rfl⟩
theorem kw_1330 : Cond.selects RX2 yX2_number yX2_number ∈ gWs := List.mem_filter.mpr ⟨gMt5 _ (List.mem_of_getElem? (i := 133) rfl), rfl⟩
theorem cl_X1_145 : gCV RX1 145 yX2_number cX2_number 4 (some .int) 2 := ⟨g_mk [.methodLink RX1 145 yX2_number, .instanceMethod yX2_number, .selects yX2_number.cls yX2_number yX2_number, .initialized yX2_number.cls] (gWs_all kw_1331) (List.forall_mem_cons.mpr ⟨kw_1328, List.forall_mem_cons.mpr ⟨kw_1329, List.forall_mem_cons.mpr ⟨kw_1330, List.forall_mem_cons.mpr ⟨kw_253, fun _ h => nomatch h⟩⟩⟩⟩), rfl, by decide +kernel, by decide +kernel, by decide +kernel⟩
theorem kw_1395 : Cond.code yX2_hasFailed cX2_hasFailed 1 (some .boolean) ∈ gWs := List.mem_filter.mpr ⟨gMt5 _ (List.mem_of_getElem? (i := 198) rfl), rfl⟩
theorem kw_1392 : Cond.methodLink RX1 238 yX2_hasFailed ∈ gWs := List.mem_filter.mpr ⟨gMt5 _ (List.mem_of_getElem? (i := 195) rfl), rfl⟩
theorem kw_1393 : Cond.instanceMethod yX2_hasFailed ∈ gWs := List.mem_filter.mpr ⟨gMt5 _ (List.mem_of_getElem? (i := 196) rfl), rfl⟩
theorem kw_1394 : Cond.selects RX2 yX2_hasFailed yX2_hasFailed ∈ gWs := List.mem_filter.mpr ⟨gMt5 _ (List.mem_of_getElem? (i := 197) rfl), rfl⟩
theorem cl_X1_238 : gCV RX1 238 yX2_hasFailed cX2_hasFailed 1 (some .boolean) 0 := ⟨g_mk [.methodLink RX1 238 yX2_hasFailed, .instanceMethod yX2_hasFailed, .selects yX2_hasFailed.cls yX2_hasFailed yX2_hasFailed, .initialized yX2_hasFailed.cls] (gWs_all kw_1395) (List.forall_mem_cons.mpr ⟨kw_1392, List.forall_mem_cons.mpr ⟨kw_1393, List.forall_mem_cons.mpr ⟨kw_1394, List.forall_mem_cons.mpr ⟨kw_253, fun _ h => nomatch h⟩⟩⟩⟩), rfl, by decide +kernel, by decide +kernel, by decide +kernel⟩
theorem kw_654 : Cond.fieldLink RX1 40 "WordTongue$Coder" "caseBase" "I" ∈ gWs := List.mem_filter.mpr ⟨gMt2 _ (List.mem_of_getElem? (i := 177) rfl), rfl⟩
theorem fl_X1_40 : gFL RX1 40 1 11 .int false := ⟨RX1, TX1, 19, tyX1, rfl, by decide, inW_RX1, kw_654, tyX1_ok, nmX1, rfl, by decide +kernel, fun h => by cases h⟩
theorem kw_649 : Cond.fieldLink RX1 24 "WordTongue$Coder" "cases" "LWordTongue$Ints;" ∈ gWs := List.mem_filter.mpr ⟨gMt2 _ (List.mem_of_getElem? (i := 172) rfl), rfl⟩
theorem fl_X1_24 : gFL RX1 24 1 6 (.object "WordTongue$Ints") true := ⟨RX1, TX1, 19, tyX1, rfl, by decide, inW_RX1, kw_649, tyX1_ok, nmX1, rfl, by decide +kernel, fun _ => rfl⟩
theorem kw_1301 : Cond.methodLink RX1 103 yX4_size ∈ gWs := List.mem_filter.mpr ⟨gMt5 _ (List.mem_of_getElem? (i := 104) rfl), rfl⟩
theorem cl_X1_103 : gCV RX1 103 yX4_size cX4_size 1 (some .int) 0 := ⟨g_mk [.methodLink RX1 103 yX4_size, .instanceMethod yX4_size, .selects yX4_size.cls yX4_size yX4_size, .initialized yX4_size.cls] (gWs_all kw_428) (List.forall_mem_cons.mpr ⟨kw_1301, List.forall_mem_cons.mpr ⟨kw_426, List.forall_mem_cons.mpr ⟨kw_427, List.forall_mem_cons.mpr ⟨kw_239, fun _ h => nomatch h⟩⟩⟩⟩), rfl, by decide +kernel, by decide +kernel, by decide +kernel⟩
theorem kw_1312 : Cond.methodLink RX1 217 yX4_add ∈ gWs := List.mem_filter.mpr ⟨gMt5 _ (List.mem_of_getElem? (i := 115) rfl), rfl⟩
theorem cl_X1_217 : gCV RX1 217 yX4_add cX4_add 2 none 1 := ⟨g_mk [.methodLink RX1 217 yX4_add, .instanceMethod yX4_add, .selects yX4_add.cls yX4_add yX4_add, .initialized yX4_add.cls] (gWs_all kw_444) (List.forall_mem_cons.mpr ⟨kw_1312, List.forall_mem_cons.mpr ⟨kw_442, List.forall_mem_cons.mpr ⟨kw_443, List.forall_mem_cons.mpr ⟨kw_239, fun _ h => nomatch h⟩⟩⟩⟩), rfl, by decide +kernel, by decide +kernel, by decide +kernel⟩
theorem kw_644 : Cond.fieldLink RX1 69 "WordTongue$Coder" "program" "LWordTongue$Program;" ∈ gWs := List.mem_filter.mpr ⟨gMt2 _ (List.mem_of_getElem? (i := 167) rfl), rfl⟩
theorem fl_X1_69 : gFL RX1 69 1 1 (.object "WordTongue$Program") true := ⟨RX1, TX1, 19, tyX1, rfl, by decide, inW_RX1, kw_644, tyX1_ok, nmX1, rfl, by decide +kernel, fun _ => rfl⟩
theorem kw_1318 : Cond.methodLink RX1 220 yX7_here ∈ gWs := List.mem_filter.mpr ⟨gMt5 _ (List.mem_of_getElem? (i := 121) rfl), rfl⟩
theorem cl_X1_220 : gCV RX1 220 yX7_here cX7_here 1 (some .int) 0 := ⟨g_mk [.methodLink RX1 220 yX7_here, .instanceMethod yX7_here, .selects yX7_here.cls yX7_here yX7_here, .initialized yX7_here.cls] (gWs_all kw_1321) (List.forall_mem_cons.mpr ⟨kw_1318, List.forall_mem_cons.mpr ⟨kw_1319, List.forall_mem_cons.mpr ⟨kw_1320, List.forall_mem_cons.mpr ⟨kw_240, fun _ h => nomatch h⟩⟩⟩⟩), rfl, by decide +kernel, by decide +kernel, by decide +kernel⟩
theorem kw_1396 : Cond.methodLink RX1 107 yX4_get ∈ gWs := List.mem_filter.mpr ⟨gMt5 _ (List.mem_of_getElem? (i := 199) rfl), rfl⟩
theorem cl_X1_107 : gCV RX1 107 yX4_get cX4_get 2 (some .int) 1 := ⟨g_mk [.methodLink RX1 107 yX4_get, .instanceMethod yX4_get, .selects yX4_get.cls yX4_get yX4_get, .initialized yX4_get.cls] (gWs_all kw_436) (List.forall_mem_cons.mpr ⟨kw_1396, List.forall_mem_cons.mpr ⟨kw_434, List.forall_mem_cons.mpr ⟨kw_435, List.forall_mem_cons.mpr ⟨kw_239, fun _ h => nomatch h⟩⟩⟩⟩), rfl, by decide +kernel, by decide +kernel, by decide +kernel⟩
theorem kw_1304 : Cond.methodLink RX1 135 yX10_place ∈ gWs := List.mem_filter.mpr ⟨gMt5 _ (List.mem_of_getElem? (i := 107) rfl), rfl⟩
theorem cl_X1_135 : gCV RX1 135 yX10_place cX10_place 2 (some .int) 1 := ⟨g_mk [.methodLink RX1 135 yX10_place, .instanceMethod yX10_place, .selects yX10_place.cls yX10_place yX10_place, .initialized yX10_place.cls] (gWs_all kw_1200) (List.forall_mem_cons.mpr ⟨kw_1304, List.forall_mem_cons.mpr ⟨kw_1198, List.forall_mem_cons.mpr ⟨kw_1199, List.forall_mem_cons.mpr ⟨kw_241, fun _ h => nomatch h⟩⟩⟩⟩), rfl, by decide +kernel, by decide +kernel, by decide +kernel⟩
theorem kw_1327 : Cond.methodLink RX1 177 yX7_blame ∈ gWs := List.mem_filter.mpr ⟨gMt5 _ (List.mem_of_getElem? (i := 130) rfl), rfl⟩
theorem cl_X1_177 : gCV RX1 177 yX7_blame cX7_blame 4 none 2 := ⟨g_mk [.methodLink RX1 177 yX7_blame, .instanceMethod yX7_blame, .selects yX7_blame.cls yX7_blame yX7_blame, .initialized yX7_blame.cls] (gWs_all kw_1008) (List.forall_mem_cons.mpr ⟨kw_1327, List.forall_mem_cons.mpr ⟨kw_1006, List.forall_mem_cons.mpr ⟨kw_1007, List.forall_mem_cons.mpr ⟨kw_240, fun _ h => nomatch h⟩⟩⟩⟩), rfl, by decide +kernel, by decide +kernel, by decide +kernel⟩
theorem kw_655 : Cond.fieldLink RX1 43 "WordTongue$Coder" "fallback" "I" ∈ gWs := List.mem_filter.mpr ⟨gMt2 _ (List.mem_of_getElem? (i := 178) rfl), rfl⟩
theorem fl_X1_43 : gFL RX1 43 1 12 .int false := ⟨RX1, TX1, 19, tyX1, rfl, by decide, inW_RX1, kw_655, tyX1_ok, nmX1, rfl, by decide +kernel, fun h => by cases h⟩
theorem kw_1314 : Cond.methodLink RX1 132 yX10_extra ∈ gWs := List.mem_filter.mpr ⟨gMt5 _ (List.mem_of_getElem? (i := 117) rfl), rfl⟩
theorem cl_X1_132 : gCV RX1 132 yX10_extra cX10_extra 2 (some .int) 1 := ⟨g_mk [.methodLink RX1 132 yX10_extra, .instanceMethod yX10_extra, .selects yX10_extra.cls yX10_extra yX10_extra, .initialized yX10_extra.cls] (gWs_all kw_1317) (List.forall_mem_cons.mpr ⟨kw_1314, List.forall_mem_cons.mpr ⟨kw_1315, List.forall_mem_cons.mpr ⟨kw_1316, List.forall_mem_cons.mpr ⟨kw_241, fun _ h => nomatch h⟩⟩⟩⟩), rfl, by decide +kernel, by decide +kernel, by decide +kernel⟩
theorem kw_1408 : Cond.code yX7_home cX7_home 2 (some .int) ∈ gWs := List.mem_filter.mpr ⟨gMt5 _ (List.mem_of_getElem? (i := 211) rfl), rfl⟩
theorem kw_1405 : Cond.methodLink RX1 162 yX7_home ∈ gWs := List.mem_filter.mpr ⟨gMt5 _ (List.mem_of_getElem? (i := 208) rfl), rfl⟩
theorem kw_1406 : Cond.instanceMethod yX7_home ∈ gWs := List.mem_filter.mpr ⟨gMt5 _ (List.mem_of_getElem? (i := 209) rfl), rfl⟩
theorem kw_1407 : Cond.selects RX7 yX7_home yX7_home ∈ gWs := List.mem_filter.mpr ⟨gMt5 _ (List.mem_of_getElem? (i := 210) rfl), rfl⟩
theorem cl_X1_162 : gCV RX1 162 yX7_home cX7_home 2 (some .int) 1 := ⟨g_mk [.methodLink RX1 162 yX7_home, .instanceMethod yX7_home, .selects yX7_home.cls yX7_home yX7_home, .initialized yX7_home.cls] (gWs_all kw_1408) (List.forall_mem_cons.mpr ⟨kw_1405, List.forall_mem_cons.mpr ⟨kw_1406, List.forall_mem_cons.mpr ⟨kw_1407, List.forall_mem_cons.mpr ⟨kw_240, fun _ h => nomatch h⟩⟩⟩⟩), rfl, by decide +kernel, by decide +kernel, by decide +kernel⟩
theorem kw_645 : Cond.fieldLink RX1 78 "WordTongue$Coder" "scope" "LWordTongue$Scope;" ∈ gWs := List.mem_filter.mpr ⟨gMt2 _ (List.mem_of_getElem? (i := 168) rfl), rfl⟩
theorem fl_X1_78 : gFL RX1 78 1 2 (.object "WordTongue$Scope") true := ⟨RX1, TX1, 19, tyX1, rfl, by decide, inW_RX1, kw_645, tyX1_ok, nmX1, rfl, by decide +kernel, fun _ => rfl⟩
theorem kw_1303 : Cond.methodLink RX1 129 yX10_data ∈ gWs := List.mem_filter.mpr ⟨gMt5 _ (List.mem_of_getElem? (i := 106) rfl), rfl⟩
theorem cl_X1_129 : gCV RX1 129 yX10_data cX10_data 2 (some .int) 1 := ⟨g_mk [.methodLink RX1 129 yX10_data, .instanceMethod yX10_data, .selects yX10_data.cls yX10_data yX10_data, .initialized yX10_data.cls] (gWs_all kw_1090) (List.forall_mem_cons.mpr ⟨kw_1303, List.forall_mem_cons.mpr ⟨kw_1088, List.forall_mem_cons.mpr ⟨kw_1089, List.forall_mem_cons.mpr ⟨kw_241, fun _ h => nomatch h⟩⟩⟩⟩), rfl, by decide +kernel, by decide +kernel, by decide +kernel⟩
theorem kw_1410 : Cond.methodLink RX1 165 yX9_find ∈ gWs := List.mem_filter.mpr ⟨gMt5 _ (List.mem_of_getElem? (i := 213) rfl), rfl⟩
theorem cl_X1_165 : gCV RX1 165 yX9_find cX9_find 3 (some .int) 1 := ⟨g_mk [.methodLink RX1 165 yX9_find, .instanceMethod yX9_find, .selects yX9_find.cls yX9_find yX9_find, .initialized yX9_find.cls] (gWs_all kw_1374) (List.forall_mem_cons.mpr ⟨kw_1410, List.forall_mem_cons.mpr ⟨kw_1372, List.forall_mem_cons.mpr ⟨kw_1373, List.forall_mem_cons.mpr ⟨kw_252, fun _ h => nomatch h⟩⟩⟩⟩), rfl, by decide +kernel, by decide +kernel, by decide +kernel⟩
theorem kw_1411 : Cond.methodLink RX1 168 yX9_owner ∈ gWs := List.mem_filter.mpr ⟨gMt5 _ (List.mem_of_getElem? (i := 214) rfl), rfl⟩
theorem cl_X1_168 : gCV RX1 168 yX9_owner cX9_owner 2 (some .int) 1 := ⟨g_mk [.methodLink RX1 168 yX9_owner, .instanceMethod yX9_owner, .selects yX9_owner.cls yX9_owner yX9_owner, .initialized yX9_owner.cls] (gWs_all kw_1382) (List.forall_mem_cons.mpr ⟨kw_1411, List.forall_mem_cons.mpr ⟨kw_1380, List.forall_mem_cons.mpr ⟨kw_1381, List.forall_mem_cons.mpr ⟨kw_252, fun _ h => nomatch h⟩⟩⟩⟩), rfl, by decide +kernel, by decide +kernel, by decide +kernel⟩
theorem kw_1420 : Cond.code yX9_setOwner cX9_setOwner 3 none ∈ gWs := List.mem_filter.mpr ⟨gMt5 _ (List.mem_of_getElem? (i := 223) rfl), rfl⟩
theorem kw_1417 : Cond.methodLink RX1 154 yX9_setOwner ∈ gWs := List.mem_filter.mpr ⟨gMt5 _ (List.mem_of_getElem? (i := 220) rfl), rfl⟩
theorem kw_1418 : Cond.instanceMethod yX9_setOwner ∈ gWs := List.mem_filter.mpr ⟨gMt5 _ (List.mem_of_getElem? (i := 221) rfl), rfl⟩
theorem kw_1419 : Cond.selects RX9 yX9_setOwner yX9_setOwner ∈ gWs := List.mem_filter.mpr ⟨gMt5 _ (List.mem_of_getElem? (i := 222) rfl), rfl⟩
theorem cl_X1_154 : gCV RX1 154 yX9_setOwner cX9_setOwner 3 none 2 := ⟨g_mk [.methodLink RX1 154 yX9_setOwner, .instanceMethod yX9_setOwner, .selects yX9_setOwner.cls yX9_setOwner yX9_setOwner, .initialized yX9_setOwner.cls] (gWs_all kw_1420) (List.forall_mem_cons.mpr ⟨kw_1417, List.forall_mem_cons.mpr ⟨kw_1418, List.forall_mem_cons.mpr ⟨kw_1419, List.forall_mem_cons.mpr ⟨kw_252, fun _ h => nomatch h⟩⟩⟩⟩), rfl, by decide +kernel, by decide +kernel, by decide +kernel⟩
theorem kw_1422 : Cond.methodLink RX1 180 yX9_data ∈ gWs := List.mem_filter.mpr ⟨gMt5 _ (List.mem_of_getElem? (i := 225) rfl), rfl⟩
theorem cl_X1_180 : gCV RX1 180 yX9_data cX9_data 2 (some .int) 1 := ⟨g_mk [.methodLink RX1 180 yX9_data, .instanceMethod yX9_data, .selects yX9_data.cls yX9_data yX9_data, .initialized yX9_data.cls] (gWs_all kw_1386) (List.forall_mem_cons.mpr ⟨kw_1422, List.forall_mem_cons.mpr ⟨kw_1384, List.forall_mem_cons.mpr ⟨kw_1385, List.forall_mem_cons.mpr ⟨kw_252, fun _ h => nomatch h⟩⟩⟩⟩), rfl, by decide +kernel, by decide +kernel, by decide +kernel⟩
theorem kw_576 : Cond.constant RX1 11 1000000 ∈ gWs := List.mem_filter.mpr ⟨gMt2 _ (List.mem_of_getElem? (i := 99) rfl), rfl⟩
theorem kw_1426 : Cond.code yX7_setWord cX7_setWord 3 none ∈ gWs := List.mem_filter.mpr ⟨gMt5 _ (List.mem_of_getElem? (i := 229) rfl), rfl⟩
theorem kw_1423 : Cond.methodLink RX1 148 yX7_setWord ∈ gWs := List.mem_filter.mpr ⟨gMt5 _ (List.mem_of_getElem? (i := 226) rfl), rfl⟩
theorem kw_1424 : Cond.instanceMethod yX7_setWord ∈ gWs := List.mem_filter.mpr ⟨gMt5 _ (List.mem_of_getElem? (i := 227) rfl), rfl⟩
theorem kw_1425 : Cond.selects RX7 yX7_setWord yX7_setWord ∈ gWs := List.mem_filter.mpr ⟨gMt5 _ (List.mem_of_getElem? (i := 228) rfl), rfl⟩
theorem cl_X1_148 : gCV RX1 148 yX7_setWord cX7_setWord 3 none 2 := ⟨g_mk [.methodLink RX1 148 yX7_setWord, .instanceMethod yX7_setWord, .selects yX7_setWord.cls yX7_setWord yX7_setWord, .initialized yX7_setWord.cls] (gWs_all kw_1426) (List.forall_mem_cons.mpr ⟨kw_1423, List.forall_mem_cons.mpr ⟨kw_1424, List.forall_mem_cons.mpr ⟨kw_1425, List.forall_mem_cons.mpr ⟨kw_240, fun _ h => nomatch h⟩⟩⟩⟩), rfl, by decide +kernel, by decide +kernel, by decide +kernel⟩
theorem kw_1415 : Cond.code yX9_place cX9_place 2 (some .int) ∈ gWs := List.mem_filter.mpr ⟨gMt5 _ (List.mem_of_getElem? (i := 218) rfl), rfl⟩
theorem kw_1412 : Cond.methodLink RX1 171 yX9_place ∈ gWs := List.mem_filter.mpr ⟨gMt5 _ (List.mem_of_getElem? (i := 215) rfl), rfl⟩
theorem kw_1413 : Cond.instanceMethod yX9_place ∈ gWs := List.mem_filter.mpr ⟨gMt5 _ (List.mem_of_getElem? (i := 216) rfl), rfl⟩
theorem kw_1414 : Cond.selects RX9 yX9_place yX9_place ∈ gWs := List.mem_filter.mpr ⟨gMt5 _ (List.mem_of_getElem? (i := 217) rfl), rfl⟩
theorem cl_X1_171 : gCV RX1 171 yX9_place cX9_place 2 (some .int) 1 := ⟨g_mk [.methodLink RX1 171 yX9_place, .instanceMethod yX9_place, .selects yX9_place.cls yX9_place yX9_place, .initialized yX9_place.cls] (gWs_all kw_1415) (List.forall_mem_cons.mpr ⟨kw_1412, List.forall_mem_cons.mpr ⟨kw_1413, List.forall_mem_cons.mpr ⟨kw_1414, List.forall_mem_cons.mpr ⟨kw_252, fun _ h => nomatch h⟩⟩⟩⟩), rfl, by decide +kernel, by decide +kernel, by decide +kernel⟩
theorem kw_1416 : Cond.methodLink RX1 172 Lib.Math.max.name ∈ gWs := List.mem_filter.mpr ⟨gMt5 _ (List.mem_of_getElem? (i := 219) rfl), rfl⟩
theorem kw_1308 : Cond.code yX9_declare cX9_declare 8 (some .int) ∈ gWs := List.mem_filter.mpr ⟨gMt5 _ (List.mem_of_getElem? (i := 111) rfl), rfl⟩
theorem kw_1305 : Cond.methodLink RX1 138 yX9_declare ∈ gWs := List.mem_filter.mpr ⟨gMt5 _ (List.mem_of_getElem? (i := 108) rfl), rfl⟩
theorem kw_1306 : Cond.instanceMethod yX9_declare ∈ gWs := List.mem_filter.mpr ⟨gMt5 _ (List.mem_of_getElem? (i := 109) rfl), rfl⟩
theorem kw_1307 : Cond.selects RX9 yX9_declare yX9_declare ∈ gWs := List.mem_filter.mpr ⟨gMt5 _ (List.mem_of_getElem? (i := 110) rfl), rfl⟩
theorem cl_X1_138 : gCV RX1 138 yX9_declare cX9_declare 8 (some .int) 5 := ⟨g_mk [.methodLink RX1 138 yX9_declare, .instanceMethod yX9_declare, .selects yX9_declare.cls yX9_declare yX9_declare, .initialized yX9_declare.cls] (gWs_all kw_1308) (List.forall_mem_cons.mpr ⟨kw_1305, List.forall_mem_cons.mpr ⟨kw_1306, List.forall_mem_cons.mpr ⟨kw_1307, List.forall_mem_cons.mpr ⟨kw_252, fun _ h => nomatch h⟩⟩⟩⟩), rfl, by decide +kernel, by decide +kernel, by decide +kernel⟩
theorem kw_1436 : Cond.methodLink RX1 117 yX7_emit ∈ gWs := List.mem_filter.mpr ⟨gMt5 _ (List.mem_of_getElem? (i := 239) rfl), rfl⟩
theorem cl_X1_117 : gCV RX1 117 yX7_emit cX7_emit 3 (some .int) 2 := ⟨g_mk [.methodLink RX1 117 yX7_emit, .instanceMethod yX7_emit, .selects yX7_emit.cls yX7_emit yX7_emit, .initialized yX7_emit.cls] (gWs_all kw_858) (List.forall_mem_cons.mpr ⟨kw_1436, List.forall_mem_cons.mpr ⟨kw_856, List.forall_mem_cons.mpr ⟨kw_857, List.forall_mem_cons.mpr ⟨kw_240, fun _ h => nomatch h⟩⟩⟩⟩), rfl, by decide +kernel, by decide +kernel, by decide +kernel⟩
theorem kw_656 : Cond.fieldLink RX1 46 "WordTongue$Coder" "used" "I" ∈ gWs := List.mem_filter.mpr ⟨gMt2 _ (List.mem_of_getElem? (i := 179) rfl), rfl⟩
theorem fl_X1_46 : gFL RX1 46 1 13 .int false := ⟨RX1, TX1, 19, tyX1, rfl, by decide, inW_RX1, kw_656, tyX1_ok, nmX1, rfl, by decide +kernel, fun h => by cases h⟩
theorem kw_657 : Cond.fieldLink RX1 49 "WordTongue$Coder" "most" "I" ∈ gWs := List.mem_filter.mpr ⟨gMt2 _ (List.mem_of_getElem? (i := 180) rfl), rfl⟩
theorem fl_X1_49 : gFL RX1 49 1 14 .int false := ⟨RX1, TX1, 19, tyX1, rfl, by decide, inW_RX1, kw_657, tyX1_ok, nmX1, rfl, by decide +kernel, fun h => by cases h⟩
theorem kw_658 : Cond.fieldLink RX1 52 "WordTongue$Coder" "routine" "I" ∈ gWs := List.mem_filter.mpr ⟨gMt2 _ (List.mem_of_getElem? (i := 181) rfl), rfl⟩
theorem fl_X1_52 : gFL RX1 52 1 15 .int false := ⟨RX1, TX1, 19, tyX1, rfl, by decide, inW_RX1, kw_658, tyX1_ok, nmX1, rfl, by decide +kernel, fun h => by cases h⟩
theorem kw_1444 : Cond.code yX7_setBegin cX7_setBegin 3 none ∈ gWs := List.mem_filter.mpr ⟨gMt6 _ (List.mem_of_getElem? (i := 7) rfl), rfl⟩
theorem kw_1441 : Cond.methodLink RX1 204 yX7_setBegin ∈ gWs := List.mem_filter.mpr ⟨gMt6 _ (List.mem_of_getElem? (i := 4) rfl), rfl⟩
theorem kw_1442 : Cond.instanceMethod yX7_setBegin ∈ gWs := List.mem_filter.mpr ⟨gMt6 _ (List.mem_of_getElem? (i := 5) rfl), rfl⟩
theorem kw_1443 : Cond.selects RX7 yX7_setBegin yX7_setBegin ∈ gWs := List.mem_filter.mpr ⟨gMt6 _ (List.mem_of_getElem? (i := 6) rfl), rfl⟩
theorem cl_X1_204 : gCV RX1 204 yX7_setBegin cX7_setBegin 3 none 2 := ⟨g_mk [.methodLink RX1 204 yX7_setBegin, .instanceMethod yX7_setBegin, .selects yX7_setBegin.cls yX7_setBegin yX7_setBegin, .initialized yX7_setBegin.cls] (gWs_all kw_1444) (List.forall_mem_cons.mpr ⟨kw_1441, List.forall_mem_cons.mpr ⟨kw_1442, List.forall_mem_cons.mpr ⟨kw_1443, List.forall_mem_cons.mpr ⟨kw_240, fun _ h => nomatch h⟩⟩⟩⟩), rfl, by decide +kernel, by decide +kernel, by decide +kernel⟩
theorem kw_1313 : Cond.methodLink RX1 142 yX10_next ∈ gWs := List.mem_filter.mpr ⟨gMt5 _ (List.mem_of_getElem? (i := 116) rfl), rfl⟩
theorem cl_X1_142 : gCV RX1 142 yX10_next cX10_next 2 (some .int) 1 := ⟨g_mk [.methodLink RX1 142 yX10_next, .instanceMethod yX10_next, .selects yX10_next.cls yX10_next yX10_next, .initialized yX10_next.cls] (gWs_all kw_1185) (List.forall_mem_cons.mpr ⟨kw_1313, List.forall_mem_cons.mpr ⟨kw_1183, List.forall_mem_cons.mpr ⟨kw_1184, List.forall_mem_cons.mpr ⟨kw_241, fun _ h => nomatch h⟩⟩⟩⟩), rfl, by decide +kernel, by decide +kernel, by decide +kernel⟩
theorem kw_1489 : Cond.code yX10_last cX10_last 2 (some .int) ∈ gWs := List.mem_filter.mpr ⟨gMt6 _ (List.mem_of_getElem? (i := 52) rfl), rfl⟩
theorem kw_1486 : Cond.methodLink RX1 270 yX10_last ∈ gWs := List.mem_filter.mpr ⟨gMt6 _ (List.mem_of_getElem? (i := 49) rfl), rfl⟩
theorem kw_1487 : Cond.instanceMethod yX10_last ∈ gWs := List.mem_filter.mpr ⟨gMt6 _ (List.mem_of_getElem? (i := 50) rfl), rfl⟩
theorem kw_1488 : Cond.selects RX10 yX10_last yX10_last ∈ gWs := List.mem_filter.mpr ⟨gMt6 _ (List.mem_of_getElem? (i := 51) rfl), rfl⟩
theorem cl_X1_270 : gCV RX1 270 yX10_last cX10_last 2 (some .int) 1 := ⟨g_mk [.methodLink RX1 270 yX10_last, .instanceMethod yX10_last, .selects yX10_last.cls yX10_last yX10_last, .initialized yX10_last.cls] (gWs_all kw_1489) (List.forall_mem_cons.mpr ⟨kw_1486, List.forall_mem_cons.mpr ⟨kw_1487, List.forall_mem_cons.mpr ⟨kw_1488, List.forall_mem_cons.mpr ⟨kw_241, fun _ h => nomatch h⟩⟩⟩⟩), rfl, by decide +kernel, by decide +kernel, by decide +kernel⟩
theorem kw_1510 : Cond.constant RX1 207 33554432 ∈ gWs := List.mem_filter.mpr ⟨gMt6 _ (List.mem_of_getElem? (i := 73) rfl), rfl⟩
theorem kw_1511 : Cond.methodLink RX1 208 Lib.Math.min.name ∈ gWs := List.mem_filter.mpr ⟨gMt6 _ (List.mem_of_getElem? (i := 74) rfl), rfl⟩
theorem kw_1533 : Cond.methodLink RX1 279 yX9_kind ∈ gWs := List.mem_filter.mpr ⟨gMt6 _ (List.mem_of_getElem? (i := 96) rfl), rfl⟩
theorem cl_X1_279 : gCV RX1 279 yX9_kind cX9_kind 2 (some .int) 1 := ⟨g_mk [.methodLink RX1 279 yX9_kind, .instanceMethod yX9_kind, .selects yX9_kind.cls yX9_kind yX9_kind, .initialized yX9_kind.cls] (gWs_all kw_1378) (List.forall_mem_cons.mpr ⟨kw_1533, List.forall_mem_cons.mpr ⟨kw_1376, List.forall_mem_cons.mpr ⟨kw_1377, List.forall_mem_cons.mpr ⟨kw_252, fun _ h => nomatch h⟩⟩⟩⟩), rfl, by decide +kernel, by decide +kernel, by decide +kernel⟩
theorem kw_659 : Cond.fieldLink RX1 55 "WordTongue$Coder" "area" "I" ∈ gWs := List.mem_filter.mpr ⟨gMt2 _ (List.mem_of_getElem? (i := 182) rfl), rfl⟩
theorem fl_X1_55 : gFL RX1 55 1 16 .int false := ⟨RX1, TX1, 19, tyX1, rfl, by decide, inW_RX1, kw_659, tyX1_ok, nmX1, rfl, by decide +kernel, fun h => by cases h⟩
theorem kw_648 : Cond.fieldLink RX1 21 "WordTongue$Coder" "gotos" "LWordTongue$Ints;" ∈ gWs := List.mem_filter.mpr ⟨gMt2 _ (List.mem_of_getElem? (i := 171) rfl), rfl⟩
theorem fl_X1_21 : gFL RX1 21 1 5 (.object "WordTongue$Ints") true := ⟨RX1, TX1, 19, tyX1, rfl, by decide, inW_RX1, kw_648, tyX1_ok, nmX1, rfl, by decide +kernel, fun _ => rfl⟩
theorem kw_251 : Cond.initialized RX1 ∈ gWs := List.mem_filter.mpr ⟨gMt1 _ (List.mem_of_getElem? (i := 14) rfl), rfl⟩
theorem kw_1435 : Cond.code yX1_emit cX1_emit 3 (some .int) ∈ gWs := List.mem_filter.mpr ⟨gMt5 _ (List.mem_of_getElem? (i := 238) rfl), rfl⟩
theorem kw_1432 : Cond.methodLink RX1 181 yX1_emit ∈ gWs := List.mem_filter.mpr ⟨gMt5 _ (List.mem_of_getElem? (i := 235) rfl), rfl⟩
theorem kw_1434 : Cond.instanceMethod yX1_emit ∈ gWs := List.mem_filter.mpr ⟨gMt5 _ (List.mem_of_getElem? (i := 237) rfl), rfl⟩
theorem kw_69 : Cond.selects RX1 yX1_emit yX1_emit ∈ gWs := gWm 69 (by decide +kernel) rfl
theorem cl_X1_181 : gCV RX1 181 yX1_emit cX1_emit 3 (some .int) 2 := ⟨g_mk [.methodLink RX1 181 yX1_emit, .instanceMethod yX1_emit, .selects yX1_emit.cls yX1_emit yX1_emit, .initialized yX1_emit.cls] (gWs_all kw_1435) (List.forall_mem_cons.mpr ⟨kw_1432, List.forall_mem_cons.mpr ⟨kw_1434, List.forall_mem_cons.mpr ⟨kw_69, List.forall_mem_cons.mpr ⟨kw_251, fun _ h => nomatch h⟩⟩⟩⟩), rfl, by decide +kernel, by decide +kernel, by decide +kernel⟩
theorem kw_1532 : Cond.code yX1_going cX1_going 3 none ∈ gWs := List.mem_filter.mpr ⟨gMt6 _ (List.mem_of_getElem? (i := 95) rfl), rfl⟩
theorem kw_1529 : Cond.methodLink RX1 276 yX1_going ∈ gWs := List.mem_filter.mpr ⟨gMt6 _ (List.mem_of_getElem? (i := 92) rfl), rfl⟩
theorem kw_1531 : Cond.instanceMethod yX1_going ∈ gWs := List.mem_filter.mpr ⟨gMt6 _ (List.mem_of_getElem? (i := 94) rfl), rfl⟩
theorem kw_87 : Cond.selects RX1 yX1_going yX1_going ∈ gWs := gWm 87 (by decide +kernel) rfl
theorem cl_X1_276 : gCV RX1 276 yX1_going cX1_going 3 none 1 := ⟨g_mk [.methodLink RX1 276 yX1_going, .instanceMethod yX1_going, .selects yX1_going.cls yX1_going yX1_going, .initialized yX1_going.cls] (gWs_all kw_1532) (List.forall_mem_cons.mpr ⟨kw_1529, List.forall_mem_cons.mpr ⟨kw_1531, List.forall_mem_cons.mpr ⟨kw_87, List.forall_mem_cons.mpr ⟨kw_251, fun _ h => nomatch h⟩⟩⟩⟩), rfl, by decide +kernel, by decide +kernel, by decide +kernel⟩
theorem kw_661 : Cond.fieldLink RX1 61 "WordTongue$Coder" "isFunction" "Z" ∈ gWs := List.mem_filter.mpr ⟨gMt2 _ (List.mem_of_getElem? (i := 184) rfl), rfl⟩
theorem fl_X1_61 : gFL RX1 61 1 18 .boolean false := ⟨RX1, TX1, 19, tyX1, rfl, by decide, inW_RX1, kw_661, tyX1_ok, nmX1, rfl, by decide +kernel, fun h => by cases h⟩
theorem cl_X1_304 : gCSN RX1 304 10 yX11_isRelation cX11_isRelation 1 (some .boolean) 1 := ⟨_, rfl, gWs_all kw_1235, kw_238, kw_1234, ⟨by decide +kernel, by decide +kernel, by decide +kernel⟩⟩
theorem kw_1477 : Cond.code yX7_land cX7_land 5 none ∈ gWs := List.mem_filter.mpr ⟨gMt6 _ (List.mem_of_getElem? (i := 40) rfl), rfl⟩
theorem kw_1474 : Cond.methodLink RX1 201 yX7_land ∈ gWs := List.mem_filter.mpr ⟨gMt6 _ (List.mem_of_getElem? (i := 37) rfl), rfl⟩
theorem kw_1475 : Cond.instanceMethod yX7_land ∈ gWs := List.mem_filter.mpr ⟨gMt6 _ (List.mem_of_getElem? (i := 38) rfl), rfl⟩
theorem kw_1476 : Cond.selects RX7 yX7_land yX7_land ∈ gWs := List.mem_filter.mpr ⟨gMt6 _ (List.mem_of_getElem? (i := 39) rfl), rfl⟩
theorem cl_X1_201 : gCV RX1 201 yX7_land cX7_land 5 none 1 := ⟨g_mk [.methodLink RX1 201 yX7_land, .instanceMethod yX7_land, .selects yX7_land.cls yX7_land yX7_land, .initialized yX7_land.cls] (gWs_all kw_1477) (List.forall_mem_cons.mpr ⟨kw_1474, List.forall_mem_cons.mpr ⟨kw_1475, List.forall_mem_cons.mpr ⟨kw_1476, List.forall_mem_cons.mpr ⟨kw_240, fun _ h => nomatch h⟩⟩⟩⟩), rfl, by decide +kernel, by decide +kernel, by decide +kernel⟩
theorem kw_1461 : Cond.code yX1_unfit cX1_unfit 3 none ∈ gWs := List.mem_filter.mpr ⟨gMt6 _ (List.mem_of_getElem? (i := 24) rfl), rfl⟩
theorem kw_1458 : Cond.methodLink RX1 283 yX1_unfit ∈ gWs := List.mem_filter.mpr ⟨gMt6 _ (List.mem_of_getElem? (i := 21) rfl), rfl⟩
theorem kw_1460 : Cond.instanceMethod yX1_unfit ∈ gWs := List.mem_filter.mpr ⟨gMt6 _ (List.mem_of_getElem? (i := 23) rfl), rfl⟩
theorem kw_74 : Cond.selects RX1 yX1_unfit yX1_unfit ∈ gWs := gWm 74 (by decide +kernel) rfl
theorem cl_X1_283 : gCV RX1 283 yX1_unfit cX1_unfit 3 none 2 := ⟨g_mk [.methodLink RX1 283 yX1_unfit, .instanceMethod yX1_unfit, .selects yX1_unfit.cls yX1_unfit yX1_unfit, .initialized yX1_unfit.cls] (gWs_all kw_1461) (List.forall_mem_cons.mpr ⟨kw_1458, List.forall_mem_cons.mpr ⟨kw_1460, List.forall_mem_cons.mpr ⟨kw_74, List.forall_mem_cons.mpr ⟨kw_251, fun _ h => nomatch h⟩⟩⟩⟩), rfl, by decide +kernel, by decide +kernel, by decide +kernel⟩
theorem kw_1554 : Cond.code yX1_name cX1_name 6 none ∈ gWs := List.mem_filter.mpr ⟨gMt6 _ (List.mem_of_getElem? (i := 117) rfl), rfl⟩
theorem kw_1551 : Cond.methodLink RX1 307 yX1_name ∈ gWs := List.mem_filter.mpr ⟨gMt6 _ (List.mem_of_getElem? (i := 114) rfl), rfl⟩
theorem kw_1553 : Cond.instanceMethod yX1_name ∈ gWs := List.mem_filter.mpr ⟨gMt6 _ (List.mem_of_getElem? (i := 116) rfl), rfl⟩
theorem kw_92 : Cond.selects RX1 yX1_name yX1_name ∈ gWs := gWm 92 (by decide +kernel) rfl
theorem cl_X1_307 : gCV RX1 307 yX1_name cX1_name 6 none 3 := ⟨g_mk [.methodLink RX1 307 yX1_name, .instanceMethod yX1_name, .selects yX1_name.cls yX1_name yX1_name, .initialized yX1_name.cls] (gWs_all kw_1554) (List.forall_mem_cons.mpr ⟨kw_1551, List.forall_mem_cons.mpr ⟨kw_1553, List.forall_mem_cons.mpr ⟨kw_92, List.forall_mem_cons.mpr ⟨kw_251, fun _ h => nomatch h⟩⟩⟩⟩), rfl, by decide +kernel, by decide +kernel, by decide +kernel⟩
theorem kw_1558 : Cond.code yX1_unary cX1_unary 2 none ∈ gWs := List.mem_filter.mpr ⟨gMt6 _ (List.mem_of_getElem? (i := 121) rfl), rfl⟩
theorem kw_1555 : Cond.methodLink RX1 310 yX1_unary ∈ gWs := List.mem_filter.mpr ⟨gMt6 _ (List.mem_of_getElem? (i := 118) rfl), rfl⟩
theorem kw_1557 : Cond.instanceMethod yX1_unary ∈ gWs := List.mem_filter.mpr ⟨gMt6 _ (List.mem_of_getElem? (i := 120) rfl), rfl⟩
theorem kw_93 : Cond.selects RX1 yX1_unary yX1_unary ∈ gWs := gWm 93 (by decide +kernel) rfl
theorem cl_X1_310 : gCV RX1 310 yX1_unary cX1_unary 2 none 1 := ⟨g_mk [.methodLink RX1 310 yX1_unary, .instanceMethod yX1_unary, .selects yX1_unary.cls yX1_unary yX1_unary, .initialized yX1_unary.cls] (gWs_all kw_1558) (List.forall_mem_cons.mpr ⟨kw_1555, List.forall_mem_cons.mpr ⟨kw_1557, List.forall_mem_cons.mpr ⟨kw_93, List.forall_mem_cons.mpr ⟨kw_251, fun _ h => nomatch h⟩⟩⟩⟩), rfl, by decide +kernel, by decide +kernel, by decide +kernel⟩
theorem kw_1574 : Cond.code yX9_setData cX9_setData 3 none ∈ gWs := List.mem_filter.mpr ⟨gMt6 _ (List.mem_of_getElem? (i := 137) rfl), rfl⟩
theorem kw_1571 : Cond.methodLink RX1 151 yX9_setData ∈ gWs := List.mem_filter.mpr ⟨gMt6 _ (List.mem_of_getElem? (i := 134) rfl), rfl⟩
theorem kw_1572 : Cond.instanceMethod yX9_setData ∈ gWs := List.mem_filter.mpr ⟨gMt6 _ (List.mem_of_getElem? (i := 135) rfl), rfl⟩
theorem kw_1573 : Cond.selects RX9 yX9_setData yX9_setData ∈ gWs := List.mem_filter.mpr ⟨gMt6 _ (List.mem_of_getElem? (i := 136) rfl), rfl⟩
theorem cl_X1_151 : gCV RX1 151 yX9_setData cX9_setData 3 none 2 := ⟨g_mk [.methodLink RX1 151 yX9_setData, .instanceMethod yX9_setData, .selects yX9_setData.cls yX9_setData yX9_setData, .initialized yX9_setData.cls] (gWs_all kw_1574) (List.forall_mem_cons.mpr ⟨kw_1571, List.forall_mem_cons.mpr ⟨kw_1572, List.forall_mem_cons.mpr ⟨kw_1573, List.forall_mem_cons.mpr ⟨kw_252, fun _ h => nomatch h⟩⟩⟩⟩), rfl, by decide +kernel, by decide +kernel, by decide +kernel⟩
theorem kw_1431 : Cond.code yX1_routine cX1_routine 13 none ∈ gWs := List.mem_filter.mpr ⟨gMt5 _ (List.mem_of_getElem? (i := 234) rfl), rfl⟩
theorem kw_1428 : Cond.methodLink RX1 160 yX1_routine ∈ gWs := List.mem_filter.mpr ⟨gMt5 _ (List.mem_of_getElem? (i := 231) rfl), rfl⟩
theorem kw_1430 : Cond.instanceMethod yX1_routine ∈ gWs := List.mem_filter.mpr ⟨gMt5 _ (List.mem_of_getElem? (i := 233) rfl), rfl⟩
theorem kw_68 : Cond.selects RX1 yX1_routine yX1_routine ∈ gWs := gWm 68 (by decide +kernel) rfl
theorem cl_X1_160 : gCV RX1 160 yX1_routine cX1_routine 13 none 1 := ⟨g_mk [.methodLink RX1 160 yX1_routine, .instanceMethod yX1_routine, .selects yX1_routine.cls yX1_routine yX1_routine, .initialized yX1_routine.cls] (gWs_all kw_1431) (List.forall_mem_cons.mpr ⟨kw_1428, List.forall_mem_cons.mpr ⟨kw_1430, List.forall_mem_cons.mpr ⟨kw_68, List.forall_mem_cons.mpr ⟨kw_251, fun _ h => nomatch h⟩⟩⟩⟩), rfl, by decide +kernel, by decide +kernel, by decide +kernel⟩
theorem kw_1404 : Cond.code yX1_routineName cX1_routineName 5 none ∈ gWs := List.mem_filter.mpr ⟨gMt5 _ (List.mem_of_getElem? (i := 207) rfl), rfl⟩
theorem kw_1401 : Cond.methodLink RX1 157 yX1_routineName ∈ gWs := List.mem_filter.mpr ⟨gMt5 _ (List.mem_of_getElem? (i := 204) rfl), rfl⟩
theorem kw_1403 : Cond.instanceMethod yX1_routineName ∈ gWs := List.mem_filter.mpr ⟨gMt5 _ (List.mem_of_getElem? (i := 206) rfl), rfl⟩
theorem kw_67 : Cond.selects RX1 yX1_routineName yX1_routineName ∈ gWs := gWm 67 (by decide +kernel) rfl
theorem cl_X1_157 : gCV RX1 157 yX1_routineName cX1_routineName 5 none 1 := ⟨g_mk [.methodLink RX1 157 yX1_routineName, .instanceMethod yX1_routineName, .selects yX1_routineName.cls yX1_routineName yX1_routineName, .initialized yX1_routineName.cls] (gWs_all kw_1404) (List.forall_mem_cons.mpr ⟨kw_1401, List.forall_mem_cons.mpr ⟨kw_1403, List.forall_mem_cons.mpr ⟨kw_67, List.forall_mem_cons.mpr ⟨kw_251, fun _ h => nomatch h⟩⟩⟩⟩), rfl, by decide +kernel, by decide +kernel, by decide +kernel⟩
theorem kw_1290 : Cond.code yX1_leaveAll cX1_leaveAll 1 none ∈ gWs := List.mem_filter.mpr ⟨gMt5 _ (List.mem_of_getElem? (i := 93) rfl), rfl⟩
theorem kw_1287 : Cond.methodLink RX1 97 yX1_leaveAll ∈ gWs := List.mem_filter.mpr ⟨gMt5 _ (List.mem_of_getElem? (i := 90) rfl), rfl⟩
theorem kw_1289 : Cond.instanceMethod yX1_leaveAll ∈ gWs := List.mem_filter.mpr ⟨gMt5 _ (List.mem_of_getElem? (i := 92) rfl), rfl⟩
theorem kw_57 : Cond.selects RX1 yX1_leaveAll yX1_leaveAll ∈ gWs := gWm 57 (by decide +kernel) rfl
theorem cl_X1_97 : gCV RX1 97 yX1_leaveAll cX1_leaveAll 1 none 0 := ⟨g_mk [.methodLink RX1 97 yX1_leaveAll, .instanceMethod yX1_leaveAll, .selects yX1_leaveAll.cls yX1_leaveAll yX1_leaveAll, .initialized yX1_leaveAll.cls] (gWs_all kw_1290) (List.forall_mem_cons.mpr ⟨kw_1287, List.forall_mem_cons.mpr ⟨kw_1289, List.forall_mem_cons.mpr ⟨kw_57, List.forall_mem_cons.mpr ⟨kw_251, fun _ h => nomatch h⟩⟩⟩⟩), rfl, by decide +kernel, by decide +kernel, by decide +kernel⟩
theorem kw_660 : Cond.fieldLink RX1 58 "WordTongue$Coder" "areas" "I" ∈ gWs := List.mem_filter.mpr ⟨gMt2 _ (List.mem_of_getElem? (i := 183) rfl), rfl⟩
theorem fl_X1_58 : gFL RX1 58 1 17 .int false := ⟨RX1, TX1, 19, tyX1, rfl, by decide, inW_RX1, kw_660, tyX1_ok, nmX1, rfl, by decide +kernel, fun h => by cases h⟩
theorem kw_1298 : Cond.code yX9_open cX9_open 1 none ∈ gWs := List.mem_filter.mpr ⟨gMt5 _ (List.mem_of_getElem? (i := 101) rfl), rfl⟩
theorem kw_1295 : Cond.methodLink RX1 182 yX9_open ∈ gWs := List.mem_filter.mpr ⟨gMt5 _ (List.mem_of_getElem? (i := 98) rfl), rfl⟩
theorem kw_1296 : Cond.instanceMethod yX9_open ∈ gWs := List.mem_filter.mpr ⟨gMt5 _ (List.mem_of_getElem? (i := 99) rfl), rfl⟩
theorem kw_1297 : Cond.selects RX9 yX9_open yX9_open ∈ gWs := List.mem_filter.mpr ⟨gMt5 _ (List.mem_of_getElem? (i := 100) rfl), rfl⟩
theorem cl_X1_182 : gCV RX1 182 yX9_open cX9_open 1 none 0 := ⟨g_mk [.methodLink RX1 182 yX9_open, .instanceMethod yX9_open, .selects yX9_open.cls yX9_open yX9_open, .initialized yX9_open.cls] (gWs_all kw_1298) (List.forall_mem_cons.mpr ⟨kw_1295, List.forall_mem_cons.mpr ⟨kw_1296, List.forall_mem_cons.mpr ⟨kw_1297, List.forall_mem_cons.mpr ⟨kw_252, fun _ h => nomatch h⟩⟩⟩⟩), rfl, by decide +kernel, by decide +kernel, by decide +kernel⟩
theorem kw_1440 : Cond.code yX1_parameters cX1_parameters 4 (some .int) ∈ gWs := List.mem_filter.mpr ⟨gMt6 _ (List.mem_of_getElem? (i := 3) rfl), rfl⟩
theorem kw_1437 : Cond.methodLink RX1 185 yX1_parameters ∈ gWs := List.mem_filter.mpr ⟨gMt6 _ (List.mem_of_getElem? (i := 0) rfl), rfl⟩
theorem kw_1439 : Cond.instanceMethod yX1_parameters ∈ gWs := List.mem_filter.mpr ⟨gMt6 _ (List.mem_of_getElem? (i := 2) rfl), rfl⟩
theorem kw_70 : Cond.selects RX1 yX1_parameters yX1_parameters ∈ gWs := gWm 70 (by decide +kernel) rfl
theorem cl_X1_185 : gCV RX1 185 yX1_parameters cX1_parameters 4 (some .int) 1 := ⟨g_mk [.methodLink RX1 185 yX1_parameters, .instanceMethod yX1_parameters, .selects yX1_parameters.cls yX1_parameters yX1_parameters, .initialized yX1_parameters.cls] (gWs_all kw_1440) (List.forall_mem_cons.mpr ⟨kw_1437, List.forall_mem_cons.mpr ⟨kw_1439, List.forall_mem_cons.mpr ⟨kw_70, List.forall_mem_cons.mpr ⟨kw_251, fun _ h => nomatch h⟩⟩⟩⟩), rfl, by decide +kernel, by decide +kernel, by decide +kernel⟩
theorem kw_1469 : Cond.code yX1_command cX1_command 2 none ∈ gWs := List.mem_filter.mpr ⟨gMt6 _ (List.mem_of_getElem? (i := 32) rfl), rfl⟩
theorem kw_1466 : Cond.methodLink RX1 192 yX1_command ∈ gWs := List.mem_filter.mpr ⟨gMt6 _ (List.mem_of_getElem? (i := 29) rfl), rfl⟩
theorem kw_1468 : Cond.instanceMethod yX1_command ∈ gWs := List.mem_filter.mpr ⟨gMt6 _ (List.mem_of_getElem? (i := 31) rfl), rfl⟩
theorem kw_76 : Cond.selects RX1 yX1_command yX1_command ∈ gWs := gWm 76 (by decide +kernel) rfl
theorem cl_X1_192 : gCV RX1 192 yX1_command cX1_command 2 none 1 := ⟨g_mk [.methodLink RX1 192 yX1_command, .instanceMethod yX1_command, .selects yX1_command.cls yX1_command yX1_command, .initialized yX1_command.cls] (gWs_all kw_1469) (List.forall_mem_cons.mpr ⟨kw_1466, List.forall_mem_cons.mpr ⟨kw_1468, List.forall_mem_cons.mpr ⟨kw_76, List.forall_mem_cons.mpr ⟨kw_251, fun _ h => nomatch h⟩⟩⟩⟩), rfl, by decide +kernel, by decide +kernel, by decide +kernel⟩
theorem kw_1515 : Cond.code yX9_close cX9_close 1 none ∈ gWs := List.mem_filter.mpr ⟨gMt6 _ (List.mem_of_getElem? (i := 78) rfl), rfl⟩
theorem kw_1512 : Cond.methodLink RX1 195 yX9_close ∈ gWs := List.mem_filter.mpr ⟨gMt6 _ (List.mem_of_getElem? (i := 75) rfl), rfl⟩
theorem kw_1513 : Cond.instanceMethod yX9_close ∈ gWs := List.mem_filter.mpr ⟨gMt6 _ (List.mem_of_getElem? (i := 76) rfl), rfl⟩
theorem kw_1514 : Cond.selects RX9 yX9_close yX9_close ∈ gWs := List.mem_filter.mpr ⟨gMt6 _ (List.mem_of_getElem? (i := 77) rfl), rfl⟩
theorem cl_X1_195 : gCV RX1 195 yX9_close cX9_close 1 none 0 := ⟨g_mk [.methodLink RX1 195 yX9_close, .instanceMethod yX9_close, .selects yX9_close.cls yX9_close yX9_close, .initialized yX9_close.cls] (gWs_all kw_1515) (List.forall_mem_cons.mpr ⟨kw_1512, List.forall_mem_cons.mpr ⟨kw_1513, List.forall_mem_cons.mpr ⟨kw_1514, List.forall_mem_cons.mpr ⟨kw_252, fun _ h => nomatch h⟩⟩⟩⟩), rfl, by decide +kernel, by decide +kernel, by decide +kernel⟩
theorem kw_1562 : Cond.code yX7_setFrame cX7_setFrame 3 none ∈ gWs := List.mem_filter.mpr ⟨gMt6 _ (List.mem_of_getElem? (i := 125) rfl), rfl⟩
theorem kw_1559 : Cond.methodLink RX1 198 yX7_setFrame ∈ gWs := List.mem_filter.mpr ⟨gMt6 _ (List.mem_of_getElem? (i := 122) rfl), rfl⟩
theorem kw_1560 : Cond.instanceMethod yX7_setFrame ∈ gWs := List.mem_filter.mpr ⟨gMt6 _ (List.mem_of_getElem? (i := 123) rfl), rfl⟩
theorem kw_1561 : Cond.selects RX7 yX7_setFrame yX7_setFrame ∈ gWs := List.mem_filter.mpr ⟨gMt6 _ (List.mem_of_getElem? (i := 124) rfl), rfl⟩
theorem cl_X1_198 : gCV RX1 198 yX7_setFrame cX7_setFrame 3 none 2 := ⟨g_mk [.methodLink RX1 198 yX7_setFrame, .instanceMethod yX7_setFrame, .selects yX7_setFrame.cls yX7_setFrame yX7_setFrame, .initialized yX7_setFrame.cls] (gWs_all kw_1562) (List.forall_mem_cons.mpr ⟨kw_1559, List.forall_mem_cons.mpr ⟨kw_1560, List.forall_mem_cons.mpr ⟨kw_1561, List.forall_mem_cons.mpr ⟨kw_240, fun _ h => nomatch h⟩⟩⟩⟩), rfl, by decide +kernel, by decide +kernel, by decide +kernel⟩
theorem kw_1449 : Cond.code yX1_expression cX1_expression 11 none ∈ gWs := List.mem_filter.mpr ⟨gMt6 _ (List.mem_of_getElem? (i := 12) rfl), rfl⟩
theorem kw_1446 : Cond.methodLink RX1 188 yX1_expression ∈ gWs := List.mem_filter.mpr ⟨gMt6 _ (List.mem_of_getElem? (i := 9) rfl), rfl⟩
theorem kw_1448 : Cond.instanceMethod yX1_expression ∈ gWs := List.mem_filter.mpr ⟨gMt6 _ (List.mem_of_getElem? (i := 11) rfl), rfl⟩
theorem kw_71 : Cond.selects RX1 yX1_expression yX1_expression ∈ gWs := gWm 71 (by decide +kernel) rfl
theorem cl_X1_188 : gCV RX1 188 yX1_expression cX1_expression 11 none 3 := ⟨g_mk [.methodLink RX1 188 yX1_expression, .instanceMethod yX1_expression, .selects yX1_expression.cls yX1_expression yX1_expression, .initialized yX1_expression.cls] (gWs_all kw_1449) (List.forall_mem_cons.mpr ⟨kw_1446, List.forall_mem_cons.mpr ⟨kw_1448, List.forall_mem_cons.mpr ⟨kw_71, List.forall_mem_cons.mpr ⟨kw_251, fun _ h => nomatch h⟩⟩⟩⟩), rfl, by decide +kernel, by decide +kernel, by decide +kernel⟩
theorem kw_1509 : Cond.code yX1_take cX1_take 2 none ∈ gWs := List.mem_filter.mpr ⟨gMt6 _ (List.mem_of_getElem? (i := 72) rfl), rfl⟩
theorem kw_1506 : Cond.methodLink RX1 211 yX1_take ∈ gWs := List.mem_filter.mpr ⟨gMt6 _ (List.mem_of_getElem? (i := 69) rfl), rfl⟩
theorem kw_1508 : Cond.instanceMethod yX1_take ∈ gWs := List.mem_filter.mpr ⟨gMt6 _ (List.mem_of_getElem? (i := 71) rfl), rfl⟩
theorem kw_83 : Cond.selects RX1 yX1_take yX1_take ∈ gWs := gWm 83 (by decide +kernel) rfl
theorem cl_X1_211 : gCV RX1 211 yX1_take cX1_take 2 none 1 := ⟨g_mk [.methodLink RX1 211 yX1_take, .instanceMethod yX1_take, .selects yX1_take.cls yX1_take yX1_take, .initialized yX1_take.cls] (gWs_all kw_1509) (List.forall_mem_cons.mpr ⟨kw_1506, List.forall_mem_cons.mpr ⟨kw_1508, List.forall_mem_cons.mpr ⟨kw_83, List.forall_mem_cons.mpr ⟨kw_251, fun _ h => nomatch h⟩⟩⟩⟩), rfl, by decide +kernel, by decide +kernel, by decide +kernel⟩
theorem kw_1326 : Cond.code yX1_entrance cX1_entrance 5 none ∈ gWs := List.mem_filter.mpr ⟨gMt5 _ (List.mem_of_getElem? (i := 129) rfl), rfl⟩
theorem kw_1323 : Cond.methodLink RX1 226 yX1_entrance ∈ gWs := List.mem_filter.mpr ⟨gMt5 _ (List.mem_of_getElem? (i := 126) rfl), rfl⟩
theorem kw_1325 : Cond.instanceMethod yX1_entrance ∈ gWs := List.mem_filter.mpr ⟨gMt5 _ (List.mem_of_getElem? (i := 128) rfl), rfl⟩
theorem kw_59 : Cond.selects RX1 yX1_entrance yX1_entrance ∈ gWs := gWm 59 (by decide +kernel) rfl
theorem cl_X1_226 : gCV RX1 226 yX1_entrance cX1_entrance 5 none 1 := ⟨g_mk [.methodLink RX1 226 yX1_entrance, .instanceMethod yX1_entrance, .selects yX1_entrance.cls yX1_entrance yX1_entrance, .initialized yX1_entrance.cls] (gWs_all kw_1326) (List.forall_mem_cons.mpr ⟨kw_1323, List.forall_mem_cons.mpr ⟨kw_1325, List.forall_mem_cons.mpr ⟨kw_59, List.forall_mem_cons.mpr ⟨kw_251, fun _ h => nomatch h⟩⟩⟩⟩), rfl, by decide +kernel, by decide +kernel, by decide +kernel⟩
theorem kw_1570 : Cond.code yX1_definitions cX1_definitions 9 none ∈ gWs := List.mem_filter.mpr ⟨gMt6 _ (List.mem_of_getElem? (i := 133) rfl), rfl⟩
theorem kw_1567 : Cond.methodLink RX1 235 yX1_definitions ∈ gWs := List.mem_filter.mpr ⟨gMt6 _ (List.mem_of_getElem? (i := 130) rfl), rfl⟩
theorem kw_1569 : Cond.instanceMethod yX1_definitions ∈ gWs := List.mem_filter.mpr ⟨gMt6 _ (List.mem_of_getElem? (i := 132) rfl), rfl⟩
theorem kw_95 : Cond.selects RX1 yX1_definitions yX1_definitions ∈ gWs := gWm 95 (by decide +kernel) rfl
theorem cl_X1_235 : gCV RX1 235 yX1_definitions cX1_definitions 9 none 1 := ⟨g_mk [.methodLink RX1 235 yX1_definitions, .instanceMethod yX1_definitions, .selects yX1_definitions.cls yX1_definitions yX1_definitions, .initialized yX1_definitions.cls] (gWs_all kw_1570) (List.forall_mem_cons.mpr ⟨kw_1567, List.forall_mem_cons.mpr ⟨kw_1569, List.forall_mem_cons.mpr ⟨kw_95, List.forall_mem_cons.mpr ⟨kw_251, fun _ h => nomatch h⟩⟩⟩⟩), rfl, by decide +kernel, by decide +kernel, by decide +kernel⟩
theorem kw_1400 : Cond.code yX1_routines cX1_routines 4 none ∈ gWs := List.mem_filter.mpr ⟨gMt5 _ (List.mem_of_getElem? (i := 203) rfl), rfl⟩
theorem kw_1397 : Cond.methodLink RX1 229 yX1_routines ∈ gWs := List.mem_filter.mpr ⟨gMt5 _ (List.mem_of_getElem? (i := 200) rfl), rfl⟩
theorem kw_1399 : Cond.instanceMethod yX1_routines ∈ gWs := List.mem_filter.mpr ⟨gMt5 _ (List.mem_of_getElem? (i := 202) rfl), rfl⟩
theorem kw_66 : Cond.selects RX1 yX1_routines yX1_routines ∈ gWs := gWm 66 (by decide +kernel) rfl
theorem cl_X1_229 : gCV RX1 229 yX1_routines cX1_routines 4 none 1 := ⟨g_mk [.methodLink RX1 229 yX1_routines, .instanceMethod yX1_routines, .selects yX1_routines.cls yX1_routines yX1_routines, .initialized yX1_routines.cls] (gWs_all kw_1400) (List.forall_mem_cons.mpr ⟨kw_1397, List.forall_mem_cons.mpr ⟨kw_1399, List.forall_mem_cons.mpr ⟨kw_66, List.forall_mem_cons.mpr ⟨kw_251, fun _ h => nomatch h⟩⟩⟩⟩), rfl, by decide +kernel, by decide +kernel, by decide +kernel⟩
theorem kw_1566 : Cond.code yX1_variables cX1_variables 7 none ∈ gWs := List.mem_filter.mpr ⟨gMt6 _ (List.mem_of_getElem? (i := 129) rfl), rfl⟩
theorem kw_1563 : Cond.methodLink RX1 232 yX1_variables ∈ gWs := List.mem_filter.mpr ⟨gMt6 _ (List.mem_of_getElem? (i := 126) rfl), rfl⟩
theorem kw_1565 : Cond.instanceMethod yX1_variables ∈ gWs := List.mem_filter.mpr ⟨gMt6 _ (List.mem_of_getElem? (i := 128) rfl), rfl⟩
theorem kw_94 : Cond.selects RX1 yX1_variables yX1_variables ∈ gWs := gWm 94 (by decide +kernel) rfl
theorem cl_X1_232 : gCV RX1 232 yX1_variables cX1_variables 7 none 1 := ⟨g_mk [.methodLink RX1 232 yX1_variables, .instanceMethod yX1_variables, .selects yX1_variables.cls yX1_variables yX1_variables, .initialized yX1_variables.cls] (gWs_all kw_1566) (List.forall_mem_cons.mpr ⟨kw_1563, List.forall_mem_cons.mpr ⟨kw_1565, List.forall_mem_cons.mpr ⟨kw_94, List.forall_mem_cons.mpr ⟨kw_251, fun _ h => nomatch h⟩⟩⟩⟩), rfl, by decide +kernel, by decide +kernel, by decide +kernel⟩
theorem kw_647 : Cond.fieldLink RX1 15 "WordTongue$Coder" "labels" "LWordTongue$Ints;" ∈ gWs := List.mem_filter.mpr ⟨gMt2 _ (List.mem_of_getElem? (i := 170) rfl), rfl⟩
theorem fl_X1_15 : gFL RX1 15 1 4 (.object "WordTongue$Ints") true := ⟨RX1, TX1, 19, tyX1, rfl, by decide, inW_RX1, kw_647, tyX1_ok, nmX1, rfl, by decide +kernel, fun _ => rfl⟩
theorem kw_1322 : Cond.methodLink RX1 223 yX4_set ∈ gWs := List.mem_filter.mpr ⟨gMt5 _ (List.mem_of_getElem? (i := 125) rfl), rfl⟩
theorem cl_X1_223 : gCV RX1 223 yX4_set cX4_set 3 none 2 := ⟨g_mk [.methodLink RX1 223 yX4_set, .instanceMethod yX4_set, .selects yX4_set.cls yX4_set yX4_set, .initialized yX4_set.cls] (gWs_all kw_931) (List.forall_mem_cons.mpr ⟨kw_1322, List.forall_mem_cons.mpr ⟨kw_929, List.forall_mem_cons.mpr ⟨kw_930, List.forall_mem_cons.mpr ⟨kw_239, fun _ h => nomatch h⟩⟩⟩⟩), rfl, by decide +kernel, by decide +kernel, by decide +kernel⟩
theorem kw_1099 : Cond.code yX10_setExtra cX10_setExtra 3 none ∈ gWs := List.mem_filter.mpr ⟨gMt4 _ (List.mem_of_getElem? (i := 142) rfl), rfl⟩
theorem kw_1302 : Cond.methodLink RX1 214 yX10_setExtra ∈ gWs := List.mem_filter.mpr ⟨gMt5 _ (List.mem_of_getElem? (i := 105) rfl), rfl⟩
theorem kw_1097 : Cond.instanceMethod yX10_setExtra ∈ gWs := List.mem_filter.mpr ⟨gMt4 _ (List.mem_of_getElem? (i := 140) rfl), rfl⟩
theorem kw_1098 : Cond.selects RX10 yX10_setExtra yX10_setExtra ∈ gWs := List.mem_filter.mpr ⟨gMt4 _ (List.mem_of_getElem? (i := 141) rfl), rfl⟩
theorem cl_X1_214 : gCV RX1 214 yX10_setExtra cX10_setExtra 3 none 2 := ⟨g_mk [.methodLink RX1 214 yX10_setExtra, .instanceMethod yX10_setExtra, .selects yX10_setExtra.cls yX10_setExtra yX10_setExtra, .initialized yX10_setExtra.cls] (gWs_all kw_1099) (List.forall_mem_cons.mpr ⟨kw_1302, List.forall_mem_cons.mpr ⟨kw_1097, List.forall_mem_cons.mpr ⟨kw_1098, List.forall_mem_cons.mpr ⟨kw_241, fun _ h => nomatch h⟩⟩⟩⟩), rfl, by decide +kernel, by decide +kernel, by decide +kernel⟩
theorem kw_1294 : Cond.code yX1_section cX1_section 5 none ∈ gWs := List.mem_filter.mpr ⟨gMt5 _ (List.mem_of_getElem? (i := 97) rfl), rfl⟩
theorem kw_1291 : Cond.methodLink RX1 100 yX1_section ∈ gWs := List.mem_filter.mpr ⟨gMt5 _ (List.mem_of_getElem? (i := 94) rfl), rfl⟩
theorem kw_1293 : Cond.instanceMethod yX1_section ∈ gWs := List.mem_filter.mpr ⟨gMt5 _ (List.mem_of_getElem? (i := 96) rfl), rfl⟩
theorem kw_58 : Cond.selects RX1 yX1_section yX1_section ∈ gWs := gWm 58 (by decide +kernel) rfl
theorem cl_X1_100 : gCV RX1 100 yX1_section cX1_section 5 none 1 := ⟨g_mk [.methodLink RX1 100 yX1_section, .instanceMethod yX1_section, .selects yX1_section.cls yX1_section yX1_section, .initialized yX1_section.cls] (gWs_all kw_1294) (List.forall_mem_cons.mpr ⟨kw_1291, List.forall_mem_cons.mpr ⟨kw_1293, List.forall_mem_cons.mpr ⟨kw_58, List.forall_mem_cons.mpr ⟨kw_251, fun _ h => nomatch h⟩⟩⟩⟩), rfl, by decide +kernel, by decide +kernel, by decide +kernel⟩
theorem kw_1473 : Cond.code yX1_repeats cX1_repeats 9 none ∈ gWs := List.mem_filter.mpr ⟨gMt6 _ (List.mem_of_getElem? (i := 36) rfl), rfl⟩
theorem kw_1470 : Cond.methodLink RX1 242 yX1_repeats ∈ gWs := List.mem_filter.mpr ⟨gMt6 _ (List.mem_of_getElem? (i := 33) rfl), rfl⟩
theorem kw_1472 : Cond.instanceMethod yX1_repeats ∈ gWs := List.mem_filter.mpr ⟨gMt6 _ (List.mem_of_getElem? (i := 35) rfl), rfl⟩
theorem kw_77 : Cond.selects RX1 yX1_repeats yX1_repeats ∈ gWs := gWm 77 (by decide +kernel) rfl
theorem cl_X1_242 : gCV RX1 242 yX1_repeats cX1_repeats 9 none 1 := ⟨g_mk [.methodLink RX1 242 yX1_repeats, .instanceMethod yX1_repeats, .selects yX1_repeats.cls yX1_repeats yX1_repeats, .initialized yX1_repeats.cls] (gWs_all kw_1473) (List.forall_mem_cons.mpr ⟨kw_1470, List.forall_mem_cons.mpr ⟨kw_1472, List.forall_mem_cons.mpr ⟨kw_77, List.forall_mem_cons.mpr ⟨kw_251, fun _ h => nomatch h⟩⟩⟩⟩), rfl, by decide +kernel, by decide +kernel, by decide +kernel⟩
theorem kw_1493 : Cond.code yX1_conditional cX1_conditional 6 none ∈ gWs := List.mem_filter.mpr ⟨gMt6 _ (List.mem_of_getElem? (i := 56) rfl), rfl⟩
theorem kw_1490 : Cond.methodLink RX1 248 yX1_conditional ∈ gWs := List.mem_filter.mpr ⟨gMt6 _ (List.mem_of_getElem? (i := 53) rfl), rfl⟩
theorem kw_1492 : Cond.instanceMethod yX1_conditional ∈ gWs := List.mem_filter.mpr ⟨gMt6 _ (List.mem_of_getElem? (i := 55) rfl), rfl⟩
theorem kw_80 : Cond.selects RX1 yX1_conditional yX1_conditional ∈ gWs := gWm 80 (by decide +kernel) rfl
theorem cl_X1_248 : gCV RX1 248 yX1_conditional cX1_conditional 6 none 1 := ⟨g_mk [.methodLink RX1 248 yX1_conditional, .instanceMethod yX1_conditional, .selects yX1_conditional.cls yX1_conditional yX1_conditional, .initialized yX1_conditional.cls] (gWs_all kw_1493) (List.forall_mem_cons.mpr ⟨kw_1490, List.forall_mem_cons.mpr ⟨kw_1492, List.forall_mem_cons.mpr ⟨kw_80, List.forall_mem_cons.mpr ⟨kw_251, fun _ h => nomatch h⟩⟩⟩⟩), rfl, by decide +kernel, by decide +kernel, by decide +kernel⟩
theorem kw_1497 : Cond.code yX1_asking cX1_asking 6 none ∈ gWs := List.mem_filter.mpr ⟨gMt6 _ (List.mem_of_getElem? (i := 60) rfl), rfl⟩
theorem kw_1494 : Cond.methodLink RX1 251 yX1_asking ∈ gWs := List.mem_filter.mpr ⟨gMt6 _ (List.mem_of_getElem? (i := 57) rfl), rfl⟩
theorem kw_1496 : Cond.instanceMethod yX1_asking ∈ gWs := List.mem_filter.mpr ⟨gMt6 _ (List.mem_of_getElem? (i := 59) rfl), rfl⟩
theorem kw_81 : Cond.selects RX1 yX1_asking yX1_asking ∈ gWs := gWm 81 (by decide +kernel) rfl
theorem cl_X1_251 : gCV RX1 251 yX1_asking cX1_asking 6 none 1 := ⟨g_mk [.methodLink RX1 251 yX1_asking, .instanceMethod yX1_asking, .selects yX1_asking.cls yX1_asking yX1_asking, .initialized yX1_asking.cls] (gWs_all kw_1497) (List.forall_mem_cons.mpr ⟨kw_1494, List.forall_mem_cons.mpr ⟨kw_1496, List.forall_mem_cons.mpr ⟨kw_81, List.forall_mem_cons.mpr ⟨kw_251, fun _ h => nomatch h⟩⟩⟩⟩), rfl, by decide +kernel, by decide +kernel, by decide +kernel⟩
theorem kw_1505 : Cond.code yX1_counting cX1_counting 9 none ∈ gWs := List.mem_filter.mpr ⟨gMt6 _ (List.mem_of_getElem? (i := 68) rfl), rfl⟩
theorem kw_1502 : Cond.methodLink RX1 254 yX1_counting ∈ gWs := List.mem_filter.mpr ⟨gMt6 _ (List.mem_of_getElem? (i := 65) rfl), rfl⟩
theorem kw_1504 : Cond.instanceMethod yX1_counting ∈ gWs := List.mem_filter.mpr ⟨gMt6 _ (List.mem_of_getElem? (i := 67) rfl), rfl⟩
theorem kw_82 : Cond.selects RX1 yX1_counting yX1_counting ∈ gWs := gWm 82 (by decide +kernel) rfl
theorem cl_X1_254 : gCV RX1 254 yX1_counting cX1_counting 9 none 1 := ⟨g_mk [.methodLink RX1 254 yX1_counting, .instanceMethod yX1_counting, .selects yX1_counting.cls yX1_counting yX1_counting, .initialized yX1_counting.cls] (gWs_all kw_1505) (List.forall_mem_cons.mpr ⟨kw_1502, List.forall_mem_cons.mpr ⟨kw_1504, List.forall_mem_cons.mpr ⟨kw_82, List.forall_mem_cons.mpr ⟨kw_251, fun _ h => nomatch h⟩⟩⟩⟩), rfl, by decide +kernel, by decide +kernel, by decide +kernel⟩
theorem kw_1520 : Cond.code yX1_switching cX1_switching 8 none ∈ gWs := List.mem_filter.mpr ⟨gMt6 _ (List.mem_of_getElem? (i := 83) rfl), rfl⟩
theorem kw_1517 : Cond.methodLink RX1 257 yX1_switching ∈ gWs := List.mem_filter.mpr ⟨gMt6 _ (List.mem_of_getElem? (i := 80) rfl), rfl⟩
theorem kw_1519 : Cond.instanceMethod yX1_switching ∈ gWs := List.mem_filter.mpr ⟨gMt6 _ (List.mem_of_getElem? (i := 82) rfl), rfl⟩
theorem kw_84 : Cond.selects RX1 yX1_switching yX1_switching ∈ gWs := gWm 84 (by decide +kernel) rfl
theorem cl_X1_257 : gCV RX1 257 yX1_switching cX1_switching 8 none 1 := ⟨g_mk [.methodLink RX1 257 yX1_switching, .instanceMethod yX1_switching, .selects yX1_switching.cls yX1_switching yX1_switching, .initialized yX1_switching.cls] (gWs_all kw_1520) (List.forall_mem_cons.mpr ⟨kw_1517, List.forall_mem_cons.mpr ⟨kw_1519, List.forall_mem_cons.mpr ⟨kw_84, List.forall_mem_cons.mpr ⟨kw_251, fun _ h => nomatch h⟩⟩⟩⟩), rfl, by decide +kernel, by decide +kernel, by decide +kernel⟩
theorem kw_1524 : Cond.code yX1_telling cX1_telling 2 none ∈ gWs := List.mem_filter.mpr ⟨gMt6 _ (List.mem_of_getElem? (i := 87) rfl), rfl⟩
theorem kw_1521 : Cond.methodLink RX1 260 yX1_telling ∈ gWs := List.mem_filter.mpr ⟨gMt6 _ (List.mem_of_getElem? (i := 84) rfl), rfl⟩
theorem kw_1523 : Cond.instanceMethod yX1_telling ∈ gWs := List.mem_filter.mpr ⟨gMt6 _ (List.mem_of_getElem? (i := 86) rfl), rfl⟩
theorem kw_85 : Cond.selects RX1 yX1_telling yX1_telling ∈ gWs := gWm 85 (by decide +kernel) rfl
theorem cl_X1_260 : gCV RX1 260 yX1_telling cX1_telling 2 none 1 := ⟨g_mk [.methodLink RX1 260 yX1_telling, .instanceMethod yX1_telling, .selects yX1_telling.cls yX1_telling yX1_telling, .initialized yX1_telling.cls] (gWs_all kw_1524) (List.forall_mem_cons.mpr ⟨kw_1521, List.forall_mem_cons.mpr ⟨kw_1523, List.forall_mem_cons.mpr ⟨kw_85, List.forall_mem_cons.mpr ⟨kw_251, fun _ h => nomatch h⟩⟩⟩⟩), rfl, by decide +kernel, by decide +kernel, by decide +kernel⟩
theorem kw_1481 : Cond.code yX1_assignment cX1_assignment 6 none ∈ gWs := List.mem_filter.mpr ⟨gMt6 _ (List.mem_of_getElem? (i := 44) rfl), rfl⟩
theorem kw_1478 : Cond.methodLink RX1 245 yX1_assignment ∈ gWs := List.mem_filter.mpr ⟨gMt6 _ (List.mem_of_getElem? (i := 41) rfl), rfl⟩
theorem kw_1480 : Cond.instanceMethod yX1_assignment ∈ gWs := List.mem_filter.mpr ⟨gMt6 _ (List.mem_of_getElem? (i := 43) rfl), rfl⟩
theorem kw_78 : Cond.selects RX1 yX1_assignment yX1_assignment ∈ gWs := gWm 78 (by decide +kernel) rfl
theorem cl_X1_245 : gCV RX1 245 yX1_assignment cX1_assignment 6 none 1 := ⟨g_mk [.methodLink RX1 245 yX1_assignment, .instanceMethod yX1_assignment, .selects yX1_assignment.cls yX1_assignment yX1_assignment, .initialized yX1_assignment.cls] (gWs_all kw_1481) (List.forall_mem_cons.mpr ⟨kw_1478, List.forall_mem_cons.mpr ⟨kw_1480, List.forall_mem_cons.mpr ⟨kw_78, List.forall_mem_cons.mpr ⟨kw_251, fun _ h => nomatch h⟩⟩⟩⟩), rfl, by decide +kernel, by decide +kernel, by decide +kernel⟩
theorem kw_1528 : Cond.code yX1_leaving cX1_leaving 4 none ∈ gWs := List.mem_filter.mpr ⟨gMt6 _ (List.mem_of_getElem? (i := 91) rfl), rfl⟩
theorem kw_1525 : Cond.methodLink RX1 263 yX1_leaving ∈ gWs := List.mem_filter.mpr ⟨gMt6 _ (List.mem_of_getElem? (i := 88) rfl), rfl⟩
theorem kw_1527 : Cond.instanceMethod yX1_leaving ∈ gWs := List.mem_filter.mpr ⟨gMt6 _ (List.mem_of_getElem? (i := 90) rfl), rfl⟩
theorem kw_86 : Cond.selects RX1 yX1_leaving yX1_leaving ∈ gWs := gWm 86 (by decide +kernel) rfl
theorem cl_X1_263 : gCV RX1 263 yX1_leaving cX1_leaving 4 none 1 := ⟨g_mk [.methodLink RX1 263 yX1_leaving, .instanceMethod yX1_leaving, .selects yX1_leaving.cls yX1_leaving yX1_leaving, .initialized yX1_leaving.cls] (gWs_all kw_1528) (List.forall_mem_cons.mpr ⟨kw_1525, List.forall_mem_cons.mpr ⟨kw_1527, List.forall_mem_cons.mpr ⟨kw_86, List.forall_mem_cons.mpr ⟨kw_251, fun _ h => nomatch h⟩⟩⟩⟩), rfl, by decide +kernel, by decide +kernel, by decide +kernel⟩
theorem kw_1485 : Cond.code yX1_isByte cX1_isByte 4 (some .boolean) ∈ gWs := List.mem_filter.mpr ⟨gMt6 _ (List.mem_of_getElem? (i := 48) rfl), rfl⟩
theorem kw_1482 : Cond.methodLink RX1 266 yX1_isByte ∈ gWs := List.mem_filter.mpr ⟨gMt6 _ (List.mem_of_getElem? (i := 45) rfl), rfl⟩
theorem kw_1484 : Cond.instanceMethod yX1_isByte ∈ gWs := List.mem_filter.mpr ⟨gMt6 _ (List.mem_of_getElem? (i := 47) rfl), rfl⟩
theorem kw_79 : Cond.selects RX1 yX1_isByte yX1_isByte ∈ gWs := gWm 79 (by decide +kernel) rfl
theorem cl_X1_266 : gCV RX1 266 yX1_isByte cX1_isByte 4 (some .boolean) 1 := ⟨g_mk [.methodLink RX1 266 yX1_isByte, .instanceMethod yX1_isByte, .selects yX1_isByte.cls yX1_isByte yX1_isByte, .initialized yX1_isByte.cls] (gWs_all kw_1485) (List.forall_mem_cons.mpr ⟨kw_1482, List.forall_mem_cons.mpr ⟨kw_1484, List.forall_mem_cons.mpr ⟨kw_79, List.forall_mem_cons.mpr ⟨kw_251, fun _ h => nomatch h⟩⟩⟩⟩), rfl, by decide +kernel, by decide +kernel, by decide +kernel⟩
theorem kw_1501 : Cond.code yX7_landAt cX7_landAt 6 none ∈ gWs := List.mem_filter.mpr ⟨gMt6 _ (List.mem_of_getElem? (i := 64) rfl), rfl⟩
theorem kw_1498 : Cond.methodLink RX1 273 yX7_landAt ∈ gWs := List.mem_filter.mpr ⟨gMt6 _ (List.mem_of_getElem? (i := 61) rfl), rfl⟩
theorem kw_1499 : Cond.instanceMethod yX7_landAt ∈ gWs := List.mem_filter.mpr ⟨gMt6 _ (List.mem_of_getElem? (i := 62) rfl), rfl⟩
theorem kw_1500 : Cond.selects RX7 yX7_landAt yX7_landAt ∈ gWs := List.mem_filter.mpr ⟨gMt6 _ (List.mem_of_getElem? (i := 63) rfl), rfl⟩
theorem cl_X1_273 : gCV RX1 273 yX7_landAt cX7_landAt 6 none 2 := ⟨g_mk [.methodLink RX1 273 yX7_landAt, .instanceMethod yX7_landAt, .selects yX7_landAt.cls yX7_landAt yX7_landAt, .initialized yX7_landAt.cls] (gWs_all kw_1501) (List.forall_mem_cons.mpr ⟨kw_1498, List.forall_mem_cons.mpr ⟨kw_1499, List.forall_mem_cons.mpr ⟨kw_1500, List.forall_mem_cons.mpr ⟨kw_240, fun _ h => nomatch h⟩⟩⟩⟩), rfl, by decide +kernel, by decide +kernel, by decide +kernel⟩
theorem kw_1286 : Cond.methodLink RX1 94 yX4_cut ∈ gWs := List.mem_filter.mpr ⟨gMt5 _ (List.mem_of_getElem? (i := 89) rfl), rfl⟩
theorem cl_X1_94 : gCV RX1 94 yX4_cut cX4_cut 2 none 1 := ⟨g_mk [.methodLink RX1 94 yX4_cut, .instanceMethod yX4_cut, .selects yX4_cut.cls yX4_cut yX4_cut, .initialized yX4_cut.cls] (gWs_all kw_468) (List.forall_mem_cons.mpr ⟨kw_1286, List.forall_mem_cons.mpr ⟨kw_466, List.forall_mem_cons.mpr ⟨kw_467, List.forall_mem_cons.mpr ⟨kw_239, fun _ h => nomatch h⟩⟩⟩⟩), rfl, by decide +kernel, by decide +kernel, by decide +kernel⟩
theorem kw_1465 : Cond.code yX1_valof cX1_valof 7 none ∈ gWs := List.mem_filter.mpr ⟨gMt6 _ (List.mem_of_getElem? (i := 28) rfl), rfl⟩
theorem kw_1462 : Cond.methodLink RX1 286 yX1_valof ∈ gWs := List.mem_filter.mpr ⟨gMt6 _ (List.mem_of_getElem? (i := 25) rfl), rfl⟩
theorem kw_1464 : Cond.instanceMethod yX1_valof ∈ gWs := List.mem_filter.mpr ⟨gMt6 _ (List.mem_of_getElem? (i := 27) rfl), rfl⟩
theorem kw_75 : Cond.selects RX1 yX1_valof yX1_valof ∈ gWs := gWm 75 (by decide +kernel) rfl
theorem cl_X1_286 : gCV RX1 286 yX1_valof cX1_valof 7 none 1 := ⟨g_mk [.methodLink RX1 286 yX1_valof, .instanceMethod yX1_valof, .selects yX1_valof.cls yX1_valof yX1_valof, .initialized yX1_valof.cls] (gWs_all kw_1465) (List.forall_mem_cons.mpr ⟨kw_1462, List.forall_mem_cons.mpr ⟨kw_1464, List.forall_mem_cons.mpr ⟨kw_75, List.forall_mem_cons.mpr ⟨kw_251, fun _ h => nomatch h⟩⟩⟩⟩), rfl, by decide +kernel, by decide +kernel, by decide +kernel⟩
theorem kw_1541 : Cond.code yX1_table cX1_table 5 none ∈ gWs := List.mem_filter.mpr ⟨gMt6 _ (List.mem_of_getElem? (i := 104) rfl), rfl⟩
theorem kw_1538 : Cond.methodLink RX1 292 yX1_table ∈ gWs := List.mem_filter.mpr ⟨gMt6 _ (List.mem_of_getElem? (i := 101) rfl), rfl⟩
theorem kw_1540 : Cond.instanceMethod yX1_table ∈ gWs := List.mem_filter.mpr ⟨gMt6 _ (List.mem_of_getElem? (i := 103) rfl), rfl⟩
theorem kw_89 : Cond.selects RX1 yX1_table yX1_table ∈ gWs := gWm 89 (by decide +kernel) rfl
theorem cl_X1_292 : gCV RX1 292 yX1_table cX1_table 5 none 1 := ⟨g_mk [.methodLink RX1 292 yX1_table, .instanceMethod yX1_table, .selects yX1_table.cls yX1_table yX1_table, .initialized yX1_table.cls] (gWs_all kw_1541) (List.forall_mem_cons.mpr ⟨kw_1538, List.forall_mem_cons.mpr ⟨kw_1540, List.forall_mem_cons.mpr ⟨kw_89, List.forall_mem_cons.mpr ⟨kw_251, fun _ h => nomatch h⟩⟩⟩⟩), rfl, by decide +kernel, by decide +kernel, by decide +kernel⟩
theorem kw_1537 : Cond.code yX1_choice cX1_choice 6 none ∈ gWs := List.mem_filter.mpr ⟨gMt6 _ (List.mem_of_getElem? (i := 100) rfl), rfl⟩
theorem kw_1534 : Cond.methodLink RX1 289 yX1_choice ∈ gWs := List.mem_filter.mpr ⟨gMt6 _ (List.mem_of_getElem? (i := 97) rfl), rfl⟩
theorem kw_1536 : Cond.instanceMethod yX1_choice ∈ gWs := List.mem_filter.mpr ⟨gMt6 _ (List.mem_of_getElem? (i := 99) rfl), rfl⟩
theorem kw_88 : Cond.selects RX1 yX1_choice yX1_choice ∈ gWs := gWm 88 (by decide +kernel) rfl
theorem cl_X1_289 : gCV RX1 289 yX1_choice cX1_choice 6 none 1 := ⟨g_mk [.methodLink RX1 289 yX1_choice, .instanceMethod yX1_choice, .selects yX1_choice.cls yX1_choice yX1_choice, .initialized yX1_choice.cls] (gWs_all kw_1537) (List.forall_mem_cons.mpr ⟨kw_1534, List.forall_mem_cons.mpr ⟨kw_1536, List.forall_mem_cons.mpr ⟨kw_88, List.forall_mem_cons.mpr ⟨kw_251, fun _ h => nomatch h⟩⟩⟩⟩), rfl, by decide +kernel, by decide +kernel, by decide +kernel⟩
theorem kw_1453 : Cond.code yX1_calls cX1_calls 6 none ∈ gWs := List.mem_filter.mpr ⟨gMt6 _ (List.mem_of_getElem? (i := 16) rfl), rfl⟩
theorem kw_1450 : Cond.methodLink RX1 280 yX1_calls ∈ gWs := List.mem_filter.mpr ⟨gMt6 _ (List.mem_of_getElem? (i := 13) rfl), rfl⟩
theorem kw_1452 : Cond.instanceMethod yX1_calls ∈ gWs := List.mem_filter.mpr ⟨gMt6 _ (List.mem_of_getElem? (i := 15) rfl), rfl⟩
theorem kw_72 : Cond.selects RX1 yX1_calls yX1_calls ∈ gWs := gWm 72 (by decide +kernel) rfl
theorem cl_X1_280 : gCV RX1 280 yX1_calls cX1_calls 6 none 1 := ⟨g_mk [.methodLink RX1 280 yX1_calls, .instanceMethod yX1_calls, .selects yX1_calls.cls yX1_calls yX1_calls, .initialized yX1_calls.cls] (gWs_all kw_1453) (List.forall_mem_cons.mpr ⟨kw_1450, List.forall_mem_cons.mpr ⟨kw_1452, List.forall_mem_cons.mpr ⟨kw_72, List.forall_mem_cons.mpr ⟨kw_251, fun _ h => nomatch h⟩⟩⟩⟩), rfl, by decide +kernel, by decide +kernel, by decide +kernel⟩
theorem kw_1545 : Cond.code yX1_sign cX1_sign 4 (some .int) ∈ gWs := List.mem_filter.mpr ⟨gMt6 _ (List.mem_of_getElem? (i := 108) rfl), rfl⟩
theorem kw_1542 : Cond.methodLink RX1 295 yX1_sign ∈ gWs := List.mem_filter.mpr ⟨gMt6 _ (List.mem_of_getElem? (i := 105) rfl), rfl⟩
theorem kw_1544 : Cond.instanceMethod yX1_sign ∈ gWs := List.mem_filter.mpr ⟨gMt6 _ (List.mem_of_getElem? (i := 107) rfl), rfl⟩
theorem kw_90 : Cond.selects RX1 yX1_sign yX1_sign ∈ gWs := gWm 90 (by decide +kernel) rfl
theorem cl_X1_295 : gCV RX1 295 yX1_sign cX1_sign 4 (some .int) 2 := ⟨g_mk [.methodLink RX1 295 yX1_sign, .instanceMethod yX1_sign, .selects yX1_sign.cls yX1_sign yX1_sign, .initialized yX1_sign.cls] (gWs_all kw_1545) (List.forall_mem_cons.mpr ⟨kw_1542, List.forall_mem_cons.mpr ⟨kw_1544, List.forall_mem_cons.mpr ⟨kw_90, List.forall_mem_cons.mpr ⟨kw_251, fun _ h => nomatch h⟩⟩⟩⟩), rfl, by decide +kernel, by decide +kernel, by decide +kernel⟩
theorem kw_1550 : Cond.code yX1_single cX1_single 6 none ∈ gWs := List.mem_filter.mpr ⟨gMt6 _ (List.mem_of_getElem? (i := 113) rfl), rfl⟩
theorem kw_1547 : Cond.methodLink RX1 298 yX1_single ∈ gWs := List.mem_filter.mpr ⟨gMt6 _ (List.mem_of_getElem? (i := 110) rfl), rfl⟩
theorem kw_1549 : Cond.instanceMethod yX1_single ∈ gWs := List.mem_filter.mpr ⟨gMt6 _ (List.mem_of_getElem? (i := 112) rfl), rfl⟩
theorem kw_91 : Cond.selects RX1 yX1_single yX1_single ∈ gWs := gWm 91 (by decide +kernel) rfl
theorem cl_X1_298 : gCV RX1 298 yX1_single cX1_single 6 none 3 := ⟨g_mk [.methodLink RX1 298 yX1_single, .instanceMethod yX1_single, .selects yX1_single.cls yX1_single yX1_single, .initialized yX1_single.cls] (gWs_all kw_1550) (List.forall_mem_cons.mpr ⟨kw_1547, List.forall_mem_cons.mpr ⟨kw_1549, List.forall_mem_cons.mpr ⟨kw_91, List.forall_mem_cons.mpr ⟨kw_251, fun _ h => nomatch h⟩⟩⟩⟩), rfl, by decide +kernel, by decide +kernel, by decide +kernel⟩
theorem kw_1457 : Cond.code yX1_arguments cX1_arguments 6 none ∈ gWs := List.mem_filter.mpr ⟨gMt6 _ (List.mem_of_getElem? (i := 20) rfl), rfl⟩
theorem kw_1454 : Cond.methodLink RX1 301 yX1_arguments ∈ gWs := List.mem_filter.mpr ⟨gMt6 _ (List.mem_of_getElem? (i := 17) rfl), rfl⟩
theorem kw_1456 : Cond.instanceMethod yX1_arguments ∈ gWs := List.mem_filter.mpr ⟨gMt6 _ (List.mem_of_getElem? (i := 19) rfl), rfl⟩
theorem kw_73 : Cond.selects RX1 yX1_arguments yX1_arguments ∈ gWs := gWm 73 (by decide +kernel) rfl
theorem cl_X1_301 : gCV RX1 301 yX1_arguments cX1_arguments 6 none 2 := ⟨g_mk [.methodLink RX1 301 yX1_arguments, .instanceMethod yX1_arguments, .selects yX1_arguments.cls yX1_arguments yX1_arguments, .initialized yX1_arguments.cls] (gWs_all kw_1457) (List.forall_mem_cons.mpr ⟨kw_1454, List.forall_mem_cons.mpr ⟨kw_1456, List.forall_mem_cons.mpr ⟨kw_73, List.forall_mem_cons.mpr ⟨kw_251, fun _ h => nomatch h⟩⟩⟩⟩), rfl, by decide +kernel, by decide +kernel, by decide +kernel⟩
theorem kw_1273 : Cond.code yX9_clear cX9_clear 2 none ∈ gWs := List.mem_filter.mpr ⟨gMt5 _ (List.mem_of_getElem? (i := 76) rfl), rfl⟩
theorem kw_1270 : Cond.methodLink RX1 91 yX9_clear ∈ gWs := List.mem_filter.mpr ⟨gMt5 _ (List.mem_of_getElem? (i := 73) rfl), rfl⟩
theorem kw_1271 : Cond.instanceMethod yX9_clear ∈ gWs := List.mem_filter.mpr ⟨gMt5 _ (List.mem_of_getElem? (i := 74) rfl), rfl⟩
theorem kw_1272 : Cond.selects RX9 yX9_clear yX9_clear ∈ gWs := List.mem_filter.mpr ⟨gMt5 _ (List.mem_of_getElem? (i := 75) rfl), rfl⟩
theorem cl_X1_91 : gCV RX1 91 yX9_clear cX9_clear 2 none 0 := ⟨g_mk [.methodLink RX1 91 yX9_clear, .instanceMethod yX9_clear, .selects yX9_clear.cls yX9_clear yX9_clear, .initialized yX9_clear.cls] (gWs_all kw_1273) (List.forall_mem_cons.mpr ⟨kw_1270, List.forall_mem_cons.mpr ⟨kw_1271, List.forall_mem_cons.mpr ⟨kw_1272, List.forall_mem_cons.mpr ⟨kw_252, fun _ h => nomatch h⟩⟩⟩⟩), rfl, by decide +kernel, by decide +kernel, by decide +kernel⟩
theorem kw_1578 : Cond.code yX7_setOperand cX7_setOperand 3 none ∈ gWs := List.mem_filter.mpr ⟨gMt6 _ (List.mem_of_getElem? (i := 141) rfl), rfl⟩
theorem kw_1575 : Cond.methodLink RX1 111 yX7_setOperand ∈ gWs := List.mem_filter.mpr ⟨gMt6 _ (List.mem_of_getElem? (i := 138) rfl), rfl⟩
theorem kw_1576 : Cond.instanceMethod yX7_setOperand ∈ gWs := List.mem_filter.mpr ⟨gMt6 _ (List.mem_of_getElem? (i := 139) rfl), rfl⟩
theorem kw_1577 : Cond.selects RX7 yX7_setOperand yX7_setOperand ∈ gWs := List.mem_filter.mpr ⟨gMt6 _ (List.mem_of_getElem? (i := 140) rfl), rfl⟩
theorem cl_X1_111 : gCV RX1 111 yX7_setOperand cX7_setOperand 3 none 2 := ⟨g_mk [.methodLink RX1 111 yX7_setOperand, .instanceMethod yX7_setOperand, .selects yX7_setOperand.cls yX7_setOperand yX7_setOperand, .initialized yX7_setOperand.cls] (gWs_all kw_1578) (List.forall_mem_cons.mpr ⟨kw_1575, List.forall_mem_cons.mpr ⟨kw_1576, List.forall_mem_cons.mpr ⟨kw_1577, List.forall_mem_cons.mpr ⟨kw_240, fun _ h => nomatch h⟩⟩⟩⟩), rfl, by decide +kernel, by decide +kernel, by decide +kernel⟩
/-! the class: words -/
