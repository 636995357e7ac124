theorem kw_543 : Cond.fieldLink RX6 34 "WordTongue$Parser" "root" "I" ∈ gWs := List.mem_filter.mpr ⟨gMt2 _ (List.mem_of_getElem? (i := 66) rfl), rfl⟩
theorem fl_X6_34 : gFL RX6 34 6 11 .int false := ⟨RX6, TX6, 12, tyX6, rfl, by decide, inW_RX6, kw_543, tyX6_ok, nmX6, rfl, by decide +kernel, fun h => by cases h⟩
theorem kw_533 : Cond.fieldLink RX6 48 "WordTongue$Parser" "infos" "LWordTongue$Ints;" ∈ gWs := List.mem_filter.mpr ⟨gMt2 _ (List.mem_of_getElem? (i := 56) rfl), rfl⟩
theorem fl_X6_48 : gFL RX6 48 6 1 (.object "WordTongue$Ints") true := ⟨RX6, TX6, 12, tyX6, rfl, by decide, inW_RX6, kw_533, tyX6_ok, nmX6, rfl, by decide +kernel, fun _ => rfl⟩
theorem kw_992 : Cond.code yX6_info cX6_info 1 (some .int) ∈ gWs := List.mem_filter.mpr ⟨gMt4 _ (List.mem_of_getElem? (i := 35) rfl), rfl⟩
theorem kw_989 : Cond.methodLink RX6 106 yX6_info ∈ gWs := List.mem_filter.mpr ⟨gMt4 _ (List.mem_of_getElem? (i := 32) rfl), rfl⟩
theorem kw_991 : Cond.instanceMethod yX6_info ∈ gWs := List.mem_filter.mpr ⟨gMt4 _ (List.mem_of_getElem? (i := 34) rfl), rfl⟩
theorem kw_21 : Cond.selects RX6 yX6_info yX6_info ∈ gWs := gWm 21 (by decide +kernel) rfl
theorem cl_X6_106 : gCV RX6 106 yX6_info cX6_info 1 (some .int) 0 := ⟨g_mk [.methodLink RX6 106 yX6_info, .instanceMethod yX6_info, .selects yX6_info.cls yX6_info yX6_info, .initialized yX6_info.cls] (gWs_all kw_992) (List.forall_mem_cons.mpr ⟨kw_989, List.forall_mem_cons.mpr ⟨kw_991, List.forall_mem_cons.mpr ⟨kw_21, List.forall_mem_cons.mpr ⟨kw_250, fun _ h => nomatch h⟩⟩⟩⟩), rfl, by decide +kernel, by decide +kernel, by decide +kernel⟩
theorem kw_996 : Cond.code yX6_advance cX6_advance 1 none ∈ gWs := List.mem_filter.mpr ⟨gMt4 _ (List.mem_of_getElem? (i := 39) rfl), rfl⟩
theorem kw_993 : Cond.methodLink RX6 103 yX6_advance ∈ gWs := List.mem_filter.mpr ⟨gMt4 _ (List.mem_of_getElem? (i := 36) rfl), rfl⟩
theorem kw_995 : Cond.instanceMethod yX6_advance ∈ gWs := List.mem_filter.mpr ⟨gMt4 _ (List.mem_of_getElem? (i := 38) rfl), rfl⟩
theorem kw_22 : Cond.selects RX6 yX6_advance yX6_advance ∈ gWs := gWm 22 (by decide +kernel) rfl
theorem cl_X6_103 : gCV RX6 103 yX6_advance cX6_advance 1 none 0 := ⟨g_mk [.methodLink RX6 103 yX6_advance, .instanceMethod yX6_advance, .selects yX6_advance.cls yX6_advance yX6_advance, .initialized yX6_advance.cls] (gWs_all kw_996) (List.forall_mem_cons.mpr ⟨kw_993, List.forall_mem_cons.mpr ⟨kw_995, List.forall_mem_cons.mpr ⟨kw_22, List.forall_mem_cons.mpr ⟨kw_250, fun _ h => nomatch h⟩⟩⟩⟩), rfl, by decide +kernel, by decide +kernel, by decide +kernel⟩
theorem kw_988 : Cond.code yX6_leaf cX6_leaf 3 (some .int) ∈ gWs := List.mem_filter.mpr ⟨gMt4 _ (List.mem_of_getElem? (i := 31) rfl), rfl⟩
theorem kw_985 : Cond.methodLink RX6 135 yX6_leaf ∈ gWs := List.mem_filter.mpr ⟨gMt4 _ (List.mem_of_getElem? (i := 28) rfl), rfl⟩
theorem kw_987 : Cond.instanceMethod yX6_leaf ∈ gWs := List.mem_filter.mpr ⟨gMt4 _ (List.mem_of_getElem? (i := 30) rfl), rfl⟩
theorem kw_20 : Cond.selects RX6 yX6_leaf yX6_leaf ∈ gWs := gWm 20 (by decide +kernel) rfl
theorem cl_X6_135 : gCV RX6 135 yX6_leaf cX6_leaf 3 (some .int) 1 := ⟨g_mk [.methodLink RX6 135 yX6_leaf, .instanceMethod yX6_leaf, .selects yX6_leaf.cls yX6_leaf yX6_leaf, .initialized yX6_leaf.cls] (gWs_all kw_988) (List.forall_mem_cons.mpr ⟨kw_985, List.forall_mem_cons.mpr ⟨kw_987, List.forall_mem_cons.mpr ⟨kw_20, List.forall_mem_cons.mpr ⟨kw_250, fun _ h => nomatch h⟩⟩⟩⟩), rfl, by decide +kernel, by decide +kernel, by decide +kernel⟩
theorem kw_1125 : Cond.code yX10_hang cX10_hang 3 none ∈ gWs := List.mem_filter.mpr ⟨gMt4 _ (List.mem_of_getElem? (i := 168) rfl), rfl⟩
theorem kw_1122 : Cond.methodLink RX6 123 yX10_hang ∈ gWs := List.mem_filter.mpr ⟨gMt4 _ (List.mem_of_getElem? (i := 165) rfl), rfl⟩
theorem kw_1123 : Cond.instanceMethod yX10_hang ∈ gWs := List.mem_filter.mpr ⟨gMt4 _ (List.mem_of_getElem? (i := 166) rfl), rfl⟩
theorem kw_1124 : Cond.selects RX10 yX10_hang yX10_hang ∈ gWs := List.mem_filter.mpr ⟨gMt4 _ (List.mem_of_getElem? (i := 167) rfl), rfl⟩
theorem cl_X6_123 : gCV RX6 123 yX10_hang cX10_hang 3 none 2 := ⟨g_mk [.methodLink RX6 123 yX10_hang, .instanceMethod yX10_hang, .selects yX10_hang.cls yX10_hang yX10_hang, .initialized yX10_hang.cls] (gWs_all kw_1125) (List.forall_mem_cons.mpr ⟨kw_1122, List.forall_mem_cons.mpr ⟨kw_1123, List.forall_mem_cons.mpr ⟨kw_1124, List.forall_mem_cons.mpr ⟨kw_241, fun _ h => nomatch h⟩⟩⟩⟩), rfl, by decide +kernel, by decide +kernel, by decide +kernel⟩
theorem kw_1105 : Cond.methodLink RX6 172 yX4_size ∈ gWs := List.mem_filter.mpr ⟨gMt4 _ (List.mem_of_getElem? (i := 148) rfl), rfl⟩
theorem cl_X6_172 : gCV RX6 172 yX4_size cX4_size 1 (some .int) 0 := ⟨g_mk [.methodLink RX6 172 yX4_size, .instanceMethod yX4_size, .selects yX4_size.cls yX4_size yX4_size, .initialized yX4_size.cls] (gWs_all kw_428) (List.forall_mem_cons.mpr ⟨kw_1105, List.forall_mem_cons.mpr ⟨kw_426, List.forall_mem_cons.mpr ⟨kw_427, List.forall_mem_cons.mpr ⟨kw_239, fun _ h => nomatch h⟩⟩⟩⟩), rfl, by decide +kernel, by decide +kernel, by decide +kernel⟩
theorem kw_1174 : Cond.methodLink RX6 230 yX10_first ∈ gWs := List.mem_filter.mpr ⟨gMt4 _ (List.mem_of_getElem? (i := 217) rfl), rfl⟩
theorem cl_X6_230 : gCV RX6 230 yX10_first cX10_first 2 (some .int) 1 := ⟨g_mk [.methodLink RX6 230 yX10_first, .instanceMethod yX10_first, .selects yX10_first.cls yX10_first yX10_first, .initialized yX10_first.cls] (gWs_all kw_1177) (List.forall_mem_cons.mpr ⟨kw_1174, List.forall_mem_cons.mpr ⟨kw_1175, List.forall_mem_cons.mpr ⟨kw_1176, List.forall_mem_cons.mpr ⟨kw_241, fun _ h => nomatch h⟩⟩⟩⟩), rfl, by decide +kernel, by decide +kernel, by decide +kernel⟩
theorem kw_1154 : Cond.methodLink RX6 225 yX10_kind ∈ gWs := List.mem_filter.mpr ⟨gMt4 _ (List.mem_of_getElem? (i := 197) rfl), rfl⟩
theorem cl_X6_225 : gCV RX6 225 yX10_kind cX10_kind 2 (some .int) 1 := ⟨g_mk [.methodLink RX6 225 yX10_kind, .instanceMethod yX10_kind, .selects yX10_kind.cls yX10_kind yX10_kind, .initialized yX10_kind.cls] (gWs_all kw_1157) (List.forall_mem_cons.mpr ⟨kw_1154, List.forall_mem_cons.mpr ⟨kw_1155, List.forall_mem_cons.mpr ⟨kw_1156, List.forall_mem_cons.mpr ⟨kw_241, fun _ h => nomatch h⟩⟩⟩⟩), rfl, by decide +kernel, by decide +kernel, by decide +kernel⟩
theorem kw_1182 : Cond.methodLink RX6 236 yX10_next ∈ gWs := List.mem_filter.mpr ⟨gMt4 _ (List.mem_of_getElem? (i := 225) rfl), rfl⟩
theorem cl_X6_236 : gCV RX6 236 yX10_next cX10_next 2 (some .int) 1 := ⟨g_mk [.methodLink RX6 236 yX10_next, .instanceMethod yX10_next, .selects yX10_next.cls yX10_next yX10_next, .initialized yX10_next.cls] (gWs_all kw_1185) (List.forall_mem_cons.mpr ⟨kw_1182, List.forall_mem_cons.mpr ⟨kw_1183, List.forall_mem_cons.mpr ⟨kw_1184, List.forall_mem_cons.mpr ⟨kw_241, fun _ h => nomatch h⟩⟩⟩⟩), rfl, by decide +kernel, by decide +kernel, by decide +kernel⟩
theorem kw_535 : Cond.fieldLink RX6 58 "WordTongue$Parser" "strings" "LWordTongue$Ints;" ∈ gWs := List.mem_filter.mpr ⟨gMt2 _ (List.mem_of_getElem? (i := 58) rfl), rfl⟩
theorem fl_X6_58 : gFL RX6 58 6 3 (.object "WordTongue$Ints") true := ⟨RX6, TX6, 12, tyX6, rfl, by decide, inW_RX6, kw_535, tyX6_ok, nmX6, rfl, by decide +kernel, fun _ => rfl⟩
theorem kw_1209 : Cond.methodLink RX6 274 yX7_words ∈ gWs := List.mem_filter.mpr ⟨gMt5 _ (List.mem_of_getElem? (i := 12) rfl), rfl⟩
theorem cl_X6_274 : gCV RX6 274 yX7_words cX7_words 1 (some .int) 0 := ⟨g_mk [.methodLink RX6 274 yX7_words, .instanceMethod yX7_words, .selects yX7_words.cls yX7_words yX7_words, .initialized yX7_words.cls] (gWs_all kw_1212) (List.forall_mem_cons.mpr ⟨kw_1209, List.forall_mem_cons.mpr ⟨kw_1210, List.forall_mem_cons.mpr ⟨kw_1211, List.forall_mem_cons.mpr ⟨kw_240, fun _ h => nomatch h⟩⟩⟩⟩), rfl, by decide +kernel, by decide +kernel, by decide +kernel⟩
theorem kw_1092 : Cond.methodLink RX6 150 yX7_addWord ∈ gWs := List.mem_filter.mpr ⟨gMt4 _ (List.mem_of_getElem? (i := 135) rfl), rfl⟩
theorem cl_X6_150 : gCV RX6 150 yX7_addWord cX7_addWord 2 (some .int) 1 := ⟨g_mk [.methodLink RX6 150 yX7_addWord, .instanceMethod yX7_addWord, .selects yX7_addWord.cls yX7_addWord yX7_addWord, .initialized yX7_addWord.cls] (gWs_all kw_1095) (List.forall_mem_cons.mpr ⟨kw_1092, List.forall_mem_cons.mpr ⟨kw_1093, List.forall_mem_cons.mpr ⟨kw_1094, List.forall_mem_cons.mpr ⟨kw_240, fun _ h => nomatch h⟩⟩⟩⟩), rfl, by decide +kernel, by decide +kernel, by decide +kernel⟩
theorem kw_1225 : Cond.methodLink RX6 249 yX4_top ∈ gWs := List.mem_filter.mpr ⟨gMt5 _ (List.mem_of_getElem? (i := 28) rfl), rfl⟩
theorem cl_X6_249 : gCV RX6 249 yX4_top cX4_top 1 (some .int) 0 := ⟨g_mk [.methodLink RX6 249 yX4_top, .instanceMethod yX4_top, .selects yX4_top.cls yX4_top yX4_top, .initialized yX4_top.cls] (gWs_all kw_879) (List.forall_mem_cons.mpr ⟨kw_1225, List.forall_mem_cons.mpr ⟨kw_877, List.forall_mem_cons.mpr ⟨kw_878, List.forall_mem_cons.mpr ⟨kw_239, fun _ h => nomatch h⟩⟩⟩⟩), rfl, by decide +kernel, by decide +kernel, by decide +kernel⟩
theorem kw_1138 : Cond.methodLink RX6 165 yX4_pop ∈ gWs := List.mem_filter.mpr ⟨gMt4 _ (List.mem_of_getElem? (i := 181) rfl), rfl⟩
theorem cl_X6_165 : gCV RX6 165 yX4_pop cX4_pop 1 (some .int) 0 := ⟨g_mk [.methodLink RX6 165 yX4_pop, .instanceMethod yX4_pop, .selects yX4_pop.cls yX4_pop yX4_pop, .initialized yX4_pop.cls] (gWs_all kw_1141) (List.forall_mem_cons.mpr ⟨kw_1138, List.forall_mem_cons.mpr ⟨kw_1139, List.forall_mem_cons.mpr ⟨kw_1140, List.forall_mem_cons.mpr ⟨kw_239, fun _ h => nomatch h⟩⟩⟩⟩), rfl, by decide +kernel, by decide +kernel, by decide +kernel⟩
theorem kw_1232 : Cond.code yX11_power cX11_power 1 (some .int) ∈ gWs := List.mem_filter.mpr ⟨gMt5 _ (List.mem_of_getElem? (i := 35) rfl), rfl⟩
theorem kw_1231 : Cond.static yX11_power ∈ gWs := List.mem_filter.mpr ⟨gMt5 _ (List.mem_of_getElem? (i := 34) rfl), rfl⟩
theorem cl_X6_246 : gCSN RX6 246 4 yX11_power cX11_power 1 (some .int) 1 := ⟨_, rfl, gWs_all kw_1232, kw_238, kw_1231, ⟨by decide +kernel, by decide +kernel, by decide +kernel⟩⟩
theorem cl_X6_252 : gCSN RX6 252 5 yX11_isRelation cX11_isRelation 1 (some .boolean) 1 := ⟨_, rfl, gWs_all kw_1235, kw_238, kw_1234, ⟨by decide +kernel, by decide +kernel, by decide +kernel⟩⟩
theorem kw_1096 : Cond.methodLink RX6 153 yX10_setExtra ∈ gWs := List.mem_filter.mpr ⟨gMt4 _ (List.mem_of_getElem? (i := 139) rfl), rfl⟩
theorem cl_X6_153 : gCV RX6 153 yX10_setExtra cX10_setExtra 3 none 2 := ⟨g_mk [.methodLink RX6 153 yX10_setExtra, .instanceMethod yX10_setExtra, .selects yX10_setExtra.cls yX10_setExtra yX10_setExtra, .initialized yX10_setExtra.cls] (gWs_all kw_1099) (List.forall_mem_cons.mpr ⟨kw_1096, List.forall_mem_cons.mpr ⟨kw_1097, List.forall_mem_cons.mpr ⟨kw_1098, List.forall_mem_cons.mpr ⟨kw_241, fun _ h => nomatch h⟩⟩⟩⟩), rfl, by decide +kernel, by decide +kernel, by decide +kernel⟩
theorem kw_1077 : Cond.code yX6_enter cX6_enter 1 none ∈ gWs := List.mem_filter.mpr ⟨gMt4 _ (List.mem_of_getElem? (i := 120) rfl), rfl⟩
theorem kw_1074 : Cond.methodLink RX6 162 yX6_enter ∈ gWs := List.mem_filter.mpr ⟨gMt4 _ (List.mem_of_getElem? (i := 117) rfl), rfl⟩
theorem kw_1076 : Cond.instanceMethod yX6_enter ∈ gWs := List.mem_filter.mpr ⟨gMt4 _ (List.mem_of_getElem? (i := 119) rfl), rfl⟩
theorem kw_26 : Cond.selects RX6 yX6_enter yX6_enter ∈ gWs := gWm 26 (by decide +kernel) rfl
theorem cl_X6_162 : gCV RX6 162 yX6_enter cX6_enter 1 none 0 := ⟨g_mk [.methodLink RX6 162 yX6_enter, .instanceMethod yX6_enter, .selects yX6_enter.cls yX6_enter yX6_enter, .initialized yX6_enter.cls] (gWs_all kw_1077) (List.forall_mem_cons.mpr ⟨kw_1074, List.forall_mem_cons.mpr ⟨kw_1076, List.forall_mem_cons.mpr ⟨kw_26, List.forall_mem_cons.mpr ⟨kw_250, fun _ h => nomatch h⟩⟩⟩⟩), rfl, by decide +kernel, by decide +kernel, by decide +kernel⟩
theorem kw_1078 : Cond.methodLink RX6 147 yX4_add ∈ gWs := List.mem_filter.mpr ⟨gMt4 _ (List.mem_of_getElem? (i := 121) rfl), rfl⟩
theorem cl_X6_147 : gCV RX6 147 yX4_add cX4_add 2 none 1 := ⟨g_mk [.methodLink RX6 147 yX4_add, .instanceMethod yX4_add, .selects yX4_add.cls yX4_add yX4_add, .initialized yX4_add.cls] (gWs_all kw_444) (List.forall_mem_cons.mpr ⟨kw_1078, List.forall_mem_cons.mpr ⟨kw_442, List.forall_mem_cons.mpr ⟨kw_443, List.forall_mem_cons.mpr ⟨kw_239, fun _ h => nomatch h⟩⟩⟩⟩), rfl, by decide +kernel, by decide +kernel, by decide +kernel⟩
theorem kw_1145 : Cond.code yX6_isOpen cX6_isOpen 3 (some .boolean) ∈ gWs := List.mem_filter.mpr ⟨gMt4 _ (List.mem_of_getElem? (i := 188) rfl), rfl⟩
theorem kw_1142 : Cond.methodLink RX6 168 yX6_isOpen ∈ gWs := List.mem_filter.mpr ⟨gMt4 _ (List.mem_of_getElem? (i := 185) rfl), rfl⟩
theorem kw_1144 : Cond.instanceMethod yX6_isOpen ∈ gWs := List.mem_filter.mpr ⟨gMt4 _ (List.mem_of_getElem? (i := 187) rfl), rfl⟩
theorem kw_37 : Cond.selects RX6 yX6_isOpen yX6_isOpen ∈ gWs := gWm 37 (by decide +kernel) rfl
theorem cl_X6_168 : gCV RX6 168 yX6_isOpen cX6_isOpen 3 (some .boolean) 1 := ⟨g_mk [.methodLink RX6 168 yX6_isOpen, .instanceMethod yX6_isOpen, .selects yX6_isOpen.cls yX6_isOpen yX6_isOpen, .initialized yX6_isOpen.cls] (gWs_all kw_1145) (List.forall_mem_cons.mpr ⟨kw_1142, List.forall_mem_cons.mpr ⟨kw_1144, List.forall_mem_cons.mpr ⟨kw_37, List.forall_mem_cons.mpr ⟨kw_250, fun _ h => nomatch h⟩⟩⟩⟩), rfl, by decide +kernel, by decide +kernel, by decide +kernel⟩
theorem kw_984 : Cond.code yX6_definitions cX6_definitions 6 (some .int) ∈ gWs := List.mem_filter.mpr ⟨gMt4 _ (List.mem_of_getElem? (i := 27) rfl), rfl⟩
theorem kw_981 : Cond.methodLink RX6 126 yX6_definitions ∈ gWs := List.mem_filter.mpr ⟨gMt4 _ (List.mem_of_getElem? (i := 24) rfl), rfl⟩
theorem kw_983 : Cond.instanceMethod yX6_definitions ∈ gWs := List.mem_filter.mpr ⟨gMt4 _ (List.mem_of_getElem? (i := 26) rfl), rfl⟩
theorem kw_19 : Cond.selects RX6 yX6_definitions yX6_definitions ∈ gWs := gWm 19 (by decide +kernel) rfl
theorem cl_X6_126 : gCV RX6 126 yX6_definitions cX6_definitions 6 (some .int) 1 := ⟨g_mk [.methodLink RX6 126 yX6_definitions, .instanceMethod yX6_definitions, .selects yX6_definitions.cls yX6_definitions yX6_definitions, .initialized yX6_definitions.cls] (gWs_all kw_984) (List.forall_mem_cons.mpr ⟨kw_981, List.forall_mem_cons.mpr ⟨kw_983, List.forall_mem_cons.mpr ⟨kw_19, List.forall_mem_cons.mpr ⟨kw_250, fun _ h => nomatch h⟩⟩⟩⟩), rfl, by decide +kernel, by decide +kernel, by decide +kernel⟩
theorem kw_1244 : Cond.code yX6_routine cX6_routine 4 (some .int) ∈ gWs := List.mem_filter.mpr ⟨gMt5 _ (List.mem_of_getElem? (i := 47) rfl), rfl⟩
theorem kw_1241 : Cond.methodLink RX6 132 yX6_routine ∈ gWs := List.mem_filter.mpr ⟨gMt5 _ (List.mem_of_getElem? (i := 44) rfl), rfl⟩
theorem kw_1243 : Cond.instanceMethod yX6_routine ∈ gWs := List.mem_filter.mpr ⟨gMt5 _ (List.mem_of_getElem? (i := 46) rfl), rfl⟩
theorem kw_52 : Cond.selects RX6 yX6_routine yX6_routine ∈ gWs := gWm 52 (by decide +kernel) rfl
theorem cl_X6_132 : gCV RX6 132 yX6_routine cX6_routine 4 (some .int) 1 := ⟨g_mk [.methodLink RX6 132 yX6_routine, .instanceMethod yX6_routine, .selects yX6_routine.cls yX6_routine yX6_routine, .initialized yX6_routine.cls] (gWs_all kw_1244) (List.forall_mem_cons.mpr ⟨kw_1241, List.forall_mem_cons.mpr ⟨kw_1243, List.forall_mem_cons.mpr ⟨kw_52, List.forall_mem_cons.mpr ⟨kw_250, fun _ h => nomatch h⟩⟩⟩⟩), rfl, by decide +kernel, by decide +kernel, by decide +kernel⟩
theorem kw_1240 : Cond.code yX6_variables cX6_variables 5 none ∈ gWs := List.mem_filter.mpr ⟨gMt5 _ (List.mem_of_getElem? (i := 43) rfl), rfl⟩
theorem kw_1237 : Cond.methodLink RX6 129 yX6_variables ∈ gWs := List.mem_filter.mpr ⟨gMt5 _ (List.mem_of_getElem? (i := 40) rfl), rfl⟩
theorem kw_1239 : Cond.instanceMethod yX6_variables ∈ gWs := List.mem_filter.mpr ⟨gMt5 _ (List.mem_of_getElem? (i := 42) rfl), rfl⟩
theorem kw_51 : Cond.selects RX6 yX6_variables yX6_variables ∈ gWs := gWm 51 (by decide +kernel) rfl
theorem cl_X6_129 : gCV RX6 129 yX6_variables cX6_variables 5 none 1 := ⟨g_mk [.methodLink RX6 129 yX6_variables, .instanceMethod yX6_variables, .selects yX6_variables.cls yX6_variables yX6_variables, .initialized yX6_variables.cls] (gWs_all kw_1240) (List.forall_mem_cons.mpr ⟨kw_1237, List.forall_mem_cons.mpr ⟨kw_1239, List.forall_mem_cons.mpr ⟨kw_51, List.forall_mem_cons.mpr ⟨kw_250, fun _ h => nomatch h⟩⟩⟩⟩), rfl, by decide +kernel, by decide +kernel, by decide +kernel⟩
theorem kw_1000 : Cond.code yX6_open cX6_open 1 none ∈ gWs := List.mem_filter.mpr ⟨gMt4 _ (List.mem_of_getElem? (i := 43) rfl), rfl⟩
theorem kw_997 : Cond.methodLink RX6 138 yX6_open ∈ gWs := List.mem_filter.mpr ⟨gMt4 _ (List.mem_of_getElem? (i := 40) rfl), rfl⟩
theorem kw_999 : Cond.instanceMethod yX6_open ∈ gWs := List.mem_filter.mpr ⟨gMt4 _ (List.mem_of_getElem? (i := 42) rfl), rfl⟩
theorem kw_23 : Cond.selects RX6 yX6_open yX6_open ∈ gWs := gWm 23 (by decide +kernel) rfl
theorem cl_X6_138 : gCV RX6 138 yX6_open cX6_open 1 none 0 := ⟨g_mk [.methodLink RX6 138 yX6_open, .instanceMethod yX6_open, .selects yX6_open.cls yX6_open yX6_open, .initialized yX6_open.cls] (gWs_all kw_1000) (List.forall_mem_cons.mpr ⟨kw_997, List.forall_mem_cons.mpr ⟨kw_999, List.forall_mem_cons.mpr ⟨kw_23, List.forall_mem_cons.mpr ⟨kw_250, fun _ h => nomatch h⟩⟩⟩⟩), rfl, by decide +kernel, by decide +kernel, by decide +kernel⟩
theorem kw_1137 : Cond.code yX6_close cX6_close 3 none ∈ gWs := List.mem_filter.mpr ⟨gMt4 _ (List.mem_of_getElem? (i := 180) rfl), rfl⟩
theorem kw_1134 : Cond.methodLink RX6 159 yX6_close ∈ gWs := List.mem_filter.mpr ⟨gMt4 _ (List.mem_of_getElem? (i := 177) rfl), rfl⟩
theorem kw_1136 : Cond.instanceMethod yX6_close ∈ gWs := List.mem_filter.mpr ⟨gMt4 _ (List.mem_of_getElem? (i := 179) rfl), rfl⟩
theorem kw_36 : Cond.selects RX6 yX6_close yX6_close ∈ gWs := gWm 36 (by decide +kernel) rfl
theorem cl_X6_159 : gCV RX6 159 yX6_close cX6_close 3 none 0 := ⟨g_mk [.methodLink RX6 159 yX6_close, .instanceMethod yX6_close, .selects yX6_close.cls yX6_close yX6_close, .initialized yX6_close.cls] (gWs_all kw_1137) (List.forall_mem_cons.mpr ⟨kw_1134, List.forall_mem_cons.mpr ⟨kw_1136, List.forall_mem_cons.mpr ⟨kw_36, List.forall_mem_cons.mpr ⟨kw_250, fun _ h => nomatch h⟩⟩⟩⟩), rfl, by decide +kernel, by decide +kernel, by decide +kernel⟩
theorem kw_1082 : Cond.code yX6_nameDue cX6_nameDue 2 (some .int) ∈ gWs := List.mem_filter.mpr ⟨gMt4 _ (List.mem_of_getElem? (i := 125) rfl), rfl⟩
theorem kw_1079 : Cond.methodLink RX6 141 yX6_nameDue ∈ gWs := List.mem_filter.mpr ⟨gMt4 _ (List.mem_of_getElem? (i := 122) rfl), rfl⟩
theorem kw_1081 : Cond.instanceMethod yX6_nameDue ∈ gWs := List.mem_filter.mpr ⟨gMt4 _ (List.mem_of_getElem? (i := 124) rfl), rfl⟩
theorem kw_27 : Cond.selects RX6 yX6_nameDue yX6_nameDue ∈ gWs := gWm 27 (by decide +kernel) rfl
theorem cl_X6_141 : gCV RX6 141 yX6_nameDue cX6_nameDue 2 (some .int) 0 := ⟨g_mk [.methodLink RX6 141 yX6_nameDue, .instanceMethod yX6_nameDue, .selects yX6_nameDue.cls yX6_nameDue yX6_nameDue, .initialized yX6_nameDue.cls] (gWs_all kw_1082) (List.forall_mem_cons.mpr ⟨kw_1079, List.forall_mem_cons.mpr ⟨kw_1081, List.forall_mem_cons.mpr ⟨kw_27, List.forall_mem_cons.mpr ⟨kw_250, fun _ h => nomatch h⟩⟩⟩⟩), rfl, by decide +kernel, by decide +kernel, by decide +kernel⟩
theorem kw_1104 : Cond.code yX6_expression cX6_expression 5 (some .int) ∈ gWs := List.mem_filter.mpr ⟨gMt4 _ (List.mem_of_getElem? (i := 147) rfl), rfl⟩
theorem kw_1101 : Cond.methodLink RX6 156 yX6_expression ∈ gWs := List.mem_filter.mpr ⟨gMt4 _ (List.mem_of_getElem? (i := 144) rfl), rfl⟩
theorem kw_1103 : Cond.instanceMethod yX6_expression ∈ gWs := List.mem_filter.mpr ⟨gMt4 _ (List.mem_of_getElem? (i := 146) rfl), rfl⟩
theorem kw_29 : Cond.selects RX6 yX6_expression yX6_expression ∈ gWs := gWm 29 (by decide +kernel) rfl
theorem cl_X6_156 : gCV RX6 156 yX6_expression cX6_expression 5 (some .int) 0 := ⟨g_mk [.methodLink RX6 156 yX6_expression, .instanceMethod yX6_expression, .selects yX6_expression.cls yX6_expression yX6_expression, .initialized yX6_expression.cls] (gWs_all kw_1104) (List.forall_mem_cons.mpr ⟨kw_1101, List.forall_mem_cons.mpr ⟨kw_1103, List.forall_mem_cons.mpr ⟨kw_29, List.forall_mem_cons.mpr ⟨kw_250, fun _ h => nomatch h⟩⟩⟩⟩), rfl, by decide +kernel, by decide +kernel, by decide +kernel⟩
theorem kw_1087 : Cond.methodLink RX6 144 yX10_data ∈ gWs := List.mem_filter.mpr ⟨gMt4 _ (List.mem_of_getElem? (i := 130) rfl), rfl⟩
theorem cl_X6_144 : gCV RX6 144 yX10_data cX10_data 2 (some .int) 1 := ⟨g_mk [.methodLink RX6 144 yX10_data, .instanceMethod yX10_data, .selects yX10_data.cls yX10_data yX10_data, .initialized yX10_data.cls] (gWs_all kw_1090) (List.forall_mem_cons.mpr ⟨kw_1087, List.forall_mem_cons.mpr ⟨kw_1088, List.forall_mem_cons.mpr ⟨kw_1089, List.forall_mem_cons.mpr ⟨kw_241, fun _ h => nomatch h⟩⟩⟩⟩), rfl, by decide +kernel, by decide +kernel, by decide +kernel⟩
theorem kw_1252 : Cond.code yX7_addRoutine cX7_addRoutine 3 (some .int) ∈ gWs := List.mem_filter.mpr ⟨gMt5 _ (List.mem_of_getElem? (i := 55) rfl), rfl⟩
theorem kw_1249 : Cond.methodLink RX6 178 yX7_addRoutine ∈ gWs := List.mem_filter.mpr ⟨gMt5 _ (List.mem_of_getElem? (i := 52) rfl), rfl⟩
theorem kw_1250 : Cond.instanceMethod yX7_addRoutine ∈ gWs := List.mem_filter.mpr ⟨gMt5 _ (List.mem_of_getElem? (i := 53) rfl), rfl⟩
theorem kw_1251 : Cond.selects RX7 yX7_addRoutine yX7_addRoutine ∈ gWs := List.mem_filter.mpr ⟨gMt5 _ (List.mem_of_getElem? (i := 54) rfl), rfl⟩
theorem cl_X6_178 : gCV RX6 178 yX7_addRoutine cX7_addRoutine 3 (some .int) 1 := ⟨g_mk [.methodLink RX6 178 yX7_addRoutine, .instanceMethod yX7_addRoutine, .selects yX7_addRoutine.cls yX7_addRoutine yX7_addRoutine, .initialized yX7_addRoutine.cls] (gWs_all kw_1252) (List.forall_mem_cons.mpr ⟨kw_1249, List.forall_mem_cons.mpr ⟨kw_1250, List.forall_mem_cons.mpr ⟨kw_1251, List.forall_mem_cons.mpr ⟨kw_240, fun _ h => nomatch h⟩⟩⟩⟩), rfl, by decide +kernel, by decide +kernel, by decide +kernel⟩
theorem kw_1117 : Cond.code yX6_command cX6_command 2 (some .int) ∈ gWs := List.mem_filter.mpr ⟨gMt4 _ (List.mem_of_getElem? (i := 160) rfl), rfl⟩
theorem kw_1114 : Cond.methodLink RX6 190 yX6_command ∈ gWs := List.mem_filter.mpr ⟨gMt4 _ (List.mem_of_getElem? (i := 157) rfl), rfl⟩
theorem kw_1116 : Cond.instanceMethod yX6_command ∈ gWs := List.mem_filter.mpr ⟨gMt4 _ (List.mem_of_getElem? (i := 159) rfl), rfl⟩
theorem kw_32 : Cond.selects RX6 yX6_command yX6_command ∈ gWs := gWm 32 (by decide +kernel) rfl
theorem cl_X6_190 : gCV RX6 190 yX6_command cX6_command 2 (some .int) 0 := ⟨g_mk [.methodLink RX6 190 yX6_command, .instanceMethod yX6_command, .selects yX6_command.cls yX6_command yX6_command, .initialized yX6_command.cls] (gWs_all kw_1117) (List.forall_mem_cons.mpr ⟨kw_1114, List.forall_mem_cons.mpr ⟨kw_1116, List.forall_mem_cons.mpr ⟨kw_32, List.forall_mem_cons.mpr ⟨kw_250, fun _ h => nomatch h⟩⟩⟩⟩), rfl, by decide +kernel, by decide +kernel, by decide +kernel⟩
theorem kw_1189 : Cond.code yX10_setKind cX10_setKind 3 none ∈ gWs := List.mem_filter.mpr ⟨gMt4 _ (List.mem_of_getElem? (i := 232) rfl), rfl⟩
theorem kw_1186 : Cond.methodLink RX6 187 yX10_setKind ∈ gWs := List.mem_filter.mpr ⟨gMt4 _ (List.mem_of_getElem? (i := 229) rfl), rfl⟩
theorem kw_1187 : Cond.instanceMethod yX10_setKind ∈ gWs := List.mem_filter.mpr ⟨gMt4 _ (List.mem_of_getElem? (i := 230) rfl), rfl⟩
theorem kw_1188 : Cond.selects RX10 yX10_setKind yX10_setKind ∈ gWs := List.mem_filter.mpr ⟨gMt4 _ (List.mem_of_getElem? (i := 231) rfl), rfl⟩
theorem cl_X6_187 : gCV RX6 187 yX10_setKind cX10_setKind 3 none 2 := ⟨g_mk [.methodLink RX6 187 yX10_setKind, .instanceMethod yX10_setKind, .selects yX10_setKind.cls yX10_setKind yX10_setKind, .initialized yX10_setKind.cls] (gWs_all kw_1189) (List.forall_mem_cons.mpr ⟨kw_1186, List.forall_mem_cons.mpr ⟨kw_1187, List.forall_mem_cons.mpr ⟨kw_1188, List.forall_mem_cons.mpr ⟨kw_241, fun _ h => nomatch h⟩⟩⟩⟩), rfl, by decide +kernel, by decide +kernel, by decide +kernel⟩
theorem kw_1261 : Cond.code yX6_names cX6_names 3 none ∈ gWs := List.mem_filter.mpr ⟨gMt5 _ (List.mem_of_getElem? (i := 64) rfl), rfl⟩
theorem kw_1258 : Cond.methodLink RX6 184 yX6_names ∈ gWs := List.mem_filter.mpr ⟨gMt5 _ (List.mem_of_getElem? (i := 61) rfl), rfl⟩
theorem kw_1260 : Cond.instanceMethod yX6_names ∈ gWs := List.mem_filter.mpr ⟨gMt5 _ (List.mem_of_getElem? (i := 63) rfl), rfl⟩
theorem kw_54 : Cond.selects RX6 yX6_names yX6_names ∈ gWs := gWm 54 (by decide +kernel) rfl
theorem cl_X6_184 : gCV RX6 184 yX6_names cX6_names 3 none 1 := ⟨g_mk [.methodLink RX6 184 yX6_names, .instanceMethod yX6_names, .selects yX6_names.cls yX6_names yX6_names, .initialized yX6_names.cls] (gWs_all kw_1261) (List.forall_mem_cons.mpr ⟨kw_1258, List.forall_mem_cons.mpr ⟨kw_1260, List.forall_mem_cons.mpr ⟨kw_54, List.forall_mem_cons.mpr ⟨kw_250, fun _ h => nomatch h⟩⟩⟩⟩), rfl, by decide +kernel, by decide +kernel, by decide +kernel⟩
theorem kw_1257 : Cond.code yX7_setStarter cX7_setStarter 2 none ∈ gWs := List.mem_filter.mpr ⟨gMt5 _ (List.mem_of_getElem? (i := 60) rfl), rfl⟩
theorem kw_1254 : Cond.methodLink RX6 181 yX7_setStarter ∈ gWs := List.mem_filter.mpr ⟨gMt5 _ (List.mem_of_getElem? (i := 57) rfl), rfl⟩
theorem kw_1255 : Cond.instanceMethod yX7_setStarter ∈ gWs := List.mem_filter.mpr ⟨gMt5 _ (List.mem_of_getElem? (i := 58) rfl), rfl⟩
theorem kw_1256 : Cond.selects RX7 yX7_setStarter yX7_setStarter ∈ gWs := List.mem_filter.mpr ⟨gMt5 _ (List.mem_of_getElem? (i := 59) rfl), rfl⟩
theorem cl_X6_181 : gCV RX6 181 yX7_setStarter cX7_setStarter 2 none 1 := ⟨g_mk [.methodLink RX6 181 yX7_setStarter, .instanceMethod yX7_setStarter, .selects yX7_setStarter.cls yX7_setStarter yX7_setStarter, .initialized yX7_setStarter.cls] (gWs_all kw_1257) (List.forall_mem_cons.mpr ⟨kw_1254, List.forall_mem_cons.mpr ⟨kw_1255, List.forall_mem_cons.mpr ⟨kw_1256, List.forall_mem_cons.mpr ⟨kw_240, fun _ h => nomatch h⟩⟩⟩⟩), rfl, by decide +kernel, by decide +kernel, by decide +kernel⟩
theorem kw_1248 : Cond.code yX6_isGlobal cX6_isGlobal 3 (some .boolean) ∈ gWs := List.mem_filter.mpr ⟨gMt5 _ (List.mem_of_getElem? (i := 51) rfl), rfl⟩
theorem kw_1245 : Cond.methodLink RX6 175 yX6_isGlobal ∈ gWs := List.mem_filter.mpr ⟨gMt5 _ (List.mem_of_getElem? (i := 48) rfl), rfl⟩
theorem kw_1247 : Cond.instanceMethod yX6_isGlobal ∈ gWs := List.mem_filter.mpr ⟨gMt5 _ (List.mem_of_getElem? (i := 50) rfl), rfl⟩
theorem kw_53 : Cond.selects RX6 yX6_isGlobal yX6_isGlobal ∈ gWs := gWm 53 (by decide +kernel) rfl
theorem cl_X6_175 : gCV RX6 175 yX6_isGlobal cX6_isGlobal 3 (some .boolean) 1 := ⟨g_mk [.methodLink RX6 175 yX6_isGlobal, .instanceMethod yX6_isGlobal, .selects yX6_isGlobal.cls yX6_isGlobal yX6_isGlobal, .initialized yX6_isGlobal.cls] (gWs_all kw_1248) (List.forall_mem_cons.mpr ⟨kw_1245, List.forall_mem_cons.mpr ⟨kw_1247, List.forall_mem_cons.mpr ⟨kw_53, List.forall_mem_cons.mpr ⟨kw_250, fun _ h => nomatch h⟩⟩⟩⟩), rfl, by decide +kernel, by decide +kernel, by decide +kernel⟩
theorem kw_1165 : Cond.code yX10_setData cX10_setData 3 none ∈ gWs := List.mem_filter.mpr ⟨gMt4 _ (List.mem_of_getElem? (i := 208) rfl), rfl⟩
theorem kw_1162 : Cond.methodLink RX6 193 yX10_setData ∈ gWs := List.mem_filter.mpr ⟨gMt4 _ (List.mem_of_getElem? (i := 205) rfl), rfl⟩
theorem kw_1163 : Cond.instanceMethod yX10_setData ∈ gWs := List.mem_filter.mpr ⟨gMt4 _ (List.mem_of_getElem? (i := 206) rfl), rfl⟩
theorem kw_1164 : Cond.selects RX10 yX10_setData yX10_setData ∈ gWs := List.mem_filter.mpr ⟨gMt4 _ (List.mem_of_getElem? (i := 207) rfl), rfl⟩
theorem cl_X6_193 : gCV RX6 193 yX10_setData cX10_setData 3 none 2 := ⟨g_mk [.methodLink RX6 193 yX10_setData, .instanceMethod yX10_setData, .selects yX10_setData.cls yX10_setData yX10_setData, .initialized yX10_setData.cls] (gWs_all kw_1165) (List.forall_mem_cons.mpr ⟨kw_1162, List.forall_mem_cons.mpr ⟨kw_1163, List.forall_mem_cons.mpr ⟨kw_1164, List.forall_mem_cons.mpr ⟨kw_241, fun _ h => nomatch h⟩⟩⟩⟩), rfl, by decide +kernel, by decide +kernel, by decide +kernel⟩
theorem kw_1133 : Cond.code yX6_labels cX6_labels 3 none ∈ gWs := List.mem_filter.mpr ⟨gMt4 _ (List.mem_of_getElem? (i := 176) rfl), rfl⟩
theorem kw_1130 : Cond.methodLink RX6 199 yX6_labels ∈ gWs := List.mem_filter.mpr ⟨gMt4 _ (List.mem_of_getElem? (i := 173) rfl), rfl⟩
theorem kw_1132 : Cond.instanceMethod yX6_labels ∈ gWs := List.mem_filter.mpr ⟨gMt4 _ (List.mem_of_getElem? (i := 175) rfl), rfl⟩
theorem kw_35 : Cond.selects RX6 yX6_labels yX6_labels ∈ gWs := gWm 35 (by decide +kernel) rfl
theorem cl_X6_199 : gCV RX6 199 yX6_labels cX6_labels 3 none 1 := ⟨g_mk [.methodLink RX6 199 yX6_labels, .instanceMethod yX6_labels, .selects yX6_labels.cls yX6_labels yX6_labels, .initialized yX6_labels.cls] (gWs_all kw_1133) (List.forall_mem_cons.mpr ⟨kw_1130, List.forall_mem_cons.mpr ⟨kw_1132, List.forall_mem_cons.mpr ⟨kw_35, List.forall_mem_cons.mpr ⟨kw_250, fun _ h => nomatch h⟩⟩⟩⟩), rfl, by decide +kernel, by decide +kernel, by decide +kernel⟩
theorem kw_1129 : Cond.code yX6_cases cX6_cases 5 none ∈ gWs := List.mem_filter.mpr ⟨gMt4 _ (List.mem_of_getElem? (i := 172) rfl), rfl⟩
theorem kw_1126 : Cond.methodLink RX6 196 yX6_cases ∈ gWs := List.mem_filter.mpr ⟨gMt4 _ (List.mem_of_getElem? (i := 169) rfl), rfl⟩
theorem kw_1128 : Cond.instanceMethod yX6_cases ∈ gWs := List.mem_filter.mpr ⟨gMt4 _ (List.mem_of_getElem? (i := 171) rfl), rfl⟩
theorem kw_34 : Cond.selects RX6 yX6_cases yX6_cases ∈ gWs := gWm 34 (by decide +kernel) rfl
theorem cl_X6_196 : gCV RX6 196 yX6_cases cX6_cases 5 none 1 := ⟨g_mk [.methodLink RX6 196 yX6_cases, .instanceMethod yX6_cases, .selects yX6_cases.cls yX6_cases yX6_cases, .initialized yX6_cases.cls] (gWs_all kw_1129) (List.forall_mem_cons.mpr ⟨kw_1126, List.forall_mem_cons.mpr ⟨kw_1128, List.forall_mem_cons.mpr ⟨kw_34, List.forall_mem_cons.mpr ⟨kw_250, fun _ h => nomatch h⟩⟩⟩⟩), rfl, by decide +kernel, by decide +kernel, by decide +kernel⟩
theorem kw_1121 : Cond.code yX6_section cX6_section 5 (some .int) ∈ gWs := List.mem_filter.mpr ⟨gMt4 _ (List.mem_of_getElem? (i := 164) rfl), rfl⟩
theorem kw_1118 : Cond.methodLink RX6 202 yX6_section ∈ gWs := List.mem_filter.mpr ⟨gMt4 _ (List.mem_of_getElem? (i := 161) rfl), rfl⟩
theorem kw_1120 : Cond.instanceMethod yX6_section ∈ gWs := List.mem_filter.mpr ⟨gMt4 _ (List.mem_of_getElem? (i := 163) rfl), rfl⟩
theorem kw_33 : Cond.selects RX6 yX6_section yX6_section ∈ gWs := gWm 33 (by decide +kernel) rfl
theorem cl_X6_202 : gCV RX6 202 yX6_section cX6_section 5 (some .int) 1 := ⟨g_mk [.methodLink RX6 202 yX6_section, .instanceMethod yX6_section, .selects yX6_section.cls yX6_section yX6_section, .initialized yX6_section.cls] (gWs_all kw_1121) (List.forall_mem_cons.mpr ⟨kw_1118, List.forall_mem_cons.mpr ⟨kw_1120, List.forall_mem_cons.mpr ⟨kw_33, List.forall_mem_cons.mpr ⟨kw_250, fun _ h => nomatch h⟩⟩⟩⟩), rfl, by decide +kernel, by decide +kernel, by decide +kernel⟩
theorem kw_1192 : Cond.code yX6_isRepeat cX6_isRepeat 1 (some .boolean) ∈ gWs := List.mem_filter.mpr ⟨gMt4 _ (List.mem_of_getElem? (i := 235) rfl), rfl⟩
theorem kw_1190 : Cond.methodLink RX6 217 yX6_isRepeat ∈ gWs := List.mem_filter.mpr ⟨gMt4 _ (List.mem_of_getElem? (i := 233) rfl), rfl⟩
theorem kw_1191 : Cond.static yX6_isRepeat ∈ gWs := List.mem_filter.mpr ⟨gMt4 _ (List.mem_of_getElem? (i := 234) rfl), rfl⟩
theorem cl_X6_217 : gCS RX6 217 yX6_isRepeat cX6_isRepeat 1 (some .boolean) 1 := ⟨g_mk [.methodLink RX6 217 yX6_isRepeat, .static yX6_isRepeat, .initialized yX6_isRepeat.cls] (gWs_all kw_1192) (List.forall_mem_cons.mpr ⟨kw_1190, List.forall_mem_cons.mpr ⟨kw_1191, List.forall_mem_cons.mpr ⟨kw_250, fun _ h => nomatch h⟩⟩⟩), ⟨by decide +kernel, by decide +kernel, by decide +kernel⟩⟩
theorem kw_1196 : Cond.code yX6_repeats cX6_repeats 6 (some .int) ∈ gWs := List.mem_filter.mpr ⟨gMt4 _ (List.mem_of_getElem? (i := 239) rfl), rfl⟩
theorem kw_1193 : Cond.methodLink RX6 220 yX6_repeats ∈ gWs := List.mem_filter.mpr ⟨gMt4 _ (List.mem_of_getElem? (i := 236) rfl), rfl⟩
theorem kw_1195 : Cond.instanceMethod yX6_repeats ∈ gWs := List.mem_filter.mpr ⟨gMt4 _ (List.mem_of_getElem? (i := 238) rfl), rfl⟩
theorem kw_44 : Cond.selects RX6 yX6_repeats yX6_repeats ∈ gWs := gWm 44 (by decide +kernel) rfl
theorem cl_X6_220 : gCV RX6 220 yX6_repeats cX6_repeats 6 (some .int) 1 := ⟨g_mk [.methodLink RX6 220 yX6_repeats, .instanceMethod yX6_repeats, .selects yX6_repeats.cls yX6_repeats yX6_repeats, .initialized yX6_repeats.cls] (gWs_all kw_1196) (List.forall_mem_cons.mpr ⟨kw_1193, List.forall_mem_cons.mpr ⟨kw_1195, List.forall_mem_cons.mpr ⟨kw_44, List.forall_mem_cons.mpr ⟨kw_250, fun _ h => nomatch h⟩⟩⟩⟩), rfl, by decide +kernel, by decide +kernel, by decide +kernel⟩
theorem kw_1149 : Cond.code yX6_conditional cX6_conditional 2 (some .int) ∈ gWs := List.mem_filter.mpr ⟨gMt4 _ (List.mem_of_getElem? (i := 192) rfl), rfl⟩
theorem kw_1146 : Cond.methodLink RX6 205 yX6_conditional ∈ gWs := List.mem_filter.mpr ⟨gMt4 _ (List.mem_of_getElem? (i := 189) rfl), rfl⟩
theorem kw_1148 : Cond.instanceMethod yX6_conditional ∈ gWs := List.mem_filter.mpr ⟨gMt4 _ (List.mem_of_getElem? (i := 191) rfl), rfl⟩
theorem kw_38 : Cond.selects RX6 yX6_conditional yX6_conditional ∈ gWs := gWm 38 (by decide +kernel) rfl
theorem cl_X6_205 : gCV RX6 205 yX6_conditional cX6_conditional 2 (some .int) 0 := ⟨g_mk [.methodLink RX6 205 yX6_conditional, .instanceMethod yX6_conditional, .selects yX6_conditional.cls yX6_conditional yX6_conditional, .initialized yX6_conditional.cls] (gWs_all kw_1149) (List.forall_mem_cons.mpr ⟨kw_1146, List.forall_mem_cons.mpr ⟨kw_1148, List.forall_mem_cons.mpr ⟨kw_38, List.forall_mem_cons.mpr ⟨kw_250, fun _ h => nomatch h⟩⟩⟩⟩), rfl, by decide +kernel, by decide +kernel, by decide +kernel⟩
theorem kw_1161 : Cond.code yX6_counting cX6_counting 2 (some .int) ∈ gWs := List.mem_filter.mpr ⟨gMt4 _ (List.mem_of_getElem? (i := 204) rfl), rfl⟩
theorem kw_1158 : Cond.methodLink RX6 208 yX6_counting ∈ gWs := List.mem_filter.mpr ⟨gMt4 _ (List.mem_of_getElem? (i := 201) rfl), rfl⟩
theorem kw_1160 : Cond.instanceMethod yX6_counting ∈ gWs := List.mem_filter.mpr ⟨gMt4 _ (List.mem_of_getElem? (i := 203) rfl), rfl⟩
theorem kw_40 : Cond.selects RX6 yX6_counting yX6_counting ∈ gWs := gWm 40 (by decide +kernel) rfl
theorem cl_X6_208 : gCV RX6 208 yX6_counting cX6_counting 2 (some .int) 0 := ⟨g_mk [.methodLink RX6 208 yX6_counting, .instanceMethod yX6_counting, .selects yX6_counting.cls yX6_counting yX6_counting, .initialized yX6_counting.cls] (gWs_all kw_1161) (List.forall_mem_cons.mpr ⟨kw_1158, List.forall_mem_cons.mpr ⟨kw_1160, List.forall_mem_cons.mpr ⟨kw_40, List.forall_mem_cons.mpr ⟨kw_250, fun _ h => nomatch h⟩⟩⟩⟩), rfl, by decide +kernel, by decide +kernel, by decide +kernel⟩
theorem kw_1169 : Cond.code yX6_switching cX6_switching 2 (some .int) ∈ gWs := List.mem_filter.mpr ⟨gMt4 _ (List.mem_of_getElem? (i := 212) rfl), rfl⟩
theorem kw_1166 : Cond.methodLink RX6 211 yX6_switching ∈ gWs := List.mem_filter.mpr ⟨gMt4 _ (List.mem_of_getElem? (i := 209) rfl), rfl⟩
theorem kw_1168 : Cond.instanceMethod yX6_switching ∈ gWs := List.mem_filter.mpr ⟨gMt4 _ (List.mem_of_getElem? (i := 211) rfl), rfl⟩
theorem kw_41 : Cond.selects RX6 yX6_switching yX6_switching ∈ gWs := gWm 41 (by decide +kernel) rfl
theorem cl_X6_211 : gCV RX6 211 yX6_switching cX6_switching 2 (some .int) 0 := ⟨g_mk [.methodLink RX6 211 yX6_switching, .instanceMethod yX6_switching, .selects yX6_switching.cls yX6_switching yX6_switching, .initialized yX6_switching.cls] (gWs_all kw_1169) (List.forall_mem_cons.mpr ⟨kw_1166, List.forall_mem_cons.mpr ⟨kw_1168, List.forall_mem_cons.mpr ⟨kw_41, List.forall_mem_cons.mpr ⟨kw_250, fun _ h => nomatch h⟩⟩⟩⟩), rfl, by decide +kernel, by decide +kernel, by decide +kernel⟩
theorem kw_1173 : Cond.code yX6_assignment cX6_assignment 4 (some .int) ∈ gWs := List.mem_filter.mpr ⟨gMt4 _ (List.mem_of_getElem? (i := 216) rfl), rfl⟩
theorem kw_1170 : Cond.methodLink RX6 214 yX6_assignment ∈ gWs := List.mem_filter.mpr ⟨gMt4 _ (List.mem_of_getElem? (i := 213) rfl), rfl⟩
theorem kw_1172 : Cond.instanceMethod yX6_assignment ∈ gWs := List.mem_filter.mpr ⟨gMt4 _ (List.mem_of_getElem? (i := 215) rfl), rfl⟩
theorem kw_42 : Cond.selects RX6 yX6_assignment yX6_assignment ∈ gWs := gWm 42 (by decide +kernel) rfl
theorem cl_X6_214 : gCV RX6 214 yX6_assignment cX6_assignment 4 (some .int) 0 := ⟨g_mk [.methodLink RX6 214 yX6_assignment, .instanceMethod yX6_assignment, .selects yX6_assignment.cls yX6_assignment yX6_assignment, .initialized yX6_assignment.cls] (gWs_all kw_1173) (List.forall_mem_cons.mpr ⟨kw_1170, List.forall_mem_cons.mpr ⟨kw_1172, List.forall_mem_cons.mpr ⟨kw_42, List.forall_mem_cons.mpr ⟨kw_250, fun _ h => nomatch h⟩⟩⟩⟩), rfl, by decide +kernel, by decide +kernel, by decide +kernel⟩
theorem kw_1197 : Cond.methodLink RX6 223 yX10_place ∈ gWs := List.mem_filter.mpr ⟨gMt5 _ (List.mem_of_getElem? (i := 0) rfl), rfl⟩
theorem cl_X6_223 : gCV RX6 223 yX10_place cX10_place 2 (some .int) 1 := ⟨g_mk [.methodLink RX6 223 yX10_place, .instanceMethod yX10_place, .selects yX10_place.cls yX10_place yX10_place, .initialized yX10_place.cls] (gWs_all kw_1200) (List.forall_mem_cons.mpr ⟨kw_1197, List.forall_mem_cons.mpr ⟨kw_1198, List.forall_mem_cons.mpr ⟨kw_1199, List.forall_mem_cons.mpr ⟨kw_241, fun _ h => nomatch h⟩⟩⟩⟩), rfl, by decide +kernel, by decide +kernel, by decide +kernel⟩
theorem kw_1153 : Cond.code yX6_passDo cX6_passDo 3 none ∈ gWs := List.mem_filter.mpr ⟨gMt4 _ (List.mem_of_getElem? (i := 196) rfl), rfl⟩
theorem kw_1150 : Cond.methodLink RX6 227 yX6_passDo ∈ gWs := List.mem_filter.mpr ⟨gMt4 _ (List.mem_of_getElem? (i := 193) rfl), rfl⟩
theorem kw_1152 : Cond.instanceMethod yX6_passDo ∈ gWs := List.mem_filter.mpr ⟨gMt4 _ (List.mem_of_getElem? (i := 195) rfl), rfl⟩
theorem kw_39 : Cond.selects RX6 yX6_passDo yX6_passDo ∈ gWs := gWm 39 (by decide +kernel) rfl
theorem cl_X6_227 : gCV RX6 227 yX6_passDo cX6_passDo 3 none 0 := ⟨g_mk [.methodLink RX6 227 yX6_passDo, .instanceMethod yX6_passDo, .selects yX6_passDo.cls yX6_passDo yX6_passDo, .initialized yX6_passDo.cls] (gWs_all kw_1153) (List.forall_mem_cons.mpr ⟨kw_1150, List.forall_mem_cons.mpr ⟨kw_1152, List.forall_mem_cons.mpr ⟨kw_39, List.forall_mem_cons.mpr ⟨kw_250, fun _ h => nomatch h⟩⟩⟩⟩), rfl, by decide +kernel, by decide +kernel, by decide +kernel⟩
theorem kw_1181 : Cond.code yX6_isCall cX6_isCall 3 (some .boolean) ∈ gWs := List.mem_filter.mpr ⟨gMt4 _ (List.mem_of_getElem? (i := 224) rfl), rfl⟩
theorem kw_1178 : Cond.methodLink RX6 233 yX6_isCall ∈ gWs := List.mem_filter.mpr ⟨gMt4 _ (List.mem_of_getElem? (i := 221) rfl), rfl⟩
theorem kw_1180 : Cond.instanceMethod yX6_isCall ∈ gWs := List.mem_filter.mpr ⟨gMt4 _ (List.mem_of_getElem? (i := 223) rfl), rfl⟩
theorem kw_43 : Cond.selects RX6 yX6_isCall yX6_isCall ∈ gWs := gWm 43 (by decide +kernel) rfl
theorem cl_X6_233 : gCV RX6 233 yX6_isCall cX6_isCall 3 (some .boolean) 1 := ⟨g_mk [.methodLink RX6 233 yX6_isCall, .instanceMethod yX6_isCall, .selects yX6_isCall.cls yX6_isCall yX6_isCall, .initialized yX6_isCall.cls] (gWs_all kw_1181) (List.forall_mem_cons.mpr ⟨kw_1178, List.forall_mem_cons.mpr ⟨kw_1180, List.forall_mem_cons.mpr ⟨kw_43, List.forall_mem_cons.mpr ⟨kw_250, fun _ h => nomatch h⟩⟩⟩⟩), rfl, by decide +kernel, by decide +kernel, by decide +kernel⟩
theorem kw_1109 : Cond.code yX6_operand cX6_operand 8 none ∈ gWs := List.mem_filter.mpr ⟨gMt4 _ (List.mem_of_getElem? (i := 152) rfl), rfl⟩
theorem kw_1106 : Cond.methodLink RX6 239 yX6_operand ∈ gWs := List.mem_filter.mpr ⟨gMt4 _ (List.mem_of_getElem? (i := 149) rfl), rfl⟩
theorem kw_1108 : Cond.instanceMethod yX6_operand ∈ gWs := List.mem_filter.mpr ⟨gMt4 _ (List.mem_of_getElem? (i := 151) rfl), rfl⟩
theorem kw_30 : Cond.selects RX6 yX6_operand yX6_operand ∈ gWs := gWm 30 (by decide +kernel) rfl
theorem cl_X6_239 : gCV RX6 239 yX6_operand cX6_operand 8 none 1 := ⟨g_mk [.methodLink RX6 239 yX6_operand, .instanceMethod yX6_operand, .selects yX6_operand.cls yX6_operand yX6_operand, .initialized yX6_operand.cls] (gWs_all kw_1109) (List.forall_mem_cons.mpr ⟨kw_1106, List.forall_mem_cons.mpr ⟨kw_1108, List.forall_mem_cons.mpr ⟨kw_30, List.forall_mem_cons.mpr ⟨kw_250, fun _ h => nomatch h⟩⟩⟩⟩), rfl, by decide +kernel, by decide +kernel, by decide +kernel⟩
theorem kw_1229 : Cond.code yX6_settle cX6_settle 7 none ∈ gWs := List.mem_filter.mpr ⟨gMt5 _ (List.mem_of_getElem? (i := 32) rfl), rfl⟩
theorem kw_1226 : Cond.methodLink RX6 242 yX6_settle ∈ gWs := List.mem_filter.mpr ⟨gMt5 _ (List.mem_of_getElem? (i := 29) rfl), rfl⟩
theorem kw_1228 : Cond.instanceMethod yX6_settle ∈ gWs := List.mem_filter.mpr ⟨gMt5 _ (List.mem_of_getElem? (i := 31) rfl), rfl⟩
theorem kw_50 : Cond.selects RX6 yX6_settle yX6_settle ∈ gWs := gWm 50 (by decide +kernel) rfl
theorem cl_X6_242 : gCV RX6 242 yX6_settle cX6_settle 7 none 3 := ⟨g_mk [.methodLink RX6 242 yX6_settle, .instanceMethod yX6_settle, .selects yX6_settle.cls yX6_settle yX6_settle, .initialized yX6_settle.cls] (gWs_all kw_1229) (List.forall_mem_cons.mpr ⟨kw_1226, List.forall_mem_cons.mpr ⟨kw_1228, List.forall_mem_cons.mpr ⟨kw_50, List.forall_mem_cons.mpr ⟨kw_250, fun _ h => nomatch h⟩⟩⟩⟩), rfl, by decide +kernel, by decide +kernel, by decide +kernel⟩
theorem kw_1113 : Cond.code yX6_passSigns cX6_passSigns 8 none ∈ gWs := List.mem_filter.mpr ⟨gMt4 _ (List.mem_of_getElem? (i := 156) rfl), rfl⟩
theorem kw_1110 : Cond.methodLink RX6 255 yX6_passSigns ∈ gWs := List.mem_filter.mpr ⟨gMt4 _ (List.mem_of_getElem? (i := 153) rfl), rfl⟩
theorem kw_1112 : Cond.instanceMethod yX6_passSigns ∈ gWs := List.mem_filter.mpr ⟨gMt4 _ (List.mem_of_getElem? (i := 155) rfl), rfl⟩
theorem kw_31 : Cond.selects RX6 yX6_passSigns yX6_passSigns ∈ gWs := gWm 31 (by decide +kernel) rfl
theorem cl_X6_255 : gCV RX6 255 yX6_passSigns cX6_passSigns 8 none 1 := ⟨g_mk [.methodLink RX6 255 yX6_passSigns, .instanceMethod yX6_passSigns, .selects yX6_passSigns.cls yX6_passSigns yX6_passSigns, .initialized yX6_passSigns.cls] (gWs_all kw_1113) (List.forall_mem_cons.mpr ⟨kw_1110, List.forall_mem_cons.mpr ⟨kw_1112, List.forall_mem_cons.mpr ⟨kw_31, List.forall_mem_cons.mpr ⟨kw_250, fun _ h => nomatch h⟩⟩⟩⟩), rfl, by decide +kernel, by decide +kernel, by decide +kernel⟩
theorem kw_1224 : Cond.code yX6_hangSigns cX6_hangSigns 8 none ∈ gWs := List.mem_filter.mpr ⟨gMt5 _ (List.mem_of_getElem? (i := 27) rfl), rfl⟩
theorem kw_1221 : Cond.methodLink RX6 265 yX6_hangSigns ∈ gWs := List.mem_filter.mpr ⟨gMt5 _ (List.mem_of_getElem? (i := 24) rfl), rfl⟩
theorem kw_1223 : Cond.instanceMethod yX6_hangSigns ∈ gWs := List.mem_filter.mpr ⟨gMt5 _ (List.mem_of_getElem? (i := 26) rfl), rfl⟩
theorem kw_49 : Cond.selects RX6 yX6_hangSigns yX6_hangSigns ∈ gWs := gWm 49 (by decide +kernel) rfl
theorem cl_X6_265 : gCV RX6 265 yX6_hangSigns cX6_hangSigns 8 none 2 := ⟨g_mk [.methodLink RX6 265 yX6_hangSigns, .instanceMethod yX6_hangSigns, .selects yX6_hangSigns.cls yX6_hangSigns yX6_hangSigns, .initialized yX6_hangSigns.cls] (gWs_all kw_1224) (List.forall_mem_cons.mpr ⟨kw_1221, List.forall_mem_cons.mpr ⟨kw_1223, List.forall_mem_cons.mpr ⟨kw_49, List.forall_mem_cons.mpr ⟨kw_250, fun _ h => nomatch h⟩⟩⟩⟩), rfl, by decide +kernel, by decide +kernel, by decide +kernel⟩
theorem kw_1204 : Cond.code yX6_primary cX6_primary 2 (some .int) ∈ gWs := List.mem_filter.mpr ⟨gMt5 _ (List.mem_of_getElem? (i := 7) rfl), rfl⟩
theorem kw_1201 : Cond.methodLink RX6 259 yX6_primary ∈ gWs := List.mem_filter.mpr ⟨gMt5 _ (List.mem_of_getElem? (i := 4) rfl), rfl⟩
theorem kw_1203 : Cond.instanceMethod yX6_primary ∈ gWs := List.mem_filter.mpr ⟨gMt5 _ (List.mem_of_getElem? (i := 6) rfl), rfl⟩
theorem kw_45 : Cond.selects RX6 yX6_primary yX6_primary ∈ gWs := gWm 45 (by decide +kernel) rfl
theorem cl_X6_259 : gCV RX6 259 yX6_primary cX6_primary 2 (some .int) 0 := ⟨g_mk [.methodLink RX6 259 yX6_primary, .instanceMethod yX6_primary, .selects yX6_primary.cls yX6_primary yX6_primary, .initialized yX6_primary.cls] (gWs_all kw_1204) (List.forall_mem_cons.mpr ⟨kw_1201, List.forall_mem_cons.mpr ⟨kw_1203, List.forall_mem_cons.mpr ⟨kw_45, List.forall_mem_cons.mpr ⟨kw_250, fun _ h => nomatch h⟩⟩⟩⟩), rfl, by decide +kernel, by decide +kernel, by decide +kernel⟩
theorem kw_1220 : Cond.code yX6_calls cX6_calls 9 (some .int) ∈ gWs := List.mem_filter.mpr ⟨gMt5 _ (List.mem_of_getElem? (i := 23) rfl), rfl⟩
theorem kw_1217 : Cond.methodLink RX6 262 yX6_calls ∈ gWs := List.mem_filter.mpr ⟨gMt5 _ (List.mem_of_getElem? (i := 20) rfl), rfl⟩
theorem kw_1219 : Cond.instanceMethod yX6_calls ∈ gWs := List.mem_filter.mpr ⟨gMt5 _ (List.mem_of_getElem? (i := 22) rfl), rfl⟩
theorem kw_48 : Cond.selects RX6 yX6_calls yX6_calls ∈ gWs := gWm 48 (by decide +kernel) rfl
theorem cl_X6_262 : gCV RX6 262 yX6_calls cX6_calls 9 (some .int) 1 := ⟨g_mk [.methodLink RX6 262 yX6_calls, .instanceMethod yX6_calls, .selects yX6_calls.cls yX6_calls yX6_calls, .initialized yX6_calls.cls] (gWs_all kw_1220) (List.forall_mem_cons.mpr ⟨kw_1217, List.forall_mem_cons.mpr ⟨kw_1219, List.forall_mem_cons.mpr ⟨kw_48, List.forall_mem_cons.mpr ⟨kw_250, fun _ h => nomatch h⟩⟩⟩⟩), rfl, by decide +kernel, by decide +kernel, by decide +kernel⟩
theorem kw_1208 : Cond.code yX6_pack cX6_pack 7 (some .int) ∈ gWs := List.mem_filter.mpr ⟨gMt5 _ (List.mem_of_getElem? (i := 11) rfl), rfl⟩
theorem kw_1205 : Cond.methodLink RX6 268 yX6_pack ∈ gWs := List.mem_filter.mpr ⟨gMt5 _ (List.mem_of_getElem? (i := 8) rfl), rfl⟩
theorem kw_1207 : Cond.instanceMethod yX6_pack ∈ gWs := List.mem_filter.mpr ⟨gMt5 _ (List.mem_of_getElem? (i := 10) rfl), rfl⟩
theorem kw_46 : Cond.selects RX6 yX6_pack yX6_pack ∈ gWs := gWm 46 (by decide +kernel) rfl
theorem cl_X6_268 : gCV RX6 268 yX6_pack cX6_pack 7 (some .int) 1 := ⟨g_mk [.methodLink RX6 268 yX6_pack, .instanceMethod yX6_pack, .selects yX6_pack.cls yX6_pack yX6_pack, .initialized yX6_pack.cls] (gWs_all kw_1208) (List.forall_mem_cons.mpr ⟨kw_1205, List.forall_mem_cons.mpr ⟨kw_1207, List.forall_mem_cons.mpr ⟨kw_46, List.forall_mem_cons.mpr ⟨kw_250, fun _ h => nomatch h⟩⟩⟩⟩), rfl, by decide +kernel, by decide +kernel, by decide +kernel⟩
theorem kw_1216 : Cond.code yX6_table cX6_table 4 (some .int) ∈ gWs := List.mem_filter.mpr ⟨gMt5 _ (List.mem_of_getElem? (i := 19) rfl), rfl⟩
theorem kw_1213 : Cond.methodLink RX6 271 yX6_table ∈ gWs := List.mem_filter.mpr ⟨gMt5 _ (List.mem_of_getElem? (i := 16) rfl), rfl⟩
theorem kw_1215 : Cond.instanceMethod yX6_table ∈ gWs := List.mem_filter.mpr ⟨gMt5 _ (List.mem_of_getElem? (i := 18) rfl), rfl⟩
theorem kw_47 : Cond.selects RX6 yX6_table yX6_table ∈ gWs := gWm 47 (by decide +kernel) rfl
theorem cl_X6_271 : gCV RX6 271 yX6_table cX6_table 4 (some .int) 0 := ⟨g_mk [.methodLink RX6 271 yX6_table, .instanceMethod yX6_table, .selects yX6_table.cls yX6_table yX6_table, .initialized yX6_table.cls] (gWs_all kw_1216) (List.forall_mem_cons.mpr ⟨kw_1213, List.forall_mem_cons.mpr ⟨kw_1215, List.forall_mem_cons.mpr ⟨kw_47, List.forall_mem_cons.mpr ⟨kw_250, fun _ h => nomatch h⟩⟩⟩⟩), rfl, by decide +kernel, by decide +kernel, by decide +kernel⟩
/-! the class as formulas: parser, what is below -/
theorem dX6_root_0 : decode cX6_root 0 = .ok (.aload_n 0, 1) := by decide +kernel
theorem dX6_root_1 : decode cX6_root 1 = .ok (.getfield 34, 3) := by decide +kernel
theorem dX6_root_4 : decode cX6_root 4 = .ok (.ireturn, 1) := by decide +kernel
def wc_Parser_root (A0 : cS)  (Q : Int → cS → Prop) : Prop :=
  Q (yv A0 12) A0
set_option maxHeartbeats 4000000 in
set_option maxRecDepth 100000 in
theorem cm_Parser_root (l : Launch) (d : gD) (b : Nat) {Y : gYt} {c : Nat × Nat} {F : gM} {k n : Nat} {S : gSt} {A0 : cS}   {Q : Int → cS → Prop} (hZ : yZ d b Y c F S (F, k, n) S A0) (hw : wc_Parser_root A0  Q) : hMi l d b yX6_root cX6_root 1 .int 0 k n F [.ref (gO' Y 4)] (yPi d b Y c F S Q) := by
  intro mc ms
  refine hM_of2 rfl (nL := 1) (Nat.le_of_ble_eq_true rfl) ?_
  intro X hX hC hr ho; subst hX
  show yG X d b (yQi X d b Y c F S mc ms Q) (F, k, n) 0 [some (.ref (gO' Y 4))] []
  unfold wc_Parser_root at hw
  refine h_aload_n hC dX6_root_0 rfl ?_
  refine h_get hC fl_X6_34 (hZ.w.o 4 (by decide)) rfl dX6_root_1 ?_
  refine yr_sv (e := (yv A0 12)) hZ 12 rfl ?_
  exact yr_iret hC hr ho hZ (hZ.rv 12) hw dX6_root_4
theorem dX6_place_0 : decode cX6_place 0 = .ok (.aload_n 0, 1) := by decide +kernel
theorem dX6_place_1 : decode cX6_place 1 = .ok (.getfield 53, 3) := by decide +kernel
theorem dX6_place_4 : decode cX6_place 4 = .ok (.aload_n 0, 1) := by decide +kernel
theorem dX6_place_5 : decode cX6_place 5 = .ok (.getfield 27, 3) := by decide +kernel
theorem dX6_place_8 : decode cX6_place 8 = .ok (.invokevirtual 82, 3) := by decide +kernel
theorem dX6_place_11 : decode cX6_place 11 = .ok (.ireturn, 1) := by decide +kernel
def wc_Parser_place (A0 : cS)  (Q : Int → cS → Prop) : Prop :=
  Q (yget A0 16 (yv A0 10)) A0
set_option maxHeartbeats 4000000 in
set_option maxRecDepth 100000 in
theorem cm_Parser_place (l : Launch) (d : gD) (b : Nat) {Y : gYt} {c : Nat × Nat} {F : gM} {k n : Nat} {S : gSt} {A0 : cS}   {Q : Int → cS → Prop} (hZ : yZ d b Y c F S (F, k, n) S A0) (hw : wc_Parser_place A0  Q) : hMi l d b yX6_place cX6_place 1 .int 1 k n F [.ref (gO' Y 4)] (yPi d b Y c F S Q) := by
  intro mc ms
  refine hM_of2 rfl (nL := 1) (Nat.le_of_ble_eq_true rfl) ?_
  intro X hX hC hr ho; subst hX
  show yG X d b (yQi X d b Y c F S mc ms Q) (F, k, n) 0 [some (.ref (gO' Y 4))] []
  unfold wc_Parser_place at hw
  refine h_aload_n hC dX6_place_0 rfl ?_
  refine h_get hC fl_X6_53 (hZ.w.o 4 (by decide)) rfl dX6_place_1 ?_
  refine h_aload_n hC dX6_place_4 rfl ?_
  refine h_get hC fl_X6_27 (hZ.w.o 4 (by decide)) rfl dX6_place_5 ?_
  refine yr_sv (e := (yv A0 10)) hZ 10 rfl ?_
  refine yr_get (j := 16) (e := (yget A0 16 (yv A0 10))) hC hr ho hZ (by decide) (hZ.rv 10) rfl cl_X6_82 rfl (Nat.le_of_ble_eq_true rfl) (hFr_of (Nat.le_of_ble_eq_true rfl) (Nat.le_of_ble_eq_true rfl)) dX6_place_8 ?_
  exact yr_iret hC hr ho hZ (hZ.rg 16 _) hw dX6_place_11
theorem dX6_kind_0 : decode cX6_kind 0 = .ok (.aload_n 0, 1) := by decide +kernel
theorem dX6_kind_1 : decode cX6_kind 1 = .ok (.getfield 43, 3) := by decide +kernel
theorem dX6_kind_4 : decode cX6_kind 4 = .ok (.aload_n 0, 1) := by decide +kernel
theorem dX6_kind_5 : decode cX6_kind 5 = .ok (.getfield 27, 3) := by decide +kernel
theorem dX6_kind_8 : decode cX6_kind 8 = .ok (.invokevirtual 82, 3) := by decide +kernel
theorem dX6_kind_11 : decode cX6_kind 11 = .ok (.ireturn, 1) := by decide +kernel
def wc_Parser_kind (A0 : cS)  (Q : Int → cS → Prop) : Prop :=
  Q (yget A0 14 (yv A0 10)) A0
set_option maxHeartbeats 4000000 in
set_option maxRecDepth 100000 in
theorem cm_Parser_kind (l : Launch) (d : gD) (b : Nat) {Y : gYt} {c : Nat × Nat} {F : gM} {k n : Nat} {S : gSt} {A0 : cS}   {Q : Int → cS → Prop} (hZ : yZ d b Y c F S (F, k, n) S A0) (hw : wc_Parser_kind A0  Q) : hMi l d b yX6_kind cX6_kind 1 .int 1 k n F [.ref (gO' Y 4)] (yPi d b Y c F S Q) := by
  intro mc ms
  refine hM_of2 rfl (nL := 1) (Nat.le_of_ble_eq_true rfl) ?_
  intro X hX hC hr ho; subst hX
  show yG X d b (yQi X d b Y c F S mc ms Q) (F, k, n) 0 [some (.ref (gO' Y 4))] []
  unfold wc_Parser_kind at hw
  refine h_aload_n hC dX6_kind_0 rfl ?_
  refine h_get hC fl_X6_43 (hZ.w.o 4 (by decide)) rfl dX6_kind_1 ?_
  refine h_aload_n hC dX6_kind_4 rfl ?_
  refine h_get hC fl_X6_27 (hZ.w.o 4 (by decide)) rfl dX6_kind_5 ?_
  refine yr_sv (e := (yv A0 10)) hZ 10 rfl ?_
  refine yr_get (j := 14) (e := (yget A0 14 (yv A0 10))) hC hr ho hZ (by decide) (hZ.rv 10) rfl cl_X6_82 rfl (Nat.le_of_ble_eq_true rfl) (hFr_of (Nat.le_of_ble_eq_true rfl) (Nat.le_of_ble_eq_true rfl)) dX6_kind_8 ?_
  exact yr_iret hC hr ho hZ (hZ.rg 14 _) hw dX6_kind_11
theorem dX6_info_0 : decode cX6_info 0 = .ok (.aload_n 0, 1) := by decide +kernel
theorem dX6_info_1 : decode cX6_info 1 = .ok (.getfield 48, 3) := by decide +kernel
theorem dX6_info_4 : decode cX6_info 4 = .ok (.aload_n 0, 1) := by decide +kernel
theorem dX6_info_5 : decode cX6_info 5 = .ok (.getfield 27, 3) := by decide +kernel
theorem dX6_info_8 : decode cX6_info 8 = .ok (.invokevirtual 82, 3) := by decide +kernel
theorem dX6_info_11 : decode cX6_info 11 = .ok (.ireturn, 1) := by decide +kernel
def wc_Parser_info (A0 : cS)  (Q : Int → cS → Prop) : Prop :=
  Q (yget A0 15 (yv A0 10)) A0
set_option maxHeartbeats 4000000 in
set_option maxRecDepth 100000 in
theorem cm_Parser_info (l : Launch) (d : gD) (b : Nat) {Y : gYt} {c : Nat × Nat} {F : gM} {k n : Nat} {S : gSt} {A0 : cS}   {Q : Int → cS → Prop} (hZ : yZ d b Y c F S (F, k, n) S A0) (hw : wc_Parser_info A0  Q) : hMi l d b yX6_info cX6_info 1 .int 1 k n F [.ref (gO' Y 4)] (yPi d b Y c F S Q) := by
  intro mc ms
  refine hM_of2 rfl (nL := 1) (Nat.le_of_ble_eq_true rfl) ?_
  intro X hX hC hr ho; subst hX
  show yG X d b (yQi X d b Y c F S mc ms Q) (F, k, n) 0 [some (.ref (gO' Y 4))] []
  unfold wc_Parser_info at hw
  refine h_aload_n hC dX6_info_0 rfl ?_
  refine h_get hC fl_X6_48 (hZ.w.o 4 (by decide)) rfl dX6_info_1 ?_
  refine h_aload_n hC dX6_info_4 rfl ?_
  refine h_get hC fl_X6_27 (hZ.w.o 4 (by decide)) rfl dX6_info_5 ?_
  refine yr_sv (e := (yv A0 10)) hZ 10 rfl ?_
  refine yr_get (j := 15) (e := (yget A0 15 (yv A0 10))) hC hr ho hZ (by decide) (hZ.rv 10) rfl cl_X6_82 rfl (Nat.le_of_ble_eq_true rfl) (hFr_of (Nat.le_of_ble_eq_true rfl) (Nat.le_of_ble_eq_true rfl)) dX6_info_8 ?_
  exact yr_iret hC hr ho hZ (hZ.rg 15 _) hw dX6_info_11
theorem dX6_advance_0 : decode cX6_advance 0 = .ok (.aload_n 0, 1) := by decide +kernel
theorem dX6_advance_1 : decode cX6_advance 1 = .ok (.getfield 43, 3) := by decide +kernel
theorem dX6_advance_4 : decode cX6_advance 4 = .ok (.aload_n 0, 1) := by decide +kernel
theorem dX6_advance_5 : decode cX6_advance 5 = .ok (.getfield 27, 3) := by decide +kernel
theorem dX6_advance_8 : decode cX6_advance 8 = .ok (.invokevirtual 82, 3) := by decide +kernel
theorem dX6_advance_11 : decode cX6_advance 11 = .ok (.ifCond .eq 13, 3) := by decide +kernel
theorem dX6_advance_14 : decode cX6_advance 14 = .ok (.aload_n 0, 1) := by decide +kernel
theorem dX6_advance_15 : decode cX6_advance 15 = .ok (.dup, 1) := by decide +kernel
theorem dX6_advance_16 : decode cX6_advance 16 = .ok (.getfield 27, 3) := by decide +kernel
theorem dX6_advance_19 : decode cX6_advance 19 = .ok (.iconst 1, 1) := by decide +kernel
theorem dX6_advance_20 : decode cX6_advance 20 = .ok (.iadd, 1) := by decide +kernel
theorem dX6_advance_21 : decode cX6_advance 21 = .ok (.putfield 27, 3) := by decide +kernel
theorem dX6_advance_24 : decode cX6_advance 24 = .ok (.return_, 1) := by decide +kernel
def wc_Parser_advance (A0 : cS)  (Q : cS → Prop) : Prop :=
  (((yget A0 14 (yv A0 10)) = 0 → Q A0) ∧ (¬ (yget A0 14 (yv A0 10)) = 0 → (zR ((yv A0 10) + 1)) ∧ Q (ypv A0 10 ((yv A0 10) + 1))))
set_option maxHeartbeats 4000000 in
set_option maxRecDepth 100000 in
theorem cm_Parser_advance (l : Launch) (d : gD) (b : Nat) {Y : gYt} {c : Nat × Nat} {F : gM} {k n : Nat} {S : gSt} {A0 : cS}   {Q : cS → Prop} (hZ : yZ d b Y c F S (F, k, n) S A0) (hw : wc_Parser_advance A0  Q) : hMv l d b yX6_advance cX6_advance 1 1 k n F [.ref (gO' Y 4)] (yPv d b Y c F S Q) := by
  intro mc ms
  refine hM_of2 rfl (nL := 1) (Nat.le_of_ble_eq_true rfl) ?_
  intro X hX hC hr ho; subst hX
  show yG X d b (yQv X d b Y c F S mc ms Q) (F, k, n) 0 [some (.ref (gO' Y 4))] []
  unfold wc_Parser_advance at hw
  refine h_aload_n hC dX6_advance_0 rfl ?_
  refine h_get hC fl_X6_43 (hZ.w.o 4 (by decide)) rfl dX6_advance_1 ?_
  refine h_aload_n hC dX6_advance_4 rfl ?_
  refine h_get hC fl_X6_27 (hZ.w.o 4 (by decide)) rfl dX6_advance_5 ?_
  refine yr_sv (e := (yv A0 10)) hZ 10 rfl ?_
  refine yr_get (j := 14) (e := (yget A0 14 (yv A0 10))) hC hr ho hZ (by decide) (hZ.rv 10) rfl cl_X6_82 rfl (Nat.le_of_ble_eq_true rfl) (hFr_of (Nat.le_of_ble_eq_true rfl) (Nat.le_of_ble_eq_true rfl)) dX6_advance_8 ?_
  refine yr_if_eq (tgt := 24) hC (hZ.rg 14 _) dX6_advance_11 (by decide) (fun c1 => ?_) (fun c1 => ?_)
  · have h2 := hw.1 c1
    exact yr_vret hC hr ho hZ h2 dX6_advance_24
  · have h3 := hw.2 c1
    refine h_aload_n hC dX6_advance_14 rfl ?_
    refine h_dup hC dX6_advance_15 rfl ?_
    refine h_get hC fl_X6_27 (hZ.w.o 4 (by decide)) rfl dX6_advance_16 ?_
    refine yr_sv (e := (yv A0 10)) hZ 10 rfl ?_
    refine h_iconst (v := zI 1) hC dX6_advance_19 rfl ?_
    refine yr_iadd hC dX6_advance_20 ?_
    obtain ⟨o4, h5⟩ := h3
    refine hi_putx (i := 4) (kx := 10) hC hZ.hi (by decide) fl_X6_27 rfl rfl rfl (Nat.le_of_ble_eq_true rfl) rfl gsame_10 (fun q => absurd q (by decide)) dX6_advance_21 (fun F6 S7 I8 K9 s10 v11 p12 => ?_)
    have hZ13 := hZ.put I8 K9 s10 v11 o4 rfl
    clear I8 K9 s10 v11 p12
    refine yr_nu ho hZ13 (fun u14 o15 hZ16 => ?_)
    exact yr_vret hC hr o15 hZ16 h5 dX6_advance_24
theorem dX6_leaf_0 : decode cX6_leaf 0 = .ok (.aload_n 0, 1) := by decide +kernel
theorem dX6_leaf_1 : decode cX6_leaf 1 = .ok (.getfield 60, 3) := by decide +kernel
theorem dX6_leaf_4 : decode cX6_leaf 4 = .ok (.iload_n 1, 1) := by decide +kernel
theorem dX6_leaf_5 : decode cX6_leaf 5 = .ok (.aload_n 0, 1) := by decide +kernel
theorem dX6_leaf_6 : decode cX6_leaf 6 = .ok (.invokevirtual 112, 3) := by decide +kernel
theorem dX6_leaf_9 : decode cX6_leaf 9 = .ok (.aload_n 0, 1) := by decide +kernel
theorem dX6_leaf_10 : decode cX6_leaf 10 = .ok (.invokevirtual 106, 3) := by decide +kernel
theorem dX6_leaf_13 : decode cX6_leaf 13 = .ok (.invokevirtual 115, 3) := by decide +kernel
theorem dX6_leaf_16 : decode cX6_leaf 16 = .ok (.istore_n 2, 1) := by decide +kernel
theorem dX6_leaf_17 : decode cX6_leaf 17 = .ok (.aload_n 0, 1) := by decide +kernel
theorem dX6_leaf_18 : decode cX6_leaf 18 = .ok (.invokevirtual 103, 3) := by decide +kernel
theorem dX6_leaf_21 : decode cX6_leaf 21 = .ok (.iload_n 2, 1) := by decide +kernel
theorem dX6_leaf_22 : decode cX6_leaf 22 = .ok (.ireturn, 1) := by decide +kernel
def wc_Parser_leaf (A0 : cS) (a0 : Int) (Q : Int → cS → Prop) : Prop :=
  wc_Parser_place A0  (fun r1 A2 => wc_Parser_info A2  (fun r9 A10 => wc_Tree_node A10 a0 r1 r9 (fun r17 A18 => wc_Parser_advance A18  (fun A26 => Q r17 A26))))
set_option maxHeartbeats 4000000 in
set_option maxRecDepth 100000 in
theorem cm_Parser_leaf (l : Launch) (d : gD) (b : Nat) {Y : gYt} {c : Nat × Nat} {F : gM} {k n : Nat} {S : gSt} {A0 : cS} {a0 : Int} (Ra0 : zR a0) {Q : Int → cS → Prop} (hZ : yZ d b Y c F S (F, k, n) S A0) (hw : wc_Parser_leaf A0 a0 Q) : hMi l d b yX6_leaf cX6_leaf 3 .int 4 k n F [.ref (gO' Y 4), .int (zI a0)] (yPi d b Y c F S Q) := by
  intro mc ms
  refine hM_of2 rfl (nL := 3) (Nat.le_of_ble_eq_true rfl) ?_
  intro X hX hC hr ho; subst hX
  show yG X d b (yQi X d b Y c F S mc ms Q) (F, k, n) 0 [some (.ref (gO' Y 4)), some (.int (zI a0)), none] []
  unfold wc_Parser_leaf at hw
  refine h_aload_n hC dX6_leaf_0 rfl ?_
  refine h_get hC fl_X6_60 (hZ.w.o 4 (by decide)) rfl dX6_leaf_1 ?_
  refine h_iload_n hC dX6_leaf_4 rfl ?_
  refine h_aload_n hC dX6_leaf_5 rfl ?_
  refine yr_callVi (As := []) hC hr ho hZ rfl (hZ.w.o 4 (by decide)) (cm_Parser_place X.la d b  hZ.rs hw) cl_X6_112 rfl rfl (Nat.le_of_ble_eq_true rfl) (hFr_of (Nat.le_of_ble_eq_true rfl) (Nat.le_of_ble_eq_true rfl)) dX6_leaf_6 (fun r1 A2 u3 S4 R5 o6 hZ7 h8 => ?_)
  refine h_aload_n hC dX6_leaf_9 rfl ?_
  refine yr_callVi (As := []) hC hr o6 hZ7 rfl (hZ7.w.o 4 (by decide)) (cm_Parser_info X.la d b  hZ7.rs h8) cl_X6_106 rfl rfl (Nat.le_of_ble_eq_true rfl) (hFr_of (Nat.le_of_ble_eq_true rfl) (Nat.le_of_ble_eq_true rfl)) dX6_leaf_10 (fun r9 A10 u11 S12 R13 o14 hZ15 h16 => ?_)
  refine yr_callVi (As := [.int (zI a0), .int (zI r1), .int (zI r9)]) hC hr o14 hZ15 rfl (hZ15.w.o 2 (by decide)) (cm_Tree_node X.la d b Ra0 R5 R13 hZ15.rs h16) cl_X6_115 rfl rfl (Nat.le_of_ble_eq_true rfl) (hFr_of (Nat.le_of_ble_eq_true rfl) (Nat.le_of_ble_eq_true rfl)) dX6_leaf_13 (fun r17 A18 u19 S20 R21 o22 hZ23 h24 => ?_)
  refine h_istore_n (lv' := [some (.ref (gO' Y 4)), some (.int (zI a0)), some (.int (zI r17))]) hC dX6_leaf_16 (Nat.le_of_ble_eq_true rfl) rfl rfl ?_
  refine h_aload_n hC dX6_leaf_17 rfl ?_
  refine yr_callVv (As := []) hC hr o22 hZ23 rfl (hZ23.w.o 4 (by decide)) (cm_Parser_advance X.la d b  hZ23.rs h24) cl_X6_103 rfl rfl (Nat.le_of_ble_eq_true rfl) (hFr_of (Nat.le_of_ble_eq_true rfl) (Nat.le_of_ble_eq_true rfl)) dX6_leaf_18 (fun A26 u27 S28 o30 hZ31 h32 => ?_)
  refine h_iload_n hC dX6_leaf_21 rfl ?_
  exact yr_iret hC hr o30 hZ31 R21 h32 dX6_leaf_22
theorem dX6_labels_0 : decode cX6_labels 0 = .ok (.iconst 0, 1) := by decide +kernel
theorem dX6_labels_1 : decode cX6_labels 1 = .ok (.istore_n 2, 1) := by decide +kernel
theorem dX6_labels_2 : decode cX6_labels 2 = .ok (.iload_n 2, 1) := by decide +kernel
theorem dX6_labels_3 : decode cX6_labels 3 = .ok (.ldc 11, 2) := by decide +kernel
theorem dX6_labels_5 : decode cX6_labels 5 = .ok (.if_icmp .ge 53, 3) := by decide +kernel
theorem dX6_labels_8 : decode cX6_labels 8 = .ok (.aload_n 0, 1) := by decide +kernel
theorem dX6_labels_9 : decode cX6_labels 9 = .ok (.invokevirtual 97, 3) := by decide +kernel
theorem dX6_labels_12 : decode cX6_labels 12 = .ok (.iconst 2, 1) := by decide +kernel
theorem dX6_labels_13 : decode cX6_labels 13 = .ok (.if_icmp .ne 45, 3) := by decide +kernel
theorem dX6_labels_16 : decode cX6_labels 16 = .ok (.aload_n 0, 1) := by decide +kernel
theorem dX6_labels_17 : decode cX6_labels 17 = .ok (.getfield 43, 3) := by decide +kernel
theorem dX6_labels_20 : decode cX6_labels 20 = .ok (.aload_n 0, 1) := by decide +kernel
theorem dX6_labels_21 : decode cX6_labels 21 = .ok (.getfield 27, 3) := by decide +kernel
theorem dX6_labels_24 : decode cX6_labels 24 = .ok (.iconst 1, 1) := by decide +kernel
theorem dX6_labels_25 : decode cX6_labels 25 = .ok (.iadd, 1) := by decide +kernel
theorem dX6_labels_26 : decode cX6_labels 26 = .ok (.invokevirtual 82, 3) := by decide +kernel
theorem dX6_labels_29 : decode cX6_labels 29 = .ok (.bipush 12, 2) := by decide +kernel
theorem dX6_labels_31 : decode cX6_labels 31 = .ok (.if_icmp .ne 27, 3) := by decide +kernel
theorem dX6_labels_34 : decode cX6_labels 34 = .ok (.aload_n 0, 1) := by decide +kernel
theorem dX6_labels_35 : decode cX6_labels 35 = .ok (.getfield 60, 3) := by decide +kernel
theorem dX6_labels_38 : decode cX6_labels 38 = .ok (.iload_n 1, 1) := by decide +kernel
theorem dX6_labels_39 : decode cX6_labels 39 = .ok (.aload_n 0, 1) := by decide +kernel
theorem dX6_labels_40 : decode cX6_labels 40 = .ok (.bipush 99, 2) := by decide +kernel
theorem dX6_labels_42 : decode cX6_labels 42 = .ok (.invokevirtual 135, 3) := by decide +kernel
theorem dX6_labels_45 : decode cX6_labels 45 = .ok (.invokevirtual 123, 3) := by decide +kernel
theorem dX6_labels_48 : decode cX6_labels 48 = .ok (.aload_n 0, 1) := by decide +kernel
theorem dX6_labels_49 : decode cX6_labels 49 = .ok (.invokevirtual 103, 3) := by decide +kernel
theorem dX6_labels_52 : decode cX6_labels 52 = .ok (.iinc 2 1, 3) := by decide +kernel
theorem dX6_labels_55 : decode cX6_labels 55 = .ok (.goto (-53), 3) := by decide +kernel
theorem dX6_labels_58 : decode cX6_labels 58 = .ok (.return_, 1) := by decide +kernel
def wc_Parser_labels_2B (Q : cS → Prop) (k2 : cS → Int → Int → Prop) (A0 : cS) (x1 : Int) (x2 : Int) : Prop :=
  ((1000000 ≤ x2 → Q A0) ∧ (¬ 1000000 ≤ x2 → wc_Parser_kind A0  (fun r4 A5 => ((¬ r4 = 2 → Q A5) ∧ (r4 = 2 → (zR ((yv A5 10) + 1)) ∧ ((¬ (yget A5 14 ((yv A5 10) + 1)) = 12 → Q A5) ∧ ((yget A5 14 ((yv A5 10) + 1)) = 12 → wc_Parser_leaf A5 99 (fun r20 A21 => wc_Tree_hang A21 x1 r20 (fun A29 => wc_Parser_advance A29  (fun A37 => (zR (x2 + 1)) ∧ k2 A37 x1 (x2 + 1)))))))))))
def wc_Parser_labels_2 (Q : cS → Prop)  : Nat → cS → Int → Int → Prop
  | 0 => fun _ _ _ => False
  | m + 1 => fun A0 x1 x2 => wc_Parser_labels_2B Q  (wc_Parser_labels_2 Q  m) A0 x1 x2
def wc_Parser_labels (A0 : cS) (a0 : Int) (Q : cS → Prop) : Prop :=
  ∃ n, wc_Parser_labels_2 Q  n A0 a0 0
set_option maxHeartbeats 4000000 in
set_option maxRecDepth 100000 in
theorem cb_Parser_labels_2 {X : gX} {d : gD} {b : Nat} {Y : gYt} {c : Nat × Nat} {F0 : gM} {S0 : gSt} {mc ms : Nat} (hC : gC RX6 cX6_labels 3 none "labels" (gR 5 mc ms) d b X) (hr : hRm X b) {Q : cS → Prop} {k2 : cS → Int → Int → Prop} (hk2 : ∀ (u : hU) (S : gSt) (A0 : cS) (x1 : Int) (x2 : Int), zR x1 → zR x2 → yOk X b u → yZ d b Y c F0 S0 u S A0 → k2 A0 x1 x2 → yG X d b (yQv X d b Y c F0 S0 mc ms Q) u 2 [some (.ref (gO' Y 4)), some (.int (zI x1)), some (.int (zI x2))] []) {u : hU} {S : gSt} {A0 : cS} {x1 : Int} {x2 : Int} (Rx1 : zR x1) (Rx2 : zR x2) (ho : yOk X b u) (hZ : yZ d b Y c F0 S0 u S A0) (hw : wc_Parser_labels_2B Q k2 A0 x1 x2) : yG X d b (yQv X d b Y c F0 S0 mc ms Q) u 2 [some (.ref (gO' Y 4)), some (.int (zI x1)), some (.int (zI x2))] [] := by
  unfold wc_Parser_labels_2B at hw
  refine h_iload_n hC dX6_labels_2 rfl ?_
  refine yr_ldc (e := 1000000) hC dX6_labels_3 kw_514 (by decide) ?_
  refine yr_icmp_ge (tgt := 58) hC Rx2 (by decide) dX6_labels_5 (by decide) (fun c1 => ?_) (fun c1 => ?_)
  · have h2 := hw.1 c1
    exact yr_vret hC hr ho hZ h2 dX6_labels_58
  · have h3 := hw.2 c1
    refine h_aload_n hC dX6_labels_8 rfl ?_
    refine yr_callVi (As := []) hC hr ho hZ rfl (hZ.w.o 4 (by decide)) (cm_Parser_kind X.la d b  hZ.rs h3) cl_X6_97 rfl rfl (Nat.le_of_ble_eq_true rfl) (hFr_of (Nat.le_of_ble_eq_true rfl) (Nat.le_of_ble_eq_true rfl)) dX6_labels_9 (fun r4 A5 u6 S7 R8 o9 hZ10 h11 => ?_)
    refine h_iconst (v := zI 2) hC dX6_labels_12 rfl ?_
    refine yr_icmp_ne (tgt := 58) hC R8 (by decide) dX6_labels_13 (by decide) (fun c12 => ?_) (fun c12 => ?_)
    · have h13 := h11.1 c12
      exact yr_vret hC hr o9 hZ10 h13 dX6_labels_58
    · have h14 := h11.2 c12
      refine h_aload_n hC dX6_labels_16 rfl ?_
      refine h_get hC fl_X6_43 (hZ10.w.o 4 (by decide)) rfl dX6_labels_17 ?_
      refine h_aload_n hC dX6_labels_20 rfl ?_
      refine h_get hC fl_X6_27 (hZ10.w.o 4 (by decide)) rfl dX6_labels_21 ?_
      refine yr_sv (e := (yv A5 10)) hZ10 10 rfl ?_
      refine h_iconst (v := zI 1) hC dX6_labels_24 rfl ?_
      refine yr_iadd hC dX6_labels_25 ?_
      obtain ⟨o15, h16⟩ := h14
      refine yr_get (j := 14) (e := (yget A5 14 ((yv A5 10) + 1))) hC hr o9 hZ10 (by decide) o15 rfl cl_X6_82 rfl (Nat.le_of_ble_eq_true rfl) (hFr_of (Nat.le_of_ble_eq_true rfl) (Nat.le_of_ble_eq_true rfl)) dX6_labels_26 ?_
      refine h_bipush (v := zI 12) hC dX6_labels_29 rfl ?_
      refine yr_icmp_ne (tgt := 58) hC (hZ10.rg 14 _) (by decide) dX6_labels_31 (by decide) (fun c17 => ?_) (fun c17 => ?_)
      · have h18 := h16.1 c17
        exact yr_vret hC hr o9 hZ10 h18 dX6_labels_58
      · have h19 := h16.2 c17
        refine h_aload_n hC dX6_labels_34 rfl ?_
        refine h_get hC fl_X6_60 (hZ10.w.o 4 (by decide)) rfl dX6_labels_35 ?_
        refine h_iload_n hC dX6_labels_38 rfl ?_
        refine h_aload_n hC dX6_labels_39 rfl ?_
        refine h_bipush (v := zI 99) hC dX6_labels_40 rfl ?_
        refine yr_callVi (As := [.int (zI 99)]) hC hr o9 hZ10 rfl (hZ10.w.o 4 (by decide)) (cm_Parser_leaf X.la d b (by decide) hZ10.rs h19) cl_X6_135 rfl rfl (Nat.le_of_ble_eq_true rfl) (hFr_of (Nat.le_of_ble_eq_true rfl) (Nat.le_of_ble_eq_true rfl)) dX6_labels_42 (fun r20 A21 u22 S23 R24 o25 hZ26 h27 => ?_)
        refine yr_callVv (As := [.int (zI x1), .int (zI r20)]) hC hr o25 hZ26 rfl (hZ26.w.o 2 (by decide)) (cm_Tree_hang X.la d b Rx1 R24 hZ26.rs h27) cl_X6_123 rfl rfl (Nat.le_of_ble_eq_true rfl) (hFr_of (Nat.le_of_ble_eq_true rfl) (Nat.le_of_ble_eq_true rfl)) dX6_labels_45 (fun A29 u30 S31 o33 hZ34 h35 => ?_)
        refine h_aload_n hC dX6_labels_48 rfl ?_
        refine yr_callVv (As := []) hC hr o33 hZ34 rfl (hZ34.w.o 4 (by decide)) (cm_Parser_advance X.la d b  hZ34.rs h35) cl_X6_103 rfl rfl (Nat.le_of_ble_eq_true rfl) (hFr_of (Nat.le_of_ble_eq_true rfl) (Nat.le_of_ble_eq_true rfl)) dX6_labels_49 (fun A37 u38 S39 o41 hZ42 h43 => ?_)
        refine yr_iinc (x := x2) (lv' := [some (.ref (gO' Y 4)), some (.int (zI x1)), some (.int (zI (x2 + 1)))]) hC dX6_labels_52 rfl rfl rfl ?_
        refine h_goto (tgt := 2) hC dX6_labels_55 (by decide) ?_
        obtain ⟨o44, h45⟩ := h43
        exact hk2 _ _ _ _ _ Rx1 o44 o41 hZ42 h45
theorem cl_Parser_labels_2 {X : gX} {d : gD} {b : Nat} {Y : gYt} {c : Nat × Nat} {F0 : gM} {S0 : gSt} {mc ms : Nat} (hC : gC RX6 cX6_labels 3 none "labels" (gR 5 mc ms) d b X) (hr : hRm X b) {Q : cS → Prop}   : ∀ (m : Nat) (u : hU) (S : gSt) (A0 : cS) (x1 : Int) (x2 : Int), zR x1 → zR x2 → yOk X b u → yZ d b Y c F0 S0 u S A0 → wc_Parser_labels_2 Q  m A0 x1 x2 → yG X d b (yQv X d b Y c F0 S0 mc ms Q) u 2 [some (.ref (gO' Y 4)), some (.int (zI x1)), some (.int (zI x2))] [] := by
  intro m
  induction m with
  | zero => intro u S A0 x1 x2 Rx1 Rx2 ho hZ hw; exact False.elim hw
  | succ m ihm => intro u S A0 x1 x2 Rx1 Rx2 ho hZ hw; exact cb_Parser_labels_2 hC hr  ihm Rx1 Rx2 ho hZ hw
set_option maxHeartbeats 4000000 in
set_option maxRecDepth 100000 in
theorem cm_Parser_labels (l : Launch) (d : gD) (b : Nat) {Y : gYt} {c : Nat × Nat} {F : gM} {k n : Nat} {S : gSt} {A0 : cS} {a0 : Int} (Ra0 : zR a0) {Q : cS → Prop} (hZ : yZ d b Y c F S (F, k, n) S A0) (hw : wc_Parser_labels A0 a0 Q) : hMv l d b yX6_labels cX6_labels 3 5 k n F [.ref (gO' Y 4), .int (zI a0)] (yPv d b Y c F S Q) := by
  intro mc ms
  refine hM_of2 rfl (nL := 3) (Nat.le_of_ble_eq_true rfl) ?_
  intro X hX hC hr ho; subst hX
  show yG X d b (yQv X d b Y c F S mc ms Q) (F, k, n) 0 [some (.ref (gO' Y 4)), some (.int (zI a0)), none] []
  unfold wc_Parser_labels at hw
  refine h_iconst (v := zI 0) hC dX6_labels_0 rfl ?_
  refine h_istore_n (lv' := [some (.ref (gO' Y 4)), some (.int (zI a0)), some (.int (zI 0))]) hC dX6_labels_1 (Nat.le_of_ble_eq_true rfl) rfl rfl ?_
  obtain ⟨m1, h2⟩ := hw
  exact cl_Parser_labels_2 hC hr  m1 _ _ _ _ _ Ra0 (by decide) ho hZ h2
theorem dX6_isOpen_0 : decode cX6_isOpen 0 = .ok (.iconst 0, 1) := by decide +kernel
theorem dX6_isOpen_1 : decode cX6_isOpen 1 = .ok (.istore_n 2, 1) := by decide +kernel
theorem dX6_isOpen_2 : decode cX6_isOpen 2 = .ok (.iload_n 2, 1) := by decide +kernel
theorem dX6_isOpen_3 : decode cX6_isOpen 3 = .ok (.aload_n 0, 1) := by decide +kernel
theorem dX6_isOpen_4 : decode cX6_isOpen 4 = .ok (.getfield 15, 3) := by decide +kernel
theorem dX6_isOpen_7 : decode cX6_isOpen 7 = .ok (.invokevirtual 172, 3) := by decide +kernel
theorem dX6_isOpen_10 : decode cX6_isOpen 10 = .ok (.if_icmp .ge 23, 3) := by decide +kernel
theorem dX6_isOpen_13 : decode cX6_isOpen 13 = .ok (.aload_n 0, 1) := by decide +kernel
theorem dX6_isOpen_14 : decode cX6_isOpen 14 = .ok (.getfield 15, 3) := by decide +kernel
theorem dX6_isOpen_17 : decode cX6_isOpen 17 = .ok (.iload_n 2, 1) := by decide +kernel
theorem dX6_isOpen_18 : decode cX6_isOpen 18 = .ok (.invokevirtual 82, 3) := by decide +kernel
theorem dX6_isOpen_21 : decode cX6_isOpen 21 = .ok (.iload_n 1, 1) := by decide +kernel
theorem dX6_isOpen_22 : decode cX6_isOpen 22 = .ok (.if_icmp .ne 5, 3) := by decide +kernel
theorem dX6_isOpen_25 : decode cX6_isOpen 25 = .ok (.iconst 1, 1) := by decide +kernel
theorem dX6_isOpen_26 : decode cX6_isOpen 26 = .ok (.ireturn, 1) := by decide +kernel
theorem dX6_isOpen_27 : decode cX6_isOpen 27 = .ok (.iinc 2 1, 3) := by decide +kernel
theorem dX6_isOpen_30 : decode cX6_isOpen 30 = .ok (.goto (-28), 3) := by decide +kernel
theorem dX6_isOpen_33 : decode cX6_isOpen 33 = .ok (.iconst 0, 1) := by decide +kernel
theorem dX6_isOpen_34 : decode cX6_isOpen 34 = .ok (.ireturn, 1) := by decide +kernel
def wc_Parser_isOpen_2B (Q : Int → cS → Prop) (k2 : cS → Int → Int → Prop) (A0 : cS) (x1 : Int) (x2 : Int) : Prop :=
  ((((yz A0 21 : Nat) : Int) ≤ x2 → Q 0 A0) ∧ (¬ ((yz A0 21 : Nat) : Int) ≤ x2 → ((¬ (yget A0 21 x2) = x1 → (zR (x2 + 1)) ∧ k2 A0 x1 (x2 + 1)) ∧ ((yget A0 21 x2) = x1 → Q 1 A0))))
def wc_Parser_isOpen_2 (Q : Int → cS → Prop)  : Nat → cS → Int → Int → Prop
  | 0 => fun _ _ _ => False
  | m + 1 => fun A0 x1 x2 => wc_Parser_isOpen_2B Q  (wc_Parser_isOpen_2 Q  m) A0 x1 x2
def wc_Parser_isOpen (A0 : cS) (a0 : Int) (Q : Int → cS → Prop) : Prop :=
  ∃ n, wc_Parser_isOpen_2 Q  n A0 a0 0
set_option maxHeartbeats 4000000 in
set_option maxRecDepth 100000 in
theorem cb_Parser_isOpen_2 {X : gX} {d : gD} {b : Nat} {Y : gYt} {c : Nat × Nat} {F0 : gM} {S0 : gSt} {mc ms : Nat} (hC : gC RX6 cX6_isOpen 3 (some .boolean) "isOpen" (gR 1 mc ms) d b X) (hr : hRm X b) {Q : Int → cS → Prop} {k2 : cS → Int → Int → Prop} (hk2 : ∀ (u : hU) (S : gSt) (A0 : cS) (x1 : Int) (x2 : Int), zR x1 → zR x2 → yOk X b u → yZ d b Y c F0 S0 u S A0 → k2 A0 x1 x2 → yG X d b (yQi X d b Y c F0 S0 mc ms Q) u 2 [some (.ref (gO' Y 4)), some (.int (zI x1)), some (.int (zI x2))] []) {u : hU} {S : gSt} {A0 : cS} {x1 : Int} {x2 : Int} (Rx1 : zR x1) (Rx2 : zR x2) (ho : yOk X b u) (hZ : yZ d b Y c F0 S0 u S A0) (hw : wc_Parser_isOpen_2B Q k2 A0 x1 x2) : yG X d b (yQi X d b Y c F0 S0 mc ms Q) u 2 [some (.ref (gO' Y 4)), some (.int (zI x1)), some (.int (zI x2))] [] := by
  unfold wc_Parser_isOpen_2B at hw
  refine h_iload_n hC dX6_isOpen_2 rfl ?_
  refine h_aload_n hC dX6_isOpen_3 rfl ?_
  refine h_get hC fl_X6_15 (hZ.w.o 4 (by decide)) rfl dX6_isOpen_4 ?_
  refine yr_size (j := 21) (e := ((yz A0 21 : Nat) : Int)) hC hr ho hZ (by decide) rfl cl_X6_172 rfl (Nat.le_of_ble_eq_true rfl) (hFr_of (Nat.le_of_ble_eq_true rfl) (Nat.le_of_ble_eq_true rfl)) dX6_isOpen_7 ?_
  refine yr_icmp_ge (tgt := 33) hC Rx2 (hZ.rz (j := 21) (by decide)) dX6_isOpen_10 (by decide) (fun c1 => ?_) (fun c1 => ?_)
  · have h2 := hw.1 c1
    refine h_iconst (v := zI 0) hC dX6_isOpen_33 rfl ?_
    exact yr_zret hC hr ho hZ (Or.inl rfl) h2 dX6_isOpen_34
  · have h3 := hw.2 c1
    refine h_aload_n hC dX6_isOpen_13 rfl ?_
    refine h_get hC fl_X6_15 (hZ.w.o 4 (by decide)) rfl dX6_isOpen_14 ?_
    refine h_iload_n hC dX6_isOpen_17 rfl ?_
    refine yr_get (j := 21) (e := (yget A0 21 x2)) hC hr ho hZ (by decide) Rx2 rfl cl_X6_82 rfl (Nat.le_of_ble_eq_true rfl) (hFr_of (Nat.le_of_ble_eq_true rfl) (Nat.le_of_ble_eq_true rfl)) dX6_isOpen_18 ?_
    refine h_iload_n hC dX6_isOpen_21 rfl ?_
    refine yr_icmp_ne (tgt := 27) hC (hZ.rg 21 _) Rx1 dX6_isOpen_22 (by decide) (fun c4 => ?_) (fun c4 => ?_)
    · have h5 := h3.1 c4
      refine yr_iinc (x := x2) (lv' := [some (.ref (gO' Y 4)), some (.int (zI x1)), some (.int (zI (x2 + 1)))]) hC dX6_isOpen_27 rfl rfl rfl ?_
      refine h_goto (tgt := 2) hC dX6_isOpen_30 (by decide) ?_
      obtain ⟨o6, h7⟩ := h5
      exact hk2 _ _ _ _ _ Rx1 o6 ho hZ h7
    · have h8 := h3.2 c4
      refine h_iconst (v := zI 1) hC dX6_isOpen_25 rfl ?_
      exact yr_zret hC hr ho hZ (Or.inr rfl) h8 dX6_isOpen_26
theorem cl_Parser_isOpen_2 {X : gX} {d : gD} {b : Nat} {Y : gYt} {c : Nat × Nat} {F0 : gM} {S0 : gSt} {mc ms : Nat} (hC : gC RX6 cX6_isOpen 3 (some .boolean) "isOpen" (gR 1 mc ms) d b X) (hr : hRm X b) {Q : Int → cS → Prop}   : ∀ (m : Nat) (u : hU) (S : gSt) (A0 : cS) (x1 : Int) (x2 : Int), zR x1 → zR x2 → yOk X b u → yZ d b Y c F0 S0 u S A0 → wc_Parser_isOpen_2 Q  m A0 x1 x2 → yG X d b (yQi X d b Y c F0 S0 mc ms Q) u 2 [some (.ref (gO' Y 4)), some (.int (zI x1)), some (.int (zI x2))] [] := by
  intro m
  induction m with
  | zero => intro u S A0 x1 x2 Rx1 Rx2 ho hZ hw; exact False.elim hw
  | succ m ihm => intro u S A0 x1 x2 Rx1 Rx2 ho hZ hw; exact cb_Parser_isOpen_2 hC hr  ihm Rx1 Rx2 ho hZ hw
set_option maxHeartbeats 4000000 in
set_option maxRecDepth 100000 in
theorem cm_Parser_isOpen (l : Launch) (d : gD) (b : Nat) {Y : gYt} {c : Nat × Nat} {F : gM} {k n : Nat} {S : gSt} {A0 : cS} {a0 : Int} (Ra0 : zR a0) {Q : Int → cS → Prop} (hZ : yZ d b Y c F S (F, k, n) S A0) (hw : wc_Parser_isOpen A0 a0 Q) : hMi l d b yX6_isOpen cX6_isOpen 3 .boolean 1 k n F [.ref (gO' Y 4), .int (zI a0)] (yPi d b Y c F S Q) := by
  intro mc ms
  refine hM_of2 rfl (nL := 3) (Nat.le_of_ble_eq_true rfl) ?_
  intro X hX hC hr ho; subst hX
  show yG X d b (yQi X d b Y c F S mc ms Q) (F, k, n) 0 [some (.ref (gO' Y 4)), some (.int (zI a0)), none] []
  unfold wc_Parser_isOpen at hw
  refine h_iconst (v := zI 0) hC dX6_isOpen_0 rfl ?_
  refine h_istore_n (lv' := [some (.ref (gO' Y 4)), some (.int (zI a0)), some (.int (zI 0))]) hC dX6_isOpen_1 (Nat.le_of_ble_eq_true rfl) rfl rfl ?_
  obtain ⟨m1, h2⟩ := hw
  exact cl_Parser_isOpen_2 hC hr  m1 _ _ _ _ _ Ra0 (by decide) ho hZ h2
theorem dX6_isCall_0 : decode cX6_isCall 0 = .ok (.aload_n 0, 1) := by decide +kernel
theorem dX6_isCall_1 : decode cX6_isCall 1 = .ok (.getfield 60, 3) := by decide +kernel
theorem dX6_isCall_4 : decode cX6_isCall 4 = .ok (.iload_n 1, 1) := by decide +kernel
theorem dX6_isCall_5 : decode cX6_isCall 5 = .ok (.invokevirtual 230, 3) := by decide +kernel
theorem dX6_isCall_8 : decode cX6_isCall 8 = .ok (.istore_n 2, 1) := by decide +kernel
theorem dX6_isCall_9 : decode cX6_isCall 9 = .ok (.aload_n 0, 1) := by decide +kernel
theorem dX6_isCall_10 : decode cX6_isCall 10 = .ok (.getfield 60, 3) := by decide +kernel
theorem dX6_isCall_13 : decode cX6_isCall 13 = .ok (.iload_n 2, 1) := by decide +kernel
theorem dX6_isCall_14 : decode cX6_isCall 14 = .ok (.invokevirtual 225, 3) := by decide +kernel
theorem dX6_isCall_17 : decode cX6_isCall 17 = .ok (.bipush 83, 2) := by decide +kernel
theorem dX6_isCall_19 : decode cX6_isCall 19 = .ok (.if_icmp .ne 18, 3) := by decide +kernel
theorem dX6_isCall_22 : decode cX6_isCall 22 = .ok (.aload_n 0, 1) := by decide +kernel
theorem dX6_isCall_23 : decode cX6_isCall 23 = .ok (.getfield 60, 3) := by decide +kernel
theorem dX6_isCall_26 : decode cX6_isCall 26 = .ok (.iload_n 2, 1) := by decide +kernel
theorem dX6_isCall_27 : decode cX6_isCall 27 = .ok (.invokevirtual 236, 3) := by decide +kernel
theorem dX6_isCall_30 : decode cX6_isCall 30 = .ok (.ifCond .ne 7, 3) := by decide +kernel
theorem dX6_isCall_33 : decode cX6_isCall 33 = .ok (.iconst 1, 1) := by decide +kernel
theorem dX6_isCall_34 : decode cX6_isCall 34 = .ok (.goto 4, 3) := by decide +kernel
theorem dX6_isCall_37 : decode cX6_isCall 37 = .ok (.iconst 0, 1) := by decide +kernel
theorem dX6_isCall_38 : decode cX6_isCall 38 = .ok (.ireturn, 1) := by decide +kernel
def wc_Parser_isCall (A0 : cS) (a0 : Int) (Q : Int → cS → Prop) : Prop :=
  wc_Tree_first A0 a0 (fun r1 A2 => wc_Tree_kind A2 r1 (fun r9 A10 => ((¬ r9 = 83 → Q 0 A10) ∧ (r9 = 83 → wc_Tree_next A10 r1 (fun r20 A21 => ((¬ r20 = 0 → Q 0 A21) ∧ (r20 = 0 → Q 1 A21)))))))
set_option maxHeartbeats 4000000 in
set_option maxRecDepth 100000 in
theorem cm_Parser_isCall (l : Launch) (d : gD) (b : Nat) {Y : gYt} {c : Nat × Nat} {F : gM} {k n : Nat} {S : gSt} {A0 : cS} {a0 : Int} (Ra0 : zR a0) {Q : Int → cS → Prop} (hZ : yZ d b Y c F S (F, k, n) S A0) (hw : wc_Parser_isCall A0 a0 Q) : hMi l d b yX6_isCall cX6_isCall 3 .boolean 2 k n F [.ref (gO' Y 4), .int (zI a0)] (yPi d b Y c F S Q) := by
  intro mc ms
  refine hM_of2 rfl (nL := 3) (Nat.le_of_ble_eq_true rfl) ?_
  intro X hX hC hr ho; subst hX
  show yG X d b (yQi X d b Y c F S mc ms Q) (F, k, n) 0 [some (.ref (gO' Y 4)), some (.int (zI a0)), none] []
  unfold wc_Parser_isCall at hw
  refine h_aload_n hC dX6_isCall_0 rfl ?_
  refine h_get hC fl_X6_60 (hZ.w.o 4 (by decide)) rfl dX6_isCall_1 ?_
  refine h_iload_n hC dX6_isCall_4 rfl ?_
  refine yr_callVi (As := [.int (zI a0)]) hC hr ho hZ rfl (hZ.w.o 2 (by decide)) (cm_Tree_first X.la d b Ra0 hZ.rs hw) cl_X6_230 rfl rfl (Nat.le_of_ble_eq_true rfl) (hFr_of (Nat.le_of_ble_eq_true rfl) (Nat.le_of_ble_eq_true rfl)) dX6_isCall_5 (fun r1 A2 u3 S4 R5 o6 hZ7 h8 => ?_)
  refine h_istore_n (lv' := [some (.ref (gO' Y 4)), some (.int (zI a0)), some (.int (zI r1))]) hC dX6_isCall_8 (Nat.le_of_ble_eq_true rfl) rfl rfl ?_
  refine h_aload_n hC dX6_isCall_9 rfl ?_
  refine h_get hC fl_X6_60 (hZ7.w.o 4 (by decide)) rfl dX6_isCall_10 ?_
  refine h_iload_n hC dX6_isCall_13 rfl ?_
  refine yr_callVi (As := [.int (zI r1)]) hC hr o6 hZ7 rfl (hZ7.w.o 2 (by decide)) (cm_Tree_kind X.la d b R5 hZ7.rs h8) cl_X6_225 rfl rfl (Nat.le_of_ble_eq_true rfl) (hFr_of (Nat.le_of_ble_eq_true rfl) (Nat.le_of_ble_eq_true rfl)) dX6_isCall_14 (fun r9 A10 u11 S12 R13 o14 hZ15 h16 => ?_)
  refine h_bipush (v := zI 83) hC dX6_isCall_17 rfl ?_
  refine yr_icmp_ne (tgt := 37) hC R13 (by decide) dX6_isCall_19 (by decide) (fun c17 => ?_) (fun c17 => ?_)
  · have h18 := h16.1 c17
    refine h_iconst (v := zI 0) hC dX6_isCall_37 rfl ?_
    exact yr_zret hC hr o14 hZ15 (Or.inl rfl) h18 dX6_isCall_38
  · have h19 := h16.2 c17
    refine h_aload_n hC dX6_isCall_22 rfl ?_
    refine h_get hC fl_X6_60 (hZ15.w.o 4 (by decide)) rfl dX6_isCall_23 ?_
    refine h_iload_n hC dX6_isCall_26 rfl ?_
    refine yr_callVi (As := [.int (zI r1)]) hC hr o14 hZ15 rfl (hZ15.w.o 2 (by decide)) (cm_Tree_next X.la d b R5 hZ15.rs h19) cl_X6_236 rfl rfl (Nat.le_of_ble_eq_true rfl) (hFr_of (Nat.le_of_ble_eq_true rfl) (Nat.le_of_ble_eq_true rfl)) dX6_isCall_27 (fun r20 A21 u22 S23 R24 o25 hZ26 h27 => ?_)
    refine yr_if_ne (tgt := 37) hC R24 dX6_isCall_30 (by decide) (fun c28 => ?_) (fun c28 => ?_)
    · have h29 := h27.1 c28
      refine h_iconst (v := zI 0) hC dX6_isCall_37 rfl ?_
      exact yr_zret hC hr o25 hZ26 (Or.inl rfl) h29 dX6_isCall_38
    · have h30 := h27.2 c28
      refine h_iconst (v := zI 1) hC dX6_isCall_33 rfl ?_
      refine h_goto (tgt := 38) hC dX6_isCall_34 (by decide) ?_
      exact yr_zret hC hr o25 hZ26 (Or.inr rfl) h30 dX6_isCall_38
def wc_Parser_isRepeat (A0 : cS) (a0 : Int) (Q : Int → cS → Prop) : Prop :=
  ((a0 < 67 → Q 0 A0) ∧ (¬ a0 < 67 → ((69 < a0 → Q 0 A0) ∧ (¬ 69 < a0 → Q 1 A0))))
set_option maxHeartbeats 4000000 in
set_option maxRecDepth 100000 in
theorem cm_Parser_isRepeat (l : Launch) (d : gD) (b : Nat) {Y : gYt} {c : Nat × Nat} {F : gM} {k n : Nat} {S : gSt} {A0 : cS} {a0 : Int} (Ra0 : zR a0) {Q : Int → cS → Prop} (hZ : yZ d b Y c F S (F, k, n) S A0) (hw : wc_Parser_isRepeat A0 a0 Q) : hMi l d b yX6_isRepeat cX6_isRepeat 1 .boolean 0 k n F [.int (zI a0)] (yPi d b Y c F S Q) := by
  intro mc ms
  refine hM_of2 rfl (nL := 1) (Nat.le_of_ble_eq_true rfl) ?_
  intro X hX hC hr ho; subst hX
  show yG X d b (yQi X d b Y c F S mc ms Q) (F, k, n) 0 [some (.int (zI a0))] []
  unfold wc_Parser_isRepeat at hw
  refine h_iload_n hC dX6_isRepeat_0 rfl ?_
  refine h_bipush (v := zI 67) hC dX6_isRepeat_1 rfl ?_
  refine yr_icmp_lt (tgt := 16) hC Ra0 (by decide) dX6_isRepeat_3 (by decide) (fun c1 => ?_) (fun c1 => ?_)
  · have h2 := hw.1 c1
    refine h_iconst (v := zI 0) hC dX6_isRepeat_16 rfl ?_
    exact yr_zret hC hr ho hZ (Or.inl rfl) h2 dX6_isRepeat_17
  · have h3 := hw.2 c1
    refine h_iload_n hC dX6_isRepeat_6 rfl ?_
    refine h_bipush (v := zI 69) hC dX6_isRepeat_7 rfl ?_
    refine yr_icmp_gt (tgt := 16) hC Ra0 (by decide) dX6_isRepeat_9 (by decide) (fun c4 => ?_) (fun c4 => ?_)
    · have h5 := h3.1 c4
      refine h_iconst (v := zI 0) hC dX6_isRepeat_16 rfl ?_
      exact yr_zret hC hr ho hZ (Or.inl rfl) h5 dX6_isRepeat_17
    · have h6 := h3.2 c4
      refine h_iconst (v := zI 1) hC dX6_isRepeat_12 rfl ?_
      refine h_goto (tgt := 17) hC dX6_isRepeat_13 (by decide) ?_
      exact yr_zret hC hr ho hZ (Or.inr rfl) h6 dX6_isRepeat_17
theorem dX6_pack_0 : decode cX6_pack 0 = .ok (.aload_n 0, 1) := by decide +kernel
theorem dX6_pack_1 : decode cX6_pack 1 = .ok (.getfield 58, 3) := by decide +kernel
theorem dX6_pack_4 : decode cX6_pack 4 = .ok (.iload_n 1, 1) := by decide +kernel
theorem dX6_pack_5 : decode cX6_pack 5 = .ok (.invokevirtual 82, 3) := by decide +kernel
theorem dX6_pack_8 : decode cX6_pack 8 = .ok (.istore_n 2, 1) := by decide +kernel
theorem dX6_pack_9 : decode cX6_pack 9 = .ok (.aload_n 0, 1) := by decide +kernel
theorem dX6_pack_10 : decode cX6_pack 10 = .ok (.getfield 64, 3) := by decide +kernel
theorem dX6_pack_13 : decode cX6_pack 13 = .ok (.invokevirtual 274, 3) := by decide +kernel
theorem dX6_pack_16 : decode cX6_pack 16 = .ok (.istore_n 3, 1) := by decide +kernel
theorem dX6_pack_17 : decode cX6_pack 17 = .ok (.iconst 0, 1) := by decide +kernel
theorem dX6_pack_18 : decode cX6_pack 18 = .ok (.istore 4, 2) := by decide +kernel
theorem dX6_pack_20 : decode cX6_pack 20 = .ok (.iload 4, 2) := by decide +kernel
theorem dX6_pack_22 : decode cX6_pack 22 = .ok (.iload_n 2, 1) := by decide +kernel
theorem dX6_pack_23 : decode cX6_pack 23 = .ok (.if_icmp .gt 71, 3) := by decide +kernel
theorem dX6_pack_26 : decode cX6_pack 26 = .ok (.iconst 0, 1) := by decide +kernel
theorem dX6_pack_27 : decode cX6_pack 27 = .ok (.istore 5, 2) := by decide +kernel
theorem dX6_pack_29 : decode cX6_pack 29 = .ok (.iconst 0, 1) := by decide +kernel
theorem dX6_pack_30 : decode cX6_pack 30 = .ok (.istore 6, 2) := by decide +kernel
theorem dX6_pack_32 : decode cX6_pack 32 = .ok (.iload 6, 2) := by decide +kernel
theorem dX6_pack_34 : decode cX6_pack 34 = .ok (.iconst 4, 1) := by decide +kernel
theorem dX6_pack_35 : decode cX6_pack 35 = .ok (.if_icmp .ge 43, 3) := by decide +kernel
theorem dX6_pack_38 : decode cX6_pack 38 = .ok (.iload 4, 2) := by decide +kernel
theorem dX6_pack_40 : decode cX6_pack 40 = .ok (.iload 6, 2) := by decide +kernel
theorem dX6_pack_42 : decode cX6_pack 42 = .ok (.iadd, 1) := by decide +kernel
theorem dX6_pack_43 : decode cX6_pack 43 = .ok (.iload_n 2, 1) := by decide +kernel
theorem dX6_pack_44 : decode cX6_pack 44 = .ok (.if_icmp .gt 34, 3) := by decide +kernel
theorem dX6_pack_47 : decode cX6_pack 47 = .ok (.iload 5, 2) := by decide +kernel
theorem dX6_pack_49 : decode cX6_pack 49 = .ok (.aload_n 0, 1) := by decide +kernel
theorem dX6_pack_50 : decode cX6_pack 50 = .ok (.getfield 58, 3) := by decide +kernel
theorem dX6_pack_53 : decode cX6_pack 53 = .ok (.iload_n 1, 1) := by decide +kernel
theorem dX6_pack_54 : decode cX6_pack 54 = .ok (.iload 4, 2) := by decide +kernel
theorem dX6_pack_56 : decode cX6_pack 56 = .ok (.iadd, 1) := by decide +kernel
theorem dX6_pack_57 : decode cX6_pack 57 = .ok (.iload 6, 2) := by decide +kernel
theorem dX6_pack_59 : decode cX6_pack 59 = .ok (.iadd, 1) := by decide +kernel
theorem dX6_pack_60 : decode cX6_pack 60 = .ok (.invokevirtual 82, 3) := by decide +kernel
theorem dX6_pack_63 : decode cX6_pack 63 = .ok (.bipush 8, 2) := by decide +kernel
theorem dX6_pack_65 : decode cX6_pack 65 = .ok (.iload 6, 2) := by decide +kernel
theorem dX6_pack_67 : decode cX6_pack 67 = .ok (.imul, 1) := by decide +kernel
theorem dX6_pack_68 : decode cX6_pack 68 = .ok (.ishl, 1) := by decide +kernel
theorem dX6_pack_69 : decode cX6_pack 69 = .ok (.ior, 1) := by decide +kernel
theorem dX6_pack_70 : decode cX6_pack 70 = .ok (.istore 5, 2) := by decide +kernel
theorem dX6_pack_72 : decode cX6_pack 72 = .ok (.iinc 6 1, 3) := by decide +kernel
theorem dX6_pack_75 : decode cX6_pack 75 = .ok (.goto (-43), 3) := by decide +kernel
theorem dX6_pack_78 : decode cX6_pack 78 = .ok (.aload_n 0, 1) := by decide +kernel
theorem dX6_pack_79 : decode cX6_pack 79 = .ok (.getfield 64, 3) := by decide +kernel
theorem dX6_pack_82 : decode cX6_pack 82 = .ok (.iload 5, 2) := by decide +kernel
theorem dX6_pack_84 : decode cX6_pack 84 = .ok (.invokevirtual 150, 3) := by decide +kernel
theorem dX6_pack_87 : decode cX6_pack 87 = .ok (.pop, 1) := by decide +kernel
theorem dX6_pack_88 : decode cX6_pack 88 = .ok (.iinc 4 4, 3) := by decide +kernel
theorem dX6_pack_91 : decode cX6_pack 91 = .ok (.goto (-71), 3) := by decide +kernel
theorem dX6_pack_94 : decode cX6_pack 94 = .ok (.iload_n 3, 1) := by decide +kernel
theorem dX6_pack_95 : decode cX6_pack 95 = .ok (.ireturn, 1) := by decide +kernel
def wc_Parser_pack_32B (Q : Int → cS → Prop) (k20 : cS → Int → Int → Int → Int → Prop) (k32 : cS → Int → Int → Int → Int → Int → Int → Prop) (A0 : cS) (x1 : Int) (x2 : Int) (x3 : Int) (x4 : Int) (x5 : Int) (x6 : Int) : Prop :=
  ((4 ≤ x6 → wc_Program_addWord A0 x5 (fun r3 A4 => (zR (x4 + 4)) ∧ k20 A4 x1 x2 x3 (x4 + 4))) ∧ (¬ 4 ≤ x6 → (zR (x4 + x6)) ∧ ((x2 < (x4 + x6) → wc_Program_addWord A0 x5 (fun r18 A19 => (zR (x4 + 4)) ∧ k20 A19 x1 x2 x3 (x4 + 4))) ∧ (¬ x2 < (x4 + x6) → ∀ z29 : Int, z29 = zw (x1 + x4) → zR z29 → ∀ z33 : Int, z33 = zw (z29 + x6) → zR z33 → (zR (x6 + 1)) ∧ k32 A0 x1 x2 x3 x4 (zor x5 (zsl (yget A0 17 z33) (8 * x6))) (x6 + 1)))))
def wc_Parser_pack_32 (Q : Int → cS → Prop) (k20 : cS → Int → Int → Int → Int → Prop) : Nat → cS → Int → Int → Int → Int → Int → Int → Prop
  | 0 => fun _ _ _ _ _ _ _ => False
  | m + 1 => fun A0 x1 x2 x3 x4 x5 x6 => wc_Parser_pack_32B Q k20 (wc_Parser_pack_32 Q k20 m) A0 x1 x2 x3 x4 x5 x6
def wc_Parser_pack_20B (Q : Int → cS → Prop) (k20 : cS → Int → Int → Int → Int → Prop) (A0 : cS) (x1 : Int) (x2 : Int) (x3 : Int) (x4 : Int) : Prop :=
  ((x2 < x4 → Q x3 A0) ∧ (¬ x2 < x4 → ∃ n, wc_Parser_pack_32 Q k20 n A0 x1 x2 x3 x4 0 0))
def wc_Parser_pack_20 (Q : Int → cS → Prop)  : Nat → cS → Int → Int → Int → Int → Prop
  | 0 => fun _ _ _ _ _ => False
  | m + 1 => fun A0 x1 x2 x3 x4 => wc_Parser_pack_20B Q  (wc_Parser_pack_20 Q  m) A0 x1 x2 x3 x4
def wc_Parser_pack (A0 : cS) (a0 : Int) (Q : Int → cS → Prop) : Prop :=
  wc_Program_words A0  (fun r1 A2 => ∃ n, wc_Parser_pack_20 Q  n A2 a0 (yget A0 17 a0) r1 0)
set_option maxHeartbeats 4000000 in
set_option maxRecDepth 100000 in
theorem cb_Parser_pack_32 {X : gX} {d : gD} {b : Nat} {Y : gYt} {c : Nat × Nat} {F0 : gM} {S0 : gSt} {mc ms : Nat} (hC : gC RX6 cX6_pack 7 (some .int) "pack" (gR 4 mc ms) d b X) (hr : hRm X b) {Q : Int → cS → Prop} {k20 : cS → Int → Int → Int → Int → Prop} {k32 : cS → Int → Int → Int → Int → Int → Int → Prop} (hk20 : ∀ (u : hU) (S : gSt) (A0 : cS) (x1 : Int) (x2 : Int) (x3 : Int) (x4 : Int), zR x1 → zR x2 → zR x3 → zR x4 → yOk X b u → yZ d b Y c F0 S0 u S A0 → k20 A0 x1 x2 x3 x4 → yG X d b (yQi X d b Y c F0 S0 mc ms Q) u 20 [some (.ref (gO' Y 4)), some (.int (zI x1)), some (.int (zI x2)), some (.int (zI x3)), some (.int (zI x4)), none, none] []) (hk32 : ∀ (u : hU) (S : gSt) (A0 : cS) (x1 : Int) (x2 : Int) (x3 : Int) (x4 : Int) (x5 : Int) (x6 : Int), zR x1 → zR x2 → zR x3 → zR x4 → zR x5 → zR x6 → yOk X b u → yZ d b Y c F0 S0 u S A0 → k32 A0 x1 x2 x3 x4 x5 x6 → yG X d b (yQi X d b Y c F0 S0 mc ms Q) u 32 [some (.ref (gO' Y 4)), some (.int (zI x1)), some (.int (zI x2)), some (.int (zI x3)), some (.int (zI x4)), some (.int (zI x5)), some (.int (zI x6))] []) {u : hU} {S : gSt} {A0 : cS} {x1 : Int} {x2 : Int} {x3 : Int} {x4 : Int} {x5 : Int} {x6 : Int} (Rx1 : zR x1) (Rx2 : zR x2) (Rx3 : zR x3) (Rx4 : zR x4) (Rx5 : zR x5) (Rx6 : zR x6) (ho : yOk X b u) (hZ : yZ d b Y c F0 S0 u S A0) (hw : wc_Parser_pack_32B Q k20 k32 A0 x1 x2 x3 x4 x5 x6) : yG X d b (yQi X d b Y c F0 S0 mc ms Q) u 32 [some (.ref (gO' Y 4)), some (.int (zI x1)), some (.int (zI x2)), some (.int (zI x3)), some (.int (zI x4)), some (.int (zI x5)), some (.int (zI x6))] [] := by
  unfold wc_Parser_pack_32B at hw
  refine h_iload hC dX6_pack_32 rfl ?_
  refine h_iconst (v := zI 4) hC dX6_pack_34 rfl ?_
  refine yr_icmp_ge (tgt := 78) hC Rx6 (by decide) dX6_pack_35 (by decide) (fun c1 => ?_) (fun c1 => ?_)
  · have h2 := hw.1 c1
    refine h_aload_n hC dX6_pack_78 rfl ?_
    refine h_get hC fl_X6_64 (hZ.w.o 4 (by decide)) rfl dX6_pack_79 ?_
    refine h_iload hC dX6_pack_82 rfl ?_
    refine yr_callVi (As := [.int (zI x5)]) hC hr ho hZ rfl (hZ.w.o 1 (by decide)) (cm_Program_addWord X.la d b Rx5 hZ.rs h2) cl_X6_150 rfl rfl (Nat.le_of_ble_eq_true rfl) (hFr_of (Nat.le_of_ble_eq_true rfl) (Nat.le_of_ble_eq_true rfl)) dX6_pack_84 (fun r3 A4 u5 S6 R7 o8 hZ9 h10 => ?_)
    refine h_pop hC dX6_pack_87 rfl ?_
    refine yr_iinc (x := x4) (lv' := [some (.ref (gO' Y 4)), some (.int (zI x1)), some (.int (zI x2)), some (.int (zI x3)), some (.int (zI (x4 + 4))), some (.int (zI x5)), some (.int (zI x6))]) hC dX6_pack_88 rfl rfl rfl ?_
    refine h_goto (tgt := 20) hC dX6_pack_91 (by decide) ?_
    obtain ⟨o11, h12⟩ := h10
    refine h_lv (lv' := [some (.ref (gO' Y 4)), some (.int (zI x1)), some (.int (zI x2)), some (.int (zI x3)), some (.int (zI (x4 + 4))), none, none]) ⟨rfl, rfl, rfl, rfl, rfl, trivial⟩ ?_
    exact hk20 _ _ _ _ _ _ _ Rx1 Rx2 Rx3 o11 o8 hZ9 h12
  · have h13 := hw.2 c1
    refine h_iload hC dX6_pack_38 rfl ?_
    refine h_iload hC dX6_pack_40 rfl ?_
    refine yr_iadd hC dX6_pack_42 ?_
    refine h_iload_n hC dX6_pack_43 rfl ?_
    obtain ⟨o14, h15⟩ := h13
    refine yr_icmp_gt (tgt := 78) hC o14 Rx2 dX6_pack_44 (by decide) (fun c16 => ?_) (fun c16 => ?_)
    · have h17 := h15.1 c16
      refine h_aload_n hC dX6_pack_78 rfl ?_
      refine h_get hC fl_X6_64 (hZ.w.o 4 (by decide)) rfl dX6_pack_79 ?_
      refine h_iload hC dX6_pack_82 rfl ?_
      refine yr_callVi (As := [.int (zI x5)]) hC hr ho hZ rfl (hZ.w.o 1 (by decide)) (cm_Program_addWord X.la d b Rx5 hZ.rs h17) cl_X6_150 rfl rfl (Nat.le_of_ble_eq_true rfl) (hFr_of (Nat.le_of_ble_eq_true rfl) (Nat.le_of_ble_eq_true rfl)) dX6_pack_84 (fun r18 A19 u20 S21 R22 o23 hZ24 h25 => ?_)
      refine h_pop hC dX6_pack_87 rfl ?_
      refine yr_iinc (x := x4) (lv' := [some (.ref (gO' Y 4)), some (.int (zI x1)), some (.int (zI x2)), some (.int (zI x3)), some (.int (zI (x4 + 4))), some (.int (zI x5)), some (.int (zI x6))]) hC dX6_pack_88 rfl rfl rfl ?_
      refine h_goto (tgt := 20) hC dX6_pack_91 (by decide) ?_
      obtain ⟨o26, h27⟩ := h25
      refine h_lv (lv' := [some (.ref (gO' Y 4)), some (.int (zI x1)), some (.int (zI x2)), some (.int (zI x3)), some (.int (zI (x4 + 4))), none, none]) ⟨rfl, rfl, rfl, rfl, rfl, trivial⟩ ?_
      exact hk20 _ _ _ _ _ _ _ Rx1 Rx2 Rx3 o26 o23 hZ24 h27
    · have h28 := h15.2 c16
      refine h_iload hC dX6_pack_47 rfl ?_
      refine h_aload_n hC dX6_pack_49 rfl ?_
      refine h_get hC fl_X6_58 (hZ.w.o 4 (by decide)) rfl dX6_pack_50 ?_
      refine h_iload_n hC dX6_pack_53 rfl ?_
      refine h_iload hC dX6_pack_54 rfl ?_
      refine yr_iadd hC dX6_pack_56 ?_
      refine yr_w (fun z29 e30 R31 => ?_)
      have h32 := h28 z29 e30 R31
      refine h_iload hC dX6_pack_57 rfl ?_
      refine yr_iadd hC dX6_pack_59 ?_
      refine yr_w (fun z33 e34 R35 => ?_)
      have h36 := h32 z33 e34 R35
      refine yr_get (j := 17) (e := (yget A0 17 z33)) hC hr ho hZ (by decide) R35 rfl cl_X6_82 rfl (Nat.le_of_ble_eq_true rfl) (hFr_of (Nat.le_of_ble_eq_true rfl) (Nat.le_of_ble_eq_true rfl)) dX6_pack_60 ?_
      refine h_bipush (v := zI 8) hC dX6_pack_63 rfl ?_
      refine h_iload hC dX6_pack_65 rfl ?_
      refine yr_imul hC dX6_pack_67 ?_
      refine yr_ishl hC dX6_pack_68 ?_
      refine yr_ior hC dX6_pack_69 ?_
      refine h_istore (lv' := [some (.ref (gO' Y 4)), some (.int (zI x1)), some (.int (zI x2)), some (.int (zI x3)), some (.int (zI x4)), some (.int (zI (zor x5 (zsl (yget A0 17 z33) (8 * x6))))), some (.int (zI x6))]) hC dX6_pack_70 (Nat.le_of_ble_eq_true rfl) rfl rfl ?_
      refine yr_iinc (x := x6) (lv' := [some (.ref (gO' Y 4)), some (.int (zI x1)), some (.int (zI x2)), some (.int (zI x3)), some (.int (zI x4)), some (.int (zI (zor x5 (zsl (yget A0 17 z33) (8 * x6))))), some (.int (zI (x6 + 1)))]) hC dX6_pack_72 rfl rfl rfl ?_
      refine h_goto (tgt := 32) hC dX6_pack_75 (by decide) ?_
      obtain ⟨o37, h38⟩ := h36
      exact hk32 _ _ _ _ _ _ _ _ _ Rx1 Rx2 Rx3 Rx4 (zR_t _) o37 ho hZ h38
theorem cl_Parser_pack_32 {X : gX} {d : gD} {b : Nat} {Y : gYt} {c : Nat × Nat} {F0 : gM} {S0 : gSt} {mc ms : Nat} (hC : gC RX6 cX6_pack 7 (some .int) "pack" (gR 4 mc ms) d b X) (hr : hRm X b) {Q : Int → cS → Prop} {k20 : cS → Int → Int → Int → Int → Prop} (hk20 : ∀ (u : hU) (S : gSt) (A0 : cS) (x1 : Int) (x2 : Int) (x3 : Int) (x4 : Int), zR x1 → zR x2 → zR x3 → zR x4 → yOk X b u → yZ d b Y c F0 S0 u S A0 → k20 A0 x1 x2 x3 x4 → yG X d b (yQi X d b Y c F0 S0 mc ms Q) u 20 [some (.ref (gO' Y 4)), some (.int (zI x1)), some (.int (zI x2)), some (.int (zI x3)), some (.int (zI x4)), none, none] []) : ∀ (m : Nat) (u : hU) (S : gSt) (A0 : cS) (x1 : Int) (x2 : Int) (x3 : Int) (x4 : Int) (x5 : Int) (x6 : Int), zR x1 → zR x2 → zR x3 → zR x4 → zR x5 → zR x6 → yOk X b u → yZ d b Y c F0 S0 u S A0 → wc_Parser_pack_32 Q k20 m A0 x1 x2 x3 x4 x5 x6 → yG X d b (yQi X d b Y c F0 S0 mc ms Q) u 32 [some (.ref (gO' Y 4)), some (.int (zI x1)), some (.int (zI x2)), some (.int (zI x3)), some (.int (zI x4)), some (.int (zI x5)), some (.int (zI x6))] [] := by
  intro m
  induction m with
  | zero => intro u S A0 x1 x2 x3 x4 x5 x6 Rx1 Rx2 Rx3 Rx4 Rx5 Rx6 ho hZ hw; exact False.elim hw
  | succ m ihm => intro u S A0 x1 x2 x3 x4 x5 x6 Rx1 Rx2 Rx3 Rx4 Rx5 Rx6 ho hZ hw; exact cb_Parser_pack_32 hC hr hk20 ihm Rx1 Rx2 Rx3 Rx4 Rx5 Rx6 ho hZ hw
set_option maxHeartbeats 4000000 in
set_option maxRecDepth 100000 in
theorem cb_Parser_pack_20 {X : gX} {d : gD} {b : Nat} {Y : gYt} {c : Nat × Nat} {F0 : gM} {S0 : gSt} {mc ms : Nat} (hC : gC RX6 cX6_pack 7 (some .int) "pack" (gR 4 mc ms) d b X) (hr : hRm X b) {Q : Int → cS → Prop} {k20 : cS → Int → Int → Int → Int → Prop} (hk20 : ∀ (u : hU) (S : gSt) (A0 : cS) (x1 : Int) (x2 : Int) (x3 : Int) (x4 : Int), zR x1 → zR x2 → zR x3 → zR x4 → yOk X b u → yZ d b Y c F0 S0 u S A0 → k20 A0 x1 x2 x3 x4 → yG X d b (yQi X d b Y c F0 S0 mc ms Q) u 20 [some (.ref (gO' Y 4)), some (.int (zI x1)), some (.int (zI x2)), some (.int (zI x3)), some (.int (zI x4)), none, none] []) {u : hU} {S : gSt} {A0 : cS} {x1 : Int} {x2 : Int} {x3 : Int} {x4 : Int} (Rx1 : zR x1) (Rx2 : zR x2) (Rx3 : zR x3) (Rx4 : zR x4) (ho : yOk X b u) (hZ : yZ d b Y c F0 S0 u S A0) (hw : wc_Parser_pack_20B Q k20 A0 x1 x2 x3 x4) : yG X d b (yQi X d b Y c F0 S0 mc ms Q) u 20 [some (.ref (gO' Y 4)), some (.int (zI x1)), some (.int (zI x2)), some (.int (zI x3)), some (.int (zI x4)), none, none] [] := by
  unfold wc_Parser_pack_20B at hw
  refine h_iload hC dX6_pack_20 rfl ?_
  refine h_iload_n hC dX6_pack_22 rfl ?_
  refine yr_icmp_gt (tgt := 94) hC Rx4 Rx2 dX6_pack_23 (by decide) (fun c1 => ?_) (fun c1 => ?_)
  · have h2 := hw.1 c1
    refine h_iload_n hC dX6_pack_94 rfl ?_
    exact yr_iret hC hr ho hZ Rx3 h2 dX6_pack_95
  · have h3 := hw.2 c1
    refine h_iconst (v := zI 0) hC dX6_pack_26 rfl ?_
    refine h_istore (lv' := [some (.ref (gO' Y 4)), some (.int (zI x1)), some (.int (zI x2)), some (.int (zI x3)), some (.int (zI x4)), some (.int (zI 0)), none]) hC dX6_pack_27 (Nat.le_of_ble_eq_true rfl) rfl rfl ?_
    refine h_iconst (v := zI 0) hC dX6_pack_29 rfl ?_
    refine h_istore (lv' := [some (.ref (gO' Y 4)), some (.int (zI x1)), some (.int (zI x2)), some (.int (zI x3)), some (.int (zI x4)), some (.int (zI 0)), some (.int (zI 0))]) hC dX6_pack_30 (Nat.le_of_ble_eq_true rfl) rfl rfl ?_
    obtain ⟨m4, h5⟩ := h3
    exact cl_Parser_pack_32 hC hr hk20 m4 _ _ _ _ _ _ _ _ _ Rx1 Rx2 Rx3 Rx4 (by decide) (by decide) ho hZ h5
theorem cl_Parser_pack_20 {X : gX} {d : gD} {b : Nat} {Y : gYt} {c : Nat × Nat} {F0 : gM} {S0 : gSt} {mc ms : Nat} (hC : gC RX6 cX6_pack 7 (some .int) "pack" (gR 4 mc ms) d b X) (hr : hRm X b) {Q : Int → cS → Prop}   : ∀ (m : Nat) (u : hU) (S : gSt) (A0 : cS) (x1 : Int) (x2 : Int) (x3 : Int) (x4 : Int), zR x1 → zR x2 → zR x3 → zR x4 → yOk X b u → yZ d b Y c F0 S0 u S A0 → wc_Parser_pack_20 Q  m A0 x1 x2 x3 x4 → yG X d b (yQi X d b Y c F0 S0 mc ms Q) u 20 [some (.ref (gO' Y 4)), some (.int (zI x1)), some (.int (zI x2)), some (.int (zI x3)), some (.int (zI x4)), none, none] [] := by
  intro m
  induction m with
  | zero => intro u S A0 x1 x2 x3 x4 Rx1 Rx2 Rx3 Rx4 ho hZ hw; exact False.elim hw
  | succ m ihm => intro u S A0 x1 x2 x3 x4 Rx1 Rx2 Rx3 Rx4 ho hZ hw; exact cb_Parser_pack_20 hC hr  ihm Rx1 Rx2 Rx3 Rx4 ho hZ hw
set_option maxHeartbeats 4000000 in
set_option maxRecDepth 100000 in
theorem cm_Parser_pack (l : Launch) (d : gD) (b : Nat) {Y : gYt} {c : Nat × Nat} {F : gM} {k n : Nat} {S : gSt} {A0 : cS} {a0 : Int} (Ra0 : zR a0) {Q : Int → cS → Prop} (hZ : yZ d b Y c F S (F, k, n) S A0) (hw : wc_Parser_pack A0 a0 Q) : hMi l d b yX6_pack cX6_pack 7 .int 4 k n F [.ref (gO' Y 4), .int (zI a0)] (yPi d b Y c F S Q) := by
  intro mc ms
  refine hM_of2 rfl (nL := 7) (Nat.le_of_ble_eq_true rfl) ?_
  intro X hX hC hr ho; subst hX
  show yG X d b (yQi X d b Y c F S mc ms Q) (F, k, n) 0 [some (.ref (gO' Y 4)), some (.int (zI a0)), none, none, none, none, none] []
  unfold wc_Parser_pack at hw
  refine h_aload_n hC dX6_pack_0 rfl ?_
  refine h_get hC fl_X6_58 (hZ.w.o 4 (by decide)) rfl dX6_pack_1 ?_
  refine h_iload_n hC dX6_pack_4 rfl ?_
  refine yr_get (j := 17) (e := (yget A0 17 a0)) hC hr ho hZ (by decide) Ra0 rfl cl_X6_82 rfl (Nat.le_of_ble_eq_true rfl) (hFr_of (Nat.le_of_ble_eq_true rfl) (Nat.le_of_ble_eq_true rfl)) dX6_pack_5 ?_
  refine h_istore_n (lv' := [some (.ref (gO' Y 4)), some (.int (zI a0)), some (.int (zI (yget A0 17 a0))), none, none, none, none]) hC dX6_pack_8 (Nat.le_of_ble_eq_true rfl) rfl rfl ?_
  refine h_aload_n hC dX6_pack_9 rfl ?_
  refine h_get hC fl_X6_64 (hZ.w.o 4 (by decide)) rfl dX6_pack_10 ?_
  refine yr_callVi (As := []) hC hr ho hZ rfl (hZ.w.o 1 (by decide)) (cm_Program_words X.la d b  hZ.rs hw) cl_X6_274 rfl rfl (Nat.le_of_ble_eq_true rfl) (hFr_of (Nat.le_of_ble_eq_true rfl) (Nat.le_of_ble_eq_true rfl)) dX6_pack_13 (fun r1 A2 u3 S4 R5 o6 hZ7 h8 => ?_)
  refine h_istore_n (lv' := [some (.ref (gO' Y 4)), some (.int (zI a0)), some (.int (zI (yget A0 17 a0))), some (.int (zI r1)), none, none, none]) hC dX6_pack_16 (Nat.le_of_ble_eq_true rfl) rfl rfl ?_
  refine h_iconst (v := zI 0) hC dX6_pack_17 rfl ?_
  refine h_istore (lv' := [some (.ref (gO' Y 4)), some (.int (zI a0)), some (.int (zI (yget A0 17 a0))), some (.int (zI r1)), some (.int (zI 0)), none, none]) hC dX6_pack_18 (Nat.le_of_ble_eq_true rfl) rfl rfl ?_
  obtain ⟨m9, h10⟩ := h8
  exact cl_Parser_pack_20 hC hr  m9 _ _ _ _ _ _ _ Ra0 (hZ.rg 17 _) R5 (by decide) o6 hZ7 h10
theorem dX6_hangSigns_0 : decode cX6_hangSigns 0 = .ok (.iconst 0, 1) := by decide +kernel
theorem dX6_hangSigns_1 : decode cX6_hangSigns 1 = .ok (.istore_n 3, 1) := by decide +kernel
theorem dX6_hangSigns_2 : decode cX6_hangSigns 2 = .ok (.iload_n 3, 1) := by decide +kernel
theorem dX6_hangSigns_3 : decode cX6_hangSigns 3 = .ok (.ldc 11, 2) := by decide +kernel
theorem dX6_hangSigns_5 : decode cX6_hangSigns 5 = .ok (.if_icmp .ge 116, 3) := by decide +kernel
theorem dX6_hangSigns_8 : decode cX6_hangSigns 8 = .ok (.aload_n 0, 1) := by decide +kernel
theorem dX6_hangSigns_9 : decode cX6_hangSigns 9 = .ok (.getfield 21, 3) := by decide +kernel
theorem dX6_hangSigns_12 : decode cX6_hangSigns 12 = .ok (.invokevirtual 172, 3) := by decide +kernel
theorem dX6_hangSigns_15 : decode cX6_hangSigns 15 = .ok (.iload_n 2, 1) := by decide +kernel
theorem dX6_hangSigns_16 : decode cX6_hangSigns 16 = .ok (.if_icmp .le 105, 3) := by decide +kernel
theorem dX6_hangSigns_19 : decode cX6_hangSigns 19 = .ok (.aload_n 0, 1) := by decide +kernel
theorem dX6_hangSigns_20 : decode cX6_hangSigns 20 = .ok (.getfield 21, 3) := by decide +kernel
theorem dX6_hangSigns_23 : decode cX6_hangSigns 23 = .ok (.invokevirtual 249, 3) := by decide +kernel
theorem dX6_hangSigns_26 : decode cX6_hangSigns 26 = .ok (.sipush 128, 3) := by decide +kernel
theorem dX6_hangSigns_29 : decode cX6_hangSigns 29 = .ok (.irem, 1) := by decide +kernel
theorem dX6_hangSigns_30 : decode cX6_hangSigns 30 = .ok (.istore 4, 2) := by decide +kernel
theorem dX6_hangSigns_32 : decode cX6_hangSigns 32 = .ok (.aload_n 0, 1) := by decide +kernel
theorem dX6_hangSigns_33 : decode cX6_hangSigns 33 = .ok (.getfield 21, 3) := by decide +kernel
theorem dX6_hangSigns_36 : decode cX6_hangSigns 36 = .ok (.invokevirtual 165, 3) := by decide +kernel
theorem dX6_hangSigns_39 : decode cX6_hangSigns 39 = .ok (.sipush 128, 3) := by decide +kernel
theorem dX6_hangSigns_42 : decode cX6_hangSigns 42 = .ok (.idiv, 1) := by decide +kernel
theorem dX6_hangSigns_43 : decode cX6_hangSigns 43 = .ok (.istore 5, 2) := by decide +kernel
theorem dX6_hangSigns_45 : decode cX6_hangSigns 45 = .ok (.aload_n 0, 1) := by decide +kernel
theorem dX6_hangSigns_46 : decode cX6_hangSigns 46 = .ok (.getfield 21, 3) := by decide +kernel
theorem dX6_hangSigns_49 : decode cX6_hangSigns 49 = .ok (.invokevirtual 165, 3) := by decide +kernel
theorem dX6_hangSigns_52 : decode cX6_hangSigns 52 = .ok (.istore 6, 2) := by decide +kernel
theorem dX6_hangSigns_54 : decode cX6_hangSigns 54 = .ok (.iload 4, 2) := by decide +kernel
theorem dX6_hangSigns_56 : decode cX6_hangSigns 56 = .ok (.bipush 13, 2) := by decide +kernel
theorem dX6_hangSigns_58 : decode cX6_hangSigns 58 = .ok (.if_icmp .ne 8, 3) := by decide +kernel
theorem dX6_hangSigns_61 : decode cX6_hangSigns 61 = .ok (.bipush 85, 2) := by decide +kernel
theorem dX6_hangSigns_63 : decode cX6_hangSigns 63 = .ok (.goto 17, 3) := by decide +kernel
theorem dX6_hangSigns_66 : decode cX6_hangSigns 66 = .ok (.iload 4, 2) := by decide +kernel
theorem dX6_hangSigns_68 : decode cX6_hangSigns 68 = .ok (.bipush 15, 2) := by decide +kernel
theorem dX6_hangSigns_70 : decode cX6_hangSigns 70 = .ok (.if_icmp .ne 8, 3) := by decide +kernel
theorem dX6_hangSigns_73 : decode cX6_hangSigns 73 = .ok (.bipush 86, 2) := by decide +kernel
theorem dX6_hangSigns_75 : decode cX6_hangSigns 75 = .ok (.goto 5, 3) := by decide +kernel
theorem dX6_hangSigns_78 : decode cX6_hangSigns 78 = .ok (.bipush 87, 2) := by decide +kernel
theorem dX6_hangSigns_80 : decode cX6_hangSigns 80 = .ok (.istore 7, 2) := by decide +kernel
theorem dX6_hangSigns_82 : decode cX6_hangSigns 82 = .ok (.aload_n 0, 1) := by decide +kernel
theorem dX6_hangSigns_83 : decode cX6_hangSigns 83 = .ok (.getfield 60, 3) := by decide +kernel
theorem dX6_hangSigns_86 : decode cX6_hangSigns 86 = .ok (.iload_n 1, 1) := by decide +kernel
theorem dX6_hangSigns_87 : decode cX6_hangSigns 87 = .ok (.aload_n 0, 1) := by decide +kernel
theorem dX6_hangSigns_88 : decode cX6_hangSigns 88 = .ok (.getfield 60, 3) := by decide +kernel
theorem dX6_hangSigns_91 : decode cX6_hangSigns 91 = .ok (.iload 7, 2) := by decide +kernel
theorem dX6_hangSigns_93 : decode cX6_hangSigns 93 = .ok (.iload 5, 2) := by decide +kernel
theorem dX6_hangSigns_95 : decode cX6_hangSigns 95 = .ok (.iload 7, 2) := by decide +kernel
theorem dX6_hangSigns_97 : decode cX6_hangSigns 97 = .ok (.bipush 87, 2) := by decide +kernel
theorem dX6_hangSigns_99 : decode cX6_hangSigns 99 = .ok (.if_icmp .ne 8, 3) := by decide +kernel
theorem dX6_hangSigns_102 : decode cX6_hangSigns 102 = .ok (.iload 4, 2) := by decide +kernel
theorem dX6_hangSigns_104 : decode cX6_hangSigns 104 = .ok (.goto 5, 3) := by decide +kernel
theorem dX6_hangSigns_107 : decode cX6_hangSigns 107 = .ok (.iload 6, 2) := by decide +kernel
theorem dX6_hangSigns_109 : decode cX6_hangSigns 109 = .ok (.invokevirtual 115, 3) := by decide +kernel
theorem dX6_hangSigns_112 : decode cX6_hangSigns 112 = .ok (.invokevirtual 123, 3) := by decide +kernel
theorem dX6_hangSigns_115 : decode cX6_hangSigns 115 = .ok (.iinc 3 1, 3) := by decide +kernel
theorem dX6_hangSigns_118 : decode cX6_hangSigns 118 = .ok (.goto (-116), 3) := by decide +kernel
theorem dX6_hangSigns_121 : decode cX6_hangSigns 121 = .ok (.return_, 1) := by decide +kernel
def wc_Parser_hangSigns_80 (Q : cS → Prop) (k2 : cS → Int → Int → Int → Prop) (A0 : cS) (x1 : Int) (x2 : Int) (x3 : Int) (x4 : Int) (x5 : Int) (x6 : Int) (y0 : Int) : Prop :=
  ((¬ y0 = 87 → wc_Tree_node A0 y0 x5 x6 (fun r3 A4 => wc_Tree_hang A4 x1 r3 (fun A12 => (zR (x3 + 1)) ∧ k2 A12 x1 x2 (x3 + 1)))) ∧ (y0 = 87 → wc_Tree_node A0 y0 x5 x4 (fun r22 A23 => wc_Tree_hang A23 x1 r22 (fun A31 => (zR (x3 + 1)) ∧ k2 A31 x1 x2 (x3 + 1)))))
def wc_Parser_hangSigns_2B (Q : cS → Prop) (k2 : cS → Int → Int → Int → Prop) (A0 : cS) (x1 : Int) (x2 : Int) (x3 : Int) : Prop :=
  ((1000000 ≤ x3 → Q A0) ∧ (¬ 1000000 ≤ x3 → ((((yz A0 22 : Nat) : Int) ≤ x2 → Q A0) ∧ (¬ ((yz A0 22 : Nat) : Int) ≤ x2 → ∀ z7 : Int, z7 = zw ((yget A0 22 ((yz A0 22 : Nat) - 1 : Int)) - zd (yget A0 22 ((yz A0 22 : Nat) - 1 : Int)) 128 * 128) → zR z7 → ((¬ z7 = 13 → ((¬ z7 = 15 → wc_Parser_hangSigns_80 Q k2 (ypop (ypop A0 22) 22) x1 x2 x3 z7 (zd (yget A0 22 ((yz A0 22 : Nat) - 1 : Int)) 128) (yget (ypop A0 22) 22 ((yz (ypop A0 22) 22 : Nat) - 1 : Int)) 87) ∧ (z7 = 15 → wc_Parser_hangSigns_80 Q k2 (ypop (ypop A0 22) 22) x1 x2 x3 z7 (zd (yget A0 22 ((yz A0 22 : Nat) - 1 : Int)) 128) (yget (ypop A0 22) 22 ((yz (ypop A0 22) 22 : Nat) - 1 : Int)) 86))) ∧ (z7 = 13 → wc_Parser_hangSigns_80 Q k2 (ypop (ypop A0 22) 22) x1 x2 x3 z7 (zd (yget A0 22 ((yz A0 22 : Nat) - 1 : Int)) 128) (yget (ypop A0 22) 22 ((yz (ypop A0 22) 22 : Nat) - 1 : Int)) 85))))))
def wc_Parser_hangSigns_2 (Q : cS → Prop)  : Nat → cS → Int → Int → Int → Prop
  | 0 => fun _ _ _ _ => False
  | m + 1 => fun A0 x1 x2 x3 => wc_Parser_hangSigns_2B Q  (wc_Parser_hangSigns_2 Q  m) A0 x1 x2 x3
def wc_Parser_hangSigns (A0 : cS) (a0 : Int) (a1 : Int) (Q : cS → Prop) : Prop :=
  ∃ n, wc_Parser_hangSigns_2 Q  n A0 a0 a1 0
set_option maxHeartbeats 4000000 in
set_option maxRecDepth 100000 in
theorem cj_Parser_hangSigns_80 {X : gX} {d : gD} {b : Nat} {Y : gYt} {c : Nat × Nat} {F0 : gM} {S0 : gSt} {mc ms : Nat} (hC : gC RX6 cX6_hangSigns 8 none "hangSigns" (gR 4 mc ms) d b X) (hr : hRm X b) {Q : cS → Prop} {k2 : cS → Int → Int → Int → Prop} (hk2 : ∀ (u : hU) (S : gSt) (A0 : cS) (x1 : Int) (x2 : Int) (x3 : Int), zR x1 → zR x2 → zR x3 → yOk X b u → yZ d b Y c F0 S0 u S A0 → k2 A0 x1 x2 x3 → yG X d b (yQv X d b Y c F0 S0 mc ms Q) u 2 [some (.ref (gO' Y 4)), some (.int (zI x1)), some (.int (zI x2)), some (.int (zI x3)), none, none, none, none] []) {u : hU} {S : gSt} {A0 : cS} {x1 : Int} {x2 : Int} {x3 : Int} {x4 : Int} {x5 : Int} {x6 : Int} {y0 : Int} (Rx1 : zR x1) (Rx2 : zR x2) (Rx3 : zR x3) (Rx4 : zR x4) (Rx5 : zR x5) (Rx6 : zR x6) (Ry0 : zR y0) (ho : yOk X b u) (hZ : yZ d b Y c F0 S0 u S A0) (hw : wc_Parser_hangSigns_80 Q k2 A0 x1 x2 x3 x4 x5 x6 y0) : yG X d b (yQv X d b Y c F0 S0 mc ms Q) u 80 [some (.ref (gO' Y 4)), some (.int (zI x1)), some (.int (zI x2)), some (.int (zI x3)), some (.int (zI x4)), some (.int (zI x5)), some (.int (zI x6)), none] [.int (zI y0)] := by
  unfold wc_Parser_hangSigns_80 at hw
  refine h_istore (lv' := [some (.ref (gO' Y 4)), some (.int (zI x1)), some (.int (zI x2)), some (.int (zI x3)), some (.int (zI x4)), some (.int (zI x5)), some (.int (zI x6)), some (.int (zI y0))]) hC dX6_hangSigns_80 (Nat.le_of_ble_eq_true rfl) rfl rfl ?_
  refine h_aload_n hC dX6_hangSigns_82 rfl ?_
  refine h_get hC fl_X6_60 (hZ.w.o 4 (by decide)) rfl dX6_hangSigns_83 ?_
  refine h_iload_n hC dX6_hangSigns_86 rfl ?_
  refine h_aload_n hC dX6_hangSigns_87 rfl ?_
  refine h_get hC fl_X6_60 (hZ.w.o 4 (by decide)) rfl dX6_hangSigns_88 ?_
  refine h_iload hC dX6_hangSigns_91 rfl ?_
  refine h_iload hC dX6_hangSigns_93 rfl ?_
  refine h_iload hC dX6_hangSigns_95 rfl ?_
  refine h_bipush (v := zI 87) hC dX6_hangSigns_97 rfl ?_
  refine yr_icmp_ne (tgt := 107) hC Ry0 (by decide) dX6_hangSigns_99 (by decide) (fun c1 => ?_) (fun c1 => ?_)
  · have h2 := hw.1 c1
    refine h_iload hC dX6_hangSigns_107 rfl ?_
    refine yr_callVi (As := [.int (zI y0), .int (zI x5), .int (zI x6)]) hC hr ho hZ rfl (hZ.w.o 2 (by decide)) (cm_Tree_node X.la d b Ry0 Rx5 Rx6 hZ.rs h2) cl_X6_115 rfl rfl (Nat.le_of_ble_eq_true rfl) (hFr_of (Nat.le_of_ble_eq_true rfl) (Nat.le_of_ble_eq_true rfl)) dX6_hangSigns_109 (fun r3 A4 u5 S6 R7 o8 hZ9 h10 => ?_)
    refine yr_callVv (As := [.int (zI x1), .int (zI r3)]) hC hr o8 hZ9 rfl (hZ9.w.o 2 (by decide)) (cm_Tree_hang X.la d b Rx1 R7 hZ9.rs h10) cl_X6_123 rfl rfl (Nat.le_of_ble_eq_true rfl) (hFr_of (Nat.le_of_ble_eq_true rfl) (Nat.le_of_ble_eq_true rfl)) dX6_hangSigns_112 (fun A12 u13 S14 o16 hZ17 h18 => ?_)
    refine yr_iinc (x := x3) (lv' := [some (.ref (gO' Y 4)), some (.int (zI x1)), some (.int (zI x2)), some (.int (zI (x3 + 1))), some (.int (zI x4)), some (.int (zI x5)), some (.int (zI x6)), some (.int (zI y0))]) hC dX6_hangSigns_115 rfl rfl rfl ?_
    refine h_goto (tgt := 2) hC dX6_hangSigns_118 (by decide) ?_
    obtain ⟨o19, h20⟩ := h18
    refine h_lv (lv' := [some (.ref (gO' Y 4)), some (.int (zI x1)), some (.int (zI x2)), some (.int (zI (x3 + 1))), none, none, none, none]) ⟨rfl, rfl, rfl, rfl, trivial⟩ ?_
    exact hk2 _ _ _ _ _ _ Rx1 Rx2 o19 o16 hZ17 h20
  · have h21 := hw.2 c1
    refine h_iload hC dX6_hangSigns_102 rfl ?_
    refine h_goto (tgt := 109) hC dX6_hangSigns_104 (by decide) ?_
    refine yr_callVi (As := [.int (zI y0), .int (zI x5), .int (zI x4)]) hC hr ho hZ rfl (hZ.w.o 2 (by decide)) (cm_Tree_node X.la d b Ry0 Rx5 Rx4 hZ.rs h21) cl_X6_115 rfl rfl (Nat.le_of_ble_eq_true rfl) (hFr_of (Nat.le_of_ble_eq_true rfl) (Nat.le_of_ble_eq_true rfl)) dX6_hangSigns_109 (fun r22 A23 u24 S25 R26 o27 hZ28 h29 => ?_)
    refine yr_callVv (As := [.int (zI x1), .int (zI r22)]) hC hr o27 hZ28 rfl (hZ28.w.o 2 (by decide)) (cm_Tree_hang X.la d b Rx1 R26 hZ28.rs h29) cl_X6_123 rfl rfl (Nat.le_of_ble_eq_true rfl) (hFr_of (Nat.le_of_ble_eq_true rfl) (Nat.le_of_ble_eq_true rfl)) dX6_hangSigns_112 (fun A31 u32 S33 o35 hZ36 h37 => ?_)
    refine yr_iinc (x := x3) (lv' := [some (.ref (gO' Y 4)), some (.int (zI x1)), some (.int (zI x2)), some (.int (zI (x3 + 1))), some (.int (zI x4)), some (.int (zI x5)), some (.int (zI x6)), some (.int (zI y0))]) hC dX6_hangSigns_115 rfl rfl rfl ?_
    refine h_goto (tgt := 2) hC dX6_hangSigns_118 (by decide) ?_
    obtain ⟨o38, h39⟩ := h37
    refine h_lv (lv' := [some (.ref (gO' Y 4)), some (.int (zI x1)), some (.int (zI x2)), some (.int (zI (x3 + 1))), none, none, none, none]) ⟨rfl, rfl, rfl, rfl, trivial⟩ ?_
    exact hk2 _ _ _ _ _ _ Rx1 Rx2 o38 o35 hZ36 h39
set_option maxHeartbeats 4000000 in
set_option maxRecDepth 100000 in
theorem cb_Parser_hangSigns_2 {X : gX} {d : gD} {b : Nat} {Y : gYt} {c : Nat × Nat} {F0 : gM} {S0 : gSt} {mc ms : Nat} (hC : gC RX6 cX6_hangSigns 8 none "hangSigns" (gR 4 mc ms) d b X) (hr : hRm X b) {Q : cS → Prop} {k2 : cS → Int → Int → Int → Prop} (hk2 : ∀ (u : hU) (S : gSt) (A0 : cS) (x1 : Int) (x2 : Int) (x3 : Int), zR x1 → zR x2 → zR x3 → yOk X b u → yZ d b Y c F0 S0 u S A0 → k2 A0 x1 x2 x3 → yG X d b (yQv X d b Y c F0 S0 mc ms Q) u 2 [some (.ref (gO' Y 4)), some (.int (zI x1)), some (.int (zI x2)), some (.int (zI x3)), none, none, none, none] []) {u : hU} {S : gSt} {A0 : cS} {x1 : Int} {x2 : Int} {x3 : Int} (Rx1 : zR x1) (Rx2 : zR x2) (Rx3 : zR x3) (ho : yOk X b u) (hZ : yZ d b Y c F0 S0 u S A0) (hw : wc_Parser_hangSigns_2B Q k2 A0 x1 x2 x3) : yG X d b (yQv X d b Y c F0 S0 mc ms Q) u 2 [some (.ref (gO' Y 4)), some (.int (zI x1)), some (.int (zI x2)), some (.int (zI x3)), none, none, none, none] [] := by
  unfold wc_Parser_hangSigns_2B at hw
  refine h_iload_n hC dX6_hangSigns_2 rfl ?_
  refine yr_ldc (e := 1000000) hC dX6_hangSigns_3 kw_514 (by decide) ?_
  refine yr_icmp_ge (tgt := 121) hC Rx3 (by decide) dX6_hangSigns_5 (by decide) (fun c1 => ?_) (fun c1 => ?_)
  · have h2 := hw.1 c1
    exact yr_vret hC hr ho hZ h2 dX6_hangSigns_121
  · have h3 := hw.2 c1
    refine h_aload_n hC dX6_hangSigns_8 rfl ?_
    refine h_get hC fl_X6_21 (hZ.w.o 4 (by decide)) rfl dX6_hangSigns_9 ?_
    refine yr_size (j := 22) (e := ((yz A0 22 : Nat) : Int)) hC hr ho hZ (by decide) rfl cl_X6_172 rfl (Nat.le_of_ble_eq_true rfl) (hFr_of (Nat.le_of_ble_eq_true rfl) (Nat.le_of_ble_eq_true rfl)) dX6_hangSigns_12 ?_
    refine h_iload_n hC dX6_hangSigns_15 rfl ?_
    refine yr_icmp_le (tgt := 121) hC (hZ.rz (j := 22) (by decide)) Rx2 dX6_hangSigns_16 (by decide) (fun c4 => ?_) (fun c4 => ?_)
    · have h5 := h3.1 c4
      exact yr_vret hC hr ho hZ h5 dX6_hangSigns_121
    · have h6 := h3.2 c4
      refine h_aload_n hC dX6_hangSigns_19 rfl ?_
      refine h_get hC fl_X6_21 (hZ.w.o 4 (by decide)) rfl dX6_hangSigns_20 ?_
      refine yr_top (j := 22) (e := (yget A0 22 ((yz A0 22 : Nat) - 1 : Int))) hC hr ho hZ (by decide) rfl cl_X6_249 rfl (Nat.le_of_ble_eq_true rfl) (hFr_of (Nat.le_of_ble_eq_true rfl) (Nat.le_of_ble_eq_true rfl)) dX6_hangSigns_23 ?_
      refine h_sipush (v := zI 128) hC dX6_hangSigns_26 rfl ?_
      refine yr_irem hC dX6_hangSigns_29 (by decide) (by decide) ?_
      refine yr_w (fun z7 e8 R9 => ?_)
      have h10 := h6 z7 e8 R9
      refine h_istore (lv' := [some (.ref (gO' Y 4)), some (.int (zI x1)), some (.int (zI x2)), some (.int (zI x3)), some (.int (zI z7)), none, none, none]) hC dX6_hangSigns_30 (Nat.le_of_ble_eq_true rfl) rfl rfl ?_
      refine h_aload_n hC dX6_hangSigns_32 rfl ?_
      refine h_get hC fl_X6_21 (hZ.w.o 4 (by decide)) rfl dX6_hangSigns_33 ?_
      refine yr_pop (j := 22) (e := (yget A0 22 ((yz A0 22 : Nat) - 1 : Int))) hC hr ho hZ (by decide) rfl cl_X6_165 rfl (Nat.le_of_ble_eq_true rfl) (hFr_of (Nat.le_of_ble_eq_true rfl) (Nat.le_of_ble_eq_true rfl)) dX6_hangSigns_36 (fun u11 S12 o13 hZ14 => ?_)
      refine h_sipush (v := zI 128) hC dX6_hangSigns_39 rfl ?_
      refine yr_idiv hC dX6_hangSigns_42 (by decide) (by decide) ?_
      refine h_istore (lv' := [some (.ref (gO' Y 4)), some (.int (zI x1)), some (.int (zI x2)), some (.int (zI x3)), some (.int (zI z7)), some (.int (zI (zd (yget A0 22 ((yz A0 22 : Nat) - 1 : Int)) 128))), none, none]) hC dX6_hangSigns_43 (Nat.le_of_ble_eq_true rfl) rfl rfl ?_
      refine h_aload_n hC dX6_hangSigns_45 rfl ?_
      refine h_get hC fl_X6_21 (hZ14.w.o 4 (by decide)) rfl dX6_hangSigns_46 ?_
      refine yr_pop (j := 22) (e := (yget (ypop A0 22) 22 ((yz (ypop A0 22) 22 : Nat) - 1 : Int))) hC hr o13 hZ14 (by decide) rfl cl_X6_165 rfl (Nat.le_of_ble_eq_true rfl) (hFr_of (Nat.le_of_ble_eq_true rfl) (Nat.le_of_ble_eq_true rfl)) dX6_hangSigns_49 (fun u15 S16 o17 hZ18 => ?_)
      refine h_istore (lv' := [some (.ref (gO' Y 4)), some (.int (zI x1)), some (.int (zI x2)), some (.int (zI x3)), some (.int (zI z7)), some (.int (zI (zd (yget A0 22 ((yz A0 22 : Nat) - 1 : Int)) 128))), some (.int (zI (yget (ypop A0 22) 22 ((yz (ypop A0 22) 22 : Nat) - 1 : Int)))), none]) hC dX6_hangSigns_52 (Nat.le_of_ble_eq_true rfl) rfl rfl ?_
      refine h_iload hC dX6_hangSigns_54 rfl ?_
      refine h_bipush (v := zI 13) hC dX6_hangSigns_56 rfl ?_
      refine yr_icmp_ne (tgt := 66) hC R9 (by decide) dX6_hangSigns_58 (by decide) (fun c19 => ?_) (fun c19 => ?_)
      · have h20 := h10.1 c19
        refine h_iload hC dX6_hangSigns_66 rfl ?_
        refine h_bipush (v := zI 15) hC dX6_hangSigns_68 rfl ?_
        refine yr_icmp_ne (tgt := 78) hC R9 (by decide) dX6_hangSigns_70 (by decide) (fun c21 => ?_) (fun c21 => ?_)
        · have h22 := h20.1 c21
          refine h_bipush (v := zI 87) hC dX6_hangSigns_78 rfl ?_
          exact cj_Parser_hangSigns_80 hC hr hk2 Rx1 Rx2 Rx3 R9 (zR_t _) (hZ14.rg 22 _) (by decide) o17 hZ18 h22
        · have h23 := h20.2 c21
          refine h_bipush (v := zI 86) hC dX6_hangSigns_73 rfl ?_
          refine h_goto (tgt := 80) hC dX6_hangSigns_75 (by decide) ?_
          exact cj_Parser_hangSigns_80 hC hr hk2 Rx1 Rx2 Rx3 R9 (zR_t _) (hZ14.rg 22 _) (by decide) o17 hZ18 h23
      · have h24 := h10.2 c19
        refine h_bipush (v := zI 85) hC dX6_hangSigns_61 rfl ?_
        refine h_goto (tgt := 80) hC dX6_hangSigns_63 (by decide) ?_
        exact cj_Parser_hangSigns_80 hC hr hk2 Rx1 Rx2 Rx3 R9 (zR_t _) (hZ14.rg 22 _) (by decide) o17 hZ18 h24
theorem cl_Parser_hangSigns_2 {X : gX} {d : gD} {b : Nat} {Y : gYt} {c : Nat × Nat} {F0 : gM} {S0 : gSt} {mc ms : Nat} (hC : gC RX6 cX6_hangSigns 8 none "hangSigns" (gR 4 mc ms) d b X) (hr : hRm X b) {Q : cS → Prop}   : ∀ (m : Nat) (u : hU) (S : gSt) (A0 : cS) (x1 : Int) (x2 : Int) (x3 : Int), zR x1 → zR x2 → zR x3 → yOk X b u → yZ d b Y c F0 S0 u S A0 → wc_Parser_hangSigns_2 Q  m A0 x1 x2 x3 → yG X d b (yQv X d b Y c F0 S0 mc ms Q) u 2 [some (.ref (gO' Y 4)), some (.int (zI x1)), some (.int (zI x2)), some (.int (zI x3)), none, none, none, none] [] := by
  intro m
  induction m with
  | zero => intro u S A0 x1 x2 x3 Rx1 Rx2 Rx3 ho hZ hw; exact False.elim hw
  | succ m ihm => intro u S A0 x1 x2 x3 Rx1 Rx2 Rx3 ho hZ hw; exact cb_Parser_hangSigns_2 hC hr  ihm Rx1 Rx2 Rx3 ho hZ hw
set_option maxHeartbeats 4000000 in
set_option maxRecDepth 100000 in
theorem cm_Parser_hangSigns (l : Launch) (d : gD) (b : Nat) {Y : gYt} {c : Nat × Nat} {F : gM} {k n : Nat} {S : gSt} {A0 : cS} {a0 : Int} {a1 : Int} (Ra0 : zR a0) (Ra1 : zR a1) {Q : cS → Prop} (hZ : yZ d b Y c F S (F, k, n) S A0) (hw : wc_Parser_hangSigns A0 a0 a1 Q) : hMv l d b yX6_hangSigns cX6_hangSigns 8 4 k n F [.ref (gO' Y 4), .int (zI a0), .int (zI a1)] (yPv d b Y c F S Q) := by
  intro mc ms
  refine hM_of2 rfl (nL := 8) (Nat.le_of_ble_eq_true rfl) ?_
  intro X hX hC hr ho; subst hX
  show yG X d b (yQv X d b Y c F S mc ms Q) (F, k, n) 0 [some (.ref (gO' Y 4)), some (.int (zI a0)), some (.int (zI a1)), none, none, none, none, none] []
  unfold wc_Parser_hangSigns at hw
  refine h_iconst (v := zI 0) hC dX6_hangSigns_0 rfl ?_
  refine h_istore_n (lv' := [some (.ref (gO' Y 4)), some (.int (zI a0)), some (.int (zI a1)), some (.int (zI 0)), none, none, none, none]) hC dX6_hangSigns_1 (Nat.le_of_ble_eq_true rfl) rfl rfl ?_
  obtain ⟨m1, h2⟩ := hw
  exact cl_Parser_hangSigns_2 hC hr  m1 _ _ _ _ _ _ Ra0 Ra1 (by decide) ho hZ h2
theorem dX6_settle_0 : decode cX6_settle 0 = .ok (.iconst 0, 1) := by decide +kernel
theorem dX6_settle_1 : decode cX6_settle 1 = .ok (.istore 4, 2) := by decide +kernel
theorem dX6_settle_3 : decode cX6_settle 3 = .ok (.iload 4, 2) := by decide +kernel
theorem dX6_settle_5 : decode cX6_settle 5 = .ok (.ldc 11, 2) := by decide +kernel
theorem dX6_settle_7 : decode cX6_settle 7 = .ok (.if_icmp .ge 109, 3) := by decide +kernel
theorem dX6_settle_10 : decode cX6_settle 10 = .ok (.aload_n 0, 1) := by decide +kernel
theorem dX6_settle_11 : decode cX6_settle 11 = .ok (.getfield 21, 3) := by decide +kernel
theorem dX6_settle_14 : decode cX6_settle 14 = .ok (.invokevirtual 172, 3) := by decide +kernel
theorem dX6_settle_17 : decode cX6_settle 17 = .ok (.iload_n 2, 1) := by decide +kernel
theorem dX6_settle_18 : decode cX6_settle 18 = .ok (.if_icmp .le 98, 3) := by decide +kernel
theorem dX6_settle_21 : decode cX6_settle 21 = .ok (.aload_n 0, 1) := by decide +kernel
theorem dX6_settle_22 : decode cX6_settle 22 = .ok (.getfield 21, 3) := by decide +kernel
theorem dX6_settle_25 : decode cX6_settle 25 = .ok (.invokevirtual 249, 3) := by decide +kernel
theorem dX6_settle_28 : decode cX6_settle 28 = .ok (.sipush 128, 3) := by decide +kernel
theorem dX6_settle_31 : decode cX6_settle 31 = .ok (.irem, 1) := by decide +kernel
theorem dX6_settle_32 : decode cX6_settle 32 = .ok (.istore 5, 2) := by decide +kernel
theorem dX6_settle_34 : decode cX6_settle 34 = .ok (.iload 5, 2) := by decide +kernel
theorem dX6_settle_36 : decode cX6_settle 36 = .ok (.invokestatic 246, 3) := by decide +kernel
theorem dX6_settle_39 : decode cX6_settle 39 = .ok (.iload_n 3, 1) := by decide +kernel
theorem dX6_settle_40 : decode cX6_settle 40 = .ok (.invokestatic 246, 3) := by decide +kernel
theorem dX6_settle_43 : decode cX6_settle 43 = .ok (.if_icmp .ge 4, 3) := by decide +kernel
theorem dX6_settle_46 : decode cX6_settle 46 = .ok (.return_, 1) := by decide +kernel
theorem dX6_settle_47 : decode cX6_settle 47 = .ok (.aload_n 0, 1) := by decide +kernel
theorem dX6_settle_48 : decode cX6_settle 48 = .ok (.getfield 60, 3) := by decide +kernel
theorem dX6_settle_51 : decode cX6_settle 51 = .ok (.bipush 88, 2) := by decide +kernel
theorem dX6_settle_53 : decode cX6_settle 53 = .ok (.aload_n 0, 1) := by decide +kernel
theorem dX6_settle_54 : decode cX6_settle 54 = .ok (.getfield 21, 3) := by decide +kernel
theorem dX6_settle_57 : decode cX6_settle 57 = .ok (.invokevirtual 165, 3) := by decide +kernel
theorem dX6_settle_60 : decode cX6_settle 60 = .ok (.sipush 128, 3) := by decide +kernel
theorem dX6_settle_63 : decode cX6_settle 63 = .ok (.idiv, 1) := by decide +kernel
theorem dX6_settle_64 : decode cX6_settle 64 = .ok (.iload 5, 2) := by decide +kernel
theorem dX6_settle_66 : decode cX6_settle 66 = .ok (.invokevirtual 115, 3) := by decide +kernel
theorem dX6_settle_69 : decode cX6_settle 69 = .ok (.istore 6, 2) := by decide +kernel
theorem dX6_settle_71 : decode cX6_settle 71 = .ok (.aload_n 0, 1) := by decide +kernel
theorem dX6_settle_72 : decode cX6_settle 72 = .ok (.getfield 60, 3) := by decide +kernel
theorem dX6_settle_75 : decode cX6_settle 75 = .ok (.iload 6, 2) := by decide +kernel
theorem dX6_settle_77 : decode cX6_settle 77 = .ok (.iload 5, 2) := by decide +kernel
theorem dX6_settle_79 : decode cX6_settle 79 = .ok (.invokestatic 252, 3) := by decide +kernel
theorem dX6_settle_82 : decode cX6_settle 82 = .ok (.ifCond .eq 14, 3) := by decide +kernel
theorem dX6_settle_85 : decode cX6_settle 85 = .ok (.iload_n 3, 1) := by decide +kernel
theorem dX6_settle_86 : decode cX6_settle 86 = .ok (.invokestatic 252, 3) := by decide +kernel
theorem dX6_settle_89 : decode cX6_settle 89 = .ok (.ifCond .eq 7, 3) := by decide +kernel
theorem dX6_settle_92 : decode cX6_settle 92 = .ok (.iconst 1, 1) := by decide +kernel
theorem dX6_settle_93 : decode cX6_settle 93 = .ok (.goto 4, 3) := by decide +kernel
theorem dX6_settle_96 : decode cX6_settle 96 = .ok (.iconst 0, 1) := by decide +kernel
theorem dX6_settle_97 : decode cX6_settle 97 = .ok (.invokevirtual 153, 3) := by decide +kernel
theorem dX6_settle_100 : decode cX6_settle 100 = .ok (.aload_n 0, 1) := by decide +kernel
theorem dX6_settle_101 : decode cX6_settle 101 = .ok (.getfield 60, 3) := by decide +kernel
theorem dX6_settle_104 : decode cX6_settle 104 = .ok (.iload_n 1, 1) := by decide +kernel
theorem dX6_settle_105 : decode cX6_settle 105 = .ok (.iload 6, 2) := by decide +kernel
theorem dX6_settle_107 : decode cX6_settle 107 = .ok (.invokevirtual 123, 3) := by decide +kernel
theorem dX6_settle_110 : decode cX6_settle 110 = .ok (.iinc 4 1, 3) := by decide +kernel
theorem dX6_settle_113 : decode cX6_settle 113 = .ok (.goto (-110), 3) := by decide +kernel
theorem dX6_settle_116 : decode cX6_settle 116 = .ok (.return_, 1) := by decide +kernel
def wc_Parser_settle_3B (Q : cS → Prop) (k3 : cS → Int → Int → Int → Int → Prop) (A0 : cS) (x1 : Int) (x2 : Int) (x3 : Int) (x4 : Int) : Prop :=
  ((1000000 ≤ x4 → Q A0) ∧ (¬ 1000000 ≤ x4 → ((((yz A0 22 : Nat) : Int) ≤ x2 → Q A0) ∧ (¬ ((yz A0 22 : Nat) : Int) ≤ x2 → ∀ z7 : Int, z7 = zw ((yget A0 22 ((yz A0 22 : Nat) - 1 : Int)) - zd (yget A0 22 ((yz A0 22 : Nat) - 1 : Int)) 128 * 128) → zR z7 → wc_W_power A0 z7 (fun r11 A12 => wc_W_power A12 x3 (fun r19 A20 => ((r19 ≤ r11 → wc_Tree_node (ypop A20 22) 88 (zd (yget A20 22 ((yz A20 22 : Nat) - 1 : Int)) 128) z7 (fun r33 A34 => wc_W_isRelation A34 z7 (fun r41 A42 => ((r41 = 0 → wc_Tree_setExtra A42 r33 0 (fun A52 => wc_Tree_hang A52 x1 r33 (fun A60 => (zR (x4 + 1)) ∧ k3 A60 x1 x2 x3 (x4 + 1)))) ∧ (¬ r41 = 0 → wc_W_isRelation A42 x3 (fun r70 A71 => ((r70 = 0 → wc_Tree_setExtra A71 r33 0 (fun A81 => wc_Tree_hang A81 x1 r33 (fun A89 => (zR (x4 + 1)) ∧ k3 A89 x1 x2 x3 (x4 + 1)))) ∧ (¬ r70 = 0 → wc_Tree_setExtra A71 r33 1 (fun A100 => wc_Tree_hang A100 x1 r33 (fun A108 => (zR (x4 + 1)) ∧ k3 A108 x1 x2 x3 (x4 + 1))))))))))) ∧ (¬ r19 ≤ r11 → Q A20))))))))
def wc_Parser_settle_3 (Q : cS → Prop)  : Nat → cS → Int → Int → Int → Int → Prop
  | 0 => fun _ _ _ _ _ => False
  | m + 1 => fun A0 x1 x2 x3 x4 => wc_Parser_settle_3B Q  (wc_Parser_settle_3 Q  m) A0 x1 x2 x3 x4
def wc_Parser_settle (A0 : cS) (a0 : Int) (a1 : Int) (a2 : Int) (Q : cS → Prop) : Prop :=
  ∃ n, wc_Parser_settle_3 Q  n A0 a0 a1 a2 0
set_option maxHeartbeats 4000000 in
set_option maxRecDepth 100000 in
theorem cb_Parser_settle_3 {X : gX} {d : gD} {b : Nat} {Y : gYt} {c : Nat × Nat} {F0 : gM} {S0 : gSt} {mc ms : Nat} (hC : gC RX6 cX6_settle 7 none "settle" (gR 4 mc ms) d b X) (hr : hRm X b) {Q : cS → Prop} {k3 : cS → Int → Int → Int → Int → Prop} (hk3 : ∀ (u : hU) (S : gSt) (A0 : cS) (x1 : Int) (x2 : Int) (x3 : Int) (x4 : Int), zR x1 → zR x2 → zR x3 → zR x4 → yOk X b u → yZ d b Y c F0 S0 u S A0 → k3 A0 x1 x2 x3 x4 → yG X d b (yQv X d b Y c F0 S0 mc ms Q) u 3 [some (.ref (gO' Y 4)), some (.int (zI x1)), some (.int (zI x2)), some (.int (zI x3)), some (.int (zI x4)), none, none] []) {u : hU} {S : gSt} {A0 : cS} {x1 : Int} {x2 : Int} {x3 : Int} {x4 : Int} (Rx1 : zR x1) (Rx2 : zR x2) (Rx3 : zR x3) (Rx4 : zR x4) (ho : yOk X b u) (hZ : yZ d b Y c F0 S0 u S A0) (hw : wc_Parser_settle_3B Q k3 A0 x1 x2 x3 x4) : yG X d b (yQv X d b Y c F0 S0 mc ms Q) u 3 [some (.ref (gO' Y 4)), some (.int (zI x1)), some (.int (zI x2)), some (.int (zI x3)), some (.int (zI x4)), none, none] [] := by
  unfold wc_Parser_settle_3B at hw
  refine h_iload hC dX6_settle_3 rfl ?_
  refine yr_ldc (e := 1000000) hC dX6_settle_5 kw_514 (by decide) ?_
  refine yr_icmp_ge (tgt := 116) hC Rx4 (by decide) dX6_settle_7 (by decide) (fun c1 => ?_) (fun c1 => ?_)
  · have h2 := hw.1 c1
    exact yr_vret hC hr ho hZ h2 dX6_settle_116
  · have h3 := hw.2 c1
    refine h_aload_n hC dX6_settle_10 rfl ?_
    refine h_get hC fl_X6_21 (hZ.w.o 4 (by decide)) rfl dX6_settle_11 ?_
    refine yr_size (j := 22) (e := ((yz A0 22 : Nat) : Int)) hC hr ho hZ (by decide) rfl cl_X6_172 rfl (Nat.le_of_ble_eq_true rfl) (hFr_of (Nat.le_of_ble_eq_true rfl) (Nat.le_of_ble_eq_true rfl)) dX6_settle_14 ?_
    refine h_iload_n hC dX6_settle_17 rfl ?_
    refine yr_icmp_le (tgt := 116) hC (hZ.rz (j := 22) (by decide)) Rx2 dX6_settle_18 (by decide) (fun c4 => ?_) (fun c4 => ?_)
    · have h5 := h3.1 c4
      exact yr_vret hC hr ho hZ h5 dX6_settle_116
    · have h6 := h3.2 c4
      refine h_aload_n hC dX6_settle_21 rfl ?_
      refine h_get hC fl_X6_21 (hZ.w.o 4 (by decide)) rfl dX6_settle_22 ?_
      refine yr_top (j := 22) (e := (yget A0 22 ((yz A0 22 : Nat) - 1 : Int))) hC hr ho hZ (by decide) rfl cl_X6_249 rfl (Nat.le_of_ble_eq_true rfl) (hFr_of (Nat.le_of_ble_eq_true rfl) (Nat.le_of_ble_eq_true rfl)) dX6_settle_25 ?_
      refine h_sipush (v := zI 128) hC dX6_settle_28 rfl ?_
      refine yr_irem hC dX6_settle_31 (by decide) (by decide) ?_
      refine yr_w (fun z7 e8 R9 => ?_)
      have h10 := h6 z7 e8 R9
      refine h_istore (lv' := [some (.ref (gO' Y 4)), some (.int (zI x1)), some (.int (zI x2)), some (.int (zI x3)), some (.int (zI x4)), some (.int (zI z7)), none]) hC dX6_settle_32 (Nat.le_of_ble_eq_true rfl) rfl rfl ?_
      refine h_iload hC dX6_settle_34 rfl ?_
      refine yr_callSNi (As := [.int (zI z7)]) hC hr ho hZ (cm_W_power X.la d b R9 hZ.rs h10) cl_X6_246 rfl rfl (Nat.le_of_ble_eq_true rfl) (hFr_of (Nat.le_of_ble_eq_true rfl) (Nat.le_of_ble_eq_true rfl)) dX6_settle_36 (fun r11 A12 u13 S14 R15 o16 hZ17 h18 => ?_)
      refine h_iload_n hC dX6_settle_39 rfl ?_
      refine yr_callSNi (As := [.int (zI x3)]) hC hr o16 hZ17 (cm_W_power X.la d b Rx3 hZ17.rs h18) cl_X6_246 rfl rfl (Nat.le_of_ble_eq_true rfl) (hFr_of (Nat.le_of_ble_eq_true rfl) (Nat.le_of_ble_eq_true rfl)) dX6_settle_40 (fun r19 A20 u21 S22 R23 o24 hZ25 h26 => ?_)
      refine yr_icmp_ge (tgt := 47) hC R15 R23 dX6_settle_43 (by decide) (fun c27 => ?_) (fun c27 => ?_)
      · have h28 := h26.1 c27
        refine h_aload_n hC dX6_settle_47 rfl ?_
        refine h_get hC fl_X6_60 (hZ25.w.o 4 (by decide)) rfl dX6_settle_48 ?_
        refine h_bipush (v := zI 88) hC dX6_settle_51 rfl ?_
        refine h_aload_n hC dX6_settle_53 rfl ?_
        refine h_get hC fl_X6_21 (hZ25.w.o 4 (by decide)) rfl dX6_settle_54 ?_
        refine yr_pop (j := 22) (e := (yget A20 22 ((yz A20 22 : Nat) - 1 : Int))) hC hr o24 hZ25 (by decide) rfl cl_X6_165 rfl (Nat.le_of_ble_eq_true rfl) (hFr_of (Nat.le_of_ble_eq_true rfl) (Nat.le_of_ble_eq_true rfl)) dX6_settle_57 (fun u29 S30 o31 hZ32 => ?_)
        refine h_sipush (v := zI 128) hC dX6_settle_60 rfl ?_
        refine yr_idiv hC dX6_settle_63 (by decide) (by decide) ?_
        refine h_iload hC dX6_settle_64 rfl ?_
        refine yr_callVi (As := [.int (zI 88), .int (zI (zd (yget A20 22 ((yz A20 22 : Nat) - 1 : Int)) 128)), .int (zI z7)]) hC hr o31 hZ32 rfl (hZ32.w.o 2 (by decide)) (cm_Tree_node X.la d b (by decide) (zR_t _) R9 hZ32.rs h28) cl_X6_115 rfl rfl (Nat.le_of_ble_eq_true rfl) (hFr_of (Nat.le_of_ble_eq_true rfl) (Nat.le_of_ble_eq_true rfl)) dX6_settle_66 (fun r33 A34 u35 S36 R37 o38 hZ39 h40 => ?_)
        refine h_istore (lv' := [some (.ref (gO' Y 4)), some (.int (zI x1)), some (.int (zI x2)), some (.int (zI x3)), some (.int (zI x4)), some (.int (zI z7)), some (.int (zI r33))]) hC dX6_settle_69 (Nat.le_of_ble_eq_true rfl) rfl rfl ?_
        refine h_aload_n hC dX6_settle_71 rfl ?_
        refine h_get hC fl_X6_60 (hZ39.w.o 4 (by decide)) rfl dX6_settle_72 ?_
        refine h_iload hC dX6_settle_75 rfl ?_
        refine h_iload hC dX6_settle_77 rfl ?_
        refine yr_callSNi (As := [.int (zI z7)]) hC hr o38 hZ39 (cm_W_isRelation X.la d b R9 hZ39.rs h40) cl_X6_252 rfl rfl (Nat.le_of_ble_eq_true rfl) (hFr_of (Nat.le_of_ble_eq_true rfl) (Nat.le_of_ble_eq_true rfl)) dX6_settle_79 (fun r41 A42 u43 S44 R45 o46 hZ47 h48 => ?_)
        refine yr_if_eq (tgt := 96) hC R45 dX6_settle_82 (by decide) (fun c49 => ?_) (fun c49 => ?_)
        · have h50 := h48.1 c49
          refine h_iconst (v := zI 0) hC dX6_settle_96 rfl ?_
          refine yr_callVv (As := [.int (zI r33), .int (zI 0)]) hC hr o46 hZ47 rfl (hZ47.w.o 2 (by decide)) (cm_Tree_setExtra X.la d b R37 (by decide) hZ47.rs h50) cl_X6_153 rfl rfl (Nat.le_of_ble_eq_true rfl) (hFr_of (Nat.le_of_ble_eq_true rfl) (Nat.le_of_ble_eq_true rfl)) dX6_settle_97 (fun A52 u53 S54 o56 hZ57 h58 => ?_)
          refine h_aload_n hC dX6_settle_100 rfl ?_
          refine h_get hC fl_X6_60 (hZ57.w.o 4 (by decide)) rfl dX6_settle_101 ?_
          refine h_iload_n hC dX6_settle_104 rfl ?_
          refine h_iload hC dX6_settle_105 rfl ?_
          refine yr_callVv (As := [.int (zI x1), .int (zI r33)]) hC hr o56 hZ57 rfl (hZ57.w.o 2 (by decide)) (cm_Tree_hang X.la d b Rx1 R37 hZ57.rs h58) cl_X6_123 rfl rfl (Nat.le_of_ble_eq_true rfl) (hFr_of (Nat.le_of_ble_eq_true rfl) (Nat.le_of_ble_eq_true rfl)) dX6_settle_107 (fun A60 u61 S62 o64 hZ65 h66 => ?_)
          refine yr_iinc (x := x4) (lv' := [some (.ref (gO' Y 4)), some (.int (zI x1)), some (.int (zI x2)), some (.int (zI x3)), some (.int (zI (x4 + 1))), some (.int (zI z7)), some (.int (zI r33))]) hC dX6_settle_110 rfl rfl rfl ?_
          refine h_goto (tgt := 3) hC dX6_settle_113 (by decide) ?_
          obtain ⟨o67, h68⟩ := h66
          refine h_lv (lv' := [some (.ref (gO' Y 4)), some (.int (zI x1)), some (.int (zI x2)), some (.int (zI x3)), some (.int (zI (x4 + 1))), none, none]) ⟨rfl, rfl, rfl, rfl, rfl, trivial⟩ ?_
          exact hk3 _ _ _ _ _ _ _ Rx1 Rx2 Rx3 o67 o64 hZ65 h68
        · have h69 := h48.2 c49
          refine h_iload_n hC dX6_settle_85 rfl ?_
          refine yr_callSNi (As := [.int (zI x3)]) hC hr o46 hZ47 (cm_W_isRelation X.la d b Rx3 hZ47.rs h69) cl_X6_252 rfl rfl (Nat.le_of_ble_eq_true rfl) (hFr_of (Nat.le_of_ble_eq_true rfl) (Nat.le_of_ble_eq_true rfl)) dX6_settle_86 (fun r70 A71 u72 S73 R74 o75 hZ76 h77 => ?_)
          refine yr_if_eq (tgt := 96) hC R74 dX6_settle_89 (by decide) (fun c78 => ?_) (fun c78 => ?_)
          · have h79 := h77.1 c78
            refine h_iconst (v := zI 0) hC dX6_settle_96 rfl ?_
            refine yr_callVv (As := [.int (zI r33), .int (zI 0)]) hC hr o75 hZ76 rfl (hZ76.w.o 2 (by decide)) (cm_Tree_setExtra X.la d b R37 (by decide) hZ76.rs h79) cl_X6_153 rfl rfl (Nat.le_of_ble_eq_true rfl) (hFr_of (Nat.le_of_ble_eq_true rfl) (Nat.le_of_ble_eq_true rfl)) dX6_settle_97 (fun A81 u82 S83 o85 hZ86 h87 => ?_)
            refine h_aload_n hC dX6_settle_100 rfl ?_
            refine h_get hC fl_X6_60 (hZ86.w.o 4 (by decide)) rfl dX6_settle_101 ?_
            refine h_iload_n hC dX6_settle_104 rfl ?_
            refine h_iload hC dX6_settle_105 rfl ?_
            refine yr_callVv (As := [.int (zI x1), .int (zI r33)]) hC hr o85 hZ86 rfl (hZ86.w.o 2 (by decide)) (cm_Tree_hang X.la d b Rx1 R37 hZ86.rs h87) cl_X6_123 rfl rfl (Nat.le_of_ble_eq_true rfl) (hFr_of (Nat.le_of_ble_eq_true rfl) (Nat.le_of_ble_eq_true rfl)) dX6_settle_107 (fun A89 u90 S91 o93 hZ94 h95 => ?_)
            refine yr_iinc (x := x4) (lv' := [some (.ref (gO' Y 4)), some (.int (zI x1)), some (.int (zI x2)), some (.int (zI x3)), some (.int (zI (x4 + 1))), some (.int (zI z7)), some (.int (zI r33))]) hC dX6_settle_110 rfl rfl rfl ?_
            refine h_goto (tgt := 3) hC dX6_settle_113 (by decide) ?_
            obtain ⟨o96, h97⟩ := h95
            refine h_lv (lv' := [some (.ref (gO' Y 4)), some (.int (zI x1)), some (.int (zI x2)), some (.int (zI x3)), some (.int (zI (x4 + 1))), none, none]) ⟨rfl, rfl, rfl, rfl, rfl, trivial⟩ ?_
            exact hk3 _ _ _ _ _ _ _ Rx1 Rx2 Rx3 o96 o93 hZ94 h97
          · have h98 := h77.2 c78
            refine h_iconst (v := zI 1) hC dX6_settle_92 rfl ?_
            refine h_goto (tgt := 97) hC dX6_settle_93 (by decide) ?_
            refine yr_callVv (As := [.int (zI r33), .int (zI 1)]) hC hr o75 hZ76 rfl (hZ76.w.o 2 (by decide)) (cm_Tree_setExtra X.la d b R37 (by decide) hZ76.rs h98) cl_X6_153 rfl rfl (Nat.le_of_ble_eq_true rfl) (hFr_of (Nat.le_of_ble_eq_true rfl) (Nat.le_of_ble_eq_true rfl)) dX6_settle_97 (fun A100 u101 S102 o104 hZ105 h106 => ?_)
            refine h_aload_n hC dX6_settle_100 rfl ?_
            refine h_get hC fl_X6_60 (hZ105.w.o 4 (by decide)) rfl dX6_settle_101 ?_
            refine h_iload_n hC dX6_settle_104 rfl ?_
            refine h_iload hC dX6_settle_105 rfl ?_
            refine yr_callVv (As := [.int (zI x1), .int (zI r33)]) hC hr o104 hZ105 rfl (hZ105.w.o 2 (by decide)) (cm_Tree_hang X.la d b Rx1 R37 hZ105.rs h106) cl_X6_123 rfl rfl (Nat.le_of_ble_eq_true rfl) (hFr_of (Nat.le_of_ble_eq_true rfl) (Nat.le_of_ble_eq_true rfl)) dX6_settle_107 (fun A108 u109 S110 o112 hZ113 h114 => ?_)
            refine yr_iinc (x := x4) (lv' := [some (.ref (gO' Y 4)), some (.int (zI x1)), some (.int (zI x2)), some (.int (zI x3)), some (.int (zI (x4 + 1))), some (.int (zI z7)), some (.int (zI r33))]) hC dX6_settle_110 rfl rfl rfl ?_
            refine h_goto (tgt := 3) hC dX6_settle_113 (by decide) ?_
            obtain ⟨o115, h116⟩ := h114
            refine h_lv (lv' := [some (.ref (gO' Y 4)), some (.int (zI x1)), some (.int (zI x2)), some (.int (zI x3)), some (.int (zI (x4 + 1))), none, none]) ⟨rfl, rfl, rfl, rfl, rfl, trivial⟩ ?_
            exact hk3 _ _ _ _ _ _ _ Rx1 Rx2 Rx3 o115 o112 hZ113 h116
      · have h117 := h26.2 c27
        exact yr_vret hC hr o24 hZ25 h117 dX6_settle_46
theorem cl_Parser_settle_3 {X : gX} {d : gD} {b : Nat} {Y : gYt} {c : Nat × Nat} {F0 : gM} {S0 : gSt} {mc ms : Nat} (hC : gC RX6 cX6_settle 7 none "settle" (gR 4 mc ms) d b X) (hr : hRm X b) {Q : cS → Prop}   : ∀ (m : Nat) (u : hU) (S : gSt) (A0 : cS) (x1 : Int) (x2 : Int) (x3 : Int) (x4 : Int), zR x1 → zR x2 → zR x3 → zR x4 → yOk X b u → yZ d b Y c F0 S0 u S A0 → wc_Parser_settle_3 Q  m A0 x1 x2 x3 x4 → yG X d b (yQv X d b Y c F0 S0 mc ms Q) u 3 [some (.ref (gO' Y 4)), some (.int (zI x1)), some (.int (zI x2)), some (.int (zI x3)), some (.int (zI x4)), none, none] [] := by
  intro m
  induction m with
  | zero => intro u S A0 x1 x2 x3 x4 Rx1 Rx2 Rx3 Rx4 ho hZ hw; exact False.elim hw
  | succ m ihm => intro u S A0 x1 x2 x3 x4 Rx1 Rx2 Rx3 Rx4 ho hZ hw; exact cb_Parser_settle_3 hC hr  ihm Rx1 Rx2 Rx3 Rx4 ho hZ hw
set_option maxHeartbeats 4000000 in
set_option maxRecDepth 100000 in
theorem cm_Parser_settle (l : Launch) (d : gD) (b : Nat) {Y : gYt} {c : Nat × Nat} {F : gM} {k n : Nat} {S : gSt} {A0 : cS} {a0 : Int} {a1 : Int} {a2 : Int} (Ra0 : zR a0) (Ra1 : zR a1) (Ra2 : zR a2) {Q : cS → Prop} (hZ : yZ d b Y c F S (F, k, n) S A0) (hw : wc_Parser_settle A0 a0 a1 a2 Q) : hMv l d b yX6_settle cX6_settle 7 4 k n F [.ref (gO' Y 4), .int (zI a0), .int (zI a1), .int (zI a2)] (yPv d b Y c F S Q) := by
  intro mc ms
  refine hM_of2 rfl (nL := 7) (Nat.le_of_ble_eq_true rfl) ?_
  intro X hX hC hr ho; subst hX
  show yG X d b (yQv X d b Y c F S mc ms Q) (F, k, n) 0 [some (.ref (gO' Y 4)), some (.int (zI a0)), some (.int (zI a1)), some (.int (zI a2)), none, none, none] []
  unfold wc_Parser_settle at hw
  refine h_iconst (v := zI 0) hC dX6_settle_0 rfl ?_
  refine h_istore (lv' := [some (.ref (gO' Y 4)), some (.int (zI a0)), some (.int (zI a1)), some (.int (zI a2)), some (.int (zI 0)), none, none]) hC dX6_settle_1 (Nat.le_of_ble_eq_true rfl) rfl rfl ?_
  obtain ⟨m1, h2⟩ := hw
  exact cl_Parser_settle_3 hC hr  m1 _ _ _ _ _ _ _ Ra0 Ra1 Ra2 (by decide) ho hZ h2
theorem dX6_isGlobal_0 : decode cX6_isGlobal 0 = .ok (.iconst 0, 1) := by decide +kernel
theorem dX6_isGlobal_1 : decode cX6_isGlobal 1 = .ok (.istore_n 2, 1) := by decide +kernel
theorem dX6_isGlobal_2 : decode cX6_isGlobal 2 = .ok (.iload_n 2, 1) := by decide +kernel
theorem dX6_isGlobal_3 : decode cX6_isGlobal 3 = .ok (.aload_n 0, 1) := by decide +kernel
theorem dX6_isGlobal_4 : decode cX6_isGlobal 4 = .ok (.getfield 24, 3) := by decide +kernel
theorem dX6_isGlobal_7 : decode cX6_isGlobal 7 = .ok (.invokevirtual 172, 3) := by decide +kernel
theorem dX6_isGlobal_10 : decode cX6_isGlobal 10 = .ok (.if_icmp .ge 23, 3) := by decide +kernel
theorem dX6_isGlobal_13 : decode cX6_isGlobal 13 = .ok (.aload_n 0, 1) := by decide +kernel
theorem dX6_isGlobal_14 : decode cX6_isGlobal 14 = .ok (.getfield 24, 3) := by decide +kernel
theorem dX6_isGlobal_17 : decode cX6_isGlobal 17 = .ok (.iload_n 2, 1) := by decide +kernel
theorem dX6_isGlobal_18 : decode cX6_isGlobal 18 = .ok (.invokevirtual 82, 3) := by decide +kernel
theorem dX6_isGlobal_21 : decode cX6_isGlobal 21 = .ok (.iload_n 1, 1) := by decide +kernel
theorem dX6_isGlobal_22 : decode cX6_isGlobal 22 = .ok (.if_icmp .ne 5, 3) := by decide +kernel
theorem dX6_isGlobal_25 : decode cX6_isGlobal 25 = .ok (.iconst 1, 1) := by decide +kernel
theorem dX6_isGlobal_26 : decode cX6_isGlobal 26 = .ok (.ireturn, 1) := by decide +kernel
theorem dX6_isGlobal_27 : decode cX6_isGlobal 27 = .ok (.iinc 2 1, 3) := by decide +kernel
theorem dX6_isGlobal_30 : decode cX6_isGlobal 30 = .ok (.goto (-28), 3) := by decide +kernel
theorem dX6_isGlobal_33 : decode cX6_isGlobal 33 = .ok (.iconst 0, 1) := by decide +kernel
theorem dX6_isGlobal_34 : decode cX6_isGlobal 34 = .ok (.ireturn, 1) := by decide +kernel
def wc_Parser_isGlobal_2B (Q : Int → cS → Prop) (k2 : cS → Int → Int → Prop) (A0 : cS) (x1 : Int) (x2 : Int) : Prop :=
  ((((yz A0 23 : Nat) : Int) ≤ x2 → Q 0 A0) ∧ (¬ ((yz A0 23 : Nat) : Int) ≤ x2 → ((¬ (yget A0 23 x2) = x1 → (zR (x2 + 1)) ∧ k2 A0 x1 (x2 + 1)) ∧ ((yget A0 23 x2) = x1 → Q 1 A0))))
def wc_Parser_isGlobal_2 (Q : Int → cS → Prop)  : Nat → cS → Int → Int → Prop
  | 0 => fun _ _ _ => False
  | m + 1 => fun A0 x1 x2 => wc_Parser_isGlobal_2B Q  (wc_Parser_isGlobal_2 Q  m) A0 x1 x2
def wc_Parser_isGlobal (A0 : cS) (a0 : Int) (Q : Int → cS → Prop) : Prop :=
  ∃ n, wc_Parser_isGlobal_2 Q  n A0 a0 0
set_option maxHeartbeats 4000000 in
set_option maxRecDepth 100000 in
theorem cb_Parser_isGlobal_2 {X : gX} {d : gD} {b : Nat} {Y : gYt} {c : Nat × Nat} {F0 : gM} {S0 : gSt} {mc ms : Nat} (hC : gC RX6 cX6_isGlobal 3 (some .boolean) "isGlobal" (gR 1 mc ms) d b X) (hr : hRm X b) {Q : Int → cS → Prop} {k2 : cS → Int → Int → Prop} (hk2 : ∀ (u : hU) (S : gSt) (A0 : cS) (x1 : Int) (x2 : Int), zR x1 → zR x2 → yOk X b u → yZ d b Y c F0 S0 u S A0 → k2 A0 x1 x2 → yG X d b (yQi X d b Y c F0 S0 mc ms Q) u 2 [some (.ref (gO' Y 4)), some (.int (zI x1)), some (.int (zI x2))] []) {u : hU} {S : gSt} {A0 : cS} {x1 : Int} {x2 : Int} (Rx1 : zR x1) (Rx2 : zR x2) (ho : yOk X b u) (hZ : yZ d b Y c F0 S0 u S A0) (hw : wc_Parser_isGlobal_2B Q k2 A0 x1 x2) : yG X d b (yQi X d b Y c F0 S0 mc ms Q) u 2 [some (.ref (gO' Y 4)), some (.int (zI x1)), some (.int (zI x2))] [] := by
  unfold wc_Parser_isGlobal_2B at hw
  refine h_iload_n hC dX6_isGlobal_2 rfl ?_
  refine h_aload_n hC dX6_isGlobal_3 rfl ?_
  refine h_get hC fl_X6_24 (hZ.w.o 4 (by decide)) rfl dX6_isGlobal_4 ?_
  refine yr_size (j := 23) (e := ((yz A0 23 : Nat) : Int)) hC hr ho hZ (by decide) rfl cl_X6_172 rfl (Nat.le_of_ble_eq_true rfl) (hFr_of (Nat.le_of_ble_eq_true rfl) (Nat.le_of_ble_eq_true rfl)) dX6_isGlobal_7 ?_
  refine yr_icmp_ge (tgt := 33) hC Rx2 (hZ.rz (j := 23) (by decide)) dX6_isGlobal_10 (by decide) (fun c1 => ?_) (fun c1 => ?_)
  · have h2 := hw.1 c1
    refine h_iconst (v := zI 0) hC dX6_isGlobal_33 rfl ?_
    exact yr_zret hC hr ho hZ (Or.inl rfl) h2 dX6_isGlobal_34
  · have h3 := hw.2 c1
    refine h_aload_n hC dX6_isGlobal_13 rfl ?_
    refine h_get hC fl_X6_24 (hZ.w.o 4 (by decide)) rfl dX6_isGlobal_14 ?_
    refine h_iload_n hC dX6_isGlobal_17 rfl ?_
    refine yr_get (j := 23) (e := (yget A0 23 x2)) hC hr ho hZ (by decide) Rx2 rfl cl_X6_82 rfl (Nat.le_of_ble_eq_true rfl) (hFr_of (Nat.le_of_ble_eq_true rfl) (Nat.le_of_ble_eq_true rfl)) dX6_isGlobal_18 ?_
    refine h_iload_n hC dX6_isGlobal_21 rfl ?_
    refine yr_icmp_ne (tgt := 27) hC (hZ.rg 23 _) Rx1 dX6_isGlobal_22 (by decide) (fun c4 => ?_) (fun c4 => ?_)
    · have h5 := h3.1 c4
      refine yr_iinc (x := x2) (lv' := [some (.ref (gO' Y 4)), some (.int (zI x1)), some (.int (zI (x2 + 1)))]) hC dX6_isGlobal_27 rfl rfl rfl ?_
      refine h_goto (tgt := 2) hC dX6_isGlobal_30 (by decide) ?_
      obtain ⟨o6, h7⟩ := h5
      exact hk2 _ _ _ _ _ Rx1 o6 ho hZ h7
    · have h8 := h3.2 c4
      refine h_iconst (v := zI 1) hC dX6_isGlobal_25 rfl ?_
      exact yr_zret hC hr ho hZ (Or.inr rfl) h8 dX6_isGlobal_26
theorem cl_Parser_isGlobal_2 {X : gX} {d : gD} {b : Nat} {Y : gYt} {c : Nat × Nat} {F0 : gM} {S0 : gSt} {mc ms : Nat} (hC : gC RX6 cX6_isGlobal 3 (some .boolean) "isGlobal" (gR 1 mc ms) d b X) (hr : hRm X b) {Q : Int → cS → Prop}   : ∀ (m : Nat) (u : hU) (S : gSt) (A0 : cS) (x1 : Int) (x2 : Int), zR x1 → zR x2 → yOk X b u → yZ d b Y c F0 S0 u S A0 → wc_Parser_isGlobal_2 Q  m A0 x1 x2 → yG X d b (yQi X d b Y c F0 S0 mc ms Q) u 2 [some (.ref (gO' Y 4)), some (.int (zI x1)), some (.int (zI x2))] [] := by
  intro m
  induction m with
  | zero => intro u S A0 x1 x2 Rx1 Rx2 ho hZ hw; exact False.elim hw
  | succ m ihm => intro u S A0 x1 x2 Rx1 Rx2 ho hZ hw; exact cb_Parser_isGlobal_2 hC hr  ihm Rx1 Rx2 ho hZ hw
set_option maxHeartbeats 4000000 in
set_option maxRecDepth 100000 in
theorem cm_Parser_isGlobal (l : Launch) (d : gD) (b : Nat) {Y : gYt} {c : Nat × Nat} {F : gM} {k n : Nat} {S : gSt} {A0 : cS} {a0 : Int} (Ra0 : zR a0) {Q : Int → cS → Prop} (hZ : yZ d b Y c F S (F, k, n) S A0) (hw : wc_Parser_isGlobal A0 a0 Q) : hMi l d b yX6_isGlobal cX6_isGlobal 3 .boolean 1 k n F [.ref (gO' Y 4), .int (zI a0)] (yPi d b Y c F S Q) := by
  intro mc ms
  refine hM_of2 rfl (nL := 3) (Nat.le_of_ble_eq_true rfl) ?_
  intro X hX hC hr ho; subst hX
  show yG X d b (yQi X d b Y c F S mc ms Q) (F, k, n) 0 [some (.ref (gO' Y 4)), some (.int (zI a0)), none] []
  unfold wc_Parser_isGlobal at hw
  refine h_iconst (v := zI 0) hC dX6_isGlobal_0 rfl ?_
  refine h_istore_n (lv' := [some (.ref (gO' Y 4)), some (.int (zI a0)), some (.int (zI 0))]) hC dX6_isGlobal_1 (Nat.le_of_ble_eq_true rfl) rfl rfl ?_
  obtain ⟨m1, h2⟩ := hw
  exact cl_Parser_isGlobal_2 hC hr  m1 _ _ _ _ _ Ra0 (by decide) ho hZ h2
theorem dX6_refuse_0 : decode cX6_refuse 0 = .ok (.aload_n 0, 1) := by decide +kernel
theorem dX6_refuse_1 : decode cX6_refuse 1 = .ok (.getfield 64, 3) := by decide +kernel
theorem dX6_refuse_4 : decode cX6_refuse 4 = .ok (.aload_n 0, 1) := by decide +kernel
theorem dX6_refuse_5 : decode cX6_refuse 5 = .ok (.getfield 43, 3) := by decide +kernel
theorem dX6_refuse_8 : decode cX6_refuse 8 = .ok (.aload_n 0, 1) := by decide +kernel
theorem dX6_refuse_9 : decode cX6_refuse 9 = .ok (.getfield 27, 3) := by decide +kernel
theorem dX6_refuse_12 : decode cX6_refuse 12 = .ok (.invokevirtual 82, 3) := by decide +kernel
theorem dX6_refuse_15 : decode cX6_refuse 15 = .ok (.iconst 1, 1) := by decide +kernel
theorem dX6_refuse_16 : decode cX6_refuse 16 = .ok (.if_icmp .ne 7, 3) := by decide +kernel
theorem dX6_refuse_19 : decode cX6_refuse 19 = .ok (.iconst 1, 1) := by decide +kernel
theorem dX6_refuse_20 : decode cX6_refuse 20 = .ok (.goto 4, 3) := by decide +kernel
theorem dX6_refuse_23 : decode cX6_refuse 23 = .ok (.iconst 2, 1) := by decide +kernel
theorem dX6_refuse_24 : decode cX6_refuse 24 = .ok (.aload_n 0, 1) := by decide +kernel
theorem dX6_refuse_25 : decode cX6_refuse 25 = .ok (.getfield 53, 3) := by decide +kernel
theorem dX6_refuse_28 : decode cX6_refuse 28 = .ok (.aload_n 0, 1) := by decide +kernel
theorem dX6_refuse_29 : decode cX6_refuse 29 = .ok (.getfield 27, 3) := by decide +kernel
theorem dX6_refuse_32 : decode cX6_refuse 32 = .ok (.invokevirtual 82, 3) := by decide +kernel
theorem dX6_refuse_35 : decode cX6_refuse 35 = .ok (.invokevirtual 86, 3) := by decide +kernel
theorem dX6_refuse_38 : decode cX6_refuse 38 = .ok (.new 80, 3) := by decide +kernel
theorem dX6_refuse_41 : decode cX6_refuse 41 = .ok (.dup, 1) := by decide +kernel
theorem dX6_refuse_42 : decode cX6_refuse 42 = .ok (.ldc 92, 2) := by decide +kernel
theorem dX6_refuse_44 : decode cX6_refuse 44 = .ok (.invokespecial 94, 3) := by decide +kernel
theorem dX6_refuse_47 : decode cX6_refuse 47 = .ok (.athrow, 1) := by decide +kernel
def wc_Parser_refuse (A0 : cS)  (Q : cS → Prop) (E : cS → Prop) : Prop :=
  ((¬ (yget A0 14 (yv A0 10)) = 1 → wc_Program_blame A0 2 (yget A0 16 (yv A0 10)) (fun A4 => E A4)) ∧ ((yget A0 14 (yv A0 10)) = 1 → wc_Program_blame A0 1 (yget A0 16 (yv A0 10)) (fun A13 => E A13)))
set_option maxHeartbeats 4000000 in
set_option maxRecDepth 100000 in
theorem cm_Parser_refuse (l : Launch) (d : gD) (b : Nat) {Y : gYt} {c : Nat × Nat} (hst : l.stackTraces = false) (hcx : yCx b c) {F : gM} {k n : Nat} {S : gSt} {A0 : cS}   {Q : cS → Prop} {E : cS → Prop} (hZ : yZ d b Y c F S (F, k, n) S A0) (hw : wc_Parser_refuse A0  Q E) : hXv l d b yX6_refuse cX6_refuse 1 6 k n F [.ref (gO' Y 4)] (yPv d b Y c F S Q) "java/lang/IllegalStateException" (yPx d b Y c F S E) := by
  intro mc ms
  refine hX_of2 rfl (nL := 1) (Nat.le_of_ble_eq_true rfl) ?_
  intro X hX hT hC hr ho; subst hX
  show yG X d b (yxQv X d b Y c F S mc ms Q E) (F, k, n) 0 [some (.ref (gO' Y 4))] []
  unfold wc_Parser_refuse at hw
  refine h_aload_n hC dX6_refuse_0 rfl ?_
  refine h_get hC fl_X6_64 (hZ.w.o 4 (by decide)) rfl dX6_refuse_1 ?_
  refine h_aload_n hC dX6_refuse_4 rfl ?_
  refine h_get hC fl_X6_43 (hZ.w.o 4 (by decide)) rfl dX6_refuse_5 ?_
  refine h_aload_n hC dX6_refuse_8 rfl ?_
  refine h_get hC fl_X6_27 (hZ.w.o 4 (by decide)) rfl dX6_refuse_9 ?_
  refine yr_sv (e := (yv A0 10)) hZ 10 rfl ?_
  refine yr_get (j := 14) (e := (yget A0 14 (yv A0 10))) hC hr ho hZ (by decide) (hZ.rv 10) rfl cl_X6_82 rfl (Nat.le_of_ble_eq_true rfl) (hFr_of (Nat.le_of_ble_eq_true rfl) (Nat.le_of_ble_eq_true rfl)) dX6_refuse_12 ?_
  refine h_iconst (v := zI 1) hC dX6_refuse_15 rfl ?_
  refine yr_icmp_ne (tgt := 23) hC (hZ.rg 14 _) (by decide) dX6_refuse_16 (by decide) (fun c1 => ?_) (fun c1 => ?_)
  · have h2 := hw.1 c1
    refine h_iconst (v := zI 2) hC dX6_refuse_23 rfl ?_
    refine h_aload_n hC dX6_refuse_24 rfl ?_
    refine h_get hC fl_X6_53 (hZ.w.o 4 (by decide)) rfl dX6_refuse_25 ?_
    refine h_aload_n hC dX6_refuse_28 rfl ?_
    refine h_get hC fl_X6_27 (hZ.w.o 4 (by decide)) rfl dX6_refuse_29 ?_
    refine yr_sv (e := (yv A0 10)) hZ 10 rfl ?_
    refine yr_get (j := 16) (e := (yget A0 16 (yv A0 10))) hC hr ho hZ (by decide) (hZ.rv 10) rfl cl_X6_82 rfl (Nat.le_of_ble_eq_true rfl) (hFr_of (Nat.le_of_ble_eq_true rfl) (Nat.le_of_ble_eq_true rfl)) dX6_refuse_32 ?_
    refine yr_callVv (As := [.int (zI 2), .int (zI (yget A0 16 (yv A0 10)))]) hC hr ho hZ rfl (hZ.w.o 1 (by decide)) (cm_Program_blame X.la d b (by decide) (hZ.rg 16 _) hZ.rs h2) cl_X6_86 rfl rfl (Nat.le_of_ble_eq_true rfl) (hFr_of (Nat.le_of_ble_eq_true rfl) (Nat.le_of_ble_eq_true rfl)) dX6_refuse_35 (fun A4 u5 S6 o8 hZ9 h10 => ?_)
    exact yx_throw hC hr o8 hZ9 hst hT hcx kw_950 kw_261 rfl dX6_refuse_38 dX6_refuse_41 dX6_refuse_42 dX6_refuse_44 dX6_refuse_47 (by decide) (Nat.le_of_ble_eq_true rfl) h10
  · have h11 := hw.2 c1
    refine h_iconst (v := zI 1) hC dX6_refuse_19 rfl ?_
    refine h_goto (tgt := 24) hC dX6_refuse_20 (by decide) ?_
    refine h_aload_n hC dX6_refuse_24 rfl ?_
    refine h_get hC fl_X6_53 (hZ.w.o 4 (by decide)) rfl dX6_refuse_25 ?_
    refine h_aload_n hC dX6_refuse_28 rfl ?_
    refine h_get hC fl_X6_27 (hZ.w.o 4 (by decide)) rfl dX6_refuse_29 ?_
    refine yr_sv (e := (yv A0 10)) hZ 10 rfl ?_
    refine yr_get (j := 16) (e := (yget A0 16 (yv A0 10))) hC hr ho hZ (by decide) (hZ.rv 10) rfl cl_X6_82 rfl (Nat.le_of_ble_eq_true rfl) (hFr_of (Nat.le_of_ble_eq_true rfl) (Nat.le_of_ble_eq_true rfl)) dX6_refuse_32 ?_
    refine yr_callVv (As := [.int (zI 1), .int (zI (yget A0 16 (yv A0 10)))]) hC hr ho hZ rfl (hZ.w.o 1 (by decide)) (cm_Program_blame X.la d b (by decide) (hZ.rg 16 _) hZ.rs h11) cl_X6_86 rfl rfl (Nat.le_of_ble_eq_true rfl) (hFr_of (Nat.le_of_ble_eq_true rfl) (Nat.le_of_ble_eq_true rfl)) dX6_refuse_35 (fun A13 u14 S15 o17 hZ18 h19 => ?_)
    exact yx_throw hC hr o17 hZ18 hst hT hcx kw_950 kw_261 rfl dX6_refuse_38 dX6_refuse_41 dX6_refuse_42 dX6_refuse_44 dX6_refuse_47 (by decide) (Nat.le_of_ble_eq_true rfl) h19
theorem dX6_enter_0 : decode cX6_enter 0 = .ok (.aload_n 0, 1) := by decide +kernel
theorem dX6_enter_1 : decode cX6_enter 1 = .ok (.getfield 31, 3) := by decide +kernel
theorem dX6_enter_4 : decode cX6_enter 4 = .ok (.bipush 60, 2) := by decide +kernel
theorem dX6_enter_6 : decode cX6_enter 6 = .ok (.if_icmp .lt 7, 3) := by decide +kernel
theorem dX6_enter_9 : decode cX6_enter 9 = .ok (.aload_n 0, 1) := by decide +kernel
theorem dX6_enter_10 : decode cX6_enter 10 = .ok (.invokevirtual 100, 3) := by decide +kernel
theorem dX6_enter_13 : decode cX6_enter 13 = .ok (.aload_n 0, 1) := by decide +kernel
theorem dX6_enter_14 : decode cX6_enter 14 = .ok (.dup, 1) := by decide +kernel
theorem dX6_enter_15 : decode cX6_enter 15 = .ok (.getfield 31, 3) := by decide +kernel
theorem dX6_enter_18 : decode cX6_enter 18 = .ok (.iconst 1, 1) := by decide +kernel
theorem dX6_enter_19 : decode cX6_enter 19 = .ok (.iadd, 1) := by decide +kernel
theorem dX6_enter_20 : decode cX6_enter 20 = .ok (.putfield 31, 3) := by decide +kernel
theorem dX6_enter_23 : decode cX6_enter 23 = .ok (.return_, 1) := by decide +kernel
def wc_Parser_enter (A0 : cS)  (Q : cS → Prop) (E : cS → Prop) : Prop :=
  (((yv A0 11) < 60 → (zR ((yv A0 11) + 1)) ∧ Q (ypv A0 11 ((yv A0 11) + 1))) ∧ (¬ (yv A0 11) < 60 → wc_Parser_refuse A0  (fun A18 => (zR ((yv A18 11) + 1)) ∧ Q (ypv A18 11 ((yv A18 11) + 1))) E))
set_option maxHeartbeats 4000000 in
set_option maxRecDepth 100000 in
theorem cm_Parser_enter (l : Launch) (d : gD) (b : Nat) {Y : gYt} {c : Nat × Nat} (hst : l.stackTraces = false) (hcx : yCx b c) {F : gM} {k n : Nat} {S : gSt} {A0 : cS}   {Q : cS → Prop} {E : cS → Prop} (hZ : yZ d b Y c F S (F, k, n) S A0) (hw : wc_Parser_enter A0  Q E) : hXv l d b yX6_enter cX6_enter 1 7 k n F [.ref (gO' Y 4)] (yPv d b Y c F S Q) "java/lang/IllegalStateException" (yPx d b Y c F S E) := by
  intro mc ms
  refine hX_of2 rfl (nL := 1) (Nat.le_of_ble_eq_true rfl) ?_
  intro X hX hT hC hr ho; subst hX
  show yG X d b (yxQv X d b Y c F S mc ms Q E) (F, k, n) 0 [some (.ref (gO' Y 4))] []
  unfold wc_Parser_enter at hw
  refine h_aload_n hC dX6_enter_0 rfl ?_
  refine h_get hC fl_X6_31 (hZ.w.o 4 (by decide)) rfl dX6_enter_1 ?_
  refine yr_sv (e := (yv A0 11)) hZ 11 rfl ?_
  refine h_bipush (v := zI 60) hC dX6_enter_4 rfl ?_
  refine yr_icmp_lt (tgt := 13) hC (hZ.rv 11) (by decide) dX6_enter_6 (by decide) (fun c1 => ?_) (fun c1 => ?_)
  · have h2 := hw.1 c1
    refine h_aload_n hC dX6_enter_13 rfl ?_
    refine h_dup hC dX6_enter_14 rfl ?_
    refine h_get hC fl_X6_31 (hZ.w.o 4 (by decide)) rfl dX6_enter_15 ?_
    refine yr_sv (e := (yv A0 11)) hZ 11 rfl ?_
    refine h_iconst (v := zI 1) hC dX6_enter_18 rfl ?_
    refine yr_iadd hC dX6_enter_19 ?_
    obtain ⟨o3, h4⟩ := h2
    refine hi_putx (i := 4) (kx := 11) hC hZ.hi (by decide) fl_X6_31 rfl rfl rfl (Nat.le_of_ble_eq_true rfl) rfl gsame_11 (fun q => absurd q (by decide)) dX6_enter_20 (fun F5 S6 I7 K8 s9 v10 p11 => ?_)
    have hZ12 := hZ.put I7 K8 s9 v10 o3 rfl
    clear I7 K8 s9 v10 p11
    refine yr_nu ho hZ12 (fun u13 o14 hZ15 => ?_)
    exact h_xret (yr_vret hC hr o14 hZ15 h4 dX6_enter_23)
  · have h16 := hw.2 c1
    refine h_aload_n hC dX6_enter_9 rfl ?_
    refine yx_callv (As := []) hC hr ho hZ rfl (hZ.w.o 4 (by decide)) (cm_Parser_refuse X.la d b hst hcx  hZ.rs h16) cl_X6_100 rfl rfl (Nat.le_of_ble_eq_true rfl) (hFr_of (Nat.le_of_ble_eq_true rfl) (Nat.le_of_ble_eq_true rfl)) dX6_enter_10 (fun _ _ _ ho1 hz1 he1 => yx_out hC hr ho1 hz1 hT he1) (fun A18 u19 S20 o22 hZ23 h24 => ?_)
    refine h_aload_n hC dX6_enter_13 rfl ?_
    refine h_dup hC dX6_enter_14 rfl ?_
    refine h_get hC fl_X6_31 (hZ23.w.o 4 (by decide)) rfl dX6_enter_15 ?_
    refine yr_sv (e := (yv A18 11)) hZ23 11 rfl ?_
    refine h_iconst (v := zI 1) hC dX6_enter_18 rfl ?_
    refine yr_iadd hC dX6_enter_19 ?_
    obtain ⟨o25, h26⟩ := h24
    refine hi_putx (i := 4) (kx := 11) hC hZ23.hi (by decide) fl_X6_31 rfl rfl rfl (Nat.le_of_ble_eq_true rfl) rfl gsame_11 (fun q => absurd q (by decide)) dX6_enter_20 (fun F27 S28 I29 K30 s31 v32 p33 => ?_)
    have hZ34 := hZ23.put I29 K30 s31 v32 o25 rfl
    clear I29 K30 s31 v32 p33
    refine yr_nu o22 hZ34 (fun u35 o36 hZ37 => ?_)
    exact h_xret (yr_vret hC hr o36 hZ37 h26 dX6_enter_23)
theorem dX6_open_0 : decode cX6_open 0 = .ok (.aload_n 0, 1) := by decide +kernel
theorem dX6_open_1 : decode cX6_open 1 = .ok (.invokevirtual 97, 3) := by decide +kernel
theorem dX6_open_4 : decode cX6_open 4 = .ok (.iconst 5, 1) := by decide +kernel
theorem dX6_open_5 : decode cX6_open 5 = .ok (.if_icmp .eq 7, 3) := by decide +kernel
theorem dX6_open_8 : decode cX6_open 8 = .ok (.aload_n 0, 1) := by decide +kernel
theorem dX6_open_9 : decode cX6_open 9 = .ok (.invokevirtual 100, 3) := by decide +kernel
theorem dX6_open_12 : decode cX6_open 12 = .ok (.aload_n 0, 1) := by decide +kernel
theorem dX6_open_13 : decode cX6_open 13 = .ok (.invokevirtual 162, 3) := by decide +kernel
theorem dX6_open_16 : decode cX6_open 16 = .ok (.aload_n 0, 1) := by decide +kernel
theorem dX6_open_17 : decode cX6_open 17 = .ok (.getfield 15, 3) := by decide +kernel
theorem dX6_open_20 : decode cX6_open 20 = .ok (.aload_n 0, 1) := by decide +kernel
theorem dX6_open_21 : decode cX6_open 21 = .ok (.invokevirtual 106, 3) := by decide +kernel
theorem dX6_open_24 : decode cX6_open 24 = .ok (.invokevirtual 147, 3) := by decide +kernel
theorem dX6_open_27 : decode cX6_open 27 = .ok (.aload_n 0, 1) := by decide +kernel
theorem dX6_open_28 : decode cX6_open 28 = .ok (.invokevirtual 103, 3) := by decide +kernel
theorem dX6_open_31 : decode cX6_open 31 = .ok (.return_, 1) := by decide +kernel
def wc_Parser_open (A0 : cS)  (Q : cS → Prop) (E : cS → Prop) : Prop :=
  wc_Parser_kind A0  (fun r1 A2 => ((r1 = 5 → wc_Parser_enter A2  (fun A12 => wc_Parser_info A12  (fun r19 A20 => ((yz A20 21) < 1400) ∧ wc_Parser_advance (yadd A20 21 r19)  (fun A34 => Q A34))) E) ∧ (¬ r1 = 5 → wc_Parser_refuse A2  (fun A43 => wc_Parser_enter A43  (fun A51 => wc_Parser_info A51  (fun r58 A59 => ((yz A59 21) < 1400) ∧ wc_Parser_advance (yadd A59 21 r58)  (fun A73 => Q A73))) E) E)))
set_option maxHeartbeats 4000000 in
set_option maxRecDepth 100000 in
theorem cm_Parser_open (l : Launch) (d : gD) (b : Nat) {Y : gYt} {c : Nat × Nat} (hst : l.stackTraces = false) (hcx : yCx b c) {F : gM} {k n : Nat} {S : gSt} {A0 : cS}   {Q : cS → Prop} {E : cS → Prop} (hZ : yZ d b Y c F S (F, k, n) S A0) (hw : wc_Parser_open A0  Q E) : hXv l d b yX6_open cX6_open 1 8 k n F [.ref (gO' Y 4)] (yPv d b Y c F S Q) "java/lang/IllegalStateException" (yPx d b Y c F S E) := by
  intro mc ms
  refine hX_of2 rfl (nL := 1) (Nat.le_of_ble_eq_true rfl) ?_
  intro X hX hT hC hr ho; subst hX
  show yG X d b (yxQv X d b Y c F S mc ms Q E) (F, k, n) 0 [some (.ref (gO' Y 4))] []
  unfold wc_Parser_open at hw
  refine h_aload_n hC dX6_open_0 rfl ?_
  refine yr_callVi (As := []) hC hr ho hZ rfl (hZ.w.o 4 (by decide)) (cm_Parser_kind X.la d b  hZ.rs hw) cl_X6_97 rfl rfl (Nat.le_of_ble_eq_true rfl) (hFr_of (Nat.le_of_ble_eq_true rfl) (Nat.le_of_ble_eq_true rfl)) dX6_open_1 (fun r1 A2 u3 S4 R5 o6 hZ7 h8 => ?_)
  refine h_iconst (v := zI 5) hC dX6_open_4 rfl ?_
  refine yr_icmp_eq (tgt := 12) hC R5 (by decide) dX6_open_5 (by decide) (fun c9 => ?_) (fun c9 => ?_)
  · have h10 := h8.1 c9
    refine h_aload_n hC dX6_open_12 rfl ?_
    refine yx_callv (As := []) hC hr o6 hZ7 rfl (hZ7.w.o 4 (by decide)) (cm_Parser_enter X.la d b hst hcx  hZ7.rs h10) cl_X6_162 rfl rfl (Nat.le_of_ble_eq_true rfl) (hFr_of (Nat.le_of_ble_eq_true rfl) (Nat.le_of_ble_eq_true rfl)) dX6_open_13 (fun _ _ _ ho1 hz1 he1 => yx_out hC hr ho1 hz1 hT he1) (fun A12 u13 S14 o16 hZ17 h18 => ?_)
    refine h_aload_n hC dX6_open_16 rfl ?_
    refine h_get hC fl_X6_15 (hZ17.w.o 4 (by decide)) rfl dX6_open_17 ?_
    refine h_aload_n hC dX6_open_20 rfl ?_
    refine yr_callVi (As := []) hC hr o16 hZ17 rfl (hZ17.w.o 4 (by decide)) (cm_Parser_info X.la d b  hZ17.rs h18) cl_X6_106 rfl rfl (Nat.le_of_ble_eq_true rfl) (hFr_of (Nat.le_of_ble_eq_true rfl) (Nat.le_of_ble_eq_true rfl)) dX6_open_21 (fun r19 A20 u21 S22 R23 o24 hZ25 h26 => ?_)
    obtain ⟨o31, h32⟩ := h26
    refine yr_add (j := 21) hC hr o24 hZ25 (by decide) (by decide) R23 o31 cl_X6_147 rfl (Nat.le_of_ble_eq_true rfl) (hFr_of (Nat.le_of_ble_eq_true rfl) (Nat.le_of_ble_eq_true rfl)) dX6_open_24 (fun u27 S28 o29 hZ30 => ?_)
    refine h_aload_n hC dX6_open_27 rfl ?_
    refine yr_callVv (As := []) hC hr o29 hZ30 rfl (hZ30.w.o 4 (by decide)) (cm_Parser_advance X.la d b  hZ30.rs h32) cl_X6_103 rfl rfl (Nat.le_of_ble_eq_true rfl) (hFr_of (Nat.le_of_ble_eq_true rfl) (Nat.le_of_ble_eq_true rfl)) dX6_open_28 (fun A34 u35 S36 o38 hZ39 h40 => ?_)
    exact h_xret (yr_vret hC hr o38 hZ39 h40 dX6_open_31)
  · have h41 := h8.2 c9
    refine h_aload_n hC dX6_open_8 rfl ?_
    refine yx_callv (As := []) hC hr o6 hZ7 rfl (hZ7.w.o 4 (by decide)) (cm_Parser_refuse X.la d b hst hcx  hZ7.rs h41) cl_X6_100 rfl rfl (Nat.le_of_ble_eq_true rfl) (hFr_of (Nat.le_of_ble_eq_true rfl) (Nat.le_of_ble_eq_true rfl)) dX6_open_9 (fun _ _ _ ho1 hz1 he1 => yx_out hC hr ho1 hz1 hT he1) (fun A43 u44 S45 o47 hZ48 h49 => ?_)
    refine h_aload_n hC dX6_open_12 rfl ?_
    refine yx_callv (As := []) hC hr o47 hZ48 rfl (hZ48.w.o 4 (by decide)) (cm_Parser_enter X.la d b hst hcx  hZ48.rs h49) cl_X6_162 rfl rfl (Nat.le_of_ble_eq_true rfl) (hFr_of (Nat.le_of_ble_eq_true rfl) (Nat.le_of_ble_eq_true rfl)) dX6_open_13 (fun _ _ _ ho1 hz1 he1 => yx_out hC hr ho1 hz1 hT he1) (fun A51 u52 S53 o55 hZ56 h57 => ?_)
    refine h_aload_n hC dX6_open_16 rfl ?_
    refine h_get hC fl_X6_15 (hZ56.w.o 4 (by decide)) rfl dX6_open_17 ?_
    refine h_aload_n hC dX6_open_20 rfl ?_
    refine yr_callVi (As := []) hC hr o55 hZ56 rfl (hZ56.w.o 4 (by decide)) (cm_Parser_info X.la d b  hZ56.rs h57) cl_X6_106 rfl rfl (Nat.le_of_ble_eq_true rfl) (hFr_of (Nat.le_of_ble_eq_true rfl) (Nat.le_of_ble_eq_true rfl)) dX6_open_21 (fun r58 A59 u60 S61 R62 o63 hZ64 h65 => ?_)
    obtain ⟨o70, h71⟩ := h65
    refine yr_add (j := 21) hC hr o63 hZ64 (by decide) (by decide) R62 o70 cl_X6_147 rfl (Nat.le_of_ble_eq_true rfl) (hFr_of (Nat.le_of_ble_eq_true rfl) (Nat.le_of_ble_eq_true rfl)) dX6_open_24 (fun u66 S67 o68 hZ69 => ?_)
    refine h_aload_n hC dX6_open_27 rfl ?_
    refine yr_callVv (As := []) hC hr o68 hZ69 rfl (hZ69.w.o 4 (by decide)) (cm_Parser_advance X.la d b  hZ69.rs h71) cl_X6_103 rfl rfl (Nat.le_of_ble_eq_true rfl) (hFr_of (Nat.le_of_ble_eq_true rfl) (Nat.le_of_ble_eq_true rfl)) dX6_open_28 (fun A73 u74 S75 o77 hZ78 h79 => ?_)
    exact h_xret (yr_vret hC hr o77 hZ78 h79 dX6_open_31)
theorem dX6_due_0 : decode cX6_due 0 = .ok (.aload_n 0, 1) := by decide +kernel
theorem dX6_due_1 : decode cX6_due 1 = .ok (.invokevirtual 97, 3) := by decide +kernel
theorem dX6_due_4 : decode cX6_due 4 = .ok (.iload_n 1, 1) := by decide +kernel
theorem dX6_due_5 : decode cX6_due 5 = .ok (.if_icmp .eq 7, 3) := by decide +kernel
theorem dX6_due_8 : decode cX6_due 8 = .ok (.aload_n 0, 1) := by decide +kernel
theorem dX6_due_9 : decode cX6_due 9 = .ok (.invokevirtual 100, 3) := by decide +kernel
theorem dX6_due_12 : decode cX6_due 12 = .ok (.aload_n 0, 1) := by decide +kernel
theorem dX6_due_13 : decode cX6_due 13 = .ok (.invokevirtual 103, 3) := by decide +kernel
theorem dX6_due_16 : decode cX6_due 16 = .ok (.return_, 1) := by decide +kernel
def wc_Parser_due (A0 : cS) (a0 : Int) (Q : cS → Prop) (E : cS → Prop) : Prop :=
  wc_Parser_kind A0  (fun r1 A2 => ((r1 = a0 → wc_Parser_advance A2  (fun A12 => Q A12)) ∧ (¬ r1 = a0 → wc_Parser_refuse A2  (fun A21 => wc_Parser_advance A21  (fun A29 => Q A29)) E)))
set_option maxHeartbeats 4000000 in
set_option maxRecDepth 100000 in
theorem cm_Parser_due (l : Launch) (d : gD) (b : Nat) {Y : gYt} {c : Nat × Nat} (hst : l.stackTraces = false) (hcx : yCx b c) {F : gM} {k n : Nat} {S : gSt} {A0 : cS} {a0 : Int} (Ra0 : zR a0) {Q : cS → Prop} {E : cS → Prop} (hZ : yZ d b Y c F S (F, k, n) S A0) (hw : wc_Parser_due A0 a0 Q E) : hXv l d b yX6_due cX6_due 2 7 k n F [.ref (gO' Y 4), .int (zI a0)] (yPv d b Y c F S Q) "java/lang/IllegalStateException" (yPx d b Y c F S E) := by
  intro mc ms
  refine hX_of2 rfl (nL := 2) (Nat.le_of_ble_eq_true rfl) ?_
  intro X hX hT hC hr ho; subst hX
  show yG X d b (yxQv X d b Y c F S mc ms Q E) (F, k, n) 0 [some (.ref (gO' Y 4)), some (.int (zI a0))] []
  unfold wc_Parser_due at hw
  refine h_aload_n hC dX6_due_0 rfl ?_
  refine yr_callVi (As := []) hC hr ho hZ rfl (hZ.w.o 4 (by decide)) (cm_Parser_kind X.la d b  hZ.rs hw) cl_X6_97 rfl rfl (Nat.le_of_ble_eq_true rfl) (hFr_of (Nat.le_of_ble_eq_true rfl) (Nat.le_of_ble_eq_true rfl)) dX6_due_1 (fun r1 A2 u3 S4 R5 o6 hZ7 h8 => ?_)
  refine h_iload_n hC dX6_due_4 rfl ?_
  refine yr_icmp_eq (tgt := 12) hC R5 Ra0 dX6_due_5 (by decide) (fun c9 => ?_) (fun c9 => ?_)
  · have h10 := h8.1 c9
    refine h_aload_n hC dX6_due_12 rfl ?_
    refine yr_callVv (As := []) hC hr o6 hZ7 rfl (hZ7.w.o 4 (by decide)) (cm_Parser_advance X.la d b  hZ7.rs h10) cl_X6_103 rfl rfl (Nat.le_of_ble_eq_true rfl) (hFr_of (Nat.le_of_ble_eq_true rfl) (Nat.le_of_ble_eq_true rfl)) dX6_due_13 (fun A12 u13 S14 o16 hZ17 h18 => ?_)
    exact h_xret (yr_vret hC hr o16 hZ17 h18 dX6_due_16)
  · have h19 := h8.2 c9
    refine h_aload_n hC dX6_due_8 rfl ?_
    refine yx_callv (As := []) hC hr o6 hZ7 rfl (hZ7.w.o 4 (by decide)) (cm_Parser_refuse X.la d b hst hcx  hZ7.rs h19) cl_X6_100 rfl rfl (Nat.le_of_ble_eq_true rfl) (hFr_of (Nat.le_of_ble_eq_true rfl) (Nat.le_of_ble_eq_true rfl)) dX6_due_9 (fun _ _ _ ho1 hz1 he1 => yx_out hC hr ho1 hz1 hT he1) (fun A21 u22 S23 o25 hZ26 h27 => ?_)
    refine h_aload_n hC dX6_due_12 rfl ?_
    refine yr_callVv (As := []) hC hr o25 hZ26 rfl (hZ26.w.o 4 (by decide)) (cm_Parser_advance X.la d b  hZ26.rs h27) cl_X6_103 rfl rfl (Nat.le_of_ble_eq_true rfl) (hFr_of (Nat.le_of_ble_eq_true rfl) (Nat.le_of_ble_eq_true rfl)) dX6_due_13 (fun A29 u30 S31 o33 hZ34 h35 => ?_)
    exact h_xret (yr_vret hC hr o33 hZ34 h35 dX6_due_16)
theorem dX6_nameDue_0 : decode cX6_nameDue 0 = .ok (.aload_n 0, 1) := by decide +kernel
theorem dX6_nameDue_1 : decode cX6_nameDue 1 = .ok (.invokevirtual 106, 3) := by decide +kernel
theorem dX6_nameDue_4 : decode cX6_nameDue 4 = .ok (.istore_n 1, 1) := by decide +kernel
theorem dX6_nameDue_5 : decode cX6_nameDue 5 = .ok (.aload_n 0, 1) := by decide +kernel
theorem dX6_nameDue_6 : decode cX6_nameDue 6 = .ok (.iconst 2, 1) := by decide +kernel
theorem dX6_nameDue_7 : decode cX6_nameDue 7 = .ok (.invokevirtual 109, 3) := by decide +kernel
theorem dX6_nameDue_10 : decode cX6_nameDue 10 = .ok (.iload_n 1, 1) := by decide +kernel
theorem dX6_nameDue_11 : decode cX6_nameDue 11 = .ok (.ireturn, 1) := by decide +kernel
def wc_Parser_nameDue (A0 : cS)  (Q : Int → cS → Prop) (E : cS → Prop) : Prop :=
  wc_Parser_info A0  (fun r1 A2 => wc_Parser_due A2 2 (fun A10 => Q r1 A10) E)
set_option maxHeartbeats 4000000 in
set_option maxRecDepth 100000 in
theorem cm_Parser_nameDue (l : Launch) (d : gD) (b : Nat) {Y : gYt} {c : Nat × Nat} (hst : l.stackTraces = false) (hcx : yCx b c) {F : gM} {k n : Nat} {S : gSt} {A0 : cS}   {Q : Int → cS → Prop} {E : cS → Prop} (hZ : yZ d b Y c F S (F, k, n) S A0) (hw : wc_Parser_nameDue A0  Q E) : hXi l d b yX6_nameDue cX6_nameDue 2 .int 8 k n F [.ref (gO' Y 4)] (yPi d b Y c F S Q) "java/lang/IllegalStateException" (yPx d b Y c F S E) := by
  intro mc ms
  refine hX_of2 rfl (nL := 2) (Nat.le_of_ble_eq_true rfl) ?_
  intro X hX hT hC hr ho; subst hX
  show yG X d b (yxQi X d b Y c F S mc ms Q E) (F, k, n) 0 [some (.ref (gO' Y 4)), none] []
  unfold wc_Parser_nameDue at hw
  refine h_aload_n hC dX6_nameDue_0 rfl ?_
  refine yr_callVi (As := []) hC hr ho hZ rfl (hZ.w.o 4 (by decide)) (cm_Parser_info X.la d b  hZ.rs hw) cl_X6_106 rfl rfl (Nat.le_of_ble_eq_true rfl) (hFr_of (Nat.le_of_ble_eq_true rfl) (Nat.le_of_ble_eq_true rfl)) dX6_nameDue_1 (fun r1 A2 u3 S4 R5 o6 hZ7 h8 => ?_)
  refine h_istore_n (lv' := [some (.ref (gO' Y 4)), some (.int (zI r1))]) hC dX6_nameDue_4 (Nat.le_of_ble_eq_true rfl) rfl rfl ?_
  refine h_aload_n hC dX6_nameDue_5 rfl ?_
  refine h_iconst (v := zI 2) hC dX6_nameDue_6 rfl ?_
  refine yx_callv (As := [.int (zI 2)]) hC hr o6 hZ7 rfl (hZ7.w.o 4 (by decide)) (cm_Parser_due X.la d b hst hcx (by decide) hZ7.rs h8) cl_X6_109 rfl rfl (Nat.le_of_ble_eq_true rfl) (hFr_of (Nat.le_of_ble_eq_true rfl) (Nat.le_of_ble_eq_true rfl)) dX6_nameDue_7 (fun _ _ _ ho1 hz1 he1 => yx_out hC hr ho1 hz1 hT he1) (fun A10 u11 S12 o14 hZ15 h16 => ?_)
  refine h_iload_n hC dX6_nameDue_10 rfl ?_
  exact h_xret (yr_iret hC hr o14 hZ15 R5 h16 dX6_nameDue_11)
theorem dX6_passSigns_0 : decode cX6_passSigns 0 = .ok (.iload_n 1, 1) := by decide +kernel
theorem dX6_passSigns_1 : decode cX6_passSigns 1 = .ok (.istore_n 2, 1) := by decide +kernel
theorem dX6_passSigns_2 : decode cX6_passSigns 2 = .ok (.iconst 0, 1) := by decide +kernel
theorem dX6_passSigns_3 : decode cX6_passSigns 3 = .ok (.istore_n 3, 1) := by decide +kernel
theorem dX6_passSigns_4 : decode cX6_passSigns 4 = .ok (.iload_n 3, 1) := by decide +kernel
theorem dX6_passSigns_5 : decode cX6_passSigns 5 = .ok (.ldc 11, 2) := by decide +kernel
theorem dX6_passSigns_7 : decode cX6_passSigns 7 = .ok (.if_icmp .ge 135, 3) := by decide +kernel
theorem dX6_passSigns_10 : decode cX6_passSigns 10 = .ok (.aload_n 0, 1) := by decide +kernel
theorem dX6_passSigns_11 : decode cX6_passSigns 11 = .ok (.invokevirtual 97, 3) := by decide +kernel
theorem dX6_passSigns_14 : decode cX6_passSigns 14 = .ok (.istore 4, 2) := by decide +kernel
theorem dX6_passSigns_16 : decode cX6_passSigns 16 = .ok (.iload 4, 2) := by decide +kernel
theorem dX6_passSigns_18 : decode cX6_passSigns 18 = .ok (.bipush 16, 2) := by decide +kernel
theorem dX6_passSigns_20 : decode cX6_passSigns 20 = .ok (.if_icmp .eq 17, 3) := by decide +kernel
theorem dX6_passSigns_23 : decode cX6_passSigns 23 = .ok (.iload 4, 2) := by decide +kernel
theorem dX6_passSigns_25 : decode cX6_passSigns 25 = .ok (.bipush 17, 2) := by decide +kernel
theorem dX6_passSigns_27 : decode cX6_passSigns 27 = .ok (.if_icmp .eq 10, 3) := by decide +kernel
theorem dX6_passSigns_30 : decode cX6_passSigns 30 = .ok (.iload 4, 2) := by decide +kernel
theorem dX6_passSigns_32 : decode cX6_passSigns 32 = .ok (.bipush 28, 2) := by decide +kernel
theorem dX6_passSigns_34 : decode cX6_passSigns 34 = .ok (.if_icmp .ne 7, 3) := by decide +kernel
theorem dX6_passSigns_37 : decode cX6_passSigns 37 = .ok (.iconst 1, 1) := by decide +kernel
theorem dX6_passSigns_38 : decode cX6_passSigns 38 = .ok (.goto 4, 3) := by decide +kernel
theorem dX6_passSigns_41 : decode cX6_passSigns 41 = .ok (.iconst 0, 1) := by decide +kernel
theorem dX6_passSigns_42 : decode cX6_passSigns 42 = .ok (.istore 5, 2) := by decide +kernel
theorem dX6_passSigns_44 : decode cX6_passSigns 44 = .ok (.iload 4, 2) := by decide +kernel
theorem dX6_passSigns_46 : decode cX6_passSigns 46 = .ok (.bipush 13, 2) := by decide +kernel
theorem dX6_passSigns_48 : decode cX6_passSigns 48 = .ok (.if_icmp .eq 10, 3) := by decide +kernel
theorem dX6_passSigns_51 : decode cX6_passSigns 51 = .ok (.iload 4, 2) := by decide +kernel
theorem dX6_passSigns_53 : decode cX6_passSigns 53 = .ok (.bipush 15, 2) := by decide +kernel
theorem dX6_passSigns_55 : decode cX6_passSigns 55 = .ok (.if_icmp .ne 7, 3) := by decide +kernel
theorem dX6_passSigns_58 : decode cX6_passSigns 58 = .ok (.iconst 1, 1) := by decide +kernel
theorem dX6_passSigns_59 : decode cX6_passSigns 59 = .ok (.goto 4, 3) := by decide +kernel
theorem dX6_passSigns_62 : decode cX6_passSigns 62 = .ok (.iconst 0, 1) := by decide +kernel
theorem dX6_passSigns_63 : decode cX6_passSigns 63 = .ok (.istore 6, 2) := by decide +kernel
theorem dX6_passSigns_65 : decode cX6_passSigns 65 = .ok (.iload 6, 2) := by decide +kernel
theorem dX6_passSigns_67 : decode cX6_passSigns 67 = .ok (.ifCond .ne 13, 3) := by decide +kernel
theorem dX6_passSigns_70 : decode cX6_passSigns 70 = .ok (.iload_n 2, 1) := by decide +kernel
theorem dX6_passSigns_71 : decode cX6_passSigns 71 = .ok (.ifCond .eq 8, 3) := by decide +kernel
theorem dX6_passSigns_74 : decode cX6_passSigns 74 = .ok (.iload 5, 2) := by decide +kernel
theorem dX6_passSigns_76 : decode cX6_passSigns 76 = .ok (.ifCond .ne 4, 3) := by decide +kernel
theorem dX6_passSigns_79 : decode cX6_passSigns 79 = .ok (.return_, 1) := by decide +kernel
theorem dX6_passSigns_80 : decode cX6_passSigns 80 = .ok (.iload_n 2, 1) := by decide +kernel
theorem dX6_passSigns_81 : decode cX6_passSigns 81 = .ok (.ifCond .eq 12, 3) := by decide +kernel
theorem dX6_passSigns_84 : decode cX6_passSigns 84 = .ok (.iload 5, 2) := by decide +kernel
theorem dX6_passSigns_86 : decode cX6_passSigns 86 = .ok (.ifCond .eq 7, 3) := by decide +kernel
theorem dX6_passSigns_89 : decode cX6_passSigns 89 = .ok (.iconst 1, 1) := by decide +kernel
theorem dX6_passSigns_90 : decode cX6_passSigns 90 = .ok (.goto 4, 3) := by decide +kernel
theorem dX6_passSigns_93 : decode cX6_passSigns 93 = .ok (.iconst 0, 1) := by decide +kernel
theorem dX6_passSigns_94 : decode cX6_passSigns 94 = .ok (.istore_n 2, 1) := by decide +kernel
theorem dX6_passSigns_95 : decode cX6_passSigns 95 = .ok (.aload_n 0, 1) := by decide +kernel
theorem dX6_passSigns_96 : decode cX6_passSigns 96 = .ok (.invokevirtual 162, 3) := by decide +kernel
theorem dX6_passSigns_99 : decode cX6_passSigns 99 = .ok (.aload_n 0, 1) := by decide +kernel
theorem dX6_passSigns_100 : decode cX6_passSigns 100 = .ok (.invokevirtual 112, 3) := by decide +kernel
theorem dX6_passSigns_103 : decode cX6_passSigns 103 = .ok (.sipush 128, 3) := by decide +kernel
theorem dX6_passSigns_106 : decode cX6_passSigns 106 = .ok (.imul, 1) := by decide +kernel
theorem dX6_passSigns_107 : decode cX6_passSigns 107 = .ok (.iload 4, 2) := by decide +kernel
theorem dX6_passSigns_109 : decode cX6_passSigns 109 = .ok (.iadd, 1) := by decide +kernel
theorem dX6_passSigns_110 : decode cX6_passSigns 110 = .ok (.istore 7, 2) := by decide +kernel
theorem dX6_passSigns_112 : decode cX6_passSigns 112 = .ok (.aload_n 0, 1) := by decide +kernel
theorem dX6_passSigns_113 : decode cX6_passSigns 113 = .ok (.invokevirtual 103, 3) := by decide +kernel
theorem dX6_passSigns_116 : decode cX6_passSigns 116 = .ok (.aload_n 0, 1) := by decide +kernel
theorem dX6_passSigns_117 : decode cX6_passSigns 117 = .ok (.getfield 21, 3) := by decide +kernel
theorem dX6_passSigns_120 : decode cX6_passSigns 120 = .ok (.aload_n 0, 1) := by decide +kernel
theorem dX6_passSigns_121 : decode cX6_passSigns 121 = .ok (.invokevirtual 112, 3) := by decide +kernel
theorem dX6_passSigns_124 : decode cX6_passSigns 124 = .ok (.invokevirtual 147, 3) := by decide +kernel
theorem dX6_passSigns_127 : decode cX6_passSigns 127 = .ok (.aload_n 0, 1) := by decide +kernel
theorem dX6_passSigns_128 : decode cX6_passSigns 128 = .ok (.getfield 21, 3) := by decide +kernel
theorem dX6_passSigns_131 : decode cX6_passSigns 131 = .ok (.iload 7, 2) := by decide +kernel
theorem dX6_passSigns_133 : decode cX6_passSigns 133 = .ok (.invokevirtual 147, 3) := by decide +kernel
theorem dX6_passSigns_136 : decode cX6_passSigns 136 = .ok (.iinc 3 1, 3) := by decide +kernel
theorem dX6_passSigns_139 : decode cX6_passSigns 139 = .ok (.goto (-135), 3) := by decide +kernel
theorem dX6_passSigns_142 : decode cX6_passSigns 142 = .ok (.return_, 1) := by decide +kernel
def wc_Parser_passSigns_80 (Q : cS → Prop) (E : cS → Prop) (k4 : cS → Int → Int → Prop) (A0 : cS) (x2 : Int) (x3 : Int) (x4 : Int) (x5 : Int) : Prop :=
  ((x2 = 0 → wc_Parser_enter A0  (fun A4 => wc_Parser_place A4  (fun r11 A12 => ∀ z19 : Int, z19 = zw (r11 * 128) → zR z19 → ∀ z23 : Int, z23 = zw (z19 + x4) → zR z23 → wc_Parser_advance A12  (fun A28 => wc_Parser_place A28  (fun r35 A36 => ((yz A36 22) < 3000) ∧ ((yz (yadd A36 22 r35) 22) < 3000) ∧ (zR (x3 + 1)) ∧ k4 (yadd (yadd A36 22 r35) 22 z23) 0 (x3 + 1))))) E) ∧ (¬ x2 = 0 → ((x5 = 0 → wc_Parser_enter A0  (fun A61 => wc_Parser_place A61  (fun r68 A69 => ∀ z76 : Int, z76 = zw (r68 * 128) → zR z76 → ∀ z80 : Int, z80 = zw (z76 + x4) → zR z80 → wc_Parser_advance A69  (fun A85 => wc_Parser_place A85  (fun r92 A93 => ((yz A93 22) < 3000) ∧ ((yz (yadd A93 22 r92) 22) < 3000) ∧ (zR (x3 + 1)) ∧ k4 (yadd (yadd A93 22 r92) 22 z80) 0 (x3 + 1))))) E) ∧ (¬ x5 = 0 → wc_Parser_enter A0  (fun A116 => wc_Parser_place A116  (fun r123 A124 => ∀ z131 : Int, z131 = zw (r123 * 128) → zR z131 → ∀ z135 : Int, z135 = zw (z131 + x4) → zR z135 → wc_Parser_advance A124  (fun A140 => wc_Parser_place A140  (fun r147 A148 => ((yz A148 22) < 3000) ∧ ((yz (yadd A148 22 r147) 22) < 3000) ∧ (zR (x3 + 1)) ∧ k4 (yadd (yadd A148 22 r147) 22 z135) 1 (x3 + 1))))) E))))
def wc_Parser_passSigns_42 (Q : cS → Prop) (E : cS → Prop) (k4 : cS → Int → Int → Prop) (A0 : cS) (x2 : Int) (x3 : Int) (x4 : Int) (y0 : Int) : Prop :=
  ((x4 = 13 → wc_Parser_passSigns_80 Q E k4 A0 x2 x3 x4 y0) ∧ (¬ x4 = 13 → ((¬ x4 = 15 → ((x2 = 0 → Q A0) ∧ (¬ x2 = 0 → ((¬ y0 = 0 → wc_Parser_passSigns_80 Q E k4 A0 x2 x3 x4 y0) ∧ (y0 = 0 → Q A0))))) ∧ (x4 = 15 → wc_Parser_passSigns_80 Q E k4 A0 x2 x3 x4 y0))))
def wc_Parser_passSigns_4B (Q : cS → Prop) (E : cS → Prop) (k4 : cS → Int → Int → Prop) (A0 : cS) (x2 : Int) (x3 : Int) : Prop :=
  ((1000000 ≤ x3 → Q A0) ∧ (¬ 1000000 ≤ x3 → wc_Parser_kind A0  (fun r4 A5 => ((r4 = 16 → wc_Parser_passSigns_42 Q E k4 A5 x2 x3 r4 1) ∧ (¬ r4 = 16 → ((r4 = 17 → wc_Parser_passSigns_42 Q E k4 A5 x2 x3 r4 1) ∧ (¬ r4 = 17 → ((¬ r4 = 28 → wc_Parser_passSigns_42 Q E k4 A5 x2 x3 r4 0) ∧ (r4 = 28 → wc_Parser_passSigns_42 Q E k4 A5 x2 x3 r4 1)))))))))
def wc_Parser_passSigns_4 (Q : cS → Prop) (E : cS → Prop)  : Nat → cS → Int → Int → Prop
  | 0 => fun _ _ _ => False
  | m + 1 => fun A0 x2 x3 => wc_Parser_passSigns_4B Q E  (wc_Parser_passSigns_4 Q E  m) A0 x2 x3
def wc_Parser_passSigns (A0 : cS) (a0 : Int) (Q : cS → Prop) (E : cS → Prop) : Prop :=
  ∃ n, wc_Parser_passSigns_4 Q E  n A0 a0 0
set_option maxHeartbeats 4000000 in
set_option maxRecDepth 100000 in
theorem cj_Parser_passSigns_80 {X : gX} {d : gD} {b : Nat} {Y : gYt} {c : Nat × Nat} {F0 : gM} {S0 : gSt} {mc ms : Nat} (hC : gC RX6 cX6_passSigns 8 none "passSigns" (gR 8 mc ms) d b X) (hr : hRm X b) (hst : X.la.stackTraces = false) (hT : ∀ x ∈ X.co.exceptionTable.toList, False) (hcx : yCx b c) {Q : cS → Prop} {E : cS → Prop} {k4 : cS → Int → Int → Prop} (hk4 : ∀ (u : hU) (S : gSt) (A0 : cS) (x2 : Int) (x3 : Int), zR x2 → zR x3 → yOk X b u → yZ d b Y c F0 S0 u S A0 → k4 A0 x2 x3 → yG X d b (yxQv X d b Y c F0 S0 mc ms Q E) u 4 [some (.ref (gO' Y 4)), none, some (.int (zI x2)), some (.int (zI x3)), none, none, none, none] []) {u : hU} {S : gSt} {A0 : cS} {x2 : Int} {x3 : Int} {x4 : Int} {x5 : Int} (Rx2 : zR x2) (Rx3 : zR x3) (Rx4 : zR x4) (Rx5 : zR x5) (ho : yOk X b u) (hZ : yZ d b Y c F0 S0 u S A0) (hw : wc_Parser_passSigns_80 Q E k4 A0 x2 x3 x4 x5) : yG X d b (yxQv X d b Y c F0 S0 mc ms Q E) u 80 [some (.ref (gO' Y 4)), none, some (.int (zI x2)), some (.int (zI x3)), some (.int (zI x4)), some (.int (zI x5)), none, none] [] := by
  unfold wc_Parser_passSigns_80 at hw
  refine h_iload_n hC dX6_passSigns_80 rfl ?_
  refine yr_if_eq (tgt := 93) hC Rx2 dX6_passSigns_81 (by decide) (fun c1 => ?_) (fun c1 => ?_)
  · have h2 := hw.1 c1
    refine h_iconst (v := zI 0) hC dX6_passSigns_93 rfl ?_
    refine h_istore_n (lv' := [some (.ref (gO' Y 4)), none, some (.int (zI 0)), some (.int (zI x3)), some (.int (zI x4)), some (.int (zI x5)), none, none]) hC dX6_passSigns_94 (Nat.le_of_ble_eq_true rfl) rfl rfl ?_
    refine h_aload_n hC dX6_passSigns_95 rfl ?_
    refine yx_callv (As := []) hC hr ho hZ rfl (hZ.w.o 4 (by decide)) (cm_Parser_enter X.la d b hst hcx  hZ.rs h2) cl_X6_162 rfl rfl (Nat.le_of_ble_eq_true rfl) (hFr_of (Nat.le_of_ble_eq_true rfl) (Nat.le_of_ble_eq_true rfl)) dX6_passSigns_96 (fun _ _ _ ho1 hz1 he1 => yx_out hC hr ho1 hz1 hT he1) (fun A4 u5 S6 o8 hZ9 h10 => ?_)
    refine h_aload_n hC dX6_passSigns_99 rfl ?_
    refine yr_callVi (As := []) hC hr o8 hZ9 rfl (hZ9.w.o 4 (by decide)) (cm_Parser_place X.la d b  hZ9.rs h10) cl_X6_112 rfl rfl (Nat.le_of_ble_eq_true rfl) (hFr_of (Nat.le_of_ble_eq_true rfl) (Nat.le_of_ble_eq_true rfl)) dX6_passSigns_100 (fun r11 A12 u13 S14 R15 o16 hZ17 h18 => ?_)
    refine h_sipush (v := zI 128) hC dX6_passSigns_103 rfl ?_
    refine yr_imul hC dX6_passSigns_106 ?_
    refine yr_w (fun z19 e20 R21 => ?_)
    have h22 := h18 z19 e20 R21
    refine h_iload hC dX6_passSigns_107 rfl ?_
    refine yr_iadd hC dX6_passSigns_109 ?_
    refine yr_w (fun z23 e24 R25 => ?_)
    have h26 := h22 z23 e24 R25
    refine h_istore (lv' := [some (.ref (gO' Y 4)), none, some (.int (zI 0)), some (.int (zI x3)), some (.int (zI x4)), some (.int (zI x5)), none, some (.int (zI z23))]) hC dX6_passSigns_110 (Nat.le_of_ble_eq_true rfl) rfl rfl ?_
    refine h_aload_n hC dX6_passSigns_112 rfl ?_
    refine yr_callVv (As := []) hC hr o16 hZ17 rfl (hZ17.w.o 4 (by decide)) (cm_Parser_advance X.la d b  hZ17.rs h26) cl_X6_103 rfl rfl (Nat.le_of_ble_eq_true rfl) (hFr_of (Nat.le_of_ble_eq_true rfl) (Nat.le_of_ble_eq_true rfl)) dX6_passSigns_113 (fun A28 u29 S30 o32 hZ33 h34 => ?_)
    refine h_aload_n hC dX6_passSigns_116 rfl ?_
    refine h_get hC fl_X6_21 (hZ33.w.o 4 (by decide)) rfl dX6_passSigns_117 ?_
    refine h_aload_n hC dX6_passSigns_120 rfl ?_
    refine yr_callVi (As := []) hC hr o32 hZ33 rfl (hZ33.w.o 4 (by decide)) (cm_Parser_place X.la d b  hZ33.rs h34) cl_X6_112 rfl rfl (Nat.le_of_ble_eq_true rfl) (hFr_of (Nat.le_of_ble_eq_true rfl) (Nat.le_of_ble_eq_true rfl)) dX6_passSigns_121 (fun r35 A36 u37 S38 R39 o40 hZ41 h42 => ?_)
    obtain ⟨o47, h48⟩ := h42
    refine yr_add (j := 22) hC hr o40 hZ41 (by decide) (by decide) R39 o47 cl_X6_147 rfl (Nat.le_of_ble_eq_true rfl) (hFr_of (Nat.le_of_ble_eq_true rfl) (Nat.le_of_ble_eq_true rfl)) dX6_passSigns_124 (fun u43 S44 o45 hZ46 => ?_)
    refine h_aload_n hC dX6_passSigns_127 rfl ?_
    refine h_get hC fl_X6_21 (hZ46.w.o 4 (by decide)) rfl dX6_passSigns_128 ?_
    refine h_iload hC dX6_passSigns_131 rfl ?_
    obtain ⟨o53, h54⟩ := h48
    refine yr_add (j := 22) hC hr o45 hZ46 (by decide) (by decide) R25 o53 cl_X6_147 rfl (Nat.le_of_ble_eq_true rfl) (hFr_of (Nat.le_of_ble_eq_true rfl) (Nat.le_of_ble_eq_true rfl)) dX6_passSigns_133 (fun u49 S50 o51 hZ52 => ?_)
    refine yr_iinc (x := x3) (lv' := [some (.ref (gO' Y 4)), none, some (.int (zI 0)), some (.int (zI (x3 + 1))), some (.int (zI x4)), some (.int (zI x5)), none, some (.int (zI z23))]) hC dX6_passSigns_136 rfl rfl rfl ?_
    refine h_goto (tgt := 4) hC dX6_passSigns_139 (by decide) ?_
    obtain ⟨o55, h56⟩ := h54
    refine h_lv (lv' := [some (.ref (gO' Y 4)), none, some (.int (zI 0)), some (.int (zI (x3 + 1))), none, none, none, none]) ⟨rfl, rfl, rfl, trivial⟩ ?_
    exact hk4 _ _ _ _ _ (by decide) o55 o51 hZ52 h56
  · have h57 := hw.2 c1
    refine h_iload hC dX6_passSigns_84 rfl ?_
    refine yr_if_eq (tgt := 93) hC Rx5 dX6_passSigns_86 (by decide) (fun c58 => ?_) (fun c58 => ?_)
    · have h59 := h57.1 c58
      refine h_iconst (v := zI 0) hC dX6_passSigns_93 rfl ?_
      refine h_istore_n (lv' := [some (.ref (gO' Y 4)), none, some (.int (zI 0)), some (.int (zI x3)), some (.int (zI x4)), some (.int (zI x5)), none, none]) hC dX6_passSigns_94 (Nat.le_of_ble_eq_true rfl) rfl rfl ?_
      refine h_aload_n hC dX6_passSigns_95 rfl ?_
      refine yx_callv (As := []) hC hr ho hZ rfl (hZ.w.o 4 (by decide)) (cm_Parser_enter X.la d b hst hcx  hZ.rs h59) cl_X6_162 rfl rfl (Nat.le_of_ble_eq_true rfl) (hFr_of (Nat.le_of_ble_eq_true rfl) (Nat.le_of_ble_eq_true rfl)) dX6_passSigns_96 (fun _ _ _ ho1 hz1 he1 => yx_out hC hr ho1 hz1 hT he1) (fun A61 u62 S63 o65 hZ66 h67 => ?_)
      refine h_aload_n hC dX6_passSigns_99 rfl ?_
      refine yr_callVi (As := []) hC hr o65 hZ66 rfl (hZ66.w.o 4 (by decide)) (cm_Parser_place X.la d b  hZ66.rs h67) cl_X6_112 rfl rfl (Nat.le_of_ble_eq_true rfl) (hFr_of (Nat.le_of_ble_eq_true rfl) (Nat.le_of_ble_eq_true rfl)) dX6_passSigns_100 (fun r68 A69 u70 S71 R72 o73 hZ74 h75 => ?_)
      refine h_sipush (v := zI 128) hC dX6_passSigns_103 rfl ?_
      refine yr_imul hC dX6_passSigns_106 ?_
      refine yr_w (fun z76 e77 R78 => ?_)
      have h79 := h75 z76 e77 R78
      refine h_iload hC dX6_passSigns_107 rfl ?_
      refine yr_iadd hC dX6_passSigns_109 ?_
      refine yr_w (fun z80 e81 R82 => ?_)
      have h83 := h79 z80 e81 R82
      refine h_istore (lv' := [some (.ref (gO' Y 4)), none, some (.int (zI 0)), some (.int (zI x3)), some (.int (zI x4)), some (.int (zI x5)), none, some (.int (zI z80))]) hC dX6_passSigns_110 (Nat.le_of_ble_eq_true rfl) rfl rfl ?_
      refine h_aload_n hC dX6_passSigns_112 rfl ?_
      refine yr_callVv (As := []) hC hr o73 hZ74 rfl (hZ74.w.o 4 (by decide)) (cm_Parser_advance X.la d b  hZ74.rs h83) cl_X6_103 rfl rfl (Nat.le_of_ble_eq_true rfl) (hFr_of (Nat.le_of_ble_eq_true rfl) (Nat.le_of_ble_eq_true rfl)) dX6_passSigns_113 (fun A85 u86 S87 o89 hZ90 h91 => ?_)
      refine h_aload_n hC dX6_passSigns_116 rfl ?_
      refine h_get hC fl_X6_21 (hZ90.w.o 4 (by decide)) rfl dX6_passSigns_117 ?_
      refine h_aload_n hC dX6_passSigns_120 rfl ?_
      refine yr_callVi (As := []) hC hr o89 hZ90 rfl (hZ90.w.o 4 (by decide)) (cm_Parser_place X.la d b  hZ90.rs h91) cl_X6_112 rfl rfl (Nat.le_of_ble_eq_true rfl) (hFr_of (Nat.le_of_ble_eq_true rfl) (Nat.le_of_ble_eq_true rfl)) dX6_passSigns_121 (fun r92 A93 u94 S95 R96 o97 hZ98 h99 => ?_)
      obtain ⟨o104, h105⟩ := h99
      refine yr_add (j := 22) hC hr o97 hZ98 (by decide) (by decide) R96 o104 cl_X6_147 rfl (Nat.le_of_ble_eq_true rfl) (hFr_of (Nat.le_of_ble_eq_true rfl) (Nat.le_of_ble_eq_true rfl)) dX6_passSigns_124 (fun u100 S101 o102 hZ103 => ?_)
      refine h_aload_n hC dX6_passSigns_127 rfl ?_
      refine h_get hC fl_X6_21 (hZ103.w.o 4 (by decide)) rfl dX6_passSigns_128 ?_
      refine h_iload hC dX6_passSigns_131 rfl ?_
      obtain ⟨o110, h111⟩ := h105
      refine yr_add (j := 22) hC hr o102 hZ103 (by decide) (by decide) R82 o110 cl_X6_147 rfl (Nat.le_of_ble_eq_true rfl) (hFr_of (Nat.le_of_ble_eq_true rfl) (Nat.le_of_ble_eq_true rfl)) dX6_passSigns_133 (fun u106 S107 o108 hZ109 => ?_)
      refine yr_iinc (x := x3) (lv' := [some (.ref (gO' Y 4)), none, some (.int (zI 0)), some (.int (zI (x3 + 1))), some (.int (zI x4)), some (.int (zI x5)), none, some (.int (zI z80))]) hC dX6_passSigns_136 rfl rfl rfl ?_
      refine h_goto (tgt := 4) hC dX6_passSigns_139 (by decide) ?_
      obtain ⟨o112, h113⟩ := h111
      refine h_lv (lv' := [some (.ref (gO' Y 4)), none, some (.int (zI 0)), some (.int (zI (x3 + 1))), none, none, none, none]) ⟨rfl, rfl, rfl, trivial⟩ ?_
      exact hk4 _ _ _ _ _ (by decide) o112 o108 hZ109 h113
    · have h114 := h57.2 c58
      refine h_iconst (v := zI 1) hC dX6_passSigns_89 rfl ?_
      refine h_goto (tgt := 94) hC dX6_passSigns_90 (by decide) ?_
      refine h_istore_n (lv' := [some (.ref (gO' Y 4)), none, some (.int (zI 1)), some (.int (zI x3)), some (.int (zI x4)), some (.int (zI x5)), none, none]) hC dX6_passSigns_94 (Nat.le_of_ble_eq_true rfl) rfl rfl ?_
      refine h_aload_n hC dX6_passSigns_95 rfl ?_
      refine yx_callv (As := []) hC hr ho hZ rfl (hZ.w.o 4 (by decide)) (cm_Parser_enter X.la d b hst hcx  hZ.rs h114) cl_X6_162 rfl rfl (Nat.le_of_ble_eq_true rfl) (hFr_of (Nat.le_of_ble_eq_true rfl) (Nat.le_of_ble_eq_true rfl)) dX6_passSigns_96 (fun _ _ _ ho1 hz1 he1 => yx_out hC hr ho1 hz1 hT he1) (fun A116 u117 S118 o120 hZ121 h122 => ?_)
      refine h_aload_n hC dX6_passSigns_99 rfl ?_
      refine yr_callVi (As := []) hC hr o120 hZ121 rfl (hZ121.w.o 4 (by decide)) (cm_Parser_place X.la d b  hZ121.rs h122) cl_X6_112 rfl rfl (Nat.le_of_ble_eq_true rfl) (hFr_of (Nat.le_of_ble_eq_true rfl) (Nat.le_of_ble_eq_true rfl)) dX6_passSigns_100 (fun r123 A124 u125 S126 R127 o128 hZ129 h130 => ?_)
      refine h_sipush (v := zI 128) hC dX6_passSigns_103 rfl ?_
      refine yr_imul hC dX6_passSigns_106 ?_
      refine yr_w (fun z131 e132 R133 => ?_)
      have h134 := h130 z131 e132 R133
      refine h_iload hC dX6_passSigns_107 rfl ?_
      refine yr_iadd hC dX6_passSigns_109 ?_
      refine yr_w (fun z135 e136 R137 => ?_)
      have h138 := h134 z135 e136 R137
      refine h_istore (lv' := [some (.ref (gO' Y 4)), none, some (.int (zI 1)), some (.int (zI x3)), some (.int (zI x4)), some (.int (zI x5)), none, some (.int (zI z135))]) hC dX6_passSigns_110 (Nat.le_of_ble_eq_true rfl) rfl rfl ?_
      refine h_aload_n hC dX6_passSigns_112 rfl ?_
      refine yr_callVv (As := []) hC hr o128 hZ129 rfl (hZ129.w.o 4 (by decide)) (cm_Parser_advance X.la d b  hZ129.rs h138) cl_X6_103 rfl rfl (Nat.le_of_ble_eq_true rfl) (hFr_of (Nat.le_of_ble_eq_true rfl) (Nat.le_of_ble_eq_true rfl)) dX6_passSigns_113 (fun A140 u141 S142 o144 hZ145 h146 => ?_)
      refine h_aload_n hC dX6_passSigns_116 rfl ?_
      refine h_get hC fl_X6_21 (hZ145.w.o 4 (by decide)) rfl dX6_passSigns_117 ?_
      refine h_aload_n hC dX6_passSigns_120 rfl ?_
      refine yr_callVi (As := []) hC hr o144 hZ145 rfl (hZ145.w.o 4 (by decide)) (cm_Parser_place X.la d b  hZ145.rs h146) cl_X6_112 rfl rfl (Nat.le_of_ble_eq_true rfl) (hFr_of (Nat.le_of_ble_eq_true rfl) (Nat.le_of_ble_eq_true rfl)) dX6_passSigns_121 (fun r147 A148 u149 S150 R151 o152 hZ153 h154 => ?_)
      obtain ⟨o159, h160⟩ := h154
      refine yr_add (j := 22) hC hr o152 hZ153 (by decide) (by decide) R151 o159 cl_X6_147 rfl (Nat.le_of_ble_eq_true rfl) (hFr_of (Nat.le_of_ble_eq_true rfl) (Nat.le_of_ble_eq_true rfl)) dX6_passSigns_124 (fun u155 S156 o157 hZ158 => ?_)
      refine h_aload_n hC dX6_passSigns_127 rfl ?_
      refine h_get hC fl_X6_21 (hZ158.w.o 4 (by decide)) rfl dX6_passSigns_128 ?_
      refine h_iload hC dX6_passSigns_131 rfl ?_
      obtain ⟨o165, h166⟩ := h160
      refine yr_add (j := 22) hC hr o157 hZ158 (by decide) (by decide) R137 o165 cl_X6_147 rfl (Nat.le_of_ble_eq_true rfl) (hFr_of (Nat.le_of_ble_eq_true rfl) (Nat.le_of_ble_eq_true rfl)) dX6_passSigns_133 (fun u161 S162 o163 hZ164 => ?_)
      refine yr_iinc (x := x3) (lv' := [some (.ref (gO' Y 4)), none, some (.int (zI 1)), some (.int (zI (x3 + 1))), some (.int (zI x4)), some (.int (zI x5)), none, some (.int (zI z135))]) hC dX6_passSigns_136 rfl rfl rfl ?_
      refine h_goto (tgt := 4) hC dX6_passSigns_139 (by decide) ?_
      obtain ⟨o167, h168⟩ := h166
      refine h_lv (lv' := [some (.ref (gO' Y 4)), none, some (.int (zI 1)), some (.int (zI (x3 + 1))), none, none, none, none]) ⟨rfl, rfl, rfl, trivial⟩ ?_
      exact hk4 _ _ _ _ _ (by decide) o167 o163 hZ164 h168
set_option maxHeartbeats 4000000 in
set_option maxRecDepth 100000 in
theorem cj_Parser_passSigns_42 {X : gX} {d : gD} {b : Nat} {Y : gYt} {c : Nat × Nat} {F0 : gM} {S0 : gSt} {mc ms : Nat} (hC : gC RX6 cX6_passSigns 8 none "passSigns" (gR 8 mc ms) d b X) (hr : hRm X b) (hst : X.la.stackTraces = false) (hT : ∀ x ∈ X.co.exceptionTable.toList, False) (hcx : yCx b c) {Q : cS → Prop} {E : cS → Prop} {k4 : cS → Int → Int → Prop} (hk4 : ∀ (u : hU) (S : gSt) (A0 : cS) (x2 : Int) (x3 : Int), zR x2 → zR x3 → yOk X b u → yZ d b Y c F0 S0 u S A0 → k4 A0 x2 x3 → yG X d b (yxQv X d b Y c F0 S0 mc ms Q E) u 4 [some (.ref (gO' Y 4)), none, some (.int (zI x2)), some (.int (zI x3)), none, none, none, none] []) {u : hU} {S : gSt} {A0 : cS} {x2 : Int} {x3 : Int} {x4 : Int} {y0 : Int} (Rx2 : zR x2) (Rx3 : zR x3) (Rx4 : zR x4) (Ry0 : zR y0) (ho : yOk X b u) (hZ : yZ d b Y c F0 S0 u S A0) (hw : wc_Parser_passSigns_42 Q E k4 A0 x2 x3 x4 y0) : yG X d b (yxQv X d b Y c F0 S0 mc ms Q E) u 42 [some (.ref (gO' Y 4)), none, some (.int (zI x2)), some (.int (zI x3)), some (.int (zI x4)), none, none, none] [.int (zI y0)] := by
  unfold wc_Parser_passSigns_42 at hw
  refine h_istore (lv' := [some (.ref (gO' Y 4)), none, some (.int (zI x2)), some (.int (zI x3)), some (.int (zI x4)), some (.int (zI y0)), none, none]) hC dX6_passSigns_42 (Nat.le_of_ble_eq_true rfl) rfl rfl ?_
  refine h_iload hC dX6_passSigns_44 rfl ?_
  refine h_bipush (v := zI 13) hC dX6_passSigns_46 rfl ?_
  refine yr_icmp_eq (tgt := 58) hC Rx4 (by decide) dX6_passSigns_48 (by decide) (fun c1 => ?_) (fun c1 => ?_)
  · have h2 := hw.1 c1
    refine h_iconst (v := zI 1) hC dX6_passSigns_58 rfl ?_
    refine h_goto (tgt := 63) hC dX6_passSigns_59 (by decide) ?_
    refine h_istore (lv' := [some (.ref (gO' Y 4)), none, some (.int (zI x2)), some (.int (zI x3)), some (.int (zI x4)), some (.int (zI y0)), some (.int (zI 1)), none]) hC dX6_passSigns_63 (Nat.le_of_ble_eq_true rfl) rfl rfl ?_
    refine h_iload hC dX6_passSigns_65 rfl ?_
    refine yr_if_ne (tgt := 80) hC (by decide) dX6_passSigns_67 (by decide) (fun c3 => ?_) (fun c3 => ?_)
    · refine h_lv (lv' := [some (.ref (gO' Y 4)), none, some (.int (zI x2)), some (.int (zI x3)), some (.int (zI x4)), some (.int (zI y0)), none, none]) ⟨rfl, rfl, rfl, rfl, rfl, trivial⟩ ?_
      exact cj_Parser_passSigns_80 hC hr hst hT hcx hk4 Rx2 Rx3 Rx4 Ry0 ho hZ h2
    · exact absurd c3 (by decide)
  · have h4 := hw.2 c1
    refine h_iload hC dX6_passSigns_51 rfl ?_
    refine h_bipush (v := zI 15) hC dX6_passSigns_53 rfl ?_
    refine yr_icmp_ne (tgt := 62) hC Rx4 (by decide) dX6_passSigns_55 (by decide) (fun c5 => ?_) (fun c5 => ?_)
    · have h6 := h4.1 c5
      refine h_iconst (v := zI 0) hC dX6_passSigns_62 rfl ?_
      refine h_istore (lv' := [some (.ref (gO' Y 4)), none, some (.int (zI x2)), some (.int (zI x3)), some (.int (zI x4)), some (.int (zI y0)), some (.int (zI 0)), none]) hC dX6_passSigns_63 (Nat.le_of_ble_eq_true rfl) rfl rfl ?_
      refine h_iload hC dX6_passSigns_65 rfl ?_
      refine yr_if_ne (tgt := 80) hC (by decide) dX6_passSigns_67 (by decide) (fun c7 => ?_) (fun c7 => ?_)
      · exact absurd (by decide) c7
      · refine h_iload_n hC dX6_passSigns_70 rfl ?_
        refine yr_if_eq (tgt := 79) hC Rx2 dX6_passSigns_71 (by decide) (fun c8 => ?_) (fun c8 => ?_)
        · have h9 := h6.1 c8
          exact h_xret (yr_vret hC hr ho hZ h9 dX6_passSigns_79)
        · have h10 := h6.2 c8
          refine h_iload hC dX6_passSigns_74 rfl ?_
          refine yr_if_ne (tgt := 80) hC Ry0 dX6_passSigns_76 (by decide) (fun c11 => ?_) (fun c11 => ?_)
          · have h12 := h10.1 c11
            refine h_lv (lv' := [some (.ref (gO' Y 4)), none, some (.int (zI x2)), some (.int (zI x3)), some (.int (zI x4)), some (.int (zI y0)), none, none]) ⟨rfl, rfl, rfl, rfl, rfl, trivial⟩ ?_
            exact cj_Parser_passSigns_80 hC hr hst hT hcx hk4 Rx2 Rx3 Rx4 Ry0 ho hZ h12
          · have h13 := h10.2 c11
            exact h_xret (yr_vret hC hr ho hZ h13 dX6_passSigns_79)
    · have h14 := h4.2 c5
      refine h_iconst (v := zI 1) hC dX6_passSigns_58 rfl ?_
      refine h_goto (tgt := 63) hC dX6_passSigns_59 (by decide) ?_
      refine h_istore (lv' := [some (.ref (gO' Y 4)), none, some (.int (zI x2)), some (.int (zI x3)), some (.int (zI x4)), some (.int (zI y0)), some (.int (zI 1)), none]) hC dX6_passSigns_63 (Nat.le_of_ble_eq_true rfl) rfl rfl ?_
      refine h_iload hC dX6_passSigns_65 rfl ?_
      refine yr_if_ne (tgt := 80) hC (by decide) dX6_passSigns_67 (by decide) (fun c15 => ?_) (fun c15 => ?_)
      · refine h_lv (lv' := [some (.ref (gO' Y 4)), none, some (.int (zI x2)), some (.int (zI x3)), some (.int (zI x4)), some (.int (zI y0)), none, none]) ⟨rfl, rfl, rfl, rfl, rfl, trivial⟩ ?_
        exact cj_Parser_passSigns_80 hC hr hst hT hcx hk4 Rx2 Rx3 Rx4 Ry0 ho hZ h14
      · exact absurd c15 (by decide)
set_option maxHeartbeats 4000000 in
set_option maxRecDepth 100000 in
theorem cb_Parser_passSigns_4 {X : gX} {d : gD} {b : Nat} {Y : gYt} {c : Nat × Nat} {F0 : gM} {S0 : gSt} {mc ms : Nat} (hC : gC RX6 cX6_passSigns 8 none "passSigns" (gR 8 mc ms) d b X) (hr : hRm X b) (hst : X.la.stackTraces = false) (hT : ∀ x ∈ X.co.exceptionTable.toList, False) (hcx : yCx b c) {Q : cS → Prop} {E : cS → Prop} {k4 : cS → Int → Int → Prop} (hk4 : ∀ (u : hU) (S : gSt) (A0 : cS) (x2 : Int) (x3 : Int), zR x2 → zR x3 → yOk X b u → yZ d b Y c F0 S0 u S A0 → k4 A0 x2 x3 → yG X d b (yxQv X d b Y c F0 S0 mc ms Q E) u 4 [some (.ref (gO' Y 4)), none, some (.int (zI x2)), some (.int (zI x3)), none, none, none, none] []) {u : hU} {S : gSt} {A0 : cS} {x2 : Int} {x3 : Int} (Rx2 : zR x2) (Rx3 : zR x3) (ho : yOk X b u) (hZ : yZ d b Y c F0 S0 u S A0) (hw : wc_Parser_passSigns_4B Q E k4 A0 x2 x3) : yG X d b (yxQv X d b Y c F0 S0 mc ms Q E) u 4 [some (.ref (gO' Y 4)), none, some (.int (zI x2)), some (.int (zI x3)), none, none, none, none] [] := by
  unfold wc_Parser_passSigns_4B at hw
  refine h_iload_n hC dX6_passSigns_4 rfl ?_
  refine yr_ldc (e := 1000000) hC dX6_passSigns_5 kw_514 (by decide) ?_
  refine yr_icmp_ge (tgt := 142) hC Rx3 (by decide) dX6_passSigns_7 (by decide) (fun c1 => ?_) (fun c1 => ?_)
  · have h2 := hw.1 c1
    exact h_xret (yr_vret hC hr ho hZ h2 dX6_passSigns_142)
  · have h3 := hw.2 c1
    refine h_aload_n hC dX6_passSigns_10 rfl ?_
    refine yr_callVi (As := []) hC hr ho hZ rfl (hZ.w.o 4 (by decide)) (cm_Parser_kind X.la d b  hZ.rs h3) cl_X6_97 rfl rfl (Nat.le_of_ble_eq_true rfl) (hFr_of (Nat.le_of_ble_eq_true rfl) (Nat.le_of_ble_eq_true rfl)) dX6_passSigns_11 (fun r4 A5 u6 S7 R8 o9 hZ10 h11 => ?_)
    refine h_istore (lv' := [some (.ref (gO' Y 4)), none, some (.int (zI x2)), some (.int (zI x3)), some (.int (zI r4)), none, none, none]) hC dX6_passSigns_14 (Nat.le_of_ble_eq_true rfl) rfl rfl ?_
    refine h_iload hC dX6_passSigns_16 rfl ?_
    refine h_bipush (v := zI 16) hC dX6_passSigns_18 rfl ?_
    refine yr_icmp_eq (tgt := 37) hC R8 (by decide) dX6_passSigns_20 (by decide) (fun c12 => ?_) (fun c12 => ?_)
    · have h13 := h11.1 c12
      refine h_iconst (v := zI 1) hC dX6_passSigns_37 rfl ?_
      refine h_goto (tgt := 42) hC dX6_passSigns_38 (by decide) ?_
      exact cj_Parser_passSigns_42 hC hr hst hT hcx hk4 Rx2 Rx3 R8 (by decide) o9 hZ10 h13
    · have h14 := h11.2 c12
      refine h_iload hC dX6_passSigns_23 rfl ?_
      refine h_bipush (v := zI 17) hC dX6_passSigns_25 rfl ?_
      refine yr_icmp_eq (tgt := 37) hC R8 (by decide) dX6_passSigns_27 (by decide) (fun c15 => ?_) (fun c15 => ?_)
      · have h16 := h14.1 c15
        refine h_iconst (v := zI 1) hC dX6_passSigns_37 rfl ?_
        refine h_goto (tgt := 42) hC dX6_passSigns_38 (by decide) ?_
        exact cj_Parser_passSigns_42 hC hr hst hT hcx hk4 Rx2 Rx3 R8 (by decide) o9 hZ10 h16
      · have h17 := h14.2 c15
        refine h_iload hC dX6_passSigns_30 rfl ?_
        refine h_bipush (v := zI 28) hC dX6_passSigns_32 rfl ?_
        refine yr_icmp_ne (tgt := 41) hC R8 (by decide) dX6_passSigns_34 (by decide) (fun c18 => ?_) (fun c18 => ?_)
        · have h19 := h17.1 c18
          refine h_iconst (v := zI 0) hC dX6_passSigns_41 rfl ?_
          exact cj_Parser_passSigns_42 hC hr hst hT hcx hk4 Rx2 Rx3 R8 (by decide) o9 hZ10 h19
        · have h20 := h17.2 c18
          refine h_iconst (v := zI 1) hC dX6_passSigns_37 rfl ?_
          refine h_goto (tgt := 42) hC dX6_passSigns_38 (by decide) ?_
          exact cj_Parser_passSigns_42 hC hr hst hT hcx hk4 Rx2 Rx3 R8 (by decide) o9 hZ10 h20
theorem cl_Parser_passSigns_4 {X : gX} {d : gD} {b : Nat} {Y : gYt} {c : Nat × Nat} {F0 : gM} {S0 : gSt} {mc ms : Nat} (hC : gC RX6 cX6_passSigns 8 none "passSigns" (gR 8 mc ms) d b X) (hr : hRm X b) (hst : X.la.stackTraces = false) (hT : ∀ x ∈ X.co.exceptionTable.toList, False) (hcx : yCx b c) {Q : cS → Prop} {E : cS → Prop}   : ∀ (m : Nat) (u : hU) (S : gSt) (A0 : cS) (x2 : Int) (x3 : Int), zR x2 → zR x3 → yOk X b u → yZ d b Y c F0 S0 u S A0 → wc_Parser_passSigns_4 Q E  m A0 x2 x3 → yG X d b (yxQv X d b Y c F0 S0 mc ms Q E) u 4 [some (.ref (gO' Y 4)), none, some (.int (zI x2)), some (.int (zI x3)), none, none, none, none] [] := by
  intro m
  induction m with
  | zero => intro u S A0 x2 x3 Rx2 Rx3 ho hZ hw; exact False.elim hw
  | succ m ihm => intro u S A0 x2 x3 Rx2 Rx3 ho hZ hw; exact cb_Parser_passSigns_4 hC hr hst hT hcx  ihm Rx2 Rx3 ho hZ hw
set_option maxHeartbeats 4000000 in
set_option maxRecDepth 100000 in
theorem cm_Parser_passSigns (l : Launch) (d : gD) (b : Nat) {Y : gYt} {c : Nat × Nat} (hst : l.stackTraces = false) (hcx : yCx b c) {F : gM} {k n : Nat} {S : gSt} {A0 : cS} {a0 : Int} (Ra0 : zR a0) {Q : cS → Prop} {E : cS → Prop} (hZ : yZ d b Y c F S (F, k, n) S A0) (hw : wc_Parser_passSigns A0 a0 Q E) : hXv l d b yX6_passSigns cX6_passSigns 8 8 k n F [.ref (gO' Y 4), .int (zI a0)] (yPv d b Y c F S Q) "java/lang/IllegalStateException" (yPx d b Y c F S E) := by
  intro mc ms
  refine hX_of2 rfl (nL := 8) (Nat.le_of_ble_eq_true rfl) ?_
  intro X hX hT hC hr ho; subst hX
  show yG X d b (yxQv X d b Y c F S mc ms Q E) (F, k, n) 0 [some (.ref (gO' Y 4)), some (.int (zI a0)), none, none, none, none, none, none] []
  unfold wc_Parser_passSigns at hw
  refine h_iload_n hC dX6_passSigns_0 rfl ?_
  refine h_istore_n (lv' := [some (.ref (gO' Y 4)), some (.int (zI a0)), some (.int (zI a0)), none, none, none, none, none]) hC dX6_passSigns_1 (Nat.le_of_ble_eq_true rfl) rfl rfl ?_
  refine h_iconst (v := zI 0) hC dX6_passSigns_2 rfl ?_
  refine h_istore_n (lv' := [some (.ref (gO' Y 4)), some (.int (zI a0)), some (.int (zI a0)), some (.int (zI 0)), none, none, none, none]) hC dX6_passSigns_3 (Nat.le_of_ble_eq_true rfl) rfl rfl ?_
  refine h_lv (lv' := [some (.ref (gO' Y 4)), none, some (.int (zI a0)), some (.int (zI 0)), none, none, none, none]) ⟨rfl, rfl, rfl, trivial⟩ ?_
  obtain ⟨m1, h2⟩ := hw
  exact cl_Parser_passSigns_4 hC hr hst hT hcx  m1 _ _ _ _ _ Ra0 (by decide) ho hZ h2
theorem dX6_close_0 : decode cX6_close 0 = .ok (.aload_n 0, 1) := by decide +kernel
theorem dX6_close_1 : decode cX6_close 1 = .ok (.invokevirtual 97, 3) := by decide +kernel
theorem dX6_close_4 : decode cX6_close 4 = .ok (.bipush 6, 2) := by decide +kernel
theorem dX6_close_6 : decode cX6_close 6 = .ok (.if_icmp .eq 7, 3) := by decide +kernel
theorem dX6_close_9 : decode cX6_close 9 = .ok (.aload_n 0, 1) := by decide +kernel
theorem dX6_close_10 : decode cX6_close 10 = .ok (.invokevirtual 100, 3) := by decide +kernel
theorem dX6_close_13 : decode cX6_close 13 = .ok (.aload_n 0, 1) := by decide +kernel
theorem dX6_close_14 : decode cX6_close 14 = .ok (.invokevirtual 106, 3) := by decide +kernel
theorem dX6_close_17 : decode cX6_close 17 = .ok (.istore_n 1, 1) := by decide +kernel
theorem dX6_close_18 : decode cX6_close 18 = .ok (.aload_n 0, 1) := by decide +kernel
theorem dX6_close_19 : decode cX6_close 19 = .ok (.getfield 15, 3) := by decide +kernel
theorem dX6_close_22 : decode cX6_close 22 = .ok (.invokevirtual 165, 3) := by decide +kernel
theorem dX6_close_25 : decode cX6_close 25 = .ok (.istore_n 2, 1) := by decide +kernel
theorem dX6_close_26 : decode cX6_close 26 = .ok (.iload_n 1, 1) := by decide +kernel
theorem dX6_close_27 : decode cX6_close 27 = .ok (.ifCond .eq 8, 3) := by decide +kernel
theorem dX6_close_30 : decode cX6_close 30 = .ok (.iload_n 1, 1) := by decide +kernel
theorem dX6_close_31 : decode cX6_close 31 = .ok (.iload_n 2, 1) := by decide +kernel
theorem dX6_close_32 : decode cX6_close 32 = .ok (.if_icmp .ne 10, 3) := by decide +kernel
theorem dX6_close_35 : decode cX6_close 35 = .ok (.aload_n 0, 1) := by decide +kernel
theorem dX6_close_36 : decode cX6_close 36 = .ok (.invokevirtual 103, 3) := by decide +kernel
theorem dX6_close_39 : decode cX6_close 39 = .ok (.goto 15, 3) := by decide +kernel
theorem dX6_close_42 : decode cX6_close 42 = .ok (.aload_n 0, 1) := by decide +kernel
theorem dX6_close_43 : decode cX6_close 43 = .ok (.iload_n 1, 1) := by decide +kernel
theorem dX6_close_44 : decode cX6_close 44 = .ok (.invokevirtual 168, 3) := by decide +kernel
theorem dX6_close_47 : decode cX6_close 47 = .ok (.ifCond .ne 7, 3) := by decide +kernel
theorem dX6_close_50 : decode cX6_close 50 = .ok (.aload_n 0, 1) := by decide +kernel
theorem dX6_close_51 : decode cX6_close 51 = .ok (.invokevirtual 100, 3) := by decide +kernel
theorem dX6_close_54 : decode cX6_close 54 = .ok (.aload_n 0, 1) := by decide +kernel
theorem dX6_close_55 : decode cX6_close 55 = .ok (.dup, 1) := by decide +kernel
theorem dX6_close_56 : decode cX6_close 56 = .ok (.getfield 31, 3) := by decide +kernel
theorem dX6_close_59 : decode cX6_close 59 = .ok (.iconst 1, 1) := by decide +kernel
theorem dX6_close_60 : decode cX6_close 60 = .ok (.isub, 1) := by decide +kernel
theorem dX6_close_61 : decode cX6_close 61 = .ok (.putfield 31, 3) := by decide +kernel
theorem dX6_close_64 : decode cX6_close 64 = .ok (.return_, 1) := by decide +kernel
def wc_Parser_close_13 (Q : cS → Prop) (E : cS → Prop)  (A0 : cS)  : Prop :=
  wc_Parser_info A0  (fun r1 A2 => ((r1 = 0 → wc_Parser_advance (ypop A2 21)  (fun A16 => (zR ((yv A16 11) - 1)) ∧ Q (ypv A16 11 ((yv A16 11) - 1)))) ∧ (¬ r1 = 0 → ((¬ r1 = (yget A2 21 ((yz A2 21 : Nat) - 1 : Int)) → wc_Parser_isOpen (ypop A2 21) r1 (fun r39 A40 => ((¬ r39 = 0 → (zR ((yv A40 11) - 1)) ∧ Q (ypv A40 11 ((yv A40 11) - 1))) ∧ (r39 = 0 → wc_Parser_refuse A40  (fun A64 => (zR ((yv A64 11) - 1)) ∧ Q (ypv A64 11 ((yv A64 11) - 1))) E)))) ∧ (r1 = (yget A2 21 ((yz A2 21 : Nat) - 1 : Int)) → wc_Parser_advance (ypop A2 21)  (fun A86 => (zR ((yv A86 11) - 1)) ∧ Q (ypv A86 11 ((yv A86 11) - 1))))))))
def wc_Parser_close (A0 : cS)  (Q : cS → Prop) (E : cS → Prop) : Prop :=
  wc_Parser_kind A0  (fun r1 A2 => ((r1 = 6 → wc_Parser_close_13 Q E  A2 ) ∧ (¬ r1 = 6 → wc_Parser_refuse A2  (fun A13 => wc_Parser_close_13 Q E  A13 ) E)))
set_option maxHeartbeats 4000000 in
set_option maxRecDepth 100000 in
theorem cj_Parser_close_13 {X : gX} {d : gD} {b : Nat} {Y : gYt} {c : Nat × Nat} {F0 : gM} {S0 : gSt} {mc ms : Nat} (hC : gC RX6 cX6_close 3 none "close" (gR 7 mc ms) d b X) (hr : hRm X b) (hst : X.la.stackTraces = false) (hT : ∀ x ∈ X.co.exceptionTable.toList, False) (hcx : yCx b c) {Q : cS → Prop} {E : cS → Prop}   {u : hU} {S : gSt} {A0 : cS}   (ho : yOk X b u) (hZ : yZ d b Y c F0 S0 u S A0) (hw : wc_Parser_close_13 Q E  A0 ) : yG X d b (yxQv X d b Y c F0 S0 mc ms Q E) u 13 [some (.ref (gO' Y 4)), none, none] [] := by
  unfold wc_Parser_close_13 at hw
  refine h_aload_n hC dX6_close_13 rfl ?_
  refine yr_callVi (As := []) hC hr ho hZ rfl (hZ.w.o 4 (by decide)) (cm_Parser_info X.la d b  hZ.rs hw) cl_X6_106 rfl rfl (Nat.le_of_ble_eq_true rfl) (hFr_of (Nat.le_of_ble_eq_true rfl) (Nat.le_of_ble_eq_true rfl)) dX6_close_14 (fun r1 A2 u3 S4 R5 o6 hZ7 h8 => ?_)
  refine h_istore_n (lv' := [some (.ref (gO' Y 4)), some (.int (zI r1)), none]) hC dX6_close_17 (Nat.le_of_ble_eq_true rfl) rfl rfl ?_
  refine h_aload_n hC dX6_close_18 rfl ?_
  refine h_get hC fl_X6_15 (hZ7.w.o 4 (by decide)) rfl dX6_close_19 ?_
  refine yr_pop (j := 21) (e := (yget A2 21 ((yz A2 21 : Nat) - 1 : Int))) hC hr o6 hZ7 (by decide) rfl cl_X6_165 rfl (Nat.le_of_ble_eq_true rfl) (hFr_of (Nat.le_of_ble_eq_true rfl) (Nat.le_of_ble_eq_true rfl)) dX6_close_22 (fun u9 S10 o11 hZ12 => ?_)
  refine h_istore_n (lv' := [some (.ref (gO' Y 4)), some (.int (zI r1)), some (.int (zI (yget A2 21 ((yz A2 21 : Nat) - 1 : Int))))]) hC dX6_close_25 (Nat.le_of_ble_eq_true rfl) rfl rfl ?_
  refine h_iload_n hC dX6_close_26 rfl ?_
  refine yr_if_eq (tgt := 35) hC R5 dX6_close_27 (by decide) (fun c13 => ?_) (fun c13 => ?_)
  · have h14 := h8.1 c13
    refine h_aload_n hC dX6_close_35 rfl ?_
    refine yr_callVv (As := []) hC hr o11 hZ12 rfl (hZ12.w.o 4 (by decide)) (cm_Parser_advance X.la d b  hZ12.rs h14) cl_X6_103 rfl rfl (Nat.le_of_ble_eq_true rfl) (hFr_of (Nat.le_of_ble_eq_true rfl) (Nat.le_of_ble_eq_true rfl)) dX6_close_36 (fun A16 u17 S18 o20 hZ21 h22 => ?_)
    refine h_goto (tgt := 54) hC dX6_close_39 (by decide) ?_
    refine h_aload_n hC dX6_close_54 rfl ?_
    refine h_dup hC dX6_close_55 rfl ?_
    refine h_get hC fl_X6_31 (hZ21.w.o 4 (by decide)) rfl dX6_close_56 ?_
    refine yr_sv (e := (yv A16 11)) hZ21 11 rfl ?_
    refine h_iconst (v := zI 1) hC dX6_close_59 rfl ?_
    refine yr_isub hC dX6_close_60 ?_
    obtain ⟨o23, h24⟩ := h22
    refine hi_putx (i := 4) (kx := 11) hC hZ21.hi (by decide) fl_X6_31 rfl rfl rfl (Nat.le_of_ble_eq_true rfl) rfl gsame_11 (fun q => absurd q (by decide)) dX6_close_61 (fun F25 S26 I27 K28 s29 v30 p31 => ?_)
    have hZ32 := hZ21.put I27 K28 s29 v30 o23 rfl
    clear I27 K28 s29 v30 p31
    refine yr_nu o20 hZ32 (fun u33 o34 hZ35 => ?_)
    exact h_xret (yr_vret hC hr o34 hZ35 h24 dX6_close_64)
  · have h36 := h8.2 c13
    refine h_iload_n hC dX6_close_30 rfl ?_
    refine h_iload_n hC dX6_close_31 rfl ?_
    refine yr_icmp_ne (tgt := 42) hC R5 (hZ7.rg 21 _) dX6_close_32 (by decide) (fun c37 => ?_) (fun c37 => ?_)
    · have h38 := h36.1 c37
      refine h_aload_n hC dX6_close_42 rfl ?_
      refine h_iload_n hC dX6_close_43 rfl ?_
      refine yr_callVi (As := [.int (zI r1)]) hC hr o11 hZ12 rfl (hZ12.w.o 4 (by decide)) (cm_Parser_isOpen X.la d b R5 hZ12.rs h38) cl_X6_168 rfl rfl (Nat.le_of_ble_eq_true rfl) (hFr_of (Nat.le_of_ble_eq_true rfl) (Nat.le_of_ble_eq_true rfl)) dX6_close_44 (fun r39 A40 u41 S42 R43 o44 hZ45 h46 => ?_)
      refine yr_if_ne (tgt := 54) hC R43 dX6_close_47 (by decide) (fun c47 => ?_) (fun c47 => ?_)
      · have h48 := h46.1 c47
        refine h_aload_n hC dX6_close_54 rfl ?_
        refine h_dup hC dX6_close_55 rfl ?_
        refine h_get hC fl_X6_31 (hZ45.w.o 4 (by decide)) rfl dX6_close_56 ?_
        refine yr_sv (e := (yv A40 11)) hZ45 11 rfl ?_
        refine h_iconst (v := zI 1) hC dX6_close_59 rfl ?_
        refine yr_isub hC dX6_close_60 ?_
        obtain ⟨o49, h50⟩ := h48
        refine hi_putx (i := 4) (kx := 11) hC hZ45.hi (by decide) fl_X6_31 rfl rfl rfl (Nat.le_of_ble_eq_true rfl) rfl gsame_11 (fun q => absurd q (by decide)) dX6_close_61 (fun F51 S52 I53 K54 s55 v56 p57 => ?_)
        have hZ58 := hZ45.put I53 K54 s55 v56 o49 rfl
        clear I53 K54 s55 v56 p57
        refine yr_nu o44 hZ58 (fun u59 o60 hZ61 => ?_)
        exact h_xret (yr_vret hC hr o60 hZ61 h50 dX6_close_64)
      · have h62 := h46.2 c47
        refine h_aload_n hC dX6_close_50 rfl ?_
        refine yx_callv (As := []) hC hr o44 hZ45 rfl (hZ45.w.o 4 (by decide)) (cm_Parser_refuse X.la d b hst hcx  hZ45.rs h62) cl_X6_100 rfl rfl (Nat.le_of_ble_eq_true rfl) (hFr_of (Nat.le_of_ble_eq_true rfl) (Nat.le_of_ble_eq_true rfl)) dX6_close_51 (fun _ _ _ ho1 hz1 he1 => yx_out hC hr ho1 hz1 hT he1) (fun A64 u65 S66 o68 hZ69 h70 => ?_)
        refine h_aload_n hC dX6_close_54 rfl ?_
        refine h_dup hC dX6_close_55 rfl ?_
        refine h_get hC fl_X6_31 (hZ69.w.o 4 (by decide)) rfl dX6_close_56 ?_
        refine yr_sv (e := (yv A64 11)) hZ69 11 rfl ?_
        refine h_iconst (v := zI 1) hC dX6_close_59 rfl ?_
        refine yr_isub hC dX6_close_60 ?_
        obtain ⟨o71, h72⟩ := h70
        refine hi_putx (i := 4) (kx := 11) hC hZ69.hi (by decide) fl_X6_31 rfl rfl rfl (Nat.le_of_ble_eq_true rfl) rfl gsame_11 (fun q => absurd q (by decide)) dX6_close_61 (fun F73 S74 I75 K76 s77 v78 p79 => ?_)
        have hZ80 := hZ69.put I75 K76 s77 v78 o71 rfl
        clear I75 K76 s77 v78 p79
        refine yr_nu o68 hZ80 (fun u81 o82 hZ83 => ?_)
        exact h_xret (yr_vret hC hr o82 hZ83 h72 dX6_close_64)
    · have h84 := h36.2 c37
      refine h_aload_n hC dX6_close_35 rfl ?_
      refine yr_callVv (As := []) hC hr o11 hZ12 rfl (hZ12.w.o 4 (by decide)) (cm_Parser_advance X.la d b  hZ12.rs h84) cl_X6_103 rfl rfl (Nat.le_of_ble_eq_true rfl) (hFr_of (Nat.le_of_ble_eq_true rfl) (Nat.le_of_ble_eq_true rfl)) dX6_close_36 (fun A86 u87 S88 o90 hZ91 h92 => ?_)
      refine h_goto (tgt := 54) hC dX6_close_39 (by decide) ?_
      refine h_aload_n hC dX6_close_54 rfl ?_
      refine h_dup hC dX6_close_55 rfl ?_
      refine h_get hC fl_X6_31 (hZ91.w.o 4 (by decide)) rfl dX6_close_56 ?_
      refine yr_sv (e := (yv A86 11)) hZ91 11 rfl ?_
      refine h_iconst (v := zI 1) hC dX6_close_59 rfl ?_
      refine yr_isub hC dX6_close_60 ?_
      obtain ⟨o93, h94⟩ := h92
      refine hi_putx (i := 4) (kx := 11) hC hZ91.hi (by decide) fl_X6_31 rfl rfl rfl (Nat.le_of_ble_eq_true rfl) rfl gsame_11 (fun q => absurd q (by decide)) dX6_close_61 (fun F95 S96 I97 K98 s99 v100 p101 => ?_)
      have hZ102 := hZ91.put I97 K98 s99 v100 o93 rfl
      clear I97 K98 s99 v100 p101
      refine yr_nu o90 hZ102 (fun u103 o104 hZ105 => ?_)
      exact h_xret (yr_vret hC hr o104 hZ105 h94 dX6_close_64)
set_option maxHeartbeats 4000000 in
set_option maxRecDepth 100000 in
theorem cm_Parser_close (l : Launch) (d : gD) (b : Nat) {Y : gYt} {c : Nat × Nat} (hst : l.stackTraces = false) (hcx : yCx b c) {F : gM} {k n : Nat} {S : gSt} {A0 : cS}   {Q : cS → Prop} {E : cS → Prop} (hZ : yZ d b Y c F S (F, k, n) S A0) (hw : wc_Parser_close A0  Q E) : hXv l d b yX6_close cX6_close 3 7 k n F [.ref (gO' Y 4)] (yPv d b Y c F S Q) "java/lang/IllegalStateException" (yPx d b Y c F S E) := by
  intro mc ms
  refine hX_of2 rfl (nL := 3) (Nat.le_of_ble_eq_true rfl) ?_
  intro X hX hT hC hr ho; subst hX
  show yG X d b (yxQv X d b Y c F S mc ms Q E) (F, k, n) 0 [some (.ref (gO' Y 4)), none, none] []
  unfold wc_Parser_close at hw
  refine h_aload_n hC dX6_close_0 rfl ?_
  refine yr_callVi (As := []) hC hr ho hZ rfl (hZ.w.o 4 (by decide)) (cm_Parser_kind X.la d b  hZ.rs hw) cl_X6_97 rfl rfl (Nat.le_of_ble_eq_true rfl) (hFr_of (Nat.le_of_ble_eq_true rfl) (Nat.le_of_ble_eq_true rfl)) dX6_close_1 (fun r1 A2 u3 S4 R5 o6 hZ7 h8 => ?_)
  refine h_bipush (v := zI 6) hC dX6_close_4 rfl ?_
  refine yr_icmp_eq (tgt := 13) hC R5 (by decide) dX6_close_6 (by decide) (fun c9 => ?_) (fun c9 => ?_)
  · have h10 := h8.1 c9
    exact cj_Parser_close_13 hC hr hst hT hcx   o6 hZ7 h10
  · have h11 := h8.2 c9
    refine h_aload_n hC dX6_close_9 rfl ?_
    refine yx_callv (As := []) hC hr o6 hZ7 rfl (hZ7.w.o 4 (by decide)) (cm_Parser_refuse X.la d b hst hcx  hZ7.rs h11) cl_X6_100 rfl rfl (Nat.le_of_ble_eq_true rfl) (hFr_of (Nat.le_of_ble_eq_true rfl) (Nat.le_of_ble_eq_true rfl)) dX6_close_10 (fun _ _ _ ho1 hz1 he1 => yx_out hC hr ho1 hz1 hT he1) (fun A13 u14 S15 o17 hZ18 h19 => ?_)
    exact cj_Parser_close_13 hC hr hst hT hcx   o17 hZ18 h19
theorem dX6_passDo_0 : decode cX6_passDo 0 = .ok (.aload_n 0, 1) := by decide +kernel
theorem dX6_passDo_1 : decode cX6_passDo 1 = .ok (.invokevirtual 97, 3) := by decide +kernel
theorem dX6_passDo_4 : decode cX6_passDo 4 = .ok (.istore_n 1, 1) := by decide +kernel
theorem dX6_passDo_5 : decode cX6_passDo 5 = .ok (.iload_n 1, 1) := by decide +kernel
theorem dX6_passDo_6 : decode cX6_passDo 6 = .ok (.bipush 36, 2) := by decide +kernel
theorem dX6_passDo_8 : decode cX6_passDo 8 = .ok (.if_icmp .lt 25, 3) := by decide +kernel
theorem dX6_passDo_11 : decode cX6_passDo 11 = .ok (.iload_n 1, 1) := by decide +kernel
theorem dX6_passDo_12 : decode cX6_passDo 12 = .ok (.bipush 51, 2) := by decide +kernel
theorem dX6_passDo_14 : decode cX6_passDo 14 = .ok (.if_icmp .gt 19, 3) := by decide +kernel
theorem dX6_passDo_17 : decode cX6_passDo 17 = .ok (.iload_n 1, 1) := by decide +kernel
theorem dX6_passDo_18 : decode cX6_passDo 18 = .ok (.bipush 43, 2) := by decide +kernel
theorem dX6_passDo_20 : decode cX6_passDo 20 = .ok (.if_icmp .eq 13, 3) := by decide +kernel
theorem dX6_passDo_23 : decode cX6_passDo 23 = .ok (.iload_n 1, 1) := by decide +kernel
theorem dX6_passDo_24 : decode cX6_passDo 24 = .ok (.bipush 44, 2) := by decide +kernel
theorem dX6_passDo_26 : decode cX6_passDo 26 = .ok (.if_icmp .eq 7, 3) := by decide +kernel
theorem dX6_passDo_29 : decode cX6_passDo 29 = .ok (.iconst 1, 1) := by decide +kernel
theorem dX6_passDo_30 : decode cX6_passDo 30 = .ok (.goto 4, 3) := by decide +kernel
theorem dX6_passDo_33 : decode cX6_passDo 33 = .ok (.iconst 0, 1) := by decide +kernel
theorem dX6_passDo_34 : decode cX6_passDo 34 = .ok (.istore_n 2, 1) := by decide +kernel
theorem dX6_passDo_35 : decode cX6_passDo 35 = .ok (.iload_n 1, 1) := by decide +kernel
theorem dX6_passDo_36 : decode cX6_passDo 36 = .ok (.bipush 61, 2) := by decide +kernel
theorem dX6_passDo_38 : decode cX6_passDo 38 = .ok (.if_icmp .ne 10, 3) := by decide +kernel
theorem dX6_passDo_41 : decode cX6_passDo 41 = .ok (.aload_n 0, 1) := by decide +kernel
theorem dX6_passDo_42 : decode cX6_passDo 42 = .ok (.invokevirtual 103, 3) := by decide +kernel
theorem dX6_passDo_45 : decode cX6_passDo 45 = .ok (.goto 16, 3) := by decide +kernel
theorem dX6_passDo_48 : decode cX6_passDo 48 = .ok (.iload_n 1, 1) := by decide +kernel
theorem dX6_passDo_49 : decode cX6_passDo 49 = .ok (.iconst 5, 1) := by decide +kernel
theorem dX6_passDo_50 : decode cX6_passDo 50 = .ok (.if_icmp .eq 11, 3) := by decide +kernel
theorem dX6_passDo_53 : decode cX6_passDo 53 = .ok (.iload_n 2, 1) := by decide +kernel
theorem dX6_passDo_54 : decode cX6_passDo 54 = .ok (.ifCond .ne 7, 3) := by decide +kernel
theorem dX6_passDo_57 : decode cX6_passDo 57 = .ok (.aload_n 0, 1) := by decide +kernel
theorem dX6_passDo_58 : decode cX6_passDo 58 = .ok (.invokevirtual 100, 3) := by decide +kernel
theorem dX6_passDo_61 : decode cX6_passDo 61 = .ok (.return_, 1) := by decide +kernel
def wc_Parser_passDo_33 (Q : cS → Prop) (E : cS → Prop)  (A0 : cS) (x1 : Int) : Prop :=
  ((¬ x1 = 61 → ((x1 = 5 → Q A0) ∧ (¬ x1 = 5 → wc_Parser_refuse A0  (fun A8 => Q A8) E))) ∧ (x1 = 61 → wc_Parser_advance A0  (fun A17 => Q A17)))
def wc_Parser_passDo (A0 : cS)  (Q : cS → Prop) (E : cS → Prop) : Prop :=
  wc_Parser_kind A0  (fun r1 A2 => ((r1 < 36 → wc_Parser_passDo_33 Q E  A2 r1) ∧ (¬ r1 < 36 → ((51 < r1 → wc_Parser_passDo_33 Q E  A2 r1) ∧ (¬ 51 < r1 → ((r1 = 43 → wc_Parser_passDo_33 Q E  A2 r1) ∧ (¬ r1 = 43 → ((r1 = 44 → wc_Parser_passDo_33 Q E  A2 r1) ∧ (¬ r1 = 44 → ((¬ r1 = 61 → ((r1 = 5 → Q A2) ∧ (¬ r1 = 5 → Q A2))) ∧ (r1 = 61 → wc_Parser_advance A2  (fun A29 => Q A29))))))))))))
set_option maxHeartbeats 4000000 in
set_option maxRecDepth 100000 in
theorem cj_Parser_passDo_33 {X : gX} {d : gD} {b : Nat} {Y : gYt} {c : Nat × Nat} {F0 : gM} {S0 : gSt} {mc ms : Nat} (hC : gC RX6 cX6_passDo 3 none "passDo" (gR 7 mc ms) d b X) (hr : hRm X b) (hst : X.la.stackTraces = false) (hT : ∀ x ∈ X.co.exceptionTable.toList, False) (hcx : yCx b c) {Q : cS → Prop} {E : cS → Prop}   {u : hU} {S : gSt} {A0 : cS} {x1 : Int} (Rx1 : zR x1) (ho : yOk X b u) (hZ : yZ d b Y c F0 S0 u S A0) (hw : wc_Parser_passDo_33 Q E  A0 x1) : yG X d b (yxQv X d b Y c F0 S0 mc ms Q E) u 33 [some (.ref (gO' Y 4)), some (.int (zI x1)), none] [] := by
  unfold wc_Parser_passDo_33 at hw
  refine h_iconst (v := zI 0) hC dX6_passDo_33 rfl ?_
  refine h_istore_n (lv' := [some (.ref (gO' Y 4)), some (.int (zI x1)), some (.int (zI 0))]) hC dX6_passDo_34 (Nat.le_of_ble_eq_true rfl) rfl rfl ?_
  refine h_iload_n hC dX6_passDo_35 rfl ?_
  refine h_bipush (v := zI 61) hC dX6_passDo_36 rfl ?_
  refine yr_icmp_ne (tgt := 48) hC Rx1 (by decide) dX6_passDo_38 (by decide) (fun c1 => ?_) (fun c1 => ?_)
  · have h2 := hw.1 c1
    refine h_iload_n hC dX6_passDo_48 rfl ?_
    refine h_iconst (v := zI 5) hC dX6_passDo_49 rfl ?_
    refine yr_icmp_eq (tgt := 61) hC Rx1 (by decide) dX6_passDo_50 (by decide) (fun c3 => ?_) (fun c3 => ?_)
    · have h4 := h2.1 c3
      exact h_xret (yr_vret hC hr ho hZ h4 dX6_passDo_61)
    · have h5 := h2.2 c3
      refine h_iload_n hC dX6_passDo_53 rfl ?_
      refine yr_if_ne (tgt := 61) hC (by decide) dX6_passDo_54 (by decide) (fun c6 => ?_) (fun c6 => ?_)
      · exact absurd (by decide) c6
      · refine h_aload_n hC dX6_passDo_57 rfl ?_
        refine yx_callv (As := []) hC hr ho hZ rfl (hZ.w.o 4 (by decide)) (cm_Parser_refuse X.la d b hst hcx  hZ.rs h5) cl_X6_100 rfl rfl (Nat.le_of_ble_eq_true rfl) (hFr_of (Nat.le_of_ble_eq_true rfl) (Nat.le_of_ble_eq_true rfl)) dX6_passDo_58 (fun _ _ _ ho1 hz1 he1 => yx_out hC hr ho1 hz1 hT he1) (fun A8 u9 S10 o12 hZ13 h14 => ?_)
        exact h_xret (yr_vret hC hr o12 hZ13 h14 dX6_passDo_61)
  · have h15 := hw.2 c1
    refine h_aload_n hC dX6_passDo_41 rfl ?_
    refine yr_callVv (As := []) hC hr ho hZ rfl (hZ.w.o 4 (by decide)) (cm_Parser_advance X.la d b  hZ.rs h15) cl_X6_103 rfl rfl (Nat.le_of_ble_eq_true rfl) (hFr_of (Nat.le_of_ble_eq_true rfl) (Nat.le_of_ble_eq_true rfl)) dX6_passDo_42 (fun A17 u18 S19 o21 hZ22 h23 => ?_)
    refine h_goto (tgt := 61) hC dX6_passDo_45 (by decide) ?_
    exact h_xret (yr_vret hC hr o21 hZ22 h23 dX6_passDo_61)
set_option maxHeartbeats 4000000 in
set_option maxRecDepth 100000 in
theorem cm_Parser_passDo (l : Launch) (d : gD) (b : Nat) {Y : gYt} {c : Nat × Nat} (hst : l.stackTraces = false) (hcx : yCx b c) {F : gM} {k n : Nat} {S : gSt} {A0 : cS}   {Q : cS → Prop} {E : cS → Prop} (hZ : yZ d b Y c F S (F, k, n) S A0) (hw : wc_Parser_passDo A0  Q E) : hXv l d b yX6_passDo cX6_passDo 3 7 k n F [.ref (gO' Y 4)] (yPv d b Y c F S Q) "java/lang/IllegalStateException" (yPx d b Y c F S E) := by
  intro mc ms
  refine hX_of2 rfl (nL := 3) (Nat.le_of_ble_eq_true rfl) ?_
  intro X hX hT hC hr ho; subst hX
  show yG X d b (yxQv X d b Y c F S mc ms Q E) (F, k, n) 0 [some (.ref (gO' Y 4)), none, none] []
  unfold wc_Parser_passDo at hw
  refine h_aload_n hC dX6_passDo_0 rfl ?_
  refine yr_callVi (As := []) hC hr ho hZ rfl (hZ.w.o 4 (by decide)) (cm_Parser_kind X.la d b  hZ.rs hw) cl_X6_97 rfl rfl (Nat.le_of_ble_eq_true rfl) (hFr_of (Nat.le_of_ble_eq_true rfl) (Nat.le_of_ble_eq_true rfl)) dX6_passDo_1 (fun r1 A2 u3 S4 R5 o6 hZ7 h8 => ?_)
  refine h_istore_n (lv' := [some (.ref (gO' Y 4)), some (.int (zI r1)), none]) hC dX6_passDo_4 (Nat.le_of_ble_eq_true rfl) rfl rfl ?_
  refine h_iload_n hC dX6_passDo_5 rfl ?_
  refine h_bipush (v := zI 36) hC dX6_passDo_6 rfl ?_
  refine yr_icmp_lt (tgt := 33) hC R5 (by decide) dX6_passDo_8 (by decide) (fun c9 => ?_) (fun c9 => ?_)
  · have h10 := h8.1 c9
    exact cj_Parser_passDo_33 hC hr hst hT hcx  R5 o6 hZ7 h10
  · have h11 := h8.2 c9
    refine h_iload_n hC dX6_passDo_11 rfl ?_
    refine h_bipush (v := zI 51) hC dX6_passDo_12 rfl ?_
    refine yr_icmp_gt (tgt := 33) hC R5 (by decide) dX6_passDo_14 (by decide) (fun c12 => ?_) (fun c12 => ?_)
    · have h13 := h11.1 c12
      exact cj_Parser_passDo_33 hC hr hst hT hcx  R5 o6 hZ7 h13
    · have h14 := h11.2 c12
      refine h_iload_n hC dX6_passDo_17 rfl ?_
      refine h_bipush (v := zI 43) hC dX6_passDo_18 rfl ?_
      refine yr_icmp_eq (tgt := 33) hC R5 (by decide) dX6_passDo_20 (by decide) (fun c15 => ?_) (fun c15 => ?_)
      · have h16 := h14.1 c15
        exact cj_Parser_passDo_33 hC hr hst hT hcx  R5 o6 hZ7 h16
      · have h17 := h14.2 c15
        refine h_iload_n hC dX6_passDo_23 rfl ?_
        refine h_bipush (v := zI 44) hC dX6_passDo_24 rfl ?_
        refine yr_icmp_eq (tgt := 33) hC R5 (by decide) dX6_passDo_26 (by decide) (fun c18 => ?_) (fun c18 => ?_)
        · have h19 := h17.1 c18
          exact cj_Parser_passDo_33 hC hr hst hT hcx  R5 o6 hZ7 h19
        · have h20 := h17.2 c18
          refine h_iconst (v := zI 1) hC dX6_passDo_29 rfl ?_
          refine h_goto (tgt := 34) hC dX6_passDo_30 (by decide) ?_
          refine h_istore_n (lv' := [some (.ref (gO' Y 4)), some (.int (zI r1)), some (.int (zI 1))]) hC dX6_passDo_34 (Nat.le_of_ble_eq_true rfl) rfl rfl ?_
          refine h_iload_n hC dX6_passDo_35 rfl ?_
          refine h_bipush (v := zI 61) hC dX6_passDo_36 rfl ?_
          refine yr_icmp_ne (tgt := 48) hC R5 (by decide) dX6_passDo_38 (by decide) (fun c21 => ?_) (fun c21 => ?_)
          · have h22 := h20.1 c21
            refine h_iload_n hC dX6_passDo_48 rfl ?_
            refine h_iconst (v := zI 5) hC dX6_passDo_49 rfl ?_
            refine yr_icmp_eq (tgt := 61) hC R5 (by decide) dX6_passDo_50 (by decide) (fun c23 => ?_) (fun c23 => ?_)
            · have h24 := h22.1 c23
              exact h_xret (yr_vret hC hr o6 hZ7 h24 dX6_passDo_61)
            · have h25 := h22.2 c23
              refine h_iload_n hC dX6_passDo_53 rfl ?_
              refine yr_if_ne (tgt := 61) hC (by decide) dX6_passDo_54 (by decide) (fun c26 => ?_) (fun c26 => ?_)
              · exact h_xret (yr_vret hC hr o6 hZ7 h25 dX6_passDo_61)
              · exact absurd c26 (by decide)
          · have h27 := h20.2 c21
            refine h_aload_n hC dX6_passDo_41 rfl ?_
            refine yr_callVv (As := []) hC hr o6 hZ7 rfl (hZ7.w.o 4 (by decide)) (cm_Parser_advance X.la d b  hZ7.rs h27) cl_X6_103 rfl rfl (Nat.le_of_ble_eq_true rfl) (hFr_of (Nat.le_of_ble_eq_true rfl) (Nat.le_of_ble_eq_true rfl)) dX6_passDo_42 (fun A29 u30 S31 o33 hZ34 h35 => ?_)
            refine h_goto (tgt := 61) hC dX6_passDo_45 (by decide) ?_
            exact h_xret (yr_vret hC hr o33 hZ34 h35 dX6_passDo_61)
theorem dX6_names_0 : decode cX6_names 0 = .ok (.iconst 1, 1) := by decide +kernel
theorem dX6_names_1 : decode cX6_names 1 = .ok (.istore_n 2, 1) := by decide +kernel
theorem dX6_names_2 : decode cX6_names 2 = .ok (.iload_n 2, 1) := by decide +kernel
theorem dX6_names_3 : decode cX6_names 3 = .ok (.ldc 11, 2) := by decide +kernel
theorem dX6_names_5 : decode cX6_names 5 = .ok (.if_icmp .ge 56, 3) := by decide +kernel
theorem dX6_names_8 : decode cX6_names 8 = .ok (.aload_n 0, 1) := by decide +kernel
theorem dX6_names_9 : decode cX6_names 9 = .ok (.invokevirtual 97, 3) := by decide +kernel
theorem dX6_names_12 : decode cX6_names 12 = .ok (.iconst 2, 1) := by decide +kernel
theorem dX6_names_13 : decode cX6_names 13 = .ok (.if_icmp .eq 7, 3) := by decide +kernel
theorem dX6_names_16 : decode cX6_names 16 = .ok (.aload_n 0, 1) := by decide +kernel
theorem dX6_names_17 : decode cX6_names 17 = .ok (.invokevirtual 100, 3) := by decide +kernel
theorem dX6_names_20 : decode cX6_names 20 = .ok (.aload_n 0, 1) := by decide +kernel
theorem dX6_names_21 : decode cX6_names 21 = .ok (.getfield 60, 3) := by decide +kernel
theorem dX6_names_24 : decode cX6_names 24 = .ok (.iload_n 1, 1) := by decide +kernel
theorem dX6_names_25 : decode cX6_names 25 = .ok (.aload_n 0, 1) := by decide +kernel
theorem dX6_names_26 : decode cX6_names 26 = .ok (.iconst 2, 1) := by decide +kernel
theorem dX6_names_27 : decode cX6_names 27 = .ok (.invokevirtual 135, 3) := by decide +kernel
theorem dX6_names_30 : decode cX6_names 30 = .ok (.invokevirtual 123, 3) := by decide +kernel
theorem dX6_names_33 : decode cX6_names 33 = .ok (.aload_n 0, 1) := by decide +kernel
theorem dX6_names_34 : decode cX6_names 34 = .ok (.invokevirtual 97, 3) := by decide +kernel
theorem dX6_names_37 : decode cX6_names 37 = .ok (.bipush 9, 2) := by decide +kernel
theorem dX6_names_39 : decode cX6_names 39 = .ok (.if_icmp .ne 22, 3) := by decide +kernel
theorem dX6_names_42 : decode cX6_names 42 = .ok (.iload_n 2, 1) := by decide +kernel
theorem dX6_names_43 : decode cX6_names 43 = .ok (.bipush 20, 2) := by decide +kernel
theorem dX6_names_45 : decode cX6_names 45 = .ok (.if_icmp .ne 6, 3) := by decide +kernel
theorem dX6_names_48 : decode cX6_names 48 = .ok (.goto 13, 3) := by decide +kernel
theorem dX6_names_51 : decode cX6_names 51 = .ok (.aload_n 0, 1) := by decide +kernel
theorem dX6_names_52 : decode cX6_names 52 = .ok (.invokevirtual 103, 3) := by decide +kernel
theorem dX6_names_55 : decode cX6_names 55 = .ok (.iinc 2 1, 3) := by decide +kernel
theorem dX6_names_58 : decode cX6_names 58 = .ok (.goto (-56), 3) := by decide +kernel
theorem dX6_names_61 : decode cX6_names 61 = .ok (.return_, 1) := by decide +kernel
def wc_Parser_names_2B (Q : cS → Prop) (E : cS → Prop) (k2 : cS → Int → Int → Prop) (A0 : cS) (x1 : Int) (x2 : Int) : Prop :=
  ((1000000 ≤ x2 → Q A0) ∧ (¬ 1000000 ≤ x2 → wc_Parser_kind A0  (fun r4 A5 => ((r4 = 2 → wc_Parser_leaf A5 2 (fun r14 A15 => wc_Tree_hang A15 x1 r14 (fun A23 => wc_Parser_kind A23  (fun r30 A31 => ((¬ r30 = 9 → Q A31) ∧ (r30 = 9 → ((¬ x2 = 20 → wc_Parser_advance A31  (fun A44 => (zR (x2 + 1)) ∧ k2 A44 x1 (x2 + 1))) ∧ (x2 = 20 → Q A31)))))))) ∧ (¬ r4 = 2 → wc_Parser_refuse A5  (fun A56 => wc_Parser_leaf A56 2 (fun r63 A64 => wc_Tree_hang A64 x1 r63 (fun A72 => wc_Parser_kind A72  (fun r79 A80 => ((¬ r79 = 9 → Q A80) ∧ (r79 = 9 → ((¬ x2 = 20 → wc_Parser_advance A80  (fun A93 => (zR (x2 + 1)) ∧ k2 A93 x1 (x2 + 1))) ∧ (x2 = 20 → Q A80)))))))) E)))))
def wc_Parser_names_2 (Q : cS → Prop) (E : cS → Prop)  : Nat → cS → Int → Int → Prop
  | 0 => fun _ _ _ => False
  | m + 1 => fun A0 x1 x2 => wc_Parser_names_2B Q E  (wc_Parser_names_2 Q E  m) A0 x1 x2
def wc_Parser_names (A0 : cS) (a0 : Int) (Q : cS → Prop) (E : cS → Prop) : Prop :=
  ∃ n, wc_Parser_names_2 Q E  n A0 a0 1
set_option maxHeartbeats 4000000 in
set_option maxRecDepth 100000 in
theorem cb_Parser_names_2 {X : gX} {d : gD} {b : Nat} {Y : gYt} {c : Nat × Nat} {F0 : gM} {S0 : gSt} {mc ms : Nat} (hC : gC RX6 cX6_names 3 none "names" (gR 7 mc ms) d b X) (hr : hRm X b) (hst : X.la.stackTraces = false) (hT : ∀ x ∈ X.co.exceptionTable.toList, False) (hcx : yCx b c) {Q : cS → Prop} {E : cS → Prop} {k2 : cS → Int → Int → Prop} (hk2 : ∀ (u : hU) (S : gSt) (A0 : cS) (x1 : Int) (x2 : Int), zR x1 → zR x2 → yOk X b u → yZ d b Y c F0 S0 u S A0 → k2 A0 x1 x2 → yG X d b (yxQv X d b Y c F0 S0 mc ms Q E) u 2 [some (.ref (gO' Y 4)), some (.int (zI x1)), some (.int (zI x2))] []) {u : hU} {S : gSt} {A0 : cS} {x1 : Int} {x2 : Int} (Rx1 : zR x1) (Rx2 : zR x2) (ho : yOk X b u) (hZ : yZ d b Y c F0 S0 u S A0) (hw : wc_Parser_names_2B Q E k2 A0 x1 x2) : yG X d b (yxQv X d b Y c F0 S0 mc ms Q E) u 2 [some (.ref (gO' Y 4)), some (.int (zI x1)), some (.int (zI x2))] [] := by
  unfold wc_Parser_names_2B at hw
  refine h_iload_n hC dX6_names_2 rfl ?_
  refine yr_ldc (e := 1000000) hC dX6_names_3 kw_514 (by decide) ?_
  refine yr_icmp_ge (tgt := 61) hC Rx2 (by decide) dX6_names_5 (by decide) (fun c1 => ?_) (fun c1 => ?_)
  · have h2 := hw.1 c1
    exact h_xret (yr_vret hC hr ho hZ h2 dX6_names_61)
  · have h3 := hw.2 c1
    refine h_aload_n hC dX6_names_8 rfl ?_
    refine yr_callVi (As := []) hC hr ho hZ rfl (hZ.w.o 4 (by decide)) (cm_Parser_kind X.la d b  hZ.rs h3) cl_X6_97 rfl rfl (Nat.le_of_ble_eq_true rfl) (hFr_of (Nat.le_of_ble_eq_true rfl) (Nat.le_of_ble_eq_true rfl)) dX6_names_9 (fun r4 A5 u6 S7 R8 o9 hZ10 h11 => ?_)
    refine h_iconst (v := zI 2) hC dX6_names_12 rfl ?_
    refine yr_icmp_eq (tgt := 20) hC R8 (by decide) dX6_names_13 (by decide) (fun c12 => ?_) (fun c12 => ?_)
    · have h13 := h11.1 c12
      refine h_aload_n hC dX6_names_20 rfl ?_
      refine h_get hC fl_X6_60 (hZ10.w.o 4 (by decide)) rfl dX6_names_21 ?_
      refine h_iload_n hC dX6_names_24 rfl ?_
      refine h_aload_n hC dX6_names_25 rfl ?_
      refine h_iconst (v := zI 2) hC dX6_names_26 rfl ?_
      refine yr_callVi (As := [.int (zI 2)]) hC hr o9 hZ10 rfl (hZ10.w.o 4 (by decide)) (cm_Parser_leaf X.la d b (by decide) hZ10.rs h13) cl_X6_135 rfl rfl (Nat.le_of_ble_eq_true rfl) (hFr_of (Nat.le_of_ble_eq_true rfl) (Nat.le_of_ble_eq_true rfl)) dX6_names_27 (fun r14 A15 u16 S17 R18 o19 hZ20 h21 => ?_)
      refine yr_callVv (As := [.int (zI x1), .int (zI r14)]) hC hr o19 hZ20 rfl (hZ20.w.o 2 (by decide)) (cm_Tree_hang X.la d b Rx1 R18 hZ20.rs h21) cl_X6_123 rfl rfl (Nat.le_of_ble_eq_true rfl) (hFr_of (Nat.le_of_ble_eq_true rfl) (Nat.le_of_ble_eq_true rfl)) dX6_names_30 (fun A23 u24 S25 o27 hZ28 h29 => ?_)
      refine h_aload_n hC dX6_names_33 rfl ?_
      refine yr_callVi (As := []) hC hr o27 hZ28 rfl (hZ28.w.o 4 (by decide)) (cm_Parser_kind X.la d b  hZ28.rs h29) cl_X6_97 rfl rfl (Nat.le_of_ble_eq_true rfl) (hFr_of (Nat.le_of_ble_eq_true rfl) (Nat.le_of_ble_eq_true rfl)) dX6_names_34 (fun r30 A31 u32 S33 R34 o35 hZ36 h37 => ?_)
      refine h_bipush (v := zI 9) hC dX6_names_37 rfl ?_
      refine yr_icmp_ne (tgt := 61) hC R34 (by decide) dX6_names_39 (by decide) (fun c38 => ?_) (fun c38 => ?_)
      · have h39 := h37.1 c38
        exact h_xret (yr_vret hC hr o35 hZ36 h39 dX6_names_61)
      · have h40 := h37.2 c38
        refine h_iload_n hC dX6_names_42 rfl ?_
        refine h_bipush (v := zI 20) hC dX6_names_43 rfl ?_
        refine yr_icmp_ne (tgt := 51) hC Rx2 (by decide) dX6_names_45 (by decide) (fun c41 => ?_) (fun c41 => ?_)
        · have h42 := h40.1 c41
          refine h_aload_n hC dX6_names_51 rfl ?_
          refine yr_callVv (As := []) hC hr o35 hZ36 rfl (hZ36.w.o 4 (by decide)) (cm_Parser_advance X.la d b  hZ36.rs h42) cl_X6_103 rfl rfl (Nat.le_of_ble_eq_true rfl) (hFr_of (Nat.le_of_ble_eq_true rfl) (Nat.le_of_ble_eq_true rfl)) dX6_names_52 (fun A44 u45 S46 o48 hZ49 h50 => ?_)
          refine yr_iinc (x := x2) (lv' := [some (.ref (gO' Y 4)), some (.int (zI x1)), some (.int (zI (x2 + 1)))]) hC dX6_names_55 rfl rfl rfl ?_
          refine h_goto (tgt := 2) hC dX6_names_58 (by decide) ?_
          obtain ⟨o51, h52⟩ := h50
          exact hk2 _ _ _ _ _ Rx1 o51 o48 hZ49 h52
        · have h53 := h40.2 c41
          refine h_goto (tgt := 61) hC dX6_names_48 (by decide) ?_
          exact h_xret (yr_vret hC hr o35 hZ36 h53 dX6_names_61)
    · have h54 := h11.2 c12
      refine h_aload_n hC dX6_names_16 rfl ?_
      refine yx_callv (As := []) hC hr o9 hZ10 rfl (hZ10.w.o 4 (by decide)) (cm_Parser_refuse X.la d b hst hcx  hZ10.rs h54) cl_X6_100 rfl rfl (Nat.le_of_ble_eq_true rfl) (hFr_of (Nat.le_of_ble_eq_true rfl) (Nat.le_of_ble_eq_true rfl)) dX6_names_17 (fun _ _ _ ho1 hz1 he1 => yx_out hC hr ho1 hz1 hT he1) (fun A56 u57 S58 o60 hZ61 h62 => ?_)
      refine h_aload_n hC dX6_names_20 rfl ?_
      refine h_get hC fl_X6_60 (hZ61.w.o 4 (by decide)) rfl dX6_names_21 ?_
      refine h_iload_n hC dX6_names_24 rfl ?_
      refine h_aload_n hC dX6_names_25 rfl ?_
      refine h_iconst (v := zI 2) hC dX6_names_26 rfl ?_
      refine yr_callVi (As := [.int (zI 2)]) hC hr o60 hZ61 rfl (hZ61.w.o 4 (by decide)) (cm_Parser_leaf X.la d b (by decide) hZ61.rs h62) cl_X6_135 rfl rfl (Nat.le_of_ble_eq_true rfl) (hFr_of (Nat.le_of_ble_eq_true rfl) (Nat.le_of_ble_eq_true rfl)) dX6_names_27 (fun r63 A64 u65 S66 R67 o68 hZ69 h70 => ?_)
      refine yr_callVv (As := [.int (zI x1), .int (zI r63)]) hC hr o68 hZ69 rfl (hZ69.w.o 2 (by decide)) (cm_Tree_hang X.la d b Rx1 R67 hZ69.rs h70) cl_X6_123 rfl rfl (Nat.le_of_ble_eq_true rfl) (hFr_of (Nat.le_of_ble_eq_true rfl) (Nat.le_of_ble_eq_true rfl)) dX6_names_30 (fun A72 u73 S74 o76 hZ77 h78 => ?_)
      refine h_aload_n hC dX6_names_33 rfl ?_
      refine yr_callVi (As := []) hC hr o76 hZ77 rfl (hZ77.w.o 4 (by decide)) (cm_Parser_kind X.la d b  hZ77.rs h78) cl_X6_97 rfl rfl (Nat.le_of_ble_eq_true rfl) (hFr_of (Nat.le_of_ble_eq_true rfl) (Nat.le_of_ble_eq_true rfl)) dX6_names_34 (fun r79 A80 u81 S82 R83 o84 hZ85 h86 => ?_)
      refine h_bipush (v := zI 9) hC dX6_names_37 rfl ?_
      refine yr_icmp_ne (tgt := 61) hC R83 (by decide) dX6_names_39 (by decide) (fun c87 => ?_) (fun c87 => ?_)
      · have h88 := h86.1 c87
        exact h_xret (yr_vret hC hr o84 hZ85 h88 dX6_names_61)
      · have h89 := h86.2 c87
        refine h_iload_n hC dX6_names_42 rfl ?_
        refine h_bipush (v := zI 20) hC dX6_names_43 rfl ?_
        refine yr_icmp_ne (tgt := 51) hC Rx2 (by decide) dX6_names_45 (by decide) (fun c90 => ?_) (fun c90 => ?_)
        · have h91 := h89.1 c90
          refine h_aload_n hC dX6_names_51 rfl ?_
          refine yr_callVv (As := []) hC hr o84 hZ85 rfl (hZ85.w.o 4 (by decide)) (cm_Parser_advance X.la d b  hZ85.rs h91) cl_X6_103 rfl rfl (Nat.le_of_ble_eq_true rfl) (hFr_of (Nat.le_of_ble_eq_true rfl) (Nat.le_of_ble_eq_true rfl)) dX6_names_52 (fun A93 u94 S95 o97 hZ98 h99 => ?_)
          refine yr_iinc (x := x2) (lv' := [some (.ref (gO' Y 4)), some (.int (zI x1)), some (.int (zI (x2 + 1)))]) hC dX6_names_55 rfl rfl rfl ?_
          refine h_goto (tgt := 2) hC dX6_names_58 (by decide) ?_
          obtain ⟨o100, h101⟩ := h99
          exact hk2 _ _ _ _ _ Rx1 o100 o97 hZ98 h101
        · have h102 := h89.2 c90
          refine h_goto (tgt := 61) hC dX6_names_48 (by decide) ?_
          exact h_xret (yr_vret hC hr o84 hZ85 h102 dX6_names_61)
theorem cl_Parser_names_2 {X : gX} {d : gD} {b : Nat} {Y : gYt} {c : Nat × Nat} {F0 : gM} {S0 : gSt} {mc ms : Nat} (hC : gC RX6 cX6_names 3 none "names" (gR 7 mc ms) d b X) (hr : hRm X b) (hst : X.la.stackTraces = false) (hT : ∀ x ∈ X.co.exceptionTable.toList, False) (hcx : yCx b c) {Q : cS → Prop} {E : cS → Prop}   : ∀ (m : Nat) (u : hU) (S : gSt) (A0 : cS) (x1 : Int) (x2 : Int), zR x1 → zR x2 → yOk X b u → yZ d b Y c F0 S0 u S A0 → wc_Parser_names_2 Q E  m A0 x1 x2 → yG X d b (yxQv X d b Y c F0 S0 mc ms Q E) u 2 [some (.ref (gO' Y 4)), some (.int (zI x1)), some (.int (zI x2))] [] := by
  intro m
  induction m with
  | zero => intro u S A0 x1 x2 Rx1 Rx2 ho hZ hw; exact False.elim hw
  | succ m ihm => intro u S A0 x1 x2 Rx1 Rx2 ho hZ hw; exact cb_Parser_names_2 hC hr hst hT hcx  ihm Rx1 Rx2 ho hZ hw
set_option maxHeartbeats 4000000 in
set_option maxRecDepth 100000 in
theorem cm_Parser_names (l : Launch) (d : gD) (b : Nat) {Y : gYt} {c : Nat × Nat} (hst : l.stackTraces = false) (hcx : yCx b c) {F : gM} {k n : Nat} {S : gSt} {A0 : cS} {a0 : Int} (Ra0 : zR a0) {Q : cS → Prop} {E : cS → Prop} (hZ : yZ d b Y c F S (F, k, n) S A0) (hw : wc_Parser_names A0 a0 Q E) : hXv l d b yX6_names cX6_names 3 7 k n F [.ref (gO' Y 4), .int (zI a0)] (yPv d b Y c F S Q) "java/lang/IllegalStateException" (yPx d b Y c F S E) := by
  intro mc ms
  refine hX_of2 rfl (nL := 3) (Nat.le_of_ble_eq_true rfl) ?_
  intro X hX hT hC hr ho; subst hX
  show yG X d b (yxQv X d b Y c F S mc ms Q E) (F, k, n) 0 [some (.ref (gO' Y 4)), some (.int (zI a0)), none] []
  unfold wc_Parser_names at hw
  refine h_iconst (v := zI 1) hC dX6_names_0 rfl ?_
  refine h_istore_n (lv' := [some (.ref (gO' Y 4)), some (.int (zI a0)), some (.int (zI 1))]) hC dX6_names_1 (Nat.le_of_ble_eq_true rfl) rfl rfl ?_
  obtain ⟨m1, h2⟩ := hw
  exact cl_Parser_names_2 hC hr hst hT hcx  m1 _ _ _ _ _ Ra0 (by decide) ho hZ h2
