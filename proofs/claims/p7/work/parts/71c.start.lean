theorem kw_702 : Cond.instantiable RX0 5 ∈ gWs := List.mem_filter.mpr ⟨gMt2 _ (List.mem_of_getElem? (i := 225) rfl), rfl⟩
theorem kw_662 : Cond.laysFinal RX1 "WordTongue$Coder" "tree" "LWordTongue$Tree;" ∈ gWs := List.mem_filter.mpr ⟨gMt2 _ (List.mem_of_getElem? (i := 185) rfl), rfl⟩
theorem kw_664 : Cond.laysFinal RX1 "WordTongue$Coder" "program" "LWordTongue$Program;" ∈ gWs := List.mem_filter.mpr ⟨gMt2 _ (List.mem_of_getElem? (i := 187) rfl), rfl⟩
theorem kw_666 : Cond.laysFinal RX1 "WordTongue$Coder" "scope" "LWordTongue$Scope;" ∈ gWs := List.mem_filter.mpr ⟨gMt2 _ (List.mem_of_getElem? (i := 189) rfl), rfl⟩
theorem kw_668 : Cond.laysFinal RX1 "WordTongue$Coder" "constants" "LWordTongue$Constants;" ∈ gWs := List.mem_filter.mpr ⟨gMt2 _ (List.mem_of_getElem? (i := 191) rfl), rfl⟩
theorem kw_670 : Cond.laysFinal RX1 "WordTongue$Coder" "labels" "LWordTongue$Ints;" ∈ gWs := List.mem_filter.mpr ⟨gMt2 _ (List.mem_of_getElem? (i := 193) rfl), rfl⟩
theorem kw_672 : Cond.laysFinal RX1 "WordTongue$Coder" "gotos" "LWordTongue$Ints;" ∈ gWs := List.mem_filter.mpr ⟨gMt2 _ (List.mem_of_getElem? (i := 195) rfl), rfl⟩
theorem kw_674 : Cond.laysFinal RX1 "WordTongue$Coder" "cases" "LWordTongue$Ints;" ∈ gWs := List.mem_filter.mpr ⟨gMt2 _ (List.mem_of_getElem? (i := 197) rfl), rfl⟩
theorem kw_676 : Cond.lays RX1 "WordTongue$Coder" "breaks" "I" ∈ gWs := List.mem_filter.mpr ⟨gMt2 _ (List.mem_of_getElem? (i := 199) rfl), rfl⟩
theorem kw_678 : Cond.lays RX1 "WordTongue$Coder" "loops" "I" ∈ gWs := List.mem_filter.mpr ⟨gMt2 _ (List.mem_of_getElem? (i := 201) rfl), rfl⟩
theorem kw_680 : Cond.lays RX1 "WordTongue$Coder" "endcases" "I" ∈ gWs := List.mem_filter.mpr ⟨gMt2 _ (List.mem_of_getElem? (i := 203) rfl), rfl⟩
theorem kw_682 : Cond.lays RX1 "WordTongue$Coder" "results" "I" ∈ gWs := List.mem_filter.mpr ⟨gMt2 _ (List.mem_of_getElem? (i := 205) rfl), rfl⟩
theorem kw_684 : Cond.lays RX1 "WordTongue$Coder" "caseBase" "I" ∈ gWs := List.mem_filter.mpr ⟨gMt2 _ (List.mem_of_getElem? (i := 207) rfl), rfl⟩
theorem kw_686 : Cond.lays RX1 "WordTongue$Coder" "fallback" "I" ∈ gWs := List.mem_filter.mpr ⟨gMt2 _ (List.mem_of_getElem? (i := 209) rfl), rfl⟩
theorem kw_688 : Cond.lays RX1 "WordTongue$Coder" "used" "I" ∈ gWs := List.mem_filter.mpr ⟨gMt2 _ (List.mem_of_getElem? (i := 211) rfl), rfl⟩
theorem kw_690 : Cond.lays RX1 "WordTongue$Coder" "most" "I" ∈ gWs := List.mem_filter.mpr ⟨gMt2 _ (List.mem_of_getElem? (i := 213) rfl), rfl⟩
theorem kw_692 : Cond.lays RX1 "WordTongue$Coder" "routine" "I" ∈ gWs := List.mem_filter.mpr ⟨gMt2 _ (List.mem_of_getElem? (i := 215) rfl), rfl⟩
theorem kw_694 : Cond.lays RX1 "WordTongue$Coder" "area" "I" ∈ gWs := List.mem_filter.mpr ⟨gMt2 _ (List.mem_of_getElem? (i := 217) rfl), rfl⟩
theorem kw_696 : Cond.lays RX1 "WordTongue$Coder" "areas" "I" ∈ gWs := List.mem_filter.mpr ⟨gMt2 _ (List.mem_of_getElem? (i := 219) rfl), rfl⟩
theorem kw_698 : Cond.lays RX1 "WordTongue$Coder" "isFunction" "Z" ∈ gWs := List.mem_filter.mpr ⟨gMt2 _ (List.mem_of_getElem? (i := 221) rfl), rfl⟩
set_option maxRecDepth 20000 in
theorem inW_RX1 : ∀ w ∈ u_ws RX1 TX1 19, w ∈ gWs := List.forall_mem_cons.mpr ⟨kw_662, List.forall_mem_cons.mpr ⟨kw_664, List.forall_mem_cons.mpr ⟨kw_666, List.forall_mem_cons.mpr ⟨kw_668, List.forall_mem_cons.mpr ⟨kw_670, List.forall_mem_cons.mpr ⟨kw_672, List.forall_mem_cons.mpr ⟨kw_674, List.forall_mem_cons.mpr ⟨kw_676, List.forall_mem_cons.mpr ⟨kw_678, List.forall_mem_cons.mpr ⟨kw_680, List.forall_mem_cons.mpr ⟨kw_682, List.forall_mem_cons.mpr ⟨kw_684, List.forall_mem_cons.mpr ⟨kw_686, List.forall_mem_cons.mpr ⟨kw_688, List.forall_mem_cons.mpr ⟨kw_690, List.forall_mem_cons.mpr ⟨kw_692, List.forall_mem_cons.mpr ⟨kw_694, List.forall_mem_cons.mpr ⟨kw_696, List.forall_mem_cons.mpr ⟨kw_698, fun _ h => nomatch h⟩⟩⟩⟩⟩⟩⟩⟩⟩⟩⟩⟩⟩⟩⟩⟩⟩⟩⟩
theorem kw_570 : Cond.instantiable RX1 19 ∈ gWs := List.mem_filter.mpr ⟨gMt2 _ (List.mem_of_getElem? (i := 93) rfl), rfl⟩
theorem kw_628 : Cond.laysFinal RX2 "WordTongue$Constants" "tree" "LWordTongue$Tree;" ∈ gWs := List.mem_filter.mpr ⟨gMt2 _ (List.mem_of_getElem? (i := 151) rfl), rfl⟩
theorem kw_630 : Cond.laysFinal RX2 "WordTongue$Constants" "program" "LWordTongue$Program;" ∈ gWs := List.mem_filter.mpr ⟨gMt2 _ (List.mem_of_getElem? (i := 153) rfl), rfl⟩
theorem kw_632 : Cond.laysFinal RX2 "WordTongue$Constants" "scope" "LWordTongue$Scope;" ∈ gWs := List.mem_filter.mpr ⟨gMt2 _ (List.mem_of_getElem? (i := 155) rfl), rfl⟩
theorem kw_634 : Cond.laysFinal RX2 "WordTongue$Constants" "stack" "LWordTongue$Ints;" ∈ gWs := List.mem_filter.mpr ⟨gMt2 _ (List.mem_of_getElem? (i := 157) rfl), rfl⟩
theorem kw_636 : Cond.lays RX2 "WordTongue$Constants" "failed" "Z" ∈ gWs := List.mem_filter.mpr ⟨gMt2 _ (List.mem_of_getElem? (i := 159) rfl), rfl⟩
theorem kw_638 : Cond.lays RX2 "WordTongue$Constants" "faultKind" "I" ∈ gWs := List.mem_filter.mpr ⟨gMt2 _ (List.mem_of_getElem? (i := 161) rfl), rfl⟩
theorem kw_640 : Cond.lays RX2 "WordTongue$Constants" "faultPlace" "I" ∈ gWs := List.mem_filter.mpr ⟨gMt2 _ (List.mem_of_getElem? (i := 163) rfl), rfl⟩
set_option maxRecDepth 20000 in
theorem inW_RX2 : ∀ w ∈ u_ws RX2 TX2 7, w ∈ gWs := List.forall_mem_cons.mpr ⟨kw_628, List.forall_mem_cons.mpr ⟨kw_630, List.forall_mem_cons.mpr ⟨kw_632, List.forall_mem_cons.mpr ⟨kw_634, List.forall_mem_cons.mpr ⟨kw_636, List.forall_mem_cons.mpr ⟨kw_638, List.forall_mem_cons.mpr ⟨kw_640, fun _ h => nomatch h⟩⟩⟩⟩⟩⟩⟩
theorem kw_613 : Cond.instantiable RX2 7 ∈ gWs := List.mem_filter.mpr ⟨gMt2 _ (List.mem_of_getElem? (i := 136) rfl), rfl⟩
theorem kw_733 : Cond.instantiable RX3 2 ∈ gWs := List.mem_filter.mpr ⟨gMt3 _ (List.mem_of_getElem? (i := 16) rfl), rfl⟩
theorem kw_273 : Cond.instantiable RX4 3 ∈ gWs := List.mem_filter.mpr ⟨gMt1 _ (List.mem_of_getElem? (i := 36) rfl), rfl⟩
theorem kw_727 : Cond.instantiable RX5 16 ∈ gWs := List.mem_filter.mpr ⟨gMt3 _ (List.mem_of_getElem? (i := 10) rfl), rfl⟩
theorem kw_508 : Cond.instantiable RX6 12 ∈ gWs := List.mem_filter.mpr ⟨gMt2 _ (List.mem_of_getElem? (i := 31) rfl), rfl⟩
theorem kw_290 : Cond.instantiable RX7 11 ∈ gWs := List.mem_filter.mpr ⟨gMt1 _ (List.mem_of_getElem? (i := 53) rfl), rfl⟩
theorem kw_364 : Cond.instantiable RX8 11 ∈ gWs := List.mem_filter.mpr ⟨gMt1 _ (List.mem_of_getElem? (i := 127) rfl), rfl⟩
theorem kw_579 : Cond.instantiable RX9 8 ∈ gWs := List.mem_filter.mpr ⟨gMt2 _ (List.mem_of_getElem? (i := 102) rfl), rfl⟩
theorem kw_333 : Cond.instantiable RX10 7 ∈ gWs := List.mem_filter.mpr ⟨gMt1 _ (List.mem_of_getElem? (i := 96) rfl), rfl⟩
theorem kw_265 : Cond.instantiable RX11 10 ∈ gWs := List.mem_filter.mpr ⟨gMt1 _ (List.mem_of_getElem? (i := 28) rfl), rfl⟩
theorem kw_2075 : Cond.lays RX12 "WordTongueModel" "thrownCode" "I" ∈ gWs := List.mem_filter.mpr ⟨gMt8 _ (List.mem_of_getElem? (i := 158) rfl), rfl⟩
theorem kw_2077 : Cond.laysFinal RX12 "WordTongueModel" "tape" "[B" ∈ gWs := List.mem_filter.mpr ⟨gMt8 _ (List.mem_of_getElem? (i := 160) rfl), rfl⟩
theorem kw_2079 : Cond.lays RX12 "WordTongueModel" "tapeLen" "I" ∈ gWs := List.mem_filter.mpr ⟨gMt8 _ (List.mem_of_getElem? (i := 162) rfl), rfl⟩
theorem kw_2081 : Cond.laysFinal RX12 "WordTongueModel" "src" "[B" ∈ gWs := List.mem_filter.mpr ⟨gMt8 _ (List.mem_of_getElem? (i := 164) rfl), rfl⟩
theorem kw_2083 : Cond.lays RX12 "WordTongueModel" "srcLen" "I" ∈ gWs := List.mem_filter.mpr ⟨gMt8 _ (List.mem_of_getElem? (i := 166) rfl), rfl⟩
theorem kw_2085 : Cond.lays RX12 "WordTongueModel" "names" "I" ∈ gWs := List.mem_filter.mpr ⟨gMt8 _ (List.mem_of_getElem? (i := 168) rfl), rfl⟩
theorem kw_2087 : Cond.laysFinal RX12 "WordTongueModel" "nameAt" "[I" ∈ gWs := List.mem_filter.mpr ⟨gMt8 _ (List.mem_of_getElem? (i := 170) rfl), rfl⟩
theorem kw_2089 : Cond.laysFinal RX12 "WordTongueModel" "nameLen" "[I" ∈ gWs := List.mem_filter.mpr ⟨gMt8 _ (List.mem_of_getElem? (i := 172) rfl), rfl⟩
theorem kw_2091 : Cond.lays RX12 "WordTongueModel" "tokens" "I" ∈ gWs := List.mem_filter.mpr ⟨gMt8 _ (List.mem_of_getElem? (i := 174) rfl), rfl⟩
theorem kw_2093 : Cond.laysFinal RX12 "WordTongueModel" "tKind" "[I" ∈ gWs := List.mem_filter.mpr ⟨gMt8 _ (List.mem_of_getElem? (i := 176) rfl), rfl⟩
theorem kw_2095 : Cond.laysFinal RX12 "WordTongueModel" "tAt" "[I" ∈ gWs := List.mem_filter.mpr ⟨gMt8 _ (List.mem_of_getElem? (i := 178) rfl), rfl⟩
theorem kw_2097 : Cond.laysFinal RX12 "WordTongueModel" "tValue" "[I" ∈ gWs := List.mem_filter.mpr ⟨gMt8 _ (List.mem_of_getElem? (i := 180) rfl), rfl⟩
theorem kw_2099 : Cond.lays RX12 "WordTongueModel" "faultOf" "I" ∈ gWs := List.mem_filter.mpr ⟨gMt8 _ (List.mem_of_getElem? (i := 182) rfl), rfl⟩
theorem kw_2101 : Cond.lays RX12 "WordTongueModel" "faultAt" "I" ∈ gWs := List.mem_filter.mpr ⟨gMt8 _ (List.mem_of_getElem? (i := 184) rfl), rfl⟩
theorem kw_2103 : Cond.laysFinal RX12 "WordTongueModel" "strs" "[B" ∈ gWs := List.mem_filter.mpr ⟨gMt8 _ (List.mem_of_getElem? (i := 186) rfl), rfl⟩
theorem kw_2105 : Cond.lays RX12 "WordTongueModel" "strsLen" "I" ∈ gWs := List.mem_filter.mpr ⟨gMt8 _ (List.mem_of_getElem? (i := 188) rfl), rfl⟩
theorem kw_2107 : Cond.laysFinal RX12 "WordTongueModel" "strAt" "[I" ∈ gWs := List.mem_filter.mpr ⟨gMt8 _ (List.mem_of_getElem? (i := 190) rfl), rfl⟩
theorem kw_2109 : Cond.laysFinal RX12 "WordTongueModel" "strLen" "[I" ∈ gWs := List.mem_filter.mpr ⟨gMt8 _ (List.mem_of_getElem? (i := 192) rfl), rfl⟩
theorem kw_2111 : Cond.lays RX12 "WordTongueModel" "strCount" "I" ∈ gWs := List.mem_filter.mpr ⟨gMt8 _ (List.mem_of_getElem? (i := 194) rfl), rfl⟩
theorem kw_2113 : Cond.lays RX12 "WordTongueModel" "line" "I" ∈ gWs := List.mem_filter.mpr ⟨gMt8 _ (List.mem_of_getElem? (i := 196) rfl), rfl⟩
theorem kw_2115 : Cond.lays RX12 "WordTongueModel" "lastLine" "I" ∈ gWs := List.mem_filter.mpr ⟨gMt8 _ (List.mem_of_getElem? (i := 198) rfl), rfl⟩
theorem kw_2117 : Cond.lays RX12 "WordTongueModel" "cValue" "I" ∈ gWs := List.mem_filter.mpr ⟨gMt8 _ (List.mem_of_getElem? (i := 200) rfl), rfl⟩
theorem kw_2119 : Cond.lays RX12 "WordTongueModel" "number" "I" ∈ gWs := List.mem_filter.mpr ⟨gMt8 _ (List.mem_of_getElem? (i := 202) rfl), rfl⟩
theorem kw_2121 : Cond.lays RX12 "WordTongueModel" "signLen" "I" ∈ gWs := List.mem_filter.mpr ⟨gMt8 _ (List.mem_of_getElem? (i := 204) rfl), rfl⟩
theorem kw_2123 : Cond.lays RX12 "WordTongueModel" "nodes" "I" ∈ gWs := List.mem_filter.mpr ⟨gMt8 _ (List.mem_of_getElem? (i := 206) rfl), rfl⟩
theorem kw_2125 : Cond.laysFinal RX12 "WordTongueModel" "nKind" "[B" ∈ gWs := List.mem_filter.mpr ⟨gMt8 _ (List.mem_of_getElem? (i := 208) rfl), rfl⟩
theorem kw_2127 : Cond.laysFinal RX12 "WordTongueModel" "nTok" "[I" ∈ gWs := List.mem_filter.mpr ⟨gMt8 _ (List.mem_of_getElem? (i := 210) rfl), rfl⟩
theorem kw_2129 : Cond.laysFinal RX12 "WordTongueModel" "nChild" "[I" ∈ gWs := List.mem_filter.mpr ⟨gMt8 _ (List.mem_of_getElem? (i := 212) rfl), rfl⟩
theorem kw_2131 : Cond.laysFinal RX12 "WordTongueModel" "nNext" "[I" ∈ gWs := List.mem_filter.mpr ⟨gMt8 _ (List.mem_of_getElem? (i := 214) rfl), rfl⟩
theorem kw_2133 : Cond.laysFinal RX12 "WordTongueModel" "nA" "[I" ∈ gWs := List.mem_filter.mpr ⟨gMt8 _ (List.mem_of_getElem? (i := 216) rfl), rfl⟩
theorem kw_2135 : Cond.laysFinal RX12 "WordTongueModel" "nB" "[I" ∈ gWs := List.mem_filter.mpr ⟨gMt8 _ (List.mem_of_getElem? (i := 218) rfl), rfl⟩
theorem kw_2137 : Cond.laysFinal RX12 "WordTongueModel" "nC" "[I" ∈ gWs := List.mem_filter.mpr ⟨gMt8 _ (List.mem_of_getElem? (i := 220) rfl), rfl⟩
theorem kw_2139 : Cond.laysFinal RX12 "WordTongueModel" "nPair" "[I" ∈ gWs := List.mem_filter.mpr ⟨gMt8 _ (List.mem_of_getElem? (i := 222) rfl), rfl⟩
theorem kw_2141 : Cond.laysFinal RX12 "WordTongueModel" "nRel" "[I" ∈ gWs := List.mem_filter.mpr ⟨gMt8 _ (List.mem_of_getElem? (i := 224) rfl), rfl⟩
theorem kw_2143 : Cond.laysFinal RX12 "WordTongueModel" "nFirst" "[I" ∈ gWs := List.mem_filter.mpr ⟨gMt8 _ (List.mem_of_getElem? (i := 226) rfl), rfl⟩
theorem kw_2145 : Cond.laysFinal RX12 "WordTongueModel" "nParen" "[Z" ∈ gWs := List.mem_filter.mpr ⟨gMt8 _ (List.mem_of_getElem? (i := 228) rfl), rfl⟩
theorem kw_2147 : Cond.laysFinal RX12 "WordTongueModel" "out" "[I" ∈ gWs := List.mem_filter.mpr ⟨gMt8 _ (List.mem_of_getElem? (i := 230) rfl), rfl⟩
theorem kw_2149 : Cond.lays RX12 "WordTongueModel" "outs" "I" ∈ gWs := List.mem_filter.mpr ⟨gMt8 _ (List.mem_of_getElem? (i := 232) rfl), rfl⟩
theorem kw_2151 : Cond.lays RX12 "WordTongueModel" "goals" "I" ∈ gWs := List.mem_filter.mpr ⟨gMt8 _ (List.mem_of_getElem? (i := 234) rfl), rfl⟩
theorem kw_2153 : Cond.laysFinal RX12 "WordTongueModel" "gKind" "[I" ∈ gWs := List.mem_filter.mpr ⟨gMt8 _ (List.mem_of_getElem? (i := 236) rfl), rfl⟩
theorem kw_2155 : Cond.laysFinal RX12 "WordTongueModel" "gX" "[I" ∈ gWs := List.mem_filter.mpr ⟨gMt8 _ (List.mem_of_getElem? (i := 238) rfl), rfl⟩
theorem kw_2157 : Cond.laysFinal RX12 "WordTongueModel" "gY" "[I" ∈ gWs := List.mem_filter.mpr ⟨gMt9 _ (List.mem_of_getElem? (i := 0) rfl), rfl⟩
theorem kw_2159 : Cond.laysFinal RX12 "WordTongueModel" "gZ" "[I" ∈ gWs := List.mem_filter.mpr ⟨gMt9 _ (List.mem_of_getElem? (i := 2) rfl), rfl⟩
theorem kw_2161 : Cond.lays RX12 "WordTongueModel" "at" "I" ∈ gWs := List.mem_filter.mpr ⟨gMt9 _ (List.mem_of_getElem? (i := 4) rfl), rfl⟩
theorem kw_2163 : Cond.lays RX12 "WordTongueModel" "depth" "I" ∈ gWs := List.mem_filter.mpr ⟨gMt9 _ (List.mem_of_getElem? (i := 6) rfl), rfl⟩
theorem kw_2165 : Cond.lays RX12 "WordTongueModel" "sections" "I" ∈ gWs := List.mem_filter.mpr ⟨gMt9 _ (List.mem_of_getElem? (i := 8) rfl), rfl⟩
theorem kw_2167 : Cond.laysFinal RX12 "WordTongueModel" "secTag" "[I" ∈ gWs := List.mem_filter.mpr ⟨gMt9 _ (List.mem_of_getElem? (i := 10) rfl), rfl⟩
theorem kw_2169 : Cond.laysFinal RX12 "WordTongueModel" "secDepth" "[I" ∈ gWs := List.mem_filter.mpr ⟨gMt9 _ (List.mem_of_getElem? (i := 12) rfl), rfl⟩
theorem kw_2171 : Cond.lays RX12 "WordTongueModel" "lexEnd" "I" ∈ gWs := List.mem_filter.mpr ⟨gMt9 _ (List.mem_of_getElem? (i := 14) rfl), rfl⟩
theorem kw_2173 : Cond.lays RX12 "WordTongueModel" "entries" "I" ∈ gWs := List.mem_filter.mpr ⟨gMt9 _ (List.mem_of_getElem? (i := 16) rfl), rfl⟩
theorem kw_2175 : Cond.laysFinal RX12 "WordTongueModel" "eName" "[I" ∈ gWs := List.mem_filter.mpr ⟨gMt9 _ (List.mem_of_getElem? (i := 18) rfl), rfl⟩
theorem kw_2177 : Cond.laysFinal RX12 "WordTongueModel" "eKind" "[I" ∈ gWs := List.mem_filter.mpr ⟨gMt9 _ (List.mem_of_getElem? (i := 20) rfl), rfl⟩
theorem kw_2179 : Cond.laysFinal RX12 "WordTongueModel" "eValue" "[I" ∈ gWs := List.mem_filter.mpr ⟨gMt9 _ (List.mem_of_getElem? (i := 22) rfl), rfl⟩
theorem kw_2181 : Cond.laysFinal RX12 "WordTongueModel" "eState" "[I" ∈ gWs := List.mem_filter.mpr ⟨gMt9 _ (List.mem_of_getElem? (i := 24) rfl), rfl⟩
theorem kw_2183 : Cond.laysFinal RX12 "WordTongueModel" "eOther" "[I" ∈ gWs := List.mem_filter.mpr ⟨gMt9 _ (List.mem_of_getElem? (i := 26) rfl), rfl⟩
theorem kw_2185 : Cond.lays RX12 "WordTongueModel" "blockBase" "I" ∈ gWs := List.mem_filter.mpr ⟨gMt9 _ (List.mem_of_getElem? (i := 28) rfl), rfl⟩
theorem kw_2187 : Cond.laysFinal RX12 "WordTongueModel" "libName" "[I" ∈ gWs := List.mem_filter.mpr ⟨gMt9 _ (List.mem_of_getElem? (i := 30) rfl), rfl⟩
theorem kw_2189 : Cond.laysFinal RX12 "WordTongueModel" "eTok" "[I" ∈ gWs := List.mem_filter.mpr ⟨gMt9 _ (List.mem_of_getElem? (i := 32) rfl), rfl⟩
theorem kw_2191 : Cond.lays RX12 "WordTongueModel" "kGood" "Z" ∈ gWs := List.mem_filter.mpr ⟨gMt9 _ (List.mem_of_getElem? (i := 34) rfl), rfl⟩
theorem kw_2193 : Cond.lays RX12 "WordTongueModel" "kValue" "I" ∈ gWs := List.mem_filter.mpr ⟨gMt9 _ (List.mem_of_getElem? (i := 36) rfl), rfl⟩
theorem kw_2195 : Cond.laysFinal RX12 "WordTongueModel" "walk" "[I" ∈ gWs := List.mem_filter.mpr ⟨gMt9 _ (List.mem_of_getElem? (i := 38) rfl), rfl⟩
theorem kw_2197 : Cond.laysFinal RX12 "WordTongueModel" "step" "[I" ∈ gWs := List.mem_filter.mpr ⟨gMt9 _ (List.mem_of_getElem? (i := 40) rfl), rfl⟩
theorem kw_2199 : Cond.laysFinal RX12 "WordTongueModel" "kWork" "[I" ∈ gWs := List.mem_filter.mpr ⟨gMt9 _ (List.mem_of_getElem? (i := 42) rfl), rfl⟩
theorem kw_2201 : Cond.lays RX12 "WordTongueModel" "tasks" "I" ∈ gWs := List.mem_filter.mpr ⟨gMt9 _ (List.mem_of_getElem? (i := 44) rfl), rfl⟩
theorem kw_2203 : Cond.laysFinal RX12 "WordTongueModel" "cTask" "[I" ∈ gWs := List.mem_filter.mpr ⟨gMt9 _ (List.mem_of_getElem? (i := 46) rfl), rfl⟩
theorem kw_2205 : Cond.laysFinal RX12 "WordTongueModel" "cNode" "[I" ∈ gWs := List.mem_filter.mpr ⟨gMt9 _ (List.mem_of_getElem? (i := 48) rfl), rfl⟩
theorem kw_2207 : Cond.laysFinal RX12 "WordTongueModel" "cAux" "[I" ∈ gWs := List.mem_filter.mpr ⟨gMt9 _ (List.mem_of_getElem? (i := 50) rfl), rfl⟩
theorem kw_2209 : Cond.lays RX12 "WordTongueModel" "saved" "I" ∈ gWs := List.mem_filter.mpr ⟨gMt9 _ (List.mem_of_getElem? (i := 52) rfl), rfl⟩
theorem kw_2211 : Cond.laysFinal RX12 "WordTongueModel" "save" "[I" ∈ gWs := List.mem_filter.mpr ⟨gMt9 _ (List.mem_of_getElem? (i := 54) rfl), rfl⟩
theorem kw_2213 : Cond.lays RX12 "WordTongueModel" "routines" "I" ∈ gWs := List.mem_filter.mpr ⟨gMt9 _ (List.mem_of_getElem? (i := 56) rfl), rfl⟩
theorem kw_2215 : Cond.laysFinal RX12 "WordTongueModel" "rMax" "[I" ∈ gWs := List.mem_filter.mpr ⟨gMt9 _ (List.mem_of_getElem? (i := 58) rfl), rfl⟩
theorem kw_2217 : Cond.laysFinal RX12 "WordTongueModel" "rParams" "[I" ∈ gWs := List.mem_filter.mpr ⟨gMt9 _ (List.mem_of_getElem? (i := 60) rfl), rfl⟩
theorem kw_2219 : Cond.laysFinal RX12 "WordTongueModel" "rBody" "[I" ∈ gWs := List.mem_filter.mpr ⟨gMt9 _ (List.mem_of_getElem? (i := 62) rfl), rfl⟩
theorem kw_2221 : Cond.lays RX12 "WordTongueModel" "routine" "I" ∈ gWs := List.mem_filter.mpr ⟨gMt9 _ (List.mem_of_getElem? (i := 64) rfl), rfl⟩
theorem kw_2223 : Cond.lays RX12 "WordTongueModel" "inUse" "I" ∈ gWs := List.mem_filter.mpr ⟨gMt9 _ (List.mem_of_getElem? (i := 66) rfl), rfl⟩
theorem kw_2225 : Cond.lays RX12 "WordTongueModel" "mostUse" "I" ∈ gWs := List.mem_filter.mpr ⟨gMt9 _ (List.mem_of_getElem? (i := 68) rfl), rfl⟩
theorem kw_2227 : Cond.lays RX12 "WordTongueModel" "gives" "Z" ∈ gWs := List.mem_filter.mpr ⟨gMt9 _ (List.mem_of_getElem? (i := 70) rfl), rfl⟩
theorem kw_2229 : Cond.lays RX12 "WordTongueModel" "valof" "I" ∈ gWs := List.mem_filter.mpr ⟨gMt9 _ (List.mem_of_getElem? (i := 72) rfl), rfl⟩
theorem kw_2231 : Cond.lays RX12 "WordTongueModel" "valofs" "I" ∈ gWs := List.mem_filter.mpr ⟨gMt9 _ (List.mem_of_getElem? (i := 74) rfl), rfl⟩
theorem kw_2233 : Cond.lays RX12 "WordTongueModel" "loops" "I" ∈ gWs := List.mem_filter.mpr ⟨gMt9 _ (List.mem_of_getElem? (i := 76) rfl), rfl⟩
theorem kw_2235 : Cond.lays RX12 "WordTongueModel" "switches" "I" ∈ gWs := List.mem_filter.mpr ⟨gMt9 _ (List.mem_of_getElem? (i := 78) rfl), rfl⟩
theorem kw_2237 : Cond.lays RX12 "WordTongueModel" "words" "I" ∈ gWs := List.mem_filter.mpr ⟨gMt9 _ (List.mem_of_getElem? (i := 80) rfl), rfl⟩
theorem kw_2239 : Cond.lays RX12 "WordTongueModel" "start" "I" ∈ gWs := List.mem_filter.mpr ⟨gMt9 _ (List.mem_of_getElem? (i := 82) rfl), rfl⟩
theorem kw_2241 : Cond.lays RX12 "WordTongueModel" "startName" "I" ∈ gWs := List.mem_filter.mpr ⟨gMt9 _ (List.mem_of_getElem? (i := 84) rfl), rfl⟩
theorem kw_2243 : Cond.lays RX12 "WordTongueModel" "inits" "I" ∈ gWs := List.mem_filter.mpr ⟨gMt9 _ (List.mem_of_getElem? (i := 86) rfl), rfl⟩
theorem kw_2245 : Cond.laysFinal RX12 "WordTongueModel" "initAt" "[I" ∈ gWs := List.mem_filter.mpr ⟨gMt9 _ (List.mem_of_getElem? (i := 88) rfl), rfl⟩
theorem kw_2247 : Cond.laysFinal RX12 "WordTongueModel" "initValue" "[I" ∈ gWs := List.mem_filter.mpr ⟨gMt9 _ (List.mem_of_getElem? (i := 90) rfl), rfl⟩
theorem kw_2249 : Cond.lays RX12 "WordTongueModel" "todo" "I" ∈ gWs := List.mem_filter.mpr ⟨gMt9 _ (List.mem_of_getElem? (i := 92) rfl), rfl⟩
theorem kw_2251 : Cond.lays RX12 "WordTongueModel" "xTask" "[I" ∈ gWs := List.mem_filter.mpr ⟨gMt9 _ (List.mem_of_getElem? (i := 94) rfl), rfl⟩
theorem kw_2253 : Cond.lays RX12 "WordTongueModel" "xNode" "[I" ∈ gWs := List.mem_filter.mpr ⟨gMt9 _ (List.mem_of_getElem? (i := 96) rfl), rfl⟩
theorem kw_2255 : Cond.lays RX12 "WordTongueModel" "xAux" "[I" ∈ gWs := List.mem_filter.mpr ⟨gMt9 _ (List.mem_of_getElem? (i := 98) rfl), rfl⟩
theorem kw_2257 : Cond.lays RX12 "WordTongueModel" "vals" "I" ∈ gWs := List.mem_filter.mpr ⟨gMt9 _ (List.mem_of_getElem? (i := 100) rfl), rfl⟩
theorem kw_2259 : Cond.lays RX12 "WordTongueModel" "val" "[I" ∈ gWs := List.mem_filter.mpr ⟨gMt9 _ (List.mem_of_getElem? (i := 102) rfl), rfl⟩
theorem kw_2261 : Cond.laysFinal RX12 "WordTongueModel" "backB" "[I" ∈ gWs := List.mem_filter.mpr ⟨gMt9 _ (List.mem_of_getElem? (i := 104) rfl), rfl⟩
theorem kw_2263 : Cond.laysFinal RX12 "WordTongueModel" "backR" "[I" ∈ gWs := List.mem_filter.mpr ⟨gMt9 _ (List.mem_of_getElem? (i := 106) rfl), rfl⟩
theorem kw_2265 : Cond.lays RX12 "WordTongueModel" "under" "I" ∈ gWs := List.mem_filter.mpr ⟨gMt9 _ (List.mem_of_getElem? (i := 108) rfl), rfl⟩
theorem kw_2267 : Cond.lays RX12 "WordTongueModel" "base" "I" ∈ gWs := List.mem_filter.mpr ⟨gMt9 _ (List.mem_of_getElem? (i := 110) rfl), rfl⟩
theorem kw_2269 : Cond.lays RX12 "WordTongueModel" "running" "I" ∈ gWs := List.mem_filter.mpr ⟨gMt9 _ (List.mem_of_getElem? (i := 112) rfl), rfl⟩
theorem kw_2271 : Cond.laysFinal RX12 "WordTongueModel" "store" "[I" ∈ gWs := List.mem_filter.mpr ⟨gMt9 _ (List.mem_of_getElem? (i := 114) rfl), rfl⟩
theorem kw_2273 : Cond.lays RX12 "WordTongueModel" "size" "I" ∈ gWs := List.mem_filter.mpr ⟨gMt9 _ (List.mem_of_getElem? (i := 116) rfl), rfl⟩
theorem kw_2275 : Cond.lays RX12 "WordTongueModel" "wanted" "I" ∈ gWs := List.mem_filter.mpr ⟨gMt9 _ (List.mem_of_getElem? (i := 118) rfl), rfl⟩
theorem kw_2277 : Cond.lays RX12 "WordTongueModel" "fuelLeft" "I" ∈ gWs := List.mem_filter.mpr ⟨gMt9 _ (List.mem_of_getElem? (i := 120) rfl), rfl⟩
theorem kw_2279 : Cond.lays RX12 "WordTongueModel" "ended" "Z" ∈ gWs := List.mem_filter.mpr ⟨gMt9 _ (List.mem_of_getElem? (i := 122) rfl), rfl⟩
theorem kw_2281 : Cond.lays RX12 "WordTongueModel" "answer" "I" ∈ gWs := List.mem_filter.mpr ⟨gMt9 _ (List.mem_of_getElem? (i := 124) rfl), rfl⟩
theorem kw_2283 : Cond.lays RX12 "WordTongueModel" "result" "I" ∈ gWs := List.mem_filter.mpr ⟨gMt9 _ (List.mem_of_getElem? (i := 126) rfl), rfl⟩
theorem kw_2285 : Cond.lays RX12 "WordTongueModel" "compiled" "Z" ∈ gWs := List.mem_filter.mpr ⟨gMt9 _ (List.mem_of_getElem? (i := 128) rfl), rfl⟩
theorem kw_2287 : Cond.lays RX12 "WordTongueModel" "gots" "I" ∈ gWs := List.mem_filter.mpr ⟨gMt9 _ (List.mem_of_getElem? (i := 130) rfl), rfl⟩
theorem kw_2289 : Cond.laysFinal RX12 "WordTongueModel" "gotAt" "[I" ∈ gWs := List.mem_filter.mpr ⟨gMt9 _ (List.mem_of_getElem? (i := 132) rfl), rfl⟩
theorem kw_2291 : Cond.laysFinal RX12 "WordTongueModel" "gotLen" "[I" ∈ gWs := List.mem_filter.mpr ⟨gMt9 _ (List.mem_of_getElem? (i := 134) rfl), rfl⟩
theorem kw_2293 : Cond.laysFinal RX12 "WordTongueModel" "input" "[B" ∈ gWs := List.mem_filter.mpr ⟨gMt9 _ (List.mem_of_getElem? (i := 136) rfl), rfl⟩
theorem kw_2295 : Cond.laysFinal RX12 "WordTongueModel" "runEnd" "[I" ∈ gWs := List.mem_filter.mpr ⟨gMt9 _ (List.mem_of_getElem? (i := 138) rfl), rfl⟩
theorem kw_2297 : Cond.laysFinal RX12 "WordTongueModel" "digitsFrom" "[I" ∈ gWs := List.mem_filter.mpr ⟨gMt9 _ (List.mem_of_getElem? (i := 140) rfl), rfl⟩
theorem kw_2299 : Cond.laysFinal RX12 "WordTongueModel" "inLen" "[I" ∈ gWs := List.mem_filter.mpr ⟨gMt9 _ (List.mem_of_getElem? (i := 142) rfl), rfl⟩
theorem kw_2301 : Cond.laysFinal RX12 "WordTongueModel" "inAt" "[I" ∈ gWs := List.mem_filter.mpr ⟨gMt9 _ (List.mem_of_getElem? (i := 144) rfl), rfl⟩
theorem kw_2303 : Cond.lays RX12 "WordTongueModel" "inNow" "I" ∈ gWs := List.mem_filter.mpr ⟨gMt9 _ (List.mem_of_getElem? (i := 146) rfl), rfl⟩
theorem kw_2305 : Cond.laysFinal RX12 "WordTongueModel" "output" "[B" ∈ gWs := List.mem_filter.mpr ⟨gMt9 _ (List.mem_of_getElem? (i := 148) rfl), rfl⟩
theorem kw_2307 : Cond.laysFinal RX12 "WordTongueModel" "outLen" "[I" ∈ gWs := List.mem_filter.mpr ⟨gMt9 _ (List.mem_of_getElem? (i := 150) rfl), rfl⟩
theorem kw_2309 : Cond.lays RX12 "WordTongueModel" "outNow" "I" ∈ gWs := List.mem_filter.mpr ⟨gMt9 _ (List.mem_of_getElem? (i := 152) rfl), rfl⟩
theorem kw_2311 : Cond.laysFinal RX12 "WordTongueModel" "figures" "[B" ∈ gWs := List.mem_filter.mpr ⟨gMt9 _ (List.mem_of_getElem? (i := 154) rfl), rfl⟩
set_option maxRecDepth 20000 in
theorem inW_RX12 : ∀ w ∈ u_ws RX12 TX12 119, w ∈ gWs := List.forall_mem_cons.mpr ⟨kw_2075, List.forall_mem_cons.mpr ⟨kw_2077, List.forall_mem_cons.mpr ⟨kw_2079, List.forall_mem_cons.mpr ⟨kw_2081, List.forall_mem_cons.mpr ⟨kw_2083, List.forall_mem_cons.mpr ⟨kw_2085, List.forall_mem_cons.mpr ⟨kw_2087, List.forall_mem_cons.mpr ⟨kw_2089, List.forall_mem_cons.mpr ⟨kw_2091, List.forall_mem_cons.mpr ⟨kw_2093, List.forall_mem_cons.mpr ⟨kw_2095, List.forall_mem_cons.mpr ⟨kw_2097, List.forall_mem_cons.mpr ⟨kw_2099, List.forall_mem_cons.mpr ⟨kw_2101, List.forall_mem_cons.mpr ⟨kw_2103, List.forall_mem_cons.mpr ⟨kw_2105, List.forall_mem_cons.mpr ⟨kw_2107, List.forall_mem_cons.mpr ⟨kw_2109, List.forall_mem_cons.mpr ⟨kw_2111, List.forall_mem_cons.mpr ⟨kw_2113, List.forall_mem_cons.mpr ⟨kw_2115, List.forall_mem_cons.mpr ⟨kw_2117, List.forall_mem_cons.mpr ⟨kw_2119, List.forall_mem_cons.mpr ⟨kw_2121, List.forall_mem_cons.mpr ⟨kw_2123, List.forall_mem_cons.mpr ⟨kw_2125, List.forall_mem_cons.mpr ⟨kw_2127, List.forall_mem_cons.mpr ⟨kw_2129, List.forall_mem_cons.mpr ⟨kw_2131, List.forall_mem_cons.mpr ⟨kw_2133, List.forall_mem_cons.mpr ⟨kw_2135, List.forall_mem_cons.mpr ⟨kw_2137, List.forall_mem_cons.mpr ⟨kw_2139, List.forall_mem_cons.mpr ⟨kw_2141, List.forall_mem_cons.mpr ⟨kw_2143, List.forall_mem_cons.mpr ⟨kw_2145, List.forall_mem_cons.mpr ⟨kw_2147, List.forall_mem_cons.mpr ⟨kw_2149, List.forall_mem_cons.mpr ⟨kw_2151, List.forall_mem_cons.mpr ⟨kw_2153, List.forall_mem_cons.mpr ⟨kw_2155, List.forall_mem_cons.mpr ⟨kw_2157, List.forall_mem_cons.mpr ⟨kw_2159, List.forall_mem_cons.mpr ⟨kw_2161, List.forall_mem_cons.mpr ⟨kw_2163, List.forall_mem_cons.mpr ⟨kw_2165, List.forall_mem_cons.mpr ⟨kw_2167, List.forall_mem_cons.mpr ⟨kw_2169, List.forall_mem_cons.mpr ⟨kw_2171, List.forall_mem_cons.mpr ⟨kw_2173, List.forall_mem_cons.mpr ⟨kw_2175, List.forall_mem_cons.mpr ⟨kw_2177, List.forall_mem_cons.mpr ⟨kw_2179, List.forall_mem_cons.mpr ⟨kw_2181, List.forall_mem_cons.mpr ⟨kw_2183, List.forall_mem_cons.mpr ⟨kw_2185, List.forall_mem_cons.mpr ⟨kw_2187, List.forall_mem_cons.mpr ⟨kw_2189, List.forall_mem_cons.mpr ⟨kw_2191, List.forall_mem_cons.mpr ⟨kw_2193, List.forall_mem_cons.mpr ⟨kw_2195, List.forall_mem_cons.mpr ⟨kw_2197, List.forall_mem_cons.mpr ⟨kw_2199, List.forall_mem_cons.mpr ⟨kw_2201, List.forall_mem_cons.mpr ⟨kw_2203, List.forall_mem_cons.mpr ⟨kw_2205, List.forall_mem_cons.mpr ⟨kw_2207, List.forall_mem_cons.mpr ⟨kw_2209, List.forall_mem_cons.mpr ⟨kw_2211, List.forall_mem_cons.mpr ⟨kw_2213, List.forall_mem_cons.mpr ⟨kw_2215, List.forall_mem_cons.mpr ⟨kw_2217, List.forall_mem_cons.mpr ⟨kw_2219, List.forall_mem_cons.mpr ⟨kw_2221, List.forall_mem_cons.mpr ⟨kw_2223, List.forall_mem_cons.mpr ⟨kw_2225, List.forall_mem_cons.mpr ⟨kw_2227, List.forall_mem_cons.mpr ⟨kw_2229, List.forall_mem_cons.mpr ⟨kw_2231, List.forall_mem_cons.mpr ⟨kw_2233, List.forall_mem_cons.mpr ⟨kw_2235, List.forall_mem_cons.mpr ⟨kw_2237, List.forall_mem_cons.mpr ⟨kw_2239, List.forall_mem_cons.mpr ⟨kw_2241, List.forall_mem_cons.mpr ⟨kw_2243, List.forall_mem_cons.mpr ⟨kw_2245, List.forall_mem_cons.mpr ⟨kw_2247, List.forall_mem_cons.mpr ⟨kw_2249, List.forall_mem_cons.mpr ⟨kw_2251, List.forall_mem_cons.mpr ⟨kw_2253, List.forall_mem_cons.mpr ⟨kw_2255, List.forall_mem_cons.mpr ⟨kw_2257, List.forall_mem_cons.mpr ⟨kw_2259, List.forall_mem_cons.mpr ⟨kw_2261, List.forall_mem_cons.mpr ⟨kw_2263, List.forall_mem_cons.mpr ⟨kw_2265, List.forall_mem_cons.mpr ⟨kw_2267, List.forall_mem_cons.mpr ⟨kw_2269, List.forall_mem_cons.mpr ⟨kw_2271, List.forall_mem_cons.mpr ⟨kw_2273, List.forall_mem_cons.mpr ⟨kw_2275, List.forall_mem_cons.mpr ⟨kw_2277, List.forall_mem_cons.mpr ⟨kw_2279, List.forall_mem_cons.mpr ⟨kw_2281, List.forall_mem_cons.mpr ⟨kw_2283, List.forall_mem_cons.mpr ⟨kw_2285, List.forall_mem_cons.mpr ⟨kw_2287, List.forall_mem_cons.mpr ⟨kw_2289, List.forall_mem_cons.mpr ⟨kw_2291, List.forall_mem_cons.mpr ⟨kw_2293, List.forall_mem_cons.mpr ⟨kw_2295, List.forall_mem_cons.mpr ⟨kw_2297, List.forall_mem_cons.mpr ⟨kw_2299, List.forall_mem_cons.mpr ⟨kw_2301, List.forall_mem_cons.mpr ⟨kw_2303, List.forall_mem_cons.mpr ⟨kw_2305, List.forall_mem_cons.mpr ⟨kw_2307, List.forall_mem_cons.mpr ⟨kw_2309, List.forall_mem_cons.mpr ⟨kw_2311, fun _ h => nomatch h⟩⟩⟩⟩⟩⟩⟩⟩⟩⟩⟩⟩⟩⟩⟩⟩⟩⟩⟩⟩⟩⟩⟩⟩⟩⟩⟩⟩⟩⟩⟩⟩⟩⟩⟩⟩⟩⟩⟩⟩⟩⟩⟩⟩⟩⟩⟩⟩⟩⟩⟩⟩⟩⟩⟩⟩⟩⟩⟩⟩⟩⟩⟩⟩⟩⟩⟩⟩⟩⟩⟩⟩⟩⟩⟩⟩⟩⟩⟩⟩⟩⟩⟩⟩⟩⟩⟩⟩⟩⟩⟩⟩⟩⟩⟩⟩⟩⟩⟩⟩⟩⟩⟩⟩⟩⟩⟩⟩⟩⟩⟩⟩⟩⟩⟩⟩⟩⟩⟩
theorem kw_1947 : Cond.instantiable RX12 119 ∈ gWs := List.mem_filter.mpr ⟨gMt8 _ (List.mem_of_getElem? (i := 30) rfl), rfl⟩
def gFl : List Cond := flatC (Jvm.Cond.and given_1 narrow_1)
def gTm : Nat → Term
  | 0 => .string "WordTongue$Scanner" 50
  | 1 => .string "WordTongue$Scanner" 56
  | 2 => .string "WordTongue$Scanner" 58
  | 3 => .string "WordTongue$Scanner" 60
  | _ => .string "WordTongue$Parser" 92
def gK0 : Nat → Nat
  | 0 => 39
  | 1 => 193
  | 2 => 288
  | 3 => 426
  | _ => 439
set_option maxRecDepth 100000 in
theorem gFl_ex : ∀ i, i < 5 → gFl[gK0 i]? = some (Cond.exactly (gTm i) "java/lang/String") := by decide +kernel
set_option maxRecDepth 100000 in
theorem gFl_co : ∀ i, i < 5 → gFl[gK0 i + 1]? = some (Cond.eq (.field (gTm i) "java/lang/String" "coder" "B") (.int 0)) := by decide +kernel
set_option maxRecDepth 100000 in
theorem gFl_ar : ∀ i, i < 5 → gFl[gK0 i + 2]? = some (Cond.arrayOf (.field (gTm i) "java/lang/String" "value" "[B") .byte) := by decide +kernel
set_option maxRecDepth 100000 in
theorem gFl_le : ∀ i, i < 5 → gFl[gK0 i + 3]? = some (Cond.eq (.length (.field (gTm i) "java/lang/String" "value" "[B")) (.int (Int32.ofNat (gLen.getD i 0)))) := by decide +kernel
set_option maxRecDepth 100000 in
theorem gFl_el : ∀ i, i < 5 → ∀ j, j < gLen.getD i 0 → gFl[gK0 i + 4 + j]? = some (Cond.eq (.elem (.field (gTm i) "java/lang/String" "value" "[B") (.int (Int32.ofNat j))) (.int ((gByt.getD i []).getD j 0))) := by decide +kernel
def gNi (i j : Nat) : Nat := (([[0, 287, 424, 436, 468], [287, 0, 425, 437, 469], [424, 425, 0, 438, 470], [436, 437, 438, 0, 471], [468, 469, 470, 471, 0]] : List (List Nat)).getD i []).getD j 0
set_option maxRecDepth 100000 in
theorem gFl_ne : ∀ i, i < 5 → ∀ j, j < 5 → i ≠ j → gFl[gNi i j]? = some (Cond.not (Cond.eq (gTm i) (gTm j))) ∨ gFl[gNi i j]? = some (Cond.not (Cond.eq (gTm j) (gTm i))) := by decide +kernel
theorem gLen_lt : ∀ i, i < 5 → gLen.getD i 0 < 2 ^ 31 := by decide
section GSTART
variable {s : State} {b0 : Nat}
theorem gSt_fl (hgv : (Jvm.Cond.and given_1 narrow_1).before #[.ref b0] s = true) {i : Nat} {w : Cond} (h : gFl[i]? = some w) : w.before #[.ref b0] s = true := flat_of_before _ hgv w (List.mem_of_getElem? h)
theorem gSt_arr {ty : FieldType} (h : (Cond.arrayClass ty).before #[.ref b0] s = true) : ∃ cA : ClassId, ArrOfT s cA ty ∧ s.vm.findClass ("[" ++ ty.toString) = some cA := by
  obtain ⟨cA, k, comp, h1, h2, h3⟩ := Cond.arrayClass_spec h
  exact ⟨cA, fun n z => ⟨fun k h => (by cases h), k, h2, comp, h3⟩, h1⟩
theorem gSt_ao {C : String} (h : (Cond.arrayOver (.object C)).before #[.ref b0] s = true) : ∃ cA : ClassId, ArrOfT s cA (.object C) ∧ va_RA s cA (.object C) := by
  obtain ⟨comp, cA, k, h1, h2, h3, h4, h5⟩ := Cond.arrayOver_spec h
  exact ⟨cA, fun n z => ⟨fun k h => (by cases h), k, h3, comp, h4⟩, k, comp, h3, h4, h1, h5⟩
theorem gSt_cls (hts : ∀ w ∈ lw_tbl, w.before #[.ref b0] s = true) : ∃ (dC : Nat → ClassId) (dI : Nat → Nat → Nat), ∀ (k : Nat) (q : vw_C), vwCl[k]? = some q → u_Kn s q.1 q.2.1 q.2.2 (dC k) (dI k) := by
  obtain ⟨c0, i0, h0⟩ := u_known (C := RX0) (T := TX0) (N := 5) (n := 5) hts (fun w hw => gWs_tbl w (inW_RX0 w hw)) (hts _ (gWs_tbl _ kw_702))
  obtain ⟨c1, i1, h1⟩ := u_known (C := RX1) (T := TX1) (N := 19) (n := 19) hts (fun w hw => gWs_tbl w (inW_RX1 w hw)) (hts _ (gWs_tbl _ kw_570))
  obtain ⟨c2, i2, h2⟩ := u_known (C := RX2) (T := TX2) (N := 7) (n := 7) hts (fun w hw => gWs_tbl w (inW_RX2 w hw)) (hts _ (gWs_tbl _ kw_613))
  obtain ⟨c3, i3, h3⟩ := u_known (C := RX3) (T := TX3) (N := 2) (n := 2) hts (fun w hw => gWs_tbl w (inW_RX3 w hw)) (hts _ (gWs_tbl _ kw_733))
  obtain ⟨c4, i4, h4⟩ := u_known (C := RX4) (T := TX4) (N := 3) (n := 3) hts (fun w hw => gWs_tbl w (inW_RX4 w hw)) (hts _ (gWs_tbl _ kw_273))
  obtain ⟨c5, i5, h5⟩ := u_known (C := RX5) (T := TX5) (N := 16) (n := 16) hts (fun w hw => gWs_tbl w (inW_RX5 w hw)) (hts _ (gWs_tbl _ kw_727))
  obtain ⟨c6, i6, h6⟩ := u_known (C := RX6) (T := TX6) (N := 12) (n := 12) hts (fun w hw => gWs_tbl w (inW_RX6 w hw)) (hts _ (gWs_tbl _ kw_508))
  obtain ⟨c7, i7, h7⟩ := u_known (C := RX7) (T := TX7) (N := 11) (n := 11) hts (fun w hw => gWs_tbl w (inW_RX7 w hw)) (hts _ (gWs_tbl _ kw_290))
  obtain ⟨c8, i8, h8⟩ := u_known (C := RX8) (T := TX8) (N := 11) (n := 11) hts (fun w hw => gWs_tbl w (inW_RX8 w hw)) (hts _ (gWs_tbl _ kw_364))
  obtain ⟨c9, i9, h9⟩ := u_known (C := RX9) (T := TX9) (N := 8) (n := 8) hts (fun w hw => gWs_tbl w (inW_RX9 w hw)) (hts _ (gWs_tbl _ kw_579))
  obtain ⟨c10, i10, h10⟩ := u_known (C := RX10) (T := TX10) (N := 7) (n := 7) hts (fun w hw => gWs_tbl w (inW_RX10 w hw)) (hts _ (gWs_tbl _ kw_333))
  obtain ⟨c11, i11, h11⟩ := u_known (C := RX11) (T := TX11) (N := 10) (n := 10) hts (fun w hw => gWs_tbl w (inW_RX11 w hw)) (hts _ (gWs_tbl _ kw_265))
  obtain ⟨c12, i12, h12⟩ := u_known (C := RX12) (T := TX12) (N := 119) (n := 119) hts (fun w hw => gWs_tbl w (inW_RX12 w hw)) (hts _ (gWs_tbl _ kw_1947))
  refine ⟨fun k => if k = 0 then c0 else if k = 1 then c1 else if k = 2 then c2 else if k = 3 then c3 else if k = 4 then c4 else if k = 5 then c5 else if k = 6 then c6 else if k = 7 then c7 else if k = 8 then c8 else if k = 9 then c9 else if k = 10 then c10 else if k = 11 then c11 else if k = 12 then c12 else c0, fun k => if k = 0 then i0 else if k = 1 then i1 else if k = 2 then i2 else if k = 3 then i3 else if k = 4 then i4 else if k = 5 then i5 else if k = 6 then i6 else if k = 7 then i7 else if k = 8 then i8 else if k = 9 then i9 else if k = 10 then i10 else if k = 11 then i11 else if k = 12 then i12 else i0, ?_⟩
  intro k q hq
  match k, hq with
  | 0, hq => cases hq; exact h0
  | 1, hq => cases hq; exact h1
  | 2, hq => cases hq; exact h2
  | 3, hq => cases hq; exact h3
  | 4, hq => cases hq; exact h4
  | 5, hq => cases hq; exact h5
  | 6, hq => cases hq; exact h6
  | 7, hq => cases hq; exact h7
  | 8, hq => cases hq; exact h8
  | 9, hq => cases hq; exact h9
  | 10, hq => cases hq; exact h10
  | 11, hq => cases hq; exact h11
  | 12, hq => cases hq; exact h12
  | k + 13, hq => simp [vwCl] at hq
set_option maxRecDepth 100000 in
theorem gSt_ns (hts : ∀ w ∈ lw_tbl, w.before #[.ref b0] s = true) : ∀ w ∈ gNs, va_Nw (.methodLinkNest w.1 w.2.1 w.2.2.1 w.2.2.2) s := List.forall_mem_cons.mpr ⟨va_Nw.of rfl (hts _ (List.mem_of_getElem? (i := 291) (by decide +kernel))), List.forall_mem_cons.mpr ⟨va_Nw.of rfl (hts _ (List.mem_of_getElem? (i := 334) (by decide +kernel))), List.forall_mem_cons.mpr ⟨va_Nw.of rfl (hts _ (List.mem_of_getElem? (i := 703) (by decide +kernel))), List.forall_mem_cons.mpr ⟨va_Nw.of rfl (hts _ (List.mem_of_getElem? (i := 734) (by decide +kernel))), List.forall_mem_cons.mpr ⟨va_Nw.of rfl (hts _ (List.mem_of_getElem? (i := 1230) (by decide +kernel))), List.forall_mem_cons.mpr ⟨va_Nw.of rfl (hts _ (List.mem_of_getElem? (i := 1236) (by decide +kernel))), List.forall_mem_cons.mpr ⟨va_Nw.of rfl (hts _ (List.mem_of_getElem? (i := 1351) (by decide +kernel))), List.forall_mem_cons.mpr ⟨va_Nw.of rfl (hts _ (List.mem_of_getElem? (i := 1358) (by decide +kernel))), List.forall_mem_cons.mpr ⟨va_Nw.of rfl (hts _ (List.mem_of_getElem? (i := 1365) (by decide +kernel))), List.forall_mem_cons.mpr ⟨va_Nw.of rfl (hts _ (List.mem_of_getElem? (i := 1368) (by decide +kernel))), List.forall_mem_cons.mpr ⟨va_Nw.of rfl (hts _ (List.mem_of_getElem? (i := 1546) (by decide +kernel))), List.forall_mem_cons.mpr ⟨va_Nw.of rfl (hts _ (List.mem_of_getElem? (i := 1780) (by decide +kernel))), List.forall_mem_cons.mpr ⟨va_Nw.of rfl (hts _ (List.mem_of_getElem? (i := 1785) (by decide +kernel))), List.forall_mem_cons.mpr ⟨va_Nw.of rfl (hts _ (List.mem_of_getElem? (i := 1786) (by decide +kernel))), List.forall_mem_cons.mpr ⟨va_Nw.of rfl (hts _ (List.mem_of_getElem? (i := 1787) (by decide +kernel))), fun _ h => nomatch h⟩⟩⟩⟩⟩⟩⟩⟩⟩⟩⟩⟩⟩⟩⟩
set_option maxRecDepth 100000 in
theorem gSt_cs (hts : ∀ w ∈ lw_tbl, w.before #[.ref b0] s = true) : ∀ q ∈ gCs, va_Nw (.castable q.1 q.2) s := List.forall_mem_cons.mpr ⟨va_Nw.of rfl (hts _ (List.mem_of_getElem? (i := 459) (by decide +kernel))), List.forall_mem_cons.mpr ⟨va_Nw.of rfl (hts _ (List.mem_of_getElem? (i := 1010) (by decide +kernel))), List.forall_mem_cons.mpr ⟨va_Nw.of rfl (hts _ (List.mem_of_getElem? (i := 1912) (by decide +kernel))), List.forall_mem_cons.mpr ⟨va_Nw.of rfl (hts _ (List.mem_of_getElem? (i := 2946) (by decide +kernel))), List.forall_mem_cons.mpr ⟨va_Nw.of rfl (hts _ (List.mem_of_getElem? (i := 2947) (by decide +kernel))), List.forall_mem_cons.mpr ⟨va_Nw.of rfl (hts _ (List.mem_of_getElem? (i := 2948) (by decide +kernel))), List.forall_mem_cons.mpr ⟨va_Nw.of rfl (hts _ (List.mem_of_getElem? (i := 2949) (by decide +kernel))), List.forall_mem_cons.mpr ⟨va_Nw.of rfl (hts _ (List.mem_of_getElem? (i := 2950) (by decide +kernel))), List.forall_mem_cons.mpr ⟨va_Nw.of rfl (hts _ (List.mem_of_getElem? (i := 2951) (by decide +kernel))), List.forall_mem_cons.mpr ⟨va_Nw.of rfl (hts _ (List.mem_of_getElem? (i := 2952) (by decide +kernel))), List.forall_mem_cons.mpr ⟨va_Nw.of rfl (hts _ (List.mem_of_getElem? (i := 2953) (by decide +kernel))), List.forall_mem_cons.mpr ⟨va_Nw.of rfl (hts _ (List.mem_of_getElem? (i := 2954) (by decide +kernel))), List.forall_mem_cons.mpr ⟨va_Nw.of rfl (hts _ (List.mem_of_getElem? (i := 2955) (by decide +kernel))), List.forall_mem_cons.mpr ⟨va_Nw.of rfl (hts _ (List.mem_of_getElem? (i := 2956) (by decide +kernel))), List.forall_mem_cons.mpr ⟨va_Nw.of rfl (hts _ (List.mem_of_getElem? (i := 2957) (by decide +kernel))), List.forall_mem_cons.mpr ⟨va_Nw.of rfl (hts _ (List.mem_of_getElem? (i := 2958) (by decide +kernel))), List.forall_mem_cons.mpr ⟨va_Nw.of rfl (hts _ (List.mem_of_getElem? (i := 2959) (by decide +kernel))), List.forall_mem_cons.mpr ⟨va_Nw.of rfl (hts _ (List.mem_of_getElem? (i := 2960) (by decide +kernel))), List.forall_mem_cons.mpr ⟨va_Nw.of rfl (hts _ (List.mem_of_getElem? (i := 2961) (by decide +kernel))), List.forall_mem_cons.mpr ⟨va_Nw.of rfl (hts _ (List.mem_of_getElem? (i := 2962) (by decide +kernel))), fun _ h => nomatch h⟩⟩⟩⟩⟩⟩⟩⟩⟩⟩⟩⟩⟩⟩⟩⟩⟩⟩⟩⟩
set_option maxRecDepth 100000 in
theorem gSt_ds (hts : ∀ w ∈ lw_tbl, w.before #[.ref b0] s = true) : ∀ x ∈ gDs, va_Nw (.declares x) s := List.forall_mem_cons.mpr ⟨va_Nw.of rfl (hts _ (List.mem_of_getElem? (i := 1011) (by decide +kernel))), List.forall_mem_cons.mpr ⟨va_Nw.of rfl (hts _ (List.mem_of_getElem? (i := 1012) (by decide +kernel))), List.forall_mem_cons.mpr ⟨va_Nw.of rfl (hts _ (List.mem_of_getElem? (i := 1013) (by decide +kernel))), List.forall_mem_cons.mpr ⟨va_Nw.of rfl (hts _ (List.mem_of_getElem? (i := 1014) (by decide +kernel))), List.forall_mem_cons.mpr ⟨va_Nw.of rfl (hts _ (List.mem_of_getElem? (i := 1015) (by decide +kernel))), List.forall_mem_cons.mpr ⟨va_Nw.of rfl (hts _ (List.mem_of_getElem? (i := 1016) (by decide +kernel))), fun _ h => nomatch h⟩⟩⟩⟩⟩⟩
set_option maxRecDepth 100000 in
theorem gSt_E (hts : ∀ w ∈ lw_tbl, w.before #[.ref b0] s = true) (hgv : (Jvm.Cond.and given_1 narrow_1).before #[.ref b0] s = true) : ∃ d : gD, gV d s.heap.size s := by
  have hA : ∀ a : Nat, a < s.heap.size → ¬ s.heap.size ≤ a := fun a h => Nat.not_le.mpr h
  obtain ⟨dC, dI, hKc⟩ := gSt_cls hts
  obtain ⟨aI, oI, nI⟩ := gSt_arr (hts (Cond.arrayClass .int) (List.mem_of_getElem? (i := 288) (by decide +kernel)))
  obtain ⟨aY, oY, nY⟩ := gSt_arr (hts (Cond.arrayClass .byte) (List.mem_of_getElem? (i := 506) (by decide +kernel)))
  obtain ⟨aZ, oZ, nZ⟩ := gSt_arr (hts (Cond.arrayClass .boolean) (List.mem_of_getElem? (i := 2314) (by decide +kernel)))
  obtain ⟨aJ, oJ, nJ⟩ := gSt_arr (hts (Cond.arrayClass .long) (List.mem_of_getElem? (i := 2944) (by decide +kernel)))
  have hao : (Cond.arrayOver (.object RX4)).before #[.ref b0] s = true := hts _ (List.mem_of_getElem? (i := 708) (by decide +kernel))
  obtain ⟨aO, oO, nO⟩ := gSt_ao hao
  obtain ⟨adK, adV, hS, hev⟩ := vk_Sof (tm := gTm) (N := 5) (len := gLen) (byt := gByt) (A := fun q => s.heap.size ≤ q) gLen_lt (fun i hi => gSt_fl hgv (gFl_ex i hi)) (fun i hi => gSt_fl hgv (gFl_co i hi)) (fun i hi => gSt_fl hgv (gFl_ar i hi)) (fun i hi => gSt_fl hgv (gFl_le i hi)) (fun i hi j hj => gSt_fl hgv (gFl_el i hi j hj)) (fun i j hi hj hn => (gFl_ne i hi j hj hn).elim (fun h => Or.inl (gSt_fl hgv h)) (fun h => Or.inr (gSt_fl hgv h))) hA
  refine ⟨((dC, dI), (aI, aY, aZ, aJ, aO), adK, adV), Nat.le_refl _, ⟨hKc, fun k q hq => ?_⟩, gSt_ns hts, va_AO.of hao, hS, fun i w hw => ?_, va_Zof (hts _ (List.mem_of_getElem? (i := 386) (by decide +kernel))) (hts _ (List.mem_of_getElem? (i := 243) (by decide +kernel))) (va_eqi (gSt_fl hgv (i := 4) (by decide +kernel))) hA, vx_Zqof (hts _ (List.mem_of_getElem? (i := 1035) (by decide +kernel))) (hts _ (List.mem_of_getElem? (i := 258) (by decide +kernel))) (gSt_fl hgv (i := 9) (by decide +kernel)) hA, vx_Zqof (hts _ (List.mem_of_getElem? (i := 1037) (by decide +kernel))) (hts _ (List.mem_of_getElem? (i := 258) (by decide +kernel))) (gSt_fl hgv (i := 10) (by decide +kernel)) hA, gSt_cs hts, gSt_ds hts, ?_⟩
  · match k, hq with
    | 0, hq => cases hq; exact ⟨oI, nI⟩
    | 1, hq => cases hq; exact ⟨oY, nY⟩
    | 2, hq => cases hq; exact ⟨oZ, nZ⟩
    | 3, hq => cases hq; exact ⟨oJ, nJ⟩
    | 4, hq => cases hq; exact ⟨oO, nO⟩
    | k + 5, hq => simp [gtys] at hq
  · match i, hw with
    | 0, hw => cases hw; exact vk_R.of (A := #[.ref b0]) (hts _ (List.mem_of_getElem? (i := 372) (by decide +kernel))) (hev 0 (by decide))
    | 1, hw => cases hw; exact vk_R.of (A := #[.ref b0]) (hts _ (List.mem_of_getElem? (i := 469) (by decide +kernel))) (hev 1 (by decide))
    | 2, hw => cases hw; exact vk_R.of (A := #[.ref b0]) (hts _ (List.mem_of_getElem? (i := 470) (by decide +kernel))) (hev 2 (by decide))
    | 3, hw => cases hw; exact vk_R.of (A := #[.ref b0]) (hts _ (List.mem_of_getElem? (i := 471) (by decide +kernel))) (hev 3 (by decide))
    | 4, hw => cases hw; exact vk_R.of (A := #[.ref b0]) (hts _ (List.mem_of_getElem? (i := 1048) (by decide +kernel))) (hev 4 (by decide))
    | i + 5, hw => simp [gSr] at hw
  · rcases va_Zqof (C := "jdk/internal/util/Preconditions") (n := "SIOOBE_FORMATTER") (d := "Ljava/util/function/BiFunction;") (hts _ (List.mem_of_getElem? (i := 402) (by decide +kernel))) (hts _ (List.mem_of_getElem? (i := 245) (by decide +kernel))) (gSt_fl hgv (i := 5) (by decide +kernel)) hA with h | ⟨t, h⟩
    · exact ⟨none, h⟩
    · exact ⟨some t, h⟩
end GSTART
