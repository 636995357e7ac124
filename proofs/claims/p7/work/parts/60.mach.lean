theorem kw_751 : Cond.fieldLink RX5 71 "WordTongue$Machine" "channels" "LWordTongue$Channels;" ∈ gWs := List.mem_filter.mpr ⟨gMt3 _ (List.mem_of_getElem? (i := 34) rfl), rfl⟩
theorem fl_X5_71 : gFL RX5 71 5 1 (.object "WordTongue$Channels") true := ⟨RX5, TX5, 16, tyX5, rfl, by decide, inW_RX5, kw_751, tyX5_ok, nmX5, rfl, by decide +kernel, fun _ => rfl⟩
theorem kw_1818 : Cond.methodLink RX5 241 yX0_write ∈ gWs := List.mem_filter.mpr ⟨gMt7 _ (List.mem_of_getElem? (i := 141) rfl), rfl⟩
theorem cl_X5_241 : gCV RX5 241 yX0_write cX0_write 2 none 1 := ⟨g_mk [.methodLink RX5 241 yX0_write, .instanceMethod yX0_write, .selects yX0_write.cls yX0_write yX0_write, .initialized yX0_write.cls] (gWs_all kw_1808) (List.forall_mem_cons.mpr ⟨kw_1818, List.forall_mem_cons.mpr ⟨kw_1806, List.forall_mem_cons.mpr ⟨kw_1807, List.forall_mem_cons.mpr ⟨kw_254, fun _ h => nomatch h⟩⟩⟩⟩), rfl, by decide +kernel, by decide +kernel, by decide +kernel⟩
theorem kw_1799 : Cond.code yX0_writeNumber cX0_writeNumber 9 none ∈ gWs := List.mem_filter.mpr ⟨gMt7 _ (List.mem_of_getElem? (i := 122) rfl), rfl⟩
theorem kw_1796 : Cond.methodLink RX5 235 yX0_writeNumber ∈ gWs := List.mem_filter.mpr ⟨gMt7 _ (List.mem_of_getElem? (i := 119) rfl), rfl⟩
theorem kw_1797 : Cond.instanceMethod yX0_writeNumber ∈ gWs := List.mem_filter.mpr ⟨gMt7 _ (List.mem_of_getElem? (i := 120) rfl), rfl⟩
theorem kw_1798 : Cond.selects RX0 yX0_writeNumber yX0_writeNumber ∈ gWs := List.mem_filter.mpr ⟨gMt7 _ (List.mem_of_getElem? (i := 121) rfl), rfl⟩
theorem cl_X5_235 : gCV RX5 235 yX0_writeNumber cX0_writeNumber 9 none 2 := ⟨g_mk [.methodLink RX5 235 yX0_writeNumber, .instanceMethod yX0_writeNumber, .selects yX0_writeNumber.cls yX0_writeNumber yX0_writeNumber, .initialized yX0_writeNumber.cls] (gWs_all kw_1799) (List.forall_mem_cons.mpr ⟨kw_1796, List.forall_mem_cons.mpr ⟨kw_1797, List.forall_mem_cons.mpr ⟨kw_1798, List.forall_mem_cons.mpr ⟨kw_254, fun _ h => nomatch h⟩⟩⟩⟩), rfl, by decide +kernel, by decide +kernel, by decide +kernel⟩
theorem kw_1817 : Cond.code yX5_writeString cX5_writeString 4 none ∈ gWs := List.mem_filter.mpr ⟨gMt7 _ (List.mem_of_getElem? (i := 140) rfl), rfl⟩
theorem kw_1814 : Cond.methodLink RX5 238 yX5_writeString ∈ gWs := List.mem_filter.mpr ⟨gMt7 _ (List.mem_of_getElem? (i := 137) rfl), rfl⟩
theorem kw_1816 : Cond.instanceMethod yX5_writeString ∈ gWs := List.mem_filter.mpr ⟨gMt7 _ (List.mem_of_getElem? (i := 139) rfl), rfl⟩
theorem kw_119 : Cond.selects RX5 yX5_writeString yX5_writeString ∈ gWs := gWm 119 (by decide +kernel) rfl
theorem cl_X5_238 : gCV RX5 238 yX5_writeString cX5_writeString 4 none 1 := ⟨g_mk [.methodLink RX5 238 yX5_writeString, .instanceMethod yX5_writeString, .selects yX5_writeString.cls yX5_writeString yX5_writeString, .initialized yX5_writeString.cls] (gWs_all kw_1817) (List.forall_mem_cons.mpr ⟨kw_1814, List.forall_mem_cons.mpr ⟨kw_1816, List.forall_mem_cons.mpr ⟨kw_119, List.forall_mem_cons.mpr ⟨kw_255, fun _ h => nomatch h⟩⟩⟩⟩), rfl, by decide +kernel, by decide +kernel, by decide +kernel⟩
theorem kw_1819 : Cond.methodLink RX5 244 yX0_read ∈ gWs := List.mem_filter.mpr ⟨gMt7 _ (List.mem_of_getElem? (i := 142) rfl), rfl⟩
theorem cl_X5_244 : gCV RX5 244 yX0_read cX0_read 2 (some .int) 0 := ⟨g_mk [.methodLink RX5 244 yX0_read, .instanceMethod yX0_read, .selects yX0_read.cls yX0_read yX0_read, .initialized yX0_read.cls] (gWs_all kw_1822) (List.forall_mem_cons.mpr ⟨kw_1819, List.forall_mem_cons.mpr ⟨kw_1820, List.forall_mem_cons.mpr ⟨kw_1821, List.forall_mem_cons.mpr ⟨kw_254, fun _ h => nomatch h⟩⟩⟩⟩), rfl, by decide +kernel, by decide +kernel, by decide +kernel⟩
theorem kw_1831 : Cond.code yX0_unread cX0_unread 1 (some .boolean) ∈ gWs := List.mem_filter.mpr ⟨gMt7 _ (List.mem_of_getElem? (i := 154) rfl), rfl⟩
theorem kw_1828 : Cond.methodLink RX5 247 yX0_unread ∈ gWs := List.mem_filter.mpr ⟨gMt7 _ (List.mem_of_getElem? (i := 151) rfl), rfl⟩
theorem kw_1829 : Cond.instanceMethod yX0_unread ∈ gWs := List.mem_filter.mpr ⟨gMt7 _ (List.mem_of_getElem? (i := 152) rfl), rfl⟩
theorem kw_1830 : Cond.selects RX0 yX0_unread yX0_unread ∈ gWs := List.mem_filter.mpr ⟨gMt7 _ (List.mem_of_getElem? (i := 153) rfl), rfl⟩
theorem cl_X5_247 : gCV RX5 247 yX0_unread cX0_unread 1 (some .boolean) 0 := ⟨g_mk [.methodLink RX5 247 yX0_unread, .instanceMethod yX0_unread, .selects yX0_unread.cls yX0_unread yX0_unread, .initialized yX0_unread.cls] (gWs_all kw_1831) (List.forall_mem_cons.mpr ⟨kw_1828, List.forall_mem_cons.mpr ⟨kw_1829, List.forall_mem_cons.mpr ⟨kw_1830, List.forall_mem_cons.mpr ⟨kw_254, fun _ h => nomatch h⟩⟩⟩⟩), rfl, by decide +kernel, by decide +kernel, by decide +kernel⟩
theorem kw_1835 : Cond.code yX0_selectInput cX0_selectInput 2 (some .boolean) ∈ gWs := List.mem_filter.mpr ⟨gMt7 _ (List.mem_of_getElem? (i := 158) rfl), rfl⟩
theorem kw_1832 : Cond.methodLink RX5 250 yX0_selectInput ∈ gWs := List.mem_filter.mpr ⟨gMt7 _ (List.mem_of_getElem? (i := 155) rfl), rfl⟩
theorem kw_1833 : Cond.instanceMethod yX0_selectInput ∈ gWs := List.mem_filter.mpr ⟨gMt7 _ (List.mem_of_getElem? (i := 156) rfl), rfl⟩
theorem kw_1834 : Cond.selects RX0 yX0_selectInput yX0_selectInput ∈ gWs := List.mem_filter.mpr ⟨gMt7 _ (List.mem_of_getElem? (i := 157) rfl), rfl⟩
theorem cl_X5_250 : gCV RX5 250 yX0_selectInput cX0_selectInput 2 (some .boolean) 1 := ⟨g_mk [.methodLink RX5 250 yX0_selectInput, .instanceMethod yX0_selectInput, .selects yX0_selectInput.cls yX0_selectInput yX0_selectInput, .initialized yX0_selectInput.cls] (gWs_all kw_1835) (List.forall_mem_cons.mpr ⟨kw_1832, List.forall_mem_cons.mpr ⟨kw_1833, List.forall_mem_cons.mpr ⟨kw_1834, List.forall_mem_cons.mpr ⟨kw_254, fun _ h => nomatch h⟩⟩⟩⟩), rfl, by decide +kernel, by decide +kernel, by decide +kernel⟩
theorem kw_1839 : Cond.code yX0_selectOutput cX0_selectOutput 2 (some .boolean) ∈ gWs := List.mem_filter.mpr ⟨gMt7 _ (List.mem_of_getElem? (i := 162) rfl), rfl⟩
theorem kw_1836 : Cond.methodLink RX5 253 yX0_selectOutput ∈ gWs := List.mem_filter.mpr ⟨gMt7 _ (List.mem_of_getElem? (i := 159) rfl), rfl⟩
theorem kw_1837 : Cond.instanceMethod yX0_selectOutput ∈ gWs := List.mem_filter.mpr ⟨gMt7 _ (List.mem_of_getElem? (i := 160) rfl), rfl⟩
theorem kw_1838 : Cond.selects RX0 yX0_selectOutput yX0_selectOutput ∈ gWs := List.mem_filter.mpr ⟨gMt7 _ (List.mem_of_getElem? (i := 161) rfl), rfl⟩
theorem cl_X5_253 : gCV RX5 253 yX0_selectOutput cX0_selectOutput 2 (some .boolean) 1 := ⟨g_mk [.methodLink RX5 253 yX0_selectOutput, .instanceMethod yX0_selectOutput, .selects yX0_selectOutput.cls yX0_selectOutput yX0_selectOutput, .initialized yX0_selectOutput.cls] (gWs_all kw_1839) (List.forall_mem_cons.mpr ⟨kw_1836, List.forall_mem_cons.mpr ⟨kw_1837, List.forall_mem_cons.mpr ⟨kw_1838, List.forall_mem_cons.mpr ⟨kw_254, fun _ h => nomatch h⟩⟩⟩⟩), rfl, by decide +kernel, by decide +kernel, by decide +kernel⟩
theorem kw_1843 : Cond.code yX0_rewind cX0_rewind 1 none ∈ gWs := List.mem_filter.mpr ⟨gMt7 _ (List.mem_of_getElem? (i := 166) rfl), rfl⟩
theorem kw_1840 : Cond.methodLink RX5 256 yX0_rewind ∈ gWs := List.mem_filter.mpr ⟨gMt7 _ (List.mem_of_getElem? (i := 163) rfl), rfl⟩
theorem kw_1841 : Cond.instanceMethod yX0_rewind ∈ gWs := List.mem_filter.mpr ⟨gMt7 _ (List.mem_of_getElem? (i := 164) rfl), rfl⟩
theorem kw_1842 : Cond.selects RX0 yX0_rewind yX0_rewind ∈ gWs := List.mem_filter.mpr ⟨gMt7 _ (List.mem_of_getElem? (i := 165) rfl), rfl⟩
theorem cl_X5_256 : gCV RX5 256 yX0_rewind cX0_rewind 1 none 0 := ⟨g_mk [.methodLink RX5 256 yX0_rewind, .instanceMethod yX0_rewind, .selects yX0_rewind.cls yX0_rewind yX0_rewind, .initialized yX0_rewind.cls] (gWs_all kw_1843) (List.forall_mem_cons.mpr ⟨kw_1840, List.forall_mem_cons.mpr ⟨kw_1841, List.forall_mem_cons.mpr ⟨kw_1842, List.forall_mem_cons.mpr ⟨kw_254, fun _ h => nomatch h⟩⟩⟩⟩), rfl, by decide +kernel, by decide +kernel, by decide +kernel⟩
theorem kw_1851 : Cond.code yX3_get cX3_get 7 (some .int) ∈ gWs := List.mem_filter.mpr ⟨gMt7 _ (List.mem_of_getElem? (i := 174) rfl), rfl⟩
theorem kw_1848 : Cond.methodLink RX5 259 yX3_get ∈ gWs := List.mem_filter.mpr ⟨gMt7 _ (List.mem_of_getElem? (i := 171) rfl), rfl⟩
theorem kw_1849 : Cond.instanceMethod yX3_get ∈ gWs := List.mem_filter.mpr ⟨gMt7 _ (List.mem_of_getElem? (i := 172) rfl), rfl⟩
theorem kw_1850 : Cond.selects RX3 yX3_get yX3_get ∈ gWs := List.mem_filter.mpr ⟨gMt7 _ (List.mem_of_getElem? (i := 173) rfl), rfl⟩
theorem cl_X5_259 : gCV RX5 259 yX3_get cX3_get 7 (some .int) 3 := ⟨g_mk [.methodLink RX5 259 yX3_get, .instanceMethod yX3_get, .selects yX3_get.cls yX3_get yX3_get, .initialized yX3_get.cls] (gWs_all kw_1851) (List.forall_mem_cons.mpr ⟨kw_1848, List.forall_mem_cons.mpr ⟨kw_1849, List.forall_mem_cons.mpr ⟨kw_1850, List.forall_mem_cons.mpr ⟨kw_256, fun _ h => nomatch h⟩⟩⟩⟩), rfl, by decide +kernel, by decide +kernel, by decide +kernel⟩
theorem kw_1860 : Cond.code yX3_free cX3_free 3 (some .boolean) ∈ gWs := List.mem_filter.mpr ⟨gMt7 _ (List.mem_of_getElem? (i := 183) rfl), rfl⟩
theorem kw_1857 : Cond.methodLink RX5 261 yX3_free ∈ gWs := List.mem_filter.mpr ⟨gMt7 _ (List.mem_of_getElem? (i := 180) rfl), rfl⟩
theorem kw_1858 : Cond.instanceMethod yX3_free ∈ gWs := List.mem_filter.mpr ⟨gMt7 _ (List.mem_of_getElem? (i := 181) rfl), rfl⟩
theorem kw_1859 : Cond.selects RX3 yX3_free yX3_free ∈ gWs := List.mem_filter.mpr ⟨gMt7 _ (List.mem_of_getElem? (i := 182) rfl), rfl⟩
theorem cl_X5_261 : gCV RX5 261 yX3_free cX3_free 3 (some .boolean) 1 := ⟨g_mk [.methodLink RX5 261 yX3_free, .instanceMethod yX3_free, .selects yX3_free.cls yX3_free yX3_free, .initialized yX3_free.cls] (gWs_all kw_1860) (List.forall_mem_cons.mpr ⟨kw_1857, List.forall_mem_cons.mpr ⟨kw_1858, List.forall_mem_cons.mpr ⟨kw_1859, List.forall_mem_cons.mpr ⟨kw_256, fun _ h => nomatch h⟩⟩⟩⟩), rfl, by decide +kernel, by decide +kernel, by decide +kernel⟩
theorem kw_1867 : Cond.code yX0_writeHex cX0_writeHex 5 none ∈ gWs := List.mem_filter.mpr ⟨gMt7 _ (List.mem_of_getElem? (i := 190) rfl), rfl⟩
theorem kw_1864 : Cond.methodLink RX5 264 yX0_writeHex ∈ gWs := List.mem_filter.mpr ⟨gMt7 _ (List.mem_of_getElem? (i := 187) rfl), rfl⟩
theorem kw_1865 : Cond.instanceMethod yX0_writeHex ∈ gWs := List.mem_filter.mpr ⟨gMt7 _ (List.mem_of_getElem? (i := 188) rfl), rfl⟩
theorem kw_1866 : Cond.selects RX0 yX0_writeHex yX0_writeHex ∈ gWs := List.mem_filter.mpr ⟨gMt7 _ (List.mem_of_getElem? (i := 189) rfl), rfl⟩
theorem cl_X5_264 : gCV RX5 264 yX0_writeHex cX0_writeHex 5 none 2 := ⟨g_mk [.methodLink RX5 264 yX0_writeHex, .instanceMethod yX0_writeHex, .selects yX0_writeHex.cls yX0_writeHex yX0_writeHex, .initialized yX0_writeHex.cls] (gWs_all kw_1867) (List.forall_mem_cons.mpr ⟨kw_1864, List.forall_mem_cons.mpr ⟨kw_1865, List.forall_mem_cons.mpr ⟨kw_1866, List.forall_mem_cons.mpr ⟨kw_254, fun _ h => nomatch h⟩⟩⟩⟩), rfl, by decide +kernel, by decide +kernel, by decide +kernel⟩
theorem kw_1872 : Cond.code yX0_readNumber cX0_readNumber 4 (some .int) ∈ gWs := List.mem_filter.mpr ⟨gMt7 _ (List.mem_of_getElem? (i := 195) rfl), rfl⟩
theorem kw_1869 : Cond.methodLink RX5 267 yX0_readNumber ∈ gWs := List.mem_filter.mpr ⟨gMt7 _ (List.mem_of_getElem? (i := 192) rfl), rfl⟩
theorem kw_1870 : Cond.instanceMethod yX0_readNumber ∈ gWs := List.mem_filter.mpr ⟨gMt7 _ (List.mem_of_getElem? (i := 193) rfl), rfl⟩
theorem kw_1871 : Cond.selects RX0 yX0_readNumber yX0_readNumber ∈ gWs := List.mem_filter.mpr ⟨gMt7 _ (List.mem_of_getElem? (i := 194) rfl), rfl⟩
theorem cl_X5_267 : gCV RX5 267 yX0_readNumber cX0_readNumber 4 (some .int) 0 := ⟨g_mk [.methodLink RX5 267 yX0_readNumber, .instanceMethod yX0_readNumber, .selects yX0_readNumber.cls yX0_readNumber yX0_readNumber, .initialized yX0_readNumber.cls] (gWs_all kw_1872) (List.forall_mem_cons.mpr ⟨kw_1869, List.forall_mem_cons.mpr ⟨kw_1870, List.forall_mem_cons.mpr ⟨kw_1871, List.forall_mem_cons.mpr ⟨kw_254, fun _ h => nomatch h⟩⟩⟩⟩), rfl, by decide +kernel, by decide +kernel, by decide +kernel⟩
theorem i2l_z {x : Int32} (h : x.toInt64 = 0) : x = 0 := by
  have e : x.toInt64.toInt = 0 := by rw [h]; decide
  rw [Int32.toInt_toInt64] at e
  exact Int32.toInt_inj.mp (e.trans (by decide))
theorem gop8 (x : Int32) : ∃ N : Nat, N < 256 ∧ x &&& 255 = nI N := by
  obtain ⟨v⟩ := x
  obtain ⟨v⟩ := v
  refine ⟨(v &&& 255#32).toNat, ?_, ?_⟩
  · rw [BitVec.toNat_and]
    exact Nat.lt_of_le_of_lt Nat.and_le_right (by decide)
  · apply Int32.toBitVec_inj.mp
    show v &&& 255#32 = BitVec.ofNat 32 _
    rw [BitVec.ofNat_toNat]
    simp
theorem nI_ltQ {j N : Nat} (hj : j < 2 ^ 31) (h : ¬ nI N < nI j) : j < N + 1 := Nat.lt_succ_of_le (Nat.not_lt.mp (fun q => h (nI_lt q hj)))
theorem dX5_writeString_0 : decode cX5_writeString 0 = .ok (.aload_n 0, 1) := by decide +kernel
theorem dX5_writeString_1 : decode cX5_writeString 1 = .ok (.iload_n 1, 1) := by decide +kernel
theorem dX5_writeString_2 : decode cX5_writeString 2 = .ok (.invokevirtual 143, 3) := by decide +kernel
theorem dX5_writeString_5 : decode cX5_writeString 5 = .ok (.sipush 255, 3) := by decide +kernel
theorem dX5_writeString_8 : decode cX5_writeString 8 = .ok (.iand, 1) := by decide +kernel
theorem dX5_writeString_9 : decode cX5_writeString 9 = .ok (.istore_n 2, 1) := by decide +kernel
theorem dX5_writeString_10 : decode cX5_writeString 10 = .ok (.aload_n 0, 1) := by decide +kernel
theorem dX5_writeString_11 : decode cX5_writeString 11 = .ok (.getfield 57, 3) := by decide +kernel
theorem dX5_writeString_14 : decode cX5_writeString 14 = .ok (.ifCond .eq 4, 3) := by decide +kernel
theorem dX5_writeString_17 : decode cX5_writeString 17 = .ok (.return_, 1) := by decide +kernel
theorem dX5_writeString_18 : decode cX5_writeString 18 = .ok (.aload_n 0, 1) := by decide +kernel
theorem dX5_writeString_19 : decode cX5_writeString 19 = .ok (.iload_n 1, 1) := by decide +kernel
theorem dX5_writeString_20 : decode cX5_writeString 20 = .ok (.iload_n 2, 1) := by decide +kernel
theorem dX5_writeString_21 : decode cX5_writeString 21 = .ok (.iconst 4, 1) := by decide +kernel
theorem dX5_writeString_22 : decode cX5_writeString 22 = .ok (.idiv, 1) := by decide +kernel
theorem dX5_writeString_23 : decode cX5_writeString 23 = .ok (.iadd, 1) := by decide +kernel
theorem dX5_writeString_24 : decode cX5_writeString 24 = .ok (.invokevirtual 75, 3) := by decide +kernel
theorem dX5_writeString_27 : decode cX5_writeString 27 = .ok (.ifCond .ne 9, 3) := by decide +kernel
theorem dX5_writeString_30 : decode cX5_writeString 30 = .ok (.aload_n 0, 1) := by decide +kernel
theorem dX5_writeString_31 : decode cX5_writeString 31 = .ok (.iconst 2, 1) := by decide +kernel
theorem dX5_writeString_32 : decode cX5_writeString 32 = .ok (.invokevirtual 137, 3) := by decide +kernel
theorem dX5_writeString_35 : decode cX5_writeString 35 = .ok (.return_, 1) := by decide +kernel
theorem dX5_writeString_36 : decode cX5_writeString 36 = .ok (.iconst 1, 1) := by decide +kernel
theorem dX5_writeString_37 : decode cX5_writeString 37 = .ok (.istore_n 3, 1) := by decide +kernel
theorem dX5_writeString_38 : decode cX5_writeString 38 = .ok (.iload_n 3, 1) := by decide +kernel
theorem dX5_writeString_39 : decode cX5_writeString 39 = .ok (.iload_n 2, 1) := by decide +kernel
theorem dX5_writeString_40 : decode cX5_writeString 40 = .ok (.if_icmp .gt 32, 3) := by decide +kernel
theorem dX5_writeString_43 : decode cX5_writeString 43 = .ok (.aload_n 0, 1) := by decide +kernel
theorem dX5_writeString_44 : decode cX5_writeString 44 = .ok (.getfield 71, 3) := by decide +kernel
theorem dX5_writeString_47 : decode cX5_writeString 47 = .ok (.aload_n 0, 1) := by decide +kernel
theorem dX5_writeString_48 : decode cX5_writeString 48 = .ok (.iload_n 1, 1) := by decide +kernel
theorem dX5_writeString_49 : decode cX5_writeString 49 = .ok (.iload_n 3, 1) := by decide +kernel
theorem dX5_writeString_50 : decode cX5_writeString 50 = .ok (.iconst 4, 1) := by decide +kernel
theorem dX5_writeString_51 : decode cX5_writeString 51 = .ok (.idiv, 1) := by decide +kernel
theorem dX5_writeString_52 : decode cX5_writeString 52 = .ok (.iadd, 1) := by decide +kernel
theorem dX5_writeString_53 : decode cX5_writeString 53 = .ok (.invokevirtual 143, 3) := by decide +kernel
theorem dX5_writeString_56 : decode cX5_writeString 56 = .ok (.bipush 8, 2) := by decide +kernel
theorem dX5_writeString_58 : decode cX5_writeString 58 = .ok (.iload_n 3, 1) := by decide +kernel
theorem dX5_writeString_59 : decode cX5_writeString 59 = .ok (.iconst 4, 1) := by decide +kernel
theorem dX5_writeString_60 : decode cX5_writeString 60 = .ok (.irem, 1) := by decide +kernel
theorem dX5_writeString_61 : decode cX5_writeString 61 = .ok (.imul, 1) := by decide +kernel
theorem dX5_writeString_62 : decode cX5_writeString 62 = .ok (.iushr, 1) := by decide +kernel
theorem dX5_writeString_63 : decode cX5_writeString 63 = .ok (.invokevirtual 241, 3) := by decide +kernel
theorem dX5_writeString_66 : decode cX5_writeString 66 = .ok (.iinc 3 1, 3) := by decide +kernel
theorem dX5_writeString_69 : decode cX5_writeString 69 = .ok (.goto (-31), 3) := by decide +kernel
theorem dX5_writeString_72 : decode cX5_writeString 72 = .ok (.return_, 1) := by decide +kernel
set_option maxHeartbeats 4000000 in
set_option maxRecDepth 100000 in
theorem s_M_writeString (l : Launch) (d : gD) (b : Nat) (Y : gYt) (c : Nat × Nat) (F : gM) (k n : Nat) {S : gSt} (hi : hI d b Y c (F, k, n) S) (hA : gPsi S ≤ gAm) (h43 : sZ S 43 ≤ 404) (x : Int32) : hMv l d b yX5_writeString cX5_writeString 4 5 k n F [.ref (gO' Y 7), .int x] (fun u => ∃ S', hI d b Y c u S' ∧ gKp Y F u.1 ∧ gSm S S' [38, 39, 40, 41, 42, 44, 45] [25, 26, 27, 28, 29, 30, 31, 32, 33, 34, 35, 36] ∧ sZ S' 43 ≤ 404 ∧ gPsi S' ≤ gPsi S ∧ sN S' 45 = sN S 45) := by
  intro mc ms
  refine hM_of2 rfl (nL := 4) (Nat.le_of_ble_eq_true rfl) ?_
  intro X hX hC hr ho; subst hX
  show hG X d b _ F k n 0 [some (.ref (gO' Y 7)), some (.int x), none, none] []
  refine h_aload_n hC dX5_writeString_0 rfl ?_
  refine h_iload_n hC dX5_writeString_1 rfl ?_
  refine h_callVi (As := [.int x]) hC hr ho rfl (hi.1.o 7 (by decide)) (s_M_look X.la d b Y c _ _ _ hi (by omega) (by omega) x) cl_X5_143 rfl rfl (Nat.le_of_ble_eq_true rfl) (hFr_of (Nat.le_of_ble_eq_true rfl) (Nat.le_of_ble_eq_true rfl)) dX5_writeString_2 (fun r4 u1 p2 o3 => ?_)
  obtain ⟨S5, I6, K7, s8, q9⟩ := p2
  have m10 : gSm S S5 [38, 39, 40, 41, 42, 44, 45] [25, 26, 27, 28, 29, 30, 31, 32, 33, 34, 35, 36] := gSm.wk s8 _ _ rfl rfl
  have ZS5 : sZ S5 43 = sZ S 43 := s8.z 43 (by decide)
  obtain ⟨aq9, bq9, nq9⟩ := q9
  refine h_sipush (v := 255) hC dX5_writeString_5 rfl ?_
  refine h_iand hC dX5_writeString_8 ?_
  refine h_vi (fun x12 ex12 => ?_)
  obtain ⟨NN, hNN, eNN⟩ := gop8 r4
  rw [← ex12] at eNN
  subst eNN
  refine h_istore_n (lv' := [some (.ref (gO' Y 7)), some (.int x), some (.int (nI NN)), none]) hC dX5_writeString_9 (Nat.le_of_ble_eq_true rfl) rfl rfl ?_
  refine h_aload_n hC dX5_writeString_10 rfl ?_
  refine h_get hC fl_X5_57 (I6.1.o 7 (by decide)) rfl dX5_writeString_11 ?_
  refine h_if_eq (tgt := 18) hC dX5_writeString_14 (by decide) (fun c13 => ?_) (fun c13 => ?_)
  · refine h_aload_n hC dX5_writeString_18 rfl ?_
    refine h_iload_n hC dX5_writeString_19 rfl ?_
    refine h_iload_n hC dX5_writeString_20 rfl ?_
    refine h_iconst (v := 4) hC dX5_writeString_21 rfl ?_
    refine h_idiv hC dX5_writeString_22 (by decide) ?_
    refine h_vi (fun x14 ex14 => ?_)
    refine h_iadd hC dX5_writeString_23 ?_
    refine h_vi (fun x15 ex15 => ?_)
    refine h_callVi (As := [.int x15]) hC hr o3 rfl (I6.1.o 7 (by decide)) (s_M_isThere X.la d b Y c _ _ _ I6 x15) cl_X5_75 rfl rfl (Nat.le_of_ble_eq_true rfl) (hFr_of (Nat.le_of_ble_eq_true rfl) (Nat.le_of_ble_eq_true rfl)) dX5_writeString_24 (fun r19 u16 p17 o18 => ?_)
    obtain ⟨q20, rfl⟩ := p17
    refine h_if_ne (tgt := 36) hC dX5_writeString_27 (by decide) (fun c21 => ?_) (fun c21 => ?_)
    · refine h_iconst (v := 1) hC dX5_writeString_36 rfl ?_
      refine h_istore_n (lv' := [some (.ref (gO' Y 7)), some (.int x), some (.int (nI NN)), some (.int 1)]) hC dX5_writeString_37 (Nat.le_of_ble_eq_true rfl) rfl rfl ?_
      have L22 : ∀ (m23 j24 : Nat), j24 + m23 = (NN + 1) → ∀ (u27 : hU) (S28 : gSt), hI d b Y c u27 S28 → hOk X b u27.2.1 u27.2.2 → gKp Y F u27.1 → gSm S S28 [38, 39, 40, 41, 42, 44, 45] [25, 26, 27, 28, 29, 30, 31, 32, 33, 34, 35, 36] → (sZ S28 43 ≤ 404) → (gPsi S28 ≤ gPsi S) → (sN S28 45 = sN S 45) → hG X d b (MQ X.be (va_Qv (fun u => ∃ S', hI d b Y c u S' ∧ gKp Y F u.1 ∧ gSm S S' [38, 39, 40, 41, 42, 44, 45] [25, 26, 27, 28, 29, 30, 31, 32, 33, 34, 35, 36] ∧ sZ S' 43 ≤ 404 ∧ gPsi S' ≤ gPsi S ∧ sN S' 45 = sN S 45) (hB d b) (fun q => b ≤ q)) X.ar X.st mc ms (fun q => b ≤ q)) u27.1 u27.2.1 u27.2.2 38 [some (.ref (gO' Y 7)), some (.int x), some (.int (nI NN)), some (.int (nI j24))] [] := by
        intro m23
        refine Nat.strongRecOn m23 (fun m23 ih25 j24 hj26 u27 S28 I29 o30 K31 m32 i43 ips iN => ?_)
        refine h_iload_n hC dX5_writeString_38 rfl ?_
        refine h_iload_n hC dX5_writeString_39 rfl ?_
        refine h_icmp_gt (tgt := 72) hC dX5_writeString_40 (by decide) (fun c33 => ?_) (fun c33 => ?_)
        · exact h_vret hC hr o30 rfl rfl ⟨S28, I29, K31, m32, by omega, by omega, by omega⟩ dX5_writeString_72
        · have hlt := nI_ltQ (by omega) c33
          refine h_aload_n hC dX5_writeString_43 rfl ?_
          refine h_get hC fl_X5_71 (I29.1.o 7 (by decide)) rfl dX5_writeString_44 ?_
          refine h_aload_n hC dX5_writeString_47 rfl ?_
          refine h_iload_n hC dX5_writeString_48 rfl ?_
          refine h_iload_n hC dX5_writeString_49 rfl ?_
          refine h_iconst (v := 4) hC dX5_writeString_50 rfl ?_
          refine h_idiv hC dX5_writeString_51 (by decide) ?_
          refine h_vi (fun x34 ex34 => ?_)
          refine h_iadd hC dX5_writeString_52 ?_
          refine h_vi (fun x35 ex35 => ?_)
          refine h_callVi (As := [.int x35]) hC hr o30 rfl (I29.1.o 7 (by decide)) (s_M_look X.la d b Y c _ _ _ I29 (by omega) (by omega) x35) cl_X5_143 rfl rfl (Nat.le_of_ble_eq_true rfl) (hFr_of (Nat.le_of_ble_eq_true rfl) (Nat.le_of_ble_eq_true rfl)) dX5_writeString_53 (fun r39 u36 p37 o38 => ?_)
          obtain ⟨S40, I41, K42, s43, q44⟩ := p37
          have m45 : gSm S S40 [38, 39, 40, 41, 42, 44, 45] [25, 26, 27, 28, 29, 30, 31, 32, 33, 34, 35, 36] := m32.tr s43 _ _ rfl rfl
          have K46 := K31.tr K42
          have ZS40 : sZ S40 43 = sZ S28 43 := s43.z 43 (by decide)
          obtain ⟨aq44, bq44, nq44⟩ := q44
          refine h_bipush (v := 8) hC dX5_writeString_56 rfl ?_
          refine h_iload_n hC dX5_writeString_58 rfl ?_
          refine h_iconst (v := 4) hC dX5_writeString_59 rfl ?_
          refine h_irem hC dX5_writeString_60 (by decide) ?_
          refine h_vi (fun x47 ex47 => ?_)
          refine h_imul hC dX5_writeString_61 ?_
          refine h_vi (fun x48 ex48 => ?_)
          refine h_iushr hC dX5_writeString_62 ?_
          refine h_vi (fun x49 ex49 => ?_)
          refine h_callVv (As := [.int x49]) hC hr o38 rfl (I41.1.o 6 (by decide)) (s_C_write X.la d b Y c _ _ _ I41 (by omega) x49) cl_X5_241 rfl rfl (Nat.le_of_ble_eq_true rfl) (hFr_of (Nat.le_of_ble_eq_true rfl) (Nat.le_of_ble_eq_true rfl)) dX5_writeString_63 (fun u50 p51 o52 => ?_)
          obtain ⟨S54, I55, K56, s57, q58⟩ := p51
          have m59 : gSm S S54 [38, 39, 40, 41, 42, 44, 45] [25, 26, 27, 28, 29, 30, 31, 32, 33, 34, 35, 36] := m45.tr s57 _ _ rfl rfl
          have K60 := K46.tr K56
          have NS54 : sN S54 45 = sN S40 45 := s57.n 45 (by decide)
          have ZS54 : sZ S54 43 = sZ S40 43 := s57.z 43 (by decide)
          obtain ⟨x61, ex61⟩ : ∃ y : Int32, y = (nI j24) + 1 := ⟨_, rfl⟩
          refine h_iinc (v := x61) (lv' := [some (.ref (gO' Y 7)), some (.int x), some (.int (nI NN)), some (.int x61)]) hC dX5_writeString_66 rfl (by rw [ex61]; rfl) rfl rfl ?_
          refine h_goto (tgt := 38) hC dX5_writeString_69 (by decide) ?_
          have zJx61 : x61 = nI (j24 + 1) := by rw [ex61]; exact nI_suc
          subst zJx61
          refine h_lv (lv' := [some (.ref (gO' Y 7)), some (.int x), some (.int (nI NN)), some (.int (nI (j24 + 1)))]) (by repeat (first | exact trivial | refine ⟨rfl, ?_⟩ | exact trivial)) ?_
          exact ih25 (m23 - 1) (by omega) (j24 + 1) (by omega) _ S54  I55 o52 K60 m59 (by omega) (by omega) (by omega)
      refine h_lv (lv' := [some (.ref (gO' Y 7)), some (.int x), some (.int (nI NN)), some (.int 1)]) (by repeat (first | exact trivial | refine ⟨rfl, ?_⟩ | exact trivial)) ?_
      exact L22 ((NN + 1) - 1) 1 (by omega) (u1.1, u1.2.1, u1.2.2) S5  I6 o18 K7 m10 (by omega) (by omega) (by omega)
    · refine h_aload_n hC dX5_writeString_30 rfl ?_
      refine h_iconst (v := 2) hC dX5_writeString_31 rfl ?_
      refine h_callVv (As := [.int 2]) hC hr o18 rfl (I6.1.o 7 (by decide)) (s_M_fail X.la d b Y c _ _ _ I6 (by omega) (by omega) 2) cl_X5_137 rfl rfl (Nat.le_of_ble_eq_true rfl) (hFr_of (Nat.le_of_ble_eq_true rfl) (Nat.le_of_ble_eq_true rfl)) dX5_writeString_32 (fun u62 p63 o64 => ?_)
      obtain ⟨S66, I67, K68, s69, q70⟩ := p63
      have m71 : gSm S S66 [38, 39, 40, 41, 42, 44, 45] [25, 26, 27, 28, 29, 30, 31, 32, 33, 34, 35, 36] := m10.tr s69 _ _ rfl rfl
      have K72 := K7.tr K68
      have ZS66 : sZ S66 43 = sZ S5 43 := s69.z 43 (by decide)
      obtain ⟨aq70, bq70, nq70⟩ := q70
      exact h_vret hC hr o64 rfl rfl ⟨S66, I67, K72, m71, by omega, by omega, by omega⟩ dX5_writeString_35
  · exact h_vret hC hr o3 rfl rfl ⟨S5, I6, K7, m10, by omega, by omega, by omega⟩ dX5_writeString_17
theorem dX5_exchange_0 : decode cX5_exchange 0 = .ok (.iload_n 1, 1) := by decide +kernel
theorem dX5_exchange_1 : decode cX5_exchange 1 = .ok (.tableswitch 172 0 9 #[55, 66, 73, 83, 94, 102, 111, 122, 138, 155], 55) := by decide +kernel
theorem dX5_exchange_56 : decode cX5_exchange 56 = .ok (.aload_n 0, 1) := by decide +kernel
theorem dX5_exchange_57 : decode cX5_exchange 57 = .ok (.getfield 71, 3) := by decide +kernel
theorem dX5_exchange_60 : decode cX5_exchange 60 = .ok (.iload_n 2, 1) := by decide +kernel
theorem dX5_exchange_61 : decode cX5_exchange 61 = .ok (.iconst 0, 1) := by decide +kernel
theorem dX5_exchange_62 : decode cX5_exchange 62 = .ok (.invokevirtual 235, 3) := by decide +kernel
theorem dX5_exchange_65 : decode cX5_exchange 65 = .ok (.iconst 0, 1) := by decide +kernel
theorem dX5_exchange_66 : decode cX5_exchange 66 = .ok (.ireturn, 1) := by decide +kernel
theorem dX5_exchange_67 : decode cX5_exchange 67 = .ok (.aload_n 0, 1) := by decide +kernel
theorem dX5_exchange_68 : decode cX5_exchange 68 = .ok (.iload_n 2, 1) := by decide +kernel
theorem dX5_exchange_69 : decode cX5_exchange 69 = .ok (.invokevirtual 238, 3) := by decide +kernel
theorem dX5_exchange_72 : decode cX5_exchange 72 = .ok (.iconst 0, 1) := by decide +kernel
theorem dX5_exchange_73 : decode cX5_exchange 73 = .ok (.ireturn, 1) := by decide +kernel
theorem dX5_exchange_74 : decode cX5_exchange 74 = .ok (.aload_n 0, 1) := by decide +kernel
theorem dX5_exchange_75 : decode cX5_exchange 75 = .ok (.getfield 71, 3) := by decide +kernel
theorem dX5_exchange_78 : decode cX5_exchange 78 = .ok (.iload_n 2, 1) := by decide +kernel
theorem dX5_exchange_79 : decode cX5_exchange 79 = .ok (.invokevirtual 241, 3) := by decide +kernel
theorem dX5_exchange_82 : decode cX5_exchange 82 = .ok (.iconst 0, 1) := by decide +kernel
theorem dX5_exchange_83 : decode cX5_exchange 83 = .ok (.ireturn, 1) := by decide +kernel
theorem dX5_exchange_84 : decode cX5_exchange 84 = .ok (.aload_n 0, 1) := by decide +kernel
theorem dX5_exchange_85 : decode cX5_exchange 85 = .ok (.getfield 71, 3) := by decide +kernel
theorem dX5_exchange_88 : decode cX5_exchange 88 = .ok (.bipush 10, 2) := by decide +kernel
theorem dX5_exchange_90 : decode cX5_exchange 90 = .ok (.invokevirtual 241, 3) := by decide +kernel
theorem dX5_exchange_93 : decode cX5_exchange 93 = .ok (.iconst 0, 1) := by decide +kernel
theorem dX5_exchange_94 : decode cX5_exchange 94 = .ok (.ireturn, 1) := by decide +kernel
theorem dX5_exchange_95 : decode cX5_exchange 95 = .ok (.aload_n 0, 1) := by decide +kernel
theorem dX5_exchange_96 : decode cX5_exchange 96 = .ok (.getfield 71, 3) := by decide +kernel
theorem dX5_exchange_99 : decode cX5_exchange 99 = .ok (.invokevirtual 244, 3) := by decide +kernel
theorem dX5_exchange_102 : decode cX5_exchange 102 = .ok (.ireturn, 1) := by decide +kernel
theorem dX5_exchange_103 : decode cX5_exchange 103 = .ok (.aload_n 0, 1) := by decide +kernel
theorem dX5_exchange_104 : decode cX5_exchange 104 = .ok (.iload_n 2, 1) := by decide +kernel
theorem dX5_exchange_105 : decode cX5_exchange 105 = .ok (.bipush 6, 2) := by decide +kernel
theorem dX5_exchange_107 : decode cX5_exchange 107 = .ok (.invokevirtual 155, 3) := by decide +kernel
theorem dX5_exchange_110 : decode cX5_exchange 110 = .ok (.iconst 0, 1) := by decide +kernel
theorem dX5_exchange_111 : decode cX5_exchange 111 = .ok (.ireturn, 1) := by decide +kernel
theorem dX5_exchange_112 : decode cX5_exchange 112 = .ok (.iload_n 2, 1) := by decide +kernel
theorem dX5_exchange_113 : decode cX5_exchange 113 = .ok (.ifCond .ge 8, 3) := by decide +kernel
theorem dX5_exchange_116 : decode cX5_exchange 116 = .ok (.iload_n 2, 1) := by decide +kernel
theorem dX5_exchange_117 : decode cX5_exchange 117 = .ok (.ineg, 1) := by decide +kernel
theorem dX5_exchange_118 : decode cX5_exchange 118 = .ok (.goto 4, 3) := by decide +kernel
theorem dX5_exchange_121 : decode cX5_exchange 121 = .ok (.iload_n 2, 1) := by decide +kernel
theorem dX5_exchange_122 : decode cX5_exchange 122 = .ok (.ireturn, 1) := by decide +kernel
theorem dX5_exchange_123 : decode cX5_exchange 123 = .ok (.aload_n 0, 1) := by decide +kernel
theorem dX5_exchange_124 : decode cX5_exchange 124 = .ok (.getfield 71, 3) := by decide +kernel
theorem dX5_exchange_127 : decode cX5_exchange 127 = .ok (.invokevirtual 247, 3) := by decide +kernel
theorem dX5_exchange_130 : decode cX5_exchange 130 = .ok (.ifCond .eq 7, 3) := by decide +kernel
theorem dX5_exchange_133 : decode cX5_exchange 133 = .ok (.iconst (-1), 1) := by decide +kernel
theorem dX5_exchange_134 : decode cX5_exchange 134 = .ok (.goto 4, 3) := by decide +kernel
theorem dX5_exchange_137 : decode cX5_exchange 137 = .ok (.iconst 0, 1) := by decide +kernel
theorem dX5_exchange_138 : decode cX5_exchange 138 = .ok (.ireturn, 1) := by decide +kernel
theorem dX5_exchange_139 : decode cX5_exchange 139 = .ok (.aload_n 0, 1) := by decide +kernel
theorem dX5_exchange_140 : decode cX5_exchange 140 = .ok (.getfield 71, 3) := by decide +kernel
theorem dX5_exchange_143 : decode cX5_exchange 143 = .ok (.iload_n 2, 1) := by decide +kernel
theorem dX5_exchange_144 : decode cX5_exchange 144 = .ok (.invokevirtual 250, 3) := by decide +kernel
theorem dX5_exchange_147 : decode cX5_exchange 147 = .ok (.ifCond .eq 7, 3) := by decide +kernel
theorem dX5_exchange_150 : decode cX5_exchange 150 = .ok (.iconst (-1), 1) := by decide +kernel
theorem dX5_exchange_151 : decode cX5_exchange 151 = .ok (.goto 4, 3) := by decide +kernel
theorem dX5_exchange_154 : decode cX5_exchange 154 = .ok (.iconst 0, 1) := by decide +kernel
theorem dX5_exchange_155 : decode cX5_exchange 155 = .ok (.ireturn, 1) := by decide +kernel
theorem dX5_exchange_156 : decode cX5_exchange 156 = .ok (.aload_n 0, 1) := by decide +kernel
theorem dX5_exchange_157 : decode cX5_exchange 157 = .ok (.getfield 71, 3) := by decide +kernel
theorem dX5_exchange_160 : decode cX5_exchange 160 = .ok (.iload_n 2, 1) := by decide +kernel
theorem dX5_exchange_161 : decode cX5_exchange 161 = .ok (.invokevirtual 253, 3) := by decide +kernel
theorem dX5_exchange_164 : decode cX5_exchange 164 = .ok (.ifCond .eq 7, 3) := by decide +kernel
theorem dX5_exchange_167 : decode cX5_exchange 167 = .ok (.iconst (-1), 1) := by decide +kernel
theorem dX5_exchange_168 : decode cX5_exchange 168 = .ok (.goto 4, 3) := by decide +kernel
theorem dX5_exchange_171 : decode cX5_exchange 171 = .ok (.iconst 0, 1) := by decide +kernel
theorem dX5_exchange_172 : decode cX5_exchange 172 = .ok (.ireturn, 1) := by decide +kernel
theorem dX5_exchange_173 : decode cX5_exchange 173 = .ok (.aload_n 0, 1) := by decide +kernel
theorem dX5_exchange_174 : decode cX5_exchange 174 = .ok (.getfield 71, 3) := by decide +kernel
theorem dX5_exchange_177 : decode cX5_exchange 177 = .ok (.invokevirtual 256, 3) := by decide +kernel
theorem dX5_exchange_180 : decode cX5_exchange 180 = .ok (.iconst 0, 1) := by decide +kernel
theorem dX5_exchange_181 : decode cX5_exchange 181 = .ok (.ireturn, 1) := by decide +kernel
set_option maxHeartbeats 4000000 in
set_option maxRecDepth 100000 in
theorem s_M_exchange (l : Launch) (d : gD) (b : Nat) (Y : gYt) (c : Nat × Nat) (F : gM) (k n : Nat) {S : gSt} (hi : hI d b Y c (F, k, n) S) (hA : gPsi S ≤ gAm) (h43 : sZ S 43 ≤ 404) (x y : Int32) : hMi l d b yX5_exchange cX5_exchange 3 .int 6 k n F [.ref (gO' Y 7), .int x, .int y] (fun r u => ∃ S', hI d b Y c u S' ∧ gKp Y F u.1 ∧ gSm S S' [38, 39, 40, 41, 42, 44, 45] [25, 26, 27, 28, 29, 30, 31, 32, 33, 34, 35, 36] ∧ sZ S' 43 ≤ 404 ∧ gPsi S' ≤ gPsi S ∧ sN S' 45 = sN S 45) := by
  intro mc ms
  refine hM_of2 rfl (nL := 3) (Nat.le_of_ble_eq_true rfl) ?_
  intro X hX hC hr ho; subst hX
  show hG X d b _ F k n 0 [some (.ref (gO' Y 7)), some (.int x), some (.int y)] []
  refine h_iload_n hC dX5_exchange_0 rfl ?_
  have T1 : hG X d b (MQ X.be (va_Qi (fun r u => ∃ S', hI d b Y c u S' ∧ gKp Y F u.1 ∧ gSm S S' [38, 39, 40, 41, 42, 44, 45] [25, 26, 27, 28, 29, 30, 31, 32, 33, 34, 35, 36] ∧ sZ S' 43 ≤ 404 ∧ gPsi S' ≤ gPsi S ∧ sN S' 45 = sN S 45) (hB d b) (fun q => b ≤ q)) X.ar X.st mc ms (fun q => b ≤ q)) F k n 56 [some (.ref (gO' Y 7)), some (.int x), some (.int y)] [] := by
    refine h_aload_n hC dX5_exchange_56 rfl ?_
    refine h_get hC fl_X5_71 (hi.1.o 7 (by decide)) rfl dX5_exchange_57 ?_
    refine h_iload_n hC dX5_exchange_60 rfl ?_
    refine h_iconst (v := 0) hC dX5_exchange_61 rfl ?_
    refine h_callVv (As := [.int y, .int 0]) hC hr ho rfl (hi.1.o 6 (by decide)) (s_C_writeNumber X.la d b Y c _ _ _ hi (by omega) y 0) cl_X5_235 rfl rfl (Nat.le_of_ble_eq_true rfl) (hFr_of (Nat.le_of_ble_eq_true rfl) (Nat.le_of_ble_eq_true rfl)) dX5_exchange_62 (fun u2 p3 o4 => ?_)
    obtain ⟨S6, I7, K8, s9, q10⟩ := p3
    have m11 : gSm S S6 [38, 39, 40, 41, 42, 44, 45] [25, 26, 27, 28, 29, 30, 31, 32, 33, 34, 35, 36] := gSm.wk s9 _ _ rfl rfl
    have NS6 : sN S6 45 = sN S 45 := s9.n 45 (by decide)
    have ZS6 : sZ S6 43 = sZ S 43 := s9.z 43 (by decide)
    refine h_iconst (v := 0) hC dX5_exchange_65 rfl ?_
    exact h_iret hC hr o4 rfl rfl rfl ⟨S6, I7, K8, m11, by omega, by omega, by omega⟩ dX5_exchange_66
  have T13 : hG X d b (MQ X.be (va_Qi (fun r u => ∃ S', hI d b Y c u S' ∧ gKp Y F u.1 ∧ gSm S S' [38, 39, 40, 41, 42, 44, 45] [25, 26, 27, 28, 29, 30, 31, 32, 33, 34, 35, 36] ∧ sZ S' 43 ≤ 404 ∧ gPsi S' ≤ gPsi S ∧ sN S' 45 = sN S 45) (hB d b) (fun q => b ≤ q)) X.ar X.st mc ms (fun q => b ≤ q)) F k n 67 [some (.ref (gO' Y 7)), some (.int x), some (.int y)] [] := by
    refine h_aload_n hC dX5_exchange_67 rfl ?_
    refine h_iload_n hC dX5_exchange_68 rfl ?_
    refine h_callVv (As := [.int y]) hC hr ho rfl (hi.1.o 7 (by decide)) (s_M_writeString X.la d b Y c _ _ _ hi (by omega) (by omega) y) cl_X5_238 rfl rfl (Nat.le_of_ble_eq_true rfl) (hFr_of (Nat.le_of_ble_eq_true rfl) (Nat.le_of_ble_eq_true rfl)) dX5_exchange_69 (fun u14 p15 o16 => ?_)
    obtain ⟨S18, I19, K20, s21, q22⟩ := p15
    have m23 : gSm S S18 [38, 39, 40, 41, 42, 44, 45] [25, 26, 27, 28, 29, 30, 31, 32, 33, 34, 35, 36] := gSm.wk s21 _ _ rfl rfl
    have ZS18 : sZ S18 43 = sZ S 43 := s21.z 43 (by decide)
    obtain ⟨aq22, bq22, nq22⟩ := q22
    refine h_iconst (v := 0) hC dX5_exchange_72 rfl ?_
    exact h_iret hC hr o16 rfl rfl rfl ⟨S18, I19, K20, m23, by omega, by omega, by omega⟩ dX5_exchange_73
  have T25 : hG X d b (MQ X.be (va_Qi (fun r u => ∃ S', hI d b Y c u S' ∧ gKp Y F u.1 ∧ gSm S S' [38, 39, 40, 41, 42, 44, 45] [25, 26, 27, 28, 29, 30, 31, 32, 33, 34, 35, 36] ∧ sZ S' 43 ≤ 404 ∧ gPsi S' ≤ gPsi S ∧ sN S' 45 = sN S 45) (hB d b) (fun q => b ≤ q)) X.ar X.st mc ms (fun q => b ≤ q)) F k n 74 [some (.ref (gO' Y 7)), some (.int x), some (.int y)] [] := by
    refine h_aload_n hC dX5_exchange_74 rfl ?_
    refine h_get hC fl_X5_71 (hi.1.o 7 (by decide)) rfl dX5_exchange_75 ?_
    refine h_iload_n hC dX5_exchange_78 rfl ?_
    refine h_callVv (As := [.int y]) hC hr ho rfl (hi.1.o 6 (by decide)) (s_C_write X.la d b Y c _ _ _ hi (by omega) y) cl_X5_241 rfl rfl (Nat.le_of_ble_eq_true rfl) (hFr_of (Nat.le_of_ble_eq_true rfl) (Nat.le_of_ble_eq_true rfl)) dX5_exchange_79 (fun u26 p27 o28 => ?_)
    obtain ⟨S30, I31, K32, s33, q34⟩ := p27
    have m35 : gSm S S30 [38, 39, 40, 41, 42, 44, 45] [25, 26, 27, 28, 29, 30, 31, 32, 33, 34, 35, 36] := gSm.wk s33 _ _ rfl rfl
    have NS30 : sN S30 45 = sN S 45 := s33.n 45 (by decide)
    have ZS30 : sZ S30 43 = sZ S 43 := s33.z 43 (by decide)
    refine h_iconst (v := 0) hC dX5_exchange_82 rfl ?_
    exact h_iret hC hr o28 rfl rfl rfl ⟨S30, I31, K32, m35, by omega, by omega, by omega⟩ dX5_exchange_83
  have T37 : hG X d b (MQ X.be (va_Qi (fun r u => ∃ S', hI d b Y c u S' ∧ gKp Y F u.1 ∧ gSm S S' [38, 39, 40, 41, 42, 44, 45] [25, 26, 27, 28, 29, 30, 31, 32, 33, 34, 35, 36] ∧ sZ S' 43 ≤ 404 ∧ gPsi S' ≤ gPsi S ∧ sN S' 45 = sN S 45) (hB d b) (fun q => b ≤ q)) X.ar X.st mc ms (fun q => b ≤ q)) F k n 84 [some (.ref (gO' Y 7)), some (.int x), some (.int y)] [] := by
    refine h_aload_n hC dX5_exchange_84 rfl ?_
    refine h_get hC fl_X5_71 (hi.1.o 7 (by decide)) rfl dX5_exchange_85 ?_
    refine h_bipush (v := 10) hC dX5_exchange_88 rfl ?_
    refine h_callVv (As := [.int 10]) hC hr ho rfl (hi.1.o 6 (by decide)) (s_C_write X.la d b Y c _ _ _ hi (by omega) 10) cl_X5_241 rfl rfl (Nat.le_of_ble_eq_true rfl) (hFr_of (Nat.le_of_ble_eq_true rfl) (Nat.le_of_ble_eq_true rfl)) dX5_exchange_90 (fun u38 p39 o40 => ?_)
    obtain ⟨S42, I43, K44, s45, q46⟩ := p39
    have m47 : gSm S S42 [38, 39, 40, 41, 42, 44, 45] [25, 26, 27, 28, 29, 30, 31, 32, 33, 34, 35, 36] := gSm.wk s45 _ _ rfl rfl
    have NS42 : sN S42 45 = sN S 45 := s45.n 45 (by decide)
    have ZS42 : sZ S42 43 = sZ S 43 := s45.z 43 (by decide)
    refine h_iconst (v := 0) hC dX5_exchange_93 rfl ?_
    exact h_iret hC hr o40 rfl rfl rfl ⟨S42, I43, K44, m47, by omega, by omega, by omega⟩ dX5_exchange_94
  have T49 : hG X d b (MQ X.be (va_Qi (fun r u => ∃ S', hI d b Y c u S' ∧ gKp Y F u.1 ∧ gSm S S' [38, 39, 40, 41, 42, 44, 45] [25, 26, 27, 28, 29, 30, 31, 32, 33, 34, 35, 36] ∧ sZ S' 43 ≤ 404 ∧ gPsi S' ≤ gPsi S ∧ sN S' 45 = sN S 45) (hB d b) (fun q => b ≤ q)) X.ar X.st mc ms (fun q => b ≤ q)) F k n 95 [some (.ref (gO' Y 7)), some (.int x), some (.int y)] [] := by
    refine h_aload_n hC dX5_exchange_95 rfl ?_
    refine h_get hC fl_X5_71 (hi.1.o 7 (by decide)) rfl dX5_exchange_96 ?_
    refine h_callVi (As := []) hC hr ho rfl (hi.1.o 6 (by decide)) (s_C_read X.la d b Y c _ _ _ hi ) cl_X5_244 rfl rfl (Nat.le_of_ble_eq_true rfl) (hFr_of (Nat.le_of_ble_eq_true rfl) (Nat.le_of_ble_eq_true rfl)) dX5_exchange_99 (fun r53 u50 p51 o52 => ?_)
    obtain ⟨S54, I55, K56, s57, q58⟩ := p51
    have m59 : gSm S S54 [38, 39, 40, 41, 42, 44, 45] [25, 26, 27, 28, 29, 30, 31, 32, 33, 34, 35, 36] := gSm.wk s57 _ _ rfl rfl
    have NS54 : sN S54 45 = sN S 45 := s57.n 45 (by decide)
    have ZS54 : sZ S54 43 = sZ S 43 := s57.z 43 (by decide)
    exact h_iret hC hr o52 rfl rfl rfl ⟨S54, I55, K56, m59, by omega, by omega, by omega⟩ dX5_exchange_102
  have T61 : hG X d b (MQ X.be (va_Qi (fun r u => ∃ S', hI d b Y c u S' ∧ gKp Y F u.1 ∧ gSm S S' [38, 39, 40, 41, 42, 44, 45] [25, 26, 27, 28, 29, 30, 31, 32, 33, 34, 35, 36] ∧ sZ S' 43 ≤ 404 ∧ gPsi S' ≤ gPsi S ∧ sN S' 45 = sN S 45) (hB d b) (fun q => b ≤ q)) X.ar X.st mc ms (fun q => b ≤ q)) F k n 103 [some (.ref (gO' Y 7)), some (.int x), some (.int y)] [] := by
    refine h_aload_n hC dX5_exchange_103 rfl ?_
    refine h_iload_n hC dX5_exchange_104 rfl ?_
    refine h_bipush (v := 6) hC dX5_exchange_105 rfl ?_
    refine h_callVv (As := [.int y, .int 6]) hC hr ho rfl (hi.1.o 7 (by decide)) (s_M_finish X.la d b Y c _ _ _ hi (by omega) (by omega) y 6) cl_X5_155 rfl rfl (Nat.le_of_ble_eq_true rfl) (hFr_of (Nat.le_of_ble_eq_true rfl) (Nat.le_of_ble_eq_true rfl)) dX5_exchange_107 (fun u62 p63 o64 => ?_)
    obtain ⟨S66, I67, K68, s69, q70⟩ := p63
    have m71 : gSm S S66 [38, 39, 40, 41, 42, 44, 45] [25, 26, 27, 28, 29, 30, 31, 32, 33, 34, 35, 36] := gSm.wk s69 _ _ rfl rfl
    have ZS66 : sZ S66 43 = sZ S 43 := s69.z 43 (by decide)
    obtain ⟨aq70, bq70, nq70⟩ := q70
    refine h_iconst (v := 0) hC dX5_exchange_110 rfl ?_
    exact h_iret hC hr o64 rfl rfl rfl ⟨S66, I67, K68, m71, by omega, by omega, by omega⟩ dX5_exchange_111
  have T73 : hG X d b (MQ X.be (va_Qi (fun r u => ∃ S', hI d b Y c u S' ∧ gKp Y F u.1 ∧ gSm S S' [38, 39, 40, 41, 42, 44, 45] [25, 26, 27, 28, 29, 30, 31, 32, 33, 34, 35, 36] ∧ sZ S' 43 ≤ 404 ∧ gPsi S' ≤ gPsi S ∧ sN S' 45 = sN S 45) (hB d b) (fun q => b ≤ q)) X.ar X.st mc ms (fun q => b ≤ q)) F k n 112 [some (.ref (gO' Y 7)), some (.int x), some (.int y)] [] := by
    refine h_iload_n hC dX5_exchange_112 rfl ?_
    refine h_if_ge (tgt := 121) hC dX5_exchange_113 (by decide) (fun c74 => ?_) (fun c74 => ?_)
    · refine h_iload_n hC dX5_exchange_121 rfl ?_
      exact h_iret hC hr ho rfl rfl rfl ⟨S, hi, gKp.rf, gSm.rf, h43, Nat.le_refl _, rfl⟩ dX5_exchange_122
    · refine h_iload_n hC dX5_exchange_116 rfl ?_
      refine h_ineg hC dX5_exchange_117 ?_
      refine h_vi (fun x75 ex75 => ?_)
      refine h_goto (tgt := 122) hC dX5_exchange_118 (by decide) ?_
      exact h_iret hC hr ho rfl rfl rfl ⟨S, hi, gKp.rf, gSm.rf, h43, Nat.le_refl _, rfl⟩ dX5_exchange_122
  have T76 : hG X d b (MQ X.be (va_Qi (fun r u => ∃ S', hI d b Y c u S' ∧ gKp Y F u.1 ∧ gSm S S' [38, 39, 40, 41, 42, 44, 45] [25, 26, 27, 28, 29, 30, 31, 32, 33, 34, 35, 36] ∧ sZ S' 43 ≤ 404 ∧ gPsi S' ≤ gPsi S ∧ sN S' 45 = sN S 45) (hB d b) (fun q => b ≤ q)) X.ar X.st mc ms (fun q => b ≤ q)) F k n 123 [some (.ref (gO' Y 7)), some (.int x), some (.int y)] [] := by
    refine h_aload_n hC dX5_exchange_123 rfl ?_
    refine h_get hC fl_X5_71 (hi.1.o 7 (by decide)) rfl dX5_exchange_124 ?_
    refine h_callVi (As := []) hC hr ho rfl (hi.1.o 6 (by decide)) (s_C_unread X.la d b Y c _ _ _ hi ) cl_X5_247 rfl rfl (Nat.le_of_ble_eq_true rfl) (hFr_of (Nat.le_of_ble_eq_true rfl) (Nat.le_of_ble_eq_true rfl)) dX5_exchange_127 (fun r80 u77 p78 o79 => ?_)
    obtain ⟨S81, I82, K83, s84, q85⟩ := p78
    have m86 : gSm S S81 [38, 39, 40, 41, 42, 44, 45] [25, 26, 27, 28, 29, 30, 31, 32, 33, 34, 35, 36] := gSm.wk s84 _ _ rfl rfl
    have NS81 : sN S81 45 = sN S 45 := s84.n 45 (by decide)
    have ZS81 : sZ S81 43 = sZ S 43 := s84.z 43 (by decide)
    obtain ⟨aq85, bq85⟩ := q85
    refine h_if_eq (tgt := 137) hC dX5_exchange_130 (by decide) (fun c88 => ?_) (fun c88 => ?_)
    · refine h_iconst (v := 0) hC dX5_exchange_137 rfl ?_
      exact h_iret hC hr o79 rfl rfl rfl ⟨S81, I82, K83, m86, by omega, by omega, by omega⟩ dX5_exchange_138
    · refine h_iconst (v := (-1)) hC dX5_exchange_133 rfl ?_
      refine h_goto (tgt := 138) hC dX5_exchange_134 (by decide) ?_
      exact h_iret hC hr o79 rfl rfl rfl ⟨S81, I82, K83, m86, by omega, by omega, by omega⟩ dX5_exchange_138
  have T89 : hG X d b (MQ X.be (va_Qi (fun r u => ∃ S', hI d b Y c u S' ∧ gKp Y F u.1 ∧ gSm S S' [38, 39, 40, 41, 42, 44, 45] [25, 26, 27, 28, 29, 30, 31, 32, 33, 34, 35, 36] ∧ sZ S' 43 ≤ 404 ∧ gPsi S' ≤ gPsi S ∧ sN S' 45 = sN S 45) (hB d b) (fun q => b ≤ q)) X.ar X.st mc ms (fun q => b ≤ q)) F k n 139 [some (.ref (gO' Y 7)), some (.int x), some (.int y)] [] := by
    refine h_aload_n hC dX5_exchange_139 rfl ?_
    refine h_get hC fl_X5_71 (hi.1.o 7 (by decide)) rfl dX5_exchange_140 ?_
    refine h_iload_n hC dX5_exchange_143 rfl ?_
    refine h_callVi (As := [.int y]) hC hr ho rfl (hi.1.o 6 (by decide)) (s_C_selectInput X.la d b Y c _ _ _ hi y) cl_X5_250 rfl rfl (Nat.le_of_ble_eq_true rfl) (hFr_of (Nat.le_of_ble_eq_true rfl) (Nat.le_of_ble_eq_true rfl)) dX5_exchange_144 (fun r93 u90 p91 o92 => ?_)
    obtain ⟨S94, I95, K96, s97, q98⟩ := p91
    have m99 : gSm S S94 [38, 39, 40, 41, 42, 44, 45] [25, 26, 27, 28, 29, 30, 31, 32, 33, 34, 35, 36] := gSm.wk s97 _ _ rfl rfl
    have NS94 : sN S94 45 = sN S 45 := s97.n 45 (by decide)
    have ZS94 : sZ S94 43 = sZ S 43 := s97.z 43 (by decide)
    obtain ⟨aq98, bq98⟩ := q98
    refine h_if_eq (tgt := 154) hC dX5_exchange_147 (by decide) (fun c101 => ?_) (fun c101 => ?_)
    · refine h_iconst (v := 0) hC dX5_exchange_154 rfl ?_
      exact h_iret hC hr o92 rfl rfl rfl ⟨S94, I95, K96, m99, by omega, by omega, by omega⟩ dX5_exchange_155
    · refine h_iconst (v := (-1)) hC dX5_exchange_150 rfl ?_
      refine h_goto (tgt := 155) hC dX5_exchange_151 (by decide) ?_
      exact h_iret hC hr o92 rfl rfl rfl ⟨S94, I95, K96, m99, by omega, by omega, by omega⟩ dX5_exchange_155
  have T102 : hG X d b (MQ X.be (va_Qi (fun r u => ∃ S', hI d b Y c u S' ∧ gKp Y F u.1 ∧ gSm S S' [38, 39, 40, 41, 42, 44, 45] [25, 26, 27, 28, 29, 30, 31, 32, 33, 34, 35, 36] ∧ sZ S' 43 ≤ 404 ∧ gPsi S' ≤ gPsi S ∧ sN S' 45 = sN S 45) (hB d b) (fun q => b ≤ q)) X.ar X.st mc ms (fun q => b ≤ q)) F k n 156 [some (.ref (gO' Y 7)), some (.int x), some (.int y)] [] := by
    refine h_aload_n hC dX5_exchange_156 rfl ?_
    refine h_get hC fl_X5_71 (hi.1.o 7 (by decide)) rfl dX5_exchange_157 ?_
    refine h_iload_n hC dX5_exchange_160 rfl ?_
    refine h_callVi (As := [.int y]) hC hr ho rfl (hi.1.o 6 (by decide)) (s_C_selectOutput X.la d b Y c _ _ _ hi y) cl_X5_253 rfl rfl (Nat.le_of_ble_eq_true rfl) (hFr_of (Nat.le_of_ble_eq_true rfl) (Nat.le_of_ble_eq_true rfl)) dX5_exchange_161 (fun r106 u103 p104 o105 => ?_)
    obtain ⟨S107, I108, K109, s110, q111⟩ := p104
    have m112 : gSm S S107 [38, 39, 40, 41, 42, 44, 45] [25, 26, 27, 28, 29, 30, 31, 32, 33, 34, 35, 36] := gSm.wk s110 _ _ rfl rfl
    have NS107 : sN S107 45 = sN S 45 := s110.n 45 (by decide)
    have ZS107 : sZ S107 43 = sZ S 43 := s110.z 43 (by decide)
    obtain ⟨aq111, bq111⟩ := q111
    refine h_if_eq (tgt := 171) hC dX5_exchange_164 (by decide) (fun c114 => ?_) (fun c114 => ?_)
    · refine h_iconst (v := 0) hC dX5_exchange_171 rfl ?_
      exact h_iret hC hr o105 rfl rfl rfl ⟨S107, I108, K109, m112, by omega, by omega, by omega⟩ dX5_exchange_172
    · refine h_iconst (v := (-1)) hC dX5_exchange_167 rfl ?_
      refine h_goto (tgt := 172) hC dX5_exchange_168 (by decide) ?_
      exact h_iret hC hr o105 rfl rfl rfl ⟨S107, I108, K109, m112, by omega, by omega, by omega⟩ dX5_exchange_172
  have T115 : hG X d b (MQ X.be (va_Qi (fun r u => ∃ S', hI d b Y c u S' ∧ gKp Y F u.1 ∧ gSm S S' [38, 39, 40, 41, 42, 44, 45] [25, 26, 27, 28, 29, 30, 31, 32, 33, 34, 35, 36] ∧ sZ S' 43 ≤ 404 ∧ gPsi S' ≤ gPsi S ∧ sN S' 45 = sN S 45) (hB d b) (fun q => b ≤ q)) X.ar X.st mc ms (fun q => b ≤ q)) F k n 173 [some (.ref (gO' Y 7)), some (.int x), some (.int y)] [] := by
    refine h_aload_n hC dX5_exchange_173 rfl ?_
    refine h_get hC fl_X5_71 (hi.1.o 7 (by decide)) rfl dX5_exchange_174 ?_
    refine h_callVv (As := []) hC hr ho rfl (hi.1.o 6 (by decide)) (s_C_rewind X.la d b Y c _ _ _ hi (by omega) ) cl_X5_256 rfl rfl (Nat.le_of_ble_eq_true rfl) (hFr_of (Nat.le_of_ble_eq_true rfl) (Nat.le_of_ble_eq_true rfl)) dX5_exchange_177 (fun u116 p117 o118 => ?_)
    obtain ⟨S120, I121, K122, s123, q124⟩ := p117
    have m125 : gSm S S120 [38, 39, 40, 41, 42, 44, 45] [25, 26, 27, 28, 29, 30, 31, 32, 33, 34, 35, 36] := gSm.wk s123 _ _ rfl rfl
    have NS120 : sN S120 45 = sN S 45 := s123.n 45 (by decide)
    have ZS120 : sZ S120 43 = sZ S 43 := s123.z 43 (by decide)
    refine h_iconst (v := 0) hC dX5_exchange_180 rfl ?_
    exact h_iret hC hr o118 rfl rfl rfl ⟨S120, I121, K122, m125, by omega, by omega, by omega⟩ dX5_exchange_181
  exact h_tsw hC dX5_exchange_1 (by decide) (fun tgt ht => (by obtain rfl : tgt = 173 := (by omega); exact T115)) (by decide) (by decide) (List.forall_mem_cons.mpr ⟨fun (tgt : Nat) (ht : ((1 : Nat) : Int) + (55 : Int) = (tgt : Int)) => (by obtain rfl : tgt = 56 := (by omega); exact T1), List.forall_mem_cons.mpr ⟨fun (tgt : Nat) (ht : ((1 : Nat) : Int) + (66 : Int) = (tgt : Int)) => (by obtain rfl : tgt = 67 := (by omega); exact T13), List.forall_mem_cons.mpr ⟨fun (tgt : Nat) (ht : ((1 : Nat) : Int) + (73 : Int) = (tgt : Int)) => (by obtain rfl : tgt = 74 := (by omega); exact T25), List.forall_mem_cons.mpr ⟨fun (tgt : Nat) (ht : ((1 : Nat) : Int) + (83 : Int) = (tgt : Int)) => (by obtain rfl : tgt = 84 := (by omega); exact T37), List.forall_mem_cons.mpr ⟨fun (tgt : Nat) (ht : ((1 : Nat) : Int) + (94 : Int) = (tgt : Int)) => (by obtain rfl : tgt = 95 := (by omega); exact T49), List.forall_mem_cons.mpr ⟨fun (tgt : Nat) (ht : ((1 : Nat) : Int) + (102 : Int) = (tgt : Int)) => (by obtain rfl : tgt = 103 := (by omega); exact T61), List.forall_mem_cons.mpr ⟨fun (tgt : Nat) (ht : ((1 : Nat) : Int) + (111 : Int) = (tgt : Int)) => (by obtain rfl : tgt = 112 := (by omega); exact T73), List.forall_mem_cons.mpr ⟨fun (tgt : Nat) (ht : ((1 : Nat) : Int) + (122 : Int) = (tgt : Int)) => (by obtain rfl : tgt = 123 := (by omega); exact T76), List.forall_mem_cons.mpr ⟨fun (tgt : Nat) (ht : ((1 : Nat) : Int) + (138 : Int) = (tgt : Int)) => (by obtain rfl : tgt = 139 := (by omega); exact T89), List.forall_mem_cons.mpr ⟨fun (tgt : Nat) (ht : ((1 : Nat) : Int) + (155 : Int) = (tgt : Int)) => (by obtain rfl : tgt = 156 := (by omega); exact T102), fun _ h => nomatch h⟩⟩⟩⟩⟩⟩⟩⟩⟩⟩)
theorem dX5_reckon_0 : decode cX5_reckon 0 = .ok (.iload_n 1, 1) := by decide +kernel
theorem dX5_reckon_1 : decode cX5_reckon 1 = .ok (.tableswitch 153 11 16 #[39, 86, 153, 108, 131, 142], 39) := by decide +kernel
theorem dX5_reckon_40 : decode cX5_reckon 40 = .ok (.aload_n 0, 1) := by decide +kernel
theorem dX5_reckon_41 : decode cX5_reckon 41 = .ok (.getfield 12, 3) := by decide +kernel
theorem dX5_reckon_44 : decode cX5_reckon 44 = .ok (.iload_n 2, 1) := by decide +kernel
theorem dX5_reckon_45 : decode cX5_reckon 45 = .ok (.ifCond .lt 11, 3) := by decide +kernel
theorem dX5_reckon_48 : decode cX5_reckon 48 = .ok (.iload_n 2, 1) := by decide +kernel
theorem dX5_reckon_49 : decode cX5_reckon 49 = .ok (.aload_n 0, 1) := by decide +kernel
theorem dX5_reckon_50 : decode cX5_reckon 50 = .ok (.getfield 35, 3) := by decide +kernel
theorem dX5_reckon_53 : decode cX5_reckon 53 = .ok (.if_icmp .lt 7, 3) := by decide +kernel
theorem dX5_reckon_56 : decode cX5_reckon 56 = .ok (.iconst 0, 1) := by decide +kernel
theorem dX5_reckon_57 : decode cX5_reckon 57 = .ok (.goto 6, 3) := by decide +kernel
theorem dX5_reckon_60 : decode cX5_reckon 60 = .ok (.iload_n 2, 1) := by decide +kernel
theorem dX5_reckon_61 : decode cX5_reckon 61 = .ok (.iconst 1, 1) := by decide +kernel
theorem dX5_reckon_62 : decode cX5_reckon 62 = .ok (.iadd, 1) := by decide +kernel
theorem dX5_reckon_63 : decode cX5_reckon 63 = .ok (.aload_n 0, 1) := by decide +kernel
theorem dX5_reckon_64 : decode cX5_reckon 64 = .ok (.getfield 42, 3) := by decide +kernel
theorem dX5_reckon_67 : decode cX5_reckon 67 = .ok (.aload_n 0, 1) := by decide +kernel
theorem dX5_reckon_68 : decode cX5_reckon 68 = .ok (.getfield 67, 3) := by decide +kernel
theorem dX5_reckon_71 : decode cX5_reckon 71 = .ok (.aload_n 0, 1) := by decide +kernel
theorem dX5_reckon_72 : decode cX5_reckon 72 = .ok (.getfield 45, 3) := by decide +kernel
theorem dX5_reckon_75 : decode cX5_reckon 75 = .ok (.invokevirtual 210, 3) := by decide +kernel
theorem dX5_reckon_78 : decode cX5_reckon 78 = .ok (.iadd, 1) := by decide +kernel
theorem dX5_reckon_79 : decode cX5_reckon 79 = .ok (.aload_n 0, 1) := by decide +kernel
theorem dX5_reckon_80 : decode cX5_reckon 80 = .ok (.getfield 35, 3) := by decide +kernel
theorem dX5_reckon_83 : decode cX5_reckon 83 = .ok (.invokevirtual 259, 3) := by decide +kernel
theorem dX5_reckon_86 : decode cX5_reckon 86 = .ok (.ireturn, 1) := by decide +kernel
theorem dX5_reckon_87 : decode cX5_reckon 87 = .ok (.iload_n 2, 1) := by decide +kernel
theorem dX5_reckon_88 : decode cX5_reckon 88 = .ok (.ifCond .eq 19, 3) := by decide +kernel
theorem dX5_reckon_91 : decode cX5_reckon 91 = .ok (.aload_n 0, 1) := by decide +kernel
theorem dX5_reckon_92 : decode cX5_reckon 92 = .ok (.getfield 12, 3) := by decide +kernel
theorem dX5_reckon_95 : decode cX5_reckon 95 = .ok (.iload_n 2, 1) := by decide +kernel
theorem dX5_reckon_96 : decode cX5_reckon 96 = .ok (.invokevirtual 261, 3) := by decide +kernel
theorem dX5_reckon_99 : decode cX5_reckon 99 = .ok (.ifCond .ne 8, 3) := by decide +kernel
theorem dX5_reckon_102 : decode cX5_reckon 102 = .ok (.aload_n 0, 1) := by decide +kernel
theorem dX5_reckon_103 : decode cX5_reckon 103 = .ok (.iconst 2, 1) := by decide +kernel
theorem dX5_reckon_104 : decode cX5_reckon 104 = .ok (.invokevirtual 137, 3) := by decide +kernel
theorem dX5_reckon_107 : decode cX5_reckon 107 = .ok (.iconst 0, 1) := by decide +kernel
theorem dX5_reckon_108 : decode cX5_reckon 108 = .ok (.ireturn, 1) := by decide +kernel
theorem dX5_reckon_109 : decode cX5_reckon 109 = .ok (.iload 4, 2) := by decide +kernel
theorem dX5_reckon_111 : decode cX5_reckon 111 = .ok (.ifCond .ne 10, 3) := by decide +kernel
theorem dX5_reckon_114 : decode cX5_reckon 114 = .ok (.aload_n 0, 1) := by decide +kernel
theorem dX5_reckon_115 : decode cX5_reckon 115 = .ok (.iconst 3, 1) := by decide +kernel
theorem dX5_reckon_116 : decode cX5_reckon 116 = .ok (.invokevirtual 137, 3) := by decide +kernel
theorem dX5_reckon_119 : decode cX5_reckon 119 = .ok (.iconst 0, 1) := by decide +kernel
theorem dX5_reckon_120 : decode cX5_reckon 120 = .ok (.ireturn, 1) := by decide +kernel
theorem dX5_reckon_121 : decode cX5_reckon 121 = .ok (.iload_n 2, 1) := by decide +kernel
theorem dX5_reckon_122 : decode cX5_reckon 122 = .ok (.i2l, 1) := by decide +kernel
theorem dX5_reckon_123 : decode cX5_reckon 123 = .ok (.iload_n 3, 1) := by decide +kernel
theorem dX5_reckon_124 : decode cX5_reckon 124 = .ok (.i2l, 1) := by decide +kernel
theorem dX5_reckon_125 : decode cX5_reckon 125 = .ok (.lmul, 1) := by decide +kernel
theorem dX5_reckon_126 : decode cX5_reckon 126 = .ok (.iload 4, 2) := by decide +kernel
theorem dX5_reckon_128 : decode cX5_reckon 128 = .ok (.i2l, 1) := by decide +kernel
theorem dX5_reckon_129 : decode cX5_reckon 129 = .ok (.ldiv, 1) := by decide +kernel
theorem dX5_reckon_130 : decode cX5_reckon 130 = .ok (.l2i, 1) := by decide +kernel
theorem dX5_reckon_131 : decode cX5_reckon 131 = .ok (.ireturn, 1) := by decide +kernel
theorem dX5_reckon_132 : decode cX5_reckon 132 = .ok (.aload_n 0, 1) := by decide +kernel
theorem dX5_reckon_133 : decode cX5_reckon 133 = .ok (.getfield 71, 3) := by decide +kernel
theorem dX5_reckon_136 : decode cX5_reckon 136 = .ok (.iload_n 2, 1) := by decide +kernel
theorem dX5_reckon_137 : decode cX5_reckon 137 = .ok (.iload_n 3, 1) := by decide +kernel
theorem dX5_reckon_138 : decode cX5_reckon 138 = .ok (.invokevirtual 235, 3) := by decide +kernel
theorem dX5_reckon_141 : decode cX5_reckon 141 = .ok (.iconst 0, 1) := by decide +kernel
theorem dX5_reckon_142 : decode cX5_reckon 142 = .ok (.ireturn, 1) := by decide +kernel
theorem dX5_reckon_143 : decode cX5_reckon 143 = .ok (.aload_n 0, 1) := by decide +kernel
theorem dX5_reckon_144 : decode cX5_reckon 144 = .ok (.getfield 71, 3) := by decide +kernel
theorem dX5_reckon_147 : decode cX5_reckon 147 = .ok (.iload_n 2, 1) := by decide +kernel
theorem dX5_reckon_148 : decode cX5_reckon 148 = .ok (.iload_n 3, 1) := by decide +kernel
theorem dX5_reckon_149 : decode cX5_reckon 149 = .ok (.invokevirtual 264, 3) := by decide +kernel
theorem dX5_reckon_152 : decode cX5_reckon 152 = .ok (.iconst 0, 1) := by decide +kernel
theorem dX5_reckon_153 : decode cX5_reckon 153 = .ok (.ireturn, 1) := by decide +kernel
theorem dX5_reckon_154 : decode cX5_reckon 154 = .ok (.aload_n 0, 1) := by decide +kernel
theorem dX5_reckon_155 : decode cX5_reckon 155 = .ok (.getfield 71, 3) := by decide +kernel
theorem dX5_reckon_158 : decode cX5_reckon 158 = .ok (.invokevirtual 267, 3) := by decide +kernel
theorem dX5_reckon_161 : decode cX5_reckon 161 = .ok (.ireturn, 1) := by decide +kernel
set_option maxHeartbeats 4000000 in
set_option maxRecDepth 100000 in
theorem s_M_reckon (l : Launch) (d : gD) (b : Nat) (Y : gYt) (c : Nat × Nat) (F : gM) (k n : Nat) {S : gSt} (hi : hI d b Y c (F, k, n) S) (hA : gPsi S ≤ gAm) (h43 : sZ S 43 ≤ 404) (x y z v : Int32) : hMi l d b yX5_reckon cX5_reckon 5 .int 6 k n F [.ref (gO' Y 7), .int x, .int y, .int z, .int v] (fun r u => ∃ S', hI d b Y c u S' ∧ gKp Y F u.1 ∧ gSm S S' [38, 39, 40, 41, 42, 44, 45] [25, 26, 27, 28, 29, 30, 31, 32, 33, 34, 35, 36] ∧ sZ S' 43 ≤ 404 ∧ gPsi S' ≤ gPsi S ∧ sN S' 45 = sN S 45) := by
  intro mc ms
  refine hM_of2 rfl (nL := 5) (Nat.le_of_ble_eq_true rfl) ?_
  intro X hX hC hr ho; subst hX
  show hG X d b _ F k n 0 [some (.ref (gO' Y 7)), some (.int x), some (.int y), some (.int z), some (.int v)] []
  refine h_iload_n hC dX5_reckon_0 rfl ?_
  have T1 : hG X d b (MQ X.be (va_Qi (fun r u => ∃ S', hI d b Y c u S' ∧ gKp Y F u.1 ∧ gSm S S' [38, 39, 40, 41, 42, 44, 45] [25, 26, 27, 28, 29, 30, 31, 32, 33, 34, 35, 36] ∧ sZ S' 43 ≤ 404 ∧ gPsi S' ≤ gPsi S ∧ sN S' 45 = sN S 45) (hB d b) (fun q => b ≤ q)) X.ar X.st mc ms (fun q => b ≤ q)) F k n 40 [some (.ref (gO' Y 7)), some (.int x), some (.int y), some (.int z), some (.int v)] [] := by
    refine h_aload_n hC dX5_reckon_40 rfl ?_
    refine h_get hC fl_X5_12 (hi.1.o 7 (by decide)) rfl dX5_reckon_41 ?_
    refine h_iload_n hC dX5_reckon_44 rfl ?_
    refine h_if_lt (tgt := 56) hC dX5_reckon_45 (by decide) (fun c2 => ?_) (fun c2 => ?_)
    · refine h_iconst (v := 0) hC dX5_reckon_56 rfl ?_
      refine h_goto (tgt := 63) hC dX5_reckon_57 (by decide) ?_
      refine h_aload_n hC dX5_reckon_63 rfl ?_
      refine h_get hC fl_X5_42 (hi.1.o 7 (by decide)) rfl dX5_reckon_64 ?_
      refine h_aload_n hC dX5_reckon_67 rfl ?_
      refine h_get hC fl_X5_67 (hi.1.o 7 (by decide)) rfl dX5_reckon_68 ?_
      refine h_aload_n hC dX5_reckon_71 rfl ?_
      refine h_get hC fl_X5_45 (hi.1.o 7 (by decide)) rfl dX5_reckon_72 ?_
      refine g_callVi (As := [.int (sV S 30)]) hC rfl (hi.1.o 1 (by decide)) (p_P_frame X.la d b Y _ S hi.1 (sV S 30)) cl_X5_210 rfl rfl (Nat.le_of_ble_eq_true rfl) (h_fit0 hC hr ho (hFr_of (Nat.le_of_ble_eq_true rfl) (Nat.le_of_ble_eq_true rfl))) dX5_reckon_75 (fun r3 F4 p5 => ?_)
      obtain ⟨er3, eF4⟩ := p5; have eF4 := eF4.symm; subst eF4
      refine h_same hC ho ?_
      refine h_iadd hC dX5_reckon_78 ?_
      refine h_vi (fun x7 ex7 => ?_)
      refine h_aload_n hC dX5_reckon_79 rfl ?_
      refine h_get hC fl_X5_35 (hi.1.o 7 (by decide)) rfl dX5_reckon_80 ?_
      refine h_callVi (As := [.int 0, .int x7, .int (sV S 27)]) hC hr ho rfl (hi.1.o 10 (by decide)) (s_H_get X.la d b Y c _ _ _ hi (by omega) 0 x7 (sV S 27)) cl_X5_259 rfl rfl (Nat.le_of_ble_eq_true rfl) (hFr_of (Nat.le_of_ble_eq_true rfl) (Nat.le_of_ble_eq_true rfl)) dX5_reckon_83 (fun r11 u8 p9 o10 => ?_)
      obtain ⟨S12, I13, K14, s15, q16⟩ := p9
      have m17 : gSm S S12 [38, 39, 40, 41, 42, 44, 45] [25, 26, 27, 28, 29, 30, 31, 32, 33, 34, 35, 36] := gSm.wk s15 _ _ rfl rfl
      have NS12 : sN S12 45 = sN S 45 := s15.n 45 (by decide)
      have ZS12 : sZ S12 43 = sZ S 43 := s15.z 43 (by decide)
      exact h_iret hC hr o10 rfl rfl rfl ⟨S12, I13, K14, m17, by omega, by omega, by omega⟩ dX5_reckon_86
    · refine h_iload_n hC dX5_reckon_48 rfl ?_
      refine h_aload_n hC dX5_reckon_49 rfl ?_
      refine h_get hC fl_X5_35 (hi.1.o 7 (by decide)) rfl dX5_reckon_50 ?_
      refine h_icmp_lt (tgt := 60) hC dX5_reckon_53 (by decide) (fun c19 => ?_) (fun c19 => ?_)
      · refine h_iload_n hC dX5_reckon_60 rfl ?_
        refine h_iconst (v := 1) hC dX5_reckon_61 rfl ?_
        refine h_iadd hC dX5_reckon_62 ?_
        refine h_vi (fun x20 ex20 => ?_)
        refine h_aload_n hC dX5_reckon_63 rfl ?_
        refine h_get hC fl_X5_42 (hi.1.o 7 (by decide)) rfl dX5_reckon_64 ?_
        refine h_aload_n hC dX5_reckon_67 rfl ?_
        refine h_get hC fl_X5_67 (hi.1.o 7 (by decide)) rfl dX5_reckon_68 ?_
        refine h_aload_n hC dX5_reckon_71 rfl ?_
        refine h_get hC fl_X5_45 (hi.1.o 7 (by decide)) rfl dX5_reckon_72 ?_
        refine g_callVi (As := [.int (sV S 30)]) hC rfl (hi.1.o 1 (by decide)) (p_P_frame X.la d b Y _ S hi.1 (sV S 30)) cl_X5_210 rfl rfl (Nat.le_of_ble_eq_true rfl) (h_fit0 hC hr ho (hFr_of (Nat.le_of_ble_eq_true rfl) (Nat.le_of_ble_eq_true rfl))) dX5_reckon_75 (fun r21 F22 p23 => ?_)
        obtain ⟨er21, eF22⟩ := p23; have eF22 := eF22.symm; subst eF22
        refine h_same hC ho ?_
        refine h_iadd hC dX5_reckon_78 ?_
        refine h_vi (fun x25 ex25 => ?_)
        refine h_aload_n hC dX5_reckon_79 rfl ?_
        refine h_get hC fl_X5_35 (hi.1.o 7 (by decide)) rfl dX5_reckon_80 ?_
        refine h_callVi (As := [.int x20, .int x25, .int (sV S 27)]) hC hr ho rfl (hi.1.o 10 (by decide)) (s_H_get X.la d b Y c _ _ _ hi (by omega) x20 x25 (sV S 27)) cl_X5_259 rfl rfl (Nat.le_of_ble_eq_true rfl) (hFr_of (Nat.le_of_ble_eq_true rfl) (Nat.le_of_ble_eq_true rfl)) dX5_reckon_83 (fun r29 u26 p27 o28 => ?_)
        obtain ⟨S30, I31, K32, s33, q34⟩ := p27
        have m35 : gSm S S30 [38, 39, 40, 41, 42, 44, 45] [25, 26, 27, 28, 29, 30, 31, 32, 33, 34, 35, 36] := gSm.wk s33 _ _ rfl rfl
        have NS30 : sN S30 45 = sN S 45 := s33.n 45 (by decide)
        have ZS30 : sZ S30 43 = sZ S 43 := s33.z 43 (by decide)
        exact h_iret hC hr o28 rfl rfl rfl ⟨S30, I31, K32, m35, by omega, by omega, by omega⟩ dX5_reckon_86
      · refine h_iconst (v := 0) hC dX5_reckon_56 rfl ?_
        refine h_goto (tgt := 63) hC dX5_reckon_57 (by decide) ?_
        refine h_aload_n hC dX5_reckon_63 rfl ?_
        refine h_get hC fl_X5_42 (hi.1.o 7 (by decide)) rfl dX5_reckon_64 ?_
        refine h_aload_n hC dX5_reckon_67 rfl ?_
        refine h_get hC fl_X5_67 (hi.1.o 7 (by decide)) rfl dX5_reckon_68 ?_
        refine h_aload_n hC dX5_reckon_71 rfl ?_
        refine h_get hC fl_X5_45 (hi.1.o 7 (by decide)) rfl dX5_reckon_72 ?_
        refine g_callVi (As := [.int (sV S 30)]) hC rfl (hi.1.o 1 (by decide)) (p_P_frame X.la d b Y _ S hi.1 (sV S 30)) cl_X5_210 rfl rfl (Nat.le_of_ble_eq_true rfl) (h_fit0 hC hr ho (hFr_of (Nat.le_of_ble_eq_true rfl) (Nat.le_of_ble_eq_true rfl))) dX5_reckon_75 (fun r37 F38 p39 => ?_)
        obtain ⟨er37, eF38⟩ := p39; have eF38 := eF38.symm; subst eF38
        refine h_same hC ho ?_
        refine h_iadd hC dX5_reckon_78 ?_
        refine h_vi (fun x41 ex41 => ?_)
        refine h_aload_n hC dX5_reckon_79 rfl ?_
        refine h_get hC fl_X5_35 (hi.1.o 7 (by decide)) rfl dX5_reckon_80 ?_
        refine h_callVi (As := [.int 0, .int x41, .int (sV S 27)]) hC hr ho rfl (hi.1.o 10 (by decide)) (s_H_get X.la d b Y c _ _ _ hi (by omega) 0 x41 (sV S 27)) cl_X5_259 rfl rfl (Nat.le_of_ble_eq_true rfl) (hFr_of (Nat.le_of_ble_eq_true rfl) (Nat.le_of_ble_eq_true rfl)) dX5_reckon_83 (fun r45 u42 p43 o44 => ?_)
        obtain ⟨S46, I47, K48, s49, q50⟩ := p43
        have m51 : gSm S S46 [38, 39, 40, 41, 42, 44, 45] [25, 26, 27, 28, 29, 30, 31, 32, 33, 34, 35, 36] := gSm.wk s49 _ _ rfl rfl
        have NS46 : sN S46 45 = sN S 45 := s49.n 45 (by decide)
        have ZS46 : sZ S46 43 = sZ S 43 := s49.z 43 (by decide)
        exact h_iret hC hr o44 rfl rfl rfl ⟨S46, I47, K48, m51, by omega, by omega, by omega⟩ dX5_reckon_86
  have T53 : hG X d b (MQ X.be (va_Qi (fun r u => ∃ S', hI d b Y c u S' ∧ gKp Y F u.1 ∧ gSm S S' [38, 39, 40, 41, 42, 44, 45] [25, 26, 27, 28, 29, 30, 31, 32, 33, 34, 35, 36] ∧ sZ S' 43 ≤ 404 ∧ gPsi S' ≤ gPsi S ∧ sN S' 45 = sN S 45) (hB d b) (fun q => b ≤ q)) X.ar X.st mc ms (fun q => b ≤ q)) F k n 87 [some (.ref (gO' Y 7)), some (.int x), some (.int y), some (.int z), some (.int v)] [] := by
    refine h_iload_n hC dX5_reckon_87 rfl ?_
    refine h_if_eq (tgt := 107) hC dX5_reckon_88 (by decide) (fun c54 => ?_) (fun c54 => ?_)
    · refine h_iconst (v := 0) hC dX5_reckon_107 rfl ?_
      exact h_iret hC hr ho rfl rfl rfl ⟨S, hi, gKp.rf, gSm.rf, h43, Nat.le_refl _, rfl⟩ dX5_reckon_108
    · refine h_aload_n hC dX5_reckon_91 rfl ?_
      refine h_get hC fl_X5_12 (hi.1.o 7 (by decide)) rfl dX5_reckon_92 ?_
      refine h_iload_n hC dX5_reckon_95 rfl ?_
      refine h_callVi (As := [.int y]) hC hr ho rfl (hi.1.o 10 (by decide)) (s_H_free X.la d b Y c _ _ _ hi y) cl_X5_261 rfl rfl (Nat.le_of_ble_eq_true rfl) (hFr_of (Nat.le_of_ble_eq_true rfl) (Nat.le_of_ble_eq_true rfl)) dX5_reckon_96 (fun r58 u55 p56 o57 => ?_)
      obtain ⟨S59, I60, K61, s62, q63⟩ := p56
      have m64 : gSm S S59 [38, 39, 40, 41, 42, 44, 45] [25, 26, 27, 28, 29, 30, 31, 32, 33, 34, 35, 36] := gSm.wk s62 _ _ rfl rfl
      have NS59 : sN S59 45 = sN S 45 := s62.n 45 (by decide)
      have ZS59 : sZ S59 43 = sZ S 43 := s62.z 43 (by decide)
      obtain ⟨aq63, bq63⟩ := q63
      refine h_if_ne (tgt := 107) hC dX5_reckon_99 (by decide) (fun c66 => ?_) (fun c66 => ?_)
      · refine h_iconst (v := 0) hC dX5_reckon_107 rfl ?_
        exact h_iret hC hr o57 rfl rfl rfl ⟨S59, I60, K61, m64, by omega, by omega, by omega⟩ dX5_reckon_108
      · refine h_aload_n hC dX5_reckon_102 rfl ?_
        refine h_iconst (v := 2) hC dX5_reckon_103 rfl ?_
        refine h_callVv (As := [.int 2]) hC hr o57 rfl (I60.1.o 7 (by decide)) (s_M_fail X.la d b Y c _ _ _ I60 (by omega) (by omega) 2) cl_X5_137 rfl rfl (Nat.le_of_ble_eq_true rfl) (hFr_of (Nat.le_of_ble_eq_true rfl) (Nat.le_of_ble_eq_true rfl)) dX5_reckon_104 (fun u67 p68 o69 => ?_)
        obtain ⟨S71, I72, K73, s74, q75⟩ := p68
        have m76 : gSm S S71 [38, 39, 40, 41, 42, 44, 45] [25, 26, 27, 28, 29, 30, 31, 32, 33, 34, 35, 36] := m64.tr s74 _ _ rfl rfl
        have K77 := K61.tr K73
        have ZS71 : sZ S71 43 = sZ S59 43 := s74.z 43 (by decide)
        obtain ⟨aq75, bq75, nq75⟩ := q75
        refine h_iconst (v := 0) hC dX5_reckon_107 rfl ?_
        exact h_iret hC hr o69 rfl rfl rfl ⟨S71, I72, K77, m76, by omega, by omega, by omega⟩ dX5_reckon_108
  have T78 : hG X d b (MQ X.be (va_Qi (fun r u => ∃ S', hI d b Y c u S' ∧ gKp Y F u.1 ∧ gSm S S' [38, 39, 40, 41, 42, 44, 45] [25, 26, 27, 28, 29, 30, 31, 32, 33, 34, 35, 36] ∧ sZ S' 43 ≤ 404 ∧ gPsi S' ≤ gPsi S ∧ sN S' 45 = sN S 45) (hB d b) (fun q => b ≤ q)) X.ar X.st mc ms (fun q => b ≤ q)) F k n 109 [some (.ref (gO' Y 7)), some (.int x), some (.int y), some (.int z), some (.int v)] [] := by
    refine h_iload hC dX5_reckon_109 rfl ?_
    refine h_if_ne (tgt := 121) hC dX5_reckon_111 (by decide) (fun c79 => ?_) (fun c79 => ?_)
    · refine h_iload_n hC dX5_reckon_121 rfl ?_
      refine h_i2l hC dX5_reckon_122 ?_
      refine h_vl (fun x80 ex80 => ?_)
      refine h_iload_n hC dX5_reckon_123 rfl ?_
      refine h_i2l hC dX5_reckon_124 ?_
      refine h_vl (fun x81 ex81 => ?_)
      refine h_lmul hC dX5_reckon_125 ?_
      refine h_vl (fun x82 ex82 => ?_)
      refine h_iload hC dX5_reckon_126 rfl ?_
      refine h_i2l hC dX5_reckon_128 ?_
      refine h_vl (fun x83 ex83 => ?_)
      refine h_ldiv hC dX5_reckon_129 (fun q => c79 (i2l_z (ex83.symm.trans q))) ?_
      refine h_vl (fun x84 ex84 => ?_)
      refine h_l2i hC dX5_reckon_130 ?_
      refine h_vi (fun x85 ex85 => ?_)
      exact h_iret hC hr ho rfl rfl rfl ⟨S, hi, gKp.rf, gSm.rf, h43, Nat.le_refl _, rfl⟩ dX5_reckon_131
    · refine h_aload_n hC dX5_reckon_114 rfl ?_
      refine h_iconst (v := 3) hC dX5_reckon_115 rfl ?_
      refine h_callVv (As := [.int 3]) hC hr ho rfl (hi.1.o 7 (by decide)) (s_M_fail X.la d b Y c _ _ _ hi (by omega) (by omega) 3) cl_X5_137 rfl rfl (Nat.le_of_ble_eq_true rfl) (hFr_of (Nat.le_of_ble_eq_true rfl) (Nat.le_of_ble_eq_true rfl)) dX5_reckon_116 (fun u86 p87 o88 => ?_)
      obtain ⟨S90, I91, K92, s93, q94⟩ := p87
      have m95 : gSm S S90 [38, 39, 40, 41, 42, 44, 45] [25, 26, 27, 28, 29, 30, 31, 32, 33, 34, 35, 36] := gSm.wk s93 _ _ rfl rfl
      have ZS90 : sZ S90 43 = sZ S 43 := s93.z 43 (by decide)
      obtain ⟨aq94, bq94, nq94⟩ := q94
      refine h_iconst (v := 0) hC dX5_reckon_119 rfl ?_
      exact h_iret hC hr o88 rfl rfl rfl ⟨S90, I91, K92, m95, by omega, by omega, by omega⟩ dX5_reckon_120
  have T97 : hG X d b (MQ X.be (va_Qi (fun r u => ∃ S', hI d b Y c u S' ∧ gKp Y F u.1 ∧ gSm S S' [38, 39, 40, 41, 42, 44, 45] [25, 26, 27, 28, 29, 30, 31, 32, 33, 34, 35, 36] ∧ sZ S' 43 ≤ 404 ∧ gPsi S' ≤ gPsi S ∧ sN S' 45 = sN S 45) (hB d b) (fun q => b ≤ q)) X.ar X.st mc ms (fun q => b ≤ q)) F k n 132 [some (.ref (gO' Y 7)), some (.int x), some (.int y), some (.int z), some (.int v)] [] := by
    refine h_aload_n hC dX5_reckon_132 rfl ?_
    refine h_get hC fl_X5_71 (hi.1.o 7 (by decide)) rfl dX5_reckon_133 ?_
    refine h_iload_n hC dX5_reckon_136 rfl ?_
    refine h_iload_n hC dX5_reckon_137 rfl ?_
    refine h_callVv (As := [.int y, .int z]) hC hr ho rfl (hi.1.o 6 (by decide)) (s_C_writeNumber X.la d b Y c _ _ _ hi (by omega) y z) cl_X5_235 rfl rfl (Nat.le_of_ble_eq_true rfl) (hFr_of (Nat.le_of_ble_eq_true rfl) (Nat.le_of_ble_eq_true rfl)) dX5_reckon_138 (fun u98 p99 o100 => ?_)
    obtain ⟨S102, I103, K104, s105, q106⟩ := p99
    have m107 : gSm S S102 [38, 39, 40, 41, 42, 44, 45] [25, 26, 27, 28, 29, 30, 31, 32, 33, 34, 35, 36] := gSm.wk s105 _ _ rfl rfl
    have NS102 : sN S102 45 = sN S 45 := s105.n 45 (by decide)
    have ZS102 : sZ S102 43 = sZ S 43 := s105.z 43 (by decide)
    refine h_iconst (v := 0) hC dX5_reckon_141 rfl ?_
    exact h_iret hC hr o100 rfl rfl rfl ⟨S102, I103, K104, m107, by omega, by omega, by omega⟩ dX5_reckon_142
  have T109 : hG X d b (MQ X.be (va_Qi (fun r u => ∃ S', hI d b Y c u S' ∧ gKp Y F u.1 ∧ gSm S S' [38, 39, 40, 41, 42, 44, 45] [25, 26, 27, 28, 29, 30, 31, 32, 33, 34, 35, 36] ∧ sZ S' 43 ≤ 404 ∧ gPsi S' ≤ gPsi S ∧ sN S' 45 = sN S 45) (hB d b) (fun q => b ≤ q)) X.ar X.st mc ms (fun q => b ≤ q)) F k n 143 [some (.ref (gO' Y 7)), some (.int x), some (.int y), some (.int z), some (.int v)] [] := by
    refine h_aload_n hC dX5_reckon_143 rfl ?_
    refine h_get hC fl_X5_71 (hi.1.o 7 (by decide)) rfl dX5_reckon_144 ?_
    refine h_iload_n hC dX5_reckon_147 rfl ?_
    refine h_iload_n hC dX5_reckon_148 rfl ?_
    refine h_callVv (As := [.int y, .int z]) hC hr ho rfl (hi.1.o 6 (by decide)) (s_C_writeHex X.la d b Y c _ _ _ hi (by omega) y z) cl_X5_264 rfl rfl (Nat.le_of_ble_eq_true rfl) (hFr_of (Nat.le_of_ble_eq_true rfl) (Nat.le_of_ble_eq_true rfl)) dX5_reckon_149 (fun u110 p111 o112 => ?_)
    obtain ⟨S114, I115, K116, s117, q118⟩ := p111
    have m119 : gSm S S114 [38, 39, 40, 41, 42, 44, 45] [25, 26, 27, 28, 29, 30, 31, 32, 33, 34, 35, 36] := gSm.wk s117 _ _ rfl rfl
    have NS114 : sN S114 45 = sN S 45 := s117.n 45 (by decide)
    have ZS114 : sZ S114 43 = sZ S 43 := s117.z 43 (by decide)
    refine h_iconst (v := 0) hC dX5_reckon_152 rfl ?_
    exact h_iret hC hr o112 rfl rfl rfl ⟨S114, I115, K116, m119, by omega, by omega, by omega⟩ dX5_reckon_153
  have T121 : hG X d b (MQ X.be (va_Qi (fun r u => ∃ S', hI d b Y c u S' ∧ gKp Y F u.1 ∧ gSm S S' [38, 39, 40, 41, 42, 44, 45] [25, 26, 27, 28, 29, 30, 31, 32, 33, 34, 35, 36] ∧ sZ S' 43 ≤ 404 ∧ gPsi S' ≤ gPsi S ∧ sN S' 45 = sN S 45) (hB d b) (fun q => b ≤ q)) X.ar X.st mc ms (fun q => b ≤ q)) F k n 154 [some (.ref (gO' Y 7)), some (.int x), some (.int y), some (.int z), some (.int v)] [] := by
    refine h_aload_n hC dX5_reckon_154 rfl ?_
    refine h_get hC fl_X5_71 (hi.1.o 7 (by decide)) rfl dX5_reckon_155 ?_
    refine h_callVi (As := []) hC hr ho rfl (hi.1.o 6 (by decide)) (s_C_readNumber X.la d b Y c _ _ _ hi ) cl_X5_267 rfl rfl (Nat.le_of_ble_eq_true rfl) (hFr_of (Nat.le_of_ble_eq_true rfl) (Nat.le_of_ble_eq_true rfl)) dX5_reckon_158 (fun r125 u122 p123 o124 => ?_)
    obtain ⟨S126, I127, K128, s129, q130⟩ := p123
    have m131 : gSm S S126 [38, 39, 40, 41, 42, 44, 45] [25, 26, 27, 28, 29, 30, 31, 32, 33, 34, 35, 36] := gSm.wk s129 _ _ rfl rfl
    have NS126 : sN S126 45 = sN S 45 := s129.n 45 (by decide)
    have ZS126 : sZ S126 43 = sZ S 43 := s129.z 43 (by decide)
    exact h_iret hC hr o124 rfl rfl rfl ⟨S126, I127, K128, m131, by omega, by omega, by omega⟩ dX5_reckon_161
  exact h_tsw hC dX5_reckon_1 (by decide) (fun tgt ht => (by obtain rfl : tgt = 154 := (by omega); exact T121)) (by decide) (by decide) (List.forall_mem_cons.mpr ⟨fun (tgt : Nat) (ht : ((1 : Nat) : Int) + (39 : Int) = (tgt : Int)) => (by obtain rfl : tgt = 40 := (by omega); exact T1), List.forall_mem_cons.mpr ⟨fun (tgt : Nat) (ht : ((1 : Nat) : Int) + (86 : Int) = (tgt : Int)) => (by obtain rfl : tgt = 87 := (by omega); exact T53), List.forall_mem_cons.mpr ⟨fun (tgt : Nat) (ht : ((1 : Nat) : Int) + (153 : Int) = (tgt : Int)) => (by obtain rfl : tgt = 154 := (by omega); exact T121), List.forall_mem_cons.mpr ⟨fun (tgt : Nat) (ht : ((1 : Nat) : Int) + (108 : Int) = (tgt : Int)) => (by obtain rfl : tgt = 109 := (by omega); exact T78), List.forall_mem_cons.mpr ⟨fun (tgt : Nat) (ht : ((1 : Nat) : Int) + (131 : Int) = (tgt : Int)) => (by obtain rfl : tgt = 132 := (by omega); exact T97), List.forall_mem_cons.mpr ⟨fun (tgt : Nat) (ht : ((1 : Nat) : Int) + (142 : Int) = (tgt : Int)) => (by obtain rfl : tgt = 143 := (by omega); exact T109), fun _ h => nomatch h⟩⟩⟩⟩⟩⟩)
