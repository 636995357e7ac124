theorem kw_385 : Cond.fieldLink RJ0 38 "java/lang/String" "COMPACT_STRINGS" "Z" ∈ gWs := List.mem_filter.mpr ⟨gMt1 _ (List.mem_of_getElem? (i := 148) rfl), rfl⟩
theorem kw_2964 : Cond.fieldLink RJ0 15 "java/lang/String" "coder" "B" ∈ gWs := List.mem_filter.mpr ⟨gMt12 _ (List.mem_of_getElem? (i := 87) rfl), rfl⟩
theorem kw_2963 : Cond.fieldLink RJ0 9 "java/lang/String" "value" "[B" ∈ gWs := List.mem_filter.mpr ⟨gMt12 _ (List.mem_of_getElem? (i := 86) rfl), rfl⟩
theorem kw_243 : Cond.initialized RJ0 ∈ gWs := List.mem_filter.mpr ⟨gMt1 _ (List.mem_of_getElem? (i := 6) rfl), rfl⟩
theorem kw_384 : Cond.code yJ0_coder_7d493 cJ0_coder_7d493 1 (some .byte) ∈ gWs := List.mem_filter.mpr ⟨gMt1 _ (List.mem_of_getElem? (i := 147) rfl), rfl⟩
theorem kw_381 : Cond.methodLink RJ0 335 yJ0_coder_7d493 ∈ gWs := List.mem_filter.mpr ⟨gMt1 _ (List.mem_of_getElem? (i := 144) rfl), rfl⟩
theorem kw_382 : Cond.instanceMethod yJ0_coder_7d493 ∈ gWs := List.mem_filter.mpr ⟨gMt1 _ (List.mem_of_getElem? (i := 145) rfl), rfl⟩
theorem kw_383 : Cond.selects RJ0 yJ0_coder_7d493 yJ0_coder_7d493 ∈ gWs := List.mem_filter.mpr ⟨gMt1 _ (List.mem_of_getElem? (i := 146) rfl), rfl⟩
theorem cl_J0_335 : gCV RJ0 335 yJ0_coder_7d493 cJ0_coder_7d493 1 (some .byte) 0 := ⟨g_mk [.methodLink RJ0 335 yJ0_coder_7d493, .instanceMethod yJ0_coder_7d493, .selects yJ0_coder_7d493.cls yJ0_coder_7d493 yJ0_coder_7d493, .initialized yJ0_coder_7d493.cls] (gWs_all kw_384) (List.forall_mem_cons.mpr ⟨kw_381, List.forall_mem_cons.mpr ⟨kw_382, List.forall_mem_cons.mpr ⟨kw_383, List.forall_mem_cons.mpr ⟨kw_243, fun _ h => nomatch h⟩⟩⟩⟩), rfl, by decide +kernel, by decide +kernel, by decide +kernel⟩
theorem kw_401 : Cond.fieldLink RJ0 1053 "jdk/internal/util/Preconditions" "SIOOBE_FORMATTER" "Ljava/util/function/BiFunction;" ∈ gWs := List.mem_filter.mpr ⟨gMt1 _ (List.mem_of_getElem? (i := 164) rfl), rfl⟩
theorem kw_245 : Cond.initialized RJ3 ∈ gWs := List.mem_filter.mpr ⟨gMt1 _ (List.mem_of_getElem? (i := 8) rfl), rfl⟩
theorem kw_405 : Cond.code yJ3_checkIndex_8e157 cJ3_checkIndex_8e157 3 (some .int) ∈ gWs := List.mem_filter.mpr ⟨gMt1 _ (List.mem_of_getElem? (i := 168) rfl), rfl⟩
theorem kw_403 : Cond.methodLink RJ0 1059 yJ3_checkIndex_8e157 ∈ gWs := List.mem_filter.mpr ⟨gMt1 _ (List.mem_of_getElem? (i := 166) rfl), rfl⟩
theorem kw_404 : Cond.static yJ3_checkIndex_8e157 ∈ gWs := List.mem_filter.mpr ⟨gMt1 _ (List.mem_of_getElem? (i := 167) rfl), rfl⟩
theorem cl_J0_1059 : gCS RJ0 1059 yJ3_checkIndex_8e157 cJ3_checkIndex_8e157 3 (some .int) 3 := ⟨g_mk [.methodLink RJ0 1059 yJ3_checkIndex_8e157, .static yJ3_checkIndex_8e157, .initialized yJ3_checkIndex_8e157.cls] (gWs_all kw_405) (List.forall_mem_cons.mpr ⟨kw_403, List.forall_mem_cons.mpr ⟨kw_404, List.forall_mem_cons.mpr ⟨kw_245, fun _ h => nomatch h⟩⟩⟩), ⟨by decide +kernel, by decide +kernel, by decide +kernel⟩⟩
theorem kw_400 : Cond.code yJ0_checkIndex_df160 cJ0_checkIndex_df160 2 none ∈ gWs := List.mem_filter.mpr ⟨gMt1 _ (List.mem_of_getElem? (i := 163) rfl), rfl⟩
theorem kw_398 : Cond.methodLink RJ1 9 yJ0_checkIndex_df160 ∈ gWs := List.mem_filter.mpr ⟨gMt1 _ (List.mem_of_getElem? (i := 161) rfl), rfl⟩
theorem kw_399 : Cond.static yJ0_checkIndex_df160 ∈ gWs := List.mem_filter.mpr ⟨gMt1 _ (List.mem_of_getElem? (i := 162) rfl), rfl⟩
theorem cl_J1_9 : gCS RJ1 9 yJ0_checkIndex_df160 cJ0_checkIndex_df160 2 none 2 := ⟨g_mk [.methodLink RJ1 9 yJ0_checkIndex_df160, .static yJ0_checkIndex_df160, .initialized yJ0_checkIndex_df160.cls] (gWs_all kw_400) (List.forall_mem_cons.mpr ⟨kw_398, List.forall_mem_cons.mpr ⟨kw_399, List.forall_mem_cons.mpr ⟨kw_243, fun _ h => nomatch h⟩⟩⟩), ⟨by decide +kernel, by decide +kernel, by decide +kernel⟩⟩
theorem kw_394 : Cond.code yJ0_isLatin1_aae02 cJ0_isLatin1_aae02 1 (some .boolean) ∈ gWs := List.mem_filter.mpr ⟨gMt1 _ (List.mem_of_getElem? (i := 157) rfl), rfl⟩
theorem kw_391 : Cond.methodLink RJ0 492 yJ0_isLatin1_aae02 ∈ gWs := List.mem_filter.mpr ⟨gMt1 _ (List.mem_of_getElem? (i := 154) rfl), rfl⟩
theorem kw_392 : Cond.instanceMethod yJ0_isLatin1_aae02 ∈ gWs := List.mem_filter.mpr ⟨gMt1 _ (List.mem_of_getElem? (i := 155) rfl), rfl⟩
theorem kw_393 : Cond.selects RJ0 yJ0_isLatin1_aae02 yJ0_isLatin1_aae02 ∈ gWs := List.mem_filter.mpr ⟨gMt1 _ (List.mem_of_getElem? (i := 156) rfl), rfl⟩
theorem cl_J0_492 : gCV RJ0 492 yJ0_isLatin1_aae02 cJ0_isLatin1_aae02 1 (some .boolean) 0 := ⟨g_mk [.methodLink RJ0 492 yJ0_isLatin1_aae02, .instanceMethod yJ0_isLatin1_aae02, .selects yJ0_isLatin1_aae02.cls yJ0_isLatin1_aae02 yJ0_isLatin1_aae02, .initialized yJ0_isLatin1_aae02.cls] (gWs_all kw_394) (List.forall_mem_cons.mpr ⟨kw_391, List.forall_mem_cons.mpr ⟨kw_392, List.forall_mem_cons.mpr ⟨kw_393, List.forall_mem_cons.mpr ⟨kw_243, fun _ h => nomatch h⟩⟩⟩⟩), rfl, by decide +kernel, by decide +kernel, by decide +kernel⟩
theorem kw_244 : Cond.initialized RJ1 ∈ gWs := List.mem_filter.mpr ⟨gMt1 _ (List.mem_of_getElem? (i := 7) rfl), rfl⟩
theorem kw_397 : Cond.code yJ1_charAt_3b067 cJ1_charAt_3b067 2 (some .char) ∈ gWs := List.mem_filter.mpr ⟨gMt1 _ (List.mem_of_getElem? (i := 160) rfl), rfl⟩
theorem kw_395 : Cond.methodLink RJ0 495 yJ1_charAt_3b067 ∈ gWs := List.mem_filter.mpr ⟨gMt1 _ (List.mem_of_getElem? (i := 158) rfl), rfl⟩
theorem kw_396 : Cond.static yJ1_charAt_3b067 ∈ gWs := List.mem_filter.mpr ⟨gMt1 _ (List.mem_of_getElem? (i := 159) rfl), rfl⟩
theorem cl_J0_495 : gCS RJ0 495 yJ1_charAt_3b067 cJ1_charAt_3b067 2 (some .char) 2 := ⟨g_mk [.methodLink RJ0 495 yJ1_charAt_3b067, .static yJ1_charAt_3b067, .initialized yJ1_charAt_3b067.cls] (gWs_all kw_397) (List.forall_mem_cons.mpr ⟨kw_395, List.forall_mem_cons.mpr ⟨kw_396, List.forall_mem_cons.mpr ⟨kw_244, fun _ h => nomatch h⟩⟩⟩), ⟨by decide +kernel, by decide +kernel, by decide +kernel⟩⟩
section G6
variable {own : String} {cc : ByteArray} {nL : Nat} {rt : Option FieldType} {nm : String} {R : Room} {d : gD} {b : Nat} {X : gX} {Q : State → Prop} {F : gM} {k n pc : Nat} {lv : List (Option Value)} {st : List Value} {mc ms : Nat}
theorem g_ishr (hC : gC own cc nL rt nm R d b X) {x y : Int32} (hdg : decode cc pc = .ok (.ishr, 1)) (kk : gG X d b Q F k n (pc + 1) lv (.int (x >>> (y &&& 31)) :: st)) : gG X d b Q F k n pc lv (.int y :: .int x :: st) := fun H locs ls hH hS hL => lv_ishr hC.hx hC.hb hdg (kk H locs ls hH hS hL)
theorem g_ishl (hC : gC own cc nL rt nm R d b X) {x y : Int32} (hdg : decode cc pc = .ok (.ishl, 1)) (kk : gG X d b Q F k n (pc + 1) lv (.int (x <<< (y &&& 31)) :: st)) : gG X d b Q F k n pc lv (.int y :: .int x :: st) := fun H locs ls hH hS hL => lv_ishl hC.hx hC.hb hdg (kk H locs ls hH hS hL)
theorem g_i2c (hC : gC own cc nL rt nm R d b X) {x : Int32} (hdg : decode cc pc = .ok (.i2c, 1)) (kk : gG X d b Q F k n (pc + 1) lv (.int (x.toUInt32 % 65536).toInt32 :: st)) : gG X d b Q F k n pc lv (.int x :: st) := fun H locs ls hH hS hL => lv_i2c hC.hx hC.hb hdg rfl (kk H locs ls hH hS hL)
abbrev gSa (d : gD) : Nat → Nat := d.2.2.1
abbrev gSb (d : gD) : Nat → Nat := d.2.2.2
theorem g_sval (hC : gC own cc nL rt nm R d b X) {i idx : Nat} (hi : i < 5) (hw : Cond.fieldLink own idx "java/lang/String" "value" "[B" ∈ gWs) (hdg : decode cc pc = .ok (.getfield idx, 3)) (kk : gG X d b Q F k n (pc + 3) lv (.ref (gSb d i) :: st)) : gG X d b Q F k n pc lv (.ref (gSa d i) :: st) := fun H locs ls hH hS hL => vk_getf hC.hx hC.hb (hC.hv.2.2.2.2.1.1 i hi).2.2.1 hS hC.how (hC.hts _ hw) (fun _ h => h) hdg (kk H locs ls hH hS hL)
theorem g_scod (hC : gC own cc nL rt nm R d b X) {i idx : Nat} (hi : i < 5) (hw : Cond.fieldLink own idx "java/lang/String" "coder" "B" ∈ gWs) (hdg : decode cc pc = .ok (.getfield idx, 3)) (kk : gG X d b Q F k n (pc + 3) lv (.int 0 :: st)) : gG X d b Q F k n pc lv (.ref (gSa d i) :: st) := fun H locs ls hH hS hL => vk_getf hC.hx hC.hb (hC.hv.2.2.2.2.1.1 i hi).2.1 hS hC.how (hC.hts _ hw) (fun _ h => h) hdg (kk H locs ls hH hS hL)
theorem g_slen (hC : gC own cc nL rt nm R d b X) {i : Nat} (hi : i < 5) (hdg : decode cc pc = .ok (.arraylength, 1)) (kk : gG X d b Q F k n (pc + 1) lv (.int (nI (gLen.getD i 0)) :: st)) : gG X d b Q F k n pc lv (.ref (gSb d i) :: st) := fun H locs ls hH hS hL => va_tlen hC.hx hC.hb (hC.hv.2.2.2.2.1.1 i hi).2.2.2 hS rfl hdg (kk H locs ls hH hS hL)
theorem g_sald (hC : gC own cc nL rt nm R d b X) {i : Nat} {j : Int32} (hi : i < 5) (hin : vp_in j (gLen.getD i 0)) (hdg : decode cc pc = .ok (.baload, 1)) (kk : gG X d b Q F k n (pc + 1) lv (.int ((gByt.getD i []).getD j.toNatClampNeg 0) :: st)) : gG X d b Q F k n pc lv (.int j :: .ref (gSb d i) :: st) := fun H locs ls hH hS hL => va_tb hC.hx hC.hb (hC.hv.2.2.2.2.1.1 i hi).2.2.2 hS hin rfl hdg (kk H locs ls hH hS hL)
theorem g_scomp (hC : gC own cc nL rt nm R d b X) {idx : Nat} (hw : Cond.fieldLink own idx "java/lang/String" "COMPACT_STRINGS" "Z" ∈ gWs) (hdg : decode cc pc = .ok (.getstatic idx, 3)) (kk : gG X d b Q F k n (pc + 3) lv (.int 1 :: st)) : gG X d b Q F k n pc lv st := fun H locs ls hH hS hL => va_gets hC.hx hC.hb hC.hv.2.2.2.2.2.2.1 hS hC.how (hC.hts _ hw) (fun _ h => h) hdg (kk H locs ls hH hS hL)
theorem g_sfmt (hC : gC own cc nL rt nm R d b X) {idx : Nat} (hw : Cond.fieldLink own idx "jdk/internal/util/Preconditions" "SIOOBE_FORMATTER" "Ljava/util/function/BiFunction;" ∈ gWs) (hdg : decode cc pc = .ok (.getstatic idx, 3)) (kk : ∀ fo : Option Nat, gG X d b Q F k n (pc + 3) lv (va_rf fo :: st)) : gG X d b Q F k n pc lv st := fun H locs ls hH hS hL => by
  obtain ⟨fo, hz⟩ := hC.hv.2.2.2.2.2.2.2.2.2.2.2
  exact va_gets hC.hx hC.hb hz hS hC.how (hC.hts _ hw) (fun _ h => h) hdg (kk fo H locs ls hH hS hL)
theorem g_ldcS (hC : gC own cc nL rt nm R d b X) {i idx : Nat} {tx : String} (hi : gSr[i]? = some (own, idx, tx)) (hdg : decode cc pc = .ok (.ldc idx, 2)) (kk : gG X d b Q F k n (pc + 2) lv (.ref (gSa d i) :: st)) : gG X d b Q F k n pc lv st := fun H locs ls hH hS hL => va_ldcS hC.hx hC.hb hC.how (hC.hv.2.2.2.2.2.1 i _ hi) hdg (kk H locs ls hH hS hL)
/-- a call of a String constant's own method -/
theorem g_callTi {rt0 : FieldType} (hC : gC own cc nL rt nm R d b X) {y : MethodName} {c2 : ByteArray} {mL nA lvl idx i : Nat} {As : List Value} {post : Int32 → gM → Prop} (hi : i < 5) (hy : y.cls = "java/lang/String") (hm : gMi X.la d b y c2 mL rt0 lvl mc ms F (.ref (gSa d i) :: As) post) (hl : gCV own idx y c2 mL (some rt0) nA) (hA : As.length = nA) (hn : nL = lv.length) (hr : (st.map fun v => v.category).sum ≤ 8) (hf : gFit R lvl mL k n mc ms) (hdg : decode cc pc = .ok (.invokevirtual idx, 3)) (kk : ∀ (r : Int32) (F' : gM), post r F' → gG X d b Q F' (k + mc) (n + ms) (pc + 3) lv (.int r :: st)) : gG X d b Q F k n pc lv (As.reverse ++ .ref (gSa d i) :: st) := fun H locs ls hH hS hL => by
  exact va_calli (va_runV (As := As) (rest := st) ⟨hC.hx, hC.hb, hC.hml, hC.how, hC.hts⟩ hm (cwV nA hC.hts hl.1 rfl rfl rfl hl.2 (by rw [hC.hR]; exact hf.1)) ⟨gB.blind, by rw [hy]; exact vk_recv hC.hv.2.2.2.2.1 hi hS, fun U hU hW => ⟨rfl, gE_B hC hH hS hU hW⟩⟩ rfl hA (hL.1.trans hn.symm) rfl (lv_room hr) hdg (by rw [hC.hR]; exact hf.2)) hS (fun q _ h => h) (fun q h => h) (fun r u t H1 locs1 ht hvm hp hB hz hk1 hS1 => kk r u hp H1 locs1 ls (by rw [← ht]; exact hB.2) hS1 hL)
end G6
theorem dJ0_coder_7d493_0 : decode cJ0_coder_7d493 0 = .ok (.getstatic 38, 3) := by decide +kernel
theorem dJ0_coder_7d493_3 : decode cJ0_coder_7d493 3 = .ok (.ifCond .eq 10, 3) := by decide +kernel
theorem dJ0_coder_7d493_6 : decode cJ0_coder_7d493 6 = .ok (.aload_n 0, 1) := by decide +kernel
theorem dJ0_coder_7d493_7 : decode cJ0_coder_7d493 7 = .ok (.getfield 15, 3) := by decide +kernel
theorem dJ0_coder_7d493_10 : decode cJ0_coder_7d493 10 = .ok (.goto 4, 3) := by decide +kernel
theorem dJ0_coder_7d493_13 : decode cJ0_coder_7d493 13 = .ok (.iconst 1, 1) := by decide +kernel
theorem dJ0_coder_7d493_14 : decode cJ0_coder_7d493 14 = .ok (.ireturn, 1) := by decide +kernel
set_option maxHeartbeats 4000000 in
set_option maxRecDepth 100000 in
theorem c_coder (l : Launch) (d : gD) (b : Nat) (F : gM) (i : Nat) (hi : i < 5) : gMi l d b yJ0_coder_7d493 cJ0_coder_7d493 1 .byte 0 0 0 F [.ref (gSa d i)] (fun r F' => r = 0 ∧ F' = F) := by
  refine gM_of2 rfl (nL := 1) (Nat.le_of_ble_eq_true rfl) ?_
  intro X hX hC; subst hX
  show gG X d b _ F 0 0 0 [some (.ref (gSa d i))] []
  refine g_scomp hC kw_385 dJ0_coder_7d493_0 ?_
  refine g_if_eq (tgt := 13) hC dJ0_coder_7d493_3 (by decide) (fun c1 => ?_) (fun c1 => ?_)
  · exact absurd c1 (by decide)
  · refine g_aload_n hC dJ0_coder_7d493_6 rfl ?_
    refine g_scod hC hi kw_2964 dJ0_coder_7d493_7 ?_
    refine g_goto (tgt := 14) hC dJ0_coder_7d493_10 (by decide) ?_
    exact g_iret hC rfl ⟨rfl, rfl⟩ (by first | exact Nat.le_of_ble_eq_true rfl | omega | (simp only [gR]; omega)) (by first | exact Nat.le_of_ble_eq_true rfl | omega | (simp only [gR]; omega)) dJ0_coder_7d493_14
theorem dJ0_isLatin1_aae02_0 : decode cJ0_isLatin1_aae02 0 = .ok (.getstatic 38, 3) := by decide +kernel
theorem dJ0_isLatin1_aae02_3 : decode cJ0_isLatin1_aae02 3 = .ok (.ifCond .eq 14, 3) := by decide +kernel
theorem dJ0_isLatin1_aae02_6 : decode cJ0_isLatin1_aae02 6 = .ok (.aload_n 0, 1) := by decide +kernel
theorem dJ0_isLatin1_aae02_7 : decode cJ0_isLatin1_aae02 7 = .ok (.getfield 15, 3) := by decide +kernel
theorem dJ0_isLatin1_aae02_10 : decode cJ0_isLatin1_aae02 10 = .ok (.ifCond .ne 7, 3) := by decide +kernel
theorem dJ0_isLatin1_aae02_13 : decode cJ0_isLatin1_aae02 13 = .ok (.iconst 1, 1) := by decide +kernel
theorem dJ0_isLatin1_aae02_14 : decode cJ0_isLatin1_aae02 14 = .ok (.goto 4, 3) := by decide +kernel
theorem dJ0_isLatin1_aae02_17 : decode cJ0_isLatin1_aae02 17 = .ok (.iconst 0, 1) := by decide +kernel
theorem dJ0_isLatin1_aae02_18 : decode cJ0_isLatin1_aae02 18 = .ok (.ireturn, 1) := by decide +kernel
set_option maxHeartbeats 4000000 in
set_option maxRecDepth 100000 in
theorem c_isLatin1 (l : Launch) (d : gD) (b : Nat) (F : gM) (i : Nat) (hi : i < 5) : gMi l d b yJ0_isLatin1_aae02 cJ0_isLatin1_aae02 1 .boolean 0 0 0 F [.ref (gSa d i)] (fun r F' => r = 1 ∧ F' = F) := by
  refine gM_of2 rfl (nL := 1) (Nat.le_of_ble_eq_true rfl) ?_
  intro X hX hC; subst hX
  show gG X d b _ F 0 0 0 [some (.ref (gSa d i))] []
  refine g_scomp hC kw_385 dJ0_isLatin1_aae02_0 ?_
  refine g_if_eq (tgt := 17) hC dJ0_isLatin1_aae02_3 (by decide) (fun c1 => ?_) (fun c1 => ?_)
  · exact absurd c1 (by decide)
  · refine g_aload_n hC dJ0_isLatin1_aae02_6 rfl ?_
    refine g_scod hC hi kw_2964 dJ0_isLatin1_aae02_7 ?_
    refine g_if_ne (tgt := 17) hC dJ0_isLatin1_aae02_10 (by decide) (fun c2 => ?_) (fun c2 => ?_)
    · exact absurd rfl c2
    · refine g_iconst (v := 1) hC dJ0_isLatin1_aae02_13 rfl ?_
      refine g_goto (tgt := 18) hC dJ0_isLatin1_aae02_14 (by decide) ?_
      exact g_iret hC rfl ⟨rfl, rfl⟩ (by first | exact Nat.le_of_ble_eq_true rfl | omega | (simp only [gR]; omega)) (by first | exact Nat.le_of_ble_eq_true rfl | omega | (simp only [gR]; omega)) dJ0_isLatin1_aae02_18
theorem gshr0 : ∀ i, i < 5 → nI (gLen.getD i 0) >>> ((0 : Int32) &&& 31) = nI (gLen.getD i 0) := by decide +kernel
theorem gLen_ok : ∀ i, i < 5 → gLen.getD i 0 = (gByt.getD i []).length ∧ gLen.getD i 0 ≤ 300 := by decide +kernel
theorem dJ0_length_8abf5_0 : decode cJ0_length_8abf5 0 = .ok (.aload_n 0, 1) := by decide +kernel
theorem dJ0_length_8abf5_1 : decode cJ0_length_8abf5 1 = .ok (.getfield 9, 3) := by decide +kernel
theorem dJ0_length_8abf5_4 : decode cJ0_length_8abf5 4 = .ok (.arraylength, 1) := by decide +kernel
theorem dJ0_length_8abf5_5 : decode cJ0_length_8abf5 5 = .ok (.aload_n 0, 1) := by decide +kernel
theorem dJ0_length_8abf5_6 : decode cJ0_length_8abf5 6 = .ok (.invokevirtual 335, 3) := by decide +kernel
theorem dJ0_length_8abf5_9 : decode cJ0_length_8abf5 9 = .ok (.ishr, 1) := by decide +kernel
theorem dJ0_length_8abf5_10 : decode cJ0_length_8abf5 10 = .ok (.ireturn, 1) := by decide +kernel
set_option maxHeartbeats 4000000 in
set_option maxRecDepth 100000 in
theorem c_length (l : Launch) (d : gD) (b : Nat) (F : gM) (i : Nat) (hi : i < 5) : gMi l d b yJ0_length_8abf5 cJ0_length_8abf5 1 .int 1 0 0 F [.ref (gSa d i)] (fun r F' => r = nI (gLen.getD i 0) ∧ F' = F) := by
  refine gM_of2 rfl (nL := 1) (Nat.le_of_ble_eq_true rfl) ?_
  intro X hX hC; subst hX
  show gG X d b _ F 0 0 0 [some (.ref (gSa d i))] []
  refine g_aload_n hC dJ0_length_8abf5_0 rfl ?_
  refine g_sval hC hi kw_2963 dJ0_length_8abf5_1 ?_
  refine g_slen hC hi dJ0_length_8abf5_4 ?_
  refine g_aload_n hC dJ0_length_8abf5_5 rfl ?_
  refine g_callTi (As := []) hC hi rfl (c_coder X.la d b F i hi) cl_J0_335 rfl rfl (Nat.le_of_ble_eq_true rfl) (gFit_of (Nat.le_of_ble_eq_true rfl) (Nat.le_of_ble_eq_true rfl) (by first | exact Nat.le_of_ble_eq_true rfl | omega | (simp only [gR]; omega)) (by first | exact Nat.le_of_ble_eq_true rfl | omega | (simp only [gR]; omega))) dJ0_length_8abf5_6 (fun r1 F2 p3 => ?_)
  obtain ⟨rfl, eF2⟩ := p3; have eF2 := eF2.symm; subst eF2
  refine g_ishr hC dJ0_length_8abf5_9 ?_
  refine g_vi (fun x4 ex4 => ?_)
  exact g_iret hC rfl ⟨by rw [ex4]; exact gshr0 i hi, rfl⟩ (by first | exact Nat.le_of_ble_eq_true rfl | omega | (simp only [gR]; omega)) (by first | exact Nat.le_of_ble_eq_true rfl | omega | (simp only [gR]; omega)) dJ0_length_8abf5_10
theorem dJ3_checkIndex_8e157_0 : decode cJ3_checkIndex_8e157 0 = .ok (.iload_n 0, 1) := by decide +kernel
theorem dJ3_checkIndex_8e157_1 : decode cJ3_checkIndex_8e157 1 = .ok (.ifCond .lt 8, 3) := by decide +kernel
theorem dJ3_checkIndex_8e157_4 : decode cJ3_checkIndex_8e157 4 = .ok (.iload_n 0, 1) := by decide +kernel
theorem dJ3_checkIndex_8e157_5 : decode cJ3_checkIndex_8e157 5 = .ok (.iload_n 1, 1) := by decide +kernel
theorem dJ3_checkIndex_8e157_6 : decode cJ3_checkIndex_8e157 6 = .ok (.if_icmp .lt 10, 3) := by decide +kernel
theorem dJ3_checkIndex_8e157_9 : decode cJ3_checkIndex_8e157 9 = .ok (.aload_n 2, 1) := by decide +kernel
theorem dJ3_checkIndex_8e157_10 : decode cJ3_checkIndex_8e157 10 = .ok (.iload_n 0, 1) := by decide +kernel
theorem dJ3_checkIndex_8e157_11 : decode cJ3_checkIndex_8e157 11 = .ok (.iload_n 1, 1) := by decide +kernel
theorem dJ3_checkIndex_8e157_12 : decode cJ3_checkIndex_8e157 12 = .ok (.invokestatic 95, 3) := by decide +kernel
theorem dJ3_checkIndex_8e157_15 : decode cJ3_checkIndex_8e157 15 = .ok (.athrow, 1) := by decide +kernel
theorem dJ3_checkIndex_8e157_16 : decode cJ3_checkIndex_8e157 16 = .ok (.iload_n 0, 1) := by decide +kernel
theorem dJ3_checkIndex_8e157_17 : decode cJ3_checkIndex_8e157 17 = .ok (.ireturn, 1) := by decide +kernel
set_option maxHeartbeats 4000000 in
set_option maxRecDepth 100000 in
theorem c_pchkN (l : Launch) (d : gD) (b : Nat) (F : gM) (t : Nat) (u m : Int32) (h1 : ¬ u < 0) (h2 : u < m) : gMi l d b yJ3_checkIndex_8e157 cJ3_checkIndex_8e157 3 .int 0 0 0 F [.int u, .int m, .null] (fun r F' => r = u ∧ F' = F) := by
  refine gM_of2 rfl (nL := 3) (Nat.le_of_ble_eq_true rfl) ?_
  intro X hX hC; subst hX
  show gG X d b _ F 0 0 0 [some (.int u), some (.int m), some (.null)] []
  refine g_iload_n hC dJ3_checkIndex_8e157_0 rfl ?_
  refine g_if_lt (tgt := 9) hC dJ3_checkIndex_8e157_1 (by decide) (fun c1 => ?_) (fun c1 => ?_)
  · exact absurd c1 h1
  · refine g_iload_n hC dJ3_checkIndex_8e157_4 rfl ?_
    refine g_iload_n hC dJ3_checkIndex_8e157_5 rfl ?_
    refine g_icmp_lt (tgt := 16) hC dJ3_checkIndex_8e157_6 (by decide) (fun c2 => ?_) (fun c2 => ?_)
    · refine g_iload_n hC dJ3_checkIndex_8e157_16 rfl ?_
      exact g_iret hC rfl ⟨rfl, rfl⟩ (by first | exact Nat.le_of_ble_eq_true rfl | omega | (simp only [gR]; omega)) (by first | exact Nat.le_of_ble_eq_true rfl | omega | (simp only [gR]; omega)) dJ3_checkIndex_8e157_17
    · exact absurd h2 c2
set_option maxHeartbeats 4000000 in
set_option maxRecDepth 100000 in
theorem c_pchkR (l : Launch) (d : gD) (b : Nat) (F : gM) (t : Nat) (u m : Int32) (h1 : ¬ u < 0) (h2 : u < m) : gMi l d b yJ3_checkIndex_8e157 cJ3_checkIndex_8e157 3 .int 0 0 0 F [.int u, .int m, .ref t] (fun r F' => r = u ∧ F' = F) := by
  refine gM_of2 rfl (nL := 3) (Nat.le_of_ble_eq_true rfl) ?_
  intro X hX hC; subst hX
  show gG X d b _ F 0 0 0 [some (.int u), some (.int m), some (.ref t)] []
  refine g_iload_n hC dJ3_checkIndex_8e157_0 rfl ?_
  refine g_if_lt (tgt := 9) hC dJ3_checkIndex_8e157_1 (by decide) (fun c1 => ?_) (fun c1 => ?_)
  · exact absurd c1 h1
  · refine g_iload_n hC dJ3_checkIndex_8e157_4 rfl ?_
    refine g_iload_n hC dJ3_checkIndex_8e157_5 rfl ?_
    refine g_icmp_lt (tgt := 16) hC dJ3_checkIndex_8e157_6 (by decide) (fun c2 => ?_) (fun c2 => ?_)
    · refine g_iload_n hC dJ3_checkIndex_8e157_16 rfl ?_
      exact g_iret hC rfl ⟨rfl, rfl⟩ (by first | exact Nat.le_of_ble_eq_true rfl | omega | (simp only [gR]; omega)) (by first | exact Nat.le_of_ble_eq_true rfl | omega | (simp only [gR]; omega)) dJ3_checkIndex_8e157_17
    · exact absurd h2 c2
theorem dJ0_checkIndex_df160_0 : decode cJ0_checkIndex_df160 0 = .ok (.iload_n 0, 1) := by decide +kernel
theorem dJ0_checkIndex_df160_1 : decode cJ0_checkIndex_df160 1 = .ok (.iload_n 1, 1) := by decide +kernel
theorem dJ0_checkIndex_df160_2 : decode cJ0_checkIndex_df160 2 = .ok (.getstatic 1053, 3) := by decide +kernel
theorem dJ0_checkIndex_df160_5 : decode cJ0_checkIndex_df160 5 = .ok (.invokestatic 1059, 3) := by decide +kernel
theorem dJ0_checkIndex_df160_8 : decode cJ0_checkIndex_df160 8 = .ok (.pop, 1) := by decide +kernel
theorem dJ0_checkIndex_df160_9 : decode cJ0_checkIndex_df160 9 = .ok (.return_, 1) := by decide +kernel
set_option maxHeartbeats 4000000 in
set_option maxRecDepth 100000 in
theorem c_schk (l : Launch) (d : gD) (b : Nat) (F : gM) (u m : Int32) (h1 : ¬ u < 0) (h2 : u < m) : gMv l d b yJ0_checkIndex_df160 cJ0_checkIndex_df160 2 1 0 0 F [.int u, .int m] (fun F' => F' = F) := by
  refine gM_of2 rfl (nL := 2) (Nat.le_of_ble_eq_true rfl) ?_
  intro X hX hC; subst hX
  show gG X d b _ F 0 0 0 [some (.int u), some (.int m)] []
  refine g_iload_n hC dJ0_checkIndex_df160_0 rfl ?_
  refine g_iload_n hC dJ0_checkIndex_df160_1 rfl ?_
  refine g_sfmt hC kw_401 dJ0_checkIndex_df160_2 (fun fo => ?_)
  cases fo with
  | none =>
    refine g_callSi (As := [.int u, .int m, .null]) hC (c_pchkN X.la d b F 0 u m h1 h2) cl_J0_1059 rfl rfl (Nat.le_of_ble_eq_true rfl) (gFit_of (Nat.le_of_ble_eq_true rfl) (Nat.le_of_ble_eq_true rfl) (by first | exact Nat.le_of_ble_eq_true rfl | omega | (simp only [gR]; omega)) (by first | exact Nat.le_of_ble_eq_true rfl | omega | (simp only [gR]; omega))) dJ0_checkIndex_df160_5 (fun r1 F2 p3 => ?_)
    obtain ⟨rfl, eF2⟩ := p3; have eF2 := eF2.symm; subst eF2
    refine g_pop hC dJ0_checkIndex_df160_8 rfl ?_
    exact g_vret hC rfl (by first | exact Nat.le_of_ble_eq_true rfl | omega | (simp only [gR]; omega)) (by first | exact Nat.le_of_ble_eq_true rfl | omega | (simp only [gR]; omega)) dJ0_checkIndex_df160_9
  | some t =>
    refine g_callSi (As := [.int u, .int m, .ref t]) hC (c_pchkR X.la d b F t u m h1 h2) cl_J0_1059 rfl rfl (Nat.le_of_ble_eq_true rfl) (gFit_of (Nat.le_of_ble_eq_true rfl) (Nat.le_of_ble_eq_true rfl) (by first | exact Nat.le_of_ble_eq_true rfl | omega | (simp only [gR]; omega)) (by first | exact Nat.le_of_ble_eq_true rfl | omega | (simp only [gR]; omega))) dJ0_checkIndex_df160_5 (fun r4 F5 p6 => ?_)
    obtain ⟨rfl, eF5⟩ := p6; have eF5 := eF5.symm; subst eF5
    refine g_pop hC dJ0_checkIndex_df160_8 rfl ?_
    exact g_vret hC rfl (by first | exact Nat.le_of_ble_eq_true rfl | omega | (simp only [gR]; omega)) (by first | exact Nat.le_of_ble_eq_true rfl | omega | (simp only [gR]; omega)) dJ0_checkIndex_df160_9
def gCh (i j : Nat) : Int32 := ((gByt.getD i []).getD j 0 &&& 255).toUInt32 % 65536 |>.toInt32
theorem gCh_nar (i j : Nat) : narrow .char (.int (gCh i j)) = .int (gCh i j) := pk_nc _
theorem dJ1_charAt_3b067_0 : decode cJ1_charAt_3b067 0 = .ok (.iload_n 1, 1) := by decide +kernel
theorem dJ1_charAt_3b067_1 : decode cJ1_charAt_3b067 1 = .ok (.aload_n 0, 1) := by decide +kernel
theorem dJ1_charAt_3b067_2 : decode cJ1_charAt_3b067 2 = .ok (.arraylength, 1) := by decide +kernel
theorem dJ1_charAt_3b067_3 : decode cJ1_charAt_3b067 3 = .ok (.invokestatic 9, 3) := by decide +kernel
theorem dJ1_charAt_3b067_6 : decode cJ1_charAt_3b067 6 = .ok (.aload_n 0, 1) := by decide +kernel
theorem dJ1_charAt_3b067_7 : decode cJ1_charAt_3b067 7 = .ok (.iload_n 1, 1) := by decide +kernel
theorem dJ1_charAt_3b067_8 : decode cJ1_charAt_3b067 8 = .ok (.baload, 1) := by decide +kernel
theorem dJ1_charAt_3b067_9 : decode cJ1_charAt_3b067 9 = .ok (.sipush 255, 3) := by decide +kernel
theorem dJ1_charAt_3b067_12 : decode cJ1_charAt_3b067 12 = .ok (.iand, 1) := by decide +kernel
theorem dJ1_charAt_3b067_13 : decode cJ1_charAt_3b067 13 = .ok (.i2c, 1) := by decide +kernel
theorem dJ1_charAt_3b067_14 : decode cJ1_charAt_3b067 14 = .ok (.ireturn, 1) := by decide +kernel
set_option maxHeartbeats 4000000 in
set_option maxRecDepth 100000 in
theorem c_lcharAt (l : Launch) (d : gD) (b : Nat) (F : gM) (i : Nat) (hi : i < 5) (j : Nat) (hj : j < gLen.getD i 0) (hL : gLen.getD i 0 ≤ 300) : gMi l d b yJ1_charAt_3b067 cJ1_charAt_3b067 2 .char 2 0 0 F [.ref (gSb d i), .int (nI j)] (fun r F' => r = gCh i j ∧ F' = F) := by
  refine gM_of2 rfl (nL := 2) (Nat.le_of_ble_eq_true rfl) ?_
  intro X hX hC; subst hX
  show gG X d b _ F 0 0 0 [some (.ref (gSb d i)), some (.int (nI j))] []
  refine g_iload_n hC dJ1_charAt_3b067_0 rfl ?_
  refine g_aload_n hC dJ1_charAt_3b067_1 rfl ?_
  refine g_slen hC hi dJ1_charAt_3b067_2 ?_
  refine g_callSv (As := [.int (nI j), .int (nI (gLen.getD i 0))]) hC (c_schk X.la d b F (nI j) (nI (gLen.getD i 0)) (nI_pos (by omega)) (nI_lt hj (by omega))) cl_J1_9 rfl rfl (Nat.le_of_ble_eq_true rfl) (gFit_of (Nat.le_of_ble_eq_true rfl) (Nat.le_of_ble_eq_true rfl) (by first | exact Nat.le_of_ble_eq_true rfl | omega | (simp only [gR]; omega)) (by first | exact Nat.le_of_ble_eq_true rfl | omega | (simp only [gR]; omega))) dJ1_charAt_3b067_3 (fun F2 p3 => ?_)
  have eF2 := p3.symm; subst eF2
  refine g_aload_n hC dJ1_charAt_3b067_6 rfl ?_
  refine g_iload_n hC dJ1_charAt_3b067_7 rfl ?_
  refine g_sald hC hi (vp_in_nI hj (by omega)) dJ1_charAt_3b067_8 ?_
  refine g_vi (fun x4 ex4 => ?_)
  refine g_sipush (v := 255) hC dJ1_charAt_3b067_9 rfl ?_
  refine g_iand hC dJ1_charAt_3b067_12 ?_
  refine g_vi (fun x5 ex5 => ?_)
  refine g_i2c hC dJ1_charAt_3b067_13 ?_
  refine g_vi (fun x6 ex6 => ?_)
  have hch : x6 = gCh i j := by subst_vars; rw [nI_clamp (by omega)]; rfl
  exact g_iret hC (by rw [hch]; exact gCh_nar i j) ⟨hch, rfl⟩ (by first | exact Nat.le_of_ble_eq_true rfl | omega | (simp only [gR]; omega)) (by first | exact Nat.le_of_ble_eq_true rfl | omega | (simp only [gR]; omega)) dJ1_charAt_3b067_14
theorem dJ0_charAt_5068e_0 : decode cJ0_charAt_5068e 0 = .ok (.aload_n 0, 1) := by decide +kernel
theorem dJ0_charAt_5068e_1 : decode cJ0_charAt_5068e 1 = .ok (.invokevirtual 492, 3) := by decide +kernel
theorem dJ0_charAt_5068e_4 : decode cJ0_charAt_5068e 4 = .ok (.ifCond .eq 12, 3) := by decide +kernel
theorem dJ0_charAt_5068e_7 : decode cJ0_charAt_5068e 7 = .ok (.aload_n 0, 1) := by decide +kernel
theorem dJ0_charAt_5068e_8 : decode cJ0_charAt_5068e 8 = .ok (.getfield 9, 3) := by decide +kernel
theorem dJ0_charAt_5068e_11 : decode cJ0_charAt_5068e 11 = .ok (.iload_n 1, 1) := by decide +kernel
theorem dJ0_charAt_5068e_12 : decode cJ0_charAt_5068e 12 = .ok (.invokestatic 495, 3) := by decide +kernel
theorem dJ0_charAt_5068e_15 : decode cJ0_charAt_5068e 15 = .ok (.ireturn, 1) := by decide +kernel
theorem dJ0_charAt_5068e_16 : decode cJ0_charAt_5068e 16 = .ok (.aload_n 0, 1) := by decide +kernel
theorem dJ0_charAt_5068e_17 : decode cJ0_charAt_5068e 17 = .ok (.getfield 9, 3) := by decide +kernel
theorem dJ0_charAt_5068e_20 : decode cJ0_charAt_5068e 20 = .ok (.iload_n 1, 1) := by decide +kernel
theorem dJ0_charAt_5068e_21 : decode cJ0_charAt_5068e 21 = .ok (.invokestatic 498, 3) := by decide +kernel
theorem dJ0_charAt_5068e_24 : decode cJ0_charAt_5068e 24 = .ok (.ireturn, 1) := by decide +kernel
set_option maxHeartbeats 4000000 in
set_option maxRecDepth 100000 in
theorem c_charAt (l : Launch) (d : gD) (b : Nat) (F : gM) (i : Nat) (hi : i < 5) (j : Nat) (hj : j < gLen.getD i 0) (hL : gLen.getD i 0 ≤ 300) : gMi l d b yJ0_charAt_5068e cJ0_charAt_5068e 2 .char 3 0 0 F [.ref (gSa d i), .int (nI j)] (fun r F' => r = gCh i j ∧ F' = F) := by
  refine gM_of2 rfl (nL := 2) (Nat.le_of_ble_eq_true rfl) ?_
  intro X hX hC; subst hX
  show gG X d b _ F 0 0 0 [some (.ref (gSa d i)), some (.int (nI j))] []
  refine g_aload_n hC dJ0_charAt_5068e_0 rfl ?_
  refine g_callTi (As := []) hC hi rfl (c_isLatin1 X.la d b F i hi) cl_J0_492 rfl rfl (Nat.le_of_ble_eq_true rfl) (gFit_of (Nat.le_of_ble_eq_true rfl) (Nat.le_of_ble_eq_true rfl) (by first | exact Nat.le_of_ble_eq_true rfl | omega | (simp only [gR]; omega)) (by first | exact Nat.le_of_ble_eq_true rfl | omega | (simp only [gR]; omega))) dJ0_charAt_5068e_1 (fun r1 F2 p3 => ?_)
  obtain ⟨rfl, eF2⟩ := p3; have eF2 := eF2.symm; subst eF2
  refine g_if_eq (tgt := 16) hC dJ0_charAt_5068e_4 (by decide) (fun c4 => ?_) (fun c4 => ?_)
  · exact absurd c4 (by decide)
  · refine g_aload_n hC dJ0_charAt_5068e_7 rfl ?_
    refine g_sval hC hi kw_2963 dJ0_charAt_5068e_8 ?_
    refine g_iload_n hC dJ0_charAt_5068e_11 rfl ?_
    refine g_callSi (As := [.ref (gSb d i), .int (nI j)]) hC (c_lcharAt X.la d b F i hi j hj hL) cl_J0_495 rfl rfl (Nat.le_of_ble_eq_true rfl) (gFit_of (Nat.le_of_ble_eq_true rfl) (Nat.le_of_ble_eq_true rfl) (by first | exact Nat.le_of_ble_eq_true rfl | omega | (simp only [gR]; omega)) (by first | exact Nat.le_of_ble_eq_true rfl | omega | (simp only [gR]; omega))) dJ0_charAt_5068e_12 (fun r5 F6 p7 => ?_)
    obtain ⟨rfl, eF6⟩ := p7; have eF6 := eF6.symm; subst eF6
    exact g_iret hC (gCh_nar i j) ⟨rfl, rfl⟩ (by first | exact Nat.le_of_ble_eq_true rfl | omega | (simp only [gR]; omega)) (by first | exact Nat.le_of_ble_eq_true rfl | omega | (simp only [gR]; omega)) dJ0_charAt_5068e_15
