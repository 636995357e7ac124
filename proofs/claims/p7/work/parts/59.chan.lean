theorem kw_1801 : Cond.static Lib.MathLoose.abs_long.x ∈ gWs := List.mem_filter.mpr ⟨gMt7 _ (List.mem_of_getElem? (i := 124) rfl), rfl⟩
theorem kw_1802 : Cond.code Lib.MathLoose.abs_long.x Lib.MathLoose.abs_long.code 2 (some .long) ∈ gWs := List.mem_filter.mpr ⟨gMt7 _ (List.mem_of_getElem? (i := 125) rfl), rfl⟩
theorem kw_1800 : Cond.methodLink RX0 69 Lib.MathLoose.abs_long.x ∈ gWs := List.mem_filter.mpr ⟨gMt7 _ (List.mem_of_getElem? (i := 123) rfl), rfl⟩
theorem kw_1803 : Cond.constantLong RX0 75 10 ∈ gWs := List.mem_filter.mpr ⟨gMt7 _ (List.mem_of_getElem? (i := 126) rfl), rfl⟩
section HL
variable {own : String} {cc : ByteArray} {nL : Nat} {rt : Option FieldType} {nm : String} {R : Room} {d : gD} {b : Nat} {X : gX} {Q : State → Prop} {F : gM} {k n pc : Nat} {lv : List (Option Value)} {st : List Value}
theorem g_labs (hC : gC own cc nL rt nm R d b X) {idx : Nat} {x : Int64} (hw : Cond.methodLink own idx Lib.MathLoose.abs_long.x ∈ gWs) (hn : nL = lv.length) (hR : 1 ≤ R.frames ∧ 21 ≤ R.locals) (hr : (st.map fun v => v.category).sum ≤ 8) (hk : k ≤ R.cells) (hs : n ≤ R.slots) (hdg : decode cc pc = .ok (.invokestatic idx, 3)) (kk : gG X d b Q F k n (pc + 3) lv (.long (if 0 < x then x else -x) :: st)) : gG X d b Q F k n pc lv (.long x :: st) := fun H locs ls hH hS hL =>
  va_mabs_long hC.hx hC.hb (by rw [hC.hml, hn]; exact hL.1.symm) hC.how (hC.hts _ hw) (hC.hts _ kw_1801) (hC.hts _ kw_247) (hC.hts _ kw_1802) (by rw [hC.hR]; exact hR.1) (by rw [hC.hR]; omega) (by rw [hC.hR]; exact hk) (by rw [hC.hR]; exact hs) hdg (kk H locs ls hH hS hL)
theorem h_labs (hC : gC own cc nL rt nm R d b X) (hr0 : hRm X b) (ho : hOk X b k n) {idx : Nat} {x : Int64} (hw : Cond.methodLink own idx Lib.MathLoose.abs_long.x ∈ gWs) (hn : nL = lv.length) (hR : 1 ≤ R.frames ∧ 21 ≤ R.locals) (hr : (st.map fun v => v.category).sum ≤ 8) (hdg : decode cc pc = .ok (.invokestatic idx, 3)) (kk : hG X d b Q F k n (pc + 3) lv (.long (if 0 < x then x else -x) :: st)) : hG X d b Q F k n pc lv (.long x :: st) := g_labs hC hw hn hR hr (h_le hC hr0 ho).1 (h_le hC hr0 ho).2 hdg kk
end HL
def up10 : Nat → Int64
  | 0 => 1
  | m + 1 => up10 m * 10
theorem up10_nz : ∀ j, j < 11 → ¬ up10 j = 0 := by decide
theorem nI_lt10 {j : Nat} (h : j ≤ 10) (h2 : ¬ (10 : Int32) ≤ nI j) : j < 10 := Nat.lt_of_le_of_ne h (fun q => h2 (by subst q; decide))
theorem nI_lt11 {j : Nat} (h : j ≤ 11) (h2 : ¬ (11 : Int32) ≤ nI j) : j < 11 := Nat.lt_of_le_of_ne h (fun q => h2 (by subst q; decide))
theorem dX0_writeNumber_0 : decode cX0_writeNumber 0 = .ok (.iload_n 1, 1) := by decide +kernel
theorem dX0_writeNumber_1 : decode cX0_writeNumber 1 = .ok (.i2l, 1) := by decide +kernel
theorem dX0_writeNumber_2 : decode cX0_writeNumber 2 = .ok (.invokestatic 69, 3) := by decide +kernel
theorem dX0_writeNumber_5 : decode cX0_writeNumber 5 = .ok (.lstore_n 3, 1) := by decide +kernel
theorem dX0_writeNumber_6 : decode cX0_writeNumber 6 = .ok (.lconst 1, 1) := by decide +kernel
theorem dX0_writeNumber_7 : decode cX0_writeNumber 7 = .ok (.lstore 5, 2) := by decide +kernel
theorem dX0_writeNumber_9 : decode cX0_writeNumber 9 = .ok (.iload_n 1, 1) := by decide +kernel
theorem dX0_writeNumber_10 : decode cX0_writeNumber 10 = .ok (.ifCond .ge 7, 3) := by decide +kernel
theorem dX0_writeNumber_13 : decode cX0_writeNumber 13 = .ok (.iconst 2, 1) := by decide +kernel
theorem dX0_writeNumber_14 : decode cX0_writeNumber 14 = .ok (.goto 4, 3) := by decide +kernel
theorem dX0_writeNumber_17 : decode cX0_writeNumber 17 = .ok (.iconst 1, 1) := by decide +kernel
theorem dX0_writeNumber_18 : decode cX0_writeNumber 18 = .ok (.istore 7, 2) := by decide +kernel
theorem dX0_writeNumber_20 : decode cX0_writeNumber 20 = .ok (.iconst 0, 1) := by decide +kernel
theorem dX0_writeNumber_21 : decode cX0_writeNumber 21 = .ok (.istore 8, 2) := by decide +kernel
theorem dX0_writeNumber_23 : decode cX0_writeNumber 23 = .ok (.iload 8, 2) := by decide +kernel
theorem dX0_writeNumber_25 : decode cX0_writeNumber 25 = .ok (.bipush 10, 2) := by decide +kernel
theorem dX0_writeNumber_27 : decode cX0_writeNumber 27 = .ok (.if_icmp .ge 31, 3) := by decide +kernel
theorem dX0_writeNumber_30 : decode cX0_writeNumber 30 = .ok (.lload_n 3, 1) := by decide +kernel
theorem dX0_writeNumber_31 : decode cX0_writeNumber 31 = .ok (.lload 5, 2) := by decide +kernel
theorem dX0_writeNumber_33 : decode cX0_writeNumber 33 = .ok (.ldiv, 1) := by decide +kernel
theorem dX0_writeNumber_34 : decode cX0_writeNumber 34 = .ok (.ldc2_w 75, 3) := by decide +kernel
theorem dX0_writeNumber_37 : decode cX0_writeNumber 37 = .ok (.lcmp, 1) := by decide +kernel
theorem dX0_writeNumber_38 : decode cX0_writeNumber 38 = .ok (.ifCond .lt 20, 3) := by decide +kernel
theorem dX0_writeNumber_41 : decode cX0_writeNumber 41 = .ok (.lload 5, 2) := by decide +kernel
theorem dX0_writeNumber_43 : decode cX0_writeNumber 43 = .ok (.ldc2_w 75, 3) := by decide +kernel
theorem dX0_writeNumber_46 : decode cX0_writeNumber 46 = .ok (.lmul, 1) := by decide +kernel
theorem dX0_writeNumber_47 : decode cX0_writeNumber 47 = .ok (.lstore 5, 2) := by decide +kernel
theorem dX0_writeNumber_49 : decode cX0_writeNumber 49 = .ok (.iinc 7 1, 3) := by decide +kernel
theorem dX0_writeNumber_52 : decode cX0_writeNumber 52 = .ok (.iinc 8 1, 3) := by decide +kernel
theorem dX0_writeNumber_55 : decode cX0_writeNumber 55 = .ok (.goto (-32), 3) := by decide +kernel
theorem dX0_writeNumber_58 : decode cX0_writeNumber 58 = .ok (.iload 7, 2) := by decide +kernel
theorem dX0_writeNumber_60 : decode cX0_writeNumber 60 = .ok (.istore 8, 2) := by decide +kernel
theorem dX0_writeNumber_62 : decode cX0_writeNumber 62 = .ok (.iload 8, 2) := by decide +kernel
theorem dX0_writeNumber_64 : decode cX0_writeNumber 64 = .ok (.iload_n 2, 1) := by decide +kernel
theorem dX0_writeNumber_65 : decode cX0_writeNumber 65 = .ok (.bipush 100, 2) := by decide +kernel
theorem dX0_writeNumber_67 : decode cX0_writeNumber 67 = .ok (.invokestatic 77, 3) := by decide +kernel
theorem dX0_writeNumber_70 : decode cX0_writeNumber 70 = .ok (.if_icmp .ge 15, 3) := by decide +kernel
theorem dX0_writeNumber_73 : decode cX0_writeNumber 73 = .ok (.aload_n 0, 1) := by decide +kernel
theorem dX0_writeNumber_74 : decode cX0_writeNumber 74 = .ok (.bipush 32, 2) := by decide +kernel
theorem dX0_writeNumber_76 : decode cX0_writeNumber 76 = .ok (.invokevirtual 81, 3) := by decide +kernel
theorem dX0_writeNumber_79 : decode cX0_writeNumber 79 = .ok (.iinc 8 1, 3) := by decide +kernel
theorem dX0_writeNumber_82 : decode cX0_writeNumber 82 = .ok (.goto (-20), 3) := by decide +kernel
theorem dX0_writeNumber_85 : decode cX0_writeNumber 85 = .ok (.iload_n 1, 1) := by decide +kernel
theorem dX0_writeNumber_86 : decode cX0_writeNumber 86 = .ok (.ifCond .ge 9, 3) := by decide +kernel
theorem dX0_writeNumber_89 : decode cX0_writeNumber 89 = .ok (.aload_n 0, 1) := by decide +kernel
theorem dX0_writeNumber_90 : decode cX0_writeNumber 90 = .ok (.bipush 45, 2) := by decide +kernel
theorem dX0_writeNumber_92 : decode cX0_writeNumber 92 = .ok (.invokevirtual 81, 3) := by decide +kernel
theorem dX0_writeNumber_95 : decode cX0_writeNumber 95 = .ok (.iconst 0, 1) := by decide +kernel
theorem dX0_writeNumber_96 : decode cX0_writeNumber 96 = .ok (.istore 8, 2) := by decide +kernel
theorem dX0_writeNumber_98 : decode cX0_writeNumber 98 = .ok (.iload 8, 2) := by decide +kernel
theorem dX0_writeNumber_100 : decode cX0_writeNumber 100 = .ok (.bipush 11, 2) := by decide +kernel
theorem dX0_writeNumber_102 : decode cX0_writeNumber 102 = .ok (.if_icmp .ge 40, 3) := by decide +kernel
theorem dX0_writeNumber_105 : decode cX0_writeNumber 105 = .ok (.lload 5, 2) := by decide +kernel
theorem dX0_writeNumber_107 : decode cX0_writeNumber 107 = .ok (.lconst 0, 1) := by decide +kernel
theorem dX0_writeNumber_108 : decode cX0_writeNumber 108 = .ok (.lcmp, 1) := by decide +kernel
theorem dX0_writeNumber_109 : decode cX0_writeNumber 109 = .ok (.ifCond .le 33, 3) := by decide +kernel
theorem dX0_writeNumber_112 : decode cX0_writeNumber 112 = .ok (.aload_n 0, 1) := by decide +kernel
theorem dX0_writeNumber_113 : decode cX0_writeNumber 113 = .ok (.bipush 48, 2) := by decide +kernel
theorem dX0_writeNumber_115 : decode cX0_writeNumber 115 = .ok (.lload_n 3, 1) := by decide +kernel
theorem dX0_writeNumber_116 : decode cX0_writeNumber 116 = .ok (.lload 5, 2) := by decide +kernel
theorem dX0_writeNumber_118 : decode cX0_writeNumber 118 = .ok (.ldiv, 1) := by decide +kernel
theorem dX0_writeNumber_119 : decode cX0_writeNumber 119 = .ok (.ldc2_w 75, 3) := by decide +kernel
theorem dX0_writeNumber_122 : decode cX0_writeNumber 122 = .ok (.lrem, 1) := by decide +kernel
theorem dX0_writeNumber_123 : decode cX0_writeNumber 123 = .ok (.l2i, 1) := by decide +kernel
theorem dX0_writeNumber_124 : decode cX0_writeNumber 124 = .ok (.iadd, 1) := by decide +kernel
theorem dX0_writeNumber_125 : decode cX0_writeNumber 125 = .ok (.invokevirtual 81, 3) := by decide +kernel
theorem dX0_writeNumber_128 : decode cX0_writeNumber 128 = .ok (.lload 5, 2) := by decide +kernel
theorem dX0_writeNumber_130 : decode cX0_writeNumber 130 = .ok (.ldc2_w 75, 3) := by decide +kernel
theorem dX0_writeNumber_133 : decode cX0_writeNumber 133 = .ok (.ldiv, 1) := by decide +kernel
theorem dX0_writeNumber_134 : decode cX0_writeNumber 134 = .ok (.lstore 5, 2) := by decide +kernel
theorem dX0_writeNumber_136 : decode cX0_writeNumber 136 = .ok (.iinc 8 1, 3) := by decide +kernel
theorem dX0_writeNumber_139 : decode cX0_writeNumber 139 = .ok (.goto (-41), 3) := by decide +kernel
theorem dX0_writeNumber_142 : decode cX0_writeNumber 142 = .ok (.return_, 1) := by decide +kernel
set_option maxHeartbeats 4000000 in
set_option maxRecDepth 100000 in
theorem s_C_writeNumber (l : Launch) (d : gD) (b : Nat) (Y : gYt) (c : Nat × Nat) (F : gM) (k n : Nat) {S : gSt} (hi : hI d b Y c (F, k, n) S) (hA : gPsi S ≤ gAm) (x y : Int32) : hMv l d b yX0_writeNumber cX0_writeNumber 9 5 k n F [.ref (gO' Y 6), .int x, .int y] (fun u => ∃ S', hI d b Y c u S' ∧ gKp Y F u.1 ∧ gSm S S' [38, 39] [] ∧ gPsi S' ≤ gPsi S) := by
  intro mc ms
  refine hM_of2 rfl (nL := 9) (Nat.le_of_ble_eq_true rfl) ?_
  intro X hX hC hr ho; subst hX
  show hG X d b _ F k n 0 [some (.ref (gO' Y 6)), some (.int x), some (.int y), none, none, none, none, none, none] []
  refine h_iload_n hC dX0_writeNumber_0 rfl ?_
  refine h_i2l hC dX0_writeNumber_1 ?_
  refine h_vl (fun x1 ex1 => ?_)
  refine h_labs hC hr ho kw_1800 rfl ⟨Nat.le_of_ble_eq_true rfl, Nat.le_of_ble_eq_true rfl⟩ (Nat.le_of_ble_eq_true rfl) dX0_writeNumber_2 ?_
  refine h_vl (fun x2 ex2 => ?_)
  refine h_lstore_n (lv' := [some (.ref (gO' Y 6)), some (.int x), some (.int y), some (.long x2), none, none, none, none, none]) hC dX0_writeNumber_5 (Nat.le_of_ble_eq_true rfl) rfl rfl ?_
  refine h_lconst (v := 1) hC dX0_writeNumber_6 rfl ?_
  refine h_lstore (lv' := [some (.ref (gO' Y 6)), some (.int x), some (.int y), some (.long x2), none, some (.long 1), none, none, none]) hC dX0_writeNumber_7 (Nat.le_of_ble_eq_true rfl) rfl rfl ?_
  have J3 : ∀ (u5 : hU) (S6 : gSt) (x4 : Int32), hI d b Y c u5 S6 → hOk X b u5.2.1 u5.2.2 → gKp Y F u5.1 → gSm S S6 [38, 39] [] → (gPsi S6 ≤ gPsi S) → (∃ L, L ≤ 2 ∧ x4 = nI L) → hG X d b (MQ X.be (va_Qv (fun u => ∃ S', hI d b Y c u S' ∧ gKp Y F u.1 ∧ gSm S S' [38, 39] [] ∧ gPsi S' ≤ gPsi S) (hB d b) (fun q => b ≤ q)) X.ar X.st mc ms (fun q => b ≤ q)) u5.1 u5.2.1 u5.2.2 20 [some (.ref (gO' Y 6)), some (.int x), some (.int y), some (.long x2), none, some (.long 1), none, some (.int x4), none] [] := by
    intro u5 S6 x4 I7 o8 K9 m10 ips iL
    refine h_iconst (v := 0) hC dX0_writeNumber_20 rfl ?_
    refine h_istore (lv' := [some (.ref (gO' Y 6)), some (.int x), some (.int y), some (.long x2), none, some (.long 1), none, some (.int x4), some (.int 0)]) hC dX0_writeNumber_21 (Nat.le_of_ble_eq_true rfl) rfl rfl ?_
    have J11 : ∀ (u14 : hU) (S15 : gSt) (x12 : Int32) (x13 : Int64), hI d b Y c u14 S15 → hOk X b u14.2.1 u14.2.2 → gKp Y F u14.1 → gSm S S15 [38, 39] [] → (gPsi S15 ≤ gPsi S) → (∃ L, L ≤ 12 ∧ x12 = nI L) → hG X d b (MQ X.be (va_Qv (fun u => ∃ S', hI d b Y c u S' ∧ gKp Y F u.1 ∧ gSm S S' [38, 39] [] ∧ gPsi S' ≤ gPsi S) (hB d b) (fun q => b ≤ q)) X.ar X.st mc ms (fun q => b ≤ q)) u14.1 u14.2.1 u14.2.2 58 [some (.ref (gO' Y 6)), some (.int x), some (.int y), some (.long x2), none, some (.long x13), none, some (.int x12), none] [] := by
      intro u14 S15 x12 x13 I16 o17 K18 m19 ips iL
      refine h_iload hC dX0_writeNumber_58 rfl ?_
      refine h_istore (lv' := [some (.ref (gO' Y 6)), some (.int x), some (.int y), some (.long x2), none, some (.long x13), none, some (.int x12), some (.int x12)]) hC dX0_writeNumber_60 (Nat.le_of_ble_eq_true rfl) rfl rfl ?_
      have J20 : ∀ (u22 : hU) (S23 : gSt) (x21 : Int64), hI d b Y c u22 S23 → hOk X b u22.2.1 u22.2.2 → gKp Y F u22.1 → gSm S S23 [38, 39] [] → (gPsi S23 ≤ gPsi S) → hG X d b (MQ X.be (va_Qv (fun u => ∃ S', hI d b Y c u S' ∧ gKp Y F u.1 ∧ gSm S S' [38, 39] [] ∧ gPsi S' ≤ gPsi S) (hB d b) (fun q => b ≤ q)) X.ar X.st mc ms (fun q => b ≤ q)) u22.1 u22.2.1 u22.2.2 85 [some (.ref (gO' Y 6)), some (.int x), some (.int y), some (.long x2), none, some (.long x21), none, none, none] [] := by
        intro u22 S23 x21 I24 o25 K26 m27 ips
        refine h_iload_n hC dX0_writeNumber_85 rfl ?_
        have J28 : ∀ (u29 : hU) (S30 : gSt), hI d b Y c u29 S30 → hOk X b u29.2.1 u29.2.2 → gKp Y F u29.1 → gSm S S30 [38, 39] [] → (gPsi S30 ≤ gPsi S) → hG X d b (MQ X.be (va_Qv (fun u => ∃ S', hI d b Y c u S' ∧ gKp Y F u.1 ∧ gSm S S' [38, 39] [] ∧ gPsi S' ≤ gPsi S) (hB d b) (fun q => b ≤ q)) X.ar X.st mc ms (fun q => b ≤ q)) u29.1 u29.2.1 u29.2.2 95 [some (.ref (gO' Y 6)), some (.int x), some (.int y), some (.long x2), none, some (.long x21), none, none, none] [] := by
          intro u29 S30 I31 o32 K33 m34 ips
          refine h_iconst (v := 0) hC dX0_writeNumber_95 rfl ?_
          refine h_istore (lv' := [some (.ref (gO' Y 6)), some (.int x), some (.int y), some (.long x2), none, some (.long x21), none, none, some (.int 0)]) hC dX0_writeNumber_96 (Nat.le_of_ble_eq_true rfl) rfl rfl ?_
          have L35 : ∀ (m36 j37 : Nat), j37 + m36 = 11 → ∀ (u41 : hU) (S42 : gSt) (x40 : Int64), hI d b Y c u41 S42 → hOk X b u41.2.1 u41.2.2 → gKp Y F u41.1 → gSm S S42 [38, 39] [] → (gPsi S42 ≤ gPsi S) → hG X d b (MQ X.be (va_Qv (fun u => ∃ S', hI d b Y c u S' ∧ gKp Y F u.1 ∧ gSm S S' [38, 39] [] ∧ gPsi S' ≤ gPsi S) (hB d b) (fun q => b ≤ q)) X.ar X.st mc ms (fun q => b ≤ q)) u41.1 u41.2.1 u41.2.2 98 [some (.ref (gO' Y 6)), some (.int x), some (.int y), some (.long x2), none, some (.long x40), none, none, some (.int (nI j37))] [] := by
            intro m36
            refine Nat.strongRecOn m36 (fun m36 ih38 j37 hj39 u41 S42 x40 I43 o44 K45 m46 ips => ?_)
            refine h_iload hC dX0_writeNumber_98 rfl ?_
            refine h_bipush (v := 11) hC dX0_writeNumber_100 rfl ?_
            refine h_icmp_ge (tgt := 142) hC dX0_writeNumber_102 (by decide) (fun c47 => ?_) (fun c47 => ?_)
            · exact h_vret hC hr o44 rfl rfl ⟨S42, I43, K45, m46, by omega⟩ dX0_writeNumber_142
            · have hlt := nI_lt11 (by omega) c47
              refine h_lload hC dX0_writeNumber_105 rfl ?_
              refine h_lconst (v := 0) hC dX0_writeNumber_107 rfl ?_
              refine h_lcmp hC dX0_writeNumber_108 ?_
              refine h_vi (fun x48 ex48 => ?_)
              refine h_if_le (tgt := 142) hC dX0_writeNumber_109 (by decide) (fun c49 => ?_) (fun c49 => ?_)
              · exact h_vret hC hr o44 rfl rfl ⟨S42, I43, K45, m46, by omega⟩ dX0_writeNumber_142
              · refine h_aload_n hC dX0_writeNumber_112 rfl ?_
                refine h_bipush (v := 48) hC dX0_writeNumber_113 rfl ?_
                refine h_lload_n hC dX0_writeNumber_115 rfl ?_
                refine h_lload hC dX0_writeNumber_116 rfl ?_
                refine h_ldiv hC dX0_writeNumber_118 (fun q => c49 (by rw [ex48, q]; decide)) ?_
                refine h_vl (fun x50 ex50 => ?_)
                refine h_ldc2 hC dX0_writeNumber_119 kw_1803 ?_
                refine h_lrem hC dX0_writeNumber_122 (by decide) ?_
                refine h_vl (fun x51 ex51 => ?_)
                refine h_l2i hC dX0_writeNumber_123 ?_
                refine h_vi (fun x52 ex52 => ?_)
                refine h_iadd hC dX0_writeNumber_124 ?_
                refine h_vi (fun x53 ex53 => ?_)
                refine h_callVv (As := [.int x53]) hC hr o44 rfl (I43.1.o 6 (by decide)) (s_C_write X.la d b Y c _ _ _ I43 (by omega) x53) cl_X0_81 rfl rfl (Nat.le_of_ble_eq_true rfl) (hFr_of (Nat.le_of_ble_eq_true rfl) (Nat.le_of_ble_eq_true rfl)) dX0_writeNumber_125 (fun u54 p55 o56 => ?_)
                obtain ⟨S58, I59, K60, s61, q62⟩ := p55
                have m63 : gSm S S58 [38, 39] [] := m46.tr s61 _ _ rfl rfl
                have K64 := K45.tr K60
                refine h_lload hC dX0_writeNumber_128 rfl ?_
                refine h_ldc2 hC dX0_writeNumber_130 kw_1803 ?_
                refine h_ldiv hC dX0_writeNumber_133 (by decide) ?_
                refine h_vl (fun x65 ex65 => ?_)
                refine h_lstore (lv' := [some (.ref (gO' Y 6)), some (.int x), some (.int y), some (.long x2), none, some (.long x65), none, none, some (.int (nI j37))]) hC dX0_writeNumber_134 (Nat.le_of_ble_eq_true rfl) rfl rfl ?_
                obtain ⟨x66, ex66⟩ : ∃ y : Int32, y = (nI j37) + 1 := ⟨_, rfl⟩
                refine h_iinc (v := x66) (lv' := [some (.ref (gO' Y 6)), some (.int x), some (.int y), some (.long x2), none, some (.long x65), none, none, some (.int x66)]) hC dX0_writeNumber_136 rfl (by rw [ex66]; rfl) rfl rfl ?_
                refine h_goto (tgt := 98) hC dX0_writeNumber_139 (by decide) ?_
                have zJx66 : x66 = nI (j37 + 1) := by rw [ex66]; exact nI_suc
                subst zJx66
                refine h_lv (lv' := [some (.ref (gO' Y 6)), some (.int x), some (.int y), some (.long x2), none, some (.long x65), none, none, some (.int (nI (j37 + 1)))]) (by repeat (first | exact trivial | refine ⟨rfl, ?_⟩ | exact trivial)) ?_
                exact ih38 (m36 - 1) (by omega) (j37 + 1) (by omega) _ S58 x65 I59 o56 K64 m63 (by omega)
          refine h_lv (lv' := [some (.ref (gO' Y 6)), some (.int x), some (.int y), some (.long x2), none, some (.long x21), none, none, some (.int 0)]) (by repeat (first | exact trivial | refine ⟨rfl, ?_⟩ | exact trivial)) ?_
          exact L35 (11 - 0) 0 (by omega) (u29.1, u29.2.1, u29.2.2) S30 x21 I31 o32 K33 m34 (by omega)
        refine h_if_ge (tgt := 95) hC dX0_writeNumber_86 (by decide) (fun c67 => ?_) (fun c67 => ?_)
        · refine h_lv (lv' := [some (.ref (gO' Y 6)), some (.int x), some (.int y), some (.long x2), none, some (.long x21), none, none, none]) (by repeat (first | exact trivial | refine ⟨rfl, ?_⟩ | exact trivial)) ?_
          exact J28 (u22.1, u22.2.1, u22.2.2) S23  I24 o25 K26 m27 (by omega)
        · refine h_aload_n hC dX0_writeNumber_89 rfl ?_
          refine h_bipush (v := 45) hC dX0_writeNumber_90 rfl ?_
          refine h_callVv (As := [.int 45]) hC hr o25 rfl (I24.1.o 6 (by decide)) (s_C_write X.la d b Y c _ _ _ I24 (by omega) 45) cl_X0_81 rfl rfl (Nat.le_of_ble_eq_true rfl) (hFr_of (Nat.le_of_ble_eq_true rfl) (Nat.le_of_ble_eq_true rfl)) dX0_writeNumber_92 (fun u68 p69 o70 => ?_)
          obtain ⟨S72, I73, K74, s75, q76⟩ := p69
          have m77 : gSm S S72 [38, 39] [] := m27.tr s75 _ _ rfl rfl
          have K78 := K26.tr K74
          refine h_lv (lv' := [some (.ref (gO' Y 6)), some (.int x), some (.int y), some (.long x2), none, some (.long x21), none, none, none]) (by repeat (first | exact trivial | refine ⟨rfl, ?_⟩ | exact trivial)) ?_
          exact J28 (u68.1, u68.2.1, u68.2.2) S72  I73 o70 K78 m77 (by omega)
      obtain ⟨L0, hL0, eL0⟩ := iL
      subst eL0
      have L79 : ∀ (m80 j81 : Nat), j81 + m80 = 2147483647 → ∀ (u84 : hU) (S85 : gSt), hI d b Y c u84 S85 → hOk X b u84.2.1 u84.2.2 → gKp Y F u84.1 → gSm S S85 [38, 39] [] → (gPsi S85 ≤ gPsi S) → hG X d b (MQ X.be (va_Qv (fun u => ∃ S', hI d b Y c u S' ∧ gKp Y F u.1 ∧ gSm S S' [38, 39] [] ∧ gPsi S' ≤ gPsi S) (hB d b) (fun q => b ≤ q)) X.ar X.st mc ms (fun q => b ≤ q)) u84.1 u84.2.1 u84.2.2 62 [some (.ref (gO' Y 6)), some (.int x), some (.int y), some (.long x2), none, some (.long x13), none, none, some (.int (nI j81))] [] := by
        intro m80
        refine Nat.strongRecOn m80 (fun m80 ih82 j81 hj83 u84 S85 I86 o87 K88 m89 ips => ?_)
        refine h_iload hC dX0_writeNumber_62 rfl ?_
        refine h_iload_n hC dX0_writeNumber_64 rfl ?_
        refine h_bipush (v := 100) hC dX0_writeNumber_65 rfl ?_
        refine h_min hC hr o87 kw_1804 rfl ⟨Nat.le_of_ble_eq_true rfl, Nat.le_of_ble_eq_true rfl⟩ (Nat.le_of_ble_eq_true rfl) dX0_writeNumber_67 ?_
        refine h_vi (fun x90 ex90 => ?_)
        refine h_icmp_ge (tgt := 85) hC dX0_writeNumber_70 (by decide) (fun c91 => ?_) (fun c91 => ?_)
        · refine h_lv (lv' := [some (.ref (gO' Y 6)), some (.int x), some (.int y), some (.long x2), none, some (.long x13), none, none, none]) (by repeat (first | exact trivial | refine ⟨rfl, ?_⟩ | exact trivial)) ?_
          exact J20 (u84.1, u84.2.1, u84.2.2) S85 x13 I86 o87 K88 m89 (by omega)
        · have hlt := nI_ltP (by omega) c91
          refine h_aload_n hC dX0_writeNumber_73 rfl ?_
          refine h_bipush (v := 32) hC dX0_writeNumber_74 rfl ?_
          refine h_callVv (As := [.int 32]) hC hr o87 rfl (I86.1.o 6 (by decide)) (s_C_write X.la d b Y c _ _ _ I86 (by omega) 32) cl_X0_81 rfl rfl (Nat.le_of_ble_eq_true rfl) (hFr_of (Nat.le_of_ble_eq_true rfl) (Nat.le_of_ble_eq_true rfl)) dX0_writeNumber_76 (fun u92 p93 o94 => ?_)
          obtain ⟨S96, I97, K98, s99, q100⟩ := p93
          have m101 : gSm S S96 [38, 39] [] := m89.tr s99 _ _ rfl rfl
          have K102 := K88.tr K98
          obtain ⟨x103, ex103⟩ : ∃ y : Int32, y = (nI j81) + 1 := ⟨_, rfl⟩
          refine h_iinc (v := x103) (lv' := [some (.ref (gO' Y 6)), some (.int x), some (.int y), some (.long x2), none, some (.long x13), none, none, some (.int x103)]) hC dX0_writeNumber_79 rfl (by rw [ex103]; rfl) rfl rfl ?_
          refine h_goto (tgt := 62) hC dX0_writeNumber_82 (by decide) ?_
          have zJx103 : x103 = nI (j81 + 1) := by rw [ex103]; exact nI_suc
          subst zJx103
          refine h_lv (lv' := [some (.ref (gO' Y 6)), some (.int x), some (.int y), some (.long x2), none, some (.long x13), none, none, some (.int (nI (j81 + 1)))]) (by repeat (first | exact trivial | refine ⟨rfl, ?_⟩ | exact trivial)) ?_
          exact ih82 (m80 - 1) (by omega) (j81 + 1) (by omega) _ S96  I97 o94 K102 m101 (by omega)
      refine h_lv (lv' := [some (.ref (gO' Y 6)), some (.int x), some (.int y), some (.long x2), none, some (.long x13), none, none, some (.int (nI L0))]) (by repeat (first | exact trivial | refine ⟨rfl, ?_⟩ | exact trivial)) ?_
      exact L79 (2147483647 - L0) L0 (by omega) (u14.1, u14.2.1, u14.2.2) S15  I16 o17 K18 m19 (by omega)
    have L104 : ∀ (m105 j106 : Nat), j106 + m105 = 10 → ∀ (u111 : hU) (S112 : gSt) (x109 : Int32) (x110 : Int64), hI d b Y c u111 S112 → hOk X b u111.2.1 u111.2.2 → gKp Y F u111.1 → gSm S S112 [38, 39] [] → (gPsi S112 ≤ gPsi S) → (∃ L, L ≤ 2 + j106 ∧ x109 = nI L) → (x110 = up10 j106) → hG X d b (MQ X.be (va_Qv (fun u => ∃ S', hI d b Y c u S' ∧ gKp Y F u.1 ∧ gSm S S' [38, 39] [] ∧ gPsi S' ≤ gPsi S) (hB d b) (fun q => b ≤ q)) X.ar X.st mc ms (fun q => b ≤ q)) u111.1 u111.2.1 u111.2.2 23 [some (.ref (gO' Y 6)), some (.int x), some (.int y), some (.long x2), none, some (.long x110), none, some (.int x109), some (.int (nI j106))] [] := by
      intro m105
      refine Nat.strongRecOn m105 (fun m105 ih107 j106 hj108 u111 S112 x109 x110 I113 o114 K115 m116 ips iL iU => ?_)
      refine h_iload hC dX0_writeNumber_23 rfl ?_
      refine h_bipush (v := 10) hC dX0_writeNumber_25 rfl ?_
      refine h_icmp_ge (tgt := 58) hC dX0_writeNumber_27 (by decide) (fun c117 => ?_) (fun c117 => ?_)
      · refine h_lv (lv' := [some (.ref (gO' Y 6)), some (.int x), some (.int y), some (.long x2), none, some (.long x110), none, some (.int x109), none]) (by repeat (first | exact trivial | refine ⟨rfl, ?_⟩ | exact trivial)) ?_
        exact J11 (u111.1, u111.2.1, u111.2.2) S112 x109 x110 I113 o114 K115 m116 (by omega) (by obtain ⟨L, h1, h2⟩ := iL; exact ⟨L, by omega, h2⟩)
      · have hlt := nI_lt10 (by omega) c117
        refine h_lload_n hC dX0_writeNumber_30 rfl ?_
        refine h_lload hC dX0_writeNumber_31 rfl ?_
        refine h_ldiv hC dX0_writeNumber_33 (by rw [iU]; exact up10_nz _ (by omega)) ?_
        refine h_vl (fun x118 ex118 => ?_)
        refine h_ldc2 hC dX0_writeNumber_34 kw_1803 ?_
        refine h_lcmp hC dX0_writeNumber_37 ?_
        refine h_vi (fun x119 ex119 => ?_)
        refine h_if_lt (tgt := 58) hC dX0_writeNumber_38 (by decide) (fun c120 => ?_) (fun c120 => ?_)
        · refine h_lv (lv' := [some (.ref (gO' Y 6)), some (.int x), some (.int y), some (.long x2), none, some (.long x110), none, some (.int x109), none]) (by repeat (first | exact trivial | refine ⟨rfl, ?_⟩ | exact trivial)) ?_
          exact J11 (u111.1, u111.2.1, u111.2.2) S112 x109 x110 I113 o114 K115 m116 (by omega) (by obtain ⟨L, h1, h2⟩ := iL; exact ⟨L, by omega, h2⟩)
        · refine h_lload hC dX0_writeNumber_41 rfl ?_
          refine h_ldc2 hC dX0_writeNumber_43 kw_1803 ?_
          refine h_lmul hC dX0_writeNumber_46 ?_
          refine h_vl (fun x121 ex121 => ?_)
          refine h_lstore (lv' := [some (.ref (gO' Y 6)), some (.int x), some (.int y), some (.long x2), none, some (.long x121), none, some (.int x109), some (.int (nI j106))]) hC dX0_writeNumber_47 (Nat.le_of_ble_eq_true rfl) rfl rfl ?_
          obtain ⟨x122, ex122⟩ : ∃ y : Int32, y = x109 + 1 := ⟨_, rfl⟩
          refine h_iinc (v := x122) (lv' := [some (.ref (gO' Y 6)), some (.int x), some (.int y), some (.long x2), none, some (.long x121), none, some (.int x122), some (.int (nI j106))]) hC dX0_writeNumber_49 rfl (by rw [ex122]; rfl) rfl rfl ?_
          obtain ⟨x123, ex123⟩ : ∃ y : Int32, y = (nI j106) + 1 := ⟨_, rfl⟩
          refine h_iinc (v := x123) (lv' := [some (.ref (gO' Y 6)), some (.int x), some (.int y), some (.long x2), none, some (.long x121), none, some (.int x122), some (.int x123)]) hC dX0_writeNumber_52 rfl (by rw [ex123]; rfl) rfl rfl ?_
          refine h_goto (tgt := 23) hC dX0_writeNumber_55 (by decide) ?_
          have zJx123 : x123 = nI (j106 + 1) := by rw [ex123]; exact nI_suc
          subst zJx123
          refine h_lv (lv' := [some (.ref (gO' Y 6)), some (.int x), some (.int y), some (.long x2), none, some (.long x121), none, some (.int x122), some (.int (nI (j106 + 1)))]) (by repeat (first | exact trivial | refine ⟨rfl, ?_⟩ | exact trivial)) ?_
          exact ih107 (m105 - 1) (by omega) (j106 + 1) (by omega) _ S112 x122 x121 I113 o114 K115 m116 (by omega) (by obtain ⟨L, h1, h2⟩ := iL; exact ⟨L + 1, by omega, by rw [ex122, h2]; exact nI_suc⟩) (by rw [ex121, iU]; rfl)
    refine h_lv (lv' := [some (.ref (gO' Y 6)), some (.int x), some (.int y), some (.long x2), none, some (.long 1), none, some (.int x4), some (.int 0)]) (by repeat (first | exact trivial | refine ⟨rfl, ?_⟩ | exact trivial)) ?_
    exact L104 (10 - 0) 0 (by omega) (u5.1, u5.2.1, u5.2.2) S6 x4 1 I7 o8 K9 m10 (by omega) (by obtain ⟨L, h1, h2⟩ := iL; exact ⟨L, by omega, h2⟩) (rfl)
  refine h_iload_n hC dX0_writeNumber_9 rfl ?_
  refine h_if_ge (tgt := 17) hC dX0_writeNumber_10 (by decide) (fun c124 => ?_) (fun c124 => ?_)
  · refine h_iconst (v := 1) hC dX0_writeNumber_17 rfl ?_
    refine h_istore (lv' := [some (.ref (gO' Y 6)), some (.int x), some (.int y), some (.long x2), none, some (.long 1), none, some (.int 1), none]) hC dX0_writeNumber_18 (Nat.le_of_ble_eq_true rfl) rfl rfl ?_
    refine h_lv (lv' := [some (.ref (gO' Y 6)), some (.int x), some (.int y), some (.long x2), none, some (.long 1), none, some (.int 1), none]) (by repeat (first | exact trivial | refine ⟨rfl, ?_⟩ | exact trivial)) ?_
    exact J3 (F, k, n) S 1 hi ho gKp.rf gSm.rf (by omega) (⟨1, by omega, rfl⟩)
  · refine h_iconst (v := 2) hC dX0_writeNumber_13 rfl ?_
    refine h_goto (tgt := 18) hC dX0_writeNumber_14 (by decide) ?_
    refine h_istore (lv' := [some (.ref (gO' Y 6)), some (.int x), some (.int y), some (.long x2), none, some (.long 1), none, some (.int 2), none]) hC dX0_writeNumber_18 (Nat.le_of_ble_eq_true rfl) rfl rfl ?_
    refine h_lv (lv' := [some (.ref (gO' Y 6)), some (.int x), some (.int y), some (.long x2), none, some (.long 1), none, some (.int 2), none]) (by repeat (first | exact trivial | refine ⟨rfl, ?_⟩ | exact trivial)) ?_
    exact J3 (F, k, n) S 2 hi ho gKp.rf gSm.rf (by omega) (⟨2, by omega, rfl⟩)
