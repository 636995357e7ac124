set_option maxHeartbeats 40000000 in
set_option maxRecDepth 100000 in
theorem la_0 {nm : String} {d : gD} {b : Nat} {X : gX} {Q : State → Prop} {b0 L : Nat} {xs : Nat → Int32} (hC : gC RL cL_law 7 (some .boolean) nm room_1 d b X) (hr : hRm X b) (hX : va_X b0 L xs X.st X.st.heap) (hb : b0 < X.st.heap.size) (hb2 : b0 < b) {o r z i lc lr : Nat} {u : hU} {v0 : Value} {fs : List Value} (ho : hOk X b u.2.1 u.2.2) (hi : 6 * i + 6 ≤ L) (hL : L ≤ 384) (fo : u.1 o = .inr (11, v0 :: fs)) (h1 : lc ≤ 1290) (h2 : lr ≤ 1300) {M : Int32 → Int32 → Int32 → Int32 → Int32 → Int32 → hU → Prop} {N : hU → Prop} (C : ∀ (a0 a1 a2 a3 a4 : Int32), ∃ P : Int32 → hU → Prop, hMi X.la d b yX11_feed cX11_feed 6 .boolean lc u.2.1 u.2.2 u.1 [.ref o, .int a0, .int a1, .int a2, .int a3, .int a4] P ∧ ∀ x u, P x u → M a0 a1 a2 a3 a4 x u) (fr : ∀ (a0 a1 a2 a3 a4 : Int32) (x : Int32) (u : hU), M a0 a1 a2 a3 a4 x u → ∃ v fs, u.1 r = .inr (12, v :: fs)) (D : ∀ (a0 a1 a2 a3 a4 : Int32) (x : Int32) (u : hU), M a0 a1 a2 a3 a4 x u → ∃ P : Int32 → gM → Prop, gMi X.la d b yX12_feed cX12_feed 8 .boolean lr 0 0 u.1 [.ref r, .int a0, .int a1, .int a2, .int a3, .int a4] P ∧ ∀ y F', P y F' → N (F', u.2.1, u.2.2)) (END : ∀ u : hU, N u → hOk X b u.2.1 u.2.2 → hG X d b Q u.1 u.2.1 u.2.2 422 [some (.ref b0), some (.ref o), some (.ref r), some (.ref z), some (.int (nI (6 * i))), none, none] []) : hG X d b Q u.1 u.2.1 u.2.2 104 [some (.ref b0), some (.ref o), some (.ref r), some (.ref z), some (.int (nI (6 * i))), none, none] [] := by
  refine h_aload_n hC dL_law_104 rfl ?_
  refine h_aload_n hC dL_law_105 rfl ?_
  refine h_iload hC dL_law_106 rfl ?_
  refine h_iconst (v := 1) hC dL_law_108 rfl ?_
  refine h_iadd hC dL_law_109 ?_
  refine h_vi (fun x1 ex1 => ?_)
  refine h_sld hC hX hb hb2 (law_in (j := 1) ex1 (by decide) (by omega) hL) dL_law_110 ?_
  refine h_vi (fun x2 ex2 => ?_)
  refine h_aload_n hC dL_law_111 rfl ?_
  refine h_iload hC dL_law_112 rfl ?_
  refine h_iconst (v := 2) hC dL_law_114 rfl ?_
  refine h_iadd hC dL_law_115 ?_
  refine h_vi (fun x3 ex3 => ?_)
  refine h_sld hC hX hb hb2 (law_in (j := 2) ex3 (by decide) (by omega) hL) dL_law_116 ?_
  refine h_vi (fun x4 ex4 => ?_)
  refine h_aload_n hC dL_law_117 rfl ?_
  refine h_iload hC dL_law_118 rfl ?_
  refine h_iconst (v := 3) hC dL_law_120 rfl ?_
  refine h_iadd hC dL_law_121 ?_
  refine h_vi (fun x5 ex5 => ?_)
  refine h_sld hC hX hb hb2 (law_in (j := 3) ex5 (by decide) (by omega) hL) dL_law_122 ?_
  refine h_vi (fun x6 ex6 => ?_)
  refine h_aload_n hC dL_law_123 rfl ?_
  refine h_iload hC dL_law_124 rfl ?_
  refine h_iconst (v := 4) hC dL_law_126 rfl ?_
  refine h_iadd hC dL_law_127 ?_
  refine h_vi (fun x7 ex7 => ?_)
  refine h_sld hC hX hb hb2 (law_in (j := 4) ex7 (by decide) (by omega) hL) dL_law_128 ?_
  refine h_vi (fun x8 ex8 => ?_)
  refine h_aload_n hC dL_law_129 rfl ?_
  refine h_iload hC dL_law_130 rfl ?_
  refine h_iconst (v := 5) hC dL_law_132 rfl ?_
  refine h_iadd hC dL_law_133 ?_
  refine h_vi (fun x9 ex9 => ?_)
  refine h_sld hC hX hb hb2 (law_in (j := 5) ex9 (by decide) (by omega) hL) dL_law_134 ?_
  refine h_vi (fun x10 ex10 => ?_)
  obtain ⟨Pc, C0, C1⟩ := C x2 x4 x6 x8 x10
  refine h_callVi (As := [.int x2, .int x4, .int x6, .int x8, .int x10]) hC hr ho rfl fo C0 cl_L_23 rfl rfl (Nat.le_of_ble_eq_true rfl) (hFr_law (by omega) (by decide)) dL_law_135 (fun ra u1 p0 o1 => ?_)
  have p1 := C1 _ _ p0
  obtain ⟨w1, ws1, fr1⟩ := fr _ _ _ _ _ _ _ p1
  refine h_pop hC dL_law_138 rfl ?_
  refine h_aload_n hC dL_law_139 rfl ?_
  refine h_aload_n hC dL_law_140 rfl ?_
  refine h_iload hC dL_law_141 rfl ?_
  refine h_iconst (v := 1) hC dL_law_143 rfl ?_
  refine h_iadd hC dL_law_144 ?_
  refine h_vi (fun x11 ex11 => ?_)
  refine h_sld hC hX hb hb2 (law_in (j := 1) ex11 (by decide) (by omega) hL) dL_law_145 ?_
  refine h_vi (fun x12 ex12 => ?_)
  rw [show x12 = x2 from by rw [ex12, ex2, ex11, ex1]]
  refine h_aload_n hC dL_law_146 rfl ?_
  refine h_iload hC dL_law_147 rfl ?_
  refine h_iconst (v := 2) hC dL_law_149 rfl ?_
  refine h_iadd hC dL_law_150 ?_
  refine h_vi (fun x13 ex13 => ?_)
  refine h_sld hC hX hb hb2 (law_in (j := 2) ex13 (by decide) (by omega) hL) dL_law_151 ?_
  refine h_vi (fun x14 ex14 => ?_)
  rw [show x14 = x4 from by rw [ex14, ex4, ex13, ex3]]
  refine h_aload_n hC dL_law_152 rfl ?_
  refine h_iload hC dL_law_153 rfl ?_
  refine h_iconst (v := 3) hC dL_law_155 rfl ?_
  refine h_iadd hC dL_law_156 ?_
  refine h_vi (fun x15 ex15 => ?_)
  refine h_sld hC hX hb hb2 (law_in (j := 3) ex15 (by decide) (by omega) hL) dL_law_157 ?_
  refine h_vi (fun x16 ex16 => ?_)
  rw [show x16 = x6 from by rw [ex16, ex6, ex15, ex5]]
  refine h_aload_n hC dL_law_158 rfl ?_
  refine h_iload hC dL_law_159 rfl ?_
  refine h_iconst (v := 4) hC dL_law_161 rfl ?_
  refine h_iadd hC dL_law_162 ?_
  refine h_vi (fun x17 ex17 => ?_)
  refine h_sld hC hX hb hb2 (law_in (j := 4) ex17 (by decide) (by omega) hL) dL_law_163 ?_
  refine h_vi (fun x18 ex18 => ?_)
  rw [show x18 = x8 from by rw [ex18, ex8, ex17, ex7]]
  refine h_aload_n hC dL_law_164 rfl ?_
  refine h_iload hC dL_law_165 rfl ?_
  refine h_iconst (v := 5) hC dL_law_167 rfl ?_
  refine h_iadd hC dL_law_168 ?_
  refine h_vi (fun x19 ex19 => ?_)
  refine h_sld hC hX hb hb2 (law_in (j := 5) ex19 (by decide) (by omega) hL) dL_law_169 ?_
  refine h_vi (fun x20 ex20 => ?_)
  rw [show x20 = x10 from by rw [ex20, ex10, ex19, ex9]]
  obtain ⟨Pd, D0, D1⟩ := D _ _ _ _ _ _ _ p1
  refine g_callVi (As := [.int x2, .int x4, .int x6, .int x8, .int x10]) hC rfl fr1 D0 cl_L_27 rfl rfl (Nat.le_of_ble_eq_true rfl) (h_fit0 hC hr o1 (hFr_law (by omega) (by decide))) dL_law_170 (fun rb F2 p3 => ?_)
  have p2 := D1 _ _ p3
  refine h_same hC o1 ?_
  refine h_pop hC dL_law_173 rfl ?_
  refine h_goto (tgt := 422) hC dL_law_174 (by decide) ?_
  refine h_lv (lv' := [some (.ref b0), some (.ref o), some (.ref r), some (.ref z), some (.int (nI (6 * i))), none, none]) (by repeat (first | exact trivial | refine ⟨rfl, ?_⟩ | exact trivial)) ?_
  exact END (F2, u1.2.1, u1.2.2) p2 o1
set_option maxHeartbeats 40000000 in
set_option maxRecDepth 100000 in
theorem la_1 {nm : String} {d : gD} {b : Nat} {X : gX} {Q : State → Prop} {b0 L : Nat} {xs : Nat → Int32} (hC : gC RL cL_law 7 (some .boolean) nm room_1 d b X) (hr : hRm X b) (hX : va_X b0 L xs X.st X.st.heap) (hb : b0 < X.st.heap.size) (hb2 : b0 < b) {o r z i lc lr : Nat} {u : hU} {v0 : Value} {fs : List Value} (ho : hOk X b u.2.1 u.2.2) (hi : 6 * i + 6 ≤ L) (hL : L ≤ 384) (fo : u.1 o = .inr (11, v0 :: fs)) (h1 : lc ≤ 1290) (h2 : lr ≤ 1300) {M : Int32 → Int32 → hU → Prop} {N : hU → Prop} (C : ∀ (a0 : Int32), ∃ P : Int32 → hU → Prop, hMi X.la d b yX11_end cX11_end 2 .boolean lc u.2.1 u.2.2 u.1 [.ref o, .int a0] P ∧ ∀ x u, P x u → M a0 x u) (fr : ∀ (a0 : Int32) (x : Int32) (u : hU), M a0 x u → ∃ v fs, u.1 r = .inr (12, v :: fs)) (D : ∀ (a0 : Int32) (x : Int32) (u : hU), M a0 x u → ∃ P : Int32 → gM → Prop, gMi X.la d b yX12_end cX12_end 2 .boolean lr 0 0 u.1 [.ref r, .int a0] P ∧ ∀ y F', P y F' → N (F', u.2.1, u.2.2)) (END : ∀ u : hU, N u → hOk X b u.2.1 u.2.2 → hG X d b Q u.1 u.2.1 u.2.2 422 [some (.ref b0), some (.ref o), some (.ref r), some (.ref z), some (.int (nI (6 * i))), none, none] []) : hG X d b Q u.1 u.2.1 u.2.2 177 [some (.ref b0), some (.ref o), some (.ref r), some (.ref z), some (.int (nI (6 * i))), none, none] [] := by
  refine h_aload_n hC dL_law_177 rfl ?_
  refine h_aload_n hC dL_law_178 rfl ?_
  refine h_iload hC dL_law_179 rfl ?_
  refine h_iconst (v := 1) hC dL_law_181 rfl ?_
  refine h_iadd hC dL_law_182 ?_
  refine h_vi (fun x1 ex1 => ?_)
  refine h_sld hC hX hb hb2 (law_in (j := 1) ex1 (by decide) (by omega) hL) dL_law_183 ?_
  refine h_vi (fun x2 ex2 => ?_)
  obtain ⟨Pc, C0, C1⟩ := C x2
  refine h_callVi (As := [.int x2]) hC hr ho rfl fo C0 cl_L_28 rfl rfl (Nat.le_of_ble_eq_true rfl) (hFr_law (by omega) (by decide)) dL_law_184 (fun ra u1 p0 o1 => ?_)
  have p1 := C1 _ _ p0
  obtain ⟨w1, ws1, fr1⟩ := fr _ _ _ p1
  refine h_pop hC dL_law_187 rfl ?_
  refine h_aload_n hC dL_law_188 rfl ?_
  refine h_aload_n hC dL_law_189 rfl ?_
  refine h_iload hC dL_law_190 rfl ?_
  refine h_iconst (v := 1) hC dL_law_192 rfl ?_
  refine h_iadd hC dL_law_193 ?_
  refine h_vi (fun x3 ex3 => ?_)
  refine h_sld hC hX hb hb2 (law_in (j := 1) ex3 (by decide) (by omega) hL) dL_law_194 ?_
  refine h_vi (fun x4 ex4 => ?_)
  rw [show x4 = x2 from by rw [ex4, ex2, ex3, ex1]]
  obtain ⟨Pd, D0, D1⟩ := D _ _ _ p1
  refine g_callVi (As := [.int x2]) hC rfl fr1 D0 cl_L_32 rfl rfl (Nat.le_of_ble_eq_true rfl) (h_fit0 hC hr o1 (hFr_law (by omega) (by decide))) dL_law_195 (fun rb F2 p3 => ?_)
  have p2 := D1 _ _ p3
  refine h_same hC o1 ?_
  refine h_pop hC dL_law_198 rfl ?_
  refine h_goto (tgt := 422) hC dL_law_199 (by decide) ?_
  refine h_lv (lv' := [some (.ref b0), some (.ref o), some (.ref r), some (.ref z), some (.int (nI (6 * i))), none, none]) (by repeat (first | exact trivial | refine ⟨rfl, ?_⟩ | exact trivial)) ?_
  exact END (F2, u1.2.1, u1.2.2) p2 o1
set_option maxHeartbeats 40000000 in
set_option maxRecDepth 100000 in
theorem la_2 {nm : String} {d : gD} {b : Nat} {X : gX} {Q : State → Prop} {b0 L : Nat} {xs : Nat → Int32} (hC : gC RL cL_law 7 (some .boolean) nm room_1 d b X) (hr : hRm X b) (hX : va_X b0 L xs X.st X.st.heap) (hb : b0 < X.st.heap.size) (hb2 : b0 < b) {o r z i lc lr : Nat} {u : hU} {v0 : Value} {fs : List Value} (ho : hOk X b u.2.1 u.2.2) (hi : 6 * i + 6 ≤ L) (hL : L ≤ 384) (fo : u.1 o = .inr (11, v0 :: fs)) (h1 : lc ≤ 1290) (h2 : lr ≤ 1300) {M : Int32 → hU → Prop} {N : hU → Prop} (C : ∃ P : Int32 → hU → Prop, hMi X.la d b yX11_compile cX11_compile 1 .int lc u.2.1 u.2.2 u.1 [.ref o] P ∧ ∀ x u, P x u → M x u) (fr : ∀ (x : Int32) (u : hU), M x u → ∃ v fs, u.1 r = .inr (12, v :: fs)) (D : ∀ (x : Int32) (u : hU), M x u → ∃ P : Int32 → gM → Prop, gMi X.la d b yX12_compile cX12_compile 2 .int lr 0 0 u.1 [.ref r] P ∧ ∀ y F', P y F' → N (F', u.2.1, u.2.2)) (END : ∀ u : hU, N u → hOk X b u.2.1 u.2.2 → hG X d b Q u.1 u.2.1 u.2.2 422 [some (.ref b0), some (.ref o), some (.ref r), some (.ref z), some (.int (nI (6 * i))), none, none] []) : hG X d b Q u.1 u.2.1 u.2.2 202 [some (.ref b0), some (.ref o), some (.ref r), some (.ref z), some (.int (nI (6 * i))), none, none] [] := by
  refine h_aload_n hC dL_law_202 rfl ?_
  obtain ⟨Pc, C0, C1⟩ := C
  refine h_callVi (As := []) hC hr ho rfl fo C0 cl_L_33 rfl rfl (Nat.le_of_ble_eq_true rfl) (hFr_law (by omega) (by decide)) dL_law_203 (fun ra u1 p0 o1 => ?_)
  have p1 := C1 _ _ p0
  obtain ⟨w1, ws1, fr1⟩ := fr _ _ p1
  refine h_pop hC dL_law_206 rfl ?_
  refine h_aload_n hC dL_law_207 rfl ?_
  obtain ⟨Pd, D0, D1⟩ := D  _ _ p1
  refine g_callVi (As := []) hC rfl fr1 D0 cl_L_37 rfl rfl (Nat.le_of_ble_eq_true rfl) (h_fit0 hC hr o1 (hFr_law (by omega) (by decide))) dL_law_208 (fun rb F2 p3 => ?_)
  have p2 := D1 _ _ p3
  refine h_same hC o1 ?_
  refine h_pop hC dL_law_211 rfl ?_
  refine h_goto (tgt := 422) hC dL_law_212 (by decide) ?_
  refine h_lv (lv' := [some (.ref b0), some (.ref o), some (.ref r), some (.ref z), some (.int (nI (6 * i))), none, none]) (by repeat (first | exact trivial | refine ⟨rfl, ?_⟩ | exact trivial)) ?_
  exact END (F2, u1.2.1, u1.2.2) p2 o1
set_option maxHeartbeats 40000000 in
set_option maxRecDepth 100000 in
theorem la_3 {nm : String} {d : gD} {b : Nat} {X : gX} {Q : State → Prop} {b0 L : Nat} {xs : Nat → Int32} (hC : gC RL cL_law 7 (some .boolean) nm room_1 d b X) (hr : hRm X b) (hX : va_X b0 L xs X.st X.st.heap) (hb : b0 < X.st.heap.size) (hb2 : b0 < b) {o r z i lc lr : Nat} {u : hU} {v0 : Value} {fs : List Value} (ho : hOk X b u.2.1 u.2.2) (hi : 6 * i + 6 ≤ L) (hL : L ≤ 384) (fo : u.1 o = .inr (11, v0 :: fs)) (h1 : lc ≤ 1290) (h2 : lr ≤ 1300) {M : Int32 → hU → Prop} {N : hU → Prop} (C : ∃ P : Int32 → gM → Prop, gMi X.la d b yX11_fault cX11_fault 1 .int lc 0 0 u.1 [.ref o] P ∧ ∀ x F', P x F' → M x (F', u.2.1, u.2.2)) (fr : ∀ (x : Int32) (u : hU), M x u → ∃ v fs, u.1 r = .inr (12, v :: fs)) (D : ∀ (x : Int32) (u : hU), M x u → ∃ P : Int32 → gM → Prop, gMi X.la d b yX12_fault_ cX12_fault_ 1 .int lr 0 0 u.1 [.ref r] P ∧ ∀ y F', P y F' → N (F', u.2.1, u.2.2)) (END : ∀ u : hU, N u → hOk X b u.2.1 u.2.2 → hG X d b Q u.1 u.2.1 u.2.2 422 [some (.ref b0), some (.ref o), some (.ref r), some (.ref z), some (.int (nI (6 * i))), none, none] []) : hG X d b Q u.1 u.2.1 u.2.2 215 [some (.ref b0), some (.ref o), some (.ref r), some (.ref z), some (.int (nI (6 * i))), none, none] [] := by
  refine h_aload_n hC dL_law_215 rfl ?_
  obtain ⟨Pc, C0, C1⟩ := C
  refine g_callVi (As := []) hC rfl fo C0 cl_L_38 rfl rfl (Nat.le_of_ble_eq_true rfl) (h_fit0 hC hr ho (hFr_law (by omega) (by decide))) dL_law_216 (fun ra F1 p0 => ?_)
  refine h_same hC ho ?_
  have p1 := C1 _ _ p0
  obtain ⟨w1, ws1, fr1⟩ := fr _ _ p1
  refine h_pop hC dL_law_219 rfl ?_
  refine h_aload_n hC dL_law_220 rfl ?_
  obtain ⟨Pd, D0, D1⟩ := D  _ _ p1
  refine g_callVi (As := []) hC rfl fr1 D0 cl_L_41 rfl rfl (Nat.le_of_ble_eq_true rfl) (h_fit0 hC hr ho (hFr_law (by omega) (by decide))) dL_law_221 (fun rb F2 p3 => ?_)
  have p2 := D1 _ _ p3
  refine h_same hC ho ?_
  refine h_pop hC dL_law_224 rfl ?_
  refine h_goto (tgt := 422) hC dL_law_225 (by decide) ?_
  refine h_lv (lv' := [some (.ref b0), some (.ref o), some (.ref r), some (.ref z), some (.int (nI (6 * i))), none, none]) (by repeat (first | exact trivial | refine ⟨rfl, ?_⟩ | exact trivial)) ?_
  exact END (F2, u.2.1, u.2.2) p2 ho
set_option maxHeartbeats 40000000 in
set_option maxRecDepth 100000 in
theorem la_4 {nm : String} {d : gD} {b : Nat} {X : gX} {Q : State → Prop} {b0 L : Nat} {xs : Nat → Int32} (hC : gC RL cL_law 7 (some .boolean) nm room_1 d b X) (hr : hRm X b) (hX : va_X b0 L xs X.st X.st.heap) (hb : b0 < X.st.heap.size) (hb2 : b0 < b) {o r z i lc lr : Nat} {u : hU} {v0 : Value} {fs : List Value} (ho : hOk X b u.2.1 u.2.2) (hi : 6 * i + 6 ≤ L) (hL : L ≤ 384) (fo : u.1 o = .inr (11, v0 :: fs)) (h1 : lc ≤ 1290) (h2 : lr ≤ 1300) {M : Int32 → Int32 → hU → Prop} {N : hU → Prop} (C : ∀ (a0 : Int32), ∃ P : Int32 → gM → Prop, gMi X.la d b yX11_store cX11_store 2 .boolean lc 0 0 u.1 [.ref o, .int a0] P ∧ ∀ x F', P x F' → M a0 x (F', u.2.1, u.2.2)) (fr : ∀ (a0 : Int32) (x : Int32) (u : hU), M a0 x u → ∃ v fs, u.1 r = .inr (12, v :: fs)) (D : ∀ (a0 : Int32) (x : Int32) (u : hU), M a0 x u → ∃ P : Int32 → gM → Prop, gMi X.la d b yX12_store cX12_store 2 .boolean lr 0 0 u.1 [.ref r, .int a0] P ∧ ∀ y F', P y F' → N (F', u.2.1, u.2.2)) (END : ∀ u : hU, N u → hOk X b u.2.1 u.2.2 → hG X d b Q u.1 u.2.1 u.2.2 422 [some (.ref b0), some (.ref o), some (.ref r), some (.ref z), some (.int (nI (6 * i))), none, none] []) : hG X d b Q u.1 u.2.1 u.2.2 228 [some (.ref b0), some (.ref o), some (.ref r), some (.ref z), some (.int (nI (6 * i))), none, none] [] := by
  refine h_aload_n hC dL_law_228 rfl ?_
  refine h_aload_n hC dL_law_229 rfl ?_
  refine h_iload hC dL_law_230 rfl ?_
  refine h_iconst (v := 1) hC dL_law_232 rfl ?_
  refine h_iadd hC dL_law_233 ?_
  refine h_vi (fun x1 ex1 => ?_)
  refine h_sld hC hX hb hb2 (law_in (j := 1) ex1 (by decide) (by omega) hL) dL_law_234 ?_
  refine h_vi (fun x2 ex2 => ?_)
  obtain ⟨Pc, C0, C1⟩ := C x2
  refine g_callVi (As := [.int x2]) hC rfl fo C0 cl_L_42 rfl rfl (Nat.le_of_ble_eq_true rfl) (h_fit0 hC hr ho (hFr_law (by omega) (by decide))) dL_law_235 (fun ra F1 p0 => ?_)
  refine h_same hC ho ?_
  have p1 := C1 _ _ p0
  obtain ⟨w1, ws1, fr1⟩ := fr _ _ _ p1
  refine h_pop hC dL_law_238 rfl ?_
  refine h_aload_n hC dL_law_239 rfl ?_
  refine h_aload_n hC dL_law_240 rfl ?_
  refine h_iload hC dL_law_241 rfl ?_
  refine h_iconst (v := 1) hC dL_law_243 rfl ?_
  refine h_iadd hC dL_law_244 ?_
  refine h_vi (fun x3 ex3 => ?_)
  refine h_sld hC hX hb hb2 (law_in (j := 1) ex3 (by decide) (by omega) hL) dL_law_245 ?_
  refine h_vi (fun x4 ex4 => ?_)
  rw [show x4 = x2 from by rw [ex4, ex2, ex3, ex1]]
  obtain ⟨Pd, D0, D1⟩ := D _ _ _ p1
  refine g_callVi (As := [.int x2]) hC rfl fr1 D0 cl_L_45 rfl rfl (Nat.le_of_ble_eq_true rfl) (h_fit0 hC hr ho (hFr_law (by omega) (by decide))) dL_law_246 (fun rb F2 p3 => ?_)
  have p2 := D1 _ _ p3
  refine h_same hC ho ?_
  refine h_pop hC dL_law_249 rfl ?_
  refine h_goto (tgt := 422) hC dL_law_250 (by decide) ?_
  refine h_lv (lv' := [some (.ref b0), some (.ref o), some (.ref r), some (.ref z), some (.int (nI (6 * i))), none, none]) (by repeat (first | exact trivial | refine ⟨rfl, ?_⟩ | exact trivial)) ?_
  exact END (F2, u.2.1, u.2.2) p2 ho
set_option maxHeartbeats 40000000 in
set_option maxRecDepth 100000 in
theorem la_5 {nm : String} {d : gD} {b : Nat} {X : gX} {Q : State → Prop} {b0 L : Nat} {xs : Nat → Int32} (hC : gC RL cL_law 7 (some .boolean) nm room_1 d b X) (hr : hRm X b) (hX : va_X b0 L xs X.st X.st.heap) (hb : b0 < X.st.heap.size) (hb2 : b0 < b) {o r z i lc lr : Nat} {u : hU} {v0 : Value} {fs : List Value} (ho : hOk X b u.2.1 u.2.2) (hi : 6 * i + 6 ≤ L) (hL : L ≤ 384) (fo : u.1 o = .inr (11, v0 :: fs)) (h1 : lc ≤ 1290) (h2 : lr ≤ 1300) {M : Int32 → Int32 → hU → Prop} {N : hU → Prop} (C : ∀ (a0 : Int32), ∃ P : Int32 → hU → Prop, hMi X.la d b yX11_input cX11_input 3 .int lc u.2.1 u.2.2 u.1 [.ref o, .int a0] P ∧ ∀ x u, P x u → M a0 x u) (fr : ∀ (a0 : Int32) (x : Int32) (u : hU), M a0 x u → ∃ v fs, u.1 r = .inr (12, v :: fs)) (D : ∀ (a0 : Int32) (x : Int32) (u : hU), M a0 x u → ∃ P : Int32 → gM → Prop, gMi X.la d b yX12_input cX12_input 4 .int lr 0 0 u.1 [.ref r, .int a0] P ∧ ∀ y F', P y F' → y = x ∧ N (F', u.2.1, u.2.2)) (END : ∀ u : hU, N u → hOk X b u.2.1 u.2.2 → hG X d b Q u.1 u.2.1 u.2.2 422 [some (.ref b0), some (.ref o), some (.ref r), some (.ref z), some (.int (nI (6 * i))), none, none] []) : hG X d b Q u.1 u.2.1 u.2.2 253 [some (.ref b0), some (.ref o), some (.ref r), some (.ref z), some (.int (nI (6 * i))), none, none] [] := by
  refine h_aload_n hC dL_law_253 rfl ?_
  refine h_aload_n hC dL_law_254 rfl ?_
  refine h_iload hC dL_law_255 rfl ?_
  refine h_iconst (v := 1) hC dL_law_257 rfl ?_
  refine h_iadd hC dL_law_258 ?_
  refine h_vi (fun x1 ex1 => ?_)
  refine h_sld hC hX hb hb2 (law_in (j := 1) ex1 (by decide) (by omega) hL) dL_law_259 ?_
  refine h_vi (fun x2 ex2 => ?_)
  obtain ⟨Pc, C0, C1⟩ := C x2
  refine h_callVi (As := [.int x2]) hC hr ho rfl fo C0 cl_L_46 rfl rfl (Nat.le_of_ble_eq_true rfl) (hFr_law (by omega) (by decide)) dL_law_260 (fun ra u1 p0 o1 => ?_)
  have p1 := C1 _ _ p0
  obtain ⟨w1, ws1, fr1⟩ := fr _ _ _ p1
  refine h_aload_n hC dL_law_263 rfl ?_
  refine h_aload_n hC dL_law_264 rfl ?_
  refine h_iload hC dL_law_265 rfl ?_
  refine h_iconst (v := 1) hC dL_law_267 rfl ?_
  refine h_iadd hC dL_law_268 ?_
  refine h_vi (fun x3 ex3 => ?_)
  refine h_sld hC hX hb hb2 (law_in (j := 1) ex3 (by decide) (by omega) hL) dL_law_269 ?_
  refine h_vi (fun x4 ex4 => ?_)
  rw [show x4 = x2 from by rw [ex4, ex2, ex3, ex1]]
  obtain ⟨Pd, D0, D1⟩ := D _ _ _ p1
  refine g_callVi (As := [.int x2]) hC rfl fr1 D0 cl_L_49 rfl rfl (Nat.le_of_ble_eq_true rfl) (h_fit0 hC hr o1 (hFr_law (by omega) (by decide))) dL_law_270 (fun rb F2 p3 => ?_)
  have p2 := D1 _ _ p3
  refine h_same hC o1 ?_
  refine h_icmp_eq (tgt := 422) hC dL_law_273 (by decide) (fun _ => ?_) (fun q => absurd (p2.1.symm) q)
  refine h_lv (lv' := [some (.ref b0), some (.ref o), some (.ref r), some (.ref z), some (.int (nI (6 * i))), none, none]) (by repeat (first | exact trivial | refine ⟨rfl, ?_⟩ | exact trivial)) ?_
  exact END (F2, u1.2.1, u1.2.2) p2.2 o1
set_option maxHeartbeats 40000000 in
set_option maxRecDepth 100000 in
theorem la_6 {nm : String} {d : gD} {b : Nat} {X : gX} {Q : State → Prop} {b0 L : Nat} {xs : Nat → Int32} (hC : gC RL cL_law 7 (some .boolean) nm room_1 d b X) (hr : hRm X b) (hX : va_X b0 L xs X.st X.st.heap) (hb : b0 < X.st.heap.size) (hb2 : b0 < b) {o r z i lc lr : Nat} {u : hU} {v0 : Value} {fs : List Value} (ho : hOk X b u.2.1 u.2.2) (hi : 6 * i + 6 ≤ L) (hL : L ≤ 384) (fo : u.1 o = .inr (11, v0 :: fs)) (h1 : lc ≤ 1290) (h2 : lr ≤ 1300) {M : Int32 → Int32 → hU → Prop} {N : hU → Prop} (C : ∀ (a0 : Int32), ∃ P : Int32 → hU → Prop, hMi X.la d b yX11_run cX11_run 2 .int lc u.2.1 u.2.2 u.1 [.ref o, .int a0] P ∧ ∀ x u, P x u → M a0 x u) (fr : ∀ (a0 : Int32) (x : Int32) (u : hU), M a0 x u → ∃ v fs, u.1 r = .inr (12, v :: fs)) (D : ∀ (a0 : Int32) (x : Int32) (u : hU), M a0 x u → ∃ P : Int32 → gM → Prop, gMi X.la d b yX12_run cX12_run 3 .int lr 0 0 u.1 [.ref r, .int a0] P ∧ ∀ y F', P y F' → N (F', u.2.1, u.2.2)) (END : ∀ u : hU, N u → hOk X b u.2.1 u.2.2 → hG X d b Q u.1 u.2.1 u.2.2 422 [some (.ref b0), some (.ref o), some (.ref r), some (.ref z), some (.int (nI (6 * i))), none, none] []) : hG X d b Q u.1 u.2.1 u.2.2 278 [some (.ref b0), some (.ref o), some (.ref r), some (.ref z), some (.int (nI (6 * i))), none, none] [] := by
  refine h_aload_n hC dL_law_278 rfl ?_
  refine h_aload_n hC dL_law_279 rfl ?_
  refine h_iload hC dL_law_280 rfl ?_
  refine h_iconst (v := 1) hC dL_law_282 rfl ?_
  refine h_iadd hC dL_law_283 ?_
  refine h_vi (fun x1 ex1 => ?_)
  refine h_sld hC hX hb hb2 (law_in (j := 1) ex1 (by decide) (by omega) hL) dL_law_284 ?_
  refine h_vi (fun x2 ex2 => ?_)
  obtain ⟨Pc, C0, C1⟩ := C x2
  refine h_callVi (As := [.int x2]) hC hr ho rfl fo C0 cl_L_50 rfl rfl (Nat.le_of_ble_eq_true rfl) (hFr_law (by omega) (by decide)) dL_law_285 (fun ra u1 p0 o1 => ?_)
  have p1 := C1 _ _ p0
  obtain ⟨w1, ws1, fr1⟩ := fr _ _ _ p1
  refine h_pop hC dL_law_288 rfl ?_
  refine h_aload_n hC dL_law_289 rfl ?_
  refine h_aload_n hC dL_law_290 rfl ?_
  refine h_iload hC dL_law_291 rfl ?_
  refine h_iconst (v := 1) hC dL_law_293 rfl ?_
  refine h_iadd hC dL_law_294 ?_
  refine h_vi (fun x3 ex3 => ?_)
  refine h_sld hC hX hb hb2 (law_in (j := 1) ex3 (by decide) (by omega) hL) dL_law_295 ?_
  refine h_vi (fun x4 ex4 => ?_)
  rw [show x4 = x2 from by rw [ex4, ex2, ex3, ex1]]
  obtain ⟨Pd, D0, D1⟩ := D _ _ _ p1
  refine g_callVi (As := [.int x2]) hC rfl fr1 D0 cl_L_53 rfl rfl (Nat.le_of_ble_eq_true rfl) (h_fit0 hC hr o1 (hFr_law (by omega) (by decide))) dL_law_296 (fun rb F2 p3 => ?_)
  have p2 := D1 _ _ p3
  refine h_same hC o1 ?_
  refine h_pop hC dL_law_299 rfl ?_
  refine h_goto (tgt := 422) hC dL_law_300 (by decide) ?_
  refine h_lv (lv' := [some (.ref b0), some (.ref o), some (.ref r), some (.ref z), some (.int (nI (6 * i))), none, none]) (by repeat (first | exact trivial | refine ⟨rfl, ?_⟩ | exact trivial)) ?_
  exact END (F2, u1.2.1, u1.2.2) p2 o1
set_option maxHeartbeats 40000000 in
set_option maxRecDepth 100000 in
theorem la_7 {nm : String} {d : gD} {b : Nat} {X : gX} {Q : State → Prop} {b0 L : Nat} {xs : Nat → Int32} (hC : gC RL cL_law 7 (some .boolean) nm room_1 d b X) (hr : hRm X b) (hX : va_X b0 L xs X.st X.st.heap) (hb : b0 < X.st.heap.size) (hb2 : b0 < b) {o r z i lc lr : Nat} {u : hU} {v0 : Value} {fs : List Value} (ho : hOk X b u.2.1 u.2.2) (hi : 6 * i + 6 ≤ L) (hL : L ≤ 384) (fo : u.1 o = .inr (11, v0 :: fs)) (h1 : lc ≤ 1290) (h2 : lr ≤ 1300) {M : Int32 → hU → Prop} {N : hU → Prop} (C : ∃ P : Int32 → gM → Prop, gMi X.la d b yX11_value cX11_value 1 .int lc 0 0 u.1 [.ref o] P ∧ ∀ x F', P x F' → M x (F', u.2.1, u.2.2)) (fr : ∀ (x : Int32) (u : hU), M x u → ∃ v fs, u.1 r = .inr (12, v :: fs)) (D : ∀ (x : Int32) (u : hU), M x u → ∃ P : Int32 → gM → Prop, gMi X.la d b yX12_value cX12_value 1 .int lr 0 0 u.1 [.ref r] P ∧ ∀ y F', P y F' → N (F', u.2.1, u.2.2)) (END : ∀ u : hU, N u → hOk X b u.2.1 u.2.2 → hG X d b Q u.1 u.2.1 u.2.2 422 [some (.ref b0), some (.ref o), some (.ref r), some (.ref z), some (.int (nI (6 * i))), none, none] []) : hG X d b Q u.1 u.2.1 u.2.2 303 [some (.ref b0), some (.ref o), some (.ref r), some (.ref z), some (.int (nI (6 * i))), none, none] [] := by
  refine h_aload_n hC dL_law_303 rfl ?_
  obtain ⟨Pc, C0, C1⟩ := C
  refine g_callVi (As := []) hC rfl fo C0 cl_L_54 rfl rfl (Nat.le_of_ble_eq_true rfl) (h_fit0 hC hr ho (hFr_law (by omega) (by decide))) dL_law_304 (fun ra F1 p0 => ?_)
  refine h_same hC ho ?_
  have p1 := C1 _ _ p0
  obtain ⟨w1, ws1, fr1⟩ := fr _ _ p1
  refine h_pop hC dL_law_307 rfl ?_
  refine h_aload_n hC dL_law_308 rfl ?_
  obtain ⟨Pd, D0, D1⟩ := D  _ _ p1
  refine g_callVi (As := []) hC rfl fr1 D0 cl_L_57 rfl rfl (Nat.le_of_ble_eq_true rfl) (h_fit0 hC hr ho (hFr_law (by omega) (by decide))) dL_law_309 (fun rb F2 p3 => ?_)
  have p2 := D1 _ _ p3
  refine h_same hC ho ?_
  refine h_pop hC dL_law_312 rfl ?_
  refine h_goto (tgt := 422) hC dL_law_313 (by decide) ?_
  refine h_lv (lv' := [some (.ref b0), some (.ref o), some (.ref r), some (.ref z), some (.int (nI (6 * i))), none, none]) (by repeat (first | exact trivial | refine ⟨rfl, ?_⟩ | exact trivial)) ?_
  exact END (F2, u.2.1, u.2.2) p2 ho
set_option maxHeartbeats 40000000 in
set_option maxRecDepth 100000 in
theorem la_8 {nm : String} {d : gD} {b : Nat} {X : gX} {Q : State → Prop} {b0 L : Nat} {xs : Nat → Int32} (hC : gC RL cL_law 7 (some .boolean) nm room_1 d b X) (hr : hRm X b) (hX : va_X b0 L xs X.st X.st.heap) (hb : b0 < X.st.heap.size) (hb2 : b0 < b) {o r z i lc lr : Nat} {u : hU} {v0 : Value} {fs : List Value} (ho : hOk X b u.2.1 u.2.2) (hi : 6 * i + 6 ≤ L) (hL : L ≤ 384) (fo : u.1 o = .inr (11, v0 :: fs)) (h1 : lc ≤ 1290) (h2 : lr ≤ 1300) {M : Int32 → Int32 → hU → Prop} {N : hU → Prop} (C : ∀ (a0 : Int32), ∃ P : Int32 → gM → Prop, gMi X.la d b yX11_out cX11_out 2 .int lc 0 0 u.1 [.ref o, .int a0] P ∧ ∀ x F', P x F' → M a0 x (F', u.2.1, u.2.2)) (fr : ∀ (a0 : Int32) (x : Int32) (u : hU), M a0 x u → ∃ v fs, u.1 r = .inr (12, v :: fs)) (D : ∀ (a0 : Int32) (x : Int32) (u : hU), M a0 x u → ∃ P : Int32 → gM → Prop, gMi X.la d b yX12_out cX12_out 2 .int lr 0 0 u.1 [.ref r, .int a0] P ∧ ∀ y F', P y F' → N (F', u.2.1, u.2.2)) (END : ∀ u : hU, N u → hOk X b u.2.1 u.2.2 → hG X d b Q u.1 u.2.1 u.2.2 422 [some (.ref b0), some (.ref o), some (.ref r), some (.ref z), some (.int (nI (6 * i))), none, none] []) : hG X d b Q u.1 u.2.1 u.2.2 316 [some (.ref b0), some (.ref o), some (.ref r), some (.ref z), some (.int (nI (6 * i))), none, none] [] := by
  refine h_aload_n hC dL_law_316 rfl ?_
  refine h_aload_n hC dL_law_317 rfl ?_
  refine h_iload hC dL_law_318 rfl ?_
  refine h_iconst (v := 1) hC dL_law_320 rfl ?_
  refine h_iadd hC dL_law_321 ?_
  refine h_vi (fun x1 ex1 => ?_)
  refine h_sld hC hX hb hb2 (law_in (j := 1) ex1 (by decide) (by omega) hL) dL_law_322 ?_
  refine h_vi (fun x2 ex2 => ?_)
  obtain ⟨Pc, C0, C1⟩ := C x2
  refine g_callVi (As := [.int x2]) hC rfl fo C0 cl_L_58 rfl rfl (Nat.le_of_ble_eq_true rfl) (h_fit0 hC hr ho (hFr_law (by omega) (by decide))) dL_law_323 (fun ra F1 p0 => ?_)
  refine h_same hC ho ?_
  have p1 := C1 _ _ p0
  obtain ⟨w1, ws1, fr1⟩ := fr _ _ _ p1
  refine h_pop hC dL_law_326 rfl ?_
  refine h_aload_n hC dL_law_327 rfl ?_
  refine h_aload_n hC dL_law_328 rfl ?_
  refine h_iload hC dL_law_329 rfl ?_
  refine h_iconst (v := 1) hC dL_law_331 rfl ?_
  refine h_iadd hC dL_law_332 ?_
  refine h_vi (fun x3 ex3 => ?_)
  refine h_sld hC hX hb hb2 (law_in (j := 1) ex3 (by decide) (by omega) hL) dL_law_333 ?_
  refine h_vi (fun x4 ex4 => ?_)
  rw [show x4 = x2 from by rw [ex4, ex2, ex3, ex1]]
  obtain ⟨Pd, D0, D1⟩ := D _ _ _ p1
  refine g_callVi (As := [.int x2]) hC rfl fr1 D0 cl_L_61 rfl rfl (Nat.le_of_ble_eq_true rfl) (h_fit0 hC hr ho (hFr_law (by omega) (by decide))) dL_law_334 (fun rb F2 p3 => ?_)
  have p2 := D1 _ _ p3
  refine h_same hC ho ?_
  refine h_pop hC dL_law_337 rfl ?_
  refine h_goto (tgt := 422) hC dL_law_338 (by decide) ?_
  refine h_lv (lv' := [some (.ref b0), some (.ref o), some (.ref r), some (.ref z), some (.int (nI (6 * i))), none, none]) (by repeat (first | exact trivial | refine ⟨rfl, ?_⟩ | exact trivial)) ?_
  exact END (F2, u.2.1, u.2.2) p2 ho
set_option maxHeartbeats 40000000 in
set_option maxRecDepth 100000 in
theorem la_9 {nm : String} {d : gD} {b : Nat} {X : gX} {Q : State → Prop} {b0 L : Nat} {xs : Nat → Int32} (hC : gC RL cL_law 7 (some .boolean) nm room_1 d b X) (hr : hRm X b) (hX : va_X b0 L xs X.st X.st.heap) (hb : b0 < X.st.heap.size) (hb2 : b0 < b) {o r z i lc lr : Nat} {u : hU} {v0 : Value} {fs : List Value} (ho : hOk X b u.2.1 u.2.2) (hi : 6 * i + 6 ≤ L) (hL : L ≤ 384) (fo : u.1 o = .inr (11, v0 :: fs)) (h1 : lc ≤ 1290) (h2 : lr ≤ 1300) {M : hU → Prop} {N : hU → Prop} (C : ∀ (a0 a1 : Int32), ∃ (P : Int32 → hU → Prop) (Px : hU → Prop), hXi X.la d b yX11_outAt cX11_outAt 3 .int lc u.2.1 u.2.2 u.1 [.ref o, .int a0, .int a1] P "java/util/NoSuchElementException" Px ∧ (∀ x u, P x u → M u) ∧ ∀ u, Px u → M u) (hz : ∀ u, M u → ∃ f : Nat → Int64, u.1 z = .inl (gJ d, 1, .inr (.inl f))) (hM : ∀ (u : hU) (f : Nat → Int64), M u → M (va_up u.1 z (.inl (gJ d, 1, .inr (.inl f))), u.2)) (fr : ∀ u, M u → ∃ v fs, u.1 r = .inr (12, v :: fs)) (D : ∀ u, M u → ∀ (a0 a1 : Int32), ∃ P : Int32 → gM → Prop, gMi X.la d b yX12_outAt cX12_outAt 3 .int lr 0 0 u.1 [.ref r, .int a0, .int a1] P ∧ ∀ y F', P y F' → N (F', u.2.1, u.2.2)) (END : ∀ u : hU, N u → hOk X b u.2.1 u.2.2 → hG X d b Q u.1 u.2.1 u.2.2 422 [some (.ref b0), some (.ref o), some (.ref r), some (.ref z), some (.int (nI (6 * i))), none, none] []) : hG X d b Q u.1 u.2.1 u.2.2 341 [some (.ref b0), some (.ref o), some (.ref r), some (.ref z), some (.int (nI (6 * i))), none, none] [] := by
  refine h_aload_n hC dL_law_341 rfl ?_
  refine h_aload_n hC dL_law_342 rfl ?_
  refine h_iload hC dL_law_343 rfl ?_
  refine h_iconst (v := 1) hC dL_law_345 rfl ?_
  refine h_iadd hC dL_law_346 ?_
  refine h_vi (fun x1 ex1 => ?_)
  refine h_sld hC hX hb hb2 (law_in (j := 1) ex1 (by decide) (by omega) hL) dL_law_347 ?_
  refine h_vi (fun x2 ex2 => ?_)
  refine h_aload_n hC dL_law_348 rfl ?_
  refine h_iload hC dL_law_349 rfl ?_
  refine h_iconst (v := 2) hC dL_law_351 rfl ?_
  refine h_iadd hC dL_law_352 ?_
  refine h_vi (fun x3 ex3 => ?_)
  refine h_sld hC hX hb hb2 (law_in (j := 2) ex3 (by decide) (by omega) hL) dL_law_353 ?_
  refine h_vi (fun x4 ex4 => ?_)
  refine h_aload_n hC dL_law_354 rfl ?_
  obtain ⟨Pc, Px, C0, C1, C2⟩ := C x2 x4
  refine h_callSWi (As := [.ref o, .int x2, .int x4, .ref z]) hC hr ho (hL_outAt X.la d b fo x2 x4 C0 C1 C2 hz hM) cl_L_62 rfl rfl (Nat.le_of_ble_eq_true rfl) (hFr_law (by omega) (by decide)) dL_law_355 (fun ra u1 p1 o1 => ?_)
  obtain ⟨w1, ws1, fr1⟩ := fr _ p1
  refine h_istore (lv' := [some (.ref b0), some (.ref o), some (.ref r), some (.ref z), some (.int (nI (6 * i))), some (.int ra), none]) hC dL_law_358 (Nat.le_of_ble_eq_true rfl) rfl rfl ?_
  refine h_aload_n hC dL_law_360 rfl ?_
  refine h_aload_n hC dL_law_361 rfl ?_
  refine h_iload hC dL_law_362 rfl ?_
  refine h_iconst (v := 1) hC dL_law_364 rfl ?_
  refine h_iadd hC dL_law_365 ?_
  refine h_vi (fun x5 ex5 => ?_)
  refine h_sld hC hX hb hb2 (law_in (j := 1) ex5 (by decide) (by omega) hL) dL_law_366 ?_
  refine h_vi (fun x6 ex6 => ?_)
  rw [show x6 = x2 from by rw [ex6, ex2, ex5, ex1]]
  refine h_aload_n hC dL_law_367 rfl ?_
  refine h_iload hC dL_law_368 rfl ?_
  refine h_iconst (v := 2) hC dL_law_370 rfl ?_
  refine h_iadd hC dL_law_371 ?_
  refine h_vi (fun x7 ex7 => ?_)
  refine h_sld hC hX hb hb2 (law_in (j := 2) ex7 (by decide) (by omega) hL) dL_law_372 ?_
  refine h_vi (fun x8 ex8 => ?_)
  rw [show x8 = x4 from by rw [ex8, ex4, ex7, ex3]]
  obtain ⟨Pd, D0, D1⟩ := D  _ p1 x2 x4
  refine g_callVi (As := [.int x2, .int x4]) hC rfl fr1 D0 cl_L_67 rfl rfl (Nat.le_of_ble_eq_true rfl) (h_fit0 hC hr o1 (hFr_law (by omega) (by decide))) dL_law_373 (fun rb F2 p3 => ?_)
  have p2 := D1 _ _ p3
  refine h_same hC o1 ?_
  refine h_istore (lv' := [some (.ref b0), some (.ref o), some (.ref r), some (.ref z), some (.int (nI (6 * i))), some (.int ra), some (.int rb)]) hC dL_law_376 (Nat.le_of_ble_eq_true rfl) rfl rfl ?_
  refine h_goto (tgt := 422) hC dL_law_378 (by decide) ?_
  refine h_lv (lv' := [some (.ref b0), some (.ref o), some (.ref r), some (.ref z), some (.int (nI (6 * i))), none, none]) (by repeat (first | exact trivial | refine ⟨rfl, ?_⟩ | exact trivial)) ?_
  exact END (F2, u1.2.1, u1.2.2) p2 o1
set_option maxHeartbeats 40000000 in
set_option maxRecDepth 100000 in
theorem la_10 {nm : String} {d : gD} {b : Nat} {X : gX} {Q : State → Prop} {b0 L : Nat} {xs : Nat → Int32} (hC : gC RL cL_law 7 (some .boolean) nm room_1 d b X) (hr : hRm X b) (hX : va_X b0 L xs X.st X.st.heap) (hb : b0 < X.st.heap.size) (hb2 : b0 < b) {o r z i lc lr : Nat} {u : hU} {v0 : Value} {fs : List Value} (ho : hOk X b u.2.1 u.2.2) (hi : 6 * i + 6 ≤ L) (hL : L ≤ 384) (fo : u.1 o = .inr (11, v0 :: fs)) (h1 : lc ≤ 1290) (h2 : lr ≤ 1300) {M : hU → Prop} {N : hU → Prop} (C : ∀ (a0 : Int32), ∃ (P : Int32 → hU → Prop) (Px : hU → Prop), hXi X.la d b yX11_word cX11_word 2 .int lc u.2.1 u.2.2 u.1 [.ref o, .int a0] P "java/util/NoSuchElementException" Px ∧ (∀ x u, P x u → M u) ∧ ∀ u, Px u → M u) (hz : ∀ u, M u → ∃ f : Nat → Int64, u.1 z = .inl (gJ d, 1, .inr (.inl f))) (hM : ∀ (u : hU) (f : Nat → Int64), M u → M (va_up u.1 z (.inl (gJ d, 1, .inr (.inl f))), u.2)) (fr : ∀ u, M u → ∃ v fs, u.1 r = .inr (12, v :: fs)) (D : ∀ u, M u → ∀ (a0 : Int32), ∃ P : Int32 → gM → Prop, gMi X.la d b yX12_word cX12_word 2 .int lr 0 0 u.1 [.ref r, .int a0] P ∧ ∀ y F', P y F' → N (F', u.2.1, u.2.2)) (END : ∀ u : hU, N u → hOk X b u.2.1 u.2.2 → hG X d b Q u.1 u.2.1 u.2.2 422 [some (.ref b0), some (.ref o), some (.ref r), some (.ref z), some (.int (nI (6 * i))), none, none] []) : hG X d b Q u.1 u.2.1 u.2.2 381 [some (.ref b0), some (.ref o), some (.ref r), some (.ref z), some (.int (nI (6 * i))), none, none] [] := by
  refine h_aload_n hC dL_law_381 rfl ?_
  refine h_aload_n hC dL_law_382 rfl ?_
  refine h_iload hC dL_law_383 rfl ?_
  refine h_iconst (v := 1) hC dL_law_385 rfl ?_
  refine h_iadd hC dL_law_386 ?_
  refine h_vi (fun x1 ex1 => ?_)
  refine h_sld hC hX hb hb2 (law_in (j := 1) ex1 (by decide) (by omega) hL) dL_law_387 ?_
  refine h_vi (fun x2 ex2 => ?_)
  refine h_aload_n hC dL_law_388 rfl ?_
  obtain ⟨Pc, Px, C0, C1, C2⟩ := C x2
  refine h_callSWi (As := [.ref o, .int x2, .ref z]) hC hr ho (hL_word X.la d b fo x2 C0 C1 C2 hz hM) cl_L_68 rfl rfl (Nat.le_of_ble_eq_true rfl) (hFr_law (by omega) (by decide)) dL_law_389 (fun ra u1 p1 o1 => ?_)
  obtain ⟨w1, ws1, fr1⟩ := fr _ p1
  refine h_istore (lv' := [some (.ref b0), some (.ref o), some (.ref r), some (.ref z), some (.int (nI (6 * i))), some (.int ra), none]) hC dL_law_392 (Nat.le_of_ble_eq_true rfl) rfl rfl ?_
  refine h_aload_n hC dL_law_394 rfl ?_
  refine h_aload_n hC dL_law_395 rfl ?_
  refine h_iload hC dL_law_396 rfl ?_
  refine h_iconst (v := 1) hC dL_law_398 rfl ?_
  refine h_iadd hC dL_law_399 ?_
  refine h_vi (fun x3 ex3 => ?_)
  refine h_sld hC hX hb hb2 (law_in (j := 1) ex3 (by decide) (by omega) hL) dL_law_400 ?_
  refine h_vi (fun x4 ex4 => ?_)
  rw [show x4 = x2 from by rw [ex4, ex2, ex3, ex1]]
  obtain ⟨Pd, D0, D1⟩ := D  _ p1 x2
  refine g_callVi (As := [.int x2]) hC rfl fr1 D0 cl_L_71 rfl rfl (Nat.le_of_ble_eq_true rfl) (h_fit0 hC hr o1 (hFr_law (by omega) (by decide))) dL_law_401 (fun rb F2 p3 => ?_)
  have p2 := D1 _ _ p3
  refine h_same hC o1 ?_
  refine h_istore (lv' := [some (.ref b0), some (.ref o), some (.ref r), some (.ref z), some (.int (nI (6 * i))), some (.int ra), some (.int rb)]) hC dL_law_404 (Nat.le_of_ble_eq_true rfl) rfl rfl ?_
  refine h_goto (tgt := 422) hC dL_law_406 (by decide) ?_
  refine h_lv (lv' := [some (.ref b0), some (.ref o), some (.ref r), some (.ref z), some (.int (nI (6 * i))), none, none]) (by repeat (first | exact trivial | refine ⟨rfl, ?_⟩ | exact trivial)) ?_
  exact END (F2, u1.2.1, u1.2.2) p2 o1
set_option maxHeartbeats 40000000 in
set_option maxRecDepth 100000 in
theorem la_11 {nm : String} {d : gD} {b : Nat} {X : gX} {Q : State → Prop} {b0 L : Nat} {xs : Nat → Int32} (hC : gC RL cL_law 7 (some .boolean) nm room_1 d b X) (hr : hRm X b) (hX : va_X b0 L xs X.st X.st.heap) (hb : b0 < X.st.heap.size) (hb2 : b0 < b) {o r z i lc lr : Nat} {u : hU} {v0 : Value} {fs : List Value} (ho : hOk X b u.2.1 u.2.2) (hi : 6 * i + 6 ≤ L) (hL : L ≤ 384) (fo : u.1 o = .inr (11, v0 :: fs)) (h1 : lc ≤ 1290) (h2 : lr ≤ 1300) {M : Int32 → hU → Prop} {N : hU → Prop} (C : ∃ P : Int32 → gM → Prop, gMi X.la d b yX11_fuel cX11_fuel 1 .int lc 0 0 u.1 [.ref o] P ∧ ∀ x F', P x F' → M x (F', u.2.1, u.2.2)) (fr : ∀ (x : Int32) (u : hU), M x u → ∃ v fs, u.1 r = .inr (12, v :: fs)) (D : ∀ (x : Int32) (u : hU), M x u → ∃ P : Int32 → gM → Prop, gMi X.la d b yX12_fuel cX12_fuel 1 .int lr 0 0 u.1 [.ref r] P ∧ ∀ y F', P y F' → N (F', u.2.1, u.2.2)) (END : ∀ u : hU, N u → hOk X b u.2.1 u.2.2 → hG X d b Q u.1 u.2.1 u.2.2 422 [some (.ref b0), some (.ref o), some (.ref r), some (.ref z), some (.int (nI (6 * i))), none, none] []) : hG X d b Q u.1 u.2.1 u.2.2 409 [some (.ref b0), some (.ref o), some (.ref r), some (.ref z), some (.int (nI (6 * i))), none, none] [] := by
  refine h_aload_n hC dL_law_409 rfl ?_
  obtain ⟨Pc, C0, C1⟩ := C
  refine g_callVi (As := []) hC rfl fo C0 cl_L_72 rfl rfl (Nat.le_of_ble_eq_true rfl) (h_fit0 hC hr ho (hFr_law (by omega) (by decide))) dL_law_410 (fun ra F1 p0 => ?_)
  refine h_same hC ho ?_
  have p1 := C1 _ _ p0
  obtain ⟨w1, ws1, fr1⟩ := fr _ _ p1
  refine h_pop hC dL_law_413 rfl ?_
  refine h_aload_n hC dL_law_414 rfl ?_
  obtain ⟨Pd, D0, D1⟩ := D  _ _ p1
  refine g_callVi (As := []) hC rfl fr1 D0 cl_L_75 rfl rfl (Nat.le_of_ble_eq_true rfl) (h_fit0 hC hr ho (hFr_law (by omega) (by decide))) dL_law_415 (fun rb F2 p3 => ?_)
  have p2 := D1 _ _ p3
  refine h_same hC ho ?_
  refine h_pop hC dL_law_418 rfl ?_
  refine h_goto (tgt := 422) hC dL_law_419 (by decide) ?_
  refine h_lv (lv' := [some (.ref b0), some (.ref o), some (.ref r), some (.ref z), some (.int (nI (6 * i))), none, none]) (by repeat (first | exact trivial | refine ⟨rfl, ?_⟩ | exact trivial)) ?_
  exact END (F2, u.2.1, u.2.2) p2 ho
