theorem kw_1934 : Cond.code yX0_byteAt cX0_byteAt 3 (some .int) ∈ gWs := List.mem_filter.mpr ⟨gMt8 _ (List.mem_of_getElem? (i := 17) rfl), rfl⟩
theorem kw_1931 : Cond.methodLink RX11 150 yX0_byteAt ∈ gWs := List.mem_filter.mpr ⟨gMt8 _ (List.mem_of_getElem? (i := 14) rfl), rfl⟩
theorem kw_1932 : Cond.instanceMethod yX0_byteAt ∈ gWs := List.mem_filter.mpr ⟨gMt8 _ (List.mem_of_getElem? (i := 15) rfl), rfl⟩
theorem kw_1933 : Cond.selects RX0 yX0_byteAt yX0_byteAt ∈ gWs := List.mem_filter.mpr ⟨gMt8 _ (List.mem_of_getElem? (i := 16) rfl), rfl⟩
theorem cl_X11_150 : gCV RX11 150 yX0_byteAt cX0_byteAt 3 (some .int) 2 := ⟨g_mk [.methodLink RX11 150 yX0_byteAt, .instanceMethod yX0_byteAt, .selects yX0_byteAt.cls yX0_byteAt yX0_byteAt, .initialized yX0_byteAt.cls] (gWs_all kw_1934) (List.forall_mem_cons.mpr ⟨kw_1931, List.forall_mem_cons.mpr ⟨kw_1932, List.forall_mem_cons.mpr ⟨kw_1933, List.forall_mem_cons.mpr ⟨kw_254, fun _ h => nomatch h⟩⟩⟩⟩), rfl, by decide +kernel, by decide +kernel, by decide +kernel⟩
theorem dX0_byteAt_0 : decode cX0_byteAt 0 = .ok (.aload_n 0, 1) := by decide +kernel
theorem dX0_byteAt_1 : decode cX0_byteAt 1 = .ok (.iload_n 1, 1) := by decide +kernel
theorem dX0_byteAt_2 : decode cX0_byteAt 2 = .ok (.invokevirtual 46, 3) := by decide +kernel
theorem dX0_byteAt_5 : decode cX0_byteAt 5 = .ok (.ifCond .eq 16, 3) := by decide +kernel
theorem dX0_byteAt_8 : decode cX0_byteAt 8 = .ok (.aload_n 0, 1) := by decide +kernel
theorem dX0_byteAt_9 : decode cX0_byteAt 9 = .ok (.getfield 24, 3) := by decide +kernel
theorem dX0_byteAt_12 : decode cX0_byteAt 12 = .ok (.iload_n 1, 1) := by decide +kernel
theorem dX0_byteAt_13 : decode cX0_byteAt 13 = .ok (.aaload, 1) := by decide +kernel
theorem dX0_byteAt_14 : decode cX0_byteAt 14 = .ok (.iload_n 2, 1) := by decide +kernel
theorem dX0_byteAt_15 : decode cX0_byteAt 15 = .ok (.invokevirtual 49, 3) := by decide +kernel
theorem dX0_byteAt_18 : decode cX0_byteAt 18 = .ok (.goto 4, 3) := by decide +kernel
theorem dX0_byteAt_21 : decode cX0_byteAt 21 = .ok (.iconst 0, 1) := by decide +kernel
theorem dX0_byteAt_22 : decode cX0_byteAt 22 = .ok (.ireturn, 1) := by decide +kernel
set_option maxHeartbeats 4000000 in
set_option maxRecDepth 100000 in
theorem s_C_byteAt (l : Launch) (d : gD) (b : Nat) (Y : gYt) (c : Nat × Nat) (F : gM) (k n : Nat) {S : gSt} (hi : hI d b Y c (F, k, n) S) (x y : Int32) : hMi l d b yX0_byteAt cX0_byteAt 3 .int 3 k n F [.ref (gO' Y 6), .int x, .int y] (fun r u => True ∧ u = (F, k, n)) := by
  intro mc ms
  refine hM_of2 rfl (nL := 3) (Nat.le_of_ble_eq_true rfl) ?_
  intro X hX hC hr ho; subst hX
  show hG X d b _ F k n 0 [some (.ref (gO' Y 6)), some (.int x), some (.int y)] []
  refine h_aload_n hC dX0_byteAt_0 rfl ?_
  refine h_iload_n hC dX0_byteAt_1 rfl ?_
  refine g_callVi (As := [.int x]) hC rfl (hi.1.o 6 (by decide)) (c_C_isOutput X.la d b Y _ S hi.1 x) cl_X0_46 rfl rfl (Nat.le_of_ble_eq_true rfl) (h_fit0 hC hr ho (hFr_of (Nat.le_of_ble_eq_true rfl) (Nat.le_of_ble_eq_true rfl))) dX0_byteAt_2 (fun r1 F2 p3 => ?_)
  obtain ⟨zr1, yr1, eF2⟩ := p3; have eF2 := eF2.symm; subst eF2
  refine h_same hC ho ?_
  refine h_if_eq (tgt := 21) hC dX0_byteAt_5 (by decide) (fun c4 => ?_) (fun c4 => ?_)
  · refine h_iconst (v := 0) hC dX0_byteAt_21 rfl ?_
    exact h_iret hC hr ho rfl rfl rfl ⟨trivial, rfl⟩ dX0_byteAt_22
  · obtain ⟨N5, hN5, e6⟩ := hin_of (by decide) zr1 c4
    obtain rfl | rfl := (by omega : N5 = 0 ∨ N5 = 1)
    · refine h_aload_n hC dX0_byteAt_8 rfl ?_
      refine h_get hC fl_X0_24 (hi.1.o 6 (by decide)) rfl dX0_byteAt_9 ?_
      refine h_iload_n hC dX0_byteAt_12 rfl ?_
      refine hi_aald1 hC hi (N := 0) e6 (by decide) dX0_byteAt_13 ?_
      refine h_iload_n hC dX0_byteAt_14 rfl ?_
      refine hi_get (j := 38) hC hr ho hi.1 (by decide) cl_X0_49 rfl (Nat.le_of_ble_eq_true rfl) (hFr_of (Nat.le_of_ble_eq_true rfl) (Nat.le_of_ble_eq_true rfl)) dX0_byteAt_15 ?_
      refine h_vi (fun x7 ex7 => ?_)
      refine h_goto (tgt := 22) hC dX0_byteAt_18 (by decide) ?_
      exact h_iret hC hr ho rfl rfl rfl ⟨trivial, rfl⟩ dX0_byteAt_22
    · refine h_aload_n hC dX0_byteAt_8 rfl ?_
      refine h_get hC fl_X0_24 (hi.1.o 6 (by decide)) rfl dX0_byteAt_9 ?_
      refine h_iload_n hC dX0_byteAt_12 rfl ?_
      refine hi_aald1 hC hi (N := 1) e6 (by decide) dX0_byteAt_13 ?_
      refine h_iload_n hC dX0_byteAt_14 rfl ?_
      refine hi_get (j := 39) hC hr ho hi.1 (by decide) cl_X0_49 rfl (Nat.le_of_ble_eq_true rfl) (hFr_of (Nat.le_of_ble_eq_true rfl) (Nat.le_of_ble_eq_true rfl)) dX0_byteAt_15 ?_
      refine h_vi (fun x8 ex8 => ?_)
      refine h_goto (tgt := 22) hC dX0_byteAt_18 (by decide) ?_
      exact h_iret hC hr ho rfl rfl rfl ⟨trivial, rfl⟩ dX0_byteAt_22
/-! WordTongue's calls that throw -/
section HX0
variable {own : String} {cc : ByteArray} {nL : Nat} {rt : Option FieldType} {nm : String} {R : Room} {d : gD} {b : Nat} {X : gX} {F : gM} {k n pc mc ms : Nat} {lv : List (Option Value)} {st : List Value}
theorem h_throw0 {Qc : Array Value → State → Outcome → State → Prop} {px : hU → Prop} {cls : String} {names : List String} {ik ic : Nat} (hC : gC own cc nL rt nm R d b X) (hr : hRm X b) (ho : hOk X b k n) (e1 : R.cells = mc) (e2 : R.slots = ms) (hl : X.la.stackTraces = false) (hT : ∀ x ∈ X.co.exceptionTable.toList, False) (hcls : Bundle.fit cls = true) (hnames : ∀ n ∈ names, Bundle.fit n = true) (hk : Cond.classLink own ik cls ∈ gWs) (hini : Cond.initialized cls ∈ gWs)
    (hat : ∀ w ∈ (vx_at0 own ic cls names).filter goodWord, w ∈ gWs) (hbad : ∀ w ∈ (vx_at0 own ic cls names).filter (fun w => !goodWord w), w ∈ gCs.map (fun q => Cond.castable q.1 q.2) ++ gDs.map Cond.declares) (hgood : ∀ w ∈ Cond.classLink own ik cls :: Cond.initialized cls :: vx_at0 own ic cls names, vx_ot w = true) (hn : nL = lv.length)
    (d0 : decode cc pc = .ok (.new ik, 3)) (d3 : decode cc (pc + 3) = .ok (.dup, 1)) (d4 : decode cc (pc + 4) = .ok (.invokespecial ic, 3)) (d7 : decode cc (pc + 7) = .ok (.athrow, 1))
    (hRf : names.length + 3 < R.frames) (hRl : (st.map fun v => v.category).sum + (13 * (names.length + 1) + 42) ≤ R.locals) (hRc : k + 1 ≤ gKm b) (hRs : n + 6 ≤ gNm) (hp : px (F, k + 1, n + 6)) : hG X d b (vx_MQ X.be Qc (vx_X px (hTw cls d b) (fun q => b ≤ q)) X.ar X.st mc ms (fun q => b ≤ q)) F k n pc lv st := by
  refine h_at hC ho (fun H locs ls hH hS hL y1 y2 y3 y4 => ?_)
  obtain ⟨r1, r2⟩ := hR_R hC hr
  refine vx_sizes (b := b) (c1 := H.size - X.st.heap.size + 1) (n1 := gsm b H - gsm b X.st.heap + 6) (XC := vx_X (fun u : gM => u = F) (gTw cls d b) (fun q => b ≤ q)) hC.hv.1 (by omega) (by omega) (fun E t hx q1 q2 => ?_) ?_
  · obtain ⟨u, rfl, ⟨rfl, g2⟩, g3⟩ := hx
    exact ⟨(u, k + 1, n + 6), hp, ⟨rfl, g2, x_min q1 y1 y2 hRc, x_min q2 y3 y4 hRs⟩, g3⟩
  · exact vx_throw0 hC.hx hC.hb hl hC.how hcls hnames (hC.hts _ hk) (hC.hts _ hini) (vx_hat (fun w hw => hC.hts _ (hat w hw)) hbad (fun w hw => by
      rcases List.mem_append.mp hw with hw | hw
      · obtain ⟨q, hq, rfl⟩ := List.mem_map.mp hw
        exact va_Nw.use rfl (hC.hv.2.2.2.2.2.2.2.2.2.1 q hq)
      · obtain ⟨q, hq, rfl⟩ := List.mem_map.mp hw
        exact va_Nw.use rfl (hC.hv.2.2.2.2.2.2.2.2.2.2.1 q hq))) hgood hC.hv.2.2.2.2.2.2.2.1 hC.hv.2.2.2.2.2.2.2.2.1 hS (by rw [hC.hml, hn]; exact hL.1) d0 d3 d4 d7 (fun x hx => absurd (hT x hx) id) (by rw [hC.hR]; exact hRf) (by rw [hC.hR]; exact hRl) (by rw [hC.hR]; omega) (by rw [hC.hR]; omega) hC.hlk
      (fun t hA hz hq => ⟨F, rfl, ⟨rfl, hH.kept hq⟩, Nat.le_trans hS.1 hz, fun q h1 h2 => (hq q (Nat.lt_of_lt_of_le h1 hS.1)).trans (hS.2.1 q h1 h2)⟩) hS.2.2 (Nat.le_refl _) (Nat.le_refl _)
end HX0
theorem hI.hr1 {d : gD} {b : Nat} {Y : gYt} {c : Nat × Nat} {u : hU} {S : gSt} (h : hI d b Y c u S) (hA : gPsi S ≤ gAm) : u.2.1 ≤ c.1 + 386600 ∧ u.2.2 ≤ c.2 + 4275100 := by
  have h1 := (h.sz hA).room
  have h2 := h.2.2.1
  have h3 := h.2.2.2.1
  exact ⟨by omega, by omega⟩
set_option maxHeartbeats 4000000 in
set_option maxRecDepth 100000 in
theorem s_W_outAt (l : Launch) (d : gD) (b : Nat) (Y : gYt) (c : Nat × Nat) (F : gM) (k n : Nat) {S : gSt} (hi : hI d b Y c (F, k, n) S) (hA : gPsi S ≤ gAm) (hl : l.stackTraces = false) (hcx : yCx b c) (i x : Int32) : hXi l d b yX11_outAt cX11_outAt 3 .int 6 k n F [.ref (gO' Y 0), .int i, .int x] (fun r u => u = (F, k, n)) "java/util/NoSuchElementException" (fun u => u = (F, k + 1, n + 6)) := by
  intro mc ms
  refine hX_of2 rfl (nL := 3) (Nat.le_of_ble_eq_true rfl) ?_
  intro X hX hT hC hr ho; subst hX
  show hG X d b _ F k n 0 [some (.ref (gO' Y 0)), some (.int i), some (.int x)] []
  refine h_iload_n hC dX11_outAt_0 rfl ?_
  refine h_if_lt (tgt := 16) hC dX11_outAt_1 (by decide) (fun c1 => ?_) (fun c1 => ?_)
  · exact h_throw0 (ic := 149) (ik := 147) (names := ["java/lang/RuntimeException", "java/lang/Exception"]) hC hr ho rfl rfl hl hT (by decide +kernel) (by decide +kernel) kw_1910 kw_263 x_nse1 x_nse2 x_nse3 rfl dX11_outAt_16 dX11_outAt_19 dX11_outAt_20 dX11_outAt_23 (by show 2 + 3 < 6; decide) (by show 0 + (13 * (2 + 1) + 42) ≤ 64 * 6; decide) (by have := hcx.1; have q : k ≤ c.1 + 386600 := (hi.hr1 hA).1; omega) (by have := hcx.2; have q : n ≤ c.2 + 4275100 := (hi.hr1 hA).2; omega) rfl
  · refine h_iload_n hC dX11_outAt_4 rfl ?_
    refine h_aload_n hC dX11_outAt_5 rfl ?_
    refine h_get hC fl_X11_62 (hi.1.o 0 (by decide)) rfl dX11_outAt_6 ?_
    refine h_iload_n hC dX11_outAt_9 rfl ?_
    refine g_callVi (As := [.int i]) hC rfl (hi.1.o 6 (by decide)) (c_C_length X.la d b Y _ S hi.1 i) cl_X11_144 rfl rfl (Nat.le_of_ble_eq_true rfl) (h_fit0 hC hr ho (hFr_of (Nat.le_of_ble_eq_true rfl) (Nat.le_of_ble_eq_true rfl))) dX11_outAt_10 (fun r4 F2 p3 => ?_)
    obtain ⟨-, -, er4⟩ := p3; have er4 := er4.symm; subst er4
    refine h_same hC ho ?_
    refine h_icmp_lt (tgt := 24) hC dX11_outAt_13 (by decide) (fun c5 => ?_) (fun c5 => ?_)
    · refine h_aload_n hC dX11_outAt_24 rfl ?_
      refine h_get hC fl_X11_62 (hi.1.o 0 (by decide)) rfl dX11_outAt_25 ?_
      refine h_iload_n hC dX11_outAt_28 rfl ?_
      refine h_iload_n hC dX11_outAt_29 rfl ?_
      refine h_callVi (As := [.int i, .int x]) hC hr ho rfl (hi.1.o 6 (by decide)) (s_C_byteAt X.la d b Y c _ _ _ hi i x) cl_X11_150 rfl rfl (Nat.le_of_ble_eq_true rfl) (hFr_of (Nat.le_of_ble_eq_true rfl) (Nat.le_of_ble_eq_true rfl)) dX11_outAt_30 (fun r6 u6 p6 o6 => ?_)
      obtain ⟨-, rfl⟩ := p6
      exact h_xret (h_iret hC hr o6 rfl rfl rfl rfl dX11_outAt_33)
    · exact h_throw0 (ic := 149) (ik := 147) (names := ["java/lang/RuntimeException", "java/lang/Exception"]) hC hr ho rfl rfl hl hT (by decide +kernel) (by decide +kernel) kw_1910 kw_263 x_nse1 x_nse2 x_nse3 rfl dX11_outAt_16 dX11_outAt_19 dX11_outAt_20 dX11_outAt_23 (by show 2 + 3 < 6; decide) (by show 0 + (13 * (2 + 1) + 42) ≤ 64 * 6; decide) (by have := hcx.1; have q : k ≤ c.1 + 386600 := (hi.hr1 hA).1; omega) (by have := hcx.2; have q : n ≤ c.2 + 4275100 := (hi.hr1 hA).2; omega) rfl
set_option maxHeartbeats 4000000 in
set_option maxRecDepth 100000 in
theorem s_W_word (l : Launch) (d : gD) (b : Nat) (Y : gYt) (c : Nat × Nat) (F : gM) (k n : Nat) {S : gSt} (hi : hI d b Y c (F, k, n) S) (hA : gPsi S ≤ gAm) (hl : l.stackTraces = false) (hcx : yCx b c) (i : Int32) : hXi l d b yX11_word cX11_word 2 .int 6 k n F [.ref (gO' Y 0), .int i] (fun r u => u = (F, k, n)) "java/util/NoSuchElementException" (fun u => u = (F, k + 1, n + 6)) := by
  intro mc ms
  refine hX_of2 rfl (nL := 2) (Nat.le_of_ble_eq_true rfl) ?_
  intro X hX hT hC hr ho; subst hX
  show hG X d b _ F k n 0 [some (.ref (gO' Y 0)), some (.int i)] []
  refine h_iload_n hC dX11_word_0 rfl ?_
  refine h_if_lt (tgt := 12) hC dX11_word_1 (by decide) (fun c1 => ?_) (fun c1 => ?_)
  · exact h_throw0 (ic := 149) (ik := 147) (names := ["java/lang/RuntimeException", "java/lang/Exception"]) hC hr ho rfl rfl hl hT (by decide +kernel) (by decide +kernel) kw_1910 kw_263 x_nse1 x_nse2 x_nse3 rfl dX11_word_12 dX11_word_15 dX11_word_16 dX11_word_19 (by show 2 + 3 < 6; decide) (by show 0 + (13 * (2 + 1) + 42) ≤ 64 * 6; decide) (by have := hcx.1; have q : k ≤ c.1 + 386600 := (hi.hr1 hA).1; omega) (by have := hcx.2; have q : n ≤ c.2 + 4275100 := (hi.hr1 hA).2; omega) rfl
  · refine h_iload_n hC dX11_word_4 rfl ?_
    refine h_aload_n hC dX11_word_5 rfl ?_
    refine h_get hC fl_X11_79 (hi.1.o 0 (by decide)) rfl dX11_word_6 ?_
    refine h_icmp_lt (tgt := 20) hC dX11_word_9 (by decide) (fun c2 => ?_) (fun c2 => ?_)
    · refine h_aload_n hC dX11_word_20 rfl ?_
      refine h_get hC fl_X11_71 (hi.1.o 0 (by decide)) rfl dX11_word_21 ?_
      refine h_iload_n hC dX11_word_24 rfl ?_
      refine h_callVi (As := [.int i]) hC hr ho rfl (hi.1.o 7 (by decide)) (s_M_left X.la d b Y c _ _ _ hi i) cl_X11_154 rfl rfl (Nat.le_of_ble_eq_true rfl) (hFr_of (Nat.le_of_ble_eq_true rfl) (Nat.le_of_ble_eq_true rfl)) dX11_word_25 (fun r6 u6 p6 o6 => ?_)
      obtain ⟨-, rfl⟩ := p6
      exact h_xret (h_iret hC hr o6 rfl rfl rfl rfl dX11_word_28)
    · exact h_throw0 (ic := 149) (ik := 147) (names := ["java/lang/RuntimeException", "java/lang/Exception"]) hC hr ho rfl rfl hl hT (by decide +kernel) (by decide +kernel) kw_1910 kw_263 x_nse1 x_nse2 x_nse3 rfl dX11_word_12 dX11_word_15 dX11_word_16 dX11_word_19 (by show 2 + 3 < 6; decide) (by show 0 + (13 * (2 + 1) + 42) ≤ 64 * 6; decide) (by have := hcx.1; have q : k ≤ c.1 + 386600 := (hi.hr1 hA).1; omega) (by have := hcx.2; have q : n ≤ c.2 + 4275100 := (hi.hr1 hA).2; omega) rfl
set_option maxHeartbeats 4000000 in
set_option maxRecDepth 100000 in
theorem c_W_store1 (l : Launch) (d : gD) (b : Nat) (Y : gYt) (F : gM) (S : gSt) (hW : gWT d Y F S) (i : Int32) : gMi l d b yX11_store cX11_store 2 .boolean 1 0 0 F [.ref (gO' Y 0), .int i] (fun r F' => (gFive i → r = 1) ∧ (¬ gFive i → r = 0) ∧ ∃ S', gWT d Y F' S' ∧ gKp Y F F' ∧ gSm S S' [] [0] ∧ (gFive i ∧ sV S' 0 = i ∨ S' = S)) := by
  refine gM_of2 rfl (nL := 2) (Nat.le_of_ble_eq_true rfl) ?_
  intro X hX hC; subst hX
  show gG X d b _ F 0 0 0 [some (.ref (gO' Y 0)), some (.int i)] []
  have hM0 : gSm S S [] [0] := gSm.rf
  have hK0 : gKp Y F F := gKp.rf
  refine g_iload_n hC dX11_store_0 rfl ?_
  refine g_sipush (v := 4096) hC dX11_store_1 rfl ?_
  refine g_icmp_lt (tgt := 21) hC dX11_store_4 (by decide) (fun c1 => ?_) (fun c1 => ?_)
  · refine g_iconst (v := 0) hC dX11_store_21 rfl ?_
    exact g_iret hC rfl ⟨fun z => absurd (z : gFive i) (fun z => gFive_lo z c1), fun _ => rfl, S, hW, gKp.rf, gSm.rf, Or.inr rfl⟩ (by first | exact Nat.le_of_ble_eq_true rfl | omega | (simp only [gR]; omega)) (by first | exact Nat.le_of_ble_eq_true rfl | omega | (simp only [gR]; omega)) dX11_store_22
  · refine g_iload_n hC dX11_store_7 rfl ?_
    refine g_ldc hC dX11_store_8 kw_1602 ?_
    refine g_icmp_gt (tgt := 21) hC dX11_store_10 (by decide) (fun c2 => ?_) (fun c2 => ?_)
    · refine g_iconst (v := 0) hC dX11_store_21 rfl ?_
      exact g_iret hC rfl ⟨fun z => absurd (z : gFive i) (fun z => gFive_hi z c2), fun _ => rfl, S, hW, gKp.rf, gSm.rf, Or.inr rfl⟩ (by first | exact Nat.le_of_ble_eq_true rfl | omega | (simp only [gR]; omega)) (by first | exact Nat.le_of_ble_eq_true rfl | omega | (simp only [gR]; omega)) dX11_store_22
    · refine g_iload_n hC dX11_store_13 rfl ?_
      refine g_callSi (As := [.int i]) hC (c_bitCount X.la d b F i) cl_X11_124 rfl rfl (Nat.le_of_ble_eq_true rfl) (gFit_of (Nat.le_of_ble_eq_true rfl) (Nat.le_of_ble_eq_true rfl) (by first | exact Nat.le_of_ble_eq_true rfl | omega | (simp only [gR]; omega)) (by first | exact Nat.le_of_ble_eq_true rfl | omega | (simp only [gR]; omega))) dX11_store_14 (fun r5 F3 p4 => ?_)
      obtain ⟨er5, eF9⟩ := p4; have eF9 := eF9.symm; subst eF9
      have er1 := er5
      refine g_iconst (v := 1) hC dX11_store_17 rfl ?_
      refine g_icmp_eq (tgt := 23) hC dX11_store_18 (by decide) (fun c6 => ?_) (fun c6 => ?_)
      · have h5 : gFive i := (gBc_ok c1 c2).mp (er1 ▸ c6)
        refine g_aload_n hC dX11_store_23 rfl ?_
        refine g_iload_n hC dX11_store_24 rfl ?_
        refine g_put hC fl_X11_75 (hW.o 0 (by decide)) rfl rfl (Nat.le_of_ble_eq_true rfl) dX11_store_25 ?_
        refine g_vF (fun F7 hF7 => ?_)
        obtain ⟨hW9, k10⟩ := gWT.put (k := 0) (x := i) hW (i := 0) (by decide) hF7 rfl gsame_0 (fun q => absurd q (by decide))
        obtain ⟨S8, hS8⟩ : ∃ z, z = uV S 0 i := ⟨_, rfl⟩
        rw [← hS8] at hW9
        have s11 : gSm S S8 [] [0] := by rw [hS8]; exact gSm_uV
        have hM12 : gSm S S8 [] [0] := hM0.tr s11 _ _ rfl rfl
        have hK13 : gKp Y F F7 := hK0.tr k10
        have z14 : sV S8 0 = i := by rw [hS8]; exact uV_self
        refine g_iconst (v := 1) hC dX11_store_28 rfl ?_
        exact g_iret hC rfl ⟨fun _ => rfl, fun z => absurd h5 z, S8, hW9, hK13, hM12, Or.inl ⟨h5, z14⟩⟩ (by first | exact Nat.le_of_ble_eq_true rfl | omega | (simp only [gR]; omega)) (by first | exact Nat.le_of_ble_eq_true rfl | omega | (simp only [gR]; omega)) dX11_store_29
      · refine g_iconst (v := 0) hC dX11_store_21 rfl ?_
        exact g_iret hC rfl ⟨fun z => absurd ((gBc_ok c1 c2).mpr z) (fun q => c6 (er1 ▸ q)), fun _ => rfl, S, hW, gKp.rf, gSm.rf, Or.inr rfl⟩ (by first | exact Nat.le_of_ble_eq_true rfl | omega | (simp only [gR]; omega)) (by first | exact Nat.le_of_ble_eq_true rfl | omega | (simp only [gR]; omega)) dX11_store_22
