theorem gG_kn {X : gX} {d : gD} {b : Nat} {Q : State → Prop} {F : gM} {k n k2 n2 pc : Nat} {lv : List (Option Value)} {st : List Value} (hk : k = k2) (hn : n = n2) (kk : gG X d b Q F k2 n2 pc lv st) : gG X d b Q F k n pc lv st := by subst hk; subst hn; exact kk
theorem g_lt16 {N : Nat} (h : N < 16) : N = 0 ∨ N = 1 ∨ N = 2 ∨ N = 3 ∨ N = 4 ∨ N = 5 ∨ N = 6 ∨ N = 7 ∨ N = 8 ∨ N = 9 ∨ N = 10 ∨ N = 11 ∨ N = 12 ∨ N = 13 ∨ N = 14 ∨ N = 15 := by omega
set_option maxHeartbeats 40000000 in
set_option maxRecDepth 100000 in
theorem law_end {nm : String} {d : gD} {b : Nat} {X : gX} {Q : State → Prop} {b0 : Nat} {xs : Nat → Int32} (hC : gC RL cL_law 7 (some .boolean) nm room_1 d b X) (hl : X.la.stackTraces = false) (hX : va_X b0 6 xs X.st X.st.heap) (hb : b0 < X.st.heap.size) (hb2 : b0 < b) (hend : ∀ (F : gM) (k n : Nat) (lv : List (Option Value)), k ≤ 600002 → n ≤ 7302232 → gG X d b Q F k n 485 lv [.int 1]) (F6 : gM) (k6 n6 : Nat) (hk6 : k6 ≤ 600002) (hn6 : n6 ≤ 7302232) : gG X d b Q F6 k6 n6 478 [some (.ref b0), none, none, none, some (.int 0), none, none] [] := by
  obtain ⟨x1, ex1⟩ : ∃ y : Int32, y = 0 + 6 := ⟨_, rfl⟩
  refine g_iinc (v := x1) (lv' := [some (.ref b0), none, none, none, some (.int x1), none, none]) hC dL_law_478 rfl (by rw [ex1]; rfl) rfl rfl ?_
  refine g_goto (tgt := 23) hC dL_law_481 (by decide) ?_
  refine g_iload hC dL_law_23 rfl ?_
  refine g_aload_n hC dL_law_25 rfl ?_
  refine g_scl hC hX hb hb2 dL_law_26 ?_
  refine g_bipush (v := 6) hC dL_law_27 rfl ?_
  refine g_isub hC dL_law_29 ?_
  refine g_vi (fun x2 ex2 => ?_)
  refine g_icmp_gt (tgt := 484) hC dL_law_30 (by decide) (fun c3 => ?_) (fun c3 => ?_)
  · refine g_iconst (v := 1) hC dL_law_484 rfl ?_
    exact hend _ _ _ _ hk6 hn6
  · exact absurd (by subst_vars; decide) c3
set_option maxHeartbeats 40000000 in
set_option maxRecDepth 100000 in
theorem law_p1 {nm : String} {d : gD} {b : Nat} {X : gX} {Q : State → Prop} {b0 L : Nat} {xs : Nat → Int32} (hC : gC RL cL_law 7 (some .boolean) nm room_1 d b X) (hl : X.la.stackTraces = false) (hX : va_X b0 L xs X.st X.st.heap) (hb : b0 < X.st.heap.size) (hb2 : b0 < b) (kk : ∀ (Y : gYt) (S : gSt) (G2 : gM) (o : Nat), gO' Y 0 = o → gWT d Y G2 S → (∀ j, j < 44 → (j == 18 || j == 19 || j == 20) = false → sZ S j = 0 ∧ sN S j = 16) → sN S 45 = 4096 → (∀ k, k ≠ 7 → sV S k = gvin 0 k) → gG X d b Q G2 163407 2008526 7 [some (.ref b0), none, none, none, none, none, none] [.ref o]) : gG X d b Q (fun _ => g0) 0 0 0 [some (.ref b0), none, none, none, none, none, none] [] := by
  refine g_new hC nl_L_8 (Nat.le_of_ble_eq_true rfl) (Nat.le_of_ble_eq_true rfl) dL_law_0 (fun o e_o => ?_)
  refine g_vF (fun F4 hF4 => ?_)
  have ft : F4 o = .inr (11, [.null, .null, .null, .null, .null, .null, .null, .null, .int 0, .int 0]) := by rw [hF4]; exact va_up_self _ _ _
  refine g_dup hC dL_law_3 rfl ?_
  refine g_callIv (As := []) hC (k_W X.la d b F4 o ft) cl_L_19 rfl rfl (Nat.le_of_ble_eq_true rfl) (gFit_law (by decide) (by decide) (Nat.le_of_ble_eq_true rfl) (Nat.le_of_ble_eq_true rfl)) dL_law_4 (fun G2 p => ?_)
  obtain ⟨u_a0, u_q1, u_a2, u_q3, u_a4, u_q5, u_a6, u_q7, u_a8, u_q9, u_a10, u_q11, u_a12, u_q13, u_a14, u_q15, u_a16, u_q17, u_a18, u_q19, u_a20, u_q21, u_a22, u_q23, u_a24, u_q25, u_a26, u_q27, u_a28, u_q29, u_a30, u_q31, u_a32, u_q33, u_a34, u_q35, u_a36, u_q37, u_a38, u_q39, u_a40, u_q41, u_a42, u_q43, u_a44, u_q45, u_a46, u_q47, u_a48, u_q49, u_a50, u_q51, u_a52, u_q53, u_a54, u_q55, u_a56, u_q57, u_a58, u_q59, u_a60, u_q61, u_a62, u_q63, u_a64, u_q65, u_a66, u_q67, u_o68, u_q69, u_o70, u_q71, u_o72, u_q73, u_o74, u_q75, u_q76, u_o77, u_q78, u_o79, u_q80, u_a81, u_q82, u_a83, u_q84, u_a85, u_q86, u_a87, u_q88, u_q89, u_o90, u_o91, u_o92, u_o93, u_o94, u_o95, u_o96, u_o97, u_z98, u_z99, u_o100, u_o101, u_kn0, hcn, kk0, kk1, kk2, kk3, kk4, kk5, kk6, kk7, kk8, kk9, kk10, kk11⟩ := p
  obtain ⟨Y, S, hY, hW, ⟨hzn, hn45, hv⟩, hnP⟩ := gWT_of hcn kk0 kk1 kk2 kk3 kk4 kk5 kk6 kk7 kk8 kk9 kk10 kk11
  exact gG_kn (Nat.eq_of_beq_eq_true rfl) (Nat.eq_of_beq_eq_true rfl) (kk Y S G2 o hY hW hzn hn45 hv)
set_option maxHeartbeats 40000000 in
set_option maxRecDepth 100000 in
theorem law_p2 {nm : String} {d : gD} {b : Nat} {X : gX} {Q : State → Prop} {b0 L : Nat} {xs : Nat → Int32} (hC : gC RL cL_law 7 (some .boolean) nm room_1 d b X) (hl : X.la.stackTraces = false) (hX : va_X b0 L xs X.st X.st.heap) (hb : b0 < X.st.heap.size) (hb2 : b0 < b) (kk : ∀ (Y5 : gYt) (G5 : gM) (S : gSt) (r z w0 w1 w2 w3 w4 w5 w6 w7 w8 : Nat) (f : Nat → Value), (gWT d Y5 G5 S) → (∀ j, j < 44 → (j == 18 || j == 19 || j == 20) = false → sZ S j = 0 ∧ sN S j = 16) → (sN S 45 = 4096) → (∀ k, k ≠ 7 → sV S k = gvin 0 k) → (∀ x, (x = r ∨ x ∈ [w0, w1, w2, w3, w4, w5, w6, w7, w8] ∨ x = z) → gPr Y5 x) → (gRo G5 r f) → (G5 w0 = .inl (gY d, 6000, .inl (fun _ => 0))) → (G5 w1 = .inl (gI d, 9000, .inl (fun _ => 0))) → (G5 w2 = .inl (gI d, 9000, .inl (fun _ => 0))) → (G5 w3 = .inl (gI d, 9000, .inl (fun _ => 0))) → (G5 w4 = .inl (gI d, 9000, .inl (fun _ => 0))) → (G5 w5 = .inl (gI d, 4, .inl (fun _ => 0))) → (G5 w6 = .inl (gI d, 4, .inl (fun _ => 0))) → (G5 w7 = .inl (gI d, 2, .inl (fun _ => 0))) → (G5 w8 = .inl (gI d, 65536, .inl (fun _ => 0))) → (G5 z = .inl (gJ d, 1, .inr (.inl (fun _ => 0)))) → (f 0 = .int 0) → (f 2 = .int 0) → (f 12 = .int 0) → (f 99 = .int 4096) → (f 101 = .int 0) → (f 105 = .int 0) → (f 104 = .int 0) → (f 1 = .ref w0) → (f 39 = .ref w1) → (f 40 = .ref w2) → (f 41 = .ref w3) → (f 42 = .ref w4) → (f 112 = .ref w5) → (f 113 = .ref w6) → (f 116 = .ref w7) → (f 98 = .ref w8) → (w1 ≠ w2) → (w1 ≠ w3) → (w1 ≠ w4) → (w2 ≠ w3) → (w2 ≠ w4) → (w3 ≠ w4) → (w5 ≠ w6) → gG X d b Q G5 163473 5027954 20 [some (.ref b0), some (.ref (gO' Y5 0)), some (.ref r), some (.ref z), none, none, none] []) {Y : gYt} {S : gSt} {G2 : gM} {o : Nat} (hY : gO' Y 0 = o) (hW : gWT d Y G2 S) (hzn : ∀ j, j < 44 → (j == 18 || j == 19 || j == 20) = false → sZ S j = 0 ∧ sN S j = 16) (hn45 : sN S 45 = 4096) (hv : ∀ k, k ≠ 7 → sV S k = gvin 0 k) : gG X d b Q G2 163407 2008526 7 [some (.ref b0), none, none, none, none, none, none] [.ref o] := by
  refine g_astore_n (lv' := [some (.ref b0), some (.ref o), none, none, none, none, none]) hC dL_law_7 (Nat.le_of_ble_eq_true rfl) rfl rfl ?_
  refine g_new hC nl_L_20 (Nat.le_of_ble_eq_true rfl) (Nat.le_of_ble_eq_true rfl) dL_law_8 (fun r e_r => ?_)
  refine g_vF (fun F5 hF5 => ?_)
  have fr : gRo F5 r gdv := by show F5 r = _; rw [hF5]; exact va_up_self _ _ _
  refine g_dup hC dL_law_11 rfl ?_
  refine g_callIv (As := []) hC (k_R X.la d b F5 r fr) cl_L_22 rfl rfl (Nat.le_of_ble_eq_true rfl) (gFit_law (by decide) (by decide) (Nat.le_of_ble_eq_true rfl) (Nat.le_of_ble_eq_true rfl)) dL_law_12 (fun G4 p => ?_)
  obtain ⟨f, w0, w1, w2, w3, w4, w5, w6, w7, w8, ho, hex, ⟨v0, v2, v12, v99, v101, v105, v104⟩, ⟨v1, v39, v40, v41, v42, v112, v113, v116, v98⟩, ⟨⟨m0, gf0⟩, ⟨m1, gf1⟩, ⟨m2, gf2⟩, ⟨m3, gf3⟩, ⟨m4, gf4⟩, ⟨m5, gf5⟩, ⟨m6, gf6⟩, ⟨m7, gf7⟩, ⟨m8, gf8⟩⟩, hnd⟩ := p
  refine g_astore_n (lv' := [some (.ref b0), some (.ref o), some (.ref r), none, none, none, none]) hC dL_law_15 (Nat.le_of_ble_eq_true rfl) rfl rfl ?_
  refine g_iconst (v := 1) hC dL_law_16 rfl ?_
  refine g_newa (atype := .long) (N := 1) (a0 := (1, .inr (.inl (fun _ => 0)))) hC 3 kw_2948 rfl (by decide) (fun _ => rfl) (by decide) rfl (Nat.le_of_ble_eq_true rfl) (Nat.le_of_ble_eq_true rfl) (Nat.le_of_ble_eq_true rfl) dL_law_17 (fun z e_z => ?_)
  refine g_vF (fun G5 h5 => ?_)
  refine g_astore_n (lv' := [some (.ref b0), some (.ref o), some (.ref r), some (.ref z), none, none, none]) hC dL_law_19 (Nat.le_of_ble_eq_true rfl) rfl rfl ?_
  obtain ⟨hW5, k5⟩ := gLaw0 (ws := [w0, w1, w2, w3, w4, w5, w6, w7, w8]) hW e_r hF5 g0_o hex (fun x hx => by
    simp only [List.mem_cons, List.not_mem_nil, or_false] at hx
    rcases hx with rfl | rfl | rfl | rfl | rfl | rfl | rfl | rfl | rfl
    · exact ⟨gf0, by rw [m0]; exact g0_a⟩
    · exact ⟨gf1, by rw [m1]; exact g0_a⟩
    · exact ⟨gf2, by rw [m2]; exact g0_a⟩
    · exact ⟨gf3, by rw [m3]; exact g0_a⟩
    · exact ⟨gf4, by rw [m4]; exact g0_a⟩
    · exact ⟨gf5, by rw [m5]; exact g0_a⟩
    · exact ⟨gf6, by rw [m6]; exact g0_a⟩
    · exact ⟨gf7, by rw [m7]; exact g0_a⟩
    · exact ⟨gf8, by rw [m8]; exact g0_a⟩) e_z h5 g0_a
  have ho5 : gRo G5 r f := (k5 r (by rw [ho]; exact g0_o)).trans ho
  have a0 : G5 w0 = .inl (gY d, 6000, .inl (fun _ => 0)) := (k5 _ (by rw [m0]; exact g0_a)).trans m0
  have a1 : G5 w1 = .inl (gI d, 9000, .inl (fun _ => 0)) := (k5 _ (by rw [m1]; exact g0_a)).trans m1
  have a2 : G5 w2 = .inl (gI d, 9000, .inl (fun _ => 0)) := (k5 _ (by rw [m2]; exact g0_a)).trans m2
  have a3 : G5 w3 = .inl (gI d, 9000, .inl (fun _ => 0)) := (k5 _ (by rw [m3]; exact g0_a)).trans m3
  have a4 : G5 w4 = .inl (gI d, 9000, .inl (fun _ => 0)) := (k5 _ (by rw [m4]; exact g0_a)).trans m4
  have a5 : G5 w5 = .inl (gI d, 4, .inl (fun _ => 0)) := (k5 _ (by rw [m5]; exact g0_a)).trans m5
  have a6 : G5 w6 = .inl (gI d, 4, .inl (fun _ => 0)) := (k5 _ (by rw [m6]; exact g0_a)).trans m6
  have a7 : G5 w7 = .inl (gI d, 2, .inl (fun _ => 0)) := (k5 _ (by rw [m7]; exact g0_a)).trans m7
  have a8 : G5 w8 = .inl (gI d, 65536, .inl (fun _ => 0)) := (k5 _ (by rw [m8]; exact g0_a)).trans m8
  have z5 : G5 z = .inl (gJ d, 1, .inr (.inl (fun _ => 0))) := by rw [h5]; exact va_up_self _ _ _
  have hne01 : w1 ≠ w2 := fun e => absurd (gNdup hnd (i := 1) (j := 2) rfl (e ▸ rfl)) (by decide)
  have hne02 : w1 ≠ w3 := fun e => absurd (gNdup hnd (i := 1) (j := 3) rfl (e ▸ rfl)) (by decide)
  have hne03 : w1 ≠ w4 := fun e => absurd (gNdup hnd (i := 1) (j := 4) rfl (e ▸ rfl)) (by decide)
  have hne12 : w2 ≠ w3 := fun e => absurd (gNdup hnd (i := 2) (j := 3) rfl (e ▸ rfl)) (by decide)
  have hne13 : w2 ≠ w4 := fun e => absurd (gNdup hnd (i := 2) (j := 4) rfl (e ▸ rfl)) (by decide)
  have hne23 : w3 ≠ w4 := fun e => absurd (gNdup hnd (i := 3) (j := 4) rfl (e ▸ rfl)) (by decide)
  have hne56 : w5 ≠ w6 := fun e => absurd (gNdup hnd (i := 5) (j := 6) rfl (e ▸ rfl)) (by decide)
  subst hY
  exact gG_kn (Nat.eq_of_beq_eq_true rfl) (Nat.eq_of_beq_eq_true rfl) (kk (Y.1, Y.2.1, Y.2.2.1, fun x => x = r ∨ x ∈ [w0, w1, w2, w3, w4, w5, w6, w7, w8] ∨ x = z) G5 S r z w0 w1 w2 w3 w4 w5 w6 w7 w8 f hW5 hzn hn45 hv (fun _ h => h) ho5 a0 a1 a2 a3 a4 a5 a6 a7 a8 z5 v0 v2 v12 v99 v101 v105 v104 v1 v39 v40 v41 v42 v112 v113 v116 v98 hne01 hne02 hne03 hne12 hne13 hne23 hne56)
set_option maxHeartbeats 40000000 in
set_option maxRecDepth 100000 in
theorem law_a0 {nm : String} {d : gD} {b : Nat} {X : gX} {Q : State → Prop} {b0 : Nat} {xs : Nat → Int32} (hC : gC RL cL_law 7 (some .boolean) nm room_1 d b X) (hl : X.la.stackTraces = false) (hX : va_X b0 6 xs X.st X.st.heap) (hb : b0 < X.st.heap.size) (hb2 : b0 < b) (END : ∀ (F6 : gM) (k6 n6 : Nat), k6 ≤ 600002 → n6 ≤ 7302232 → gG X d b Q F6 k6 n6 478 [some (.ref b0), none, none, none, some (.int 0), none, none] []) {Y5 : gYt} {G5 : gM} {S : gSt} {r z w0 w1 w2 w3 w4 w5 w6 w7 w8 : Nat} {f : Nat → Value} (hW5 : gWT d Y5 G5 S) (hzn : ∀ j, j < 44 → (j == 18 || j == 19 || j == 20) = false → sZ S j = 0 ∧ sN S j = 16) (hn45 : sN S 45 = 4096) (hv : ∀ k, k ≠ 7 → sV S k = gvin 0 k) (hPr : ∀ x, (x = r ∨ x ∈ [w0, w1, w2, w3, w4, w5, w6, w7, w8] ∨ x = z) → gPr Y5 x) (ho5 : gRo G5 r f) (a0 : G5 w0 = .inl (gY d, 6000, .inl (fun _ => 0))) (a1 : G5 w1 = .inl (gI d, 9000, .inl (fun _ => 0))) (a2 : G5 w2 = .inl (gI d, 9000, .inl (fun _ => 0))) (a3 : G5 w3 = .inl (gI d, 9000, .inl (fun _ => 0))) (a4 : G5 w4 = .inl (gI d, 9000, .inl (fun _ => 0))) (a5 : G5 w5 = .inl (gI d, 4, .inl (fun _ => 0))) (a6 : G5 w6 = .inl (gI d, 4, .inl (fun _ => 0))) (a7 : G5 w7 = .inl (gI d, 2, .inl (fun _ => 0))) (a8 : G5 w8 = .inl (gI d, 65536, .inl (fun _ => 0))) (z5 : G5 z = .inl (gJ d, 1, .inr (.inl (fun _ => 0)))) (v0 : f 0 = .int 0) (v2 : f 2 = .int 0) (v12 : f 12 = .int 0) (v99 : f 99 = .int 4096) (v101 : f 101 = .int 0) (v105 : f 105 = .int 0) (v104 : f 104 = .int 0) (v1 : f 1 = .ref w0) (v39 : f 39 = .ref w1) (v40 : f 40 = .ref w2) (v41 : f 41 = .ref w3) (v42 : f 42 = .ref w4) (v112 : f 112 = .ref w5) (v113 : f 113 = .ref w6) (v116 : f 116 = .ref w7) (v98 : f 98 = .ref w8) (hne01 : w1 ≠ w2) (hne02 : w1 ≠ w3) (hne03 : w1 ≠ w4) (hne12 : w2 ≠ w3) (hne13 : w2 ≠ w4) (hne23 : w3 ≠ w4) (hne56 : w5 ≠ w6) : gG X d b Q G5 163473 5027954 104 [some (.ref b0), some (.ref (gO' Y5 0)), some (.ref r), some (.ref z), some (.int 0), none, none] [] := by
  refine g_aload_n hC dL_law_104 rfl ?_
  refine g_aload_n hC dL_law_105 rfl ?_
  refine g_iload hC dL_law_106 rfl ?_
  refine g_iconst (v := 1) hC dL_law_108 rfl ?_
  refine g_iadd hC dL_law_109 ?_
  refine g_vi (fun x6 ex6 => ?_)
  refine g_sld hC hX hb hb2 (by rw [show x6 = nI 1 from by rw [ex6]; decide]; exact vp_in_nI (n := 1) (by decide) (by decide)) dL_law_110 ?_
  refine g_vi (fun x7 ex7 => ?_)
  have zx7 : x7 = xs 1 := by rw [ex7, ex6]; rfl
  subst zx7
  refine g_aload_n hC dL_law_111 rfl ?_
  refine g_iload hC dL_law_112 rfl ?_
  refine g_iconst (v := 2) hC dL_law_114 rfl ?_
  refine g_iadd hC dL_law_115 ?_
  refine g_vi (fun x8 ex8 => ?_)
  refine g_sld hC hX hb hb2 (by rw [show x8 = nI 2 from by rw [ex8]; decide]; exact vp_in_nI (n := 2) (by decide) (by decide)) dL_law_116 ?_
  refine g_vi (fun x9 ex9 => ?_)
  have zx9 : x9 = xs 2 := by rw [ex9, ex8]; rfl
  subst zx9
  refine g_aload_n hC dL_law_117 rfl ?_
  refine g_iload hC dL_law_118 rfl ?_
  refine g_iconst (v := 3) hC dL_law_120 rfl ?_
  refine g_iadd hC dL_law_121 ?_
  refine g_vi (fun x10 ex10 => ?_)
  refine g_sld hC hX hb hb2 (by rw [show x10 = nI 3 from by rw [ex10]; decide]; exact vp_in_nI (n := 3) (by decide) (by decide)) dL_law_122 ?_
  refine g_vi (fun x11 ex11 => ?_)
  have zx11 : x11 = xs 3 := by rw [ex11, ex10]; rfl
  subst zx11
  refine g_aload_n hC dL_law_123 rfl ?_
  refine g_iload hC dL_law_124 rfl ?_
  refine g_iconst (v := 4) hC dL_law_126 rfl ?_
  refine g_iadd hC dL_law_127 ?_
  refine g_vi (fun x12 ex12 => ?_)
  refine g_sld hC hX hb hb2 (by rw [show x12 = nI 4 from by rw [ex12]; decide]; exact vp_in_nI (n := 4) (by decide) (by decide)) dL_law_128 ?_
  refine g_vi (fun x13 ex13 => ?_)
  have zx13 : x13 = xs 4 := by rw [ex13, ex12]; rfl
  subst zx13
  refine g_aload_n hC dL_law_129 rfl ?_
  refine g_iload hC dL_law_130 rfl ?_
  refine g_iconst (v := 5) hC dL_law_132 rfl ?_
  refine g_iadd hC dL_law_133 ?_
  refine g_vi (fun x14 ex14 => ?_)
  refine g_sld hC hX hb hb2 (by rw [show x14 = nI 5 from by rw [ex14]; decide]; exact vp_in_nI (n := 5) (by decide) (by decide)) dL_law_134 ?_
  refine g_vi (fun x15 ex15 => ?_)
  have zx15 : x15 = xs 5 := by rw [ex15, ex14]; rfl
  subst zx15
  refine g_callVi (As := [.int (xs 1), .int (xs 2), .int (xs 3), .int (xs 4), .int (xs 5)]) hC rfl (hW5.o 0 (by decide)) (c_W_feed0 X.la d b Y5 G5 S hW5 ((hzn 0 (by decide) rfl).1) ((hzn 0 (by decide) rfl).2) (xs 1) (xs 2) (xs 3) (xs 4) (xs 5)) cl_L_23 rfl rfl (Nat.le_of_ble_eq_true rfl) (gFit_law (by decide) (by decide) (Nat.le_of_ble_eq_true rfl) (Nat.le_of_ble_eq_true rfl)) dL_law_135 (fun r16 F17 p18 => ?_)
  obtain ⟨rfl, S1, hW6, hK, -⟩ := p18
  refine g_aload_n hC dL_law_138 rfl ?_
  refine g_aload_n hC dL_law_139 rfl ?_
  refine g_iload hC dL_law_140 rfl ?_
  refine g_iconst (v := 1) hC dL_law_142 rfl ?_
  refine g_iadd hC dL_law_143 ?_
  refine g_vi (fun x19 ex19 => ?_)
  refine g_sld hC hX hb hb2 (by rw [show x19 = nI 1 from by rw [ex19]; decide]; exact vp_in_nI (n := 1) (by decide) (by decide)) dL_law_144 ?_
  refine g_vi (fun x20 ex20 => ?_)
  have zx20 : x20 = xs 1 := by rw [ex20, ex19]; rfl
  subst zx20
  refine g_aload_n hC dL_law_145 rfl ?_
  refine g_iload hC dL_law_146 rfl ?_
  refine g_iconst (v := 2) hC dL_law_148 rfl ?_
  refine g_iadd hC dL_law_149 ?_
  refine g_vi (fun x21 ex21 => ?_)
  refine g_sld hC hX hb hb2 (by rw [show x21 = nI 2 from by rw [ex21]; decide]; exact vp_in_nI (n := 2) (by decide) (by decide)) dL_law_150 ?_
  refine g_vi (fun x22 ex22 => ?_)
  have zx22 : x22 = xs 2 := by rw [ex22, ex21]; rfl
  subst zx22
  refine g_aload_n hC dL_law_151 rfl ?_
  refine g_iload hC dL_law_152 rfl ?_
  refine g_iconst (v := 3) hC dL_law_154 rfl ?_
  refine g_iadd hC dL_law_155 ?_
  refine g_vi (fun x23 ex23 => ?_)
  refine g_sld hC hX hb hb2 (by rw [show x23 = nI 3 from by rw [ex23]; decide]; exact vp_in_nI (n := 3) (by decide) (by decide)) dL_law_156 ?_
  refine g_vi (fun x24 ex24 => ?_)
  have zx24 : x24 = xs 3 := by rw [ex24, ex23]; rfl
  subst zx24
  refine g_aload_n hC dL_law_157 rfl ?_
  refine g_iload hC dL_law_158 rfl ?_
  refine g_iconst (v := 4) hC dL_law_160 rfl ?_
  refine g_iadd hC dL_law_161 ?_
  refine g_vi (fun x25 ex25 => ?_)
  refine g_sld hC hX hb hb2 (by rw [show x25 = nI 4 from by rw [ex25]; decide]; exact vp_in_nI (n := 4) (by decide) (by decide)) dL_law_162 ?_
  refine g_vi (fun x26 ex26 => ?_)
  have zx26 : x26 = xs 4 := by rw [ex26, ex25]; rfl
  subst zx26
  refine g_aload_n hC dL_law_163 rfl ?_
  refine g_iload hC dL_law_164 rfl ?_
  refine g_iconst (v := 5) hC dL_law_166 rfl ?_
  refine g_iadd hC dL_law_167 ?_
  refine g_vi (fun x27 ex27 => ?_)
  refine g_sld hC hX hb hb2 (by rw [show x27 = nI 5 from by rw [ex27]; decide]; exact vp_in_nI (n := 5) (by decide) (by decide)) dL_law_168 ?_
  refine g_vi (fun x28 ex28 => ?_)
  have zx28 : x28 = xs 5 := by rw [ex28, ex27]; rfl
  subst zx28
  refine g_callVi (As := [.int (xs 1), .int (xs 2), .int (xs 3), .int (xs 4), .int (xs 5)]) hC rfl ((hK r (hPr _ (Or.inl rfl))).trans ho5) (r_feed X.la d b F17 r f (xs 1) (xs 2) (xs 3) (xs 4) (xs 5) w0 ((hK r (hPr _ (Or.inl rfl))).trans ho5) v2 v1 ((hK w0 (hPr _ (Or.inr (Or.inl (List.mem_of_getElem? (i := 0) rfl))))).trans a0) ) cl_L_27 rfl rfl (Nat.le_of_ble_eq_true rfl) (gFit_law (by decide) (by decide) (Nat.le_of_ble_eq_true rfl) (Nat.le_of_ble_eq_true rfl)) dL_law_169 (fun r29 F30 p31 => ?_)
  refine g_icmp_eq (tgt := 478) hC dL_law_172 (by decide) (fun _ => ?_) (fun c => absurd (p31.symm) c)
  exact g_lv (lv' := [some (.ref b0), none, none, none, some (.int 0), none, none]) ⟨rfl, rfl, trivial⟩ (END _ _ _ (Nat.le_of_ble_eq_true rfl) (Nat.le_of_ble_eq_true rfl))
set_option maxHeartbeats 40000000 in
set_option maxRecDepth 100000 in
theorem law_a1 {nm : String} {d : gD} {b : Nat} {X : gX} {Q : State → Prop} {b0 : Nat} {xs : Nat → Int32} (hC : gC RL cL_law 7 (some .boolean) nm room_1 d b X) (hl : X.la.stackTraces = false) (hX : va_X b0 6 xs X.st X.st.heap) (hb : b0 < X.st.heap.size) (hb2 : b0 < b) (END : ∀ (F6 : gM) (k6 n6 : Nat), k6 ≤ 600002 → n6 ≤ 7302232 → gG X d b Q F6 k6 n6 478 [some (.ref b0), none, none, none, some (.int 0), none, none] []) {Y5 : gYt} {G5 : gM} {S : gSt} {r z w0 w1 w2 w3 w4 w5 w6 w7 w8 : Nat} {f : Nat → Value} (hW5 : gWT d Y5 G5 S) (hzn : ∀ j, j < 44 → (j == 18 || j == 19 || j == 20) = false → sZ S j = 0 ∧ sN S j = 16) (hn45 : sN S 45 = 4096) (hv : ∀ k, k ≠ 7 → sV S k = gvin 0 k) (hPr : ∀ x, (x = r ∨ x ∈ [w0, w1, w2, w3, w4, w5, w6, w7, w8] ∨ x = z) → gPr Y5 x) (ho5 : gRo G5 r f) (a0 : G5 w0 = .inl (gY d, 6000, .inl (fun _ => 0))) (a1 : G5 w1 = .inl (gI d, 9000, .inl (fun _ => 0))) (a2 : G5 w2 = .inl (gI d, 9000, .inl (fun _ => 0))) (a3 : G5 w3 = .inl (gI d, 9000, .inl (fun _ => 0))) (a4 : G5 w4 = .inl (gI d, 9000, .inl (fun _ => 0))) (a5 : G5 w5 = .inl (gI d, 4, .inl (fun _ => 0))) (a6 : G5 w6 = .inl (gI d, 4, .inl (fun _ => 0))) (a7 : G5 w7 = .inl (gI d, 2, .inl (fun _ => 0))) (a8 : G5 w8 = .inl (gI d, 65536, .inl (fun _ => 0))) (z5 : G5 z = .inl (gJ d, 1, .inr (.inl (fun _ => 0)))) (v0 : f 0 = .int 0) (v2 : f 2 = .int 0) (v12 : f 12 = .int 0) (v99 : f 99 = .int 4096) (v101 : f 101 = .int 0) (v105 : f 105 = .int 0) (v104 : f 104 = .int 0) (v1 : f 1 = .ref w0) (v39 : f 39 = .ref w1) (v40 : f 40 = .ref w2) (v41 : f 41 = .ref w3) (v42 : f 42 = .ref w4) (v112 : f 112 = .ref w5) (v113 : f 113 = .ref w6) (v116 : f 116 = .ref w7) (v98 : f 98 = .ref w8) (hne01 : w1 ≠ w2) (hne02 : w1 ≠ w3) (hne03 : w1 ≠ w4) (hne12 : w2 ≠ w3) (hne13 : w2 ≠ w4) (hne23 : w3 ≠ w4) (hne56 : w5 ≠ w6) : gG X d b Q G5 163473 5027954 177 [some (.ref b0), some (.ref (gO' Y5 0)), some (.ref r), some (.ref z), some (.int 0), none, none] [] := by
  refine g_aload_n hC dL_law_177 rfl ?_
  refine g_aload_n hC dL_law_178 rfl ?_
  refine g_iload hC dL_law_179 rfl ?_
  refine g_iconst (v := 1) hC dL_law_181 rfl ?_
  refine g_iadd hC dL_law_182 ?_
  refine g_vi (fun x32 ex32 => ?_)
  refine g_sld hC hX hb hb2 (by rw [show x32 = nI 1 from by rw [ex32]; decide]; exact vp_in_nI (n := 1) (by decide) (by decide)) dL_law_183 ?_
  refine g_vi (fun x33 ex33 => ?_)
  have zx33 : x33 = xs 1 := by rw [ex33, ex32]; rfl
  subst zx33
  refine g_callVi (As := [.int (xs 1)]) hC rfl (hW5.o 0 (by decide)) (c_W_end X.la d b Y5 G5 S hW5 (xs 1)) cl_L_28 rfl rfl (Nat.le_of_ble_eq_true rfl) (gFit_law (by decide) (by decide) (Nat.le_of_ble_eq_true rfl) (Nat.le_of_ble_eq_true rfl)) dL_law_184 (fun r34 F35 p36 => ?_)
  rw [(hzn 0 (by decide) rfl).1] at p36
  have hK : gKp Y5 G5 F35 := by
    by_cases q : (xs 1) < 0 ∨ ¬ (xs 1) ≤ 0
    · obtain ⟨-, S1, -, h, -⟩ := p36.1 q; exact h
    · obtain ⟨-, S1, -, h, -⟩ := p36.2 ⟨fun a => q (Or.inl a), Classical.not_not.mp (fun a => q (Or.inr a))⟩; exact h
  refine g_aload_n hC dL_law_187 rfl ?_
  refine g_aload_n hC dL_law_188 rfl ?_
  refine g_iload hC dL_law_189 rfl ?_
  refine g_iconst (v := 1) hC dL_law_191 rfl ?_
  refine g_iadd hC dL_law_192 ?_
  refine g_vi (fun x37 ex37 => ?_)
  refine g_sld hC hX hb hb2 (by rw [show x37 = nI 1 from by rw [ex37]; decide]; exact vp_in_nI (n := 1) (by decide) (by decide)) dL_law_193 ?_
  refine g_vi (fun x38 ex38 => ?_)
  have zx38 : x38 = xs 1 := by rw [ex38, ex37]; rfl
  subst zx38
  refine g_callVi (As := [.int (xs 1)]) hC rfl ((hK r (hPr _ (Or.inl rfl))).trans ho5) (r_end X.la d b F35 r f (xs 1) ((hK r (hPr _ (Or.inl rfl))).trans ho5) v2  ) cl_L_32 rfl rfl (Nat.le_of_ble_eq_true rfl) (gFit_law (by decide) (by decide) (Nat.le_of_ble_eq_true rfl) (Nat.le_of_ble_eq_true rfl)) dL_law_194 (fun r39 F40 p41 => ?_)
  refine g_icmp_eq (tgt := 478) hC dL_law_197 (by decide) (fun _ => ?_) (fun c => absurd ((Classical.em ((xs 1) < 0 ∨ ¬ (xs 1) ≤ 0)).elim (fun z => (p36.1 z).1.trans (p41.1 z).symm) (fun z => (p36.2 ⟨fun a => z (Or.inl a), Classical.not_not.mp (fun a => z (Or.inr a))⟩).1.trans (p41.2 ⟨fun a => z (Or.inl a), Classical.not_not.mp (fun a => z (Or.inr a))⟩).symm)) c)
  exact g_lv (lv' := [some (.ref b0), none, none, none, some (.int 0), none, none]) ⟨rfl, rfl, trivial⟩ (END _ _ _ (Nat.le_of_ble_eq_true rfl) (Nat.le_of_ble_eq_true rfl))
set_option maxHeartbeats 40000000 in
set_option maxRecDepth 100000 in
theorem law_a2 {nm : String} {d : gD} {b : Nat} {X : gX} {Q : State → Prop} {b0 : Nat} {xs : Nat → Int32} (hC : gC RL cL_law 7 (some .boolean) nm room_1 d b X) (hl : X.la.stackTraces = false) (hX : va_X b0 6 xs X.st X.st.heap) (hb : b0 < X.st.heap.size) (hb2 : b0 < b) (END : ∀ (F6 : gM) (k6 n6 : Nat), k6 ≤ 600002 → n6 ≤ 7302232 → gG X d b Q F6 k6 n6 478 [some (.ref b0), none, none, none, some (.int 0), none, none] []) {Y5 : gYt} {G5 : gM} {S : gSt} {r z w0 w1 w2 w3 w4 w5 w6 w7 w8 : Nat} {f : Nat → Value} (hW5 : gWT d Y5 G5 S) (hzn : ∀ j, j < 44 → (j == 18 || j == 19 || j == 20) = false → sZ S j = 0 ∧ sN S j = 16) (hn45 : sN S 45 = 4096) (hv : ∀ k, k ≠ 7 → sV S k = gvin 0 k) (hPr : ∀ x, (x = r ∨ x ∈ [w0, w1, w2, w3, w4, w5, w6, w7, w8] ∨ x = z) → gPr Y5 x) (ho5 : gRo G5 r f) (a0 : G5 w0 = .inl (gY d, 6000, .inl (fun _ => 0))) (a1 : G5 w1 = .inl (gI d, 9000, .inl (fun _ => 0))) (a2 : G5 w2 = .inl (gI d, 9000, .inl (fun _ => 0))) (a3 : G5 w3 = .inl (gI d, 9000, .inl (fun _ => 0))) (a4 : G5 w4 = .inl (gI d, 9000, .inl (fun _ => 0))) (a5 : G5 w5 = .inl (gI d, 4, .inl (fun _ => 0))) (a6 : G5 w6 = .inl (gI d, 4, .inl (fun _ => 0))) (a7 : G5 w7 = .inl (gI d, 2, .inl (fun _ => 0))) (a8 : G5 w8 = .inl (gI d, 65536, .inl (fun _ => 0))) (z5 : G5 z = .inl (gJ d, 1, .inr (.inl (fun _ => 0)))) (v0 : f 0 = .int 0) (v2 : f 2 = .int 0) (v12 : f 12 = .int 0) (v99 : f 99 = .int 4096) (v101 : f 101 = .int 0) (v105 : f 105 = .int 0) (v104 : f 104 = .int 0) (v1 : f 1 = .ref w0) (v39 : f 39 = .ref w1) (v40 : f 40 = .ref w2) (v41 : f 41 = .ref w3) (v42 : f 42 = .ref w4) (v112 : f 112 = .ref w5) (v113 : f 113 = .ref w6) (v116 : f 116 = .ref w7) (v98 : f 98 = .ref w8) (hne01 : w1 ≠ w2) (hne02 : w1 ≠ w3) (hne03 : w1 ≠ w4) (hne12 : w2 ≠ w3) (hne13 : w2 ≠ w4) (hne23 : w3 ≠ w4) (hne56 : w5 ≠ w6) : gG X d b Q G5 163473 5027954 202 [some (.ref b0), some (.ref (gO' Y5 0)), some (.ref r), some (.ref z), some (.int 0), none, none] [] := by
  refine g_aload_n hC dL_law_202 rfl ?_
  refine g_callVi (As := []) hC rfl (hW5.o 0 (by decide)) (c_W_compile0 X.la d b Y5 G5 S hW5 hl ((hzn 0 (by decide) rfl).1) ((hzn 0 (by decide) rfl).2) ((hzn 1 (by decide) rfl).1) ((hzn 1 (by decide) rfl).2) ((hzn 2 (by decide) rfl).1) ((hzn 2 (by decide) rfl).2) ((hzn 3 (by decide) rfl).1) ((hzn 3 (by decide) rfl).2) ((hzn 4 (by decide) rfl).1) ((hzn 4 (by decide) rfl).2) ((hzn 5 (by decide) rfl).1) ((hzn 5 (by decide) rfl).2) ((hzn 6 (by decide) rfl).1) ((hzn 6 (by decide) rfl).2) ((hzn 7 (by decide) rfl).1) ((hzn 7 (by decide) rfl).2) ((hzn 8 (by decide) rfl).1) ((hzn 8 (by decide) rfl).2) ((hzn 9 (by decide) rfl).1) ((hzn 9 (by decide) rfl).2) ((hzn 10 (by decide) rfl).1) ((hzn 10 (by decide) rfl).2) ((hzn 11 (by decide) rfl).1) ((hzn 11 (by decide) rfl).2) ((hzn 12 (by decide) rfl).1) ((hzn 12 (by decide) rfl).2) ((hzn 13 (by decide) rfl).1) ((hzn 13 (by decide) rfl).2) ((hzn 21 (by decide) rfl).1) ((hzn 21 (by decide) rfl).2) ((hzn 22 (by decide) rfl).1) ((hzn 22 (by decide) rfl).2) ((hzn 23 (by decide) rfl).1) ((hzn 23 (by decide) rfl).2) ((hzn 14 (by decide) rfl).1) ((hzn 14 (by decide) rfl).2) ((hzn 15 (by decide) rfl).1) ((hzn 15 (by decide) rfl).2) ((hzn 16 (by decide) rfl).1) ((hzn 16 (by decide) rfl).2)) cl_L_33 rfl rfl (Nat.le_of_ble_eq_true rfl) (gFit_law (by decide) (by decide) (Nat.le_of_ble_eq_true rfl) (Nat.le_of_ble_eq_true rfl)) dL_law_203 (fun r42 F43 p44 => ?_)
  obtain ⟨rfl, S1, hW6, hK, -⟩ := p44
  refine g_aload_n hC dL_law_206 rfl ?_
  refine g_callVi (As := []) hC rfl ((hK r (hPr _ (Or.inl rfl))).trans ho5) (r_compile X.la d b F43 r f w1 w2 w3 w4 ((hK r (hPr _ (Or.inl rfl))).trans ho5) v39 v40 v41 v42 v2 ((hK w1 (hPr _ (Or.inr (Or.inl (List.mem_of_getElem? (i := 1) rfl))))).trans a1) ((hK w2 (hPr _ (Or.inr (Or.inl (List.mem_of_getElem? (i := 2) rfl))))).trans a2) ((hK w3 (hPr _ (Or.inr (Or.inl (List.mem_of_getElem? (i := 3) rfl))))).trans a3) ((hK w4 (hPr _ (Or.inr (Or.inl (List.mem_of_getElem? (i := 4) rfl))))).trans a4) hne01 hne02 hne03 hne12 hne13 hne23) cl_L_37 rfl rfl (Nat.le_of_ble_eq_true rfl) (gFit_law (by decide) (by decide) (Nat.le_of_ble_eq_true rfl) (Nat.le_of_ble_eq_true rfl)) dL_law_207 (fun r45 F46 p47 => ?_)
  refine g_icmp_eq (tgt := 478) hC dL_law_210 (by decide) (fun _ => ?_) (fun c => absurd (p47.symm) c)
  exact g_lv (lv' := [some (.ref b0), none, none, none, some (.int 0), none, none]) ⟨rfl, rfl, trivial⟩ (END _ _ _ (Nat.le_of_ble_eq_true rfl) (Nat.le_of_ble_eq_true rfl))
set_option maxHeartbeats 40000000 in
set_option maxRecDepth 100000 in
theorem law_a3 {nm : String} {d : gD} {b : Nat} {X : gX} {Q : State → Prop} {b0 : Nat} {xs : Nat → Int32} (hC : gC RL cL_law 7 (some .boolean) nm room_1 d b X) (hl : X.la.stackTraces = false) (hX : va_X b0 6 xs X.st X.st.heap) (hb : b0 < X.st.heap.size) (hb2 : b0 < b) (END : ∀ (F6 : gM) (k6 n6 : Nat), k6 ≤ 600002 → n6 ≤ 7302232 → gG X d b Q F6 k6 n6 478 [some (.ref b0), none, none, none, some (.int 0), none, none] []) {Y5 : gYt} {G5 : gM} {S : gSt} {r z w0 w1 w2 w3 w4 w5 w6 w7 w8 : Nat} {f : Nat → Value} (hW5 : gWT d Y5 G5 S) (hzn : ∀ j, j < 44 → (j == 18 || j == 19 || j == 20) = false → sZ S j = 0 ∧ sN S j = 16) (hn45 : sN S 45 = 4096) (hv : ∀ k, k ≠ 7 → sV S k = gvin 0 k) (hPr : ∀ x, (x = r ∨ x ∈ [w0, w1, w2, w3, w4, w5, w6, w7, w8] ∨ x = z) → gPr Y5 x) (ho5 : gRo G5 r f) (a0 : G5 w0 = .inl (gY d, 6000, .inl (fun _ => 0))) (a1 : G5 w1 = .inl (gI d, 9000, .inl (fun _ => 0))) (a2 : G5 w2 = .inl (gI d, 9000, .inl (fun _ => 0))) (a3 : G5 w3 = .inl (gI d, 9000, .inl (fun _ => 0))) (a4 : G5 w4 = .inl (gI d, 9000, .inl (fun _ => 0))) (a5 : G5 w5 = .inl (gI d, 4, .inl (fun _ => 0))) (a6 : G5 w6 = .inl (gI d, 4, .inl (fun _ => 0))) (a7 : G5 w7 = .inl (gI d, 2, .inl (fun _ => 0))) (a8 : G5 w8 = .inl (gI d, 65536, .inl (fun _ => 0))) (z5 : G5 z = .inl (gJ d, 1, .inr (.inl (fun _ => 0)))) (v0 : f 0 = .int 0) (v2 : f 2 = .int 0) (v12 : f 12 = .int 0) (v99 : f 99 = .int 4096) (v101 : f 101 = .int 0) (v105 : f 105 = .int 0) (v104 : f 104 = .int 0) (v1 : f 1 = .ref w0) (v39 : f 39 = .ref w1) (v40 : f 40 = .ref w2) (v41 : f 41 = .ref w3) (v42 : f 42 = .ref w4) (v112 : f 112 = .ref w5) (v113 : f 113 = .ref w6) (v116 : f 116 = .ref w7) (v98 : f 98 = .ref w8) (hne01 : w1 ≠ w2) (hne02 : w1 ≠ w3) (hne03 : w1 ≠ w4) (hne12 : w2 ≠ w3) (hne13 : w2 ≠ w4) (hne23 : w3 ≠ w4) (hne56 : w5 ≠ w6) : gG X d b Q G5 163473 5027954 215 [some (.ref b0), some (.ref (gO' Y5 0)), some (.ref r), some (.ref z), some (.int 0), none, none] [] := by
  refine g_aload_n hC dL_law_215 rfl ?_
  refine g_callVi (As := []) hC rfl (hW5.o 0 (by decide)) (c_W_fault X.la d b Y5 G5 S hW5) cl_L_38 rfl rfl (Nat.le_of_ble_eq_true rfl) (gFit_law (by decide) (by decide) (Nat.le_of_ble_eq_true rfl) (Nat.le_of_ble_eq_true rfl)) dL_law_216 (fun r48 F49 p50 => ?_)
  obtain ⟨hr1, eF⟩ := p50
  have eF := eF.symm; subst eF
  refine g_aload_n hC dL_law_219 rfl ?_
  refine g_callVi (As := []) hC rfl ho5 (r_fault X.la d b G5 r f  ho5 v12  ) cl_L_41 rfl rfl (Nat.le_of_ble_eq_true rfl) (gFit_law (by decide) (by decide) (Nat.le_of_ble_eq_true rfl) (Nat.le_of_ble_eq_true rfl)) dL_law_220 (fun r51 F52 p53 => ?_)
  refine g_icmp_eq (tgt := 478) hC dL_law_223 (by decide) (fun _ => ?_) (fun c => absurd ((hr1.trans (hv 4 (by decide))).trans p53.symm) c)
  exact g_lv (lv' := [some (.ref b0), none, none, none, some (.int 0), none, none]) ⟨rfl, rfl, trivial⟩ (END _ _ _ (Nat.le_of_ble_eq_true rfl) (Nat.le_of_ble_eq_true rfl))
set_option maxHeartbeats 40000000 in
set_option maxRecDepth 100000 in
theorem law_a4 {nm : String} {d : gD} {b : Nat} {X : gX} {Q : State → Prop} {b0 : Nat} {xs : Nat → Int32} (hC : gC RL cL_law 7 (some .boolean) nm room_1 d b X) (hl : X.la.stackTraces = false) (hX : va_X b0 6 xs X.st X.st.heap) (hb : b0 < X.st.heap.size) (hb2 : b0 < b) (END : ∀ (F6 : gM) (k6 n6 : Nat), k6 ≤ 600002 → n6 ≤ 7302232 → gG X d b Q F6 k6 n6 478 [some (.ref b0), none, none, none, some (.int 0), none, none] []) {Y5 : gYt} {G5 : gM} {S : gSt} {r z w0 w1 w2 w3 w4 w5 w6 w7 w8 : Nat} {f : Nat → Value} (hW5 : gWT d Y5 G5 S) (hzn : ∀ j, j < 44 → (j == 18 || j == 19 || j == 20) = false → sZ S j = 0 ∧ sN S j = 16) (hn45 : sN S 45 = 4096) (hv : ∀ k, k ≠ 7 → sV S k = gvin 0 k) (hPr : ∀ x, (x = r ∨ x ∈ [w0, w1, w2, w3, w4, w5, w6, w7, w8] ∨ x = z) → gPr Y5 x) (ho5 : gRo G5 r f) (a0 : G5 w0 = .inl (gY d, 6000, .inl (fun _ => 0))) (a1 : G5 w1 = .inl (gI d, 9000, .inl (fun _ => 0))) (a2 : G5 w2 = .inl (gI d, 9000, .inl (fun _ => 0))) (a3 : G5 w3 = .inl (gI d, 9000, .inl (fun _ => 0))) (a4 : G5 w4 = .inl (gI d, 9000, .inl (fun _ => 0))) (a5 : G5 w5 = .inl (gI d, 4, .inl (fun _ => 0))) (a6 : G5 w6 = .inl (gI d, 4, .inl (fun _ => 0))) (a7 : G5 w7 = .inl (gI d, 2, .inl (fun _ => 0))) (a8 : G5 w8 = .inl (gI d, 65536, .inl (fun _ => 0))) (z5 : G5 z = .inl (gJ d, 1, .inr (.inl (fun _ => 0)))) (v0 : f 0 = .int 0) (v2 : f 2 = .int 0) (v12 : f 12 = .int 0) (v99 : f 99 = .int 4096) (v101 : f 101 = .int 0) (v105 : f 105 = .int 0) (v104 : f 104 = .int 0) (v1 : f 1 = .ref w0) (v39 : f 39 = .ref w1) (v40 : f 40 = .ref w2) (v41 : f 41 = .ref w3) (v42 : f 42 = .ref w4) (v112 : f 112 = .ref w5) (v113 : f 113 = .ref w6) (v116 : f 116 = .ref w7) (v98 : f 98 = .ref w8) (hne01 : w1 ≠ w2) (hne02 : w1 ≠ w3) (hne03 : w1 ≠ w4) (hne12 : w2 ≠ w3) (hne13 : w2 ≠ w4) (hne23 : w3 ≠ w4) (hne56 : w5 ≠ w6) : gG X d b Q G5 163473 5027954 228 [some (.ref b0), some (.ref (gO' Y5 0)), some (.ref r), some (.ref z), some (.int 0), none, none] [] := by
  refine g_aload_n hC dL_law_228 rfl ?_
  refine g_aload_n hC dL_law_229 rfl ?_
  refine g_iload hC dL_law_230 rfl ?_
  refine g_iconst (v := 1) hC dL_law_232 rfl ?_
  refine g_iadd hC dL_law_233 ?_
  refine g_vi (fun x54 ex54 => ?_)
  refine g_sld hC hX hb hb2 (by rw [show x54 = nI 1 from by rw [ex54]; decide]; exact vp_in_nI (n := 1) (by decide) (by decide)) dL_law_234 ?_
  refine g_vi (fun x55 ex55 => ?_)
  have zx55 : x55 = xs 1 := by rw [ex55, ex54]; rfl
  subst zx55
  refine g_callVi (As := [.int (xs 1)]) hC rfl (hW5.o 0 (by decide)) (c_W_store X.la d b Y5 G5 S hW5 (xs 1)) cl_L_42 rfl rfl (Nat.le_of_ble_eq_true rfl) (gFit_law (by decide) (by decide) (Nat.le_of_ble_eq_true rfl) (Nat.le_of_ble_eq_true rfl)) dL_law_235 (fun r56 F57 p58 => ?_)
  obtain ⟨hy, hn1, S1, hW6, hK, -⟩ := p58
  refine g_aload_n hC dL_law_238 rfl ?_
  refine g_aload_n hC dL_law_239 rfl ?_
  refine g_iload hC dL_law_240 rfl ?_
  refine g_iconst (v := 1) hC dL_law_242 rfl ?_
  refine g_iadd hC dL_law_243 ?_
  refine g_vi (fun x59 ex59 => ?_)
  refine g_sld hC hX hb hb2 (by rw [show x59 = nI 1 from by rw [ex59]; decide]; exact vp_in_nI (n := 1) (by decide) (by decide)) dL_law_244 ?_
  refine g_vi (fun x60 ex60 => ?_)
  have zx60 : x60 = xs 1 := by rw [ex60, ex59]; rfl
  subst zx60
  refine g_callVi (As := [.int (xs 1)]) hC rfl ((hK r (hPr _ (Or.inl rfl))).trans ho5) (r_store X.la d b F57 r f (xs 1) ((hK r (hPr _ (Or.inl rfl))).trans ho5)   ) cl_L_45 rfl rfl (Nat.le_of_ble_eq_true rfl) (gFit_law (by decide) (by decide) (Nat.le_of_ble_eq_true rfl) (Nat.le_of_ble_eq_true rfl)) dL_law_245 (fun r61 F62 p63 => ?_)
  refine g_icmp_eq (tgt := 478) hC dL_law_248 (by decide) (fun _ => ?_) (fun c => absurd ((Classical.em (gFive (xs 1))).elim (fun z => (hy z).trans (p63.1 z).symm) (fun z => (hn1 z).trans (p63.2 z).symm)) c)
  exact g_lv (lv' := [some (.ref b0), none, none, none, some (.int 0), none, none]) ⟨rfl, rfl, trivial⟩ (END _ _ _ (Nat.le_of_ble_eq_true rfl) (Nat.le_of_ble_eq_true rfl))
set_option maxHeartbeats 40000000 in
set_option maxRecDepth 100000 in
theorem law_a5 {nm : String} {d : gD} {b : Nat} {X : gX} {Q : State → Prop} {b0 : Nat} {xs : Nat → Int32} (hC : gC RL cL_law 7 (some .boolean) nm room_1 d b X) (hl : X.la.stackTraces = false) (hX : va_X b0 6 xs X.st X.st.heap) (hb : b0 < X.st.heap.size) (hb2 : b0 < b) (END : ∀ (F6 : gM) (k6 n6 : Nat), k6 ≤ 600002 → n6 ≤ 7302232 → gG X d b Q F6 k6 n6 478 [some (.ref b0), none, none, none, some (.int 0), none, none] []) {Y5 : gYt} {G5 : gM} {S : gSt} {r z w0 w1 w2 w3 w4 w5 w6 w7 w8 : Nat} {f : Nat → Value} (hW5 : gWT d Y5 G5 S) (hzn : ∀ j, j < 44 → (j == 18 || j == 19 || j == 20) = false → sZ S j = 0 ∧ sN S j = 16) (hn45 : sN S 45 = 4096) (hv : ∀ k, k ≠ 7 → sV S k = gvin 0 k) (hPr : ∀ x, (x = r ∨ x ∈ [w0, w1, w2, w3, w4, w5, w6, w7, w8] ∨ x = z) → gPr Y5 x) (ho5 : gRo G5 r f) (a0 : G5 w0 = .inl (gY d, 6000, .inl (fun _ => 0))) (a1 : G5 w1 = .inl (gI d, 9000, .inl (fun _ => 0))) (a2 : G5 w2 = .inl (gI d, 9000, .inl (fun _ => 0))) (a3 : G5 w3 = .inl (gI d, 9000, .inl (fun _ => 0))) (a4 : G5 w4 = .inl (gI d, 9000, .inl (fun _ => 0))) (a5 : G5 w5 = .inl (gI d, 4, .inl (fun _ => 0))) (a6 : G5 w6 = .inl (gI d, 4, .inl (fun _ => 0))) (a7 : G5 w7 = .inl (gI d, 2, .inl (fun _ => 0))) (a8 : G5 w8 = .inl (gI d, 65536, .inl (fun _ => 0))) (z5 : G5 z = .inl (gJ d, 1, .inr (.inl (fun _ => 0)))) (v0 : f 0 = .int 0) (v2 : f 2 = .int 0) (v12 : f 12 = .int 0) (v99 : f 99 = .int 4096) (v101 : f 101 = .int 0) (v105 : f 105 = .int 0) (v104 : f 104 = .int 0) (v1 : f 1 = .ref w0) (v39 : f 39 = .ref w1) (v40 : f 40 = .ref w2) (v41 : f 41 = .ref w3) (v42 : f 42 = .ref w4) (v112 : f 112 = .ref w5) (v113 : f 113 = .ref w6) (v116 : f 116 = .ref w7) (v98 : f 98 = .ref w8) (hne01 : w1 ≠ w2) (hne02 : w1 ≠ w3) (hne03 : w1 ≠ w4) (hne12 : w2 ≠ w3) (hne13 : w2 ≠ w4) (hne23 : w3 ≠ w4) (hne56 : w5 ≠ w6) : gG X d b Q G5 163473 5027954 253 [some (.ref b0), some (.ref (gO' Y5 0)), some (.ref r), some (.ref z), some (.int 0), none, none] [] := by
  refine g_aload_n hC dL_law_253 rfl ?_
  refine g_aload_n hC dL_law_254 rfl ?_
  refine g_iload hC dL_law_255 rfl ?_
  refine g_iconst (v := 1) hC dL_law_257 rfl ?_
  refine g_iadd hC dL_law_258 ?_
  refine g_vi (fun x64 ex64 => ?_)
  refine g_sld hC hX hb hb2 (by rw [show x64 = nI 1 from by rw [ex64]; decide]; exact vp_in_nI (n := 1) (by decide) (by decide)) dL_law_259 ?_
  refine g_vi (fun x65 ex65 => ?_)
  have zx65 : x65 = xs 1 := by rw [ex65, ex64]; rfl
  subst zx65
  refine g_callVi (As := [.int (xs 1)]) hC rfl (hW5.o 0 (by decide)) (c_W_input0 X.la d b Y5 G5 S hW5 ((hzn 0 (by decide) rfl).1) (fun j hj => (hzn (34 + j) (by omega) (by (obtain rfl | rfl | rfl | rfl : j = 0 ∨ j = 1 ∨ j = 2 ∨ j = 3 := by omega) <;> rfl)).1) (xs 1)) cl_L_46 rfl rfl (Nat.le_of_ble_eq_true rfl) (gFit_law (by decide) (by decide) (Nat.le_of_ble_eq_true rfl) (Nat.le_of_ble_eq_true rfl)) dL_law_260 (fun r66 F67 p68 => ?_)
  obtain ⟨hy, hn1, S1, hW6, hK, -⟩ := p68
  refine g_aload_n hC dL_law_263 rfl ?_
  refine g_aload_n hC dL_law_264 rfl ?_
  refine g_iload hC dL_law_265 rfl ?_
  refine g_iconst (v := 1) hC dL_law_267 rfl ?_
  refine g_iadd hC dL_law_268 ?_
  refine g_vi (fun x69 ex69 => ?_)
  refine g_sld hC hX hb hb2 (by rw [show x69 = nI 1 from by rw [ex69]; decide]; exact vp_in_nI (n := 1) (by decide) (by decide)) dL_law_269 ?_
  refine g_vi (fun x70 ex70 => ?_)
  have zx70 : x70 = xs 1 := by rw [ex70, ex69]; rfl
  subst zx70
  refine g_callVi (As := [.int (xs 1)]) hC rfl ((hK r (hPr _ (Or.inl rfl))).trans ho5) (r_input X.la d b F67 r f (xs 1) w5 w6 ((hK r (hPr _ (Or.inl rfl))).trans ho5) v2 v112 v113 ((hK w5 (hPr _ (Or.inr (Or.inl (List.mem_of_getElem? (i := 5) rfl))))).trans a5) ((hK w6 (hPr _ (Or.inr (Or.inl (List.mem_of_getElem? (i := 6) rfl))))).trans a6) hne56) cl_L_49 rfl rfl (Nat.le_of_ble_eq_true rfl) (gFit_law (by decide) (by decide) (Nat.le_of_ble_eq_true rfl) (Nat.le_of_ble_eq_true rfl)) dL_law_270 (fun r71 F72 p73 => ?_)
  refine g_icmp_eq (tgt := 478) hC dL_law_273 (by decide) (fun _ => ?_) (fun c => absurd ((Classical.em ((xs 1) < 0)).elim (fun z => (hy (Or.inl z)).trans (p73.1 (Or.inl z)).symm) (fun z => (Classical.em (nI 4 ≤ (xs 1))).elim (fun z2 => (hy (Or.inr z2)).trans (p73.1 (Or.inr (g43b z2))).symm) (fun z2 => (hn1 ⟨z, z2⟩).trans (p73.2 ⟨z, g43a z2⟩).symm))) c)
  exact g_lv (lv' := [some (.ref b0), none, none, none, some (.int 0), none, none]) ⟨rfl, rfl, trivial⟩ (END _ _ _ (Nat.le_of_ble_eq_true rfl) (Nat.le_of_ble_eq_true rfl))
set_option maxHeartbeats 40000000 in
set_option maxRecDepth 100000 in
theorem law_a6 {nm : String} {d : gD} {b : Nat} {X : gX} {Q : State → Prop} {b0 : Nat} {xs : Nat → Int32} (hC : gC RL cL_law 7 (some .boolean) nm room_1 d b X) (hl : X.la.stackTraces = false) (hX : va_X b0 6 xs X.st X.st.heap) (hb : b0 < X.st.heap.size) (hb2 : b0 < b) (END : ∀ (F6 : gM) (k6 n6 : Nat), k6 ≤ 600002 → n6 ≤ 7302232 → gG X d b Q F6 k6 n6 478 [some (.ref b0), none, none, none, some (.int 0), none, none] []) {Y5 : gYt} {G5 : gM} {S : gSt} {r z w0 w1 w2 w3 w4 w5 w6 w7 w8 : Nat} {f : Nat → Value} (hW5 : gWT d Y5 G5 S) (hzn : ∀ j, j < 44 → (j == 18 || j == 19 || j == 20) = false → sZ S j = 0 ∧ sN S j = 16) (hn45 : sN S 45 = 4096) (hv : ∀ k, k ≠ 7 → sV S k = gvin 0 k) (hPr : ∀ x, (x = r ∨ x ∈ [w0, w1, w2, w3, w4, w5, w6, w7, w8] ∨ x = z) → gPr Y5 x) (ho5 : gRo G5 r f) (a0 : G5 w0 = .inl (gY d, 6000, .inl (fun _ => 0))) (a1 : G5 w1 = .inl (gI d, 9000, .inl (fun _ => 0))) (a2 : G5 w2 = .inl (gI d, 9000, .inl (fun _ => 0))) (a3 : G5 w3 = .inl (gI d, 9000, .inl (fun _ => 0))) (a4 : G5 w4 = .inl (gI d, 9000, .inl (fun _ => 0))) (a5 : G5 w5 = .inl (gI d, 4, .inl (fun _ => 0))) (a6 : G5 w6 = .inl (gI d, 4, .inl (fun _ => 0))) (a7 : G5 w7 = .inl (gI d, 2, .inl (fun _ => 0))) (a8 : G5 w8 = .inl (gI d, 65536, .inl (fun _ => 0))) (z5 : G5 z = .inl (gJ d, 1, .inr (.inl (fun _ => 0)))) (v0 : f 0 = .int 0) (v2 : f 2 = .int 0) (v12 : f 12 = .int 0) (v99 : f 99 = .int 4096) (v101 : f 101 = .int 0) (v105 : f 105 = .int 0) (v104 : f 104 = .int 0) (v1 : f 1 = .ref w0) (v39 : f 39 = .ref w1) (v40 : f 40 = .ref w2) (v41 : f 41 = .ref w3) (v42 : f 42 = .ref w4) (v112 : f 112 = .ref w5) (v113 : f 113 = .ref w6) (v116 : f 116 = .ref w7) (v98 : f 98 = .ref w8) (hne01 : w1 ≠ w2) (hne02 : w1 ≠ w3) (hne03 : w1 ≠ w4) (hne12 : w2 ≠ w3) (hne13 : w2 ≠ w4) (hne23 : w3 ≠ w4) (hne56 : w5 ≠ w6) : gG X d b Q G5 163473 5027954 278 [some (.ref b0), some (.ref (gO' Y5 0)), some (.ref r), some (.ref z), some (.int 0), none, none] [] := by
  refine g_aload_n hC dL_law_278 rfl ?_
  refine g_aload_n hC dL_law_279 rfl ?_
  refine g_iload hC dL_law_280 rfl ?_
  refine g_iconst (v := 1) hC dL_law_282 rfl ?_
  refine g_iadd hC dL_law_283 ?_
  refine g_vi (fun x74 ex74 => ?_)
  refine g_sld hC hX hb hb2 (by rw [show x74 = nI 1 from by rw [ex74]; decide]; exact vp_in_nI (n := 1) (by decide) (by decide)) dL_law_284 ?_
  refine g_vi (fun x75 ex75 => ?_)
  have zx75 : x75 = xs 1 := by rw [ex75, ex74]; rfl
  subst zx75
  refine g_callVi (As := [.int (xs 1)]) hC rfl (hW5.o 0 (by decide)) (c_W_run0 X.la d b Y5 G5 S hW5 (hv 6 (by decide)) (xs 1)) cl_L_50 rfl rfl (Nat.le_of_ble_eq_true rfl) (gFit_law (by decide) (by decide) (Nat.le_of_ble_eq_true rfl) (Nat.le_of_ble_eq_true rfl)) dL_law_285 (fun r76 F77 p78 => ?_)
  obtain ⟨hr1, eF⟩ := p78
  have eF := eF.symm; subst eF
  refine g_aload_n hC dL_law_288 rfl ?_
  refine g_aload_n hC dL_law_289 rfl ?_
  refine g_iload hC dL_law_290 rfl ?_
  refine g_iconst (v := 1) hC dL_law_292 rfl ?_
  refine g_iadd hC dL_law_293 ?_
  refine g_vi (fun x79 ex79 => ?_)
  refine g_sld hC hX hb hb2 (by rw [show x79 = nI 1 from by rw [ex79]; decide]; exact vp_in_nI (n := 1) (by decide) (by decide)) dL_law_294 ?_
  refine g_vi (fun x80 ex80 => ?_)
  have zx80 : x80 = xs 1 := by rw [ex80, ex79]; rfl
  subst zx80
  refine g_callVi (As := [.int (xs 1)]) hC rfl ho5 (r_run X.la d b G5 r f (xs 1) ho5 v105  ) cl_L_53 rfl rfl (Nat.le_of_ble_eq_true rfl) (gFit_law (by decide) (by decide) (Nat.le_of_ble_eq_true rfl) (Nat.le_of_ble_eq_true rfl)) dL_law_295 (fun r81 F82 p83 => ?_)
  refine g_icmp_eq (tgt := 478) hC dL_law_298 (by decide) (fun _ => ?_) (fun c => absurd (hr1.trans p83.symm) c)
  exact g_lv (lv' := [some (.ref b0), none, none, none, some (.int 0), none, none]) ⟨rfl, rfl, trivial⟩ (END _ _ _ (Nat.le_of_ble_eq_true rfl) (Nat.le_of_ble_eq_true rfl))
set_option maxHeartbeats 40000000 in
set_option maxRecDepth 100000 in
theorem law_a7 {nm : String} {d : gD} {b : Nat} {X : gX} {Q : State → Prop} {b0 : Nat} {xs : Nat → Int32} (hC : gC RL cL_law 7 (some .boolean) nm room_1 d b X) (hl : X.la.stackTraces = false) (hX : va_X b0 6 xs X.st X.st.heap) (hb : b0 < X.st.heap.size) (hb2 : b0 < b) (END : ∀ (F6 : gM) (k6 n6 : Nat), k6 ≤ 600002 → n6 ≤ 7302232 → gG X d b Q F6 k6 n6 478 [some (.ref b0), none, none, none, some (.int 0), none, none] []) {Y5 : gYt} {G5 : gM} {S : gSt} {r z w0 w1 w2 w3 w4 w5 w6 w7 w8 : Nat} {f : Nat → Value} (hW5 : gWT d Y5 G5 S) (hzn : ∀ j, j < 44 → (j == 18 || j == 19 || j == 20) = false → sZ S j = 0 ∧ sN S j = 16) (hn45 : sN S 45 = 4096) (hv : ∀ k, k ≠ 7 → sV S k = gvin 0 k) (hPr : ∀ x, (x = r ∨ x ∈ [w0, w1, w2, w3, w4, w5, w6, w7, w8] ∨ x = z) → gPr Y5 x) (ho5 : gRo G5 r f) (a0 : G5 w0 = .inl (gY d, 6000, .inl (fun _ => 0))) (a1 : G5 w1 = .inl (gI d, 9000, .inl (fun _ => 0))) (a2 : G5 w2 = .inl (gI d, 9000, .inl (fun _ => 0))) (a3 : G5 w3 = .inl (gI d, 9000, .inl (fun _ => 0))) (a4 : G5 w4 = .inl (gI d, 9000, .inl (fun _ => 0))) (a5 : G5 w5 = .inl (gI d, 4, .inl (fun _ => 0))) (a6 : G5 w6 = .inl (gI d, 4, .inl (fun _ => 0))) (a7 : G5 w7 = .inl (gI d, 2, .inl (fun _ => 0))) (a8 : G5 w8 = .inl (gI d, 65536, .inl (fun _ => 0))) (z5 : G5 z = .inl (gJ d, 1, .inr (.inl (fun _ => 0)))) (v0 : f 0 = .int 0) (v2 : f 2 = .int 0) (v12 : f 12 = .int 0) (v99 : f 99 = .int 4096) (v101 : f 101 = .int 0) (v105 : f 105 = .int 0) (v104 : f 104 = .int 0) (v1 : f 1 = .ref w0) (v39 : f 39 = .ref w1) (v40 : f 40 = .ref w2) (v41 : f 41 = .ref w3) (v42 : f 42 = .ref w4) (v112 : f 112 = .ref w5) (v113 : f 113 = .ref w6) (v116 : f 116 = .ref w7) (v98 : f 98 = .ref w8) (hne01 : w1 ≠ w2) (hne02 : w1 ≠ w3) (hne03 : w1 ≠ w4) (hne12 : w2 ≠ w3) (hne13 : w2 ≠ w4) (hne23 : w3 ≠ w4) (hne56 : w5 ≠ w6) : gG X d b Q G5 163473 5027954 303 [some (.ref b0), some (.ref (gO' Y5 0)), some (.ref r), some (.ref z), some (.int 0), none, none] [] := by
  refine g_aload_n hC dL_law_303 rfl ?_
  refine g_callVi (As := []) hC rfl (hW5.o 0 (by decide)) (c_W_value X.la d b Y5 G5 S hW5) cl_L_54 rfl rfl (Nat.le_of_ble_eq_true rfl) (gFit_law (by decide) (by decide) (Nat.le_of_ble_eq_true rfl) (Nat.le_of_ble_eq_true rfl)) dL_law_304 (fun r84 F85 p86 => ?_)
  obtain ⟨hr1, eF⟩ := p86
  have eF := eF.symm; subst eF
  refine g_aload_n hC dL_law_307 rfl ?_
  refine g_callVi (As := []) hC rfl ho5 (r_value X.la d b G5 r f  ho5 v104  ) cl_L_57 rfl rfl (Nat.le_of_ble_eq_true rfl) (gFit_law (by decide) (by decide) (Nat.le_of_ble_eq_true rfl) (Nat.le_of_ble_eq_true rfl)) dL_law_308 (fun r87 F88 p89 => ?_)
  refine g_icmp_eq (tgt := 478) hC dL_law_311 (by decide) (fun _ => ?_) (fun c => absurd ((hr1.trans (hv 32 (by decide))).trans p89.symm) c)
  exact g_lv (lv' := [some (.ref b0), none, none, none, some (.int 0), none, none]) ⟨rfl, rfl, trivial⟩ (END _ _ _ (Nat.le_of_ble_eq_true rfl) (Nat.le_of_ble_eq_true rfl))
set_option maxHeartbeats 40000000 in
set_option maxRecDepth 100000 in
theorem law_a8 {nm : String} {d : gD} {b : Nat} {X : gX} {Q : State → Prop} {b0 : Nat} {xs : Nat → Int32} (hC : gC RL cL_law 7 (some .boolean) nm room_1 d b X) (hl : X.la.stackTraces = false) (hX : va_X b0 6 xs X.st X.st.heap) (hb : b0 < X.st.heap.size) (hb2 : b0 < b) (END : ∀ (F6 : gM) (k6 n6 : Nat), k6 ≤ 600002 → n6 ≤ 7302232 → gG X d b Q F6 k6 n6 478 [some (.ref b0), none, none, none, some (.int 0), none, none] []) {Y5 : gYt} {G5 : gM} {S : gSt} {r z w0 w1 w2 w3 w4 w5 w6 w7 w8 : Nat} {f : Nat → Value} (hW5 : gWT d Y5 G5 S) (hzn : ∀ j, j < 44 → (j == 18 || j == 19 || j == 20) = false → sZ S j = 0 ∧ sN S j = 16) (hn45 : sN S 45 = 4096) (hv : ∀ k, k ≠ 7 → sV S k = gvin 0 k) (hPr : ∀ x, (x = r ∨ x ∈ [w0, w1, w2, w3, w4, w5, w6, w7, w8] ∨ x = z) → gPr Y5 x) (ho5 : gRo G5 r f) (a0 : G5 w0 = .inl (gY d, 6000, .inl (fun _ => 0))) (a1 : G5 w1 = .inl (gI d, 9000, .inl (fun _ => 0))) (a2 : G5 w2 = .inl (gI d, 9000, .inl (fun _ => 0))) (a3 : G5 w3 = .inl (gI d, 9000, .inl (fun _ => 0))) (a4 : G5 w4 = .inl (gI d, 9000, .inl (fun _ => 0))) (a5 : G5 w5 = .inl (gI d, 4, .inl (fun _ => 0))) (a6 : G5 w6 = .inl (gI d, 4, .inl (fun _ => 0))) (a7 : G5 w7 = .inl (gI d, 2, .inl (fun _ => 0))) (a8 : G5 w8 = .inl (gI d, 65536, .inl (fun _ => 0))) (z5 : G5 z = .inl (gJ d, 1, .inr (.inl (fun _ => 0)))) (v0 : f 0 = .int 0) (v2 : f 2 = .int 0) (v12 : f 12 = .int 0) (v99 : f 99 = .int 4096) (v101 : f 101 = .int 0) (v105 : f 105 = .int 0) (v104 : f 104 = .int 0) (v1 : f 1 = .ref w0) (v39 : f 39 = .ref w1) (v40 : f 40 = .ref w2) (v41 : f 41 = .ref w3) (v42 : f 42 = .ref w4) (v112 : f 112 = .ref w5) (v113 : f 113 = .ref w6) (v116 : f 116 = .ref w7) (v98 : f 98 = .ref w8) (hne01 : w1 ≠ w2) (hne02 : w1 ≠ w3) (hne03 : w1 ≠ w4) (hne12 : w2 ≠ w3) (hne13 : w2 ≠ w4) (hne23 : w3 ≠ w4) (hne56 : w5 ≠ w6) : gG X d b Q G5 163473 5027954 316 [some (.ref b0), some (.ref (gO' Y5 0)), some (.ref r), some (.ref z), some (.int 0), none, none] [] := by
  refine g_aload_n hC dL_law_316 rfl ?_
  refine g_aload_n hC dL_law_317 rfl ?_
  refine g_iload hC dL_law_318 rfl ?_
  refine g_iconst (v := 1) hC dL_law_320 rfl ?_
  refine g_iadd hC dL_law_321 ?_
  refine g_vi (fun x90 ex90 => ?_)
  refine g_sld hC hX hb hb2 (by rw [show x90 = nI 1 from by rw [ex90]; decide]; exact vp_in_nI (n := 1) (by decide) (by decide)) dL_law_322 ?_
  refine g_vi (fun x91 ex91 => ?_)
  have zx91 : x91 = xs 1 := by rw [ex91, ex90]; rfl
  subst zx91
  refine g_callVi (As := [.int (xs 1)]) hC rfl (hW5.o 0 (by decide)) (c_W_out X.la d b Y5 G5 S hW5 (xs 1)) cl_L_58 rfl rfl (Nat.le_of_ble_eq_true rfl) (gFit_law (by decide) (by decide) (Nat.le_of_ble_eq_true rfl) (Nat.le_of_ble_eq_true rfl)) dL_law_323 (fun r92 F93 p94 => ?_)
  obtain ⟨hy, hn1, eF⟩ := p94
  have eF := eF.symm; subst eF
  refine g_aload_n hC dL_law_326 rfl ?_
  refine g_aload_n hC dL_law_327 rfl ?_
  refine g_iload hC dL_law_328 rfl ?_
  refine g_iconst (v := 1) hC dL_law_330 rfl ?_
  refine g_iadd hC dL_law_331 ?_
  refine g_vi (fun x95 ex95 => ?_)
  refine g_sld hC hX hb hb2 (by rw [show x95 = nI 1 from by rw [ex95]; decide]; exact vp_in_nI (n := 1) (by decide) (by decide)) dL_law_332 ?_
  refine g_vi (fun x96 ex96 => ?_)
  have zx96 : x96 = xs 1 := by rw [ex96, ex95]; rfl
  subst zx96
  refine g_callVi (As := [.int (xs 1)]) hC rfl ho5 (r_out X.la d b G5 r f (xs 1) w7 ho5 v116 a7 ) cl_L_61 rfl rfl (Nat.le_of_ble_eq_true rfl) (gFit_law (by decide) (by decide) (Nat.le_of_ble_eq_true rfl) (Nat.le_of_ble_eq_true rfl)) dL_law_333 (fun r97 F98 p99 => ?_)
  refine g_icmp_eq (tgt := 478) hC dL_law_336 (by decide) (fun _ => ?_) (fun c => absurd ((Classical.em ((xs 1) < 0)).elim (fun z => (hy (Or.inl z)).trans (p99.1 (Or.inl z)).symm) (fun z => (Classical.em ((xs 1) ≤ 1)).elim (fun z2 => by obtain ⟨N, hN, e⟩ := gin1 1 (by decide) z z2; exact ((hn1 N hN e).trans (by rw [(hzn (38 + N) (by omega) (by (obtain rfl | rfl : N = 0 ∨ N = 1 := by omega) <;> rfl)).1]; rfl)).trans (p99.2 ⟨z, z2⟩).symm) (fun z2 => (hy (Or.inr (g21b z2))).trans (p99.1 (Or.inr z2)).symm))) c)
  exact g_lv (lv' := [some (.ref b0), none, none, none, some (.int 0), none, none]) ⟨rfl, rfl, trivial⟩ (END _ _ _ (Nat.le_of_ble_eq_true rfl) (Nat.le_of_ble_eq_true rfl))
set_option maxHeartbeats 40000000 in
set_option maxRecDepth 100000 in
theorem law_a9 {nm : String} {d : gD} {b : Nat} {X : gX} {Q : State → Prop} {b0 : Nat} {xs : Nat → Int32} (hC : gC RL cL_law 7 (some .boolean) nm room_1 d b X) (hl : X.la.stackTraces = false) (hX : va_X b0 6 xs X.st X.st.heap) (hb : b0 < X.st.heap.size) (hb2 : b0 < b) (END : ∀ (F6 : gM) (k6 n6 : Nat), k6 ≤ 600002 → n6 ≤ 7302232 → gG X d b Q F6 k6 n6 478 [some (.ref b0), none, none, none, some (.int 0), none, none] []) {Y5 : gYt} {G5 : gM} {S : gSt} {r z w0 w1 w2 w3 w4 w5 w6 w7 w8 : Nat} {f : Nat → Value} (hW5 : gWT d Y5 G5 S) (hzn : ∀ j, j < 44 → (j == 18 || j == 19 || j == 20) = false → sZ S j = 0 ∧ sN S j = 16) (hn45 : sN S 45 = 4096) (hv : ∀ k, k ≠ 7 → sV S k = gvin 0 k) (hPr : ∀ x, (x = r ∨ x ∈ [w0, w1, w2, w3, w4, w5, w6, w7, w8] ∨ x = z) → gPr Y5 x) (ho5 : gRo G5 r f) (a0 : G5 w0 = .inl (gY d, 6000, .inl (fun _ => 0))) (a1 : G5 w1 = .inl (gI d, 9000, .inl (fun _ => 0))) (a2 : G5 w2 = .inl (gI d, 9000, .inl (fun _ => 0))) (a3 : G5 w3 = .inl (gI d, 9000, .inl (fun _ => 0))) (a4 : G5 w4 = .inl (gI d, 9000, .inl (fun _ => 0))) (a5 : G5 w5 = .inl (gI d, 4, .inl (fun _ => 0))) (a6 : G5 w6 = .inl (gI d, 4, .inl (fun _ => 0))) (a7 : G5 w7 = .inl (gI d, 2, .inl (fun _ => 0))) (a8 : G5 w8 = .inl (gI d, 65536, .inl (fun _ => 0))) (z5 : G5 z = .inl (gJ d, 1, .inr (.inl (fun _ => 0)))) (v0 : f 0 = .int 0) (v2 : f 2 = .int 0) (v12 : f 12 = .int 0) (v99 : f 99 = .int 4096) (v101 : f 101 = .int 0) (v105 : f 105 = .int 0) (v104 : f 104 = .int 0) (v1 : f 1 = .ref w0) (v39 : f 39 = .ref w1) (v40 : f 40 = .ref w2) (v41 : f 41 = .ref w3) (v42 : f 42 = .ref w4) (v112 : f 112 = .ref w5) (v113 : f 113 = .ref w6) (v116 : f 116 = .ref w7) (v98 : f 98 = .ref w8) (hne01 : w1 ≠ w2) (hne02 : w1 ≠ w3) (hne03 : w1 ≠ w4) (hne12 : w2 ≠ w3) (hne13 : w2 ≠ w4) (hne23 : w3 ≠ w4) (hne56 : w5 ≠ w6) : gG X d b Q G5 163473 5027954 341 [some (.ref b0), some (.ref (gO' Y5 0)), some (.ref r), some (.ref z), some (.int 0), none, none] [] := by
  refine g_aload_n hC dL_law_341 rfl ?_
  refine g_aload_n hC dL_law_342 rfl ?_
  refine g_iload hC dL_law_343 rfl ?_
  refine g_iconst (v := 1) hC dL_law_345 rfl ?_
  refine g_iadd hC dL_law_346 ?_
  refine g_vi (fun x100 ex100 => ?_)
  refine g_sld hC hX hb hb2 (by rw [show x100 = nI 1 from by rw [ex100]; decide]; exact vp_in_nI (n := 1) (by decide) (by decide)) dL_law_347 ?_
  refine g_vi (fun x101 ex101 => ?_)
  have zx101 : x101 = xs 1 := by rw [ex101, ex100]; rfl
  subst zx101
  refine g_aload_n hC dL_law_348 rfl ?_
  refine g_iload hC dL_law_349 rfl ?_
  refine g_iconst (v := 2) hC dL_law_351 rfl ?_
  refine g_iadd hC dL_law_352 ?_
  refine g_vi (fun x102 ex102 => ?_)
  refine g_sld hC hX hb hb2 (by rw [show x102 = nI 2 from by rw [ex102]; decide]; exact vp_in_nI (n := 2) (by decide) (by decide)) dL_law_353 ?_
  refine g_vi (fun x103 ex103 => ?_)
  have zx103 : x103 = xs 2 := by rw [ex103, ex102]; rfl
  subst zx103
  refine g_aload_n hC dL_law_354 rfl ?_
  refine g_callSWi (As := [.ref (gO' Y5 0), .int (xs 1), .int (xs 2), .ref z]) hC (c_L_outAt X.la d b Y5 G5 S hW5 hl (fun j hj => (hzn (38 + j) (by omega) (by (obtain rfl | rfl : j = 0 ∨ j = 1 := by omega) <;> rfl)).1) (xs 1) (xs 2) z) cl_L_62 rfl rfl (Nat.le_of_ble_eq_true rfl) (gFit_law (by decide) (by decide) (Nat.le_of_ble_eq_true rfl) (Nat.le_of_ble_eq_true rfl)) dL_law_355 (fun r1 F1 p1 => ?_)
  obtain ⟨hr1, eF⟩ := p1
  have eF := eF.symm; subst eF; subst hr1
  refine g_istore (lv' := [some (.ref b0), some (.ref (gO' Y5 0)), some (.ref r), some (.ref z), some (.int 0), some (.int 1), none]) hC dL_law_358 (Nat.le_of_ble_eq_true rfl) rfl rfl ?_
  refine g_aload_n hC dL_law_360 rfl ?_
  refine g_aload_n hC dL_law_361 rfl ?_
  refine g_iload hC dL_law_362 rfl ?_
  refine g_iconst (v := 1) hC dL_law_364 rfl ?_
  refine g_iadd hC dL_law_365 ?_
  refine g_vi (fun x104 ex104 => ?_)
  refine g_sld hC hX hb hb2 (by rw [show x104 = nI 1 from by rw [ex104]; decide]; exact vp_in_nI (n := 1) (by decide) (by decide)) dL_law_366 ?_
  refine g_vi (fun x105 ex105 => ?_)
  have zx105 : x105 = xs 1 := by rw [ex105, ex104]; rfl
  subst zx105
  refine g_aload_n hC dL_law_367 rfl ?_
  refine g_iload hC dL_law_368 rfl ?_
  refine g_iconst (v := 2) hC dL_law_370 rfl ?_
  refine g_iadd hC dL_law_371 ?_
  refine g_vi (fun x106 ex106 => ?_)
  refine g_sld hC hX hb hb2 (by rw [show x106 = nI 2 from by rw [ex106]; decide]; exact vp_in_nI (n := 2) (by decide) (by decide)) dL_law_372 ?_
  refine g_vi (fun x107 ex107 => ?_)
  have zx107 : x107 = xs 2 := by rw [ex107, ex106]; rfl
  subst zx107
  refine g_callVi (As := [.int (xs 1), .int (xs 2)]) hC rfl ho5 (r_outAt X.la d b G5 r f (xs 1) (xs 2) w7 ho5 v116 a7) cl_L_67 rfl rfl (Nat.le_of_ble_eq_true rfl) (gFit_law (by decide) (by decide) (Nat.le_of_ble_eq_true rfl) (Nat.le_of_ble_eq_true rfl)) dL_law_373 (fun r2 F2 p2 => ?_)
  obtain ⟨f2, ho6, hz6⟩ := p2
  refine g_istore (lv' := [some (.ref b0), some (.ref (gO' Y5 0)), some (.ref r), some (.ref z), some (.int 0), some (.int 1), some (.int r2)]) hC dL_law_376 (Nat.le_of_ble_eq_true rfl) rfl rfl ?_
  refine g_aload_n hC dL_law_378 rfl ?_
  refine g_callVi (As := []) hC rfl ho6 (r_thrown X.la d b F2 r f2 1 ho6 hz6) cl_L_68 rfl rfl (Nat.le_of_ble_eq_true rfl) (gFit_law (by decide) (by decide) (Nat.le_of_ble_eq_true rfl) (Nat.le_of_ble_eq_true rfl)) dL_law_379 (fun r3 F3 p3 => ?_)
  obtain ⟨hr3, eF⟩ := p3
  have eF := eF.symm; subst eF; subst hr3
  refine g_iload hC dL_law_382 rfl ?_
  refine g_icmp_eq (tgt := 389) hC dL_law_384 (by decide) (fun _ => ?_) (fun c => absurd rfl c)
  refine g_iload hC dL_law_389 rfl ?_
  refine g_if_ne (tgt := 406) hC dL_law_391 (by decide) (fun _ => ?_) (fun c => absurd c (by decide))
  refine g_goto (tgt := 478) hC dL_law_406 (by decide) ?_
  exact g_lv (lv' := [some (.ref b0), none, none, none, some (.int 0), none, none]) ⟨rfl, rfl, trivial⟩ (END _ _ _ (Nat.le_of_ble_eq_true rfl) (Nat.le_of_ble_eq_true rfl))
set_option maxHeartbeats 40000000 in
set_option maxRecDepth 100000 in
theorem law_a10 {nm : String} {d : gD} {b : Nat} {X : gX} {Q : State → Prop} {b0 : Nat} {xs : Nat → Int32} (hC : gC RL cL_law 7 (some .boolean) nm room_1 d b X) (hl : X.la.stackTraces = false) (hX : va_X b0 6 xs X.st X.st.heap) (hb : b0 < X.st.heap.size) (hb2 : b0 < b) (END : ∀ (F6 : gM) (k6 n6 : Nat), k6 ≤ 600002 → n6 ≤ 7302232 → gG X d b Q F6 k6 n6 478 [some (.ref b0), none, none, none, some (.int 0), none, none] []) {Y5 : gYt} {G5 : gM} {S : gSt} {r z w0 w1 w2 w3 w4 w5 w6 w7 w8 : Nat} {f : Nat → Value} (hW5 : gWT d Y5 G5 S) (hzn : ∀ j, j < 44 → (j == 18 || j == 19 || j == 20) = false → sZ S j = 0 ∧ sN S j = 16) (hn45 : sN S 45 = 4096) (hv : ∀ k, k ≠ 7 → sV S k = gvin 0 k) (hPr : ∀ x, (x = r ∨ x ∈ [w0, w1, w2, w3, w4, w5, w6, w7, w8] ∨ x = z) → gPr Y5 x) (ho5 : gRo G5 r f) (a0 : G5 w0 = .inl (gY d, 6000, .inl (fun _ => 0))) (a1 : G5 w1 = .inl (gI d, 9000, .inl (fun _ => 0))) (a2 : G5 w2 = .inl (gI d, 9000, .inl (fun _ => 0))) (a3 : G5 w3 = .inl (gI d, 9000, .inl (fun _ => 0))) (a4 : G5 w4 = .inl (gI d, 9000, .inl (fun _ => 0))) (a5 : G5 w5 = .inl (gI d, 4, .inl (fun _ => 0))) (a6 : G5 w6 = .inl (gI d, 4, .inl (fun _ => 0))) (a7 : G5 w7 = .inl (gI d, 2, .inl (fun _ => 0))) (a8 : G5 w8 = .inl (gI d, 65536, .inl (fun _ => 0))) (z5 : G5 z = .inl (gJ d, 1, .inr (.inl (fun _ => 0)))) (v0 : f 0 = .int 0) (v2 : f 2 = .int 0) (v12 : f 12 = .int 0) (v99 : f 99 = .int 4096) (v101 : f 101 = .int 0) (v105 : f 105 = .int 0) (v104 : f 104 = .int 0) (v1 : f 1 = .ref w0) (v39 : f 39 = .ref w1) (v40 : f 40 = .ref w2) (v41 : f 41 = .ref w3) (v42 : f 42 = .ref w4) (v112 : f 112 = .ref w5) (v113 : f 113 = .ref w6) (v116 : f 116 = .ref w7) (v98 : f 98 = .ref w8) (hne01 : w1 ≠ w2) (hne02 : w1 ≠ w3) (hne03 : w1 ≠ w4) (hne12 : w2 ≠ w3) (hne13 : w2 ≠ w4) (hne23 : w3 ≠ w4) (hne56 : w5 ≠ w6) : gG X d b Q G5 163473 5027954 409 [some (.ref b0), some (.ref (gO' Y5 0)), some (.ref r), some (.ref z), some (.int 0), none, none] [] := by
  refine g_aload_n hC dL_law_409 rfl ?_
  refine g_aload_n hC dL_law_410 rfl ?_
  refine g_iload hC dL_law_411 rfl ?_
  refine g_iconst (v := 1) hC dL_law_413 rfl ?_
  refine g_iadd hC dL_law_414 ?_
  refine g_vi (fun x108 ex108 => ?_)
  refine g_sld hC hX hb hb2 (by rw [show x108 = nI 1 from by rw [ex108]; decide]; exact vp_in_nI (n := 1) (by decide) (by decide)) dL_law_415 ?_
  refine g_vi (fun x109 ex109 => ?_)
  have zx109 : x109 = xs 1 := by rw [ex109, ex108]; rfl
  subst zx109
  refine g_aload_n hC dL_law_416 rfl ?_
  refine g_callSWi (As := [.ref (gO' Y5 0), .int (xs 1), .ref z]) hC (c_L_word X.la d b Y5 G5 S hW5 hl (hv 1 (by decide)) (hv 27 (by decide)) (xs 1) z _ z5) cl_L_71 rfl rfl (Nat.le_of_ble_eq_true rfl) (gFit_law (by decide) (by decide) (Nat.le_of_ble_eq_true rfl) (Nat.le_of_ble_eq_true rfl)) dL_law_417 (fun r1 F1 p1 => ?_)
  obtain ⟨hin1, hout1, ⟨g1, hz1, hg1⟩, hkeep⟩ := p1
  have ho6 : gRo F1 r f := (hkeep r (gne ho5 z5 gk_oa)).trans ho5
  have a86 : F1 w8 = .inl (gI d, 65536, .inl (fun _ => 0)) := (hkeep w8 (gne a8 z5 (fun h => absurd (show (65536 : Nat) = 1 from congrArg (fun e : va_E => match e with | .inl (_, N, _) => N | _ => 0) h) (by decide)))).trans a8
  refine g_istore (lv' := [some (.ref b0), some (.ref (gO' Y5 0)), some (.ref r), some (.ref z), some (.int 0), some (.int r1), none]) hC dL_law_420 (Nat.le_of_ble_eq_true rfl) rfl rfl ?_
  refine g_aload_n hC dL_law_422 rfl ?_
  refine g_aload_n hC dL_law_423 rfl ?_
  refine g_iload hC dL_law_424 rfl ?_
  refine g_iconst (v := 1) hC dL_law_426 rfl ?_
  refine g_iadd hC dL_law_427 ?_
  refine g_vi (fun x110 ex110 => ?_)
  refine g_sld hC hX hb hb2 (by rw [show x110 = nI 1 from by rw [ex110]; decide]; exact vp_in_nI (n := 1) (by decide) (by decide)) dL_law_428 ?_
  refine g_vi (fun x111 ex111 => ?_)
  have zx111 : x111 = xs 1 := by rw [ex111, ex110]; rfl
  subst zx111
  refine g_callVi (As := [.int (xs 1)]) hC rfl ho6 (r_word X.la d b F1 r f (xs 1) w8 ho6 v99 v98 a86) cl_L_74 rfl rfl (Nat.le_of_ble_eq_true rfl) (gFit_law (by decide) (by decide) (Nat.le_of_ble_eq_true rfl) (Nat.le_of_ble_eq_true rfl)) dL_law_429 (fun r2 F2 p2 => ?_)
  obtain ⟨f2, u2, ho7, hz7, hin2, hout2, hkeep2⟩ := p2
  have hz2 : F2 z = .inl (gJ d, 1, .inr (.inl g1)) := (hkeep2 z (gne z5 ho5 gk_ao)).trans hz1
  refine g_istore (lv' := [some (.ref b0), some (.ref (gO' Y5 0)), some (.ref r), some (.ref z), some (.int 0), some (.int r1), some (.int r2)]) hC dL_law_432 (Nat.le_of_ble_eq_true rfl) rfl rfl ?_
  refine g_aload_n hC dL_law_434 rfl ?_
  refine g_callVi (As := []) hC rfl ho7 (r_thrown X.la d b F2 r f2 u2 ho7 hz7) cl_L_68 rfl rfl (Nat.le_of_ble_eq_true rfl) (gFit_law (by decide) (by decide) (Nat.le_of_ble_eq_true rfl) (Nat.le_of_ble_eq_true rfl)) dL_law_435 (fun r3 F3 p3 => ?_)
  obtain ⟨hr3, eF⟩ := p3
  have eF := eF.symm; subst eF; subst hr3
  have hcs : (r1 = 0 ∧ r3 = 0 ∧ g1 0 = 0 ∧ r2 = 0) ∨ (r1 = 1 ∧ r3 = 1) := by
    by_cases hq : ¬ (xs 1) < 0 ∧ (xs 1) < 4096
    · exact Or.inl ⟨hin1 hq, (hin2 hq).1, hg1 hq, (hin2 hq).2⟩
    · have hq2 : (xs 1) < 0 ∨ ¬ (xs 1) < 4096 := (Classical.em ((xs 1) < 0)).elim Or.inl (fun hq3 => Or.inr (fun hq4 => hq ⟨hq3, hq4⟩))
      exact Or.inr ⟨hout1 hq2, hout2 hq2⟩
  refine g_iload hC dL_law_438 rfl ?_
  refine g_icmp_eq (tgt := 445) hC dL_law_440 (by decide) (fun _ => ?_) (fun c => absurd (by rcases hcs with ⟨q1, q2, -, -⟩ | ⟨q1, q2⟩ <;> rw [q1, q2]) c)
  refine g_iload hC dL_law_445 rfl ?_
  refine g_if_ne (tgt := 462) hC dL_law_447 (by decide) (fun _ => ?_) (fun c => ?_)
  · refine g_goto (tgt := 478) hC dL_law_462 (by decide) ?_
    exact g_lv (lv' := [some (.ref b0), none, none, none, some (.int 0), none, none]) ⟨rfl, rfl, trivial⟩ (END _ _ _ (Nat.le_of_ble_eq_true rfl) (Nat.le_of_ble_eq_true rfl))
  · obtain ⟨-, -, hg0, hr20⟩ : r1 = 0 ∧ r3 = 0 ∧ g1 0 = 0 ∧ r2 = 0 := hcs.elim id (fun h => absurd (c.symm.trans h.1) (by decide))
    refine g_aload_n hC dL_law_450 rfl ?_
    refine g_iconst (v := 0) hC dL_law_451 rfl ?_
    refine g_lald hC hz2 (vp_in_nI (n := 0) (by decide) (by decide)) dL_law_452 ?_
    refine g_iload hC dL_law_453 rfl ?_
    refine g_i2l hC dL_law_455 ?_
    refine g_lcmp hC dL_law_456 ?_
    refine g_if_eq (tgt := 462) hC dL_law_457 (by decide) (fun _ => ?_) (fun c2 => absurd (by subst hr20; show lg_cmp (g1 0) _ = 0; rw [hg0]; rfl) c2)
    refine g_goto (tgt := 478) hC dL_law_462 (by decide) ?_
    exact g_lv (lv' := [some (.ref b0), none, none, none, some (.int 0), none, none]) ⟨rfl, rfl, trivial⟩ (END _ _ _ (Nat.le_of_ble_eq_true rfl) (Nat.le_of_ble_eq_true rfl))
set_option maxHeartbeats 40000000 in
set_option maxRecDepth 100000 in
theorem law_a11 {nm : String} {d : gD} {b : Nat} {X : gX} {Q : State → Prop} {b0 : Nat} {xs : Nat → Int32} (hC : gC RL cL_law 7 (some .boolean) nm room_1 d b X) (hl : X.la.stackTraces = false) (hX : va_X b0 6 xs X.st X.st.heap) (hb : b0 < X.st.heap.size) (hb2 : b0 < b) (END : ∀ (F6 : gM) (k6 n6 : Nat), k6 ≤ 600002 → n6 ≤ 7302232 → gG X d b Q F6 k6 n6 478 [some (.ref b0), none, none, none, some (.int 0), none, none] []) {Y5 : gYt} {G5 : gM} {S : gSt} {r z w0 w1 w2 w3 w4 w5 w6 w7 w8 : Nat} {f : Nat → Value} (hW5 : gWT d Y5 G5 S) (hzn : ∀ j, j < 44 → (j == 18 || j == 19 || j == 20) = false → sZ S j = 0 ∧ sN S j = 16) (hn45 : sN S 45 = 4096) (hv : ∀ k, k ≠ 7 → sV S k = gvin 0 k) (hPr : ∀ x, (x = r ∨ x ∈ [w0, w1, w2, w3, w4, w5, w6, w7, w8] ∨ x = z) → gPr Y5 x) (ho5 : gRo G5 r f) (a0 : G5 w0 = .inl (gY d, 6000, .inl (fun _ => 0))) (a1 : G5 w1 = .inl (gI d, 9000, .inl (fun _ => 0))) (a2 : G5 w2 = .inl (gI d, 9000, .inl (fun _ => 0))) (a3 : G5 w3 = .inl (gI d, 9000, .inl (fun _ => 0))) (a4 : G5 w4 = .inl (gI d, 9000, .inl (fun _ => 0))) (a5 : G5 w5 = .inl (gI d, 4, .inl (fun _ => 0))) (a6 : G5 w6 = .inl (gI d, 4, .inl (fun _ => 0))) (a7 : G5 w7 = .inl (gI d, 2, .inl (fun _ => 0))) (a8 : G5 w8 = .inl (gI d, 65536, .inl (fun _ => 0))) (z5 : G5 z = .inl (gJ d, 1, .inr (.inl (fun _ => 0)))) (v0 : f 0 = .int 0) (v2 : f 2 = .int 0) (v12 : f 12 = .int 0) (v99 : f 99 = .int 4096) (v101 : f 101 = .int 0) (v105 : f 105 = .int 0) (v104 : f 104 = .int 0) (v1 : f 1 = .ref w0) (v39 : f 39 = .ref w1) (v40 : f 40 = .ref w2) (v41 : f 41 = .ref w3) (v42 : f 42 = .ref w4) (v112 : f 112 = .ref w5) (v113 : f 113 = .ref w6) (v116 : f 116 = .ref w7) (v98 : f 98 = .ref w8) (hne01 : w1 ≠ w2) (hne02 : w1 ≠ w3) (hne03 : w1 ≠ w4) (hne12 : w2 ≠ w3) (hne13 : w2 ≠ w4) (hne23 : w3 ≠ w4) (hne56 : w5 ≠ w6) : gG X d b Q G5 163473 5027954 465 [some (.ref b0), some (.ref (gO' Y5 0)), some (.ref r), some (.ref z), some (.int 0), none, none] [] := by
  refine g_aload_n hC dL_law_465 rfl ?_
  refine g_callVi (As := []) hC rfl (hW5.o 0 (by decide)) (c_W_fuel X.la d b Y5 G5 S hW5) cl_L_75 rfl rfl (Nat.le_of_ble_eq_true rfl) (gFit_law (by decide) (by decide) (Nat.le_of_ble_eq_true rfl) (Nat.le_of_ble_eq_true rfl)) dL_law_466 (fun r112 F113 p114 => ?_)
  obtain ⟨hr1, eF⟩ := p114
  have eF := eF.symm; subst eF
  refine g_aload_n hC dL_law_469 rfl ?_
  refine g_callVi (As := []) hC rfl ho5 (r_fuel X.la d b G5 r f  ho5 v101  ) cl_L_78 rfl rfl (Nat.le_of_ble_eq_true rfl) (gFit_law (by decide) (by decide) (Nat.le_of_ble_eq_true rfl) (Nat.le_of_ble_eq_true rfl)) dL_law_470 (fun r115 F116 p117 => ?_)
  refine g_icmp_eq (tgt := 478) hC dL_law_473 (by decide) (fun _ => ?_) (fun c => absurd ((hr1.trans (hv 31 (by decide))).trans p117.symm) c)
  exact g_lv (lv' := [some (.ref b0), none, none, none, some (.int 0), none, none]) ⟨rfl, rfl, trivial⟩ (END _ _ _ (Nat.le_of_ble_eq_true rfl) (Nat.le_of_ble_eq_true rfl))
set_option maxHeartbeats 40000000 in
set_option maxRecDepth 100000 in
theorem law_body {nm : String} {d : gD} {b : Nat} {X : gX} {Q : State → Prop} {b0 L : Nat} {xs : Nat → Int32} (hC : gC RL cL_law 7 (some .boolean) nm room_1 d b X) (hl : X.la.stackTraces = false) (hX : va_X b0 L xs X.st X.st.heap) (hb : b0 < X.st.heap.size) (hb2 : b0 < b) (hL : L < 7) (hend : ∀ (F : gM) (k n : Nat) (lv : List (Option Value)), k ≤ 600002 → n ≤ 7302232 → gG X d b Q F k n 485 lv [.int 1]) : gG X d b Q (fun _ => g0) 0 0 0 [some (.ref b0), none, none, none, none, none, none] [] := by
  refine law_p1 hC hl hX hb hb2 (fun Y S G2 o hY hW hzn hn45 hv => ?_)
  refine law_p2 hC hl hX hb hb2 (fun Y5 G5 S r z w0 w1 w2 w3 w4 w5 w6 w7 w8 f hW5 hzn hn45 hv hPr ho5 a0 a1 a2 a3 a4 a5 a6 a7 a8 z5 v0 v2 v12 v99 v101 v105 v104 v1 v39 v40 v41 v42 v112 v113 v116 v98 hne01 hne02 hne03 hne12 hne13 hne23 hne56 => ?_) hY hW hzn hn45 hv
  refine g_iconst (v := 0) hC dL_law_20 rfl ?_
  refine g_istore (lv' := [some (.ref b0), some (.ref (gO' Y5 0)), some (.ref r), some (.ref z), some (.int 0), none, none]) hC dL_law_21 (Nat.le_of_ble_eq_true rfl) rfl rfl ?_
  refine g_iload hC dL_law_23 rfl ?_
  refine g_aload_n hC dL_law_25 rfl ?_
  refine g_scl hC hX hb hb2 dL_law_26 ?_
  refine g_bipush (v := 6) hC dL_law_27 rfl ?_
  refine g_isub hC dL_law_29 ?_
  refine g_vi (fun x118 ex118 => ?_)
  refine g_icmp_gt (tgt := 484) hC dL_law_30 (by decide) (fun c119 => ?_) (fun c119 => ?_)
  · refine g_iconst (v := 1) hC dL_law_484 rfl ?_
    exact hend _ _ _ _ (Nat.le_of_ble_eq_true rfl) (Nat.le_of_ble_eq_true rfl)
  · have hL6 := gL6 L hL (by subst_vars; exact c119)
    subst hL6
    refine g_aload_n hC dL_law_33 rfl ?_
    refine g_iload hC dL_law_34 rfl ?_
    refine g_sld hC hX hb hb2 (vp_in_nI (n := 0) (by decide) (by decide)) dL_law_36 ?_
    refine g_vi (fun x120 ex120 => ?_)
    have zx120 : x120 = xs 0 := by rw [ex120]; rfl
    subst zx120
    refine g_bipush (v := 15) hC dL_law_37 rfl ?_
    refine g_iand hC dL_law_39 ?_
    refine g_vi (fun x121 ex121 => ?_)
    have END := law_end hC hl hX hb hb2 hend
    obtain ⟨N, hN, eN⟩ := gop (xs 0)
    have zz := ex121.trans eN
    subst zz
    obtain rfl | rfl | rfl | rfl | rfl | rfl | rfl | rfl | rfl | rfl | rfl | rfl | rfl | rfl | rfl | rfl := g_lt16 hN
    · refine g_tableIn (off := 64) (tgt := 104) hC dL_law_40 (by decide) (by decide) rfl (by decide) ?_
      exact law_a0 hC hl hX hb hb2 END hW5 hzn hn45 hv hPr ho5 a0 a1 a2 a3 a4 a5 a6 a7 a8 z5 v0 v2 v12 v99 v101 v105 v104 v1 v39 v40 v41 v42 v112 v113 v116 v98 hne01 hne02 hne03 hne12 hne13 hne23 hne56
    · refine g_tableIn (off := 137) (tgt := 177) hC dL_law_40 (by decide) (by decide) rfl (by decide) ?_
      exact law_a1 hC hl hX hb hb2 END hW5 hzn hn45 hv hPr ho5 a0 a1 a2 a3 a4 a5 a6 a7 a8 z5 v0 v2 v12 v99 v101 v105 v104 v1 v39 v40 v41 v42 v112 v113 v116 v98 hne01 hne02 hne03 hne12 hne13 hne23 hne56
    · refine g_tableIn (off := 162) (tgt := 202) hC dL_law_40 (by decide) (by decide) rfl (by decide) ?_
      exact law_a2 hC hl hX hb hb2 END hW5 hzn hn45 hv hPr ho5 a0 a1 a2 a3 a4 a5 a6 a7 a8 z5 v0 v2 v12 v99 v101 v105 v104 v1 v39 v40 v41 v42 v112 v113 v116 v98 hne01 hne02 hne03 hne12 hne13 hne23 hne56
    · refine g_tableIn (off := 175) (tgt := 215) hC dL_law_40 (by decide) (by decide) rfl (by decide) ?_
      exact law_a3 hC hl hX hb hb2 END hW5 hzn hn45 hv hPr ho5 a0 a1 a2 a3 a4 a5 a6 a7 a8 z5 v0 v2 v12 v99 v101 v105 v104 v1 v39 v40 v41 v42 v112 v113 v116 v98 hne01 hne02 hne03 hne12 hne13 hne23 hne56
    · refine g_tableIn (off := 188) (tgt := 228) hC dL_law_40 (by decide) (by decide) rfl (by decide) ?_
      exact law_a4 hC hl hX hb hb2 END hW5 hzn hn45 hv hPr ho5 a0 a1 a2 a3 a4 a5 a6 a7 a8 z5 v0 v2 v12 v99 v101 v105 v104 v1 v39 v40 v41 v42 v112 v113 v116 v98 hne01 hne02 hne03 hne12 hne13 hne23 hne56
    · refine g_tableIn (off := 213) (tgt := 253) hC dL_law_40 (by decide) (by decide) rfl (by decide) ?_
      exact law_a5 hC hl hX hb hb2 END hW5 hzn hn45 hv hPr ho5 a0 a1 a2 a3 a4 a5 a6 a7 a8 z5 v0 v2 v12 v99 v101 v105 v104 v1 v39 v40 v41 v42 v112 v113 v116 v98 hne01 hne02 hne03 hne12 hne13 hne23 hne56
    · refine g_tableIn (off := 238) (tgt := 278) hC dL_law_40 (by decide) (by decide) rfl (by decide) ?_
      exact law_a6 hC hl hX hb hb2 END hW5 hzn hn45 hv hPr ho5 a0 a1 a2 a3 a4 a5 a6 a7 a8 z5 v0 v2 v12 v99 v101 v105 v104 v1 v39 v40 v41 v42 v112 v113 v116 v98 hne01 hne02 hne03 hne12 hne13 hne23 hne56
    · refine g_tableIn (off := 263) (tgt := 303) hC dL_law_40 (by decide) (by decide) rfl (by decide) ?_
      exact law_a7 hC hl hX hb hb2 END hW5 hzn hn45 hv hPr ho5 a0 a1 a2 a3 a4 a5 a6 a7 a8 z5 v0 v2 v12 v99 v101 v105 v104 v1 v39 v40 v41 v42 v112 v113 v116 v98 hne01 hne02 hne03 hne12 hne13 hne23 hne56
    · refine g_tableIn (off := 276) (tgt := 316) hC dL_law_40 (by decide) (by decide) rfl (by decide) ?_
      exact law_a8 hC hl hX hb hb2 END hW5 hzn hn45 hv hPr ho5 a0 a1 a2 a3 a4 a5 a6 a7 a8 z5 v0 v2 v12 v99 v101 v105 v104 v1 v39 v40 v41 v42 v112 v113 v116 v98 hne01 hne02 hne03 hne12 hne13 hne23 hne56
    · refine g_tableIn (off := 301) (tgt := 341) hC dL_law_40 (by decide) (by decide) rfl (by decide) ?_
      exact law_a9 hC hl hX hb hb2 END hW5 hzn hn45 hv hPr ho5 a0 a1 a2 a3 a4 a5 a6 a7 a8 z5 v0 v2 v12 v99 v101 v105 v104 v1 v39 v40 v41 v42 v112 v113 v116 v98 hne01 hne02 hne03 hne12 hne13 hne23 hne56
    · refine g_tableIn (off := 369) (tgt := 409) hC dL_law_40 (by decide) (by decide) rfl (by decide) ?_
      exact law_a10 hC hl hX hb hb2 END hW5 hzn hn45 hv hPr ho5 a0 a1 a2 a3 a4 a5 a6 a7 a8 z5 v0 v2 v12 v99 v101 v105 v104 v1 v39 v40 v41 v42 v112 v113 v116 v98 hne01 hne02 hne03 hne12 hne13 hne23 hne56
    · refine g_tableIn (off := 425) (tgt := 465) hC dL_law_40 (by decide) (by decide) rfl (by decide) ?_
      exact law_a11 hC hl hX hb hb2 END hW5 hzn hn45 hv hPr ho5 a0 a1 a2 a3 a4 a5 a6 a7 a8 z5 v0 v2 v12 v99 v101 v105 v104 v1 v39 v40 v41 v42 v112 v113 v116 v98 hne01 hne02 hne03 hne12 hne13 hne23 hne56
    · refine g_tableOut (tgt := 478) hC dL_law_40 (Or.inr (by decide)) (by decide) ?_
      exact g_lv (lv' := [some (.ref b0), none, none, none, some (.int 0), none, none]) ⟨rfl, rfl, trivial⟩ (END _ _ _ (Nat.le_of_ble_eq_true rfl) (Nat.le_of_ble_eq_true rfl))
    · refine g_tableOut (tgt := 478) hC dL_law_40 (Or.inr (by decide)) (by decide) ?_
      exact g_lv (lv' := [some (.ref b0), none, none, none, some (.int 0), none, none]) ⟨rfl, rfl, trivial⟩ (END _ _ _ (Nat.le_of_ble_eq_true rfl) (Nat.le_of_ble_eq_true rfl))
    · refine g_tableOut (tgt := 478) hC dL_law_40 (Or.inr (by decide)) (by decide) ?_
      exact g_lv (lv' := [some (.ref b0), none, none, none, some (.int 0), none, none]) ⟨rfl, rfl, trivial⟩ (END _ _ _ (Nat.le_of_ble_eq_true rfl) (Nat.le_of_ble_eq_true rfl))
    · refine g_tableOut (tgt := 478) hC dL_law_40 (Or.inr (by decide)) (by decide) ?_
      exact g_lv (lv' := [some (.ref b0), none, none, none, some (.int 0), none, none]) ⟨rfl, rfl, trivial⟩ (END _ _ _ (Nat.le_of_ble_eq_true rfl) (Nat.le_of_ble_eq_true rfl))
