set_option maxHeartbeats 40000000 in
set_option maxRecDepth 100000 in
theorem law_body {nm : String} {d : gD} {b : Nat} {X : gX} {Q : State → Prop} {b0 L : Nat} {xs : Nat → Int32} (hC : gC RL cL_law 7 (some .boolean) nm room_1 d b X) (hl : X.la.stackTraces = false) (hX : va_X b0 L xs X.st X.st.heap) (hb : b0 < X.st.heap.size) (hb2 : b0 < b) (hL : L < 7) (hend : ∀ (F : gM) (k n : Nat) (lv : List (Option Value)), k ≤ 600002 → n ≤ 7302232 → gG X d b Q F k n 485 lv [.int 1]) : gG X d b Q (fun _ => g0) 0 0 0 [some (.ref b0), none, none, none, none, none, none] [] := by
  have END : ∀ (F6 : gM) (k6 n6 : Nat), k6 ≤ 600002 → n6 ≤ 7302232 → L = 6 → gG X d b Q F6 k6 n6 478 [some (.ref b0), none, none, none, some (.int 0), none, none] [] := by
    intro F6 k6 n6 hk6 hn6 hL6
    obtain ⟨x1, ex1⟩ : ∃ y : Int32, y = 0 + 6 := ⟨_, rfl⟩
    refine g_iinc (v := x1) (lv' := [some (.ref b0), none, none, none, some (.int x1), none, none]) hC dL_law_478 rfl (by rw [ex1]; rfl) rfl rfl ?_
    refine g_goto (tgt := 23) hC dL_law_481 (by decide) ?_
    refine g_iload hC dL_law_23 rfl ?_
    refine g_aload_n hC dL_law_25 rfl ?_
    refine g_scl hC hX hb hb2 dL_law_26 ?_
    refine g_bipush (v := 6) hC dL_law_27 rfl ?_
    refine g_isub hC dL_law_29 ?_
    refine g_vi (fun x2 ex2 => ?_)
    refine g_icmp_gt (tgt := 484) hC dL_law_30 (by decide) (fun c3 => ?_) (fun c3 => ?_)
    · refine g_iconst (v := 1) hC dL_law_484 rfl ?_
      exact hend _ _ _ _ hk6 hn6
    · exact absurd (by subst_vars; decide) c3
  refine g_new hC nl_L_8 (Nat.le_of_ble_eq_true rfl) (Nat.le_of_ble_eq_true rfl) dL_law_0 (fun o4 e_o4 => ?_)
  refine g_vF (fun F5 hF5 => ?_)
  have ft : F5 o4 = .inr (11, [.null, .null, .null, .null, .null, .null, .null, .null, .int 0, .int 0]) := by rw [hF5]; exact va_up_self _ _ _
  refine g_dup hC dL_law_3 rfl ?_
  refine g_callIv (As := []) hC (k_W X.la d b F5 o4 ft) cl_L_19 rfl rfl (Nat.le_of_ble_eq_true rfl) (gFit_law (by decide) (by decide) (Nat.le_of_ble_eq_true rfl) (Nat.le_of_ble_eq_true rfl)) dL_law_4 (fun G2 p => ?_)
  obtain ⟨u_a0, u_q1, u_a2, u_q3, u_a4, u_q5, u_a6, u_q7, u_a8, u_q9, u_a10, u_q11, u_a12, u_q13, u_a14, u_q15, u_a16, u_q17, u_a18, u_q19, u_a20, u_q21, u_a22, u_q23, u_a24, u_q25, u_a26, u_q27, u_a28, u_q29, u_a30, u_q31, u_a32, u_q33, u_a34, u_q35, u_a36, u_q37, u_a38, u_q39, u_a40, u_q41, u_a42, u_q43, u_a44, u_q45, u_a46, u_q47, u_a48, u_q49, u_a50, u_q51, u_a52, u_q53, u_a54, u_q55, u_a56, u_q57, u_a58, u_q59, u_a60, u_q61, u_a62, u_q63, u_a64, u_q65, u_a66, u_q67, u_o68, u_q69, u_o70, u_q71, u_o72, u_q73, u_o74, u_q75, u_q76, u_o77, u_q78, u_o79, u_q80, u_a81, u_q82, u_a83, u_q84, u_a85, u_q86, u_a87, u_q88, u_q89, u_o90, u_o91, u_o92, u_o93, u_o94, u_o95, u_o96, u_o97, u_z98, u_z99, u_o100, u_o101, u_kn0, hcn, kk0, kk1, kk2, kk3, kk4, kk5, kk6, kk7, kk8, kk9, kk10, kk11⟩ := p
  obtain ⟨Y, S, hY, hW, ⟨hzn, hn45, hv⟩, hnP⟩ := gWT_of hcn kk0 kk1 kk2 kk3 kk4 kk5 kk6 kk7 kk8 kk9 kk10 kk11
  clear hcn kk0 kk1 kk2 kk3 kk4 kk5 kk6 kk7 kk8 kk9 kk10 kk11
  refine g_astore_n (lv' := [some (.ref b0), some (.ref o4), none, none, none, none, none]) hC dL_law_7 (Nat.le_of_ble_eq_true rfl) rfl rfl ?_
  refine g_new hC nl_L_20 (Nat.le_of_ble_eq_true rfl) (Nat.le_of_ble_eq_true rfl) dL_law_8 (fun r e_r => ?_)
  refine g_vF (fun F6 hF6 => ?_)
  have fr : gRo F6 r gdv := by show F6 r = _; rw [hF6]; exact va_up_self _ _ _
  refine g_dup hC dL_law_11 rfl ?_
  refine g_callIv (As := []) hC (k_R X.la d b F6 r fr) cl_L_22 rfl rfl (Nat.le_of_ble_eq_true rfl) (gFit_law (by decide) (by decide) (Nat.le_of_ble_eq_true rfl) (Nat.le_of_ble_eq_true rfl)) dL_law_12 (fun G4 p => ?_)
  sorry
