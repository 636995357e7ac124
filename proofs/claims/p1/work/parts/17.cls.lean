theorem kw_1625 : Cond.methodLink RX4 39 yX4_cut ∈ gWs := gWm 1625 (by decide +kernel) rfl
theorem cl_X4_39 : gCV RX4 39 yX4_cut cX4_cut 2 none 1 := ⟨g_mk [.methodLink RX4 39 yX4_cut, .instanceMethod yX4_cut, .selects yX4_cut.cls yX4_cut yX4_cut, .initialized yX4_cut.cls] (gWs_all kw_468) (List.forall_mem_cons.mpr ⟨kw_1625, List.forall_mem_cons.mpr ⟨kw_466, List.forall_mem_cons.mpr ⟨kw_467, List.forall_mem_cons.mpr ⟨kw_239, fun _ h => nomatch h⟩⟩⟩⟩), rfl, by decide +kernel, by decide +kernel, by decide +kernel⟩
theorem kw_1626 : Cond.methodLink RX4 43 yX4_size ∈ gWs := gWm 1626 (by decide +kernel) rfl
theorem cl_X4_43 : gCV RX4 43 yX4_size cX4_size 1 (some .int) 0 := ⟨g_mk [.methodLink RX4 43 yX4_size, .instanceMethod yX4_size, .selects yX4_size.cls yX4_size yX4_size, .initialized yX4_size.cls] (gWs_all kw_428) (List.forall_mem_cons.mpr ⟨kw_1626, List.forall_mem_cons.mpr ⟨kw_426, List.forall_mem_cons.mpr ⟨kw_427, List.forall_mem_cons.mpr ⟨kw_239, fun _ h => nomatch h⟩⟩⟩⟩), rfl, by decide +kernel, by decide +kernel, by decide +kernel⟩
theorem kw_1620 : Cond.code yX0_isInput cX0_isInput 2 (some .boolean) ∈ gWs := gWm 1620 (by decide +kernel) rfl
theorem kw_1617 : Cond.methodLink RX0 34 yX0_isInput ∈ gWs := gWm 1617 (by decide +kernel) rfl
theorem kw_1619 : Cond.instanceMethod yX0_isInput ∈ gWs := gWm 1619 (by decide +kernel) rfl
theorem kw_96 : Cond.selects RX0 yX0_isInput yX0_isInput ∈ gWs := gWm 96 (by decide +kernel) rfl
theorem cl_X0_34 : gCV RX0 34 yX0_isInput cX0_isInput 2 (some .boolean) 1 := ⟨g_mk [.methodLink RX0 34 yX0_isInput, .instanceMethod yX0_isInput, .selects yX0_isInput.cls yX0_isInput yX0_isInput, .initialized yX0_isInput.cls] (gWs_all kw_1620) (List.forall_mem_cons.mpr ⟨kw_1617, List.forall_mem_cons.mpr ⟨kw_1619, List.forall_mem_cons.mpr ⟨kw_96, List.forall_mem_cons.mpr ⟨kw_254, fun _ h => nomatch h⟩⟩⟩⟩), rfl, by decide +kernel, by decide +kernel, by decide +kernel⟩
theorem kw_1624 : Cond.code yX4_copyFrom cX4_copyFrom 3 none ∈ gWs := gWm 1624 (by decide +kernel) rfl
theorem kw_1621 : Cond.methodLink RX0 38 yX4_copyFrom ∈ gWs := gWm 1621 (by decide +kernel) rfl
theorem kw_1622 : Cond.instanceMethod yX4_copyFrom ∈ gWs := gWm 1622 (by decide +kernel) rfl
theorem kw_1623 : Cond.selects RX4 yX4_copyFrom yX4_copyFrom ∈ gWs := gWm 1623 (by decide +kernel) rfl
theorem cl_X0_38 : gCV RX0 38 yX4_copyFrom cX4_copyFrom 3 none 1 := ⟨g_mk [.methodLink RX0 38 yX4_copyFrom, .instanceMethod yX4_copyFrom, .selects yX4_copyFrom.cls yX4_copyFrom yX4_copyFrom, .initialized yX4_copyFrom.cls] (gWs_all kw_1624) (List.forall_mem_cons.mpr ⟨kw_1621, List.forall_mem_cons.mpr ⟨kw_1622, List.forall_mem_cons.mpr ⟨kw_1623, List.forall_mem_cons.mpr ⟨kw_239, fun _ h => nomatch h⟩⟩⟩⟩), rfl, by decide +kernel, by decide +kernel, by decide +kernel⟩
theorem kw_1616 : Cond.code yX0_take cX0_take 3 (some .int) ∈ gWs := gWm 1616 (by decide +kernel) rfl
theorem kw_1613 : Cond.methodLink RX11 130 yX0_take ∈ gWs := gWm 1613 (by decide +kernel) rfl
theorem kw_1614 : Cond.instanceMethod yX0_take ∈ gWs := gWm 1614 (by decide +kernel) rfl
theorem kw_1615 : Cond.selects RX0 yX0_take yX0_take ∈ gWs := gWm 1615 (by decide +kernel) rfl
theorem cl_X11_130 : gCV RX11 130 yX0_take cX0_take 3 (some .int) 2 := ⟨g_mk [.methodLink RX11 130 yX0_take, .instanceMethod yX0_take, .selects yX0_take.cls yX0_take yX0_take, .initialized yX0_take.cls] (gWs_all kw_1616) (List.forall_mem_cons.mpr ⟨kw_1613, List.forall_mem_cons.mpr ⟨kw_1614, List.forall_mem_cons.mpr ⟨kw_1615, List.forall_mem_cons.mpr ⟨kw_254, fun _ h => nomatch h⟩⟩⟩⟩), rfl, by decide +kernel, by decide +kernel, by decide +kernel⟩
theorem kw_839 : Cond.methodLink RX11 89 yX4_add ∈ gWs := gWm 839 (by decide +kernel) rfl
theorem cl_X11_89 : gCV RX11 89 yX4_add cX4_add 2 none 1 := ⟨g_mk [.methodLink RX11 89 yX4_add, .instanceMethod yX4_add, .selects yX4_add.cls yX4_add yX4_add, .initialized yX4_add.cls] (gWs_all kw_444) (List.forall_mem_cons.mpr ⟨kw_839, List.forall_mem_cons.mpr ⟨kw_442, List.forall_mem_cons.mpr ⟨kw_443, List.forall_mem_cons.mpr ⟨kw_239, fun _ h => nomatch h⟩⟩⟩⟩), rfl, by decide +kernel, by decide +kernel, by decide +kernel⟩
theorem kw_238 : Cond.initialized RX11 ∈ gWs := gWm 238 (by decide +kernel) rfl
theorem kw_838 : Cond.code yX11_addBytes cX11_addBytes 3 none ∈ gWs := gWm 838 (by decide +kernel) rfl
theorem kw_835 : Cond.methodLink RX11 86 yX11_addBytes ∈ gWs := gWm 835 (by decide +kernel) rfl
theorem kw_837 : Cond.instanceMethod yX11_addBytes ∈ gWs := gWm 837 (by decide +kernel) rfl
theorem kw_3 : Cond.selects RX11 yX11_addBytes yX11_addBytes ∈ gWs := gWm 3 (by decide +kernel) rfl
theorem cl_X11_86 : gCV RX11 86 yX11_addBytes cX11_addBytes 3 none 1 := ⟨g_mk [.methodLink RX11 86 yX11_addBytes, .instanceMethod yX11_addBytes, .selects yX11_addBytes.cls yX11_addBytes yX11_addBytes, .initialized yX11_addBytes.cls] (gWs_all kw_838) (List.forall_mem_cons.mpr ⟨kw_835, List.forall_mem_cons.mpr ⟨kw_837, List.forall_mem_cons.mpr ⟨kw_3, List.forall_mem_cons.mpr ⟨kw_238, fun _ h => nomatch h⟩⟩⟩⟩), rfl, by decide +kernel, by decide +kernel, by decide +kernel⟩
theorem dX4_copyFrom_0 : decode cX4_copyFrom 0 = .ok (.aload_n 0, 1) := by decide +kernel
theorem dX4_copyFrom_1 : decode cX4_copyFrom 1 = .ok (.iconst 0, 1) := by decide +kernel
theorem dX4_copyFrom_2 : decode cX4_copyFrom 2 = .ok (.invokevirtual 39, 3) := by decide +kernel
theorem dX4_copyFrom_5 : decode cX4_copyFrom 5 = .ok (.iconst 0, 1) := by decide +kernel
theorem dX4_copyFrom_6 : decode cX4_copyFrom 6 = .ok (.istore_n 2, 1) := by decide +kernel
theorem dX4_copyFrom_7 : decode cX4_copyFrom 7 = .ok (.iload_n 2, 1) := by decide +kernel
theorem dX4_copyFrom_8 : decode cX4_copyFrom 8 = .ok (.aload_n 1, 1) := by decide +kernel
theorem dX4_copyFrom_9 : decode cX4_copyFrom 9 = .ok (.invokevirtual 43, 3) := by decide +kernel
theorem dX4_copyFrom_12 : decode cX4_copyFrom 12 = .ok (.if_icmp .ge 18, 3) := by decide +kernel
theorem dX4_copyFrom_15 : decode cX4_copyFrom 15 = .ok (.aload_n 0, 1) := by decide +kernel
theorem dX4_copyFrom_16 : decode cX4_copyFrom 16 = .ok (.aload_n 1, 1) := by decide +kernel
theorem dX4_copyFrom_17 : decode cX4_copyFrom 17 = .ok (.iload_n 2, 1) := by decide +kernel
theorem dX4_copyFrom_18 : decode cX4_copyFrom 18 = .ok (.invokevirtual 35, 3) := by decide +kernel
theorem dX4_copyFrom_21 : decode cX4_copyFrom 21 = .ok (.invokevirtual 46, 3) := by decide +kernel
theorem dX4_copyFrom_24 : decode cX4_copyFrom 24 = .ok (.iinc 2 1, 3) := by decide +kernel
theorem dX4_copyFrom_27 : decode cX4_copyFrom 27 = .ok (.goto (-20), 3) := by decide +kernel
theorem dX4_copyFrom_30 : decode cX4_copyFrom 30 = .ok (.return_, 1) := by decide +kernel
set_option maxHeartbeats 4000000 in
set_option maxRecDepth 100000 in
theorem c_Ints_copy0 (l : Launch) (d : gD) (b : Nat) (F : gM) (a q mo n a2 q2 mo2 n2 : Nat) (f f2 : Nat → Int32) (h : gIn d F a q mo n 0 f) (h2 : gIn d F a2 q2 mo2 n2 0 f2) : gMv l d b yX4_copyFrom cX4_copyFrom 3 1 0 0 F [.ref a, .ref a2] (fun F' => F' = F) := by
  refine gM_of2 rfl (nL := 3) (Nat.le_of_ble_eq_true rfl) ?_
  intro X hX hC; subst hX
  show gG X d b _ F 0 0 0 [some (.ref a), some (.ref a2), none] []
  refine g_aload_n hC dX4_copyFrom_0 rfl ?_
  refine g_iconst (v := 0) hC dX4_copyFrom_1 rfl ?_
  refine g_callVv (As := [.int 0]) hC rfl h.1 (c_Ints_cut X.la d b F a q mo n 0 f h 0) cl_X4_39 rfl rfl (Nat.le_of_ble_eq_true rfl) (gFit_of (Nat.le_of_ble_eq_true rfl) (Nat.le_of_ble_eq_true rfl) (by first | exact Nat.le_of_ble_eq_true rfl | omega | (simp only [gR]; omega)) (by first | exact Nat.le_of_ble_eq_true rfl | omega | (simp only [gR]; omega))) dX4_copyFrom_2 (fun F1 p2 => ?_)
  have eF1 := (p2.2.1 (Or.inr (by decide))).symm; subst eF1
  refine g_iconst (v := 0) hC dX4_copyFrom_5 rfl ?_
  refine g_istore_n (lv' := [some (.ref a), some (.ref a2), some (.int 0)]) hC dX4_copyFrom_6 (Nat.le_of_ble_eq_true rfl) rfl rfl ?_
  refine g_iload_n hC dX4_copyFrom_7 rfl ?_
  refine g_aload_n hC dX4_copyFrom_8 rfl ?_
  refine g_callVi (As := []) hC rfl h2.1 (c_Ints_size X.la d b F a2 q2 mo2 n2 0 f2 h2) cl_X4_43 rfl rfl (Nat.le_of_ble_eq_true rfl) (gFit_of (Nat.le_of_ble_eq_true rfl) (Nat.le_of_ble_eq_true rfl) (by first | exact Nat.le_of_ble_eq_true rfl | omega | (simp only [gR]; omega)) (by first | exact Nat.le_of_ble_eq_true rfl | omega | (simp only [gR]; omega))) dX4_copyFrom_9 (fun r6 F4 p5 => ?_)
  obtain ⟨rfl, eF4⟩ := p5; have eF4 := eF4.symm; subst eF4
  refine g_icmp_ge (tgt := 30) hC dX4_copyFrom_12 (by decide) (fun c7 => ?_) (fun c7 => ?_)
  · exact g_vret hC rfl (by first | exact Nat.le_of_ble_eq_true rfl | omega | (simp only [gR]; omega)) (by first | exact Nat.le_of_ble_eq_true rfl | omega | (simp only [gR]; omega)) dX4_copyFrom_30
  · exact absurd (by decide) c7
theorem dX0_take_0 : decode cX0_take 0 = .ok (.aload_n 0, 1) := by decide +kernel
theorem dX0_take_1 : decode cX0_take 1 = .ok (.iload_n 1, 1) := by decide +kernel
theorem dX0_take_2 : decode cX0_take 2 = .ok (.invokevirtual 34, 3) := by decide +kernel
theorem dX0_take_5 : decode cX0_take 5 = .ok (.ifCond .ne 5, 3) := by decide +kernel
theorem dX0_take_8 : decode cX0_take 8 = .ok (.iconst (-1), 1) := by decide +kernel
theorem dX0_take_9 : decode cX0_take 9 = .ok (.ireturn, 1) := by decide +kernel
theorem dX0_take_10 : decode cX0_take 10 = .ok (.aload_n 0, 1) := by decide +kernel
theorem dX0_take_11 : decode cX0_take 11 = .ok (.getfield 14, 3) := by decide +kernel
theorem dX0_take_14 : decode cX0_take 14 = .ok (.iload_n 1, 1) := by decide +kernel
theorem dX0_take_15 : decode cX0_take 15 = .ok (.aaload, 1) := by decide +kernel
theorem dX0_take_16 : decode cX0_take 16 = .ok (.aload_n 2, 1) := by decide +kernel
theorem dX0_take_17 : decode cX0_take 17 = .ok (.invokevirtual 38, 3) := by decide +kernel
theorem dX0_take_20 : decode cX0_take 20 = .ok (.aload_n 0, 1) := by decide +kernel
theorem dX0_take_21 : decode cX0_take 21 = .ok (.getfield 20, 3) := by decide +kernel
theorem dX0_take_24 : decode cX0_take 24 = .ok (.iload_n 1, 1) := by decide +kernel
theorem dX0_take_25 : decode cX0_take 25 = .ok (.iconst 0, 1) := by decide +kernel
theorem dX0_take_26 : decode cX0_take 26 = .ok (.iastore, 1) := by decide +kernel
theorem dX0_take_27 : decode cX0_take 27 = .ok (.aload_n 0, 1) := by decide +kernel
theorem dX0_take_28 : decode cX0_take 28 = .ok (.getfield 14, 3) := by decide +kernel
theorem dX0_take_31 : decode cX0_take 31 = .ok (.iload_n 1, 1) := by decide +kernel
theorem dX0_take_32 : decode cX0_take 32 = .ok (.aaload, 1) := by decide +kernel
theorem dX0_take_33 : decode cX0_take 33 = .ok (.invokevirtual 42, 3) := by decide +kernel
theorem dX0_take_36 : decode cX0_take 36 = .ok (.ireturn, 1) := by decide +kernel
set_option maxHeartbeats 4000000 in
set_option maxRecDepth 100000 in
theorem c_C_take0 (l : Launch) (d : gD) (b : Nat) (Y : gYt) (F : gM) (S : gSt) (hW : gWT d Y F S) (hz0 : sZ S 0 = 0) (hzi : ∀ j, j < 4 → sZ S (34 + j) = 0) (i : Int32) : gMi l d b yX0_take cX0_take 3 .int 2 0 0 F [.ref (gO' Y 6), .int i, .ref (gA' Y 0)] (fun r F' => (i < 0 ∨ nI 4 ≤ i → r = (-1)) ∧ (¬ i < 0 ∧ ¬ nI 4 ≤ i → r = 0) ∧ ∃ S', gWT d Y F' S' ∧ gKp Y F F' ∧ gSm S S' [44] []) := by
  refine gM_of2 rfl (nL := 3) (Nat.le_of_ble_eq_true rfl) ?_
  intro X hX hC; subst hX
  show gG X d b _ F 0 0 0 [some (.ref (gO' Y 6)), some (.int i), some (.ref (gA' Y 0))] []
  obtain ⟨⟨fI, hI, hI2⟩, fO, hO, hO2⟩ := id hW.2.2.2.1
  have hM0 : gSm S S [44] [] := gSm.rf
  have hK0 : gKp Y F F := gKp.rf
  refine g_aload_n hC dX0_take_0 rfl ?_
  refine g_iload_n hC dX0_take_1 rfl ?_
  refine g_callVi (As := [.int i]) hC rfl (hW.o 6 (by decide)) (c_C_isInput X.la d b Y F S hW i) cl_X0_34 rfl rfl (Nat.le_of_ble_eq_true rfl) (gFit_of (Nat.le_of_ble_eq_true rfl) (Nat.le_of_ble_eq_true rfl) (by first | exact Nat.le_of_ble_eq_true rfl | omega | (simp only [gR]; omega)) (by first | exact Nat.le_of_ble_eq_true rfl | omega | (simp only [gR]; omega))) dX0_take_2 (fun r3 F1 p2 => ?_)
  obtain ⟨ar3, br3, er3⟩ := p2; have er3 := er3.symm; subst er3
  refine g_if_ne (tgt := 10) hC dX0_take_5 (by decide) (fun c4 => ?_) (fun c4 => ?_)
  · have hc1 : ¬ i < 0 := fun q => c4 (ar3 (Or.inl q))
    have hc2 : ¬ nI 4 ≤ i := fun q => c4 (ar3 (Or.inr q))
    obtain ⟨j, hj, rfl⟩ : ∃ j : Nat, j < 4 ∧ i = nI j := by
      obtain ⟨j, hj, rfl⟩ := nI_of hc1
      exact ⟨j, Nat.not_le.mp (fun q => hc2 (nI_le q hj)), rfl⟩
    refine g_aload_n hC dX0_take_10 rfl ?_
    refine g_get hC fl_X0_14 (hW.o 6 (by decide)) rfl dX0_take_11 ?_
    refine g_iload_n hC dX0_take_14 rfl ?_
    refine g_aald hC hI (vp_in_nI hj (by decide)) dX0_take_15 ?_
    rw [nI_clamp (by omega), hI2 j hj]
    refine g_aload_n hC dX0_take_16 rfl ?_
    have hr1 := hW.r (34 + j) (by omega)
    rw [hzi j hj] at hr1
    have hr0 := hW.r 0 (by decide)
    rw [hz0] at hr0
    refine g_callVv (As := [.ref (gA' Y 0)]) hC rfl hr1.1 (c_Ints_copy0 X.la d b F _ _ _ _ _ _ _ _ _ _ hr1 hr0) cl_X0_38 rfl rfl (Nat.le_of_ble_eq_true rfl) (gFit_of (Nat.le_of_ble_eq_true rfl) (Nat.le_of_ble_eq_true rfl) (by first | exact Nat.le_of_ble_eq_true rfl | omega | (simp only [gR]; omega)) (by first | exact Nat.le_of_ble_eq_true rfl | omega | (simp only [gR]; omega))) dX0_take_17 (fun F5 p6 => ?_)
    have eF5 := p6.symm; subst eF5
    refine g_aload_n hC dX0_take_20 rfl ?_
    refine g_get hC fl_X0_20 (hW.o 6 (by decide)) rfl dX0_take_21 ?_
    refine g_iload_n hC dX0_take_24 rfl ?_
    refine g_iconst (v := 0) hC dX0_take_25 rfl ?_
    refine g_iast hC hW.p (vp_in_nI hj (by decide)) dX0_take_26 ?_
    refine g_vF (fun F9 hF9 => ?_)
    obtain ⟨hW9, hK9⟩ := gWT.arr44 hW hF9
    obtain ⟨S9, hS9⟩ : ∃ z : gSt, z = (S.1, S.2.1, S.2.2.1, S.2.2.2.1, va_up S.2.2.2.2 44 (upd (sF S 44) (nI j).toNatClampNeg 0)) := ⟨_, rfl⟩
    rw [← hS9] at hW9
    have hs9 : gSm S S9 [44] [] := by rw [hS9]; exact ⟨fun i hi => ⟨rfl, rfl, rfl, va_up_ne _ _ (fun e => hi (by rw [e]; exact List.mem_singleton.mpr rfl))⟩, fun _ _ => rfl⟩
    have hM7 : gSm S S9 [44] [] := hM0.tr hs9 _ _ rfl rfl
    have hK8 : gKp Y F F9 := hK0.tr hK9
    obtain ⟨⟨fI9, hI9, hI92⟩, -⟩ := id hW9.2.2.2.1
    refine g_aload_n hC dX0_take_27 rfl ?_
    refine g_get hC fl_X0_14 (hW9.o 6 (by decide)) rfl dX0_take_28 ?_
    refine g_iload_n hC dX0_take_31 rfl ?_
    refine g_aald hC hI9 (vp_in_nI hj (by decide)) dX0_take_32 ?_
    rw [nI_clamp (by omega), hI92 j hj]
    refine g_callVi (As := []) hC rfl (hW9.r (34 + j) (by omega)).1 (c_Ints_size X.la d b F9 _ _ _ _ _ _ (hW9.r (34 + j) (by omega))) cl_X0_42 rfl rfl (Nat.le_of_ble_eq_true rfl) (gFit_of (Nat.le_of_ble_eq_true rfl) (Nat.le_of_ble_eq_true rfl) (by first | exact Nat.le_of_ble_eq_true rfl | omega | (simp only [gR]; omega)) (by first | exact Nat.le_of_ble_eq_true rfl | omega | (simp only [gR]; omega))) dX0_take_33 (fun r9 F10 p11 => ?_)
    obtain ⟨rfl, eF10⟩ := p11; have eF10 := eF10.symm; subst eF10
    have hz9 : nI (sZ S9 (34 + j)) = 0 := by rw [(hs9.1 (34 + j) (by simp; omega)).2.2.1, hzi j hj]; rfl
    exact g_iret hC rfl ⟨fun z => absurd z (fun z => z.elim hc1 hc2), fun _ => hz9, S9, hW9, hK8, hM7⟩ (by first | exact Nat.le_of_ble_eq_true rfl | omega | (simp only [gR]; omega)) (by first | exact Nat.le_of_ble_eq_true rfl | omega | (simp only [gR]; omega)) dX0_take_36
  · have hno : i < 0 ∨ nI 4 ≤ i := Classical.byContradiction fun z => by
      rw [br3 ⟨fun q => z (Or.inl q), fun q => z (Or.inr q)⟩] at c4
      exact absurd c4 (by decide)
    refine g_iconst (v := (-1)) hC dX0_take_8 rfl ?_
    exact g_iret hC rfl ⟨fun _ => rfl, fun z => absurd hno (fun q => q.elim z.1 z.2), S, hW, gKp.rf, gSm.rf⟩ (by first | exact Nat.le_of_ble_eq_true rfl | omega | (simp only [gR]; omega)) (by first | exact Nat.le_of_ble_eq_true rfl | omega | (simp only [gR]; omega)) dX0_take_9
theorem dX11_input_0 : decode cX11_input 0 = .ok (.aload_n 0, 1) := by decide +kernel
theorem dX11_input_1 : decode cX11_input 1 = .ok (.getfield 62, 3) := by decide +kernel
theorem dX11_input_4 : decode cX11_input 4 = .ok (.iload_n 1, 1) := by decide +kernel
theorem dX11_input_5 : decode cX11_input 5 = .ok (.aload_n 0, 1) := by decide +kernel
theorem dX11_input_6 : decode cX11_input 6 = .ok (.getfield 14, 3) := by decide +kernel
theorem dX11_input_9 : decode cX11_input 9 = .ok (.invokevirtual 130, 3) := by decide +kernel
theorem dX11_input_12 : decode cX11_input 12 = .ok (.istore_n 2, 1) := by decide +kernel
theorem dX11_input_13 : decode cX11_input 13 = .ok (.aload_n 0, 1) := by decide +kernel
theorem dX11_input_14 : decode cX11_input 14 = .ok (.getfield 14, 3) := by decide +kernel
theorem dX11_input_17 : decode cX11_input 17 = .ok (.iconst 0, 1) := by decide +kernel
theorem dX11_input_18 : decode cX11_input 18 = .ok (.invokevirtual 92, 3) := by decide +kernel
theorem dX11_input_21 : decode cX11_input 21 = .ok (.iload_n 2, 1) := by decide +kernel
theorem dX11_input_22 : decode cX11_input 22 = .ok (.ireturn, 1) := by decide +kernel
set_option maxHeartbeats 4000000 in
set_option maxRecDepth 100000 in
theorem c_W_input0 (l : Launch) (d : gD) (b : Nat) (Y : gYt) (F : gM) (S : gSt) (hW : gWT d Y F S) (hz0 : sZ S 0 = 0) (hzi : ∀ j, j < 4 → sZ S (34 + j) = 0) (i : Int32) : gMi l d b yX11_input cX11_input 3 .int 3 0 0 F [.ref (gO' Y 0), .int i] (fun r F' => (i < 0 ∨ nI 4 ≤ i → r = (-1)) ∧ (¬ i < 0 ∧ ¬ nI 4 ≤ i → r = 0) ∧ ∃ S', gWT d Y F' S' ∧ gKp Y F F' ∧ gSm S S' [0, 44] []) := by
  refine gM_of2 rfl (nL := 3) (Nat.le_of_ble_eq_true rfl) ?_
  intro X hX hC; subst hX
  show gG X d b _ F 0 0 0 [some (.ref (gO' Y 0)), some (.int i), none] []
  have hM0 : gSm S S [0, 44] [] := gSm.rf
  have hK0 : gKp Y F F := gKp.rf
  refine g_aload_n hC dX11_input_0 rfl ?_
  refine g_get hC fl_X11_62 (hW.o 0 (by decide)) rfl dX11_input_1 ?_
  refine g_iload_n hC dX11_input_4 rfl ?_
  refine g_aload_n hC dX11_input_5 rfl ?_
  refine g_get hC fl_X11_14 (hW.o 0 (by decide)) rfl dX11_input_6 ?_
  refine g_callVi (As := [.int i, .ref (gA' Y 0)]) hC rfl (hW.o 6 (by decide)) (c_C_take0 X.la d b Y F S hW hz0 hzi i) cl_X11_130 rfl rfl (Nat.le_of_ble_eq_true rfl) (gFit_of (Nat.le_of_ble_eq_true rfl) (Nat.le_of_ble_eq_true rfl) (by first | exact Nat.le_of_ble_eq_true rfl | omega | (simp only [gR]; omega)) (by first | exact Nat.le_of_ble_eq_true rfl | omega | (simp only [gR]; omega))) dX11_input_9 (fun r3 F1 p2 => ?_)
  obtain ⟨a1, a2, S4, hW5, k6, s7⟩ := p2
  have hM8 : gSm S S4 [0, 44] [] := hM0.tr s7 _ _ rfl rfl
  have hK9 : gKp Y F F1 := hK0.tr k6
  refine g_istore_n (lv' := [some (.ref (gO' Y 0)), some (.int i), some (.int r3)]) hC dX11_input_12 (Nat.le_of_ble_eq_true rfl) rfl rfl ?_
  refine g_aload_n hC dX11_input_13 rfl ?_
  refine g_get hC fl_X11_14 (hW5.o 0 (by decide)) rfl dX11_input_14 ?_
  refine g_iconst (v := 0) hC dX11_input_17 rfl ?_
  refine g_callVv (As := [.int 0]) hC rfl (hW5.r 0 (by decide)).1 (c_Ints_cut X.la d b F1 _ _ _ _ _ _ (hW5.r 0 (by decide)) 0) cl_X11_92 rfl rfl (Nat.le_of_ble_eq_true rfl) (gFit_of (Nat.le_of_ble_eq_true rfl) (Nat.le_of_ble_eq_true rfl) (by first | exact Nat.le_of_ble_eq_true rfl | omega | (simp only [gR]; omega)) (by first | exact Nat.le_of_ble_eq_true rfl | omega | (simp only [gR]; omega))) dX11_input_18 (fun F11 p12 => ?_)
  obtain ⟨S13, hW14, k15, s16, u17, u18, u19, u20, u21⟩ := wt_cut hW5 (by decide) p12
  have hM22 : gSm S S13 [0, 44] [] := hM8.tr s16 _ _ rfl rfl
  have hK23 : gKp Y F F11 := hK9.tr k15
  refine g_iload_n hC dX11_input_21 rfl ?_
  exact g_iret hC rfl ⟨a1, a2, S13, hW14, hK23, hM22⟩ (by first | exact Nat.le_of_ble_eq_true rfl | omega | (simp only [gR]; omega)) (by first | exact Nat.le_of_ble_eq_true rfl | omega | (simp only [gR]; omega)) dX11_input_22
theorem dX11_addBytes_0 : decode cX11_addBytes 0 = .ok (.bipush 24, 2) := by decide +kernel
theorem dX11_addBytes_2 : decode cX11_addBytes 2 = .ok (.istore_n 2, 1) := by decide +kernel
theorem dX11_addBytes_3 : decode cX11_addBytes 3 = .ok (.iload_n 2, 1) := by decide +kernel
theorem dX11_addBytes_4 : decode cX11_addBytes 4 = .ok (.ifCond .lt 23, 3) := by decide +kernel
theorem dX11_addBytes_7 : decode cX11_addBytes 7 = .ok (.aload_n 0, 1) := by decide +kernel
theorem dX11_addBytes_8 : decode cX11_addBytes 8 = .ok (.getfield 14, 3) := by decide +kernel
theorem dX11_addBytes_11 : decode cX11_addBytes 11 = .ok (.iload_n 1, 1) := by decide +kernel
theorem dX11_addBytes_12 : decode cX11_addBytes 12 = .ok (.iload_n 2, 1) := by decide +kernel
theorem dX11_addBytes_13 : decode cX11_addBytes 13 = .ok (.iushr, 1) := by decide +kernel
theorem dX11_addBytes_14 : decode cX11_addBytes 14 = .ok (.sipush 255, 3) := by decide +kernel
theorem dX11_addBytes_17 : decode cX11_addBytes 17 = .ok (.iand, 1) := by decide +kernel
theorem dX11_addBytes_18 : decode cX11_addBytes 18 = .ok (.invokevirtual 89, 3) := by decide +kernel
theorem dX11_addBytes_21 : decode cX11_addBytes 21 = .ok (.iinc 2 (-8), 3) := by decide +kernel
theorem dX11_addBytes_24 : decode cX11_addBytes 24 = .ok (.goto (-21), 3) := by decide +kernel
theorem dX11_addBytes_27 : decode cX11_addBytes 27 = .ok (.return_, 1) := by decide +kernel
set_option maxHeartbeats 4000000 in
set_option maxRecDepth 100000 in
theorem c_W_addBytes (l : Launch) (d : gD) (b : Nat) (Y : gYt) (F : gM) (S : gSt) (hW : gWT d Y F S) (x : Int32) (z : Nat) (hz : sZ S 0 = z) (hn : sN S 0 = 16) (hl : z + 4 ≤ 16) : gMv l d b yX11_addBytes cX11_addBytes 3 3 0 0 F [.ref (gO' Y 0), .int x] (fun F' => ∃ S', gWT d Y F' S' ∧ gKp Y F F' ∧ gSm S S' [0] [] ∧ sZ S' 0 = z + 1 + 1 + 1 + 1 ∧ sN S' 0 = 16) := by
  refine gM_of2 rfl (nL := 3) (Nat.le_of_ble_eq_true rfl) ?_
  intro X hX hC; subst hX
  show gG X d b _ F 0 0 0 [some (.ref (gO' Y 0)), some (.int x), none] []
  have hM0 : gSm S S [0] [] := gSm.rf
  have hK0 : gKp Y F F := gKp.rf
  refine g_bipush (v := 24) hC dX11_addBytes_0 rfl ?_
  refine g_istore_n (lv' := [some (.ref (gO' Y 0)), some (.int x), some (.int 24)]) hC dX11_addBytes_2 (Nat.le_of_ble_eq_true rfl) rfl rfl ?_
  refine g_iload_n hC dX11_addBytes_3 rfl ?_
  refine g_if_lt (tgt := 27) hC dX11_addBytes_4 (by decide) (fun c1 => ?_) (fun c1 => ?_)
  · exact absurd c1 (by decide)
  · refine g_aload_n hC dX11_addBytes_7 rfl ?_
    refine g_get hC fl_X11_14 (hW.o 0 (by decide)) rfl dX11_addBytes_8 ?_
    refine g_iload_n hC dX11_addBytes_11 rfl ?_
    refine g_iload_n hC dX11_addBytes_12 rfl ?_
    refine g_iushr hC dX11_addBytes_13 ?_
    refine g_vi (fun x2 ex2 => ?_)
    refine g_sipush (v := 255) hC dX11_addBytes_14 rfl ?_
    refine g_iand hC dX11_addBytes_17 ?_
    refine g_vi (fun x3 ex3 => ?_)
    have z7 : gAc (sN S 0) (sZ S 0) = 0 := gAc0 (by rw [hz, hn]; exact (by omega))
    have z8 : gAs (gmo 0) (sN S 0) (sZ S 0) = 0 := gAs0 (by rw [hz, hn]; exact (by omega))
    refine g_callVv (As := [.int x3]) hC rfl (hW.r 0 (by decide)).1 (c_Ints_add X.la d b F _ _ _ _ _ _ (hW.r 0 (by decide)) x3) cl_X11_89 rfl rfl (Nat.le_of_ble_eq_true rfl) (gFit_add (Nat.le_of_ble_eq_true rfl) (Nat.le_of_ble_eq_true rfl) z7 z8 (Nat.le_of_ble_eq_true rfl) (Nat.le_of_ble_eq_true rfl)) dX11_addBytes_18 (fun F5 p6 => ?_)
    refine g_kn (k2 := 0) (n2 := 0) (by rw [z7]) (by rw [z8]) ?_
    obtain ⟨S9, hW10, k11, s12, a13, -⟩ := wt_add hW (by decide) p6
    have a13 := a13 (by rw [hz]; exact Nat.lt_of_lt_of_le (by omega) (w_mo 0))
    have hM14 : gSm S S9 [0] [] := hM0.tr s12 _ _ rfl rfl
    have hK15 : gKp Y F F5 := hK0.tr k11
    have z16 : sZ S9 0 = (z + 1) := by rw [a13.1, hz]
    have z17 : sN S9 0 = 16 := by rw [a13.2.1, gAn0 (by rw [hz, hn]; exact (by omega)), hn]
    clear hz hn hM0 hK0 s12 k11 hW a13 z7 z8 p6
    obtain ⟨x18, ex18⟩ : ∃ y : Int32, y = 24 + (-8) := ⟨_, rfl⟩
    refine g_iinc (v := x18) (lv' := [some (.ref (gO' Y 0)), some (.int x), some (.int x18)]) hC dX11_addBytes_21 rfl (by rw [ex18]; rfl) rfl rfl ?_
    have zx18 : x18 = (16) := by rw [ex18]; decide
    subst zx18
    refine g_goto (tgt := 3) hC dX11_addBytes_24 (by decide) ?_
    refine g_iload_n hC dX11_addBytes_3 rfl ?_
    refine g_if_lt (tgt := 27) hC dX11_addBytes_4 (by decide) (fun c19 => ?_) (fun c19 => ?_)
    · exact absurd c19 (by decide)
    · refine g_aload_n hC dX11_addBytes_7 rfl ?_
      refine g_get hC fl_X11_14 (hW10.o 0 (by decide)) rfl dX11_addBytes_8 ?_
      refine g_iload_n hC dX11_addBytes_11 rfl ?_
      refine g_iload_n hC dX11_addBytes_12 rfl ?_
      refine g_iushr hC dX11_addBytes_13 ?_
      refine g_vi (fun x20 ex20 => ?_)
      refine g_sipush (v := 255) hC dX11_addBytes_14 rfl ?_
      refine g_iand hC dX11_addBytes_17 ?_
      refine g_vi (fun x21 ex21 => ?_)
      have z25 : gAc (sN S9 0) (sZ S9 0) = 0 := gAc0 (by rw [z16, z17]; exact (by omega))
      have z26 : gAs (gmo 0) (sN S9 0) (sZ S9 0) = 0 := gAs0 (by rw [z16, z17]; exact (by omega))
      refine g_callVv (As := [.int x21]) hC rfl (hW10.r 0 (by decide)).1 (c_Ints_add X.la d b F5 _ _ _ _ _ _ (hW10.r 0 (by decide)) x21) cl_X11_89 rfl rfl (Nat.le_of_ble_eq_true rfl) (gFit_add (Nat.le_of_ble_eq_true rfl) (Nat.le_of_ble_eq_true rfl) z25 z26 (Nat.le_of_ble_eq_true rfl) (Nat.le_of_ble_eq_true rfl)) dX11_addBytes_18 (fun F23 p24 => ?_)
      refine g_kn (k2 := 0) (n2 := 0) (by rw [z25]) (by rw [z26]) ?_
      obtain ⟨S27, hW28, k29, s30, a31, -⟩ := wt_add hW10 (by decide) p24
      have a31 := a31 (by rw [z16]; exact Nat.lt_of_lt_of_le (by omega) (w_mo 0))
      have hM32 : gSm S S27 [0] [] := hM14.tr s30 _ _ rfl rfl
      have hK33 : gKp Y F F23 := hK15.tr k29
      have z34 : sZ S27 0 = ((z + 1) + 1) := by rw [a31.1, z16]
      have z35 : sN S27 0 = 16 := by rw [a31.2.1, gAn0 (by rw [z16, z17]; exact (by omega)), z17]
      clear z16 z17 hM14 hK15 s30 k29 hW10 a31 z25 z26 p24
      obtain ⟨x36, ex36⟩ : ∃ y : Int32, y = 16 + (-8) := ⟨_, rfl⟩
      refine g_iinc (v := x36) (lv' := [some (.ref (gO' Y 0)), some (.int x), some (.int x36)]) hC dX11_addBytes_21 rfl (by rw [ex36]; rfl) rfl rfl ?_
      have zx36 : x36 = (8) := by rw [ex36]; decide
      subst zx36
      refine g_goto (tgt := 3) hC dX11_addBytes_24 (by decide) ?_
      refine g_iload_n hC dX11_addBytes_3 rfl ?_
      refine g_if_lt (tgt := 27) hC dX11_addBytes_4 (by decide) (fun c37 => ?_) (fun c37 => ?_)
      · exact absurd c37 (by decide)
      · refine g_aload_n hC dX11_addBytes_7 rfl ?_
        refine g_get hC fl_X11_14 (hW28.o 0 (by decide)) rfl dX11_addBytes_8 ?_
        refine g_iload_n hC dX11_addBytes_11 rfl ?_
        refine g_iload_n hC dX11_addBytes_12 rfl ?_
        refine g_iushr hC dX11_addBytes_13 ?_
        refine g_vi (fun x38 ex38 => ?_)
        refine g_sipush (v := 255) hC dX11_addBytes_14 rfl ?_
        refine g_iand hC dX11_addBytes_17 ?_
        refine g_vi (fun x39 ex39 => ?_)
        have z43 : gAc (sN S27 0) (sZ S27 0) = 0 := gAc0 (by rw [z34, z35]; exact (by omega))
        have z44 : gAs (gmo 0) (sN S27 0) (sZ S27 0) = 0 := gAs0 (by rw [z34, z35]; exact (by omega))
        refine g_callVv (As := [.int x39]) hC rfl (hW28.r 0 (by decide)).1 (c_Ints_add X.la d b F23 _ _ _ _ _ _ (hW28.r 0 (by decide)) x39) cl_X11_89 rfl rfl (Nat.le_of_ble_eq_true rfl) (gFit_add (Nat.le_of_ble_eq_true rfl) (Nat.le_of_ble_eq_true rfl) z43 z44 (Nat.le_of_ble_eq_true rfl) (Nat.le_of_ble_eq_true rfl)) dX11_addBytes_18 (fun F41 p42 => ?_)
        refine g_kn (k2 := 0) (n2 := 0) (by rw [z43]) (by rw [z44]) ?_
        obtain ⟨S45, hW46, k47, s48, a49, -⟩ := wt_add hW28 (by decide) p42
        have a49 := a49 (by rw [z34]; exact Nat.lt_of_lt_of_le (by omega) (w_mo 0))
        have hM50 : gSm S S45 [0] [] := hM32.tr s48 _ _ rfl rfl
        have hK51 : gKp Y F F41 := hK33.tr k47
        have z52 : sZ S45 0 = (((z + 1) + 1) + 1) := by rw [a49.1, z34]
        have z53 : sN S45 0 = 16 := by rw [a49.2.1, gAn0 (by rw [z34, z35]; exact (by omega)), z35]
        clear z34 z35 hM32 hK33 s48 k47 hW28 a49 z43 z44 p42
        obtain ⟨x54, ex54⟩ : ∃ y : Int32, y = 8 + (-8) := ⟨_, rfl⟩
        refine g_iinc (v := x54) (lv' := [some (.ref (gO' Y 0)), some (.int x), some (.int x54)]) hC dX11_addBytes_21 rfl (by rw [ex54]; rfl) rfl rfl ?_
        have zx54 : x54 = (0) := by rw [ex54]; decide
        subst zx54
        refine g_goto (tgt := 3) hC dX11_addBytes_24 (by decide) ?_
        refine g_iload_n hC dX11_addBytes_3 rfl ?_
        refine g_if_lt (tgt := 27) hC dX11_addBytes_4 (by decide) (fun c55 => ?_) (fun c55 => ?_)
        · exact absurd c55 (by decide)
        · refine g_aload_n hC dX11_addBytes_7 rfl ?_
          refine g_get hC fl_X11_14 (hW46.o 0 (by decide)) rfl dX11_addBytes_8 ?_
          refine g_iload_n hC dX11_addBytes_11 rfl ?_
          refine g_iload_n hC dX11_addBytes_12 rfl ?_
          refine g_iushr hC dX11_addBytes_13 ?_
          refine g_vi (fun x56 ex56 => ?_)
          refine g_sipush (v := 255) hC dX11_addBytes_14 rfl ?_
          refine g_iand hC dX11_addBytes_17 ?_
          refine g_vi (fun x57 ex57 => ?_)
          have z61 : gAc (sN S45 0) (sZ S45 0) = 0 := gAc0 (by rw [z52, z53]; exact (by omega))
          have z62 : gAs (gmo 0) (sN S45 0) (sZ S45 0) = 0 := gAs0 (by rw [z52, z53]; exact (by omega))
          refine g_callVv (As := [.int x57]) hC rfl (hW46.r 0 (by decide)).1 (c_Ints_add X.la d b F41 _ _ _ _ _ _ (hW46.r 0 (by decide)) x57) cl_X11_89 rfl rfl (Nat.le_of_ble_eq_true rfl) (gFit_add (Nat.le_of_ble_eq_true rfl) (Nat.le_of_ble_eq_true rfl) z61 z62 (Nat.le_of_ble_eq_true rfl) (Nat.le_of_ble_eq_true rfl)) dX11_addBytes_18 (fun F59 p60 => ?_)
          refine g_kn (k2 := 0) (n2 := 0) (by rw [z61]) (by rw [z62]) ?_
          obtain ⟨S63, hW64, k65, s66, a67, -⟩ := wt_add hW46 (by decide) p60
          have a67 := a67 (by rw [z52]; exact Nat.lt_of_lt_of_le (by omega) (w_mo 0))
          have hM68 : gSm S S63 [0] [] := hM50.tr s66 _ _ rfl rfl
          have hK69 : gKp Y F F59 := hK51.tr k65
          have z70 : sZ S63 0 = ((((z + 1) + 1) + 1) + 1) := by rw [a67.1, z52]
          have z71 : sN S63 0 = 16 := by rw [a67.2.1, gAn0 (by rw [z52, z53]; exact (by omega)), z53]
          clear z52 z53 hM50 hK51 s66 k65 hW46 a67 z61 z62 p60
          obtain ⟨x72, ex72⟩ : ∃ y : Int32, y = 0 + (-8) := ⟨_, rfl⟩
          refine g_iinc (v := x72) (lv' := [some (.ref (gO' Y 0)), some (.int x), some (.int x72)]) hC dX11_addBytes_21 rfl (by rw [ex72]; rfl) rfl rfl ?_
          have zx72 : x72 = (-8) := by rw [ex72]; decide
          subst zx72
          refine g_goto (tgt := 3) hC dX11_addBytes_24 (by decide) ?_
          refine g_iload_n hC dX11_addBytes_3 rfl ?_
          refine g_if_lt (tgt := 27) hC dX11_addBytes_4 (by decide) (fun c73 => ?_) (fun c73 => ?_)
          · exact g_vret hC ⟨S63, hW64, hK69, hM68, z70, z71⟩ (by first | exact Nat.le_of_ble_eq_true rfl | omega | (simp only [gR]; omega)) (by first | exact Nat.le_of_ble_eq_true rfl | omega | (simp only [gR]; omega)) dX11_addBytes_27
          · exact absurd (by decide) c73
set_option maxHeartbeats 4000000 in
set_option maxRecDepth 100000 in
theorem c_W_addBytesG (l : Launch) (d : gD) (b : Nat) (Y : gYt) (F : gM) (S : gSt) (hW : gWT d Y F S) (x : Int32) (hz : sZ S 0 = 16) (hn : sN S 0 = 16) : gMv l d b yX11_addBytes cX11_addBytes 3 3 1 32 F [.ref (gO' Y 0), .int x] (fun F' => ∃ S', gWT d Y F' S' ∧ gKp Y F F' ∧ gSm S S' [0] [] ∧ sZ S' 0 = 20 ∧ sN S' 0 = 32) := by
  refine gM_of2 rfl (nL := 3) (Nat.le_of_ble_eq_true rfl) ?_
  intro X hX hC; subst hX
  show gG X d b _ F 0 0 0 [some (.ref (gO' Y 0)), some (.int x), none] []
  have hM0 : gSm S S [0] [] := gSm.rf
  have hK0 : gKp Y F F := gKp.rf
  refine g_bipush (v := 24) hC dX11_addBytes_0 rfl ?_
  refine g_istore_n (lv' := [some (.ref (gO' Y 0)), some (.int x), some (.int 24)]) hC dX11_addBytes_2 (Nat.le_of_ble_eq_true rfl) rfl rfl ?_
  refine g_iload_n hC dX11_addBytes_3 rfl ?_
  refine g_if_lt (tgt := 27) hC dX11_addBytes_4 (by decide) (fun c1 => ?_) (fun c1 => ?_)
  · exact absurd c1 (by decide)
  · refine g_aload_n hC dX11_addBytes_7 rfl ?_
    refine g_get hC fl_X11_14 (hW.o 0 (by decide)) rfl dX11_addBytes_8 ?_
    refine g_iload_n hC dX11_addBytes_11 rfl ?_
    refine g_iload_n hC dX11_addBytes_12 rfl ?_
    refine g_iushr hC dX11_addBytes_13 ?_
    refine g_vi (fun x2 ex2 => ?_)
    refine g_sipush (v := 255) hC dX11_addBytes_14 rfl ?_
    refine g_iand hC dX11_addBytes_17 ?_
    refine g_vi (fun x3 ex3 => ?_)
    have hA1 : gAc (sN S 0) (sZ S 0) = 1 := by rw [hz, hn]; rfl
    have hA2 : gAs (gmo 0) (sN S 0) (sZ S 0) = 32 := by rw [hz, hn]; rfl
    have hA3 : gAn (gmo 0) (sN S 0) (sZ S 0) = 32 := by rw [hz, hn]; rfl
    refine g_callVv (As := [.int x3]) hC rfl (hW.r 0 (by decide)).1 (c_Ints_add X.la d b F _ _ _ _ _ _ (hW.r 0 (by decide)) x3) cl_X11_89 rfl rfl (Nat.le_of_ble_eq_true rfl) (gFit_of (Nat.le_of_ble_eq_true rfl) (Nat.le_of_ble_eq_true rfl) (by omega) (by omega)) dX11_addBytes_18 (fun F7 p8 => ?_)
    refine g_kn (k2 := 1) (n2 := 32) (by rw [hA1]) (by rw [hA2]) ?_
    obtain ⟨S9, hW10, k11, s12, a13, -⟩ := wt_add hW (by decide) p8
    have a13 := a13 (by rw [hz]; decide)
    have hN1 : sN S9 0 = 32 := a13.2.1.trans hA3
    have hZ1 : sZ S9 0 = 17 := by rw [a13.1, hz]
    have hM14 : gSm S S9 [0] [] := hM0.tr s12 _ _ rfl rfl
    have hK15 : gKp Y F F7 := hK0.tr k11
    obtain ⟨x16, ex16⟩ : ∃ y : Int32, y = 24 + (-8) := ⟨_, rfl⟩
    refine g_iinc (v := x16) (lv' := [some (.ref (gO' Y 0)), some (.int x), some (.int x16)]) hC dX11_addBytes_21 rfl (by rw [ex16]; rfl) rfl rfl ?_
    have zx16 : x16 = (16) := by rw [ex16]; decide
    subst zx16
    refine g_goto (tgt := 3) hC dX11_addBytes_24 (by decide) ?_
    refine g_iload_n hC dX11_addBytes_3 rfl ?_
    refine g_if_lt (tgt := 27) hC dX11_addBytes_4 (by decide) (fun c17 => ?_) (fun c17 => ?_)
    · exact absurd c17 (by decide)
    · refine g_aload_n hC dX11_addBytes_7 rfl ?_
      refine g_get hC fl_X11_14 (hW10.o 0 (by decide)) rfl dX11_addBytes_8 ?_
      refine g_iload_n hC dX11_addBytes_11 rfl ?_
      refine g_iload_n hC dX11_addBytes_12 rfl ?_
      refine g_iushr hC dX11_addBytes_13 ?_
      refine g_vi (fun x18 ex18 => ?_)
      refine g_sipush (v := 255) hC dX11_addBytes_14 rfl ?_
      refine g_iand hC dX11_addBytes_17 ?_
      refine g_vi (fun x19 ex19 => ?_)
      have z26 : gAc (sN S9 0) (sZ S9 0) = 0 := gAc0 (by rw [hZ1, hN1]; exact (by omega))
      have z27 : gAs (gmo 0) (sN S9 0) (sZ S9 0) = 0 := gAs0 (by rw [hZ1, hN1]; exact (by omega))
      refine g_callVv (As := [.int x19]) hC rfl (hW10.r 0 (by decide)).1 (c_Ints_add X.la d b F7 _ _ _ _ _ _ (hW10.r 0 (by decide)) x19) cl_X11_89 rfl rfl (Nat.le_of_ble_eq_true rfl) (gFit_add (Nat.le_of_ble_eq_true rfl) (Nat.le_of_ble_eq_true rfl) z26 z27 (Nat.le_of_ble_eq_true rfl) (Nat.le_of_ble_eq_true rfl)) dX11_addBytes_18 (fun F24 p25 => ?_)
      refine g_kn (k2 := 1) (n2 := 32) (by rw [z26]) (by rw [z27]) ?_
      obtain ⟨S28, hW29, k30, s31, a32, -⟩ := wt_add hW10 (by decide) p25
      have a32 := a32 (by rw [hZ1]; exact Nat.lt_of_lt_of_le (by omega) (w_mo 0))
      have hM33 : gSm S S28 [0] [] := hM14.tr s31 _ _ rfl rfl
      have hK34 : gKp Y F F24 := hK15.tr k30
      have z35 : sZ S28 0 = 18 := by rw [a32.1, hZ1]
      have z36 : sN S28 0 = 32 := by rw [a32.2.1, gAn0 (by rw [hZ1, hN1]; exact (by omega)), hN1]
      obtain ⟨x37, ex37⟩ : ∃ y : Int32, y = 16 + (-8) := ⟨_, rfl⟩
      refine g_iinc (v := x37) (lv' := [some (.ref (gO' Y 0)), some (.int x), some (.int x37)]) hC dX11_addBytes_21 rfl (by rw [ex37]; rfl) rfl rfl ?_
      have zx37 : x37 = (8) := by rw [ex37]; decide
      subst zx37
      refine g_goto (tgt := 3) hC dX11_addBytes_24 (by decide) ?_
      refine g_iload_n hC dX11_addBytes_3 rfl ?_
      refine g_if_lt (tgt := 27) hC dX11_addBytes_4 (by decide) (fun c38 => ?_) (fun c38 => ?_)
      · exact absurd c38 (by decide)
      · refine g_aload_n hC dX11_addBytes_7 rfl ?_
        refine g_get hC fl_X11_14 (hW29.o 0 (by decide)) rfl dX11_addBytes_8 ?_
        refine g_iload_n hC dX11_addBytes_11 rfl ?_
        refine g_iload_n hC dX11_addBytes_12 rfl ?_
        refine g_iushr hC dX11_addBytes_13 ?_
        refine g_vi (fun x39 ex39 => ?_)
        refine g_sipush (v := 255) hC dX11_addBytes_14 rfl ?_
        refine g_iand hC dX11_addBytes_17 ?_
        refine g_vi (fun x40 ex40 => ?_)
        have z47 : gAc (sN S28 0) (sZ S28 0) = 0 := gAc0 (by rw [z35, z36]; exact (by omega))
        have z48 : gAs (gmo 0) (sN S28 0) (sZ S28 0) = 0 := gAs0 (by rw [z35, z36]; exact (by omega))
        refine g_callVv (As := [.int x40]) hC rfl (hW29.r 0 (by decide)).1 (c_Ints_add X.la d b F24 _ _ _ _ _ _ (hW29.r 0 (by decide)) x40) cl_X11_89 rfl rfl (Nat.le_of_ble_eq_true rfl) (gFit_add (Nat.le_of_ble_eq_true rfl) (Nat.le_of_ble_eq_true rfl) z47 z48 (Nat.le_of_ble_eq_true rfl) (Nat.le_of_ble_eq_true rfl)) dX11_addBytes_18 (fun F45 p46 => ?_)
        refine g_kn (k2 := 1) (n2 := 32) (by rw [z47]) (by rw [z48]) ?_
        obtain ⟨S49, hW50, k51, s52, a53, -⟩ := wt_add hW29 (by decide) p46
        have a53 := a53 (by rw [z35]; exact Nat.lt_of_lt_of_le (by omega) (w_mo 0))
        have hM54 : gSm S S49 [0] [] := hM33.tr s52 _ _ rfl rfl
        have hK55 : gKp Y F F45 := hK34.tr k51
        have z56 : sZ S49 0 = 19 := by rw [a53.1, z35]
        have z57 : sN S49 0 = 32 := by rw [a53.2.1, gAn0 (by rw [z35, z36]; exact (by omega)), z36]
        obtain ⟨x58, ex58⟩ : ∃ y : Int32, y = 8 + (-8) := ⟨_, rfl⟩
        refine g_iinc (v := x58) (lv' := [some (.ref (gO' Y 0)), some (.int x), some (.int x58)]) hC dX11_addBytes_21 rfl (by rw [ex58]; rfl) rfl rfl ?_
        have zx58 : x58 = (0) := by rw [ex58]; decide
        subst zx58
        refine g_goto (tgt := 3) hC dX11_addBytes_24 (by decide) ?_
        refine g_iload_n hC dX11_addBytes_3 rfl ?_
        refine g_if_lt (tgt := 27) hC dX11_addBytes_4 (by decide) (fun c59 => ?_) (fun c59 => ?_)
        · exact absurd c59 (by decide)
        · refine g_aload_n hC dX11_addBytes_7 rfl ?_
          refine g_get hC fl_X11_14 (hW50.o 0 (by decide)) rfl dX11_addBytes_8 ?_
          refine g_iload_n hC dX11_addBytes_11 rfl ?_
          refine g_iload_n hC dX11_addBytes_12 rfl ?_
          refine g_iushr hC dX11_addBytes_13 ?_
          refine g_vi (fun x60 ex60 => ?_)
          refine g_sipush (v := 255) hC dX11_addBytes_14 rfl ?_
          refine g_iand hC dX11_addBytes_17 ?_
          refine g_vi (fun x61 ex61 => ?_)
          have z68 : gAc (sN S49 0) (sZ S49 0) = 0 := gAc0 (by rw [z56, z57]; exact (by omega))
          have z69 : gAs (gmo 0) (sN S49 0) (sZ S49 0) = 0 := gAs0 (by rw [z56, z57]; exact (by omega))
          refine g_callVv (As := [.int x61]) hC rfl (hW50.r 0 (by decide)).1 (c_Ints_add X.la d b F45 _ _ _ _ _ _ (hW50.r 0 (by decide)) x61) cl_X11_89 rfl rfl (Nat.le_of_ble_eq_true rfl) (gFit_add (Nat.le_of_ble_eq_true rfl) (Nat.le_of_ble_eq_true rfl) z68 z69 (Nat.le_of_ble_eq_true rfl) (Nat.le_of_ble_eq_true rfl)) dX11_addBytes_18 (fun F66 p67 => ?_)
          refine g_kn (k2 := 1) (n2 := 32) (by rw [z68]) (by rw [z69]) ?_
          obtain ⟨S70, hW71, k72, s73, a74, -⟩ := wt_add hW50 (by decide) p67
          have a74 := a74 (by rw [z56]; exact Nat.lt_of_lt_of_le (by omega) (w_mo 0))
          have hM75 : gSm S S70 [0] [] := hM54.tr s73 _ _ rfl rfl
          have hK76 : gKp Y F F66 := hK55.tr k72
          have z77 : sZ S70 0 = 20 := by rw [a74.1, z56]
          have z78 : sN S70 0 = 32 := by rw [a74.2.1, gAn0 (by rw [z56, z57]; exact (by omega)), z57]
          obtain ⟨x79, ex79⟩ : ∃ y : Int32, y = 0 + (-8) := ⟨_, rfl⟩
          refine g_iinc (v := x79) (lv' := [some (.ref (gO' Y 0)), some (.int x), some (.int x79)]) hC dX11_addBytes_21 rfl (by rw [ex79]; rfl) rfl rfl ?_
          have zx79 : x79 = (-8) := by rw [ex79]; decide
          subst zx79
          refine g_goto (tgt := 3) hC dX11_addBytes_24 (by decide) ?_
          refine g_iload_n hC dX11_addBytes_3 rfl ?_
          refine g_if_lt (tgt := 27) hC dX11_addBytes_4 (by decide) (fun c80 => ?_) (fun c80 => ?_)
          · exact g_vret hC ⟨S70, hW71, hK76, hM75, z77, z78⟩ (by first | exact Nat.le_of_ble_eq_true rfl | omega | (simp only [gR]; omega)) (by first | exact Nat.le_of_ble_eq_true rfl | omega | (simp only [gR]; omega)) dX11_addBytes_27
          · exact absurd (by decide) c80
theorem dX11_feed_0 : decode cX11_feed 0 = .ok (.aload_n 0, 1) := by decide +kernel
theorem dX11_feed_1 : decode cX11_feed 1 = .ok (.getfield 14, 3) := by decide +kernel
theorem dX11_feed_4 : decode cX11_feed 4 = .ok (.invokevirtual 82, 3) := by decide +kernel
theorem dX11_feed_7 : decode cX11_feed 7 = .ok (.bipush 20, 2) := by decide +kernel
theorem dX11_feed_9 : decode cX11_feed 9 = .ok (.iadd, 1) := by decide +kernel
theorem dX11_feed_10 : decode cX11_feed 10 = .ok (.sipush 6000, 3) := by decide +kernel
theorem dX11_feed_13 : decode cX11_feed 13 = .ok (.if_icmp .le 5, 3) := by decide +kernel
theorem dX11_feed_16 : decode cX11_feed 16 = .ok (.iconst 0, 1) := by decide +kernel
theorem dX11_feed_17 : decode cX11_feed 17 = .ok (.ireturn, 1) := by decide +kernel
theorem dX11_feed_18 : decode cX11_feed 18 = .ok (.aload_n 0, 1) := by decide +kernel
theorem dX11_feed_19 : decode cX11_feed 19 = .ok (.iload_n 1, 1) := by decide +kernel
theorem dX11_feed_20 : decode cX11_feed 20 = .ok (.invokevirtual 86, 3) := by decide +kernel
theorem dX11_feed_23 : decode cX11_feed 23 = .ok (.aload_n 0, 1) := by decide +kernel
theorem dX11_feed_24 : decode cX11_feed 24 = .ok (.iload_n 2, 1) := by decide +kernel
theorem dX11_feed_25 : decode cX11_feed 25 = .ok (.invokevirtual 86, 3) := by decide +kernel
theorem dX11_feed_28 : decode cX11_feed 28 = .ok (.aload_n 0, 1) := by decide +kernel
theorem dX11_feed_29 : decode cX11_feed 29 = .ok (.iload_n 3, 1) := by decide +kernel
theorem dX11_feed_30 : decode cX11_feed 30 = .ok (.invokevirtual 86, 3) := by decide +kernel
theorem dX11_feed_33 : decode cX11_feed 33 = .ok (.aload_n 0, 1) := by decide +kernel
theorem dX11_feed_34 : decode cX11_feed 34 = .ok (.iload 4, 2) := by decide +kernel
theorem dX11_feed_36 : decode cX11_feed 36 = .ok (.invokevirtual 86, 3) := by decide +kernel
theorem dX11_feed_39 : decode cX11_feed 39 = .ok (.aload_n 0, 1) := by decide +kernel
theorem dX11_feed_40 : decode cX11_feed 40 = .ok (.iload 5, 2) := by decide +kernel
theorem dX11_feed_42 : decode cX11_feed 42 = .ok (.invokevirtual 86, 3) := by decide +kernel
theorem dX11_feed_45 : decode cX11_feed 45 = .ok (.iconst 1, 1) := by decide +kernel
theorem dX11_feed_46 : decode cX11_feed 46 = .ok (.ireturn, 1) := by decide +kernel
set_option maxHeartbeats 4000000 in
set_option maxRecDepth 100000 in
theorem c_W_feed0 (l : Launch) (d : gD) (b : Nat) (Y : gYt) (F : gM) (S : gSt) (hW : gWT d Y F S) (hz0 : sZ S 0 = 0) (hn0 : sN S 0 = 16) (i1 i2 i3 i4 i5 : Int32) : gMi l d b yX11_feed cX11_feed 6 .boolean 4 1 32 F [.ref (gO' Y 0), .int i1, .int i2, .int i3, .int i4, .int i5] (fun r F' => r = 1 ∧ ∃ S', gWT d Y F' S' ∧ gKp Y F F' ∧ gSm S S' [0] []) := by
  refine gM_of2 rfl (nL := 6) (Nat.le_of_ble_eq_true rfl) ?_
  intro X hX hC; subst hX
  show gG X d b _ F 0 0 0 [some (.ref (gO' Y 0)), some (.int i1), some (.int i2), some (.int i3), some (.int i4), some (.int i5)] []
  have hM0 : gSm S S [0] [] := gSm.rf
  have hK0 : gKp Y F F := gKp.rf
  refine g_aload_n hC dX11_feed_0 rfl ?_
  refine g_get hC fl_X11_14 (hW.o 0 (by decide)) rfl dX11_feed_1 ?_
  refine g_callVi (As := []) hC rfl (hW.r 0 (by decide)).1 (c_Ints_size X.la d b F _ _ _ _ _ _ (hW.r 0 (by decide))) cl_X11_82 rfl rfl (Nat.le_of_ble_eq_true rfl) (gFit_of (Nat.le_of_ble_eq_true rfl) (Nat.le_of_ble_eq_true rfl) (by first | exact Nat.le_of_ble_eq_true rfl | omega | (simp only [gR]; omega)) (by first | exact Nat.le_of_ble_eq_true rfl | omega | (simp only [gR]; omega))) dX11_feed_4 (fun r1 F2 p3 => ?_)
  obtain ⟨rfl, eF2⟩ := p3; have eF2 := eF2.symm; subst eF2
  refine g_bipush (v := 20) hC dX11_feed_7 rfl ?_
  refine g_iadd hC dX11_feed_9 ?_
  refine g_vi (fun x4 ex4 => ?_)
  refine g_sipush (v := 6000) hC dX11_feed_10 rfl ?_
  refine g_icmp_le (tgt := 18) hC dX11_feed_13 (by decide) (fun c5 => ?_) (fun c5 => ?_)
  · refine g_aload_n hC dX11_feed_18 rfl ?_
    refine g_iload_n hC dX11_feed_19 rfl ?_
    refine g_callVv (As := [.int i1]) hC rfl (hW.o 0 (by decide)) (c_W_addBytes X.la d b Y F S hW i1 0 hz0 hn0 (by decide)) cl_X11_86 rfl rfl (Nat.le_of_ble_eq_true rfl) (gFit_of (Nat.le_of_ble_eq_true rfl) (Nat.le_of_ble_eq_true rfl) (by first | exact Nat.le_of_ble_eq_true rfl | omega | (simp only [gR]; omega)) (by first | exact Nat.le_of_ble_eq_true rfl | omega | (simp only [gR]; omega))) dX11_feed_20 (fun F6 p7 => ?_)
    obtain ⟨S9, hW10, k11, s12, y13, y14⟩ := p7
    have hM15 : gSm S S9 [0] [] := hM0.tr s12 _ _ rfl rfl
    have hK16 : gKp Y F F6 := hK0.tr k11
    have z17 : sZ S9 0 = 4 := y13.trans (by decide)
    clear hz0 hn0 hM0 hK0 s12 k11 hW
    refine g_aload_n hC dX11_feed_23 rfl ?_
    refine g_iload_n hC dX11_feed_24 rfl ?_
    refine g_callVv (As := [.int i2]) hC rfl (hW10.o 0 (by decide)) (c_W_addBytes X.la d b Y F6 S9 hW10 i2 4 z17 y14 (by decide)) cl_X11_86 rfl rfl (Nat.le_of_ble_eq_true rfl) (gFit_of (Nat.le_of_ble_eq_true rfl) (Nat.le_of_ble_eq_true rfl) (by first | exact Nat.le_of_ble_eq_true rfl | omega | (simp only [gR]; omega)) (by first | exact Nat.le_of_ble_eq_true rfl | omega | (simp only [gR]; omega))) dX11_feed_25 (fun F18 p19 => ?_)
    obtain ⟨S21, hW22, k23, s24, y25, y26⟩ := p19
    have hM27 : gSm S S21 [0] [] := hM15.tr s24 _ _ rfl rfl
    have hK28 : gKp Y F F18 := hK16.tr k23
    have z29 : sZ S21 0 = 8 := y25.trans (by decide)
    clear z17 y14 hM15 hK16 s24 k23 hW10
    refine g_aload_n hC dX11_feed_28 rfl ?_
    refine g_iload_n hC dX11_feed_29 rfl ?_
    refine g_callVv (As := [.int i3]) hC rfl (hW22.o 0 (by decide)) (c_W_addBytes X.la d b Y F18 S21 hW22 i3 8 z29 y26 (by decide)) cl_X11_86 rfl rfl (Nat.le_of_ble_eq_true rfl) (gFit_of (Nat.le_of_ble_eq_true rfl) (Nat.le_of_ble_eq_true rfl) (by first | exact Nat.le_of_ble_eq_true rfl | omega | (simp only [gR]; omega)) (by first | exact Nat.le_of_ble_eq_true rfl | omega | (simp only [gR]; omega))) dX11_feed_30 (fun F30 p31 => ?_)
    obtain ⟨S33, hW34, k35, s36, y37, y38⟩ := p31
    have hM39 : gSm S S33 [0] [] := hM27.tr s36 _ _ rfl rfl
    have hK40 : gKp Y F F30 := hK28.tr k35
    have z41 : sZ S33 0 = 12 := y37.trans (by decide)
    clear z29 y26 hM27 hK28 s36 k35 hW22
    refine g_aload_n hC dX11_feed_33 rfl ?_
    refine g_iload hC dX11_feed_34 rfl ?_
    refine g_callVv (As := [.int i4]) hC rfl (hW34.o 0 (by decide)) (c_W_addBytes X.la d b Y F30 S33 hW34 i4 12 z41 y38 (by decide)) cl_X11_86 rfl rfl (Nat.le_of_ble_eq_true rfl) (gFit_of (Nat.le_of_ble_eq_true rfl) (Nat.le_of_ble_eq_true rfl) (by first | exact Nat.le_of_ble_eq_true rfl | omega | (simp only [gR]; omega)) (by first | exact Nat.le_of_ble_eq_true rfl | omega | (simp only [gR]; omega))) dX11_feed_36 (fun F42 p43 => ?_)
    obtain ⟨S45, hW46, k47, s48, y49, y50⟩ := p43
    have hM51 : gSm S S45 [0] [] := hM39.tr s48 _ _ rfl rfl
    have hK52 : gKp Y F F42 := hK40.tr k47
    have z53 : sZ S45 0 = 16 := y49.trans (by decide)
    clear z41 y38 hM39 hK40 s48 k47 hW34
    refine g_aload_n hC dX11_feed_39 rfl ?_
    refine g_iload hC dX11_feed_40 rfl ?_
    refine g_callVv (As := [.int i5]) hC rfl (hW46.o 0 (by decide)) (c_W_addBytesG X.la d b Y F42 S45 hW46 i5 z53 y50) cl_X11_86 rfl rfl (Nat.le_of_ble_eq_true rfl) (gFit_of (Nat.le_of_ble_eq_true rfl) (Nat.le_of_ble_eq_true rfl) (by first | exact Nat.le_of_ble_eq_true rfl | omega | (simp only [gR]; omega)) (by first | exact Nat.le_of_ble_eq_true rfl | omega | (simp only [gR]; omega))) dX11_feed_42 (fun F54 p55 => ?_)
    obtain ⟨S57, hW58, k59, s60, y61, y62⟩ := p55
    have hM63 : gSm S S57 [0] [] := hM51.tr s60 _ _ rfl rfl
    have hK64 : gKp Y F F54 := hK52.tr k59
    have z65 : sZ S57 0 = 20 := y61.trans (by decide)
    clear z53 y50 hM51 hK52 s60 k59 hW46
    refine g_iconst (v := 1) hC dX11_feed_45 rfl ?_
    exact g_iret hC rfl ⟨rfl, S57, hW58, hK64, hM63⟩ (by first | exact Nat.le_of_ble_eq_true rfl | omega | (simp only [gR]; omega)) (by first | exact Nat.le_of_ble_eq_true rfl | omega | (simp only [gR]; omega)) dX11_feed_46
  · rw [hz0] at ex4; subst ex4
    exact absurd (by decide) c5
