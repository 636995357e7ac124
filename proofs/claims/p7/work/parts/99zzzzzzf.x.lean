theorem kw_269 : Cond.methodLink RX11 1 objectInit ∈ gWs := List.mem_filter.mpr ⟨gMt1 _ (List.mem_of_getElem? (i := 32) rfl), rfl⟩
theorem kw_272 : Cond.classLink RX11 7 RX4 ∈ gWs := List.mem_filter.mpr ⟨gMt1 _ (List.mem_of_getElem? (i := 35) rfl), rfl⟩
theorem nl_X11_7 : gNL RX11 7 4 3 [.int 0, .null, .int 0] := ⟨RX4, TX4, tyX4, rfl, inW_RX4, tyX4_ok, kw_272, kw_273, kw_239, by decide +kernel⟩
theorem kw_274 : Cond.methodLink RX11 11 yX4_init ∈ gWs := List.mem_filter.mpr ⟨gMt1 _ (List.mem_of_getElem? (i := 37) rfl), rfl⟩
theorem cl_X11_11 : gCI RX11 11 yX4_init cX4_init 2 1 := ⟨gWs_all kw_276, kw_239, kw_274, kw_275, rfl, ⟨by decide +kernel, by decide +kernel, by decide +kernel⟩⟩
theorem kw_289 : Cond.classLink RX11 18 RX7 ∈ gWs := List.mem_filter.mpr ⟨gMt1 _ (List.mem_of_getElem? (i := 52) rfl), rfl⟩
theorem nl_X11_18 : gNL RX11 18 7 11 [.null, .null, .null, .null, .null, .null, .int 0, .int 0, .int 0, .int 0, .int 0] := ⟨RX7, TX7, tyX7, rfl, inW_RX7, tyX7_ok, kw_289, kw_290, kw_240, by decide +kernel⟩
theorem kw_293 : Cond.code yX7_init cX7_init 1 none ∈ gWs := List.mem_filter.mpr ⟨gMt1 _ (List.mem_of_getElem? (i := 56) rfl), rfl⟩
theorem kw_292 : Cond.instanceMethod yX7_init ∈ gWs := List.mem_filter.mpr ⟨gMt1 _ (List.mem_of_getElem? (i := 55) rfl), rfl⟩
theorem cl_X11_20 : gCIN RX11 20 0 yX7_init cX7_init 1 0 := ⟨_, rfl, gWs_all kw_293, kw_240, kw_292, rfl, ⟨by decide +kernel, by decide +kernel, by decide +kernel⟩⟩
theorem kw_332 : Cond.classLink RX11 25 RX10 ∈ gWs := List.mem_filter.mpr ⟨gMt1 _ (List.mem_of_getElem? (i := 95) rfl), rfl⟩
theorem nl_X11_25 : gNL RX11 25 10 7 [.null, .null, .null, .null, .null, .null, .null] := ⟨RX10, TX10, tyX10, rfl, inW_RX10, tyX10_ok, kw_332, kw_333, kw_241, by decide +kernel⟩
theorem kw_336 : Cond.code yX10_init cX10_init 1 none ∈ gWs := List.mem_filter.mpr ⟨gMt1 _ (List.mem_of_getElem? (i := 99) rfl), rfl⟩
theorem kw_335 : Cond.instanceMethod yX10_init ∈ gWs := List.mem_filter.mpr ⟨gMt1 _ (List.mem_of_getElem? (i := 98) rfl), rfl⟩
theorem cl_X11_27 : gCIN RX11 27 1 yX10_init cX10_init 1 0 := ⟨_, rfl, gWs_all kw_336, kw_241, kw_335, rfl, ⟨by decide +kernel, by decide +kernel, by decide +kernel⟩⟩
theorem kw_801 : Cond.fieldLink RX11 28 "WordTongue" "tree" "LWordTongue$Tree;" ∈ gWs := List.mem_filter.mpr ⟨gMt3 _ (List.mem_of_getElem? (i := 84) rfl), rfl⟩
theorem fl_X11_28 : gFL RX11 28 11 2 (.object "WordTongue$Tree") true := ⟨RX11, TX11, 10, tyX11, rfl, by decide, inW_RX11, kw_801, tyX11_ok, nmX11, rfl, by decide +kernel, fun _ => rfl⟩
theorem kw_363 : Cond.classLink RX11 32 RX8 ∈ gWs := List.mem_filter.mpr ⟨gMt1 _ (List.mem_of_getElem? (i := 126) rfl), rfl⟩
theorem nl_X11_32 : gNL RX11 32 8 11 [.null, .null, .null, .null, .null, .null, .null, .null, .int 0, .int 0, .int 0] := ⟨RX8, TX8, tyX8, rfl, inW_RX8, tyX8_ok, kw_363, kw_364, kw_242, by decide +kernel⟩
theorem kw_367 : Cond.code yX8_init cX8_init 2 none ∈ gWs := List.mem_filter.mpr ⟨gMt1 _ (List.mem_of_getElem? (i := 130) rfl), rfl⟩
theorem kw_365 : Cond.methodLink RX11 34 yX8_init ∈ gWs := List.mem_filter.mpr ⟨gMt1 _ (List.mem_of_getElem? (i := 128) rfl), rfl⟩
theorem kw_366 : Cond.instanceMethod yX8_init ∈ gWs := List.mem_filter.mpr ⟨gMt1 _ (List.mem_of_getElem? (i := 129) rfl), rfl⟩
theorem cl_X11_34 : gCI RX11 34 yX8_init cX8_init 2 1 := ⟨gWs_all kw_367, kw_242, kw_365, kw_366, rfl, ⟨by decide +kernel, by decide +kernel, by decide +kernel⟩⟩
theorem kw_507 : Cond.classLink RX11 41 RX6 ∈ gWs := List.mem_filter.mpr ⟨gMt2 _ (List.mem_of_getElem? (i := 30) rfl), rfl⟩
theorem nl_X11_41 : gNL RX11 41 6 12 [.null, .null, .null, .null, .null, .null, .null, .null, .null, .int 0, .int 0, .int 0] := ⟨RX6, TX6, tyX6, rfl, inW_RX6, tyX6_ok, kw_507, kw_508, kw_250, by decide +kernel⟩
theorem kw_511 : Cond.code yX6_init cX6_init 4 none ∈ gWs := List.mem_filter.mpr ⟨gMt2 _ (List.mem_of_getElem? (i := 34) rfl), rfl⟩
theorem kw_509 : Cond.methodLink RX11 43 yX6_init ∈ gWs := List.mem_filter.mpr ⟨gMt2 _ (List.mem_of_getElem? (i := 32) rfl), rfl⟩
theorem kw_510 : Cond.instanceMethod yX6_init ∈ gWs := List.mem_filter.mpr ⟨gMt2 _ (List.mem_of_getElem? (i := 33) rfl), rfl⟩
theorem cl_X11_43 : gCI RX11 43 yX6_init cX6_init 4 3 := ⟨gWs_all kw_511, kw_250, kw_509, kw_510, rfl, ⟨by decide +kernel, by decide +kernel, by decide +kernel⟩⟩
theorem kw_569 : Cond.classLink RX11 50 RX1 ∈ gWs := List.mem_filter.mpr ⟨gMt2 _ (List.mem_of_getElem? (i := 92) rfl), rfl⟩
theorem nl_X11_50 : gNL RX11 50 1 19 [.null, .null, .null, .null, .null, .null, .null, .int 0, .int 0, .int 0, .int 0, .int 0, .int 0, .int 0, .int 0, .int 0, .int 0, .int 0, .int 0] := ⟨RX1, TX1, tyX1, rfl, inW_RX1, tyX1_ok, kw_569, kw_570, kw_251, by decide +kernel⟩
theorem kw_573 : Cond.code yX1_init cX1_init 3 none ∈ gWs := List.mem_filter.mpr ⟨gMt2 _ (List.mem_of_getElem? (i := 96) rfl), rfl⟩
theorem kw_571 : Cond.methodLink RX11 52 yX1_init ∈ gWs := List.mem_filter.mpr ⟨gMt2 _ (List.mem_of_getElem? (i := 94) rfl), rfl⟩
theorem kw_572 : Cond.instanceMethod yX1_init ∈ gWs := List.mem_filter.mpr ⟨gMt2 _ (List.mem_of_getElem? (i := 95) rfl), rfl⟩
theorem cl_X11_52 : gCI RX11 52 yX1_init cX1_init 3 2 := ⟨gWs_all kw_573, kw_251, kw_571, kw_572, rfl, ⟨by decide +kernel, by decide +kernel, by decide +kernel⟩⟩
theorem kw_701 : Cond.classLink RX11 59 RX0 ∈ gWs := List.mem_filter.mpr ⟨gMt2 _ (List.mem_of_getElem? (i := 224) rfl), rfl⟩
theorem nl_X11_59 : gNL RX11 59 0 5 [.null, .null, .null, .int 0, .int 0] := ⟨RX0, TX0, tyX0, rfl, inW_RX0, tyX0_ok, kw_701, kw_702, kw_254, by decide +kernel⟩
theorem kw_705 : Cond.code yX0_init cX0_init 1 none ∈ gWs := List.mem_filter.mpr ⟨gMt2 _ (List.mem_of_getElem? (i := 228) rfl), rfl⟩
theorem kw_704 : Cond.instanceMethod yX0_init ∈ gWs := List.mem_filter.mpr ⟨gMt2 _ (List.mem_of_getElem? (i := 227) rfl), rfl⟩
theorem cl_X11_61 : gCIN RX11 61 2 yX0_init cX0_init 1 0 := ⟨_, rfl, gWs_all kw_705, kw_254, kw_704, rfl, ⟨by decide +kernel, by decide +kernel, by decide +kernel⟩⟩
theorem kw_726 : Cond.classLink RX11 66 RX5 ∈ gWs := List.mem_filter.mpr ⟨gMt3 _ (List.mem_of_getElem? (i := 9) rfl), rfl⟩
theorem nl_X11_66 : gNL RX11 66 5 16 [.null, .null, .null, .null, .null, .null, .int 0, .int 0, .int 0, .int 0, .int 0, .int 0, .int 0, .int 0, .int 0, .int 0] := ⟨RX5, TX5, tyX5, rfl, inW_RX5, tyX5_ok, kw_726, kw_727, kw_255, by decide +kernel⟩
theorem kw_730 : Cond.code yX5_init cX5_init 3 none ∈ gWs := List.mem_filter.mpr ⟨gMt3 _ (List.mem_of_getElem? (i := 13) rfl), rfl⟩
theorem kw_728 : Cond.methodLink RX11 68 yX5_init ∈ gWs := List.mem_filter.mpr ⟨gMt3 _ (List.mem_of_getElem? (i := 11) rfl), rfl⟩
theorem kw_729 : Cond.instanceMethod yX5_init ∈ gWs := List.mem_filter.mpr ⟨gMt3 _ (List.mem_of_getElem? (i := 12) rfl), rfl⟩
theorem cl_X11_68 : gCI RX11 68 yX5_init cX5_init 3 2 := ⟨gWs_all kw_730, kw_255, kw_728, kw_729, rfl, ⟨by decide +kernel, by decide +kernel, by decide +kernel⟩⟩
theorem dX11_init_0 : decode cX11_init 0 = .ok (.aload_n 0, 1) := by decide +kernel
theorem dX11_init_1 : decode cX11_init 1 = .ok (.invokespecial 1, 3) := by decide +kernel
theorem dX11_init_4 : decode cX11_init 4 = .ok (.aload_n 0, 1) := by decide +kernel
theorem dX11_init_5 : decode cX11_init 5 = .ok (.new 7, 3) := by decide +kernel
theorem dX11_init_8 : decode cX11_init 8 = .ok (.dup, 1) := by decide +kernel
theorem dX11_init_9 : decode cX11_init 9 = .ok (.sipush 6000, 3) := by decide +kernel
theorem dX11_init_12 : decode cX11_init 12 = .ok (.invokespecial 11, 3) := by decide +kernel
theorem dX11_init_15 : decode cX11_init 15 = .ok (.putfield 14, 3) := by decide +kernel
theorem dX11_init_18 : decode cX11_init 18 = .ok (.aload_n 0, 1) := by decide +kernel
theorem dX11_init_19 : decode cX11_init 19 = .ok (.new 18, 3) := by decide +kernel
theorem dX11_init_22 : decode cX11_init 22 = .ok (.dup, 1) := by decide +kernel
theorem dX11_init_23 : decode cX11_init 23 = .ok (.invokespecial 20, 3) := by decide +kernel
theorem dX11_init_26 : decode cX11_init 26 = .ok (.putfield 21, 3) := by decide +kernel
theorem dX11_init_29 : decode cX11_init 29 = .ok (.aload_n 0, 1) := by decide +kernel
theorem dX11_init_30 : decode cX11_init 30 = .ok (.new 25, 3) := by decide +kernel
theorem dX11_init_33 : decode cX11_init 33 = .ok (.dup, 1) := by decide +kernel
theorem dX11_init_34 : decode cX11_init 34 = .ok (.invokespecial 27, 3) := by decide +kernel
theorem dX11_init_37 : decode cX11_init 37 = .ok (.putfield 28, 3) := by decide +kernel
theorem dX11_init_40 : decode cX11_init 40 = .ok (.aload_n 0, 1) := by decide +kernel
theorem dX11_init_41 : decode cX11_init 41 = .ok (.new 32, 3) := by decide +kernel
theorem dX11_init_44 : decode cX11_init 44 = .ok (.dup, 1) := by decide +kernel
theorem dX11_init_45 : decode cX11_init 45 = .ok (.aload_n 0, 1) := by decide +kernel
theorem dX11_init_46 : decode cX11_init 46 = .ok (.getfield 14, 3) := by decide +kernel
theorem dX11_init_49 : decode cX11_init 49 = .ok (.invokespecial 34, 3) := by decide +kernel
theorem dX11_init_52 : decode cX11_init 52 = .ok (.putfield 37, 3) := by decide +kernel
theorem dX11_init_55 : decode cX11_init 55 = .ok (.aload_n 0, 1) := by decide +kernel
theorem dX11_init_56 : decode cX11_init 56 = .ok (.new 41, 3) := by decide +kernel
theorem dX11_init_59 : decode cX11_init 59 = .ok (.dup, 1) := by decide +kernel
theorem dX11_init_60 : decode cX11_init 60 = .ok (.aload_n 0, 1) := by decide +kernel
theorem dX11_init_61 : decode cX11_init 61 = .ok (.getfield 37, 3) := by decide +kernel
theorem dX11_init_64 : decode cX11_init 64 = .ok (.aload_n 0, 1) := by decide +kernel
theorem dX11_init_65 : decode cX11_init 65 = .ok (.getfield 28, 3) := by decide +kernel
theorem dX11_init_68 : decode cX11_init 68 = .ok (.aload_n 0, 1) := by decide +kernel
theorem dX11_init_69 : decode cX11_init 69 = .ok (.getfield 21, 3) := by decide +kernel
theorem dX11_init_72 : decode cX11_init 72 = .ok (.invokespecial 43, 3) := by decide +kernel
theorem dX11_init_75 : decode cX11_init 75 = .ok (.putfield 46, 3) := by decide +kernel
theorem dX11_init_78 : decode cX11_init 78 = .ok (.aload_n 0, 1) := by decide +kernel
theorem dX11_init_79 : decode cX11_init 79 = .ok (.new 50, 3) := by decide +kernel
theorem dX11_init_82 : decode cX11_init 82 = .ok (.dup, 1) := by decide +kernel
theorem dX11_init_83 : decode cX11_init 83 = .ok (.aload_n 0, 1) := by decide +kernel
theorem dX11_init_84 : decode cX11_init 84 = .ok (.getfield 28, 3) := by decide +kernel
theorem dX11_init_87 : decode cX11_init 87 = .ok (.aload_n 0, 1) := by decide +kernel
theorem dX11_init_88 : decode cX11_init 88 = .ok (.getfield 21, 3) := by decide +kernel
theorem dX11_init_91 : decode cX11_init 91 = .ok (.invokespecial 52, 3) := by decide +kernel
theorem dX11_init_94 : decode cX11_init 94 = .ok (.putfield 55, 3) := by decide +kernel
theorem dX11_init_97 : decode cX11_init 97 = .ok (.aload_n 0, 1) := by decide +kernel
theorem dX11_init_98 : decode cX11_init 98 = .ok (.new 59, 3) := by decide +kernel
theorem dX11_init_101 : decode cX11_init 101 = .ok (.dup, 1) := by decide +kernel
theorem dX11_init_102 : decode cX11_init 102 = .ok (.invokespecial 61, 3) := by decide +kernel
theorem dX11_init_105 : decode cX11_init 105 = .ok (.putfield 62, 3) := by decide +kernel
theorem dX11_init_108 : decode cX11_init 108 = .ok (.aload_n 0, 1) := by decide +kernel
theorem dX11_init_109 : decode cX11_init 109 = .ok (.new 66, 3) := by decide +kernel
theorem dX11_init_112 : decode cX11_init 112 = .ok (.dup, 1) := by decide +kernel
theorem dX11_init_113 : decode cX11_init 113 = .ok (.aload_n 0, 1) := by decide +kernel
theorem dX11_init_114 : decode cX11_init 114 = .ok (.getfield 21, 3) := by decide +kernel
theorem dX11_init_117 : decode cX11_init 117 = .ok (.aload_n 0, 1) := by decide +kernel
theorem dX11_init_118 : decode cX11_init 118 = .ok (.getfield 62, 3) := by decide +kernel
theorem dX11_init_121 : decode cX11_init 121 = .ok (.invokespecial 68, 3) := by decide +kernel
theorem dX11_init_124 : decode cX11_init 124 = .ok (.putfield 71, 3) := by decide +kernel
theorem dX11_init_127 : decode cX11_init 127 = .ok (.aload_n 0, 1) := by decide +kernel
theorem dX11_init_128 : decode cX11_init 128 = .ok (.sipush 4096, 3) := by decide +kernel
theorem dX11_init_131 : decode cX11_init 131 = .ok (.putfield 75, 3) := by decide +kernel
theorem dX11_init_134 : decode cX11_init 134 = .ok (.aload_n 0, 1) := by decide +kernel
theorem dX11_init_135 : decode cX11_init 135 = .ok (.sipush 4096, 3) := by decide +kernel
theorem dX11_init_138 : decode cX11_init 138 = .ok (.putfield 79, 3) := by decide +kernel
theorem dX11_init_141 : decode cX11_init 141 = .ok (.return_, 1) := by decide +kernel
theorem gkc {F F1 F2 : gM} {t : Nat} (h1 : ∀ x, x ≠ t → F x ≠ g0 → F1 x = F x) (h2 : ∀ x, x ≠ t → F1 x ≠ g0 → F2 x = F1 x) : ∀ x, x ≠ t → F x ≠ g0 → F2 x = F x := fun x a b => have e := h1 x a b; (h2 x a (by rw [e]; exact b)).trans e
theorem gT3.kp {d : gD} {F F' : gM} {t : Nat} {v : Value} {fs : List Value} {a q n z : Nat → Nat} (h : gT3 d F a q n z) (ht : F t = .inr (11, v :: fs)) (k : ∀ x, x ≠ t → F x ≠ g0 → F' x = F x) : gT3 d F' a q n z := ⟨fun i hi => by
  obtain ⟨⟨f, g⟩, hb⟩ := h.1 i hi
  exact ⟨⟨f, g.kept (k _ (gne g.1 ht (gk_oo rfl)) g.na.1) (k _ (gne g.2.1 ht gk_ao) g.na.2)⟩, hb⟩, h.2⟩
set_option maxHeartbeats 8000000 in
set_option maxRecDepth 100000 in
theorem s_W (l : Launch) (d : gD) (b : Nat) (F : gM) (K0 N0 : Nat) (t : Nat)  (h : F t = .inr (11, [.null, .null, .null, .null, .null, .null, .null, .null, .int 0, .int 0]))  (hK : K0 + 8000 ≤ gKm b) (hN : N0 + 40000 ≤ gNm) : hMv l d b yX11_init cX11_init 1 6 K0 N0 F [.ref t] (fun u => ∃ (Y : gYt) (S : gSt), gO' Y 0 = t ∧ gWT d Y u.1 S ∧ lSt S ∧ u.2.1 ≤ K0 + 1628 ∧ u.2.2 + 96 ≤ N0 + 6628 + 2 * (sN S 18 + sN S 19 + sN S 20)) := by
  intro mc ms
  refine hM_of2 rfl (nL := 1) (Nat.le_of_ble_eq_true rfl) ?_
  intro X hX hC hrm ho; subst hX
  obtain ⟨rm1, rm2⟩ : min K0 (gKm b) - X.st.heap.size + 31 ≤ mc ∧ min N0 gNm - gsm b X.st.heap + 295 ≤ ms := h_rm hC hrm ho (by omega) (by omega)
  obtain ⟨vK, eK⟩ : ∃ x, x = min K0 (gKm b) - X.st.heap.size := ⟨_, rfl⟩
  obtain ⟨vN, eN⟩ : ∃ x, x = min N0 gNm - gsm b X.st.heap := ⟨_, rfl⟩
  rw [← eK] at rm1; rw [← eN] at rm2
  show gG X d b _ F (min K0 (gKm b) - X.st.heap.size) (min N0 gNm - gsm b X.st.heap) 0 [some (.ref t)] []
  rw [← eK, ← eN]
  have hcn : gCn d t 11 F F [.null, .null, .null, .null, .null, .null, .null, .null, .int 0, .int 0] [] := ⟨h, by rw [h]; exact g0_o, gEx.rf, gNw.nil⟩
  refine g_aload_n hC dX11_init_0 rfl ?_
  refine g_objInit hC dX11_init_1 kw_269 rfl ⟨Nat.le_of_ble_eq_true rfl, Nat.le_of_ble_eq_true rfl⟩ (Nat.le_of_ble_eq_true rfl) ?_
  refine g_newInts 6000 hC hcn rfl rfl (by decide) (by decide) dX11_init_4 dX11_init_5 dX11_init_8 (fun _ _ _ _ kk => g_sipush (v := nI 6000) hC dX11_init_9 (by decide) kk) dX11_init_12 dX11_init_15 nl_X11_7 cl_X11_11 fl_X11_14 (fun _ => ⟨rfl, rfl⟩) (Nat.le_of_ble_eq_true rfl) (fun _ => ⟨_, _, rfl⟩) (by first | omega | (simp only [gR]; omega)) (by first | omega | (simp only [gR]; omega)) (Nat.le_of_ble_eq_true rfl) (Nat.le_of_ble_eq_true rfl) (fun a1 q2 F3 h4 e6 hx7 => ?_)
  have hcn5 : gCn d t 11 F F3 [.ref a1, .null, .null, .null, .null, .null, .null, .null, .int 0, .int 0] [(a1, q2, 6000, 0)] := h4
  refine g_aload_n hC dX11_init_18 rfl ?_
  refine g_new hC nl_X11_18 (by first | omega | (simp only [gR]; omega)) (by first | omega | (simp only [gR]; omega)) dX11_init_19 (fun o8 e_o8 => ?_)
  refine g_vF (fun F9 hF9 => ?_)
  obtain ⟨hcn10, hk11⟩ := gCn.newz hcn5 e_o8 hF9
  have hx12 : ∀ x, x ≠ t → F3 x ≠ g0 → F9 x = F3 x := fun x _ q => hk11 x q
  have f13 : F9 o8 = .inr (7, [.null, .null, .null, .null, .null, .null, .int 0, .int 0, .int 0, .int 0, .int 0]) := by rw [hF9]; exact va_up_self _ _ _
  refine g_dup hC dX11_init_22 rfl ?_
  refine g_callINv (As := []) hC (k_P X.la d b F9 o8 f13) cl_X11_20 rfl rfl (Nat.le_of_ble_eq_true rfl) (gFit_of (Nat.le_of_ble_eq_true rfl) (Nat.le_of_ble_eq_true rfl) (by first | omega | (simp only [gR]; omega)) (by first | omega | (simp only [gR]; omega))) dX11_init_23 (fun F14 p15 => ?_)
  obtain ⟨a16, q17, a18, q19, a20, q21, a22, q23, a24, q25, a26, q27, h28⟩ := p15
  obtain ⟨hcn29, hk30⟩ := gCn.call hcn5 e_o8 hF9 g0_o h28
  have hx31 : ∀ x, x ≠ t → F3 x ≠ g0 → F14 x = F3 x := fun x _ q => hk30 x q
  refine g_putC hC hcn29 fl_X11_21 rfl rfl (Nat.le_of_ble_eq_true rfl) rfl dX11_init_26 (fun F32 hcn33 hx34 => ?_)
  have hx35 : ∀ x, x ≠ t → F14 x ≠ g0 → F32 x = F14 x := fun x q _ => hx34 x q
  have f36 : F32 o8 = .inr (7, [.ref a16, .ref a18, .ref a20, .ref a22, .ref a24, .ref a26, .int 4096, .int (-1), .int 0, .int 0, .int 0]) := (hx35 o8 (gne h28.1 hcn29.1 (gk_oo rfl)) (by rw [h28.1]; exact g0_o)).trans h28.1
  refine g_aload_n hC dX11_init_29 rfl ?_
  refine g_new hC nl_X11_25 (by first | omega | (simp only [gR]; omega)) (by first | omega | (simp only [gR]; omega)) dX11_init_30 (fun o37 e_o37 => ?_)
  refine g_vF (fun F38 hF38 => ?_)
  obtain ⟨hcn39, hk40⟩ := gCn.newz hcn33 e_o37 hF38
  have hx41 : ∀ x, x ≠ t → F32 x ≠ g0 → F38 x = F32 x := fun x _ q => hk40 x q
  have f42 : F38 o8 = .inr (7, [.ref a16, .ref a18, .ref a20, .ref a22, .ref a24, .ref a26, .int 4096, .int (-1), .int 0, .int 0, .int 0]) := (hx41 o8 (gne f36 hcn33.1 (gk_oo rfl)) (by rw [f36]; exact g0_o)).trans f36
  have f43 : F38 o37 = .inr (10, [.null, .null, .null, .null, .null, .null, .null]) := by rw [hF38]; exact va_up_self _ _ _
  refine g_dup hC dX11_init_33 rfl ?_
  refine g_callINv (As := []) hC (k_T X.la d b F38 o37 f43) cl_X11_27 rfl rfl (Nat.le_of_ble_eq_true rfl) (gFit_of (Nat.le_of_ble_eq_true rfl) (Nat.le_of_ble_eq_true rfl) (by first | omega | (simp only [gR]; omega)) (by first | omega | (simp only [gR]; omega))) dX11_init_34 (fun F44 p45 => ?_)
  obtain ⟨a46, q47, a48, q49, a50, q51, a52, q53, a54, q55, a56, q57, a58, q59, h60⟩ := p45
  obtain ⟨hcn61, hk62⟩ := gCn.call hcn33 e_o37 hF38 g0_o h60
  have hx63 : ∀ x, x ≠ t → F32 x ≠ g0 → F44 x = F32 x := fun x _ q => hk62 x q
  have f64 : F44 o8 = .inr (7, [.ref a16, .ref a18, .ref a20, .ref a22, .ref a24, .ref a26, .int 4096, .int (-1), .int 0, .int 0, .int 0]) := (hx63 o8 (gne f36 hcn33.1 (gk_oo rfl)) (by rw [f36]; exact g0_o)).trans f36
  refine g_putC hC hcn61 fl_X11_28 rfl rfl (Nat.le_of_ble_eq_true rfl) rfl dX11_init_37 (fun F65 hcn66 hx67 => ?_)
  have hx68 : ∀ x, x ≠ t → F44 x ≠ g0 → F65 x = F44 x := fun x q _ => hx67 x q
  have f69 : F65 o8 = .inr (7, [.ref a16, .ref a18, .ref a20, .ref a22, .ref a24, .ref a26, .int 4096, .int (-1), .int 0, .int 0, .int 0]) := (hx68 o8 (gne f64 hcn61.1 (gk_oo rfl)) (by rw [f64]; exact g0_o)).trans f64
  have f70 : F65 o37 = .inr (10, [.ref a46, .ref a48, .ref a50, .ref a52, .ref a54, .ref a56, .ref a58]) := (hx68 o37 (gne h60.1 hcn61.1 (gk_oo rfl)) (by rw [h60.1]; exact g0_o)).trans h60.1
  refine g_aload_n hC dX11_init_40 rfl ?_
  refine g_new hC nl_X11_32 (by first | omega | (simp only [gR]; omega)) (by first | omega | (simp only [gR]; omega)) dX11_init_41 (fun o71 e_o71 => ?_)
  refine g_vF (fun F72 hF72 => ?_)
  obtain ⟨hcn73, hk74⟩ := gCn.newz hcn66 e_o71 hF72
  have hx75 : ∀ x, x ≠ t → F65 x ≠ g0 → F72 x = F65 x := fun x _ q => hk74 x q
  have f76 : F72 o8 = .inr (7, [.ref a16, .ref a18, .ref a20, .ref a22, .ref a24, .ref a26, .int 4096, .int (-1), .int 0, .int 0, .int 0]) := (hx75 o8 (gne f69 hcn66.1 (gk_oo rfl)) (by rw [f69]; exact g0_o)).trans f69
  have f77 : F72 o37 = .inr (10, [.ref a46, .ref a48, .ref a50, .ref a52, .ref a54, .ref a56, .ref a58]) := (hx75 o37 (gne f70 hcn66.1 (gk_oo rfl)) (by rw [f70]; exact g0_o)).trans f70
  have f78 : F72 o71 = .inr (8, [.null, .null, .null, .null, .null, .null, .null, .null, .int 0, .int 0, .int 0]) := by rw [hF72]; exact va_up_self _ _ _
  refine g_dup hC dX11_init_44 rfl ?_
  refine g_aload_n hC dX11_init_45 rfl ?_
  refine g_get hC fl_X11_14 hcn73.1 rfl dX11_init_46 ?_
  rw [eK, eN]
  refine h_to hC ho (a := 31) (c := 295) (by omega) (by omega) (fun ho0 => ?_)
  refine h_callIv (As := [.ref a1]) hC hrm ho0 (s_S X.la d b F72 _ _ o71 a1 f78 (by omega) (by omega)) cl_X11_34 rfl rfl (Nat.le_of_ble_eq_true rfl) (hFr_of (Nat.le_of_ble_eq_true rfl) (Nat.le_of_ble_eq_true rfl)) dX11_init_49 (fun u79 p80 ho79 => ?_)
  obtain ⟨a81, q82, a83, q84, a85, q86, a87, q88, a89, q90, a91, q92, a93, q94, v95, h96, sq, sn, sz, sT, se0, se1, se2, sz0, sz1, sz2, ekn, hk79, hn79⟩ := p80
  have sb0 := (sT.1 0 (by decide)).2
  have sb1 := (sT.1 1 (by decide)).2
  have sb2 := (sT.1 2 (by decide)).2
  have rq1 : u79.2.1 + 57 ≤ gKm b := by omega
  have rq2 : u79.2.2 + 4612 ≤ gNm := by omega
  clear rm1 rm2 eK eN vK vN
  obtain ⟨rm1, rm2⟩ : min u79.2.1 (gKm b) - X.st.heap.size + 57 ≤ mc ∧ min u79.2.2 gNm - gsm b X.st.heap + 4612 ≤ ms := h_rm hC hrm ho79 rq1 rq2
  obtain ⟨vK, eK⟩ : ∃ x, x = min u79.2.1 (gKm b) - X.st.heap.size := ⟨_, rfl⟩
  obtain ⟨vN, eN⟩ : ∃ x, x = min u79.2.2 gNm - gsm b X.st.heap := ⟨_, rfl⟩
  rw [← eK] at rm1; rw [← eN] at rm2
  show gG X d b _ _ (min u79.2.1 (gKm b) - X.st.heap.size) (min u79.2.2 gNm - gsm b X.st.heap) 52 _ _
  rw [← eK, ← eN]
  obtain ⟨hcn97, hk98⟩ := gCn.call hcn66 e_o71 hF72 g0_o h96
  have hx99 : ∀ x, x ≠ t → F65 x ≠ g0 → u79.1 x = F65 x := fun x _ q => hk98 x q
  have f100 : u79.1 o8 = .inr (7, [.ref a16, .ref a18, .ref a20, .ref a22, .ref a24, .ref a26, .int 4096, .int (-1), .int 0, .int 0, .int 0]) := (hx99 o8 (gne f69 hcn66.1 (gk_oo rfl)) (by rw [f69]; exact g0_o)).trans f69
  have f101 : u79.1 o37 = .inr (10, [.ref a46, .ref a48, .ref a50, .ref a52, .ref a54, .ref a56, .ref a58]) := (hx99 o37 (gne f70 hcn66.1 (gk_oo rfl)) (by rw [f70]; exact g0_o)).trans f70
  refine g_putC hC hcn97 fl_X11_37 rfl rfl (Nat.le_of_ble_eq_true rfl) rfl dX11_init_52 (fun F102 hcn103 hx104 => ?_)
  have hx105 : ∀ x, x ≠ t → u79.1 x ≠ g0 → F102 x = u79.1 x := fun x q _ => hx104 x q
  have f106 : F102 o8 = .inr (7, [.ref a16, .ref a18, .ref a20, .ref a22, .ref a24, .ref a26, .int 4096, .int (-1), .int 0, .int 0, .int 0]) := (hx105 o8 (gne f100 hcn97.1 (gk_oo rfl)) (by rw [f100]; exact g0_o)).trans f100
  have f107 : F102 o37 = .inr (10, [.ref a46, .ref a48, .ref a50, .ref a52, .ref a54, .ref a56, .ref a58]) := (hx105 o37 (gne f101 hcn97.1 (gk_oo rfl)) (by rw [f101]; exact g0_o)).trans f101
  have f108 : F102 o71 = .inr (8, [.ref a1, .ref a81, .ref a83, .ref a85, .ref a87, .ref a89, .ref a91, .ref a93, .int (nI v95), .int 0, .int 0]) := (hx105 o71 (gne h96.1 hcn97.1 (gk_oo rfl)) (by rw [h96.1]; exact g0_o)).trans h96.1
  refine g_aload_n hC dX11_init_55 rfl ?_
  refine g_new hC nl_X11_41 (by first | omega | (simp only [gR]; omega)) (by first | omega | (simp only [gR]; omega)) dX11_init_56 (fun o109 e_o109 => ?_)
  refine g_vF (fun F110 hF110 => ?_)
  obtain ⟨hcn111, hk112⟩ := gCn.newz hcn103 e_o109 hF110
  have hx113 : ∀ x, x ≠ t → F102 x ≠ g0 → F110 x = F102 x := fun x _ q => hk112 x q
  have f114 : F110 o8 = .inr (7, [.ref a16, .ref a18, .ref a20, .ref a22, .ref a24, .ref a26, .int 4096, .int (-1), .int 0, .int 0, .int 0]) := (hx113 o8 (gne f106 hcn103.1 (gk_oo rfl)) (by rw [f106]; exact g0_o)).trans f106
  have f115 : F110 o37 = .inr (10, [.ref a46, .ref a48, .ref a50, .ref a52, .ref a54, .ref a56, .ref a58]) := (hx113 o37 (gne f107 hcn103.1 (gk_oo rfl)) (by rw [f107]; exact g0_o)).trans f107
  have f116 : F110 o71 = .inr (8, [.ref a1, .ref a81, .ref a83, .ref a85, .ref a87, .ref a89, .ref a91, .ref a93, .int (nI v95), .int 0, .int 0]) := (hx113 o71 (gne f108 hcn103.1 (gk_oo rfl)) (by rw [f108]; exact g0_o)).trans f108
  have f117 : F110 o109 = .inr (6, [.null, .null, .null, .null, .null, .null, .null, .null, .null, .int 0, .int 0, .int 0]) := by rw [hF110]; exact va_up_self _ _ _
  refine g_dup hC dX11_init_59 rfl ?_
  refine g_aload_n hC dX11_init_60 rfl ?_
  refine g_get hC fl_X11_37 hcn111.1 rfl dX11_init_61 ?_
  refine g_aload_n hC dX11_init_64 rfl ?_
  refine g_get hC fl_X11_28 hcn111.1 rfl dX11_init_65 ?_
  refine g_aload_n hC dX11_init_68 rfl ?_
  refine g_get hC fl_X11_21 hcn111.1 rfl dX11_init_69 ?_
  refine g_callIv (As := [.ref o71, .ref o37, .ref o8]) hC (k_Par X.la d b F110 o109 o71 o37 o8 f117 f116) cl_X11_43 rfl rfl (Nat.le_of_ble_eq_true rfl) (gFit_of (Nat.le_of_ble_eq_true rfl) (Nat.le_of_ble_eq_true rfl) (by first | omega | (simp only [gR]; omega)) (by first | omega | (simp only [gR]; omega))) dX11_init_72 (fun F118 p119 => ?_)
  obtain ⟨a120, q121, a122, q123, a124, q125, h126⟩ := p119
  obtain ⟨hcn127, hk128⟩ := gCn.call hcn103 e_o109 hF110 g0_o h126
  have hx129 : ∀ x, x ≠ t → F102 x ≠ g0 → F118 x = F102 x := fun x _ q => hk128 x q
  have f130 : F118 o8 = .inr (7, [.ref a16, .ref a18, .ref a20, .ref a22, .ref a24, .ref a26, .int 4096, .int (-1), .int 0, .int 0, .int 0]) := (hx129 o8 (gne f106 hcn103.1 (gk_oo rfl)) (by rw [f106]; exact g0_o)).trans f106
  have f131 : F118 o37 = .inr (10, [.ref a46, .ref a48, .ref a50, .ref a52, .ref a54, .ref a56, .ref a58]) := (hx129 o37 (gne f107 hcn103.1 (gk_oo rfl)) (by rw [f107]; exact g0_o)).trans f107
  have f132 : F118 o71 = .inr (8, [.ref a1, .ref a81, .ref a83, .ref a85, .ref a87, .ref a89, .ref a91, .ref a93, .int (nI v95), .int 0, .int 0]) := (hx129 o71 (gne f108 hcn103.1 (gk_oo rfl)) (by rw [f108]; exact g0_o)).trans f108
  refine g_putC hC hcn127 fl_X11_46 rfl rfl (Nat.le_of_ble_eq_true rfl) rfl dX11_init_75 (fun F133 hcn134 hx135 => ?_)
  have hx136 : ∀ x, x ≠ t → F118 x ≠ g0 → F133 x = F118 x := fun x q _ => hx135 x q
  have f137 : F133 o8 = .inr (7, [.ref a16, .ref a18, .ref a20, .ref a22, .ref a24, .ref a26, .int 4096, .int (-1), .int 0, .int 0, .int 0]) := (hx136 o8 (gne f130 hcn127.1 (gk_oo rfl)) (by rw [f130]; exact g0_o)).trans f130
  have f138 : F133 o37 = .inr (10, [.ref a46, .ref a48, .ref a50, .ref a52, .ref a54, .ref a56, .ref a58]) := (hx136 o37 (gne f131 hcn127.1 (gk_oo rfl)) (by rw [f131]; exact g0_o)).trans f131
  have f139 : F133 o71 = .inr (8, [.ref a1, .ref a81, .ref a83, .ref a85, .ref a87, .ref a89, .ref a91, .ref a93, .int (nI v95), .int 0, .int 0]) := (hx136 o71 (gne f132 hcn127.1 (gk_oo rfl)) (by rw [f132]; exact g0_o)).trans f132
  have f140 : F133 o109 = .inr (6, [.ref a81, .ref a83, .ref a85, .ref a87, .ref o37, .ref o8, .ref a120, .ref a122, .ref a124, .int 0, .int 0, .int 0]) := (hx136 o109 (gne h126.1 hcn127.1 (gk_oo rfl)) (by rw [h126.1]; exact g0_o)).trans h126.1
  refine g_aload_n hC dX11_init_78 rfl ?_
  refine g_new hC nl_X11_50 (by first | omega | (simp only [gR]; omega)) (by first | omega | (simp only [gR]; omega)) dX11_init_79 (fun o141 e_o141 => ?_)
  refine g_vF (fun F142 hF142 => ?_)
  obtain ⟨hcn143, hk144⟩ := gCn.newz hcn134 e_o141 hF142
  have hx145 : ∀ x, x ≠ t → F133 x ≠ g0 → F142 x = F133 x := fun x _ q => hk144 x q
  have f146 : F142 o8 = .inr (7, [.ref a16, .ref a18, .ref a20, .ref a22, .ref a24, .ref a26, .int 4096, .int (-1), .int 0, .int 0, .int 0]) := (hx145 o8 (gne f137 hcn134.1 (gk_oo rfl)) (by rw [f137]; exact g0_o)).trans f137
  have f147 : F142 o37 = .inr (10, [.ref a46, .ref a48, .ref a50, .ref a52, .ref a54, .ref a56, .ref a58]) := (hx145 o37 (gne f138 hcn134.1 (gk_oo rfl)) (by rw [f138]; exact g0_o)).trans f138
  have f148 : F142 o71 = .inr (8, [.ref a1, .ref a81, .ref a83, .ref a85, .ref a87, .ref a89, .ref a91, .ref a93, .int (nI v95), .int 0, .int 0]) := (hx145 o71 (gne f139 hcn134.1 (gk_oo rfl)) (by rw [f139]; exact g0_o)).trans f139
  have f149 : F142 o109 = .inr (6, [.ref a81, .ref a83, .ref a85, .ref a87, .ref o37, .ref o8, .ref a120, .ref a122, .ref a124, .int 0, .int 0, .int 0]) := (hx145 o109 (gne f140 hcn134.1 (gk_oo rfl)) (by rw [f140]; exact g0_o)).trans f140
  have f150 : F142 o141 = .inr (1, [.null, .null, .null, .null, .null, .null, .null, .int 0, .int 0, .int 0, .int 0, .int 0, .int 0, .int 0, .int 0, .int 0, .int 0, .int 0, .int 0]) := by rw [hF142]; exact va_up_self _ _ _
  refine g_dup hC dX11_init_82 rfl ?_
  refine g_aload_n hC dX11_init_83 rfl ?_
  refine g_get hC fl_X11_28 hcn143.1 rfl dX11_init_84 ?_
  refine g_aload_n hC dX11_init_87 rfl ?_
  refine g_get hC fl_X11_21 hcn143.1 rfl dX11_init_88 ?_
  refine g_callIv (As := [.ref o37, .ref o8]) hC (k_Cod X.la d b F142 o141 o37 o8 f150) cl_X11_52 rfl rfl (Nat.le_of_ble_eq_true rfl) (gFit_of (Nat.le_of_ble_eq_true rfl) (Nat.le_of_ble_eq_true rfl) (by first | omega | (simp only [gR]; omega)) (by first | omega | (simp only [gR]; omega))) dX11_init_91 (fun F151 p152 => ?_)
  obtain ⟨a153, q154, a155, q156, a157, q158, a159, q160, a161, q162, a163, q164, a165, q166, a167, q168, a169, q170, a171, q172, o173, o174, h175, f176, f177⟩ := p152
  obtain ⟨hcn178, hk179⟩ := gCn.call hcn134 e_o141 hF142 g0_o h175
  have hx180 : ∀ x, x ≠ t → F133 x ≠ g0 → F151 x = F133 x := fun x _ q => hk179 x q
  have f181 : F151 o8 = .inr (7, [.ref a16, .ref a18, .ref a20, .ref a22, .ref a24, .ref a26, .int 4096, .int (-1), .int 0, .int 0, .int 0]) := (hx180 o8 (gne f137 hcn134.1 (gk_oo rfl)) (by rw [f137]; exact g0_o)).trans f137
  have f182 : F151 o37 = .inr (10, [.ref a46, .ref a48, .ref a50, .ref a52, .ref a54, .ref a56, .ref a58]) := (hx180 o37 (gne f138 hcn134.1 (gk_oo rfl)) (by rw [f138]; exact g0_o)).trans f138
  have f183 : F151 o71 = .inr (8, [.ref a1, .ref a81, .ref a83, .ref a85, .ref a87, .ref a89, .ref a91, .ref a93, .int (nI v95), .int 0, .int 0]) := (hx180 o71 (gne f139 hcn134.1 (gk_oo rfl)) (by rw [f139]; exact g0_o)).trans f139
  have f184 : F151 o109 = .inr (6, [.ref a81, .ref a83, .ref a85, .ref a87, .ref o37, .ref o8, .ref a120, .ref a122, .ref a124, .int 0, .int 0, .int 0]) := (hx180 o109 (gne f140 hcn134.1 (gk_oo rfl)) (by rw [f140]; exact g0_o)).trans f140
  refine g_putC hC hcn178 fl_X11_55 rfl rfl (Nat.le_of_ble_eq_true rfl) rfl dX11_init_94 (fun F185 hcn186 hx187 => ?_)
  have hx188 : ∀ x, x ≠ t → F151 x ≠ g0 → F185 x = F151 x := fun x q _ => hx187 x q
  have f189 : F185 o8 = .inr (7, [.ref a16, .ref a18, .ref a20, .ref a22, .ref a24, .ref a26, .int 4096, .int (-1), .int 0, .int 0, .int 0]) := (hx188 o8 (gne f181 hcn178.1 (gk_oo rfl)) (by rw [f181]; exact g0_o)).trans f181
  have f190 : F185 o37 = .inr (10, [.ref a46, .ref a48, .ref a50, .ref a52, .ref a54, .ref a56, .ref a58]) := (hx188 o37 (gne f182 hcn178.1 (gk_oo rfl)) (by rw [f182]; exact g0_o)).trans f182
  have f191 : F185 o71 = .inr (8, [.ref a1, .ref a81, .ref a83, .ref a85, .ref a87, .ref a89, .ref a91, .ref a93, .int (nI v95), .int 0, .int 0]) := (hx188 o71 (gne f183 hcn178.1 (gk_oo rfl)) (by rw [f183]; exact g0_o)).trans f183
  have f192 : F185 o109 = .inr (6, [.ref a81, .ref a83, .ref a85, .ref a87, .ref o37, .ref o8, .ref a120, .ref a122, .ref a124, .int 0, .int 0, .int 0]) := (hx188 o109 (gne f184 hcn178.1 (gk_oo rfl)) (by rw [f184]; exact g0_o)).trans f184
  have f193 : F185 o141 = .inr (1, [.ref o37, .ref o8, .ref o173, .ref o174, .ref a153, .ref a155, .ref a157, .int (-1), .int (-1), .int (-1), .int (-1), .int 0, .int 0, .int 0, .int 0, .int (-1), .int 0, .int 0, .int 0]) := (hx188 o141 (gne h175.1 hcn178.1 (gk_oo rfl)) (by rw [h175.1]; exact g0_o)).trans h175.1
  have f194 : F185 o173 = .inr (9, [.ref o8, .ref a159, .ref a161, .ref a163, .ref a165, .ref a167, .ref a169, .int 0]) := (hx188 o173 (gne f176 hcn178.1 (gk_oo rfl)) (by rw [f176]; exact g0_o)).trans f176
  have f195 : F185 o174 = .inr (2, [.ref o37, .ref o8, .ref o173, .ref a171, .int 0, .int 0, .int 0]) := (hx188 o174 (gne f177 hcn178.1 (gk_oo rfl)) (by rw [f177]; exact g0_o)).trans f177
  refine g_aload_n hC dX11_init_97 rfl ?_
  refine g_new hC nl_X11_59 (by first | omega | (simp only [gR]; omega)) (by first | omega | (simp only [gR]; omega)) dX11_init_98 (fun o196 e_o196 => ?_)
  refine g_vF (fun F197 hF197 => ?_)
  obtain ⟨hcn198, hk199⟩ := gCn.newz hcn186 e_o196 hF197
  have hx200 : ∀ x, x ≠ t → F185 x ≠ g0 → F197 x = F185 x := fun x _ q => hk199 x q
  have f201 : F197 o8 = .inr (7, [.ref a16, .ref a18, .ref a20, .ref a22, .ref a24, .ref a26, .int 4096, .int (-1), .int 0, .int 0, .int 0]) := (hx200 o8 (gne f189 hcn186.1 (gk_oo rfl)) (by rw [f189]; exact g0_o)).trans f189
  have f202 : F197 o37 = .inr (10, [.ref a46, .ref a48, .ref a50, .ref a52, .ref a54, .ref a56, .ref a58]) := (hx200 o37 (gne f190 hcn186.1 (gk_oo rfl)) (by rw [f190]; exact g0_o)).trans f190
  have f203 : F197 o71 = .inr (8, [.ref a1, .ref a81, .ref a83, .ref a85, .ref a87, .ref a89, .ref a91, .ref a93, .int (nI v95), .int 0, .int 0]) := (hx200 o71 (gne f191 hcn186.1 (gk_oo rfl)) (by rw [f191]; exact g0_o)).trans f191
  have f204 : F197 o109 = .inr (6, [.ref a81, .ref a83, .ref a85, .ref a87, .ref o37, .ref o8, .ref a120, .ref a122, .ref a124, .int 0, .int 0, .int 0]) := (hx200 o109 (gne f192 hcn186.1 (gk_oo rfl)) (by rw [f192]; exact g0_o)).trans f192
  have f205 : F197 o141 = .inr (1, [.ref o37, .ref o8, .ref o173, .ref o174, .ref a153, .ref a155, .ref a157, .int (-1), .int (-1), .int (-1), .int (-1), .int 0, .int 0, .int 0, .int 0, .int (-1), .int 0, .int 0, .int 0]) := (hx200 o141 (gne f193 hcn186.1 (gk_oo rfl)) (by rw [f193]; exact g0_o)).trans f193
  have f206 : F197 o173 = .inr (9, [.ref o8, .ref a159, .ref a161, .ref a163, .ref a165, .ref a167, .ref a169, .int 0]) := (hx200 o173 (gne f194 hcn186.1 (gk_oo rfl)) (by rw [f194]; exact g0_o)).trans f194
  have f207 : F197 o174 = .inr (2, [.ref o37, .ref o8, .ref o173, .ref a171, .int 0, .int 0, .int 0]) := (hx200 o174 (gne f195 hcn186.1 (gk_oo rfl)) (by rw [f195]; exact g0_o)).trans f195
  have f208 : F197 o196 = .inr (0, [.null, .null, .null, .int 0, .int 0]) := by rw [hF197]; exact va_up_self _ _ _
  refine g_dup hC dX11_init_101 rfl ?_
  refine g_callINv (As := []) hC (k_Cha X.la d b F197 o196 f208) cl_X11_61 rfl rfl (Nat.le_of_ble_eq_true rfl) (gFit_of (Nat.le_of_ble_eq_true rfl) (Nat.le_of_ble_eq_true rfl) (by first | omega | (simp only [gR]; omega)) (by first | omega | (simp only [gR]; omega))) dX11_init_102 (fun F209 p210 => ?_)
  obtain ⟨o211, q212, o213, q214, o215, q216, o217, q218, q219, o220, q221, o222, q223, z224, z225, h226, f227, f228⟩ := p210
  obtain ⟨hcn229, hk230⟩ := gCn.call hcn186 e_o196 hF197 g0_o h226
  have hx231 : ∀ x, x ≠ t → F185 x ≠ g0 → F209 x = F185 x := fun x _ q => hk230 x q
  have f232 : F209 o8 = .inr (7, [.ref a16, .ref a18, .ref a20, .ref a22, .ref a24, .ref a26, .int 4096, .int (-1), .int 0, .int 0, .int 0]) := (hx231 o8 (gne f189 hcn186.1 (gk_oo rfl)) (by rw [f189]; exact g0_o)).trans f189
  have f233 : F209 o37 = .inr (10, [.ref a46, .ref a48, .ref a50, .ref a52, .ref a54, .ref a56, .ref a58]) := (hx231 o37 (gne f190 hcn186.1 (gk_oo rfl)) (by rw [f190]; exact g0_o)).trans f190
  have f234 : F209 o71 = .inr (8, [.ref a1, .ref a81, .ref a83, .ref a85, .ref a87, .ref a89, .ref a91, .ref a93, .int (nI v95), .int 0, .int 0]) := (hx231 o71 (gne f191 hcn186.1 (gk_oo rfl)) (by rw [f191]; exact g0_o)).trans f191
  have f235 : F209 o109 = .inr (6, [.ref a81, .ref a83, .ref a85, .ref a87, .ref o37, .ref o8, .ref a120, .ref a122, .ref a124, .int 0, .int 0, .int 0]) := (hx231 o109 (gne f192 hcn186.1 (gk_oo rfl)) (by rw [f192]; exact g0_o)).trans f192
  have f236 : F209 o141 = .inr (1, [.ref o37, .ref o8, .ref o173, .ref o174, .ref a153, .ref a155, .ref a157, .int (-1), .int (-1), .int (-1), .int (-1), .int 0, .int 0, .int 0, .int 0, .int (-1), .int 0, .int 0, .int 0]) := (hx231 o141 (gne f193 hcn186.1 (gk_oo rfl)) (by rw [f193]; exact g0_o)).trans f193
  have f237 : F209 o173 = .inr (9, [.ref o8, .ref a159, .ref a161, .ref a163, .ref a165, .ref a167, .ref a169, .int 0]) := (hx231 o173 (gne f194 hcn186.1 (gk_oo rfl)) (by rw [f194]; exact g0_o)).trans f194
  have f238 : F209 o174 = .inr (2, [.ref o37, .ref o8, .ref o173, .ref a171, .int 0, .int 0, .int 0]) := (hx231 o174 (gne f195 hcn186.1 (gk_oo rfl)) (by rw [f195]; exact g0_o)).trans f195
  refine g_putC hC hcn229 fl_X11_62 rfl rfl (Nat.le_of_ble_eq_true rfl) rfl dX11_init_105 (fun F239 hcn240 hx241 => ?_)
  have hx242 : ∀ x, x ≠ t → F209 x ≠ g0 → F239 x = F209 x := fun x q _ => hx241 x q
  have f243 : F239 o8 = .inr (7, [.ref a16, .ref a18, .ref a20, .ref a22, .ref a24, .ref a26, .int 4096, .int (-1), .int 0, .int 0, .int 0]) := (hx242 o8 (gne f232 hcn229.1 (gk_oo rfl)) (by rw [f232]; exact g0_o)).trans f232
  have f244 : F239 o37 = .inr (10, [.ref a46, .ref a48, .ref a50, .ref a52, .ref a54, .ref a56, .ref a58]) := (hx242 o37 (gne f233 hcn229.1 (gk_oo rfl)) (by rw [f233]; exact g0_o)).trans f233
  have f245 : F239 o71 = .inr (8, [.ref a1, .ref a81, .ref a83, .ref a85, .ref a87, .ref a89, .ref a91, .ref a93, .int (nI v95), .int 0, .int 0]) := (hx242 o71 (gne f234 hcn229.1 (gk_oo rfl)) (by rw [f234]; exact g0_o)).trans f234
  have f246 : F239 o109 = .inr (6, [.ref a81, .ref a83, .ref a85, .ref a87, .ref o37, .ref o8, .ref a120, .ref a122, .ref a124, .int 0, .int 0, .int 0]) := (hx242 o109 (gne f235 hcn229.1 (gk_oo rfl)) (by rw [f235]; exact g0_o)).trans f235
  have f247 : F239 o141 = .inr (1, [.ref o37, .ref o8, .ref o173, .ref o174, .ref a153, .ref a155, .ref a157, .int (-1), .int (-1), .int (-1), .int (-1), .int 0, .int 0, .int 0, .int 0, .int (-1), .int 0, .int 0, .int 0]) := (hx242 o141 (gne f236 hcn229.1 (gk_oo rfl)) (by rw [f236]; exact g0_o)).trans f236
  have f248 : F239 o173 = .inr (9, [.ref o8, .ref a159, .ref a161, .ref a163, .ref a165, .ref a167, .ref a169, .int 0]) := (hx242 o173 (gne f237 hcn229.1 (gk_oo rfl)) (by rw [f237]; exact g0_o)).trans f237
  have f249 : F239 o174 = .inr (2, [.ref o37, .ref o8, .ref o173, .ref a171, .int 0, .int 0, .int 0]) := (hx242 o174 (gne f238 hcn229.1 (gk_oo rfl)) (by rw [f238]; exact g0_o)).trans f238
  have f250 : F239 o196 = .inr (0, [.ref z224, .ref q219, .ref z225, .int 0, .int 0]) := (hx242 o196 (gne h226.1 hcn229.1 (gk_oo rfl)) (by rw [h226.1]; exact g0_o)).trans h226.1
  have f251 : F239 z224 = .inl (gO d, 4, .inr (.inr (.inr (.inr (va_up (va_up (va_up (va_up (fun _ => none) 0 (some o211)) 1 (some o213)) 2 (some o215)) 3 (some o217)))))) := (hx242 z224 (gne f227 hcn229.1 gk_ao) (by rw [f227]; exact g0_a)).trans f227
  have f252 : F239 z225 = .inl (gO d, 2, .inr (.inr (.inr (.inr (va_up (va_up (fun _ => none) 0 (some o220)) 1 (some o222)))))) := (hx242 z225 (gne f228 hcn229.1 gk_ao) (by rw [f228]; exact g0_a)).trans f228
  refine g_aload_n hC dX11_init_108 rfl ?_
  refine g_new hC nl_X11_66 (by first | omega | (simp only [gR]; omega)) (by first | omega | (simp only [gR]; omega)) dX11_init_109 (fun o253 e_o253 => ?_)
  refine g_vF (fun F254 hF254 => ?_)
  obtain ⟨hcn255, hk256⟩ := gCn.newz hcn240 e_o253 hF254
  have hx257 : ∀ x, x ≠ t → F239 x ≠ g0 → F254 x = F239 x := fun x _ q => hk256 x q
  have f258 : F254 o8 = .inr (7, [.ref a16, .ref a18, .ref a20, .ref a22, .ref a24, .ref a26, .int 4096, .int (-1), .int 0, .int 0, .int 0]) := (hx257 o8 (gne f243 hcn240.1 (gk_oo rfl)) (by rw [f243]; exact g0_o)).trans f243
  have f259 : F254 o37 = .inr (10, [.ref a46, .ref a48, .ref a50, .ref a52, .ref a54, .ref a56, .ref a58]) := (hx257 o37 (gne f244 hcn240.1 (gk_oo rfl)) (by rw [f244]; exact g0_o)).trans f244
  have f260 : F254 o71 = .inr (8, [.ref a1, .ref a81, .ref a83, .ref a85, .ref a87, .ref a89, .ref a91, .ref a93, .int (nI v95), .int 0, .int 0]) := (hx257 o71 (gne f245 hcn240.1 (gk_oo rfl)) (by rw [f245]; exact g0_o)).trans f245
  have f261 : F254 o109 = .inr (6, [.ref a81, .ref a83, .ref a85, .ref a87, .ref o37, .ref o8, .ref a120, .ref a122, .ref a124, .int 0, .int 0, .int 0]) := (hx257 o109 (gne f246 hcn240.1 (gk_oo rfl)) (by rw [f246]; exact g0_o)).trans f246
  have f262 : F254 o141 = .inr (1, [.ref o37, .ref o8, .ref o173, .ref o174, .ref a153, .ref a155, .ref a157, .int (-1), .int (-1), .int (-1), .int (-1), .int 0, .int 0, .int 0, .int 0, .int (-1), .int 0, .int 0, .int 0]) := (hx257 o141 (gne f247 hcn240.1 (gk_oo rfl)) (by rw [f247]; exact g0_o)).trans f247
  have f263 : F254 o173 = .inr (9, [.ref o8, .ref a159, .ref a161, .ref a163, .ref a165, .ref a167, .ref a169, .int 0]) := (hx257 o173 (gne f248 hcn240.1 (gk_oo rfl)) (by rw [f248]; exact g0_o)).trans f248
  have f264 : F254 o174 = .inr (2, [.ref o37, .ref o8, .ref o173, .ref a171, .int 0, .int 0, .int 0]) := (hx257 o174 (gne f249 hcn240.1 (gk_oo rfl)) (by rw [f249]; exact g0_o)).trans f249
  have f265 : F254 o196 = .inr (0, [.ref z224, .ref q219, .ref z225, .int 0, .int 0]) := (hx257 o196 (gne f250 hcn240.1 (gk_oo rfl)) (by rw [f250]; exact g0_o)).trans f250
  have f266 : F254 z224 = .inl (gO d, 4, .inr (.inr (.inr (.inr (va_up (va_up (va_up (va_up (fun _ => none) 0 (some o211)) 1 (some o213)) 2 (some o215)) 3 (some o217)))))) := (hx257 z224 (gne f251 hcn240.1 gk_ao) (by rw [f251]; exact g0_a)).trans f251
  have f267 : F254 z225 = .inl (gO d, 2, .inr (.inr (.inr (.inr (va_up (va_up (fun _ => none) 0 (some o220)) 1 (some o222)))))) := (hx257 z225 (gne f252 hcn240.1 gk_ao) (by rw [f252]; exact g0_a)).trans f252
  have f268 : F254 o253 = .inr (5, [.null, .null, .null, .null, .null, .null, .int 0, .int 0, .int 0, .int 0, .int 0, .int 0, .int 0, .int 0, .int 0, .int 0]) := by rw [hF254]; exact va_up_self _ _ _
  refine g_dup hC dX11_init_112 rfl ?_
  refine g_aload_n hC dX11_init_113 rfl ?_
  refine g_get hC fl_X11_21 hcn255.1 rfl dX11_init_114 ?_
  refine g_aload_n hC dX11_init_117 rfl ?_
  refine g_get hC fl_X11_62 hcn255.1 rfl dX11_init_118 ?_
  refine g_callIv (As := [.ref o8, .ref o196]) hC (k_Mac X.la d b F254 o253 o8 o196 f268) cl_X11_68 rfl rfl (Nat.le_of_ble_eq_true rfl) (gFit_of (Nat.le_of_ble_eq_true rfl) (Nat.le_of_ble_eq_true rfl) (by first | omega | (simp only [gR]; omega)) (by first | omega | (simp only [gR]; omega))) dX11_init_121 (fun F269 p270 => ?_)
  obtain ⟨a271, q272, a273, q274, a275, q276, a277, q278, q279, o280, h281, f282⟩ := p270
  obtain ⟨hcn283, hk284⟩ := gCn.call hcn240 e_o253 hF254 g0_o h281
  have hx285 : ∀ x, x ≠ t → F239 x ≠ g0 → F269 x = F239 x := fun x _ q => hk284 x q
  have f286 : F269 o8 = .inr (7, [.ref a16, .ref a18, .ref a20, .ref a22, .ref a24, .ref a26, .int 4096, .int (-1), .int 0, .int 0, .int 0]) := (hx285 o8 (gne f243 hcn240.1 (gk_oo rfl)) (by rw [f243]; exact g0_o)).trans f243
  have f287 : F269 o37 = .inr (10, [.ref a46, .ref a48, .ref a50, .ref a52, .ref a54, .ref a56, .ref a58]) := (hx285 o37 (gne f244 hcn240.1 (gk_oo rfl)) (by rw [f244]; exact g0_o)).trans f244
  have f288 : F269 o71 = .inr (8, [.ref a1, .ref a81, .ref a83, .ref a85, .ref a87, .ref a89, .ref a91, .ref a93, .int (nI v95), .int 0, .int 0]) := (hx285 o71 (gne f245 hcn240.1 (gk_oo rfl)) (by rw [f245]; exact g0_o)).trans f245
  have f289 : F269 o109 = .inr (6, [.ref a81, .ref a83, .ref a85, .ref a87, .ref o37, .ref o8, .ref a120, .ref a122, .ref a124, .int 0, .int 0, .int 0]) := (hx285 o109 (gne f246 hcn240.1 (gk_oo rfl)) (by rw [f246]; exact g0_o)).trans f246
  have f290 : F269 o141 = .inr (1, [.ref o37, .ref o8, .ref o173, .ref o174, .ref a153, .ref a155, .ref a157, .int (-1), .int (-1), .int (-1), .int (-1), .int 0, .int 0, .int 0, .int 0, .int (-1), .int 0, .int 0, .int 0]) := (hx285 o141 (gne f247 hcn240.1 (gk_oo rfl)) (by rw [f247]; exact g0_o)).trans f247
  have f291 : F269 o173 = .inr (9, [.ref o8, .ref a159, .ref a161, .ref a163, .ref a165, .ref a167, .ref a169, .int 0]) := (hx285 o173 (gne f248 hcn240.1 (gk_oo rfl)) (by rw [f248]; exact g0_o)).trans f248
  have f292 : F269 o174 = .inr (2, [.ref o37, .ref o8, .ref o173, .ref a171, .int 0, .int 0, .int 0]) := (hx285 o174 (gne f249 hcn240.1 (gk_oo rfl)) (by rw [f249]; exact g0_o)).trans f249
  have f293 : F269 o196 = .inr (0, [.ref z224, .ref q219, .ref z225, .int 0, .int 0]) := (hx285 o196 (gne f250 hcn240.1 (gk_oo rfl)) (by rw [f250]; exact g0_o)).trans f250
  have f294 : F269 z224 = .inl (gO d, 4, .inr (.inr (.inr (.inr (va_up (va_up (va_up (va_up (fun _ => none) 0 (some o211)) 1 (some o213)) 2 (some o215)) 3 (some o217)))))) := (hx285 z224 (gne f251 hcn240.1 gk_ao) (by rw [f251]; exact g0_a)).trans f251
  have f295 : F269 z225 = .inl (gO d, 2, .inr (.inr (.inr (.inr (va_up (va_up (fun _ => none) 0 (some o220)) 1 (some o222)))))) := (hx285 z225 (gne f252 hcn240.1 gk_ao) (by rw [f252]; exact g0_a)).trans f252
  refine g_putC hC hcn283 fl_X11_71 rfl rfl (Nat.le_of_ble_eq_true rfl) rfl dX11_init_124 (fun F296 hcn297 hx298 => ?_)
  have hx299 : ∀ x, x ≠ t → F269 x ≠ g0 → F296 x = F269 x := fun x q _ => hx298 x q
  have f300 : F296 o8 = .inr (7, [.ref a16, .ref a18, .ref a20, .ref a22, .ref a24, .ref a26, .int 4096, .int (-1), .int 0, .int 0, .int 0]) := (hx299 o8 (gne f286 hcn283.1 (gk_oo rfl)) (by rw [f286]; exact g0_o)).trans f286
  have f301 : F296 o37 = .inr (10, [.ref a46, .ref a48, .ref a50, .ref a52, .ref a54, .ref a56, .ref a58]) := (hx299 o37 (gne f287 hcn283.1 (gk_oo rfl)) (by rw [f287]; exact g0_o)).trans f287
  have f302 : F296 o71 = .inr (8, [.ref a1, .ref a81, .ref a83, .ref a85, .ref a87, .ref a89, .ref a91, .ref a93, .int (nI v95), .int 0, .int 0]) := (hx299 o71 (gne f288 hcn283.1 (gk_oo rfl)) (by rw [f288]; exact g0_o)).trans f288
  have f303 : F296 o109 = .inr (6, [.ref a81, .ref a83, .ref a85, .ref a87, .ref o37, .ref o8, .ref a120, .ref a122, .ref a124, .int 0, .int 0, .int 0]) := (hx299 o109 (gne f289 hcn283.1 (gk_oo rfl)) (by rw [f289]; exact g0_o)).trans f289
  have f304 : F296 o141 = .inr (1, [.ref o37, .ref o8, .ref o173, .ref o174, .ref a153, .ref a155, .ref a157, .int (-1), .int (-1), .int (-1), .int (-1), .int 0, .int 0, .int 0, .int 0, .int (-1), .int 0, .int 0, .int 0]) := (hx299 o141 (gne f290 hcn283.1 (gk_oo rfl)) (by rw [f290]; exact g0_o)).trans f290
  have f305 : F296 o173 = .inr (9, [.ref o8, .ref a159, .ref a161, .ref a163, .ref a165, .ref a167, .ref a169, .int 0]) := (hx299 o173 (gne f291 hcn283.1 (gk_oo rfl)) (by rw [f291]; exact g0_o)).trans f291
  have f306 : F296 o174 = .inr (2, [.ref o37, .ref o8, .ref o173, .ref a171, .int 0, .int 0, .int 0]) := (hx299 o174 (gne f292 hcn283.1 (gk_oo rfl)) (by rw [f292]; exact g0_o)).trans f292
  have f307 : F296 o196 = .inr (0, [.ref z224, .ref q219, .ref z225, .int 0, .int 0]) := (hx299 o196 (gne f293 hcn283.1 (gk_oo rfl)) (by rw [f293]; exact g0_o)).trans f293
  have f308 : F296 z224 = .inl (gO d, 4, .inr (.inr (.inr (.inr (va_up (va_up (va_up (va_up (fun _ => none) 0 (some o211)) 1 (some o213)) 2 (some o215)) 3 (some o217)))))) := (hx299 z224 (gne f294 hcn283.1 gk_ao) (by rw [f294]; exact g0_a)).trans f294
  have f309 : F296 z225 = .inl (gO d, 2, .inr (.inr (.inr (.inr (va_up (va_up (fun _ => none) 0 (some o220)) 1 (some o222)))))) := (hx299 z225 (gne f295 hcn283.1 gk_ao) (by rw [f295]; exact g0_a)).trans f295
  have f310 : F296 o253 = .inr (5, [.ref o8, .ref o196, .ref o280, .ref a275, .ref a277, .ref q279, .int 0, .int 0, .int 0, .int (-1), .int 0, .int 0, .int 0, .int 0, .int (-1), .int 0]) := (hx299 o253 (gne h281.1 hcn283.1 (gk_oo rfl)) (by rw [h281.1]; exact g0_o)).trans h281.1
  have f311 : F296 o280 = .inr (3, [.ref a271, .ref a273]) := (hx299 o280 (gne f282 hcn283.1 (gk_oo rfl)) (by rw [f282]; exact g0_o)).trans f282
  refine g_aload_n hC dX11_init_127 rfl ?_
  refine g_sipush (v := 4096) hC dX11_init_128 rfl ?_
  refine g_putC hC hcn297 fl_X11_75 rfl rfl (Nat.le_of_ble_eq_true rfl) rfl dX11_init_131 (fun F312 hcn313 hx314 => ?_)
  have hx315 : ∀ x, x ≠ t → F296 x ≠ g0 → F312 x = F296 x := fun x q _ => hx314 x q
  have f316 : F312 o8 = .inr (7, [.ref a16, .ref a18, .ref a20, .ref a22, .ref a24, .ref a26, .int 4096, .int (-1), .int 0, .int 0, .int 0]) := (hx315 o8 (gne f300 hcn297.1 (gk_oo rfl)) (by rw [f300]; exact g0_o)).trans f300
  have f317 : F312 o37 = .inr (10, [.ref a46, .ref a48, .ref a50, .ref a52, .ref a54, .ref a56, .ref a58]) := (hx315 o37 (gne f301 hcn297.1 (gk_oo rfl)) (by rw [f301]; exact g0_o)).trans f301
  have f318 : F312 o71 = .inr (8, [.ref a1, .ref a81, .ref a83, .ref a85, .ref a87, .ref a89, .ref a91, .ref a93, .int (nI v95), .int 0, .int 0]) := (hx315 o71 (gne f302 hcn297.1 (gk_oo rfl)) (by rw [f302]; exact g0_o)).trans f302
  have f319 : F312 o109 = .inr (6, [.ref a81, .ref a83, .ref a85, .ref a87, .ref o37, .ref o8, .ref a120, .ref a122, .ref a124, .int 0, .int 0, .int 0]) := (hx315 o109 (gne f303 hcn297.1 (gk_oo rfl)) (by rw [f303]; exact g0_o)).trans f303
  have f320 : F312 o141 = .inr (1, [.ref o37, .ref o8, .ref o173, .ref o174, .ref a153, .ref a155, .ref a157, .int (-1), .int (-1), .int (-1), .int (-1), .int 0, .int 0, .int 0, .int 0, .int (-1), .int 0, .int 0, .int 0]) := (hx315 o141 (gne f304 hcn297.1 (gk_oo rfl)) (by rw [f304]; exact g0_o)).trans f304
  have f321 : F312 o173 = .inr (9, [.ref o8, .ref a159, .ref a161, .ref a163, .ref a165, .ref a167, .ref a169, .int 0]) := (hx315 o173 (gne f305 hcn297.1 (gk_oo rfl)) (by rw [f305]; exact g0_o)).trans f305
  have f322 : F312 o174 = .inr (2, [.ref o37, .ref o8, .ref o173, .ref a171, .int 0, .int 0, .int 0]) := (hx315 o174 (gne f306 hcn297.1 (gk_oo rfl)) (by rw [f306]; exact g0_o)).trans f306
  have f323 : F312 o196 = .inr (0, [.ref z224, .ref q219, .ref z225, .int 0, .int 0]) := (hx315 o196 (gne f307 hcn297.1 (gk_oo rfl)) (by rw [f307]; exact g0_o)).trans f307
  have f324 : F312 z224 = .inl (gO d, 4, .inr (.inr (.inr (.inr (va_up (va_up (va_up (va_up (fun _ => none) 0 (some o211)) 1 (some o213)) 2 (some o215)) 3 (some o217)))))) := (hx315 z224 (gne f308 hcn297.1 gk_ao) (by rw [f308]; exact g0_a)).trans f308
  have f325 : F312 z225 = .inl (gO d, 2, .inr (.inr (.inr (.inr (va_up (va_up (fun _ => none) 0 (some o220)) 1 (some o222)))))) := (hx315 z225 (gne f309 hcn297.1 gk_ao) (by rw [f309]; exact g0_a)).trans f309
  have f326 : F312 o253 = .inr (5, [.ref o8, .ref o196, .ref o280, .ref a275, .ref a277, .ref q279, .int 0, .int 0, .int 0, .int (-1), .int 0, .int 0, .int 0, .int 0, .int (-1), .int 0]) := (hx315 o253 (gne f310 hcn297.1 (gk_oo rfl)) (by rw [f310]; exact g0_o)).trans f310
  have f327 : F312 o280 = .inr (3, [.ref a271, .ref a273]) := (hx315 o280 (gne f311 hcn297.1 (gk_oo rfl)) (by rw [f311]; exact g0_o)).trans f311
  refine g_aload_n hC dX11_init_134 rfl ?_
  refine g_sipush (v := 4096) hC dX11_init_135 rfl ?_
  refine g_putC hC hcn313 fl_X11_79 rfl rfl (Nat.le_of_ble_eq_true rfl) rfl dX11_init_138 (fun F328 hcn329 hx330 => ?_)
  have hx331 : ∀ x, x ≠ t → F312 x ≠ g0 → F328 x = F312 x := fun x q _ => hx330 x q
  have f332 : F328 o8 = .inr (7, [.ref a16, .ref a18, .ref a20, .ref a22, .ref a24, .ref a26, .int 4096, .int (-1), .int 0, .int 0, .int 0]) := (hx331 o8 (gne f316 hcn313.1 (gk_oo rfl)) (by rw [f316]; exact g0_o)).trans f316
  have f333 : F328 o37 = .inr (10, [.ref a46, .ref a48, .ref a50, .ref a52, .ref a54, .ref a56, .ref a58]) := (hx331 o37 (gne f317 hcn313.1 (gk_oo rfl)) (by rw [f317]; exact g0_o)).trans f317
  have f334 : F328 o71 = .inr (8, [.ref a1, .ref a81, .ref a83, .ref a85, .ref a87, .ref a89, .ref a91, .ref a93, .int (nI v95), .int 0, .int 0]) := (hx331 o71 (gne f318 hcn313.1 (gk_oo rfl)) (by rw [f318]; exact g0_o)).trans f318
  have f335 : F328 o109 = .inr (6, [.ref a81, .ref a83, .ref a85, .ref a87, .ref o37, .ref o8, .ref a120, .ref a122, .ref a124, .int 0, .int 0, .int 0]) := (hx331 o109 (gne f319 hcn313.1 (gk_oo rfl)) (by rw [f319]; exact g0_o)).trans f319
  have f336 : F328 o141 = .inr (1, [.ref o37, .ref o8, .ref o173, .ref o174, .ref a153, .ref a155, .ref a157, .int (-1), .int (-1), .int (-1), .int (-1), .int 0, .int 0, .int 0, .int 0, .int (-1), .int 0, .int 0, .int 0]) := (hx331 o141 (gne f320 hcn313.1 (gk_oo rfl)) (by rw [f320]; exact g0_o)).trans f320
  have f337 : F328 o173 = .inr (9, [.ref o8, .ref a159, .ref a161, .ref a163, .ref a165, .ref a167, .ref a169, .int 0]) := (hx331 o173 (gne f321 hcn313.1 (gk_oo rfl)) (by rw [f321]; exact g0_o)).trans f321
  have f338 : F328 o174 = .inr (2, [.ref o37, .ref o8, .ref o173, .ref a171, .int 0, .int 0, .int 0]) := (hx331 o174 (gne f322 hcn313.1 (gk_oo rfl)) (by rw [f322]; exact g0_o)).trans f322
  have f339 : F328 o196 = .inr (0, [.ref z224, .ref q219, .ref z225, .int 0, .int 0]) := (hx331 o196 (gne f323 hcn313.1 (gk_oo rfl)) (by rw [f323]; exact g0_o)).trans f323
  have f340 : F328 z224 = .inl (gO d, 4, .inr (.inr (.inr (.inr (va_up (va_up (va_up (va_up (fun _ => none) 0 (some o211)) 1 (some o213)) 2 (some o215)) 3 (some o217)))))) := (hx331 z224 (gne f324 hcn313.1 gk_ao) (by rw [f324]; exact g0_a)).trans f324
  have f341 : F328 z225 = .inl (gO d, 2, .inr (.inr (.inr (.inr (va_up (va_up (fun _ => none) 0 (some o220)) 1 (some o222)))))) := (hx331 z225 (gne f325 hcn313.1 gk_ao) (by rw [f325]; exact g0_a)).trans f325
  have f342 : F328 o253 = .inr (5, [.ref o8, .ref o196, .ref o280, .ref a275, .ref a277, .ref q279, .int 0, .int 0, .int 0, .int (-1), .int 0, .int 0, .int 0, .int 0, .int (-1), .int 0]) := (hx331 o253 (gne f326 hcn313.1 (gk_oo rfl)) (by rw [f326]; exact g0_o)).trans f326
  have f343 : F328 o280 = .inr (3, [.ref a271, .ref a273]) := (hx331 o280 (gne f327 hcn313.1 (gk_oo rfl)) (by rw [f327]; exact g0_o)).trans f327
  have sT9 := sT.kp hcn97.1 (gkc (gkc (gkc (gkc (gkc (gkc (gkc (gkc (gkc (gkc hx105 hx129) hx136) hx180) hx188) hx231) hx242) hx285) hx299) hx315) hx331)
  rw [eK, eN]
  refine h_to hC ho79 (a := 57) (c := 4612) rq1 rq2 (fun ho9 => ?_)
  obtain ⟨Y, S, hY, hW, ⟨hzn, hn45, hv⟩, -, n18, n19, n20, y18, y19, y20, v7⟩ := s_WT_of hcn329 f332 f333 f334 f335 f336 f337 f338 f339 f340 f341 f342 f343 sT9 se0 se1 se2 ekn
  obtain ⟨hs, hsum⟩ := lSt_mk hzn hn45 hv n18 n19 n20 y18 y19 y20 v7 (fun i hi => (sT9.1 i hi).2) sz0 sz1 sz2
  exact h_vret hC hrm ho9 rfl rfl ⟨Y, S, hY, hW, hs, by show u79.2.1 + 57 ≤ _; omega, by show u79.2.2 + 4612 + 96 ≤ _; rw [hsum]; omega⟩ dX11_init_141
