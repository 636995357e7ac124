theorem kw_1909 : Cond.code yX11_outAt cX11_outAt 3 (some .int) ∈ gWs := gWm 1909 (by decide +kernel) rfl
theorem kw_1906 : Cond.methodLink RL 7 yX11_outAt ∈ gWs := gWm 1906 (by decide +kernel) rfl
theorem kw_1907 : Cond.instanceMethod yX11_outAt ∈ gWs := gWm 1907 (by decide +kernel) rfl
theorem kw_1908 : Cond.selects RX11 yX11_outAt yX11_outAt ∈ gWs := gWm 1908 (by decide +kernel) rfl
theorem cl_L_7 : gCV RL 7 yX11_outAt cX11_outAt 3 (some .int) 2 := ⟨g_mk [.methodLink RL 7 yX11_outAt, .instanceMethod yX11_outAt, .selects yX11_outAt.cls yX11_outAt yX11_outAt, .initialized yX11_outAt.cls] (gWs_all kw_1909) (List.forall_mem_cons.mpr ⟨kw_1906, List.forall_mem_cons.mpr ⟨kw_1907, List.forall_mem_cons.mpr ⟨kw_1908, List.forall_mem_cons.mpr ⟨kw_238, fun _ h => nomatch h⟩⟩⟩⟩), rfl, by decide +kernel, by decide +kernel, by decide +kernel⟩
theorem kw_1905 : Cond.classLink RL 13 "java/util/NoSuchElementException" ∈ gWs := gWm 1905 (by decide +kernel) rfl
theorem kw_1941 : Cond.code yX11_word cX11_word 2 (some .int) ∈ gWs := gWm 1941 (by decide +kernel) rfl
theorem kw_1938 : Cond.methodLink RL 15 yX11_word ∈ gWs := gWm 1938 (by decide +kernel) rfl
theorem kw_1939 : Cond.instanceMethod yX11_word ∈ gWs := gWm 1939 (by decide +kernel) rfl
theorem kw_1940 : Cond.selects RX11 yX11_word yX11_word ∈ gWs := gWm 1940 (by decide +kernel) rfl
theorem cl_L_15 : gCV RL 15 yX11_word cX11_word 2 (some .int) 1 := ⟨g_mk [.methodLink RL 15 yX11_word, .instanceMethod yX11_word, .selects yX11_word.cls yX11_word yX11_word, .initialized yX11_word.cls] (gWs_all kw_1941) (List.forall_mem_cons.mpr ⟨kw_1938, List.forall_mem_cons.mpr ⟨kw_1939, List.forall_mem_cons.mpr ⟨kw_1940, List.forall_mem_cons.mpr ⟨kw_238, fun _ h => nomatch h⟩⟩⟩⟩), rfl, by decide +kernel, by decide +kernel, by decide +kernel⟩
theorem kw_1904 : Cond.codeWith yL_outAt cL_outAt 5 (some .int) [(0, 10, 13, 13)] ∈ gWs := gWm 1904 (by decide +kernel) rfl
theorem kw_1902 : Cond.methodLink RL 62 yL_outAt ∈ gWs := gWm 1902 (by decide +kernel) rfl
theorem kw_1903 : Cond.static yL_outAt ∈ gWs := gWm 1903 (by decide +kernel) rfl
theorem kw_237 : Cond.initialized RL ∈ gWs := gWm 237 (by decide +kernel) rfl
theorem kw_1937 : Cond.codeWith yL_word cL_word 4 (some .int) [(0, 9, 12, 13)] ∈ gWs := gWm 1937 (by decide +kernel) rfl
theorem kw_1935 : Cond.methodLink RL 71 yL_word ∈ gWs := gWm 1935 (by decide +kernel) rfl
theorem kw_1936 : Cond.static yL_word ∈ gWs := gWm 1936 (by decide +kernel) rfl
theorem dL_outAt_0 : decode cL_outAt 0 = .ok (.aload_n 3, 1) := by decide +kernel
theorem dL_outAt_1 : decode cL_outAt 1 = .ok (.iconst 0, 1) := by decide +kernel
theorem dL_outAt_2 : decode cL_outAt 2 = .ok (.aload_n 0, 1) := by decide +kernel
theorem dL_outAt_3 : decode cL_outAt 3 = .ok (.iload_n 1, 1) := by decide +kernel
theorem dL_outAt_4 : decode cL_outAt 4 = .ok (.iload_n 2, 1) := by decide +kernel
theorem dL_outAt_5 : decode cL_outAt 5 = .ok (.invokevirtual 7, 3) := by decide +kernel
theorem dL_outAt_8 : decode cL_outAt 8 = .ok (.i2l, 1) := by decide +kernel
theorem dL_outAt_9 : decode cL_outAt 9 = .ok (.lastore, 1) := by decide +kernel
theorem dL_outAt_10 : decode cL_outAt 10 = .ok (.goto 7, 3) := by decide +kernel
theorem dL_outAt_13 : decode cL_outAt 13 = .ok (.astore 4, 2) := by decide +kernel
theorem dL_outAt_15 : decode cL_outAt 15 = .ok (.iconst 1, 1) := by decide +kernel
theorem dL_outAt_16 : decode cL_outAt 16 = .ok (.ireturn, 1) := by decide +kernel
theorem dL_outAt_17 : decode cL_outAt 17 = .ok (.iconst 0, 1) := by decide +kernel
theorem dL_outAt_18 : decode cL_outAt 18 = .ok (.ireturn, 1) := by decide +kernel
set_option maxHeartbeats 4000000 in
set_option maxRecDepth 100000 in
theorem c_L_outAt (l : Launch) (d : gD) (b : Nat) (Y : gYt) (F : gM) (S : gSt) (hW : gWT d Y F S) (hl : l.stackTraces = false) (hzo : ∀ j, j < 2 → sZ S (38 + j) = 0) (i k : Int32) (z : Nat) : Met l yL_outAt (.codeWith yL_outAt cL_outAt 5 (some .int) [(0, 10, 13, 13)] :: gWs) (gR 7 1 6) (va_Pc [.ref (gO' Y 0), .int i, .int k, .ref z] (gB d b F)) (va_Qi (fun r F' => r = 1 ∧ F' = F) (gB d b) (fun q => b ≤ q)) 1 6 (fun q => b ≤ q) := by
  refine gH_of2 rfl (nL := 5) (Nat.le_of_ble_eq_true rfl) ?_
  intro X hX hT hC; subst hX
  show gG X d b _ F 0 0 0 [some (.ref (gO' Y 0)), some (.int i), some (.int k), some (.ref z), none] []
  refine g_aload_n hC dL_outAt_0 rfl ?_
  refine g_iconst (v := 0) hC dL_outAt_1 rfl ?_
  refine g_aload_n hC dL_outAt_2 rfl ?_
  refine g_iload_n hC dL_outAt_3 rfl ?_
  refine g_iload_n hC dL_outAt_4 rfl ?_
  refine g_xcallVi (As := [.int i, .int k]) hC rfl (hW.o 0 (by decide)) (c_W_outAt0 X.la d b Y F S hW hl hzo i k) cl_L_7 rfl rfl (Nat.le_of_ble_eq_true rfl) (gFit_of (Nat.le_of_ble_eq_true rfl) (Nat.le_of_ble_eq_true rfl) (by first | exact Nat.le_of_ble_eq_true rfl | omega | (simp only [gR]; omega)) (by first | exact Nat.le_of_ble_eq_true rfl | omega | (simp only [gR]; omega))) dL_outAt_5 (fun F1 p1 => ?_) (fun r1 F2 p2 => ?_)
  · have e1 := (p1).symm; subst e1
    refine g_xcatch (name := "java/util/NoSuchElementException") hC hT ⟨by decide, by decide⟩ (by decide) kw_1905 (by decide) (fun q => ?_)
    refine g_astore (lv' := [some (.ref (gO' Y 0)), some (.int i), some (.int k), some (.ref z), some (.ref q)]) hC dL_outAt_13 (Nat.le_of_ble_eq_true rfl) rfl rfl ?_
    refine g_iconst (v := 1) hC dL_outAt_15 rfl ?_
    exact g_iret hC rfl ⟨rfl, rfl⟩ (by first | exact Nat.le_of_ble_eq_true rfl | omega | (simp only [gR]; omega)) (by first | exact Nat.le_of_ble_eq_true rfl | omega | (simp only [gR]; omega)) dL_outAt_16
  · exact p2.elim
theorem dL_word_0 : decode cL_word 0 = .ok (.aload_n 2, 1) := by decide +kernel
theorem dL_word_1 : decode cL_word 1 = .ok (.iconst 0, 1) := by decide +kernel
theorem dL_word_2 : decode cL_word 2 = .ok (.aload_n 0, 1) := by decide +kernel
theorem dL_word_3 : decode cL_word 3 = .ok (.iload_n 1, 1) := by decide +kernel
theorem dL_word_4 : decode cL_word 4 = .ok (.invokevirtual 15, 3) := by decide +kernel
theorem dL_word_7 : decode cL_word 7 = .ok (.i2l, 1) := by decide +kernel
theorem dL_word_8 : decode cL_word 8 = .ok (.lastore, 1) := by decide +kernel
theorem dL_word_9 : decode cL_word 9 = .ok (.goto 6, 3) := by decide +kernel
theorem dL_word_12 : decode cL_word 12 = .ok (.astore_n 3, 1) := by decide +kernel
theorem dL_word_13 : decode cL_word 13 = .ok (.iconst 1, 1) := by decide +kernel
theorem dL_word_14 : decode cL_word 14 = .ok (.ireturn, 1) := by decide +kernel
theorem dL_word_15 : decode cL_word 15 = .ok (.iconst 0, 1) := by decide +kernel
theorem dL_word_16 : decode cL_word 16 = .ok (.ireturn, 1) := by decide +kernel
set_option maxHeartbeats 4000000 in
set_option maxRecDepth 100000 in
theorem c_L_word (l : Launch) (d : gD) (b : Nat) (Y : gYt) (F : gM) (S : gSt) (hW : gWT d Y F S) (hl : l.stackTraces = false) (hv1 : sV S 1 = 4096) (hv27 : sV S 27 = 0) (i : Int32) (z : Nat) (g : Nat → Int64) (hb : F z = .inl (gJ d, 1, .inr (.inl g))) : Met l yL_word (.codeWith yL_word cL_word 4 (some .int) [(0, 9, 12, 13)] :: gWs) (gR 7 1 6) (va_Pc [.ref (gO' Y 0), .int i, .ref z] (gB d b F)) (va_Qi (fun r F' => (¬ i < 0 ∧ i < 4096 → r = 0) ∧ (i < 0 ∨ ¬ i < 4096 → r = 1) ∧ (∃ g' : Nat → Int64, F' z = .inl (gJ d, 1, .inr (.inl g')) ∧ (¬ i < 0 ∧ i < 4096 → g' 0 = 0)) ∧ ∀ x, x ≠ z → F' x = F x) (gB d b) (fun q => b ≤ q)) 1 6 (fun q => b ≤ q) := by
  refine gH_of2 rfl (nL := 4) (Nat.le_of_ble_eq_true rfl) ?_
  intro X hX hT hC; subst hX
  show gG X d b _ F 0 0 0 [some (.ref (gO' Y 0)), some (.int i), some (.ref z), none] []
  refine g_aload_n hC dL_word_0 rfl ?_
  refine g_iconst (v := 0) hC dL_word_1 rfl ?_
  refine g_aload_n hC dL_word_2 rfl ?_
  refine g_iload_n hC dL_word_3 rfl ?_
  refine g_xcallVi (As := [.int i]) hC rfl (hW.o 0 (by decide)) (c_W_word0 X.la d b Y F S hW hl hv1 hv27 i) cl_L_15 rfl rfl (Nat.le_of_ble_eq_true rfl) (gFit_of (Nat.le_of_ble_eq_true rfl) (Nat.le_of_ble_eq_true rfl) (by first | exact Nat.le_of_ble_eq_true rfl | omega | (simp only [gR]; omega)) (by first | exact Nat.le_of_ble_eq_true rfl | omega | (simp only [gR]; omega))) dL_word_4 (fun F1 p1 => ?_) (fun r1 F2 p2 => ?_)
  · have e1 := (p1.2).symm; subst e1
    refine g_xcatch (name := "java/util/NoSuchElementException") hC hT ⟨by decide, by decide⟩ (by decide) kw_1905 (by decide) (fun q => ?_)
    refine g_astore_n (lv' := [some (.ref (gO' Y 0)), some (.int i), some (.ref z), some (.ref q)]) hC dL_word_12 (Nat.le_of_ble_eq_true rfl) rfl rfl ?_
    refine g_iconst (v := 1) hC dL_word_13 rfl ?_
    exact g_iret hC rfl ⟨fun z => p1.1.elim (fun a => absurd a z.1) (fun a => absurd z.2 a), fun _ => rfl, ⟨_, hb, fun z => p1.1.elim (fun a => absurd a z.1) (fun a => absurd z.2 a)⟩, fun x _ => rfl⟩ (by first | exact Nat.le_of_ble_eq_true rfl | omega | (simp only [gR]; omega)) (by first | exact Nat.le_of_ble_eq_true rfl | omega | (simp only [gR]; omega)) dL_word_14
  · obtain ⟨hi, rfl, e2⟩ := p2; have e2 := e2.symm; subst e2
    refine g_i2l hC dL_word_7 ?_
    refine g_vl (fun x1 ex1 => ?_)
    refine g_last hC hb (vp_in_nI (n := 0) (by decide) (by decide)) dL_word_8 ?_
    refine g_vF (fun F3 h3 => ?_)
    refine g_goto (tgt := 15) hC dL_word_9 (by decide) ?_
    refine g_iconst (v := 0) hC dL_word_15 rfl ?_
    exact g_iret hC rfl ⟨fun _ => rfl, fun z => z.elim (fun a => absurd a hi.1) (fun a => absurd hi.2 a), ⟨_, by rw [h3]; exact va_up_self _ _ _, fun _ => by rw [ex1]; rfl⟩, fun x hx => by rw [h3, va_up_ne _ _ hx]⟩ (by first | exact Nat.le_of_ble_eq_true rfl | omega | (simp only [gR]; omega)) (by first | exact Nat.le_of_ble_eq_true rfl | omega | (simp only [gR]; omega)) dL_word_16
theorem cl_L_62 : gCSW RL 62 yL_outAt cL_outAt 5 (some .int) [(0, 10, 13, 13)] 4 := ⟨g_mk [.methodLink RL 62 yL_outAt, .static yL_outAt, .initialized yL_outAt.cls] (gWs_allW kw_1904) (List.forall_mem_cons.mpr ⟨kw_1902, List.forall_mem_cons.mpr ⟨kw_1903, List.forall_mem_cons.mpr ⟨kw_237, fun _ h => nomatch h⟩⟩⟩), by decide +kernel, by decide +kernel, by decide +kernel⟩
theorem cl_L_71 : gCSW RL 71 yL_word cL_word 4 (some .int) [(0, 9, 12, 13)] 3 := ⟨g_mk [.methodLink RL 71 yL_word, .static yL_word, .initialized yL_word.cls] (gWs_allW kw_1937) (List.forall_mem_cons.mpr ⟨kw_1935, List.forall_mem_cons.mpr ⟨kw_1936, List.forall_mem_cons.mpr ⟨kw_237, fun _ h => nomatch h⟩⟩⟩), by decide +kernel, by decide +kernel, by decide +kernel⟩
