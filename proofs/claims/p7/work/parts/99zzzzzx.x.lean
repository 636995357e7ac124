theorem kw_1627 : Cond.methodLink RX4 46 yX4_add ∈ gWs := List.mem_filter.mpr ⟨gMt6 _ (List.mem_of_getElem? (i := 190) rfl), rfl⟩
theorem cl_X4_46 : gCV RX4 46 yX4_add cX4_add 2 none 1 := ⟨g_mk [.methodLink RX4 46 yX4_add, .instanceMethod yX4_add, .selects yX4_add.cls yX4_add yX4_add, .initialized yX4_add.cls] (gWs_all kw_444) (List.forall_mem_cons.mpr ⟨kw_1627, List.forall_mem_cons.mpr ⟨kw_442, List.forall_mem_cons.mpr ⟨kw_443, List.forall_mem_cons.mpr ⟨kw_239, fun _ h => nomatch h⟩⟩⟩⟩), rfl, by decide +kernel, by decide +kernel, by decide +kernel⟩
theorem dX4_copyFrom_0 : decode cX4_copyFrom 0 = .ok (.aload_n 0, 1) := by decide +kernel
theorem dX4_copyFrom_1 : decode cX4_copyFrom 1 = .ok (.iconst 0, 1) := by decide +kernel
theorem dX4_copyFrom_2 : decode cX4_copyFrom 2 = .ok (.invokevirtual 39, 3) := by decide +kernel
theorem dX4_copyFrom_5 : decode cX4_copyFrom 5 = .ok (.iconst 0, 1) := by decide +kernel
theorem dX4_copyFrom_6 : decode cX4_copyFrom 6 = .ok (.istore_n 2, 1) := by decide +kernel
theorem dX4_copyFrom_7 : decode cX4_copyFrom 7 = .ok (.iload_n 2, 1) := by decide +kernel
theorem dX4_copyFrom_8 : decode cX4_copyFrom 8 = .ok (.aload_n 1, 1) := by decide +kernel
theorem dX4_copyFrom_9 : decode cX4_copyFrom 9 = .ok (.invokevirtual 43, 3) := by decide +kernel
theorem dX4_copyFrom_12 : decode cX4_copyFrom 12 = .ok (.if_icmp .ge 18, 3) := by decide +kernel
theorem dX4_copyFrom_15 : decode cX4_copyFrom 15 = .ok (.aload_n 0, 1) := by decide +kernel
theorem dX4_copyFrom_16 : decode cX4_copyFrom 16 = .ok (.aload_n 1, 1) := by decide +kernel
theorem dX4_copyFrom_17 : decode cX4_copyFrom 17 = .ok (.iload_n 2, 1) := by decide +kernel
theorem dX4_copyFrom_18 : decode cX4_copyFrom 18 = .ok (.invokevirtual 35, 3) := by decide +kernel
theorem dX4_copyFrom_21 : decode cX4_copyFrom 21 = .ok (.invokevirtual 46, 3) := by decide +kernel
theorem dX4_copyFrom_24 : decode cX4_copyFrom 24 = .ok (.iinc 2 1, 3) := by decide +kernel
theorem dX4_copyFrom_27 : decode cX4_copyFrom 27 = .ok (.goto (-20), 3) := by decide +kernel
theorem dX4_copyFrom_30 : decode cX4_copyFrom 30 = .ok (.return_, 1) := by decide +kernel
set_option maxHeartbeats 4000000 in
set_option maxRecDepth 100000 in
theorem s_I_copy34 (l : Launch) (d : gD) (b : Nat) (Y : gYt) (c : Nat × Nat) (F : gM) (k n : Nat) {S : gSt} (hi : hI d b Y c (F, k, n) S) (hA : gPsi S ≤ gAm) : hMv l d b yX4_copyFrom cX4_copyFrom 3 3 k n F [.ref (gA' Y 34), .ref (gA' Y 0)] (fun u => ∃ S', hI d b Y c u S' ∧ gKp Y F u.1 ∧ gSm S S' [34] [] ∧ gPsi S' ≤ gPsi S) := by
  intro mc ms
  refine hM_of2 rfl (nL := 3) (Nat.le_of_ble_eq_true rfl) ?_
  intro X hX hC hr ho; subst hX
  show hG X d b _ F k n 0 [some (.ref (gA' Y 34)), some (.ref (gA' Y 0)), none] []
  refine h_aload_n hC dX4_copyFrom_0 rfl ?_
  refine h_iconst (v := 0) hC dX4_copyFrom_1 rfl ?_
  refine hi_cut (j := 34) hC hr ho hi (by decide) cl_X4_39 rfl (Nat.le_of_ble_eq_true rfl) (hFr_of (Nat.le_of_ble_eq_true rfl) (Nat.le_of_ble_eq_true rfl)) dX4_copyFrom_2 (fun F1 S2 I3 K4 s5 a6 => ?_)
  have m7 : gSm S S2 [34] [] := gSm.wk s5 _ _ rfl rfl
  have Pa6 : gPsi S2 ≤ gPsi S := a6.2.2.2.2.2
  refine h_iconst (v := 0) hC dX4_copyFrom_5 rfl ?_
  refine h_istore_n (lv' := [some (.ref (gA' Y 34)), some (.ref (gA' Y 0)), some (.int 0)]) hC dX4_copyFrom_6 (Nat.le_of_ble_eq_true rfl) rfl rfl ?_
  have L9 : ∀ (m10 j11 : Nat), j11 + m10 = 2147483647 → ∀ (u14 : hU) (S15 : gSt), hI d b Y c u14 S15 → hOk X b u14.2.1 u14.2.2 → gKp Y F u14.1 → gSm S S15 [34] [] → (gPsi S15 ≤ gPsi S) → hG X d b (MQ X.be (va_Qv (fun u => ∃ S', hI d b Y c u S' ∧ gKp Y F u.1 ∧ gSm S S' [34] [] ∧ gPsi S' ≤ gPsi S) (hB d b) (fun q => b ≤ q)) X.ar X.st mc ms (fun q => b ≤ q)) u14.1 u14.2.1 u14.2.2 7 [some (.ref (gA' Y 34)), some (.ref (gA' Y 0)), some (.int (nI j11))] [] := by
    intro m10
    refine Nat.strongRecOn m10 (fun m10 ih12 j11 hj13 u14 S15 I16 o17 K18 m19 ips => ?_)
    refine h_iload_n hC dX4_copyFrom_7 rfl ?_
    refine h_aload_n hC dX4_copyFrom_8 rfl ?_
    refine hi_size (j := 0) hC hr o17 I16.1 (by decide) cl_X4_43 rfl (Nat.le_of_ble_eq_true rfl) (hFr_of (Nat.le_of_ble_eq_true rfl) (Nat.le_of_ble_eq_true rfl)) dX4_copyFrom_9 ?_
    refine h_icmp_ge (tgt := 30) hC dX4_copyFrom_12 (by decide) (fun c20 => ?_) (fun c20 => ?_)
    · exact h_vret hC hr o17 rfl rfl ⟨S15, I16, K18, m19, by omega⟩ dX4_copyFrom_30
    · have hlt := nI_ltP (by omega) c20
      refine h_aload_n hC dX4_copyFrom_15 rfl ?_
      refine h_aload_n hC dX4_copyFrom_16 rfl ?_
      refine h_iload_n hC dX4_copyFrom_17 rfl ?_
      refine hi_get (j := 0) hC hr o17 I16.1 (by decide) cl_X4_35 rfl (Nat.le_of_ble_eq_true rfl) (hFr_of (Nat.le_of_ble_eq_true rfl) (Nat.le_of_ble_eq_true rfl)) dX4_copyFrom_18 ?_
      refine h_vi (fun x21 ex21 => ?_)
      refine hi_add (j := 34) hC hr o17 I16 (by decide) ⟨fun q => absurd q (by decide), fun q => absurd q (by decide), by omega⟩ cl_X4_46 rfl (Nat.le_of_ble_eq_true rfl) (hFr_of (Nat.le_of_ble_eq_true rfl) (Nat.le_of_ble_eq_true rfl)) dX4_copyFrom_21 (fun u29 S23 I24 o28 K25 s26 a27 => ?_)
      have m30 : gSm S S23 [34] [] := m19.tr s26 _ _ rfl rfl
      have K31 := K18.tr K25
      have Pa27 : gPsi S23 = gPsi S15 := a27.2.2.2 (by decide)
      obtain ⟨x32, ex32⟩ : ∃ y : Int32, y = (nI j11) + 1 := ⟨_, rfl⟩
      refine h_iinc (v := x32) (lv' := [some (.ref (gA' Y 34)), some (.ref (gA' Y 0)), some (.int x32)]) hC dX4_copyFrom_24 rfl (by rw [ex32]; rfl) rfl rfl ?_
      refine h_goto (tgt := 7) hC dX4_copyFrom_27 (by decide) ?_
      have zJx32 : x32 = nI (j11 + 1) := by rw [ex32]; exact nI_suc
      subst zJx32
      refine h_lv (lv' := [some (.ref (gA' Y 34)), some (.ref (gA' Y 0)), some (.int (nI (j11 + 1)))]) (by repeat (first | exact trivial | refine ⟨rfl, ?_⟩ | exact trivial)) ?_
      exact ih12 (m10 - 1) (by omega) (j11 + 1) (by omega) _ S23  I24 o28 K31 m30 (by omega)
  refine h_lv (lv' := [some (.ref (gA' Y 34)), some (.ref (gA' Y 0)), some (.int 0)]) (by repeat (first | exact trivial | refine ⟨rfl, ?_⟩ | exact trivial)) ?_
  exact L9 (2147483647 - 0) 0 (by omega) (F1, k, n) S2  I3 ho K4 m7 (by omega)
set_option maxHeartbeats 4000000 in
set_option maxRecDepth 100000 in
theorem s_I_copy35 (l : Launch) (d : gD) (b : Nat) (Y : gYt) (c : Nat × Nat) (F : gM) (k n : Nat) {S : gSt} (hi : hI d b Y c (F, k, n) S) (hA : gPsi S ≤ gAm) : hMv l d b yX4_copyFrom cX4_copyFrom 3 3 k n F [.ref (gA' Y 35), .ref (gA' Y 0)] (fun u => ∃ S', hI d b Y c u S' ∧ gKp Y F u.1 ∧ gSm S S' [35] [] ∧ gPsi S' ≤ gPsi S) := by
  intro mc ms
  refine hM_of2 rfl (nL := 3) (Nat.le_of_ble_eq_true rfl) ?_
  intro X hX hC hr ho; subst hX
  show hG X d b _ F k n 0 [some (.ref (gA' Y 35)), some (.ref (gA' Y 0)), none] []
  refine h_aload_n hC dX4_copyFrom_0 rfl ?_
  refine h_iconst (v := 0) hC dX4_copyFrom_1 rfl ?_
  refine hi_cut (j := 35) hC hr ho hi (by decide) cl_X4_39 rfl (Nat.le_of_ble_eq_true rfl) (hFr_of (Nat.le_of_ble_eq_true rfl) (Nat.le_of_ble_eq_true rfl)) dX4_copyFrom_2 (fun F1 S2 I3 K4 s5 a6 => ?_)
  have m7 : gSm S S2 [35] [] := gSm.wk s5 _ _ rfl rfl
  have Pa6 : gPsi S2 ≤ gPsi S := a6.2.2.2.2.2
  refine h_iconst (v := 0) hC dX4_copyFrom_5 rfl ?_
  refine h_istore_n (lv' := [some (.ref (gA' Y 35)), some (.ref (gA' Y 0)), some (.int 0)]) hC dX4_copyFrom_6 (Nat.le_of_ble_eq_true rfl) rfl rfl ?_
  have L9 : ∀ (m10 j11 : Nat), j11 + m10 = 2147483647 → ∀ (u14 : hU) (S15 : gSt), hI d b Y c u14 S15 → hOk X b u14.2.1 u14.2.2 → gKp Y F u14.1 → gSm S S15 [35] [] → (gPsi S15 ≤ gPsi S) → hG X d b (MQ X.be (va_Qv (fun u => ∃ S', hI d b Y c u S' ∧ gKp Y F u.1 ∧ gSm S S' [35] [] ∧ gPsi S' ≤ gPsi S) (hB d b) (fun q => b ≤ q)) X.ar X.st mc ms (fun q => b ≤ q)) u14.1 u14.2.1 u14.2.2 7 [some (.ref (gA' Y 35)), some (.ref (gA' Y 0)), some (.int (nI j11))] [] := by
    intro m10
    refine Nat.strongRecOn m10 (fun m10 ih12 j11 hj13 u14 S15 I16 o17 K18 m19 ips => ?_)
    refine h_iload_n hC dX4_copyFrom_7 rfl ?_
    refine h_aload_n hC dX4_copyFrom_8 rfl ?_
    refine hi_size (j := 0) hC hr o17 I16.1 (by decide) cl_X4_43 rfl (Nat.le_of_ble_eq_true rfl) (hFr_of (Nat.le_of_ble_eq_true rfl) (Nat.le_of_ble_eq_true rfl)) dX4_copyFrom_9 ?_
    refine h_icmp_ge (tgt := 30) hC dX4_copyFrom_12 (by decide) (fun c20 => ?_) (fun c20 => ?_)
    · exact h_vret hC hr o17 rfl rfl ⟨S15, I16, K18, m19, by omega⟩ dX4_copyFrom_30
    · have hlt := nI_ltP (by omega) c20
      refine h_aload_n hC dX4_copyFrom_15 rfl ?_
      refine h_aload_n hC dX4_copyFrom_16 rfl ?_
      refine h_iload_n hC dX4_copyFrom_17 rfl ?_
      refine hi_get (j := 0) hC hr o17 I16.1 (by decide) cl_X4_35 rfl (Nat.le_of_ble_eq_true rfl) (hFr_of (Nat.le_of_ble_eq_true rfl) (Nat.le_of_ble_eq_true rfl)) dX4_copyFrom_18 ?_
      refine h_vi (fun x21 ex21 => ?_)
      refine hi_add (j := 35) hC hr o17 I16 (by decide) ⟨fun q => absurd q (by decide), fun q => absurd q (by decide), by omega⟩ cl_X4_46 rfl (Nat.le_of_ble_eq_true rfl) (hFr_of (Nat.le_of_ble_eq_true rfl) (Nat.le_of_ble_eq_true rfl)) dX4_copyFrom_21 (fun u29 S23 I24 o28 K25 s26 a27 => ?_)
      have m30 : gSm S S23 [35] [] := m19.tr s26 _ _ rfl rfl
      have K31 := K18.tr K25
      have Pa27 : gPsi S23 = gPsi S15 := a27.2.2.2 (by decide)
      obtain ⟨x32, ex32⟩ : ∃ y : Int32, y = (nI j11) + 1 := ⟨_, rfl⟩
      refine h_iinc (v := x32) (lv' := [some (.ref (gA' Y 35)), some (.ref (gA' Y 0)), some (.int x32)]) hC dX4_copyFrom_24 rfl (by rw [ex32]; rfl) rfl rfl ?_
      refine h_goto (tgt := 7) hC dX4_copyFrom_27 (by decide) ?_
      have zJx32 : x32 = nI (j11 + 1) := by rw [ex32]; exact nI_suc
      subst zJx32
      refine h_lv (lv' := [some (.ref (gA' Y 35)), some (.ref (gA' Y 0)), some (.int (nI (j11 + 1)))]) (by repeat (first | exact trivial | refine ⟨rfl, ?_⟩ | exact trivial)) ?_
      exact ih12 (m10 - 1) (by omega) (j11 + 1) (by omega) _ S23  I24 o28 K31 m30 (by omega)
  refine h_lv (lv' := [some (.ref (gA' Y 35)), some (.ref (gA' Y 0)), some (.int 0)]) (by repeat (first | exact trivial | refine ⟨rfl, ?_⟩ | exact trivial)) ?_
  exact L9 (2147483647 - 0) 0 (by omega) (F1, k, n) S2  I3 ho K4 m7 (by omega)
set_option maxHeartbeats 4000000 in
set_option maxRecDepth 100000 in
theorem s_I_copy36 (l : Launch) (d : gD) (b : Nat) (Y : gYt) (c : Nat × Nat) (F : gM) (k n : Nat) {S : gSt} (hi : hI d b Y c (F, k, n) S) (hA : gPsi S ≤ gAm) : hMv l d b yX4_copyFrom cX4_copyFrom 3 3 k n F [.ref (gA' Y 36), .ref (gA' Y 0)] (fun u => ∃ S', hI d b Y c u S' ∧ gKp Y F u.1 ∧ gSm S S' [36] [] ∧ gPsi S' ≤ gPsi S) := by
  intro mc ms
  refine hM_of2 rfl (nL := 3) (Nat.le_of_ble_eq_true rfl) ?_
  intro X hX hC hr ho; subst hX
  show hG X d b _ F k n 0 [some (.ref (gA' Y 36)), some (.ref (gA' Y 0)), none] []
  refine h_aload_n hC dX4_copyFrom_0 rfl ?_
  refine h_iconst (v := 0) hC dX4_copyFrom_1 rfl ?_
  refine hi_cut (j := 36) hC hr ho hi (by decide) cl_X4_39 rfl (Nat.le_of_ble_eq_true rfl) (hFr_of (Nat.le_of_ble_eq_true rfl) (Nat.le_of_ble_eq_true rfl)) dX4_copyFrom_2 (fun F1 S2 I3 K4 s5 a6 => ?_)
  have m7 : gSm S S2 [36] [] := gSm.wk s5 _ _ rfl rfl
  have Pa6 : gPsi S2 ≤ gPsi S := a6.2.2.2.2.2
  refine h_iconst (v := 0) hC dX4_copyFrom_5 rfl ?_
  refine h_istore_n (lv' := [some (.ref (gA' Y 36)), some (.ref (gA' Y 0)), some (.int 0)]) hC dX4_copyFrom_6 (Nat.le_of_ble_eq_true rfl) rfl rfl ?_
  have L9 : ∀ (m10 j11 : Nat), j11 + m10 = 2147483647 → ∀ (u14 : hU) (S15 : gSt), hI d b Y c u14 S15 → hOk X b u14.2.1 u14.2.2 → gKp Y F u14.1 → gSm S S15 [36] [] → (gPsi S15 ≤ gPsi S) → hG X d b (MQ X.be (va_Qv (fun u => ∃ S', hI d b Y c u S' ∧ gKp Y F u.1 ∧ gSm S S' [36] [] ∧ gPsi S' ≤ gPsi S) (hB d b) (fun q => b ≤ q)) X.ar X.st mc ms (fun q => b ≤ q)) u14.1 u14.2.1 u14.2.2 7 [some (.ref (gA' Y 36)), some (.ref (gA' Y 0)), some (.int (nI j11))] [] := by
    intro m10
    refine Nat.strongRecOn m10 (fun m10 ih12 j11 hj13 u14 S15 I16 o17 K18 m19 ips => ?_)
    refine h_iload_n hC dX4_copyFrom_7 rfl ?_
    refine h_aload_n hC dX4_copyFrom_8 rfl ?_
    refine hi_size (j := 0) hC hr o17 I16.1 (by decide) cl_X4_43 rfl (Nat.le_of_ble_eq_true rfl) (hFr_of (Nat.le_of_ble_eq_true rfl) (Nat.le_of_ble_eq_true rfl)) dX4_copyFrom_9 ?_
    refine h_icmp_ge (tgt := 30) hC dX4_copyFrom_12 (by decide) (fun c20 => ?_) (fun c20 => ?_)
    · exact h_vret hC hr o17 rfl rfl ⟨S15, I16, K18, m19, by omega⟩ dX4_copyFrom_30
    · have hlt := nI_ltP (by omega) c20
      refine h_aload_n hC dX4_copyFrom_15 rfl ?_
      refine h_aload_n hC dX4_copyFrom_16 rfl ?_
      refine h_iload_n hC dX4_copyFrom_17 rfl ?_
      refine hi_get (j := 0) hC hr o17 I16.1 (by decide) cl_X4_35 rfl (Nat.le_of_ble_eq_true rfl) (hFr_of (Nat.le_of_ble_eq_true rfl) (Nat.le_of_ble_eq_true rfl)) dX4_copyFrom_18 ?_
      refine h_vi (fun x21 ex21 => ?_)
      refine hi_add (j := 36) hC hr o17 I16 (by decide) ⟨fun q => absurd q (by decide), fun q => absurd q (by decide), by omega⟩ cl_X4_46 rfl (Nat.le_of_ble_eq_true rfl) (hFr_of (Nat.le_of_ble_eq_true rfl) (Nat.le_of_ble_eq_true rfl)) dX4_copyFrom_21 (fun u29 S23 I24 o28 K25 s26 a27 => ?_)
      have m30 : gSm S S23 [36] [] := m19.tr s26 _ _ rfl rfl
      have K31 := K18.tr K25
      have Pa27 : gPsi S23 = gPsi S15 := a27.2.2.2 (by decide)
      obtain ⟨x32, ex32⟩ : ∃ y : Int32, y = (nI j11) + 1 := ⟨_, rfl⟩
      refine h_iinc (v := x32) (lv' := [some (.ref (gA' Y 36)), some (.ref (gA' Y 0)), some (.int x32)]) hC dX4_copyFrom_24 rfl (by rw [ex32]; rfl) rfl rfl ?_
      refine h_goto (tgt := 7) hC dX4_copyFrom_27 (by decide) ?_
      have zJx32 : x32 = nI (j11 + 1) := by rw [ex32]; exact nI_suc
      subst zJx32
      refine h_lv (lv' := [some (.ref (gA' Y 36)), some (.ref (gA' Y 0)), some (.int (nI (j11 + 1)))]) (by repeat (first | exact trivial | refine ⟨rfl, ?_⟩ | exact trivial)) ?_
      exact ih12 (m10 - 1) (by omega) (j11 + 1) (by omega) _ S23  I24 o28 K31 m30 (by omega)
  refine h_lv (lv' := [some (.ref (gA' Y 36)), some (.ref (gA' Y 0)), some (.int 0)]) (by repeat (first | exact trivial | refine ⟨rfl, ?_⟩ | exact trivial)) ?_
  exact L9 (2147483647 - 0) 0 (by omega) (F1, k, n) S2  I3 ho K4 m7 (by omega)
set_option maxHeartbeats 4000000 in
set_option maxRecDepth 100000 in
theorem s_I_copy37 (l : Launch) (d : gD) (b : Nat) (Y : gYt) (c : Nat × Nat) (F : gM) (k n : Nat) {S : gSt} (hi : hI d b Y c (F, k, n) S) (hA : gPsi S ≤ gAm) : hMv l d b yX4_copyFrom cX4_copyFrom 3 3 k n F [.ref (gA' Y 37), .ref (gA' Y 0)] (fun u => ∃ S', hI d b Y c u S' ∧ gKp Y F u.1 ∧ gSm S S' [37] [] ∧ gPsi S' ≤ gPsi S) := by
  intro mc ms
  refine hM_of2 rfl (nL := 3) (Nat.le_of_ble_eq_true rfl) ?_
  intro X hX hC hr ho; subst hX
  show hG X d b _ F k n 0 [some (.ref (gA' Y 37)), some (.ref (gA' Y 0)), none] []
  refine h_aload_n hC dX4_copyFrom_0 rfl ?_
  refine h_iconst (v := 0) hC dX4_copyFrom_1 rfl ?_
  refine hi_cut (j := 37) hC hr ho hi (by decide) cl_X4_39 rfl (Nat.le_of_ble_eq_true rfl) (hFr_of (Nat.le_of_ble_eq_true rfl) (Nat.le_of_ble_eq_true rfl)) dX4_copyFrom_2 (fun F1 S2 I3 K4 s5 a6 => ?_)
  have m7 : gSm S S2 [37] [] := gSm.wk s5 _ _ rfl rfl
  have Pa6 : gPsi S2 ≤ gPsi S := a6.2.2.2.2.2
  refine h_iconst (v := 0) hC dX4_copyFrom_5 rfl ?_
  refine h_istore_n (lv' := [some (.ref (gA' Y 37)), some (.ref (gA' Y 0)), some (.int 0)]) hC dX4_copyFrom_6 (Nat.le_of_ble_eq_true rfl) rfl rfl ?_
  have L9 : ∀ (m10 j11 : Nat), j11 + m10 = 2147483647 → ∀ (u14 : hU) (S15 : gSt), hI d b Y c u14 S15 → hOk X b u14.2.1 u14.2.2 → gKp Y F u14.1 → gSm S S15 [37] [] → (gPsi S15 ≤ gPsi S) → hG X d b (MQ X.be (va_Qv (fun u => ∃ S', hI d b Y c u S' ∧ gKp Y F u.1 ∧ gSm S S' [37] [] ∧ gPsi S' ≤ gPsi S) (hB d b) (fun q => b ≤ q)) X.ar X.st mc ms (fun q => b ≤ q)) u14.1 u14.2.1 u14.2.2 7 [some (.ref (gA' Y 37)), some (.ref (gA' Y 0)), some (.int (nI j11))] [] := by
    intro m10
    refine Nat.strongRecOn m10 (fun m10 ih12 j11 hj13 u14 S15 I16 o17 K18 m19 ips => ?_)
    refine h_iload_n hC dX4_copyFrom_7 rfl ?_
    refine h_aload_n hC dX4_copyFrom_8 rfl ?_
    refine hi_size (j := 0) hC hr o17 I16.1 (by decide) cl_X4_43 rfl (Nat.le_of_ble_eq_true rfl) (hFr_of (Nat.le_of_ble_eq_true rfl) (Nat.le_of_ble_eq_true rfl)) dX4_copyFrom_9 ?_
    refine h_icmp_ge (tgt := 30) hC dX4_copyFrom_12 (by decide) (fun c20 => ?_) (fun c20 => ?_)
    · exact h_vret hC hr o17 rfl rfl ⟨S15, I16, K18, m19, by omega⟩ dX4_copyFrom_30
    · have hlt := nI_ltP (by omega) c20
      refine h_aload_n hC dX4_copyFrom_15 rfl ?_
      refine h_aload_n hC dX4_copyFrom_16 rfl ?_
      refine h_iload_n hC dX4_copyFrom_17 rfl ?_
      refine hi_get (j := 0) hC hr o17 I16.1 (by decide) cl_X4_35 rfl (Nat.le_of_ble_eq_true rfl) (hFr_of (Nat.le_of_ble_eq_true rfl) (Nat.le_of_ble_eq_true rfl)) dX4_copyFrom_18 ?_
      refine h_vi (fun x21 ex21 => ?_)
      refine hi_add (j := 37) hC hr o17 I16 (by decide) ⟨fun q => absurd q (by decide), fun q => absurd q (by decide), by omega⟩ cl_X4_46 rfl (Nat.le_of_ble_eq_true rfl) (hFr_of (Nat.le_of_ble_eq_true rfl) (Nat.le_of_ble_eq_true rfl)) dX4_copyFrom_21 (fun u29 S23 I24 o28 K25 s26 a27 => ?_)
      have m30 : gSm S S23 [37] [] := m19.tr s26 _ _ rfl rfl
      have K31 := K18.tr K25
      have Pa27 : gPsi S23 = gPsi S15 := a27.2.2.2 (by decide)
      obtain ⟨x32, ex32⟩ : ∃ y : Int32, y = (nI j11) + 1 := ⟨_, rfl⟩
      refine h_iinc (v := x32) (lv' := [some (.ref (gA' Y 37)), some (.ref (gA' Y 0)), some (.int x32)]) hC dX4_copyFrom_24 rfl (by rw [ex32]; rfl) rfl rfl ?_
      refine h_goto (tgt := 7) hC dX4_copyFrom_27 (by decide) ?_
      have zJx32 : x32 = nI (j11 + 1) := by rw [ex32]; exact nI_suc
      subst zJx32
      refine h_lv (lv' := [some (.ref (gA' Y 37)), some (.ref (gA' Y 0)), some (.int (nI (j11 + 1)))]) (by repeat (first | exact trivial | refine ⟨rfl, ?_⟩ | exact trivial)) ?_
      exact ih12 (m10 - 1) (by omega) (j11 + 1) (by omega) _ S23  I24 o28 K31 m30 (by omega)
  refine h_lv (lv' := [some (.ref (gA' Y 37)), some (.ref (gA' Y 0)), some (.int 0)]) (by repeat (first | exact trivial | refine ⟨rfl, ?_⟩ | exact trivial)) ?_
  exact L9 (2147483647 - 0) 0 (by omega) (F1, k, n) S2  I3 ho K4 m7 (by omega)
theorem dX0_take_0 : decode cX0_take 0 = .ok (.aload_n 0, 1) := by decide +kernel
theorem dX0_take_1 : decode cX0_take 1 = .ok (.iload_n 1, 1) := by decide +kernel
theorem dX0_take_2 : decode cX0_take 2 = .ok (.invokevirtual 34, 3) := by decide +kernel
theorem dX0_take_5 : decode cX0_take 5 = .ok (.ifCond .ne 5, 3) := by decide +kernel
theorem dX0_take_8 : decode cX0_take 8 = .ok (.iconst (-1), 1) := by decide +kernel
theorem dX0_take_9 : decode cX0_take 9 = .ok (.ireturn, 1) := by decide +kernel
theorem dX0_take_10 : decode cX0_take 10 = .ok (.aload_n 0, 1) := by decide +kernel
theorem dX0_take_11 : decode cX0_take 11 = .ok (.getfield 14, 3) := by decide +kernel
theorem dX0_take_14 : decode cX0_take 14 = .ok (.iload_n 1, 1) := by decide +kernel
theorem dX0_take_15 : decode cX0_take 15 = .ok (.aaload, 1) := by decide +kernel
theorem dX0_take_16 : decode cX0_take 16 = .ok (.aload_n 2, 1) := by decide +kernel
theorem dX0_take_17 : decode cX0_take 17 = .ok (.invokevirtual 38, 3) := by decide +kernel
theorem dX0_take_20 : decode cX0_take 20 = .ok (.aload_n 0, 1) := by decide +kernel
theorem dX0_take_21 : decode cX0_take 21 = .ok (.getfield 20, 3) := by decide +kernel
theorem dX0_take_24 : decode cX0_take 24 = .ok (.iload_n 1, 1) := by decide +kernel
theorem dX0_take_25 : decode cX0_take 25 = .ok (.iconst 0, 1) := by decide +kernel
theorem dX0_take_26 : decode cX0_take 26 = .ok (.iastore, 1) := by decide +kernel
theorem dX0_take_27 : decode cX0_take 27 = .ok (.aload_n 0, 1) := by decide +kernel
theorem dX0_take_28 : decode cX0_take 28 = .ok (.getfield 14, 3) := by decide +kernel
theorem dX0_take_31 : decode cX0_take 31 = .ok (.iload_n 1, 1) := by decide +kernel
theorem dX0_take_32 : decode cX0_take 32 = .ok (.aaload, 1) := by decide +kernel
theorem dX0_take_33 : decode cX0_take 33 = .ok (.invokevirtual 42, 3) := by decide +kernel
theorem dX0_take_36 : decode cX0_take 36 = .ok (.ireturn, 1) := by decide +kernel
set_option maxHeartbeats 4000000 in
set_option maxRecDepth 100000 in
theorem s_C_take (l : Launch) (d : gD) (b : Nat) (Y : gYt) (c : Nat × Nat) (F : gM) (k n : Nat) {S : gSt} (hi : hI d b Y c (F, k, n) S) (hA : gPsi S ≤ gAm) (x : Int32) : hMi l d b yX0_take cX0_take 3 .int 4 k n F [.ref (gO' Y 6), .int x, .ref (gA' Y 0)] (fun r u => ∃ S', hI d b Y c u S' ∧ gKp Y F u.1 ∧ gSm S S' [34, 35, 36, 37, 44] [] ∧ gPsi S' ≤ gPsi S) := by
  intro mc ms
  refine hM_of2 rfl (nL := 3) (Nat.le_of_ble_eq_true rfl) ?_
  intro X hX hC hr ho; subst hX
  show hG X d b _ F k n 0 [some (.ref (gO' Y 6)), some (.int x), some (.ref (gA' Y 0))] []
  refine h_aload_n hC dX0_take_0 rfl ?_
  refine h_iload_n hC dX0_take_1 rfl ?_
  refine g_callVi (As := [.int x]) hC rfl (hi.1.o 6 (by decide)) (c_C_isInput X.la d b Y _ S hi.1 x) cl_X0_34 rfl rfl (Nat.le_of_ble_eq_true rfl) (h_fit0 hC hr ho (hFr_of (Nat.le_of_ble_eq_true rfl) (Nat.le_of_ble_eq_true rfl))) dX0_take_2 (fun r1 F2 p3 => ?_)
  obtain ⟨zr1, yr1, eF2⟩ := p3; have eF2 := eF2.symm; subst eF2
  refine h_same hC ho ?_
  refine h_if_ne (tgt := 10) hC dX0_take_5 (by decide) (fun c4 => ?_) (fun c4 => ?_)
  · obtain ⟨N5, hN5, e6⟩ := hin_of (by decide) zr1 c4
    obtain rfl | rfl | rfl | rfl := (by omega : N5 = 0 ∨ N5 = 1 ∨ N5 = 2 ∨ N5 = 3)
    · refine h_aload_n hC dX0_take_10 rfl ?_
      refine h_get hC fl_X0_14 (hi.1.o 6 (by decide)) rfl dX0_take_11 ?_
      refine h_iload_n hC dX0_take_14 rfl ?_
      refine hi_aald0 hC hi (N := 0) e6 (by decide) dX0_take_15 ?_
      refine h_aload_n hC dX0_take_16 rfl ?_
      refine h_callVv (As := [.ref (gA' Y 0)]) hC hr ho rfl (hi.1.r 34 (by decide)).1 (s_I_copy34 X.la d b Y c _ _ _ hi (by omega)) cl_X0_38 rfl rfl (Nat.le_of_ble_eq_true rfl) (hFr_of (Nat.le_of_ble_eq_true rfl) (Nat.le_of_ble_eq_true rfl)) dX0_take_17 (fun u7 p8 o9 => ?_)
      obtain ⟨S10, I11, K12, s13, q14⟩ := p8
      have m15 : gSm S S10 [34, 35, 36, 37, 44] [] := gSm.wk s13 _ _ rfl rfl
      refine h_aload_n hC dX0_take_20 rfl ?_
      refine h_get hC fl_X0_20 (I11.1.o 6 (by decide)) rfl dX0_take_21 ?_
      refine h_iload_n hC dX0_take_24 rfl ?_
      refine h_iconst (v := 0) hC dX0_take_25 rfl ?_
      refine hi_pst hC I11 (by rw [e6]; exact vp_in_nI (by decide) (by decide)) dX0_take_26 (fun F17 S18 I19 K20 s21 p22 => ?_)
      have m23 : gSm S S18 [34, 35, 36, 37, 44] [] := m15.tr s21 _ _ rfl rfl
      have K24 := K12.tr K20
      refine h_aload_n hC dX0_take_27 rfl ?_
      refine h_get hC fl_X0_14 (I19.1.o 6 (by decide)) rfl dX0_take_28 ?_
      refine h_iload_n hC dX0_take_31 rfl ?_
      refine hi_aald0 hC I19 (N := 0) e6 (by decide) dX0_take_32 ?_
      refine hi_size (j := 34) hC hr o9 I19.1 (by decide) cl_X0_42 rfl (Nat.le_of_ble_eq_true rfl) (hFr_of (Nat.le_of_ble_eq_true rfl) (Nat.le_of_ble_eq_true rfl)) dX0_take_33 ?_
      exact h_iret hC hr o9 rfl rfl rfl ⟨S18, I19, K24, m23, by omega⟩ dX0_take_36
    · refine h_aload_n hC dX0_take_10 rfl ?_
      refine h_get hC fl_X0_14 (hi.1.o 6 (by decide)) rfl dX0_take_11 ?_
      refine h_iload_n hC dX0_take_14 rfl ?_
      refine hi_aald0 hC hi (N := 1) e6 (by decide) dX0_take_15 ?_
      refine h_aload_n hC dX0_take_16 rfl ?_
      refine h_callVv (As := [.ref (gA' Y 0)]) hC hr ho rfl (hi.1.r 35 (by decide)).1 (s_I_copy35 X.la d b Y c _ _ _ hi (by omega)) cl_X0_38 rfl rfl (Nat.le_of_ble_eq_true rfl) (hFr_of (Nat.le_of_ble_eq_true rfl) (Nat.le_of_ble_eq_true rfl)) dX0_take_17 (fun u25 p26 o27 => ?_)
      obtain ⟨S28, I29, K30, s31, q32⟩ := p26
      have m33 : gSm S S28 [34, 35, 36, 37, 44] [] := gSm.wk s31 _ _ rfl rfl
      refine h_aload_n hC dX0_take_20 rfl ?_
      refine h_get hC fl_X0_20 (I29.1.o 6 (by decide)) rfl dX0_take_21 ?_
      refine h_iload_n hC dX0_take_24 rfl ?_
      refine h_iconst (v := 0) hC dX0_take_25 rfl ?_
      refine hi_pst hC I29 (by rw [e6]; exact vp_in_nI (by decide) (by decide)) dX0_take_26 (fun F35 S36 I37 K38 s39 p40 => ?_)
      have m41 : gSm S S36 [34, 35, 36, 37, 44] [] := m33.tr s39 _ _ rfl rfl
      have K42 := K30.tr K38
      refine h_aload_n hC dX0_take_27 rfl ?_
      refine h_get hC fl_X0_14 (I37.1.o 6 (by decide)) rfl dX0_take_28 ?_
      refine h_iload_n hC dX0_take_31 rfl ?_
      refine hi_aald0 hC I37 (N := 1) e6 (by decide) dX0_take_32 ?_
      refine hi_size (j := 35) hC hr o27 I37.1 (by decide) cl_X0_42 rfl (Nat.le_of_ble_eq_true rfl) (hFr_of (Nat.le_of_ble_eq_true rfl) (Nat.le_of_ble_eq_true rfl)) dX0_take_33 ?_
      exact h_iret hC hr o27 rfl rfl rfl ⟨S36, I37, K42, m41, by omega⟩ dX0_take_36
    · refine h_aload_n hC dX0_take_10 rfl ?_
      refine h_get hC fl_X0_14 (hi.1.o 6 (by decide)) rfl dX0_take_11 ?_
      refine h_iload_n hC dX0_take_14 rfl ?_
      refine hi_aald0 hC hi (N := 2) e6 (by decide) dX0_take_15 ?_
      refine h_aload_n hC dX0_take_16 rfl ?_
      refine h_callVv (As := [.ref (gA' Y 0)]) hC hr ho rfl (hi.1.r 36 (by decide)).1 (s_I_copy36 X.la d b Y c _ _ _ hi (by omega)) cl_X0_38 rfl rfl (Nat.le_of_ble_eq_true rfl) (hFr_of (Nat.le_of_ble_eq_true rfl) (Nat.le_of_ble_eq_true rfl)) dX0_take_17 (fun u43 p44 o45 => ?_)
      obtain ⟨S46, I47, K48, s49, q50⟩ := p44
      have m51 : gSm S S46 [34, 35, 36, 37, 44] [] := gSm.wk s49 _ _ rfl rfl
      refine h_aload_n hC dX0_take_20 rfl ?_
      refine h_get hC fl_X0_20 (I47.1.o 6 (by decide)) rfl dX0_take_21 ?_
      refine h_iload_n hC dX0_take_24 rfl ?_
      refine h_iconst (v := 0) hC dX0_take_25 rfl ?_
      refine hi_pst hC I47 (by rw [e6]; exact vp_in_nI (by decide) (by decide)) dX0_take_26 (fun F53 S54 I55 K56 s57 p58 => ?_)
      have m59 : gSm S S54 [34, 35, 36, 37, 44] [] := m51.tr s57 _ _ rfl rfl
      have K60 := K48.tr K56
      refine h_aload_n hC dX0_take_27 rfl ?_
      refine h_get hC fl_X0_14 (I55.1.o 6 (by decide)) rfl dX0_take_28 ?_
      refine h_iload_n hC dX0_take_31 rfl ?_
      refine hi_aald0 hC I55 (N := 2) e6 (by decide) dX0_take_32 ?_
      refine hi_size (j := 36) hC hr o45 I55.1 (by decide) cl_X0_42 rfl (Nat.le_of_ble_eq_true rfl) (hFr_of (Nat.le_of_ble_eq_true rfl) (Nat.le_of_ble_eq_true rfl)) dX0_take_33 ?_
      exact h_iret hC hr o45 rfl rfl rfl ⟨S54, I55, K60, m59, by omega⟩ dX0_take_36
    · refine h_aload_n hC dX0_take_10 rfl ?_
      refine h_get hC fl_X0_14 (hi.1.o 6 (by decide)) rfl dX0_take_11 ?_
      refine h_iload_n hC dX0_take_14 rfl ?_
      refine hi_aald0 hC hi (N := 3) e6 (by decide) dX0_take_15 ?_
      refine h_aload_n hC dX0_take_16 rfl ?_
      refine h_callVv (As := [.ref (gA' Y 0)]) hC hr ho rfl (hi.1.r 37 (by decide)).1 (s_I_copy37 X.la d b Y c _ _ _ hi (by omega)) cl_X0_38 rfl rfl (Nat.le_of_ble_eq_true rfl) (hFr_of (Nat.le_of_ble_eq_true rfl) (Nat.le_of_ble_eq_true rfl)) dX0_take_17 (fun u61 p62 o63 => ?_)
      obtain ⟨S64, I65, K66, s67, q68⟩ := p62
      have m69 : gSm S S64 [34, 35, 36, 37, 44] [] := gSm.wk s67 _ _ rfl rfl
      refine h_aload_n hC dX0_take_20 rfl ?_
      refine h_get hC fl_X0_20 (I65.1.o 6 (by decide)) rfl dX0_take_21 ?_
      refine h_iload_n hC dX0_take_24 rfl ?_
      refine h_iconst (v := 0) hC dX0_take_25 rfl ?_
      refine hi_pst hC I65 (by rw [e6]; exact vp_in_nI (by decide) (by decide)) dX0_take_26 (fun F71 S72 I73 K74 s75 p76 => ?_)
      have m77 : gSm S S72 [34, 35, 36, 37, 44] [] := m69.tr s75 _ _ rfl rfl
      have K78 := K66.tr K74
      refine h_aload_n hC dX0_take_27 rfl ?_
      refine h_get hC fl_X0_14 (I73.1.o 6 (by decide)) rfl dX0_take_28 ?_
      refine h_iload_n hC dX0_take_31 rfl ?_
      refine hi_aald0 hC I73 (N := 3) e6 (by decide) dX0_take_32 ?_
      refine hi_size (j := 37) hC hr o63 I73.1 (by decide) cl_X0_42 rfl (Nat.le_of_ble_eq_true rfl) (hFr_of (Nat.le_of_ble_eq_true rfl) (Nat.le_of_ble_eq_true rfl)) dX0_take_33 ?_
      exact h_iret hC hr o63 rfl rfl rfl ⟨S72, I73, K78, m77, by omega⟩ dX0_take_36
  · refine h_iconst (v := (-1)) hC dX0_take_8 rfl ?_
    exact h_iret hC hr ho rfl rfl rfl ⟨S, hi, gKp.rf, gSm.rf, by omega⟩ dX0_take_9
theorem dX11_input_0 : decode cX11_input 0 = .ok (.aload_n 0, 1) := by decide +kernel
theorem dX11_input_1 : decode cX11_input 1 = .ok (.getfield 62, 3) := by decide +kernel
theorem dX11_input_4 : decode cX11_input 4 = .ok (.iload_n 1, 1) := by decide +kernel
theorem dX11_input_5 : decode cX11_input 5 = .ok (.aload_n 0, 1) := by decide +kernel
theorem dX11_input_6 : decode cX11_input 6 = .ok (.getfield 14, 3) := by decide +kernel
theorem dX11_input_9 : decode cX11_input 9 = .ok (.invokevirtual 130, 3) := by decide +kernel
theorem dX11_input_12 : decode cX11_input 12 = .ok (.istore_n 2, 1) := by decide +kernel
theorem dX11_input_13 : decode cX11_input 13 = .ok (.aload_n 0, 1) := by decide +kernel
theorem dX11_input_14 : decode cX11_input 14 = .ok (.getfield 14, 3) := by decide +kernel
theorem dX11_input_17 : decode cX11_input 17 = .ok (.iconst 0, 1) := by decide +kernel
theorem dX11_input_18 : decode cX11_input 18 = .ok (.invokevirtual 92, 3) := by decide +kernel
theorem dX11_input_21 : decode cX11_input 21 = .ok (.iload_n 2, 1) := by decide +kernel
theorem dX11_input_22 : decode cX11_input 22 = .ok (.ireturn, 1) := by decide +kernel
set_option maxHeartbeats 4000000 in
set_option maxRecDepth 100000 in
theorem s_W_input (l : Launch) (d : gD) (b : Nat) (Y : gYt) (c : Nat × Nat) (F : gM) (k n : Nat) {S : gSt} (hi : hI d b Y c (F, k, n) S) (hA : gPsi S ≤ gAm) (x : Int32) : hMi l d b yX11_input cX11_input 3 .int 5 k n F [.ref (gO' Y 0), .int x] (fun r u => ∃ S', hI d b Y c u S' ∧ gKp Y F u.1 ∧ gSm S S' [0, 34, 35, 36, 37, 44] [] ∧ sZ S' 0 ≤ sZ S 0 ∧ gPsi S' ≤ gPsi S) := by
  intro mc ms
  refine hM_of2 rfl (nL := 3) (Nat.le_of_ble_eq_true rfl) ?_
  intro X hX hC hr ho; subst hX
  show hG X d b _ F k n 0 [some (.ref (gO' Y 0)), some (.int x), none] []
  refine h_aload_n hC dX11_input_0 rfl ?_
  refine h_get hC fl_X11_62 (hi.1.o 0 (by decide)) rfl dX11_input_1 ?_
  refine h_iload_n hC dX11_input_4 rfl ?_
  refine h_aload_n hC dX11_input_5 rfl ?_
  refine h_get hC fl_X11_14 (hi.1.o 0 (by decide)) rfl dX11_input_6 ?_
  refine h_callVi (As := [.int x, .ref (gA' Y 0)]) hC hr ho rfl (hi.1.o 6 (by decide)) (s_C_take X.la d b Y c _ _ _ hi (by omega) x) cl_X11_130 rfl rfl (Nat.le_of_ble_eq_true rfl) (hFr_of (Nat.le_of_ble_eq_true rfl) (Nat.le_of_ble_eq_true rfl)) dX11_input_9 (fun r4 u1 p2 o3 => ?_)
  obtain ⟨S5, I6, K7, s8, q9⟩ := p2
  have m10 : gSm S S5 [0, 34, 35, 36, 37, 44] [] := gSm.wk s8 _ _ rfl rfl
  refine h_istore_n (lv' := [some (.ref (gO' Y 0)), some (.int x), some (.int r4)]) hC dX11_input_12 (Nat.le_of_ble_eq_true rfl) rfl rfl ?_
  refine h_aload_n hC dX11_input_13 rfl ?_
  refine h_get hC fl_X11_14 (I6.1.o 0 (by decide)) rfl dX11_input_14 ?_
  refine h_iconst (v := 0) hC dX11_input_17 rfl ?_
  refine hi_cut (j := 0) hC hr o3 I6 (by decide) cl_X11_92 rfl (Nat.le_of_ble_eq_true rfl) (hFr_of (Nat.le_of_ble_eq_true rfl) (Nat.le_of_ble_eq_true rfl)) dX11_input_18 (fun F12 S13 I14 K15 s16 a17 => ?_)
  have m18 : gSm S S13 [0, 34, 35, 36, 37, 44] [] := m10.tr s16 _ _ rfl rfl
  have K19 := K7.tr K15
  have Pa17 : gPsi S13 ≤ gPsi S5 := a17.2.2.2.2.2
  refine h_iload_n hC dX11_input_21 rfl ?_
  exact h_iret hC hr o3 rfl rfl rfl ⟨S13, I14, K19, m18, Nat.le_trans a17.2.2.2.2.1 (Nat.le_of_eq (s8.z 0 (by decide))), by omega⟩ dX11_input_22
