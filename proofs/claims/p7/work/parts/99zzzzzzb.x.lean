/-- adds to row i cost: cells, slots -/
theorem va_up0 {α : Type} {f : Nat → α} {i : Nat} {v : α} : va_up f i v i = v := va_up_self _ _ _
theorem gGrow {n z : Nat} (h : n ≤ 16 + 2 * z) (hz : z ≤ 5000) : gAs 1000000 n z + 2 * n ≤ 2 * gAn 1000000 n z := by
  unfold gAs gAn
  split
  · omega
  · rw [Nat.min_eq_right (by omega)]
    omega
theorem gAnle {n z : Nat} (h : n ≤ 16 + 2 * z) : gAn 1000000 n z ≤ 16 + 2 * (z + 1) := by
  unfold gAn
  split
  · omega
  · exact Nat.le_trans (Nat.min_le_right _ _) (by omega)
set_option maxHeartbeats 4000000 in
set_option maxRecDepth 100000 in
theorem s_S_idOf (l : Launch) (d : gD) (b : Nat) (F : gM) (K0 N0 : Nat) (t tx a0 a1 a2 a3 : Nat) (a q n z : Nat → Nat) (hT : F t = (.inr (8, [.ref tx, .ref a0, .ref a1, .ref a2, .ref a3, .ref (a 0), .ref (a 1), .ref (a 2), .int 0, .int 0, .int 0]))) (h3 : gT3 d F a q n z) (ar qr nr zr : Nat) (fr : Nat → Int32) (hr : gIn d F ar qr 1000000 nr zr fr) (hBq : gB3 a q ar qr) (hb0 : z 0 + zr ≤ 430) (hb1 : z 1 ≤ 430) (hb2 : z 2 ≤ 430) (hK : K0 + 440 ≤ gKm b) (hN : N0 + 9000 ≤ gNm) : hMi l d b yX8_idOf cX8_idOf 6 .int 3 K0 N0 F [.ref t, .ref ar, .int 0, .int (nI zr)] (fun _ u => ∃ q' n' z' : Nat → Nat, gT3 d u.1 a q' n' z' ∧ gS3 F u.1 a q q' ∧ z' 0 ≤ z 0 + zr ∧ z' 1 ≤ z 1 + 1 ∧ z' 2 ≤ z 2 + 1 ∧ u.2.1 ≤ K0 + 2 + zr ∧ u.2.2 + 2 * (n 0 + n 1 + n 2) ≤ N0 + 2 * (n' 0 + n' 1 + n' 2)) := by
  intro mc ms
  refine hM_of2 rfl (nL := 6) (Nat.le_of_ble_eq_true rfl) ?_
  intro X hX hC hrm ho; subst hX
  show hG X d b _ F K0 N0 0 [some (.ref t), some (.ref ar), some (.int 0), some (.int (nI zr)), none, none] []
  obtain ⟨fL, hL⟩ := h3.in 0 (by decide)
  obtain ⟨fH, hH⟩ := h3.in 1 (by decide)
  obtain ⟨fS, hS⟩ := h3.in 2 (by decide)
  have hm0 := (h3.1 0 (by decide)).2
  have hm1 := (h3.1 1 (by decide)).2
  have hm2 := (h3.1 2 (by decide)).2
  refine h_iload_n hC dX8_idOf_0 rfl ?_
  refine h_iload_n hC dX8_idOf_1 rfl ?_
  refine h_isub hC dX8_idOf_2 ?_
  refine h_vi (fun x1 ex1 => ?_)
  refine h_istore (lv' := [some (.ref t), some (.ref ar), some (.int 0), some (.int (nI zr)), some (.int x1), none]) hC dX8_idOf_3 (Nat.le_of_ble_eq_true rfl) rfl rfl ?_
  refine h_iload_n hC dX8_idOf_5 rfl ?_
  refine h_istore (lv' := [some (.ref t), some (.ref ar), some (.int 0), some (.int (nI zr)), some (.int x1), some (.int 0)]) hC dX8_idOf_6 (Nat.le_of_ble_eq_true rfl) rfl rfl ?_
  have LOOPC : ∀ (m j : Nat) (u : Int32) (F2 : gM) (q2 n2 z2 : Nat → Nat) (k2 n9 : Nat), m + j = zr + 1 → j ≤ zr → gT3 d F2 a q2 n2 z2 → gS3 F F2 a q q2 → z2 0 ≤ z 0 + j → z2 1 ≤ z 1 + 1 → z2 2 ≤ z 2 + 1 → k2 ≤ K0 + 2 + j → n9 + 2 * (n 0 + n 1 + n 2) ≤ N0 + 2 * (n2 0 + n2 1 + n2 2) → hOk X b k2 n9 → hG X d b (MQ X.be (va_Qi (fun _ u => ∃ q' n' z' : Nat → Nat, gT3 d u.1 a q' n' z' ∧ gS3 F u.1 a q q' ∧ z' 0 ≤ z 0 + zr ∧ z' 1 ≤ z 1 + 1 ∧ z' 2 ≤ z 2 + 1 ∧ u.2.1 ≤ K0 + 2 + zr ∧ u.2.2 + 2 * (n 0 + n 1 + n 2) ≤ N0 + 2 * (n' 0 + n' 1 + n' 2)) (hB d b) (fun q => b ≤ q)) X.ar X.st mc ms (fun q => b ≤ q)) F2 k2 n9 110 [some (.ref t), some (.ref ar), some (.int 0), some (.int (nI zr)), some (.int u), some (.int (nI j))] [] := by
    intro m
    induction m with
    | zero => intro j u F2 q2 n2 z2 k2 n9 h1 h2; exact absurd h1 (by omega)
    | succ m ih =>
      intro j u F2 q2 n2 z2 k2 n9 h1 h2 hT2 hS2 hz0 hz1 hz2 hk2 hn9 ho2
      have hn1b := (hT2.1 1 (by decide)).2
      have hn2b := (hT2.1 2 (by decide)).2
      have o2 := hS2.ob h3 hT rfl
      obtain ⟨B2, r2⟩ := hBq.st h3 hr hS2
      have hn0b := (hT2.1 0 (by decide)).2
      refine h_iload hC dX8_idOf_110 rfl ?_
      refine h_iload_n hC dX8_idOf_112 rfl ?_
      refine h_icmp_ge (tgt := 135) hC dX8_idOf_113 (by decide) (fun c2 => ?_) (fun c2 => ?_)
      · obtain ⟨f3, g4⟩ := hT2.in 0 (by decide)
        obtain ⟨f5, g6⟩ := hT2.in 1 (by decide)
        obtain ⟨f7, g8⟩ := hT2.in 2 (by decide)
        refine h_aload_n hC dX8_idOf_135 rfl ?_
        refine h_get hC fl_X8_36 o2 rfl dX8_idOf_136 ?_
        refine g_callVi (As := []) hC rfl g8.1 (c_Ints_size X.la d b F2 _ _ _ _ _ _ g8) cl_X8_62 rfl rfl (Nat.le_of_ble_eq_true rfl) (h_fit0 hC hrm ho2 (hFr_of (Nat.le_of_ble_eq_true rfl) (Nat.le_of_ble_eq_true rfl))) dX8_idOf_139 (fun r9 F10 p11 => ?_)
        obtain ⟨rfl, eF10⟩ := p11; have eF10 := eF10.symm; subst eF10
        refine h_same hC ho2 ?_
        refine h_iconst (v := 1) hC dX8_idOf_142 rfl ?_
        refine h_isub hC dX8_idOf_143 ?_
        refine h_vi (fun x12 ex12 => ?_)
        have hfin := (hT2.1 0 (by decide)).2
        exact h_iret hC hrm ho2 rfl rfl rfl ⟨q2, n2, z2, hT2, hS2, by omega, hz1, hz2, by show k2 ≤ _; omega, hn9⟩ dX8_idOf_144
      · have hjN : j < zr := Nat.lt_of_le_of_ne h2 (fun e => c2 (by rw [e]; exact nI_le (Nat.le_refl _) (by omega)))
        refine h_aload_n hC dX8_idOf_116 rfl ?_
        refine h_get hC fl_X8_30 o2 rfl dX8_idOf_117 ?_
        refine h_aload_n hC dX8_idOf_120 rfl ?_
        refine h_iload hC dX8_idOf_121 rfl ?_
        refine g_callVi (As := [.int (nI j)]) hC rfl r2.1 (c_Ints_get X.la d b F2 _ _ _ _ _ _ r2 (nI j)) cl_X8_88 rfl rfl (Nat.le_of_ble_eq_true rfl) (h_fit0 hC hrm ho2 (hFr_of (Nat.le_of_ble_eq_true rfl) (Nat.le_of_ble_eq_true rfl))) dX8_idOf_123 (fun r13 F14 p15 => ?_)
        obtain ⟨er13, eF14⟩ := p15; have eF14 := eF14.symm; subst eF14
        refine h_same hC ho2 ?_
        have hgrow : gAs 1000000 (n2 0) (z2 0) + 2 * n2 0 ≤ 2 * gAn 1000000 (n2 0) (z2 0) := gGrow (hT2.1 0 (by decide)).2 (by omega)
        have hgan : gAn 1000000 (n2 0) (z2 0) ≤ 16 + 2 * (z2 0 + 1) := gAnle (hT2.1 0 (by decide)).2
        obtain ⟨f19, g18⟩ := hT2.in 0 (by decide)
        have b20 := gAsB (hT2.1 0 (by decide)).2 g18.2.2.1
        have a1p17 : k2 + gAc (n2 0) (z2 0) ≤ gKm b := by have := b20.2; omega
        have a2p17 : n9 + gAs 1000000 (n2 0) (z2 0) ≤ gNm := by have := b20.1; omega
        refine g_callVv (As := [.int r13]) hC rfl g18.1 (c_Ints_add X.la d b F2 _ _ _ _ _ _ g18 r13) cl_X8_85 rfl rfl (Nat.le_of_ble_eq_true rfl) (h_fit hC hrm ho2 (hFr_of (Nat.le_of_ble_eq_true rfl) (Nat.le_of_ble_eq_true rfl)) a1p17 a2p17) dX8_idOf_126 (fun F16 p17 => h_to hC ho2 a1p17 a2p17 (fun hop17 => ?_))
        obtain ⟨q21, T22, s23⟩ := gT3.add hT2 (by decide : 0 < 3) (by omega) p17
        have o24 := s23.ob hT2 o2 rfl
        obtain ⟨B25, rB25⟩ := B2.st hT2 r2 s23
        have s26 := hS2.tr s23
        obtain ⟨x27, ex27⟩ : ∃ y : Int32, y = (nI j) + 1 := ⟨_, rfl⟩
        refine h_iinc (v := x27) (lv' := [some (.ref t), some (.ref ar), some (.int 0), some (.int (nI zr)), some (.int u), some (.int x27)]) hC dX8_idOf_129 rfl (by rw [ex27]; rfl) rfl rfl ?_
        have zx27 : x27 = nI (j + 1) := by rw [ex27]; exact nI_1 j
        subst zx27
        refine h_goto (tgt := 110) hC dX8_idOf_132 (by decide) ?_
        exact ih (j + 1) _ _ _ _ _ _ _ (by omega) (by omega) T22 s26 (by rw [va_up_self]; omega) (by rw [va_up_ne _ _ (by decide)]; exact hz1) (by rw [va_up_ne _ _ (by decide)]; exact hz2) (by have := b20.2; omega) (by rw [va_up_self, va_up_ne _ _ (by decide), va_up_ne _ _ (by decide)]; omega) hop17
  have LOOPB : ∀ (m j : Nat) (u : Int32), m + j = z 2 + 1 → j ≤ z 2 → hG X d b (MQ X.be (va_Qi (fun _ u => ∃ q' n' z' : Nat → Nat, gT3 d u.1 a q' n' z' ∧ gS3 F u.1 a q q' ∧ z' 0 ≤ z 0 + zr ∧ z' 1 ≤ z 1 + 1 ∧ z' 2 ≤ z 2 + 1 ∧ u.2.1 ≤ K0 + 2 + zr ∧ u.2.2 + 2 * (n 0 + n 1 + n 2) ≤ N0 + 2 * (n' 0 + n' 1 + n' 2)) (hB d b) (fun q => b ≤ q)) X.ar X.st mc ms (fun q => b ≤ q)) F K0 N0 37 [some (.ref t), some (.ref ar), some (.int 0), some (.int (nI zr)), some (.int u), some (.int (nI j))] [] := by
    intro m
    induction m with
    | zero => intro j u h1 h2; exact absurd h1 (by omega)
    | succ m ih =>
      intro j u h1 h2
      refine h_iload hC dX8_idOf_37 rfl ?_
      refine h_aload_n hC dX8_idOf_39 rfl ?_
      refine h_get hC fl_X8_36 hT rfl dX8_idOf_40 ?_
      refine g_callVi (As := []) hC rfl hS.1 (c_Ints_size X.la d b F _ _ _ _ _ _ hS) cl_X8_62 rfl rfl (Nat.le_of_ble_eq_true rfl) (h_fit0 hC hrm ho (hFr_of (Nat.le_of_ble_eq_true rfl) (Nat.le_of_ble_eq_true rfl))) dX8_idOf_43 (fun r28 F29 p30 => ?_)
      obtain ⟨rfl, eF29⟩ := p30; have eF29 := eF29.symm; subst eF29
      refine h_same hC ho ?_
      refine h_icmp_ge (tgt := 84) hC dX8_idOf_46 (by decide) (fun c31 => ?_) (fun c31 => ?_)
      · refine h_aload_n hC dX8_idOf_84 rfl ?_
        refine h_get hC fl_X8_33 hT rfl dX8_idOf_85 ?_
        refine h_aload_n hC dX8_idOf_88 rfl ?_
        refine h_get hC fl_X8_30 hT rfl dX8_idOf_89 ?_
        refine g_callVi (As := []) hC rfl hL.1 (c_Ints_size X.la d b F _ _ _ _ _ _ hL) cl_X8_62 rfl rfl (Nat.le_of_ble_eq_true rfl) (h_fit0 hC hrm ho (hFr_of (Nat.le_of_ble_eq_true rfl) (Nat.le_of_ble_eq_true rfl))) dX8_idOf_92 (fun r32 F33 p34 => ?_)
        obtain ⟨rfl, eF33⟩ := p34; have eF33 := eF33.symm; subst eF33
        refine h_same hC ho ?_
        obtain ⟨f38, g37⟩ := h3.in 1 (by decide)
        have b39 := gAsB (h3.1 1 (by decide)).2 g37.2.2.1
        have a1p36 : K0 + gAc (n 1) (z 1) ≤ gKm b := by have := b39.2; omega
        have a2p36 : N0 + gAs 1000000 (n 1) (z 1) ≤ gNm := by have := b39.1; omega
        refine g_callVv (As := [.int (nI (z 0))]) hC rfl g37.1 (c_Ints_add X.la d b F _ _ _ _ _ _ g37 (nI (z 0))) cl_X8_85 rfl rfl (Nat.le_of_ble_eq_true rfl) (h_fit hC hrm ho (hFr_of (Nat.le_of_ble_eq_true rfl) (Nat.le_of_ble_eq_true rfl)) a1p36 a2p36) dX8_idOf_95 (fun F35 p36 => h_to hC ho a1p36 a2p36 (fun hop36 => ?_))
        obtain ⟨q40, T41, s42⟩ := gT3.add h3 (by decide : 1 < 3) (by omega) p36
        have o43 := s42.ob h3 hT rfl
        obtain ⟨B44, rB44⟩ := hBq.st h3 hr s42
        have s45 := (gS3.rf (F := F) (a := a) (q := q)).tr s42
        have hb95 := b39
        refine h_aload_n hC dX8_idOf_98 rfl ?_
        refine h_get hC fl_X8_36 o43 rfl dX8_idOf_99 ?_
        refine h_iload hC dX8_idOf_102 rfl ?_
        have hv1 : va_up z 1 (z 1 + 1) 2 = z 2 := va_up_ne _ _ (by decide)
        have hv2 : va_up n 1 (gAn 1000000 (n 1) (z 1)) 2 = n 2 := va_up_ne _ _ (by decide)
        obtain ⟨f49, g48⟩ := T41.in 2 (by decide)
        have b50 := gAsB (T41.1 2 (by decide)).2 g48.2.2.1
        have zb50 : va_up z 1 (z 1 + 1) 2 ≤ 430 := by rw [hv1]; exact hb2
        have a1p47 : (K0 + gAc (n 1) (z 1)) + gAc (va_up n 1 (gAn 1000000 (n 1) (z 1)) 2) (va_up z 1 (z 1 + 1) 2) ≤ gKm b := by have := b50.2; omega
        have a2p47 : (N0 + gAs 1000000 (n 1) (z 1)) + gAs 1000000 (va_up n 1 (gAn 1000000 (n 1) (z 1)) 2) (va_up z 1 (z 1 + 1) 2) ≤ gNm := by have := b50.1; omega
        refine g_callVv (As := [.int u]) hC rfl g48.1 (c_Ints_add X.la d b F35 _ _ _ _ _ _ g48 u) cl_X8_85 rfl rfl (Nat.le_of_ble_eq_true rfl) (h_fit hC hrm hop36 (hFr_of (Nat.le_of_ble_eq_true rfl) (Nat.le_of_ble_eq_true rfl)) a1p47 a2p47) dX8_idOf_104 (fun F46 p47 => h_to hC hop36 a1p47 a2p47 (fun hop47 => ?_))
        obtain ⟨q51, T52, s53⟩ := gT3.add T41 (by decide : 2 < 3) (by omega) p47
        have o54 := s53.ob T41 o43 rfl
        obtain ⟨B55, rB55⟩ := B44.st T41 rB44 s53
        have s56 := s45.tr s53
        have hb104 := b50
        refine h_iload_n hC dX8_idOf_107 rfl ?_
        refine h_istore (lv' := [some (.ref t), some (.ref ar), some (.int 0), some (.int (nI zr)), some (.int u), some (.int 0)]) hC dX8_idOf_108 (Nat.le_of_ble_eq_true rfl) rfl rfl ?_
        refine LOOPC (zr + 1) 0 _ _ _ _ _ _ _ rfl (Nat.zero_le _) T52 s56 ?_ ?_ ?_ ?_ ?_ hop47
        · show va_up (va_up z 1 (z 1 + 1)) 2 _ 0 ≤ _; rw [va_up_ne _ _ (by decide), va_up_ne _ _ (by decide)]; exact Nat.le_refl _
        · show va_up (va_up z 1 (z 1 + 1)) 2 _ 1 ≤ _; rw [va_up_ne _ _ (by decide), va_up_self]; exact Nat.le_refl _
        · show va_up (va_up z 1 (z 1 + 1)) 2 _ 2 ≤ _; rw [va_up_self, va_up_ne _ _ (by decide)]; exact Nat.le_refl _
        · have := hb95.2; have := hb104.2; omega
        · have g1 := gGrow (h3.1 1 (by decide)).2 (by omega : z 1 ≤ 5000)
          have g2 := gGrow (T41.1 2 (by decide)).2 (by omega : va_up z 1 (z 1 + 1) 2 ≤ 5000)
          have e0 : va_up (va_up n 1 (gAn 1000000 (n 1) (z 1))) 2 (gAn 1000000 (va_up n 1 (gAn 1000000 (n 1) (z 1)) 2) (va_up z 1 (z 1 + 1) 2)) 0 = n 0 := by rw [va_up_ne _ _ (by decide), va_up_ne _ _ (by decide)]
          have e1 : va_up (va_up n 1 (gAn 1000000 (n 1) (z 1))) 2 (gAn 1000000 (va_up n 1 (gAn 1000000 (n 1) (z 1)) 2) (va_up z 1 (z 1 + 1) 2)) 1 = gAn 1000000 (n 1) (z 1) := by rw [va_up_ne _ _ (by decide), va_up_self]
          have e2 : va_up (va_up n 1 (gAn 1000000 (n 1) (z 1))) 2 (gAn 1000000 (va_up n 1 (gAn 1000000 (n 1) (z 1)) 2) (va_up z 1 (z 1 + 1) 2)) 2 = gAn 1000000 (va_up n 1 (gAn 1000000 (n 1) (z 1)) 2) (va_up z 1 (z 1 + 1) 2) := va_up_self _ _ _
          rw [e0, e1, e2]; omega
      · have hjN : j < z 2 := Nat.lt_of_le_of_ne h2 (fun e => c31 (by rw [e]; exact nI_le (Nat.le_refl _) (by have := hb2; omega)))
        refine h_aload_n hC dX8_idOf_49 rfl ?_
        refine h_get hC fl_X8_36 hT rfl dX8_idOf_50 ?_
        refine h_iload hC dX8_idOf_53 rfl ?_
        refine g_callVi (As := [.int (nI j)]) hC rfl hS.1 (c_Ints_get X.la d b F _ _ _ _ _ _ hS (nI j)) cl_X8_88 rfl rfl (Nat.le_of_ble_eq_true rfl) (h_fit0 hC hrm ho (hFr_of (Nat.le_of_ble_eq_true rfl) (Nat.le_of_ble_eq_true rfl))) dX8_idOf_55 (fun r57 F58 p59 => ?_)
        obtain ⟨er57, eF58⟩ := p59; have eF58 := eF58.symm; subst eF58
        refine h_same hC ho ?_
        refine h_iload hC dX8_idOf_58 rfl ?_
        refine h_icmp_ne (tgt := 78) hC dX8_idOf_60 (by decide) (fun c60 => ?_) (fun c60 => ?_)
        · obtain ⟨x61, ex61⟩ : ∃ y : Int32, y = (nI j) + 1 := ⟨_, rfl⟩
          refine h_iinc (v := x61) (lv' := [some (.ref t), some (.ref ar), some (.int 0), some (.int (nI zr)), some (.int u), some (.int x61)]) hC dX8_idOf_78 rfl (by rw [ex61]; rfl) rfl rfl ?_
          have zx61 : x61 = nI (j + 1) := by rw [ex61]; exact nI_1 j
          subst zx61
          refine h_goto (tgt := 37) hC dX8_idOf_81 (by decide) ?_
          exact (ih (j + 1) _ (by omega) (by omega))
        · refine h_aload_n hC dX8_idOf_63 rfl ?_
          refine h_iload hC dX8_idOf_64 rfl ?_
          refine h_aload_n hC dX8_idOf_66 rfl ?_
          refine h_iload_n hC dX8_idOf_67 rfl ?_
          refine h_iload_n hC dX8_idOf_68 rfl ?_
          refine g_callVi (As := [.int (nI j), .ref ar, .int 0, .int (nI zr)]) hC rfl hT (c_S_isAlike X.la d b F t tx a0 a1 a2 a3 (a 0) (a 1) (a 2) hT _ _ _ _ _ _ _ _ _ _ _ _ _ hL hH hr (nI j) 0 (nI zr)) cl_X8_92 rfl rfl (Nat.le_of_ble_eq_true rfl) (h_fit0 hC hrm ho (hFr_of (Nat.le_of_ble_eq_true rfl) (Nat.le_of_ble_eq_true rfl))) dX8_idOf_69 (fun r64 F62 p63 => ?_)
          obtain ⟨er64, eF62⟩ := p63; have eF62 := eF62.symm; subst eF62
          refine h_same hC ho ?_
          refine h_if_eq (tgt := 78) hC dX8_idOf_72 (by decide) (fun c65 => ?_) (fun c65 => ?_)
          · obtain ⟨x66, ex66⟩ : ∃ y : Int32, y = (nI j) + 1 := ⟨_, rfl⟩
            refine h_iinc (v := x66) (lv' := [some (.ref t), some (.ref ar), some (.int 0), some (.int (nI zr)), some (.int u), some (.int x66)]) hC dX8_idOf_78 rfl (by rw [ex66]; rfl) rfl rfl ?_
            have zx66 : x66 = nI (j + 1) := by rw [ex66]; exact nI_1 j
            subst zx66
            refine h_goto (tgt := 37) hC dX8_idOf_81 (by decide) ?_
            exact (ih (j + 1) _ (by omega) (by omega))
          · refine h_iload hC dX8_idOf_75 rfl ?_
            exact h_iret hC hrm ho rfl rfl rfl ⟨q, n, z, h3, gS3.rf, by omega, by omega, by omega, by show K0 ≤ _; omega, Nat.le_refl _⟩ dX8_idOf_77
  have LOOPA : ∀ (m j : Nat) (u : Int32), m + j = zr + 1 → j ≤ zr → hG X d b (MQ X.be (va_Qi (fun _ u => ∃ q' n' z' : Nat → Nat, gT3 d u.1 a q' n' z' ∧ gS3 F u.1 a q q' ∧ z' 0 ≤ z 0 + zr ∧ z' 1 ≤ z 1 + 1 ∧ z' 2 ≤ z 2 + 1 ∧ u.2.1 ≤ K0 + 2 + zr ∧ u.2.2 + 2 * (n 0 + n 1 + n 2) ≤ N0 + 2 * (n' 0 + n' 1 + n' 2)) (hB d b) (fun q => b ≤ q)) X.ar X.st mc ms (fun q => b ≤ q)) F K0 N0 8 [some (.ref t), some (.ref ar), some (.int 0), some (.int (nI zr)), some (.int u), some (.int (nI j))] [] := by
    intro m
    induction m with
    | zero => intro j u h1 h2; exact absurd h1 (by omega)
    | succ m ih =>
      intro j u h1 h2
      refine h_iload hC dX8_idOf_8 rfl ?_
      refine h_iload_n hC dX8_idOf_10 rfl ?_
      refine h_icmp_ge (tgt := 34) hC dX8_idOf_11 (by decide) (fun c67 => ?_) (fun c67 => ?_)
      · refine h_iconst (v := 0) hC dX8_idOf_34 rfl ?_
        refine h_istore (lv' := [some (.ref t), some (.ref ar), some (.int 0), some (.int (nI zr)), some (.int u), some (.int 0)]) hC dX8_idOf_35 (Nat.le_of_ble_eq_true rfl) rfl rfl ?_
        exact (LOOPB (z 2 + 1) 0 _ rfl (Nat.zero_le _))
      · have hjN : j < zr := Nat.lt_of_le_of_ne h2 (fun e => c67 (by rw [e]; exact nI_le (Nat.le_refl _) (by omega)))
        refine h_iload hC dX8_idOf_14 rfl ?_
        refine h_bipush (v := 31) hC dX8_idOf_16 rfl ?_
        refine h_imul hC dX8_idOf_18 ?_
        refine h_vi (fun x68 ex68 => ?_)
        refine h_aload_n hC dX8_idOf_19 rfl ?_
        refine h_iload hC dX8_idOf_20 rfl ?_
        refine g_callVi (As := [.int (nI j)]) hC rfl hr.1 (c_Ints_get X.la d b F _ _ _ _ _ _ hr (nI j)) cl_X8_88 rfl rfl (Nat.le_of_ble_eq_true rfl) (h_fit0 hC hrm ho (hFr_of (Nat.le_of_ble_eq_true rfl) (Nat.le_of_ble_eq_true rfl))) dX8_idOf_22 (fun r69 F70 p71 => ?_)
        obtain ⟨er69, eF70⟩ := p71; have eF70 := eF70.symm; subst eF70
        refine h_same hC ho ?_
        refine h_iadd hC dX8_idOf_25 ?_
        refine h_vi (fun x72 ex72 => ?_)
        refine h_istore (lv' := [some (.ref t), some (.ref ar), some (.int 0), some (.int (nI zr)), some (.int x72), some (.int (nI j))]) hC dX8_idOf_26 (Nat.le_of_ble_eq_true rfl) rfl rfl ?_
        obtain ⟨x73, ex73⟩ : ∃ y : Int32, y = (nI j) + 1 := ⟨_, rfl⟩
        refine h_iinc (v := x73) (lv' := [some (.ref t), some (.ref ar), some (.int 0), some (.int (nI zr)), some (.int x72), some (.int x73)]) hC dX8_idOf_28 rfl (by rw [ex73]; rfl) rfl rfl ?_
        have zx73 : x73 = nI (j + 1) := by rw [ex73]; exact nI_1 j
        subst zx73
        refine h_goto (tgt := 8) hC dX8_idOf_31 (by decide) ?_
        exact (ih (j + 1) _ (by omega) (by omega))
  exact (LOOPA (zr + 1) 0 _ rfl (Nat.zero_le _))
