/-! the class as formulas: coder, what is below -/
theorem dX1_leaveAll_0 : decode cX1_leaveAll 0 = .ok (.aload_n 0, 1) := by decide +kernel
theorem dX1_leaveAll_1 : decode cX1_leaveAll 1 = .ok (.iconst (-1), 1) := by decide +kernel
theorem dX1_leaveAll_2 : decode cX1_leaveAll 2 = .ok (.putfield 27, 3) := by decide +kernel
theorem dX1_leaveAll_5 : decode cX1_leaveAll 5 = .ok (.aload_n 0, 1) := by decide +kernel
theorem dX1_leaveAll_6 : decode cX1_leaveAll 6 = .ok (.iconst (-1), 1) := by decide +kernel
theorem dX1_leaveAll_7 : decode cX1_leaveAll 7 = .ok (.putfield 31, 3) := by decide +kernel
theorem dX1_leaveAll_10 : decode cX1_leaveAll 10 = .ok (.aload_n 0, 1) := by decide +kernel
theorem dX1_leaveAll_11 : decode cX1_leaveAll 11 = .ok (.iconst (-1), 1) := by decide +kernel
theorem dX1_leaveAll_12 : decode cX1_leaveAll 12 = .ok (.putfield 34, 3) := by decide +kernel
theorem dX1_leaveAll_15 : decode cX1_leaveAll 15 = .ok (.aload_n 0, 1) := by decide +kernel
theorem dX1_leaveAll_16 : decode cX1_leaveAll 16 = .ok (.iconst (-1), 1) := by decide +kernel
theorem dX1_leaveAll_17 : decode cX1_leaveAll 17 = .ok (.putfield 37, 3) := by decide +kernel
theorem dX1_leaveAll_20 : decode cX1_leaveAll 20 = .ok (.return_, 1) := by decide +kernel
def wc_Coder_leaveAll (A0 : cS)  (Q : cS → Prop) : Prop :=
  Q (ypv (ypv (ypv (ypv A0 13 (-1)) 14 (-1)) 15 (-1)) 16 (-1))
set_option maxHeartbeats 4000000 in
set_option maxRecDepth 100000 in
theorem cm_Coder_leaveAll (l : Launch) (d : gD) (b : Nat) {Y : gYt} {c : Nat × Nat} {F : gM} {k n : Nat} {S : gSt} {A0 : cS}   {Q : cS → Prop} (hZ : yZ d b Y c F S (F, k, n) S A0) (hw : wc_Coder_leaveAll A0  Q) : hMv l d b yX1_leaveAll cX1_leaveAll 1 0 k n F [.ref (gO' Y 5)] (yPv d b Y c F S Q) := by
  intro mc ms
  refine hM_of2 rfl (nL := 1) (Nat.le_of_ble_eq_true rfl) ?_
  intro X hX hC hr ho; subst hX
  show yG X d b (yQv X d b Y c F S mc ms Q) (F, k, n) 0 [some (.ref (gO' Y 5))] []
  unfold wc_Coder_leaveAll at hw
  refine h_aload_n hC dX1_leaveAll_0 rfl ?_
  refine h_iconst (v := zI (-1)) hC dX1_leaveAll_1 rfl ?_
  refine hi_putx (i := 5) (kx := 13) hC hZ.hi (by decide) fl_X1_27 rfl rfl rfl (Nat.le_of_ble_eq_true rfl) rfl gsame_13 (fun q => absurd q (by decide)) dX1_leaveAll_2 (fun F1 S2 I3 K4 s5 v6 p7 => ?_)
  have hZ8 := hZ.put I3 K4 s5 v6 (by decide) rfl
  clear I3 K4 s5 v6 p7
  refine yr_nu ho hZ8 (fun u9 o10 hZ11 => ?_)
  refine h_aload_n hC dX1_leaveAll_5 rfl ?_
  refine h_iconst (v := zI (-1)) hC dX1_leaveAll_6 rfl ?_
  refine hi_putx (i := 5) (kx := 14) hC hZ11.hi (by decide) fl_X1_31 rfl rfl rfl (Nat.le_of_ble_eq_true rfl) rfl gsame_14 (fun q => absurd q (by decide)) dX1_leaveAll_7 (fun F12 S13 I14 K15 s16 v17 p18 => ?_)
  have hZ19 := hZ11.put I14 K15 s16 v17 (by decide) rfl
  clear I14 K15 s16 v17 p18
  refine yr_nu o10 hZ19 (fun u20 o21 hZ22 => ?_)
  refine h_aload_n hC dX1_leaveAll_10 rfl ?_
  refine h_iconst (v := zI (-1)) hC dX1_leaveAll_11 rfl ?_
  refine hi_putx (i := 5) (kx := 15) hC hZ22.hi (by decide) fl_X1_34 rfl rfl rfl (Nat.le_of_ble_eq_true rfl) rfl gsame_15 (fun q => absurd q (by decide)) dX1_leaveAll_12 (fun F23 S24 I25 K26 s27 v28 p29 => ?_)
  have hZ30 := hZ22.put I25 K26 s27 v28 (by decide) rfl
  clear I25 K26 s27 v28 p29
  refine yr_nu o21 hZ30 (fun u31 o32 hZ33 => ?_)
  refine h_aload_n hC dX1_leaveAll_15 rfl ?_
  refine h_iconst (v := zI (-1)) hC dX1_leaveAll_16 rfl ?_
  refine hi_putx (i := 5) (kx := 16) hC hZ33.hi (by decide) fl_X1_37 rfl rfl rfl (Nat.le_of_ble_eq_true rfl) rfl gsame_16 (fun q => absurd q (by decide)) dX1_leaveAll_17 (fun F34 S35 I36 K37 s38 v39 p40 => ?_)
  have hZ41 := hZ33.put I36 K37 s38 v39 (by decide) rfl
  clear I36 K37 s38 v39 p40
  refine yr_nu o32 hZ41 (fun u42 o43 hZ44 => ?_)
  exact yr_vret hC hr o43 hZ44 hw dX1_leaveAll_20
theorem dX1_entrance_0 : decode cX1_entrance 0 = .ok (.aload_n 0, 1) := by decide +kernel
theorem dX1_entrance_1 : decode cX1_entrance 1 = .ok (.getfield 65, 3) := by decide +kernel
theorem dX1_entrance_4 : decode cX1_entrance 4 = .ok (.iload_n 1, 1) := by decide +kernel
theorem dX1_entrance_5 : decode cX1_entrance 5 = .ok (.invokevirtual 121, 3) := by decide +kernel
theorem dX1_entrance_8 : decode cX1_entrance 8 = .ok (.bipush 44, 2) := by decide +kernel
theorem dX1_entrance_10 : decode cX1_entrance 10 = .ok (.if_icmp .ne 40, 3) := by decide +kernel
theorem dX1_entrance_13 : decode cX1_entrance 13 = .ok (.aload_n 0, 1) := by decide +kernel
theorem dX1_entrance_14 : decode cX1_entrance 14 = .ok (.getfield 43, 3) := by decide +kernel
theorem dX1_entrance_17 : decode cX1_entrance 17 = .ok (.iconst (-1), 1) := by decide +kernel
theorem dX1_entrance_18 : decode cX1_entrance 18 = .ok (.if_icmp .eq 20, 3) := by decide +kernel
theorem dX1_entrance_21 : decode cX1_entrance 21 = .ok (.aload_n 0, 1) := by decide +kernel
theorem dX1_entrance_22 : decode cX1_entrance 22 = .ok (.getfield 69, 3) := by decide +kernel
theorem dX1_entrance_25 : decode cX1_entrance 25 = .ok (.bipush 6, 2) := by decide +kernel
theorem dX1_entrance_27 : decode cX1_entrance 27 = .ok (.aload_n 0, 1) := by decide +kernel
theorem dX1_entrance_28 : decode cX1_entrance 28 = .ok (.getfield 65, 3) := by decide +kernel
theorem dX1_entrance_31 : decode cX1_entrance 31 = .ok (.iload_n 1, 1) := by decide +kernel
theorem dX1_entrance_32 : decode cX1_entrance 32 = .ok (.invokevirtual 135, 3) := by decide +kernel
theorem dX1_entrance_35 : decode cX1_entrance 35 = .ok (.invokevirtual 177, 3) := by decide +kernel
theorem dX1_entrance_38 : decode cX1_entrance 38 = .ok (.aload_n 0, 1) := by decide +kernel
theorem dX1_entrance_39 : decode cX1_entrance 39 = .ok (.aload_n 0, 1) := by decide +kernel
theorem dX1_entrance_40 : decode cX1_entrance 40 = .ok (.getfield 69, 3) := by decide +kernel
theorem dX1_entrance_43 : decode cX1_entrance 43 = .ok (.invokevirtual 220, 3) := by decide +kernel
theorem dX1_entrance_46 : decode cX1_entrance 46 = .ok (.putfield 43, 3) := by decide +kernel
theorem dX1_entrance_49 : decode cX1_entrance 49 = .ok (.return_, 1) := by decide +kernel
theorem dX1_entrance_50 : decode cX1_entrance 50 = .ok (.aload_n 0, 1) := by decide +kernel
theorem dX1_entrance_51 : decode cX1_entrance 51 = .ok (.getfield 65, 3) := by decide +kernel
theorem dX1_entrance_54 : decode cX1_entrance 54 = .ok (.iload_n 1, 1) := by decide +kernel
theorem dX1_entrance_55 : decode cX1_entrance 55 = .ok (.invokevirtual 126, 3) := by decide +kernel
theorem dX1_entrance_58 : decode cX1_entrance 58 = .ok (.istore_n 2, 1) := by decide +kernel
theorem dX1_entrance_59 : decode cX1_entrance 59 = .ok (.aload_n 0, 1) := by decide +kernel
theorem dX1_entrance_60 : decode cX1_entrance 60 = .ok (.getfield 87, 3) := by decide +kernel
theorem dX1_entrance_63 : decode cX1_entrance 63 = .ok (.iload_n 2, 1) := by decide +kernel
theorem dX1_entrance_64 : decode cX1_entrance 64 = .ok (.iconst (-1), 1) := by decide +kernel
theorem dX1_entrance_65 : decode cX1_entrance 65 = .ok (.invokevirtual 145, 3) := by decide +kernel
theorem dX1_entrance_68 : decode cX1_entrance 68 = .ok (.istore_n 3, 1) := by decide +kernel
theorem dX1_entrance_69 : decode cX1_entrance 69 = .ok (.aload_n 0, 1) := by decide +kernel
theorem dX1_entrance_70 : decode cX1_entrance 70 = .ok (.getfield 87, 3) := by decide +kernel
theorem dX1_entrance_73 : decode cX1_entrance 73 = .ok (.invokevirtual 238, 3) := by decide +kernel
theorem dX1_entrance_76 : decode cX1_entrance 76 = .ok (.ifCond .eq 4, 3) := by decide +kernel
theorem dX1_entrance_79 : decode cX1_entrance 79 = .ok (.return_, 1) := by decide +kernel
theorem dX1_entrance_80 : decode cX1_entrance 80 = .ok (.aload_n 0, 1) := by decide +kernel
theorem dX1_entrance_81 : decode cX1_entrance 81 = .ok (.getfield 40, 3) := by decide +kernel
theorem dX1_entrance_84 : decode cX1_entrance 84 = .ok (.istore 4, 2) := by decide +kernel
theorem dX1_entrance_86 : decode cX1_entrance 86 = .ok (.iload 4, 2) := by decide +kernel
theorem dX1_entrance_88 : decode cX1_entrance 88 = .ok (.aload_n 0, 1) := by decide +kernel
theorem dX1_entrance_89 : decode cX1_entrance 89 = .ok (.getfield 24, 3) := by decide +kernel
theorem dX1_entrance_92 : decode cX1_entrance 92 = .ok (.invokevirtual 103, 3) := by decide +kernel
theorem dX1_entrance_95 : decode cX1_entrance 95 = .ok (.if_icmp .ge 39, 3) := by decide +kernel
theorem dX1_entrance_98 : decode cX1_entrance 98 = .ok (.aload_n 0, 1) := by decide +kernel
theorem dX1_entrance_99 : decode cX1_entrance 99 = .ok (.getfield 24, 3) := by decide +kernel
theorem dX1_entrance_102 : decode cX1_entrance 102 = .ok (.iload 4, 2) := by decide +kernel
theorem dX1_entrance_104 : decode cX1_entrance 104 = .ok (.invokevirtual 107, 3) := by decide +kernel
theorem dX1_entrance_107 : decode cX1_entrance 107 = .ok (.iload_n 3, 1) := by decide +kernel
theorem dX1_entrance_108 : decode cX1_entrance 108 = .ok (.if_icmp .ne 20, 3) := by decide +kernel
theorem dX1_entrance_111 : decode cX1_entrance 111 = .ok (.aload_n 0, 1) := by decide +kernel
theorem dX1_entrance_112 : decode cX1_entrance 112 = .ok (.getfield 69, 3) := by decide +kernel
theorem dX1_entrance_115 : decode cX1_entrance 115 = .ok (.bipush 6, 2) := by decide +kernel
theorem dX1_entrance_117 : decode cX1_entrance 117 = .ok (.aload_n 0, 1) := by decide +kernel
theorem dX1_entrance_118 : decode cX1_entrance 118 = .ok (.getfield 65, 3) := by decide +kernel
theorem dX1_entrance_121 : decode cX1_entrance 121 = .ok (.iload_n 2, 1) := by decide +kernel
theorem dX1_entrance_122 : decode cX1_entrance 122 = .ok (.invokevirtual 135, 3) := by decide +kernel
theorem dX1_entrance_125 : decode cX1_entrance 125 = .ok (.invokevirtual 177, 3) := by decide +kernel
theorem dX1_entrance_128 : decode cX1_entrance 128 = .ok (.iinc 4 2, 3) := by decide +kernel
theorem dX1_entrance_131 : decode cX1_entrance 131 = .ok (.goto (-45), 3) := by decide +kernel
theorem dX1_entrance_134 : decode cX1_entrance 134 = .ok (.aload_n 0, 1) := by decide +kernel
theorem dX1_entrance_135 : decode cX1_entrance 135 = .ok (.getfield 24, 3) := by decide +kernel
theorem dX1_entrance_138 : decode cX1_entrance 138 = .ok (.iload_n 3, 1) := by decide +kernel
theorem dX1_entrance_139 : decode cX1_entrance 139 = .ok (.invokevirtual 217, 3) := by decide +kernel
theorem dX1_entrance_142 : decode cX1_entrance 142 = .ok (.aload_n 0, 1) := by decide +kernel
theorem dX1_entrance_143 : decode cX1_entrance 143 = .ok (.getfield 24, 3) := by decide +kernel
theorem dX1_entrance_146 : decode cX1_entrance 146 = .ok (.aload_n 0, 1) := by decide +kernel
theorem dX1_entrance_147 : decode cX1_entrance 147 = .ok (.getfield 69, 3) := by decide +kernel
theorem dX1_entrance_150 : decode cX1_entrance 150 = .ok (.invokevirtual 220, 3) := by decide +kernel
theorem dX1_entrance_153 : decode cX1_entrance 153 = .ok (.invokevirtual 217, 3) := by decide +kernel
theorem dX1_entrance_156 : decode cX1_entrance 156 = .ok (.return_, 1) := by decide +kernel
def wc_Coder_entrance_86B (Q : cS → Prop) (k86 : cS → Int → Int → Int → Prop) (A0 : cS) (x2 : Int) (x3 : Int) (x4 : Int) : Prop :=
  ((((yz A0 26 : Nat) : Int) ≤ x4 → ((yz A0 26) < 6000) ∧ wc_Program_here (yadd A0 26 x3)  (fun r9 A10 => ((yz A10 26) < 6000) ∧ Q (yadd A10 26 r9))) ∧ (¬ ((yz A0 26 : Nat) : Int) ≤ x4 → ((¬ (yget A0 26 x4) = x3 → (zR (x4 + 2)) ∧ k86 A0 x2 x3 (x4 + 2)) ∧ ((yget A0 26 x4) = x3 → wc_Tree_place A0 x2 (fun r29 A30 => wc_Program_blame A30 6 r29 (fun A38 => (zR (x4 + 2)) ∧ k86 A38 x2 x3 (x4 + 2)))))))
def wc_Coder_entrance_86 (Q : cS → Prop)  : Nat → cS → Int → Int → Int → Prop
  | 0 => fun _ _ _ _ => False
  | m + 1 => fun A0 x2 x3 x4 => wc_Coder_entrance_86B Q  (wc_Coder_entrance_86 Q  m) A0 x2 x3 x4
def wc_Coder_entrance (A0 : cS) (a0 : Int) (Q : cS → Prop) : Prop :=
  wc_Tree_kind A0 a0 (fun r1 A2 => ((¬ r1 = 44 → wc_Tree_first A2 a0 (fun r11 A12 => wc_Constants_number A12 r11 (-1) (fun r19 A20 => wc_Constants_hasFailed A20  (fun r27 A28 => ((r27 = 0 → ∃ n, wc_Coder_entrance_86 Q  n A28 r11 r19 (yv A28 17)) ∧ (¬ r27 = 0 → Q A28)))))) ∧ (r1 = 44 → (((yv A2 18) = (-1) → wc_Program_here A2  (fun r43 A44 => Q (ypv A44 18 r43))) ∧ (¬ (yv A2 18) = (-1) → wc_Tree_place A2 a0 (fun r63 A64 => wc_Program_blame A64 6 r63 (fun A72 => wc_Program_here A72  (fun r79 A80 => Q (ypv A80 18 r79)))))))))
set_option maxHeartbeats 4000000 in
set_option maxRecDepth 100000 in
theorem cb_Coder_entrance_86 {X : gX} {d : gD} {b : Nat} {Y : gYt} {c : Nat × Nat} {F0 : gM} {S0 : gSt} {mc ms : Nat} (hC : gC RX1 cX1_entrance 5 none "entrance" (gR 629 mc ms) d b X) (hr : hRm X b) {Q : cS → Prop} {k86 : cS → Int → Int → Int → Prop} (hk86 : ∀ (u : hU) (S : gSt) (A0 : cS) (x2 : Int) (x3 : Int) (x4 : Int), zR x2 → zR x3 → zR x4 → yOk X b u → yZ d b Y c F0 S0 u S A0 → k86 A0 x2 x3 x4 → yG X d b (yQv X d b Y c F0 S0 mc ms Q) u 86 [some (.ref (gO' Y 5)), none, some (.int (zI x2)), some (.int (zI x3)), some (.int (zI x4))] []) {u : hU} {S : gSt} {A0 : cS} {x2 : Int} {x3 : Int} {x4 : Int} (Rx2 : zR x2) (Rx3 : zR x3) (Rx4 : zR x4) (ho : yOk X b u) (hZ : yZ d b Y c F0 S0 u S A0) (hw : wc_Coder_entrance_86B Q k86 A0 x2 x3 x4) : yG X d b (yQv X d b Y c F0 S0 mc ms Q) u 86 [some (.ref (gO' Y 5)), none, some (.int (zI x2)), some (.int (zI x3)), some (.int (zI x4))] [] := by
  unfold wc_Coder_entrance_86B at hw
  refine h_iload hC dX1_entrance_86 rfl ?_
  refine h_aload_n hC dX1_entrance_88 rfl ?_
  refine h_get hC fl_X1_24 (hZ.w.o 5 (by decide)) rfl dX1_entrance_89 ?_
  refine yr_size (j := 26) (e := ((yz A0 26 : Nat) : Int)) hC hr ho hZ (by decide) rfl cl_X1_103 rfl (Nat.le_of_ble_eq_true rfl) (hFr_of (Nat.le_of_ble_eq_true rfl) (Nat.le_of_ble_eq_true rfl)) dX1_entrance_92 ?_
  refine yr_icmp_ge (tgt := 134) hC Rx4 (hZ.rz (j := 26) (by decide)) dX1_entrance_95 (by decide) (fun c1 => ?_) (fun c1 => ?_)
  · have h2 := hw.1 c1
    refine h_aload_n hC dX1_entrance_134 rfl ?_
    refine h_get hC fl_X1_24 (hZ.w.o 5 (by decide)) rfl dX1_entrance_135 ?_
    refine h_iload_n hC dX1_entrance_138 rfl ?_
    obtain ⟨o7, h8⟩ := h2
    refine yr_add (j := 26) hC hr ho hZ (by decide) (by decide) Rx3 o7 cl_X1_217 rfl (Nat.le_of_ble_eq_true rfl) (hFr_of (Nat.le_of_ble_eq_true rfl) (Nat.le_of_ble_eq_true rfl)) dX1_entrance_139 (fun u3 S4 o5 hZ6 => ?_)
    refine h_aload_n hC dX1_entrance_142 rfl ?_
    refine h_get hC fl_X1_24 (hZ6.w.o 5 (by decide)) rfl dX1_entrance_143 ?_
    refine h_aload_n hC dX1_entrance_146 rfl ?_
    refine h_get hC fl_X1_69 (hZ6.w.o 5 (by decide)) rfl dX1_entrance_147 ?_
    refine yr_callVi (As := []) hC hr o5 hZ6 rfl (hZ6.w.o 1 (by decide)) (cm_Program_here X.la d b  hZ6.rs h8) cl_X1_220 rfl rfl (Nat.le_of_ble_eq_true rfl) (hFr_of (Nat.le_of_ble_eq_true rfl) (Nat.le_of_ble_eq_true rfl)) dX1_entrance_150 (fun r9 A10 u11 S12 R13 o14 hZ15 h16 => ?_)
    obtain ⟨o21, h22⟩ := h16
    refine yr_add (j := 26) hC hr o14 hZ15 (by decide) (by decide) R13 o21 cl_X1_217 rfl (Nat.le_of_ble_eq_true rfl) (hFr_of (Nat.le_of_ble_eq_true rfl) (Nat.le_of_ble_eq_true rfl)) dX1_entrance_153 (fun u17 S18 o19 hZ20 => ?_)
    exact yr_vret hC hr o19 hZ20 h22 dX1_entrance_156
  · have h23 := hw.2 c1
    refine h_aload_n hC dX1_entrance_98 rfl ?_
    refine h_get hC fl_X1_24 (hZ.w.o 5 (by decide)) rfl dX1_entrance_99 ?_
    refine h_iload hC dX1_entrance_102 rfl ?_
    refine yr_get (j := 26) (e := (yget A0 26 x4)) hC hr ho hZ (by decide) Rx4 rfl cl_X1_107 rfl (Nat.le_of_ble_eq_true rfl) (hFr_of (Nat.le_of_ble_eq_true rfl) (Nat.le_of_ble_eq_true rfl)) dX1_entrance_104 ?_
    refine h_iload_n hC dX1_entrance_107 rfl ?_
    refine yr_icmp_ne (tgt := 128) hC (hZ.rg 26 _) Rx3 dX1_entrance_108 (by decide) (fun c24 => ?_) (fun c24 => ?_)
    · have h25 := h23.1 c24
      refine yr_iinc (x := x4) (lv' := [some (.ref (gO' Y 5)), none, some (.int (zI x2)), some (.int (zI x3)), some (.int (zI (x4 + 2)))]) hC dX1_entrance_128 rfl rfl rfl ?_
      refine h_goto (tgt := 86) hC dX1_entrance_131 (by decide) ?_
      obtain ⟨o26, h27⟩ := h25
      exact hk86 _ _ _ _ _ _ Rx2 Rx3 o26 ho hZ h27
    · have h28 := h23.2 c24
      refine h_aload_n hC dX1_entrance_111 rfl ?_
      refine h_get hC fl_X1_69 (hZ.w.o 5 (by decide)) rfl dX1_entrance_112 ?_
      refine h_bipush (v := zI 6) hC dX1_entrance_115 rfl ?_
      refine h_aload_n hC dX1_entrance_117 rfl ?_
      refine h_get hC fl_X1_65 (hZ.w.o 5 (by decide)) rfl dX1_entrance_118 ?_
      refine h_iload_n hC dX1_entrance_121 rfl ?_
      refine yr_callVi (As := [.int (zI x2)]) hC hr ho hZ rfl (hZ.w.o 2 (by decide)) (cm_Tree_place X.la d b Rx2 hZ.rs h28) cl_X1_135 rfl rfl (Nat.le_of_ble_eq_true rfl) (hFr_of (Nat.le_of_ble_eq_true rfl) (Nat.le_of_ble_eq_true rfl)) dX1_entrance_122 (fun r29 A30 u31 S32 R33 o34 hZ35 h36 => ?_)
      refine yr_callVv (As := [.int (zI 6), .int (zI r29)]) hC hr o34 hZ35 rfl (hZ35.w.o 1 (by decide)) (cm_Program_blame X.la d b (by decide) R33 hZ35.rs h36) cl_X1_177 rfl rfl (Nat.le_of_ble_eq_true rfl) (hFr_of (Nat.le_of_ble_eq_true rfl) (Nat.le_of_ble_eq_true rfl)) dX1_entrance_125 (fun A38 u39 S40 o42 hZ43 h44 => ?_)
      refine yr_iinc (x := x4) (lv' := [some (.ref (gO' Y 5)), none, some (.int (zI x2)), some (.int (zI x3)), some (.int (zI (x4 + 2)))]) hC dX1_entrance_128 rfl rfl rfl ?_
      refine h_goto (tgt := 86) hC dX1_entrance_131 (by decide) ?_
      obtain ⟨o45, h46⟩ := h44
      exact hk86 _ _ _ _ _ _ Rx2 Rx3 o45 o42 hZ43 h46
theorem cl_Coder_entrance_86 {X : gX} {d : gD} {b : Nat} {Y : gYt} {c : Nat × Nat} {F0 : gM} {S0 : gSt} {mc ms : Nat} (hC : gC RX1 cX1_entrance 5 none "entrance" (gR 629 mc ms) d b X) (hr : hRm X b) {Q : cS → Prop}   : ∀ (m : Nat) (u : hU) (S : gSt) (A0 : cS) (x2 : Int) (x3 : Int) (x4 : Int), zR x2 → zR x3 → zR x4 → yOk X b u → yZ d b Y c F0 S0 u S A0 → wc_Coder_entrance_86 Q  m A0 x2 x3 x4 → yG X d b (yQv X d b Y c F0 S0 mc ms Q) u 86 [some (.ref (gO' Y 5)), none, some (.int (zI x2)), some (.int (zI x3)), some (.int (zI x4))] [] := by
  intro m
  induction m with
  | zero => intro u S A0 x2 x3 x4 Rx2 Rx3 Rx4 ho hZ hw; exact False.elim hw
  | succ m ihm => intro u S A0 x2 x3 x4 Rx2 Rx3 Rx4 ho hZ hw; exact cb_Coder_entrance_86 hC hr  ihm Rx2 Rx3 Rx4 ho hZ hw
set_option maxHeartbeats 4000000 in
set_option maxRecDepth 100000 in
theorem cm_Coder_entrance (l : Launch) (d : gD) (b : Nat) {Y : gYt} {c : Nat × Nat} {F : gM} {k n : Nat} {S : gSt} {A0 : cS} {a0 : Int} (Ra0 : zR a0) {Q : cS → Prop} (hZ : yZ d b Y c F S (F, k, n) S A0) (hw : wc_Coder_entrance A0 a0 Q) : hMv l d b yX1_entrance cX1_entrance 5 629 k n F [.ref (gO' Y 5), .int (zI a0)] (yPv d b Y c F S Q) := by
  intro mc ms
  refine hM_of2 rfl (nL := 5) (Nat.le_of_ble_eq_true rfl) ?_
  intro X hX hC hr ho; subst hX
  show yG X d b (yQv X d b Y c F S mc ms Q) (F, k, n) 0 [some (.ref (gO' Y 5)), some (.int (zI a0)), none, none, none] []
  unfold wc_Coder_entrance at hw
  refine h_aload_n hC dX1_entrance_0 rfl ?_
  refine h_get hC fl_X1_65 (hZ.w.o 5 (by decide)) rfl dX1_entrance_1 ?_
  refine h_iload_n hC dX1_entrance_4 rfl ?_
  refine yr_callVi (As := [.int (zI a0)]) hC hr ho hZ rfl (hZ.w.o 2 (by decide)) (cm_Tree_kind X.la d b Ra0 hZ.rs hw) cl_X1_121 rfl rfl (Nat.le_of_ble_eq_true rfl) (hFr_of (Nat.le_of_ble_eq_true rfl) (Nat.le_of_ble_eq_true rfl)) dX1_entrance_5 (fun r1 A2 u3 S4 R5 o6 hZ7 h8 => ?_)
  refine h_bipush (v := zI 44) hC dX1_entrance_8 rfl ?_
  refine yr_icmp_ne (tgt := 50) hC R5 (by decide) dX1_entrance_10 (by decide) (fun c9 => ?_) (fun c9 => ?_)
  · have h10 := h8.1 c9
    refine h_aload_n hC dX1_entrance_50 rfl ?_
    refine h_get hC fl_X1_65 (hZ7.w.o 5 (by decide)) rfl dX1_entrance_51 ?_
    refine h_iload_n hC dX1_entrance_54 rfl ?_
    refine yr_callVi (As := [.int (zI a0)]) hC hr o6 hZ7 rfl (hZ7.w.o 2 (by decide)) (cm_Tree_first X.la d b Ra0 hZ7.rs h10) cl_X1_126 rfl rfl (Nat.le_of_ble_eq_true rfl) (hFr_of (Nat.le_of_ble_eq_true rfl) (Nat.le_of_ble_eq_true rfl)) dX1_entrance_55 (fun r11 A12 u13 S14 R15 o16 hZ17 h18 => ?_)
    refine h_istore_n (lv' := [some (.ref (gO' Y 5)), some (.int (zI a0)), some (.int (zI r11)), none, none]) hC dX1_entrance_58 (Nat.le_of_ble_eq_true rfl) rfl rfl ?_
    refine h_aload_n hC dX1_entrance_59 rfl ?_
    refine h_get hC fl_X1_87 (hZ17.w.o 5 (by decide)) rfl dX1_entrance_60 ?_
    refine h_iload_n hC dX1_entrance_63 rfl ?_
    refine h_iconst (v := zI (-1)) hC dX1_entrance_64 rfl ?_
    refine yr_callVi (As := [.int (zI r11), .int (zI (-1))]) hC hr o16 hZ17 rfl (hZ17.w.o 9 (by decide)) (cm_Constants_number X.la d b R15 (by decide) hZ17.rs h18) cl_X1_145 rfl rfl (Nat.le_of_ble_eq_true rfl) (hFr_of (Nat.le_of_ble_eq_true rfl) (Nat.le_of_ble_eq_true rfl)) dX1_entrance_65 (fun r19 A20 u21 S22 R23 o24 hZ25 h26 => ?_)
    refine h_istore_n (lv' := [some (.ref (gO' Y 5)), some (.int (zI a0)), some (.int (zI r11)), some (.int (zI r19)), none]) hC dX1_entrance_68 (Nat.le_of_ble_eq_true rfl) rfl rfl ?_
    refine h_aload_n hC dX1_entrance_69 rfl ?_
    refine h_get hC fl_X1_87 (hZ25.w.o 5 (by decide)) rfl dX1_entrance_70 ?_
    refine yr_callVi (As := []) hC hr o24 hZ25 rfl (hZ25.w.o 9 (by decide)) (cm_Constants_hasFailed X.la d b  hZ25.rs h26) cl_X1_238 rfl rfl (Nat.le_of_ble_eq_true rfl) (hFr_of (Nat.le_of_ble_eq_true rfl) (Nat.le_of_ble_eq_true rfl)) dX1_entrance_73 (fun r27 A28 u29 S30 R31 o32 hZ33 h34 => ?_)
    refine yr_if_eq (tgt := 80) hC R31 dX1_entrance_76 (by decide) (fun c35 => ?_) (fun c35 => ?_)
    · have h36 := h34.1 c35
      refine h_aload_n hC dX1_entrance_80 rfl ?_
      refine h_get hC fl_X1_40 (hZ33.w.o 5 (by decide)) rfl dX1_entrance_81 ?_
      refine yr_sv (e := (yv A28 17)) hZ33 17 rfl ?_
      refine h_istore (lv' := [some (.ref (gO' Y 5)), some (.int (zI a0)), some (.int (zI r11)), some (.int (zI r19)), some (.int (zI (yv A28 17)))]) hC dX1_entrance_84 (Nat.le_of_ble_eq_true rfl) rfl rfl ?_
      refine h_lv (lv' := [some (.ref (gO' Y 5)), none, some (.int (zI r11)), some (.int (zI r19)), some (.int (zI (yv A28 17)))]) ⟨rfl, rfl, rfl, rfl, trivial⟩ ?_
      obtain ⟨m37, h38⟩ := h36
      exact cl_Coder_entrance_86 hC hr  m37 _ _ _ _ _ _ R15 R23 (hZ33.rv 17) o32 hZ33 h38
    · have h39 := h34.2 c35
      exact yr_vret hC hr o32 hZ33 h39 dX1_entrance_79
  · have h40 := h8.2 c9
    refine h_aload_n hC dX1_entrance_13 rfl ?_
    refine h_get hC fl_X1_43 (hZ7.w.o 5 (by decide)) rfl dX1_entrance_14 ?_
    refine yr_sv (e := (yv A2 18)) hZ7 18 rfl ?_
    refine h_iconst (v := zI (-1)) hC dX1_entrance_17 rfl ?_
    refine yr_icmp_eq (tgt := 38) hC (hZ7.rv 18) (by decide) dX1_entrance_18 (by decide) (fun c41 => ?_) (fun c41 => ?_)
    · have h42 := h40.1 c41
      refine h_aload_n hC dX1_entrance_38 rfl ?_
      refine h_aload_n hC dX1_entrance_39 rfl ?_
      refine h_get hC fl_X1_69 (hZ7.w.o 5 (by decide)) rfl dX1_entrance_40 ?_
      refine yr_callVi (As := []) hC hr o6 hZ7 rfl (hZ7.w.o 1 (by decide)) (cm_Program_here X.la d b  hZ7.rs h42) cl_X1_220 rfl rfl (Nat.le_of_ble_eq_true rfl) (hFr_of (Nat.le_of_ble_eq_true rfl) (Nat.le_of_ble_eq_true rfl)) dX1_entrance_43 (fun r43 A44 u45 S46 R47 o48 hZ49 h50 => ?_)
      refine hi_putx (i := 5) (kx := 18) hC hZ49.hi (by decide) fl_X1_43 rfl rfl rfl (Nat.le_of_ble_eq_true rfl) rfl gsame_18 (fun q => absurd q (by decide)) dX1_entrance_46 (fun F51 S52 I53 K54 s55 v56 p57 => ?_)
      have hZ58 := hZ49.put I53 K54 s55 v56 R47 rfl
      clear I53 K54 s55 v56 p57
      refine yr_nu o48 hZ58 (fun u59 o60 hZ61 => ?_)
      exact yr_vret hC hr o60 hZ61 h50 dX1_entrance_49
    · have h62 := h40.2 c41
      refine h_aload_n hC dX1_entrance_21 rfl ?_
      refine h_get hC fl_X1_69 (hZ7.w.o 5 (by decide)) rfl dX1_entrance_22 ?_
      refine h_bipush (v := zI 6) hC dX1_entrance_25 rfl ?_
      refine h_aload_n hC dX1_entrance_27 rfl ?_
      refine h_get hC fl_X1_65 (hZ7.w.o 5 (by decide)) rfl dX1_entrance_28 ?_
      refine h_iload_n hC dX1_entrance_31 rfl ?_
      refine yr_callVi (As := [.int (zI a0)]) hC hr o6 hZ7 rfl (hZ7.w.o 2 (by decide)) (cm_Tree_place X.la d b Ra0 hZ7.rs h62) cl_X1_135 rfl rfl (Nat.le_of_ble_eq_true rfl) (hFr_of (Nat.le_of_ble_eq_true rfl) (Nat.le_of_ble_eq_true rfl)) dX1_entrance_32 (fun r63 A64 u65 S66 R67 o68 hZ69 h70 => ?_)
      refine yr_callVv (As := [.int (zI 6), .int (zI r63)]) hC hr o68 hZ69 rfl (hZ69.w.o 1 (by decide)) (cm_Program_blame X.la d b (by decide) R67 hZ69.rs h70) cl_X1_177 rfl rfl (Nat.le_of_ble_eq_true rfl) (hFr_of (Nat.le_of_ble_eq_true rfl) (Nat.le_of_ble_eq_true rfl)) dX1_entrance_35 (fun A72 u73 S74 o76 hZ77 h78 => ?_)
      refine h_aload_n hC dX1_entrance_38 rfl ?_
      refine h_aload_n hC dX1_entrance_39 rfl ?_
      refine h_get hC fl_X1_69 (hZ77.w.o 5 (by decide)) rfl dX1_entrance_40 ?_
      refine yr_callVi (As := []) hC hr o76 hZ77 rfl (hZ77.w.o 1 (by decide)) (cm_Program_here X.la d b  hZ77.rs h78) cl_X1_220 rfl rfl (Nat.le_of_ble_eq_true rfl) (hFr_of (Nat.le_of_ble_eq_true rfl) (Nat.le_of_ble_eq_true rfl)) dX1_entrance_43 (fun r79 A80 u81 S82 R83 o84 hZ85 h86 => ?_)
      refine hi_putx (i := 5) (kx := 18) hC hZ85.hi (by decide) fl_X1_43 rfl rfl rfl (Nat.le_of_ble_eq_true rfl) rfl gsame_18 (fun q => absurd q (by decide)) dX1_entrance_46 (fun F87 S88 I89 K90 s91 v92 p93 => ?_)
      have hZ94 := hZ85.put I89 K90 s91 v92 R83 rfl
      clear I89 K90 s91 v92 p93
      refine yr_nu o84 hZ94 (fun u95 o96 hZ97 => ?_)
      exact yr_vret hC hr o96 hZ97 h86 dX1_entrance_49
theorem dX1_routineName_0 : decode cX1_routineName 0 = .ok (.aload_n 0, 1) := by decide +kernel
theorem dX1_routineName_1 : decode cX1_routineName 1 = .ok (.getfield 65, 3) := by decide +kernel
theorem dX1_routineName_4 : decode cX1_routineName 4 = .ok (.iload_n 1, 1) := by decide +kernel
theorem dX1_routineName_5 : decode cX1_routineName 5 = .ok (.invokevirtual 132, 3) := by decide +kernel
theorem dX1_routineName_8 : decode cX1_routineName 8 = .ok (.istore_n 2, 1) := by decide +kernel
theorem dX1_routineName_9 : decode cX1_routineName 9 = .ok (.aload_n 0, 1) := by decide +kernel
theorem dX1_routineName_10 : decode cX1_routineName 10 = .ok (.getfield 69, 3) := by decide +kernel
theorem dX1_routineName_13 : decode cX1_routineName 13 = .ok (.iload_n 2, 1) := by decide +kernel
theorem dX1_routineName_14 : decode cX1_routineName 14 = .ok (.invokevirtual 162, 3) := by decide +kernel
theorem dX1_routineName_17 : decode cX1_routineName 17 = .ok (.istore_n 3, 1) := by decide +kernel
theorem dX1_routineName_18 : decode cX1_routineName 18 = .ok (.iload_n 3, 1) := by decide +kernel
theorem dX1_routineName_19 : decode cX1_routineName 19 = .ok (.ifCond .lt 31, 3) := by decide +kernel
theorem dX1_routineName_22 : decode cX1_routineName 22 = .ok (.aload_n 0, 1) := by decide +kernel
theorem dX1_routineName_23 : decode cX1_routineName 23 = .ok (.getfield 78, 3) := by decide +kernel
theorem dX1_routineName_26 : decode cX1_routineName 26 = .ok (.aload_n 0, 1) := by decide +kernel
theorem dX1_routineName_27 : decode cX1_routineName 27 = .ok (.getfield 65, 3) := by decide +kernel
theorem dX1_routineName_30 : decode cX1_routineName 30 = .ok (.iload_n 1, 1) := by decide +kernel
theorem dX1_routineName_31 : decode cX1_routineName 31 = .ok (.invokevirtual 129, 3) := by decide +kernel
theorem dX1_routineName_34 : decode cX1_routineName 34 = .ok (.iconst 1, 1) := by decide +kernel
theorem dX1_routineName_35 : decode cX1_routineName 35 = .ok (.iload_n 3, 1) := by decide +kernel
theorem dX1_routineName_36 : decode cX1_routineName 36 = .ok (.iconst 0, 1) := by decide +kernel
theorem dX1_routineName_37 : decode cX1_routineName 37 = .ok (.aload_n 0, 1) := by decide +kernel
theorem dX1_routineName_38 : decode cX1_routineName 38 = .ok (.getfield 65, 3) := by decide +kernel
theorem dX1_routineName_41 : decode cX1_routineName 41 = .ok (.iload_n 1, 1) := by decide +kernel
theorem dX1_routineName_42 : decode cX1_routineName 42 = .ok (.invokevirtual 135, 3) := by decide +kernel
theorem dX1_routineName_45 : decode cX1_routineName 45 = .ok (.invokevirtual 138, 3) := by decide +kernel
theorem dX1_routineName_48 : decode cX1_routineName 48 = .ok (.pop, 1) := by decide +kernel
theorem dX1_routineName_49 : decode cX1_routineName 49 = .ok (.return_, 1) := by decide +kernel
theorem dX1_routineName_50 : decode cX1_routineName 50 = .ok (.aload_n 0, 1) := by decide +kernel
theorem dX1_routineName_51 : decode cX1_routineName 51 = .ok (.getfield 78, 3) := by decide +kernel
theorem dX1_routineName_54 : decode cX1_routineName 54 = .ok (.aload_n 0, 1) := by decide +kernel
theorem dX1_routineName_55 : decode cX1_routineName 55 = .ok (.getfield 65, 3) := by decide +kernel
theorem dX1_routineName_58 : decode cX1_routineName 58 = .ok (.iload_n 1, 1) := by decide +kernel
theorem dX1_routineName_59 : decode cX1_routineName 59 = .ok (.invokevirtual 129, 3) := by decide +kernel
theorem dX1_routineName_62 : decode cX1_routineName 62 = .ok (.invokevirtual 165, 3) := by decide +kernel
theorem dX1_routineName_65 : decode cX1_routineName 65 = .ok (.istore 4, 2) := by decide +kernel
theorem dX1_routineName_67 : decode cX1_routineName 67 = .ok (.aload_n 0, 1) := by decide +kernel
theorem dX1_routineName_68 : decode cX1_routineName 68 = .ok (.getfield 78, 3) := by decide +kernel
theorem dX1_routineName_71 : decode cX1_routineName 71 = .ok (.iload 4, 2) := by decide +kernel
theorem dX1_routineName_73 : decode cX1_routineName 73 = .ok (.invokevirtual 168, 3) := by decide +kernel
theorem dX1_routineName_76 : decode cX1_routineName 76 = .ok (.ifCond .eq 31, 3) := by decide +kernel
theorem dX1_routineName_79 : decode cX1_routineName 79 = .ok (.aload_n 0, 1) := by decide +kernel
theorem dX1_routineName_80 : decode cX1_routineName 80 = .ok (.getfield 69, 3) := by decide +kernel
theorem dX1_routineName_83 : decode cX1_routineName 83 = .ok (.iconst 4, 1) := by decide +kernel
theorem dX1_routineName_84 : decode cX1_routineName 84 = .ok (.aload_n 0, 1) := by decide +kernel
theorem dX1_routineName_85 : decode cX1_routineName 85 = .ok (.getfield 65, 3) := by decide +kernel
theorem dX1_routineName_88 : decode cX1_routineName 88 = .ok (.iload_n 1, 1) := by decide +kernel
theorem dX1_routineName_89 : decode cX1_routineName 89 = .ok (.invokevirtual 135, 3) := by decide +kernel
theorem dX1_routineName_92 : decode cX1_routineName 92 = .ok (.aload_n 0, 1) := by decide +kernel
theorem dX1_routineName_93 : decode cX1_routineName 93 = .ok (.getfield 78, 3) := by decide +kernel
theorem dX1_routineName_96 : decode cX1_routineName 96 = .ok (.iload 4, 2) := by decide +kernel
theorem dX1_routineName_98 : decode cX1_routineName 98 = .ok (.invokevirtual 171, 3) := by decide +kernel
theorem dX1_routineName_101 : decode cX1_routineName 101 = .ok (.invokestatic 172, 3) := by decide +kernel
theorem dX1_routineName_104 : decode cX1_routineName 104 = .ok (.invokevirtual 177, 3) := by decide +kernel
theorem dX1_routineName_107 : decode cX1_routineName 107 = .ok (.aload_n 0, 1) := by decide +kernel
theorem dX1_routineName_108 : decode cX1_routineName 108 = .ok (.getfield 78, 3) := by decide +kernel
theorem dX1_routineName_111 : decode cX1_routineName 111 = .ok (.iload 4, 2) := by decide +kernel
theorem dX1_routineName_113 : decode cX1_routineName 113 = .ok (.iconst 1, 1) := by decide +kernel
theorem dX1_routineName_114 : decode cX1_routineName 114 = .ok (.invokevirtual 154, 3) := by decide +kernel
theorem dX1_routineName_117 : decode cX1_routineName 117 = .ok (.aload_n 0, 1) := by decide +kernel
theorem dX1_routineName_118 : decode cX1_routineName 118 = .ok (.getfield 69, 3) := by decide +kernel
theorem dX1_routineName_121 : decode cX1_routineName 121 = .ok (.aload_n 0, 1) := by decide +kernel
theorem dX1_routineName_122 : decode cX1_routineName 122 = .ok (.getfield 78, 3) := by decide +kernel
theorem dX1_routineName_125 : decode cX1_routineName 125 = .ok (.iload 4, 2) := by decide +kernel
theorem dX1_routineName_127 : decode cX1_routineName 127 = .ok (.invokevirtual 180, 3) := by decide +kernel
theorem dX1_routineName_130 : decode cX1_routineName 130 = .ok (.ldc 11, 2) := by decide +kernel
theorem dX1_routineName_132 : decode cX1_routineName 132 = .ok (.iload_n 2, 1) := by decide +kernel
theorem dX1_routineName_133 : decode cX1_routineName 133 = .ok (.iadd, 1) := by decide +kernel
theorem dX1_routineName_134 : decode cX1_routineName 134 = .ok (.invokevirtual 148, 3) := by decide +kernel
theorem dX1_routineName_137 : decode cX1_routineName 137 = .ok (.return_, 1) := by decide +kernel
def wc_Coder_routineName (A0 : cS) (a0 : Int) (Q : cS → Prop) : Prop :=
  wc_Tree_extra A0 a0 (fun r1 A2 => wc_Program_home A2 r1 (fun r9 A10 => ((r9 < 0 → wc_Tree_data A10 a0 (fun r19 A20 => wc_Scope_find A20 r19 (fun r27 A28 => wc_Scope_owner A28 r27 (fun r35 A36 => ((r35 = 0 → wc_Scope_setOwner A36 r27 1 (fun A46 => wc_Scope_data A46 r27 (fun r53 A54 => ∀ z61 : Int, z61 = zw (1000000 + r1) → zR z61 → wc_Program_setWord A54 r53 z61 (fun A66 => Q A66)))) ∧ (¬ r35 = 0 → wc_Tree_place A36 a0 (fun r74 A75 => wc_Scope_place A75 r27 (fun r82 A83 => wc_Program_blame A83 4 (max r74 r82) (fun A91 => wc_Scope_setOwner A91 r27 1 (fun A99 => wc_Scope_data A99 r27 (fun r106 A107 => ∀ z114 : Int, z114 = zw (1000000 + r1) → zR z114 → wc_Program_setWord A107 r106 z114 (fun A119 => Q A119)))))))))))) ∧ (¬ r9 < 0 → wc_Tree_data A10 a0 (fun r127 A128 => wc_Tree_place A128 a0 (fun r135 A136 => wc_Scope_declare A136 r127 1 r9 0 r135 (fun r143 A144 => Q A144)))))))
set_option maxHeartbeats 4000000 in
set_option maxRecDepth 100000 in
theorem cm_Coder_routineName (l : Launch) (d : gD) (b : Nat) {Y : gYt} {c : Nat × Nat} {F : gM} {k n : Nat} {S : gSt} {A0 : cS} {a0 : Int} (Ra0 : zR a0) {Q : cS → Prop} (hZ : yZ d b Y c F S (F, k, n) S A0) (hw : wc_Coder_routineName A0 a0 Q) : hMv l d b yX1_routineName cX1_routineName 5 5 k n F [.ref (gO' Y 5), .int (zI a0)] (yPv d b Y c F S Q) := by
  intro mc ms
  refine hM_of2 rfl (nL := 5) (Nat.le_of_ble_eq_true rfl) ?_
  intro X hX hC hr ho; subst hX
  show yG X d b (yQv X d b Y c F S mc ms Q) (F, k, n) 0 [some (.ref (gO' Y 5)), some (.int (zI a0)), none, none, none] []
  unfold wc_Coder_routineName at hw
  refine h_aload_n hC dX1_routineName_0 rfl ?_
  refine h_get hC fl_X1_65 (hZ.w.o 5 (by decide)) rfl dX1_routineName_1 ?_
  refine h_iload_n hC dX1_routineName_4 rfl ?_
  refine yr_callVi (As := [.int (zI a0)]) hC hr ho hZ rfl (hZ.w.o 2 (by decide)) (cm_Tree_extra X.la d b Ra0 hZ.rs hw) cl_X1_132 rfl rfl (Nat.le_of_ble_eq_true rfl) (hFr_of (Nat.le_of_ble_eq_true rfl) (Nat.le_of_ble_eq_true rfl)) dX1_routineName_5 (fun r1 A2 u3 S4 R5 o6 hZ7 h8 => ?_)
  refine h_istore_n (lv' := [some (.ref (gO' Y 5)), some (.int (zI a0)), some (.int (zI r1)), none, none]) hC dX1_routineName_8 (Nat.le_of_ble_eq_true rfl) rfl rfl ?_
  refine h_aload_n hC dX1_routineName_9 rfl ?_
  refine h_get hC fl_X1_69 (hZ7.w.o 5 (by decide)) rfl dX1_routineName_10 ?_
  refine h_iload_n hC dX1_routineName_13 rfl ?_
  refine yr_callVi (As := [.int (zI r1)]) hC hr o6 hZ7 rfl (hZ7.w.o 1 (by decide)) (cm_Program_home X.la d b R5 hZ7.rs h8) cl_X1_162 rfl rfl (Nat.le_of_ble_eq_true rfl) (hFr_of (Nat.le_of_ble_eq_true rfl) (Nat.le_of_ble_eq_true rfl)) dX1_routineName_14 (fun r9 A10 u11 S12 R13 o14 hZ15 h16 => ?_)
  refine h_istore_n (lv' := [some (.ref (gO' Y 5)), some (.int (zI a0)), some (.int (zI r1)), some (.int (zI r9)), none]) hC dX1_routineName_17 (Nat.le_of_ble_eq_true rfl) rfl rfl ?_
  refine h_iload_n hC dX1_routineName_18 rfl ?_
  refine yr_if_lt (tgt := 50) hC R13 dX1_routineName_19 (by decide) (fun c17 => ?_) (fun c17 => ?_)
  · have h18 := h16.1 c17
    refine h_aload_n hC dX1_routineName_50 rfl ?_
    refine h_get hC fl_X1_78 (hZ15.w.o 5 (by decide)) rfl dX1_routineName_51 ?_
    refine h_aload_n hC dX1_routineName_54 rfl ?_
    refine h_get hC fl_X1_65 (hZ15.w.o 5 (by decide)) rfl dX1_routineName_55 ?_
    refine h_iload_n hC dX1_routineName_58 rfl ?_
    refine yr_callVi (As := [.int (zI a0)]) hC hr o14 hZ15 rfl (hZ15.w.o 2 (by decide)) (cm_Tree_data X.la d b Ra0 hZ15.rs h18) cl_X1_129 rfl rfl (Nat.le_of_ble_eq_true rfl) (hFr_of (Nat.le_of_ble_eq_true rfl) (Nat.le_of_ble_eq_true rfl)) dX1_routineName_59 (fun r19 A20 u21 S22 R23 o24 hZ25 h26 => ?_)
    refine yr_callVi (As := [.int (zI r19)]) hC hr o24 hZ25 rfl (hZ25.w.o 8 (by decide)) (cm_Scope_find X.la d b R23 hZ25.rs h26) cl_X1_165 rfl rfl (Nat.le_of_ble_eq_true rfl) (hFr_of (Nat.le_of_ble_eq_true rfl) (Nat.le_of_ble_eq_true rfl)) dX1_routineName_62 (fun r27 A28 u29 S30 R31 o32 hZ33 h34 => ?_)
    refine h_istore (lv' := [some (.ref (gO' Y 5)), some (.int (zI a0)), some (.int (zI r1)), some (.int (zI r9)), some (.int (zI r27))]) hC dX1_routineName_65 (Nat.le_of_ble_eq_true rfl) rfl rfl ?_
    refine h_aload_n hC dX1_routineName_67 rfl ?_
    refine h_get hC fl_X1_78 (hZ33.w.o 5 (by decide)) rfl dX1_routineName_68 ?_
    refine h_iload hC dX1_routineName_71 rfl ?_
    refine yr_callVi (As := [.int (zI r27)]) hC hr o32 hZ33 rfl (hZ33.w.o 8 (by decide)) (cm_Scope_owner X.la d b R31 hZ33.rs h34) cl_X1_168 rfl rfl (Nat.le_of_ble_eq_true rfl) (hFr_of (Nat.le_of_ble_eq_true rfl) (Nat.le_of_ble_eq_true rfl)) dX1_routineName_73 (fun r35 A36 u37 S38 R39 o40 hZ41 h42 => ?_)
    refine yr_if_eq (tgt := 107) hC R39 dX1_routineName_76 (by decide) (fun c43 => ?_) (fun c43 => ?_)
    · have h44 := h42.1 c43
      refine h_aload_n hC dX1_routineName_107 rfl ?_
      refine h_get hC fl_X1_78 (hZ41.w.o 5 (by decide)) rfl dX1_routineName_108 ?_
      refine h_iload hC dX1_routineName_111 rfl ?_
      refine h_iconst (v := zI 1) hC dX1_routineName_113 rfl ?_
      refine yr_callVv (As := [.int (zI r27), .int (zI 1)]) hC hr o40 hZ41 rfl (hZ41.w.o 8 (by decide)) (cm_Scope_setOwner X.la d b R31 (by decide) hZ41.rs h44) cl_X1_154 rfl rfl (Nat.le_of_ble_eq_true rfl) (hFr_of (Nat.le_of_ble_eq_true rfl) (Nat.le_of_ble_eq_true rfl)) dX1_routineName_114 (fun A46 u47 S48 o50 hZ51 h52 => ?_)
      refine h_aload_n hC dX1_routineName_117 rfl ?_
      refine h_get hC fl_X1_69 (hZ51.w.o 5 (by decide)) rfl dX1_routineName_118 ?_
      refine h_aload_n hC dX1_routineName_121 rfl ?_
      refine h_get hC fl_X1_78 (hZ51.w.o 5 (by decide)) rfl dX1_routineName_122 ?_
      refine h_iload hC dX1_routineName_125 rfl ?_
      refine yr_callVi (As := [.int (zI r27)]) hC hr o50 hZ51 rfl (hZ51.w.o 8 (by decide)) (cm_Scope_data X.la d b R31 hZ51.rs h52) cl_X1_180 rfl rfl (Nat.le_of_ble_eq_true rfl) (hFr_of (Nat.le_of_ble_eq_true rfl) (Nat.le_of_ble_eq_true rfl)) dX1_routineName_127 (fun r53 A54 u55 S56 R57 o58 hZ59 h60 => ?_)
      refine yr_ldc (e := 1000000) hC dX1_routineName_130 kw_576 (by decide) ?_
      refine h_iload_n hC dX1_routineName_132 rfl ?_
      refine yr_iadd hC dX1_routineName_133 ?_
      refine yr_w (fun z61 e62 R63 => ?_)
      have h64 := h60 z61 e62 R63
      refine yr_callVv (As := [.int (zI r53), .int (zI z61)]) hC hr o58 hZ59 rfl (hZ59.w.o 1 (by decide)) (cm_Program_setWord X.la d b R57 R63 hZ59.rs h64) cl_X1_148 rfl rfl (Nat.le_of_ble_eq_true rfl) (hFr_of (Nat.le_of_ble_eq_true rfl) (Nat.le_of_ble_eq_true rfl)) dX1_routineName_134 (fun A66 u67 S68 o70 hZ71 h72 => ?_)
      exact yr_vret hC hr o70 hZ71 h72 dX1_routineName_137
    · have h73 := h42.2 c43
      refine h_aload_n hC dX1_routineName_79 rfl ?_
      refine h_get hC fl_X1_69 (hZ41.w.o 5 (by decide)) rfl dX1_routineName_80 ?_
      refine h_iconst (v := zI 4) hC dX1_routineName_83 rfl ?_
      refine h_aload_n hC dX1_routineName_84 rfl ?_
      refine h_get hC fl_X1_65 (hZ41.w.o 5 (by decide)) rfl dX1_routineName_85 ?_
      refine h_iload_n hC dX1_routineName_88 rfl ?_
      refine yr_callVi (As := [.int (zI a0)]) hC hr o40 hZ41 rfl (hZ41.w.o 2 (by decide)) (cm_Tree_place X.la d b Ra0 hZ41.rs h73) cl_X1_135 rfl rfl (Nat.le_of_ble_eq_true rfl) (hFr_of (Nat.le_of_ble_eq_true rfl) (Nat.le_of_ble_eq_true rfl)) dX1_routineName_89 (fun r74 A75 u76 S77 R78 o79 hZ80 h81 => ?_)
      refine h_aload_n hC dX1_routineName_92 rfl ?_
      refine h_get hC fl_X1_78 (hZ80.w.o 5 (by decide)) rfl dX1_routineName_93 ?_
      refine h_iload hC dX1_routineName_96 rfl ?_
      refine yr_callVi (As := [.int (zI r27)]) hC hr o79 hZ80 rfl (hZ80.w.o 8 (by decide)) (cm_Scope_place X.la d b R31 hZ80.rs h81) cl_X1_171 rfl rfl (Nat.le_of_ble_eq_true rfl) (hFr_of (Nat.le_of_ble_eq_true rfl) (Nat.le_of_ble_eq_true rfl)) dX1_routineName_98 (fun r82 A83 u84 S85 R86 o87 hZ88 h89 => ?_)
      refine yr_max hC hr o87 kw_1416 rfl ⟨Nat.le_of_ble_eq_true rfl, Nat.le_of_ble_eq_true rfl⟩ (Nat.le_of_ble_eq_true rfl) dX1_routineName_101 R78 R86 ?_
      refine yr_callVv (As := [.int (zI 4), .int (zI (max r74 r82))]) hC hr o87 hZ88 rfl (hZ88.w.o 1 (by decide)) (cm_Program_blame X.la d b (by decide) (y_maxR R78 R86) hZ88.rs h89) cl_X1_177 rfl rfl (Nat.le_of_ble_eq_true rfl) (hFr_of (Nat.le_of_ble_eq_true rfl) (Nat.le_of_ble_eq_true rfl)) dX1_routineName_104 (fun A91 u92 S93 o95 hZ96 h97 => ?_)
      refine h_aload_n hC dX1_routineName_107 rfl ?_
      refine h_get hC fl_X1_78 (hZ96.w.o 5 (by decide)) rfl dX1_routineName_108 ?_
      refine h_iload hC dX1_routineName_111 rfl ?_
      refine h_iconst (v := zI 1) hC dX1_routineName_113 rfl ?_
      refine yr_callVv (As := [.int (zI r27), .int (zI 1)]) hC hr o95 hZ96 rfl (hZ96.w.o 8 (by decide)) (cm_Scope_setOwner X.la d b R31 (by decide) hZ96.rs h97) cl_X1_154 rfl rfl (Nat.le_of_ble_eq_true rfl) (hFr_of (Nat.le_of_ble_eq_true rfl) (Nat.le_of_ble_eq_true rfl)) dX1_routineName_114 (fun A99 u100 S101 o103 hZ104 h105 => ?_)
      refine h_aload_n hC dX1_routineName_117 rfl ?_
      refine h_get hC fl_X1_69 (hZ104.w.o 5 (by decide)) rfl dX1_routineName_118 ?_
      refine h_aload_n hC dX1_routineName_121 rfl ?_
      refine h_get hC fl_X1_78 (hZ104.w.o 5 (by decide)) rfl dX1_routineName_122 ?_
      refine h_iload hC dX1_routineName_125 rfl ?_
      refine yr_callVi (As := [.int (zI r27)]) hC hr o103 hZ104 rfl (hZ104.w.o 8 (by decide)) (cm_Scope_data X.la d b R31 hZ104.rs h105) cl_X1_180 rfl rfl (Nat.le_of_ble_eq_true rfl) (hFr_of (Nat.le_of_ble_eq_true rfl) (Nat.le_of_ble_eq_true rfl)) dX1_routineName_127 (fun r106 A107 u108 S109 R110 o111 hZ112 h113 => ?_)
      refine yr_ldc (e := 1000000) hC dX1_routineName_130 kw_576 (by decide) ?_
      refine h_iload_n hC dX1_routineName_132 rfl ?_
      refine yr_iadd hC dX1_routineName_133 ?_
      refine yr_w (fun z114 e115 R116 => ?_)
      have h117 := h113 z114 e115 R116
      refine yr_callVv (As := [.int (zI r106), .int (zI z114)]) hC hr o111 hZ112 rfl (hZ112.w.o 1 (by decide)) (cm_Program_setWord X.la d b R110 R116 hZ112.rs h117) cl_X1_148 rfl rfl (Nat.le_of_ble_eq_true rfl) (hFr_of (Nat.le_of_ble_eq_true rfl) (Nat.le_of_ble_eq_true rfl)) dX1_routineName_134 (fun A119 u120 S121 o123 hZ124 h125 => ?_)
      exact yr_vret hC hr o123 hZ124 h125 dX1_routineName_137
  · have h126 := h16.2 c17
    refine h_aload_n hC dX1_routineName_22 rfl ?_
    refine h_get hC fl_X1_78 (hZ15.w.o 5 (by decide)) rfl dX1_routineName_23 ?_
    refine h_aload_n hC dX1_routineName_26 rfl ?_
    refine h_get hC fl_X1_65 (hZ15.w.o 5 (by decide)) rfl dX1_routineName_27 ?_
    refine h_iload_n hC dX1_routineName_30 rfl ?_
    refine yr_callVi (As := [.int (zI a0)]) hC hr o14 hZ15 rfl (hZ15.w.o 2 (by decide)) (cm_Tree_data X.la d b Ra0 hZ15.rs h126) cl_X1_129 rfl rfl (Nat.le_of_ble_eq_true rfl) (hFr_of (Nat.le_of_ble_eq_true rfl) (Nat.le_of_ble_eq_true rfl)) dX1_routineName_31 (fun r127 A128 u129 S130 R131 o132 hZ133 h134 => ?_)
    refine h_iconst (v := zI 1) hC dX1_routineName_34 rfl ?_
    refine h_iload_n hC dX1_routineName_35 rfl ?_
    refine h_iconst (v := zI 0) hC dX1_routineName_36 rfl ?_
    refine h_aload_n hC dX1_routineName_37 rfl ?_
    refine h_get hC fl_X1_65 (hZ133.w.o 5 (by decide)) rfl dX1_routineName_38 ?_
    refine h_iload_n hC dX1_routineName_41 rfl ?_
    refine yr_callVi (As := [.int (zI a0)]) hC hr o132 hZ133 rfl (hZ133.w.o 2 (by decide)) (cm_Tree_place X.la d b Ra0 hZ133.rs h134) cl_X1_135 rfl rfl (Nat.le_of_ble_eq_true rfl) (hFr_of (Nat.le_of_ble_eq_true rfl) (Nat.le_of_ble_eq_true rfl)) dX1_routineName_42 (fun r135 A136 u137 S138 R139 o140 hZ141 h142 => ?_)
    refine yr_callVi (As := [.int (zI r127), .int (zI 1), .int (zI r9), .int (zI 0), .int (zI r135)]) hC hr o140 hZ141 rfl (hZ141.w.o 8 (by decide)) (cm_Scope_declare X.la d b R131 (by decide) R13 (by decide) R139 hZ141.rs h142) cl_X1_138 rfl rfl (Nat.le_of_ble_eq_true rfl) (hFr_of (Nat.le_of_ble_eq_true rfl) (Nat.le_of_ble_eq_true rfl)) dX1_routineName_45 (fun r143 A144 u145 S146 R147 o148 hZ149 h150 => ?_)
    refine h_pop hC dX1_routineName_48 rfl ?_
    exact yr_vret hC hr o148 hZ149 h150 dX1_routineName_49
theorem dX1_emit_0 : decode cX1_emit 0 = .ok (.aload_n 0, 1) := by decide +kernel
theorem dX1_emit_1 : decode cX1_emit 1 = .ok (.getfield 69, 3) := by decide +kernel
theorem dX1_emit_4 : decode cX1_emit 4 = .ok (.iload_n 1, 1) := by decide +kernel
theorem dX1_emit_5 : decode cX1_emit 5 = .ok (.iload_n 2, 1) := by decide +kernel
theorem dX1_emit_6 : decode cX1_emit 6 = .ok (.invokevirtual 117, 3) := by decide +kernel
theorem dX1_emit_9 : decode cX1_emit 9 = .ok (.ireturn, 1) := by decide +kernel
def wc_Coder_emit (A0 : cS) (a0 : Int) (a1 : Int) (Q : Int → cS → Prop) : Prop :=
  wc_Program_emit A0 a0 a1 (fun r1 A2 => Q r1 A2)
set_option maxHeartbeats 4000000 in
set_option maxRecDepth 100000 in
theorem cm_Coder_emit (l : Launch) (d : gD) (b : Nat) {Y : gYt} {c : Nat × Nat} {F : gM} {k n : Nat} {S : gSt} {A0 : cS} {a0 : Int} {a1 : Int} (Ra0 : zR a0) (Ra1 : zR a1) {Q : Int → cS → Prop} (hZ : yZ d b Y c F S (F, k, n) S A0) (hw : wc_Coder_emit A0 a0 a1 Q) : hMi l d b yX1_emit cX1_emit 3 .int 4 k n F [.ref (gO' Y 5), .int (zI a0), .int (zI a1)] (yPi d b Y c F S Q) := by
  intro mc ms
  refine hM_of2 rfl (nL := 3) (Nat.le_of_ble_eq_true rfl) ?_
  intro X hX hC hr ho; subst hX
  show yG X d b (yQi X d b Y c F S mc ms Q) (F, k, n) 0 [some (.ref (gO' Y 5)), some (.int (zI a0)), some (.int (zI a1))] []
  unfold wc_Coder_emit at hw
  refine h_aload_n hC dX1_emit_0 rfl ?_
  refine h_get hC fl_X1_69 (hZ.w.o 5 (by decide)) rfl dX1_emit_1 ?_
  refine h_iload_n hC dX1_emit_4 rfl ?_
  refine h_iload_n hC dX1_emit_5 rfl ?_
  refine yr_callVi (As := [.int (zI a0), .int (zI a1)]) hC hr ho hZ rfl (hZ.w.o 1 (by decide)) (cm_Program_emit X.la d b Ra0 Ra1 hZ.rs hw) cl_X1_117 rfl rfl (Nat.le_of_ble_eq_true rfl) (hFr_of (Nat.le_of_ble_eq_true rfl) (Nat.le_of_ble_eq_true rfl)) dX1_emit_6 (fun r1 A2 u3 S4 R5 o6 hZ7 h8 => ?_)
  exact yr_iret hC hr o6 hZ7 R5 h8 dX1_emit_9
theorem dX1_parameters_0 : decode cX1_parameters 0 = .ok (.aload_n 0, 1) := by decide +kernel
theorem dX1_parameters_1 : decode cX1_parameters 1 = .ok (.getfield 65, 3) := by decide +kernel
theorem dX1_parameters_4 : decode cX1_parameters 4 = .ok (.iload_n 1, 1) := by decide +kernel
theorem dX1_parameters_5 : decode cX1_parameters 5 = .ok (.invokevirtual 126, 3) := by decide +kernel
theorem dX1_parameters_8 : decode cX1_parameters 8 = .ok (.istore_n 2, 1) := by decide +kernel
theorem dX1_parameters_9 : decode cX1_parameters 9 = .ok (.aload_n 0, 1) := by decide +kernel
theorem dX1_parameters_10 : decode cX1_parameters 10 = .ok (.iconst 2, 1) := by decide +kernel
theorem dX1_parameters_11 : decode cX1_parameters 11 = .ok (.putfield 46, 3) := by decide +kernel
theorem dX1_parameters_14 : decode cX1_parameters 14 = .ok (.iconst 0, 1) := by decide +kernel
theorem dX1_parameters_15 : decode cX1_parameters 15 = .ok (.istore_n 3, 1) := by decide +kernel
theorem dX1_parameters_16 : decode cX1_parameters 16 = .ok (.iload_n 3, 1) := by decide +kernel
theorem dX1_parameters_17 : decode cX1_parameters 17 = .ok (.bipush 20, 2) := by decide +kernel
theorem dX1_parameters_19 : decode cX1_parameters 19 = .ok (.if_icmp .ge 72, 3) := by decide +kernel
theorem dX1_parameters_22 : decode cX1_parameters 22 = .ok (.aload_n 0, 1) := by decide +kernel
theorem dX1_parameters_23 : decode cX1_parameters 23 = .ok (.getfield 65, 3) := by decide +kernel
theorem dX1_parameters_26 : decode cX1_parameters 26 = .ok (.iload_n 2, 1) := by decide +kernel
theorem dX1_parameters_27 : decode cX1_parameters 27 = .ok (.invokevirtual 142, 3) := by decide +kernel
theorem dX1_parameters_30 : decode cX1_parameters 30 = .ok (.ifCond .eq 61, 3) := by decide +kernel
theorem dX1_parameters_33 : decode cX1_parameters 33 = .ok (.aload_n 0, 1) := by decide +kernel
theorem dX1_parameters_34 : decode cX1_parameters 34 = .ok (.getfield 78, 3) := by decide +kernel
theorem dX1_parameters_37 : decode cX1_parameters 37 = .ok (.aload_n 0, 1) := by decide +kernel
theorem dX1_parameters_38 : decode cX1_parameters 38 = .ok (.getfield 65, 3) := by decide +kernel
theorem dX1_parameters_41 : decode cX1_parameters 41 = .ok (.iload_n 2, 1) := by decide +kernel
theorem dX1_parameters_42 : decode cX1_parameters 42 = .ok (.invokevirtual 129, 3) := by decide +kernel
theorem dX1_parameters_45 : decode cX1_parameters 45 = .ok (.iconst 2, 1) := by decide +kernel
theorem dX1_parameters_46 : decode cX1_parameters 46 = .ok (.aload_n 0, 1) := by decide +kernel
theorem dX1_parameters_47 : decode cX1_parameters 47 = .ok (.getfield 46, 3) := by decide +kernel
theorem dX1_parameters_50 : decode cX1_parameters 50 = .ok (.aload_n 0, 1) := by decide +kernel
theorem dX1_parameters_51 : decode cX1_parameters 51 = .ok (.getfield 52, 3) := by decide +kernel
theorem dX1_parameters_54 : decode cX1_parameters 54 = .ok (.aload_n 0, 1) := by decide +kernel
theorem dX1_parameters_55 : decode cX1_parameters 55 = .ok (.getfield 65, 3) := by decide +kernel
theorem dX1_parameters_58 : decode cX1_parameters 58 = .ok (.iload_n 2, 1) := by decide +kernel
theorem dX1_parameters_59 : decode cX1_parameters 59 = .ok (.invokevirtual 135, 3) := by decide +kernel
theorem dX1_parameters_62 : decode cX1_parameters 62 = .ok (.invokevirtual 138, 3) := by decide +kernel
theorem dX1_parameters_65 : decode cX1_parameters 65 = .ok (.pop, 1) := by decide +kernel
theorem dX1_parameters_66 : decode cX1_parameters 66 = .ok (.aload_n 0, 1) := by decide +kernel
theorem dX1_parameters_67 : decode cX1_parameters 67 = .ok (.dup, 1) := by decide +kernel
theorem dX1_parameters_68 : decode cX1_parameters 68 = .ok (.getfield 46, 3) := by decide +kernel
theorem dX1_parameters_71 : decode cX1_parameters 71 = .ok (.iconst 1, 1) := by decide +kernel
theorem dX1_parameters_72 : decode cX1_parameters 72 = .ok (.iadd, 1) := by decide +kernel
theorem dX1_parameters_73 : decode cX1_parameters 73 = .ok (.putfield 46, 3) := by decide +kernel
theorem dX1_parameters_76 : decode cX1_parameters 76 = .ok (.aload_n 0, 1) := by decide +kernel
theorem dX1_parameters_77 : decode cX1_parameters 77 = .ok (.getfield 65, 3) := by decide +kernel
theorem dX1_parameters_80 : decode cX1_parameters 80 = .ok (.iload_n 2, 1) := by decide +kernel
theorem dX1_parameters_81 : decode cX1_parameters 81 = .ok (.invokevirtual 142, 3) := by decide +kernel
theorem dX1_parameters_84 : decode cX1_parameters 84 = .ok (.istore_n 2, 1) := by decide +kernel
theorem dX1_parameters_85 : decode cX1_parameters 85 = .ok (.iinc 3 1, 3) := by decide +kernel
theorem dX1_parameters_88 : decode cX1_parameters 88 = .ok (.goto (-72), 3) := by decide +kernel
theorem dX1_parameters_91 : decode cX1_parameters 91 = .ok (.aload_n 0, 1) := by decide +kernel
theorem dX1_parameters_92 : decode cX1_parameters 92 = .ok (.aload_n 0, 1) := by decide +kernel
theorem dX1_parameters_93 : decode cX1_parameters 93 = .ok (.getfield 46, 3) := by decide +kernel
theorem dX1_parameters_96 : decode cX1_parameters 96 = .ok (.putfield 49, 3) := by decide +kernel
theorem dX1_parameters_99 : decode cX1_parameters 99 = .ok (.aload_n 0, 1) := by decide +kernel
theorem dX1_parameters_100 : decode cX1_parameters 100 = .ok (.getfield 69, 3) := by decide +kernel
theorem dX1_parameters_103 : decode cX1_parameters 103 = .ok (.aload_n 0, 1) := by decide +kernel
theorem dX1_parameters_104 : decode cX1_parameters 104 = .ok (.getfield 52, 3) := by decide +kernel
theorem dX1_parameters_107 : decode cX1_parameters 107 = .ok (.aload_n 0, 1) := by decide +kernel
theorem dX1_parameters_108 : decode cX1_parameters 108 = .ok (.getfield 46, 3) := by decide +kernel
theorem dX1_parameters_111 : decode cX1_parameters 111 = .ok (.iconst 2, 1) := by decide +kernel
theorem dX1_parameters_112 : decode cX1_parameters 112 = .ok (.isub, 1) := by decide +kernel
theorem dX1_parameters_113 : decode cX1_parameters 113 = .ok (.invokevirtual 204, 3) := by decide +kernel
theorem dX1_parameters_116 : decode cX1_parameters 116 = .ok (.iload_n 2, 1) := by decide +kernel
theorem dX1_parameters_117 : decode cX1_parameters 117 = .ok (.ireturn, 1) := by decide +kernel
def wc_Coder_parameters_16B (Q : Int → cS → Prop) (k16 : cS → Int → Int → Prop) (A0 : cS) (x2 : Int) (x3 : Int) : Prop :=
  ((20 ≤ x3 → (zR ((yv A0 19) - 2)) ∧ wc_Program_setBegin (ypv A0 20 (yv A0 19)) (yv A0 21) ((yv A0 19) - 2) (fun A17 => Q x2 A17)) ∧ (¬ 20 ≤ x3 → wc_Tree_next A0 x2 (fun r25 A26 => ((r25 = 0 → (zR ((yv A26 19) - 2)) ∧ wc_Program_setBegin (ypv A26 20 (yv A26 19)) (yv A26 21) ((yv A26 19) - 2) (fun A49 => Q x2 A49)) ∧ (¬ r25 = 0 → wc_Tree_data A26 x2 (fun r57 A58 => wc_Tree_place A58 x2 (fun r65 A66 => wc_Scope_declare A66 r57 2 (yv A58 19) (yv A58 21) r65 (fun r73 A74 => (zR ((yv A74 19) + 1)) ∧ wc_Tree_next (ypv A74 19 ((yv A74 19) + 1)) x2 (fun r94 A95 => (zR (x3 + 1)) ∧ k16 A95 r94 (x3 + 1))))))))))
def wc_Coder_parameters_16 (Q : Int → cS → Prop)  : Nat → cS → Int → Int → Prop
  | 0 => fun _ _ _ => False
  | m + 1 => fun A0 x2 x3 => wc_Coder_parameters_16B Q  (wc_Coder_parameters_16 Q  m) A0 x2 x3
def wc_Coder_parameters (A0 : cS) (a0 : Int) (Q : Int → cS → Prop) : Prop :=
  wc_Tree_first A0 a0 (fun r1 A2 => ∃ n, wc_Coder_parameters_16 Q  n (ypv A2 19 2) r1 0)
set_option maxHeartbeats 4000000 in
set_option maxRecDepth 100000 in
theorem cb_Coder_parameters_16 {X : gX} {d : gD} {b : Nat} {Y : gYt} {c : Nat × Nat} {F0 : gM} {S0 : gSt} {mc ms : Nat} (hC : gC RX1 cX1_parameters 4 (some .int) "parameters" (gR 5 mc ms) d b X) (hr : hRm X b) {Q : Int → cS → Prop} {k16 : cS → Int → Int → Prop} (hk16 : ∀ (u : hU) (S : gSt) (A0 : cS) (x2 : Int) (x3 : Int), zR x2 → zR x3 → yOk X b u → yZ d b Y c F0 S0 u S A0 → k16 A0 x2 x3 → yG X d b (yQi X d b Y c F0 S0 mc ms Q) u 16 [some (.ref (gO' Y 5)), none, some (.int (zI x2)), some (.int (zI x3))] []) {u : hU} {S : gSt} {A0 : cS} {x2 : Int} {x3 : Int} (Rx2 : zR x2) (Rx3 : zR x3) (ho : yOk X b u) (hZ : yZ d b Y c F0 S0 u S A0) (hw : wc_Coder_parameters_16B Q k16 A0 x2 x3) : yG X d b (yQi X d b Y c F0 S0 mc ms Q) u 16 [some (.ref (gO' Y 5)), none, some (.int (zI x2)), some (.int (zI x3))] [] := by
  unfold wc_Coder_parameters_16B at hw
  refine h_iload_n hC dX1_parameters_16 rfl ?_
  refine h_bipush (v := zI 20) hC dX1_parameters_17 rfl ?_
  refine yr_icmp_ge (tgt := 91) hC Rx3 (by decide) dX1_parameters_19 (by decide) (fun c1 => ?_) (fun c1 => ?_)
  · have h2 := hw.1 c1
    refine h_aload_n hC dX1_parameters_91 rfl ?_
    refine h_aload_n hC dX1_parameters_92 rfl ?_
    refine h_get hC fl_X1_46 (hZ.w.o 5 (by decide)) rfl dX1_parameters_93 ?_
    refine yr_sv (e := (yv A0 19)) hZ 19 rfl ?_
    refine hi_putx (i := 5) (kx := 20) hC hZ.hi (by decide) fl_X1_49 rfl rfl rfl (Nat.le_of_ble_eq_true rfl) rfl gsame_20 (fun q => absurd q (by decide)) dX1_parameters_96 (fun F3 S4 I5 K6 s7 v8 p9 => ?_)
    have hZ10 := hZ.put I5 K6 s7 v8 (hZ.rv 19) rfl
    clear I5 K6 s7 v8 p9
    refine yr_nu ho hZ10 (fun u11 o12 hZ13 => ?_)
    refine h_aload_n hC dX1_parameters_99 rfl ?_
    refine h_get hC fl_X1_69 (hZ13.w.o 5 (by decide)) rfl dX1_parameters_100 ?_
    refine h_aload_n hC dX1_parameters_103 rfl ?_
    refine h_get hC fl_X1_52 (hZ13.w.o 5 (by decide)) rfl dX1_parameters_104 ?_
    refine yr_sv (e := (yv A0 21)) hZ13 21 rfl ?_
    refine h_aload_n hC dX1_parameters_107 rfl ?_
    refine h_get hC fl_X1_46 (hZ13.w.o 5 (by decide)) rfl dX1_parameters_108 ?_
    refine yr_sv (e := (yv A0 19)) hZ13 19 rfl ?_
    refine h_iconst (v := zI 2) hC dX1_parameters_111 rfl ?_
    refine yr_isub hC dX1_parameters_112 ?_
    obtain ⟨o14, h15⟩ := h2
    refine yr_callVv (As := [.int (zI (yv A0 21)), .int (zI ((yv A0 19) - 2))]) hC hr o12 hZ13 rfl (hZ13.w.o 1 (by decide)) (cm_Program_setBegin X.la d b (hZ.rv 21) o14 hZ13.rs h15) cl_X1_204 rfl rfl (Nat.le_of_ble_eq_true rfl) (hFr_of (Nat.le_of_ble_eq_true rfl) (Nat.le_of_ble_eq_true rfl)) dX1_parameters_113 (fun A17 u18 S19 o21 hZ22 h23 => ?_)
    refine h_iload_n hC dX1_parameters_116 rfl ?_
    exact yr_iret hC hr o21 hZ22 Rx2 h23 dX1_parameters_117
  · have h24 := hw.2 c1
    refine h_aload_n hC dX1_parameters_22 rfl ?_
    refine h_get hC fl_X1_65 (hZ.w.o 5 (by decide)) rfl dX1_parameters_23 ?_
    refine h_iload_n hC dX1_parameters_26 rfl ?_
    refine yr_callVi (As := [.int (zI x2)]) hC hr ho hZ rfl (hZ.w.o 2 (by decide)) (cm_Tree_next X.la d b Rx2 hZ.rs h24) cl_X1_142 rfl rfl (Nat.le_of_ble_eq_true rfl) (hFr_of (Nat.le_of_ble_eq_true rfl) (Nat.le_of_ble_eq_true rfl)) dX1_parameters_27 (fun r25 A26 u27 S28 R29 o30 hZ31 h32 => ?_)
    refine yr_if_eq (tgt := 91) hC R29 dX1_parameters_30 (by decide) (fun c33 => ?_) (fun c33 => ?_)
    · have h34 := h32.1 c33
      refine h_aload_n hC dX1_parameters_91 rfl ?_
      refine h_aload_n hC dX1_parameters_92 rfl ?_
      refine h_get hC fl_X1_46 (hZ31.w.o 5 (by decide)) rfl dX1_parameters_93 ?_
      refine yr_sv (e := (yv A26 19)) hZ31 19 rfl ?_
      refine hi_putx (i := 5) (kx := 20) hC hZ31.hi (by decide) fl_X1_49 rfl rfl rfl (Nat.le_of_ble_eq_true rfl) rfl gsame_20 (fun q => absurd q (by decide)) dX1_parameters_96 (fun F35 S36 I37 K38 s39 v40 p41 => ?_)
      have hZ42 := hZ31.put I37 K38 s39 v40 (hZ31.rv 19) rfl
      clear I37 K38 s39 v40 p41
      refine yr_nu o30 hZ42 (fun u43 o44 hZ45 => ?_)
      refine h_aload_n hC dX1_parameters_99 rfl ?_
      refine h_get hC fl_X1_69 (hZ45.w.o 5 (by decide)) rfl dX1_parameters_100 ?_
      refine h_aload_n hC dX1_parameters_103 rfl ?_
      refine h_get hC fl_X1_52 (hZ45.w.o 5 (by decide)) rfl dX1_parameters_104 ?_
      refine yr_sv (e := (yv A26 21)) hZ45 21 rfl ?_
      refine h_aload_n hC dX1_parameters_107 rfl ?_
      refine h_get hC fl_X1_46 (hZ45.w.o 5 (by decide)) rfl dX1_parameters_108 ?_
      refine yr_sv (e := (yv A26 19)) hZ45 19 rfl ?_
      refine h_iconst (v := zI 2) hC dX1_parameters_111 rfl ?_
      refine yr_isub hC dX1_parameters_112 ?_
      obtain ⟨o46, h47⟩ := h34
      refine yr_callVv (As := [.int (zI (yv A26 21)), .int (zI ((yv A26 19) - 2))]) hC hr o44 hZ45 rfl (hZ45.w.o 1 (by decide)) (cm_Program_setBegin X.la d b (hZ31.rv 21) o46 hZ45.rs h47) cl_X1_204 rfl rfl (Nat.le_of_ble_eq_true rfl) (hFr_of (Nat.le_of_ble_eq_true rfl) (Nat.le_of_ble_eq_true rfl)) dX1_parameters_113 (fun A49 u50 S51 o53 hZ54 h55 => ?_)
      refine h_iload_n hC dX1_parameters_116 rfl ?_
      exact yr_iret hC hr o53 hZ54 Rx2 h55 dX1_parameters_117
    · have h56 := h32.2 c33
      refine h_aload_n hC dX1_parameters_33 rfl ?_
      refine h_get hC fl_X1_78 (hZ31.w.o 5 (by decide)) rfl dX1_parameters_34 ?_
      refine h_aload_n hC dX1_parameters_37 rfl ?_
      refine h_get hC fl_X1_65 (hZ31.w.o 5 (by decide)) rfl dX1_parameters_38 ?_
      refine h_iload_n hC dX1_parameters_41 rfl ?_
      refine yr_callVi (As := [.int (zI x2)]) hC hr o30 hZ31 rfl (hZ31.w.o 2 (by decide)) (cm_Tree_data X.la d b Rx2 hZ31.rs h56) cl_X1_129 rfl rfl (Nat.le_of_ble_eq_true rfl) (hFr_of (Nat.le_of_ble_eq_true rfl) (Nat.le_of_ble_eq_true rfl)) dX1_parameters_42 (fun r57 A58 u59 S60 R61 o62 hZ63 h64 => ?_)
      refine h_iconst (v := zI 2) hC dX1_parameters_45 rfl ?_
      refine h_aload_n hC dX1_parameters_46 rfl ?_
      refine h_get hC fl_X1_46 (hZ63.w.o 5 (by decide)) rfl dX1_parameters_47 ?_
      refine yr_sv (e := (yv A58 19)) hZ63 19 rfl ?_
      refine h_aload_n hC dX1_parameters_50 rfl ?_
      refine h_get hC fl_X1_52 (hZ63.w.o 5 (by decide)) rfl dX1_parameters_51 ?_
      refine yr_sv (e := (yv A58 21)) hZ63 21 rfl ?_
      refine h_aload_n hC dX1_parameters_54 rfl ?_
      refine h_get hC fl_X1_65 (hZ63.w.o 5 (by decide)) rfl dX1_parameters_55 ?_
      refine h_iload_n hC dX1_parameters_58 rfl ?_
      refine yr_callVi (As := [.int (zI x2)]) hC hr o62 hZ63 rfl (hZ63.w.o 2 (by decide)) (cm_Tree_place X.la d b Rx2 hZ63.rs h64) cl_X1_135 rfl rfl (Nat.le_of_ble_eq_true rfl) (hFr_of (Nat.le_of_ble_eq_true rfl) (Nat.le_of_ble_eq_true rfl)) dX1_parameters_59 (fun r65 A66 u67 S68 R69 o70 hZ71 h72 => ?_)
      refine yr_callVi (As := [.int (zI r57), .int (zI 2), .int (zI (yv A58 19)), .int (zI (yv A58 21)), .int (zI r65)]) hC hr o70 hZ71 rfl (hZ71.w.o 8 (by decide)) (cm_Scope_declare X.la d b R61 (by decide) (hZ63.rv 19) (hZ63.rv 21) R69 hZ71.rs h72) cl_X1_138 rfl rfl (Nat.le_of_ble_eq_true rfl) (hFr_of (Nat.le_of_ble_eq_true rfl) (Nat.le_of_ble_eq_true rfl)) dX1_parameters_62 (fun r73 A74 u75 S76 R77 o78 hZ79 h80 => ?_)
      refine h_pop hC dX1_parameters_65 rfl ?_
      refine h_aload_n hC dX1_parameters_66 rfl ?_
      refine h_dup hC dX1_parameters_67 rfl ?_
      refine h_get hC fl_X1_46 (hZ79.w.o 5 (by decide)) rfl dX1_parameters_68 ?_
      refine yr_sv (e := (yv A74 19)) hZ79 19 rfl ?_
      refine h_iconst (v := zI 1) hC dX1_parameters_71 rfl ?_
      refine yr_iadd hC dX1_parameters_72 ?_
      obtain ⟨o81, h82⟩ := h80
      refine hi_putx (i := 5) (kx := 19) hC hZ79.hi (by decide) fl_X1_46 rfl rfl rfl (Nat.le_of_ble_eq_true rfl) rfl gsame_19 (fun q => absurd q (by decide)) dX1_parameters_73 (fun F83 S84 I85 K86 s87 v88 p89 => ?_)
      have hZ90 := hZ79.put I85 K86 s87 v88 o81 rfl
      clear I85 K86 s87 v88 p89
      refine yr_nu o78 hZ90 (fun u91 o92 hZ93 => ?_)
      refine h_aload_n hC dX1_parameters_76 rfl ?_
      refine h_get hC fl_X1_65 (hZ93.w.o 5 (by decide)) rfl dX1_parameters_77 ?_
      refine h_iload_n hC dX1_parameters_80 rfl ?_
      refine yr_callVi (As := [.int (zI x2)]) hC hr o92 hZ93 rfl (hZ93.w.o 2 (by decide)) (cm_Tree_next X.la d b Rx2 hZ93.rs h82) cl_X1_142 rfl rfl (Nat.le_of_ble_eq_true rfl) (hFr_of (Nat.le_of_ble_eq_true rfl) (Nat.le_of_ble_eq_true rfl)) dX1_parameters_81 (fun r94 A95 u96 S97 R98 o99 hZ100 h101 => ?_)
      refine h_istore_n (lv' := [some (.ref (gO' Y 5)), none, some (.int (zI r94)), some (.int (zI x3))]) hC dX1_parameters_84 (Nat.le_of_ble_eq_true rfl) rfl rfl ?_
      refine yr_iinc (x := x3) (lv' := [some (.ref (gO' Y 5)), none, some (.int (zI r94)), some (.int (zI (x3 + 1)))]) hC dX1_parameters_85 rfl rfl rfl ?_
      refine h_goto (tgt := 16) hC dX1_parameters_88 (by decide) ?_
      obtain ⟨o102, h103⟩ := h101
      exact hk16 _ _ _ _ _ R98 o102 o99 hZ100 h103
theorem cl_Coder_parameters_16 {X : gX} {d : gD} {b : Nat} {Y : gYt} {c : Nat × Nat} {F0 : gM} {S0 : gSt} {mc ms : Nat} (hC : gC RX1 cX1_parameters 4 (some .int) "parameters" (gR 5 mc ms) d b X) (hr : hRm X b) {Q : Int → cS → Prop}   : ∀ (m : Nat) (u : hU) (S : gSt) (A0 : cS) (x2 : Int) (x3 : Int), zR x2 → zR x3 → yOk X b u → yZ d b Y c F0 S0 u S A0 → wc_Coder_parameters_16 Q  m A0 x2 x3 → yG X d b (yQi X d b Y c F0 S0 mc ms Q) u 16 [some (.ref (gO' Y 5)), none, some (.int (zI x2)), some (.int (zI x3))] [] := by
  intro m
  induction m with
  | zero => intro u S A0 x2 x3 Rx2 Rx3 ho hZ hw; exact False.elim hw
  | succ m ihm => intro u S A0 x2 x3 Rx2 Rx3 ho hZ hw; exact cb_Coder_parameters_16 hC hr  ihm Rx2 Rx3 ho hZ hw
set_option maxHeartbeats 4000000 in
set_option maxRecDepth 100000 in
theorem cm_Coder_parameters (l : Launch) (d : gD) (b : Nat) {Y : gYt} {c : Nat × Nat} {F : gM} {k n : Nat} {S : gSt} {A0 : cS} {a0 : Int} (Ra0 : zR a0) {Q : Int → cS → Prop} (hZ : yZ d b Y c F S (F, k, n) S A0) (hw : wc_Coder_parameters A0 a0 Q) : hMi l d b yX1_parameters cX1_parameters 4 .int 5 k n F [.ref (gO' Y 5), .int (zI a0)] (yPi d b Y c F S Q) := by
  intro mc ms
  refine hM_of2 rfl (nL := 4) (Nat.le_of_ble_eq_true rfl) ?_
  intro X hX hC hr ho; subst hX
  show yG X d b (yQi X d b Y c F S mc ms Q) (F, k, n) 0 [some (.ref (gO' Y 5)), some (.int (zI a0)), none, none] []
  unfold wc_Coder_parameters at hw
  refine h_aload_n hC dX1_parameters_0 rfl ?_
  refine h_get hC fl_X1_65 (hZ.w.o 5 (by decide)) rfl dX1_parameters_1 ?_
  refine h_iload_n hC dX1_parameters_4 rfl ?_
  refine yr_callVi (As := [.int (zI a0)]) hC hr ho hZ rfl (hZ.w.o 2 (by decide)) (cm_Tree_first X.la d b Ra0 hZ.rs hw) cl_X1_126 rfl rfl (Nat.le_of_ble_eq_true rfl) (hFr_of (Nat.le_of_ble_eq_true rfl) (Nat.le_of_ble_eq_true rfl)) dX1_parameters_5 (fun r1 A2 u3 S4 R5 o6 hZ7 h8 => ?_)
  refine h_istore_n (lv' := [some (.ref (gO' Y 5)), some (.int (zI a0)), some (.int (zI r1)), none]) hC dX1_parameters_8 (Nat.le_of_ble_eq_true rfl) rfl rfl ?_
  refine h_aload_n hC dX1_parameters_9 rfl ?_
  refine h_iconst (v := zI 2) hC dX1_parameters_10 rfl ?_
  refine hi_putx (i := 5) (kx := 19) hC hZ7.hi (by decide) fl_X1_46 rfl rfl rfl (Nat.le_of_ble_eq_true rfl) rfl gsame_19 (fun q => absurd q (by decide)) dX1_parameters_11 (fun F9 S10 I11 K12 s13 v14 p15 => ?_)
  have hZ16 := hZ7.put I11 K12 s13 v14 (by decide) rfl
  clear I11 K12 s13 v14 p15
  refine yr_nu o6 hZ16 (fun u17 o18 hZ19 => ?_)
  refine h_iconst (v := zI 0) hC dX1_parameters_14 rfl ?_
  refine h_istore_n (lv' := [some (.ref (gO' Y 5)), some (.int (zI a0)), some (.int (zI r1)), some (.int (zI 0))]) hC dX1_parameters_15 (Nat.le_of_ble_eq_true rfl) rfl rfl ?_
  refine h_lv (lv' := [some (.ref (gO' Y 5)), none, some (.int (zI r1)), some (.int (zI 0))]) ⟨rfl, rfl, rfl, trivial⟩ ?_
  obtain ⟨m20, h21⟩ := h8
  exact cl_Coder_parameters_16 hC hr  m20 _ _ _ _ _ R5 (by decide) o18 hZ19 h21
theorem dX1_unfit_0 : decode cX1_unfit 0 = .ok (.iload_n 1, 1) := by decide +kernel
theorem dX1_unfit_1 : decode cX1_unfit 1 = .ok (.ifCond .eq 13, 3) := by decide +kernel
theorem dX1_unfit_4 : decode cX1_unfit 4 = .ok (.aload_n 0, 1) := by decide +kernel
theorem dX1_unfit_5 : decode cX1_unfit 5 = .ok (.getfield 69, 3) := by decide +kernel
theorem dX1_unfit_8 : decode cX1_unfit 8 = .ok (.bipush 6, 2) := by decide +kernel
theorem dX1_unfit_10 : decode cX1_unfit 10 = .ok (.iload_n 2, 1) := by decide +kernel
theorem dX1_unfit_11 : decode cX1_unfit 11 = .ok (.invokevirtual 177, 3) := by decide +kernel
theorem dX1_unfit_14 : decode cX1_unfit 14 = .ok (.return_, 1) := by decide +kernel
def wc_Coder_unfit (A0 : cS) (a0 : Int) (a1 : Int) (Q : cS → Prop) : Prop :=
  ((a0 = 0 → Q A0) ∧ (¬ a0 = 0 → wc_Program_blame A0 6 a1 (fun A5 => Q A5)))
set_option maxHeartbeats 4000000 in
set_option maxRecDepth 100000 in
theorem cm_Coder_unfit (l : Launch) (d : gD) (b : Nat) {Y : gYt} {c : Nat × Nat} {F : gM} {k n : Nat} {S : gSt} {A0 : cS} {a0 : Int} {a1 : Int} (Ra0 : zR a0) (Ra1 : zR a1) {Q : cS → Prop} (hZ : yZ d b Y c F S (F, k, n) S A0) (hw : wc_Coder_unfit A0 a0 a1 Q) : hMv l d b yX1_unfit cX1_unfit 3 1 k n F [.ref (gO' Y 5), .int (zI a0), .int (zI a1)] (yPv d b Y c F S Q) := by
  intro mc ms
  refine hM_of2 rfl (nL := 3) (Nat.le_of_ble_eq_true rfl) ?_
  intro X hX hC hr ho; subst hX
  show yG X d b (yQv X d b Y c F S mc ms Q) (F, k, n) 0 [some (.ref (gO' Y 5)), some (.int (zI a0)), some (.int (zI a1))] []
  unfold wc_Coder_unfit at hw
  refine h_iload_n hC dX1_unfit_0 rfl ?_
  refine yr_if_eq (tgt := 14) hC Ra0 dX1_unfit_1 (by decide) (fun c1 => ?_) (fun c1 => ?_)
  · have h2 := hw.1 c1
    exact yr_vret hC hr ho hZ h2 dX1_unfit_14
  · have h3 := hw.2 c1
    refine h_aload_n hC dX1_unfit_4 rfl ?_
    refine h_get hC fl_X1_69 (hZ.w.o 5 (by decide)) rfl dX1_unfit_5 ?_
    refine h_bipush (v := zI 6) hC dX1_unfit_8 rfl ?_
    refine h_iload_n hC dX1_unfit_10 rfl ?_
    refine yr_callVv (As := [.int (zI 6), .int (zI a1)]) hC hr ho hZ rfl (hZ.w.o 1 (by decide)) (cm_Program_blame X.la d b (by decide) Ra1 hZ.rs h3) cl_X1_177 rfl rfl (Nat.le_of_ble_eq_true rfl) (hFr_of (Nat.le_of_ble_eq_true rfl) (Nat.le_of_ble_eq_true rfl)) dX1_unfit_11 (fun A5 u6 S7 o9 hZ10 h11 => ?_)
    exact yr_vret hC hr o9 hZ10 h11 dX1_unfit_14
theorem dX1_isByte_0 : decode cX1_isByte 0 = .ok (.aload_n 0, 1) := by decide +kernel
theorem dX1_isByte_1 : decode cX1_isByte 1 = .ok (.getfield 65, 3) := by decide +kernel
theorem dX1_isByte_4 : decode cX1_isByte 4 = .ok (.iload_n 1, 1) := by decide +kernel
theorem dX1_isByte_5 : decode cX1_isByte 5 = .ok (.invokevirtual 270, 3) := by decide +kernel
theorem dX1_isByte_8 : decode cX1_isByte 8 = .ok (.istore_n 2, 1) := by decide +kernel
theorem dX1_isByte_9 : decode cX1_isByte 9 = .ok (.iconst 0, 1) := by decide +kernel
theorem dX1_isByte_10 : decode cX1_isByte 10 = .ok (.istore_n 3, 1) := by decide +kernel
theorem dX1_isByte_11 : decode cX1_isByte 11 = .ok (.iload_n 3, 1) := by decide +kernel
theorem dX1_isByte_12 : decode cX1_isByte 12 = .ok (.ldc 11, 2) := by decide +kernel
theorem dX1_isByte_14 : decode cX1_isByte 14 = .ok (.if_icmp .ge 38, 3) := by decide +kernel
theorem dX1_isByte_17 : decode cX1_isByte 17 = .ok (.aload_n 0, 1) := by decide +kernel
theorem dX1_isByte_18 : decode cX1_isByte 18 = .ok (.getfield 65, 3) := by decide +kernel
theorem dX1_isByte_21 : decode cX1_isByte 21 = .ok (.iload_n 2, 1) := by decide +kernel
theorem dX1_isByte_22 : decode cX1_isByte 22 = .ok (.invokevirtual 121, 3) := by decide +kernel
theorem dX1_isByte_25 : decode cX1_isByte 25 = .ok (.bipush 82, 2) := by decide +kernel
theorem dX1_isByte_27 : decode cX1_isByte 27 = .ok (.if_icmp .ne 25, 3) := by decide +kernel
theorem dX1_isByte_30 : decode cX1_isByte 30 = .ok (.aload_n 0, 1) := by decide +kernel
theorem dX1_isByte_31 : decode cX1_isByte 31 = .ok (.getfield 65, 3) := by decide +kernel
theorem dX1_isByte_34 : decode cX1_isByte 34 = .ok (.aload_n 0, 1) := by decide +kernel
theorem dX1_isByte_35 : decode cX1_isByte 35 = .ok (.getfield 65, 3) := by decide +kernel
theorem dX1_isByte_38 : decode cX1_isByte 38 = .ok (.iload_n 2, 1) := by decide +kernel
theorem dX1_isByte_39 : decode cX1_isByte 39 = .ok (.invokevirtual 126, 3) := by decide +kernel
theorem dX1_isByte_42 : decode cX1_isByte 42 = .ok (.invokevirtual 270, 3) := by decide +kernel
theorem dX1_isByte_45 : decode cX1_isByte 45 = .ok (.istore_n 2, 1) := by decide +kernel
theorem dX1_isByte_46 : decode cX1_isByte 46 = .ok (.iinc 3 1, 3) := by decide +kernel
theorem dX1_isByte_49 : decode cX1_isByte 49 = .ok (.goto (-38), 3) := by decide +kernel
theorem dX1_isByte_52 : decode cX1_isByte 52 = .ok (.aload_n 0, 1) := by decide +kernel
theorem dX1_isByte_53 : decode cX1_isByte 53 = .ok (.getfield 65, 3) := by decide +kernel
theorem dX1_isByte_56 : decode cX1_isByte 56 = .ok (.iload_n 2, 1) := by decide +kernel
theorem dX1_isByte_57 : decode cX1_isByte 57 = .ok (.invokevirtual 121, 3) := by decide +kernel
theorem dX1_isByte_60 : decode cX1_isByte 60 = .ok (.bipush 14, 2) := by decide +kernel
theorem dX1_isByte_62 : decode cX1_isByte 62 = .ok (.if_icmp .ne 7, 3) := by decide +kernel
theorem dX1_isByte_65 : decode cX1_isByte 65 = .ok (.iconst 1, 1) := by decide +kernel
theorem dX1_isByte_66 : decode cX1_isByte 66 = .ok (.goto 4, 3) := by decide +kernel
theorem dX1_isByte_69 : decode cX1_isByte 69 = .ok (.iconst 0, 1) := by decide +kernel
theorem dX1_isByte_70 : decode cX1_isByte 70 = .ok (.ireturn, 1) := by decide +kernel
def wc_Coder_isByte_11B (Q : Int → cS → Prop) (k11 : cS → Int → Int → Prop) (A0 : cS) (x2 : Int) (x3 : Int) : Prop :=
  ((1000000 ≤ x3 → wc_Tree_kind A0 x2 (fun r3 A4 => ((¬ r3 = 14 → Q 0 A4) ∧ (r3 = 14 → Q 1 A4)))) ∧ (¬ 1000000 ≤ x3 → wc_Tree_kind A0 x2 (fun r15 A16 => ((¬ r15 = 82 → wc_Tree_kind A16 x2 (fun r25 A26 => ((¬ r25 = 14 → Q 0 A26) ∧ (r25 = 14 → Q 1 A26)))) ∧ (r15 = 82 → wc_Tree_first A16 x2 (fun r37 A38 => wc_Tree_last A38 r37 (fun r45 A46 => (zR (x3 + 1)) ∧ k11 A46 r45 (x3 + 1))))))))
def wc_Coder_isByte_11 (Q : Int → cS → Prop)  : Nat → cS → Int → Int → Prop
  | 0 => fun _ _ _ => False
  | m + 1 => fun A0 x2 x3 => wc_Coder_isByte_11B Q  (wc_Coder_isByte_11 Q  m) A0 x2 x3
def wc_Coder_isByte (A0 : cS) (a0 : Int) (Q : Int → cS → Prop) : Prop :=
  wc_Tree_last A0 a0 (fun r1 A2 => ∃ n, wc_Coder_isByte_11 Q  n A2 r1 0)
set_option maxHeartbeats 4000000 in
set_option maxRecDepth 100000 in
theorem cb_Coder_isByte_11 {X : gX} {d : gD} {b : Nat} {Y : gYt} {c : Nat × Nat} {F0 : gM} {S0 : gSt} {mc ms : Nat} (hC : gC RX1 cX1_isByte 4 (some .boolean) "isByte" (gR 2 mc ms) d b X) (hr : hRm X b) {Q : Int → cS → Prop} {k11 : cS → Int → Int → Prop} (hk11 : ∀ (u : hU) (S : gSt) (A0 : cS) (x2 : Int) (x3 : Int), zR x2 → zR x3 → yOk X b u → yZ d b Y c F0 S0 u S A0 → k11 A0 x2 x3 → yG X d b (yQi X d b Y c F0 S0 mc ms Q) u 11 [some (.ref (gO' Y 5)), none, some (.int (zI x2)), some (.int (zI x3))] []) {u : hU} {S : gSt} {A0 : cS} {x2 : Int} {x3 : Int} (Rx2 : zR x2) (Rx3 : zR x3) (ho : yOk X b u) (hZ : yZ d b Y c F0 S0 u S A0) (hw : wc_Coder_isByte_11B Q k11 A0 x2 x3) : yG X d b (yQi X d b Y c F0 S0 mc ms Q) u 11 [some (.ref (gO' Y 5)), none, some (.int (zI x2)), some (.int (zI x3))] [] := by
  unfold wc_Coder_isByte_11B at hw
  refine h_iload_n hC dX1_isByte_11 rfl ?_
  refine yr_ldc (e := 1000000) hC dX1_isByte_12 kw_576 (by decide) ?_
  refine yr_icmp_ge (tgt := 52) hC Rx3 (by decide) dX1_isByte_14 (by decide) (fun c1 => ?_) (fun c1 => ?_)
  · have h2 := hw.1 c1
    refine h_aload_n hC dX1_isByte_52 rfl ?_
    refine h_get hC fl_X1_65 (hZ.w.o 5 (by decide)) rfl dX1_isByte_53 ?_
    refine h_iload_n hC dX1_isByte_56 rfl ?_
    refine yr_callVi (As := [.int (zI x2)]) hC hr ho hZ rfl (hZ.w.o 2 (by decide)) (cm_Tree_kind X.la d b Rx2 hZ.rs h2) cl_X1_121 rfl rfl (Nat.le_of_ble_eq_true rfl) (hFr_of (Nat.le_of_ble_eq_true rfl) (Nat.le_of_ble_eq_true rfl)) dX1_isByte_57 (fun r3 A4 u5 S6 R7 o8 hZ9 h10 => ?_)
    refine h_bipush (v := zI 14) hC dX1_isByte_60 rfl ?_
    refine yr_icmp_ne (tgt := 69) hC R7 (by decide) dX1_isByte_62 (by decide) (fun c11 => ?_) (fun c11 => ?_)
    · have h12 := h10.1 c11
      refine h_iconst (v := zI 0) hC dX1_isByte_69 rfl ?_
      exact yr_zret hC hr o8 hZ9 (Or.inl rfl) h12 dX1_isByte_70
    · have h13 := h10.2 c11
      refine h_iconst (v := zI 1) hC dX1_isByte_65 rfl ?_
      refine h_goto (tgt := 70) hC dX1_isByte_66 (by decide) ?_
      exact yr_zret hC hr o8 hZ9 (Or.inr rfl) h13 dX1_isByte_70
  · have h14 := hw.2 c1
    refine h_aload_n hC dX1_isByte_17 rfl ?_
    refine h_get hC fl_X1_65 (hZ.w.o 5 (by decide)) rfl dX1_isByte_18 ?_
    refine h_iload_n hC dX1_isByte_21 rfl ?_
    refine yr_callVi (As := [.int (zI x2)]) hC hr ho hZ rfl (hZ.w.o 2 (by decide)) (cm_Tree_kind X.la d b Rx2 hZ.rs h14) cl_X1_121 rfl rfl (Nat.le_of_ble_eq_true rfl) (hFr_of (Nat.le_of_ble_eq_true rfl) (Nat.le_of_ble_eq_true rfl)) dX1_isByte_22 (fun r15 A16 u17 S18 R19 o20 hZ21 h22 => ?_)
    refine h_bipush (v := zI 82) hC dX1_isByte_25 rfl ?_
    refine yr_icmp_ne (tgt := 52) hC R19 (by decide) dX1_isByte_27 (by decide) (fun c23 => ?_) (fun c23 => ?_)
    · have h24 := h22.1 c23
      refine h_aload_n hC dX1_isByte_52 rfl ?_
      refine h_get hC fl_X1_65 (hZ21.w.o 5 (by decide)) rfl dX1_isByte_53 ?_
      refine h_iload_n hC dX1_isByte_56 rfl ?_
      refine yr_callVi (As := [.int (zI x2)]) hC hr o20 hZ21 rfl (hZ21.w.o 2 (by decide)) (cm_Tree_kind X.la d b Rx2 hZ21.rs h24) cl_X1_121 rfl rfl (Nat.le_of_ble_eq_true rfl) (hFr_of (Nat.le_of_ble_eq_true rfl) (Nat.le_of_ble_eq_true rfl)) dX1_isByte_57 (fun r25 A26 u27 S28 R29 o30 hZ31 h32 => ?_)
      refine h_bipush (v := zI 14) hC dX1_isByte_60 rfl ?_
      refine yr_icmp_ne (tgt := 69) hC R29 (by decide) dX1_isByte_62 (by decide) (fun c33 => ?_) (fun c33 => ?_)
      · have h34 := h32.1 c33
        refine h_iconst (v := zI 0) hC dX1_isByte_69 rfl ?_
        exact yr_zret hC hr o30 hZ31 (Or.inl rfl) h34 dX1_isByte_70
      · have h35 := h32.2 c33
        refine h_iconst (v := zI 1) hC dX1_isByte_65 rfl ?_
        refine h_goto (tgt := 70) hC dX1_isByte_66 (by decide) ?_
        exact yr_zret hC hr o30 hZ31 (Or.inr rfl) h35 dX1_isByte_70
    · have h36 := h22.2 c23
      refine h_aload_n hC dX1_isByte_30 rfl ?_
      refine h_get hC fl_X1_65 (hZ21.w.o 5 (by decide)) rfl dX1_isByte_31 ?_
      refine h_aload_n hC dX1_isByte_34 rfl ?_
      refine h_get hC fl_X1_65 (hZ21.w.o 5 (by decide)) rfl dX1_isByte_35 ?_
      refine h_iload_n hC dX1_isByte_38 rfl ?_
      refine yr_callVi (As := [.int (zI x2)]) hC hr o20 hZ21 rfl (hZ21.w.o 2 (by decide)) (cm_Tree_first X.la d b Rx2 hZ21.rs h36) cl_X1_126 rfl rfl (Nat.le_of_ble_eq_true rfl) (hFr_of (Nat.le_of_ble_eq_true rfl) (Nat.le_of_ble_eq_true rfl)) dX1_isByte_39 (fun r37 A38 u39 S40 R41 o42 hZ43 h44 => ?_)
      refine yr_callVi (As := [.int (zI r37)]) hC hr o42 hZ43 rfl (hZ43.w.o 2 (by decide)) (cm_Tree_last X.la d b R41 hZ43.rs h44) cl_X1_270 rfl rfl (Nat.le_of_ble_eq_true rfl) (hFr_of (Nat.le_of_ble_eq_true rfl) (Nat.le_of_ble_eq_true rfl)) dX1_isByte_42 (fun r45 A46 u47 S48 R49 o50 hZ51 h52 => ?_)
      refine h_istore_n (lv' := [some (.ref (gO' Y 5)), none, some (.int (zI r45)), some (.int (zI x3))]) hC dX1_isByte_45 (Nat.le_of_ble_eq_true rfl) rfl rfl ?_
      refine yr_iinc (x := x3) (lv' := [some (.ref (gO' Y 5)), none, some (.int (zI r45)), some (.int (zI (x3 + 1)))]) hC dX1_isByte_46 rfl rfl rfl ?_
      refine h_goto (tgt := 11) hC dX1_isByte_49 (by decide) ?_
      obtain ⟨o53, h54⟩ := h52
      exact hk11 _ _ _ _ _ R49 o53 o50 hZ51 h54
theorem cl_Coder_isByte_11 {X : gX} {d : gD} {b : Nat} {Y : gYt} {c : Nat × Nat} {F0 : gM} {S0 : gSt} {mc ms : Nat} (hC : gC RX1 cX1_isByte 4 (some .boolean) "isByte" (gR 2 mc ms) d b X) (hr : hRm X b) {Q : Int → cS → Prop}   : ∀ (m : Nat) (u : hU) (S : gSt) (A0 : cS) (x2 : Int) (x3 : Int), zR x2 → zR x3 → yOk X b u → yZ d b Y c F0 S0 u S A0 → wc_Coder_isByte_11 Q  m A0 x2 x3 → yG X d b (yQi X d b Y c F0 S0 mc ms Q) u 11 [some (.ref (gO' Y 5)), none, some (.int (zI x2)), some (.int (zI x3))] [] := by
  intro m
  induction m with
  | zero => intro u S A0 x2 x3 Rx2 Rx3 ho hZ hw; exact False.elim hw
  | succ m ihm => intro u S A0 x2 x3 Rx2 Rx3 ho hZ hw; exact cb_Coder_isByte_11 hC hr  ihm Rx2 Rx3 ho hZ hw
set_option maxHeartbeats 4000000 in
set_option maxRecDepth 100000 in
theorem cm_Coder_isByte (l : Launch) (d : gD) (b : Nat) {Y : gYt} {c : Nat × Nat} {F : gM} {k n : Nat} {S : gSt} {A0 : cS} {a0 : Int} (Ra0 : zR a0) {Q : Int → cS → Prop} (hZ : yZ d b Y c F S (F, k, n) S A0) (hw : wc_Coder_isByte A0 a0 Q) : hMi l d b yX1_isByte cX1_isByte 4 .boolean 2 k n F [.ref (gO' Y 5), .int (zI a0)] (yPi d b Y c F S Q) := by
  intro mc ms
  refine hM_of2 rfl (nL := 4) (Nat.le_of_ble_eq_true rfl) ?_
  intro X hX hC hr ho; subst hX
  show yG X d b (yQi X d b Y c F S mc ms Q) (F, k, n) 0 [some (.ref (gO' Y 5)), some (.int (zI a0)), none, none] []
  unfold wc_Coder_isByte at hw
  refine h_aload_n hC dX1_isByte_0 rfl ?_
  refine h_get hC fl_X1_65 (hZ.w.o 5 (by decide)) rfl dX1_isByte_1 ?_
  refine h_iload_n hC dX1_isByte_4 rfl ?_
  refine yr_callVi (As := [.int (zI a0)]) hC hr ho hZ rfl (hZ.w.o 2 (by decide)) (cm_Tree_last X.la d b Ra0 hZ.rs hw) cl_X1_270 rfl rfl (Nat.le_of_ble_eq_true rfl) (hFr_of (Nat.le_of_ble_eq_true rfl) (Nat.le_of_ble_eq_true rfl)) dX1_isByte_5 (fun r1 A2 u3 S4 R5 o6 hZ7 h8 => ?_)
  refine h_istore_n (lv' := [some (.ref (gO' Y 5)), some (.int (zI a0)), some (.int (zI r1)), none]) hC dX1_isByte_8 (Nat.le_of_ble_eq_true rfl) rfl rfl ?_
  refine h_iconst (v := zI 0) hC dX1_isByte_9 rfl ?_
  refine h_istore_n (lv' := [some (.ref (gO' Y 5)), some (.int (zI a0)), some (.int (zI r1)), some (.int (zI 0))]) hC dX1_isByte_10 (Nat.le_of_ble_eq_true rfl) rfl rfl ?_
  refine h_lv (lv' := [some (.ref (gO' Y 5)), none, some (.int (zI r1)), some (.int (zI 0))]) ⟨rfl, rfl, rfl, trivial⟩ ?_
  obtain ⟨m9, h10⟩ := h8
  exact cl_Coder_isByte_11 hC hr  m9 _ _ _ _ _ R5 (by decide) o6 hZ7 h10
theorem dX1_take_0 : decode cX1_take 0 = .ok (.aload_n 0, 1) := by decide +kernel
theorem dX1_take_1 : decode cX1_take 1 = .ok (.aload_n 0, 1) := by decide +kernel
theorem dX1_take_2 : decode cX1_take 2 = .ok (.getfield 46, 3) := by decide +kernel
theorem dX1_take_5 : decode cX1_take 5 = .ok (.iload_n 1, 1) := by decide +kernel
theorem dX1_take_6 : decode cX1_take 6 = .ok (.iadd, 1) := by decide +kernel
theorem dX1_take_7 : decode cX1_take 7 = .ok (.ldc 207, 2) := by decide +kernel
theorem dX1_take_9 : decode cX1_take 9 = .ok (.invokestatic 208, 3) := by decide +kernel
theorem dX1_take_12 : decode cX1_take 12 = .ok (.putfield 46, 3) := by decide +kernel
theorem dX1_take_15 : decode cX1_take 15 = .ok (.aload_n 0, 1) := by decide +kernel
theorem dX1_take_16 : decode cX1_take 16 = .ok (.aload_n 0, 1) := by decide +kernel
theorem dX1_take_17 : decode cX1_take 17 = .ok (.getfield 49, 3) := by decide +kernel
theorem dX1_take_20 : decode cX1_take 20 = .ok (.aload_n 0, 1) := by decide +kernel
theorem dX1_take_21 : decode cX1_take 21 = .ok (.getfield 46, 3) := by decide +kernel
theorem dX1_take_24 : decode cX1_take 24 = .ok (.invokestatic 172, 3) := by decide +kernel
theorem dX1_take_27 : decode cX1_take 27 = .ok (.putfield 49, 3) := by decide +kernel
theorem dX1_take_30 : decode cX1_take 30 = .ok (.return_, 1) := by decide +kernel
def wc_Coder_take (A0 : cS) (a0 : Int) (Q : cS → Prop) : Prop :=
  (zR ((yv A0 19) + a0)) ∧ Q (ypv (ypv A0 19 (min ((yv A0 19) + a0) 33554432)) 20 (max (yv A0 20) (min ((yv A0 19) + a0) 33554432)))
set_option maxHeartbeats 4000000 in
set_option maxRecDepth 100000 in
theorem cm_Coder_take (l : Launch) (d : gD) (b : Nat) {Y : gYt} {c : Nat × Nat} {F : gM} {k n : Nat} {S : gSt} {A0 : cS} {a0 : Int} (Ra0 : zR a0) {Q : cS → Prop} (hZ : yZ d b Y c F S (F, k, n) S A0) (hw : wc_Coder_take A0 a0 Q) : hMv l d b yX1_take cX1_take 2 1 k n F [.ref (gO' Y 5), .int (zI a0)] (yPv d b Y c F S Q) := by
  intro mc ms
  refine hM_of2 rfl (nL := 2) (Nat.le_of_ble_eq_true rfl) ?_
  intro X hX hC hr ho; subst hX
  show yG X d b (yQv X d b Y c F S mc ms Q) (F, k, n) 0 [some (.ref (gO' Y 5)), some (.int (zI a0))] []
  unfold wc_Coder_take at hw
  refine h_aload_n hC dX1_take_0 rfl ?_
  refine h_aload_n hC dX1_take_1 rfl ?_
  refine h_get hC fl_X1_46 (hZ.w.o 5 (by decide)) rfl dX1_take_2 ?_
  refine yr_sv (e := (yv A0 19)) hZ 19 rfl ?_
  refine h_iload_n hC dX1_take_5 rfl ?_
  refine yr_iadd hC dX1_take_6 ?_
  refine yr_ldc (e := 33554432) hC dX1_take_7 kw_1510 (by decide) ?_
  obtain ⟨o1, h2⟩ := hw
  refine yr_min hC hr ho kw_1511 rfl ⟨Nat.le_of_ble_eq_true rfl, Nat.le_of_ble_eq_true rfl⟩ (Nat.le_of_ble_eq_true rfl) dX1_take_9 o1 (by decide) ?_
  refine hi_putx (i := 5) (kx := 19) hC hZ.hi (by decide) fl_X1_46 rfl rfl rfl (Nat.le_of_ble_eq_true rfl) rfl gsame_19 (fun q => absurd q (by decide)) dX1_take_12 (fun F3 S4 I5 K6 s7 v8 p9 => ?_)
  have hZ10 := hZ.put I5 K6 s7 v8 (y_minR o1 (by decide)) rfl
  clear I5 K6 s7 v8 p9
  refine yr_nu ho hZ10 (fun u11 o12 hZ13 => ?_)
  refine h_aload_n hC dX1_take_15 rfl ?_
  refine h_aload_n hC dX1_take_16 rfl ?_
  refine h_get hC fl_X1_49 (hZ13.w.o 5 (by decide)) rfl dX1_take_17 ?_
  refine yr_sv (e := (yv A0 20)) hZ13 20 rfl ?_
  refine h_aload_n hC dX1_take_20 rfl ?_
  refine h_get hC fl_X1_46 (hZ13.w.o 5 (by decide)) rfl dX1_take_21 ?_
  refine yr_sv (e := (min ((yv A0 19) + a0) 33554432)) hZ13 19 rfl ?_
  refine yr_max hC hr o12 kw_1416 rfl ⟨Nat.le_of_ble_eq_true rfl, Nat.le_of_ble_eq_true rfl⟩ (Nat.le_of_ble_eq_true rfl) dX1_take_24 (hZ.rv 20) (y_minR o1 (by decide)) ?_
  refine hi_putx (i := 5) (kx := 20) hC hZ13.hi (by decide) fl_X1_49 rfl rfl rfl (Nat.le_of_ble_eq_true rfl) rfl gsame_20 (fun q => absurd q (by decide)) dX1_take_27 (fun F14 S15 I16 K17 s18 v19 p20 => ?_)
  have hZ21 := hZ13.put I16 K17 s18 v19 (y_maxR (hZ.rv 20) (y_minR o1 (by decide))) rfl
  clear I16 K17 s18 v19 p20
  refine yr_nu o12 hZ21 (fun u22 o23 hZ24 => ?_)
  exact yr_vret hC hr o23 hZ24 h2 dX1_take_30
theorem dX1_going_0 : decode cX1_going 0 = .ok (.aload_n 0, 1) := by decide +kernel
theorem dX1_going_1 : decode cX1_going 1 = .ok (.getfield 78, 3) := by decide +kernel
theorem dX1_going_4 : decode cX1_going 4 = .ok (.aload_n 0, 1) := by decide +kernel
theorem dX1_going_5 : decode cX1_going 5 = .ok (.getfield 65, 3) := by decide +kernel
theorem dX1_going_8 : decode cX1_going 8 = .ok (.iload_n 1, 1) := by decide +kernel
theorem dX1_going_9 : decode cX1_going 9 = .ok (.invokevirtual 129, 3) := by decide +kernel
theorem dX1_going_12 : decode cX1_going 12 = .ok (.invokevirtual 165, 3) := by decide +kernel
theorem dX1_going_15 : decode cX1_going 15 = .ok (.istore_n 2, 1) := by decide +kernel
theorem dX1_going_16 : decode cX1_going 16 = .ok (.iload_n 2, 1) := by decide +kernel
theorem dX1_going_17 : decode cX1_going 17 = .ok (.ifCond .ge 22, 3) := by decide +kernel
theorem dX1_going_20 : decode cX1_going 20 = .ok (.aload_n 0, 1) := by decide +kernel
theorem dX1_going_21 : decode cX1_going 21 = .ok (.getfield 69, 3) := by decide +kernel
theorem dX1_going_24 : decode cX1_going 24 = .ok (.iconst 3, 1) := by decide +kernel
theorem dX1_going_25 : decode cX1_going 25 = .ok (.aload_n 0, 1) := by decide +kernel
theorem dX1_going_26 : decode cX1_going 26 = .ok (.getfield 65, 3) := by decide +kernel
theorem dX1_going_29 : decode cX1_going 29 = .ok (.iload_n 1, 1) := by decide +kernel
theorem dX1_going_30 : decode cX1_going 30 = .ok (.invokevirtual 135, 3) := by decide +kernel
theorem dX1_going_33 : decode cX1_going 33 = .ok (.invokevirtual 177, 3) := by decide +kernel
theorem dX1_going_36 : decode cX1_going 36 = .ok (.goto 79, 3) := by decide +kernel
theorem dX1_going_39 : decode cX1_going 39 = .ok (.aload_n 0, 1) := by decide +kernel
theorem dX1_going_40 : decode cX1_going 40 = .ok (.getfield 78, 3) := by decide +kernel
theorem dX1_going_43 : decode cX1_going 43 = .ok (.iload_n 2, 1) := by decide +kernel
theorem dX1_going_44 : decode cX1_going 44 = .ok (.invokevirtual 279, 3) := by decide +kernel
theorem dX1_going_47 : decode cX1_going 47 = .ok (.iconst 3, 1) := by decide +kernel
theorem dX1_going_48 : decode cX1_going 48 = .ok (.if_icmp .ne 18, 3) := by decide +kernel
theorem dX1_going_51 : decode cX1_going 51 = .ok (.aload_n 0, 1) := by decide +kernel
theorem dX1_going_52 : decode cX1_going 52 = .ok (.getfield 78, 3) := by decide +kernel
theorem dX1_going_55 : decode cX1_going 55 = .ok (.iload_n 2, 1) := by decide +kernel
theorem dX1_going_56 : decode cX1_going 56 = .ok (.invokevirtual 168, 3) := by decide +kernel
theorem dX1_going_59 : decode cX1_going 59 = .ok (.aload_n 0, 1) := by decide +kernel
theorem dX1_going_60 : decode cX1_going 60 = .ok (.getfield 55, 3) := by decide +kernel
theorem dX1_going_63 : decode cX1_going 63 = .ok (.if_icmp .eq 23, 3) := by decide +kernel
theorem dX1_going_66 : decode cX1_going 66 = .ok (.aload_n 0, 1) := by decide +kernel
theorem dX1_going_67 : decode cX1_going 67 = .ok (.getfield 69, 3) := by decide +kernel
theorem dX1_going_70 : decode cX1_going 70 = .ok (.bipush 6, 2) := by decide +kernel
theorem dX1_going_72 : decode cX1_going 72 = .ok (.aload_n 0, 1) := by decide +kernel
theorem dX1_going_73 : decode cX1_going 73 = .ok (.getfield 65, 3) := by decide +kernel
theorem dX1_going_76 : decode cX1_going 76 = .ok (.iload_n 1, 1) := by decide +kernel
theorem dX1_going_77 : decode cX1_going 77 = .ok (.invokevirtual 135, 3) := by decide +kernel
theorem dX1_going_80 : decode cX1_going 80 = .ok (.invokevirtual 177, 3) := by decide +kernel
theorem dX1_going_83 : decode cX1_going 83 = .ok (.goto 32, 3) := by decide +kernel
theorem dX1_going_86 : decode cX1_going 86 = .ok (.aload_n 0, 1) := by decide +kernel
theorem dX1_going_87 : decode cX1_going 87 = .ok (.getfield 21, 3) := by decide +kernel
theorem dX1_going_90 : decode cX1_going 90 = .ok (.aload_n 0, 1) := by decide +kernel
theorem dX1_going_91 : decode cX1_going 91 = .ok (.bipush 14, 2) := by decide +kernel
theorem dX1_going_93 : decode cX1_going 93 = .ok (.iconst 0, 1) := by decide +kernel
theorem dX1_going_94 : decode cX1_going 94 = .ok (.invokevirtual 181, 3) := by decide +kernel
theorem dX1_going_97 : decode cX1_going 97 = .ok (.invokevirtual 217, 3) := by decide +kernel
theorem dX1_going_100 : decode cX1_going 100 = .ok (.aload_n 0, 1) := by decide +kernel
theorem dX1_going_101 : decode cX1_going 101 = .ok (.getfield 21, 3) := by decide +kernel
theorem dX1_going_104 : decode cX1_going 104 = .ok (.aload_n 0, 1) := by decide +kernel
theorem dX1_going_105 : decode cX1_going 105 = .ok (.getfield 78, 3) := by decide +kernel
theorem dX1_going_108 : decode cX1_going 108 = .ok (.iload_n 2, 1) := by decide +kernel
theorem dX1_going_109 : decode cX1_going 109 = .ok (.invokevirtual 180, 3) := by decide +kernel
theorem dX1_going_112 : decode cX1_going 112 = .ok (.invokevirtual 217, 3) := by decide +kernel
theorem dX1_going_115 : decode cX1_going 115 = .ok (.return_, 1) := by decide +kernel
def wc_Coder_going (A0 : cS) (a0 : Int) (Q : cS → Prop) : Prop :=
  wc_Tree_data A0 a0 (fun r1 A2 => wc_Scope_find A2 r1 (fun r9 A10 => ((0 ≤ r9 → wc_Scope_kind A10 r9 (fun r19 A20 => ((¬ r19 = 3 → wc_Tree_place A20 a0 (fun r29 A30 => wc_Program_blame A30 6 r29 (fun A38 => Q A38))) ∧ (r19 = 3 → wc_Scope_owner A20 r9 (fun r46 A47 => ((r46 = (yv A47 22) → wc_Coder_emit A47 14 0 (fun r56 A57 => ((yz A57 25) < 6000) ∧ wc_Scope_data (yadd A57 25 r56) r9 (fun r70 A71 => ((yz A71 25) < 6000) ∧ Q (yadd A71 25 r70)))) ∧ (¬ r46 = (yv A47 22) → wc_Tree_place A47 a0 (fun r85 A86 => wc_Program_blame A86 6 r85 (fun A94 => Q A94))))))))) ∧ (¬ 0 ≤ r9 → wc_Tree_place A10 a0 (fun r102 A103 => wc_Program_blame A103 3 r102 (fun A111 => Q A111))))))
set_option maxHeartbeats 4000000 in
set_option maxRecDepth 100000 in
theorem cm_Coder_going (l : Launch) (d : gD) (b : Nat) {Y : gYt} {c : Nat × Nat} {F : gM} {k n : Nat} {S : gSt} {A0 : cS} {a0 : Int} (Ra0 : zR a0) {Q : cS → Prop} (hZ : yZ d b Y c F S (F, k, n) S A0) (hw : wc_Coder_going A0 a0 Q) : hMv l d b yX1_going cX1_going 3 5 k n F [.ref (gO' Y 5), .int (zI a0)] (yPv d b Y c F S Q) := by
  intro mc ms
  refine hM_of2 rfl (nL := 3) (Nat.le_of_ble_eq_true rfl) ?_
  intro X hX hC hr ho; subst hX
  show yG X d b (yQv X d b Y c F S mc ms Q) (F, k, n) 0 [some (.ref (gO' Y 5)), some (.int (zI a0)), none] []
  unfold wc_Coder_going at hw
  refine h_aload_n hC dX1_going_0 rfl ?_
  refine h_get hC fl_X1_78 (hZ.w.o 5 (by decide)) rfl dX1_going_1 ?_
  refine h_aload_n hC dX1_going_4 rfl ?_
  refine h_get hC fl_X1_65 (hZ.w.o 5 (by decide)) rfl dX1_going_5 ?_
  refine h_iload_n hC dX1_going_8 rfl ?_
  refine yr_callVi (As := [.int (zI a0)]) hC hr ho hZ rfl (hZ.w.o 2 (by decide)) (cm_Tree_data X.la d b Ra0 hZ.rs hw) cl_X1_129 rfl rfl (Nat.le_of_ble_eq_true rfl) (hFr_of (Nat.le_of_ble_eq_true rfl) (Nat.le_of_ble_eq_true rfl)) dX1_going_9 (fun r1 A2 u3 S4 R5 o6 hZ7 h8 => ?_)
  refine yr_callVi (As := [.int (zI r1)]) hC hr o6 hZ7 rfl (hZ7.w.o 8 (by decide)) (cm_Scope_find X.la d b R5 hZ7.rs h8) cl_X1_165 rfl rfl (Nat.le_of_ble_eq_true rfl) (hFr_of (Nat.le_of_ble_eq_true rfl) (Nat.le_of_ble_eq_true rfl)) dX1_going_12 (fun r9 A10 u11 S12 R13 o14 hZ15 h16 => ?_)
  refine h_istore_n (lv' := [some (.ref (gO' Y 5)), some (.int (zI a0)), some (.int (zI r9))]) hC dX1_going_15 (Nat.le_of_ble_eq_true rfl) rfl rfl ?_
  refine h_iload_n hC dX1_going_16 rfl ?_
  refine yr_if_ge (tgt := 39) hC R13 dX1_going_17 (by decide) (fun c17 => ?_) (fun c17 => ?_)
  · have h18 := h16.1 c17
    refine h_aload_n hC dX1_going_39 rfl ?_
    refine h_get hC fl_X1_78 (hZ15.w.o 5 (by decide)) rfl dX1_going_40 ?_
    refine h_iload_n hC dX1_going_43 rfl ?_
    refine yr_callVi (As := [.int (zI r9)]) hC hr o14 hZ15 rfl (hZ15.w.o 8 (by decide)) (cm_Scope_kind X.la d b R13 hZ15.rs h18) cl_X1_279 rfl rfl (Nat.le_of_ble_eq_true rfl) (hFr_of (Nat.le_of_ble_eq_true rfl) (Nat.le_of_ble_eq_true rfl)) dX1_going_44 (fun r19 A20 u21 S22 R23 o24 hZ25 h26 => ?_)
    refine h_iconst (v := zI 3) hC dX1_going_47 rfl ?_
    refine yr_icmp_ne (tgt := 66) hC R23 (by decide) dX1_going_48 (by decide) (fun c27 => ?_) (fun c27 => ?_)
    · have h28 := h26.1 c27
      refine h_aload_n hC dX1_going_66 rfl ?_
      refine h_get hC fl_X1_69 (hZ25.w.o 5 (by decide)) rfl dX1_going_67 ?_
      refine h_bipush (v := zI 6) hC dX1_going_70 rfl ?_
      refine h_aload_n hC dX1_going_72 rfl ?_
      refine h_get hC fl_X1_65 (hZ25.w.o 5 (by decide)) rfl dX1_going_73 ?_
      refine h_iload_n hC dX1_going_76 rfl ?_
      refine yr_callVi (As := [.int (zI a0)]) hC hr o24 hZ25 rfl (hZ25.w.o 2 (by decide)) (cm_Tree_place X.la d b Ra0 hZ25.rs h28) cl_X1_135 rfl rfl (Nat.le_of_ble_eq_true rfl) (hFr_of (Nat.le_of_ble_eq_true rfl) (Nat.le_of_ble_eq_true rfl)) dX1_going_77 (fun r29 A30 u31 S32 R33 o34 hZ35 h36 => ?_)
      refine yr_callVv (As := [.int (zI 6), .int (zI r29)]) hC hr o34 hZ35 rfl (hZ35.w.o 1 (by decide)) (cm_Program_blame X.la d b (by decide) R33 hZ35.rs h36) cl_X1_177 rfl rfl (Nat.le_of_ble_eq_true rfl) (hFr_of (Nat.le_of_ble_eq_true rfl) (Nat.le_of_ble_eq_true rfl)) dX1_going_80 (fun A38 u39 S40 o42 hZ43 h44 => ?_)
      refine h_goto (tgt := 115) hC dX1_going_83 (by decide) ?_
      exact yr_vret hC hr o42 hZ43 h44 dX1_going_115
    · have h45 := h26.2 c27
      refine h_aload_n hC dX1_going_51 rfl ?_
      refine h_get hC fl_X1_78 (hZ25.w.o 5 (by decide)) rfl dX1_going_52 ?_
      refine h_iload_n hC dX1_going_55 rfl ?_
      refine yr_callVi (As := [.int (zI r9)]) hC hr o24 hZ25 rfl (hZ25.w.o 8 (by decide)) (cm_Scope_owner X.la d b R13 hZ25.rs h45) cl_X1_168 rfl rfl (Nat.le_of_ble_eq_true rfl) (hFr_of (Nat.le_of_ble_eq_true rfl) (Nat.le_of_ble_eq_true rfl)) dX1_going_56 (fun r46 A47 u48 S49 R50 o51 hZ52 h53 => ?_)
      refine h_aload_n hC dX1_going_59 rfl ?_
      refine h_get hC fl_X1_55 (hZ52.w.o 5 (by decide)) rfl dX1_going_60 ?_
      refine yr_sv (e := (yv A47 22)) hZ52 22 rfl ?_
      refine yr_icmp_eq (tgt := 86) hC R50 (hZ52.rv 22) dX1_going_63 (by decide) (fun c54 => ?_) (fun c54 => ?_)
      · have h55 := h53.1 c54
        refine h_aload_n hC dX1_going_86 rfl ?_
        refine h_get hC fl_X1_21 (hZ52.w.o 5 (by decide)) rfl dX1_going_87 ?_
        refine h_aload_n hC dX1_going_90 rfl ?_
        refine h_bipush (v := zI 14) hC dX1_going_91 rfl ?_
        refine h_iconst (v := zI 0) hC dX1_going_93 rfl ?_
        refine yr_callVi (As := [.int (zI 14), .int (zI 0)]) hC hr o51 hZ52 rfl (hZ52.w.o 5 (by decide)) (cm_Coder_emit X.la d b (by decide) (by decide) hZ52.rs h55) cl_X1_181 rfl rfl (Nat.le_of_ble_eq_true rfl) (hFr_of (Nat.le_of_ble_eq_true rfl) (Nat.le_of_ble_eq_true rfl)) dX1_going_94 (fun r56 A57 u58 S59 R60 o61 hZ62 h63 => ?_)
        obtain ⟨o68, h69⟩ := h63
        refine yr_add (j := 25) hC hr o61 hZ62 (by decide) (by decide) R60 o68 cl_X1_217 rfl (Nat.le_of_ble_eq_true rfl) (hFr_of (Nat.le_of_ble_eq_true rfl) (Nat.le_of_ble_eq_true rfl)) dX1_going_97 (fun u64 S65 o66 hZ67 => ?_)
        refine h_aload_n hC dX1_going_100 rfl ?_
        refine h_get hC fl_X1_21 (hZ67.w.o 5 (by decide)) rfl dX1_going_101 ?_
        refine h_aload_n hC dX1_going_104 rfl ?_
        refine h_get hC fl_X1_78 (hZ67.w.o 5 (by decide)) rfl dX1_going_105 ?_
        refine h_iload_n hC dX1_going_108 rfl ?_
        refine yr_callVi (As := [.int (zI r9)]) hC hr o66 hZ67 rfl (hZ67.w.o 8 (by decide)) (cm_Scope_data X.la d b R13 hZ67.rs h69) cl_X1_180 rfl rfl (Nat.le_of_ble_eq_true rfl) (hFr_of (Nat.le_of_ble_eq_true rfl) (Nat.le_of_ble_eq_true rfl)) dX1_going_109 (fun r70 A71 u72 S73 R74 o75 hZ76 h77 => ?_)
        obtain ⟨o82, h83⟩ := h77
        refine yr_add (j := 25) hC hr o75 hZ76 (by decide) (by decide) R74 o82 cl_X1_217 rfl (Nat.le_of_ble_eq_true rfl) (hFr_of (Nat.le_of_ble_eq_true rfl) (Nat.le_of_ble_eq_true rfl)) dX1_going_112 (fun u78 S79 o80 hZ81 => ?_)
        exact yr_vret hC hr o80 hZ81 h83 dX1_going_115
      · have h84 := h53.2 c54
        refine h_aload_n hC dX1_going_66 rfl ?_
        refine h_get hC fl_X1_69 (hZ52.w.o 5 (by decide)) rfl dX1_going_67 ?_
        refine h_bipush (v := zI 6) hC dX1_going_70 rfl ?_
        refine h_aload_n hC dX1_going_72 rfl ?_
        refine h_get hC fl_X1_65 (hZ52.w.o 5 (by decide)) rfl dX1_going_73 ?_
        refine h_iload_n hC dX1_going_76 rfl ?_
        refine yr_callVi (As := [.int (zI a0)]) hC hr o51 hZ52 rfl (hZ52.w.o 2 (by decide)) (cm_Tree_place X.la d b Ra0 hZ52.rs h84) cl_X1_135 rfl rfl (Nat.le_of_ble_eq_true rfl) (hFr_of (Nat.le_of_ble_eq_true rfl) (Nat.le_of_ble_eq_true rfl)) dX1_going_77 (fun r85 A86 u87 S88 R89 o90 hZ91 h92 => ?_)
        refine yr_callVv (As := [.int (zI 6), .int (zI r85)]) hC hr o90 hZ91 rfl (hZ91.w.o 1 (by decide)) (cm_Program_blame X.la d b (by decide) R89 hZ91.rs h92) cl_X1_177 rfl rfl (Nat.le_of_ble_eq_true rfl) (hFr_of (Nat.le_of_ble_eq_true rfl) (Nat.le_of_ble_eq_true rfl)) dX1_going_80 (fun A94 u95 S96 o98 hZ99 h100 => ?_)
        refine h_goto (tgt := 115) hC dX1_going_83 (by decide) ?_
        exact yr_vret hC hr o98 hZ99 h100 dX1_going_115
  · have h101 := h16.2 c17
    refine h_aload_n hC dX1_going_20 rfl ?_
    refine h_get hC fl_X1_69 (hZ15.w.o 5 (by decide)) rfl dX1_going_21 ?_
    refine h_iconst (v := zI 3) hC dX1_going_24 rfl ?_
    refine h_aload_n hC dX1_going_25 rfl ?_
    refine h_get hC fl_X1_65 (hZ15.w.o 5 (by decide)) rfl dX1_going_26 ?_
    refine h_iload_n hC dX1_going_29 rfl ?_
    refine yr_callVi (As := [.int (zI a0)]) hC hr o14 hZ15 rfl (hZ15.w.o 2 (by decide)) (cm_Tree_place X.la d b Ra0 hZ15.rs h101) cl_X1_135 rfl rfl (Nat.le_of_ble_eq_true rfl) (hFr_of (Nat.le_of_ble_eq_true rfl) (Nat.le_of_ble_eq_true rfl)) dX1_going_30 (fun r102 A103 u104 S105 R106 o107 hZ108 h109 => ?_)
    refine yr_callVv (As := [.int (zI 3), .int (zI r102)]) hC hr o107 hZ108 rfl (hZ108.w.o 1 (by decide)) (cm_Program_blame X.la d b (by decide) R106 hZ108.rs h109) cl_X1_177 rfl rfl (Nat.le_of_ble_eq_true rfl) (hFr_of (Nat.le_of_ble_eq_true rfl) (Nat.le_of_ble_eq_true rfl)) dX1_going_33 (fun A111 u112 S113 o115 hZ116 h117 => ?_)
    refine h_goto (tgt := 115) hC dX1_going_36 (by decide) ?_
    exact yr_vret hC hr o115 hZ116 h117 dX1_going_115
theorem dX1_leaving_0 : decode cX1_leaving 0 = .ok (.aload_n 0, 1) := by decide +kernel
theorem dX1_leaving_1 : decode cX1_leaving 1 = .ok (.getfield 65, 3) := by decide +kernel
theorem dX1_leaving_4 : decode cX1_leaving 4 = .ok (.iload_n 1, 1) := by decide +kernel
theorem dX1_leaving_5 : decode cX1_leaving 5 = .ok (.invokevirtual 121, 3) := by decide +kernel
theorem dX1_leaving_8 : decode cX1_leaving 8 = .ok (.istore_n 2, 1) := by decide +kernel
theorem dX1_leaving_9 : decode cX1_leaving 9 = .ok (.iload_n 2, 1) := by decide +kernel
theorem dX1_leaving_10 : decode cX1_leaving 10 = .ok (.bipush 45, 2) := by decide +kernel
theorem dX1_leaving_12 : decode cX1_leaving 12 = .ok (.if_icmp .ne 10, 3) := by decide +kernel
theorem dX1_leaving_15 : decode cX1_leaving 15 = .ok (.aload_n 0, 1) := by decide +kernel
theorem dX1_leaving_16 : decode cX1_leaving 16 = .ok (.getfield 27, 3) := by decide +kernel
theorem dX1_leaving_19 : decode cX1_leaving 19 = .ok (.ifCond .lt 42, 3) := by decide +kernel
theorem dX1_leaving_22 : decode cX1_leaving 22 = .ok (.iload_n 2, 1) := by decide +kernel
theorem dX1_leaving_23 : decode cX1_leaving 23 = .ok (.bipush 46, 2) := by decide +kernel
theorem dX1_leaving_25 : decode cX1_leaving 25 = .ok (.if_icmp .ne 10, 3) := by decide +kernel
theorem dX1_leaving_28 : decode cX1_leaving 28 = .ok (.aload_n 0, 1) := by decide +kernel
theorem dX1_leaving_29 : decode cX1_leaving 29 = .ok (.getfield 31, 3) := by decide +kernel
theorem dX1_leaving_32 : decode cX1_leaving 32 = .ok (.ifCond .lt 29, 3) := by decide +kernel
theorem dX1_leaving_35 : decode cX1_leaving 35 = .ok (.iload_n 2, 1) := by decide +kernel
theorem dX1_leaving_36 : decode cX1_leaving 36 = .ok (.bipush 47, 2) := by decide +kernel
theorem dX1_leaving_38 : decode cX1_leaving 38 = .ok (.if_icmp .ne 10, 3) := by decide +kernel
theorem dX1_leaving_41 : decode cX1_leaving 41 = .ok (.aload_n 0, 1) := by decide +kernel
theorem dX1_leaving_42 : decode cX1_leaving 42 = .ok (.getfield 34, 3) := by decide +kernel
theorem dX1_leaving_45 : decode cX1_leaving 45 = .ok (.ifCond .lt 16, 3) := by decide +kernel
theorem dX1_leaving_48 : decode cX1_leaving 48 = .ok (.iload_n 2, 1) := by decide +kernel
theorem dX1_leaving_49 : decode cX1_leaving 49 = .ok (.bipush 48, 2) := by decide +kernel
theorem dX1_leaving_51 : decode cX1_leaving 51 = .ok (.if_icmp .ne 14, 3) := by decide +kernel
theorem dX1_leaving_54 : decode cX1_leaving 54 = .ok (.aload_n 0, 1) := by decide +kernel
theorem dX1_leaving_55 : decode cX1_leaving 55 = .ok (.getfield 61, 3) := by decide +kernel
theorem dX1_leaving_58 : decode cX1_leaving 58 = .ok (.ifCond .eq 7, 3) := by decide +kernel
theorem dX1_leaving_61 : decode cX1_leaving 61 = .ok (.iconst 1, 1) := by decide +kernel
theorem dX1_leaving_62 : decode cX1_leaving 62 = .ok (.goto 4, 3) := by decide +kernel
theorem dX1_leaving_65 : decode cX1_leaving 65 = .ok (.iconst 0, 1) := by decide +kernel
theorem dX1_leaving_66 : decode cX1_leaving 66 = .ok (.istore_n 3, 1) := by decide +kernel
theorem dX1_leaving_67 : decode cX1_leaving 67 = .ok (.iload_n 3, 1) := by decide +kernel
theorem dX1_leaving_68 : decode cX1_leaving 68 = .ok (.ifCond .eq 23, 3) := by decide +kernel
theorem dX1_leaving_71 : decode cX1_leaving 71 = .ok (.aload_n 0, 1) := by decide +kernel
theorem dX1_leaving_72 : decode cX1_leaving 72 = .ok (.getfield 69, 3) := by decide +kernel
theorem dX1_leaving_75 : decode cX1_leaving 75 = .ok (.bipush 6, 2) := by decide +kernel
theorem dX1_leaving_77 : decode cX1_leaving 77 = .ok (.aload_n 0, 1) := by decide +kernel
theorem dX1_leaving_78 : decode cX1_leaving 78 = .ok (.getfield 65, 3) := by decide +kernel
theorem dX1_leaving_81 : decode cX1_leaving 81 = .ok (.iload_n 1, 1) := by decide +kernel
theorem dX1_leaving_82 : decode cX1_leaving 82 = .ok (.invokevirtual 135, 3) := by decide +kernel
theorem dX1_leaving_85 : decode cX1_leaving 85 = .ok (.invokevirtual 177, 3) := by decide +kernel
theorem dX1_leaving_88 : decode cX1_leaving 88 = .ok (.goto 118, 3) := by decide +kernel
theorem dX1_leaving_91 : decode cX1_leaving 91 = .ok (.iload_n 2, 1) := by decide +kernel
theorem dX1_leaving_92 : decode cX1_leaving 92 = .ok (.bipush 45, 2) := by decide +kernel
theorem dX1_leaving_94 : decode cX1_leaving 94 = .ok (.if_icmp .ne 20, 3) := by decide +kernel
theorem dX1_leaving_97 : decode cX1_leaving 97 = .ok (.aload_n 0, 1) := by decide +kernel
theorem dX1_leaving_98 : decode cX1_leaving 98 = .ok (.aload_n 0, 1) := by decide +kernel
theorem dX1_leaving_99 : decode cX1_leaving 99 = .ok (.bipush 14, 2) := by decide +kernel
theorem dX1_leaving_101 : decode cX1_leaving 101 = .ok (.aload_n 0, 1) := by decide +kernel
theorem dX1_leaving_102 : decode cX1_leaving 102 = .ok (.getfield 27, 3) := by decide +kernel
theorem dX1_leaving_105 : decode cX1_leaving 105 = .ok (.invokevirtual 181, 3) := by decide +kernel
theorem dX1_leaving_108 : decode cX1_leaving 108 = .ok (.putfield 27, 3) := by decide +kernel
theorem dX1_leaving_111 : decode cX1_leaving 111 = .ok (.goto 95, 3) := by decide +kernel
theorem dX1_leaving_114 : decode cX1_leaving 114 = .ok (.iload_n 2, 1) := by decide +kernel
theorem dX1_leaving_115 : decode cX1_leaving 115 = .ok (.bipush 46, 2) := by decide +kernel
theorem dX1_leaving_117 : decode cX1_leaving 117 = .ok (.if_icmp .ne 20, 3) := by decide +kernel
theorem dX1_leaving_120 : decode cX1_leaving 120 = .ok (.aload_n 0, 1) := by decide +kernel
theorem dX1_leaving_121 : decode cX1_leaving 121 = .ok (.aload_n 0, 1) := by decide +kernel
theorem dX1_leaving_122 : decode cX1_leaving 122 = .ok (.bipush 14, 2) := by decide +kernel
theorem dX1_leaving_124 : decode cX1_leaving 124 = .ok (.aload_n 0, 1) := by decide +kernel
theorem dX1_leaving_125 : decode cX1_leaving 125 = .ok (.getfield 31, 3) := by decide +kernel
theorem dX1_leaving_128 : decode cX1_leaving 128 = .ok (.invokevirtual 181, 3) := by decide +kernel
theorem dX1_leaving_131 : decode cX1_leaving 131 = .ok (.putfield 31, 3) := by decide +kernel
theorem dX1_leaving_134 : decode cX1_leaving 134 = .ok (.goto 72, 3) := by decide +kernel
theorem dX1_leaving_137 : decode cX1_leaving 137 = .ok (.iload_n 2, 1) := by decide +kernel
theorem dX1_leaving_138 : decode cX1_leaving 138 = .ok (.bipush 47, 2) := by decide +kernel
theorem dX1_leaving_140 : decode cX1_leaving 140 = .ok (.if_icmp .ne 20, 3) := by decide +kernel
theorem dX1_leaving_143 : decode cX1_leaving 143 = .ok (.aload_n 0, 1) := by decide +kernel
theorem dX1_leaving_144 : decode cX1_leaving 144 = .ok (.aload_n 0, 1) := by decide +kernel
theorem dX1_leaving_145 : decode cX1_leaving 145 = .ok (.bipush 14, 2) := by decide +kernel
theorem dX1_leaving_147 : decode cX1_leaving 147 = .ok (.aload_n 0, 1) := by decide +kernel
theorem dX1_leaving_148 : decode cX1_leaving 148 = .ok (.getfield 34, 3) := by decide +kernel
theorem dX1_leaving_151 : decode cX1_leaving 151 = .ok (.invokevirtual 181, 3) := by decide +kernel
theorem dX1_leaving_154 : decode cX1_leaving 154 = .ok (.putfield 34, 3) := by decide +kernel
theorem dX1_leaving_157 : decode cX1_leaving 157 = .ok (.goto 49, 3) := by decide +kernel
theorem dX1_leaving_160 : decode cX1_leaving 160 = .ok (.iload_n 2, 1) := by decide +kernel
theorem dX1_leaving_161 : decode cX1_leaving 161 = .ok (.bipush 48, 2) := by decide +kernel
theorem dX1_leaving_163 : decode cX1_leaving 163 = .ok (.if_icmp .ne 21, 3) := by decide +kernel
theorem dX1_leaving_166 : decode cX1_leaving 166 = .ok (.aload_n 0, 1) := by decide +kernel
theorem dX1_leaving_167 : decode cX1_leaving 167 = .ok (.iconst 1, 1) := by decide +kernel
theorem dX1_leaving_168 : decode cX1_leaving 168 = .ok (.iconst 0, 1) := by decide +kernel
theorem dX1_leaving_169 : decode cX1_leaving 169 = .ok (.invokevirtual 181, 3) := by decide +kernel
theorem dX1_leaving_172 : decode cX1_leaving 172 = .ok (.pop, 1) := by decide +kernel
theorem dX1_leaving_173 : decode cX1_leaving 173 = .ok (.aload_n 0, 1) := by decide +kernel
theorem dX1_leaving_174 : decode cX1_leaving 174 = .ok (.bipush 20, 2) := by decide +kernel
theorem dX1_leaving_176 : decode cX1_leaving 176 = .ok (.iconst 0, 1) := by decide +kernel
theorem dX1_leaving_177 : decode cX1_leaving 177 = .ok (.invokevirtual 181, 3) := by decide +kernel
theorem dX1_leaving_180 : decode cX1_leaving 180 = .ok (.pop, 1) := by decide +kernel
theorem dX1_leaving_181 : decode cX1_leaving 181 = .ok (.goto 25, 3) := by decide +kernel
theorem dX1_leaving_184 : decode cX1_leaving 184 = .ok (.iload_n 2, 1) := by decide +kernel
theorem dX1_leaving_185 : decode cX1_leaving 185 = .ok (.bipush 50, 2) := by decide +kernel
theorem dX1_leaving_187 : decode cX1_leaving 187 = .ok (.if_icmp .ne 14, 3) := by decide +kernel
theorem dX1_leaving_190 : decode cX1_leaving 190 = .ok (.aload_n 0, 1) := by decide +kernel
theorem dX1_leaving_191 : decode cX1_leaving 191 = .ok (.bipush 21, 2) := by decide +kernel
theorem dX1_leaving_193 : decode cX1_leaving 193 = .ok (.iconst 0, 1) := by decide +kernel
theorem dX1_leaving_194 : decode cX1_leaving 194 = .ok (.invokevirtual 181, 3) := by decide +kernel
theorem dX1_leaving_197 : decode cX1_leaving 197 = .ok (.pop, 1) := by decide +kernel
theorem dX1_leaving_198 : decode cX1_leaving 198 = .ok (.goto 8, 3) := by decide +kernel
theorem dX1_leaving_201 : decode cX1_leaving 201 = .ok (.aload_n 0, 1) := by decide +kernel
theorem dX1_leaving_202 : decode cX1_leaving 202 = .ok (.iload_n 1, 1) := by decide +kernel
theorem dX1_leaving_203 : decode cX1_leaving 203 = .ok (.invokevirtual 276, 3) := by decide +kernel
theorem dX1_leaving_206 : decode cX1_leaving 206 = .ok (.return_, 1) := by decide +kernel
def wc_Coder_leaving_66 (Q : cS → Prop)  (A0 : cS) (x1 : Int) (x2 : Int) (y0 : Int) : Prop :=
  ((y0 = 0 → ((¬ x2 = 45 → ((¬ x2 = 46 → ((¬ x2 = 47 → ((¬ x2 = 48 → ((¬ x2 = 50 → wc_Coder_going A0 x1 (fun A14 => Q A14)) ∧ (x2 = 50 → wc_Coder_emit A0 21 0 (fun r22 A23 => Q A23)))) ∧ (x2 = 48 → wc_Coder_emit A0 1 0 (fun r31 A32 => wc_Coder_emit A32 20 0 (fun r39 A40 => Q A40))))) ∧ (x2 = 47 → wc_Coder_emit A0 14 (yv A0 15) (fun r48 A49 => Q (ypv A49 15 r48))))) ∧ (x2 = 46 → wc_Coder_emit A0 14 (yv A0 14) (fun r68 A69 => Q (ypv A69 14 r68))))) ∧ (x2 = 45 → wc_Coder_emit A0 14 (yv A0 13) (fun r88 A89 => Q (ypv A89 13 r88))))) ∧ (¬ y0 = 0 → wc_Tree_place A0 x1 (fun r108 A109 => wc_Program_blame A109 6 r108 (fun A117 => Q A117))))
def wc_Coder_leaving_35 (Q : cS → Prop)  (A0 : cS) (x1 : Int) (x2 : Int) : Prop :=
  ((¬ x2 = 47 → ((¬ x2 = 48 → wc_Coder_leaving_66 Q  A0 x1 x2 0) ∧ (x2 = 48 → (((yv A0 24) = 0 → wc_Coder_leaving_66 Q  A0 x1 x2 0) ∧ (¬ (yv A0 24) = 0 → wc_Coder_leaving_66 Q  A0 x1 x2 1))))) ∧ (x2 = 47 → (((yv A0 15) < 0 → wc_Coder_leaving_66 Q  A0 x1 x2 1) ∧ (¬ (yv A0 15) < 0 → ((¬ x2 = 48 → wc_Coder_leaving_66 Q  A0 x1 x2 0) ∧ (x2 = 48 → (((yv A0 24) = 0 → wc_Coder_leaving_66 Q  A0 x1 x2 0) ∧ (¬ (yv A0 24) = 0 → wc_Coder_leaving_66 Q  A0 x1 x2 1))))))))
def wc_Coder_leaving (A0 : cS) (a0 : Int) (Q : cS → Prop) : Prop :=
  wc_Tree_kind A0 a0 (fun r1 A2 => ((¬ r1 = 45 → ((¬ r1 = 46 → wc_Coder_leaving_35 Q  A2 a0 r1) ∧ (r1 = 46 → (((yv A2 14) < 0 → wc_Coder_leaving_66 Q  A2 a0 r1 1) ∧ (¬ (yv A2 14) < 0 → wc_Coder_leaving_35 Q  A2 a0 r1))))) ∧ (r1 = 45 → (((yv A2 13) < 0 → wc_Coder_leaving_66 Q  A2 a0 r1 1) ∧ (¬ (yv A2 13) < 0 → ((¬ r1 = 46 → wc_Coder_leaving_35 Q  A2 a0 r1) ∧ (r1 = 46 → (((yv A2 14) < 0 → wc_Coder_leaving_66 Q  A2 a0 r1 1) ∧ (¬ (yv A2 14) < 0 → wc_Coder_leaving_35 Q  A2 a0 r1)))))))))
set_option maxHeartbeats 4000000 in
set_option maxRecDepth 100000 in
theorem cj_Coder_leaving_66 {X : gX} {d : gD} {b : Nat} {Y : gYt} {c : Nat × Nat} {F0 : gM} {S0 : gSt} {mc ms : Nat} (hC : gC RX1 cX1_leaving 4 none "leaving" (gR 6 mc ms) d b X) (hr : hRm X b) {Q : cS → Prop}   {u : hU} {S : gSt} {A0 : cS} {x1 : Int} {x2 : Int} {y0 : Int} (Rx1 : zR x1) (Rx2 : zR x2) (Ry0 : zR y0) (ho : yOk X b u) (hZ : yZ d b Y c F0 S0 u S A0) (hw : wc_Coder_leaving_66 Q  A0 x1 x2 y0) : yG X d b (yQv X d b Y c F0 S0 mc ms Q) u 66 [some (.ref (gO' Y 5)), some (.int (zI x1)), some (.int (zI x2)), none] [.int (zI y0)] := by
  unfold wc_Coder_leaving_66 at hw
  refine h_istore_n (lv' := [some (.ref (gO' Y 5)), some (.int (zI x1)), some (.int (zI x2)), some (.int (zI y0))]) hC dX1_leaving_66 (Nat.le_of_ble_eq_true rfl) rfl rfl ?_
  refine h_iload_n hC dX1_leaving_67 rfl ?_
  refine yr_if_eq (tgt := 91) hC Ry0 dX1_leaving_68 (by decide) (fun c1 => ?_) (fun c1 => ?_)
  · have h2 := hw.1 c1
    refine h_iload_n hC dX1_leaving_91 rfl ?_
    refine h_bipush (v := zI 45) hC dX1_leaving_92 rfl ?_
    refine yr_icmp_ne (tgt := 114) hC Rx2 (by decide) dX1_leaving_94 (by decide) (fun c3 => ?_) (fun c3 => ?_)
    · have h4 := h2.1 c3
      refine h_iload_n hC dX1_leaving_114 rfl ?_
      refine h_bipush (v := zI 46) hC dX1_leaving_115 rfl ?_
      refine yr_icmp_ne (tgt := 137) hC Rx2 (by decide) dX1_leaving_117 (by decide) (fun c5 => ?_) (fun c5 => ?_)
      · have h6 := h4.1 c5
        refine h_iload_n hC dX1_leaving_137 rfl ?_
        refine h_bipush (v := zI 47) hC dX1_leaving_138 rfl ?_
        refine yr_icmp_ne (tgt := 160) hC Rx2 (by decide) dX1_leaving_140 (by decide) (fun c7 => ?_) (fun c7 => ?_)
        · have h8 := h6.1 c7
          refine h_iload_n hC dX1_leaving_160 rfl ?_
          refine h_bipush (v := zI 48) hC dX1_leaving_161 rfl ?_
          refine yr_icmp_ne (tgt := 184) hC Rx2 (by decide) dX1_leaving_163 (by decide) (fun c9 => ?_) (fun c9 => ?_)
          · have h10 := h8.1 c9
            refine h_iload_n hC dX1_leaving_184 rfl ?_
            refine h_bipush (v := zI 50) hC dX1_leaving_185 rfl ?_
            refine yr_icmp_ne (tgt := 201) hC Rx2 (by decide) dX1_leaving_187 (by decide) (fun c11 => ?_) (fun c11 => ?_)
            · have h12 := h10.1 c11
              refine h_aload_n hC dX1_leaving_201 rfl ?_
              refine h_iload_n hC dX1_leaving_202 rfl ?_
              refine yr_callVv (As := [.int (zI x1)]) hC hr ho hZ rfl (hZ.w.o 5 (by decide)) (cm_Coder_going X.la d b Rx1 hZ.rs h12) cl_X1_276 rfl rfl (Nat.le_of_ble_eq_true rfl) (hFr_of (Nat.le_of_ble_eq_true rfl) (Nat.le_of_ble_eq_true rfl)) dX1_leaving_203 (fun A14 u15 S16 o18 hZ19 h20 => ?_)
              exact yr_vret hC hr o18 hZ19 h20 dX1_leaving_206
            · have h21 := h10.2 c11
              refine h_aload_n hC dX1_leaving_190 rfl ?_
              refine h_bipush (v := zI 21) hC dX1_leaving_191 rfl ?_
              refine h_iconst (v := zI 0) hC dX1_leaving_193 rfl ?_
              refine yr_callVi (As := [.int (zI 21), .int (zI 0)]) hC hr ho hZ rfl (hZ.w.o 5 (by decide)) (cm_Coder_emit X.la d b (by decide) (by decide) hZ.rs h21) cl_X1_181 rfl rfl (Nat.le_of_ble_eq_true rfl) (hFr_of (Nat.le_of_ble_eq_true rfl) (Nat.le_of_ble_eq_true rfl)) dX1_leaving_194 (fun r22 A23 u24 S25 R26 o27 hZ28 h29 => ?_)
              refine h_pop hC dX1_leaving_197 rfl ?_
              refine h_goto (tgt := 206) hC dX1_leaving_198 (by decide) ?_
              exact yr_vret hC hr o27 hZ28 h29 dX1_leaving_206
          · have h30 := h8.2 c9
            refine h_aload_n hC dX1_leaving_166 rfl ?_
            refine h_iconst (v := zI 1) hC dX1_leaving_167 rfl ?_
            refine h_iconst (v := zI 0) hC dX1_leaving_168 rfl ?_
            refine yr_callVi (As := [.int (zI 1), .int (zI 0)]) hC hr ho hZ rfl (hZ.w.o 5 (by decide)) (cm_Coder_emit X.la d b (by decide) (by decide) hZ.rs h30) cl_X1_181 rfl rfl (Nat.le_of_ble_eq_true rfl) (hFr_of (Nat.le_of_ble_eq_true rfl) (Nat.le_of_ble_eq_true rfl)) dX1_leaving_169 (fun r31 A32 u33 S34 R35 o36 hZ37 h38 => ?_)
            refine h_pop hC dX1_leaving_172 rfl ?_
            refine h_aload_n hC dX1_leaving_173 rfl ?_
            refine h_bipush (v := zI 20) hC dX1_leaving_174 rfl ?_
            refine h_iconst (v := zI 0) hC dX1_leaving_176 rfl ?_
            refine yr_callVi (As := [.int (zI 20), .int (zI 0)]) hC hr o36 hZ37 rfl (hZ37.w.o 5 (by decide)) (cm_Coder_emit X.la d b (by decide) (by decide) hZ37.rs h38) cl_X1_181 rfl rfl (Nat.le_of_ble_eq_true rfl) (hFr_of (Nat.le_of_ble_eq_true rfl) (Nat.le_of_ble_eq_true rfl)) dX1_leaving_177 (fun r39 A40 u41 S42 R43 o44 hZ45 h46 => ?_)
            refine h_pop hC dX1_leaving_180 rfl ?_
            refine h_goto (tgt := 206) hC dX1_leaving_181 (by decide) ?_
            exact yr_vret hC hr o44 hZ45 h46 dX1_leaving_206
        · have h47 := h6.2 c7
          refine h_aload_n hC dX1_leaving_143 rfl ?_
          refine h_aload_n hC dX1_leaving_144 rfl ?_
          refine h_bipush (v := zI 14) hC dX1_leaving_145 rfl ?_
          refine h_aload_n hC dX1_leaving_147 rfl ?_
          refine h_get hC fl_X1_34 (hZ.w.o 5 (by decide)) rfl dX1_leaving_148 ?_
          refine yr_sv (e := (yv A0 15)) hZ 15 rfl ?_
          refine yr_callVi (As := [.int (zI 14), .int (zI (yv A0 15))]) hC hr ho hZ rfl (hZ.w.o 5 (by decide)) (cm_Coder_emit X.la d b (by decide) (hZ.rv 15) hZ.rs h47) cl_X1_181 rfl rfl (Nat.le_of_ble_eq_true rfl) (hFr_of (Nat.le_of_ble_eq_true rfl) (Nat.le_of_ble_eq_true rfl)) dX1_leaving_151 (fun r48 A49 u50 S51 R52 o53 hZ54 h55 => ?_)
          refine hi_putx (i := 5) (kx := 15) hC hZ54.hi (by decide) fl_X1_34 rfl rfl rfl (Nat.le_of_ble_eq_true rfl) rfl gsame_15 (fun q => absurd q (by decide)) dX1_leaving_154 (fun F56 S57 I58 K59 s60 v61 p62 => ?_)
          have hZ63 := hZ54.put I58 K59 s60 v61 R52 rfl
          clear I58 K59 s60 v61 p62
          refine yr_nu o53 hZ63 (fun u64 o65 hZ66 => ?_)
          refine h_goto (tgt := 206) hC dX1_leaving_157 (by decide) ?_
          exact yr_vret hC hr o65 hZ66 h55 dX1_leaving_206
      · have h67 := h4.2 c5
        refine h_aload_n hC dX1_leaving_120 rfl ?_
        refine h_aload_n hC dX1_leaving_121 rfl ?_
        refine h_bipush (v := zI 14) hC dX1_leaving_122 rfl ?_
        refine h_aload_n hC dX1_leaving_124 rfl ?_
        refine h_get hC fl_X1_31 (hZ.w.o 5 (by decide)) rfl dX1_leaving_125 ?_
        refine yr_sv (e := (yv A0 14)) hZ 14 rfl ?_
        refine yr_callVi (As := [.int (zI 14), .int (zI (yv A0 14))]) hC hr ho hZ rfl (hZ.w.o 5 (by decide)) (cm_Coder_emit X.la d b (by decide) (hZ.rv 14) hZ.rs h67) cl_X1_181 rfl rfl (Nat.le_of_ble_eq_true rfl) (hFr_of (Nat.le_of_ble_eq_true rfl) (Nat.le_of_ble_eq_true rfl)) dX1_leaving_128 (fun r68 A69 u70 S71 R72 o73 hZ74 h75 => ?_)
        refine hi_putx (i := 5) (kx := 14) hC hZ74.hi (by decide) fl_X1_31 rfl rfl rfl (Nat.le_of_ble_eq_true rfl) rfl gsame_14 (fun q => absurd q (by decide)) dX1_leaving_131 (fun F76 S77 I78 K79 s80 v81 p82 => ?_)
        have hZ83 := hZ74.put I78 K79 s80 v81 R72 rfl
        clear I78 K79 s80 v81 p82
        refine yr_nu o73 hZ83 (fun u84 o85 hZ86 => ?_)
        refine h_goto (tgt := 206) hC dX1_leaving_134 (by decide) ?_
        exact yr_vret hC hr o85 hZ86 h75 dX1_leaving_206
    · have h87 := h2.2 c3
      refine h_aload_n hC dX1_leaving_97 rfl ?_
      refine h_aload_n hC dX1_leaving_98 rfl ?_
      refine h_bipush (v := zI 14) hC dX1_leaving_99 rfl ?_
      refine h_aload_n hC dX1_leaving_101 rfl ?_
      refine h_get hC fl_X1_27 (hZ.w.o 5 (by decide)) rfl dX1_leaving_102 ?_
      refine yr_sv (e := (yv A0 13)) hZ 13 rfl ?_
      refine yr_callVi (As := [.int (zI 14), .int (zI (yv A0 13))]) hC hr ho hZ rfl (hZ.w.o 5 (by decide)) (cm_Coder_emit X.la d b (by decide) (hZ.rv 13) hZ.rs h87) cl_X1_181 rfl rfl (Nat.le_of_ble_eq_true rfl) (hFr_of (Nat.le_of_ble_eq_true rfl) (Nat.le_of_ble_eq_true rfl)) dX1_leaving_105 (fun r88 A89 u90 S91 R92 o93 hZ94 h95 => ?_)
      refine hi_putx (i := 5) (kx := 13) hC hZ94.hi (by decide) fl_X1_27 rfl rfl rfl (Nat.le_of_ble_eq_true rfl) rfl gsame_13 (fun q => absurd q (by decide)) dX1_leaving_108 (fun F96 S97 I98 K99 s100 v101 p102 => ?_)
      have hZ103 := hZ94.put I98 K99 s100 v101 R92 rfl
      clear I98 K99 s100 v101 p102
      refine yr_nu o93 hZ103 (fun u104 o105 hZ106 => ?_)
      refine h_goto (tgt := 206) hC dX1_leaving_111 (by decide) ?_
      exact yr_vret hC hr o105 hZ106 h95 dX1_leaving_206
  · have h107 := hw.2 c1
    refine h_aload_n hC dX1_leaving_71 rfl ?_
    refine h_get hC fl_X1_69 (hZ.w.o 5 (by decide)) rfl dX1_leaving_72 ?_
    refine h_bipush (v := zI 6) hC dX1_leaving_75 rfl ?_
    refine h_aload_n hC dX1_leaving_77 rfl ?_
    refine h_get hC fl_X1_65 (hZ.w.o 5 (by decide)) rfl dX1_leaving_78 ?_
    refine h_iload_n hC dX1_leaving_81 rfl ?_
    refine yr_callVi (As := [.int (zI x1)]) hC hr ho hZ rfl (hZ.w.o 2 (by decide)) (cm_Tree_place X.la d b Rx1 hZ.rs h107) cl_X1_135 rfl rfl (Nat.le_of_ble_eq_true rfl) (hFr_of (Nat.le_of_ble_eq_true rfl) (Nat.le_of_ble_eq_true rfl)) dX1_leaving_82 (fun r108 A109 u110 S111 R112 o113 hZ114 h115 => ?_)
    refine yr_callVv (As := [.int (zI 6), .int (zI r108)]) hC hr o113 hZ114 rfl (hZ114.w.o 1 (by decide)) (cm_Program_blame X.la d b (by decide) R112 hZ114.rs h115) cl_X1_177 rfl rfl (Nat.le_of_ble_eq_true rfl) (hFr_of (Nat.le_of_ble_eq_true rfl) (Nat.le_of_ble_eq_true rfl)) dX1_leaving_85 (fun A117 u118 S119 o121 hZ122 h123 => ?_)
    refine h_goto (tgt := 206) hC dX1_leaving_88 (by decide) ?_
    exact yr_vret hC hr o121 hZ122 h123 dX1_leaving_206
set_option maxHeartbeats 4000000 in
set_option maxRecDepth 100000 in
theorem cj_Coder_leaving_35 {X : gX} {d : gD} {b : Nat} {Y : gYt} {c : Nat × Nat} {F0 : gM} {S0 : gSt} {mc ms : Nat} (hC : gC RX1 cX1_leaving 4 none "leaving" (gR 6 mc ms) d b X) (hr : hRm X b) {Q : cS → Prop}   {u : hU} {S : gSt} {A0 : cS} {x1 : Int} {x2 : Int} (Rx1 : zR x1) (Rx2 : zR x2) (ho : yOk X b u) (hZ : yZ d b Y c F0 S0 u S A0) (hw : wc_Coder_leaving_35 Q  A0 x1 x2) : yG X d b (yQv X d b Y c F0 S0 mc ms Q) u 35 [some (.ref (gO' Y 5)), some (.int (zI x1)), some (.int (zI x2)), none] [] := by
  unfold wc_Coder_leaving_35 at hw
  refine h_iload_n hC dX1_leaving_35 rfl ?_
  refine h_bipush (v := zI 47) hC dX1_leaving_36 rfl ?_
  refine yr_icmp_ne (tgt := 48) hC Rx2 (by decide) dX1_leaving_38 (by decide) (fun c1 => ?_) (fun c1 => ?_)
  · have h2 := hw.1 c1
    refine h_iload_n hC dX1_leaving_48 rfl ?_
    refine h_bipush (v := zI 48) hC dX1_leaving_49 rfl ?_
    refine yr_icmp_ne (tgt := 65) hC Rx2 (by decide) dX1_leaving_51 (by decide) (fun c3 => ?_) (fun c3 => ?_)
    · have h4 := h2.1 c3
      refine h_iconst (v := zI 0) hC dX1_leaving_65 rfl ?_
      exact cj_Coder_leaving_66 hC hr  Rx1 Rx2 (by decide) ho hZ h4
    · have h5 := h2.2 c3
      refine h_aload_n hC dX1_leaving_54 rfl ?_
      refine h_get hC fl_X1_61 (hZ.w.o 5 (by decide)) rfl dX1_leaving_55 ?_
      refine yr_sv (e := (yv A0 24)) hZ 24 rfl ?_
      refine yr_if_eq (tgt := 65) hC (hZ.rv 24) dX1_leaving_58 (by decide) (fun c6 => ?_) (fun c6 => ?_)
      · have h7 := h5.1 c6
        refine h_iconst (v := zI 0) hC dX1_leaving_65 rfl ?_
        exact cj_Coder_leaving_66 hC hr  Rx1 Rx2 (by decide) ho hZ h7
      · have h8 := h5.2 c6
        refine h_iconst (v := zI 1) hC dX1_leaving_61 rfl ?_
        refine h_goto (tgt := 66) hC dX1_leaving_62 (by decide) ?_
        exact cj_Coder_leaving_66 hC hr  Rx1 Rx2 (by decide) ho hZ h8
  · have h9 := hw.2 c1
    refine h_aload_n hC dX1_leaving_41 rfl ?_
    refine h_get hC fl_X1_34 (hZ.w.o 5 (by decide)) rfl dX1_leaving_42 ?_
    refine yr_sv (e := (yv A0 15)) hZ 15 rfl ?_
    refine yr_if_lt (tgt := 61) hC (hZ.rv 15) dX1_leaving_45 (by decide) (fun c10 => ?_) (fun c10 => ?_)
    · have h11 := h9.1 c10
      refine h_iconst (v := zI 1) hC dX1_leaving_61 rfl ?_
      refine h_goto (tgt := 66) hC dX1_leaving_62 (by decide) ?_
      exact cj_Coder_leaving_66 hC hr  Rx1 Rx2 (by decide) ho hZ h11
    · have h12 := h9.2 c10
      refine h_iload_n hC dX1_leaving_48 rfl ?_
      refine h_bipush (v := zI 48) hC dX1_leaving_49 rfl ?_
      refine yr_icmp_ne (tgt := 65) hC Rx2 (by decide) dX1_leaving_51 (by decide) (fun c13 => ?_) (fun c13 => ?_)
      · have h14 := h12.1 c13
        refine h_iconst (v := zI 0) hC dX1_leaving_65 rfl ?_
        exact cj_Coder_leaving_66 hC hr  Rx1 Rx2 (by decide) ho hZ h14
      · have h15 := h12.2 c13
        refine h_aload_n hC dX1_leaving_54 rfl ?_
        refine h_get hC fl_X1_61 (hZ.w.o 5 (by decide)) rfl dX1_leaving_55 ?_
        refine yr_sv (e := (yv A0 24)) hZ 24 rfl ?_
        refine yr_if_eq (tgt := 65) hC (hZ.rv 24) dX1_leaving_58 (by decide) (fun c16 => ?_) (fun c16 => ?_)
        · have h17 := h15.1 c16
          refine h_iconst (v := zI 0) hC dX1_leaving_65 rfl ?_
          exact cj_Coder_leaving_66 hC hr  Rx1 Rx2 (by decide) ho hZ h17
        · have h18 := h15.2 c16
          refine h_iconst (v := zI 1) hC dX1_leaving_61 rfl ?_
          refine h_goto (tgt := 66) hC dX1_leaving_62 (by decide) ?_
          exact cj_Coder_leaving_66 hC hr  Rx1 Rx2 (by decide) ho hZ h18
set_option maxHeartbeats 4000000 in
set_option maxRecDepth 100000 in
theorem cm_Coder_leaving (l : Launch) (d : gD) (b : Nat) {Y : gYt} {c : Nat × Nat} {F : gM} {k n : Nat} {S : gSt} {A0 : cS} {a0 : Int} (Ra0 : zR a0) {Q : cS → Prop} (hZ : yZ d b Y c F S (F, k, n) S A0) (hw : wc_Coder_leaving A0 a0 Q) : hMv l d b yX1_leaving cX1_leaving 4 6 k n F [.ref (gO' Y 5), .int (zI a0)] (yPv d b Y c F S Q) := by
  intro mc ms
  refine hM_of2 rfl (nL := 4) (Nat.le_of_ble_eq_true rfl) ?_
  intro X hX hC hr ho; subst hX
  show yG X d b (yQv X d b Y c F S mc ms Q) (F, k, n) 0 [some (.ref (gO' Y 5)), some (.int (zI a0)), none, none] []
  unfold wc_Coder_leaving at hw
  refine h_aload_n hC dX1_leaving_0 rfl ?_
  refine h_get hC fl_X1_65 (hZ.w.o 5 (by decide)) rfl dX1_leaving_1 ?_
  refine h_iload_n hC dX1_leaving_4 rfl ?_
  refine yr_callVi (As := [.int (zI a0)]) hC hr ho hZ rfl (hZ.w.o 2 (by decide)) (cm_Tree_kind X.la d b Ra0 hZ.rs hw) cl_X1_121 rfl rfl (Nat.le_of_ble_eq_true rfl) (hFr_of (Nat.le_of_ble_eq_true rfl) (Nat.le_of_ble_eq_true rfl)) dX1_leaving_5 (fun r1 A2 u3 S4 R5 o6 hZ7 h8 => ?_)
  refine h_istore_n (lv' := [some (.ref (gO' Y 5)), some (.int (zI a0)), some (.int (zI r1)), none]) hC dX1_leaving_8 (Nat.le_of_ble_eq_true rfl) rfl rfl ?_
  refine h_iload_n hC dX1_leaving_9 rfl ?_
  refine h_bipush (v := zI 45) hC dX1_leaving_10 rfl ?_
  refine yr_icmp_ne (tgt := 22) hC R5 (by decide) dX1_leaving_12 (by decide) (fun c9 => ?_) (fun c9 => ?_)
  · have h10 := h8.1 c9
    refine h_iload_n hC dX1_leaving_22 rfl ?_
    refine h_bipush (v := zI 46) hC dX1_leaving_23 rfl ?_
    refine yr_icmp_ne (tgt := 35) hC R5 (by decide) dX1_leaving_25 (by decide) (fun c11 => ?_) (fun c11 => ?_)
    · have h12 := h10.1 c11
      exact cj_Coder_leaving_35 hC hr  Ra0 R5 o6 hZ7 h12
    · have h13 := h10.2 c11
      refine h_aload_n hC dX1_leaving_28 rfl ?_
      refine h_get hC fl_X1_31 (hZ7.w.o 5 (by decide)) rfl dX1_leaving_29 ?_
      refine yr_sv (e := (yv A2 14)) hZ7 14 rfl ?_
      refine yr_if_lt (tgt := 61) hC (hZ7.rv 14) dX1_leaving_32 (by decide) (fun c14 => ?_) (fun c14 => ?_)
      · have h15 := h13.1 c14
        refine h_iconst (v := zI 1) hC dX1_leaving_61 rfl ?_
        refine h_goto (tgt := 66) hC dX1_leaving_62 (by decide) ?_
        exact cj_Coder_leaving_66 hC hr  Ra0 R5 (by decide) o6 hZ7 h15
      · have h16 := h13.2 c14
        exact cj_Coder_leaving_35 hC hr  Ra0 R5 o6 hZ7 h16
  · have h17 := h8.2 c9
    refine h_aload_n hC dX1_leaving_15 rfl ?_
    refine h_get hC fl_X1_27 (hZ7.w.o 5 (by decide)) rfl dX1_leaving_16 ?_
    refine yr_sv (e := (yv A2 13)) hZ7 13 rfl ?_
    refine yr_if_lt (tgt := 61) hC (hZ7.rv 13) dX1_leaving_19 (by decide) (fun c18 => ?_) (fun c18 => ?_)
    · have h19 := h17.1 c18
      refine h_iconst (v := zI 1) hC dX1_leaving_61 rfl ?_
      refine h_goto (tgt := 66) hC dX1_leaving_62 (by decide) ?_
      exact cj_Coder_leaving_66 hC hr  Ra0 R5 (by decide) o6 hZ7 h19
    · have h20 := h17.2 c18
      refine h_iload_n hC dX1_leaving_22 rfl ?_
      refine h_bipush (v := zI 46) hC dX1_leaving_23 rfl ?_
      refine yr_icmp_ne (tgt := 35) hC R5 (by decide) dX1_leaving_25 (by decide) (fun c21 => ?_) (fun c21 => ?_)
      · have h22 := h20.1 c21
        exact cj_Coder_leaving_35 hC hr  Ra0 R5 o6 hZ7 h22
      · have h23 := h20.2 c21
        refine h_aload_n hC dX1_leaving_28 rfl ?_
        refine h_get hC fl_X1_31 (hZ7.w.o 5 (by decide)) rfl dX1_leaving_29 ?_
        refine yr_sv (e := (yv A2 14)) hZ7 14 rfl ?_
        refine yr_if_lt (tgt := 61) hC (hZ7.rv 14) dX1_leaving_32 (by decide) (fun c24 => ?_) (fun c24 => ?_)
        · have h25 := h23.1 c24
          refine h_iconst (v := zI 1) hC dX1_leaving_61 rfl ?_
          refine h_goto (tgt := 66) hC dX1_leaving_62 (by decide) ?_
          exact cj_Coder_leaving_66 hC hr  Ra0 R5 (by decide) o6 hZ7 h25
        · have h26 := h23.2 c24
          exact cj_Coder_leaving_35 hC hr  Ra0 R5 o6 hZ7 h26
theorem dX1_table_0 : decode cX1_table 0 = .ok (.aload_n 0, 1) := by decide +kernel
theorem dX1_table_1 : decode cX1_table 1 = .ok (.getfield 65, 3) := by decide +kernel
theorem dX1_table_4 : decode cX1_table 4 = .ok (.iload_n 1, 1) := by decide +kernel
theorem dX1_table_5 : decode cX1_table 5 = .ok (.invokevirtual 129, 3) := by decide +kernel
theorem dX1_table_8 : decode cX1_table 8 = .ok (.istore_n 2, 1) := by decide +kernel
theorem dX1_table_9 : decode cX1_table 9 = .ok (.aload_n 0, 1) := by decide +kernel
theorem dX1_table_10 : decode cX1_table 10 = .ok (.getfield 65, 3) := by decide +kernel
theorem dX1_table_13 : decode cX1_table 13 = .ok (.iload_n 1, 1) := by decide +kernel
theorem dX1_table_14 : decode cX1_table 14 = .ok (.invokevirtual 126, 3) := by decide +kernel
theorem dX1_table_17 : decode cX1_table 17 = .ok (.istore_n 3, 1) := by decide +kernel
theorem dX1_table_18 : decode cX1_table 18 = .ok (.iconst 0, 1) := by decide +kernel
theorem dX1_table_19 : decode cX1_table 19 = .ok (.istore 4, 2) := by decide +kernel
theorem dX1_table_21 : decode cX1_table 21 = .ok (.iload 4, 2) := by decide +kernel
theorem dX1_table_23 : decode cX1_table 23 = .ok (.ldc 11, 2) := by decide +kernel
theorem dX1_table_25 : decode cX1_table 25 = .ok (.if_icmp .ge 42, 3) := by decide +kernel
theorem dX1_table_28 : decode cX1_table 28 = .ok (.iload_n 3, 1) := by decide +kernel
theorem dX1_table_29 : decode cX1_table 29 = .ok (.ifCond .eq 38, 3) := by decide +kernel
theorem dX1_table_32 : decode cX1_table 32 = .ok (.aload_n 0, 1) := by decide +kernel
theorem dX1_table_33 : decode cX1_table 33 = .ok (.getfield 69, 3) := by decide +kernel
theorem dX1_table_36 : decode cX1_table 36 = .ok (.iload_n 2, 1) := by decide +kernel
theorem dX1_table_37 : decode cX1_table 37 = .ok (.iload 4, 2) := by decide +kernel
theorem dX1_table_39 : decode cX1_table 39 = .ok (.iadd, 1) := by decide +kernel
theorem dX1_table_40 : decode cX1_table 40 = .ok (.aload_n 0, 1) := by decide +kernel
theorem dX1_table_41 : decode cX1_table 41 = .ok (.getfield 87, 3) := by decide +kernel
theorem dX1_table_44 : decode cX1_table 44 = .ok (.iload_n 3, 1) := by decide +kernel
theorem dX1_table_45 : decode cX1_table 45 = .ok (.iconst (-1), 1) := by decide +kernel
theorem dX1_table_46 : decode cX1_table 46 = .ok (.invokevirtual 145, 3) := by decide +kernel
theorem dX1_table_49 : decode cX1_table 49 = .ok (.invokevirtual 148, 3) := by decide +kernel
theorem dX1_table_52 : decode cX1_table 52 = .ok (.aload_n 0, 1) := by decide +kernel
theorem dX1_table_53 : decode cX1_table 53 = .ok (.getfield 65, 3) := by decide +kernel
theorem dX1_table_56 : decode cX1_table 56 = .ok (.iload_n 3, 1) := by decide +kernel
theorem dX1_table_57 : decode cX1_table 57 = .ok (.invokevirtual 142, 3) := by decide +kernel
theorem dX1_table_60 : decode cX1_table 60 = .ok (.istore_n 3, 1) := by decide +kernel
theorem dX1_table_61 : decode cX1_table 61 = .ok (.iinc 4 1, 3) := by decide +kernel
theorem dX1_table_64 : decode cX1_table 64 = .ok (.goto (-43), 3) := by decide +kernel
theorem dX1_table_67 : decode cX1_table 67 = .ok (.aload_n 0, 1) := by decide +kernel
theorem dX1_table_68 : decode cX1_table 68 = .ok (.iconst 1, 1) := by decide +kernel
theorem dX1_table_69 : decode cX1_table 69 = .ok (.iload_n 2, 1) := by decide +kernel
theorem dX1_table_70 : decode cX1_table 70 = .ok (.invokevirtual 181, 3) := by decide +kernel
theorem dX1_table_73 : decode cX1_table 73 = .ok (.pop, 1) := by decide +kernel
theorem dX1_table_74 : decode cX1_table 74 = .ok (.return_, 1) := by decide +kernel
def wc_Coder_table_21B (Q : cS → Prop) (k21 : cS → Int → Int → Int → Prop) (A0 : cS) (x2 : Int) (x3 : Int) (x4 : Int) : Prop :=
  ((1000000 ≤ x4 → wc_Coder_emit A0 1 x2 (fun r3 A4 => Q A4)) ∧ (¬ 1000000 ≤ x4 → ((x3 = 0 → wc_Coder_emit A0 1 x2 (fun r14 A15 => Q A15)) ∧ (¬ x3 = 0 → ∀ z23 : Int, z23 = zw (x2 + x4) → zR z23 → wc_Constants_number A0 x3 (-1) (fun r27 A28 => wc_Program_setWord A28 z23 r27 (fun A36 => wc_Tree_next A36 x3 (fun r43 A44 => (zR (x4 + 1)) ∧ k21 A44 x2 r43 (x4 + 1))))))))
def wc_Coder_table_21 (Q : cS → Prop)  : Nat → cS → Int → Int → Int → Prop
  | 0 => fun _ _ _ _ => False
  | m + 1 => fun A0 x2 x3 x4 => wc_Coder_table_21B Q  (wc_Coder_table_21 Q  m) A0 x2 x3 x4
def wc_Coder_table (A0 : cS) (a0 : Int) (Q : cS → Prop) : Prop :=
  wc_Tree_data A0 a0 (fun r1 A2 => wc_Tree_first A2 a0 (fun r9 A10 => ∃ n, wc_Coder_table_21 Q  n A10 r1 r9 0))
set_option maxHeartbeats 4000000 in
set_option maxRecDepth 100000 in
theorem cb_Coder_table_21 {X : gX} {d : gD} {b : Nat} {Y : gYt} {c : Nat × Nat} {F0 : gM} {S0 : gSt} {mc ms : Nat} (hC : gC RX1 cX1_table 5 none "table" (gR 629 mc ms) d b X) (hr : hRm X b) {Q : cS → Prop} {k21 : cS → Int → Int → Int → Prop} (hk21 : ∀ (u : hU) (S : gSt) (A0 : cS) (x2 : Int) (x3 : Int) (x4 : Int), zR x2 → zR x3 → zR x4 → yOk X b u → yZ d b Y c F0 S0 u S A0 → k21 A0 x2 x3 x4 → yG X d b (yQv X d b Y c F0 S0 mc ms Q) u 21 [some (.ref (gO' Y 5)), none, some (.int (zI x2)), some (.int (zI x3)), some (.int (zI x4))] []) {u : hU} {S : gSt} {A0 : cS} {x2 : Int} {x3 : Int} {x4 : Int} (Rx2 : zR x2) (Rx3 : zR x3) (Rx4 : zR x4) (ho : yOk X b u) (hZ : yZ d b Y c F0 S0 u S A0) (hw : wc_Coder_table_21B Q k21 A0 x2 x3 x4) : yG X d b (yQv X d b Y c F0 S0 mc ms Q) u 21 [some (.ref (gO' Y 5)), none, some (.int (zI x2)), some (.int (zI x3)), some (.int (zI x4))] [] := by
  unfold wc_Coder_table_21B at hw
  refine h_iload hC dX1_table_21 rfl ?_
  refine yr_ldc (e := 1000000) hC dX1_table_23 kw_576 (by decide) ?_
  refine yr_icmp_ge (tgt := 67) hC Rx4 (by decide) dX1_table_25 (by decide) (fun c1 => ?_) (fun c1 => ?_)
  · have h2 := hw.1 c1
    refine h_aload_n hC dX1_table_67 rfl ?_
    refine h_iconst (v := zI 1) hC dX1_table_68 rfl ?_
    refine h_iload_n hC dX1_table_69 rfl ?_
    refine yr_callVi (As := [.int (zI 1), .int (zI x2)]) hC hr ho hZ rfl (hZ.w.o 5 (by decide)) (cm_Coder_emit X.la d b (by decide) Rx2 hZ.rs h2) cl_X1_181 rfl rfl (Nat.le_of_ble_eq_true rfl) (hFr_of (Nat.le_of_ble_eq_true rfl) (Nat.le_of_ble_eq_true rfl)) dX1_table_70 (fun r3 A4 u5 S6 R7 o8 hZ9 h10 => ?_)
    refine h_pop hC dX1_table_73 rfl ?_
    exact yr_vret hC hr o8 hZ9 h10 dX1_table_74
  · have h11 := hw.2 c1
    refine h_iload_n hC dX1_table_28 rfl ?_
    refine yr_if_eq (tgt := 67) hC Rx3 dX1_table_29 (by decide) (fun c12 => ?_) (fun c12 => ?_)
    · have h13 := h11.1 c12
      refine h_aload_n hC dX1_table_67 rfl ?_
      refine h_iconst (v := zI 1) hC dX1_table_68 rfl ?_
      refine h_iload_n hC dX1_table_69 rfl ?_
      refine yr_callVi (As := [.int (zI 1), .int (zI x2)]) hC hr ho hZ rfl (hZ.w.o 5 (by decide)) (cm_Coder_emit X.la d b (by decide) Rx2 hZ.rs h13) cl_X1_181 rfl rfl (Nat.le_of_ble_eq_true rfl) (hFr_of (Nat.le_of_ble_eq_true rfl) (Nat.le_of_ble_eq_true rfl)) dX1_table_70 (fun r14 A15 u16 S17 R18 o19 hZ20 h21 => ?_)
      refine h_pop hC dX1_table_73 rfl ?_
      exact yr_vret hC hr o19 hZ20 h21 dX1_table_74
    · have h22 := h11.2 c12
      refine h_aload_n hC dX1_table_32 rfl ?_
      refine h_get hC fl_X1_69 (hZ.w.o 5 (by decide)) rfl dX1_table_33 ?_
      refine h_iload_n hC dX1_table_36 rfl ?_
      refine h_iload hC dX1_table_37 rfl ?_
      refine yr_iadd hC dX1_table_39 ?_
      refine yr_w (fun z23 e24 R25 => ?_)
      have h26 := h22 z23 e24 R25
      refine h_aload_n hC dX1_table_40 rfl ?_
      refine h_get hC fl_X1_87 (hZ.w.o 5 (by decide)) rfl dX1_table_41 ?_
      refine h_iload_n hC dX1_table_44 rfl ?_
      refine h_iconst (v := zI (-1)) hC dX1_table_45 rfl ?_
      refine yr_callVi (As := [.int (zI x3), .int (zI (-1))]) hC hr ho hZ rfl (hZ.w.o 9 (by decide)) (cm_Constants_number X.la d b Rx3 (by decide) hZ.rs h26) cl_X1_145 rfl rfl (Nat.le_of_ble_eq_true rfl) (hFr_of (Nat.le_of_ble_eq_true rfl) (Nat.le_of_ble_eq_true rfl)) dX1_table_46 (fun r27 A28 u29 S30 R31 o32 hZ33 h34 => ?_)
      refine yr_callVv (As := [.int (zI z23), .int (zI r27)]) hC hr o32 hZ33 rfl (hZ33.w.o 1 (by decide)) (cm_Program_setWord X.la d b R25 R31 hZ33.rs h34) cl_X1_148 rfl rfl (Nat.le_of_ble_eq_true rfl) (hFr_of (Nat.le_of_ble_eq_true rfl) (Nat.le_of_ble_eq_true rfl)) dX1_table_49 (fun A36 u37 S38 o40 hZ41 h42 => ?_)
      refine h_aload_n hC dX1_table_52 rfl ?_
      refine h_get hC fl_X1_65 (hZ41.w.o 5 (by decide)) rfl dX1_table_53 ?_
      refine h_iload_n hC dX1_table_56 rfl ?_
      refine yr_callVi (As := [.int (zI x3)]) hC hr o40 hZ41 rfl (hZ41.w.o 2 (by decide)) (cm_Tree_next X.la d b Rx3 hZ41.rs h42) cl_X1_142 rfl rfl (Nat.le_of_ble_eq_true rfl) (hFr_of (Nat.le_of_ble_eq_true rfl) (Nat.le_of_ble_eq_true rfl)) dX1_table_57 (fun r43 A44 u45 S46 R47 o48 hZ49 h50 => ?_)
      refine h_istore_n (lv' := [some (.ref (gO' Y 5)), none, some (.int (zI x2)), some (.int (zI r43)), some (.int (zI x4))]) hC dX1_table_60 (Nat.le_of_ble_eq_true rfl) rfl rfl ?_
      refine yr_iinc (x := x4) (lv' := [some (.ref (gO' Y 5)), none, some (.int (zI x2)), some (.int (zI r43)), some (.int (zI (x4 + 1)))]) hC dX1_table_61 rfl rfl rfl ?_
      refine h_goto (tgt := 21) hC dX1_table_64 (by decide) ?_
      obtain ⟨o51, h52⟩ := h50
      exact hk21 _ _ _ _ _ _ Rx2 R47 o51 o48 hZ49 h52
theorem cl_Coder_table_21 {X : gX} {d : gD} {b : Nat} {Y : gYt} {c : Nat × Nat} {F0 : gM} {S0 : gSt} {mc ms : Nat} (hC : gC RX1 cX1_table 5 none "table" (gR 629 mc ms) d b X) (hr : hRm X b) {Q : cS → Prop}   : ∀ (m : Nat) (u : hU) (S : gSt) (A0 : cS) (x2 : Int) (x3 : Int) (x4 : Int), zR x2 → zR x3 → zR x4 → yOk X b u → yZ d b Y c F0 S0 u S A0 → wc_Coder_table_21 Q  m A0 x2 x3 x4 → yG X d b (yQv X d b Y c F0 S0 mc ms Q) u 21 [some (.ref (gO' Y 5)), none, some (.int (zI x2)), some (.int (zI x3)), some (.int (zI x4))] [] := by
  intro m
  induction m with
  | zero => intro u S A0 x2 x3 x4 Rx2 Rx3 Rx4 ho hZ hw; exact False.elim hw
  | succ m ihm => intro u S A0 x2 x3 x4 Rx2 Rx3 Rx4 ho hZ hw; exact cb_Coder_table_21 hC hr  ihm Rx2 Rx3 Rx4 ho hZ hw
set_option maxHeartbeats 4000000 in
set_option maxRecDepth 100000 in
theorem cm_Coder_table (l : Launch) (d : gD) (b : Nat) {Y : gYt} {c : Nat × Nat} {F : gM} {k n : Nat} {S : gSt} {A0 : cS} {a0 : Int} (Ra0 : zR a0) {Q : cS → Prop} (hZ : yZ d b Y c F S (F, k, n) S A0) (hw : wc_Coder_table A0 a0 Q) : hMv l d b yX1_table cX1_table 5 629 k n F [.ref (gO' Y 5), .int (zI a0)] (yPv d b Y c F S Q) := by
  intro mc ms
  refine hM_of2 rfl (nL := 5) (Nat.le_of_ble_eq_true rfl) ?_
  intro X hX hC hr ho; subst hX
  show yG X d b (yQv X d b Y c F S mc ms Q) (F, k, n) 0 [some (.ref (gO' Y 5)), some (.int (zI a0)), none, none, none] []
  unfold wc_Coder_table at hw
  refine h_aload_n hC dX1_table_0 rfl ?_
  refine h_get hC fl_X1_65 (hZ.w.o 5 (by decide)) rfl dX1_table_1 ?_
  refine h_iload_n hC dX1_table_4 rfl ?_
  refine yr_callVi (As := [.int (zI a0)]) hC hr ho hZ rfl (hZ.w.o 2 (by decide)) (cm_Tree_data X.la d b Ra0 hZ.rs hw) cl_X1_129 rfl rfl (Nat.le_of_ble_eq_true rfl) (hFr_of (Nat.le_of_ble_eq_true rfl) (Nat.le_of_ble_eq_true rfl)) dX1_table_5 (fun r1 A2 u3 S4 R5 o6 hZ7 h8 => ?_)
  refine h_istore_n (lv' := [some (.ref (gO' Y 5)), some (.int (zI a0)), some (.int (zI r1)), none, none]) hC dX1_table_8 (Nat.le_of_ble_eq_true rfl) rfl rfl ?_
  refine h_aload_n hC dX1_table_9 rfl ?_
  refine h_get hC fl_X1_65 (hZ7.w.o 5 (by decide)) rfl dX1_table_10 ?_
  refine h_iload_n hC dX1_table_13 rfl ?_
  refine yr_callVi (As := [.int (zI a0)]) hC hr o6 hZ7 rfl (hZ7.w.o 2 (by decide)) (cm_Tree_first X.la d b Ra0 hZ7.rs h8) cl_X1_126 rfl rfl (Nat.le_of_ble_eq_true rfl) (hFr_of (Nat.le_of_ble_eq_true rfl) (Nat.le_of_ble_eq_true rfl)) dX1_table_14 (fun r9 A10 u11 S12 R13 o14 hZ15 h16 => ?_)
  refine h_istore_n (lv' := [some (.ref (gO' Y 5)), some (.int (zI a0)), some (.int (zI r1)), some (.int (zI r9)), none]) hC dX1_table_17 (Nat.le_of_ble_eq_true rfl) rfl rfl ?_
  refine h_iconst (v := zI 0) hC dX1_table_18 rfl ?_
  refine h_istore (lv' := [some (.ref (gO' Y 5)), some (.int (zI a0)), some (.int (zI r1)), some (.int (zI r9)), some (.int (zI 0))]) hC dX1_table_19 (Nat.le_of_ble_eq_true rfl) rfl rfl ?_
  refine h_lv (lv' := [some (.ref (gO' Y 5)), none, some (.int (zI r1)), some (.int (zI r9)), some (.int (zI 0))]) ⟨rfl, rfl, rfl, rfl, trivial⟩ ?_
  obtain ⟨m17, h18⟩ := h16
  exact cl_Coder_table_21 hC hr  m17 _ _ _ _ _ _ R5 R13 (by decide) o14 hZ15 h18
theorem dX1_sign_0 : decode cX1_sign 0 = .ok (.aload_n 0, 1) := by decide +kernel
theorem dX1_sign_1 : decode cX1_sign 1 = .ok (.getfield 65, 3) := by decide +kernel
theorem dX1_sign_4 : decode cX1_sign 4 = .ok (.iload_n 1, 1) := by decide +kernel
theorem dX1_sign_5 : decode cX1_sign 5 = .ok (.invokevirtual 129, 3) := by decide +kernel
theorem dX1_sign_8 : decode cX1_sign 8 = .ok (.istore_n 3, 1) := by decide +kernel
theorem dX1_sign_9 : decode cX1_sign 9 = .ok (.aload_n 0, 1) := by decide +kernel
theorem dX1_sign_10 : decode cX1_sign 10 = .ok (.getfield 65, 3) := by decide +kernel
theorem dX1_sign_13 : decode cX1_sign 13 = .ok (.iload_n 1, 1) := by decide +kernel
theorem dX1_sign_14 : decode cX1_sign 14 = .ok (.invokevirtual 132, 3) := by decide +kernel
theorem dX1_sign_17 : decode cX1_sign 17 = .ok (.ifCond .eq 14, 3) := by decide +kernel
theorem dX1_sign_20 : decode cX1_sign 20 = .ok (.aload_n 0, 1) := by decide +kernel
theorem dX1_sign_21 : decode cX1_sign 21 = .ok (.sipush 200, 3) := by decide +kernel
theorem dX1_sign_24 : decode cX1_sign 24 = .ok (.iload_n 3, 1) := by decide +kernel
theorem dX1_sign_25 : decode cX1_sign 25 = .ok (.iadd, 1) := by decide +kernel
theorem dX1_sign_26 : decode cX1_sign 26 = .ok (.iload_n 2, 1) := by decide +kernel
theorem dX1_sign_27 : decode cX1_sign 27 = .ok (.invokevirtual 181, 3) := by decide +kernel
theorem dX1_sign_30 : decode cX1_sign 30 = .ok (.ireturn, 1) := by decide +kernel
theorem dX1_sign_31 : decode cX1_sign 31 = .ok (.aload_n 0, 1) := by decide +kernel
theorem dX1_sign_32 : decode cX1_sign 32 = .ok (.bipush 100, 2) := by decide +kernel
theorem dX1_sign_34 : decode cX1_sign 34 = .ok (.iload_n 3, 1) := by decide +kernel
theorem dX1_sign_35 : decode cX1_sign 35 = .ok (.iadd, 1) := by decide +kernel
theorem dX1_sign_36 : decode cX1_sign 36 = .ok (.iconst 0, 1) := by decide +kernel
theorem dX1_sign_37 : decode cX1_sign 37 = .ok (.invokevirtual 181, 3) := by decide +kernel
theorem dX1_sign_40 : decode cX1_sign 40 = .ok (.pop, 1) := by decide +kernel
theorem dX1_sign_41 : decode cX1_sign 41 = .ok (.iload_n 3, 1) := by decide +kernel
theorem dX1_sign_42 : decode cX1_sign 42 = .ok (.invokestatic 304, 3) := by decide +kernel
theorem dX1_sign_45 : decode cX1_sign 45 = .ok (.ifCond .ne 5, 3) := by decide +kernel
theorem dX1_sign_48 : decode cX1_sign 48 = .ok (.iload_n 2, 1) := by decide +kernel
theorem dX1_sign_49 : decode cX1_sign 49 = .ok (.ireturn, 1) := by decide +kernel
theorem dX1_sign_50 : decode cX1_sign 50 = .ok (.aload_n 0, 1) := by decide +kernel
theorem dX1_sign_51 : decode cX1_sign 51 = .ok (.getfield 69, 3) := by decide +kernel
theorem dX1_sign_54 : decode cX1_sign 54 = .ok (.iload_n 2, 1) := by decide +kernel
theorem dX1_sign_55 : decode cX1_sign 55 = .ok (.invokevirtual 201, 3) := by decide +kernel
theorem dX1_sign_58 : decode cX1_sign 58 = .ok (.iconst 0, 1) := by decide +kernel
theorem dX1_sign_59 : decode cX1_sign 59 = .ok (.ireturn, 1) := by decide +kernel
def wc_Coder_sign (A0 : cS) (a0 : Int) (a1 : Int) (Q : Int → cS → Prop) : Prop :=
  wc_Tree_data A0 a0 (fun r1 A2 => wc_Tree_extra A2 a0 (fun r9 A10 => ((r9 = 0 → ∀ z19 : Int, z19 = zw (100 + r1) → zR z19 → wc_Coder_emit A10 z19 0 (fun r23 A24 => wc_W_isRelation A24 r1 (fun r31 A32 => ((¬ r31 = 0 → wc_Program_land A32 a1 (fun A42 => Q 0 A42)) ∧ (r31 = 0 → Q a1 A32))))) ∧ (¬ r9 = 0 → ∀ z51 : Int, z51 = zw (200 + r1) → zR z51 → wc_Coder_emit A10 z51 a1 (fun r55 A56 => Q r55 A56)))))
set_option maxHeartbeats 4000000 in
set_option maxRecDepth 100000 in
theorem cm_Coder_sign (l : Launch) (d : gD) (b : Nat) {Y : gYt} {c : Nat × Nat} {F : gM} {k n : Nat} {S : gSt} {A0 : cS} {a0 : Int} {a1 : Int} (Ra0 : zR a0) (Ra1 : zR a1) {Q : Int → cS → Prop} (hZ : yZ d b Y c F S (F, k, n) S A0) (hw : wc_Coder_sign A0 a0 a1 Q) : hMi l d b yX1_sign cX1_sign 4 .int 5 k n F [.ref (gO' Y 5), .int (zI a0), .int (zI a1)] (yPi d b Y c F S Q) := by
  intro mc ms
  refine hM_of2 rfl (nL := 4) (Nat.le_of_ble_eq_true rfl) ?_
  intro X hX hC hr ho; subst hX
  show yG X d b (yQi X d b Y c F S mc ms Q) (F, k, n) 0 [some (.ref (gO' Y 5)), some (.int (zI a0)), some (.int (zI a1)), none] []
  unfold wc_Coder_sign at hw
  refine h_aload_n hC dX1_sign_0 rfl ?_
  refine h_get hC fl_X1_65 (hZ.w.o 5 (by decide)) rfl dX1_sign_1 ?_
  refine h_iload_n hC dX1_sign_4 rfl ?_
  refine yr_callVi (As := [.int (zI a0)]) hC hr ho hZ rfl (hZ.w.o 2 (by decide)) (cm_Tree_data X.la d b Ra0 hZ.rs hw) cl_X1_129 rfl rfl (Nat.le_of_ble_eq_true rfl) (hFr_of (Nat.le_of_ble_eq_true rfl) (Nat.le_of_ble_eq_true rfl)) dX1_sign_5 (fun r1 A2 u3 S4 R5 o6 hZ7 h8 => ?_)
  refine h_istore_n (lv' := [some (.ref (gO' Y 5)), some (.int (zI a0)), some (.int (zI a1)), some (.int (zI r1))]) hC dX1_sign_8 (Nat.le_of_ble_eq_true rfl) rfl rfl ?_
  refine h_aload_n hC dX1_sign_9 rfl ?_
  refine h_get hC fl_X1_65 (hZ7.w.o 5 (by decide)) rfl dX1_sign_10 ?_
  refine h_iload_n hC dX1_sign_13 rfl ?_
  refine yr_callVi (As := [.int (zI a0)]) hC hr o6 hZ7 rfl (hZ7.w.o 2 (by decide)) (cm_Tree_extra X.la d b Ra0 hZ7.rs h8) cl_X1_132 rfl rfl (Nat.le_of_ble_eq_true rfl) (hFr_of (Nat.le_of_ble_eq_true rfl) (Nat.le_of_ble_eq_true rfl)) dX1_sign_14 (fun r9 A10 u11 S12 R13 o14 hZ15 h16 => ?_)
  refine yr_if_eq (tgt := 31) hC R13 dX1_sign_17 (by decide) (fun c17 => ?_) (fun c17 => ?_)
  · have h18 := h16.1 c17
    refine h_aload_n hC dX1_sign_31 rfl ?_
    refine h_bipush (v := zI 100) hC dX1_sign_32 rfl ?_
    refine h_iload_n hC dX1_sign_34 rfl ?_
    refine yr_iadd hC dX1_sign_35 ?_
    refine yr_w (fun z19 e20 R21 => ?_)
    have h22 := h18 z19 e20 R21
    refine h_iconst (v := zI 0) hC dX1_sign_36 rfl ?_
    refine yr_callVi (As := [.int (zI z19), .int (zI 0)]) hC hr o14 hZ15 rfl (hZ15.w.o 5 (by decide)) (cm_Coder_emit X.la d b R21 (by decide) hZ15.rs h22) cl_X1_181 rfl rfl (Nat.le_of_ble_eq_true rfl) (hFr_of (Nat.le_of_ble_eq_true rfl) (Nat.le_of_ble_eq_true rfl)) dX1_sign_37 (fun r23 A24 u25 S26 R27 o28 hZ29 h30 => ?_)
    refine h_pop hC dX1_sign_40 rfl ?_
    refine h_iload_n hC dX1_sign_41 rfl ?_
    refine yr_callSNi (As := [.int (zI r1)]) hC hr o28 hZ29 (cm_W_isRelation X.la d b R5 hZ29.rs h30) cl_X1_304 rfl rfl (Nat.le_of_ble_eq_true rfl) (hFr_of (Nat.le_of_ble_eq_true rfl) (Nat.le_of_ble_eq_true rfl)) dX1_sign_42 (fun r31 A32 u33 S34 R35 o36 hZ37 h38 => ?_)
    refine yr_if_ne (tgt := 50) hC R35 dX1_sign_45 (by decide) (fun c39 => ?_) (fun c39 => ?_)
    · have h40 := h38.1 c39
      refine h_aload_n hC dX1_sign_50 rfl ?_
      refine h_get hC fl_X1_69 (hZ37.w.o 5 (by decide)) rfl dX1_sign_51 ?_
      refine h_iload_n hC dX1_sign_54 rfl ?_
      refine yr_callVv (As := [.int (zI a1)]) hC hr o36 hZ37 rfl (hZ37.w.o 1 (by decide)) (cm_Program_land X.la d b Ra1 hZ37.rs h40) cl_X1_201 rfl rfl (Nat.le_of_ble_eq_true rfl) (hFr_of (Nat.le_of_ble_eq_true rfl) (Nat.le_of_ble_eq_true rfl)) dX1_sign_55 (fun A42 u43 S44 o46 hZ47 h48 => ?_)
      refine h_iconst (v := zI 0) hC dX1_sign_58 rfl ?_
      exact yr_iret hC hr o46 hZ47 (by decide) h48 dX1_sign_59
    · have h49 := h38.2 c39
      refine h_iload_n hC dX1_sign_48 rfl ?_
      exact yr_iret hC hr o36 hZ37 Ra1 h49 dX1_sign_49
  · have h50 := h16.2 c17
    refine h_aload_n hC dX1_sign_20 rfl ?_
    refine h_sipush (v := zI 200) hC dX1_sign_21 rfl ?_
    refine h_iload_n hC dX1_sign_24 rfl ?_
    refine yr_iadd hC dX1_sign_25 ?_
    refine yr_w (fun z51 e52 R53 => ?_)
    have h54 := h50 z51 e52 R53
    refine h_iload_n hC dX1_sign_26 rfl ?_
    refine yr_callVi (As := [.int (zI z51), .int (zI a1)]) hC hr o14 hZ15 rfl (hZ15.w.o 5 (by decide)) (cm_Coder_emit X.la d b R53 Ra1 hZ15.rs h54) cl_X1_181 rfl rfl (Nat.le_of_ble_eq_true rfl) (hFr_of (Nat.le_of_ble_eq_true rfl) (Nat.le_of_ble_eq_true rfl)) dX1_sign_27 (fun r55 A56 u57 S58 R59 o60 hZ61 h62 => ?_)
    exact yr_iret hC hr o60 hZ61 R59 h62 dX1_sign_30
theorem dX1_name_0 : decode cX1_name 0 = .ok (.aload_n 0, 1) := by decide +kernel
theorem dX1_name_1 : decode cX1_name 1 = .ok (.getfield 78, 3) := by decide +kernel
theorem dX1_name_4 : decode cX1_name 4 = .ok (.aload_n 0, 1) := by decide +kernel
theorem dX1_name_5 : decode cX1_name 5 = .ok (.getfield 65, 3) := by decide +kernel
theorem dX1_name_8 : decode cX1_name 8 = .ok (.iload_n 1, 1) := by decide +kernel
theorem dX1_name_9 : decode cX1_name 9 = .ok (.invokevirtual 129, 3) := by decide +kernel
theorem dX1_name_12 : decode cX1_name 12 = .ok (.invokevirtual 165, 3) := by decide +kernel
theorem dX1_name_15 : decode cX1_name 15 = .ok (.istore 4, 2) := by decide +kernel
theorem dX1_name_17 : decode cX1_name 17 = .ok (.iload 4, 2) := by decide +kernel
theorem dX1_name_19 : decode cX1_name 19 = .ok (.ifCond .ge 20, 3) := by decide +kernel
theorem dX1_name_22 : decode cX1_name 22 = .ok (.aload_n 0, 1) := by decide +kernel
theorem dX1_name_23 : decode cX1_name 23 = .ok (.getfield 69, 3) := by decide +kernel
theorem dX1_name_26 : decode cX1_name 26 = .ok (.iconst 3, 1) := by decide +kernel
theorem dX1_name_27 : decode cX1_name 27 = .ok (.aload_n 0, 1) := by decide +kernel
theorem dX1_name_28 : decode cX1_name 28 = .ok (.getfield 65, 3) := by decide +kernel
theorem dX1_name_31 : decode cX1_name 31 = .ok (.iload_n 1, 1) := by decide +kernel
theorem dX1_name_32 : decode cX1_name 32 = .ok (.invokevirtual 135, 3) := by decide +kernel
theorem dX1_name_35 : decode cX1_name 35 = .ok (.invokevirtual 177, 3) := by decide +kernel
theorem dX1_name_38 : decode cX1_name 38 = .ok (.return_, 1) := by decide +kernel
theorem dX1_name_39 : decode cX1_name 39 = .ok (.aload_n 0, 1) := by decide +kernel
theorem dX1_name_40 : decode cX1_name 40 = .ok (.getfield 78, 3) := by decide +kernel
theorem dX1_name_43 : decode cX1_name 43 = .ok (.iload 4, 2) := by decide +kernel
theorem dX1_name_45 : decode cX1_name 45 = .ok (.invokevirtual 180, 3) := by decide +kernel
theorem dX1_name_48 : decode cX1_name 48 = .ok (.istore 5, 2) := by decide +kernel
theorem dX1_name_50 : decode cX1_name 50 = .ok (.aload_n 0, 1) := by decide +kernel
theorem dX1_name_51 : decode cX1_name 51 = .ok (.getfield 78, 3) := by decide +kernel
theorem dX1_name_54 : decode cX1_name 54 = .ok (.iload 4, 2) := by decide +kernel
theorem dX1_name_56 : decode cX1_name 56 = .ok (.invokevirtual 279, 3) := by decide +kernel
theorem dX1_name_59 : decode cX1_name 59 = .ok (.tableswitch 121 1 3 #[25, 44, 95], 25) := by decide +kernel
theorem dX1_name_84 : decode cX1_name 84 = .ok (.aload_n 0, 1) := by decide +kernel
theorem dX1_name_85 : decode cX1_name 85 = .ok (.iload_n 2, 1) := by decide +kernel
theorem dX1_name_86 : decode cX1_name 86 = .ok (.ifCond .ne 7, 3) := by decide +kernel
theorem dX1_name_89 : decode cX1_name 89 = .ok (.iconst 3, 1) := by decide +kernel
theorem dX1_name_90 : decode cX1_name 90 = .ok (.goto 4, 3) := by decide +kernel
theorem dX1_name_93 : decode cX1_name 93 = .ok (.iconst 1, 1) := by decide +kernel
theorem dX1_name_94 : decode cX1_name 94 = .ok (.iload 5, 2) := by decide +kernel
theorem dX1_name_96 : decode cX1_name 96 = .ok (.invokevirtual 181, 3) := by decide +kernel
theorem dX1_name_99 : decode cX1_name 99 = .ok (.pop, 1) := by decide +kernel
theorem dX1_name_100 : decode cX1_name 100 = .ok (.goto 94, 3) := by decide +kernel
theorem dX1_name_103 : decode cX1_name 103 = .ok (.aload_n 0, 1) := by decide +kernel
theorem dX1_name_104 : decode cX1_name 104 = .ok (.iload_n 2, 1) := by decide +kernel
theorem dX1_name_105 : decode cX1_name 105 = .ok (.ifCond .ne 7, 3) := by decide +kernel
theorem dX1_name_108 : decode cX1_name 108 = .ok (.iconst 2, 1) := by decide +kernel
theorem dX1_name_109 : decode cX1_name 109 = .ok (.goto 4, 3) := by decide +kernel
theorem dX1_name_112 : decode cX1_name 112 = .ok (.iconst 4, 1) := by decide +kernel
theorem dX1_name_113 : decode cX1_name 113 = .ok (.iload 5, 2) := by decide +kernel
theorem dX1_name_115 : decode cX1_name 115 = .ok (.invokevirtual 181, 3) := by decide +kernel
theorem dX1_name_118 : decode cX1_name 118 = .ok (.pop, 1) := by decide +kernel
theorem dX1_name_119 : decode cX1_name 119 = .ok (.aload_n 0, 1) := by decide +kernel
theorem dX1_name_120 : decode cX1_name 120 = .ok (.getfield 78, 3) := by decide +kernel
theorem dX1_name_123 : decode cX1_name 123 = .ok (.iload 4, 2) := by decide +kernel
theorem dX1_name_125 : decode cX1_name 125 = .ok (.invokevirtual 168, 3) := by decide +kernel
theorem dX1_name_128 : decode cX1_name 128 = .ok (.aload_n 0, 1) := by decide +kernel
theorem dX1_name_129 : decode cX1_name 129 = .ok (.getfield 52, 3) := by decide +kernel
theorem dX1_name_132 : decode cX1_name 132 = .ok (.if_icmp .eq 62, 3) := by decide +kernel
theorem dX1_name_135 : decode cX1_name 135 = .ok (.aload_n 0, 1) := by decide +kernel
theorem dX1_name_136 : decode cX1_name 136 = .ok (.getfield 69, 3) := by decide +kernel
theorem dX1_name_139 : decode cX1_name 139 = .ok (.iconst 5, 1) := by decide +kernel
theorem dX1_name_140 : decode cX1_name 140 = .ok (.aload_n 0, 1) := by decide +kernel
theorem dX1_name_141 : decode cX1_name 141 = .ok (.getfield 65, 3) := by decide +kernel
theorem dX1_name_144 : decode cX1_name 144 = .ok (.iload_n 1, 1) := by decide +kernel
theorem dX1_name_145 : decode cX1_name 145 = .ok (.invokevirtual 135, 3) := by decide +kernel
theorem dX1_name_148 : decode cX1_name 148 = .ok (.invokevirtual 177, 3) := by decide +kernel
theorem dX1_name_151 : decode cX1_name 151 = .ok (.goto 43, 3) := by decide +kernel
theorem dX1_name_154 : decode cX1_name 154 = .ok (.aload_n 0, 1) := by decide +kernel
theorem dX1_name_155 : decode cX1_name 155 = .ok (.getfield 69, 3) := by decide +kernel
theorem dX1_name_158 : decode cX1_name 158 = .ok (.bipush 6, 2) := by decide +kernel
theorem dX1_name_160 : decode cX1_name 160 = .ok (.aload_n 0, 1) := by decide +kernel
theorem dX1_name_161 : decode cX1_name 161 = .ok (.getfield 65, 3) := by decide +kernel
theorem dX1_name_164 : decode cX1_name 164 = .ok (.iload_n 1, 1) := by decide +kernel
theorem dX1_name_165 : decode cX1_name 165 = .ok (.invokevirtual 135, 3) := by decide +kernel
theorem dX1_name_168 : decode cX1_name 168 = .ok (.invokevirtual 177, 3) := by decide +kernel
theorem dX1_name_171 : decode cX1_name 171 = .ok (.aload_n 0, 1) := by decide +kernel
theorem dX1_name_172 : decode cX1_name 172 = .ok (.iload_n 2, 1) := by decide +kernel
theorem dX1_name_173 : decode cX1_name 173 = .ok (.iload_n 3, 1) := by decide +kernel
theorem dX1_name_174 : decode cX1_name 174 = .ok (.invokevirtual 283, 3) := by decide +kernel
theorem dX1_name_177 : decode cX1_name 177 = .ok (.goto 17, 3) := by decide +kernel
theorem dX1_name_180 : decode cX1_name 180 = .ok (.aload_n 0, 1) := by decide +kernel
theorem dX1_name_181 : decode cX1_name 181 = .ok (.iconst 1, 1) := by decide +kernel
theorem dX1_name_182 : decode cX1_name 182 = .ok (.iload 5, 2) := by decide +kernel
theorem dX1_name_184 : decode cX1_name 184 = .ok (.invokevirtual 181, 3) := by decide +kernel
theorem dX1_name_187 : decode cX1_name 187 = .ok (.pop, 1) := by decide +kernel
theorem dX1_name_188 : decode cX1_name 188 = .ok (.aload_n 0, 1) := by decide +kernel
theorem dX1_name_189 : decode cX1_name 189 = .ok (.iload_n 2, 1) := by decide +kernel
theorem dX1_name_190 : decode cX1_name 190 = .ok (.iload_n 3, 1) := by decide +kernel
theorem dX1_name_191 : decode cX1_name 191 = .ok (.invokevirtual 283, 3) := by decide +kernel
theorem dX1_name_194 : decode cX1_name 194 = .ok (.return_, 1) := by decide +kernel
def wc_Coder_name (A0 : cS) (a0 : Int) (a1 : Int) (a2 : Int) (Q : cS → Prop) : Prop :=
  wc_Tree_data A0 a0 (fun r1 A2 => wc_Scope_find A2 r1 (fun r9 A10 => ((0 ≤ r9 → wc_Scope_data A10 r9 (fun r19 A20 => wc_Scope_kind A20 r9 (fun r27 A28 => (((r27 = 1) → ((¬ a1 = 0 → wc_Coder_emit A28 1 r19 (fun r40 A41 => Q A41)) ∧ (a1 = 0 → wc_Coder_emit A28 3 r19 (fun r49 A50 => Q A50)))) ∧ ((r27 = 2) → ((¬ a1 = 0 → wc_Coder_emit A28 4 r19 (fun r62 A63 => wc_Scope_owner A63 r9 (fun r70 A71 => ((r70 = (yv A71 21) → Q A71) ∧ (¬ r70 = (yv A71 21) → wc_Tree_place A71 a0 (fun r81 A82 => wc_Program_blame A82 5 r81 (fun A90 => Q A90))))))) ∧ (a1 = 0 → wc_Coder_emit A28 2 r19 (fun r98 A99 => wc_Scope_owner A99 r9 (fun r106 A107 => ((r106 = (yv A107 21) → Q A107) ∧ (¬ r106 = (yv A107 21) → wc_Tree_place A107 a0 (fun r117 A118 => wc_Program_blame A118 5 r117 (fun A126 => Q A126))))))))) ∧ ((r27 = 3) → wc_Tree_place A28 a0 (fun r136 A137 => wc_Program_blame A137 6 r136 (fun A145 => wc_Coder_unfit A145 a1 a2 (fun A153 => Q A153)))) ∧ (¬ (r27 = 1) → ¬ (r27 = 2) → ¬ (r27 = 3) → wc_Coder_emit A28 1 r19 (fun r161 A162 => wc_Coder_unfit A162 a1 a2 (fun A170 => Q A170))))))) ∧ (¬ 0 ≤ r9 → wc_Tree_place A10 a0 (fun r178 A179 => wc_Program_blame A179 3 r178 (fun A187 => Q A187))))))
set_option maxHeartbeats 4000000 in
set_option maxRecDepth 100000 in
theorem cm_Coder_name (l : Launch) (d : gD) (b : Nat) {Y : gYt} {c : Nat × Nat} {F : gM} {k n : Nat} {S : gSt} {A0 : cS} {a0 : Int} {a1 : Int} {a2 : Int} (Ra0 : zR a0) (Ra1 : zR a1) (Ra2 : zR a2) {Q : cS → Prop} (hZ : yZ d b Y c F S (F, k, n) S A0) (hw : wc_Coder_name A0 a0 a1 a2 Q) : hMv l d b yX1_name cX1_name 6 5 k n F [.ref (gO' Y 5), .int (zI a0), .int (zI a1), .int (zI a2)] (yPv d b Y c F S Q) := by
  intro mc ms
  refine hM_of2 rfl (nL := 6) (Nat.le_of_ble_eq_true rfl) ?_
  intro X hX hC hr ho; subst hX
  show yG X d b (yQv X d b Y c F S mc ms Q) (F, k, n) 0 [some (.ref (gO' Y 5)), some (.int (zI a0)), some (.int (zI a1)), some (.int (zI a2)), none, none] []
  unfold wc_Coder_name at hw
  refine h_aload_n hC dX1_name_0 rfl ?_
  refine h_get hC fl_X1_78 (hZ.w.o 5 (by decide)) rfl dX1_name_1 ?_
  refine h_aload_n hC dX1_name_4 rfl ?_
  refine h_get hC fl_X1_65 (hZ.w.o 5 (by decide)) rfl dX1_name_5 ?_
  refine h_iload_n hC dX1_name_8 rfl ?_
  refine yr_callVi (As := [.int (zI a0)]) hC hr ho hZ rfl (hZ.w.o 2 (by decide)) (cm_Tree_data X.la d b Ra0 hZ.rs hw) cl_X1_129 rfl rfl (Nat.le_of_ble_eq_true rfl) (hFr_of (Nat.le_of_ble_eq_true rfl) (Nat.le_of_ble_eq_true rfl)) dX1_name_9 (fun r1 A2 u3 S4 R5 o6 hZ7 h8 => ?_)
  refine yr_callVi (As := [.int (zI r1)]) hC hr o6 hZ7 rfl (hZ7.w.o 8 (by decide)) (cm_Scope_find X.la d b R5 hZ7.rs h8) cl_X1_165 rfl rfl (Nat.le_of_ble_eq_true rfl) (hFr_of (Nat.le_of_ble_eq_true rfl) (Nat.le_of_ble_eq_true rfl)) dX1_name_12 (fun r9 A10 u11 S12 R13 o14 hZ15 h16 => ?_)
  refine h_istore (lv' := [some (.ref (gO' Y 5)), some (.int (zI a0)), some (.int (zI a1)), some (.int (zI a2)), some (.int (zI r9)), none]) hC dX1_name_15 (Nat.le_of_ble_eq_true rfl) rfl rfl ?_
  refine h_iload hC dX1_name_17 rfl ?_
  refine yr_if_ge (tgt := 39) hC R13 dX1_name_19 (by decide) (fun c17 => ?_) (fun c17 => ?_)
  · have h18 := h16.1 c17
    refine h_aload_n hC dX1_name_39 rfl ?_
    refine h_get hC fl_X1_78 (hZ15.w.o 5 (by decide)) rfl dX1_name_40 ?_
    refine h_iload hC dX1_name_43 rfl ?_
    refine yr_callVi (As := [.int (zI r9)]) hC hr o14 hZ15 rfl (hZ15.w.o 8 (by decide)) (cm_Scope_data X.la d b R13 hZ15.rs h18) cl_X1_180 rfl rfl (Nat.le_of_ble_eq_true rfl) (hFr_of (Nat.le_of_ble_eq_true rfl) (Nat.le_of_ble_eq_true rfl)) dX1_name_45 (fun r19 A20 u21 S22 R23 o24 hZ25 h26 => ?_)
    refine h_istore (lv' := [some (.ref (gO' Y 5)), some (.int (zI a0)), some (.int (zI a1)), some (.int (zI a2)), some (.int (zI r9)), some (.int (zI r19))]) hC dX1_name_48 (Nat.le_of_ble_eq_true rfl) rfl rfl ?_
    refine h_aload_n hC dX1_name_50 rfl ?_
    refine h_get hC fl_X1_78 (hZ25.w.o 5 (by decide)) rfl dX1_name_51 ?_
    refine h_iload hC dX1_name_54 rfl ?_
    refine yr_callVi (As := [.int (zI r9)]) hC hr o24 hZ25 rfl (hZ25.w.o 8 (by decide)) (cm_Scope_kind X.la d b R13 hZ25.rs h26) cl_X1_279 rfl rfl (Nat.le_of_ble_eq_true rfl) (hFr_of (Nat.le_of_ble_eq_true rfl) (Nat.le_of_ble_eq_true rfl)) dX1_name_56 (fun r27 A28 u29 S30 R31 o32 hZ33 h34 => ?_)
    by_cases g35 : r27 = 1
    · have h37 := (h34.1) g35
      have T36 : yG X d b (yQv X d b Y c F S mc ms Q) u29 84 [some (.ref (gO' Y 5)), some (.int (zI a0)), some (.int (zI a1)), some (.int (zI a2)), some (.int (zI r9)), some (.int (zI r19))] [] := by
        refine h_aload_n hC dX1_name_84 rfl ?_
        refine h_iload_n hC dX1_name_85 rfl ?_
        refine yr_if_ne (tgt := 93) hC Ra1 dX1_name_86 (by decide) (fun c38 => ?_) (fun c38 => ?_)
        · have h39 := h37.1 c38
          refine h_iconst (v := zI 1) hC dX1_name_93 rfl ?_
          refine h_iload hC dX1_name_94 rfl ?_
          refine yr_callVi (As := [.int (zI 1), .int (zI r19)]) hC hr o32 hZ33 rfl (hZ33.w.o 5 (by decide)) (cm_Coder_emit X.la d b (by decide) R23 hZ33.rs h39) cl_X1_181 rfl rfl (Nat.le_of_ble_eq_true rfl) (hFr_of (Nat.le_of_ble_eq_true rfl) (Nat.le_of_ble_eq_true rfl)) dX1_name_96 (fun r40 A41 u42 S43 R44 o45 hZ46 h47 => ?_)
          refine h_pop hC dX1_name_99 rfl ?_
          refine h_goto (tgt := 194) hC dX1_name_100 (by decide) ?_
          exact yr_vret hC hr o45 hZ46 h47 dX1_name_194
        · have h48 := h37.2 c38
          refine h_iconst (v := zI 3) hC dX1_name_89 rfl ?_
          refine h_goto (tgt := 94) hC dX1_name_90 (by decide) ?_
          refine h_iload hC dX1_name_94 rfl ?_
          refine yr_callVi (As := [.int (zI 3), .int (zI r19)]) hC hr o32 hZ33 rfl (hZ33.w.o 5 (by decide)) (cm_Coder_emit X.la d b (by decide) R23 hZ33.rs h48) cl_X1_181 rfl rfl (Nat.le_of_ble_eq_true rfl) (hFr_of (Nat.le_of_ble_eq_true rfl) (Nat.le_of_ble_eq_true rfl)) dX1_name_96 (fun r49 A50 u51 S52 R53 o54 hZ55 h56 => ?_)
          refine h_pop hC dX1_name_99 rfl ?_
          refine h_goto (tgt := 194) hC dX1_name_100 (by decide) ?_
          exact yr_vret hC hr o54 hZ55 h56 dX1_name_194
      clear h37
      exact yr_tabAt (v := 1) hC dX1_name_59 R31 g35 (by decide) (by decide) rfl (by decide) T36
    · skip
      by_cases g57 : r27 = 2
      · have h59 := (h34.2.1) g57
        have T58 : yG X d b (yQv X d b Y c F S mc ms Q) u29 103 [some (.ref (gO' Y 5)), some (.int (zI a0)), some (.int (zI a1)), some (.int (zI a2)), some (.int (zI r9)), some (.int (zI r19))] [] := by
          refine h_aload_n hC dX1_name_103 rfl ?_
          refine h_iload_n hC dX1_name_104 rfl ?_
          refine yr_if_ne (tgt := 112) hC Ra1 dX1_name_105 (by decide) (fun c60 => ?_) (fun c60 => ?_)
          · have h61 := h59.1 c60
            refine h_iconst (v := zI 4) hC dX1_name_112 rfl ?_
            refine h_iload hC dX1_name_113 rfl ?_
            refine yr_callVi (As := [.int (zI 4), .int (zI r19)]) hC hr o32 hZ33 rfl (hZ33.w.o 5 (by decide)) (cm_Coder_emit X.la d b (by decide) R23 hZ33.rs h61) cl_X1_181 rfl rfl (Nat.le_of_ble_eq_true rfl) (hFr_of (Nat.le_of_ble_eq_true rfl) (Nat.le_of_ble_eq_true rfl)) dX1_name_115 (fun r62 A63 u64 S65 R66 o67 hZ68 h69 => ?_)
            refine h_pop hC dX1_name_118 rfl ?_
            refine h_aload_n hC dX1_name_119 rfl ?_
            refine h_get hC fl_X1_78 (hZ68.w.o 5 (by decide)) rfl dX1_name_120 ?_
            refine h_iload hC dX1_name_123 rfl ?_
            refine yr_callVi (As := [.int (zI r9)]) hC hr o67 hZ68 rfl (hZ68.w.o 8 (by decide)) (cm_Scope_owner X.la d b R13 hZ68.rs h69) cl_X1_168 rfl rfl (Nat.le_of_ble_eq_true rfl) (hFr_of (Nat.le_of_ble_eq_true rfl) (Nat.le_of_ble_eq_true rfl)) dX1_name_125 (fun r70 A71 u72 S73 R74 o75 hZ76 h77 => ?_)
            refine h_aload_n hC dX1_name_128 rfl ?_
            refine h_get hC fl_X1_52 (hZ76.w.o 5 (by decide)) rfl dX1_name_129 ?_
            refine yr_sv (e := (yv A71 21)) hZ76 21 rfl ?_
            refine yr_icmp_eq (tgt := 194) hC R74 (hZ76.rv 21) dX1_name_132 (by decide) (fun c78 => ?_) (fun c78 => ?_)
            · have h79 := h77.1 c78
              exact yr_vret hC hr o75 hZ76 h79 dX1_name_194
            · have h80 := h77.2 c78
              refine h_aload_n hC dX1_name_135 rfl ?_
              refine h_get hC fl_X1_69 (hZ76.w.o 5 (by decide)) rfl dX1_name_136 ?_
              refine h_iconst (v := zI 5) hC dX1_name_139 rfl ?_
              refine h_aload_n hC dX1_name_140 rfl ?_
              refine h_get hC fl_X1_65 (hZ76.w.o 5 (by decide)) rfl dX1_name_141 ?_
              refine h_iload_n hC dX1_name_144 rfl ?_
              refine yr_callVi (As := [.int (zI a0)]) hC hr o75 hZ76 rfl (hZ76.w.o 2 (by decide)) (cm_Tree_place X.la d b Ra0 hZ76.rs h80) cl_X1_135 rfl rfl (Nat.le_of_ble_eq_true rfl) (hFr_of (Nat.le_of_ble_eq_true rfl) (Nat.le_of_ble_eq_true rfl)) dX1_name_145 (fun r81 A82 u83 S84 R85 o86 hZ87 h88 => ?_)
              refine yr_callVv (As := [.int (zI 5), .int (zI r81)]) hC hr o86 hZ87 rfl (hZ87.w.o 1 (by decide)) (cm_Program_blame X.la d b (by decide) R85 hZ87.rs h88) cl_X1_177 rfl rfl (Nat.le_of_ble_eq_true rfl) (hFr_of (Nat.le_of_ble_eq_true rfl) (Nat.le_of_ble_eq_true rfl)) dX1_name_148 (fun A90 u91 S92 o94 hZ95 h96 => ?_)
              refine h_goto (tgt := 194) hC dX1_name_151 (by decide) ?_
              exact yr_vret hC hr o94 hZ95 h96 dX1_name_194
          · have h97 := h59.2 c60
            refine h_iconst (v := zI 2) hC dX1_name_108 rfl ?_
            refine h_goto (tgt := 113) hC dX1_name_109 (by decide) ?_
            refine h_iload hC dX1_name_113 rfl ?_
            refine yr_callVi (As := [.int (zI 2), .int (zI r19)]) hC hr o32 hZ33 rfl (hZ33.w.o 5 (by decide)) (cm_Coder_emit X.la d b (by decide) R23 hZ33.rs h97) cl_X1_181 rfl rfl (Nat.le_of_ble_eq_true rfl) (hFr_of (Nat.le_of_ble_eq_true rfl) (Nat.le_of_ble_eq_true rfl)) dX1_name_115 (fun r98 A99 u100 S101 R102 o103 hZ104 h105 => ?_)
            refine h_pop hC dX1_name_118 rfl ?_
            refine h_aload_n hC dX1_name_119 rfl ?_
            refine h_get hC fl_X1_78 (hZ104.w.o 5 (by decide)) rfl dX1_name_120 ?_
            refine h_iload hC dX1_name_123 rfl ?_
            refine yr_callVi (As := [.int (zI r9)]) hC hr o103 hZ104 rfl (hZ104.w.o 8 (by decide)) (cm_Scope_owner X.la d b R13 hZ104.rs h105) cl_X1_168 rfl rfl (Nat.le_of_ble_eq_true rfl) (hFr_of (Nat.le_of_ble_eq_true rfl) (Nat.le_of_ble_eq_true rfl)) dX1_name_125 (fun r106 A107 u108 S109 R110 o111 hZ112 h113 => ?_)
            refine h_aload_n hC dX1_name_128 rfl ?_
            refine h_get hC fl_X1_52 (hZ112.w.o 5 (by decide)) rfl dX1_name_129 ?_
            refine yr_sv (e := (yv A107 21)) hZ112 21 rfl ?_
            refine yr_icmp_eq (tgt := 194) hC R110 (hZ112.rv 21) dX1_name_132 (by decide) (fun c114 => ?_) (fun c114 => ?_)
            · have h115 := h113.1 c114
              exact yr_vret hC hr o111 hZ112 h115 dX1_name_194
            · have h116 := h113.2 c114
              refine h_aload_n hC dX1_name_135 rfl ?_
              refine h_get hC fl_X1_69 (hZ112.w.o 5 (by decide)) rfl dX1_name_136 ?_
              refine h_iconst (v := zI 5) hC dX1_name_139 rfl ?_
              refine h_aload_n hC dX1_name_140 rfl ?_
              refine h_get hC fl_X1_65 (hZ112.w.o 5 (by decide)) rfl dX1_name_141 ?_
              refine h_iload_n hC dX1_name_144 rfl ?_
              refine yr_callVi (As := [.int (zI a0)]) hC hr o111 hZ112 rfl (hZ112.w.o 2 (by decide)) (cm_Tree_place X.la d b Ra0 hZ112.rs h116) cl_X1_135 rfl rfl (Nat.le_of_ble_eq_true rfl) (hFr_of (Nat.le_of_ble_eq_true rfl) (Nat.le_of_ble_eq_true rfl)) dX1_name_145 (fun r117 A118 u119 S120 R121 o122 hZ123 h124 => ?_)
              refine yr_callVv (As := [.int (zI 5), .int (zI r117)]) hC hr o122 hZ123 rfl (hZ123.w.o 1 (by decide)) (cm_Program_blame X.la d b (by decide) R121 hZ123.rs h124) cl_X1_177 rfl rfl (Nat.le_of_ble_eq_true rfl) (hFr_of (Nat.le_of_ble_eq_true rfl) (Nat.le_of_ble_eq_true rfl)) dX1_name_148 (fun A126 u127 S128 o130 hZ131 h132 => ?_)
              refine h_goto (tgt := 194) hC dX1_name_151 (by decide) ?_
              exact yr_vret hC hr o130 hZ131 h132 dX1_name_194
        clear h59
        exact yr_tabAt (v := 2) hC dX1_name_59 R31 g57 (by decide) (by decide) rfl (by decide) T58
      · skip
        by_cases g133 : r27 = 3
        · have h135 := (h34.2.2.1) g133
          have T134 : yG X d b (yQv X d b Y c F S mc ms Q) u29 154 [some (.ref (gO' Y 5)), some (.int (zI a0)), some (.int (zI a1)), some (.int (zI a2)), some (.int (zI r9)), some (.int (zI r19))] [] := by
            refine h_aload_n hC dX1_name_154 rfl ?_
            refine h_get hC fl_X1_69 (hZ33.w.o 5 (by decide)) rfl dX1_name_155 ?_
            refine h_bipush (v := zI 6) hC dX1_name_158 rfl ?_
            refine h_aload_n hC dX1_name_160 rfl ?_
            refine h_get hC fl_X1_65 (hZ33.w.o 5 (by decide)) rfl dX1_name_161 ?_
            refine h_iload_n hC dX1_name_164 rfl ?_
            refine yr_callVi (As := [.int (zI a0)]) hC hr o32 hZ33 rfl (hZ33.w.o 2 (by decide)) (cm_Tree_place X.la d b Ra0 hZ33.rs h135) cl_X1_135 rfl rfl (Nat.le_of_ble_eq_true rfl) (hFr_of (Nat.le_of_ble_eq_true rfl) (Nat.le_of_ble_eq_true rfl)) dX1_name_165 (fun r136 A137 u138 S139 R140 o141 hZ142 h143 => ?_)
            refine yr_callVv (As := [.int (zI 6), .int (zI r136)]) hC hr o141 hZ142 rfl (hZ142.w.o 1 (by decide)) (cm_Program_blame X.la d b (by decide) R140 hZ142.rs h143) cl_X1_177 rfl rfl (Nat.le_of_ble_eq_true rfl) (hFr_of (Nat.le_of_ble_eq_true rfl) (Nat.le_of_ble_eq_true rfl)) dX1_name_168 (fun A145 u146 S147 o149 hZ150 h151 => ?_)
            refine h_aload_n hC dX1_name_171 rfl ?_
            refine h_iload_n hC dX1_name_172 rfl ?_
            refine h_iload_n hC dX1_name_173 rfl ?_
            refine yr_callVv (As := [.int (zI a1), .int (zI a2)]) hC hr o149 hZ150 rfl (hZ150.w.o 5 (by decide)) (cm_Coder_unfit X.la d b Ra1 Ra2 hZ150.rs h151) cl_X1_283 rfl rfl (Nat.le_of_ble_eq_true rfl) (hFr_of (Nat.le_of_ble_eq_true rfl) (Nat.le_of_ble_eq_true rfl)) dX1_name_174 (fun A153 u154 S155 o157 hZ158 h159 => ?_)
            refine h_goto (tgt := 194) hC dX1_name_177 (by decide) ?_
            exact yr_vret hC hr o157 hZ158 h159 dX1_name_194
          clear h135
          exact yr_tabAt (v := 3) hC dX1_name_59 R31 g133 (by decide) (by decide) rfl (by decide) T134
        · skip
          have h160 := h34.2.2.2 g35 g57 g133
          refine yr_tabD (tgt := 180) [1, 2, 3] hC dX1_name_59 R31 (by decide) (by decide) (List.forall_mem_cons.mpr ⟨(fun q => g35 (q)), List.forall_mem_cons.mpr ⟨(fun q => g57 (q)), List.forall_mem_cons.mpr ⟨(fun q => g133 (q)), fun q hq => absurd hq List.not_mem_nil⟩⟩⟩) (by decide) ?_
          refine h_aload_n hC dX1_name_180 rfl ?_
          refine h_iconst (v := zI 1) hC dX1_name_181 rfl ?_
          refine h_iload hC dX1_name_182 rfl ?_
          refine yr_callVi (As := [.int (zI 1), .int (zI r19)]) hC hr o32 hZ33 rfl (hZ33.w.o 5 (by decide)) (cm_Coder_emit X.la d b (by decide) R23 hZ33.rs h160) cl_X1_181 rfl rfl (Nat.le_of_ble_eq_true rfl) (hFr_of (Nat.le_of_ble_eq_true rfl) (Nat.le_of_ble_eq_true rfl)) dX1_name_184 (fun r161 A162 u163 S164 R165 o166 hZ167 h168 => ?_)
          refine h_pop hC dX1_name_187 rfl ?_
          refine h_aload_n hC dX1_name_188 rfl ?_
          refine h_iload_n hC dX1_name_189 rfl ?_
          refine h_iload_n hC dX1_name_190 rfl ?_
          refine yr_callVv (As := [.int (zI a1), .int (zI a2)]) hC hr o166 hZ167 rfl (hZ167.w.o 5 (by decide)) (cm_Coder_unfit X.la d b Ra1 Ra2 hZ167.rs h168) cl_X1_283 rfl rfl (Nat.le_of_ble_eq_true rfl) (hFr_of (Nat.le_of_ble_eq_true rfl) (Nat.le_of_ble_eq_true rfl)) dX1_name_191 (fun A170 u171 S172 o174 hZ175 h176 => ?_)
          exact yr_vret hC hr o174 hZ175 h176 dX1_name_194
  · have h177 := h16.2 c17
    refine h_aload_n hC dX1_name_22 rfl ?_
    refine h_get hC fl_X1_69 (hZ15.w.o 5 (by decide)) rfl dX1_name_23 ?_
    refine h_iconst (v := zI 3) hC dX1_name_26 rfl ?_
    refine h_aload_n hC dX1_name_27 rfl ?_
    refine h_get hC fl_X1_65 (hZ15.w.o 5 (by decide)) rfl dX1_name_28 ?_
    refine h_iload_n hC dX1_name_31 rfl ?_
    refine yr_callVi (As := [.int (zI a0)]) hC hr o14 hZ15 rfl (hZ15.w.o 2 (by decide)) (cm_Tree_place X.la d b Ra0 hZ15.rs h177) cl_X1_135 rfl rfl (Nat.le_of_ble_eq_true rfl) (hFr_of (Nat.le_of_ble_eq_true rfl) (Nat.le_of_ble_eq_true rfl)) dX1_name_32 (fun r178 A179 u180 S181 R182 o183 hZ184 h185 => ?_)
    refine yr_callVv (As := [.int (zI 3), .int (zI r178)]) hC hr o183 hZ184 rfl (hZ184.w.o 1 (by decide)) (cm_Program_blame X.la d b (by decide) R182 hZ184.rs h185) cl_X1_177 rfl rfl (Nat.le_of_ble_eq_true rfl) (hFr_of (Nat.le_of_ble_eq_true rfl) (Nat.le_of_ble_eq_true rfl)) dX1_name_35 (fun A187 u188 S189 o191 hZ192 h193 => ?_)
    exact yr_vret hC hr o191 hZ192 h193 dX1_name_38
theorem dX1_unary_0 : decode cX1_unary 0 = .ok (.iload_n 1, 1) := by decide +kernel
theorem dX1_unary_1 : decode cX1_unary 1 = .ok (.bipush 17, 2) := by decide +kernel
theorem dX1_unary_3 : decode cX1_unary 3 = .ok (.if_icmp .ne 14, 3) := by decide +kernel
theorem dX1_unary_6 : decode cX1_unary 6 = .ok (.aload_n 0, 1) := by decide +kernel
theorem dX1_unary_7 : decode cX1_unary 7 = .ok (.bipush 8, 2) := by decide +kernel
theorem dX1_unary_9 : decode cX1_unary 9 = .ok (.iconst 0, 1) := by decide +kernel
theorem dX1_unary_10 : decode cX1_unary 10 = .ok (.invokevirtual 181, 3) := by decide +kernel
theorem dX1_unary_13 : decode cX1_unary 13 = .ok (.pop, 1) := by decide +kernel
theorem dX1_unary_14 : decode cX1_unary 14 = .ok (.goto 17, 3) := by decide +kernel
theorem dX1_unary_17 : decode cX1_unary 17 = .ok (.iload_n 1, 1) := by decide +kernel
theorem dX1_unary_18 : decode cX1_unary 18 = .ok (.bipush 28, 2) := by decide +kernel
theorem dX1_unary_20 : decode cX1_unary 20 = .ok (.if_icmp .ne 11, 3) := by decide +kernel
theorem dX1_unary_23 : decode cX1_unary 23 = .ok (.aload_n 0, 1) := by decide +kernel
theorem dX1_unary_24 : decode cX1_unary 24 = .ok (.bipush 9, 2) := by decide +kernel
theorem dX1_unary_26 : decode cX1_unary 26 = .ok (.iconst 0, 1) := by decide +kernel
theorem dX1_unary_27 : decode cX1_unary 27 = .ok (.invokevirtual 181, 3) := by decide +kernel
theorem dX1_unary_30 : decode cX1_unary 30 = .ok (.pop, 1) := by decide +kernel
theorem dX1_unary_31 : decode cX1_unary 31 = .ok (.return_, 1) := by decide +kernel
def wc_Coder_unary (A0 : cS) (a0 : Int) (Q : cS → Prop) : Prop :=
  ((¬ a0 = 17 → ((¬ a0 = 28 → Q A0) ∧ (a0 = 28 → wc_Coder_emit A0 9 0 (fun r6 A7 => Q A7)))) ∧ (a0 = 17 → wc_Coder_emit A0 8 0 (fun r15 A16 => Q A16)))
set_option maxHeartbeats 4000000 in
set_option maxRecDepth 100000 in
theorem cm_Coder_unary (l : Launch) (d : gD) (b : Nat) {Y : gYt} {c : Nat × Nat} {F : gM} {k n : Nat} {S : gSt} {A0 : cS} {a0 : Int} (Ra0 : zR a0) {Q : cS → Prop} (hZ : yZ d b Y c F S (F, k, n) S A0) (hw : wc_Coder_unary A0 a0 Q) : hMv l d b yX1_unary cX1_unary 2 5 k n F [.ref (gO' Y 5), .int (zI a0)] (yPv d b Y c F S Q) := by
  intro mc ms
  refine hM_of2 rfl (nL := 2) (Nat.le_of_ble_eq_true rfl) ?_
  intro X hX hC hr ho; subst hX
  show yG X d b (yQv X d b Y c F S mc ms Q) (F, k, n) 0 [some (.ref (gO' Y 5)), some (.int (zI a0))] []
  unfold wc_Coder_unary at hw
  refine h_iload_n hC dX1_unary_0 rfl ?_
  refine h_bipush (v := zI 17) hC dX1_unary_1 rfl ?_
  refine yr_icmp_ne (tgt := 17) hC Ra0 (by decide) dX1_unary_3 (by decide) (fun c1 => ?_) (fun c1 => ?_)
  · have h2 := hw.1 c1
    refine h_iload_n hC dX1_unary_17 rfl ?_
    refine h_bipush (v := zI 28) hC dX1_unary_18 rfl ?_
    refine yr_icmp_ne (tgt := 31) hC Ra0 (by decide) dX1_unary_20 (by decide) (fun c3 => ?_) (fun c3 => ?_)
    · have h4 := h2.1 c3
      exact yr_vret hC hr ho hZ h4 dX1_unary_31
    · have h5 := h2.2 c3
      refine h_aload_n hC dX1_unary_23 rfl ?_
      refine h_bipush (v := zI 9) hC dX1_unary_24 rfl ?_
      refine h_iconst (v := zI 0) hC dX1_unary_26 rfl ?_
      refine yr_callVi (As := [.int (zI 9), .int (zI 0)]) hC hr ho hZ rfl (hZ.w.o 5 (by decide)) (cm_Coder_emit X.la d b (by decide) (by decide) hZ.rs h5) cl_X1_181 rfl rfl (Nat.le_of_ble_eq_true rfl) (hFr_of (Nat.le_of_ble_eq_true rfl) (Nat.le_of_ble_eq_true rfl)) dX1_unary_27 (fun r6 A7 u8 S9 R10 o11 hZ12 h13 => ?_)
      refine h_pop hC dX1_unary_30 rfl ?_
      exact yr_vret hC hr o11 hZ12 h13 dX1_unary_31
  · have h14 := hw.2 c1
    refine h_aload_n hC dX1_unary_6 rfl ?_
    refine h_bipush (v := zI 8) hC dX1_unary_7 rfl ?_
    refine h_iconst (v := zI 0) hC dX1_unary_9 rfl ?_
    refine yr_callVi (As := [.int (zI 8), .int (zI 0)]) hC hr ho hZ rfl (hZ.w.o 5 (by decide)) (cm_Coder_emit X.la d b (by decide) (by decide) hZ.rs h14) cl_X1_181 rfl rfl (Nat.le_of_ble_eq_true rfl) (hFr_of (Nat.le_of_ble_eq_true rfl) (Nat.le_of_ble_eq_true rfl)) dX1_unary_10 (fun r15 A16 u17 S18 R19 o20 hZ21 h22 => ?_)
    refine h_pop hC dX1_unary_13 rfl ?_
    refine h_goto (tgt := 31) hC dX1_unary_14 (by decide) ?_
    exact yr_vret hC hr o20 hZ21 h22 dX1_unary_31
theorem dX1_single_0 : decode cX1_single 0 = .ok (.iload_n 2, 1) := by decide +kernel
theorem dX1_single_1 : decode cX1_single 1 = .ok (.ifCond .ne 7, 3) := by decide +kernel
theorem dX1_single_4 : decode cX1_single 4 = .ok (.iconst 1, 1) := by decide +kernel
theorem dX1_single_5 : decode cX1_single 5 = .ok (.goto 4, 3) := by decide +kernel
theorem dX1_single_8 : decode cX1_single 8 = .ok (.iconst 0, 1) := by decide +kernel
theorem dX1_single_9 : decode cX1_single 9 = .ok (.istore 4, 2) := by decide +kernel
theorem dX1_single_11 : decode cX1_single 11 = .ok (.iconst 0, 1) := by decide +kernel
theorem dX1_single_12 : decode cX1_single 12 = .ok (.istore 5, 2) := by decide +kernel
theorem dX1_single_14 : decode cX1_single 14 = .ok (.aload_n 0, 1) := by decide +kernel
theorem dX1_single_15 : decode cX1_single 15 = .ok (.getfield 65, 3) := by decide +kernel
theorem dX1_single_18 : decode cX1_single 18 = .ok (.iload_n 1, 1) := by decide +kernel
theorem dX1_single_19 : decode cX1_single 19 = .ok (.invokevirtual 121, 3) := by decide +kernel
theorem dX1_single_22 : decode cX1_single 22 = .ok (.lookupswitch 181 #[(2, 66), (3, 79), (4, 79), (13, 96), (14, 120), (85, 148), (87, 166)], 66) := by decide +kernel
theorem dX1_single_88 : decode cX1_single 88 = .ok (.aload_n 0, 1) := by decide +kernel
theorem dX1_single_89 : decode cX1_single 89 = .ok (.iload_n 1, 1) := by decide +kernel
theorem dX1_single_90 : decode cX1_single 90 = .ok (.iload_n 2, 1) := by decide +kernel
theorem dX1_single_91 : decode cX1_single 91 = .ok (.iload_n 3, 1) := by decide +kernel
theorem dX1_single_92 : decode cX1_single 92 = .ok (.invokevirtual 307, 3) := by decide +kernel
theorem dX1_single_95 : decode cX1_single 95 = .ok (.iconst 1, 1) := by decide +kernel
theorem dX1_single_96 : decode cX1_single 96 = .ok (.istore 5, 2) := by decide +kernel
theorem dX1_single_98 : decode cX1_single 98 = .ok (.goto 105, 3) := by decide +kernel
theorem dX1_single_101 : decode cX1_single 101 = .ok (.aload_n 0, 1) := by decide +kernel
theorem dX1_single_102 : decode cX1_single 102 = .ok (.iconst 1, 1) := by decide +kernel
theorem dX1_single_103 : decode cX1_single 103 = .ok (.aload_n 0, 1) := by decide +kernel
theorem dX1_single_104 : decode cX1_single 104 = .ok (.getfield 65, 3) := by decide +kernel
theorem dX1_single_107 : decode cX1_single 107 = .ok (.iload_n 1, 1) := by decide +kernel
theorem dX1_single_108 : decode cX1_single 108 = .ok (.invokevirtual 129, 3) := by decide +kernel
theorem dX1_single_111 : decode cX1_single 111 = .ok (.invokevirtual 181, 3) := by decide +kernel
theorem dX1_single_114 : decode cX1_single 114 = .ok (.pop, 1) := by decide +kernel
theorem dX1_single_115 : decode cX1_single 115 = .ok (.goto 88, 3) := by decide +kernel
theorem dX1_single_118 : decode cX1_single 118 = .ok (.aload_n 0, 1) := by decide +kernel
theorem dX1_single_119 : decode cX1_single 119 = .ok (.iload 4, 2) := by decide +kernel
theorem dX1_single_121 : decode cX1_single 121 = .ok (.ifCond .eq 8, 3) := by decide +kernel
theorem dX1_single_124 : decode cX1_single 124 = .ok (.bipush 6, 2) := by decide +kernel
theorem dX1_single_126 : decode cX1_single 126 = .ok (.goto 5, 3) := by decide +kernel
theorem dX1_single_129 : decode cX1_single 129 = .ok (.bipush 116, 2) := by decide +kernel
theorem dX1_single_131 : decode cX1_single 131 = .ok (.iconst 0, 1) := by decide +kernel
theorem dX1_single_132 : decode cX1_single 132 = .ok (.invokevirtual 181, 3) := by decide +kernel
theorem dX1_single_135 : decode cX1_single 135 = .ok (.pop, 1) := by decide +kernel
theorem dX1_single_136 : decode cX1_single 136 = .ok (.iconst 1, 1) := by decide +kernel
theorem dX1_single_137 : decode cX1_single 137 = .ok (.istore 5, 2) := by decide +kernel
theorem dX1_single_139 : decode cX1_single 139 = .ok (.goto 64, 3) := by decide +kernel
theorem dX1_single_142 : decode cX1_single 142 = .ok (.iload 4, 2) := by decide +kernel
theorem dX1_single_144 : decode cX1_single 144 = .ok (.ifCond .eq 11, 3) := by decide +kernel
theorem dX1_single_147 : decode cX1_single 147 = .ok (.aload_n 0, 1) := by decide +kernel
theorem dX1_single_148 : decode cX1_single 148 = .ok (.bipush 7, 2) := by decide +kernel
theorem dX1_single_150 : decode cX1_single 150 = .ok (.iconst 0, 1) := by decide +kernel
theorem dX1_single_151 : decode cX1_single 151 = .ok (.invokevirtual 181, 3) := by decide +kernel
theorem dX1_single_154 : decode cX1_single 154 = .ok (.pop, 1) := by decide +kernel
theorem dX1_single_155 : decode cX1_single 155 = .ok (.iload_n 2, 1) := by decide +kernel
theorem dX1_single_156 : decode cX1_single 156 = .ok (.iconst 2, 1) := by decide +kernel
theorem dX1_single_157 : decode cX1_single 157 = .ok (.if_icmp .ne 7, 3) := by decide +kernel
theorem dX1_single_160 : decode cX1_single 160 = .ok (.iconst 1, 1) := by decide +kernel
theorem dX1_single_161 : decode cX1_single 161 = .ok (.goto 4, 3) := by decide +kernel
theorem dX1_single_164 : decode cX1_single 164 = .ok (.iconst 0, 1) := by decide +kernel
theorem dX1_single_165 : decode cX1_single 165 = .ok (.istore 5, 2) := by decide +kernel
theorem dX1_single_167 : decode cX1_single 167 = .ok (.goto 36, 3) := by decide +kernel
theorem dX1_single_170 : decode cX1_single 170 = .ok (.iload 4, 2) := by decide +kernel
theorem dX1_single_172 : decode cX1_single 172 = .ok (.ifCond .eq 10, 3) := by decide +kernel
theorem dX1_single_175 : decode cX1_single 175 = .ok (.aload_n 0, 1) := by decide +kernel
theorem dX1_single_176 : decode cX1_single 176 = .ok (.iconst 5, 1) := by decide +kernel
theorem dX1_single_177 : decode cX1_single 177 = .ok (.iconst 0, 1) := by decide +kernel
theorem dX1_single_178 : decode cX1_single 178 = .ok (.invokevirtual 181, 3) := by decide +kernel
theorem dX1_single_181 : decode cX1_single 181 = .ok (.pop, 1) := by decide +kernel
theorem dX1_single_182 : decode cX1_single 182 = .ok (.iconst 1, 1) := by decide +kernel
theorem dX1_single_183 : decode cX1_single 183 = .ok (.istore 5, 2) := by decide +kernel
theorem dX1_single_185 : decode cX1_single 185 = .ok (.goto 18, 3) := by decide +kernel
theorem dX1_single_188 : decode cX1_single 188 = .ok (.aload_n 0, 1) := by decide +kernel
theorem dX1_single_189 : decode cX1_single 189 = .ok (.aload_n 0, 1) := by decide +kernel
theorem dX1_single_190 : decode cX1_single 190 = .ok (.getfield 65, 3) := by decide +kernel
theorem dX1_single_193 : decode cX1_single 193 = .ok (.iload_n 1, 1) := by decide +kernel
theorem dX1_single_194 : decode cX1_single 194 = .ok (.invokevirtual 129, 3) := by decide +kernel
theorem dX1_single_197 : decode cX1_single 197 = .ok (.invokevirtual 310, 3) := by decide +kernel
theorem dX1_single_200 : decode cX1_single 200 = .ok (.goto 3, 3) := by decide +kernel
theorem dX1_single_203 : decode cX1_single 203 = .ok (.iload 5, 2) := by decide +kernel
theorem dX1_single_205 : decode cX1_single 205 = .ok (.ifCond .ne 9, 3) := by decide +kernel
theorem dX1_single_208 : decode cX1_single 208 = .ok (.aload_n 0, 1) := by decide +kernel
theorem dX1_single_209 : decode cX1_single 209 = .ok (.iload_n 2, 1) := by decide +kernel
theorem dX1_single_210 : decode cX1_single 210 = .ok (.iload_n 3, 1) := by decide +kernel
theorem dX1_single_211 : decode cX1_single 211 = .ok (.invokevirtual 283, 3) := by decide +kernel
theorem dX1_single_214 : decode cX1_single 214 = .ok (.return_, 1) := by decide +kernel
def wc_Coder_single_203 (Q : cS → Prop)  (A0 : cS) (x2 : Int) (x3 : Int) (x5 : Int) : Prop :=
  ((¬ x5 = 0 → Q A0) ∧ (x5 = 0 → wc_Coder_unfit A0 x2 x3 (fun A5 => Q A5)))
def wc_Coder_single_9 (Q : cS → Prop)  (A0 : cS) (x1 : Int) (x2 : Int) (x3 : Int) (y0 : Int) : Prop :=
  wc_Tree_kind A0 x1 (fun r1 A2 => (((r1 = 2) → wc_Coder_name A2 x1 x2 x3 (fun A13 => wc_Coder_single_203 Q  A13 x2 x3 1)) ∧ ((r1 = 3 ∨ r1 = 4) → wc_Tree_data A2 x1 (fun r23 A24 => wc_Coder_emit A24 1 r23 (fun r31 A32 => wc_Coder_single_203 Q  A32 x2 x3 0))) ∧ ((r1 = 13) → ((y0 = 0 → wc_Coder_emit A2 116 0 (fun r44 A45 => wc_Coder_single_203 Q  A45 x2 x3 1)) ∧ (¬ y0 = 0 → wc_Coder_emit A2 6 0 (fun r53 A54 => wc_Coder_single_203 Q  A54 x2 x3 1)))) ∧ ((r1 = 14) → ((y0 = 0 → ((¬ x2 = 2 → wc_Coder_single_203 Q  A2 x2 x3 0) ∧ (x2 = 2 → wc_Coder_single_203 Q  A2 x2 x3 1))) ∧ (¬ y0 = 0 → wc_Coder_emit A2 7 0 (fun r70 A71 => ((¬ x2 = 2 → wc_Coder_single_203 Q  A71 x2 x3 0) ∧ (x2 = 2 → wc_Coder_single_203 Q  A71 x2 x3 1)))))) ∧ ((r1 = 85) → ((y0 = 0 → wc_Coder_single_203 Q  A2 x2 x3 1) ∧ (¬ y0 = 0 → wc_Coder_emit A2 5 0 (fun r87 A88 => wc_Coder_single_203 Q  A88 x2 x3 1)))) ∧ ((r1 = 87) → wc_Tree_data A2 x1 (fun r98 A99 => wc_Coder_unary A99 r98 (fun A107 => wc_Coder_single_203 Q  A107 x2 x3 0))) ∧ (¬ (r1 = 2) → ¬ (r1 = 3 ∨ r1 = 4) → ¬ (r1 = 13) → ¬ (r1 = 14) → ¬ (r1 = 85) → ¬ (r1 = 87) → wc_Coder_single_203 Q  A2 x2 x3 0)))
def wc_Coder_single (A0 : cS) (a0 : Int) (a1 : Int) (a2 : Int) (Q : cS → Prop) : Prop :=
  ((¬ a1 = 0 → wc_Coder_single_9 Q  A0 a0 a1 a2 0) ∧ (a1 = 0 → wc_Coder_single_9 Q  A0 a0 a1 a2 1))
set_option maxHeartbeats 4000000 in
set_option maxRecDepth 100000 in
theorem cj_Coder_single_203 {X : gX} {d : gD} {b : Nat} {Y : gYt} {c : Nat × Nat} {F0 : gM} {S0 : gSt} {mc ms : Nat} (hC : gC RX1 cX1_single 6 none "single" (gR 6 mc ms) d b X) (hr : hRm X b) {Q : cS → Prop}   {u : hU} {S : gSt} {A0 : cS} {x2 : Int} {x3 : Int} {x5 : Int} (Rx2 : zR x2) (Rx3 : zR x3) (Rx5 : zR x5) (ho : yOk X b u) (hZ : yZ d b Y c F0 S0 u S A0) (hw : wc_Coder_single_203 Q  A0 x2 x3 x5) : yG X d b (yQv X d b Y c F0 S0 mc ms Q) u 203 [some (.ref (gO' Y 5)), none, some (.int (zI x2)), some (.int (zI x3)), none, some (.int (zI x5))] [] := by
  unfold wc_Coder_single_203 at hw
  refine h_iload hC dX1_single_203 rfl ?_
  refine yr_if_ne (tgt := 214) hC Rx5 dX1_single_205 (by decide) (fun c1 => ?_) (fun c1 => ?_)
  · have h2 := hw.1 c1
    exact yr_vret hC hr ho hZ h2 dX1_single_214
  · have h3 := hw.2 c1
    refine h_aload_n hC dX1_single_208 rfl ?_
    refine h_iload_n hC dX1_single_209 rfl ?_
    refine h_iload_n hC dX1_single_210 rfl ?_
    refine yr_callVv (As := [.int (zI x2), .int (zI x3)]) hC hr ho hZ rfl (hZ.w.o 5 (by decide)) (cm_Coder_unfit X.la d b Rx2 Rx3 hZ.rs h3) cl_X1_283 rfl rfl (Nat.le_of_ble_eq_true rfl) (hFr_of (Nat.le_of_ble_eq_true rfl) (Nat.le_of_ble_eq_true rfl)) dX1_single_211 (fun A5 u6 S7 o9 hZ10 h11 => ?_)
    exact yr_vret hC hr o9 hZ10 h11 dX1_single_214
set_option maxHeartbeats 4000000 in
set_option maxRecDepth 100000 in
theorem cj_Coder_single_9 {X : gX} {d : gD} {b : Nat} {Y : gYt} {c : Nat × Nat} {F0 : gM} {S0 : gSt} {mc ms : Nat} (hC : gC RX1 cX1_single 6 none "single" (gR 6 mc ms) d b X) (hr : hRm X b) {Q : cS → Prop}   {u : hU} {S : gSt} {A0 : cS} {x1 : Int} {x2 : Int} {x3 : Int} {y0 : Int} (Rx1 : zR x1) (Rx2 : zR x2) (Rx3 : zR x3) (Ry0 : zR y0) (ho : yOk X b u) (hZ : yZ d b Y c F0 S0 u S A0) (hw : wc_Coder_single_9 Q  A0 x1 x2 x3 y0) : yG X d b (yQv X d b Y c F0 S0 mc ms Q) u 9 [some (.ref (gO' Y 5)), some (.int (zI x1)), some (.int (zI x2)), some (.int (zI x3)), none, none] [.int (zI y0)] := by
  unfold wc_Coder_single_9 at hw
  refine h_istore (lv' := [some (.ref (gO' Y 5)), some (.int (zI x1)), some (.int (zI x2)), some (.int (zI x3)), some (.int (zI y0)), none]) hC dX1_single_9 (Nat.le_of_ble_eq_true rfl) rfl rfl ?_
  refine h_iconst (v := zI 0) hC dX1_single_11 rfl ?_
  refine h_istore (lv' := [some (.ref (gO' Y 5)), some (.int (zI x1)), some (.int (zI x2)), some (.int (zI x3)), some (.int (zI y0)), some (.int (zI 0))]) hC dX1_single_12 (Nat.le_of_ble_eq_true rfl) rfl rfl ?_
  refine h_aload_n hC dX1_single_14 rfl ?_
  refine h_get hC fl_X1_65 (hZ.w.o 5 (by decide)) rfl dX1_single_15 ?_
  refine h_iload_n hC dX1_single_18 rfl ?_
  refine yr_callVi (As := [.int (zI x1)]) hC hr ho hZ rfl (hZ.w.o 2 (by decide)) (cm_Tree_kind X.la d b Rx1 hZ.rs hw) cl_X1_121 rfl rfl (Nat.le_of_ble_eq_true rfl) (hFr_of (Nat.le_of_ble_eq_true rfl) (Nat.le_of_ble_eq_true rfl)) dX1_single_19 (fun r1 A2 u3 S4 R5 o6 hZ7 h8 => ?_)
  by_cases g9 : r1 = 2
  · have h11 := (h8.1) g9
    have T10 : yG X d b (yQv X d b Y c F0 S0 mc ms Q) u3 88 [some (.ref (gO' Y 5)), some (.int (zI x1)), some (.int (zI x2)), some (.int (zI x3)), some (.int (zI y0)), some (.int (zI 0))] [] := by
      refine h_aload_n hC dX1_single_88 rfl ?_
      refine h_iload_n hC dX1_single_89 rfl ?_
      refine h_iload_n hC dX1_single_90 rfl ?_
      refine h_iload_n hC dX1_single_91 rfl ?_
      refine yr_callVv (As := [.int (zI x1), .int (zI x2), .int (zI x3)]) hC hr o6 hZ7 rfl (hZ7.w.o 5 (by decide)) (cm_Coder_name X.la d b Rx1 Rx2 Rx3 hZ7.rs h11) cl_X1_307 rfl rfl (Nat.le_of_ble_eq_true rfl) (hFr_of (Nat.le_of_ble_eq_true rfl) (Nat.le_of_ble_eq_true rfl)) dX1_single_92 (fun A13 u14 S15 o17 hZ18 h19 => ?_)
      refine h_iconst (v := zI 1) hC dX1_single_95 rfl ?_
      refine h_istore (lv' := [some (.ref (gO' Y 5)), some (.int (zI x1)), some (.int (zI x2)), some (.int (zI x3)), some (.int (zI y0)), some (.int (zI 1))]) hC dX1_single_96 (Nat.le_of_ble_eq_true rfl) rfl rfl ?_
      refine h_goto (tgt := 203) hC dX1_single_98 (by decide) ?_
      refine h_lv (lv' := [some (.ref (gO' Y 5)), none, some (.int (zI x2)), some (.int (zI x3)), none, some (.int (zI 1))]) ⟨rfl, rfl, rfl, rfl, trivial⟩ ?_
      exact cj_Coder_single_203 hC hr  Rx2 Rx3 (by decide) o17 hZ18 h19
    clear h11
    exact yr_lokAt (v := 2) hC dX1_single_22 R5 (by decide) g9 rfl (by decide) T10
  · skip
    by_cases g20 : r1 = 3 ∨ r1 = 4
    · have h22 := (h8.2.1) g20
      have T21 : yG X d b (yQv X d b Y c F0 S0 mc ms Q) u3 101 [some (.ref (gO' Y 5)), some (.int (zI x1)), some (.int (zI x2)), some (.int (zI x3)), some (.int (zI y0)), some (.int (zI 0))] [] := by
        refine h_aload_n hC dX1_single_101 rfl ?_
        refine h_iconst (v := zI 1) hC dX1_single_102 rfl ?_
        refine h_aload_n hC dX1_single_103 rfl ?_
        refine h_get hC fl_X1_65 (hZ7.w.o 5 (by decide)) rfl dX1_single_104 ?_
        refine h_iload_n hC dX1_single_107 rfl ?_
        refine yr_callVi (As := [.int (zI x1)]) hC hr o6 hZ7 rfl (hZ7.w.o 2 (by decide)) (cm_Tree_data X.la d b Rx1 hZ7.rs h22) cl_X1_129 rfl rfl (Nat.le_of_ble_eq_true rfl) (hFr_of (Nat.le_of_ble_eq_true rfl) (Nat.le_of_ble_eq_true rfl)) dX1_single_108 (fun r23 A24 u25 S26 R27 o28 hZ29 h30 => ?_)
        refine yr_callVi (As := [.int (zI 1), .int (zI r23)]) hC hr o28 hZ29 rfl (hZ29.w.o 5 (by decide)) (cm_Coder_emit X.la d b (by decide) R27 hZ29.rs h30) cl_X1_181 rfl rfl (Nat.le_of_ble_eq_true rfl) (hFr_of (Nat.le_of_ble_eq_true rfl) (Nat.le_of_ble_eq_true rfl)) dX1_single_111 (fun r31 A32 u33 S34 R35 o36 hZ37 h38 => ?_)
        refine h_pop hC dX1_single_114 rfl ?_
        refine h_goto (tgt := 203) hC dX1_single_115 (by decide) ?_
        refine h_lv (lv' := [some (.ref (gO' Y 5)), none, some (.int (zI x2)), some (.int (zI x3)), none, some (.int (zI 0))]) ⟨rfl, rfl, rfl, rfl, trivial⟩ ?_
        exact cj_Coder_single_203 hC hr  Rx2 Rx3 (by decide) o36 hZ37 h38
      clear h22
      rcases g20 with e1 | e1
      · exact zr_lokAt (v := 3) hC dX1_single_22 R5 (by decide) e1 rfl (by decide) T21
      · exact zr_lokAt (v := 4) hC dX1_single_22 R5 (by decide) e1 rfl (by decide) T21
    · skip
      by_cases g39 : r1 = 13
      · have h41 := (h8.2.2.1) g39
        have T40 : yG X d b (yQv X d b Y c F0 S0 mc ms Q) u3 118 [some (.ref (gO' Y 5)), some (.int (zI x1)), some (.int (zI x2)), some (.int (zI x3)), some (.int (zI y0)), some (.int (zI 0))] [] := by
          refine h_aload_n hC dX1_single_118 rfl ?_
          refine h_iload hC dX1_single_119 rfl ?_
          refine yr_if_eq (tgt := 129) hC Ry0 dX1_single_121 (by decide) (fun c42 => ?_) (fun c42 => ?_)
          · have h43 := h41.1 c42
            refine h_bipush (v := zI 116) hC dX1_single_129 rfl ?_
            refine h_iconst (v := zI 0) hC dX1_single_131 rfl ?_
            refine yr_callVi (As := [.int (zI 116), .int (zI 0)]) hC hr o6 hZ7 rfl (hZ7.w.o 5 (by decide)) (cm_Coder_emit X.la d b (by decide) (by decide) hZ7.rs h43) cl_X1_181 rfl rfl (Nat.le_of_ble_eq_true rfl) (hFr_of (Nat.le_of_ble_eq_true rfl) (Nat.le_of_ble_eq_true rfl)) dX1_single_132 (fun r44 A45 u46 S47 R48 o49 hZ50 h51 => ?_)
            refine h_pop hC dX1_single_135 rfl ?_
            refine h_iconst (v := zI 1) hC dX1_single_136 rfl ?_
            refine h_istore (lv' := [some (.ref (gO' Y 5)), some (.int (zI x1)), some (.int (zI x2)), some (.int (zI x3)), some (.int (zI y0)), some (.int (zI 1))]) hC dX1_single_137 (Nat.le_of_ble_eq_true rfl) rfl rfl ?_
            refine h_goto (tgt := 203) hC dX1_single_139 (by decide) ?_
            refine h_lv (lv' := [some (.ref (gO' Y 5)), none, some (.int (zI x2)), some (.int (zI x3)), none, some (.int (zI 1))]) ⟨rfl, rfl, rfl, rfl, trivial⟩ ?_
            exact cj_Coder_single_203 hC hr  Rx2 Rx3 (by decide) o49 hZ50 h51
          · have h52 := h41.2 c42
            refine h_bipush (v := zI 6) hC dX1_single_124 rfl ?_
            refine h_goto (tgt := 131) hC dX1_single_126 (by decide) ?_
            refine h_iconst (v := zI 0) hC dX1_single_131 rfl ?_
            refine yr_callVi (As := [.int (zI 6), .int (zI 0)]) hC hr o6 hZ7 rfl (hZ7.w.o 5 (by decide)) (cm_Coder_emit X.la d b (by decide) (by decide) hZ7.rs h52) cl_X1_181 rfl rfl (Nat.le_of_ble_eq_true rfl) (hFr_of (Nat.le_of_ble_eq_true rfl) (Nat.le_of_ble_eq_true rfl)) dX1_single_132 (fun r53 A54 u55 S56 R57 o58 hZ59 h60 => ?_)
            refine h_pop hC dX1_single_135 rfl ?_
            refine h_iconst (v := zI 1) hC dX1_single_136 rfl ?_
            refine h_istore (lv' := [some (.ref (gO' Y 5)), some (.int (zI x1)), some (.int (zI x2)), some (.int (zI x3)), some (.int (zI y0)), some (.int (zI 1))]) hC dX1_single_137 (Nat.le_of_ble_eq_true rfl) rfl rfl ?_
            refine h_goto (tgt := 203) hC dX1_single_139 (by decide) ?_
            refine h_lv (lv' := [some (.ref (gO' Y 5)), none, some (.int (zI x2)), some (.int (zI x3)), none, some (.int (zI 1))]) ⟨rfl, rfl, rfl, rfl, trivial⟩ ?_
            exact cj_Coder_single_203 hC hr  Rx2 Rx3 (by decide) o58 hZ59 h60
        clear h41
        exact yr_lokAt (v := 13) hC dX1_single_22 R5 (by decide) g39 rfl (by decide) T40
      · skip
        by_cases g61 : r1 = 14
        · have h63 := (h8.2.2.2.1) g61
          have T62 : yG X d b (yQv X d b Y c F0 S0 mc ms Q) u3 142 [some (.ref (gO' Y 5)), some (.int (zI x1)), some (.int (zI x2)), some (.int (zI x3)), some (.int (zI y0)), some (.int (zI 0))] [] := by
            refine h_iload hC dX1_single_142 rfl ?_
            refine yr_if_eq (tgt := 155) hC Ry0 dX1_single_144 (by decide) (fun c64 => ?_) (fun c64 => ?_)
            · have h65 := h63.1 c64
              refine h_iload_n hC dX1_single_155 rfl ?_
              refine h_iconst (v := zI 2) hC dX1_single_156 rfl ?_
              refine yr_icmp_ne (tgt := 164) hC Rx2 (by decide) dX1_single_157 (by decide) (fun c66 => ?_) (fun c66 => ?_)
              · have h67 := h65.1 c66
                refine h_iconst (v := zI 0) hC dX1_single_164 rfl ?_
                refine h_istore (lv' := [some (.ref (gO' Y 5)), some (.int (zI x1)), some (.int (zI x2)), some (.int (zI x3)), some (.int (zI y0)), some (.int (zI 0))]) hC dX1_single_165 (Nat.le_of_ble_eq_true rfl) rfl rfl ?_
                refine h_goto (tgt := 203) hC dX1_single_167 (by decide) ?_
                refine h_lv (lv' := [some (.ref (gO' Y 5)), none, some (.int (zI x2)), some (.int (zI x3)), none, some (.int (zI 0))]) ⟨rfl, rfl, rfl, rfl, trivial⟩ ?_
                exact cj_Coder_single_203 hC hr  Rx2 Rx3 (by decide) o6 hZ7 h67
              · have h68 := h65.2 c66
                refine h_iconst (v := zI 1) hC dX1_single_160 rfl ?_
                refine h_goto (tgt := 165) hC dX1_single_161 (by decide) ?_
                refine h_istore (lv' := [some (.ref (gO' Y 5)), some (.int (zI x1)), some (.int (zI x2)), some (.int (zI x3)), some (.int (zI y0)), some (.int (zI 1))]) hC dX1_single_165 (Nat.le_of_ble_eq_true rfl) rfl rfl ?_
                refine h_goto (tgt := 203) hC dX1_single_167 (by decide) ?_
                refine h_lv (lv' := [some (.ref (gO' Y 5)), none, some (.int (zI x2)), some (.int (zI x3)), none, some (.int (zI 1))]) ⟨rfl, rfl, rfl, rfl, trivial⟩ ?_
                exact cj_Coder_single_203 hC hr  Rx2 Rx3 (by decide) o6 hZ7 h68
            · have h69 := h63.2 c64
              refine h_aload_n hC dX1_single_147 rfl ?_
              refine h_bipush (v := zI 7) hC dX1_single_148 rfl ?_
              refine h_iconst (v := zI 0) hC dX1_single_150 rfl ?_
              refine yr_callVi (As := [.int (zI 7), .int (zI 0)]) hC hr o6 hZ7 rfl (hZ7.w.o 5 (by decide)) (cm_Coder_emit X.la d b (by decide) (by decide) hZ7.rs h69) cl_X1_181 rfl rfl (Nat.le_of_ble_eq_true rfl) (hFr_of (Nat.le_of_ble_eq_true rfl) (Nat.le_of_ble_eq_true rfl)) dX1_single_151 (fun r70 A71 u72 S73 R74 o75 hZ76 h77 => ?_)
              refine h_pop hC dX1_single_154 rfl ?_
              refine h_iload_n hC dX1_single_155 rfl ?_
              refine h_iconst (v := zI 2) hC dX1_single_156 rfl ?_
              refine yr_icmp_ne (tgt := 164) hC Rx2 (by decide) dX1_single_157 (by decide) (fun c78 => ?_) (fun c78 => ?_)
              · have h79 := h77.1 c78
                refine h_iconst (v := zI 0) hC dX1_single_164 rfl ?_
                refine h_istore (lv' := [some (.ref (gO' Y 5)), some (.int (zI x1)), some (.int (zI x2)), some (.int (zI x3)), some (.int (zI y0)), some (.int (zI 0))]) hC dX1_single_165 (Nat.le_of_ble_eq_true rfl) rfl rfl ?_
                refine h_goto (tgt := 203) hC dX1_single_167 (by decide) ?_
                refine h_lv (lv' := [some (.ref (gO' Y 5)), none, some (.int (zI x2)), some (.int (zI x3)), none, some (.int (zI 0))]) ⟨rfl, rfl, rfl, rfl, trivial⟩ ?_
                exact cj_Coder_single_203 hC hr  Rx2 Rx3 (by decide) o75 hZ76 h79
              · have h80 := h77.2 c78
                refine h_iconst (v := zI 1) hC dX1_single_160 rfl ?_
                refine h_goto (tgt := 165) hC dX1_single_161 (by decide) ?_
                refine h_istore (lv' := [some (.ref (gO' Y 5)), some (.int (zI x1)), some (.int (zI x2)), some (.int (zI x3)), some (.int (zI y0)), some (.int (zI 1))]) hC dX1_single_165 (Nat.le_of_ble_eq_true rfl) rfl rfl ?_
                refine h_goto (tgt := 203) hC dX1_single_167 (by decide) ?_
                refine h_lv (lv' := [some (.ref (gO' Y 5)), none, some (.int (zI x2)), some (.int (zI x3)), none, some (.int (zI 1))]) ⟨rfl, rfl, rfl, rfl, trivial⟩ ?_
                exact cj_Coder_single_203 hC hr  Rx2 Rx3 (by decide) o75 hZ76 h80
          clear h63
          exact yr_lokAt (v := 14) hC dX1_single_22 R5 (by decide) g61 rfl (by decide) T62
        · skip
          by_cases g81 : r1 = 85
          · have h83 := (h8.2.2.2.2.1) g81
            have T82 : yG X d b (yQv X d b Y c F0 S0 mc ms Q) u3 170 [some (.ref (gO' Y 5)), some (.int (zI x1)), some (.int (zI x2)), some (.int (zI x3)), some (.int (zI y0)), some (.int (zI 0))] [] := by
              refine h_iload hC dX1_single_170 rfl ?_
              refine yr_if_eq (tgt := 182) hC Ry0 dX1_single_172 (by decide) (fun c84 => ?_) (fun c84 => ?_)
              · have h85 := h83.1 c84
                refine h_iconst (v := zI 1) hC dX1_single_182 rfl ?_
                refine h_istore (lv' := [some (.ref (gO' Y 5)), some (.int (zI x1)), some (.int (zI x2)), some (.int (zI x3)), some (.int (zI y0)), some (.int (zI 1))]) hC dX1_single_183 (Nat.le_of_ble_eq_true rfl) rfl rfl ?_
                refine h_goto (tgt := 203) hC dX1_single_185 (by decide) ?_
                refine h_lv (lv' := [some (.ref (gO' Y 5)), none, some (.int (zI x2)), some (.int (zI x3)), none, some (.int (zI 1))]) ⟨rfl, rfl, rfl, rfl, trivial⟩ ?_
                exact cj_Coder_single_203 hC hr  Rx2 Rx3 (by decide) o6 hZ7 h85
              · have h86 := h83.2 c84
                refine h_aload_n hC dX1_single_175 rfl ?_
                refine h_iconst (v := zI 5) hC dX1_single_176 rfl ?_
                refine h_iconst (v := zI 0) hC dX1_single_177 rfl ?_
                refine yr_callVi (As := [.int (zI 5), .int (zI 0)]) hC hr o6 hZ7 rfl (hZ7.w.o 5 (by decide)) (cm_Coder_emit X.la d b (by decide) (by decide) hZ7.rs h86) cl_X1_181 rfl rfl (Nat.le_of_ble_eq_true rfl) (hFr_of (Nat.le_of_ble_eq_true rfl) (Nat.le_of_ble_eq_true rfl)) dX1_single_178 (fun r87 A88 u89 S90 R91 o92 hZ93 h94 => ?_)
                refine h_pop hC dX1_single_181 rfl ?_
                refine h_iconst (v := zI 1) hC dX1_single_182 rfl ?_
                refine h_istore (lv' := [some (.ref (gO' Y 5)), some (.int (zI x1)), some (.int (zI x2)), some (.int (zI x3)), some (.int (zI y0)), some (.int (zI 1))]) hC dX1_single_183 (Nat.le_of_ble_eq_true rfl) rfl rfl ?_
                refine h_goto (tgt := 203) hC dX1_single_185 (by decide) ?_
                refine h_lv (lv' := [some (.ref (gO' Y 5)), none, some (.int (zI x2)), some (.int (zI x3)), none, some (.int (zI 1))]) ⟨rfl, rfl, rfl, rfl, trivial⟩ ?_
                exact cj_Coder_single_203 hC hr  Rx2 Rx3 (by decide) o92 hZ93 h94
            clear h83
            exact yr_lokAt (v := 85) hC dX1_single_22 R5 (by decide) g81 rfl (by decide) T82
          · skip
            by_cases g95 : r1 = 87
            · have h97 := (h8.2.2.2.2.2.1) g95
              have T96 : yG X d b (yQv X d b Y c F0 S0 mc ms Q) u3 188 [some (.ref (gO' Y 5)), some (.int (zI x1)), some (.int (zI x2)), some (.int (zI x3)), some (.int (zI y0)), some (.int (zI 0))] [] := by
                refine h_aload_n hC dX1_single_188 rfl ?_
                refine h_aload_n hC dX1_single_189 rfl ?_
                refine h_get hC fl_X1_65 (hZ7.w.o 5 (by decide)) rfl dX1_single_190 ?_
                refine h_iload_n hC dX1_single_193 rfl ?_
                refine yr_callVi (As := [.int (zI x1)]) hC hr o6 hZ7 rfl (hZ7.w.o 2 (by decide)) (cm_Tree_data X.la d b Rx1 hZ7.rs h97) cl_X1_129 rfl rfl (Nat.le_of_ble_eq_true rfl) (hFr_of (Nat.le_of_ble_eq_true rfl) (Nat.le_of_ble_eq_true rfl)) dX1_single_194 (fun r98 A99 u100 S101 R102 o103 hZ104 h105 => ?_)
                refine yr_callVv (As := [.int (zI r98)]) hC hr o103 hZ104 rfl (hZ104.w.o 5 (by decide)) (cm_Coder_unary X.la d b R102 hZ104.rs h105) cl_X1_310 rfl rfl (Nat.le_of_ble_eq_true rfl) (hFr_of (Nat.le_of_ble_eq_true rfl) (Nat.le_of_ble_eq_true rfl)) dX1_single_197 (fun A107 u108 S109 o111 hZ112 h113 => ?_)
                refine h_goto (tgt := 203) hC dX1_single_200 (by decide) ?_
                refine h_lv (lv' := [some (.ref (gO' Y 5)), none, some (.int (zI x2)), some (.int (zI x3)), none, some (.int (zI 0))]) ⟨rfl, rfl, rfl, rfl, trivial⟩ ?_
                exact cj_Coder_single_203 hC hr  Rx2 Rx3 (by decide) o111 hZ112 h113
              clear h97
              exact yr_lokAt (v := 87) hC dX1_single_22 R5 (by decide) g95 rfl (by decide) T96
            · skip
              have h114 := h8.2.2.2.2.2.2 g9 g20 g39 g61 g81 g95
              refine yr_lokD (tgt := 203) hC dX1_single_22 R5 (by decide) (List.forall_mem_cons.mpr ⟨(fun q => g9 (q)), List.forall_mem_cons.mpr ⟨(fun q => g20 (Or.inl q)), List.forall_mem_cons.mpr ⟨(fun q => g20 (Or.inr (q))), List.forall_mem_cons.mpr ⟨(fun q => g39 (q)), List.forall_mem_cons.mpr ⟨(fun q => g61 (q)), List.forall_mem_cons.mpr ⟨(fun q => g81 (q)), List.forall_mem_cons.mpr ⟨(fun q => g95 (q)), fun q hq => absurd hq List.not_mem_nil⟩⟩⟩⟩⟩⟩⟩) (by decide) ?_
              refine h_lv (lv' := [some (.ref (gO' Y 5)), none, some (.int (zI x2)), some (.int (zI x3)), none, some (.int (zI 0))]) ⟨rfl, rfl, rfl, rfl, trivial⟩ ?_
              exact cj_Coder_single_203 hC hr  Rx2 Rx3 (by decide) o6 hZ7 h114
set_option maxHeartbeats 4000000 in
set_option maxRecDepth 100000 in
theorem cm_Coder_single (l : Launch) (d : gD) (b : Nat) {Y : gYt} {c : Nat × Nat} {F : gM} {k n : Nat} {S : gSt} {A0 : cS} {a0 : Int} {a1 : Int} {a2 : Int} (Ra0 : zR a0) (Ra1 : zR a1) (Ra2 : zR a2) {Q : cS → Prop} (hZ : yZ d b Y c F S (F, k, n) S A0) (hw : wc_Coder_single A0 a0 a1 a2 Q) : hMv l d b yX1_single cX1_single 6 6 k n F [.ref (gO' Y 5), .int (zI a0), .int (zI a1), .int (zI a2)] (yPv d b Y c F S Q) := by
  intro mc ms
  refine hM_of2 rfl (nL := 6) (Nat.le_of_ble_eq_true rfl) ?_
  intro X hX hC hr ho; subst hX
  show yG X d b (yQv X d b Y c F S mc ms Q) (F, k, n) 0 [some (.ref (gO' Y 5)), some (.int (zI a0)), some (.int (zI a1)), some (.int (zI a2)), none, none] []
  unfold wc_Coder_single at hw
  refine h_iload_n hC dX1_single_0 rfl ?_
  refine yr_if_ne (tgt := 8) hC Ra1 dX1_single_1 (by decide) (fun c1 => ?_) (fun c1 => ?_)
  · have h2 := hw.1 c1
    refine h_iconst (v := zI 0) hC dX1_single_8 rfl ?_
    exact cj_Coder_single_9 hC hr  Ra0 Ra1 Ra2 (by decide) ho hZ h2
  · have h3 := hw.2 c1
    refine h_iconst (v := zI 1) hC dX1_single_4 rfl ?_
    refine h_goto (tgt := 9) hC dX1_single_5 (by decide) ?_
    exact cj_Coder_single_9 hC hr  Ra0 Ra1 Ra2 (by decide) ho hZ h3
theorem dX1_definitions_0 : decode cX1_definitions 0 = .ok (.aload_n 0, 1) := by decide +kernel
theorem dX1_definitions_1 : decode cX1_definitions 1 = .ok (.getfield 65, 3) := by decide +kernel
theorem dX1_definitions_4 : decode cX1_definitions 4 = .ok (.iload_n 1, 1) := by decide +kernel
theorem dX1_definitions_5 : decode cX1_definitions 5 = .ok (.invokevirtual 121, 3) := by decide +kernel
theorem dX1_definitions_8 : decode cX1_definitions 8 = .ok (.istore_n 2, 1) := by decide +kernel
theorem dX1_definitions_9 : decode cX1_definitions 9 = .ok (.aload_n 0, 1) := by decide +kernel
theorem dX1_definitions_10 : decode cX1_definitions 10 = .ok (.getfield 65, 3) := by decide +kernel
theorem dX1_definitions_13 : decode cX1_definitions 13 = .ok (.iload_n 1, 1) := by decide +kernel
theorem dX1_definitions_14 : decode cX1_definitions 14 = .ok (.invokevirtual 126, 3) := by decide +kernel
theorem dX1_definitions_17 : decode cX1_definitions 17 = .ok (.istore_n 3, 1) := by decide +kernel
theorem dX1_definitions_18 : decode cX1_definitions 18 = .ok (.iconst (-1), 1) := by decide +kernel
theorem dX1_definitions_19 : decode cX1_definitions 19 = .ok (.istore 4, 2) := by decide +kernel
theorem dX1_definitions_21 : decode cX1_definitions 21 = .ok (.iconst (-1), 1) := by decide +kernel
theorem dX1_definitions_22 : decode cX1_definitions 22 = .ok (.istore 5, 2) := by decide +kernel
theorem dX1_definitions_24 : decode cX1_definitions 24 = .ok (.iconst 0, 1) := by decide +kernel
theorem dX1_definitions_25 : decode cX1_definitions 25 = .ok (.istore 6, 2) := by decide +kernel
theorem dX1_definitions_27 : decode cX1_definitions 27 = .ok (.iload 6, 2) := by decide +kernel
theorem dX1_definitions_29 : decode cX1_definitions 29 = .ok (.ldc 11, 2) := by decide +kernel
theorem dX1_definitions_31 : decode cX1_definitions 31 = .ok (.if_icmp .ge 85, 3) := by decide +kernel
theorem dX1_definitions_34 : decode cX1_definitions 34 = .ok (.iload_n 3, 1) := by decide +kernel
theorem dX1_definitions_35 : decode cX1_definitions 35 = .ok (.ifCond .eq 81, 3) := by decide +kernel
theorem dX1_definitions_38 : decode cX1_definitions 38 = .ok (.iload_n 2, 1) := by decide +kernel
theorem dX1_definitions_39 : decode cX1_definitions 39 = .ok (.bipush 54, 2) := by decide +kernel
theorem dX1_definitions_41 : decode cX1_definitions 41 = .ok (.if_icmp .ne 7, 3) := by decide +kernel
theorem dX1_definitions_44 : decode cX1_definitions 44 = .ok (.iconst 4, 1) := by decide +kernel
theorem dX1_definitions_45 : decode cX1_definitions 45 = .ok (.goto 4, 3) := by decide +kernel
theorem dX1_definitions_48 : decode cX1_definitions 48 = .ok (.iconst 1, 1) := by decide +kernel
theorem dX1_definitions_49 : decode cX1_definitions 49 = .ok (.istore 7, 2) := by decide +kernel
theorem dX1_definitions_51 : decode cX1_definitions 51 = .ok (.aload_n 0, 1) := by decide +kernel
theorem dX1_definitions_52 : decode cX1_definitions 52 = .ok (.getfield 78, 3) := by decide +kernel
theorem dX1_definitions_55 : decode cX1_definitions 55 = .ok (.aload_n 0, 1) := by decide +kernel
theorem dX1_definitions_56 : decode cX1_definitions 56 = .ok (.getfield 65, 3) := by decide +kernel
theorem dX1_definitions_59 : decode cX1_definitions 59 = .ok (.iload_n 3, 1) := by decide +kernel
theorem dX1_definitions_60 : decode cX1_definitions 60 = .ok (.invokevirtual 129, 3) := by decide +kernel
theorem dX1_definitions_63 : decode cX1_definitions 63 = .ok (.iload 7, 2) := by decide +kernel
theorem dX1_definitions_65 : decode cX1_definitions 65 = .ok (.aload_n 0, 1) := by decide +kernel
theorem dX1_definitions_66 : decode cX1_definitions 66 = .ok (.getfield 65, 3) := by decide +kernel
theorem dX1_definitions_69 : decode cX1_definitions 69 = .ok (.iload_n 3, 1) := by decide +kernel
theorem dX1_definitions_70 : decode cX1_definitions 70 = .ok (.invokevirtual 132, 3) := by decide +kernel
theorem dX1_definitions_73 : decode cX1_definitions 73 = .ok (.iconst 0, 1) := by decide +kernel
theorem dX1_definitions_74 : decode cX1_definitions 74 = .ok (.aload_n 0, 1) := by decide +kernel
theorem dX1_definitions_75 : decode cX1_definitions 75 = .ok (.getfield 65, 3) := by decide +kernel
theorem dX1_definitions_78 : decode cX1_definitions 78 = .ok (.iload_n 3, 1) := by decide +kernel
theorem dX1_definitions_79 : decode cX1_definitions 79 = .ok (.invokevirtual 135, 3) := by decide +kernel
theorem dX1_definitions_82 : decode cX1_definitions 82 = .ok (.invokevirtual 138, 3) := by decide +kernel
theorem dX1_definitions_85 : decode cX1_definitions 85 = .ok (.istore 4, 2) := by decide +kernel
theorem dX1_definitions_87 : decode cX1_definitions 87 = .ok (.iload 5, 2) := by decide +kernel
theorem dX1_definitions_89 : decode cX1_definitions 89 = .ok (.ifCond .ge 8, 3) := by decide +kernel
theorem dX1_definitions_92 : decode cX1_definitions 92 = .ok (.iload 4, 2) := by decide +kernel
theorem dX1_definitions_94 : decode cX1_definitions 94 = .ok (.goto 5, 3) := by decide +kernel
theorem dX1_definitions_97 : decode cX1_definitions 97 = .ok (.iload 5, 2) := by decide +kernel
theorem dX1_definitions_99 : decode cX1_definitions 99 = .ok (.istore 5, 2) := by decide +kernel
theorem dX1_definitions_101 : decode cX1_definitions 101 = .ok (.aload_n 0, 1) := by decide +kernel
theorem dX1_definitions_102 : decode cX1_definitions 102 = .ok (.getfield 65, 3) := by decide +kernel
theorem dX1_definitions_105 : decode cX1_definitions 105 = .ok (.iload_n 3, 1) := by decide +kernel
theorem dX1_definitions_106 : decode cX1_definitions 106 = .ok (.invokevirtual 142, 3) := by decide +kernel
theorem dX1_definitions_109 : decode cX1_definitions 109 = .ok (.istore_n 3, 1) := by decide +kernel
theorem dX1_definitions_110 : decode cX1_definitions 110 = .ok (.iinc 6 1, 3) := by decide +kernel
theorem dX1_definitions_113 : decode cX1_definitions 113 = .ok (.goto (-86), 3) := by decide +kernel
theorem dX1_definitions_116 : decode cX1_definitions 116 = .ok (.aload_n 0, 1) := by decide +kernel
theorem dX1_definitions_117 : decode cX1_definitions 117 = .ok (.getfield 65, 3) := by decide +kernel
theorem dX1_definitions_120 : decode cX1_definitions 120 = .ok (.iload_n 1, 1) := by decide +kernel
theorem dX1_definitions_121 : decode cX1_definitions 121 = .ok (.invokevirtual 126, 3) := by decide +kernel
theorem dX1_definitions_124 : decode cX1_definitions 124 = .ok (.istore_n 3, 1) := by decide +kernel
theorem dX1_definitions_125 : decode cX1_definitions 125 = .ok (.iconst 0, 1) := by decide +kernel
theorem dX1_definitions_126 : decode cX1_definitions 126 = .ok (.istore 6, 2) := by decide +kernel
theorem dX1_definitions_128 : decode cX1_definitions 128 = .ok (.iload 6, 2) := by decide +kernel
theorem dX1_definitions_130 : decode cX1_definitions 130 = .ok (.ldc 11, 2) := by decide +kernel
theorem dX1_definitions_132 : decode cX1_definitions 132 = .ok (.if_icmp .ge 114, 3) := by decide +kernel
theorem dX1_definitions_135 : decode cX1_definitions 135 = .ok (.iload_n 3, 1) := by decide +kernel
theorem dX1_definitions_136 : decode cX1_definitions 136 = .ok (.ifCond .eq 110, 3) := by decide +kernel
theorem dX1_definitions_139 : decode cX1_definitions 139 = .ok (.aload_n 0, 1) := by decide +kernel
theorem dX1_definitions_140 : decode cX1_definitions 140 = .ok (.getfield 65, 3) := by decide +kernel
theorem dX1_definitions_143 : decode cX1_definitions 143 = .ok (.iload_n 3, 1) := by decide +kernel
theorem dX1_definitions_144 : decode cX1_definitions 144 = .ok (.invokevirtual 126, 3) := by decide +kernel
theorem dX1_definitions_147 : decode cX1_definitions 147 = .ok (.istore 7, 2) := by decide +kernel
theorem dX1_definitions_149 : decode cX1_definitions 149 = .ok (.aload_n 0, 1) := by decide +kernel
theorem dX1_definitions_150 : decode cX1_definitions 150 = .ok (.getfield 87, 3) := by decide +kernel
theorem dX1_definitions_153 : decode cX1_definitions 153 = .ok (.iload 7, 2) := by decide +kernel
theorem dX1_definitions_155 : decode cX1_definitions 155 = .ok (.iload_n 2, 1) := by decide +kernel
theorem dX1_definitions_156 : decode cX1_definitions 156 = .ok (.bipush 53, 2) := by decide +kernel
theorem dX1_definitions_158 : decode cX1_definitions 158 = .ok (.if_icmp .ne 8, 3) := by decide +kernel
theorem dX1_definitions_161 : decode cX1_definitions 161 = .ok (.bipush 99, 2) := by decide +kernel
theorem dX1_definitions_163 : decode cX1_definitions 163 = .ok (.goto 4, 3) := by decide +kernel
theorem dX1_definitions_166 : decode cX1_definitions 166 = .ok (.iconst (-1), 1) := by decide +kernel
theorem dX1_definitions_167 : decode cX1_definitions 167 = .ok (.invokevirtual 145, 3) := by decide +kernel
theorem dX1_definitions_170 : decode cX1_definitions 170 = .ok (.istore 8, 2) := by decide +kernel
theorem dX1_definitions_172 : decode cX1_definitions 172 = .ok (.iload_n 2, 1) := by decide +kernel
theorem dX1_definitions_173 : decode cX1_definitions 173 = .ok (.bipush 55, 2) := by decide +kernel
theorem dX1_definitions_175 : decode cX1_definitions 175 = .ok (.if_icmp .ne 23, 3) := by decide +kernel
theorem dX1_definitions_178 : decode cX1_definitions 178 = .ok (.aload_n 0, 1) := by decide +kernel
theorem dX1_definitions_179 : decode cX1_definitions 179 = .ok (.getfield 69, 3) := by decide +kernel
theorem dX1_definitions_182 : decode cX1_definitions 182 = .ok (.aload_n 0, 1) := by decide +kernel
theorem dX1_definitions_183 : decode cX1_definitions 183 = .ok (.getfield 65, 3) := by decide +kernel
theorem dX1_definitions_186 : decode cX1_definitions 186 = .ok (.iload_n 3, 1) := by decide +kernel
theorem dX1_definitions_187 : decode cX1_definitions 187 = .ok (.invokevirtual 132, 3) := by decide +kernel
theorem dX1_definitions_190 : decode cX1_definitions 190 = .ok (.iload 8, 2) := by decide +kernel
theorem dX1_definitions_192 : decode cX1_definitions 192 = .ok (.invokevirtual 148, 3) := by decide +kernel
theorem dX1_definitions_195 : decode cX1_definitions 195 = .ok (.goto 17, 3) := by decide +kernel
theorem dX1_definitions_198 : decode cX1_definitions 198 = .ok (.aload_n 0, 1) := by decide +kernel
theorem dX1_definitions_199 : decode cX1_definitions 199 = .ok (.getfield 78, 3) := by decide +kernel
theorem dX1_definitions_202 : decode cX1_definitions 202 = .ok (.iload 5, 2) := by decide +kernel
theorem dX1_definitions_204 : decode cX1_definitions 204 = .ok (.iload 6, 2) := by decide +kernel
theorem dX1_definitions_206 : decode cX1_definitions 206 = .ok (.iadd, 1) := by decide +kernel
theorem dX1_definitions_207 : decode cX1_definitions 207 = .ok (.iload 8, 2) := by decide +kernel
theorem dX1_definitions_209 : decode cX1_definitions 209 = .ok (.invokevirtual 151, 3) := by decide +kernel
theorem dX1_definitions_212 : decode cX1_definitions 212 = .ok (.iload_n 2, 1) := by decide +kernel
theorem dX1_definitions_213 : decode cX1_definitions 213 = .ok (.bipush 54, 2) := by decide +kernel
theorem dX1_definitions_215 : decode cX1_definitions 215 = .ok (.if_icmp .ne 16, 3) := by decide +kernel
theorem dX1_definitions_218 : decode cX1_definitions 218 = .ok (.aload_n 0, 1) := by decide +kernel
theorem dX1_definitions_219 : decode cX1_definitions 219 = .ok (.getfield 78, 3) := by decide +kernel
theorem dX1_definitions_222 : decode cX1_definitions 222 = .ok (.iload 5, 2) := by decide +kernel
theorem dX1_definitions_224 : decode cX1_definitions 224 = .ok (.iload 6, 2) := by decide +kernel
theorem dX1_definitions_226 : decode cX1_definitions 226 = .ok (.iadd, 1) := by decide +kernel
theorem dX1_definitions_227 : decode cX1_definitions 227 = .ok (.iconst 1, 1) := by decide +kernel
theorem dX1_definitions_228 : decode cX1_definitions 228 = .ok (.invokevirtual 154, 3) := by decide +kernel
theorem dX1_definitions_231 : decode cX1_definitions 231 = .ok (.aload_n 0, 1) := by decide +kernel
theorem dX1_definitions_232 : decode cX1_definitions 232 = .ok (.getfield 65, 3) := by decide +kernel
theorem dX1_definitions_235 : decode cX1_definitions 235 = .ok (.iload_n 3, 1) := by decide +kernel
theorem dX1_definitions_236 : decode cX1_definitions 236 = .ok (.invokevirtual 142, 3) := by decide +kernel
theorem dX1_definitions_239 : decode cX1_definitions 239 = .ok (.istore_n 3, 1) := by decide +kernel
theorem dX1_definitions_240 : decode cX1_definitions 240 = .ok (.iinc 6 1, 3) := by decide +kernel
theorem dX1_definitions_243 : decode cX1_definitions 243 = .ok (.goto (-115), 3) := by decide +kernel
theorem dX1_definitions_246 : decode cX1_definitions 246 = .ok (.return_, 1) := by decide +kernel
def wc_Coder_definitions_167 (Q : cS → Prop) (k128 : cS → Int → Int → Int → Int → Prop) (A0 : cS) (x2 : Int) (x3 : Int) (x5 : Int) (x6 : Int) (y0 : Int) (y1 : Int) : Prop :=
  wc_Constants_number A0 y1 y0 (fun r1 A2 => ((¬ x2 = 55 → (zR (x5 + x6)) ∧ wc_Scope_setData A2 (x5 + x6) r1 (fun A14 => ((¬ x2 = 54 → wc_Tree_next A14 x3 (fun r23 A24 => (zR (x6 + 1)) ∧ k128 A24 x2 r23 x5 (x6 + 1))) ∧ (x2 = 54 → wc_Scope_setOwner A14 (x5 + x6) 1 (fun A35 => wc_Tree_next A35 x3 (fun r42 A43 => (zR (x6 + 1)) ∧ k128 A43 x2 r42 x5 (x6 + 1))))))) ∧ (x2 = 55 → wc_Tree_extra A2 x3 (fun r53 A54 => wc_Program_setWord A54 r53 r1 (fun A62 => ((¬ x2 = 54 → wc_Tree_next A62 x3 (fun r71 A72 => (zR (x6 + 1)) ∧ k128 A72 x2 r71 x5 (x6 + 1))) ∧ (x2 = 54 → (zR (x5 + x6)) ∧ wc_Scope_setOwner A62 (x5 + x6) 1 (fun A85 => wc_Tree_next A85 x3 (fun r92 A93 => (zR (x6 + 1)) ∧ k128 A93 x2 r92 x5 (x6 + 1))))))))))
def wc_Coder_definitions_128B (Q : cS → Prop) (k128 : cS → Int → Int → Int → Int → Prop) (A0 : cS) (x2 : Int) (x3 : Int) (x5 : Int) (x6 : Int) : Prop :=
  ((1000000 ≤ x6 → Q A0) ∧ (¬ 1000000 ≤ x6 → ((x3 = 0 → Q A0) ∧ (¬ x3 = 0 → wc_Tree_first A0 x3 (fun r7 A8 => ((¬ x2 = 53 → wc_Coder_definitions_167 Q k128 A8 x2 x3 x5 x6 (-1) r7) ∧ (x2 = 53 → wc_Coder_definitions_167 Q k128 A8 x2 x3 x5 x6 99 r7)))))))
def wc_Coder_definitions_128 (Q : cS → Prop)  : Nat → cS → Int → Int → Int → Int → Prop
  | 0 => fun _ _ _ _ _ => False
  | m + 1 => fun A0 x2 x3 x5 x6 => wc_Coder_definitions_128B Q  (wc_Coder_definitions_128 Q  m) A0 x2 x3 x5 x6
def wc_Coder_definitions_49 (Q : cS → Prop) (k27 : cS → Int → Int → Int → Int → Int → Prop) (A0 : cS) (x1 : Int) (x2 : Int) (x3 : Int) (x5 : Int) (x6 : Int) (y0 : Int) : Prop :=
  wc_Tree_data A0 x3 (fun r1 A2 => wc_Tree_extra A2 x3 (fun r9 A10 => wc_Tree_place A10 x3 (fun r17 A18 => wc_Scope_declare A18 r1 y0 r9 0 r17 (fun r25 A26 => ((0 ≤ x5 → wc_Tree_next A26 x3 (fun r35 A36 => (zR (x6 + 1)) ∧ k27 A36 x1 x2 r35 x5 (x6 + 1))) ∧ (¬ 0 ≤ x5 → wc_Tree_next A26 x3 (fun r46 A47 => (zR (x6 + 1)) ∧ k27 A47 x1 x2 r46 r25 (x6 + 1))))))))
def wc_Coder_definitions_27B (Q : cS → Prop) (k27 : cS → Int → Int → Int → Int → Int → Prop) (A0 : cS) (x1 : Int) (x2 : Int) (x3 : Int) (x5 : Int) (x6 : Int) : Prop :=
  ((1000000 ≤ x6 → wc_Tree_first A0 x1 (fun r3 A4 => ∃ n, wc_Coder_definitions_128 Q  n A4 x2 r3 x5 0)) ∧ (¬ 1000000 ≤ x6 → ((x3 = 0 → wc_Tree_first A0 x1 (fun r16 A17 => ∃ n, wc_Coder_definitions_128 Q  n A17 x2 r16 x5 0)) ∧ (¬ x3 = 0 → ((¬ x2 = 54 → wc_Coder_definitions_49 Q k27 A0 x1 x2 x3 x5 x6 1) ∧ (x2 = 54 → wc_Coder_definitions_49 Q k27 A0 x1 x2 x3 x5 x6 4))))))
def wc_Coder_definitions_27 (Q : cS → Prop)  : Nat → cS → Int → Int → Int → Int → Int → Prop
  | 0 => fun _ _ _ _ _ _ => False
  | m + 1 => fun A0 x1 x2 x3 x5 x6 => wc_Coder_definitions_27B Q  (wc_Coder_definitions_27 Q  m) A0 x1 x2 x3 x5 x6
def wc_Coder_definitions (A0 : cS) (a0 : Int) (Q : cS → Prop) : Prop :=
  wc_Tree_kind A0 a0 (fun r1 A2 => wc_Tree_first A2 a0 (fun r9 A10 => ∃ n, wc_Coder_definitions_27 Q  n A10 a0 r1 r9 (-1) 0))
set_option maxHeartbeats 4000000 in
set_option maxRecDepth 100000 in
theorem cj_Coder_definitions_167 {X : gX} {d : gD} {b : Nat} {Y : gYt} {c : Nat × Nat} {F0 : gM} {S0 : gSt} {mc ms : Nat} (hC : gC RX1 cX1_definitions 9 none "definitions" (gR 629 mc ms) d b X) (hr : hRm X b) {Q : cS → Prop} {k128 : cS → Int → Int → Int → Int → Prop} (hk128 : ∀ (u : hU) (S : gSt) (A0 : cS) (x2 : Int) (x3 : Int) (x5 : Int) (x6 : Int), zR x2 → zR x3 → zR x5 → zR x6 → yOk X b u → yZ d b Y c F0 S0 u S A0 → k128 A0 x2 x3 x5 x6 → yG X d b (yQv X d b Y c F0 S0 mc ms Q) u 128 [some (.ref (gO' Y 5)), none, some (.int (zI x2)), some (.int (zI x3)), none, some (.int (zI x5)), some (.int (zI x6)), none, none] []) {u : hU} {S : gSt} {A0 : cS} {x2 : Int} {x3 : Int} {x5 : Int} {x6 : Int} {y0 : Int} {y1 : Int} (Rx2 : zR x2) (Rx3 : zR x3) (Rx5 : zR x5) (Rx6 : zR x6) (Ry0 : zR y0) (Ry1 : zR y1) (ho : yOk X b u) (hZ : yZ d b Y c F0 S0 u S A0) (hw : wc_Coder_definitions_167 Q k128 A0 x2 x3 x5 x6 y0 y1) : yG X d b (yQv X d b Y c F0 S0 mc ms Q) u 167 [some (.ref (gO' Y 5)), none, some (.int (zI x2)), some (.int (zI x3)), none, some (.int (zI x5)), some (.int (zI x6)), none, none] [.int (zI y0), .int (zI y1), .ref (gO' Y 9)] := by
  unfold wc_Coder_definitions_167 at hw
  refine yr_callVi (As := [.int (zI y1), .int (zI y0)]) hC hr ho hZ rfl (hZ.w.o 9 (by decide)) (cm_Constants_number X.la d b Ry1 Ry0 hZ.rs hw) cl_X1_145 rfl rfl (Nat.le_of_ble_eq_true rfl) (hFr_of (Nat.le_of_ble_eq_true rfl) (Nat.le_of_ble_eq_true rfl)) dX1_definitions_167 (fun r1 A2 u3 S4 R5 o6 hZ7 h8 => ?_)
  refine h_istore (lv' := [some (.ref (gO' Y 5)), none, some (.int (zI x2)), some (.int (zI x3)), none, some (.int (zI x5)), some (.int (zI x6)), none, some (.int (zI r1))]) hC dX1_definitions_170 (Nat.le_of_ble_eq_true rfl) rfl rfl ?_
  refine h_iload_n hC dX1_definitions_172 rfl ?_
  refine h_bipush (v := zI 55) hC dX1_definitions_173 rfl ?_
  refine yr_icmp_ne (tgt := 198) hC Rx2 (by decide) dX1_definitions_175 (by decide) (fun c9 => ?_) (fun c9 => ?_)
  · have h10 := h8.1 c9
    refine h_aload_n hC dX1_definitions_198 rfl ?_
    refine h_get hC fl_X1_78 (hZ7.w.o 5 (by decide)) rfl dX1_definitions_199 ?_
    refine h_iload hC dX1_definitions_202 rfl ?_
    refine h_iload hC dX1_definitions_204 rfl ?_
    refine yr_iadd hC dX1_definitions_206 ?_
    refine h_iload hC dX1_definitions_207 rfl ?_
    obtain ⟨o11, h12⟩ := h10
    refine yr_callVv (As := [.int (zI (x5 + x6)), .int (zI r1)]) hC hr o6 hZ7 rfl (hZ7.w.o 8 (by decide)) (cm_Scope_setData X.la d b o11 R5 hZ7.rs h12) cl_X1_151 rfl rfl (Nat.le_of_ble_eq_true rfl) (hFr_of (Nat.le_of_ble_eq_true rfl) (Nat.le_of_ble_eq_true rfl)) dX1_definitions_209 (fun A14 u15 S16 o18 hZ19 h20 => ?_)
    refine h_iload_n hC dX1_definitions_212 rfl ?_
    refine h_bipush (v := zI 54) hC dX1_definitions_213 rfl ?_
    refine yr_icmp_ne (tgt := 231) hC Rx2 (by decide) dX1_definitions_215 (by decide) (fun c21 => ?_) (fun c21 => ?_)
    · have h22 := h20.1 c21
      refine h_aload_n hC dX1_definitions_231 rfl ?_
      refine h_get hC fl_X1_65 (hZ19.w.o 5 (by decide)) rfl dX1_definitions_232 ?_
      refine h_iload_n hC dX1_definitions_235 rfl ?_
      refine yr_callVi (As := [.int (zI x3)]) hC hr o18 hZ19 rfl (hZ19.w.o 2 (by decide)) (cm_Tree_next X.la d b Rx3 hZ19.rs h22) cl_X1_142 rfl rfl (Nat.le_of_ble_eq_true rfl) (hFr_of (Nat.le_of_ble_eq_true rfl) (Nat.le_of_ble_eq_true rfl)) dX1_definitions_236 (fun r23 A24 u25 S26 R27 o28 hZ29 h30 => ?_)
      refine h_istore_n (lv' := [some (.ref (gO' Y 5)), none, some (.int (zI x2)), some (.int (zI r23)), none, some (.int (zI x5)), some (.int (zI x6)), none, some (.int (zI r1))]) hC dX1_definitions_239 (Nat.le_of_ble_eq_true rfl) rfl rfl ?_
      refine yr_iinc (x := x6) (lv' := [some (.ref (gO' Y 5)), none, some (.int (zI x2)), some (.int (zI r23)), none, some (.int (zI x5)), some (.int (zI (x6 + 1))), none, some (.int (zI r1))]) hC dX1_definitions_240 rfl rfl rfl ?_
      refine h_goto (tgt := 128) hC dX1_definitions_243 (by decide) ?_
      obtain ⟨o31, h32⟩ := h30
      refine h_lv (lv' := [some (.ref (gO' Y 5)), none, some (.int (zI x2)), some (.int (zI r23)), none, some (.int (zI x5)), some (.int (zI (x6 + 1))), none, none]) ⟨rfl, rfl, rfl, rfl, rfl, trivial⟩ ?_
      exact hk128 _ _ _ _ _ _ _ Rx2 R27 Rx5 o31 o28 hZ29 h32
    · have h33 := h20.2 c21
      refine h_aload_n hC dX1_definitions_218 rfl ?_
      refine h_get hC fl_X1_78 (hZ19.w.o 5 (by decide)) rfl dX1_definitions_219 ?_
      refine h_iload hC dX1_definitions_222 rfl ?_
      refine h_iload hC dX1_definitions_224 rfl ?_
      refine yr_iadd hC dX1_definitions_226 ?_
      refine h_iconst (v := zI 1) hC dX1_definitions_227 rfl ?_
      refine yr_callVv (As := [.int (zI (x5 + x6)), .int (zI 1)]) hC hr o18 hZ19 rfl (hZ19.w.o 8 (by decide)) (cm_Scope_setOwner X.la d b o11 (by decide) hZ19.rs h33) cl_X1_154 rfl rfl (Nat.le_of_ble_eq_true rfl) (hFr_of (Nat.le_of_ble_eq_true rfl) (Nat.le_of_ble_eq_true rfl)) dX1_definitions_228 (fun A35 u36 S37 o39 hZ40 h41 => ?_)
      refine h_aload_n hC dX1_definitions_231 rfl ?_
      refine h_get hC fl_X1_65 (hZ40.w.o 5 (by decide)) rfl dX1_definitions_232 ?_
      refine h_iload_n hC dX1_definitions_235 rfl ?_
      refine yr_callVi (As := [.int (zI x3)]) hC hr o39 hZ40 rfl (hZ40.w.o 2 (by decide)) (cm_Tree_next X.la d b Rx3 hZ40.rs h41) cl_X1_142 rfl rfl (Nat.le_of_ble_eq_true rfl) (hFr_of (Nat.le_of_ble_eq_true rfl) (Nat.le_of_ble_eq_true rfl)) dX1_definitions_236 (fun r42 A43 u44 S45 R46 o47 hZ48 h49 => ?_)
      refine h_istore_n (lv' := [some (.ref (gO' Y 5)), none, some (.int (zI x2)), some (.int (zI r42)), none, some (.int (zI x5)), some (.int (zI x6)), none, some (.int (zI r1))]) hC dX1_definitions_239 (Nat.le_of_ble_eq_true rfl) rfl rfl ?_
      refine yr_iinc (x := x6) (lv' := [some (.ref (gO' Y 5)), none, some (.int (zI x2)), some (.int (zI r42)), none, some (.int (zI x5)), some (.int (zI (x6 + 1))), none, some (.int (zI r1))]) hC dX1_definitions_240 rfl rfl rfl ?_
      refine h_goto (tgt := 128) hC dX1_definitions_243 (by decide) ?_
      obtain ⟨o50, h51⟩ := h49
      refine h_lv (lv' := [some (.ref (gO' Y 5)), none, some (.int (zI x2)), some (.int (zI r42)), none, some (.int (zI x5)), some (.int (zI (x6 + 1))), none, none]) ⟨rfl, rfl, rfl, rfl, rfl, trivial⟩ ?_
      exact hk128 _ _ _ _ _ _ _ Rx2 R46 Rx5 o50 o47 hZ48 h51
  · have h52 := h8.2 c9
    refine h_aload_n hC dX1_definitions_178 rfl ?_
    refine h_get hC fl_X1_69 (hZ7.w.o 5 (by decide)) rfl dX1_definitions_179 ?_
    refine h_aload_n hC dX1_definitions_182 rfl ?_
    refine h_get hC fl_X1_65 (hZ7.w.o 5 (by decide)) rfl dX1_definitions_183 ?_
    refine h_iload_n hC dX1_definitions_186 rfl ?_
    refine yr_callVi (As := [.int (zI x3)]) hC hr o6 hZ7 rfl (hZ7.w.o 2 (by decide)) (cm_Tree_extra X.la d b Rx3 hZ7.rs h52) cl_X1_132 rfl rfl (Nat.le_of_ble_eq_true rfl) (hFr_of (Nat.le_of_ble_eq_true rfl) (Nat.le_of_ble_eq_true rfl)) dX1_definitions_187 (fun r53 A54 u55 S56 R57 o58 hZ59 h60 => ?_)
    refine h_iload hC dX1_definitions_190 rfl ?_
    refine yr_callVv (As := [.int (zI r53), .int (zI r1)]) hC hr o58 hZ59 rfl (hZ59.w.o 1 (by decide)) (cm_Program_setWord X.la d b R57 R5 hZ59.rs h60) cl_X1_148 rfl rfl (Nat.le_of_ble_eq_true rfl) (hFr_of (Nat.le_of_ble_eq_true rfl) (Nat.le_of_ble_eq_true rfl)) dX1_definitions_192 (fun A62 u63 S64 o66 hZ67 h68 => ?_)
    refine h_goto (tgt := 212) hC dX1_definitions_195 (by decide) ?_
    refine h_iload_n hC dX1_definitions_212 rfl ?_
    refine h_bipush (v := zI 54) hC dX1_definitions_213 rfl ?_
    refine yr_icmp_ne (tgt := 231) hC Rx2 (by decide) dX1_definitions_215 (by decide) (fun c69 => ?_) (fun c69 => ?_)
    · have h70 := h68.1 c69
      refine h_aload_n hC dX1_definitions_231 rfl ?_
      refine h_get hC fl_X1_65 (hZ67.w.o 5 (by decide)) rfl dX1_definitions_232 ?_
      refine h_iload_n hC dX1_definitions_235 rfl ?_
      refine yr_callVi (As := [.int (zI x3)]) hC hr o66 hZ67 rfl (hZ67.w.o 2 (by decide)) (cm_Tree_next X.la d b Rx3 hZ67.rs h70) cl_X1_142 rfl rfl (Nat.le_of_ble_eq_true rfl) (hFr_of (Nat.le_of_ble_eq_true rfl) (Nat.le_of_ble_eq_true rfl)) dX1_definitions_236 (fun r71 A72 u73 S74 R75 o76 hZ77 h78 => ?_)
      refine h_istore_n (lv' := [some (.ref (gO' Y 5)), none, some (.int (zI x2)), some (.int (zI r71)), none, some (.int (zI x5)), some (.int (zI x6)), none, some (.int (zI r1))]) hC dX1_definitions_239 (Nat.le_of_ble_eq_true rfl) rfl rfl ?_
      refine yr_iinc (x := x6) (lv' := [some (.ref (gO' Y 5)), none, some (.int (zI x2)), some (.int (zI r71)), none, some (.int (zI x5)), some (.int (zI (x6 + 1))), none, some (.int (zI r1))]) hC dX1_definitions_240 rfl rfl rfl ?_
      refine h_goto (tgt := 128) hC dX1_definitions_243 (by decide) ?_
      obtain ⟨o79, h80⟩ := h78
      refine h_lv (lv' := [some (.ref (gO' Y 5)), none, some (.int (zI x2)), some (.int (zI r71)), none, some (.int (zI x5)), some (.int (zI (x6 + 1))), none, none]) ⟨rfl, rfl, rfl, rfl, rfl, trivial⟩ ?_
      exact hk128 _ _ _ _ _ _ _ Rx2 R75 Rx5 o79 o76 hZ77 h80
    · have h81 := h68.2 c69
      refine h_aload_n hC dX1_definitions_218 rfl ?_
      refine h_get hC fl_X1_78 (hZ67.w.o 5 (by decide)) rfl dX1_definitions_219 ?_
      refine h_iload hC dX1_definitions_222 rfl ?_
      refine h_iload hC dX1_definitions_224 rfl ?_
      refine yr_iadd hC dX1_definitions_226 ?_
      refine h_iconst (v := zI 1) hC dX1_definitions_227 rfl ?_
      obtain ⟨o82, h83⟩ := h81
      refine yr_callVv (As := [.int (zI (x5 + x6)), .int (zI 1)]) hC hr o66 hZ67 rfl (hZ67.w.o 8 (by decide)) (cm_Scope_setOwner X.la d b o82 (by decide) hZ67.rs h83) cl_X1_154 rfl rfl (Nat.le_of_ble_eq_true rfl) (hFr_of (Nat.le_of_ble_eq_true rfl) (Nat.le_of_ble_eq_true rfl)) dX1_definitions_228 (fun A85 u86 S87 o89 hZ90 h91 => ?_)
      refine h_aload_n hC dX1_definitions_231 rfl ?_
      refine h_get hC fl_X1_65 (hZ90.w.o 5 (by decide)) rfl dX1_definitions_232 ?_
      refine h_iload_n hC dX1_definitions_235 rfl ?_
      refine yr_callVi (As := [.int (zI x3)]) hC hr o89 hZ90 rfl (hZ90.w.o 2 (by decide)) (cm_Tree_next X.la d b Rx3 hZ90.rs h91) cl_X1_142 rfl rfl (Nat.le_of_ble_eq_true rfl) (hFr_of (Nat.le_of_ble_eq_true rfl) (Nat.le_of_ble_eq_true rfl)) dX1_definitions_236 (fun r92 A93 u94 S95 R96 o97 hZ98 h99 => ?_)
      refine h_istore_n (lv' := [some (.ref (gO' Y 5)), none, some (.int (zI x2)), some (.int (zI r92)), none, some (.int (zI x5)), some (.int (zI x6)), none, some (.int (zI r1))]) hC dX1_definitions_239 (Nat.le_of_ble_eq_true rfl) rfl rfl ?_
      refine yr_iinc (x := x6) (lv' := [some (.ref (gO' Y 5)), none, some (.int (zI x2)), some (.int (zI r92)), none, some (.int (zI x5)), some (.int (zI (x6 + 1))), none, some (.int (zI r1))]) hC dX1_definitions_240 rfl rfl rfl ?_
      refine h_goto (tgt := 128) hC dX1_definitions_243 (by decide) ?_
      obtain ⟨o100, h101⟩ := h99
      refine h_lv (lv' := [some (.ref (gO' Y 5)), none, some (.int (zI x2)), some (.int (zI r92)), none, some (.int (zI x5)), some (.int (zI (x6 + 1))), none, none]) ⟨rfl, rfl, rfl, rfl, rfl, trivial⟩ ?_
      exact hk128 _ _ _ _ _ _ _ Rx2 R96 Rx5 o100 o97 hZ98 h101
set_option maxHeartbeats 4000000 in
set_option maxRecDepth 100000 in
theorem cb_Coder_definitions_128 {X : gX} {d : gD} {b : Nat} {Y : gYt} {c : Nat × Nat} {F0 : gM} {S0 : gSt} {mc ms : Nat} (hC : gC RX1 cX1_definitions 9 none "definitions" (gR 629 mc ms) d b X) (hr : hRm X b) {Q : cS → Prop} {k128 : cS → Int → Int → Int → Int → Prop} (hk128 : ∀ (u : hU) (S : gSt) (A0 : cS) (x2 : Int) (x3 : Int) (x5 : Int) (x6 : Int), zR x2 → zR x3 → zR x5 → zR x6 → yOk X b u → yZ d b Y c F0 S0 u S A0 → k128 A0 x2 x3 x5 x6 → yG X d b (yQv X d b Y c F0 S0 mc ms Q) u 128 [some (.ref (gO' Y 5)), none, some (.int (zI x2)), some (.int (zI x3)), none, some (.int (zI x5)), some (.int (zI x6)), none, none] []) {u : hU} {S : gSt} {A0 : cS} {x2 : Int} {x3 : Int} {x5 : Int} {x6 : Int} (Rx2 : zR x2) (Rx3 : zR x3) (Rx5 : zR x5) (Rx6 : zR x6) (ho : yOk X b u) (hZ : yZ d b Y c F0 S0 u S A0) (hw : wc_Coder_definitions_128B Q k128 A0 x2 x3 x5 x6) : yG X d b (yQv X d b Y c F0 S0 mc ms Q) u 128 [some (.ref (gO' Y 5)), none, some (.int (zI x2)), some (.int (zI x3)), none, some (.int (zI x5)), some (.int (zI x6)), none, none] [] := by
  unfold wc_Coder_definitions_128B at hw
  refine h_iload hC dX1_definitions_128 rfl ?_
  refine yr_ldc (e := 1000000) hC dX1_definitions_130 kw_576 (by decide) ?_
  refine yr_icmp_ge (tgt := 246) hC Rx6 (by decide) dX1_definitions_132 (by decide) (fun c1 => ?_) (fun c1 => ?_)
  · have h2 := hw.1 c1
    exact yr_vret hC hr ho hZ h2 dX1_definitions_246
  · have h3 := hw.2 c1
    refine h_iload_n hC dX1_definitions_135 rfl ?_
    refine yr_if_eq (tgt := 246) hC Rx3 dX1_definitions_136 (by decide) (fun c4 => ?_) (fun c4 => ?_)
    · have h5 := h3.1 c4
      exact yr_vret hC hr ho hZ h5 dX1_definitions_246
    · have h6 := h3.2 c4
      refine h_aload_n hC dX1_definitions_139 rfl ?_
      refine h_get hC fl_X1_65 (hZ.w.o 5 (by decide)) rfl dX1_definitions_140 ?_
      refine h_iload_n hC dX1_definitions_143 rfl ?_
      refine yr_callVi (As := [.int (zI x3)]) hC hr ho hZ rfl (hZ.w.o 2 (by decide)) (cm_Tree_first X.la d b Rx3 hZ.rs h6) cl_X1_126 rfl rfl (Nat.le_of_ble_eq_true rfl) (hFr_of (Nat.le_of_ble_eq_true rfl) (Nat.le_of_ble_eq_true rfl)) dX1_definitions_144 (fun r7 A8 u9 S10 R11 o12 hZ13 h14 => ?_)
      refine h_istore (lv' := [some (.ref (gO' Y 5)), none, some (.int (zI x2)), some (.int (zI x3)), none, some (.int (zI x5)), some (.int (zI x6)), some (.int (zI r7)), none]) hC dX1_definitions_147 (Nat.le_of_ble_eq_true rfl) rfl rfl ?_
      refine h_aload_n hC dX1_definitions_149 rfl ?_
      refine h_get hC fl_X1_87 (hZ13.w.o 5 (by decide)) rfl dX1_definitions_150 ?_
      refine h_iload hC dX1_definitions_153 rfl ?_
      refine h_iload_n hC dX1_definitions_155 rfl ?_
      refine h_bipush (v := zI 53) hC dX1_definitions_156 rfl ?_
      refine yr_icmp_ne (tgt := 166) hC Rx2 (by decide) dX1_definitions_158 (by decide) (fun c15 => ?_) (fun c15 => ?_)
      · have h16 := h14.1 c15
        refine h_iconst (v := zI (-1)) hC dX1_definitions_166 rfl ?_
        refine h_lv (lv' := [some (.ref (gO' Y 5)), none, some (.int (zI x2)), some (.int (zI x3)), none, some (.int (zI x5)), some (.int (zI x6)), none, none]) ⟨rfl, rfl, rfl, rfl, rfl, trivial⟩ ?_
        exact cj_Coder_definitions_167 hC hr hk128 Rx2 Rx3 Rx5 Rx6 (by decide) R11 o12 hZ13 h16
      · have h17 := h14.2 c15
        refine h_bipush (v := zI 99) hC dX1_definitions_161 rfl ?_
        refine h_goto (tgt := 167) hC dX1_definitions_163 (by decide) ?_
        refine h_lv (lv' := [some (.ref (gO' Y 5)), none, some (.int (zI x2)), some (.int (zI x3)), none, some (.int (zI x5)), some (.int (zI x6)), none, none]) ⟨rfl, rfl, rfl, rfl, rfl, trivial⟩ ?_
        exact cj_Coder_definitions_167 hC hr hk128 Rx2 Rx3 Rx5 Rx6 (by decide) R11 o12 hZ13 h17
theorem cl_Coder_definitions_128 {X : gX} {d : gD} {b : Nat} {Y : gYt} {c : Nat × Nat} {F0 : gM} {S0 : gSt} {mc ms : Nat} (hC : gC RX1 cX1_definitions 9 none "definitions" (gR 629 mc ms) d b X) (hr : hRm X b) {Q : cS → Prop}   : ∀ (m : Nat) (u : hU) (S : gSt) (A0 : cS) (x2 : Int) (x3 : Int) (x5 : Int) (x6 : Int), zR x2 → zR x3 → zR x5 → zR x6 → yOk X b u → yZ d b Y c F0 S0 u S A0 → wc_Coder_definitions_128 Q  m A0 x2 x3 x5 x6 → yG X d b (yQv X d b Y c F0 S0 mc ms Q) u 128 [some (.ref (gO' Y 5)), none, some (.int (zI x2)), some (.int (zI x3)), none, some (.int (zI x5)), some (.int (zI x6)), none, none] [] := by
  intro m
  induction m with
  | zero => intro u S A0 x2 x3 x5 x6 Rx2 Rx3 Rx5 Rx6 ho hZ hw; exact False.elim hw
  | succ m ihm => intro u S A0 x2 x3 x5 x6 Rx2 Rx3 Rx5 Rx6 ho hZ hw; exact cb_Coder_definitions_128 hC hr  ihm Rx2 Rx3 Rx5 Rx6 ho hZ hw
set_option maxHeartbeats 4000000 in
set_option maxRecDepth 100000 in
theorem cj_Coder_definitions_49 {X : gX} {d : gD} {b : Nat} {Y : gYt} {c : Nat × Nat} {F0 : gM} {S0 : gSt} {mc ms : Nat} (hC : gC RX1 cX1_definitions 9 none "definitions" (gR 629 mc ms) d b X) (hr : hRm X b) {Q : cS → Prop} {k27 : cS → Int → Int → Int → Int → Int → Prop} (hk27 : ∀ (u : hU) (S : gSt) (A0 : cS) (x1 : Int) (x2 : Int) (x3 : Int) (x5 : Int) (x6 : Int), zR x1 → zR x2 → zR x3 → zR x5 → zR x6 → yOk X b u → yZ d b Y c F0 S0 u S A0 → k27 A0 x1 x2 x3 x5 x6 → yG X d b (yQv X d b Y c F0 S0 mc ms Q) u 27 [some (.ref (gO' Y 5)), some (.int (zI x1)), some (.int (zI x2)), some (.int (zI x3)), none, some (.int (zI x5)), some (.int (zI x6)), none, none] []) {u : hU} {S : gSt} {A0 : cS} {x1 : Int} {x2 : Int} {x3 : Int} {x5 : Int} {x6 : Int} {y0 : Int} (Rx1 : zR x1) (Rx2 : zR x2) (Rx3 : zR x3) (Rx5 : zR x5) (Rx6 : zR x6) (Ry0 : zR y0) (ho : yOk X b u) (hZ : yZ d b Y c F0 S0 u S A0) (hw : wc_Coder_definitions_49 Q k27 A0 x1 x2 x3 x5 x6 y0) : yG X d b (yQv X d b Y c F0 S0 mc ms Q) u 49 [some (.ref (gO' Y 5)), some (.int (zI x1)), some (.int (zI x2)), some (.int (zI x3)), none, some (.int (zI x5)), some (.int (zI x6)), none, none] [.int (zI y0)] := by
  unfold wc_Coder_definitions_49 at hw
  refine h_istore (lv' := [some (.ref (gO' Y 5)), some (.int (zI x1)), some (.int (zI x2)), some (.int (zI x3)), none, some (.int (zI x5)), some (.int (zI x6)), some (.int (zI y0)), none]) hC dX1_definitions_49 (Nat.le_of_ble_eq_true rfl) rfl rfl ?_
  refine h_aload_n hC dX1_definitions_51 rfl ?_
  refine h_get hC fl_X1_78 (hZ.w.o 5 (by decide)) rfl dX1_definitions_52 ?_
  refine h_aload_n hC dX1_definitions_55 rfl ?_
  refine h_get hC fl_X1_65 (hZ.w.o 5 (by decide)) rfl dX1_definitions_56 ?_
  refine h_iload_n hC dX1_definitions_59 rfl ?_
  refine yr_callVi (As := [.int (zI x3)]) hC hr ho hZ rfl (hZ.w.o 2 (by decide)) (cm_Tree_data X.la d b Rx3 hZ.rs hw) cl_X1_129 rfl rfl (Nat.le_of_ble_eq_true rfl) (hFr_of (Nat.le_of_ble_eq_true rfl) (Nat.le_of_ble_eq_true rfl)) dX1_definitions_60 (fun r1 A2 u3 S4 R5 o6 hZ7 h8 => ?_)
  refine h_iload hC dX1_definitions_63 rfl ?_
  refine h_aload_n hC dX1_definitions_65 rfl ?_
  refine h_get hC fl_X1_65 (hZ7.w.o 5 (by decide)) rfl dX1_definitions_66 ?_
  refine h_iload_n hC dX1_definitions_69 rfl ?_
  refine yr_callVi (As := [.int (zI x3)]) hC hr o6 hZ7 rfl (hZ7.w.o 2 (by decide)) (cm_Tree_extra X.la d b Rx3 hZ7.rs h8) cl_X1_132 rfl rfl (Nat.le_of_ble_eq_true rfl) (hFr_of (Nat.le_of_ble_eq_true rfl) (Nat.le_of_ble_eq_true rfl)) dX1_definitions_70 (fun r9 A10 u11 S12 R13 o14 hZ15 h16 => ?_)
  refine h_iconst (v := zI 0) hC dX1_definitions_73 rfl ?_
  refine h_aload_n hC dX1_definitions_74 rfl ?_
  refine h_get hC fl_X1_65 (hZ15.w.o 5 (by decide)) rfl dX1_definitions_75 ?_
  refine h_iload_n hC dX1_definitions_78 rfl ?_
  refine yr_callVi (As := [.int (zI x3)]) hC hr o14 hZ15 rfl (hZ15.w.o 2 (by decide)) (cm_Tree_place X.la d b Rx3 hZ15.rs h16) cl_X1_135 rfl rfl (Nat.le_of_ble_eq_true rfl) (hFr_of (Nat.le_of_ble_eq_true rfl) (Nat.le_of_ble_eq_true rfl)) dX1_definitions_79 (fun r17 A18 u19 S20 R21 o22 hZ23 h24 => ?_)
  refine yr_callVi (As := [.int (zI r1), .int (zI y0), .int (zI r9), .int (zI 0), .int (zI r17)]) hC hr o22 hZ23 rfl (hZ23.w.o 8 (by decide)) (cm_Scope_declare X.la d b R5 Ry0 R13 (by decide) R21 hZ23.rs h24) cl_X1_138 rfl rfl (Nat.le_of_ble_eq_true rfl) (hFr_of (Nat.le_of_ble_eq_true rfl) (Nat.le_of_ble_eq_true rfl)) dX1_definitions_82 (fun r25 A26 u27 S28 R29 o30 hZ31 h32 => ?_)
  refine h_istore (lv' := [some (.ref (gO' Y 5)), some (.int (zI x1)), some (.int (zI x2)), some (.int (zI x3)), some (.int (zI r25)), some (.int (zI x5)), some (.int (zI x6)), some (.int (zI y0)), none]) hC dX1_definitions_85 (Nat.le_of_ble_eq_true rfl) rfl rfl ?_
  refine h_iload hC dX1_definitions_87 rfl ?_
  refine yr_if_ge (tgt := 97) hC Rx5 dX1_definitions_89 (by decide) (fun c33 => ?_) (fun c33 => ?_)
  · have h34 := h32.1 c33
    refine h_iload hC dX1_definitions_97 rfl ?_
    refine h_istore (lv' := [some (.ref (gO' Y 5)), some (.int (zI x1)), some (.int (zI x2)), some (.int (zI x3)), some (.int (zI r25)), some (.int (zI x5)), some (.int (zI x6)), some (.int (zI y0)), none]) hC dX1_definitions_99 (Nat.le_of_ble_eq_true rfl) rfl rfl ?_
    refine h_aload_n hC dX1_definitions_101 rfl ?_
    refine h_get hC fl_X1_65 (hZ31.w.o 5 (by decide)) rfl dX1_definitions_102 ?_
    refine h_iload_n hC dX1_definitions_105 rfl ?_
    refine yr_callVi (As := [.int (zI x3)]) hC hr o30 hZ31 rfl (hZ31.w.o 2 (by decide)) (cm_Tree_next X.la d b Rx3 hZ31.rs h34) cl_X1_142 rfl rfl (Nat.le_of_ble_eq_true rfl) (hFr_of (Nat.le_of_ble_eq_true rfl) (Nat.le_of_ble_eq_true rfl)) dX1_definitions_106 (fun r35 A36 u37 S38 R39 o40 hZ41 h42 => ?_)
    refine h_istore_n (lv' := [some (.ref (gO' Y 5)), some (.int (zI x1)), some (.int (zI x2)), some (.int (zI r35)), some (.int (zI r25)), some (.int (zI x5)), some (.int (zI x6)), some (.int (zI y0)), none]) hC dX1_definitions_109 (Nat.le_of_ble_eq_true rfl) rfl rfl ?_
    refine yr_iinc (x := x6) (lv' := [some (.ref (gO' Y 5)), some (.int (zI x1)), some (.int (zI x2)), some (.int (zI r35)), some (.int (zI r25)), some (.int (zI x5)), some (.int (zI (x6 + 1))), some (.int (zI y0)), none]) hC dX1_definitions_110 rfl rfl rfl ?_
    refine h_goto (tgt := 27) hC dX1_definitions_113 (by decide) ?_
    obtain ⟨o43, h44⟩ := h42
    refine h_lv (lv' := [some (.ref (gO' Y 5)), some (.int (zI x1)), some (.int (zI x2)), some (.int (zI r35)), none, some (.int (zI x5)), some (.int (zI (x6 + 1))), none, none]) ⟨rfl, rfl, rfl, rfl, rfl, rfl, trivial⟩ ?_
    exact hk27 _ _ _ _ _ _ _ _ Rx1 Rx2 R39 Rx5 o43 o40 hZ41 h44
  · have h45 := h32.2 c33
    refine h_iload hC dX1_definitions_92 rfl ?_
    refine h_goto (tgt := 99) hC dX1_definitions_94 (by decide) ?_
    refine h_istore (lv' := [some (.ref (gO' Y 5)), some (.int (zI x1)), some (.int (zI x2)), some (.int (zI x3)), some (.int (zI r25)), some (.int (zI r25)), some (.int (zI x6)), some (.int (zI y0)), none]) hC dX1_definitions_99 (Nat.le_of_ble_eq_true rfl) rfl rfl ?_
    refine h_aload_n hC dX1_definitions_101 rfl ?_
    refine h_get hC fl_X1_65 (hZ31.w.o 5 (by decide)) rfl dX1_definitions_102 ?_
    refine h_iload_n hC dX1_definitions_105 rfl ?_
    refine yr_callVi (As := [.int (zI x3)]) hC hr o30 hZ31 rfl (hZ31.w.o 2 (by decide)) (cm_Tree_next X.la d b Rx3 hZ31.rs h45) cl_X1_142 rfl rfl (Nat.le_of_ble_eq_true rfl) (hFr_of (Nat.le_of_ble_eq_true rfl) (Nat.le_of_ble_eq_true rfl)) dX1_definitions_106 (fun r46 A47 u48 S49 R50 o51 hZ52 h53 => ?_)
    refine h_istore_n (lv' := [some (.ref (gO' Y 5)), some (.int (zI x1)), some (.int (zI x2)), some (.int (zI r46)), some (.int (zI r25)), some (.int (zI r25)), some (.int (zI x6)), some (.int (zI y0)), none]) hC dX1_definitions_109 (Nat.le_of_ble_eq_true rfl) rfl rfl ?_
    refine yr_iinc (x := x6) (lv' := [some (.ref (gO' Y 5)), some (.int (zI x1)), some (.int (zI x2)), some (.int (zI r46)), some (.int (zI r25)), some (.int (zI r25)), some (.int (zI (x6 + 1))), some (.int (zI y0)), none]) hC dX1_definitions_110 rfl rfl rfl ?_
    refine h_goto (tgt := 27) hC dX1_definitions_113 (by decide) ?_
    obtain ⟨o54, h55⟩ := h53
    refine h_lv (lv' := [some (.ref (gO' Y 5)), some (.int (zI x1)), some (.int (zI x2)), some (.int (zI r46)), none, some (.int (zI r25)), some (.int (zI (x6 + 1))), none, none]) ⟨rfl, rfl, rfl, rfl, rfl, rfl, trivial⟩ ?_
    exact hk27 _ _ _ _ _ _ _ _ Rx1 Rx2 R50 R29 o54 o51 hZ52 h55
set_option maxHeartbeats 4000000 in
set_option maxRecDepth 100000 in
theorem cb_Coder_definitions_27 {X : gX} {d : gD} {b : Nat} {Y : gYt} {c : Nat × Nat} {F0 : gM} {S0 : gSt} {mc ms : Nat} (hC : gC RX1 cX1_definitions 9 none "definitions" (gR 629 mc ms) d b X) (hr : hRm X b) {Q : cS → Prop} {k27 : cS → Int → Int → Int → Int → Int → Prop} (hk27 : ∀ (u : hU) (S : gSt) (A0 : cS) (x1 : Int) (x2 : Int) (x3 : Int) (x5 : Int) (x6 : Int), zR x1 → zR x2 → zR x3 → zR x5 → zR x6 → yOk X b u → yZ d b Y c F0 S0 u S A0 → k27 A0 x1 x2 x3 x5 x6 → yG X d b (yQv X d b Y c F0 S0 mc ms Q) u 27 [some (.ref (gO' Y 5)), some (.int (zI x1)), some (.int (zI x2)), some (.int (zI x3)), none, some (.int (zI x5)), some (.int (zI x6)), none, none] []) {u : hU} {S : gSt} {A0 : cS} {x1 : Int} {x2 : Int} {x3 : Int} {x5 : Int} {x6 : Int} (Rx1 : zR x1) (Rx2 : zR x2) (Rx3 : zR x3) (Rx5 : zR x5) (Rx6 : zR x6) (ho : yOk X b u) (hZ : yZ d b Y c F0 S0 u S A0) (hw : wc_Coder_definitions_27B Q k27 A0 x1 x2 x3 x5 x6) : yG X d b (yQv X d b Y c F0 S0 mc ms Q) u 27 [some (.ref (gO' Y 5)), some (.int (zI x1)), some (.int (zI x2)), some (.int (zI x3)), none, some (.int (zI x5)), some (.int (zI x6)), none, none] [] := by
  unfold wc_Coder_definitions_27B at hw
  refine h_iload hC dX1_definitions_27 rfl ?_
  refine yr_ldc (e := 1000000) hC dX1_definitions_29 kw_576 (by decide) ?_
  refine yr_icmp_ge (tgt := 116) hC Rx6 (by decide) dX1_definitions_31 (by decide) (fun c1 => ?_) (fun c1 => ?_)
  · have h2 := hw.1 c1
    refine h_aload_n hC dX1_definitions_116 rfl ?_
    refine h_get hC fl_X1_65 (hZ.w.o 5 (by decide)) rfl dX1_definitions_117 ?_
    refine h_iload_n hC dX1_definitions_120 rfl ?_
    refine yr_callVi (As := [.int (zI x1)]) hC hr ho hZ rfl (hZ.w.o 2 (by decide)) (cm_Tree_first X.la d b Rx1 hZ.rs h2) cl_X1_126 rfl rfl (Nat.le_of_ble_eq_true rfl) (hFr_of (Nat.le_of_ble_eq_true rfl) (Nat.le_of_ble_eq_true rfl)) dX1_definitions_121 (fun r3 A4 u5 S6 R7 o8 hZ9 h10 => ?_)
    refine h_istore_n (lv' := [some (.ref (gO' Y 5)), some (.int (zI x1)), some (.int (zI x2)), some (.int (zI r3)), none, some (.int (zI x5)), some (.int (zI x6)), none, none]) hC dX1_definitions_124 (Nat.le_of_ble_eq_true rfl) rfl rfl ?_
    refine h_iconst (v := zI 0) hC dX1_definitions_125 rfl ?_
    refine h_istore (lv' := [some (.ref (gO' Y 5)), some (.int (zI x1)), some (.int (zI x2)), some (.int (zI r3)), none, some (.int (zI x5)), some (.int (zI 0)), none, none]) hC dX1_definitions_126 (Nat.le_of_ble_eq_true rfl) rfl rfl ?_
    refine h_lv (lv' := [some (.ref (gO' Y 5)), none, some (.int (zI x2)), some (.int (zI r3)), none, some (.int (zI x5)), some (.int (zI 0)), none, none]) ⟨rfl, rfl, rfl, rfl, rfl, trivial⟩ ?_
    obtain ⟨m11, h12⟩ := h10
    exact cl_Coder_definitions_128 hC hr  m11 _ _ _ _ _ _ _ Rx2 R7 Rx5 (by decide) o8 hZ9 h12
  · have h13 := hw.2 c1
    refine h_iload_n hC dX1_definitions_34 rfl ?_
    refine yr_if_eq (tgt := 116) hC Rx3 dX1_definitions_35 (by decide) (fun c14 => ?_) (fun c14 => ?_)
    · have h15 := h13.1 c14
      refine h_aload_n hC dX1_definitions_116 rfl ?_
      refine h_get hC fl_X1_65 (hZ.w.o 5 (by decide)) rfl dX1_definitions_117 ?_
      refine h_iload_n hC dX1_definitions_120 rfl ?_
      refine yr_callVi (As := [.int (zI x1)]) hC hr ho hZ rfl (hZ.w.o 2 (by decide)) (cm_Tree_first X.la d b Rx1 hZ.rs h15) cl_X1_126 rfl rfl (Nat.le_of_ble_eq_true rfl) (hFr_of (Nat.le_of_ble_eq_true rfl) (Nat.le_of_ble_eq_true rfl)) dX1_definitions_121 (fun r16 A17 u18 S19 R20 o21 hZ22 h23 => ?_)
      refine h_istore_n (lv' := [some (.ref (gO' Y 5)), some (.int (zI x1)), some (.int (zI x2)), some (.int (zI r16)), none, some (.int (zI x5)), some (.int (zI x6)), none, none]) hC dX1_definitions_124 (Nat.le_of_ble_eq_true rfl) rfl rfl ?_
      refine h_iconst (v := zI 0) hC dX1_definitions_125 rfl ?_
      refine h_istore (lv' := [some (.ref (gO' Y 5)), some (.int (zI x1)), some (.int (zI x2)), some (.int (zI r16)), none, some (.int (zI x5)), some (.int (zI 0)), none, none]) hC dX1_definitions_126 (Nat.le_of_ble_eq_true rfl) rfl rfl ?_
      refine h_lv (lv' := [some (.ref (gO' Y 5)), none, some (.int (zI x2)), some (.int (zI r16)), none, some (.int (zI x5)), some (.int (zI 0)), none, none]) ⟨rfl, rfl, rfl, rfl, rfl, trivial⟩ ?_
      obtain ⟨m24, h25⟩ := h23
      exact cl_Coder_definitions_128 hC hr  m24 _ _ _ _ _ _ _ Rx2 R20 Rx5 (by decide) o21 hZ22 h25
    · have h26 := h13.2 c14
      refine h_iload_n hC dX1_definitions_38 rfl ?_
      refine h_bipush (v := zI 54) hC dX1_definitions_39 rfl ?_
      refine yr_icmp_ne (tgt := 48) hC Rx2 (by decide) dX1_definitions_41 (by decide) (fun c27 => ?_) (fun c27 => ?_)
      · have h28 := h26.1 c27
        refine h_iconst (v := zI 1) hC dX1_definitions_48 rfl ?_
        exact cj_Coder_definitions_49 hC hr hk27 Rx1 Rx2 Rx3 Rx5 Rx6 (by decide) ho hZ h28
      · have h29 := h26.2 c27
        refine h_iconst (v := zI 4) hC dX1_definitions_44 rfl ?_
        refine h_goto (tgt := 49) hC dX1_definitions_45 (by decide) ?_
        exact cj_Coder_definitions_49 hC hr hk27 Rx1 Rx2 Rx3 Rx5 Rx6 (by decide) ho hZ h29
theorem cl_Coder_definitions_27 {X : gX} {d : gD} {b : Nat} {Y : gYt} {c : Nat × Nat} {F0 : gM} {S0 : gSt} {mc ms : Nat} (hC : gC RX1 cX1_definitions 9 none "definitions" (gR 629 mc ms) d b X) (hr : hRm X b) {Q : cS → Prop}   : ∀ (m : Nat) (u : hU) (S : gSt) (A0 : cS) (x1 : Int) (x2 : Int) (x3 : Int) (x5 : Int) (x6 : Int), zR x1 → zR x2 → zR x3 → zR x5 → zR x6 → yOk X b u → yZ d b Y c F0 S0 u S A0 → wc_Coder_definitions_27 Q  m A0 x1 x2 x3 x5 x6 → yG X d b (yQv X d b Y c F0 S0 mc ms Q) u 27 [some (.ref (gO' Y 5)), some (.int (zI x1)), some (.int (zI x2)), some (.int (zI x3)), none, some (.int (zI x5)), some (.int (zI x6)), none, none] [] := by
  intro m
  induction m with
  | zero => intro u S A0 x1 x2 x3 x5 x6 Rx1 Rx2 Rx3 Rx5 Rx6 ho hZ hw; exact False.elim hw
  | succ m ihm => intro u S A0 x1 x2 x3 x5 x6 Rx1 Rx2 Rx3 Rx5 Rx6 ho hZ hw; exact cb_Coder_definitions_27 hC hr  ihm Rx1 Rx2 Rx3 Rx5 Rx6 ho hZ hw
set_option maxHeartbeats 4000000 in
set_option maxRecDepth 100000 in
theorem cm_Coder_definitions (l : Launch) (d : gD) (b : Nat) {Y : gYt} {c : Nat × Nat} {F : gM} {k n : Nat} {S : gSt} {A0 : cS} {a0 : Int} (Ra0 : zR a0) {Q : cS → Prop} (hZ : yZ d b Y c F S (F, k, n) S A0) (hw : wc_Coder_definitions A0 a0 Q) : hMv l d b yX1_definitions cX1_definitions 9 629 k n F [.ref (gO' Y 5), .int (zI a0)] (yPv d b Y c F S Q) := by
  intro mc ms
  refine hM_of2 rfl (nL := 9) (Nat.le_of_ble_eq_true rfl) ?_
  intro X hX hC hr ho; subst hX
  show yG X d b (yQv X d b Y c F S mc ms Q) (F, k, n) 0 [some (.ref (gO' Y 5)), some (.int (zI a0)), none, none, none, none, none, none, none] []
  unfold wc_Coder_definitions at hw
  refine h_aload_n hC dX1_definitions_0 rfl ?_
  refine h_get hC fl_X1_65 (hZ.w.o 5 (by decide)) rfl dX1_definitions_1 ?_
  refine h_iload_n hC dX1_definitions_4 rfl ?_
  refine yr_callVi (As := [.int (zI a0)]) hC hr ho hZ rfl (hZ.w.o 2 (by decide)) (cm_Tree_kind X.la d b Ra0 hZ.rs hw) cl_X1_121 rfl rfl (Nat.le_of_ble_eq_true rfl) (hFr_of (Nat.le_of_ble_eq_true rfl) (Nat.le_of_ble_eq_true rfl)) dX1_definitions_5 (fun r1 A2 u3 S4 R5 o6 hZ7 h8 => ?_)
  refine h_istore_n (lv' := [some (.ref (gO' Y 5)), some (.int (zI a0)), some (.int (zI r1)), none, none, none, none, none, none]) hC dX1_definitions_8 (Nat.le_of_ble_eq_true rfl) rfl rfl ?_
  refine h_aload_n hC dX1_definitions_9 rfl ?_
  refine h_get hC fl_X1_65 (hZ7.w.o 5 (by decide)) rfl dX1_definitions_10 ?_
  refine h_iload_n hC dX1_definitions_13 rfl ?_
  refine yr_callVi (As := [.int (zI a0)]) hC hr o6 hZ7 rfl (hZ7.w.o 2 (by decide)) (cm_Tree_first X.la d b Ra0 hZ7.rs h8) cl_X1_126 rfl rfl (Nat.le_of_ble_eq_true rfl) (hFr_of (Nat.le_of_ble_eq_true rfl) (Nat.le_of_ble_eq_true rfl)) dX1_definitions_14 (fun r9 A10 u11 S12 R13 o14 hZ15 h16 => ?_)
  refine h_istore_n (lv' := [some (.ref (gO' Y 5)), some (.int (zI a0)), some (.int (zI r1)), some (.int (zI r9)), none, none, none, none, none]) hC dX1_definitions_17 (Nat.le_of_ble_eq_true rfl) rfl rfl ?_
  refine h_iconst (v := zI (-1)) hC dX1_definitions_18 rfl ?_
  refine h_istore (lv' := [some (.ref (gO' Y 5)), some (.int (zI a0)), some (.int (zI r1)), some (.int (zI r9)), some (.int (zI (-1))), none, none, none, none]) hC dX1_definitions_19 (Nat.le_of_ble_eq_true rfl) rfl rfl ?_
  refine h_iconst (v := zI (-1)) hC dX1_definitions_21 rfl ?_
  refine h_istore (lv' := [some (.ref (gO' Y 5)), some (.int (zI a0)), some (.int (zI r1)), some (.int (zI r9)), some (.int (zI (-1))), some (.int (zI (-1))), none, none, none]) hC dX1_definitions_22 (Nat.le_of_ble_eq_true rfl) rfl rfl ?_
  refine h_iconst (v := zI 0) hC dX1_definitions_24 rfl ?_
  refine h_istore (lv' := [some (.ref (gO' Y 5)), some (.int (zI a0)), some (.int (zI r1)), some (.int (zI r9)), some (.int (zI (-1))), some (.int (zI (-1))), some (.int (zI 0)), none, none]) hC dX1_definitions_25 (Nat.le_of_ble_eq_true rfl) rfl rfl ?_
  refine h_lv (lv' := [some (.ref (gO' Y 5)), some (.int (zI a0)), some (.int (zI r1)), some (.int (zI r9)), none, some (.int (zI (-1))), some (.int (zI 0)), none, none]) ⟨rfl, rfl, rfl, rfl, rfl, rfl, trivial⟩ ?_
  obtain ⟨m17, h18⟩ := h16
  exact cl_Coder_definitions_27 hC hr  m17 _ _ _ _ _ _ _ _ Ra0 R5 R13 (by decide) (by decide) o14 hZ15 h18
