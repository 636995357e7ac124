def wcG_C : Nat → Nat → Int → Int → Int → cS → (Int → cS → Prop) → Prop
  | 0 => fun _ _ _ _ _ _ => False
  | m + 1 => fun i a b c A Q => match i with
    | 0 => wc_Coder_routines (wcG_C m) A a (fun A' => Q 0 A')
    | 1 => wc_Coder_routine (wcG_C m) A a (fun A' => Q 0 A')
    | 2 => wc_Coder_variables (wcG_C m) A a (fun A' => Q 0 A')
    | 3 => wc_Coder_section (wcG_C m) A a (fun A' => Q 0 A')
    | 4 => wc_Coder_command (wcG_C m) A a (fun A' => Q 0 A')
    | 5 => wc_Coder_assignment (wcG_C m) A a (fun A' => Q 0 A')
    | 6 => wc_Coder_conditional (wcG_C m) A a (fun A' => Q 0 A')
    | 7 => wc_Coder_asking (wcG_C m) A a (fun A' => Q 0 A')
    | 8 => wc_Coder_repeats (wcG_C m) A a (fun A' => Q 0 A')
    | 9 => wc_Coder_counting (wcG_C m) A a (fun A' => Q 0 A')
    | 10 => wc_Coder_switching (wcG_C m) A a (fun A' => Q 0 A')
    | 11 => wc_Coder_telling (wcG_C m) A a (fun A' => Q 0 A')
    | 12 => wc_Coder_expression (wcG_C m) A a b c (fun A' => Q 0 A')
    | 13 => wc_Coder_calls (wcG_C m) A a (fun A' => Q 0 A')
    | 14 => wc_Coder_arguments (wcG_C m) A a b (fun A' => Q 0 A')
    | 15 => wc_Coder_valof (wcG_C m) A a (fun A' => Q 0 A')
    | 16 => wc_Coder_choice (wcG_C m) A a (fun A' => Q 0 A')
    | _ => False
theorem okG_C (l : Launch) (d : gD) (b : Nat) (Y : gYt) (c : Nat × Nat) : ∀ m, yOkC l d b Y c m (wcG_C m) := by
  intro m
  induction m with
  | zero => exact ⟨fun _ _ _ hw => False.elim hw, fun _ _ _ hw => False.elim hw, fun _ _ _ hw => False.elim hw, fun _ _ _ hw => False.elim hw, fun _ _ _ hw => False.elim hw, fun _ _ _ hw => False.elim hw, fun _ _ _ hw => False.elim hw, fun _ _ _ hw => False.elim hw, fun _ _ _ hw => False.elim hw, fun _ _ _ hw => False.elim hw, fun _ _ _ hw => False.elim hw, fun _ _ _ hw => False.elim hw, fun _ _ _ _ _ hw => False.elim hw, fun _ _ _ hw => False.elim hw, fun _ _ _ _ hw => False.elim hw, fun _ _ _ hw => False.elim hw, fun _ _ _ hw => False.elim hw⟩
  | succ m ih => exact ⟨fun R0 _ hZ hw => cm_Coder_routines l d b ih R0 hZ hw, fun R0 _ hZ hw => cm_Coder_routine l d b ih R0 hZ hw, fun R0 _ hZ hw => cm_Coder_variables l d b ih R0 hZ hw, fun R0 _ hZ hw => cm_Coder_section l d b ih R0 hZ hw, fun R0 _ hZ hw => cm_Coder_command l d b ih R0 hZ hw, fun R0 _ hZ hw => cm_Coder_assignment l d b ih R0 hZ hw, fun R0 _ hZ hw => cm_Coder_conditional l d b ih R0 hZ hw, fun R0 _ hZ hw => cm_Coder_asking l d b ih R0 hZ hw, fun R0 _ hZ hw => cm_Coder_repeats l d b ih R0 hZ hw, fun R0 _ hZ hw => cm_Coder_counting l d b ih R0 hZ hw, fun R0 _ hZ hw => cm_Coder_switching l d b ih R0 hZ hw, fun R0 _ hZ hw => cm_Coder_telling l d b ih R0 hZ hw, fun R0 R1 R2 _ hZ hw => cm_Coder_expression l d b ih R0 R1 R2 hZ hw, fun R0 _ hZ hw => cm_Coder_calls l d b ih R0 hZ hw, fun R0 R1 _ hZ hw => cm_Coder_arguments l d b ih R0 R1 hZ hw, fun R0 _ hZ hw => cm_Coder_valof l d b ih R0 hZ hw, fun R0 _ hZ hw => cm_Coder_choice l d b ih R0 hZ hw⟩
theorem dX1_translate_0 : decode cX1_translate 0 = .ok (.aload_n 0, 1) := by decide +kernel
theorem dX1_translate_1 : decode cX1_translate 1 = .ok (.getfield 78, 3) := by decide +kernel
theorem dX1_translate_4 : decode cX1_translate 4 = .ok (.invokevirtual 91, 3) := by decide +kernel
theorem dX1_translate_7 : decode cX1_translate 7 = .ok (.aload_n 0, 1) := by decide +kernel
theorem dX1_translate_8 : decode cX1_translate 8 = .ok (.getfield 15, 3) := by decide +kernel
theorem dX1_translate_11 : decode cX1_translate 11 = .ok (.iconst 0, 1) := by decide +kernel
theorem dX1_translate_12 : decode cX1_translate 12 = .ok (.invokevirtual 94, 3) := by decide +kernel
theorem dX1_translate_15 : decode cX1_translate 15 = .ok (.aload_n 0, 1) := by decide +kernel
theorem dX1_translate_16 : decode cX1_translate 16 = .ok (.getfield 21, 3) := by decide +kernel
theorem dX1_translate_19 : decode cX1_translate 19 = .ok (.iconst 0, 1) := by decide +kernel
theorem dX1_translate_20 : decode cX1_translate 20 = .ok (.invokevirtual 94, 3) := by decide +kernel
theorem dX1_translate_23 : decode cX1_translate 23 = .ok (.aload_n 0, 1) := by decide +kernel
theorem dX1_translate_24 : decode cX1_translate 24 = .ok (.getfield 24, 3) := by decide +kernel
theorem dX1_translate_27 : decode cX1_translate 27 = .ok (.iconst 0, 1) := by decide +kernel
theorem dX1_translate_28 : decode cX1_translate 28 = .ok (.invokevirtual 94, 3) := by decide +kernel
theorem dX1_translate_31 : decode cX1_translate 31 = .ok (.aload_n 0, 1) := by decide +kernel
theorem dX1_translate_32 : decode cX1_translate 32 = .ok (.invokevirtual 97, 3) := by decide +kernel
theorem dX1_translate_35 : decode cX1_translate 35 = .ok (.aload_n 0, 1) := by decide +kernel
theorem dX1_translate_36 : decode cX1_translate 36 = .ok (.iconst 0, 1) := by decide +kernel
theorem dX1_translate_37 : decode cX1_translate 37 = .ok (.putfield 46, 3) := by decide +kernel
theorem dX1_translate_40 : decode cX1_translate 40 = .ok (.aload_n 0, 1) := by decide +kernel
theorem dX1_translate_41 : decode cX1_translate 41 = .ok (.iconst 0, 1) := by decide +kernel
theorem dX1_translate_42 : decode cX1_translate 42 = .ok (.putfield 49, 3) := by decide +kernel
theorem dX1_translate_45 : decode cX1_translate 45 = .ok (.aload_n 0, 1) := by decide +kernel
theorem dX1_translate_46 : decode cX1_translate 46 = .ok (.iconst (-1), 1) := by decide +kernel
theorem dX1_translate_47 : decode cX1_translate 47 = .ok (.putfield 52, 3) := by decide +kernel
theorem dX1_translate_50 : decode cX1_translate 50 = .ok (.aload_n 0, 1) := by decide +kernel
theorem dX1_translate_51 : decode cX1_translate 51 = .ok (.iconst 0, 1) := by decide +kernel
theorem dX1_translate_52 : decode cX1_translate 52 = .ok (.putfield 55, 3) := by decide +kernel
theorem dX1_translate_55 : decode cX1_translate 55 = .ok (.aload_n 0, 1) := by decide +kernel
theorem dX1_translate_56 : decode cX1_translate 56 = .ok (.iconst 0, 1) := by decide +kernel
theorem dX1_translate_57 : decode cX1_translate 57 = .ok (.putfield 58, 3) := by decide +kernel
theorem dX1_translate_60 : decode cX1_translate 60 = .ok (.aload_n 0, 1) := by decide +kernel
theorem dX1_translate_61 : decode cX1_translate 61 = .ok (.iload_n 1, 1) := by decide +kernel
theorem dX1_translate_62 : decode cX1_translate 62 = .ok (.invokevirtual 100, 3) := by decide +kernel
theorem dX1_translate_65 : decode cX1_translate 65 = .ok (.iconst 0, 1) := by decide +kernel
theorem dX1_translate_66 : decode cX1_translate 66 = .ok (.istore_n 2, 1) := by decide +kernel
theorem dX1_translate_67 : decode cX1_translate 67 = .ok (.iload_n 2, 1) := by decide +kernel
theorem dX1_translate_68 : decode cX1_translate 68 = .ok (.iconst 1, 1) := by decide +kernel
theorem dX1_translate_69 : decode cX1_translate 69 = .ok (.iadd, 1) := by decide +kernel
theorem dX1_translate_70 : decode cX1_translate 70 = .ok (.aload_n 0, 1) := by decide +kernel
theorem dX1_translate_71 : decode cX1_translate 71 = .ok (.getfield 21, 3) := by decide +kernel
theorem dX1_translate_74 : decode cX1_translate 74 = .ok (.invokevirtual 103, 3) := by decide +kernel
theorem dX1_translate_77 : decode cX1_translate 77 = .ok (.if_icmp .ge 41, 3) := by decide +kernel
theorem dX1_translate_80 : decode cX1_translate 80 = .ok (.aload_n 0, 1) := by decide +kernel
theorem dX1_translate_81 : decode cX1_translate 81 = .ok (.getfield 69, 3) := by decide +kernel
theorem dX1_translate_84 : decode cX1_translate 84 = .ok (.aload_n 0, 1) := by decide +kernel
theorem dX1_translate_85 : decode cX1_translate 85 = .ok (.getfield 21, 3) := by decide +kernel
theorem dX1_translate_88 : decode cX1_translate 88 = .ok (.iload_n 2, 1) := by decide +kernel
theorem dX1_translate_89 : decode cX1_translate 89 = .ok (.invokevirtual 107, 3) := by decide +kernel
theorem dX1_translate_92 : decode cX1_translate 92 = .ok (.aload_n 0, 1) := by decide +kernel
theorem dX1_translate_93 : decode cX1_translate 93 = .ok (.getfield 15, 3) := by decide +kernel
theorem dX1_translate_96 : decode cX1_translate 96 = .ok (.aload_n 0, 1) := by decide +kernel
theorem dX1_translate_97 : decode cX1_translate 97 = .ok (.getfield 21, 3) := by decide +kernel
theorem dX1_translate_100 : decode cX1_translate 100 = .ok (.iload_n 2, 1) := by decide +kernel
theorem dX1_translate_101 : decode cX1_translate 101 = .ok (.iconst 1, 1) := by decide +kernel
theorem dX1_translate_102 : decode cX1_translate 102 = .ok (.iadd, 1) := by decide +kernel
theorem dX1_translate_103 : decode cX1_translate 103 = .ok (.invokevirtual 107, 3) := by decide +kernel
theorem dX1_translate_106 : decode cX1_translate 106 = .ok (.invokevirtual 107, 3) := by decide +kernel
theorem dX1_translate_109 : decode cX1_translate 109 = .ok (.invokevirtual 111, 3) := by decide +kernel
theorem dX1_translate_112 : decode cX1_translate 112 = .ok (.iinc 2 2, 3) := by decide +kernel
theorem dX1_translate_115 : decode cX1_translate 115 = .ok (.goto (-48), 3) := by decide +kernel
theorem dX1_translate_118 : decode cX1_translate 118 = .ok (.return_, 1) := by decide +kernel
def wc_Coder_translate_67B (Q : cS → Prop) (k67 : cS → Int → Prop) (A0 : cS) (x2 : Int) : Prop :=
  (zR (x2 + 1)) ∧ ((((yz A0 25 : Nat) : Int) ≤ (x2 + 1) → Q A0) ∧ (¬ ((yz A0 25 : Nat) : Int) ≤ (x2 + 1) → wc_Program_setOperand A0 (yget A0 25 x2) (yget A0 24 (yget A0 25 (x2 + 1))) (fun A7 => (zR (x2 + 2)) ∧ k67 A7 (x2 + 2))))
def wc_Coder_translate_67 (Q : cS → Prop)  : Nat → cS → Int → Prop
  | 0 => fun _ _ => False
  | m + 1 => fun A0 x2 => wc_Coder_translate_67B Q  (wc_Coder_translate_67 Q  m) A0 x2
def wc_Coder_translate (A0 : cS) (a0 : Int) (Q : cS → Prop) : Prop :=
  wc_Scope_clear A0  (fun A2 => wc_Coder_leaveAll (ycut (ycut (ycut A2 24 0) 25 0) 26 0)  (fun A22 => ∃ n, n ≤ 640 ∧ wcG_C n 3 a0 0 0 (ypv (ypv (ypv (ypv (ypv A22 19 0) 20 0) 21 (-1)) 22 0) 23 0) (fun _ A88 => ∃ n, wc_Coder_translate_67 Q  n A88 0)))
set_option maxHeartbeats 4000000 in
set_option maxRecDepth 100000 in
theorem cb_Coder_translate_67 {X : gX} {d : gD} {b : Nat} {Y : gYt} {c : Nat × Nat} {F0 : gM} {S0 : gSt} {mc ms : Nat} (hC : gC RX1 cX1_translate 3 none "translate" (gR 1271 mc ms) d b X) (hr : hRm X b) {Q : cS → Prop} {k67 : cS → Int → Prop} (hk67 : ∀ (u : hU) (S : gSt) (A0 : cS) (x2 : Int), zR x2 → yOk X b u → yZ d b Y c F0 S0 u S A0 → k67 A0 x2 → yG X d b (yQv X d b Y c F0 S0 mc ms Q) u 67 [some (.ref (gO' Y 5)), none, some (.int (zI x2))] []) {u : hU} {S : gSt} {A0 : cS} {x2 : Int} (Rx2 : zR x2) (ho : yOk X b u) (hZ : yZ d b Y c F0 S0 u S A0) (hw : wc_Coder_translate_67B Q k67 A0 x2) : yG X d b (yQv X d b Y c F0 S0 mc ms Q) u 67 [some (.ref (gO' Y 5)), none, some (.int (zI x2))] [] := by
  unfold wc_Coder_translate_67B at hw
  refine h_iload_n hC dX1_translate_67 rfl ?_
  refine h_iconst (v := zI 1) hC dX1_translate_68 rfl ?_
  refine yr_iadd hC dX1_translate_69 ?_
  refine h_aload_n hC dX1_translate_70 rfl ?_
  refine h_get hC fl_X1_21 (hZ.w.o 5 (by decide)) rfl dX1_translate_71 ?_
  refine yr_size (j := 25) (e := ((yz A0 25 : Nat) : Int)) hC hr ho hZ (by decide) rfl cl_X1_103 rfl (Nat.le_of_ble_eq_true rfl) (hFr_of (Nat.le_of_ble_eq_true rfl) (Nat.le_of_ble_eq_true rfl)) dX1_translate_74 ?_
  obtain ⟨o1, h2⟩ := hw
  refine yr_icmp_ge (tgt := 118) hC o1 (hZ.rz (j := 25) (by decide)) dX1_translate_77 (by decide) (fun c3 => ?_) (fun c3 => ?_)
  · have h4 := h2.1 c3
    exact yr_vret hC hr ho hZ h4 dX1_translate_118
  · have h5 := h2.2 c3
    refine h_aload_n hC dX1_translate_80 rfl ?_
    refine h_get hC fl_X1_69 (hZ.w.o 5 (by decide)) rfl dX1_translate_81 ?_
    refine h_aload_n hC dX1_translate_84 rfl ?_
    refine h_get hC fl_X1_21 (hZ.w.o 5 (by decide)) rfl dX1_translate_85 ?_
    refine h_iload_n hC dX1_translate_88 rfl ?_
    refine yr_get (j := 25) (e := (yget A0 25 x2)) hC hr ho hZ (by decide) Rx2 rfl cl_X1_107 rfl (Nat.le_of_ble_eq_true rfl) (hFr_of (Nat.le_of_ble_eq_true rfl) (Nat.le_of_ble_eq_true rfl)) dX1_translate_89 ?_
    refine h_aload_n hC dX1_translate_92 rfl ?_
    refine h_get hC fl_X1_15 (hZ.w.o 5 (by decide)) rfl dX1_translate_93 ?_
    refine h_aload_n hC dX1_translate_96 rfl ?_
    refine h_get hC fl_X1_21 (hZ.w.o 5 (by decide)) rfl dX1_translate_97 ?_
    refine h_iload_n hC dX1_translate_100 rfl ?_
    refine h_iconst (v := zI 1) hC dX1_translate_101 rfl ?_
    refine yr_iadd hC dX1_translate_102 ?_
    refine yr_get (j := 25) (e := (yget A0 25 (x2 + 1))) hC hr ho hZ (by decide) o1 rfl cl_X1_107 rfl (Nat.le_of_ble_eq_true rfl) (hFr_of (Nat.le_of_ble_eq_true rfl) (Nat.le_of_ble_eq_true rfl)) dX1_translate_103 ?_
    refine yr_get (j := 24) (e := (yget A0 24 (yget A0 25 (x2 + 1)))) hC hr ho hZ (by decide) (hZ.rg 25 _) rfl cl_X1_107 rfl (Nat.le_of_ble_eq_true rfl) (hFr_of (Nat.le_of_ble_eq_true rfl) (Nat.le_of_ble_eq_true rfl)) dX1_translate_106 ?_
    refine yr_callVv (As := [.int (zI (yget A0 25 x2)), .int (zI (yget A0 24 (yget A0 25 (x2 + 1))))]) hC hr ho hZ rfl (hZ.w.o 1 (by decide)) (cm_Program_setOperand X.la d b (hZ.rg 25 _) (hZ.rg 24 _) hZ.rs h5) cl_X1_111 rfl rfl (Nat.le_of_ble_eq_true rfl) (hFr_of (Nat.le_of_ble_eq_true rfl) (Nat.le_of_ble_eq_true rfl)) dX1_translate_109 (fun A7 u8 S9 o11 hZ12 h13 => ?_)
    refine yr_iinc (x := x2) (lv' := [some (.ref (gO' Y 5)), none, some (.int (zI (x2 + 2)))]) hC dX1_translate_112 rfl rfl rfl ?_
    refine h_goto (tgt := 67) hC dX1_translate_115 (by decide) ?_
    obtain ⟨o14, h15⟩ := h13
    exact hk67 _ _ _ _ o14 o11 hZ12 h15
theorem cl_Coder_translate_67 {X : gX} {d : gD} {b : Nat} {Y : gYt} {c : Nat × Nat} {F0 : gM} {S0 : gSt} {mc ms : Nat} (hC : gC RX1 cX1_translate 3 none "translate" (gR 1271 mc ms) d b X) (hr : hRm X b) {Q : cS → Prop}   : ∀ (m : Nat) (u : hU) (S : gSt) (A0 : cS) (x2 : Int), zR x2 → yOk X b u → yZ d b Y c F0 S0 u S A0 → wc_Coder_translate_67 Q  m A0 x2 → yG X d b (yQv X d b Y c F0 S0 mc ms Q) u 67 [some (.ref (gO' Y 5)), none, some (.int (zI x2))] [] := by
  intro m
  induction m with
  | zero => intro u S A0 x2 Rx2 ho hZ hw; exact False.elim hw
  | succ m ihm => intro u S A0 x2 Rx2 ho hZ hw; exact cb_Coder_translate_67 hC hr  ihm Rx2 ho hZ hw
set_option maxHeartbeats 4000000 in
set_option maxRecDepth 100000 in
theorem cm_Coder_translate (l : Launch) (d : gD) (b : Nat) {Y : gYt} {c : Nat × Nat} {F : gM} {k n : Nat} {S : gSt} {A0 : cS} {a0 : Int} (Ra0 : zR a0) {Q : cS → Prop} (hZ : yZ d b Y c F S (F, k, n) S A0) (hw : wc_Coder_translate A0 a0 Q) : hMv l d b yX1_translate cX1_translate 3 1271 k n F [.ref (gO' Y 5), .int (zI a0)] (yPv d b Y c F S Q) := by
  intro mc ms
  refine hM_of2 rfl (nL := 3) (Nat.le_of_ble_eq_true rfl) ?_
  intro X hX hC hr ho; subst hX
  show yG X d b (yQv X d b Y c F S mc ms Q) (F, k, n) 0 [some (.ref (gO' Y 5)), some (.int (zI a0)), none] []
  unfold wc_Coder_translate at hw
  refine h_aload_n hC dX1_translate_0 rfl ?_
  refine h_get hC fl_X1_78 (hZ.w.o 5 (by decide)) rfl dX1_translate_1 ?_
  refine yr_callVv (As := []) hC hr ho hZ rfl (hZ.w.o 8 (by decide)) (cm_Scope_clear X.la d b  hZ.rs hw) cl_X1_91 rfl rfl (Nat.le_of_ble_eq_true rfl) (hFr_of (Nat.le_of_ble_eq_true rfl) (Nat.le_of_ble_eq_true rfl)) dX1_translate_4 (fun A2 u3 S4 o6 hZ7 h8 => ?_)
  refine h_aload_n hC dX1_translate_7 rfl ?_
  refine h_get hC fl_X1_15 (hZ7.w.o 5 (by decide)) rfl dX1_translate_8 ?_
  refine h_iconst (v := zI 0) hC dX1_translate_11 rfl ?_
  refine yr_cut (j := 24) hC hr o6 hZ7 (by decide) (by decide) cl_X1_94 rfl (Nat.le_of_ble_eq_true rfl) (hFr_of (Nat.le_of_ble_eq_true rfl) (Nat.le_of_ble_eq_true rfl)) dX1_translate_12 (fun u9 S10 o11 hZ12 => ?_)
  refine h_aload_n hC dX1_translate_15 rfl ?_
  refine h_get hC fl_X1_21 (hZ12.w.o 5 (by decide)) rfl dX1_translate_16 ?_
  refine h_iconst (v := zI 0) hC dX1_translate_19 rfl ?_
  refine yr_cut (j := 25) hC hr o11 hZ12 (by decide) (by decide) cl_X1_94 rfl (Nat.le_of_ble_eq_true rfl) (hFr_of (Nat.le_of_ble_eq_true rfl) (Nat.le_of_ble_eq_true rfl)) dX1_translate_20 (fun u13 S14 o15 hZ16 => ?_)
  refine h_aload_n hC dX1_translate_23 rfl ?_
  refine h_get hC fl_X1_24 (hZ16.w.o 5 (by decide)) rfl dX1_translate_24 ?_
  refine h_iconst (v := zI 0) hC dX1_translate_27 rfl ?_
  refine yr_cut (j := 26) hC hr o15 hZ16 (by decide) (by decide) cl_X1_94 rfl (Nat.le_of_ble_eq_true rfl) (hFr_of (Nat.le_of_ble_eq_true rfl) (Nat.le_of_ble_eq_true rfl)) dX1_translate_28 (fun u17 S18 o19 hZ20 => ?_)
  refine h_aload_n hC dX1_translate_31 rfl ?_
  refine yr_callVv (As := []) hC hr o19 hZ20 rfl (hZ20.w.o 5 (by decide)) (cm_Coder_leaveAll X.la d b  hZ20.rs h8) cl_X1_97 rfl rfl (Nat.le_of_ble_eq_true rfl) (hFr_of (Nat.le_of_ble_eq_true rfl) (Nat.le_of_ble_eq_true rfl)) dX1_translate_32 (fun A22 u23 S24 o26 hZ27 h28 => ?_)
  refine h_aload_n hC dX1_translate_35 rfl ?_
  refine h_iconst (v := zI 0) hC dX1_translate_36 rfl ?_
  refine hi_putx (i := 5) (kx := 19) hC hZ27.hi (by decide) fl_X1_46 rfl rfl rfl (Nat.le_of_ble_eq_true rfl) rfl gsame_19 (fun q => absurd q (by decide)) dX1_translate_37 (fun F29 S30 I31 K32 s33 v34 p35 => ?_)
  have hZ36 := hZ27.put I31 K32 s33 v34 (by decide) rfl
  clear I31 K32 s33 v34 p35
  refine yr_nu o26 hZ36 (fun u37 o38 hZ39 => ?_)
  refine h_aload_n hC dX1_translate_40 rfl ?_
  refine h_iconst (v := zI 0) hC dX1_translate_41 rfl ?_
  refine hi_putx (i := 5) (kx := 20) hC hZ39.hi (by decide) fl_X1_49 rfl rfl rfl (Nat.le_of_ble_eq_true rfl) rfl gsame_20 (fun q => absurd q (by decide)) dX1_translate_42 (fun F40 S41 I42 K43 s44 v45 p46 => ?_)
  have hZ47 := hZ39.put I42 K43 s44 v45 (by decide) rfl
  clear I42 K43 s44 v45 p46
  refine yr_nu o38 hZ47 (fun u48 o49 hZ50 => ?_)
  refine h_aload_n hC dX1_translate_45 rfl ?_
  refine h_iconst (v := zI (-1)) hC dX1_translate_46 rfl ?_
  refine hi_putx (i := 5) (kx := 21) hC hZ50.hi (by decide) fl_X1_52 rfl rfl rfl (Nat.le_of_ble_eq_true rfl) rfl gsame_21 (fun q => absurd q (by decide)) dX1_translate_47 (fun F51 S52 I53 K54 s55 v56 p57 => ?_)
  have hZ58 := hZ50.put I53 K54 s55 v56 (by decide) rfl
  clear I53 K54 s55 v56 p57
  refine yr_nu o49 hZ58 (fun u59 o60 hZ61 => ?_)
  refine h_aload_n hC dX1_translate_50 rfl ?_
  refine h_iconst (v := zI 0) hC dX1_translate_51 rfl ?_
  refine hi_putx (i := 5) (kx := 22) hC hZ61.hi (by decide) fl_X1_55 rfl rfl rfl (Nat.le_of_ble_eq_true rfl) rfl gsame_22 (fun q => absurd q (by decide)) dX1_translate_52 (fun F62 S63 I64 K65 s66 v67 p68 => ?_)
  have hZ69 := hZ61.put I64 K65 s66 v67 (by decide) rfl
  clear I64 K65 s66 v67 p68
  refine yr_nu o60 hZ69 (fun u70 o71 hZ72 => ?_)
  refine h_aload_n hC dX1_translate_55 rfl ?_
  refine h_iconst (v := zI 0) hC dX1_translate_56 rfl ?_
  refine hi_putx (i := 5) (kx := 23) hC hZ72.hi (by decide) fl_X1_58 rfl rfl rfl (Nat.le_of_ble_eq_true rfl) rfl gsame_23 (fun q => absurd q (by decide)) dX1_translate_57 (fun F73 S74 I75 K76 s77 v78 p79 => ?_)
  have hZ80 := hZ72.put I75 K76 s77 v78 (by decide) rfl
  clear I75 K76 s77 v78 p79
  refine yr_nu o71 hZ80 (fun u81 o82 hZ83 => ?_)
  refine h_aload_n hC dX1_translate_60 rfl ?_
  refine h_iload_n hC dX1_translate_61 rfl ?_
  obtain ⟨m84, hm85, h86⟩ := h28
  refine yr_callVv (As := [.int (zI a0)]) hC hr o82 hZ83 rfl (hZ83.w.o 5 (by decide)) ((okG_C X.la d b Y c m84).2.2.2.1 Ra0 hZ83.rs h86) cl_X1_100 rfl rfl (Nat.le_of_ble_eq_true rfl) (hFr_of (by omega) (Nat.le_of_ble_eq_true rfl)) dX1_translate_62 (fun A88 u89 S90 o92 hZ93 h94 => ?_)
  refine h_iconst (v := zI 0) hC dX1_translate_65 rfl ?_
  refine h_istore_n (lv' := [some (.ref (gO' Y 5)), some (.int (zI a0)), some (.int (zI 0))]) hC dX1_translate_66 (Nat.le_of_ble_eq_true rfl) rfl rfl ?_
  refine h_lv (lv' := [some (.ref (gO' Y 5)), none, some (.int (zI 0))]) ⟨rfl, rfl, trivial⟩ ?_
  obtain ⟨m95, h96⟩ := h94
  exact cl_Coder_translate_67 hC hr  m95 _ _ _ _ (by decide) o92 hZ93 h96
