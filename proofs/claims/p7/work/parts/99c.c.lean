def wcG_P : Nat → Nat → Int → Int → Int → cS → (Int → cS → Prop) → (cS → Prop) → Prop
  | 0 => fun _ _ _ _ _ _ _ => False
  | m + 1 => fun i a b c A Q E => match i with
    | 0 => wc_Parser_declaration (wcG_P m) A a Q E
    | 1 => wc_Parser_definitions (wcG_P m) A a Q E
    | 2 => wc_Parser_routine (wcG_P m) A a Q E
    | 3 => wc_Parser_variables (wcG_P m) A a (fun A' => Q 0 A') E
    | 4 => wc_Parser_section (wcG_P m) A a Q E
    | 5 => wc_Parser_cases (wcG_P m) A a (fun A' => Q 0 A') E
    | 6 => wc_Parser_command (wcG_P m) A  Q E
    | 7 => wc_Parser_repeats (wcG_P m) A a Q E
    | 8 => wc_Parser_conditional (wcG_P m) A  Q E
    | 9 => wc_Parser_counting (wcG_P m) A  Q E
    | 10 => wc_Parser_switching (wcG_P m) A  Q E
    | 11 => wc_Parser_assignment (wcG_P m) A  Q E
    | 12 => wc_Parser_expression (wcG_P m) A  Q E
    | 13 => wc_Parser_operand (wcG_P m) A a (fun A' => Q 0 A') E
    | 14 => wc_Parser_primary (wcG_P m) A  Q E
    | 15 => wc_Parser_table (wcG_P m) A  Q E
    | 16 => wc_Parser_calls (wcG_P m) A a Q E
    | _ => False
theorem okG_P (l : Launch) (d : gD) (b : Nat) (Y : gYt) (c : Nat × Nat) (hst : l.stackTraces = false) (hcx : yCx b c) : ∀ m, yOkP l d b Y c m (wcG_P m) := by
  intro m
  induction m with
  | zero => exact ⟨fun _ _ _ _ hw => False.elim hw, fun _ _ _ _ hw => False.elim hw, fun _ _ _ _ hw => False.elim hw, fun _ _ _ _ hw => False.elim hw, fun _ _ _ _ hw => False.elim hw, fun _ _ _ _ hw => False.elim hw, fun _ hw => False.elim hw, fun _ _ _ _ hw => False.elim hw, fun _ hw => False.elim hw, fun _ hw => False.elim hw, fun _ hw => False.elim hw, fun _ hw => False.elim hw, fun _ hw => False.elim hw, fun _ _ _ _ hw => False.elim hw, fun _ hw => False.elim hw, fun _ hw => False.elim hw, fun _ _ _ _ hw => False.elim hw⟩
  | succ m ih => exact ⟨fun R0 _ _ hZ hw => cm_Parser_declaration l d b hst hcx ih R0 hZ hw, fun R0 _ _ hZ hw => cm_Parser_definitions l d b hst hcx ih R0 hZ hw, fun R0 _ _ hZ hw => cm_Parser_routine l d b hst hcx ih R0 hZ hw, fun R0 _ _ hZ hw => cm_Parser_variables l d b hst hcx ih R0 hZ hw, fun R0 _ _ hZ hw => cm_Parser_section l d b hst hcx ih R0 hZ hw, fun R0 _ _ hZ hw => cm_Parser_cases l d b hst hcx ih R0 hZ hw, fun hZ hw => cm_Parser_command l d b hst hcx ih hZ hw, fun R0 _ _ hZ hw => cm_Parser_repeats l d b hst hcx ih R0 hZ hw, fun hZ hw => cm_Parser_conditional l d b hst hcx ih hZ hw, fun hZ hw => cm_Parser_counting l d b hst hcx ih hZ hw, fun hZ hw => cm_Parser_switching l d b hst hcx ih hZ hw, fun hZ hw => cm_Parser_assignment l d b hst hcx ih hZ hw, fun hZ hw => cm_Parser_expression l d b hst hcx ih hZ hw, fun R0 _ _ hZ hw => cm_Parser_operand l d b hst hcx ih R0 hZ hw, fun hZ hw => cm_Parser_primary l d b hst hcx ih hZ hw, fun hZ hw => cm_Parser_table l d b hst hcx ih hZ hw, fun R0 _ _ hZ hw => cm_Parser_calls l d b hst hcx ih R0 hZ hw⟩
theorem dX6_text_0 : decode cX6_text 0 = .ok (.aload_n 0, 1) := by decide +kernel
theorem dX6_text_1 : decode cX6_text 1 = .ok (.getfield 60, 3) := by decide +kernel
theorem dX6_text_4 : decode cX6_text 4 = .ok (.bipush 92, 2) := by decide +kernel
theorem dX6_text_6 : decode cX6_text 6 = .ok (.aload_n 0, 1) := by decide +kernel
theorem dX6_text_7 : decode cX6_text 7 = .ok (.invokevirtual 112, 3) := by decide +kernel
theorem dX6_text_10 : decode cX6_text 10 = .ok (.iconst 0, 1) := by decide +kernel
theorem dX6_text_11 : decode cX6_text 11 = .ok (.invokevirtual 115, 3) := by decide +kernel
theorem dX6_text_14 : decode cX6_text 14 = .ok (.istore_n 1, 1) := by decide +kernel
theorem dX6_text_15 : decode cX6_text 15 = .ok (.iconst 0, 1) := by decide +kernel
theorem dX6_text_16 : decode cX6_text 16 = .ok (.istore_n 2, 1) := by decide +kernel
theorem dX6_text_17 : decode cX6_text 17 = .ok (.iload_n 2, 1) := by decide +kernel
theorem dX6_text_18 : decode cX6_text 18 = .ok (.ldc 11, 2) := by decide +kernel
theorem dX6_text_20 : decode cX6_text 20 = .ok (.if_icmp .ge 48, 3) := by decide +kernel
theorem dX6_text_23 : decode cX6_text 23 = .ok (.aload_n 0, 1) := by decide +kernel
theorem dX6_text_24 : decode cX6_text 24 = .ok (.getfield 60, 3) := by decide +kernel
theorem dX6_text_27 : decode cX6_text 27 = .ok (.iload_n 1, 1) := by decide +kernel
theorem dX6_text_28 : decode cX6_text 28 = .ok (.aload_n 0, 1) := by decide +kernel
theorem dX6_text_29 : decode cX6_text 29 = .ok (.iconst 1, 1) := by decide +kernel
theorem dX6_text_30 : decode cX6_text 30 = .ok (.invokevirtual 119, 3) := by decide +kernel
theorem dX6_text_33 : decode cX6_text 33 = .ok (.invokevirtual 123, 3) := by decide +kernel
theorem dX6_text_36 : decode cX6_text 36 = .ok (.aload_n 0, 1) := by decide +kernel
theorem dX6_text_37 : decode cX6_text 37 = .ok (.invokevirtual 97, 3) := by decide +kernel
theorem dX6_text_40 : decode cX6_text 40 = .ok (.ifCond .ne 6, 3) := by decide +kernel
theorem dX6_text_43 : decode cX6_text 43 = .ok (.goto 25, 3) := by decide +kernel
theorem dX6_text_46 : decode cX6_text 46 = .ok (.aload_n 0, 1) := by decide +kernel
theorem dX6_text_47 : decode cX6_text 47 = .ok (.bipush 10, 2) := by decide +kernel
theorem dX6_text_49 : decode cX6_text 49 = .ok (.invokevirtual 109, 3) := by decide +kernel
theorem dX6_text_52 : decode cX6_text 52 = .ok (.aload_n 0, 1) := by decide +kernel
theorem dX6_text_53 : decode cX6_text 53 = .ok (.invokevirtual 97, 3) := by decide +kernel
theorem dX6_text_56 : decode cX6_text 56 = .ok (.ifCond .ne 6, 3) := by decide +kernel
theorem dX6_text_59 : decode cX6_text 59 = .ok (.goto 9, 3) := by decide +kernel
theorem dX6_text_62 : decode cX6_text 62 = .ok (.iinc 2 1, 3) := by decide +kernel
theorem dX6_text_65 : decode cX6_text 65 = .ok (.goto (-48), 3) := by decide +kernel
theorem dX6_text_68 : decode cX6_text 68 = .ok (.iload_n 1, 1) := by decide +kernel
theorem dX6_text_69 : decode cX6_text 69 = .ok (.ireturn, 1) := by decide +kernel
def wc_Parser_text_17B (Q : Int → cS → Prop) (E : cS → Prop) (k17 : cS → Int → Int → Prop) (A0 : cS) (x1 : Int) (x2 : Int) : Prop :=
  ((1000000 ≤ x2 → Q x1 A0) ∧ (¬ 1000000 ≤ x2 → ∃ n, n ≤ 900 ∧ wcG_P n 0 1 0 0 A0 (fun r7 A8 => wc_Tree_hang A8 x1 r7 (fun A16 => wc_Parser_kind A16  (fun r23 A24 => ((¬ r23 = 0 → wc_Parser_due A24 10 (fun A34 => wc_Parser_kind A34  (fun r41 A42 => ((¬ r41 = 0 → (zR (x2 + 1)) ∧ k17 A42 x1 (x2 + 1)) ∧ (r41 = 0 → Q x1 A42)))) E) ∧ (r23 = 0 → Q x1 A24))))) E))
def wc_Parser_text_17 (Q : Int → cS → Prop) (E : cS → Prop)  : Nat → cS → Int → Int → Prop
  | 0 => fun _ _ _ => False
  | m + 1 => fun A0 x1 x2 => wc_Parser_text_17B Q E  (wc_Parser_text_17 Q E  m) A0 x1 x2
def wc_Parser_text (A0 : cS)  (Q : Int → cS → Prop) (E : cS → Prop) : Prop :=
  wc_Parser_place A0  (fun r1 A2 => wc_Tree_node A2 92 r1 0 (fun r9 A10 => ∃ n, wc_Parser_text_17 Q E  n A10 r9 0))
set_option maxHeartbeats 4000000 in
set_option maxRecDepth 100000 in
theorem cb_Parser_text_17 {X : gX} {d : gD} {b : Nat} {Y : gYt} {c : Nat × Nat} {F0 : gM} {S0 : gSt} {mc ms : Nat} (hC : gC RX6 cX6_text 3 (some .int) "text" (gR 910 mc ms) d b X) (hr : hRm X b) (hst : X.la.stackTraces = false) (hT : ∀ x ∈ X.co.exceptionTable.toList, False) (hcx : yCx b c) {Q : Int → cS → Prop} {E : cS → Prop} {k17 : cS → Int → Int → Prop} (hk17 : ∀ (u : hU) (S : gSt) (A0 : cS) (x1 : Int) (x2 : Int), zR x1 → zR x2 → yOk X b u → yZ d b Y c F0 S0 u S A0 → k17 A0 x1 x2 → yG X d b (yxQi X d b Y c F0 S0 mc ms Q E) u 17 [some (.ref (gO' Y 4)), some (.int (zI x1)), some (.int (zI x2))] []) {u : hU} {S : gSt} {A0 : cS} {x1 : Int} {x2 : Int} (Rx1 : zR x1) (Rx2 : zR x2) (ho : yOk X b u) (hZ : yZ d b Y c F0 S0 u S A0) (hw : wc_Parser_text_17B Q E k17 A0 x1 x2) : yG X d b (yxQi X d b Y c F0 S0 mc ms Q E) u 17 [some (.ref (gO' Y 4)), some (.int (zI x1)), some (.int (zI x2))] [] := by
  unfold wc_Parser_text_17B at hw
  refine h_iload_n hC dX6_text_17 rfl ?_
  refine yr_ldc (e := 1000000) hC dX6_text_18 kw_514 (by decide) ?_
  refine yr_icmp_ge (tgt := 68) hC Rx2 (by decide) dX6_text_20 (by decide) (fun c1 => ?_) (fun c1 => ?_)
  · have h2 := hw.1 c1
    refine h_iload_n hC dX6_text_68 rfl ?_
    exact h_xret (yr_iret hC hr ho hZ Rx1 h2 dX6_text_69)
  · have h3 := hw.2 c1
    refine h_aload_n hC dX6_text_23 rfl ?_
    refine h_get hC fl_X6_60 (hZ.w.o 4 (by decide)) rfl dX6_text_24 ?_
    refine h_iload_n hC dX6_text_27 rfl ?_
    refine h_aload_n hC dX6_text_28 rfl ?_
    refine h_iconst (v := zI 1) hC dX6_text_29 rfl ?_
    obtain ⟨m4, hm5, h6⟩ := h3
    refine yx_calli (As := [.int (zI 1)]) hC hr ho hZ rfl (hZ.w.o 4 (by decide)) ((okG_P X.la d b Y c hst hcx m4).1 (by decide) hZ.rs h6) cl_X6_119 rfl rfl (Nat.le_of_ble_eq_true rfl) (hFr_of (by omega) (Nat.le_of_ble_eq_true rfl)) dX6_text_30 (fun _ _ _ ho1 hz1 he1 => yx_out hC hr ho1 hz1 hT he1) (fun r7 A8 u9 S10 R11 o12 hZ13 h14 => ?_)
    refine yr_callVv (As := [.int (zI x1), .int (zI r7)]) hC hr o12 hZ13 rfl (hZ13.w.o 2 (by decide)) (cm_Tree_hang X.la d b Rx1 R11 hZ13.rs h14) cl_X6_123 rfl rfl (Nat.le_of_ble_eq_true rfl) (hFr_of (Nat.le_of_ble_eq_true rfl) (Nat.le_of_ble_eq_true rfl)) dX6_text_33 (fun A16 u17 S18 o20 hZ21 h22 => ?_)
    refine h_aload_n hC dX6_text_36 rfl ?_
    refine yr_callVi (As := []) hC hr o20 hZ21 rfl (hZ21.w.o 4 (by decide)) (cm_Parser_kind X.la d b  hZ21.rs h22) cl_X6_97 rfl rfl (Nat.le_of_ble_eq_true rfl) (hFr_of (Nat.le_of_ble_eq_true rfl) (Nat.le_of_ble_eq_true rfl)) dX6_text_37 (fun r23 A24 u25 S26 R27 o28 hZ29 h30 => ?_)
    refine yr_if_ne (tgt := 46) hC R27 dX6_text_40 (by decide) (fun c31 => ?_) (fun c31 => ?_)
    · have h32 := h30.1 c31
      refine h_aload_n hC dX6_text_46 rfl ?_
      refine h_bipush (v := zI 10) hC dX6_text_47 rfl ?_
      refine yx_callv (As := [.int (zI 10)]) hC hr o28 hZ29 rfl (hZ29.w.o 4 (by decide)) (cm_Parser_due X.la d b hst hcx (by decide) hZ29.rs h32) cl_X6_109 rfl rfl (Nat.le_of_ble_eq_true rfl) (hFr_of (Nat.le_of_ble_eq_true rfl) (Nat.le_of_ble_eq_true rfl)) dX6_text_49 (fun _ _ _ ho1 hz1 he1 => yx_out hC hr ho1 hz1 hT he1) (fun A34 u35 S36 o38 hZ39 h40 => ?_)
      refine h_aload_n hC dX6_text_52 rfl ?_
      refine yr_callVi (As := []) hC hr o38 hZ39 rfl (hZ39.w.o 4 (by decide)) (cm_Parser_kind X.la d b  hZ39.rs h40) cl_X6_97 rfl rfl (Nat.le_of_ble_eq_true rfl) (hFr_of (Nat.le_of_ble_eq_true rfl) (Nat.le_of_ble_eq_true rfl)) dX6_text_53 (fun r41 A42 u43 S44 R45 o46 hZ47 h48 => ?_)
      refine yr_if_ne (tgt := 62) hC R45 dX6_text_56 (by decide) (fun c49 => ?_) (fun c49 => ?_)
      · have h50 := h48.1 c49
        refine yr_iinc (x := x2) (lv' := [some (.ref (gO' Y 4)), some (.int (zI x1)), some (.int (zI (x2 + 1)))]) hC dX6_text_62 rfl rfl rfl ?_
        refine h_goto (tgt := 17) hC dX6_text_65 (by decide) ?_
        obtain ⟨o51, h52⟩ := h50
        exact hk17 _ _ _ _ _ Rx1 o51 o46 hZ47 h52
      · have h53 := h48.2 c49
        refine h_goto (tgt := 68) hC dX6_text_59 (by decide) ?_
        refine h_iload_n hC dX6_text_68 rfl ?_
        exact h_xret (yr_iret hC hr o46 hZ47 Rx1 h53 dX6_text_69)
    · have h54 := h30.2 c31
      refine h_goto (tgt := 68) hC dX6_text_43 (by decide) ?_
      refine h_iload_n hC dX6_text_68 rfl ?_
      exact h_xret (yr_iret hC hr o28 hZ29 Rx1 h54 dX6_text_69)
theorem cl_Parser_text_17 {X : gX} {d : gD} {b : Nat} {Y : gYt} {c : Nat × Nat} {F0 : gM} {S0 : gSt} {mc ms : Nat} (hC : gC RX6 cX6_text 3 (some .int) "text" (gR 910 mc ms) d b X) (hr : hRm X b) (hst : X.la.stackTraces = false) (hT : ∀ x ∈ X.co.exceptionTable.toList, False) (hcx : yCx b c) {Q : Int → cS → Prop} {E : cS → Prop}   : ∀ (m : Nat) (u : hU) (S : gSt) (A0 : cS) (x1 : Int) (x2 : Int), zR x1 → zR x2 → yOk X b u → yZ d b Y c F0 S0 u S A0 → wc_Parser_text_17 Q E  m A0 x1 x2 → yG X d b (yxQi X d b Y c F0 S0 mc ms Q E) u 17 [some (.ref (gO' Y 4)), some (.int (zI x1)), some (.int (zI x2))] [] := by
  intro m
  induction m with
  | zero => intro u S A0 x1 x2 Rx1 Rx2 ho hZ hw; exact False.elim hw
  | succ m ihm => intro u S A0 x1 x2 Rx1 Rx2 ho hZ hw; exact cb_Parser_text_17 hC hr hst hT hcx  ihm Rx1 Rx2 ho hZ hw
set_option maxHeartbeats 4000000 in
set_option maxRecDepth 100000 in
theorem cm_Parser_text (l : Launch) (d : gD) (b : Nat) {Y : gYt} {c : Nat × Nat} (hst : l.stackTraces = false) (hcx : yCx b c) {F : gM} {k n : Nat} {S : gSt} {A0 : cS}   {Q : Int → cS → Prop} {E : cS → Prop} (hZ : yZ d b Y c F S (F, k, n) S A0) (hw : wc_Parser_text A0  Q E) : hXi l d b yX6_text cX6_text 3 .int 910 k n F [.ref (gO' Y 4)] (yPi d b Y c F S Q) "java/lang/IllegalStateException" (yPx d b Y c F S E) := by
  intro mc ms
  refine hX_of2 rfl (nL := 3) (Nat.le_of_ble_eq_true rfl) ?_
  intro X hX hT hC hr ho; subst hX
  show yG X d b (yxQi X d b Y c F S mc ms Q E) (F, k, n) 0 [some (.ref (gO' Y 4)), none, none] []
  unfold wc_Parser_text at hw
  refine h_aload_n hC dX6_text_0 rfl ?_
  refine h_get hC fl_X6_60 (hZ.w.o 4 (by decide)) rfl dX6_text_1 ?_
  refine h_bipush (v := zI 92) hC dX6_text_4 rfl ?_
  refine h_aload_n hC dX6_text_6 rfl ?_
  refine yr_callVi (As := []) hC hr ho hZ rfl (hZ.w.o 4 (by decide)) (cm_Parser_place X.la d b  hZ.rs hw) cl_X6_112 rfl rfl (Nat.le_of_ble_eq_true rfl) (hFr_of (Nat.le_of_ble_eq_true rfl) (Nat.le_of_ble_eq_true rfl)) dX6_text_7 (fun r1 A2 u3 S4 R5 o6 hZ7 h8 => ?_)
  refine h_iconst (v := zI 0) hC dX6_text_10 rfl ?_
  refine yr_callVi (As := [.int (zI 92), .int (zI r1), .int (zI 0)]) hC hr o6 hZ7 rfl (hZ7.w.o 2 (by decide)) (cm_Tree_node X.la d b (by decide) R5 (by decide) hZ7.rs h8) cl_X6_115 rfl rfl (Nat.le_of_ble_eq_true rfl) (hFr_of (Nat.le_of_ble_eq_true rfl) (Nat.le_of_ble_eq_true rfl)) dX6_text_11 (fun r9 A10 u11 S12 R13 o14 hZ15 h16 => ?_)
  refine h_istore_n (lv' := [some (.ref (gO' Y 4)), some (.int (zI r9)), none]) hC dX6_text_14 (Nat.le_of_ble_eq_true rfl) rfl rfl ?_
  refine h_iconst (v := zI 0) hC dX6_text_15 rfl ?_
  refine h_istore_n (lv' := [some (.ref (gO' Y 4)), some (.int (zI r9)), some (.int (zI 0))]) hC dX6_text_16 (Nat.le_of_ble_eq_true rfl) rfl rfl ?_
  obtain ⟨m17, h18⟩ := h16
  exact cl_Parser_text_17 hC hr hst hT hcx  m17 _ _ _ _ _ R13 (by decide) o14 hZ15 h18
theorem dX6_reads_0 : decode cX6_reads 0 = .ok (.aload_n 0, 1) := by decide +kernel
theorem dX6_reads_1 : decode cX6_reads 1 = .ok (.getfield 60, 3) := by decide +kernel
theorem dX6_reads_4 : decode cX6_reads 4 = .ok (.invokevirtual 68, 3) := by decide +kernel
theorem dX6_reads_7 : decode cX6_reads 7 = .ok (.aload_n 0, 1) := by decide +kernel
theorem dX6_reads_8 : decode cX6_reads 8 = .ok (.getfield 15, 3) := by decide +kernel
theorem dX6_reads_11 : decode cX6_reads 11 = .ok (.iconst 0, 1) := by decide +kernel
theorem dX6_reads_12 : decode cX6_reads 12 = .ok (.invokevirtual 73, 3) := by decide +kernel
theorem dX6_reads_15 : decode cX6_reads 15 = .ok (.aload_n 0, 1) := by decide +kernel
theorem dX6_reads_16 : decode cX6_reads 16 = .ok (.getfield 21, 3) := by decide +kernel
theorem dX6_reads_19 : decode cX6_reads 19 = .ok (.iconst 0, 1) := by decide +kernel
theorem dX6_reads_20 : decode cX6_reads 20 = .ok (.invokevirtual 73, 3) := by decide +kernel
theorem dX6_reads_23 : decode cX6_reads 23 = .ok (.aload_n 0, 1) := by decide +kernel
theorem dX6_reads_24 : decode cX6_reads 24 = .ok (.getfield 24, 3) := by decide +kernel
theorem dX6_reads_27 : decode cX6_reads 27 = .ok (.iconst 0, 1) := by decide +kernel
theorem dX6_reads_28 : decode cX6_reads 28 = .ok (.invokevirtual 73, 3) := by decide +kernel
theorem dX6_reads_31 : decode cX6_reads 31 = .ok (.aload_n 0, 1) := by decide +kernel
theorem dX6_reads_32 : decode cX6_reads 32 = .ok (.iconst 0, 1) := by decide +kernel
theorem dX6_reads_33 : decode cX6_reads 33 = .ok (.putfield 27, 3) := by decide +kernel
theorem dX6_reads_36 : decode cX6_reads 36 = .ok (.aload_n 0, 1) := by decide +kernel
theorem dX6_reads_37 : decode cX6_reads 37 = .ok (.iconst 0, 1) := by decide +kernel
theorem dX6_reads_38 : decode cX6_reads 38 = .ok (.putfield 31, 3) := by decide +kernel
theorem dX6_reads_41 : decode cX6_reads 41 = .ok (.aload_n 0, 1) := by decide +kernel
theorem dX6_reads_42 : decode cX6_reads 42 = .ok (.aload_n 0, 1) := by decide +kernel
theorem dX6_reads_43 : decode cX6_reads 43 = .ok (.invokevirtual 76, 3) := by decide +kernel
theorem dX6_reads_46 : decode cX6_reads 46 = .ok (.putfield 34, 3) := by decide +kernel
theorem dX6_reads_49 : decode cX6_reads 49 = .ok (.iconst 1, 1) := by decide +kernel
theorem dX6_reads_50 : decode cX6_reads 50 = .ok (.ireturn, 1) := by decide +kernel
theorem dX6_reads_51 : decode cX6_reads 51 = .ok (.astore_n 1, 1) := by decide +kernel
theorem dX6_reads_52 : decode cX6_reads 52 = .ok (.iconst 0, 1) := by decide +kernel
theorem dX6_reads_53 : decode cX6_reads 53 = .ok (.ireturn, 1) := by decide +kernel
def wc_Parser_reads (A0 : cS) (Q : Int → cS → Prop) : Prop :=
  wc_Tree_clear A0  (fun A2 => wc_Parser_text (ypv (ypv (ycut (ycut (ycut A2 21 0) 22 0) 23 0) 10 0) 11 0) (fun r43 A44 => Q 1 (ypv A44 12 r43)) (fun A51 => Q 0 A51))
set_option maxHeartbeats 4000000 in
set_option maxRecDepth 100000 in
theorem cm_Parser_reads (l : Launch) (d : gD) (b : Nat) {Y : gYt} {c : Nat × Nat} (hst : l.stackTraces = false) (hcx : yCx b c) {F : gM} {k n : Nat} {S : gSt} {A0 : cS} {Q : Int → cS → Prop} (hZ : yZ d b Y c F S (F, k, n) S A0) (hw : wc_Parser_reads A0 Q) : ∀ mc ms, Met l yX6_reads (.codeWith yX6_reads cX6_reads 2 (some .boolean) [(41, 50, 51, 80)] :: gWs) (gR 911 mc ms) (va_Pc [.ref (gO' Y 4)] (hP d b F k n mc ms)) (va_Qi (yPi d b Y (c.1 + 1, c.2 + 6) F S Q) (hB d b) (fun q => b ≤ q)) mc ms (fun q => b ≤ q) := by
  intro mc ms
  refine hH_of2 rfl (nL := 2) (Nat.le_of_ble_eq_true rfl) ?_
  intro X hX hTT hC hr ho; subst hX
  show yG X d b (yQi X d b Y (c.1 + 1, c.2 + 6) F S mc ms Q) (F, k, n) 0 [some (.ref (gO' Y 4)), none] []
  unfold wc_Parser_reads at hw
  refine h_aload_n hC dX6_reads_0 rfl ?_
  refine h_get hC fl_X6_60 (hZ.w.o 4 (by decide)) rfl dX6_reads_1 ?_
  refine yr_callVv (As := []) hC hr ho hZ rfl (hZ.w.o 2 (by decide)) (cm_Tree_clear X.la d b  hZ.rs hw) cl_X6_68 rfl rfl (Nat.le_of_ble_eq_true rfl) (hFr_of (Nat.le_of_ble_eq_true rfl) (Nat.le_of_ble_eq_true rfl)) dX6_reads_4 (fun A2 u3 S4 o6 hZ7 h8 => ?_)
  refine h_aload_n hC dX6_reads_7 rfl ?_
  refine h_get hC fl_X6_15 (hZ7.w.o 4 (by decide)) rfl dX6_reads_8 ?_
  refine h_iconst (v := zI 0) hC dX6_reads_11 rfl ?_
  refine yr_cut (j := 21) hC hr o6 hZ7 (by decide) (by decide) cl_X6_73 rfl (Nat.le_of_ble_eq_true rfl) (hFr_of (Nat.le_of_ble_eq_true rfl) (Nat.le_of_ble_eq_true rfl)) dX6_reads_12 (fun u9 S10 o11 hZ12 => ?_)
  refine h_aload_n hC dX6_reads_15 rfl ?_
  refine h_get hC fl_X6_21 (hZ12.w.o 4 (by decide)) rfl dX6_reads_16 ?_
  refine h_iconst (v := zI 0) hC dX6_reads_19 rfl ?_
  refine yr_cut (j := 22) hC hr o11 hZ12 (by decide) (by decide) cl_X6_73 rfl (Nat.le_of_ble_eq_true rfl) (hFr_of (Nat.le_of_ble_eq_true rfl) (Nat.le_of_ble_eq_true rfl)) dX6_reads_20 (fun u13 S14 o15 hZ16 => ?_)
  refine h_aload_n hC dX6_reads_23 rfl ?_
  refine h_get hC fl_X6_24 (hZ16.w.o 4 (by decide)) rfl dX6_reads_24 ?_
  refine h_iconst (v := zI 0) hC dX6_reads_27 rfl ?_
  refine yr_cut (j := 23) hC hr o15 hZ16 (by decide) (by decide) cl_X6_73 rfl (Nat.le_of_ble_eq_true rfl) (hFr_of (Nat.le_of_ble_eq_true rfl) (Nat.le_of_ble_eq_true rfl)) dX6_reads_28 (fun u17 S18 o19 hZ20 => ?_)
  refine h_aload_n hC dX6_reads_31 rfl ?_
  refine h_iconst (v := zI 0) hC dX6_reads_32 rfl ?_
  refine hi_putx (i := 4) (kx := 10) hC hZ20.hi (by decide) fl_X6_27 rfl rfl rfl (Nat.le_of_ble_eq_true rfl) rfl gsame_10 (fun q => absurd q (by decide)) dX6_reads_33 (fun F21 S22 I23 K24 s25 v26 p27 => ?_)
  have hZ28 := hZ20.put I23 K24 s25 v26 (by decide) rfl
  clear I23 K24 s25 v26 p27
  refine yr_nu o19 hZ28 (fun u29 o30 hZ31 => ?_)
  refine h_aload_n hC dX6_reads_36 rfl ?_
  refine h_iconst (v := zI 0) hC dX6_reads_37 rfl ?_
  refine hi_putx (i := 4) (kx := 11) hC hZ31.hi (by decide) fl_X6_31 rfl rfl rfl (Nat.le_of_ble_eq_true rfl) rfl gsame_11 (fun q => absurd q (by decide)) dX6_reads_38 (fun F32 S33 I34 K35 s36 v37 p38 => ?_)
  have hZ39 := hZ31.put I34 K35 s36 v37 (by decide) rfl
  clear I34 K35 s36 v37 p38
  refine yr_nu o30 hZ39 (fun u40 o41 hZ42 => ?_)
  refine h_aload_n hC dX6_reads_41 rfl ?_
  refine h_aload_n hC dX6_reads_42 rfl ?_
  refine yx_calli (As := []) hC hr o41 hZ42 rfl (hZ42.w.o 4 (by decide)) (cm_Parser_text X.la d b hst hcx hZ42.rs h8) cl_X6_76 rfl rfl (Nat.le_of_ble_eq_true rfl) (hFr_of (Nat.le_of_ble_eq_true rfl) (Nat.le_of_ble_eq_true rfl)) dX6_reads_43 (fun A51 u52 S53 o54 hZ55 h56 => h_xcatch (name := "java/lang/IllegalStateException") hC hTT ⟨by decide, by decide⟩ (by decide) kw_950 (by decide) (fun q57 => ?_)) (fun r43 A44 u45 S46 R47 o48 hZ49 h50 => ?_)
  · refine h_astore_n (lv' := [some (.ref (gO' Y 4)), some (.ref q57)]) hC dX6_reads_51 (Nat.le_of_ble_eq_true rfl) rfl rfl ?_
    refine h_iconst (v := zI 0) hC dX6_reads_52 rfl ?_
    exact yr_zret hC hr o54 hZ55 (Or.inl rfl) h56 dX6_reads_53
  · refine hi_putx (i := 4) (kx := 12) hC hZ49.hi (by decide) fl_X6_34 rfl rfl rfl (Nat.le_of_ble_eq_true rfl) rfl gsame_12 (fun q => absurd q (by decide)) dX6_reads_46 (fun F58 S59 I60 K61 s62 v63 p64 => ?_)
    have hZ65 := hZ49.put I60 K61 s62 v63 R47 rfl
    clear I60 K61 s62 v63 p64
    refine yr_nu o48 hZ65 (fun u66 o67 hZ68 => ?_)
    refine h_iconst (v := zI 1) hC dX6_reads_49 rfl ?_
    exact yr_zret hC hr o67 (hZ68.up hcx) (Or.inr rfl) h50 dX6_reads_50
