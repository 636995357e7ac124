/-! the class as formulas: coder -/
def yOkC (l : Launch) (d : gD) (b : Nat) (Y : gYt) (c : Nat × Nat) (lv0 : Nat) (rec : Nat → Int → Int → Int → cS → (Int → cS → Prop) → Prop) : Prop :=
  (∀ {F : gM} {k n : Nat} {S : gSt} {A0 : cS} {a0 : Int}, zR a0 → ∀ {Q : Int → cS → Prop}, yZ d b Y c F S (F, k, n) S A0 → rec 0 a0 0 0 A0 Q → hMv l d b yX1_routines cX1_routines 4 (630 + lv0) k n F [(.ref (gO' Y 5)), .int (zI a0)] (yPv d b Y c F S (fun A' => Q 0 A'))) ∧
  (∀ {F : gM} {k n : Nat} {S : gSt} {A0 : cS} {a0 : Int}, zR a0 → ∀ {Q : Int → cS → Prop}, yZ d b Y c F S (F, k, n) S A0 → rec 1 a0 0 0 A0 Q → hMv l d b yX1_routine cX1_routine 13 (630 + lv0) k n F [(.ref (gO' Y 5)), .int (zI a0)] (yPv d b Y c F S (fun A' => Q 0 A'))) ∧
  (∀ {F : gM} {k n : Nat} {S : gSt} {A0 : cS} {a0 : Int}, zR a0 → ∀ {Q : Int → cS → Prop}, yZ d b Y c F S (F, k, n) S A0 → rec 2 a0 0 0 A0 Q → hMv l d b yX1_variables cX1_variables 7 (630 + lv0) k n F [(.ref (gO' Y 5)), .int (zI a0)] (yPv d b Y c F S (fun A' => Q 0 A'))) ∧
  (∀ {F : gM} {k n : Nat} {S : gSt} {A0 : cS} {a0 : Int}, zR a0 → ∀ {Q : Int → cS → Prop}, yZ d b Y c F S (F, k, n) S A0 → rec 3 a0 0 0 A0 Q → hMv l d b yX1_section cX1_section 5 (630 + lv0) k n F [(.ref (gO' Y 5)), .int (zI a0)] (yPv d b Y c F S (fun A' => Q 0 A'))) ∧
  (∀ {F : gM} {k n : Nat} {S : gSt} {A0 : cS} {a0 : Int}, zR a0 → ∀ {Q : Int → cS → Prop}, yZ d b Y c F S (F, k, n) S A0 → rec 4 a0 0 0 A0 Q → hMv l d b yX1_command cX1_command 2 (630 + lv0) k n F [(.ref (gO' Y 5)), .int (zI a0)] (yPv d b Y c F S (fun A' => Q 0 A'))) ∧
  (∀ {F : gM} {k n : Nat} {S : gSt} {A0 : cS} {a0 : Int}, zR a0 → ∀ {Q : Int → cS → Prop}, yZ d b Y c F S (F, k, n) S A0 → rec 5 a0 0 0 A0 Q → hMv l d b yX1_assignment cX1_assignment 6 (630 + lv0) k n F [(.ref (gO' Y 5)), .int (zI a0)] (yPv d b Y c F S (fun A' => Q 0 A'))) ∧
  (∀ {F : gM} {k n : Nat} {S : gSt} {A0 : cS} {a0 : Int}, zR a0 → ∀ {Q : Int → cS → Prop}, yZ d b Y c F S (F, k, n) S A0 → rec 6 a0 0 0 A0 Q → hMv l d b yX1_conditional cX1_conditional 6 (630 + lv0) k n F [(.ref (gO' Y 5)), .int (zI a0)] (yPv d b Y c F S (fun A' => Q 0 A'))) ∧
  (∀ {F : gM} {k n : Nat} {S : gSt} {A0 : cS} {a0 : Int}, zR a0 → ∀ {Q : Int → cS → Prop}, yZ d b Y c F S (F, k, n) S A0 → rec 7 a0 0 0 A0 Q → hMv l d b yX1_asking cX1_asking 6 (630 + lv0) k n F [(.ref (gO' Y 5)), .int (zI a0)] (yPv d b Y c F S (fun A' => Q 0 A'))) ∧
  (∀ {F : gM} {k n : Nat} {S : gSt} {A0 : cS} {a0 : Int}, zR a0 → ∀ {Q : Int → cS → Prop}, yZ d b Y c F S (F, k, n) S A0 → rec 8 a0 0 0 A0 Q → hMv l d b yX1_repeats cX1_repeats 9 (630 + lv0) k n F [(.ref (gO' Y 5)), .int (zI a0)] (yPv d b Y c F S (fun A' => Q 0 A'))) ∧
  (∀ {F : gM} {k n : Nat} {S : gSt} {A0 : cS} {a0 : Int}, zR a0 → ∀ {Q : Int → cS → Prop}, yZ d b Y c F S (F, k, n) S A0 → rec 9 a0 0 0 A0 Q → hMv l d b yX1_counting cX1_counting 9 (630 + lv0) k n F [(.ref (gO' Y 5)), .int (zI a0)] (yPv d b Y c F S (fun A' => Q 0 A'))) ∧
  (∀ {F : gM} {k n : Nat} {S : gSt} {A0 : cS} {a0 : Int}, zR a0 → ∀ {Q : Int → cS → Prop}, yZ d b Y c F S (F, k, n) S A0 → rec 10 a0 0 0 A0 Q → hMv l d b yX1_switching cX1_switching 8 (630 + lv0) k n F [(.ref (gO' Y 5)), .int (zI a0)] (yPv d b Y c F S (fun A' => Q 0 A'))) ∧
  (∀ {F : gM} {k n : Nat} {S : gSt} {A0 : cS} {a0 : Int}, zR a0 → ∀ {Q : Int → cS → Prop}, yZ d b Y c F S (F, k, n) S A0 → rec 11 a0 0 0 A0 Q → hMv l d b yX1_telling cX1_telling 2 (630 + lv0) k n F [(.ref (gO' Y 5)), .int (zI a0)] (yPv d b Y c F S (fun A' => Q 0 A'))) ∧
  (∀ {F : gM} {k n : Nat} {S : gSt} {A0 : cS} {a0 : Int} {a1 : Int} {a2 : Int}, zR a0 → zR a1 → zR a2 → ∀ {Q : Int → cS → Prop}, yZ d b Y c F S (F, k, n) S A0 → rec 12 a0 a1 a2 A0 Q → hMv l d b yX1_expression cX1_expression 11 (630 + lv0) k n F [(.ref (gO' Y 5)), .int (zI a0), .int (zI a1), .int (zI a2)] (yPv d b Y c F S (fun A' => Q 0 A'))) ∧
  (∀ {F : gM} {k n : Nat} {S : gSt} {A0 : cS} {a0 : Int}, zR a0 → ∀ {Q : Int → cS → Prop}, yZ d b Y c F S (F, k, n) S A0 → rec 13 a0 0 0 A0 Q → hMv l d b yX1_calls cX1_calls 6 (630 + lv0) k n F [(.ref (gO' Y 5)), .int (zI a0)] (yPv d b Y c F S (fun A' => Q 0 A'))) ∧
  (∀ {F : gM} {k n : Nat} {S : gSt} {A0 : cS} {a0 : Int} {a1 : Int}, zR a0 → zR a1 → ∀ {Q : Int → cS → Prop}, yZ d b Y c F S (F, k, n) S A0 → rec 14 a0 a1 0 A0 Q → hMv l d b yX1_arguments cX1_arguments 6 (630 + lv0) k n F [(.ref (gO' Y 5)), .int (zI a0), .int (zI a1)] (yPv d b Y c F S (fun A' => Q 0 A'))) ∧
  (∀ {F : gM} {k n : Nat} {S : gSt} {A0 : cS} {a0 : Int}, zR a0 → ∀ {Q : Int → cS → Prop}, yZ d b Y c F S (F, k, n) S A0 → rec 15 a0 0 0 A0 Q → hMv l d b yX1_valof cX1_valof 7 (630 + lv0) k n F [(.ref (gO' Y 5)), .int (zI a0)] (yPv d b Y c F S (fun A' => Q 0 A'))) ∧
  (∀ {F : gM} {k n : Nat} {S : gSt} {A0 : cS} {a0 : Int}, zR a0 → ∀ {Q : Int → cS → Prop}, yZ d b Y c F S (F, k, n) S A0 → rec 16 a0 0 0 A0 Q → hMv l d b yX1_choice cX1_choice 6 (630 + lv0) k n F [(.ref (gO' Y 5)), .int (zI a0)] (yPv d b Y c F S (fun A' => Q 0 A')))
theorem dX1_routines_0 : decode cX1_routines 0 = .ok (.aload_n 0, 1) := by decide +kernel
theorem dX1_routines_1 : decode cX1_routines 1 = .ok (.getfield 65, 3) := by decide +kernel
theorem dX1_routines_4 : decode cX1_routines 4 = .ok (.iload_n 1, 1) := by decide +kernel
theorem dX1_routines_5 : decode cX1_routines 5 = .ok (.invokevirtual 126, 3) := by decide +kernel
theorem dX1_routines_8 : decode cX1_routines 8 = .ok (.istore_n 2, 1) := by decide +kernel
theorem dX1_routines_9 : decode cX1_routines 9 = .ok (.iconst 0, 1) := by decide +kernel
theorem dX1_routines_10 : decode cX1_routines 10 = .ok (.istore_n 3, 1) := by decide +kernel
theorem dX1_routines_11 : decode cX1_routines 11 = .ok (.iload_n 3, 1) := by decide +kernel
theorem dX1_routines_12 : decode cX1_routines 12 = .ok (.ldc 11, 2) := by decide +kernel
theorem dX1_routines_14 : decode cX1_routines 14 = .ok (.if_icmp .ge 27, 3) := by decide +kernel
theorem dX1_routines_17 : decode cX1_routines 17 = .ok (.iload_n 2, 1) := by decide +kernel
theorem dX1_routines_18 : decode cX1_routines 18 = .ok (.ifCond .eq 23, 3) := by decide +kernel
theorem dX1_routines_21 : decode cX1_routines 21 = .ok (.aload_n 0, 1) := by decide +kernel
theorem dX1_routines_22 : decode cX1_routines 22 = .ok (.iload_n 2, 1) := by decide +kernel
theorem dX1_routines_23 : decode cX1_routines 23 = .ok (.invokevirtual 157, 3) := by decide +kernel
theorem dX1_routines_26 : decode cX1_routines 26 = .ok (.aload_n 0, 1) := by decide +kernel
theorem dX1_routines_27 : decode cX1_routines 27 = .ok (.getfield 65, 3) := by decide +kernel
theorem dX1_routines_30 : decode cX1_routines 30 = .ok (.iload_n 2, 1) := by decide +kernel
theorem dX1_routines_31 : decode cX1_routines 31 = .ok (.invokevirtual 142, 3) := by decide +kernel
theorem dX1_routines_34 : decode cX1_routines 34 = .ok (.istore_n 2, 1) := by decide +kernel
theorem dX1_routines_35 : decode cX1_routines 35 = .ok (.iinc 3 1, 3) := by decide +kernel
theorem dX1_routines_38 : decode cX1_routines 38 = .ok (.goto (-27), 3) := by decide +kernel
theorem dX1_routines_41 : decode cX1_routines 41 = .ok (.aload_n 0, 1) := by decide +kernel
theorem dX1_routines_42 : decode cX1_routines 42 = .ok (.getfield 65, 3) := by decide +kernel
theorem dX1_routines_45 : decode cX1_routines 45 = .ok (.iload_n 1, 1) := by decide +kernel
theorem dX1_routines_46 : decode cX1_routines 46 = .ok (.invokevirtual 126, 3) := by decide +kernel
theorem dX1_routines_49 : decode cX1_routines 49 = .ok (.istore_n 2, 1) := by decide +kernel
theorem dX1_routines_50 : decode cX1_routines 50 = .ok (.iconst 0, 1) := by decide +kernel
theorem dX1_routines_51 : decode cX1_routines 51 = .ok (.istore_n 3, 1) := by decide +kernel
theorem dX1_routines_52 : decode cX1_routines 52 = .ok (.iload_n 3, 1) := by decide +kernel
theorem dX1_routines_53 : decode cX1_routines 53 = .ok (.ldc 11, 2) := by decide +kernel
theorem dX1_routines_55 : decode cX1_routines 55 = .ok (.if_icmp .ge 27, 3) := by decide +kernel
theorem dX1_routines_58 : decode cX1_routines 58 = .ok (.iload_n 2, 1) := by decide +kernel
theorem dX1_routines_59 : decode cX1_routines 59 = .ok (.ifCond .eq 23, 3) := by decide +kernel
theorem dX1_routines_62 : decode cX1_routines 62 = .ok (.aload_n 0, 1) := by decide +kernel
theorem dX1_routines_63 : decode cX1_routines 63 = .ok (.iload_n 2, 1) := by decide +kernel
theorem dX1_routines_64 : decode cX1_routines 64 = .ok (.invokevirtual 160, 3) := by decide +kernel
theorem dX1_routines_67 : decode cX1_routines 67 = .ok (.aload_n 0, 1) := by decide +kernel
theorem dX1_routines_68 : decode cX1_routines 68 = .ok (.getfield 65, 3) := by decide +kernel
theorem dX1_routines_71 : decode cX1_routines 71 = .ok (.iload_n 2, 1) := by decide +kernel
theorem dX1_routines_72 : decode cX1_routines 72 = .ok (.invokevirtual 142, 3) := by decide +kernel
theorem dX1_routines_75 : decode cX1_routines 75 = .ok (.istore_n 2, 1) := by decide +kernel
theorem dX1_routines_76 : decode cX1_routines 76 = .ok (.iinc 3 1, 3) := by decide +kernel
theorem dX1_routines_79 : decode cX1_routines 79 = .ok (.goto (-27), 3) := by decide +kernel
theorem dX1_routines_82 : decode cX1_routines 82 = .ok (.return_, 1) := by decide +kernel
def wc_Coder_routines_52B (rec : Nat → Int → Int → Int → cS → (Int → cS → Prop) → Prop) (Q : cS → Prop) (k52 : cS → Int → Int → Prop) (A0 : cS) (x2 : Int) (x3 : Int) : Prop :=
  ((1000000 ≤ x3 → Q A0) ∧ (¬ 1000000 ≤ x3 → ((x2 = 0 → Q A0) ∧ (¬ x2 = 0 → rec 1 x2 0 0 A0 (fun _ A8 => wc_Tree_next A8 x2 (fun r15 A16 => (zR (x3 + 1)) ∧ k52 A16 r15 (x3 + 1)))))))
def wc_Coder_routines_52 (rec : Nat → Int → Int → Int → cS → (Int → cS → Prop) → Prop) (Q : cS → Prop)  : Nat → cS → Int → Int → Prop
  | 0 => fun _ _ _ => False
  | m + 1 => fun A0 x2 x3 => wc_Coder_routines_52B rec Q  (wc_Coder_routines_52 rec Q  m) A0 x2 x3
def wc_Coder_routines_11B (rec : Nat → Int → Int → Int → cS → (Int → cS → Prop) → Prop) (Q : cS → Prop) (k11 : cS → Int → Int → Int → Prop) (A0 : cS) (x1 : Int) (x2 : Int) (x3 : Int) : Prop :=
  ((1000000 ≤ x3 → wc_Tree_first A0 x1 (fun r3 A4 => ∃ n, wc_Coder_routines_52 rec Q  n A4 r3 0)) ∧ (¬ 1000000 ≤ x3 → ((x2 = 0 → wc_Tree_first A0 x1 (fun r16 A17 => ∃ n, wc_Coder_routines_52 rec Q  n A17 r16 0)) ∧ (¬ x2 = 0 → wc_Coder_routineName A0 x2 (fun A28 => wc_Tree_next A28 x2 (fun r35 A36 => (zR (x3 + 1)) ∧ k11 A36 x1 r35 (x3 + 1)))))))
def wc_Coder_routines_11 (rec : Nat → Int → Int → Int → cS → (Int → cS → Prop) → Prop) (Q : cS → Prop)  : Nat → cS → Int → Int → Int → Prop
  | 0 => fun _ _ _ _ => False
  | m + 1 => fun A0 x1 x2 x3 => wc_Coder_routines_11B rec Q  (wc_Coder_routines_11 rec Q  m) A0 x1 x2 x3
def wc_Coder_routines (rec : Nat → Int → Int → Int → cS → (Int → cS → Prop) → Prop) (A0 : cS) (a0 : Int) (Q : cS → Prop) : Prop :=
  wc_Tree_first A0 a0 (fun r1 A2 => ∃ n, wc_Coder_routines_11 rec Q  n A2 a0 r1 0)
set_option maxHeartbeats 4000000 in
set_option maxRecDepth 100000 in
theorem cb_Coder_routines_52 {X : gX} {d : gD} {b : Nat} {Y : gYt} {c : Nat × Nat} {F0 : gM} {S0 : gSt} {mc ms : Nat} {rec : Nat → Int → Int → Int → cS → (Int → cS → Prop) → Prop} {lv0 : Nat} (hC : gC RX1 cX1_routines 4 none "routines" (gR (630 + lv0 + 1) mc ms) d b X) (hr : hRm X b) (ih : yOkC X.la d b Y c lv0 rec) {Q : cS → Prop} {k52 : cS → Int → Int → Prop} (hk52 : ∀ (u : hU) (S : gSt) (A0 : cS) (x2 : Int) (x3 : Int), zR x2 → zR x3 → yOk X b u → yZ d b Y c F0 S0 u S A0 → k52 A0 x2 x3 → yG X d b (yQv X d b Y c F0 S0 mc ms Q) u 52 [some (.ref (gO' Y 5)), none, some (.int (zI x2)), some (.int (zI x3))] []) {u : hU} {S : gSt} {A0 : cS} {x2 : Int} {x3 : Int} (Rx2 : zR x2) (Rx3 : zR x3) (ho : yOk X b u) (hZ : yZ d b Y c F0 S0 u S A0) (hw : wc_Coder_routines_52B rec Q k52 A0 x2 x3) : yG X d b (yQv X d b Y c F0 S0 mc ms Q) u 52 [some (.ref (gO' Y 5)), none, some (.int (zI x2)), some (.int (zI x3))] [] := by
  unfold wc_Coder_routines_52B at hw
  refine h_iload_n hC dX1_routines_52 rfl ?_
  refine yr_ldc (e := 1000000) hC dX1_routines_53 kw_576 (by decide) ?_
  refine yr_icmp_ge (tgt := 82) hC Rx3 (by decide) dX1_routines_55 (by decide) (fun c1 => ?_) (fun c1 => ?_)
  · have h2 := hw.1 c1
    exact yr_vret hC hr ho hZ h2 dX1_routines_82
  · have h3 := hw.2 c1
    refine h_iload_n hC dX1_routines_58 rfl ?_
    refine yr_if_eq (tgt := 82) hC Rx2 dX1_routines_59 (by decide) (fun c4 => ?_) (fun c4 => ?_)
    · have h5 := h3.1 c4
      exact yr_vret hC hr ho hZ h5 dX1_routines_82
    · have h6 := h3.2 c4
      refine h_aload_n hC dX1_routines_62 rfl ?_
      refine h_iload_n hC dX1_routines_63 rfl ?_
      refine yr_callVv (As := [.int (zI x2)]) hC hr ho hZ rfl (hZ.w.o 5 (by decide)) (ih.2.1 Rx2 hZ.rs h6) cl_X1_160 rfl rfl (Nat.le_of_ble_eq_true rfl) (hFr_of (by omega) (Nat.le_of_ble_eq_true rfl)) dX1_routines_64 (fun A8 u9 S10 o12 hZ13 h14 => ?_)
      refine h_aload_n hC dX1_routines_67 rfl ?_
      refine h_get hC fl_X1_65 (hZ13.w.o 5 (by decide)) rfl dX1_routines_68 ?_
      refine h_iload_n hC dX1_routines_71 rfl ?_
      refine yr_callVi (As := [.int (zI x2)]) hC hr o12 hZ13 rfl (hZ13.w.o 2 (by decide)) (cm_Tree_next X.la d b Rx2 hZ13.rs h14) cl_X1_142 rfl rfl (Nat.le_of_ble_eq_true rfl) (hFr_of (by omega) (Nat.le_of_ble_eq_true rfl)) dX1_routines_72 (fun r15 A16 u17 S18 R19 o20 hZ21 h22 => ?_)
      refine h_istore_n (lv' := [some (.ref (gO' Y 5)), none, some (.int (zI r15)), some (.int (zI x3))]) hC dX1_routines_75 (Nat.le_of_ble_eq_true rfl) rfl rfl ?_
      refine yr_iinc (x := x3) (lv' := [some (.ref (gO' Y 5)), none, some (.int (zI r15)), some (.int (zI (x3 + 1)))]) hC dX1_routines_76 rfl rfl rfl ?_
      refine h_goto (tgt := 52) hC dX1_routines_79 (by decide) ?_
      obtain ⟨o23, h24⟩ := h22
      exact hk52 _ _ _ _ _ R19 o23 o20 hZ21 h24
theorem cl_Coder_routines_52 {X : gX} {d : gD} {b : Nat} {Y : gYt} {c : Nat × Nat} {F0 : gM} {S0 : gSt} {mc ms : Nat} {rec : Nat → Int → Int → Int → cS → (Int → cS → Prop) → Prop} {lv0 : Nat} (hC : gC RX1 cX1_routines 4 none "routines" (gR (630 + lv0 + 1) mc ms) d b X) (hr : hRm X b) (ih : yOkC X.la d b Y c lv0 rec) {Q : cS → Prop}   : ∀ (m : Nat) (u : hU) (S : gSt) (A0 : cS) (x2 : Int) (x3 : Int), zR x2 → zR x3 → yOk X b u → yZ d b Y c F0 S0 u S A0 → wc_Coder_routines_52 rec Q  m A0 x2 x3 → yG X d b (yQv X d b Y c F0 S0 mc ms Q) u 52 [some (.ref (gO' Y 5)), none, some (.int (zI x2)), some (.int (zI x3))] [] := by
  intro m
  induction m with
  | zero => intro u S A0 x2 x3 Rx2 Rx3 ho hZ hw; exact False.elim hw
  | succ m ihm => intro u S A0 x2 x3 Rx2 Rx3 ho hZ hw; exact cb_Coder_routines_52 hC hr ih  ihm Rx2 Rx3 ho hZ hw
set_option maxHeartbeats 4000000 in
set_option maxRecDepth 100000 in
theorem cb_Coder_routines_11 {X : gX} {d : gD} {b : Nat} {Y : gYt} {c : Nat × Nat} {F0 : gM} {S0 : gSt} {mc ms : Nat} {rec : Nat → Int → Int → Int → cS → (Int → cS → Prop) → Prop} {lv0 : Nat} (hC : gC RX1 cX1_routines 4 none "routines" (gR (630 + lv0 + 1) mc ms) d b X) (hr : hRm X b) (ih : yOkC X.la d b Y c lv0 rec) {Q : cS → Prop} {k11 : cS → Int → Int → Int → Prop} (hk11 : ∀ (u : hU) (S : gSt) (A0 : cS) (x1 : Int) (x2 : Int) (x3 : Int), zR x1 → zR x2 → zR x3 → yOk X b u → yZ d b Y c F0 S0 u S A0 → k11 A0 x1 x2 x3 → yG X d b (yQv X d b Y c F0 S0 mc ms Q) u 11 [some (.ref (gO' Y 5)), some (.int (zI x1)), some (.int (zI x2)), some (.int (zI x3))] []) {u : hU} {S : gSt} {A0 : cS} {x1 : Int} {x2 : Int} {x3 : Int} (Rx1 : zR x1) (Rx2 : zR x2) (Rx3 : zR x3) (ho : yOk X b u) (hZ : yZ d b Y c F0 S0 u S A0) (hw : wc_Coder_routines_11B rec Q k11 A0 x1 x2 x3) : yG X d b (yQv X d b Y c F0 S0 mc ms Q) u 11 [some (.ref (gO' Y 5)), some (.int (zI x1)), some (.int (zI x2)), some (.int (zI x3))] [] := by
  unfold wc_Coder_routines_11B at hw
  refine h_iload_n hC dX1_routines_11 rfl ?_
  refine yr_ldc (e := 1000000) hC dX1_routines_12 kw_576 (by decide) ?_
  refine yr_icmp_ge (tgt := 41) hC Rx3 (by decide) dX1_routines_14 (by decide) (fun c1 => ?_) (fun c1 => ?_)
  · have h2 := hw.1 c1
    refine h_aload_n hC dX1_routines_41 rfl ?_
    refine h_get hC fl_X1_65 (hZ.w.o 5 (by decide)) rfl dX1_routines_42 ?_
    refine h_iload_n hC dX1_routines_45 rfl ?_
    refine yr_callVi (As := [.int (zI x1)]) hC hr ho hZ rfl (hZ.w.o 2 (by decide)) (cm_Tree_first X.la d b Rx1 hZ.rs h2) cl_X1_126 rfl rfl (Nat.le_of_ble_eq_true rfl) (hFr_of (by omega) (Nat.le_of_ble_eq_true rfl)) dX1_routines_46 (fun r3 A4 u5 S6 R7 o8 hZ9 h10 => ?_)
    refine h_istore_n (lv' := [some (.ref (gO' Y 5)), some (.int (zI x1)), some (.int (zI r3)), some (.int (zI x3))]) hC dX1_routines_49 (Nat.le_of_ble_eq_true rfl) rfl rfl ?_
    refine h_iconst (v := zI 0) hC dX1_routines_50 rfl ?_
    refine h_istore_n (lv' := [some (.ref (gO' Y 5)), some (.int (zI x1)), some (.int (zI r3)), some (.int (zI 0))]) hC dX1_routines_51 (Nat.le_of_ble_eq_true rfl) rfl rfl ?_
    refine h_lv (lv' := [some (.ref (gO' Y 5)), none, some (.int (zI r3)), some (.int (zI 0))]) ⟨rfl, rfl, rfl, trivial⟩ ?_
    obtain ⟨m11, h12⟩ := h10
    exact cl_Coder_routines_52 hC hr ih  m11 _ _ _ _ _ R7 (by decide) o8 hZ9 h12
  · have h13 := hw.2 c1
    refine h_iload_n hC dX1_routines_17 rfl ?_
    refine yr_if_eq (tgt := 41) hC Rx2 dX1_routines_18 (by decide) (fun c14 => ?_) (fun c14 => ?_)
    · have h15 := h13.1 c14
      refine h_aload_n hC dX1_routines_41 rfl ?_
      refine h_get hC fl_X1_65 (hZ.w.o 5 (by decide)) rfl dX1_routines_42 ?_
      refine h_iload_n hC dX1_routines_45 rfl ?_
      refine yr_callVi (As := [.int (zI x1)]) hC hr ho hZ rfl (hZ.w.o 2 (by decide)) (cm_Tree_first X.la d b Rx1 hZ.rs h15) cl_X1_126 rfl rfl (Nat.le_of_ble_eq_true rfl) (hFr_of (by omega) (Nat.le_of_ble_eq_true rfl)) dX1_routines_46 (fun r16 A17 u18 S19 R20 o21 hZ22 h23 => ?_)
      refine h_istore_n (lv' := [some (.ref (gO' Y 5)), some (.int (zI x1)), some (.int (zI r16)), some (.int (zI x3))]) hC dX1_routines_49 (Nat.le_of_ble_eq_true rfl) rfl rfl ?_
      refine h_iconst (v := zI 0) hC dX1_routines_50 rfl ?_
      refine h_istore_n (lv' := [some (.ref (gO' Y 5)), some (.int (zI x1)), some (.int (zI r16)), some (.int (zI 0))]) hC dX1_routines_51 (Nat.le_of_ble_eq_true rfl) rfl rfl ?_
      refine h_lv (lv' := [some (.ref (gO' Y 5)), none, some (.int (zI r16)), some (.int (zI 0))]) ⟨rfl, rfl, rfl, trivial⟩ ?_
      obtain ⟨m24, h25⟩ := h23
      exact cl_Coder_routines_52 hC hr ih  m24 _ _ _ _ _ R20 (by decide) o21 hZ22 h25
    · have h26 := h13.2 c14
      refine h_aload_n hC dX1_routines_21 rfl ?_
      refine h_iload_n hC dX1_routines_22 rfl ?_
      refine yr_callVv (As := [.int (zI x2)]) hC hr ho hZ rfl (hZ.w.o 5 (by decide)) (cm_Coder_routineName X.la d b Rx2 hZ.rs h26) cl_X1_157 rfl rfl (Nat.le_of_ble_eq_true rfl) (hFr_of (by omega) (Nat.le_of_ble_eq_true rfl)) dX1_routines_23 (fun A28 u29 S30 o32 hZ33 h34 => ?_)
      refine h_aload_n hC dX1_routines_26 rfl ?_
      refine h_get hC fl_X1_65 (hZ33.w.o 5 (by decide)) rfl dX1_routines_27 ?_
      refine h_iload_n hC dX1_routines_30 rfl ?_
      refine yr_callVi (As := [.int (zI x2)]) hC hr o32 hZ33 rfl (hZ33.w.o 2 (by decide)) (cm_Tree_next X.la d b Rx2 hZ33.rs h34) cl_X1_142 rfl rfl (Nat.le_of_ble_eq_true rfl) (hFr_of (by omega) (Nat.le_of_ble_eq_true rfl)) dX1_routines_31 (fun r35 A36 u37 S38 R39 o40 hZ41 h42 => ?_)
      refine h_istore_n (lv' := [some (.ref (gO' Y 5)), some (.int (zI x1)), some (.int (zI r35)), some (.int (zI x3))]) hC dX1_routines_34 (Nat.le_of_ble_eq_true rfl) rfl rfl ?_
      refine yr_iinc (x := x3) (lv' := [some (.ref (gO' Y 5)), some (.int (zI x1)), some (.int (zI r35)), some (.int (zI (x3 + 1)))]) hC dX1_routines_35 rfl rfl rfl ?_
      refine h_goto (tgt := 11) hC dX1_routines_38 (by decide) ?_
      obtain ⟨o43, h44⟩ := h42
      exact hk11 _ _ _ _ _ _ Rx1 R39 o43 o40 hZ41 h44
theorem cl_Coder_routines_11 {X : gX} {d : gD} {b : Nat} {Y : gYt} {c : Nat × Nat} {F0 : gM} {S0 : gSt} {mc ms : Nat} {rec : Nat → Int → Int → Int → cS → (Int → cS → Prop) → Prop} {lv0 : Nat} (hC : gC RX1 cX1_routines 4 none "routines" (gR (630 + lv0 + 1) mc ms) d b X) (hr : hRm X b) (ih : yOkC X.la d b Y c lv0 rec) {Q : cS → Prop}   : ∀ (m : Nat) (u : hU) (S : gSt) (A0 : cS) (x1 : Int) (x2 : Int) (x3 : Int), zR x1 → zR x2 → zR x3 → yOk X b u → yZ d b Y c F0 S0 u S A0 → wc_Coder_routines_11 rec Q  m A0 x1 x2 x3 → yG X d b (yQv X d b Y c F0 S0 mc ms Q) u 11 [some (.ref (gO' Y 5)), some (.int (zI x1)), some (.int (zI x2)), some (.int (zI x3))] [] := by
  intro m
  induction m with
  | zero => intro u S A0 x1 x2 x3 Rx1 Rx2 Rx3 ho hZ hw; exact False.elim hw
  | succ m ihm => intro u S A0 x1 x2 x3 Rx1 Rx2 Rx3 ho hZ hw; exact cb_Coder_routines_11 hC hr ih  ihm Rx1 Rx2 Rx3 ho hZ hw
set_option maxHeartbeats 4000000 in
set_option maxRecDepth 100000 in
theorem cm_Coder_routines (l : Launch) (d : gD) (b : Nat) {Y : gYt} {c : Nat × Nat} {F : gM} {k n : Nat} {S : gSt} {A0 : cS} {rec : Nat → Int → Int → Int → cS → (Int → cS → Prop) → Prop} {lv0 : Nat} (ih : yOkC l d b Y c lv0 rec) {a0 : Int} (Ra0 : zR a0) {Q : cS → Prop} (hZ : yZ d b Y c F S (F, k, n) S A0) (hw : wc_Coder_routines rec A0 a0 Q) : hMv l d b yX1_routines cX1_routines 4 (630 + lv0 + 1) k n F [.ref (gO' Y 5), .int (zI a0)] (yPv d b Y c F S Q) := by
  intro mc ms
  refine hM_of2 rfl (nL := 4) (Nat.le_of_ble_eq_true rfl) ?_
  intro X hX hC hr ho; subst hX
  show yG X d b (yQv X d b Y c F S mc ms Q) (F, k, n) 0 [some (.ref (gO' Y 5)), some (.int (zI a0)), none, none] []
  unfold wc_Coder_routines at hw
  refine h_aload_n hC dX1_routines_0 rfl ?_
  refine h_get hC fl_X1_65 (hZ.w.o 5 (by decide)) rfl dX1_routines_1 ?_
  refine h_iload_n hC dX1_routines_4 rfl ?_
  refine yr_callVi (As := [.int (zI a0)]) hC hr ho hZ rfl (hZ.w.o 2 (by decide)) (cm_Tree_first X.la d b Ra0 hZ.rs hw) cl_X1_126 rfl rfl (Nat.le_of_ble_eq_true rfl) (hFr_of (by omega) (Nat.le_of_ble_eq_true rfl)) dX1_routines_5 (fun r1 A2 u3 S4 R5 o6 hZ7 h8 => ?_)
  refine h_istore_n (lv' := [some (.ref (gO' Y 5)), some (.int (zI a0)), some (.int (zI r1)), none]) hC dX1_routines_8 (Nat.le_of_ble_eq_true rfl) rfl rfl ?_
  refine h_iconst (v := zI 0) hC dX1_routines_9 rfl ?_
  refine h_istore_n (lv' := [some (.ref (gO' Y 5)), some (.int (zI a0)), some (.int (zI r1)), some (.int (zI 0))]) hC dX1_routines_10 (Nat.le_of_ble_eq_true rfl) rfl rfl ?_
  obtain ⟨m9, h10⟩ := h8
  exact cl_Coder_routines_11 hC hr ih  m9 _ _ _ _ _ _ Ra0 R5 (by decide) o6 hZ7 h10
theorem dX1_routine_0 : decode cX1_routine 0 = .ok (.aload_n 0, 1) := by decide +kernel
theorem dX1_routine_1 : decode cX1_routine 1 = .ok (.getfield 27, 3) := by decide +kernel
theorem dX1_routine_4 : decode cX1_routine 4 = .ok (.istore_n 2, 1) := by decide +kernel
theorem dX1_routine_5 : decode cX1_routine 5 = .ok (.aload_n 0, 1) := by decide +kernel
theorem dX1_routine_6 : decode cX1_routine 6 = .ok (.getfield 31, 3) := by decide +kernel
theorem dX1_routine_9 : decode cX1_routine 9 = .ok (.istore_n 3, 1) := by decide +kernel
theorem dX1_routine_10 : decode cX1_routine 10 = .ok (.aload_n 0, 1) := by decide +kernel
theorem dX1_routine_11 : decode cX1_routine 11 = .ok (.getfield 34, 3) := by decide +kernel
theorem dX1_routine_14 : decode cX1_routine 14 = .ok (.istore 4, 2) := by decide +kernel
theorem dX1_routine_16 : decode cX1_routine 16 = .ok (.aload_n 0, 1) := by decide +kernel
theorem dX1_routine_17 : decode cX1_routine 17 = .ok (.getfield 37, 3) := by decide +kernel
theorem dX1_routine_20 : decode cX1_routine 20 = .ok (.istore 5, 2) := by decide +kernel
theorem dX1_routine_22 : decode cX1_routine 22 = .ok (.aload_n 0, 1) := by decide +kernel
theorem dX1_routine_23 : decode cX1_routine 23 = .ok (.getfield 46, 3) := by decide +kernel
theorem dX1_routine_26 : decode cX1_routine 26 = .ok (.istore 6, 2) := by decide +kernel
theorem dX1_routine_28 : decode cX1_routine 28 = .ok (.aload_n 0, 1) := by decide +kernel
theorem dX1_routine_29 : decode cX1_routine 29 = .ok (.getfield 49, 3) := by decide +kernel
theorem dX1_routine_32 : decode cX1_routine 32 = .ok (.istore 7, 2) := by decide +kernel
theorem dX1_routine_34 : decode cX1_routine 34 = .ok (.aload_n 0, 1) := by decide +kernel
theorem dX1_routine_35 : decode cX1_routine 35 = .ok (.getfield 52, 3) := by decide +kernel
theorem dX1_routine_38 : decode cX1_routine 38 = .ok (.istore 8, 2) := by decide +kernel
theorem dX1_routine_40 : decode cX1_routine 40 = .ok (.aload_n 0, 1) := by decide +kernel
theorem dX1_routine_41 : decode cX1_routine 41 = .ok (.getfield 55, 3) := by decide +kernel
theorem dX1_routine_44 : decode cX1_routine 44 = .ok (.istore 9, 2) := by decide +kernel
theorem dX1_routine_46 : decode cX1_routine 46 = .ok (.aload_n 0, 1) := by decide +kernel
theorem dX1_routine_47 : decode cX1_routine 47 = .ok (.getfield 61, 3) := by decide +kernel
theorem dX1_routine_50 : decode cX1_routine 50 = .ok (.istore 10, 2) := by decide +kernel
theorem dX1_routine_52 : decode cX1_routine 52 = .ok (.aload_n 0, 1) := by decide +kernel
theorem dX1_routine_53 : decode cX1_routine 53 = .ok (.bipush 14, 2) := by decide +kernel
theorem dX1_routine_55 : decode cX1_routine 55 = .ok (.iconst 0, 1) := by decide +kernel
theorem dX1_routine_56 : decode cX1_routine 56 = .ok (.invokevirtual 181, 3) := by decide +kernel
theorem dX1_routine_59 : decode cX1_routine 59 = .ok (.istore 11, 2) := by decide +kernel
theorem dX1_routine_61 : decode cX1_routine 61 = .ok (.aload_n 0, 1) := by decide +kernel
theorem dX1_routine_62 : decode cX1_routine 62 = .ok (.invokevirtual 97, 3) := by decide +kernel
theorem dX1_routine_65 : decode cX1_routine 65 = .ok (.aload_n 0, 1) := by decide +kernel
theorem dX1_routine_66 : decode cX1_routine 66 = .ok (.aload_n 0, 1) := by decide +kernel
theorem dX1_routine_67 : decode cX1_routine 67 = .ok (.getfield 65, 3) := by decide +kernel
theorem dX1_routine_70 : decode cX1_routine 70 = .ok (.iload_n 1, 1) := by decide +kernel
theorem dX1_routine_71 : decode cX1_routine 71 = .ok (.invokevirtual 132, 3) := by decide +kernel
theorem dX1_routine_74 : decode cX1_routine 74 = .ok (.putfield 52, 3) := by decide +kernel
theorem dX1_routine_77 : decode cX1_routine 77 = .ok (.aload_n 0, 1) := by decide +kernel
theorem dX1_routine_78 : decode cX1_routine 78 = .ok (.dup, 1) := by decide +kernel
theorem dX1_routine_79 : decode cX1_routine 79 = .ok (.getfield 58, 3) := by decide +kernel
theorem dX1_routine_82 : decode cX1_routine 82 = .ok (.iconst 1, 1) := by decide +kernel
theorem dX1_routine_83 : decode cX1_routine 83 = .ok (.iadd, 1) := by decide +kernel
theorem dX1_routine_84 : decode cX1_routine 84 = .ok (.putfield 58, 3) := by decide +kernel
theorem dX1_routine_87 : decode cX1_routine 87 = .ok (.aload_n 0, 1) := by decide +kernel
theorem dX1_routine_88 : decode cX1_routine 88 = .ok (.aload_n 0, 1) := by decide +kernel
theorem dX1_routine_89 : decode cX1_routine 89 = .ok (.getfield 58, 3) := by decide +kernel
theorem dX1_routine_92 : decode cX1_routine 92 = .ok (.putfield 55, 3) := by decide +kernel
theorem dX1_routine_95 : decode cX1_routine 95 = .ok (.aload_n 0, 1) := by decide +kernel
theorem dX1_routine_96 : decode cX1_routine 96 = .ok (.aload_n 0, 1) := by decide +kernel
theorem dX1_routine_97 : decode cX1_routine 97 = .ok (.getfield 65, 3) := by decide +kernel
theorem dX1_routine_100 : decode cX1_routine 100 = .ok (.iload_n 1, 1) := by decide +kernel
theorem dX1_routine_101 : decode cX1_routine 101 = .ok (.invokevirtual 121, 3) := by decide +kernel
theorem dX1_routine_104 : decode cX1_routine 104 = .ok (.bipush 96, 2) := by decide +kernel
theorem dX1_routine_106 : decode cX1_routine 106 = .ok (.if_icmp .ne 7, 3) := by decide +kernel
theorem dX1_routine_109 : decode cX1_routine 109 = .ok (.iconst 1, 1) := by decide +kernel
theorem dX1_routine_110 : decode cX1_routine 110 = .ok (.goto 4, 3) := by decide +kernel
theorem dX1_routine_113 : decode cX1_routine 113 = .ok (.iconst 0, 1) := by decide +kernel
theorem dX1_routine_114 : decode cX1_routine 114 = .ok (.putfield 61, 3) := by decide +kernel
theorem dX1_routine_117 : decode cX1_routine 117 = .ok (.aload_n 0, 1) := by decide +kernel
theorem dX1_routine_118 : decode cX1_routine 118 = .ok (.getfield 78, 3) := by decide +kernel
theorem dX1_routine_121 : decode cX1_routine 121 = .ok (.invokevirtual 182, 3) := by decide +kernel
theorem dX1_routine_124 : decode cX1_routine 124 = .ok (.aload_n 0, 1) := by decide +kernel
theorem dX1_routine_125 : decode cX1_routine 125 = .ok (.iload_n 1, 1) := by decide +kernel
theorem dX1_routine_126 : decode cX1_routine 126 = .ok (.invokevirtual 185, 3) := by decide +kernel
theorem dX1_routine_129 : decode cX1_routine 129 = .ok (.istore 12, 2) := by decide +kernel
theorem dX1_routine_131 : decode cX1_routine 131 = .ok (.aload_n 0, 1) := by decide +kernel
theorem dX1_routine_132 : decode cX1_routine 132 = .ok (.getfield 61, 3) := by decide +kernel
theorem dX1_routine_135 : decode cX1_routine 135 = .ok (.ifCond .eq 14, 3) := by decide +kernel
theorem dX1_routine_138 : decode cX1_routine 138 = .ok (.aload_n 0, 1) := by decide +kernel
theorem dX1_routine_139 : decode cX1_routine 139 = .ok (.iload 12, 2) := by decide +kernel
theorem dX1_routine_141 : decode cX1_routine 141 = .ok (.iconst 0, 1) := by decide +kernel
theorem dX1_routine_142 : decode cX1_routine 142 = .ok (.iconst 0, 1) := by decide +kernel
theorem dX1_routine_143 : decode cX1_routine 143 = .ok (.invokevirtual 188, 3) := by decide +kernel
theorem dX1_routine_146 : decode cX1_routine 146 = .ok (.goto 16, 3) := by decide +kernel
theorem dX1_routine_149 : decode cX1_routine 149 = .ok (.aload_n 0, 1) := by decide +kernel
theorem dX1_routine_150 : decode cX1_routine 150 = .ok (.iload 12, 2) := by decide +kernel
theorem dX1_routine_152 : decode cX1_routine 152 = .ok (.invokevirtual 192, 3) := by decide +kernel
theorem dX1_routine_155 : decode cX1_routine 155 = .ok (.aload_n 0, 1) := by decide +kernel
theorem dX1_routine_156 : decode cX1_routine 156 = .ok (.iconst 1, 1) := by decide +kernel
theorem dX1_routine_157 : decode cX1_routine 157 = .ok (.iconst 0, 1) := by decide +kernel
theorem dX1_routine_158 : decode cX1_routine 158 = .ok (.invokevirtual 181, 3) := by decide +kernel
theorem dX1_routine_161 : decode cX1_routine 161 = .ok (.pop, 1) := by decide +kernel
theorem dX1_routine_162 : decode cX1_routine 162 = .ok (.aload_n 0, 1) := by decide +kernel
theorem dX1_routine_163 : decode cX1_routine 163 = .ok (.bipush 20, 2) := by decide +kernel
theorem dX1_routine_165 : decode cX1_routine 165 = .ok (.iconst 0, 1) := by decide +kernel
theorem dX1_routine_166 : decode cX1_routine 166 = .ok (.invokevirtual 181, 3) := by decide +kernel
theorem dX1_routine_169 : decode cX1_routine 169 = .ok (.pop, 1) := by decide +kernel
theorem dX1_routine_170 : decode cX1_routine 170 = .ok (.aload_n 0, 1) := by decide +kernel
theorem dX1_routine_171 : decode cX1_routine 171 = .ok (.getfield 78, 3) := by decide +kernel
theorem dX1_routine_174 : decode cX1_routine 174 = .ok (.invokevirtual 195, 3) := by decide +kernel
theorem dX1_routine_177 : decode cX1_routine 177 = .ok (.aload_n 0, 1) := by decide +kernel
theorem dX1_routine_178 : decode cX1_routine 178 = .ok (.getfield 69, 3) := by decide +kernel
theorem dX1_routine_181 : decode cX1_routine 181 = .ok (.aload_n 0, 1) := by decide +kernel
theorem dX1_routine_182 : decode cX1_routine 182 = .ok (.getfield 52, 3) := by decide +kernel
theorem dX1_routine_185 : decode cX1_routine 185 = .ok (.aload_n 0, 1) := by decide +kernel
theorem dX1_routine_186 : decode cX1_routine 186 = .ok (.getfield 49, 3) := by decide +kernel
theorem dX1_routine_189 : decode cX1_routine 189 = .ok (.invokevirtual 198, 3) := by decide +kernel
theorem dX1_routine_192 : decode cX1_routine 192 = .ok (.aload_n 0, 1) := by decide +kernel
theorem dX1_routine_193 : decode cX1_routine 193 = .ok (.getfield 69, 3) := by decide +kernel
theorem dX1_routine_196 : decode cX1_routine 196 = .ok (.iload 11, 2) := by decide +kernel
theorem dX1_routine_198 : decode cX1_routine 198 = .ok (.invokevirtual 201, 3) := by decide +kernel
theorem dX1_routine_201 : decode cX1_routine 201 = .ok (.aload_n 0, 1) := by decide +kernel
theorem dX1_routine_202 : decode cX1_routine 202 = .ok (.iload_n 2, 1) := by decide +kernel
theorem dX1_routine_203 : decode cX1_routine 203 = .ok (.putfield 27, 3) := by decide +kernel
theorem dX1_routine_206 : decode cX1_routine 206 = .ok (.aload_n 0, 1) := by decide +kernel
theorem dX1_routine_207 : decode cX1_routine 207 = .ok (.iload_n 3, 1) := by decide +kernel
theorem dX1_routine_208 : decode cX1_routine 208 = .ok (.putfield 31, 3) := by decide +kernel
theorem dX1_routine_211 : decode cX1_routine 211 = .ok (.aload_n 0, 1) := by decide +kernel
theorem dX1_routine_212 : decode cX1_routine 212 = .ok (.iload 4, 2) := by decide +kernel
theorem dX1_routine_214 : decode cX1_routine 214 = .ok (.putfield 34, 3) := by decide +kernel
theorem dX1_routine_217 : decode cX1_routine 217 = .ok (.aload_n 0, 1) := by decide +kernel
theorem dX1_routine_218 : decode cX1_routine 218 = .ok (.iload 5, 2) := by decide +kernel
theorem dX1_routine_220 : decode cX1_routine 220 = .ok (.putfield 37, 3) := by decide +kernel
theorem dX1_routine_223 : decode cX1_routine 223 = .ok (.aload_n 0, 1) := by decide +kernel
theorem dX1_routine_224 : decode cX1_routine 224 = .ok (.iload 6, 2) := by decide +kernel
theorem dX1_routine_226 : decode cX1_routine 226 = .ok (.putfield 46, 3) := by decide +kernel
theorem dX1_routine_229 : decode cX1_routine 229 = .ok (.aload_n 0, 1) := by decide +kernel
theorem dX1_routine_230 : decode cX1_routine 230 = .ok (.iload 7, 2) := by decide +kernel
theorem dX1_routine_232 : decode cX1_routine 232 = .ok (.putfield 49, 3) := by decide +kernel
theorem dX1_routine_235 : decode cX1_routine 235 = .ok (.aload_n 0, 1) := by decide +kernel
theorem dX1_routine_236 : decode cX1_routine 236 = .ok (.iload 8, 2) := by decide +kernel
theorem dX1_routine_238 : decode cX1_routine 238 = .ok (.putfield 52, 3) := by decide +kernel
theorem dX1_routine_241 : decode cX1_routine 241 = .ok (.aload_n 0, 1) := by decide +kernel
theorem dX1_routine_242 : decode cX1_routine 242 = .ok (.iload 9, 2) := by decide +kernel
theorem dX1_routine_244 : decode cX1_routine 244 = .ok (.putfield 55, 3) := by decide +kernel
theorem dX1_routine_247 : decode cX1_routine 247 = .ok (.aload_n 0, 1) := by decide +kernel
theorem dX1_routine_248 : decode cX1_routine 248 = .ok (.iload 10, 2) := by decide +kernel
theorem dX1_routine_250 : decode cX1_routine 250 = .ok (.putfield 61, 3) := by decide +kernel
theorem dX1_routine_253 : decode cX1_routine 253 = .ok (.return_, 1) := by decide +kernel
def wc_Coder_routine_162 (rec : Nat → Int → Int → Int → cS → (Int → cS → Prop) → Prop) (Q : cS → Prop)  (A0 : cS) (x2 : Int) (x3 : Int) (x4 : Int) (x5 : Int) (x6 : Int) (x7 : Int) (x8 : Int) (x9 : Int) (x10 : Int) (x11 : Int) : Prop :=
  wc_Coder_emit A0 20 0 (fun r1 A2 => wc_Scope_close A2  (fun A10 => wc_Program_setFrame A10 (yv A10 21) (yv A10 20) (fun A18 => wc_Program_land A18 x11 (fun A26 => (x10 = 0 ∨ x10 = 1) ∧ Q (ypv (ypv (ypv (ypv (ypv (ypv (ypv (ypv (ypv A26 13 x2) 14 x3) 15 x4) 16 x5) 19 x6) 20 x7) 21 x8) 22 x9) 24 x10)))))
def wc_Coder_routine_114 (rec : Nat → Int → Int → Int → cS → (Int → cS → Prop) → Prop) (Q : cS → Prop)  (A0 : cS) (x1 : Int) (x2 : Int) (x3 : Int) (x4 : Int) (x5 : Int) (x6 : Int) (x7 : Int) (x8 : Int) (x9 : Int) (x10 : Int) (x11 : Int) (y0 : Int) : Prop :=
  (y0 = 0 ∨ y0 = 1) ∧ wc_Scope_open (ypv A0 24 y0)  (fun A15 => wc_Coder_parameters A15 x1 (fun r22 A23 => (((yv A23 24) = 0 → rec 4 r22 0 0 A23 (fun _ A33 => wc_Coder_emit A33 1 0 (fun r40 A41 => wc_Coder_routine_162 rec Q  A41 x2 x3 x4 x5 x6 x7 x8 x9 x10 x11))) ∧ (¬ (yv A23 24) = 0 → rec 12 r22 0 0 A23 (fun _ A50 => wc_Coder_routine_162 rec Q  A50 x2 x3 x4 x5 x6 x7 x8 x9 x10 x11)))))
def wc_Coder_routine (rec : Nat → Int → Int → Int → cS → (Int → cS → Prop) → Prop) (A0 : cS) (a0 : Int) (Q : cS → Prop) : Prop :=
  wc_Coder_emit A0 14 0 (fun r1 A2 => wc_Coder_leaveAll A2  (fun A10 => wc_Tree_extra A10 a0 (fun r17 A18 => (zR ((yv A18 23) + 1)) ∧ wc_Tree_kind (ypv (ypv (ypv A18 21 r17) 23 ((yv A18 23) + 1)) 22 ((yv A18 23) + 1)) a0 (fun r60 A61 => ((¬ r60 = 96 → wc_Coder_routine_114 rec Q  A61 a0 (yv A0 13) (yv A0 14) (yv A0 15) (yv A0 16) (yv A0 19) (yv A0 20) (yv A0 21) (yv A0 22) (yv A0 24) r1 0) ∧ (r60 = 96 → wc_Coder_routine_114 rec Q  A61 a0 (yv A0 13) (yv A0 14) (yv A0 15) (yv A0 16) (yv A0 19) (yv A0 20) (yv A0 21) (yv A0 22) (yv A0 24) r1 1))))))
set_option maxHeartbeats 4000000 in
set_option maxRecDepth 100000 in
theorem cj_Coder_routine_162 {X : gX} {d : gD} {b : Nat} {Y : gYt} {c : Nat × Nat} {F0 : gM} {S0 : gSt} {mc ms : Nat} {rec : Nat → Int → Int → Int → cS → (Int → cS → Prop) → Prop} {lv0 : Nat} (hC : gC RX1 cX1_routine 13 none "routine" (gR (630 + lv0 + 1) mc ms) d b X) (hr : hRm X b) (ih : yOkC X.la d b Y c lv0 rec) {Q : cS → Prop}   {u : hU} {S : gSt} {A0 : cS} {x2 : Int} {x3 : Int} {x4 : Int} {x5 : Int} {x6 : Int} {x7 : Int} {x8 : Int} {x9 : Int} {x10 : Int} {x11 : Int} (Rx2 : zR x2) (Rx3 : zR x3) (Rx4 : zR x4) (Rx5 : zR x5) (Rx6 : zR x6) (Rx7 : zR x7) (Rx8 : zR x8) (Rx9 : zR x9) (Rx10 : zR x10) (Rx11 : zR x11) (ho : yOk X b u) (hZ : yZ d b Y c F0 S0 u S A0) (hw : wc_Coder_routine_162 rec Q  A0 x2 x3 x4 x5 x6 x7 x8 x9 x10 x11) : yG X d b (yQv X d b Y c F0 S0 mc ms Q) u 162 [some (.ref (gO' Y 5)), none, some (.int (zI x2)), some (.int (zI x3)), some (.int (zI x4)), some (.int (zI x5)), some (.int (zI x6)), some (.int (zI x7)), some (.int (zI x8)), some (.int (zI x9)), some (.int (zI x10)), some (.int (zI x11)), none] [] := by
  unfold wc_Coder_routine_162 at hw
  refine h_aload_n hC dX1_routine_162 rfl ?_
  refine h_bipush (v := zI 20) hC dX1_routine_163 rfl ?_
  refine h_iconst (v := zI 0) hC dX1_routine_165 rfl ?_
  refine yr_callVi (As := [.int (zI 20), .int (zI 0)]) hC hr ho hZ rfl (hZ.w.o 5 (by decide)) (cm_Coder_emit X.la d b (by decide) (by decide) hZ.rs hw) cl_X1_181 rfl rfl (Nat.le_of_ble_eq_true rfl) (hFr_of (by omega) (Nat.le_of_ble_eq_true rfl)) dX1_routine_166 (fun r1 A2 u3 S4 R5 o6 hZ7 h8 => ?_)
  refine h_pop hC dX1_routine_169 rfl ?_
  refine h_aload_n hC dX1_routine_170 rfl ?_
  refine h_get hC fl_X1_78 (hZ7.w.o 5 (by decide)) rfl dX1_routine_171 ?_
  refine yr_callVv (As := []) hC hr o6 hZ7 rfl (hZ7.w.o 8 (by decide)) (cm_Scope_close X.la d b  hZ7.rs h8) cl_X1_195 rfl rfl (Nat.le_of_ble_eq_true rfl) (hFr_of (by omega) (Nat.le_of_ble_eq_true rfl)) dX1_routine_174 (fun A10 u11 S12 o14 hZ15 h16 => ?_)
  refine h_aload_n hC dX1_routine_177 rfl ?_
  refine h_get hC fl_X1_69 (hZ15.w.o 5 (by decide)) rfl dX1_routine_178 ?_
  refine h_aload_n hC dX1_routine_181 rfl ?_
  refine h_get hC fl_X1_52 (hZ15.w.o 5 (by decide)) rfl dX1_routine_182 ?_
  refine yr_sv (e := (yv A10 21)) hZ15 21 rfl ?_
  refine h_aload_n hC dX1_routine_185 rfl ?_
  refine h_get hC fl_X1_49 (hZ15.w.o 5 (by decide)) rfl dX1_routine_186 ?_
  refine yr_sv (e := (yv A10 20)) hZ15 20 rfl ?_
  refine yr_callVv (As := [.int (zI (yv A10 21)), .int (zI (yv A10 20))]) hC hr o14 hZ15 rfl (hZ15.w.o 1 (by decide)) (cm_Program_setFrame X.la d b (hZ15.rv 21) (hZ15.rv 20) hZ15.rs h16) cl_X1_198 rfl rfl (Nat.le_of_ble_eq_true rfl) (hFr_of (by omega) (Nat.le_of_ble_eq_true rfl)) dX1_routine_189 (fun A18 u19 S20 o22 hZ23 h24 => ?_)
  refine h_aload_n hC dX1_routine_192 rfl ?_
  refine h_get hC fl_X1_69 (hZ23.w.o 5 (by decide)) rfl dX1_routine_193 ?_
  refine h_iload hC dX1_routine_196 rfl ?_
  refine yr_callVv (As := [.int (zI x11)]) hC hr o22 hZ23 rfl (hZ23.w.o 1 (by decide)) (cm_Program_land X.la d b Rx11 hZ23.rs h24) cl_X1_201 rfl rfl (Nat.le_of_ble_eq_true rfl) (hFr_of (by omega) (Nat.le_of_ble_eq_true rfl)) dX1_routine_198 (fun A26 u27 S28 o30 hZ31 h32 => ?_)
  refine h_aload_n hC dX1_routine_201 rfl ?_
  refine h_iload_n hC dX1_routine_202 rfl ?_
  refine hi_putx (i := 5) (kx := 13) hC hZ31.hi (by decide) fl_X1_27 rfl rfl rfl (Nat.le_of_ble_eq_true rfl) rfl gsame_13 (fun q => absurd q (by decide)) dX1_routine_203 (fun F33 S34 I35 K36 s37 v38 p39 => ?_)
  have hZ40 := hZ31.put I35 K36 s37 v38 Rx2 rfl
  clear I35 K36 s37 v38 p39
  refine yr_nu o30 hZ40 (fun u41 o42 hZ43 => ?_)
  refine h_aload_n hC dX1_routine_206 rfl ?_
  refine h_iload_n hC dX1_routine_207 rfl ?_
  refine hi_putx (i := 5) (kx := 14) hC hZ43.hi (by decide) fl_X1_31 rfl rfl rfl (Nat.le_of_ble_eq_true rfl) rfl gsame_14 (fun q => absurd q (by decide)) dX1_routine_208 (fun F44 S45 I46 K47 s48 v49 p50 => ?_)
  have hZ51 := hZ43.put I46 K47 s48 v49 Rx3 rfl
  clear I46 K47 s48 v49 p50
  refine yr_nu o42 hZ51 (fun u52 o53 hZ54 => ?_)
  refine h_aload_n hC dX1_routine_211 rfl ?_
  refine h_iload hC dX1_routine_212 rfl ?_
  refine hi_putx (i := 5) (kx := 15) hC hZ54.hi (by decide) fl_X1_34 rfl rfl rfl (Nat.le_of_ble_eq_true rfl) rfl gsame_15 (fun q => absurd q (by decide)) dX1_routine_214 (fun F55 S56 I57 K58 s59 v60 p61 => ?_)
  have hZ62 := hZ54.put I57 K58 s59 v60 Rx4 rfl
  clear I57 K58 s59 v60 p61
  refine yr_nu o53 hZ62 (fun u63 o64 hZ65 => ?_)
  refine h_aload_n hC dX1_routine_217 rfl ?_
  refine h_iload hC dX1_routine_218 rfl ?_
  refine hi_putx (i := 5) (kx := 16) hC hZ65.hi (by decide) fl_X1_37 rfl rfl rfl (Nat.le_of_ble_eq_true rfl) rfl gsame_16 (fun q => absurd q (by decide)) dX1_routine_220 (fun F66 S67 I68 K69 s70 v71 p72 => ?_)
  have hZ73 := hZ65.put I68 K69 s70 v71 Rx5 rfl
  clear I68 K69 s70 v71 p72
  refine yr_nu o64 hZ73 (fun u74 o75 hZ76 => ?_)
  refine h_aload_n hC dX1_routine_223 rfl ?_
  refine h_iload hC dX1_routine_224 rfl ?_
  refine hi_putx (i := 5) (kx := 19) hC hZ76.hi (by decide) fl_X1_46 rfl rfl rfl (Nat.le_of_ble_eq_true rfl) rfl gsame_19 (fun q => absurd q (by decide)) dX1_routine_226 (fun F77 S78 I79 K80 s81 v82 p83 => ?_)
  have hZ84 := hZ76.put I79 K80 s81 v82 Rx6 rfl
  clear I79 K80 s81 v82 p83
  refine yr_nu o75 hZ84 (fun u85 o86 hZ87 => ?_)
  refine h_aload_n hC dX1_routine_229 rfl ?_
  refine h_iload hC dX1_routine_230 rfl ?_
  refine hi_putx (i := 5) (kx := 20) hC hZ87.hi (by decide) fl_X1_49 rfl rfl rfl (Nat.le_of_ble_eq_true rfl) rfl gsame_20 (fun q => absurd q (by decide)) dX1_routine_232 (fun F88 S89 I90 K91 s92 v93 p94 => ?_)
  have hZ95 := hZ87.put I90 K91 s92 v93 Rx7 rfl
  clear I90 K91 s92 v93 p94
  refine yr_nu o86 hZ95 (fun u96 o97 hZ98 => ?_)
  refine h_aload_n hC dX1_routine_235 rfl ?_
  refine h_iload hC dX1_routine_236 rfl ?_
  refine hi_putx (i := 5) (kx := 21) hC hZ98.hi (by decide) fl_X1_52 rfl rfl rfl (Nat.le_of_ble_eq_true rfl) rfl gsame_21 (fun q => absurd q (by decide)) dX1_routine_238 (fun F99 S100 I101 K102 s103 v104 p105 => ?_)
  have hZ106 := hZ98.put I101 K102 s103 v104 Rx8 rfl
  clear I101 K102 s103 v104 p105
  refine yr_nu o97 hZ106 (fun u107 o108 hZ109 => ?_)
  refine h_aload_n hC dX1_routine_241 rfl ?_
  refine h_iload hC dX1_routine_242 rfl ?_
  refine hi_putx (i := 5) (kx := 22) hC hZ109.hi (by decide) fl_X1_55 rfl rfl rfl (Nat.le_of_ble_eq_true rfl) rfl gsame_22 (fun q => absurd q (by decide)) dX1_routine_244 (fun F110 S111 I112 K113 s114 v115 p116 => ?_)
  have hZ117 := hZ109.put I112 K113 s114 v115 Rx9 rfl
  clear I112 K113 s114 v115 p116
  refine yr_nu o108 hZ117 (fun u118 o119 hZ120 => ?_)
  refine h_aload_n hC dX1_routine_247 rfl ?_
  refine h_iload hC dX1_routine_248 rfl ?_
  obtain ⟨o121, h122⟩ := h32
  refine hi_putx (i := 5) (kx := 24) hC hZ120.hi (by decide) fl_X1_61 rfl (ynb o121) (yfb o121) (Nat.le_of_ble_eq_true rfl) rfl gsame_24 (fun _ => y01 o121) dX1_routine_250 (fun F123 S124 I125 K126 s127 v128 p129 => ?_)
  have hZ130 := hZ120.put I125 K126 s127 v128 (y01R o121) rfl
  clear I125 K126 s127 v128 p129
  refine yr_nu o119 hZ130 (fun u131 o132 hZ133 => ?_)
  exact yr_vret hC hr o132 hZ133 h122 dX1_routine_253
set_option maxHeartbeats 4000000 in
set_option maxRecDepth 100000 in
theorem cj_Coder_routine_114 {X : gX} {d : gD} {b : Nat} {Y : gYt} {c : Nat × Nat} {F0 : gM} {S0 : gSt} {mc ms : Nat} {rec : Nat → Int → Int → Int → cS → (Int → cS → Prop) → Prop} {lv0 : Nat} (hC : gC RX1 cX1_routine 13 none "routine" (gR (630 + lv0 + 1) mc ms) d b X) (hr : hRm X b) (ih : yOkC X.la d b Y c lv0 rec) {Q : cS → Prop}   {u : hU} {S : gSt} {A0 : cS} {x1 : Int} {x2 : Int} {x3 : Int} {x4 : Int} {x5 : Int} {x6 : Int} {x7 : Int} {x8 : Int} {x9 : Int} {x10 : Int} {x11 : Int} {y0 : Int} (Rx1 : zR x1) (Rx2 : zR x2) (Rx3 : zR x3) (Rx4 : zR x4) (Rx5 : zR x5) (Rx6 : zR x6) (Rx7 : zR x7) (Rx8 : zR x8) (Rx9 : zR x9) (Rx10 : zR x10) (Rx11 : zR x11) (Ry0 : zR y0) (ho : yOk X b u) (hZ : yZ d b Y c F0 S0 u S A0) (hw : wc_Coder_routine_114 rec Q  A0 x1 x2 x3 x4 x5 x6 x7 x8 x9 x10 x11 y0) : yG X d b (yQv X d b Y c F0 S0 mc ms Q) u 114 [some (.ref (gO' Y 5)), some (.int (zI x1)), some (.int (zI x2)), some (.int (zI x3)), some (.int (zI x4)), some (.int (zI x5)), some (.int (zI x6)), some (.int (zI x7)), some (.int (zI x8)), some (.int (zI x9)), some (.int (zI x10)), some (.int (zI x11)), none] [.int (zI y0), .ref (gO' Y 5)] := by
  unfold wc_Coder_routine_114 at hw
  obtain ⟨o1, h2⟩ := hw
  refine hi_putx (i := 5) (kx := 24) hC hZ.hi (by decide) fl_X1_61 rfl (ynb o1) (yfb o1) (Nat.le_of_ble_eq_true rfl) rfl gsame_24 (fun _ => y01 o1) dX1_routine_114 (fun F3 S4 I5 K6 s7 v8 p9 => ?_)
  have hZ10 := hZ.put I5 K6 s7 v8 (y01R o1) rfl
  clear I5 K6 s7 v8 p9
  refine yr_nu ho hZ10 (fun u11 o12 hZ13 => ?_)
  refine h_aload_n hC dX1_routine_117 rfl ?_
  refine h_get hC fl_X1_78 (hZ13.w.o 5 (by decide)) rfl dX1_routine_118 ?_
  refine yr_callVv (As := []) hC hr o12 hZ13 rfl (hZ13.w.o 8 (by decide)) (cm_Scope_open X.la d b  hZ13.rs h2) cl_X1_182 rfl rfl (Nat.le_of_ble_eq_true rfl) (hFr_of (by omega) (Nat.le_of_ble_eq_true rfl)) dX1_routine_121 (fun A15 u16 S17 o19 hZ20 h21 => ?_)
  refine h_aload_n hC dX1_routine_124 rfl ?_
  refine h_iload_n hC dX1_routine_125 rfl ?_
  refine yr_callVi (As := [.int (zI x1)]) hC hr o19 hZ20 rfl (hZ20.w.o 5 (by decide)) (cm_Coder_parameters X.la d b Rx1 hZ20.rs h21) cl_X1_185 rfl rfl (Nat.le_of_ble_eq_true rfl) (hFr_of (by omega) (Nat.le_of_ble_eq_true rfl)) dX1_routine_126 (fun r22 A23 u24 S25 R26 o27 hZ28 h29 => ?_)
  refine h_istore (lv' := [some (.ref (gO' Y 5)), some (.int (zI x1)), some (.int (zI x2)), some (.int (zI x3)), some (.int (zI x4)), some (.int (zI x5)), some (.int (zI x6)), some (.int (zI x7)), some (.int (zI x8)), some (.int (zI x9)), some (.int (zI x10)), some (.int (zI x11)), some (.int (zI r22))]) hC dX1_routine_129 (Nat.le_of_ble_eq_true rfl) rfl rfl ?_
  refine h_aload_n hC dX1_routine_131 rfl ?_
  refine h_get hC fl_X1_61 (hZ28.w.o 5 (by decide)) rfl dX1_routine_132 ?_
  refine yr_sv (e := (yv A23 24)) hZ28 24 rfl ?_
  refine yr_if_eq (tgt := 149) hC (hZ28.rv 24) dX1_routine_135 (by decide) (fun c30 => ?_) (fun c30 => ?_)
  · have h31 := h29.1 c30
    refine h_aload_n hC dX1_routine_149 rfl ?_
    refine h_iload hC dX1_routine_150 rfl ?_
    refine yr_callVv (As := [.int (zI r22)]) hC hr o27 hZ28 rfl (hZ28.w.o 5 (by decide)) (ih.2.2.2.2.1 R26 hZ28.rs h31) cl_X1_192 rfl rfl (Nat.le_of_ble_eq_true rfl) (hFr_of (by omega) (Nat.le_of_ble_eq_true rfl)) dX1_routine_152 (fun A33 u34 S35 o37 hZ38 h39 => ?_)
    refine h_aload_n hC dX1_routine_155 rfl ?_
    refine h_iconst (v := zI 1) hC dX1_routine_156 rfl ?_
    refine h_iconst (v := zI 0) hC dX1_routine_157 rfl ?_
    refine yr_callVi (As := [.int (zI 1), .int (zI 0)]) hC hr o37 hZ38 rfl (hZ38.w.o 5 (by decide)) (cm_Coder_emit X.la d b (by decide) (by decide) hZ38.rs h39) cl_X1_181 rfl rfl (Nat.le_of_ble_eq_true rfl) (hFr_of (by omega) (Nat.le_of_ble_eq_true rfl)) dX1_routine_158 (fun r40 A41 u42 S43 R44 o45 hZ46 h47 => ?_)
    refine h_pop hC dX1_routine_161 rfl ?_
    refine h_lv (lv' := [some (.ref (gO' Y 5)), none, some (.int (zI x2)), some (.int (zI x3)), some (.int (zI x4)), some (.int (zI x5)), some (.int (zI x6)), some (.int (zI x7)), some (.int (zI x8)), some (.int (zI x9)), some (.int (zI x10)), some (.int (zI x11)), none]) ⟨rfl, rfl, rfl, rfl, rfl, rfl, rfl, rfl, rfl, rfl, rfl, trivial⟩ ?_
    exact cj_Coder_routine_162 hC hr ih  Rx2 Rx3 Rx4 Rx5 Rx6 Rx7 Rx8 Rx9 Rx10 Rx11 o45 hZ46 h47
  · have h48 := h29.2 c30
    refine h_aload_n hC dX1_routine_138 rfl ?_
    refine h_iload hC dX1_routine_139 rfl ?_
    refine h_iconst (v := zI 0) hC dX1_routine_141 rfl ?_
    refine h_iconst (v := zI 0) hC dX1_routine_142 rfl ?_
    refine yr_callVv (As := [.int (zI r22), .int (zI 0), .int (zI 0)]) hC hr o27 hZ28 rfl (hZ28.w.o 5 (by decide)) (ih.2.2.2.2.2.2.2.2.2.2.2.2.1 R26 (by decide) (by decide) hZ28.rs h48) cl_X1_188 rfl rfl (Nat.le_of_ble_eq_true rfl) (hFr_of (by omega) (Nat.le_of_ble_eq_true rfl)) dX1_routine_143 (fun A50 u51 S52 o54 hZ55 h56 => ?_)
    refine h_goto (tgt := 162) hC dX1_routine_146 (by decide) ?_
    refine h_lv (lv' := [some (.ref (gO' Y 5)), none, some (.int (zI x2)), some (.int (zI x3)), some (.int (zI x4)), some (.int (zI x5)), some (.int (zI x6)), some (.int (zI x7)), some (.int (zI x8)), some (.int (zI x9)), some (.int (zI x10)), some (.int (zI x11)), none]) ⟨rfl, rfl, rfl, rfl, rfl, rfl, rfl, rfl, rfl, rfl, rfl, trivial⟩ ?_
    exact cj_Coder_routine_162 hC hr ih  Rx2 Rx3 Rx4 Rx5 Rx6 Rx7 Rx8 Rx9 Rx10 Rx11 o54 hZ55 h56
set_option maxHeartbeats 4000000 in
set_option maxRecDepth 100000 in
theorem cm_Coder_routine (l : Launch) (d : gD) (b : Nat) {Y : gYt} {c : Nat × Nat} {F : gM} {k n : Nat} {S : gSt} {A0 : cS} {rec : Nat → Int → Int → Int → cS → (Int → cS → Prop) → Prop} {lv0 : Nat} (ih : yOkC l d b Y c lv0 rec) {a0 : Int} (Ra0 : zR a0) {Q : cS → Prop} (hZ : yZ d b Y c F S (F, k, n) S A0) (hw : wc_Coder_routine rec A0 a0 Q) : hMv l d b yX1_routine cX1_routine 13 (630 + lv0 + 1) k n F [.ref (gO' Y 5), .int (zI a0)] (yPv d b Y c F S Q) := by
  intro mc ms
  refine hM_of2 rfl (nL := 13) (Nat.le_of_ble_eq_true rfl) ?_
  intro X hX hC hr ho; subst hX
  show yG X d b (yQv X d b Y c F S mc ms Q) (F, k, n) 0 [some (.ref (gO' Y 5)), some (.int (zI a0)), none, none, none, none, none, none, none, none, none, none, none] []
  unfold wc_Coder_routine at hw
  refine h_aload_n hC dX1_routine_0 rfl ?_
  refine h_get hC fl_X1_27 (hZ.w.o 5 (by decide)) rfl dX1_routine_1 ?_
  refine yr_sv (e := (yv A0 13)) hZ 13 rfl ?_
  refine h_istore_n (lv' := [some (.ref (gO' Y 5)), some (.int (zI a0)), some (.int (zI (yv A0 13))), none, none, none, none, none, none, none, none, none, none]) hC dX1_routine_4 (Nat.le_of_ble_eq_true rfl) rfl rfl ?_
  refine h_aload_n hC dX1_routine_5 rfl ?_
  refine h_get hC fl_X1_31 (hZ.w.o 5 (by decide)) rfl dX1_routine_6 ?_
  refine yr_sv (e := (yv A0 14)) hZ 14 rfl ?_
  refine h_istore_n (lv' := [some (.ref (gO' Y 5)), some (.int (zI a0)), some (.int (zI (yv A0 13))), some (.int (zI (yv A0 14))), none, none, none, none, none, none, none, none, none]) hC dX1_routine_9 (Nat.le_of_ble_eq_true rfl) rfl rfl ?_
  refine h_aload_n hC dX1_routine_10 rfl ?_
  refine h_get hC fl_X1_34 (hZ.w.o 5 (by decide)) rfl dX1_routine_11 ?_
  refine yr_sv (e := (yv A0 15)) hZ 15 rfl ?_
  refine h_istore (lv' := [some (.ref (gO' Y 5)), some (.int (zI a0)), some (.int (zI (yv A0 13))), some (.int (zI (yv A0 14))), some (.int (zI (yv A0 15))), none, none, none, none, none, none, none, none]) hC dX1_routine_14 (Nat.le_of_ble_eq_true rfl) rfl rfl ?_
  refine h_aload_n hC dX1_routine_16 rfl ?_
  refine h_get hC fl_X1_37 (hZ.w.o 5 (by decide)) rfl dX1_routine_17 ?_
  refine yr_sv (e := (yv A0 16)) hZ 16 rfl ?_
  refine h_istore (lv' := [some (.ref (gO' Y 5)), some (.int (zI a0)), some (.int (zI (yv A0 13))), some (.int (zI (yv A0 14))), some (.int (zI (yv A0 15))), some (.int (zI (yv A0 16))), none, none, none, none, none, none, none]) hC dX1_routine_20 (Nat.le_of_ble_eq_true rfl) rfl rfl ?_
  refine h_aload_n hC dX1_routine_22 rfl ?_
  refine h_get hC fl_X1_46 (hZ.w.o 5 (by decide)) rfl dX1_routine_23 ?_
  refine yr_sv (e := (yv A0 19)) hZ 19 rfl ?_
  refine h_istore (lv' := [some (.ref (gO' Y 5)), some (.int (zI a0)), some (.int (zI (yv A0 13))), some (.int (zI (yv A0 14))), some (.int (zI (yv A0 15))), some (.int (zI (yv A0 16))), some (.int (zI (yv A0 19))), none, none, none, none, none, none]) hC dX1_routine_26 (Nat.le_of_ble_eq_true rfl) rfl rfl ?_
  refine h_aload_n hC dX1_routine_28 rfl ?_
  refine h_get hC fl_X1_49 (hZ.w.o 5 (by decide)) rfl dX1_routine_29 ?_
  refine yr_sv (e := (yv A0 20)) hZ 20 rfl ?_
  refine h_istore (lv' := [some (.ref (gO' Y 5)), some (.int (zI a0)), some (.int (zI (yv A0 13))), some (.int (zI (yv A0 14))), some (.int (zI (yv A0 15))), some (.int (zI (yv A0 16))), some (.int (zI (yv A0 19))), some (.int (zI (yv A0 20))), none, none, none, none, none]) hC dX1_routine_32 (Nat.le_of_ble_eq_true rfl) rfl rfl ?_
  refine h_aload_n hC dX1_routine_34 rfl ?_
  refine h_get hC fl_X1_52 (hZ.w.o 5 (by decide)) rfl dX1_routine_35 ?_
  refine yr_sv (e := (yv A0 21)) hZ 21 rfl ?_
  refine h_istore (lv' := [some (.ref (gO' Y 5)), some (.int (zI a0)), some (.int (zI (yv A0 13))), some (.int (zI (yv A0 14))), some (.int (zI (yv A0 15))), some (.int (zI (yv A0 16))), some (.int (zI (yv A0 19))), some (.int (zI (yv A0 20))), some (.int (zI (yv A0 21))), none, none, none, none]) hC dX1_routine_38 (Nat.le_of_ble_eq_true rfl) rfl rfl ?_
  refine h_aload_n hC dX1_routine_40 rfl ?_
  refine h_get hC fl_X1_55 (hZ.w.o 5 (by decide)) rfl dX1_routine_41 ?_
  refine yr_sv (e := (yv A0 22)) hZ 22 rfl ?_
  refine h_istore (lv' := [some (.ref (gO' Y 5)), some (.int (zI a0)), some (.int (zI (yv A0 13))), some (.int (zI (yv A0 14))), some (.int (zI (yv A0 15))), some (.int (zI (yv A0 16))), some (.int (zI (yv A0 19))), some (.int (zI (yv A0 20))), some (.int (zI (yv A0 21))), some (.int (zI (yv A0 22))), none, none, none]) hC dX1_routine_44 (Nat.le_of_ble_eq_true rfl) rfl rfl ?_
  refine h_aload_n hC dX1_routine_46 rfl ?_
  refine h_get hC fl_X1_61 (hZ.w.o 5 (by decide)) rfl dX1_routine_47 ?_
  refine yr_sv (e := (yv A0 24)) hZ 24 rfl ?_
  refine h_istore (lv' := [some (.ref (gO' Y 5)), some (.int (zI a0)), some (.int (zI (yv A0 13))), some (.int (zI (yv A0 14))), some (.int (zI (yv A0 15))), some (.int (zI (yv A0 16))), some (.int (zI (yv A0 19))), some (.int (zI (yv A0 20))), some (.int (zI (yv A0 21))), some (.int (zI (yv A0 22))), some (.int (zI (yv A0 24))), none, none]) hC dX1_routine_50 (Nat.le_of_ble_eq_true rfl) rfl rfl ?_
  refine h_aload_n hC dX1_routine_52 rfl ?_
  refine h_bipush (v := zI 14) hC dX1_routine_53 rfl ?_
  refine h_iconst (v := zI 0) hC dX1_routine_55 rfl ?_
  refine yr_callVi (As := [.int (zI 14), .int (zI 0)]) hC hr ho hZ rfl (hZ.w.o 5 (by decide)) (cm_Coder_emit X.la d b (by decide) (by decide) hZ.rs hw) cl_X1_181 rfl rfl (Nat.le_of_ble_eq_true rfl) (hFr_of (by omega) (Nat.le_of_ble_eq_true rfl)) dX1_routine_56 (fun r1 A2 u3 S4 R5 o6 hZ7 h8 => ?_)
  refine h_istore (lv' := [some (.ref (gO' Y 5)), some (.int (zI a0)), some (.int (zI (yv A0 13))), some (.int (zI (yv A0 14))), some (.int (zI (yv A0 15))), some (.int (zI (yv A0 16))), some (.int (zI (yv A0 19))), some (.int (zI (yv A0 20))), some (.int (zI (yv A0 21))), some (.int (zI (yv A0 22))), some (.int (zI (yv A0 24))), some (.int (zI r1)), none]) hC dX1_routine_59 (Nat.le_of_ble_eq_true rfl) rfl rfl ?_
  refine h_aload_n hC dX1_routine_61 rfl ?_
  refine yr_callVv (As := []) hC hr o6 hZ7 rfl (hZ7.w.o 5 (by decide)) (cm_Coder_leaveAll X.la d b  hZ7.rs h8) cl_X1_97 rfl rfl (Nat.le_of_ble_eq_true rfl) (hFr_of (by omega) (Nat.le_of_ble_eq_true rfl)) dX1_routine_62 (fun A10 u11 S12 o14 hZ15 h16 => ?_)
  refine h_aload_n hC dX1_routine_65 rfl ?_
  refine h_aload_n hC dX1_routine_66 rfl ?_
  refine h_get hC fl_X1_65 (hZ15.w.o 5 (by decide)) rfl dX1_routine_67 ?_
  refine h_iload_n hC dX1_routine_70 rfl ?_
  refine yr_callVi (As := [.int (zI a0)]) hC hr o14 hZ15 rfl (hZ15.w.o 2 (by decide)) (cm_Tree_extra X.la d b Ra0 hZ15.rs h16) cl_X1_132 rfl rfl (Nat.le_of_ble_eq_true rfl) (hFr_of (by omega) (Nat.le_of_ble_eq_true rfl)) dX1_routine_71 (fun r17 A18 u19 S20 R21 o22 hZ23 h24 => ?_)
  refine hi_putx (i := 5) (kx := 21) hC hZ23.hi (by decide) fl_X1_52 rfl rfl rfl (Nat.le_of_ble_eq_true rfl) rfl gsame_21 (fun q => absurd q (by decide)) dX1_routine_74 (fun F25 S26 I27 K28 s29 v30 p31 => ?_)
  have hZ32 := hZ23.put I27 K28 s29 v30 R21 rfl
  clear I27 K28 s29 v30 p31
  refine yr_nu o22 hZ32 (fun u33 o34 hZ35 => ?_)
  refine h_aload_n hC dX1_routine_77 rfl ?_
  refine h_dup hC dX1_routine_78 rfl ?_
  refine h_get hC fl_X1_58 (hZ35.w.o 5 (by decide)) rfl dX1_routine_79 ?_
  refine yr_sv (e := (yv A18 23)) hZ35 23 rfl ?_
  refine h_iconst (v := zI 1) hC dX1_routine_82 rfl ?_
  refine yr_iadd hC dX1_routine_83 ?_
  obtain ⟨o36, h37⟩ := h24
  refine hi_putx (i := 5) (kx := 23) hC hZ35.hi (by decide) fl_X1_58 rfl rfl rfl (Nat.le_of_ble_eq_true rfl) rfl gsame_23 (fun q => absurd q (by decide)) dX1_routine_84 (fun F38 S39 I40 K41 s42 v43 p44 => ?_)
  have hZ45 := hZ35.put I40 K41 s42 v43 o36 rfl
  clear I40 K41 s42 v43 p44
  refine yr_nu o34 hZ45 (fun u46 o47 hZ48 => ?_)
  refine h_aload_n hC dX1_routine_87 rfl ?_
  refine h_aload_n hC dX1_routine_88 rfl ?_
  refine h_get hC fl_X1_58 (hZ48.w.o 5 (by decide)) rfl dX1_routine_89 ?_
  refine yr_sv (e := ((yv A18 23) + 1)) hZ48 23 rfl ?_
  refine hi_putx (i := 5) (kx := 22) hC hZ48.hi (by decide) fl_X1_55 rfl rfl rfl (Nat.le_of_ble_eq_true rfl) rfl gsame_22 (fun q => absurd q (by decide)) dX1_routine_92 (fun F49 S50 I51 K52 s53 v54 p55 => ?_)
  have hZ56 := hZ48.put I51 K52 s53 v54 o36 rfl
  clear I51 K52 s53 v54 p55
  refine yr_nu o47 hZ56 (fun u57 o58 hZ59 => ?_)
  refine h_aload_n hC dX1_routine_95 rfl ?_
  refine h_aload_n hC dX1_routine_96 rfl ?_
  refine h_get hC fl_X1_65 (hZ59.w.o 5 (by decide)) rfl dX1_routine_97 ?_
  refine h_iload_n hC dX1_routine_100 rfl ?_
  refine yr_callVi (As := [.int (zI a0)]) hC hr o58 hZ59 rfl (hZ59.w.o 2 (by decide)) (cm_Tree_kind X.la d b Ra0 hZ59.rs h37) cl_X1_121 rfl rfl (Nat.le_of_ble_eq_true rfl) (hFr_of (by omega) (Nat.le_of_ble_eq_true rfl)) dX1_routine_101 (fun r60 A61 u62 S63 R64 o65 hZ66 h67 => ?_)
  refine h_bipush (v := zI 96) hC dX1_routine_104 rfl ?_
  refine yr_icmp_ne (tgt := 113) hC R64 (by decide) dX1_routine_106 (by decide) (fun c68 => ?_) (fun c68 => ?_)
  · have h69 := h67.1 c68
    refine h_iconst (v := zI 0) hC dX1_routine_113 rfl ?_
    exact cj_Coder_routine_114 hC hr ih  Ra0 (hZ.rv 13) (hZ.rv 14) (hZ.rv 15) (hZ.rv 16) (hZ.rv 19) (hZ.rv 20) (hZ.rv 21) (hZ.rv 22) (hZ.rv 24) R5 (by decide) o65 hZ66 h69
  · have h70 := h67.2 c68
    refine h_iconst (v := zI 1) hC dX1_routine_109 rfl ?_
    refine h_goto (tgt := 114) hC dX1_routine_110 (by decide) ?_
    exact cj_Coder_routine_114 hC hr ih  Ra0 (hZ.rv 13) (hZ.rv 14) (hZ.rv 15) (hZ.rv 16) (hZ.rv 19) (hZ.rv 20) (hZ.rv 21) (hZ.rv 22) (hZ.rv 24) R5 (by decide) o65 hZ66 h70
theorem dX1_variables_0 : decode cX1_variables 0 = .ok (.aload_n 0, 1) := by decide +kernel
theorem dX1_variables_1 : decode cX1_variables 1 = .ok (.bipush 18, 2) := by decide +kernel
theorem dX1_variables_3 : decode cX1_variables 3 = .ok (.iconst 1, 1) := by decide +kernel
theorem dX1_variables_4 : decode cX1_variables 4 = .ok (.invokevirtual 181, 3) := by decide +kernel
theorem dX1_variables_7 : decode cX1_variables 7 = .ok (.pop, 1) := by decide +kernel
theorem dX1_variables_8 : decode cX1_variables 8 = .ok (.aload_n 0, 1) := by decide +kernel
theorem dX1_variables_9 : decode cX1_variables 9 = .ok (.getfield 65, 3) := by decide +kernel
theorem dX1_variables_12 : decode cX1_variables 12 = .ok (.iload_n 1, 1) := by decide +kernel
theorem dX1_variables_13 : decode cX1_variables 13 = .ok (.invokevirtual 129, 3) := by decide +kernel
theorem dX1_variables_16 : decode cX1_variables 16 = .ok (.istore_n 2, 1) := by decide +kernel
theorem dX1_variables_17 : decode cX1_variables 17 = .ok (.aload_n 0, 1) := by decide +kernel
theorem dX1_variables_18 : decode cX1_variables 18 = .ok (.getfield 65, 3) := by decide +kernel
theorem dX1_variables_21 : decode cX1_variables 21 = .ok (.iload_n 1, 1) := by decide +kernel
theorem dX1_variables_22 : decode cX1_variables 22 = .ok (.invokevirtual 126, 3) := by decide +kernel
theorem dX1_variables_25 : decode cX1_variables 25 = .ok (.istore_n 3, 1) := by decide +kernel
theorem dX1_variables_26 : decode cX1_variables 26 = .ok (.iload_n 3, 1) := by decide +kernel
theorem dX1_variables_27 : decode cX1_variables 27 = .ok (.istore 4, 2) := by decide +kernel
theorem dX1_variables_29 : decode cX1_variables 29 = .ok (.iconst 0, 1) := by decide +kernel
theorem dX1_variables_30 : decode cX1_variables 30 = .ok (.istore 5, 2) := by decide +kernel
theorem dX1_variables_32 : decode cX1_variables 32 = .ok (.iload 5, 2) := by decide +kernel
theorem dX1_variables_34 : decode cX1_variables 34 = .ok (.iload_n 2, 1) := by decide +kernel
theorem dX1_variables_35 : decode cX1_variables 35 = .ok (.if_icmp .ge 20, 3) := by decide +kernel
theorem dX1_variables_38 : decode cX1_variables 38 = .ok (.aload_n 0, 1) := by decide +kernel
theorem dX1_variables_39 : decode cX1_variables 39 = .ok (.getfield 65, 3) := by decide +kernel
theorem dX1_variables_42 : decode cX1_variables 42 = .ok (.iload 4, 2) := by decide +kernel
theorem dX1_variables_44 : decode cX1_variables 44 = .ok (.invokevirtual 142, 3) := by decide +kernel
theorem dX1_variables_47 : decode cX1_variables 47 = .ok (.istore 4, 2) := by decide +kernel
theorem dX1_variables_49 : decode cX1_variables 49 = .ok (.iinc 5 1, 3) := by decide +kernel
theorem dX1_variables_52 : decode cX1_variables 52 = .ok (.goto (-20), 3) := by decide +kernel
theorem dX1_variables_55 : decode cX1_variables 55 = .ok (.iload_n 2, 1) := by decide +kernel
theorem dX1_variables_56 : decode cX1_variables 56 = .ok (.istore 5, 2) := by decide +kernel
theorem dX1_variables_58 : decode cX1_variables 58 = .ok (.iconst 0, 1) := by decide +kernel
theorem dX1_variables_59 : decode cX1_variables 59 = .ok (.istore 6, 2) := by decide +kernel
theorem dX1_variables_61 : decode cX1_variables 61 = .ok (.iload 6, 2) := by decide +kernel
theorem dX1_variables_63 : decode cX1_variables 63 = .ok (.iload_n 2, 1) := by decide +kernel
theorem dX1_variables_64 : decode cX1_variables 64 = .ok (.if_icmp .ge 84, 3) := by decide +kernel
theorem dX1_variables_67 : decode cX1_variables 67 = .ok (.aload_n 0, 1) := by decide +kernel
theorem dX1_variables_68 : decode cX1_variables 68 = .ok (.getfield 65, 3) := by decide +kernel
theorem dX1_variables_71 : decode cX1_variables 71 = .ok (.iload 4, 2) := by decide +kernel
theorem dX1_variables_73 : decode cX1_variables 73 = .ok (.invokevirtual 121, 3) := by decide +kernel
theorem dX1_variables_76 : decode cX1_variables 76 = .ok (.bipush 59, 2) := by decide +kernel
theorem dX1_variables_78 : decode cX1_variables 78 = .ok (.if_icmp .ne 45, 3) := by decide +kernel
theorem dX1_variables_81 : decode cX1_variables 81 = .ok (.aload_n 0, 1) := by decide +kernel
theorem dX1_variables_82 : decode cX1_variables 82 = .ok (.iconst 4, 1) := by decide +kernel
theorem dX1_variables_83 : decode cX1_variables 83 = .ok (.aload_n 0, 1) := by decide +kernel
theorem dX1_variables_84 : decode cX1_variables 84 = .ok (.getfield 46, 3) := by decide +kernel
theorem dX1_variables_87 : decode cX1_variables 87 = .ok (.iload 5, 2) := by decide +kernel
theorem dX1_variables_89 : decode cX1_variables 89 = .ok (.iadd, 1) := by decide +kernel
theorem dX1_variables_90 : decode cX1_variables 90 = .ok (.invokevirtual 181, 3) := by decide +kernel
theorem dX1_variables_93 : decode cX1_variables 93 = .ok (.pop, 1) := by decide +kernel
theorem dX1_variables_94 : decode cX1_variables 94 = .ok (.iload 5, 2) := by decide +kernel
theorem dX1_variables_96 : decode cX1_variables 96 = .ok (.aload_n 0, 1) := by decide +kernel
theorem dX1_variables_97 : decode cX1_variables 97 = .ok (.getfield 87, 3) := by decide +kernel
theorem dX1_variables_100 : decode cX1_variables 100 = .ok (.aload_n 0, 1) := by decide +kernel
theorem dX1_variables_101 : decode cX1_variables 101 = .ok (.getfield 65, 3) := by decide +kernel
theorem dX1_variables_104 : decode cX1_variables 104 = .ok (.iload 4, 2) := by decide +kernel
theorem dX1_variables_106 : decode cX1_variables 106 = .ok (.invokevirtual 126, 3) := by decide +kernel
theorem dX1_variables_109 : decode cX1_variables 109 = .ok (.sipush 30000, 3) := by decide +kernel
theorem dX1_variables_112 : decode cX1_variables 112 = .ok (.invokevirtual 145, 3) := by decide +kernel
theorem dX1_variables_115 : decode cX1_variables 115 = .ok (.iconst 1, 1) := by decide +kernel
theorem dX1_variables_116 : decode cX1_variables 116 = .ok (.iadd, 1) := by decide +kernel
theorem dX1_variables_117 : decode cX1_variables 117 = .ok (.iadd, 1) := by decide +kernel
theorem dX1_variables_118 : decode cX1_variables 118 = .ok (.istore 5, 2) := by decide +kernel
theorem dX1_variables_120 : decode cX1_variables 120 = .ok (.goto 11, 3) := by decide +kernel
theorem dX1_variables_123 : decode cX1_variables 123 = .ok (.aload_n 0, 1) := by decide +kernel
theorem dX1_variables_124 : decode cX1_variables 124 = .ok (.iload 4, 2) := by decide +kernel
theorem dX1_variables_126 : decode cX1_variables 126 = .ok (.iconst 0, 1) := by decide +kernel
theorem dX1_variables_127 : decode cX1_variables 127 = .ok (.iconst 0, 1) := by decide +kernel
theorem dX1_variables_128 : decode cX1_variables 128 = .ok (.invokevirtual 188, 3) := by decide +kernel
theorem dX1_variables_131 : decode cX1_variables 131 = .ok (.aload_n 0, 1) := by decide +kernel
theorem dX1_variables_132 : decode cX1_variables 132 = .ok (.getfield 65, 3) := by decide +kernel
theorem dX1_variables_135 : decode cX1_variables 135 = .ok (.iload 4, 2) := by decide +kernel
theorem dX1_variables_137 : decode cX1_variables 137 = .ok (.invokevirtual 142, 3) := by decide +kernel
theorem dX1_variables_140 : decode cX1_variables 140 = .ok (.istore 4, 2) := by decide +kernel
theorem dX1_variables_142 : decode cX1_variables 142 = .ok (.iinc 6 1, 3) := by decide +kernel
theorem dX1_variables_145 : decode cX1_variables 145 = .ok (.goto (-84), 3) := by decide +kernel
theorem dX1_variables_148 : decode cX1_variables 148 = .ok (.iload_n 2, 1) := by decide +kernel
theorem dX1_variables_149 : decode cX1_variables 149 = .ok (.iconst 1, 1) := by decide +kernel
theorem dX1_variables_150 : decode cX1_variables 150 = .ok (.isub, 1) := by decide +kernel
theorem dX1_variables_151 : decode cX1_variables 151 = .ok (.istore 6, 2) := by decide +kernel
theorem dX1_variables_153 : decode cX1_variables 153 = .ok (.iload 6, 2) := by decide +kernel
theorem dX1_variables_155 : decode cX1_variables 155 = .ok (.ifCond .lt 23, 3) := by decide +kernel
theorem dX1_variables_158 : decode cX1_variables 158 = .ok (.aload_n 0, 1) := by decide +kernel
theorem dX1_variables_159 : decode cX1_variables 159 = .ok (.bipush 10, 2) := by decide +kernel
theorem dX1_variables_161 : decode cX1_variables 161 = .ok (.aload_n 0, 1) := by decide +kernel
theorem dX1_variables_162 : decode cX1_variables 162 = .ok (.getfield 46, 3) := by decide +kernel
theorem dX1_variables_165 : decode cX1_variables 165 = .ok (.iload 6, 2) := by decide +kernel
theorem dX1_variables_167 : decode cX1_variables 167 = .ok (.iadd, 1) := by decide +kernel
theorem dX1_variables_168 : decode cX1_variables 168 = .ok (.invokevirtual 181, 3) := by decide +kernel
theorem dX1_variables_171 : decode cX1_variables 171 = .ok (.pop, 1) := by decide +kernel
theorem dX1_variables_172 : decode cX1_variables 172 = .ok (.iinc 6 (-1), 3) := by decide +kernel
theorem dX1_variables_175 : decode cX1_variables 175 = .ok (.goto (-22), 3) := by decide +kernel
theorem dX1_variables_178 : decode cX1_variables 178 = .ok (.iload_n 3, 1) := by decide +kernel
theorem dX1_variables_179 : decode cX1_variables 179 = .ok (.istore 4, 2) := by decide +kernel
theorem dX1_variables_181 : decode cX1_variables 181 = .ok (.iconst 0, 1) := by decide +kernel
theorem dX1_variables_182 : decode cX1_variables 182 = .ok (.istore 6, 2) := by decide +kernel
theorem dX1_variables_184 : decode cX1_variables 184 = .ok (.iload 6, 2) := by decide +kernel
theorem dX1_variables_186 : decode cX1_variables 186 = .ok (.iload_n 2, 1) := by decide +kernel
theorem dX1_variables_187 : decode cX1_variables 187 = .ok (.if_icmp .ge 58, 3) := by decide +kernel
theorem dX1_variables_190 : decode cX1_variables 190 = .ok (.aload_n 0, 1) := by decide +kernel
theorem dX1_variables_191 : decode cX1_variables 191 = .ok (.getfield 78, 3) := by decide +kernel
theorem dX1_variables_194 : decode cX1_variables 194 = .ok (.aload_n 0, 1) := by decide +kernel
theorem dX1_variables_195 : decode cX1_variables 195 = .ok (.getfield 65, 3) := by decide +kernel
theorem dX1_variables_198 : decode cX1_variables 198 = .ok (.iload 4, 2) := by decide +kernel
theorem dX1_variables_200 : decode cX1_variables 200 = .ok (.invokevirtual 129, 3) := by decide +kernel
theorem dX1_variables_203 : decode cX1_variables 203 = .ok (.iconst 2, 1) := by decide +kernel
theorem dX1_variables_204 : decode cX1_variables 204 = .ok (.aload_n 0, 1) := by decide +kernel
theorem dX1_variables_205 : decode cX1_variables 205 = .ok (.getfield 46, 3) := by decide +kernel
theorem dX1_variables_208 : decode cX1_variables 208 = .ok (.iload 6, 2) := by decide +kernel
theorem dX1_variables_210 : decode cX1_variables 210 = .ok (.iadd, 1) := by decide +kernel
theorem dX1_variables_211 : decode cX1_variables 211 = .ok (.aload_n 0, 1) := by decide +kernel
theorem dX1_variables_212 : decode cX1_variables 212 = .ok (.getfield 52, 3) := by decide +kernel
theorem dX1_variables_215 : decode cX1_variables 215 = .ok (.aload_n 0, 1) := by decide +kernel
theorem dX1_variables_216 : decode cX1_variables 216 = .ok (.getfield 65, 3) := by decide +kernel
theorem dX1_variables_219 : decode cX1_variables 219 = .ok (.iload 4, 2) := by decide +kernel
theorem dX1_variables_221 : decode cX1_variables 221 = .ok (.invokevirtual 135, 3) := by decide +kernel
theorem dX1_variables_224 : decode cX1_variables 224 = .ok (.invokevirtual 138, 3) := by decide +kernel
theorem dX1_variables_227 : decode cX1_variables 227 = .ok (.pop, 1) := by decide +kernel
theorem dX1_variables_228 : decode cX1_variables 228 = .ok (.aload_n 0, 1) := by decide +kernel
theorem dX1_variables_229 : decode cX1_variables 229 = .ok (.getfield 65, 3) := by decide +kernel
theorem dX1_variables_232 : decode cX1_variables 232 = .ok (.iload 4, 2) := by decide +kernel
theorem dX1_variables_234 : decode cX1_variables 234 = .ok (.invokevirtual 142, 3) := by decide +kernel
theorem dX1_variables_237 : decode cX1_variables 237 = .ok (.istore 4, 2) := by decide +kernel
theorem dX1_variables_239 : decode cX1_variables 239 = .ok (.iinc 6 1, 3) := by decide +kernel
theorem dX1_variables_242 : decode cX1_variables 242 = .ok (.goto (-58), 3) := by decide +kernel
theorem dX1_variables_245 : decode cX1_variables 245 = .ok (.aload_n 0, 1) := by decide +kernel
theorem dX1_variables_246 : decode cX1_variables 246 = .ok (.iload 5, 2) := by decide +kernel
theorem dX1_variables_248 : decode cX1_variables 248 = .ok (.invokevirtual 211, 3) := by decide +kernel
theorem dX1_variables_251 : decode cX1_variables 251 = .ok (.return_, 1) := by decide +kernel
def wc_Coder_variables_184B (rec : Nat → Int → Int → Int → cS → (Int → cS → Prop) → Prop) (Q : cS → Prop) (k184 : cS → Int → Int → Int → Int → Prop) (A0 : cS) (x2 : Int) (x4 : Int) (x5 : Int) (x6 : Int) : Prop :=
  ((x2 ≤ x6 → wc_Coder_take A0 x5 (fun A4 => Q A4)) ∧ (¬ x2 ≤ x6 → wc_Tree_data A0 x4 (fun r12 A13 => wc_Tree_place A13 x4 (fun r20 A21 => (zR ((yv A13 19) + x6)) ∧ wc_Scope_declare A21 r12 2 ((yv A13 19) + x6) (yv A13 21) r20 (fun r30 A31 => wc_Tree_next A31 x4 (fun r38 A39 => (zR (x6 + 1)) ∧ k184 A39 x2 r38 x5 (x6 + 1)))))))
def wc_Coder_variables_184 (rec : Nat → Int → Int → Int → cS → (Int → cS → Prop) → Prop) (Q : cS → Prop)  : Nat → cS → Int → Int → Int → Int → Prop
  | 0 => fun _ _ _ _ _ => False
  | m + 1 => fun A0 x2 x4 x5 x6 => wc_Coder_variables_184B rec Q  (wc_Coder_variables_184 rec Q  m) A0 x2 x4 x5 x6
def wc_Coder_variables_153B (rec : Nat → Int → Int → Int → cS → (Int → cS → Prop) → Prop) (Q : cS → Prop) (k153 : cS → Int → Int → Int → Int → Prop) (A0 : cS) (x2 : Int) (x3 : Int) (x5 : Int) (x6 : Int) : Prop :=
  ((x6 < 0 → ∃ n, wc_Coder_variables_184 rec Q  n A0 x2 x3 x5 0) ∧ (¬ x6 < 0 → (zR ((yv A0 19) + x6)) ∧ wc_Coder_emit A0 10 ((yv A0 19) + x6) (fun r8 A9 => (zR (x6 + (-1))) ∧ k153 A9 x2 x3 x5 (x6 + (-1)))))
def wc_Coder_variables_153 (rec : Nat → Int → Int → Int → cS → (Int → cS → Prop) → Prop) (Q : cS → Prop)  : Nat → cS → Int → Int → Int → Int → Prop
  | 0 => fun _ _ _ _ _ => False
  | m + 1 => fun A0 x2 x3 x5 x6 => wc_Coder_variables_153B rec Q  (wc_Coder_variables_153 rec Q  m) A0 x2 x3 x5 x6
def wc_Coder_variables_61B (rec : Nat → Int → Int → Int → cS → (Int → cS → Prop) → Prop) (Q : cS → Prop) (k61 : cS → Int → Int → Int → Int → Int → Prop) (A0 : cS) (x2 : Int) (x3 : Int) (x4 : Int) (x5 : Int) (x6 : Int) : Prop :=
  ((x2 ≤ x6 → (zR (x2 - 1)) ∧ ∃ n, wc_Coder_variables_153 rec Q  n A0 x2 x3 x5 (x2 - 1)) ∧ (¬ x2 ≤ x6 → wc_Tree_kind A0 x4 (fun r8 A9 => ((¬ r8 = 59 → rec 12 x4 0 0 A9 (fun _ A19 => wc_Tree_next A19 x4 (fun r26 A27 => (zR (x6 + 1)) ∧ k61 A27 x2 x3 r26 x5 (x6 + 1)))) ∧ (r8 = 59 → (zR ((yv A9 19) + x5)) ∧ wc_Coder_emit A9 4 ((yv A9 19) + x5) (fun r39 A40 => wc_Tree_first A40 x4 (fun r47 A48 => wc_Constants_number A48 r47 30000 (fun r55 A56 => wc_Tree_next A56 x4 (fun r63 A64 => (zR (x5 + (r55 + 1))) ∧ (zR (x6 + 1)) ∧ k61 A64 x2 x3 r63 (x5 + (r55 + 1)) (x6 + 1))))))))))
def wc_Coder_variables_61 (rec : Nat → Int → Int → Int → cS → (Int → cS → Prop) → Prop) (Q : cS → Prop)  : Nat → cS → Int → Int → Int → Int → Int → Prop
  | 0 => fun _ _ _ _ _ _ => False
  | m + 1 => fun A0 x2 x3 x4 x5 x6 => wc_Coder_variables_61B rec Q  (wc_Coder_variables_61 rec Q  m) A0 x2 x3 x4 x5 x6
def wc_Coder_variables_32B (rec : Nat → Int → Int → Int → cS → (Int → cS → Prop) → Prop) (Q : cS → Prop) (k32 : cS → Int → Int → Int → Int → Prop) (A0 : cS) (x2 : Int) (x3 : Int) (x4 : Int) (x5 : Int) : Prop :=
  ((x2 ≤ x5 → ∃ n, wc_Coder_variables_61 rec Q  n A0 x2 x3 x4 x2 0) ∧ (¬ x2 ≤ x5 → wc_Tree_next A0 x4 (fun r6 A7 => (zR (x5 + 1)) ∧ k32 A7 x2 x3 r6 (x5 + 1))))
def wc_Coder_variables_32 (rec : Nat → Int → Int → Int → cS → (Int → cS → Prop) → Prop) (Q : cS → Prop)  : Nat → cS → Int → Int → Int → Int → Prop
  | 0 => fun _ _ _ _ _ => False
  | m + 1 => fun A0 x2 x3 x4 x5 => wc_Coder_variables_32B rec Q  (wc_Coder_variables_32 rec Q  m) A0 x2 x3 x4 x5
def wc_Coder_variables (rec : Nat → Int → Int → Int → cS → (Int → cS → Prop) → Prop) (A0 : cS) (a0 : Int) (Q : cS → Prop) : Prop :=
  wc_Coder_emit A0 18 1 (fun r1 A2 => wc_Tree_data A2 a0 (fun r9 A10 => wc_Tree_first A10 a0 (fun r17 A18 => ∃ n, wc_Coder_variables_32 rec Q  n A18 r9 r17 r17 0)))
set_option maxHeartbeats 4000000 in
set_option maxRecDepth 100000 in
theorem cb_Coder_variables_184 {X : gX} {d : gD} {b : Nat} {Y : gYt} {c : Nat × Nat} {F0 : gM} {S0 : gSt} {mc ms : Nat} {rec : Nat → Int → Int → Int → cS → (Int → cS → Prop) → Prop} {lv0 : Nat} (hC : gC RX1 cX1_variables 7 none "variables" (gR (630 + lv0 + 1) mc ms) d b X) (hr : hRm X b) (ih : yOkC X.la d b Y c lv0 rec) {Q : cS → Prop} {k184 : cS → Int → Int → Int → Int → Prop} (hk184 : ∀ (u : hU) (S : gSt) (A0 : cS) (x2 : Int) (x4 : Int) (x5 : Int) (x6 : Int), zR x2 → zR x4 → zR x5 → zR x6 → yOk X b u → yZ d b Y c F0 S0 u S A0 → k184 A0 x2 x4 x5 x6 → yG X d b (yQv X d b Y c F0 S0 mc ms Q) u 184 [some (.ref (gO' Y 5)), none, some (.int (zI x2)), none, some (.int (zI x4)), some (.int (zI x5)), some (.int (zI x6))] []) {u : hU} {S : gSt} {A0 : cS} {x2 : Int} {x4 : Int} {x5 : Int} {x6 : Int} (Rx2 : zR x2) (Rx4 : zR x4) (Rx5 : zR x5) (Rx6 : zR x6) (ho : yOk X b u) (hZ : yZ d b Y c F0 S0 u S A0) (hw : wc_Coder_variables_184B rec Q k184 A0 x2 x4 x5 x6) : yG X d b (yQv X d b Y c F0 S0 mc ms Q) u 184 [some (.ref (gO' Y 5)), none, some (.int (zI x2)), none, some (.int (zI x4)), some (.int (zI x5)), some (.int (zI x6))] [] := by
  unfold wc_Coder_variables_184B at hw
  refine h_iload hC dX1_variables_184 rfl ?_
  refine h_iload_n hC dX1_variables_186 rfl ?_
  refine yr_icmp_ge (tgt := 245) hC Rx6 Rx2 dX1_variables_187 (by decide) (fun c1 => ?_) (fun c1 => ?_)
  · have h2 := hw.1 c1
    refine h_aload_n hC dX1_variables_245 rfl ?_
    refine h_iload hC dX1_variables_246 rfl ?_
    refine yr_callVv (As := [.int (zI x5)]) hC hr ho hZ rfl (hZ.w.o 5 (by decide)) (cm_Coder_take X.la d b Rx5 hZ.rs h2) cl_X1_211 rfl rfl (Nat.le_of_ble_eq_true rfl) (hFr_of (by omega) (Nat.le_of_ble_eq_true rfl)) dX1_variables_248 (fun A4 u5 S6 o8 hZ9 h10 => ?_)
    exact yr_vret hC hr o8 hZ9 h10 dX1_variables_251
  · have h11 := hw.2 c1
    refine h_aload_n hC dX1_variables_190 rfl ?_
    refine h_get hC fl_X1_78 (hZ.w.o 5 (by decide)) rfl dX1_variables_191 ?_
    refine h_aload_n hC dX1_variables_194 rfl ?_
    refine h_get hC fl_X1_65 (hZ.w.o 5 (by decide)) rfl dX1_variables_195 ?_
    refine h_iload hC dX1_variables_198 rfl ?_
    refine yr_callVi (As := [.int (zI x4)]) hC hr ho hZ rfl (hZ.w.o 2 (by decide)) (cm_Tree_data X.la d b Rx4 hZ.rs h11) cl_X1_129 rfl rfl (Nat.le_of_ble_eq_true rfl) (hFr_of (by omega) (Nat.le_of_ble_eq_true rfl)) dX1_variables_200 (fun r12 A13 u14 S15 R16 o17 hZ18 h19 => ?_)
    refine h_iconst (v := zI 2) hC dX1_variables_203 rfl ?_
    refine h_aload_n hC dX1_variables_204 rfl ?_
    refine h_get hC fl_X1_46 (hZ18.w.o 5 (by decide)) rfl dX1_variables_205 ?_
    refine yr_sv (e := (yv A13 19)) hZ18 19 rfl ?_
    refine h_iload hC dX1_variables_208 rfl ?_
    refine yr_iadd hC dX1_variables_210 ?_
    refine h_aload_n hC dX1_variables_211 rfl ?_
    refine h_get hC fl_X1_52 (hZ18.w.o 5 (by decide)) rfl dX1_variables_212 ?_
    refine yr_sv (e := (yv A13 21)) hZ18 21 rfl ?_
    refine h_aload_n hC dX1_variables_215 rfl ?_
    refine h_get hC fl_X1_65 (hZ18.w.o 5 (by decide)) rfl dX1_variables_216 ?_
    refine h_iload hC dX1_variables_219 rfl ?_
    refine yr_callVi (As := [.int (zI x4)]) hC hr o17 hZ18 rfl (hZ18.w.o 2 (by decide)) (cm_Tree_place X.la d b Rx4 hZ18.rs h19) cl_X1_135 rfl rfl (Nat.le_of_ble_eq_true rfl) (hFr_of (by omega) (Nat.le_of_ble_eq_true rfl)) dX1_variables_221 (fun r20 A21 u22 S23 R24 o25 hZ26 h27 => ?_)
    obtain ⟨o28, h29⟩ := h27
    refine yr_callVi (As := [.int (zI r12), .int (zI 2), .int (zI ((yv A13 19) + x6)), .int (zI (yv A13 21)), .int (zI r20)]) hC hr o25 hZ26 rfl (hZ26.w.o 8 (by decide)) (cm_Scope_declare X.la d b R16 (by decide) o28 (hZ18.rv 21) R24 hZ26.rs h29) cl_X1_138 rfl rfl (Nat.le_of_ble_eq_true rfl) (hFr_of (by omega) (Nat.le_of_ble_eq_true rfl)) dX1_variables_224 (fun r30 A31 u32 S33 R34 o35 hZ36 h37 => ?_)
    refine h_pop hC dX1_variables_227 rfl ?_
    refine h_aload_n hC dX1_variables_228 rfl ?_
    refine h_get hC fl_X1_65 (hZ36.w.o 5 (by decide)) rfl dX1_variables_229 ?_
    refine h_iload hC dX1_variables_232 rfl ?_
    refine yr_callVi (As := [.int (zI x4)]) hC hr o35 hZ36 rfl (hZ36.w.o 2 (by decide)) (cm_Tree_next X.la d b Rx4 hZ36.rs h37) cl_X1_142 rfl rfl (Nat.le_of_ble_eq_true rfl) (hFr_of (by omega) (Nat.le_of_ble_eq_true rfl)) dX1_variables_234 (fun r38 A39 u40 S41 R42 o43 hZ44 h45 => ?_)
    refine h_istore (lv' := [some (.ref (gO' Y 5)), none, some (.int (zI x2)), none, some (.int (zI r38)), some (.int (zI x5)), some (.int (zI x6))]) hC dX1_variables_237 (Nat.le_of_ble_eq_true rfl) rfl rfl ?_
    refine yr_iinc (x := x6) (lv' := [some (.ref (gO' Y 5)), none, some (.int (zI x2)), none, some (.int (zI r38)), some (.int (zI x5)), some (.int (zI (x6 + 1)))]) hC dX1_variables_239 rfl rfl rfl ?_
    refine h_goto (tgt := 184) hC dX1_variables_242 (by decide) ?_
    obtain ⟨o46, h47⟩ := h45
    exact hk184 _ _ _ _ _ _ _ Rx2 R42 Rx5 o46 o43 hZ44 h47
theorem cl_Coder_variables_184 {X : gX} {d : gD} {b : Nat} {Y : gYt} {c : Nat × Nat} {F0 : gM} {S0 : gSt} {mc ms : Nat} {rec : Nat → Int → Int → Int → cS → (Int → cS → Prop) → Prop} {lv0 : Nat} (hC : gC RX1 cX1_variables 7 none "variables" (gR (630 + lv0 + 1) mc ms) d b X) (hr : hRm X b) (ih : yOkC X.la d b Y c lv0 rec) {Q : cS → Prop}   : ∀ (m : Nat) (u : hU) (S : gSt) (A0 : cS) (x2 : Int) (x4 : Int) (x5 : Int) (x6 : Int), zR x2 → zR x4 → zR x5 → zR x6 → yOk X b u → yZ d b Y c F0 S0 u S A0 → wc_Coder_variables_184 rec Q  m A0 x2 x4 x5 x6 → yG X d b (yQv X d b Y c F0 S0 mc ms Q) u 184 [some (.ref (gO' Y 5)), none, some (.int (zI x2)), none, some (.int (zI x4)), some (.int (zI x5)), some (.int (zI x6))] [] := by
  intro m
  induction m with
  | zero => intro u S A0 x2 x4 x5 x6 Rx2 Rx4 Rx5 Rx6 ho hZ hw; exact False.elim hw
  | succ m ihm => intro u S A0 x2 x4 x5 x6 Rx2 Rx4 Rx5 Rx6 ho hZ hw; exact cb_Coder_variables_184 hC hr ih  ihm Rx2 Rx4 Rx5 Rx6 ho hZ hw
set_option maxHeartbeats 4000000 in
set_option maxRecDepth 100000 in
theorem cb_Coder_variables_153 {X : gX} {d : gD} {b : Nat} {Y : gYt} {c : Nat × Nat} {F0 : gM} {S0 : gSt} {mc ms : Nat} {rec : Nat → Int → Int → Int → cS → (Int → cS → Prop) → Prop} {lv0 : Nat} (hC : gC RX1 cX1_variables 7 none "variables" (gR (630 + lv0 + 1) mc ms) d b X) (hr : hRm X b) (ih : yOkC X.la d b Y c lv0 rec) {Q : cS → Prop} {k153 : cS → Int → Int → Int → Int → Prop} (hk153 : ∀ (u : hU) (S : gSt) (A0 : cS) (x2 : Int) (x3 : Int) (x5 : Int) (x6 : Int), zR x2 → zR x3 → zR x5 → zR x6 → yOk X b u → yZ d b Y c F0 S0 u S A0 → k153 A0 x2 x3 x5 x6 → yG X d b (yQv X d b Y c F0 S0 mc ms Q) u 153 [some (.ref (gO' Y 5)), none, some (.int (zI x2)), some (.int (zI x3)), none, some (.int (zI x5)), some (.int (zI x6))] []) {u : hU} {S : gSt} {A0 : cS} {x2 : Int} {x3 : Int} {x5 : Int} {x6 : Int} (Rx2 : zR x2) (Rx3 : zR x3) (Rx5 : zR x5) (Rx6 : zR x6) (ho : yOk X b u) (hZ : yZ d b Y c F0 S0 u S A0) (hw : wc_Coder_variables_153B rec Q k153 A0 x2 x3 x5 x6) : yG X d b (yQv X d b Y c F0 S0 mc ms Q) u 153 [some (.ref (gO' Y 5)), none, some (.int (zI x2)), some (.int (zI x3)), none, some (.int (zI x5)), some (.int (zI x6))] [] := by
  unfold wc_Coder_variables_153B at hw
  refine h_iload hC dX1_variables_153 rfl ?_
  refine yr_if_lt (tgt := 178) hC Rx6 dX1_variables_155 (by decide) (fun c1 => ?_) (fun c1 => ?_)
  · have h2 := hw.1 c1
    refine h_iload_n hC dX1_variables_178 rfl ?_
    refine h_istore (lv' := [some (.ref (gO' Y 5)), none, some (.int (zI x2)), some (.int (zI x3)), some (.int (zI x3)), some (.int (zI x5)), some (.int (zI x6))]) hC dX1_variables_179 (Nat.le_of_ble_eq_true rfl) rfl rfl ?_
    refine h_iconst (v := zI 0) hC dX1_variables_181 rfl ?_
    refine h_istore (lv' := [some (.ref (gO' Y 5)), none, some (.int (zI x2)), some (.int (zI x3)), some (.int (zI x3)), some (.int (zI x5)), some (.int (zI 0))]) hC dX1_variables_182 (Nat.le_of_ble_eq_true rfl) rfl rfl ?_
    refine h_lv (lv' := [some (.ref (gO' Y 5)), none, some (.int (zI x2)), none, some (.int (zI x3)), some (.int (zI x5)), some (.int (zI 0))]) ⟨rfl, rfl, rfl, rfl, rfl, trivial⟩ ?_
    obtain ⟨m3, h4⟩ := h2
    exact cl_Coder_variables_184 hC hr ih  m3 _ _ _ _ _ _ _ Rx2 Rx3 Rx5 (by decide) ho hZ h4
  · have h5 := hw.2 c1
    refine h_aload_n hC dX1_variables_158 rfl ?_
    refine h_bipush (v := zI 10) hC dX1_variables_159 rfl ?_
    refine h_aload_n hC dX1_variables_161 rfl ?_
    refine h_get hC fl_X1_46 (hZ.w.o 5 (by decide)) rfl dX1_variables_162 ?_
    refine yr_sv (e := (yv A0 19)) hZ 19 rfl ?_
    refine h_iload hC dX1_variables_165 rfl ?_
    refine yr_iadd hC dX1_variables_167 ?_
    obtain ⟨o6, h7⟩ := h5
    refine yr_callVi (As := [.int (zI 10), .int (zI ((yv A0 19) + x6))]) hC hr ho hZ rfl (hZ.w.o 5 (by decide)) (cm_Coder_emit X.la d b (by decide) o6 hZ.rs h7) cl_X1_181 rfl rfl (Nat.le_of_ble_eq_true rfl) (hFr_of (by omega) (Nat.le_of_ble_eq_true rfl)) dX1_variables_168 (fun r8 A9 u10 S11 R12 o13 hZ14 h15 => ?_)
    refine h_pop hC dX1_variables_171 rfl ?_
    refine yr_iinc (x := x6) (lv' := [some (.ref (gO' Y 5)), none, some (.int (zI x2)), some (.int (zI x3)), none, some (.int (zI x5)), some (.int (zI (x6 + (-1))))]) hC dX1_variables_172 rfl rfl rfl ?_
    refine h_goto (tgt := 153) hC dX1_variables_175 (by decide) ?_
    obtain ⟨o16, h17⟩ := h15
    exact hk153 _ _ _ _ _ _ _ Rx2 Rx3 Rx5 o16 o13 hZ14 h17
theorem cl_Coder_variables_153 {X : gX} {d : gD} {b : Nat} {Y : gYt} {c : Nat × Nat} {F0 : gM} {S0 : gSt} {mc ms : Nat} {rec : Nat → Int → Int → Int → cS → (Int → cS → Prop) → Prop} {lv0 : Nat} (hC : gC RX1 cX1_variables 7 none "variables" (gR (630 + lv0 + 1) mc ms) d b X) (hr : hRm X b) (ih : yOkC X.la d b Y c lv0 rec) {Q : cS → Prop}   : ∀ (m : Nat) (u : hU) (S : gSt) (A0 : cS) (x2 : Int) (x3 : Int) (x5 : Int) (x6 : Int), zR x2 → zR x3 → zR x5 → zR x6 → yOk X b u → yZ d b Y c F0 S0 u S A0 → wc_Coder_variables_153 rec Q  m A0 x2 x3 x5 x6 → yG X d b (yQv X d b Y c F0 S0 mc ms Q) u 153 [some (.ref (gO' Y 5)), none, some (.int (zI x2)), some (.int (zI x3)), none, some (.int (zI x5)), some (.int (zI x6))] [] := by
  intro m
  induction m with
  | zero => intro u S A0 x2 x3 x5 x6 Rx2 Rx3 Rx5 Rx6 ho hZ hw; exact False.elim hw
  | succ m ihm => intro u S A0 x2 x3 x5 x6 Rx2 Rx3 Rx5 Rx6 ho hZ hw; exact cb_Coder_variables_153 hC hr ih  ihm Rx2 Rx3 Rx5 Rx6 ho hZ hw
set_option maxHeartbeats 4000000 in
set_option maxRecDepth 100000 in
theorem cb_Coder_variables_61 {X : gX} {d : gD} {b : Nat} {Y : gYt} {c : Nat × Nat} {F0 : gM} {S0 : gSt} {mc ms : Nat} {rec : Nat → Int → Int → Int → cS → (Int → cS → Prop) → Prop} {lv0 : Nat} (hC : gC RX1 cX1_variables 7 none "variables" (gR (630 + lv0 + 1) mc ms) d b X) (hr : hRm X b) (ih : yOkC X.la d b Y c lv0 rec) {Q : cS → Prop} {k61 : cS → Int → Int → Int → Int → Int → Prop} (hk61 : ∀ (u : hU) (S : gSt) (A0 : cS) (x2 : Int) (x3 : Int) (x4 : Int) (x5 : Int) (x6 : Int), zR x2 → zR x3 → zR x4 → zR x5 → zR x6 → yOk X b u → yZ d b Y c F0 S0 u S A0 → k61 A0 x2 x3 x4 x5 x6 → yG X d b (yQv X d b Y c F0 S0 mc ms Q) u 61 [some (.ref (gO' Y 5)), none, some (.int (zI x2)), some (.int (zI x3)), some (.int (zI x4)), some (.int (zI x5)), some (.int (zI x6))] []) {u : hU} {S : gSt} {A0 : cS} {x2 : Int} {x3 : Int} {x4 : Int} {x5 : Int} {x6 : Int} (Rx2 : zR x2) (Rx3 : zR x3) (Rx4 : zR x4) (Rx5 : zR x5) (Rx6 : zR x6) (ho : yOk X b u) (hZ : yZ d b Y c F0 S0 u S A0) (hw : wc_Coder_variables_61B rec Q k61 A0 x2 x3 x4 x5 x6) : yG X d b (yQv X d b Y c F0 S0 mc ms Q) u 61 [some (.ref (gO' Y 5)), none, some (.int (zI x2)), some (.int (zI x3)), some (.int (zI x4)), some (.int (zI x5)), some (.int (zI x6))] [] := by
  unfold wc_Coder_variables_61B at hw
  refine h_iload hC dX1_variables_61 rfl ?_
  refine h_iload_n hC dX1_variables_63 rfl ?_
  refine yr_icmp_ge (tgt := 148) hC Rx6 Rx2 dX1_variables_64 (by decide) (fun c1 => ?_) (fun c1 => ?_)
  · have h2 := hw.1 c1
    refine h_iload_n hC dX1_variables_148 rfl ?_
    refine h_iconst (v := zI 1) hC dX1_variables_149 rfl ?_
    refine yr_isub hC dX1_variables_150 ?_
    refine h_istore (lv' := [some (.ref (gO' Y 5)), none, some (.int (zI x2)), some (.int (zI x3)), some (.int (zI x4)), some (.int (zI x5)), some (.int (zI (x2 - 1)))]) hC dX1_variables_151 (Nat.le_of_ble_eq_true rfl) rfl rfl ?_
    obtain ⟨o3, h4⟩ := h2
    refine h_lv (lv' := [some (.ref (gO' Y 5)), none, some (.int (zI x2)), some (.int (zI x3)), none, some (.int (zI x5)), some (.int (zI (x2 - 1)))]) ⟨rfl, rfl, rfl, rfl, rfl, trivial⟩ ?_
    obtain ⟨m5, h6⟩ := h4
    exact cl_Coder_variables_153 hC hr ih  m5 _ _ _ _ _ _ _ Rx2 Rx3 Rx5 o3 ho hZ h6
  · have h7 := hw.2 c1
    refine h_aload_n hC dX1_variables_67 rfl ?_
    refine h_get hC fl_X1_65 (hZ.w.o 5 (by decide)) rfl dX1_variables_68 ?_
    refine h_iload hC dX1_variables_71 rfl ?_
    refine yr_callVi (As := [.int (zI x4)]) hC hr ho hZ rfl (hZ.w.o 2 (by decide)) (cm_Tree_kind X.la d b Rx4 hZ.rs h7) cl_X1_121 rfl rfl (Nat.le_of_ble_eq_true rfl) (hFr_of (by omega) (Nat.le_of_ble_eq_true rfl)) dX1_variables_73 (fun r8 A9 u10 S11 R12 o13 hZ14 h15 => ?_)
    refine h_bipush (v := zI 59) hC dX1_variables_76 rfl ?_
    refine yr_icmp_ne (tgt := 123) hC R12 (by decide) dX1_variables_78 (by decide) (fun c16 => ?_) (fun c16 => ?_)
    · have h17 := h15.1 c16
      refine h_aload_n hC dX1_variables_123 rfl ?_
      refine h_iload hC dX1_variables_124 rfl ?_
      refine h_iconst (v := zI 0) hC dX1_variables_126 rfl ?_
      refine h_iconst (v := zI 0) hC dX1_variables_127 rfl ?_
      refine yr_callVv (As := [.int (zI x4), .int (zI 0), .int (zI 0)]) hC hr o13 hZ14 rfl (hZ14.w.o 5 (by decide)) (ih.2.2.2.2.2.2.2.2.2.2.2.2.1 Rx4 (by decide) (by decide) hZ14.rs h17) cl_X1_188 rfl rfl (Nat.le_of_ble_eq_true rfl) (hFr_of (by omega) (Nat.le_of_ble_eq_true rfl)) dX1_variables_128 (fun A19 u20 S21 o23 hZ24 h25 => ?_)
      refine h_aload_n hC dX1_variables_131 rfl ?_
      refine h_get hC fl_X1_65 (hZ24.w.o 5 (by decide)) rfl dX1_variables_132 ?_
      refine h_iload hC dX1_variables_135 rfl ?_
      refine yr_callVi (As := [.int (zI x4)]) hC hr o23 hZ24 rfl (hZ24.w.o 2 (by decide)) (cm_Tree_next X.la d b Rx4 hZ24.rs h25) cl_X1_142 rfl rfl (Nat.le_of_ble_eq_true rfl) (hFr_of (by omega) (Nat.le_of_ble_eq_true rfl)) dX1_variables_137 (fun r26 A27 u28 S29 R30 o31 hZ32 h33 => ?_)
      refine h_istore (lv' := [some (.ref (gO' Y 5)), none, some (.int (zI x2)), some (.int (zI x3)), some (.int (zI r26)), some (.int (zI x5)), some (.int (zI x6))]) hC dX1_variables_140 (Nat.le_of_ble_eq_true rfl) rfl rfl ?_
      refine yr_iinc (x := x6) (lv' := [some (.ref (gO' Y 5)), none, some (.int (zI x2)), some (.int (zI x3)), some (.int (zI r26)), some (.int (zI x5)), some (.int (zI (x6 + 1)))]) hC dX1_variables_142 rfl rfl rfl ?_
      refine h_goto (tgt := 61) hC dX1_variables_145 (by decide) ?_
      obtain ⟨o34, h35⟩ := h33
      exact hk61 _ _ _ _ _ _ _ _ Rx2 Rx3 R30 Rx5 o34 o31 hZ32 h35
    · have h36 := h15.2 c16
      refine h_aload_n hC dX1_variables_81 rfl ?_
      refine h_iconst (v := zI 4) hC dX1_variables_82 rfl ?_
      refine h_aload_n hC dX1_variables_83 rfl ?_
      refine h_get hC fl_X1_46 (hZ14.w.o 5 (by decide)) rfl dX1_variables_84 ?_
      refine yr_sv (e := (yv A9 19)) hZ14 19 rfl ?_
      refine h_iload hC dX1_variables_87 rfl ?_
      refine yr_iadd hC dX1_variables_89 ?_
      obtain ⟨o37, h38⟩ := h36
      refine yr_callVi (As := [.int (zI 4), .int (zI ((yv A9 19) + x5))]) hC hr o13 hZ14 rfl (hZ14.w.o 5 (by decide)) (cm_Coder_emit X.la d b (by decide) o37 hZ14.rs h38) cl_X1_181 rfl rfl (Nat.le_of_ble_eq_true rfl) (hFr_of (by omega) (Nat.le_of_ble_eq_true rfl)) dX1_variables_90 (fun r39 A40 u41 S42 R43 o44 hZ45 h46 => ?_)
      refine h_pop hC dX1_variables_93 rfl ?_
      refine h_iload hC dX1_variables_94 rfl ?_
      refine h_aload_n hC dX1_variables_96 rfl ?_
      refine h_get hC fl_X1_87 (hZ45.w.o 5 (by decide)) rfl dX1_variables_97 ?_
      refine h_aload_n hC dX1_variables_100 rfl ?_
      refine h_get hC fl_X1_65 (hZ45.w.o 5 (by decide)) rfl dX1_variables_101 ?_
      refine h_iload hC dX1_variables_104 rfl ?_
      refine yr_callVi (As := [.int (zI x4)]) hC hr o44 hZ45 rfl (hZ45.w.o 2 (by decide)) (cm_Tree_first X.la d b Rx4 hZ45.rs h46) cl_X1_126 rfl rfl (Nat.le_of_ble_eq_true rfl) (hFr_of (by omega) (Nat.le_of_ble_eq_true rfl)) dX1_variables_106 (fun r47 A48 u49 S50 R51 o52 hZ53 h54 => ?_)
      refine h_sipush (v := zI 30000) hC dX1_variables_109 rfl ?_
      refine yr_callVi (As := [.int (zI r47), .int (zI 30000)]) hC hr o52 hZ53 rfl (hZ53.w.o 9 (by decide)) (cm_Constants_number X.la d b R51 (by decide) hZ53.rs h54) cl_X1_145 rfl rfl (Nat.le_of_ble_eq_true rfl) (hFr_of (by omega) (Nat.le_of_ble_eq_true rfl)) dX1_variables_112 (fun r55 A56 u57 S58 R59 o60 hZ61 h62 => ?_)
      refine h_iconst (v := zI 1) hC dX1_variables_115 rfl ?_
      refine yr_iadd hC dX1_variables_116 ?_
      refine yr_iadd hC dX1_variables_117 ?_
      refine h_istore (lv' := [some (.ref (gO' Y 5)), none, some (.int (zI x2)), some (.int (zI x3)), some (.int (zI x4)), some (.int (zI (x5 + (r55 + 1)))), some (.int (zI x6))]) hC dX1_variables_118 (Nat.le_of_ble_eq_true rfl) rfl rfl ?_
      refine h_goto (tgt := 131) hC dX1_variables_120 (by decide) ?_
      refine h_aload_n hC dX1_variables_131 rfl ?_
      refine h_get hC fl_X1_65 (hZ61.w.o 5 (by decide)) rfl dX1_variables_132 ?_
      refine h_iload hC dX1_variables_135 rfl ?_
      refine yr_callVi (As := [.int (zI x4)]) hC hr o60 hZ61 rfl (hZ61.w.o 2 (by decide)) (cm_Tree_next X.la d b Rx4 hZ61.rs h62) cl_X1_142 rfl rfl (Nat.le_of_ble_eq_true rfl) (hFr_of (by omega) (Nat.le_of_ble_eq_true rfl)) dX1_variables_137 (fun r63 A64 u65 S66 R67 o68 hZ69 h70 => ?_)
      refine h_istore (lv' := [some (.ref (gO' Y 5)), none, some (.int (zI x2)), some (.int (zI x3)), some (.int (zI r63)), some (.int (zI (x5 + (r55 + 1)))), some (.int (zI x6))]) hC dX1_variables_140 (Nat.le_of_ble_eq_true rfl) rfl rfl ?_
      refine yr_iinc (x := x6) (lv' := [some (.ref (gO' Y 5)), none, some (.int (zI x2)), some (.int (zI x3)), some (.int (zI r63)), some (.int (zI (x5 + (r55 + 1)))), some (.int (zI (x6 + 1)))]) hC dX1_variables_142 rfl rfl rfl ?_
      refine h_goto (tgt := 61) hC dX1_variables_145 (by decide) ?_
      obtain ⟨o71, h72⟩ := h70
      obtain ⟨o73, h74⟩ := h72
      exact hk61 _ _ _ _ _ _ _ _ Rx2 Rx3 R67 o71 o73 o68 hZ69 h74
theorem cl_Coder_variables_61 {X : gX} {d : gD} {b : Nat} {Y : gYt} {c : Nat × Nat} {F0 : gM} {S0 : gSt} {mc ms : Nat} {rec : Nat → Int → Int → Int → cS → (Int → cS → Prop) → Prop} {lv0 : Nat} (hC : gC RX1 cX1_variables 7 none "variables" (gR (630 + lv0 + 1) mc ms) d b X) (hr : hRm X b) (ih : yOkC X.la d b Y c lv0 rec) {Q : cS → Prop}   : ∀ (m : Nat) (u : hU) (S : gSt) (A0 : cS) (x2 : Int) (x3 : Int) (x4 : Int) (x5 : Int) (x6 : Int), zR x2 → zR x3 → zR x4 → zR x5 → zR x6 → yOk X b u → yZ d b Y c F0 S0 u S A0 → wc_Coder_variables_61 rec Q  m A0 x2 x3 x4 x5 x6 → yG X d b (yQv X d b Y c F0 S0 mc ms Q) u 61 [some (.ref (gO' Y 5)), none, some (.int (zI x2)), some (.int (zI x3)), some (.int (zI x4)), some (.int (zI x5)), some (.int (zI x6))] [] := by
  intro m
  induction m with
  | zero => intro u S A0 x2 x3 x4 x5 x6 Rx2 Rx3 Rx4 Rx5 Rx6 ho hZ hw; exact False.elim hw
  | succ m ihm => intro u S A0 x2 x3 x4 x5 x6 Rx2 Rx3 Rx4 Rx5 Rx6 ho hZ hw; exact cb_Coder_variables_61 hC hr ih  ihm Rx2 Rx3 Rx4 Rx5 Rx6 ho hZ hw
set_option maxHeartbeats 4000000 in
set_option maxRecDepth 100000 in
theorem cb_Coder_variables_32 {X : gX} {d : gD} {b : Nat} {Y : gYt} {c : Nat × Nat} {F0 : gM} {S0 : gSt} {mc ms : Nat} {rec : Nat → Int → Int → Int → cS → (Int → cS → Prop) → Prop} {lv0 : Nat} (hC : gC RX1 cX1_variables 7 none "variables" (gR (630 + lv0 + 1) mc ms) d b X) (hr : hRm X b) (ih : yOkC X.la d b Y c lv0 rec) {Q : cS → Prop} {k32 : cS → Int → Int → Int → Int → Prop} (hk32 : ∀ (u : hU) (S : gSt) (A0 : cS) (x2 : Int) (x3 : Int) (x4 : Int) (x5 : Int), zR x2 → zR x3 → zR x4 → zR x5 → yOk X b u → yZ d b Y c F0 S0 u S A0 → k32 A0 x2 x3 x4 x5 → yG X d b (yQv X d b Y c F0 S0 mc ms Q) u 32 [some (.ref (gO' Y 5)), none, some (.int (zI x2)), some (.int (zI x3)), some (.int (zI x4)), some (.int (zI x5)), none] []) {u : hU} {S : gSt} {A0 : cS} {x2 : Int} {x3 : Int} {x4 : Int} {x5 : Int} (Rx2 : zR x2) (Rx3 : zR x3) (Rx4 : zR x4) (Rx5 : zR x5) (ho : yOk X b u) (hZ : yZ d b Y c F0 S0 u S A0) (hw : wc_Coder_variables_32B rec Q k32 A0 x2 x3 x4 x5) : yG X d b (yQv X d b Y c F0 S0 mc ms Q) u 32 [some (.ref (gO' Y 5)), none, some (.int (zI x2)), some (.int (zI x3)), some (.int (zI x4)), some (.int (zI x5)), none] [] := by
  unfold wc_Coder_variables_32B at hw
  refine h_iload hC dX1_variables_32 rfl ?_
  refine h_iload_n hC dX1_variables_34 rfl ?_
  refine yr_icmp_ge (tgt := 55) hC Rx5 Rx2 dX1_variables_35 (by decide) (fun c1 => ?_) (fun c1 => ?_)
  · have h2 := hw.1 c1
    refine h_iload_n hC dX1_variables_55 rfl ?_
    refine h_istore (lv' := [some (.ref (gO' Y 5)), none, some (.int (zI x2)), some (.int (zI x3)), some (.int (zI x4)), some (.int (zI x2)), none]) hC dX1_variables_56 (Nat.le_of_ble_eq_true rfl) rfl rfl ?_
    refine h_iconst (v := zI 0) hC dX1_variables_58 rfl ?_
    refine h_istore (lv' := [some (.ref (gO' Y 5)), none, some (.int (zI x2)), some (.int (zI x3)), some (.int (zI x4)), some (.int (zI x2)), some (.int (zI 0))]) hC dX1_variables_59 (Nat.le_of_ble_eq_true rfl) rfl rfl ?_
    obtain ⟨m3, h4⟩ := h2
    exact cl_Coder_variables_61 hC hr ih  m3 _ _ _ _ _ _ _ _ Rx2 Rx3 Rx4 Rx2 (by decide) ho hZ h4
  · have h5 := hw.2 c1
    refine h_aload_n hC dX1_variables_38 rfl ?_
    refine h_get hC fl_X1_65 (hZ.w.o 5 (by decide)) rfl dX1_variables_39 ?_
    refine h_iload hC dX1_variables_42 rfl ?_
    refine yr_callVi (As := [.int (zI x4)]) hC hr ho hZ rfl (hZ.w.o 2 (by decide)) (cm_Tree_next X.la d b Rx4 hZ.rs h5) cl_X1_142 rfl rfl (Nat.le_of_ble_eq_true rfl) (hFr_of (by omega) (Nat.le_of_ble_eq_true rfl)) dX1_variables_44 (fun r6 A7 u8 S9 R10 o11 hZ12 h13 => ?_)
    refine h_istore (lv' := [some (.ref (gO' Y 5)), none, some (.int (zI x2)), some (.int (zI x3)), some (.int (zI r6)), some (.int (zI x5)), none]) hC dX1_variables_47 (Nat.le_of_ble_eq_true rfl) rfl rfl ?_
    refine yr_iinc (x := x5) (lv' := [some (.ref (gO' Y 5)), none, some (.int (zI x2)), some (.int (zI x3)), some (.int (zI r6)), some (.int (zI (x5 + 1))), none]) hC dX1_variables_49 rfl rfl rfl ?_
    refine h_goto (tgt := 32) hC dX1_variables_52 (by decide) ?_
    obtain ⟨o14, h15⟩ := h13
    exact hk32 _ _ _ _ _ _ _ Rx2 Rx3 R10 o14 o11 hZ12 h15
theorem cl_Coder_variables_32 {X : gX} {d : gD} {b : Nat} {Y : gYt} {c : Nat × Nat} {F0 : gM} {S0 : gSt} {mc ms : Nat} {rec : Nat → Int → Int → Int → cS → (Int → cS → Prop) → Prop} {lv0 : Nat} (hC : gC RX1 cX1_variables 7 none "variables" (gR (630 + lv0 + 1) mc ms) d b X) (hr : hRm X b) (ih : yOkC X.la d b Y c lv0 rec) {Q : cS → Prop}   : ∀ (m : Nat) (u : hU) (S : gSt) (A0 : cS) (x2 : Int) (x3 : Int) (x4 : Int) (x5 : Int), zR x2 → zR x3 → zR x4 → zR x5 → yOk X b u → yZ d b Y c F0 S0 u S A0 → wc_Coder_variables_32 rec Q  m A0 x2 x3 x4 x5 → yG X d b (yQv X d b Y c F0 S0 mc ms Q) u 32 [some (.ref (gO' Y 5)), none, some (.int (zI x2)), some (.int (zI x3)), some (.int (zI x4)), some (.int (zI x5)), none] [] := by
  intro m
  induction m with
  | zero => intro u S A0 x2 x3 x4 x5 Rx2 Rx3 Rx4 Rx5 ho hZ hw; exact False.elim hw
  | succ m ihm => intro u S A0 x2 x3 x4 x5 Rx2 Rx3 Rx4 Rx5 ho hZ hw; exact cb_Coder_variables_32 hC hr ih  ihm Rx2 Rx3 Rx4 Rx5 ho hZ hw
set_option maxHeartbeats 4000000 in
set_option maxRecDepth 100000 in
theorem cm_Coder_variables (l : Launch) (d : gD) (b : Nat) {Y : gYt} {c : Nat × Nat} {F : gM} {k n : Nat} {S : gSt} {A0 : cS} {rec : Nat → Int → Int → Int → cS → (Int → cS → Prop) → Prop} {lv0 : Nat} (ih : yOkC l d b Y c lv0 rec) {a0 : Int} (Ra0 : zR a0) {Q : cS → Prop} (hZ : yZ d b Y c F S (F, k, n) S A0) (hw : wc_Coder_variables rec A0 a0 Q) : hMv l d b yX1_variables cX1_variables 7 (630 + lv0 + 1) k n F [.ref (gO' Y 5), .int (zI a0)] (yPv d b Y c F S Q) := by
  intro mc ms
  refine hM_of2 rfl (nL := 7) (Nat.le_of_ble_eq_true rfl) ?_
  intro X hX hC hr ho; subst hX
  show yG X d b (yQv X d b Y c F S mc ms Q) (F, k, n) 0 [some (.ref (gO' Y 5)), some (.int (zI a0)), none, none, none, none, none] []
  unfold wc_Coder_variables at hw
  refine h_aload_n hC dX1_variables_0 rfl ?_
  refine h_bipush (v := zI 18) hC dX1_variables_1 rfl ?_
  refine h_iconst (v := zI 1) hC dX1_variables_3 rfl ?_
  refine yr_callVi (As := [.int (zI 18), .int (zI 1)]) hC hr ho hZ rfl (hZ.w.o 5 (by decide)) (cm_Coder_emit X.la d b (by decide) (by decide) hZ.rs hw) cl_X1_181 rfl rfl (Nat.le_of_ble_eq_true rfl) (hFr_of (by omega) (Nat.le_of_ble_eq_true rfl)) dX1_variables_4 (fun r1 A2 u3 S4 R5 o6 hZ7 h8 => ?_)
  refine h_pop hC dX1_variables_7 rfl ?_
  refine h_aload_n hC dX1_variables_8 rfl ?_
  refine h_get hC fl_X1_65 (hZ7.w.o 5 (by decide)) rfl dX1_variables_9 ?_
  refine h_iload_n hC dX1_variables_12 rfl ?_
  refine yr_callVi (As := [.int (zI a0)]) hC hr o6 hZ7 rfl (hZ7.w.o 2 (by decide)) (cm_Tree_data X.la d b Ra0 hZ7.rs h8) cl_X1_129 rfl rfl (Nat.le_of_ble_eq_true rfl) (hFr_of (by omega) (Nat.le_of_ble_eq_true rfl)) dX1_variables_13 (fun r9 A10 u11 S12 R13 o14 hZ15 h16 => ?_)
  refine h_istore_n (lv' := [some (.ref (gO' Y 5)), some (.int (zI a0)), some (.int (zI r9)), none, none, none, none]) hC dX1_variables_16 (Nat.le_of_ble_eq_true rfl) rfl rfl ?_
  refine h_aload_n hC dX1_variables_17 rfl ?_
  refine h_get hC fl_X1_65 (hZ15.w.o 5 (by decide)) rfl dX1_variables_18 ?_
  refine h_iload_n hC dX1_variables_21 rfl ?_
  refine yr_callVi (As := [.int (zI a0)]) hC hr o14 hZ15 rfl (hZ15.w.o 2 (by decide)) (cm_Tree_first X.la d b Ra0 hZ15.rs h16) cl_X1_126 rfl rfl (Nat.le_of_ble_eq_true rfl) (hFr_of (by omega) (Nat.le_of_ble_eq_true rfl)) dX1_variables_22 (fun r17 A18 u19 S20 R21 o22 hZ23 h24 => ?_)
  refine h_istore_n (lv' := [some (.ref (gO' Y 5)), some (.int (zI a0)), some (.int (zI r9)), some (.int (zI r17)), none, none, none]) hC dX1_variables_25 (Nat.le_of_ble_eq_true rfl) rfl rfl ?_
  refine h_iload_n hC dX1_variables_26 rfl ?_
  refine h_istore (lv' := [some (.ref (gO' Y 5)), some (.int (zI a0)), some (.int (zI r9)), some (.int (zI r17)), some (.int (zI r17)), none, none]) hC dX1_variables_27 (Nat.le_of_ble_eq_true rfl) rfl rfl ?_
  refine h_iconst (v := zI 0) hC dX1_variables_29 rfl ?_
  refine h_istore (lv' := [some (.ref (gO' Y 5)), some (.int (zI a0)), some (.int (zI r9)), some (.int (zI r17)), some (.int (zI r17)), some (.int (zI 0)), none]) hC dX1_variables_30 (Nat.le_of_ble_eq_true rfl) rfl rfl ?_
  refine h_lv (lv' := [some (.ref (gO' Y 5)), none, some (.int (zI r9)), some (.int (zI r17)), some (.int (zI r17)), some (.int (zI 0)), none]) ⟨rfl, rfl, rfl, rfl, rfl, trivial⟩ ?_
  obtain ⟨m25, h26⟩ := h24
  exact cl_Coder_variables_32 hC hr ih  m25 _ _ _ _ _ _ _ R13 R21 R21 (by decide) o22 hZ23 h26
theorem dX1_section_0 : decode cX1_section 0 = .ok (.aload_n 0, 1) := by decide +kernel
theorem dX1_section_1 : decode cX1_section 1 = .ok (.getfield 46, 3) := by decide +kernel
theorem dX1_section_4 : decode cX1_section 4 = .ok (.istore_n 2, 1) := by decide +kernel
theorem dX1_section_5 : decode cX1_section 5 = .ok (.aload_n 0, 1) := by decide +kernel
theorem dX1_section_6 : decode cX1_section 6 = .ok (.getfield 78, 3) := by decide +kernel
theorem dX1_section_9 : decode cX1_section 9 = .ok (.invokevirtual 182, 3) := by decide +kernel
theorem dX1_section_12 : decode cX1_section 12 = .ok (.aload_n 0, 1) := by decide +kernel
theorem dX1_section_13 : decode cX1_section 13 = .ok (.getfield 65, 3) := by decide +kernel
theorem dX1_section_16 : decode cX1_section 16 = .ok (.iload_n 1, 1) := by decide +kernel
theorem dX1_section_17 : decode cX1_section 17 = .ok (.invokevirtual 126, 3) := by decide +kernel
theorem dX1_section_20 : decode cX1_section 20 = .ok (.istore_n 3, 1) := by decide +kernel
theorem dX1_section_21 : decode cX1_section 21 = .ok (.iconst 0, 1) := by decide +kernel
theorem dX1_section_22 : decode cX1_section 22 = .ok (.istore 4, 2) := by decide +kernel
theorem dX1_section_24 : decode cX1_section 24 = .ok (.iload 4, 2) := by decide +kernel
theorem dX1_section_26 : decode cX1_section 26 = .ok (.ldc 11, 2) := by decide +kernel
theorem dX1_section_28 : decode cX1_section 28 = .ok (.if_icmp .ge 94, 3) := by decide +kernel
theorem dX1_section_31 : decode cX1_section 31 = .ok (.iload_n 3, 1) := by decide +kernel
theorem dX1_section_32 : decode cX1_section 32 = .ok (.ifCond .eq 90, 3) := by decide +kernel
theorem dX1_section_35 : decode cX1_section 35 = .ok (.aload_n 0, 1) := by decide +kernel
theorem dX1_section_36 : decode cX1_section 36 = .ok (.getfield 65, 3) := by decide +kernel
theorem dX1_section_39 : decode cX1_section 39 = .ok (.iload_n 3, 1) := by decide +kernel
theorem dX1_section_40 : decode cX1_section 40 = .ok (.invokevirtual 121, 3) := by decide +kernel
theorem dX1_section_43 : decode cX1_section 43 = .ok (.bipush 99, 2) := by decide +kernel
theorem dX1_section_45 : decode cX1_section 45 = .ok (.if_icmp .ne 62, 3) := by decide +kernel
theorem dX1_section_48 : decode cX1_section 48 = .ok (.aload_n 0, 1) := by decide +kernel
theorem dX1_section_49 : decode cX1_section 49 = .ok (.getfield 65, 3) := by decide +kernel
theorem dX1_section_52 : decode cX1_section 52 = .ok (.iload_n 3, 1) := by decide +kernel
theorem dX1_section_53 : decode cX1_section 53 = .ok (.aload_n 0, 1) := by decide +kernel
theorem dX1_section_54 : decode cX1_section 54 = .ok (.getfield 15, 3) := by decide +kernel
theorem dX1_section_57 : decode cX1_section 57 = .ok (.invokevirtual 103, 3) := by decide +kernel
theorem dX1_section_60 : decode cX1_section 60 = .ok (.invokevirtual 214, 3) := by decide +kernel
theorem dX1_section_63 : decode cX1_section 63 = .ok (.aload_n 0, 1) := by decide +kernel
theorem dX1_section_64 : decode cX1_section 64 = .ok (.getfield 78, 3) := by decide +kernel
theorem dX1_section_67 : decode cX1_section 67 = .ok (.aload_n 0, 1) := by decide +kernel
theorem dX1_section_68 : decode cX1_section 68 = .ok (.getfield 65, 3) := by decide +kernel
theorem dX1_section_71 : decode cX1_section 71 = .ok (.iload_n 3, 1) := by decide +kernel
theorem dX1_section_72 : decode cX1_section 72 = .ok (.invokevirtual 129, 3) := by decide +kernel
theorem dX1_section_75 : decode cX1_section 75 = .ok (.iconst 3, 1) := by decide +kernel
theorem dX1_section_76 : decode cX1_section 76 = .ok (.aload_n 0, 1) := by decide +kernel
theorem dX1_section_77 : decode cX1_section 77 = .ok (.getfield 15, 3) := by decide +kernel
theorem dX1_section_80 : decode cX1_section 80 = .ok (.invokevirtual 103, 3) := by decide +kernel
theorem dX1_section_83 : decode cX1_section 83 = .ok (.aload_n 0, 1) := by decide +kernel
theorem dX1_section_84 : decode cX1_section 84 = .ok (.getfield 55, 3) := by decide +kernel
theorem dX1_section_87 : decode cX1_section 87 = .ok (.aload_n 0, 1) := by decide +kernel
theorem dX1_section_88 : decode cX1_section 88 = .ok (.getfield 65, 3) := by decide +kernel
theorem dX1_section_91 : decode cX1_section 91 = .ok (.iload_n 3, 1) := by decide +kernel
theorem dX1_section_92 : decode cX1_section 92 = .ok (.invokevirtual 135, 3) := by decide +kernel
theorem dX1_section_95 : decode cX1_section 95 = .ok (.invokevirtual 138, 3) := by decide +kernel
theorem dX1_section_98 : decode cX1_section 98 = .ok (.pop, 1) := by decide +kernel
theorem dX1_section_99 : decode cX1_section 99 = .ok (.aload_n 0, 1) := by decide +kernel
theorem dX1_section_100 : decode cX1_section 100 = .ok (.getfield 15, 3) := by decide +kernel
theorem dX1_section_103 : decode cX1_section 103 = .ok (.iconst 0, 1) := by decide +kernel
theorem dX1_section_104 : decode cX1_section 104 = .ok (.invokevirtual 217, 3) := by decide +kernel
theorem dX1_section_107 : decode cX1_section 107 = .ok (.aload_n 0, 1) := by decide +kernel
theorem dX1_section_108 : decode cX1_section 108 = .ok (.getfield 65, 3) := by decide +kernel
theorem dX1_section_111 : decode cX1_section 111 = .ok (.iload_n 3, 1) := by decide +kernel
theorem dX1_section_112 : decode cX1_section 112 = .ok (.invokevirtual 142, 3) := by decide +kernel
theorem dX1_section_115 : decode cX1_section 115 = .ok (.istore_n 3, 1) := by decide +kernel
theorem dX1_section_116 : decode cX1_section 116 = .ok (.iinc 4 1, 3) := by decide +kernel
theorem dX1_section_119 : decode cX1_section 119 = .ok (.goto (-95), 3) := by decide +kernel
theorem dX1_section_122 : decode cX1_section 122 = .ok (.aload_n 0, 1) := by decide +kernel
theorem dX1_section_123 : decode cX1_section 123 = .ok (.getfield 65, 3) := by decide +kernel
theorem dX1_section_126 : decode cX1_section 126 = .ok (.iload_n 1, 1) := by decide +kernel
theorem dX1_section_127 : decode cX1_section 127 = .ok (.invokevirtual 126, 3) := by decide +kernel
theorem dX1_section_130 : decode cX1_section 130 = .ok (.istore_n 3, 1) := by decide +kernel
theorem dX1_section_131 : decode cX1_section 131 = .ok (.iconst 0, 1) := by decide +kernel
theorem dX1_section_132 : decode cX1_section 132 = .ok (.istore 4, 2) := by decide +kernel
theorem dX1_section_134 : decode cX1_section 134 = .ok (.iload 4, 2) := by decide +kernel
theorem dX1_section_136 : decode cX1_section 136 = .ok (.ldc 11, 2) := by decide +kernel
theorem dX1_section_138 : decode cX1_section 138 = .ok (.if_icmp .ge 167, 3) := by decide +kernel
theorem dX1_section_141 : decode cX1_section 141 = .ok (.iload_n 3, 1) := by decide +kernel
theorem dX1_section_142 : decode cX1_section 142 = .ok (.ifCond .eq 163, 3) := by decide +kernel
theorem dX1_section_145 : decode cX1_section 145 = .ok (.aload_n 0, 1) := by decide +kernel
theorem dX1_section_146 : decode cX1_section 146 = .ok (.getfield 65, 3) := by decide +kernel
theorem dX1_section_149 : decode cX1_section 149 = .ok (.iload_n 3, 1) := by decide +kernel
theorem dX1_section_150 : decode cX1_section 150 = .ok (.invokevirtual 121, 3) := by decide +kernel
theorem dX1_section_153 : decode cX1_section 153 = .ok (.lookupswitch 132 #[(43, 100), (44, 100), (53, 124), (54, 124), (55, 124), (94, 108), (97, 116), (99, 75)], 75) := by decide +kernel
theorem dX1_section_228 : decode cX1_section 228 = .ok (.aload_n 0, 1) := by decide +kernel
theorem dX1_section_229 : decode cX1_section 229 = .ok (.getfield 15, 3) := by decide +kernel
theorem dX1_section_232 : decode cX1_section 232 = .ok (.aload_n 0, 1) := by decide +kernel
theorem dX1_section_233 : decode cX1_section 233 = .ok (.getfield 65, 3) := by decide +kernel
theorem dX1_section_236 : decode cX1_section 236 = .ok (.iload_n 3, 1) := by decide +kernel
theorem dX1_section_237 : decode cX1_section 237 = .ok (.invokevirtual 132, 3) := by decide +kernel
theorem dX1_section_240 : decode cX1_section 240 = .ok (.aload_n 0, 1) := by decide +kernel
theorem dX1_section_241 : decode cX1_section 241 = .ok (.getfield 69, 3) := by decide +kernel
theorem dX1_section_244 : decode cX1_section 244 = .ok (.invokevirtual 220, 3) := by decide +kernel
theorem dX1_section_247 : decode cX1_section 247 = .ok (.invokevirtual 223, 3) := by decide +kernel
theorem dX1_section_250 : decode cX1_section 250 = .ok (.goto 40, 3) := by decide +kernel
theorem dX1_section_253 : decode cX1_section 253 = .ok (.aload_n 0, 1) := by decide +kernel
theorem dX1_section_254 : decode cX1_section 254 = .ok (.iload_n 3, 1) := by decide +kernel
theorem dX1_section_255 : decode cX1_section 255 = .ok (.invokevirtual 226, 3) := by decide +kernel
theorem dX1_section_258 : decode cX1_section 258 = .ok (.goto 32, 3) := by decide +kernel
theorem dX1_section_261 : decode cX1_section 261 = .ok (.aload_n 0, 1) := by decide +kernel
theorem dX1_section_262 : decode cX1_section 262 = .ok (.iload_n 3, 1) := by decide +kernel
theorem dX1_section_263 : decode cX1_section 263 = .ok (.invokevirtual 229, 3) := by decide +kernel
theorem dX1_section_266 : decode cX1_section 266 = .ok (.goto 24, 3) := by decide +kernel
theorem dX1_section_269 : decode cX1_section 269 = .ok (.aload_n 0, 1) := by decide +kernel
theorem dX1_section_270 : decode cX1_section 270 = .ok (.iload_n 3, 1) := by decide +kernel
theorem dX1_section_271 : decode cX1_section 271 = .ok (.invokevirtual 232, 3) := by decide +kernel
theorem dX1_section_274 : decode cX1_section 274 = .ok (.goto 16, 3) := by decide +kernel
theorem dX1_section_277 : decode cX1_section 277 = .ok (.aload_n 0, 1) := by decide +kernel
theorem dX1_section_278 : decode cX1_section 278 = .ok (.iload_n 3, 1) := by decide +kernel
theorem dX1_section_279 : decode cX1_section 279 = .ok (.invokevirtual 235, 3) := by decide +kernel
theorem dX1_section_282 : decode cX1_section 282 = .ok (.goto 8, 3) := by decide +kernel
theorem dX1_section_285 : decode cX1_section 285 = .ok (.aload_n 0, 1) := by decide +kernel
theorem dX1_section_286 : decode cX1_section 286 = .ok (.iload_n 3, 1) := by decide +kernel
theorem dX1_section_287 : decode cX1_section 287 = .ok (.invokevirtual 192, 3) := by decide +kernel
theorem dX1_section_290 : decode cX1_section 290 = .ok (.aload_n 0, 1) := by decide +kernel
theorem dX1_section_291 : decode cX1_section 291 = .ok (.getfield 65, 3) := by decide +kernel
theorem dX1_section_294 : decode cX1_section 294 = .ok (.iload_n 3, 1) := by decide +kernel
theorem dX1_section_295 : decode cX1_section 295 = .ok (.invokevirtual 142, 3) := by decide +kernel
theorem dX1_section_298 : decode cX1_section 298 = .ok (.istore_n 3, 1) := by decide +kernel
theorem dX1_section_299 : decode cX1_section 299 = .ok (.iinc 4 1, 3) := by decide +kernel
theorem dX1_section_302 : decode cX1_section 302 = .ok (.goto (-168), 3) := by decide +kernel
theorem dX1_section_305 : decode cX1_section 305 = .ok (.aload_n 0, 1) := by decide +kernel
theorem dX1_section_306 : decode cX1_section 306 = .ok (.getfield 78, 3) := by decide +kernel
theorem dX1_section_309 : decode cX1_section 309 = .ok (.invokevirtual 195, 3) := by decide +kernel
theorem dX1_section_312 : decode cX1_section 312 = .ok (.aload_n 0, 1) := by decide +kernel
theorem dX1_section_313 : decode cX1_section 313 = .ok (.iload_n 2, 1) := by decide +kernel
theorem dX1_section_314 : decode cX1_section 314 = .ok (.putfield 46, 3) := by decide +kernel
theorem dX1_section_317 : decode cX1_section 317 = .ok (.return_, 1) := by decide +kernel
def wc_Coder_section_290 (rec : Nat → Int → Int → Int → cS → (Int → cS → Prop) → Prop) (Q : cS → Prop) (k134 : cS → Int → Int → Int → Prop) (A0 : cS) (x2 : Int) (x3 : Int) (x4 : Int) : Prop :=
  wc_Tree_next A0 x3 (fun r1 A2 => (zR (x4 + 1)) ∧ k134 A2 x2 r1 (x4 + 1))
def wc_Coder_section_134B (rec : Nat → Int → Int → Int → cS → (Int → cS → Prop) → Prop) (Q : cS → Prop) (k134 : cS → Int → Int → Int → Prop) (A0 : cS) (x2 : Int) (x3 : Int) (x4 : Int) : Prop :=
  ((1000000 ≤ x4 → wc_Scope_close A0  (fun A4 => Q (ypv A4 19 x2))) ∧ (¬ 1000000 ≤ x4 → ((x3 = 0 → wc_Scope_close A0  (fun A26 => Q (ypv A26 19 x2))) ∧ (¬ x3 = 0 → wc_Tree_kind A0 x3 (fun r45 A46 => (((r45 = 43 ∨ r45 = 44) → wc_Coder_entrance A46 x3 (fun A57 => wc_Coder_section_290 rec Q k134 A57 x2 x3 x4)) ∧ ((r45 = 53 ∨ r45 = 54 ∨ r45 = 55) → wc_Coder_definitions A46 x3 (fun A68 => wc_Coder_section_290 rec Q k134 A68 x2 x3 x4)) ∧ ((r45 = 94) → rec 0 x3 0 0 A46 (fun _ A79 => wc_Coder_section_290 rec Q k134 A79 x2 x3 x4)) ∧ ((r45 = 97) → rec 2 x3 0 0 A46 (fun _ A90 => wc_Coder_section_290 rec Q k134 A90 x2 x3 x4)) ∧ ((r45 = 99) → wc_Tree_extra A46 x3 (fun r100 A101 => wc_Program_here A101  (fun r108 A109 => wc_Coder_section_290 rec Q k134 (yset A109 24 r100 r108) x2 x3 x4))) ∧ (¬ (r45 = 43 ∨ r45 = 44) → ¬ (r45 = 53 ∨ r45 = 54 ∨ r45 = 55) → ¬ (r45 = 94) → ¬ (r45 = 97) → ¬ (r45 = 99) → rec 4 x3 0 0 A46 (fun _ A122 => wc_Coder_section_290 rec Q k134 A122 x2 x3 x4))))))))
def wc_Coder_section_134 (rec : Nat → Int → Int → Int → cS → (Int → cS → Prop) → Prop) (Q : cS → Prop)  : Nat → cS → Int → Int → Int → Prop
  | 0 => fun _ _ _ _ => False
  | m + 1 => fun A0 x2 x3 x4 => wc_Coder_section_134B rec Q  (wc_Coder_section_134 rec Q  m) A0 x2 x3 x4
def wc_Coder_section_24B (rec : Nat → Int → Int → Int → cS → (Int → cS → Prop) → Prop) (Q : cS → Prop) (k24 : cS → Int → Int → Int → Int → Prop) (A0 : cS) (x1 : Int) (x2 : Int) (x3 : Int) (x4 : Int) : Prop :=
  ((1000000 ≤ x4 → wc_Tree_first A0 x1 (fun r3 A4 => ∃ n, wc_Coder_section_134 rec Q  n A4 x2 r3 0)) ∧ (¬ 1000000 ≤ x4 → ((x3 = 0 → wc_Tree_first A0 x1 (fun r16 A17 => ∃ n, wc_Coder_section_134 rec Q  n A17 x2 r16 0)) ∧ (¬ x3 = 0 → wc_Tree_kind A0 x3 (fun r27 A28 => ((¬ r27 = 99 → wc_Tree_next A28 x3 (fun r37 A38 => (zR (x4 + 1)) ∧ k24 A38 x1 x2 r37 (x4 + 1))) ∧ (r27 = 99 → wc_Tree_setExtra A28 x3 ((yz A28 24 : Nat) : Int) (fun A49 => wc_Tree_data A49 x3 (fun r56 A57 => wc_Tree_place A57 x3 (fun r64 A65 => wc_Scope_declare A65 r56 3 ((yz A57 24 : Nat) : Int) (yv A57 22) r64 (fun r72 A73 => ((yz A73 24) < 3000) ∧ wc_Tree_next (yadd A73 24 0) x3 (fun r86 A87 => (zR (x4 + 1)) ∧ k24 A87 x1 x2 r86 (x4 + 1)))))))))))))
def wc_Coder_section_24 (rec : Nat → Int → Int → Int → cS → (Int → cS → Prop) → Prop) (Q : cS → Prop)  : Nat → cS → Int → Int → Int → Int → Prop
  | 0 => fun _ _ _ _ _ => False
  | m + 1 => fun A0 x1 x2 x3 x4 => wc_Coder_section_24B rec Q  (wc_Coder_section_24 rec Q  m) A0 x1 x2 x3 x4
def wc_Coder_section (rec : Nat → Int → Int → Int → cS → (Int → cS → Prop) → Prop) (A0 : cS) (a0 : Int) (Q : cS → Prop) : Prop :=
  wc_Scope_open A0  (fun A2 => wc_Tree_first A2 a0 (fun r9 A10 => ∃ n, wc_Coder_section_24 rec Q  n A10 a0 (yv A0 19) r9 0))
set_option maxHeartbeats 4000000 in
set_option maxRecDepth 100000 in
theorem cj_Coder_section_290 {X : gX} {d : gD} {b : Nat} {Y : gYt} {c : Nat × Nat} {F0 : gM} {S0 : gSt} {mc ms : Nat} {rec : Nat → Int → Int → Int → cS → (Int → cS → Prop) → Prop} {lv0 : Nat} (hC : gC RX1 cX1_section 5 none "section" (gR (630 + lv0 + 1) mc ms) d b X) (hr : hRm X b) (ih : yOkC X.la d b Y c lv0 rec) {Q : cS → Prop} {k134 : cS → Int → Int → Int → Prop} (hk134 : ∀ (u : hU) (S : gSt) (A0 : cS) (x2 : Int) (x3 : Int) (x4 : Int), zR x2 → zR x3 → zR x4 → yOk X b u → yZ d b Y c F0 S0 u S A0 → k134 A0 x2 x3 x4 → yG X d b (yQv X d b Y c F0 S0 mc ms Q) u 134 [some (.ref (gO' Y 5)), none, some (.int (zI x2)), some (.int (zI x3)), some (.int (zI x4))] []) {u : hU} {S : gSt} {A0 : cS} {x2 : Int} {x3 : Int} {x4 : Int} (Rx2 : zR x2) (Rx3 : zR x3) (Rx4 : zR x4) (ho : yOk X b u) (hZ : yZ d b Y c F0 S0 u S A0) (hw : wc_Coder_section_290 rec Q k134 A0 x2 x3 x4) : yG X d b (yQv X d b Y c F0 S0 mc ms Q) u 290 [some (.ref (gO' Y 5)), none, some (.int (zI x2)), some (.int (zI x3)), some (.int (zI x4))] [] := by
  unfold wc_Coder_section_290 at hw
  refine h_aload_n hC dX1_section_290 rfl ?_
  refine h_get hC fl_X1_65 (hZ.w.o 5 (by decide)) rfl dX1_section_291 ?_
  refine h_iload_n hC dX1_section_294 rfl ?_
  refine yr_callVi (As := [.int (zI x3)]) hC hr ho hZ rfl (hZ.w.o 2 (by decide)) (cm_Tree_next X.la d b Rx3 hZ.rs hw) cl_X1_142 rfl rfl (Nat.le_of_ble_eq_true rfl) (hFr_of (by omega) (Nat.le_of_ble_eq_true rfl)) dX1_section_295 (fun r1 A2 u3 S4 R5 o6 hZ7 h8 => ?_)
  refine h_istore_n (lv' := [some (.ref (gO' Y 5)), none, some (.int (zI x2)), some (.int (zI r1)), some (.int (zI x4))]) hC dX1_section_298 (Nat.le_of_ble_eq_true rfl) rfl rfl ?_
  refine yr_iinc (x := x4) (lv' := [some (.ref (gO' Y 5)), none, some (.int (zI x2)), some (.int (zI r1)), some (.int (zI (x4 + 1)))]) hC dX1_section_299 rfl rfl rfl ?_
  refine h_goto (tgt := 134) hC dX1_section_302 (by decide) ?_
  obtain ⟨o9, h10⟩ := h8
  exact hk134 _ _ _ _ _ _ Rx2 R5 o9 o6 hZ7 h10
set_option maxHeartbeats 4000000 in
set_option maxRecDepth 100000 in
theorem cb_Coder_section_134 {X : gX} {d : gD} {b : Nat} {Y : gYt} {c : Nat × Nat} {F0 : gM} {S0 : gSt} {mc ms : Nat} {rec : Nat → Int → Int → Int → cS → (Int → cS → Prop) → Prop} {lv0 : Nat} (hC : gC RX1 cX1_section 5 none "section" (gR (630 + lv0 + 1) mc ms) d b X) (hr : hRm X b) (ih : yOkC X.la d b Y c lv0 rec) {Q : cS → Prop} {k134 : cS → Int → Int → Int → Prop} (hk134 : ∀ (u : hU) (S : gSt) (A0 : cS) (x2 : Int) (x3 : Int) (x4 : Int), zR x2 → zR x3 → zR x4 → yOk X b u → yZ d b Y c F0 S0 u S A0 → k134 A0 x2 x3 x4 → yG X d b (yQv X d b Y c F0 S0 mc ms Q) u 134 [some (.ref (gO' Y 5)), none, some (.int (zI x2)), some (.int (zI x3)), some (.int (zI x4))] []) {u : hU} {S : gSt} {A0 : cS} {x2 : Int} {x3 : Int} {x4 : Int} (Rx2 : zR x2) (Rx3 : zR x3) (Rx4 : zR x4) (ho : yOk X b u) (hZ : yZ d b Y c F0 S0 u S A0) (hw : wc_Coder_section_134B rec Q k134 A0 x2 x3 x4) : yG X d b (yQv X d b Y c F0 S0 mc ms Q) u 134 [some (.ref (gO' Y 5)), none, some (.int (zI x2)), some (.int (zI x3)), some (.int (zI x4))] [] := by
  unfold wc_Coder_section_134B at hw
  refine h_iload hC dX1_section_134 rfl ?_
  refine yr_ldc (e := 1000000) hC dX1_section_136 kw_576 (by decide) ?_
  refine yr_icmp_ge (tgt := 305) hC Rx4 (by decide) dX1_section_138 (by decide) (fun c1 => ?_) (fun c1 => ?_)
  · have h2 := hw.1 c1
    refine h_aload_n hC dX1_section_305 rfl ?_
    refine h_get hC fl_X1_78 (hZ.w.o 5 (by decide)) rfl dX1_section_306 ?_
    refine yr_callVv (As := []) hC hr ho hZ rfl (hZ.w.o 8 (by decide)) (cm_Scope_close X.la d b  hZ.rs h2) cl_X1_195 rfl rfl (Nat.le_of_ble_eq_true rfl) (hFr_of (by omega) (Nat.le_of_ble_eq_true rfl)) dX1_section_309 (fun A4 u5 S6 o8 hZ9 h10 => ?_)
    refine h_aload_n hC dX1_section_312 rfl ?_
    refine h_iload_n hC dX1_section_313 rfl ?_
    refine hi_putx (i := 5) (kx := 19) hC hZ9.hi (by decide) fl_X1_46 rfl rfl rfl (Nat.le_of_ble_eq_true rfl) rfl gsame_19 (fun q => absurd q (by decide)) dX1_section_314 (fun F11 S12 I13 K14 s15 v16 p17 => ?_)
    have hZ18 := hZ9.put I13 K14 s15 v16 Rx2 rfl
    clear I13 K14 s15 v16 p17
    refine yr_nu o8 hZ18 (fun u19 o20 hZ21 => ?_)
    exact yr_vret hC hr o20 hZ21 h10 dX1_section_317
  · have h22 := hw.2 c1
    refine h_iload_n hC dX1_section_141 rfl ?_
    refine yr_if_eq (tgt := 305) hC Rx3 dX1_section_142 (by decide) (fun c23 => ?_) (fun c23 => ?_)
    · have h24 := h22.1 c23
      refine h_aload_n hC dX1_section_305 rfl ?_
      refine h_get hC fl_X1_78 (hZ.w.o 5 (by decide)) rfl dX1_section_306 ?_
      refine yr_callVv (As := []) hC hr ho hZ rfl (hZ.w.o 8 (by decide)) (cm_Scope_close X.la d b  hZ.rs h24) cl_X1_195 rfl rfl (Nat.le_of_ble_eq_true rfl) (hFr_of (by omega) (Nat.le_of_ble_eq_true rfl)) dX1_section_309 (fun A26 u27 S28 o30 hZ31 h32 => ?_)
      refine h_aload_n hC dX1_section_312 rfl ?_
      refine h_iload_n hC dX1_section_313 rfl ?_
      refine hi_putx (i := 5) (kx := 19) hC hZ31.hi (by decide) fl_X1_46 rfl rfl rfl (Nat.le_of_ble_eq_true rfl) rfl gsame_19 (fun q => absurd q (by decide)) dX1_section_314 (fun F33 S34 I35 K36 s37 v38 p39 => ?_)
      have hZ40 := hZ31.put I35 K36 s37 v38 Rx2 rfl
      clear I35 K36 s37 v38 p39
      refine yr_nu o30 hZ40 (fun u41 o42 hZ43 => ?_)
      exact yr_vret hC hr o42 hZ43 h32 dX1_section_317
    · have h44 := h22.2 c23
      refine h_aload_n hC dX1_section_145 rfl ?_
      refine h_get hC fl_X1_65 (hZ.w.o 5 (by decide)) rfl dX1_section_146 ?_
      refine h_iload_n hC dX1_section_149 rfl ?_
      refine yr_callVi (As := [.int (zI x3)]) hC hr ho hZ rfl (hZ.w.o 2 (by decide)) (cm_Tree_kind X.la d b Rx3 hZ.rs h44) cl_X1_121 rfl rfl (Nat.le_of_ble_eq_true rfl) (hFr_of (by omega) (Nat.le_of_ble_eq_true rfl)) dX1_section_150 (fun r45 A46 u47 S48 R49 o50 hZ51 h52 => ?_)
      by_cases g53 : r45 = 43 ∨ r45 = 44
      · have h55 := (h52.1) g53
        have T54 : yG X d b (yQv X d b Y c F0 S0 mc ms Q) u47 253 [some (.ref (gO' Y 5)), none, some (.int (zI x2)), some (.int (zI x3)), some (.int (zI x4))] [] := by
          refine h_aload_n hC dX1_section_253 rfl ?_
          refine h_iload_n hC dX1_section_254 rfl ?_
          refine yr_callVv (As := [.int (zI x3)]) hC hr o50 hZ51 rfl (hZ51.w.o 5 (by decide)) (cm_Coder_entrance X.la d b Rx3 hZ51.rs h55) cl_X1_226 rfl rfl (Nat.le_of_ble_eq_true rfl) (hFr_of (by omega) (Nat.le_of_ble_eq_true rfl)) dX1_section_255 (fun A57 u58 S59 o61 hZ62 h63 => ?_)
          refine h_goto (tgt := 290) hC dX1_section_258 (by decide) ?_
          exact cj_Coder_section_290 hC hr ih hk134 Rx2 Rx3 Rx4 o61 hZ62 h63
        clear h55
        rcases g53 with e1 | e1
        · exact zr_lokAt (v := 43) hC dX1_section_153 R49 (by decide) e1 rfl (by decide) T54
        · exact zr_lokAt (v := 44) hC dX1_section_153 R49 (by decide) e1 rfl (by decide) T54
      · skip
        by_cases g64 : r45 = 53 ∨ r45 = 54 ∨ r45 = 55
        · have h66 := (h52.2.1) g64
          have T65 : yG X d b (yQv X d b Y c F0 S0 mc ms Q) u47 277 [some (.ref (gO' Y 5)), none, some (.int (zI x2)), some (.int (zI x3)), some (.int (zI x4))] [] := by
            refine h_aload_n hC dX1_section_277 rfl ?_
            refine h_iload_n hC dX1_section_278 rfl ?_
            refine yr_callVv (As := [.int (zI x3)]) hC hr o50 hZ51 rfl (hZ51.w.o 5 (by decide)) (cm_Coder_definitions X.la d b Rx3 hZ51.rs h66) cl_X1_235 rfl rfl (Nat.le_of_ble_eq_true rfl) (hFr_of (by omega) (Nat.le_of_ble_eq_true rfl)) dX1_section_279 (fun A68 u69 S70 o72 hZ73 h74 => ?_)
            refine h_goto (tgt := 290) hC dX1_section_282 (by decide) ?_
            exact cj_Coder_section_290 hC hr ih hk134 Rx2 Rx3 Rx4 o72 hZ73 h74
          clear h66
          rcases g64 with e1 | e1 | e1
          · exact zr_lokAt (v := 53) hC dX1_section_153 R49 (by decide) e1 rfl (by decide) T65
          · exact zr_lokAt (v := 54) hC dX1_section_153 R49 (by decide) e1 rfl (by decide) T65
          · exact zr_lokAt (v := 55) hC dX1_section_153 R49 (by decide) e1 rfl (by decide) T65
        · skip
          by_cases g75 : r45 = 94
          · have h77 := (h52.2.2.1) g75
            have T76 : yG X d b (yQv X d b Y c F0 S0 mc ms Q) u47 261 [some (.ref (gO' Y 5)), none, some (.int (zI x2)), some (.int (zI x3)), some (.int (zI x4))] [] := by
              refine h_aload_n hC dX1_section_261 rfl ?_
              refine h_iload_n hC dX1_section_262 rfl ?_
              refine yr_callVv (As := [.int (zI x3)]) hC hr o50 hZ51 rfl (hZ51.w.o 5 (by decide)) (ih.1 Rx3 hZ51.rs h77) cl_X1_229 rfl rfl (Nat.le_of_ble_eq_true rfl) (hFr_of (by omega) (Nat.le_of_ble_eq_true rfl)) dX1_section_263 (fun A79 u80 S81 o83 hZ84 h85 => ?_)
              refine h_goto (tgt := 290) hC dX1_section_266 (by decide) ?_
              exact cj_Coder_section_290 hC hr ih hk134 Rx2 Rx3 Rx4 o83 hZ84 h85
            clear h77
            exact yr_lokAt (v := 94) hC dX1_section_153 R49 (by decide) g75 rfl (by decide) T76
          · skip
            by_cases g86 : r45 = 97
            · have h88 := (h52.2.2.2.1) g86
              have T87 : yG X d b (yQv X d b Y c F0 S0 mc ms Q) u47 269 [some (.ref (gO' Y 5)), none, some (.int (zI x2)), some (.int (zI x3)), some (.int (zI x4))] [] := by
                refine h_aload_n hC dX1_section_269 rfl ?_
                refine h_iload_n hC dX1_section_270 rfl ?_
                refine yr_callVv (As := [.int (zI x3)]) hC hr o50 hZ51 rfl (hZ51.w.o 5 (by decide)) (ih.2.2.1 Rx3 hZ51.rs h88) cl_X1_232 rfl rfl (Nat.le_of_ble_eq_true rfl) (hFr_of (by omega) (Nat.le_of_ble_eq_true rfl)) dX1_section_271 (fun A90 u91 S92 o94 hZ95 h96 => ?_)
                refine h_goto (tgt := 290) hC dX1_section_274 (by decide) ?_
                exact cj_Coder_section_290 hC hr ih hk134 Rx2 Rx3 Rx4 o94 hZ95 h96
              clear h88
              exact yr_lokAt (v := 97) hC dX1_section_153 R49 (by decide) g86 rfl (by decide) T87
            · skip
              by_cases g97 : r45 = 99
              · have h99 := (h52.2.2.2.2.1) g97
                have T98 : yG X d b (yQv X d b Y c F0 S0 mc ms Q) u47 228 [some (.ref (gO' Y 5)), none, some (.int (zI x2)), some (.int (zI x3)), some (.int (zI x4))] [] := by
                  refine h_aload_n hC dX1_section_228 rfl ?_
                  refine h_get hC fl_X1_15 (hZ51.w.o 5 (by decide)) rfl dX1_section_229 ?_
                  refine h_aload_n hC dX1_section_232 rfl ?_
                  refine h_get hC fl_X1_65 (hZ51.w.o 5 (by decide)) rfl dX1_section_233 ?_
                  refine h_iload_n hC dX1_section_236 rfl ?_
                  refine yr_callVi (As := [.int (zI x3)]) hC hr o50 hZ51 rfl (hZ51.w.o 2 (by decide)) (cm_Tree_extra X.la d b Rx3 hZ51.rs h99) cl_X1_132 rfl rfl (Nat.le_of_ble_eq_true rfl) (hFr_of (by omega) (Nat.le_of_ble_eq_true rfl)) dX1_section_237 (fun r100 A101 u102 S103 R104 o105 hZ106 h107 => ?_)
                  refine h_aload_n hC dX1_section_240 rfl ?_
                  refine h_get hC fl_X1_69 (hZ106.w.o 5 (by decide)) rfl dX1_section_241 ?_
                  refine yr_callVi (As := []) hC hr o105 hZ106 rfl (hZ106.w.o 1 (by decide)) (cm_Program_here X.la d b  hZ106.rs h107) cl_X1_220 rfl rfl (Nat.le_of_ble_eq_true rfl) (hFr_of (by omega) (Nat.le_of_ble_eq_true rfl)) dX1_section_244 (fun r108 A109 u110 S111 R112 o113 hZ114 h115 => ?_)
                  refine yr_set (j := 24) hC hr o113 hZ114 (by decide) R104 R112 cl_X1_223 rfl (Nat.le_of_ble_eq_true rfl) (hFr_of (by omega) (Nat.le_of_ble_eq_true rfl)) dX1_section_247 (fun u116 S117 o118 hZ119 => ?_)
                  refine h_goto (tgt := 290) hC dX1_section_250 (by decide) ?_
                  exact cj_Coder_section_290 hC hr ih hk134 Rx2 Rx3 Rx4 o118 hZ119 h115
                clear h99
                exact yr_lokAt (v := 99) hC dX1_section_153 R49 (by decide) g97 rfl (by decide) T98
              · skip
                have h120 := h52.2.2.2.2.2 g53 g64 g75 g86 g97
                refine yr_lokD (tgt := 285) hC dX1_section_153 R49 (by decide) (List.forall_mem_cons.mpr ⟨(fun q => g53 (Or.inl q)), List.forall_mem_cons.mpr ⟨(fun q => g53 (Or.inr (q))), List.forall_mem_cons.mpr ⟨(fun q => g64 (Or.inl q)), List.forall_mem_cons.mpr ⟨(fun q => g64 (Or.inr (Or.inl q))), List.forall_mem_cons.mpr ⟨(fun q => g64 (Or.inr (Or.inr (q)))), List.forall_mem_cons.mpr ⟨(fun q => g75 (q)), List.forall_mem_cons.mpr ⟨(fun q => g86 (q)), List.forall_mem_cons.mpr ⟨(fun q => g97 (q)), fun q hq => absurd hq List.not_mem_nil⟩⟩⟩⟩⟩⟩⟩⟩) (by decide) ?_
                refine h_aload_n hC dX1_section_285 rfl ?_
                refine h_iload_n hC dX1_section_286 rfl ?_
                refine yr_callVv (As := [.int (zI x3)]) hC hr o50 hZ51 rfl (hZ51.w.o 5 (by decide)) (ih.2.2.2.2.1 Rx3 hZ51.rs h120) cl_X1_192 rfl rfl (Nat.le_of_ble_eq_true rfl) (hFr_of (by omega) (Nat.le_of_ble_eq_true rfl)) dX1_section_287 (fun A122 u123 S124 o126 hZ127 h128 => ?_)
                exact cj_Coder_section_290 hC hr ih hk134 Rx2 Rx3 Rx4 o126 hZ127 h128
theorem cl_Coder_section_134 {X : gX} {d : gD} {b : Nat} {Y : gYt} {c : Nat × Nat} {F0 : gM} {S0 : gSt} {mc ms : Nat} {rec : Nat → Int → Int → Int → cS → (Int → cS → Prop) → Prop} {lv0 : Nat} (hC : gC RX1 cX1_section 5 none "section" (gR (630 + lv0 + 1) mc ms) d b X) (hr : hRm X b) (ih : yOkC X.la d b Y c lv0 rec) {Q : cS → Prop}   : ∀ (m : Nat) (u : hU) (S : gSt) (A0 : cS) (x2 : Int) (x3 : Int) (x4 : Int), zR x2 → zR x3 → zR x4 → yOk X b u → yZ d b Y c F0 S0 u S A0 → wc_Coder_section_134 rec Q  m A0 x2 x3 x4 → yG X d b (yQv X d b Y c F0 S0 mc ms Q) u 134 [some (.ref (gO' Y 5)), none, some (.int (zI x2)), some (.int (zI x3)), some (.int (zI x4))] [] := by
  intro m
  induction m with
  | zero => intro u S A0 x2 x3 x4 Rx2 Rx3 Rx4 ho hZ hw; exact False.elim hw
  | succ m ihm => intro u S A0 x2 x3 x4 Rx2 Rx3 Rx4 ho hZ hw; exact cb_Coder_section_134 hC hr ih  ihm Rx2 Rx3 Rx4 ho hZ hw
set_option maxHeartbeats 4000000 in
set_option maxRecDepth 100000 in
theorem cb_Coder_section_24 {X : gX} {d : gD} {b : Nat} {Y : gYt} {c : Nat × Nat} {F0 : gM} {S0 : gSt} {mc ms : Nat} {rec : Nat → Int → Int → Int → cS → (Int → cS → Prop) → Prop} {lv0 : Nat} (hC : gC RX1 cX1_section 5 none "section" (gR (630 + lv0 + 1) mc ms) d b X) (hr : hRm X b) (ih : yOkC X.la d b Y c lv0 rec) {Q : cS → Prop} {k24 : cS → Int → Int → Int → Int → Prop} (hk24 : ∀ (u : hU) (S : gSt) (A0 : cS) (x1 : Int) (x2 : Int) (x3 : Int) (x4 : Int), zR x1 → zR x2 → zR x3 → zR x4 → yOk X b u → yZ d b Y c F0 S0 u S A0 → k24 A0 x1 x2 x3 x4 → yG X d b (yQv X d b Y c F0 S0 mc ms Q) u 24 [some (.ref (gO' Y 5)), some (.int (zI x1)), some (.int (zI x2)), some (.int (zI x3)), some (.int (zI x4))] []) {u : hU} {S : gSt} {A0 : cS} {x1 : Int} {x2 : Int} {x3 : Int} {x4 : Int} (Rx1 : zR x1) (Rx2 : zR x2) (Rx3 : zR x3) (Rx4 : zR x4) (ho : yOk X b u) (hZ : yZ d b Y c F0 S0 u S A0) (hw : wc_Coder_section_24B rec Q k24 A0 x1 x2 x3 x4) : yG X d b (yQv X d b Y c F0 S0 mc ms Q) u 24 [some (.ref (gO' Y 5)), some (.int (zI x1)), some (.int (zI x2)), some (.int (zI x3)), some (.int (zI x4))] [] := by
  unfold wc_Coder_section_24B at hw
  refine h_iload hC dX1_section_24 rfl ?_
  refine yr_ldc (e := 1000000) hC dX1_section_26 kw_576 (by decide) ?_
  refine yr_icmp_ge (tgt := 122) hC Rx4 (by decide) dX1_section_28 (by decide) (fun c1 => ?_) (fun c1 => ?_)
  · have h2 := hw.1 c1
    refine h_aload_n hC dX1_section_122 rfl ?_
    refine h_get hC fl_X1_65 (hZ.w.o 5 (by decide)) rfl dX1_section_123 ?_
    refine h_iload_n hC dX1_section_126 rfl ?_
    refine yr_callVi (As := [.int (zI x1)]) hC hr ho hZ rfl (hZ.w.o 2 (by decide)) (cm_Tree_first X.la d b Rx1 hZ.rs h2) cl_X1_126 rfl rfl (Nat.le_of_ble_eq_true rfl) (hFr_of (by omega) (Nat.le_of_ble_eq_true rfl)) dX1_section_127 (fun r3 A4 u5 S6 R7 o8 hZ9 h10 => ?_)
    refine h_istore_n (lv' := [some (.ref (gO' Y 5)), some (.int (zI x1)), some (.int (zI x2)), some (.int (zI r3)), some (.int (zI x4))]) hC dX1_section_130 (Nat.le_of_ble_eq_true rfl) rfl rfl ?_
    refine h_iconst (v := zI 0) hC dX1_section_131 rfl ?_
    refine h_istore (lv' := [some (.ref (gO' Y 5)), some (.int (zI x1)), some (.int (zI x2)), some (.int (zI r3)), some (.int (zI 0))]) hC dX1_section_132 (Nat.le_of_ble_eq_true rfl) rfl rfl ?_
    refine h_lv (lv' := [some (.ref (gO' Y 5)), none, some (.int (zI x2)), some (.int (zI r3)), some (.int (zI 0))]) ⟨rfl, rfl, rfl, rfl, trivial⟩ ?_
    obtain ⟨m11, h12⟩ := h10
    exact cl_Coder_section_134 hC hr ih  m11 _ _ _ _ _ _ Rx2 R7 (by decide) o8 hZ9 h12
  · have h13 := hw.2 c1
    refine h_iload_n hC dX1_section_31 rfl ?_
    refine yr_if_eq (tgt := 122) hC Rx3 dX1_section_32 (by decide) (fun c14 => ?_) (fun c14 => ?_)
    · have h15 := h13.1 c14
      refine h_aload_n hC dX1_section_122 rfl ?_
      refine h_get hC fl_X1_65 (hZ.w.o 5 (by decide)) rfl dX1_section_123 ?_
      refine h_iload_n hC dX1_section_126 rfl ?_
      refine yr_callVi (As := [.int (zI x1)]) hC hr ho hZ rfl (hZ.w.o 2 (by decide)) (cm_Tree_first X.la d b Rx1 hZ.rs h15) cl_X1_126 rfl rfl (Nat.le_of_ble_eq_true rfl) (hFr_of (by omega) (Nat.le_of_ble_eq_true rfl)) dX1_section_127 (fun r16 A17 u18 S19 R20 o21 hZ22 h23 => ?_)
      refine h_istore_n (lv' := [some (.ref (gO' Y 5)), some (.int (zI x1)), some (.int (zI x2)), some (.int (zI r16)), some (.int (zI x4))]) hC dX1_section_130 (Nat.le_of_ble_eq_true rfl) rfl rfl ?_
      refine h_iconst (v := zI 0) hC dX1_section_131 rfl ?_
      refine h_istore (lv' := [some (.ref (gO' Y 5)), some (.int (zI x1)), some (.int (zI x2)), some (.int (zI r16)), some (.int (zI 0))]) hC dX1_section_132 (Nat.le_of_ble_eq_true rfl) rfl rfl ?_
      refine h_lv (lv' := [some (.ref (gO' Y 5)), none, some (.int (zI x2)), some (.int (zI r16)), some (.int (zI 0))]) ⟨rfl, rfl, rfl, rfl, trivial⟩ ?_
      obtain ⟨m24, h25⟩ := h23
      exact cl_Coder_section_134 hC hr ih  m24 _ _ _ _ _ _ Rx2 R20 (by decide) o21 hZ22 h25
    · have h26 := h13.2 c14
      refine h_aload_n hC dX1_section_35 rfl ?_
      refine h_get hC fl_X1_65 (hZ.w.o 5 (by decide)) rfl dX1_section_36 ?_
      refine h_iload_n hC dX1_section_39 rfl ?_
      refine yr_callVi (As := [.int (zI x3)]) hC hr ho hZ rfl (hZ.w.o 2 (by decide)) (cm_Tree_kind X.la d b Rx3 hZ.rs h26) cl_X1_121 rfl rfl (Nat.le_of_ble_eq_true rfl) (hFr_of (by omega) (Nat.le_of_ble_eq_true rfl)) dX1_section_40 (fun r27 A28 u29 S30 R31 o32 hZ33 h34 => ?_)
      refine h_bipush (v := zI 99) hC dX1_section_43 rfl ?_
      refine yr_icmp_ne (tgt := 107) hC R31 (by decide) dX1_section_45 (by decide) (fun c35 => ?_) (fun c35 => ?_)
      · have h36 := h34.1 c35
        refine h_aload_n hC dX1_section_107 rfl ?_
        refine h_get hC fl_X1_65 (hZ33.w.o 5 (by decide)) rfl dX1_section_108 ?_
        refine h_iload_n hC dX1_section_111 rfl ?_
        refine yr_callVi (As := [.int (zI x3)]) hC hr o32 hZ33 rfl (hZ33.w.o 2 (by decide)) (cm_Tree_next X.la d b Rx3 hZ33.rs h36) cl_X1_142 rfl rfl (Nat.le_of_ble_eq_true rfl) (hFr_of (by omega) (Nat.le_of_ble_eq_true rfl)) dX1_section_112 (fun r37 A38 u39 S40 R41 o42 hZ43 h44 => ?_)
        refine h_istore_n (lv' := [some (.ref (gO' Y 5)), some (.int (zI x1)), some (.int (zI x2)), some (.int (zI r37)), some (.int (zI x4))]) hC dX1_section_115 (Nat.le_of_ble_eq_true rfl) rfl rfl ?_
        refine yr_iinc (x := x4) (lv' := [some (.ref (gO' Y 5)), some (.int (zI x1)), some (.int (zI x2)), some (.int (zI r37)), some (.int (zI (x4 + 1)))]) hC dX1_section_116 rfl rfl rfl ?_
        refine h_goto (tgt := 24) hC dX1_section_119 (by decide) ?_
        obtain ⟨o45, h46⟩ := h44
        exact hk24 _ _ _ _ _ _ _ Rx1 Rx2 R41 o45 o42 hZ43 h46
      · have h47 := h34.2 c35
        refine h_aload_n hC dX1_section_48 rfl ?_
        refine h_get hC fl_X1_65 (hZ33.w.o 5 (by decide)) rfl dX1_section_49 ?_
        refine h_iload_n hC dX1_section_52 rfl ?_
        refine h_aload_n hC dX1_section_53 rfl ?_
        refine h_get hC fl_X1_15 (hZ33.w.o 5 (by decide)) rfl dX1_section_54 ?_
        refine yr_size (j := 24) (e := ((yz A28 24 : Nat) : Int)) hC hr o32 hZ33 (by decide) rfl cl_X1_103 rfl (Nat.le_of_ble_eq_true rfl) (hFr_of (by omega) (Nat.le_of_ble_eq_true rfl)) dX1_section_57 ?_
        refine yr_callVv (As := [.int (zI x3), .int (zI ((yz A28 24 : Nat) : Int))]) hC hr o32 hZ33 rfl (hZ33.w.o 2 (by decide)) (cm_Tree_setExtra X.la d b Rx3 (hZ33.rz (j := 24) (by decide)) hZ33.rs h47) cl_X1_214 rfl rfl (Nat.le_of_ble_eq_true rfl) (hFr_of (by omega) (Nat.le_of_ble_eq_true rfl)) dX1_section_60 (fun A49 u50 S51 o53 hZ54 h55 => ?_)
        refine h_aload_n hC dX1_section_63 rfl ?_
        refine h_get hC fl_X1_78 (hZ54.w.o 5 (by decide)) rfl dX1_section_64 ?_
        refine h_aload_n hC dX1_section_67 rfl ?_
        refine h_get hC fl_X1_65 (hZ54.w.o 5 (by decide)) rfl dX1_section_68 ?_
        refine h_iload_n hC dX1_section_71 rfl ?_
        refine yr_callVi (As := [.int (zI x3)]) hC hr o53 hZ54 rfl (hZ54.w.o 2 (by decide)) (cm_Tree_data X.la d b Rx3 hZ54.rs h55) cl_X1_129 rfl rfl (Nat.le_of_ble_eq_true rfl) (hFr_of (by omega) (Nat.le_of_ble_eq_true rfl)) dX1_section_72 (fun r56 A57 u58 S59 R60 o61 hZ62 h63 => ?_)
        refine h_iconst (v := zI 3) hC dX1_section_75 rfl ?_
        refine h_aload_n hC dX1_section_76 rfl ?_
        refine h_get hC fl_X1_15 (hZ62.w.o 5 (by decide)) rfl dX1_section_77 ?_
        refine yr_size (j := 24) (e := ((yz A57 24 : Nat) : Int)) hC hr o61 hZ62 (by decide) rfl cl_X1_103 rfl (Nat.le_of_ble_eq_true rfl) (hFr_of (by omega) (Nat.le_of_ble_eq_true rfl)) dX1_section_80 ?_
        refine h_aload_n hC dX1_section_83 rfl ?_
        refine h_get hC fl_X1_55 (hZ62.w.o 5 (by decide)) rfl dX1_section_84 ?_
        refine yr_sv (e := (yv A57 22)) hZ62 22 rfl ?_
        refine h_aload_n hC dX1_section_87 rfl ?_
        refine h_get hC fl_X1_65 (hZ62.w.o 5 (by decide)) rfl dX1_section_88 ?_
        refine h_iload_n hC dX1_section_91 rfl ?_
        refine yr_callVi (As := [.int (zI x3)]) hC hr o61 hZ62 rfl (hZ62.w.o 2 (by decide)) (cm_Tree_place X.la d b Rx3 hZ62.rs h63) cl_X1_135 rfl rfl (Nat.le_of_ble_eq_true rfl) (hFr_of (by omega) (Nat.le_of_ble_eq_true rfl)) dX1_section_92 (fun r64 A65 u66 S67 R68 o69 hZ70 h71 => ?_)
        refine yr_callVi (As := [.int (zI r56), .int (zI 3), .int (zI ((yz A57 24 : Nat) : Int)), .int (zI (yv A57 22)), .int (zI r64)]) hC hr o69 hZ70 rfl (hZ70.w.o 8 (by decide)) (cm_Scope_declare X.la d b R60 (by decide) (hZ62.rz (j := 24) (by decide)) (hZ62.rv 22) R68 hZ70.rs h71) cl_X1_138 rfl rfl (Nat.le_of_ble_eq_true rfl) (hFr_of (by omega) (Nat.le_of_ble_eq_true rfl)) dX1_section_95 (fun r72 A73 u74 S75 R76 o77 hZ78 h79 => ?_)
        refine h_pop hC dX1_section_98 rfl ?_
        refine h_aload_n hC dX1_section_99 rfl ?_
        refine h_get hC fl_X1_15 (hZ78.w.o 5 (by decide)) rfl dX1_section_100 ?_
        refine h_iconst (v := zI 0) hC dX1_section_103 rfl ?_
        obtain ⟨o84, h85⟩ := h79
        refine yr_add (j := 24) hC hr o77 hZ78 (by decide) (by decide) (by decide) o84 cl_X1_217 rfl (Nat.le_of_ble_eq_true rfl) (hFr_of (by omega) (Nat.le_of_ble_eq_true rfl)) dX1_section_104 (fun u80 S81 o82 hZ83 => ?_)
        refine h_aload_n hC dX1_section_107 rfl ?_
        refine h_get hC fl_X1_65 (hZ83.w.o 5 (by decide)) rfl dX1_section_108 ?_
        refine h_iload_n hC dX1_section_111 rfl ?_
        refine yr_callVi (As := [.int (zI x3)]) hC hr o82 hZ83 rfl (hZ83.w.o 2 (by decide)) (cm_Tree_next X.la d b Rx3 hZ83.rs h85) cl_X1_142 rfl rfl (Nat.le_of_ble_eq_true rfl) (hFr_of (by omega) (Nat.le_of_ble_eq_true rfl)) dX1_section_112 (fun r86 A87 u88 S89 R90 o91 hZ92 h93 => ?_)
        refine h_istore_n (lv' := [some (.ref (gO' Y 5)), some (.int (zI x1)), some (.int (zI x2)), some (.int (zI r86)), some (.int (zI x4))]) hC dX1_section_115 (Nat.le_of_ble_eq_true rfl) rfl rfl ?_
        refine yr_iinc (x := x4) (lv' := [some (.ref (gO' Y 5)), some (.int (zI x1)), some (.int (zI x2)), some (.int (zI r86)), some (.int (zI (x4 + 1)))]) hC dX1_section_116 rfl rfl rfl ?_
        refine h_goto (tgt := 24) hC dX1_section_119 (by decide) ?_
        obtain ⟨o94, h95⟩ := h93
        exact hk24 _ _ _ _ _ _ _ Rx1 Rx2 R90 o94 o91 hZ92 h95
theorem cl_Coder_section_24 {X : gX} {d : gD} {b : Nat} {Y : gYt} {c : Nat × Nat} {F0 : gM} {S0 : gSt} {mc ms : Nat} {rec : Nat → Int → Int → Int → cS → (Int → cS → Prop) → Prop} {lv0 : Nat} (hC : gC RX1 cX1_section 5 none "section" (gR (630 + lv0 + 1) mc ms) d b X) (hr : hRm X b) (ih : yOkC X.la d b Y c lv0 rec) {Q : cS → Prop}   : ∀ (m : Nat) (u : hU) (S : gSt) (A0 : cS) (x1 : Int) (x2 : Int) (x3 : Int) (x4 : Int), zR x1 → zR x2 → zR x3 → zR x4 → yOk X b u → yZ d b Y c F0 S0 u S A0 → wc_Coder_section_24 rec Q  m A0 x1 x2 x3 x4 → yG X d b (yQv X d b Y c F0 S0 mc ms Q) u 24 [some (.ref (gO' Y 5)), some (.int (zI x1)), some (.int (zI x2)), some (.int (zI x3)), some (.int (zI x4))] [] := by
  intro m
  induction m with
  | zero => intro u S A0 x1 x2 x3 x4 Rx1 Rx2 Rx3 Rx4 ho hZ hw; exact False.elim hw
  | succ m ihm => intro u S A0 x1 x2 x3 x4 Rx1 Rx2 Rx3 Rx4 ho hZ hw; exact cb_Coder_section_24 hC hr ih  ihm Rx1 Rx2 Rx3 Rx4 ho hZ hw
set_option maxHeartbeats 4000000 in
set_option maxRecDepth 100000 in
theorem cm_Coder_section (l : Launch) (d : gD) (b : Nat) {Y : gYt} {c : Nat × Nat} {F : gM} {k n : Nat} {S : gSt} {A0 : cS} {rec : Nat → Int → Int → Int → cS → (Int → cS → Prop) → Prop} {lv0 : Nat} (ih : yOkC l d b Y c lv0 rec) {a0 : Int} (Ra0 : zR a0) {Q : cS → Prop} (hZ : yZ d b Y c F S (F, k, n) S A0) (hw : wc_Coder_section rec A0 a0 Q) : hMv l d b yX1_section cX1_section 5 (630 + lv0 + 1) k n F [.ref (gO' Y 5), .int (zI a0)] (yPv d b Y c F S Q) := by
  intro mc ms
  refine hM_of2 rfl (nL := 5) (Nat.le_of_ble_eq_true rfl) ?_
  intro X hX hC hr ho; subst hX
  show yG X d b (yQv X d b Y c F S mc ms Q) (F, k, n) 0 [some (.ref (gO' Y 5)), some (.int (zI a0)), none, none, none] []
  unfold wc_Coder_section at hw
  refine h_aload_n hC dX1_section_0 rfl ?_
  refine h_get hC fl_X1_46 (hZ.w.o 5 (by decide)) rfl dX1_section_1 ?_
  refine yr_sv (e := (yv A0 19)) hZ 19 rfl ?_
  refine h_istore_n (lv' := [some (.ref (gO' Y 5)), some (.int (zI a0)), some (.int (zI (yv A0 19))), none, none]) hC dX1_section_4 (Nat.le_of_ble_eq_true rfl) rfl rfl ?_
  refine h_aload_n hC dX1_section_5 rfl ?_
  refine h_get hC fl_X1_78 (hZ.w.o 5 (by decide)) rfl dX1_section_6 ?_
  refine yr_callVv (As := []) hC hr ho hZ rfl (hZ.w.o 8 (by decide)) (cm_Scope_open X.la d b  hZ.rs hw) cl_X1_182 rfl rfl (Nat.le_of_ble_eq_true rfl) (hFr_of (by omega) (Nat.le_of_ble_eq_true rfl)) dX1_section_9 (fun A2 u3 S4 o6 hZ7 h8 => ?_)
  refine h_aload_n hC dX1_section_12 rfl ?_
  refine h_get hC fl_X1_65 (hZ7.w.o 5 (by decide)) rfl dX1_section_13 ?_
  refine h_iload_n hC dX1_section_16 rfl ?_
  refine yr_callVi (As := [.int (zI a0)]) hC hr o6 hZ7 rfl (hZ7.w.o 2 (by decide)) (cm_Tree_first X.la d b Ra0 hZ7.rs h8) cl_X1_126 rfl rfl (Nat.le_of_ble_eq_true rfl) (hFr_of (by omega) (Nat.le_of_ble_eq_true rfl)) dX1_section_17 (fun r9 A10 u11 S12 R13 o14 hZ15 h16 => ?_)
  refine h_istore_n (lv' := [some (.ref (gO' Y 5)), some (.int (zI a0)), some (.int (zI (yv A0 19))), some (.int (zI r9)), none]) hC dX1_section_20 (Nat.le_of_ble_eq_true rfl) rfl rfl ?_
  refine h_iconst (v := zI 0) hC dX1_section_21 rfl ?_
  refine h_istore (lv' := [some (.ref (gO' Y 5)), some (.int (zI a0)), some (.int (zI (yv A0 19))), some (.int (zI r9)), some (.int (zI 0))]) hC dX1_section_22 (Nat.le_of_ble_eq_true rfl) rfl rfl ?_
  obtain ⟨m17, h18⟩ := h16
  exact cl_Coder_section_24 hC hr ih  m17 _ _ _ _ _ _ _ Ra0 (hZ.rv 19) R13 (by decide) o14 hZ15 h18
theorem dX1_command_0 : decode cX1_command 0 = .ok (.aload_n 0, 1) := by decide +kernel
theorem dX1_command_1 : decode cX1_command 1 = .ok (.getfield 65, 3) := by decide +kernel
theorem dX1_command_4 : decode cX1_command 4 = .ok (.iload_n 1, 1) := by decide +kernel
theorem dX1_command_5 : decode cX1_command 5 = .ok (.invokevirtual 121, 3) := by decide +kernel
theorem dX1_command_8 : decode cX1_command 8 = .ok (.tableswitch 49 89 93 #[36, 49, 49, 37, 43], 36) := by decide +kernel
theorem dX1_command_44 : decode cX1_command 44 = .ok (.return_, 1) := by decide +kernel
theorem dX1_command_45 : decode cX1_command 45 = .ok (.aload_n 0, 1) := by decide +kernel
theorem dX1_command_46 : decode cX1_command 46 = .ok (.iload_n 1, 1) := by decide +kernel
theorem dX1_command_47 : decode cX1_command 47 = .ok (.invokevirtual 100, 3) := by decide +kernel
theorem dX1_command_50 : decode cX1_command 50 = .ok (.return_, 1) := by decide +kernel
theorem dX1_command_51 : decode cX1_command 51 = .ok (.aload_n 0, 1) := by decide +kernel
theorem dX1_command_52 : decode cX1_command 52 = .ok (.iload_n 1, 1) := by decide +kernel
theorem dX1_command_53 : decode cX1_command 53 = .ok (.invokevirtual 242, 3) := by decide +kernel
theorem dX1_command_56 : decode cX1_command 56 = .ok (.return_, 1) := by decide +kernel
theorem dX1_command_57 : decode cX1_command 57 = .ok (.aload_n 0, 1) := by decide +kernel
theorem dX1_command_58 : decode cX1_command 58 = .ok (.bipush 18, 2) := by decide +kernel
theorem dX1_command_60 : decode cX1_command 60 = .ok (.iconst 1, 1) := by decide +kernel
theorem dX1_command_61 : decode cX1_command 61 = .ok (.invokevirtual 181, 3) := by decide +kernel
theorem dX1_command_64 : decode cX1_command 64 = .ok (.pop, 1) := by decide +kernel
theorem dX1_command_65 : decode cX1_command 65 = .ok (.aload_n 0, 1) := by decide +kernel
theorem dX1_command_66 : decode cX1_command 66 = .ok (.getfield 65, 3) := by decide +kernel
theorem dX1_command_69 : decode cX1_command 69 = .ok (.iload_n 1, 1) := by decide +kernel
theorem dX1_command_70 : decode cX1_command 70 = .ok (.invokevirtual 121, 3) := by decide +kernel
theorem dX1_command_73 : decode cX1_command 73 = .ok (.lookupswitch 164 #[(36, 124), (37, 124), (38, 124), (39, 132), (40, 132), (41, 140), (42, 148), (49, 156), (90, 91), (91, 99)], 91) := by decide +kernel
theorem dX1_command_164 : decode cX1_command 164 = .ok (.aload_n 0, 1) := by decide +kernel
theorem dX1_command_165 : decode cX1_command 165 = .ok (.iload_n 1, 1) := by decide +kernel
theorem dX1_command_166 : decode cX1_command 166 = .ok (.invokevirtual 245, 3) := by decide +kernel
theorem dX1_command_169 : decode cX1_command 169 = .ok (.goto 73, 3) := by decide +kernel
theorem dX1_command_172 : decode cX1_command 172 = .ok (.aload_n 0, 1) := by decide +kernel
theorem dX1_command_173 : decode cX1_command 173 = .ok (.aload_n 0, 1) := by decide +kernel
theorem dX1_command_174 : decode cX1_command 174 = .ok (.getfield 65, 3) := by decide +kernel
theorem dX1_command_177 : decode cX1_command 177 = .ok (.iload_n 1, 1) := by decide +kernel
theorem dX1_command_178 : decode cX1_command 178 = .ok (.invokevirtual 126, 3) := by decide +kernel
theorem dX1_command_181 : decode cX1_command 181 = .ok (.iconst 0, 1) := by decide +kernel
theorem dX1_command_182 : decode cX1_command 182 = .ok (.iconst 0, 1) := by decide +kernel
theorem dX1_command_183 : decode cX1_command 183 = .ok (.invokevirtual 188, 3) := by decide +kernel
theorem dX1_command_186 : decode cX1_command 186 = .ok (.aload_n 0, 1) := by decide +kernel
theorem dX1_command_187 : decode cX1_command 187 = .ok (.bipush 13, 2) := by decide +kernel
theorem dX1_command_189 : decode cX1_command 189 = .ok (.iconst 0, 1) := by decide +kernel
theorem dX1_command_190 : decode cX1_command 190 = .ok (.invokevirtual 181, 3) := by decide +kernel
theorem dX1_command_193 : decode cX1_command 193 = .ok (.pop, 1) := by decide +kernel
theorem dX1_command_194 : decode cX1_command 194 = .ok (.goto 48, 3) := by decide +kernel
theorem dX1_command_197 : decode cX1_command 197 = .ok (.aload_n 0, 1) := by decide +kernel
theorem dX1_command_198 : decode cX1_command 198 = .ok (.iload_n 1, 1) := by decide +kernel
theorem dX1_command_199 : decode cX1_command 199 = .ok (.invokevirtual 248, 3) := by decide +kernel
theorem dX1_command_202 : decode cX1_command 202 = .ok (.goto 40, 3) := by decide +kernel
theorem dX1_command_205 : decode cX1_command 205 = .ok (.aload_n 0, 1) := by decide +kernel
theorem dX1_command_206 : decode cX1_command 206 = .ok (.iload_n 1, 1) := by decide +kernel
theorem dX1_command_207 : decode cX1_command 207 = .ok (.invokevirtual 251, 3) := by decide +kernel
theorem dX1_command_210 : decode cX1_command 210 = .ok (.goto 32, 3) := by decide +kernel
theorem dX1_command_213 : decode cX1_command 213 = .ok (.aload_n 0, 1) := by decide +kernel
theorem dX1_command_214 : decode cX1_command 214 = .ok (.iload_n 1, 1) := by decide +kernel
theorem dX1_command_215 : decode cX1_command 215 = .ok (.invokevirtual 254, 3) := by decide +kernel
theorem dX1_command_218 : decode cX1_command 218 = .ok (.goto 24, 3) := by decide +kernel
theorem dX1_command_221 : decode cX1_command 221 = .ok (.aload_n 0, 1) := by decide +kernel
theorem dX1_command_222 : decode cX1_command 222 = .ok (.iload_n 1, 1) := by decide +kernel
theorem dX1_command_223 : decode cX1_command 223 = .ok (.invokevirtual 257, 3) := by decide +kernel
theorem dX1_command_226 : decode cX1_command 226 = .ok (.goto 16, 3) := by decide +kernel
theorem dX1_command_229 : decode cX1_command 229 = .ok (.aload_n 0, 1) := by decide +kernel
theorem dX1_command_230 : decode cX1_command 230 = .ok (.iload_n 1, 1) := by decide +kernel
theorem dX1_command_231 : decode cX1_command 231 = .ok (.invokevirtual 260, 3) := by decide +kernel
theorem dX1_command_234 : decode cX1_command 234 = .ok (.goto 8, 3) := by decide +kernel
theorem dX1_command_237 : decode cX1_command 237 = .ok (.aload_n 0, 1) := by decide +kernel
theorem dX1_command_238 : decode cX1_command 238 = .ok (.iload_n 1, 1) := by decide +kernel
theorem dX1_command_239 : decode cX1_command 239 = .ok (.invokevirtual 263, 3) := by decide +kernel
theorem dX1_command_242 : decode cX1_command 242 = .ok (.return_, 1) := by decide +kernel
def wc_Coder_command_57 (rec : Nat → Int → Int → Int → cS → (Int → cS → Prop) → Prop) (Q : cS → Prop)  (A0 : cS) (x1 : Int) : Prop :=
  wc_Coder_emit A0 18 1 (fun r1 A2 => wc_Tree_kind A2 x1 (fun r9 A10 => (((r9 = 36 ∨ r9 = 37 ∨ r9 = 38) → rec 6 x1 0 0 A10 (fun _ A21 => Q A21)) ∧ ((r9 = 39 ∨ r9 = 40) → rec 7 x1 0 0 A10 (fun _ A32 => Q A32)) ∧ ((r9 = 41) → rec 9 x1 0 0 A10 (fun _ A43 => Q A43)) ∧ ((r9 = 42) → rec 10 x1 0 0 A10 (fun _ A54 => Q A54)) ∧ ((r9 = 49) → rec 11 x1 0 0 A10 (fun _ A65 => Q A65)) ∧ ((r9 = 90) → rec 5 x1 0 0 A10 (fun _ A76 => Q A76)) ∧ ((r9 = 91) → wc_Tree_first A10 x1 (fun r86 A87 => rec 12 r86 0 0 A87 (fun _ A95 => wc_Coder_emit A95 13 0 (fun r102 A103 => Q A103)))) ∧ (¬ (r9 = 36 ∨ r9 = 37 ∨ r9 = 38) → ¬ (r9 = 39 ∨ r9 = 40) → ¬ (r9 = 41) → ¬ (r9 = 42) → ¬ (r9 = 49) → ¬ (r9 = 90) → ¬ (r9 = 91) → wc_Coder_leaving A10 x1 (fun A112 => Q A112)))))
def wc_Coder_command (rec : Nat → Int → Int → Int → cS → (Int → cS → Prop) → Prop) (A0 : cS) (a0 : Int) (Q : cS → Prop) : Prop :=
  wc_Tree_kind A0 a0 (fun r1 A2 => (((r1 = 89) → Q A2) ∧ ((r1 = 92) → rec 3 a0 0 0 A2 (fun _ A16 => Q A16)) ∧ ((r1 = 93) → rec 8 a0 0 0 A2 (fun _ A27 => Q A27)) ∧ (¬ (r1 = 89) → ¬ (r1 = 92) → ¬ (r1 = 93) → wc_Coder_command_57 rec Q  A2 a0)))
set_option maxHeartbeats 4000000 in
set_option maxRecDepth 100000 in
theorem cj_Coder_command_57 {X : gX} {d : gD} {b : Nat} {Y : gYt} {c : Nat × Nat} {F0 : gM} {S0 : gSt} {mc ms : Nat} {rec : Nat → Int → Int → Int → cS → (Int → cS → Prop) → Prop} {lv0 : Nat} (hC : gC RX1 cX1_command 2 none "command" (gR (630 + lv0 + 1) mc ms) d b X) (hr : hRm X b) (ih : yOkC X.la d b Y c lv0 rec) {Q : cS → Prop}   {u : hU} {S : gSt} {A0 : cS} {x1 : Int} (Rx1 : zR x1) (ho : yOk X b u) (hZ : yZ d b Y c F0 S0 u S A0) (hw : wc_Coder_command_57 rec Q  A0 x1) : yG X d b (yQv X d b Y c F0 S0 mc ms Q) u 57 [some (.ref (gO' Y 5)), some (.int (zI x1))] [] := by
  unfold wc_Coder_command_57 at hw
  refine h_aload_n hC dX1_command_57 rfl ?_
  refine h_bipush (v := zI 18) hC dX1_command_58 rfl ?_
  refine h_iconst (v := zI 1) hC dX1_command_60 rfl ?_
  refine yr_callVi (As := [.int (zI 18), .int (zI 1)]) hC hr ho hZ rfl (hZ.w.o 5 (by decide)) (cm_Coder_emit X.la d b (by decide) (by decide) hZ.rs hw) cl_X1_181 rfl rfl (Nat.le_of_ble_eq_true rfl) (hFr_of (by omega) (Nat.le_of_ble_eq_true rfl)) dX1_command_61 (fun r1 A2 u3 S4 R5 o6 hZ7 h8 => ?_)
  refine h_pop hC dX1_command_64 rfl ?_
  refine h_aload_n hC dX1_command_65 rfl ?_
  refine h_get hC fl_X1_65 (hZ7.w.o 5 (by decide)) rfl dX1_command_66 ?_
  refine h_iload_n hC dX1_command_69 rfl ?_
  refine yr_callVi (As := [.int (zI x1)]) hC hr o6 hZ7 rfl (hZ7.w.o 2 (by decide)) (cm_Tree_kind X.la d b Rx1 hZ7.rs h8) cl_X1_121 rfl rfl (Nat.le_of_ble_eq_true rfl) (hFr_of (by omega) (Nat.le_of_ble_eq_true rfl)) dX1_command_70 (fun r9 A10 u11 S12 R13 o14 hZ15 h16 => ?_)
  by_cases g17 : r9 = 36 ∨ r9 = 37 ∨ r9 = 38
  · have h19 := (h16.1) g17
    have T18 : yG X d b (yQv X d b Y c F0 S0 mc ms Q) u11 197 [some (.ref (gO' Y 5)), some (.int (zI x1))] [] := by
      refine h_aload_n hC dX1_command_197 rfl ?_
      refine h_iload_n hC dX1_command_198 rfl ?_
      refine yr_callVv (As := [.int (zI x1)]) hC hr o14 hZ15 rfl (hZ15.w.o 5 (by decide)) (ih.2.2.2.2.2.2.1 Rx1 hZ15.rs h19) cl_X1_248 rfl rfl (Nat.le_of_ble_eq_true rfl) (hFr_of (by omega) (Nat.le_of_ble_eq_true rfl)) dX1_command_199 (fun A21 u22 S23 o25 hZ26 h27 => ?_)
      refine h_goto (tgt := 242) hC dX1_command_202 (by decide) ?_
      exact yr_vret hC hr o25 hZ26 h27 dX1_command_242
    clear h19
    rcases g17 with e1 | e1 | e1
    · exact zr_lokAt (v := 36) hC dX1_command_73 R13 (by decide) e1 rfl (by decide) T18
    · exact zr_lokAt (v := 37) hC dX1_command_73 R13 (by decide) e1 rfl (by decide) T18
    · exact zr_lokAt (v := 38) hC dX1_command_73 R13 (by decide) e1 rfl (by decide) T18
  · skip
    by_cases g28 : r9 = 39 ∨ r9 = 40
    · have h30 := (h16.2.1) g28
      have T29 : yG X d b (yQv X d b Y c F0 S0 mc ms Q) u11 205 [some (.ref (gO' Y 5)), some (.int (zI x1))] [] := by
        refine h_aload_n hC dX1_command_205 rfl ?_
        refine h_iload_n hC dX1_command_206 rfl ?_
        refine yr_callVv (As := [.int (zI x1)]) hC hr o14 hZ15 rfl (hZ15.w.o 5 (by decide)) (ih.2.2.2.2.2.2.2.1 Rx1 hZ15.rs h30) cl_X1_251 rfl rfl (Nat.le_of_ble_eq_true rfl) (hFr_of (by omega) (Nat.le_of_ble_eq_true rfl)) dX1_command_207 (fun A32 u33 S34 o36 hZ37 h38 => ?_)
        refine h_goto (tgt := 242) hC dX1_command_210 (by decide) ?_
        exact yr_vret hC hr o36 hZ37 h38 dX1_command_242
      clear h30
      rcases g28 with e1 | e1
      · exact zr_lokAt (v := 39) hC dX1_command_73 R13 (by decide) e1 rfl (by decide) T29
      · exact zr_lokAt (v := 40) hC dX1_command_73 R13 (by decide) e1 rfl (by decide) T29
    · skip
      by_cases g39 : r9 = 41
      · have h41 := (h16.2.2.1) g39
        have T40 : yG X d b (yQv X d b Y c F0 S0 mc ms Q) u11 213 [some (.ref (gO' Y 5)), some (.int (zI x1))] [] := by
          refine h_aload_n hC dX1_command_213 rfl ?_
          refine h_iload_n hC dX1_command_214 rfl ?_
          refine yr_callVv (As := [.int (zI x1)]) hC hr o14 hZ15 rfl (hZ15.w.o 5 (by decide)) (ih.2.2.2.2.2.2.2.2.2.1 Rx1 hZ15.rs h41) cl_X1_254 rfl rfl (Nat.le_of_ble_eq_true rfl) (hFr_of (by omega) (Nat.le_of_ble_eq_true rfl)) dX1_command_215 (fun A43 u44 S45 o47 hZ48 h49 => ?_)
          refine h_goto (tgt := 242) hC dX1_command_218 (by decide) ?_
          exact yr_vret hC hr o47 hZ48 h49 dX1_command_242
        clear h41
        exact yr_lokAt (v := 41) hC dX1_command_73 R13 (by decide) g39 rfl (by decide) T40
      · skip
        by_cases g50 : r9 = 42
        · have h52 := (h16.2.2.2.1) g50
          have T51 : yG X d b (yQv X d b Y c F0 S0 mc ms Q) u11 221 [some (.ref (gO' Y 5)), some (.int (zI x1))] [] := by
            refine h_aload_n hC dX1_command_221 rfl ?_
            refine h_iload_n hC dX1_command_222 rfl ?_
            refine yr_callVv (As := [.int (zI x1)]) hC hr o14 hZ15 rfl (hZ15.w.o 5 (by decide)) (ih.2.2.2.2.2.2.2.2.2.2.1 Rx1 hZ15.rs h52) cl_X1_257 rfl rfl (Nat.le_of_ble_eq_true rfl) (hFr_of (by omega) (Nat.le_of_ble_eq_true rfl)) dX1_command_223 (fun A54 u55 S56 o58 hZ59 h60 => ?_)
            refine h_goto (tgt := 242) hC dX1_command_226 (by decide) ?_
            exact yr_vret hC hr o58 hZ59 h60 dX1_command_242
          clear h52
          exact yr_lokAt (v := 42) hC dX1_command_73 R13 (by decide) g50 rfl (by decide) T51
        · skip
          by_cases g61 : r9 = 49
          · have h63 := (h16.2.2.2.2.1) g61
            have T62 : yG X d b (yQv X d b Y c F0 S0 mc ms Q) u11 229 [some (.ref (gO' Y 5)), some (.int (zI x1))] [] := by
              refine h_aload_n hC dX1_command_229 rfl ?_
              refine h_iload_n hC dX1_command_230 rfl ?_
              refine yr_callVv (As := [.int (zI x1)]) hC hr o14 hZ15 rfl (hZ15.w.o 5 (by decide)) (ih.2.2.2.2.2.2.2.2.2.2.2.1 Rx1 hZ15.rs h63) cl_X1_260 rfl rfl (Nat.le_of_ble_eq_true rfl) (hFr_of (by omega) (Nat.le_of_ble_eq_true rfl)) dX1_command_231 (fun A65 u66 S67 o69 hZ70 h71 => ?_)
              refine h_goto (tgt := 242) hC dX1_command_234 (by decide) ?_
              exact yr_vret hC hr o69 hZ70 h71 dX1_command_242
            clear h63
            exact yr_lokAt (v := 49) hC dX1_command_73 R13 (by decide) g61 rfl (by decide) T62
          · skip
            by_cases g72 : r9 = 90
            · have h74 := (h16.2.2.2.2.2.1) g72
              have T73 : yG X d b (yQv X d b Y c F0 S0 mc ms Q) u11 164 [some (.ref (gO' Y 5)), some (.int (zI x1))] [] := by
                refine h_aload_n hC dX1_command_164 rfl ?_
                refine h_iload_n hC dX1_command_165 rfl ?_
                refine yr_callVv (As := [.int (zI x1)]) hC hr o14 hZ15 rfl (hZ15.w.o 5 (by decide)) (ih.2.2.2.2.2.1 Rx1 hZ15.rs h74) cl_X1_245 rfl rfl (Nat.le_of_ble_eq_true rfl) (hFr_of (by omega) (Nat.le_of_ble_eq_true rfl)) dX1_command_166 (fun A76 u77 S78 o80 hZ81 h82 => ?_)
                refine h_goto (tgt := 242) hC dX1_command_169 (by decide) ?_
                exact yr_vret hC hr o80 hZ81 h82 dX1_command_242
              clear h74
              exact yr_lokAt (v := 90) hC dX1_command_73 R13 (by decide) g72 rfl (by decide) T73
            · skip
              by_cases g83 : r9 = 91
              · have h85 := (h16.2.2.2.2.2.2.1) g83
                have T84 : yG X d b (yQv X d b Y c F0 S0 mc ms Q) u11 172 [some (.ref (gO' Y 5)), some (.int (zI x1))] [] := by
                  refine h_aload_n hC dX1_command_172 rfl ?_
                  refine h_aload_n hC dX1_command_173 rfl ?_
                  refine h_get hC fl_X1_65 (hZ15.w.o 5 (by decide)) rfl dX1_command_174 ?_
                  refine h_iload_n hC dX1_command_177 rfl ?_
                  refine yr_callVi (As := [.int (zI x1)]) hC hr o14 hZ15 rfl (hZ15.w.o 2 (by decide)) (cm_Tree_first X.la d b Rx1 hZ15.rs h85) cl_X1_126 rfl rfl (Nat.le_of_ble_eq_true rfl) (hFr_of (by omega) (Nat.le_of_ble_eq_true rfl)) dX1_command_178 (fun r86 A87 u88 S89 R90 o91 hZ92 h93 => ?_)
                  refine h_iconst (v := zI 0) hC dX1_command_181 rfl ?_
                  refine h_iconst (v := zI 0) hC dX1_command_182 rfl ?_
                  refine yr_callVv (As := [.int (zI r86), .int (zI 0), .int (zI 0)]) hC hr o91 hZ92 rfl (hZ92.w.o 5 (by decide)) (ih.2.2.2.2.2.2.2.2.2.2.2.2.1 R90 (by decide) (by decide) hZ92.rs h93) cl_X1_188 rfl rfl (Nat.le_of_ble_eq_true rfl) (hFr_of (by omega) (Nat.le_of_ble_eq_true rfl)) dX1_command_183 (fun A95 u96 S97 o99 hZ100 h101 => ?_)
                  refine h_aload_n hC dX1_command_186 rfl ?_
                  refine h_bipush (v := zI 13) hC dX1_command_187 rfl ?_
                  refine h_iconst (v := zI 0) hC dX1_command_189 rfl ?_
                  refine yr_callVi (As := [.int (zI 13), .int (zI 0)]) hC hr o99 hZ100 rfl (hZ100.w.o 5 (by decide)) (cm_Coder_emit X.la d b (by decide) (by decide) hZ100.rs h101) cl_X1_181 rfl rfl (Nat.le_of_ble_eq_true rfl) (hFr_of (by omega) (Nat.le_of_ble_eq_true rfl)) dX1_command_190 (fun r102 A103 u104 S105 R106 o107 hZ108 h109 => ?_)
                  refine h_pop hC dX1_command_193 rfl ?_
                  refine h_goto (tgt := 242) hC dX1_command_194 (by decide) ?_
                  exact yr_vret hC hr o107 hZ108 h109 dX1_command_242
                clear h85
                exact yr_lokAt (v := 91) hC dX1_command_73 R13 (by decide) g83 rfl (by decide) T84
              · skip
                have h110 := h16.2.2.2.2.2.2.2 g17 g28 g39 g50 g61 g72 g83
                refine yr_lokD (tgt := 237) hC dX1_command_73 R13 (by decide) (List.forall_mem_cons.mpr ⟨(fun q => g17 (Or.inl q)), List.forall_mem_cons.mpr ⟨(fun q => g17 (Or.inr (Or.inl q))), List.forall_mem_cons.mpr ⟨(fun q => g17 (Or.inr (Or.inr (q)))), List.forall_mem_cons.mpr ⟨(fun q => g28 (Or.inl q)), List.forall_mem_cons.mpr ⟨(fun q => g28 (Or.inr (q))), List.forall_mem_cons.mpr ⟨(fun q => g39 (q)), List.forall_mem_cons.mpr ⟨(fun q => g50 (q)), List.forall_mem_cons.mpr ⟨(fun q => g61 (q)), List.forall_mem_cons.mpr ⟨(fun q => g72 (q)), List.forall_mem_cons.mpr ⟨(fun q => g83 (q)), fun q hq => absurd hq List.not_mem_nil⟩⟩⟩⟩⟩⟩⟩⟩⟩⟩) (by decide) ?_
                refine h_aload_n hC dX1_command_237 rfl ?_
                refine h_iload_n hC dX1_command_238 rfl ?_
                refine yr_callVv (As := [.int (zI x1)]) hC hr o14 hZ15 rfl (hZ15.w.o 5 (by decide)) (cm_Coder_leaving X.la d b Rx1 hZ15.rs h110) cl_X1_263 rfl rfl (Nat.le_of_ble_eq_true rfl) (hFr_of (by omega) (Nat.le_of_ble_eq_true rfl)) dX1_command_239 (fun A112 u113 S114 o116 hZ117 h118 => ?_)
                exact yr_vret hC hr o116 hZ117 h118 dX1_command_242
set_option maxHeartbeats 4000000 in
set_option maxRecDepth 100000 in
theorem cm_Coder_command (l : Launch) (d : gD) (b : Nat) {Y : gYt} {c : Nat × Nat} {F : gM} {k n : Nat} {S : gSt} {A0 : cS} {rec : Nat → Int → Int → Int → cS → (Int → cS → Prop) → Prop} {lv0 : Nat} (ih : yOkC l d b Y c lv0 rec) {a0 : Int} (Ra0 : zR a0) {Q : cS → Prop} (hZ : yZ d b Y c F S (F, k, n) S A0) (hw : wc_Coder_command rec A0 a0 Q) : hMv l d b yX1_command cX1_command 2 (630 + lv0 + 1) k n F [.ref (gO' Y 5), .int (zI a0)] (yPv d b Y c F S Q) := by
  intro mc ms
  refine hM_of2 rfl (nL := 2) (Nat.le_of_ble_eq_true rfl) ?_
  intro X hX hC hr ho; subst hX
  show yG X d b (yQv X d b Y c F S mc ms Q) (F, k, n) 0 [some (.ref (gO' Y 5)), some (.int (zI a0))] []
  unfold wc_Coder_command at hw
  refine h_aload_n hC dX1_command_0 rfl ?_
  refine h_get hC fl_X1_65 (hZ.w.o 5 (by decide)) rfl dX1_command_1 ?_
  refine h_iload_n hC dX1_command_4 rfl ?_
  refine yr_callVi (As := [.int (zI a0)]) hC hr ho hZ rfl (hZ.w.o 2 (by decide)) (cm_Tree_kind X.la d b Ra0 hZ.rs hw) cl_X1_121 rfl rfl (Nat.le_of_ble_eq_true rfl) (hFr_of (by omega) (Nat.le_of_ble_eq_true rfl)) dX1_command_5 (fun r1 A2 u3 S4 R5 o6 hZ7 h8 => ?_)
  by_cases g9 : r1 = 89
  · have h11 := (h8.1) g9
    have T10 : yG X d b (yQv X d b Y c F S mc ms Q) u3 44 [some (.ref (gO' Y 5)), some (.int (zI a0))] [] := by
      exact yr_vret hC hr o6 hZ7 h11 dX1_command_44
    clear h11
    exact yr_tabAt (v := 89) hC dX1_command_8 R5 g9 (by decide) (by decide) rfl (by decide) T10
  · skip
    by_cases g12 : r1 = 92
    · have h14 := (h8.2.1) g12
      have T13 : yG X d b (yQv X d b Y c F S mc ms Q) u3 45 [some (.ref (gO' Y 5)), some (.int (zI a0))] [] := by
        refine h_aload_n hC dX1_command_45 rfl ?_
        refine h_iload_n hC dX1_command_46 rfl ?_
        refine yr_callVv (As := [.int (zI a0)]) hC hr o6 hZ7 rfl (hZ7.w.o 5 (by decide)) (ih.2.2.2.1 Ra0 hZ7.rs h14) cl_X1_100 rfl rfl (Nat.le_of_ble_eq_true rfl) (hFr_of (by omega) (Nat.le_of_ble_eq_true rfl)) dX1_command_47 (fun A16 u17 S18 o20 hZ21 h22 => ?_)
        exact yr_vret hC hr o20 hZ21 h22 dX1_command_50
      clear h14
      exact yr_tabAt (v := 92) hC dX1_command_8 R5 g12 (by decide) (by decide) rfl (by decide) T13
    · skip
      by_cases g23 : r1 = 93
      · have h25 := (h8.2.2.1) g23
        have T24 : yG X d b (yQv X d b Y c F S mc ms Q) u3 51 [some (.ref (gO' Y 5)), some (.int (zI a0))] [] := by
          refine h_aload_n hC dX1_command_51 rfl ?_
          refine h_iload_n hC dX1_command_52 rfl ?_
          refine yr_callVv (As := [.int (zI a0)]) hC hr o6 hZ7 rfl (hZ7.w.o 5 (by decide)) (ih.2.2.2.2.2.2.2.2.1 Ra0 hZ7.rs h25) cl_X1_242 rfl rfl (Nat.le_of_ble_eq_true rfl) (hFr_of (by omega) (Nat.le_of_ble_eq_true rfl)) dX1_command_53 (fun A27 u28 S29 o31 hZ32 h33 => ?_)
          exact yr_vret hC hr o31 hZ32 h33 dX1_command_56
        clear h25
        exact yr_tabAt (v := 93) hC dX1_command_8 R5 g23 (by decide) (by decide) rfl (by decide) T24
      · skip
        have h34 := h8.2.2.2 g9 g12 g23
        refine yr_tabD (tgt := 57) [89, 92, 93] hC dX1_command_8 R5 (by decide) (by decide) (List.forall_mem_cons.mpr ⟨(fun q => g9 (q)), List.forall_mem_cons.mpr ⟨(fun q => g12 (q)), List.forall_mem_cons.mpr ⟨(fun q => g23 (q)), fun q hq => absurd hq List.not_mem_nil⟩⟩⟩) (by decide) ?_
        exact cj_Coder_command_57 hC hr ih  Ra0 o6 hZ7 h34
theorem dX1_assignment_0 : decode cX1_assignment 0 = .ok (.aload_n 0, 1) := by decide +kernel
theorem dX1_assignment_1 : decode cX1_assignment 1 = .ok (.getfield 65, 3) := by decide +kernel
theorem dX1_assignment_4 : decode cX1_assignment 4 = .ok (.iload_n 1, 1) := by decide +kernel
theorem dX1_assignment_5 : decode cX1_assignment 5 = .ok (.invokevirtual 129, 3) := by decide +kernel
theorem dX1_assignment_8 : decode cX1_assignment 8 = .ok (.istore_n 2, 1) := by decide +kernel
theorem dX1_assignment_9 : decode cX1_assignment 9 = .ok (.aload_n 0, 1) := by decide +kernel
theorem dX1_assignment_10 : decode cX1_assignment 10 = .ok (.getfield 65, 3) := by decide +kernel
theorem dX1_assignment_13 : decode cX1_assignment 13 = .ok (.iload_n 1, 1) := by decide +kernel
theorem dX1_assignment_14 : decode cX1_assignment 14 = .ok (.invokevirtual 126, 3) := by decide +kernel
theorem dX1_assignment_17 : decode cX1_assignment 17 = .ok (.istore_n 3, 1) := by decide +kernel
theorem dX1_assignment_18 : decode cX1_assignment 18 = .ok (.iload_n 3, 1) := by decide +kernel
theorem dX1_assignment_19 : decode cX1_assignment 19 = .ok (.istore 4, 2) := by decide +kernel
theorem dX1_assignment_21 : decode cX1_assignment 21 = .ok (.iconst 0, 1) := by decide +kernel
theorem dX1_assignment_22 : decode cX1_assignment 22 = .ok (.istore 5, 2) := by decide +kernel
theorem dX1_assignment_24 : decode cX1_assignment 24 = .ok (.iload 5, 2) := by decide +kernel
theorem dX1_assignment_26 : decode cX1_assignment 26 = .ok (.iload_n 2, 1) := by decide +kernel
theorem dX1_assignment_27 : decode cX1_assignment 27 = .ok (.if_icmp .ge 20, 3) := by decide +kernel
theorem dX1_assignment_30 : decode cX1_assignment 30 = .ok (.aload_n 0, 1) := by decide +kernel
theorem dX1_assignment_31 : decode cX1_assignment 31 = .ok (.getfield 65, 3) := by decide +kernel
theorem dX1_assignment_34 : decode cX1_assignment 34 = .ok (.iload 4, 2) := by decide +kernel
theorem dX1_assignment_36 : decode cX1_assignment 36 = .ok (.invokevirtual 142, 3) := by decide +kernel
theorem dX1_assignment_39 : decode cX1_assignment 39 = .ok (.istore 4, 2) := by decide +kernel
theorem dX1_assignment_41 : decode cX1_assignment 41 = .ok (.iinc 5 1, 3) := by decide +kernel
theorem dX1_assignment_44 : decode cX1_assignment 44 = .ok (.goto (-20), 3) := by decide +kernel
theorem dX1_assignment_47 : decode cX1_assignment 47 = .ok (.iconst 0, 1) := by decide +kernel
theorem dX1_assignment_48 : decode cX1_assignment 48 = .ok (.istore 5, 2) := by decide +kernel
theorem dX1_assignment_50 : decode cX1_assignment 50 = .ok (.iload 5, 2) := by decide +kernel
theorem dX1_assignment_52 : decode cX1_assignment 52 = .ok (.iload_n 2, 1) := by decide +kernel
theorem dX1_assignment_53 : decode cX1_assignment 53 = .ok (.if_icmp .ge 72, 3) := by decide +kernel
theorem dX1_assignment_56 : decode cX1_assignment 56 = .ok (.aload_n 0, 1) := by decide +kernel
theorem dX1_assignment_57 : decode cX1_assignment 57 = .ok (.iload 4, 2) := by decide +kernel
theorem dX1_assignment_59 : decode cX1_assignment 59 = .ok (.iconst 0, 1) := by decide +kernel
theorem dX1_assignment_60 : decode cX1_assignment 60 = .ok (.iconst 0, 1) := by decide +kernel
theorem dX1_assignment_61 : decode cX1_assignment 61 = .ok (.invokevirtual 188, 3) := by decide +kernel
theorem dX1_assignment_64 : decode cX1_assignment 64 = .ok (.aload_n 0, 1) := by decide +kernel
theorem dX1_assignment_65 : decode cX1_assignment 65 = .ok (.iload_n 3, 1) := by decide +kernel
theorem dX1_assignment_66 : decode cX1_assignment 66 = .ok (.iconst 2, 1) := by decide +kernel
theorem dX1_assignment_67 : decode cX1_assignment 67 = .ok (.aload_n 0, 1) := by decide +kernel
theorem dX1_assignment_68 : decode cX1_assignment 68 = .ok (.getfield 65, 3) := by decide +kernel
theorem dX1_assignment_71 : decode cX1_assignment 71 = .ok (.iload_n 3, 1) := by decide +kernel
theorem dX1_assignment_72 : decode cX1_assignment 72 = .ok (.invokevirtual 135, 3) := by decide +kernel
theorem dX1_assignment_75 : decode cX1_assignment 75 = .ok (.invokevirtual 188, 3) := by decide +kernel
theorem dX1_assignment_78 : decode cX1_assignment 78 = .ok (.aload_n 0, 1) := by decide +kernel
theorem dX1_assignment_79 : decode cX1_assignment 79 = .ok (.aload_n 0, 1) := by decide +kernel
theorem dX1_assignment_80 : decode cX1_assignment 80 = .ok (.iload_n 3, 1) := by decide +kernel
theorem dX1_assignment_81 : decode cX1_assignment 81 = .ok (.invokevirtual 266, 3) := by decide +kernel
theorem dX1_assignment_84 : decode cX1_assignment 84 = .ok (.ifCond .eq 8, 3) := by decide +kernel
theorem dX1_assignment_87 : decode cX1_assignment 87 = .ok (.bipush 12, 2) := by decide +kernel
theorem dX1_assignment_89 : decode cX1_assignment 89 = .ok (.goto 5, 3) := by decide +kernel
theorem dX1_assignment_92 : decode cX1_assignment 92 = .ok (.bipush 11, 2) := by decide +kernel
theorem dX1_assignment_94 : decode cX1_assignment 94 = .ok (.iconst 0, 1) := by decide +kernel
theorem dX1_assignment_95 : decode cX1_assignment 95 = .ok (.invokevirtual 181, 3) := by decide +kernel
theorem dX1_assignment_98 : decode cX1_assignment 98 = .ok (.pop, 1) := by decide +kernel
theorem dX1_assignment_99 : decode cX1_assignment 99 = .ok (.aload_n 0, 1) := by decide +kernel
theorem dX1_assignment_100 : decode cX1_assignment 100 = .ok (.getfield 65, 3) := by decide +kernel
theorem dX1_assignment_103 : decode cX1_assignment 103 = .ok (.iload_n 3, 1) := by decide +kernel
theorem dX1_assignment_104 : decode cX1_assignment 104 = .ok (.invokevirtual 142, 3) := by decide +kernel
theorem dX1_assignment_107 : decode cX1_assignment 107 = .ok (.istore_n 3, 1) := by decide +kernel
theorem dX1_assignment_108 : decode cX1_assignment 108 = .ok (.aload_n 0, 1) := by decide +kernel
theorem dX1_assignment_109 : decode cX1_assignment 109 = .ok (.getfield 65, 3) := by decide +kernel
theorem dX1_assignment_112 : decode cX1_assignment 112 = .ok (.iload 4, 2) := by decide +kernel
theorem dX1_assignment_114 : decode cX1_assignment 114 = .ok (.invokevirtual 142, 3) := by decide +kernel
theorem dX1_assignment_117 : decode cX1_assignment 117 = .ok (.istore 4, 2) := by decide +kernel
theorem dX1_assignment_119 : decode cX1_assignment 119 = .ok (.iinc 5 1, 3) := by decide +kernel
theorem dX1_assignment_122 : decode cX1_assignment 122 = .ok (.goto (-72), 3) := by decide +kernel
theorem dX1_assignment_125 : decode cX1_assignment 125 = .ok (.return_, 1) := by decide +kernel
def wc_Coder_assignment_50B (rec : Nat → Int → Int → Int → cS → (Int → cS → Prop) → Prop) (Q : cS → Prop) (k50 : cS → Int → Int → Int → Int → Prop) (A0 : cS) (x2 : Int) (x3 : Int) (x4 : Int) (x5 : Int) : Prop :=
  ((x2 ≤ x5 → Q A0) ∧ (¬ x2 ≤ x5 → rec 12 x4 0 0 A0 (fun _ A5 => wc_Tree_place A5 x3 (fun r12 A13 => rec 12 x3 2 r12 A13 (fun _ A21 => wc_Coder_isByte A21 x3 (fun r28 A29 => ((r28 = 0 → wc_Coder_emit A29 11 0 (fun r38 A39 => wc_Tree_next A39 x3 (fun r46 A47 => wc_Tree_next A47 x4 (fun r54 A55 => (zR (x5 + 1)) ∧ k50 A55 x2 r46 r54 (x5 + 1))))) ∧ (¬ r28 = 0 → wc_Coder_emit A29 12 0 (fun r65 A66 => wc_Tree_next A66 x3 (fun r73 A74 => wc_Tree_next A74 x4 (fun r81 A82 => (zR (x5 + 1)) ∧ k50 A82 x2 r73 r81 (x5 + 1))))))))))))
def wc_Coder_assignment_50 (rec : Nat → Int → Int → Int → cS → (Int → cS → Prop) → Prop) (Q : cS → Prop)  : Nat → cS → Int → Int → Int → Int → Prop
  | 0 => fun _ _ _ _ _ => False
  | m + 1 => fun A0 x2 x3 x4 x5 => wc_Coder_assignment_50B rec Q  (wc_Coder_assignment_50 rec Q  m) A0 x2 x3 x4 x5
def wc_Coder_assignment_24B (rec : Nat → Int → Int → Int → cS → (Int → cS → Prop) → Prop) (Q : cS → Prop) (k24 : cS → Int → Int → Int → Int → Prop) (A0 : cS) (x2 : Int) (x3 : Int) (x4 : Int) (x5 : Int) : Prop :=
  ((x2 ≤ x5 → ∃ n, wc_Coder_assignment_50 rec Q  n A0 x2 x3 x4 0) ∧ (¬ x2 ≤ x5 → wc_Tree_next A0 x4 (fun r6 A7 => (zR (x5 + 1)) ∧ k24 A7 x2 x3 r6 (x5 + 1))))
def wc_Coder_assignment_24 (rec : Nat → Int → Int → Int → cS → (Int → cS → Prop) → Prop) (Q : cS → Prop)  : Nat → cS → Int → Int → Int → Int → Prop
  | 0 => fun _ _ _ _ _ => False
  | m + 1 => fun A0 x2 x3 x4 x5 => wc_Coder_assignment_24B rec Q  (wc_Coder_assignment_24 rec Q  m) A0 x2 x3 x4 x5
def wc_Coder_assignment (rec : Nat → Int → Int → Int → cS → (Int → cS → Prop) → Prop) (A0 : cS) (a0 : Int) (Q : cS → Prop) : Prop :=
  wc_Tree_data A0 a0 (fun r1 A2 => wc_Tree_first A2 a0 (fun r9 A10 => ∃ n, wc_Coder_assignment_24 rec Q  n A10 r1 r9 r9 0))
set_option maxHeartbeats 4000000 in
set_option maxRecDepth 100000 in
theorem cb_Coder_assignment_50 {X : gX} {d : gD} {b : Nat} {Y : gYt} {c : Nat × Nat} {F0 : gM} {S0 : gSt} {mc ms : Nat} {rec : Nat → Int → Int → Int → cS → (Int → cS → Prop) → Prop} {lv0 : Nat} (hC : gC RX1 cX1_assignment 6 none "assignment" (gR (630 + lv0 + 1) mc ms) d b X) (hr : hRm X b) (ih : yOkC X.la d b Y c lv0 rec) {Q : cS → Prop} {k50 : cS → Int → Int → Int → Int → Prop} (hk50 : ∀ (u : hU) (S : gSt) (A0 : cS) (x2 : Int) (x3 : Int) (x4 : Int) (x5 : Int), zR x2 → zR x3 → zR x4 → zR x5 → yOk X b u → yZ d b Y c F0 S0 u S A0 → k50 A0 x2 x3 x4 x5 → yG X d b (yQv X d b Y c F0 S0 mc ms Q) u 50 [some (.ref (gO' Y 5)), none, some (.int (zI x2)), some (.int (zI x3)), some (.int (zI x4)), some (.int (zI x5))] []) {u : hU} {S : gSt} {A0 : cS} {x2 : Int} {x3 : Int} {x4 : Int} {x5 : Int} (Rx2 : zR x2) (Rx3 : zR x3) (Rx4 : zR x4) (Rx5 : zR x5) (ho : yOk X b u) (hZ : yZ d b Y c F0 S0 u S A0) (hw : wc_Coder_assignment_50B rec Q k50 A0 x2 x3 x4 x5) : yG X d b (yQv X d b Y c F0 S0 mc ms Q) u 50 [some (.ref (gO' Y 5)), none, some (.int (zI x2)), some (.int (zI x3)), some (.int (zI x4)), some (.int (zI x5))] [] := by
  unfold wc_Coder_assignment_50B at hw
  refine h_iload hC dX1_assignment_50 rfl ?_
  refine h_iload_n hC dX1_assignment_52 rfl ?_
  refine yr_icmp_ge (tgt := 125) hC Rx5 Rx2 dX1_assignment_53 (by decide) (fun c1 => ?_) (fun c1 => ?_)
  · have h2 := hw.1 c1
    exact yr_vret hC hr ho hZ h2 dX1_assignment_125
  · have h3 := hw.2 c1
    refine h_aload_n hC dX1_assignment_56 rfl ?_
    refine h_iload hC dX1_assignment_57 rfl ?_
    refine h_iconst (v := zI 0) hC dX1_assignment_59 rfl ?_
    refine h_iconst (v := zI 0) hC dX1_assignment_60 rfl ?_
    refine yr_callVv (As := [.int (zI x4), .int (zI 0), .int (zI 0)]) hC hr ho hZ rfl (hZ.w.o 5 (by decide)) (ih.2.2.2.2.2.2.2.2.2.2.2.2.1 Rx4 (by decide) (by decide) hZ.rs h3) cl_X1_188 rfl rfl (Nat.le_of_ble_eq_true rfl) (hFr_of (by omega) (Nat.le_of_ble_eq_true rfl)) dX1_assignment_61 (fun A5 u6 S7 o9 hZ10 h11 => ?_)
    refine h_aload_n hC dX1_assignment_64 rfl ?_
    refine h_iload_n hC dX1_assignment_65 rfl ?_
    refine h_iconst (v := zI 2) hC dX1_assignment_66 rfl ?_
    refine h_aload_n hC dX1_assignment_67 rfl ?_
    refine h_get hC fl_X1_65 (hZ10.w.o 5 (by decide)) rfl dX1_assignment_68 ?_
    refine h_iload_n hC dX1_assignment_71 rfl ?_
    refine yr_callVi (As := [.int (zI x3)]) hC hr o9 hZ10 rfl (hZ10.w.o 2 (by decide)) (cm_Tree_place X.la d b Rx3 hZ10.rs h11) cl_X1_135 rfl rfl (Nat.le_of_ble_eq_true rfl) (hFr_of (by omega) (Nat.le_of_ble_eq_true rfl)) dX1_assignment_72 (fun r12 A13 u14 S15 R16 o17 hZ18 h19 => ?_)
    refine yr_callVv (As := [.int (zI x3), .int (zI 2), .int (zI r12)]) hC hr o17 hZ18 rfl (hZ18.w.o 5 (by decide)) (ih.2.2.2.2.2.2.2.2.2.2.2.2.1 Rx3 (by decide) R16 hZ18.rs h19) cl_X1_188 rfl rfl (Nat.le_of_ble_eq_true rfl) (hFr_of (by omega) (Nat.le_of_ble_eq_true rfl)) dX1_assignment_75 (fun A21 u22 S23 o25 hZ26 h27 => ?_)
    refine h_aload_n hC dX1_assignment_78 rfl ?_
    refine h_aload_n hC dX1_assignment_79 rfl ?_
    refine h_iload_n hC dX1_assignment_80 rfl ?_
    refine yr_callVi (As := [.int (zI x3)]) hC hr o25 hZ26 rfl (hZ26.w.o 5 (by decide)) (cm_Coder_isByte X.la d b Rx3 hZ26.rs h27) cl_X1_266 rfl rfl (Nat.le_of_ble_eq_true rfl) (hFr_of (by omega) (Nat.le_of_ble_eq_true rfl)) dX1_assignment_81 (fun r28 A29 u30 S31 R32 o33 hZ34 h35 => ?_)
    refine yr_if_eq (tgt := 92) hC R32 dX1_assignment_84 (by decide) (fun c36 => ?_) (fun c36 => ?_)
    · have h37 := h35.1 c36
      refine h_bipush (v := zI 11) hC dX1_assignment_92 rfl ?_
      refine h_iconst (v := zI 0) hC dX1_assignment_94 rfl ?_
      refine yr_callVi (As := [.int (zI 11), .int (zI 0)]) hC hr o33 hZ34 rfl (hZ34.w.o 5 (by decide)) (cm_Coder_emit X.la d b (by decide) (by decide) hZ34.rs h37) cl_X1_181 rfl rfl (Nat.le_of_ble_eq_true rfl) (hFr_of (by omega) (Nat.le_of_ble_eq_true rfl)) dX1_assignment_95 (fun r38 A39 u40 S41 R42 o43 hZ44 h45 => ?_)
      refine h_pop hC dX1_assignment_98 rfl ?_
      refine h_aload_n hC dX1_assignment_99 rfl ?_
      refine h_get hC fl_X1_65 (hZ44.w.o 5 (by decide)) rfl dX1_assignment_100 ?_
      refine h_iload_n hC dX1_assignment_103 rfl ?_
      refine yr_callVi (As := [.int (zI x3)]) hC hr o43 hZ44 rfl (hZ44.w.o 2 (by decide)) (cm_Tree_next X.la d b Rx3 hZ44.rs h45) cl_X1_142 rfl rfl (Nat.le_of_ble_eq_true rfl) (hFr_of (by omega) (Nat.le_of_ble_eq_true rfl)) dX1_assignment_104 (fun r46 A47 u48 S49 R50 o51 hZ52 h53 => ?_)
      refine h_istore_n (lv' := [some (.ref (gO' Y 5)), none, some (.int (zI x2)), some (.int (zI r46)), some (.int (zI x4)), some (.int (zI x5))]) hC dX1_assignment_107 (Nat.le_of_ble_eq_true rfl) rfl rfl ?_
      refine h_aload_n hC dX1_assignment_108 rfl ?_
      refine h_get hC fl_X1_65 (hZ52.w.o 5 (by decide)) rfl dX1_assignment_109 ?_
      refine h_iload hC dX1_assignment_112 rfl ?_
      refine yr_callVi (As := [.int (zI x4)]) hC hr o51 hZ52 rfl (hZ52.w.o 2 (by decide)) (cm_Tree_next X.la d b Rx4 hZ52.rs h53) cl_X1_142 rfl rfl (Nat.le_of_ble_eq_true rfl) (hFr_of (by omega) (Nat.le_of_ble_eq_true rfl)) dX1_assignment_114 (fun r54 A55 u56 S57 R58 o59 hZ60 h61 => ?_)
      refine h_istore (lv' := [some (.ref (gO' Y 5)), none, some (.int (zI x2)), some (.int (zI r46)), some (.int (zI r54)), some (.int (zI x5))]) hC dX1_assignment_117 (Nat.le_of_ble_eq_true rfl) rfl rfl ?_
      refine yr_iinc (x := x5) (lv' := [some (.ref (gO' Y 5)), none, some (.int (zI x2)), some (.int (zI r46)), some (.int (zI r54)), some (.int (zI (x5 + 1)))]) hC dX1_assignment_119 rfl rfl rfl ?_
      refine h_goto (tgt := 50) hC dX1_assignment_122 (by decide) ?_
      obtain ⟨o62, h63⟩ := h61
      exact hk50 _ _ _ _ _ _ _ Rx2 R50 R58 o62 o59 hZ60 h63
    · have h64 := h35.2 c36
      refine h_bipush (v := zI 12) hC dX1_assignment_87 rfl ?_
      refine h_goto (tgt := 94) hC dX1_assignment_89 (by decide) ?_
      refine h_iconst (v := zI 0) hC dX1_assignment_94 rfl ?_
      refine yr_callVi (As := [.int (zI 12), .int (zI 0)]) hC hr o33 hZ34 rfl (hZ34.w.o 5 (by decide)) (cm_Coder_emit X.la d b (by decide) (by decide) hZ34.rs h64) cl_X1_181 rfl rfl (Nat.le_of_ble_eq_true rfl) (hFr_of (by omega) (Nat.le_of_ble_eq_true rfl)) dX1_assignment_95 (fun r65 A66 u67 S68 R69 o70 hZ71 h72 => ?_)
      refine h_pop hC dX1_assignment_98 rfl ?_
      refine h_aload_n hC dX1_assignment_99 rfl ?_
      refine h_get hC fl_X1_65 (hZ71.w.o 5 (by decide)) rfl dX1_assignment_100 ?_
      refine h_iload_n hC dX1_assignment_103 rfl ?_
      refine yr_callVi (As := [.int (zI x3)]) hC hr o70 hZ71 rfl (hZ71.w.o 2 (by decide)) (cm_Tree_next X.la d b Rx3 hZ71.rs h72) cl_X1_142 rfl rfl (Nat.le_of_ble_eq_true rfl) (hFr_of (by omega) (Nat.le_of_ble_eq_true rfl)) dX1_assignment_104 (fun r73 A74 u75 S76 R77 o78 hZ79 h80 => ?_)
      refine h_istore_n (lv' := [some (.ref (gO' Y 5)), none, some (.int (zI x2)), some (.int (zI r73)), some (.int (zI x4)), some (.int (zI x5))]) hC dX1_assignment_107 (Nat.le_of_ble_eq_true rfl) rfl rfl ?_
      refine h_aload_n hC dX1_assignment_108 rfl ?_
      refine h_get hC fl_X1_65 (hZ79.w.o 5 (by decide)) rfl dX1_assignment_109 ?_
      refine h_iload hC dX1_assignment_112 rfl ?_
      refine yr_callVi (As := [.int (zI x4)]) hC hr o78 hZ79 rfl (hZ79.w.o 2 (by decide)) (cm_Tree_next X.la d b Rx4 hZ79.rs h80) cl_X1_142 rfl rfl (Nat.le_of_ble_eq_true rfl) (hFr_of (by omega) (Nat.le_of_ble_eq_true rfl)) dX1_assignment_114 (fun r81 A82 u83 S84 R85 o86 hZ87 h88 => ?_)
      refine h_istore (lv' := [some (.ref (gO' Y 5)), none, some (.int (zI x2)), some (.int (zI r73)), some (.int (zI r81)), some (.int (zI x5))]) hC dX1_assignment_117 (Nat.le_of_ble_eq_true rfl) rfl rfl ?_
      refine yr_iinc (x := x5) (lv' := [some (.ref (gO' Y 5)), none, some (.int (zI x2)), some (.int (zI r73)), some (.int (zI r81)), some (.int (zI (x5 + 1)))]) hC dX1_assignment_119 rfl rfl rfl ?_
      refine h_goto (tgt := 50) hC dX1_assignment_122 (by decide) ?_
      obtain ⟨o89, h90⟩ := h88
      exact hk50 _ _ _ _ _ _ _ Rx2 R77 R85 o89 o86 hZ87 h90
theorem cl_Coder_assignment_50 {X : gX} {d : gD} {b : Nat} {Y : gYt} {c : Nat × Nat} {F0 : gM} {S0 : gSt} {mc ms : Nat} {rec : Nat → Int → Int → Int → cS → (Int → cS → Prop) → Prop} {lv0 : Nat} (hC : gC RX1 cX1_assignment 6 none "assignment" (gR (630 + lv0 + 1) mc ms) d b X) (hr : hRm X b) (ih : yOkC X.la d b Y c lv0 rec) {Q : cS → Prop}   : ∀ (m : Nat) (u : hU) (S : gSt) (A0 : cS) (x2 : Int) (x3 : Int) (x4 : Int) (x5 : Int), zR x2 → zR x3 → zR x4 → zR x5 → yOk X b u → yZ d b Y c F0 S0 u S A0 → wc_Coder_assignment_50 rec Q  m A0 x2 x3 x4 x5 → yG X d b (yQv X d b Y c F0 S0 mc ms Q) u 50 [some (.ref (gO' Y 5)), none, some (.int (zI x2)), some (.int (zI x3)), some (.int (zI x4)), some (.int (zI x5))] [] := by
  intro m
  induction m with
  | zero => intro u S A0 x2 x3 x4 x5 Rx2 Rx3 Rx4 Rx5 ho hZ hw; exact False.elim hw
  | succ m ihm => intro u S A0 x2 x3 x4 x5 Rx2 Rx3 Rx4 Rx5 ho hZ hw; exact cb_Coder_assignment_50 hC hr ih  ihm Rx2 Rx3 Rx4 Rx5 ho hZ hw
set_option maxHeartbeats 4000000 in
set_option maxRecDepth 100000 in
theorem cb_Coder_assignment_24 {X : gX} {d : gD} {b : Nat} {Y : gYt} {c : Nat × Nat} {F0 : gM} {S0 : gSt} {mc ms : Nat} {rec : Nat → Int → Int → Int → cS → (Int → cS → Prop) → Prop} {lv0 : Nat} (hC : gC RX1 cX1_assignment 6 none "assignment" (gR (630 + lv0 + 1) mc ms) d b X) (hr : hRm X b) (ih : yOkC X.la d b Y c lv0 rec) {Q : cS → Prop} {k24 : cS → Int → Int → Int → Int → Prop} (hk24 : ∀ (u : hU) (S : gSt) (A0 : cS) (x2 : Int) (x3 : Int) (x4 : Int) (x5 : Int), zR x2 → zR x3 → zR x4 → zR x5 → yOk X b u → yZ d b Y c F0 S0 u S A0 → k24 A0 x2 x3 x4 x5 → yG X d b (yQv X d b Y c F0 S0 mc ms Q) u 24 [some (.ref (gO' Y 5)), none, some (.int (zI x2)), some (.int (zI x3)), some (.int (zI x4)), some (.int (zI x5))] []) {u : hU} {S : gSt} {A0 : cS} {x2 : Int} {x3 : Int} {x4 : Int} {x5 : Int} (Rx2 : zR x2) (Rx3 : zR x3) (Rx4 : zR x4) (Rx5 : zR x5) (ho : yOk X b u) (hZ : yZ d b Y c F0 S0 u S A0) (hw : wc_Coder_assignment_24B rec Q k24 A0 x2 x3 x4 x5) : yG X d b (yQv X d b Y c F0 S0 mc ms Q) u 24 [some (.ref (gO' Y 5)), none, some (.int (zI x2)), some (.int (zI x3)), some (.int (zI x4)), some (.int (zI x5))] [] := by
  unfold wc_Coder_assignment_24B at hw
  refine h_iload hC dX1_assignment_24 rfl ?_
  refine h_iload_n hC dX1_assignment_26 rfl ?_
  refine yr_icmp_ge (tgt := 47) hC Rx5 Rx2 dX1_assignment_27 (by decide) (fun c1 => ?_) (fun c1 => ?_)
  · have h2 := hw.1 c1
    refine h_iconst (v := zI 0) hC dX1_assignment_47 rfl ?_
    refine h_istore (lv' := [some (.ref (gO' Y 5)), none, some (.int (zI x2)), some (.int (zI x3)), some (.int (zI x4)), some (.int (zI 0))]) hC dX1_assignment_48 (Nat.le_of_ble_eq_true rfl) rfl rfl ?_
    obtain ⟨m3, h4⟩ := h2
    exact cl_Coder_assignment_50 hC hr ih  m3 _ _ _ _ _ _ _ Rx2 Rx3 Rx4 (by decide) ho hZ h4
  · have h5 := hw.2 c1
    refine h_aload_n hC dX1_assignment_30 rfl ?_
    refine h_get hC fl_X1_65 (hZ.w.o 5 (by decide)) rfl dX1_assignment_31 ?_
    refine h_iload hC dX1_assignment_34 rfl ?_
    refine yr_callVi (As := [.int (zI x4)]) hC hr ho hZ rfl (hZ.w.o 2 (by decide)) (cm_Tree_next X.la d b Rx4 hZ.rs h5) cl_X1_142 rfl rfl (Nat.le_of_ble_eq_true rfl) (hFr_of (by omega) (Nat.le_of_ble_eq_true rfl)) dX1_assignment_36 (fun r6 A7 u8 S9 R10 o11 hZ12 h13 => ?_)
    refine h_istore (lv' := [some (.ref (gO' Y 5)), none, some (.int (zI x2)), some (.int (zI x3)), some (.int (zI r6)), some (.int (zI x5))]) hC dX1_assignment_39 (Nat.le_of_ble_eq_true rfl) rfl rfl ?_
    refine yr_iinc (x := x5) (lv' := [some (.ref (gO' Y 5)), none, some (.int (zI x2)), some (.int (zI x3)), some (.int (zI r6)), some (.int (zI (x5 + 1)))]) hC dX1_assignment_41 rfl rfl rfl ?_
    refine h_goto (tgt := 24) hC dX1_assignment_44 (by decide) ?_
    obtain ⟨o14, h15⟩ := h13
    exact hk24 _ _ _ _ _ _ _ Rx2 Rx3 R10 o14 o11 hZ12 h15
theorem cl_Coder_assignment_24 {X : gX} {d : gD} {b : Nat} {Y : gYt} {c : Nat × Nat} {F0 : gM} {S0 : gSt} {mc ms : Nat} {rec : Nat → Int → Int → Int → cS → (Int → cS → Prop) → Prop} {lv0 : Nat} (hC : gC RX1 cX1_assignment 6 none "assignment" (gR (630 + lv0 + 1) mc ms) d b X) (hr : hRm X b) (ih : yOkC X.la d b Y c lv0 rec) {Q : cS → Prop}   : ∀ (m : Nat) (u : hU) (S : gSt) (A0 : cS) (x2 : Int) (x3 : Int) (x4 : Int) (x5 : Int), zR x2 → zR x3 → zR x4 → zR x5 → yOk X b u → yZ d b Y c F0 S0 u S A0 → wc_Coder_assignment_24 rec Q  m A0 x2 x3 x4 x5 → yG X d b (yQv X d b Y c F0 S0 mc ms Q) u 24 [some (.ref (gO' Y 5)), none, some (.int (zI x2)), some (.int (zI x3)), some (.int (zI x4)), some (.int (zI x5))] [] := by
  intro m
  induction m with
  | zero => intro u S A0 x2 x3 x4 x5 Rx2 Rx3 Rx4 Rx5 ho hZ hw; exact False.elim hw
  | succ m ihm => intro u S A0 x2 x3 x4 x5 Rx2 Rx3 Rx4 Rx5 ho hZ hw; exact cb_Coder_assignment_24 hC hr ih  ihm Rx2 Rx3 Rx4 Rx5 ho hZ hw
set_option maxHeartbeats 4000000 in
set_option maxRecDepth 100000 in
theorem cm_Coder_assignment (l : Launch) (d : gD) (b : Nat) {Y : gYt} {c : Nat × Nat} {F : gM} {k n : Nat} {S : gSt} {A0 : cS} {rec : Nat → Int → Int → Int → cS → (Int → cS → Prop) → Prop} {lv0 : Nat} (ih : yOkC l d b Y c lv0 rec) {a0 : Int} (Ra0 : zR a0) {Q : cS → Prop} (hZ : yZ d b Y c F S (F, k, n) S A0) (hw : wc_Coder_assignment rec A0 a0 Q) : hMv l d b yX1_assignment cX1_assignment 6 (630 + lv0 + 1) k n F [.ref (gO' Y 5), .int (zI a0)] (yPv d b Y c F S Q) := by
  intro mc ms
  refine hM_of2 rfl (nL := 6) (Nat.le_of_ble_eq_true rfl) ?_
  intro X hX hC hr ho; subst hX
  show yG X d b (yQv X d b Y c F S mc ms Q) (F, k, n) 0 [some (.ref (gO' Y 5)), some (.int (zI a0)), none, none, none, none] []
  unfold wc_Coder_assignment at hw
  refine h_aload_n hC dX1_assignment_0 rfl ?_
  refine h_get hC fl_X1_65 (hZ.w.o 5 (by decide)) rfl dX1_assignment_1 ?_
  refine h_iload_n hC dX1_assignment_4 rfl ?_
  refine yr_callVi (As := [.int (zI a0)]) hC hr ho hZ rfl (hZ.w.o 2 (by decide)) (cm_Tree_data X.la d b Ra0 hZ.rs hw) cl_X1_129 rfl rfl (Nat.le_of_ble_eq_true rfl) (hFr_of (by omega) (Nat.le_of_ble_eq_true rfl)) dX1_assignment_5 (fun r1 A2 u3 S4 R5 o6 hZ7 h8 => ?_)
  refine h_istore_n (lv' := [some (.ref (gO' Y 5)), some (.int (zI a0)), some (.int (zI r1)), none, none, none]) hC dX1_assignment_8 (Nat.le_of_ble_eq_true rfl) rfl rfl ?_
  refine h_aload_n hC dX1_assignment_9 rfl ?_
  refine h_get hC fl_X1_65 (hZ7.w.o 5 (by decide)) rfl dX1_assignment_10 ?_
  refine h_iload_n hC dX1_assignment_13 rfl ?_
  refine yr_callVi (As := [.int (zI a0)]) hC hr o6 hZ7 rfl (hZ7.w.o 2 (by decide)) (cm_Tree_first X.la d b Ra0 hZ7.rs h8) cl_X1_126 rfl rfl (Nat.le_of_ble_eq_true rfl) (hFr_of (by omega) (Nat.le_of_ble_eq_true rfl)) dX1_assignment_14 (fun r9 A10 u11 S12 R13 o14 hZ15 h16 => ?_)
  refine h_istore_n (lv' := [some (.ref (gO' Y 5)), some (.int (zI a0)), some (.int (zI r1)), some (.int (zI r9)), none, none]) hC dX1_assignment_17 (Nat.le_of_ble_eq_true rfl) rfl rfl ?_
  refine h_iload_n hC dX1_assignment_18 rfl ?_
  refine h_istore (lv' := [some (.ref (gO' Y 5)), some (.int (zI a0)), some (.int (zI r1)), some (.int (zI r9)), some (.int (zI r9)), none]) hC dX1_assignment_19 (Nat.le_of_ble_eq_true rfl) rfl rfl ?_
  refine h_iconst (v := zI 0) hC dX1_assignment_21 rfl ?_
  refine h_istore (lv' := [some (.ref (gO' Y 5)), some (.int (zI a0)), some (.int (zI r1)), some (.int (zI r9)), some (.int (zI r9)), some (.int (zI 0))]) hC dX1_assignment_22 (Nat.le_of_ble_eq_true rfl) rfl rfl ?_
  refine h_lv (lv' := [some (.ref (gO' Y 5)), none, some (.int (zI r1)), some (.int (zI r9)), some (.int (zI r9)), some (.int (zI 0))]) ⟨rfl, rfl, rfl, rfl, rfl, trivial⟩ ?_
  obtain ⟨m17, h18⟩ := h16
  exact cl_Coder_assignment_24 hC hr ih  m17 _ _ _ _ _ _ _ R5 R13 R13 (by decide) o14 hZ15 h18
theorem dX1_conditional_0 : decode cX1_conditional 0 = .ok (.aload_n 0, 1) := by decide +kernel
theorem dX1_conditional_1 : decode cX1_conditional 1 = .ok (.getfield 65, 3) := by decide +kernel
theorem dX1_conditional_4 : decode cX1_conditional 4 = .ok (.iload_n 1, 1) := by decide +kernel
theorem dX1_conditional_5 : decode cX1_conditional 5 = .ok (.invokevirtual 126, 3) := by decide +kernel
theorem dX1_conditional_8 : decode cX1_conditional 8 = .ok (.istore_n 2, 1) := by decide +kernel
theorem dX1_conditional_9 : decode cX1_conditional 9 = .ok (.aload_n 0, 1) := by decide +kernel
theorem dX1_conditional_10 : decode cX1_conditional 10 = .ok (.getfield 65, 3) := by decide +kernel
theorem dX1_conditional_13 : decode cX1_conditional 13 = .ok (.iload_n 2, 1) := by decide +kernel
theorem dX1_conditional_14 : decode cX1_conditional 14 = .ok (.invokevirtual 142, 3) := by decide +kernel
theorem dX1_conditional_17 : decode cX1_conditional 17 = .ok (.istore_n 3, 1) := by decide +kernel
theorem dX1_conditional_18 : decode cX1_conditional 18 = .ok (.aload_n 0, 1) := by decide +kernel
theorem dX1_conditional_19 : decode cX1_conditional 19 = .ok (.iload_n 2, 1) := by decide +kernel
theorem dX1_conditional_20 : decode cX1_conditional 20 = .ok (.iconst 0, 1) := by decide +kernel
theorem dX1_conditional_21 : decode cX1_conditional 21 = .ok (.iconst 0, 1) := by decide +kernel
theorem dX1_conditional_22 : decode cX1_conditional 22 = .ok (.invokevirtual 188, 3) := by decide +kernel
theorem dX1_conditional_25 : decode cX1_conditional 25 = .ok (.aload_n 0, 1) := by decide +kernel
theorem dX1_conditional_26 : decode cX1_conditional 26 = .ok (.aload_n 0, 1) := by decide +kernel
theorem dX1_conditional_27 : decode cX1_conditional 27 = .ok (.getfield 65, 3) := by decide +kernel
theorem dX1_conditional_30 : decode cX1_conditional 30 = .ok (.iload_n 1, 1) := by decide +kernel
theorem dX1_conditional_31 : decode cX1_conditional 31 = .ok (.invokevirtual 121, 3) := by decide +kernel
theorem dX1_conditional_34 : decode cX1_conditional 34 = .ok (.bipush 37, 2) := by decide +kernel
theorem dX1_conditional_36 : decode cX1_conditional 36 = .ok (.if_icmp .ne 8, 3) := by decide +kernel
theorem dX1_conditional_39 : decode cX1_conditional 39 = .ok (.bipush 16, 2) := by decide +kernel
theorem dX1_conditional_41 : decode cX1_conditional 41 = .ok (.goto 5, 3) := by decide +kernel
theorem dX1_conditional_44 : decode cX1_conditional 44 = .ok (.bipush 15, 2) := by decide +kernel
theorem dX1_conditional_46 : decode cX1_conditional 46 = .ok (.iconst 0, 1) := by decide +kernel
theorem dX1_conditional_47 : decode cX1_conditional 47 = .ok (.invokevirtual 181, 3) := by decide +kernel
theorem dX1_conditional_50 : decode cX1_conditional 50 = .ok (.istore 4, 2) := by decide +kernel
theorem dX1_conditional_52 : decode cX1_conditional 52 = .ok (.aload_n 0, 1) := by decide +kernel
theorem dX1_conditional_53 : decode cX1_conditional 53 = .ok (.iload_n 3, 1) := by decide +kernel
theorem dX1_conditional_54 : decode cX1_conditional 54 = .ok (.invokevirtual 192, 3) := by decide +kernel
theorem dX1_conditional_57 : decode cX1_conditional 57 = .ok (.aload_n 0, 1) := by decide +kernel
theorem dX1_conditional_58 : decode cX1_conditional 58 = .ok (.getfield 65, 3) := by decide +kernel
theorem dX1_conditional_61 : decode cX1_conditional 61 = .ok (.iload_n 1, 1) := by decide +kernel
theorem dX1_conditional_62 : decode cX1_conditional 62 = .ok (.invokevirtual 121, 3) := by decide +kernel
theorem dX1_conditional_65 : decode cX1_conditional 65 = .ok (.bipush 38, 2) := by decide +kernel
theorem dX1_conditional_67 : decode cX1_conditional 67 = .ok (.if_icmp .ne 45, 3) := by decide +kernel
theorem dX1_conditional_70 : decode cX1_conditional 70 = .ok (.aload_n 0, 1) := by decide +kernel
theorem dX1_conditional_71 : decode cX1_conditional 71 = .ok (.bipush 14, 2) := by decide +kernel
theorem dX1_conditional_73 : decode cX1_conditional 73 = .ok (.iconst 0, 1) := by decide +kernel
theorem dX1_conditional_74 : decode cX1_conditional 74 = .ok (.invokevirtual 181, 3) := by decide +kernel
theorem dX1_conditional_77 : decode cX1_conditional 77 = .ok (.istore 5, 2) := by decide +kernel
theorem dX1_conditional_79 : decode cX1_conditional 79 = .ok (.aload_n 0, 1) := by decide +kernel
theorem dX1_conditional_80 : decode cX1_conditional 80 = .ok (.getfield 69, 3) := by decide +kernel
theorem dX1_conditional_83 : decode cX1_conditional 83 = .ok (.iload 4, 2) := by decide +kernel
theorem dX1_conditional_85 : decode cX1_conditional 85 = .ok (.invokevirtual 201, 3) := by decide +kernel
theorem dX1_conditional_88 : decode cX1_conditional 88 = .ok (.aload_n 0, 1) := by decide +kernel
theorem dX1_conditional_89 : decode cX1_conditional 89 = .ok (.aload_n 0, 1) := by decide +kernel
theorem dX1_conditional_90 : decode cX1_conditional 90 = .ok (.getfield 65, 3) := by decide +kernel
theorem dX1_conditional_93 : decode cX1_conditional 93 = .ok (.iload_n 3, 1) := by decide +kernel
theorem dX1_conditional_94 : decode cX1_conditional 94 = .ok (.invokevirtual 142, 3) := by decide +kernel
theorem dX1_conditional_97 : decode cX1_conditional 97 = .ok (.invokevirtual 192, 3) := by decide +kernel
theorem dX1_conditional_100 : decode cX1_conditional 100 = .ok (.aload_n 0, 1) := by decide +kernel
theorem dX1_conditional_101 : decode cX1_conditional 101 = .ok (.getfield 69, 3) := by decide +kernel
theorem dX1_conditional_104 : decode cX1_conditional 104 = .ok (.iload 5, 2) := by decide +kernel
theorem dX1_conditional_106 : decode cX1_conditional 106 = .ok (.invokevirtual 201, 3) := by decide +kernel
theorem dX1_conditional_109 : decode cX1_conditional 109 = .ok (.goto 12, 3) := by decide +kernel
theorem dX1_conditional_112 : decode cX1_conditional 112 = .ok (.aload_n 0, 1) := by decide +kernel
theorem dX1_conditional_113 : decode cX1_conditional 113 = .ok (.getfield 69, 3) := by decide +kernel
theorem dX1_conditional_116 : decode cX1_conditional 116 = .ok (.iload 4, 2) := by decide +kernel
theorem dX1_conditional_118 : decode cX1_conditional 118 = .ok (.invokevirtual 201, 3) := by decide +kernel
theorem dX1_conditional_121 : decode cX1_conditional 121 = .ok (.return_, 1) := by decide +kernel
def wc_Coder_conditional_46 (rec : Nat → Int → Int → Int → cS → (Int → cS → Prop) → Prop) (Q : cS → Prop)  (A0 : cS) (x1 : Int) (x3 : Int) (y0 : Int) : Prop :=
  wc_Coder_emit A0 y0 0 (fun r1 A2 => rec 4 x3 0 0 A2 (fun _ A10 => wc_Tree_kind A10 x1 (fun r17 A18 => ((¬ r17 = 38 → wc_Program_land A18 r1 (fun A28 => Q A28)) ∧ (r17 = 38 → wc_Coder_emit A18 14 0 (fun r36 A37 => wc_Program_land A37 r1 (fun A45 => wc_Tree_next A45 x3 (fun r52 A53 => rec 4 r52 0 0 A53 (fun _ A61 => wc_Program_land A61 r36 (fun A69 => Q A69))))))))))
def wc_Coder_conditional (rec : Nat → Int → Int → Int → cS → (Int → cS → Prop) → Prop) (A0 : cS) (a0 : Int) (Q : cS → Prop) : Prop :=
  wc_Tree_first A0 a0 (fun r1 A2 => wc_Tree_next A2 r1 (fun r9 A10 => rec 12 r1 0 0 A10 (fun _ A18 => wc_Tree_kind A18 a0 (fun r25 A26 => ((¬ r25 = 37 → wc_Coder_conditional_46 rec Q  A26 a0 r9 15) ∧ (r25 = 37 → wc_Coder_conditional_46 rec Q  A26 a0 r9 16))))))
set_option maxHeartbeats 4000000 in
set_option maxRecDepth 100000 in
theorem cj_Coder_conditional_46 {X : gX} {d : gD} {b : Nat} {Y : gYt} {c : Nat × Nat} {F0 : gM} {S0 : gSt} {mc ms : Nat} {rec : Nat → Int → Int → Int → cS → (Int → cS → Prop) → Prop} {lv0 : Nat} (hC : gC RX1 cX1_conditional 6 none "conditional" (gR (630 + lv0 + 1) mc ms) d b X) (hr : hRm X b) (ih : yOkC X.la d b Y c lv0 rec) {Q : cS → Prop}   {u : hU} {S : gSt} {A0 : cS} {x1 : Int} {x3 : Int} {y0 : Int} (Rx1 : zR x1) (Rx3 : zR x3) (Ry0 : zR y0) (ho : yOk X b u) (hZ : yZ d b Y c F0 S0 u S A0) (hw : wc_Coder_conditional_46 rec Q  A0 x1 x3 y0) : yG X d b (yQv X d b Y c F0 S0 mc ms Q) u 46 [some (.ref (gO' Y 5)), some (.int (zI x1)), none, some (.int (zI x3)), none, none] [.int (zI y0), .ref (gO' Y 5)] := by
  unfold wc_Coder_conditional_46 at hw
  refine h_iconst (v := zI 0) hC dX1_conditional_46 rfl ?_
  refine yr_callVi (As := [.int (zI y0), .int (zI 0)]) hC hr ho hZ rfl (hZ.w.o 5 (by decide)) (cm_Coder_emit X.la d b Ry0 (by decide) hZ.rs hw) cl_X1_181 rfl rfl (Nat.le_of_ble_eq_true rfl) (hFr_of (by omega) (Nat.le_of_ble_eq_true rfl)) dX1_conditional_47 (fun r1 A2 u3 S4 R5 o6 hZ7 h8 => ?_)
  refine h_istore (lv' := [some (.ref (gO' Y 5)), some (.int (zI x1)), none, some (.int (zI x3)), some (.int (zI r1)), none]) hC dX1_conditional_50 (Nat.le_of_ble_eq_true rfl) rfl rfl ?_
  refine h_aload_n hC dX1_conditional_52 rfl ?_
  refine h_iload_n hC dX1_conditional_53 rfl ?_
  refine yr_callVv (As := [.int (zI x3)]) hC hr o6 hZ7 rfl (hZ7.w.o 5 (by decide)) (ih.2.2.2.2.1 Rx3 hZ7.rs h8) cl_X1_192 rfl rfl (Nat.le_of_ble_eq_true rfl) (hFr_of (by omega) (Nat.le_of_ble_eq_true rfl)) dX1_conditional_54 (fun A10 u11 S12 o14 hZ15 h16 => ?_)
  refine h_aload_n hC dX1_conditional_57 rfl ?_
  refine h_get hC fl_X1_65 (hZ15.w.o 5 (by decide)) rfl dX1_conditional_58 ?_
  refine h_iload_n hC dX1_conditional_61 rfl ?_
  refine yr_callVi (As := [.int (zI x1)]) hC hr o14 hZ15 rfl (hZ15.w.o 2 (by decide)) (cm_Tree_kind X.la d b Rx1 hZ15.rs h16) cl_X1_121 rfl rfl (Nat.le_of_ble_eq_true rfl) (hFr_of (by omega) (Nat.le_of_ble_eq_true rfl)) dX1_conditional_62 (fun r17 A18 u19 S20 R21 o22 hZ23 h24 => ?_)
  refine h_bipush (v := zI 38) hC dX1_conditional_65 rfl ?_
  refine yr_icmp_ne (tgt := 112) hC R21 (by decide) dX1_conditional_67 (by decide) (fun c25 => ?_) (fun c25 => ?_)
  · have h26 := h24.1 c25
    refine h_aload_n hC dX1_conditional_112 rfl ?_
    refine h_get hC fl_X1_69 (hZ23.w.o 5 (by decide)) rfl dX1_conditional_113 ?_
    refine h_iload hC dX1_conditional_116 rfl ?_
    refine yr_callVv (As := [.int (zI r1)]) hC hr o22 hZ23 rfl (hZ23.w.o 1 (by decide)) (cm_Program_land X.la d b R5 hZ23.rs h26) cl_X1_201 rfl rfl (Nat.le_of_ble_eq_true rfl) (hFr_of (by omega) (Nat.le_of_ble_eq_true rfl)) dX1_conditional_118 (fun A28 u29 S30 o32 hZ33 h34 => ?_)
    exact yr_vret hC hr o32 hZ33 h34 dX1_conditional_121
  · have h35 := h24.2 c25
    refine h_aload_n hC dX1_conditional_70 rfl ?_
    refine h_bipush (v := zI 14) hC dX1_conditional_71 rfl ?_
    refine h_iconst (v := zI 0) hC dX1_conditional_73 rfl ?_
    refine yr_callVi (As := [.int (zI 14), .int (zI 0)]) hC hr o22 hZ23 rfl (hZ23.w.o 5 (by decide)) (cm_Coder_emit X.la d b (by decide) (by decide) hZ23.rs h35) cl_X1_181 rfl rfl (Nat.le_of_ble_eq_true rfl) (hFr_of (by omega) (Nat.le_of_ble_eq_true rfl)) dX1_conditional_74 (fun r36 A37 u38 S39 R40 o41 hZ42 h43 => ?_)
    refine h_istore (lv' := [some (.ref (gO' Y 5)), some (.int (zI x1)), none, some (.int (zI x3)), some (.int (zI r1)), some (.int (zI r36))]) hC dX1_conditional_77 (Nat.le_of_ble_eq_true rfl) rfl rfl ?_
    refine h_aload_n hC dX1_conditional_79 rfl ?_
    refine h_get hC fl_X1_69 (hZ42.w.o 5 (by decide)) rfl dX1_conditional_80 ?_
    refine h_iload hC dX1_conditional_83 rfl ?_
    refine yr_callVv (As := [.int (zI r1)]) hC hr o41 hZ42 rfl (hZ42.w.o 1 (by decide)) (cm_Program_land X.la d b R5 hZ42.rs h43) cl_X1_201 rfl rfl (Nat.le_of_ble_eq_true rfl) (hFr_of (by omega) (Nat.le_of_ble_eq_true rfl)) dX1_conditional_85 (fun A45 u46 S47 o49 hZ50 h51 => ?_)
    refine h_aload_n hC dX1_conditional_88 rfl ?_
    refine h_aload_n hC dX1_conditional_89 rfl ?_
    refine h_get hC fl_X1_65 (hZ50.w.o 5 (by decide)) rfl dX1_conditional_90 ?_
    refine h_iload_n hC dX1_conditional_93 rfl ?_
    refine yr_callVi (As := [.int (zI x3)]) hC hr o49 hZ50 rfl (hZ50.w.o 2 (by decide)) (cm_Tree_next X.la d b Rx3 hZ50.rs h51) cl_X1_142 rfl rfl (Nat.le_of_ble_eq_true rfl) (hFr_of (by omega) (Nat.le_of_ble_eq_true rfl)) dX1_conditional_94 (fun r52 A53 u54 S55 R56 o57 hZ58 h59 => ?_)
    refine yr_callVv (As := [.int (zI r52)]) hC hr o57 hZ58 rfl (hZ58.w.o 5 (by decide)) (ih.2.2.2.2.1 R56 hZ58.rs h59) cl_X1_192 rfl rfl (Nat.le_of_ble_eq_true rfl) (hFr_of (by omega) (Nat.le_of_ble_eq_true rfl)) dX1_conditional_97 (fun A61 u62 S63 o65 hZ66 h67 => ?_)
    refine h_aload_n hC dX1_conditional_100 rfl ?_
    refine h_get hC fl_X1_69 (hZ66.w.o 5 (by decide)) rfl dX1_conditional_101 ?_
    refine h_iload hC dX1_conditional_104 rfl ?_
    refine yr_callVv (As := [.int (zI r36)]) hC hr o65 hZ66 rfl (hZ66.w.o 1 (by decide)) (cm_Program_land X.la d b R40 hZ66.rs h67) cl_X1_201 rfl rfl (Nat.le_of_ble_eq_true rfl) (hFr_of (by omega) (Nat.le_of_ble_eq_true rfl)) dX1_conditional_106 (fun A69 u70 S71 o73 hZ74 h75 => ?_)
    refine h_goto (tgt := 121) hC dX1_conditional_109 (by decide) ?_
    exact yr_vret hC hr o73 hZ74 h75 dX1_conditional_121
set_option maxHeartbeats 4000000 in
set_option maxRecDepth 100000 in
theorem cm_Coder_conditional (l : Launch) (d : gD) (b : Nat) {Y : gYt} {c : Nat × Nat} {F : gM} {k n : Nat} {S : gSt} {A0 : cS} {rec : Nat → Int → Int → Int → cS → (Int → cS → Prop) → Prop} {lv0 : Nat} (ih : yOkC l d b Y c lv0 rec) {a0 : Int} (Ra0 : zR a0) {Q : cS → Prop} (hZ : yZ d b Y c F S (F, k, n) S A0) (hw : wc_Coder_conditional rec A0 a0 Q) : hMv l d b yX1_conditional cX1_conditional 6 (630 + lv0 + 1) k n F [.ref (gO' Y 5), .int (zI a0)] (yPv d b Y c F S Q) := by
  intro mc ms
  refine hM_of2 rfl (nL := 6) (Nat.le_of_ble_eq_true rfl) ?_
  intro X hX hC hr ho; subst hX
  show yG X d b (yQv X d b Y c F S mc ms Q) (F, k, n) 0 [some (.ref (gO' Y 5)), some (.int (zI a0)), none, none, none, none] []
  unfold wc_Coder_conditional at hw
  refine h_aload_n hC dX1_conditional_0 rfl ?_
  refine h_get hC fl_X1_65 (hZ.w.o 5 (by decide)) rfl dX1_conditional_1 ?_
  refine h_iload_n hC dX1_conditional_4 rfl ?_
  refine yr_callVi (As := [.int (zI a0)]) hC hr ho hZ rfl (hZ.w.o 2 (by decide)) (cm_Tree_first X.la d b Ra0 hZ.rs hw) cl_X1_126 rfl rfl (Nat.le_of_ble_eq_true rfl) (hFr_of (by omega) (Nat.le_of_ble_eq_true rfl)) dX1_conditional_5 (fun r1 A2 u3 S4 R5 o6 hZ7 h8 => ?_)
  refine h_istore_n (lv' := [some (.ref (gO' Y 5)), some (.int (zI a0)), some (.int (zI r1)), none, none, none]) hC dX1_conditional_8 (Nat.le_of_ble_eq_true rfl) rfl rfl ?_
  refine h_aload_n hC dX1_conditional_9 rfl ?_
  refine h_get hC fl_X1_65 (hZ7.w.o 5 (by decide)) rfl dX1_conditional_10 ?_
  refine h_iload_n hC dX1_conditional_13 rfl ?_
  refine yr_callVi (As := [.int (zI r1)]) hC hr o6 hZ7 rfl (hZ7.w.o 2 (by decide)) (cm_Tree_next X.la d b R5 hZ7.rs h8) cl_X1_142 rfl rfl (Nat.le_of_ble_eq_true rfl) (hFr_of (by omega) (Nat.le_of_ble_eq_true rfl)) dX1_conditional_14 (fun r9 A10 u11 S12 R13 o14 hZ15 h16 => ?_)
  refine h_istore_n (lv' := [some (.ref (gO' Y 5)), some (.int (zI a0)), some (.int (zI r1)), some (.int (zI r9)), none, none]) hC dX1_conditional_17 (Nat.le_of_ble_eq_true rfl) rfl rfl ?_
  refine h_aload_n hC dX1_conditional_18 rfl ?_
  refine h_iload_n hC dX1_conditional_19 rfl ?_
  refine h_iconst (v := zI 0) hC dX1_conditional_20 rfl ?_
  refine h_iconst (v := zI 0) hC dX1_conditional_21 rfl ?_
  refine yr_callVv (As := [.int (zI r1), .int (zI 0), .int (zI 0)]) hC hr o14 hZ15 rfl (hZ15.w.o 5 (by decide)) (ih.2.2.2.2.2.2.2.2.2.2.2.2.1 R5 (by decide) (by decide) hZ15.rs h16) cl_X1_188 rfl rfl (Nat.le_of_ble_eq_true rfl) (hFr_of (by omega) (Nat.le_of_ble_eq_true rfl)) dX1_conditional_22 (fun A18 u19 S20 o22 hZ23 h24 => ?_)
  refine h_aload_n hC dX1_conditional_25 rfl ?_
  refine h_aload_n hC dX1_conditional_26 rfl ?_
  refine h_get hC fl_X1_65 (hZ23.w.o 5 (by decide)) rfl dX1_conditional_27 ?_
  refine h_iload_n hC dX1_conditional_30 rfl ?_
  refine yr_callVi (As := [.int (zI a0)]) hC hr o22 hZ23 rfl (hZ23.w.o 2 (by decide)) (cm_Tree_kind X.la d b Ra0 hZ23.rs h24) cl_X1_121 rfl rfl (Nat.le_of_ble_eq_true rfl) (hFr_of (by omega) (Nat.le_of_ble_eq_true rfl)) dX1_conditional_31 (fun r25 A26 u27 S28 R29 o30 hZ31 h32 => ?_)
  refine h_bipush (v := zI 37) hC dX1_conditional_34 rfl ?_
  refine yr_icmp_ne (tgt := 44) hC R29 (by decide) dX1_conditional_36 (by decide) (fun c33 => ?_) (fun c33 => ?_)
  · have h34 := h32.1 c33
    refine h_bipush (v := zI 15) hC dX1_conditional_44 rfl ?_
    refine h_lv (lv' := [some (.ref (gO' Y 5)), some (.int (zI a0)), none, some (.int (zI r9)), none, none]) ⟨rfl, rfl, rfl, trivial⟩ ?_
    exact cj_Coder_conditional_46 hC hr ih  Ra0 R13 (by decide) o30 hZ31 h34
  · have h35 := h32.2 c33
    refine h_bipush (v := zI 16) hC dX1_conditional_39 rfl ?_
    refine h_goto (tgt := 46) hC dX1_conditional_41 (by decide) ?_
    refine h_lv (lv' := [some (.ref (gO' Y 5)), some (.int (zI a0)), none, some (.int (zI r9)), none, none]) ⟨rfl, rfl, rfl, trivial⟩ ?_
    exact cj_Coder_conditional_46 hC hr ih  Ra0 R13 (by decide) o30 hZ31 h35
theorem dX1_asking_0 : decode cX1_asking 0 = .ok (.aload_n 0, 1) := by decide +kernel
theorem dX1_asking_1 : decode cX1_asking 1 = .ok (.getfield 27, 3) := by decide +kernel
theorem dX1_asking_4 : decode cX1_asking 4 = .ok (.istore_n 2, 1) := by decide +kernel
theorem dX1_asking_5 : decode cX1_asking 5 = .ok (.aload_n 0, 1) := by decide +kernel
theorem dX1_asking_6 : decode cX1_asking 6 = .ok (.getfield 31, 3) := by decide +kernel
theorem dX1_asking_9 : decode cX1_asking 9 = .ok (.istore_n 3, 1) := by decide +kernel
theorem dX1_asking_10 : decode cX1_asking 10 = .ok (.aload_n 0, 1) := by decide +kernel
theorem dX1_asking_11 : decode cX1_asking 11 = .ok (.getfield 65, 3) := by decide +kernel
theorem dX1_asking_14 : decode cX1_asking 14 = .ok (.iload_n 1, 1) := by decide +kernel
theorem dX1_asking_15 : decode cX1_asking 15 = .ok (.invokevirtual 126, 3) := by decide +kernel
theorem dX1_asking_18 : decode cX1_asking 18 = .ok (.istore 4, 2) := by decide +kernel
theorem dX1_asking_20 : decode cX1_asking 20 = .ok (.aload_n 0, 1) := by decide +kernel
theorem dX1_asking_21 : decode cX1_asking 21 = .ok (.getfield 69, 3) := by decide +kernel
theorem dX1_asking_24 : decode cX1_asking 24 = .ok (.invokevirtual 220, 3) := by decide +kernel
theorem dX1_asking_27 : decode cX1_asking 27 = .ok (.istore 5, 2) := by decide +kernel
theorem dX1_asking_29 : decode cX1_asking 29 = .ok (.aload_n 0, 1) := by decide +kernel
theorem dX1_asking_30 : decode cX1_asking 30 = .ok (.bipush 18, 2) := by decide +kernel
theorem dX1_asking_32 : decode cX1_asking 32 = .ok (.iconst 1, 1) := by decide +kernel
theorem dX1_asking_33 : decode cX1_asking 33 = .ok (.invokevirtual 181, 3) := by decide +kernel
theorem dX1_asking_36 : decode cX1_asking 36 = .ok (.pop, 1) := by decide +kernel
theorem dX1_asking_37 : decode cX1_asking 37 = .ok (.aload_n 0, 1) := by decide +kernel
theorem dX1_asking_38 : decode cX1_asking 38 = .ok (.iload 4, 2) := by decide +kernel
theorem dX1_asking_40 : decode cX1_asking 40 = .ok (.iconst 0, 1) := by decide +kernel
theorem dX1_asking_41 : decode cX1_asking 41 = .ok (.iconst 0, 1) := by decide +kernel
theorem dX1_asking_42 : decode cX1_asking 42 = .ok (.invokevirtual 188, 3) := by decide +kernel
theorem dX1_asking_45 : decode cX1_asking 45 = .ok (.aload_n 0, 1) := by decide +kernel
theorem dX1_asking_46 : decode cX1_asking 46 = .ok (.aload_n 0, 1) := by decide +kernel
theorem dX1_asking_47 : decode cX1_asking 47 = .ok (.aload_n 0, 1) := by decide +kernel
theorem dX1_asking_48 : decode cX1_asking 48 = .ok (.getfield 65, 3) := by decide +kernel
theorem dX1_asking_51 : decode cX1_asking 51 = .ok (.iload_n 1, 1) := by decide +kernel
theorem dX1_asking_52 : decode cX1_asking 52 = .ok (.invokevirtual 121, 3) := by decide +kernel
theorem dX1_asking_55 : decode cX1_asking 55 = .ok (.bipush 39, 2) := by decide +kernel
theorem dX1_asking_57 : decode cX1_asking 57 = .ok (.if_icmp .ne 8, 3) := by decide +kernel
theorem dX1_asking_60 : decode cX1_asking 60 = .ok (.bipush 15, 2) := by decide +kernel
theorem dX1_asking_62 : decode cX1_asking 62 = .ok (.goto 5, 3) := by decide +kernel
theorem dX1_asking_65 : decode cX1_asking 65 = .ok (.bipush 16, 2) := by decide +kernel
theorem dX1_asking_67 : decode cX1_asking 67 = .ok (.iconst 0, 1) := by decide +kernel
theorem dX1_asking_68 : decode cX1_asking 68 = .ok (.invokevirtual 181, 3) := by decide +kernel
theorem dX1_asking_71 : decode cX1_asking 71 = .ok (.putfield 27, 3) := by decide +kernel
theorem dX1_asking_74 : decode cX1_asking 74 = .ok (.aload_n 0, 1) := by decide +kernel
theorem dX1_asking_75 : decode cX1_asking 75 = .ok (.iconst 0, 1) := by decide +kernel
theorem dX1_asking_76 : decode cX1_asking 76 = .ok (.putfield 31, 3) := by decide +kernel
theorem dX1_asking_79 : decode cX1_asking 79 = .ok (.aload_n 0, 1) := by decide +kernel
theorem dX1_asking_80 : decode cX1_asking 80 = .ok (.aload_n 0, 1) := by decide +kernel
theorem dX1_asking_81 : decode cX1_asking 81 = .ok (.getfield 65, 3) := by decide +kernel
theorem dX1_asking_84 : decode cX1_asking 84 = .ok (.iload 4, 2) := by decide +kernel
theorem dX1_asking_86 : decode cX1_asking 86 = .ok (.invokevirtual 142, 3) := by decide +kernel
theorem dX1_asking_89 : decode cX1_asking 89 = .ok (.invokevirtual 192, 3) := by decide +kernel
theorem dX1_asking_92 : decode cX1_asking 92 = .ok (.aload_n 0, 1) := by decide +kernel
theorem dX1_asking_93 : decode cX1_asking 93 = .ok (.bipush 14, 2) := by decide +kernel
theorem dX1_asking_95 : decode cX1_asking 95 = .ok (.iload 5, 2) := by decide +kernel
theorem dX1_asking_97 : decode cX1_asking 97 = .ok (.invokevirtual 181, 3) := by decide +kernel
theorem dX1_asking_100 : decode cX1_asking 100 = .ok (.pop, 1) := by decide +kernel
theorem dX1_asking_101 : decode cX1_asking 101 = .ok (.aload_n 0, 1) := by decide +kernel
theorem dX1_asking_102 : decode cX1_asking 102 = .ok (.getfield 69, 3) := by decide +kernel
theorem dX1_asking_105 : decode cX1_asking 105 = .ok (.aload_n 0, 1) := by decide +kernel
theorem dX1_asking_106 : decode cX1_asking 106 = .ok (.getfield 31, 3) := by decide +kernel
theorem dX1_asking_109 : decode cX1_asking 109 = .ok (.iload 5, 2) := by decide +kernel
theorem dX1_asking_111 : decode cX1_asking 111 = .ok (.invokevirtual 273, 3) := by decide +kernel
theorem dX1_asking_114 : decode cX1_asking 114 = .ok (.aload_n 0, 1) := by decide +kernel
theorem dX1_asking_115 : decode cX1_asking 115 = .ok (.getfield 69, 3) := by decide +kernel
theorem dX1_asking_118 : decode cX1_asking 118 = .ok (.aload_n 0, 1) := by decide +kernel
theorem dX1_asking_119 : decode cX1_asking 119 = .ok (.getfield 27, 3) := by decide +kernel
theorem dX1_asking_122 : decode cX1_asking 122 = .ok (.invokevirtual 201, 3) := by decide +kernel
theorem dX1_asking_125 : decode cX1_asking 125 = .ok (.aload_n 0, 1) := by decide +kernel
theorem dX1_asking_126 : decode cX1_asking 126 = .ok (.iload_n 2, 1) := by decide +kernel
theorem dX1_asking_127 : decode cX1_asking 127 = .ok (.putfield 27, 3) := by decide +kernel
theorem dX1_asking_130 : decode cX1_asking 130 = .ok (.aload_n 0, 1) := by decide +kernel
theorem dX1_asking_131 : decode cX1_asking 131 = .ok (.iload_n 3, 1) := by decide +kernel
theorem dX1_asking_132 : decode cX1_asking 132 = .ok (.putfield 31, 3) := by decide +kernel
theorem dX1_asking_135 : decode cX1_asking 135 = .ok (.return_, 1) := by decide +kernel
def wc_Coder_asking_67 (rec : Nat → Int → Int → Int → cS → (Int → cS → Prop) → Prop) (Q : cS → Prop)  (A0 : cS) (x2 : Int) (x3 : Int) (x4 : Int) (x5 : Int) (y0 : Int) : Prop :=
  wc_Coder_emit A0 y0 0 (fun r1 A2 => wc_Tree_next (ypv (ypv A2 13 r1) 14 0) x4 (fun r31 A32 => rec 4 r31 0 0 A32 (fun _ A40 => wc_Coder_emit A40 14 x5 (fun r47 A48 => wc_Program_landAt A48 (yv A48 14) x5 (fun A56 => wc_Program_land A56 (yv A56 13) (fun A64 => Q (ypv (ypv A64 13 x2) 14 x3)))))))
def wc_Coder_asking (rec : Nat → Int → Int → Int → cS → (Int → cS → Prop) → Prop) (A0 : cS) (a0 : Int) (Q : cS → Prop) : Prop :=
  wc_Tree_first A0 a0 (fun r1 A2 => wc_Program_here A2  (fun r9 A10 => wc_Coder_emit A10 18 1 (fun r17 A18 => rec 12 r1 0 0 A18 (fun _ A26 => wc_Tree_kind A26 a0 (fun r33 A34 => ((¬ r33 = 39 → wc_Coder_asking_67 rec Q  A34 (yv A0 13) (yv A0 14) r1 r9 16) ∧ (r33 = 39 → wc_Coder_asking_67 rec Q  A34 (yv A0 13) (yv A0 14) r1 r9 15)))))))
set_option maxHeartbeats 4000000 in
set_option maxRecDepth 100000 in
theorem cj_Coder_asking_67 {X : gX} {d : gD} {b : Nat} {Y : gYt} {c : Nat × Nat} {F0 : gM} {S0 : gSt} {mc ms : Nat} {rec : Nat → Int → Int → Int → cS → (Int → cS → Prop) → Prop} {lv0 : Nat} (hC : gC RX1 cX1_asking 6 none "asking" (gR (630 + lv0 + 1) mc ms) d b X) (hr : hRm X b) (ih : yOkC X.la d b Y c lv0 rec) {Q : cS → Prop}   {u : hU} {S : gSt} {A0 : cS} {x2 : Int} {x3 : Int} {x4 : Int} {x5 : Int} {y0 : Int} (Rx2 : zR x2) (Rx3 : zR x3) (Rx4 : zR x4) (Rx5 : zR x5) (Ry0 : zR y0) (ho : yOk X b u) (hZ : yZ d b Y c F0 S0 u S A0) (hw : wc_Coder_asking_67 rec Q  A0 x2 x3 x4 x5 y0) : yG X d b (yQv X d b Y c F0 S0 mc ms Q) u 67 [some (.ref (gO' Y 5)), none, some (.int (zI x2)), some (.int (zI x3)), some (.int (zI x4)), some (.int (zI x5))] [.int (zI y0), .ref (gO' Y 5), .ref (gO' Y 5)] := by
  unfold wc_Coder_asking_67 at hw
  refine h_iconst (v := zI 0) hC dX1_asking_67 rfl ?_
  refine yr_callVi (As := [.int (zI y0), .int (zI 0)]) hC hr ho hZ rfl (hZ.w.o 5 (by decide)) (cm_Coder_emit X.la d b Ry0 (by decide) hZ.rs hw) cl_X1_181 rfl rfl (Nat.le_of_ble_eq_true rfl) (hFr_of (by omega) (Nat.le_of_ble_eq_true rfl)) dX1_asking_68 (fun r1 A2 u3 S4 R5 o6 hZ7 h8 => ?_)
  refine hi_putx (i := 5) (kx := 13) hC hZ7.hi (by decide) fl_X1_27 rfl rfl rfl (Nat.le_of_ble_eq_true rfl) rfl gsame_13 (fun q => absurd q (by decide)) dX1_asking_71 (fun F9 S10 I11 K12 s13 v14 p15 => ?_)
  have hZ16 := hZ7.put I11 K12 s13 v14 R5 rfl
  clear I11 K12 s13 v14 p15
  refine yr_nu o6 hZ16 (fun u17 o18 hZ19 => ?_)
  refine h_aload_n hC dX1_asking_74 rfl ?_
  refine h_iconst (v := zI 0) hC dX1_asking_75 rfl ?_
  refine hi_putx (i := 5) (kx := 14) hC hZ19.hi (by decide) fl_X1_31 rfl rfl rfl (Nat.le_of_ble_eq_true rfl) rfl gsame_14 (fun q => absurd q (by decide)) dX1_asking_76 (fun F20 S21 I22 K23 s24 v25 p26 => ?_)
  have hZ27 := hZ19.put I22 K23 s24 v25 (by decide) rfl
  clear I22 K23 s24 v25 p26
  refine yr_nu o18 hZ27 (fun u28 o29 hZ30 => ?_)
  refine h_aload_n hC dX1_asking_79 rfl ?_
  refine h_aload_n hC dX1_asking_80 rfl ?_
  refine h_get hC fl_X1_65 (hZ30.w.o 5 (by decide)) rfl dX1_asking_81 ?_
  refine h_iload hC dX1_asking_84 rfl ?_
  refine yr_callVi (As := [.int (zI x4)]) hC hr o29 hZ30 rfl (hZ30.w.o 2 (by decide)) (cm_Tree_next X.la d b Rx4 hZ30.rs h8) cl_X1_142 rfl rfl (Nat.le_of_ble_eq_true rfl) (hFr_of (by omega) (Nat.le_of_ble_eq_true rfl)) dX1_asking_86 (fun r31 A32 u33 S34 R35 o36 hZ37 h38 => ?_)
  refine yr_callVv (As := [.int (zI r31)]) hC hr o36 hZ37 rfl (hZ37.w.o 5 (by decide)) (ih.2.2.2.2.1 R35 hZ37.rs h38) cl_X1_192 rfl rfl (Nat.le_of_ble_eq_true rfl) (hFr_of (by omega) (Nat.le_of_ble_eq_true rfl)) dX1_asking_89 (fun A40 u41 S42 o44 hZ45 h46 => ?_)
  refine h_aload_n hC dX1_asking_92 rfl ?_
  refine h_bipush (v := zI 14) hC dX1_asking_93 rfl ?_
  refine h_iload hC dX1_asking_95 rfl ?_
  refine yr_callVi (As := [.int (zI 14), .int (zI x5)]) hC hr o44 hZ45 rfl (hZ45.w.o 5 (by decide)) (cm_Coder_emit X.la d b (by decide) Rx5 hZ45.rs h46) cl_X1_181 rfl rfl (Nat.le_of_ble_eq_true rfl) (hFr_of (by omega) (Nat.le_of_ble_eq_true rfl)) dX1_asking_97 (fun r47 A48 u49 S50 R51 o52 hZ53 h54 => ?_)
  refine h_pop hC dX1_asking_100 rfl ?_
  refine h_aload_n hC dX1_asking_101 rfl ?_
  refine h_get hC fl_X1_69 (hZ53.w.o 5 (by decide)) rfl dX1_asking_102 ?_
  refine h_aload_n hC dX1_asking_105 rfl ?_
  refine h_get hC fl_X1_31 (hZ53.w.o 5 (by decide)) rfl dX1_asking_106 ?_
  refine yr_sv (e := (yv A48 14)) hZ53 14 rfl ?_
  refine h_iload hC dX1_asking_109 rfl ?_
  refine yr_callVv (As := [.int (zI (yv A48 14)), .int (zI x5)]) hC hr o52 hZ53 rfl (hZ53.w.o 1 (by decide)) (cm_Program_landAt X.la d b (hZ53.rv 14) Rx5 hZ53.rs h54) cl_X1_273 rfl rfl (Nat.le_of_ble_eq_true rfl) (hFr_of (by omega) (Nat.le_of_ble_eq_true rfl)) dX1_asking_111 (fun A56 u57 S58 o60 hZ61 h62 => ?_)
  refine h_aload_n hC dX1_asking_114 rfl ?_
  refine h_get hC fl_X1_69 (hZ61.w.o 5 (by decide)) rfl dX1_asking_115 ?_
  refine h_aload_n hC dX1_asking_118 rfl ?_
  refine h_get hC fl_X1_27 (hZ61.w.o 5 (by decide)) rfl dX1_asking_119 ?_
  refine yr_sv (e := (yv A56 13)) hZ61 13 rfl ?_
  refine yr_callVv (As := [.int (zI (yv A56 13))]) hC hr o60 hZ61 rfl (hZ61.w.o 1 (by decide)) (cm_Program_land X.la d b (hZ61.rv 13) hZ61.rs h62) cl_X1_201 rfl rfl (Nat.le_of_ble_eq_true rfl) (hFr_of (by omega) (Nat.le_of_ble_eq_true rfl)) dX1_asking_122 (fun A64 u65 S66 o68 hZ69 h70 => ?_)
  refine h_aload_n hC dX1_asking_125 rfl ?_
  refine h_iload_n hC dX1_asking_126 rfl ?_
  refine hi_putx (i := 5) (kx := 13) hC hZ69.hi (by decide) fl_X1_27 rfl rfl rfl (Nat.le_of_ble_eq_true rfl) rfl gsame_13 (fun q => absurd q (by decide)) dX1_asking_127 (fun F71 S72 I73 K74 s75 v76 p77 => ?_)
  have hZ78 := hZ69.put I73 K74 s75 v76 Rx2 rfl
  clear I73 K74 s75 v76 p77
  refine yr_nu o68 hZ78 (fun u79 o80 hZ81 => ?_)
  refine h_aload_n hC dX1_asking_130 rfl ?_
  refine h_iload_n hC dX1_asking_131 rfl ?_
  refine hi_putx (i := 5) (kx := 14) hC hZ81.hi (by decide) fl_X1_31 rfl rfl rfl (Nat.le_of_ble_eq_true rfl) rfl gsame_14 (fun q => absurd q (by decide)) dX1_asking_132 (fun F82 S83 I84 K85 s86 v87 p88 => ?_)
  have hZ89 := hZ81.put I84 K85 s86 v87 Rx3 rfl
  clear I84 K85 s86 v87 p88
  refine yr_nu o80 hZ89 (fun u90 o91 hZ92 => ?_)
  exact yr_vret hC hr o91 hZ92 h70 dX1_asking_135
set_option maxHeartbeats 4000000 in
set_option maxRecDepth 100000 in
theorem cm_Coder_asking (l : Launch) (d : gD) (b : Nat) {Y : gYt} {c : Nat × Nat} {F : gM} {k n : Nat} {S : gSt} {A0 : cS} {rec : Nat → Int → Int → Int → cS → (Int → cS → Prop) → Prop} {lv0 : Nat} (ih : yOkC l d b Y c lv0 rec) {a0 : Int} (Ra0 : zR a0) {Q : cS → Prop} (hZ : yZ d b Y c F S (F, k, n) S A0) (hw : wc_Coder_asking rec A0 a0 Q) : hMv l d b yX1_asking cX1_asking 6 (630 + lv0 + 1) k n F [.ref (gO' Y 5), .int (zI a0)] (yPv d b Y c F S Q) := by
  intro mc ms
  refine hM_of2 rfl (nL := 6) (Nat.le_of_ble_eq_true rfl) ?_
  intro X hX hC hr ho; subst hX
  show yG X d b (yQv X d b Y c F S mc ms Q) (F, k, n) 0 [some (.ref (gO' Y 5)), some (.int (zI a0)), none, none, none, none] []
  unfold wc_Coder_asking at hw
  refine h_aload_n hC dX1_asking_0 rfl ?_
  refine h_get hC fl_X1_27 (hZ.w.o 5 (by decide)) rfl dX1_asking_1 ?_
  refine yr_sv (e := (yv A0 13)) hZ 13 rfl ?_
  refine h_istore_n (lv' := [some (.ref (gO' Y 5)), some (.int (zI a0)), some (.int (zI (yv A0 13))), none, none, none]) hC dX1_asking_4 (Nat.le_of_ble_eq_true rfl) rfl rfl ?_
  refine h_aload_n hC dX1_asking_5 rfl ?_
  refine h_get hC fl_X1_31 (hZ.w.o 5 (by decide)) rfl dX1_asking_6 ?_
  refine yr_sv (e := (yv A0 14)) hZ 14 rfl ?_
  refine h_istore_n (lv' := [some (.ref (gO' Y 5)), some (.int (zI a0)), some (.int (zI (yv A0 13))), some (.int (zI (yv A0 14))), none, none]) hC dX1_asking_9 (Nat.le_of_ble_eq_true rfl) rfl rfl ?_
  refine h_aload_n hC dX1_asking_10 rfl ?_
  refine h_get hC fl_X1_65 (hZ.w.o 5 (by decide)) rfl dX1_asking_11 ?_
  refine h_iload_n hC dX1_asking_14 rfl ?_
  refine yr_callVi (As := [.int (zI a0)]) hC hr ho hZ rfl (hZ.w.o 2 (by decide)) (cm_Tree_first X.la d b Ra0 hZ.rs hw) cl_X1_126 rfl rfl (Nat.le_of_ble_eq_true rfl) (hFr_of (by omega) (Nat.le_of_ble_eq_true rfl)) dX1_asking_15 (fun r1 A2 u3 S4 R5 o6 hZ7 h8 => ?_)
  refine h_istore (lv' := [some (.ref (gO' Y 5)), some (.int (zI a0)), some (.int (zI (yv A0 13))), some (.int (zI (yv A0 14))), some (.int (zI r1)), none]) hC dX1_asking_18 (Nat.le_of_ble_eq_true rfl) rfl rfl ?_
  refine h_aload_n hC dX1_asking_20 rfl ?_
  refine h_get hC fl_X1_69 (hZ7.w.o 5 (by decide)) rfl dX1_asking_21 ?_
  refine yr_callVi (As := []) hC hr o6 hZ7 rfl (hZ7.w.o 1 (by decide)) (cm_Program_here X.la d b  hZ7.rs h8) cl_X1_220 rfl rfl (Nat.le_of_ble_eq_true rfl) (hFr_of (by omega) (Nat.le_of_ble_eq_true rfl)) dX1_asking_24 (fun r9 A10 u11 S12 R13 o14 hZ15 h16 => ?_)
  refine h_istore (lv' := [some (.ref (gO' Y 5)), some (.int (zI a0)), some (.int (zI (yv A0 13))), some (.int (zI (yv A0 14))), some (.int (zI r1)), some (.int (zI r9))]) hC dX1_asking_27 (Nat.le_of_ble_eq_true rfl) rfl rfl ?_
  refine h_aload_n hC dX1_asking_29 rfl ?_
  refine h_bipush (v := zI 18) hC dX1_asking_30 rfl ?_
  refine h_iconst (v := zI 1) hC dX1_asking_32 rfl ?_
  refine yr_callVi (As := [.int (zI 18), .int (zI 1)]) hC hr o14 hZ15 rfl (hZ15.w.o 5 (by decide)) (cm_Coder_emit X.la d b (by decide) (by decide) hZ15.rs h16) cl_X1_181 rfl rfl (Nat.le_of_ble_eq_true rfl) (hFr_of (by omega) (Nat.le_of_ble_eq_true rfl)) dX1_asking_33 (fun r17 A18 u19 S20 R21 o22 hZ23 h24 => ?_)
  refine h_pop hC dX1_asking_36 rfl ?_
  refine h_aload_n hC dX1_asking_37 rfl ?_
  refine h_iload hC dX1_asking_38 rfl ?_
  refine h_iconst (v := zI 0) hC dX1_asking_40 rfl ?_
  refine h_iconst (v := zI 0) hC dX1_asking_41 rfl ?_
  refine yr_callVv (As := [.int (zI r1), .int (zI 0), .int (zI 0)]) hC hr o22 hZ23 rfl (hZ23.w.o 5 (by decide)) (ih.2.2.2.2.2.2.2.2.2.2.2.2.1 R5 (by decide) (by decide) hZ23.rs h24) cl_X1_188 rfl rfl (Nat.le_of_ble_eq_true rfl) (hFr_of (by omega) (Nat.le_of_ble_eq_true rfl)) dX1_asking_42 (fun A26 u27 S28 o30 hZ31 h32 => ?_)
  refine h_aload_n hC dX1_asking_45 rfl ?_
  refine h_aload_n hC dX1_asking_46 rfl ?_
  refine h_aload_n hC dX1_asking_47 rfl ?_
  refine h_get hC fl_X1_65 (hZ31.w.o 5 (by decide)) rfl dX1_asking_48 ?_
  refine h_iload_n hC dX1_asking_51 rfl ?_
  refine yr_callVi (As := [.int (zI a0)]) hC hr o30 hZ31 rfl (hZ31.w.o 2 (by decide)) (cm_Tree_kind X.la d b Ra0 hZ31.rs h32) cl_X1_121 rfl rfl (Nat.le_of_ble_eq_true rfl) (hFr_of (by omega) (Nat.le_of_ble_eq_true rfl)) dX1_asking_52 (fun r33 A34 u35 S36 R37 o38 hZ39 h40 => ?_)
  refine h_bipush (v := zI 39) hC dX1_asking_55 rfl ?_
  refine yr_icmp_ne (tgt := 65) hC R37 (by decide) dX1_asking_57 (by decide) (fun c41 => ?_) (fun c41 => ?_)
  · have h42 := h40.1 c41
    refine h_bipush (v := zI 16) hC dX1_asking_65 rfl ?_
    refine h_lv (lv' := [some (.ref (gO' Y 5)), none, some (.int (zI (yv A0 13))), some (.int (zI (yv A0 14))), some (.int (zI r1)), some (.int (zI r9))]) ⟨rfl, rfl, rfl, rfl, rfl, trivial⟩ ?_
    exact cj_Coder_asking_67 hC hr ih  (hZ.rv 13) (hZ.rv 14) R5 R13 (by decide) o38 hZ39 h42
  · have h43 := h40.2 c41
    refine h_bipush (v := zI 15) hC dX1_asking_60 rfl ?_
    refine h_goto (tgt := 67) hC dX1_asking_62 (by decide) ?_
    refine h_lv (lv' := [some (.ref (gO' Y 5)), none, some (.int (zI (yv A0 13))), some (.int (zI (yv A0 14))), some (.int (zI r1)), some (.int (zI r9))]) ⟨rfl, rfl, rfl, rfl, rfl, trivial⟩ ?_
    exact cj_Coder_asking_67 hC hr ih  (hZ.rv 13) (hZ.rv 14) R5 R13 (by decide) o38 hZ39 h43
theorem dX1_repeats_0 : decode cX1_repeats 0 = .ok (.aload_n 0, 1) := by decide +kernel
theorem dX1_repeats_1 : decode cX1_repeats 1 = .ok (.getfield 27, 3) := by decide +kernel
theorem dX1_repeats_4 : decode cX1_repeats 4 = .ok (.istore_n 2, 1) := by decide +kernel
theorem dX1_repeats_5 : decode cX1_repeats 5 = .ok (.aload_n 0, 1) := by decide +kernel
theorem dX1_repeats_6 : decode cX1_repeats 6 = .ok (.getfield 31, 3) := by decide +kernel
theorem dX1_repeats_9 : decode cX1_repeats 9 = .ok (.istore_n 3, 1) := by decide +kernel
theorem dX1_repeats_10 : decode cX1_repeats 10 = .ok (.aload_n 0, 1) := by decide +kernel
theorem dX1_repeats_11 : decode cX1_repeats 11 = .ok (.getfield 65, 3) := by decide +kernel
theorem dX1_repeats_14 : decode cX1_repeats 14 = .ok (.iload_n 1, 1) := by decide +kernel
theorem dX1_repeats_15 : decode cX1_repeats 15 = .ok (.invokevirtual 126, 3) := by decide +kernel
theorem dX1_repeats_18 : decode cX1_repeats 18 = .ok (.istore 4, 2) := by decide +kernel
theorem dX1_repeats_20 : decode cX1_repeats 20 = .ok (.aload_n 0, 1) := by decide +kernel
theorem dX1_repeats_21 : decode cX1_repeats 21 = .ok (.getfield 69, 3) := by decide +kernel
theorem dX1_repeats_24 : decode cX1_repeats 24 = .ok (.invokevirtual 220, 3) := by decide +kernel
theorem dX1_repeats_27 : decode cX1_repeats 27 = .ok (.istore 5, 2) := by decide +kernel
theorem dX1_repeats_29 : decode cX1_repeats 29 = .ok (.aload_n 0, 1) := by decide +kernel
theorem dX1_repeats_30 : decode cX1_repeats 30 = .ok (.iconst 0, 1) := by decide +kernel
theorem dX1_repeats_31 : decode cX1_repeats 31 = .ok (.putfield 27, 3) := by decide +kernel
theorem dX1_repeats_34 : decode cX1_repeats 34 = .ok (.aload_n 0, 1) := by decide +kernel
theorem dX1_repeats_35 : decode cX1_repeats 35 = .ok (.iconst 0, 1) := by decide +kernel
theorem dX1_repeats_36 : decode cX1_repeats 36 = .ok (.putfield 31, 3) := by decide +kernel
theorem dX1_repeats_39 : decode cX1_repeats 39 = .ok (.aload_n 0, 1) := by decide +kernel
theorem dX1_repeats_40 : decode cX1_repeats 40 = .ok (.iload 4, 2) := by decide +kernel
theorem dX1_repeats_42 : decode cX1_repeats 42 = .ok (.invokevirtual 192, 3) := by decide +kernel
theorem dX1_repeats_45 : decode cX1_repeats 45 = .ok (.aload_n 0, 1) := by decide +kernel
theorem dX1_repeats_46 : decode cX1_repeats 46 = .ok (.getfield 65, 3) := by decide +kernel
theorem dX1_repeats_49 : decode cX1_repeats 49 = .ok (.iload 4, 2) := by decide +kernel
theorem dX1_repeats_51 : decode cX1_repeats 51 = .ok (.invokevirtual 142, 3) := by decide +kernel
theorem dX1_repeats_54 : decode cX1_repeats 54 = .ok (.istore 6, 2) := by decide +kernel
theorem dX1_repeats_56 : decode cX1_repeats 56 = .ok (.iconst 0, 1) := by decide +kernel
theorem dX1_repeats_57 : decode cX1_repeats 57 = .ok (.istore 7, 2) := by decide +kernel
theorem dX1_repeats_59 : decode cX1_repeats 59 = .ok (.iload 7, 2) := by decide +kernel
theorem dX1_repeats_61 : decode cX1_repeats 61 = .ok (.ldc 11, 2) := by decide +kernel
theorem dX1_repeats_63 : decode cX1_repeats 63 = .ok (.if_icmp .ge 129, 3) := by decide +kernel
theorem dX1_repeats_66 : decode cX1_repeats 66 = .ok (.iload 6, 2) := by decide +kernel
theorem dX1_repeats_68 : decode cX1_repeats 68 = .ok (.ifCond .eq 124, 3) := by decide +kernel
theorem dX1_repeats_71 : decode cX1_repeats 71 = .ok (.aload_n 0, 1) := by decide +kernel
theorem dX1_repeats_72 : decode cX1_repeats 72 = .ok (.getfield 69, 3) := by decide +kernel
theorem dX1_repeats_75 : decode cX1_repeats 75 = .ok (.aload_n 0, 1) := by decide +kernel
theorem dX1_repeats_76 : decode cX1_repeats 76 = .ok (.getfield 31, 3) := by decide +kernel
theorem dX1_repeats_79 : decode cX1_repeats 79 = .ok (.invokevirtual 201, 3) := by decide +kernel
theorem dX1_repeats_82 : decode cX1_repeats 82 = .ok (.aload_n 0, 1) := by decide +kernel
theorem dX1_repeats_83 : decode cX1_repeats 83 = .ok (.bipush 18, 2) := by decide +kernel
theorem dX1_repeats_85 : decode cX1_repeats 85 = .ok (.iconst 1, 1) := by decide +kernel
theorem dX1_repeats_86 : decode cX1_repeats 86 = .ok (.invokevirtual 181, 3) := by decide +kernel
theorem dX1_repeats_89 : decode cX1_repeats 89 = .ok (.pop, 1) := by decide +kernel
theorem dX1_repeats_90 : decode cX1_repeats 90 = .ok (.aload_n 0, 1) := by decide +kernel
theorem dX1_repeats_91 : decode cX1_repeats 91 = .ok (.getfield 65, 3) := by decide +kernel
theorem dX1_repeats_94 : decode cX1_repeats 94 = .ok (.iload 6, 2) := by decide +kernel
theorem dX1_repeats_96 : decode cX1_repeats 96 = .ok (.invokevirtual 126, 3) := by decide +kernel
theorem dX1_repeats_99 : decode cX1_repeats 99 = .ok (.istore 8, 2) := by decide +kernel
theorem dX1_repeats_101 : decode cX1_repeats 101 = .ok (.iload 8, 2) := by decide +kernel
theorem dX1_repeats_103 : decode cX1_repeats 103 = .ok (.ifCond .ne 15, 3) := by decide +kernel
theorem dX1_repeats_106 : decode cX1_repeats 106 = .ok (.aload_n 0, 1) := by decide +kernel
theorem dX1_repeats_107 : decode cX1_repeats 107 = .ok (.bipush 14, 2) := by decide +kernel
theorem dX1_repeats_109 : decode cX1_repeats 109 = .ok (.iload 5, 2) := by decide +kernel
theorem dX1_repeats_111 : decode cX1_repeats 111 = .ok (.invokevirtual 181, 3) := by decide +kernel
theorem dX1_repeats_114 : decode cX1_repeats 114 = .ok (.pop, 1) := by decide +kernel
theorem dX1_repeats_115 : decode cX1_repeats 115 = .ok (.goto 39, 3) := by decide +kernel
theorem dX1_repeats_118 : decode cX1_repeats 118 = .ok (.aload_n 0, 1) := by decide +kernel
theorem dX1_repeats_119 : decode cX1_repeats 119 = .ok (.iload 8, 2) := by decide +kernel
theorem dX1_repeats_121 : decode cX1_repeats 121 = .ok (.iconst 0, 1) := by decide +kernel
theorem dX1_repeats_122 : decode cX1_repeats 122 = .ok (.iconst 0, 1) := by decide +kernel
theorem dX1_repeats_123 : decode cX1_repeats 123 = .ok (.invokevirtual 188, 3) := by decide +kernel
theorem dX1_repeats_126 : decode cX1_repeats 126 = .ok (.aload_n 0, 1) := by decide +kernel
theorem dX1_repeats_127 : decode cX1_repeats 127 = .ok (.aload_n 0, 1) := by decide +kernel
theorem dX1_repeats_128 : decode cX1_repeats 128 = .ok (.getfield 65, 3) := by decide +kernel
theorem dX1_repeats_131 : decode cX1_repeats 131 = .ok (.iload 6, 2) := by decide +kernel
theorem dX1_repeats_133 : decode cX1_repeats 133 = .ok (.invokevirtual 121, 3) := by decide +kernel
theorem dX1_repeats_136 : decode cX1_repeats 136 = .ok (.bipush 69, 2) := by decide +kernel
theorem dX1_repeats_138 : decode cX1_repeats 138 = .ok (.if_icmp .ne 8, 3) := by decide +kernel
theorem dX1_repeats_141 : decode cX1_repeats 141 = .ok (.bipush 15, 2) := by decide +kernel
theorem dX1_repeats_143 : decode cX1_repeats 143 = .ok (.goto 5, 3) := by decide +kernel
theorem dX1_repeats_146 : decode cX1_repeats 146 = .ok (.bipush 16, 2) := by decide +kernel
theorem dX1_repeats_148 : decode cX1_repeats 148 = .ok (.iload 5, 2) := by decide +kernel
theorem dX1_repeats_150 : decode cX1_repeats 150 = .ok (.invokevirtual 181, 3) := by decide +kernel
theorem dX1_repeats_153 : decode cX1_repeats 153 = .ok (.pop, 1) := by decide +kernel
theorem dX1_repeats_154 : decode cX1_repeats 154 = .ok (.aload_n 0, 1) := by decide +kernel
theorem dX1_repeats_155 : decode cX1_repeats 155 = .ok (.getfield 69, 3) := by decide +kernel
theorem dX1_repeats_158 : decode cX1_repeats 158 = .ok (.aload_n 0, 1) := by decide +kernel
theorem dX1_repeats_159 : decode cX1_repeats 159 = .ok (.getfield 27, 3) := by decide +kernel
theorem dX1_repeats_162 : decode cX1_repeats 162 = .ok (.invokevirtual 201, 3) := by decide +kernel
theorem dX1_repeats_165 : decode cX1_repeats 165 = .ok (.aload_n 0, 1) := by decide +kernel
theorem dX1_repeats_166 : decode cX1_repeats 166 = .ok (.iconst 0, 1) := by decide +kernel
theorem dX1_repeats_167 : decode cX1_repeats 167 = .ok (.putfield 27, 3) := by decide +kernel
theorem dX1_repeats_170 : decode cX1_repeats 170 = .ok (.aload_n 0, 1) := by decide +kernel
theorem dX1_repeats_171 : decode cX1_repeats 171 = .ok (.iconst 0, 1) := by decide +kernel
theorem dX1_repeats_172 : decode cX1_repeats 172 = .ok (.putfield 31, 3) := by decide +kernel
theorem dX1_repeats_175 : decode cX1_repeats 175 = .ok (.aload_n 0, 1) := by decide +kernel
theorem dX1_repeats_176 : decode cX1_repeats 176 = .ok (.getfield 65, 3) := by decide +kernel
theorem dX1_repeats_179 : decode cX1_repeats 179 = .ok (.iload 6, 2) := by decide +kernel
theorem dX1_repeats_181 : decode cX1_repeats 181 = .ok (.invokevirtual 142, 3) := by decide +kernel
theorem dX1_repeats_184 : decode cX1_repeats 184 = .ok (.istore 6, 2) := by decide +kernel
theorem dX1_repeats_186 : decode cX1_repeats 186 = .ok (.iinc 7 1, 3) := by decide +kernel
theorem dX1_repeats_189 : decode cX1_repeats 189 = .ok (.goto (-130), 3) := by decide +kernel
theorem dX1_repeats_192 : decode cX1_repeats 192 = .ok (.aload_n 0, 1) := by decide +kernel
theorem dX1_repeats_193 : decode cX1_repeats 193 = .ok (.iload_n 2, 1) := by decide +kernel
theorem dX1_repeats_194 : decode cX1_repeats 194 = .ok (.putfield 27, 3) := by decide +kernel
theorem dX1_repeats_197 : decode cX1_repeats 197 = .ok (.aload_n 0, 1) := by decide +kernel
theorem dX1_repeats_198 : decode cX1_repeats 198 = .ok (.iload_n 3, 1) := by decide +kernel
theorem dX1_repeats_199 : decode cX1_repeats 199 = .ok (.putfield 31, 3) := by decide +kernel
theorem dX1_repeats_202 : decode cX1_repeats 202 = .ok (.return_, 1) := by decide +kernel
def wc_Coder_repeats_59B (rec : Nat → Int → Int → Int → cS → (Int → cS → Prop) → Prop) (Q : cS → Prop) (k59 : cS → Int → Int → Int → Int → Int → Prop) (A0 : cS) (x2 : Int) (x3 : Int) (x5 : Int) (x6 : Int) (x7 : Int) : Prop :=
  ((1000000 ≤ x7 → Q (ypv (ypv A0 13 x2) 14 x3)) ∧ (¬ 1000000 ≤ x7 → ((x6 = 0 → Q (ypv (ypv A0 13 x2) 14 x3)) ∧ (¬ x6 = 0 → wc_Program_land A0 (yv A0 14) (fun A52 => wc_Coder_emit A52 18 1 (fun r59 A60 => wc_Tree_first A60 x6 (fun r67 A68 => ((¬ r67 = 0 → rec 12 r67 0 0 A68 (fun _ A78 => wc_Tree_kind A78 x6 (fun r85 A86 => ((¬ r85 = 69 → wc_Coder_emit A86 16 x5 (fun r95 A96 => wc_Program_land A96 (yv A96 13) (fun A104 => wc_Tree_next (ypv (ypv A104 13 0) 14 0) x6 (fun r133 A134 => (zR (x7 + 1)) ∧ k59 A134 x2 x3 x5 r133 (x7 + 1))))) ∧ (r85 = 69 → wc_Coder_emit A86 15 x5 (fun r144 A145 => wc_Program_land A145 (yv A145 13) (fun A153 => wc_Tree_next (ypv (ypv A153 13 0) 14 0) x6 (fun r182 A183 => (zR (x7 + 1)) ∧ k59 A183 x2 x3 x5 r182 (x7 + 1))))))))) ∧ (r67 = 0 → wc_Coder_emit A68 14 x5 (fun r193 A194 => wc_Program_land A194 (yv A194 13) (fun A202 => wc_Tree_next (ypv (ypv A202 13 0) 14 0) x6 (fun r231 A232 => (zR (x7 + 1)) ∧ k59 A232 x2 x3 x5 r231 (x7 + 1)))))))))))))
def wc_Coder_repeats_59 (rec : Nat → Int → Int → Int → cS → (Int → cS → Prop) → Prop) (Q : cS → Prop)  : Nat → cS → Int → Int → Int → Int → Int → Prop
  | 0 => fun _ _ _ _ _ _ => False
  | m + 1 => fun A0 x2 x3 x5 x6 x7 => wc_Coder_repeats_59B rec Q  (wc_Coder_repeats_59 rec Q  m) A0 x2 x3 x5 x6 x7
def wc_Coder_repeats (rec : Nat → Int → Int → Int → cS → (Int → cS → Prop) → Prop) (A0 : cS) (a0 : Int) (Q : cS → Prop) : Prop :=
  wc_Tree_first A0 a0 (fun r1 A2 => wc_Program_here A2  (fun r9 A10 => rec 4 r1 0 0 (ypv (ypv A10 13 0) 14 0) (fun _ A40 => wc_Tree_next A40 r1 (fun r47 A48 => ∃ n, wc_Coder_repeats_59 rec Q  n A48 (yv A0 13) (yv A0 14) r9 r47 0))))
set_option maxHeartbeats 4000000 in
set_option maxRecDepth 100000 in
theorem cb_Coder_repeats_59 {X : gX} {d : gD} {b : Nat} {Y : gYt} {c : Nat × Nat} {F0 : gM} {S0 : gSt} {mc ms : Nat} {rec : Nat → Int → Int → Int → cS → (Int → cS → Prop) → Prop} {lv0 : Nat} (hC : gC RX1 cX1_repeats 9 none "repeats" (gR (630 + lv0 + 1) mc ms) d b X) (hr : hRm X b) (ih : yOkC X.la d b Y c lv0 rec) {Q : cS → Prop} {k59 : cS → Int → Int → Int → Int → Int → Prop} (hk59 : ∀ (u : hU) (S : gSt) (A0 : cS) (x2 : Int) (x3 : Int) (x5 : Int) (x6 : Int) (x7 : Int), zR x2 → zR x3 → zR x5 → zR x6 → zR x7 → yOk X b u → yZ d b Y c F0 S0 u S A0 → k59 A0 x2 x3 x5 x6 x7 → yG X d b (yQv X d b Y c F0 S0 mc ms Q) u 59 [some (.ref (gO' Y 5)), none, some (.int (zI x2)), some (.int (zI x3)), none, some (.int (zI x5)), some (.int (zI x6)), some (.int (zI x7)), none] []) {u : hU} {S : gSt} {A0 : cS} {x2 : Int} {x3 : Int} {x5 : Int} {x6 : Int} {x7 : Int} (Rx2 : zR x2) (Rx3 : zR x3) (Rx5 : zR x5) (Rx6 : zR x6) (Rx7 : zR x7) (ho : yOk X b u) (hZ : yZ d b Y c F0 S0 u S A0) (hw : wc_Coder_repeats_59B rec Q k59 A0 x2 x3 x5 x6 x7) : yG X d b (yQv X d b Y c F0 S0 mc ms Q) u 59 [some (.ref (gO' Y 5)), none, some (.int (zI x2)), some (.int (zI x3)), none, some (.int (zI x5)), some (.int (zI x6)), some (.int (zI x7)), none] [] := by
  unfold wc_Coder_repeats_59B at hw
  refine h_iload hC dX1_repeats_59 rfl ?_
  refine yr_ldc (e := 1000000) hC dX1_repeats_61 kw_576 (by decide) ?_
  refine yr_icmp_ge (tgt := 192) hC Rx7 (by decide) dX1_repeats_63 (by decide) (fun c1 => ?_) (fun c1 => ?_)
  · have h2 := hw.1 c1
    refine h_aload_n hC dX1_repeats_192 rfl ?_
    refine h_iload_n hC dX1_repeats_193 rfl ?_
    refine hi_putx (i := 5) (kx := 13) hC hZ.hi (by decide) fl_X1_27 rfl rfl rfl (Nat.le_of_ble_eq_true rfl) rfl gsame_13 (fun q => absurd q (by decide)) dX1_repeats_194 (fun F3 S4 I5 K6 s7 v8 p9 => ?_)
    have hZ10 := hZ.put I5 K6 s7 v8 Rx2 rfl
    clear I5 K6 s7 v8 p9
    refine yr_nu ho hZ10 (fun u11 o12 hZ13 => ?_)
    refine h_aload_n hC dX1_repeats_197 rfl ?_
    refine h_iload_n hC dX1_repeats_198 rfl ?_
    refine hi_putx (i := 5) (kx := 14) hC hZ13.hi (by decide) fl_X1_31 rfl rfl rfl (Nat.le_of_ble_eq_true rfl) rfl gsame_14 (fun q => absurd q (by decide)) dX1_repeats_199 (fun F14 S15 I16 K17 s18 v19 p20 => ?_)
    have hZ21 := hZ13.put I16 K17 s18 v19 Rx3 rfl
    clear I16 K17 s18 v19 p20
    refine yr_nu o12 hZ21 (fun u22 o23 hZ24 => ?_)
    exact yr_vret hC hr o23 hZ24 h2 dX1_repeats_202
  · have h25 := hw.2 c1
    refine h_iload hC dX1_repeats_66 rfl ?_
    refine yr_if_eq (tgt := 192) hC Rx6 dX1_repeats_68 (by decide) (fun c26 => ?_) (fun c26 => ?_)
    · have h27 := h25.1 c26
      refine h_aload_n hC dX1_repeats_192 rfl ?_
      refine h_iload_n hC dX1_repeats_193 rfl ?_
      refine hi_putx (i := 5) (kx := 13) hC hZ.hi (by decide) fl_X1_27 rfl rfl rfl (Nat.le_of_ble_eq_true rfl) rfl gsame_13 (fun q => absurd q (by decide)) dX1_repeats_194 (fun F28 S29 I30 K31 s32 v33 p34 => ?_)
      have hZ35 := hZ.put I30 K31 s32 v33 Rx2 rfl
      clear I30 K31 s32 v33 p34
      refine yr_nu ho hZ35 (fun u36 o37 hZ38 => ?_)
      refine h_aload_n hC dX1_repeats_197 rfl ?_
      refine h_iload_n hC dX1_repeats_198 rfl ?_
      refine hi_putx (i := 5) (kx := 14) hC hZ38.hi (by decide) fl_X1_31 rfl rfl rfl (Nat.le_of_ble_eq_true rfl) rfl gsame_14 (fun q => absurd q (by decide)) dX1_repeats_199 (fun F39 S40 I41 K42 s43 v44 p45 => ?_)
      have hZ46 := hZ38.put I41 K42 s43 v44 Rx3 rfl
      clear I41 K42 s43 v44 p45
      refine yr_nu o37 hZ46 (fun u47 o48 hZ49 => ?_)
      exact yr_vret hC hr o48 hZ49 h27 dX1_repeats_202
    · have h50 := h25.2 c26
      refine h_aload_n hC dX1_repeats_71 rfl ?_
      refine h_get hC fl_X1_69 (hZ.w.o 5 (by decide)) rfl dX1_repeats_72 ?_
      refine h_aload_n hC dX1_repeats_75 rfl ?_
      refine h_get hC fl_X1_31 (hZ.w.o 5 (by decide)) rfl dX1_repeats_76 ?_
      refine yr_sv (e := (yv A0 14)) hZ 14 rfl ?_
      refine yr_callVv (As := [.int (zI (yv A0 14))]) hC hr ho hZ rfl (hZ.w.o 1 (by decide)) (cm_Program_land X.la d b (hZ.rv 14) hZ.rs h50) cl_X1_201 rfl rfl (Nat.le_of_ble_eq_true rfl) (hFr_of (by omega) (Nat.le_of_ble_eq_true rfl)) dX1_repeats_79 (fun A52 u53 S54 o56 hZ57 h58 => ?_)
      refine h_aload_n hC dX1_repeats_82 rfl ?_
      refine h_bipush (v := zI 18) hC dX1_repeats_83 rfl ?_
      refine h_iconst (v := zI 1) hC dX1_repeats_85 rfl ?_
      refine yr_callVi (As := [.int (zI 18), .int (zI 1)]) hC hr o56 hZ57 rfl (hZ57.w.o 5 (by decide)) (cm_Coder_emit X.la d b (by decide) (by decide) hZ57.rs h58) cl_X1_181 rfl rfl (Nat.le_of_ble_eq_true rfl) (hFr_of (by omega) (Nat.le_of_ble_eq_true rfl)) dX1_repeats_86 (fun r59 A60 u61 S62 R63 o64 hZ65 h66 => ?_)
      refine h_pop hC dX1_repeats_89 rfl ?_
      refine h_aload_n hC dX1_repeats_90 rfl ?_
      refine h_get hC fl_X1_65 (hZ65.w.o 5 (by decide)) rfl dX1_repeats_91 ?_
      refine h_iload hC dX1_repeats_94 rfl ?_
      refine yr_callVi (As := [.int (zI x6)]) hC hr o64 hZ65 rfl (hZ65.w.o 2 (by decide)) (cm_Tree_first X.la d b Rx6 hZ65.rs h66) cl_X1_126 rfl rfl (Nat.le_of_ble_eq_true rfl) (hFr_of (by omega) (Nat.le_of_ble_eq_true rfl)) dX1_repeats_96 (fun r67 A68 u69 S70 R71 o72 hZ73 h74 => ?_)
      refine h_istore (lv' := [some (.ref (gO' Y 5)), none, some (.int (zI x2)), some (.int (zI x3)), none, some (.int (zI x5)), some (.int (zI x6)), some (.int (zI x7)), some (.int (zI r67))]) hC dX1_repeats_99 (Nat.le_of_ble_eq_true rfl) rfl rfl ?_
      refine h_iload hC dX1_repeats_101 rfl ?_
      refine yr_if_ne (tgt := 118) hC R71 dX1_repeats_103 (by decide) (fun c75 => ?_) (fun c75 => ?_)
      · have h76 := h74.1 c75
        refine h_aload_n hC dX1_repeats_118 rfl ?_
        refine h_iload hC dX1_repeats_119 rfl ?_
        refine h_iconst (v := zI 0) hC dX1_repeats_121 rfl ?_
        refine h_iconst (v := zI 0) hC dX1_repeats_122 rfl ?_
        refine yr_callVv (As := [.int (zI r67), .int (zI 0), .int (zI 0)]) hC hr o72 hZ73 rfl (hZ73.w.o 5 (by decide)) (ih.2.2.2.2.2.2.2.2.2.2.2.2.1 R71 (by decide) (by decide) hZ73.rs h76) cl_X1_188 rfl rfl (Nat.le_of_ble_eq_true rfl) (hFr_of (by omega) (Nat.le_of_ble_eq_true rfl)) dX1_repeats_123 (fun A78 u79 S80 o82 hZ83 h84 => ?_)
        refine h_aload_n hC dX1_repeats_126 rfl ?_
        refine h_aload_n hC dX1_repeats_127 rfl ?_
        refine h_get hC fl_X1_65 (hZ83.w.o 5 (by decide)) rfl dX1_repeats_128 ?_
        refine h_iload hC dX1_repeats_131 rfl ?_
        refine yr_callVi (As := [.int (zI x6)]) hC hr o82 hZ83 rfl (hZ83.w.o 2 (by decide)) (cm_Tree_kind X.la d b Rx6 hZ83.rs h84) cl_X1_121 rfl rfl (Nat.le_of_ble_eq_true rfl) (hFr_of (by omega) (Nat.le_of_ble_eq_true rfl)) dX1_repeats_133 (fun r85 A86 u87 S88 R89 o90 hZ91 h92 => ?_)
        refine h_bipush (v := zI 69) hC dX1_repeats_136 rfl ?_
        refine yr_icmp_ne (tgt := 146) hC R89 (by decide) dX1_repeats_138 (by decide) (fun c93 => ?_) (fun c93 => ?_)
        · have h94 := h92.1 c93
          refine h_bipush (v := zI 16) hC dX1_repeats_146 rfl ?_
          refine h_iload hC dX1_repeats_148 rfl ?_
          refine yr_callVi (As := [.int (zI 16), .int (zI x5)]) hC hr o90 hZ91 rfl (hZ91.w.o 5 (by decide)) (cm_Coder_emit X.la d b (by decide) Rx5 hZ91.rs h94) cl_X1_181 rfl rfl (Nat.le_of_ble_eq_true rfl) (hFr_of (by omega) (Nat.le_of_ble_eq_true rfl)) dX1_repeats_150 (fun r95 A96 u97 S98 R99 o100 hZ101 h102 => ?_)
          refine h_pop hC dX1_repeats_153 rfl ?_
          refine h_aload_n hC dX1_repeats_154 rfl ?_
          refine h_get hC fl_X1_69 (hZ101.w.o 5 (by decide)) rfl dX1_repeats_155 ?_
          refine h_aload_n hC dX1_repeats_158 rfl ?_
          refine h_get hC fl_X1_27 (hZ101.w.o 5 (by decide)) rfl dX1_repeats_159 ?_
          refine yr_sv (e := (yv A96 13)) hZ101 13 rfl ?_
          refine yr_callVv (As := [.int (zI (yv A96 13))]) hC hr o100 hZ101 rfl (hZ101.w.o 1 (by decide)) (cm_Program_land X.la d b (hZ101.rv 13) hZ101.rs h102) cl_X1_201 rfl rfl (Nat.le_of_ble_eq_true rfl) (hFr_of (by omega) (Nat.le_of_ble_eq_true rfl)) dX1_repeats_162 (fun A104 u105 S106 o108 hZ109 h110 => ?_)
          refine h_aload_n hC dX1_repeats_165 rfl ?_
          refine h_iconst (v := zI 0) hC dX1_repeats_166 rfl ?_
          refine hi_putx (i := 5) (kx := 13) hC hZ109.hi (by decide) fl_X1_27 rfl rfl rfl (Nat.le_of_ble_eq_true rfl) rfl gsame_13 (fun q => absurd q (by decide)) dX1_repeats_167 (fun F111 S112 I113 K114 s115 v116 p117 => ?_)
          have hZ118 := hZ109.put I113 K114 s115 v116 (by decide) rfl
          clear I113 K114 s115 v116 p117
          refine yr_nu o108 hZ118 (fun u119 o120 hZ121 => ?_)
          refine h_aload_n hC dX1_repeats_170 rfl ?_
          refine h_iconst (v := zI 0) hC dX1_repeats_171 rfl ?_
          refine hi_putx (i := 5) (kx := 14) hC hZ121.hi (by decide) fl_X1_31 rfl rfl rfl (Nat.le_of_ble_eq_true rfl) rfl gsame_14 (fun q => absurd q (by decide)) dX1_repeats_172 (fun F122 S123 I124 K125 s126 v127 p128 => ?_)
          have hZ129 := hZ121.put I124 K125 s126 v127 (by decide) rfl
          clear I124 K125 s126 v127 p128
          refine yr_nu o120 hZ129 (fun u130 o131 hZ132 => ?_)
          refine h_aload_n hC dX1_repeats_175 rfl ?_
          refine h_get hC fl_X1_65 (hZ132.w.o 5 (by decide)) rfl dX1_repeats_176 ?_
          refine h_iload hC dX1_repeats_179 rfl ?_
          refine yr_callVi (As := [.int (zI x6)]) hC hr o131 hZ132 rfl (hZ132.w.o 2 (by decide)) (cm_Tree_next X.la d b Rx6 hZ132.rs h110) cl_X1_142 rfl rfl (Nat.le_of_ble_eq_true rfl) (hFr_of (by omega) (Nat.le_of_ble_eq_true rfl)) dX1_repeats_181 (fun r133 A134 u135 S136 R137 o138 hZ139 h140 => ?_)
          refine h_istore (lv' := [some (.ref (gO' Y 5)), none, some (.int (zI x2)), some (.int (zI x3)), none, some (.int (zI x5)), some (.int (zI r133)), some (.int (zI x7)), some (.int (zI r67))]) hC dX1_repeats_184 (Nat.le_of_ble_eq_true rfl) rfl rfl ?_
          refine yr_iinc (x := x7) (lv' := [some (.ref (gO' Y 5)), none, some (.int (zI x2)), some (.int (zI x3)), none, some (.int (zI x5)), some (.int (zI r133)), some (.int (zI (x7 + 1))), some (.int (zI r67))]) hC dX1_repeats_186 rfl rfl rfl ?_
          refine h_goto (tgt := 59) hC dX1_repeats_189 (by decide) ?_
          obtain ⟨o141, h142⟩ := h140
          refine h_lv (lv' := [some (.ref (gO' Y 5)), none, some (.int (zI x2)), some (.int (zI x3)), none, some (.int (zI x5)), some (.int (zI r133)), some (.int (zI (x7 + 1))), none]) ⟨rfl, rfl, rfl, rfl, rfl, rfl, trivial⟩ ?_
          exact hk59 _ _ _ _ _ _ _ _ Rx2 Rx3 Rx5 R137 o141 o138 hZ139 h142
        · have h143 := h92.2 c93
          refine h_bipush (v := zI 15) hC dX1_repeats_141 rfl ?_
          refine h_goto (tgt := 148) hC dX1_repeats_143 (by decide) ?_
          refine h_iload hC dX1_repeats_148 rfl ?_
          refine yr_callVi (As := [.int (zI 15), .int (zI x5)]) hC hr o90 hZ91 rfl (hZ91.w.o 5 (by decide)) (cm_Coder_emit X.la d b (by decide) Rx5 hZ91.rs h143) cl_X1_181 rfl rfl (Nat.le_of_ble_eq_true rfl) (hFr_of (by omega) (Nat.le_of_ble_eq_true rfl)) dX1_repeats_150 (fun r144 A145 u146 S147 R148 o149 hZ150 h151 => ?_)
          refine h_pop hC dX1_repeats_153 rfl ?_
          refine h_aload_n hC dX1_repeats_154 rfl ?_
          refine h_get hC fl_X1_69 (hZ150.w.o 5 (by decide)) rfl dX1_repeats_155 ?_
          refine h_aload_n hC dX1_repeats_158 rfl ?_
          refine h_get hC fl_X1_27 (hZ150.w.o 5 (by decide)) rfl dX1_repeats_159 ?_
          refine yr_sv (e := (yv A145 13)) hZ150 13 rfl ?_
          refine yr_callVv (As := [.int (zI (yv A145 13))]) hC hr o149 hZ150 rfl (hZ150.w.o 1 (by decide)) (cm_Program_land X.la d b (hZ150.rv 13) hZ150.rs h151) cl_X1_201 rfl rfl (Nat.le_of_ble_eq_true rfl) (hFr_of (by omega) (Nat.le_of_ble_eq_true rfl)) dX1_repeats_162 (fun A153 u154 S155 o157 hZ158 h159 => ?_)
          refine h_aload_n hC dX1_repeats_165 rfl ?_
          refine h_iconst (v := zI 0) hC dX1_repeats_166 rfl ?_
          refine hi_putx (i := 5) (kx := 13) hC hZ158.hi (by decide) fl_X1_27 rfl rfl rfl (Nat.le_of_ble_eq_true rfl) rfl gsame_13 (fun q => absurd q (by decide)) dX1_repeats_167 (fun F160 S161 I162 K163 s164 v165 p166 => ?_)
          have hZ167 := hZ158.put I162 K163 s164 v165 (by decide) rfl
          clear I162 K163 s164 v165 p166
          refine yr_nu o157 hZ167 (fun u168 o169 hZ170 => ?_)
          refine h_aload_n hC dX1_repeats_170 rfl ?_
          refine h_iconst (v := zI 0) hC dX1_repeats_171 rfl ?_
          refine hi_putx (i := 5) (kx := 14) hC hZ170.hi (by decide) fl_X1_31 rfl rfl rfl (Nat.le_of_ble_eq_true rfl) rfl gsame_14 (fun q => absurd q (by decide)) dX1_repeats_172 (fun F171 S172 I173 K174 s175 v176 p177 => ?_)
          have hZ178 := hZ170.put I173 K174 s175 v176 (by decide) rfl
          clear I173 K174 s175 v176 p177
          refine yr_nu o169 hZ178 (fun u179 o180 hZ181 => ?_)
          refine h_aload_n hC dX1_repeats_175 rfl ?_
          refine h_get hC fl_X1_65 (hZ181.w.o 5 (by decide)) rfl dX1_repeats_176 ?_
          refine h_iload hC dX1_repeats_179 rfl ?_
          refine yr_callVi (As := [.int (zI x6)]) hC hr o180 hZ181 rfl (hZ181.w.o 2 (by decide)) (cm_Tree_next X.la d b Rx6 hZ181.rs h159) cl_X1_142 rfl rfl (Nat.le_of_ble_eq_true rfl) (hFr_of (by omega) (Nat.le_of_ble_eq_true rfl)) dX1_repeats_181 (fun r182 A183 u184 S185 R186 o187 hZ188 h189 => ?_)
          refine h_istore (lv' := [some (.ref (gO' Y 5)), none, some (.int (zI x2)), some (.int (zI x3)), none, some (.int (zI x5)), some (.int (zI r182)), some (.int (zI x7)), some (.int (zI r67))]) hC dX1_repeats_184 (Nat.le_of_ble_eq_true rfl) rfl rfl ?_
          refine yr_iinc (x := x7) (lv' := [some (.ref (gO' Y 5)), none, some (.int (zI x2)), some (.int (zI x3)), none, some (.int (zI x5)), some (.int (zI r182)), some (.int (zI (x7 + 1))), some (.int (zI r67))]) hC dX1_repeats_186 rfl rfl rfl ?_
          refine h_goto (tgt := 59) hC dX1_repeats_189 (by decide) ?_
          obtain ⟨o190, h191⟩ := h189
          refine h_lv (lv' := [some (.ref (gO' Y 5)), none, some (.int (zI x2)), some (.int (zI x3)), none, some (.int (zI x5)), some (.int (zI r182)), some (.int (zI (x7 + 1))), none]) ⟨rfl, rfl, rfl, rfl, rfl, rfl, trivial⟩ ?_
          exact hk59 _ _ _ _ _ _ _ _ Rx2 Rx3 Rx5 R186 o190 o187 hZ188 h191
      · have h192 := h74.2 c75
        refine h_aload_n hC dX1_repeats_106 rfl ?_
        refine h_bipush (v := zI 14) hC dX1_repeats_107 rfl ?_
        refine h_iload hC dX1_repeats_109 rfl ?_
        refine yr_callVi (As := [.int (zI 14), .int (zI x5)]) hC hr o72 hZ73 rfl (hZ73.w.o 5 (by decide)) (cm_Coder_emit X.la d b (by decide) Rx5 hZ73.rs h192) cl_X1_181 rfl rfl (Nat.le_of_ble_eq_true rfl) (hFr_of (by omega) (Nat.le_of_ble_eq_true rfl)) dX1_repeats_111 (fun r193 A194 u195 S196 R197 o198 hZ199 h200 => ?_)
        refine h_pop hC dX1_repeats_114 rfl ?_
        refine h_goto (tgt := 154) hC dX1_repeats_115 (by decide) ?_
        refine h_aload_n hC dX1_repeats_154 rfl ?_
        refine h_get hC fl_X1_69 (hZ199.w.o 5 (by decide)) rfl dX1_repeats_155 ?_
        refine h_aload_n hC dX1_repeats_158 rfl ?_
        refine h_get hC fl_X1_27 (hZ199.w.o 5 (by decide)) rfl dX1_repeats_159 ?_
        refine yr_sv (e := (yv A194 13)) hZ199 13 rfl ?_
        refine yr_callVv (As := [.int (zI (yv A194 13))]) hC hr o198 hZ199 rfl (hZ199.w.o 1 (by decide)) (cm_Program_land X.la d b (hZ199.rv 13) hZ199.rs h200) cl_X1_201 rfl rfl (Nat.le_of_ble_eq_true rfl) (hFr_of (by omega) (Nat.le_of_ble_eq_true rfl)) dX1_repeats_162 (fun A202 u203 S204 o206 hZ207 h208 => ?_)
        refine h_aload_n hC dX1_repeats_165 rfl ?_
        refine h_iconst (v := zI 0) hC dX1_repeats_166 rfl ?_
        refine hi_putx (i := 5) (kx := 13) hC hZ207.hi (by decide) fl_X1_27 rfl rfl rfl (Nat.le_of_ble_eq_true rfl) rfl gsame_13 (fun q => absurd q (by decide)) dX1_repeats_167 (fun F209 S210 I211 K212 s213 v214 p215 => ?_)
        have hZ216 := hZ207.put I211 K212 s213 v214 (by decide) rfl
        clear I211 K212 s213 v214 p215
        refine yr_nu o206 hZ216 (fun u217 o218 hZ219 => ?_)
        refine h_aload_n hC dX1_repeats_170 rfl ?_
        refine h_iconst (v := zI 0) hC dX1_repeats_171 rfl ?_
        refine hi_putx (i := 5) (kx := 14) hC hZ219.hi (by decide) fl_X1_31 rfl rfl rfl (Nat.le_of_ble_eq_true rfl) rfl gsame_14 (fun q => absurd q (by decide)) dX1_repeats_172 (fun F220 S221 I222 K223 s224 v225 p226 => ?_)
        have hZ227 := hZ219.put I222 K223 s224 v225 (by decide) rfl
        clear I222 K223 s224 v225 p226
        refine yr_nu o218 hZ227 (fun u228 o229 hZ230 => ?_)
        refine h_aload_n hC dX1_repeats_175 rfl ?_
        refine h_get hC fl_X1_65 (hZ230.w.o 5 (by decide)) rfl dX1_repeats_176 ?_
        refine h_iload hC dX1_repeats_179 rfl ?_
        refine yr_callVi (As := [.int (zI x6)]) hC hr o229 hZ230 rfl (hZ230.w.o 2 (by decide)) (cm_Tree_next X.la d b Rx6 hZ230.rs h208) cl_X1_142 rfl rfl (Nat.le_of_ble_eq_true rfl) (hFr_of (by omega) (Nat.le_of_ble_eq_true rfl)) dX1_repeats_181 (fun r231 A232 u233 S234 R235 o236 hZ237 h238 => ?_)
        refine h_istore (lv' := [some (.ref (gO' Y 5)), none, some (.int (zI x2)), some (.int (zI x3)), none, some (.int (zI x5)), some (.int (zI r231)), some (.int (zI x7)), some (.int (zI r67))]) hC dX1_repeats_184 (Nat.le_of_ble_eq_true rfl) rfl rfl ?_
        refine yr_iinc (x := x7) (lv' := [some (.ref (gO' Y 5)), none, some (.int (zI x2)), some (.int (zI x3)), none, some (.int (zI x5)), some (.int (zI r231)), some (.int (zI (x7 + 1))), some (.int (zI r67))]) hC dX1_repeats_186 rfl rfl rfl ?_
        refine h_goto (tgt := 59) hC dX1_repeats_189 (by decide) ?_
        obtain ⟨o239, h240⟩ := h238
        refine h_lv (lv' := [some (.ref (gO' Y 5)), none, some (.int (zI x2)), some (.int (zI x3)), none, some (.int (zI x5)), some (.int (zI r231)), some (.int (zI (x7 + 1))), none]) ⟨rfl, rfl, rfl, rfl, rfl, rfl, trivial⟩ ?_
        exact hk59 _ _ _ _ _ _ _ _ Rx2 Rx3 Rx5 R235 o239 o236 hZ237 h240
theorem cl_Coder_repeats_59 {X : gX} {d : gD} {b : Nat} {Y : gYt} {c : Nat × Nat} {F0 : gM} {S0 : gSt} {mc ms : Nat} {rec : Nat → Int → Int → Int → cS → (Int → cS → Prop) → Prop} {lv0 : Nat} (hC : gC RX1 cX1_repeats 9 none "repeats" (gR (630 + lv0 + 1) mc ms) d b X) (hr : hRm X b) (ih : yOkC X.la d b Y c lv0 rec) {Q : cS → Prop}   : ∀ (m : Nat) (u : hU) (S : gSt) (A0 : cS) (x2 : Int) (x3 : Int) (x5 : Int) (x6 : Int) (x7 : Int), zR x2 → zR x3 → zR x5 → zR x6 → zR x7 → yOk X b u → yZ d b Y c F0 S0 u S A0 → wc_Coder_repeats_59 rec Q  m A0 x2 x3 x5 x6 x7 → yG X d b (yQv X d b Y c F0 S0 mc ms Q) u 59 [some (.ref (gO' Y 5)), none, some (.int (zI x2)), some (.int (zI x3)), none, some (.int (zI x5)), some (.int (zI x6)), some (.int (zI x7)), none] [] := by
  intro m
  induction m with
  | zero => intro u S A0 x2 x3 x5 x6 x7 Rx2 Rx3 Rx5 Rx6 Rx7 ho hZ hw; exact False.elim hw
  | succ m ihm => intro u S A0 x2 x3 x5 x6 x7 Rx2 Rx3 Rx5 Rx6 Rx7 ho hZ hw; exact cb_Coder_repeats_59 hC hr ih  ihm Rx2 Rx3 Rx5 Rx6 Rx7 ho hZ hw
set_option maxHeartbeats 4000000 in
set_option maxRecDepth 100000 in
theorem cm_Coder_repeats (l : Launch) (d : gD) (b : Nat) {Y : gYt} {c : Nat × Nat} {F : gM} {k n : Nat} {S : gSt} {A0 : cS} {rec : Nat → Int → Int → Int → cS → (Int → cS → Prop) → Prop} {lv0 : Nat} (ih : yOkC l d b Y c lv0 rec) {a0 : Int} (Ra0 : zR a0) {Q : cS → Prop} (hZ : yZ d b Y c F S (F, k, n) S A0) (hw : wc_Coder_repeats rec A0 a0 Q) : hMv l d b yX1_repeats cX1_repeats 9 (630 + lv0 + 1) k n F [.ref (gO' Y 5), .int (zI a0)] (yPv d b Y c F S Q) := by
  intro mc ms
  refine hM_of2 rfl (nL := 9) (Nat.le_of_ble_eq_true rfl) ?_
  intro X hX hC hr ho; subst hX
  show yG X d b (yQv X d b Y c F S mc ms Q) (F, k, n) 0 [some (.ref (gO' Y 5)), some (.int (zI a0)), none, none, none, none, none, none, none] []
  unfold wc_Coder_repeats at hw
  refine h_aload_n hC dX1_repeats_0 rfl ?_
  refine h_get hC fl_X1_27 (hZ.w.o 5 (by decide)) rfl dX1_repeats_1 ?_
  refine yr_sv (e := (yv A0 13)) hZ 13 rfl ?_
  refine h_istore_n (lv' := [some (.ref (gO' Y 5)), some (.int (zI a0)), some (.int (zI (yv A0 13))), none, none, none, none, none, none]) hC dX1_repeats_4 (Nat.le_of_ble_eq_true rfl) rfl rfl ?_
  refine h_aload_n hC dX1_repeats_5 rfl ?_
  refine h_get hC fl_X1_31 (hZ.w.o 5 (by decide)) rfl dX1_repeats_6 ?_
  refine yr_sv (e := (yv A0 14)) hZ 14 rfl ?_
  refine h_istore_n (lv' := [some (.ref (gO' Y 5)), some (.int (zI a0)), some (.int (zI (yv A0 13))), some (.int (zI (yv A0 14))), none, none, none, none, none]) hC dX1_repeats_9 (Nat.le_of_ble_eq_true rfl) rfl rfl ?_
  refine h_aload_n hC dX1_repeats_10 rfl ?_
  refine h_get hC fl_X1_65 (hZ.w.o 5 (by decide)) rfl dX1_repeats_11 ?_
  refine h_iload_n hC dX1_repeats_14 rfl ?_
  refine yr_callVi (As := [.int (zI a0)]) hC hr ho hZ rfl (hZ.w.o 2 (by decide)) (cm_Tree_first X.la d b Ra0 hZ.rs hw) cl_X1_126 rfl rfl (Nat.le_of_ble_eq_true rfl) (hFr_of (by omega) (Nat.le_of_ble_eq_true rfl)) dX1_repeats_15 (fun r1 A2 u3 S4 R5 o6 hZ7 h8 => ?_)
  refine h_istore (lv' := [some (.ref (gO' Y 5)), some (.int (zI a0)), some (.int (zI (yv A0 13))), some (.int (zI (yv A0 14))), some (.int (zI r1)), none, none, none, none]) hC dX1_repeats_18 (Nat.le_of_ble_eq_true rfl) rfl rfl ?_
  refine h_aload_n hC dX1_repeats_20 rfl ?_
  refine h_get hC fl_X1_69 (hZ7.w.o 5 (by decide)) rfl dX1_repeats_21 ?_
  refine yr_callVi (As := []) hC hr o6 hZ7 rfl (hZ7.w.o 1 (by decide)) (cm_Program_here X.la d b  hZ7.rs h8) cl_X1_220 rfl rfl (Nat.le_of_ble_eq_true rfl) (hFr_of (by omega) (Nat.le_of_ble_eq_true rfl)) dX1_repeats_24 (fun r9 A10 u11 S12 R13 o14 hZ15 h16 => ?_)
  refine h_istore (lv' := [some (.ref (gO' Y 5)), some (.int (zI a0)), some (.int (zI (yv A0 13))), some (.int (zI (yv A0 14))), some (.int (zI r1)), some (.int (zI r9)), none, none, none]) hC dX1_repeats_27 (Nat.le_of_ble_eq_true rfl) rfl rfl ?_
  refine h_aload_n hC dX1_repeats_29 rfl ?_
  refine h_iconst (v := zI 0) hC dX1_repeats_30 rfl ?_
  refine hi_putx (i := 5) (kx := 13) hC hZ15.hi (by decide) fl_X1_27 rfl rfl rfl (Nat.le_of_ble_eq_true rfl) rfl gsame_13 (fun q => absurd q (by decide)) dX1_repeats_31 (fun F17 S18 I19 K20 s21 v22 p23 => ?_)
  have hZ24 := hZ15.put I19 K20 s21 v22 (by decide) rfl
  clear I19 K20 s21 v22 p23
  refine yr_nu o14 hZ24 (fun u25 o26 hZ27 => ?_)
  refine h_aload_n hC dX1_repeats_34 rfl ?_
  refine h_iconst (v := zI 0) hC dX1_repeats_35 rfl ?_
  refine hi_putx (i := 5) (kx := 14) hC hZ27.hi (by decide) fl_X1_31 rfl rfl rfl (Nat.le_of_ble_eq_true rfl) rfl gsame_14 (fun q => absurd q (by decide)) dX1_repeats_36 (fun F28 S29 I30 K31 s32 v33 p34 => ?_)
  have hZ35 := hZ27.put I30 K31 s32 v33 (by decide) rfl
  clear I30 K31 s32 v33 p34
  refine yr_nu o26 hZ35 (fun u36 o37 hZ38 => ?_)
  refine h_aload_n hC dX1_repeats_39 rfl ?_
  refine h_iload hC dX1_repeats_40 rfl ?_
  refine yr_callVv (As := [.int (zI r1)]) hC hr o37 hZ38 rfl (hZ38.w.o 5 (by decide)) (ih.2.2.2.2.1 R5 hZ38.rs h16) cl_X1_192 rfl rfl (Nat.le_of_ble_eq_true rfl) (hFr_of (by omega) (Nat.le_of_ble_eq_true rfl)) dX1_repeats_42 (fun A40 u41 S42 o44 hZ45 h46 => ?_)
  refine h_aload_n hC dX1_repeats_45 rfl ?_
  refine h_get hC fl_X1_65 (hZ45.w.o 5 (by decide)) rfl dX1_repeats_46 ?_
  refine h_iload hC dX1_repeats_49 rfl ?_
  refine yr_callVi (As := [.int (zI r1)]) hC hr o44 hZ45 rfl (hZ45.w.o 2 (by decide)) (cm_Tree_next X.la d b R5 hZ45.rs h46) cl_X1_142 rfl rfl (Nat.le_of_ble_eq_true rfl) (hFr_of (by omega) (Nat.le_of_ble_eq_true rfl)) dX1_repeats_51 (fun r47 A48 u49 S50 R51 o52 hZ53 h54 => ?_)
  refine h_istore (lv' := [some (.ref (gO' Y 5)), some (.int (zI a0)), some (.int (zI (yv A0 13))), some (.int (zI (yv A0 14))), some (.int (zI r1)), some (.int (zI r9)), some (.int (zI r47)), none, none]) hC dX1_repeats_54 (Nat.le_of_ble_eq_true rfl) rfl rfl ?_
  refine h_iconst (v := zI 0) hC dX1_repeats_56 rfl ?_
  refine h_istore (lv' := [some (.ref (gO' Y 5)), some (.int (zI a0)), some (.int (zI (yv A0 13))), some (.int (zI (yv A0 14))), some (.int (zI r1)), some (.int (zI r9)), some (.int (zI r47)), some (.int (zI 0)), none]) hC dX1_repeats_57 (Nat.le_of_ble_eq_true rfl) rfl rfl ?_
  refine h_lv (lv' := [some (.ref (gO' Y 5)), none, some (.int (zI (yv A0 13))), some (.int (zI (yv A0 14))), none, some (.int (zI r9)), some (.int (zI r47)), some (.int (zI 0)), none]) ⟨rfl, rfl, rfl, rfl, rfl, rfl, trivial⟩ ?_
  obtain ⟨m55, h56⟩ := h54
  exact cl_Coder_repeats_59 hC hr ih  m55 _ _ _ _ _ _ _ _ (hZ.rv 13) (hZ.rv 14) R13 R51 (by decide) o52 hZ53 h56
theorem dX1_counting_0 : decode cX1_counting 0 = .ok (.aload_n 0, 1) := by decide +kernel
theorem dX1_counting_1 : decode cX1_counting 1 = .ok (.getfield 27, 3) := by decide +kernel
theorem dX1_counting_4 : decode cX1_counting 4 = .ok (.istore_n 2, 1) := by decide +kernel
theorem dX1_counting_5 : decode cX1_counting 5 = .ok (.aload_n 0, 1) := by decide +kernel
theorem dX1_counting_6 : decode cX1_counting 6 = .ok (.getfield 31, 3) := by decide +kernel
theorem dX1_counting_9 : decode cX1_counting 9 = .ok (.istore_n 3, 1) := by decide +kernel
theorem dX1_counting_10 : decode cX1_counting 10 = .ok (.aload_n 0, 1) := by decide +kernel
theorem dX1_counting_11 : decode cX1_counting 11 = .ok (.getfield 46, 3) := by decide +kernel
theorem dX1_counting_14 : decode cX1_counting 14 = .ok (.istore 4, 2) := by decide +kernel
theorem dX1_counting_16 : decode cX1_counting 16 = .ok (.aload_n 0, 1) := by decide +kernel
theorem dX1_counting_17 : decode cX1_counting 17 = .ok (.getfield 65, 3) := by decide +kernel
theorem dX1_counting_20 : decode cX1_counting 20 = .ok (.iload_n 1, 1) := by decide +kernel
theorem dX1_counting_21 : decode cX1_counting 21 = .ok (.invokevirtual 126, 3) := by decide +kernel
theorem dX1_counting_24 : decode cX1_counting 24 = .ok (.istore 5, 2) := by decide +kernel
theorem dX1_counting_26 : decode cX1_counting 26 = .ok (.aload_n 0, 1) := by decide +kernel
theorem dX1_counting_27 : decode cX1_counting 27 = .ok (.getfield 65, 3) := by decide +kernel
theorem dX1_counting_30 : decode cX1_counting 30 = .ok (.iload 5, 2) := by decide +kernel
theorem dX1_counting_32 : decode cX1_counting 32 = .ok (.invokevirtual 142, 3) := by decide +kernel
theorem dX1_counting_35 : decode cX1_counting 35 = .ok (.istore 6, 2) := by decide +kernel
theorem dX1_counting_37 : decode cX1_counting 37 = .ok (.aload_n 0, 1) := by decide +kernel
theorem dX1_counting_38 : decode cX1_counting 38 = .ok (.getfield 65, 3) := by decide +kernel
theorem dX1_counting_41 : decode cX1_counting 41 = .ok (.iload_n 1, 1) := by decide +kernel
theorem dX1_counting_42 : decode cX1_counting 42 = .ok (.invokevirtual 132, 3) := by decide +kernel
theorem dX1_counting_45 : decode cX1_counting 45 = .ok (.ifCond .ne 7, 3) := by decide +kernel
theorem dX1_counting_48 : decode cX1_counting 48 = .ok (.iconst 1, 1) := by decide +kernel
theorem dX1_counting_49 : decode cX1_counting 49 = .ok (.goto 19, 3) := by decide +kernel
theorem dX1_counting_52 : decode cX1_counting 52 = .ok (.aload_n 0, 1) := by decide +kernel
theorem dX1_counting_53 : decode cX1_counting 53 = .ok (.getfield 87, 3) := by decide +kernel
theorem dX1_counting_56 : decode cX1_counting 56 = .ok (.aload_n 0, 1) := by decide +kernel
theorem dX1_counting_57 : decode cX1_counting 57 = .ok (.getfield 65, 3) := by decide +kernel
theorem dX1_counting_60 : decode cX1_counting 60 = .ok (.iload_n 1, 1) := by decide +kernel
theorem dX1_counting_61 : decode cX1_counting 61 = .ok (.invokevirtual 132, 3) := by decide +kernel
theorem dX1_counting_64 : decode cX1_counting 64 = .ok (.iconst (-1), 1) := by decide +kernel
theorem dX1_counting_65 : decode cX1_counting 65 = .ok (.invokevirtual 145, 3) := by decide +kernel
theorem dX1_counting_68 : decode cX1_counting 68 = .ok (.istore 7, 2) := by decide +kernel
theorem dX1_counting_70 : decode cX1_counting 70 = .ok (.aload_n 0, 1) := by decide +kernel
theorem dX1_counting_71 : decode cX1_counting 71 = .ok (.iload 5, 2) := by decide +kernel
theorem dX1_counting_73 : decode cX1_counting 73 = .ok (.iconst 0, 1) := by decide +kernel
theorem dX1_counting_74 : decode cX1_counting 74 = .ok (.iconst 0, 1) := by decide +kernel
theorem dX1_counting_75 : decode cX1_counting 75 = .ok (.invokevirtual 188, 3) := by decide +kernel
theorem dX1_counting_78 : decode cX1_counting 78 = .ok (.aload_n 0, 1) := by decide +kernel
theorem dX1_counting_79 : decode cX1_counting 79 = .ok (.iload 6, 2) := by decide +kernel
theorem dX1_counting_81 : decode cX1_counting 81 = .ok (.iconst 0, 1) := by decide +kernel
theorem dX1_counting_82 : decode cX1_counting 82 = .ok (.iconst 0, 1) := by decide +kernel
theorem dX1_counting_83 : decode cX1_counting 83 = .ok (.invokevirtual 188, 3) := by decide +kernel
theorem dX1_counting_86 : decode cX1_counting 86 = .ok (.aload_n 0, 1) := by decide +kernel
theorem dX1_counting_87 : decode cX1_counting 87 = .ok (.bipush 10, 2) := by decide +kernel
theorem dX1_counting_89 : decode cX1_counting 89 = .ok (.iload 4, 2) := by decide +kernel
theorem dX1_counting_91 : decode cX1_counting 91 = .ok (.iconst 1, 1) := by decide +kernel
theorem dX1_counting_92 : decode cX1_counting 92 = .ok (.iadd, 1) := by decide +kernel
theorem dX1_counting_93 : decode cX1_counting 93 = .ok (.invokevirtual 181, 3) := by decide +kernel
theorem dX1_counting_96 : decode cX1_counting 96 = .ok (.pop, 1) := by decide +kernel
theorem dX1_counting_97 : decode cX1_counting 97 = .ok (.aload_n 0, 1) := by decide +kernel
theorem dX1_counting_98 : decode cX1_counting 98 = .ok (.bipush 10, 2) := by decide +kernel
theorem dX1_counting_100 : decode cX1_counting 100 = .ok (.iload 4, 2) := by decide +kernel
theorem dX1_counting_102 : decode cX1_counting 102 = .ok (.invokevirtual 181, 3) := by decide +kernel
theorem dX1_counting_105 : decode cX1_counting 105 = .ok (.pop, 1) := by decide +kernel
theorem dX1_counting_106 : decode cX1_counting 106 = .ok (.aload_n 0, 1) := by decide +kernel
theorem dX1_counting_107 : decode cX1_counting 107 = .ok (.iconst 2, 1) := by decide +kernel
theorem dX1_counting_108 : decode cX1_counting 108 = .ok (.invokevirtual 211, 3) := by decide +kernel
theorem dX1_counting_111 : decode cX1_counting 111 = .ok (.aload_n 0, 1) := by decide +kernel
theorem dX1_counting_112 : decode cX1_counting 112 = .ok (.getfield 78, 3) := by decide +kernel
theorem dX1_counting_115 : decode cX1_counting 115 = .ok (.invokevirtual 182, 3) := by decide +kernel
theorem dX1_counting_118 : decode cX1_counting 118 = .ok (.aload_n 0, 1) := by decide +kernel
theorem dX1_counting_119 : decode cX1_counting 119 = .ok (.getfield 78, 3) := by decide +kernel
theorem dX1_counting_122 : decode cX1_counting 122 = .ok (.aload_n 0, 1) := by decide +kernel
theorem dX1_counting_123 : decode cX1_counting 123 = .ok (.getfield 65, 3) := by decide +kernel
theorem dX1_counting_126 : decode cX1_counting 126 = .ok (.iload_n 1, 1) := by decide +kernel
theorem dX1_counting_127 : decode cX1_counting 127 = .ok (.invokevirtual 129, 3) := by decide +kernel
theorem dX1_counting_130 : decode cX1_counting 130 = .ok (.iconst 2, 1) := by decide +kernel
theorem dX1_counting_131 : decode cX1_counting 131 = .ok (.iload 4, 2) := by decide +kernel
theorem dX1_counting_133 : decode cX1_counting 133 = .ok (.aload_n 0, 1) := by decide +kernel
theorem dX1_counting_134 : decode cX1_counting 134 = .ok (.getfield 52, 3) := by decide +kernel
theorem dX1_counting_137 : decode cX1_counting 137 = .ok (.aload_n 0, 1) := by decide +kernel
theorem dX1_counting_138 : decode cX1_counting 138 = .ok (.getfield 65, 3) := by decide +kernel
theorem dX1_counting_141 : decode cX1_counting 141 = .ok (.iload_n 1, 1) := by decide +kernel
theorem dX1_counting_142 : decode cX1_counting 142 = .ok (.invokevirtual 135, 3) := by decide +kernel
theorem dX1_counting_145 : decode cX1_counting 145 = .ok (.invokevirtual 138, 3) := by decide +kernel
theorem dX1_counting_148 : decode cX1_counting 148 = .ok (.pop, 1) := by decide +kernel
theorem dX1_counting_149 : decode cX1_counting 149 = .ok (.aload_n 0, 1) := by decide +kernel
theorem dX1_counting_150 : decode cX1_counting 150 = .ok (.getfield 69, 3) := by decide +kernel
theorem dX1_counting_153 : decode cX1_counting 153 = .ok (.invokevirtual 220, 3) := by decide +kernel
theorem dX1_counting_156 : decode cX1_counting 156 = .ok (.istore 8, 2) := by decide +kernel
theorem dX1_counting_158 : decode cX1_counting 158 = .ok (.aload_n 0, 1) := by decide +kernel
theorem dX1_counting_159 : decode cX1_counting 159 = .ok (.bipush 18, 2) := by decide +kernel
theorem dX1_counting_161 : decode cX1_counting 161 = .ok (.iconst 1, 1) := by decide +kernel
theorem dX1_counting_162 : decode cX1_counting 162 = .ok (.invokevirtual 181, 3) := by decide +kernel
theorem dX1_counting_165 : decode cX1_counting 165 = .ok (.pop, 1) := by decide +kernel
theorem dX1_counting_166 : decode cX1_counting 166 = .ok (.aload_n 0, 1) := by decide +kernel
theorem dX1_counting_167 : decode cX1_counting 167 = .ok (.iconst 2, 1) := by decide +kernel
theorem dX1_counting_168 : decode cX1_counting 168 = .ok (.iload 4, 2) := by decide +kernel
theorem dX1_counting_170 : decode cX1_counting 170 = .ok (.invokevirtual 181, 3) := by decide +kernel
theorem dX1_counting_173 : decode cX1_counting 173 = .ok (.pop, 1) := by decide +kernel
theorem dX1_counting_174 : decode cX1_counting 174 = .ok (.aload_n 0, 1) := by decide +kernel
theorem dX1_counting_175 : decode cX1_counting 175 = .ok (.iconst 2, 1) := by decide +kernel
theorem dX1_counting_176 : decode cX1_counting 176 = .ok (.iload 4, 2) := by decide +kernel
theorem dX1_counting_178 : decode cX1_counting 178 = .ok (.iconst 1, 1) := by decide +kernel
theorem dX1_counting_179 : decode cX1_counting 179 = .ok (.iadd, 1) := by decide +kernel
theorem dX1_counting_180 : decode cX1_counting 180 = .ok (.invokevirtual 181, 3) := by decide +kernel
theorem dX1_counting_183 : decode cX1_counting 183 = .ok (.pop, 1) := by decide +kernel
theorem dX1_counting_184 : decode cX1_counting 184 = .ok (.aload_n 0, 1) := by decide +kernel
theorem dX1_counting_185 : decode cX1_counting 185 = .ok (.bipush 100, 2) := by decide +kernel
theorem dX1_counting_187 : decode cX1_counting 187 = .ok (.iload 7, 2) := by decide +kernel
theorem dX1_counting_189 : decode cX1_counting 189 = .ok (.ifCond .ge 8, 3) := by decide +kernel
theorem dX1_counting_192 : decode cX1_counting 192 = .ok (.bipush 22, 2) := by decide +kernel
theorem dX1_counting_194 : decode cX1_counting 194 = .ok (.goto 5, 3) := by decide +kernel
theorem dX1_counting_197 : decode cX1_counting 197 = .ok (.bipush 24, 2) := by decide +kernel
theorem dX1_counting_199 : decode cX1_counting 199 = .ok (.iadd, 1) := by decide +kernel
theorem dX1_counting_200 : decode cX1_counting 200 = .ok (.iconst 0, 1) := by decide +kernel
theorem dX1_counting_201 : decode cX1_counting 201 = .ok (.invokevirtual 181, 3) := by decide +kernel
theorem dX1_counting_204 : decode cX1_counting 204 = .ok (.pop, 1) := by decide +kernel
theorem dX1_counting_205 : decode cX1_counting 205 = .ok (.aload_n 0, 1) := by decide +kernel
theorem dX1_counting_206 : decode cX1_counting 206 = .ok (.aload_n 0, 1) := by decide +kernel
theorem dX1_counting_207 : decode cX1_counting 207 = .ok (.bipush 16, 2) := by decide +kernel
theorem dX1_counting_209 : decode cX1_counting 209 = .ok (.iconst 0, 1) := by decide +kernel
theorem dX1_counting_210 : decode cX1_counting 210 = .ok (.invokevirtual 181, 3) := by decide +kernel
theorem dX1_counting_213 : decode cX1_counting 213 = .ok (.putfield 27, 3) := by decide +kernel
theorem dX1_counting_216 : decode cX1_counting 216 = .ok (.aload_n 0, 1) := by decide +kernel
theorem dX1_counting_217 : decode cX1_counting 217 = .ok (.iconst 0, 1) := by decide +kernel
theorem dX1_counting_218 : decode cX1_counting 218 = .ok (.putfield 31, 3) := by decide +kernel
theorem dX1_counting_221 : decode cX1_counting 221 = .ok (.aload_n 0, 1) := by decide +kernel
theorem dX1_counting_222 : decode cX1_counting 222 = .ok (.aload_n 0, 1) := by decide +kernel
theorem dX1_counting_223 : decode cX1_counting 223 = .ok (.getfield 65, 3) := by decide +kernel
theorem dX1_counting_226 : decode cX1_counting 226 = .ok (.iload 6, 2) := by decide +kernel
theorem dX1_counting_228 : decode cX1_counting 228 = .ok (.invokevirtual 142, 3) := by decide +kernel
theorem dX1_counting_231 : decode cX1_counting 231 = .ok (.invokevirtual 192, 3) := by decide +kernel
theorem dX1_counting_234 : decode cX1_counting 234 = .ok (.aload_n 0, 1) := by decide +kernel
theorem dX1_counting_235 : decode cX1_counting 235 = .ok (.getfield 69, 3) := by decide +kernel
theorem dX1_counting_238 : decode cX1_counting 238 = .ok (.aload_n 0, 1) := by decide +kernel
theorem dX1_counting_239 : decode cX1_counting 239 = .ok (.getfield 31, 3) := by decide +kernel
theorem dX1_counting_242 : decode cX1_counting 242 = .ok (.invokevirtual 201, 3) := by decide +kernel
theorem dX1_counting_245 : decode cX1_counting 245 = .ok (.aload_n 0, 1) := by decide +kernel
theorem dX1_counting_246 : decode cX1_counting 246 = .ok (.iconst 2, 1) := by decide +kernel
theorem dX1_counting_247 : decode cX1_counting 247 = .ok (.iload 4, 2) := by decide +kernel
theorem dX1_counting_249 : decode cX1_counting 249 = .ok (.invokevirtual 181, 3) := by decide +kernel
theorem dX1_counting_252 : decode cX1_counting 252 = .ok (.pop, 1) := by decide +kernel
theorem dX1_counting_253 : decode cX1_counting 253 = .ok (.aload_n 0, 1) := by decide +kernel
theorem dX1_counting_254 : decode cX1_counting 254 = .ok (.iconst 1, 1) := by decide +kernel
theorem dX1_counting_255 : decode cX1_counting 255 = .ok (.iload 7, 2) := by decide +kernel
theorem dX1_counting_257 : decode cX1_counting 257 = .ok (.invokevirtual 181, 3) := by decide +kernel
theorem dX1_counting_260 : decode cX1_counting 260 = .ok (.pop, 1) := by decide +kernel
theorem dX1_counting_261 : decode cX1_counting 261 = .ok (.aload_n 0, 1) := by decide +kernel
theorem dX1_counting_262 : decode cX1_counting 262 = .ok (.bipush 116, 2) := by decide +kernel
theorem dX1_counting_264 : decode cX1_counting 264 = .ok (.iconst 0, 1) := by decide +kernel
theorem dX1_counting_265 : decode cX1_counting 265 = .ok (.invokevirtual 181, 3) := by decide +kernel
theorem dX1_counting_268 : decode cX1_counting 268 = .ok (.pop, 1) := by decide +kernel
theorem dX1_counting_269 : decode cX1_counting 269 = .ok (.aload_n 0, 1) := by decide +kernel
theorem dX1_counting_270 : decode cX1_counting 270 = .ok (.bipush 10, 2) := by decide +kernel
theorem dX1_counting_272 : decode cX1_counting 272 = .ok (.iload 4, 2) := by decide +kernel
theorem dX1_counting_274 : decode cX1_counting 274 = .ok (.invokevirtual 181, 3) := by decide +kernel
theorem dX1_counting_277 : decode cX1_counting 277 = .ok (.pop, 1) := by decide +kernel
theorem dX1_counting_278 : decode cX1_counting 278 = .ok (.aload_n 0, 1) := by decide +kernel
theorem dX1_counting_279 : decode cX1_counting 279 = .ok (.bipush 14, 2) := by decide +kernel
theorem dX1_counting_281 : decode cX1_counting 281 = .ok (.iload 8, 2) := by decide +kernel
theorem dX1_counting_283 : decode cX1_counting 283 = .ok (.invokevirtual 181, 3) := by decide +kernel
theorem dX1_counting_286 : decode cX1_counting 286 = .ok (.pop, 1) := by decide +kernel
theorem dX1_counting_287 : decode cX1_counting 287 = .ok (.aload_n 0, 1) := by decide +kernel
theorem dX1_counting_288 : decode cX1_counting 288 = .ok (.getfield 69, 3) := by decide +kernel
theorem dX1_counting_291 : decode cX1_counting 291 = .ok (.aload_n 0, 1) := by decide +kernel
theorem dX1_counting_292 : decode cX1_counting 292 = .ok (.getfield 27, 3) := by decide +kernel
theorem dX1_counting_295 : decode cX1_counting 295 = .ok (.invokevirtual 201, 3) := by decide +kernel
theorem dX1_counting_298 : decode cX1_counting 298 = .ok (.aload_n 0, 1) := by decide +kernel
theorem dX1_counting_299 : decode cX1_counting 299 = .ok (.getfield 78, 3) := by decide +kernel
theorem dX1_counting_302 : decode cX1_counting 302 = .ok (.invokevirtual 195, 3) := by decide +kernel
theorem dX1_counting_305 : decode cX1_counting 305 = .ok (.aload_n 0, 1) := by decide +kernel
theorem dX1_counting_306 : decode cX1_counting 306 = .ok (.iload 4, 2) := by decide +kernel
theorem dX1_counting_308 : decode cX1_counting 308 = .ok (.putfield 46, 3) := by decide +kernel
theorem dX1_counting_311 : decode cX1_counting 311 = .ok (.aload_n 0, 1) := by decide +kernel
theorem dX1_counting_312 : decode cX1_counting 312 = .ok (.iload_n 2, 1) := by decide +kernel
theorem dX1_counting_313 : decode cX1_counting 313 = .ok (.putfield 27, 3) := by decide +kernel
theorem dX1_counting_316 : decode cX1_counting 316 = .ok (.aload_n 0, 1) := by decide +kernel
theorem dX1_counting_317 : decode cX1_counting 317 = .ok (.iload_n 3, 1) := by decide +kernel
theorem dX1_counting_318 : decode cX1_counting 318 = .ok (.putfield 31, 3) := by decide +kernel
theorem dX1_counting_321 : decode cX1_counting 321 = .ok (.return_, 1) := by decide +kernel
def wc_Coder_counting_199 (rec : Nat → Int → Int → Int → cS → (Int → cS → Prop) → Prop) (Q : cS → Prop)  (A0 : cS) (x2 : Int) (x3 : Int) (x4 : Int) (x6 : Int) (x7 : Int) (x8 : Int) (y0 : Int) (y1 : Int) : Prop :=
  (zR (y1 + y0)) ∧ wc_Coder_emit A0 (y1 + y0) 0 (fun r3 A4 => wc_Coder_emit A4 16 0 (fun r11 A12 => wc_Tree_next (ypv (ypv A12 13 r11) 14 0) x6 (fun r41 A42 => rec 4 r41 0 0 A42 (fun _ A50 => wc_Program_land A50 (yv A50 14) (fun A58 => wc_Coder_emit A58 2 x4 (fun r65 A66 => wc_Coder_emit A66 1 x7 (fun r73 A74 => wc_Coder_emit A74 116 0 (fun r81 A82 => wc_Coder_emit A82 10 x4 (fun r89 A90 => wc_Coder_emit A90 14 x8 (fun r97 A98 => wc_Program_land A98 (yv A98 13) (fun A106 => wc_Scope_close A106  (fun A114 => Q (ypv (ypv (ypv A114 19 x4) 13 x2) 14 x3)))))))))))))
def wc_Coder_counting_68 (rec : Nat → Int → Int → Int → cS → (Int → cS → Prop) → Prop) (Q : cS → Prop)  (A0 : cS) (x1 : Int) (x2 : Int) (x3 : Int) (x4 : Int) (x5 : Int) (x6 : Int) (y0 : Int) : Prop :=
  rec 12 x5 0 0 A0 (fun _ A2 => rec 12 x6 0 0 A2 (fun _ A10 => (zR (x4 + 1)) ∧ wc_Coder_emit A10 10 (x4 + 1) (fun r19 A20 => wc_Coder_emit A20 10 x4 (fun r27 A28 => wc_Coder_take A28 2 (fun A36 => wc_Scope_open A36  (fun A44 => wc_Tree_data A44 x1 (fun r51 A52 => wc_Tree_place A52 x1 (fun r59 A60 => wc_Scope_declare A60 r51 2 x4 (yv A52 21) r59 (fun r67 A68 => wc_Program_here A68  (fun r75 A76 => wc_Coder_emit A76 18 1 (fun r83 A84 => wc_Coder_emit A84 2 x4 (fun r91 A92 => wc_Coder_emit A92 2 (x4 + 1) (fun r99 A100 => ((0 ≤ y0 → wc_Coder_counting_199 rec Q  A100 x2 x3 x4 x6 y0 r75 24 100) ∧ (¬ 0 ≤ y0 → wc_Coder_counting_199 rec Q  A100 x2 x3 x4 x6 y0 r75 22 100)))))))))))))))
def wc_Coder_counting (rec : Nat → Int → Int → Int → cS → (Int → cS → Prop) → Prop) (A0 : cS) (a0 : Int) (Q : cS → Prop) : Prop :=
  wc_Tree_first A0 a0 (fun r1 A2 => wc_Tree_next A2 r1 (fun r9 A10 => wc_Tree_extra A10 a0 (fun r17 A18 => ((¬ r17 = 0 → wc_Tree_extra A18 a0 (fun r27 A28 => wc_Constants_number A28 r27 (-1) (fun r35 A36 => wc_Coder_counting_68 rec Q  A36 a0 (yv A0 13) (yv A0 14) (yv A0 19) r1 r9 r35))) ∧ (r17 = 0 → wc_Coder_counting_68 rec Q  A18 a0 (yv A0 13) (yv A0 14) (yv A0 19) r1 r9 1)))))
set_option maxHeartbeats 4000000 in
set_option maxRecDepth 100000 in
theorem cj_Coder_counting_199 {X : gX} {d : gD} {b : Nat} {Y : gYt} {c : Nat × Nat} {F0 : gM} {S0 : gSt} {mc ms : Nat} {rec : Nat → Int → Int → Int → cS → (Int → cS → Prop) → Prop} {lv0 : Nat} (hC : gC RX1 cX1_counting 9 none "counting" (gR (630 + lv0 + 1) mc ms) d b X) (hr : hRm X b) (ih : yOkC X.la d b Y c lv0 rec) {Q : cS → Prop}   {u : hU} {S : gSt} {A0 : cS} {x2 : Int} {x3 : Int} {x4 : Int} {x6 : Int} {x7 : Int} {x8 : Int} {y0 : Int} {y1 : Int} (Rx2 : zR x2) (Rx3 : zR x3) (Rx4 : zR x4) (Rx6 : zR x6) (Rx7 : zR x7) (Rx8 : zR x8) (Ry0 : zR y0) (Ry1 : zR y1) (ho : yOk X b u) (hZ : yZ d b Y c F0 S0 u S A0) (hw : wc_Coder_counting_199 rec Q  A0 x2 x3 x4 x6 x7 x8 y0 y1) : yG X d b (yQv X d b Y c F0 S0 mc ms Q) u 199 [some (.ref (gO' Y 5)), none, some (.int (zI x2)), some (.int (zI x3)), some (.int (zI x4)), none, some (.int (zI x6)), some (.int (zI x7)), some (.int (zI x8))] [.int (zI y0), .int (zI y1), .ref (gO' Y 5)] := by
  unfold wc_Coder_counting_199 at hw
  refine yr_iadd hC dX1_counting_199 ?_
  refine h_iconst (v := zI 0) hC dX1_counting_200 rfl ?_
  obtain ⟨o1, h2⟩ := hw
  refine yr_callVi (As := [.int (zI (y1 + y0)), .int (zI 0)]) hC hr ho hZ rfl (hZ.w.o 5 (by decide)) (cm_Coder_emit X.la d b o1 (by decide) hZ.rs h2) cl_X1_181 rfl rfl (Nat.le_of_ble_eq_true rfl) (hFr_of (by omega) (Nat.le_of_ble_eq_true rfl)) dX1_counting_201 (fun r3 A4 u5 S6 R7 o8 hZ9 h10 => ?_)
  refine h_pop hC dX1_counting_204 rfl ?_
  refine h_aload_n hC dX1_counting_205 rfl ?_
  refine h_aload_n hC dX1_counting_206 rfl ?_
  refine h_bipush (v := zI 16) hC dX1_counting_207 rfl ?_
  refine h_iconst (v := zI 0) hC dX1_counting_209 rfl ?_
  refine yr_callVi (As := [.int (zI 16), .int (zI 0)]) hC hr o8 hZ9 rfl (hZ9.w.o 5 (by decide)) (cm_Coder_emit X.la d b (by decide) (by decide) hZ9.rs h10) cl_X1_181 rfl rfl (Nat.le_of_ble_eq_true rfl) (hFr_of (by omega) (Nat.le_of_ble_eq_true rfl)) dX1_counting_210 (fun r11 A12 u13 S14 R15 o16 hZ17 h18 => ?_)
  refine hi_putx (i := 5) (kx := 13) hC hZ17.hi (by decide) fl_X1_27 rfl rfl rfl (Nat.le_of_ble_eq_true rfl) rfl gsame_13 (fun q => absurd q (by decide)) dX1_counting_213 (fun F19 S20 I21 K22 s23 v24 p25 => ?_)
  have hZ26 := hZ17.put I21 K22 s23 v24 R15 rfl
  clear I21 K22 s23 v24 p25
  refine yr_nu o16 hZ26 (fun u27 o28 hZ29 => ?_)
  refine h_aload_n hC dX1_counting_216 rfl ?_
  refine h_iconst (v := zI 0) hC dX1_counting_217 rfl ?_
  refine hi_putx (i := 5) (kx := 14) hC hZ29.hi (by decide) fl_X1_31 rfl rfl rfl (Nat.le_of_ble_eq_true rfl) rfl gsame_14 (fun q => absurd q (by decide)) dX1_counting_218 (fun F30 S31 I32 K33 s34 v35 p36 => ?_)
  have hZ37 := hZ29.put I32 K33 s34 v35 (by decide) rfl
  clear I32 K33 s34 v35 p36
  refine yr_nu o28 hZ37 (fun u38 o39 hZ40 => ?_)
  refine h_aload_n hC dX1_counting_221 rfl ?_
  refine h_aload_n hC dX1_counting_222 rfl ?_
  refine h_get hC fl_X1_65 (hZ40.w.o 5 (by decide)) rfl dX1_counting_223 ?_
  refine h_iload hC dX1_counting_226 rfl ?_
  refine yr_callVi (As := [.int (zI x6)]) hC hr o39 hZ40 rfl (hZ40.w.o 2 (by decide)) (cm_Tree_next X.la d b Rx6 hZ40.rs h18) cl_X1_142 rfl rfl (Nat.le_of_ble_eq_true rfl) (hFr_of (by omega) (Nat.le_of_ble_eq_true rfl)) dX1_counting_228 (fun r41 A42 u43 S44 R45 o46 hZ47 h48 => ?_)
  refine yr_callVv (As := [.int (zI r41)]) hC hr o46 hZ47 rfl (hZ47.w.o 5 (by decide)) (ih.2.2.2.2.1 R45 hZ47.rs h48) cl_X1_192 rfl rfl (Nat.le_of_ble_eq_true rfl) (hFr_of (by omega) (Nat.le_of_ble_eq_true rfl)) dX1_counting_231 (fun A50 u51 S52 o54 hZ55 h56 => ?_)
  refine h_aload_n hC dX1_counting_234 rfl ?_
  refine h_get hC fl_X1_69 (hZ55.w.o 5 (by decide)) rfl dX1_counting_235 ?_
  refine h_aload_n hC dX1_counting_238 rfl ?_
  refine h_get hC fl_X1_31 (hZ55.w.o 5 (by decide)) rfl dX1_counting_239 ?_
  refine yr_sv (e := (yv A50 14)) hZ55 14 rfl ?_
  refine yr_callVv (As := [.int (zI (yv A50 14))]) hC hr o54 hZ55 rfl (hZ55.w.o 1 (by decide)) (cm_Program_land X.la d b (hZ55.rv 14) hZ55.rs h56) cl_X1_201 rfl rfl (Nat.le_of_ble_eq_true rfl) (hFr_of (by omega) (Nat.le_of_ble_eq_true rfl)) dX1_counting_242 (fun A58 u59 S60 o62 hZ63 h64 => ?_)
  refine h_aload_n hC dX1_counting_245 rfl ?_
  refine h_iconst (v := zI 2) hC dX1_counting_246 rfl ?_
  refine h_iload hC dX1_counting_247 rfl ?_
  refine yr_callVi (As := [.int (zI 2), .int (zI x4)]) hC hr o62 hZ63 rfl (hZ63.w.o 5 (by decide)) (cm_Coder_emit X.la d b (by decide) Rx4 hZ63.rs h64) cl_X1_181 rfl rfl (Nat.le_of_ble_eq_true rfl) (hFr_of (by omega) (Nat.le_of_ble_eq_true rfl)) dX1_counting_249 (fun r65 A66 u67 S68 R69 o70 hZ71 h72 => ?_)
  refine h_pop hC dX1_counting_252 rfl ?_
  refine h_aload_n hC dX1_counting_253 rfl ?_
  refine h_iconst (v := zI 1) hC dX1_counting_254 rfl ?_
  refine h_iload hC dX1_counting_255 rfl ?_
  refine yr_callVi (As := [.int (zI 1), .int (zI x7)]) hC hr o70 hZ71 rfl (hZ71.w.o 5 (by decide)) (cm_Coder_emit X.la d b (by decide) Rx7 hZ71.rs h72) cl_X1_181 rfl rfl (Nat.le_of_ble_eq_true rfl) (hFr_of (by omega) (Nat.le_of_ble_eq_true rfl)) dX1_counting_257 (fun r73 A74 u75 S76 R77 o78 hZ79 h80 => ?_)
  refine h_pop hC dX1_counting_260 rfl ?_
  refine h_aload_n hC dX1_counting_261 rfl ?_
  refine h_bipush (v := zI 116) hC dX1_counting_262 rfl ?_
  refine h_iconst (v := zI 0) hC dX1_counting_264 rfl ?_
  refine yr_callVi (As := [.int (zI 116), .int (zI 0)]) hC hr o78 hZ79 rfl (hZ79.w.o 5 (by decide)) (cm_Coder_emit X.la d b (by decide) (by decide) hZ79.rs h80) cl_X1_181 rfl rfl (Nat.le_of_ble_eq_true rfl) (hFr_of (by omega) (Nat.le_of_ble_eq_true rfl)) dX1_counting_265 (fun r81 A82 u83 S84 R85 o86 hZ87 h88 => ?_)
  refine h_pop hC dX1_counting_268 rfl ?_
  refine h_aload_n hC dX1_counting_269 rfl ?_
  refine h_bipush (v := zI 10) hC dX1_counting_270 rfl ?_
  refine h_iload hC dX1_counting_272 rfl ?_
  refine yr_callVi (As := [.int (zI 10), .int (zI x4)]) hC hr o86 hZ87 rfl (hZ87.w.o 5 (by decide)) (cm_Coder_emit X.la d b (by decide) Rx4 hZ87.rs h88) cl_X1_181 rfl rfl (Nat.le_of_ble_eq_true rfl) (hFr_of (by omega) (Nat.le_of_ble_eq_true rfl)) dX1_counting_274 (fun r89 A90 u91 S92 R93 o94 hZ95 h96 => ?_)
  refine h_pop hC dX1_counting_277 rfl ?_
  refine h_aload_n hC dX1_counting_278 rfl ?_
  refine h_bipush (v := zI 14) hC dX1_counting_279 rfl ?_
  refine h_iload hC dX1_counting_281 rfl ?_
  refine yr_callVi (As := [.int (zI 14), .int (zI x8)]) hC hr o94 hZ95 rfl (hZ95.w.o 5 (by decide)) (cm_Coder_emit X.la d b (by decide) Rx8 hZ95.rs h96) cl_X1_181 rfl rfl (Nat.le_of_ble_eq_true rfl) (hFr_of (by omega) (Nat.le_of_ble_eq_true rfl)) dX1_counting_283 (fun r97 A98 u99 S100 R101 o102 hZ103 h104 => ?_)
  refine h_pop hC dX1_counting_286 rfl ?_
  refine h_aload_n hC dX1_counting_287 rfl ?_
  refine h_get hC fl_X1_69 (hZ103.w.o 5 (by decide)) rfl dX1_counting_288 ?_
  refine h_aload_n hC dX1_counting_291 rfl ?_
  refine h_get hC fl_X1_27 (hZ103.w.o 5 (by decide)) rfl dX1_counting_292 ?_
  refine yr_sv (e := (yv A98 13)) hZ103 13 rfl ?_
  refine yr_callVv (As := [.int (zI (yv A98 13))]) hC hr o102 hZ103 rfl (hZ103.w.o 1 (by decide)) (cm_Program_land X.la d b (hZ103.rv 13) hZ103.rs h104) cl_X1_201 rfl rfl (Nat.le_of_ble_eq_true rfl) (hFr_of (by omega) (Nat.le_of_ble_eq_true rfl)) dX1_counting_295 (fun A106 u107 S108 o110 hZ111 h112 => ?_)
  refine h_aload_n hC dX1_counting_298 rfl ?_
  refine h_get hC fl_X1_78 (hZ111.w.o 5 (by decide)) rfl dX1_counting_299 ?_
  refine yr_callVv (As := []) hC hr o110 hZ111 rfl (hZ111.w.o 8 (by decide)) (cm_Scope_close X.la d b  hZ111.rs h112) cl_X1_195 rfl rfl (Nat.le_of_ble_eq_true rfl) (hFr_of (by omega) (Nat.le_of_ble_eq_true rfl)) dX1_counting_302 (fun A114 u115 S116 o118 hZ119 h120 => ?_)
  refine h_aload_n hC dX1_counting_305 rfl ?_
  refine h_iload hC dX1_counting_306 rfl ?_
  refine hi_putx (i := 5) (kx := 19) hC hZ119.hi (by decide) fl_X1_46 rfl rfl rfl (Nat.le_of_ble_eq_true rfl) rfl gsame_19 (fun q => absurd q (by decide)) dX1_counting_308 (fun F121 S122 I123 K124 s125 v126 p127 => ?_)
  have hZ128 := hZ119.put I123 K124 s125 v126 Rx4 rfl
  clear I123 K124 s125 v126 p127
  refine yr_nu o118 hZ128 (fun u129 o130 hZ131 => ?_)
  refine h_aload_n hC dX1_counting_311 rfl ?_
  refine h_iload_n hC dX1_counting_312 rfl ?_
  refine hi_putx (i := 5) (kx := 13) hC hZ131.hi (by decide) fl_X1_27 rfl rfl rfl (Nat.le_of_ble_eq_true rfl) rfl gsame_13 (fun q => absurd q (by decide)) dX1_counting_313 (fun F132 S133 I134 K135 s136 v137 p138 => ?_)
  have hZ139 := hZ131.put I134 K135 s136 v137 Rx2 rfl
  clear I134 K135 s136 v137 p138
  refine yr_nu o130 hZ139 (fun u140 o141 hZ142 => ?_)
  refine h_aload_n hC dX1_counting_316 rfl ?_
  refine h_iload_n hC dX1_counting_317 rfl ?_
  refine hi_putx (i := 5) (kx := 14) hC hZ142.hi (by decide) fl_X1_31 rfl rfl rfl (Nat.le_of_ble_eq_true rfl) rfl gsame_14 (fun q => absurd q (by decide)) dX1_counting_318 (fun F143 S144 I145 K146 s147 v148 p149 => ?_)
  have hZ150 := hZ142.put I145 K146 s147 v148 Rx3 rfl
  clear I145 K146 s147 v148 p149
  refine yr_nu o141 hZ150 (fun u151 o152 hZ153 => ?_)
  exact yr_vret hC hr o152 hZ153 h120 dX1_counting_321
set_option maxHeartbeats 4000000 in
set_option maxRecDepth 100000 in
theorem cj_Coder_counting_68 {X : gX} {d : gD} {b : Nat} {Y : gYt} {c : Nat × Nat} {F0 : gM} {S0 : gSt} {mc ms : Nat} {rec : Nat → Int → Int → Int → cS → (Int → cS → Prop) → Prop} {lv0 : Nat} (hC : gC RX1 cX1_counting 9 none "counting" (gR (630 + lv0 + 1) mc ms) d b X) (hr : hRm X b) (ih : yOkC X.la d b Y c lv0 rec) {Q : cS → Prop}   {u : hU} {S : gSt} {A0 : cS} {x1 : Int} {x2 : Int} {x3 : Int} {x4 : Int} {x5 : Int} {x6 : Int} {y0 : Int} (Rx1 : zR x1) (Rx2 : zR x2) (Rx3 : zR x3) (Rx4 : zR x4) (Rx5 : zR x5) (Rx6 : zR x6) (Ry0 : zR y0) (ho : yOk X b u) (hZ : yZ d b Y c F0 S0 u S A0) (hw : wc_Coder_counting_68 rec Q  A0 x1 x2 x3 x4 x5 x6 y0) : yG X d b (yQv X d b Y c F0 S0 mc ms Q) u 68 [some (.ref (gO' Y 5)), some (.int (zI x1)), some (.int (zI x2)), some (.int (zI x3)), some (.int (zI x4)), some (.int (zI x5)), some (.int (zI x6)), none, none] [.int (zI y0)] := by
  unfold wc_Coder_counting_68 at hw
  refine h_istore (lv' := [some (.ref (gO' Y 5)), some (.int (zI x1)), some (.int (zI x2)), some (.int (zI x3)), some (.int (zI x4)), some (.int (zI x5)), some (.int (zI x6)), some (.int (zI y0)), none]) hC dX1_counting_68 (Nat.le_of_ble_eq_true rfl) rfl rfl ?_
  refine h_aload_n hC dX1_counting_70 rfl ?_
  refine h_iload hC dX1_counting_71 rfl ?_
  refine h_iconst (v := zI 0) hC dX1_counting_73 rfl ?_
  refine h_iconst (v := zI 0) hC dX1_counting_74 rfl ?_
  refine yr_callVv (As := [.int (zI x5), .int (zI 0), .int (zI 0)]) hC hr ho hZ rfl (hZ.w.o 5 (by decide)) (ih.2.2.2.2.2.2.2.2.2.2.2.2.1 Rx5 (by decide) (by decide) hZ.rs hw) cl_X1_188 rfl rfl (Nat.le_of_ble_eq_true rfl) (hFr_of (by omega) (Nat.le_of_ble_eq_true rfl)) dX1_counting_75 (fun A2 u3 S4 o6 hZ7 h8 => ?_)
  refine h_aload_n hC dX1_counting_78 rfl ?_
  refine h_iload hC dX1_counting_79 rfl ?_
  refine h_iconst (v := zI 0) hC dX1_counting_81 rfl ?_
  refine h_iconst (v := zI 0) hC dX1_counting_82 rfl ?_
  refine yr_callVv (As := [.int (zI x6), .int (zI 0), .int (zI 0)]) hC hr o6 hZ7 rfl (hZ7.w.o 5 (by decide)) (ih.2.2.2.2.2.2.2.2.2.2.2.2.1 Rx6 (by decide) (by decide) hZ7.rs h8) cl_X1_188 rfl rfl (Nat.le_of_ble_eq_true rfl) (hFr_of (by omega) (Nat.le_of_ble_eq_true rfl)) dX1_counting_83 (fun A10 u11 S12 o14 hZ15 h16 => ?_)
  refine h_aload_n hC dX1_counting_86 rfl ?_
  refine h_bipush (v := zI 10) hC dX1_counting_87 rfl ?_
  refine h_iload hC dX1_counting_89 rfl ?_
  refine h_iconst (v := zI 1) hC dX1_counting_91 rfl ?_
  refine yr_iadd hC dX1_counting_92 ?_
  obtain ⟨o17, h18⟩ := h16
  refine yr_callVi (As := [.int (zI 10), .int (zI (x4 + 1))]) hC hr o14 hZ15 rfl (hZ15.w.o 5 (by decide)) (cm_Coder_emit X.la d b (by decide) o17 hZ15.rs h18) cl_X1_181 rfl rfl (Nat.le_of_ble_eq_true rfl) (hFr_of (by omega) (Nat.le_of_ble_eq_true rfl)) dX1_counting_93 (fun r19 A20 u21 S22 R23 o24 hZ25 h26 => ?_)
  refine h_pop hC dX1_counting_96 rfl ?_
  refine h_aload_n hC dX1_counting_97 rfl ?_
  refine h_bipush (v := zI 10) hC dX1_counting_98 rfl ?_
  refine h_iload hC dX1_counting_100 rfl ?_
  refine yr_callVi (As := [.int (zI 10), .int (zI x4)]) hC hr o24 hZ25 rfl (hZ25.w.o 5 (by decide)) (cm_Coder_emit X.la d b (by decide) Rx4 hZ25.rs h26) cl_X1_181 rfl rfl (Nat.le_of_ble_eq_true rfl) (hFr_of (by omega) (Nat.le_of_ble_eq_true rfl)) dX1_counting_102 (fun r27 A28 u29 S30 R31 o32 hZ33 h34 => ?_)
  refine h_pop hC dX1_counting_105 rfl ?_
  refine h_aload_n hC dX1_counting_106 rfl ?_
  refine h_iconst (v := zI 2) hC dX1_counting_107 rfl ?_
  refine yr_callVv (As := [.int (zI 2)]) hC hr o32 hZ33 rfl (hZ33.w.o 5 (by decide)) (cm_Coder_take X.la d b (by decide) hZ33.rs h34) cl_X1_211 rfl rfl (Nat.le_of_ble_eq_true rfl) (hFr_of (by omega) (Nat.le_of_ble_eq_true rfl)) dX1_counting_108 (fun A36 u37 S38 o40 hZ41 h42 => ?_)
  refine h_aload_n hC dX1_counting_111 rfl ?_
  refine h_get hC fl_X1_78 (hZ41.w.o 5 (by decide)) rfl dX1_counting_112 ?_
  refine yr_callVv (As := []) hC hr o40 hZ41 rfl (hZ41.w.o 8 (by decide)) (cm_Scope_open X.la d b  hZ41.rs h42) cl_X1_182 rfl rfl (Nat.le_of_ble_eq_true rfl) (hFr_of (by omega) (Nat.le_of_ble_eq_true rfl)) dX1_counting_115 (fun A44 u45 S46 o48 hZ49 h50 => ?_)
  refine h_aload_n hC dX1_counting_118 rfl ?_
  refine h_get hC fl_X1_78 (hZ49.w.o 5 (by decide)) rfl dX1_counting_119 ?_
  refine h_aload_n hC dX1_counting_122 rfl ?_
  refine h_get hC fl_X1_65 (hZ49.w.o 5 (by decide)) rfl dX1_counting_123 ?_
  refine h_iload_n hC dX1_counting_126 rfl ?_
  refine yr_callVi (As := [.int (zI x1)]) hC hr o48 hZ49 rfl (hZ49.w.o 2 (by decide)) (cm_Tree_data X.la d b Rx1 hZ49.rs h50) cl_X1_129 rfl rfl (Nat.le_of_ble_eq_true rfl) (hFr_of (by omega) (Nat.le_of_ble_eq_true rfl)) dX1_counting_127 (fun r51 A52 u53 S54 R55 o56 hZ57 h58 => ?_)
  refine h_iconst (v := zI 2) hC dX1_counting_130 rfl ?_
  refine h_iload hC dX1_counting_131 rfl ?_
  refine h_aload_n hC dX1_counting_133 rfl ?_
  refine h_get hC fl_X1_52 (hZ57.w.o 5 (by decide)) rfl dX1_counting_134 ?_
  refine yr_sv (e := (yv A52 21)) hZ57 21 rfl ?_
  refine h_aload_n hC dX1_counting_137 rfl ?_
  refine h_get hC fl_X1_65 (hZ57.w.o 5 (by decide)) rfl dX1_counting_138 ?_
  refine h_iload_n hC dX1_counting_141 rfl ?_
  refine yr_callVi (As := [.int (zI x1)]) hC hr o56 hZ57 rfl (hZ57.w.o 2 (by decide)) (cm_Tree_place X.la d b Rx1 hZ57.rs h58) cl_X1_135 rfl rfl (Nat.le_of_ble_eq_true rfl) (hFr_of (by omega) (Nat.le_of_ble_eq_true rfl)) dX1_counting_142 (fun r59 A60 u61 S62 R63 o64 hZ65 h66 => ?_)
  refine yr_callVi (As := [.int (zI r51), .int (zI 2), .int (zI x4), .int (zI (yv A52 21)), .int (zI r59)]) hC hr o64 hZ65 rfl (hZ65.w.o 8 (by decide)) (cm_Scope_declare X.la d b R55 (by decide) Rx4 (hZ57.rv 21) R63 hZ65.rs h66) cl_X1_138 rfl rfl (Nat.le_of_ble_eq_true rfl) (hFr_of (by omega) (Nat.le_of_ble_eq_true rfl)) dX1_counting_145 (fun r67 A68 u69 S70 R71 o72 hZ73 h74 => ?_)
  refine h_pop hC dX1_counting_148 rfl ?_
  refine h_aload_n hC dX1_counting_149 rfl ?_
  refine h_get hC fl_X1_69 (hZ73.w.o 5 (by decide)) rfl dX1_counting_150 ?_
  refine yr_callVi (As := []) hC hr o72 hZ73 rfl (hZ73.w.o 1 (by decide)) (cm_Program_here X.la d b  hZ73.rs h74) cl_X1_220 rfl rfl (Nat.le_of_ble_eq_true rfl) (hFr_of (by omega) (Nat.le_of_ble_eq_true rfl)) dX1_counting_153 (fun r75 A76 u77 S78 R79 o80 hZ81 h82 => ?_)
  refine h_istore (lv' := [some (.ref (gO' Y 5)), some (.int (zI x1)), some (.int (zI x2)), some (.int (zI x3)), some (.int (zI x4)), some (.int (zI x5)), some (.int (zI x6)), some (.int (zI y0)), some (.int (zI r75))]) hC dX1_counting_156 (Nat.le_of_ble_eq_true rfl) rfl rfl ?_
  refine h_aload_n hC dX1_counting_158 rfl ?_
  refine h_bipush (v := zI 18) hC dX1_counting_159 rfl ?_
  refine h_iconst (v := zI 1) hC dX1_counting_161 rfl ?_
  refine yr_callVi (As := [.int (zI 18), .int (zI 1)]) hC hr o80 hZ81 rfl (hZ81.w.o 5 (by decide)) (cm_Coder_emit X.la d b (by decide) (by decide) hZ81.rs h82) cl_X1_181 rfl rfl (Nat.le_of_ble_eq_true rfl) (hFr_of (by omega) (Nat.le_of_ble_eq_true rfl)) dX1_counting_162 (fun r83 A84 u85 S86 R87 o88 hZ89 h90 => ?_)
  refine h_pop hC dX1_counting_165 rfl ?_
  refine h_aload_n hC dX1_counting_166 rfl ?_
  refine h_iconst (v := zI 2) hC dX1_counting_167 rfl ?_
  refine h_iload hC dX1_counting_168 rfl ?_
  refine yr_callVi (As := [.int (zI 2), .int (zI x4)]) hC hr o88 hZ89 rfl (hZ89.w.o 5 (by decide)) (cm_Coder_emit X.la d b (by decide) Rx4 hZ89.rs h90) cl_X1_181 rfl rfl (Nat.le_of_ble_eq_true rfl) (hFr_of (by omega) (Nat.le_of_ble_eq_true rfl)) dX1_counting_170 (fun r91 A92 u93 S94 R95 o96 hZ97 h98 => ?_)
  refine h_pop hC dX1_counting_173 rfl ?_
  refine h_aload_n hC dX1_counting_174 rfl ?_
  refine h_iconst (v := zI 2) hC dX1_counting_175 rfl ?_
  refine h_iload hC dX1_counting_176 rfl ?_
  refine h_iconst (v := zI 1) hC dX1_counting_178 rfl ?_
  refine yr_iadd hC dX1_counting_179 ?_
  refine yr_callVi (As := [.int (zI 2), .int (zI (x4 + 1))]) hC hr o96 hZ97 rfl (hZ97.w.o 5 (by decide)) (cm_Coder_emit X.la d b (by decide) o17 hZ97.rs h98) cl_X1_181 rfl rfl (Nat.le_of_ble_eq_true rfl) (hFr_of (by omega) (Nat.le_of_ble_eq_true rfl)) dX1_counting_180 (fun r99 A100 u101 S102 R103 o104 hZ105 h106 => ?_)
  refine h_pop hC dX1_counting_183 rfl ?_
  refine h_aload_n hC dX1_counting_184 rfl ?_
  refine h_bipush (v := zI 100) hC dX1_counting_185 rfl ?_
  refine h_iload hC dX1_counting_187 rfl ?_
  refine yr_if_ge (tgt := 197) hC Ry0 dX1_counting_189 (by decide) (fun c107 => ?_) (fun c107 => ?_)
  · have h108 := h106.1 c107
    refine h_bipush (v := zI 24) hC dX1_counting_197 rfl ?_
    refine h_lv (lv' := [some (.ref (gO' Y 5)), none, some (.int (zI x2)), some (.int (zI x3)), some (.int (zI x4)), none, some (.int (zI x6)), some (.int (zI y0)), some (.int (zI r75))]) ⟨rfl, rfl, rfl, rfl, rfl, rfl, rfl, trivial⟩ ?_
    exact cj_Coder_counting_199 hC hr ih  Rx2 Rx3 Rx4 Rx6 Ry0 R79 (by decide) (by decide) o104 hZ105 h108
  · have h109 := h106.2 c107
    refine h_bipush (v := zI 22) hC dX1_counting_192 rfl ?_
    refine h_goto (tgt := 199) hC dX1_counting_194 (by decide) ?_
    refine h_lv (lv' := [some (.ref (gO' Y 5)), none, some (.int (zI x2)), some (.int (zI x3)), some (.int (zI x4)), none, some (.int (zI x6)), some (.int (zI y0)), some (.int (zI r75))]) ⟨rfl, rfl, rfl, rfl, rfl, rfl, rfl, trivial⟩ ?_
    exact cj_Coder_counting_199 hC hr ih  Rx2 Rx3 Rx4 Rx6 Ry0 R79 (by decide) (by decide) o104 hZ105 h109
set_option maxHeartbeats 4000000 in
set_option maxRecDepth 100000 in
theorem cm_Coder_counting (l : Launch) (d : gD) (b : Nat) {Y : gYt} {c : Nat × Nat} {F : gM} {k n : Nat} {S : gSt} {A0 : cS} {rec : Nat → Int → Int → Int → cS → (Int → cS → Prop) → Prop} {lv0 : Nat} (ih : yOkC l d b Y c lv0 rec) {a0 : Int} (Ra0 : zR a0) {Q : cS → Prop} (hZ : yZ d b Y c F S (F, k, n) S A0) (hw : wc_Coder_counting rec A0 a0 Q) : hMv l d b yX1_counting cX1_counting 9 (630 + lv0 + 1) k n F [.ref (gO' Y 5), .int (zI a0)] (yPv d b Y c F S Q) := by
  intro mc ms
  refine hM_of2 rfl (nL := 9) (Nat.le_of_ble_eq_true rfl) ?_
  intro X hX hC hr ho; subst hX
  show yG X d b (yQv X d b Y c F S mc ms Q) (F, k, n) 0 [some (.ref (gO' Y 5)), some (.int (zI a0)), none, none, none, none, none, none, none] []
  unfold wc_Coder_counting at hw
  refine h_aload_n hC dX1_counting_0 rfl ?_
  refine h_get hC fl_X1_27 (hZ.w.o 5 (by decide)) rfl dX1_counting_1 ?_
  refine yr_sv (e := (yv A0 13)) hZ 13 rfl ?_
  refine h_istore_n (lv' := [some (.ref (gO' Y 5)), some (.int (zI a0)), some (.int (zI (yv A0 13))), none, none, none, none, none, none]) hC dX1_counting_4 (Nat.le_of_ble_eq_true rfl) rfl rfl ?_
  refine h_aload_n hC dX1_counting_5 rfl ?_
  refine h_get hC fl_X1_31 (hZ.w.o 5 (by decide)) rfl dX1_counting_6 ?_
  refine yr_sv (e := (yv A0 14)) hZ 14 rfl ?_
  refine h_istore_n (lv' := [some (.ref (gO' Y 5)), some (.int (zI a0)), some (.int (zI (yv A0 13))), some (.int (zI (yv A0 14))), none, none, none, none, none]) hC dX1_counting_9 (Nat.le_of_ble_eq_true rfl) rfl rfl ?_
  refine h_aload_n hC dX1_counting_10 rfl ?_
  refine h_get hC fl_X1_46 (hZ.w.o 5 (by decide)) rfl dX1_counting_11 ?_
  refine yr_sv (e := (yv A0 19)) hZ 19 rfl ?_
  refine h_istore (lv' := [some (.ref (gO' Y 5)), some (.int (zI a0)), some (.int (zI (yv A0 13))), some (.int (zI (yv A0 14))), some (.int (zI (yv A0 19))), none, none, none, none]) hC dX1_counting_14 (Nat.le_of_ble_eq_true rfl) rfl rfl ?_
  refine h_aload_n hC dX1_counting_16 rfl ?_
  refine h_get hC fl_X1_65 (hZ.w.o 5 (by decide)) rfl dX1_counting_17 ?_
  refine h_iload_n hC dX1_counting_20 rfl ?_
  refine yr_callVi (As := [.int (zI a0)]) hC hr ho hZ rfl (hZ.w.o 2 (by decide)) (cm_Tree_first X.la d b Ra0 hZ.rs hw) cl_X1_126 rfl rfl (Nat.le_of_ble_eq_true rfl) (hFr_of (by omega) (Nat.le_of_ble_eq_true rfl)) dX1_counting_21 (fun r1 A2 u3 S4 R5 o6 hZ7 h8 => ?_)
  refine h_istore (lv' := [some (.ref (gO' Y 5)), some (.int (zI a0)), some (.int (zI (yv A0 13))), some (.int (zI (yv A0 14))), some (.int (zI (yv A0 19))), some (.int (zI r1)), none, none, none]) hC dX1_counting_24 (Nat.le_of_ble_eq_true rfl) rfl rfl ?_
  refine h_aload_n hC dX1_counting_26 rfl ?_
  refine h_get hC fl_X1_65 (hZ7.w.o 5 (by decide)) rfl dX1_counting_27 ?_
  refine h_iload hC dX1_counting_30 rfl ?_
  refine yr_callVi (As := [.int (zI r1)]) hC hr o6 hZ7 rfl (hZ7.w.o 2 (by decide)) (cm_Tree_next X.la d b R5 hZ7.rs h8) cl_X1_142 rfl rfl (Nat.le_of_ble_eq_true rfl) (hFr_of (by omega) (Nat.le_of_ble_eq_true rfl)) dX1_counting_32 (fun r9 A10 u11 S12 R13 o14 hZ15 h16 => ?_)
  refine h_istore (lv' := [some (.ref (gO' Y 5)), some (.int (zI a0)), some (.int (zI (yv A0 13))), some (.int (zI (yv A0 14))), some (.int (zI (yv A0 19))), some (.int (zI r1)), some (.int (zI r9)), none, none]) hC dX1_counting_35 (Nat.le_of_ble_eq_true rfl) rfl rfl ?_
  refine h_aload_n hC dX1_counting_37 rfl ?_
  refine h_get hC fl_X1_65 (hZ15.w.o 5 (by decide)) rfl dX1_counting_38 ?_
  refine h_iload_n hC dX1_counting_41 rfl ?_
  refine yr_callVi (As := [.int (zI a0)]) hC hr o14 hZ15 rfl (hZ15.w.o 2 (by decide)) (cm_Tree_extra X.la d b Ra0 hZ15.rs h16) cl_X1_132 rfl rfl (Nat.le_of_ble_eq_true rfl) (hFr_of (by omega) (Nat.le_of_ble_eq_true rfl)) dX1_counting_42 (fun r17 A18 u19 S20 R21 o22 hZ23 h24 => ?_)
  refine yr_if_ne (tgt := 52) hC R21 dX1_counting_45 (by decide) (fun c25 => ?_) (fun c25 => ?_)
  · have h26 := h24.1 c25
    refine h_aload_n hC dX1_counting_52 rfl ?_
    refine h_get hC fl_X1_87 (hZ23.w.o 5 (by decide)) rfl dX1_counting_53 ?_
    refine h_aload_n hC dX1_counting_56 rfl ?_
    refine h_get hC fl_X1_65 (hZ23.w.o 5 (by decide)) rfl dX1_counting_57 ?_
    refine h_iload_n hC dX1_counting_60 rfl ?_
    refine yr_callVi (As := [.int (zI a0)]) hC hr o22 hZ23 rfl (hZ23.w.o 2 (by decide)) (cm_Tree_extra X.la d b Ra0 hZ23.rs h26) cl_X1_132 rfl rfl (Nat.le_of_ble_eq_true rfl) (hFr_of (by omega) (Nat.le_of_ble_eq_true rfl)) dX1_counting_61 (fun r27 A28 u29 S30 R31 o32 hZ33 h34 => ?_)
    refine h_iconst (v := zI (-1)) hC dX1_counting_64 rfl ?_
    refine yr_callVi (As := [.int (zI r27), .int (zI (-1))]) hC hr o32 hZ33 rfl (hZ33.w.o 9 (by decide)) (cm_Constants_number X.la d b R31 (by decide) hZ33.rs h34) cl_X1_145 rfl rfl (Nat.le_of_ble_eq_true rfl) (hFr_of (by omega) (Nat.le_of_ble_eq_true rfl)) dX1_counting_65 (fun r35 A36 u37 S38 R39 o40 hZ41 h42 => ?_)
    exact cj_Coder_counting_68 hC hr ih  Ra0 (hZ.rv 13) (hZ.rv 14) (hZ.rv 19) R5 R13 R39 o40 hZ41 h42
  · have h43 := h24.2 c25
    refine h_iconst (v := zI 1) hC dX1_counting_48 rfl ?_
    refine h_goto (tgt := 68) hC dX1_counting_49 (by decide) ?_
    exact cj_Coder_counting_68 hC hr ih  Ra0 (hZ.rv 13) (hZ.rv 14) (hZ.rv 19) R5 R13 (by decide) o22 hZ23 h43
theorem dX1_switching_0 : decode cX1_switching 0 = .ok (.aload_n 0, 1) := by decide +kernel
theorem dX1_switching_1 : decode cX1_switching 1 = .ok (.getfield 34, 3) := by decide +kernel
theorem dX1_switching_4 : decode cX1_switching 4 = .ok (.istore_n 2, 1) := by decide +kernel
theorem dX1_switching_5 : decode cX1_switching 5 = .ok (.aload_n 0, 1) := by decide +kernel
theorem dX1_switching_6 : decode cX1_switching 6 = .ok (.getfield 40, 3) := by decide +kernel
theorem dX1_switching_9 : decode cX1_switching 9 = .ok (.istore_n 3, 1) := by decide +kernel
theorem dX1_switching_10 : decode cX1_switching 10 = .ok (.aload_n 0, 1) := by decide +kernel
theorem dX1_switching_11 : decode cX1_switching 11 = .ok (.getfield 43, 3) := by decide +kernel
theorem dX1_switching_14 : decode cX1_switching 14 = .ok (.istore 4, 2) := by decide +kernel
theorem dX1_switching_16 : decode cX1_switching 16 = .ok (.aload_n 0, 1) := by decide +kernel
theorem dX1_switching_17 : decode cX1_switching 17 = .ok (.getfield 65, 3) := by decide +kernel
theorem dX1_switching_20 : decode cX1_switching 20 = .ok (.iload_n 1, 1) := by decide +kernel
theorem dX1_switching_21 : decode cX1_switching 21 = .ok (.invokevirtual 126, 3) := by decide +kernel
theorem dX1_switching_24 : decode cX1_switching 24 = .ok (.istore 5, 2) := by decide +kernel
theorem dX1_switching_26 : decode cX1_switching 26 = .ok (.aload_n 0, 1) := by decide +kernel
theorem dX1_switching_27 : decode cX1_switching 27 = .ok (.iload 5, 2) := by decide +kernel
theorem dX1_switching_29 : decode cX1_switching 29 = .ok (.iconst 0, 1) := by decide +kernel
theorem dX1_switching_30 : decode cX1_switching 30 = .ok (.iconst 0, 1) := by decide +kernel
theorem dX1_switching_31 : decode cX1_switching 31 = .ok (.invokevirtual 188, 3) := by decide +kernel
theorem dX1_switching_34 : decode cX1_switching 34 = .ok (.aload_n 0, 1) := by decide +kernel
theorem dX1_switching_35 : decode cX1_switching 35 = .ok (.bipush 14, 2) := by decide +kernel
theorem dX1_switching_37 : decode cX1_switching 37 = .ok (.iconst 0, 1) := by decide +kernel
theorem dX1_switching_38 : decode cX1_switching 38 = .ok (.invokevirtual 181, 3) := by decide +kernel
theorem dX1_switching_41 : decode cX1_switching 41 = .ok (.istore 6, 2) := by decide +kernel
theorem dX1_switching_43 : decode cX1_switching 43 = .ok (.aload_n 0, 1) := by decide +kernel
theorem dX1_switching_44 : decode cX1_switching 44 = .ok (.iconst 0, 1) := by decide +kernel
theorem dX1_switching_45 : decode cX1_switching 45 = .ok (.putfield 34, 3) := by decide +kernel
theorem dX1_switching_48 : decode cX1_switching 48 = .ok (.aload_n 0, 1) := by decide +kernel
theorem dX1_switching_49 : decode cX1_switching 49 = .ok (.aload_n 0, 1) := by decide +kernel
theorem dX1_switching_50 : decode cX1_switching 50 = .ok (.getfield 24, 3) := by decide +kernel
theorem dX1_switching_53 : decode cX1_switching 53 = .ok (.invokevirtual 103, 3) := by decide +kernel
theorem dX1_switching_56 : decode cX1_switching 56 = .ok (.putfield 40, 3) := by decide +kernel
theorem dX1_switching_59 : decode cX1_switching 59 = .ok (.aload_n 0, 1) := by decide +kernel
theorem dX1_switching_60 : decode cX1_switching 60 = .ok (.iconst (-1), 1) := by decide +kernel
theorem dX1_switching_61 : decode cX1_switching 61 = .ok (.putfield 43, 3) := by decide +kernel
theorem dX1_switching_64 : decode cX1_switching 64 = .ok (.aload_n 0, 1) := by decide +kernel
theorem dX1_switching_65 : decode cX1_switching 65 = .ok (.aload_n 0, 1) := by decide +kernel
theorem dX1_switching_66 : decode cX1_switching 66 = .ok (.getfield 65, 3) := by decide +kernel
theorem dX1_switching_69 : decode cX1_switching 69 = .ok (.iload 5, 2) := by decide +kernel
theorem dX1_switching_71 : decode cX1_switching 71 = .ok (.invokevirtual 142, 3) := by decide +kernel
theorem dX1_switching_74 : decode cX1_switching 74 = .ok (.invokevirtual 100, 3) := by decide +kernel
theorem dX1_switching_77 : decode cX1_switching 77 = .ok (.aload_n 0, 1) := by decide +kernel
theorem dX1_switching_78 : decode cX1_switching 78 = .ok (.aload_n 0, 1) := by decide +kernel
theorem dX1_switching_79 : decode cX1_switching 79 = .ok (.bipush 14, 2) := by decide +kernel
theorem dX1_switching_81 : decode cX1_switching 81 = .ok (.aload_n 0, 1) := by decide +kernel
theorem dX1_switching_82 : decode cX1_switching 82 = .ok (.getfield 34, 3) := by decide +kernel
theorem dX1_switching_85 : decode cX1_switching 85 = .ok (.invokevirtual 181, 3) := by decide +kernel
theorem dX1_switching_88 : decode cX1_switching 88 = .ok (.putfield 34, 3) := by decide +kernel
theorem dX1_switching_91 : decode cX1_switching 91 = .ok (.aload_n 0, 1) := by decide +kernel
theorem dX1_switching_92 : decode cX1_switching 92 = .ok (.getfield 69, 3) := by decide +kernel
theorem dX1_switching_95 : decode cX1_switching 95 = .ok (.iload 6, 2) := by decide +kernel
theorem dX1_switching_97 : decode cX1_switching 97 = .ok (.invokevirtual 201, 3) := by decide +kernel
theorem dX1_switching_100 : decode cX1_switching 100 = .ok (.aload_n 0, 1) := by decide +kernel
theorem dX1_switching_101 : decode cX1_switching 101 = .ok (.getfield 40, 3) := by decide +kernel
theorem dX1_switching_104 : decode cX1_switching 104 = .ok (.istore 7, 2) := by decide +kernel
theorem dX1_switching_106 : decode cX1_switching 106 = .ok (.iload 7, 2) := by decide +kernel
theorem dX1_switching_108 : decode cX1_switching 108 = .ok (.aload_n 0, 1) := by decide +kernel
theorem dX1_switching_109 : decode cX1_switching 109 = .ok (.getfield 24, 3) := by decide +kernel
theorem dX1_switching_112 : decode cX1_switching 112 = .ok (.invokevirtual 103, 3) := by decide +kernel
theorem dX1_switching_115 : decode cX1_switching 115 = .ok (.if_icmp .ge 43, 3) := by decide +kernel
theorem dX1_switching_118 : decode cX1_switching 118 = .ok (.aload_n 0, 1) := by decide +kernel
theorem dX1_switching_119 : decode cX1_switching 119 = .ok (.bipush 17, 2) := by decide +kernel
theorem dX1_switching_121 : decode cX1_switching 121 = .ok (.aload_n 0, 1) := by decide +kernel
theorem dX1_switching_122 : decode cX1_switching 122 = .ok (.getfield 24, 3) := by decide +kernel
theorem dX1_switching_125 : decode cX1_switching 125 = .ok (.iload 7, 2) := by decide +kernel
theorem dX1_switching_127 : decode cX1_switching 127 = .ok (.invokevirtual 107, 3) := by decide +kernel
theorem dX1_switching_130 : decode cX1_switching 130 = .ok (.invokevirtual 181, 3) := by decide +kernel
theorem dX1_switching_133 : decode cX1_switching 133 = .ok (.pop, 1) := by decide +kernel
theorem dX1_switching_134 : decode cX1_switching 134 = .ok (.aload_n 0, 1) := by decide +kernel
theorem dX1_switching_135 : decode cX1_switching 135 = .ok (.bipush 14, 2) := by decide +kernel
theorem dX1_switching_137 : decode cX1_switching 137 = .ok (.aload_n 0, 1) := by decide +kernel
theorem dX1_switching_138 : decode cX1_switching 138 = .ok (.getfield 24, 3) := by decide +kernel
theorem dX1_switching_141 : decode cX1_switching 141 = .ok (.iload 7, 2) := by decide +kernel
theorem dX1_switching_143 : decode cX1_switching 143 = .ok (.iconst 1, 1) := by decide +kernel
theorem dX1_switching_144 : decode cX1_switching 144 = .ok (.iadd, 1) := by decide +kernel
theorem dX1_switching_145 : decode cX1_switching 145 = .ok (.invokevirtual 107, 3) := by decide +kernel
theorem dX1_switching_148 : decode cX1_switching 148 = .ok (.invokevirtual 181, 3) := by decide +kernel
theorem dX1_switching_151 : decode cX1_switching 151 = .ok (.pop, 1) := by decide +kernel
theorem dX1_switching_152 : decode cX1_switching 152 = .ok (.iinc 7 2, 3) := by decide +kernel
theorem dX1_switching_155 : decode cX1_switching 155 = .ok (.goto (-49), 3) := by decide +kernel
theorem dX1_switching_158 : decode cX1_switching 158 = .ok (.aload_n 0, 1) := by decide +kernel
theorem dX1_switching_159 : decode cX1_switching 159 = .ok (.bipush 13, 2) := by decide +kernel
theorem dX1_switching_161 : decode cX1_switching 161 = .ok (.iconst 0, 1) := by decide +kernel
theorem dX1_switching_162 : decode cX1_switching 162 = .ok (.invokevirtual 181, 3) := by decide +kernel
theorem dX1_switching_165 : decode cX1_switching 165 = .ok (.pop, 1) := by decide +kernel
theorem dX1_switching_166 : decode cX1_switching 166 = .ok (.aload_n 0, 1) := by decide +kernel
theorem dX1_switching_167 : decode cX1_switching 167 = .ok (.getfield 43, 3) := by decide +kernel
theorem dX1_switching_170 : decode cX1_switching 170 = .ok (.iconst (-1), 1) := by decide +kernel
theorem dX1_switching_171 : decode cX1_switching 171 = .ok (.if_icmp .eq 14, 3) := by decide +kernel
theorem dX1_switching_174 : decode cX1_switching 174 = .ok (.aload_n 0, 1) := by decide +kernel
theorem dX1_switching_175 : decode cX1_switching 175 = .ok (.bipush 14, 2) := by decide +kernel
theorem dX1_switching_177 : decode cX1_switching 177 = .ok (.aload_n 0, 1) := by decide +kernel
theorem dX1_switching_178 : decode cX1_switching 178 = .ok (.getfield 43, 3) := by decide +kernel
theorem dX1_switching_181 : decode cX1_switching 181 = .ok (.invokevirtual 181, 3) := by decide +kernel
theorem dX1_switching_184 : decode cX1_switching 184 = .ok (.pop, 1) := by decide +kernel
theorem dX1_switching_185 : decode cX1_switching 185 = .ok (.aload_n 0, 1) := by decide +kernel
theorem dX1_switching_186 : decode cX1_switching 186 = .ok (.getfield 69, 3) := by decide +kernel
theorem dX1_switching_189 : decode cX1_switching 189 = .ok (.aload_n 0, 1) := by decide +kernel
theorem dX1_switching_190 : decode cX1_switching 190 = .ok (.getfield 34, 3) := by decide +kernel
theorem dX1_switching_193 : decode cX1_switching 193 = .ok (.invokevirtual 201, 3) := by decide +kernel
theorem dX1_switching_196 : decode cX1_switching 196 = .ok (.aload_n 0, 1) := by decide +kernel
theorem dX1_switching_197 : decode cX1_switching 197 = .ok (.getfield 24, 3) := by decide +kernel
theorem dX1_switching_200 : decode cX1_switching 200 = .ok (.aload_n 0, 1) := by decide +kernel
theorem dX1_switching_201 : decode cX1_switching 201 = .ok (.getfield 40, 3) := by decide +kernel
theorem dX1_switching_204 : decode cX1_switching 204 = .ok (.invokevirtual 94, 3) := by decide +kernel
theorem dX1_switching_207 : decode cX1_switching 207 = .ok (.aload_n 0, 1) := by decide +kernel
theorem dX1_switching_208 : decode cX1_switching 208 = .ok (.iload_n 2, 1) := by decide +kernel
theorem dX1_switching_209 : decode cX1_switching 209 = .ok (.putfield 34, 3) := by decide +kernel
theorem dX1_switching_212 : decode cX1_switching 212 = .ok (.aload_n 0, 1) := by decide +kernel
theorem dX1_switching_213 : decode cX1_switching 213 = .ok (.iload_n 3, 1) := by decide +kernel
theorem dX1_switching_214 : decode cX1_switching 214 = .ok (.putfield 40, 3) := by decide +kernel
theorem dX1_switching_217 : decode cX1_switching 217 = .ok (.aload_n 0, 1) := by decide +kernel
theorem dX1_switching_218 : decode cX1_switching 218 = .ok (.iload 4, 2) := by decide +kernel
theorem dX1_switching_220 : decode cX1_switching 220 = .ok (.putfield 43, 3) := by decide +kernel
theorem dX1_switching_223 : decode cX1_switching 223 = .ok (.return_, 1) := by decide +kernel
def wc_Coder_switching_106B (rec : Nat → Int → Int → Int → cS → (Int → cS → Prop) → Prop) (Q : cS → Prop) (k106 : cS → Int → Int → Int → Int → Prop) (A0 : cS) (x2 : Int) (x3 : Int) (x4 : Int) (x7 : Int) : Prop :=
  ((((yz A0 26 : Nat) : Int) ≤ x7 → wc_Coder_emit A0 13 0 (fun r3 A4 => (((yv A4 18) = (-1) → wc_Program_land A4 (yv A4 15) (fun A14 => Q (ypv (ypv (ypv (ycut A14 26 (yv A14 17)) 15 x2) 17 x3) 18 x4))) ∧ (¬ (yv A4 18) = (-1) → wc_Coder_emit A4 14 (yv A4 18) (fun r59 A60 => wc_Program_land A60 (yv A60 15) (fun A68 => Q (ypv (ypv (ypv (ycut A68 26 (yv A68 17)) 15 x2) 17 x3) 18 x4))))))) ∧ (¬ ((yz A0 26 : Nat) : Int) ≤ x7 → wc_Coder_emit A0 17 (yget A0 26 x7) (fun r113 A114 => (zR (x7 + 1)) ∧ wc_Coder_emit A114 14 (yget A114 26 (x7 + 1)) (fun r123 A124 => (zR (x7 + 2)) ∧ k106 A124 x2 x3 x4 (x7 + 2)))))
def wc_Coder_switching_106 (rec : Nat → Int → Int → Int → cS → (Int → cS → Prop) → Prop) (Q : cS → Prop)  : Nat → cS → Int → Int → Int → Int → Prop
  | 0 => fun _ _ _ _ _ => False
  | m + 1 => fun A0 x2 x3 x4 x7 => wc_Coder_switching_106B rec Q  (wc_Coder_switching_106 rec Q  m) A0 x2 x3 x4 x7
def wc_Coder_switching (rec : Nat → Int → Int → Int → cS → (Int → cS → Prop) → Prop) (A0 : cS) (a0 : Int) (Q : cS → Prop) : Prop :=
  wc_Tree_first A0 a0 (fun r1 A2 => rec 12 r1 0 0 A2 (fun _ A10 => wc_Coder_emit A10 14 0 (fun r17 A18 => wc_Tree_next (ypv (ypv (ypv A18 15 0) 17 ((yz A18 26 : Nat) : Int)) 18 (-1)) r1 (fun r58 A59 => rec 3 r58 0 0 A59 (fun _ A67 => wc_Coder_emit A67 14 (yv A67 15) (fun r74 A75 => wc_Program_land (ypv A75 15 r74) r17 (fun A94 => ∃ n, wc_Coder_switching_106 rec Q  n A94 (yv A0 15) (yv A0 17) (yv A0 18) (yv A94 17))))))))
set_option maxHeartbeats 4000000 in
set_option maxRecDepth 100000 in
theorem cb_Coder_switching_106 {X : gX} {d : gD} {b : Nat} {Y : gYt} {c : Nat × Nat} {F0 : gM} {S0 : gSt} {mc ms : Nat} {rec : Nat → Int → Int → Int → cS → (Int → cS → Prop) → Prop} {lv0 : Nat} (hC : gC RX1 cX1_switching 8 none "switching" (gR (630 + lv0 + 1) mc ms) d b X) (hr : hRm X b) (ih : yOkC X.la d b Y c lv0 rec) {Q : cS → Prop} {k106 : cS → Int → Int → Int → Int → Prop} (hk106 : ∀ (u : hU) (S : gSt) (A0 : cS) (x2 : Int) (x3 : Int) (x4 : Int) (x7 : Int), zR x2 → zR x3 → zR x4 → zR x7 → yOk X b u → yZ d b Y c F0 S0 u S A0 → k106 A0 x2 x3 x4 x7 → yG X d b (yQv X d b Y c F0 S0 mc ms Q) u 106 [some (.ref (gO' Y 5)), none, some (.int (zI x2)), some (.int (zI x3)), some (.int (zI x4)), none, none, some (.int (zI x7))] []) {u : hU} {S : gSt} {A0 : cS} {x2 : Int} {x3 : Int} {x4 : Int} {x7 : Int} (Rx2 : zR x2) (Rx3 : zR x3) (Rx4 : zR x4) (Rx7 : zR x7) (ho : yOk X b u) (hZ : yZ d b Y c F0 S0 u S A0) (hw : wc_Coder_switching_106B rec Q k106 A0 x2 x3 x4 x7) : yG X d b (yQv X d b Y c F0 S0 mc ms Q) u 106 [some (.ref (gO' Y 5)), none, some (.int (zI x2)), some (.int (zI x3)), some (.int (zI x4)), none, none, some (.int (zI x7))] [] := by
  unfold wc_Coder_switching_106B at hw
  refine h_iload hC dX1_switching_106 rfl ?_
  refine h_aload_n hC dX1_switching_108 rfl ?_
  refine h_get hC fl_X1_24 (hZ.w.o 5 (by decide)) rfl dX1_switching_109 ?_
  refine yr_size (j := 26) (e := ((yz A0 26 : Nat) : Int)) hC hr ho hZ (by decide) rfl cl_X1_103 rfl (Nat.le_of_ble_eq_true rfl) (hFr_of (by omega) (Nat.le_of_ble_eq_true rfl)) dX1_switching_112 ?_
  refine yr_icmp_ge (tgt := 158) hC Rx7 (hZ.rz (j := 26) (by decide)) dX1_switching_115 (by decide) (fun c1 => ?_) (fun c1 => ?_)
  · have h2 := hw.1 c1
    refine h_aload_n hC dX1_switching_158 rfl ?_
    refine h_bipush (v := zI 13) hC dX1_switching_159 rfl ?_
    refine h_iconst (v := zI 0) hC dX1_switching_161 rfl ?_
    refine yr_callVi (As := [.int (zI 13), .int (zI 0)]) hC hr ho hZ rfl (hZ.w.o 5 (by decide)) (cm_Coder_emit X.la d b (by decide) (by decide) hZ.rs h2) cl_X1_181 rfl rfl (Nat.le_of_ble_eq_true rfl) (hFr_of (by omega) (Nat.le_of_ble_eq_true rfl)) dX1_switching_162 (fun r3 A4 u5 S6 R7 o8 hZ9 h10 => ?_)
    refine h_pop hC dX1_switching_165 rfl ?_
    refine h_aload_n hC dX1_switching_166 rfl ?_
    refine h_get hC fl_X1_43 (hZ9.w.o 5 (by decide)) rfl dX1_switching_167 ?_
    refine yr_sv (e := (yv A4 18)) hZ9 18 rfl ?_
    refine h_iconst (v := zI (-1)) hC dX1_switching_170 rfl ?_
    refine yr_icmp_eq (tgt := 185) hC (hZ9.rv 18) (by decide) dX1_switching_171 (by decide) (fun c11 => ?_) (fun c11 => ?_)
    · have h12 := h10.1 c11
      refine h_aload_n hC dX1_switching_185 rfl ?_
      refine h_get hC fl_X1_69 (hZ9.w.o 5 (by decide)) rfl dX1_switching_186 ?_
      refine h_aload_n hC dX1_switching_189 rfl ?_
      refine h_get hC fl_X1_34 (hZ9.w.o 5 (by decide)) rfl dX1_switching_190 ?_
      refine yr_sv (e := (yv A4 15)) hZ9 15 rfl ?_
      refine yr_callVv (As := [.int (zI (yv A4 15))]) hC hr o8 hZ9 rfl (hZ9.w.o 1 (by decide)) (cm_Program_land X.la d b (hZ9.rv 15) hZ9.rs h12) cl_X1_201 rfl rfl (Nat.le_of_ble_eq_true rfl) (hFr_of (by omega) (Nat.le_of_ble_eq_true rfl)) dX1_switching_193 (fun A14 u15 S16 o18 hZ19 h20 => ?_)
      refine h_aload_n hC dX1_switching_196 rfl ?_
      refine h_get hC fl_X1_24 (hZ19.w.o 5 (by decide)) rfl dX1_switching_197 ?_
      refine h_aload_n hC dX1_switching_200 rfl ?_
      refine h_get hC fl_X1_40 (hZ19.w.o 5 (by decide)) rfl dX1_switching_201 ?_
      refine yr_sv (e := (yv A14 17)) hZ19 17 rfl ?_
      refine yr_cut (j := 26) hC hr o18 hZ19 (by decide) (hZ19.rv 17) cl_X1_94 rfl (Nat.le_of_ble_eq_true rfl) (hFr_of (by omega) (Nat.le_of_ble_eq_true rfl)) dX1_switching_204 (fun u21 S22 o23 hZ24 => ?_)
      refine h_aload_n hC dX1_switching_207 rfl ?_
      refine h_iload_n hC dX1_switching_208 rfl ?_
      refine hi_putx (i := 5) (kx := 15) hC hZ24.hi (by decide) fl_X1_34 rfl rfl rfl (Nat.le_of_ble_eq_true rfl) rfl gsame_15 (fun q => absurd q (by decide)) dX1_switching_209 (fun F25 S26 I27 K28 s29 v30 p31 => ?_)
      have hZ32 := hZ24.put I27 K28 s29 v30 Rx2 rfl
      clear I27 K28 s29 v30 p31
      refine yr_nu o23 hZ32 (fun u33 o34 hZ35 => ?_)
      refine h_aload_n hC dX1_switching_212 rfl ?_
      refine h_iload_n hC dX1_switching_213 rfl ?_
      refine hi_putx (i := 5) (kx := 17) hC hZ35.hi (by decide) fl_X1_40 rfl rfl rfl (Nat.le_of_ble_eq_true rfl) rfl gsame_17 (fun q => absurd q (by decide)) dX1_switching_214 (fun F36 S37 I38 K39 s40 v41 p42 => ?_)
      have hZ43 := hZ35.put I38 K39 s40 v41 Rx3 rfl
      clear I38 K39 s40 v41 p42
      refine yr_nu o34 hZ43 (fun u44 o45 hZ46 => ?_)
      refine h_aload_n hC dX1_switching_217 rfl ?_
      refine h_iload hC dX1_switching_218 rfl ?_
      refine hi_putx (i := 5) (kx := 18) hC hZ46.hi (by decide) fl_X1_43 rfl rfl rfl (Nat.le_of_ble_eq_true rfl) rfl gsame_18 (fun q => absurd q (by decide)) dX1_switching_220 (fun F47 S48 I49 K50 s51 v52 p53 => ?_)
      have hZ54 := hZ46.put I49 K50 s51 v52 Rx4 rfl
      clear I49 K50 s51 v52 p53
      refine yr_nu o45 hZ54 (fun u55 o56 hZ57 => ?_)
      exact yr_vret hC hr o56 hZ57 h20 dX1_switching_223
    · have h58 := h10.2 c11
      refine h_aload_n hC dX1_switching_174 rfl ?_
      refine h_bipush (v := zI 14) hC dX1_switching_175 rfl ?_
      refine h_aload_n hC dX1_switching_177 rfl ?_
      refine h_get hC fl_X1_43 (hZ9.w.o 5 (by decide)) rfl dX1_switching_178 ?_
      refine yr_sv (e := (yv A4 18)) hZ9 18 rfl ?_
      refine yr_callVi (As := [.int (zI 14), .int (zI (yv A4 18))]) hC hr o8 hZ9 rfl (hZ9.w.o 5 (by decide)) (cm_Coder_emit X.la d b (by decide) (hZ9.rv 18) hZ9.rs h58) cl_X1_181 rfl rfl (Nat.le_of_ble_eq_true rfl) (hFr_of (by omega) (Nat.le_of_ble_eq_true rfl)) dX1_switching_181 (fun r59 A60 u61 S62 R63 o64 hZ65 h66 => ?_)
      refine h_pop hC dX1_switching_184 rfl ?_
      refine h_aload_n hC dX1_switching_185 rfl ?_
      refine h_get hC fl_X1_69 (hZ65.w.o 5 (by decide)) rfl dX1_switching_186 ?_
      refine h_aload_n hC dX1_switching_189 rfl ?_
      refine h_get hC fl_X1_34 (hZ65.w.o 5 (by decide)) rfl dX1_switching_190 ?_
      refine yr_sv (e := (yv A60 15)) hZ65 15 rfl ?_
      refine yr_callVv (As := [.int (zI (yv A60 15))]) hC hr o64 hZ65 rfl (hZ65.w.o 1 (by decide)) (cm_Program_land X.la d b (hZ65.rv 15) hZ65.rs h66) cl_X1_201 rfl rfl (Nat.le_of_ble_eq_true rfl) (hFr_of (by omega) (Nat.le_of_ble_eq_true rfl)) dX1_switching_193 (fun A68 u69 S70 o72 hZ73 h74 => ?_)
      refine h_aload_n hC dX1_switching_196 rfl ?_
      refine h_get hC fl_X1_24 (hZ73.w.o 5 (by decide)) rfl dX1_switching_197 ?_
      refine h_aload_n hC dX1_switching_200 rfl ?_
      refine h_get hC fl_X1_40 (hZ73.w.o 5 (by decide)) rfl dX1_switching_201 ?_
      refine yr_sv (e := (yv A68 17)) hZ73 17 rfl ?_
      refine yr_cut (j := 26) hC hr o72 hZ73 (by decide) (hZ73.rv 17) cl_X1_94 rfl (Nat.le_of_ble_eq_true rfl) (hFr_of (by omega) (Nat.le_of_ble_eq_true rfl)) dX1_switching_204 (fun u75 S76 o77 hZ78 => ?_)
      refine h_aload_n hC dX1_switching_207 rfl ?_
      refine h_iload_n hC dX1_switching_208 rfl ?_
      refine hi_putx (i := 5) (kx := 15) hC hZ78.hi (by decide) fl_X1_34 rfl rfl rfl (Nat.le_of_ble_eq_true rfl) rfl gsame_15 (fun q => absurd q (by decide)) dX1_switching_209 (fun F79 S80 I81 K82 s83 v84 p85 => ?_)
      have hZ86 := hZ78.put I81 K82 s83 v84 Rx2 rfl
      clear I81 K82 s83 v84 p85
      refine yr_nu o77 hZ86 (fun u87 o88 hZ89 => ?_)
      refine h_aload_n hC dX1_switching_212 rfl ?_
      refine h_iload_n hC dX1_switching_213 rfl ?_
      refine hi_putx (i := 5) (kx := 17) hC hZ89.hi (by decide) fl_X1_40 rfl rfl rfl (Nat.le_of_ble_eq_true rfl) rfl gsame_17 (fun q => absurd q (by decide)) dX1_switching_214 (fun F90 S91 I92 K93 s94 v95 p96 => ?_)
      have hZ97 := hZ89.put I92 K93 s94 v95 Rx3 rfl
      clear I92 K93 s94 v95 p96
      refine yr_nu o88 hZ97 (fun u98 o99 hZ100 => ?_)
      refine h_aload_n hC dX1_switching_217 rfl ?_
      refine h_iload hC dX1_switching_218 rfl ?_
      refine hi_putx (i := 5) (kx := 18) hC hZ100.hi (by decide) fl_X1_43 rfl rfl rfl (Nat.le_of_ble_eq_true rfl) rfl gsame_18 (fun q => absurd q (by decide)) dX1_switching_220 (fun F101 S102 I103 K104 s105 v106 p107 => ?_)
      have hZ108 := hZ100.put I103 K104 s105 v106 Rx4 rfl
      clear I103 K104 s105 v106 p107
      refine yr_nu o99 hZ108 (fun u109 o110 hZ111 => ?_)
      exact yr_vret hC hr o110 hZ111 h74 dX1_switching_223
  · have h112 := hw.2 c1
    refine h_aload_n hC dX1_switching_118 rfl ?_
    refine h_bipush (v := zI 17) hC dX1_switching_119 rfl ?_
    refine h_aload_n hC dX1_switching_121 rfl ?_
    refine h_get hC fl_X1_24 (hZ.w.o 5 (by decide)) rfl dX1_switching_122 ?_
    refine h_iload hC dX1_switching_125 rfl ?_
    refine yr_get (j := 26) (e := (yget A0 26 x7)) hC hr ho hZ (by decide) Rx7 rfl cl_X1_107 rfl (Nat.le_of_ble_eq_true rfl) (hFr_of (by omega) (Nat.le_of_ble_eq_true rfl)) dX1_switching_127 ?_
    refine yr_callVi (As := [.int (zI 17), .int (zI (yget A0 26 x7))]) hC hr ho hZ rfl (hZ.w.o 5 (by decide)) (cm_Coder_emit X.la d b (by decide) (hZ.rg 26 _) hZ.rs h112) cl_X1_181 rfl rfl (Nat.le_of_ble_eq_true rfl) (hFr_of (by omega) (Nat.le_of_ble_eq_true rfl)) dX1_switching_130 (fun r113 A114 u115 S116 R117 o118 hZ119 h120 => ?_)
    refine h_pop hC dX1_switching_133 rfl ?_
    refine h_aload_n hC dX1_switching_134 rfl ?_
    refine h_bipush (v := zI 14) hC dX1_switching_135 rfl ?_
    refine h_aload_n hC dX1_switching_137 rfl ?_
    refine h_get hC fl_X1_24 (hZ119.w.o 5 (by decide)) rfl dX1_switching_138 ?_
    refine h_iload hC dX1_switching_141 rfl ?_
    refine h_iconst (v := zI 1) hC dX1_switching_143 rfl ?_
    refine yr_iadd hC dX1_switching_144 ?_
    obtain ⟨o121, h122⟩ := h120
    refine yr_get (j := 26) (e := (yget A114 26 (x7 + 1))) hC hr o118 hZ119 (by decide) o121 rfl cl_X1_107 rfl (Nat.le_of_ble_eq_true rfl) (hFr_of (by omega) (Nat.le_of_ble_eq_true rfl)) dX1_switching_145 ?_
    refine yr_callVi (As := [.int (zI 14), .int (zI (yget A114 26 (x7 + 1)))]) hC hr o118 hZ119 rfl (hZ119.w.o 5 (by decide)) (cm_Coder_emit X.la d b (by decide) (hZ119.rg 26 _) hZ119.rs h122) cl_X1_181 rfl rfl (Nat.le_of_ble_eq_true rfl) (hFr_of (by omega) (Nat.le_of_ble_eq_true rfl)) dX1_switching_148 (fun r123 A124 u125 S126 R127 o128 hZ129 h130 => ?_)
    refine h_pop hC dX1_switching_151 rfl ?_
    refine yr_iinc (x := x7) (lv' := [some (.ref (gO' Y 5)), none, some (.int (zI x2)), some (.int (zI x3)), some (.int (zI x4)), none, none, some (.int (zI (x7 + 2)))]) hC dX1_switching_152 rfl rfl rfl ?_
    refine h_goto (tgt := 106) hC dX1_switching_155 (by decide) ?_
    obtain ⟨o131, h132⟩ := h130
    exact hk106 _ _ _ _ _ _ _ Rx2 Rx3 Rx4 o131 o128 hZ129 h132
theorem cl_Coder_switching_106 {X : gX} {d : gD} {b : Nat} {Y : gYt} {c : Nat × Nat} {F0 : gM} {S0 : gSt} {mc ms : Nat} {rec : Nat → Int → Int → Int → cS → (Int → cS → Prop) → Prop} {lv0 : Nat} (hC : gC RX1 cX1_switching 8 none "switching" (gR (630 + lv0 + 1) mc ms) d b X) (hr : hRm X b) (ih : yOkC X.la d b Y c lv0 rec) {Q : cS → Prop}   : ∀ (m : Nat) (u : hU) (S : gSt) (A0 : cS) (x2 : Int) (x3 : Int) (x4 : Int) (x7 : Int), zR x2 → zR x3 → zR x4 → zR x7 → yOk X b u → yZ d b Y c F0 S0 u S A0 → wc_Coder_switching_106 rec Q  m A0 x2 x3 x4 x7 → yG X d b (yQv X d b Y c F0 S0 mc ms Q) u 106 [some (.ref (gO' Y 5)), none, some (.int (zI x2)), some (.int (zI x3)), some (.int (zI x4)), none, none, some (.int (zI x7))] [] := by
  intro m
  induction m with
  | zero => intro u S A0 x2 x3 x4 x7 Rx2 Rx3 Rx4 Rx7 ho hZ hw; exact False.elim hw
  | succ m ihm => intro u S A0 x2 x3 x4 x7 Rx2 Rx3 Rx4 Rx7 ho hZ hw; exact cb_Coder_switching_106 hC hr ih  ihm Rx2 Rx3 Rx4 Rx7 ho hZ hw
set_option maxHeartbeats 4000000 in
set_option maxRecDepth 100000 in
theorem cm_Coder_switching (l : Launch) (d : gD) (b : Nat) {Y : gYt} {c : Nat × Nat} {F : gM} {k n : Nat} {S : gSt} {A0 : cS} {rec : Nat → Int → Int → Int → cS → (Int → cS → Prop) → Prop} {lv0 : Nat} (ih : yOkC l d b Y c lv0 rec) {a0 : Int} (Ra0 : zR a0) {Q : cS → Prop} (hZ : yZ d b Y c F S (F, k, n) S A0) (hw : wc_Coder_switching rec A0 a0 Q) : hMv l d b yX1_switching cX1_switching 8 (630 + lv0 + 1) k n F [.ref (gO' Y 5), .int (zI a0)] (yPv d b Y c F S Q) := by
  intro mc ms
  refine hM_of2 rfl (nL := 8) (Nat.le_of_ble_eq_true rfl) ?_
  intro X hX hC hr ho; subst hX
  show yG X d b (yQv X d b Y c F S mc ms Q) (F, k, n) 0 [some (.ref (gO' Y 5)), some (.int (zI a0)), none, none, none, none, none, none] []
  unfold wc_Coder_switching at hw
  refine h_aload_n hC dX1_switching_0 rfl ?_
  refine h_get hC fl_X1_34 (hZ.w.o 5 (by decide)) rfl dX1_switching_1 ?_
  refine yr_sv (e := (yv A0 15)) hZ 15 rfl ?_
  refine h_istore_n (lv' := [some (.ref (gO' Y 5)), some (.int (zI a0)), some (.int (zI (yv A0 15))), none, none, none, none, none]) hC dX1_switching_4 (Nat.le_of_ble_eq_true rfl) rfl rfl ?_
  refine h_aload_n hC dX1_switching_5 rfl ?_
  refine h_get hC fl_X1_40 (hZ.w.o 5 (by decide)) rfl dX1_switching_6 ?_
  refine yr_sv (e := (yv A0 17)) hZ 17 rfl ?_
  refine h_istore_n (lv' := [some (.ref (gO' Y 5)), some (.int (zI a0)), some (.int (zI (yv A0 15))), some (.int (zI (yv A0 17))), none, none, none, none]) hC dX1_switching_9 (Nat.le_of_ble_eq_true rfl) rfl rfl ?_
  refine h_aload_n hC dX1_switching_10 rfl ?_
  refine h_get hC fl_X1_43 (hZ.w.o 5 (by decide)) rfl dX1_switching_11 ?_
  refine yr_sv (e := (yv A0 18)) hZ 18 rfl ?_
  refine h_istore (lv' := [some (.ref (gO' Y 5)), some (.int (zI a0)), some (.int (zI (yv A0 15))), some (.int (zI (yv A0 17))), some (.int (zI (yv A0 18))), none, none, none]) hC dX1_switching_14 (Nat.le_of_ble_eq_true rfl) rfl rfl ?_
  refine h_aload_n hC dX1_switching_16 rfl ?_
  refine h_get hC fl_X1_65 (hZ.w.o 5 (by decide)) rfl dX1_switching_17 ?_
  refine h_iload_n hC dX1_switching_20 rfl ?_
  refine yr_callVi (As := [.int (zI a0)]) hC hr ho hZ rfl (hZ.w.o 2 (by decide)) (cm_Tree_first X.la d b Ra0 hZ.rs hw) cl_X1_126 rfl rfl (Nat.le_of_ble_eq_true rfl) (hFr_of (by omega) (Nat.le_of_ble_eq_true rfl)) dX1_switching_21 (fun r1 A2 u3 S4 R5 o6 hZ7 h8 => ?_)
  refine h_istore (lv' := [some (.ref (gO' Y 5)), some (.int (zI a0)), some (.int (zI (yv A0 15))), some (.int (zI (yv A0 17))), some (.int (zI (yv A0 18))), some (.int (zI r1)), none, none]) hC dX1_switching_24 (Nat.le_of_ble_eq_true rfl) rfl rfl ?_
  refine h_aload_n hC dX1_switching_26 rfl ?_
  refine h_iload hC dX1_switching_27 rfl ?_
  refine h_iconst (v := zI 0) hC dX1_switching_29 rfl ?_
  refine h_iconst (v := zI 0) hC dX1_switching_30 rfl ?_
  refine yr_callVv (As := [.int (zI r1), .int (zI 0), .int (zI 0)]) hC hr o6 hZ7 rfl (hZ7.w.o 5 (by decide)) (ih.2.2.2.2.2.2.2.2.2.2.2.2.1 R5 (by decide) (by decide) hZ7.rs h8) cl_X1_188 rfl rfl (Nat.le_of_ble_eq_true rfl) (hFr_of (by omega) (Nat.le_of_ble_eq_true rfl)) dX1_switching_31 (fun A10 u11 S12 o14 hZ15 h16 => ?_)
  refine h_aload_n hC dX1_switching_34 rfl ?_
  refine h_bipush (v := zI 14) hC dX1_switching_35 rfl ?_
  refine h_iconst (v := zI 0) hC dX1_switching_37 rfl ?_
  refine yr_callVi (As := [.int (zI 14), .int (zI 0)]) hC hr o14 hZ15 rfl (hZ15.w.o 5 (by decide)) (cm_Coder_emit X.la d b (by decide) (by decide) hZ15.rs h16) cl_X1_181 rfl rfl (Nat.le_of_ble_eq_true rfl) (hFr_of (by omega) (Nat.le_of_ble_eq_true rfl)) dX1_switching_38 (fun r17 A18 u19 S20 R21 o22 hZ23 h24 => ?_)
  refine h_istore (lv' := [some (.ref (gO' Y 5)), some (.int (zI a0)), some (.int (zI (yv A0 15))), some (.int (zI (yv A0 17))), some (.int (zI (yv A0 18))), some (.int (zI r1)), some (.int (zI r17)), none]) hC dX1_switching_41 (Nat.le_of_ble_eq_true rfl) rfl rfl ?_
  refine h_aload_n hC dX1_switching_43 rfl ?_
  refine h_iconst (v := zI 0) hC dX1_switching_44 rfl ?_
  refine hi_putx (i := 5) (kx := 15) hC hZ23.hi (by decide) fl_X1_34 rfl rfl rfl (Nat.le_of_ble_eq_true rfl) rfl gsame_15 (fun q => absurd q (by decide)) dX1_switching_45 (fun F25 S26 I27 K28 s29 v30 p31 => ?_)
  have hZ32 := hZ23.put I27 K28 s29 v30 (by decide) rfl
  clear I27 K28 s29 v30 p31
  refine yr_nu o22 hZ32 (fun u33 o34 hZ35 => ?_)
  refine h_aload_n hC dX1_switching_48 rfl ?_
  refine h_aload_n hC dX1_switching_49 rfl ?_
  refine h_get hC fl_X1_24 (hZ35.w.o 5 (by decide)) rfl dX1_switching_50 ?_
  refine yr_size (j := 26) (e := ((yz A18 26 : Nat) : Int)) hC hr o34 hZ35 (by decide) rfl cl_X1_103 rfl (Nat.le_of_ble_eq_true rfl) (hFr_of (by omega) (Nat.le_of_ble_eq_true rfl)) dX1_switching_53 ?_
  refine hi_putx (i := 5) (kx := 17) hC hZ35.hi (by decide) fl_X1_40 rfl rfl rfl (Nat.le_of_ble_eq_true rfl) rfl gsame_17 (fun q => absurd q (by decide)) dX1_switching_56 (fun F36 S37 I38 K39 s40 v41 p42 => ?_)
  have hZ43 := hZ35.put I38 K39 s40 v41 (hZ35.rz (j := 26) (by decide)) rfl
  clear I38 K39 s40 v41 p42
  refine yr_nu o34 hZ43 (fun u44 o45 hZ46 => ?_)
  refine h_aload_n hC dX1_switching_59 rfl ?_
  refine h_iconst (v := zI (-1)) hC dX1_switching_60 rfl ?_
  refine hi_putx (i := 5) (kx := 18) hC hZ46.hi (by decide) fl_X1_43 rfl rfl rfl (Nat.le_of_ble_eq_true rfl) rfl gsame_18 (fun q => absurd q (by decide)) dX1_switching_61 (fun F47 S48 I49 K50 s51 v52 p53 => ?_)
  have hZ54 := hZ46.put I49 K50 s51 v52 (by decide) rfl
  clear I49 K50 s51 v52 p53
  refine yr_nu o45 hZ54 (fun u55 o56 hZ57 => ?_)
  refine h_aload_n hC dX1_switching_64 rfl ?_
  refine h_aload_n hC dX1_switching_65 rfl ?_
  refine h_get hC fl_X1_65 (hZ57.w.o 5 (by decide)) rfl dX1_switching_66 ?_
  refine h_iload hC dX1_switching_69 rfl ?_
  refine yr_callVi (As := [.int (zI r1)]) hC hr o56 hZ57 rfl (hZ57.w.o 2 (by decide)) (cm_Tree_next X.la d b R5 hZ57.rs h24) cl_X1_142 rfl rfl (Nat.le_of_ble_eq_true rfl) (hFr_of (by omega) (Nat.le_of_ble_eq_true rfl)) dX1_switching_71 (fun r58 A59 u60 S61 R62 o63 hZ64 h65 => ?_)
  refine yr_callVv (As := [.int (zI r58)]) hC hr o63 hZ64 rfl (hZ64.w.o 5 (by decide)) (ih.2.2.2.1 R62 hZ64.rs h65) cl_X1_100 rfl rfl (Nat.le_of_ble_eq_true rfl) (hFr_of (by omega) (Nat.le_of_ble_eq_true rfl)) dX1_switching_74 (fun A67 u68 S69 o71 hZ72 h73 => ?_)
  refine h_aload_n hC dX1_switching_77 rfl ?_
  refine h_aload_n hC dX1_switching_78 rfl ?_
  refine h_bipush (v := zI 14) hC dX1_switching_79 rfl ?_
  refine h_aload_n hC dX1_switching_81 rfl ?_
  refine h_get hC fl_X1_34 (hZ72.w.o 5 (by decide)) rfl dX1_switching_82 ?_
  refine yr_sv (e := (yv A67 15)) hZ72 15 rfl ?_
  refine yr_callVi (As := [.int (zI 14), .int (zI (yv A67 15))]) hC hr o71 hZ72 rfl (hZ72.w.o 5 (by decide)) (cm_Coder_emit X.la d b (by decide) (hZ72.rv 15) hZ72.rs h73) cl_X1_181 rfl rfl (Nat.le_of_ble_eq_true rfl) (hFr_of (by omega) (Nat.le_of_ble_eq_true rfl)) dX1_switching_85 (fun r74 A75 u76 S77 R78 o79 hZ80 h81 => ?_)
  refine hi_putx (i := 5) (kx := 15) hC hZ80.hi (by decide) fl_X1_34 rfl rfl rfl (Nat.le_of_ble_eq_true rfl) rfl gsame_15 (fun q => absurd q (by decide)) dX1_switching_88 (fun F82 S83 I84 K85 s86 v87 p88 => ?_)
  have hZ89 := hZ80.put I84 K85 s86 v87 R78 rfl
  clear I84 K85 s86 v87 p88
  refine yr_nu o79 hZ89 (fun u90 o91 hZ92 => ?_)
  refine h_aload_n hC dX1_switching_91 rfl ?_
  refine h_get hC fl_X1_69 (hZ92.w.o 5 (by decide)) rfl dX1_switching_92 ?_
  refine h_iload hC dX1_switching_95 rfl ?_
  refine yr_callVv (As := [.int (zI r17)]) hC hr o91 hZ92 rfl (hZ92.w.o 1 (by decide)) (cm_Program_land X.la d b R21 hZ92.rs h81) cl_X1_201 rfl rfl (Nat.le_of_ble_eq_true rfl) (hFr_of (by omega) (Nat.le_of_ble_eq_true rfl)) dX1_switching_97 (fun A94 u95 S96 o98 hZ99 h100 => ?_)
  refine h_aload_n hC dX1_switching_100 rfl ?_
  refine h_get hC fl_X1_40 (hZ99.w.o 5 (by decide)) rfl dX1_switching_101 ?_
  refine yr_sv (e := (yv A94 17)) hZ99 17 rfl ?_
  refine h_istore (lv' := [some (.ref (gO' Y 5)), some (.int (zI a0)), some (.int (zI (yv A0 15))), some (.int (zI (yv A0 17))), some (.int (zI (yv A0 18))), some (.int (zI r1)), some (.int (zI r17)), some (.int (zI (yv A94 17)))]) hC dX1_switching_104 (Nat.le_of_ble_eq_true rfl) rfl rfl ?_
  refine h_lv (lv' := [some (.ref (gO' Y 5)), none, some (.int (zI (yv A0 15))), some (.int (zI (yv A0 17))), some (.int (zI (yv A0 18))), none, none, some (.int (zI (yv A94 17)))]) ⟨rfl, rfl, rfl, rfl, rfl, trivial⟩ ?_
  obtain ⟨m101, h102⟩ := h100
  exact cl_Coder_switching_106 hC hr ih  m101 _ _ _ _ _ _ _ (hZ.rv 15) (hZ.rv 17) (hZ.rv 18) (hZ99.rv 17) o98 hZ99 h102
theorem dX1_telling_0 : decode cX1_telling 0 = .ok (.aload_n 0, 1) := by decide +kernel
theorem dX1_telling_1 : decode cX1_telling 1 = .ok (.aload_n 0, 1) := by decide +kernel
theorem dX1_telling_2 : decode cX1_telling 2 = .ok (.getfield 65, 3) := by decide +kernel
theorem dX1_telling_5 : decode cX1_telling 5 = .ok (.iload_n 1, 1) := by decide +kernel
theorem dX1_telling_6 : decode cX1_telling 6 = .ok (.invokevirtual 126, 3) := by decide +kernel
theorem dX1_telling_9 : decode cX1_telling 9 = .ok (.iconst 0, 1) := by decide +kernel
theorem dX1_telling_10 : decode cX1_telling 10 = .ok (.iconst 0, 1) := by decide +kernel
theorem dX1_telling_11 : decode cX1_telling 11 = .ok (.invokevirtual 188, 3) := by decide +kernel
theorem dX1_telling_14 : decode cX1_telling 14 = .ok (.aload_n 0, 1) := by decide +kernel
theorem dX1_telling_15 : decode cX1_telling 15 = .ok (.getfield 37, 3) := by decide +kernel
theorem dX1_telling_18 : decode cX1_telling 18 = .ok (.ifCond .ge 23, 3) := by decide +kernel
theorem dX1_telling_21 : decode cX1_telling 21 = .ok (.aload_n 0, 1) := by decide +kernel
theorem dX1_telling_22 : decode cX1_telling 22 = .ok (.getfield 69, 3) := by decide +kernel
theorem dX1_telling_25 : decode cX1_telling 25 = .ok (.bipush 6, 2) := by decide +kernel
theorem dX1_telling_27 : decode cX1_telling 27 = .ok (.aload_n 0, 1) := by decide +kernel
theorem dX1_telling_28 : decode cX1_telling 28 = .ok (.getfield 65, 3) := by decide +kernel
theorem dX1_telling_31 : decode cX1_telling 31 = .ok (.iload_n 1, 1) := by decide +kernel
theorem dX1_telling_32 : decode cX1_telling 32 = .ok (.invokevirtual 135, 3) := by decide +kernel
theorem dX1_telling_35 : decode cX1_telling 35 = .ok (.invokevirtual 177, 3) := by decide +kernel
theorem dX1_telling_38 : decode cX1_telling 38 = .ok (.goto 17, 3) := by decide +kernel
theorem dX1_telling_41 : decode cX1_telling 41 = .ok (.aload_n 0, 1) := by decide +kernel
theorem dX1_telling_42 : decode cX1_telling 42 = .ok (.aload_n 0, 1) := by decide +kernel
theorem dX1_telling_43 : decode cX1_telling 43 = .ok (.bipush 14, 2) := by decide +kernel
theorem dX1_telling_45 : decode cX1_telling 45 = .ok (.aload_n 0, 1) := by decide +kernel
theorem dX1_telling_46 : decode cX1_telling 46 = .ok (.getfield 37, 3) := by decide +kernel
theorem dX1_telling_49 : decode cX1_telling 49 = .ok (.invokevirtual 181, 3) := by decide +kernel
theorem dX1_telling_52 : decode cX1_telling 52 = .ok (.putfield 37, 3) := by decide +kernel
theorem dX1_telling_55 : decode cX1_telling 55 = .ok (.return_, 1) := by decide +kernel
def wc_Coder_telling (rec : Nat → Int → Int → Int → cS → (Int → cS → Prop) → Prop) (A0 : cS) (a0 : Int) (Q : cS → Prop) : Prop :=
  wc_Tree_first A0 a0 (fun r1 A2 => rec 12 r1 0 0 A2 (fun _ A10 => ((0 ≤ (yv A10 16) → wc_Coder_emit A10 14 (yv A10 16) (fun r19 A20 => Q (ypv A20 16 r19))) ∧ (¬ 0 ≤ (yv A10 16) → wc_Tree_place A10 a0 (fun r39 A40 => wc_Program_blame A40 6 r39 (fun A48 => Q A48))))))
set_option maxHeartbeats 4000000 in
set_option maxRecDepth 100000 in
theorem cm_Coder_telling (l : Launch) (d : gD) (b : Nat) {Y : gYt} {c : Nat × Nat} {F : gM} {k n : Nat} {S : gSt} {A0 : cS} {rec : Nat → Int → Int → Int → cS → (Int → cS → Prop) → Prop} {lv0 : Nat} (ih : yOkC l d b Y c lv0 rec) {a0 : Int} (Ra0 : zR a0) {Q : cS → Prop} (hZ : yZ d b Y c F S (F, k, n) S A0) (hw : wc_Coder_telling rec A0 a0 Q) : hMv l d b yX1_telling cX1_telling 2 (630 + lv0 + 1) k n F [.ref (gO' Y 5), .int (zI a0)] (yPv d b Y c F S Q) := by
  intro mc ms
  refine hM_of2 rfl (nL := 2) (Nat.le_of_ble_eq_true rfl) ?_
  intro X hX hC hr ho; subst hX
  show yG X d b (yQv X d b Y c F S mc ms Q) (F, k, n) 0 [some (.ref (gO' Y 5)), some (.int (zI a0))] []
  unfold wc_Coder_telling at hw
  refine h_aload_n hC dX1_telling_0 rfl ?_
  refine h_aload_n hC dX1_telling_1 rfl ?_
  refine h_get hC fl_X1_65 (hZ.w.o 5 (by decide)) rfl dX1_telling_2 ?_
  refine h_iload_n hC dX1_telling_5 rfl ?_
  refine yr_callVi (As := [.int (zI a0)]) hC hr ho hZ rfl (hZ.w.o 2 (by decide)) (cm_Tree_first X.la d b Ra0 hZ.rs hw) cl_X1_126 rfl rfl (Nat.le_of_ble_eq_true rfl) (hFr_of (by omega) (Nat.le_of_ble_eq_true rfl)) dX1_telling_6 (fun r1 A2 u3 S4 R5 o6 hZ7 h8 => ?_)
  refine h_iconst (v := zI 0) hC dX1_telling_9 rfl ?_
  refine h_iconst (v := zI 0) hC dX1_telling_10 rfl ?_
  refine yr_callVv (As := [.int (zI r1), .int (zI 0), .int (zI 0)]) hC hr o6 hZ7 rfl (hZ7.w.o 5 (by decide)) (ih.2.2.2.2.2.2.2.2.2.2.2.2.1 R5 (by decide) (by decide) hZ7.rs h8) cl_X1_188 rfl rfl (Nat.le_of_ble_eq_true rfl) (hFr_of (by omega) (Nat.le_of_ble_eq_true rfl)) dX1_telling_11 (fun A10 u11 S12 o14 hZ15 h16 => ?_)
  refine h_aload_n hC dX1_telling_14 rfl ?_
  refine h_get hC fl_X1_37 (hZ15.w.o 5 (by decide)) rfl dX1_telling_15 ?_
  refine yr_sv (e := (yv A10 16)) hZ15 16 rfl ?_
  refine yr_if_ge (tgt := 41) hC (hZ15.rv 16) dX1_telling_18 (by decide) (fun c17 => ?_) (fun c17 => ?_)
  · have h18 := h16.1 c17
    refine h_aload_n hC dX1_telling_41 rfl ?_
    refine h_aload_n hC dX1_telling_42 rfl ?_
    refine h_bipush (v := zI 14) hC dX1_telling_43 rfl ?_
    refine h_aload_n hC dX1_telling_45 rfl ?_
    refine h_get hC fl_X1_37 (hZ15.w.o 5 (by decide)) rfl dX1_telling_46 ?_
    refine yr_sv (e := (yv A10 16)) hZ15 16 rfl ?_
    refine yr_callVi (As := [.int (zI 14), .int (zI (yv A10 16))]) hC hr o14 hZ15 rfl (hZ15.w.o 5 (by decide)) (cm_Coder_emit X.la d b (by decide) (hZ15.rv 16) hZ15.rs h18) cl_X1_181 rfl rfl (Nat.le_of_ble_eq_true rfl) (hFr_of (by omega) (Nat.le_of_ble_eq_true rfl)) dX1_telling_49 (fun r19 A20 u21 S22 R23 o24 hZ25 h26 => ?_)
    refine hi_putx (i := 5) (kx := 16) hC hZ25.hi (by decide) fl_X1_37 rfl rfl rfl (Nat.le_of_ble_eq_true rfl) rfl gsame_16 (fun q => absurd q (by decide)) dX1_telling_52 (fun F27 S28 I29 K30 s31 v32 p33 => ?_)
    have hZ34 := hZ25.put I29 K30 s31 v32 R23 rfl
    clear I29 K30 s31 v32 p33
    refine yr_nu o24 hZ34 (fun u35 o36 hZ37 => ?_)
    exact yr_vret hC hr o36 hZ37 h26 dX1_telling_55
  · have h38 := h16.2 c17
    refine h_aload_n hC dX1_telling_21 rfl ?_
    refine h_get hC fl_X1_69 (hZ15.w.o 5 (by decide)) rfl dX1_telling_22 ?_
    refine h_bipush (v := zI 6) hC dX1_telling_25 rfl ?_
    refine h_aload_n hC dX1_telling_27 rfl ?_
    refine h_get hC fl_X1_65 (hZ15.w.o 5 (by decide)) rfl dX1_telling_28 ?_
    refine h_iload_n hC dX1_telling_31 rfl ?_
    refine yr_callVi (As := [.int (zI a0)]) hC hr o14 hZ15 rfl (hZ15.w.o 2 (by decide)) (cm_Tree_place X.la d b Ra0 hZ15.rs h38) cl_X1_135 rfl rfl (Nat.le_of_ble_eq_true rfl) (hFr_of (by omega) (Nat.le_of_ble_eq_true rfl)) dX1_telling_32 (fun r39 A40 u41 S42 R43 o44 hZ45 h46 => ?_)
    refine yr_callVv (As := [.int (zI 6), .int (zI r39)]) hC hr o44 hZ45 rfl (hZ45.w.o 1 (by decide)) (cm_Program_blame X.la d b (by decide) R43 hZ45.rs h46) cl_X1_177 rfl rfl (Nat.le_of_ble_eq_true rfl) (hFr_of (by omega) (Nat.le_of_ble_eq_true rfl)) dX1_telling_35 (fun A48 u49 S50 o52 hZ53 h54 => ?_)
    refine h_goto (tgt := 55) hC dX1_telling_38 (by decide) ?_
    exact yr_vret hC hr o52 hZ53 h54 dX1_telling_55
theorem dX1_expression_0 : decode cX1_expression 0 = .ok (.iconst 0, 1) := by decide +kernel
theorem dX1_expression_1 : decode cX1_expression 1 = .ok (.istore 4, 2) := by decide +kernel
theorem dX1_expression_3 : decode cX1_expression 3 = .ok (.aload_n 0, 1) := by decide +kernel
theorem dX1_expression_4 : decode cX1_expression 4 = .ok (.getfield 65, 3) := by decide +kernel
theorem dX1_expression_7 : decode cX1_expression 7 = .ok (.iload_n 1, 1) := by decide +kernel
theorem dX1_expression_8 : decode cX1_expression 8 = .ok (.invokevirtual 126, 3) := by decide +kernel
theorem dX1_expression_11 : decode cX1_expression 11 = .ok (.istore 5, 2) := by decide +kernel
theorem dX1_expression_13 : decode cX1_expression 13 = .ok (.iconst 0, 1) := by decide +kernel
theorem dX1_expression_14 : decode cX1_expression 14 = .ok (.istore 6, 2) := by decide +kernel
theorem dX1_expression_16 : decode cX1_expression 16 = .ok (.iload 6, 2) := by decide +kernel
theorem dX1_expression_18 : decode cX1_expression 18 = .ok (.ldc 11, 2) := by decide +kernel
theorem dX1_expression_20 : decode cX1_expression 20 = .ok (.if_icmp .ge 277, 3) := by decide +kernel
theorem dX1_expression_23 : decode cX1_expression 23 = .ok (.iload 5, 2) := by decide +kernel
theorem dX1_expression_25 : decode cX1_expression 25 = .ok (.ifCond .eq 272, 3) := by decide +kernel
theorem dX1_expression_28 : decode cX1_expression 28 = .ok (.aload_n 0, 1) := by decide +kernel
theorem dX1_expression_29 : decode cX1_expression 29 = .ok (.getfield 65, 3) := by decide +kernel
theorem dX1_expression_32 : decode cX1_expression 32 = .ok (.iload 5, 2) := by decide +kernel
theorem dX1_expression_34 : decode cX1_expression 34 = .ok (.invokevirtual 142, 3) := by decide +kernel
theorem dX1_expression_37 : decode cX1_expression 37 = .ok (.istore 7, 2) := by decide +kernel
theorem dX1_expression_39 : decode cX1_expression 39 = .ok (.aload_n 0, 1) := by decide +kernel
theorem dX1_expression_40 : decode cX1_expression 40 = .ok (.getfield 65, 3) := by decide +kernel
theorem dX1_expression_43 : decode cX1_expression 43 = .ok (.iload 7, 2) := by decide +kernel
theorem dX1_expression_45 : decode cX1_expression 45 = .ok (.invokevirtual 121, 3) := by decide +kernel
theorem dX1_expression_48 : decode cX1_expression 48 = .ok (.bipush 86, 2) := by decide +kernel
theorem dX1_expression_50 : decode cX1_expression 50 = .ok (.if_icmp .ne 7, 3) := by decide +kernel
theorem dX1_expression_53 : decode cX1_expression 53 = .ok (.iconst 1, 1) := by decide +kernel
theorem dX1_expression_54 : decode cX1_expression 54 = .ok (.goto 4, 3) := by decide +kernel
theorem dX1_expression_57 : decode cX1_expression 57 = .ok (.iconst 0, 1) := by decide +kernel
theorem dX1_expression_58 : decode cX1_expression 58 = .ok (.istore 8, 2) := by decide +kernel
theorem dX1_expression_60 : decode cX1_expression 60 = .ok (.iload 8, 2) := by decide +kernel
theorem dX1_expression_62 : decode cX1_expression 62 = .ok (.ifCond .eq 7, 3) := by decide +kernel
theorem dX1_expression_65 : decode cX1_expression 65 = .ok (.iconst 1, 1) := by decide +kernel
theorem dX1_expression_66 : decode cX1_expression 66 = .ok (.goto 13, 3) := by decide +kernel
theorem dX1_expression_69 : decode cX1_expression 69 = .ok (.iload 7, 2) := by decide +kernel
theorem dX1_expression_71 : decode cX1_expression 71 = .ok (.ifCond .ne 7, 3) := by decide +kernel
theorem dX1_expression_74 : decode cX1_expression 74 = .ok (.iload_n 2, 1) := by decide +kernel
theorem dX1_expression_75 : decode cX1_expression 75 = .ok (.goto 4, 3) := by decide +kernel
theorem dX1_expression_78 : decode cX1_expression 78 = .ok (.iconst 0, 1) := by decide +kernel
theorem dX1_expression_79 : decode cX1_expression 79 = .ok (.istore 9, 2) := by decide +kernel
theorem dX1_expression_81 : decode cX1_expression 81 = .ok (.iload 8, 2) := by decide +kernel
theorem dX1_expression_83 : decode cX1_expression 83 = .ok (.ifCond .eq 15, 3) := by decide +kernel
theorem dX1_expression_86 : decode cX1_expression 86 = .ok (.aload_n 0, 1) := by decide +kernel
theorem dX1_expression_87 : decode cX1_expression 87 = .ok (.getfield 65, 3) := by decide +kernel
theorem dX1_expression_90 : decode cX1_expression 90 = .ok (.iload 7, 2) := by decide +kernel
theorem dX1_expression_92 : decode cX1_expression 92 = .ok (.invokevirtual 129, 3) := by decide +kernel
theorem dX1_expression_95 : decode cX1_expression 95 = .ok (.goto 4, 3) := by decide +kernel
theorem dX1_expression_98 : decode cX1_expression 98 = .ok (.iload_n 3, 1) := by decide +kernel
theorem dX1_expression_99 : decode cX1_expression 99 = .ok (.istore 10, 2) := by decide +kernel
theorem dX1_expression_101 : decode cX1_expression 101 = .ok (.aload_n 0, 1) := by decide +kernel
theorem dX1_expression_102 : decode cX1_expression 102 = .ok (.getfield 65, 3) := by decide +kernel
theorem dX1_expression_105 : decode cX1_expression 105 = .ok (.iload 5, 2) := by decide +kernel
theorem dX1_expression_107 : decode cX1_expression 107 = .ok (.invokevirtual 121, 3) := by decide +kernel
theorem dX1_expression_110 : decode cX1_expression 110 = .ok (.lookupswitch 167 #[(34, 95), (35, 129), (81, 112), (82, 58), (83, 78), (88, 146)], 58) := by decide +kernel
theorem dX1_expression_168 : decode cX1_expression 168 = .ok (.aload_n 0, 1) := by decide +kernel
theorem dX1_expression_169 : decode cX1_expression 169 = .ok (.aload_n 0, 1) := by decide +kernel
theorem dX1_expression_170 : decode cX1_expression 170 = .ok (.getfield 65, 3) := by decide +kernel
theorem dX1_expression_173 : decode cX1_expression 173 = .ok (.iload 5, 2) := by decide +kernel
theorem dX1_expression_175 : decode cX1_expression 175 = .ok (.invokevirtual 126, 3) := by decide +kernel
theorem dX1_expression_178 : decode cX1_expression 178 = .ok (.iload 9, 2) := by decide +kernel
theorem dX1_expression_180 : decode cX1_expression 180 = .ok (.iload 10, 2) := by decide +kernel
theorem dX1_expression_182 : decode cX1_expression 182 = .ok (.invokevirtual 188, 3) := by decide +kernel
theorem dX1_expression_185 : decode cX1_expression 185 = .ok (.goto 102, 3) := by decide +kernel
theorem dX1_expression_188 : decode cX1_expression 188 = .ok (.aload_n 0, 1) := by decide +kernel
theorem dX1_expression_189 : decode cX1_expression 189 = .ok (.iload 5, 2) := by decide +kernel
theorem dX1_expression_191 : decode cX1_expression 191 = .ok (.invokevirtual 280, 3) := by decide +kernel
theorem dX1_expression_194 : decode cX1_expression 194 = .ok (.aload_n 0, 1) := by decide +kernel
theorem dX1_expression_195 : decode cX1_expression 195 = .ok (.iload 9, 2) := by decide +kernel
theorem dX1_expression_197 : decode cX1_expression 197 = .ok (.iload 10, 2) := by decide +kernel
theorem dX1_expression_199 : decode cX1_expression 199 = .ok (.invokevirtual 283, 3) := by decide +kernel
theorem dX1_expression_202 : decode cX1_expression 202 = .ok (.goto 85, 3) := by decide +kernel
theorem dX1_expression_205 : decode cX1_expression 205 = .ok (.aload_n 0, 1) := by decide +kernel
theorem dX1_expression_206 : decode cX1_expression 206 = .ok (.iload 5, 2) := by decide +kernel
theorem dX1_expression_208 : decode cX1_expression 208 = .ok (.invokevirtual 286, 3) := by decide +kernel
theorem dX1_expression_211 : decode cX1_expression 211 = .ok (.aload_n 0, 1) := by decide +kernel
theorem dX1_expression_212 : decode cX1_expression 212 = .ok (.iload 9, 2) := by decide +kernel
theorem dX1_expression_214 : decode cX1_expression 214 = .ok (.iload 10, 2) := by decide +kernel
theorem dX1_expression_216 : decode cX1_expression 216 = .ok (.invokevirtual 283, 3) := by decide +kernel
theorem dX1_expression_219 : decode cX1_expression 219 = .ok (.goto 68, 3) := by decide +kernel
theorem dX1_expression_222 : decode cX1_expression 222 = .ok (.aload_n 0, 1) := by decide +kernel
theorem dX1_expression_223 : decode cX1_expression 223 = .ok (.iload 5, 2) := by decide +kernel
theorem dX1_expression_225 : decode cX1_expression 225 = .ok (.invokevirtual 289, 3) := by decide +kernel
theorem dX1_expression_228 : decode cX1_expression 228 = .ok (.aload_n 0, 1) := by decide +kernel
theorem dX1_expression_229 : decode cX1_expression 229 = .ok (.iload 9, 2) := by decide +kernel
theorem dX1_expression_231 : decode cX1_expression 231 = .ok (.iload 10, 2) := by decide +kernel
theorem dX1_expression_233 : decode cX1_expression 233 = .ok (.invokevirtual 283, 3) := by decide +kernel
theorem dX1_expression_236 : decode cX1_expression 236 = .ok (.goto 51, 3) := by decide +kernel
theorem dX1_expression_239 : decode cX1_expression 239 = .ok (.aload_n 0, 1) := by decide +kernel
theorem dX1_expression_240 : decode cX1_expression 240 = .ok (.iload 5, 2) := by decide +kernel
theorem dX1_expression_242 : decode cX1_expression 242 = .ok (.invokevirtual 292, 3) := by decide +kernel
theorem dX1_expression_245 : decode cX1_expression 245 = .ok (.aload_n 0, 1) := by decide +kernel
theorem dX1_expression_246 : decode cX1_expression 246 = .ok (.iload 9, 2) := by decide +kernel
theorem dX1_expression_248 : decode cX1_expression 248 = .ok (.iload 10, 2) := by decide +kernel
theorem dX1_expression_250 : decode cX1_expression 250 = .ok (.invokevirtual 283, 3) := by decide +kernel
theorem dX1_expression_253 : decode cX1_expression 253 = .ok (.goto 34, 3) := by decide +kernel
theorem dX1_expression_256 : decode cX1_expression 256 = .ok (.aload_n 0, 1) := by decide +kernel
theorem dX1_expression_257 : decode cX1_expression 257 = .ok (.iload 5, 2) := by decide +kernel
theorem dX1_expression_259 : decode cX1_expression 259 = .ok (.iload 4, 2) := by decide +kernel
theorem dX1_expression_261 : decode cX1_expression 261 = .ok (.invokevirtual 295, 3) := by decide +kernel
theorem dX1_expression_264 : decode cX1_expression 264 = .ok (.istore 4, 2) := by decide +kernel
theorem dX1_expression_266 : decode cX1_expression 266 = .ok (.aload_n 0, 1) := by decide +kernel
theorem dX1_expression_267 : decode cX1_expression 267 = .ok (.iload 9, 2) := by decide +kernel
theorem dX1_expression_269 : decode cX1_expression 269 = .ok (.iload 10, 2) := by decide +kernel
theorem dX1_expression_271 : decode cX1_expression 271 = .ok (.invokevirtual 283, 3) := by decide +kernel
theorem dX1_expression_274 : decode cX1_expression 274 = .ok (.goto 13, 3) := by decide +kernel
theorem dX1_expression_277 : decode cX1_expression 277 = .ok (.aload_n 0, 1) := by decide +kernel
theorem dX1_expression_278 : decode cX1_expression 278 = .ok (.iload 5, 2) := by decide +kernel
theorem dX1_expression_280 : decode cX1_expression 280 = .ok (.iload 9, 2) := by decide +kernel
theorem dX1_expression_282 : decode cX1_expression 282 = .ok (.iload 10, 2) := by decide +kernel
theorem dX1_expression_284 : decode cX1_expression 284 = .ok (.invokevirtual 298, 3) := by decide +kernel
theorem dX1_expression_287 : decode cX1_expression 287 = .ok (.iload 7, 2) := by decide +kernel
theorem dX1_expression_289 : decode cX1_expression 289 = .ok (.istore 5, 2) := by decide +kernel
theorem dX1_expression_291 : decode cX1_expression 291 = .ok (.iinc 6 1, 3) := by decide +kernel
theorem dX1_expression_294 : decode cX1_expression 294 = .ok (.goto (-278), 3) := by decide +kernel
theorem dX1_expression_297 : decode cX1_expression 297 = .ok (.return_, 1) := by decide +kernel
def wc_Coder_expression_99 (rec : Nat → Int → Int → Int → cS → (Int → cS → Prop) → Prop) (Q : cS → Prop) (k16 : cS → Int → Int → Int → Int → Int → Prop) (A0 : cS) (x2 : Int) (x3 : Int) (x4 : Int) (x5 : Int) (x6 : Int) (x7 : Int) (x9 : Int) (y0 : Int) : Prop :=
  wc_Tree_kind A0 x5 (fun r1 A2 => (((r1 = 34) → rec 15 x5 0 0 A2 (fun _ A13 => wc_Coder_unfit A13 x9 y0 (fun A21 => (zR (x6 + 1)) ∧ k16 A21 x2 x3 x4 x7 (x6 + 1)))) ∧ ((r1 = 35) → wc_Coder_table A2 x5 (fun A34 => wc_Coder_unfit A34 x9 y0 (fun A42 => (zR (x6 + 1)) ∧ k16 A42 x2 x3 x4 x7 (x6 + 1)))) ∧ ((r1 = 81) → rec 16 x5 0 0 A2 (fun _ A55 => wc_Coder_unfit A55 x9 y0 (fun A63 => (zR (x6 + 1)) ∧ k16 A63 x2 x3 x4 x7 (x6 + 1)))) ∧ ((r1 = 82) → wc_Tree_first A2 x5 (fun r75 A76 => rec 12 r75 x9 y0 A76 (fun _ A84 => (zR (x6 + 1)) ∧ k16 A84 x2 x3 x4 x7 (x6 + 1)))) ∧ ((r1 = 83) → rec 13 x5 0 0 A2 (fun _ A97 => wc_Coder_unfit A97 x9 y0 (fun A105 => (zR (x6 + 1)) ∧ k16 A105 x2 x3 x4 x7 (x6 + 1)))) ∧ ((r1 = 88) → wc_Coder_sign A2 x5 x4 (fun r117 A118 => wc_Coder_unfit A118 x9 y0 (fun A126 => (zR (x6 + 1)) ∧ k16 A126 x2 x3 r117 x7 (x6 + 1)))) ∧ (¬ (r1 = 34) → ¬ (r1 = 35) → ¬ (r1 = 81) → ¬ (r1 = 82) → ¬ (r1 = 83) → ¬ (r1 = 88) → wc_Coder_single A2 x5 x9 y0 (fun A137 => (zR (x6 + 1)) ∧ k16 A137 x2 x3 x4 x7 (x6 + 1)))))
def wc_Coder_expression_58 (rec : Nat → Int → Int → Int → cS → (Int → cS → Prop) → Prop) (Q : cS → Prop) (k16 : cS → Int → Int → Int → Int → Int → Prop) (A0 : cS) (x2 : Int) (x3 : Int) (x4 : Int) (x5 : Int) (x6 : Int) (x7 : Int) (y0 : Int) : Prop :=
  ((y0 = 0 → ((¬ x7 = 0 → ((y0 = 0 → wc_Coder_expression_99 rec Q k16 A0 x2 x3 x4 x5 x6 x7 0 x3) ∧ (¬ y0 = 0 → wc_Tree_data A0 x7 (fun r8 A9 => wc_Coder_expression_99 rec Q k16 A9 x2 x3 x4 x5 x6 x7 0 r8)))) ∧ (x7 = 0 → ((y0 = 0 → wc_Coder_expression_99 rec Q k16 A0 x2 x3 x4 x5 x6 x7 x2 x3) ∧ (¬ y0 = 0 → wc_Tree_data A0 x7 (fun r20 A21 => wc_Coder_expression_99 rec Q k16 A21 x2 x3 x4 x5 x6 x7 x2 r20)))))) ∧ (¬ y0 = 0 → ((y0 = 0 → wc_Coder_expression_99 rec Q k16 A0 x2 x3 x4 x5 x6 x7 1 x3) ∧ (¬ y0 = 0 → wc_Tree_data A0 x7 (fun r32 A33 => wc_Coder_expression_99 rec Q k16 A33 x2 x3 x4 x5 x6 x7 1 r32)))))
def wc_Coder_expression_16B (rec : Nat → Int → Int → Int → cS → (Int → cS → Prop) → Prop) (Q : cS → Prop) (k16 : cS → Int → Int → Int → Int → Int → Prop) (A0 : cS) (x2 : Int) (x3 : Int) (x4 : Int) (x5 : Int) (x6 : Int) : Prop :=
  ((1000000 ≤ x6 → Q A0) ∧ (¬ 1000000 ≤ x6 → ((x5 = 0 → Q A0) ∧ (¬ x5 = 0 → wc_Tree_next A0 x5 (fun r7 A8 => wc_Tree_kind A8 r7 (fun r15 A16 => ((¬ r15 = 86 → wc_Coder_expression_58 rec Q k16 A16 x2 x3 x4 x5 x6 r7 0) ∧ (r15 = 86 → wc_Coder_expression_58 rec Q k16 A16 x2 x3 x4 x5 x6 r7 1))))))))
def wc_Coder_expression_16 (rec : Nat → Int → Int → Int → cS → (Int → cS → Prop) → Prop) (Q : cS → Prop)  : Nat → cS → Int → Int → Int → Int → Int → Prop
  | 0 => fun _ _ _ _ _ _ => False
  | m + 1 => fun A0 x2 x3 x4 x5 x6 => wc_Coder_expression_16B rec Q  (wc_Coder_expression_16 rec Q  m) A0 x2 x3 x4 x5 x6
def wc_Coder_expression (rec : Nat → Int → Int → Int → cS → (Int → cS → Prop) → Prop) (A0 : cS) (a0 : Int) (a1 : Int) (a2 : Int) (Q : cS → Prop) : Prop :=
  wc_Tree_first A0 a0 (fun r1 A2 => ∃ n, wc_Coder_expression_16 rec Q  n A2 a1 a2 0 r1 0)
set_option maxHeartbeats 4000000 in
set_option maxRecDepth 100000 in
theorem cj_Coder_expression_99 {X : gX} {d : gD} {b : Nat} {Y : gYt} {c : Nat × Nat} {F0 : gM} {S0 : gSt} {mc ms : Nat} {rec : Nat → Int → Int → Int → cS → (Int → cS → Prop) → Prop} {lv0 : Nat} (hC : gC RX1 cX1_expression 11 none "expression" (gR (630 + lv0 + 1) mc ms) d b X) (hr : hRm X b) (ih : yOkC X.la d b Y c lv0 rec) {Q : cS → Prop} {k16 : cS → Int → Int → Int → Int → Int → Prop} (hk16 : ∀ (u : hU) (S : gSt) (A0 : cS) (x2 : Int) (x3 : Int) (x4 : Int) (x5 : Int) (x6 : Int), zR x2 → zR x3 → zR x4 → zR x5 → zR x6 → yOk X b u → yZ d b Y c F0 S0 u S A0 → k16 A0 x2 x3 x4 x5 x6 → yG X d b (yQv X d b Y c F0 S0 mc ms Q) u 16 [some (.ref (gO' Y 5)), none, some (.int (zI x2)), some (.int (zI x3)), some (.int (zI x4)), some (.int (zI x5)), some (.int (zI x6)), none, none, none, none] []) {u : hU} {S : gSt} {A0 : cS} {x2 : Int} {x3 : Int} {x4 : Int} {x5 : Int} {x6 : Int} {x7 : Int} {x9 : Int} {y0 : Int} (Rx2 : zR x2) (Rx3 : zR x3) (Rx4 : zR x4) (Rx5 : zR x5) (Rx6 : zR x6) (Rx7 : zR x7) (Rx9 : zR x9) (Ry0 : zR y0) (ho : yOk X b u) (hZ : yZ d b Y c F0 S0 u S A0) (hw : wc_Coder_expression_99 rec Q k16 A0 x2 x3 x4 x5 x6 x7 x9 y0) : yG X d b (yQv X d b Y c F0 S0 mc ms Q) u 99 [some (.ref (gO' Y 5)), none, some (.int (zI x2)), some (.int (zI x3)), some (.int (zI x4)), some (.int (zI x5)), some (.int (zI x6)), some (.int (zI x7)), none, some (.int (zI x9)), none] [.int (zI y0)] := by
  unfold wc_Coder_expression_99 at hw
  refine h_istore (lv' := [some (.ref (gO' Y 5)), none, some (.int (zI x2)), some (.int (zI x3)), some (.int (zI x4)), some (.int (zI x5)), some (.int (zI x6)), some (.int (zI x7)), none, some (.int (zI x9)), some (.int (zI y0))]) hC dX1_expression_99 (Nat.le_of_ble_eq_true rfl) rfl rfl ?_
  refine h_aload_n hC dX1_expression_101 rfl ?_
  refine h_get hC fl_X1_65 (hZ.w.o 5 (by decide)) rfl dX1_expression_102 ?_
  refine h_iload hC dX1_expression_105 rfl ?_
  refine yr_callVi (As := [.int (zI x5)]) hC hr ho hZ rfl (hZ.w.o 2 (by decide)) (cm_Tree_kind X.la d b Rx5 hZ.rs hw) cl_X1_121 rfl rfl (Nat.le_of_ble_eq_true rfl) (hFr_of (by omega) (Nat.le_of_ble_eq_true rfl)) dX1_expression_107 (fun r1 A2 u3 S4 R5 o6 hZ7 h8 => ?_)
  by_cases g9 : r1 = 34
  · have h11 := (h8.1) g9
    have T10 : yG X d b (yQv X d b Y c F0 S0 mc ms Q) u3 205 [some (.ref (gO' Y 5)), none, some (.int (zI x2)), some (.int (zI x3)), some (.int (zI x4)), some (.int (zI x5)), some (.int (zI x6)), some (.int (zI x7)), none, some (.int (zI x9)), some (.int (zI y0))] [] := by
      refine h_aload_n hC dX1_expression_205 rfl ?_
      refine h_iload hC dX1_expression_206 rfl ?_
      refine yr_callVv (As := [.int (zI x5)]) hC hr o6 hZ7 rfl (hZ7.w.o 5 (by decide)) (ih.2.2.2.2.2.2.2.2.2.2.2.2.2.2.2.1 Rx5 hZ7.rs h11) cl_X1_286 rfl rfl (Nat.le_of_ble_eq_true rfl) (hFr_of (by omega) (Nat.le_of_ble_eq_true rfl)) dX1_expression_208 (fun A13 u14 S15 o17 hZ18 h19 => ?_)
      refine h_aload_n hC dX1_expression_211 rfl ?_
      refine h_iload hC dX1_expression_212 rfl ?_
      refine h_iload hC dX1_expression_214 rfl ?_
      refine yr_callVv (As := [.int (zI x9), .int (zI y0)]) hC hr o17 hZ18 rfl (hZ18.w.o 5 (by decide)) (cm_Coder_unfit X.la d b Rx9 Ry0 hZ18.rs h19) cl_X1_283 rfl rfl (Nat.le_of_ble_eq_true rfl) (hFr_of (by omega) (Nat.le_of_ble_eq_true rfl)) dX1_expression_216 (fun A21 u22 S23 o25 hZ26 h27 => ?_)
      refine h_goto (tgt := 287) hC dX1_expression_219 (by decide) ?_
      refine h_iload hC dX1_expression_287 rfl ?_
      refine h_istore (lv' := [some (.ref (gO' Y 5)), none, some (.int (zI x2)), some (.int (zI x3)), some (.int (zI x4)), some (.int (zI x7)), some (.int (zI x6)), some (.int (zI x7)), none, some (.int (zI x9)), some (.int (zI y0))]) hC dX1_expression_289 (Nat.le_of_ble_eq_true rfl) rfl rfl ?_
      refine yr_iinc (x := x6) (lv' := [some (.ref (gO' Y 5)), none, some (.int (zI x2)), some (.int (zI x3)), some (.int (zI x4)), some (.int (zI x7)), some (.int (zI (x6 + 1))), some (.int (zI x7)), none, some (.int (zI x9)), some (.int (zI y0))]) hC dX1_expression_291 rfl rfl rfl ?_
      refine h_goto (tgt := 16) hC dX1_expression_294 (by decide) ?_
      obtain ⟨o28, h29⟩ := h27
      refine h_lv (lv' := [some (.ref (gO' Y 5)), none, some (.int (zI x2)), some (.int (zI x3)), some (.int (zI x4)), some (.int (zI x7)), some (.int (zI (x6 + 1))), none, none, none, none]) ⟨rfl, rfl, rfl, rfl, rfl, rfl, trivial⟩ ?_
      exact hk16 _ _ _ _ _ _ _ _ Rx2 Rx3 Rx4 Rx7 o28 o25 hZ26 h29
    clear h11
    exact yr_lokAt (v := 34) hC dX1_expression_110 R5 (by decide) g9 rfl (by decide) T10
  · skip
    by_cases g30 : r1 = 35
    · have h32 := (h8.2.1) g30
      have T31 : yG X d b (yQv X d b Y c F0 S0 mc ms Q) u3 239 [some (.ref (gO' Y 5)), none, some (.int (zI x2)), some (.int (zI x3)), some (.int (zI x4)), some (.int (zI x5)), some (.int (zI x6)), some (.int (zI x7)), none, some (.int (zI x9)), some (.int (zI y0))] [] := by
        refine h_aload_n hC dX1_expression_239 rfl ?_
        refine h_iload hC dX1_expression_240 rfl ?_
        refine yr_callVv (As := [.int (zI x5)]) hC hr o6 hZ7 rfl (hZ7.w.o 5 (by decide)) (cm_Coder_table X.la d b Rx5 hZ7.rs h32) cl_X1_292 rfl rfl (Nat.le_of_ble_eq_true rfl) (hFr_of (by omega) (Nat.le_of_ble_eq_true rfl)) dX1_expression_242 (fun A34 u35 S36 o38 hZ39 h40 => ?_)
        refine h_aload_n hC dX1_expression_245 rfl ?_
        refine h_iload hC dX1_expression_246 rfl ?_
        refine h_iload hC dX1_expression_248 rfl ?_
        refine yr_callVv (As := [.int (zI x9), .int (zI y0)]) hC hr o38 hZ39 rfl (hZ39.w.o 5 (by decide)) (cm_Coder_unfit X.la d b Rx9 Ry0 hZ39.rs h40) cl_X1_283 rfl rfl (Nat.le_of_ble_eq_true rfl) (hFr_of (by omega) (Nat.le_of_ble_eq_true rfl)) dX1_expression_250 (fun A42 u43 S44 o46 hZ47 h48 => ?_)
        refine h_goto (tgt := 287) hC dX1_expression_253 (by decide) ?_
        refine h_iload hC dX1_expression_287 rfl ?_
        refine h_istore (lv' := [some (.ref (gO' Y 5)), none, some (.int (zI x2)), some (.int (zI x3)), some (.int (zI x4)), some (.int (zI x7)), some (.int (zI x6)), some (.int (zI x7)), none, some (.int (zI x9)), some (.int (zI y0))]) hC dX1_expression_289 (Nat.le_of_ble_eq_true rfl) rfl rfl ?_
        refine yr_iinc (x := x6) (lv' := [some (.ref (gO' Y 5)), none, some (.int (zI x2)), some (.int (zI x3)), some (.int (zI x4)), some (.int (zI x7)), some (.int (zI (x6 + 1))), some (.int (zI x7)), none, some (.int (zI x9)), some (.int (zI y0))]) hC dX1_expression_291 rfl rfl rfl ?_
        refine h_goto (tgt := 16) hC dX1_expression_294 (by decide) ?_
        obtain ⟨o49, h50⟩ := h48
        refine h_lv (lv' := [some (.ref (gO' Y 5)), none, some (.int (zI x2)), some (.int (zI x3)), some (.int (zI x4)), some (.int (zI x7)), some (.int (zI (x6 + 1))), none, none, none, none]) ⟨rfl, rfl, rfl, rfl, rfl, rfl, trivial⟩ ?_
        exact hk16 _ _ _ _ _ _ _ _ Rx2 Rx3 Rx4 Rx7 o49 o46 hZ47 h50
      clear h32
      exact yr_lokAt (v := 35) hC dX1_expression_110 R5 (by decide) g30 rfl (by decide) T31
    · skip
      by_cases g51 : r1 = 81
      · have h53 := (h8.2.2.1) g51
        have T52 : yG X d b (yQv X d b Y c F0 S0 mc ms Q) u3 222 [some (.ref (gO' Y 5)), none, some (.int (zI x2)), some (.int (zI x3)), some (.int (zI x4)), some (.int (zI x5)), some (.int (zI x6)), some (.int (zI x7)), none, some (.int (zI x9)), some (.int (zI y0))] [] := by
          refine h_aload_n hC dX1_expression_222 rfl ?_
          refine h_iload hC dX1_expression_223 rfl ?_
          refine yr_callVv (As := [.int (zI x5)]) hC hr o6 hZ7 rfl (hZ7.w.o 5 (by decide)) (ih.2.2.2.2.2.2.2.2.2.2.2.2.2.2.2.2 Rx5 hZ7.rs h53) cl_X1_289 rfl rfl (Nat.le_of_ble_eq_true rfl) (hFr_of (by omega) (Nat.le_of_ble_eq_true rfl)) dX1_expression_225 (fun A55 u56 S57 o59 hZ60 h61 => ?_)
          refine h_aload_n hC dX1_expression_228 rfl ?_
          refine h_iload hC dX1_expression_229 rfl ?_
          refine h_iload hC dX1_expression_231 rfl ?_
          refine yr_callVv (As := [.int (zI x9), .int (zI y0)]) hC hr o59 hZ60 rfl (hZ60.w.o 5 (by decide)) (cm_Coder_unfit X.la d b Rx9 Ry0 hZ60.rs h61) cl_X1_283 rfl rfl (Nat.le_of_ble_eq_true rfl) (hFr_of (by omega) (Nat.le_of_ble_eq_true rfl)) dX1_expression_233 (fun A63 u64 S65 o67 hZ68 h69 => ?_)
          refine h_goto (tgt := 287) hC dX1_expression_236 (by decide) ?_
          refine h_iload hC dX1_expression_287 rfl ?_
          refine h_istore (lv' := [some (.ref (gO' Y 5)), none, some (.int (zI x2)), some (.int (zI x3)), some (.int (zI x4)), some (.int (zI x7)), some (.int (zI x6)), some (.int (zI x7)), none, some (.int (zI x9)), some (.int (zI y0))]) hC dX1_expression_289 (Nat.le_of_ble_eq_true rfl) rfl rfl ?_
          refine yr_iinc (x := x6) (lv' := [some (.ref (gO' Y 5)), none, some (.int (zI x2)), some (.int (zI x3)), some (.int (zI x4)), some (.int (zI x7)), some (.int (zI (x6 + 1))), some (.int (zI x7)), none, some (.int (zI x9)), some (.int (zI y0))]) hC dX1_expression_291 rfl rfl rfl ?_
          refine h_goto (tgt := 16) hC dX1_expression_294 (by decide) ?_
          obtain ⟨o70, h71⟩ := h69
          refine h_lv (lv' := [some (.ref (gO' Y 5)), none, some (.int (zI x2)), some (.int (zI x3)), some (.int (zI x4)), some (.int (zI x7)), some (.int (zI (x6 + 1))), none, none, none, none]) ⟨rfl, rfl, rfl, rfl, rfl, rfl, trivial⟩ ?_
          exact hk16 _ _ _ _ _ _ _ _ Rx2 Rx3 Rx4 Rx7 o70 o67 hZ68 h71
        clear h53
        exact yr_lokAt (v := 81) hC dX1_expression_110 R5 (by decide) g51 rfl (by decide) T52
      · skip
        by_cases g72 : r1 = 82
        · have h74 := (h8.2.2.2.1) g72
          have T73 : yG X d b (yQv X d b Y c F0 S0 mc ms Q) u3 168 [some (.ref (gO' Y 5)), none, some (.int (zI x2)), some (.int (zI x3)), some (.int (zI x4)), some (.int (zI x5)), some (.int (zI x6)), some (.int (zI x7)), none, some (.int (zI x9)), some (.int (zI y0))] [] := by
            refine h_aload_n hC dX1_expression_168 rfl ?_
            refine h_aload_n hC dX1_expression_169 rfl ?_
            refine h_get hC fl_X1_65 (hZ7.w.o 5 (by decide)) rfl dX1_expression_170 ?_
            refine h_iload hC dX1_expression_173 rfl ?_
            refine yr_callVi (As := [.int (zI x5)]) hC hr o6 hZ7 rfl (hZ7.w.o 2 (by decide)) (cm_Tree_first X.la d b Rx5 hZ7.rs h74) cl_X1_126 rfl rfl (Nat.le_of_ble_eq_true rfl) (hFr_of (by omega) (Nat.le_of_ble_eq_true rfl)) dX1_expression_175 (fun r75 A76 u77 S78 R79 o80 hZ81 h82 => ?_)
            refine h_iload hC dX1_expression_178 rfl ?_
            refine h_iload hC dX1_expression_180 rfl ?_
            refine yr_callVv (As := [.int (zI r75), .int (zI x9), .int (zI y0)]) hC hr o80 hZ81 rfl (hZ81.w.o 5 (by decide)) (ih.2.2.2.2.2.2.2.2.2.2.2.2.1 R79 Rx9 Ry0 hZ81.rs h82) cl_X1_188 rfl rfl (Nat.le_of_ble_eq_true rfl) (hFr_of (by omega) (Nat.le_of_ble_eq_true rfl)) dX1_expression_182 (fun A84 u85 S86 o88 hZ89 h90 => ?_)
            refine h_goto (tgt := 287) hC dX1_expression_185 (by decide) ?_
            refine h_iload hC dX1_expression_287 rfl ?_
            refine h_istore (lv' := [some (.ref (gO' Y 5)), none, some (.int (zI x2)), some (.int (zI x3)), some (.int (zI x4)), some (.int (zI x7)), some (.int (zI x6)), some (.int (zI x7)), none, some (.int (zI x9)), some (.int (zI y0))]) hC dX1_expression_289 (Nat.le_of_ble_eq_true rfl) rfl rfl ?_
            refine yr_iinc (x := x6) (lv' := [some (.ref (gO' Y 5)), none, some (.int (zI x2)), some (.int (zI x3)), some (.int (zI x4)), some (.int (zI x7)), some (.int (zI (x6 + 1))), some (.int (zI x7)), none, some (.int (zI x9)), some (.int (zI y0))]) hC dX1_expression_291 rfl rfl rfl ?_
            refine h_goto (tgt := 16) hC dX1_expression_294 (by decide) ?_
            obtain ⟨o91, h92⟩ := h90
            refine h_lv (lv' := [some (.ref (gO' Y 5)), none, some (.int (zI x2)), some (.int (zI x3)), some (.int (zI x4)), some (.int (zI x7)), some (.int (zI (x6 + 1))), none, none, none, none]) ⟨rfl, rfl, rfl, rfl, rfl, rfl, trivial⟩ ?_
            exact hk16 _ _ _ _ _ _ _ _ Rx2 Rx3 Rx4 Rx7 o91 o88 hZ89 h92
          clear h74
          exact yr_lokAt (v := 82) hC dX1_expression_110 R5 (by decide) g72 rfl (by decide) T73
        · skip
          by_cases g93 : r1 = 83
          · have h95 := (h8.2.2.2.2.1) g93
            have T94 : yG X d b (yQv X d b Y c F0 S0 mc ms Q) u3 188 [some (.ref (gO' Y 5)), none, some (.int (zI x2)), some (.int (zI x3)), some (.int (zI x4)), some (.int (zI x5)), some (.int (zI x6)), some (.int (zI x7)), none, some (.int (zI x9)), some (.int (zI y0))] [] := by
              refine h_aload_n hC dX1_expression_188 rfl ?_
              refine h_iload hC dX1_expression_189 rfl ?_
              refine yr_callVv (As := [.int (zI x5)]) hC hr o6 hZ7 rfl (hZ7.w.o 5 (by decide)) (ih.2.2.2.2.2.2.2.2.2.2.2.2.2.1 Rx5 hZ7.rs h95) cl_X1_280 rfl rfl (Nat.le_of_ble_eq_true rfl) (hFr_of (by omega) (Nat.le_of_ble_eq_true rfl)) dX1_expression_191 (fun A97 u98 S99 o101 hZ102 h103 => ?_)
              refine h_aload_n hC dX1_expression_194 rfl ?_
              refine h_iload hC dX1_expression_195 rfl ?_
              refine h_iload hC dX1_expression_197 rfl ?_
              refine yr_callVv (As := [.int (zI x9), .int (zI y0)]) hC hr o101 hZ102 rfl (hZ102.w.o 5 (by decide)) (cm_Coder_unfit X.la d b Rx9 Ry0 hZ102.rs h103) cl_X1_283 rfl rfl (Nat.le_of_ble_eq_true rfl) (hFr_of (by omega) (Nat.le_of_ble_eq_true rfl)) dX1_expression_199 (fun A105 u106 S107 o109 hZ110 h111 => ?_)
              refine h_goto (tgt := 287) hC dX1_expression_202 (by decide) ?_
              refine h_iload hC dX1_expression_287 rfl ?_
              refine h_istore (lv' := [some (.ref (gO' Y 5)), none, some (.int (zI x2)), some (.int (zI x3)), some (.int (zI x4)), some (.int (zI x7)), some (.int (zI x6)), some (.int (zI x7)), none, some (.int (zI x9)), some (.int (zI y0))]) hC dX1_expression_289 (Nat.le_of_ble_eq_true rfl) rfl rfl ?_
              refine yr_iinc (x := x6) (lv' := [some (.ref (gO' Y 5)), none, some (.int (zI x2)), some (.int (zI x3)), some (.int (zI x4)), some (.int (zI x7)), some (.int (zI (x6 + 1))), some (.int (zI x7)), none, some (.int (zI x9)), some (.int (zI y0))]) hC dX1_expression_291 rfl rfl rfl ?_
              refine h_goto (tgt := 16) hC dX1_expression_294 (by decide) ?_
              obtain ⟨o112, h113⟩ := h111
              refine h_lv (lv' := [some (.ref (gO' Y 5)), none, some (.int (zI x2)), some (.int (zI x3)), some (.int (zI x4)), some (.int (zI x7)), some (.int (zI (x6 + 1))), none, none, none, none]) ⟨rfl, rfl, rfl, rfl, rfl, rfl, trivial⟩ ?_
              exact hk16 _ _ _ _ _ _ _ _ Rx2 Rx3 Rx4 Rx7 o112 o109 hZ110 h113
            clear h95
            exact yr_lokAt (v := 83) hC dX1_expression_110 R5 (by decide) g93 rfl (by decide) T94
          · skip
            by_cases g114 : r1 = 88
            · have h116 := (h8.2.2.2.2.2.1) g114
              have T115 : yG X d b (yQv X d b Y c F0 S0 mc ms Q) u3 256 [some (.ref (gO' Y 5)), none, some (.int (zI x2)), some (.int (zI x3)), some (.int (zI x4)), some (.int (zI x5)), some (.int (zI x6)), some (.int (zI x7)), none, some (.int (zI x9)), some (.int (zI y0))] [] := by
                refine h_aload_n hC dX1_expression_256 rfl ?_
                refine h_iload hC dX1_expression_257 rfl ?_
                refine h_iload hC dX1_expression_259 rfl ?_
                refine yr_callVi (As := [.int (zI x5), .int (zI x4)]) hC hr o6 hZ7 rfl (hZ7.w.o 5 (by decide)) (cm_Coder_sign X.la d b Rx5 Rx4 hZ7.rs h116) cl_X1_295 rfl rfl (Nat.le_of_ble_eq_true rfl) (hFr_of (by omega) (Nat.le_of_ble_eq_true rfl)) dX1_expression_261 (fun r117 A118 u119 S120 R121 o122 hZ123 h124 => ?_)
                refine h_istore (lv' := [some (.ref (gO' Y 5)), none, some (.int (zI x2)), some (.int (zI x3)), some (.int (zI r117)), some (.int (zI x5)), some (.int (zI x6)), some (.int (zI x7)), none, some (.int (zI x9)), some (.int (zI y0))]) hC dX1_expression_264 (Nat.le_of_ble_eq_true rfl) rfl rfl ?_
                refine h_aload_n hC dX1_expression_266 rfl ?_
                refine h_iload hC dX1_expression_267 rfl ?_
                refine h_iload hC dX1_expression_269 rfl ?_
                refine yr_callVv (As := [.int (zI x9), .int (zI y0)]) hC hr o122 hZ123 rfl (hZ123.w.o 5 (by decide)) (cm_Coder_unfit X.la d b Rx9 Ry0 hZ123.rs h124) cl_X1_283 rfl rfl (Nat.le_of_ble_eq_true rfl) (hFr_of (by omega) (Nat.le_of_ble_eq_true rfl)) dX1_expression_271 (fun A126 u127 S128 o130 hZ131 h132 => ?_)
                refine h_goto (tgt := 287) hC dX1_expression_274 (by decide) ?_
                refine h_iload hC dX1_expression_287 rfl ?_
                refine h_istore (lv' := [some (.ref (gO' Y 5)), none, some (.int (zI x2)), some (.int (zI x3)), some (.int (zI r117)), some (.int (zI x7)), some (.int (zI x6)), some (.int (zI x7)), none, some (.int (zI x9)), some (.int (zI y0))]) hC dX1_expression_289 (Nat.le_of_ble_eq_true rfl) rfl rfl ?_
                refine yr_iinc (x := x6) (lv' := [some (.ref (gO' Y 5)), none, some (.int (zI x2)), some (.int (zI x3)), some (.int (zI r117)), some (.int (zI x7)), some (.int (zI (x6 + 1))), some (.int (zI x7)), none, some (.int (zI x9)), some (.int (zI y0))]) hC dX1_expression_291 rfl rfl rfl ?_
                refine h_goto (tgt := 16) hC dX1_expression_294 (by decide) ?_
                obtain ⟨o133, h134⟩ := h132
                refine h_lv (lv' := [some (.ref (gO' Y 5)), none, some (.int (zI x2)), some (.int (zI x3)), some (.int (zI r117)), some (.int (zI x7)), some (.int (zI (x6 + 1))), none, none, none, none]) ⟨rfl, rfl, rfl, rfl, rfl, rfl, trivial⟩ ?_
                exact hk16 _ _ _ _ _ _ _ _ Rx2 Rx3 R121 Rx7 o133 o130 hZ131 h134
              clear h116
              exact yr_lokAt (v := 88) hC dX1_expression_110 R5 (by decide) g114 rfl (by decide) T115
            · skip
              have h135 := h8.2.2.2.2.2.2 g9 g30 g51 g72 g93 g114
              refine yr_lokD (tgt := 277) hC dX1_expression_110 R5 (by decide) (List.forall_mem_cons.mpr ⟨(fun q => g9 (q)), List.forall_mem_cons.mpr ⟨(fun q => g30 (q)), List.forall_mem_cons.mpr ⟨(fun q => g51 (q)), List.forall_mem_cons.mpr ⟨(fun q => g72 (q)), List.forall_mem_cons.mpr ⟨(fun q => g93 (q)), List.forall_mem_cons.mpr ⟨(fun q => g114 (q)), fun q hq => absurd hq List.not_mem_nil⟩⟩⟩⟩⟩⟩) (by decide) ?_
              refine h_aload_n hC dX1_expression_277 rfl ?_
              refine h_iload hC dX1_expression_278 rfl ?_
              refine h_iload hC dX1_expression_280 rfl ?_
              refine h_iload hC dX1_expression_282 rfl ?_
              refine yr_callVv (As := [.int (zI x5), .int (zI x9), .int (zI y0)]) hC hr o6 hZ7 rfl (hZ7.w.o 5 (by decide)) (cm_Coder_single X.la d b Rx5 Rx9 Ry0 hZ7.rs h135) cl_X1_298 rfl rfl (Nat.le_of_ble_eq_true rfl) (hFr_of (by omega) (Nat.le_of_ble_eq_true rfl)) dX1_expression_284 (fun A137 u138 S139 o141 hZ142 h143 => ?_)
              refine h_iload hC dX1_expression_287 rfl ?_
              refine h_istore (lv' := [some (.ref (gO' Y 5)), none, some (.int (zI x2)), some (.int (zI x3)), some (.int (zI x4)), some (.int (zI x7)), some (.int (zI x6)), some (.int (zI x7)), none, some (.int (zI x9)), some (.int (zI y0))]) hC dX1_expression_289 (Nat.le_of_ble_eq_true rfl) rfl rfl ?_
              refine yr_iinc (x := x6) (lv' := [some (.ref (gO' Y 5)), none, some (.int (zI x2)), some (.int (zI x3)), some (.int (zI x4)), some (.int (zI x7)), some (.int (zI (x6 + 1))), some (.int (zI x7)), none, some (.int (zI x9)), some (.int (zI y0))]) hC dX1_expression_291 rfl rfl rfl ?_
              refine h_goto (tgt := 16) hC dX1_expression_294 (by decide) ?_
              obtain ⟨o144, h145⟩ := h143
              refine h_lv (lv' := [some (.ref (gO' Y 5)), none, some (.int (zI x2)), some (.int (zI x3)), some (.int (zI x4)), some (.int (zI x7)), some (.int (zI (x6 + 1))), none, none, none, none]) ⟨rfl, rfl, rfl, rfl, rfl, rfl, trivial⟩ ?_
              exact hk16 _ _ _ _ _ _ _ _ Rx2 Rx3 Rx4 Rx7 o144 o141 hZ142 h145
set_option maxHeartbeats 4000000 in
set_option maxRecDepth 100000 in
theorem cj_Coder_expression_58 {X : gX} {d : gD} {b : Nat} {Y : gYt} {c : Nat × Nat} {F0 : gM} {S0 : gSt} {mc ms : Nat} {rec : Nat → Int → Int → Int → cS → (Int → cS → Prop) → Prop} {lv0 : Nat} (hC : gC RX1 cX1_expression 11 none "expression" (gR (630 + lv0 + 1) mc ms) d b X) (hr : hRm X b) (ih : yOkC X.la d b Y c lv0 rec) {Q : cS → Prop} {k16 : cS → Int → Int → Int → Int → Int → Prop} (hk16 : ∀ (u : hU) (S : gSt) (A0 : cS) (x2 : Int) (x3 : Int) (x4 : Int) (x5 : Int) (x6 : Int), zR x2 → zR x3 → zR x4 → zR x5 → zR x6 → yOk X b u → yZ d b Y c F0 S0 u S A0 → k16 A0 x2 x3 x4 x5 x6 → yG X d b (yQv X d b Y c F0 S0 mc ms Q) u 16 [some (.ref (gO' Y 5)), none, some (.int (zI x2)), some (.int (zI x3)), some (.int (zI x4)), some (.int (zI x5)), some (.int (zI x6)), none, none, none, none] []) {u : hU} {S : gSt} {A0 : cS} {x2 : Int} {x3 : Int} {x4 : Int} {x5 : Int} {x6 : Int} {x7 : Int} {y0 : Int} (Rx2 : zR x2) (Rx3 : zR x3) (Rx4 : zR x4) (Rx5 : zR x5) (Rx6 : zR x6) (Rx7 : zR x7) (Ry0 : zR y0) (ho : yOk X b u) (hZ : yZ d b Y c F0 S0 u S A0) (hw : wc_Coder_expression_58 rec Q k16 A0 x2 x3 x4 x5 x6 x7 y0) : yG X d b (yQv X d b Y c F0 S0 mc ms Q) u 58 [some (.ref (gO' Y 5)), none, some (.int (zI x2)), some (.int (zI x3)), some (.int (zI x4)), some (.int (zI x5)), some (.int (zI x6)), some (.int (zI x7)), none, none, none] [.int (zI y0)] := by
  unfold wc_Coder_expression_58 at hw
  refine h_istore (lv' := [some (.ref (gO' Y 5)), none, some (.int (zI x2)), some (.int (zI x3)), some (.int (zI x4)), some (.int (zI x5)), some (.int (zI x6)), some (.int (zI x7)), some (.int (zI y0)), none, none]) hC dX1_expression_58 (Nat.le_of_ble_eq_true rfl) rfl rfl ?_
  refine h_iload hC dX1_expression_60 rfl ?_
  refine yr_if_eq (tgt := 69) hC Ry0 dX1_expression_62 (by decide) (fun c1 => ?_) (fun c1 => ?_)
  · have h2 := hw.1 c1
    refine h_iload hC dX1_expression_69 rfl ?_
    refine yr_if_ne (tgt := 78) hC Rx7 dX1_expression_71 (by decide) (fun c3 => ?_) (fun c3 => ?_)
    · have h4 := h2.1 c3
      refine h_iconst (v := zI 0) hC dX1_expression_78 rfl ?_
      refine h_istore (lv' := [some (.ref (gO' Y 5)), none, some (.int (zI x2)), some (.int (zI x3)), some (.int (zI x4)), some (.int (zI x5)), some (.int (zI x6)), some (.int (zI x7)), some (.int (zI y0)), some (.int (zI 0)), none]) hC dX1_expression_79 (Nat.le_of_ble_eq_true rfl) rfl rfl ?_
      refine h_iload hC dX1_expression_81 rfl ?_
      refine yr_if_eq (tgt := 98) hC Ry0 dX1_expression_83 (by decide) (fun c5 => ?_) (fun c5 => ?_)
      · have h6 := h4.1 c5
        refine h_iload_n hC dX1_expression_98 rfl ?_
        refine h_lv (lv' := [some (.ref (gO' Y 5)), none, some (.int (zI x2)), some (.int (zI x3)), some (.int (zI x4)), some (.int (zI x5)), some (.int (zI x6)), some (.int (zI x7)), none, some (.int (zI 0)), none]) ⟨rfl, rfl, rfl, rfl, rfl, rfl, rfl, rfl, trivial⟩ ?_
        exact cj_Coder_expression_99 hC hr ih hk16 Rx2 Rx3 Rx4 Rx5 Rx6 Rx7 (by decide) Rx3 ho hZ h6
      · have h7 := h4.2 c5
        refine h_aload_n hC dX1_expression_86 rfl ?_
        refine h_get hC fl_X1_65 (hZ.w.o 5 (by decide)) rfl dX1_expression_87 ?_
        refine h_iload hC dX1_expression_90 rfl ?_
        refine yr_callVi (As := [.int (zI x7)]) hC hr ho hZ rfl (hZ.w.o 2 (by decide)) (cm_Tree_data X.la d b Rx7 hZ.rs h7) cl_X1_129 rfl rfl (Nat.le_of_ble_eq_true rfl) (hFr_of (by omega) (Nat.le_of_ble_eq_true rfl)) dX1_expression_92 (fun r8 A9 u10 S11 R12 o13 hZ14 h15 => ?_)
        refine h_goto (tgt := 99) hC dX1_expression_95 (by decide) ?_
        refine h_lv (lv' := [some (.ref (gO' Y 5)), none, some (.int (zI x2)), some (.int (zI x3)), some (.int (zI x4)), some (.int (zI x5)), some (.int (zI x6)), some (.int (zI x7)), none, some (.int (zI 0)), none]) ⟨rfl, rfl, rfl, rfl, rfl, rfl, rfl, rfl, trivial⟩ ?_
        exact cj_Coder_expression_99 hC hr ih hk16 Rx2 Rx3 Rx4 Rx5 Rx6 Rx7 (by decide) R12 o13 hZ14 h15
    · have h16 := h2.2 c3
      refine h_iload_n hC dX1_expression_74 rfl ?_
      refine h_goto (tgt := 79) hC dX1_expression_75 (by decide) ?_
      refine h_istore (lv' := [some (.ref (gO' Y 5)), none, some (.int (zI x2)), some (.int (zI x3)), some (.int (zI x4)), some (.int (zI x5)), some (.int (zI x6)), some (.int (zI x7)), some (.int (zI y0)), some (.int (zI x2)), none]) hC dX1_expression_79 (Nat.le_of_ble_eq_true rfl) rfl rfl ?_
      refine h_iload hC dX1_expression_81 rfl ?_
      refine yr_if_eq (tgt := 98) hC Ry0 dX1_expression_83 (by decide) (fun c17 => ?_) (fun c17 => ?_)
      · have h18 := h16.1 c17
        refine h_iload_n hC dX1_expression_98 rfl ?_
        refine h_lv (lv' := [some (.ref (gO' Y 5)), none, some (.int (zI x2)), some (.int (zI x3)), some (.int (zI x4)), some (.int (zI x5)), some (.int (zI x6)), some (.int (zI x7)), none, some (.int (zI x2)), none]) ⟨rfl, rfl, rfl, rfl, rfl, rfl, rfl, rfl, trivial⟩ ?_
        exact cj_Coder_expression_99 hC hr ih hk16 Rx2 Rx3 Rx4 Rx5 Rx6 Rx7 Rx2 Rx3 ho hZ h18
      · have h19 := h16.2 c17
        refine h_aload_n hC dX1_expression_86 rfl ?_
        refine h_get hC fl_X1_65 (hZ.w.o 5 (by decide)) rfl dX1_expression_87 ?_
        refine h_iload hC dX1_expression_90 rfl ?_
        refine yr_callVi (As := [.int (zI x7)]) hC hr ho hZ rfl (hZ.w.o 2 (by decide)) (cm_Tree_data X.la d b Rx7 hZ.rs h19) cl_X1_129 rfl rfl (Nat.le_of_ble_eq_true rfl) (hFr_of (by omega) (Nat.le_of_ble_eq_true rfl)) dX1_expression_92 (fun r20 A21 u22 S23 R24 o25 hZ26 h27 => ?_)
        refine h_goto (tgt := 99) hC dX1_expression_95 (by decide) ?_
        refine h_lv (lv' := [some (.ref (gO' Y 5)), none, some (.int (zI x2)), some (.int (zI x3)), some (.int (zI x4)), some (.int (zI x5)), some (.int (zI x6)), some (.int (zI x7)), none, some (.int (zI x2)), none]) ⟨rfl, rfl, rfl, rfl, rfl, rfl, rfl, rfl, trivial⟩ ?_
        exact cj_Coder_expression_99 hC hr ih hk16 Rx2 Rx3 Rx4 Rx5 Rx6 Rx7 Rx2 R24 o25 hZ26 h27
  · have h28 := hw.2 c1
    refine h_iconst (v := zI 1) hC dX1_expression_65 rfl ?_
    refine h_goto (tgt := 79) hC dX1_expression_66 (by decide) ?_
    refine h_istore (lv' := [some (.ref (gO' Y 5)), none, some (.int (zI x2)), some (.int (zI x3)), some (.int (zI x4)), some (.int (zI x5)), some (.int (zI x6)), some (.int (zI x7)), some (.int (zI y0)), some (.int (zI 1)), none]) hC dX1_expression_79 (Nat.le_of_ble_eq_true rfl) rfl rfl ?_
    refine h_iload hC dX1_expression_81 rfl ?_
    refine yr_if_eq (tgt := 98) hC Ry0 dX1_expression_83 (by decide) (fun c29 => ?_) (fun c29 => ?_)
    · have h30 := h28.1 c29
      refine h_iload_n hC dX1_expression_98 rfl ?_
      refine h_lv (lv' := [some (.ref (gO' Y 5)), none, some (.int (zI x2)), some (.int (zI x3)), some (.int (zI x4)), some (.int (zI x5)), some (.int (zI x6)), some (.int (zI x7)), none, some (.int (zI 1)), none]) ⟨rfl, rfl, rfl, rfl, rfl, rfl, rfl, rfl, trivial⟩ ?_
      exact cj_Coder_expression_99 hC hr ih hk16 Rx2 Rx3 Rx4 Rx5 Rx6 Rx7 (by decide) Rx3 ho hZ h30
    · have h31 := h28.2 c29
      refine h_aload_n hC dX1_expression_86 rfl ?_
      refine h_get hC fl_X1_65 (hZ.w.o 5 (by decide)) rfl dX1_expression_87 ?_
      refine h_iload hC dX1_expression_90 rfl ?_
      refine yr_callVi (As := [.int (zI x7)]) hC hr ho hZ rfl (hZ.w.o 2 (by decide)) (cm_Tree_data X.la d b Rx7 hZ.rs h31) cl_X1_129 rfl rfl (Nat.le_of_ble_eq_true rfl) (hFr_of (by omega) (Nat.le_of_ble_eq_true rfl)) dX1_expression_92 (fun r32 A33 u34 S35 R36 o37 hZ38 h39 => ?_)
      refine h_goto (tgt := 99) hC dX1_expression_95 (by decide) ?_
      refine h_lv (lv' := [some (.ref (gO' Y 5)), none, some (.int (zI x2)), some (.int (zI x3)), some (.int (zI x4)), some (.int (zI x5)), some (.int (zI x6)), some (.int (zI x7)), none, some (.int (zI 1)), none]) ⟨rfl, rfl, rfl, rfl, rfl, rfl, rfl, rfl, trivial⟩ ?_
      exact cj_Coder_expression_99 hC hr ih hk16 Rx2 Rx3 Rx4 Rx5 Rx6 Rx7 (by decide) R36 o37 hZ38 h39
set_option maxHeartbeats 4000000 in
set_option maxRecDepth 100000 in
theorem cb_Coder_expression_16 {X : gX} {d : gD} {b : Nat} {Y : gYt} {c : Nat × Nat} {F0 : gM} {S0 : gSt} {mc ms : Nat} {rec : Nat → Int → Int → Int → cS → (Int → cS → Prop) → Prop} {lv0 : Nat} (hC : gC RX1 cX1_expression 11 none "expression" (gR (630 + lv0 + 1) mc ms) d b X) (hr : hRm X b) (ih : yOkC X.la d b Y c lv0 rec) {Q : cS → Prop} {k16 : cS → Int → Int → Int → Int → Int → Prop} (hk16 : ∀ (u : hU) (S : gSt) (A0 : cS) (x2 : Int) (x3 : Int) (x4 : Int) (x5 : Int) (x6 : Int), zR x2 → zR x3 → zR x4 → zR x5 → zR x6 → yOk X b u → yZ d b Y c F0 S0 u S A0 → k16 A0 x2 x3 x4 x5 x6 → yG X d b (yQv X d b Y c F0 S0 mc ms Q) u 16 [some (.ref (gO' Y 5)), none, some (.int (zI x2)), some (.int (zI x3)), some (.int (zI x4)), some (.int (zI x5)), some (.int (zI x6)), none, none, none, none] []) {u : hU} {S : gSt} {A0 : cS} {x2 : Int} {x3 : Int} {x4 : Int} {x5 : Int} {x6 : Int} (Rx2 : zR x2) (Rx3 : zR x3) (Rx4 : zR x4) (Rx5 : zR x5) (Rx6 : zR x6) (ho : yOk X b u) (hZ : yZ d b Y c F0 S0 u S A0) (hw : wc_Coder_expression_16B rec Q k16 A0 x2 x3 x4 x5 x6) : yG X d b (yQv X d b Y c F0 S0 mc ms Q) u 16 [some (.ref (gO' Y 5)), none, some (.int (zI x2)), some (.int (zI x3)), some (.int (zI x4)), some (.int (zI x5)), some (.int (zI x6)), none, none, none, none] [] := by
  unfold wc_Coder_expression_16B at hw
  refine h_iload hC dX1_expression_16 rfl ?_
  refine yr_ldc (e := 1000000) hC dX1_expression_18 kw_576 (by decide) ?_
  refine yr_icmp_ge (tgt := 297) hC Rx6 (by decide) dX1_expression_20 (by decide) (fun c1 => ?_) (fun c1 => ?_)
  · have h2 := hw.1 c1
    exact yr_vret hC hr ho hZ h2 dX1_expression_297
  · have h3 := hw.2 c1
    refine h_iload hC dX1_expression_23 rfl ?_
    refine yr_if_eq (tgt := 297) hC Rx5 dX1_expression_25 (by decide) (fun c4 => ?_) (fun c4 => ?_)
    · have h5 := h3.1 c4
      exact yr_vret hC hr ho hZ h5 dX1_expression_297
    · have h6 := h3.2 c4
      refine h_aload_n hC dX1_expression_28 rfl ?_
      refine h_get hC fl_X1_65 (hZ.w.o 5 (by decide)) rfl dX1_expression_29 ?_
      refine h_iload hC dX1_expression_32 rfl ?_
      refine yr_callVi (As := [.int (zI x5)]) hC hr ho hZ rfl (hZ.w.o 2 (by decide)) (cm_Tree_next X.la d b Rx5 hZ.rs h6) cl_X1_142 rfl rfl (Nat.le_of_ble_eq_true rfl) (hFr_of (by omega) (Nat.le_of_ble_eq_true rfl)) dX1_expression_34 (fun r7 A8 u9 S10 R11 o12 hZ13 h14 => ?_)
      refine h_istore (lv' := [some (.ref (gO' Y 5)), none, some (.int (zI x2)), some (.int (zI x3)), some (.int (zI x4)), some (.int (zI x5)), some (.int (zI x6)), some (.int (zI r7)), none, none, none]) hC dX1_expression_37 (Nat.le_of_ble_eq_true rfl) rfl rfl ?_
      refine h_aload_n hC dX1_expression_39 rfl ?_
      refine h_get hC fl_X1_65 (hZ13.w.o 5 (by decide)) rfl dX1_expression_40 ?_
      refine h_iload hC dX1_expression_43 rfl ?_
      refine yr_callVi (As := [.int (zI r7)]) hC hr o12 hZ13 rfl (hZ13.w.o 2 (by decide)) (cm_Tree_kind X.la d b R11 hZ13.rs h14) cl_X1_121 rfl rfl (Nat.le_of_ble_eq_true rfl) (hFr_of (by omega) (Nat.le_of_ble_eq_true rfl)) dX1_expression_45 (fun r15 A16 u17 S18 R19 o20 hZ21 h22 => ?_)
      refine h_bipush (v := zI 86) hC dX1_expression_48 rfl ?_
      refine yr_icmp_ne (tgt := 57) hC R19 (by decide) dX1_expression_50 (by decide) (fun c23 => ?_) (fun c23 => ?_)
      · have h24 := h22.1 c23
        refine h_iconst (v := zI 0) hC dX1_expression_57 rfl ?_
        exact cj_Coder_expression_58 hC hr ih hk16 Rx2 Rx3 Rx4 Rx5 Rx6 R11 (by decide) o20 hZ21 h24
      · have h25 := h22.2 c23
        refine h_iconst (v := zI 1) hC dX1_expression_53 rfl ?_
        refine h_goto (tgt := 58) hC dX1_expression_54 (by decide) ?_
        exact cj_Coder_expression_58 hC hr ih hk16 Rx2 Rx3 Rx4 Rx5 Rx6 R11 (by decide) o20 hZ21 h25
theorem cl_Coder_expression_16 {X : gX} {d : gD} {b : Nat} {Y : gYt} {c : Nat × Nat} {F0 : gM} {S0 : gSt} {mc ms : Nat} {rec : Nat → Int → Int → Int → cS → (Int → cS → Prop) → Prop} {lv0 : Nat} (hC : gC RX1 cX1_expression 11 none "expression" (gR (630 + lv0 + 1) mc ms) d b X) (hr : hRm X b) (ih : yOkC X.la d b Y c lv0 rec) {Q : cS → Prop}   : ∀ (m : Nat) (u : hU) (S : gSt) (A0 : cS) (x2 : Int) (x3 : Int) (x4 : Int) (x5 : Int) (x6 : Int), zR x2 → zR x3 → zR x4 → zR x5 → zR x6 → yOk X b u → yZ d b Y c F0 S0 u S A0 → wc_Coder_expression_16 rec Q  m A0 x2 x3 x4 x5 x6 → yG X d b (yQv X d b Y c F0 S0 mc ms Q) u 16 [some (.ref (gO' Y 5)), none, some (.int (zI x2)), some (.int (zI x3)), some (.int (zI x4)), some (.int (zI x5)), some (.int (zI x6)), none, none, none, none] [] := by
  intro m
  induction m with
  | zero => intro u S A0 x2 x3 x4 x5 x6 Rx2 Rx3 Rx4 Rx5 Rx6 ho hZ hw; exact False.elim hw
  | succ m ihm => intro u S A0 x2 x3 x4 x5 x6 Rx2 Rx3 Rx4 Rx5 Rx6 ho hZ hw; exact cb_Coder_expression_16 hC hr ih  ihm Rx2 Rx3 Rx4 Rx5 Rx6 ho hZ hw
set_option maxHeartbeats 4000000 in
set_option maxRecDepth 100000 in
theorem cm_Coder_expression (l : Launch) (d : gD) (b : Nat) {Y : gYt} {c : Nat × Nat} {F : gM} {k n : Nat} {S : gSt} {A0 : cS} {rec : Nat → Int → Int → Int → cS → (Int → cS → Prop) → Prop} {lv0 : Nat} (ih : yOkC l d b Y c lv0 rec) {a0 : Int} {a1 : Int} {a2 : Int} (Ra0 : zR a0) (Ra1 : zR a1) (Ra2 : zR a2) {Q : cS → Prop} (hZ : yZ d b Y c F S (F, k, n) S A0) (hw : wc_Coder_expression rec A0 a0 a1 a2 Q) : hMv l d b yX1_expression cX1_expression 11 (630 + lv0 + 1) k n F [.ref (gO' Y 5), .int (zI a0), .int (zI a1), .int (zI a2)] (yPv d b Y c F S Q) := by
  intro mc ms
  refine hM_of2 rfl (nL := 11) (Nat.le_of_ble_eq_true rfl) ?_
  intro X hX hC hr ho; subst hX
  show yG X d b (yQv X d b Y c F S mc ms Q) (F, k, n) 0 [some (.ref (gO' Y 5)), some (.int (zI a0)), some (.int (zI a1)), some (.int (zI a2)), none, none, none, none, none, none, none] []
  unfold wc_Coder_expression at hw
  refine h_iconst (v := zI 0) hC dX1_expression_0 rfl ?_
  refine h_istore (lv' := [some (.ref (gO' Y 5)), some (.int (zI a0)), some (.int (zI a1)), some (.int (zI a2)), some (.int (zI 0)), none, none, none, none, none, none]) hC dX1_expression_1 (Nat.le_of_ble_eq_true rfl) rfl rfl ?_
  refine h_aload_n hC dX1_expression_3 rfl ?_
  refine h_get hC fl_X1_65 (hZ.w.o 5 (by decide)) rfl dX1_expression_4 ?_
  refine h_iload_n hC dX1_expression_7 rfl ?_
  refine yr_callVi (As := [.int (zI a0)]) hC hr ho hZ rfl (hZ.w.o 2 (by decide)) (cm_Tree_first X.la d b Ra0 hZ.rs hw) cl_X1_126 rfl rfl (Nat.le_of_ble_eq_true rfl) (hFr_of (by omega) (Nat.le_of_ble_eq_true rfl)) dX1_expression_8 (fun r1 A2 u3 S4 R5 o6 hZ7 h8 => ?_)
  refine h_istore (lv' := [some (.ref (gO' Y 5)), some (.int (zI a0)), some (.int (zI a1)), some (.int (zI a2)), some (.int (zI 0)), some (.int (zI r1)), none, none, none, none, none]) hC dX1_expression_11 (Nat.le_of_ble_eq_true rfl) rfl rfl ?_
  refine h_iconst (v := zI 0) hC dX1_expression_13 rfl ?_
  refine h_istore (lv' := [some (.ref (gO' Y 5)), some (.int (zI a0)), some (.int (zI a1)), some (.int (zI a2)), some (.int (zI 0)), some (.int (zI r1)), some (.int (zI 0)), none, none, none, none]) hC dX1_expression_14 (Nat.le_of_ble_eq_true rfl) rfl rfl ?_
  refine h_lv (lv' := [some (.ref (gO' Y 5)), none, some (.int (zI a1)), some (.int (zI a2)), some (.int (zI 0)), some (.int (zI r1)), some (.int (zI 0)), none, none, none, none]) ⟨rfl, rfl, rfl, rfl, rfl, rfl, trivial⟩ ?_
  obtain ⟨m9, h10⟩ := h8
  exact cl_Coder_expression_16 hC hr ih  m9 _ _ _ _ _ _ _ _ Ra1 Ra2 (by decide) R5 (by decide) o6 hZ7 h10
theorem dX1_calls_0 : decode cX1_calls 0 = .ok (.aload_n 0, 1) := by decide +kernel
theorem dX1_calls_1 : decode cX1_calls 1 = .ok (.getfield 65, 3) := by decide +kernel
theorem dX1_calls_4 : decode cX1_calls 4 = .ok (.iload_n 1, 1) := by decide +kernel
theorem dX1_calls_5 : decode cX1_calls 5 = .ok (.invokevirtual 126, 3) := by decide +kernel
theorem dX1_calls_8 : decode cX1_calls 8 = .ok (.istore_n 2, 1) := by decide +kernel
theorem dX1_calls_9 : decode cX1_calls 9 = .ok (.iconst 0, 1) := by decide +kernel
theorem dX1_calls_10 : decode cX1_calls 10 = .ok (.istore_n 3, 1) := by decide +kernel
theorem dX1_calls_11 : decode cX1_calls 11 = .ok (.aload_n 0, 1) := by decide +kernel
theorem dX1_calls_12 : decode cX1_calls 12 = .ok (.getfield 65, 3) := by decide +kernel
theorem dX1_calls_15 : decode cX1_calls 15 = .ok (.iload_n 2, 1) := by decide +kernel
theorem dX1_calls_16 : decode cX1_calls 16 = .ok (.invokevirtual 142, 3) := by decide +kernel
theorem dX1_calls_19 : decode cX1_calls 19 = .ok (.istore 4, 2) := by decide +kernel
theorem dX1_calls_21 : decode cX1_calls 21 = .ok (.iconst 0, 1) := by decide +kernel
theorem dX1_calls_22 : decode cX1_calls 22 = .ok (.istore 5, 2) := by decide +kernel
theorem dX1_calls_24 : decode cX1_calls 24 = .ok (.iload 5, 2) := by decide +kernel
theorem dX1_calls_26 : decode cX1_calls 26 = .ok (.ldc 11, 2) := by decide +kernel
theorem dX1_calls_28 : decode cX1_calls 28 = .ok (.if_icmp .ge 28, 3) := by decide +kernel
theorem dX1_calls_31 : decode cX1_calls 31 = .ok (.iload 4, 2) := by decide +kernel
theorem dX1_calls_33 : decode cX1_calls 33 = .ok (.ifCond .eq 23, 3) := by decide +kernel
theorem dX1_calls_36 : decode cX1_calls 36 = .ok (.iinc 3 1, 3) := by decide +kernel
theorem dX1_calls_39 : decode cX1_calls 39 = .ok (.aload_n 0, 1) := by decide +kernel
theorem dX1_calls_40 : decode cX1_calls 40 = .ok (.getfield 65, 3) := by decide +kernel
theorem dX1_calls_43 : decode cX1_calls 43 = .ok (.iload 4, 2) := by decide +kernel
theorem dX1_calls_45 : decode cX1_calls 45 = .ok (.invokevirtual 142, 3) := by decide +kernel
theorem dX1_calls_48 : decode cX1_calls 48 = .ok (.istore 4, 2) := by decide +kernel
theorem dX1_calls_50 : decode cX1_calls 50 = .ok (.iinc 5 1, 3) := by decide +kernel
theorem dX1_calls_53 : decode cX1_calls 53 = .ok (.goto (-29), 3) := by decide +kernel
theorem dX1_calls_56 : decode cX1_calls 56 = .ok (.iload_n 3, 1) := by decide +kernel
theorem dX1_calls_57 : decode cX1_calls 57 = .ok (.istore 5, 2) := by decide +kernel
theorem dX1_calls_59 : decode cX1_calls 59 = .ok (.iload 5, 2) := by decide +kernel
theorem dX1_calls_61 : decode cX1_calls 61 = .ok (.ifCond .le 16, 3) := by decide +kernel
theorem dX1_calls_64 : decode cX1_calls 64 = .ok (.aload_n 0, 1) := by decide +kernel
theorem dX1_calls_65 : decode cX1_calls 65 = .ok (.iload_n 1, 1) := by decide +kernel
theorem dX1_calls_66 : decode cX1_calls 66 = .ok (.iload 5, 2) := by decide +kernel
theorem dX1_calls_68 : decode cX1_calls 68 = .ok (.invokevirtual 301, 3) := by decide +kernel
theorem dX1_calls_71 : decode cX1_calls 71 = .ok (.iinc 5 (-1), 3) := by decide +kernel
theorem dX1_calls_74 : decode cX1_calls 74 = .ok (.goto (-15), 3) := by decide +kernel
theorem dX1_calls_77 : decode cX1_calls 77 = .ok (.aload_n 0, 1) := by decide +kernel
theorem dX1_calls_78 : decode cX1_calls 78 = .ok (.iload_n 2, 1) := by decide +kernel
theorem dX1_calls_79 : decode cX1_calls 79 = .ok (.iconst 0, 1) := by decide +kernel
theorem dX1_calls_80 : decode cX1_calls 80 = .ok (.iconst 0, 1) := by decide +kernel
theorem dX1_calls_81 : decode cX1_calls 81 = .ok (.invokevirtual 188, 3) := by decide +kernel
theorem dX1_calls_84 : decode cX1_calls 84 = .ok (.aload_n 0, 1) := by decide +kernel
theorem dX1_calls_85 : decode cX1_calls 85 = .ok (.getfield 65, 3) := by decide +kernel
theorem dX1_calls_88 : decode cX1_calls 88 = .ok (.iload_n 2, 1) := by decide +kernel
theorem dX1_calls_89 : decode cX1_calls 89 = .ok (.invokevirtual 142, 3) := by decide +kernel
theorem dX1_calls_92 : decode cX1_calls 92 = .ok (.istore 4, 2) := by decide +kernel
theorem dX1_calls_94 : decode cX1_calls 94 = .ok (.iconst 0, 1) := by decide +kernel
theorem dX1_calls_95 : decode cX1_calls 95 = .ok (.istore 5, 2) := by decide +kernel
theorem dX1_calls_97 : decode cX1_calls 97 = .ok (.iload 5, 2) := by decide +kernel
theorem dX1_calls_99 : decode cX1_calls 99 = .ok (.iload_n 3, 1) := by decide +kernel
theorem dX1_calls_100 : decode cX1_calls 100 = .ok (.if_icmp .ge 44, 3) := by decide +kernel
theorem dX1_calls_103 : decode cX1_calls 103 = .ok (.aload_n 0, 1) := by decide +kernel
theorem dX1_calls_104 : decode cX1_calls 104 = .ok (.bipush 19, 2) := by decide +kernel
theorem dX1_calls_106 : decode cX1_calls 106 = .ok (.aload_n 0, 1) := by decide +kernel
theorem dX1_calls_107 : decode cX1_calls 107 = .ok (.getfield 46, 3) := by decide +kernel
theorem dX1_calls_110 : decode cX1_calls 110 = .ok (.bipush 32, 2) := by decide +kernel
theorem dX1_calls_112 : decode cX1_calls 112 = .ok (.imul, 1) := by decide +kernel
theorem dX1_calls_113 : decode cX1_calls 113 = .ok (.aload_n 0, 1) := by decide +kernel
theorem dX1_calls_114 : decode cX1_calls 114 = .ok (.getfield 65, 3) := by decide +kernel
theorem dX1_calls_117 : decode cX1_calls 117 = .ok (.iload 4, 2) := by decide +kernel
theorem dX1_calls_119 : decode cX1_calls 119 = .ok (.invokevirtual 129, 3) := by decide +kernel
theorem dX1_calls_122 : decode cX1_calls 122 = .ok (.iadd, 1) := by decide +kernel
theorem dX1_calls_123 : decode cX1_calls 123 = .ok (.invokevirtual 181, 3) := by decide +kernel
theorem dX1_calls_126 : decode cX1_calls 126 = .ok (.pop, 1) := by decide +kernel
theorem dX1_calls_127 : decode cX1_calls 127 = .ok (.aload_n 0, 1) := by decide +kernel
theorem dX1_calls_128 : decode cX1_calls 128 = .ok (.getfield 65, 3) := by decide +kernel
theorem dX1_calls_131 : decode cX1_calls 131 = .ok (.iload 4, 2) := by decide +kernel
theorem dX1_calls_133 : decode cX1_calls 133 = .ok (.invokevirtual 142, 3) := by decide +kernel
theorem dX1_calls_136 : decode cX1_calls 136 = .ok (.istore 4, 2) := by decide +kernel
theorem dX1_calls_138 : decode cX1_calls 138 = .ok (.iinc 5 1, 3) := by decide +kernel
theorem dX1_calls_141 : decode cX1_calls 141 = .ok (.goto (-44), 3) := by decide +kernel
theorem dX1_calls_144 : decode cX1_calls 144 = .ok (.return_, 1) := by decide +kernel
def wc_Coder_calls_97B (rec : Nat → Int → Int → Int → cS → (Int → cS → Prop) → Prop) (Q : cS → Prop) (k97 : cS → Int → Int → Int → Prop) (A0 : cS) (x3 : Int) (x4 : Int) (x5 : Int) : Prop :=
  ((x3 ≤ x5 → Q A0) ∧ (¬ x3 ≤ x5 → ∀ z4 : Int, z4 = zw ((yv A0 19) * 32) → zR z4 → wc_Tree_data A0 x4 (fun r8 A9 => ∀ z16 : Int, z16 = zw (z4 + r8) → zR z16 → wc_Coder_emit A9 19 z16 (fun r20 A21 => wc_Tree_next A21 x4 (fun r28 A29 => (zR (x5 + 1)) ∧ k97 A29 x3 r28 (x5 + 1))))))
def wc_Coder_calls_97 (rec : Nat → Int → Int → Int → cS → (Int → cS → Prop) → Prop) (Q : cS → Prop)  : Nat → cS → Int → Int → Int → Prop
  | 0 => fun _ _ _ _ => False
  | m + 1 => fun A0 x3 x4 x5 => wc_Coder_calls_97B rec Q  (wc_Coder_calls_97 rec Q  m) A0 x3 x4 x5
def wc_Coder_calls_59B (rec : Nat → Int → Int → Int → cS → (Int → cS → Prop) → Prop) (Q : cS → Prop) (k59 : cS → Int → Int → Int → Int → Prop) (A0 : cS) (x1 : Int) (x2 : Int) (x3 : Int) (x5 : Int) : Prop :=
  ((x5 ≤ 0 → rec 12 x2 0 0 A0 (fun _ A4 => wc_Tree_next A4 x2 (fun r11 A12 => ∃ n, wc_Coder_calls_97 rec Q  n A12 x3 r11 0))) ∧ (¬ x5 ≤ 0 → rec 14 x1 x5 0 A0 (fun _ A23 => (zR (x5 + (-1))) ∧ k59 A23 x1 x2 x3 (x5 + (-1)))))
def wc_Coder_calls_59 (rec : Nat → Int → Int → Int → cS → (Int → cS → Prop) → Prop) (Q : cS → Prop)  : Nat → cS → Int → Int → Int → Int → Prop
  | 0 => fun _ _ _ _ _ => False
  | m + 1 => fun A0 x1 x2 x3 x5 => wc_Coder_calls_59B rec Q  (wc_Coder_calls_59 rec Q  m) A0 x1 x2 x3 x5
def wc_Coder_calls_24B (rec : Nat → Int → Int → Int → cS → (Int → cS → Prop) → Prop) (Q : cS → Prop) (k24 : cS → Int → Int → Int → Int → Int → Prop) (A0 : cS) (x1 : Int) (x2 : Int) (x3 : Int) (x4 : Int) (x5 : Int) : Prop :=
  ((1000000 ≤ x5 → ∃ n, wc_Coder_calls_59 rec Q  n A0 x1 x2 x3 x3) ∧ (¬ 1000000 ≤ x5 → ((x4 = 0 → ∃ n, wc_Coder_calls_59 rec Q  n A0 x1 x2 x3 x3) ∧ (¬ x4 = 0 → wc_Tree_next A0 x4 (fun r11 A12 => (zR (x3 + 1)) ∧ (zR (x5 + 1)) ∧ k24 A12 x1 x2 (x3 + 1) r11 (x5 + 1))))))
def wc_Coder_calls_24 (rec : Nat → Int → Int → Int → cS → (Int → cS → Prop) → Prop) (Q : cS → Prop)  : Nat → cS → Int → Int → Int → Int → Int → Prop
  | 0 => fun _ _ _ _ _ _ => False
  | m + 1 => fun A0 x1 x2 x3 x4 x5 => wc_Coder_calls_24B rec Q  (wc_Coder_calls_24 rec Q  m) A0 x1 x2 x3 x4 x5
def wc_Coder_calls (rec : Nat → Int → Int → Int → cS → (Int → cS → Prop) → Prop) (A0 : cS) (a0 : Int) (Q : cS → Prop) : Prop :=
  wc_Tree_first A0 a0 (fun r1 A2 => wc_Tree_next A2 r1 (fun r9 A10 => ∃ n, wc_Coder_calls_24 rec Q  n A10 a0 r1 0 r9 0))
set_option maxHeartbeats 4000000 in
set_option maxRecDepth 100000 in
theorem cb_Coder_calls_97 {X : gX} {d : gD} {b : Nat} {Y : gYt} {c : Nat × Nat} {F0 : gM} {S0 : gSt} {mc ms : Nat} {rec : Nat → Int → Int → Int → cS → (Int → cS → Prop) → Prop} {lv0 : Nat} (hC : gC RX1 cX1_calls 6 none "calls" (gR (630 + lv0 + 1) mc ms) d b X) (hr : hRm X b) (ih : yOkC X.la d b Y c lv0 rec) {Q : cS → Prop} {k97 : cS → Int → Int → Int → Prop} (hk97 : ∀ (u : hU) (S : gSt) (A0 : cS) (x3 : Int) (x4 : Int) (x5 : Int), zR x3 → zR x4 → zR x5 → yOk X b u → yZ d b Y c F0 S0 u S A0 → k97 A0 x3 x4 x5 → yG X d b (yQv X d b Y c F0 S0 mc ms Q) u 97 [some (.ref (gO' Y 5)), none, none, some (.int (zI x3)), some (.int (zI x4)), some (.int (zI x5))] []) {u : hU} {S : gSt} {A0 : cS} {x3 : Int} {x4 : Int} {x5 : Int} (Rx3 : zR x3) (Rx4 : zR x4) (Rx5 : zR x5) (ho : yOk X b u) (hZ : yZ d b Y c F0 S0 u S A0) (hw : wc_Coder_calls_97B rec Q k97 A0 x3 x4 x5) : yG X d b (yQv X d b Y c F0 S0 mc ms Q) u 97 [some (.ref (gO' Y 5)), none, none, some (.int (zI x3)), some (.int (zI x4)), some (.int (zI x5))] [] := by
  unfold wc_Coder_calls_97B at hw
  refine h_iload hC dX1_calls_97 rfl ?_
  refine h_iload_n hC dX1_calls_99 rfl ?_
  refine yr_icmp_ge (tgt := 144) hC Rx5 Rx3 dX1_calls_100 (by decide) (fun c1 => ?_) (fun c1 => ?_)
  · have h2 := hw.1 c1
    exact yr_vret hC hr ho hZ h2 dX1_calls_144
  · have h3 := hw.2 c1
    refine h_aload_n hC dX1_calls_103 rfl ?_
    refine h_bipush (v := zI 19) hC dX1_calls_104 rfl ?_
    refine h_aload_n hC dX1_calls_106 rfl ?_
    refine h_get hC fl_X1_46 (hZ.w.o 5 (by decide)) rfl dX1_calls_107 ?_
    refine yr_sv (e := (yv A0 19)) hZ 19 rfl ?_
    refine h_bipush (v := zI 32) hC dX1_calls_110 rfl ?_
    refine yr_imul hC dX1_calls_112 ?_
    refine yr_w (fun z4 e5 R6 => ?_)
    have h7 := h3 z4 e5 R6
    refine h_aload_n hC dX1_calls_113 rfl ?_
    refine h_get hC fl_X1_65 (hZ.w.o 5 (by decide)) rfl dX1_calls_114 ?_
    refine h_iload hC dX1_calls_117 rfl ?_
    refine yr_callVi (As := [.int (zI x4)]) hC hr ho hZ rfl (hZ.w.o 2 (by decide)) (cm_Tree_data X.la d b Rx4 hZ.rs h7) cl_X1_129 rfl rfl (Nat.le_of_ble_eq_true rfl) (hFr_of (by omega) (Nat.le_of_ble_eq_true rfl)) dX1_calls_119 (fun r8 A9 u10 S11 R12 o13 hZ14 h15 => ?_)
    refine yr_iadd hC dX1_calls_122 ?_
    refine yr_w (fun z16 e17 R18 => ?_)
    have h19 := h15 z16 e17 R18
    refine yr_callVi (As := [.int (zI 19), .int (zI z16)]) hC hr o13 hZ14 rfl (hZ14.w.o 5 (by decide)) (cm_Coder_emit X.la d b (by decide) R18 hZ14.rs h19) cl_X1_181 rfl rfl (Nat.le_of_ble_eq_true rfl) (hFr_of (by omega) (Nat.le_of_ble_eq_true rfl)) dX1_calls_123 (fun r20 A21 u22 S23 R24 o25 hZ26 h27 => ?_)
    refine h_pop hC dX1_calls_126 rfl ?_
    refine h_aload_n hC dX1_calls_127 rfl ?_
    refine h_get hC fl_X1_65 (hZ26.w.o 5 (by decide)) rfl dX1_calls_128 ?_
    refine h_iload hC dX1_calls_131 rfl ?_
    refine yr_callVi (As := [.int (zI x4)]) hC hr o25 hZ26 rfl (hZ26.w.o 2 (by decide)) (cm_Tree_next X.la d b Rx4 hZ26.rs h27) cl_X1_142 rfl rfl (Nat.le_of_ble_eq_true rfl) (hFr_of (by omega) (Nat.le_of_ble_eq_true rfl)) dX1_calls_133 (fun r28 A29 u30 S31 R32 o33 hZ34 h35 => ?_)
    refine h_istore (lv' := [some (.ref (gO' Y 5)), none, none, some (.int (zI x3)), some (.int (zI r28)), some (.int (zI x5))]) hC dX1_calls_136 (Nat.le_of_ble_eq_true rfl) rfl rfl ?_
    refine yr_iinc (x := x5) (lv' := [some (.ref (gO' Y 5)), none, none, some (.int (zI x3)), some (.int (zI r28)), some (.int (zI (x5 + 1)))]) hC dX1_calls_138 rfl rfl rfl ?_
    refine h_goto (tgt := 97) hC dX1_calls_141 (by decide) ?_
    obtain ⟨o36, h37⟩ := h35
    exact hk97 _ _ _ _ _ _ Rx3 R32 o36 o33 hZ34 h37
theorem cl_Coder_calls_97 {X : gX} {d : gD} {b : Nat} {Y : gYt} {c : Nat × Nat} {F0 : gM} {S0 : gSt} {mc ms : Nat} {rec : Nat → Int → Int → Int → cS → (Int → cS → Prop) → Prop} {lv0 : Nat} (hC : gC RX1 cX1_calls 6 none "calls" (gR (630 + lv0 + 1) mc ms) d b X) (hr : hRm X b) (ih : yOkC X.la d b Y c lv0 rec) {Q : cS → Prop}   : ∀ (m : Nat) (u : hU) (S : gSt) (A0 : cS) (x3 : Int) (x4 : Int) (x5 : Int), zR x3 → zR x4 → zR x5 → yOk X b u → yZ d b Y c F0 S0 u S A0 → wc_Coder_calls_97 rec Q  m A0 x3 x4 x5 → yG X d b (yQv X d b Y c F0 S0 mc ms Q) u 97 [some (.ref (gO' Y 5)), none, none, some (.int (zI x3)), some (.int (zI x4)), some (.int (zI x5))] [] := by
  intro m
  induction m with
  | zero => intro u S A0 x3 x4 x5 Rx3 Rx4 Rx5 ho hZ hw; exact False.elim hw
  | succ m ihm => intro u S A0 x3 x4 x5 Rx3 Rx4 Rx5 ho hZ hw; exact cb_Coder_calls_97 hC hr ih  ihm Rx3 Rx4 Rx5 ho hZ hw
set_option maxHeartbeats 4000000 in
set_option maxRecDepth 100000 in
theorem cb_Coder_calls_59 {X : gX} {d : gD} {b : Nat} {Y : gYt} {c : Nat × Nat} {F0 : gM} {S0 : gSt} {mc ms : Nat} {rec : Nat → Int → Int → Int → cS → (Int → cS → Prop) → Prop} {lv0 : Nat} (hC : gC RX1 cX1_calls 6 none "calls" (gR (630 + lv0 + 1) mc ms) d b X) (hr : hRm X b) (ih : yOkC X.la d b Y c lv0 rec) {Q : cS → Prop} {k59 : cS → Int → Int → Int → Int → Prop} (hk59 : ∀ (u : hU) (S : gSt) (A0 : cS) (x1 : Int) (x2 : Int) (x3 : Int) (x5 : Int), zR x1 → zR x2 → zR x3 → zR x5 → yOk X b u → yZ d b Y c F0 S0 u S A0 → k59 A0 x1 x2 x3 x5 → yG X d b (yQv X d b Y c F0 S0 mc ms Q) u 59 [some (.ref (gO' Y 5)), some (.int (zI x1)), some (.int (zI x2)), some (.int (zI x3)), none, some (.int (zI x5))] []) {u : hU} {S : gSt} {A0 : cS} {x1 : Int} {x2 : Int} {x3 : Int} {x5 : Int} (Rx1 : zR x1) (Rx2 : zR x2) (Rx3 : zR x3) (Rx5 : zR x5) (ho : yOk X b u) (hZ : yZ d b Y c F0 S0 u S A0) (hw : wc_Coder_calls_59B rec Q k59 A0 x1 x2 x3 x5) : yG X d b (yQv X d b Y c F0 S0 mc ms Q) u 59 [some (.ref (gO' Y 5)), some (.int (zI x1)), some (.int (zI x2)), some (.int (zI x3)), none, some (.int (zI x5))] [] := by
  unfold wc_Coder_calls_59B at hw
  refine h_iload hC dX1_calls_59 rfl ?_
  refine yr_if_le (tgt := 77) hC Rx5 dX1_calls_61 (by decide) (fun c1 => ?_) (fun c1 => ?_)
  · have h2 := hw.1 c1
    refine h_aload_n hC dX1_calls_77 rfl ?_
    refine h_iload_n hC dX1_calls_78 rfl ?_
    refine h_iconst (v := zI 0) hC dX1_calls_79 rfl ?_
    refine h_iconst (v := zI 0) hC dX1_calls_80 rfl ?_
    refine yr_callVv (As := [.int (zI x2), .int (zI 0), .int (zI 0)]) hC hr ho hZ rfl (hZ.w.o 5 (by decide)) (ih.2.2.2.2.2.2.2.2.2.2.2.2.1 Rx2 (by decide) (by decide) hZ.rs h2) cl_X1_188 rfl rfl (Nat.le_of_ble_eq_true rfl) (hFr_of (by omega) (Nat.le_of_ble_eq_true rfl)) dX1_calls_81 (fun A4 u5 S6 o8 hZ9 h10 => ?_)
    refine h_aload_n hC dX1_calls_84 rfl ?_
    refine h_get hC fl_X1_65 (hZ9.w.o 5 (by decide)) rfl dX1_calls_85 ?_
    refine h_iload_n hC dX1_calls_88 rfl ?_
    refine yr_callVi (As := [.int (zI x2)]) hC hr o8 hZ9 rfl (hZ9.w.o 2 (by decide)) (cm_Tree_next X.la d b Rx2 hZ9.rs h10) cl_X1_142 rfl rfl (Nat.le_of_ble_eq_true rfl) (hFr_of (by omega) (Nat.le_of_ble_eq_true rfl)) dX1_calls_89 (fun r11 A12 u13 S14 R15 o16 hZ17 h18 => ?_)
    refine h_istore (lv' := [some (.ref (gO' Y 5)), some (.int (zI x1)), some (.int (zI x2)), some (.int (zI x3)), some (.int (zI r11)), some (.int (zI x5))]) hC dX1_calls_92 (Nat.le_of_ble_eq_true rfl) rfl rfl ?_
    refine h_iconst (v := zI 0) hC dX1_calls_94 rfl ?_
    refine h_istore (lv' := [some (.ref (gO' Y 5)), some (.int (zI x1)), some (.int (zI x2)), some (.int (zI x3)), some (.int (zI r11)), some (.int (zI 0))]) hC dX1_calls_95 (Nat.le_of_ble_eq_true rfl) rfl rfl ?_
    refine h_lv (lv' := [some (.ref (gO' Y 5)), none, none, some (.int (zI x3)), some (.int (zI r11)), some (.int (zI 0))]) ⟨rfl, rfl, rfl, rfl, trivial⟩ ?_
    obtain ⟨m19, h20⟩ := h18
    exact cl_Coder_calls_97 hC hr ih  m19 _ _ _ _ _ _ Rx3 R15 (by decide) o16 hZ17 h20
  · have h21 := hw.2 c1
    refine h_aload_n hC dX1_calls_64 rfl ?_
    refine h_iload_n hC dX1_calls_65 rfl ?_
    refine h_iload hC dX1_calls_66 rfl ?_
    refine yr_callVv (As := [.int (zI x1), .int (zI x5)]) hC hr ho hZ rfl (hZ.w.o 5 (by decide)) (ih.2.2.2.2.2.2.2.2.2.2.2.2.2.2.1 Rx1 Rx5 hZ.rs h21) cl_X1_301 rfl rfl (Nat.le_of_ble_eq_true rfl) (hFr_of (by omega) (Nat.le_of_ble_eq_true rfl)) dX1_calls_68 (fun A23 u24 S25 o27 hZ28 h29 => ?_)
    refine yr_iinc (x := x5) (lv' := [some (.ref (gO' Y 5)), some (.int (zI x1)), some (.int (zI x2)), some (.int (zI x3)), none, some (.int (zI (x5 + (-1))))]) hC dX1_calls_71 rfl rfl rfl ?_
    refine h_goto (tgt := 59) hC dX1_calls_74 (by decide) ?_
    obtain ⟨o30, h31⟩ := h29
    exact hk59 _ _ _ _ _ _ _ Rx1 Rx2 Rx3 o30 o27 hZ28 h31
theorem cl_Coder_calls_59 {X : gX} {d : gD} {b : Nat} {Y : gYt} {c : Nat × Nat} {F0 : gM} {S0 : gSt} {mc ms : Nat} {rec : Nat → Int → Int → Int → cS → (Int → cS → Prop) → Prop} {lv0 : Nat} (hC : gC RX1 cX1_calls 6 none "calls" (gR (630 + lv0 + 1) mc ms) d b X) (hr : hRm X b) (ih : yOkC X.la d b Y c lv0 rec) {Q : cS → Prop}   : ∀ (m : Nat) (u : hU) (S : gSt) (A0 : cS) (x1 : Int) (x2 : Int) (x3 : Int) (x5 : Int), zR x1 → zR x2 → zR x3 → zR x5 → yOk X b u → yZ d b Y c F0 S0 u S A0 → wc_Coder_calls_59 rec Q  m A0 x1 x2 x3 x5 → yG X d b (yQv X d b Y c F0 S0 mc ms Q) u 59 [some (.ref (gO' Y 5)), some (.int (zI x1)), some (.int (zI x2)), some (.int (zI x3)), none, some (.int (zI x5))] [] := by
  intro m
  induction m with
  | zero => intro u S A0 x1 x2 x3 x5 Rx1 Rx2 Rx3 Rx5 ho hZ hw; exact False.elim hw
  | succ m ihm => intro u S A0 x1 x2 x3 x5 Rx1 Rx2 Rx3 Rx5 ho hZ hw; exact cb_Coder_calls_59 hC hr ih  ihm Rx1 Rx2 Rx3 Rx5 ho hZ hw
set_option maxHeartbeats 4000000 in
set_option maxRecDepth 100000 in
theorem cb_Coder_calls_24 {X : gX} {d : gD} {b : Nat} {Y : gYt} {c : Nat × Nat} {F0 : gM} {S0 : gSt} {mc ms : Nat} {rec : Nat → Int → Int → Int → cS → (Int → cS → Prop) → Prop} {lv0 : Nat} (hC : gC RX1 cX1_calls 6 none "calls" (gR (630 + lv0 + 1) mc ms) d b X) (hr : hRm X b) (ih : yOkC X.la d b Y c lv0 rec) {Q : cS → Prop} {k24 : cS → Int → Int → Int → Int → Int → Prop} (hk24 : ∀ (u : hU) (S : gSt) (A0 : cS) (x1 : Int) (x2 : Int) (x3 : Int) (x4 : Int) (x5 : Int), zR x1 → zR x2 → zR x3 → zR x4 → zR x5 → yOk X b u → yZ d b Y c F0 S0 u S A0 → k24 A0 x1 x2 x3 x4 x5 → yG X d b (yQv X d b Y c F0 S0 mc ms Q) u 24 [some (.ref (gO' Y 5)), some (.int (zI x1)), some (.int (zI x2)), some (.int (zI x3)), some (.int (zI x4)), some (.int (zI x5))] []) {u : hU} {S : gSt} {A0 : cS} {x1 : Int} {x2 : Int} {x3 : Int} {x4 : Int} {x5 : Int} (Rx1 : zR x1) (Rx2 : zR x2) (Rx3 : zR x3) (Rx4 : zR x4) (Rx5 : zR x5) (ho : yOk X b u) (hZ : yZ d b Y c F0 S0 u S A0) (hw : wc_Coder_calls_24B rec Q k24 A0 x1 x2 x3 x4 x5) : yG X d b (yQv X d b Y c F0 S0 mc ms Q) u 24 [some (.ref (gO' Y 5)), some (.int (zI x1)), some (.int (zI x2)), some (.int (zI x3)), some (.int (zI x4)), some (.int (zI x5))] [] := by
  unfold wc_Coder_calls_24B at hw
  refine h_iload hC dX1_calls_24 rfl ?_
  refine yr_ldc (e := 1000000) hC dX1_calls_26 kw_576 (by decide) ?_
  refine yr_icmp_ge (tgt := 56) hC Rx5 (by decide) dX1_calls_28 (by decide) (fun c1 => ?_) (fun c1 => ?_)
  · have h2 := hw.1 c1
    refine h_iload_n hC dX1_calls_56 rfl ?_
    refine h_istore (lv' := [some (.ref (gO' Y 5)), some (.int (zI x1)), some (.int (zI x2)), some (.int (zI x3)), some (.int (zI x4)), some (.int (zI x3))]) hC dX1_calls_57 (Nat.le_of_ble_eq_true rfl) rfl rfl ?_
    refine h_lv (lv' := [some (.ref (gO' Y 5)), some (.int (zI x1)), some (.int (zI x2)), some (.int (zI x3)), none, some (.int (zI x3))]) ⟨rfl, rfl, rfl, rfl, rfl, trivial⟩ ?_
    obtain ⟨m3, h4⟩ := h2
    exact cl_Coder_calls_59 hC hr ih  m3 _ _ _ _ _ _ _ Rx1 Rx2 Rx3 Rx3 ho hZ h4
  · have h5 := hw.2 c1
    refine h_iload hC dX1_calls_31 rfl ?_
    refine yr_if_eq (tgt := 56) hC Rx4 dX1_calls_33 (by decide) (fun c6 => ?_) (fun c6 => ?_)
    · have h7 := h5.1 c6
      refine h_iload_n hC dX1_calls_56 rfl ?_
      refine h_istore (lv' := [some (.ref (gO' Y 5)), some (.int (zI x1)), some (.int (zI x2)), some (.int (zI x3)), some (.int (zI x4)), some (.int (zI x3))]) hC dX1_calls_57 (Nat.le_of_ble_eq_true rfl) rfl rfl ?_
      refine h_lv (lv' := [some (.ref (gO' Y 5)), some (.int (zI x1)), some (.int (zI x2)), some (.int (zI x3)), none, some (.int (zI x3))]) ⟨rfl, rfl, rfl, rfl, rfl, trivial⟩ ?_
      obtain ⟨m8, h9⟩ := h7
      exact cl_Coder_calls_59 hC hr ih  m8 _ _ _ _ _ _ _ Rx1 Rx2 Rx3 Rx3 ho hZ h9
    · have h10 := h5.2 c6
      refine yr_iinc (x := x3) (lv' := [some (.ref (gO' Y 5)), some (.int (zI x1)), some (.int (zI x2)), some (.int (zI (x3 + 1))), some (.int (zI x4)), some (.int (zI x5))]) hC dX1_calls_36 rfl rfl rfl ?_
      refine h_aload_n hC dX1_calls_39 rfl ?_
      refine h_get hC fl_X1_65 (hZ.w.o 5 (by decide)) rfl dX1_calls_40 ?_
      refine h_iload hC dX1_calls_43 rfl ?_
      refine yr_callVi (As := [.int (zI x4)]) hC hr ho hZ rfl (hZ.w.o 2 (by decide)) (cm_Tree_next X.la d b Rx4 hZ.rs h10) cl_X1_142 rfl rfl (Nat.le_of_ble_eq_true rfl) (hFr_of (by omega) (Nat.le_of_ble_eq_true rfl)) dX1_calls_45 (fun r11 A12 u13 S14 R15 o16 hZ17 h18 => ?_)
      refine h_istore (lv' := [some (.ref (gO' Y 5)), some (.int (zI x1)), some (.int (zI x2)), some (.int (zI (x3 + 1))), some (.int (zI r11)), some (.int (zI x5))]) hC dX1_calls_48 (Nat.le_of_ble_eq_true rfl) rfl rfl ?_
      refine yr_iinc (x := x5) (lv' := [some (.ref (gO' Y 5)), some (.int (zI x1)), some (.int (zI x2)), some (.int (zI (x3 + 1))), some (.int (zI r11)), some (.int (zI (x5 + 1)))]) hC dX1_calls_50 rfl rfl rfl ?_
      refine h_goto (tgt := 24) hC dX1_calls_53 (by decide) ?_
      obtain ⟨o19, h20⟩ := h18
      obtain ⟨o21, h22⟩ := h20
      exact hk24 _ _ _ _ _ _ _ _ Rx1 Rx2 o19 R15 o21 o16 hZ17 h22
theorem cl_Coder_calls_24 {X : gX} {d : gD} {b : Nat} {Y : gYt} {c : Nat × Nat} {F0 : gM} {S0 : gSt} {mc ms : Nat} {rec : Nat → Int → Int → Int → cS → (Int → cS → Prop) → Prop} {lv0 : Nat} (hC : gC RX1 cX1_calls 6 none "calls" (gR (630 + lv0 + 1) mc ms) d b X) (hr : hRm X b) (ih : yOkC X.la d b Y c lv0 rec) {Q : cS → Prop}   : ∀ (m : Nat) (u : hU) (S : gSt) (A0 : cS) (x1 : Int) (x2 : Int) (x3 : Int) (x4 : Int) (x5 : Int), zR x1 → zR x2 → zR x3 → zR x4 → zR x5 → yOk X b u → yZ d b Y c F0 S0 u S A0 → wc_Coder_calls_24 rec Q  m A0 x1 x2 x3 x4 x5 → yG X d b (yQv X d b Y c F0 S0 mc ms Q) u 24 [some (.ref (gO' Y 5)), some (.int (zI x1)), some (.int (zI x2)), some (.int (zI x3)), some (.int (zI x4)), some (.int (zI x5))] [] := by
  intro m
  induction m with
  | zero => intro u S A0 x1 x2 x3 x4 x5 Rx1 Rx2 Rx3 Rx4 Rx5 ho hZ hw; exact False.elim hw
  | succ m ihm => intro u S A0 x1 x2 x3 x4 x5 Rx1 Rx2 Rx3 Rx4 Rx5 ho hZ hw; exact cb_Coder_calls_24 hC hr ih  ihm Rx1 Rx2 Rx3 Rx4 Rx5 ho hZ hw
set_option maxHeartbeats 4000000 in
set_option maxRecDepth 100000 in
theorem cm_Coder_calls (l : Launch) (d : gD) (b : Nat) {Y : gYt} {c : Nat × Nat} {F : gM} {k n : Nat} {S : gSt} {A0 : cS} {rec : Nat → Int → Int → Int → cS → (Int → cS → Prop) → Prop} {lv0 : Nat} (ih : yOkC l d b Y c lv0 rec) {a0 : Int} (Ra0 : zR a0) {Q : cS → Prop} (hZ : yZ d b Y c F S (F, k, n) S A0) (hw : wc_Coder_calls rec A0 a0 Q) : hMv l d b yX1_calls cX1_calls 6 (630 + lv0 + 1) k n F [.ref (gO' Y 5), .int (zI a0)] (yPv d b Y c F S Q) := by
  intro mc ms
  refine hM_of2 rfl (nL := 6) (Nat.le_of_ble_eq_true rfl) ?_
  intro X hX hC hr ho; subst hX
  show yG X d b (yQv X d b Y c F S mc ms Q) (F, k, n) 0 [some (.ref (gO' Y 5)), some (.int (zI a0)), none, none, none, none] []
  unfold wc_Coder_calls at hw
  refine h_aload_n hC dX1_calls_0 rfl ?_
  refine h_get hC fl_X1_65 (hZ.w.o 5 (by decide)) rfl dX1_calls_1 ?_
  refine h_iload_n hC dX1_calls_4 rfl ?_
  refine yr_callVi (As := [.int (zI a0)]) hC hr ho hZ rfl (hZ.w.o 2 (by decide)) (cm_Tree_first X.la d b Ra0 hZ.rs hw) cl_X1_126 rfl rfl (Nat.le_of_ble_eq_true rfl) (hFr_of (by omega) (Nat.le_of_ble_eq_true rfl)) dX1_calls_5 (fun r1 A2 u3 S4 R5 o6 hZ7 h8 => ?_)
  refine h_istore_n (lv' := [some (.ref (gO' Y 5)), some (.int (zI a0)), some (.int (zI r1)), none, none, none]) hC dX1_calls_8 (Nat.le_of_ble_eq_true rfl) rfl rfl ?_
  refine h_iconst (v := zI 0) hC dX1_calls_9 rfl ?_
  refine h_istore_n (lv' := [some (.ref (gO' Y 5)), some (.int (zI a0)), some (.int (zI r1)), some (.int (zI 0)), none, none]) hC dX1_calls_10 (Nat.le_of_ble_eq_true rfl) rfl rfl ?_
  refine h_aload_n hC dX1_calls_11 rfl ?_
  refine h_get hC fl_X1_65 (hZ7.w.o 5 (by decide)) rfl dX1_calls_12 ?_
  refine h_iload_n hC dX1_calls_15 rfl ?_
  refine yr_callVi (As := [.int (zI r1)]) hC hr o6 hZ7 rfl (hZ7.w.o 2 (by decide)) (cm_Tree_next X.la d b R5 hZ7.rs h8) cl_X1_142 rfl rfl (Nat.le_of_ble_eq_true rfl) (hFr_of (by omega) (Nat.le_of_ble_eq_true rfl)) dX1_calls_16 (fun r9 A10 u11 S12 R13 o14 hZ15 h16 => ?_)
  refine h_istore (lv' := [some (.ref (gO' Y 5)), some (.int (zI a0)), some (.int (zI r1)), some (.int (zI 0)), some (.int (zI r9)), none]) hC dX1_calls_19 (Nat.le_of_ble_eq_true rfl) rfl rfl ?_
  refine h_iconst (v := zI 0) hC dX1_calls_21 rfl ?_
  refine h_istore (lv' := [some (.ref (gO' Y 5)), some (.int (zI a0)), some (.int (zI r1)), some (.int (zI 0)), some (.int (zI r9)), some (.int (zI 0))]) hC dX1_calls_22 (Nat.le_of_ble_eq_true rfl) rfl rfl ?_
  obtain ⟨m17, h18⟩ := h16
  exact cl_Coder_calls_24 hC hr ih  m17 _ _ _ _ _ _ _ _ Ra0 R5 (by decide) R13 (by decide) o14 hZ15 h18
theorem dX1_arguments_0 : decode cX1_arguments 0 = .ok (.aload_n 0, 1) := by decide +kernel
theorem dX1_arguments_1 : decode cX1_arguments 1 = .ok (.getfield 65, 3) := by decide +kernel
theorem dX1_arguments_4 : decode cX1_arguments 4 = .ok (.iload_n 1, 1) := by decide +kernel
theorem dX1_arguments_5 : decode cX1_arguments 5 = .ok (.invokevirtual 126, 3) := by decide +kernel
theorem dX1_arguments_8 : decode cX1_arguments 8 = .ok (.istore_n 3, 1) := by decide +kernel
theorem dX1_arguments_9 : decode cX1_arguments 9 = .ok (.iconst 0, 1) := by decide +kernel
theorem dX1_arguments_10 : decode cX1_arguments 10 = .ok (.istore 4, 2) := by decide +kernel
theorem dX1_arguments_12 : decode cX1_arguments 12 = .ok (.iload 4, 2) := by decide +kernel
theorem dX1_arguments_14 : decode cX1_arguments 14 = .ok (.iload_n 2, 1) := by decide +kernel
theorem dX1_arguments_15 : decode cX1_arguments 15 = .ok (.if_icmp .ge 18, 3) := by decide +kernel
theorem dX1_arguments_18 : decode cX1_arguments 18 = .ok (.aload_n 0, 1) := by decide +kernel
theorem dX1_arguments_19 : decode cX1_arguments 19 = .ok (.getfield 65, 3) := by decide +kernel
theorem dX1_arguments_22 : decode cX1_arguments 22 = .ok (.iload_n 3, 1) := by decide +kernel
theorem dX1_arguments_23 : decode cX1_arguments 23 = .ok (.invokevirtual 142, 3) := by decide +kernel
theorem dX1_arguments_26 : decode cX1_arguments 26 = .ok (.istore_n 3, 1) := by decide +kernel
theorem dX1_arguments_27 : decode cX1_arguments 27 = .ok (.iinc 4 1, 3) := by decide +kernel
theorem dX1_arguments_30 : decode cX1_arguments 30 = .ok (.goto (-18), 3) := by decide +kernel
theorem dX1_arguments_33 : decode cX1_arguments 33 = .ok (.aload_n 0, 1) := by decide +kernel
theorem dX1_arguments_34 : decode cX1_arguments 34 = .ok (.getfield 65, 3) := by decide +kernel
theorem dX1_arguments_37 : decode cX1_arguments 37 = .ok (.iload_n 3, 1) := by decide +kernel
theorem dX1_arguments_38 : decode cX1_arguments 38 = .ok (.invokevirtual 126, 3) := by decide +kernel
theorem dX1_arguments_41 : decode cX1_arguments 41 = .ok (.istore 4, 2) := by decide +kernel
theorem dX1_arguments_43 : decode cX1_arguments 43 = .ok (.iconst 0, 1) := by decide +kernel
theorem dX1_arguments_44 : decode cX1_arguments 44 = .ok (.istore 5, 2) := by decide +kernel
theorem dX1_arguments_46 : decode cX1_arguments 46 = .ok (.iload 5, 2) := by decide +kernel
theorem dX1_arguments_48 : decode cX1_arguments 48 = .ok (.bipush 20, 2) := by decide +kernel
theorem dX1_arguments_50 : decode cX1_arguments 50 = .ok (.if_icmp .ge 33, 3) := by decide +kernel
theorem dX1_arguments_53 : decode cX1_arguments 53 = .ok (.iload 4, 2) := by decide +kernel
theorem dX1_arguments_55 : decode cX1_arguments 55 = .ok (.ifCond .eq 28, 3) := by decide +kernel
theorem dX1_arguments_58 : decode cX1_arguments 58 = .ok (.aload_n 0, 1) := by decide +kernel
theorem dX1_arguments_59 : decode cX1_arguments 59 = .ok (.iload 4, 2) := by decide +kernel
theorem dX1_arguments_61 : decode cX1_arguments 61 = .ok (.iconst 0, 1) := by decide +kernel
theorem dX1_arguments_62 : decode cX1_arguments 62 = .ok (.iconst 0, 1) := by decide +kernel
theorem dX1_arguments_63 : decode cX1_arguments 63 = .ok (.invokevirtual 188, 3) := by decide +kernel
theorem dX1_arguments_66 : decode cX1_arguments 66 = .ok (.aload_n 0, 1) := by decide +kernel
theorem dX1_arguments_67 : decode cX1_arguments 67 = .ok (.getfield 65, 3) := by decide +kernel
theorem dX1_arguments_70 : decode cX1_arguments 70 = .ok (.iload 4, 2) := by decide +kernel
theorem dX1_arguments_72 : decode cX1_arguments 72 = .ok (.invokevirtual 142, 3) := by decide +kernel
theorem dX1_arguments_75 : decode cX1_arguments 75 = .ok (.istore 4, 2) := by decide +kernel
theorem dX1_arguments_77 : decode cX1_arguments 77 = .ok (.iinc 5 1, 3) := by decide +kernel
theorem dX1_arguments_80 : decode cX1_arguments 80 = .ok (.goto (-34), 3) := by decide +kernel
theorem dX1_arguments_83 : decode cX1_arguments 83 = .ok (.return_, 1) := by decide +kernel
def wc_Coder_arguments_46B (rec : Nat → Int → Int → Int → cS → (Int → cS → Prop) → Prop) (Q : cS → Prop) (k46 : cS → Int → Int → Prop) (A0 : cS) (x4 : Int) (x5 : Int) : Prop :=
  ((20 ≤ x5 → Q A0) ∧ (¬ 20 ≤ x5 → ((x4 = 0 → Q A0) ∧ (¬ x4 = 0 → rec 12 x4 0 0 A0 (fun _ A8 => wc_Tree_next A8 x4 (fun r15 A16 => (zR (x5 + 1)) ∧ k46 A16 r15 (x5 + 1)))))))
def wc_Coder_arguments_46 (rec : Nat → Int → Int → Int → cS → (Int → cS → Prop) → Prop) (Q : cS → Prop)  : Nat → cS → Int → Int → Prop
  | 0 => fun _ _ _ => False
  | m + 1 => fun A0 x4 x5 => wc_Coder_arguments_46B rec Q  (wc_Coder_arguments_46 rec Q  m) A0 x4 x5
def wc_Coder_arguments_12B (rec : Nat → Int → Int → Int → cS → (Int → cS → Prop) → Prop) (Q : cS → Prop) (k12 : cS → Int → Int → Int → Prop) (A0 : cS) (x2 : Int) (x3 : Int) (x4 : Int) : Prop :=
  ((x2 ≤ x4 → wc_Tree_first A0 x3 (fun r3 A4 => ∃ n, wc_Coder_arguments_46 rec Q  n A4 r3 0)) ∧ (¬ x2 ≤ x4 → wc_Tree_next A0 x3 (fun r14 A15 => (zR (x4 + 1)) ∧ k12 A15 x2 r14 (x4 + 1))))
def wc_Coder_arguments_12 (rec : Nat → Int → Int → Int → cS → (Int → cS → Prop) → Prop) (Q : cS → Prop)  : Nat → cS → Int → Int → Int → Prop
  | 0 => fun _ _ _ _ => False
  | m + 1 => fun A0 x2 x3 x4 => wc_Coder_arguments_12B rec Q  (wc_Coder_arguments_12 rec Q  m) A0 x2 x3 x4
def wc_Coder_arguments (rec : Nat → Int → Int → Int → cS → (Int → cS → Prop) → Prop) (A0 : cS) (a0 : Int) (a1 : Int) (Q : cS → Prop) : Prop :=
  wc_Tree_first A0 a0 (fun r1 A2 => ∃ n, wc_Coder_arguments_12 rec Q  n A2 a1 r1 0)
set_option maxHeartbeats 4000000 in
set_option maxRecDepth 100000 in
theorem cb_Coder_arguments_46 {X : gX} {d : gD} {b : Nat} {Y : gYt} {c : Nat × Nat} {F0 : gM} {S0 : gSt} {mc ms : Nat} {rec : Nat → Int → Int → Int → cS → (Int → cS → Prop) → Prop} {lv0 : Nat} (hC : gC RX1 cX1_arguments 6 none "arguments" (gR (630 + lv0 + 1) mc ms) d b X) (hr : hRm X b) (ih : yOkC X.la d b Y c lv0 rec) {Q : cS → Prop} {k46 : cS → Int → Int → Prop} (hk46 : ∀ (u : hU) (S : gSt) (A0 : cS) (x4 : Int) (x5 : Int), zR x4 → zR x5 → yOk X b u → yZ d b Y c F0 S0 u S A0 → k46 A0 x4 x5 → yG X d b (yQv X d b Y c F0 S0 mc ms Q) u 46 [some (.ref (gO' Y 5)), none, none, none, some (.int (zI x4)), some (.int (zI x5))] []) {u : hU} {S : gSt} {A0 : cS} {x4 : Int} {x5 : Int} (Rx4 : zR x4) (Rx5 : zR x5) (ho : yOk X b u) (hZ : yZ d b Y c F0 S0 u S A0) (hw : wc_Coder_arguments_46B rec Q k46 A0 x4 x5) : yG X d b (yQv X d b Y c F0 S0 mc ms Q) u 46 [some (.ref (gO' Y 5)), none, none, none, some (.int (zI x4)), some (.int (zI x5))] [] := by
  unfold wc_Coder_arguments_46B at hw
  refine h_iload hC dX1_arguments_46 rfl ?_
  refine h_bipush (v := zI 20) hC dX1_arguments_48 rfl ?_
  refine yr_icmp_ge (tgt := 83) hC Rx5 (by decide) dX1_arguments_50 (by decide) (fun c1 => ?_) (fun c1 => ?_)
  · have h2 := hw.1 c1
    exact yr_vret hC hr ho hZ h2 dX1_arguments_83
  · have h3 := hw.2 c1
    refine h_iload hC dX1_arguments_53 rfl ?_
    refine yr_if_eq (tgt := 83) hC Rx4 dX1_arguments_55 (by decide) (fun c4 => ?_) (fun c4 => ?_)
    · have h5 := h3.1 c4
      exact yr_vret hC hr ho hZ h5 dX1_arguments_83
    · have h6 := h3.2 c4
      refine h_aload_n hC dX1_arguments_58 rfl ?_
      refine h_iload hC dX1_arguments_59 rfl ?_
      refine h_iconst (v := zI 0) hC dX1_arguments_61 rfl ?_
      refine h_iconst (v := zI 0) hC dX1_arguments_62 rfl ?_
      refine yr_callVv (As := [.int (zI x4), .int (zI 0), .int (zI 0)]) hC hr ho hZ rfl (hZ.w.o 5 (by decide)) (ih.2.2.2.2.2.2.2.2.2.2.2.2.1 Rx4 (by decide) (by decide) hZ.rs h6) cl_X1_188 rfl rfl (Nat.le_of_ble_eq_true rfl) (hFr_of (by omega) (Nat.le_of_ble_eq_true rfl)) dX1_arguments_63 (fun A8 u9 S10 o12 hZ13 h14 => ?_)
      refine h_aload_n hC dX1_arguments_66 rfl ?_
      refine h_get hC fl_X1_65 (hZ13.w.o 5 (by decide)) rfl dX1_arguments_67 ?_
      refine h_iload hC dX1_arguments_70 rfl ?_
      refine yr_callVi (As := [.int (zI x4)]) hC hr o12 hZ13 rfl (hZ13.w.o 2 (by decide)) (cm_Tree_next X.la d b Rx4 hZ13.rs h14) cl_X1_142 rfl rfl (Nat.le_of_ble_eq_true rfl) (hFr_of (by omega) (Nat.le_of_ble_eq_true rfl)) dX1_arguments_72 (fun r15 A16 u17 S18 R19 o20 hZ21 h22 => ?_)
      refine h_istore (lv' := [some (.ref (gO' Y 5)), none, none, none, some (.int (zI r15)), some (.int (zI x5))]) hC dX1_arguments_75 (Nat.le_of_ble_eq_true rfl) rfl rfl ?_
      refine yr_iinc (x := x5) (lv' := [some (.ref (gO' Y 5)), none, none, none, some (.int (zI r15)), some (.int (zI (x5 + 1)))]) hC dX1_arguments_77 rfl rfl rfl ?_
      refine h_goto (tgt := 46) hC dX1_arguments_80 (by decide) ?_
      obtain ⟨o23, h24⟩ := h22
      exact hk46 _ _ _ _ _ R19 o23 o20 hZ21 h24
theorem cl_Coder_arguments_46 {X : gX} {d : gD} {b : Nat} {Y : gYt} {c : Nat × Nat} {F0 : gM} {S0 : gSt} {mc ms : Nat} {rec : Nat → Int → Int → Int → cS → (Int → cS → Prop) → Prop} {lv0 : Nat} (hC : gC RX1 cX1_arguments 6 none "arguments" (gR (630 + lv0 + 1) mc ms) d b X) (hr : hRm X b) (ih : yOkC X.la d b Y c lv0 rec) {Q : cS → Prop}   : ∀ (m : Nat) (u : hU) (S : gSt) (A0 : cS) (x4 : Int) (x5 : Int), zR x4 → zR x5 → yOk X b u → yZ d b Y c F0 S0 u S A0 → wc_Coder_arguments_46 rec Q  m A0 x4 x5 → yG X d b (yQv X d b Y c F0 S0 mc ms Q) u 46 [some (.ref (gO' Y 5)), none, none, none, some (.int (zI x4)), some (.int (zI x5))] [] := by
  intro m
  induction m with
  | zero => intro u S A0 x4 x5 Rx4 Rx5 ho hZ hw; exact False.elim hw
  | succ m ihm => intro u S A0 x4 x5 Rx4 Rx5 ho hZ hw; exact cb_Coder_arguments_46 hC hr ih  ihm Rx4 Rx5 ho hZ hw
set_option maxHeartbeats 4000000 in
set_option maxRecDepth 100000 in
theorem cb_Coder_arguments_12 {X : gX} {d : gD} {b : Nat} {Y : gYt} {c : Nat × Nat} {F0 : gM} {S0 : gSt} {mc ms : Nat} {rec : Nat → Int → Int → Int → cS → (Int → cS → Prop) → Prop} {lv0 : Nat} (hC : gC RX1 cX1_arguments 6 none "arguments" (gR (630 + lv0 + 1) mc ms) d b X) (hr : hRm X b) (ih : yOkC X.la d b Y c lv0 rec) {Q : cS → Prop} {k12 : cS → Int → Int → Int → Prop} (hk12 : ∀ (u : hU) (S : gSt) (A0 : cS) (x2 : Int) (x3 : Int) (x4 : Int), zR x2 → zR x3 → zR x4 → yOk X b u → yZ d b Y c F0 S0 u S A0 → k12 A0 x2 x3 x4 → yG X d b (yQv X d b Y c F0 S0 mc ms Q) u 12 [some (.ref (gO' Y 5)), none, some (.int (zI x2)), some (.int (zI x3)), some (.int (zI x4)), none] []) {u : hU} {S : gSt} {A0 : cS} {x2 : Int} {x3 : Int} {x4 : Int} (Rx2 : zR x2) (Rx3 : zR x3) (Rx4 : zR x4) (ho : yOk X b u) (hZ : yZ d b Y c F0 S0 u S A0) (hw : wc_Coder_arguments_12B rec Q k12 A0 x2 x3 x4) : yG X d b (yQv X d b Y c F0 S0 mc ms Q) u 12 [some (.ref (gO' Y 5)), none, some (.int (zI x2)), some (.int (zI x3)), some (.int (zI x4)), none] [] := by
  unfold wc_Coder_arguments_12B at hw
  refine h_iload hC dX1_arguments_12 rfl ?_
  refine h_iload_n hC dX1_arguments_14 rfl ?_
  refine yr_icmp_ge (tgt := 33) hC Rx4 Rx2 dX1_arguments_15 (by decide) (fun c1 => ?_) (fun c1 => ?_)
  · have h2 := hw.1 c1
    refine h_aload_n hC dX1_arguments_33 rfl ?_
    refine h_get hC fl_X1_65 (hZ.w.o 5 (by decide)) rfl dX1_arguments_34 ?_
    refine h_iload_n hC dX1_arguments_37 rfl ?_
    refine yr_callVi (As := [.int (zI x3)]) hC hr ho hZ rfl (hZ.w.o 2 (by decide)) (cm_Tree_first X.la d b Rx3 hZ.rs h2) cl_X1_126 rfl rfl (Nat.le_of_ble_eq_true rfl) (hFr_of (by omega) (Nat.le_of_ble_eq_true rfl)) dX1_arguments_38 (fun r3 A4 u5 S6 R7 o8 hZ9 h10 => ?_)
    refine h_istore (lv' := [some (.ref (gO' Y 5)), none, some (.int (zI x2)), some (.int (zI x3)), some (.int (zI r3)), none]) hC dX1_arguments_41 (Nat.le_of_ble_eq_true rfl) rfl rfl ?_
    refine h_iconst (v := zI 0) hC dX1_arguments_43 rfl ?_
    refine h_istore (lv' := [some (.ref (gO' Y 5)), none, some (.int (zI x2)), some (.int (zI x3)), some (.int (zI r3)), some (.int (zI 0))]) hC dX1_arguments_44 (Nat.le_of_ble_eq_true rfl) rfl rfl ?_
    refine h_lv (lv' := [some (.ref (gO' Y 5)), none, none, none, some (.int (zI r3)), some (.int (zI 0))]) ⟨rfl, rfl, rfl, trivial⟩ ?_
    obtain ⟨m11, h12⟩ := h10
    exact cl_Coder_arguments_46 hC hr ih  m11 _ _ _ _ _ R7 (by decide) o8 hZ9 h12
  · have h13 := hw.2 c1
    refine h_aload_n hC dX1_arguments_18 rfl ?_
    refine h_get hC fl_X1_65 (hZ.w.o 5 (by decide)) rfl dX1_arguments_19 ?_
    refine h_iload_n hC dX1_arguments_22 rfl ?_
    refine yr_callVi (As := [.int (zI x3)]) hC hr ho hZ rfl (hZ.w.o 2 (by decide)) (cm_Tree_next X.la d b Rx3 hZ.rs h13) cl_X1_142 rfl rfl (Nat.le_of_ble_eq_true rfl) (hFr_of (by omega) (Nat.le_of_ble_eq_true rfl)) dX1_arguments_23 (fun r14 A15 u16 S17 R18 o19 hZ20 h21 => ?_)
    refine h_istore_n (lv' := [some (.ref (gO' Y 5)), none, some (.int (zI x2)), some (.int (zI r14)), some (.int (zI x4)), none]) hC dX1_arguments_26 (Nat.le_of_ble_eq_true rfl) rfl rfl ?_
    refine yr_iinc (x := x4) (lv' := [some (.ref (gO' Y 5)), none, some (.int (zI x2)), some (.int (zI r14)), some (.int (zI (x4 + 1))), none]) hC dX1_arguments_27 rfl rfl rfl ?_
    refine h_goto (tgt := 12) hC dX1_arguments_30 (by decide) ?_
    obtain ⟨o22, h23⟩ := h21
    exact hk12 _ _ _ _ _ _ Rx2 R18 o22 o19 hZ20 h23
theorem cl_Coder_arguments_12 {X : gX} {d : gD} {b : Nat} {Y : gYt} {c : Nat × Nat} {F0 : gM} {S0 : gSt} {mc ms : Nat} {rec : Nat → Int → Int → Int → cS → (Int → cS → Prop) → Prop} {lv0 : Nat} (hC : gC RX1 cX1_arguments 6 none "arguments" (gR (630 + lv0 + 1) mc ms) d b X) (hr : hRm X b) (ih : yOkC X.la d b Y c lv0 rec) {Q : cS → Prop}   : ∀ (m : Nat) (u : hU) (S : gSt) (A0 : cS) (x2 : Int) (x3 : Int) (x4 : Int), zR x2 → zR x3 → zR x4 → yOk X b u → yZ d b Y c F0 S0 u S A0 → wc_Coder_arguments_12 rec Q  m A0 x2 x3 x4 → yG X d b (yQv X d b Y c F0 S0 mc ms Q) u 12 [some (.ref (gO' Y 5)), none, some (.int (zI x2)), some (.int (zI x3)), some (.int (zI x4)), none] [] := by
  intro m
  induction m with
  | zero => intro u S A0 x2 x3 x4 Rx2 Rx3 Rx4 ho hZ hw; exact False.elim hw
  | succ m ihm => intro u S A0 x2 x3 x4 Rx2 Rx3 Rx4 ho hZ hw; exact cb_Coder_arguments_12 hC hr ih  ihm Rx2 Rx3 Rx4 ho hZ hw
set_option maxHeartbeats 4000000 in
set_option maxRecDepth 100000 in
theorem cm_Coder_arguments (l : Launch) (d : gD) (b : Nat) {Y : gYt} {c : Nat × Nat} {F : gM} {k n : Nat} {S : gSt} {A0 : cS} {rec : Nat → Int → Int → Int → cS → (Int → cS → Prop) → Prop} {lv0 : Nat} (ih : yOkC l d b Y c lv0 rec) {a0 : Int} {a1 : Int} (Ra0 : zR a0) (Ra1 : zR a1) {Q : cS → Prop} (hZ : yZ d b Y c F S (F, k, n) S A0) (hw : wc_Coder_arguments rec A0 a0 a1 Q) : hMv l d b yX1_arguments cX1_arguments 6 (630 + lv0 + 1) k n F [.ref (gO' Y 5), .int (zI a0), .int (zI a1)] (yPv d b Y c F S Q) := by
  intro mc ms
  refine hM_of2 rfl (nL := 6) (Nat.le_of_ble_eq_true rfl) ?_
  intro X hX hC hr ho; subst hX
  show yG X d b (yQv X d b Y c F S mc ms Q) (F, k, n) 0 [some (.ref (gO' Y 5)), some (.int (zI a0)), some (.int (zI a1)), none, none, none] []
  unfold wc_Coder_arguments at hw
  refine h_aload_n hC dX1_arguments_0 rfl ?_
  refine h_get hC fl_X1_65 (hZ.w.o 5 (by decide)) rfl dX1_arguments_1 ?_
  refine h_iload_n hC dX1_arguments_4 rfl ?_
  refine yr_callVi (As := [.int (zI a0)]) hC hr ho hZ rfl (hZ.w.o 2 (by decide)) (cm_Tree_first X.la d b Ra0 hZ.rs hw) cl_X1_126 rfl rfl (Nat.le_of_ble_eq_true rfl) (hFr_of (by omega) (Nat.le_of_ble_eq_true rfl)) dX1_arguments_5 (fun r1 A2 u3 S4 R5 o6 hZ7 h8 => ?_)
  refine h_istore_n (lv' := [some (.ref (gO' Y 5)), some (.int (zI a0)), some (.int (zI a1)), some (.int (zI r1)), none, none]) hC dX1_arguments_8 (Nat.le_of_ble_eq_true rfl) rfl rfl ?_
  refine h_iconst (v := zI 0) hC dX1_arguments_9 rfl ?_
  refine h_istore (lv' := [some (.ref (gO' Y 5)), some (.int (zI a0)), some (.int (zI a1)), some (.int (zI r1)), some (.int (zI 0)), none]) hC dX1_arguments_10 (Nat.le_of_ble_eq_true rfl) rfl rfl ?_
  refine h_lv (lv' := [some (.ref (gO' Y 5)), none, some (.int (zI a1)), some (.int (zI r1)), some (.int (zI 0)), none]) ⟨rfl, rfl, rfl, rfl, trivial⟩ ?_
  obtain ⟨m9, h10⟩ := h8
  exact cl_Coder_arguments_12 hC hr ih  m9 _ _ _ _ _ _ Ra1 R5 (by decide) o6 hZ7 h10
theorem dX1_valof_0 : decode cX1_valof 0 = .ok (.aload_n 0, 1) := by decide +kernel
theorem dX1_valof_1 : decode cX1_valof 1 = .ok (.getfield 27, 3) := by decide +kernel
theorem dX1_valof_4 : decode cX1_valof 4 = .ok (.istore_n 2, 1) := by decide +kernel
theorem dX1_valof_5 : decode cX1_valof 5 = .ok (.aload_n 0, 1) := by decide +kernel
theorem dX1_valof_6 : decode cX1_valof 6 = .ok (.getfield 31, 3) := by decide +kernel
theorem dX1_valof_9 : decode cX1_valof 9 = .ok (.istore_n 3, 1) := by decide +kernel
theorem dX1_valof_10 : decode cX1_valof 10 = .ok (.aload_n 0, 1) := by decide +kernel
theorem dX1_valof_11 : decode cX1_valof 11 = .ok (.getfield 34, 3) := by decide +kernel
theorem dX1_valof_14 : decode cX1_valof 14 = .ok (.istore 4, 2) := by decide +kernel
theorem dX1_valof_16 : decode cX1_valof 16 = .ok (.aload_n 0, 1) := by decide +kernel
theorem dX1_valof_17 : decode cX1_valof 17 = .ok (.getfield 37, 3) := by decide +kernel
theorem dX1_valof_20 : decode cX1_valof 20 = .ok (.istore 5, 2) := by decide +kernel
theorem dX1_valof_22 : decode cX1_valof 22 = .ok (.aload_n 0, 1) := by decide +kernel
theorem dX1_valof_23 : decode cX1_valof 23 = .ok (.getfield 55, 3) := by decide +kernel
theorem dX1_valof_26 : decode cX1_valof 26 = .ok (.istore 6, 2) := by decide +kernel
theorem dX1_valof_28 : decode cX1_valof 28 = .ok (.aload_n 0, 1) := by decide +kernel
theorem dX1_valof_29 : decode cX1_valof 29 = .ok (.invokevirtual 97, 3) := by decide +kernel
theorem dX1_valof_32 : decode cX1_valof 32 = .ok (.aload_n 0, 1) := by decide +kernel
theorem dX1_valof_33 : decode cX1_valof 33 = .ok (.iconst 0, 1) := by decide +kernel
theorem dX1_valof_34 : decode cX1_valof 34 = .ok (.putfield 37, 3) := by decide +kernel
theorem dX1_valof_37 : decode cX1_valof 37 = .ok (.aload_n 0, 1) := by decide +kernel
theorem dX1_valof_38 : decode cX1_valof 38 = .ok (.dup, 1) := by decide +kernel
theorem dX1_valof_39 : decode cX1_valof 39 = .ok (.getfield 58, 3) := by decide +kernel
theorem dX1_valof_42 : decode cX1_valof 42 = .ok (.iconst 1, 1) := by decide +kernel
theorem dX1_valof_43 : decode cX1_valof 43 = .ok (.iadd, 1) := by decide +kernel
theorem dX1_valof_44 : decode cX1_valof 44 = .ok (.putfield 58, 3) := by decide +kernel
theorem dX1_valof_47 : decode cX1_valof 47 = .ok (.aload_n 0, 1) := by decide +kernel
theorem dX1_valof_48 : decode cX1_valof 48 = .ok (.aload_n 0, 1) := by decide +kernel
theorem dX1_valof_49 : decode cX1_valof 49 = .ok (.getfield 58, 3) := by decide +kernel
theorem dX1_valof_52 : decode cX1_valof 52 = .ok (.putfield 55, 3) := by decide +kernel
theorem dX1_valof_55 : decode cX1_valof 55 = .ok (.aload_n 0, 1) := by decide +kernel
theorem dX1_valof_56 : decode cX1_valof 56 = .ok (.aload_n 0, 1) := by decide +kernel
theorem dX1_valof_57 : decode cX1_valof 57 = .ok (.getfield 65, 3) := by decide +kernel
theorem dX1_valof_60 : decode cX1_valof 60 = .ok (.iload_n 1, 1) := by decide +kernel
theorem dX1_valof_61 : decode cX1_valof 61 = .ok (.invokevirtual 126, 3) := by decide +kernel
theorem dX1_valof_64 : decode cX1_valof 64 = .ok (.invokevirtual 192, 3) := by decide +kernel
theorem dX1_valof_67 : decode cX1_valof 67 = .ok (.aload_n 0, 1) := by decide +kernel
theorem dX1_valof_68 : decode cX1_valof 68 = .ok (.iconst 1, 1) := by decide +kernel
theorem dX1_valof_69 : decode cX1_valof 69 = .ok (.iconst 0, 1) := by decide +kernel
theorem dX1_valof_70 : decode cX1_valof 70 = .ok (.invokevirtual 181, 3) := by decide +kernel
theorem dX1_valof_73 : decode cX1_valof 73 = .ok (.pop, 1) := by decide +kernel
theorem dX1_valof_74 : decode cX1_valof 74 = .ok (.aload_n 0, 1) := by decide +kernel
theorem dX1_valof_75 : decode cX1_valof 75 = .ok (.getfield 69, 3) := by decide +kernel
theorem dX1_valof_78 : decode cX1_valof 78 = .ok (.aload_n 0, 1) := by decide +kernel
theorem dX1_valof_79 : decode cX1_valof 79 = .ok (.getfield 37, 3) := by decide +kernel
theorem dX1_valof_82 : decode cX1_valof 82 = .ok (.invokevirtual 201, 3) := by decide +kernel
theorem dX1_valof_85 : decode cX1_valof 85 = .ok (.aload_n 0, 1) := by decide +kernel
theorem dX1_valof_86 : decode cX1_valof 86 = .ok (.iload_n 2, 1) := by decide +kernel
theorem dX1_valof_87 : decode cX1_valof 87 = .ok (.putfield 27, 3) := by decide +kernel
theorem dX1_valof_90 : decode cX1_valof 90 = .ok (.aload_n 0, 1) := by decide +kernel
theorem dX1_valof_91 : decode cX1_valof 91 = .ok (.iload_n 3, 1) := by decide +kernel
theorem dX1_valof_92 : decode cX1_valof 92 = .ok (.putfield 31, 3) := by decide +kernel
theorem dX1_valof_95 : decode cX1_valof 95 = .ok (.aload_n 0, 1) := by decide +kernel
theorem dX1_valof_96 : decode cX1_valof 96 = .ok (.iload 4, 2) := by decide +kernel
theorem dX1_valof_98 : decode cX1_valof 98 = .ok (.putfield 34, 3) := by decide +kernel
theorem dX1_valof_101 : decode cX1_valof 101 = .ok (.aload_n 0, 1) := by decide +kernel
theorem dX1_valof_102 : decode cX1_valof 102 = .ok (.iload 5, 2) := by decide +kernel
theorem dX1_valof_104 : decode cX1_valof 104 = .ok (.putfield 37, 3) := by decide +kernel
theorem dX1_valof_107 : decode cX1_valof 107 = .ok (.aload_n 0, 1) := by decide +kernel
theorem dX1_valof_108 : decode cX1_valof 108 = .ok (.iload 6, 2) := by decide +kernel
theorem dX1_valof_110 : decode cX1_valof 110 = .ok (.putfield 55, 3) := by decide +kernel
theorem dX1_valof_113 : decode cX1_valof 113 = .ok (.return_, 1) := by decide +kernel
def wc_Coder_valof (rec : Nat → Int → Int → Int → cS → (Int → cS → Prop) → Prop) (A0 : cS) (a0 : Int) (Q : cS → Prop) : Prop :=
  wc_Coder_leaveAll A0  (fun A2 => (zR ((yv A2 23) + 1)) ∧ wc_Tree_first (ypv (ypv (ypv A2 16 0) 23 ((yv A2 23) + 1)) 22 ((yv A2 23) + 1)) a0 (fun r44 A45 => rec 4 r44 0 0 A45 (fun _ A53 => wc_Coder_emit A53 1 0 (fun r60 A61 => wc_Program_land A61 (yv A61 16) (fun A69 => Q (ypv (ypv (ypv (ypv (ypv A69 13 (yv A0 13)) 14 (yv A0 14)) 15 (yv A0 15)) 16 (yv A0 16)) 22 (yv A0 22)))))))
set_option maxHeartbeats 4000000 in
set_option maxRecDepth 100000 in
theorem cm_Coder_valof (l : Launch) (d : gD) (b : Nat) {Y : gYt} {c : Nat × Nat} {F : gM} {k n : Nat} {S : gSt} {A0 : cS} {rec : Nat → Int → Int → Int → cS → (Int → cS → Prop) → Prop} {lv0 : Nat} (ih : yOkC l d b Y c lv0 rec) {a0 : Int} (Ra0 : zR a0) {Q : cS → Prop} (hZ : yZ d b Y c F S (F, k, n) S A0) (hw : wc_Coder_valof rec A0 a0 Q) : hMv l d b yX1_valof cX1_valof 7 (630 + lv0 + 1) k n F [.ref (gO' Y 5), .int (zI a0)] (yPv d b Y c F S Q) := by
  intro mc ms
  refine hM_of2 rfl (nL := 7) (Nat.le_of_ble_eq_true rfl) ?_
  intro X hX hC hr ho; subst hX
  show yG X d b (yQv X d b Y c F S mc ms Q) (F, k, n) 0 [some (.ref (gO' Y 5)), some (.int (zI a0)), none, none, none, none, none] []
  unfold wc_Coder_valof at hw
  refine h_aload_n hC dX1_valof_0 rfl ?_
  refine h_get hC fl_X1_27 (hZ.w.o 5 (by decide)) rfl dX1_valof_1 ?_
  refine yr_sv (e := (yv A0 13)) hZ 13 rfl ?_
  refine h_istore_n (lv' := [some (.ref (gO' Y 5)), some (.int (zI a0)), some (.int (zI (yv A0 13))), none, none, none, none]) hC dX1_valof_4 (Nat.le_of_ble_eq_true rfl) rfl rfl ?_
  refine h_aload_n hC dX1_valof_5 rfl ?_
  refine h_get hC fl_X1_31 (hZ.w.o 5 (by decide)) rfl dX1_valof_6 ?_
  refine yr_sv (e := (yv A0 14)) hZ 14 rfl ?_
  refine h_istore_n (lv' := [some (.ref (gO' Y 5)), some (.int (zI a0)), some (.int (zI (yv A0 13))), some (.int (zI (yv A0 14))), none, none, none]) hC dX1_valof_9 (Nat.le_of_ble_eq_true rfl) rfl rfl ?_
  refine h_aload_n hC dX1_valof_10 rfl ?_
  refine h_get hC fl_X1_34 (hZ.w.o 5 (by decide)) rfl dX1_valof_11 ?_
  refine yr_sv (e := (yv A0 15)) hZ 15 rfl ?_
  refine h_istore (lv' := [some (.ref (gO' Y 5)), some (.int (zI a0)), some (.int (zI (yv A0 13))), some (.int (zI (yv A0 14))), some (.int (zI (yv A0 15))), none, none]) hC dX1_valof_14 (Nat.le_of_ble_eq_true rfl) rfl rfl ?_
  refine h_aload_n hC dX1_valof_16 rfl ?_
  refine h_get hC fl_X1_37 (hZ.w.o 5 (by decide)) rfl dX1_valof_17 ?_
  refine yr_sv (e := (yv A0 16)) hZ 16 rfl ?_
  refine h_istore (lv' := [some (.ref (gO' Y 5)), some (.int (zI a0)), some (.int (zI (yv A0 13))), some (.int (zI (yv A0 14))), some (.int (zI (yv A0 15))), some (.int (zI (yv A0 16))), none]) hC dX1_valof_20 (Nat.le_of_ble_eq_true rfl) rfl rfl ?_
  refine h_aload_n hC dX1_valof_22 rfl ?_
  refine h_get hC fl_X1_55 (hZ.w.o 5 (by decide)) rfl dX1_valof_23 ?_
  refine yr_sv (e := (yv A0 22)) hZ 22 rfl ?_
  refine h_istore (lv' := [some (.ref (gO' Y 5)), some (.int (zI a0)), some (.int (zI (yv A0 13))), some (.int (zI (yv A0 14))), some (.int (zI (yv A0 15))), some (.int (zI (yv A0 16))), some (.int (zI (yv A0 22)))]) hC dX1_valof_26 (Nat.le_of_ble_eq_true rfl) rfl rfl ?_
  refine h_aload_n hC dX1_valof_28 rfl ?_
  refine yr_callVv (As := []) hC hr ho hZ rfl (hZ.w.o 5 (by decide)) (cm_Coder_leaveAll X.la d b  hZ.rs hw) cl_X1_97 rfl rfl (Nat.le_of_ble_eq_true rfl) (hFr_of (by omega) (Nat.le_of_ble_eq_true rfl)) dX1_valof_29 (fun A2 u3 S4 o6 hZ7 h8 => ?_)
  refine h_aload_n hC dX1_valof_32 rfl ?_
  refine h_iconst (v := zI 0) hC dX1_valof_33 rfl ?_
  refine hi_putx (i := 5) (kx := 16) hC hZ7.hi (by decide) fl_X1_37 rfl rfl rfl (Nat.le_of_ble_eq_true rfl) rfl gsame_16 (fun q => absurd q (by decide)) dX1_valof_34 (fun F9 S10 I11 K12 s13 v14 p15 => ?_)
  have hZ16 := hZ7.put I11 K12 s13 v14 (by decide) rfl
  clear I11 K12 s13 v14 p15
  refine yr_nu o6 hZ16 (fun u17 o18 hZ19 => ?_)
  refine h_aload_n hC dX1_valof_37 rfl ?_
  refine h_dup hC dX1_valof_38 rfl ?_
  refine h_get hC fl_X1_58 (hZ19.w.o 5 (by decide)) rfl dX1_valof_39 ?_
  refine yr_sv (e := (yv A2 23)) hZ19 23 rfl ?_
  refine h_iconst (v := zI 1) hC dX1_valof_42 rfl ?_
  refine yr_iadd hC dX1_valof_43 ?_
  obtain ⟨o20, h21⟩ := h8
  refine hi_putx (i := 5) (kx := 23) hC hZ19.hi (by decide) fl_X1_58 rfl rfl rfl (Nat.le_of_ble_eq_true rfl) rfl gsame_23 (fun q => absurd q (by decide)) dX1_valof_44 (fun F22 S23 I24 K25 s26 v27 p28 => ?_)
  have hZ29 := hZ19.put I24 K25 s26 v27 o20 rfl
  clear I24 K25 s26 v27 p28
  refine yr_nu o18 hZ29 (fun u30 o31 hZ32 => ?_)
  refine h_aload_n hC dX1_valof_47 rfl ?_
  refine h_aload_n hC dX1_valof_48 rfl ?_
  refine h_get hC fl_X1_58 (hZ32.w.o 5 (by decide)) rfl dX1_valof_49 ?_
  refine yr_sv (e := ((yv A2 23) + 1)) hZ32 23 rfl ?_
  refine hi_putx (i := 5) (kx := 22) hC hZ32.hi (by decide) fl_X1_55 rfl rfl rfl (Nat.le_of_ble_eq_true rfl) rfl gsame_22 (fun q => absurd q (by decide)) dX1_valof_52 (fun F33 S34 I35 K36 s37 v38 p39 => ?_)
  have hZ40 := hZ32.put I35 K36 s37 v38 o20 rfl
  clear I35 K36 s37 v38 p39
  refine yr_nu o31 hZ40 (fun u41 o42 hZ43 => ?_)
  refine h_aload_n hC dX1_valof_55 rfl ?_
  refine h_aload_n hC dX1_valof_56 rfl ?_
  refine h_get hC fl_X1_65 (hZ43.w.o 5 (by decide)) rfl dX1_valof_57 ?_
  refine h_iload_n hC dX1_valof_60 rfl ?_
  refine yr_callVi (As := [.int (zI a0)]) hC hr o42 hZ43 rfl (hZ43.w.o 2 (by decide)) (cm_Tree_first X.la d b Ra0 hZ43.rs h21) cl_X1_126 rfl rfl (Nat.le_of_ble_eq_true rfl) (hFr_of (by omega) (Nat.le_of_ble_eq_true rfl)) dX1_valof_61 (fun r44 A45 u46 S47 R48 o49 hZ50 h51 => ?_)
  refine yr_callVv (As := [.int (zI r44)]) hC hr o49 hZ50 rfl (hZ50.w.o 5 (by decide)) (ih.2.2.2.2.1 R48 hZ50.rs h51) cl_X1_192 rfl rfl (Nat.le_of_ble_eq_true rfl) (hFr_of (by omega) (Nat.le_of_ble_eq_true rfl)) dX1_valof_64 (fun A53 u54 S55 o57 hZ58 h59 => ?_)
  refine h_aload_n hC dX1_valof_67 rfl ?_
  refine h_iconst (v := zI 1) hC dX1_valof_68 rfl ?_
  refine h_iconst (v := zI 0) hC dX1_valof_69 rfl ?_
  refine yr_callVi (As := [.int (zI 1), .int (zI 0)]) hC hr o57 hZ58 rfl (hZ58.w.o 5 (by decide)) (cm_Coder_emit X.la d b (by decide) (by decide) hZ58.rs h59) cl_X1_181 rfl rfl (Nat.le_of_ble_eq_true rfl) (hFr_of (by omega) (Nat.le_of_ble_eq_true rfl)) dX1_valof_70 (fun r60 A61 u62 S63 R64 o65 hZ66 h67 => ?_)
  refine h_pop hC dX1_valof_73 rfl ?_
  refine h_aload_n hC dX1_valof_74 rfl ?_
  refine h_get hC fl_X1_69 (hZ66.w.o 5 (by decide)) rfl dX1_valof_75 ?_
  refine h_aload_n hC dX1_valof_78 rfl ?_
  refine h_get hC fl_X1_37 (hZ66.w.o 5 (by decide)) rfl dX1_valof_79 ?_
  refine yr_sv (e := (yv A61 16)) hZ66 16 rfl ?_
  refine yr_callVv (As := [.int (zI (yv A61 16))]) hC hr o65 hZ66 rfl (hZ66.w.o 1 (by decide)) (cm_Program_land X.la d b (hZ66.rv 16) hZ66.rs h67) cl_X1_201 rfl rfl (Nat.le_of_ble_eq_true rfl) (hFr_of (by omega) (Nat.le_of_ble_eq_true rfl)) dX1_valof_82 (fun A69 u70 S71 o73 hZ74 h75 => ?_)
  refine h_aload_n hC dX1_valof_85 rfl ?_
  refine h_iload_n hC dX1_valof_86 rfl ?_
  refine hi_putx (i := 5) (kx := 13) hC hZ74.hi (by decide) fl_X1_27 rfl rfl rfl (Nat.le_of_ble_eq_true rfl) rfl gsame_13 (fun q => absurd q (by decide)) dX1_valof_87 (fun F76 S77 I78 K79 s80 v81 p82 => ?_)
  have hZ83 := hZ74.put I78 K79 s80 v81 (hZ.rv 13) rfl
  clear I78 K79 s80 v81 p82
  refine yr_nu o73 hZ83 (fun u84 o85 hZ86 => ?_)
  refine h_aload_n hC dX1_valof_90 rfl ?_
  refine h_iload_n hC dX1_valof_91 rfl ?_
  refine hi_putx (i := 5) (kx := 14) hC hZ86.hi (by decide) fl_X1_31 rfl rfl rfl (Nat.le_of_ble_eq_true rfl) rfl gsame_14 (fun q => absurd q (by decide)) dX1_valof_92 (fun F87 S88 I89 K90 s91 v92 p93 => ?_)
  have hZ94 := hZ86.put I89 K90 s91 v92 (hZ.rv 14) rfl
  clear I89 K90 s91 v92 p93
  refine yr_nu o85 hZ94 (fun u95 o96 hZ97 => ?_)
  refine h_aload_n hC dX1_valof_95 rfl ?_
  refine h_iload hC dX1_valof_96 rfl ?_
  refine hi_putx (i := 5) (kx := 15) hC hZ97.hi (by decide) fl_X1_34 rfl rfl rfl (Nat.le_of_ble_eq_true rfl) rfl gsame_15 (fun q => absurd q (by decide)) dX1_valof_98 (fun F98 S99 I100 K101 s102 v103 p104 => ?_)
  have hZ105 := hZ97.put I100 K101 s102 v103 (hZ.rv 15) rfl
  clear I100 K101 s102 v103 p104
  refine yr_nu o96 hZ105 (fun u106 o107 hZ108 => ?_)
  refine h_aload_n hC dX1_valof_101 rfl ?_
  refine h_iload hC dX1_valof_102 rfl ?_
  refine hi_putx (i := 5) (kx := 16) hC hZ108.hi (by decide) fl_X1_37 rfl rfl rfl (Nat.le_of_ble_eq_true rfl) rfl gsame_16 (fun q => absurd q (by decide)) dX1_valof_104 (fun F109 S110 I111 K112 s113 v114 p115 => ?_)
  have hZ116 := hZ108.put I111 K112 s113 v114 (hZ.rv 16) rfl
  clear I111 K112 s113 v114 p115
  refine yr_nu o107 hZ116 (fun u117 o118 hZ119 => ?_)
  refine h_aload_n hC dX1_valof_107 rfl ?_
  refine h_iload hC dX1_valof_108 rfl ?_
  refine hi_putx (i := 5) (kx := 22) hC hZ119.hi (by decide) fl_X1_55 rfl rfl rfl (Nat.le_of_ble_eq_true rfl) rfl gsame_22 (fun q => absurd q (by decide)) dX1_valof_110 (fun F120 S121 I122 K123 s124 v125 p126 => ?_)
  have hZ127 := hZ119.put I122 K123 s124 v125 (hZ.rv 22) rfl
  clear I122 K123 s124 v125 p126
  refine yr_nu o118 hZ127 (fun u128 o129 hZ130 => ?_)
  exact yr_vret hC hr o129 hZ130 h75 dX1_valof_113
theorem dX1_choice_0 : decode cX1_choice 0 = .ok (.aload_n 0, 1) := by decide +kernel
theorem dX1_choice_1 : decode cX1_choice 1 = .ok (.getfield 65, 3) := by decide +kernel
theorem dX1_choice_4 : decode cX1_choice 4 = .ok (.iload_n 1, 1) := by decide +kernel
theorem dX1_choice_5 : decode cX1_choice 5 = .ok (.invokevirtual 126, 3) := by decide +kernel
theorem dX1_choice_8 : decode cX1_choice 8 = .ok (.istore_n 2, 1) := by decide +kernel
theorem dX1_choice_9 : decode cX1_choice 9 = .ok (.aload_n 0, 1) := by decide +kernel
theorem dX1_choice_10 : decode cX1_choice 10 = .ok (.getfield 65, 3) := by decide +kernel
theorem dX1_choice_13 : decode cX1_choice 13 = .ok (.iload_n 2, 1) := by decide +kernel
theorem dX1_choice_14 : decode cX1_choice 14 = .ok (.invokevirtual 142, 3) := by decide +kernel
theorem dX1_choice_17 : decode cX1_choice 17 = .ok (.istore_n 3, 1) := by decide +kernel
theorem dX1_choice_18 : decode cX1_choice 18 = .ok (.aload_n 0, 1) := by decide +kernel
theorem dX1_choice_19 : decode cX1_choice 19 = .ok (.iload_n 2, 1) := by decide +kernel
theorem dX1_choice_20 : decode cX1_choice 20 = .ok (.iconst 0, 1) := by decide +kernel
theorem dX1_choice_21 : decode cX1_choice 21 = .ok (.iconst 0, 1) := by decide +kernel
theorem dX1_choice_22 : decode cX1_choice 22 = .ok (.invokevirtual 188, 3) := by decide +kernel
theorem dX1_choice_25 : decode cX1_choice 25 = .ok (.aload_n 0, 1) := by decide +kernel
theorem dX1_choice_26 : decode cX1_choice 26 = .ok (.bipush 15, 2) := by decide +kernel
theorem dX1_choice_28 : decode cX1_choice 28 = .ok (.iconst 0, 1) := by decide +kernel
theorem dX1_choice_29 : decode cX1_choice 29 = .ok (.invokevirtual 181, 3) := by decide +kernel
theorem dX1_choice_32 : decode cX1_choice 32 = .ok (.istore 4, 2) := by decide +kernel
theorem dX1_choice_34 : decode cX1_choice 34 = .ok (.aload_n 0, 1) := by decide +kernel
theorem dX1_choice_35 : decode cX1_choice 35 = .ok (.iload_n 3, 1) := by decide +kernel
theorem dX1_choice_36 : decode cX1_choice 36 = .ok (.iconst 0, 1) := by decide +kernel
theorem dX1_choice_37 : decode cX1_choice 37 = .ok (.iconst 0, 1) := by decide +kernel
theorem dX1_choice_38 : decode cX1_choice 38 = .ok (.invokevirtual 188, 3) := by decide +kernel
theorem dX1_choice_41 : decode cX1_choice 41 = .ok (.aload_n 0, 1) := by decide +kernel
theorem dX1_choice_42 : decode cX1_choice 42 = .ok (.bipush 14, 2) := by decide +kernel
theorem dX1_choice_44 : decode cX1_choice 44 = .ok (.iconst 0, 1) := by decide +kernel
theorem dX1_choice_45 : decode cX1_choice 45 = .ok (.invokevirtual 181, 3) := by decide +kernel
theorem dX1_choice_48 : decode cX1_choice 48 = .ok (.istore 5, 2) := by decide +kernel
theorem dX1_choice_50 : decode cX1_choice 50 = .ok (.aload_n 0, 1) := by decide +kernel
theorem dX1_choice_51 : decode cX1_choice 51 = .ok (.getfield 69, 3) := by decide +kernel
theorem dX1_choice_54 : decode cX1_choice 54 = .ok (.iload 4, 2) := by decide +kernel
theorem dX1_choice_56 : decode cX1_choice 56 = .ok (.invokevirtual 201, 3) := by decide +kernel
theorem dX1_choice_59 : decode cX1_choice 59 = .ok (.aload_n 0, 1) := by decide +kernel
theorem dX1_choice_60 : decode cX1_choice 60 = .ok (.aload_n 0, 1) := by decide +kernel
theorem dX1_choice_61 : decode cX1_choice 61 = .ok (.getfield 65, 3) := by decide +kernel
theorem dX1_choice_64 : decode cX1_choice 64 = .ok (.iload_n 3, 1) := by decide +kernel
theorem dX1_choice_65 : decode cX1_choice 65 = .ok (.invokevirtual 142, 3) := by decide +kernel
theorem dX1_choice_68 : decode cX1_choice 68 = .ok (.iconst 0, 1) := by decide +kernel
theorem dX1_choice_69 : decode cX1_choice 69 = .ok (.iconst 0, 1) := by decide +kernel
theorem dX1_choice_70 : decode cX1_choice 70 = .ok (.invokevirtual 188, 3) := by decide +kernel
theorem dX1_choice_73 : decode cX1_choice 73 = .ok (.aload_n 0, 1) := by decide +kernel
theorem dX1_choice_74 : decode cX1_choice 74 = .ok (.getfield 69, 3) := by decide +kernel
theorem dX1_choice_77 : decode cX1_choice 77 = .ok (.iload 5, 2) := by decide +kernel
theorem dX1_choice_79 : decode cX1_choice 79 = .ok (.invokevirtual 201, 3) := by decide +kernel
theorem dX1_choice_82 : decode cX1_choice 82 = .ok (.return_, 1) := by decide +kernel
def wc_Coder_choice (rec : Nat → Int → Int → Int → cS → (Int → cS → Prop) → Prop) (A0 : cS) (a0 : Int) (Q : cS → Prop) : Prop :=
  wc_Tree_first A0 a0 (fun r1 A2 => wc_Tree_next A2 r1 (fun r9 A10 => rec 12 r1 0 0 A10 (fun _ A18 => wc_Coder_emit A18 15 0 (fun r25 A26 => rec 12 r9 0 0 A26 (fun _ A34 => wc_Coder_emit A34 14 0 (fun r41 A42 => wc_Program_land A42 r25 (fun A50 => wc_Tree_next A50 r9 (fun r57 A58 => rec 12 r57 0 0 A58 (fun _ A66 => wc_Program_land A66 r41 (fun A74 => Q A74))))))))))
set_option maxHeartbeats 4000000 in
set_option maxRecDepth 100000 in
theorem cm_Coder_choice (l : Launch) (d : gD) (b : Nat) {Y : gYt} {c : Nat × Nat} {F : gM} {k n : Nat} {S : gSt} {A0 : cS} {rec : Nat → Int → Int → Int → cS → (Int → cS → Prop) → Prop} {lv0 : Nat} (ih : yOkC l d b Y c lv0 rec) {a0 : Int} (Ra0 : zR a0) {Q : cS → Prop} (hZ : yZ d b Y c F S (F, k, n) S A0) (hw : wc_Coder_choice rec A0 a0 Q) : hMv l d b yX1_choice cX1_choice 6 (630 + lv0 + 1) k n F [.ref (gO' Y 5), .int (zI a0)] (yPv d b Y c F S Q) := by
  intro mc ms
  refine hM_of2 rfl (nL := 6) (Nat.le_of_ble_eq_true rfl) ?_
  intro X hX hC hr ho; subst hX
  show yG X d b (yQv X d b Y c F S mc ms Q) (F, k, n) 0 [some (.ref (gO' Y 5)), some (.int (zI a0)), none, none, none, none] []
  unfold wc_Coder_choice at hw
  refine h_aload_n hC dX1_choice_0 rfl ?_
  refine h_get hC fl_X1_65 (hZ.w.o 5 (by decide)) rfl dX1_choice_1 ?_
  refine h_iload_n hC dX1_choice_4 rfl ?_
  refine yr_callVi (As := [.int (zI a0)]) hC hr ho hZ rfl (hZ.w.o 2 (by decide)) (cm_Tree_first X.la d b Ra0 hZ.rs hw) cl_X1_126 rfl rfl (Nat.le_of_ble_eq_true rfl) (hFr_of (by omega) (Nat.le_of_ble_eq_true rfl)) dX1_choice_5 (fun r1 A2 u3 S4 R5 o6 hZ7 h8 => ?_)
  refine h_istore_n (lv' := [some (.ref (gO' Y 5)), some (.int (zI a0)), some (.int (zI r1)), none, none, none]) hC dX1_choice_8 (Nat.le_of_ble_eq_true rfl) rfl rfl ?_
  refine h_aload_n hC dX1_choice_9 rfl ?_
  refine h_get hC fl_X1_65 (hZ7.w.o 5 (by decide)) rfl dX1_choice_10 ?_
  refine h_iload_n hC dX1_choice_13 rfl ?_
  refine yr_callVi (As := [.int (zI r1)]) hC hr o6 hZ7 rfl (hZ7.w.o 2 (by decide)) (cm_Tree_next X.la d b R5 hZ7.rs h8) cl_X1_142 rfl rfl (Nat.le_of_ble_eq_true rfl) (hFr_of (by omega) (Nat.le_of_ble_eq_true rfl)) dX1_choice_14 (fun r9 A10 u11 S12 R13 o14 hZ15 h16 => ?_)
  refine h_istore_n (lv' := [some (.ref (gO' Y 5)), some (.int (zI a0)), some (.int (zI r1)), some (.int (zI r9)), none, none]) hC dX1_choice_17 (Nat.le_of_ble_eq_true rfl) rfl rfl ?_
  refine h_aload_n hC dX1_choice_18 rfl ?_
  refine h_iload_n hC dX1_choice_19 rfl ?_
  refine h_iconst (v := zI 0) hC dX1_choice_20 rfl ?_
  refine h_iconst (v := zI 0) hC dX1_choice_21 rfl ?_
  refine yr_callVv (As := [.int (zI r1), .int (zI 0), .int (zI 0)]) hC hr o14 hZ15 rfl (hZ15.w.o 5 (by decide)) (ih.2.2.2.2.2.2.2.2.2.2.2.2.1 R5 (by decide) (by decide) hZ15.rs h16) cl_X1_188 rfl rfl (Nat.le_of_ble_eq_true rfl) (hFr_of (by omega) (Nat.le_of_ble_eq_true rfl)) dX1_choice_22 (fun A18 u19 S20 o22 hZ23 h24 => ?_)
  refine h_aload_n hC dX1_choice_25 rfl ?_
  refine h_bipush (v := zI 15) hC dX1_choice_26 rfl ?_
  refine h_iconst (v := zI 0) hC dX1_choice_28 rfl ?_
  refine yr_callVi (As := [.int (zI 15), .int (zI 0)]) hC hr o22 hZ23 rfl (hZ23.w.o 5 (by decide)) (cm_Coder_emit X.la d b (by decide) (by decide) hZ23.rs h24) cl_X1_181 rfl rfl (Nat.le_of_ble_eq_true rfl) (hFr_of (by omega) (Nat.le_of_ble_eq_true rfl)) dX1_choice_29 (fun r25 A26 u27 S28 R29 o30 hZ31 h32 => ?_)
  refine h_istore (lv' := [some (.ref (gO' Y 5)), some (.int (zI a0)), some (.int (zI r1)), some (.int (zI r9)), some (.int (zI r25)), none]) hC dX1_choice_32 (Nat.le_of_ble_eq_true rfl) rfl rfl ?_
  refine h_aload_n hC dX1_choice_34 rfl ?_
  refine h_iload_n hC dX1_choice_35 rfl ?_
  refine h_iconst (v := zI 0) hC dX1_choice_36 rfl ?_
  refine h_iconst (v := zI 0) hC dX1_choice_37 rfl ?_
  refine yr_callVv (As := [.int (zI r9), .int (zI 0), .int (zI 0)]) hC hr o30 hZ31 rfl (hZ31.w.o 5 (by decide)) (ih.2.2.2.2.2.2.2.2.2.2.2.2.1 R13 (by decide) (by decide) hZ31.rs h32) cl_X1_188 rfl rfl (Nat.le_of_ble_eq_true rfl) (hFr_of (by omega) (Nat.le_of_ble_eq_true rfl)) dX1_choice_38 (fun A34 u35 S36 o38 hZ39 h40 => ?_)
  refine h_aload_n hC dX1_choice_41 rfl ?_
  refine h_bipush (v := zI 14) hC dX1_choice_42 rfl ?_
  refine h_iconst (v := zI 0) hC dX1_choice_44 rfl ?_
  refine yr_callVi (As := [.int (zI 14), .int (zI 0)]) hC hr o38 hZ39 rfl (hZ39.w.o 5 (by decide)) (cm_Coder_emit X.la d b (by decide) (by decide) hZ39.rs h40) cl_X1_181 rfl rfl (Nat.le_of_ble_eq_true rfl) (hFr_of (by omega) (Nat.le_of_ble_eq_true rfl)) dX1_choice_45 (fun r41 A42 u43 S44 R45 o46 hZ47 h48 => ?_)
  refine h_istore (lv' := [some (.ref (gO' Y 5)), some (.int (zI a0)), some (.int (zI r1)), some (.int (zI r9)), some (.int (zI r25)), some (.int (zI r41))]) hC dX1_choice_48 (Nat.le_of_ble_eq_true rfl) rfl rfl ?_
  refine h_aload_n hC dX1_choice_50 rfl ?_
  refine h_get hC fl_X1_69 (hZ47.w.o 5 (by decide)) rfl dX1_choice_51 ?_
  refine h_iload hC dX1_choice_54 rfl ?_
  refine yr_callVv (As := [.int (zI r25)]) hC hr o46 hZ47 rfl (hZ47.w.o 1 (by decide)) (cm_Program_land X.la d b R29 hZ47.rs h48) cl_X1_201 rfl rfl (Nat.le_of_ble_eq_true rfl) (hFr_of (by omega) (Nat.le_of_ble_eq_true rfl)) dX1_choice_56 (fun A50 u51 S52 o54 hZ55 h56 => ?_)
  refine h_aload_n hC dX1_choice_59 rfl ?_
  refine h_aload_n hC dX1_choice_60 rfl ?_
  refine h_get hC fl_X1_65 (hZ55.w.o 5 (by decide)) rfl dX1_choice_61 ?_
  refine h_iload_n hC dX1_choice_64 rfl ?_
  refine yr_callVi (As := [.int (zI r9)]) hC hr o54 hZ55 rfl (hZ55.w.o 2 (by decide)) (cm_Tree_next X.la d b R13 hZ55.rs h56) cl_X1_142 rfl rfl (Nat.le_of_ble_eq_true rfl) (hFr_of (by omega) (Nat.le_of_ble_eq_true rfl)) dX1_choice_65 (fun r57 A58 u59 S60 R61 o62 hZ63 h64 => ?_)
  refine h_iconst (v := zI 0) hC dX1_choice_68 rfl ?_
  refine h_iconst (v := zI 0) hC dX1_choice_69 rfl ?_
  refine yr_callVv (As := [.int (zI r57), .int (zI 0), .int (zI 0)]) hC hr o62 hZ63 rfl (hZ63.w.o 5 (by decide)) (ih.2.2.2.2.2.2.2.2.2.2.2.2.1 R61 (by decide) (by decide) hZ63.rs h64) cl_X1_188 rfl rfl (Nat.le_of_ble_eq_true rfl) (hFr_of (by omega) (Nat.le_of_ble_eq_true rfl)) dX1_choice_70 (fun A66 u67 S68 o70 hZ71 h72 => ?_)
  refine h_aload_n hC dX1_choice_73 rfl ?_
  refine h_get hC fl_X1_69 (hZ71.w.o 5 (by decide)) rfl dX1_choice_74 ?_
  refine h_iload hC dX1_choice_77 rfl ?_
  refine yr_callVv (As := [.int (zI r41)]) hC hr o70 hZ71 rfl (hZ71.w.o 1 (by decide)) (cm_Program_land X.la d b R45 hZ71.rs h72) cl_X1_201 rfl rfl (Nat.le_of_ble_eq_true rfl) (hFr_of (by omega) (Nat.le_of_ble_eq_true rfl)) dX1_choice_79 (fun A74 u75 S76 o78 hZ79 h80 => ?_)
  exact yr_vret hC hr o78 hZ79 h80 dX1_choice_82
