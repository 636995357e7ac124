/-! the class as formulas: parser -/
def yOkP (l : Launch) (d : gD) (b : Nat) (Y : gYt) (c : Nat × Nat) (lv0 : Nat) (rec : Nat → Int → Int → Int → cS → (Int → cS → Prop) → (cS → Prop) → Prop) : Prop :=
  (∀ {F : gM} {k n : Nat} {S : gSt} {A0 : cS} {a0 : Int}, zR a0 → ∀ {Q : Int → cS → Prop} {E : cS → Prop}, yZ d b Y c F S (F, k, n) S A0 → rec 0 a0 0 0 A0 Q E → hXi l d b yX6_declaration cX6_declaration 5 .int (9 + lv0) k n F [(.ref (gO' Y 4)), .int (zI a0)] (yPi d b Y c F S Q) "java/lang/IllegalStateException" (yPx d b Y c F S E)) ∧
  (∀ {F : gM} {k n : Nat} {S : gSt} {A0 : cS} {a0 : Int}, zR a0 → ∀ {Q : Int → cS → Prop} {E : cS → Prop}, yZ d b Y c F S (F, k, n) S A0 → rec 1 a0 0 0 A0 Q E → hXi l d b yX6_definitions cX6_definitions 6 .int (9 + lv0) k n F [(.ref (gO' Y 4)), .int (zI a0)] (yPi d b Y c F S Q) "java/lang/IllegalStateException" (yPx d b Y c F S E)) ∧
  (∀ {F : gM} {k n : Nat} {S : gSt} {A0 : cS} {a0 : Int}, zR a0 → ∀ {Q : Int → cS → Prop} {E : cS → Prop}, yZ d b Y c F S (F, k, n) S A0 → rec 2 a0 0 0 A0 Q E → hXi l d b yX6_routine cX6_routine 4 .int (9 + lv0) k n F [(.ref (gO' Y 4)), .int (zI a0)] (yPi d b Y c F S Q) "java/lang/IllegalStateException" (yPx d b Y c F S E)) ∧
  (∀ {F : gM} {k n : Nat} {S : gSt} {A0 : cS} {a0 : Int}, zR a0 → ∀ {Q : Int → cS → Prop} {E : cS → Prop}, yZ d b Y c F S (F, k, n) S A0 → rec 3 a0 0 0 A0 Q E → hXv l d b yX6_variables cX6_variables 5 (9 + lv0) k n F [(.ref (gO' Y 4)), .int (zI a0)] (yPv d b Y c F S (fun A' => Q 0 A')) "java/lang/IllegalStateException" (yPx d b Y c F S E)) ∧
  (∀ {F : gM} {k n : Nat} {S : gSt} {A0 : cS} {a0 : Int}, zR a0 → ∀ {Q : Int → cS → Prop} {E : cS → Prop}, yZ d b Y c F S (F, k, n) S A0 → rec 4 a0 0 0 A0 Q E → hXi l d b yX6_section cX6_section 5 .int (9 + lv0) k n F [(.ref (gO' Y 4)), .int (zI a0)] (yPi d b Y c F S Q) "java/lang/IllegalStateException" (yPx d b Y c F S E)) ∧
  (∀ {F : gM} {k n : Nat} {S : gSt} {A0 : cS} {a0 : Int}, zR a0 → ∀ {Q : Int → cS → Prop} {E : cS → Prop}, yZ d b Y c F S (F, k, n) S A0 → rec 5 a0 0 0 A0 Q E → hXv l d b yX6_cases cX6_cases 5 (9 + lv0) k n F [(.ref (gO' Y 4)), .int (zI a0)] (yPv d b Y c F S (fun A' => Q 0 A')) "java/lang/IllegalStateException" (yPx d b Y c F S E)) ∧
  (∀ {F : gM} {k n : Nat} {S : gSt} {A0 : cS}, ∀ {Q : Int → cS → Prop} {E : cS → Prop}, yZ d b Y c F S (F, k, n) S A0 → rec 6 0 0 0 A0 Q E → hXi l d b yX6_command cX6_command 2 .int (9 + lv0) k n F [(.ref (gO' Y 4))] (yPi d b Y c F S Q) "java/lang/IllegalStateException" (yPx d b Y c F S E)) ∧
  (∀ {F : gM} {k n : Nat} {S : gSt} {A0 : cS} {a0 : Int}, zR a0 → ∀ {Q : Int → cS → Prop} {E : cS → Prop}, yZ d b Y c F S (F, k, n) S A0 → rec 7 a0 0 0 A0 Q E → hXi l d b yX6_repeats cX6_repeats 6 .int (9 + lv0) k n F [(.ref (gO' Y 4)), .int (zI a0)] (yPi d b Y c F S Q) "java/lang/IllegalStateException" (yPx d b Y c F S E)) ∧
  (∀ {F : gM} {k n : Nat} {S : gSt} {A0 : cS}, ∀ {Q : Int → cS → Prop} {E : cS → Prop}, yZ d b Y c F S (F, k, n) S A0 → rec 8 0 0 0 A0 Q E → hXi l d b yX6_conditional cX6_conditional 2 .int (9 + lv0) k n F [(.ref (gO' Y 4))] (yPi d b Y c F S Q) "java/lang/IllegalStateException" (yPx d b Y c F S E)) ∧
  (∀ {F : gM} {k n : Nat} {S : gSt} {A0 : cS}, ∀ {Q : Int → cS → Prop} {E : cS → Prop}, yZ d b Y c F S (F, k, n) S A0 → rec 9 0 0 0 A0 Q E → hXi l d b yX6_counting cX6_counting 2 .int (9 + lv0) k n F [(.ref (gO' Y 4))] (yPi d b Y c F S Q) "java/lang/IllegalStateException" (yPx d b Y c F S E)) ∧
  (∀ {F : gM} {k n : Nat} {S : gSt} {A0 : cS}, ∀ {Q : Int → cS → Prop} {E : cS → Prop}, yZ d b Y c F S (F, k, n) S A0 → rec 10 0 0 0 A0 Q E → hXi l d b yX6_switching cX6_switching 2 .int (9 + lv0) k n F [(.ref (gO' Y 4))] (yPi d b Y c F S Q) "java/lang/IllegalStateException" (yPx d b Y c F S E)) ∧
  (∀ {F : gM} {k n : Nat} {S : gSt} {A0 : cS}, ∀ {Q : Int → cS → Prop} {E : cS → Prop}, yZ d b Y c F S (F, k, n) S A0 → rec 11 0 0 0 A0 Q E → hXi l d b yX6_assignment cX6_assignment 4 .int (9 + lv0) k n F [(.ref (gO' Y 4))] (yPi d b Y c F S Q) "java/lang/IllegalStateException" (yPx d b Y c F S E)) ∧
  (∀ {F : gM} {k n : Nat} {S : gSt} {A0 : cS}, ∀ {Q : Int → cS → Prop} {E : cS → Prop}, yZ d b Y c F S (F, k, n) S A0 → rec 12 0 0 0 A0 Q E → hXi l d b yX6_expression cX6_expression 5 .int (9 + lv0) k n F [(.ref (gO' Y 4))] (yPi d b Y c F S Q) "java/lang/IllegalStateException" (yPx d b Y c F S E)) ∧
  (∀ {F : gM} {k n : Nat} {S : gSt} {A0 : cS} {a0 : Int}, zR a0 → ∀ {Q : Int → cS → Prop} {E : cS → Prop}, yZ d b Y c F S (F, k, n) S A0 → rec 13 a0 0 0 A0 Q E → hXv l d b yX6_operand cX6_operand 8 (9 + lv0) k n F [(.ref (gO' Y 4)), .int (zI a0)] (yPv d b Y c F S (fun A' => Q 0 A')) "java/lang/IllegalStateException" (yPx d b Y c F S E)) ∧
  (∀ {F : gM} {k n : Nat} {S : gSt} {A0 : cS}, ∀ {Q : Int → cS → Prop} {E : cS → Prop}, yZ d b Y c F S (F, k, n) S A0 → rec 14 0 0 0 A0 Q E → hXi l d b yX6_primary cX6_primary 2 .int (9 + lv0) k n F [(.ref (gO' Y 4))] (yPi d b Y c F S Q) "java/lang/IllegalStateException" (yPx d b Y c F S E)) ∧
  (∀ {F : gM} {k n : Nat} {S : gSt} {A0 : cS}, ∀ {Q : Int → cS → Prop} {E : cS → Prop}, yZ d b Y c F S (F, k, n) S A0 → rec 15 0 0 0 A0 Q E → hXi l d b yX6_table cX6_table 4 .int (9 + lv0) k n F [(.ref (gO' Y 4))] (yPi d b Y c F S Q) "java/lang/IllegalStateException" (yPx d b Y c F S E)) ∧
  (∀ {F : gM} {k n : Nat} {S : gSt} {A0 : cS} {a0 : Int}, zR a0 → ∀ {Q : Int → cS → Prop} {E : cS → Prop}, yZ d b Y c F S (F, k, n) S A0 → rec 16 a0 0 0 A0 Q E → hXi l d b yX6_calls cX6_calls 9 .int (9 + lv0) k n F [(.ref (gO' Y 4)), .int (zI a0)] (yPi d b Y c F S Q) "java/lang/IllegalStateException" (yPx d b Y c F S E))
theorem dX6_declaration_0 : decode cX6_declaration 0 = .ok (.aload_n 0, 1) := by decide +kernel
theorem dX6_declaration_1 : decode cX6_declaration 1 = .ok (.invokevirtual 97, 3) := by decide +kernel
theorem dX6_declaration_4 : decode cX6_declaration 4 = .ok (.istore_n 2, 1) := by decide +kernel
theorem dX6_declaration_5 : decode cX6_declaration 5 = .ok (.iload_n 2, 1) := by decide +kernel
theorem dX6_declaration_6 : decode cX6_declaration 6 = .ok (.bipush 53, 2) := by decide +kernel
theorem dX6_declaration_8 : decode cX6_declaration 8 = .ok (.if_icmp .eq 15, 3) := by decide +kernel
theorem dX6_declaration_11 : decode cX6_declaration 11 = .ok (.iload_n 2, 1) := by decide +kernel
theorem dX6_declaration_12 : decode cX6_declaration 12 = .ok (.bipush 54, 2) := by decide +kernel
theorem dX6_declaration_14 : decode cX6_declaration 14 = .ok (.if_icmp .eq 9, 3) := by decide +kernel
theorem dX6_declaration_17 : decode cX6_declaration 17 = .ok (.iload_n 2, 1) := by decide +kernel
theorem dX6_declaration_18 : decode cX6_declaration 18 = .ok (.bipush 55, 2) := by decide +kernel
theorem dX6_declaration_20 : decode cX6_declaration 20 = .ok (.if_icmp .ne 9, 3) := by decide +kernel
theorem dX6_declaration_23 : decode cX6_declaration 23 = .ok (.aload_n 0, 1) := by decide +kernel
theorem dX6_declaration_24 : decode cX6_declaration 24 = .ok (.iload_n 1, 1) := by decide +kernel
theorem dX6_declaration_25 : decode cX6_declaration 25 = .ok (.invokevirtual 126, 3) := by decide +kernel
theorem dX6_declaration_28 : decode cX6_declaration 28 = .ok (.ireturn, 1) := by decide +kernel
theorem dX6_declaration_29 : decode cX6_declaration 29 = .ok (.aload_n 0, 1) := by decide +kernel
theorem dX6_declaration_30 : decode cX6_declaration 30 = .ok (.getfield 60, 3) := by decide +kernel
theorem dX6_declaration_33 : decode cX6_declaration 33 = .ok (.bipush 94, 2) := by decide +kernel
theorem dX6_declaration_35 : decode cX6_declaration 35 = .ok (.aload_n 0, 1) := by decide +kernel
theorem dX6_declaration_36 : decode cX6_declaration 36 = .ok (.invokevirtual 112, 3) := by decide +kernel
theorem dX6_declaration_39 : decode cX6_declaration 39 = .ok (.iconst 0, 1) := by decide +kernel
theorem dX6_declaration_40 : decode cX6_declaration 40 = .ok (.invokevirtual 115, 3) := by decide +kernel
theorem dX6_declaration_43 : decode cX6_declaration 43 = .ok (.istore_n 3, 1) := by decide +kernel
theorem dX6_declaration_44 : decode cX6_declaration 44 = .ok (.aload_n 0, 1) := by decide +kernel
theorem dX6_declaration_45 : decode cX6_declaration 45 = .ok (.bipush 52, 2) := by decide +kernel
theorem dX6_declaration_47 : decode cX6_declaration 47 = .ok (.invokevirtual 109, 3) := by decide +kernel
theorem dX6_declaration_50 : decode cX6_declaration 50 = .ok (.iload_n 1, 1) := by decide +kernel
theorem dX6_declaration_51 : decode cX6_declaration 51 = .ok (.ifCond .ne 36, 3) := by decide +kernel
theorem dX6_declaration_54 : decode cX6_declaration 54 = .ok (.aload_n 0, 1) := by decide +kernel
theorem dX6_declaration_55 : decode cX6_declaration 55 = .ok (.invokevirtual 97, 3) := by decide +kernel
theorem dX6_declaration_58 : decode cX6_declaration 58 = .ok (.iconst 2, 1) := by decide +kernel
theorem dX6_declaration_59 : decode cX6_declaration 59 = .ok (.if_icmp .ne 28, 3) := by decide +kernel
theorem dX6_declaration_62 : decode cX6_declaration 62 = .ok (.aload_n 0, 1) := by decide +kernel
theorem dX6_declaration_63 : decode cX6_declaration 63 = .ok (.getfield 43, 3) := by decide +kernel
theorem dX6_declaration_66 : decode cX6_declaration 66 = .ok (.aload_n 0, 1) := by decide +kernel
theorem dX6_declaration_67 : decode cX6_declaration 67 = .ok (.getfield 27, 3) := by decide +kernel
theorem dX6_declaration_70 : decode cX6_declaration 70 = .ok (.iconst 1, 1) := by decide +kernel
theorem dX6_declaration_71 : decode cX6_declaration 71 = .ok (.iadd, 1) := by decide +kernel
theorem dX6_declaration_72 : decode cX6_declaration 72 = .ok (.invokevirtual 82, 3) := by decide +kernel
theorem dX6_declaration_75 : decode cX6_declaration 75 = .ok (.bipush 7, 2) := by decide +kernel
theorem dX6_declaration_77 : decode cX6_declaration 77 = .ok (.if_icmp .eq 10, 3) := by decide +kernel
theorem dX6_declaration_80 : decode cX6_declaration 80 = .ok (.aload_n 0, 1) := by decide +kernel
theorem dX6_declaration_81 : decode cX6_declaration 81 = .ok (.iload_n 3, 1) := by decide +kernel
theorem dX6_declaration_82 : decode cX6_declaration 82 = .ok (.invokevirtual 129, 3) := by decide +kernel
theorem dX6_declaration_85 : decode cX6_declaration 85 = .ok (.iload_n 3, 1) := by decide +kernel
theorem dX6_declaration_86 : decode cX6_declaration 86 = .ok (.ireturn, 1) := by decide +kernel
theorem dX6_declaration_87 : decode cX6_declaration 87 = .ok (.iconst 0, 1) := by decide +kernel
theorem dX6_declaration_88 : decode cX6_declaration 88 = .ok (.istore 4, 2) := by decide +kernel
theorem dX6_declaration_90 : decode cX6_declaration 90 = .ok (.iload 4, 2) := by decide +kernel
theorem dX6_declaration_92 : decode cX6_declaration 92 = .ok (.ldc 11, 2) := by decide +kernel
theorem dX6_declaration_94 : decode cX6_declaration 94 = .ok (.if_icmp .ge 38, 3) := by decide +kernel
theorem dX6_declaration_97 : decode cX6_declaration 97 = .ok (.aload_n 0, 1) := by decide +kernel
theorem dX6_declaration_98 : decode cX6_declaration 98 = .ok (.getfield 60, 3) := by decide +kernel
theorem dX6_declaration_101 : decode cX6_declaration 101 = .ok (.iload_n 3, 1) := by decide +kernel
theorem dX6_declaration_102 : decode cX6_declaration 102 = .ok (.aload_n 0, 1) := by decide +kernel
theorem dX6_declaration_103 : decode cX6_declaration 103 = .ok (.iload_n 1, 1) := by decide +kernel
theorem dX6_declaration_104 : decode cX6_declaration 104 = .ok (.invokevirtual 132, 3) := by decide +kernel
theorem dX6_declaration_107 : decode cX6_declaration 107 = .ok (.invokevirtual 123, 3) := by decide +kernel
theorem dX6_declaration_110 : decode cX6_declaration 110 = .ok (.aload_n 0, 1) := by decide +kernel
theorem dX6_declaration_111 : decode cX6_declaration 111 = .ok (.invokevirtual 97, 3) := by decide +kernel
theorem dX6_declaration_114 : decode cX6_declaration 114 = .ok (.bipush 57, 2) := by decide +kernel
theorem dX6_declaration_116 : decode cX6_declaration 116 = .ok (.if_icmp .eq 6, 3) := by decide +kernel
theorem dX6_declaration_119 : decode cX6_declaration 119 = .ok (.goto 13, 3) := by decide +kernel
theorem dX6_declaration_122 : decode cX6_declaration 122 = .ok (.aload_n 0, 1) := by decide +kernel
theorem dX6_declaration_123 : decode cX6_declaration 123 = .ok (.invokevirtual 103, 3) := by decide +kernel
theorem dX6_declaration_126 : decode cX6_declaration 126 = .ok (.iinc 4 1, 3) := by decide +kernel
theorem dX6_declaration_129 : decode cX6_declaration 129 = .ok (.goto (-39), 3) := by decide +kernel
theorem dX6_declaration_132 : decode cX6_declaration 132 = .ok (.iload_n 3, 1) := by decide +kernel
theorem dX6_declaration_133 : decode cX6_declaration 133 = .ok (.ireturn, 1) := by decide +kernel
def wc_Parser_declaration_90B (rec : Nat → Int → Int → Int → cS → (Int → cS → Prop) → (cS → Prop) → Prop) (Q : Int → cS → Prop) (E : cS → Prop) (k90 : cS → Int → Int → Int → Prop) (A0 : cS) (x1 : Int) (x3 : Int) (x4 : Int) : Prop :=
  ((1000000 ≤ x4 → Q x3 A0) ∧ (¬ 1000000 ≤ x4 → rec 2 x1 0 0 A0 (fun r4 A5 => wc_Tree_hang A5 x3 r4 (fun A13 => wc_Parser_kind A13  (fun r20 A21 => ((r20 = 57 → wc_Parser_advance A21  (fun A31 => (zR (x4 + 1)) ∧ k90 A31 x1 x3 (x4 + 1))) ∧ (¬ r20 = 57 → Q x3 A21))))) E))
def wc_Parser_declaration_90 (rec : Nat → Int → Int → Int → cS → (Int → cS → Prop) → (cS → Prop) → Prop) (Q : Int → cS → Prop) (E : cS → Prop)  : Nat → cS → Int → Int → Int → Prop
  | 0 => fun _ _ _ _ => False
  | m + 1 => fun A0 x1 x3 x4 => wc_Parser_declaration_90B rec Q E  (wc_Parser_declaration_90 rec Q E  m) A0 x1 x3 x4
def wc_Parser_declaration (rec : Nat → Int → Int → Int → cS → (Int → cS → Prop) → (cS → Prop) → Prop) (A0 : cS) (a0 : Int) (Q : Int → cS → Prop) (E : cS → Prop) : Prop :=
  wc_Parser_kind A0  (fun r1 A2 => ((r1 = 53 → rec 1 a0 0 0 A2 (fun r11 A12 => Q r11 A12) E) ∧ (¬ r1 = 53 → ((r1 = 54 → rec 1 a0 0 0 A2 (fun r22 A23 => Q r22 A23) E) ∧ (¬ r1 = 54 → ((¬ r1 = 55 → wc_Parser_place A2  (fun r33 A34 => wc_Tree_node A34 94 r33 0 (fun r41 A42 => wc_Parser_due A42 52 (fun A50 => ((¬ a0 = 0 → ∃ n, wc_Parser_declaration_90 rec Q E  n A50 a0 r41 0) ∧ (a0 = 0 → wc_Parser_kind A50  (fun r62 A63 => ((¬ r62 = 2 → ∃ n, wc_Parser_declaration_90 rec Q E  n A63 a0 r41 0) ∧ (r62 = 2 → (zR ((yv A63 10) + 1)) ∧ (((yget A63 14 ((yv A63 10) + 1)) = 7 → ∃ n, wc_Parser_declaration_90 rec Q E  n A63 a0 r41 0) ∧ (¬ (yget A63 14 ((yv A63 10) + 1)) = 7 → rec 3 r41 0 0 A63 (fun _ A83 => Q r41 A83) E)))))))) E))) ∧ (r1 = 55 → rec 1 a0 0 0 A2 (fun r91 A92 => Q r91 A92) E)))))))
set_option maxHeartbeats 4000000 in
set_option maxRecDepth 100000 in
theorem cb_Parser_declaration_90 {X : gX} {d : gD} {b : Nat} {Y : gYt} {c : Nat × Nat} {F0 : gM} {S0 : gSt} {mc ms : Nat} {rec : Nat → Int → Int → Int → cS → (Int → cS → Prop) → (cS → Prop) → Prop} {lv0 : Nat} (hC : gC RX6 cX6_declaration 5 (some .int) "declaration" (gR (9 + lv0 + 1) mc ms) d b X) (hr : hRm X b) (hst : X.la.stackTraces = false) (hT : ∀ x ∈ X.co.exceptionTable.toList, False) (hcx : yCx b c) (ih : yOkP X.la d b Y c lv0 rec) {Q : Int → cS → Prop} {E : cS → Prop} {k90 : cS → Int → Int → Int → Prop} (hk90 : ∀ (u : hU) (S : gSt) (A0 : cS) (x1 : Int) (x3 : Int) (x4 : Int), zR x1 → zR x3 → zR x4 → yOk X b u → yZ d b Y c F0 S0 u S A0 → k90 A0 x1 x3 x4 → yG X d b (yxQi X d b Y c F0 S0 mc ms Q E) u 90 [some (.ref (gO' Y 4)), some (.int (zI x1)), none, some (.int (zI x3)), some (.int (zI x4))] []) {u : hU} {S : gSt} {A0 : cS} {x1 : Int} {x3 : Int} {x4 : Int} (Rx1 : zR x1) (Rx3 : zR x3) (Rx4 : zR x4) (ho : yOk X b u) (hZ : yZ d b Y c F0 S0 u S A0) (hw : wc_Parser_declaration_90B rec Q E k90 A0 x1 x3 x4) : yG X d b (yxQi X d b Y c F0 S0 mc ms Q E) u 90 [some (.ref (gO' Y 4)), some (.int (zI x1)), none, some (.int (zI x3)), some (.int (zI x4))] [] := by
  unfold wc_Parser_declaration_90B at hw
  refine h_iload hC dX6_declaration_90 rfl ?_
  refine yr_ldc (e := 1000000) hC dX6_declaration_92 kw_514 (by decide) ?_
  refine yr_icmp_ge (tgt := 132) hC Rx4 (by decide) dX6_declaration_94 (by decide) (fun c1 => ?_) (fun c1 => ?_)
  · have h2 := hw.1 c1
    refine h_iload_n hC dX6_declaration_132 rfl ?_
    exact h_xret (yr_iret hC hr ho hZ Rx3 h2 dX6_declaration_133)
  · have h3 := hw.2 c1
    refine h_aload_n hC dX6_declaration_97 rfl ?_
    refine h_get hC fl_X6_60 (hZ.w.o 4 (by decide)) rfl dX6_declaration_98 ?_
    refine h_iload_n hC dX6_declaration_101 rfl ?_
    refine h_aload_n hC dX6_declaration_102 rfl ?_
    refine h_iload_n hC dX6_declaration_103 rfl ?_
    refine yx_calli (As := [.int (zI x1)]) hC hr ho hZ rfl (hZ.w.o 4 (by decide)) (ih.2.2.1 Rx1 hZ.rs h3) cl_X6_132 rfl rfl (Nat.le_of_ble_eq_true rfl) (hFr_of (by omega) (Nat.le_of_ble_eq_true rfl)) dX6_declaration_104 (fun _ _ _ ho1 hz1 he1 => yx_out hC hr ho1 hz1 hT he1) (fun r4 A5 u6 S7 R8 o9 hZ10 h11 => ?_)
    refine yr_callVv (As := [.int (zI x3), .int (zI r4)]) hC hr o9 hZ10 rfl (hZ10.w.o 2 (by decide)) (cm_Tree_hang X.la d b Rx3 R8 hZ10.rs h11) cl_X6_123 rfl rfl (Nat.le_of_ble_eq_true rfl) (hFr_of (by omega) (Nat.le_of_ble_eq_true rfl)) dX6_declaration_107 (fun A13 u14 S15 o17 hZ18 h19 => ?_)
    refine h_aload_n hC dX6_declaration_110 rfl ?_
    refine yr_callVi (As := []) hC hr o17 hZ18 rfl (hZ18.w.o 4 (by decide)) (cm_Parser_kind X.la d b  hZ18.rs h19) cl_X6_97 rfl rfl (Nat.le_of_ble_eq_true rfl) (hFr_of (by omega) (Nat.le_of_ble_eq_true rfl)) dX6_declaration_111 (fun r20 A21 u22 S23 R24 o25 hZ26 h27 => ?_)
    refine h_bipush (v := zI 57) hC dX6_declaration_114 rfl ?_
    refine yr_icmp_eq (tgt := 122) hC R24 (by decide) dX6_declaration_116 (by decide) (fun c28 => ?_) (fun c28 => ?_)
    · have h29 := h27.1 c28
      refine h_aload_n hC dX6_declaration_122 rfl ?_
      refine yr_callVv (As := []) hC hr o25 hZ26 rfl (hZ26.w.o 4 (by decide)) (cm_Parser_advance X.la d b  hZ26.rs h29) cl_X6_103 rfl rfl (Nat.le_of_ble_eq_true rfl) (hFr_of (by omega) (Nat.le_of_ble_eq_true rfl)) dX6_declaration_123 (fun A31 u32 S33 o35 hZ36 h37 => ?_)
      refine yr_iinc (x := x4) (lv' := [some (.ref (gO' Y 4)), some (.int (zI x1)), none, some (.int (zI x3)), some (.int (zI (x4 + 1)))]) hC dX6_declaration_126 rfl rfl rfl ?_
      refine h_goto (tgt := 90) hC dX6_declaration_129 (by decide) ?_
      obtain ⟨o38, h39⟩ := h37
      exact hk90 _ _ _ _ _ _ Rx1 Rx3 o38 o35 hZ36 h39
    · have h40 := h27.2 c28
      refine h_goto (tgt := 132) hC dX6_declaration_119 (by decide) ?_
      refine h_iload_n hC dX6_declaration_132 rfl ?_
      exact h_xret (yr_iret hC hr o25 hZ26 Rx3 h40 dX6_declaration_133)
theorem cl_Parser_declaration_90 {X : gX} {d : gD} {b : Nat} {Y : gYt} {c : Nat × Nat} {F0 : gM} {S0 : gSt} {mc ms : Nat} {rec : Nat → Int → Int → Int → cS → (Int → cS → Prop) → (cS → Prop) → Prop} {lv0 : Nat} (hC : gC RX6 cX6_declaration 5 (some .int) "declaration" (gR (9 + lv0 + 1) mc ms) d b X) (hr : hRm X b) (hst : X.la.stackTraces = false) (hT : ∀ x ∈ X.co.exceptionTable.toList, False) (hcx : yCx b c) (ih : yOkP X.la d b Y c lv0 rec) {Q : Int → cS → Prop} {E : cS → Prop}   : ∀ (m : Nat) (u : hU) (S : gSt) (A0 : cS) (x1 : Int) (x3 : Int) (x4 : Int), zR x1 → zR x3 → zR x4 → yOk X b u → yZ d b Y c F0 S0 u S A0 → wc_Parser_declaration_90 rec Q E  m A0 x1 x3 x4 → yG X d b (yxQi X d b Y c F0 S0 mc ms Q E) u 90 [some (.ref (gO' Y 4)), some (.int (zI x1)), none, some (.int (zI x3)), some (.int (zI x4))] [] := by
  intro m
  induction m with
  | zero => intro u S A0 x1 x3 x4 Rx1 Rx3 Rx4 ho hZ hw; exact False.elim hw
  | succ m ihm => intro u S A0 x1 x3 x4 Rx1 Rx3 Rx4 ho hZ hw; exact cb_Parser_declaration_90 hC hr hst hT hcx ih  ihm Rx1 Rx3 Rx4 ho hZ hw
set_option maxHeartbeats 4000000 in
set_option maxRecDepth 100000 in
theorem cm_Parser_declaration (l : Launch) (d : gD) (b : Nat) {Y : gYt} {c : Nat × Nat} (hst : l.stackTraces = false) (hcx : yCx b c) {rec : Nat → Int → Int → Int → cS → (Int → cS → Prop) → (cS → Prop) → Prop} {lv0 : Nat} (ih : yOkP l d b Y c lv0 rec) {F : gM} {k n : Nat} {S : gSt} {A0 : cS} {a0 : Int} (Ra0 : zR a0) {Q : Int → cS → Prop} {E : cS → Prop} (hZ : yZ d b Y c F S (F, k, n) S A0) (hw : wc_Parser_declaration rec A0 a0 Q E) : hXi l d b yX6_declaration cX6_declaration 5 .int (9 + lv0 + 1) k n F [.ref (gO' Y 4), .int (zI a0)] (yPi d b Y c F S Q) "java/lang/IllegalStateException" (yPx d b Y c F S E) := by
  intro mc ms
  refine hX_of2 rfl (nL := 5) (Nat.le_of_ble_eq_true rfl) ?_
  intro X hX hT hC hr ho; subst hX
  show yG X d b (yxQi X d b Y c F S mc ms Q E) (F, k, n) 0 [some (.ref (gO' Y 4)), some (.int (zI a0)), none, none, none] []
  unfold wc_Parser_declaration at hw
  refine h_aload_n hC dX6_declaration_0 rfl ?_
  refine yr_callVi (As := []) hC hr ho hZ rfl (hZ.w.o 4 (by decide)) (cm_Parser_kind X.la d b  hZ.rs hw) cl_X6_97 rfl rfl (Nat.le_of_ble_eq_true rfl) (hFr_of (by omega) (Nat.le_of_ble_eq_true rfl)) dX6_declaration_1 (fun r1 A2 u3 S4 R5 o6 hZ7 h8 => ?_)
  refine h_istore_n (lv' := [some (.ref (gO' Y 4)), some (.int (zI a0)), some (.int (zI r1)), none, none]) hC dX6_declaration_4 (Nat.le_of_ble_eq_true rfl) rfl rfl ?_
  refine h_iload_n hC dX6_declaration_5 rfl ?_
  refine h_bipush (v := zI 53) hC dX6_declaration_6 rfl ?_
  refine yr_icmp_eq (tgt := 23) hC R5 (by decide) dX6_declaration_8 (by decide) (fun c9 => ?_) (fun c9 => ?_)
  · have h10 := h8.1 c9
    refine h_aload_n hC dX6_declaration_23 rfl ?_
    refine h_iload_n hC dX6_declaration_24 rfl ?_
    refine yx_calli (As := [.int (zI a0)]) hC hr o6 hZ7 rfl (hZ7.w.o 4 (by decide)) (ih.2.1 Ra0 hZ7.rs h10) cl_X6_126 rfl rfl (Nat.le_of_ble_eq_true rfl) (hFr_of (by omega) (Nat.le_of_ble_eq_true rfl)) dX6_declaration_25 (fun _ _ _ ho1 hz1 he1 => yx_out hC hr ho1 hz1 hT he1) (fun r11 A12 u13 S14 R15 o16 hZ17 h18 => ?_)
    exact h_xret (yr_iret hC hr o16 hZ17 R15 h18 dX6_declaration_28)
  · have h19 := h8.2 c9
    refine h_iload_n hC dX6_declaration_11 rfl ?_
    refine h_bipush (v := zI 54) hC dX6_declaration_12 rfl ?_
    refine yr_icmp_eq (tgt := 23) hC R5 (by decide) dX6_declaration_14 (by decide) (fun c20 => ?_) (fun c20 => ?_)
    · have h21 := h19.1 c20
      refine h_aload_n hC dX6_declaration_23 rfl ?_
      refine h_iload_n hC dX6_declaration_24 rfl ?_
      refine yx_calli (As := [.int (zI a0)]) hC hr o6 hZ7 rfl (hZ7.w.o 4 (by decide)) (ih.2.1 Ra0 hZ7.rs h21) cl_X6_126 rfl rfl (Nat.le_of_ble_eq_true rfl) (hFr_of (by omega) (Nat.le_of_ble_eq_true rfl)) dX6_declaration_25 (fun _ _ _ ho1 hz1 he1 => yx_out hC hr ho1 hz1 hT he1) (fun r22 A23 u24 S25 R26 o27 hZ28 h29 => ?_)
      exact h_xret (yr_iret hC hr o27 hZ28 R26 h29 dX6_declaration_28)
    · have h30 := h19.2 c20
      refine h_iload_n hC dX6_declaration_17 rfl ?_
      refine h_bipush (v := zI 55) hC dX6_declaration_18 rfl ?_
      refine yr_icmp_ne (tgt := 29) hC R5 (by decide) dX6_declaration_20 (by decide) (fun c31 => ?_) (fun c31 => ?_)
      · have h32 := h30.1 c31
        refine h_aload_n hC dX6_declaration_29 rfl ?_
        refine h_get hC fl_X6_60 (hZ7.w.o 4 (by decide)) rfl dX6_declaration_30 ?_
        refine h_bipush (v := zI 94) hC dX6_declaration_33 rfl ?_
        refine h_aload_n hC dX6_declaration_35 rfl ?_
        refine yr_callVi (As := []) hC hr o6 hZ7 rfl (hZ7.w.o 4 (by decide)) (cm_Parser_place X.la d b  hZ7.rs h32) cl_X6_112 rfl rfl (Nat.le_of_ble_eq_true rfl) (hFr_of (by omega) (Nat.le_of_ble_eq_true rfl)) dX6_declaration_36 (fun r33 A34 u35 S36 R37 o38 hZ39 h40 => ?_)
        refine h_iconst (v := zI 0) hC dX6_declaration_39 rfl ?_
        refine yr_callVi (As := [.int (zI 94), .int (zI r33), .int (zI 0)]) hC hr o38 hZ39 rfl (hZ39.w.o 2 (by decide)) (cm_Tree_node X.la d b (by decide) R37 (by decide) hZ39.rs h40) cl_X6_115 rfl rfl (Nat.le_of_ble_eq_true rfl) (hFr_of (by omega) (Nat.le_of_ble_eq_true rfl)) dX6_declaration_40 (fun r41 A42 u43 S44 R45 o46 hZ47 h48 => ?_)
        refine h_istore_n (lv' := [some (.ref (gO' Y 4)), some (.int (zI a0)), some (.int (zI r1)), some (.int (zI r41)), none]) hC dX6_declaration_43 (Nat.le_of_ble_eq_true rfl) rfl rfl ?_
        refine h_aload_n hC dX6_declaration_44 rfl ?_
        refine h_bipush (v := zI 52) hC dX6_declaration_45 rfl ?_
        refine yx_callv (As := [.int (zI 52)]) hC hr o46 hZ47 rfl (hZ47.w.o 4 (by decide)) (cm_Parser_due X.la d b hst hcx (by decide) hZ47.rs h48) cl_X6_109 rfl rfl (Nat.le_of_ble_eq_true rfl) (hFr_of (by omega) (Nat.le_of_ble_eq_true rfl)) dX6_declaration_47 (fun _ _ _ ho1 hz1 he1 => yx_out hC hr ho1 hz1 hT he1) (fun A50 u51 S52 o54 hZ55 h56 => ?_)
        refine h_iload_n hC dX6_declaration_50 rfl ?_
        refine yr_if_ne (tgt := 87) hC Ra0 dX6_declaration_51 (by decide) (fun c57 => ?_) (fun c57 => ?_)
        · have h58 := h56.1 c57
          refine h_iconst (v := zI 0) hC dX6_declaration_87 rfl ?_
          refine h_istore (lv' := [some (.ref (gO' Y 4)), some (.int (zI a0)), some (.int (zI r1)), some (.int (zI r41)), some (.int (zI 0))]) hC dX6_declaration_88 (Nat.le_of_ble_eq_true rfl) rfl rfl ?_
          refine h_lv (lv' := [some (.ref (gO' Y 4)), some (.int (zI a0)), none, some (.int (zI r41)), some (.int (zI 0))]) ⟨rfl, rfl, rfl, rfl, trivial⟩ ?_
          obtain ⟨m59, h60⟩ := h58
          exact cl_Parser_declaration_90 hC hr hst hT hcx ih  m59 _ _ _ _ _ _ Ra0 R45 (by decide) o54 hZ55 h60
        · have h61 := h56.2 c57
          refine h_aload_n hC dX6_declaration_54 rfl ?_
          refine yr_callVi (As := []) hC hr o54 hZ55 rfl (hZ55.w.o 4 (by decide)) (cm_Parser_kind X.la d b  hZ55.rs h61) cl_X6_97 rfl rfl (Nat.le_of_ble_eq_true rfl) (hFr_of (by omega) (Nat.le_of_ble_eq_true rfl)) dX6_declaration_55 (fun r62 A63 u64 S65 R66 o67 hZ68 h69 => ?_)
          refine h_iconst (v := zI 2) hC dX6_declaration_58 rfl ?_
          refine yr_icmp_ne (tgt := 87) hC R66 (by decide) dX6_declaration_59 (by decide) (fun c70 => ?_) (fun c70 => ?_)
          · have h71 := h69.1 c70
            refine h_iconst (v := zI 0) hC dX6_declaration_87 rfl ?_
            refine h_istore (lv' := [some (.ref (gO' Y 4)), some (.int (zI a0)), some (.int (zI r1)), some (.int (zI r41)), some (.int (zI 0))]) hC dX6_declaration_88 (Nat.le_of_ble_eq_true rfl) rfl rfl ?_
            refine h_lv (lv' := [some (.ref (gO' Y 4)), some (.int (zI a0)), none, some (.int (zI r41)), some (.int (zI 0))]) ⟨rfl, rfl, rfl, rfl, trivial⟩ ?_
            obtain ⟨m72, h73⟩ := h71
            exact cl_Parser_declaration_90 hC hr hst hT hcx ih  m72 _ _ _ _ _ _ Ra0 R45 (by decide) o67 hZ68 h73
          · have h74 := h69.2 c70
            refine h_aload_n hC dX6_declaration_62 rfl ?_
            refine h_get hC fl_X6_43 (hZ68.w.o 4 (by decide)) rfl dX6_declaration_63 ?_
            refine h_aload_n hC dX6_declaration_66 rfl ?_
            refine h_get hC fl_X6_27 (hZ68.w.o 4 (by decide)) rfl dX6_declaration_67 ?_
            refine yr_sv (e := (yv A63 10)) hZ68 10 rfl ?_
            refine h_iconst (v := zI 1) hC dX6_declaration_70 rfl ?_
            refine yr_iadd hC dX6_declaration_71 ?_
            obtain ⟨o75, h76⟩ := h74
            refine yr_get (j := 14) (e := (yget A63 14 ((yv A63 10) + 1))) hC hr o67 hZ68 (by decide) o75 rfl cl_X6_82 rfl (Nat.le_of_ble_eq_true rfl) (hFr_of (by omega) (Nat.le_of_ble_eq_true rfl)) dX6_declaration_72 ?_
            refine h_bipush (v := zI 7) hC dX6_declaration_75 rfl ?_
            refine yr_icmp_eq (tgt := 87) hC (hZ68.rg 14 _) (by decide) dX6_declaration_77 (by decide) (fun c77 => ?_) (fun c77 => ?_)
            · have h78 := h76.1 c77
              refine h_iconst (v := zI 0) hC dX6_declaration_87 rfl ?_
              refine h_istore (lv' := [some (.ref (gO' Y 4)), some (.int (zI a0)), some (.int (zI r1)), some (.int (zI r41)), some (.int (zI 0))]) hC dX6_declaration_88 (Nat.le_of_ble_eq_true rfl) rfl rfl ?_
              refine h_lv (lv' := [some (.ref (gO' Y 4)), some (.int (zI a0)), none, some (.int (zI r41)), some (.int (zI 0))]) ⟨rfl, rfl, rfl, rfl, trivial⟩ ?_
              obtain ⟨m79, h80⟩ := h78
              exact cl_Parser_declaration_90 hC hr hst hT hcx ih  m79 _ _ _ _ _ _ Ra0 R45 (by decide) o67 hZ68 h80
            · have h81 := h76.2 c77
              refine h_aload_n hC dX6_declaration_80 rfl ?_
              refine h_iload_n hC dX6_declaration_81 rfl ?_
              refine yx_callv (As := [.int (zI r41)]) hC hr o67 hZ68 rfl (hZ68.w.o 4 (by decide)) (ih.2.2.2.1 R45 hZ68.rs h81) cl_X6_129 rfl rfl (Nat.le_of_ble_eq_true rfl) (hFr_of (by omega) (Nat.le_of_ble_eq_true rfl)) dX6_declaration_82 (fun _ _ _ ho1 hz1 he1 => yx_out hC hr ho1 hz1 hT he1) (fun A83 u84 S85 o87 hZ88 h89 => ?_)
              refine h_iload_n hC dX6_declaration_85 rfl ?_
              exact h_xret (yr_iret hC hr o87 hZ88 R45 h89 dX6_declaration_86)
      · have h90 := h30.2 c31
        refine h_aload_n hC dX6_declaration_23 rfl ?_
        refine h_iload_n hC dX6_declaration_24 rfl ?_
        refine yx_calli (As := [.int (zI a0)]) hC hr o6 hZ7 rfl (hZ7.w.o 4 (by decide)) (ih.2.1 Ra0 hZ7.rs h90) cl_X6_126 rfl rfl (Nat.le_of_ble_eq_true rfl) (hFr_of (by omega) (Nat.le_of_ble_eq_true rfl)) dX6_declaration_25 (fun _ _ _ ho1 hz1 he1 => yx_out hC hr ho1 hz1 hT he1) (fun r91 A92 u93 S94 R95 o96 hZ97 h98 => ?_)
        exact h_xret (yr_iret hC hr o96 hZ97 R95 h98 dX6_declaration_28)
theorem dX6_definitions_0 : decode cX6_definitions 0 = .ok (.aload_n 0, 1) := by decide +kernel
theorem dX6_definitions_1 : decode cX6_definitions 1 = .ok (.invokevirtual 97, 3) := by decide +kernel
theorem dX6_definitions_4 : decode cX6_definitions 4 = .ok (.istore_n 2, 1) := by decide +kernel
theorem dX6_definitions_5 : decode cX6_definitions 5 = .ok (.aload_n 0, 1) := by decide +kernel
theorem dX6_definitions_6 : decode cX6_definitions 6 = .ok (.iload_n 2, 1) := by decide +kernel
theorem dX6_definitions_7 : decode cX6_definitions 7 = .ok (.invokevirtual 135, 3) := by decide +kernel
theorem dX6_definitions_10 : decode cX6_definitions 10 = .ok (.istore_n 3, 1) := by decide +kernel
theorem dX6_definitions_11 : decode cX6_definitions 11 = .ok (.aload_n 0, 1) := by decide +kernel
theorem dX6_definitions_12 : decode cX6_definitions 12 = .ok (.invokevirtual 138, 3) := by decide +kernel
theorem dX6_definitions_15 : decode cX6_definitions 15 = .ok (.iconst 0, 1) := by decide +kernel
theorem dX6_definitions_16 : decode cX6_definitions 16 = .ok (.istore 4, 2) := by decide +kernel
theorem dX6_definitions_18 : decode cX6_definitions 18 = .ok (.iload 4, 2) := by decide +kernel
theorem dX6_definitions_20 : decode cX6_definitions 20 = .ok (.ldc 11, 2) := by decide +kernel
theorem dX6_definitions_22 : decode cX6_definitions 22 = .ok (.if_icmp .ge 133, 3) := by decide +kernel
theorem dX6_definitions_25 : decode cX6_definitions 25 = .ok (.aload_n 0, 1) := by decide +kernel
theorem dX6_definitions_26 : decode cX6_definitions 26 = .ok (.getfield 60, 3) := by decide +kernel
theorem dX6_definitions_29 : decode cX6_definitions 29 = .ok (.bipush 98, 2) := by decide +kernel
theorem dX6_definitions_31 : decode cX6_definitions 31 = .ok (.aload_n 0, 1) := by decide +kernel
theorem dX6_definitions_32 : decode cX6_definitions 32 = .ok (.invokevirtual 112, 3) := by decide +kernel
theorem dX6_definitions_35 : decode cX6_definitions 35 = .ok (.aload_n 0, 1) := by decide +kernel
theorem dX6_definitions_36 : decode cX6_definitions 36 = .ok (.invokevirtual 141, 3) := by decide +kernel
theorem dX6_definitions_39 : decode cX6_definitions 39 = .ok (.invokevirtual 115, 3) := by decide +kernel
theorem dX6_definitions_42 : decode cX6_definitions 42 = .ok (.istore 5, 2) := by decide +kernel
theorem dX6_definitions_44 : decode cX6_definitions 44 = .ok (.iload_n 2, 1) := by decide +kernel
theorem dX6_definitions_45 : decode cX6_definitions 45 = .ok (.bipush 53, 2) := by decide +kernel
theorem dX6_definitions_47 : decode cX6_definitions 47 = .ok (.if_icmp .ne 23, 3) := by decide +kernel
theorem dX6_definitions_50 : decode cX6_definitions 50 = .ok (.iload_n 1, 1) := by decide +kernel
theorem dX6_definitions_51 : decode cX6_definitions 51 = .ok (.ifCond .eq 19, 3) := by decide +kernel
theorem dX6_definitions_54 : decode cX6_definitions 54 = .ok (.aload_n 0, 1) := by decide +kernel
theorem dX6_definitions_55 : decode cX6_definitions 55 = .ok (.getfield 24, 3) := by decide +kernel
theorem dX6_definitions_58 : decode cX6_definitions 58 = .ok (.aload_n 0, 1) := by decide +kernel
theorem dX6_definitions_59 : decode cX6_definitions 59 = .ok (.getfield 60, 3) := by decide +kernel
theorem dX6_definitions_62 : decode cX6_definitions 62 = .ok (.iload 5, 2) := by decide +kernel
theorem dX6_definitions_64 : decode cX6_definitions 64 = .ok (.invokevirtual 144, 3) := by decide +kernel
theorem dX6_definitions_67 : decode cX6_definitions 67 = .ok (.invokevirtual 147, 3) := by decide +kernel
theorem dX6_definitions_70 : decode cX6_definitions 70 = .ok (.iload_n 2, 1) := by decide +kernel
theorem dX6_definitions_71 : decode cX6_definitions 71 = .ok (.bipush 55, 2) := by decide +kernel
theorem dX6_definitions_73 : decode cX6_definitions 73 = .ok (.if_icmp .ne 20, 3) := by decide +kernel
theorem dX6_definitions_76 : decode cX6_definitions 76 = .ok (.aload_n 0, 1) := by decide +kernel
theorem dX6_definitions_77 : decode cX6_definitions 77 = .ok (.getfield 60, 3) := by decide +kernel
theorem dX6_definitions_80 : decode cX6_definitions 80 = .ok (.iload 5, 2) := by decide +kernel
theorem dX6_definitions_82 : decode cX6_definitions 82 = .ok (.aload_n 0, 1) := by decide +kernel
theorem dX6_definitions_83 : decode cX6_definitions 83 = .ok (.getfield 64, 3) := by decide +kernel
theorem dX6_definitions_86 : decode cX6_definitions 86 = .ok (.iconst 0, 1) := by decide +kernel
theorem dX6_definitions_87 : decode cX6_definitions 87 = .ok (.invokevirtual 150, 3) := by decide +kernel
theorem dX6_definitions_90 : decode cX6_definitions 90 = .ok (.invokevirtual 153, 3) := by decide +kernel
theorem dX6_definitions_93 : decode cX6_definitions 93 = .ok (.aload_n 0, 1) := by decide +kernel
theorem dX6_definitions_94 : decode cX6_definitions 94 = .ok (.iload_n 2, 1) := by decide +kernel
theorem dX6_definitions_95 : decode cX6_definitions 95 = .ok (.bipush 53, 2) := by decide +kernel
theorem dX6_definitions_97 : decode cX6_definitions 97 = .ok (.if_icmp .ne 8, 3) := by decide +kernel
theorem dX6_definitions_100 : decode cX6_definitions 100 = .ok (.bipush 12, 2) := by decide +kernel
theorem dX6_definitions_102 : decode cX6_definitions 102 = .ok (.goto 5, 3) := by decide +kernel
theorem dX6_definitions_105 : decode cX6_definitions 105 = .ok (.bipush 20, 2) := by decide +kernel
theorem dX6_definitions_107 : decode cX6_definitions 107 = .ok (.invokevirtual 109, 3) := by decide +kernel
theorem dX6_definitions_110 : decode cX6_definitions 110 = .ok (.aload_n 0, 1) := by decide +kernel
theorem dX6_definitions_111 : decode cX6_definitions 111 = .ok (.getfield 60, 3) := by decide +kernel
theorem dX6_definitions_114 : decode cX6_definitions 114 = .ok (.iload 5, 2) := by decide +kernel
theorem dX6_definitions_116 : decode cX6_definitions 116 = .ok (.aload_n 0, 1) := by decide +kernel
theorem dX6_definitions_117 : decode cX6_definitions 117 = .ok (.invokevirtual 156, 3) := by decide +kernel
theorem dX6_definitions_120 : decode cX6_definitions 120 = .ok (.invokevirtual 123, 3) := by decide +kernel
theorem dX6_definitions_123 : decode cX6_definitions 123 = .ok (.aload_n 0, 1) := by decide +kernel
theorem dX6_definitions_124 : decode cX6_definitions 124 = .ok (.getfield 60, 3) := by decide +kernel
theorem dX6_definitions_127 : decode cX6_definitions 127 = .ok (.iload_n 3, 1) := by decide +kernel
theorem dX6_definitions_128 : decode cX6_definitions 128 = .ok (.iload 5, 2) := by decide +kernel
theorem dX6_definitions_130 : decode cX6_definitions 130 = .ok (.invokevirtual 123, 3) := by decide +kernel
theorem dX6_definitions_133 : decode cX6_definitions 133 = .ok (.aload_n 0, 1) := by decide +kernel
theorem dX6_definitions_134 : decode cX6_definitions 134 = .ok (.invokevirtual 97, 3) := by decide +kernel
theorem dX6_definitions_137 : decode cX6_definitions 137 = .ok (.bipush 10, 2) := by decide +kernel
theorem dX6_definitions_139 : decode cX6_definitions 139 = .ok (.if_icmp .eq 6, 3) := by decide +kernel
theorem dX6_definitions_142 : decode cX6_definitions 142 = .ok (.goto 13, 3) := by decide +kernel
theorem dX6_definitions_145 : decode cX6_definitions 145 = .ok (.aload_n 0, 1) := by decide +kernel
theorem dX6_definitions_146 : decode cX6_definitions 146 = .ok (.invokevirtual 103, 3) := by decide +kernel
theorem dX6_definitions_149 : decode cX6_definitions 149 = .ok (.iinc 4 1, 3) := by decide +kernel
theorem dX6_definitions_152 : decode cX6_definitions 152 = .ok (.goto (-134), 3) := by decide +kernel
theorem dX6_definitions_155 : decode cX6_definitions 155 = .ok (.aload_n 0, 1) := by decide +kernel
theorem dX6_definitions_156 : decode cX6_definitions 156 = .ok (.invokevirtual 159, 3) := by decide +kernel
theorem dX6_definitions_159 : decode cX6_definitions 159 = .ok (.iload_n 3, 1) := by decide +kernel
theorem dX6_definitions_160 : decode cX6_definitions 160 = .ok (.ireturn, 1) := by decide +kernel
def wc_Parser_definitions_107 (rec : Nat → Int → Int → Int → cS → (Int → cS → Prop) → (cS → Prop) → Prop) (Q : Int → cS → Prop) (E : cS → Prop) (k18 : cS → Int → Int → Int → Int → Prop) (A0 : cS) (x1 : Int) (x2 : Int) (x3 : Int) (x4 : Int) (x5 : Int) (y0 : Int) : Prop :=
  wc_Parser_due A0 y0 (fun A2 => rec 12 0 0 0 A2 (fun r9 A10 => wc_Tree_hang A10 x5 r9 (fun A18 => wc_Tree_hang A18 x3 x5 (fun A26 => wc_Parser_kind A26  (fun r33 A34 => ((r33 = 10 → wc_Parser_advance A34  (fun A44 => (zR (x4 + 1)) ∧ k18 A44 x1 x2 x3 (x4 + 1))) ∧ (¬ r33 = 10 → wc_Parser_close A34  (fun A55 => Q x3 A55) E)))))) E) E
def wc_Parser_definitions_70 (rec : Nat → Int → Int → Int → cS → (Int → cS → Prop) → (cS → Prop) → Prop) (Q : Int → cS → Prop) (E : cS → Prop) (k18 : cS → Int → Int → Int → Int → Prop) (A0 : cS) (x1 : Int) (x2 : Int) (x3 : Int) (x4 : Int) (x5 : Int) : Prop :=
  ((¬ x2 = 55 → ((¬ x2 = 53 → wc_Parser_definitions_107 rec Q E k18 A0 x1 x2 x3 x4 x5 20) ∧ (x2 = 53 → wc_Parser_definitions_107 rec Q E k18 A0 x1 x2 x3 x4 x5 12))) ∧ (x2 = 55 → wc_Program_addWord A0 0 (fun r7 A8 => wc_Tree_setExtra A8 x5 r7 (fun A16 => ((¬ x2 = 53 → wc_Parser_definitions_107 rec Q E k18 A16 x1 x2 x3 x4 x5 20) ∧ (x2 = 53 → wc_Parser_definitions_107 rec Q E k18 A16 x1 x2 x3 x4 x5 12))))))
def wc_Parser_definitions_18B (rec : Nat → Int → Int → Int → cS → (Int → cS → Prop) → (cS → Prop) → Prop) (Q : Int → cS → Prop) (E : cS → Prop) (k18 : cS → Int → Int → Int → Int → Prop) (A0 : cS) (x1 : Int) (x2 : Int) (x3 : Int) (x4 : Int) : Prop :=
  ((1000000 ≤ x4 → wc_Parser_close A0  (fun A4 => Q x3 A4) E) ∧ (¬ 1000000 ≤ x4 → wc_Parser_place A0  (fun r12 A13 => wc_Parser_nameDue A13  (fun r20 A21 => wc_Tree_node A21 98 r12 r20 (fun r28 A29 => ((¬ x2 = 53 → wc_Parser_definitions_70 rec Q E k18 A29 x1 x2 x3 x4 r28) ∧ (x2 = 53 → ((x1 = 0 → wc_Parser_definitions_70 rec Q E k18 A29 x1 x2 x3 x4 r28) ∧ (¬ x1 = 0 → wc_Tree_data A29 r28 (fun r42 A43 => ((yz A43 23) < 1400) ∧ wc_Parser_definitions_70 rec Q E k18 (yadd A43 23 r42) x1 x2 x3 x4 r28))))))) E)))
def wc_Parser_definitions_18 (rec : Nat → Int → Int → Int → cS → (Int → cS → Prop) → (cS → Prop) → Prop) (Q : Int → cS → Prop) (E : cS → Prop)  : Nat → cS → Int → Int → Int → Int → Prop
  | 0 => fun _ _ _ _ _ => False
  | m + 1 => fun A0 x1 x2 x3 x4 => wc_Parser_definitions_18B rec Q E  (wc_Parser_definitions_18 rec Q E  m) A0 x1 x2 x3 x4
def wc_Parser_definitions (rec : Nat → Int → Int → Int → cS → (Int → cS → Prop) → (cS → Prop) → Prop) (A0 : cS) (a0 : Int) (Q : Int → cS → Prop) (E : cS → Prop) : Prop :=
  wc_Parser_kind A0  (fun r1 A2 => wc_Parser_leaf A2 r1 (fun r9 A10 => wc_Parser_open A10  (fun A18 => ∃ n, wc_Parser_definitions_18 rec Q E  n A18 a0 r1 r9 0) E))
set_option maxHeartbeats 4000000 in
set_option maxRecDepth 100000 in
theorem cj_Parser_definitions_107 {X : gX} {d : gD} {b : Nat} {Y : gYt} {c : Nat × Nat} {F0 : gM} {S0 : gSt} {mc ms : Nat} {rec : Nat → Int → Int → Int → cS → (Int → cS → Prop) → (cS → Prop) → Prop} {lv0 : Nat} (hC : gC RX6 cX6_definitions 6 (some .int) "definitions" (gR (9 + lv0 + 1) mc ms) d b X) (hr : hRm X b) (hst : X.la.stackTraces = false) (hT : ∀ x ∈ X.co.exceptionTable.toList, False) (hcx : yCx b c) (ih : yOkP X.la d b Y c lv0 rec) {Q : Int → cS → Prop} {E : cS → Prop} {k18 : cS → Int → Int → Int → Int → Prop} (hk18 : ∀ (u : hU) (S : gSt) (A0 : cS) (x1 : Int) (x2 : Int) (x3 : Int) (x4 : Int), zR x1 → zR x2 → zR x3 → zR x4 → yOk X b u → yZ d b Y c F0 S0 u S A0 → k18 A0 x1 x2 x3 x4 → yG X d b (yxQi X d b Y c F0 S0 mc ms Q E) u 18 [some (.ref (gO' Y 4)), some (.int (zI x1)), some (.int (zI x2)), some (.int (zI x3)), some (.int (zI x4)), none] []) {u : hU} {S : gSt} {A0 : cS} {x1 : Int} {x2 : Int} {x3 : Int} {x4 : Int} {x5 : Int} {y0 : Int} (Rx1 : zR x1) (Rx2 : zR x2) (Rx3 : zR x3) (Rx4 : zR x4) (Rx5 : zR x5) (Ry0 : zR y0) (ho : yOk X b u) (hZ : yZ d b Y c F0 S0 u S A0) (hw : wc_Parser_definitions_107 rec Q E k18 A0 x1 x2 x3 x4 x5 y0) : yG X d b (yxQi X d b Y c F0 S0 mc ms Q E) u 107 [some (.ref (gO' Y 4)), some (.int (zI x1)), some (.int (zI x2)), some (.int (zI x3)), some (.int (zI x4)), some (.int (zI x5))] [.int (zI y0), .ref (gO' Y 4)] := by
  unfold wc_Parser_definitions_107 at hw
  refine yx_callv (As := [.int (zI y0)]) hC hr ho hZ rfl (hZ.w.o 4 (by decide)) (cm_Parser_due X.la d b hst hcx Ry0 hZ.rs hw) cl_X6_109 rfl rfl (Nat.le_of_ble_eq_true rfl) (hFr_of (by omega) (Nat.le_of_ble_eq_true rfl)) dX6_definitions_107 (fun _ _ _ ho1 hz1 he1 => yx_out hC hr ho1 hz1 hT he1) (fun A2 u3 S4 o6 hZ7 h8 => ?_)
  refine h_aload_n hC dX6_definitions_110 rfl ?_
  refine h_get hC fl_X6_60 (hZ7.w.o 4 (by decide)) rfl dX6_definitions_111 ?_
  refine h_iload hC dX6_definitions_114 rfl ?_
  refine h_aload_n hC dX6_definitions_116 rfl ?_
  refine yx_calli (As := []) hC hr o6 hZ7 rfl (hZ7.w.o 4 (by decide)) (ih.2.2.2.2.2.2.2.2.2.2.2.2.1  hZ7.rs h8) cl_X6_156 rfl rfl (Nat.le_of_ble_eq_true rfl) (hFr_of (by omega) (Nat.le_of_ble_eq_true rfl)) dX6_definitions_117 (fun _ _ _ ho1 hz1 he1 => yx_out hC hr ho1 hz1 hT he1) (fun r9 A10 u11 S12 R13 o14 hZ15 h16 => ?_)
  refine yr_callVv (As := [.int (zI x5), .int (zI r9)]) hC hr o14 hZ15 rfl (hZ15.w.o 2 (by decide)) (cm_Tree_hang X.la d b Rx5 R13 hZ15.rs h16) cl_X6_123 rfl rfl (Nat.le_of_ble_eq_true rfl) (hFr_of (by omega) (Nat.le_of_ble_eq_true rfl)) dX6_definitions_120 (fun A18 u19 S20 o22 hZ23 h24 => ?_)
  refine h_aload_n hC dX6_definitions_123 rfl ?_
  refine h_get hC fl_X6_60 (hZ23.w.o 4 (by decide)) rfl dX6_definitions_124 ?_
  refine h_iload_n hC dX6_definitions_127 rfl ?_
  refine h_iload hC dX6_definitions_128 rfl ?_
  refine yr_callVv (As := [.int (zI x3), .int (zI x5)]) hC hr o22 hZ23 rfl (hZ23.w.o 2 (by decide)) (cm_Tree_hang X.la d b Rx3 Rx5 hZ23.rs h24) cl_X6_123 rfl rfl (Nat.le_of_ble_eq_true rfl) (hFr_of (by omega) (Nat.le_of_ble_eq_true rfl)) dX6_definitions_130 (fun A26 u27 S28 o30 hZ31 h32 => ?_)
  refine h_aload_n hC dX6_definitions_133 rfl ?_
  refine yr_callVi (As := []) hC hr o30 hZ31 rfl (hZ31.w.o 4 (by decide)) (cm_Parser_kind X.la d b  hZ31.rs h32) cl_X6_97 rfl rfl (Nat.le_of_ble_eq_true rfl) (hFr_of (by omega) (Nat.le_of_ble_eq_true rfl)) dX6_definitions_134 (fun r33 A34 u35 S36 R37 o38 hZ39 h40 => ?_)
  refine h_bipush (v := zI 10) hC dX6_definitions_137 rfl ?_
  refine yr_icmp_eq (tgt := 145) hC R37 (by decide) dX6_definitions_139 (by decide) (fun c41 => ?_) (fun c41 => ?_)
  · have h42 := h40.1 c41
    refine h_aload_n hC dX6_definitions_145 rfl ?_
    refine yr_callVv (As := []) hC hr o38 hZ39 rfl (hZ39.w.o 4 (by decide)) (cm_Parser_advance X.la d b  hZ39.rs h42) cl_X6_103 rfl rfl (Nat.le_of_ble_eq_true rfl) (hFr_of (by omega) (Nat.le_of_ble_eq_true rfl)) dX6_definitions_146 (fun A44 u45 S46 o48 hZ49 h50 => ?_)
    refine yr_iinc (x := x4) (lv' := [some (.ref (gO' Y 4)), some (.int (zI x1)), some (.int (zI x2)), some (.int (zI x3)), some (.int (zI (x4 + 1))), some (.int (zI x5))]) hC dX6_definitions_149 rfl rfl rfl ?_
    refine h_goto (tgt := 18) hC dX6_definitions_152 (by decide) ?_
    obtain ⟨o51, h52⟩ := h50
    refine h_lv (lv' := [some (.ref (gO' Y 4)), some (.int (zI x1)), some (.int (zI x2)), some (.int (zI x3)), some (.int (zI (x4 + 1))), none]) ⟨rfl, rfl, rfl, rfl, rfl, trivial⟩ ?_
    exact hk18 _ _ _ _ _ _ _ Rx1 Rx2 Rx3 o51 o48 hZ49 h52
  · have h53 := h40.2 c41
    refine h_goto (tgt := 155) hC dX6_definitions_142 (by decide) ?_
    refine h_aload_n hC dX6_definitions_155 rfl ?_
    refine yx_callv (As := []) hC hr o38 hZ39 rfl (hZ39.w.o 4 (by decide)) (cm_Parser_close X.la d b hst hcx  hZ39.rs h53) cl_X6_159 rfl rfl (Nat.le_of_ble_eq_true rfl) (hFr_of (by omega) (Nat.le_of_ble_eq_true rfl)) dX6_definitions_156 (fun _ _ _ ho1 hz1 he1 => yx_out hC hr ho1 hz1 hT he1) (fun A55 u56 S57 o59 hZ60 h61 => ?_)
    refine h_iload_n hC dX6_definitions_159 rfl ?_
    exact h_xret (yr_iret hC hr o59 hZ60 Rx3 h61 dX6_definitions_160)
set_option maxHeartbeats 4000000 in
set_option maxRecDepth 100000 in
theorem cj_Parser_definitions_70 {X : gX} {d : gD} {b : Nat} {Y : gYt} {c : Nat × Nat} {F0 : gM} {S0 : gSt} {mc ms : Nat} {rec : Nat → Int → Int → Int → cS → (Int → cS → Prop) → (cS → Prop) → Prop} {lv0 : Nat} (hC : gC RX6 cX6_definitions 6 (some .int) "definitions" (gR (9 + lv0 + 1) mc ms) d b X) (hr : hRm X b) (hst : X.la.stackTraces = false) (hT : ∀ x ∈ X.co.exceptionTable.toList, False) (hcx : yCx b c) (ih : yOkP X.la d b Y c lv0 rec) {Q : Int → cS → Prop} {E : cS → Prop} {k18 : cS → Int → Int → Int → Int → Prop} (hk18 : ∀ (u : hU) (S : gSt) (A0 : cS) (x1 : Int) (x2 : Int) (x3 : Int) (x4 : Int), zR x1 → zR x2 → zR x3 → zR x4 → yOk X b u → yZ d b Y c F0 S0 u S A0 → k18 A0 x1 x2 x3 x4 → yG X d b (yxQi X d b Y c F0 S0 mc ms Q E) u 18 [some (.ref (gO' Y 4)), some (.int (zI x1)), some (.int (zI x2)), some (.int (zI x3)), some (.int (zI x4)), none] []) {u : hU} {S : gSt} {A0 : cS} {x1 : Int} {x2 : Int} {x3 : Int} {x4 : Int} {x5 : Int} (Rx1 : zR x1) (Rx2 : zR x2) (Rx3 : zR x3) (Rx4 : zR x4) (Rx5 : zR x5) (ho : yOk X b u) (hZ : yZ d b Y c F0 S0 u S A0) (hw : wc_Parser_definitions_70 rec Q E k18 A0 x1 x2 x3 x4 x5) : yG X d b (yxQi X d b Y c F0 S0 mc ms Q E) u 70 [some (.ref (gO' Y 4)), some (.int (zI x1)), some (.int (zI x2)), some (.int (zI x3)), some (.int (zI x4)), some (.int (zI x5))] [] := by
  unfold wc_Parser_definitions_70 at hw
  refine h_iload_n hC dX6_definitions_70 rfl ?_
  refine h_bipush (v := zI 55) hC dX6_definitions_71 rfl ?_
  refine yr_icmp_ne (tgt := 93) hC Rx2 (by decide) dX6_definitions_73 (by decide) (fun c1 => ?_) (fun c1 => ?_)
  · have h2 := hw.1 c1
    refine h_aload_n hC dX6_definitions_93 rfl ?_
    refine h_iload_n hC dX6_definitions_94 rfl ?_
    refine h_bipush (v := zI 53) hC dX6_definitions_95 rfl ?_
    refine yr_icmp_ne (tgt := 105) hC Rx2 (by decide) dX6_definitions_97 (by decide) (fun c3 => ?_) (fun c3 => ?_)
    · have h4 := h2.1 c3
      refine h_bipush (v := zI 20) hC dX6_definitions_105 rfl ?_
      exact cj_Parser_definitions_107 hC hr hst hT hcx ih hk18 Rx1 Rx2 Rx3 Rx4 Rx5 (by decide) ho hZ h4
    · have h5 := h2.2 c3
      refine h_bipush (v := zI 12) hC dX6_definitions_100 rfl ?_
      refine h_goto (tgt := 107) hC dX6_definitions_102 (by decide) ?_
      exact cj_Parser_definitions_107 hC hr hst hT hcx ih hk18 Rx1 Rx2 Rx3 Rx4 Rx5 (by decide) ho hZ h5
  · have h6 := hw.2 c1
    refine h_aload_n hC dX6_definitions_76 rfl ?_
    refine h_get hC fl_X6_60 (hZ.w.o 4 (by decide)) rfl dX6_definitions_77 ?_
    refine h_iload hC dX6_definitions_80 rfl ?_
    refine h_aload_n hC dX6_definitions_82 rfl ?_
    refine h_get hC fl_X6_64 (hZ.w.o 4 (by decide)) rfl dX6_definitions_83 ?_
    refine h_iconst (v := zI 0) hC dX6_definitions_86 rfl ?_
    refine yr_callVi (As := [.int (zI 0)]) hC hr ho hZ rfl (hZ.w.o 1 (by decide)) (cm_Program_addWord X.la d b (by decide) hZ.rs h6) cl_X6_150 rfl rfl (Nat.le_of_ble_eq_true rfl) (hFr_of (by omega) (Nat.le_of_ble_eq_true rfl)) dX6_definitions_87 (fun r7 A8 u9 S10 R11 o12 hZ13 h14 => ?_)
    refine yr_callVv (As := [.int (zI x5), .int (zI r7)]) hC hr o12 hZ13 rfl (hZ13.w.o 2 (by decide)) (cm_Tree_setExtra X.la d b Rx5 R11 hZ13.rs h14) cl_X6_153 rfl rfl (Nat.le_of_ble_eq_true rfl) (hFr_of (by omega) (Nat.le_of_ble_eq_true rfl)) dX6_definitions_90 (fun A16 u17 S18 o20 hZ21 h22 => ?_)
    refine h_aload_n hC dX6_definitions_93 rfl ?_
    refine h_iload_n hC dX6_definitions_94 rfl ?_
    refine h_bipush (v := zI 53) hC dX6_definitions_95 rfl ?_
    refine yr_icmp_ne (tgt := 105) hC Rx2 (by decide) dX6_definitions_97 (by decide) (fun c23 => ?_) (fun c23 => ?_)
    · have h24 := h22.1 c23
      refine h_bipush (v := zI 20) hC dX6_definitions_105 rfl ?_
      exact cj_Parser_definitions_107 hC hr hst hT hcx ih hk18 Rx1 Rx2 Rx3 Rx4 Rx5 (by decide) o20 hZ21 h24
    · have h25 := h22.2 c23
      refine h_bipush (v := zI 12) hC dX6_definitions_100 rfl ?_
      refine h_goto (tgt := 107) hC dX6_definitions_102 (by decide) ?_
      exact cj_Parser_definitions_107 hC hr hst hT hcx ih hk18 Rx1 Rx2 Rx3 Rx4 Rx5 (by decide) o20 hZ21 h25
set_option maxHeartbeats 4000000 in
set_option maxRecDepth 100000 in
theorem cb_Parser_definitions_18 {X : gX} {d : gD} {b : Nat} {Y : gYt} {c : Nat × Nat} {F0 : gM} {S0 : gSt} {mc ms : Nat} {rec : Nat → Int → Int → Int → cS → (Int → cS → Prop) → (cS → Prop) → Prop} {lv0 : Nat} (hC : gC RX6 cX6_definitions 6 (some .int) "definitions" (gR (9 + lv0 + 1) mc ms) d b X) (hr : hRm X b) (hst : X.la.stackTraces = false) (hT : ∀ x ∈ X.co.exceptionTable.toList, False) (hcx : yCx b c) (ih : yOkP X.la d b Y c lv0 rec) {Q : Int → cS → Prop} {E : cS → Prop} {k18 : cS → Int → Int → Int → Int → Prop} (hk18 : ∀ (u : hU) (S : gSt) (A0 : cS) (x1 : Int) (x2 : Int) (x3 : Int) (x4 : Int), zR x1 → zR x2 → zR x3 → zR x4 → yOk X b u → yZ d b Y c F0 S0 u S A0 → k18 A0 x1 x2 x3 x4 → yG X d b (yxQi X d b Y c F0 S0 mc ms Q E) u 18 [some (.ref (gO' Y 4)), some (.int (zI x1)), some (.int (zI x2)), some (.int (zI x3)), some (.int (zI x4)), none] []) {u : hU} {S : gSt} {A0 : cS} {x1 : Int} {x2 : Int} {x3 : Int} {x4 : Int} (Rx1 : zR x1) (Rx2 : zR x2) (Rx3 : zR x3) (Rx4 : zR x4) (ho : yOk X b u) (hZ : yZ d b Y c F0 S0 u S A0) (hw : wc_Parser_definitions_18B rec Q E k18 A0 x1 x2 x3 x4) : yG X d b (yxQi X d b Y c F0 S0 mc ms Q E) u 18 [some (.ref (gO' Y 4)), some (.int (zI x1)), some (.int (zI x2)), some (.int (zI x3)), some (.int (zI x4)), none] [] := by
  unfold wc_Parser_definitions_18B at hw
  refine h_iload hC dX6_definitions_18 rfl ?_
  refine yr_ldc (e := 1000000) hC dX6_definitions_20 kw_514 (by decide) ?_
  refine yr_icmp_ge (tgt := 155) hC Rx4 (by decide) dX6_definitions_22 (by decide) (fun c1 => ?_) (fun c1 => ?_)
  · have h2 := hw.1 c1
    refine h_aload_n hC dX6_definitions_155 rfl ?_
    refine yx_callv (As := []) hC hr ho hZ rfl (hZ.w.o 4 (by decide)) (cm_Parser_close X.la d b hst hcx  hZ.rs h2) cl_X6_159 rfl rfl (Nat.le_of_ble_eq_true rfl) (hFr_of (by omega) (Nat.le_of_ble_eq_true rfl)) dX6_definitions_156 (fun _ _ _ ho1 hz1 he1 => yx_out hC hr ho1 hz1 hT he1) (fun A4 u5 S6 o8 hZ9 h10 => ?_)
    refine h_iload_n hC dX6_definitions_159 rfl ?_
    exact h_xret (yr_iret hC hr o8 hZ9 Rx3 h10 dX6_definitions_160)
  · have h11 := hw.2 c1
    refine h_aload_n hC dX6_definitions_25 rfl ?_
    refine h_get hC fl_X6_60 (hZ.w.o 4 (by decide)) rfl dX6_definitions_26 ?_
    refine h_bipush (v := zI 98) hC dX6_definitions_29 rfl ?_
    refine h_aload_n hC dX6_definitions_31 rfl ?_
    refine yr_callVi (As := []) hC hr ho hZ rfl (hZ.w.o 4 (by decide)) (cm_Parser_place X.la d b  hZ.rs h11) cl_X6_112 rfl rfl (Nat.le_of_ble_eq_true rfl) (hFr_of (by omega) (Nat.le_of_ble_eq_true rfl)) dX6_definitions_32 (fun r12 A13 u14 S15 R16 o17 hZ18 h19 => ?_)
    refine h_aload_n hC dX6_definitions_35 rfl ?_
    refine yx_calli (As := []) hC hr o17 hZ18 rfl (hZ18.w.o 4 (by decide)) (cm_Parser_nameDue X.la d b hst hcx  hZ18.rs h19) cl_X6_141 rfl rfl (Nat.le_of_ble_eq_true rfl) (hFr_of (by omega) (Nat.le_of_ble_eq_true rfl)) dX6_definitions_36 (fun _ _ _ ho1 hz1 he1 => yx_out hC hr ho1 hz1 hT he1) (fun r20 A21 u22 S23 R24 o25 hZ26 h27 => ?_)
    refine yr_callVi (As := [.int (zI 98), .int (zI r12), .int (zI r20)]) hC hr o25 hZ26 rfl (hZ26.w.o 2 (by decide)) (cm_Tree_node X.la d b (by decide) R16 R24 hZ26.rs h27) cl_X6_115 rfl rfl (Nat.le_of_ble_eq_true rfl) (hFr_of (by omega) (Nat.le_of_ble_eq_true rfl)) dX6_definitions_39 (fun r28 A29 u30 S31 R32 o33 hZ34 h35 => ?_)
    refine h_istore (lv' := [some (.ref (gO' Y 4)), some (.int (zI x1)), some (.int (zI x2)), some (.int (zI x3)), some (.int (zI x4)), some (.int (zI r28))]) hC dX6_definitions_42 (Nat.le_of_ble_eq_true rfl) rfl rfl ?_
    refine h_iload_n hC dX6_definitions_44 rfl ?_
    refine h_bipush (v := zI 53) hC dX6_definitions_45 rfl ?_
    refine yr_icmp_ne (tgt := 70) hC Rx2 (by decide) dX6_definitions_47 (by decide) (fun c36 => ?_) (fun c36 => ?_)
    · have h37 := h35.1 c36
      exact cj_Parser_definitions_70 hC hr hst hT hcx ih hk18 Rx1 Rx2 Rx3 Rx4 R32 o33 hZ34 h37
    · have h38 := h35.2 c36
      refine h_iload_n hC dX6_definitions_50 rfl ?_
      refine yr_if_eq (tgt := 70) hC Rx1 dX6_definitions_51 (by decide) (fun c39 => ?_) (fun c39 => ?_)
      · have h40 := h38.1 c39
        exact cj_Parser_definitions_70 hC hr hst hT hcx ih hk18 Rx1 Rx2 Rx3 Rx4 R32 o33 hZ34 h40
      · have h41 := h38.2 c39
        refine h_aload_n hC dX6_definitions_54 rfl ?_
        refine h_get hC fl_X6_24 (hZ34.w.o 4 (by decide)) rfl dX6_definitions_55 ?_
        refine h_aload_n hC dX6_definitions_58 rfl ?_
        refine h_get hC fl_X6_60 (hZ34.w.o 4 (by decide)) rfl dX6_definitions_59 ?_
        refine h_iload hC dX6_definitions_62 rfl ?_
        refine yr_callVi (As := [.int (zI r28)]) hC hr o33 hZ34 rfl (hZ34.w.o 2 (by decide)) (cm_Tree_data X.la d b R32 hZ34.rs h41) cl_X6_144 rfl rfl (Nat.le_of_ble_eq_true rfl) (hFr_of (by omega) (Nat.le_of_ble_eq_true rfl)) dX6_definitions_64 (fun r42 A43 u44 S45 R46 o47 hZ48 h49 => ?_)
        obtain ⟨o54, h55⟩ := h49
        refine yr_add (j := 23) hC hr o47 hZ48 (by decide) (by decide) R46 o54 cl_X6_147 rfl (Nat.le_of_ble_eq_true rfl) (hFr_of (by omega) (Nat.le_of_ble_eq_true rfl)) dX6_definitions_67 (fun u50 S51 o52 hZ53 => ?_)
        exact cj_Parser_definitions_70 hC hr hst hT hcx ih hk18 Rx1 Rx2 Rx3 Rx4 R32 o52 hZ53 h55
theorem cl_Parser_definitions_18 {X : gX} {d : gD} {b : Nat} {Y : gYt} {c : Nat × Nat} {F0 : gM} {S0 : gSt} {mc ms : Nat} {rec : Nat → Int → Int → Int → cS → (Int → cS → Prop) → (cS → Prop) → Prop} {lv0 : Nat} (hC : gC RX6 cX6_definitions 6 (some .int) "definitions" (gR (9 + lv0 + 1) mc ms) d b X) (hr : hRm X b) (hst : X.la.stackTraces = false) (hT : ∀ x ∈ X.co.exceptionTable.toList, False) (hcx : yCx b c) (ih : yOkP X.la d b Y c lv0 rec) {Q : Int → cS → Prop} {E : cS → Prop}   : ∀ (m : Nat) (u : hU) (S : gSt) (A0 : cS) (x1 : Int) (x2 : Int) (x3 : Int) (x4 : Int), zR x1 → zR x2 → zR x3 → zR x4 → yOk X b u → yZ d b Y c F0 S0 u S A0 → wc_Parser_definitions_18 rec Q E  m A0 x1 x2 x3 x4 → yG X d b (yxQi X d b Y c F0 S0 mc ms Q E) u 18 [some (.ref (gO' Y 4)), some (.int (zI x1)), some (.int (zI x2)), some (.int (zI x3)), some (.int (zI x4)), none] [] := by
  intro m
  induction m with
  | zero => intro u S A0 x1 x2 x3 x4 Rx1 Rx2 Rx3 Rx4 ho hZ hw; exact False.elim hw
  | succ m ihm => intro u S A0 x1 x2 x3 x4 Rx1 Rx2 Rx3 Rx4 ho hZ hw; exact cb_Parser_definitions_18 hC hr hst hT hcx ih  ihm Rx1 Rx2 Rx3 Rx4 ho hZ hw
set_option maxHeartbeats 4000000 in
set_option maxRecDepth 100000 in
theorem cm_Parser_definitions (l : Launch) (d : gD) (b : Nat) {Y : gYt} {c : Nat × Nat} (hst : l.stackTraces = false) (hcx : yCx b c) {rec : Nat → Int → Int → Int → cS → (Int → cS → Prop) → (cS → Prop) → Prop} {lv0 : Nat} (ih : yOkP l d b Y c lv0 rec) {F : gM} {k n : Nat} {S : gSt} {A0 : cS} {a0 : Int} (Ra0 : zR a0) {Q : Int → cS → Prop} {E : cS → Prop} (hZ : yZ d b Y c F S (F, k, n) S A0) (hw : wc_Parser_definitions rec A0 a0 Q E) : hXi l d b yX6_definitions cX6_definitions 6 .int (9 + lv0 + 1) k n F [.ref (gO' Y 4), .int (zI a0)] (yPi d b Y c F S Q) "java/lang/IllegalStateException" (yPx d b Y c F S E) := by
  intro mc ms
  refine hX_of2 rfl (nL := 6) (Nat.le_of_ble_eq_true rfl) ?_
  intro X hX hT hC hr ho; subst hX
  show yG X d b (yxQi X d b Y c F S mc ms Q E) (F, k, n) 0 [some (.ref (gO' Y 4)), some (.int (zI a0)), none, none, none, none] []
  unfold wc_Parser_definitions at hw
  refine h_aload_n hC dX6_definitions_0 rfl ?_
  refine yr_callVi (As := []) hC hr ho hZ rfl (hZ.w.o 4 (by decide)) (cm_Parser_kind X.la d b  hZ.rs hw) cl_X6_97 rfl rfl (Nat.le_of_ble_eq_true rfl) (hFr_of (by omega) (Nat.le_of_ble_eq_true rfl)) dX6_definitions_1 (fun r1 A2 u3 S4 R5 o6 hZ7 h8 => ?_)
  refine h_istore_n (lv' := [some (.ref (gO' Y 4)), some (.int (zI a0)), some (.int (zI r1)), none, none, none]) hC dX6_definitions_4 (Nat.le_of_ble_eq_true rfl) rfl rfl ?_
  refine h_aload_n hC dX6_definitions_5 rfl ?_
  refine h_iload_n hC dX6_definitions_6 rfl ?_
  refine yr_callVi (As := [.int (zI r1)]) hC hr o6 hZ7 rfl (hZ7.w.o 4 (by decide)) (cm_Parser_leaf X.la d b R5 hZ7.rs h8) cl_X6_135 rfl rfl (Nat.le_of_ble_eq_true rfl) (hFr_of (by omega) (Nat.le_of_ble_eq_true rfl)) dX6_definitions_7 (fun r9 A10 u11 S12 R13 o14 hZ15 h16 => ?_)
  refine h_istore_n (lv' := [some (.ref (gO' Y 4)), some (.int (zI a0)), some (.int (zI r1)), some (.int (zI r9)), none, none]) hC dX6_definitions_10 (Nat.le_of_ble_eq_true rfl) rfl rfl ?_
  refine h_aload_n hC dX6_definitions_11 rfl ?_
  refine yx_callv (As := []) hC hr o14 hZ15 rfl (hZ15.w.o 4 (by decide)) (cm_Parser_open X.la d b hst hcx  hZ15.rs h16) cl_X6_138 rfl rfl (Nat.le_of_ble_eq_true rfl) (hFr_of (by omega) (Nat.le_of_ble_eq_true rfl)) dX6_definitions_12 (fun _ _ _ ho1 hz1 he1 => yx_out hC hr ho1 hz1 hT he1) (fun A18 u19 S20 o22 hZ23 h24 => ?_)
  refine h_iconst (v := zI 0) hC dX6_definitions_15 rfl ?_
  refine h_istore (lv' := [some (.ref (gO' Y 4)), some (.int (zI a0)), some (.int (zI r1)), some (.int (zI r9)), some (.int (zI 0)), none]) hC dX6_definitions_16 (Nat.le_of_ble_eq_true rfl) rfl rfl ?_
  obtain ⟨m25, h26⟩ := h24
  exact cl_Parser_definitions_18 hC hr hst hT hcx ih  m25 _ _ _ _ _ _ _ Ra0 R5 R13 (by decide) o22 hZ23 h26
theorem dX6_routine_0 : decode cX6_routine 0 = .ok (.aload_n 0, 1) := by decide +kernel
theorem dX6_routine_1 : decode cX6_routine 1 = .ok (.getfield 60, 3) := by decide +kernel
theorem dX6_routine_4 : decode cX6_routine 4 = .ok (.bipush 95, 2) := by decide +kernel
theorem dX6_routine_6 : decode cX6_routine 6 = .ok (.aload_n 0, 1) := by decide +kernel
theorem dX6_routine_7 : decode cX6_routine 7 = .ok (.invokevirtual 112, 3) := by decide +kernel
theorem dX6_routine_10 : decode cX6_routine 10 = .ok (.aload_n 0, 1) := by decide +kernel
theorem dX6_routine_11 : decode cX6_routine 11 = .ok (.invokevirtual 141, 3) := by decide +kernel
theorem dX6_routine_14 : decode cX6_routine 14 = .ok (.invokevirtual 115, 3) := by decide +kernel
theorem dX6_routine_17 : decode cX6_routine 17 = .ok (.istore_n 2, 1) := by decide +kernel
theorem dX6_routine_18 : decode cX6_routine 18 = .ok (.aload_n 0, 1) := by decide +kernel
theorem dX6_routine_19 : decode cX6_routine 19 = .ok (.getfield 64, 3) := by decide +kernel
theorem dX6_routine_22 : decode cX6_routine 22 = .ok (.iload_n 1, 1) := by decide +kernel
theorem dX6_routine_23 : decode cX6_routine 23 = .ok (.ifCond .eq 18, 3) := by decide +kernel
theorem dX6_routine_26 : decode cX6_routine 26 = .ok (.aload_n 0, 1) := by decide +kernel
theorem dX6_routine_27 : decode cX6_routine 27 = .ok (.aload_n 0, 1) := by decide +kernel
theorem dX6_routine_28 : decode cX6_routine 28 = .ok (.getfield 60, 3) := by decide +kernel
theorem dX6_routine_31 : decode cX6_routine 31 = .ok (.iload_n 2, 1) := by decide +kernel
theorem dX6_routine_32 : decode cX6_routine 32 = .ok (.invokevirtual 144, 3) := by decide +kernel
theorem dX6_routine_35 : decode cX6_routine 35 = .ok (.invokevirtual 175, 3) := by decide +kernel
theorem dX6_routine_38 : decode cX6_routine 38 = .ok (.ifCond .ne 7, 3) := by decide +kernel
theorem dX6_routine_41 : decode cX6_routine 41 = .ok (.iconst 1, 1) := by decide +kernel
theorem dX6_routine_42 : decode cX6_routine 42 = .ok (.goto 4, 3) := by decide +kernel
theorem dX6_routine_45 : decode cX6_routine 45 = .ok (.iconst 0, 1) := by decide +kernel
theorem dX6_routine_46 : decode cX6_routine 46 = .ok (.invokevirtual 178, 3) := by decide +kernel
theorem dX6_routine_49 : decode cX6_routine 49 = .ok (.istore_n 3, 1) := by decide +kernel
theorem dX6_routine_50 : decode cX6_routine 50 = .ok (.aload_n 0, 1) := by decide +kernel
theorem dX6_routine_51 : decode cX6_routine 51 = .ok (.getfield 60, 3) := by decide +kernel
theorem dX6_routine_54 : decode cX6_routine 54 = .ok (.iload_n 2, 1) := by decide +kernel
theorem dX6_routine_55 : decode cX6_routine 55 = .ok (.iload_n 3, 1) := by decide +kernel
theorem dX6_routine_56 : decode cX6_routine 56 = .ok (.invokevirtual 153, 3) := by decide +kernel
theorem dX6_routine_59 : decode cX6_routine 59 = .ok (.iload_n 1, 1) := by decide +kernel
theorem dX6_routine_60 : decode cX6_routine 60 = .ok (.ifCond .eq 24, 3) := by decide +kernel
theorem dX6_routine_63 : decode cX6_routine 63 = .ok (.aload_n 0, 1) := by decide +kernel
theorem dX6_routine_64 : decode cX6_routine 64 = .ok (.getfield 60, 3) := by decide +kernel
theorem dX6_routine_67 : decode cX6_routine 67 = .ok (.iload_n 2, 1) := by decide +kernel
theorem dX6_routine_68 : decode cX6_routine 68 = .ok (.invokevirtual 144, 3) := by decide +kernel
theorem dX6_routine_71 : decode cX6_routine 71 = .ok (.bipush 60, 2) := by decide +kernel
theorem dX6_routine_73 : decode cX6_routine 73 = .ok (.if_icmp .ne 11, 3) := by decide +kernel
theorem dX6_routine_76 : decode cX6_routine 76 = .ok (.aload_n 0, 1) := by decide +kernel
theorem dX6_routine_77 : decode cX6_routine 77 = .ok (.getfield 64, 3) := by decide +kernel
theorem dX6_routine_80 : decode cX6_routine 80 = .ok (.iload_n 3, 1) := by decide +kernel
theorem dX6_routine_81 : decode cX6_routine 81 = .ok (.invokevirtual 181, 3) := by decide +kernel
theorem dX6_routine_84 : decode cX6_routine 84 = .ok (.aload_n 0, 1) := by decide +kernel
theorem dX6_routine_85 : decode cX6_routine 85 = .ok (.bipush 7, 2) := by decide +kernel
theorem dX6_routine_87 : decode cX6_routine 87 = .ok (.invokevirtual 109, 3) := by decide +kernel
theorem dX6_routine_90 : decode cX6_routine 90 = .ok (.aload_n 0, 1) := by decide +kernel
theorem dX6_routine_91 : decode cX6_routine 91 = .ok (.invokevirtual 97, 3) := by decide +kernel
theorem dX6_routine_94 : decode cX6_routine 94 = .ok (.bipush 8, 2) := by decide +kernel
theorem dX6_routine_96 : decode cX6_routine 96 = .ok (.if_icmp .eq 8, 3) := by decide +kernel
theorem dX6_routine_99 : decode cX6_routine 99 = .ok (.aload_n 0, 1) := by decide +kernel
theorem dX6_routine_100 : decode cX6_routine 100 = .ok (.iload_n 2, 1) := by decide +kernel
theorem dX6_routine_101 : decode cX6_routine 101 = .ok (.invokevirtual 184, 3) := by decide +kernel
theorem dX6_routine_104 : decode cX6_routine 104 = .ok (.aload_n 0, 1) := by decide +kernel
theorem dX6_routine_105 : decode cX6_routine 105 = .ok (.bipush 8, 2) := by decide +kernel
theorem dX6_routine_107 : decode cX6_routine 107 = .ok (.invokevirtual 109, 3) := by decide +kernel
theorem dX6_routine_110 : decode cX6_routine 110 = .ok (.aload_n 0, 1) := by decide +kernel
theorem dX6_routine_111 : decode cX6_routine 111 = .ok (.invokevirtual 97, 3) := by decide +kernel
theorem dX6_routine_114 : decode cX6_routine 114 = .ok (.bipush 20, 2) := by decide +kernel
theorem dX6_routine_116 : decode cX6_routine 116 = .ok (.if_icmp .ne 32, 3) := by decide +kernel
theorem dX6_routine_119 : decode cX6_routine 119 = .ok (.aload_n 0, 1) := by decide +kernel
theorem dX6_routine_120 : decode cX6_routine 120 = .ok (.getfield 60, 3) := by decide +kernel
theorem dX6_routine_123 : decode cX6_routine 123 = .ok (.iload_n 2, 1) := by decide +kernel
theorem dX6_routine_124 : decode cX6_routine 124 = .ok (.bipush 96, 2) := by decide +kernel
theorem dX6_routine_126 : decode cX6_routine 126 = .ok (.invokevirtual 187, 3) := by decide +kernel
theorem dX6_routine_129 : decode cX6_routine 129 = .ok (.aload_n 0, 1) := by decide +kernel
theorem dX6_routine_130 : decode cX6_routine 130 = .ok (.invokevirtual 103, 3) := by decide +kernel
theorem dX6_routine_133 : decode cX6_routine 133 = .ok (.aload_n 0, 1) := by decide +kernel
theorem dX6_routine_134 : decode cX6_routine 134 = .ok (.getfield 60, 3) := by decide +kernel
theorem dX6_routine_137 : decode cX6_routine 137 = .ok (.iload_n 2, 1) := by decide +kernel
theorem dX6_routine_138 : decode cX6_routine 138 = .ok (.aload_n 0, 1) := by decide +kernel
theorem dX6_routine_139 : decode cX6_routine 139 = .ok (.invokevirtual 156, 3) := by decide +kernel
theorem dX6_routine_142 : decode cX6_routine 142 = .ok (.invokevirtual 123, 3) := by decide +kernel
theorem dX6_routine_145 : decode cX6_routine 145 = .ok (.goto 21, 3) := by decide +kernel
theorem dX6_routine_148 : decode cX6_routine 148 = .ok (.aload_n 0, 1) := by decide +kernel
theorem dX6_routine_149 : decode cX6_routine 149 = .ok (.bipush 58, 2) := by decide +kernel
theorem dX6_routine_151 : decode cX6_routine 151 = .ok (.invokevirtual 109, 3) := by decide +kernel
theorem dX6_routine_154 : decode cX6_routine 154 = .ok (.aload_n 0, 1) := by decide +kernel
theorem dX6_routine_155 : decode cX6_routine 155 = .ok (.getfield 60, 3) := by decide +kernel
theorem dX6_routine_158 : decode cX6_routine 158 = .ok (.iload_n 2, 1) := by decide +kernel
theorem dX6_routine_159 : decode cX6_routine 159 = .ok (.aload_n 0, 1) := by decide +kernel
theorem dX6_routine_160 : decode cX6_routine 160 = .ok (.invokevirtual 190, 3) := by decide +kernel
theorem dX6_routine_163 : decode cX6_routine 163 = .ok (.invokevirtual 123, 3) := by decide +kernel
theorem dX6_routine_166 : decode cX6_routine 166 = .ok (.iload_n 2, 1) := by decide +kernel
theorem dX6_routine_167 : decode cX6_routine 167 = .ok (.ireturn, 1) := by decide +kernel
def wc_Parser_routine_104 (rec : Nat → Int → Int → Int → cS → (Int → cS → Prop) → (cS → Prop) → Prop) (Q : Int → cS → Prop) (E : cS → Prop)  (A0 : cS) (x2 : Int) : Prop :=
  wc_Parser_due A0 8 (fun A2 => wc_Parser_kind A2  (fun r9 A10 => ((¬ r9 = 20 → wc_Parser_due A10 58 (fun A20 => rec 6 0 0 0 A20 (fun r27 A28 => wc_Tree_hang A28 x2 r27 (fun A36 => Q x2 A36)) E) E) ∧ (r9 = 20 → wc_Tree_setKind A10 x2 96 (fun A45 => wc_Parser_advance A45  (fun A53 => rec 12 0 0 0 A53 (fun r60 A61 => wc_Tree_hang A61 x2 r60 (fun A69 => Q x2 A69)) E)))))) E
def wc_Parser_routine_46 (rec : Nat → Int → Int → Int → cS → (Int → cS → Prop) → (cS → Prop) → Prop) (Q : Int → cS → Prop) (E : cS → Prop)  (A0 : cS) (x1 : Int) (x2 : Int) (y0 : Int) : Prop :=
  wc_Program_addRoutine A0 y0 (fun r1 A2 => wc_Tree_setExtra A2 x2 r1 (fun A10 => ((x1 = 0 → wc_Parser_due A10 7 (fun A20 => wc_Parser_kind A20  (fun r27 A28 => ((r27 = 8 → wc_Parser_routine_104 rec Q E  A28 x2) ∧ (¬ r27 = 8 → wc_Parser_names A28 x2 (fun A39 => wc_Parser_routine_104 rec Q E  A39 x2) E)))) E) ∧ (¬ x1 = 0 → wc_Tree_data A10 x2 (fun r47 A48 => ((¬ r47 = 60 → wc_Parser_due A48 7 (fun A58 => wc_Parser_kind A58  (fun r65 A66 => ((r65 = 8 → wc_Parser_routine_104 rec Q E  A66 x2) ∧ (¬ r65 = 8 → wc_Parser_names A66 x2 (fun A77 => wc_Parser_routine_104 rec Q E  A77 x2) E)))) E) ∧ (r47 = 60 → wc_Program_setStarter A48 r1 (fun A86 => wc_Parser_due A86 7 (fun A94 => wc_Parser_kind A94  (fun r101 A102 => ((r101 = 8 → wc_Parser_routine_104 rec Q E  A102 x2) ∧ (¬ r101 = 8 → wc_Parser_names A102 x2 (fun A113 => wc_Parser_routine_104 rec Q E  A113 x2) E)))) E))))))))
def wc_Parser_routine (rec : Nat → Int → Int → Int → cS → (Int → cS → Prop) → (cS → Prop) → Prop) (A0 : cS) (a0 : Int) (Q : Int → cS → Prop) (E : cS → Prop) : Prop :=
  wc_Parser_place A0  (fun r1 A2 => wc_Parser_nameDue A2  (fun r9 A10 => wc_Tree_node A10 95 r1 r9 (fun r17 A18 => ((a0 = 0 → wc_Parser_routine_46 rec Q E  A18 a0 r17 1) ∧ (¬ a0 = 0 → wc_Tree_data A18 r17 (fun r28 A29 => wc_Parser_isGlobal A29 r28 (fun r36 A37 => ((¬ r36 = 0 → wc_Parser_routine_46 rec Q E  A37 a0 r17 0) ∧ (r36 = 0 → wc_Parser_routine_46 rec Q E  A37 a0 r17 1)))))))) E)
set_option maxHeartbeats 4000000 in
set_option maxRecDepth 100000 in
theorem cj_Parser_routine_104 {X : gX} {d : gD} {b : Nat} {Y : gYt} {c : Nat × Nat} {F0 : gM} {S0 : gSt} {mc ms : Nat} {rec : Nat → Int → Int → Int → cS → (Int → cS → Prop) → (cS → Prop) → Prop} {lv0 : Nat} (hC : gC RX6 cX6_routine 4 (some .int) "routine" (gR (9 + lv0 + 1) mc ms) d b X) (hr : hRm X b) (hst : X.la.stackTraces = false) (hT : ∀ x ∈ X.co.exceptionTable.toList, False) (hcx : yCx b c) (ih : yOkP X.la d b Y c lv0 rec) {Q : Int → cS → Prop} {E : cS → Prop}   {u : hU} {S : gSt} {A0 : cS} {x2 : Int} (Rx2 : zR x2) (ho : yOk X b u) (hZ : yZ d b Y c F0 S0 u S A0) (hw : wc_Parser_routine_104 rec Q E  A0 x2) : yG X d b (yxQi X d b Y c F0 S0 mc ms Q E) u 104 [some (.ref (gO' Y 4)), none, some (.int (zI x2)), none] [] := by
  unfold wc_Parser_routine_104 at hw
  refine h_aload_n hC dX6_routine_104 rfl ?_
  refine h_bipush (v := zI 8) hC dX6_routine_105 rfl ?_
  refine yx_callv (As := [.int (zI 8)]) hC hr ho hZ rfl (hZ.w.o 4 (by decide)) (cm_Parser_due X.la d b hst hcx (by decide) hZ.rs hw) cl_X6_109 rfl rfl (Nat.le_of_ble_eq_true rfl) (hFr_of (by omega) (Nat.le_of_ble_eq_true rfl)) dX6_routine_107 (fun _ _ _ ho1 hz1 he1 => yx_out hC hr ho1 hz1 hT he1) (fun A2 u3 S4 o6 hZ7 h8 => ?_)
  refine h_aload_n hC dX6_routine_110 rfl ?_
  refine yr_callVi (As := []) hC hr o6 hZ7 rfl (hZ7.w.o 4 (by decide)) (cm_Parser_kind X.la d b  hZ7.rs h8) cl_X6_97 rfl rfl (Nat.le_of_ble_eq_true rfl) (hFr_of (by omega) (Nat.le_of_ble_eq_true rfl)) dX6_routine_111 (fun r9 A10 u11 S12 R13 o14 hZ15 h16 => ?_)
  refine h_bipush (v := zI 20) hC dX6_routine_114 rfl ?_
  refine yr_icmp_ne (tgt := 148) hC R13 (by decide) dX6_routine_116 (by decide) (fun c17 => ?_) (fun c17 => ?_)
  · have h18 := h16.1 c17
    refine h_aload_n hC dX6_routine_148 rfl ?_
    refine h_bipush (v := zI 58) hC dX6_routine_149 rfl ?_
    refine yx_callv (As := [.int (zI 58)]) hC hr o14 hZ15 rfl (hZ15.w.o 4 (by decide)) (cm_Parser_due X.la d b hst hcx (by decide) hZ15.rs h18) cl_X6_109 rfl rfl (Nat.le_of_ble_eq_true rfl) (hFr_of (by omega) (Nat.le_of_ble_eq_true rfl)) dX6_routine_151 (fun _ _ _ ho1 hz1 he1 => yx_out hC hr ho1 hz1 hT he1) (fun A20 u21 S22 o24 hZ25 h26 => ?_)
    refine h_aload_n hC dX6_routine_154 rfl ?_
    refine h_get hC fl_X6_60 (hZ25.w.o 4 (by decide)) rfl dX6_routine_155 ?_
    refine h_iload_n hC dX6_routine_158 rfl ?_
    refine h_aload_n hC dX6_routine_159 rfl ?_
    refine yx_calli (As := []) hC hr o24 hZ25 rfl (hZ25.w.o 4 (by decide)) (ih.2.2.2.2.2.2.1  hZ25.rs h26) cl_X6_190 rfl rfl (Nat.le_of_ble_eq_true rfl) (hFr_of (by omega) (Nat.le_of_ble_eq_true rfl)) dX6_routine_160 (fun _ _ _ ho1 hz1 he1 => yx_out hC hr ho1 hz1 hT he1) (fun r27 A28 u29 S30 R31 o32 hZ33 h34 => ?_)
    refine yr_callVv (As := [.int (zI x2), .int (zI r27)]) hC hr o32 hZ33 rfl (hZ33.w.o 2 (by decide)) (cm_Tree_hang X.la d b Rx2 R31 hZ33.rs h34) cl_X6_123 rfl rfl (Nat.le_of_ble_eq_true rfl) (hFr_of (by omega) (Nat.le_of_ble_eq_true rfl)) dX6_routine_163 (fun A36 u37 S38 o40 hZ41 h42 => ?_)
    refine h_iload_n hC dX6_routine_166 rfl ?_
    exact h_xret (yr_iret hC hr o40 hZ41 Rx2 h42 dX6_routine_167)
  · have h43 := h16.2 c17
    refine h_aload_n hC dX6_routine_119 rfl ?_
    refine h_get hC fl_X6_60 (hZ15.w.o 4 (by decide)) rfl dX6_routine_120 ?_
    refine h_iload_n hC dX6_routine_123 rfl ?_
    refine h_bipush (v := zI 96) hC dX6_routine_124 rfl ?_
    refine yr_callVv (As := [.int (zI x2), .int (zI 96)]) hC hr o14 hZ15 rfl (hZ15.w.o 2 (by decide)) (cm_Tree_setKind X.la d b Rx2 (by decide) hZ15.rs h43) cl_X6_187 rfl rfl (Nat.le_of_ble_eq_true rfl) (hFr_of (by omega) (Nat.le_of_ble_eq_true rfl)) dX6_routine_126 (fun A45 u46 S47 o49 hZ50 h51 => ?_)
    refine h_aload_n hC dX6_routine_129 rfl ?_
    refine yr_callVv (As := []) hC hr o49 hZ50 rfl (hZ50.w.o 4 (by decide)) (cm_Parser_advance X.la d b  hZ50.rs h51) cl_X6_103 rfl rfl (Nat.le_of_ble_eq_true rfl) (hFr_of (by omega) (Nat.le_of_ble_eq_true rfl)) dX6_routine_130 (fun A53 u54 S55 o57 hZ58 h59 => ?_)
    refine h_aload_n hC dX6_routine_133 rfl ?_
    refine h_get hC fl_X6_60 (hZ58.w.o 4 (by decide)) rfl dX6_routine_134 ?_
    refine h_iload_n hC dX6_routine_137 rfl ?_
    refine h_aload_n hC dX6_routine_138 rfl ?_
    refine yx_calli (As := []) hC hr o57 hZ58 rfl (hZ58.w.o 4 (by decide)) (ih.2.2.2.2.2.2.2.2.2.2.2.2.1  hZ58.rs h59) cl_X6_156 rfl rfl (Nat.le_of_ble_eq_true rfl) (hFr_of (by omega) (Nat.le_of_ble_eq_true rfl)) dX6_routine_139 (fun _ _ _ ho1 hz1 he1 => yx_out hC hr ho1 hz1 hT he1) (fun r60 A61 u62 S63 R64 o65 hZ66 h67 => ?_)
    refine yr_callVv (As := [.int (zI x2), .int (zI r60)]) hC hr o65 hZ66 rfl (hZ66.w.o 2 (by decide)) (cm_Tree_hang X.la d b Rx2 R64 hZ66.rs h67) cl_X6_123 rfl rfl (Nat.le_of_ble_eq_true rfl) (hFr_of (by omega) (Nat.le_of_ble_eq_true rfl)) dX6_routine_142 (fun A69 u70 S71 o73 hZ74 h75 => ?_)
    refine h_goto (tgt := 166) hC dX6_routine_145 (by decide) ?_
    refine h_iload_n hC dX6_routine_166 rfl ?_
    exact h_xret (yr_iret hC hr o73 hZ74 Rx2 h75 dX6_routine_167)
set_option maxHeartbeats 4000000 in
set_option maxRecDepth 100000 in
theorem cj_Parser_routine_46 {X : gX} {d : gD} {b : Nat} {Y : gYt} {c : Nat × Nat} {F0 : gM} {S0 : gSt} {mc ms : Nat} {rec : Nat → Int → Int → Int → cS → (Int → cS → Prop) → (cS → Prop) → Prop} {lv0 : Nat} (hC : gC RX6 cX6_routine 4 (some .int) "routine" (gR (9 + lv0 + 1) mc ms) d b X) (hr : hRm X b) (hst : X.la.stackTraces = false) (hT : ∀ x ∈ X.co.exceptionTable.toList, False) (hcx : yCx b c) (ih : yOkP X.la d b Y c lv0 rec) {Q : Int → cS → Prop} {E : cS → Prop}   {u : hU} {S : gSt} {A0 : cS} {x1 : Int} {x2 : Int} {y0 : Int} (Rx1 : zR x1) (Rx2 : zR x2) (Ry0 : zR y0) (ho : yOk X b u) (hZ : yZ d b Y c F0 S0 u S A0) (hw : wc_Parser_routine_46 rec Q E  A0 x1 x2 y0) : yG X d b (yxQi X d b Y c F0 S0 mc ms Q E) u 46 [some (.ref (gO' Y 4)), some (.int (zI x1)), some (.int (zI x2)), none] [.int (zI y0), .ref (gO' Y 1)] := by
  unfold wc_Parser_routine_46 at hw
  refine yr_callVi (As := [.int (zI y0)]) hC hr ho hZ rfl (hZ.w.o 1 (by decide)) (cm_Program_addRoutine X.la d b Ry0 hZ.rs hw) cl_X6_178 rfl rfl (Nat.le_of_ble_eq_true rfl) (hFr_of (by omega) (Nat.le_of_ble_eq_true rfl)) dX6_routine_46 (fun r1 A2 u3 S4 R5 o6 hZ7 h8 => ?_)
  refine h_istore_n (lv' := [some (.ref (gO' Y 4)), some (.int (zI x1)), some (.int (zI x2)), some (.int (zI r1))]) hC dX6_routine_49 (Nat.le_of_ble_eq_true rfl) rfl rfl ?_
  refine h_aload_n hC dX6_routine_50 rfl ?_
  refine h_get hC fl_X6_60 (hZ7.w.o 4 (by decide)) rfl dX6_routine_51 ?_
  refine h_iload_n hC dX6_routine_54 rfl ?_
  refine h_iload_n hC dX6_routine_55 rfl ?_
  refine yr_callVv (As := [.int (zI x2), .int (zI r1)]) hC hr o6 hZ7 rfl (hZ7.w.o 2 (by decide)) (cm_Tree_setExtra X.la d b Rx2 R5 hZ7.rs h8) cl_X6_153 rfl rfl (Nat.le_of_ble_eq_true rfl) (hFr_of (by omega) (Nat.le_of_ble_eq_true rfl)) dX6_routine_56 (fun A10 u11 S12 o14 hZ15 h16 => ?_)
  refine h_iload_n hC dX6_routine_59 rfl ?_
  refine yr_if_eq (tgt := 84) hC Rx1 dX6_routine_60 (by decide) (fun c17 => ?_) (fun c17 => ?_)
  · have h18 := h16.1 c17
    refine h_aload_n hC dX6_routine_84 rfl ?_
    refine h_bipush (v := zI 7) hC dX6_routine_85 rfl ?_
    refine yx_callv (As := [.int (zI 7)]) hC hr o14 hZ15 rfl (hZ15.w.o 4 (by decide)) (cm_Parser_due X.la d b hst hcx (by decide) hZ15.rs h18) cl_X6_109 rfl rfl (Nat.le_of_ble_eq_true rfl) (hFr_of (by omega) (Nat.le_of_ble_eq_true rfl)) dX6_routine_87 (fun _ _ _ ho1 hz1 he1 => yx_out hC hr ho1 hz1 hT he1) (fun A20 u21 S22 o24 hZ25 h26 => ?_)
    refine h_aload_n hC dX6_routine_90 rfl ?_
    refine yr_callVi (As := []) hC hr o24 hZ25 rfl (hZ25.w.o 4 (by decide)) (cm_Parser_kind X.la d b  hZ25.rs h26) cl_X6_97 rfl rfl (Nat.le_of_ble_eq_true rfl) (hFr_of (by omega) (Nat.le_of_ble_eq_true rfl)) dX6_routine_91 (fun r27 A28 u29 S30 R31 o32 hZ33 h34 => ?_)
    refine h_bipush (v := zI 8) hC dX6_routine_94 rfl ?_
    refine yr_icmp_eq (tgt := 104) hC R31 (by decide) dX6_routine_96 (by decide) (fun c35 => ?_) (fun c35 => ?_)
    · have h36 := h34.1 c35
      refine h_lv (lv' := [some (.ref (gO' Y 4)), none, some (.int (zI x2)), none]) ⟨rfl, rfl, trivial⟩ ?_
      exact cj_Parser_routine_104 hC hr hst hT hcx ih  Rx2 o32 hZ33 h36
    · have h37 := h34.2 c35
      refine h_aload_n hC dX6_routine_99 rfl ?_
      refine h_iload_n hC dX6_routine_100 rfl ?_
      refine yx_callv (As := [.int (zI x2)]) hC hr o32 hZ33 rfl (hZ33.w.o 4 (by decide)) (cm_Parser_names X.la d b hst hcx Rx2 hZ33.rs h37) cl_X6_184 rfl rfl (Nat.le_of_ble_eq_true rfl) (hFr_of (by omega) (Nat.le_of_ble_eq_true rfl)) dX6_routine_101 (fun _ _ _ ho1 hz1 he1 => yx_out hC hr ho1 hz1 hT he1) (fun A39 u40 S41 o43 hZ44 h45 => ?_)
      refine h_lv (lv' := [some (.ref (gO' Y 4)), none, some (.int (zI x2)), none]) ⟨rfl, rfl, trivial⟩ ?_
      exact cj_Parser_routine_104 hC hr hst hT hcx ih  Rx2 o43 hZ44 h45
  · have h46 := h16.2 c17
    refine h_aload_n hC dX6_routine_63 rfl ?_
    refine h_get hC fl_X6_60 (hZ15.w.o 4 (by decide)) rfl dX6_routine_64 ?_
    refine h_iload_n hC dX6_routine_67 rfl ?_
    refine yr_callVi (As := [.int (zI x2)]) hC hr o14 hZ15 rfl (hZ15.w.o 2 (by decide)) (cm_Tree_data X.la d b Rx2 hZ15.rs h46) cl_X6_144 rfl rfl (Nat.le_of_ble_eq_true rfl) (hFr_of (by omega) (Nat.le_of_ble_eq_true rfl)) dX6_routine_68 (fun r47 A48 u49 S50 R51 o52 hZ53 h54 => ?_)
    refine h_bipush (v := zI 60) hC dX6_routine_71 rfl ?_
    refine yr_icmp_ne (tgt := 84) hC R51 (by decide) dX6_routine_73 (by decide) (fun c55 => ?_) (fun c55 => ?_)
    · have h56 := h54.1 c55
      refine h_aload_n hC dX6_routine_84 rfl ?_
      refine h_bipush (v := zI 7) hC dX6_routine_85 rfl ?_
      refine yx_callv (As := [.int (zI 7)]) hC hr o52 hZ53 rfl (hZ53.w.o 4 (by decide)) (cm_Parser_due X.la d b hst hcx (by decide) hZ53.rs h56) cl_X6_109 rfl rfl (Nat.le_of_ble_eq_true rfl) (hFr_of (by omega) (Nat.le_of_ble_eq_true rfl)) dX6_routine_87 (fun _ _ _ ho1 hz1 he1 => yx_out hC hr ho1 hz1 hT he1) (fun A58 u59 S60 o62 hZ63 h64 => ?_)
      refine h_aload_n hC dX6_routine_90 rfl ?_
      refine yr_callVi (As := []) hC hr o62 hZ63 rfl (hZ63.w.o 4 (by decide)) (cm_Parser_kind X.la d b  hZ63.rs h64) cl_X6_97 rfl rfl (Nat.le_of_ble_eq_true rfl) (hFr_of (by omega) (Nat.le_of_ble_eq_true rfl)) dX6_routine_91 (fun r65 A66 u67 S68 R69 o70 hZ71 h72 => ?_)
      refine h_bipush (v := zI 8) hC dX6_routine_94 rfl ?_
      refine yr_icmp_eq (tgt := 104) hC R69 (by decide) dX6_routine_96 (by decide) (fun c73 => ?_) (fun c73 => ?_)
      · have h74 := h72.1 c73
        refine h_lv (lv' := [some (.ref (gO' Y 4)), none, some (.int (zI x2)), none]) ⟨rfl, rfl, trivial⟩ ?_
        exact cj_Parser_routine_104 hC hr hst hT hcx ih  Rx2 o70 hZ71 h74
      · have h75 := h72.2 c73
        refine h_aload_n hC dX6_routine_99 rfl ?_
        refine h_iload_n hC dX6_routine_100 rfl ?_
        refine yx_callv (As := [.int (zI x2)]) hC hr o70 hZ71 rfl (hZ71.w.o 4 (by decide)) (cm_Parser_names X.la d b hst hcx Rx2 hZ71.rs h75) cl_X6_184 rfl rfl (Nat.le_of_ble_eq_true rfl) (hFr_of (by omega) (Nat.le_of_ble_eq_true rfl)) dX6_routine_101 (fun _ _ _ ho1 hz1 he1 => yx_out hC hr ho1 hz1 hT he1) (fun A77 u78 S79 o81 hZ82 h83 => ?_)
        refine h_lv (lv' := [some (.ref (gO' Y 4)), none, some (.int (zI x2)), none]) ⟨rfl, rfl, trivial⟩ ?_
        exact cj_Parser_routine_104 hC hr hst hT hcx ih  Rx2 o81 hZ82 h83
    · have h84 := h54.2 c55
      refine h_aload_n hC dX6_routine_76 rfl ?_
      refine h_get hC fl_X6_64 (hZ53.w.o 4 (by decide)) rfl dX6_routine_77 ?_
      refine h_iload_n hC dX6_routine_80 rfl ?_
      refine yr_callVv (As := [.int (zI r1)]) hC hr o52 hZ53 rfl (hZ53.w.o 1 (by decide)) (cm_Program_setStarter X.la d b R5 hZ53.rs h84) cl_X6_181 rfl rfl (Nat.le_of_ble_eq_true rfl) (hFr_of (by omega) (Nat.le_of_ble_eq_true rfl)) dX6_routine_81 (fun A86 u87 S88 o90 hZ91 h92 => ?_)
      refine h_aload_n hC dX6_routine_84 rfl ?_
      refine h_bipush (v := zI 7) hC dX6_routine_85 rfl ?_
      refine yx_callv (As := [.int (zI 7)]) hC hr o90 hZ91 rfl (hZ91.w.o 4 (by decide)) (cm_Parser_due X.la d b hst hcx (by decide) hZ91.rs h92) cl_X6_109 rfl rfl (Nat.le_of_ble_eq_true rfl) (hFr_of (by omega) (Nat.le_of_ble_eq_true rfl)) dX6_routine_87 (fun _ _ _ ho1 hz1 he1 => yx_out hC hr ho1 hz1 hT he1) (fun A94 u95 S96 o98 hZ99 h100 => ?_)
      refine h_aload_n hC dX6_routine_90 rfl ?_
      refine yr_callVi (As := []) hC hr o98 hZ99 rfl (hZ99.w.o 4 (by decide)) (cm_Parser_kind X.la d b  hZ99.rs h100) cl_X6_97 rfl rfl (Nat.le_of_ble_eq_true rfl) (hFr_of (by omega) (Nat.le_of_ble_eq_true rfl)) dX6_routine_91 (fun r101 A102 u103 S104 R105 o106 hZ107 h108 => ?_)
      refine h_bipush (v := zI 8) hC dX6_routine_94 rfl ?_
      refine yr_icmp_eq (tgt := 104) hC R105 (by decide) dX6_routine_96 (by decide) (fun c109 => ?_) (fun c109 => ?_)
      · have h110 := h108.1 c109
        refine h_lv (lv' := [some (.ref (gO' Y 4)), none, some (.int (zI x2)), none]) ⟨rfl, rfl, trivial⟩ ?_
        exact cj_Parser_routine_104 hC hr hst hT hcx ih  Rx2 o106 hZ107 h110
      · have h111 := h108.2 c109
        refine h_aload_n hC dX6_routine_99 rfl ?_
        refine h_iload_n hC dX6_routine_100 rfl ?_
        refine yx_callv (As := [.int (zI x2)]) hC hr o106 hZ107 rfl (hZ107.w.o 4 (by decide)) (cm_Parser_names X.la d b hst hcx Rx2 hZ107.rs h111) cl_X6_184 rfl rfl (Nat.le_of_ble_eq_true rfl) (hFr_of (by omega) (Nat.le_of_ble_eq_true rfl)) dX6_routine_101 (fun _ _ _ ho1 hz1 he1 => yx_out hC hr ho1 hz1 hT he1) (fun A113 u114 S115 o117 hZ118 h119 => ?_)
        refine h_lv (lv' := [some (.ref (gO' Y 4)), none, some (.int (zI x2)), none]) ⟨rfl, rfl, trivial⟩ ?_
        exact cj_Parser_routine_104 hC hr hst hT hcx ih  Rx2 o117 hZ118 h119
set_option maxHeartbeats 4000000 in
set_option maxRecDepth 100000 in
theorem cm_Parser_routine (l : Launch) (d : gD) (b : Nat) {Y : gYt} {c : Nat × Nat} (hst : l.stackTraces = false) (hcx : yCx b c) {rec : Nat → Int → Int → Int → cS → (Int → cS → Prop) → (cS → Prop) → Prop} {lv0 : Nat} (ih : yOkP l d b Y c lv0 rec) {F : gM} {k n : Nat} {S : gSt} {A0 : cS} {a0 : Int} (Ra0 : zR a0) {Q : Int → cS → Prop} {E : cS → Prop} (hZ : yZ d b Y c F S (F, k, n) S A0) (hw : wc_Parser_routine rec A0 a0 Q E) : hXi l d b yX6_routine cX6_routine 4 .int (9 + lv0 + 1) k n F [.ref (gO' Y 4), .int (zI a0)] (yPi d b Y c F S Q) "java/lang/IllegalStateException" (yPx d b Y c F S E) := by
  intro mc ms
  refine hX_of2 rfl (nL := 4) (Nat.le_of_ble_eq_true rfl) ?_
  intro X hX hT hC hr ho; subst hX
  show yG X d b (yxQi X d b Y c F S mc ms Q E) (F, k, n) 0 [some (.ref (gO' Y 4)), some (.int (zI a0)), none, none] []
  unfold wc_Parser_routine at hw
  refine h_aload_n hC dX6_routine_0 rfl ?_
  refine h_get hC fl_X6_60 (hZ.w.o 4 (by decide)) rfl dX6_routine_1 ?_
  refine h_bipush (v := zI 95) hC dX6_routine_4 rfl ?_
  refine h_aload_n hC dX6_routine_6 rfl ?_
  refine yr_callVi (As := []) hC hr ho hZ rfl (hZ.w.o 4 (by decide)) (cm_Parser_place X.la d b  hZ.rs hw) cl_X6_112 rfl rfl (Nat.le_of_ble_eq_true rfl) (hFr_of (by omega) (Nat.le_of_ble_eq_true rfl)) dX6_routine_7 (fun r1 A2 u3 S4 R5 o6 hZ7 h8 => ?_)
  refine h_aload_n hC dX6_routine_10 rfl ?_
  refine yx_calli (As := []) hC hr o6 hZ7 rfl (hZ7.w.o 4 (by decide)) (cm_Parser_nameDue X.la d b hst hcx  hZ7.rs h8) cl_X6_141 rfl rfl (Nat.le_of_ble_eq_true rfl) (hFr_of (by omega) (Nat.le_of_ble_eq_true rfl)) dX6_routine_11 (fun _ _ _ ho1 hz1 he1 => yx_out hC hr ho1 hz1 hT he1) (fun r9 A10 u11 S12 R13 o14 hZ15 h16 => ?_)
  refine yr_callVi (As := [.int (zI 95), .int (zI r1), .int (zI r9)]) hC hr o14 hZ15 rfl (hZ15.w.o 2 (by decide)) (cm_Tree_node X.la d b (by decide) R5 R13 hZ15.rs h16) cl_X6_115 rfl rfl (Nat.le_of_ble_eq_true rfl) (hFr_of (by omega) (Nat.le_of_ble_eq_true rfl)) dX6_routine_14 (fun r17 A18 u19 S20 R21 o22 hZ23 h24 => ?_)
  refine h_istore_n (lv' := [some (.ref (gO' Y 4)), some (.int (zI a0)), some (.int (zI r17)), none]) hC dX6_routine_17 (Nat.le_of_ble_eq_true rfl) rfl rfl ?_
  refine h_aload_n hC dX6_routine_18 rfl ?_
  refine h_get hC fl_X6_64 (hZ23.w.o 4 (by decide)) rfl dX6_routine_19 ?_
  refine h_iload_n hC dX6_routine_22 rfl ?_
  refine yr_if_eq (tgt := 41) hC Ra0 dX6_routine_23 (by decide) (fun c25 => ?_) (fun c25 => ?_)
  · have h26 := h24.1 c25
    refine h_iconst (v := zI 1) hC dX6_routine_41 rfl ?_
    refine h_goto (tgt := 46) hC dX6_routine_42 (by decide) ?_
    exact cj_Parser_routine_46 hC hr hst hT hcx ih  Ra0 R21 (by decide) o22 hZ23 h26
  · have h27 := h24.2 c25
    refine h_aload_n hC dX6_routine_26 rfl ?_
    refine h_aload_n hC dX6_routine_27 rfl ?_
    refine h_get hC fl_X6_60 (hZ23.w.o 4 (by decide)) rfl dX6_routine_28 ?_
    refine h_iload_n hC dX6_routine_31 rfl ?_
    refine yr_callVi (As := [.int (zI r17)]) hC hr o22 hZ23 rfl (hZ23.w.o 2 (by decide)) (cm_Tree_data X.la d b R21 hZ23.rs h27) cl_X6_144 rfl rfl (Nat.le_of_ble_eq_true rfl) (hFr_of (by omega) (Nat.le_of_ble_eq_true rfl)) dX6_routine_32 (fun r28 A29 u30 S31 R32 o33 hZ34 h35 => ?_)
    refine yr_callVi (As := [.int (zI r28)]) hC hr o33 hZ34 rfl (hZ34.w.o 4 (by decide)) (cm_Parser_isGlobal X.la d b R32 hZ34.rs h35) cl_X6_175 rfl rfl (Nat.le_of_ble_eq_true rfl) (hFr_of (by omega) (Nat.le_of_ble_eq_true rfl)) dX6_routine_35 (fun r36 A37 u38 S39 R40 o41 hZ42 h43 => ?_)
    refine yr_if_ne (tgt := 45) hC R40 dX6_routine_38 (by decide) (fun c44 => ?_) (fun c44 => ?_)
    · have h45 := h43.1 c44
      refine h_iconst (v := zI 0) hC dX6_routine_45 rfl ?_
      exact cj_Parser_routine_46 hC hr hst hT hcx ih  Ra0 R21 (by decide) o41 hZ42 h45
    · have h46 := h43.2 c44
      refine h_iconst (v := zI 1) hC dX6_routine_41 rfl ?_
      refine h_goto (tgt := 46) hC dX6_routine_42 (by decide) ?_
      exact cj_Parser_routine_46 hC hr hst hT hcx ih  Ra0 R21 (by decide) o41 hZ42 h46
theorem dX6_variables_0 : decode cX6_variables 0 = .ok (.aload_n 0, 1) := by decide +kernel
theorem dX6_variables_1 : decode cX6_variables 1 = .ok (.getfield 60, 3) := by decide +kernel
theorem dX6_variables_4 : decode cX6_variables 4 = .ok (.iload_n 1, 1) := by decide +kernel
theorem dX6_variables_5 : decode cX6_variables 5 = .ok (.bipush 97, 2) := by decide +kernel
theorem dX6_variables_7 : decode cX6_variables 7 = .ok (.invokevirtual 187, 3) := by decide +kernel
theorem dX6_variables_10 : decode cX6_variables 10 = .ok (.iconst 0, 1) := by decide +kernel
theorem dX6_variables_11 : decode cX6_variables 11 = .ok (.istore_n 2, 1) := by decide +kernel
theorem dX6_variables_12 : decode cX6_variables 12 = .ok (.iconst 0, 1) := by decide +kernel
theorem dX6_variables_13 : decode cX6_variables 13 = .ok (.istore_n 3, 1) := by decide +kernel
theorem dX6_variables_14 : decode cX6_variables 14 = .ok (.iload_n 3, 1) := by decide +kernel
theorem dX6_variables_15 : decode cX6_variables 15 = .ok (.ldc 11, 2) := by decide +kernel
theorem dX6_variables_17 : decode cX6_variables 17 = .ok (.if_icmp .ge 53, 3) := by decide +kernel
theorem dX6_variables_20 : decode cX6_variables 20 = .ok (.aload_n 0, 1) := by decide +kernel
theorem dX6_variables_21 : decode cX6_variables 21 = .ok (.invokevirtual 97, 3) := by decide +kernel
theorem dX6_variables_24 : decode cX6_variables 24 = .ok (.iconst 2, 1) := by decide +kernel
theorem dX6_variables_25 : decode cX6_variables 25 = .ok (.if_icmp .eq 7, 3) := by decide +kernel
theorem dX6_variables_28 : decode cX6_variables 28 = .ok (.aload_n 0, 1) := by decide +kernel
theorem dX6_variables_29 : decode cX6_variables 29 = .ok (.invokevirtual 100, 3) := by decide +kernel
theorem dX6_variables_32 : decode cX6_variables 32 = .ok (.aload_n 0, 1) := by decide +kernel
theorem dX6_variables_33 : decode cX6_variables 33 = .ok (.getfield 60, 3) := by decide +kernel
theorem dX6_variables_36 : decode cX6_variables 36 = .ok (.iload_n 1, 1) := by decide +kernel
theorem dX6_variables_37 : decode cX6_variables 37 = .ok (.aload_n 0, 1) := by decide +kernel
theorem dX6_variables_38 : decode cX6_variables 38 = .ok (.iconst 2, 1) := by decide +kernel
theorem dX6_variables_39 : decode cX6_variables 39 = .ok (.invokevirtual 135, 3) := by decide +kernel
theorem dX6_variables_42 : decode cX6_variables 42 = .ok (.invokevirtual 123, 3) := by decide +kernel
theorem dX6_variables_45 : decode cX6_variables 45 = .ok (.iinc 2 1, 3) := by decide +kernel
theorem dX6_variables_48 : decode cX6_variables 48 = .ok (.aload_n 0, 1) := by decide +kernel
theorem dX6_variables_49 : decode cX6_variables 49 = .ok (.invokevirtual 97, 3) := by decide +kernel
theorem dX6_variables_52 : decode cX6_variables 52 = .ok (.bipush 9, 2) := by decide +kernel
theorem dX6_variables_54 : decode cX6_variables 54 = .ok (.if_icmp .eq 6, 3) := by decide +kernel
theorem dX6_variables_57 : decode cX6_variables 57 = .ok (.goto 13, 3) := by decide +kernel
theorem dX6_variables_60 : decode cX6_variables 60 = .ok (.aload_n 0, 1) := by decide +kernel
theorem dX6_variables_61 : decode cX6_variables 61 = .ok (.invokevirtual 103, 3) := by decide +kernel
theorem dX6_variables_64 : decode cX6_variables 64 = .ok (.iinc 3 1, 3) := by decide +kernel
theorem dX6_variables_67 : decode cX6_variables 67 = .ok (.goto (-53), 3) := by decide +kernel
theorem dX6_variables_70 : decode cX6_variables 70 = .ok (.aload_n 0, 1) := by decide +kernel
theorem dX6_variables_71 : decode cX6_variables 71 = .ok (.bipush 20, 2) := by decide +kernel
theorem dX6_variables_73 : decode cX6_variables 73 = .ok (.invokevirtual 109, 3) := by decide +kernel
theorem dX6_variables_76 : decode cX6_variables 76 = .ok (.iconst 0, 1) := by decide +kernel
theorem dX6_variables_77 : decode cX6_variables 77 = .ok (.istore_n 3, 1) := by decide +kernel
theorem dX6_variables_78 : decode cX6_variables 78 = .ok (.iload_n 3, 1) := by decide +kernel
theorem dX6_variables_79 : decode cX6_variables 79 = .ok (.iload_n 2, 1) := by decide +kernel
theorem dX6_variables_80 : decode cX6_variables 80 = .ok (.if_icmp .ge 74, 3) := by decide +kernel
theorem dX6_variables_83 : decode cX6_variables 83 = .ok (.iload_n 3, 1) := by decide +kernel
theorem dX6_variables_84 : decode cX6_variables 84 = .ok (.ifCond .le 9, 3) := by decide +kernel
theorem dX6_variables_87 : decode cX6_variables 87 = .ok (.aload_n 0, 1) := by decide +kernel
theorem dX6_variables_88 : decode cX6_variables 88 = .ok (.bipush 9, 2) := by decide +kernel
theorem dX6_variables_90 : decode cX6_variables 90 = .ok (.invokevirtual 109, 3) := by decide +kernel
theorem dX6_variables_93 : decode cX6_variables 93 = .ok (.aload_n 0, 1) := by decide +kernel
theorem dX6_variables_94 : decode cX6_variables 94 = .ok (.invokevirtual 97, 3) := by decide +kernel
theorem dX6_variables_97 : decode cX6_variables 97 = .ok (.bipush 59, 2) := by decide +kernel
theorem dX6_variables_99 : decode cX6_variables 99 = .ok (.if_icmp .ne 37, 3) := by decide +kernel
theorem dX6_variables_102 : decode cX6_variables 102 = .ok (.aload_n 0, 1) := by decide +kernel
theorem dX6_variables_103 : decode cX6_variables 103 = .ok (.bipush 59, 2) := by decide +kernel
theorem dX6_variables_105 : decode cX6_variables 105 = .ok (.invokevirtual 135, 3) := by decide +kernel
theorem dX6_variables_108 : decode cX6_variables 108 = .ok (.istore 4, 2) := by decide +kernel
theorem dX6_variables_110 : decode cX6_variables 110 = .ok (.aload_n 0, 1) := by decide +kernel
theorem dX6_variables_111 : decode cX6_variables 111 = .ok (.getfield 60, 3) := by decide +kernel
theorem dX6_variables_114 : decode cX6_variables 114 = .ok (.iload 4, 2) := by decide +kernel
theorem dX6_variables_116 : decode cX6_variables 116 = .ok (.aload_n 0, 1) := by decide +kernel
theorem dX6_variables_117 : decode cX6_variables 117 = .ok (.invokevirtual 156, 3) := by decide +kernel
theorem dX6_variables_120 : decode cX6_variables 120 = .ok (.invokevirtual 123, 3) := by decide +kernel
theorem dX6_variables_123 : decode cX6_variables 123 = .ok (.aload_n 0, 1) := by decide +kernel
theorem dX6_variables_124 : decode cX6_variables 124 = .ok (.getfield 60, 3) := by decide +kernel
theorem dX6_variables_127 : decode cX6_variables 127 = .ok (.iload_n 1, 1) := by decide +kernel
theorem dX6_variables_128 : decode cX6_variables 128 = .ok (.iload 4, 2) := by decide +kernel
theorem dX6_variables_130 : decode cX6_variables 130 = .ok (.invokevirtual 123, 3) := by decide +kernel
theorem dX6_variables_133 : decode cX6_variables 133 = .ok (.goto 15, 3) := by decide +kernel
theorem dX6_variables_136 : decode cX6_variables 136 = .ok (.aload_n 0, 1) := by decide +kernel
theorem dX6_variables_137 : decode cX6_variables 137 = .ok (.getfield 60, 3) := by decide +kernel
theorem dX6_variables_140 : decode cX6_variables 140 = .ok (.iload_n 1, 1) := by decide +kernel
theorem dX6_variables_141 : decode cX6_variables 141 = .ok (.aload_n 0, 1) := by decide +kernel
theorem dX6_variables_142 : decode cX6_variables 142 = .ok (.invokevirtual 156, 3) := by decide +kernel
theorem dX6_variables_145 : decode cX6_variables 145 = .ok (.invokevirtual 123, 3) := by decide +kernel
theorem dX6_variables_148 : decode cX6_variables 148 = .ok (.iinc 3 1, 3) := by decide +kernel
theorem dX6_variables_151 : decode cX6_variables 151 = .ok (.goto (-73), 3) := by decide +kernel
theorem dX6_variables_154 : decode cX6_variables 154 = .ok (.aload_n 0, 1) := by decide +kernel
theorem dX6_variables_155 : decode cX6_variables 155 = .ok (.getfield 60, 3) := by decide +kernel
theorem dX6_variables_158 : decode cX6_variables 158 = .ok (.iload_n 1, 1) := by decide +kernel
theorem dX6_variables_159 : decode cX6_variables 159 = .ok (.iload_n 2, 1) := by decide +kernel
theorem dX6_variables_160 : decode cX6_variables 160 = .ok (.invokevirtual 193, 3) := by decide +kernel
theorem dX6_variables_163 : decode cX6_variables 163 = .ok (.return_, 1) := by decide +kernel
def wc_Parser_variables_93 (rec : Nat → Int → Int → Int → cS → (Int → cS → Prop) → (cS → Prop) → Prop) (Q : cS → Prop) (E : cS → Prop) (k78 : cS → Int → Int → Int → Prop) (A0 : cS) (x1 : Int) (x2 : Int) (x3 : Int) : Prop :=
  wc_Parser_kind A0  (fun r1 A2 => ((¬ r1 = 59 → rec 12 0 0 0 A2 (fun r11 A12 => wc_Tree_hang A12 x1 r11 (fun A20 => (zR (x3 + 1)) ∧ k78 A20 x1 x2 (x3 + 1))) E) ∧ (r1 = 59 → wc_Parser_leaf A2 59 (fun r30 A31 => rec 12 0 0 0 A31 (fun r38 A39 => wc_Tree_hang A39 r30 r38 (fun A47 => wc_Tree_hang A47 x1 r30 (fun A55 => (zR (x3 + 1)) ∧ k78 A55 x1 x2 (x3 + 1)))) E))))
def wc_Parser_variables_78B (rec : Nat → Int → Int → Int → cS → (Int → cS → Prop) → (cS → Prop) → Prop) (Q : cS → Prop) (E : cS → Prop) (k78 : cS → Int → Int → Int → Prop) (A0 : cS) (x1 : Int) (x2 : Int) (x3 : Int) : Prop :=
  ((x2 ≤ x3 → wc_Tree_setData A0 x1 x2 (fun A4 => Q A4)) ∧ (¬ x2 ≤ x3 → ((x3 ≤ 0 → wc_Parser_variables_93 rec Q E k78 A0 x1 x2 x3) ∧ (¬ x3 ≤ 0 → wc_Parser_due A0 9 (fun A16 => wc_Parser_variables_93 rec Q E k78 A16 x1 x2 x3) E))))
def wc_Parser_variables_78 (rec : Nat → Int → Int → Int → cS → (Int → cS → Prop) → (cS → Prop) → Prop) (Q : cS → Prop) (E : cS → Prop)  : Nat → cS → Int → Int → Int → Prop
  | 0 => fun _ _ _ _ => False
  | m + 1 => fun A0 x1 x2 x3 => wc_Parser_variables_78B rec Q E  (wc_Parser_variables_78 rec Q E  m) A0 x1 x2 x3
def wc_Parser_variables_14B (rec : Nat → Int → Int → Int → cS → (Int → cS → Prop) → (cS → Prop) → Prop) (Q : cS → Prop) (E : cS → Prop) (k14 : cS → Int → Int → Int → Prop) (A0 : cS) (x1 : Int) (x2 : Int) (x3 : Int) : Prop :=
  ((1000000 ≤ x3 → wc_Parser_due A0 20 (fun A4 => ∃ n, wc_Parser_variables_78 rec Q E  n A4 x1 x2 0) E) ∧ (¬ 1000000 ≤ x3 → wc_Parser_kind A0  (fun r14 A15 => ((r14 = 2 → wc_Parser_leaf A15 2 (fun r24 A25 => wc_Tree_hang A25 x1 r24 (fun A33 => wc_Parser_kind A33  (fun r40 A41 => ((r40 = 9 → wc_Parser_advance A41  (fun A51 => (zR (x2 + 1)) ∧ (zR (x3 + 1)) ∧ k14 A51 x1 (x2 + 1) (x3 + 1))) ∧ (¬ r40 = 9 → wc_Parser_due A41 20 (fun A64 => (zR (x2 + 1)) ∧ ∃ n, wc_Parser_variables_78 rec Q E  n A64 x1 (x2 + 1) 0) E)))))) ∧ (¬ r14 = 2 → wc_Parser_refuse A15  (fun A77 => wc_Parser_leaf A77 2 (fun r84 A85 => wc_Tree_hang A85 x1 r84 (fun A93 => wc_Parser_kind A93  (fun r100 A101 => ((r100 = 9 → wc_Parser_advance A101  (fun A111 => (zR (x2 + 1)) ∧ (zR (x3 + 1)) ∧ k14 A111 x1 (x2 + 1) (x3 + 1))) ∧ (¬ r100 = 9 → wc_Parser_due A101 20 (fun A124 => (zR (x2 + 1)) ∧ ∃ n, wc_Parser_variables_78 rec Q E  n A124 x1 (x2 + 1) 0) E)))))) E)))))
def wc_Parser_variables_14 (rec : Nat → Int → Int → Int → cS → (Int → cS → Prop) → (cS → Prop) → Prop) (Q : cS → Prop) (E : cS → Prop)  : Nat → cS → Int → Int → Int → Prop
  | 0 => fun _ _ _ _ => False
  | m + 1 => fun A0 x1 x2 x3 => wc_Parser_variables_14B rec Q E  (wc_Parser_variables_14 rec Q E  m) A0 x1 x2 x3
def wc_Parser_variables (rec : Nat → Int → Int → Int → cS → (Int → cS → Prop) → (cS → Prop) → Prop) (A0 : cS) (a0 : Int) (Q : cS → Prop) (E : cS → Prop) : Prop :=
  wc_Tree_setKind A0 a0 97 (fun A2 => ∃ n, wc_Parser_variables_14 rec Q E  n A2 a0 0 0)
set_option maxHeartbeats 4000000 in
set_option maxRecDepth 100000 in
theorem cj_Parser_variables_93 {X : gX} {d : gD} {b : Nat} {Y : gYt} {c : Nat × Nat} {F0 : gM} {S0 : gSt} {mc ms : Nat} {rec : Nat → Int → Int → Int → cS → (Int → cS → Prop) → (cS → Prop) → Prop} {lv0 : Nat} (hC : gC RX6 cX6_variables 5 none "variables" (gR (9 + lv0 + 1) mc ms) d b X) (hr : hRm X b) (hst : X.la.stackTraces = false) (hT : ∀ x ∈ X.co.exceptionTable.toList, False) (hcx : yCx b c) (ih : yOkP X.la d b Y c lv0 rec) {Q : cS → Prop} {E : cS → Prop} {k78 : cS → Int → Int → Int → Prop} (hk78 : ∀ (u : hU) (S : gSt) (A0 : cS) (x1 : Int) (x2 : Int) (x3 : Int), zR x1 → zR x2 → zR x3 → yOk X b u → yZ d b Y c F0 S0 u S A0 → k78 A0 x1 x2 x3 → yG X d b (yxQv X d b Y c F0 S0 mc ms Q E) u 78 [some (.ref (gO' Y 4)), some (.int (zI x1)), some (.int (zI x2)), some (.int (zI x3)), none] []) {u : hU} {S : gSt} {A0 : cS} {x1 : Int} {x2 : Int} {x3 : Int} (Rx1 : zR x1) (Rx2 : zR x2) (Rx3 : zR x3) (ho : yOk X b u) (hZ : yZ d b Y c F0 S0 u S A0) (hw : wc_Parser_variables_93 rec Q E k78 A0 x1 x2 x3) : yG X d b (yxQv X d b Y c F0 S0 mc ms Q E) u 93 [some (.ref (gO' Y 4)), some (.int (zI x1)), some (.int (zI x2)), some (.int (zI x3)), none] [] := by
  unfold wc_Parser_variables_93 at hw
  refine h_aload_n hC dX6_variables_93 rfl ?_
  refine yr_callVi (As := []) hC hr ho hZ rfl (hZ.w.o 4 (by decide)) (cm_Parser_kind X.la d b  hZ.rs hw) cl_X6_97 rfl rfl (Nat.le_of_ble_eq_true rfl) (hFr_of (by omega) (Nat.le_of_ble_eq_true rfl)) dX6_variables_94 (fun r1 A2 u3 S4 R5 o6 hZ7 h8 => ?_)
  refine h_bipush (v := zI 59) hC dX6_variables_97 rfl ?_
  refine yr_icmp_ne (tgt := 136) hC R5 (by decide) dX6_variables_99 (by decide) (fun c9 => ?_) (fun c9 => ?_)
  · have h10 := h8.1 c9
    refine h_aload_n hC dX6_variables_136 rfl ?_
    refine h_get hC fl_X6_60 (hZ7.w.o 4 (by decide)) rfl dX6_variables_137 ?_
    refine h_iload_n hC dX6_variables_140 rfl ?_
    refine h_aload_n hC dX6_variables_141 rfl ?_
    refine yx_calli (As := []) hC hr o6 hZ7 rfl (hZ7.w.o 4 (by decide)) (ih.2.2.2.2.2.2.2.2.2.2.2.2.1  hZ7.rs h10) cl_X6_156 rfl rfl (Nat.le_of_ble_eq_true rfl) (hFr_of (by omega) (Nat.le_of_ble_eq_true rfl)) dX6_variables_142 (fun _ _ _ ho1 hz1 he1 => yx_out hC hr ho1 hz1 hT he1) (fun r11 A12 u13 S14 R15 o16 hZ17 h18 => ?_)
    refine yr_callVv (As := [.int (zI x1), .int (zI r11)]) hC hr o16 hZ17 rfl (hZ17.w.o 2 (by decide)) (cm_Tree_hang X.la d b Rx1 R15 hZ17.rs h18) cl_X6_123 rfl rfl (Nat.le_of_ble_eq_true rfl) (hFr_of (by omega) (Nat.le_of_ble_eq_true rfl)) dX6_variables_145 (fun A20 u21 S22 o24 hZ25 h26 => ?_)
    refine yr_iinc (x := x3) (lv' := [some (.ref (gO' Y 4)), some (.int (zI x1)), some (.int (zI x2)), some (.int (zI (x3 + 1))), none]) hC dX6_variables_148 rfl rfl rfl ?_
    refine h_goto (tgt := 78) hC dX6_variables_151 (by decide) ?_
    obtain ⟨o27, h28⟩ := h26
    exact hk78 _ _ _ _ _ _ Rx1 Rx2 o27 o24 hZ25 h28
  · have h29 := h8.2 c9
    refine h_aload_n hC dX6_variables_102 rfl ?_
    refine h_bipush (v := zI 59) hC dX6_variables_103 rfl ?_
    refine yr_callVi (As := [.int (zI 59)]) hC hr o6 hZ7 rfl (hZ7.w.o 4 (by decide)) (cm_Parser_leaf X.la d b (by decide) hZ7.rs h29) cl_X6_135 rfl rfl (Nat.le_of_ble_eq_true rfl) (hFr_of (by omega) (Nat.le_of_ble_eq_true rfl)) dX6_variables_105 (fun r30 A31 u32 S33 R34 o35 hZ36 h37 => ?_)
    refine h_istore (lv' := [some (.ref (gO' Y 4)), some (.int (zI x1)), some (.int (zI x2)), some (.int (zI x3)), some (.int (zI r30))]) hC dX6_variables_108 (Nat.le_of_ble_eq_true rfl) rfl rfl ?_
    refine h_aload_n hC dX6_variables_110 rfl ?_
    refine h_get hC fl_X6_60 (hZ36.w.o 4 (by decide)) rfl dX6_variables_111 ?_
    refine h_iload hC dX6_variables_114 rfl ?_
    refine h_aload_n hC dX6_variables_116 rfl ?_
    refine yx_calli (As := []) hC hr o35 hZ36 rfl (hZ36.w.o 4 (by decide)) (ih.2.2.2.2.2.2.2.2.2.2.2.2.1  hZ36.rs h37) cl_X6_156 rfl rfl (Nat.le_of_ble_eq_true rfl) (hFr_of (by omega) (Nat.le_of_ble_eq_true rfl)) dX6_variables_117 (fun _ _ _ ho1 hz1 he1 => yx_out hC hr ho1 hz1 hT he1) (fun r38 A39 u40 S41 R42 o43 hZ44 h45 => ?_)
    refine yr_callVv (As := [.int (zI r30), .int (zI r38)]) hC hr o43 hZ44 rfl (hZ44.w.o 2 (by decide)) (cm_Tree_hang X.la d b R34 R42 hZ44.rs h45) cl_X6_123 rfl rfl (Nat.le_of_ble_eq_true rfl) (hFr_of (by omega) (Nat.le_of_ble_eq_true rfl)) dX6_variables_120 (fun A47 u48 S49 o51 hZ52 h53 => ?_)
    refine h_aload_n hC dX6_variables_123 rfl ?_
    refine h_get hC fl_X6_60 (hZ52.w.o 4 (by decide)) rfl dX6_variables_124 ?_
    refine h_iload_n hC dX6_variables_127 rfl ?_
    refine h_iload hC dX6_variables_128 rfl ?_
    refine yr_callVv (As := [.int (zI x1), .int (zI r30)]) hC hr o51 hZ52 rfl (hZ52.w.o 2 (by decide)) (cm_Tree_hang X.la d b Rx1 R34 hZ52.rs h53) cl_X6_123 rfl rfl (Nat.le_of_ble_eq_true rfl) (hFr_of (by omega) (Nat.le_of_ble_eq_true rfl)) dX6_variables_130 (fun A55 u56 S57 o59 hZ60 h61 => ?_)
    refine h_goto (tgt := 148) hC dX6_variables_133 (by decide) ?_
    refine yr_iinc (x := x3) (lv' := [some (.ref (gO' Y 4)), some (.int (zI x1)), some (.int (zI x2)), some (.int (zI (x3 + 1))), some (.int (zI r30))]) hC dX6_variables_148 rfl rfl rfl ?_
    refine h_goto (tgt := 78) hC dX6_variables_151 (by decide) ?_
    obtain ⟨o62, h63⟩ := h61
    refine h_lv (lv' := [some (.ref (gO' Y 4)), some (.int (zI x1)), some (.int (zI x2)), some (.int (zI (x3 + 1))), none]) ⟨rfl, rfl, rfl, rfl, trivial⟩ ?_
    exact hk78 _ _ _ _ _ _ Rx1 Rx2 o62 o59 hZ60 h63
set_option maxHeartbeats 4000000 in
set_option maxRecDepth 100000 in
theorem cb_Parser_variables_78 {X : gX} {d : gD} {b : Nat} {Y : gYt} {c : Nat × Nat} {F0 : gM} {S0 : gSt} {mc ms : Nat} {rec : Nat → Int → Int → Int → cS → (Int → cS → Prop) → (cS → Prop) → Prop} {lv0 : Nat} (hC : gC RX6 cX6_variables 5 none "variables" (gR (9 + lv0 + 1) mc ms) d b X) (hr : hRm X b) (hst : X.la.stackTraces = false) (hT : ∀ x ∈ X.co.exceptionTable.toList, False) (hcx : yCx b c) (ih : yOkP X.la d b Y c lv0 rec) {Q : cS → Prop} {E : cS → Prop} {k78 : cS → Int → Int → Int → Prop} (hk78 : ∀ (u : hU) (S : gSt) (A0 : cS) (x1 : Int) (x2 : Int) (x3 : Int), zR x1 → zR x2 → zR x3 → yOk X b u → yZ d b Y c F0 S0 u S A0 → k78 A0 x1 x2 x3 → yG X d b (yxQv X d b Y c F0 S0 mc ms Q E) u 78 [some (.ref (gO' Y 4)), some (.int (zI x1)), some (.int (zI x2)), some (.int (zI x3)), none] []) {u : hU} {S : gSt} {A0 : cS} {x1 : Int} {x2 : Int} {x3 : Int} (Rx1 : zR x1) (Rx2 : zR x2) (Rx3 : zR x3) (ho : yOk X b u) (hZ : yZ d b Y c F0 S0 u S A0) (hw : wc_Parser_variables_78B rec Q E k78 A0 x1 x2 x3) : yG X d b (yxQv X d b Y c F0 S0 mc ms Q E) u 78 [some (.ref (gO' Y 4)), some (.int (zI x1)), some (.int (zI x2)), some (.int (zI x3)), none] [] := by
  unfold wc_Parser_variables_78B at hw
  refine h_iload_n hC dX6_variables_78 rfl ?_
  refine h_iload_n hC dX6_variables_79 rfl ?_
  refine yr_icmp_ge (tgt := 154) hC Rx3 Rx2 dX6_variables_80 (by decide) (fun c1 => ?_) (fun c1 => ?_)
  · have h2 := hw.1 c1
    refine h_aload_n hC dX6_variables_154 rfl ?_
    refine h_get hC fl_X6_60 (hZ.w.o 4 (by decide)) rfl dX6_variables_155 ?_
    refine h_iload_n hC dX6_variables_158 rfl ?_
    refine h_iload_n hC dX6_variables_159 rfl ?_
    refine yr_callVv (As := [.int (zI x1), .int (zI x2)]) hC hr ho hZ rfl (hZ.w.o 2 (by decide)) (cm_Tree_setData X.la d b Rx1 Rx2 hZ.rs h2) cl_X6_193 rfl rfl (Nat.le_of_ble_eq_true rfl) (hFr_of (by omega) (Nat.le_of_ble_eq_true rfl)) dX6_variables_160 (fun A4 u5 S6 o8 hZ9 h10 => ?_)
    exact h_xret (yr_vret hC hr o8 hZ9 h10 dX6_variables_163)
  · have h11 := hw.2 c1
    refine h_iload_n hC dX6_variables_83 rfl ?_
    refine yr_if_le (tgt := 93) hC Rx3 dX6_variables_84 (by decide) (fun c12 => ?_) (fun c12 => ?_)
    · have h13 := h11.1 c12
      exact cj_Parser_variables_93 hC hr hst hT hcx ih hk78 Rx1 Rx2 Rx3 ho hZ h13
    · have h14 := h11.2 c12
      refine h_aload_n hC dX6_variables_87 rfl ?_
      refine h_bipush (v := zI 9) hC dX6_variables_88 rfl ?_
      refine yx_callv (As := [.int (zI 9)]) hC hr ho hZ rfl (hZ.w.o 4 (by decide)) (cm_Parser_due X.la d b hst hcx (by decide) hZ.rs h14) cl_X6_109 rfl rfl (Nat.le_of_ble_eq_true rfl) (hFr_of (by omega) (Nat.le_of_ble_eq_true rfl)) dX6_variables_90 (fun _ _ _ ho1 hz1 he1 => yx_out hC hr ho1 hz1 hT he1) (fun A16 u17 S18 o20 hZ21 h22 => ?_)
      exact cj_Parser_variables_93 hC hr hst hT hcx ih hk78 Rx1 Rx2 Rx3 o20 hZ21 h22
theorem cl_Parser_variables_78 {X : gX} {d : gD} {b : Nat} {Y : gYt} {c : Nat × Nat} {F0 : gM} {S0 : gSt} {mc ms : Nat} {rec : Nat → Int → Int → Int → cS → (Int → cS → Prop) → (cS → Prop) → Prop} {lv0 : Nat} (hC : gC RX6 cX6_variables 5 none "variables" (gR (9 + lv0 + 1) mc ms) d b X) (hr : hRm X b) (hst : X.la.stackTraces = false) (hT : ∀ x ∈ X.co.exceptionTable.toList, False) (hcx : yCx b c) (ih : yOkP X.la d b Y c lv0 rec) {Q : cS → Prop} {E : cS → Prop}   : ∀ (m : Nat) (u : hU) (S : gSt) (A0 : cS) (x1 : Int) (x2 : Int) (x3 : Int), zR x1 → zR x2 → zR x3 → yOk X b u → yZ d b Y c F0 S0 u S A0 → wc_Parser_variables_78 rec Q E  m A0 x1 x2 x3 → yG X d b (yxQv X d b Y c F0 S0 mc ms Q E) u 78 [some (.ref (gO' Y 4)), some (.int (zI x1)), some (.int (zI x2)), some (.int (zI x3)), none] [] := by
  intro m
  induction m with
  | zero => intro u S A0 x1 x2 x3 Rx1 Rx2 Rx3 ho hZ hw; exact False.elim hw
  | succ m ihm => intro u S A0 x1 x2 x3 Rx1 Rx2 Rx3 ho hZ hw; exact cb_Parser_variables_78 hC hr hst hT hcx ih  ihm Rx1 Rx2 Rx3 ho hZ hw
set_option maxHeartbeats 4000000 in
set_option maxRecDepth 100000 in
theorem cb_Parser_variables_14 {X : gX} {d : gD} {b : Nat} {Y : gYt} {c : Nat × Nat} {F0 : gM} {S0 : gSt} {mc ms : Nat} {rec : Nat → Int → Int → Int → cS → (Int → cS → Prop) → (cS → Prop) → Prop} {lv0 : Nat} (hC : gC RX6 cX6_variables 5 none "variables" (gR (9 + lv0 + 1) mc ms) d b X) (hr : hRm X b) (hst : X.la.stackTraces = false) (hT : ∀ x ∈ X.co.exceptionTable.toList, False) (hcx : yCx b c) (ih : yOkP X.la d b Y c lv0 rec) {Q : cS → Prop} {E : cS → Prop} {k14 : cS → Int → Int → Int → Prop} (hk14 : ∀ (u : hU) (S : gSt) (A0 : cS) (x1 : Int) (x2 : Int) (x3 : Int), zR x1 → zR x2 → zR x3 → yOk X b u → yZ d b Y c F0 S0 u S A0 → k14 A0 x1 x2 x3 → yG X d b (yxQv X d b Y c F0 S0 mc ms Q E) u 14 [some (.ref (gO' Y 4)), some (.int (zI x1)), some (.int (zI x2)), some (.int (zI x3)), none] []) {u : hU} {S : gSt} {A0 : cS} {x1 : Int} {x2 : Int} {x3 : Int} (Rx1 : zR x1) (Rx2 : zR x2) (Rx3 : zR x3) (ho : yOk X b u) (hZ : yZ d b Y c F0 S0 u S A0) (hw : wc_Parser_variables_14B rec Q E k14 A0 x1 x2 x3) : yG X d b (yxQv X d b Y c F0 S0 mc ms Q E) u 14 [some (.ref (gO' Y 4)), some (.int (zI x1)), some (.int (zI x2)), some (.int (zI x3)), none] [] := by
  unfold wc_Parser_variables_14B at hw
  refine h_iload_n hC dX6_variables_14 rfl ?_
  refine yr_ldc (e := 1000000) hC dX6_variables_15 kw_514 (by decide) ?_
  refine yr_icmp_ge (tgt := 70) hC Rx3 (by decide) dX6_variables_17 (by decide) (fun c1 => ?_) (fun c1 => ?_)
  · have h2 := hw.1 c1
    refine h_aload_n hC dX6_variables_70 rfl ?_
    refine h_bipush (v := zI 20) hC dX6_variables_71 rfl ?_
    refine yx_callv (As := [.int (zI 20)]) hC hr ho hZ rfl (hZ.w.o 4 (by decide)) (cm_Parser_due X.la d b hst hcx (by decide) hZ.rs h2) cl_X6_109 rfl rfl (Nat.le_of_ble_eq_true rfl) (hFr_of (by omega) (Nat.le_of_ble_eq_true rfl)) dX6_variables_73 (fun _ _ _ ho1 hz1 he1 => yx_out hC hr ho1 hz1 hT he1) (fun A4 u5 S6 o8 hZ9 h10 => ?_)
    refine h_iconst (v := zI 0) hC dX6_variables_76 rfl ?_
    refine h_istore_n (lv' := [some (.ref (gO' Y 4)), some (.int (zI x1)), some (.int (zI x2)), some (.int (zI 0)), none]) hC dX6_variables_77 (Nat.le_of_ble_eq_true rfl) rfl rfl ?_
    obtain ⟨m11, h12⟩ := h10
    exact cl_Parser_variables_78 hC hr hst hT hcx ih  m11 _ _ _ _ _ _ Rx1 Rx2 (by decide) o8 hZ9 h12
  · have h13 := hw.2 c1
    refine h_aload_n hC dX6_variables_20 rfl ?_
    refine yr_callVi (As := []) hC hr ho hZ rfl (hZ.w.o 4 (by decide)) (cm_Parser_kind X.la d b  hZ.rs h13) cl_X6_97 rfl rfl (Nat.le_of_ble_eq_true rfl) (hFr_of (by omega) (Nat.le_of_ble_eq_true rfl)) dX6_variables_21 (fun r14 A15 u16 S17 R18 o19 hZ20 h21 => ?_)
    refine h_iconst (v := zI 2) hC dX6_variables_24 rfl ?_
    refine yr_icmp_eq (tgt := 32) hC R18 (by decide) dX6_variables_25 (by decide) (fun c22 => ?_) (fun c22 => ?_)
    · have h23 := h21.1 c22
      refine h_aload_n hC dX6_variables_32 rfl ?_
      refine h_get hC fl_X6_60 (hZ20.w.o 4 (by decide)) rfl dX6_variables_33 ?_
      refine h_iload_n hC dX6_variables_36 rfl ?_
      refine h_aload_n hC dX6_variables_37 rfl ?_
      refine h_iconst (v := zI 2) hC dX6_variables_38 rfl ?_
      refine yr_callVi (As := [.int (zI 2)]) hC hr o19 hZ20 rfl (hZ20.w.o 4 (by decide)) (cm_Parser_leaf X.la d b (by decide) hZ20.rs h23) cl_X6_135 rfl rfl (Nat.le_of_ble_eq_true rfl) (hFr_of (by omega) (Nat.le_of_ble_eq_true rfl)) dX6_variables_39 (fun r24 A25 u26 S27 R28 o29 hZ30 h31 => ?_)
      refine yr_callVv (As := [.int (zI x1), .int (zI r24)]) hC hr o29 hZ30 rfl (hZ30.w.o 2 (by decide)) (cm_Tree_hang X.la d b Rx1 R28 hZ30.rs h31) cl_X6_123 rfl rfl (Nat.le_of_ble_eq_true rfl) (hFr_of (by omega) (Nat.le_of_ble_eq_true rfl)) dX6_variables_42 (fun A33 u34 S35 o37 hZ38 h39 => ?_)
      refine yr_iinc (x := x2) (lv' := [some (.ref (gO' Y 4)), some (.int (zI x1)), some (.int (zI (x2 + 1))), some (.int (zI x3)), none]) hC dX6_variables_45 rfl rfl rfl ?_
      refine h_aload_n hC dX6_variables_48 rfl ?_
      refine yr_callVi (As := []) hC hr o37 hZ38 rfl (hZ38.w.o 4 (by decide)) (cm_Parser_kind X.la d b  hZ38.rs h39) cl_X6_97 rfl rfl (Nat.le_of_ble_eq_true rfl) (hFr_of (by omega) (Nat.le_of_ble_eq_true rfl)) dX6_variables_49 (fun r40 A41 u42 S43 R44 o45 hZ46 h47 => ?_)
      refine h_bipush (v := zI 9) hC dX6_variables_52 rfl ?_
      refine yr_icmp_eq (tgt := 60) hC R44 (by decide) dX6_variables_54 (by decide) (fun c48 => ?_) (fun c48 => ?_)
      · have h49 := h47.1 c48
        refine h_aload_n hC dX6_variables_60 rfl ?_
        refine yr_callVv (As := []) hC hr o45 hZ46 rfl (hZ46.w.o 4 (by decide)) (cm_Parser_advance X.la d b  hZ46.rs h49) cl_X6_103 rfl rfl (Nat.le_of_ble_eq_true rfl) (hFr_of (by omega) (Nat.le_of_ble_eq_true rfl)) dX6_variables_61 (fun A51 u52 S53 o55 hZ56 h57 => ?_)
        refine yr_iinc (x := x3) (lv' := [some (.ref (gO' Y 4)), some (.int (zI x1)), some (.int (zI (x2 + 1))), some (.int (zI (x3 + 1))), none]) hC dX6_variables_64 rfl rfl rfl ?_
        refine h_goto (tgt := 14) hC dX6_variables_67 (by decide) ?_
        obtain ⟨o58, h59⟩ := h57
        obtain ⟨o60, h61⟩ := h59
        exact hk14 _ _ _ _ _ _ Rx1 o58 o60 o55 hZ56 h61
      · have h62 := h47.2 c48
        refine h_goto (tgt := 70) hC dX6_variables_57 (by decide) ?_
        refine h_aload_n hC dX6_variables_70 rfl ?_
        refine h_bipush (v := zI 20) hC dX6_variables_71 rfl ?_
        refine yx_callv (As := [.int (zI 20)]) hC hr o45 hZ46 rfl (hZ46.w.o 4 (by decide)) (cm_Parser_due X.la d b hst hcx (by decide) hZ46.rs h62) cl_X6_109 rfl rfl (Nat.le_of_ble_eq_true rfl) (hFr_of (by omega) (Nat.le_of_ble_eq_true rfl)) dX6_variables_73 (fun _ _ _ ho1 hz1 he1 => yx_out hC hr ho1 hz1 hT he1) (fun A64 u65 S66 o68 hZ69 h70 => ?_)
        refine h_iconst (v := zI 0) hC dX6_variables_76 rfl ?_
        refine h_istore_n (lv' := [some (.ref (gO' Y 4)), some (.int (zI x1)), some (.int (zI (x2 + 1))), some (.int (zI 0)), none]) hC dX6_variables_77 (Nat.le_of_ble_eq_true rfl) rfl rfl ?_
        obtain ⟨o71, h72⟩ := h70
        obtain ⟨m73, h74⟩ := h72
        exact cl_Parser_variables_78 hC hr hst hT hcx ih  m73 _ _ _ _ _ _ Rx1 o71 (by decide) o68 hZ69 h74
    · have h75 := h21.2 c22
      refine h_aload_n hC dX6_variables_28 rfl ?_
      refine yx_callv (As := []) hC hr o19 hZ20 rfl (hZ20.w.o 4 (by decide)) (cm_Parser_refuse X.la d b hst hcx  hZ20.rs h75) cl_X6_100 rfl rfl (Nat.le_of_ble_eq_true rfl) (hFr_of (by omega) (Nat.le_of_ble_eq_true rfl)) dX6_variables_29 (fun _ _ _ ho1 hz1 he1 => yx_out hC hr ho1 hz1 hT he1) (fun A77 u78 S79 o81 hZ82 h83 => ?_)
      refine h_aload_n hC dX6_variables_32 rfl ?_
      refine h_get hC fl_X6_60 (hZ82.w.o 4 (by decide)) rfl dX6_variables_33 ?_
      refine h_iload_n hC dX6_variables_36 rfl ?_
      refine h_aload_n hC dX6_variables_37 rfl ?_
      refine h_iconst (v := zI 2) hC dX6_variables_38 rfl ?_
      refine yr_callVi (As := [.int (zI 2)]) hC hr o81 hZ82 rfl (hZ82.w.o 4 (by decide)) (cm_Parser_leaf X.la d b (by decide) hZ82.rs h83) cl_X6_135 rfl rfl (Nat.le_of_ble_eq_true rfl) (hFr_of (by omega) (Nat.le_of_ble_eq_true rfl)) dX6_variables_39 (fun r84 A85 u86 S87 R88 o89 hZ90 h91 => ?_)
      refine yr_callVv (As := [.int (zI x1), .int (zI r84)]) hC hr o89 hZ90 rfl (hZ90.w.o 2 (by decide)) (cm_Tree_hang X.la d b Rx1 R88 hZ90.rs h91) cl_X6_123 rfl rfl (Nat.le_of_ble_eq_true rfl) (hFr_of (by omega) (Nat.le_of_ble_eq_true rfl)) dX6_variables_42 (fun A93 u94 S95 o97 hZ98 h99 => ?_)
      refine yr_iinc (x := x2) (lv' := [some (.ref (gO' Y 4)), some (.int (zI x1)), some (.int (zI (x2 + 1))), some (.int (zI x3)), none]) hC dX6_variables_45 rfl rfl rfl ?_
      refine h_aload_n hC dX6_variables_48 rfl ?_
      refine yr_callVi (As := []) hC hr o97 hZ98 rfl (hZ98.w.o 4 (by decide)) (cm_Parser_kind X.la d b  hZ98.rs h99) cl_X6_97 rfl rfl (Nat.le_of_ble_eq_true rfl) (hFr_of (by omega) (Nat.le_of_ble_eq_true rfl)) dX6_variables_49 (fun r100 A101 u102 S103 R104 o105 hZ106 h107 => ?_)
      refine h_bipush (v := zI 9) hC dX6_variables_52 rfl ?_
      refine yr_icmp_eq (tgt := 60) hC R104 (by decide) dX6_variables_54 (by decide) (fun c108 => ?_) (fun c108 => ?_)
      · have h109 := h107.1 c108
        refine h_aload_n hC dX6_variables_60 rfl ?_
        refine yr_callVv (As := []) hC hr o105 hZ106 rfl (hZ106.w.o 4 (by decide)) (cm_Parser_advance X.la d b  hZ106.rs h109) cl_X6_103 rfl rfl (Nat.le_of_ble_eq_true rfl) (hFr_of (by omega) (Nat.le_of_ble_eq_true rfl)) dX6_variables_61 (fun A111 u112 S113 o115 hZ116 h117 => ?_)
        refine yr_iinc (x := x3) (lv' := [some (.ref (gO' Y 4)), some (.int (zI x1)), some (.int (zI (x2 + 1))), some (.int (zI (x3 + 1))), none]) hC dX6_variables_64 rfl rfl rfl ?_
        refine h_goto (tgt := 14) hC dX6_variables_67 (by decide) ?_
        obtain ⟨o118, h119⟩ := h117
        obtain ⟨o120, h121⟩ := h119
        exact hk14 _ _ _ _ _ _ Rx1 o118 o120 o115 hZ116 h121
      · have h122 := h107.2 c108
        refine h_goto (tgt := 70) hC dX6_variables_57 (by decide) ?_
        refine h_aload_n hC dX6_variables_70 rfl ?_
        refine h_bipush (v := zI 20) hC dX6_variables_71 rfl ?_
        refine yx_callv (As := [.int (zI 20)]) hC hr o105 hZ106 rfl (hZ106.w.o 4 (by decide)) (cm_Parser_due X.la d b hst hcx (by decide) hZ106.rs h122) cl_X6_109 rfl rfl (Nat.le_of_ble_eq_true rfl) (hFr_of (by omega) (Nat.le_of_ble_eq_true rfl)) dX6_variables_73 (fun _ _ _ ho1 hz1 he1 => yx_out hC hr ho1 hz1 hT he1) (fun A124 u125 S126 o128 hZ129 h130 => ?_)
        refine h_iconst (v := zI 0) hC dX6_variables_76 rfl ?_
        refine h_istore_n (lv' := [some (.ref (gO' Y 4)), some (.int (zI x1)), some (.int (zI (x2 + 1))), some (.int (zI 0)), none]) hC dX6_variables_77 (Nat.le_of_ble_eq_true rfl) rfl rfl ?_
        obtain ⟨o131, h132⟩ := h130
        obtain ⟨m133, h134⟩ := h132
        exact cl_Parser_variables_78 hC hr hst hT hcx ih  m133 _ _ _ _ _ _ Rx1 o131 (by decide) o128 hZ129 h134
theorem cl_Parser_variables_14 {X : gX} {d : gD} {b : Nat} {Y : gYt} {c : Nat × Nat} {F0 : gM} {S0 : gSt} {mc ms : Nat} {rec : Nat → Int → Int → Int → cS → (Int → cS → Prop) → (cS → Prop) → Prop} {lv0 : Nat} (hC : gC RX6 cX6_variables 5 none "variables" (gR (9 + lv0 + 1) mc ms) d b X) (hr : hRm X b) (hst : X.la.stackTraces = false) (hT : ∀ x ∈ X.co.exceptionTable.toList, False) (hcx : yCx b c) (ih : yOkP X.la d b Y c lv0 rec) {Q : cS → Prop} {E : cS → Prop}   : ∀ (m : Nat) (u : hU) (S : gSt) (A0 : cS) (x1 : Int) (x2 : Int) (x3 : Int), zR x1 → zR x2 → zR x3 → yOk X b u → yZ d b Y c F0 S0 u S A0 → wc_Parser_variables_14 rec Q E  m A0 x1 x2 x3 → yG X d b (yxQv X d b Y c F0 S0 mc ms Q E) u 14 [some (.ref (gO' Y 4)), some (.int (zI x1)), some (.int (zI x2)), some (.int (zI x3)), none] [] := by
  intro m
  induction m with
  | zero => intro u S A0 x1 x2 x3 Rx1 Rx2 Rx3 ho hZ hw; exact False.elim hw
  | succ m ihm => intro u S A0 x1 x2 x3 Rx1 Rx2 Rx3 ho hZ hw; exact cb_Parser_variables_14 hC hr hst hT hcx ih  ihm Rx1 Rx2 Rx3 ho hZ hw
set_option maxHeartbeats 4000000 in
set_option maxRecDepth 100000 in
theorem cm_Parser_variables (l : Launch) (d : gD) (b : Nat) {Y : gYt} {c : Nat × Nat} (hst : l.stackTraces = false) (hcx : yCx b c) {rec : Nat → Int → Int → Int → cS → (Int → cS → Prop) → (cS → Prop) → Prop} {lv0 : Nat} (ih : yOkP l d b Y c lv0 rec) {F : gM} {k n : Nat} {S : gSt} {A0 : cS} {a0 : Int} (Ra0 : zR a0) {Q : cS → Prop} {E : cS → Prop} (hZ : yZ d b Y c F S (F, k, n) S A0) (hw : wc_Parser_variables rec A0 a0 Q E) : hXv l d b yX6_variables cX6_variables 5 (9 + lv0 + 1) k n F [.ref (gO' Y 4), .int (zI a0)] (yPv d b Y c F S Q) "java/lang/IllegalStateException" (yPx d b Y c F S E) := by
  intro mc ms
  refine hX_of2 rfl (nL := 5) (Nat.le_of_ble_eq_true rfl) ?_
  intro X hX hT hC hr ho; subst hX
  show yG X d b (yxQv X d b Y c F S mc ms Q E) (F, k, n) 0 [some (.ref (gO' Y 4)), some (.int (zI a0)), none, none, none] []
  unfold wc_Parser_variables at hw
  refine h_aload_n hC dX6_variables_0 rfl ?_
  refine h_get hC fl_X6_60 (hZ.w.o 4 (by decide)) rfl dX6_variables_1 ?_
  refine h_iload_n hC dX6_variables_4 rfl ?_
  refine h_bipush (v := zI 97) hC dX6_variables_5 rfl ?_
  refine yr_callVv (As := [.int (zI a0), .int (zI 97)]) hC hr ho hZ rfl (hZ.w.o 2 (by decide)) (cm_Tree_setKind X.la d b Ra0 (by decide) hZ.rs hw) cl_X6_187 rfl rfl (Nat.le_of_ble_eq_true rfl) (hFr_of (by omega) (Nat.le_of_ble_eq_true rfl)) dX6_variables_7 (fun A2 u3 S4 o6 hZ7 h8 => ?_)
  refine h_iconst (v := zI 0) hC dX6_variables_10 rfl ?_
  refine h_istore_n (lv' := [some (.ref (gO' Y 4)), some (.int (zI a0)), some (.int (zI 0)), none, none]) hC dX6_variables_11 (Nat.le_of_ble_eq_true rfl) rfl rfl ?_
  refine h_iconst (v := zI 0) hC dX6_variables_12 rfl ?_
  refine h_istore_n (lv' := [some (.ref (gO' Y 4)), some (.int (zI a0)), some (.int (zI 0)), some (.int (zI 0)), none]) hC dX6_variables_13 (Nat.le_of_ble_eq_true rfl) rfl rfl ?_
  obtain ⟨m9, h10⟩ := h8
  exact cl_Parser_variables_14 hC hr hst hT hcx ih  m9 _ _ _ _ _ _ Ra0 (by decide) (by decide) o6 hZ7 h10
theorem dX6_section_0 : decode cX6_section 0 = .ok (.aload_n 0, 1) := by decide +kernel
theorem dX6_section_1 : decode cX6_section 1 = .ok (.getfield 60, 3) := by decide +kernel
theorem dX6_section_4 : decode cX6_section 4 = .ok (.bipush 92, 2) := by decide +kernel
theorem dX6_section_6 : decode cX6_section 6 = .ok (.aload_n 0, 1) := by decide +kernel
theorem dX6_section_7 : decode cX6_section 7 = .ok (.invokevirtual 112, 3) := by decide +kernel
theorem dX6_section_10 : decode cX6_section 10 = .ok (.iconst 0, 1) := by decide +kernel
theorem dX6_section_11 : decode cX6_section 11 = .ok (.invokevirtual 115, 3) := by decide +kernel
theorem dX6_section_14 : decode cX6_section 14 = .ok (.istore_n 2, 1) := by decide +kernel
theorem dX6_section_15 : decode cX6_section 15 = .ok (.aload_n 0, 1) := by decide +kernel
theorem dX6_section_16 : decode cX6_section 16 = .ok (.invokevirtual 138, 3) := by decide +kernel
theorem dX6_section_19 : decode cX6_section 19 = .ok (.iload_n 1, 1) := by decide +kernel
theorem dX6_section_20 : decode cX6_section 20 = .ok (.ifCond .ne 7, 3) := by decide +kernel
theorem dX6_section_23 : decode cX6_section 23 = .ok (.iconst 1, 1) := by decide +kernel
theorem dX6_section_24 : decode cX6_section 24 = .ok (.goto 4, 3) := by decide +kernel
theorem dX6_section_27 : decode cX6_section 27 = .ok (.iconst 0, 1) := by decide +kernel
theorem dX6_section_28 : decode cX6_section 28 = .ok (.istore_n 3, 1) := by decide +kernel
theorem dX6_section_29 : decode cX6_section 29 = .ok (.iconst 0, 1) := by decide +kernel
theorem dX6_section_30 : decode cX6_section 30 = .ok (.istore 4, 2) := by decide +kernel
theorem dX6_section_32 : decode cX6_section 32 = .ok (.iload 4, 2) := by decide +kernel
theorem dX6_section_34 : decode cX6_section 34 = .ok (.ldc 11, 2) := by decide +kernel
theorem dX6_section_36 : decode cX6_section 36 = .ok (.if_icmp .ge 99, 3) := by decide +kernel
theorem dX6_section_39 : decode cX6_section 39 = .ok (.iload_n 3, 1) := by decide +kernel
theorem dX6_section_40 : decode cX6_section 40 = .ok (.ifCond .eq 25, 3) := by decide +kernel
theorem dX6_section_43 : decode cX6_section 43 = .ok (.aload_n 0, 1) := by decide +kernel
theorem dX6_section_44 : decode cX6_section 44 = .ok (.invokevirtual 97, 3) := by decide +kernel
theorem dX6_section_47 : decode cX6_section 47 = .ok (.bipush 52, 2) := by decide +kernel
theorem dX6_section_49 : decode cX6_section 49 = .ok (.if_icmp .lt 16, 3) := by decide +kernel
theorem dX6_section_52 : decode cX6_section 52 = .ok (.aload_n 0, 1) := by decide +kernel
theorem dX6_section_53 : decode cX6_section 53 = .ok (.invokevirtual 97, 3) := by decide +kernel
theorem dX6_section_56 : decode cX6_section 56 = .ok (.bipush 55, 2) := by decide +kernel
theorem dX6_section_58 : decode cX6_section 58 = .ok (.if_icmp .gt 7, 3) := by decide +kernel
theorem dX6_section_61 : decode cX6_section 61 = .ok (.iconst 1, 1) := by decide +kernel
theorem dX6_section_62 : decode cX6_section 62 = .ok (.goto 4, 3) := by decide +kernel
theorem dX6_section_65 : decode cX6_section 65 = .ok (.iconst 0, 1) := by decide +kernel
theorem dX6_section_66 : decode cX6_section 66 = .ok (.istore_n 3, 1) := by decide +kernel
theorem dX6_section_67 : decode cX6_section 67 = .ok (.iload_n 3, 1) := by decide +kernel
theorem dX6_section_68 : decode cX6_section 68 = .ok (.ifCond .eq 19, 3) := by decide +kernel
theorem dX6_section_71 : decode cX6_section 71 = .ok (.aload_n 0, 1) := by decide +kernel
theorem dX6_section_72 : decode cX6_section 72 = .ok (.getfield 60, 3) := by decide +kernel
theorem dX6_section_75 : decode cX6_section 75 = .ok (.iload_n 2, 1) := by decide +kernel
theorem dX6_section_76 : decode cX6_section 76 = .ok (.aload_n 0, 1) := by decide +kernel
theorem dX6_section_77 : decode cX6_section 77 = .ok (.iconst 0, 1) := by decide +kernel
theorem dX6_section_78 : decode cX6_section 78 = .ok (.invokevirtual 119, 3) := by decide +kernel
theorem dX6_section_81 : decode cX6_section 81 = .ok (.invokevirtual 123, 3) := by decide +kernel
theorem dX6_section_84 : decode cX6_section 84 = .ok (.goto 29, 3) := by decide +kernel
theorem dX6_section_87 : decode cX6_section 87 = .ok (.iload_n 1, 1) := by decide +kernel
theorem dX6_section_88 : decode cX6_section 88 = .ok (.ifCond .eq 8, 3) := by decide +kernel
theorem dX6_section_91 : decode cX6_section 91 = .ok (.aload_n 0, 1) := by decide +kernel
theorem dX6_section_92 : decode cX6_section 92 = .ok (.iload_n 2, 1) := by decide +kernel
theorem dX6_section_93 : decode cX6_section 93 = .ok (.invokevirtual 196, 3) := by decide +kernel
theorem dX6_section_96 : decode cX6_section 96 = .ok (.aload_n 0, 1) := by decide +kernel
theorem dX6_section_97 : decode cX6_section 97 = .ok (.iload_n 2, 1) := by decide +kernel
theorem dX6_section_98 : decode cX6_section 98 = .ok (.invokevirtual 199, 3) := by decide +kernel
theorem dX6_section_101 : decode cX6_section 101 = .ok (.aload_n 0, 1) := by decide +kernel
theorem dX6_section_102 : decode cX6_section 102 = .ok (.getfield 60, 3) := by decide +kernel
theorem dX6_section_105 : decode cX6_section 105 = .ok (.iload_n 2, 1) := by decide +kernel
theorem dX6_section_106 : decode cX6_section 106 = .ok (.aload_n 0, 1) := by decide +kernel
theorem dX6_section_107 : decode cX6_section 107 = .ok (.invokevirtual 190, 3) := by decide +kernel
theorem dX6_section_110 : decode cX6_section 110 = .ok (.invokevirtual 123, 3) := by decide +kernel
theorem dX6_section_113 : decode cX6_section 113 = .ok (.aload_n 0, 1) := by decide +kernel
theorem dX6_section_114 : decode cX6_section 114 = .ok (.invokevirtual 97, 3) := by decide +kernel
theorem dX6_section_117 : decode cX6_section 117 = .ok (.bipush 10, 2) := by decide +kernel
theorem dX6_section_119 : decode cX6_section 119 = .ok (.if_icmp .eq 6, 3) := by decide +kernel
theorem dX6_section_122 : decode cX6_section 122 = .ok (.goto 13, 3) := by decide +kernel
theorem dX6_section_125 : decode cX6_section 125 = .ok (.aload_n 0, 1) := by decide +kernel
theorem dX6_section_126 : decode cX6_section 126 = .ok (.invokevirtual 103, 3) := by decide +kernel
theorem dX6_section_129 : decode cX6_section 129 = .ok (.iinc 4 1, 3) := by decide +kernel
theorem dX6_section_132 : decode cX6_section 132 = .ok (.goto (-100), 3) := by decide +kernel
theorem dX6_section_135 : decode cX6_section 135 = .ok (.aload_n 0, 1) := by decide +kernel
theorem dX6_section_136 : decode cX6_section 136 = .ok (.invokevirtual 159, 3) := by decide +kernel
theorem dX6_section_139 : decode cX6_section 139 = .ok (.iload_n 2, 1) := by decide +kernel
theorem dX6_section_140 : decode cX6_section 140 = .ok (.ireturn, 1) := by decide +kernel
def wc_Parser_section_66 (rec : Nat → Int → Int → Int → cS → (Int → cS → Prop) → (cS → Prop) → Prop) (Q : Int → cS → Prop) (E : cS → Prop) (k32 : cS → Int → Int → Int → Int → Prop) (A0 : cS) (x1 : Int) (x2 : Int) (x4 : Int) (y0 : Int) : Prop :=
  ((y0 = 0 → ((x1 = 0 → wc_Parser_labels A0 x2 (fun A6 => rec 6 0 0 0 A6 (fun r13 A14 => wc_Tree_hang A14 x2 r13 (fun A22 => wc_Parser_kind A22  (fun r29 A30 => ((r29 = 10 → wc_Parser_advance A30  (fun A40 => (zR (x4 + 1)) ∧ k32 A40 x1 x2 y0 (x4 + 1))) ∧ (¬ r29 = 10 → wc_Parser_close A30  (fun A51 => Q x2 A51) E))))) E)) ∧ (¬ x1 = 0 → rec 5 x2 0 0 A0 (fun _ A60 => wc_Parser_labels A60 x2 (fun A68 => rec 6 0 0 0 A68 (fun r75 A76 => wc_Tree_hang A76 x2 r75 (fun A84 => wc_Parser_kind A84  (fun r91 A92 => ((r91 = 10 → wc_Parser_advance A92  (fun A102 => (zR (x4 + 1)) ∧ k32 A102 x1 x2 y0 (x4 + 1))) ∧ (¬ r91 = 10 → wc_Parser_close A92  (fun A113 => Q x2 A113) E))))) E)) E))) ∧ (¬ y0 = 0 → rec 0 0 0 0 A0 (fun r121 A122 => wc_Tree_hang A122 x2 r121 (fun A130 => wc_Parser_kind A130  (fun r137 A138 => ((r137 = 10 → wc_Parser_advance A138  (fun A148 => (zR (x4 + 1)) ∧ k32 A148 x1 x2 y0 (x4 + 1))) ∧ (¬ r137 = 10 → wc_Parser_close A138  (fun A159 => Q x2 A159) E))))) E))
def wc_Parser_section_32B (rec : Nat → Int → Int → Int → cS → (Int → cS → Prop) → (cS → Prop) → Prop) (Q : Int → cS → Prop) (E : cS → Prop) (k32 : cS → Int → Int → Int → Int → Prop) (A0 : cS) (x1 : Int) (x2 : Int) (x3 : Int) (x4 : Int) : Prop :=
  ((1000000 ≤ x4 → wc_Parser_close A0  (fun A4 => Q x2 A4) E) ∧ (¬ 1000000 ≤ x4 → ((x3 = 0 → wc_Parser_section_66 rec Q E k32 A0 x1 x2 x4 0) ∧ (¬ x3 = 0 → wc_Parser_kind A0  (fun r15 A16 => ((r15 < 52 → wc_Parser_section_66 rec Q E k32 A16 x1 x2 x4 0) ∧ (¬ r15 < 52 → wc_Parser_kind A16  (fun r26 A27 => ((55 < r26 → wc_Parser_section_66 rec Q E k32 A27 x1 x2 x4 0) ∧ (¬ 55 < r26 → wc_Parser_section_66 rec Q E k32 A27 x1 x2 x4 1))))))))))
def wc_Parser_section_32 (rec : Nat → Int → Int → Int → cS → (Int → cS → Prop) → (cS → Prop) → Prop) (Q : Int → cS → Prop) (E : cS → Prop)  : Nat → cS → Int → Int → Int → Int → Prop
  | 0 => fun _ _ _ _ _ => False
  | m + 1 => fun A0 x1 x2 x3 x4 => wc_Parser_section_32B rec Q E  (wc_Parser_section_32 rec Q E  m) A0 x1 x2 x3 x4
def wc_Parser_section (rec : Nat → Int → Int → Int → cS → (Int → cS → Prop) → (cS → Prop) → Prop) (A0 : cS) (a0 : Int) (Q : Int → cS → Prop) (E : cS → Prop) : Prop :=
  wc_Parser_place A0  (fun r1 A2 => wc_Tree_node A2 92 r1 0 (fun r9 A10 => wc_Parser_open A10  (fun A18 => ((¬ a0 = 0 → ∃ n, wc_Parser_section_32 rec Q E  n A18 a0 r9 0 0) ∧ (a0 = 0 → ∃ n, wc_Parser_section_32 rec Q E  n A18 a0 r9 1 0))) E))
set_option maxHeartbeats 4000000 in
set_option maxRecDepth 100000 in
theorem cj_Parser_section_66 {X : gX} {d : gD} {b : Nat} {Y : gYt} {c : Nat × Nat} {F0 : gM} {S0 : gSt} {mc ms : Nat} {rec : Nat → Int → Int → Int → cS → (Int → cS → Prop) → (cS → Prop) → Prop} {lv0 : Nat} (hC : gC RX6 cX6_section 5 (some .int) "section" (gR (9 + lv0 + 1) mc ms) d b X) (hr : hRm X b) (hst : X.la.stackTraces = false) (hT : ∀ x ∈ X.co.exceptionTable.toList, False) (hcx : yCx b c) (ih : yOkP X.la d b Y c lv0 rec) {Q : Int → cS → Prop} {E : cS → Prop} {k32 : cS → Int → Int → Int → Int → Prop} (hk32 : ∀ (u : hU) (S : gSt) (A0 : cS) (x1 : Int) (x2 : Int) (x3 : Int) (x4 : Int), zR x1 → zR x2 → zR x3 → zR x4 → yOk X b u → yZ d b Y c F0 S0 u S A0 → k32 A0 x1 x2 x3 x4 → yG X d b (yxQi X d b Y c F0 S0 mc ms Q E) u 32 [some (.ref (gO' Y 4)), some (.int (zI x1)), some (.int (zI x2)), some (.int (zI x3)), some (.int (zI x4))] []) {u : hU} {S : gSt} {A0 : cS} {x1 : Int} {x2 : Int} {x4 : Int} {y0 : Int} (Rx1 : zR x1) (Rx2 : zR x2) (Rx4 : zR x4) (Ry0 : zR y0) (ho : yOk X b u) (hZ : yZ d b Y c F0 S0 u S A0) (hw : wc_Parser_section_66 rec Q E k32 A0 x1 x2 x4 y0) : yG X d b (yxQi X d b Y c F0 S0 mc ms Q E) u 66 [some (.ref (gO' Y 4)), some (.int (zI x1)), some (.int (zI x2)), none, some (.int (zI x4))] [.int (zI y0)] := by
  unfold wc_Parser_section_66 at hw
  refine h_istore_n (lv' := [some (.ref (gO' Y 4)), some (.int (zI x1)), some (.int (zI x2)), some (.int (zI y0)), some (.int (zI x4))]) hC dX6_section_66 (Nat.le_of_ble_eq_true rfl) rfl rfl ?_
  refine h_iload_n hC dX6_section_67 rfl ?_
  refine yr_if_eq (tgt := 87) hC Ry0 dX6_section_68 (by decide) (fun c1 => ?_) (fun c1 => ?_)
  · have h2 := hw.1 c1
    refine h_iload_n hC dX6_section_87 rfl ?_
    refine yr_if_eq (tgt := 96) hC Rx1 dX6_section_88 (by decide) (fun c3 => ?_) (fun c3 => ?_)
    · have h4 := h2.1 c3
      refine h_aload_n hC dX6_section_96 rfl ?_
      refine h_iload_n hC dX6_section_97 rfl ?_
      refine yr_callVv (As := [.int (zI x2)]) hC hr ho hZ rfl (hZ.w.o 4 (by decide)) (cm_Parser_labels X.la d b Rx2 hZ.rs h4) cl_X6_199 rfl rfl (Nat.le_of_ble_eq_true rfl) (hFr_of (by omega) (Nat.le_of_ble_eq_true rfl)) dX6_section_98 (fun A6 u7 S8 o10 hZ11 h12 => ?_)
      refine h_aload_n hC dX6_section_101 rfl ?_
      refine h_get hC fl_X6_60 (hZ11.w.o 4 (by decide)) rfl dX6_section_102 ?_
      refine h_iload_n hC dX6_section_105 rfl ?_
      refine h_aload_n hC dX6_section_106 rfl ?_
      refine yx_calli (As := []) hC hr o10 hZ11 rfl (hZ11.w.o 4 (by decide)) (ih.2.2.2.2.2.2.1  hZ11.rs h12) cl_X6_190 rfl rfl (Nat.le_of_ble_eq_true rfl) (hFr_of (by omega) (Nat.le_of_ble_eq_true rfl)) dX6_section_107 (fun _ _ _ ho1 hz1 he1 => yx_out hC hr ho1 hz1 hT he1) (fun r13 A14 u15 S16 R17 o18 hZ19 h20 => ?_)
      refine yr_callVv (As := [.int (zI x2), .int (zI r13)]) hC hr o18 hZ19 rfl (hZ19.w.o 2 (by decide)) (cm_Tree_hang X.la d b Rx2 R17 hZ19.rs h20) cl_X6_123 rfl rfl (Nat.le_of_ble_eq_true rfl) (hFr_of (by omega) (Nat.le_of_ble_eq_true rfl)) dX6_section_110 (fun A22 u23 S24 o26 hZ27 h28 => ?_)
      refine h_aload_n hC dX6_section_113 rfl ?_
      refine yr_callVi (As := []) hC hr o26 hZ27 rfl (hZ27.w.o 4 (by decide)) (cm_Parser_kind X.la d b  hZ27.rs h28) cl_X6_97 rfl rfl (Nat.le_of_ble_eq_true rfl) (hFr_of (by omega) (Nat.le_of_ble_eq_true rfl)) dX6_section_114 (fun r29 A30 u31 S32 R33 o34 hZ35 h36 => ?_)
      refine h_bipush (v := zI 10) hC dX6_section_117 rfl ?_
      refine yr_icmp_eq (tgt := 125) hC R33 (by decide) dX6_section_119 (by decide) (fun c37 => ?_) (fun c37 => ?_)
      · have h38 := h36.1 c37
        refine h_aload_n hC dX6_section_125 rfl ?_
        refine yr_callVv (As := []) hC hr o34 hZ35 rfl (hZ35.w.o 4 (by decide)) (cm_Parser_advance X.la d b  hZ35.rs h38) cl_X6_103 rfl rfl (Nat.le_of_ble_eq_true rfl) (hFr_of (by omega) (Nat.le_of_ble_eq_true rfl)) dX6_section_126 (fun A40 u41 S42 o44 hZ45 h46 => ?_)
        refine yr_iinc (x := x4) (lv' := [some (.ref (gO' Y 4)), some (.int (zI x1)), some (.int (zI x2)), some (.int (zI y0)), some (.int (zI (x4 + 1)))]) hC dX6_section_129 rfl rfl rfl ?_
        refine h_goto (tgt := 32) hC dX6_section_132 (by decide) ?_
        obtain ⟨o47, h48⟩ := h46
        exact hk32 _ _ _ _ _ _ _ Rx1 Rx2 Ry0 o47 o44 hZ45 h48
      · have h49 := h36.2 c37
        refine h_goto (tgt := 135) hC dX6_section_122 (by decide) ?_
        refine h_aload_n hC dX6_section_135 rfl ?_
        refine yx_callv (As := []) hC hr o34 hZ35 rfl (hZ35.w.o 4 (by decide)) (cm_Parser_close X.la d b hst hcx  hZ35.rs h49) cl_X6_159 rfl rfl (Nat.le_of_ble_eq_true rfl) (hFr_of (by omega) (Nat.le_of_ble_eq_true rfl)) dX6_section_136 (fun _ _ _ ho1 hz1 he1 => yx_out hC hr ho1 hz1 hT he1) (fun A51 u52 S53 o55 hZ56 h57 => ?_)
        refine h_iload_n hC dX6_section_139 rfl ?_
        exact h_xret (yr_iret hC hr o55 hZ56 Rx2 h57 dX6_section_140)
    · have h58 := h2.2 c3
      refine h_aload_n hC dX6_section_91 rfl ?_
      refine h_iload_n hC dX6_section_92 rfl ?_
      refine yx_callv (As := [.int (zI x2)]) hC hr ho hZ rfl (hZ.w.o 4 (by decide)) (ih.2.2.2.2.2.1 Rx2 hZ.rs h58) cl_X6_196 rfl rfl (Nat.le_of_ble_eq_true rfl) (hFr_of (by omega) (Nat.le_of_ble_eq_true rfl)) dX6_section_93 (fun _ _ _ ho1 hz1 he1 => yx_out hC hr ho1 hz1 hT he1) (fun A60 u61 S62 o64 hZ65 h66 => ?_)
      refine h_aload_n hC dX6_section_96 rfl ?_
      refine h_iload_n hC dX6_section_97 rfl ?_
      refine yr_callVv (As := [.int (zI x2)]) hC hr o64 hZ65 rfl (hZ65.w.o 4 (by decide)) (cm_Parser_labels X.la d b Rx2 hZ65.rs h66) cl_X6_199 rfl rfl (Nat.le_of_ble_eq_true rfl) (hFr_of (by omega) (Nat.le_of_ble_eq_true rfl)) dX6_section_98 (fun A68 u69 S70 o72 hZ73 h74 => ?_)
      refine h_aload_n hC dX6_section_101 rfl ?_
      refine h_get hC fl_X6_60 (hZ73.w.o 4 (by decide)) rfl dX6_section_102 ?_
      refine h_iload_n hC dX6_section_105 rfl ?_
      refine h_aload_n hC dX6_section_106 rfl ?_
      refine yx_calli (As := []) hC hr o72 hZ73 rfl (hZ73.w.o 4 (by decide)) (ih.2.2.2.2.2.2.1  hZ73.rs h74) cl_X6_190 rfl rfl (Nat.le_of_ble_eq_true rfl) (hFr_of (by omega) (Nat.le_of_ble_eq_true rfl)) dX6_section_107 (fun _ _ _ ho1 hz1 he1 => yx_out hC hr ho1 hz1 hT he1) (fun r75 A76 u77 S78 R79 o80 hZ81 h82 => ?_)
      refine yr_callVv (As := [.int (zI x2), .int (zI r75)]) hC hr o80 hZ81 rfl (hZ81.w.o 2 (by decide)) (cm_Tree_hang X.la d b Rx2 R79 hZ81.rs h82) cl_X6_123 rfl rfl (Nat.le_of_ble_eq_true rfl) (hFr_of (by omega) (Nat.le_of_ble_eq_true rfl)) dX6_section_110 (fun A84 u85 S86 o88 hZ89 h90 => ?_)
      refine h_aload_n hC dX6_section_113 rfl ?_
      refine yr_callVi (As := []) hC hr o88 hZ89 rfl (hZ89.w.o 4 (by decide)) (cm_Parser_kind X.la d b  hZ89.rs h90) cl_X6_97 rfl rfl (Nat.le_of_ble_eq_true rfl) (hFr_of (by omega) (Nat.le_of_ble_eq_true rfl)) dX6_section_114 (fun r91 A92 u93 S94 R95 o96 hZ97 h98 => ?_)
      refine h_bipush (v := zI 10) hC dX6_section_117 rfl ?_
      refine yr_icmp_eq (tgt := 125) hC R95 (by decide) dX6_section_119 (by decide) (fun c99 => ?_) (fun c99 => ?_)
      · have h100 := h98.1 c99
        refine h_aload_n hC dX6_section_125 rfl ?_
        refine yr_callVv (As := []) hC hr o96 hZ97 rfl (hZ97.w.o 4 (by decide)) (cm_Parser_advance X.la d b  hZ97.rs h100) cl_X6_103 rfl rfl (Nat.le_of_ble_eq_true rfl) (hFr_of (by omega) (Nat.le_of_ble_eq_true rfl)) dX6_section_126 (fun A102 u103 S104 o106 hZ107 h108 => ?_)
        refine yr_iinc (x := x4) (lv' := [some (.ref (gO' Y 4)), some (.int (zI x1)), some (.int (zI x2)), some (.int (zI y0)), some (.int (zI (x4 + 1)))]) hC dX6_section_129 rfl rfl rfl ?_
        refine h_goto (tgt := 32) hC dX6_section_132 (by decide) ?_
        obtain ⟨o109, h110⟩ := h108
        exact hk32 _ _ _ _ _ _ _ Rx1 Rx2 Ry0 o109 o106 hZ107 h110
      · have h111 := h98.2 c99
        refine h_goto (tgt := 135) hC dX6_section_122 (by decide) ?_
        refine h_aload_n hC dX6_section_135 rfl ?_
        refine yx_callv (As := []) hC hr o96 hZ97 rfl (hZ97.w.o 4 (by decide)) (cm_Parser_close X.la d b hst hcx  hZ97.rs h111) cl_X6_159 rfl rfl (Nat.le_of_ble_eq_true rfl) (hFr_of (by omega) (Nat.le_of_ble_eq_true rfl)) dX6_section_136 (fun _ _ _ ho1 hz1 he1 => yx_out hC hr ho1 hz1 hT he1) (fun A113 u114 S115 o117 hZ118 h119 => ?_)
        refine h_iload_n hC dX6_section_139 rfl ?_
        exact h_xret (yr_iret hC hr o117 hZ118 Rx2 h119 dX6_section_140)
  · have h120 := hw.2 c1
    refine h_aload_n hC dX6_section_71 rfl ?_
    refine h_get hC fl_X6_60 (hZ.w.o 4 (by decide)) rfl dX6_section_72 ?_
    refine h_iload_n hC dX6_section_75 rfl ?_
    refine h_aload_n hC dX6_section_76 rfl ?_
    refine h_iconst (v := zI 0) hC dX6_section_77 rfl ?_
    refine yx_calli (As := [.int (zI 0)]) hC hr ho hZ rfl (hZ.w.o 4 (by decide)) (ih.1 (by decide) hZ.rs h120) cl_X6_119 rfl rfl (Nat.le_of_ble_eq_true rfl) (hFr_of (by omega) (Nat.le_of_ble_eq_true rfl)) dX6_section_78 (fun _ _ _ ho1 hz1 he1 => yx_out hC hr ho1 hz1 hT he1) (fun r121 A122 u123 S124 R125 o126 hZ127 h128 => ?_)
    refine yr_callVv (As := [.int (zI x2), .int (zI r121)]) hC hr o126 hZ127 rfl (hZ127.w.o 2 (by decide)) (cm_Tree_hang X.la d b Rx2 R125 hZ127.rs h128) cl_X6_123 rfl rfl (Nat.le_of_ble_eq_true rfl) (hFr_of (by omega) (Nat.le_of_ble_eq_true rfl)) dX6_section_81 (fun A130 u131 S132 o134 hZ135 h136 => ?_)
    refine h_goto (tgt := 113) hC dX6_section_84 (by decide) ?_
    refine h_aload_n hC dX6_section_113 rfl ?_
    refine yr_callVi (As := []) hC hr o134 hZ135 rfl (hZ135.w.o 4 (by decide)) (cm_Parser_kind X.la d b  hZ135.rs h136) cl_X6_97 rfl rfl (Nat.le_of_ble_eq_true rfl) (hFr_of (by omega) (Nat.le_of_ble_eq_true rfl)) dX6_section_114 (fun r137 A138 u139 S140 R141 o142 hZ143 h144 => ?_)
    refine h_bipush (v := zI 10) hC dX6_section_117 rfl ?_
    refine yr_icmp_eq (tgt := 125) hC R141 (by decide) dX6_section_119 (by decide) (fun c145 => ?_) (fun c145 => ?_)
    · have h146 := h144.1 c145
      refine h_aload_n hC dX6_section_125 rfl ?_
      refine yr_callVv (As := []) hC hr o142 hZ143 rfl (hZ143.w.o 4 (by decide)) (cm_Parser_advance X.la d b  hZ143.rs h146) cl_X6_103 rfl rfl (Nat.le_of_ble_eq_true rfl) (hFr_of (by omega) (Nat.le_of_ble_eq_true rfl)) dX6_section_126 (fun A148 u149 S150 o152 hZ153 h154 => ?_)
      refine yr_iinc (x := x4) (lv' := [some (.ref (gO' Y 4)), some (.int (zI x1)), some (.int (zI x2)), some (.int (zI y0)), some (.int (zI (x4 + 1)))]) hC dX6_section_129 rfl rfl rfl ?_
      refine h_goto (tgt := 32) hC dX6_section_132 (by decide) ?_
      obtain ⟨o155, h156⟩ := h154
      exact hk32 _ _ _ _ _ _ _ Rx1 Rx2 Ry0 o155 o152 hZ153 h156
    · have h157 := h144.2 c145
      refine h_goto (tgt := 135) hC dX6_section_122 (by decide) ?_
      refine h_aload_n hC dX6_section_135 rfl ?_
      refine yx_callv (As := []) hC hr o142 hZ143 rfl (hZ143.w.o 4 (by decide)) (cm_Parser_close X.la d b hst hcx  hZ143.rs h157) cl_X6_159 rfl rfl (Nat.le_of_ble_eq_true rfl) (hFr_of (by omega) (Nat.le_of_ble_eq_true rfl)) dX6_section_136 (fun _ _ _ ho1 hz1 he1 => yx_out hC hr ho1 hz1 hT he1) (fun A159 u160 S161 o163 hZ164 h165 => ?_)
      refine h_iload_n hC dX6_section_139 rfl ?_
      exact h_xret (yr_iret hC hr o163 hZ164 Rx2 h165 dX6_section_140)
set_option maxHeartbeats 4000000 in
set_option maxRecDepth 100000 in
theorem cb_Parser_section_32 {X : gX} {d : gD} {b : Nat} {Y : gYt} {c : Nat × Nat} {F0 : gM} {S0 : gSt} {mc ms : Nat} {rec : Nat → Int → Int → Int → cS → (Int → cS → Prop) → (cS → Prop) → Prop} {lv0 : Nat} (hC : gC RX6 cX6_section 5 (some .int) "section" (gR (9 + lv0 + 1) mc ms) d b X) (hr : hRm X b) (hst : X.la.stackTraces = false) (hT : ∀ x ∈ X.co.exceptionTable.toList, False) (hcx : yCx b c) (ih : yOkP X.la d b Y c lv0 rec) {Q : Int → cS → Prop} {E : cS → Prop} {k32 : cS → Int → Int → Int → Int → Prop} (hk32 : ∀ (u : hU) (S : gSt) (A0 : cS) (x1 : Int) (x2 : Int) (x3 : Int) (x4 : Int), zR x1 → zR x2 → zR x3 → zR x4 → yOk X b u → yZ d b Y c F0 S0 u S A0 → k32 A0 x1 x2 x3 x4 → yG X d b (yxQi X d b Y c F0 S0 mc ms Q E) u 32 [some (.ref (gO' Y 4)), some (.int (zI x1)), some (.int (zI x2)), some (.int (zI x3)), some (.int (zI x4))] []) {u : hU} {S : gSt} {A0 : cS} {x1 : Int} {x2 : Int} {x3 : Int} {x4 : Int} (Rx1 : zR x1) (Rx2 : zR x2) (Rx3 : zR x3) (Rx4 : zR x4) (ho : yOk X b u) (hZ : yZ d b Y c F0 S0 u S A0) (hw : wc_Parser_section_32B rec Q E k32 A0 x1 x2 x3 x4) : yG X d b (yxQi X d b Y c F0 S0 mc ms Q E) u 32 [some (.ref (gO' Y 4)), some (.int (zI x1)), some (.int (zI x2)), some (.int (zI x3)), some (.int (zI x4))] [] := by
  unfold wc_Parser_section_32B at hw
  refine h_iload hC dX6_section_32 rfl ?_
  refine yr_ldc (e := 1000000) hC dX6_section_34 kw_514 (by decide) ?_
  refine yr_icmp_ge (tgt := 135) hC Rx4 (by decide) dX6_section_36 (by decide) (fun c1 => ?_) (fun c1 => ?_)
  · have h2 := hw.1 c1
    refine h_aload_n hC dX6_section_135 rfl ?_
    refine yx_callv (As := []) hC hr ho hZ rfl (hZ.w.o 4 (by decide)) (cm_Parser_close X.la d b hst hcx  hZ.rs h2) cl_X6_159 rfl rfl (Nat.le_of_ble_eq_true rfl) (hFr_of (by omega) (Nat.le_of_ble_eq_true rfl)) dX6_section_136 (fun _ _ _ ho1 hz1 he1 => yx_out hC hr ho1 hz1 hT he1) (fun A4 u5 S6 o8 hZ9 h10 => ?_)
    refine h_iload_n hC dX6_section_139 rfl ?_
    exact h_xret (yr_iret hC hr o8 hZ9 Rx2 h10 dX6_section_140)
  · have h11 := hw.2 c1
    refine h_iload_n hC dX6_section_39 rfl ?_
    refine yr_if_eq (tgt := 65) hC Rx3 dX6_section_40 (by decide) (fun c12 => ?_) (fun c12 => ?_)
    · have h13 := h11.1 c12
      refine h_iconst (v := zI 0) hC dX6_section_65 rfl ?_
      refine h_lv (lv' := [some (.ref (gO' Y 4)), some (.int (zI x1)), some (.int (zI x2)), none, some (.int (zI x4))]) ⟨rfl, rfl, rfl, rfl, trivial⟩ ?_
      exact cj_Parser_section_66 hC hr hst hT hcx ih hk32 Rx1 Rx2 Rx4 (by decide) ho hZ h13
    · have h14 := h11.2 c12
      refine h_aload_n hC dX6_section_43 rfl ?_
      refine yr_callVi (As := []) hC hr ho hZ rfl (hZ.w.o 4 (by decide)) (cm_Parser_kind X.la d b  hZ.rs h14) cl_X6_97 rfl rfl (Nat.le_of_ble_eq_true rfl) (hFr_of (by omega) (Nat.le_of_ble_eq_true rfl)) dX6_section_44 (fun r15 A16 u17 S18 R19 o20 hZ21 h22 => ?_)
      refine h_bipush (v := zI 52) hC dX6_section_47 rfl ?_
      refine yr_icmp_lt (tgt := 65) hC R19 (by decide) dX6_section_49 (by decide) (fun c23 => ?_) (fun c23 => ?_)
      · have h24 := h22.1 c23
        refine h_iconst (v := zI 0) hC dX6_section_65 rfl ?_
        refine h_lv (lv' := [some (.ref (gO' Y 4)), some (.int (zI x1)), some (.int (zI x2)), none, some (.int (zI x4))]) ⟨rfl, rfl, rfl, rfl, trivial⟩ ?_
        exact cj_Parser_section_66 hC hr hst hT hcx ih hk32 Rx1 Rx2 Rx4 (by decide) o20 hZ21 h24
      · have h25 := h22.2 c23
        refine h_aload_n hC dX6_section_52 rfl ?_
        refine yr_callVi (As := []) hC hr o20 hZ21 rfl (hZ21.w.o 4 (by decide)) (cm_Parser_kind X.la d b  hZ21.rs h25) cl_X6_97 rfl rfl (Nat.le_of_ble_eq_true rfl) (hFr_of (by omega) (Nat.le_of_ble_eq_true rfl)) dX6_section_53 (fun r26 A27 u28 S29 R30 o31 hZ32 h33 => ?_)
        refine h_bipush (v := zI 55) hC dX6_section_56 rfl ?_
        refine yr_icmp_gt (tgt := 65) hC R30 (by decide) dX6_section_58 (by decide) (fun c34 => ?_) (fun c34 => ?_)
        · have h35 := h33.1 c34
          refine h_iconst (v := zI 0) hC dX6_section_65 rfl ?_
          refine h_lv (lv' := [some (.ref (gO' Y 4)), some (.int (zI x1)), some (.int (zI x2)), none, some (.int (zI x4))]) ⟨rfl, rfl, rfl, rfl, trivial⟩ ?_
          exact cj_Parser_section_66 hC hr hst hT hcx ih hk32 Rx1 Rx2 Rx4 (by decide) o31 hZ32 h35
        · have h36 := h33.2 c34
          refine h_iconst (v := zI 1) hC dX6_section_61 rfl ?_
          refine h_goto (tgt := 66) hC dX6_section_62 (by decide) ?_
          refine h_lv (lv' := [some (.ref (gO' Y 4)), some (.int (zI x1)), some (.int (zI x2)), none, some (.int (zI x4))]) ⟨rfl, rfl, rfl, rfl, trivial⟩ ?_
          exact cj_Parser_section_66 hC hr hst hT hcx ih hk32 Rx1 Rx2 Rx4 (by decide) o31 hZ32 h36
theorem cl_Parser_section_32 {X : gX} {d : gD} {b : Nat} {Y : gYt} {c : Nat × Nat} {F0 : gM} {S0 : gSt} {mc ms : Nat} {rec : Nat → Int → Int → Int → cS → (Int → cS → Prop) → (cS → Prop) → Prop} {lv0 : Nat} (hC : gC RX6 cX6_section 5 (some .int) "section" (gR (9 + lv0 + 1) mc ms) d b X) (hr : hRm X b) (hst : X.la.stackTraces = false) (hT : ∀ x ∈ X.co.exceptionTable.toList, False) (hcx : yCx b c) (ih : yOkP X.la d b Y c lv0 rec) {Q : Int → cS → Prop} {E : cS → Prop}   : ∀ (m : Nat) (u : hU) (S : gSt) (A0 : cS) (x1 : Int) (x2 : Int) (x3 : Int) (x4 : Int), zR x1 → zR x2 → zR x3 → zR x4 → yOk X b u → yZ d b Y c F0 S0 u S A0 → wc_Parser_section_32 rec Q E  m A0 x1 x2 x3 x4 → yG X d b (yxQi X d b Y c F0 S0 mc ms Q E) u 32 [some (.ref (gO' Y 4)), some (.int (zI x1)), some (.int (zI x2)), some (.int (zI x3)), some (.int (zI x4))] [] := by
  intro m
  induction m with
  | zero => intro u S A0 x1 x2 x3 x4 Rx1 Rx2 Rx3 Rx4 ho hZ hw; exact False.elim hw
  | succ m ihm => intro u S A0 x1 x2 x3 x4 Rx1 Rx2 Rx3 Rx4 ho hZ hw; exact cb_Parser_section_32 hC hr hst hT hcx ih  ihm Rx1 Rx2 Rx3 Rx4 ho hZ hw
set_option maxHeartbeats 4000000 in
set_option maxRecDepth 100000 in
theorem cm_Parser_section (l : Launch) (d : gD) (b : Nat) {Y : gYt} {c : Nat × Nat} (hst : l.stackTraces = false) (hcx : yCx b c) {rec : Nat → Int → Int → Int → cS → (Int → cS → Prop) → (cS → Prop) → Prop} {lv0 : Nat} (ih : yOkP l d b Y c lv0 rec) {F : gM} {k n : Nat} {S : gSt} {A0 : cS} {a0 : Int} (Ra0 : zR a0) {Q : Int → cS → Prop} {E : cS → Prop} (hZ : yZ d b Y c F S (F, k, n) S A0) (hw : wc_Parser_section rec A0 a0 Q E) : hXi l d b yX6_section cX6_section 5 .int (9 + lv0 + 1) k n F [.ref (gO' Y 4), .int (zI a0)] (yPi d b Y c F S Q) "java/lang/IllegalStateException" (yPx d b Y c F S E) := by
  intro mc ms
  refine hX_of2 rfl (nL := 5) (Nat.le_of_ble_eq_true rfl) ?_
  intro X hX hT hC hr ho; subst hX
  show yG X d b (yxQi X d b Y c F S mc ms Q E) (F, k, n) 0 [some (.ref (gO' Y 4)), some (.int (zI a0)), none, none, none] []
  unfold wc_Parser_section at hw
  refine h_aload_n hC dX6_section_0 rfl ?_
  refine h_get hC fl_X6_60 (hZ.w.o 4 (by decide)) rfl dX6_section_1 ?_
  refine h_bipush (v := zI 92) hC dX6_section_4 rfl ?_
  refine h_aload_n hC dX6_section_6 rfl ?_
  refine yr_callVi (As := []) hC hr ho hZ rfl (hZ.w.o 4 (by decide)) (cm_Parser_place X.la d b  hZ.rs hw) cl_X6_112 rfl rfl (Nat.le_of_ble_eq_true rfl) (hFr_of (by omega) (Nat.le_of_ble_eq_true rfl)) dX6_section_7 (fun r1 A2 u3 S4 R5 o6 hZ7 h8 => ?_)
  refine h_iconst (v := zI 0) hC dX6_section_10 rfl ?_
  refine yr_callVi (As := [.int (zI 92), .int (zI r1), .int (zI 0)]) hC hr o6 hZ7 rfl (hZ7.w.o 2 (by decide)) (cm_Tree_node X.la d b (by decide) R5 (by decide) hZ7.rs h8) cl_X6_115 rfl rfl (Nat.le_of_ble_eq_true rfl) (hFr_of (by omega) (Nat.le_of_ble_eq_true rfl)) dX6_section_11 (fun r9 A10 u11 S12 R13 o14 hZ15 h16 => ?_)
  refine h_istore_n (lv' := [some (.ref (gO' Y 4)), some (.int (zI a0)), some (.int (zI r9)), none, none]) hC dX6_section_14 (Nat.le_of_ble_eq_true rfl) rfl rfl ?_
  refine h_aload_n hC dX6_section_15 rfl ?_
  refine yx_callv (As := []) hC hr o14 hZ15 rfl (hZ15.w.o 4 (by decide)) (cm_Parser_open X.la d b hst hcx  hZ15.rs h16) cl_X6_138 rfl rfl (Nat.le_of_ble_eq_true rfl) (hFr_of (by omega) (Nat.le_of_ble_eq_true rfl)) dX6_section_16 (fun _ _ _ ho1 hz1 he1 => yx_out hC hr ho1 hz1 hT he1) (fun A18 u19 S20 o22 hZ23 h24 => ?_)
  refine h_iload_n hC dX6_section_19 rfl ?_
  refine yr_if_ne (tgt := 27) hC Ra0 dX6_section_20 (by decide) (fun c25 => ?_) (fun c25 => ?_)
  · have h26 := h24.1 c25
    refine h_iconst (v := zI 0) hC dX6_section_27 rfl ?_
    refine h_istore_n (lv' := [some (.ref (gO' Y 4)), some (.int (zI a0)), some (.int (zI r9)), some (.int (zI 0)), none]) hC dX6_section_28 (Nat.le_of_ble_eq_true rfl) rfl rfl ?_
    refine h_iconst (v := zI 0) hC dX6_section_29 rfl ?_
    refine h_istore (lv' := [some (.ref (gO' Y 4)), some (.int (zI a0)), some (.int (zI r9)), some (.int (zI 0)), some (.int (zI 0))]) hC dX6_section_30 (Nat.le_of_ble_eq_true rfl) rfl rfl ?_
    obtain ⟨m27, h28⟩ := h26
    exact cl_Parser_section_32 hC hr hst hT hcx ih  m27 _ _ _ _ _ _ _ Ra0 R13 (by decide) (by decide) o22 hZ23 h28
  · have h29 := h24.2 c25
    refine h_iconst (v := zI 1) hC dX6_section_23 rfl ?_
    refine h_goto (tgt := 28) hC dX6_section_24 (by decide) ?_
    refine h_istore_n (lv' := [some (.ref (gO' Y 4)), some (.int (zI a0)), some (.int (zI r9)), some (.int (zI 1)), none]) hC dX6_section_28 (Nat.le_of_ble_eq_true rfl) rfl rfl ?_
    refine h_iconst (v := zI 0) hC dX6_section_29 rfl ?_
    refine h_istore (lv' := [some (.ref (gO' Y 4)), some (.int (zI a0)), some (.int (zI r9)), some (.int (zI 1)), some (.int (zI 0))]) hC dX6_section_30 (Nat.le_of_ble_eq_true rfl) rfl rfl ?_
    obtain ⟨m30, h31⟩ := h29
    exact cl_Parser_section_32 hC hr hst hT hcx ih  m30 _ _ _ _ _ _ _ Ra0 R13 (by decide) (by decide) o22 hZ23 h31
theorem dX6_cases_0 : decode cX6_cases 0 = .ok (.iconst 0, 1) := by decide +kernel
theorem dX6_cases_1 : decode cX6_cases 1 = .ok (.istore_n 2, 1) := by decide +kernel
theorem dX6_cases_2 : decode cX6_cases 2 = .ok (.iload_n 2, 1) := by decide +kernel
theorem dX6_cases_3 : decode cX6_cases 3 = .ok (.ldc 11, 2) := by decide +kernel
theorem dX6_cases_5 : decode cX6_cases 5 = .ok (.if_icmp .ge 85, 3) := by decide +kernel
theorem dX6_cases_8 : decode cX6_cases 8 = .ok (.aload_n 0, 1) := by decide +kernel
theorem dX6_cases_9 : decode cX6_cases 9 = .ok (.invokevirtual 97, 3) := by decide +kernel
theorem dX6_cases_12 : decode cX6_cases 12 = .ok (.bipush 43, 2) := by decide +kernel
theorem dX6_cases_14 : decode cX6_cases 14 = .ok (.if_icmp .eq 12, 3) := by decide +kernel
theorem dX6_cases_17 : decode cX6_cases 17 = .ok (.aload_n 0, 1) := by decide +kernel
theorem dX6_cases_18 : decode cX6_cases 18 = .ok (.invokevirtual 97, 3) := by decide +kernel
theorem dX6_cases_21 : decode cX6_cases 21 = .ok (.bipush 44, 2) := by decide +kernel
theorem dX6_cases_23 : decode cX6_cases 23 = .ok (.if_icmp .ne 67, 3) := by decide +kernel
theorem dX6_cases_26 : decode cX6_cases 26 = .ok (.aload_n 0, 1) := by decide +kernel
theorem dX6_cases_27 : decode cX6_cases 27 = .ok (.invokevirtual 97, 3) := by decide +kernel
theorem dX6_cases_30 : decode cX6_cases 30 = .ok (.bipush 43, 2) := by decide +kernel
theorem dX6_cases_32 : decode cX6_cases 32 = .ok (.if_icmp .ne 7, 3) := by decide +kernel
theorem dX6_cases_35 : decode cX6_cases 35 = .ok (.iconst 1, 1) := by decide +kernel
theorem dX6_cases_36 : decode cX6_cases 36 = .ok (.goto 4, 3) := by decide +kernel
theorem dX6_cases_39 : decode cX6_cases 39 = .ok (.iconst 0, 1) := by decide +kernel
theorem dX6_cases_40 : decode cX6_cases 40 = .ok (.istore_n 3, 1) := by decide +kernel
theorem dX6_cases_41 : decode cX6_cases 41 = .ok (.aload_n 0, 1) := by decide +kernel
theorem dX6_cases_42 : decode cX6_cases 42 = .ok (.aload_n 0, 1) := by decide +kernel
theorem dX6_cases_43 : decode cX6_cases 43 = .ok (.invokevirtual 97, 3) := by decide +kernel
theorem dX6_cases_46 : decode cX6_cases 46 = .ok (.invokevirtual 135, 3) := by decide +kernel
theorem dX6_cases_49 : decode cX6_cases 49 = .ok (.istore 4, 2) := by decide +kernel
theorem dX6_cases_51 : decode cX6_cases 51 = .ok (.iload_n 3, 1) := by decide +kernel
theorem dX6_cases_52 : decode cX6_cases 52 = .ok (.ifCond .eq 16, 3) := by decide +kernel
theorem dX6_cases_55 : decode cX6_cases 55 = .ok (.aload_n 0, 1) := by decide +kernel
theorem dX6_cases_56 : decode cX6_cases 56 = .ok (.getfield 60, 3) := by decide +kernel
theorem dX6_cases_59 : decode cX6_cases 59 = .ok (.iload 4, 2) := by decide +kernel
theorem dX6_cases_61 : decode cX6_cases 61 = .ok (.aload_n 0, 1) := by decide +kernel
theorem dX6_cases_62 : decode cX6_cases 62 = .ok (.invokevirtual 156, 3) := by decide +kernel
theorem dX6_cases_65 : decode cX6_cases 65 = .ok (.invokevirtual 123, 3) := by decide +kernel
theorem dX6_cases_68 : decode cX6_cases 68 = .ok (.aload_n 0, 1) := by decide +kernel
theorem dX6_cases_69 : decode cX6_cases 69 = .ok (.bipush 12, 2) := by decide +kernel
theorem dX6_cases_71 : decode cX6_cases 71 = .ok (.invokevirtual 109, 3) := by decide +kernel
theorem dX6_cases_74 : decode cX6_cases 74 = .ok (.aload_n 0, 1) := by decide +kernel
theorem dX6_cases_75 : decode cX6_cases 75 = .ok (.getfield 60, 3) := by decide +kernel
theorem dX6_cases_78 : decode cX6_cases 78 = .ok (.iload_n 1, 1) := by decide +kernel
theorem dX6_cases_79 : decode cX6_cases 79 = .ok (.iload 4, 2) := by decide +kernel
theorem dX6_cases_81 : decode cX6_cases 81 = .ok (.invokevirtual 123, 3) := by decide +kernel
theorem dX6_cases_84 : decode cX6_cases 84 = .ok (.iinc 2 1, 3) := by decide +kernel
theorem dX6_cases_87 : decode cX6_cases 87 = .ok (.goto (-85), 3) := by decide +kernel
theorem dX6_cases_90 : decode cX6_cases 90 = .ok (.return_, 1) := by decide +kernel
def wc_Parser_cases_40 (rec : Nat → Int → Int → Int → cS → (Int → cS → Prop) → (cS → Prop) → Prop) (Q : cS → Prop) (E : cS → Prop) (k2 : cS → Int → Int → Prop) (A0 : cS) (x1 : Int) (x2 : Int) (y0 : Int) : Prop :=
  wc_Parser_kind A0  (fun r1 A2 => wc_Parser_leaf A2 r1 (fun r9 A10 => ((y0 = 0 → wc_Parser_due A10 12 (fun A20 => wc_Tree_hang A20 x1 r9 (fun A28 => (zR (x2 + 1)) ∧ k2 A28 x1 (x2 + 1))) E) ∧ (¬ y0 = 0 → rec 12 0 0 0 A10 (fun r38 A39 => wc_Tree_hang A39 r9 r38 (fun A47 => wc_Parser_due A47 12 (fun A55 => wc_Tree_hang A55 x1 r9 (fun A63 => (zR (x2 + 1)) ∧ k2 A63 x1 (x2 + 1))) E)) E))))
def wc_Parser_cases_2B (rec : Nat → Int → Int → Int → cS → (Int → cS → Prop) → (cS → Prop) → Prop) (Q : cS → Prop) (E : cS → Prop) (k2 : cS → Int → Int → Prop) (A0 : cS) (x1 : Int) (x2 : Int) : Prop :=
  ((1000000 ≤ x2 → Q A0) ∧ (¬ 1000000 ≤ x2 → wc_Parser_kind A0  (fun r4 A5 => ((r4 = 43 → wc_Parser_kind A5  (fun r14 A15 => ((¬ r14 = 43 → wc_Parser_cases_40 rec Q E k2 A15 x1 x2 0) ∧ (r14 = 43 → wc_Parser_cases_40 rec Q E k2 A15 x1 x2 1)))) ∧ (¬ r4 = 43 → wc_Parser_kind A5  (fun r26 A27 => ((¬ r26 = 44 → Q A27) ∧ (r26 = 44 → wc_Parser_kind A27  (fun r37 A38 => ((¬ r37 = 43 → wc_Parser_cases_40 rec Q E k2 A38 x1 x2 0) ∧ (r37 = 43 → wc_Parser_cases_40 rec Q E k2 A38 x1 x2 1)))))))))))
def wc_Parser_cases_2 (rec : Nat → Int → Int → Int → cS → (Int → cS → Prop) → (cS → Prop) → Prop) (Q : cS → Prop) (E : cS → Prop)  : Nat → cS → Int → Int → Prop
  | 0 => fun _ _ _ => False
  | m + 1 => fun A0 x1 x2 => wc_Parser_cases_2B rec Q E  (wc_Parser_cases_2 rec Q E  m) A0 x1 x2
def wc_Parser_cases (rec : Nat → Int → Int → Int → cS → (Int → cS → Prop) → (cS → Prop) → Prop) (A0 : cS) (a0 : Int) (Q : cS → Prop) (E : cS → Prop) : Prop :=
  ∃ n, wc_Parser_cases_2 rec Q E  n A0 a0 0
set_option maxHeartbeats 4000000 in
set_option maxRecDepth 100000 in
theorem cj_Parser_cases_40 {X : gX} {d : gD} {b : Nat} {Y : gYt} {c : Nat × Nat} {F0 : gM} {S0 : gSt} {mc ms : Nat} {rec : Nat → Int → Int → Int → cS → (Int → cS → Prop) → (cS → Prop) → Prop} {lv0 : Nat} (hC : gC RX6 cX6_cases 5 none "cases" (gR (9 + lv0 + 1) mc ms) d b X) (hr : hRm X b) (hst : X.la.stackTraces = false) (hT : ∀ x ∈ X.co.exceptionTable.toList, False) (hcx : yCx b c) (ih : yOkP X.la d b Y c lv0 rec) {Q : cS → Prop} {E : cS → Prop} {k2 : cS → Int → Int → Prop} (hk2 : ∀ (u : hU) (S : gSt) (A0 : cS) (x1 : Int) (x2 : Int), zR x1 → zR x2 → yOk X b u → yZ d b Y c F0 S0 u S A0 → k2 A0 x1 x2 → yG X d b (yxQv X d b Y c F0 S0 mc ms Q E) u 2 [some (.ref (gO' Y 4)), some (.int (zI x1)), some (.int (zI x2)), none, none] []) {u : hU} {S : gSt} {A0 : cS} {x1 : Int} {x2 : Int} {y0 : Int} (Rx1 : zR x1) (Rx2 : zR x2) (Ry0 : zR y0) (ho : yOk X b u) (hZ : yZ d b Y c F0 S0 u S A0) (hw : wc_Parser_cases_40 rec Q E k2 A0 x1 x2 y0) : yG X d b (yxQv X d b Y c F0 S0 mc ms Q E) u 40 [some (.ref (gO' Y 4)), some (.int (zI x1)), some (.int (zI x2)), none, none] [.int (zI y0)] := by
  unfold wc_Parser_cases_40 at hw
  refine h_istore_n (lv' := [some (.ref (gO' Y 4)), some (.int (zI x1)), some (.int (zI x2)), some (.int (zI y0)), none]) hC dX6_cases_40 (Nat.le_of_ble_eq_true rfl) rfl rfl ?_
  refine h_aload_n hC dX6_cases_41 rfl ?_
  refine h_aload_n hC dX6_cases_42 rfl ?_
  refine yr_callVi (As := []) hC hr ho hZ rfl (hZ.w.o 4 (by decide)) (cm_Parser_kind X.la d b  hZ.rs hw) cl_X6_97 rfl rfl (Nat.le_of_ble_eq_true rfl) (hFr_of (by omega) (Nat.le_of_ble_eq_true rfl)) dX6_cases_43 (fun r1 A2 u3 S4 R5 o6 hZ7 h8 => ?_)
  refine yr_callVi (As := [.int (zI r1)]) hC hr o6 hZ7 rfl (hZ7.w.o 4 (by decide)) (cm_Parser_leaf X.la d b R5 hZ7.rs h8) cl_X6_135 rfl rfl (Nat.le_of_ble_eq_true rfl) (hFr_of (by omega) (Nat.le_of_ble_eq_true rfl)) dX6_cases_46 (fun r9 A10 u11 S12 R13 o14 hZ15 h16 => ?_)
  refine h_istore (lv' := [some (.ref (gO' Y 4)), some (.int (zI x1)), some (.int (zI x2)), some (.int (zI y0)), some (.int (zI r9))]) hC dX6_cases_49 (Nat.le_of_ble_eq_true rfl) rfl rfl ?_
  refine h_iload_n hC dX6_cases_51 rfl ?_
  refine yr_if_eq (tgt := 68) hC Ry0 dX6_cases_52 (by decide) (fun c17 => ?_) (fun c17 => ?_)
  · have h18 := h16.1 c17
    refine h_aload_n hC dX6_cases_68 rfl ?_
    refine h_bipush (v := zI 12) hC dX6_cases_69 rfl ?_
    refine yx_callv (As := [.int (zI 12)]) hC hr o14 hZ15 rfl (hZ15.w.o 4 (by decide)) (cm_Parser_due X.la d b hst hcx (by decide) hZ15.rs h18) cl_X6_109 rfl rfl (Nat.le_of_ble_eq_true rfl) (hFr_of (by omega) (Nat.le_of_ble_eq_true rfl)) dX6_cases_71 (fun _ _ _ ho1 hz1 he1 => yx_out hC hr ho1 hz1 hT he1) (fun A20 u21 S22 o24 hZ25 h26 => ?_)
    refine h_aload_n hC dX6_cases_74 rfl ?_
    refine h_get hC fl_X6_60 (hZ25.w.o 4 (by decide)) rfl dX6_cases_75 ?_
    refine h_iload_n hC dX6_cases_78 rfl ?_
    refine h_iload hC dX6_cases_79 rfl ?_
    refine yr_callVv (As := [.int (zI x1), .int (zI r9)]) hC hr o24 hZ25 rfl (hZ25.w.o 2 (by decide)) (cm_Tree_hang X.la d b Rx1 R13 hZ25.rs h26) cl_X6_123 rfl rfl (Nat.le_of_ble_eq_true rfl) (hFr_of (by omega) (Nat.le_of_ble_eq_true rfl)) dX6_cases_81 (fun A28 u29 S30 o32 hZ33 h34 => ?_)
    refine yr_iinc (x := x2) (lv' := [some (.ref (gO' Y 4)), some (.int (zI x1)), some (.int (zI (x2 + 1))), some (.int (zI y0)), some (.int (zI r9))]) hC dX6_cases_84 rfl rfl rfl ?_
    refine h_goto (tgt := 2) hC dX6_cases_87 (by decide) ?_
    obtain ⟨o35, h36⟩ := h34
    refine h_lv (lv' := [some (.ref (gO' Y 4)), some (.int (zI x1)), some (.int (zI (x2 + 1))), none, none]) ⟨rfl, rfl, rfl, trivial⟩ ?_
    exact hk2 _ _ _ _ _ Rx1 o35 o32 hZ33 h36
  · have h37 := h16.2 c17
    refine h_aload_n hC dX6_cases_55 rfl ?_
    refine h_get hC fl_X6_60 (hZ15.w.o 4 (by decide)) rfl dX6_cases_56 ?_
    refine h_iload hC dX6_cases_59 rfl ?_
    refine h_aload_n hC dX6_cases_61 rfl ?_
    refine yx_calli (As := []) hC hr o14 hZ15 rfl (hZ15.w.o 4 (by decide)) (ih.2.2.2.2.2.2.2.2.2.2.2.2.1  hZ15.rs h37) cl_X6_156 rfl rfl (Nat.le_of_ble_eq_true rfl) (hFr_of (by omega) (Nat.le_of_ble_eq_true rfl)) dX6_cases_62 (fun _ _ _ ho1 hz1 he1 => yx_out hC hr ho1 hz1 hT he1) (fun r38 A39 u40 S41 R42 o43 hZ44 h45 => ?_)
    refine yr_callVv (As := [.int (zI r9), .int (zI r38)]) hC hr o43 hZ44 rfl (hZ44.w.o 2 (by decide)) (cm_Tree_hang X.la d b R13 R42 hZ44.rs h45) cl_X6_123 rfl rfl (Nat.le_of_ble_eq_true rfl) (hFr_of (by omega) (Nat.le_of_ble_eq_true rfl)) dX6_cases_65 (fun A47 u48 S49 o51 hZ52 h53 => ?_)
    refine h_aload_n hC dX6_cases_68 rfl ?_
    refine h_bipush (v := zI 12) hC dX6_cases_69 rfl ?_
    refine yx_callv (As := [.int (zI 12)]) hC hr o51 hZ52 rfl (hZ52.w.o 4 (by decide)) (cm_Parser_due X.la d b hst hcx (by decide) hZ52.rs h53) cl_X6_109 rfl rfl (Nat.le_of_ble_eq_true rfl) (hFr_of (by omega) (Nat.le_of_ble_eq_true rfl)) dX6_cases_71 (fun _ _ _ ho1 hz1 he1 => yx_out hC hr ho1 hz1 hT he1) (fun A55 u56 S57 o59 hZ60 h61 => ?_)
    refine h_aload_n hC dX6_cases_74 rfl ?_
    refine h_get hC fl_X6_60 (hZ60.w.o 4 (by decide)) rfl dX6_cases_75 ?_
    refine h_iload_n hC dX6_cases_78 rfl ?_
    refine h_iload hC dX6_cases_79 rfl ?_
    refine yr_callVv (As := [.int (zI x1), .int (zI r9)]) hC hr o59 hZ60 rfl (hZ60.w.o 2 (by decide)) (cm_Tree_hang X.la d b Rx1 R13 hZ60.rs h61) cl_X6_123 rfl rfl (Nat.le_of_ble_eq_true rfl) (hFr_of (by omega) (Nat.le_of_ble_eq_true rfl)) dX6_cases_81 (fun A63 u64 S65 o67 hZ68 h69 => ?_)
    refine yr_iinc (x := x2) (lv' := [some (.ref (gO' Y 4)), some (.int (zI x1)), some (.int (zI (x2 + 1))), some (.int (zI y0)), some (.int (zI r9))]) hC dX6_cases_84 rfl rfl rfl ?_
    refine h_goto (tgt := 2) hC dX6_cases_87 (by decide) ?_
    obtain ⟨o70, h71⟩ := h69
    refine h_lv (lv' := [some (.ref (gO' Y 4)), some (.int (zI x1)), some (.int (zI (x2 + 1))), none, none]) ⟨rfl, rfl, rfl, trivial⟩ ?_
    exact hk2 _ _ _ _ _ Rx1 o70 o67 hZ68 h71
set_option maxHeartbeats 4000000 in
set_option maxRecDepth 100000 in
theorem cb_Parser_cases_2 {X : gX} {d : gD} {b : Nat} {Y : gYt} {c : Nat × Nat} {F0 : gM} {S0 : gSt} {mc ms : Nat} {rec : Nat → Int → Int → Int → cS → (Int → cS → Prop) → (cS → Prop) → Prop} {lv0 : Nat} (hC : gC RX6 cX6_cases 5 none "cases" (gR (9 + lv0 + 1) mc ms) d b X) (hr : hRm X b) (hst : X.la.stackTraces = false) (hT : ∀ x ∈ X.co.exceptionTable.toList, False) (hcx : yCx b c) (ih : yOkP X.la d b Y c lv0 rec) {Q : cS → Prop} {E : cS → Prop} {k2 : cS → Int → Int → Prop} (hk2 : ∀ (u : hU) (S : gSt) (A0 : cS) (x1 : Int) (x2 : Int), zR x1 → zR x2 → yOk X b u → yZ d b Y c F0 S0 u S A0 → k2 A0 x1 x2 → yG X d b (yxQv X d b Y c F0 S0 mc ms Q E) u 2 [some (.ref (gO' Y 4)), some (.int (zI x1)), some (.int (zI x2)), none, none] []) {u : hU} {S : gSt} {A0 : cS} {x1 : Int} {x2 : Int} (Rx1 : zR x1) (Rx2 : zR x2) (ho : yOk X b u) (hZ : yZ d b Y c F0 S0 u S A0) (hw : wc_Parser_cases_2B rec Q E k2 A0 x1 x2) : yG X d b (yxQv X d b Y c F0 S0 mc ms Q E) u 2 [some (.ref (gO' Y 4)), some (.int (zI x1)), some (.int (zI x2)), none, none] [] := by
  unfold wc_Parser_cases_2B at hw
  refine h_iload_n hC dX6_cases_2 rfl ?_
  refine yr_ldc (e := 1000000) hC dX6_cases_3 kw_514 (by decide) ?_
  refine yr_icmp_ge (tgt := 90) hC Rx2 (by decide) dX6_cases_5 (by decide) (fun c1 => ?_) (fun c1 => ?_)
  · have h2 := hw.1 c1
    exact h_xret (yr_vret hC hr ho hZ h2 dX6_cases_90)
  · have h3 := hw.2 c1
    refine h_aload_n hC dX6_cases_8 rfl ?_
    refine yr_callVi (As := []) hC hr ho hZ rfl (hZ.w.o 4 (by decide)) (cm_Parser_kind X.la d b  hZ.rs h3) cl_X6_97 rfl rfl (Nat.le_of_ble_eq_true rfl) (hFr_of (by omega) (Nat.le_of_ble_eq_true rfl)) dX6_cases_9 (fun r4 A5 u6 S7 R8 o9 hZ10 h11 => ?_)
    refine h_bipush (v := zI 43) hC dX6_cases_12 rfl ?_
    refine yr_icmp_eq (tgt := 26) hC R8 (by decide) dX6_cases_14 (by decide) (fun c12 => ?_) (fun c12 => ?_)
    · have h13 := h11.1 c12
      refine h_aload_n hC dX6_cases_26 rfl ?_
      refine yr_callVi (As := []) hC hr o9 hZ10 rfl (hZ10.w.o 4 (by decide)) (cm_Parser_kind X.la d b  hZ10.rs h13) cl_X6_97 rfl rfl (Nat.le_of_ble_eq_true rfl) (hFr_of (by omega) (Nat.le_of_ble_eq_true rfl)) dX6_cases_27 (fun r14 A15 u16 S17 R18 o19 hZ20 h21 => ?_)
      refine h_bipush (v := zI 43) hC dX6_cases_30 rfl ?_
      refine yr_icmp_ne (tgt := 39) hC R18 (by decide) dX6_cases_32 (by decide) (fun c22 => ?_) (fun c22 => ?_)
      · have h23 := h21.1 c22
        refine h_iconst (v := zI 0) hC dX6_cases_39 rfl ?_
        exact cj_Parser_cases_40 hC hr hst hT hcx ih hk2 Rx1 Rx2 (by decide) o19 hZ20 h23
      · have h24 := h21.2 c22
        refine h_iconst (v := zI 1) hC dX6_cases_35 rfl ?_
        refine h_goto (tgt := 40) hC dX6_cases_36 (by decide) ?_
        exact cj_Parser_cases_40 hC hr hst hT hcx ih hk2 Rx1 Rx2 (by decide) o19 hZ20 h24
    · have h25 := h11.2 c12
      refine h_aload_n hC dX6_cases_17 rfl ?_
      refine yr_callVi (As := []) hC hr o9 hZ10 rfl (hZ10.w.o 4 (by decide)) (cm_Parser_kind X.la d b  hZ10.rs h25) cl_X6_97 rfl rfl (Nat.le_of_ble_eq_true rfl) (hFr_of (by omega) (Nat.le_of_ble_eq_true rfl)) dX6_cases_18 (fun r26 A27 u28 S29 R30 o31 hZ32 h33 => ?_)
      refine h_bipush (v := zI 44) hC dX6_cases_21 rfl ?_
      refine yr_icmp_ne (tgt := 90) hC R30 (by decide) dX6_cases_23 (by decide) (fun c34 => ?_) (fun c34 => ?_)
      · have h35 := h33.1 c34
        exact h_xret (yr_vret hC hr o31 hZ32 h35 dX6_cases_90)
      · have h36 := h33.2 c34
        refine h_aload_n hC dX6_cases_26 rfl ?_
        refine yr_callVi (As := []) hC hr o31 hZ32 rfl (hZ32.w.o 4 (by decide)) (cm_Parser_kind X.la d b  hZ32.rs h36) cl_X6_97 rfl rfl (Nat.le_of_ble_eq_true rfl) (hFr_of (by omega) (Nat.le_of_ble_eq_true rfl)) dX6_cases_27 (fun r37 A38 u39 S40 R41 o42 hZ43 h44 => ?_)
        refine h_bipush (v := zI 43) hC dX6_cases_30 rfl ?_
        refine yr_icmp_ne (tgt := 39) hC R41 (by decide) dX6_cases_32 (by decide) (fun c45 => ?_) (fun c45 => ?_)
        · have h46 := h44.1 c45
          refine h_iconst (v := zI 0) hC dX6_cases_39 rfl ?_
          exact cj_Parser_cases_40 hC hr hst hT hcx ih hk2 Rx1 Rx2 (by decide) o42 hZ43 h46
        · have h47 := h44.2 c45
          refine h_iconst (v := zI 1) hC dX6_cases_35 rfl ?_
          refine h_goto (tgt := 40) hC dX6_cases_36 (by decide) ?_
          exact cj_Parser_cases_40 hC hr hst hT hcx ih hk2 Rx1 Rx2 (by decide) o42 hZ43 h47
theorem cl_Parser_cases_2 {X : gX} {d : gD} {b : Nat} {Y : gYt} {c : Nat × Nat} {F0 : gM} {S0 : gSt} {mc ms : Nat} {rec : Nat → Int → Int → Int → cS → (Int → cS → Prop) → (cS → Prop) → Prop} {lv0 : Nat} (hC : gC RX6 cX6_cases 5 none "cases" (gR (9 + lv0 + 1) mc ms) d b X) (hr : hRm X b) (hst : X.la.stackTraces = false) (hT : ∀ x ∈ X.co.exceptionTable.toList, False) (hcx : yCx b c) (ih : yOkP X.la d b Y c lv0 rec) {Q : cS → Prop} {E : cS → Prop}   : ∀ (m : Nat) (u : hU) (S : gSt) (A0 : cS) (x1 : Int) (x2 : Int), zR x1 → zR x2 → yOk X b u → yZ d b Y c F0 S0 u S A0 → wc_Parser_cases_2 rec Q E  m A0 x1 x2 → yG X d b (yxQv X d b Y c F0 S0 mc ms Q E) u 2 [some (.ref (gO' Y 4)), some (.int (zI x1)), some (.int (zI x2)), none, none] [] := by
  intro m
  induction m with
  | zero => intro u S A0 x1 x2 Rx1 Rx2 ho hZ hw; exact False.elim hw
  | succ m ihm => intro u S A0 x1 x2 Rx1 Rx2 ho hZ hw; exact cb_Parser_cases_2 hC hr hst hT hcx ih  ihm Rx1 Rx2 ho hZ hw
set_option maxHeartbeats 4000000 in
set_option maxRecDepth 100000 in
theorem cm_Parser_cases (l : Launch) (d : gD) (b : Nat) {Y : gYt} {c : Nat × Nat} (hst : l.stackTraces = false) (hcx : yCx b c) {rec : Nat → Int → Int → Int → cS → (Int → cS → Prop) → (cS → Prop) → Prop} {lv0 : Nat} (ih : yOkP l d b Y c lv0 rec) {F : gM} {k n : Nat} {S : gSt} {A0 : cS} {a0 : Int} (Ra0 : zR a0) {Q : cS → Prop} {E : cS → Prop} (hZ : yZ d b Y c F S (F, k, n) S A0) (hw : wc_Parser_cases rec A0 a0 Q E) : hXv l d b yX6_cases cX6_cases 5 (9 + lv0 + 1) k n F [.ref (gO' Y 4), .int (zI a0)] (yPv d b Y c F S Q) "java/lang/IllegalStateException" (yPx d b Y c F S E) := by
  intro mc ms
  refine hX_of2 rfl (nL := 5) (Nat.le_of_ble_eq_true rfl) ?_
  intro X hX hT hC hr ho; subst hX
  show yG X d b (yxQv X d b Y c F S mc ms Q E) (F, k, n) 0 [some (.ref (gO' Y 4)), some (.int (zI a0)), none, none, none] []
  unfold wc_Parser_cases at hw
  refine h_iconst (v := zI 0) hC dX6_cases_0 rfl ?_
  refine h_istore_n (lv' := [some (.ref (gO' Y 4)), some (.int (zI a0)), some (.int (zI 0)), none, none]) hC dX6_cases_1 (Nat.le_of_ble_eq_true rfl) rfl rfl ?_
  obtain ⟨m1, h2⟩ := hw
  exact cl_Parser_cases_2 hC hr hst hT hcx ih  m1 _ _ _ _ _ Ra0 (by decide) ho hZ h2
theorem dX6_command_0 : decode cX6_command 0 = .ok (.iconst 0, 1) := by decide +kernel
theorem dX6_command_1 : decode cX6_command 1 = .ok (.istore_n 1, 1) := by decide +kernel
theorem dX6_command_2 : decode cX6_command 2 = .ok (.aload_n 0, 1) := by decide +kernel
theorem dX6_command_3 : decode cX6_command 3 = .ok (.invokevirtual 97, 3) := by decide +kernel
theorem dX6_command_6 : decode cX6_command 6 = .ok (.tableswitch 309 5 51 #[217, 202, 309, 309, 309, 202, 309, 309, 309, 309, 309, 309, 309, 309, 309, 309, 309, 309, 309, 309, 309, 309, 309, 309, 309, 309, 309, 309, 309, 309, 309, 226, 226, 226, 226, 226, 234, 242, 309, 309, 250, 250, 250, 250, 262, 250, 284], 202) := by decide +kernel
theorem dX6_command_208 : decode cX6_command 208 = .ok (.aload_n 0, 1) := by decide +kernel
theorem dX6_command_209 : decode cX6_command 209 = .ok (.getfield 60, 3) := by decide +kernel
theorem dX6_command_212 : decode cX6_command 212 = .ok (.bipush 89, 2) := by decide +kernel
theorem dX6_command_214 : decode cX6_command 214 = .ok (.aload_n 0, 1) := by decide +kernel
theorem dX6_command_215 : decode cX6_command 215 = .ok (.invokevirtual 112, 3) := by decide +kernel
theorem dX6_command_218 : decode cX6_command 218 = .ok (.iconst 0, 1) := by decide +kernel
theorem dX6_command_219 : decode cX6_command 219 = .ok (.invokevirtual 115, 3) := by decide +kernel
theorem dX6_command_222 : decode cX6_command 222 = .ok (.ireturn, 1) := by decide +kernel
theorem dX6_command_223 : decode cX6_command 223 = .ok (.aload_n 0, 1) := by decide +kernel
theorem dX6_command_224 : decode cX6_command 224 = .ok (.iconst 0, 1) := by decide +kernel
theorem dX6_command_225 : decode cX6_command 225 = .ok (.invokevirtual 202, 3) := by decide +kernel
theorem dX6_command_228 : decode cX6_command 228 = .ok (.istore_n 1, 1) := by decide +kernel
theorem dX6_command_229 : decode cX6_command 229 = .ok (.goto 91, 3) := by decide +kernel
theorem dX6_command_232 : decode cX6_command 232 = .ok (.aload_n 0, 1) := by decide +kernel
theorem dX6_command_233 : decode cX6_command 233 = .ok (.invokevirtual 205, 3) := by decide +kernel
theorem dX6_command_236 : decode cX6_command 236 = .ok (.istore_n 1, 1) := by decide +kernel
theorem dX6_command_237 : decode cX6_command 237 = .ok (.goto 83, 3) := by decide +kernel
theorem dX6_command_240 : decode cX6_command 240 = .ok (.aload_n 0, 1) := by decide +kernel
theorem dX6_command_241 : decode cX6_command 241 = .ok (.invokevirtual 208, 3) := by decide +kernel
theorem dX6_command_244 : decode cX6_command 244 = .ok (.istore_n 1, 1) := by decide +kernel
theorem dX6_command_245 : decode cX6_command 245 = .ok (.goto 75, 3) := by decide +kernel
theorem dX6_command_248 : decode cX6_command 248 = .ok (.aload_n 0, 1) := by decide +kernel
theorem dX6_command_249 : decode cX6_command 249 = .ok (.invokevirtual 211, 3) := by decide +kernel
theorem dX6_command_252 : decode cX6_command 252 = .ok (.istore_n 1, 1) := by decide +kernel
theorem dX6_command_253 : decode cX6_command 253 = .ok (.goto 67, 3) := by decide +kernel
theorem dX6_command_256 : decode cX6_command 256 = .ok (.aload_n 0, 1) := by decide +kernel
theorem dX6_command_257 : decode cX6_command 257 = .ok (.aload_n 0, 1) := by decide +kernel
theorem dX6_command_258 : decode cX6_command 258 = .ok (.invokevirtual 97, 3) := by decide +kernel
theorem dX6_command_261 : decode cX6_command 261 = .ok (.invokevirtual 135, 3) := by decide +kernel
theorem dX6_command_264 : decode cX6_command 264 = .ok (.istore_n 1, 1) := by decide +kernel
theorem dX6_command_265 : decode cX6_command 265 = .ok (.goto 55, 3) := by decide +kernel
theorem dX6_command_268 : decode cX6_command 268 = .ok (.aload_n 0, 1) := by decide +kernel
theorem dX6_command_269 : decode cX6_command 269 = .ok (.bipush 49, 2) := by decide +kernel
theorem dX6_command_271 : decode cX6_command 271 = .ok (.invokevirtual 135, 3) := by decide +kernel
theorem dX6_command_274 : decode cX6_command 274 = .ok (.istore_n 1, 1) := by decide +kernel
theorem dX6_command_275 : decode cX6_command 275 = .ok (.aload_n 0, 1) := by decide +kernel
theorem dX6_command_276 : decode cX6_command 276 = .ok (.getfield 60, 3) := by decide +kernel
theorem dX6_command_279 : decode cX6_command 279 = .ok (.iload_n 1, 1) := by decide +kernel
theorem dX6_command_280 : decode cX6_command 280 = .ok (.aload_n 0, 1) := by decide +kernel
theorem dX6_command_281 : decode cX6_command 281 = .ok (.invokevirtual 156, 3) := by decide +kernel
theorem dX6_command_284 : decode cX6_command 284 = .ok (.invokevirtual 123, 3) := by decide +kernel
theorem dX6_command_287 : decode cX6_command 287 = .ok (.goto 33, 3) := by decide +kernel
theorem dX6_command_290 : decode cX6_command 290 = .ok (.aload_n 0, 1) := by decide +kernel
theorem dX6_command_291 : decode cX6_command 291 = .ok (.invokevirtual 103, 3) := by decide +kernel
theorem dX6_command_294 : decode cX6_command 294 = .ok (.aload_n 0, 1) := by decide +kernel
theorem dX6_command_295 : decode cX6_command 295 = .ok (.getfield 60, 3) := by decide +kernel
theorem dX6_command_298 : decode cX6_command 298 = .ok (.bipush 51, 2) := by decide +kernel
theorem dX6_command_300 : decode cX6_command 300 = .ok (.aload_n 0, 1) := by decide +kernel
theorem dX6_command_301 : decode cX6_command 301 = .ok (.invokevirtual 112, 3) := by decide +kernel
theorem dX6_command_304 : decode cX6_command 304 = .ok (.aload_n 0, 1) := by decide +kernel
theorem dX6_command_305 : decode cX6_command 305 = .ok (.invokevirtual 141, 3) := by decide +kernel
theorem dX6_command_308 : decode cX6_command 308 = .ok (.invokevirtual 115, 3) := by decide +kernel
theorem dX6_command_311 : decode cX6_command 311 = .ok (.istore_n 1, 1) := by decide +kernel
theorem dX6_command_312 : decode cX6_command 312 = .ok (.goto 8, 3) := by decide +kernel
theorem dX6_command_315 : decode cX6_command 315 = .ok (.aload_n 0, 1) := by decide +kernel
theorem dX6_command_316 : decode cX6_command 316 = .ok (.invokevirtual 214, 3) := by decide +kernel
theorem dX6_command_319 : decode cX6_command 319 = .ok (.istore_n 1, 1) := by decide +kernel
theorem dX6_command_320 : decode cX6_command 320 = .ok (.aload_n 0, 1) := by decide +kernel
theorem dX6_command_321 : decode cX6_command 321 = .ok (.invokevirtual 97, 3) := by decide +kernel
theorem dX6_command_324 : decode cX6_command 324 = .ok (.invokestatic 217, 3) := by decide +kernel
theorem dX6_command_327 : decode cX6_command 327 = .ok (.ifCond .eq 11, 3) := by decide +kernel
theorem dX6_command_330 : decode cX6_command 330 = .ok (.aload_n 0, 1) := by decide +kernel
theorem dX6_command_331 : decode cX6_command 331 = .ok (.iload_n 1, 1) := by decide +kernel
theorem dX6_command_332 : decode cX6_command 332 = .ok (.invokevirtual 220, 3) := by decide +kernel
theorem dX6_command_335 : decode cX6_command 335 = .ok (.goto 4, 3) := by decide +kernel
theorem dX6_command_338 : decode cX6_command 338 = .ok (.iload_n 1, 1) := by decide +kernel
theorem dX6_command_339 : decode cX6_command 339 = .ok (.ireturn, 1) := by decide +kernel
def wc_Parser_command_320 (rec : Nat → Int → Int → Int → cS → (Int → cS → Prop) → (cS → Prop) → Prop) (Q : Int → cS → Prop) (E : cS → Prop)  (A0 : cS) (x1 : Int) : Prop :=
  wc_Parser_kind A0  (fun r1 A2 => wc_Parser_isRepeat A2 r1 (fun r9 A10 => ((r9 = 0 → Q x1 A10) ∧ (¬ r9 = 0 → rec 7 x1 0 0 A10 (fun r20 A21 => Q r20 A21) E))))
def wc_Parser_command (rec : Nat → Int → Int → Int → cS → (Int → cS → Prop) → (cS → Prop) → Prop) (A0 : cS)  (Q : Int → cS → Prop) (E : cS → Prop) : Prop :=
  wc_Parser_kind A0  (fun r1 A2 => (((r1 = 5) → rec 4 0 0 0 A2 (fun r12 A13 => wc_Parser_command_320 rec Q E  A13 r12) E) ∧ ((r1 = 6 ∨ r1 = 10) → wc_Parser_place A2  (fun r23 A24 => wc_Tree_node A24 89 r23 0 (fun r31 A32 => Q r31 A32))) ∧ ((r1 = 36 ∨ r1 = 37 ∨ r1 = 38 ∨ r1 = 39 ∨ r1 = 40) → rec 8 0 0 0 A2 (fun r42 A43 => wc_Parser_command_320 rec Q E  A43 r42) E) ∧ ((r1 = 41) → rec 9 0 0 0 A2 (fun r53 A54 => wc_Parser_command_320 rec Q E  A54 r53) E) ∧ ((r1 = 42) → rec 10 0 0 0 A2 (fun r64 A65 => wc_Parser_command_320 rec Q E  A65 r64) E) ∧ ((r1 = 45 ∨ r1 = 46 ∨ r1 = 47 ∨ r1 = 48 ∨ r1 = 50) → wc_Parser_kind A2  (fun r75 A76 => wc_Parser_leaf A76 r75 (fun r83 A84 => wc_Parser_command_320 rec Q E  A84 r83))) ∧ ((r1 = 49) → wc_Parser_leaf A2 49 (fun r94 A95 => rec 12 0 0 0 A95 (fun r102 A103 => wc_Tree_hang A103 r94 r102 (fun A111 => wc_Parser_command_320 rec Q E  A111 r94)) E)) ∧ ((r1 = 51) → wc_Parser_advance A2  (fun A122 => wc_Parser_place A122  (fun r129 A130 => wc_Parser_nameDue A130  (fun r137 A138 => wc_Tree_node A138 51 r129 r137 (fun r145 A146 => wc_Parser_command_320 rec Q E  A146 r145)) E))) ∧ (¬ (r1 = 5) → ¬ (r1 = 6 ∨ r1 = 10) → ¬ (r1 = 36 ∨ r1 = 37 ∨ r1 = 38 ∨ r1 = 39 ∨ r1 = 40) → ¬ (r1 = 41) → ¬ (r1 = 42) → ¬ (r1 = 45 ∨ r1 = 46 ∨ r1 = 47 ∨ r1 = 48 ∨ r1 = 50) → ¬ (r1 = 49) → ¬ (r1 = 51) → rec 11 0 0 0 A2 (fun r154 A155 => wc_Parser_command_320 rec Q E  A155 r154) E)))
set_option maxHeartbeats 4000000 in
set_option maxRecDepth 100000 in
theorem cj_Parser_command_320 {X : gX} {d : gD} {b : Nat} {Y : gYt} {c : Nat × Nat} {F0 : gM} {S0 : gSt} {mc ms : Nat} {rec : Nat → Int → Int → Int → cS → (Int → cS → Prop) → (cS → Prop) → Prop} {lv0 : Nat} (hC : gC RX6 cX6_command 2 (some .int) "command" (gR (9 + lv0 + 1) mc ms) d b X) (hr : hRm X b) (hst : X.la.stackTraces = false) (hT : ∀ x ∈ X.co.exceptionTable.toList, False) (hcx : yCx b c) (ih : yOkP X.la d b Y c lv0 rec) {Q : Int → cS → Prop} {E : cS → Prop}   {u : hU} {S : gSt} {A0 : cS} {x1 : Int} (Rx1 : zR x1) (ho : yOk X b u) (hZ : yZ d b Y c F0 S0 u S A0) (hw : wc_Parser_command_320 rec Q E  A0 x1) : yG X d b (yxQi X d b Y c F0 S0 mc ms Q E) u 320 [some (.ref (gO' Y 4)), some (.int (zI x1))] [] := by
  unfold wc_Parser_command_320 at hw
  refine h_aload_n hC dX6_command_320 rfl ?_
  refine yr_callVi (As := []) hC hr ho hZ rfl (hZ.w.o 4 (by decide)) (cm_Parser_kind X.la d b  hZ.rs hw) cl_X6_97 rfl rfl (Nat.le_of_ble_eq_true rfl) (hFr_of (by omega) (Nat.le_of_ble_eq_true rfl)) dX6_command_321 (fun r1 A2 u3 S4 R5 o6 hZ7 h8 => ?_)
  refine yr_callSi (As := [.int (zI r1)]) hC hr o6 hZ7 (cm_Parser_isRepeat X.la d b R5 hZ7.rs h8) cl_X6_217 rfl rfl (Nat.le_of_ble_eq_true rfl) (hFr_of (by omega) (Nat.le_of_ble_eq_true rfl)) dX6_command_324 (fun r9 A10 u11 S12 R13 o14 hZ15 h16 => ?_)
  refine yr_if_eq (tgt := 338) hC R13 dX6_command_327 (by decide) (fun c17 => ?_) (fun c17 => ?_)
  · have h18 := h16.1 c17
    refine h_iload_n hC dX6_command_338 rfl ?_
    exact h_xret (yr_iret hC hr o14 hZ15 Rx1 h18 dX6_command_339)
  · have h19 := h16.2 c17
    refine h_aload_n hC dX6_command_330 rfl ?_
    refine h_iload_n hC dX6_command_331 rfl ?_
    refine yx_calli (As := [.int (zI x1)]) hC hr o14 hZ15 rfl (hZ15.w.o 4 (by decide)) (ih.2.2.2.2.2.2.2.1 Rx1 hZ15.rs h19) cl_X6_220 rfl rfl (Nat.le_of_ble_eq_true rfl) (hFr_of (by omega) (Nat.le_of_ble_eq_true rfl)) dX6_command_332 (fun _ _ _ ho1 hz1 he1 => yx_out hC hr ho1 hz1 hT he1) (fun r20 A21 u22 S23 R24 o25 hZ26 h27 => ?_)
    refine h_goto (tgt := 339) hC dX6_command_335 (by decide) ?_
    exact h_xret (yr_iret hC hr o25 hZ26 R24 h27 dX6_command_339)
set_option maxHeartbeats 4000000 in
set_option maxRecDepth 100000 in
theorem cm_Parser_command (l : Launch) (d : gD) (b : Nat) {Y : gYt} {c : Nat × Nat} (hst : l.stackTraces = false) (hcx : yCx b c) {rec : Nat → Int → Int → Int → cS → (Int → cS → Prop) → (cS → Prop) → Prop} {lv0 : Nat} (ih : yOkP l d b Y c lv0 rec) {F : gM} {k n : Nat} {S : gSt} {A0 : cS}   {Q : Int → cS → Prop} {E : cS → Prop} (hZ : yZ d b Y c F S (F, k, n) S A0) (hw : wc_Parser_command rec A0  Q E) : hXi l d b yX6_command cX6_command 2 .int (9 + lv0 + 1) k n F [.ref (gO' Y 4)] (yPi d b Y c F S Q) "java/lang/IllegalStateException" (yPx d b Y c F S E) := by
  intro mc ms
  refine hX_of2 rfl (nL := 2) (Nat.le_of_ble_eq_true rfl) ?_
  intro X hX hT hC hr ho; subst hX
  show yG X d b (yxQi X d b Y c F S mc ms Q E) (F, k, n) 0 [some (.ref (gO' Y 4)), none] []
  unfold wc_Parser_command at hw
  refine h_iconst (v := zI 0) hC dX6_command_0 rfl ?_
  refine h_istore_n (lv' := [some (.ref (gO' Y 4)), some (.int (zI 0))]) hC dX6_command_1 (Nat.le_of_ble_eq_true rfl) rfl rfl ?_
  refine h_aload_n hC dX6_command_2 rfl ?_
  refine yr_callVi (As := []) hC hr ho hZ rfl (hZ.w.o 4 (by decide)) (cm_Parser_kind X.la d b  hZ.rs hw) cl_X6_97 rfl rfl (Nat.le_of_ble_eq_true rfl) (hFr_of (by omega) (Nat.le_of_ble_eq_true rfl)) dX6_command_3 (fun r1 A2 u3 S4 R5 o6 hZ7 h8 => ?_)
  by_cases g9 : r1 = 5
  · have h11 := (h8.1) g9
    have T10 : yG X d b (yxQi X d b Y c F S mc ms Q E) u3 223 [some (.ref (gO' Y 4)), some (.int (zI 0))] [] := by
      refine h_aload_n hC dX6_command_223 rfl ?_
      refine h_iconst (v := zI 0) hC dX6_command_224 rfl ?_
      refine yx_calli (As := [.int (zI 0)]) hC hr o6 hZ7 rfl (hZ7.w.o 4 (by decide)) (ih.2.2.2.2.1 (by decide) hZ7.rs h11) cl_X6_202 rfl rfl (Nat.le_of_ble_eq_true rfl) (hFr_of (by omega) (Nat.le_of_ble_eq_true rfl)) dX6_command_225 (fun _ _ _ ho1 hz1 he1 => yx_out hC hr ho1 hz1 hT he1) (fun r12 A13 u14 S15 R16 o17 hZ18 h19 => ?_)
      refine h_istore_n (lv' := [some (.ref (gO' Y 4)), some (.int (zI r12))]) hC dX6_command_228 (Nat.le_of_ble_eq_true rfl) rfl rfl ?_
      refine h_goto (tgt := 320) hC dX6_command_229 (by decide) ?_
      exact cj_Parser_command_320 hC hr hst hT hcx ih  R16 o17 hZ18 h19
    clear h11
    exact yr_tabAt (v := 5) hC dX6_command_6 R5 g9 (by decide) (by decide) rfl (by decide) T10
  · skip
    by_cases g20 : r1 = 6 ∨ r1 = 10
    · have h22 := (h8.2.1) g20
      have T21 : yG X d b (yxQi X d b Y c F S mc ms Q E) u3 208 [some (.ref (gO' Y 4)), some (.int (zI 0))] [] := by
        refine h_aload_n hC dX6_command_208 rfl ?_
        refine h_get hC fl_X6_60 (hZ7.w.o 4 (by decide)) rfl dX6_command_209 ?_
        refine h_bipush (v := zI 89) hC dX6_command_212 rfl ?_
        refine h_aload_n hC dX6_command_214 rfl ?_
        refine yr_callVi (As := []) hC hr o6 hZ7 rfl (hZ7.w.o 4 (by decide)) (cm_Parser_place X.la d b  hZ7.rs h22) cl_X6_112 rfl rfl (Nat.le_of_ble_eq_true rfl) (hFr_of (by omega) (Nat.le_of_ble_eq_true rfl)) dX6_command_215 (fun r23 A24 u25 S26 R27 o28 hZ29 h30 => ?_)
        refine h_iconst (v := zI 0) hC dX6_command_218 rfl ?_
        refine yr_callVi (As := [.int (zI 89), .int (zI r23), .int (zI 0)]) hC hr o28 hZ29 rfl (hZ29.w.o 2 (by decide)) (cm_Tree_node X.la d b (by decide) R27 (by decide) hZ29.rs h30) cl_X6_115 rfl rfl (Nat.le_of_ble_eq_true rfl) (hFr_of (by omega) (Nat.le_of_ble_eq_true rfl)) dX6_command_219 (fun r31 A32 u33 S34 R35 o36 hZ37 h38 => ?_)
        exact h_xret (yr_iret hC hr o36 hZ37 R35 h38 dX6_command_222)
      clear h22
      rcases g20 with e1 | e1
      · exact zr_tabAt (v := 6) hC dX6_command_6 R5 e1 (by decide) (by decide) rfl (by decide) T21
      · exact zr_tabAt (v := 10) hC dX6_command_6 R5 e1 (by decide) (by decide) rfl (by decide) T21
    · skip
      by_cases g39 : r1 = 36 ∨ r1 = 37 ∨ r1 = 38 ∨ r1 = 39 ∨ r1 = 40
      · have h41 := (h8.2.2.1) g39
        have T40 : yG X d b (yxQi X d b Y c F S mc ms Q E) u3 232 [some (.ref (gO' Y 4)), some (.int (zI 0))] [] := by
          refine h_aload_n hC dX6_command_232 rfl ?_
          refine yx_calli (As := []) hC hr o6 hZ7 rfl (hZ7.w.o 4 (by decide)) (ih.2.2.2.2.2.2.2.2.1  hZ7.rs h41) cl_X6_205 rfl rfl (Nat.le_of_ble_eq_true rfl) (hFr_of (by omega) (Nat.le_of_ble_eq_true rfl)) dX6_command_233 (fun _ _ _ ho1 hz1 he1 => yx_out hC hr ho1 hz1 hT he1) (fun r42 A43 u44 S45 R46 o47 hZ48 h49 => ?_)
          refine h_istore_n (lv' := [some (.ref (gO' Y 4)), some (.int (zI r42))]) hC dX6_command_236 (Nat.le_of_ble_eq_true rfl) rfl rfl ?_
          refine h_goto (tgt := 320) hC dX6_command_237 (by decide) ?_
          exact cj_Parser_command_320 hC hr hst hT hcx ih  R46 o47 hZ48 h49
        clear h41
        rcases g39 with e1 | e1 | e1 | e1 | e1
        · exact zr_tabAt (v := 36) hC dX6_command_6 R5 e1 (by decide) (by decide) rfl (by decide) T40
        · exact zr_tabAt (v := 37) hC dX6_command_6 R5 e1 (by decide) (by decide) rfl (by decide) T40
        · exact zr_tabAt (v := 38) hC dX6_command_6 R5 e1 (by decide) (by decide) rfl (by decide) T40
        · exact zr_tabAt (v := 39) hC dX6_command_6 R5 e1 (by decide) (by decide) rfl (by decide) T40
        · exact zr_tabAt (v := 40) hC dX6_command_6 R5 e1 (by decide) (by decide) rfl (by decide) T40
      · skip
        by_cases g50 : r1 = 41
        · have h52 := (h8.2.2.2.1) g50
          have T51 : yG X d b (yxQi X d b Y c F S mc ms Q E) u3 240 [some (.ref (gO' Y 4)), some (.int (zI 0))] [] := by
            refine h_aload_n hC dX6_command_240 rfl ?_
            refine yx_calli (As := []) hC hr o6 hZ7 rfl (hZ7.w.o 4 (by decide)) (ih.2.2.2.2.2.2.2.2.2.1  hZ7.rs h52) cl_X6_208 rfl rfl (Nat.le_of_ble_eq_true rfl) (hFr_of (by omega) (Nat.le_of_ble_eq_true rfl)) dX6_command_241 (fun _ _ _ ho1 hz1 he1 => yx_out hC hr ho1 hz1 hT he1) (fun r53 A54 u55 S56 R57 o58 hZ59 h60 => ?_)
            refine h_istore_n (lv' := [some (.ref (gO' Y 4)), some (.int (zI r53))]) hC dX6_command_244 (Nat.le_of_ble_eq_true rfl) rfl rfl ?_
            refine h_goto (tgt := 320) hC dX6_command_245 (by decide) ?_
            exact cj_Parser_command_320 hC hr hst hT hcx ih  R57 o58 hZ59 h60
          clear h52
          exact yr_tabAt (v := 41) hC dX6_command_6 R5 g50 (by decide) (by decide) rfl (by decide) T51
        · skip
          by_cases g61 : r1 = 42
          · have h63 := (h8.2.2.2.2.1) g61
            have T62 : yG X d b (yxQi X d b Y c F S mc ms Q E) u3 248 [some (.ref (gO' Y 4)), some (.int (zI 0))] [] := by
              refine h_aload_n hC dX6_command_248 rfl ?_
              refine yx_calli (As := []) hC hr o6 hZ7 rfl (hZ7.w.o 4 (by decide)) (ih.2.2.2.2.2.2.2.2.2.2.1  hZ7.rs h63) cl_X6_211 rfl rfl (Nat.le_of_ble_eq_true rfl) (hFr_of (by omega) (Nat.le_of_ble_eq_true rfl)) dX6_command_249 (fun _ _ _ ho1 hz1 he1 => yx_out hC hr ho1 hz1 hT he1) (fun r64 A65 u66 S67 R68 o69 hZ70 h71 => ?_)
              refine h_istore_n (lv' := [some (.ref (gO' Y 4)), some (.int (zI r64))]) hC dX6_command_252 (Nat.le_of_ble_eq_true rfl) rfl rfl ?_
              refine h_goto (tgt := 320) hC dX6_command_253 (by decide) ?_
              exact cj_Parser_command_320 hC hr hst hT hcx ih  R68 o69 hZ70 h71
            clear h63
            exact yr_tabAt (v := 42) hC dX6_command_6 R5 g61 (by decide) (by decide) rfl (by decide) T62
          · skip
            by_cases g72 : r1 = 45 ∨ r1 = 46 ∨ r1 = 47 ∨ r1 = 48 ∨ r1 = 50
            · have h74 := (h8.2.2.2.2.2.1) g72
              have T73 : yG X d b (yxQi X d b Y c F S mc ms Q E) u3 256 [some (.ref (gO' Y 4)), some (.int (zI 0))] [] := by
                refine h_aload_n hC dX6_command_256 rfl ?_
                refine h_aload_n hC dX6_command_257 rfl ?_
                refine yr_callVi (As := []) hC hr o6 hZ7 rfl (hZ7.w.o 4 (by decide)) (cm_Parser_kind X.la d b  hZ7.rs h74) cl_X6_97 rfl rfl (Nat.le_of_ble_eq_true rfl) (hFr_of (by omega) (Nat.le_of_ble_eq_true rfl)) dX6_command_258 (fun r75 A76 u77 S78 R79 o80 hZ81 h82 => ?_)
                refine yr_callVi (As := [.int (zI r75)]) hC hr o80 hZ81 rfl (hZ81.w.o 4 (by decide)) (cm_Parser_leaf X.la d b R79 hZ81.rs h82) cl_X6_135 rfl rfl (Nat.le_of_ble_eq_true rfl) (hFr_of (by omega) (Nat.le_of_ble_eq_true rfl)) dX6_command_261 (fun r83 A84 u85 S86 R87 o88 hZ89 h90 => ?_)
                refine h_istore_n (lv' := [some (.ref (gO' Y 4)), some (.int (zI r83))]) hC dX6_command_264 (Nat.le_of_ble_eq_true rfl) rfl rfl ?_
                refine h_goto (tgt := 320) hC dX6_command_265 (by decide) ?_
                exact cj_Parser_command_320 hC hr hst hT hcx ih  R87 o88 hZ89 h90
              clear h74
              rcases g72 with e1 | e1 | e1 | e1 | e1
              · exact zr_tabAt (v := 45) hC dX6_command_6 R5 e1 (by decide) (by decide) rfl (by decide) T73
              · exact zr_tabAt (v := 46) hC dX6_command_6 R5 e1 (by decide) (by decide) rfl (by decide) T73
              · exact zr_tabAt (v := 47) hC dX6_command_6 R5 e1 (by decide) (by decide) rfl (by decide) T73
              · exact zr_tabAt (v := 48) hC dX6_command_6 R5 e1 (by decide) (by decide) rfl (by decide) T73
              · exact zr_tabAt (v := 50) hC dX6_command_6 R5 e1 (by decide) (by decide) rfl (by decide) T73
            · skip
              by_cases g91 : r1 = 49
              · have h93 := (h8.2.2.2.2.2.2.1) g91
                have T92 : yG X d b (yxQi X d b Y c F S mc ms Q E) u3 268 [some (.ref (gO' Y 4)), some (.int (zI 0))] [] := by
                  refine h_aload_n hC dX6_command_268 rfl ?_
                  refine h_bipush (v := zI 49) hC dX6_command_269 rfl ?_
                  refine yr_callVi (As := [.int (zI 49)]) hC hr o6 hZ7 rfl (hZ7.w.o 4 (by decide)) (cm_Parser_leaf X.la d b (by decide) hZ7.rs h93) cl_X6_135 rfl rfl (Nat.le_of_ble_eq_true rfl) (hFr_of (by omega) (Nat.le_of_ble_eq_true rfl)) dX6_command_271 (fun r94 A95 u96 S97 R98 o99 hZ100 h101 => ?_)
                  refine h_istore_n (lv' := [some (.ref (gO' Y 4)), some (.int (zI r94))]) hC dX6_command_274 (Nat.le_of_ble_eq_true rfl) rfl rfl ?_
                  refine h_aload_n hC dX6_command_275 rfl ?_
                  refine h_get hC fl_X6_60 (hZ100.w.o 4 (by decide)) rfl dX6_command_276 ?_
                  refine h_iload_n hC dX6_command_279 rfl ?_
                  refine h_aload_n hC dX6_command_280 rfl ?_
                  refine yx_calli (As := []) hC hr o99 hZ100 rfl (hZ100.w.o 4 (by decide)) (ih.2.2.2.2.2.2.2.2.2.2.2.2.1  hZ100.rs h101) cl_X6_156 rfl rfl (Nat.le_of_ble_eq_true rfl) (hFr_of (by omega) (Nat.le_of_ble_eq_true rfl)) dX6_command_281 (fun _ _ _ ho1 hz1 he1 => yx_out hC hr ho1 hz1 hT he1) (fun r102 A103 u104 S105 R106 o107 hZ108 h109 => ?_)
                  refine yr_callVv (As := [.int (zI r94), .int (zI r102)]) hC hr o107 hZ108 rfl (hZ108.w.o 2 (by decide)) (cm_Tree_hang X.la d b R98 R106 hZ108.rs h109) cl_X6_123 rfl rfl (Nat.le_of_ble_eq_true rfl) (hFr_of (by omega) (Nat.le_of_ble_eq_true rfl)) dX6_command_284 (fun A111 u112 S113 o115 hZ116 h117 => ?_)
                  refine h_goto (tgt := 320) hC dX6_command_287 (by decide) ?_
                  exact cj_Parser_command_320 hC hr hst hT hcx ih  R98 o115 hZ116 h117
                clear h93
                exact yr_tabAt (v := 49) hC dX6_command_6 R5 g91 (by decide) (by decide) rfl (by decide) T92
              · skip
                by_cases g118 : r1 = 51
                · have h120 := (h8.2.2.2.2.2.2.2.1) g118
                  have T119 : yG X d b (yxQi X d b Y c F S mc ms Q E) u3 290 [some (.ref (gO' Y 4)), some (.int (zI 0))] [] := by
                    refine h_aload_n hC dX6_command_290 rfl ?_
                    refine yr_callVv (As := []) hC hr o6 hZ7 rfl (hZ7.w.o 4 (by decide)) (cm_Parser_advance X.la d b  hZ7.rs h120) cl_X6_103 rfl rfl (Nat.le_of_ble_eq_true rfl) (hFr_of (by omega) (Nat.le_of_ble_eq_true rfl)) dX6_command_291 (fun A122 u123 S124 o126 hZ127 h128 => ?_)
                    refine h_aload_n hC dX6_command_294 rfl ?_
                    refine h_get hC fl_X6_60 (hZ127.w.o 4 (by decide)) rfl dX6_command_295 ?_
                    refine h_bipush (v := zI 51) hC dX6_command_298 rfl ?_
                    refine h_aload_n hC dX6_command_300 rfl ?_
                    refine yr_callVi (As := []) hC hr o126 hZ127 rfl (hZ127.w.o 4 (by decide)) (cm_Parser_place X.la d b  hZ127.rs h128) cl_X6_112 rfl rfl (Nat.le_of_ble_eq_true rfl) (hFr_of (by omega) (Nat.le_of_ble_eq_true rfl)) dX6_command_301 (fun r129 A130 u131 S132 R133 o134 hZ135 h136 => ?_)
                    refine h_aload_n hC dX6_command_304 rfl ?_
                    refine yx_calli (As := []) hC hr o134 hZ135 rfl (hZ135.w.o 4 (by decide)) (cm_Parser_nameDue X.la d b hst hcx  hZ135.rs h136) cl_X6_141 rfl rfl (Nat.le_of_ble_eq_true rfl) (hFr_of (by omega) (Nat.le_of_ble_eq_true rfl)) dX6_command_305 (fun _ _ _ ho1 hz1 he1 => yx_out hC hr ho1 hz1 hT he1) (fun r137 A138 u139 S140 R141 o142 hZ143 h144 => ?_)
                    refine yr_callVi (As := [.int (zI 51), .int (zI r129), .int (zI r137)]) hC hr o142 hZ143 rfl (hZ143.w.o 2 (by decide)) (cm_Tree_node X.la d b (by decide) R133 R141 hZ143.rs h144) cl_X6_115 rfl rfl (Nat.le_of_ble_eq_true rfl) (hFr_of (by omega) (Nat.le_of_ble_eq_true rfl)) dX6_command_308 (fun r145 A146 u147 S148 R149 o150 hZ151 h152 => ?_)
                    refine h_istore_n (lv' := [some (.ref (gO' Y 4)), some (.int (zI r145))]) hC dX6_command_311 (Nat.le_of_ble_eq_true rfl) rfl rfl ?_
                    refine h_goto (tgt := 320) hC dX6_command_312 (by decide) ?_
                    exact cj_Parser_command_320 hC hr hst hT hcx ih  R149 o150 hZ151 h152
                  clear h120
                  exact yr_tabAt (v := 51) hC dX6_command_6 R5 g118 (by decide) (by decide) rfl (by decide) T119
                · skip
                  have h153 := h8.2.2.2.2.2.2.2.2 g9 g20 g39 g50 g61 g72 g91 g118
                  refine yr_tabD (tgt := 315) [5, 6, 10, 36, 37, 38, 39, 40, 41, 42, 45, 46, 47, 48, 49, 50, 51] hC dX6_command_6 R5 (by decide) (by decide) (List.forall_mem_cons.mpr ⟨(fun q => g9 (q)), List.forall_mem_cons.mpr ⟨(fun q => g20 (Or.inl q)), List.forall_mem_cons.mpr ⟨(fun q => g20 (Or.inr (q))), List.forall_mem_cons.mpr ⟨(fun q => g39 (Or.inl q)), List.forall_mem_cons.mpr ⟨(fun q => g39 (Or.inr (Or.inl q))), List.forall_mem_cons.mpr ⟨(fun q => g39 (Or.inr (Or.inr (Or.inl q)))), List.forall_mem_cons.mpr ⟨(fun q => g39 (Or.inr (Or.inr (Or.inr (Or.inl q))))), List.forall_mem_cons.mpr ⟨(fun q => g39 (Or.inr (Or.inr (Or.inr (Or.inr (q)))))), List.forall_mem_cons.mpr ⟨(fun q => g50 (q)), List.forall_mem_cons.mpr ⟨(fun q => g61 (q)), List.forall_mem_cons.mpr ⟨(fun q => g72 (Or.inl q)), List.forall_mem_cons.mpr ⟨(fun q => g72 (Or.inr (Or.inl q))), List.forall_mem_cons.mpr ⟨(fun q => g72 (Or.inr (Or.inr (Or.inl q)))), List.forall_mem_cons.mpr ⟨(fun q => g72 (Or.inr (Or.inr (Or.inr (Or.inl q))))), List.forall_mem_cons.mpr ⟨(fun q => g91 (q)), List.forall_mem_cons.mpr ⟨(fun q => g72 (Or.inr (Or.inr (Or.inr (Or.inr (q)))))), List.forall_mem_cons.mpr ⟨(fun q => g118 (q)), fun q hq => absurd hq List.not_mem_nil⟩⟩⟩⟩⟩⟩⟩⟩⟩⟩⟩⟩⟩⟩⟩⟩⟩) (by decide) ?_
                  refine h_aload_n hC dX6_command_315 rfl ?_
                  refine yx_calli (As := []) hC hr o6 hZ7 rfl (hZ7.w.o 4 (by decide)) (ih.2.2.2.2.2.2.2.2.2.2.2.1  hZ7.rs h153) cl_X6_214 rfl rfl (Nat.le_of_ble_eq_true rfl) (hFr_of (by omega) (Nat.le_of_ble_eq_true rfl)) dX6_command_316 (fun _ _ _ ho1 hz1 he1 => yx_out hC hr ho1 hz1 hT he1) (fun r154 A155 u156 S157 R158 o159 hZ160 h161 => ?_)
                  refine h_istore_n (lv' := [some (.ref (gO' Y 4)), some (.int (zI r154))]) hC dX6_command_319 (Nat.le_of_ble_eq_true rfl) rfl rfl ?_
                  exact cj_Parser_command_320 hC hr hst hT hcx ih  R158 o159 hZ160 h161
theorem dX6_repeats_0 : decode cX6_repeats 0 = .ok (.aload_n 0, 1) := by decide +kernel
theorem dX6_repeats_1 : decode cX6_repeats 1 = .ok (.getfield 60, 3) := by decide +kernel
theorem dX6_repeats_4 : decode cX6_repeats 4 = .ok (.bipush 93, 2) := by decide +kernel
theorem dX6_repeats_6 : decode cX6_repeats 6 = .ok (.aload_n 0, 1) := by decide +kernel
theorem dX6_repeats_7 : decode cX6_repeats 7 = .ok (.getfield 60, 3) := by decide +kernel
theorem dX6_repeats_10 : decode cX6_repeats 10 = .ok (.iload_n 1, 1) := by decide +kernel
theorem dX6_repeats_11 : decode cX6_repeats 11 = .ok (.invokevirtual 223, 3) := by decide +kernel
theorem dX6_repeats_14 : decode cX6_repeats 14 = .ok (.iconst 0, 1) := by decide +kernel
theorem dX6_repeats_15 : decode cX6_repeats 15 = .ok (.invokevirtual 115, 3) := by decide +kernel
theorem dX6_repeats_18 : decode cX6_repeats 18 = .ok (.istore_n 2, 1) := by decide +kernel
theorem dX6_repeats_19 : decode cX6_repeats 19 = .ok (.aload_n 0, 1) := by decide +kernel
theorem dX6_repeats_20 : decode cX6_repeats 20 = .ok (.getfield 60, 3) := by decide +kernel
theorem dX6_repeats_23 : decode cX6_repeats 23 = .ok (.iload_n 2, 1) := by decide +kernel
theorem dX6_repeats_24 : decode cX6_repeats 24 = .ok (.iload_n 1, 1) := by decide +kernel
theorem dX6_repeats_25 : decode cX6_repeats 25 = .ok (.invokevirtual 123, 3) := by decide +kernel
theorem dX6_repeats_28 : decode cX6_repeats 28 = .ok (.aload_n 0, 1) := by decide +kernel
theorem dX6_repeats_29 : decode cX6_repeats 29 = .ok (.getfield 31, 3) := by decide +kernel
theorem dX6_repeats_32 : decode cX6_repeats 32 = .ok (.istore_n 3, 1) := by decide +kernel
theorem dX6_repeats_33 : decode cX6_repeats 33 = .ok (.iconst 0, 1) := by decide +kernel
theorem dX6_repeats_34 : decode cX6_repeats 34 = .ok (.istore 4, 2) := by decide +kernel
theorem dX6_repeats_36 : decode cX6_repeats 36 = .ok (.iload 4, 2) := by decide +kernel
theorem dX6_repeats_38 : decode cX6_repeats 38 = .ok (.ldc 11, 2) := by decide +kernel
theorem dX6_repeats_40 : decode cX6_repeats 40 = .ok (.if_icmp .ge 70, 3) := by decide +kernel
theorem dX6_repeats_43 : decode cX6_repeats 43 = .ok (.aload_n 0, 1) := by decide +kernel
theorem dX6_repeats_44 : decode cX6_repeats 44 = .ok (.invokevirtual 97, 3) := by decide +kernel
theorem dX6_repeats_47 : decode cX6_repeats 47 = .ok (.invokestatic 217, 3) := by decide +kernel
theorem dX6_repeats_50 : decode cX6_repeats 50 = .ok (.ifCond .eq 60, 3) := by decide +kernel
theorem dX6_repeats_53 : decode cX6_repeats 53 = .ok (.aload_n 0, 1) := by decide +kernel
theorem dX6_repeats_54 : decode cX6_repeats 54 = .ok (.invokevirtual 162, 3) := by decide +kernel
theorem dX6_repeats_57 : decode cX6_repeats 57 = .ok (.aload_n 0, 1) := by decide +kernel
theorem dX6_repeats_58 : decode cX6_repeats 58 = .ok (.aload_n 0, 1) := by decide +kernel
theorem dX6_repeats_59 : decode cX6_repeats 59 = .ok (.invokevirtual 97, 3) := by decide +kernel
theorem dX6_repeats_62 : decode cX6_repeats 62 = .ok (.invokevirtual 135, 3) := by decide +kernel
theorem dX6_repeats_65 : decode cX6_repeats 65 = .ok (.istore 5, 2) := by decide +kernel
theorem dX6_repeats_67 : decode cX6_repeats 67 = .ok (.aload_n 0, 1) := by decide +kernel
theorem dX6_repeats_68 : decode cX6_repeats 68 = .ok (.getfield 60, 3) := by decide +kernel
theorem dX6_repeats_71 : decode cX6_repeats 71 = .ok (.iload 5, 2) := by decide +kernel
theorem dX6_repeats_73 : decode cX6_repeats 73 = .ok (.invokevirtual 225, 3) := by decide +kernel
theorem dX6_repeats_76 : decode cX6_repeats 76 = .ok (.bipush 67, 2) := by decide +kernel
theorem dX6_repeats_78 : decode cX6_repeats 78 = .ok (.if_icmp .eq 16, 3) := by decide +kernel
theorem dX6_repeats_81 : decode cX6_repeats 81 = .ok (.aload_n 0, 1) := by decide +kernel
theorem dX6_repeats_82 : decode cX6_repeats 82 = .ok (.getfield 60, 3) := by decide +kernel
theorem dX6_repeats_85 : decode cX6_repeats 85 = .ok (.iload 5, 2) := by decide +kernel
theorem dX6_repeats_87 : decode cX6_repeats 87 = .ok (.aload_n 0, 1) := by decide +kernel
theorem dX6_repeats_88 : decode cX6_repeats 88 = .ok (.invokevirtual 156, 3) := by decide +kernel
theorem dX6_repeats_91 : decode cX6_repeats 91 = .ok (.invokevirtual 123, 3) := by decide +kernel
theorem dX6_repeats_94 : decode cX6_repeats 94 = .ok (.aload_n 0, 1) := by decide +kernel
theorem dX6_repeats_95 : decode cX6_repeats 95 = .ok (.getfield 60, 3) := by decide +kernel
theorem dX6_repeats_98 : decode cX6_repeats 98 = .ok (.iload_n 2, 1) := by decide +kernel
theorem dX6_repeats_99 : decode cX6_repeats 99 = .ok (.iload 5, 2) := by decide +kernel
theorem dX6_repeats_101 : decode cX6_repeats 101 = .ok (.invokevirtual 123, 3) := by decide +kernel
theorem dX6_repeats_104 : decode cX6_repeats 104 = .ok (.iinc 4 1, 3) := by decide +kernel
theorem dX6_repeats_107 : decode cX6_repeats 107 = .ok (.goto (-71), 3) := by decide +kernel
theorem dX6_repeats_110 : decode cX6_repeats 110 = .ok (.aload_n 0, 1) := by decide +kernel
theorem dX6_repeats_111 : decode cX6_repeats 111 = .ok (.iload_n 3, 1) := by decide +kernel
theorem dX6_repeats_112 : decode cX6_repeats 112 = .ok (.putfield 31, 3) := by decide +kernel
theorem dX6_repeats_115 : decode cX6_repeats 115 = .ok (.iload_n 2, 1) := by decide +kernel
theorem dX6_repeats_116 : decode cX6_repeats 116 = .ok (.ireturn, 1) := by decide +kernel
def wc_Parser_repeats_36B (rec : Nat → Int → Int → Int → cS → (Int → cS → Prop) → (cS → Prop) → Prop) (Q : Int → cS → Prop) (E : cS → Prop) (k36 : cS → Int → Int → Int → Prop) (A0 : cS) (x2 : Int) (x3 : Int) (x4 : Int) : Prop :=
  ((1000000 ≤ x4 → Q x2 (ypv A0 11 x3)) ∧ (¬ 1000000 ≤ x4 → wc_Parser_kind A0  (fun r15 A16 => wc_Parser_isRepeat A16 r15 (fun r23 A24 => ((r23 = 0 → Q x2 (ypv A24 11 x3)) ∧ (¬ r23 = 0 → wc_Parser_enter A24  (fun A46 => wc_Parser_kind A46  (fun r53 A54 => wc_Parser_leaf A54 r53 (fun r61 A62 => wc_Tree_kind A62 r61 (fun r69 A70 => ((r69 = 67 → wc_Tree_hang A70 x2 r61 (fun A80 => (zR (x4 + 1)) ∧ k36 A80 x2 x3 (x4 + 1))) ∧ (¬ r69 = 67 → rec 12 0 0 0 A70 (fun r90 A91 => wc_Tree_hang A91 r61 r90 (fun A99 => wc_Tree_hang A99 x2 r61 (fun A107 => (zR (x4 + 1)) ∧ k36 A107 x2 x3 (x4 + 1)))) E)))))) E))))))
def wc_Parser_repeats_36 (rec : Nat → Int → Int → Int → cS → (Int → cS → Prop) → (cS → Prop) → Prop) (Q : Int → cS → Prop) (E : cS → Prop)  : Nat → cS → Int → Int → Int → Prop
  | 0 => fun _ _ _ _ => False
  | m + 1 => fun A0 x2 x3 x4 => wc_Parser_repeats_36B rec Q E  (wc_Parser_repeats_36 rec Q E  m) A0 x2 x3 x4
def wc_Parser_repeats (rec : Nat → Int → Int → Int → cS → (Int → cS → Prop) → (cS → Prop) → Prop) (A0 : cS) (a0 : Int) (Q : Int → cS → Prop) (E : cS → Prop) : Prop :=
  wc_Tree_place A0 a0 (fun r1 A2 => wc_Tree_node A2 93 r1 0 (fun r9 A10 => wc_Tree_hang A10 r9 a0 (fun A18 => ∃ n, wc_Parser_repeats_36 rec Q E  n A18 r9 (yv A18 11) 0)))
set_option maxHeartbeats 4000000 in
set_option maxRecDepth 100000 in
theorem cb_Parser_repeats_36 {X : gX} {d : gD} {b : Nat} {Y : gYt} {c : Nat × Nat} {F0 : gM} {S0 : gSt} {mc ms : Nat} {rec : Nat → Int → Int → Int → cS → (Int → cS → Prop) → (cS → Prop) → Prop} {lv0 : Nat} (hC : gC RX6 cX6_repeats 6 (some .int) "repeats" (gR (9 + lv0 + 1) mc ms) d b X) (hr : hRm X b) (hst : X.la.stackTraces = false) (hT : ∀ x ∈ X.co.exceptionTable.toList, False) (hcx : yCx b c) (ih : yOkP X.la d b Y c lv0 rec) {Q : Int → cS → Prop} {E : cS → Prop} {k36 : cS → Int → Int → Int → Prop} (hk36 : ∀ (u : hU) (S : gSt) (A0 : cS) (x2 : Int) (x3 : Int) (x4 : Int), zR x2 → zR x3 → zR x4 → yOk X b u → yZ d b Y c F0 S0 u S A0 → k36 A0 x2 x3 x4 → yG X d b (yxQi X d b Y c F0 S0 mc ms Q E) u 36 [some (.ref (gO' Y 4)), none, some (.int (zI x2)), some (.int (zI x3)), some (.int (zI x4)), none] []) {u : hU} {S : gSt} {A0 : cS} {x2 : Int} {x3 : Int} {x4 : Int} (Rx2 : zR x2) (Rx3 : zR x3) (Rx4 : zR x4) (ho : yOk X b u) (hZ : yZ d b Y c F0 S0 u S A0) (hw : wc_Parser_repeats_36B rec Q E k36 A0 x2 x3 x4) : yG X d b (yxQi X d b Y c F0 S0 mc ms Q E) u 36 [some (.ref (gO' Y 4)), none, some (.int (zI x2)), some (.int (zI x3)), some (.int (zI x4)), none] [] := by
  unfold wc_Parser_repeats_36B at hw
  refine h_iload hC dX6_repeats_36 rfl ?_
  refine yr_ldc (e := 1000000) hC dX6_repeats_38 kw_514 (by decide) ?_
  refine yr_icmp_ge (tgt := 110) hC Rx4 (by decide) dX6_repeats_40 (by decide) (fun c1 => ?_) (fun c1 => ?_)
  · have h2 := hw.1 c1
    refine h_aload_n hC dX6_repeats_110 rfl ?_
    refine h_iload_n hC dX6_repeats_111 rfl ?_
    refine hi_putx (i := 4) (kx := 11) hC hZ.hi (by decide) fl_X6_31 rfl rfl rfl (Nat.le_of_ble_eq_true rfl) rfl gsame_11 (fun q => absurd q (by decide)) dX6_repeats_112 (fun F3 S4 I5 K6 s7 v8 p9 => ?_)
    have hZ10 := hZ.put I5 K6 s7 v8 Rx3 rfl
    clear I5 K6 s7 v8 p9
    refine yr_nu ho hZ10 (fun u11 o12 hZ13 => ?_)
    refine h_iload_n hC dX6_repeats_115 rfl ?_
    exact h_xret (yr_iret hC hr o12 hZ13 Rx2 h2 dX6_repeats_116)
  · have h14 := hw.2 c1
    refine h_aload_n hC dX6_repeats_43 rfl ?_
    refine yr_callVi (As := []) hC hr ho hZ rfl (hZ.w.o 4 (by decide)) (cm_Parser_kind X.la d b  hZ.rs h14) cl_X6_97 rfl rfl (Nat.le_of_ble_eq_true rfl) (hFr_of (by omega) (Nat.le_of_ble_eq_true rfl)) dX6_repeats_44 (fun r15 A16 u17 S18 R19 o20 hZ21 h22 => ?_)
    refine yr_callSi (As := [.int (zI r15)]) hC hr o20 hZ21 (cm_Parser_isRepeat X.la d b R19 hZ21.rs h22) cl_X6_217 rfl rfl (Nat.le_of_ble_eq_true rfl) (hFr_of (by omega) (Nat.le_of_ble_eq_true rfl)) dX6_repeats_47 (fun r23 A24 u25 S26 R27 o28 hZ29 h30 => ?_)
    refine yr_if_eq (tgt := 110) hC R27 dX6_repeats_50 (by decide) (fun c31 => ?_) (fun c31 => ?_)
    · have h32 := h30.1 c31
      refine h_aload_n hC dX6_repeats_110 rfl ?_
      refine h_iload_n hC dX6_repeats_111 rfl ?_
      refine hi_putx (i := 4) (kx := 11) hC hZ29.hi (by decide) fl_X6_31 rfl rfl rfl (Nat.le_of_ble_eq_true rfl) rfl gsame_11 (fun q => absurd q (by decide)) dX6_repeats_112 (fun F33 S34 I35 K36 s37 v38 p39 => ?_)
      have hZ40 := hZ29.put I35 K36 s37 v38 Rx3 rfl
      clear I35 K36 s37 v38 p39
      refine yr_nu o28 hZ40 (fun u41 o42 hZ43 => ?_)
      refine h_iload_n hC dX6_repeats_115 rfl ?_
      exact h_xret (yr_iret hC hr o42 hZ43 Rx2 h32 dX6_repeats_116)
    · have h44 := h30.2 c31
      refine h_aload_n hC dX6_repeats_53 rfl ?_
      refine yx_callv (As := []) hC hr o28 hZ29 rfl (hZ29.w.o 4 (by decide)) (cm_Parser_enter X.la d b hst hcx  hZ29.rs h44) cl_X6_162 rfl rfl (Nat.le_of_ble_eq_true rfl) (hFr_of (by omega) (Nat.le_of_ble_eq_true rfl)) dX6_repeats_54 (fun _ _ _ ho1 hz1 he1 => yx_out hC hr ho1 hz1 hT he1) (fun A46 u47 S48 o50 hZ51 h52 => ?_)
      refine h_aload_n hC dX6_repeats_57 rfl ?_
      refine h_aload_n hC dX6_repeats_58 rfl ?_
      refine yr_callVi (As := []) hC hr o50 hZ51 rfl (hZ51.w.o 4 (by decide)) (cm_Parser_kind X.la d b  hZ51.rs h52) cl_X6_97 rfl rfl (Nat.le_of_ble_eq_true rfl) (hFr_of (by omega) (Nat.le_of_ble_eq_true rfl)) dX6_repeats_59 (fun r53 A54 u55 S56 R57 o58 hZ59 h60 => ?_)
      refine yr_callVi (As := [.int (zI r53)]) hC hr o58 hZ59 rfl (hZ59.w.o 4 (by decide)) (cm_Parser_leaf X.la d b R57 hZ59.rs h60) cl_X6_135 rfl rfl (Nat.le_of_ble_eq_true rfl) (hFr_of (by omega) (Nat.le_of_ble_eq_true rfl)) dX6_repeats_62 (fun r61 A62 u63 S64 R65 o66 hZ67 h68 => ?_)
      refine h_istore (lv' := [some (.ref (gO' Y 4)), none, some (.int (zI x2)), some (.int (zI x3)), some (.int (zI x4)), some (.int (zI r61))]) hC dX6_repeats_65 (Nat.le_of_ble_eq_true rfl) rfl rfl ?_
      refine h_aload_n hC dX6_repeats_67 rfl ?_
      refine h_get hC fl_X6_60 (hZ67.w.o 4 (by decide)) rfl dX6_repeats_68 ?_
      refine h_iload hC dX6_repeats_71 rfl ?_
      refine yr_callVi (As := [.int (zI r61)]) hC hr o66 hZ67 rfl (hZ67.w.o 2 (by decide)) (cm_Tree_kind X.la d b R65 hZ67.rs h68) cl_X6_225 rfl rfl (Nat.le_of_ble_eq_true rfl) (hFr_of (by omega) (Nat.le_of_ble_eq_true rfl)) dX6_repeats_73 (fun r69 A70 u71 S72 R73 o74 hZ75 h76 => ?_)
      refine h_bipush (v := zI 67) hC dX6_repeats_76 rfl ?_
      refine yr_icmp_eq (tgt := 94) hC R73 (by decide) dX6_repeats_78 (by decide) (fun c77 => ?_) (fun c77 => ?_)
      · have h78 := h76.1 c77
        refine h_aload_n hC dX6_repeats_94 rfl ?_
        refine h_get hC fl_X6_60 (hZ75.w.o 4 (by decide)) rfl dX6_repeats_95 ?_
        refine h_iload_n hC dX6_repeats_98 rfl ?_
        refine h_iload hC dX6_repeats_99 rfl ?_
        refine yr_callVv (As := [.int (zI x2), .int (zI r61)]) hC hr o74 hZ75 rfl (hZ75.w.o 2 (by decide)) (cm_Tree_hang X.la d b Rx2 R65 hZ75.rs h78) cl_X6_123 rfl rfl (Nat.le_of_ble_eq_true rfl) (hFr_of (by omega) (Nat.le_of_ble_eq_true rfl)) dX6_repeats_101 (fun A80 u81 S82 o84 hZ85 h86 => ?_)
        refine yr_iinc (x := x4) (lv' := [some (.ref (gO' Y 4)), none, some (.int (zI x2)), some (.int (zI x3)), some (.int (zI (x4 + 1))), some (.int (zI r61))]) hC dX6_repeats_104 rfl rfl rfl ?_
        refine h_goto (tgt := 36) hC dX6_repeats_107 (by decide) ?_
        obtain ⟨o87, h88⟩ := h86
        refine h_lv (lv' := [some (.ref (gO' Y 4)), none, some (.int (zI x2)), some (.int (zI x3)), some (.int (zI (x4 + 1))), none]) ⟨rfl, rfl, rfl, rfl, trivial⟩ ?_
        exact hk36 _ _ _ _ _ _ Rx2 Rx3 o87 o84 hZ85 h88
      · have h89 := h76.2 c77
        refine h_aload_n hC dX6_repeats_81 rfl ?_
        refine h_get hC fl_X6_60 (hZ75.w.o 4 (by decide)) rfl dX6_repeats_82 ?_
        refine h_iload hC dX6_repeats_85 rfl ?_
        refine h_aload_n hC dX6_repeats_87 rfl ?_
        refine yx_calli (As := []) hC hr o74 hZ75 rfl (hZ75.w.o 4 (by decide)) (ih.2.2.2.2.2.2.2.2.2.2.2.2.1  hZ75.rs h89) cl_X6_156 rfl rfl (Nat.le_of_ble_eq_true rfl) (hFr_of (by omega) (Nat.le_of_ble_eq_true rfl)) dX6_repeats_88 (fun _ _ _ ho1 hz1 he1 => yx_out hC hr ho1 hz1 hT he1) (fun r90 A91 u92 S93 R94 o95 hZ96 h97 => ?_)
        refine yr_callVv (As := [.int (zI r61), .int (zI r90)]) hC hr o95 hZ96 rfl (hZ96.w.o 2 (by decide)) (cm_Tree_hang X.la d b R65 R94 hZ96.rs h97) cl_X6_123 rfl rfl (Nat.le_of_ble_eq_true rfl) (hFr_of (by omega) (Nat.le_of_ble_eq_true rfl)) dX6_repeats_91 (fun A99 u100 S101 o103 hZ104 h105 => ?_)
        refine h_aload_n hC dX6_repeats_94 rfl ?_
        refine h_get hC fl_X6_60 (hZ104.w.o 4 (by decide)) rfl dX6_repeats_95 ?_
        refine h_iload_n hC dX6_repeats_98 rfl ?_
        refine h_iload hC dX6_repeats_99 rfl ?_
        refine yr_callVv (As := [.int (zI x2), .int (zI r61)]) hC hr o103 hZ104 rfl (hZ104.w.o 2 (by decide)) (cm_Tree_hang X.la d b Rx2 R65 hZ104.rs h105) cl_X6_123 rfl rfl (Nat.le_of_ble_eq_true rfl) (hFr_of (by omega) (Nat.le_of_ble_eq_true rfl)) dX6_repeats_101 (fun A107 u108 S109 o111 hZ112 h113 => ?_)
        refine yr_iinc (x := x4) (lv' := [some (.ref (gO' Y 4)), none, some (.int (zI x2)), some (.int (zI x3)), some (.int (zI (x4 + 1))), some (.int (zI r61))]) hC dX6_repeats_104 rfl rfl rfl ?_
        refine h_goto (tgt := 36) hC dX6_repeats_107 (by decide) ?_
        obtain ⟨o114, h115⟩ := h113
        refine h_lv (lv' := [some (.ref (gO' Y 4)), none, some (.int (zI x2)), some (.int (zI x3)), some (.int (zI (x4 + 1))), none]) ⟨rfl, rfl, rfl, rfl, trivial⟩ ?_
        exact hk36 _ _ _ _ _ _ Rx2 Rx3 o114 o111 hZ112 h115
theorem cl_Parser_repeats_36 {X : gX} {d : gD} {b : Nat} {Y : gYt} {c : Nat × Nat} {F0 : gM} {S0 : gSt} {mc ms : Nat} {rec : Nat → Int → Int → Int → cS → (Int → cS → Prop) → (cS → Prop) → Prop} {lv0 : Nat} (hC : gC RX6 cX6_repeats 6 (some .int) "repeats" (gR (9 + lv0 + 1) mc ms) d b X) (hr : hRm X b) (hst : X.la.stackTraces = false) (hT : ∀ x ∈ X.co.exceptionTable.toList, False) (hcx : yCx b c) (ih : yOkP X.la d b Y c lv0 rec) {Q : Int → cS → Prop} {E : cS → Prop}   : ∀ (m : Nat) (u : hU) (S : gSt) (A0 : cS) (x2 : Int) (x3 : Int) (x4 : Int), zR x2 → zR x3 → zR x4 → yOk X b u → yZ d b Y c F0 S0 u S A0 → wc_Parser_repeats_36 rec Q E  m A0 x2 x3 x4 → yG X d b (yxQi X d b Y c F0 S0 mc ms Q E) u 36 [some (.ref (gO' Y 4)), none, some (.int (zI x2)), some (.int (zI x3)), some (.int (zI x4)), none] [] := by
  intro m
  induction m with
  | zero => intro u S A0 x2 x3 x4 Rx2 Rx3 Rx4 ho hZ hw; exact False.elim hw
  | succ m ihm => intro u S A0 x2 x3 x4 Rx2 Rx3 Rx4 ho hZ hw; exact cb_Parser_repeats_36 hC hr hst hT hcx ih  ihm Rx2 Rx3 Rx4 ho hZ hw
set_option maxHeartbeats 4000000 in
set_option maxRecDepth 100000 in
theorem cm_Parser_repeats (l : Launch) (d : gD) (b : Nat) {Y : gYt} {c : Nat × Nat} (hst : l.stackTraces = false) (hcx : yCx b c) {rec : Nat → Int → Int → Int → cS → (Int → cS → Prop) → (cS → Prop) → Prop} {lv0 : Nat} (ih : yOkP l d b Y c lv0 rec) {F : gM} {k n : Nat} {S : gSt} {A0 : cS} {a0 : Int} (Ra0 : zR a0) {Q : Int → cS → Prop} {E : cS → Prop} (hZ : yZ d b Y c F S (F, k, n) S A0) (hw : wc_Parser_repeats rec A0 a0 Q E) : hXi l d b yX6_repeats cX6_repeats 6 .int (9 + lv0 + 1) k n F [.ref (gO' Y 4), .int (zI a0)] (yPi d b Y c F S Q) "java/lang/IllegalStateException" (yPx d b Y c F S E) := by
  intro mc ms
  refine hX_of2 rfl (nL := 6) (Nat.le_of_ble_eq_true rfl) ?_
  intro X hX hT hC hr ho; subst hX
  show yG X d b (yxQi X d b Y c F S mc ms Q E) (F, k, n) 0 [some (.ref (gO' Y 4)), some (.int (zI a0)), none, none, none, none] []
  unfold wc_Parser_repeats at hw
  refine h_aload_n hC dX6_repeats_0 rfl ?_
  refine h_get hC fl_X6_60 (hZ.w.o 4 (by decide)) rfl dX6_repeats_1 ?_
  refine h_bipush (v := zI 93) hC dX6_repeats_4 rfl ?_
  refine h_aload_n hC dX6_repeats_6 rfl ?_
  refine h_get hC fl_X6_60 (hZ.w.o 4 (by decide)) rfl dX6_repeats_7 ?_
  refine h_iload_n hC dX6_repeats_10 rfl ?_
  refine yr_callVi (As := [.int (zI a0)]) hC hr ho hZ rfl (hZ.w.o 2 (by decide)) (cm_Tree_place X.la d b Ra0 hZ.rs hw) cl_X6_223 rfl rfl (Nat.le_of_ble_eq_true rfl) (hFr_of (by omega) (Nat.le_of_ble_eq_true rfl)) dX6_repeats_11 (fun r1 A2 u3 S4 R5 o6 hZ7 h8 => ?_)
  refine h_iconst (v := zI 0) hC dX6_repeats_14 rfl ?_
  refine yr_callVi (As := [.int (zI 93), .int (zI r1), .int (zI 0)]) hC hr o6 hZ7 rfl (hZ7.w.o 2 (by decide)) (cm_Tree_node X.la d b (by decide) R5 (by decide) hZ7.rs h8) cl_X6_115 rfl rfl (Nat.le_of_ble_eq_true rfl) (hFr_of (by omega) (Nat.le_of_ble_eq_true rfl)) dX6_repeats_15 (fun r9 A10 u11 S12 R13 o14 hZ15 h16 => ?_)
  refine h_istore_n (lv' := [some (.ref (gO' Y 4)), some (.int (zI a0)), some (.int (zI r9)), none, none, none]) hC dX6_repeats_18 (Nat.le_of_ble_eq_true rfl) rfl rfl ?_
  refine h_aload_n hC dX6_repeats_19 rfl ?_
  refine h_get hC fl_X6_60 (hZ15.w.o 4 (by decide)) rfl dX6_repeats_20 ?_
  refine h_iload_n hC dX6_repeats_23 rfl ?_
  refine h_iload_n hC dX6_repeats_24 rfl ?_
  refine yr_callVv (As := [.int (zI r9), .int (zI a0)]) hC hr o14 hZ15 rfl (hZ15.w.o 2 (by decide)) (cm_Tree_hang X.la d b R13 Ra0 hZ15.rs h16) cl_X6_123 rfl rfl (Nat.le_of_ble_eq_true rfl) (hFr_of (by omega) (Nat.le_of_ble_eq_true rfl)) dX6_repeats_25 (fun A18 u19 S20 o22 hZ23 h24 => ?_)
  refine h_aload_n hC dX6_repeats_28 rfl ?_
  refine h_get hC fl_X6_31 (hZ23.w.o 4 (by decide)) rfl dX6_repeats_29 ?_
  refine yr_sv (e := (yv A18 11)) hZ23 11 rfl ?_
  refine h_istore_n (lv' := [some (.ref (gO' Y 4)), some (.int (zI a0)), some (.int (zI r9)), some (.int (zI (yv A18 11))), none, none]) hC dX6_repeats_32 (Nat.le_of_ble_eq_true rfl) rfl rfl ?_
  refine h_iconst (v := zI 0) hC dX6_repeats_33 rfl ?_
  refine h_istore (lv' := [some (.ref (gO' Y 4)), some (.int (zI a0)), some (.int (zI r9)), some (.int (zI (yv A18 11))), some (.int (zI 0)), none]) hC dX6_repeats_34 (Nat.le_of_ble_eq_true rfl) rfl rfl ?_
  refine h_lv (lv' := [some (.ref (gO' Y 4)), none, some (.int (zI r9)), some (.int (zI (yv A18 11))), some (.int (zI 0)), none]) ⟨rfl, rfl, rfl, rfl, trivial⟩ ?_
  obtain ⟨m25, h26⟩ := h24
  exact cl_Parser_repeats_36 hC hr hst hT hcx ih  m25 _ _ _ _ _ _ R13 (hZ23.rv 11) (by decide) o22 hZ23 h26
theorem dX6_conditional_0 : decode cX6_conditional 0 = .ok (.aload_n 0, 1) := by decide +kernel
theorem dX6_conditional_1 : decode cX6_conditional 1 = .ok (.aload_n 0, 1) := by decide +kernel
theorem dX6_conditional_2 : decode cX6_conditional 2 = .ok (.invokevirtual 97, 3) := by decide +kernel
theorem dX6_conditional_5 : decode cX6_conditional 5 = .ok (.invokevirtual 135, 3) := by decide +kernel
theorem dX6_conditional_8 : decode cX6_conditional 8 = .ok (.istore_n 1, 1) := by decide +kernel
theorem dX6_conditional_9 : decode cX6_conditional 9 = .ok (.aload_n 0, 1) := by decide +kernel
theorem dX6_conditional_10 : decode cX6_conditional 10 = .ok (.getfield 60, 3) := by decide +kernel
theorem dX6_conditional_13 : decode cX6_conditional 13 = .ok (.iload_n 1, 1) := by decide +kernel
theorem dX6_conditional_14 : decode cX6_conditional 14 = .ok (.aload_n 0, 1) := by decide +kernel
theorem dX6_conditional_15 : decode cX6_conditional 15 = .ok (.invokevirtual 156, 3) := by decide +kernel
theorem dX6_conditional_18 : decode cX6_conditional 18 = .ok (.invokevirtual 123, 3) := by decide +kernel
theorem dX6_conditional_21 : decode cX6_conditional 21 = .ok (.aload_n 0, 1) := by decide +kernel
theorem dX6_conditional_22 : decode cX6_conditional 22 = .ok (.invokevirtual 227, 3) := by decide +kernel
theorem dX6_conditional_25 : decode cX6_conditional 25 = .ok (.aload_n 0, 1) := by decide +kernel
theorem dX6_conditional_26 : decode cX6_conditional 26 = .ok (.invokevirtual 162, 3) := by decide +kernel
theorem dX6_conditional_29 : decode cX6_conditional 29 = .ok (.aload_n 0, 1) := by decide +kernel
theorem dX6_conditional_30 : decode cX6_conditional 30 = .ok (.getfield 60, 3) := by decide +kernel
theorem dX6_conditional_33 : decode cX6_conditional 33 = .ok (.iload_n 1, 1) := by decide +kernel
theorem dX6_conditional_34 : decode cX6_conditional 34 = .ok (.aload_n 0, 1) := by decide +kernel
theorem dX6_conditional_35 : decode cX6_conditional 35 = .ok (.invokevirtual 190, 3) := by decide +kernel
theorem dX6_conditional_38 : decode cX6_conditional 38 = .ok (.invokevirtual 123, 3) := by decide +kernel
theorem dX6_conditional_41 : decode cX6_conditional 41 = .ok (.aload_n 0, 1) := by decide +kernel
theorem dX6_conditional_42 : decode cX6_conditional 42 = .ok (.dup, 1) := by decide +kernel
theorem dX6_conditional_43 : decode cX6_conditional 43 = .ok (.getfield 31, 3) := by decide +kernel
theorem dX6_conditional_46 : decode cX6_conditional 46 = .ok (.iconst 1, 1) := by decide +kernel
theorem dX6_conditional_47 : decode cX6_conditional 47 = .ok (.isub, 1) := by decide +kernel
theorem dX6_conditional_48 : decode cX6_conditional 48 = .ok (.putfield 31, 3) := by decide +kernel
theorem dX6_conditional_51 : decode cX6_conditional 51 = .ok (.aload_n 0, 1) := by decide +kernel
theorem dX6_conditional_52 : decode cX6_conditional 52 = .ok (.getfield 60, 3) := by decide +kernel
theorem dX6_conditional_55 : decode cX6_conditional 55 = .ok (.iload_n 1, 1) := by decide +kernel
theorem dX6_conditional_56 : decode cX6_conditional 56 = .ok (.invokevirtual 225, 3) := by decide +kernel
theorem dX6_conditional_59 : decode cX6_conditional 59 = .ok (.bipush 38, 2) := by decide +kernel
theorem dX6_conditional_61 : decode cX6_conditional 61 = .ok (.if_icmp .ne 35, 3) := by decide +kernel
theorem dX6_conditional_64 : decode cX6_conditional 64 = .ok (.aload_n 0, 1) := by decide +kernel
theorem dX6_conditional_65 : decode cX6_conditional 65 = .ok (.bipush 62, 2) := by decide +kernel
theorem dX6_conditional_67 : decode cX6_conditional 67 = .ok (.invokevirtual 109, 3) := by decide +kernel
theorem dX6_conditional_70 : decode cX6_conditional 70 = .ok (.aload_n 0, 1) := by decide +kernel
theorem dX6_conditional_71 : decode cX6_conditional 71 = .ok (.invokevirtual 162, 3) := by decide +kernel
theorem dX6_conditional_74 : decode cX6_conditional 74 = .ok (.aload_n 0, 1) := by decide +kernel
theorem dX6_conditional_75 : decode cX6_conditional 75 = .ok (.getfield 60, 3) := by decide +kernel
theorem dX6_conditional_78 : decode cX6_conditional 78 = .ok (.iload_n 1, 1) := by decide +kernel
theorem dX6_conditional_79 : decode cX6_conditional 79 = .ok (.aload_n 0, 1) := by decide +kernel
theorem dX6_conditional_80 : decode cX6_conditional 80 = .ok (.invokevirtual 190, 3) := by decide +kernel
theorem dX6_conditional_83 : decode cX6_conditional 83 = .ok (.invokevirtual 123, 3) := by decide +kernel
theorem dX6_conditional_86 : decode cX6_conditional 86 = .ok (.aload_n 0, 1) := by decide +kernel
theorem dX6_conditional_87 : decode cX6_conditional 87 = .ok (.dup, 1) := by decide +kernel
theorem dX6_conditional_88 : decode cX6_conditional 88 = .ok (.getfield 31, 3) := by decide +kernel
theorem dX6_conditional_91 : decode cX6_conditional 91 = .ok (.iconst 1, 1) := by decide +kernel
theorem dX6_conditional_92 : decode cX6_conditional 92 = .ok (.isub, 1) := by decide +kernel
theorem dX6_conditional_93 : decode cX6_conditional 93 = .ok (.putfield 31, 3) := by decide +kernel
theorem dX6_conditional_96 : decode cX6_conditional 96 = .ok (.iload_n 1, 1) := by decide +kernel
theorem dX6_conditional_97 : decode cX6_conditional 97 = .ok (.ireturn, 1) := by decide +kernel
def wc_Parser_conditional (rec : Nat → Int → Int → Int → cS → (Int → cS → Prop) → (cS → Prop) → Prop) (A0 : cS)  (Q : Int → cS → Prop) (E : cS → Prop) : Prop :=
  wc_Parser_kind A0  (fun r1 A2 => wc_Parser_leaf A2 r1 (fun r9 A10 => rec 12 0 0 0 A10 (fun r17 A18 => wc_Tree_hang A18 r9 r17 (fun A26 => wc_Parser_passDo A26  (fun A34 => wc_Parser_enter A34  (fun A42 => rec 6 0 0 0 A42 (fun r49 A50 => wc_Tree_hang A50 r9 r49 (fun A58 => (zR ((yv A58 11) - 1)) ∧ wc_Tree_kind (ypv A58 11 ((yv A58 11) - 1)) r9 (fun r78 A79 => ((¬ r78 = 38 → Q r9 A79) ∧ (r78 = 38 → wc_Parser_due A79 62 (fun A90 => wc_Parser_enter A90  (fun A98 => rec 6 0 0 0 A98 (fun r105 A106 => wc_Tree_hang A106 r9 r105 (fun A114 => (zR ((yv A114 11) - 1)) ∧ Q r9 (ypv A114 11 ((yv A114 11) - 1)))) E) E) E))))) E) E) E)) E))
set_option maxHeartbeats 4000000 in
set_option maxRecDepth 100000 in
theorem cm_Parser_conditional (l : Launch) (d : gD) (b : Nat) {Y : gYt} {c : Nat × Nat} (hst : l.stackTraces = false) (hcx : yCx b c) {rec : Nat → Int → Int → Int → cS → (Int → cS → Prop) → (cS → Prop) → Prop} {lv0 : Nat} (ih : yOkP l d b Y c lv0 rec) {F : gM} {k n : Nat} {S : gSt} {A0 : cS}   {Q : Int → cS → Prop} {E : cS → Prop} (hZ : yZ d b Y c F S (F, k, n) S A0) (hw : wc_Parser_conditional rec A0  Q E) : hXi l d b yX6_conditional cX6_conditional 2 .int (9 + lv0 + 1) k n F [.ref (gO' Y 4)] (yPi d b Y c F S Q) "java/lang/IllegalStateException" (yPx d b Y c F S E) := by
  intro mc ms
  refine hX_of2 rfl (nL := 2) (Nat.le_of_ble_eq_true rfl) ?_
  intro X hX hT hC hr ho; subst hX
  show yG X d b (yxQi X d b Y c F S mc ms Q E) (F, k, n) 0 [some (.ref (gO' Y 4)), none] []
  unfold wc_Parser_conditional at hw
  refine h_aload_n hC dX6_conditional_0 rfl ?_
  refine h_aload_n hC dX6_conditional_1 rfl ?_
  refine yr_callVi (As := []) hC hr ho hZ rfl (hZ.w.o 4 (by decide)) (cm_Parser_kind X.la d b  hZ.rs hw) cl_X6_97 rfl rfl (Nat.le_of_ble_eq_true rfl) (hFr_of (by omega) (Nat.le_of_ble_eq_true rfl)) dX6_conditional_2 (fun r1 A2 u3 S4 R5 o6 hZ7 h8 => ?_)
  refine yr_callVi (As := [.int (zI r1)]) hC hr o6 hZ7 rfl (hZ7.w.o 4 (by decide)) (cm_Parser_leaf X.la d b R5 hZ7.rs h8) cl_X6_135 rfl rfl (Nat.le_of_ble_eq_true rfl) (hFr_of (by omega) (Nat.le_of_ble_eq_true rfl)) dX6_conditional_5 (fun r9 A10 u11 S12 R13 o14 hZ15 h16 => ?_)
  refine h_istore_n (lv' := [some (.ref (gO' Y 4)), some (.int (zI r9))]) hC dX6_conditional_8 (Nat.le_of_ble_eq_true rfl) rfl rfl ?_
  refine h_aload_n hC dX6_conditional_9 rfl ?_
  refine h_get hC fl_X6_60 (hZ15.w.o 4 (by decide)) rfl dX6_conditional_10 ?_
  refine h_iload_n hC dX6_conditional_13 rfl ?_
  refine h_aload_n hC dX6_conditional_14 rfl ?_
  refine yx_calli (As := []) hC hr o14 hZ15 rfl (hZ15.w.o 4 (by decide)) (ih.2.2.2.2.2.2.2.2.2.2.2.2.1  hZ15.rs h16) cl_X6_156 rfl rfl (Nat.le_of_ble_eq_true rfl) (hFr_of (by omega) (Nat.le_of_ble_eq_true rfl)) dX6_conditional_15 (fun _ _ _ ho1 hz1 he1 => yx_out hC hr ho1 hz1 hT he1) (fun r17 A18 u19 S20 R21 o22 hZ23 h24 => ?_)
  refine yr_callVv (As := [.int (zI r9), .int (zI r17)]) hC hr o22 hZ23 rfl (hZ23.w.o 2 (by decide)) (cm_Tree_hang X.la d b R13 R21 hZ23.rs h24) cl_X6_123 rfl rfl (Nat.le_of_ble_eq_true rfl) (hFr_of (by omega) (Nat.le_of_ble_eq_true rfl)) dX6_conditional_18 (fun A26 u27 S28 o30 hZ31 h32 => ?_)
  refine h_aload_n hC dX6_conditional_21 rfl ?_
  refine yx_callv (As := []) hC hr o30 hZ31 rfl (hZ31.w.o 4 (by decide)) (cm_Parser_passDo X.la d b hst hcx  hZ31.rs h32) cl_X6_227 rfl rfl (Nat.le_of_ble_eq_true rfl) (hFr_of (by omega) (Nat.le_of_ble_eq_true rfl)) dX6_conditional_22 (fun _ _ _ ho1 hz1 he1 => yx_out hC hr ho1 hz1 hT he1) (fun A34 u35 S36 o38 hZ39 h40 => ?_)
  refine h_aload_n hC dX6_conditional_25 rfl ?_
  refine yx_callv (As := []) hC hr o38 hZ39 rfl (hZ39.w.o 4 (by decide)) (cm_Parser_enter X.la d b hst hcx  hZ39.rs h40) cl_X6_162 rfl rfl (Nat.le_of_ble_eq_true rfl) (hFr_of (by omega) (Nat.le_of_ble_eq_true rfl)) dX6_conditional_26 (fun _ _ _ ho1 hz1 he1 => yx_out hC hr ho1 hz1 hT he1) (fun A42 u43 S44 o46 hZ47 h48 => ?_)
  refine h_aload_n hC dX6_conditional_29 rfl ?_
  refine h_get hC fl_X6_60 (hZ47.w.o 4 (by decide)) rfl dX6_conditional_30 ?_
  refine h_iload_n hC dX6_conditional_33 rfl ?_
  refine h_aload_n hC dX6_conditional_34 rfl ?_
  refine yx_calli (As := []) hC hr o46 hZ47 rfl (hZ47.w.o 4 (by decide)) (ih.2.2.2.2.2.2.1  hZ47.rs h48) cl_X6_190 rfl rfl (Nat.le_of_ble_eq_true rfl) (hFr_of (by omega) (Nat.le_of_ble_eq_true rfl)) dX6_conditional_35 (fun _ _ _ ho1 hz1 he1 => yx_out hC hr ho1 hz1 hT he1) (fun r49 A50 u51 S52 R53 o54 hZ55 h56 => ?_)
  refine yr_callVv (As := [.int (zI r9), .int (zI r49)]) hC hr o54 hZ55 rfl (hZ55.w.o 2 (by decide)) (cm_Tree_hang X.la d b R13 R53 hZ55.rs h56) cl_X6_123 rfl rfl (Nat.le_of_ble_eq_true rfl) (hFr_of (by omega) (Nat.le_of_ble_eq_true rfl)) dX6_conditional_38 (fun A58 u59 S60 o62 hZ63 h64 => ?_)
  refine h_aload_n hC dX6_conditional_41 rfl ?_
  refine h_dup hC dX6_conditional_42 rfl ?_
  refine h_get hC fl_X6_31 (hZ63.w.o 4 (by decide)) rfl dX6_conditional_43 ?_
  refine yr_sv (e := (yv A58 11)) hZ63 11 rfl ?_
  refine h_iconst (v := zI 1) hC dX6_conditional_46 rfl ?_
  refine yr_isub hC dX6_conditional_47 ?_
  obtain ⟨o65, h66⟩ := h64
  refine hi_putx (i := 4) (kx := 11) hC hZ63.hi (by decide) fl_X6_31 rfl rfl rfl (Nat.le_of_ble_eq_true rfl) rfl gsame_11 (fun q => absurd q (by decide)) dX6_conditional_48 (fun F67 S68 I69 K70 s71 v72 p73 => ?_)
  have hZ74 := hZ63.put I69 K70 s71 v72 o65 rfl
  clear I69 K70 s71 v72 p73
  refine yr_nu o62 hZ74 (fun u75 o76 hZ77 => ?_)
  refine h_aload_n hC dX6_conditional_51 rfl ?_
  refine h_get hC fl_X6_60 (hZ77.w.o 4 (by decide)) rfl dX6_conditional_52 ?_
  refine h_iload_n hC dX6_conditional_55 rfl ?_
  refine yr_callVi (As := [.int (zI r9)]) hC hr o76 hZ77 rfl (hZ77.w.o 2 (by decide)) (cm_Tree_kind X.la d b R13 hZ77.rs h66) cl_X6_225 rfl rfl (Nat.le_of_ble_eq_true rfl) (hFr_of (by omega) (Nat.le_of_ble_eq_true rfl)) dX6_conditional_56 (fun r78 A79 u80 S81 R82 o83 hZ84 h85 => ?_)
  refine h_bipush (v := zI 38) hC dX6_conditional_59 rfl ?_
  refine yr_icmp_ne (tgt := 96) hC R82 (by decide) dX6_conditional_61 (by decide) (fun c86 => ?_) (fun c86 => ?_)
  · have h87 := h85.1 c86
    refine h_iload_n hC dX6_conditional_96 rfl ?_
    exact h_xret (yr_iret hC hr o83 hZ84 R13 h87 dX6_conditional_97)
  · have h88 := h85.2 c86
    refine h_aload_n hC dX6_conditional_64 rfl ?_
    refine h_bipush (v := zI 62) hC dX6_conditional_65 rfl ?_
    refine yx_callv (As := [.int (zI 62)]) hC hr o83 hZ84 rfl (hZ84.w.o 4 (by decide)) (cm_Parser_due X.la d b hst hcx (by decide) hZ84.rs h88) cl_X6_109 rfl rfl (Nat.le_of_ble_eq_true rfl) (hFr_of (by omega) (Nat.le_of_ble_eq_true rfl)) dX6_conditional_67 (fun _ _ _ ho1 hz1 he1 => yx_out hC hr ho1 hz1 hT he1) (fun A90 u91 S92 o94 hZ95 h96 => ?_)
    refine h_aload_n hC dX6_conditional_70 rfl ?_
    refine yx_callv (As := []) hC hr o94 hZ95 rfl (hZ95.w.o 4 (by decide)) (cm_Parser_enter X.la d b hst hcx  hZ95.rs h96) cl_X6_162 rfl rfl (Nat.le_of_ble_eq_true rfl) (hFr_of (by omega) (Nat.le_of_ble_eq_true rfl)) dX6_conditional_71 (fun _ _ _ ho1 hz1 he1 => yx_out hC hr ho1 hz1 hT he1) (fun A98 u99 S100 o102 hZ103 h104 => ?_)
    refine h_aload_n hC dX6_conditional_74 rfl ?_
    refine h_get hC fl_X6_60 (hZ103.w.o 4 (by decide)) rfl dX6_conditional_75 ?_
    refine h_iload_n hC dX6_conditional_78 rfl ?_
    refine h_aload_n hC dX6_conditional_79 rfl ?_
    refine yx_calli (As := []) hC hr o102 hZ103 rfl (hZ103.w.o 4 (by decide)) (ih.2.2.2.2.2.2.1  hZ103.rs h104) cl_X6_190 rfl rfl (Nat.le_of_ble_eq_true rfl) (hFr_of (by omega) (Nat.le_of_ble_eq_true rfl)) dX6_conditional_80 (fun _ _ _ ho1 hz1 he1 => yx_out hC hr ho1 hz1 hT he1) (fun r105 A106 u107 S108 R109 o110 hZ111 h112 => ?_)
    refine yr_callVv (As := [.int (zI r9), .int (zI r105)]) hC hr o110 hZ111 rfl (hZ111.w.o 2 (by decide)) (cm_Tree_hang X.la d b R13 R109 hZ111.rs h112) cl_X6_123 rfl rfl (Nat.le_of_ble_eq_true rfl) (hFr_of (by omega) (Nat.le_of_ble_eq_true rfl)) dX6_conditional_83 (fun A114 u115 S116 o118 hZ119 h120 => ?_)
    refine h_aload_n hC dX6_conditional_86 rfl ?_
    refine h_dup hC dX6_conditional_87 rfl ?_
    refine h_get hC fl_X6_31 (hZ119.w.o 4 (by decide)) rfl dX6_conditional_88 ?_
    refine yr_sv (e := (yv A114 11)) hZ119 11 rfl ?_
    refine h_iconst (v := zI 1) hC dX6_conditional_91 rfl ?_
    refine yr_isub hC dX6_conditional_92 ?_
    obtain ⟨o121, h122⟩ := h120
    refine hi_putx (i := 4) (kx := 11) hC hZ119.hi (by decide) fl_X6_31 rfl rfl rfl (Nat.le_of_ble_eq_true rfl) rfl gsame_11 (fun q => absurd q (by decide)) dX6_conditional_93 (fun F123 S124 I125 K126 s127 v128 p129 => ?_)
    have hZ130 := hZ119.put I125 K126 s127 v128 o121 rfl
    clear I125 K126 s127 v128 p129
    refine yr_nu o118 hZ130 (fun u131 o132 hZ133 => ?_)
    refine h_iload_n hC dX6_conditional_96 rfl ?_
    exact h_xret (yr_iret hC hr o132 hZ133 R13 h122 dX6_conditional_97)
theorem dX6_counting_0 : decode cX6_counting 0 = .ok (.aload_n 0, 1) := by decide +kernel
theorem dX6_counting_1 : decode cX6_counting 1 = .ok (.bipush 41, 2) := by decide +kernel
theorem dX6_counting_3 : decode cX6_counting 3 = .ok (.invokevirtual 135, 3) := by decide +kernel
theorem dX6_counting_6 : decode cX6_counting 6 = .ok (.istore_n 1, 1) := by decide +kernel
theorem dX6_counting_7 : decode cX6_counting 7 = .ok (.aload_n 0, 1) := by decide +kernel
theorem dX6_counting_8 : decode cX6_counting 8 = .ok (.getfield 60, 3) := by decide +kernel
theorem dX6_counting_11 : decode cX6_counting 11 = .ok (.iload_n 1, 1) := by decide +kernel
theorem dX6_counting_12 : decode cX6_counting 12 = .ok (.aload_n 0, 1) := by decide +kernel
theorem dX6_counting_13 : decode cX6_counting 13 = .ok (.invokevirtual 141, 3) := by decide +kernel
theorem dX6_counting_16 : decode cX6_counting 16 = .ok (.invokevirtual 193, 3) := by decide +kernel
theorem dX6_counting_19 : decode cX6_counting 19 = .ok (.aload_n 0, 1) := by decide +kernel
theorem dX6_counting_20 : decode cX6_counting 20 = .ok (.bipush 20, 2) := by decide +kernel
theorem dX6_counting_22 : decode cX6_counting 22 = .ok (.invokevirtual 109, 3) := by decide +kernel
theorem dX6_counting_25 : decode cX6_counting 25 = .ok (.aload_n 0, 1) := by decide +kernel
theorem dX6_counting_26 : decode cX6_counting 26 = .ok (.getfield 60, 3) := by decide +kernel
theorem dX6_counting_29 : decode cX6_counting 29 = .ok (.iload_n 1, 1) := by decide +kernel
theorem dX6_counting_30 : decode cX6_counting 30 = .ok (.aload_n 0, 1) := by decide +kernel
theorem dX6_counting_31 : decode cX6_counting 31 = .ok (.invokevirtual 156, 3) := by decide +kernel
theorem dX6_counting_34 : decode cX6_counting 34 = .ok (.invokevirtual 123, 3) := by decide +kernel
theorem dX6_counting_37 : decode cX6_counting 37 = .ok (.aload_n 0, 1) := by decide +kernel
theorem dX6_counting_38 : decode cX6_counting 38 = .ok (.bipush 64, 2) := by decide +kernel
theorem dX6_counting_40 : decode cX6_counting 40 = .ok (.invokevirtual 109, 3) := by decide +kernel
theorem dX6_counting_43 : decode cX6_counting 43 = .ok (.aload_n 0, 1) := by decide +kernel
theorem dX6_counting_44 : decode cX6_counting 44 = .ok (.getfield 60, 3) := by decide +kernel
theorem dX6_counting_47 : decode cX6_counting 47 = .ok (.iload_n 1, 1) := by decide +kernel
theorem dX6_counting_48 : decode cX6_counting 48 = .ok (.aload_n 0, 1) := by decide +kernel
theorem dX6_counting_49 : decode cX6_counting 49 = .ok (.invokevirtual 156, 3) := by decide +kernel
theorem dX6_counting_52 : decode cX6_counting 52 = .ok (.invokevirtual 123, 3) := by decide +kernel
theorem dX6_counting_55 : decode cX6_counting 55 = .ok (.aload_n 0, 1) := by decide +kernel
theorem dX6_counting_56 : decode cX6_counting 56 = .ok (.invokevirtual 97, 3) := by decide +kernel
theorem dX6_counting_59 : decode cX6_counting 59 = .ok (.bipush 65, 2) := by decide +kernel
theorem dX6_counting_61 : decode cX6_counting 61 = .ok (.if_icmp .ne 19, 3) := by decide +kernel
theorem dX6_counting_64 : decode cX6_counting 64 = .ok (.aload_n 0, 1) := by decide +kernel
theorem dX6_counting_65 : decode cX6_counting 65 = .ok (.invokevirtual 103, 3) := by decide +kernel
theorem dX6_counting_68 : decode cX6_counting 68 = .ok (.aload_n 0, 1) := by decide +kernel
theorem dX6_counting_69 : decode cX6_counting 69 = .ok (.getfield 60, 3) := by decide +kernel
theorem dX6_counting_72 : decode cX6_counting 72 = .ok (.iload_n 1, 1) := by decide +kernel
theorem dX6_counting_73 : decode cX6_counting 73 = .ok (.aload_n 0, 1) := by decide +kernel
theorem dX6_counting_74 : decode cX6_counting 74 = .ok (.invokevirtual 156, 3) := by decide +kernel
theorem dX6_counting_77 : decode cX6_counting 77 = .ok (.invokevirtual 153, 3) := by decide +kernel
theorem dX6_counting_80 : decode cX6_counting 80 = .ok (.aload_n 0, 1) := by decide +kernel
theorem dX6_counting_81 : decode cX6_counting 81 = .ok (.invokevirtual 227, 3) := by decide +kernel
theorem dX6_counting_84 : decode cX6_counting 84 = .ok (.aload_n 0, 1) := by decide +kernel
theorem dX6_counting_85 : decode cX6_counting 85 = .ok (.invokevirtual 162, 3) := by decide +kernel
theorem dX6_counting_88 : decode cX6_counting 88 = .ok (.aload_n 0, 1) := by decide +kernel
theorem dX6_counting_89 : decode cX6_counting 89 = .ok (.getfield 60, 3) := by decide +kernel
theorem dX6_counting_92 : decode cX6_counting 92 = .ok (.iload_n 1, 1) := by decide +kernel
theorem dX6_counting_93 : decode cX6_counting 93 = .ok (.aload_n 0, 1) := by decide +kernel
theorem dX6_counting_94 : decode cX6_counting 94 = .ok (.invokevirtual 190, 3) := by decide +kernel
theorem dX6_counting_97 : decode cX6_counting 97 = .ok (.invokevirtual 123, 3) := by decide +kernel
theorem dX6_counting_100 : decode cX6_counting 100 = .ok (.aload_n 0, 1) := by decide +kernel
theorem dX6_counting_101 : decode cX6_counting 101 = .ok (.dup, 1) := by decide +kernel
theorem dX6_counting_102 : decode cX6_counting 102 = .ok (.getfield 31, 3) := by decide +kernel
theorem dX6_counting_105 : decode cX6_counting 105 = .ok (.iconst 1, 1) := by decide +kernel
theorem dX6_counting_106 : decode cX6_counting 106 = .ok (.isub, 1) := by decide +kernel
theorem dX6_counting_107 : decode cX6_counting 107 = .ok (.putfield 31, 3) := by decide +kernel
theorem dX6_counting_110 : decode cX6_counting 110 = .ok (.iload_n 1, 1) := by decide +kernel
theorem dX6_counting_111 : decode cX6_counting 111 = .ok (.ireturn, 1) := by decide +kernel
def wc_Parser_counting (rec : Nat → Int → Int → Int → cS → (Int → cS → Prop) → (cS → Prop) → Prop) (A0 : cS)  (Q : Int → cS → Prop) (E : cS → Prop) : Prop :=
  wc_Parser_leaf A0 41 (fun r1 A2 => wc_Parser_nameDue A2  (fun r9 A10 => wc_Tree_setData A10 r1 r9 (fun A18 => wc_Parser_due A18 20 (fun A26 => rec 12 0 0 0 A26 (fun r33 A34 => wc_Tree_hang A34 r1 r33 (fun A42 => wc_Parser_due A42 64 (fun A50 => rec 12 0 0 0 A50 (fun r57 A58 => wc_Tree_hang A58 r1 r57 (fun A66 => wc_Parser_kind A66  (fun r73 A74 => ((¬ r73 = 65 → wc_Parser_passDo A74  (fun A84 => wc_Parser_enter A84  (fun A92 => rec 6 0 0 0 A92 (fun r99 A100 => wc_Tree_hang A100 r1 r99 (fun A108 => (zR ((yv A108 11) - 1)) ∧ Q r1 (ypv A108 11 ((yv A108 11) - 1)))) E) E) E) ∧ (r73 = 65 → wc_Parser_advance A74  (fun A130 => rec 12 0 0 0 A130 (fun r137 A138 => wc_Tree_setExtra A138 r1 r137 (fun A146 => wc_Parser_passDo A146  (fun A154 => wc_Parser_enter A154  (fun A162 => rec 6 0 0 0 A162 (fun r169 A170 => wc_Tree_hang A170 r1 r169 (fun A178 => (zR ((yv A178 11) - 1)) ∧ Q r1 (ypv A178 11 ((yv A178 11) - 1)))) E) E) E)) E)))))) E) E)) E) E)) E)
set_option maxHeartbeats 4000000 in
set_option maxRecDepth 100000 in
theorem cm_Parser_counting (l : Launch) (d : gD) (b : Nat) {Y : gYt} {c : Nat × Nat} (hst : l.stackTraces = false) (hcx : yCx b c) {rec : Nat → Int → Int → Int → cS → (Int → cS → Prop) → (cS → Prop) → Prop} {lv0 : Nat} (ih : yOkP l d b Y c lv0 rec) {F : gM} {k n : Nat} {S : gSt} {A0 : cS}   {Q : Int → cS → Prop} {E : cS → Prop} (hZ : yZ d b Y c F S (F, k, n) S A0) (hw : wc_Parser_counting rec A0  Q E) : hXi l d b yX6_counting cX6_counting 2 .int (9 + lv0 + 1) k n F [.ref (gO' Y 4)] (yPi d b Y c F S Q) "java/lang/IllegalStateException" (yPx d b Y c F S E) := by
  intro mc ms
  refine hX_of2 rfl (nL := 2) (Nat.le_of_ble_eq_true rfl) ?_
  intro X hX hT hC hr ho; subst hX
  show yG X d b (yxQi X d b Y c F S mc ms Q E) (F, k, n) 0 [some (.ref (gO' Y 4)), none] []
  unfold wc_Parser_counting at hw
  refine h_aload_n hC dX6_counting_0 rfl ?_
  refine h_bipush (v := zI 41) hC dX6_counting_1 rfl ?_
  refine yr_callVi (As := [.int (zI 41)]) hC hr ho hZ rfl (hZ.w.o 4 (by decide)) (cm_Parser_leaf X.la d b (by decide) hZ.rs hw) cl_X6_135 rfl rfl (Nat.le_of_ble_eq_true rfl) (hFr_of (by omega) (Nat.le_of_ble_eq_true rfl)) dX6_counting_3 (fun r1 A2 u3 S4 R5 o6 hZ7 h8 => ?_)
  refine h_istore_n (lv' := [some (.ref (gO' Y 4)), some (.int (zI r1))]) hC dX6_counting_6 (Nat.le_of_ble_eq_true rfl) rfl rfl ?_
  refine h_aload_n hC dX6_counting_7 rfl ?_
  refine h_get hC fl_X6_60 (hZ7.w.o 4 (by decide)) rfl dX6_counting_8 ?_
  refine h_iload_n hC dX6_counting_11 rfl ?_
  refine h_aload_n hC dX6_counting_12 rfl ?_
  refine yx_calli (As := []) hC hr o6 hZ7 rfl (hZ7.w.o 4 (by decide)) (cm_Parser_nameDue X.la d b hst hcx  hZ7.rs h8) cl_X6_141 rfl rfl (Nat.le_of_ble_eq_true rfl) (hFr_of (by omega) (Nat.le_of_ble_eq_true rfl)) dX6_counting_13 (fun _ _ _ ho1 hz1 he1 => yx_out hC hr ho1 hz1 hT he1) (fun r9 A10 u11 S12 R13 o14 hZ15 h16 => ?_)
  refine yr_callVv (As := [.int (zI r1), .int (zI r9)]) hC hr o14 hZ15 rfl (hZ15.w.o 2 (by decide)) (cm_Tree_setData X.la d b R5 R13 hZ15.rs h16) cl_X6_193 rfl rfl (Nat.le_of_ble_eq_true rfl) (hFr_of (by omega) (Nat.le_of_ble_eq_true rfl)) dX6_counting_16 (fun A18 u19 S20 o22 hZ23 h24 => ?_)
  refine h_aload_n hC dX6_counting_19 rfl ?_
  refine h_bipush (v := zI 20) hC dX6_counting_20 rfl ?_
  refine yx_callv (As := [.int (zI 20)]) hC hr o22 hZ23 rfl (hZ23.w.o 4 (by decide)) (cm_Parser_due X.la d b hst hcx (by decide) hZ23.rs h24) cl_X6_109 rfl rfl (Nat.le_of_ble_eq_true rfl) (hFr_of (by omega) (Nat.le_of_ble_eq_true rfl)) dX6_counting_22 (fun _ _ _ ho1 hz1 he1 => yx_out hC hr ho1 hz1 hT he1) (fun A26 u27 S28 o30 hZ31 h32 => ?_)
  refine h_aload_n hC dX6_counting_25 rfl ?_
  refine h_get hC fl_X6_60 (hZ31.w.o 4 (by decide)) rfl dX6_counting_26 ?_
  refine h_iload_n hC dX6_counting_29 rfl ?_
  refine h_aload_n hC dX6_counting_30 rfl ?_
  refine yx_calli (As := []) hC hr o30 hZ31 rfl (hZ31.w.o 4 (by decide)) (ih.2.2.2.2.2.2.2.2.2.2.2.2.1  hZ31.rs h32) cl_X6_156 rfl rfl (Nat.le_of_ble_eq_true rfl) (hFr_of (by omega) (Nat.le_of_ble_eq_true rfl)) dX6_counting_31 (fun _ _ _ ho1 hz1 he1 => yx_out hC hr ho1 hz1 hT he1) (fun r33 A34 u35 S36 R37 o38 hZ39 h40 => ?_)
  refine yr_callVv (As := [.int (zI r1), .int (zI r33)]) hC hr o38 hZ39 rfl (hZ39.w.o 2 (by decide)) (cm_Tree_hang X.la d b R5 R37 hZ39.rs h40) cl_X6_123 rfl rfl (Nat.le_of_ble_eq_true rfl) (hFr_of (by omega) (Nat.le_of_ble_eq_true rfl)) dX6_counting_34 (fun A42 u43 S44 o46 hZ47 h48 => ?_)
  refine h_aload_n hC dX6_counting_37 rfl ?_
  refine h_bipush (v := zI 64) hC dX6_counting_38 rfl ?_
  refine yx_callv (As := [.int (zI 64)]) hC hr o46 hZ47 rfl (hZ47.w.o 4 (by decide)) (cm_Parser_due X.la d b hst hcx (by decide) hZ47.rs h48) cl_X6_109 rfl rfl (Nat.le_of_ble_eq_true rfl) (hFr_of (by omega) (Nat.le_of_ble_eq_true rfl)) dX6_counting_40 (fun _ _ _ ho1 hz1 he1 => yx_out hC hr ho1 hz1 hT he1) (fun A50 u51 S52 o54 hZ55 h56 => ?_)
  refine h_aload_n hC dX6_counting_43 rfl ?_
  refine h_get hC fl_X6_60 (hZ55.w.o 4 (by decide)) rfl dX6_counting_44 ?_
  refine h_iload_n hC dX6_counting_47 rfl ?_
  refine h_aload_n hC dX6_counting_48 rfl ?_
  refine yx_calli (As := []) hC hr o54 hZ55 rfl (hZ55.w.o 4 (by decide)) (ih.2.2.2.2.2.2.2.2.2.2.2.2.1  hZ55.rs h56) cl_X6_156 rfl rfl (Nat.le_of_ble_eq_true rfl) (hFr_of (by omega) (Nat.le_of_ble_eq_true rfl)) dX6_counting_49 (fun _ _ _ ho1 hz1 he1 => yx_out hC hr ho1 hz1 hT he1) (fun r57 A58 u59 S60 R61 o62 hZ63 h64 => ?_)
  refine yr_callVv (As := [.int (zI r1), .int (zI r57)]) hC hr o62 hZ63 rfl (hZ63.w.o 2 (by decide)) (cm_Tree_hang X.la d b R5 R61 hZ63.rs h64) cl_X6_123 rfl rfl (Nat.le_of_ble_eq_true rfl) (hFr_of (by omega) (Nat.le_of_ble_eq_true rfl)) dX6_counting_52 (fun A66 u67 S68 o70 hZ71 h72 => ?_)
  refine h_aload_n hC dX6_counting_55 rfl ?_
  refine yr_callVi (As := []) hC hr o70 hZ71 rfl (hZ71.w.o 4 (by decide)) (cm_Parser_kind X.la d b  hZ71.rs h72) cl_X6_97 rfl rfl (Nat.le_of_ble_eq_true rfl) (hFr_of (by omega) (Nat.le_of_ble_eq_true rfl)) dX6_counting_56 (fun r73 A74 u75 S76 R77 o78 hZ79 h80 => ?_)
  refine h_bipush (v := zI 65) hC dX6_counting_59 rfl ?_
  refine yr_icmp_ne (tgt := 80) hC R77 (by decide) dX6_counting_61 (by decide) (fun c81 => ?_) (fun c81 => ?_)
  · have h82 := h80.1 c81
    refine h_aload_n hC dX6_counting_80 rfl ?_
    refine yx_callv (As := []) hC hr o78 hZ79 rfl (hZ79.w.o 4 (by decide)) (cm_Parser_passDo X.la d b hst hcx  hZ79.rs h82) cl_X6_227 rfl rfl (Nat.le_of_ble_eq_true rfl) (hFr_of (by omega) (Nat.le_of_ble_eq_true rfl)) dX6_counting_81 (fun _ _ _ ho1 hz1 he1 => yx_out hC hr ho1 hz1 hT he1) (fun A84 u85 S86 o88 hZ89 h90 => ?_)
    refine h_aload_n hC dX6_counting_84 rfl ?_
    refine yx_callv (As := []) hC hr o88 hZ89 rfl (hZ89.w.o 4 (by decide)) (cm_Parser_enter X.la d b hst hcx  hZ89.rs h90) cl_X6_162 rfl rfl (Nat.le_of_ble_eq_true rfl) (hFr_of (by omega) (Nat.le_of_ble_eq_true rfl)) dX6_counting_85 (fun _ _ _ ho1 hz1 he1 => yx_out hC hr ho1 hz1 hT he1) (fun A92 u93 S94 o96 hZ97 h98 => ?_)
    refine h_aload_n hC dX6_counting_88 rfl ?_
    refine h_get hC fl_X6_60 (hZ97.w.o 4 (by decide)) rfl dX6_counting_89 ?_
    refine h_iload_n hC dX6_counting_92 rfl ?_
    refine h_aload_n hC dX6_counting_93 rfl ?_
    refine yx_calli (As := []) hC hr o96 hZ97 rfl (hZ97.w.o 4 (by decide)) (ih.2.2.2.2.2.2.1  hZ97.rs h98) cl_X6_190 rfl rfl (Nat.le_of_ble_eq_true rfl) (hFr_of (by omega) (Nat.le_of_ble_eq_true rfl)) dX6_counting_94 (fun _ _ _ ho1 hz1 he1 => yx_out hC hr ho1 hz1 hT he1) (fun r99 A100 u101 S102 R103 o104 hZ105 h106 => ?_)
    refine yr_callVv (As := [.int (zI r1), .int (zI r99)]) hC hr o104 hZ105 rfl (hZ105.w.o 2 (by decide)) (cm_Tree_hang X.la d b R5 R103 hZ105.rs h106) cl_X6_123 rfl rfl (Nat.le_of_ble_eq_true rfl) (hFr_of (by omega) (Nat.le_of_ble_eq_true rfl)) dX6_counting_97 (fun A108 u109 S110 o112 hZ113 h114 => ?_)
    refine h_aload_n hC dX6_counting_100 rfl ?_
    refine h_dup hC dX6_counting_101 rfl ?_
    refine h_get hC fl_X6_31 (hZ113.w.o 4 (by decide)) rfl dX6_counting_102 ?_
    refine yr_sv (e := (yv A108 11)) hZ113 11 rfl ?_
    refine h_iconst (v := zI 1) hC dX6_counting_105 rfl ?_
    refine yr_isub hC dX6_counting_106 ?_
    obtain ⟨o115, h116⟩ := h114
    refine hi_putx (i := 4) (kx := 11) hC hZ113.hi (by decide) fl_X6_31 rfl rfl rfl (Nat.le_of_ble_eq_true rfl) rfl gsame_11 (fun q => absurd q (by decide)) dX6_counting_107 (fun F117 S118 I119 K120 s121 v122 p123 => ?_)
    have hZ124 := hZ113.put I119 K120 s121 v122 o115 rfl
    clear I119 K120 s121 v122 p123
    refine yr_nu o112 hZ124 (fun u125 o126 hZ127 => ?_)
    refine h_iload_n hC dX6_counting_110 rfl ?_
    exact h_xret (yr_iret hC hr o126 hZ127 R5 h116 dX6_counting_111)
  · have h128 := h80.2 c81
    refine h_aload_n hC dX6_counting_64 rfl ?_
    refine yr_callVv (As := []) hC hr o78 hZ79 rfl (hZ79.w.o 4 (by decide)) (cm_Parser_advance X.la d b  hZ79.rs h128) cl_X6_103 rfl rfl (Nat.le_of_ble_eq_true rfl) (hFr_of (by omega) (Nat.le_of_ble_eq_true rfl)) dX6_counting_65 (fun A130 u131 S132 o134 hZ135 h136 => ?_)
    refine h_aload_n hC dX6_counting_68 rfl ?_
    refine h_get hC fl_X6_60 (hZ135.w.o 4 (by decide)) rfl dX6_counting_69 ?_
    refine h_iload_n hC dX6_counting_72 rfl ?_
    refine h_aload_n hC dX6_counting_73 rfl ?_
    refine yx_calli (As := []) hC hr o134 hZ135 rfl (hZ135.w.o 4 (by decide)) (ih.2.2.2.2.2.2.2.2.2.2.2.2.1  hZ135.rs h136) cl_X6_156 rfl rfl (Nat.le_of_ble_eq_true rfl) (hFr_of (by omega) (Nat.le_of_ble_eq_true rfl)) dX6_counting_74 (fun _ _ _ ho1 hz1 he1 => yx_out hC hr ho1 hz1 hT he1) (fun r137 A138 u139 S140 R141 o142 hZ143 h144 => ?_)
    refine yr_callVv (As := [.int (zI r1), .int (zI r137)]) hC hr o142 hZ143 rfl (hZ143.w.o 2 (by decide)) (cm_Tree_setExtra X.la d b R5 R141 hZ143.rs h144) cl_X6_153 rfl rfl (Nat.le_of_ble_eq_true rfl) (hFr_of (by omega) (Nat.le_of_ble_eq_true rfl)) dX6_counting_77 (fun A146 u147 S148 o150 hZ151 h152 => ?_)
    refine h_aload_n hC dX6_counting_80 rfl ?_
    refine yx_callv (As := []) hC hr o150 hZ151 rfl (hZ151.w.o 4 (by decide)) (cm_Parser_passDo X.la d b hst hcx  hZ151.rs h152) cl_X6_227 rfl rfl (Nat.le_of_ble_eq_true rfl) (hFr_of (by omega) (Nat.le_of_ble_eq_true rfl)) dX6_counting_81 (fun _ _ _ ho1 hz1 he1 => yx_out hC hr ho1 hz1 hT he1) (fun A154 u155 S156 o158 hZ159 h160 => ?_)
    refine h_aload_n hC dX6_counting_84 rfl ?_
    refine yx_callv (As := []) hC hr o158 hZ159 rfl (hZ159.w.o 4 (by decide)) (cm_Parser_enter X.la d b hst hcx  hZ159.rs h160) cl_X6_162 rfl rfl (Nat.le_of_ble_eq_true rfl) (hFr_of (by omega) (Nat.le_of_ble_eq_true rfl)) dX6_counting_85 (fun _ _ _ ho1 hz1 he1 => yx_out hC hr ho1 hz1 hT he1) (fun A162 u163 S164 o166 hZ167 h168 => ?_)
    refine h_aload_n hC dX6_counting_88 rfl ?_
    refine h_get hC fl_X6_60 (hZ167.w.o 4 (by decide)) rfl dX6_counting_89 ?_
    refine h_iload_n hC dX6_counting_92 rfl ?_
    refine h_aload_n hC dX6_counting_93 rfl ?_
    refine yx_calli (As := []) hC hr o166 hZ167 rfl (hZ167.w.o 4 (by decide)) (ih.2.2.2.2.2.2.1  hZ167.rs h168) cl_X6_190 rfl rfl (Nat.le_of_ble_eq_true rfl) (hFr_of (by omega) (Nat.le_of_ble_eq_true rfl)) dX6_counting_94 (fun _ _ _ ho1 hz1 he1 => yx_out hC hr ho1 hz1 hT he1) (fun r169 A170 u171 S172 R173 o174 hZ175 h176 => ?_)
    refine yr_callVv (As := [.int (zI r1), .int (zI r169)]) hC hr o174 hZ175 rfl (hZ175.w.o 2 (by decide)) (cm_Tree_hang X.la d b R5 R173 hZ175.rs h176) cl_X6_123 rfl rfl (Nat.le_of_ble_eq_true rfl) (hFr_of (by omega) (Nat.le_of_ble_eq_true rfl)) dX6_counting_97 (fun A178 u179 S180 o182 hZ183 h184 => ?_)
    refine h_aload_n hC dX6_counting_100 rfl ?_
    refine h_dup hC dX6_counting_101 rfl ?_
    refine h_get hC fl_X6_31 (hZ183.w.o 4 (by decide)) rfl dX6_counting_102 ?_
    refine yr_sv (e := (yv A178 11)) hZ183 11 rfl ?_
    refine h_iconst (v := zI 1) hC dX6_counting_105 rfl ?_
    refine yr_isub hC dX6_counting_106 ?_
    obtain ⟨o185, h186⟩ := h184
    refine hi_putx (i := 4) (kx := 11) hC hZ183.hi (by decide) fl_X6_31 rfl rfl rfl (Nat.le_of_ble_eq_true rfl) rfl gsame_11 (fun q => absurd q (by decide)) dX6_counting_107 (fun F187 S188 I189 K190 s191 v192 p193 => ?_)
    have hZ194 := hZ183.put I189 K190 s191 v192 o185 rfl
    clear I189 K190 s191 v192 p193
    refine yr_nu o182 hZ194 (fun u195 o196 hZ197 => ?_)
    refine h_iload_n hC dX6_counting_110 rfl ?_
    exact h_xret (yr_iret hC hr o196 hZ197 R5 h186 dX6_counting_111)
theorem dX6_switching_0 : decode cX6_switching 0 = .ok (.aload_n 0, 1) := by decide +kernel
theorem dX6_switching_1 : decode cX6_switching 1 = .ok (.bipush 42, 2) := by decide +kernel
theorem dX6_switching_3 : decode cX6_switching 3 = .ok (.invokevirtual 135, 3) := by decide +kernel
theorem dX6_switching_6 : decode cX6_switching 6 = .ok (.istore_n 1, 1) := by decide +kernel
theorem dX6_switching_7 : decode cX6_switching 7 = .ok (.aload_n 0, 1) := by decide +kernel
theorem dX6_switching_8 : decode cX6_switching 8 = .ok (.getfield 60, 3) := by decide +kernel
theorem dX6_switching_11 : decode cX6_switching 11 = .ok (.iload_n 1, 1) := by decide +kernel
theorem dX6_switching_12 : decode cX6_switching 12 = .ok (.aload_n 0, 1) := by decide +kernel
theorem dX6_switching_13 : decode cX6_switching 13 = .ok (.invokevirtual 156, 3) := by decide +kernel
theorem dX6_switching_16 : decode cX6_switching 16 = .ok (.invokevirtual 123, 3) := by decide +kernel
theorem dX6_switching_19 : decode cX6_switching 19 = .ok (.aload_n 0, 1) := by decide +kernel
theorem dX6_switching_20 : decode cX6_switching 20 = .ok (.bipush 66, 2) := by decide +kernel
theorem dX6_switching_22 : decode cX6_switching 22 = .ok (.invokevirtual 109, 3) := by decide +kernel
theorem dX6_switching_25 : decode cX6_switching 25 = .ok (.aload_n 0, 1) := by decide +kernel
theorem dX6_switching_26 : decode cX6_switching 26 = .ok (.getfield 60, 3) := by decide +kernel
theorem dX6_switching_29 : decode cX6_switching 29 = .ok (.iload_n 1, 1) := by decide +kernel
theorem dX6_switching_30 : decode cX6_switching 30 = .ok (.aload_n 0, 1) := by decide +kernel
theorem dX6_switching_31 : decode cX6_switching 31 = .ok (.iconst 1, 1) := by decide +kernel
theorem dX6_switching_32 : decode cX6_switching 32 = .ok (.invokevirtual 202, 3) := by decide +kernel
theorem dX6_switching_35 : decode cX6_switching 35 = .ok (.invokevirtual 123, 3) := by decide +kernel
theorem dX6_switching_38 : decode cX6_switching 38 = .ok (.iload_n 1, 1) := by decide +kernel
theorem dX6_switching_39 : decode cX6_switching 39 = .ok (.ireturn, 1) := by decide +kernel
def wc_Parser_switching (rec : Nat → Int → Int → Int → cS → (Int → cS → Prop) → (cS → Prop) → Prop) (A0 : cS)  (Q : Int → cS → Prop) (E : cS → Prop) : Prop :=
  wc_Parser_leaf A0 42 (fun r1 A2 => rec 12 0 0 0 A2 (fun r9 A10 => wc_Tree_hang A10 r1 r9 (fun A18 => wc_Parser_due A18 66 (fun A26 => rec 4 1 0 0 A26 (fun r33 A34 => wc_Tree_hang A34 r1 r33 (fun A42 => Q r1 A42)) E) E)) E)
set_option maxHeartbeats 4000000 in
set_option maxRecDepth 100000 in
theorem cm_Parser_switching (l : Launch) (d : gD) (b : Nat) {Y : gYt} {c : Nat × Nat} (hst : l.stackTraces = false) (hcx : yCx b c) {rec : Nat → Int → Int → Int → cS → (Int → cS → Prop) → (cS → Prop) → Prop} {lv0 : Nat} (ih : yOkP l d b Y c lv0 rec) {F : gM} {k n : Nat} {S : gSt} {A0 : cS}   {Q : Int → cS → Prop} {E : cS → Prop} (hZ : yZ d b Y c F S (F, k, n) S A0) (hw : wc_Parser_switching rec A0  Q E) : hXi l d b yX6_switching cX6_switching 2 .int (9 + lv0 + 1) k n F [.ref (gO' Y 4)] (yPi d b Y c F S Q) "java/lang/IllegalStateException" (yPx d b Y c F S E) := by
  intro mc ms
  refine hX_of2 rfl (nL := 2) (Nat.le_of_ble_eq_true rfl) ?_
  intro X hX hT hC hr ho; subst hX
  show yG X d b (yxQi X d b Y c F S mc ms Q E) (F, k, n) 0 [some (.ref (gO' Y 4)), none] []
  unfold wc_Parser_switching at hw
  refine h_aload_n hC dX6_switching_0 rfl ?_
  refine h_bipush (v := zI 42) hC dX6_switching_1 rfl ?_
  refine yr_callVi (As := [.int (zI 42)]) hC hr ho hZ rfl (hZ.w.o 4 (by decide)) (cm_Parser_leaf X.la d b (by decide) hZ.rs hw) cl_X6_135 rfl rfl (Nat.le_of_ble_eq_true rfl) (hFr_of (by omega) (Nat.le_of_ble_eq_true rfl)) dX6_switching_3 (fun r1 A2 u3 S4 R5 o6 hZ7 h8 => ?_)
  refine h_istore_n (lv' := [some (.ref (gO' Y 4)), some (.int (zI r1))]) hC dX6_switching_6 (Nat.le_of_ble_eq_true rfl) rfl rfl ?_
  refine h_aload_n hC dX6_switching_7 rfl ?_
  refine h_get hC fl_X6_60 (hZ7.w.o 4 (by decide)) rfl dX6_switching_8 ?_
  refine h_iload_n hC dX6_switching_11 rfl ?_
  refine h_aload_n hC dX6_switching_12 rfl ?_
  refine yx_calli (As := []) hC hr o6 hZ7 rfl (hZ7.w.o 4 (by decide)) (ih.2.2.2.2.2.2.2.2.2.2.2.2.1  hZ7.rs h8) cl_X6_156 rfl rfl (Nat.le_of_ble_eq_true rfl) (hFr_of (by omega) (Nat.le_of_ble_eq_true rfl)) dX6_switching_13 (fun _ _ _ ho1 hz1 he1 => yx_out hC hr ho1 hz1 hT he1) (fun r9 A10 u11 S12 R13 o14 hZ15 h16 => ?_)
  refine yr_callVv (As := [.int (zI r1), .int (zI r9)]) hC hr o14 hZ15 rfl (hZ15.w.o 2 (by decide)) (cm_Tree_hang X.la d b R5 R13 hZ15.rs h16) cl_X6_123 rfl rfl (Nat.le_of_ble_eq_true rfl) (hFr_of (by omega) (Nat.le_of_ble_eq_true rfl)) dX6_switching_16 (fun A18 u19 S20 o22 hZ23 h24 => ?_)
  refine h_aload_n hC dX6_switching_19 rfl ?_
  refine h_bipush (v := zI 66) hC dX6_switching_20 rfl ?_
  refine yx_callv (As := [.int (zI 66)]) hC hr o22 hZ23 rfl (hZ23.w.o 4 (by decide)) (cm_Parser_due X.la d b hst hcx (by decide) hZ23.rs h24) cl_X6_109 rfl rfl (Nat.le_of_ble_eq_true rfl) (hFr_of (by omega) (Nat.le_of_ble_eq_true rfl)) dX6_switching_22 (fun _ _ _ ho1 hz1 he1 => yx_out hC hr ho1 hz1 hT he1) (fun A26 u27 S28 o30 hZ31 h32 => ?_)
  refine h_aload_n hC dX6_switching_25 rfl ?_
  refine h_get hC fl_X6_60 (hZ31.w.o 4 (by decide)) rfl dX6_switching_26 ?_
  refine h_iload_n hC dX6_switching_29 rfl ?_
  refine h_aload_n hC dX6_switching_30 rfl ?_
  refine h_iconst (v := zI 1) hC dX6_switching_31 rfl ?_
  refine yx_calli (As := [.int (zI 1)]) hC hr o30 hZ31 rfl (hZ31.w.o 4 (by decide)) (ih.2.2.2.2.1 (by decide) hZ31.rs h32) cl_X6_202 rfl rfl (Nat.le_of_ble_eq_true rfl) (hFr_of (by omega) (Nat.le_of_ble_eq_true rfl)) dX6_switching_32 (fun _ _ _ ho1 hz1 he1 => yx_out hC hr ho1 hz1 hT he1) (fun r33 A34 u35 S36 R37 o38 hZ39 h40 => ?_)
  refine yr_callVv (As := [.int (zI r1), .int (zI r33)]) hC hr o38 hZ39 rfl (hZ39.w.o 2 (by decide)) (cm_Tree_hang X.la d b R5 R37 hZ39.rs h40) cl_X6_123 rfl rfl (Nat.le_of_ble_eq_true rfl) (hFr_of (by omega) (Nat.le_of_ble_eq_true rfl)) dX6_switching_35 (fun A42 u43 S44 o46 hZ47 h48 => ?_)
  refine h_iload_n hC dX6_switching_38 rfl ?_
  exact h_xret (yr_iret hC hr o46 hZ47 R5 h48 dX6_switching_39)
theorem dX6_assignment_0 : decode cX6_assignment 0 = .ok (.aload_n 0, 1) := by decide +kernel
theorem dX6_assignment_1 : decode cX6_assignment 1 = .ok (.getfield 60, 3) := by decide +kernel
theorem dX6_assignment_4 : decode cX6_assignment 4 = .ok (.bipush 90, 2) := by decide +kernel
theorem dX6_assignment_6 : decode cX6_assignment 6 = .ok (.aload_n 0, 1) := by decide +kernel
theorem dX6_assignment_7 : decode cX6_assignment 7 = .ok (.invokevirtual 112, 3) := by decide +kernel
theorem dX6_assignment_10 : decode cX6_assignment 10 = .ok (.iconst 0, 1) := by decide +kernel
theorem dX6_assignment_11 : decode cX6_assignment 11 = .ok (.invokevirtual 115, 3) := by decide +kernel
theorem dX6_assignment_14 : decode cX6_assignment 14 = .ok (.istore_n 1, 1) := by decide +kernel
theorem dX6_assignment_15 : decode cX6_assignment 15 = .ok (.aload_n 0, 1) := by decide +kernel
theorem dX6_assignment_16 : decode cX6_assignment 16 = .ok (.getfield 60, 3) := by decide +kernel
theorem dX6_assignment_19 : decode cX6_assignment 19 = .ok (.iload_n 1, 1) := by decide +kernel
theorem dX6_assignment_20 : decode cX6_assignment 20 = .ok (.aload_n 0, 1) := by decide +kernel
theorem dX6_assignment_21 : decode cX6_assignment 21 = .ok (.invokevirtual 156, 3) := by decide +kernel
theorem dX6_assignment_24 : decode cX6_assignment 24 = .ok (.invokevirtual 123, 3) := by decide +kernel
theorem dX6_assignment_27 : decode cX6_assignment 27 = .ok (.aload_n 0, 1) := by decide +kernel
theorem dX6_assignment_28 : decode cX6_assignment 28 = .ok (.invokevirtual 97, 3) := by decide +kernel
theorem dX6_assignment_31 : decode cX6_assignment 31 = .ok (.bipush 9, 2) := by decide +kernel
theorem dX6_assignment_33 : decode cX6_assignment 33 = .ok (.if_icmp .eq 39, 3) := by decide +kernel
theorem dX6_assignment_36 : decode cX6_assignment 36 = .ok (.aload_n 0, 1) := by decide +kernel
theorem dX6_assignment_37 : decode cX6_assignment 37 = .ok (.invokevirtual 97, 3) := by decide +kernel
theorem dX6_assignment_40 : decode cX6_assignment 40 = .ok (.bipush 11, 2) := by decide +kernel
theorem dX6_assignment_42 : decode cX6_assignment 42 = .ok (.if_icmp .eq 30, 3) := by decide +kernel
theorem dX6_assignment_45 : decode cX6_assignment 45 = .ok (.aload_n 0, 1) := by decide +kernel
theorem dX6_assignment_46 : decode cX6_assignment 46 = .ok (.aload_n 0, 1) := by decide +kernel
theorem dX6_assignment_47 : decode cX6_assignment 47 = .ok (.getfield 60, 3) := by decide +kernel
theorem dX6_assignment_50 : decode cX6_assignment 50 = .ok (.iload_n 1, 1) := by decide +kernel
theorem dX6_assignment_51 : decode cX6_assignment 51 = .ok (.invokevirtual 230, 3) := by decide +kernel
theorem dX6_assignment_54 : decode cX6_assignment 54 = .ok (.invokevirtual 233, 3) := by decide +kernel
theorem dX6_assignment_57 : decode cX6_assignment 57 = .ok (.ifCond .eq 15, 3) := by decide +kernel
theorem dX6_assignment_60 : decode cX6_assignment 60 = .ok (.aload_n 0, 1) := by decide +kernel
theorem dX6_assignment_61 : decode cX6_assignment 61 = .ok (.getfield 60, 3) := by decide +kernel
theorem dX6_assignment_64 : decode cX6_assignment 64 = .ok (.iload_n 1, 1) := by decide +kernel
theorem dX6_assignment_65 : decode cX6_assignment 65 = .ok (.bipush 91, 2) := by decide +kernel
theorem dX6_assignment_67 : decode cX6_assignment 67 = .ok (.invokevirtual 187, 3) := by decide +kernel
theorem dX6_assignment_70 : decode cX6_assignment 70 = .ok (.iload_n 1, 1) := by decide +kernel
theorem dX6_assignment_71 : decode cX6_assignment 71 = .ok (.ireturn, 1) := by decide +kernel
theorem dX6_assignment_72 : decode cX6_assignment 72 = .ok (.iconst 1, 1) := by decide +kernel
theorem dX6_assignment_73 : decode cX6_assignment 73 = .ok (.istore_n 2, 1) := by decide +kernel
theorem dX6_assignment_74 : decode cX6_assignment 74 = .ok (.iconst 0, 1) := by decide +kernel
theorem dX6_assignment_75 : decode cX6_assignment 75 = .ok (.istore_n 3, 1) := by decide +kernel
theorem dX6_assignment_76 : decode cX6_assignment 76 = .ok (.iload_n 3, 1) := by decide +kernel
theorem dX6_assignment_77 : decode cX6_assignment 77 = .ok (.ldc 11, 2) := by decide +kernel
theorem dX6_assignment_79 : decode cX6_assignment 79 = .ok (.if_icmp .ge 37, 3) := by decide +kernel
theorem dX6_assignment_82 : decode cX6_assignment 82 = .ok (.aload_n 0, 1) := by decide +kernel
theorem dX6_assignment_83 : decode cX6_assignment 83 = .ok (.invokevirtual 97, 3) := by decide +kernel
theorem dX6_assignment_86 : decode cX6_assignment 86 = .ok (.bipush 9, 2) := by decide +kernel
theorem dX6_assignment_88 : decode cX6_assignment 88 = .ok (.if_icmp .ne 28, 3) := by decide +kernel
theorem dX6_assignment_91 : decode cX6_assignment 91 = .ok (.aload_n 0, 1) := by decide +kernel
theorem dX6_assignment_92 : decode cX6_assignment 92 = .ok (.invokevirtual 103, 3) := by decide +kernel
theorem dX6_assignment_95 : decode cX6_assignment 95 = .ok (.aload_n 0, 1) := by decide +kernel
theorem dX6_assignment_96 : decode cX6_assignment 96 = .ok (.getfield 60, 3) := by decide +kernel
theorem dX6_assignment_99 : decode cX6_assignment 99 = .ok (.iload_n 1, 1) := by decide +kernel
theorem dX6_assignment_100 : decode cX6_assignment 100 = .ok (.aload_n 0, 1) := by decide +kernel
theorem dX6_assignment_101 : decode cX6_assignment 101 = .ok (.invokevirtual 156, 3) := by decide +kernel
theorem dX6_assignment_104 : decode cX6_assignment 104 = .ok (.invokevirtual 123, 3) := by decide +kernel
theorem dX6_assignment_107 : decode cX6_assignment 107 = .ok (.iinc 2 1, 3) := by decide +kernel
theorem dX6_assignment_110 : decode cX6_assignment 110 = .ok (.iinc 3 1, 3) := by decide +kernel
theorem dX6_assignment_113 : decode cX6_assignment 113 = .ok (.goto (-37), 3) := by decide +kernel
theorem dX6_assignment_116 : decode cX6_assignment 116 = .ok (.aload_n 0, 1) := by decide +kernel
theorem dX6_assignment_117 : decode cX6_assignment 117 = .ok (.bipush 11, 2) := by decide +kernel
theorem dX6_assignment_119 : decode cX6_assignment 119 = .ok (.invokevirtual 109, 3) := by decide +kernel
theorem dX6_assignment_122 : decode cX6_assignment 122 = .ok (.iconst 0, 1) := by decide +kernel
theorem dX6_assignment_123 : decode cX6_assignment 123 = .ok (.istore_n 3, 1) := by decide +kernel
theorem dX6_assignment_124 : decode cX6_assignment 124 = .ok (.iload_n 3, 1) := by decide +kernel
theorem dX6_assignment_125 : decode cX6_assignment 125 = .ok (.iload_n 2, 1) := by decide +kernel
theorem dX6_assignment_126 : decode cX6_assignment 126 = .ok (.if_icmp .ge 31, 3) := by decide +kernel
theorem dX6_assignment_129 : decode cX6_assignment 129 = .ok (.iload_n 3, 1) := by decide +kernel
theorem dX6_assignment_130 : decode cX6_assignment 130 = .ok (.ifCond .le 9, 3) := by decide +kernel
theorem dX6_assignment_133 : decode cX6_assignment 133 = .ok (.aload_n 0, 1) := by decide +kernel
theorem dX6_assignment_134 : decode cX6_assignment 134 = .ok (.bipush 9, 2) := by decide +kernel
theorem dX6_assignment_136 : decode cX6_assignment 136 = .ok (.invokevirtual 109, 3) := by decide +kernel
theorem dX6_assignment_139 : decode cX6_assignment 139 = .ok (.aload_n 0, 1) := by decide +kernel
theorem dX6_assignment_140 : decode cX6_assignment 140 = .ok (.getfield 60, 3) := by decide +kernel
theorem dX6_assignment_143 : decode cX6_assignment 143 = .ok (.iload_n 1, 1) := by decide +kernel
theorem dX6_assignment_144 : decode cX6_assignment 144 = .ok (.aload_n 0, 1) := by decide +kernel
theorem dX6_assignment_145 : decode cX6_assignment 145 = .ok (.invokevirtual 156, 3) := by decide +kernel
theorem dX6_assignment_148 : decode cX6_assignment 148 = .ok (.invokevirtual 123, 3) := by decide +kernel
theorem dX6_assignment_151 : decode cX6_assignment 151 = .ok (.iinc 3 1, 3) := by decide +kernel
theorem dX6_assignment_154 : decode cX6_assignment 154 = .ok (.goto (-30), 3) := by decide +kernel
theorem dX6_assignment_157 : decode cX6_assignment 157 = .ok (.aload_n 0, 1) := by decide +kernel
theorem dX6_assignment_158 : decode cX6_assignment 158 = .ok (.getfield 60, 3) := by decide +kernel
theorem dX6_assignment_161 : decode cX6_assignment 161 = .ok (.iload_n 1, 1) := by decide +kernel
theorem dX6_assignment_162 : decode cX6_assignment 162 = .ok (.iload_n 2, 1) := by decide +kernel
theorem dX6_assignment_163 : decode cX6_assignment 163 = .ok (.invokevirtual 193, 3) := by decide +kernel
theorem dX6_assignment_166 : decode cX6_assignment 166 = .ok (.iload_n 1, 1) := by decide +kernel
theorem dX6_assignment_167 : decode cX6_assignment 167 = .ok (.ireturn, 1) := by decide +kernel
def wc_Parser_assignment_124B (rec : Nat → Int → Int → Int → cS → (Int → cS → Prop) → (cS → Prop) → Prop) (Q : Int → cS → Prop) (E : cS → Prop) (k124 : cS → Int → Int → Int → Prop) (A0 : cS) (x1 : Int) (x2 : Int) (x3 : Int) : Prop :=
  ((x2 ≤ x3 → wc_Tree_setData A0 x1 x2 (fun A4 => Q x1 A4)) ∧ (¬ x2 ≤ x3 → ((x3 ≤ 0 → rec 12 0 0 0 A0 (fun r14 A15 => wc_Tree_hang A15 x1 r14 (fun A23 => (zR (x3 + 1)) ∧ k124 A23 x1 x2 (x3 + 1))) E) ∧ (¬ x3 ≤ 0 → wc_Parser_due A0 9 (fun A34 => rec 12 0 0 0 A34 (fun r41 A42 => wc_Tree_hang A42 x1 r41 (fun A50 => (zR (x3 + 1)) ∧ k124 A50 x1 x2 (x3 + 1))) E) E))))
def wc_Parser_assignment_124 (rec : Nat → Int → Int → Int → cS → (Int → cS → Prop) → (cS → Prop) → Prop) (Q : Int → cS → Prop) (E : cS → Prop)  : Nat → cS → Int → Int → Int → Prop
  | 0 => fun _ _ _ _ => False
  | m + 1 => fun A0 x1 x2 x3 => wc_Parser_assignment_124B rec Q E  (wc_Parser_assignment_124 rec Q E  m) A0 x1 x2 x3
def wc_Parser_assignment_76B (rec : Nat → Int → Int → Int → cS → (Int → cS → Prop) → (cS → Prop) → Prop) (Q : Int → cS → Prop) (E : cS → Prop) (k76 : cS → Int → Int → Int → Prop) (A0 : cS) (x1 : Int) (x2 : Int) (x3 : Int) : Prop :=
  ((1000000 ≤ x3 → wc_Parser_due A0 11 (fun A4 => ∃ n, wc_Parser_assignment_124 rec Q E  n A4 x1 x2 0) E) ∧ (¬ 1000000 ≤ x3 → wc_Parser_kind A0  (fun r14 A15 => ((¬ r14 = 9 → wc_Parser_due A15 11 (fun A25 => ∃ n, wc_Parser_assignment_124 rec Q E  n A25 x1 x2 0) E) ∧ (r14 = 9 → wc_Parser_advance A15  (fun A36 => rec 12 0 0 0 A36 (fun r43 A44 => wc_Tree_hang A44 x1 r43 (fun A52 => (zR (x2 + 1)) ∧ (zR (x3 + 1)) ∧ k76 A52 x1 (x2 + 1) (x3 + 1))) E))))))
def wc_Parser_assignment_76 (rec : Nat → Int → Int → Int → cS → (Int → cS → Prop) → (cS → Prop) → Prop) (Q : Int → cS → Prop) (E : cS → Prop)  : Nat → cS → Int → Int → Int → Prop
  | 0 => fun _ _ _ _ => False
  | m + 1 => fun A0 x1 x2 x3 => wc_Parser_assignment_76B rec Q E  (wc_Parser_assignment_76 rec Q E  m) A0 x1 x2 x3
def wc_Parser_assignment (rec : Nat → Int → Int → Int → cS → (Int → cS → Prop) → (cS → Prop) → Prop) (A0 : cS)  (Q : Int → cS → Prop) (E : cS → Prop) : Prop :=
  wc_Parser_place A0  (fun r1 A2 => wc_Tree_node A2 90 r1 0 (fun r9 A10 => rec 12 0 0 0 A10 (fun r17 A18 => wc_Tree_hang A18 r9 r17 (fun A26 => wc_Parser_kind A26  (fun r33 A34 => ((r33 = 9 → ∃ n, wc_Parser_assignment_76 rec Q E  n A34 r9 1 0) ∧ (¬ r33 = 9 → wc_Parser_kind A34  (fun r46 A47 => ((r46 = 11 → ∃ n, wc_Parser_assignment_76 rec Q E  n A47 r9 1 0) ∧ (¬ r46 = 11 → wc_Tree_first A47 r9 (fun r59 A60 => wc_Parser_isCall A60 r59 (fun r67 A68 => ((r67 = 0 → ∃ n, wc_Parser_assignment_76 rec Q E  n A68 r9 1 0) ∧ (¬ r67 = 0 → wc_Tree_setKind A68 r9 91 (fun A81 => Q r9 A81))))))))))))) E))
set_option maxHeartbeats 4000000 in
set_option maxRecDepth 100000 in
theorem cb_Parser_assignment_124 {X : gX} {d : gD} {b : Nat} {Y : gYt} {c : Nat × Nat} {F0 : gM} {S0 : gSt} {mc ms : Nat} {rec : Nat → Int → Int → Int → cS → (Int → cS → Prop) → (cS → Prop) → Prop} {lv0 : Nat} (hC : gC RX6 cX6_assignment 4 (some .int) "assignment" (gR (9 + lv0 + 1) mc ms) d b X) (hr : hRm X b) (hst : X.la.stackTraces = false) (hT : ∀ x ∈ X.co.exceptionTable.toList, False) (hcx : yCx b c) (ih : yOkP X.la d b Y c lv0 rec) {Q : Int → cS → Prop} {E : cS → Prop} {k124 : cS → Int → Int → Int → Prop} (hk124 : ∀ (u : hU) (S : gSt) (A0 : cS) (x1 : Int) (x2 : Int) (x3 : Int), zR x1 → zR x2 → zR x3 → yOk X b u → yZ d b Y c F0 S0 u S A0 → k124 A0 x1 x2 x3 → yG X d b (yxQi X d b Y c F0 S0 mc ms Q E) u 124 [some (.ref (gO' Y 4)), some (.int (zI x1)), some (.int (zI x2)), some (.int (zI x3))] []) {u : hU} {S : gSt} {A0 : cS} {x1 : Int} {x2 : Int} {x3 : Int} (Rx1 : zR x1) (Rx2 : zR x2) (Rx3 : zR x3) (ho : yOk X b u) (hZ : yZ d b Y c F0 S0 u S A0) (hw : wc_Parser_assignment_124B rec Q E k124 A0 x1 x2 x3) : yG X d b (yxQi X d b Y c F0 S0 mc ms Q E) u 124 [some (.ref (gO' Y 4)), some (.int (zI x1)), some (.int (zI x2)), some (.int (zI x3))] [] := by
  unfold wc_Parser_assignment_124B at hw
  refine h_iload_n hC dX6_assignment_124 rfl ?_
  refine h_iload_n hC dX6_assignment_125 rfl ?_
  refine yr_icmp_ge (tgt := 157) hC Rx3 Rx2 dX6_assignment_126 (by decide) (fun c1 => ?_) (fun c1 => ?_)
  · have h2 := hw.1 c1
    refine h_aload_n hC dX6_assignment_157 rfl ?_
    refine h_get hC fl_X6_60 (hZ.w.o 4 (by decide)) rfl dX6_assignment_158 ?_
    refine h_iload_n hC dX6_assignment_161 rfl ?_
    refine h_iload_n hC dX6_assignment_162 rfl ?_
    refine yr_callVv (As := [.int (zI x1), .int (zI x2)]) hC hr ho hZ rfl (hZ.w.o 2 (by decide)) (cm_Tree_setData X.la d b Rx1 Rx2 hZ.rs h2) cl_X6_193 rfl rfl (Nat.le_of_ble_eq_true rfl) (hFr_of (by omega) (Nat.le_of_ble_eq_true rfl)) dX6_assignment_163 (fun A4 u5 S6 o8 hZ9 h10 => ?_)
    refine h_iload_n hC dX6_assignment_166 rfl ?_
    exact h_xret (yr_iret hC hr o8 hZ9 Rx1 h10 dX6_assignment_167)
  · have h11 := hw.2 c1
    refine h_iload_n hC dX6_assignment_129 rfl ?_
    refine yr_if_le (tgt := 139) hC Rx3 dX6_assignment_130 (by decide) (fun c12 => ?_) (fun c12 => ?_)
    · have h13 := h11.1 c12
      refine h_aload_n hC dX6_assignment_139 rfl ?_
      refine h_get hC fl_X6_60 (hZ.w.o 4 (by decide)) rfl dX6_assignment_140 ?_
      refine h_iload_n hC dX6_assignment_143 rfl ?_
      refine h_aload_n hC dX6_assignment_144 rfl ?_
      refine yx_calli (As := []) hC hr ho hZ rfl (hZ.w.o 4 (by decide)) (ih.2.2.2.2.2.2.2.2.2.2.2.2.1  hZ.rs h13) cl_X6_156 rfl rfl (Nat.le_of_ble_eq_true rfl) (hFr_of (by omega) (Nat.le_of_ble_eq_true rfl)) dX6_assignment_145 (fun _ _ _ ho1 hz1 he1 => yx_out hC hr ho1 hz1 hT he1) (fun r14 A15 u16 S17 R18 o19 hZ20 h21 => ?_)
      refine yr_callVv (As := [.int (zI x1), .int (zI r14)]) hC hr o19 hZ20 rfl (hZ20.w.o 2 (by decide)) (cm_Tree_hang X.la d b Rx1 R18 hZ20.rs h21) cl_X6_123 rfl rfl (Nat.le_of_ble_eq_true rfl) (hFr_of (by omega) (Nat.le_of_ble_eq_true rfl)) dX6_assignment_148 (fun A23 u24 S25 o27 hZ28 h29 => ?_)
      refine yr_iinc (x := x3) (lv' := [some (.ref (gO' Y 4)), some (.int (zI x1)), some (.int (zI x2)), some (.int (zI (x3 + 1)))]) hC dX6_assignment_151 rfl rfl rfl ?_
      refine h_goto (tgt := 124) hC dX6_assignment_154 (by decide) ?_
      obtain ⟨o30, h31⟩ := h29
      exact hk124 _ _ _ _ _ _ Rx1 Rx2 o30 o27 hZ28 h31
    · have h32 := h11.2 c12
      refine h_aload_n hC dX6_assignment_133 rfl ?_
      refine h_bipush (v := zI 9) hC dX6_assignment_134 rfl ?_
      refine yx_callv (As := [.int (zI 9)]) hC hr ho hZ rfl (hZ.w.o 4 (by decide)) (cm_Parser_due X.la d b hst hcx (by decide) hZ.rs h32) cl_X6_109 rfl rfl (Nat.le_of_ble_eq_true rfl) (hFr_of (by omega) (Nat.le_of_ble_eq_true rfl)) dX6_assignment_136 (fun _ _ _ ho1 hz1 he1 => yx_out hC hr ho1 hz1 hT he1) (fun A34 u35 S36 o38 hZ39 h40 => ?_)
      refine h_aload_n hC dX6_assignment_139 rfl ?_
      refine h_get hC fl_X6_60 (hZ39.w.o 4 (by decide)) rfl dX6_assignment_140 ?_
      refine h_iload_n hC dX6_assignment_143 rfl ?_
      refine h_aload_n hC dX6_assignment_144 rfl ?_
      refine yx_calli (As := []) hC hr o38 hZ39 rfl (hZ39.w.o 4 (by decide)) (ih.2.2.2.2.2.2.2.2.2.2.2.2.1  hZ39.rs h40) cl_X6_156 rfl rfl (Nat.le_of_ble_eq_true rfl) (hFr_of (by omega) (Nat.le_of_ble_eq_true rfl)) dX6_assignment_145 (fun _ _ _ ho1 hz1 he1 => yx_out hC hr ho1 hz1 hT he1) (fun r41 A42 u43 S44 R45 o46 hZ47 h48 => ?_)
      refine yr_callVv (As := [.int (zI x1), .int (zI r41)]) hC hr o46 hZ47 rfl (hZ47.w.o 2 (by decide)) (cm_Tree_hang X.la d b Rx1 R45 hZ47.rs h48) cl_X6_123 rfl rfl (Nat.le_of_ble_eq_true rfl) (hFr_of (by omega) (Nat.le_of_ble_eq_true rfl)) dX6_assignment_148 (fun A50 u51 S52 o54 hZ55 h56 => ?_)
      refine yr_iinc (x := x3) (lv' := [some (.ref (gO' Y 4)), some (.int (zI x1)), some (.int (zI x2)), some (.int (zI (x3 + 1)))]) hC dX6_assignment_151 rfl rfl rfl ?_
      refine h_goto (tgt := 124) hC dX6_assignment_154 (by decide) ?_
      obtain ⟨o57, h58⟩ := h56
      exact hk124 _ _ _ _ _ _ Rx1 Rx2 o57 o54 hZ55 h58
theorem cl_Parser_assignment_124 {X : gX} {d : gD} {b : Nat} {Y : gYt} {c : Nat × Nat} {F0 : gM} {S0 : gSt} {mc ms : Nat} {rec : Nat → Int → Int → Int → cS → (Int → cS → Prop) → (cS → Prop) → Prop} {lv0 : Nat} (hC : gC RX6 cX6_assignment 4 (some .int) "assignment" (gR (9 + lv0 + 1) mc ms) d b X) (hr : hRm X b) (hst : X.la.stackTraces = false) (hT : ∀ x ∈ X.co.exceptionTable.toList, False) (hcx : yCx b c) (ih : yOkP X.la d b Y c lv0 rec) {Q : Int → cS → Prop} {E : cS → Prop}   : ∀ (m : Nat) (u : hU) (S : gSt) (A0 : cS) (x1 : Int) (x2 : Int) (x3 : Int), zR x1 → zR x2 → zR x3 → yOk X b u → yZ d b Y c F0 S0 u S A0 → wc_Parser_assignment_124 rec Q E  m A0 x1 x2 x3 → yG X d b (yxQi X d b Y c F0 S0 mc ms Q E) u 124 [some (.ref (gO' Y 4)), some (.int (zI x1)), some (.int (zI x2)), some (.int (zI x3))] [] := by
  intro m
  induction m with
  | zero => intro u S A0 x1 x2 x3 Rx1 Rx2 Rx3 ho hZ hw; exact False.elim hw
  | succ m ihm => intro u S A0 x1 x2 x3 Rx1 Rx2 Rx3 ho hZ hw; exact cb_Parser_assignment_124 hC hr hst hT hcx ih  ihm Rx1 Rx2 Rx3 ho hZ hw
set_option maxHeartbeats 4000000 in
set_option maxRecDepth 100000 in
theorem cb_Parser_assignment_76 {X : gX} {d : gD} {b : Nat} {Y : gYt} {c : Nat × Nat} {F0 : gM} {S0 : gSt} {mc ms : Nat} {rec : Nat → Int → Int → Int → cS → (Int → cS → Prop) → (cS → Prop) → Prop} {lv0 : Nat} (hC : gC RX6 cX6_assignment 4 (some .int) "assignment" (gR (9 + lv0 + 1) mc ms) d b X) (hr : hRm X b) (hst : X.la.stackTraces = false) (hT : ∀ x ∈ X.co.exceptionTable.toList, False) (hcx : yCx b c) (ih : yOkP X.la d b Y c lv0 rec) {Q : Int → cS → Prop} {E : cS → Prop} {k76 : cS → Int → Int → Int → Prop} (hk76 : ∀ (u : hU) (S : gSt) (A0 : cS) (x1 : Int) (x2 : Int) (x3 : Int), zR x1 → zR x2 → zR x3 → yOk X b u → yZ d b Y c F0 S0 u S A0 → k76 A0 x1 x2 x3 → yG X d b (yxQi X d b Y c F0 S0 mc ms Q E) u 76 [some (.ref (gO' Y 4)), some (.int (zI x1)), some (.int (zI x2)), some (.int (zI x3))] []) {u : hU} {S : gSt} {A0 : cS} {x1 : Int} {x2 : Int} {x3 : Int} (Rx1 : zR x1) (Rx2 : zR x2) (Rx3 : zR x3) (ho : yOk X b u) (hZ : yZ d b Y c F0 S0 u S A0) (hw : wc_Parser_assignment_76B rec Q E k76 A0 x1 x2 x3) : yG X d b (yxQi X d b Y c F0 S0 mc ms Q E) u 76 [some (.ref (gO' Y 4)), some (.int (zI x1)), some (.int (zI x2)), some (.int (zI x3))] [] := by
  unfold wc_Parser_assignment_76B at hw
  refine h_iload_n hC dX6_assignment_76 rfl ?_
  refine yr_ldc (e := 1000000) hC dX6_assignment_77 kw_514 (by decide) ?_
  refine yr_icmp_ge (tgt := 116) hC Rx3 (by decide) dX6_assignment_79 (by decide) (fun c1 => ?_) (fun c1 => ?_)
  · have h2 := hw.1 c1
    refine h_aload_n hC dX6_assignment_116 rfl ?_
    refine h_bipush (v := zI 11) hC dX6_assignment_117 rfl ?_
    refine yx_callv (As := [.int (zI 11)]) hC hr ho hZ rfl (hZ.w.o 4 (by decide)) (cm_Parser_due X.la d b hst hcx (by decide) hZ.rs h2) cl_X6_109 rfl rfl (Nat.le_of_ble_eq_true rfl) (hFr_of (by omega) (Nat.le_of_ble_eq_true rfl)) dX6_assignment_119 (fun _ _ _ ho1 hz1 he1 => yx_out hC hr ho1 hz1 hT he1) (fun A4 u5 S6 o8 hZ9 h10 => ?_)
    refine h_iconst (v := zI 0) hC dX6_assignment_122 rfl ?_
    refine h_istore_n (lv' := [some (.ref (gO' Y 4)), some (.int (zI x1)), some (.int (zI x2)), some (.int (zI 0))]) hC dX6_assignment_123 (Nat.le_of_ble_eq_true rfl) rfl rfl ?_
    obtain ⟨m11, h12⟩ := h10
    exact cl_Parser_assignment_124 hC hr hst hT hcx ih  m11 _ _ _ _ _ _ Rx1 Rx2 (by decide) o8 hZ9 h12
  · have h13 := hw.2 c1
    refine h_aload_n hC dX6_assignment_82 rfl ?_
    refine yr_callVi (As := []) hC hr ho hZ rfl (hZ.w.o 4 (by decide)) (cm_Parser_kind X.la d b  hZ.rs h13) cl_X6_97 rfl rfl (Nat.le_of_ble_eq_true rfl) (hFr_of (by omega) (Nat.le_of_ble_eq_true rfl)) dX6_assignment_83 (fun r14 A15 u16 S17 R18 o19 hZ20 h21 => ?_)
    refine h_bipush (v := zI 9) hC dX6_assignment_86 rfl ?_
    refine yr_icmp_ne (tgt := 116) hC R18 (by decide) dX6_assignment_88 (by decide) (fun c22 => ?_) (fun c22 => ?_)
    · have h23 := h21.1 c22
      refine h_aload_n hC dX6_assignment_116 rfl ?_
      refine h_bipush (v := zI 11) hC dX6_assignment_117 rfl ?_
      refine yx_callv (As := [.int (zI 11)]) hC hr o19 hZ20 rfl (hZ20.w.o 4 (by decide)) (cm_Parser_due X.la d b hst hcx (by decide) hZ20.rs h23) cl_X6_109 rfl rfl (Nat.le_of_ble_eq_true rfl) (hFr_of (by omega) (Nat.le_of_ble_eq_true rfl)) dX6_assignment_119 (fun _ _ _ ho1 hz1 he1 => yx_out hC hr ho1 hz1 hT he1) (fun A25 u26 S27 o29 hZ30 h31 => ?_)
      refine h_iconst (v := zI 0) hC dX6_assignment_122 rfl ?_
      refine h_istore_n (lv' := [some (.ref (gO' Y 4)), some (.int (zI x1)), some (.int (zI x2)), some (.int (zI 0))]) hC dX6_assignment_123 (Nat.le_of_ble_eq_true rfl) rfl rfl ?_
      obtain ⟨m32, h33⟩ := h31
      exact cl_Parser_assignment_124 hC hr hst hT hcx ih  m32 _ _ _ _ _ _ Rx1 Rx2 (by decide) o29 hZ30 h33
    · have h34 := h21.2 c22
      refine h_aload_n hC dX6_assignment_91 rfl ?_
      refine yr_callVv (As := []) hC hr o19 hZ20 rfl (hZ20.w.o 4 (by decide)) (cm_Parser_advance X.la d b  hZ20.rs h34) cl_X6_103 rfl rfl (Nat.le_of_ble_eq_true rfl) (hFr_of (by omega) (Nat.le_of_ble_eq_true rfl)) dX6_assignment_92 (fun A36 u37 S38 o40 hZ41 h42 => ?_)
      refine h_aload_n hC dX6_assignment_95 rfl ?_
      refine h_get hC fl_X6_60 (hZ41.w.o 4 (by decide)) rfl dX6_assignment_96 ?_
      refine h_iload_n hC dX6_assignment_99 rfl ?_
      refine h_aload_n hC dX6_assignment_100 rfl ?_
      refine yx_calli (As := []) hC hr o40 hZ41 rfl (hZ41.w.o 4 (by decide)) (ih.2.2.2.2.2.2.2.2.2.2.2.2.1  hZ41.rs h42) cl_X6_156 rfl rfl (Nat.le_of_ble_eq_true rfl) (hFr_of (by omega) (Nat.le_of_ble_eq_true rfl)) dX6_assignment_101 (fun _ _ _ ho1 hz1 he1 => yx_out hC hr ho1 hz1 hT he1) (fun r43 A44 u45 S46 R47 o48 hZ49 h50 => ?_)
      refine yr_callVv (As := [.int (zI x1), .int (zI r43)]) hC hr o48 hZ49 rfl (hZ49.w.o 2 (by decide)) (cm_Tree_hang X.la d b Rx1 R47 hZ49.rs h50) cl_X6_123 rfl rfl (Nat.le_of_ble_eq_true rfl) (hFr_of (by omega) (Nat.le_of_ble_eq_true rfl)) dX6_assignment_104 (fun A52 u53 S54 o56 hZ57 h58 => ?_)
      refine yr_iinc (x := x2) (lv' := [some (.ref (gO' Y 4)), some (.int (zI x1)), some (.int (zI (x2 + 1))), some (.int (zI x3))]) hC dX6_assignment_107 rfl rfl rfl ?_
      refine yr_iinc (x := x3) (lv' := [some (.ref (gO' Y 4)), some (.int (zI x1)), some (.int (zI (x2 + 1))), some (.int (zI (x3 + 1)))]) hC dX6_assignment_110 rfl rfl rfl ?_
      refine h_goto (tgt := 76) hC dX6_assignment_113 (by decide) ?_
      obtain ⟨o59, h60⟩ := h58
      obtain ⟨o61, h62⟩ := h60
      exact hk76 _ _ _ _ _ _ Rx1 o59 o61 o56 hZ57 h62
theorem cl_Parser_assignment_76 {X : gX} {d : gD} {b : Nat} {Y : gYt} {c : Nat × Nat} {F0 : gM} {S0 : gSt} {mc ms : Nat} {rec : Nat → Int → Int → Int → cS → (Int → cS → Prop) → (cS → Prop) → Prop} {lv0 : Nat} (hC : gC RX6 cX6_assignment 4 (some .int) "assignment" (gR (9 + lv0 + 1) mc ms) d b X) (hr : hRm X b) (hst : X.la.stackTraces = false) (hT : ∀ x ∈ X.co.exceptionTable.toList, False) (hcx : yCx b c) (ih : yOkP X.la d b Y c lv0 rec) {Q : Int → cS → Prop} {E : cS → Prop}   : ∀ (m : Nat) (u : hU) (S : gSt) (A0 : cS) (x1 : Int) (x2 : Int) (x3 : Int), zR x1 → zR x2 → zR x3 → yOk X b u → yZ d b Y c F0 S0 u S A0 → wc_Parser_assignment_76 rec Q E  m A0 x1 x2 x3 → yG X d b (yxQi X d b Y c F0 S0 mc ms Q E) u 76 [some (.ref (gO' Y 4)), some (.int (zI x1)), some (.int (zI x2)), some (.int (zI x3))] [] := by
  intro m
  induction m with
  | zero => intro u S A0 x1 x2 x3 Rx1 Rx2 Rx3 ho hZ hw; exact False.elim hw
  | succ m ihm => intro u S A0 x1 x2 x3 Rx1 Rx2 Rx3 ho hZ hw; exact cb_Parser_assignment_76 hC hr hst hT hcx ih  ihm Rx1 Rx2 Rx3 ho hZ hw
set_option maxHeartbeats 4000000 in
set_option maxRecDepth 100000 in
theorem cm_Parser_assignment (l : Launch) (d : gD) (b : Nat) {Y : gYt} {c : Nat × Nat} (hst : l.stackTraces = false) (hcx : yCx b c) {rec : Nat → Int → Int → Int → cS → (Int → cS → Prop) → (cS → Prop) → Prop} {lv0 : Nat} (ih : yOkP l d b Y c lv0 rec) {F : gM} {k n : Nat} {S : gSt} {A0 : cS}   {Q : Int → cS → Prop} {E : cS → Prop} (hZ : yZ d b Y c F S (F, k, n) S A0) (hw : wc_Parser_assignment rec A0  Q E) : hXi l d b yX6_assignment cX6_assignment 4 .int (9 + lv0 + 1) k n F [.ref (gO' Y 4)] (yPi d b Y c F S Q) "java/lang/IllegalStateException" (yPx d b Y c F S E) := by
  intro mc ms
  refine hX_of2 rfl (nL := 4) (Nat.le_of_ble_eq_true rfl) ?_
  intro X hX hT hC hr ho; subst hX
  show yG X d b (yxQi X d b Y c F S mc ms Q E) (F, k, n) 0 [some (.ref (gO' Y 4)), none, none, none] []
  unfold wc_Parser_assignment at hw
  refine h_aload_n hC dX6_assignment_0 rfl ?_
  refine h_get hC fl_X6_60 (hZ.w.o 4 (by decide)) rfl dX6_assignment_1 ?_
  refine h_bipush (v := zI 90) hC dX6_assignment_4 rfl ?_
  refine h_aload_n hC dX6_assignment_6 rfl ?_
  refine yr_callVi (As := []) hC hr ho hZ rfl (hZ.w.o 4 (by decide)) (cm_Parser_place X.la d b  hZ.rs hw) cl_X6_112 rfl rfl (Nat.le_of_ble_eq_true rfl) (hFr_of (by omega) (Nat.le_of_ble_eq_true rfl)) dX6_assignment_7 (fun r1 A2 u3 S4 R5 o6 hZ7 h8 => ?_)
  refine h_iconst (v := zI 0) hC dX6_assignment_10 rfl ?_
  refine yr_callVi (As := [.int (zI 90), .int (zI r1), .int (zI 0)]) hC hr o6 hZ7 rfl (hZ7.w.o 2 (by decide)) (cm_Tree_node X.la d b (by decide) R5 (by decide) hZ7.rs h8) cl_X6_115 rfl rfl (Nat.le_of_ble_eq_true rfl) (hFr_of (by omega) (Nat.le_of_ble_eq_true rfl)) dX6_assignment_11 (fun r9 A10 u11 S12 R13 o14 hZ15 h16 => ?_)
  refine h_istore_n (lv' := [some (.ref (gO' Y 4)), some (.int (zI r9)), none, none]) hC dX6_assignment_14 (Nat.le_of_ble_eq_true rfl) rfl rfl ?_
  refine h_aload_n hC dX6_assignment_15 rfl ?_
  refine h_get hC fl_X6_60 (hZ15.w.o 4 (by decide)) rfl dX6_assignment_16 ?_
  refine h_iload_n hC dX6_assignment_19 rfl ?_
  refine h_aload_n hC dX6_assignment_20 rfl ?_
  refine yx_calli (As := []) hC hr o14 hZ15 rfl (hZ15.w.o 4 (by decide)) (ih.2.2.2.2.2.2.2.2.2.2.2.2.1  hZ15.rs h16) cl_X6_156 rfl rfl (Nat.le_of_ble_eq_true rfl) (hFr_of (by omega) (Nat.le_of_ble_eq_true rfl)) dX6_assignment_21 (fun _ _ _ ho1 hz1 he1 => yx_out hC hr ho1 hz1 hT he1) (fun r17 A18 u19 S20 R21 o22 hZ23 h24 => ?_)
  refine yr_callVv (As := [.int (zI r9), .int (zI r17)]) hC hr o22 hZ23 rfl (hZ23.w.o 2 (by decide)) (cm_Tree_hang X.la d b R13 R21 hZ23.rs h24) cl_X6_123 rfl rfl (Nat.le_of_ble_eq_true rfl) (hFr_of (by omega) (Nat.le_of_ble_eq_true rfl)) dX6_assignment_24 (fun A26 u27 S28 o30 hZ31 h32 => ?_)
  refine h_aload_n hC dX6_assignment_27 rfl ?_
  refine yr_callVi (As := []) hC hr o30 hZ31 rfl (hZ31.w.o 4 (by decide)) (cm_Parser_kind X.la d b  hZ31.rs h32) cl_X6_97 rfl rfl (Nat.le_of_ble_eq_true rfl) (hFr_of (by omega) (Nat.le_of_ble_eq_true rfl)) dX6_assignment_28 (fun r33 A34 u35 S36 R37 o38 hZ39 h40 => ?_)
  refine h_bipush (v := zI 9) hC dX6_assignment_31 rfl ?_
  refine yr_icmp_eq (tgt := 72) hC R37 (by decide) dX6_assignment_33 (by decide) (fun c41 => ?_) (fun c41 => ?_)
  · have h42 := h40.1 c41
    refine h_iconst (v := zI 1) hC dX6_assignment_72 rfl ?_
    refine h_istore_n (lv' := [some (.ref (gO' Y 4)), some (.int (zI r9)), some (.int (zI 1)), none]) hC dX6_assignment_73 (Nat.le_of_ble_eq_true rfl) rfl rfl ?_
    refine h_iconst (v := zI 0) hC dX6_assignment_74 rfl ?_
    refine h_istore_n (lv' := [some (.ref (gO' Y 4)), some (.int (zI r9)), some (.int (zI 1)), some (.int (zI 0))]) hC dX6_assignment_75 (Nat.le_of_ble_eq_true rfl) rfl rfl ?_
    obtain ⟨m43, h44⟩ := h42
    exact cl_Parser_assignment_76 hC hr hst hT hcx ih  m43 _ _ _ _ _ _ R13 (by decide) (by decide) o38 hZ39 h44
  · have h45 := h40.2 c41
    refine h_aload_n hC dX6_assignment_36 rfl ?_
    refine yr_callVi (As := []) hC hr o38 hZ39 rfl (hZ39.w.o 4 (by decide)) (cm_Parser_kind X.la d b  hZ39.rs h45) cl_X6_97 rfl rfl (Nat.le_of_ble_eq_true rfl) (hFr_of (by omega) (Nat.le_of_ble_eq_true rfl)) dX6_assignment_37 (fun r46 A47 u48 S49 R50 o51 hZ52 h53 => ?_)
    refine h_bipush (v := zI 11) hC dX6_assignment_40 rfl ?_
    refine yr_icmp_eq (tgt := 72) hC R50 (by decide) dX6_assignment_42 (by decide) (fun c54 => ?_) (fun c54 => ?_)
    · have h55 := h53.1 c54
      refine h_iconst (v := zI 1) hC dX6_assignment_72 rfl ?_
      refine h_istore_n (lv' := [some (.ref (gO' Y 4)), some (.int (zI r9)), some (.int (zI 1)), none]) hC dX6_assignment_73 (Nat.le_of_ble_eq_true rfl) rfl rfl ?_
      refine h_iconst (v := zI 0) hC dX6_assignment_74 rfl ?_
      refine h_istore_n (lv' := [some (.ref (gO' Y 4)), some (.int (zI r9)), some (.int (zI 1)), some (.int (zI 0))]) hC dX6_assignment_75 (Nat.le_of_ble_eq_true rfl) rfl rfl ?_
      obtain ⟨m56, h57⟩ := h55
      exact cl_Parser_assignment_76 hC hr hst hT hcx ih  m56 _ _ _ _ _ _ R13 (by decide) (by decide) o51 hZ52 h57
    · have h58 := h53.2 c54
      refine h_aload_n hC dX6_assignment_45 rfl ?_
      refine h_aload_n hC dX6_assignment_46 rfl ?_
      refine h_get hC fl_X6_60 (hZ52.w.o 4 (by decide)) rfl dX6_assignment_47 ?_
      refine h_iload_n hC dX6_assignment_50 rfl ?_
      refine yr_callVi (As := [.int (zI r9)]) hC hr o51 hZ52 rfl (hZ52.w.o 2 (by decide)) (cm_Tree_first X.la d b R13 hZ52.rs h58) cl_X6_230 rfl rfl (Nat.le_of_ble_eq_true rfl) (hFr_of (by omega) (Nat.le_of_ble_eq_true rfl)) dX6_assignment_51 (fun r59 A60 u61 S62 R63 o64 hZ65 h66 => ?_)
      refine yr_callVi (As := [.int (zI r59)]) hC hr o64 hZ65 rfl (hZ65.w.o 4 (by decide)) (cm_Parser_isCall X.la d b R63 hZ65.rs h66) cl_X6_233 rfl rfl (Nat.le_of_ble_eq_true rfl) (hFr_of (by omega) (Nat.le_of_ble_eq_true rfl)) dX6_assignment_54 (fun r67 A68 u69 S70 R71 o72 hZ73 h74 => ?_)
      refine yr_if_eq (tgt := 72) hC R71 dX6_assignment_57 (by decide) (fun c75 => ?_) (fun c75 => ?_)
      · have h76 := h74.1 c75
        refine h_iconst (v := zI 1) hC dX6_assignment_72 rfl ?_
        refine h_istore_n (lv' := [some (.ref (gO' Y 4)), some (.int (zI r9)), some (.int (zI 1)), none]) hC dX6_assignment_73 (Nat.le_of_ble_eq_true rfl) rfl rfl ?_
        refine h_iconst (v := zI 0) hC dX6_assignment_74 rfl ?_
        refine h_istore_n (lv' := [some (.ref (gO' Y 4)), some (.int (zI r9)), some (.int (zI 1)), some (.int (zI 0))]) hC dX6_assignment_75 (Nat.le_of_ble_eq_true rfl) rfl rfl ?_
        obtain ⟨m77, h78⟩ := h76
        exact cl_Parser_assignment_76 hC hr hst hT hcx ih  m77 _ _ _ _ _ _ R13 (by decide) (by decide) o72 hZ73 h78
      · have h79 := h74.2 c75
        refine h_aload_n hC dX6_assignment_60 rfl ?_
        refine h_get hC fl_X6_60 (hZ73.w.o 4 (by decide)) rfl dX6_assignment_61 ?_
        refine h_iload_n hC dX6_assignment_64 rfl ?_
        refine h_bipush (v := zI 91) hC dX6_assignment_65 rfl ?_
        refine yr_callVv (As := [.int (zI r9), .int (zI 91)]) hC hr o72 hZ73 rfl (hZ73.w.o 2 (by decide)) (cm_Tree_setKind X.la d b R13 (by decide) hZ73.rs h79) cl_X6_187 rfl rfl (Nat.le_of_ble_eq_true rfl) (hFr_of (by omega) (Nat.le_of_ble_eq_true rfl)) dX6_assignment_67 (fun A81 u82 S83 o85 hZ86 h87 => ?_)
        refine h_iload_n hC dX6_assignment_70 rfl ?_
        exact h_xret (yr_iret hC hr o85 hZ86 R13 h87 dX6_assignment_71)
theorem dX6_expression_0 : decode cX6_expression 0 = .ok (.aload_n 0, 1) := by decide +kernel
theorem dX6_expression_1 : decode cX6_expression 1 = .ok (.getfield 60, 3) := by decide +kernel
theorem dX6_expression_4 : decode cX6_expression 4 = .ok (.bipush 80, 2) := by decide +kernel
theorem dX6_expression_6 : decode cX6_expression 6 = .ok (.aload_n 0, 1) := by decide +kernel
theorem dX6_expression_7 : decode cX6_expression 7 = .ok (.invokevirtual 112, 3) := by decide +kernel
theorem dX6_expression_10 : decode cX6_expression 10 = .ok (.iconst 0, 1) := by decide +kernel
theorem dX6_expression_11 : decode cX6_expression 11 = .ok (.invokevirtual 115, 3) := by decide +kernel
theorem dX6_expression_14 : decode cX6_expression 14 = .ok (.istore_n 1, 1) := by decide +kernel
theorem dX6_expression_15 : decode cX6_expression 15 = .ok (.aload_n 0, 1) := by decide +kernel
theorem dX6_expression_16 : decode cX6_expression 16 = .ok (.getfield 21, 3) := by decide +kernel
theorem dX6_expression_19 : decode cX6_expression 19 = .ok (.invokevirtual 172, 3) := by decide +kernel
theorem dX6_expression_22 : decode cX6_expression 22 = .ok (.istore_n 2, 1) := by decide +kernel
theorem dX6_expression_23 : decode cX6_expression 23 = .ok (.iconst 0, 1) := by decide +kernel
theorem dX6_expression_24 : decode cX6_expression 24 = .ok (.istore_n 3, 1) := by decide +kernel
theorem dX6_expression_25 : decode cX6_expression 25 = .ok (.iload_n 3, 1) := by decide +kernel
theorem dX6_expression_26 : decode cX6_expression 26 = .ok (.ldc 11, 2) := by decide +kernel
theorem dX6_expression_28 : decode cX6_expression 28 = .ok (.if_icmp .ge 61, 3) := by decide +kernel
theorem dX6_expression_31 : decode cX6_expression 31 = .ok (.aload_n 0, 1) := by decide +kernel
theorem dX6_expression_32 : decode cX6_expression 32 = .ok (.iload_n 1, 1) := by decide +kernel
theorem dX6_expression_33 : decode cX6_expression 33 = .ok (.invokevirtual 239, 3) := by decide +kernel
theorem dX6_expression_36 : decode cX6_expression 36 = .ok (.aload_n 0, 1) := by decide +kernel
theorem dX6_expression_37 : decode cX6_expression 37 = .ok (.invokevirtual 97, 3) := by decide +kernel
theorem dX6_expression_40 : decode cX6_expression 40 = .ok (.istore 4, 2) := by decide +kernel
theorem dX6_expression_42 : decode cX6_expression 42 = .ok (.aload_n 0, 1) := by decide +kernel
theorem dX6_expression_43 : decode cX6_expression 43 = .ok (.iload_n 1, 1) := by decide +kernel
theorem dX6_expression_44 : decode cX6_expression 44 = .ok (.iload_n 2, 1) := by decide +kernel
theorem dX6_expression_45 : decode cX6_expression 45 = .ok (.iload 4, 2) := by decide +kernel
theorem dX6_expression_47 : decode cX6_expression 47 = .ok (.invokevirtual 242, 3) := by decide +kernel
theorem dX6_expression_50 : decode cX6_expression 50 = .ok (.iload 4, 2) := by decide +kernel
theorem dX6_expression_52 : decode cX6_expression 52 = .ok (.invokestatic 246, 3) := by decide +kernel
theorem dX6_expression_55 : decode cX6_expression 55 = .ok (.ifCond .ne 6, 3) := by decide +kernel
theorem dX6_expression_58 : decode cX6_expression 58 = .ok (.goto 31, 3) := by decide +kernel
theorem dX6_expression_61 : decode cX6_expression 61 = .ok (.aload_n 0, 1) := by decide +kernel
theorem dX6_expression_62 : decode cX6_expression 62 = .ok (.getfield 21, 3) := by decide +kernel
theorem dX6_expression_65 : decode cX6_expression 65 = .ok (.aload_n 0, 1) := by decide +kernel
theorem dX6_expression_66 : decode cX6_expression 66 = .ok (.invokevirtual 112, 3) := by decide +kernel
theorem dX6_expression_69 : decode cX6_expression 69 = .ok (.sipush 128, 3) := by decide +kernel
theorem dX6_expression_72 : decode cX6_expression 72 = .ok (.imul, 1) := by decide +kernel
theorem dX6_expression_73 : decode cX6_expression 73 = .ok (.iload 4, 2) := by decide +kernel
theorem dX6_expression_75 : decode cX6_expression 75 = .ok (.iadd, 1) := by decide +kernel
theorem dX6_expression_76 : decode cX6_expression 76 = .ok (.invokevirtual 147, 3) := by decide +kernel
theorem dX6_expression_79 : decode cX6_expression 79 = .ok (.aload_n 0, 1) := by decide +kernel
theorem dX6_expression_80 : decode cX6_expression 80 = .ok (.invokevirtual 103, 3) := by decide +kernel
theorem dX6_expression_83 : decode cX6_expression 83 = .ok (.iinc 3 1, 3) := by decide +kernel
theorem dX6_expression_86 : decode cX6_expression 86 = .ok (.goto (-61), 3) := by decide +kernel
theorem dX6_expression_89 : decode cX6_expression 89 = .ok (.aload_n 0, 1) := by decide +kernel
theorem dX6_expression_90 : decode cX6_expression 90 = .ok (.invokevirtual 97, 3) := by decide +kernel
theorem dX6_expression_93 : decode cX6_expression 93 = .ok (.bipush 31, 2) := by decide +kernel
theorem dX6_expression_95 : decode cX6_expression 95 = .ok (.if_icmp .eq 5, 3) := by decide +kernel
theorem dX6_expression_98 : decode cX6_expression 98 = .ok (.iload_n 1, 1) := by decide +kernel
theorem dX6_expression_99 : decode cX6_expression 99 = .ok (.ireturn, 1) := by decide +kernel
theorem dX6_expression_100 : decode cX6_expression 100 = .ok (.aload_n 0, 1) := by decide +kernel
theorem dX6_expression_101 : decode cX6_expression 101 = .ok (.getfield 60, 3) := by decide +kernel
theorem dX6_expression_104 : decode cX6_expression 104 = .ok (.bipush 81, 2) := by decide +kernel
theorem dX6_expression_106 : decode cX6_expression 106 = .ok (.aload_n 0, 1) := by decide +kernel
theorem dX6_expression_107 : decode cX6_expression 107 = .ok (.invokevirtual 112, 3) := by decide +kernel
theorem dX6_expression_110 : decode cX6_expression 110 = .ok (.iconst 0, 1) := by decide +kernel
theorem dX6_expression_111 : decode cX6_expression 111 = .ok (.invokevirtual 115, 3) := by decide +kernel
theorem dX6_expression_114 : decode cX6_expression 114 = .ok (.istore_n 3, 1) := by decide +kernel
theorem dX6_expression_115 : decode cX6_expression 115 = .ok (.aload_n 0, 1) := by decide +kernel
theorem dX6_expression_116 : decode cX6_expression 116 = .ok (.invokevirtual 162, 3) := by decide +kernel
theorem dX6_expression_119 : decode cX6_expression 119 = .ok (.aload_n 0, 1) := by decide +kernel
theorem dX6_expression_120 : decode cX6_expression 120 = .ok (.invokevirtual 103, 3) := by decide +kernel
theorem dX6_expression_123 : decode cX6_expression 123 = .ok (.aload_n 0, 1) := by decide +kernel
theorem dX6_expression_124 : decode cX6_expression 124 = .ok (.getfield 60, 3) := by decide +kernel
theorem dX6_expression_127 : decode cX6_expression 127 = .ok (.iload_n 3, 1) := by decide +kernel
theorem dX6_expression_128 : decode cX6_expression 128 = .ok (.iload_n 1, 1) := by decide +kernel
theorem dX6_expression_129 : decode cX6_expression 129 = .ok (.invokevirtual 123, 3) := by decide +kernel
theorem dX6_expression_132 : decode cX6_expression 132 = .ok (.aload_n 0, 1) := by decide +kernel
theorem dX6_expression_133 : decode cX6_expression 133 = .ok (.getfield 60, 3) := by decide +kernel
theorem dX6_expression_136 : decode cX6_expression 136 = .ok (.iload_n 3, 1) := by decide +kernel
theorem dX6_expression_137 : decode cX6_expression 137 = .ok (.aload_n 0, 1) := by decide +kernel
theorem dX6_expression_138 : decode cX6_expression 138 = .ok (.invokevirtual 156, 3) := by decide +kernel
theorem dX6_expression_141 : decode cX6_expression 141 = .ok (.invokevirtual 123, 3) := by decide +kernel
theorem dX6_expression_144 : decode cX6_expression 144 = .ok (.aload_n 0, 1) := by decide +kernel
theorem dX6_expression_145 : decode cX6_expression 145 = .ok (.bipush 9, 2) := by decide +kernel
theorem dX6_expression_147 : decode cX6_expression 147 = .ok (.invokevirtual 109, 3) := by decide +kernel
theorem dX6_expression_150 : decode cX6_expression 150 = .ok (.aload_n 0, 1) := by decide +kernel
theorem dX6_expression_151 : decode cX6_expression 151 = .ok (.getfield 60, 3) := by decide +kernel
theorem dX6_expression_154 : decode cX6_expression 154 = .ok (.iload_n 3, 1) := by decide +kernel
theorem dX6_expression_155 : decode cX6_expression 155 = .ok (.aload_n 0, 1) := by decide +kernel
theorem dX6_expression_156 : decode cX6_expression 156 = .ok (.invokevirtual 156, 3) := by decide +kernel
theorem dX6_expression_159 : decode cX6_expression 159 = .ok (.invokevirtual 123, 3) := by decide +kernel
theorem dX6_expression_162 : decode cX6_expression 162 = .ok (.aload_n 0, 1) := by decide +kernel
theorem dX6_expression_163 : decode cX6_expression 163 = .ok (.dup, 1) := by decide +kernel
theorem dX6_expression_164 : decode cX6_expression 164 = .ok (.getfield 31, 3) := by decide +kernel
theorem dX6_expression_167 : decode cX6_expression 167 = .ok (.iconst 1, 1) := by decide +kernel
theorem dX6_expression_168 : decode cX6_expression 168 = .ok (.isub, 1) := by decide +kernel
theorem dX6_expression_169 : decode cX6_expression 169 = .ok (.putfield 31, 3) := by decide +kernel
theorem dX6_expression_172 : decode cX6_expression 172 = .ok (.aload_n 0, 1) := by decide +kernel
theorem dX6_expression_173 : decode cX6_expression 173 = .ok (.getfield 60, 3) := by decide +kernel
theorem dX6_expression_176 : decode cX6_expression 176 = .ok (.bipush 80, 2) := by decide +kernel
theorem dX6_expression_178 : decode cX6_expression 178 = .ok (.aload_n 0, 1) := by decide +kernel
theorem dX6_expression_179 : decode cX6_expression 179 = .ok (.getfield 60, 3) := by decide +kernel
theorem dX6_expression_182 : decode cX6_expression 182 = .ok (.iload_n 1, 1) := by decide +kernel
theorem dX6_expression_183 : decode cX6_expression 183 = .ok (.invokevirtual 223, 3) := by decide +kernel
theorem dX6_expression_186 : decode cX6_expression 186 = .ok (.iconst 0, 1) := by decide +kernel
theorem dX6_expression_187 : decode cX6_expression 187 = .ok (.invokevirtual 115, 3) := by decide +kernel
theorem dX6_expression_190 : decode cX6_expression 190 = .ok (.istore 4, 2) := by decide +kernel
theorem dX6_expression_192 : decode cX6_expression 192 = .ok (.aload_n 0, 1) := by decide +kernel
theorem dX6_expression_193 : decode cX6_expression 193 = .ok (.getfield 60, 3) := by decide +kernel
theorem dX6_expression_196 : decode cX6_expression 196 = .ok (.iload 4, 2) := by decide +kernel
theorem dX6_expression_198 : decode cX6_expression 198 = .ok (.iload_n 3, 1) := by decide +kernel
theorem dX6_expression_199 : decode cX6_expression 199 = .ok (.invokevirtual 123, 3) := by decide +kernel
theorem dX6_expression_202 : decode cX6_expression 202 = .ok (.iload 4, 2) := by decide +kernel
theorem dX6_expression_204 : decode cX6_expression 204 = .ok (.ireturn, 1) := by decide +kernel
def wc_Parser_expression_89 (rec : Nat → Int → Int → Int → cS → (Int → cS → Prop) → (cS → Prop) → Prop) (Q : Int → cS → Prop) (E : cS → Prop)  (A0 : cS) (x1 : Int) : Prop :=
  wc_Parser_kind A0  (fun r1 A2 => ((r1 = 31 → wc_Parser_place A2  (fun r11 A12 => wc_Tree_node A12 81 r11 0 (fun r19 A20 => wc_Parser_enter A20  (fun A28 => wc_Parser_advance A28  (fun A36 => wc_Tree_hang A36 r19 x1 (fun A44 => rec 12 0 0 0 A44 (fun r51 A52 => wc_Tree_hang A52 r19 r51 (fun A60 => wc_Parser_due A60 9 (fun A68 => rec 12 0 0 0 A68 (fun r75 A76 => wc_Tree_hang A76 r19 r75 (fun A84 => (zR ((yv A84 11) - 1)) ∧ wc_Tree_place (ypv A84 11 ((yv A84 11) - 1)) x1 (fun r104 A105 => wc_Tree_node A105 80 r104 0 (fun r112 A113 => wc_Tree_hang A113 r112 r19 (fun A121 => Q r112 A121))))) E) E)) E))) E))) ∧ (¬ r1 = 31 → Q x1 A2)))
def wc_Parser_expression_25B (rec : Nat → Int → Int → Int → cS → (Int → cS → Prop) → (cS → Prop) → Prop) (Q : Int → cS → Prop) (E : cS → Prop) (k25 : cS → Int → Int → Int → Prop) (A0 : cS) (x1 : Int) (x2 : Int) (x3 : Int) : Prop :=
  ((1000000 ≤ x3 → wc_Parser_expression_89 rec Q E  A0 x1) ∧ (¬ 1000000 ≤ x3 → rec 13 x1 0 0 A0 (fun _ A5 => wc_Parser_kind A5  (fun r12 A13 => wc_Parser_settle A13 x1 x2 r12 (fun A21 => wc_W_power A21 r12 (fun r28 A29 => ((¬ r28 = 0 → wc_Parser_place A29  (fun r38 A39 => ∀ z46 : Int, z46 = zw (r38 * 128) → zR z46 → ∀ z50 : Int, z50 = zw (z46 + r12) → zR z50 → ((yz A39 22) < 3000) ∧ wc_Parser_advance (yadd A39 22 z50)  (fun A61 => (zR (x3 + 1)) ∧ k25 A61 x1 x2 (x3 + 1)))) ∧ (r28 = 0 → wc_Parser_expression_89 rec Q E  A29 x1)))))) E))
def wc_Parser_expression_25 (rec : Nat → Int → Int → Int → cS → (Int → cS → Prop) → (cS → Prop) → Prop) (Q : Int → cS → Prop) (E : cS → Prop)  : Nat → cS → Int → Int → Int → Prop
  | 0 => fun _ _ _ _ => False
  | m + 1 => fun A0 x1 x2 x3 => wc_Parser_expression_25B rec Q E  (wc_Parser_expression_25 rec Q E  m) A0 x1 x2 x3
def wc_Parser_expression (rec : Nat → Int → Int → Int → cS → (Int → cS → Prop) → (cS → Prop) → Prop) (A0 : cS)  (Q : Int → cS → Prop) (E : cS → Prop) : Prop :=
  wc_Parser_place A0  (fun r1 A2 => wc_Tree_node A2 80 r1 0 (fun r9 A10 => ∃ n, wc_Parser_expression_25 rec Q E  n A10 r9 ((yz A10 22 : Nat) : Int) 0))
set_option maxHeartbeats 4000000 in
set_option maxRecDepth 100000 in
theorem cj_Parser_expression_89 {X : gX} {d : gD} {b : Nat} {Y : gYt} {c : Nat × Nat} {F0 : gM} {S0 : gSt} {mc ms : Nat} {rec : Nat → Int → Int → Int → cS → (Int → cS → Prop) → (cS → Prop) → Prop} {lv0 : Nat} (hC : gC RX6 cX6_expression 5 (some .int) "expression" (gR (9 + lv0 + 1) mc ms) d b X) (hr : hRm X b) (hst : X.la.stackTraces = false) (hT : ∀ x ∈ X.co.exceptionTable.toList, False) (hcx : yCx b c) (ih : yOkP X.la d b Y c lv0 rec) {Q : Int → cS → Prop} {E : cS → Prop}   {u : hU} {S : gSt} {A0 : cS} {x1 : Int} (Rx1 : zR x1) (ho : yOk X b u) (hZ : yZ d b Y c F0 S0 u S A0) (hw : wc_Parser_expression_89 rec Q E  A0 x1) : yG X d b (yxQi X d b Y c F0 S0 mc ms Q E) u 89 [some (.ref (gO' Y 4)), some (.int (zI x1)), none, none, none] [] := by
  unfold wc_Parser_expression_89 at hw
  refine h_aload_n hC dX6_expression_89 rfl ?_
  refine yr_callVi (As := []) hC hr ho hZ rfl (hZ.w.o 4 (by decide)) (cm_Parser_kind X.la d b  hZ.rs hw) cl_X6_97 rfl rfl (Nat.le_of_ble_eq_true rfl) (hFr_of (by omega) (Nat.le_of_ble_eq_true rfl)) dX6_expression_90 (fun r1 A2 u3 S4 R5 o6 hZ7 h8 => ?_)
  refine h_bipush (v := zI 31) hC dX6_expression_93 rfl ?_
  refine yr_icmp_eq (tgt := 100) hC R5 (by decide) dX6_expression_95 (by decide) (fun c9 => ?_) (fun c9 => ?_)
  · have h10 := h8.1 c9
    refine h_aload_n hC dX6_expression_100 rfl ?_
    refine h_get hC fl_X6_60 (hZ7.w.o 4 (by decide)) rfl dX6_expression_101 ?_
    refine h_bipush (v := zI 81) hC dX6_expression_104 rfl ?_
    refine h_aload_n hC dX6_expression_106 rfl ?_
    refine yr_callVi (As := []) hC hr o6 hZ7 rfl (hZ7.w.o 4 (by decide)) (cm_Parser_place X.la d b  hZ7.rs h10) cl_X6_112 rfl rfl (Nat.le_of_ble_eq_true rfl) (hFr_of (by omega) (Nat.le_of_ble_eq_true rfl)) dX6_expression_107 (fun r11 A12 u13 S14 R15 o16 hZ17 h18 => ?_)
    refine h_iconst (v := zI 0) hC dX6_expression_110 rfl ?_
    refine yr_callVi (As := [.int (zI 81), .int (zI r11), .int (zI 0)]) hC hr o16 hZ17 rfl (hZ17.w.o 2 (by decide)) (cm_Tree_node X.la d b (by decide) R15 (by decide) hZ17.rs h18) cl_X6_115 rfl rfl (Nat.le_of_ble_eq_true rfl) (hFr_of (by omega) (Nat.le_of_ble_eq_true rfl)) dX6_expression_111 (fun r19 A20 u21 S22 R23 o24 hZ25 h26 => ?_)
    refine h_istore_n (lv' := [some (.ref (gO' Y 4)), some (.int (zI x1)), none, some (.int (zI r19)), none]) hC dX6_expression_114 (Nat.le_of_ble_eq_true rfl) rfl rfl ?_
    refine h_aload_n hC dX6_expression_115 rfl ?_
    refine yx_callv (As := []) hC hr o24 hZ25 rfl (hZ25.w.o 4 (by decide)) (cm_Parser_enter X.la d b hst hcx  hZ25.rs h26) cl_X6_162 rfl rfl (Nat.le_of_ble_eq_true rfl) (hFr_of (by omega) (Nat.le_of_ble_eq_true rfl)) dX6_expression_116 (fun _ _ _ ho1 hz1 he1 => yx_out hC hr ho1 hz1 hT he1) (fun A28 u29 S30 o32 hZ33 h34 => ?_)
    refine h_aload_n hC dX6_expression_119 rfl ?_
    refine yr_callVv (As := []) hC hr o32 hZ33 rfl (hZ33.w.o 4 (by decide)) (cm_Parser_advance X.la d b  hZ33.rs h34) cl_X6_103 rfl rfl (Nat.le_of_ble_eq_true rfl) (hFr_of (by omega) (Nat.le_of_ble_eq_true rfl)) dX6_expression_120 (fun A36 u37 S38 o40 hZ41 h42 => ?_)
    refine h_aload_n hC dX6_expression_123 rfl ?_
    refine h_get hC fl_X6_60 (hZ41.w.o 4 (by decide)) rfl dX6_expression_124 ?_
    refine h_iload_n hC dX6_expression_127 rfl ?_
    refine h_iload_n hC dX6_expression_128 rfl ?_
    refine yr_callVv (As := [.int (zI r19), .int (zI x1)]) hC hr o40 hZ41 rfl (hZ41.w.o 2 (by decide)) (cm_Tree_hang X.la d b R23 Rx1 hZ41.rs h42) cl_X6_123 rfl rfl (Nat.le_of_ble_eq_true rfl) (hFr_of (by omega) (Nat.le_of_ble_eq_true rfl)) dX6_expression_129 (fun A44 u45 S46 o48 hZ49 h50 => ?_)
    refine h_aload_n hC dX6_expression_132 rfl ?_
    refine h_get hC fl_X6_60 (hZ49.w.o 4 (by decide)) rfl dX6_expression_133 ?_
    refine h_iload_n hC dX6_expression_136 rfl ?_
    refine h_aload_n hC dX6_expression_137 rfl ?_
    refine yx_calli (As := []) hC hr o48 hZ49 rfl (hZ49.w.o 4 (by decide)) (ih.2.2.2.2.2.2.2.2.2.2.2.2.1  hZ49.rs h50) cl_X6_156 rfl rfl (Nat.le_of_ble_eq_true rfl) (hFr_of (by omega) (Nat.le_of_ble_eq_true rfl)) dX6_expression_138 (fun _ _ _ ho1 hz1 he1 => yx_out hC hr ho1 hz1 hT he1) (fun r51 A52 u53 S54 R55 o56 hZ57 h58 => ?_)
    refine yr_callVv (As := [.int (zI r19), .int (zI r51)]) hC hr o56 hZ57 rfl (hZ57.w.o 2 (by decide)) (cm_Tree_hang X.la d b R23 R55 hZ57.rs h58) cl_X6_123 rfl rfl (Nat.le_of_ble_eq_true rfl) (hFr_of (by omega) (Nat.le_of_ble_eq_true rfl)) dX6_expression_141 (fun A60 u61 S62 o64 hZ65 h66 => ?_)
    refine h_aload_n hC dX6_expression_144 rfl ?_
    refine h_bipush (v := zI 9) hC dX6_expression_145 rfl ?_
    refine yx_callv (As := [.int (zI 9)]) hC hr o64 hZ65 rfl (hZ65.w.o 4 (by decide)) (cm_Parser_due X.la d b hst hcx (by decide) hZ65.rs h66) cl_X6_109 rfl rfl (Nat.le_of_ble_eq_true rfl) (hFr_of (by omega) (Nat.le_of_ble_eq_true rfl)) dX6_expression_147 (fun _ _ _ ho1 hz1 he1 => yx_out hC hr ho1 hz1 hT he1) (fun A68 u69 S70 o72 hZ73 h74 => ?_)
    refine h_aload_n hC dX6_expression_150 rfl ?_
    refine h_get hC fl_X6_60 (hZ73.w.o 4 (by decide)) rfl dX6_expression_151 ?_
    refine h_iload_n hC dX6_expression_154 rfl ?_
    refine h_aload_n hC dX6_expression_155 rfl ?_
    refine yx_calli (As := []) hC hr o72 hZ73 rfl (hZ73.w.o 4 (by decide)) (ih.2.2.2.2.2.2.2.2.2.2.2.2.1  hZ73.rs h74) cl_X6_156 rfl rfl (Nat.le_of_ble_eq_true rfl) (hFr_of (by omega) (Nat.le_of_ble_eq_true rfl)) dX6_expression_156 (fun _ _ _ ho1 hz1 he1 => yx_out hC hr ho1 hz1 hT he1) (fun r75 A76 u77 S78 R79 o80 hZ81 h82 => ?_)
    refine yr_callVv (As := [.int (zI r19), .int (zI r75)]) hC hr o80 hZ81 rfl (hZ81.w.o 2 (by decide)) (cm_Tree_hang X.la d b R23 R79 hZ81.rs h82) cl_X6_123 rfl rfl (Nat.le_of_ble_eq_true rfl) (hFr_of (by omega) (Nat.le_of_ble_eq_true rfl)) dX6_expression_159 (fun A84 u85 S86 o88 hZ89 h90 => ?_)
    refine h_aload_n hC dX6_expression_162 rfl ?_
    refine h_dup hC dX6_expression_163 rfl ?_
    refine h_get hC fl_X6_31 (hZ89.w.o 4 (by decide)) rfl dX6_expression_164 ?_
    refine yr_sv (e := (yv A84 11)) hZ89 11 rfl ?_
    refine h_iconst (v := zI 1) hC dX6_expression_167 rfl ?_
    refine yr_isub hC dX6_expression_168 ?_
    obtain ⟨o91, h92⟩ := h90
    refine hi_putx (i := 4) (kx := 11) hC hZ89.hi (by decide) fl_X6_31 rfl rfl rfl (Nat.le_of_ble_eq_true rfl) rfl gsame_11 (fun q => absurd q (by decide)) dX6_expression_169 (fun F93 S94 I95 K96 s97 v98 p99 => ?_)
    have hZ100 := hZ89.put I95 K96 s97 v98 o91 rfl
    clear I95 K96 s97 v98 p99
    refine yr_nu o88 hZ100 (fun u101 o102 hZ103 => ?_)
    refine h_aload_n hC dX6_expression_172 rfl ?_
    refine h_get hC fl_X6_60 (hZ103.w.o 4 (by decide)) rfl dX6_expression_173 ?_
    refine h_bipush (v := zI 80) hC dX6_expression_176 rfl ?_
    refine h_aload_n hC dX6_expression_178 rfl ?_
    refine h_get hC fl_X6_60 (hZ103.w.o 4 (by decide)) rfl dX6_expression_179 ?_
    refine h_iload_n hC dX6_expression_182 rfl ?_
    refine yr_callVi (As := [.int (zI x1)]) hC hr o102 hZ103 rfl (hZ103.w.o 2 (by decide)) (cm_Tree_place X.la d b Rx1 hZ103.rs h92) cl_X6_223 rfl rfl (Nat.le_of_ble_eq_true rfl) (hFr_of (by omega) (Nat.le_of_ble_eq_true rfl)) dX6_expression_183 (fun r104 A105 u106 S107 R108 o109 hZ110 h111 => ?_)
    refine h_iconst (v := zI 0) hC dX6_expression_186 rfl ?_
    refine yr_callVi (As := [.int (zI 80), .int (zI r104), .int (zI 0)]) hC hr o109 hZ110 rfl (hZ110.w.o 2 (by decide)) (cm_Tree_node X.la d b (by decide) R108 (by decide) hZ110.rs h111) cl_X6_115 rfl rfl (Nat.le_of_ble_eq_true rfl) (hFr_of (by omega) (Nat.le_of_ble_eq_true rfl)) dX6_expression_187 (fun r112 A113 u114 S115 R116 o117 hZ118 h119 => ?_)
    refine h_istore (lv' := [some (.ref (gO' Y 4)), some (.int (zI x1)), none, some (.int (zI r19)), some (.int (zI r112))]) hC dX6_expression_190 (Nat.le_of_ble_eq_true rfl) rfl rfl ?_
    refine h_aload_n hC dX6_expression_192 rfl ?_
    refine h_get hC fl_X6_60 (hZ118.w.o 4 (by decide)) rfl dX6_expression_193 ?_
    refine h_iload hC dX6_expression_196 rfl ?_
    refine h_iload_n hC dX6_expression_198 rfl ?_
    refine yr_callVv (As := [.int (zI r112), .int (zI r19)]) hC hr o117 hZ118 rfl (hZ118.w.o 2 (by decide)) (cm_Tree_hang X.la d b R116 R23 hZ118.rs h119) cl_X6_123 rfl rfl (Nat.le_of_ble_eq_true rfl) (hFr_of (by omega) (Nat.le_of_ble_eq_true rfl)) dX6_expression_199 (fun A121 u122 S123 o125 hZ126 h127 => ?_)
    refine h_iload hC dX6_expression_202 rfl ?_
    exact h_xret (yr_iret hC hr o125 hZ126 R116 h127 dX6_expression_204)
  · have h128 := h8.2 c9
    refine h_iload_n hC dX6_expression_98 rfl ?_
    exact h_xret (yr_iret hC hr o6 hZ7 Rx1 h128 dX6_expression_99)
set_option maxHeartbeats 4000000 in
set_option maxRecDepth 100000 in
theorem cb_Parser_expression_25 {X : gX} {d : gD} {b : Nat} {Y : gYt} {c : Nat × Nat} {F0 : gM} {S0 : gSt} {mc ms : Nat} {rec : Nat → Int → Int → Int → cS → (Int → cS → Prop) → (cS → Prop) → Prop} {lv0 : Nat} (hC : gC RX6 cX6_expression 5 (some .int) "expression" (gR (9 + lv0 + 1) mc ms) d b X) (hr : hRm X b) (hst : X.la.stackTraces = false) (hT : ∀ x ∈ X.co.exceptionTable.toList, False) (hcx : yCx b c) (ih : yOkP X.la d b Y c lv0 rec) {Q : Int → cS → Prop} {E : cS → Prop} {k25 : cS → Int → Int → Int → Prop} (hk25 : ∀ (u : hU) (S : gSt) (A0 : cS) (x1 : Int) (x2 : Int) (x3 : Int), zR x1 → zR x2 → zR x3 → yOk X b u → yZ d b Y c F0 S0 u S A0 → k25 A0 x1 x2 x3 → yG X d b (yxQi X d b Y c F0 S0 mc ms Q E) u 25 [some (.ref (gO' Y 4)), some (.int (zI x1)), some (.int (zI x2)), some (.int (zI x3)), none] []) {u : hU} {S : gSt} {A0 : cS} {x1 : Int} {x2 : Int} {x3 : Int} (Rx1 : zR x1) (Rx2 : zR x2) (Rx3 : zR x3) (ho : yOk X b u) (hZ : yZ d b Y c F0 S0 u S A0) (hw : wc_Parser_expression_25B rec Q E k25 A0 x1 x2 x3) : yG X d b (yxQi X d b Y c F0 S0 mc ms Q E) u 25 [some (.ref (gO' Y 4)), some (.int (zI x1)), some (.int (zI x2)), some (.int (zI x3)), none] [] := by
  unfold wc_Parser_expression_25B at hw
  refine h_iload_n hC dX6_expression_25 rfl ?_
  refine yr_ldc (e := 1000000) hC dX6_expression_26 kw_514 (by decide) ?_
  refine yr_icmp_ge (tgt := 89) hC Rx3 (by decide) dX6_expression_28 (by decide) (fun c1 => ?_) (fun c1 => ?_)
  · have h2 := hw.1 c1
    refine h_lv (lv' := [some (.ref (gO' Y 4)), some (.int (zI x1)), none, none, none]) ⟨rfl, rfl, trivial⟩ ?_
    exact cj_Parser_expression_89 hC hr hst hT hcx ih  Rx1 ho hZ h2
  · have h3 := hw.2 c1
    refine h_aload_n hC dX6_expression_31 rfl ?_
    refine h_iload_n hC dX6_expression_32 rfl ?_
    refine yx_callv (As := [.int (zI x1)]) hC hr ho hZ rfl (hZ.w.o 4 (by decide)) (ih.2.2.2.2.2.2.2.2.2.2.2.2.2.1 Rx1 hZ.rs h3) cl_X6_239 rfl rfl (Nat.le_of_ble_eq_true rfl) (hFr_of (by omega) (Nat.le_of_ble_eq_true rfl)) dX6_expression_33 (fun _ _ _ ho1 hz1 he1 => yx_out hC hr ho1 hz1 hT he1) (fun A5 u6 S7 o9 hZ10 h11 => ?_)
    refine h_aload_n hC dX6_expression_36 rfl ?_
    refine yr_callVi (As := []) hC hr o9 hZ10 rfl (hZ10.w.o 4 (by decide)) (cm_Parser_kind X.la d b  hZ10.rs h11) cl_X6_97 rfl rfl (Nat.le_of_ble_eq_true rfl) (hFr_of (by omega) (Nat.le_of_ble_eq_true rfl)) dX6_expression_37 (fun r12 A13 u14 S15 R16 o17 hZ18 h19 => ?_)
    refine h_istore (lv' := [some (.ref (gO' Y 4)), some (.int (zI x1)), some (.int (zI x2)), some (.int (zI x3)), some (.int (zI r12))]) hC dX6_expression_40 (Nat.le_of_ble_eq_true rfl) rfl rfl ?_
    refine h_aload_n hC dX6_expression_42 rfl ?_
    refine h_iload_n hC dX6_expression_43 rfl ?_
    refine h_iload_n hC dX6_expression_44 rfl ?_
    refine h_iload hC dX6_expression_45 rfl ?_
    refine yr_callVv (As := [.int (zI x1), .int (zI x2), .int (zI r12)]) hC hr o17 hZ18 rfl (hZ18.w.o 4 (by decide)) (cm_Parser_settle X.la d b Rx1 Rx2 R16 hZ18.rs h19) cl_X6_242 rfl rfl (Nat.le_of_ble_eq_true rfl) (hFr_of (by omega) (Nat.le_of_ble_eq_true rfl)) dX6_expression_47 (fun A21 u22 S23 o25 hZ26 h27 => ?_)
    refine h_iload hC dX6_expression_50 rfl ?_
    refine yr_callSNi (As := [.int (zI r12)]) hC hr o25 hZ26 (cm_W_power X.la d b R16 hZ26.rs h27) cl_X6_246 rfl rfl (Nat.le_of_ble_eq_true rfl) (hFr_of (by omega) (Nat.le_of_ble_eq_true rfl)) dX6_expression_52 (fun r28 A29 u30 S31 R32 o33 hZ34 h35 => ?_)
    refine yr_if_ne (tgt := 61) hC R32 dX6_expression_55 (by decide) (fun c36 => ?_) (fun c36 => ?_)
    · have h37 := h35.1 c36
      refine h_aload_n hC dX6_expression_61 rfl ?_
      refine h_get hC fl_X6_21 (hZ34.w.o 4 (by decide)) rfl dX6_expression_62 ?_
      refine h_aload_n hC dX6_expression_65 rfl ?_
      refine yr_callVi (As := []) hC hr o33 hZ34 rfl (hZ34.w.o 4 (by decide)) (cm_Parser_place X.la d b  hZ34.rs h37) cl_X6_112 rfl rfl (Nat.le_of_ble_eq_true rfl) (hFr_of (by omega) (Nat.le_of_ble_eq_true rfl)) dX6_expression_66 (fun r38 A39 u40 S41 R42 o43 hZ44 h45 => ?_)
      refine h_sipush (v := zI 128) hC dX6_expression_69 rfl ?_
      refine yr_imul hC dX6_expression_72 ?_
      refine yr_w (fun z46 e47 R48 => ?_)
      have h49 := h45 z46 e47 R48
      refine h_iload hC dX6_expression_73 rfl ?_
      refine yr_iadd hC dX6_expression_75 ?_
      refine yr_w (fun z50 e51 R52 => ?_)
      have h53 := h49 z50 e51 R52
      obtain ⟨o58, h59⟩ := h53
      refine yr_add (j := 22) hC hr o43 hZ44 (by decide) (by decide) R52 o58 cl_X6_147 rfl (Nat.le_of_ble_eq_true rfl) (hFr_of (by omega) (Nat.le_of_ble_eq_true rfl)) dX6_expression_76 (fun u54 S55 o56 hZ57 => ?_)
      refine h_aload_n hC dX6_expression_79 rfl ?_
      refine yr_callVv (As := []) hC hr o56 hZ57 rfl (hZ57.w.o 4 (by decide)) (cm_Parser_advance X.la d b  hZ57.rs h59) cl_X6_103 rfl rfl (Nat.le_of_ble_eq_true rfl) (hFr_of (by omega) (Nat.le_of_ble_eq_true rfl)) dX6_expression_80 (fun A61 u62 S63 o65 hZ66 h67 => ?_)
      refine yr_iinc (x := x3) (lv' := [some (.ref (gO' Y 4)), some (.int (zI x1)), some (.int (zI x2)), some (.int (zI (x3 + 1))), some (.int (zI r12))]) hC dX6_expression_83 rfl rfl rfl ?_
      refine h_goto (tgt := 25) hC dX6_expression_86 (by decide) ?_
      obtain ⟨o68, h69⟩ := h67
      refine h_lv (lv' := [some (.ref (gO' Y 4)), some (.int (zI x1)), some (.int (zI x2)), some (.int (zI (x3 + 1))), none]) ⟨rfl, rfl, rfl, rfl, trivial⟩ ?_
      exact hk25 _ _ _ _ _ _ Rx1 Rx2 o68 o65 hZ66 h69
    · have h70 := h35.2 c36
      refine h_goto (tgt := 89) hC dX6_expression_58 (by decide) ?_
      refine h_lv (lv' := [some (.ref (gO' Y 4)), some (.int (zI x1)), none, none, none]) ⟨rfl, rfl, trivial⟩ ?_
      exact cj_Parser_expression_89 hC hr hst hT hcx ih  Rx1 o33 hZ34 h70
theorem cl_Parser_expression_25 {X : gX} {d : gD} {b : Nat} {Y : gYt} {c : Nat × Nat} {F0 : gM} {S0 : gSt} {mc ms : Nat} {rec : Nat → Int → Int → Int → cS → (Int → cS → Prop) → (cS → Prop) → Prop} {lv0 : Nat} (hC : gC RX6 cX6_expression 5 (some .int) "expression" (gR (9 + lv0 + 1) mc ms) d b X) (hr : hRm X b) (hst : X.la.stackTraces = false) (hT : ∀ x ∈ X.co.exceptionTable.toList, False) (hcx : yCx b c) (ih : yOkP X.la d b Y c lv0 rec) {Q : Int → cS → Prop} {E : cS → Prop}   : ∀ (m : Nat) (u : hU) (S : gSt) (A0 : cS) (x1 : Int) (x2 : Int) (x3 : Int), zR x1 → zR x2 → zR x3 → yOk X b u → yZ d b Y c F0 S0 u S A0 → wc_Parser_expression_25 rec Q E  m A0 x1 x2 x3 → yG X d b (yxQi X d b Y c F0 S0 mc ms Q E) u 25 [some (.ref (gO' Y 4)), some (.int (zI x1)), some (.int (zI x2)), some (.int (zI x3)), none] [] := by
  intro m
  induction m with
  | zero => intro u S A0 x1 x2 x3 Rx1 Rx2 Rx3 ho hZ hw; exact False.elim hw
  | succ m ihm => intro u S A0 x1 x2 x3 Rx1 Rx2 Rx3 ho hZ hw; exact cb_Parser_expression_25 hC hr hst hT hcx ih  ihm Rx1 Rx2 Rx3 ho hZ hw
set_option maxHeartbeats 4000000 in
set_option maxRecDepth 100000 in
theorem cm_Parser_expression (l : Launch) (d : gD) (b : Nat) {Y : gYt} {c : Nat × Nat} (hst : l.stackTraces = false) (hcx : yCx b c) {rec : Nat → Int → Int → Int → cS → (Int → cS → Prop) → (cS → Prop) → Prop} {lv0 : Nat} (ih : yOkP l d b Y c lv0 rec) {F : gM} {k n : Nat} {S : gSt} {A0 : cS}   {Q : Int → cS → Prop} {E : cS → Prop} (hZ : yZ d b Y c F S (F, k, n) S A0) (hw : wc_Parser_expression rec A0  Q E) : hXi l d b yX6_expression cX6_expression 5 .int (9 + lv0 + 1) k n F [.ref (gO' Y 4)] (yPi d b Y c F S Q) "java/lang/IllegalStateException" (yPx d b Y c F S E) := by
  intro mc ms
  refine hX_of2 rfl (nL := 5) (Nat.le_of_ble_eq_true rfl) ?_
  intro X hX hT hC hr ho; subst hX
  show yG X d b (yxQi X d b Y c F S mc ms Q E) (F, k, n) 0 [some (.ref (gO' Y 4)), none, none, none, none] []
  unfold wc_Parser_expression at hw
  refine h_aload_n hC dX6_expression_0 rfl ?_
  refine h_get hC fl_X6_60 (hZ.w.o 4 (by decide)) rfl dX6_expression_1 ?_
  refine h_bipush (v := zI 80) hC dX6_expression_4 rfl ?_
  refine h_aload_n hC dX6_expression_6 rfl ?_
  refine yr_callVi (As := []) hC hr ho hZ rfl (hZ.w.o 4 (by decide)) (cm_Parser_place X.la d b  hZ.rs hw) cl_X6_112 rfl rfl (Nat.le_of_ble_eq_true rfl) (hFr_of (by omega) (Nat.le_of_ble_eq_true rfl)) dX6_expression_7 (fun r1 A2 u3 S4 R5 o6 hZ7 h8 => ?_)
  refine h_iconst (v := zI 0) hC dX6_expression_10 rfl ?_
  refine yr_callVi (As := [.int (zI 80), .int (zI r1), .int (zI 0)]) hC hr o6 hZ7 rfl (hZ7.w.o 2 (by decide)) (cm_Tree_node X.la d b (by decide) R5 (by decide) hZ7.rs h8) cl_X6_115 rfl rfl (Nat.le_of_ble_eq_true rfl) (hFr_of (by omega) (Nat.le_of_ble_eq_true rfl)) dX6_expression_11 (fun r9 A10 u11 S12 R13 o14 hZ15 h16 => ?_)
  refine h_istore_n (lv' := [some (.ref (gO' Y 4)), some (.int (zI r9)), none, none, none]) hC dX6_expression_14 (Nat.le_of_ble_eq_true rfl) rfl rfl ?_
  refine h_aload_n hC dX6_expression_15 rfl ?_
  refine h_get hC fl_X6_21 (hZ15.w.o 4 (by decide)) rfl dX6_expression_16 ?_
  refine yr_size (j := 22) (e := ((yz A10 22 : Nat) : Int)) hC hr o14 hZ15 (by decide) rfl cl_X6_172 rfl (Nat.le_of_ble_eq_true rfl) (hFr_of (by omega) (Nat.le_of_ble_eq_true rfl)) dX6_expression_19 ?_
  refine h_istore_n (lv' := [some (.ref (gO' Y 4)), some (.int (zI r9)), some (.int (zI ((yz A10 22 : Nat) : Int))), none, none]) hC dX6_expression_22 (Nat.le_of_ble_eq_true rfl) rfl rfl ?_
  refine h_iconst (v := zI 0) hC dX6_expression_23 rfl ?_
  refine h_istore_n (lv' := [some (.ref (gO' Y 4)), some (.int (zI r9)), some (.int (zI ((yz A10 22 : Nat) : Int))), some (.int (zI 0)), none]) hC dX6_expression_24 (Nat.le_of_ble_eq_true rfl) rfl rfl ?_
  obtain ⟨m17, h18⟩ := h16
  exact cl_Parser_expression_25 hC hr hst hT hcx ih  m17 _ _ _ _ _ _ R13 (hZ15.rz (j := 22) (by decide)) (by decide) o14 hZ15 h18
theorem dX6_operand_0 : decode cX6_operand 0 = .ok (.aload_n 0, 1) := by decide +kernel
theorem dX6_operand_1 : decode cX6_operand 1 = .ok (.getfield 31, 3) := by decide +kernel
theorem dX6_operand_4 : decode cX6_operand 4 = .ok (.istore_n 2, 1) := by decide +kernel
theorem dX6_operand_5 : decode cX6_operand 5 = .ok (.aload_n 0, 1) := by decide +kernel
theorem dX6_operand_6 : decode cX6_operand 6 = .ok (.getfield 21, 3) := by decide +kernel
theorem dX6_operand_9 : decode cX6_operand 9 = .ok (.invokevirtual 172, 3) := by decide +kernel
theorem dX6_operand_12 : decode cX6_operand 12 = .ok (.istore_n 3, 1) := by decide +kernel
theorem dX6_operand_13 : decode cX6_operand 13 = .ok (.aload_n 0, 1) := by decide +kernel
theorem dX6_operand_14 : decode cX6_operand 14 = .ok (.iconst 1, 1) := by decide +kernel
theorem dX6_operand_15 : decode cX6_operand 15 = .ok (.invokevirtual 255, 3) := by decide +kernel
theorem dX6_operand_18 : decode cX6_operand 18 = .ok (.iconst 0, 1) := by decide +kernel
theorem dX6_operand_19 : decode cX6_operand 19 = .ok (.istore 4, 2) := by decide +kernel
theorem dX6_operand_21 : decode cX6_operand 21 = .ok (.iconst 0, 1) := by decide +kernel
theorem dX6_operand_22 : decode cX6_operand 22 = .ok (.istore 5, 2) := by decide +kernel
theorem dX6_operand_24 : decode cX6_operand 24 = .ok (.iload 5, 2) := by decide +kernel
theorem dX6_operand_26 : decode cX6_operand 26 = .ok (.ldc 11, 2) := by decide +kernel
theorem dX6_operand_28 : decode cX6_operand 28 = .ok (.if_icmp .ge 169, 3) := by decide +kernel
theorem dX6_operand_31 : decode cX6_operand 31 = .ok (.aload_n 0, 1) := by decide +kernel
theorem dX6_operand_32 : decode cX6_operand 32 = .ok (.getfield 21, 3) := by decide +kernel
theorem dX6_operand_35 : decode cX6_operand 35 = .ok (.invokevirtual 172, 3) := by decide +kernel
theorem dX6_operand_38 : decode cX6_operand 38 = .ok (.istore 6, 2) := by decide +kernel
theorem dX6_operand_40 : decode cX6_operand 40 = .ok (.iload 4, 2) := by decide +kernel
theorem dX6_operand_42 : decode cX6_operand 42 = .ok (.ifCond .eq 8, 3) := by decide +kernel
theorem dX6_operand_45 : decode cX6_operand 45 = .ok (.aload_n 0, 1) := by decide +kernel
theorem dX6_operand_46 : decode cX6_operand 46 = .ok (.iconst 0, 1) := by decide +kernel
theorem dX6_operand_47 : decode cX6_operand 47 = .ok (.invokevirtual 255, 3) := by decide +kernel
theorem dX6_operand_50 : decode cX6_operand 50 = .ok (.iconst 0, 1) := by decide +kernel
theorem dX6_operand_51 : decode cX6_operand 51 = .ok (.istore 7, 2) := by decide +kernel
theorem dX6_operand_53 : decode cX6_operand 53 = .ok (.aload_n 0, 1) := by decide +kernel
theorem dX6_operand_54 : decode cX6_operand 54 = .ok (.invokevirtual 97, 3) := by decide +kernel
theorem dX6_operand_57 : decode cX6_operand 57 = .ok (.bipush 34, 2) := by decide +kernel
theorem dX6_operand_59 : decode cX6_operand 59 = .ok (.if_icmp .ne 41, 3) := by decide +kernel
theorem dX6_operand_62 : decode cX6_operand 62 = .ok (.aload_n 0, 1) := by decide +kernel
theorem dX6_operand_63 : decode cX6_operand 63 = .ok (.invokevirtual 162, 3) := by decide +kernel
theorem dX6_operand_66 : decode cX6_operand 66 = .ok (.aload_n 0, 1) := by decide +kernel
theorem dX6_operand_67 : decode cX6_operand 67 = .ok (.bipush 34, 2) := by decide +kernel
theorem dX6_operand_69 : decode cX6_operand 69 = .ok (.invokevirtual 135, 3) := by decide +kernel
theorem dX6_operand_72 : decode cX6_operand 72 = .ok (.istore 7, 2) := by decide +kernel
theorem dX6_operand_74 : decode cX6_operand 74 = .ok (.aload_n 0, 1) := by decide +kernel
theorem dX6_operand_75 : decode cX6_operand 75 = .ok (.getfield 60, 3) := by decide +kernel
theorem dX6_operand_78 : decode cX6_operand 78 = .ok (.iload 7, 2) := by decide +kernel
theorem dX6_operand_80 : decode cX6_operand 80 = .ok (.aload_n 0, 1) := by decide +kernel
theorem dX6_operand_81 : decode cX6_operand 81 = .ok (.invokevirtual 190, 3) := by decide +kernel
theorem dX6_operand_84 : decode cX6_operand 84 = .ok (.invokevirtual 123, 3) := by decide +kernel
theorem dX6_operand_87 : decode cX6_operand 87 = .ok (.aload_n 0, 1) := by decide +kernel
theorem dX6_operand_88 : decode cX6_operand 88 = .ok (.dup, 1) := by decide +kernel
theorem dX6_operand_89 : decode cX6_operand 89 = .ok (.getfield 31, 3) := by decide +kernel
theorem dX6_operand_92 : decode cX6_operand 92 = .ok (.iconst 1, 1) := by decide +kernel
theorem dX6_operand_93 : decode cX6_operand 93 = .ok (.isub, 1) := by decide +kernel
theorem dX6_operand_94 : decode cX6_operand 94 = .ok (.putfield 31, 3) := by decide +kernel
theorem dX6_operand_97 : decode cX6_operand 97 = .ok (.goto 9, 3) := by decide +kernel
theorem dX6_operand_100 : decode cX6_operand 100 = .ok (.aload_n 0, 1) := by decide +kernel
theorem dX6_operand_101 : decode cX6_operand 101 = .ok (.invokevirtual 259, 3) := by decide +kernel
theorem dX6_operand_104 : decode cX6_operand 104 = .ok (.istore 7, 2) := by decide +kernel
theorem dX6_operand_106 : decode cX6_operand 106 = .ok (.aload_n 0, 1) := by decide +kernel
theorem dX6_operand_107 : decode cX6_operand 107 = .ok (.getfield 60, 3) := by decide +kernel
theorem dX6_operand_110 : decode cX6_operand 110 = .ok (.iload_n 1, 1) := by decide +kernel
theorem dX6_operand_111 : decode cX6_operand 111 = .ok (.aload_n 0, 1) := by decide +kernel
theorem dX6_operand_112 : decode cX6_operand 112 = .ok (.invokevirtual 97, 3) := by decide +kernel
theorem dX6_operand_115 : decode cX6_operand 115 = .ok (.bipush 7, 2) := by decide +kernel
theorem dX6_operand_117 : decode cX6_operand 117 = .ok (.if_icmp .ne 12, 3) := by decide +kernel
theorem dX6_operand_120 : decode cX6_operand 120 = .ok (.aload_n 0, 1) := by decide +kernel
theorem dX6_operand_121 : decode cX6_operand 121 = .ok (.iload 7, 2) := by decide +kernel
theorem dX6_operand_123 : decode cX6_operand 123 = .ok (.invokevirtual 262, 3) := by decide +kernel
theorem dX6_operand_126 : decode cX6_operand 126 = .ok (.goto 5, 3) := by decide +kernel
theorem dX6_operand_129 : decode cX6_operand 129 = .ok (.iload 7, 2) := by decide +kernel
theorem dX6_operand_131 : decode cX6_operand 131 = .ok (.invokevirtual 123, 3) := by decide +kernel
theorem dX6_operand_134 : decode cX6_operand 134 = .ok (.aload_n 0, 1) := by decide +kernel
theorem dX6_operand_135 : decode cX6_operand 135 = .ok (.iload_n 1, 1) := by decide +kernel
theorem dX6_operand_136 : decode cX6_operand 136 = .ok (.iload 6, 2) := by decide +kernel
theorem dX6_operand_138 : decode cX6_operand 138 = .ok (.invokevirtual 265, 3) := by decide +kernel
theorem dX6_operand_141 : decode cX6_operand 141 = .ok (.iload 4, 2) := by decide +kernel
theorem dX6_operand_143 : decode cX6_operand 143 = .ok (.ifCond .eq 13, 3) := by decide +kernel
theorem dX6_operand_146 : decode cX6_operand 146 = .ok (.aload_n 0, 1) := by decide +kernel
theorem dX6_operand_147 : decode cX6_operand 147 = .ok (.getfield 60, 3) := by decide +kernel
theorem dX6_operand_150 : decode cX6_operand 150 = .ok (.iload_n 1, 1) := by decide +kernel
theorem dX6_operand_151 : decode cX6_operand 151 = .ok (.iload 4, 2) := by decide +kernel
theorem dX6_operand_153 : decode cX6_operand 153 = .ok (.invokevirtual 123, 3) := by decide +kernel
theorem dX6_operand_156 : decode cX6_operand 156 = .ok (.aload_n 0, 1) := by decide +kernel
theorem dX6_operand_157 : decode cX6_operand 157 = .ok (.invokevirtual 97, 3) := by decide +kernel
theorem dX6_operand_160 : decode cX6_operand 160 = .ok (.bipush 13, 2) := by decide +kernel
theorem dX6_operand_162 : decode cX6_operand 162 = .ok (.if_icmp .eq 15, 3) := by decide +kernel
theorem dX6_operand_165 : decode cX6_operand 165 = .ok (.aload_n 0, 1) := by decide +kernel
theorem dX6_operand_166 : decode cX6_operand 166 = .ok (.invokevirtual 97, 3) := by decide +kernel
theorem dX6_operand_169 : decode cX6_operand 169 = .ok (.bipush 14, 2) := by decide +kernel
theorem dX6_operand_171 : decode cX6_operand 171 = .ok (.if_icmp .eq 6, 3) := by decide +kernel
theorem dX6_operand_174 : decode cX6_operand 174 = .ok (.goto 23, 3) := by decide +kernel
theorem dX6_operand_177 : decode cX6_operand 177 = .ok (.aload_n 0, 1) := by decide +kernel
theorem dX6_operand_178 : decode cX6_operand 178 = .ok (.invokevirtual 162, 3) := by decide +kernel
theorem dX6_operand_181 : decode cX6_operand 181 = .ok (.aload_n 0, 1) := by decide +kernel
theorem dX6_operand_182 : decode cX6_operand 182 = .ok (.aload_n 0, 1) := by decide +kernel
theorem dX6_operand_183 : decode cX6_operand 183 = .ok (.invokevirtual 97, 3) := by decide +kernel
theorem dX6_operand_186 : decode cX6_operand 186 = .ok (.invokevirtual 135, 3) := by decide +kernel
theorem dX6_operand_189 : decode cX6_operand 189 = .ok (.istore 4, 2) := by decide +kernel
theorem dX6_operand_191 : decode cX6_operand 191 = .ok (.iinc 5 1, 3) := by decide +kernel
theorem dX6_operand_194 : decode cX6_operand 194 = .ok (.goto (-170), 3) := by decide +kernel
theorem dX6_operand_197 : decode cX6_operand 197 = .ok (.aload_n 0, 1) := by decide +kernel
theorem dX6_operand_198 : decode cX6_operand 198 = .ok (.iload_n 1, 1) := by decide +kernel
theorem dX6_operand_199 : decode cX6_operand 199 = .ok (.iload_n 3, 1) := by decide +kernel
theorem dX6_operand_200 : decode cX6_operand 200 = .ok (.invokevirtual 265, 3) := by decide +kernel
theorem dX6_operand_203 : decode cX6_operand 203 = .ok (.aload_n 0, 1) := by decide +kernel
theorem dX6_operand_204 : decode cX6_operand 204 = .ok (.iload_n 2, 1) := by decide +kernel
theorem dX6_operand_205 : decode cX6_operand 205 = .ok (.putfield 31, 3) := by decide +kernel
theorem dX6_operand_208 : decode cX6_operand 208 = .ok (.return_, 1) := by decide +kernel
def wc_Parser_operand_156 (rec : Nat → Int → Int → Int → cS → (Int → cS → Prop) → (cS → Prop) → Prop) (Q : cS → Prop) (E : cS → Prop) (k24 : cS → Int → Int → Int → Int → Int → Prop) (A0 : cS) (x1 : Int) (x2 : Int) (x3 : Int) (x5 : Int) : Prop :=
  wc_Parser_kind A0  (fun r1 A2 => ((r1 = 13 → wc_Parser_enter A2  (fun A12 => wc_Parser_kind A12  (fun r19 A20 => wc_Parser_leaf A20 r19 (fun r27 A28 => (zR (x5 + 1)) ∧ k24 A28 x1 x2 x3 r27 (x5 + 1)))) E) ∧ (¬ r1 = 13 → wc_Parser_kind A2  (fun r38 A39 => ((r38 = 14 → wc_Parser_enter A39  (fun A49 => wc_Parser_kind A49  (fun r56 A57 => wc_Parser_leaf A57 r56 (fun r64 A65 => (zR (x5 + 1)) ∧ k24 A65 x1 x2 x3 r64 (x5 + 1)))) E) ∧ (¬ r38 = 14 → wc_Parser_hangSigns A39 x1 x3 (fun A76 => Q (ypv A76 11 x2))))))))
def wc_Parser_operand_106 (rec : Nat → Int → Int → Int → cS → (Int → cS → Prop) → (cS → Prop) → Prop) (Q : cS → Prop) (E : cS → Prop) (k24 : cS → Int → Int → Int → Int → Int → Prop) (A0 : cS) (x1 : Int) (x2 : Int) (x3 : Int) (x4 : Int) (x5 : Int) (x6 : Int) (x7 : Int) : Prop :=
  wc_Parser_kind A0  (fun r1 A2 => ((¬ r1 = 7 → wc_Tree_hang A2 x1 x7 (fun A12 => wc_Parser_hangSigns A12 x1 x6 (fun A20 => ((x4 = 0 → wc_Parser_operand_156 rec Q E k24 A20 x1 x2 x3 x5) ∧ (¬ x4 = 0 → wc_Tree_hang A20 x1 x4 (fun A31 => wc_Parser_operand_156 rec Q E k24 A31 x1 x2 x3 x5)))))) ∧ (r1 = 7 → rec 16 x7 0 0 A2 (fun r39 A40 => wc_Tree_hang A40 x1 r39 (fun A48 => wc_Parser_hangSigns A48 x1 x6 (fun A56 => ((x4 = 0 → wc_Parser_operand_156 rec Q E k24 A56 x1 x2 x3 x5) ∧ (¬ x4 = 0 → wc_Tree_hang A56 x1 x4 (fun A67 => wc_Parser_operand_156 rec Q E k24 A67 x1 x2 x3 x5)))))) E)))
def wc_Parser_operand_50 (rec : Nat → Int → Int → Int → cS → (Int → cS → Prop) → (cS → Prop) → Prop) (Q : cS → Prop) (E : cS → Prop) (k24 : cS → Int → Int → Int → Int → Int → Prop) (A0 : cS) (x1 : Int) (x2 : Int) (x3 : Int) (x4 : Int) (x5 : Int) (x6 : Int) : Prop :=
  wc_Parser_kind A0  (fun r1 A2 => ((¬ r1 = 34 → rec 14 0 0 0 A2 (fun r11 A12 => wc_Parser_operand_106 rec Q E k24 A12 x1 x2 x3 x4 x5 x6 r11) E) ∧ (r1 = 34 → wc_Parser_enter A2  (fun A21 => wc_Parser_leaf A21 34 (fun r28 A29 => rec 6 0 0 0 A29 (fun r36 A37 => wc_Tree_hang A37 r28 r36 (fun A45 => (zR ((yv A45 11) - 1)) ∧ wc_Parser_operand_106 rec Q E k24 (ypv A45 11 ((yv A45 11) - 1)) x1 x2 x3 x4 x5 x6 r28)) E)) E)))
def wc_Parser_operand_24B (rec : Nat → Int → Int → Int → cS → (Int → cS → Prop) → (cS → Prop) → Prop) (Q : cS → Prop) (E : cS → Prop) (k24 : cS → Int → Int → Int → Int → Int → Prop) (A0 : cS) (x1 : Int) (x2 : Int) (x3 : Int) (x4 : Int) (x5 : Int) : Prop :=
  ((1000000 ≤ x5 → wc_Parser_hangSigns A0 x1 x3 (fun A4 => Q (ypv A4 11 x2))) ∧ (¬ 1000000 ≤ x5 → ((x4 = 0 → wc_Parser_operand_50 rec Q E k24 A0 x1 x2 x3 x4 x5 ((yz A0 22 : Nat) : Int)) ∧ (¬ x4 = 0 → wc_Parser_passSigns A0 0 (fun A27 => wc_Parser_operand_50 rec Q E k24 A27 x1 x2 x3 x4 x5 ((yz A0 22 : Nat) : Int)) E))))
def wc_Parser_operand_24 (rec : Nat → Int → Int → Int → cS → (Int → cS → Prop) → (cS → Prop) → Prop) (Q : cS → Prop) (E : cS → Prop)  : Nat → cS → Int → Int → Int → Int → Int → Prop
  | 0 => fun _ _ _ _ _ _ => False
  | m + 1 => fun A0 x1 x2 x3 x4 x5 => wc_Parser_operand_24B rec Q E  (wc_Parser_operand_24 rec Q E  m) A0 x1 x2 x3 x4 x5
def wc_Parser_operand (rec : Nat → Int → Int → Int → cS → (Int → cS → Prop) → (cS → Prop) → Prop) (A0 : cS) (a0 : Int) (Q : cS → Prop) (E : cS → Prop) : Prop :=
  wc_Parser_passSigns A0 1 (fun A2 => ∃ n, wc_Parser_operand_24 rec Q E  n A2 a0 (yv A0 11) ((yz A0 22 : Nat) : Int) 0 0) E
set_option maxHeartbeats 4000000 in
set_option maxRecDepth 100000 in
theorem cj_Parser_operand_156 {X : gX} {d : gD} {b : Nat} {Y : gYt} {c : Nat × Nat} {F0 : gM} {S0 : gSt} {mc ms : Nat} {rec : Nat → Int → Int → Int → cS → (Int → cS → Prop) → (cS → Prop) → Prop} {lv0 : Nat} (hC : gC RX6 cX6_operand 8 none "operand" (gR (9 + lv0 + 1) mc ms) d b X) (hr : hRm X b) (hst : X.la.stackTraces = false) (hT : ∀ x ∈ X.co.exceptionTable.toList, False) (hcx : yCx b c) (ih : yOkP X.la d b Y c lv0 rec) {Q : cS → Prop} {E : cS → Prop} {k24 : cS → Int → Int → Int → Int → Int → Prop} (hk24 : ∀ (u : hU) (S : gSt) (A0 : cS) (x1 : Int) (x2 : Int) (x3 : Int) (x4 : Int) (x5 : Int), zR x1 → zR x2 → zR x3 → zR x4 → zR x5 → yOk X b u → yZ d b Y c F0 S0 u S A0 → k24 A0 x1 x2 x3 x4 x5 → yG X d b (yxQv X d b Y c F0 S0 mc ms Q E) u 24 [some (.ref (gO' Y 4)), some (.int (zI x1)), some (.int (zI x2)), some (.int (zI x3)), some (.int (zI x4)), some (.int (zI x5)), none, none] []) {u : hU} {S : gSt} {A0 : cS} {x1 : Int} {x2 : Int} {x3 : Int} {x5 : Int} (Rx1 : zR x1) (Rx2 : zR x2) (Rx3 : zR x3) (Rx5 : zR x5) (ho : yOk X b u) (hZ : yZ d b Y c F0 S0 u S A0) (hw : wc_Parser_operand_156 rec Q E k24 A0 x1 x2 x3 x5) : yG X d b (yxQv X d b Y c F0 S0 mc ms Q E) u 156 [some (.ref (gO' Y 4)), some (.int (zI x1)), some (.int (zI x2)), some (.int (zI x3)), none, some (.int (zI x5)), none, none] [] := by
  unfold wc_Parser_operand_156 at hw
  refine h_aload_n hC dX6_operand_156 rfl ?_
  refine yr_callVi (As := []) hC hr ho hZ rfl (hZ.w.o 4 (by decide)) (cm_Parser_kind X.la d b  hZ.rs hw) cl_X6_97 rfl rfl (Nat.le_of_ble_eq_true rfl) (hFr_of (by omega) (Nat.le_of_ble_eq_true rfl)) dX6_operand_157 (fun r1 A2 u3 S4 R5 o6 hZ7 h8 => ?_)
  refine h_bipush (v := zI 13) hC dX6_operand_160 rfl ?_
  refine yr_icmp_eq (tgt := 177) hC R5 (by decide) dX6_operand_162 (by decide) (fun c9 => ?_) (fun c9 => ?_)
  · have h10 := h8.1 c9
    refine h_aload_n hC dX6_operand_177 rfl ?_
    refine yx_callv (As := []) hC hr o6 hZ7 rfl (hZ7.w.o 4 (by decide)) (cm_Parser_enter X.la d b hst hcx  hZ7.rs h10) cl_X6_162 rfl rfl (Nat.le_of_ble_eq_true rfl) (hFr_of (by omega) (Nat.le_of_ble_eq_true rfl)) dX6_operand_178 (fun _ _ _ ho1 hz1 he1 => yx_out hC hr ho1 hz1 hT he1) (fun A12 u13 S14 o16 hZ17 h18 => ?_)
    refine h_aload_n hC dX6_operand_181 rfl ?_
    refine h_aload_n hC dX6_operand_182 rfl ?_
    refine yr_callVi (As := []) hC hr o16 hZ17 rfl (hZ17.w.o 4 (by decide)) (cm_Parser_kind X.la d b  hZ17.rs h18) cl_X6_97 rfl rfl (Nat.le_of_ble_eq_true rfl) (hFr_of (by omega) (Nat.le_of_ble_eq_true rfl)) dX6_operand_183 (fun r19 A20 u21 S22 R23 o24 hZ25 h26 => ?_)
    refine yr_callVi (As := [.int (zI r19)]) hC hr o24 hZ25 rfl (hZ25.w.o 4 (by decide)) (cm_Parser_leaf X.la d b R23 hZ25.rs h26) cl_X6_135 rfl rfl (Nat.le_of_ble_eq_true rfl) (hFr_of (by omega) (Nat.le_of_ble_eq_true rfl)) dX6_operand_186 (fun r27 A28 u29 S30 R31 o32 hZ33 h34 => ?_)
    refine h_istore (lv' := [some (.ref (gO' Y 4)), some (.int (zI x1)), some (.int (zI x2)), some (.int (zI x3)), some (.int (zI r27)), some (.int (zI x5)), none, none]) hC dX6_operand_189 (Nat.le_of_ble_eq_true rfl) rfl rfl ?_
    refine yr_iinc (x := x5) (lv' := [some (.ref (gO' Y 4)), some (.int (zI x1)), some (.int (zI x2)), some (.int (zI x3)), some (.int (zI r27)), some (.int (zI (x5 + 1))), none, none]) hC dX6_operand_191 rfl rfl rfl ?_
    refine h_goto (tgt := 24) hC dX6_operand_194 (by decide) ?_
    obtain ⟨o35, h36⟩ := h34
    exact hk24 _ _ _ _ _ _ _ _ Rx1 Rx2 Rx3 R31 o35 o32 hZ33 h36
  · have h37 := h8.2 c9
    refine h_aload_n hC dX6_operand_165 rfl ?_
    refine yr_callVi (As := []) hC hr o6 hZ7 rfl (hZ7.w.o 4 (by decide)) (cm_Parser_kind X.la d b  hZ7.rs h37) cl_X6_97 rfl rfl (Nat.le_of_ble_eq_true rfl) (hFr_of (by omega) (Nat.le_of_ble_eq_true rfl)) dX6_operand_166 (fun r38 A39 u40 S41 R42 o43 hZ44 h45 => ?_)
    refine h_bipush (v := zI 14) hC dX6_operand_169 rfl ?_
    refine yr_icmp_eq (tgt := 177) hC R42 (by decide) dX6_operand_171 (by decide) (fun c46 => ?_) (fun c46 => ?_)
    · have h47 := h45.1 c46
      refine h_aload_n hC dX6_operand_177 rfl ?_
      refine yx_callv (As := []) hC hr o43 hZ44 rfl (hZ44.w.o 4 (by decide)) (cm_Parser_enter X.la d b hst hcx  hZ44.rs h47) cl_X6_162 rfl rfl (Nat.le_of_ble_eq_true rfl) (hFr_of (by omega) (Nat.le_of_ble_eq_true rfl)) dX6_operand_178 (fun _ _ _ ho1 hz1 he1 => yx_out hC hr ho1 hz1 hT he1) (fun A49 u50 S51 o53 hZ54 h55 => ?_)
      refine h_aload_n hC dX6_operand_181 rfl ?_
      refine h_aload_n hC dX6_operand_182 rfl ?_
      refine yr_callVi (As := []) hC hr o53 hZ54 rfl (hZ54.w.o 4 (by decide)) (cm_Parser_kind X.la d b  hZ54.rs h55) cl_X6_97 rfl rfl (Nat.le_of_ble_eq_true rfl) (hFr_of (by omega) (Nat.le_of_ble_eq_true rfl)) dX6_operand_183 (fun r56 A57 u58 S59 R60 o61 hZ62 h63 => ?_)
      refine yr_callVi (As := [.int (zI r56)]) hC hr o61 hZ62 rfl (hZ62.w.o 4 (by decide)) (cm_Parser_leaf X.la d b R60 hZ62.rs h63) cl_X6_135 rfl rfl (Nat.le_of_ble_eq_true rfl) (hFr_of (by omega) (Nat.le_of_ble_eq_true rfl)) dX6_operand_186 (fun r64 A65 u66 S67 R68 o69 hZ70 h71 => ?_)
      refine h_istore (lv' := [some (.ref (gO' Y 4)), some (.int (zI x1)), some (.int (zI x2)), some (.int (zI x3)), some (.int (zI r64)), some (.int (zI x5)), none, none]) hC dX6_operand_189 (Nat.le_of_ble_eq_true rfl) rfl rfl ?_
      refine yr_iinc (x := x5) (lv' := [some (.ref (gO' Y 4)), some (.int (zI x1)), some (.int (zI x2)), some (.int (zI x3)), some (.int (zI r64)), some (.int (zI (x5 + 1))), none, none]) hC dX6_operand_191 rfl rfl rfl ?_
      refine h_goto (tgt := 24) hC dX6_operand_194 (by decide) ?_
      obtain ⟨o72, h73⟩ := h71
      exact hk24 _ _ _ _ _ _ _ _ Rx1 Rx2 Rx3 R68 o72 o69 hZ70 h73
    · have h74 := h45.2 c46
      refine h_goto (tgt := 197) hC dX6_operand_174 (by decide) ?_
      refine h_aload_n hC dX6_operand_197 rfl ?_
      refine h_iload_n hC dX6_operand_198 rfl ?_
      refine h_iload_n hC dX6_operand_199 rfl ?_
      refine yr_callVv (As := [.int (zI x1), .int (zI x3)]) hC hr o43 hZ44 rfl (hZ44.w.o 4 (by decide)) (cm_Parser_hangSigns X.la d b Rx1 Rx3 hZ44.rs h74) cl_X6_265 rfl rfl (Nat.le_of_ble_eq_true rfl) (hFr_of (by omega) (Nat.le_of_ble_eq_true rfl)) dX6_operand_200 (fun A76 u77 S78 o80 hZ81 h82 => ?_)
      refine h_aload_n hC dX6_operand_203 rfl ?_
      refine h_iload_n hC dX6_operand_204 rfl ?_
      refine hi_putx (i := 4) (kx := 11) hC hZ81.hi (by decide) fl_X6_31 rfl rfl rfl (Nat.le_of_ble_eq_true rfl) rfl gsame_11 (fun q => absurd q (by decide)) dX6_operand_205 (fun F83 S84 I85 K86 s87 v88 p89 => ?_)
      have hZ90 := hZ81.put I85 K86 s87 v88 Rx2 rfl
      clear I85 K86 s87 v88 p89
      refine yr_nu o80 hZ90 (fun u91 o92 hZ93 => ?_)
      exact h_xret (yr_vret hC hr o92 hZ93 h82 dX6_operand_208)
set_option maxHeartbeats 4000000 in
set_option maxRecDepth 100000 in
theorem cj_Parser_operand_106 {X : gX} {d : gD} {b : Nat} {Y : gYt} {c : Nat × Nat} {F0 : gM} {S0 : gSt} {mc ms : Nat} {rec : Nat → Int → Int → Int → cS → (Int → cS → Prop) → (cS → Prop) → Prop} {lv0 : Nat} (hC : gC RX6 cX6_operand 8 none "operand" (gR (9 + lv0 + 1) mc ms) d b X) (hr : hRm X b) (hst : X.la.stackTraces = false) (hT : ∀ x ∈ X.co.exceptionTable.toList, False) (hcx : yCx b c) (ih : yOkP X.la d b Y c lv0 rec) {Q : cS → Prop} {E : cS → Prop} {k24 : cS → Int → Int → Int → Int → Int → Prop} (hk24 : ∀ (u : hU) (S : gSt) (A0 : cS) (x1 : Int) (x2 : Int) (x3 : Int) (x4 : Int) (x5 : Int), zR x1 → zR x2 → zR x3 → zR x4 → zR x5 → yOk X b u → yZ d b Y c F0 S0 u S A0 → k24 A0 x1 x2 x3 x4 x5 → yG X d b (yxQv X d b Y c F0 S0 mc ms Q E) u 24 [some (.ref (gO' Y 4)), some (.int (zI x1)), some (.int (zI x2)), some (.int (zI x3)), some (.int (zI x4)), some (.int (zI x5)), none, none] []) {u : hU} {S : gSt} {A0 : cS} {x1 : Int} {x2 : Int} {x3 : Int} {x4 : Int} {x5 : Int} {x6 : Int} {x7 : Int} (Rx1 : zR x1) (Rx2 : zR x2) (Rx3 : zR x3) (Rx4 : zR x4) (Rx5 : zR x5) (Rx6 : zR x6) (Rx7 : zR x7) (ho : yOk X b u) (hZ : yZ d b Y c F0 S0 u S A0) (hw : wc_Parser_operand_106 rec Q E k24 A0 x1 x2 x3 x4 x5 x6 x7) : yG X d b (yxQv X d b Y c F0 S0 mc ms Q E) u 106 [some (.ref (gO' Y 4)), some (.int (zI x1)), some (.int (zI x2)), some (.int (zI x3)), some (.int (zI x4)), some (.int (zI x5)), some (.int (zI x6)), some (.int (zI x7))] [] := by
  unfold wc_Parser_operand_106 at hw
  refine h_aload_n hC dX6_operand_106 rfl ?_
  refine h_get hC fl_X6_60 (hZ.w.o 4 (by decide)) rfl dX6_operand_107 ?_
  refine h_iload_n hC dX6_operand_110 rfl ?_
  refine h_aload_n hC dX6_operand_111 rfl ?_
  refine yr_callVi (As := []) hC hr ho hZ rfl (hZ.w.o 4 (by decide)) (cm_Parser_kind X.la d b  hZ.rs hw) cl_X6_97 rfl rfl (Nat.le_of_ble_eq_true rfl) (hFr_of (by omega) (Nat.le_of_ble_eq_true rfl)) dX6_operand_112 (fun r1 A2 u3 S4 R5 o6 hZ7 h8 => ?_)
  refine h_bipush (v := zI 7) hC dX6_operand_115 rfl ?_
  refine yr_icmp_ne (tgt := 129) hC R5 (by decide) dX6_operand_117 (by decide) (fun c9 => ?_) (fun c9 => ?_)
  · have h10 := h8.1 c9
    refine h_iload hC dX6_operand_129 rfl ?_
    refine yr_callVv (As := [.int (zI x1), .int (zI x7)]) hC hr o6 hZ7 rfl (hZ7.w.o 2 (by decide)) (cm_Tree_hang X.la d b Rx1 Rx7 hZ7.rs h10) cl_X6_123 rfl rfl (Nat.le_of_ble_eq_true rfl) (hFr_of (by omega) (Nat.le_of_ble_eq_true rfl)) dX6_operand_131 (fun A12 u13 S14 o16 hZ17 h18 => ?_)
    refine h_aload_n hC dX6_operand_134 rfl ?_
    refine h_iload_n hC dX6_operand_135 rfl ?_
    refine h_iload hC dX6_operand_136 rfl ?_
    refine yr_callVv (As := [.int (zI x1), .int (zI x6)]) hC hr o16 hZ17 rfl (hZ17.w.o 4 (by decide)) (cm_Parser_hangSigns X.la d b Rx1 Rx6 hZ17.rs h18) cl_X6_265 rfl rfl (Nat.le_of_ble_eq_true rfl) (hFr_of (by omega) (Nat.le_of_ble_eq_true rfl)) dX6_operand_138 (fun A20 u21 S22 o24 hZ25 h26 => ?_)
    refine h_iload hC dX6_operand_141 rfl ?_
    refine yr_if_eq (tgt := 156) hC Rx4 dX6_operand_143 (by decide) (fun c27 => ?_) (fun c27 => ?_)
    · have h28 := h26.1 c27
      refine h_lv (lv' := [some (.ref (gO' Y 4)), some (.int (zI x1)), some (.int (zI x2)), some (.int (zI x3)), none, some (.int (zI x5)), none, none]) ⟨rfl, rfl, rfl, rfl, rfl, trivial⟩ ?_
      exact cj_Parser_operand_156 hC hr hst hT hcx ih hk24 Rx1 Rx2 Rx3 Rx5 o24 hZ25 h28
    · have h29 := h26.2 c27
      refine h_aload_n hC dX6_operand_146 rfl ?_
      refine h_get hC fl_X6_60 (hZ25.w.o 4 (by decide)) rfl dX6_operand_147 ?_
      refine h_iload_n hC dX6_operand_150 rfl ?_
      refine h_iload hC dX6_operand_151 rfl ?_
      refine yr_callVv (As := [.int (zI x1), .int (zI x4)]) hC hr o24 hZ25 rfl (hZ25.w.o 2 (by decide)) (cm_Tree_hang X.la d b Rx1 Rx4 hZ25.rs h29) cl_X6_123 rfl rfl (Nat.le_of_ble_eq_true rfl) (hFr_of (by omega) (Nat.le_of_ble_eq_true rfl)) dX6_operand_153 (fun A31 u32 S33 o35 hZ36 h37 => ?_)
      refine h_lv (lv' := [some (.ref (gO' Y 4)), some (.int (zI x1)), some (.int (zI x2)), some (.int (zI x3)), none, some (.int (zI x5)), none, none]) ⟨rfl, rfl, rfl, rfl, rfl, trivial⟩ ?_
      exact cj_Parser_operand_156 hC hr hst hT hcx ih hk24 Rx1 Rx2 Rx3 Rx5 o35 hZ36 h37
  · have h38 := h8.2 c9
    refine h_aload_n hC dX6_operand_120 rfl ?_
    refine h_iload hC dX6_operand_121 rfl ?_
    refine yx_calli (As := [.int (zI x7)]) hC hr o6 hZ7 rfl (hZ7.w.o 4 (by decide)) (ih.2.2.2.2.2.2.2.2.2.2.2.2.2.2.2.2 Rx7 hZ7.rs h38) cl_X6_262 rfl rfl (Nat.le_of_ble_eq_true rfl) (hFr_of (by omega) (Nat.le_of_ble_eq_true rfl)) dX6_operand_123 (fun _ _ _ ho1 hz1 he1 => yx_out hC hr ho1 hz1 hT he1) (fun r39 A40 u41 S42 R43 o44 hZ45 h46 => ?_)
    refine h_goto (tgt := 131) hC dX6_operand_126 (by decide) ?_
    refine yr_callVv (As := [.int (zI x1), .int (zI r39)]) hC hr o44 hZ45 rfl (hZ45.w.o 2 (by decide)) (cm_Tree_hang X.la d b Rx1 R43 hZ45.rs h46) cl_X6_123 rfl rfl (Nat.le_of_ble_eq_true rfl) (hFr_of (by omega) (Nat.le_of_ble_eq_true rfl)) dX6_operand_131 (fun A48 u49 S50 o52 hZ53 h54 => ?_)
    refine h_aload_n hC dX6_operand_134 rfl ?_
    refine h_iload_n hC dX6_operand_135 rfl ?_
    refine h_iload hC dX6_operand_136 rfl ?_
    refine yr_callVv (As := [.int (zI x1), .int (zI x6)]) hC hr o52 hZ53 rfl (hZ53.w.o 4 (by decide)) (cm_Parser_hangSigns X.la d b Rx1 Rx6 hZ53.rs h54) cl_X6_265 rfl rfl (Nat.le_of_ble_eq_true rfl) (hFr_of (by omega) (Nat.le_of_ble_eq_true rfl)) dX6_operand_138 (fun A56 u57 S58 o60 hZ61 h62 => ?_)
    refine h_iload hC dX6_operand_141 rfl ?_
    refine yr_if_eq (tgt := 156) hC Rx4 dX6_operand_143 (by decide) (fun c63 => ?_) (fun c63 => ?_)
    · have h64 := h62.1 c63
      refine h_lv (lv' := [some (.ref (gO' Y 4)), some (.int (zI x1)), some (.int (zI x2)), some (.int (zI x3)), none, some (.int (zI x5)), none, none]) ⟨rfl, rfl, rfl, rfl, rfl, trivial⟩ ?_
      exact cj_Parser_operand_156 hC hr hst hT hcx ih hk24 Rx1 Rx2 Rx3 Rx5 o60 hZ61 h64
    · have h65 := h62.2 c63
      refine h_aload_n hC dX6_operand_146 rfl ?_
      refine h_get hC fl_X6_60 (hZ61.w.o 4 (by decide)) rfl dX6_operand_147 ?_
      refine h_iload_n hC dX6_operand_150 rfl ?_
      refine h_iload hC dX6_operand_151 rfl ?_
      refine yr_callVv (As := [.int (zI x1), .int (zI x4)]) hC hr o60 hZ61 rfl (hZ61.w.o 2 (by decide)) (cm_Tree_hang X.la d b Rx1 Rx4 hZ61.rs h65) cl_X6_123 rfl rfl (Nat.le_of_ble_eq_true rfl) (hFr_of (by omega) (Nat.le_of_ble_eq_true rfl)) dX6_operand_153 (fun A67 u68 S69 o71 hZ72 h73 => ?_)
      refine h_lv (lv' := [some (.ref (gO' Y 4)), some (.int (zI x1)), some (.int (zI x2)), some (.int (zI x3)), none, some (.int (zI x5)), none, none]) ⟨rfl, rfl, rfl, rfl, rfl, trivial⟩ ?_
      exact cj_Parser_operand_156 hC hr hst hT hcx ih hk24 Rx1 Rx2 Rx3 Rx5 o71 hZ72 h73
set_option maxHeartbeats 4000000 in
set_option maxRecDepth 100000 in
theorem cj_Parser_operand_50 {X : gX} {d : gD} {b : Nat} {Y : gYt} {c : Nat × Nat} {F0 : gM} {S0 : gSt} {mc ms : Nat} {rec : Nat → Int → Int → Int → cS → (Int → cS → Prop) → (cS → Prop) → Prop} {lv0 : Nat} (hC : gC RX6 cX6_operand 8 none "operand" (gR (9 + lv0 + 1) mc ms) d b X) (hr : hRm X b) (hst : X.la.stackTraces = false) (hT : ∀ x ∈ X.co.exceptionTable.toList, False) (hcx : yCx b c) (ih : yOkP X.la d b Y c lv0 rec) {Q : cS → Prop} {E : cS → Prop} {k24 : cS → Int → Int → Int → Int → Int → Prop} (hk24 : ∀ (u : hU) (S : gSt) (A0 : cS) (x1 : Int) (x2 : Int) (x3 : Int) (x4 : Int) (x5 : Int), zR x1 → zR x2 → zR x3 → zR x4 → zR x5 → yOk X b u → yZ d b Y c F0 S0 u S A0 → k24 A0 x1 x2 x3 x4 x5 → yG X d b (yxQv X d b Y c F0 S0 mc ms Q E) u 24 [some (.ref (gO' Y 4)), some (.int (zI x1)), some (.int (zI x2)), some (.int (zI x3)), some (.int (zI x4)), some (.int (zI x5)), none, none] []) {u : hU} {S : gSt} {A0 : cS} {x1 : Int} {x2 : Int} {x3 : Int} {x4 : Int} {x5 : Int} {x6 : Int} (Rx1 : zR x1) (Rx2 : zR x2) (Rx3 : zR x3) (Rx4 : zR x4) (Rx5 : zR x5) (Rx6 : zR x6) (ho : yOk X b u) (hZ : yZ d b Y c F0 S0 u S A0) (hw : wc_Parser_operand_50 rec Q E k24 A0 x1 x2 x3 x4 x5 x6) : yG X d b (yxQv X d b Y c F0 S0 mc ms Q E) u 50 [some (.ref (gO' Y 4)), some (.int (zI x1)), some (.int (zI x2)), some (.int (zI x3)), some (.int (zI x4)), some (.int (zI x5)), some (.int (zI x6)), none] [] := by
  unfold wc_Parser_operand_50 at hw
  refine h_iconst (v := zI 0) hC dX6_operand_50 rfl ?_
  refine h_istore (lv' := [some (.ref (gO' Y 4)), some (.int (zI x1)), some (.int (zI x2)), some (.int (zI x3)), some (.int (zI x4)), some (.int (zI x5)), some (.int (zI x6)), some (.int (zI 0))]) hC dX6_operand_51 (Nat.le_of_ble_eq_true rfl) rfl rfl ?_
  refine h_aload_n hC dX6_operand_53 rfl ?_
  refine yr_callVi (As := []) hC hr ho hZ rfl (hZ.w.o 4 (by decide)) (cm_Parser_kind X.la d b  hZ.rs hw) cl_X6_97 rfl rfl (Nat.le_of_ble_eq_true rfl) (hFr_of (by omega) (Nat.le_of_ble_eq_true rfl)) dX6_operand_54 (fun r1 A2 u3 S4 R5 o6 hZ7 h8 => ?_)
  refine h_bipush (v := zI 34) hC dX6_operand_57 rfl ?_
  refine yr_icmp_ne (tgt := 100) hC R5 (by decide) dX6_operand_59 (by decide) (fun c9 => ?_) (fun c9 => ?_)
  · have h10 := h8.1 c9
    refine h_aload_n hC dX6_operand_100 rfl ?_
    refine yx_calli (As := []) hC hr o6 hZ7 rfl (hZ7.w.o 4 (by decide)) (ih.2.2.2.2.2.2.2.2.2.2.2.2.2.2.1  hZ7.rs h10) cl_X6_259 rfl rfl (Nat.le_of_ble_eq_true rfl) (hFr_of (by omega) (Nat.le_of_ble_eq_true rfl)) dX6_operand_101 (fun _ _ _ ho1 hz1 he1 => yx_out hC hr ho1 hz1 hT he1) (fun r11 A12 u13 S14 R15 o16 hZ17 h18 => ?_)
    refine h_istore (lv' := [some (.ref (gO' Y 4)), some (.int (zI x1)), some (.int (zI x2)), some (.int (zI x3)), some (.int (zI x4)), some (.int (zI x5)), some (.int (zI x6)), some (.int (zI r11))]) hC dX6_operand_104 (Nat.le_of_ble_eq_true rfl) rfl rfl ?_
    exact cj_Parser_operand_106 hC hr hst hT hcx ih hk24 Rx1 Rx2 Rx3 Rx4 Rx5 Rx6 R15 o16 hZ17 h18
  · have h19 := h8.2 c9
    refine h_aload_n hC dX6_operand_62 rfl ?_
    refine yx_callv (As := []) hC hr o6 hZ7 rfl (hZ7.w.o 4 (by decide)) (cm_Parser_enter X.la d b hst hcx  hZ7.rs h19) cl_X6_162 rfl rfl (Nat.le_of_ble_eq_true rfl) (hFr_of (by omega) (Nat.le_of_ble_eq_true rfl)) dX6_operand_63 (fun _ _ _ ho1 hz1 he1 => yx_out hC hr ho1 hz1 hT he1) (fun A21 u22 S23 o25 hZ26 h27 => ?_)
    refine h_aload_n hC dX6_operand_66 rfl ?_
    refine h_bipush (v := zI 34) hC dX6_operand_67 rfl ?_
    refine yr_callVi (As := [.int (zI 34)]) hC hr o25 hZ26 rfl (hZ26.w.o 4 (by decide)) (cm_Parser_leaf X.la d b (by decide) hZ26.rs h27) cl_X6_135 rfl rfl (Nat.le_of_ble_eq_true rfl) (hFr_of (by omega) (Nat.le_of_ble_eq_true rfl)) dX6_operand_69 (fun r28 A29 u30 S31 R32 o33 hZ34 h35 => ?_)
    refine h_istore (lv' := [some (.ref (gO' Y 4)), some (.int (zI x1)), some (.int (zI x2)), some (.int (zI x3)), some (.int (zI x4)), some (.int (zI x5)), some (.int (zI x6)), some (.int (zI r28))]) hC dX6_operand_72 (Nat.le_of_ble_eq_true rfl) rfl rfl ?_
    refine h_aload_n hC dX6_operand_74 rfl ?_
    refine h_get hC fl_X6_60 (hZ34.w.o 4 (by decide)) rfl dX6_operand_75 ?_
    refine h_iload hC dX6_operand_78 rfl ?_
    refine h_aload_n hC dX6_operand_80 rfl ?_
    refine yx_calli (As := []) hC hr o33 hZ34 rfl (hZ34.w.o 4 (by decide)) (ih.2.2.2.2.2.2.1  hZ34.rs h35) cl_X6_190 rfl rfl (Nat.le_of_ble_eq_true rfl) (hFr_of (by omega) (Nat.le_of_ble_eq_true rfl)) dX6_operand_81 (fun _ _ _ ho1 hz1 he1 => yx_out hC hr ho1 hz1 hT he1) (fun r36 A37 u38 S39 R40 o41 hZ42 h43 => ?_)
    refine yr_callVv (As := [.int (zI r28), .int (zI r36)]) hC hr o41 hZ42 rfl (hZ42.w.o 2 (by decide)) (cm_Tree_hang X.la d b R32 R40 hZ42.rs h43) cl_X6_123 rfl rfl (Nat.le_of_ble_eq_true rfl) (hFr_of (by omega) (Nat.le_of_ble_eq_true rfl)) dX6_operand_84 (fun A45 u46 S47 o49 hZ50 h51 => ?_)
    refine h_aload_n hC dX6_operand_87 rfl ?_
    refine h_dup hC dX6_operand_88 rfl ?_
    refine h_get hC fl_X6_31 (hZ50.w.o 4 (by decide)) rfl dX6_operand_89 ?_
    refine yr_sv (e := (yv A45 11)) hZ50 11 rfl ?_
    refine h_iconst (v := zI 1) hC dX6_operand_92 rfl ?_
    refine yr_isub hC dX6_operand_93 ?_
    obtain ⟨o52, h53⟩ := h51
    refine hi_putx (i := 4) (kx := 11) hC hZ50.hi (by decide) fl_X6_31 rfl rfl rfl (Nat.le_of_ble_eq_true rfl) rfl gsame_11 (fun q => absurd q (by decide)) dX6_operand_94 (fun F54 S55 I56 K57 s58 v59 p60 => ?_)
    have hZ61 := hZ50.put I56 K57 s58 v59 o52 rfl
    clear I56 K57 s58 v59 p60
    refine yr_nu o49 hZ61 (fun u62 o63 hZ64 => ?_)
    refine h_goto (tgt := 106) hC dX6_operand_97 (by decide) ?_
    exact cj_Parser_operand_106 hC hr hst hT hcx ih hk24 Rx1 Rx2 Rx3 Rx4 Rx5 Rx6 R32 o63 hZ64 h53
set_option maxHeartbeats 4000000 in
set_option maxRecDepth 100000 in
theorem cb_Parser_operand_24 {X : gX} {d : gD} {b : Nat} {Y : gYt} {c : Nat × Nat} {F0 : gM} {S0 : gSt} {mc ms : Nat} {rec : Nat → Int → Int → Int → cS → (Int → cS → Prop) → (cS → Prop) → Prop} {lv0 : Nat} (hC : gC RX6 cX6_operand 8 none "operand" (gR (9 + lv0 + 1) mc ms) d b X) (hr : hRm X b) (hst : X.la.stackTraces = false) (hT : ∀ x ∈ X.co.exceptionTable.toList, False) (hcx : yCx b c) (ih : yOkP X.la d b Y c lv0 rec) {Q : cS → Prop} {E : cS → Prop} {k24 : cS → Int → Int → Int → Int → Int → Prop} (hk24 : ∀ (u : hU) (S : gSt) (A0 : cS) (x1 : Int) (x2 : Int) (x3 : Int) (x4 : Int) (x5 : Int), zR x1 → zR x2 → zR x3 → zR x4 → zR x5 → yOk X b u → yZ d b Y c F0 S0 u S A0 → k24 A0 x1 x2 x3 x4 x5 → yG X d b (yxQv X d b Y c F0 S0 mc ms Q E) u 24 [some (.ref (gO' Y 4)), some (.int (zI x1)), some (.int (zI x2)), some (.int (zI x3)), some (.int (zI x4)), some (.int (zI x5)), none, none] []) {u : hU} {S : gSt} {A0 : cS} {x1 : Int} {x2 : Int} {x3 : Int} {x4 : Int} {x5 : Int} (Rx1 : zR x1) (Rx2 : zR x2) (Rx3 : zR x3) (Rx4 : zR x4) (Rx5 : zR x5) (ho : yOk X b u) (hZ : yZ d b Y c F0 S0 u S A0) (hw : wc_Parser_operand_24B rec Q E k24 A0 x1 x2 x3 x4 x5) : yG X d b (yxQv X d b Y c F0 S0 mc ms Q E) u 24 [some (.ref (gO' Y 4)), some (.int (zI x1)), some (.int (zI x2)), some (.int (zI x3)), some (.int (zI x4)), some (.int (zI x5)), none, none] [] := by
  unfold wc_Parser_operand_24B at hw
  refine h_iload hC dX6_operand_24 rfl ?_
  refine yr_ldc (e := 1000000) hC dX6_operand_26 kw_514 (by decide) ?_
  refine yr_icmp_ge (tgt := 197) hC Rx5 (by decide) dX6_operand_28 (by decide) (fun c1 => ?_) (fun c1 => ?_)
  · have h2 := hw.1 c1
    refine h_aload_n hC dX6_operand_197 rfl ?_
    refine h_iload_n hC dX6_operand_198 rfl ?_
    refine h_iload_n hC dX6_operand_199 rfl ?_
    refine yr_callVv (As := [.int (zI x1), .int (zI x3)]) hC hr ho hZ rfl (hZ.w.o 4 (by decide)) (cm_Parser_hangSigns X.la d b Rx1 Rx3 hZ.rs h2) cl_X6_265 rfl rfl (Nat.le_of_ble_eq_true rfl) (hFr_of (by omega) (Nat.le_of_ble_eq_true rfl)) dX6_operand_200 (fun A4 u5 S6 o8 hZ9 h10 => ?_)
    refine h_aload_n hC dX6_operand_203 rfl ?_
    refine h_iload_n hC dX6_operand_204 rfl ?_
    refine hi_putx (i := 4) (kx := 11) hC hZ9.hi (by decide) fl_X6_31 rfl rfl rfl (Nat.le_of_ble_eq_true rfl) rfl gsame_11 (fun q => absurd q (by decide)) dX6_operand_205 (fun F11 S12 I13 K14 s15 v16 p17 => ?_)
    have hZ18 := hZ9.put I13 K14 s15 v16 Rx2 rfl
    clear I13 K14 s15 v16 p17
    refine yr_nu o8 hZ18 (fun u19 o20 hZ21 => ?_)
    exact h_xret (yr_vret hC hr o20 hZ21 h10 dX6_operand_208)
  · have h22 := hw.2 c1
    refine h_aload_n hC dX6_operand_31 rfl ?_
    refine h_get hC fl_X6_21 (hZ.w.o 4 (by decide)) rfl dX6_operand_32 ?_
    refine yr_size (j := 22) (e := ((yz A0 22 : Nat) : Int)) hC hr ho hZ (by decide) rfl cl_X6_172 rfl (Nat.le_of_ble_eq_true rfl) (hFr_of (by omega) (Nat.le_of_ble_eq_true rfl)) dX6_operand_35 ?_
    refine h_istore (lv' := [some (.ref (gO' Y 4)), some (.int (zI x1)), some (.int (zI x2)), some (.int (zI x3)), some (.int (zI x4)), some (.int (zI x5)), some (.int (zI ((yz A0 22 : Nat) : Int))), none]) hC dX6_operand_38 (Nat.le_of_ble_eq_true rfl) rfl rfl ?_
    refine h_iload hC dX6_operand_40 rfl ?_
    refine yr_if_eq (tgt := 50) hC Rx4 dX6_operand_42 (by decide) (fun c23 => ?_) (fun c23 => ?_)
    · have h24 := h22.1 c23
      exact cj_Parser_operand_50 hC hr hst hT hcx ih hk24 Rx1 Rx2 Rx3 Rx4 Rx5 (hZ.rz (j := 22) (by decide)) ho hZ h24
    · have h25 := h22.2 c23
      refine h_aload_n hC dX6_operand_45 rfl ?_
      refine h_iconst (v := zI 0) hC dX6_operand_46 rfl ?_
      refine yx_callv (As := [.int (zI 0)]) hC hr ho hZ rfl (hZ.w.o 4 (by decide)) (cm_Parser_passSigns X.la d b hst hcx (by decide) hZ.rs h25) cl_X6_255 rfl rfl (Nat.le_of_ble_eq_true rfl) (hFr_of (by omega) (Nat.le_of_ble_eq_true rfl)) dX6_operand_47 (fun _ _ _ ho1 hz1 he1 => yx_out hC hr ho1 hz1 hT he1) (fun A27 u28 S29 o31 hZ32 h33 => ?_)
      exact cj_Parser_operand_50 hC hr hst hT hcx ih hk24 Rx1 Rx2 Rx3 Rx4 Rx5 (hZ.rz (j := 22) (by decide)) o31 hZ32 h33
theorem cl_Parser_operand_24 {X : gX} {d : gD} {b : Nat} {Y : gYt} {c : Nat × Nat} {F0 : gM} {S0 : gSt} {mc ms : Nat} {rec : Nat → Int → Int → Int → cS → (Int → cS → Prop) → (cS → Prop) → Prop} {lv0 : Nat} (hC : gC RX6 cX6_operand 8 none "operand" (gR (9 + lv0 + 1) mc ms) d b X) (hr : hRm X b) (hst : X.la.stackTraces = false) (hT : ∀ x ∈ X.co.exceptionTable.toList, False) (hcx : yCx b c) (ih : yOkP X.la d b Y c lv0 rec) {Q : cS → Prop} {E : cS → Prop}   : ∀ (m : Nat) (u : hU) (S : gSt) (A0 : cS) (x1 : Int) (x2 : Int) (x3 : Int) (x4 : Int) (x5 : Int), zR x1 → zR x2 → zR x3 → zR x4 → zR x5 → yOk X b u → yZ d b Y c F0 S0 u S A0 → wc_Parser_operand_24 rec Q E  m A0 x1 x2 x3 x4 x5 → yG X d b (yxQv X d b Y c F0 S0 mc ms Q E) u 24 [some (.ref (gO' Y 4)), some (.int (zI x1)), some (.int (zI x2)), some (.int (zI x3)), some (.int (zI x4)), some (.int (zI x5)), none, none] [] := by
  intro m
  induction m with
  | zero => intro u S A0 x1 x2 x3 x4 x5 Rx1 Rx2 Rx3 Rx4 Rx5 ho hZ hw; exact False.elim hw
  | succ m ihm => intro u S A0 x1 x2 x3 x4 x5 Rx1 Rx2 Rx3 Rx4 Rx5 ho hZ hw; exact cb_Parser_operand_24 hC hr hst hT hcx ih  ihm Rx1 Rx2 Rx3 Rx4 Rx5 ho hZ hw
set_option maxHeartbeats 4000000 in
set_option maxRecDepth 100000 in
theorem cm_Parser_operand (l : Launch) (d : gD) (b : Nat) {Y : gYt} {c : Nat × Nat} (hst : l.stackTraces = false) (hcx : yCx b c) {rec : Nat → Int → Int → Int → cS → (Int → cS → Prop) → (cS → Prop) → Prop} {lv0 : Nat} (ih : yOkP l d b Y c lv0 rec) {F : gM} {k n : Nat} {S : gSt} {A0 : cS} {a0 : Int} (Ra0 : zR a0) {Q : cS → Prop} {E : cS → Prop} (hZ : yZ d b Y c F S (F, k, n) S A0) (hw : wc_Parser_operand rec A0 a0 Q E) : hXv l d b yX6_operand cX6_operand 8 (9 + lv0 + 1) k n F [.ref (gO' Y 4), .int (zI a0)] (yPv d b Y c F S Q) "java/lang/IllegalStateException" (yPx d b Y c F S E) := by
  intro mc ms
  refine hX_of2 rfl (nL := 8) (Nat.le_of_ble_eq_true rfl) ?_
  intro X hX hT hC hr ho; subst hX
  show yG X d b (yxQv X d b Y c F S mc ms Q E) (F, k, n) 0 [some (.ref (gO' Y 4)), some (.int (zI a0)), none, none, none, none, none, none] []
  unfold wc_Parser_operand at hw
  refine h_aload_n hC dX6_operand_0 rfl ?_
  refine h_get hC fl_X6_31 (hZ.w.o 4 (by decide)) rfl dX6_operand_1 ?_
  refine yr_sv (e := (yv A0 11)) hZ 11 rfl ?_
  refine h_istore_n (lv' := [some (.ref (gO' Y 4)), some (.int (zI a0)), some (.int (zI (yv A0 11))), none, none, none, none, none]) hC dX6_operand_4 (Nat.le_of_ble_eq_true rfl) rfl rfl ?_
  refine h_aload_n hC dX6_operand_5 rfl ?_
  refine h_get hC fl_X6_21 (hZ.w.o 4 (by decide)) rfl dX6_operand_6 ?_
  refine yr_size (j := 22) (e := ((yz A0 22 : Nat) : Int)) hC hr ho hZ (by decide) rfl cl_X6_172 rfl (Nat.le_of_ble_eq_true rfl) (hFr_of (by omega) (Nat.le_of_ble_eq_true rfl)) dX6_operand_9 ?_
  refine h_istore_n (lv' := [some (.ref (gO' Y 4)), some (.int (zI a0)), some (.int (zI (yv A0 11))), some (.int (zI ((yz A0 22 : Nat) : Int))), none, none, none, none]) hC dX6_operand_12 (Nat.le_of_ble_eq_true rfl) rfl rfl ?_
  refine h_aload_n hC dX6_operand_13 rfl ?_
  refine h_iconst (v := zI 1) hC dX6_operand_14 rfl ?_
  refine yx_callv (As := [.int (zI 1)]) hC hr ho hZ rfl (hZ.w.o 4 (by decide)) (cm_Parser_passSigns X.la d b hst hcx (by decide) hZ.rs hw) cl_X6_255 rfl rfl (Nat.le_of_ble_eq_true rfl) (hFr_of (by omega) (Nat.le_of_ble_eq_true rfl)) dX6_operand_15 (fun _ _ _ ho1 hz1 he1 => yx_out hC hr ho1 hz1 hT he1) (fun A2 u3 S4 o6 hZ7 h8 => ?_)
  refine h_iconst (v := zI 0) hC dX6_operand_18 rfl ?_
  refine h_istore (lv' := [some (.ref (gO' Y 4)), some (.int (zI a0)), some (.int (zI (yv A0 11))), some (.int (zI ((yz A0 22 : Nat) : Int))), some (.int (zI 0)), none, none, none]) hC dX6_operand_19 (Nat.le_of_ble_eq_true rfl) rfl rfl ?_
  refine h_iconst (v := zI 0) hC dX6_operand_21 rfl ?_
  refine h_istore (lv' := [some (.ref (gO' Y 4)), some (.int (zI a0)), some (.int (zI (yv A0 11))), some (.int (zI ((yz A0 22 : Nat) : Int))), some (.int (zI 0)), some (.int (zI 0)), none, none]) hC dX6_operand_22 (Nat.le_of_ble_eq_true rfl) rfl rfl ?_
  obtain ⟨m9, h10⟩ := h8
  exact cl_Parser_operand_24 hC hr hst hT hcx ih  m9 _ _ _ _ _ _ _ _ Ra0 (hZ.rv 11) (hZ.rz (j := 22) (by decide)) (by decide) (by decide) o6 hZ7 h10
theorem dX6_primary_0 : decode cX6_primary 0 = .ok (.iconst 0, 1) := by decide +kernel
theorem dX6_primary_1 : decode cX6_primary 1 = .ok (.istore_n 1, 1) := by decide +kernel
theorem dX6_primary_2 : decode cX6_primary 2 = .ok (.aload_n 0, 1) := by decide +kernel
theorem dX6_primary_3 : decode cX6_primary 3 = .ok (.invokevirtual 97, 3) := by decide +kernel
theorem dX6_primary_6 : decode cX6_primary 6 = .ok (.lookupswitch 182 #[(2, 66), (3, 66), (4, 108), (7, 141), (32, 75), (33, 75), (35, 136)], 66) := by decide +kernel
theorem dX6_primary_72 : decode cX6_primary 72 = .ok (.aload_n 0, 1) := by decide +kernel
theorem dX6_primary_73 : decode cX6_primary 73 = .ok (.aload_n 0, 1) := by decide +kernel
theorem dX6_primary_74 : decode cX6_primary 74 = .ok (.invokevirtual 97, 3) := by decide +kernel
theorem dX6_primary_77 : decode cX6_primary 77 = .ok (.invokevirtual 135, 3) := by decide +kernel
theorem dX6_primary_80 : decode cX6_primary 80 = .ok (.ireturn, 1) := by decide +kernel
theorem dX6_primary_81 : decode cX6_primary 81 = .ok (.aload_n 0, 1) := by decide +kernel
theorem dX6_primary_82 : decode cX6_primary 82 = .ok (.getfield 60, 3) := by decide +kernel
theorem dX6_primary_85 : decode cX6_primary 85 = .ok (.iconst 3, 1) := by decide +kernel
theorem dX6_primary_86 : decode cX6_primary 86 = .ok (.aload_n 0, 1) := by decide +kernel
theorem dX6_primary_87 : decode cX6_primary 87 = .ok (.invokevirtual 112, 3) := by decide +kernel
theorem dX6_primary_90 : decode cX6_primary 90 = .ok (.aload_n 0, 1) := by decide +kernel
theorem dX6_primary_91 : decode cX6_primary 91 = .ok (.invokevirtual 97, 3) := by decide +kernel
theorem dX6_primary_94 : decode cX6_primary 94 = .ok (.bipush 32, 2) := by decide +kernel
theorem dX6_primary_96 : decode cX6_primary 96 = .ok (.if_icmp .ne 7, 3) := by decide +kernel
theorem dX6_primary_99 : decode cX6_primary 99 = .ok (.iconst (-1), 1) := by decide +kernel
theorem dX6_primary_100 : decode cX6_primary 100 = .ok (.goto 4, 3) := by decide +kernel
theorem dX6_primary_103 : decode cX6_primary 103 = .ok (.iconst 0, 1) := by decide +kernel
theorem dX6_primary_104 : decode cX6_primary 104 = .ok (.invokevirtual 115, 3) := by decide +kernel
theorem dX6_primary_107 : decode cX6_primary 107 = .ok (.istore_n 1, 1) := by decide +kernel
theorem dX6_primary_108 : decode cX6_primary 108 = .ok (.aload_n 0, 1) := by decide +kernel
theorem dX6_primary_109 : decode cX6_primary 109 = .ok (.invokevirtual 103, 3) := by decide +kernel
theorem dX6_primary_112 : decode cX6_primary 112 = .ok (.iload_n 1, 1) := by decide +kernel
theorem dX6_primary_113 : decode cX6_primary 113 = .ok (.ireturn, 1) := by decide +kernel
theorem dX6_primary_114 : decode cX6_primary 114 = .ok (.aload_n 0, 1) := by decide +kernel
theorem dX6_primary_115 : decode cX6_primary 115 = .ok (.iconst 4, 1) := by decide +kernel
theorem dX6_primary_116 : decode cX6_primary 116 = .ok (.invokevirtual 135, 3) := by decide +kernel
theorem dX6_primary_119 : decode cX6_primary 119 = .ok (.istore_n 1, 1) := by decide +kernel
theorem dX6_primary_120 : decode cX6_primary 120 = .ok (.aload_n 0, 1) := by decide +kernel
theorem dX6_primary_121 : decode cX6_primary 121 = .ok (.getfield 60, 3) := by decide +kernel
theorem dX6_primary_124 : decode cX6_primary 124 = .ok (.iload_n 1, 1) := by decide +kernel
theorem dX6_primary_125 : decode cX6_primary 125 = .ok (.aload_n 0, 1) := by decide +kernel
theorem dX6_primary_126 : decode cX6_primary 126 = .ok (.aload_n 0, 1) := by decide +kernel
theorem dX6_primary_127 : decode cX6_primary 127 = .ok (.getfield 60, 3) := by decide +kernel
theorem dX6_primary_130 : decode cX6_primary 130 = .ok (.iload_n 1, 1) := by decide +kernel
theorem dX6_primary_131 : decode cX6_primary 131 = .ok (.invokevirtual 144, 3) := by decide +kernel
theorem dX6_primary_134 : decode cX6_primary 134 = .ok (.invokevirtual 268, 3) := by decide +kernel
theorem dX6_primary_137 : decode cX6_primary 137 = .ok (.invokevirtual 193, 3) := by decide +kernel
theorem dX6_primary_140 : decode cX6_primary 140 = .ok (.iload_n 1, 1) := by decide +kernel
theorem dX6_primary_141 : decode cX6_primary 141 = .ok (.ireturn, 1) := by decide +kernel
theorem dX6_primary_142 : decode cX6_primary 142 = .ok (.aload_n 0, 1) := by decide +kernel
theorem dX6_primary_143 : decode cX6_primary 143 = .ok (.invokevirtual 271, 3) := by decide +kernel
theorem dX6_primary_146 : decode cX6_primary 146 = .ok (.ireturn, 1) := by decide +kernel
theorem dX6_primary_147 : decode cX6_primary 147 = .ok (.aload_n 0, 1) := by decide +kernel
theorem dX6_primary_148 : decode cX6_primary 148 = .ok (.invokevirtual 162, 3) := by decide +kernel
theorem dX6_primary_151 : decode cX6_primary 151 = .ok (.aload_n 0, 1) := by decide +kernel
theorem dX6_primary_152 : decode cX6_primary 152 = .ok (.bipush 82, 2) := by decide +kernel
theorem dX6_primary_154 : decode cX6_primary 154 = .ok (.invokevirtual 135, 3) := by decide +kernel
theorem dX6_primary_157 : decode cX6_primary 157 = .ok (.istore_n 1, 1) := by decide +kernel
theorem dX6_primary_158 : decode cX6_primary 158 = .ok (.aload_n 0, 1) := by decide +kernel
theorem dX6_primary_159 : decode cX6_primary 159 = .ok (.getfield 60, 3) := by decide +kernel
theorem dX6_primary_162 : decode cX6_primary 162 = .ok (.iload_n 1, 1) := by decide +kernel
theorem dX6_primary_163 : decode cX6_primary 163 = .ok (.aload_n 0, 1) := by decide +kernel
theorem dX6_primary_164 : decode cX6_primary 164 = .ok (.invokevirtual 156, 3) := by decide +kernel
theorem dX6_primary_167 : decode cX6_primary 167 = .ok (.invokevirtual 123, 3) := by decide +kernel
theorem dX6_primary_170 : decode cX6_primary 170 = .ok (.aload_n 0, 1) := by decide +kernel
theorem dX6_primary_171 : decode cX6_primary 171 = .ok (.bipush 8, 2) := by decide +kernel
theorem dX6_primary_173 : decode cX6_primary 173 = .ok (.invokevirtual 109, 3) := by decide +kernel
theorem dX6_primary_176 : decode cX6_primary 176 = .ok (.aload_n 0, 1) := by decide +kernel
theorem dX6_primary_177 : decode cX6_primary 177 = .ok (.dup, 1) := by decide +kernel
theorem dX6_primary_178 : decode cX6_primary 178 = .ok (.getfield 31, 3) := by decide +kernel
theorem dX6_primary_181 : decode cX6_primary 181 = .ok (.iconst 1, 1) := by decide +kernel
theorem dX6_primary_182 : decode cX6_primary 182 = .ok (.isub, 1) := by decide +kernel
theorem dX6_primary_183 : decode cX6_primary 183 = .ok (.putfield 31, 3) := by decide +kernel
theorem dX6_primary_186 : decode cX6_primary 186 = .ok (.iload_n 1, 1) := by decide +kernel
theorem dX6_primary_187 : decode cX6_primary 187 = .ok (.ireturn, 1) := by decide +kernel
theorem dX6_primary_188 : decode cX6_primary 188 = .ok (.aload_n 0, 1) := by decide +kernel
theorem dX6_primary_189 : decode cX6_primary 189 = .ok (.invokevirtual 100, 3) := by decide +kernel
theorem dX6_primary_192 : decode cX6_primary 192 = .ok (.iconst 0, 1) := by decide +kernel
theorem dX6_primary_193 : decode cX6_primary 193 = .ok (.ireturn, 1) := by decide +kernel
def wc_Parser_primary (rec : Nat → Int → Int → Int → cS → (Int → cS → Prop) → (cS → Prop) → Prop) (A0 : cS)  (Q : Int → cS → Prop) (E : cS → Prop) : Prop :=
  wc_Parser_kind A0  (fun r1 A2 => (((r1 = 2 ∨ r1 = 3) → wc_Parser_kind A2  (fun r12 A13 => wc_Parser_leaf A13 r12 (fun r20 A21 => Q r20 A21))) ∧ ((r1 = 4) → wc_Parser_leaf A2 4 (fun r31 A32 => wc_Tree_data A32 r31 (fun r39 A40 => wc_Parser_pack A40 r39 (fun r47 A48 => wc_Tree_setData A48 r31 r47 (fun A56 => Q r31 A56))))) ∧ ((r1 = 7) → wc_Parser_enter A2  (fun A67 => wc_Parser_leaf A67 82 (fun r74 A75 => rec 12 0 0 0 A75 (fun r82 A83 => wc_Tree_hang A83 r74 r82 (fun A91 => wc_Parser_due A91 8 (fun A99 => (zR ((yv A99 11) - 1)) ∧ Q r74 (ypv A99 11 ((yv A99 11) - 1))) E)) E)) E) ∧ ((r1 = 32 ∨ r1 = 33) → wc_Parser_place A2  (fun r122 A123 => wc_Parser_kind A123  (fun r130 A131 => ((¬ r130 = 32 → wc_Tree_node A131 3 r122 0 (fun r140 A141 => wc_Parser_advance A141  (fun A149 => Q r140 A149))) ∧ (r130 = 32 → wc_Tree_node A131 3 r122 (-1) (fun r157 A158 => wc_Parser_advance A158  (fun A166 => Q r157 A166))))))) ∧ ((r1 = 35) → rec 15 0 0 0 A2 (fun r176 A177 => Q r176 A177) E) ∧ (¬ (r1 = 2 ∨ r1 = 3) → ¬ (r1 = 4) → ¬ (r1 = 7) → ¬ (r1 = 32 ∨ r1 = 33) → ¬ (r1 = 35) → wc_Parser_refuse A2  (fun A186 => Q 0 A186) E)))
set_option maxHeartbeats 4000000 in
set_option maxRecDepth 100000 in
theorem cm_Parser_primary (l : Launch) (d : gD) (b : Nat) {Y : gYt} {c : Nat × Nat} (hst : l.stackTraces = false) (hcx : yCx b c) {rec : Nat → Int → Int → Int → cS → (Int → cS → Prop) → (cS → Prop) → Prop} {lv0 : Nat} (ih : yOkP l d b Y c lv0 rec) {F : gM} {k n : Nat} {S : gSt} {A0 : cS}   {Q : Int → cS → Prop} {E : cS → Prop} (hZ : yZ d b Y c F S (F, k, n) S A0) (hw : wc_Parser_primary rec A0  Q E) : hXi l d b yX6_primary cX6_primary 2 .int (9 + lv0 + 1) k n F [.ref (gO' Y 4)] (yPi d b Y c F S Q) "java/lang/IllegalStateException" (yPx d b Y c F S E) := by
  intro mc ms
  refine hX_of2 rfl (nL := 2) (Nat.le_of_ble_eq_true rfl) ?_
  intro X hX hT hC hr ho; subst hX
  show yG X d b (yxQi X d b Y c F S mc ms Q E) (F, k, n) 0 [some (.ref (gO' Y 4)), none] []
  unfold wc_Parser_primary at hw
  refine h_iconst (v := zI 0) hC dX6_primary_0 rfl ?_
  refine h_istore_n (lv' := [some (.ref (gO' Y 4)), some (.int (zI 0))]) hC dX6_primary_1 (Nat.le_of_ble_eq_true rfl) rfl rfl ?_
  refine h_aload_n hC dX6_primary_2 rfl ?_
  refine yr_callVi (As := []) hC hr ho hZ rfl (hZ.w.o 4 (by decide)) (cm_Parser_kind X.la d b  hZ.rs hw) cl_X6_97 rfl rfl (Nat.le_of_ble_eq_true rfl) (hFr_of (by omega) (Nat.le_of_ble_eq_true rfl)) dX6_primary_3 (fun r1 A2 u3 S4 R5 o6 hZ7 h8 => ?_)
  by_cases g9 : r1 = 2 ∨ r1 = 3
  · have h11 := (h8.1) g9
    have T10 : yG X d b (yxQi X d b Y c F S mc ms Q E) u3 72 [some (.ref (gO' Y 4)), some (.int (zI 0))] [] := by
      refine h_aload_n hC dX6_primary_72 rfl ?_
      refine h_aload_n hC dX6_primary_73 rfl ?_
      refine yr_callVi (As := []) hC hr o6 hZ7 rfl (hZ7.w.o 4 (by decide)) (cm_Parser_kind X.la d b  hZ7.rs h11) cl_X6_97 rfl rfl (Nat.le_of_ble_eq_true rfl) (hFr_of (by omega) (Nat.le_of_ble_eq_true rfl)) dX6_primary_74 (fun r12 A13 u14 S15 R16 o17 hZ18 h19 => ?_)
      refine yr_callVi (As := [.int (zI r12)]) hC hr o17 hZ18 rfl (hZ18.w.o 4 (by decide)) (cm_Parser_leaf X.la d b R16 hZ18.rs h19) cl_X6_135 rfl rfl (Nat.le_of_ble_eq_true rfl) (hFr_of (by omega) (Nat.le_of_ble_eq_true rfl)) dX6_primary_77 (fun r20 A21 u22 S23 R24 o25 hZ26 h27 => ?_)
      exact h_xret (yr_iret hC hr o25 hZ26 R24 h27 dX6_primary_80)
    clear h11
    rcases g9 with e1 | e1
    · exact zr_lokAt (v := 2) hC dX6_primary_6 R5 (by decide) e1 rfl (by decide) T10
    · exact zr_lokAt (v := 3) hC dX6_primary_6 R5 (by decide) e1 rfl (by decide) T10
  · skip
    by_cases g28 : r1 = 4
    · have h30 := (h8.2.1) g28
      have T29 : yG X d b (yxQi X d b Y c F S mc ms Q E) u3 114 [some (.ref (gO' Y 4)), some (.int (zI 0))] [] := by
        refine h_aload_n hC dX6_primary_114 rfl ?_
        refine h_iconst (v := zI 4) hC dX6_primary_115 rfl ?_
        refine yr_callVi (As := [.int (zI 4)]) hC hr o6 hZ7 rfl (hZ7.w.o 4 (by decide)) (cm_Parser_leaf X.la d b (by decide) hZ7.rs h30) cl_X6_135 rfl rfl (Nat.le_of_ble_eq_true rfl) (hFr_of (by omega) (Nat.le_of_ble_eq_true rfl)) dX6_primary_116 (fun r31 A32 u33 S34 R35 o36 hZ37 h38 => ?_)
        refine h_istore_n (lv' := [some (.ref (gO' Y 4)), some (.int (zI r31))]) hC dX6_primary_119 (Nat.le_of_ble_eq_true rfl) rfl rfl ?_
        refine h_aload_n hC dX6_primary_120 rfl ?_
        refine h_get hC fl_X6_60 (hZ37.w.o 4 (by decide)) rfl dX6_primary_121 ?_
        refine h_iload_n hC dX6_primary_124 rfl ?_
        refine h_aload_n hC dX6_primary_125 rfl ?_
        refine h_aload_n hC dX6_primary_126 rfl ?_
        refine h_get hC fl_X6_60 (hZ37.w.o 4 (by decide)) rfl dX6_primary_127 ?_
        refine h_iload_n hC dX6_primary_130 rfl ?_
        refine yr_callVi (As := [.int (zI r31)]) hC hr o36 hZ37 rfl (hZ37.w.o 2 (by decide)) (cm_Tree_data X.la d b R35 hZ37.rs h38) cl_X6_144 rfl rfl (Nat.le_of_ble_eq_true rfl) (hFr_of (by omega) (Nat.le_of_ble_eq_true rfl)) dX6_primary_131 (fun r39 A40 u41 S42 R43 o44 hZ45 h46 => ?_)
        refine yr_callVi (As := [.int (zI r39)]) hC hr o44 hZ45 rfl (hZ45.w.o 4 (by decide)) (cm_Parser_pack X.la d b R43 hZ45.rs h46) cl_X6_268 rfl rfl (Nat.le_of_ble_eq_true rfl) (hFr_of (by omega) (Nat.le_of_ble_eq_true rfl)) dX6_primary_134 (fun r47 A48 u49 S50 R51 o52 hZ53 h54 => ?_)
        refine yr_callVv (As := [.int (zI r31), .int (zI r47)]) hC hr o52 hZ53 rfl (hZ53.w.o 2 (by decide)) (cm_Tree_setData X.la d b R35 R51 hZ53.rs h54) cl_X6_193 rfl rfl (Nat.le_of_ble_eq_true rfl) (hFr_of (by omega) (Nat.le_of_ble_eq_true rfl)) dX6_primary_137 (fun A56 u57 S58 o60 hZ61 h62 => ?_)
        refine h_iload_n hC dX6_primary_140 rfl ?_
        exact h_xret (yr_iret hC hr o60 hZ61 R35 h62 dX6_primary_141)
      clear h30
      exact yr_lokAt (v := 4) hC dX6_primary_6 R5 (by decide) g28 rfl (by decide) T29
    · skip
      by_cases g63 : r1 = 7
      · have h65 := (h8.2.2.1) g63
        have T64 : yG X d b (yxQi X d b Y c F S mc ms Q E) u3 147 [some (.ref (gO' Y 4)), some (.int (zI 0))] [] := by
          refine h_aload_n hC dX6_primary_147 rfl ?_
          refine yx_callv (As := []) hC hr o6 hZ7 rfl (hZ7.w.o 4 (by decide)) (cm_Parser_enter X.la d b hst hcx  hZ7.rs h65) cl_X6_162 rfl rfl (Nat.le_of_ble_eq_true rfl) (hFr_of (by omega) (Nat.le_of_ble_eq_true rfl)) dX6_primary_148 (fun _ _ _ ho1 hz1 he1 => yx_out hC hr ho1 hz1 hT he1) (fun A67 u68 S69 o71 hZ72 h73 => ?_)
          refine h_aload_n hC dX6_primary_151 rfl ?_
          refine h_bipush (v := zI 82) hC dX6_primary_152 rfl ?_
          refine yr_callVi (As := [.int (zI 82)]) hC hr o71 hZ72 rfl (hZ72.w.o 4 (by decide)) (cm_Parser_leaf X.la d b (by decide) hZ72.rs h73) cl_X6_135 rfl rfl (Nat.le_of_ble_eq_true rfl) (hFr_of (by omega) (Nat.le_of_ble_eq_true rfl)) dX6_primary_154 (fun r74 A75 u76 S77 R78 o79 hZ80 h81 => ?_)
          refine h_istore_n (lv' := [some (.ref (gO' Y 4)), some (.int (zI r74))]) hC dX6_primary_157 (Nat.le_of_ble_eq_true rfl) rfl rfl ?_
          refine h_aload_n hC dX6_primary_158 rfl ?_
          refine h_get hC fl_X6_60 (hZ80.w.o 4 (by decide)) rfl dX6_primary_159 ?_
          refine h_iload_n hC dX6_primary_162 rfl ?_
          refine h_aload_n hC dX6_primary_163 rfl ?_
          refine yx_calli (As := []) hC hr o79 hZ80 rfl (hZ80.w.o 4 (by decide)) (ih.2.2.2.2.2.2.2.2.2.2.2.2.1  hZ80.rs h81) cl_X6_156 rfl rfl (Nat.le_of_ble_eq_true rfl) (hFr_of (by omega) (Nat.le_of_ble_eq_true rfl)) dX6_primary_164 (fun _ _ _ ho1 hz1 he1 => yx_out hC hr ho1 hz1 hT he1) (fun r82 A83 u84 S85 R86 o87 hZ88 h89 => ?_)
          refine yr_callVv (As := [.int (zI r74), .int (zI r82)]) hC hr o87 hZ88 rfl (hZ88.w.o 2 (by decide)) (cm_Tree_hang X.la d b R78 R86 hZ88.rs h89) cl_X6_123 rfl rfl (Nat.le_of_ble_eq_true rfl) (hFr_of (by omega) (Nat.le_of_ble_eq_true rfl)) dX6_primary_167 (fun A91 u92 S93 o95 hZ96 h97 => ?_)
          refine h_aload_n hC dX6_primary_170 rfl ?_
          refine h_bipush (v := zI 8) hC dX6_primary_171 rfl ?_
          refine yx_callv (As := [.int (zI 8)]) hC hr o95 hZ96 rfl (hZ96.w.o 4 (by decide)) (cm_Parser_due X.la d b hst hcx (by decide) hZ96.rs h97) cl_X6_109 rfl rfl (Nat.le_of_ble_eq_true rfl) (hFr_of (by omega) (Nat.le_of_ble_eq_true rfl)) dX6_primary_173 (fun _ _ _ ho1 hz1 he1 => yx_out hC hr ho1 hz1 hT he1) (fun A99 u100 S101 o103 hZ104 h105 => ?_)
          refine h_aload_n hC dX6_primary_176 rfl ?_
          refine h_dup hC dX6_primary_177 rfl ?_
          refine h_get hC fl_X6_31 (hZ104.w.o 4 (by decide)) rfl dX6_primary_178 ?_
          refine yr_sv (e := (yv A99 11)) hZ104 11 rfl ?_
          refine h_iconst (v := zI 1) hC dX6_primary_181 rfl ?_
          refine yr_isub hC dX6_primary_182 ?_
          obtain ⟨o106, h107⟩ := h105
          refine hi_putx (i := 4) (kx := 11) hC hZ104.hi (by decide) fl_X6_31 rfl rfl rfl (Nat.le_of_ble_eq_true rfl) rfl gsame_11 (fun q => absurd q (by decide)) dX6_primary_183 (fun F108 S109 I110 K111 s112 v113 p114 => ?_)
          have hZ115 := hZ104.put I110 K111 s112 v113 o106 rfl
          clear I110 K111 s112 v113 p114
          refine yr_nu o103 hZ115 (fun u116 o117 hZ118 => ?_)
          refine h_iload_n hC dX6_primary_186 rfl ?_
          exact h_xret (yr_iret hC hr o117 hZ118 R78 h107 dX6_primary_187)
        clear h65
        exact yr_lokAt (v := 7) hC dX6_primary_6 R5 (by decide) g63 rfl (by decide) T64
      · skip
        by_cases g119 : r1 = 32 ∨ r1 = 33
        · have h121 := (h8.2.2.2.1) g119
          have T120 : yG X d b (yxQi X d b Y c F S mc ms Q E) u3 81 [some (.ref (gO' Y 4)), some (.int (zI 0))] [] := by
            refine h_aload_n hC dX6_primary_81 rfl ?_
            refine h_get hC fl_X6_60 (hZ7.w.o 4 (by decide)) rfl dX6_primary_82 ?_
            refine h_iconst (v := zI 3) hC dX6_primary_85 rfl ?_
            refine h_aload_n hC dX6_primary_86 rfl ?_
            refine yr_callVi (As := []) hC hr o6 hZ7 rfl (hZ7.w.o 4 (by decide)) (cm_Parser_place X.la d b  hZ7.rs h121) cl_X6_112 rfl rfl (Nat.le_of_ble_eq_true rfl) (hFr_of (by omega) (Nat.le_of_ble_eq_true rfl)) dX6_primary_87 (fun r122 A123 u124 S125 R126 o127 hZ128 h129 => ?_)
            refine h_aload_n hC dX6_primary_90 rfl ?_
            refine yr_callVi (As := []) hC hr o127 hZ128 rfl (hZ128.w.o 4 (by decide)) (cm_Parser_kind X.la d b  hZ128.rs h129) cl_X6_97 rfl rfl (Nat.le_of_ble_eq_true rfl) (hFr_of (by omega) (Nat.le_of_ble_eq_true rfl)) dX6_primary_91 (fun r130 A131 u132 S133 R134 o135 hZ136 h137 => ?_)
            refine h_bipush (v := zI 32) hC dX6_primary_94 rfl ?_
            refine yr_icmp_ne (tgt := 103) hC R134 (by decide) dX6_primary_96 (by decide) (fun c138 => ?_) (fun c138 => ?_)
            · have h139 := h137.1 c138
              refine h_iconst (v := zI 0) hC dX6_primary_103 rfl ?_
              refine yr_callVi (As := [.int (zI 3), .int (zI r122), .int (zI 0)]) hC hr o135 hZ136 rfl (hZ136.w.o 2 (by decide)) (cm_Tree_node X.la d b (by decide) R126 (by decide) hZ136.rs h139) cl_X6_115 rfl rfl (Nat.le_of_ble_eq_true rfl) (hFr_of (by omega) (Nat.le_of_ble_eq_true rfl)) dX6_primary_104 (fun r140 A141 u142 S143 R144 o145 hZ146 h147 => ?_)
              refine h_istore_n (lv' := [some (.ref (gO' Y 4)), some (.int (zI r140))]) hC dX6_primary_107 (Nat.le_of_ble_eq_true rfl) rfl rfl ?_
              refine h_aload_n hC dX6_primary_108 rfl ?_
              refine yr_callVv (As := []) hC hr o145 hZ146 rfl (hZ146.w.o 4 (by decide)) (cm_Parser_advance X.la d b  hZ146.rs h147) cl_X6_103 rfl rfl (Nat.le_of_ble_eq_true rfl) (hFr_of (by omega) (Nat.le_of_ble_eq_true rfl)) dX6_primary_109 (fun A149 u150 S151 o153 hZ154 h155 => ?_)
              refine h_iload_n hC dX6_primary_112 rfl ?_
              exact h_xret (yr_iret hC hr o153 hZ154 R144 h155 dX6_primary_113)
            · have h156 := h137.2 c138
              refine h_iconst (v := zI (-1)) hC dX6_primary_99 rfl ?_
              refine h_goto (tgt := 104) hC dX6_primary_100 (by decide) ?_
              refine yr_callVi (As := [.int (zI 3), .int (zI r122), .int (zI (-1))]) hC hr o135 hZ136 rfl (hZ136.w.o 2 (by decide)) (cm_Tree_node X.la d b (by decide) R126 (by decide) hZ136.rs h156) cl_X6_115 rfl rfl (Nat.le_of_ble_eq_true rfl) (hFr_of (by omega) (Nat.le_of_ble_eq_true rfl)) dX6_primary_104 (fun r157 A158 u159 S160 R161 o162 hZ163 h164 => ?_)
              refine h_istore_n (lv' := [some (.ref (gO' Y 4)), some (.int (zI r157))]) hC dX6_primary_107 (Nat.le_of_ble_eq_true rfl) rfl rfl ?_
              refine h_aload_n hC dX6_primary_108 rfl ?_
              refine yr_callVv (As := []) hC hr o162 hZ163 rfl (hZ163.w.o 4 (by decide)) (cm_Parser_advance X.la d b  hZ163.rs h164) cl_X6_103 rfl rfl (Nat.le_of_ble_eq_true rfl) (hFr_of (by omega) (Nat.le_of_ble_eq_true rfl)) dX6_primary_109 (fun A166 u167 S168 o170 hZ171 h172 => ?_)
              refine h_iload_n hC dX6_primary_112 rfl ?_
              exact h_xret (yr_iret hC hr o170 hZ171 R161 h172 dX6_primary_113)
          clear h121
          rcases g119 with e1 | e1
          · exact zr_lokAt (v := 32) hC dX6_primary_6 R5 (by decide) e1 rfl (by decide) T120
          · exact zr_lokAt (v := 33) hC dX6_primary_6 R5 (by decide) e1 rfl (by decide) T120
        · skip
          by_cases g173 : r1 = 35
          · have h175 := (h8.2.2.2.2.1) g173
            have T174 : yG X d b (yxQi X d b Y c F S mc ms Q E) u3 142 [some (.ref (gO' Y 4)), some (.int (zI 0))] [] := by
              refine h_aload_n hC dX6_primary_142 rfl ?_
              refine yx_calli (As := []) hC hr o6 hZ7 rfl (hZ7.w.o 4 (by decide)) (ih.2.2.2.2.2.2.2.2.2.2.2.2.2.2.2.1  hZ7.rs h175) cl_X6_271 rfl rfl (Nat.le_of_ble_eq_true rfl) (hFr_of (by omega) (Nat.le_of_ble_eq_true rfl)) dX6_primary_143 (fun _ _ _ ho1 hz1 he1 => yx_out hC hr ho1 hz1 hT he1) (fun r176 A177 u178 S179 R180 o181 hZ182 h183 => ?_)
              exact h_xret (yr_iret hC hr o181 hZ182 R180 h183 dX6_primary_146)
            clear h175
            exact yr_lokAt (v := 35) hC dX6_primary_6 R5 (by decide) g173 rfl (by decide) T174
          · skip
            have h184 := h8.2.2.2.2.2 g9 g28 g63 g119 g173
            refine yr_lokD (tgt := 188) hC dX6_primary_6 R5 (by decide) (List.forall_mem_cons.mpr ⟨(fun q => g9 (Or.inl q)), List.forall_mem_cons.mpr ⟨(fun q => g9 (Or.inr (q))), List.forall_mem_cons.mpr ⟨(fun q => g28 (q)), List.forall_mem_cons.mpr ⟨(fun q => g63 (q)), List.forall_mem_cons.mpr ⟨(fun q => g119 (Or.inl q)), List.forall_mem_cons.mpr ⟨(fun q => g119 (Or.inr (q))), List.forall_mem_cons.mpr ⟨(fun q => g173 (q)), fun q hq => absurd hq List.not_mem_nil⟩⟩⟩⟩⟩⟩⟩) (by decide) ?_
            refine h_aload_n hC dX6_primary_188 rfl ?_
            refine yx_callv (As := []) hC hr o6 hZ7 rfl (hZ7.w.o 4 (by decide)) (cm_Parser_refuse X.la d b hst hcx  hZ7.rs h184) cl_X6_100 rfl rfl (Nat.le_of_ble_eq_true rfl) (hFr_of (by omega) (Nat.le_of_ble_eq_true rfl)) dX6_primary_189 (fun _ _ _ ho1 hz1 he1 => yx_out hC hr ho1 hz1 hT he1) (fun A186 u187 S188 o190 hZ191 h192 => ?_)
            refine h_iconst (v := zI 0) hC dX6_primary_192 rfl ?_
            exact h_xret (yr_iret hC hr o190 hZ191 (by decide) h192 dX6_primary_193)
theorem dX6_table_0 : decode cX6_table 0 = .ok (.aload_n 0, 1) := by decide +kernel
theorem dX6_table_1 : decode cX6_table 1 = .ok (.invokevirtual 162, 3) := by decide +kernel
theorem dX6_table_4 : decode cX6_table 4 = .ok (.aload_n 0, 1) := by decide +kernel
theorem dX6_table_5 : decode cX6_table 5 = .ok (.bipush 35, 2) := by decide +kernel
theorem dX6_table_7 : decode cX6_table 7 = .ok (.invokevirtual 135, 3) := by decide +kernel
theorem dX6_table_10 : decode cX6_table 10 = .ok (.istore_n 1, 1) := by decide +kernel
theorem dX6_table_11 : decode cX6_table 11 = .ok (.iconst 0, 1) := by decide +kernel
theorem dX6_table_12 : decode cX6_table 12 = .ok (.istore_n 2, 1) := by decide +kernel
theorem dX6_table_13 : decode cX6_table 13 = .ok (.iconst 0, 1) := by decide +kernel
theorem dX6_table_14 : decode cX6_table 14 = .ok (.istore_n 3, 1) := by decide +kernel
theorem dX6_table_15 : decode cX6_table 15 = .ok (.iload_n 3, 1) := by decide +kernel
theorem dX6_table_16 : decode cX6_table 16 = .ok (.ldc 11, 2) := by decide +kernel
theorem dX6_table_18 : decode cX6_table 18 = .ok (.if_icmp .ge 40, 3) := by decide +kernel
theorem dX6_table_21 : decode cX6_table 21 = .ok (.aload_n 0, 1) := by decide +kernel
theorem dX6_table_22 : decode cX6_table 22 = .ok (.getfield 60, 3) := by decide +kernel
theorem dX6_table_25 : decode cX6_table 25 = .ok (.iload_n 1, 1) := by decide +kernel
theorem dX6_table_26 : decode cX6_table 26 = .ok (.aload_n 0, 1) := by decide +kernel
theorem dX6_table_27 : decode cX6_table 27 = .ok (.invokevirtual 156, 3) := by decide +kernel
theorem dX6_table_30 : decode cX6_table 30 = .ok (.invokevirtual 123, 3) := by decide +kernel
theorem dX6_table_33 : decode cX6_table 33 = .ok (.iinc 2 1, 3) := by decide +kernel
theorem dX6_table_36 : decode cX6_table 36 = .ok (.aload_n 0, 1) := by decide +kernel
theorem dX6_table_37 : decode cX6_table 37 = .ok (.invokevirtual 97, 3) := by decide +kernel
theorem dX6_table_40 : decode cX6_table 40 = .ok (.bipush 9, 2) := by decide +kernel
theorem dX6_table_42 : decode cX6_table 42 = .ok (.if_icmp .eq 6, 3) := by decide +kernel
theorem dX6_table_45 : decode cX6_table 45 = .ok (.goto 13, 3) := by decide +kernel
theorem dX6_table_48 : decode cX6_table 48 = .ok (.aload_n 0, 1) := by decide +kernel
theorem dX6_table_49 : decode cX6_table 49 = .ok (.invokevirtual 103, 3) := by decide +kernel
theorem dX6_table_52 : decode cX6_table 52 = .ok (.iinc 3 1, 3) := by decide +kernel
theorem dX6_table_55 : decode cX6_table 55 = .ok (.goto (-40), 3) := by decide +kernel
theorem dX6_table_58 : decode cX6_table 58 = .ok (.aload_n 0, 1) := by decide +kernel
theorem dX6_table_59 : decode cX6_table 59 = .ok (.getfield 60, 3) := by decide +kernel
theorem dX6_table_62 : decode cX6_table 62 = .ok (.iload_n 1, 1) := by decide +kernel
theorem dX6_table_63 : decode cX6_table 63 = .ok (.aload_n 0, 1) := by decide +kernel
theorem dX6_table_64 : decode cX6_table 64 = .ok (.getfield 64, 3) := by decide +kernel
theorem dX6_table_67 : decode cX6_table 67 = .ok (.invokevirtual 274, 3) := by decide +kernel
theorem dX6_table_70 : decode cX6_table 70 = .ok (.invokevirtual 193, 3) := by decide +kernel
theorem dX6_table_73 : decode cX6_table 73 = .ok (.iconst 0, 1) := by decide +kernel
theorem dX6_table_74 : decode cX6_table 74 = .ok (.istore_n 3, 1) := by decide +kernel
theorem dX6_table_75 : decode cX6_table 75 = .ok (.iload_n 3, 1) := by decide +kernel
theorem dX6_table_76 : decode cX6_table 76 = .ok (.iload_n 2, 1) := by decide +kernel
theorem dX6_table_77 : decode cX6_table 77 = .ok (.if_icmp .ge 18, 3) := by decide +kernel
theorem dX6_table_80 : decode cX6_table 80 = .ok (.aload_n 0, 1) := by decide +kernel
theorem dX6_table_81 : decode cX6_table 81 = .ok (.getfield 64, 3) := by decide +kernel
theorem dX6_table_84 : decode cX6_table 84 = .ok (.iconst 0, 1) := by decide +kernel
theorem dX6_table_85 : decode cX6_table 85 = .ok (.invokevirtual 150, 3) := by decide +kernel
theorem dX6_table_88 : decode cX6_table 88 = .ok (.pop, 1) := by decide +kernel
theorem dX6_table_89 : decode cX6_table 89 = .ok (.iinc 3 1, 3) := by decide +kernel
theorem dX6_table_92 : decode cX6_table 92 = .ok (.goto (-17), 3) := by decide +kernel
theorem dX6_table_95 : decode cX6_table 95 = .ok (.aload_n 0, 1) := by decide +kernel
theorem dX6_table_96 : decode cX6_table 96 = .ok (.dup, 1) := by decide +kernel
theorem dX6_table_97 : decode cX6_table 97 = .ok (.getfield 31, 3) := by decide +kernel
theorem dX6_table_100 : decode cX6_table 100 = .ok (.iconst 1, 1) := by decide +kernel
theorem dX6_table_101 : decode cX6_table 101 = .ok (.isub, 1) := by decide +kernel
theorem dX6_table_102 : decode cX6_table 102 = .ok (.putfield 31, 3) := by decide +kernel
theorem dX6_table_105 : decode cX6_table 105 = .ok (.iload_n 1, 1) := by decide +kernel
theorem dX6_table_106 : decode cX6_table 106 = .ok (.ireturn, 1) := by decide +kernel
def wc_Parser_table_75B (rec : Nat → Int → Int → Int → cS → (Int → cS → Prop) → (cS → Prop) → Prop) (Q : Int → cS → Prop) (E : cS → Prop) (k75 : cS → Int → Int → Int → Prop) (A0 : cS) (x1 : Int) (x2 : Int) (x3 : Int) : Prop :=
  ((x2 ≤ x3 → (zR ((yv A0 11) - 1)) ∧ Q x1 (ypv A0 11 ((yv A0 11) - 1))) ∧ (¬ x2 ≤ x3 → wc_Program_addWord A0 0 (fun r17 A18 => (zR (x3 + 1)) ∧ k75 A18 x1 x2 (x3 + 1))))
def wc_Parser_table_75 (rec : Nat → Int → Int → Int → cS → (Int → cS → Prop) → (cS → Prop) → Prop) (Q : Int → cS → Prop) (E : cS → Prop)  : Nat → cS → Int → Int → Int → Prop
  | 0 => fun _ _ _ _ => False
  | m + 1 => fun A0 x1 x2 x3 => wc_Parser_table_75B rec Q E  (wc_Parser_table_75 rec Q E  m) A0 x1 x2 x3
def wc_Parser_table_15B (rec : Nat → Int → Int → Int → cS → (Int → cS → Prop) → (cS → Prop) → Prop) (Q : Int → cS → Prop) (E : cS → Prop) (k15 : cS → Int → Int → Int → Prop) (A0 : cS) (x1 : Int) (x2 : Int) (x3 : Int) : Prop :=
  ((1000000 ≤ x3 → wc_Program_words A0  (fun r3 A4 => wc_Tree_setData A4 x1 r3 (fun A12 => ∃ n, wc_Parser_table_75 rec Q E  n A12 x1 x2 0))) ∧ (¬ 1000000 ≤ x3 → rec 12 0 0 0 A0 (fun r22 A23 => wc_Tree_hang A23 x1 r22 (fun A31 => wc_Parser_kind A31  (fun r38 A39 => ((r38 = 9 → wc_Parser_advance A39  (fun A49 => (zR (x2 + 1)) ∧ (zR (x3 + 1)) ∧ k15 A49 x1 (x2 + 1) (x3 + 1))) ∧ (¬ r38 = 9 → wc_Program_words A39  (fun r61 A62 => wc_Tree_setData A62 x1 r61 (fun A70 => (zR (x2 + 1)) ∧ ∃ n, wc_Parser_table_75 rec Q E  n A70 x1 (x2 + 1) 0))))))) E))
def wc_Parser_table_15 (rec : Nat → Int → Int → Int → cS → (Int → cS → Prop) → (cS → Prop) → Prop) (Q : Int → cS → Prop) (E : cS → Prop)  : Nat → cS → Int → Int → Int → Prop
  | 0 => fun _ _ _ _ => False
  | m + 1 => fun A0 x1 x2 x3 => wc_Parser_table_15B rec Q E  (wc_Parser_table_15 rec Q E  m) A0 x1 x2 x3
def wc_Parser_table (rec : Nat → Int → Int → Int → cS → (Int → cS → Prop) → (cS → Prop) → Prop) (A0 : cS)  (Q : Int → cS → Prop) (E : cS → Prop) : Prop :=
  wc_Parser_enter A0  (fun A2 => wc_Parser_leaf A2 35 (fun r9 A10 => ∃ n, wc_Parser_table_15 rec Q E  n A10 r9 0 0)) E
set_option maxHeartbeats 4000000 in
set_option maxRecDepth 100000 in
theorem cb_Parser_table_75 {X : gX} {d : gD} {b : Nat} {Y : gYt} {c : Nat × Nat} {F0 : gM} {S0 : gSt} {mc ms : Nat} {rec : Nat → Int → Int → Int → cS → (Int → cS → Prop) → (cS → Prop) → Prop} {lv0 : Nat} (hC : gC RX6 cX6_table 4 (some .int) "table" (gR (9 + lv0 + 1) mc ms) d b X) (hr : hRm X b) (hst : X.la.stackTraces = false) (hT : ∀ x ∈ X.co.exceptionTable.toList, False) (hcx : yCx b c) (ih : yOkP X.la d b Y c lv0 rec) {Q : Int → cS → Prop} {E : cS → Prop} {k75 : cS → Int → Int → Int → Prop} (hk75 : ∀ (u : hU) (S : gSt) (A0 : cS) (x1 : Int) (x2 : Int) (x3 : Int), zR x1 → zR x2 → zR x3 → yOk X b u → yZ d b Y c F0 S0 u S A0 → k75 A0 x1 x2 x3 → yG X d b (yxQi X d b Y c F0 S0 mc ms Q E) u 75 [some (.ref (gO' Y 4)), some (.int (zI x1)), some (.int (zI x2)), some (.int (zI x3))] []) {u : hU} {S : gSt} {A0 : cS} {x1 : Int} {x2 : Int} {x3 : Int} (Rx1 : zR x1) (Rx2 : zR x2) (Rx3 : zR x3) (ho : yOk X b u) (hZ : yZ d b Y c F0 S0 u S A0) (hw : wc_Parser_table_75B rec Q E k75 A0 x1 x2 x3) : yG X d b (yxQi X d b Y c F0 S0 mc ms Q E) u 75 [some (.ref (gO' Y 4)), some (.int (zI x1)), some (.int (zI x2)), some (.int (zI x3))] [] := by
  unfold wc_Parser_table_75B at hw
  refine h_iload_n hC dX6_table_75 rfl ?_
  refine h_iload_n hC dX6_table_76 rfl ?_
  refine yr_icmp_ge (tgt := 95) hC Rx3 Rx2 dX6_table_77 (by decide) (fun c1 => ?_) (fun c1 => ?_)
  · have h2 := hw.1 c1
    refine h_aload_n hC dX6_table_95 rfl ?_
    refine h_dup hC dX6_table_96 rfl ?_
    refine h_get hC fl_X6_31 (hZ.w.o 4 (by decide)) rfl dX6_table_97 ?_
    refine yr_sv (e := (yv A0 11)) hZ 11 rfl ?_
    refine h_iconst (v := zI 1) hC dX6_table_100 rfl ?_
    refine yr_isub hC dX6_table_101 ?_
    obtain ⟨o3, h4⟩ := h2
    refine hi_putx (i := 4) (kx := 11) hC hZ.hi (by decide) fl_X6_31 rfl rfl rfl (Nat.le_of_ble_eq_true rfl) rfl gsame_11 (fun q => absurd q (by decide)) dX6_table_102 (fun F5 S6 I7 K8 s9 v10 p11 => ?_)
    have hZ12 := hZ.put I7 K8 s9 v10 o3 rfl
    clear I7 K8 s9 v10 p11
    refine yr_nu ho hZ12 (fun u13 o14 hZ15 => ?_)
    refine h_iload_n hC dX6_table_105 rfl ?_
    exact h_xret (yr_iret hC hr o14 hZ15 Rx1 h4 dX6_table_106)
  · have h16 := hw.2 c1
    refine h_aload_n hC dX6_table_80 rfl ?_
    refine h_get hC fl_X6_64 (hZ.w.o 4 (by decide)) rfl dX6_table_81 ?_
    refine h_iconst (v := zI 0) hC dX6_table_84 rfl ?_
    refine yr_callVi (As := [.int (zI 0)]) hC hr ho hZ rfl (hZ.w.o 1 (by decide)) (cm_Program_addWord X.la d b (by decide) hZ.rs h16) cl_X6_150 rfl rfl (Nat.le_of_ble_eq_true rfl) (hFr_of (by omega) (Nat.le_of_ble_eq_true rfl)) dX6_table_85 (fun r17 A18 u19 S20 R21 o22 hZ23 h24 => ?_)
    refine h_pop hC dX6_table_88 rfl ?_
    refine yr_iinc (x := x3) (lv' := [some (.ref (gO' Y 4)), some (.int (zI x1)), some (.int (zI x2)), some (.int (zI (x3 + 1)))]) hC dX6_table_89 rfl rfl rfl ?_
    refine h_goto (tgt := 75) hC dX6_table_92 (by decide) ?_
    obtain ⟨o25, h26⟩ := h24
    exact hk75 _ _ _ _ _ _ Rx1 Rx2 o25 o22 hZ23 h26
theorem cl_Parser_table_75 {X : gX} {d : gD} {b : Nat} {Y : gYt} {c : Nat × Nat} {F0 : gM} {S0 : gSt} {mc ms : Nat} {rec : Nat → Int → Int → Int → cS → (Int → cS → Prop) → (cS → Prop) → Prop} {lv0 : Nat} (hC : gC RX6 cX6_table 4 (some .int) "table" (gR (9 + lv0 + 1) mc ms) d b X) (hr : hRm X b) (hst : X.la.stackTraces = false) (hT : ∀ x ∈ X.co.exceptionTable.toList, False) (hcx : yCx b c) (ih : yOkP X.la d b Y c lv0 rec) {Q : Int → cS → Prop} {E : cS → Prop}   : ∀ (m : Nat) (u : hU) (S : gSt) (A0 : cS) (x1 : Int) (x2 : Int) (x3 : Int), zR x1 → zR x2 → zR x3 → yOk X b u → yZ d b Y c F0 S0 u S A0 → wc_Parser_table_75 rec Q E  m A0 x1 x2 x3 → yG X d b (yxQi X d b Y c F0 S0 mc ms Q E) u 75 [some (.ref (gO' Y 4)), some (.int (zI x1)), some (.int (zI x2)), some (.int (zI x3))] [] := by
  intro m
  induction m with
  | zero => intro u S A0 x1 x2 x3 Rx1 Rx2 Rx3 ho hZ hw; exact False.elim hw
  | succ m ihm => intro u S A0 x1 x2 x3 Rx1 Rx2 Rx3 ho hZ hw; exact cb_Parser_table_75 hC hr hst hT hcx ih  ihm Rx1 Rx2 Rx3 ho hZ hw
set_option maxHeartbeats 4000000 in
set_option maxRecDepth 100000 in
theorem cb_Parser_table_15 {X : gX} {d : gD} {b : Nat} {Y : gYt} {c : Nat × Nat} {F0 : gM} {S0 : gSt} {mc ms : Nat} {rec : Nat → Int → Int → Int → cS → (Int → cS → Prop) → (cS → Prop) → Prop} {lv0 : Nat} (hC : gC RX6 cX6_table 4 (some .int) "table" (gR (9 + lv0 + 1) mc ms) d b X) (hr : hRm X b) (hst : X.la.stackTraces = false) (hT : ∀ x ∈ X.co.exceptionTable.toList, False) (hcx : yCx b c) (ih : yOkP X.la d b Y c lv0 rec) {Q : Int → cS → Prop} {E : cS → Prop} {k15 : cS → Int → Int → Int → Prop} (hk15 : ∀ (u : hU) (S : gSt) (A0 : cS) (x1 : Int) (x2 : Int) (x3 : Int), zR x1 → zR x2 → zR x3 → yOk X b u → yZ d b Y c F0 S0 u S A0 → k15 A0 x1 x2 x3 → yG X d b (yxQi X d b Y c F0 S0 mc ms Q E) u 15 [some (.ref (gO' Y 4)), some (.int (zI x1)), some (.int (zI x2)), some (.int (zI x3))] []) {u : hU} {S : gSt} {A0 : cS} {x1 : Int} {x2 : Int} {x3 : Int} (Rx1 : zR x1) (Rx2 : zR x2) (Rx3 : zR x3) (ho : yOk X b u) (hZ : yZ d b Y c F0 S0 u S A0) (hw : wc_Parser_table_15B rec Q E k15 A0 x1 x2 x3) : yG X d b (yxQi X d b Y c F0 S0 mc ms Q E) u 15 [some (.ref (gO' Y 4)), some (.int (zI x1)), some (.int (zI x2)), some (.int (zI x3))] [] := by
  unfold wc_Parser_table_15B at hw
  refine h_iload_n hC dX6_table_15 rfl ?_
  refine yr_ldc (e := 1000000) hC dX6_table_16 kw_514 (by decide) ?_
  refine yr_icmp_ge (tgt := 58) hC Rx3 (by decide) dX6_table_18 (by decide) (fun c1 => ?_) (fun c1 => ?_)
  · have h2 := hw.1 c1
    refine h_aload_n hC dX6_table_58 rfl ?_
    refine h_get hC fl_X6_60 (hZ.w.o 4 (by decide)) rfl dX6_table_59 ?_
    refine h_iload_n hC dX6_table_62 rfl ?_
    refine h_aload_n hC dX6_table_63 rfl ?_
    refine h_get hC fl_X6_64 (hZ.w.o 4 (by decide)) rfl dX6_table_64 ?_
    refine yr_callVi (As := []) hC hr ho hZ rfl (hZ.w.o 1 (by decide)) (cm_Program_words X.la d b  hZ.rs h2) cl_X6_274 rfl rfl (Nat.le_of_ble_eq_true rfl) (hFr_of (by omega) (Nat.le_of_ble_eq_true rfl)) dX6_table_67 (fun r3 A4 u5 S6 R7 o8 hZ9 h10 => ?_)
    refine yr_callVv (As := [.int (zI x1), .int (zI r3)]) hC hr o8 hZ9 rfl (hZ9.w.o 2 (by decide)) (cm_Tree_setData X.la d b Rx1 R7 hZ9.rs h10) cl_X6_193 rfl rfl (Nat.le_of_ble_eq_true rfl) (hFr_of (by omega) (Nat.le_of_ble_eq_true rfl)) dX6_table_70 (fun A12 u13 S14 o16 hZ17 h18 => ?_)
    refine h_iconst (v := zI 0) hC dX6_table_73 rfl ?_
    refine h_istore_n (lv' := [some (.ref (gO' Y 4)), some (.int (zI x1)), some (.int (zI x2)), some (.int (zI 0))]) hC dX6_table_74 (Nat.le_of_ble_eq_true rfl) rfl rfl ?_
    obtain ⟨m19, h20⟩ := h18
    exact cl_Parser_table_75 hC hr hst hT hcx ih  m19 _ _ _ _ _ _ Rx1 Rx2 (by decide) o16 hZ17 h20
  · have h21 := hw.2 c1
    refine h_aload_n hC dX6_table_21 rfl ?_
    refine h_get hC fl_X6_60 (hZ.w.o 4 (by decide)) rfl dX6_table_22 ?_
    refine h_iload_n hC dX6_table_25 rfl ?_
    refine h_aload_n hC dX6_table_26 rfl ?_
    refine yx_calli (As := []) hC hr ho hZ rfl (hZ.w.o 4 (by decide)) (ih.2.2.2.2.2.2.2.2.2.2.2.2.1  hZ.rs h21) cl_X6_156 rfl rfl (Nat.le_of_ble_eq_true rfl) (hFr_of (by omega) (Nat.le_of_ble_eq_true rfl)) dX6_table_27 (fun _ _ _ ho1 hz1 he1 => yx_out hC hr ho1 hz1 hT he1) (fun r22 A23 u24 S25 R26 o27 hZ28 h29 => ?_)
    refine yr_callVv (As := [.int (zI x1), .int (zI r22)]) hC hr o27 hZ28 rfl (hZ28.w.o 2 (by decide)) (cm_Tree_hang X.la d b Rx1 R26 hZ28.rs h29) cl_X6_123 rfl rfl (Nat.le_of_ble_eq_true rfl) (hFr_of (by omega) (Nat.le_of_ble_eq_true rfl)) dX6_table_30 (fun A31 u32 S33 o35 hZ36 h37 => ?_)
    refine yr_iinc (x := x2) (lv' := [some (.ref (gO' Y 4)), some (.int (zI x1)), some (.int (zI (x2 + 1))), some (.int (zI x3))]) hC dX6_table_33 rfl rfl rfl ?_
    refine h_aload_n hC dX6_table_36 rfl ?_
    refine yr_callVi (As := []) hC hr o35 hZ36 rfl (hZ36.w.o 4 (by decide)) (cm_Parser_kind X.la d b  hZ36.rs h37) cl_X6_97 rfl rfl (Nat.le_of_ble_eq_true rfl) (hFr_of (by omega) (Nat.le_of_ble_eq_true rfl)) dX6_table_37 (fun r38 A39 u40 S41 R42 o43 hZ44 h45 => ?_)
    refine h_bipush (v := zI 9) hC dX6_table_40 rfl ?_
    refine yr_icmp_eq (tgt := 48) hC R42 (by decide) dX6_table_42 (by decide) (fun c46 => ?_) (fun c46 => ?_)
    · have h47 := h45.1 c46
      refine h_aload_n hC dX6_table_48 rfl ?_
      refine yr_callVv (As := []) hC hr o43 hZ44 rfl (hZ44.w.o 4 (by decide)) (cm_Parser_advance X.la d b  hZ44.rs h47) cl_X6_103 rfl rfl (Nat.le_of_ble_eq_true rfl) (hFr_of (by omega) (Nat.le_of_ble_eq_true rfl)) dX6_table_49 (fun A49 u50 S51 o53 hZ54 h55 => ?_)
      refine yr_iinc (x := x3) (lv' := [some (.ref (gO' Y 4)), some (.int (zI x1)), some (.int (zI (x2 + 1))), some (.int (zI (x3 + 1)))]) hC dX6_table_52 rfl rfl rfl ?_
      refine h_goto (tgt := 15) hC dX6_table_55 (by decide) ?_
      obtain ⟨o56, h57⟩ := h55
      obtain ⟨o58, h59⟩ := h57
      exact hk15 _ _ _ _ _ _ Rx1 o56 o58 o53 hZ54 h59
    · have h60 := h45.2 c46
      refine h_goto (tgt := 58) hC dX6_table_45 (by decide) ?_
      refine h_aload_n hC dX6_table_58 rfl ?_
      refine h_get hC fl_X6_60 (hZ44.w.o 4 (by decide)) rfl dX6_table_59 ?_
      refine h_iload_n hC dX6_table_62 rfl ?_
      refine h_aload_n hC dX6_table_63 rfl ?_
      refine h_get hC fl_X6_64 (hZ44.w.o 4 (by decide)) rfl dX6_table_64 ?_
      refine yr_callVi (As := []) hC hr o43 hZ44 rfl (hZ44.w.o 1 (by decide)) (cm_Program_words X.la d b  hZ44.rs h60) cl_X6_274 rfl rfl (Nat.le_of_ble_eq_true rfl) (hFr_of (by omega) (Nat.le_of_ble_eq_true rfl)) dX6_table_67 (fun r61 A62 u63 S64 R65 o66 hZ67 h68 => ?_)
      refine yr_callVv (As := [.int (zI x1), .int (zI r61)]) hC hr o66 hZ67 rfl (hZ67.w.o 2 (by decide)) (cm_Tree_setData X.la d b Rx1 R65 hZ67.rs h68) cl_X6_193 rfl rfl (Nat.le_of_ble_eq_true rfl) (hFr_of (by omega) (Nat.le_of_ble_eq_true rfl)) dX6_table_70 (fun A70 u71 S72 o74 hZ75 h76 => ?_)
      refine h_iconst (v := zI 0) hC dX6_table_73 rfl ?_
      refine h_istore_n (lv' := [some (.ref (gO' Y 4)), some (.int (zI x1)), some (.int (zI (x2 + 1))), some (.int (zI 0))]) hC dX6_table_74 (Nat.le_of_ble_eq_true rfl) rfl rfl ?_
      obtain ⟨o77, h78⟩ := h76
      obtain ⟨m79, h80⟩ := h78
      exact cl_Parser_table_75 hC hr hst hT hcx ih  m79 _ _ _ _ _ _ Rx1 o77 (by decide) o74 hZ75 h80
theorem cl_Parser_table_15 {X : gX} {d : gD} {b : Nat} {Y : gYt} {c : Nat × Nat} {F0 : gM} {S0 : gSt} {mc ms : Nat} {rec : Nat → Int → Int → Int → cS → (Int → cS → Prop) → (cS → Prop) → Prop} {lv0 : Nat} (hC : gC RX6 cX6_table 4 (some .int) "table" (gR (9 + lv0 + 1) mc ms) d b X) (hr : hRm X b) (hst : X.la.stackTraces = false) (hT : ∀ x ∈ X.co.exceptionTable.toList, False) (hcx : yCx b c) (ih : yOkP X.la d b Y c lv0 rec) {Q : Int → cS → Prop} {E : cS → Prop}   : ∀ (m : Nat) (u : hU) (S : gSt) (A0 : cS) (x1 : Int) (x2 : Int) (x3 : Int), zR x1 → zR x2 → zR x3 → yOk X b u → yZ d b Y c F0 S0 u S A0 → wc_Parser_table_15 rec Q E  m A0 x1 x2 x3 → yG X d b (yxQi X d b Y c F0 S0 mc ms Q E) u 15 [some (.ref (gO' Y 4)), some (.int (zI x1)), some (.int (zI x2)), some (.int (zI x3))] [] := by
  intro m
  induction m with
  | zero => intro u S A0 x1 x2 x3 Rx1 Rx2 Rx3 ho hZ hw; exact False.elim hw
  | succ m ihm => intro u S A0 x1 x2 x3 Rx1 Rx2 Rx3 ho hZ hw; exact cb_Parser_table_15 hC hr hst hT hcx ih  ihm Rx1 Rx2 Rx3 ho hZ hw
set_option maxHeartbeats 4000000 in
set_option maxRecDepth 100000 in
theorem cm_Parser_table (l : Launch) (d : gD) (b : Nat) {Y : gYt} {c : Nat × Nat} (hst : l.stackTraces = false) (hcx : yCx b c) {rec : Nat → Int → Int → Int → cS → (Int → cS → Prop) → (cS → Prop) → Prop} {lv0 : Nat} (ih : yOkP l d b Y c lv0 rec) {F : gM} {k n : Nat} {S : gSt} {A0 : cS}   {Q : Int → cS → Prop} {E : cS → Prop} (hZ : yZ d b Y c F S (F, k, n) S A0) (hw : wc_Parser_table rec A0  Q E) : hXi l d b yX6_table cX6_table 4 .int (9 + lv0 + 1) k n F [.ref (gO' Y 4)] (yPi d b Y c F S Q) "java/lang/IllegalStateException" (yPx d b Y c F S E) := by
  intro mc ms
  refine hX_of2 rfl (nL := 4) (Nat.le_of_ble_eq_true rfl) ?_
  intro X hX hT hC hr ho; subst hX
  show yG X d b (yxQi X d b Y c F S mc ms Q E) (F, k, n) 0 [some (.ref (gO' Y 4)), none, none, none] []
  unfold wc_Parser_table at hw
  refine h_aload_n hC dX6_table_0 rfl ?_
  refine yx_callv (As := []) hC hr ho hZ rfl (hZ.w.o 4 (by decide)) (cm_Parser_enter X.la d b hst hcx  hZ.rs hw) cl_X6_162 rfl rfl (Nat.le_of_ble_eq_true rfl) (hFr_of (by omega) (Nat.le_of_ble_eq_true rfl)) dX6_table_1 (fun _ _ _ ho1 hz1 he1 => yx_out hC hr ho1 hz1 hT he1) (fun A2 u3 S4 o6 hZ7 h8 => ?_)
  refine h_aload_n hC dX6_table_4 rfl ?_
  refine h_bipush (v := zI 35) hC dX6_table_5 rfl ?_
  refine yr_callVi (As := [.int (zI 35)]) hC hr o6 hZ7 rfl (hZ7.w.o 4 (by decide)) (cm_Parser_leaf X.la d b (by decide) hZ7.rs h8) cl_X6_135 rfl rfl (Nat.le_of_ble_eq_true rfl) (hFr_of (by omega) (Nat.le_of_ble_eq_true rfl)) dX6_table_7 (fun r9 A10 u11 S12 R13 o14 hZ15 h16 => ?_)
  refine h_istore_n (lv' := [some (.ref (gO' Y 4)), some (.int (zI r9)), none, none]) hC dX6_table_10 (Nat.le_of_ble_eq_true rfl) rfl rfl ?_
  refine h_iconst (v := zI 0) hC dX6_table_11 rfl ?_
  refine h_istore_n (lv' := [some (.ref (gO' Y 4)), some (.int (zI r9)), some (.int (zI 0)), none]) hC dX6_table_12 (Nat.le_of_ble_eq_true rfl) rfl rfl ?_
  refine h_iconst (v := zI 0) hC dX6_table_13 rfl ?_
  refine h_istore_n (lv' := [some (.ref (gO' Y 4)), some (.int (zI r9)), some (.int (zI 0)), some (.int (zI 0))]) hC dX6_table_14 (Nat.le_of_ble_eq_true rfl) rfl rfl ?_
  obtain ⟨m17, h18⟩ := h16
  exact cl_Parser_table_15 hC hr hst hT hcx ih  m17 _ _ _ _ _ _ R13 (by decide) (by decide) o14 hZ15 h18
theorem dX6_calls_0 : decode cX6_calls 0 = .ok (.aload_n 0, 1) := by decide +kernel
theorem dX6_calls_1 : decode cX6_calls 1 = .ok (.getfield 60, 3) := by decide +kernel
theorem dX6_calls_4 : decode cX6_calls 4 = .ok (.bipush 83, 2) := by decide +kernel
theorem dX6_calls_6 : decode cX6_calls 6 = .ok (.aload_n 0, 1) := by decide +kernel
theorem dX6_calls_7 : decode cX6_calls 7 = .ok (.getfield 60, 3) := by decide +kernel
theorem dX6_calls_10 : decode cX6_calls 10 = .ok (.iload_n 1, 1) := by decide +kernel
theorem dX6_calls_11 : decode cX6_calls 11 = .ok (.invokevirtual 223, 3) := by decide +kernel
theorem dX6_calls_14 : decode cX6_calls 14 = .ok (.iconst 0, 1) := by decide +kernel
theorem dX6_calls_15 : decode cX6_calls 15 = .ok (.invokevirtual 115, 3) := by decide +kernel
theorem dX6_calls_18 : decode cX6_calls 18 = .ok (.istore_n 2, 1) := by decide +kernel
theorem dX6_calls_19 : decode cX6_calls 19 = .ok (.aload_n 0, 1) := by decide +kernel
theorem dX6_calls_20 : decode cX6_calls 20 = .ok (.getfield 60, 3) := by decide +kernel
theorem dX6_calls_23 : decode cX6_calls 23 = .ok (.bipush 80, 2) := by decide +kernel
theorem dX6_calls_25 : decode cX6_calls 25 = .ok (.aload_n 0, 1) := by decide +kernel
theorem dX6_calls_26 : decode cX6_calls 26 = .ok (.getfield 60, 3) := by decide +kernel
theorem dX6_calls_29 : decode cX6_calls 29 = .ok (.iload_n 1, 1) := by decide +kernel
theorem dX6_calls_30 : decode cX6_calls 30 = .ok (.invokevirtual 223, 3) := by decide +kernel
theorem dX6_calls_33 : decode cX6_calls 33 = .ok (.iconst 0, 1) := by decide +kernel
theorem dX6_calls_34 : decode cX6_calls 34 = .ok (.invokevirtual 115, 3) := by decide +kernel
theorem dX6_calls_37 : decode cX6_calls 37 = .ok (.istore_n 3, 1) := by decide +kernel
theorem dX6_calls_38 : decode cX6_calls 38 = .ok (.aload_n 0, 1) := by decide +kernel
theorem dX6_calls_39 : decode cX6_calls 39 = .ok (.getfield 60, 3) := by decide +kernel
theorem dX6_calls_42 : decode cX6_calls 42 = .ok (.iload_n 3, 1) := by decide +kernel
theorem dX6_calls_43 : decode cX6_calls 43 = .ok (.iload_n 1, 1) := by decide +kernel
theorem dX6_calls_44 : decode cX6_calls 44 = .ok (.invokevirtual 123, 3) := by decide +kernel
theorem dX6_calls_47 : decode cX6_calls 47 = .ok (.aload_n 0, 1) := by decide +kernel
theorem dX6_calls_48 : decode cX6_calls 48 = .ok (.getfield 60, 3) := by decide +kernel
theorem dX6_calls_51 : decode cX6_calls 51 = .ok (.iload_n 2, 1) := by decide +kernel
theorem dX6_calls_52 : decode cX6_calls 52 = .ok (.iload_n 3, 1) := by decide +kernel
theorem dX6_calls_53 : decode cX6_calls 53 = .ok (.invokevirtual 123, 3) := by decide +kernel
theorem dX6_calls_56 : decode cX6_calls 56 = .ok (.iconst 0, 1) := by decide +kernel
theorem dX6_calls_57 : decode cX6_calls 57 = .ok (.istore 4, 2) := by decide +kernel
theorem dX6_calls_59 : decode cX6_calls 59 = .ok (.iload 4, 2) := by decide +kernel
theorem dX6_calls_61 : decode cX6_calls 61 = .ok (.ldc 11, 2) := by decide +kernel
theorem dX6_calls_63 : decode cX6_calls 63 = .ok (.if_icmp .ge 145, 3) := by decide +kernel
theorem dX6_calls_66 : decode cX6_calls 66 = .ok (.aload_n 0, 1) := by decide +kernel
theorem dX6_calls_67 : decode cX6_calls 67 = .ok (.invokevirtual 97, 3) := by decide +kernel
theorem dX6_calls_70 : decode cX6_calls 70 = .ok (.bipush 7, 2) := by decide +kernel
theorem dX6_calls_72 : decode cX6_calls 72 = .ok (.if_icmp .ne 136, 3) := by decide +kernel
theorem dX6_calls_75 : decode cX6_calls 75 = .ok (.aload_n 0, 1) := by decide +kernel
theorem dX6_calls_76 : decode cX6_calls 76 = .ok (.invokevirtual 162, 3) := by decide +kernel
theorem dX6_calls_79 : decode cX6_calls 79 = .ok (.aload_n 0, 1) := by decide +kernel
theorem dX6_calls_80 : decode cX6_calls 80 = .ok (.bipush 84, 2) := by decide +kernel
theorem dX6_calls_82 : decode cX6_calls 82 = .ok (.invokevirtual 135, 3) := by decide +kernel
theorem dX6_calls_85 : decode cX6_calls 85 = .ok (.istore 5, 2) := by decide +kernel
theorem dX6_calls_87 : decode cX6_calls 87 = .ok (.iconst 0, 1) := by decide +kernel
theorem dX6_calls_88 : decode cX6_calls 88 = .ok (.istore 6, 2) := by decide +kernel
theorem dX6_calls_90 : decode cX6_calls 90 = .ok (.aload_n 0, 1) := by decide +kernel
theorem dX6_calls_91 : decode cX6_calls 91 = .ok (.invokevirtual 97, 3) := by decide +kernel
theorem dX6_calls_94 : decode cX6_calls 94 = .ok (.bipush 8, 2) := by decide +kernel
theorem dX6_calls_96 : decode cX6_calls 96 = .ok (.if_icmp .eq 7, 3) := by decide +kernel
theorem dX6_calls_99 : decode cX6_calls 99 = .ok (.iconst 1, 1) := by decide +kernel
theorem dX6_calls_100 : decode cX6_calls 100 = .ok (.goto 4, 3) := by decide +kernel
theorem dX6_calls_103 : decode cX6_calls 103 = .ok (.iconst 0, 1) := by decide +kernel
theorem dX6_calls_104 : decode cX6_calls 104 = .ok (.istore 7, 2) := by decide +kernel
theorem dX6_calls_106 : decode cX6_calls 106 = .ok (.iconst 1, 1) := by decide +kernel
theorem dX6_calls_107 : decode cX6_calls 107 = .ok (.istore 8, 2) := by decide +kernel
theorem dX6_calls_109 : decode cX6_calls 109 = .ok (.iload 8, 2) := by decide +kernel
theorem dX6_calls_111 : decode cX6_calls 111 = .ok (.bipush 20, 2) := by decide +kernel
theorem dX6_calls_113 : decode cX6_calls 113 = .ok (.if_icmp .gt 62, 3) := by decide +kernel
theorem dX6_calls_116 : decode cX6_calls 116 = .ok (.iload 7, 2) := by decide +kernel
theorem dX6_calls_118 : decode cX6_calls 118 = .ok (.ifCond .eq 57, 3) := by decide +kernel
theorem dX6_calls_121 : decode cX6_calls 121 = .ok (.aload_n 0, 1) := by decide +kernel
theorem dX6_calls_122 : decode cX6_calls 122 = .ok (.getfield 60, 3) := by decide +kernel
theorem dX6_calls_125 : decode cX6_calls 125 = .ok (.iload 5, 2) := by decide +kernel
theorem dX6_calls_127 : decode cX6_calls 127 = .ok (.aload_n 0, 1) := by decide +kernel
theorem dX6_calls_128 : decode cX6_calls 128 = .ok (.invokevirtual 156, 3) := by decide +kernel
theorem dX6_calls_131 : decode cX6_calls 131 = .ok (.invokevirtual 123, 3) := by decide +kernel
theorem dX6_calls_134 : decode cX6_calls 134 = .ok (.iinc 6 1, 3) := by decide +kernel
theorem dX6_calls_137 : decode cX6_calls 137 = .ok (.aload_n 0, 1) := by decide +kernel
theorem dX6_calls_138 : decode cX6_calls 138 = .ok (.invokevirtual 97, 3) := by decide +kernel
theorem dX6_calls_141 : decode cX6_calls 141 = .ok (.bipush 9, 2) := by decide +kernel
theorem dX6_calls_143 : decode cX6_calls 143 = .ok (.if_icmp .ne 14, 3) := by decide +kernel
theorem dX6_calls_146 : decode cX6_calls 146 = .ok (.iload 8, 2) := by decide +kernel
theorem dX6_calls_148 : decode cX6_calls 148 = .ok (.bipush 20, 2) := by decide +kernel
theorem dX6_calls_150 : decode cX6_calls 150 = .ok (.if_icmp .ge 7, 3) := by decide +kernel
theorem dX6_calls_153 : decode cX6_calls 153 = .ok (.iconst 1, 1) := by decide +kernel
theorem dX6_calls_154 : decode cX6_calls 154 = .ok (.goto 4, 3) := by decide +kernel
theorem dX6_calls_157 : decode cX6_calls 157 = .ok (.iconst 0, 1) := by decide +kernel
theorem dX6_calls_158 : decode cX6_calls 158 = .ok (.istore 7, 2) := by decide +kernel
theorem dX6_calls_160 : decode cX6_calls 160 = .ok (.iload 7, 2) := by decide +kernel
theorem dX6_calls_162 : decode cX6_calls 162 = .ok (.ifCond .eq 7, 3) := by decide +kernel
theorem dX6_calls_165 : decode cX6_calls 165 = .ok (.aload_n 0, 1) := by decide +kernel
theorem dX6_calls_166 : decode cX6_calls 166 = .ok (.invokevirtual 103, 3) := by decide +kernel
theorem dX6_calls_169 : decode cX6_calls 169 = .ok (.iinc 8 1, 3) := by decide +kernel
theorem dX6_calls_172 : decode cX6_calls 172 = .ok (.goto (-63), 3) := by decide +kernel
theorem dX6_calls_175 : decode cX6_calls 175 = .ok (.aload_n 0, 1) := by decide +kernel
theorem dX6_calls_176 : decode cX6_calls 176 = .ok (.bipush 8, 2) := by decide +kernel
theorem dX6_calls_178 : decode cX6_calls 178 = .ok (.invokevirtual 109, 3) := by decide +kernel
theorem dX6_calls_181 : decode cX6_calls 181 = .ok (.aload_n 0, 1) := by decide +kernel
theorem dX6_calls_182 : decode cX6_calls 182 = .ok (.getfield 60, 3) := by decide +kernel
theorem dX6_calls_185 : decode cX6_calls 185 = .ok (.iload 5, 2) := by decide +kernel
theorem dX6_calls_187 : decode cX6_calls 187 = .ok (.iload 6, 2) := by decide +kernel
theorem dX6_calls_189 : decode cX6_calls 189 = .ok (.invokevirtual 193, 3) := by decide +kernel
theorem dX6_calls_192 : decode cX6_calls 192 = .ok (.aload_n 0, 1) := by decide +kernel
theorem dX6_calls_193 : decode cX6_calls 193 = .ok (.getfield 60, 3) := by decide +kernel
theorem dX6_calls_196 : decode cX6_calls 196 = .ok (.iload_n 2, 1) := by decide +kernel
theorem dX6_calls_197 : decode cX6_calls 197 = .ok (.iload 5, 2) := by decide +kernel
theorem dX6_calls_199 : decode cX6_calls 199 = .ok (.invokevirtual 123, 3) := by decide +kernel
theorem dX6_calls_202 : decode cX6_calls 202 = .ok (.iinc 4 1, 3) := by decide +kernel
theorem dX6_calls_205 : decode cX6_calls 205 = .ok (.goto (-146), 3) := by decide +kernel
theorem dX6_calls_208 : decode cX6_calls 208 = .ok (.iload_n 2, 1) := by decide +kernel
theorem dX6_calls_209 : decode cX6_calls 209 = .ok (.ireturn, 1) := by decide +kernel
def wc_Parser_calls_109B (rec : Nat → Int → Int → Int → cS → (Int → cS → Prop) → (cS → Prop) → Prop) (Q : Int → cS → Prop) (E : cS → Prop) (k59 : cS → Int → Int → Prop) (k109 : cS → Int → Int → Int → Int → Int → Int → Prop) (A0 : cS) (x2 : Int) (x4 : Int) (x5 : Int) (x6 : Int) (x7 : Int) (x8 : Int) : Prop :=
  ((20 < x8 → wc_Parser_due A0 8 (fun A4 => wc_Tree_setData A4 x5 x6 (fun A12 => wc_Tree_hang A12 x2 x5 (fun A20 => (zR (x4 + 1)) ∧ k59 A20 x2 (x4 + 1)))) E) ∧ (¬ 20 < x8 → ((x7 = 0 → wc_Parser_due A0 8 (fun A33 => wc_Tree_setData A33 x5 x6 (fun A41 => wc_Tree_hang A41 x2 x5 (fun A49 => (zR (x4 + 1)) ∧ k59 A49 x2 (x4 + 1)))) E) ∧ (¬ x7 = 0 → rec 12 0 0 0 A0 (fun r59 A60 => wc_Tree_hang A60 x5 r59 (fun A68 => wc_Parser_kind A68  (fun r75 A76 => ((¬ r75 = 9 → (zR (x6 + 1)) ∧ (zR (x8 + 1)) ∧ k109 A76 x2 x4 x5 (x6 + 1) 0 (x8 + 1)) ∧ (r75 = 9 → ((20 ≤ x8 → (zR (x6 + 1)) ∧ (zR (x8 + 1)) ∧ k109 A76 x2 x4 x5 (x6 + 1) 0 (x8 + 1)) ∧ (¬ 20 ≤ x8 → wc_Parser_advance A76  (fun A101 => (zR (x6 + 1)) ∧ (zR (x8 + 1)) ∧ k109 A101 x2 x4 x5 (x6 + 1) 1 (x8 + 1))))))))) E))))
def wc_Parser_calls_109 (rec : Nat → Int → Int → Int → cS → (Int → cS → Prop) → (cS → Prop) → Prop) (Q : Int → cS → Prop) (E : cS → Prop) (k59 : cS → Int → Int → Prop) : Nat → cS → Int → Int → Int → Int → Int → Int → Prop
  | 0 => fun _ _ _ _ _ _ _ => False
  | m + 1 => fun A0 x2 x4 x5 x6 x7 x8 => wc_Parser_calls_109B rec Q E k59 (wc_Parser_calls_109 rec Q E k59 m) A0 x2 x4 x5 x6 x7 x8
def wc_Parser_calls_59B (rec : Nat → Int → Int → Int → cS → (Int → cS → Prop) → (cS → Prop) → Prop) (Q : Int → cS → Prop) (E : cS → Prop) (k59 : cS → Int → Int → Prop) (A0 : cS) (x2 : Int) (x4 : Int) : Prop :=
  ((1000000 ≤ x4 → Q x2 A0) ∧ (¬ 1000000 ≤ x4 → wc_Parser_kind A0  (fun r4 A5 => ((¬ r4 = 7 → Q x2 A5) ∧ (r4 = 7 → wc_Parser_enter A5  (fun A16 => wc_Parser_leaf A16 84 (fun r23 A24 => wc_Parser_kind A24  (fun r31 A32 => ((r31 = 8 → ∃ n, wc_Parser_calls_109 rec Q E k59 n A32 x2 x4 r23 0 0 1) ∧ (¬ r31 = 8 → ∃ n, wc_Parser_calls_109 rec Q E k59 n A32 x2 x4 r23 0 1 1))))) E)))))
def wc_Parser_calls_59 (rec : Nat → Int → Int → Int → cS → (Int → cS → Prop) → (cS → Prop) → Prop) (Q : Int → cS → Prop) (E : cS → Prop)  : Nat → cS → Int → Int → Prop
  | 0 => fun _ _ _ => False
  | m + 1 => fun A0 x2 x4 => wc_Parser_calls_59B rec Q E  (wc_Parser_calls_59 rec Q E  m) A0 x2 x4
def wc_Parser_calls (rec : Nat → Int → Int → Int → cS → (Int → cS → Prop) → (cS → Prop) → Prop) (A0 : cS) (a0 : Int) (Q : Int → cS → Prop) (E : cS → Prop) : Prop :=
  wc_Tree_place A0 a0 (fun r1 A2 => wc_Tree_node A2 83 r1 0 (fun r9 A10 => wc_Tree_place A10 a0 (fun r17 A18 => wc_Tree_node A18 80 r17 0 (fun r25 A26 => wc_Tree_hang A26 r25 a0 (fun A34 => wc_Tree_hang A34 r9 r25 (fun A42 => ∃ n, wc_Parser_calls_59 rec Q E  n A42 r9 0))))))
set_option maxHeartbeats 4000000 in
set_option maxRecDepth 100000 in
theorem cb_Parser_calls_109 {X : gX} {d : gD} {b : Nat} {Y : gYt} {c : Nat × Nat} {F0 : gM} {S0 : gSt} {mc ms : Nat} {rec : Nat → Int → Int → Int → cS → (Int → cS → Prop) → (cS → Prop) → Prop} {lv0 : Nat} (hC : gC RX6 cX6_calls 9 (some .int) "calls" (gR (9 + lv0 + 1) mc ms) d b X) (hr : hRm X b) (hst : X.la.stackTraces = false) (hT : ∀ x ∈ X.co.exceptionTable.toList, False) (hcx : yCx b c) (ih : yOkP X.la d b Y c lv0 rec) {Q : Int → cS → Prop} {E : cS → Prop} {k59 : cS → Int → Int → Prop} {k109 : cS → Int → Int → Int → Int → Int → Int → Prop} (hk59 : ∀ (u : hU) (S : gSt) (A0 : cS) (x2 : Int) (x4 : Int), zR x2 → zR x4 → yOk X b u → yZ d b Y c F0 S0 u S A0 → k59 A0 x2 x4 → yG X d b (yxQi X d b Y c F0 S0 mc ms Q E) u 59 [some (.ref (gO' Y 4)), none, some (.int (zI x2)), none, some (.int (zI x4)), none, none, none, none] []) (hk109 : ∀ (u : hU) (S : gSt) (A0 : cS) (x2 : Int) (x4 : Int) (x5 : Int) (x6 : Int) (x7 : Int) (x8 : Int), zR x2 → zR x4 → zR x5 → zR x6 → zR x7 → zR x8 → yOk X b u → yZ d b Y c F0 S0 u S A0 → k109 A0 x2 x4 x5 x6 x7 x8 → yG X d b (yxQi X d b Y c F0 S0 mc ms Q E) u 109 [some (.ref (gO' Y 4)), none, some (.int (zI x2)), none, some (.int (zI x4)), some (.int (zI x5)), some (.int (zI x6)), some (.int (zI x7)), some (.int (zI x8))] []) {u : hU} {S : gSt} {A0 : cS} {x2 : Int} {x4 : Int} {x5 : Int} {x6 : Int} {x7 : Int} {x8 : Int} (Rx2 : zR x2) (Rx4 : zR x4) (Rx5 : zR x5) (Rx6 : zR x6) (Rx7 : zR x7) (Rx8 : zR x8) (ho : yOk X b u) (hZ : yZ d b Y c F0 S0 u S A0) (hw : wc_Parser_calls_109B rec Q E k59 k109 A0 x2 x4 x5 x6 x7 x8) : yG X d b (yxQi X d b Y c F0 S0 mc ms Q E) u 109 [some (.ref (gO' Y 4)), none, some (.int (zI x2)), none, some (.int (zI x4)), some (.int (zI x5)), some (.int (zI x6)), some (.int (zI x7)), some (.int (zI x8))] [] := by
  unfold wc_Parser_calls_109B at hw
  refine h_iload hC dX6_calls_109 rfl ?_
  refine h_bipush (v := zI 20) hC dX6_calls_111 rfl ?_
  refine yr_icmp_gt (tgt := 175) hC Rx8 (by decide) dX6_calls_113 (by decide) (fun c1 => ?_) (fun c1 => ?_)
  · have h2 := hw.1 c1
    refine h_aload_n hC dX6_calls_175 rfl ?_
    refine h_bipush (v := zI 8) hC dX6_calls_176 rfl ?_
    refine yx_callv (As := [.int (zI 8)]) hC hr ho hZ rfl (hZ.w.o 4 (by decide)) (cm_Parser_due X.la d b hst hcx (by decide) hZ.rs h2) cl_X6_109 rfl rfl (Nat.le_of_ble_eq_true rfl) (hFr_of (by omega) (Nat.le_of_ble_eq_true rfl)) dX6_calls_178 (fun _ _ _ ho1 hz1 he1 => yx_out hC hr ho1 hz1 hT he1) (fun A4 u5 S6 o8 hZ9 h10 => ?_)
    refine h_aload_n hC dX6_calls_181 rfl ?_
    refine h_get hC fl_X6_60 (hZ9.w.o 4 (by decide)) rfl dX6_calls_182 ?_
    refine h_iload hC dX6_calls_185 rfl ?_
    refine h_iload hC dX6_calls_187 rfl ?_
    refine yr_callVv (As := [.int (zI x5), .int (zI x6)]) hC hr o8 hZ9 rfl (hZ9.w.o 2 (by decide)) (cm_Tree_setData X.la d b Rx5 Rx6 hZ9.rs h10) cl_X6_193 rfl rfl (Nat.le_of_ble_eq_true rfl) (hFr_of (by omega) (Nat.le_of_ble_eq_true rfl)) dX6_calls_189 (fun A12 u13 S14 o16 hZ17 h18 => ?_)
    refine h_aload_n hC dX6_calls_192 rfl ?_
    refine h_get hC fl_X6_60 (hZ17.w.o 4 (by decide)) rfl dX6_calls_193 ?_
    refine h_iload_n hC dX6_calls_196 rfl ?_
    refine h_iload hC dX6_calls_197 rfl ?_
    refine yr_callVv (As := [.int (zI x2), .int (zI x5)]) hC hr o16 hZ17 rfl (hZ17.w.o 2 (by decide)) (cm_Tree_hang X.la d b Rx2 Rx5 hZ17.rs h18) cl_X6_123 rfl rfl (Nat.le_of_ble_eq_true rfl) (hFr_of (by omega) (Nat.le_of_ble_eq_true rfl)) dX6_calls_199 (fun A20 u21 S22 o24 hZ25 h26 => ?_)
    refine yr_iinc (x := x4) (lv' := [some (.ref (gO' Y 4)), none, some (.int (zI x2)), none, some (.int (zI (x4 + 1))), some (.int (zI x5)), some (.int (zI x6)), some (.int (zI x7)), some (.int (zI x8))]) hC dX6_calls_202 rfl rfl rfl ?_
    refine h_goto (tgt := 59) hC dX6_calls_205 (by decide) ?_
    obtain ⟨o27, h28⟩ := h26
    refine h_lv (lv' := [some (.ref (gO' Y 4)), none, some (.int (zI x2)), none, some (.int (zI (x4 + 1))), none, none, none, none]) ⟨rfl, rfl, rfl, trivial⟩ ?_
    exact hk59 _ _ _ _ _ Rx2 o27 o24 hZ25 h28
  · have h29 := hw.2 c1
    refine h_iload hC dX6_calls_116 rfl ?_
    refine yr_if_eq (tgt := 175) hC Rx7 dX6_calls_118 (by decide) (fun c30 => ?_) (fun c30 => ?_)
    · have h31 := h29.1 c30
      refine h_aload_n hC dX6_calls_175 rfl ?_
      refine h_bipush (v := zI 8) hC dX6_calls_176 rfl ?_
      refine yx_callv (As := [.int (zI 8)]) hC hr ho hZ rfl (hZ.w.o 4 (by decide)) (cm_Parser_due X.la d b hst hcx (by decide) hZ.rs h31) cl_X6_109 rfl rfl (Nat.le_of_ble_eq_true rfl) (hFr_of (by omega) (Nat.le_of_ble_eq_true rfl)) dX6_calls_178 (fun _ _ _ ho1 hz1 he1 => yx_out hC hr ho1 hz1 hT he1) (fun A33 u34 S35 o37 hZ38 h39 => ?_)
      refine h_aload_n hC dX6_calls_181 rfl ?_
      refine h_get hC fl_X6_60 (hZ38.w.o 4 (by decide)) rfl dX6_calls_182 ?_
      refine h_iload hC dX6_calls_185 rfl ?_
      refine h_iload hC dX6_calls_187 rfl ?_
      refine yr_callVv (As := [.int (zI x5), .int (zI x6)]) hC hr o37 hZ38 rfl (hZ38.w.o 2 (by decide)) (cm_Tree_setData X.la d b Rx5 Rx6 hZ38.rs h39) cl_X6_193 rfl rfl (Nat.le_of_ble_eq_true rfl) (hFr_of (by omega) (Nat.le_of_ble_eq_true rfl)) dX6_calls_189 (fun A41 u42 S43 o45 hZ46 h47 => ?_)
      refine h_aload_n hC dX6_calls_192 rfl ?_
      refine h_get hC fl_X6_60 (hZ46.w.o 4 (by decide)) rfl dX6_calls_193 ?_
      refine h_iload_n hC dX6_calls_196 rfl ?_
      refine h_iload hC dX6_calls_197 rfl ?_
      refine yr_callVv (As := [.int (zI x2), .int (zI x5)]) hC hr o45 hZ46 rfl (hZ46.w.o 2 (by decide)) (cm_Tree_hang X.la d b Rx2 Rx5 hZ46.rs h47) cl_X6_123 rfl rfl (Nat.le_of_ble_eq_true rfl) (hFr_of (by omega) (Nat.le_of_ble_eq_true rfl)) dX6_calls_199 (fun A49 u50 S51 o53 hZ54 h55 => ?_)
      refine yr_iinc (x := x4) (lv' := [some (.ref (gO' Y 4)), none, some (.int (zI x2)), none, some (.int (zI (x4 + 1))), some (.int (zI x5)), some (.int (zI x6)), some (.int (zI x7)), some (.int (zI x8))]) hC dX6_calls_202 rfl rfl rfl ?_
      refine h_goto (tgt := 59) hC dX6_calls_205 (by decide) ?_
      obtain ⟨o56, h57⟩ := h55
      refine h_lv (lv' := [some (.ref (gO' Y 4)), none, some (.int (zI x2)), none, some (.int (zI (x4 + 1))), none, none, none, none]) ⟨rfl, rfl, rfl, trivial⟩ ?_
      exact hk59 _ _ _ _ _ Rx2 o56 o53 hZ54 h57
    · have h58 := h29.2 c30
      refine h_aload_n hC dX6_calls_121 rfl ?_
      refine h_get hC fl_X6_60 (hZ.w.o 4 (by decide)) rfl dX6_calls_122 ?_
      refine h_iload hC dX6_calls_125 rfl ?_
      refine h_aload_n hC dX6_calls_127 rfl ?_
      refine yx_calli (As := []) hC hr ho hZ rfl (hZ.w.o 4 (by decide)) (ih.2.2.2.2.2.2.2.2.2.2.2.2.1  hZ.rs h58) cl_X6_156 rfl rfl (Nat.le_of_ble_eq_true rfl) (hFr_of (by omega) (Nat.le_of_ble_eq_true rfl)) dX6_calls_128 (fun _ _ _ ho1 hz1 he1 => yx_out hC hr ho1 hz1 hT he1) (fun r59 A60 u61 S62 R63 o64 hZ65 h66 => ?_)
      refine yr_callVv (As := [.int (zI x5), .int (zI r59)]) hC hr o64 hZ65 rfl (hZ65.w.o 2 (by decide)) (cm_Tree_hang X.la d b Rx5 R63 hZ65.rs h66) cl_X6_123 rfl rfl (Nat.le_of_ble_eq_true rfl) (hFr_of (by omega) (Nat.le_of_ble_eq_true rfl)) dX6_calls_131 (fun A68 u69 S70 o72 hZ73 h74 => ?_)
      refine yr_iinc (x := x6) (lv' := [some (.ref (gO' Y 4)), none, some (.int (zI x2)), none, some (.int (zI x4)), some (.int (zI x5)), some (.int (zI (x6 + 1))), some (.int (zI x7)), some (.int (zI x8))]) hC dX6_calls_134 rfl rfl rfl ?_
      refine h_aload_n hC dX6_calls_137 rfl ?_
      refine yr_callVi (As := []) hC hr o72 hZ73 rfl (hZ73.w.o 4 (by decide)) (cm_Parser_kind X.la d b  hZ73.rs h74) cl_X6_97 rfl rfl (Nat.le_of_ble_eq_true rfl) (hFr_of (by omega) (Nat.le_of_ble_eq_true rfl)) dX6_calls_138 (fun r75 A76 u77 S78 R79 o80 hZ81 h82 => ?_)
      refine h_bipush (v := zI 9) hC dX6_calls_141 rfl ?_
      refine yr_icmp_ne (tgt := 157) hC R79 (by decide) dX6_calls_143 (by decide) (fun c83 => ?_) (fun c83 => ?_)
      · have h84 := h82.1 c83
        refine h_iconst (v := zI 0) hC dX6_calls_157 rfl ?_
        refine h_istore (lv' := [some (.ref (gO' Y 4)), none, some (.int (zI x2)), none, some (.int (zI x4)), some (.int (zI x5)), some (.int (zI (x6 + 1))), some (.int (zI 0)), some (.int (zI x8))]) hC dX6_calls_158 (Nat.le_of_ble_eq_true rfl) rfl rfl ?_
        refine h_iload hC dX6_calls_160 rfl ?_
        refine yr_if_eq (tgt := 169) hC (by decide) dX6_calls_162 (by decide) (fun c85 => ?_) (fun c85 => ?_)
        · refine yr_iinc (x := x8) (lv' := [some (.ref (gO' Y 4)), none, some (.int (zI x2)), none, some (.int (zI x4)), some (.int (zI x5)), some (.int (zI (x6 + 1))), some (.int (zI 0)), some (.int (zI (x8 + 1)))]) hC dX6_calls_169 rfl rfl rfl ?_
          refine h_goto (tgt := 109) hC dX6_calls_172 (by decide) ?_
          obtain ⟨o86, h87⟩ := h84
          obtain ⟨o88, h89⟩ := h87
          exact hk109 _ _ _ _ _ _ _ _ _ Rx2 Rx4 Rx5 o86 (by decide) o88 o80 hZ81 h89
        · exact absurd (by decide) c85
      · have h90 := h82.2 c83
        refine h_iload hC dX6_calls_146 rfl ?_
        refine h_bipush (v := zI 20) hC dX6_calls_148 rfl ?_
        refine yr_icmp_ge (tgt := 157) hC Rx8 (by decide) dX6_calls_150 (by decide) (fun c91 => ?_) (fun c91 => ?_)
        · have h92 := h90.1 c91
          refine h_iconst (v := zI 0) hC dX6_calls_157 rfl ?_
          refine h_istore (lv' := [some (.ref (gO' Y 4)), none, some (.int (zI x2)), none, some (.int (zI x4)), some (.int (zI x5)), some (.int (zI (x6 + 1))), some (.int (zI 0)), some (.int (zI x8))]) hC dX6_calls_158 (Nat.le_of_ble_eq_true rfl) rfl rfl ?_
          refine h_iload hC dX6_calls_160 rfl ?_
          refine yr_if_eq (tgt := 169) hC (by decide) dX6_calls_162 (by decide) (fun c93 => ?_) (fun c93 => ?_)
          · refine yr_iinc (x := x8) (lv' := [some (.ref (gO' Y 4)), none, some (.int (zI x2)), none, some (.int (zI x4)), some (.int (zI x5)), some (.int (zI (x6 + 1))), some (.int (zI 0)), some (.int (zI (x8 + 1)))]) hC dX6_calls_169 rfl rfl rfl ?_
            refine h_goto (tgt := 109) hC dX6_calls_172 (by decide) ?_
            obtain ⟨o94, h95⟩ := h92
            obtain ⟨o96, h97⟩ := h95
            exact hk109 _ _ _ _ _ _ _ _ _ Rx2 Rx4 Rx5 o94 (by decide) o96 o80 hZ81 h97
          · exact absurd (by decide) c93
        · have h98 := h90.2 c91
          refine h_iconst (v := zI 1) hC dX6_calls_153 rfl ?_
          refine h_goto (tgt := 158) hC dX6_calls_154 (by decide) ?_
          refine h_istore (lv' := [some (.ref (gO' Y 4)), none, some (.int (zI x2)), none, some (.int (zI x4)), some (.int (zI x5)), some (.int (zI (x6 + 1))), some (.int (zI 1)), some (.int (zI x8))]) hC dX6_calls_158 (Nat.le_of_ble_eq_true rfl) rfl rfl ?_
          refine h_iload hC dX6_calls_160 rfl ?_
          refine yr_if_eq (tgt := 169) hC (by decide) dX6_calls_162 (by decide) (fun c99 => ?_) (fun c99 => ?_)
          · exact absurd c99 (by decide)
          · refine h_aload_n hC dX6_calls_165 rfl ?_
            refine yr_callVv (As := []) hC hr o80 hZ81 rfl (hZ81.w.o 4 (by decide)) (cm_Parser_advance X.la d b  hZ81.rs h98) cl_X6_103 rfl rfl (Nat.le_of_ble_eq_true rfl) (hFr_of (by omega) (Nat.le_of_ble_eq_true rfl)) dX6_calls_166 (fun A101 u102 S103 o105 hZ106 h107 => ?_)
            refine yr_iinc (x := x8) (lv' := [some (.ref (gO' Y 4)), none, some (.int (zI x2)), none, some (.int (zI x4)), some (.int (zI x5)), some (.int (zI (x6 + 1))), some (.int (zI 1)), some (.int (zI (x8 + 1)))]) hC dX6_calls_169 rfl rfl rfl ?_
            refine h_goto (tgt := 109) hC dX6_calls_172 (by decide) ?_
            obtain ⟨o108, h109⟩ := h107
            obtain ⟨o110, h111⟩ := h109
            exact hk109 _ _ _ _ _ _ _ _ _ Rx2 Rx4 Rx5 o108 (by decide) o110 o105 hZ106 h111
theorem cl_Parser_calls_109 {X : gX} {d : gD} {b : Nat} {Y : gYt} {c : Nat × Nat} {F0 : gM} {S0 : gSt} {mc ms : Nat} {rec : Nat → Int → Int → Int → cS → (Int → cS → Prop) → (cS → Prop) → Prop} {lv0 : Nat} (hC : gC RX6 cX6_calls 9 (some .int) "calls" (gR (9 + lv0 + 1) mc ms) d b X) (hr : hRm X b) (hst : X.la.stackTraces = false) (hT : ∀ x ∈ X.co.exceptionTable.toList, False) (hcx : yCx b c) (ih : yOkP X.la d b Y c lv0 rec) {Q : Int → cS → Prop} {E : cS → Prop} {k59 : cS → Int → Int → Prop} (hk59 : ∀ (u : hU) (S : gSt) (A0 : cS) (x2 : Int) (x4 : Int), zR x2 → zR x4 → yOk X b u → yZ d b Y c F0 S0 u S A0 → k59 A0 x2 x4 → yG X d b (yxQi X d b Y c F0 S0 mc ms Q E) u 59 [some (.ref (gO' Y 4)), none, some (.int (zI x2)), none, some (.int (zI x4)), none, none, none, none] []) : ∀ (m : Nat) (u : hU) (S : gSt) (A0 : cS) (x2 : Int) (x4 : Int) (x5 : Int) (x6 : Int) (x7 : Int) (x8 : Int), zR x2 → zR x4 → zR x5 → zR x6 → zR x7 → zR x8 → yOk X b u → yZ d b Y c F0 S0 u S A0 → wc_Parser_calls_109 rec Q E k59 m A0 x2 x4 x5 x6 x7 x8 → yG X d b (yxQi X d b Y c F0 S0 mc ms Q E) u 109 [some (.ref (gO' Y 4)), none, some (.int (zI x2)), none, some (.int (zI x4)), some (.int (zI x5)), some (.int (zI x6)), some (.int (zI x7)), some (.int (zI x8))] [] := by
  intro m
  induction m with
  | zero => intro u S A0 x2 x4 x5 x6 x7 x8 Rx2 Rx4 Rx5 Rx6 Rx7 Rx8 ho hZ hw; exact False.elim hw
  | succ m ihm => intro u S A0 x2 x4 x5 x6 x7 x8 Rx2 Rx4 Rx5 Rx6 Rx7 Rx8 ho hZ hw; exact cb_Parser_calls_109 hC hr hst hT hcx ih hk59 ihm Rx2 Rx4 Rx5 Rx6 Rx7 Rx8 ho hZ hw
set_option maxHeartbeats 4000000 in
set_option maxRecDepth 100000 in
theorem cb_Parser_calls_59 {X : gX} {d : gD} {b : Nat} {Y : gYt} {c : Nat × Nat} {F0 : gM} {S0 : gSt} {mc ms : Nat} {rec : Nat → Int → Int → Int → cS → (Int → cS → Prop) → (cS → Prop) → Prop} {lv0 : Nat} (hC : gC RX6 cX6_calls 9 (some .int) "calls" (gR (9 + lv0 + 1) mc ms) d b X) (hr : hRm X b) (hst : X.la.stackTraces = false) (hT : ∀ x ∈ X.co.exceptionTable.toList, False) (hcx : yCx b c) (ih : yOkP X.la d b Y c lv0 rec) {Q : Int → cS → Prop} {E : cS → Prop} {k59 : cS → Int → Int → Prop} (hk59 : ∀ (u : hU) (S : gSt) (A0 : cS) (x2 : Int) (x4 : Int), zR x2 → zR x4 → yOk X b u → yZ d b Y c F0 S0 u S A0 → k59 A0 x2 x4 → yG X d b (yxQi X d b Y c F0 S0 mc ms Q E) u 59 [some (.ref (gO' Y 4)), none, some (.int (zI x2)), none, some (.int (zI x4)), none, none, none, none] []) {u : hU} {S : gSt} {A0 : cS} {x2 : Int} {x4 : Int} (Rx2 : zR x2) (Rx4 : zR x4) (ho : yOk X b u) (hZ : yZ d b Y c F0 S0 u S A0) (hw : wc_Parser_calls_59B rec Q E k59 A0 x2 x4) : yG X d b (yxQi X d b Y c F0 S0 mc ms Q E) u 59 [some (.ref (gO' Y 4)), none, some (.int (zI x2)), none, some (.int (zI x4)), none, none, none, none] [] := by
  unfold wc_Parser_calls_59B at hw
  refine h_iload hC dX6_calls_59 rfl ?_
  refine yr_ldc (e := 1000000) hC dX6_calls_61 kw_514 (by decide) ?_
  refine yr_icmp_ge (tgt := 208) hC Rx4 (by decide) dX6_calls_63 (by decide) (fun c1 => ?_) (fun c1 => ?_)
  · have h2 := hw.1 c1
    refine h_iload_n hC dX6_calls_208 rfl ?_
    exact h_xret (yr_iret hC hr ho hZ Rx2 h2 dX6_calls_209)
  · have h3 := hw.2 c1
    refine h_aload_n hC dX6_calls_66 rfl ?_
    refine yr_callVi (As := []) hC hr ho hZ rfl (hZ.w.o 4 (by decide)) (cm_Parser_kind X.la d b  hZ.rs h3) cl_X6_97 rfl rfl (Nat.le_of_ble_eq_true rfl) (hFr_of (by omega) (Nat.le_of_ble_eq_true rfl)) dX6_calls_67 (fun r4 A5 u6 S7 R8 o9 hZ10 h11 => ?_)
    refine h_bipush (v := zI 7) hC dX6_calls_70 rfl ?_
    refine yr_icmp_ne (tgt := 208) hC R8 (by decide) dX6_calls_72 (by decide) (fun c12 => ?_) (fun c12 => ?_)
    · have h13 := h11.1 c12
      refine h_iload_n hC dX6_calls_208 rfl ?_
      exact h_xret (yr_iret hC hr o9 hZ10 Rx2 h13 dX6_calls_209)
    · have h14 := h11.2 c12
      refine h_aload_n hC dX6_calls_75 rfl ?_
      refine yx_callv (As := []) hC hr o9 hZ10 rfl (hZ10.w.o 4 (by decide)) (cm_Parser_enter X.la d b hst hcx  hZ10.rs h14) cl_X6_162 rfl rfl (Nat.le_of_ble_eq_true rfl) (hFr_of (by omega) (Nat.le_of_ble_eq_true rfl)) dX6_calls_76 (fun _ _ _ ho1 hz1 he1 => yx_out hC hr ho1 hz1 hT he1) (fun A16 u17 S18 o20 hZ21 h22 => ?_)
      refine h_aload_n hC dX6_calls_79 rfl ?_
      refine h_bipush (v := zI 84) hC dX6_calls_80 rfl ?_
      refine yr_callVi (As := [.int (zI 84)]) hC hr o20 hZ21 rfl (hZ21.w.o 4 (by decide)) (cm_Parser_leaf X.la d b (by decide) hZ21.rs h22) cl_X6_135 rfl rfl (Nat.le_of_ble_eq_true rfl) (hFr_of (by omega) (Nat.le_of_ble_eq_true rfl)) dX6_calls_82 (fun r23 A24 u25 S26 R27 o28 hZ29 h30 => ?_)
      refine h_istore (lv' := [some (.ref (gO' Y 4)), none, some (.int (zI x2)), none, some (.int (zI x4)), some (.int (zI r23)), none, none, none]) hC dX6_calls_85 (Nat.le_of_ble_eq_true rfl) rfl rfl ?_
      refine h_iconst (v := zI 0) hC dX6_calls_87 rfl ?_
      refine h_istore (lv' := [some (.ref (gO' Y 4)), none, some (.int (zI x2)), none, some (.int (zI x4)), some (.int (zI r23)), some (.int (zI 0)), none, none]) hC dX6_calls_88 (Nat.le_of_ble_eq_true rfl) rfl rfl ?_
      refine h_aload_n hC dX6_calls_90 rfl ?_
      refine yr_callVi (As := []) hC hr o28 hZ29 rfl (hZ29.w.o 4 (by decide)) (cm_Parser_kind X.la d b  hZ29.rs h30) cl_X6_97 rfl rfl (Nat.le_of_ble_eq_true rfl) (hFr_of (by omega) (Nat.le_of_ble_eq_true rfl)) dX6_calls_91 (fun r31 A32 u33 S34 R35 o36 hZ37 h38 => ?_)
      refine h_bipush (v := zI 8) hC dX6_calls_94 rfl ?_
      refine yr_icmp_eq (tgt := 103) hC R35 (by decide) dX6_calls_96 (by decide) (fun c39 => ?_) (fun c39 => ?_)
      · have h40 := h38.1 c39
        refine h_iconst (v := zI 0) hC dX6_calls_103 rfl ?_
        refine h_istore (lv' := [some (.ref (gO' Y 4)), none, some (.int (zI x2)), none, some (.int (zI x4)), some (.int (zI r23)), some (.int (zI 0)), some (.int (zI 0)), none]) hC dX6_calls_104 (Nat.le_of_ble_eq_true rfl) rfl rfl ?_
        refine h_iconst (v := zI 1) hC dX6_calls_106 rfl ?_
        refine h_istore (lv' := [some (.ref (gO' Y 4)), none, some (.int (zI x2)), none, some (.int (zI x4)), some (.int (zI r23)), some (.int (zI 0)), some (.int (zI 0)), some (.int (zI 1))]) hC dX6_calls_107 (Nat.le_of_ble_eq_true rfl) rfl rfl ?_
        obtain ⟨m41, h42⟩ := h40
        exact cl_Parser_calls_109 hC hr hst hT hcx ih hk59 m41 _ _ _ _ _ _ _ _ _ Rx2 Rx4 R27 (by decide) (by decide) (by decide) o36 hZ37 h42
      · have h43 := h38.2 c39
        refine h_iconst (v := zI 1) hC dX6_calls_99 rfl ?_
        refine h_goto (tgt := 104) hC dX6_calls_100 (by decide) ?_
        refine h_istore (lv' := [some (.ref (gO' Y 4)), none, some (.int (zI x2)), none, some (.int (zI x4)), some (.int (zI r23)), some (.int (zI 0)), some (.int (zI 1)), none]) hC dX6_calls_104 (Nat.le_of_ble_eq_true rfl) rfl rfl ?_
        refine h_iconst (v := zI 1) hC dX6_calls_106 rfl ?_
        refine h_istore (lv' := [some (.ref (gO' Y 4)), none, some (.int (zI x2)), none, some (.int (zI x4)), some (.int (zI r23)), some (.int (zI 0)), some (.int (zI 1)), some (.int (zI 1))]) hC dX6_calls_107 (Nat.le_of_ble_eq_true rfl) rfl rfl ?_
        obtain ⟨m44, h45⟩ := h43
        exact cl_Parser_calls_109 hC hr hst hT hcx ih hk59 m44 _ _ _ _ _ _ _ _ _ Rx2 Rx4 R27 (by decide) (by decide) (by decide) o36 hZ37 h45
theorem cl_Parser_calls_59 {X : gX} {d : gD} {b : Nat} {Y : gYt} {c : Nat × Nat} {F0 : gM} {S0 : gSt} {mc ms : Nat} {rec : Nat → Int → Int → Int → cS → (Int → cS → Prop) → (cS → Prop) → Prop} {lv0 : Nat} (hC : gC RX6 cX6_calls 9 (some .int) "calls" (gR (9 + lv0 + 1) mc ms) d b X) (hr : hRm X b) (hst : X.la.stackTraces = false) (hT : ∀ x ∈ X.co.exceptionTable.toList, False) (hcx : yCx b c) (ih : yOkP X.la d b Y c lv0 rec) {Q : Int → cS → Prop} {E : cS → Prop}   : ∀ (m : Nat) (u : hU) (S : gSt) (A0 : cS) (x2 : Int) (x4 : Int), zR x2 → zR x4 → yOk X b u → yZ d b Y c F0 S0 u S A0 → wc_Parser_calls_59 rec Q E  m A0 x2 x4 → yG X d b (yxQi X d b Y c F0 S0 mc ms Q E) u 59 [some (.ref (gO' Y 4)), none, some (.int (zI x2)), none, some (.int (zI x4)), none, none, none, none] [] := by
  intro m
  induction m with
  | zero => intro u S A0 x2 x4 Rx2 Rx4 ho hZ hw; exact False.elim hw
  | succ m ihm => intro u S A0 x2 x4 Rx2 Rx4 ho hZ hw; exact cb_Parser_calls_59 hC hr hst hT hcx ih  ihm Rx2 Rx4 ho hZ hw
set_option maxHeartbeats 4000000 in
set_option maxRecDepth 100000 in
theorem cm_Parser_calls (l : Launch) (d : gD) (b : Nat) {Y : gYt} {c : Nat × Nat} (hst : l.stackTraces = false) (hcx : yCx b c) {rec : Nat → Int → Int → Int → cS → (Int → cS → Prop) → (cS → Prop) → Prop} {lv0 : Nat} (ih : yOkP l d b Y c lv0 rec) {F : gM} {k n : Nat} {S : gSt} {A0 : cS} {a0 : Int} (Ra0 : zR a0) {Q : Int → cS → Prop} {E : cS → Prop} (hZ : yZ d b Y c F S (F, k, n) S A0) (hw : wc_Parser_calls rec A0 a0 Q E) : hXi l d b yX6_calls cX6_calls 9 .int (9 + lv0 + 1) k n F [.ref (gO' Y 4), .int (zI a0)] (yPi d b Y c F S Q) "java/lang/IllegalStateException" (yPx d b Y c F S E) := by
  intro mc ms
  refine hX_of2 rfl (nL := 9) (Nat.le_of_ble_eq_true rfl) ?_
  intro X hX hT hC hr ho; subst hX
  show yG X d b (yxQi X d b Y c F S mc ms Q E) (F, k, n) 0 [some (.ref (gO' Y 4)), some (.int (zI a0)), none, none, none, none, none, none, none] []
  unfold wc_Parser_calls at hw
  refine h_aload_n hC dX6_calls_0 rfl ?_
  refine h_get hC fl_X6_60 (hZ.w.o 4 (by decide)) rfl dX6_calls_1 ?_
  refine h_bipush (v := zI 83) hC dX6_calls_4 rfl ?_
  refine h_aload_n hC dX6_calls_6 rfl ?_
  refine h_get hC fl_X6_60 (hZ.w.o 4 (by decide)) rfl dX6_calls_7 ?_
  refine h_iload_n hC dX6_calls_10 rfl ?_
  refine yr_callVi (As := [.int (zI a0)]) hC hr ho hZ rfl (hZ.w.o 2 (by decide)) (cm_Tree_place X.la d b Ra0 hZ.rs hw) cl_X6_223 rfl rfl (Nat.le_of_ble_eq_true rfl) (hFr_of (by omega) (Nat.le_of_ble_eq_true rfl)) dX6_calls_11 (fun r1 A2 u3 S4 R5 o6 hZ7 h8 => ?_)
  refine h_iconst (v := zI 0) hC dX6_calls_14 rfl ?_
  refine yr_callVi (As := [.int (zI 83), .int (zI r1), .int (zI 0)]) hC hr o6 hZ7 rfl (hZ7.w.o 2 (by decide)) (cm_Tree_node X.la d b (by decide) R5 (by decide) hZ7.rs h8) cl_X6_115 rfl rfl (Nat.le_of_ble_eq_true rfl) (hFr_of (by omega) (Nat.le_of_ble_eq_true rfl)) dX6_calls_15 (fun r9 A10 u11 S12 R13 o14 hZ15 h16 => ?_)
  refine h_istore_n (lv' := [some (.ref (gO' Y 4)), some (.int (zI a0)), some (.int (zI r9)), none, none, none, none, none, none]) hC dX6_calls_18 (Nat.le_of_ble_eq_true rfl) rfl rfl ?_
  refine h_aload_n hC dX6_calls_19 rfl ?_
  refine h_get hC fl_X6_60 (hZ15.w.o 4 (by decide)) rfl dX6_calls_20 ?_
  refine h_bipush (v := zI 80) hC dX6_calls_23 rfl ?_
  refine h_aload_n hC dX6_calls_25 rfl ?_
  refine h_get hC fl_X6_60 (hZ15.w.o 4 (by decide)) rfl dX6_calls_26 ?_
  refine h_iload_n hC dX6_calls_29 rfl ?_
  refine yr_callVi (As := [.int (zI a0)]) hC hr o14 hZ15 rfl (hZ15.w.o 2 (by decide)) (cm_Tree_place X.la d b Ra0 hZ15.rs h16) cl_X6_223 rfl rfl (Nat.le_of_ble_eq_true rfl) (hFr_of (by omega) (Nat.le_of_ble_eq_true rfl)) dX6_calls_30 (fun r17 A18 u19 S20 R21 o22 hZ23 h24 => ?_)
  refine h_iconst (v := zI 0) hC dX6_calls_33 rfl ?_
  refine yr_callVi (As := [.int (zI 80), .int (zI r17), .int (zI 0)]) hC hr o22 hZ23 rfl (hZ23.w.o 2 (by decide)) (cm_Tree_node X.la d b (by decide) R21 (by decide) hZ23.rs h24) cl_X6_115 rfl rfl (Nat.le_of_ble_eq_true rfl) (hFr_of (by omega) (Nat.le_of_ble_eq_true rfl)) dX6_calls_34 (fun r25 A26 u27 S28 R29 o30 hZ31 h32 => ?_)
  refine h_istore_n (lv' := [some (.ref (gO' Y 4)), some (.int (zI a0)), some (.int (zI r9)), some (.int (zI r25)), none, none, none, none, none]) hC dX6_calls_37 (Nat.le_of_ble_eq_true rfl) rfl rfl ?_
  refine h_aload_n hC dX6_calls_38 rfl ?_
  refine h_get hC fl_X6_60 (hZ31.w.o 4 (by decide)) rfl dX6_calls_39 ?_
  refine h_iload_n hC dX6_calls_42 rfl ?_
  refine h_iload_n hC dX6_calls_43 rfl ?_
  refine yr_callVv (As := [.int (zI r25), .int (zI a0)]) hC hr o30 hZ31 rfl (hZ31.w.o 2 (by decide)) (cm_Tree_hang X.la d b R29 Ra0 hZ31.rs h32) cl_X6_123 rfl rfl (Nat.le_of_ble_eq_true rfl) (hFr_of (by omega) (Nat.le_of_ble_eq_true rfl)) dX6_calls_44 (fun A34 u35 S36 o38 hZ39 h40 => ?_)
  refine h_aload_n hC dX6_calls_47 rfl ?_
  refine h_get hC fl_X6_60 (hZ39.w.o 4 (by decide)) rfl dX6_calls_48 ?_
  refine h_iload_n hC dX6_calls_51 rfl ?_
  refine h_iload_n hC dX6_calls_52 rfl ?_
  refine yr_callVv (As := [.int (zI r9), .int (zI r25)]) hC hr o38 hZ39 rfl (hZ39.w.o 2 (by decide)) (cm_Tree_hang X.la d b R13 R29 hZ39.rs h40) cl_X6_123 rfl rfl (Nat.le_of_ble_eq_true rfl) (hFr_of (by omega) (Nat.le_of_ble_eq_true rfl)) dX6_calls_53 (fun A42 u43 S44 o46 hZ47 h48 => ?_)
  refine h_iconst (v := zI 0) hC dX6_calls_56 rfl ?_
  refine h_istore (lv' := [some (.ref (gO' Y 4)), some (.int (zI a0)), some (.int (zI r9)), some (.int (zI r25)), some (.int (zI 0)), none, none, none, none]) hC dX6_calls_57 (Nat.le_of_ble_eq_true rfl) rfl rfl ?_
  refine h_lv (lv' := [some (.ref (gO' Y 4)), none, some (.int (zI r9)), none, some (.int (zI 0)), none, none, none, none]) ⟨rfl, rfl, rfl, trivial⟩ ?_
  obtain ⟨m49, h50⟩ := h48
  exact cl_Parser_calls_59 hC hr hst hT hcx ih  m49 _ _ _ _ _ R13 (by decide) o46 hZ47 h50
