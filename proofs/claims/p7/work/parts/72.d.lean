/-! the reference as formulas: nameOf, isText, keyword, isLetter, isDigit, isRest, look, endsLine, isDoless, isBeginning, token, oneC, stringAt, digits, isPair, signAt -/
theorem dX12_nameOf_0 : decode cX12_nameOf 0 = .ok (.iconst 0, 1) := by decide +kernel
theorem dX12_nameOf_1 : decode cX12_nameOf 1 = .ok (.istore_n 3, 1) := by decide +kernel
theorem dX12_nameOf_2 : decode cX12_nameOf 2 = .ok (.iload_n 3, 1) := by decide +kernel
theorem dX12_nameOf_3 : decode cX12_nameOf 3 = .ok (.aload_n 0, 1) := by decide +kernel
theorem dX12_nameOf_4 : decode cX12_nameOf 4 = .ok (.getfield 26, 3) := by decide +kernel
theorem dX12_nameOf_7 : decode cX12_nameOf 7 = .ok (.if_icmp .ge 86, 3) := by decide +kernel
theorem dX12_nameOf_10 : decode cX12_nameOf 10 = .ok (.aload_n 0, 1) := by decide +kernel
theorem dX12_nameOf_11 : decode cX12_nameOf 11 = .ok (.getfield 33, 3) := by decide +kernel
theorem dX12_nameOf_14 : decode cX12_nameOf 14 = .ok (.iload_n 3, 1) := by decide +kernel
theorem dX12_nameOf_15 : decode cX12_nameOf 15 = .ok (.iaload, 1) := by decide +kernel
theorem dX12_nameOf_16 : decode cX12_nameOf 16 = .ok (.iload_n 2, 1) := by decide +kernel
theorem dX12_nameOf_17 : decode cX12_nameOf 17 = .ok (.if_icmp .ne 7, 3) := by decide +kernel
theorem dX12_nameOf_20 : decode cX12_nameOf 20 = .ok (.iconst 1, 1) := by decide +kernel
theorem dX12_nameOf_21 : decode cX12_nameOf 21 = .ok (.goto 4, 3) := by decide +kernel
theorem dX12_nameOf_24 : decode cX12_nameOf 24 = .ok (.iconst 0, 1) := by decide +kernel
theorem dX12_nameOf_25 : decode cX12_nameOf 25 = .ok (.istore 4, 2) := by decide +kernel
theorem dX12_nameOf_27 : decode cX12_nameOf 27 = .ok (.iconst 0, 1) := by decide +kernel
theorem dX12_nameOf_28 : decode cX12_nameOf 28 = .ok (.istore 5, 2) := by decide +kernel
theorem dX12_nameOf_30 : decode cX12_nameOf 30 = .ok (.iload 5, 2) := by decide +kernel
theorem dX12_nameOf_32 : decode cX12_nameOf 32 = .ok (.iload_n 2, 1) := by decide +kernel
theorem dX12_nameOf_33 : decode cX12_nameOf 33 = .ok (.if_icmp .ge 47, 3) := by decide +kernel
theorem dX12_nameOf_36 : decode cX12_nameOf 36 = .ok (.iload 4, 2) := by decide +kernel
theorem dX12_nameOf_38 : decode cX12_nameOf 38 = .ok (.ifCond .eq 42, 3) := by decide +kernel
theorem dX12_nameOf_41 : decode cX12_nameOf 41 = .ok (.aload_n 0, 1) := by decide +kernel
theorem dX12_nameOf_42 : decode cX12_nameOf 42 = .ok (.getfield 20, 3) := by decide +kernel
theorem dX12_nameOf_45 : decode cX12_nameOf 45 = .ok (.aload_n 0, 1) := by decide +kernel
theorem dX12_nameOf_46 : decode cX12_nameOf 46 = .ok (.getfield 29, 3) := by decide +kernel
theorem dX12_nameOf_49 : decode cX12_nameOf 49 = .ok (.iload_n 3, 1) := by decide +kernel
theorem dX12_nameOf_50 : decode cX12_nameOf 50 = .ok (.iaload, 1) := by decide +kernel
theorem dX12_nameOf_51 : decode cX12_nameOf 51 = .ok (.iload 5, 2) := by decide +kernel
theorem dX12_nameOf_53 : decode cX12_nameOf 53 = .ok (.iadd, 1) := by decide +kernel
theorem dX12_nameOf_54 : decode cX12_nameOf 54 = .ok (.baload, 1) := by decide +kernel
theorem dX12_nameOf_55 : decode cX12_nameOf 55 = .ok (.aload_n 0, 1) := by decide +kernel
theorem dX12_nameOf_56 : decode cX12_nameOf 56 = .ok (.getfield 20, 3) := by decide +kernel
theorem dX12_nameOf_59 : decode cX12_nameOf 59 = .ok (.iload_n 1, 1) := by decide +kernel
theorem dX12_nameOf_60 : decode cX12_nameOf 60 = .ok (.iload 5, 2) := by decide +kernel
theorem dX12_nameOf_62 : decode cX12_nameOf 62 = .ok (.iadd, 1) := by decide +kernel
theorem dX12_nameOf_63 : decode cX12_nameOf 63 = .ok (.baload, 1) := by decide +kernel
theorem dX12_nameOf_64 : decode cX12_nameOf 64 = .ok (.if_icmp .ne 7, 3) := by decide +kernel
theorem dX12_nameOf_67 : decode cX12_nameOf 67 = .ok (.iconst 1, 1) := by decide +kernel
theorem dX12_nameOf_68 : decode cX12_nameOf 68 = .ok (.goto 4, 3) := by decide +kernel
theorem dX12_nameOf_71 : decode cX12_nameOf 71 = .ok (.iconst 0, 1) := by decide +kernel
theorem dX12_nameOf_72 : decode cX12_nameOf 72 = .ok (.istore 4, 2) := by decide +kernel
theorem dX12_nameOf_74 : decode cX12_nameOf 74 = .ok (.iinc 5 1, 3) := by decide +kernel
theorem dX12_nameOf_77 : decode cX12_nameOf 77 = .ok (.goto (-47), 3) := by decide +kernel
theorem dX12_nameOf_80 : decode cX12_nameOf 80 = .ok (.iload 4, 2) := by decide +kernel
theorem dX12_nameOf_82 : decode cX12_nameOf 82 = .ok (.ifCond .eq 5, 3) := by decide +kernel
theorem dX12_nameOf_85 : decode cX12_nameOf 85 = .ok (.iload_n 3, 1) := by decide +kernel
theorem dX12_nameOf_86 : decode cX12_nameOf 86 = .ok (.ireturn, 1) := by decide +kernel
theorem dX12_nameOf_87 : decode cX12_nameOf 87 = .ok (.iinc 3 1, 3) := by decide +kernel
theorem dX12_nameOf_90 : decode cX12_nameOf 90 = .ok (.goto (-88), 3) := by decide +kernel
theorem dX12_nameOf_93 : decode cX12_nameOf 93 = .ok (.aload_n 0, 1) := by decide +kernel
theorem dX12_nameOf_94 : decode cX12_nameOf 94 = .ok (.getfield 29, 3) := by decide +kernel
theorem dX12_nameOf_97 : decode cX12_nameOf 97 = .ok (.aload_n 0, 1) := by decide +kernel
theorem dX12_nameOf_98 : decode cX12_nameOf 98 = .ok (.getfield 26, 3) := by decide +kernel
theorem dX12_nameOf_101 : decode cX12_nameOf 101 = .ok (.iload_n 1, 1) := by decide +kernel
theorem dX12_nameOf_102 : decode cX12_nameOf 102 = .ok (.iastore, 1) := by decide +kernel
theorem dX12_nameOf_103 : decode cX12_nameOf 103 = .ok (.aload_n 0, 1) := by decide +kernel
theorem dX12_nameOf_104 : decode cX12_nameOf 104 = .ok (.getfield 33, 3) := by decide +kernel
theorem dX12_nameOf_107 : decode cX12_nameOf 107 = .ok (.aload_n 0, 1) := by decide +kernel
theorem dX12_nameOf_108 : decode cX12_nameOf 108 = .ok (.getfield 26, 3) := by decide +kernel
theorem dX12_nameOf_111 : decode cX12_nameOf 111 = .ok (.iload_n 2, 1) := by decide +kernel
theorem dX12_nameOf_112 : decode cX12_nameOf 112 = .ok (.iastore, 1) := by decide +kernel
theorem dX12_nameOf_113 : decode cX12_nameOf 113 = .ok (.aload_n 0, 1) := by decide +kernel
theorem dX12_nameOf_114 : decode cX12_nameOf 114 = .ok (.dup, 1) := by decide +kernel
theorem dX12_nameOf_115 : decode cX12_nameOf 115 = .ok (.getfield 26, 3) := by decide +kernel
theorem dX12_nameOf_118 : decode cX12_nameOf 118 = .ok (.iconst 1, 1) := by decide +kernel
theorem dX12_nameOf_119 : decode cX12_nameOf 119 = .ok (.iadd, 1) := by decide +kernel
theorem dX12_nameOf_120 : decode cX12_nameOf 120 = .ok (.putfield 26, 3) := by decide +kernel
theorem dX12_nameOf_123 : decode cX12_nameOf 123 = .ok (.aload_n 0, 1) := by decide +kernel
theorem dX12_nameOf_124 : decode cX12_nameOf 124 = .ok (.getfield 26, 3) := by decide +kernel
theorem dX12_nameOf_127 : decode cX12_nameOf 127 = .ok (.iconst 1, 1) := by decide +kernel
theorem dX12_nameOf_128 : decode cX12_nameOf 128 = .ok (.isub, 1) := by decide +kernel
theorem dX12_nameOf_129 : decode cX12_nameOf 129 = .ok (.ireturn, 1) := by decide +kernel
def wr_nameOf_30B (Q : Int → zS → Prop) (k2 : zS → Int → Int → Int → Prop) (k30 : zS → Int → Int → Int → Int → Int → Prop) (s0 : zS) (x1 : Int) (x2 : Int) (x3 : Int) (x4 : Int) (x5 : Int) : Prop :=
  ((x2 ≤ x5 → ((x4 = 0 → (zR (x3 + 1)) ∧ k2 s0 x1 x2 (x3 + 1)) ∧ (¬ x4 = 0 → Q x3 s0))) ∧ (¬ x2 ≤ x5 → ((x4 = 0 → ((x4 = 0 → (zR (x3 + 1)) ∧ k2 s0 x1 x2 (x3 + 1)) ∧ (¬ x4 = 0 → Q x3 s0))) ∧ (¬ x4 = 0 → (0 ≤ x3) ∧ (x3 < 3100) ∧ (0 ≤ ((za s0 6 (Int.toNat x3)) + x5)) ∧ (((za s0 6 (Int.toNat x3)) + x5) < 6000) ∧ (0 ≤ (x1 + x5)) ∧ ((x1 + x5) < 6000) ∧ ((¬ (za s0 3 (Int.toNat ((za s0 6 (Int.toNat x3)) + x5))) = (za s0 3 (Int.toNat (x1 + x5))) → (zR (x5 + 1)) ∧ k30 s0 x1 x2 x3 0 (x5 + 1)) ∧ ((za s0 3 (Int.toNat ((za s0 6 (Int.toNat x3)) + x5))) = (za s0 3 (Int.toNat (x1 + x5))) → (zR (x5 + 1)) ∧ k30 s0 x1 x2 x3 1 (x5 + 1)))))))
def wr_nameOf_30 (Q : Int → zS → Prop) (k2 : zS → Int → Int → Int → Prop) : Nat → zS → Int → Int → Int → Int → Int → Prop
  | 0 => fun _ _ _ _ _ _ => False
  | m + 1 => fun s0 x1 x2 x3 x4 x5 => wr_nameOf_30B Q k2 (wr_nameOf_30 Q k2 m) s0 x1 x2 x3 x4 x5
def wr_nameOf_2B (Q : Int → zS → Prop) (k2 : zS → Int → Int → Int → Prop) (s0 : zS) (x1 : Int) (x2 : Int) (x3 : Int) : Prop :=
  (((zv s0 5) ≤ x3 → (0 ≤ (zv s0 5)) ∧ ((zv s0 5) < 3100) ∧ (0 ≤ (zv s0 5)) ∧ ((zv s0 5) < 3100) ∧ (zR ((zv s0 5) + 1)) ∧ (zR (((zv s0 5) + 1) - 1)) ∧ Q (((zv s0 5) + 1) - 1) (zpv (zpa (zpa s0 6 (Int.toNat (zv s0 5)) x1) 7 (Int.toNat (zv s0 5)) x2) 5 ((zv s0 5) + 1))) ∧ (¬ (zv s0 5) ≤ x3 → (0 ≤ x3) ∧ (x3 < 3100) ∧ ((¬ (za s0 7 (Int.toNat x3)) = x2 → ∃ n, wr_nameOf_30 Q k2 n s0 x1 x2 x3 0 0) ∧ ((za s0 7 (Int.toNat x3)) = x2 → ∃ n, wr_nameOf_30 Q k2 n s0 x1 x2 x3 1 0))))
def wr_nameOf_2 (Q : Int → zS → Prop)  : Nat → zS → Int → Int → Int → Prop
  | 0 => fun _ _ _ _ => False
  | m + 1 => fun s0 x1 x2 x3 => wr_nameOf_2B Q  (wr_nameOf_2 Q  m) s0 x1 x2 x3
def wr_nameOf (s0 : zS) (a0 : Int) (a1 : Int) (Q : Int → zS → Prop) : Prop :=
  ∃ n, wr_nameOf_2 Q  n s0 a0 a1 0
set_option maxHeartbeats 4000000 in
set_option maxRecDepth 100000 in
theorem rb_nameOf_30 {X : gX} {d : gD} {b t : Nat} {T : Nat → Nat} {F0 : gM} (hC : gC RX12 cX12_nameOf 6 (some .int) "nameOf" (gR 0 0 0) d b X) {Q : Int → zS → Prop} {k2 : zS → Int → Int → Int → Prop} {k30 : zS → Int → Int → Int → Int → Int → Prop} (hk2 : ∀ (F : gM) (s0 : zS) (x1 : Int) (x2 : Int) (x3 : Int), zR x1 → zR x2 → zR x3 → zZ d t T F0 F s0 → k2 s0 x1 x2 x3 → gG X d b (zQi X d b t T F0 Q) F 0 0 2 [some (.ref t), some (.int (zI x1)), some (.int (zI x2)), some (.int (zI x3)), none, none] []) (hk30 : ∀ (F : gM) (s0 : zS) (x1 : Int) (x2 : Int) (x3 : Int) (x4 : Int) (x5 : Int), zR x1 → zR x2 → zR x3 → zR x4 → zR x5 → zZ d t T F0 F s0 → k30 s0 x1 x2 x3 x4 x5 → gG X d b (zQi X d b t T F0 Q) F 0 0 30 [some (.ref t), some (.int (zI x1)), some (.int (zI x2)), some (.int (zI x3)), some (.int (zI x4)), some (.int (zI x5))] []) {F : gM} {s0 : zS} {x1 : Int} {x2 : Int} {x3 : Int} {x4 : Int} {x5 : Int} (Rx1 : zR x1) (Rx2 : zR x2) (Rx3 : zR x3) (Rx4 : zR x4) (Rx5 : zR x5) (hZ : zZ d t T F0 F s0) (hw : wr_nameOf_30B Q k2 k30 s0 x1 x2 x3 x4 x5) : gG X d b (zQi X d b t T F0 Q) F 0 0 30 [some (.ref t), some (.int (zI x1)), some (.int (zI x2)), some (.int (zI x3)), some (.int (zI x4)), some (.int (zI x5))] [] := by
  unfold wr_nameOf_30B at hw
  refine g_iload hC dX12_nameOf_30 rfl ?_
  refine g_iload_n hC dX12_nameOf_32 rfl ?_
  refine zr_icmp_ge (tgt := 80) hC Rx5 Rx2 dX12_nameOf_33 (by decide) (fun c1 => ?_) (fun c1 => ?_)
  · have h2 := hw.1 c1
    refine g_iload hC dX12_nameOf_80 rfl ?_
    refine zr_if_eq (tgt := 87) hC Rx4 dX12_nameOf_82 (by decide) (fun c3 => ?_) (fun c3 => ?_)
    · have h4 := h2.1 c3
      refine zr_iinc (x := x3) (lv' := [some (.ref t), some (.int (zI x1)), some (.int (zI x2)), some (.int (zI (x3 + 1))), some (.int (zI x4)), some (.int (zI x5))]) hC dX12_nameOf_87 rfl rfl rfl ?_
      refine g_goto (tgt := 2) hC dX12_nameOf_90 (by decide) ?_
      obtain ⟨o5, h6⟩ := h4
      refine g_lv (lv' := [some (.ref t), some (.int (zI x1)), some (.int (zI x2)), some (.int (zI (x3 + 1))), none, none]) ⟨rfl, rfl, rfl, rfl, trivial⟩ ?_
      exact hk2 _ _ _ _ _ Rx1 Rx2 o5 hZ h6
    · have h7 := h2.2 c3
      refine g_iload_n hC dX12_nameOf_85 rfl ?_
      exact zr_iret hC hZ Rx3 h7 dX12_nameOf_86
  · have h8 := hw.2 c1
    refine g_iload hC dX12_nameOf_36 rfl ?_
    refine zr_if_eq (tgt := 80) hC Rx4 dX12_nameOf_38 (by decide) (fun c9 => ?_) (fun c9 => ?_)
    · have h10 := h8.1 c9
      refine g_iload hC dX12_nameOf_80 rfl ?_
      refine zr_if_eq (tgt := 87) hC Rx4 dX12_nameOf_82 (by decide) (fun c11 => ?_) (fun c11 => ?_)
      · have h12 := h10.1 c11
        refine zr_iinc (x := x3) (lv' := [some (.ref t), some (.int (zI x1)), some (.int (zI x2)), some (.int (zI (x3 + 1))), some (.int (zI x4)), some (.int (zI x5))]) hC dX12_nameOf_87 rfl rfl rfl ?_
        refine g_goto (tgt := 2) hC dX12_nameOf_90 (by decide) ?_
        obtain ⟨o13, h14⟩ := h12
        refine g_lv (lv' := [some (.ref t), some (.int (zI x1)), some (.int (zI x2)), some (.int (zI (x3 + 1))), none, none]) ⟨rfl, rfl, rfl, rfl, trivial⟩ ?_
        exact hk2 _ _ _ _ _ Rx1 Rx2 o13 hZ h14
      · have h15 := h10.2 c11
        refine g_iload_n hC dX12_nameOf_85 rfl ?_
        exact zr_iret hC hZ Rx3 h15 dX12_nameOf_86
    · have h16 := h8.2 c9
      refine g_aload_n hC dX12_nameOf_41 rfl ?_
      refine zr_geta hC hZ fl_X12_20 zb_3 (by decide) dX12_nameOf_42 ?_
      refine g_aload_n hC dX12_nameOf_45 rfl ?_
      refine zr_geta hC hZ fl_X12_29 zb_6 (by decide) dX12_nameOf_46 ?_
      refine g_iload_n hC dX12_nameOf_49 rfl ?_
      obtain ⟨o17, h18⟩ := h16
      obtain ⟨o19, h20⟩ := h18
      refine zr_iald (v := (za s0 6 (Int.toNat x3))) hC hZ zk_6 zb_6 zn_6 (by decide) o17 o19 rfl dX12_nameOf_50 ?_
      refine g_iload hC dX12_nameOf_51 rfl ?_
      refine zr_iadd hC dX12_nameOf_53 ?_
      obtain ⟨o21, h22⟩ := h20
      obtain ⟨o23, h24⟩ := h22
      refine zr_bald (v := (za s0 3 (Int.toNat ((za s0 6 (Int.toNat x3)) + x5)))) hC hZ zk_3 zb_3 zn_3 (by decide) o21 o23 rfl dX12_nameOf_54 ?_
      refine g_aload_n hC dX12_nameOf_55 rfl ?_
      refine zr_geta hC hZ fl_X12_20 zb_3 (by decide) dX12_nameOf_56 ?_
      refine g_iload_n hC dX12_nameOf_59 rfl ?_
      refine g_iload hC dX12_nameOf_60 rfl ?_
      refine zr_iadd hC dX12_nameOf_62 ?_
      obtain ⟨o25, h26⟩ := h24
      obtain ⟨o27, h28⟩ := h26
      refine zr_bald (v := (za s0 3 (Int.toNat (x1 + x5)))) hC hZ zk_3 zb_3 zn_3 (by decide) o25 o27 rfl dX12_nameOf_63 ?_
      refine zr_icmp_ne (tgt := 71) hC (hZ.ra 3 _) (hZ.ra 3 _) dX12_nameOf_64 (by decide) (fun c29 => ?_) (fun c29 => ?_)
      · have h30 := h28.1 c29
        refine g_iconst (v := zI 0) hC dX12_nameOf_71 rfl ?_
        refine g_istore (lv' := [some (.ref t), some (.int (zI x1)), some (.int (zI x2)), some (.int (zI x3)), some (.int (zI 0)), some (.int (zI x5))]) hC dX12_nameOf_72 (Nat.le_of_ble_eq_true rfl) rfl rfl ?_
        refine zr_iinc (x := x5) (lv' := [some (.ref t), some (.int (zI x1)), some (.int (zI x2)), some (.int (zI x3)), some (.int (zI 0)), some (.int (zI (x5 + 1)))]) hC dX12_nameOf_74 rfl rfl rfl ?_
        refine g_goto (tgt := 30) hC dX12_nameOf_77 (by decide) ?_
        obtain ⟨o31, h32⟩ := h30
        exact hk30 _ _ _ _ _ _ _ Rx1 Rx2 Rx3 (by decide) o31 hZ h32
      · have h33 := h28.2 c29
        refine g_iconst (v := zI 1) hC dX12_nameOf_67 rfl ?_
        refine g_goto (tgt := 72) hC dX12_nameOf_68 (by decide) ?_
        refine g_istore (lv' := [some (.ref t), some (.int (zI x1)), some (.int (zI x2)), some (.int (zI x3)), some (.int (zI 1)), some (.int (zI x5))]) hC dX12_nameOf_72 (Nat.le_of_ble_eq_true rfl) rfl rfl ?_
        refine zr_iinc (x := x5) (lv' := [some (.ref t), some (.int (zI x1)), some (.int (zI x2)), some (.int (zI x3)), some (.int (zI 1)), some (.int (zI (x5 + 1)))]) hC dX12_nameOf_74 rfl rfl rfl ?_
        refine g_goto (tgt := 30) hC dX12_nameOf_77 (by decide) ?_
        obtain ⟨o34, h35⟩ := h33
        exact hk30 _ _ _ _ _ _ _ Rx1 Rx2 Rx3 (by decide) o34 hZ h35
theorem rl_nameOf_30 {X : gX} {d : gD} {b t : Nat} {T : Nat → Nat} {F0 : gM} (hC : gC RX12 cX12_nameOf 6 (some .int) "nameOf" (gR 0 0 0) d b X) {Q : Int → zS → Prop} {k2 : zS → Int → Int → Int → Prop} (hk2 : ∀ (F : gM) (s0 : zS) (x1 : Int) (x2 : Int) (x3 : Int), zR x1 → zR x2 → zR x3 → zZ d t T F0 F s0 → k2 s0 x1 x2 x3 → gG X d b (zQi X d b t T F0 Q) F 0 0 2 [some (.ref t), some (.int (zI x1)), some (.int (zI x2)), some (.int (zI x3)), none, none] []) : ∀ (m : Nat) (F : gM) (s0 : zS) (x1 : Int) (x2 : Int) (x3 : Int) (x4 : Int) (x5 : Int), zR x1 → zR x2 → zR x3 → zR x4 → zR x5 → zZ d t T F0 F s0 → wr_nameOf_30 Q k2 m s0 x1 x2 x3 x4 x5 → gG X d b (zQi X d b t T F0 Q) F 0 0 30 [some (.ref t), some (.int (zI x1)), some (.int (zI x2)), some (.int (zI x3)), some (.int (zI x4)), some (.int (zI x5))] [] := by
  intro m
  induction m with
  | zero => intro F s0 x1 x2 x3 x4 x5 Rx1 Rx2 Rx3 Rx4 Rx5 hZ hw; exact False.elim hw
  | succ m ih => intro F s0 x1 x2 x3 x4 x5 Rx1 Rx2 Rx3 Rx4 Rx5 hZ hw; exact rb_nameOf_30 hC hk2 ih Rx1 Rx2 Rx3 Rx4 Rx5 hZ hw
set_option maxHeartbeats 4000000 in
set_option maxRecDepth 100000 in
theorem rb_nameOf_2 {X : gX} {d : gD} {b t : Nat} {T : Nat → Nat} {F0 : gM} (hC : gC RX12 cX12_nameOf 6 (some .int) "nameOf" (gR 0 0 0) d b X) {Q : Int → zS → Prop} {k2 : zS → Int → Int → Int → Prop} (hk2 : ∀ (F : gM) (s0 : zS) (x1 : Int) (x2 : Int) (x3 : Int), zR x1 → zR x2 → zR x3 → zZ d t T F0 F s0 → k2 s0 x1 x2 x3 → gG X d b (zQi X d b t T F0 Q) F 0 0 2 [some (.ref t), some (.int (zI x1)), some (.int (zI x2)), some (.int (zI x3)), none, none] []) {F : gM} {s0 : zS} {x1 : Int} {x2 : Int} {x3 : Int} (Rx1 : zR x1) (Rx2 : zR x2) (Rx3 : zR x3) (hZ : zZ d t T F0 F s0) (hw : wr_nameOf_2B Q k2 s0 x1 x2 x3) : gG X d b (zQi X d b t T F0 Q) F 0 0 2 [some (.ref t), some (.int (zI x1)), some (.int (zI x2)), some (.int (zI x3)), none, none] [] := by
  unfold wr_nameOf_2B at hw
  refine g_iload_n hC dX12_nameOf_2 rfl ?_
  refine g_aload_n hC dX12_nameOf_3 rfl ?_
  refine zr_get (e := (zv s0 5)) hC hZ fl_X12_26 zb_5 (by decide) rfl dX12_nameOf_4 ?_
  refine zr_icmp_ge (tgt := 93) hC Rx3 (hZ.rv 5) dX12_nameOf_7 (by decide) (fun c1 => ?_) (fun c1 => ?_)
  · have h2 := hw.1 c1
    refine g_aload_n hC dX12_nameOf_93 rfl ?_
    refine zr_geta hC hZ fl_X12_29 zb_6 (by decide) dX12_nameOf_94 ?_
    refine g_aload_n hC dX12_nameOf_97 rfl ?_
    refine zr_get (e := (zv s0 5)) hC hZ fl_X12_26 zb_5 (by decide) rfl dX12_nameOf_98 ?_
    refine g_iload_n hC dX12_nameOf_101 rfl ?_
    obtain ⟨o3, h4⟩ := h2
    obtain ⟨o5, h6⟩ := h4
    refine zr_iast hC hZ zk_6 zb_6 zn_6 (by decide) o3 o5 Rx1 dX12_nameOf_102 (fun F7 hZ8 => ?_)
    refine g_aload_n hC dX12_nameOf_103 rfl ?_
    refine zr_geta hC hZ8 fl_X12_33 zb_7 (by decide) dX12_nameOf_104 ?_
    refine g_aload_n hC dX12_nameOf_107 rfl ?_
    refine zr_get (e := (zv s0 5)) hC hZ8 fl_X12_26 zb_5 (by decide) rfl dX12_nameOf_108 ?_
    refine g_iload_n hC dX12_nameOf_111 rfl ?_
    obtain ⟨o9, h10⟩ := h6
    obtain ⟨o11, h12⟩ := h10
    refine zr_iast hC hZ8 zk_7 zb_7 zn_7 (by decide) o9 o11 Rx2 dX12_nameOf_112 (fun F13 hZ14 => ?_)
    refine g_aload_n hC dX12_nameOf_113 rfl ?_
    refine g_dup hC dX12_nameOf_114 rfl ?_
    refine zr_get (e := (zv s0 5)) hC hZ14 fl_X12_26 zb_5 (by decide) rfl dX12_nameOf_115 ?_
    refine g_iconst (v := zI 1) hC dX12_nameOf_118 rfl ?_
    refine zr_iadd hC dX12_nameOf_119 ?_
    obtain ⟨o15, h16⟩ := h12
    refine zr_put hC hZ14 fl_X12_26 zb_5 (by decide) o15 dX12_nameOf_120 (fun F17 hZ18 => ?_)
    refine g_aload_n hC dX12_nameOf_123 rfl ?_
    refine zr_get (e := ((zv s0 5) + 1)) hC hZ18 fl_X12_26 zb_5 (by decide) rfl dX12_nameOf_124 ?_
    refine g_iconst (v := zI 1) hC dX12_nameOf_127 rfl ?_
    refine zr_isub hC dX12_nameOf_128 ?_
    obtain ⟨o19, h20⟩ := h16
    exact zr_iret hC hZ18 o19 h20 dX12_nameOf_129
  · have h21 := hw.2 c1
    refine g_aload_n hC dX12_nameOf_10 rfl ?_
    refine zr_geta hC hZ fl_X12_33 zb_7 (by decide) dX12_nameOf_11 ?_
    refine g_iload_n hC dX12_nameOf_14 rfl ?_
    obtain ⟨o22, h23⟩ := h21
    obtain ⟨o24, h25⟩ := h23
    refine zr_iald (v := (za s0 7 (Int.toNat x3))) hC hZ zk_7 zb_7 zn_7 (by decide) o22 o24 rfl dX12_nameOf_15 ?_
    refine g_iload_n hC dX12_nameOf_16 rfl ?_
    refine zr_icmp_ne (tgt := 24) hC (hZ.ra 7 _) Rx2 dX12_nameOf_17 (by decide) (fun c26 => ?_) (fun c26 => ?_)
    · have h27 := h25.1 c26
      refine g_iconst (v := zI 0) hC dX12_nameOf_24 rfl ?_
      refine g_istore (lv' := [some (.ref t), some (.int (zI x1)), some (.int (zI x2)), some (.int (zI x3)), some (.int (zI 0)), none]) hC dX12_nameOf_25 (Nat.le_of_ble_eq_true rfl) rfl rfl ?_
      refine g_iconst (v := zI 0) hC dX12_nameOf_27 rfl ?_
      refine g_istore (lv' := [some (.ref t), some (.int (zI x1)), some (.int (zI x2)), some (.int (zI x3)), some (.int (zI 0)), some (.int (zI 0))]) hC dX12_nameOf_28 (Nat.le_of_ble_eq_true rfl) rfl rfl ?_
      obtain ⟨m28, h29⟩ := h27
      exact rl_nameOf_30 hC hk2 m28 _ _ _ _ _ _ _ Rx1 Rx2 Rx3 (by decide) (by decide) hZ h29
    · have h30 := h25.2 c26
      refine g_iconst (v := zI 1) hC dX12_nameOf_20 rfl ?_
      refine g_goto (tgt := 25) hC dX12_nameOf_21 (by decide) ?_
      refine g_istore (lv' := [some (.ref t), some (.int (zI x1)), some (.int (zI x2)), some (.int (zI x3)), some (.int (zI 1)), none]) hC dX12_nameOf_25 (Nat.le_of_ble_eq_true rfl) rfl rfl ?_
      refine g_iconst (v := zI 0) hC dX12_nameOf_27 rfl ?_
      refine g_istore (lv' := [some (.ref t), some (.int (zI x1)), some (.int (zI x2)), some (.int (zI x3)), some (.int (zI 1)), some (.int (zI 0))]) hC dX12_nameOf_28 (Nat.le_of_ble_eq_true rfl) rfl rfl ?_
      obtain ⟨m31, h32⟩ := h30
      exact rl_nameOf_30 hC hk2 m31 _ _ _ _ _ _ _ Rx1 Rx2 Rx3 (by decide) (by decide) hZ h32
theorem rl_nameOf_2 {X : gX} {d : gD} {b t : Nat} {T : Nat → Nat} {F0 : gM} (hC : gC RX12 cX12_nameOf 6 (some .int) "nameOf" (gR 0 0 0) d b X) {Q : Int → zS → Prop}   : ∀ (m : Nat) (F : gM) (s0 : zS) (x1 : Int) (x2 : Int) (x3 : Int), zR x1 → zR x2 → zR x3 → zZ d t T F0 F s0 → wr_nameOf_2 Q  m s0 x1 x2 x3 → gG X d b (zQi X d b t T F0 Q) F 0 0 2 [some (.ref t), some (.int (zI x1)), some (.int (zI x2)), some (.int (zI x3)), none, none] [] := by
  intro m
  induction m with
  | zero => intro F s0 x1 x2 x3 Rx1 Rx2 Rx3 hZ hw; exact False.elim hw
  | succ m ih => intro F s0 x1 x2 x3 Rx1 Rx2 Rx3 hZ hw; exact rb_nameOf_2 hC  ih Rx1 Rx2 Rx3 hZ hw
set_option maxHeartbeats 4000000 in
set_option maxRecDepth 100000 in
theorem rm_nameOf (l : Launch) (d : gD) (b : Nat) {t : Nat} {T : Nat → Nat} {F : gM} {s0 : zS} {a0 : Int} {a1 : Int} (Ra0 : zR a0) (Ra1 : zR a1) {Q : Int → zS → Prop} (hZ : zZ d t T F F s0) (hw : wr_nameOf s0 a0 a1 Q) : gMi l d b yX12_nameOf cX12_nameOf 6 .int 0 0 0 F [.ref t, .int (zI a0), .int (zI a1)] (zPi d t T F Q) := by
  refine gM_of2 rfl (nL := 6) (Nat.le_of_ble_eq_true rfl) ?_
  intro X hX hC; subst hX
  show gG X d b (zQi X d b t T F Q) F 0 0 0 [some (.ref t), some (.int (zI a0)), some (.int (zI a1)), none, none, none] []
  unfold wr_nameOf at hw
  refine g_iconst (v := zI 0) hC dX12_nameOf_0 rfl ?_
  refine g_istore_n (lv' := [some (.ref t), some (.int (zI a0)), some (.int (zI a1)), some (.int (zI 0)), none, none]) hC dX12_nameOf_1 (Nat.le_of_ble_eq_true rfl) rfl rfl ?_
  obtain ⟨m1, h2⟩ := hw
  exact rl_nameOf_2 hC  m1 _ _ _ _ _ Ra0 Ra1 (by decide) hZ h2
theorem dX12_isText_0 : decode cX12_isText 0 = .ok (.iconst 0, 1) := by decide +kernel
theorem dX12_isText_1 : decode cX12_isText 1 = .ok (.istore 7, 2) := by decide +kernel
theorem dX12_isText_3 : decode cX12_isText 3 = .ok (.bipush 120, 2) := by decide +kernel
theorem dX12_isText_5 : decode cX12_isText 5 = .ok (.istore 8, 2) := by decide +kernel
theorem dX12_isText_7 : decode cX12_isText 7 = .ok (.iload 8, 2) := by decide +kernel
theorem dX12_isText_9 : decode cX12_isText 9 = .ok (.ifCond .lt 75, 3) := by decide +kernel
theorem dX12_isText_12 : decode cX12_isText 12 = .ok (.iload 8, 2) := by decide +kernel
theorem dX12_isText_14 : decode cX12_isText 14 = .ok (.bipush 64, 2) := by decide +kernel
theorem dX12_isText_16 : decode cX12_isText 16 = .ok (.if_icmp .lt 13, 3) := by decide +kernel
theorem dX12_isText_19 : decode cX12_isText 19 = .ok (.lload_n 3, 1) := by decide +kernel
theorem dX12_isText_20 : decode cX12_isText 20 = .ok (.iload 8, 2) := by decide +kernel
theorem dX12_isText_22 : decode cX12_isText 22 = .ok (.bipush 64, 2) := by decide +kernel
theorem dX12_isText_24 : decode cX12_isText 24 = .ok (.isub, 1) := by decide +kernel
theorem dX12_isText_25 : decode cX12_isText 25 = .ok (.lshr, 1) := by decide +kernel
theorem dX12_isText_26 : decode cX12_isText 26 = .ok (.goto 8, 3) := by decide +kernel
theorem dX12_isText_29 : decode cX12_isText 29 = .ok (.lload 5, 2) := by decide +kernel
theorem dX12_isText_31 : decode cX12_isText 31 = .ok (.iload 8, 2) := by decide +kernel
theorem dX12_isText_33 : decode cX12_isText 33 = .ok (.lshr, 1) := by decide +kernel
theorem dX12_isText_34 : decode cX12_isText 34 = .ok (.lstore 9, 2) := by decide +kernel
theorem dX12_isText_36 : decode cX12_isText 36 = .ok (.lload 9, 2) := by decide +kernel
theorem dX12_isText_38 : decode cX12_isText 38 = .ok (.l2i, 1) := by decide +kernel
theorem dX12_isText_39 : decode cX12_isText 39 = .ok (.sipush 255, 3) := by decide +kernel
theorem dX12_isText_42 : decode cX12_isText 42 = .ok (.iand, 1) := by decide +kernel
theorem dX12_isText_43 : decode cX12_isText 43 = .ok (.istore 11, 2) := by decide +kernel
theorem dX12_isText_45 : decode cX12_isText 45 = .ok (.iload 11, 2) := by decide +kernel
theorem dX12_isText_47 : decode cX12_isText 47 = .ok (.ifCond .ne 6, 3) := by decide +kernel
theorem dX12_isText_50 : decode cX12_isText 50 = .ok (.goto 28, 3) := by decide +kernel
theorem dX12_isText_53 : decode cX12_isText 53 = .ok (.iload 7, 2) := by decide +kernel
theorem dX12_isText_55 : decode cX12_isText 55 = .ok (.iload_n 2, 1) := by decide +kernel
theorem dX12_isText_56 : decode cX12_isText 56 = .ok (.if_icmp .ge 17, 3) := by decide +kernel
theorem dX12_isText_59 : decode cX12_isText 59 = .ok (.aload_n 0, 1) := by decide +kernel
theorem dX12_isText_60 : decode cX12_isText 60 = .ok (.getfield 20, 3) := by decide +kernel
theorem dX12_isText_63 : decode cX12_isText 63 = .ok (.iload_n 1, 1) := by decide +kernel
theorem dX12_isText_64 : decode cX12_isText 64 = .ok (.iload 7, 2) := by decide +kernel
theorem dX12_isText_66 : decode cX12_isText 66 = .ok (.iadd, 1) := by decide +kernel
theorem dX12_isText_67 : decode cX12_isText 67 = .ok (.baload, 1) := by decide +kernel
theorem dX12_isText_68 : decode cX12_isText 68 = .ok (.iload 11, 2) := by decide +kernel
theorem dX12_isText_70 : decode cX12_isText 70 = .ok (.if_icmp .eq 5, 3) := by decide +kernel
theorem dX12_isText_73 : decode cX12_isText 73 = .ok (.iconst 0, 1) := by decide +kernel
theorem dX12_isText_74 : decode cX12_isText 74 = .ok (.ireturn, 1) := by decide +kernel
theorem dX12_isText_75 : decode cX12_isText 75 = .ok (.iinc 7 1, 3) := by decide +kernel
theorem dX12_isText_78 : decode cX12_isText 78 = .ok (.iinc 8 (-8), 3) := by decide +kernel
theorem dX12_isText_81 : decode cX12_isText 81 = .ok (.goto (-74), 3) := by decide +kernel
theorem dX12_isText_84 : decode cX12_isText 84 = .ok (.iload 7, 2) := by decide +kernel
theorem dX12_isText_86 : decode cX12_isText 86 = .ok (.iload_n 2, 1) := by decide +kernel
theorem dX12_isText_87 : decode cX12_isText 87 = .ok (.if_icmp .ne 7, 3) := by decide +kernel
theorem dX12_isText_90 : decode cX12_isText 90 = .ok (.iconst 1, 1) := by decide +kernel
theorem dX12_isText_91 : decode cX12_isText 91 = .ok (.goto 4, 3) := by decide +kernel
theorem dX12_isText_94 : decode cX12_isText 94 = .ok (.iconst 0, 1) := by decide +kernel
theorem dX12_isText_95 : decode cX12_isText 95 = .ok (.ireturn, 1) := by decide +kernel
def wr_isText_34 (Q : Int → zS → Prop) (k7 : zS → Int → Int → Int → Int → Int → Int → Prop) (s0 : zS) (x1 : Int) (x2 : Int) (x3 : Int) (x5 : Int) (x7 : Int) (x8 : Int) (y0 : Int) : Prop :=
  ((¬ (zan y0 255) = 0 → ((x2 ≤ x7 → Q 0 s0) ∧ (¬ x2 ≤ x7 → (0 ≤ (x1 + x7)) ∧ ((x1 + x7) < 6000) ∧ (((za s0 3 (Int.toNat (x1 + x7))) = (zan y0 255) → (zR (x7 + 1)) ∧ (zR (x8 + (-8))) ∧ k7 s0 x1 x2 x3 x5 (x7 + 1) (x8 + (-8))) ∧ (¬ (za s0 3 (Int.toNat (x1 + x7))) = (zan y0 255) → Q 0 s0))))) ∧ ((zan y0 255) = 0 → (zR (x8 + (-8))) ∧ k7 s0 x1 x2 x3 x5 x7 (x8 + (-8))))
def wr_isText_7B (Q : Int → zS → Prop) (k7 : zS → Int → Int → Int → Int → Int → Int → Prop) (s0 : zS) (x1 : Int) (x2 : Int) (x3 : Int) (x5 : Int) (x7 : Int) (x8 : Int) : Prop :=
  ((x8 < 0 → ((¬ x7 = x2 → Q 0 s0) ∧ (x7 = x2 → Q 1 s0))) ∧ (¬ x8 < 0 → ((x8 < 64 → wr_isText_34 Q k7 s0 x1 x2 x3 x5 x7 x8 (zlsr x5 x8)) ∧ (¬ x8 < 64 → wr_isText_34 Q k7 s0 x1 x2 x3 x5 x7 x8 (zlsr x3 (x8 - 64))))))
def wr_isText_7 (Q : Int → zS → Prop)  : Nat → zS → Int → Int → Int → Int → Int → Int → Prop
  | 0 => fun _ _ _ _ _ _ _ => False
  | m + 1 => fun s0 x1 x2 x3 x5 x7 x8 => wr_isText_7B Q  (wr_isText_7 Q  m) s0 x1 x2 x3 x5 x7 x8
def wr_isText (s0 : zS) (a0 : Int) (a1 : Int) (a2 : Int) (a3 : Int) (Q : Int → zS → Prop) : Prop :=
  ∃ n, wr_isText_7 Q  n s0 a0 a1 a2 a3 0 120
set_option maxHeartbeats 4000000 in
set_option maxRecDepth 100000 in
theorem rj_isText_34 {X : gX} {d : gD} {b t : Nat} {T : Nat → Nat} {F0 : gM} (hC : gC RX12 cX12_isText 12 (some .boolean) "isText" (gR 0 0 0) d b X) {Q : Int → zS → Prop} {k7 : zS → Int → Int → Int → Int → Int → Int → Prop} (hk7 : ∀ (F : gM) (s0 : zS) (x1 : Int) (x2 : Int) (x3 : Int) (x5 : Int) (x7 : Int) (x8 : Int), zR x1 → zR x2 → zL x3 → zL x5 → zR x7 → zR x8 → zZ d t T F0 F s0 → k7 s0 x1 x2 x3 x5 x7 x8 → gG X d b (zQi X d b t T F0 Q) F 0 0 7 [some (.ref t), some (.int (zI x1)), some (.int (zI x2)), some (.long (zJ x3)), none, some (.long (zJ x5)), none, some (.int (zI x7)), some (.int (zI x8)), none, none, none] []) {F : gM} {s0 : zS} {x1 : Int} {x2 : Int} {x3 : Int} {x5 : Int} {x7 : Int} {x8 : Int} {y0 : Int} (Rx1 : zR x1) (Rx2 : zR x2) (Rx3 : zL x3) (Rx5 : zL x5) (Rx7 : zR x7) (Rx8 : zR x8) (Ry0 : zL y0) (hZ : zZ d t T F0 F s0) (hw : wr_isText_34 Q k7 s0 x1 x2 x3 x5 x7 x8 y0) : gG X d b (zQi X d b t T F0 Q) F 0 0 34 [some (.ref t), some (.int (zI x1)), some (.int (zI x2)), some (.long (zJ x3)), none, some (.long (zJ x5)), none, some (.int (zI x7)), some (.int (zI x8)), none, none, none] [.long (zJ y0)] := by
  unfold wr_isText_34 at hw
  refine g_lstore (lv' := [some (.ref t), some (.int (zI x1)), some (.int (zI x2)), some (.long (zJ x3)), none, some (.long (zJ x5)), none, some (.int (zI x7)), some (.int (zI x8)), some (.long (zJ y0)), none, none]) hC dX12_isText_34 (Nat.le_of_ble_eq_true rfl) rfl rfl ?_
  refine g_lload hC dX12_isText_36 rfl ?_
  refine zr_l2i hC dX12_isText_38 ?_
  refine g_sipush (v := zI 255) hC dX12_isText_39 rfl ?_
  refine zr_iand hC dX12_isText_42 ?_
  refine g_istore (lv' := [some (.ref t), some (.int (zI x1)), some (.int (zI x2)), some (.long (zJ x3)), none, some (.long (zJ x5)), none, some (.int (zI x7)), some (.int (zI x8)), some (.long (zJ y0)), none, some (.int (zI (zan y0 255)))]) hC dX12_isText_43 (Nat.le_of_ble_eq_true rfl) rfl rfl ?_
  refine g_iload hC dX12_isText_45 rfl ?_
  refine zr_if_ne (tgt := 53) hC (zR_t _) dX12_isText_47 (by decide) (fun c1 => ?_) (fun c1 => ?_)
  · have h2 := hw.1 c1
    refine g_iload hC dX12_isText_53 rfl ?_
    refine g_iload_n hC dX12_isText_55 rfl ?_
    refine zr_icmp_ge (tgt := 73) hC Rx7 Rx2 dX12_isText_56 (by decide) (fun c3 => ?_) (fun c3 => ?_)
    · have h4 := h2.1 c3
      refine g_iconst (v := zI 0) hC dX12_isText_73 rfl ?_
      exact zr_zret hC hZ (Or.inl rfl) h4 dX12_isText_74
    · have h5 := h2.2 c3
      refine g_aload_n hC dX12_isText_59 rfl ?_
      refine zr_geta hC hZ fl_X12_20 zb_3 (by decide) dX12_isText_60 ?_
      refine g_iload_n hC dX12_isText_63 rfl ?_
      refine g_iload hC dX12_isText_64 rfl ?_
      refine zr_iadd hC dX12_isText_66 ?_
      obtain ⟨o6, h7⟩ := h5
      obtain ⟨o8, h9⟩ := h7
      refine zr_bald (v := (za s0 3 (Int.toNat (x1 + x7)))) hC hZ zk_3 zb_3 zn_3 (by decide) o6 o8 rfl dX12_isText_67 ?_
      refine g_iload hC dX12_isText_68 rfl ?_
      refine zr_icmp_eq (tgt := 75) hC (hZ.ra 3 _) (zR_t _) dX12_isText_70 (by decide) (fun c10 => ?_) (fun c10 => ?_)
      · have h11 := h9.1 c10
        refine zr_iinc (x := x7) (lv' := [some (.ref t), some (.int (zI x1)), some (.int (zI x2)), some (.long (zJ x3)), none, some (.long (zJ x5)), none, some (.int (zI (x7 + 1))), some (.int (zI x8)), some (.long (zJ y0)), none, some (.int (zI (zan y0 255)))]) hC dX12_isText_75 rfl rfl rfl ?_
        refine zr_iinc (x := x8) (lv' := [some (.ref t), some (.int (zI x1)), some (.int (zI x2)), some (.long (zJ x3)), none, some (.long (zJ x5)), none, some (.int (zI (x7 + 1))), some (.int (zI (x8 + (-8)))), some (.long (zJ y0)), none, some (.int (zI (zan y0 255)))]) hC dX12_isText_78 rfl rfl rfl ?_
        refine g_goto (tgt := 7) hC dX12_isText_81 (by decide) ?_
        obtain ⟨o12, h13⟩ := h11
        obtain ⟨o14, h15⟩ := h13
        refine g_lv (lv' := [some (.ref t), some (.int (zI x1)), some (.int (zI x2)), some (.long (zJ x3)), none, some (.long (zJ x5)), none, some (.int (zI (x7 + 1))), some (.int (zI (x8 + (-8)))), none, none, none]) ⟨rfl, rfl, rfl, rfl, rfl, rfl, rfl, trivial⟩ ?_
        exact hk7 _ _ _ _ _ _ _ _ Rx1 Rx2 Rx3 Rx5 o12 o14 hZ h15
      · have h16 := h9.2 c10
        refine g_iconst (v := zI 0) hC dX12_isText_73 rfl ?_
        exact zr_zret hC hZ (Or.inl rfl) h16 dX12_isText_74
  · have h17 := hw.2 c1
    refine g_goto (tgt := 78) hC dX12_isText_50 (by decide) ?_
    refine zr_iinc (x := x8) (lv' := [some (.ref t), some (.int (zI x1)), some (.int (zI x2)), some (.long (zJ x3)), none, some (.long (zJ x5)), none, some (.int (zI x7)), some (.int (zI (x8 + (-8)))), some (.long (zJ y0)), none, some (.int (zI (zan y0 255)))]) hC dX12_isText_78 rfl rfl rfl ?_
    refine g_goto (tgt := 7) hC dX12_isText_81 (by decide) ?_
    obtain ⟨o18, h19⟩ := h17
    refine g_lv (lv' := [some (.ref t), some (.int (zI x1)), some (.int (zI x2)), some (.long (zJ x3)), none, some (.long (zJ x5)), none, some (.int (zI x7)), some (.int (zI (x8 + (-8)))), none, none, none]) ⟨rfl, rfl, rfl, rfl, rfl, rfl, rfl, trivial⟩ ?_
    exact hk7 _ _ _ _ _ _ _ _ Rx1 Rx2 Rx3 Rx5 Rx7 o18 hZ h19
set_option maxHeartbeats 4000000 in
set_option maxRecDepth 100000 in
theorem rb_isText_7 {X : gX} {d : gD} {b t : Nat} {T : Nat → Nat} {F0 : gM} (hC : gC RX12 cX12_isText 12 (some .boolean) "isText" (gR 0 0 0) d b X) {Q : Int → zS → Prop} {k7 : zS → Int → Int → Int → Int → Int → Int → Prop} (hk7 : ∀ (F : gM) (s0 : zS) (x1 : Int) (x2 : Int) (x3 : Int) (x5 : Int) (x7 : Int) (x8 : Int), zR x1 → zR x2 → zL x3 → zL x5 → zR x7 → zR x8 → zZ d t T F0 F s0 → k7 s0 x1 x2 x3 x5 x7 x8 → gG X d b (zQi X d b t T F0 Q) F 0 0 7 [some (.ref t), some (.int (zI x1)), some (.int (zI x2)), some (.long (zJ x3)), none, some (.long (zJ x5)), none, some (.int (zI x7)), some (.int (zI x8)), none, none, none] []) {F : gM} {s0 : zS} {x1 : Int} {x2 : Int} {x3 : Int} {x5 : Int} {x7 : Int} {x8 : Int} (Rx1 : zR x1) (Rx2 : zR x2) (Rx3 : zL x3) (Rx5 : zL x5) (Rx7 : zR x7) (Rx8 : zR x8) (hZ : zZ d t T F0 F s0) (hw : wr_isText_7B Q k7 s0 x1 x2 x3 x5 x7 x8) : gG X d b (zQi X d b t T F0 Q) F 0 0 7 [some (.ref t), some (.int (zI x1)), some (.int (zI x2)), some (.long (zJ x3)), none, some (.long (zJ x5)), none, some (.int (zI x7)), some (.int (zI x8)), none, none, none] [] := by
  unfold wr_isText_7B at hw
  refine g_iload hC dX12_isText_7 rfl ?_
  refine zr_if_lt (tgt := 84) hC Rx8 dX12_isText_9 (by decide) (fun c1 => ?_) (fun c1 => ?_)
  · have h2 := hw.1 c1
    refine g_iload hC dX12_isText_84 rfl ?_
    refine g_iload_n hC dX12_isText_86 rfl ?_
    refine zr_icmp_ne (tgt := 94) hC Rx7 Rx2 dX12_isText_87 (by decide) (fun c3 => ?_) (fun c3 => ?_)
    · have h4 := h2.1 c3
      refine g_iconst (v := zI 0) hC dX12_isText_94 rfl ?_
      exact zr_zret hC hZ (Or.inl rfl) h4 dX12_isText_95
    · have h5 := h2.2 c3
      refine g_iconst (v := zI 1) hC dX12_isText_90 rfl ?_
      refine g_goto (tgt := 95) hC dX12_isText_91 (by decide) ?_
      exact zr_zret hC hZ (Or.inr rfl) h5 dX12_isText_95
  · have h6 := hw.2 c1
    refine g_iload hC dX12_isText_12 rfl ?_
    refine g_bipush (v := zI 64) hC dX12_isText_14 rfl ?_
    refine zr_icmp_lt (tgt := 29) hC Rx8 (by decide) dX12_isText_16 (by decide) (fun c7 => ?_) (fun c7 => ?_)
    · have h8 := h6.1 c7
      refine g_lload hC dX12_isText_29 rfl ?_
      refine g_iload hC dX12_isText_31 rfl ?_
      refine zr_lshr hC dX12_isText_33 ?_
      exact rj_isText_34 hC hk7 Rx1 Rx2 Rx3 Rx5 Rx7 Rx8 (zL_t _) hZ h8
    · have h9 := h6.2 c7
      refine g_lload_n hC dX12_isText_19 rfl ?_
      refine g_iload hC dX12_isText_20 rfl ?_
      refine g_bipush (v := zI 64) hC dX12_isText_22 rfl ?_
      refine zr_isub hC dX12_isText_24 ?_
      refine zr_lshr hC dX12_isText_25 ?_
      refine g_goto (tgt := 34) hC dX12_isText_26 (by decide) ?_
      exact rj_isText_34 hC hk7 Rx1 Rx2 Rx3 Rx5 Rx7 Rx8 (zL_t _) hZ h9
theorem rl_isText_7 {X : gX} {d : gD} {b t : Nat} {T : Nat → Nat} {F0 : gM} (hC : gC RX12 cX12_isText 12 (some .boolean) "isText" (gR 0 0 0) d b X) {Q : Int → zS → Prop}   : ∀ (m : Nat) (F : gM) (s0 : zS) (x1 : Int) (x2 : Int) (x3 : Int) (x5 : Int) (x7 : Int) (x8 : Int), zR x1 → zR x2 → zL x3 → zL x5 → zR x7 → zR x8 → zZ d t T F0 F s0 → wr_isText_7 Q  m s0 x1 x2 x3 x5 x7 x8 → gG X d b (zQi X d b t T F0 Q) F 0 0 7 [some (.ref t), some (.int (zI x1)), some (.int (zI x2)), some (.long (zJ x3)), none, some (.long (zJ x5)), none, some (.int (zI x7)), some (.int (zI x8)), none, none, none] [] := by
  intro m
  induction m with
  | zero => intro F s0 x1 x2 x3 x5 x7 x8 Rx1 Rx2 Rx3 Rx5 Rx7 Rx8 hZ hw; exact False.elim hw
  | succ m ih => intro F s0 x1 x2 x3 x5 x7 x8 Rx1 Rx2 Rx3 Rx5 Rx7 Rx8 hZ hw; exact rb_isText_7 hC  ih Rx1 Rx2 Rx3 Rx5 Rx7 Rx8 hZ hw
set_option maxHeartbeats 4000000 in
set_option maxRecDepth 100000 in
theorem rm_isText (l : Launch) (d : gD) (b : Nat) {t : Nat} {T : Nat → Nat} {F : gM} {s0 : zS} {a0 : Int} {a1 : Int} {a2 : Int} {a3 : Int} (Ra0 : zR a0) (Ra1 : zR a1) (Ra2 : zL a2) (Ra3 : zL a3) {Q : Int → zS → Prop} (hZ : zZ d t T F F s0) (hw : wr_isText s0 a0 a1 a2 a3 Q) : gMi l d b yX12_isText cX12_isText 12 .boolean 0 0 0 F [.ref t, .int (zI a0), .int (zI a1), .long (zJ a2), .long (zJ a3)] (zPi d t T F Q) := by
  refine gM_of2 rfl (nL := 12) (Nat.le_of_ble_eq_true rfl) ?_
  intro X hX hC; subst hX
  show gG X d b (zQi X d b t T F Q) F 0 0 0 [some (.ref t), some (.int (zI a0)), some (.int (zI a1)), some (.long (zJ a2)), none, some (.long (zJ a3)), none, none, none, none, none, none] []
  unfold wr_isText at hw
  refine g_iconst (v := zI 0) hC dX12_isText_0 rfl ?_
  refine g_istore (lv' := [some (.ref t), some (.int (zI a0)), some (.int (zI a1)), some (.long (zJ a2)), none, some (.long (zJ a3)), none, some (.int (zI 0)), none, none, none, none]) hC dX12_isText_1 (Nat.le_of_ble_eq_true rfl) rfl rfl ?_
  refine g_bipush (v := zI 120) hC dX12_isText_3 rfl ?_
  refine g_istore (lv' := [some (.ref t), some (.int (zI a0)), some (.int (zI a1)), some (.long (zJ a2)), none, some (.long (zJ a3)), none, some (.int (zI 0)), some (.int (zI 120)), none, none, none]) hC dX12_isText_5 (Nat.le_of_ble_eq_true rfl) rfl rfl ?_
  obtain ⟨m1, h2⟩ := hw
  exact rl_isText_7 hC  m1 _ _ _ _ _ _ _ _ Ra0 Ra1 Ra2 Ra3 (by decide) (by decide) hZ h2
theorem dX12_keyword_0 : decode cX12_keyword 0 = .ok (.aload_n 0, 1) := by decide +kernel
theorem dX12_keyword_1 : decode cX12_keyword 1 = .ok (.iload_n 1, 1) := by decide +kernel
theorem dX12_keyword_2 : decode cX12_keyword 2 = .ok (.iload_n 2, 1) := by decide +kernel
theorem dX12_keyword_3 : decode cX12_keyword 3 = .ok (.ldc2_w 375, 3) := by decide +kernel
theorem dX12_keyword_6 : decode cX12_keyword 6 = .ok (.lconst 0, 1) := by decide +kernel
theorem dX12_keyword_7 : decode cX12_keyword 7 = .ok (.invokevirtual 377, 3) := by decide +kernel
theorem dX12_keyword_10 : decode cX12_keyword 10 = .ok (.ifCond .eq 6, 3) := by decide +kernel
theorem dX12_keyword_13 : decode cX12_keyword 13 = .ok (.bipush 40, 2) := by decide +kernel
theorem dX12_keyword_15 : decode cX12_keyword 15 = .ok (.ireturn, 1) := by decide +kernel
theorem dX12_keyword_16 : decode cX12_keyword 16 = .ok (.aload_n 0, 1) := by decide +kernel
theorem dX12_keyword_17 : decode cX12_keyword 17 = .ok (.iload_n 1, 1) := by decide +kernel
theorem dX12_keyword_18 : decode cX12_keyword 18 = .ok (.iload_n 2, 1) := by decide +kernel
theorem dX12_keyword_19 : decode cX12_keyword 19 = .ok (.ldc2_w 381, 3) := by decide +kernel
theorem dX12_keyword_22 : decode cX12_keyword 22 = .ok (.lconst 0, 1) := by decide +kernel
theorem dX12_keyword_23 : decode cX12_keyword 23 = .ok (.invokevirtual 377, 3) := by decide +kernel
theorem dX12_keyword_26 : decode cX12_keyword 26 = .ok (.ifCond .eq 6, 3) := by decide +kernel
theorem dX12_keyword_29 : decode cX12_keyword 29 = .ok (.bipush 41, 2) := by decide +kernel
theorem dX12_keyword_31 : decode cX12_keyword 31 = .ok (.ireturn, 1) := by decide +kernel
theorem dX12_keyword_32 : decode cX12_keyword 32 = .ok (.aload_n 0, 1) := by decide +kernel
theorem dX12_keyword_33 : decode cX12_keyword 33 = .ok (.iload_n 1, 1) := by decide +kernel
theorem dX12_keyword_34 : decode cX12_keyword 34 = .ok (.iload_n 2, 1) := by decide +kernel
theorem dX12_keyword_35 : decode cX12_keyword 35 = .ok (.ldc2_w 383, 3) := by decide +kernel
theorem dX12_keyword_38 : decode cX12_keyword 38 = .ok (.lconst 0, 1) := by decide +kernel
theorem dX12_keyword_39 : decode cX12_keyword 39 = .ok (.invokevirtual 377, 3) := by decide +kernel
theorem dX12_keyword_42 : decode cX12_keyword 42 = .ok (.ifCond .eq 6, 3) := by decide +kernel
theorem dX12_keyword_45 : decode cX12_keyword 45 = .ok (.bipush 42, 2) := by decide +kernel
theorem dX12_keyword_47 : decode cX12_keyword 47 = .ok (.ireturn, 1) := by decide +kernel
theorem dX12_keyword_48 : decode cX12_keyword 48 = .ok (.aload_n 0, 1) := by decide +kernel
theorem dX12_keyword_49 : decode cX12_keyword 49 = .ok (.iload_n 1, 1) := by decide +kernel
theorem dX12_keyword_50 : decode cX12_keyword 50 = .ok (.iload_n 2, 1) := by decide +kernel
theorem dX12_keyword_51 : decode cX12_keyword 51 = .ok (.ldc2_w 385, 3) := by decide +kernel
theorem dX12_keyword_54 : decode cX12_keyword 54 = .ok (.lconst 0, 1) := by decide +kernel
theorem dX12_keyword_55 : decode cX12_keyword 55 = .ok (.invokevirtual 377, 3) := by decide +kernel
theorem dX12_keyword_58 : decode cX12_keyword 58 = .ok (.ifCond .eq 6, 3) := by decide +kernel
theorem dX12_keyword_61 : decode cX12_keyword 61 = .ok (.bipush 43, 2) := by decide +kernel
theorem dX12_keyword_63 : decode cX12_keyword 63 = .ok (.ireturn, 1) := by decide +kernel
theorem dX12_keyword_64 : decode cX12_keyword 64 = .ok (.aload_n 0, 1) := by decide +kernel
theorem dX12_keyword_65 : decode cX12_keyword 65 = .ok (.iload_n 1, 1) := by decide +kernel
theorem dX12_keyword_66 : decode cX12_keyword 66 = .ok (.iload_n 2, 1) := by decide +kernel
theorem dX12_keyword_67 : decode cX12_keyword 67 = .ok (.ldc2_w 387, 3) := by decide +kernel
theorem dX12_keyword_70 : decode cX12_keyword 70 = .ok (.lconst 0, 1) := by decide +kernel
theorem dX12_keyword_71 : decode cX12_keyword 71 = .ok (.invokevirtual 377, 3) := by decide +kernel
theorem dX12_keyword_74 : decode cX12_keyword 74 = .ok (.ifCond .eq 6, 3) := by decide +kernel
theorem dX12_keyword_77 : decode cX12_keyword 77 = .ok (.bipush 44, 2) := by decide +kernel
theorem dX12_keyword_79 : decode cX12_keyword 79 = .ok (.ireturn, 1) := by decide +kernel
theorem dX12_keyword_80 : decode cX12_keyword 80 = .ok (.aload_n 0, 1) := by decide +kernel
theorem dX12_keyword_81 : decode cX12_keyword 81 = .ok (.iload_n 1, 1) := by decide +kernel
theorem dX12_keyword_82 : decode cX12_keyword 82 = .ok (.iload_n 2, 1) := by decide +kernel
theorem dX12_keyword_83 : decode cX12_keyword 83 = .ok (.ldc2_w 389, 3) := by decide +kernel
theorem dX12_keyword_86 : decode cX12_keyword 86 = .ok (.lconst 0, 1) := by decide +kernel
theorem dX12_keyword_87 : decode cX12_keyword 87 = .ok (.invokevirtual 377, 3) := by decide +kernel
theorem dX12_keyword_90 : decode cX12_keyword 90 = .ok (.ifCond .eq 6, 3) := by decide +kernel
theorem dX12_keyword_93 : decode cX12_keyword 93 = .ok (.bipush 45, 2) := by decide +kernel
theorem dX12_keyword_95 : decode cX12_keyword 95 = .ok (.ireturn, 1) := by decide +kernel
theorem dX12_keyword_96 : decode cX12_keyword 96 = .ok (.aload_n 0, 1) := by decide +kernel
theorem dX12_keyword_97 : decode cX12_keyword 97 = .ok (.iload_n 1, 1) := by decide +kernel
theorem dX12_keyword_98 : decode cX12_keyword 98 = .ok (.iload_n 2, 1) := by decide +kernel
theorem dX12_keyword_99 : decode cX12_keyword 99 = .ok (.ldc2_w 391, 3) := by decide +kernel
theorem dX12_keyword_102 : decode cX12_keyword 102 = .ok (.lconst 0, 1) := by decide +kernel
theorem dX12_keyword_103 : decode cX12_keyword 103 = .ok (.invokevirtual 377, 3) := by decide +kernel
theorem dX12_keyword_106 : decode cX12_keyword 106 = .ok (.ifCond .eq 6, 3) := by decide +kernel
theorem dX12_keyword_109 : decode cX12_keyword 109 = .ok (.bipush 46, 2) := by decide +kernel
theorem dX12_keyword_111 : decode cX12_keyword 111 = .ok (.ireturn, 1) := by decide +kernel
theorem dX12_keyword_112 : decode cX12_keyword 112 = .ok (.aload_n 0, 1) := by decide +kernel
theorem dX12_keyword_113 : decode cX12_keyword 113 = .ok (.iload_n 1, 1) := by decide +kernel
theorem dX12_keyword_114 : decode cX12_keyword 114 = .ok (.iload_n 2, 1) := by decide +kernel
theorem dX12_keyword_115 : decode cX12_keyword 115 = .ok (.ldc2_w 393, 3) := by decide +kernel
theorem dX12_keyword_118 : decode cX12_keyword 118 = .ok (.lconst 0, 1) := by decide +kernel
theorem dX12_keyword_119 : decode cX12_keyword 119 = .ok (.invokevirtual 377, 3) := by decide +kernel
theorem dX12_keyword_122 : decode cX12_keyword 122 = .ok (.ifCond .eq 6, 3) := by decide +kernel
theorem dX12_keyword_125 : decode cX12_keyword 125 = .ok (.bipush 47, 2) := by decide +kernel
theorem dX12_keyword_127 : decode cX12_keyword 127 = .ok (.ireturn, 1) := by decide +kernel
theorem dX12_keyword_128 : decode cX12_keyword 128 = .ok (.aload_n 0, 1) := by decide +kernel
theorem dX12_keyword_129 : decode cX12_keyword 129 = .ok (.iload_n 1, 1) := by decide +kernel
theorem dX12_keyword_130 : decode cX12_keyword 130 = .ok (.iload_n 2, 1) := by decide +kernel
theorem dX12_keyword_131 : decode cX12_keyword 131 = .ok (.ldc2_w 395, 3) := by decide +kernel
theorem dX12_keyword_134 : decode cX12_keyword 134 = .ok (.lconst 0, 1) := by decide +kernel
theorem dX12_keyword_135 : decode cX12_keyword 135 = .ok (.invokevirtual 377, 3) := by decide +kernel
theorem dX12_keyword_138 : decode cX12_keyword 138 = .ok (.ifCond .eq 6, 3) := by decide +kernel
theorem dX12_keyword_141 : decode cX12_keyword 141 = .ok (.bipush 48, 2) := by decide +kernel
theorem dX12_keyword_143 : decode cX12_keyword 143 = .ok (.ireturn, 1) := by decide +kernel
theorem dX12_keyword_144 : decode cX12_keyword 144 = .ok (.aload_n 0, 1) := by decide +kernel
theorem dX12_keyword_145 : decode cX12_keyword 145 = .ok (.iload_n 1, 1) := by decide +kernel
theorem dX12_keyword_146 : decode cX12_keyword 146 = .ok (.iload_n 2, 1) := by decide +kernel
theorem dX12_keyword_147 : decode cX12_keyword 147 = .ok (.ldc2_w 397, 3) := by decide +kernel
theorem dX12_keyword_150 : decode cX12_keyword 150 = .ok (.lconst 0, 1) := by decide +kernel
theorem dX12_keyword_151 : decode cX12_keyword 151 = .ok (.invokevirtual 377, 3) := by decide +kernel
theorem dX12_keyword_154 : decode cX12_keyword 154 = .ok (.ifCond .eq 6, 3) := by decide +kernel
theorem dX12_keyword_157 : decode cX12_keyword 157 = .ok (.bipush 49, 2) := by decide +kernel
theorem dX12_keyword_159 : decode cX12_keyword 159 = .ok (.ireturn, 1) := by decide +kernel
theorem dX12_keyword_160 : decode cX12_keyword 160 = .ok (.aload_n 0, 1) := by decide +kernel
theorem dX12_keyword_161 : decode cX12_keyword 161 = .ok (.iload_n 1, 1) := by decide +kernel
theorem dX12_keyword_162 : decode cX12_keyword 162 = .ok (.iload_n 2, 1) := by decide +kernel
theorem dX12_keyword_163 : decode cX12_keyword 163 = .ok (.ldc2_w 399, 3) := by decide +kernel
theorem dX12_keyword_166 : decode cX12_keyword 166 = .ok (.lconst 0, 1) := by decide +kernel
theorem dX12_keyword_167 : decode cX12_keyword 167 = .ok (.invokevirtual 377, 3) := by decide +kernel
theorem dX12_keyword_170 : decode cX12_keyword 170 = .ok (.ifCond .eq 6, 3) := by decide +kernel
theorem dX12_keyword_173 : decode cX12_keyword 173 = .ok (.bipush 50, 2) := by decide +kernel
theorem dX12_keyword_175 : decode cX12_keyword 175 = .ok (.ireturn, 1) := by decide +kernel
theorem dX12_keyword_176 : decode cX12_keyword 176 = .ok (.aload_n 0, 1) := by decide +kernel
theorem dX12_keyword_177 : decode cX12_keyword 177 = .ok (.iload_n 1, 1) := by decide +kernel
theorem dX12_keyword_178 : decode cX12_keyword 178 = .ok (.iload_n 2, 1) := by decide +kernel
theorem dX12_keyword_179 : decode cX12_keyword 179 = .ok (.ldc2_w 401, 3) := by decide +kernel
theorem dX12_keyword_182 : decode cX12_keyword 182 = .ok (.lconst 0, 1) := by decide +kernel
theorem dX12_keyword_183 : decode cX12_keyword 183 = .ok (.invokevirtual 377, 3) := by decide +kernel
theorem dX12_keyword_186 : decode cX12_keyword 186 = .ok (.ifCond .eq 6, 3) := by decide +kernel
theorem dX12_keyword_189 : decode cX12_keyword 189 = .ok (.bipush 51, 2) := by decide +kernel
theorem dX12_keyword_191 : decode cX12_keyword 191 = .ok (.ireturn, 1) := by decide +kernel
theorem dX12_keyword_192 : decode cX12_keyword 192 = .ok (.aload_n 0, 1) := by decide +kernel
theorem dX12_keyword_193 : decode cX12_keyword 193 = .ok (.iload_n 1, 1) := by decide +kernel
theorem dX12_keyword_194 : decode cX12_keyword 194 = .ok (.iload_n 2, 1) := by decide +kernel
theorem dX12_keyword_195 : decode cX12_keyword 195 = .ok (.ldc2_w 403, 3) := by decide +kernel
theorem dX12_keyword_198 : decode cX12_keyword 198 = .ok (.lconst 0, 1) := by decide +kernel
theorem dX12_keyword_199 : decode cX12_keyword 199 = .ok (.invokevirtual 377, 3) := by decide +kernel
theorem dX12_keyword_202 : decode cX12_keyword 202 = .ok (.ifCond .eq 6, 3) := by decide +kernel
theorem dX12_keyword_205 : decode cX12_keyword 205 = .ok (.bipush 52, 2) := by decide +kernel
theorem dX12_keyword_207 : decode cX12_keyword 207 = .ok (.ireturn, 1) := by decide +kernel
theorem dX12_keyword_208 : decode cX12_keyword 208 = .ok (.aload_n 0, 1) := by decide +kernel
theorem dX12_keyword_209 : decode cX12_keyword 209 = .ok (.iload_n 1, 1) := by decide +kernel
theorem dX12_keyword_210 : decode cX12_keyword 210 = .ok (.iload_n 2, 1) := by decide +kernel
theorem dX12_keyword_211 : decode cX12_keyword 211 = .ok (.ldc2_w 405, 3) := by decide +kernel
theorem dX12_keyword_214 : decode cX12_keyword 214 = .ok (.lconst 0, 1) := by decide +kernel
theorem dX12_keyword_215 : decode cX12_keyword 215 = .ok (.invokevirtual 377, 3) := by decide +kernel
theorem dX12_keyword_218 : decode cX12_keyword 218 = .ok (.ifCond .eq 6, 3) := by decide +kernel
theorem dX12_keyword_221 : decode cX12_keyword 221 = .ok (.bipush 53, 2) := by decide +kernel
theorem dX12_keyword_223 : decode cX12_keyword 223 = .ok (.ireturn, 1) := by decide +kernel
theorem dX12_keyword_224 : decode cX12_keyword 224 = .ok (.aload_n 0, 1) := by decide +kernel
theorem dX12_keyword_225 : decode cX12_keyword 225 = .ok (.iload_n 1, 1) := by decide +kernel
theorem dX12_keyword_226 : decode cX12_keyword 226 = .ok (.iload_n 2, 1) := by decide +kernel
theorem dX12_keyword_227 : decode cX12_keyword 227 = .ok (.ldc2_w 407, 3) := by decide +kernel
theorem dX12_keyword_230 : decode cX12_keyword 230 = .ok (.lconst 0, 1) := by decide +kernel
theorem dX12_keyword_231 : decode cX12_keyword 231 = .ok (.invokevirtual 377, 3) := by decide +kernel
theorem dX12_keyword_234 : decode cX12_keyword 234 = .ok (.ifCond .eq 6, 3) := by decide +kernel
theorem dX12_keyword_237 : decode cX12_keyword 237 = .ok (.bipush 54, 2) := by decide +kernel
theorem dX12_keyword_239 : decode cX12_keyword 239 = .ok (.ireturn, 1) := by decide +kernel
theorem dX12_keyword_240 : decode cX12_keyword 240 = .ok (.aload_n 0, 1) := by decide +kernel
theorem dX12_keyword_241 : decode cX12_keyword 241 = .ok (.iload_n 1, 1) := by decide +kernel
theorem dX12_keyword_242 : decode cX12_keyword 242 = .ok (.iload_n 2, 1) := by decide +kernel
theorem dX12_keyword_243 : decode cX12_keyword 243 = .ok (.ldc2_w 409, 3) := by decide +kernel
theorem dX12_keyword_246 : decode cX12_keyword 246 = .ok (.lconst 0, 1) := by decide +kernel
theorem dX12_keyword_247 : decode cX12_keyword 247 = .ok (.invokevirtual 377, 3) := by decide +kernel
theorem dX12_keyword_250 : decode cX12_keyword 250 = .ok (.ifCond .eq 6, 3) := by decide +kernel
theorem dX12_keyword_253 : decode cX12_keyword 253 = .ok (.bipush 55, 2) := by decide +kernel
theorem dX12_keyword_255 : decode cX12_keyword 255 = .ok (.ireturn, 1) := by decide +kernel
theorem dX12_keyword_256 : decode cX12_keyword 256 = .ok (.aload_n 0, 1) := by decide +kernel
theorem dX12_keyword_257 : decode cX12_keyword 257 = .ok (.iload_n 1, 1) := by decide +kernel
theorem dX12_keyword_258 : decode cX12_keyword 258 = .ok (.iload_n 2, 1) := by decide +kernel
theorem dX12_keyword_259 : decode cX12_keyword 259 = .ok (.ldc2_w 411, 3) := by decide +kernel
theorem dX12_keyword_262 : decode cX12_keyword 262 = .ok (.lconst 0, 1) := by decide +kernel
theorem dX12_keyword_263 : decode cX12_keyword 263 = .ok (.invokevirtual 377, 3) := by decide +kernel
theorem dX12_keyword_266 : decode cX12_keyword 266 = .ok (.ifCond .eq 6, 3) := by decide +kernel
theorem dX12_keyword_269 : decode cX12_keyword 269 = .ok (.bipush 56, 2) := by decide +kernel
theorem dX12_keyword_271 : decode cX12_keyword 271 = .ok (.ireturn, 1) := by decide +kernel
theorem dX12_keyword_272 : decode cX12_keyword 272 = .ok (.aload_n 0, 1) := by decide +kernel
theorem dX12_keyword_273 : decode cX12_keyword 273 = .ok (.iload_n 1, 1) := by decide +kernel
theorem dX12_keyword_274 : decode cX12_keyword 274 = .ok (.iload_n 2, 1) := by decide +kernel
theorem dX12_keyword_275 : decode cX12_keyword 275 = .ok (.ldc2_w 413, 3) := by decide +kernel
theorem dX12_keyword_278 : decode cX12_keyword 278 = .ok (.lconst 0, 1) := by decide +kernel
theorem dX12_keyword_279 : decode cX12_keyword 279 = .ok (.invokevirtual 377, 3) := by decide +kernel
theorem dX12_keyword_282 : decode cX12_keyword 282 = .ok (.ifCond .eq 6, 3) := by decide +kernel
theorem dX12_keyword_285 : decode cX12_keyword 285 = .ok (.bipush 57, 2) := by decide +kernel
theorem dX12_keyword_287 : decode cX12_keyword 287 = .ok (.ireturn, 1) := by decide +kernel
theorem dX12_keyword_288 : decode cX12_keyword 288 = .ok (.aload_n 0, 1) := by decide +kernel
theorem dX12_keyword_289 : decode cX12_keyword 289 = .ok (.iload_n 1, 1) := by decide +kernel
theorem dX12_keyword_290 : decode cX12_keyword 290 = .ok (.iload_n 2, 1) := by decide +kernel
theorem dX12_keyword_291 : decode cX12_keyword 291 = .ok (.ldc2_w 415, 3) := by decide +kernel
theorem dX12_keyword_294 : decode cX12_keyword 294 = .ok (.lconst 0, 1) := by decide +kernel
theorem dX12_keyword_295 : decode cX12_keyword 295 = .ok (.invokevirtual 377, 3) := by decide +kernel
theorem dX12_keyword_298 : decode cX12_keyword 298 = .ok (.ifCond .eq 6, 3) := by decide +kernel
theorem dX12_keyword_301 : decode cX12_keyword 301 = .ok (.bipush 58, 2) := by decide +kernel
theorem dX12_keyword_303 : decode cX12_keyword 303 = .ok (.ireturn, 1) := by decide +kernel
theorem dX12_keyword_304 : decode cX12_keyword 304 = .ok (.aload_n 0, 1) := by decide +kernel
theorem dX12_keyword_305 : decode cX12_keyword 305 = .ok (.iload_n 1, 1) := by decide +kernel
theorem dX12_keyword_306 : decode cX12_keyword 306 = .ok (.iload_n 2, 1) := by decide +kernel
theorem dX12_keyword_307 : decode cX12_keyword 307 = .ok (.ldc2_w 417, 3) := by decide +kernel
theorem dX12_keyword_310 : decode cX12_keyword 310 = .ok (.lconst 0, 1) := by decide +kernel
theorem dX12_keyword_311 : decode cX12_keyword 311 = .ok (.invokevirtual 377, 3) := by decide +kernel
theorem dX12_keyword_314 : decode cX12_keyword 314 = .ok (.ifCond .eq 6, 3) := by decide +kernel
theorem dX12_keyword_317 : decode cX12_keyword 317 = .ok (.bipush 59, 2) := by decide +kernel
theorem dX12_keyword_319 : decode cX12_keyword 319 = .ok (.ireturn, 1) := by decide +kernel
theorem dX12_keyword_320 : decode cX12_keyword 320 = .ok (.aload_n 0, 1) := by decide +kernel
theorem dX12_keyword_321 : decode cX12_keyword 321 = .ok (.iload_n 1, 1) := by decide +kernel
theorem dX12_keyword_322 : decode cX12_keyword 322 = .ok (.iload_n 2, 1) := by decide +kernel
theorem dX12_keyword_323 : decode cX12_keyword 323 = .ok (.ldc2_w 419, 3) := by decide +kernel
theorem dX12_keyword_326 : decode cX12_keyword 326 = .ok (.lconst 0, 1) := by decide +kernel
theorem dX12_keyword_327 : decode cX12_keyword 327 = .ok (.invokevirtual 377, 3) := by decide +kernel
theorem dX12_keyword_330 : decode cX12_keyword 330 = .ok (.ifCond .eq 6, 3) := by decide +kernel
theorem dX12_keyword_333 : decode cX12_keyword 333 = .ok (.bipush 60, 2) := by decide +kernel
theorem dX12_keyword_335 : decode cX12_keyword 335 = .ok (.ireturn, 1) := by decide +kernel
theorem dX12_keyword_336 : decode cX12_keyword 336 = .ok (.aload_n 0, 1) := by decide +kernel
theorem dX12_keyword_337 : decode cX12_keyword 337 = .ok (.iload_n 1, 1) := by decide +kernel
theorem dX12_keyword_338 : decode cX12_keyword 338 = .ok (.iload_n 2, 1) := by decide +kernel
theorem dX12_keyword_339 : decode cX12_keyword 339 = .ok (.ldc2_w 421, 3) := by decide +kernel
theorem dX12_keyword_342 : decode cX12_keyword 342 = .ok (.lconst 0, 1) := by decide +kernel
theorem dX12_keyword_343 : decode cX12_keyword 343 = .ok (.invokevirtual 377, 3) := by decide +kernel
theorem dX12_keyword_346 : decode cX12_keyword 346 = .ok (.ifCond .eq 6, 3) := by decide +kernel
theorem dX12_keyword_349 : decode cX12_keyword 349 = .ok (.bipush 61, 2) := by decide +kernel
theorem dX12_keyword_351 : decode cX12_keyword 351 = .ok (.ireturn, 1) := by decide +kernel
theorem dX12_keyword_352 : decode cX12_keyword 352 = .ok (.aload_n 0, 1) := by decide +kernel
theorem dX12_keyword_353 : decode cX12_keyword 353 = .ok (.iload_n 1, 1) := by decide +kernel
theorem dX12_keyword_354 : decode cX12_keyword 354 = .ok (.iload_n 2, 1) := by decide +kernel
theorem dX12_keyword_355 : decode cX12_keyword 355 = .ok (.ldc2_w 423, 3) := by decide +kernel
theorem dX12_keyword_358 : decode cX12_keyword 358 = .ok (.lconst 0, 1) := by decide +kernel
theorem dX12_keyword_359 : decode cX12_keyword 359 = .ok (.invokevirtual 377, 3) := by decide +kernel
theorem dX12_keyword_362 : decode cX12_keyword 362 = .ok (.ifCond .eq 6, 3) := by decide +kernel
theorem dX12_keyword_365 : decode cX12_keyword 365 = .ok (.bipush 62, 2) := by decide +kernel
theorem dX12_keyword_367 : decode cX12_keyword 367 = .ok (.ireturn, 1) := by decide +kernel
theorem dX12_keyword_368 : decode cX12_keyword 368 = .ok (.aload_n 0, 1) := by decide +kernel
theorem dX12_keyword_369 : decode cX12_keyword 369 = .ok (.iload_n 1, 1) := by decide +kernel
theorem dX12_keyword_370 : decode cX12_keyword 370 = .ok (.iload_n 2, 1) := by decide +kernel
theorem dX12_keyword_371 : decode cX12_keyword 371 = .ok (.ldc2_w 425, 3) := by decide +kernel
theorem dX12_keyword_374 : decode cX12_keyword 374 = .ok (.lconst 0, 1) := by decide +kernel
theorem dX12_keyword_375 : decode cX12_keyword 375 = .ok (.invokevirtual 377, 3) := by decide +kernel
theorem dX12_keyword_378 : decode cX12_keyword 378 = .ok (.ifCond .eq 6, 3) := by decide +kernel
theorem dX12_keyword_381 : decode cX12_keyword 381 = .ok (.bipush 63, 2) := by decide +kernel
theorem dX12_keyword_383 : decode cX12_keyword 383 = .ok (.ireturn, 1) := by decide +kernel
theorem dX12_keyword_384 : decode cX12_keyword 384 = .ok (.aload_n 0, 1) := by decide +kernel
theorem dX12_keyword_385 : decode cX12_keyword 385 = .ok (.iload_n 1, 1) := by decide +kernel
theorem dX12_keyword_386 : decode cX12_keyword 386 = .ok (.iload_n 2, 1) := by decide +kernel
theorem dX12_keyword_387 : decode cX12_keyword 387 = .ok (.ldc2_w 427, 3) := by decide +kernel
theorem dX12_keyword_390 : decode cX12_keyword 390 = .ok (.lconst 0, 1) := by decide +kernel
theorem dX12_keyword_391 : decode cX12_keyword 391 = .ok (.invokevirtual 377, 3) := by decide +kernel
theorem dX12_keyword_394 : decode cX12_keyword 394 = .ok (.ifCond .eq 6, 3) := by decide +kernel
theorem dX12_keyword_397 : decode cX12_keyword 397 = .ok (.bipush 64, 2) := by decide +kernel
theorem dX12_keyword_399 : decode cX12_keyword 399 = .ok (.ireturn, 1) := by decide +kernel
theorem dX12_keyword_400 : decode cX12_keyword 400 = .ok (.aload_n 0, 1) := by decide +kernel
theorem dX12_keyword_401 : decode cX12_keyword 401 = .ok (.iload_n 1, 1) := by decide +kernel
theorem dX12_keyword_402 : decode cX12_keyword 402 = .ok (.iload_n 2, 1) := by decide +kernel
theorem dX12_keyword_403 : decode cX12_keyword 403 = .ok (.ldc2_w 429, 3) := by decide +kernel
theorem dX12_keyword_406 : decode cX12_keyword 406 = .ok (.lconst 0, 1) := by decide +kernel
theorem dX12_keyword_407 : decode cX12_keyword 407 = .ok (.invokevirtual 377, 3) := by decide +kernel
theorem dX12_keyword_410 : decode cX12_keyword 410 = .ok (.ifCond .eq 6, 3) := by decide +kernel
theorem dX12_keyword_413 : decode cX12_keyword 413 = .ok (.bipush 65, 2) := by decide +kernel
theorem dX12_keyword_415 : decode cX12_keyword 415 = .ok (.ireturn, 1) := by decide +kernel
theorem dX12_keyword_416 : decode cX12_keyword 416 = .ok (.aload_n 0, 1) := by decide +kernel
theorem dX12_keyword_417 : decode cX12_keyword 417 = .ok (.iload_n 1, 1) := by decide +kernel
theorem dX12_keyword_418 : decode cX12_keyword 418 = .ok (.iload_n 2, 1) := by decide +kernel
theorem dX12_keyword_419 : decode cX12_keyword 419 = .ok (.ldc2_w 431, 3) := by decide +kernel
theorem dX12_keyword_422 : decode cX12_keyword 422 = .ok (.lconst 0, 1) := by decide +kernel
theorem dX12_keyword_423 : decode cX12_keyword 423 = .ok (.invokevirtual 377, 3) := by decide +kernel
theorem dX12_keyword_426 : decode cX12_keyword 426 = .ok (.ifCond .eq 6, 3) := by decide +kernel
theorem dX12_keyword_429 : decode cX12_keyword 429 = .ok (.bipush 66, 2) := by decide +kernel
theorem dX12_keyword_431 : decode cX12_keyword 431 = .ok (.ireturn, 1) := by decide +kernel
theorem dX12_keyword_432 : decode cX12_keyword 432 = .ok (.aload_n 0, 1) := by decide +kernel
theorem dX12_keyword_433 : decode cX12_keyword 433 = .ok (.iload_n 1, 1) := by decide +kernel
theorem dX12_keyword_434 : decode cX12_keyword 434 = .ok (.iload_n 2, 1) := by decide +kernel
theorem dX12_keyword_435 : decode cX12_keyword 435 = .ok (.ldc2_w 433, 3) := by decide +kernel
theorem dX12_keyword_438 : decode cX12_keyword 438 = .ok (.lconst 0, 1) := by decide +kernel
theorem dX12_keyword_439 : decode cX12_keyword 439 = .ok (.invokevirtual 377, 3) := by decide +kernel
theorem dX12_keyword_442 : decode cX12_keyword 442 = .ok (.ifCond .eq 6, 3) := by decide +kernel
theorem dX12_keyword_445 : decode cX12_keyword 445 = .ok (.bipush 67, 2) := by decide +kernel
theorem dX12_keyword_447 : decode cX12_keyword 447 = .ok (.ireturn, 1) := by decide +kernel
theorem dX12_keyword_448 : decode cX12_keyword 448 = .ok (.aload_n 0, 1) := by decide +kernel
theorem dX12_keyword_449 : decode cX12_keyword 449 = .ok (.iload_n 1, 1) := by decide +kernel
theorem dX12_keyword_450 : decode cX12_keyword 450 = .ok (.iload_n 2, 1) := by decide +kernel
theorem dX12_keyword_451 : decode cX12_keyword 451 = .ok (.ldc2_w 435, 3) := by decide +kernel
theorem dX12_keyword_454 : decode cX12_keyword 454 = .ok (.lconst 0, 1) := by decide +kernel
theorem dX12_keyword_455 : decode cX12_keyword 455 = .ok (.invokevirtual 377, 3) := by decide +kernel
theorem dX12_keyword_458 : decode cX12_keyword 458 = .ok (.ifCond .eq 6, 3) := by decide +kernel
theorem dX12_keyword_461 : decode cX12_keyword 461 = .ok (.bipush 68, 2) := by decide +kernel
theorem dX12_keyword_463 : decode cX12_keyword 463 = .ok (.ireturn, 1) := by decide +kernel
theorem dX12_keyword_464 : decode cX12_keyword 464 = .ok (.aload_n 0, 1) := by decide +kernel
theorem dX12_keyword_465 : decode cX12_keyword 465 = .ok (.iload_n 1, 1) := by decide +kernel
theorem dX12_keyword_466 : decode cX12_keyword 466 = .ok (.iload_n 2, 1) := by decide +kernel
theorem dX12_keyword_467 : decode cX12_keyword 467 = .ok (.ldc2_w 437, 3) := by decide +kernel
theorem dX12_keyword_470 : decode cX12_keyword 470 = .ok (.ldc2_w 439, 3) := by decide +kernel
theorem dX12_keyword_473 : decode cX12_keyword 473 = .ok (.invokevirtual 377, 3) := by decide +kernel
theorem dX12_keyword_476 : decode cX12_keyword 476 = .ok (.ifCond .eq 6, 3) := by decide +kernel
theorem dX12_keyword_479 : decode cX12_keyword 479 = .ok (.bipush 69, 2) := by decide +kernel
theorem dX12_keyword_481 : decode cX12_keyword 481 = .ok (.ireturn, 1) := by decide +kernel
theorem dX12_keyword_482 : decode cX12_keyword 482 = .ok (.aload_n 0, 1) := by decide +kernel
theorem dX12_keyword_483 : decode cX12_keyword 483 = .ok (.iload_n 1, 1) := by decide +kernel
theorem dX12_keyword_484 : decode cX12_keyword 484 = .ok (.iload_n 2, 1) := by decide +kernel
theorem dX12_keyword_485 : decode cX12_keyword 485 = .ok (.ldc2_w 441, 3) := by decide +kernel
theorem dX12_keyword_488 : decode cX12_keyword 488 = .ok (.ldc2_w 443, 3) := by decide +kernel
theorem dX12_keyword_491 : decode cX12_keyword 491 = .ok (.invokevirtual 377, 3) := by decide +kernel
theorem dX12_keyword_494 : decode cX12_keyword 494 = .ok (.ifCond .eq 6, 3) := by decide +kernel
theorem dX12_keyword_497 : decode cX12_keyword 497 = .ok (.bipush 70, 2) := by decide +kernel
theorem dX12_keyword_499 : decode cX12_keyword 499 = .ok (.ireturn, 1) := by decide +kernel
theorem dX12_keyword_500 : decode cX12_keyword 500 = .ok (.aload_n 0, 1) := by decide +kernel
theorem dX12_keyword_501 : decode cX12_keyword 501 = .ok (.iload_n 1, 1) := by decide +kernel
theorem dX12_keyword_502 : decode cX12_keyword 502 = .ok (.iload_n 2, 1) := by decide +kernel
theorem dX12_keyword_503 : decode cX12_keyword 503 = .ok (.ldc2_w 445, 3) := by decide +kernel
theorem dX12_keyword_506 : decode cX12_keyword 506 = .ok (.lconst 0, 1) := by decide +kernel
theorem dX12_keyword_507 : decode cX12_keyword 507 = .ok (.invokevirtual 377, 3) := by decide +kernel
theorem dX12_keyword_510 : decode cX12_keyword 510 = .ok (.ifCond .eq 6, 3) := by decide +kernel
theorem dX12_keyword_513 : decode cX12_keyword 513 = .ok (.bipush 71, 2) := by decide +kernel
theorem dX12_keyword_515 : decode cX12_keyword 515 = .ok (.ireturn, 1) := by decide +kernel
theorem dX12_keyword_516 : decode cX12_keyword 516 = .ok (.aload_n 0, 1) := by decide +kernel
theorem dX12_keyword_517 : decode cX12_keyword 517 = .ok (.iload_n 1, 1) := by decide +kernel
theorem dX12_keyword_518 : decode cX12_keyword 518 = .ok (.iload_n 2, 1) := by decide +kernel
theorem dX12_keyword_519 : decode cX12_keyword 519 = .ok (.ldc2_w 447, 3) := by decide +kernel
theorem dX12_keyword_522 : decode cX12_keyword 522 = .ok (.lconst 0, 1) := by decide +kernel
theorem dX12_keyword_523 : decode cX12_keyword 523 = .ok (.invokevirtual 377, 3) := by decide +kernel
theorem dX12_keyword_526 : decode cX12_keyword 526 = .ok (.ifCond .eq 6, 3) := by decide +kernel
theorem dX12_keyword_529 : decode cX12_keyword 529 = .ok (.bipush 72, 2) := by decide +kernel
theorem dX12_keyword_531 : decode cX12_keyword 531 = .ok (.ireturn, 1) := by decide +kernel
theorem dX12_keyword_532 : decode cX12_keyword 532 = .ok (.aload_n 0, 1) := by decide +kernel
theorem dX12_keyword_533 : decode cX12_keyword 533 = .ok (.iload_n 1, 1) := by decide +kernel
theorem dX12_keyword_534 : decode cX12_keyword 534 = .ok (.iload_n 2, 1) := by decide +kernel
theorem dX12_keyword_535 : decode cX12_keyword 535 = .ok (.ldc2_w 449, 3) := by decide +kernel
theorem dX12_keyword_538 : decode cX12_keyword 538 = .ok (.lconst 0, 1) := by decide +kernel
theorem dX12_keyword_539 : decode cX12_keyword 539 = .ok (.invokevirtual 377, 3) := by decide +kernel
theorem dX12_keyword_542 : decode cX12_keyword 542 = .ok (.ifCond .eq 6, 3) := by decide +kernel
theorem dX12_keyword_545 : decode cX12_keyword 545 = .ok (.bipush 73, 2) := by decide +kernel
theorem dX12_keyword_547 : decode cX12_keyword 547 = .ok (.ireturn, 1) := by decide +kernel
theorem dX12_keyword_548 : decode cX12_keyword 548 = .ok (.aload_n 0, 1) := by decide +kernel
theorem dX12_keyword_549 : decode cX12_keyword 549 = .ok (.iload_n 1, 1) := by decide +kernel
theorem dX12_keyword_550 : decode cX12_keyword 550 = .ok (.iload_n 2, 1) := by decide +kernel
theorem dX12_keyword_551 : decode cX12_keyword 551 = .ok (.ldc2_w 451, 3) := by decide +kernel
theorem dX12_keyword_554 : decode cX12_keyword 554 = .ok (.lconst 0, 1) := by decide +kernel
theorem dX12_keyword_555 : decode cX12_keyword 555 = .ok (.invokevirtual 377, 3) := by decide +kernel
theorem dX12_keyword_558 : decode cX12_keyword 558 = .ok (.ifCond .eq 6, 3) := by decide +kernel
theorem dX12_keyword_561 : decode cX12_keyword 561 = .ok (.bipush 74, 2) := by decide +kernel
theorem dX12_keyword_563 : decode cX12_keyword 563 = .ok (.ireturn, 1) := by decide +kernel
theorem dX12_keyword_564 : decode cX12_keyword 564 = .ok (.aload_n 0, 1) := by decide +kernel
theorem dX12_keyword_565 : decode cX12_keyword 565 = .ok (.iload_n 1, 1) := by decide +kernel
theorem dX12_keyword_566 : decode cX12_keyword 566 = .ok (.iload_n 2, 1) := by decide +kernel
theorem dX12_keyword_567 : decode cX12_keyword 567 = .ok (.ldc2_w 453, 3) := by decide +kernel
theorem dX12_keyword_570 : decode cX12_keyword 570 = .ok (.lconst 0, 1) := by decide +kernel
theorem dX12_keyword_571 : decode cX12_keyword 571 = .ok (.invokevirtual 377, 3) := by decide +kernel
theorem dX12_keyword_574 : decode cX12_keyword 574 = .ok (.ifCond .eq 6, 3) := by decide +kernel
theorem dX12_keyword_577 : decode cX12_keyword 577 = .ok (.bipush 75, 2) := by decide +kernel
theorem dX12_keyword_579 : decode cX12_keyword 579 = .ok (.ireturn, 1) := by decide +kernel
theorem dX12_keyword_580 : decode cX12_keyword 580 = .ok (.aload_n 0, 1) := by decide +kernel
theorem dX12_keyword_581 : decode cX12_keyword 581 = .ok (.iload_n 1, 1) := by decide +kernel
theorem dX12_keyword_582 : decode cX12_keyword 582 = .ok (.iload_n 2, 1) := by decide +kernel
theorem dX12_keyword_583 : decode cX12_keyword 583 = .ok (.ldc2_w 455, 3) := by decide +kernel
theorem dX12_keyword_586 : decode cX12_keyword 586 = .ok (.lconst 0, 1) := by decide +kernel
theorem dX12_keyword_587 : decode cX12_keyword 587 = .ok (.invokevirtual 377, 3) := by decide +kernel
theorem dX12_keyword_590 : decode cX12_keyword 590 = .ok (.ifCond .eq 6, 3) := by decide +kernel
theorem dX12_keyword_593 : decode cX12_keyword 593 = .ok (.bipush 76, 2) := by decide +kernel
theorem dX12_keyword_595 : decode cX12_keyword 595 = .ok (.ireturn, 1) := by decide +kernel
theorem dX12_keyword_596 : decode cX12_keyword 596 = .ok (.aload_n 0, 1) := by decide +kernel
theorem dX12_keyword_597 : decode cX12_keyword 597 = .ok (.iload_n 1, 1) := by decide +kernel
theorem dX12_keyword_598 : decode cX12_keyword 598 = .ok (.iload_n 2, 1) := by decide +kernel
theorem dX12_keyword_599 : decode cX12_keyword 599 = .ok (.ldc2_w 457, 3) := by decide +kernel
theorem dX12_keyword_602 : decode cX12_keyword 602 = .ok (.lconst 0, 1) := by decide +kernel
theorem dX12_keyword_603 : decode cX12_keyword 603 = .ok (.invokevirtual 377, 3) := by decide +kernel
theorem dX12_keyword_606 : decode cX12_keyword 606 = .ok (.ifCond .eq 6, 3) := by decide +kernel
theorem dX12_keyword_609 : decode cX12_keyword 609 = .ok (.bipush 77, 2) := by decide +kernel
theorem dX12_keyword_611 : decode cX12_keyword 611 = .ok (.ireturn, 1) := by decide +kernel
theorem dX12_keyword_612 : decode cX12_keyword 612 = .ok (.aload_n 0, 1) := by decide +kernel
theorem dX12_keyword_613 : decode cX12_keyword 613 = .ok (.iload_n 1, 1) := by decide +kernel
theorem dX12_keyword_614 : decode cX12_keyword 614 = .ok (.iload_n 2, 1) := by decide +kernel
theorem dX12_keyword_615 : decode cX12_keyword 615 = .ok (.ldc2_w 459, 3) := by decide +kernel
theorem dX12_keyword_618 : decode cX12_keyword 618 = .ok (.lconst 0, 1) := by decide +kernel
theorem dX12_keyword_619 : decode cX12_keyword 619 = .ok (.invokevirtual 377, 3) := by decide +kernel
theorem dX12_keyword_622 : decode cX12_keyword 622 = .ok (.ifCond .eq 6, 3) := by decide +kernel
theorem dX12_keyword_625 : decode cX12_keyword 625 = .ok (.bipush 78, 2) := by decide +kernel
theorem dX12_keyword_627 : decode cX12_keyword 627 = .ok (.ireturn, 1) := by decide +kernel
theorem dX12_keyword_628 : decode cX12_keyword 628 = .ok (.aload_n 0, 1) := by decide +kernel
theorem dX12_keyword_629 : decode cX12_keyword 629 = .ok (.iload_n 1, 1) := by decide +kernel
theorem dX12_keyword_630 : decode cX12_keyword 630 = .ok (.iload_n 2, 1) := by decide +kernel
theorem dX12_keyword_631 : decode cX12_keyword 631 = .ok (.ldc2_w 461, 3) := by decide +kernel
theorem dX12_keyword_634 : decode cX12_keyword 634 = .ok (.lconst 0, 1) := by decide +kernel
theorem dX12_keyword_635 : decode cX12_keyword 635 = .ok (.invokevirtual 377, 3) := by decide +kernel
theorem dX12_keyword_638 : decode cX12_keyword 638 = .ok (.ifCond .eq 6, 3) := by decide +kernel
theorem dX12_keyword_641 : decode cX12_keyword 641 = .ok (.bipush 48, 2) := by decide +kernel
theorem dX12_keyword_643 : decode cX12_keyword 643 = .ok (.ireturn, 1) := by decide +kernel
theorem dX12_keyword_644 : decode cX12_keyword 644 = .ok (.aload_n 0, 1) := by decide +kernel
theorem dX12_keyword_645 : decode cX12_keyword 645 = .ok (.iload_n 1, 1) := by decide +kernel
theorem dX12_keyword_646 : decode cX12_keyword 646 = .ok (.iload_n 2, 1) := by decide +kernel
theorem dX12_keyword_647 : decode cX12_keyword 647 = .ok (.ldc2_w 463, 3) := by decide +kernel
theorem dX12_keyword_650 : decode cX12_keyword 650 = .ok (.lconst 0, 1) := by decide +kernel
theorem dX12_keyword_651 : decode cX12_keyword 651 = .ok (.invokevirtual 377, 3) := by decide +kernel
theorem dX12_keyword_654 : decode cX12_keyword 654 = .ok (.ifCond .eq 6, 3) := by decide +kernel
theorem dX12_keyword_657 : decode cX12_keyword 657 = .ok (.bipush 51, 2) := by decide +kernel
theorem dX12_keyword_659 : decode cX12_keyword 659 = .ok (.ireturn, 1) := by decide +kernel
theorem dX12_keyword_660 : decode cX12_keyword 660 = .ok (.aload_n 0, 1) := by decide +kernel
theorem dX12_keyword_661 : decode cX12_keyword 661 = .ok (.iload_n 1, 1) := by decide +kernel
theorem dX12_keyword_662 : decode cX12_keyword 662 = .ok (.iload_n 2, 1) := by decide +kernel
theorem dX12_keyword_663 : decode cX12_keyword 663 = .ok (.ldc2_w 465, 3) := by decide +kernel
theorem dX12_keyword_666 : decode cX12_keyword 666 = .ok (.lconst 0, 1) := by decide +kernel
theorem dX12_keyword_667 : decode cX12_keyword 667 = .ok (.invokevirtual 377, 3) := by decide +kernel
theorem dX12_keyword_670 : decode cX12_keyword 670 = .ok (.ifCond .eq 6, 3) := by decide +kernel
theorem dX12_keyword_673 : decode cX12_keyword 673 = .ok (.bipush 33, 2) := by decide +kernel
theorem dX12_keyword_675 : decode cX12_keyword 675 = .ok (.ireturn, 1) := by decide +kernel
theorem dX12_keyword_676 : decode cX12_keyword 676 = .ok (.iconst 1, 1) := by decide +kernel
theorem dX12_keyword_677 : decode cX12_keyword 677 = .ok (.ireturn, 1) := by decide +kernel
def wr_keyword (s0 : zS) (a0 : Int) (a1 : Int) (Q : Int → zS → Prop) : Prop :=
  wr_isText s0 a0 a1 78393072828748 0 (fun r1 s2 => ((r1 = 0 → wr_isText s2 a0 a1 5566816691025171284 0 (fun r9 s10 => ((r9 = 0 → wr_isText s10 a0 a1 91621338401091 0 (fun r17 s18 => ((r17 = 0 → wr_isText s18 a0 a1 4998484 0 (fun r25 s26 => ((r25 = 0 → wr_isText s26 a0 a1 4279876 0 (fun r33 s34 => ((r33 = 0 → wr_isText s34 a0 a1 16965 0 (fun r41 s42 => ((r41 = 0 → wr_isText s42 a0 a1 5653827 0 (fun r49 s50 => ((r49 = 0 → wr_isText s50 a0 a1 18758 0 (fun r57 s58 => ((r57 = 0 → wr_isText s58 a0 a1 17487 0 (fun r65 s66 => ((r65 = 0 → wr_isText s66 a0 a1 93794775421779 0 (fun r73 s74 => ((r73 = 0 → wr_isText s74 a0 a1 1413829460 0 (fun r81 s82 => ((r81 = 0 → wr_isText s82 a0 a1 20306 0 (fun r89 s90 => ((r89 = 0 → wr_isText s90 a0 a1 374874917957 0 (fun r97 s98 => ((r97 = 0 → wr_isText s98 a0 a1 366386366796 0 (fun r105 s106 => ((r105 = 0 → wr_isText s106 a0 a1 4607826 0 (fun r113 s114 => ((r113 = 0 → wr_isText s114 a0 a1 21583 0 (fun r121 s122 => ((r121 = 0 → wr_isText s122 a0 a1 16985 0 (fun r129 s130 => ((r129 = 0 → wr_isText s130 a0 a1 6005349254376738638 0 (fun r137 s138 => ((r137 = 0 → wr_isText s138 a0 a1 1229870159 0 (fun r145 s146 => ((r145 = 0 → wr_isText s146 a0 a1 1128354629 0 (fun r153 s154 => ((r153 = 0 → wr_isText s154 a0 a1 19216466462461012 0 (fun r161 s162 => ((r161 = 0 → wr_isText s162 a0 a1 284848111947 0 (fun r169 s170 => ((r169 = 0 → wr_isText s170 a0 a1 1280266064 0 (fun r177 s178 => ((r177 = 0 → wr_isText s178 a0 a1 19507828486132549 0 (fun r185 s186 => ((r185 = 0 → wr_isText s186 a0 a1 90457721098830 0 (fun r193 s194 => ((r193 = 0 → wr_isText s194 a0 a1 5928236110321043795 0 (fun r201 s202 => ((r201 = 0 → wr_isText s202 a0 a1 77280659985224 0 (fun r209 s210 => ((r209 = 0 → wr_isText s210 a0 a1 1196381263 0 (fun r217 s218 => ((r217 = 0 → wr_isText s218 a0 a1 90457652937044 0 (fun r225 s226 => ((r225 = 0 → wr_isText s226 a0 a1 5928232742882137928 4803653 (fun r233 s234 => ((r233 = 0 → wr_isText s234 a0 a1 5928232742882137422 5523788 (fun r241 s242 => ((r241 = 0 → wr_isText s242 a0 a1 4542806 0 (fun r249 s250 => ((r249 = 0 → wr_isText s250 a0 a1 1313165654 0 (fun r257 s258 => ((r257 = 0 → wr_isText s258 a0 a1 5391693 0 (fun r265 s266 => ((r265 = 0 → wr_isText s266 a0 a1 1414681925 0 (fun r273 s274 => ((r273 = 0 → wr_isText s274 a0 a1 301743231813 0 (fun r281 s282 => ((r281 = 0 → wr_isText s282 a0 a1 370462707526 0 (fun r289 s290 => ((r289 = 0 → wr_isText s290 a0 a1 361872116805 0 (fun r297 s298 => ((r297 = 0 → wr_isText s298 a0 a1 4670804 0 (fun r305 s306 => ((r305 = 0 → wr_isText s306 a0 a1 1414022478 0 (fun r313 s314 => ((r313 = 0 → wr_isText s314 a0 a1 1162629957 0 (fun r321 s322 => ((r321 = 0 → wr_isText s322 a0 a1 5132116 0 (fun r329 s330 => ((r329 = 0 → Q 1 s330) ∧ (¬ r329 = 0 → Q 33 s330)))) ∧ (¬ r321 = 0 → Q 51 s322)))) ∧ (¬ r313 = 0 → Q 48 s314)))) ∧ (¬ r305 = 0 → Q 78 s306)))) ∧ (¬ r297 = 0 → Q 77 s298)))) ∧ (¬ r289 = 0 → Q 76 s290)))) ∧ (¬ r281 = 0 → Q 75 s282)))) ∧ (¬ r273 = 0 → Q 74 s274)))) ∧ (¬ r265 = 0 → Q 73 s266)))) ∧ (¬ r257 = 0 → Q 72 s258)))) ∧ (¬ r249 = 0 → Q 71 s250)))) ∧ (¬ r241 = 0 → Q 70 s242)))) ∧ (¬ r233 = 0 → Q 69 s234)))) ∧ (¬ r225 = 0 → Q 68 s226)))) ∧ (¬ r217 = 0 → Q 67 s218)))) ∧ (¬ r209 = 0 → Q 66 s210)))) ∧ (¬ r201 = 0 → Q 65 s202)))) ∧ (¬ r193 = 0 → Q 64 s194)))) ∧ (¬ r185 = 0 → Q 63 s186)))) ∧ (¬ r177 = 0 → Q 62 s178)))) ∧ (¬ r169 = 0 → Q 61 s170)))) ∧ (¬ r161 = 0 → Q 60 s162)))) ∧ (¬ r153 = 0 → Q 59 s154)))) ∧ (¬ r145 = 0 → Q 58 s146)))) ∧ (¬ r137 = 0 → Q 57 s138)))) ∧ (¬ r129 = 0 → Q 56 s130)))) ∧ (¬ r121 = 0 → Q 55 s122)))) ∧ (¬ r113 = 0 → Q 54 s114)))) ∧ (¬ r105 = 0 → Q 53 s106)))) ∧ (¬ r97 = 0 → Q 52 s98)))) ∧ (¬ r89 = 0 → Q 51 s90)))) ∧ (¬ r81 = 0 → Q 50 s82)))) ∧ (¬ r73 = 0 → Q 49 s74)))) ∧ (¬ r65 = 0 → Q 48 s66)))) ∧ (¬ r57 = 0 → Q 47 s58)))) ∧ (¬ r49 = 0 → Q 46 s50)))) ∧ (¬ r41 = 0 → Q 45 s42)))) ∧ (¬ r33 = 0 → Q 44 s34)))) ∧ (¬ r25 = 0 → Q 43 s26)))) ∧ (¬ r17 = 0 → Q 42 s18)))) ∧ (¬ r9 = 0 → Q 41 s10)))) ∧ (¬ r1 = 0 → Q 40 s2)))
set_option maxHeartbeats 4000000 in
set_option maxRecDepth 100000 in
theorem rm_keyword (l : Launch) (d : gD) (b : Nat) {t : Nat} {T : Nat → Nat} {F : gM} {s0 : zS} {a0 : Int} {a1 : Int} (Ra0 : zR a0) (Ra1 : zR a1) {Q : Int → zS → Prop} (hZ : zZ d t T F F s0) (hw : wr_keyword s0 a0 a1 Q) : gMi l d b yX12_keyword cX12_keyword 3 .int 1 0 0 F [.ref t, .int (zI a0), .int (zI a1)] (zPi d t T F Q) := by
  refine gM_of2 rfl (nL := 3) (Nat.le_of_ble_eq_true rfl) ?_
  intro X hX hC; subst hX
  show gG X d b (zQi X d b t T F Q) F 0 0 0 [some (.ref t), some (.int (zI a0)), some (.int (zI a1))] []
  unfold wr_keyword at hw
  refine g_aload_n hC dX12_keyword_0 rfl ?_
  refine g_iload_n hC dX12_keyword_1 rfl ?_
  refine g_iload_n hC dX12_keyword_2 rfl ?_
  refine zr_ldc2 (e := 78393072828748) hC dX12_keyword_3 kw_2356 (by decide) ?_
  refine g_lconst (v := zJ 0) hC dX12_keyword_6 rfl ?_
  refine zr_callVi (As := [.int (zI a0), .int (zI a1), .long (zJ 78393072828748), .long (zJ 0)]) hC hZ rfl (rm_isText X.la d b Ra0 Ra1 (by decide) (by decide) hZ.rf hw) cl_X12_377 rfl rfl (Nat.le_of_ble_eq_true rfl) ⟨Nat.le_of_ble_eq_true rfl, Nat.le_of_ble_eq_true rfl⟩ dX12_keyword_7 (fun r1 s2 F3 R4 hZ5 h6 => ?_)
  refine zr_if_eq (tgt := 16) hC R4 dX12_keyword_10 (by decide) (fun c7 => ?_) (fun c7 => ?_)
  · have h8 := h6.1 c7
    refine g_aload_n hC dX12_keyword_16 rfl ?_
    refine g_iload_n hC dX12_keyword_17 rfl ?_
    refine g_iload_n hC dX12_keyword_18 rfl ?_
    refine zr_ldc2 (e := 5566816691025171284) hC dX12_keyword_19 kw_2361 (by decide) ?_
    refine g_lconst (v := zJ 0) hC dX12_keyword_22 rfl ?_
    refine zr_callVi (As := [.int (zI a0), .int (zI a1), .long (zJ 5566816691025171284), .long (zJ 0)]) hC hZ5 rfl (rm_isText X.la d b Ra0 Ra1 (by decide) (by decide) hZ5.rf h8) cl_X12_377 rfl rfl (Nat.le_of_ble_eq_true rfl) ⟨Nat.le_of_ble_eq_true rfl, Nat.le_of_ble_eq_true rfl⟩ dX12_keyword_23 (fun r9 s10 F11 R12 hZ13 h14 => ?_)
    refine zr_if_eq (tgt := 32) hC R12 dX12_keyword_26 (by decide) (fun c15 => ?_) (fun c15 => ?_)
    · have h16 := h14.1 c15
      refine g_aload_n hC dX12_keyword_32 rfl ?_
      refine g_iload_n hC dX12_keyword_33 rfl ?_
      refine g_iload_n hC dX12_keyword_34 rfl ?_
      refine zr_ldc2 (e := 91621338401091) hC dX12_keyword_35 kw_2362 (by decide) ?_
      refine g_lconst (v := zJ 0) hC dX12_keyword_38 rfl ?_
      refine zr_callVi (As := [.int (zI a0), .int (zI a1), .long (zJ 91621338401091), .long (zJ 0)]) hC hZ13 rfl (rm_isText X.la d b Ra0 Ra1 (by decide) (by decide) hZ13.rf h16) cl_X12_377 rfl rfl (Nat.le_of_ble_eq_true rfl) ⟨Nat.le_of_ble_eq_true rfl, Nat.le_of_ble_eq_true rfl⟩ dX12_keyword_39 (fun r17 s18 F19 R20 hZ21 h22 => ?_)
      refine zr_if_eq (tgt := 48) hC R20 dX12_keyword_42 (by decide) (fun c23 => ?_) (fun c23 => ?_)
      · have h24 := h22.1 c23
        refine g_aload_n hC dX12_keyword_48 rfl ?_
        refine g_iload_n hC dX12_keyword_49 rfl ?_
        refine g_iload_n hC dX12_keyword_50 rfl ?_
        refine zr_ldc2 (e := 4998484) hC dX12_keyword_51 kw_2363 (by decide) ?_
        refine g_lconst (v := zJ 0) hC dX12_keyword_54 rfl ?_
        refine zr_callVi (As := [.int (zI a0), .int (zI a1), .long (zJ 4998484), .long (zJ 0)]) hC hZ21 rfl (rm_isText X.la d b Ra0 Ra1 (by decide) (by decide) hZ21.rf h24) cl_X12_377 rfl rfl (Nat.le_of_ble_eq_true rfl) ⟨Nat.le_of_ble_eq_true rfl, Nat.le_of_ble_eq_true rfl⟩ dX12_keyword_55 (fun r25 s26 F27 R28 hZ29 h30 => ?_)
        refine zr_if_eq (tgt := 64) hC R28 dX12_keyword_58 (by decide) (fun c31 => ?_) (fun c31 => ?_)
        · have h32 := h30.1 c31
          refine g_aload_n hC dX12_keyword_64 rfl ?_
          refine g_iload_n hC dX12_keyword_65 rfl ?_
          refine g_iload_n hC dX12_keyword_66 rfl ?_
          refine zr_ldc2 (e := 4279876) hC dX12_keyword_67 kw_2364 (by decide) ?_
          refine g_lconst (v := zJ 0) hC dX12_keyword_70 rfl ?_
          refine zr_callVi (As := [.int (zI a0), .int (zI a1), .long (zJ 4279876), .long (zJ 0)]) hC hZ29 rfl (rm_isText X.la d b Ra0 Ra1 (by decide) (by decide) hZ29.rf h32) cl_X12_377 rfl rfl (Nat.le_of_ble_eq_true rfl) ⟨Nat.le_of_ble_eq_true rfl, Nat.le_of_ble_eq_true rfl⟩ dX12_keyword_71 (fun r33 s34 F35 R36 hZ37 h38 => ?_)
          refine zr_if_eq (tgt := 80) hC R36 dX12_keyword_74 (by decide) (fun c39 => ?_) (fun c39 => ?_)
          · have h40 := h38.1 c39
            refine g_aload_n hC dX12_keyword_80 rfl ?_
            refine g_iload_n hC dX12_keyword_81 rfl ?_
            refine g_iload_n hC dX12_keyword_82 rfl ?_
            refine zr_ldc2 (e := 16965) hC dX12_keyword_83 kw_2365 (by decide) ?_
            refine g_lconst (v := zJ 0) hC dX12_keyword_86 rfl ?_
            refine zr_callVi (As := [.int (zI a0), .int (zI a1), .long (zJ 16965), .long (zJ 0)]) hC hZ37 rfl (rm_isText X.la d b Ra0 Ra1 (by decide) (by decide) hZ37.rf h40) cl_X12_377 rfl rfl (Nat.le_of_ble_eq_true rfl) ⟨Nat.le_of_ble_eq_true rfl, Nat.le_of_ble_eq_true rfl⟩ dX12_keyword_87 (fun r41 s42 F43 R44 hZ45 h46 => ?_)
            refine zr_if_eq (tgt := 96) hC R44 dX12_keyword_90 (by decide) (fun c47 => ?_) (fun c47 => ?_)
            · have h48 := h46.1 c47
              refine g_aload_n hC dX12_keyword_96 rfl ?_
              refine g_iload_n hC dX12_keyword_97 rfl ?_
              refine g_iload_n hC dX12_keyword_98 rfl ?_
              refine zr_ldc2 (e := 5653827) hC dX12_keyword_99 kw_2366 (by decide) ?_
              refine g_lconst (v := zJ 0) hC dX12_keyword_102 rfl ?_
              refine zr_callVi (As := [.int (zI a0), .int (zI a1), .long (zJ 5653827), .long (zJ 0)]) hC hZ45 rfl (rm_isText X.la d b Ra0 Ra1 (by decide) (by decide) hZ45.rf h48) cl_X12_377 rfl rfl (Nat.le_of_ble_eq_true rfl) ⟨Nat.le_of_ble_eq_true rfl, Nat.le_of_ble_eq_true rfl⟩ dX12_keyword_103 (fun r49 s50 F51 R52 hZ53 h54 => ?_)
              refine zr_if_eq (tgt := 112) hC R52 dX12_keyword_106 (by decide) (fun c55 => ?_) (fun c55 => ?_)
              · have h56 := h54.1 c55
                refine g_aload_n hC dX12_keyword_112 rfl ?_
                refine g_iload_n hC dX12_keyword_113 rfl ?_
                refine g_iload_n hC dX12_keyword_114 rfl ?_
                refine zr_ldc2 (e := 18758) hC dX12_keyword_115 kw_2367 (by decide) ?_
                refine g_lconst (v := zJ 0) hC dX12_keyword_118 rfl ?_
                refine zr_callVi (As := [.int (zI a0), .int (zI a1), .long (zJ 18758), .long (zJ 0)]) hC hZ53 rfl (rm_isText X.la d b Ra0 Ra1 (by decide) (by decide) hZ53.rf h56) cl_X12_377 rfl rfl (Nat.le_of_ble_eq_true rfl) ⟨Nat.le_of_ble_eq_true rfl, Nat.le_of_ble_eq_true rfl⟩ dX12_keyword_119 (fun r57 s58 F59 R60 hZ61 h62 => ?_)
                refine zr_if_eq (tgt := 128) hC R60 dX12_keyword_122 (by decide) (fun c63 => ?_) (fun c63 => ?_)
                · have h64 := h62.1 c63
                  refine g_aload_n hC dX12_keyword_128 rfl ?_
                  refine g_iload_n hC dX12_keyword_129 rfl ?_
                  refine g_iload_n hC dX12_keyword_130 rfl ?_
                  refine zr_ldc2 (e := 17487) hC dX12_keyword_131 kw_2368 (by decide) ?_
                  refine g_lconst (v := zJ 0) hC dX12_keyword_134 rfl ?_
                  refine zr_callVi (As := [.int (zI a0), .int (zI a1), .long (zJ 17487), .long (zJ 0)]) hC hZ61 rfl (rm_isText X.la d b Ra0 Ra1 (by decide) (by decide) hZ61.rf h64) cl_X12_377 rfl rfl (Nat.le_of_ble_eq_true rfl) ⟨Nat.le_of_ble_eq_true rfl, Nat.le_of_ble_eq_true rfl⟩ dX12_keyword_135 (fun r65 s66 F67 R68 hZ69 h70 => ?_)
                  refine zr_if_eq (tgt := 144) hC R68 dX12_keyword_138 (by decide) (fun c71 => ?_) (fun c71 => ?_)
                  · have h72 := h70.1 c71
                    refine g_aload_n hC dX12_keyword_144 rfl ?_
                    refine g_iload_n hC dX12_keyword_145 rfl ?_
                    refine g_iload_n hC dX12_keyword_146 rfl ?_
                    refine zr_ldc2 (e := 93794775421779) hC dX12_keyword_147 kw_2369 (by decide) ?_
                    refine g_lconst (v := zJ 0) hC dX12_keyword_150 rfl ?_
                    refine zr_callVi (As := [.int (zI a0), .int (zI a1), .long (zJ 93794775421779), .long (zJ 0)]) hC hZ69 rfl (rm_isText X.la d b Ra0 Ra1 (by decide) (by decide) hZ69.rf h72) cl_X12_377 rfl rfl (Nat.le_of_ble_eq_true rfl) ⟨Nat.le_of_ble_eq_true rfl, Nat.le_of_ble_eq_true rfl⟩ dX12_keyword_151 (fun r73 s74 F75 R76 hZ77 h78 => ?_)
                    refine zr_if_eq (tgt := 160) hC R76 dX12_keyword_154 (by decide) (fun c79 => ?_) (fun c79 => ?_)
                    · have h80 := h78.1 c79
                      refine g_aload_n hC dX12_keyword_160 rfl ?_
                      refine g_iload_n hC dX12_keyword_161 rfl ?_
                      refine g_iload_n hC dX12_keyword_162 rfl ?_
                      refine zr_ldc2 (e := 1413829460) hC dX12_keyword_163 kw_2370 (by decide) ?_
                      refine g_lconst (v := zJ 0) hC dX12_keyword_166 rfl ?_
                      refine zr_callVi (As := [.int (zI a0), .int (zI a1), .long (zJ 1413829460), .long (zJ 0)]) hC hZ77 rfl (rm_isText X.la d b Ra0 Ra1 (by decide) (by decide) hZ77.rf h80) cl_X12_377 rfl rfl (Nat.le_of_ble_eq_true rfl) ⟨Nat.le_of_ble_eq_true rfl, Nat.le_of_ble_eq_true rfl⟩ dX12_keyword_167 (fun r81 s82 F83 R84 hZ85 h86 => ?_)
                      refine zr_if_eq (tgt := 176) hC R84 dX12_keyword_170 (by decide) (fun c87 => ?_) (fun c87 => ?_)
                      · have h88 := h86.1 c87
                        refine g_aload_n hC dX12_keyword_176 rfl ?_
                        refine g_iload_n hC dX12_keyword_177 rfl ?_
                        refine g_iload_n hC dX12_keyword_178 rfl ?_
                        refine zr_ldc2 (e := 20306) hC dX12_keyword_179 kw_2371 (by decide) ?_
                        refine g_lconst (v := zJ 0) hC dX12_keyword_182 rfl ?_
                        refine zr_callVi (As := [.int (zI a0), .int (zI a1), .long (zJ 20306), .long (zJ 0)]) hC hZ85 rfl (rm_isText X.la d b Ra0 Ra1 (by decide) (by decide) hZ85.rf h88) cl_X12_377 rfl rfl (Nat.le_of_ble_eq_true rfl) ⟨Nat.le_of_ble_eq_true rfl, Nat.le_of_ble_eq_true rfl⟩ dX12_keyword_183 (fun r89 s90 F91 R92 hZ93 h94 => ?_)
                        refine zr_if_eq (tgt := 192) hC R92 dX12_keyword_186 (by decide) (fun c95 => ?_) (fun c95 => ?_)
                        · have h96 := h94.1 c95
                          refine g_aload_n hC dX12_keyword_192 rfl ?_
                          refine g_iload_n hC dX12_keyword_193 rfl ?_
                          refine g_iload_n hC dX12_keyword_194 rfl ?_
                          refine zr_ldc2 (e := 374874917957) hC dX12_keyword_195 kw_2372 (by decide) ?_
                          refine g_lconst (v := zJ 0) hC dX12_keyword_198 rfl ?_
                          refine zr_callVi (As := [.int (zI a0), .int (zI a1), .long (zJ 374874917957), .long (zJ 0)]) hC hZ93 rfl (rm_isText X.la d b Ra0 Ra1 (by decide) (by decide) hZ93.rf h96) cl_X12_377 rfl rfl (Nat.le_of_ble_eq_true rfl) ⟨Nat.le_of_ble_eq_true rfl, Nat.le_of_ble_eq_true rfl⟩ dX12_keyword_199 (fun r97 s98 F99 R100 hZ101 h102 => ?_)
                          refine zr_if_eq (tgt := 208) hC R100 dX12_keyword_202 (by decide) (fun c103 => ?_) (fun c103 => ?_)
                          · have h104 := h102.1 c103
                            refine g_aload_n hC dX12_keyword_208 rfl ?_
                            refine g_iload_n hC dX12_keyword_209 rfl ?_
                            refine g_iload_n hC dX12_keyword_210 rfl ?_
                            refine zr_ldc2 (e := 366386366796) hC dX12_keyword_211 kw_2373 (by decide) ?_
                            refine g_lconst (v := zJ 0) hC dX12_keyword_214 rfl ?_
                            refine zr_callVi (As := [.int (zI a0), .int (zI a1), .long (zJ 366386366796), .long (zJ 0)]) hC hZ101 rfl (rm_isText X.la d b Ra0 Ra1 (by decide) (by decide) hZ101.rf h104) cl_X12_377 rfl rfl (Nat.le_of_ble_eq_true rfl) ⟨Nat.le_of_ble_eq_true rfl, Nat.le_of_ble_eq_true rfl⟩ dX12_keyword_215 (fun r105 s106 F107 R108 hZ109 h110 => ?_)
                            refine zr_if_eq (tgt := 224) hC R108 dX12_keyword_218 (by decide) (fun c111 => ?_) (fun c111 => ?_)
                            · have h112 := h110.1 c111
                              refine g_aload_n hC dX12_keyword_224 rfl ?_
                              refine g_iload_n hC dX12_keyword_225 rfl ?_
                              refine g_iload_n hC dX12_keyword_226 rfl ?_
                              refine zr_ldc2 (e := 4607826) hC dX12_keyword_227 kw_2374 (by decide) ?_
                              refine g_lconst (v := zJ 0) hC dX12_keyword_230 rfl ?_
                              refine zr_callVi (As := [.int (zI a0), .int (zI a1), .long (zJ 4607826), .long (zJ 0)]) hC hZ109 rfl (rm_isText X.la d b Ra0 Ra1 (by decide) (by decide) hZ109.rf h112) cl_X12_377 rfl rfl (Nat.le_of_ble_eq_true rfl) ⟨Nat.le_of_ble_eq_true rfl, Nat.le_of_ble_eq_true rfl⟩ dX12_keyword_231 (fun r113 s114 F115 R116 hZ117 h118 => ?_)
                              refine zr_if_eq (tgt := 240) hC R116 dX12_keyword_234 (by decide) (fun c119 => ?_) (fun c119 => ?_)
                              · have h120 := h118.1 c119
                                refine g_aload_n hC dX12_keyword_240 rfl ?_
                                refine g_iload_n hC dX12_keyword_241 rfl ?_
                                refine g_iload_n hC dX12_keyword_242 rfl ?_
                                refine zr_ldc2 (e := 21583) hC dX12_keyword_243 kw_2375 (by decide) ?_
                                refine g_lconst (v := zJ 0) hC dX12_keyword_246 rfl ?_
                                refine zr_callVi (As := [.int (zI a0), .int (zI a1), .long (zJ 21583), .long (zJ 0)]) hC hZ117 rfl (rm_isText X.la d b Ra0 Ra1 (by decide) (by decide) hZ117.rf h120) cl_X12_377 rfl rfl (Nat.le_of_ble_eq_true rfl) ⟨Nat.le_of_ble_eq_true rfl, Nat.le_of_ble_eq_true rfl⟩ dX12_keyword_247 (fun r121 s122 F123 R124 hZ125 h126 => ?_)
                                refine zr_if_eq (tgt := 256) hC R124 dX12_keyword_250 (by decide) (fun c127 => ?_) (fun c127 => ?_)
                                · have h128 := h126.1 c127
                                  refine g_aload_n hC dX12_keyword_256 rfl ?_
                                  refine g_iload_n hC dX12_keyword_257 rfl ?_
                                  refine g_iload_n hC dX12_keyword_258 rfl ?_
                                  refine zr_ldc2 (e := 16985) hC dX12_keyword_259 kw_2376 (by decide) ?_
                                  refine g_lconst (v := zJ 0) hC dX12_keyword_262 rfl ?_
                                  refine zr_callVi (As := [.int (zI a0), .int (zI a1), .long (zJ 16985), .long (zJ 0)]) hC hZ125 rfl (rm_isText X.la d b Ra0 Ra1 (by decide) (by decide) hZ125.rf h128) cl_X12_377 rfl rfl (Nat.le_of_ble_eq_true rfl) ⟨Nat.le_of_ble_eq_true rfl, Nat.le_of_ble_eq_true rfl⟩ dX12_keyword_263 (fun r129 s130 F131 R132 hZ133 h134 => ?_)
                                  refine zr_if_eq (tgt := 272) hC R132 dX12_keyword_266 (by decide) (fun c135 => ?_) (fun c135 => ?_)
                                  · have h136 := h134.1 c135
                                    refine g_aload_n hC dX12_keyword_272 rfl ?_
                                    refine g_iload_n hC dX12_keyword_273 rfl ?_
                                    refine g_iload_n hC dX12_keyword_274 rfl ?_
                                    refine zr_ldc2 (e := 6005349254376738638) hC dX12_keyword_275 kw_2377 (by decide) ?_
                                    refine g_lconst (v := zJ 0) hC dX12_keyword_278 rfl ?_
                                    refine zr_callVi (As := [.int (zI a0), .int (zI a1), .long (zJ 6005349254376738638), .long (zJ 0)]) hC hZ133 rfl (rm_isText X.la d b Ra0 Ra1 (by decide) (by decide) hZ133.rf h136) cl_X12_377 rfl rfl (Nat.le_of_ble_eq_true rfl) ⟨Nat.le_of_ble_eq_true rfl, Nat.le_of_ble_eq_true rfl⟩ dX12_keyword_279 (fun r137 s138 F139 R140 hZ141 h142 => ?_)
                                    refine zr_if_eq (tgt := 288) hC R140 dX12_keyword_282 (by decide) (fun c143 => ?_) (fun c143 => ?_)
                                    · have h144 := h142.1 c143
                                      refine g_aload_n hC dX12_keyword_288 rfl ?_
                                      refine g_iload_n hC dX12_keyword_289 rfl ?_
                                      refine g_iload_n hC dX12_keyword_290 rfl ?_
                                      refine zr_ldc2 (e := 1229870159) hC dX12_keyword_291 kw_2378 (by decide) ?_
                                      refine g_lconst (v := zJ 0) hC dX12_keyword_294 rfl ?_
                                      refine zr_callVi (As := [.int (zI a0), .int (zI a1), .long (zJ 1229870159), .long (zJ 0)]) hC hZ141 rfl (rm_isText X.la d b Ra0 Ra1 (by decide) (by decide) hZ141.rf h144) cl_X12_377 rfl rfl (Nat.le_of_ble_eq_true rfl) ⟨Nat.le_of_ble_eq_true rfl, Nat.le_of_ble_eq_true rfl⟩ dX12_keyword_295 (fun r145 s146 F147 R148 hZ149 h150 => ?_)
                                      refine zr_if_eq (tgt := 304) hC R148 dX12_keyword_298 (by decide) (fun c151 => ?_) (fun c151 => ?_)
                                      · have h152 := h150.1 c151
                                        refine g_aload_n hC dX12_keyword_304 rfl ?_
                                        refine g_iload_n hC dX12_keyword_305 rfl ?_
                                        refine g_iload_n hC dX12_keyword_306 rfl ?_
                                        refine zr_ldc2 (e := 1128354629) hC dX12_keyword_307 kw_2379 (by decide) ?_
                                        refine g_lconst (v := zJ 0) hC dX12_keyword_310 rfl ?_
                                        refine zr_callVi (As := [.int (zI a0), .int (zI a1), .long (zJ 1128354629), .long (zJ 0)]) hC hZ149 rfl (rm_isText X.la d b Ra0 Ra1 (by decide) (by decide) hZ149.rf h152) cl_X12_377 rfl rfl (Nat.le_of_ble_eq_true rfl) ⟨Nat.le_of_ble_eq_true rfl, Nat.le_of_ble_eq_true rfl⟩ dX12_keyword_311 (fun r153 s154 F155 R156 hZ157 h158 => ?_)
                                        refine zr_if_eq (tgt := 320) hC R156 dX12_keyword_314 (by decide) (fun c159 => ?_) (fun c159 => ?_)
                                        · have h160 := h158.1 c159
                                          refine g_aload_n hC dX12_keyword_320 rfl ?_
                                          refine g_iload_n hC dX12_keyword_321 rfl ?_
                                          refine g_iload_n hC dX12_keyword_322 rfl ?_
                                          refine zr_ldc2 (e := 19216466462461012) hC dX12_keyword_323 kw_2380 (by decide) ?_
                                          refine g_lconst (v := zJ 0) hC dX12_keyword_326 rfl ?_
                                          refine zr_callVi (As := [.int (zI a0), .int (zI a1), .long (zJ 19216466462461012), .long (zJ 0)]) hC hZ157 rfl (rm_isText X.la d b Ra0 Ra1 (by decide) (by decide) hZ157.rf h160) cl_X12_377 rfl rfl (Nat.le_of_ble_eq_true rfl) ⟨Nat.le_of_ble_eq_true rfl, Nat.le_of_ble_eq_true rfl⟩ dX12_keyword_327 (fun r161 s162 F163 R164 hZ165 h166 => ?_)
                                          refine zr_if_eq (tgt := 336) hC R164 dX12_keyword_330 (by decide) (fun c167 => ?_) (fun c167 => ?_)
                                          · have h168 := h166.1 c167
                                            refine g_aload_n hC dX12_keyword_336 rfl ?_
                                            refine g_iload_n hC dX12_keyword_337 rfl ?_
                                            refine g_iload_n hC dX12_keyword_338 rfl ?_
                                            refine zr_ldc2 (e := 284848111947) hC dX12_keyword_339 kw_2381 (by decide) ?_
                                            refine g_lconst (v := zJ 0) hC dX12_keyword_342 rfl ?_
                                            refine zr_callVi (As := [.int (zI a0), .int (zI a1), .long (zJ 284848111947), .long (zJ 0)]) hC hZ165 rfl (rm_isText X.la d b Ra0 Ra1 (by decide) (by decide) hZ165.rf h168) cl_X12_377 rfl rfl (Nat.le_of_ble_eq_true rfl) ⟨Nat.le_of_ble_eq_true rfl, Nat.le_of_ble_eq_true rfl⟩ dX12_keyword_343 (fun r169 s170 F171 R172 hZ173 h174 => ?_)
                                            refine zr_if_eq (tgt := 352) hC R172 dX12_keyword_346 (by decide) (fun c175 => ?_) (fun c175 => ?_)
                                            · have h176 := h174.1 c175
                                              refine g_aload_n hC dX12_keyword_352 rfl ?_
                                              refine g_iload_n hC dX12_keyword_353 rfl ?_
                                              refine g_iload_n hC dX12_keyword_354 rfl ?_
                                              refine zr_ldc2 (e := 1280266064) hC dX12_keyword_355 kw_2382 (by decide) ?_
                                              refine g_lconst (v := zJ 0) hC dX12_keyword_358 rfl ?_
                                              refine zr_callVi (As := [.int (zI a0), .int (zI a1), .long (zJ 1280266064), .long (zJ 0)]) hC hZ173 rfl (rm_isText X.la d b Ra0 Ra1 (by decide) (by decide) hZ173.rf h176) cl_X12_377 rfl rfl (Nat.le_of_ble_eq_true rfl) ⟨Nat.le_of_ble_eq_true rfl, Nat.le_of_ble_eq_true rfl⟩ dX12_keyword_359 (fun r177 s178 F179 R180 hZ181 h182 => ?_)
                                              refine zr_if_eq (tgt := 368) hC R180 dX12_keyword_362 (by decide) (fun c183 => ?_) (fun c183 => ?_)
                                              · have h184 := h182.1 c183
                                                refine g_aload_n hC dX12_keyword_368 rfl ?_
                                                refine g_iload_n hC dX12_keyword_369 rfl ?_
                                                refine g_iload_n hC dX12_keyword_370 rfl ?_
                                                refine zr_ldc2 (e := 19507828486132549) hC dX12_keyword_371 kw_2383 (by decide) ?_
                                                refine g_lconst (v := zJ 0) hC dX12_keyword_374 rfl ?_
                                                refine zr_callVi (As := [.int (zI a0), .int (zI a1), .long (zJ 19507828486132549), .long (zJ 0)]) hC hZ181 rfl (rm_isText X.la d b Ra0 Ra1 (by decide) (by decide) hZ181.rf h184) cl_X12_377 rfl rfl (Nat.le_of_ble_eq_true rfl) ⟨Nat.le_of_ble_eq_true rfl, Nat.le_of_ble_eq_true rfl⟩ dX12_keyword_375 (fun r185 s186 F187 R188 hZ189 h190 => ?_)
                                                refine zr_if_eq (tgt := 384) hC R188 dX12_keyword_378 (by decide) (fun c191 => ?_) (fun c191 => ?_)
                                                · have h192 := h190.1 c191
                                                  refine g_aload_n hC dX12_keyword_384 rfl ?_
                                                  refine g_iload_n hC dX12_keyword_385 rfl ?_
                                                  refine g_iload_n hC dX12_keyword_386 rfl ?_
                                                  refine zr_ldc2 (e := 90457721098830) hC dX12_keyword_387 kw_2384 (by decide) ?_
                                                  refine g_lconst (v := zJ 0) hC dX12_keyword_390 rfl ?_
                                                  refine zr_callVi (As := [.int (zI a0), .int (zI a1), .long (zJ 90457721098830), .long (zJ 0)]) hC hZ189 rfl (rm_isText X.la d b Ra0 Ra1 (by decide) (by decide) hZ189.rf h192) cl_X12_377 rfl rfl (Nat.le_of_ble_eq_true rfl) ⟨Nat.le_of_ble_eq_true rfl, Nat.le_of_ble_eq_true rfl⟩ dX12_keyword_391 (fun r193 s194 F195 R196 hZ197 h198 => ?_)
                                                  refine zr_if_eq (tgt := 400) hC R196 dX12_keyword_394 (by decide) (fun c199 => ?_) (fun c199 => ?_)
                                                  · have h200 := h198.1 c199
                                                    refine g_aload_n hC dX12_keyword_400 rfl ?_
                                                    refine g_iload_n hC dX12_keyword_401 rfl ?_
                                                    refine g_iload_n hC dX12_keyword_402 rfl ?_
                                                    refine zr_ldc2 (e := 5928236110321043795) hC dX12_keyword_403 kw_2385 (by decide) ?_
                                                    refine g_lconst (v := zJ 0) hC dX12_keyword_406 rfl ?_
                                                    refine zr_callVi (As := [.int (zI a0), .int (zI a1), .long (zJ 5928236110321043795), .long (zJ 0)]) hC hZ197 rfl (rm_isText X.la d b Ra0 Ra1 (by decide) (by decide) hZ197.rf h200) cl_X12_377 rfl rfl (Nat.le_of_ble_eq_true rfl) ⟨Nat.le_of_ble_eq_true rfl, Nat.le_of_ble_eq_true rfl⟩ dX12_keyword_407 (fun r201 s202 F203 R204 hZ205 h206 => ?_)
                                                    refine zr_if_eq (tgt := 416) hC R204 dX12_keyword_410 (by decide) (fun c207 => ?_) (fun c207 => ?_)
                                                    · have h208 := h206.1 c207
                                                      refine g_aload_n hC dX12_keyword_416 rfl ?_
                                                      refine g_iload_n hC dX12_keyword_417 rfl ?_
                                                      refine g_iload_n hC dX12_keyword_418 rfl ?_
                                                      refine zr_ldc2 (e := 77280659985224) hC dX12_keyword_419 kw_2386 (by decide) ?_
                                                      refine g_lconst (v := zJ 0) hC dX12_keyword_422 rfl ?_
                                                      refine zr_callVi (As := [.int (zI a0), .int (zI a1), .long (zJ 77280659985224), .long (zJ 0)]) hC hZ205 rfl (rm_isText X.la d b Ra0 Ra1 (by decide) (by decide) hZ205.rf h208) cl_X12_377 rfl rfl (Nat.le_of_ble_eq_true rfl) ⟨Nat.le_of_ble_eq_true rfl, Nat.le_of_ble_eq_true rfl⟩ dX12_keyword_423 (fun r209 s210 F211 R212 hZ213 h214 => ?_)
                                                      refine zr_if_eq (tgt := 432) hC R212 dX12_keyword_426 (by decide) (fun c215 => ?_) (fun c215 => ?_)
                                                      · have h216 := h214.1 c215
                                                        refine g_aload_n hC dX12_keyword_432 rfl ?_
                                                        refine g_iload_n hC dX12_keyword_433 rfl ?_
                                                        refine g_iload_n hC dX12_keyword_434 rfl ?_
                                                        refine zr_ldc2 (e := 1196381263) hC dX12_keyword_435 kw_2387 (by decide) ?_
                                                        refine g_lconst (v := zJ 0) hC dX12_keyword_438 rfl ?_
                                                        refine zr_callVi (As := [.int (zI a0), .int (zI a1), .long (zJ 1196381263), .long (zJ 0)]) hC hZ213 rfl (rm_isText X.la d b Ra0 Ra1 (by decide) (by decide) hZ213.rf h216) cl_X12_377 rfl rfl (Nat.le_of_ble_eq_true rfl) ⟨Nat.le_of_ble_eq_true rfl, Nat.le_of_ble_eq_true rfl⟩ dX12_keyword_439 (fun r217 s218 F219 R220 hZ221 h222 => ?_)
                                                        refine zr_if_eq (tgt := 448) hC R220 dX12_keyword_442 (by decide) (fun c223 => ?_) (fun c223 => ?_)
                                                        · have h224 := h222.1 c223
                                                          refine g_aload_n hC dX12_keyword_448 rfl ?_
                                                          refine g_iload_n hC dX12_keyword_449 rfl ?_
                                                          refine g_iload_n hC dX12_keyword_450 rfl ?_
                                                          refine zr_ldc2 (e := 90457652937044) hC dX12_keyword_451 kw_2388 (by decide) ?_
                                                          refine g_lconst (v := zJ 0) hC dX12_keyword_454 rfl ?_
                                                          refine zr_callVi (As := [.int (zI a0), .int (zI a1), .long (zJ 90457652937044), .long (zJ 0)]) hC hZ221 rfl (rm_isText X.la d b Ra0 Ra1 (by decide) (by decide) hZ221.rf h224) cl_X12_377 rfl rfl (Nat.le_of_ble_eq_true rfl) ⟨Nat.le_of_ble_eq_true rfl, Nat.le_of_ble_eq_true rfl⟩ dX12_keyword_455 (fun r225 s226 F227 R228 hZ229 h230 => ?_)
                                                          refine zr_if_eq (tgt := 464) hC R228 dX12_keyword_458 (by decide) (fun c231 => ?_) (fun c231 => ?_)
                                                          · have h232 := h230.1 c231
                                                            refine g_aload_n hC dX12_keyword_464 rfl ?_
                                                            refine g_iload_n hC dX12_keyword_465 rfl ?_
                                                            refine g_iload_n hC dX12_keyword_466 rfl ?_
                                                            refine zr_ldc2 (e := 5928232742882137928) hC dX12_keyword_467 kw_2389 (by decide) ?_
                                                            refine zr_ldc2 (e := 4803653) hC dX12_keyword_470 kw_2390 (by decide) ?_
                                                            refine zr_callVi (As := [.int (zI a0), .int (zI a1), .long (zJ 5928232742882137928), .long (zJ 4803653)]) hC hZ229 rfl (rm_isText X.la d b Ra0 Ra1 (by decide) (by decide) hZ229.rf h232) cl_X12_377 rfl rfl (Nat.le_of_ble_eq_true rfl) ⟨Nat.le_of_ble_eq_true rfl, Nat.le_of_ble_eq_true rfl⟩ dX12_keyword_473 (fun r233 s234 F235 R236 hZ237 h238 => ?_)
                                                            refine zr_if_eq (tgt := 482) hC R236 dX12_keyword_476 (by decide) (fun c239 => ?_) (fun c239 => ?_)
                                                            · have h240 := h238.1 c239
                                                              refine g_aload_n hC dX12_keyword_482 rfl ?_
                                                              refine g_iload_n hC dX12_keyword_483 rfl ?_
                                                              refine g_iload_n hC dX12_keyword_484 rfl ?_
                                                              refine zr_ldc2 (e := 5928232742882137422) hC dX12_keyword_485 kw_2391 (by decide) ?_
                                                              refine zr_ldc2 (e := 5523788) hC dX12_keyword_488 kw_2392 (by decide) ?_
                                                              refine zr_callVi (As := [.int (zI a0), .int (zI a1), .long (zJ 5928232742882137422), .long (zJ 5523788)]) hC hZ237 rfl (rm_isText X.la d b Ra0 Ra1 (by decide) (by decide) hZ237.rf h240) cl_X12_377 rfl rfl (Nat.le_of_ble_eq_true rfl) ⟨Nat.le_of_ble_eq_true rfl, Nat.le_of_ble_eq_true rfl⟩ dX12_keyword_491 (fun r241 s242 F243 R244 hZ245 h246 => ?_)
                                                              refine zr_if_eq (tgt := 500) hC R244 dX12_keyword_494 (by decide) (fun c247 => ?_) (fun c247 => ?_)
                                                              · have h248 := h246.1 c247
                                                                refine g_aload_n hC dX12_keyword_500 rfl ?_
                                                                refine g_iload_n hC dX12_keyword_501 rfl ?_
                                                                refine g_iload_n hC dX12_keyword_502 rfl ?_
                                                                refine zr_ldc2 (e := 4542806) hC dX12_keyword_503 kw_2393 (by decide) ?_
                                                                refine g_lconst (v := zJ 0) hC dX12_keyword_506 rfl ?_
                                                                refine zr_callVi (As := [.int (zI a0), .int (zI a1), .long (zJ 4542806), .long (zJ 0)]) hC hZ245 rfl (rm_isText X.la d b Ra0 Ra1 (by decide) (by decide) hZ245.rf h248) cl_X12_377 rfl rfl (Nat.le_of_ble_eq_true rfl) ⟨Nat.le_of_ble_eq_true rfl, Nat.le_of_ble_eq_true rfl⟩ dX12_keyword_507 (fun r249 s250 F251 R252 hZ253 h254 => ?_)
                                                                refine zr_if_eq (tgt := 516) hC R252 dX12_keyword_510 (by decide) (fun c255 => ?_) (fun c255 => ?_)
                                                                · have h256 := h254.1 c255
                                                                  refine g_aload_n hC dX12_keyword_516 rfl ?_
                                                                  refine g_iload_n hC dX12_keyword_517 rfl ?_
                                                                  refine g_iload_n hC dX12_keyword_518 rfl ?_
                                                                  refine zr_ldc2 (e := 1313165654) hC dX12_keyword_519 kw_2394 (by decide) ?_
                                                                  refine g_lconst (v := zJ 0) hC dX12_keyword_522 rfl ?_
                                                                  refine zr_callVi (As := [.int (zI a0), .int (zI a1), .long (zJ 1313165654), .long (zJ 0)]) hC hZ253 rfl (rm_isText X.la d b Ra0 Ra1 (by decide) (by decide) hZ253.rf h256) cl_X12_377 rfl rfl (Nat.le_of_ble_eq_true rfl) ⟨Nat.le_of_ble_eq_true rfl, Nat.le_of_ble_eq_true rfl⟩ dX12_keyword_523 (fun r257 s258 F259 R260 hZ261 h262 => ?_)
                                                                  refine zr_if_eq (tgt := 532) hC R260 dX12_keyword_526 (by decide) (fun c263 => ?_) (fun c263 => ?_)
                                                                  · have h264 := h262.1 c263
                                                                    refine g_aload_n hC dX12_keyword_532 rfl ?_
                                                                    refine g_iload_n hC dX12_keyword_533 rfl ?_
                                                                    refine g_iload_n hC dX12_keyword_534 rfl ?_
                                                                    refine zr_ldc2 (e := 5391693) hC dX12_keyword_535 kw_2395 (by decide) ?_
                                                                    refine g_lconst (v := zJ 0) hC dX12_keyword_538 rfl ?_
                                                                    refine zr_callVi (As := [.int (zI a0), .int (zI a1), .long (zJ 5391693), .long (zJ 0)]) hC hZ261 rfl (rm_isText X.la d b Ra0 Ra1 (by decide) (by decide) hZ261.rf h264) cl_X12_377 rfl rfl (Nat.le_of_ble_eq_true rfl) ⟨Nat.le_of_ble_eq_true rfl, Nat.le_of_ble_eq_true rfl⟩ dX12_keyword_539 (fun r265 s266 F267 R268 hZ269 h270 => ?_)
                                                                    refine zr_if_eq (tgt := 548) hC R268 dX12_keyword_542 (by decide) (fun c271 => ?_) (fun c271 => ?_)
                                                                    · have h272 := h270.1 c271
                                                                      refine g_aload_n hC dX12_keyword_548 rfl ?_
                                                                      refine g_iload_n hC dX12_keyword_549 rfl ?_
                                                                      refine g_iload_n hC dX12_keyword_550 rfl ?_
                                                                      refine zr_ldc2 (e := 1414681925) hC dX12_keyword_551 kw_2396 (by decide) ?_
                                                                      refine g_lconst (v := zJ 0) hC dX12_keyword_554 rfl ?_
                                                                      refine zr_callVi (As := [.int (zI a0), .int (zI a1), .long (zJ 1414681925), .long (zJ 0)]) hC hZ269 rfl (rm_isText X.la d b Ra0 Ra1 (by decide) (by decide) hZ269.rf h272) cl_X12_377 rfl rfl (Nat.le_of_ble_eq_true rfl) ⟨Nat.le_of_ble_eq_true rfl, Nat.le_of_ble_eq_true rfl⟩ dX12_keyword_555 (fun r273 s274 F275 R276 hZ277 h278 => ?_)
                                                                      refine zr_if_eq (tgt := 564) hC R276 dX12_keyword_558 (by decide) (fun c279 => ?_) (fun c279 => ?_)
                                                                      · have h280 := h278.1 c279
                                                                        refine g_aload_n hC dX12_keyword_564 rfl ?_
                                                                        refine g_iload_n hC dX12_keyword_565 rfl ?_
                                                                        refine g_iload_n hC dX12_keyword_566 rfl ?_
                                                                        refine zr_ldc2 (e := 301743231813) hC dX12_keyword_567 kw_2397 (by decide) ?_
                                                                        refine g_lconst (v := zJ 0) hC dX12_keyword_570 rfl ?_
                                                                        refine zr_callVi (As := [.int (zI a0), .int (zI a1), .long (zJ 301743231813), .long (zJ 0)]) hC hZ277 rfl (rm_isText X.la d b Ra0 Ra1 (by decide) (by decide) hZ277.rf h280) cl_X12_377 rfl rfl (Nat.le_of_ble_eq_true rfl) ⟨Nat.le_of_ble_eq_true rfl, Nat.le_of_ble_eq_true rfl⟩ dX12_keyword_571 (fun r281 s282 F283 R284 hZ285 h286 => ?_)
                                                                        refine zr_if_eq (tgt := 580) hC R284 dX12_keyword_574 (by decide) (fun c287 => ?_) (fun c287 => ?_)
                                                                        · have h288 := h286.1 c287
                                                                          refine g_aload_n hC dX12_keyword_580 rfl ?_
                                                                          refine g_iload_n hC dX12_keyword_581 rfl ?_
                                                                          refine g_iload_n hC dX12_keyword_582 rfl ?_
                                                                          refine zr_ldc2 (e := 370462707526) hC dX12_keyword_583 kw_2398 (by decide) ?_
                                                                          refine g_lconst (v := zJ 0) hC dX12_keyword_586 rfl ?_
                                                                          refine zr_callVi (As := [.int (zI a0), .int (zI a1), .long (zJ 370462707526), .long (zJ 0)]) hC hZ285 rfl (rm_isText X.la d b Ra0 Ra1 (by decide) (by decide) hZ285.rf h288) cl_X12_377 rfl rfl (Nat.le_of_ble_eq_true rfl) ⟨Nat.le_of_ble_eq_true rfl, Nat.le_of_ble_eq_true rfl⟩ dX12_keyword_587 (fun r289 s290 F291 R292 hZ293 h294 => ?_)
                                                                          refine zr_if_eq (tgt := 596) hC R292 dX12_keyword_590 (by decide) (fun c295 => ?_) (fun c295 => ?_)
                                                                          · have h296 := h294.1 c295
                                                                            refine g_aload_n hC dX12_keyword_596 rfl ?_
                                                                            refine g_iload_n hC dX12_keyword_597 rfl ?_
                                                                            refine g_iload_n hC dX12_keyword_598 rfl ?_
                                                                            refine zr_ldc2 (e := 361872116805) hC dX12_keyword_599 kw_2399 (by decide) ?_
                                                                            refine g_lconst (v := zJ 0) hC dX12_keyword_602 rfl ?_
                                                                            refine zr_callVi (As := [.int (zI a0), .int (zI a1), .long (zJ 361872116805), .long (zJ 0)]) hC hZ293 rfl (rm_isText X.la d b Ra0 Ra1 (by decide) (by decide) hZ293.rf h296) cl_X12_377 rfl rfl (Nat.le_of_ble_eq_true rfl) ⟨Nat.le_of_ble_eq_true rfl, Nat.le_of_ble_eq_true rfl⟩ dX12_keyword_603 (fun r297 s298 F299 R300 hZ301 h302 => ?_)
                                                                            refine zr_if_eq (tgt := 612) hC R300 dX12_keyword_606 (by decide) (fun c303 => ?_) (fun c303 => ?_)
                                                                            · have h304 := h302.1 c303
                                                                              refine g_aload_n hC dX12_keyword_612 rfl ?_
                                                                              refine g_iload_n hC dX12_keyword_613 rfl ?_
                                                                              refine g_iload_n hC dX12_keyword_614 rfl ?_
                                                                              refine zr_ldc2 (e := 4670804) hC dX12_keyword_615 kw_2400 (by decide) ?_
                                                                              refine g_lconst (v := zJ 0) hC dX12_keyword_618 rfl ?_
                                                                              refine zr_callVi (As := [.int (zI a0), .int (zI a1), .long (zJ 4670804), .long (zJ 0)]) hC hZ301 rfl (rm_isText X.la d b Ra0 Ra1 (by decide) (by decide) hZ301.rf h304) cl_X12_377 rfl rfl (Nat.le_of_ble_eq_true rfl) ⟨Nat.le_of_ble_eq_true rfl, Nat.le_of_ble_eq_true rfl⟩ dX12_keyword_619 (fun r305 s306 F307 R308 hZ309 h310 => ?_)
                                                                              refine zr_if_eq (tgt := 628) hC R308 dX12_keyword_622 (by decide) (fun c311 => ?_) (fun c311 => ?_)
                                                                              · have h312 := h310.1 c311
                                                                                refine g_aload_n hC dX12_keyword_628 rfl ?_
                                                                                refine g_iload_n hC dX12_keyword_629 rfl ?_
                                                                                refine g_iload_n hC dX12_keyword_630 rfl ?_
                                                                                refine zr_ldc2 (e := 1414022478) hC dX12_keyword_631 kw_2401 (by decide) ?_
                                                                                refine g_lconst (v := zJ 0) hC dX12_keyword_634 rfl ?_
                                                                                refine zr_callVi (As := [.int (zI a0), .int (zI a1), .long (zJ 1414022478), .long (zJ 0)]) hC hZ309 rfl (rm_isText X.la d b Ra0 Ra1 (by decide) (by decide) hZ309.rf h312) cl_X12_377 rfl rfl (Nat.le_of_ble_eq_true rfl) ⟨Nat.le_of_ble_eq_true rfl, Nat.le_of_ble_eq_true rfl⟩ dX12_keyword_635 (fun r313 s314 F315 R316 hZ317 h318 => ?_)
                                                                                refine zr_if_eq (tgt := 644) hC R316 dX12_keyword_638 (by decide) (fun c319 => ?_) (fun c319 => ?_)
                                                                                · have h320 := h318.1 c319
                                                                                  refine g_aload_n hC dX12_keyword_644 rfl ?_
                                                                                  refine g_iload_n hC dX12_keyword_645 rfl ?_
                                                                                  refine g_iload_n hC dX12_keyword_646 rfl ?_
                                                                                  refine zr_ldc2 (e := 1162629957) hC dX12_keyword_647 kw_2402 (by decide) ?_
                                                                                  refine g_lconst (v := zJ 0) hC dX12_keyword_650 rfl ?_
                                                                                  refine zr_callVi (As := [.int (zI a0), .int (zI a1), .long (zJ 1162629957), .long (zJ 0)]) hC hZ317 rfl (rm_isText X.la d b Ra0 Ra1 (by decide) (by decide) hZ317.rf h320) cl_X12_377 rfl rfl (Nat.le_of_ble_eq_true rfl) ⟨Nat.le_of_ble_eq_true rfl, Nat.le_of_ble_eq_true rfl⟩ dX12_keyword_651 (fun r321 s322 F323 R324 hZ325 h326 => ?_)
                                                                                  refine zr_if_eq (tgt := 660) hC R324 dX12_keyword_654 (by decide) (fun c327 => ?_) (fun c327 => ?_)
                                                                                  · have h328 := h326.1 c327
                                                                                    refine g_aload_n hC dX12_keyword_660 rfl ?_
                                                                                    refine g_iload_n hC dX12_keyword_661 rfl ?_
                                                                                    refine g_iload_n hC dX12_keyword_662 rfl ?_
                                                                                    refine zr_ldc2 (e := 5132116) hC dX12_keyword_663 kw_2403 (by decide) ?_
                                                                                    refine g_lconst (v := zJ 0) hC dX12_keyword_666 rfl ?_
                                                                                    refine zr_callVi (As := [.int (zI a0), .int (zI a1), .long (zJ 5132116), .long (zJ 0)]) hC hZ325 rfl (rm_isText X.la d b Ra0 Ra1 (by decide) (by decide) hZ325.rf h328) cl_X12_377 rfl rfl (Nat.le_of_ble_eq_true rfl) ⟨Nat.le_of_ble_eq_true rfl, Nat.le_of_ble_eq_true rfl⟩ dX12_keyword_667 (fun r329 s330 F331 R332 hZ333 h334 => ?_)
                                                                                    refine zr_if_eq (tgt := 676) hC R332 dX12_keyword_670 (by decide) (fun c335 => ?_) (fun c335 => ?_)
                                                                                    · have h336 := h334.1 c335
                                                                                      refine g_iconst (v := zI 1) hC dX12_keyword_676 rfl ?_
                                                                                      exact zr_iret hC hZ333 (by decide) h336 dX12_keyword_677
                                                                                    · have h337 := h334.2 c335
                                                                                      refine g_bipush (v := zI 33) hC dX12_keyword_673 rfl ?_
                                                                                      exact zr_iret hC hZ333 (by decide) h337 dX12_keyword_675
                                                                                  · have h338 := h326.2 c327
                                                                                    refine g_bipush (v := zI 51) hC dX12_keyword_657 rfl ?_
                                                                                    exact zr_iret hC hZ325 (by decide) h338 dX12_keyword_659
                                                                                · have h339 := h318.2 c319
                                                                                  refine g_bipush (v := zI 48) hC dX12_keyword_641 rfl ?_
                                                                                  exact zr_iret hC hZ317 (by decide) h339 dX12_keyword_643
                                                                              · have h340 := h310.2 c311
                                                                                refine g_bipush (v := zI 78) hC dX12_keyword_625 rfl ?_
                                                                                exact zr_iret hC hZ309 (by decide) h340 dX12_keyword_627
                                                                            · have h341 := h302.2 c303
                                                                              refine g_bipush (v := zI 77) hC dX12_keyword_609 rfl ?_
                                                                              exact zr_iret hC hZ301 (by decide) h341 dX12_keyword_611
                                                                          · have h342 := h294.2 c295
                                                                            refine g_bipush (v := zI 76) hC dX12_keyword_593 rfl ?_
                                                                            exact zr_iret hC hZ293 (by decide) h342 dX12_keyword_595
                                                                        · have h343 := h286.2 c287
                                                                          refine g_bipush (v := zI 75) hC dX12_keyword_577 rfl ?_
                                                                          exact zr_iret hC hZ285 (by decide) h343 dX12_keyword_579
                                                                      · have h344 := h278.2 c279
                                                                        refine g_bipush (v := zI 74) hC dX12_keyword_561 rfl ?_
                                                                        exact zr_iret hC hZ277 (by decide) h344 dX12_keyword_563
                                                                    · have h345 := h270.2 c271
                                                                      refine g_bipush (v := zI 73) hC dX12_keyword_545 rfl ?_
                                                                      exact zr_iret hC hZ269 (by decide) h345 dX12_keyword_547
                                                                  · have h346 := h262.2 c263
                                                                    refine g_bipush (v := zI 72) hC dX12_keyword_529 rfl ?_
                                                                    exact zr_iret hC hZ261 (by decide) h346 dX12_keyword_531
                                                                · have h347 := h254.2 c255
                                                                  refine g_bipush (v := zI 71) hC dX12_keyword_513 rfl ?_
                                                                  exact zr_iret hC hZ253 (by decide) h347 dX12_keyword_515
                                                              · have h348 := h246.2 c247
                                                                refine g_bipush (v := zI 70) hC dX12_keyword_497 rfl ?_
                                                                exact zr_iret hC hZ245 (by decide) h348 dX12_keyword_499
                                                            · have h349 := h238.2 c239
                                                              refine g_bipush (v := zI 69) hC dX12_keyword_479 rfl ?_
                                                              exact zr_iret hC hZ237 (by decide) h349 dX12_keyword_481
                                                          · have h350 := h230.2 c231
                                                            refine g_bipush (v := zI 68) hC dX12_keyword_461 rfl ?_
                                                            exact zr_iret hC hZ229 (by decide) h350 dX12_keyword_463
                                                        · have h351 := h222.2 c223
                                                          refine g_bipush (v := zI 67) hC dX12_keyword_445 rfl ?_
                                                          exact zr_iret hC hZ221 (by decide) h351 dX12_keyword_447
                                                      · have h352 := h214.2 c215
                                                        refine g_bipush (v := zI 66) hC dX12_keyword_429 rfl ?_
                                                        exact zr_iret hC hZ213 (by decide) h352 dX12_keyword_431
                                                    · have h353 := h206.2 c207
                                                      refine g_bipush (v := zI 65) hC dX12_keyword_413 rfl ?_
                                                      exact zr_iret hC hZ205 (by decide) h353 dX12_keyword_415
                                                  · have h354 := h198.2 c199
                                                    refine g_bipush (v := zI 64) hC dX12_keyword_397 rfl ?_
                                                    exact zr_iret hC hZ197 (by decide) h354 dX12_keyword_399
                                                · have h355 := h190.2 c191
                                                  refine g_bipush (v := zI 63) hC dX12_keyword_381 rfl ?_
                                                  exact zr_iret hC hZ189 (by decide) h355 dX12_keyword_383
                                              · have h356 := h182.2 c183
                                                refine g_bipush (v := zI 62) hC dX12_keyword_365 rfl ?_
                                                exact zr_iret hC hZ181 (by decide) h356 dX12_keyword_367
                                            · have h357 := h174.2 c175
                                              refine g_bipush (v := zI 61) hC dX12_keyword_349 rfl ?_
                                              exact zr_iret hC hZ173 (by decide) h357 dX12_keyword_351
                                          · have h358 := h166.2 c167
                                            refine g_bipush (v := zI 60) hC dX12_keyword_333 rfl ?_
                                            exact zr_iret hC hZ165 (by decide) h358 dX12_keyword_335
                                        · have h359 := h158.2 c159
                                          refine g_bipush (v := zI 59) hC dX12_keyword_317 rfl ?_
                                          exact zr_iret hC hZ157 (by decide) h359 dX12_keyword_319
                                      · have h360 := h150.2 c151
                                        refine g_bipush (v := zI 58) hC dX12_keyword_301 rfl ?_
                                        exact zr_iret hC hZ149 (by decide) h360 dX12_keyword_303
                                    · have h361 := h142.2 c143
                                      refine g_bipush (v := zI 57) hC dX12_keyword_285 rfl ?_
                                      exact zr_iret hC hZ141 (by decide) h361 dX12_keyword_287
                                  · have h362 := h134.2 c135
                                    refine g_bipush (v := zI 56) hC dX12_keyword_269 rfl ?_
                                    exact zr_iret hC hZ133 (by decide) h362 dX12_keyword_271
                                · have h363 := h126.2 c127
                                  refine g_bipush (v := zI 55) hC dX12_keyword_253 rfl ?_
                                  exact zr_iret hC hZ125 (by decide) h363 dX12_keyword_255
                              · have h364 := h118.2 c119
                                refine g_bipush (v := zI 54) hC dX12_keyword_237 rfl ?_
                                exact zr_iret hC hZ117 (by decide) h364 dX12_keyword_239
                            · have h365 := h110.2 c111
                              refine g_bipush (v := zI 53) hC dX12_keyword_221 rfl ?_
                              exact zr_iret hC hZ109 (by decide) h365 dX12_keyword_223
                          · have h366 := h102.2 c103
                            refine g_bipush (v := zI 52) hC dX12_keyword_205 rfl ?_
                            exact zr_iret hC hZ101 (by decide) h366 dX12_keyword_207
                        · have h367 := h94.2 c95
                          refine g_bipush (v := zI 51) hC dX12_keyword_189 rfl ?_
                          exact zr_iret hC hZ93 (by decide) h367 dX12_keyword_191
                      · have h368 := h86.2 c87
                        refine g_bipush (v := zI 50) hC dX12_keyword_173 rfl ?_
                        exact zr_iret hC hZ85 (by decide) h368 dX12_keyword_175
                    · have h369 := h78.2 c79
                      refine g_bipush (v := zI 49) hC dX12_keyword_157 rfl ?_
                      exact zr_iret hC hZ77 (by decide) h369 dX12_keyword_159
                  · have h370 := h70.2 c71
                    refine g_bipush (v := zI 48) hC dX12_keyword_141 rfl ?_
                    exact zr_iret hC hZ69 (by decide) h370 dX12_keyword_143
                · have h371 := h62.2 c63
                  refine g_bipush (v := zI 47) hC dX12_keyword_125 rfl ?_
                  exact zr_iret hC hZ61 (by decide) h371 dX12_keyword_127
              · have h372 := h54.2 c55
                refine g_bipush (v := zI 46) hC dX12_keyword_109 rfl ?_
                exact zr_iret hC hZ53 (by decide) h372 dX12_keyword_111
            · have h373 := h46.2 c47
              refine g_bipush (v := zI 45) hC dX12_keyword_93 rfl ?_
              exact zr_iret hC hZ45 (by decide) h373 dX12_keyword_95
          · have h374 := h38.2 c39
            refine g_bipush (v := zI 44) hC dX12_keyword_77 rfl ?_
            exact zr_iret hC hZ37 (by decide) h374 dX12_keyword_79
        · have h375 := h30.2 c31
          refine g_bipush (v := zI 43) hC dX12_keyword_61 rfl ?_
          exact zr_iret hC hZ29 (by decide) h375 dX12_keyword_63
      · have h376 := h22.2 c23
        refine g_bipush (v := zI 42) hC dX12_keyword_45 rfl ?_
        exact zr_iret hC hZ21 (by decide) h376 dX12_keyword_47
    · have h377 := h14.2 c15
      refine g_bipush (v := zI 41) hC dX12_keyword_29 rfl ?_
      exact zr_iret hC hZ13 (by decide) h377 dX12_keyword_31
  · have h378 := h6.2 c7
    refine g_bipush (v := zI 40) hC dX12_keyword_13 rfl ?_
    exact zr_iret hC hZ5 (by decide) h378 dX12_keyword_15
theorem dX12_isLetter_0 : decode cX12_isLetter 0 = .ok (.iload_n 0, 1) := by decide +kernel
theorem dX12_isLetter_1 : decode cX12_isLetter 1 = .ok (.bipush 97, 2) := by decide +kernel
theorem dX12_isLetter_3 : decode cX12_isLetter 3 = .ok (.if_icmp .lt 9, 3) := by decide +kernel
theorem dX12_isLetter_6 : decode cX12_isLetter 6 = .ok (.iload_n 0, 1) := by decide +kernel
theorem dX12_isLetter_7 : decode cX12_isLetter 7 = .ok (.bipush 122, 2) := by decide +kernel
theorem dX12_isLetter_9 : decode cX12_isLetter 9 = .ok (.if_icmp .le 15, 3) := by decide +kernel
theorem dX12_isLetter_12 : decode cX12_isLetter 12 = .ok (.iload_n 0, 1) := by decide +kernel
theorem dX12_isLetter_13 : decode cX12_isLetter 13 = .ok (.bipush 65, 2) := by decide +kernel
theorem dX12_isLetter_15 : decode cX12_isLetter 15 = .ok (.if_icmp .lt 13, 3) := by decide +kernel
theorem dX12_isLetter_18 : decode cX12_isLetter 18 = .ok (.iload_n 0, 1) := by decide +kernel
theorem dX12_isLetter_19 : decode cX12_isLetter 19 = .ok (.bipush 90, 2) := by decide +kernel
theorem dX12_isLetter_21 : decode cX12_isLetter 21 = .ok (.if_icmp .gt 7, 3) := by decide +kernel
theorem dX12_isLetter_24 : decode cX12_isLetter 24 = .ok (.iconst 1, 1) := by decide +kernel
theorem dX12_isLetter_25 : decode cX12_isLetter 25 = .ok (.goto 4, 3) := by decide +kernel
theorem dX12_isLetter_28 : decode cX12_isLetter 28 = .ok (.iconst 0, 1) := by decide +kernel
theorem dX12_isLetter_29 : decode cX12_isLetter 29 = .ok (.ireturn, 1) := by decide +kernel
def wr_isLetter (s0 : zS) (a0 : Int) (Q : Int → zS → Prop) : Prop :=
  ((a0 < 97 → ((a0 < 65 → Q 0 s0) ∧ (¬ a0 < 65 → ((90 < a0 → Q 0 s0) ∧ (¬ 90 < a0 → Q 1 s0))))) ∧ (¬ a0 < 97 → ((a0 ≤ 122 → Q 1 s0) ∧ (¬ a0 ≤ 122 → ((a0 < 65 → Q 0 s0) ∧ (¬ a0 < 65 → ((90 < a0 → Q 0 s0) ∧ (¬ 90 < a0 → Q 1 s0))))))))
set_option maxHeartbeats 4000000 in
set_option maxRecDepth 100000 in
theorem rm_isLetter (l : Launch) (d : gD) (b : Nat) {t : Nat} {T : Nat → Nat} {F : gM} {s0 : zS} {a0 : Int} (Ra0 : zR a0) {Q : Int → zS → Prop} (hZ : zZ d t T F F s0) (hw : wr_isLetter s0 a0 Q) : gMi l d b yX12_isLetter cX12_isLetter 1 .boolean 0 0 0 F [.int (zI a0)] (zPi d t T F Q) := by
  refine gM_of2 rfl (nL := 1) (Nat.le_of_ble_eq_true rfl) ?_
  intro X hX hC; subst hX
  show gG X d b (zQi X d b t T F Q) F 0 0 0 [some (.int (zI a0))] []
  unfold wr_isLetter at hw
  refine g_iload_n hC dX12_isLetter_0 rfl ?_
  refine g_bipush (v := zI 97) hC dX12_isLetter_1 rfl ?_
  refine zr_icmp_lt (tgt := 12) hC Ra0 (by decide) dX12_isLetter_3 (by decide) (fun c1 => ?_) (fun c1 => ?_)
  · have h2 := hw.1 c1
    refine g_iload_n hC dX12_isLetter_12 rfl ?_
    refine g_bipush (v := zI 65) hC dX12_isLetter_13 rfl ?_
    refine zr_icmp_lt (tgt := 28) hC Ra0 (by decide) dX12_isLetter_15 (by decide) (fun c3 => ?_) (fun c3 => ?_)
    · have h4 := h2.1 c3
      refine g_iconst (v := zI 0) hC dX12_isLetter_28 rfl ?_
      exact zr_zret hC hZ (Or.inl rfl) h4 dX12_isLetter_29
    · have h5 := h2.2 c3
      refine g_iload_n hC dX12_isLetter_18 rfl ?_
      refine g_bipush (v := zI 90) hC dX12_isLetter_19 rfl ?_
      refine zr_icmp_gt (tgt := 28) hC Ra0 (by decide) dX12_isLetter_21 (by decide) (fun c6 => ?_) (fun c6 => ?_)
      · have h7 := h5.1 c6
        refine g_iconst (v := zI 0) hC dX12_isLetter_28 rfl ?_
        exact zr_zret hC hZ (Or.inl rfl) h7 dX12_isLetter_29
      · have h8 := h5.2 c6
        refine g_iconst (v := zI 1) hC dX12_isLetter_24 rfl ?_
        refine g_goto (tgt := 29) hC dX12_isLetter_25 (by decide) ?_
        exact zr_zret hC hZ (Or.inr rfl) h8 dX12_isLetter_29
  · have h9 := hw.2 c1
    refine g_iload_n hC dX12_isLetter_6 rfl ?_
    refine g_bipush (v := zI 122) hC dX12_isLetter_7 rfl ?_
    refine zr_icmp_le (tgt := 24) hC Ra0 (by decide) dX12_isLetter_9 (by decide) (fun c10 => ?_) (fun c10 => ?_)
    · have h11 := h9.1 c10
      refine g_iconst (v := zI 1) hC dX12_isLetter_24 rfl ?_
      refine g_goto (tgt := 29) hC dX12_isLetter_25 (by decide) ?_
      exact zr_zret hC hZ (Or.inr rfl) h11 dX12_isLetter_29
    · have h12 := h9.2 c10
      refine g_iload_n hC dX12_isLetter_12 rfl ?_
      refine g_bipush (v := zI 65) hC dX12_isLetter_13 rfl ?_
      refine zr_icmp_lt (tgt := 28) hC Ra0 (by decide) dX12_isLetter_15 (by decide) (fun c13 => ?_) (fun c13 => ?_)
      · have h14 := h12.1 c13
        refine g_iconst (v := zI 0) hC dX12_isLetter_28 rfl ?_
        exact zr_zret hC hZ (Or.inl rfl) h14 dX12_isLetter_29
      · have h15 := h12.2 c13
        refine g_iload_n hC dX12_isLetter_18 rfl ?_
        refine g_bipush (v := zI 90) hC dX12_isLetter_19 rfl ?_
        refine zr_icmp_gt (tgt := 28) hC Ra0 (by decide) dX12_isLetter_21 (by decide) (fun c16 => ?_) (fun c16 => ?_)
        · have h17 := h15.1 c16
          refine g_iconst (v := zI 0) hC dX12_isLetter_28 rfl ?_
          exact zr_zret hC hZ (Or.inl rfl) h17 dX12_isLetter_29
        · have h18 := h15.2 c16
          refine g_iconst (v := zI 1) hC dX12_isLetter_24 rfl ?_
          refine g_goto (tgt := 29) hC dX12_isLetter_25 (by decide) ?_
          exact zr_zret hC hZ (Or.inr rfl) h18 dX12_isLetter_29
theorem dX12_isDigit_0 : decode cX12_isDigit 0 = .ok (.iload_n 0, 1) := by decide +kernel
theorem dX12_isDigit_1 : decode cX12_isDigit 1 = .ok (.bipush 48, 2) := by decide +kernel
theorem dX12_isDigit_3 : decode cX12_isDigit 3 = .ok (.if_icmp .lt 13, 3) := by decide +kernel
theorem dX12_isDigit_6 : decode cX12_isDigit 6 = .ok (.iload_n 0, 1) := by decide +kernel
theorem dX12_isDigit_7 : decode cX12_isDigit 7 = .ok (.bipush 57, 2) := by decide +kernel
theorem dX12_isDigit_9 : decode cX12_isDigit 9 = .ok (.if_icmp .gt 7, 3) := by decide +kernel
theorem dX12_isDigit_12 : decode cX12_isDigit 12 = .ok (.iconst 1, 1) := by decide +kernel
theorem dX12_isDigit_13 : decode cX12_isDigit 13 = .ok (.goto 4, 3) := by decide +kernel
theorem dX12_isDigit_16 : decode cX12_isDigit 16 = .ok (.iconst 0, 1) := by decide +kernel
theorem dX12_isDigit_17 : decode cX12_isDigit 17 = .ok (.ireturn, 1) := by decide +kernel
def wr_isDigit (s0 : zS) (a0 : Int) (Q : Int → zS → Prop) : Prop :=
  ((a0 < 48 → Q 0 s0) ∧ (¬ a0 < 48 → ((57 < a0 → Q 0 s0) ∧ (¬ 57 < a0 → Q 1 s0))))
set_option maxHeartbeats 4000000 in
set_option maxRecDepth 100000 in
theorem rm_isDigit (l : Launch) (d : gD) (b : Nat) {t : Nat} {T : Nat → Nat} {F : gM} {s0 : zS} {a0 : Int} (Ra0 : zR a0) {Q : Int → zS → Prop} (hZ : zZ d t T F F s0) (hw : wr_isDigit s0 a0 Q) : gMi l d b yX12_isDigit cX12_isDigit 1 .boolean 0 0 0 F [.int (zI a0)] (zPi d t T F Q) := by
  refine gM_of2 rfl (nL := 1) (Nat.le_of_ble_eq_true rfl) ?_
  intro X hX hC; subst hX
  show gG X d b (zQi X d b t T F Q) F 0 0 0 [some (.int (zI a0))] []
  unfold wr_isDigit at hw
  refine g_iload_n hC dX12_isDigit_0 rfl ?_
  refine g_bipush (v := zI 48) hC dX12_isDigit_1 rfl ?_
  refine zr_icmp_lt (tgt := 16) hC Ra0 (by decide) dX12_isDigit_3 (by decide) (fun c1 => ?_) (fun c1 => ?_)
  · have h2 := hw.1 c1
    refine g_iconst (v := zI 0) hC dX12_isDigit_16 rfl ?_
    exact zr_zret hC hZ (Or.inl rfl) h2 dX12_isDigit_17
  · have h3 := hw.2 c1
    refine g_iload_n hC dX12_isDigit_6 rfl ?_
    refine g_bipush (v := zI 57) hC dX12_isDigit_7 rfl ?_
    refine zr_icmp_gt (tgt := 16) hC Ra0 (by decide) dX12_isDigit_9 (by decide) (fun c4 => ?_) (fun c4 => ?_)
    · have h5 := h3.1 c4
      refine g_iconst (v := zI 0) hC dX12_isDigit_16 rfl ?_
      exact zr_zret hC hZ (Or.inl rfl) h5 dX12_isDigit_17
    · have h6 := h3.2 c4
      refine g_iconst (v := zI 1) hC dX12_isDigit_12 rfl ?_
      refine g_goto (tgt := 17) hC dX12_isDigit_13 (by decide) ?_
      exact zr_zret hC hZ (Or.inr rfl) h6 dX12_isDigit_17
theorem dX12_isRest_0 : decode cX12_isRest 0 = .ok (.iload_n 0, 1) := by decide +kernel
theorem dX12_isRest_1 : decode cX12_isRest 1 = .ok (.invokestatic 467, 3) := by decide +kernel
theorem dX12_isRest_4 : decode cX12_isRest 4 = .ok (.ifCond .ne 22, 3) := by decide +kernel
theorem dX12_isRest_7 : decode cX12_isRest 7 = .ok (.iload_n 0, 1) := by decide +kernel
theorem dX12_isRest_8 : decode cX12_isRest 8 = .ok (.invokestatic 471, 3) := by decide +kernel
theorem dX12_isRest_11 : decode cX12_isRest 11 = .ok (.ifCond .ne 15, 3) := by decide +kernel
theorem dX12_isRest_14 : decode cX12_isRest 14 = .ok (.iload_n 0, 1) := by decide +kernel
theorem dX12_isRest_15 : decode cX12_isRest 15 = .ok (.bipush 46, 2) := by decide +kernel
theorem dX12_isRest_17 : decode cX12_isRest 17 = .ok (.if_icmp .eq 9, 3) := by decide +kernel
theorem dX12_isRest_20 : decode cX12_isRest 20 = .ok (.iload_n 0, 1) := by decide +kernel
theorem dX12_isRest_21 : decode cX12_isRest 21 = .ok (.bipush 95, 2) := by decide +kernel
theorem dX12_isRest_23 : decode cX12_isRest 23 = .ok (.if_icmp .ne 7, 3) := by decide +kernel
theorem dX12_isRest_26 : decode cX12_isRest 26 = .ok (.iconst 1, 1) := by decide +kernel
theorem dX12_isRest_27 : decode cX12_isRest 27 = .ok (.goto 4, 3) := by decide +kernel
theorem dX12_isRest_30 : decode cX12_isRest 30 = .ok (.iconst 0, 1) := by decide +kernel
theorem dX12_isRest_31 : decode cX12_isRest 31 = .ok (.ireturn, 1) := by decide +kernel
def wr_isRest (s0 : zS) (a0 : Int) (Q : Int → zS → Prop) : Prop :=
  wr_isLetter s0 a0 (fun r1 s2 => ((¬ r1 = 0 → Q 1 s2) ∧ (r1 = 0 → wr_isDigit s2 a0 (fun r10 s11 => ((¬ r10 = 0 → Q 1 s11) ∧ (r10 = 0 → ((a0 = 46 → Q 1 s11) ∧ (¬ a0 = 46 → ((¬ a0 = 95 → Q 0 s11) ∧ (a0 = 95 → Q 1 s11))))))))))
set_option maxHeartbeats 4000000 in
set_option maxRecDepth 100000 in
theorem rm_isRest (l : Launch) (d : gD) (b : Nat) {t : Nat} {T : Nat → Nat} {F : gM} {s0 : zS} {a0 : Int} (Ra0 : zR a0) {Q : Int → zS → Prop} (hZ : zZ d t T F F s0) (hw : wr_isRest s0 a0 Q) : gMi l d b yX12_isRest cX12_isRest 1 .boolean 1 0 0 F [.int (zI a0)] (zPi d t T F Q) := by
  refine gM_of2 rfl (nL := 1) (Nat.le_of_ble_eq_true rfl) ?_
  intro X hX hC; subst hX
  show gG X d b (zQi X d b t T F Q) F 0 0 0 [some (.int (zI a0))] []
  unfold wr_isRest at hw
  refine g_iload_n hC dX12_isRest_0 rfl ?_
  refine zr_callSi (As := [.int (zI a0)]) hC hZ (rm_isLetter X.la d b Ra0 hZ.rf hw) cl_X12_467 rfl rfl (Nat.le_of_ble_eq_true rfl) ⟨Nat.le_of_ble_eq_true rfl, Nat.le_of_ble_eq_true rfl⟩ dX12_isRest_1 (fun r1 s2 F3 R4 hZ5 h6 => ?_)
  refine zr_if_ne (tgt := 26) hC R4 dX12_isRest_4 (by decide) (fun c7 => ?_) (fun c7 => ?_)
  · have h8 := h6.1 c7
    refine g_iconst (v := zI 1) hC dX12_isRest_26 rfl ?_
    refine g_goto (tgt := 31) hC dX12_isRest_27 (by decide) ?_
    exact zr_zret hC hZ5 (Or.inr rfl) h8 dX12_isRest_31
  · have h9 := h6.2 c7
    refine g_iload_n hC dX12_isRest_7 rfl ?_
    refine zr_callSi (As := [.int (zI a0)]) hC hZ5 (rm_isDigit X.la d b Ra0 hZ5.rf h9) cl_X12_471 rfl rfl (Nat.le_of_ble_eq_true rfl) ⟨Nat.le_of_ble_eq_true rfl, Nat.le_of_ble_eq_true rfl⟩ dX12_isRest_8 (fun r10 s11 F12 R13 hZ14 h15 => ?_)
    refine zr_if_ne (tgt := 26) hC R13 dX12_isRest_11 (by decide) (fun c16 => ?_) (fun c16 => ?_)
    · have h17 := h15.1 c16
      refine g_iconst (v := zI 1) hC dX12_isRest_26 rfl ?_
      refine g_goto (tgt := 31) hC dX12_isRest_27 (by decide) ?_
      exact zr_zret hC hZ14 (Or.inr rfl) h17 dX12_isRest_31
    · have h18 := h15.2 c16
      refine g_iload_n hC dX12_isRest_14 rfl ?_
      refine g_bipush (v := zI 46) hC dX12_isRest_15 rfl ?_
      refine zr_icmp_eq (tgt := 26) hC Ra0 (by decide) dX12_isRest_17 (by decide) (fun c19 => ?_) (fun c19 => ?_)
      · have h20 := h18.1 c19
        refine g_iconst (v := zI 1) hC dX12_isRest_26 rfl ?_
        refine g_goto (tgt := 31) hC dX12_isRest_27 (by decide) ?_
        exact zr_zret hC hZ14 (Or.inr rfl) h20 dX12_isRest_31
      · have h21 := h18.2 c19
        refine g_iload_n hC dX12_isRest_20 rfl ?_
        refine g_bipush (v := zI 95) hC dX12_isRest_21 rfl ?_
        refine zr_icmp_ne (tgt := 30) hC Ra0 (by decide) dX12_isRest_23 (by decide) (fun c22 => ?_) (fun c22 => ?_)
        · have h23 := h21.1 c22
          refine g_iconst (v := zI 0) hC dX12_isRest_30 rfl ?_
          exact zr_zret hC hZ14 (Or.inl rfl) h23 dX12_isRest_31
        · have h24 := h21.2 c22
          refine g_iconst (v := zI 1) hC dX12_isRest_26 rfl ?_
          refine g_goto (tgt := 31) hC dX12_isRest_27 (by decide) ?_
          exact zr_zret hC hZ14 (Or.inr rfl) h24 dX12_isRest_31
theorem dX12_look_0 : decode cX12_look 0 = .ok (.iload_n 1, 1) := by decide +kernel
theorem dX12_look_1 : decode cX12_look 1 = .ok (.aload_n 0, 1) := by decide +kernel
theorem dX12_look_2 : decode cX12_look 2 = .ok (.getfield 23, 3) := by decide +kernel
theorem dX12_look_5 : decode cX12_look 5 = .ok (.if_icmp .ge 16, 3) := by decide +kernel
theorem dX12_look_8 : decode cX12_look 8 = .ok (.aload_n 0, 1) := by decide +kernel
theorem dX12_look_9 : decode cX12_look 9 = .ok (.getfield 20, 3) := by decide +kernel
theorem dX12_look_12 : decode cX12_look 12 = .ok (.iload_n 1, 1) := by decide +kernel
theorem dX12_look_13 : decode cX12_look 13 = .ok (.baload, 1) := by decide +kernel
theorem dX12_look_14 : decode cX12_look 14 = .ok (.sipush 255, 3) := by decide +kernel
theorem dX12_look_17 : decode cX12_look 17 = .ok (.iand, 1) := by decide +kernel
theorem dX12_look_18 : decode cX12_look 18 = .ok (.goto 4, 3) := by decide +kernel
theorem dX12_look_21 : decode cX12_look 21 = .ok (.iconst 0, 1) := by decide +kernel
theorem dX12_look_22 : decode cX12_look 22 = .ok (.ireturn, 1) := by decide +kernel
def wr_look (s0 : zS) (a0 : Int) (Q : Int → zS → Prop) : Prop :=
  (((zv s0 4) ≤ a0 → Q 0 s0) ∧ (¬ (zv s0 4) ≤ a0 → (0 ≤ a0) ∧ (a0 < 6000) ∧ Q (zan (za s0 3 (Int.toNat a0)) 255) s0))
set_option maxHeartbeats 4000000 in
set_option maxRecDepth 100000 in
theorem rm_look (l : Launch) (d : gD) (b : Nat) {t : Nat} {T : Nat → Nat} {F : gM} {s0 : zS} {a0 : Int} (Ra0 : zR a0) {Q : Int → zS → Prop} (hZ : zZ d t T F F s0) (hw : wr_look s0 a0 Q) : gMi l d b yX12_look cX12_look 2 .int 0 0 0 F [.ref t, .int (zI a0)] (zPi d t T F Q) := by
  refine gM_of2 rfl (nL := 2) (Nat.le_of_ble_eq_true rfl) ?_
  intro X hX hC; subst hX
  show gG X d b (zQi X d b t T F Q) F 0 0 0 [some (.ref t), some (.int (zI a0))] []
  unfold wr_look at hw
  refine g_iload_n hC dX12_look_0 rfl ?_
  refine g_aload_n hC dX12_look_1 rfl ?_
  refine zr_get (e := (zv s0 4)) hC hZ fl_X12_23 zb_4 (by decide) rfl dX12_look_2 ?_
  refine zr_icmp_ge (tgt := 21) hC Ra0 (hZ.rv 4) dX12_look_5 (by decide) (fun c1 => ?_) (fun c1 => ?_)
  · have h2 := hw.1 c1
    refine g_iconst (v := zI 0) hC dX12_look_21 rfl ?_
    exact zr_iret hC hZ (by decide) h2 dX12_look_22
  · have h3 := hw.2 c1
    refine g_aload_n hC dX12_look_8 rfl ?_
    refine zr_geta hC hZ fl_X12_20 zb_3 (by decide) dX12_look_9 ?_
    refine g_iload_n hC dX12_look_12 rfl ?_
    obtain ⟨o4, h5⟩ := h3
    obtain ⟨o6, h7⟩ := h5
    refine zr_bald (v := (za s0 3 (Int.toNat a0))) hC hZ zk_3 zb_3 zn_3 (by decide) o4 o6 rfl dX12_look_13 ?_
    refine g_sipush (v := zI 255) hC dX12_look_14 rfl ?_
    refine zr_iand hC dX12_look_17 ?_
    refine g_goto (tgt := 22) hC dX12_look_18 (by decide) ?_
    exact zr_iret hC hZ (zR_t _) h7 dX12_look_22
theorem dX12_endsLine_0 : decode cX12_endsLine 0 = .ok (.iload_n 0, 1) := by decide +kernel
theorem dX12_endsLine_1 : decode cX12_endsLine 1 = .ok (.iconst 1, 1) := by decide +kernel
theorem dX12_endsLine_2 : decode cX12_endsLine 2 = .ok (.if_icmp .eq 67, 3) := by decide +kernel
theorem dX12_endsLine_5 : decode cX12_endsLine 5 = .ok (.iload_n 0, 1) := by decide +kernel
theorem dX12_endsLine_6 : decode cX12_endsLine 6 = .ok (.iconst 2, 1) := by decide +kernel
theorem dX12_endsLine_7 : decode cX12_endsLine 7 = .ok (.if_icmp .eq 62, 3) := by decide +kernel
theorem dX12_endsLine_10 : decode cX12_endsLine 10 = .ok (.iload_n 0, 1) := by decide +kernel
theorem dX12_endsLine_11 : decode cX12_endsLine 11 = .ok (.iconst 4, 1) := by decide +kernel
theorem dX12_endsLine_12 : decode cX12_endsLine 12 = .ok (.if_icmp .eq 57, 3) := by decide +kernel
theorem dX12_endsLine_15 : decode cX12_endsLine 15 = .ok (.iload_n 0, 1) := by decide +kernel
theorem dX12_endsLine_16 : decode cX12_endsLine 16 = .ok (.bipush 11, 2) := by decide +kernel
theorem dX12_endsLine_18 : decode cX12_endsLine 18 = .ok (.if_icmp .eq 51, 3) := by decide +kernel
theorem dX12_endsLine_21 : decode cX12_endsLine 21 = .ok (.iload_n 0, 1) := by decide +kernel
theorem dX12_endsLine_22 : decode cX12_endsLine 22 = .ok (.bipush 13, 2) := by decide +kernel
theorem dX12_endsLine_24 : decode cX12_endsLine 24 = .ok (.if_icmp .eq 45, 3) := by decide +kernel
theorem dX12_endsLine_27 : decode cX12_endsLine 27 = .ok (.iload_n 0, 1) := by decide +kernel
theorem dX12_endsLine_28 : decode cX12_endsLine 28 = .ok (.bipush 74, 2) := by decide +kernel
theorem dX12_endsLine_30 : decode cX12_endsLine 30 = .ok (.if_icmp .eq 39, 3) := by decide +kernel
theorem dX12_endsLine_33 : decode cX12_endsLine 33 = .ok (.iload_n 0, 1) := by decide +kernel
theorem dX12_endsLine_34 : decode cX12_endsLine 34 = .ok (.bipush 75, 2) := by decide +kernel
theorem dX12_endsLine_36 : decode cX12_endsLine 36 = .ok (.if_icmp .eq 33, 3) := by decide +kernel
theorem dX12_endsLine_39 : decode cX12_endsLine 39 = .ok (.iload_n 0, 1) := by decide +kernel
theorem dX12_endsLine_40 : decode cX12_endsLine 40 = .ok (.bipush 61, 2) := by decide +kernel
theorem dX12_endsLine_42 : decode cX12_endsLine 42 = .ok (.if_icmp .eq 27, 3) := by decide +kernel
theorem dX12_endsLine_45 : decode cX12_endsLine 45 = .ok (.iload_n 0, 1) := by decide +kernel
theorem dX12_endsLine_46 : decode cX12_endsLine 46 = .ok (.bipush 62, 2) := by decide +kernel
theorem dX12_endsLine_48 : decode cX12_endsLine 48 = .ok (.if_icmp .eq 21, 3) := by decide +kernel
theorem dX12_endsLine_51 : decode cX12_endsLine 51 = .ok (.iload_n 0, 1) := by decide +kernel
theorem dX12_endsLine_52 : decode cX12_endsLine 52 = .ok (.bipush 63, 2) := by decide +kernel
theorem dX12_endsLine_54 : decode cX12_endsLine 54 = .ok (.if_icmp .eq 15, 3) := by decide +kernel
theorem dX12_endsLine_57 : decode cX12_endsLine 57 = .ok (.iload_n 0, 1) := by decide +kernel
theorem dX12_endsLine_58 : decode cX12_endsLine 58 = .ok (.bipush 64, 2) := by decide +kernel
theorem dX12_endsLine_60 : decode cX12_endsLine 60 = .ok (.if_icmp .eq 9, 3) := by decide +kernel
theorem dX12_endsLine_63 : decode cX12_endsLine 63 = .ok (.iload_n 0, 1) := by decide +kernel
theorem dX12_endsLine_64 : decode cX12_endsLine 64 = .ok (.bipush 66, 2) := by decide +kernel
theorem dX12_endsLine_66 : decode cX12_endsLine 66 = .ok (.if_icmp .ne 7, 3) := by decide +kernel
theorem dX12_endsLine_69 : decode cX12_endsLine 69 = .ok (.iconst 1, 1) := by decide +kernel
theorem dX12_endsLine_70 : decode cX12_endsLine 70 = .ok (.goto 4, 3) := by decide +kernel
theorem dX12_endsLine_73 : decode cX12_endsLine 73 = .ok (.iconst 0, 1) := by decide +kernel
theorem dX12_endsLine_74 : decode cX12_endsLine 74 = .ok (.ireturn, 1) := by decide +kernel
def wr_endsLine (s0 : zS) (a0 : Int) (Q : Int → zS → Prop) : Prop :=
  ((a0 = 1 → Q 1 s0) ∧ (¬ a0 = 1 → ((a0 = 2 → Q 1 s0) ∧ (¬ a0 = 2 → ((a0 = 4 → Q 1 s0) ∧ (¬ a0 = 4 → ((a0 = 11 → Q 1 s0) ∧ (¬ a0 = 11 → ((a0 = 13 → Q 1 s0) ∧ (¬ a0 = 13 → ((a0 = 74 → Q 1 s0) ∧ (¬ a0 = 74 → ((a0 = 75 → Q 1 s0) ∧ (¬ a0 = 75 → ((a0 = 61 → Q 1 s0) ∧ (¬ a0 = 61 → ((a0 = 62 → Q 1 s0) ∧ (¬ a0 = 62 → ((a0 = 63 → Q 1 s0) ∧ (¬ a0 = 63 → ((a0 = 64 → Q 1 s0) ∧ (¬ a0 = 64 → ((¬ a0 = 66 → Q 0 s0) ∧ (a0 = 66 → Q 1 s0))))))))))))))))))))))))
set_option maxHeartbeats 4000000 in
set_option maxRecDepth 100000 in
theorem rm_endsLine (l : Launch) (d : gD) (b : Nat) {t : Nat} {T : Nat → Nat} {F : gM} {s0 : zS} {a0 : Int} (Ra0 : zR a0) {Q : Int → zS → Prop} (hZ : zZ d t T F F s0) (hw : wr_endsLine s0 a0 Q) : gMi l d b yX12_endsLine cX12_endsLine 1 .boolean 0 0 0 F [.int (zI a0)] (zPi d t T F Q) := by
  refine gM_of2 rfl (nL := 1) (Nat.le_of_ble_eq_true rfl) ?_
  intro X hX hC; subst hX
  show gG X d b (zQi X d b t T F Q) F 0 0 0 [some (.int (zI a0))] []
  unfold wr_endsLine at hw
  refine g_iload_n hC dX12_endsLine_0 rfl ?_
  refine g_iconst (v := zI 1) hC dX12_endsLine_1 rfl ?_
  refine zr_icmp_eq (tgt := 69) hC Ra0 (by decide) dX12_endsLine_2 (by decide) (fun c1 => ?_) (fun c1 => ?_)
  · have h2 := hw.1 c1
    refine g_iconst (v := zI 1) hC dX12_endsLine_69 rfl ?_
    refine g_goto (tgt := 74) hC dX12_endsLine_70 (by decide) ?_
    exact zr_zret hC hZ (Or.inr rfl) h2 dX12_endsLine_74
  · have h3 := hw.2 c1
    refine g_iload_n hC dX12_endsLine_5 rfl ?_
    refine g_iconst (v := zI 2) hC dX12_endsLine_6 rfl ?_
    refine zr_icmp_eq (tgt := 69) hC Ra0 (by decide) dX12_endsLine_7 (by decide) (fun c4 => ?_) (fun c4 => ?_)
    · have h5 := h3.1 c4
      refine g_iconst (v := zI 1) hC dX12_endsLine_69 rfl ?_
      refine g_goto (tgt := 74) hC dX12_endsLine_70 (by decide) ?_
      exact zr_zret hC hZ (Or.inr rfl) h5 dX12_endsLine_74
    · have h6 := h3.2 c4
      refine g_iload_n hC dX12_endsLine_10 rfl ?_
      refine g_iconst (v := zI 4) hC dX12_endsLine_11 rfl ?_
      refine zr_icmp_eq (tgt := 69) hC Ra0 (by decide) dX12_endsLine_12 (by decide) (fun c7 => ?_) (fun c7 => ?_)
      · have h8 := h6.1 c7
        refine g_iconst (v := zI 1) hC dX12_endsLine_69 rfl ?_
        refine g_goto (tgt := 74) hC dX12_endsLine_70 (by decide) ?_
        exact zr_zret hC hZ (Or.inr rfl) h8 dX12_endsLine_74
      · have h9 := h6.2 c7
        refine g_iload_n hC dX12_endsLine_15 rfl ?_
        refine g_bipush (v := zI 11) hC dX12_endsLine_16 rfl ?_
        refine zr_icmp_eq (tgt := 69) hC Ra0 (by decide) dX12_endsLine_18 (by decide) (fun c10 => ?_) (fun c10 => ?_)
        · have h11 := h9.1 c10
          refine g_iconst (v := zI 1) hC dX12_endsLine_69 rfl ?_
          refine g_goto (tgt := 74) hC dX12_endsLine_70 (by decide) ?_
          exact zr_zret hC hZ (Or.inr rfl) h11 dX12_endsLine_74
        · have h12 := h9.2 c10
          refine g_iload_n hC dX12_endsLine_21 rfl ?_
          refine g_bipush (v := zI 13) hC dX12_endsLine_22 rfl ?_
          refine zr_icmp_eq (tgt := 69) hC Ra0 (by decide) dX12_endsLine_24 (by decide) (fun c13 => ?_) (fun c13 => ?_)
          · have h14 := h12.1 c13
            refine g_iconst (v := zI 1) hC dX12_endsLine_69 rfl ?_
            refine g_goto (tgt := 74) hC dX12_endsLine_70 (by decide) ?_
            exact zr_zret hC hZ (Or.inr rfl) h14 dX12_endsLine_74
          · have h15 := h12.2 c13
            refine g_iload_n hC dX12_endsLine_27 rfl ?_
            refine g_bipush (v := zI 74) hC dX12_endsLine_28 rfl ?_
            refine zr_icmp_eq (tgt := 69) hC Ra0 (by decide) dX12_endsLine_30 (by decide) (fun c16 => ?_) (fun c16 => ?_)
            · have h17 := h15.1 c16
              refine g_iconst (v := zI 1) hC dX12_endsLine_69 rfl ?_
              refine g_goto (tgt := 74) hC dX12_endsLine_70 (by decide) ?_
              exact zr_zret hC hZ (Or.inr rfl) h17 dX12_endsLine_74
            · have h18 := h15.2 c16
              refine g_iload_n hC dX12_endsLine_33 rfl ?_
              refine g_bipush (v := zI 75) hC dX12_endsLine_34 rfl ?_
              refine zr_icmp_eq (tgt := 69) hC Ra0 (by decide) dX12_endsLine_36 (by decide) (fun c19 => ?_) (fun c19 => ?_)
              · have h20 := h18.1 c19
                refine g_iconst (v := zI 1) hC dX12_endsLine_69 rfl ?_
                refine g_goto (tgt := 74) hC dX12_endsLine_70 (by decide) ?_
                exact zr_zret hC hZ (Or.inr rfl) h20 dX12_endsLine_74
              · have h21 := h18.2 c19
                refine g_iload_n hC dX12_endsLine_39 rfl ?_
                refine g_bipush (v := zI 61) hC dX12_endsLine_40 rfl ?_
                refine zr_icmp_eq (tgt := 69) hC Ra0 (by decide) dX12_endsLine_42 (by decide) (fun c22 => ?_) (fun c22 => ?_)
                · have h23 := h21.1 c22
                  refine g_iconst (v := zI 1) hC dX12_endsLine_69 rfl ?_
                  refine g_goto (tgt := 74) hC dX12_endsLine_70 (by decide) ?_
                  exact zr_zret hC hZ (Or.inr rfl) h23 dX12_endsLine_74
                · have h24 := h21.2 c22
                  refine g_iload_n hC dX12_endsLine_45 rfl ?_
                  refine g_bipush (v := zI 62) hC dX12_endsLine_46 rfl ?_
                  refine zr_icmp_eq (tgt := 69) hC Ra0 (by decide) dX12_endsLine_48 (by decide) (fun c25 => ?_) (fun c25 => ?_)
                  · have h26 := h24.1 c25
                    refine g_iconst (v := zI 1) hC dX12_endsLine_69 rfl ?_
                    refine g_goto (tgt := 74) hC dX12_endsLine_70 (by decide) ?_
                    exact zr_zret hC hZ (Or.inr rfl) h26 dX12_endsLine_74
                  · have h27 := h24.2 c25
                    refine g_iload_n hC dX12_endsLine_51 rfl ?_
                    refine g_bipush (v := zI 63) hC dX12_endsLine_52 rfl ?_
                    refine zr_icmp_eq (tgt := 69) hC Ra0 (by decide) dX12_endsLine_54 (by decide) (fun c28 => ?_) (fun c28 => ?_)
                    · have h29 := h27.1 c28
                      refine g_iconst (v := zI 1) hC dX12_endsLine_69 rfl ?_
                      refine g_goto (tgt := 74) hC dX12_endsLine_70 (by decide) ?_
                      exact zr_zret hC hZ (Or.inr rfl) h29 dX12_endsLine_74
                    · have h30 := h27.2 c28
                      refine g_iload_n hC dX12_endsLine_57 rfl ?_
                      refine g_bipush (v := zI 64) hC dX12_endsLine_58 rfl ?_
                      refine zr_icmp_eq (tgt := 69) hC Ra0 (by decide) dX12_endsLine_60 (by decide) (fun c31 => ?_) (fun c31 => ?_)
                      · have h32 := h30.1 c31
                        refine g_iconst (v := zI 1) hC dX12_endsLine_69 rfl ?_
                        refine g_goto (tgt := 74) hC dX12_endsLine_70 (by decide) ?_
                        exact zr_zret hC hZ (Or.inr rfl) h32 dX12_endsLine_74
                      · have h33 := h30.2 c31
                        refine g_iload_n hC dX12_endsLine_63 rfl ?_
                        refine g_bipush (v := zI 66) hC dX12_endsLine_64 rfl ?_
                        refine zr_icmp_ne (tgt := 73) hC Ra0 (by decide) dX12_endsLine_66 (by decide) (fun c34 => ?_) (fun c34 => ?_)
                        · have h35 := h33.1 c34
                          refine g_iconst (v := zI 0) hC dX12_endsLine_73 rfl ?_
                          exact zr_zret hC hZ (Or.inl rfl) h35 dX12_endsLine_74
                        · have h36 := h33.2 c34
                          refine g_iconst (v := zI 1) hC dX12_endsLine_69 rfl ?_
                          refine g_goto (tgt := 74) hC dX12_endsLine_70 (by decide) ?_
                          exact zr_zret hC hZ (Or.inr rfl) h36 dX12_endsLine_74
theorem dX12_isDoless_0 : decode cX12_isDoless 0 = .ok (.iload_n 0, 1) := by decide +kernel
theorem dX12_isDoless_1 : decode cX12_isDoless 1 = .ok (.bipush 10, 2) := by decide +kernel
theorem dX12_isDoless_3 : decode cX12_isDoless 3 = .ok (.if_icmp .eq 87, 3) := by decide +kernel
theorem dX12_isDoless_6 : decode cX12_isDoless 6 = .ok (.iload_n 0, 1) := by decide +kernel
theorem dX12_isDoless_7 : decode cX12_isDoless 7 = .ok (.bipush 47, 2) := by decide +kernel
theorem dX12_isDoless_9 : decode cX12_isDoless 9 = .ok (.if_icmp .eq 81, 3) := by decide +kernel
theorem dX12_isDoless_12 : decode cX12_isDoless 12 = .ok (.iload_n 0, 1) := by decide +kernel
theorem dX12_isDoless_13 : decode cX12_isDoless 13 = .ok (.bipush 49, 2) := by decide +kernel
theorem dX12_isDoless_15 : decode cX12_isDoless 15 = .ok (.if_icmp .eq 75, 3) := by decide +kernel
theorem dX12_isDoless_18 : decode cX12_isDoless 18 = .ok (.iload_n 0, 1) := by decide +kernel
theorem dX12_isDoless_19 : decode cX12_isDoless 19 = .ok (.bipush 50, 2) := by decide +kernel
theorem dX12_isDoless_21 : decode cX12_isDoless 21 = .ok (.if_icmp .eq 69, 3) := by decide +kernel
theorem dX12_isDoless_24 : decode cX12_isDoless 24 = .ok (.iload_n 0, 1) := by decide +kernel
theorem dX12_isDoless_25 : decode cX12_isDoless 25 = .ok (.bipush 52, 2) := by decide +kernel
theorem dX12_isDoless_27 : decode cX12_isDoless 27 = .ok (.if_icmp .eq 63, 3) := by decide +kernel
theorem dX12_isDoless_30 : decode cX12_isDoless 30 = .ok (.iload_n 0, 1) := by decide +kernel
theorem dX12_isDoless_31 : decode cX12_isDoless 31 = .ok (.bipush 53, 2) := by decide +kernel
theorem dX12_isDoless_33 : decode cX12_isDoless 33 = .ok (.if_icmp .eq 57, 3) := by decide +kernel
theorem dX12_isDoless_36 : decode cX12_isDoless 36 = .ok (.iload_n 0, 1) := by decide +kernel
theorem dX12_isDoless_37 : decode cX12_isDoless 37 = .ok (.bipush 54, 2) := by decide +kernel
theorem dX12_isDoless_39 : decode cX12_isDoless 39 = .ok (.if_icmp .eq 51, 3) := by decide +kernel
theorem dX12_isDoless_42 : decode cX12_isDoless 42 = .ok (.iload_n 0, 1) := by decide +kernel
theorem dX12_isDoless_43 : decode cX12_isDoless 43 = .ok (.bipush 57, 2) := by decide +kernel
theorem dX12_isDoless_45 : decode cX12_isDoless 45 = .ok (.if_icmp .eq 45, 3) := by decide +kernel
theorem dX12_isDoless_48 : decode cX12_isDoless 48 = .ok (.iload_n 0, 1) := by decide +kernel
theorem dX12_isDoless_49 : decode cX12_isDoless 49 = .ok (.bipush 61, 2) := by decide +kernel
theorem dX12_isDoless_51 : decode cX12_isDoless 51 = .ok (.if_icmp .eq 39, 3) := by decide +kernel
theorem dX12_isDoless_54 : decode cX12_isDoless 54 = .ok (.iload_n 0, 1) := by decide +kernel
theorem dX12_isDoless_55 : decode cX12_isDoless 55 = .ok (.bipush 62, 2) := by decide +kernel
theorem dX12_isDoless_57 : decode cX12_isDoless 57 = .ok (.if_icmp .eq 33, 3) := by decide +kernel
theorem dX12_isDoless_60 : decode cX12_isDoless 60 = .ok (.iload_n 0, 1) := by decide +kernel
theorem dX12_isDoless_61 : decode cX12_isDoless 61 = .ok (.bipush 63, 2) := by decide +kernel
theorem dX12_isDoless_63 : decode cX12_isDoless 63 = .ok (.if_icmp .eq 27, 3) := by decide +kernel
theorem dX12_isDoless_66 : decode cX12_isDoless 66 = .ok (.iload_n 0, 1) := by decide +kernel
theorem dX12_isDoless_67 : decode cX12_isDoless 67 = .ok (.bipush 64, 2) := by decide +kernel
theorem dX12_isDoless_69 : decode cX12_isDoless 69 = .ok (.if_icmp .eq 21, 3) := by decide +kernel
theorem dX12_isDoless_72 : decode cX12_isDoless 72 = .ok (.iload_n 0, 1) := by decide +kernel
theorem dX12_isDoless_73 : decode cX12_isDoless 73 = .ok (.bipush 65, 2) := by decide +kernel
theorem dX12_isDoless_75 : decode cX12_isDoless 75 = .ok (.if_icmp .eq 15, 3) := by decide +kernel
theorem dX12_isDoless_78 : decode cX12_isDoless 78 = .ok (.iload_n 0, 1) := by decide +kernel
theorem dX12_isDoless_79 : decode cX12_isDoless 79 = .ok (.bipush 66, 2) := by decide +kernel
theorem dX12_isDoless_81 : decode cX12_isDoless 81 = .ok (.if_icmp .eq 9, 3) := by decide +kernel
theorem dX12_isDoless_84 : decode cX12_isDoless 84 = .ok (.iload_n 0, 1) := by decide +kernel
theorem dX12_isDoless_85 : decode cX12_isDoless 85 = .ok (.bipush 67, 2) := by decide +kernel
theorem dX12_isDoless_87 : decode cX12_isDoless 87 = .ok (.if_icmp .ne 7, 3) := by decide +kernel
theorem dX12_isDoless_90 : decode cX12_isDoless 90 = .ok (.iconst 1, 1) := by decide +kernel
theorem dX12_isDoless_91 : decode cX12_isDoless 91 = .ok (.goto 4, 3) := by decide +kernel
theorem dX12_isDoless_94 : decode cX12_isDoless 94 = .ok (.iconst 0, 1) := by decide +kernel
theorem dX12_isDoless_95 : decode cX12_isDoless 95 = .ok (.ireturn, 1) := by decide +kernel
def wr_isDoless (s0 : zS) (a0 : Int) (Q : Int → zS → Prop) : Prop :=
  ((a0 = 10 → Q 1 s0) ∧ (¬ a0 = 10 → ((a0 = 47 → Q 1 s0) ∧ (¬ a0 = 47 → ((a0 = 49 → Q 1 s0) ∧ (¬ a0 = 49 → ((a0 = 50 → Q 1 s0) ∧ (¬ a0 = 50 → ((a0 = 52 → Q 1 s0) ∧ (¬ a0 = 52 → ((a0 = 53 → Q 1 s0) ∧ (¬ a0 = 53 → ((a0 = 54 → Q 1 s0) ∧ (¬ a0 = 54 → ((a0 = 57 → Q 1 s0) ∧ (¬ a0 = 57 → ((a0 = 61 → Q 1 s0) ∧ (¬ a0 = 61 → ((a0 = 62 → Q 1 s0) ∧ (¬ a0 = 62 → ((a0 = 63 → Q 1 s0) ∧ (¬ a0 = 63 → ((a0 = 64 → Q 1 s0) ∧ (¬ a0 = 64 → ((a0 = 65 → Q 1 s0) ∧ (¬ a0 = 65 → ((a0 = 66 → Q 1 s0) ∧ (¬ a0 = 66 → ((¬ a0 = 67 → Q 0 s0) ∧ (a0 = 67 → Q 1 s0))))))))))))))))))))))))))))))
set_option maxHeartbeats 4000000 in
set_option maxRecDepth 100000 in
theorem rm_isDoless (l : Launch) (d : gD) (b : Nat) {t : Nat} {T : Nat → Nat} {F : gM} {s0 : zS} {a0 : Int} (Ra0 : zR a0) {Q : Int → zS → Prop} (hZ : zZ d t T F F s0) (hw : wr_isDoless s0 a0 Q) : gMi l d b yX12_isDoless cX12_isDoless 1 .boolean 0 0 0 F [.int (zI a0)] (zPi d t T F Q) := by
  refine gM_of2 rfl (nL := 1) (Nat.le_of_ble_eq_true rfl) ?_
  intro X hX hC; subst hX
  show gG X d b (zQi X d b t T F Q) F 0 0 0 [some (.int (zI a0))] []
  unfold wr_isDoless at hw
  refine g_iload_n hC dX12_isDoless_0 rfl ?_
  refine g_bipush (v := zI 10) hC dX12_isDoless_1 rfl ?_
  refine zr_icmp_eq (tgt := 90) hC Ra0 (by decide) dX12_isDoless_3 (by decide) (fun c1 => ?_) (fun c1 => ?_)
  · have h2 := hw.1 c1
    refine g_iconst (v := zI 1) hC dX12_isDoless_90 rfl ?_
    refine g_goto (tgt := 95) hC dX12_isDoless_91 (by decide) ?_
    exact zr_zret hC hZ (Or.inr rfl) h2 dX12_isDoless_95
  · have h3 := hw.2 c1
    refine g_iload_n hC dX12_isDoless_6 rfl ?_
    refine g_bipush (v := zI 47) hC dX12_isDoless_7 rfl ?_
    refine zr_icmp_eq (tgt := 90) hC Ra0 (by decide) dX12_isDoless_9 (by decide) (fun c4 => ?_) (fun c4 => ?_)
    · have h5 := h3.1 c4
      refine g_iconst (v := zI 1) hC dX12_isDoless_90 rfl ?_
      refine g_goto (tgt := 95) hC dX12_isDoless_91 (by decide) ?_
      exact zr_zret hC hZ (Or.inr rfl) h5 dX12_isDoless_95
    · have h6 := h3.2 c4
      refine g_iload_n hC dX12_isDoless_12 rfl ?_
      refine g_bipush (v := zI 49) hC dX12_isDoless_13 rfl ?_
      refine zr_icmp_eq (tgt := 90) hC Ra0 (by decide) dX12_isDoless_15 (by decide) (fun c7 => ?_) (fun c7 => ?_)
      · have h8 := h6.1 c7
        refine g_iconst (v := zI 1) hC dX12_isDoless_90 rfl ?_
        refine g_goto (tgt := 95) hC dX12_isDoless_91 (by decide) ?_
        exact zr_zret hC hZ (Or.inr rfl) h8 dX12_isDoless_95
      · have h9 := h6.2 c7
        refine g_iload_n hC dX12_isDoless_18 rfl ?_
        refine g_bipush (v := zI 50) hC dX12_isDoless_19 rfl ?_
        refine zr_icmp_eq (tgt := 90) hC Ra0 (by decide) dX12_isDoless_21 (by decide) (fun c10 => ?_) (fun c10 => ?_)
        · have h11 := h9.1 c10
          refine g_iconst (v := zI 1) hC dX12_isDoless_90 rfl ?_
          refine g_goto (tgt := 95) hC dX12_isDoless_91 (by decide) ?_
          exact zr_zret hC hZ (Or.inr rfl) h11 dX12_isDoless_95
        · have h12 := h9.2 c10
          refine g_iload_n hC dX12_isDoless_24 rfl ?_
          refine g_bipush (v := zI 52) hC dX12_isDoless_25 rfl ?_
          refine zr_icmp_eq (tgt := 90) hC Ra0 (by decide) dX12_isDoless_27 (by decide) (fun c13 => ?_) (fun c13 => ?_)
          · have h14 := h12.1 c13
            refine g_iconst (v := zI 1) hC dX12_isDoless_90 rfl ?_
            refine g_goto (tgt := 95) hC dX12_isDoless_91 (by decide) ?_
            exact zr_zret hC hZ (Or.inr rfl) h14 dX12_isDoless_95
          · have h15 := h12.2 c13
            refine g_iload_n hC dX12_isDoless_30 rfl ?_
            refine g_bipush (v := zI 53) hC dX12_isDoless_31 rfl ?_
            refine zr_icmp_eq (tgt := 90) hC Ra0 (by decide) dX12_isDoless_33 (by decide) (fun c16 => ?_) (fun c16 => ?_)
            · have h17 := h15.1 c16
              refine g_iconst (v := zI 1) hC dX12_isDoless_90 rfl ?_
              refine g_goto (tgt := 95) hC dX12_isDoless_91 (by decide) ?_
              exact zr_zret hC hZ (Or.inr rfl) h17 dX12_isDoless_95
            · have h18 := h15.2 c16
              refine g_iload_n hC dX12_isDoless_36 rfl ?_
              refine g_bipush (v := zI 54) hC dX12_isDoless_37 rfl ?_
              refine zr_icmp_eq (tgt := 90) hC Ra0 (by decide) dX12_isDoless_39 (by decide) (fun c19 => ?_) (fun c19 => ?_)
              · have h20 := h18.1 c19
                refine g_iconst (v := zI 1) hC dX12_isDoless_90 rfl ?_
                refine g_goto (tgt := 95) hC dX12_isDoless_91 (by decide) ?_
                exact zr_zret hC hZ (Or.inr rfl) h20 dX12_isDoless_95
              · have h21 := h18.2 c19
                refine g_iload_n hC dX12_isDoless_42 rfl ?_
                refine g_bipush (v := zI 57) hC dX12_isDoless_43 rfl ?_
                refine zr_icmp_eq (tgt := 90) hC Ra0 (by decide) dX12_isDoless_45 (by decide) (fun c22 => ?_) (fun c22 => ?_)
                · have h23 := h21.1 c22
                  refine g_iconst (v := zI 1) hC dX12_isDoless_90 rfl ?_
                  refine g_goto (tgt := 95) hC dX12_isDoless_91 (by decide) ?_
                  exact zr_zret hC hZ (Or.inr rfl) h23 dX12_isDoless_95
                · have h24 := h21.2 c22
                  refine g_iload_n hC dX12_isDoless_48 rfl ?_
                  refine g_bipush (v := zI 61) hC dX12_isDoless_49 rfl ?_
                  refine zr_icmp_eq (tgt := 90) hC Ra0 (by decide) dX12_isDoless_51 (by decide) (fun c25 => ?_) (fun c25 => ?_)
                  · have h26 := h24.1 c25
                    refine g_iconst (v := zI 1) hC dX12_isDoless_90 rfl ?_
                    refine g_goto (tgt := 95) hC dX12_isDoless_91 (by decide) ?_
                    exact zr_zret hC hZ (Or.inr rfl) h26 dX12_isDoless_95
                  · have h27 := h24.2 c25
                    refine g_iload_n hC dX12_isDoless_54 rfl ?_
                    refine g_bipush (v := zI 62) hC dX12_isDoless_55 rfl ?_
                    refine zr_icmp_eq (tgt := 90) hC Ra0 (by decide) dX12_isDoless_57 (by decide) (fun c28 => ?_) (fun c28 => ?_)
                    · have h29 := h27.1 c28
                      refine g_iconst (v := zI 1) hC dX12_isDoless_90 rfl ?_
                      refine g_goto (tgt := 95) hC dX12_isDoless_91 (by decide) ?_
                      exact zr_zret hC hZ (Or.inr rfl) h29 dX12_isDoless_95
                    · have h30 := h27.2 c28
                      refine g_iload_n hC dX12_isDoless_60 rfl ?_
                      refine g_bipush (v := zI 63) hC dX12_isDoless_61 rfl ?_
                      refine zr_icmp_eq (tgt := 90) hC Ra0 (by decide) dX12_isDoless_63 (by decide) (fun c31 => ?_) (fun c31 => ?_)
                      · have h32 := h30.1 c31
                        refine g_iconst (v := zI 1) hC dX12_isDoless_90 rfl ?_
                        refine g_goto (tgt := 95) hC dX12_isDoless_91 (by decide) ?_
                        exact zr_zret hC hZ (Or.inr rfl) h32 dX12_isDoless_95
                      · have h33 := h30.2 c31
                        refine g_iload_n hC dX12_isDoless_66 rfl ?_
                        refine g_bipush (v := zI 64) hC dX12_isDoless_67 rfl ?_
                        refine zr_icmp_eq (tgt := 90) hC Ra0 (by decide) dX12_isDoless_69 (by decide) (fun c34 => ?_) (fun c34 => ?_)
                        · have h35 := h33.1 c34
                          refine g_iconst (v := zI 1) hC dX12_isDoless_90 rfl ?_
                          refine g_goto (tgt := 95) hC dX12_isDoless_91 (by decide) ?_
                          exact zr_zret hC hZ (Or.inr rfl) h35 dX12_isDoless_95
                        · have h36 := h33.2 c34
                          refine g_iload_n hC dX12_isDoless_72 rfl ?_
                          refine g_bipush (v := zI 65) hC dX12_isDoless_73 rfl ?_
                          refine zr_icmp_eq (tgt := 90) hC Ra0 (by decide) dX12_isDoless_75 (by decide) (fun c37 => ?_) (fun c37 => ?_)
                          · have h38 := h36.1 c37
                            refine g_iconst (v := zI 1) hC dX12_isDoless_90 rfl ?_
                            refine g_goto (tgt := 95) hC dX12_isDoless_91 (by decide) ?_
                            exact zr_zret hC hZ (Or.inr rfl) h38 dX12_isDoless_95
                          · have h39 := h36.2 c37
                            refine g_iload_n hC dX12_isDoless_78 rfl ?_
                            refine g_bipush (v := zI 66) hC dX12_isDoless_79 rfl ?_
                            refine zr_icmp_eq (tgt := 90) hC Ra0 (by decide) dX12_isDoless_81 (by decide) (fun c40 => ?_) (fun c40 => ?_)
                            · have h41 := h39.1 c40
                              refine g_iconst (v := zI 1) hC dX12_isDoless_90 rfl ?_
                              refine g_goto (tgt := 95) hC dX12_isDoless_91 (by decide) ?_
                              exact zr_zret hC hZ (Or.inr rfl) h41 dX12_isDoless_95
                            · have h42 := h39.2 c40
                              refine g_iload_n hC dX12_isDoless_84 rfl ?_
                              refine g_bipush (v := zI 67) hC dX12_isDoless_85 rfl ?_
                              refine zr_icmp_ne (tgt := 94) hC Ra0 (by decide) dX12_isDoless_87 (by decide) (fun c43 => ?_) (fun c43 => ?_)
                              · have h44 := h42.1 c43
                                refine g_iconst (v := zI 0) hC dX12_isDoless_94 rfl ?_
                                exact zr_zret hC hZ (Or.inl rfl) h44 dX12_isDoless_95
                              · have h45 := h42.2 c43
                                refine g_iconst (v := zI 1) hC dX12_isDoless_90 rfl ?_
                                refine g_goto (tgt := 95) hC dX12_isDoless_91 (by decide) ?_
                                exact zr_zret hC hZ (Or.inr rfl) h45 dX12_isDoless_95
theorem dX12_isBeginning_0 : decode cX12_isBeginning 0 = .ok (.iload_n 0, 1) := by decide +kernel
theorem dX12_isBeginning_1 : decode cX12_isBeginning 1 = .ok (.iconst 1, 1) := by decide +kernel
theorem dX12_isBeginning_2 : decode cX12_isBeginning 2 = .ok (.if_icmp .eq 37, 3) := by decide +kernel
theorem dX12_isBeginning_5 : decode cX12_isBeginning 5 = .ok (.iload_n 0, 1) := by decide +kernel
theorem dX12_isBeginning_6 : decode cX12_isBeginning 6 = .ok (.iconst 2, 1) := by decide +kernel
theorem dX12_isBeginning_7 : decode cX12_isBeginning 7 = .ok (.if_icmp .eq 32, 3) := by decide +kernel
theorem dX12_isBeginning_10 : decode cX12_isBeginning 10 = .ok (.iload_n 0, 1) := by decide +kernel
theorem dX12_isBeginning_11 : decode cX12_isBeginning 11 = .ok (.iconst 4, 1) := by decide +kernel
theorem dX12_isBeginning_12 : decode cX12_isBeginning 12 = .ok (.if_icmp .eq 27, 3) := by decide +kernel
theorem dX12_isBeginning_15 : decode cX12_isBeginning 15 = .ok (.iload_n 0, 1) := by decide +kernel
theorem dX12_isBeginning_16 : decode cX12_isBeginning 16 = .ok (.bipush 12, 2) := by decide +kernel
theorem dX12_isBeginning_18 : decode cX12_isBeginning 18 = .ok (.if_icmp .eq 21, 3) := by decide +kernel
theorem dX12_isBeginning_21 : decode cX12_isBeginning 21 = .ok (.iload_n 0, 1) := by decide +kernel
theorem dX12_isBeginning_22 : decode cX12_isBeginning 22 = .ok (.bipush 18, 2) := by decide +kernel
theorem dX12_isBeginning_24 : decode cX12_isBeginning 24 = .ok (.if_icmp .eq 15, 3) := by decide +kernel
theorem dX12_isBeginning_27 : decode cX12_isBeginning 27 = .ok (.iload_n 0, 1) := by decide +kernel
theorem dX12_isBeginning_28 : decode cX12_isBeginning 28 = .ok (.bipush 20, 2) := by decide +kernel
theorem dX12_isBeginning_30 : decode cX12_isBeginning 30 = .ok (.if_icmp .eq 9, 3) := by decide +kernel
theorem dX12_isBeginning_33 : decode cX12_isBeginning 33 = .ok (.iload_n 0, 1) := by decide +kernel
theorem dX12_isBeginning_34 : decode cX12_isBeginning 34 = .ok (.bipush 10, 2) := by decide +kernel
theorem dX12_isBeginning_36 : decode cX12_isBeginning 36 = .ok (.if_icmp .ne 5, 3) := by decide +kernel
theorem dX12_isBeginning_39 : decode cX12_isBeginning 39 = .ok (.iconst 1, 1) := by decide +kernel
theorem dX12_isBeginning_40 : decode cX12_isBeginning 40 = .ok (.ireturn, 1) := by decide +kernel
theorem dX12_isBeginning_41 : decode cX12_isBeginning 41 = .ok (.iload_n 0, 1) := by decide +kernel
theorem dX12_isBeginning_42 : decode cX12_isBeginning 42 = .ok (.bipush 74, 2) := by decide +kernel
theorem dX12_isBeginning_44 : decode cX12_isBeginning 44 = .ok (.if_icmp .eq 33, 3) := by decide +kernel
theorem dX12_isBeginning_47 : decode cX12_isBeginning 47 = .ok (.iload_n 0, 1) := by decide +kernel
theorem dX12_isBeginning_48 : decode cX12_isBeginning 48 = .ok (.bipush 75, 2) := by decide +kernel
theorem dX12_isBeginning_50 : decode cX12_isBeginning 50 = .ok (.if_icmp .eq 27, 3) := by decide +kernel
theorem dX12_isBeginning_53 : decode cX12_isBeginning 53 = .ok (.iload_n 0, 1) := by decide +kernel
theorem dX12_isBeginning_54 : decode cX12_isBeginning 54 = .ok (.bipush 76, 2) := by decide +kernel
theorem dX12_isBeginning_56 : decode cX12_isBeginning 56 = .ok (.if_icmp .eq 21, 3) := by decide +kernel
theorem dX12_isBeginning_59 : decode cX12_isBeginning 59 = .ok (.iload_n 0, 1) := by decide +kernel
theorem dX12_isBeginning_60 : decode cX12_isBeginning 60 = .ok (.bipush 77, 2) := by decide +kernel
theorem dX12_isBeginning_62 : decode cX12_isBeginning 62 = .ok (.if_icmp .eq 15, 3) := by decide +kernel
theorem dX12_isBeginning_65 : decode cX12_isBeginning 65 = .ok (.iload_n 0, 1) := by decide +kernel
theorem dX12_isBeginning_66 : decode cX12_isBeginning 66 = .ok (.bipush 59, 2) := by decide +kernel
theorem dX12_isBeginning_68 : decode cX12_isBeginning 68 = .ok (.if_icmp .eq 9, 3) := by decide +kernel
theorem dX12_isBeginning_71 : decode cX12_isBeginning 71 = .ok (.iload_n 0, 1) := by decide +kernel
theorem dX12_isBeginning_72 : decode cX12_isBeginning 72 = .ok (.bipush 60, 2) := by decide +kernel
theorem dX12_isBeginning_74 : decode cX12_isBeginning 74 = .ok (.if_icmp .ne 5, 3) := by decide +kernel
theorem dX12_isBeginning_77 : decode cX12_isBeginning 77 = .ok (.iconst 1, 1) := by decide +kernel
theorem dX12_isBeginning_78 : decode cX12_isBeginning 78 = .ok (.ireturn, 1) := by decide +kernel
theorem dX12_isBeginning_79 : decode cX12_isBeginning 79 = .ok (.iload_n 0, 1) := by decide +kernel
theorem dX12_isBeginning_80 : decode cX12_isBeginning 80 = .ok (.invokestatic 474, 3) := by decide +kernel
theorem dX12_isBeginning_83 : decode cX12_isBeginning 83 = .ok (.ifCond .eq 9, 3) := by decide +kernel
theorem dX12_isBeginning_86 : decode cX12_isBeginning 86 = .ok (.iload_n 0, 1) := by decide +kernel
theorem dX12_isBeginning_87 : decode cX12_isBeginning 87 = .ok (.bipush 10, 2) := by decide +kernel
theorem dX12_isBeginning_89 : decode cX12_isBeginning 89 = .ok (.if_icmp .ne 27, 3) := by decide +kernel
theorem dX12_isBeginning_92 : decode cX12_isBeginning 92 = .ok (.iload_n 0, 1) := by decide +kernel
theorem dX12_isBeginning_93 : decode cX12_isBeginning 93 = .ok (.bipush 43, 2) := by decide +kernel
theorem dX12_isBeginning_95 : decode cX12_isBeginning 95 = .ok (.if_icmp .eq 21, 3) := by decide +kernel
theorem dX12_isBeginning_98 : decode cX12_isBeginning 98 = .ok (.iload_n 0, 1) := by decide +kernel
theorem dX12_isBeginning_99 : decode cX12_isBeginning 99 = .ok (.bipush 40, 2) := by decide +kernel
theorem dX12_isBeginning_101 : decode cX12_isBeginning 101 = .ok (.if_icmp .eq 15, 3) := by decide +kernel
theorem dX12_isBeginning_104 : decode cX12_isBeginning 104 = .ok (.iload_n 0, 1) := by decide +kernel
theorem dX12_isBeginning_105 : decode cX12_isBeginning 105 = .ok (.bipush 41, 2) := by decide +kernel
theorem dX12_isBeginning_107 : decode cX12_isBeginning 107 = .ok (.if_icmp .eq 9, 3) := by decide +kernel
theorem dX12_isBeginning_110 : decode cX12_isBeginning 110 = .ok (.iload_n 0, 1) := by decide +kernel
theorem dX12_isBeginning_111 : decode cX12_isBeginning 111 = .ok (.bipush 42, 2) := by decide +kernel
theorem dX12_isBeginning_113 : decode cX12_isBeginning 113 = .ok (.if_icmp .ne 7, 3) := by decide +kernel
theorem dX12_isBeginning_116 : decode cX12_isBeginning 116 = .ok (.iconst 1, 1) := by decide +kernel
theorem dX12_isBeginning_117 : decode cX12_isBeginning 117 = .ok (.goto 4, 3) := by decide +kernel
theorem dX12_isBeginning_120 : decode cX12_isBeginning 120 = .ok (.iconst 0, 1) := by decide +kernel
theorem dX12_isBeginning_121 : decode cX12_isBeginning 121 = .ok (.ireturn, 1) := by decide +kernel
def wr_isBeginning_92 (Q : Int → zS → Prop)  (s0 : zS) (x0 : Int) : Prop :=
  ((x0 = 43 → Q 1 s0) ∧ (¬ x0 = 43 → ((x0 = 40 → Q 1 s0) ∧ (¬ x0 = 40 → ((x0 = 41 → Q 1 s0) ∧ (¬ x0 = 41 → ((¬ x0 = 42 → Q 0 s0) ∧ (x0 = 42 → Q 1 s0))))))))
def wr_isBeginning (s0 : zS) (a0 : Int) (Q : Int → zS → Prop) : Prop :=
  ((a0 = 1 → Q 1 s0) ∧ (¬ a0 = 1 → ((a0 = 2 → Q 1 s0) ∧ (¬ a0 = 2 → ((a0 = 4 → Q 1 s0) ∧ (¬ a0 = 4 → ((a0 = 12 → Q 1 s0) ∧ (¬ a0 = 12 → ((a0 = 18 → Q 1 s0) ∧ (¬ a0 = 18 → ((a0 = 20 → Q 1 s0) ∧ (¬ a0 = 20 → ((¬ a0 = 10 → ((a0 = 74 → Q 1 s0) ∧ (¬ a0 = 74 → ((a0 = 75 → Q 1 s0) ∧ (¬ a0 = 75 → ((a0 = 76 → Q 1 s0) ∧ (¬ a0 = 76 → ((a0 = 77 → Q 1 s0) ∧ (¬ a0 = 77 → ((a0 = 59 → Q 1 s0) ∧ (¬ a0 = 59 → ((¬ a0 = 60 → wr_isDoless s0 a0 (fun r38 s39 => ((r38 = 0 → wr_isBeginning_92 Q  s39 a0) ∧ (¬ r38 = 0 → ((¬ a0 = 10 → Q 1 s39) ∧ (a0 = 10 → wr_isBeginning_92 Q  s39 a0)))))) ∧ (a0 = 60 → Q 1 s0))))))))))))) ∧ (a0 = 10 → Q 1 s0))))))))))))))
set_option maxHeartbeats 4000000 in
set_option maxRecDepth 100000 in
theorem rj_isBeginning_92 {X : gX} {d : gD} {b t : Nat} {T : Nat → Nat} {F0 : gM} (hC : gC RX12 cX12_isBeginning 1 (some .boolean) "isBeginning" (gR 1 0 0) d b X) {Q : Int → zS → Prop}   {F : gM} {s0 : zS} {x0 : Int} (Rx0 : zR x0) (hZ : zZ d t T F0 F s0) (hw : wr_isBeginning_92 Q  s0 x0) : gG X d b (zQi X d b t T F0 Q) F 0 0 92 [some (.int (zI x0))] [] := by
  unfold wr_isBeginning_92 at hw
  refine g_iload_n hC dX12_isBeginning_92 rfl ?_
  refine g_bipush (v := zI 43) hC dX12_isBeginning_93 rfl ?_
  refine zr_icmp_eq (tgt := 116) hC Rx0 (by decide) dX12_isBeginning_95 (by decide) (fun c1 => ?_) (fun c1 => ?_)
  · have h2 := hw.1 c1
    refine g_iconst (v := zI 1) hC dX12_isBeginning_116 rfl ?_
    refine g_goto (tgt := 121) hC dX12_isBeginning_117 (by decide) ?_
    exact zr_zret hC hZ (Or.inr rfl) h2 dX12_isBeginning_121
  · have h3 := hw.2 c1
    refine g_iload_n hC dX12_isBeginning_98 rfl ?_
    refine g_bipush (v := zI 40) hC dX12_isBeginning_99 rfl ?_
    refine zr_icmp_eq (tgt := 116) hC Rx0 (by decide) dX12_isBeginning_101 (by decide) (fun c4 => ?_) (fun c4 => ?_)
    · have h5 := h3.1 c4
      refine g_iconst (v := zI 1) hC dX12_isBeginning_116 rfl ?_
      refine g_goto (tgt := 121) hC dX12_isBeginning_117 (by decide) ?_
      exact zr_zret hC hZ (Or.inr rfl) h5 dX12_isBeginning_121
    · have h6 := h3.2 c4
      refine g_iload_n hC dX12_isBeginning_104 rfl ?_
      refine g_bipush (v := zI 41) hC dX12_isBeginning_105 rfl ?_
      refine zr_icmp_eq (tgt := 116) hC Rx0 (by decide) dX12_isBeginning_107 (by decide) (fun c7 => ?_) (fun c7 => ?_)
      · have h8 := h6.1 c7
        refine g_iconst (v := zI 1) hC dX12_isBeginning_116 rfl ?_
        refine g_goto (tgt := 121) hC dX12_isBeginning_117 (by decide) ?_
        exact zr_zret hC hZ (Or.inr rfl) h8 dX12_isBeginning_121
      · have h9 := h6.2 c7
        refine g_iload_n hC dX12_isBeginning_110 rfl ?_
        refine g_bipush (v := zI 42) hC dX12_isBeginning_111 rfl ?_
        refine zr_icmp_ne (tgt := 120) hC Rx0 (by decide) dX12_isBeginning_113 (by decide) (fun c10 => ?_) (fun c10 => ?_)
        · have h11 := h9.1 c10
          refine g_iconst (v := zI 0) hC dX12_isBeginning_120 rfl ?_
          exact zr_zret hC hZ (Or.inl rfl) h11 dX12_isBeginning_121
        · have h12 := h9.2 c10
          refine g_iconst (v := zI 1) hC dX12_isBeginning_116 rfl ?_
          refine g_goto (tgt := 121) hC dX12_isBeginning_117 (by decide) ?_
          exact zr_zret hC hZ (Or.inr rfl) h12 dX12_isBeginning_121
set_option maxHeartbeats 4000000 in
set_option maxRecDepth 100000 in
theorem rm_isBeginning (l : Launch) (d : gD) (b : Nat) {t : Nat} {T : Nat → Nat} {F : gM} {s0 : zS} {a0 : Int} (Ra0 : zR a0) {Q : Int → zS → Prop} (hZ : zZ d t T F F s0) (hw : wr_isBeginning s0 a0 Q) : gMi l d b yX12_isBeginning cX12_isBeginning 1 .boolean 1 0 0 F [.int (zI a0)] (zPi d t T F Q) := by
  refine gM_of2 rfl (nL := 1) (Nat.le_of_ble_eq_true rfl) ?_
  intro X hX hC; subst hX
  show gG X d b (zQi X d b t T F Q) F 0 0 0 [some (.int (zI a0))] []
  unfold wr_isBeginning at hw
  refine g_iload_n hC dX12_isBeginning_0 rfl ?_
  refine g_iconst (v := zI 1) hC dX12_isBeginning_1 rfl ?_
  refine zr_icmp_eq (tgt := 39) hC Ra0 (by decide) dX12_isBeginning_2 (by decide) (fun c1 => ?_) (fun c1 => ?_)
  · have h2 := hw.1 c1
    refine g_iconst (v := zI 1) hC dX12_isBeginning_39 rfl ?_
    exact zr_zret hC hZ (Or.inr rfl) h2 dX12_isBeginning_40
  · have h3 := hw.2 c1
    refine g_iload_n hC dX12_isBeginning_5 rfl ?_
    refine g_iconst (v := zI 2) hC dX12_isBeginning_6 rfl ?_
    refine zr_icmp_eq (tgt := 39) hC Ra0 (by decide) dX12_isBeginning_7 (by decide) (fun c4 => ?_) (fun c4 => ?_)
    · have h5 := h3.1 c4
      refine g_iconst (v := zI 1) hC dX12_isBeginning_39 rfl ?_
      exact zr_zret hC hZ (Or.inr rfl) h5 dX12_isBeginning_40
    · have h6 := h3.2 c4
      refine g_iload_n hC dX12_isBeginning_10 rfl ?_
      refine g_iconst (v := zI 4) hC dX12_isBeginning_11 rfl ?_
      refine zr_icmp_eq (tgt := 39) hC Ra0 (by decide) dX12_isBeginning_12 (by decide) (fun c7 => ?_) (fun c7 => ?_)
      · have h8 := h6.1 c7
        refine g_iconst (v := zI 1) hC dX12_isBeginning_39 rfl ?_
        exact zr_zret hC hZ (Or.inr rfl) h8 dX12_isBeginning_40
      · have h9 := h6.2 c7
        refine g_iload_n hC dX12_isBeginning_15 rfl ?_
        refine g_bipush (v := zI 12) hC dX12_isBeginning_16 rfl ?_
        refine zr_icmp_eq (tgt := 39) hC Ra0 (by decide) dX12_isBeginning_18 (by decide) (fun c10 => ?_) (fun c10 => ?_)
        · have h11 := h9.1 c10
          refine g_iconst (v := zI 1) hC dX12_isBeginning_39 rfl ?_
          exact zr_zret hC hZ (Or.inr rfl) h11 dX12_isBeginning_40
        · have h12 := h9.2 c10
          refine g_iload_n hC dX12_isBeginning_21 rfl ?_
          refine g_bipush (v := zI 18) hC dX12_isBeginning_22 rfl ?_
          refine zr_icmp_eq (tgt := 39) hC Ra0 (by decide) dX12_isBeginning_24 (by decide) (fun c13 => ?_) (fun c13 => ?_)
          · have h14 := h12.1 c13
            refine g_iconst (v := zI 1) hC dX12_isBeginning_39 rfl ?_
            exact zr_zret hC hZ (Or.inr rfl) h14 dX12_isBeginning_40
          · have h15 := h12.2 c13
            refine g_iload_n hC dX12_isBeginning_27 rfl ?_
            refine g_bipush (v := zI 20) hC dX12_isBeginning_28 rfl ?_
            refine zr_icmp_eq (tgt := 39) hC Ra0 (by decide) dX12_isBeginning_30 (by decide) (fun c16 => ?_) (fun c16 => ?_)
            · have h17 := h15.1 c16
              refine g_iconst (v := zI 1) hC dX12_isBeginning_39 rfl ?_
              exact zr_zret hC hZ (Or.inr rfl) h17 dX12_isBeginning_40
            · have h18 := h15.2 c16
              refine g_iload_n hC dX12_isBeginning_33 rfl ?_
              refine g_bipush (v := zI 10) hC dX12_isBeginning_34 rfl ?_
              refine zr_icmp_ne (tgt := 41) hC Ra0 (by decide) dX12_isBeginning_36 (by decide) (fun c19 => ?_) (fun c19 => ?_)
              · have h20 := h18.1 c19
                refine g_iload_n hC dX12_isBeginning_41 rfl ?_
                refine g_bipush (v := zI 74) hC dX12_isBeginning_42 rfl ?_
                refine zr_icmp_eq (tgt := 77) hC Ra0 (by decide) dX12_isBeginning_44 (by decide) (fun c21 => ?_) (fun c21 => ?_)
                · have h22 := h20.1 c21
                  refine g_iconst (v := zI 1) hC dX12_isBeginning_77 rfl ?_
                  exact zr_zret hC hZ (Or.inr rfl) h22 dX12_isBeginning_78
                · have h23 := h20.2 c21
                  refine g_iload_n hC dX12_isBeginning_47 rfl ?_
                  refine g_bipush (v := zI 75) hC dX12_isBeginning_48 rfl ?_
                  refine zr_icmp_eq (tgt := 77) hC Ra0 (by decide) dX12_isBeginning_50 (by decide) (fun c24 => ?_) (fun c24 => ?_)
                  · have h25 := h23.1 c24
                    refine g_iconst (v := zI 1) hC dX12_isBeginning_77 rfl ?_
                    exact zr_zret hC hZ (Or.inr rfl) h25 dX12_isBeginning_78
                  · have h26 := h23.2 c24
                    refine g_iload_n hC dX12_isBeginning_53 rfl ?_
                    refine g_bipush (v := zI 76) hC dX12_isBeginning_54 rfl ?_
                    refine zr_icmp_eq (tgt := 77) hC Ra0 (by decide) dX12_isBeginning_56 (by decide) (fun c27 => ?_) (fun c27 => ?_)
                    · have h28 := h26.1 c27
                      refine g_iconst (v := zI 1) hC dX12_isBeginning_77 rfl ?_
                      exact zr_zret hC hZ (Or.inr rfl) h28 dX12_isBeginning_78
                    · have h29 := h26.2 c27
                      refine g_iload_n hC dX12_isBeginning_59 rfl ?_
                      refine g_bipush (v := zI 77) hC dX12_isBeginning_60 rfl ?_
                      refine zr_icmp_eq (tgt := 77) hC Ra0 (by decide) dX12_isBeginning_62 (by decide) (fun c30 => ?_) (fun c30 => ?_)
                      · have h31 := h29.1 c30
                        refine g_iconst (v := zI 1) hC dX12_isBeginning_77 rfl ?_
                        exact zr_zret hC hZ (Or.inr rfl) h31 dX12_isBeginning_78
                      · have h32 := h29.2 c30
                        refine g_iload_n hC dX12_isBeginning_65 rfl ?_
                        refine g_bipush (v := zI 59) hC dX12_isBeginning_66 rfl ?_
                        refine zr_icmp_eq (tgt := 77) hC Ra0 (by decide) dX12_isBeginning_68 (by decide) (fun c33 => ?_) (fun c33 => ?_)
                        · have h34 := h32.1 c33
                          refine g_iconst (v := zI 1) hC dX12_isBeginning_77 rfl ?_
                          exact zr_zret hC hZ (Or.inr rfl) h34 dX12_isBeginning_78
                        · have h35 := h32.2 c33
                          refine g_iload_n hC dX12_isBeginning_71 rfl ?_
                          refine g_bipush (v := zI 60) hC dX12_isBeginning_72 rfl ?_
                          refine zr_icmp_ne (tgt := 79) hC Ra0 (by decide) dX12_isBeginning_74 (by decide) (fun c36 => ?_) (fun c36 => ?_)
                          · have h37 := h35.1 c36
                            refine g_iload_n hC dX12_isBeginning_79 rfl ?_
                            refine zr_callSi (As := [.int (zI a0)]) hC hZ (rm_isDoless X.la d b Ra0 hZ.rf h37) cl_X12_474 rfl rfl (Nat.le_of_ble_eq_true rfl) ⟨Nat.le_of_ble_eq_true rfl, Nat.le_of_ble_eq_true rfl⟩ dX12_isBeginning_80 (fun r38 s39 F40 R41 hZ42 h43 => ?_)
                            refine zr_if_eq (tgt := 92) hC R41 dX12_isBeginning_83 (by decide) (fun c44 => ?_) (fun c44 => ?_)
                            · have h45 := h43.1 c44
                              exact rj_isBeginning_92 hC  Ra0 hZ42 h45
                            · have h46 := h43.2 c44
                              refine g_iload_n hC dX12_isBeginning_86 rfl ?_
                              refine g_bipush (v := zI 10) hC dX12_isBeginning_87 rfl ?_
                              refine zr_icmp_ne (tgt := 116) hC Ra0 (by decide) dX12_isBeginning_89 (by decide) (fun c47 => ?_) (fun c47 => ?_)
                              · have h48 := h46.1 c47
                                refine g_iconst (v := zI 1) hC dX12_isBeginning_116 rfl ?_
                                refine g_goto (tgt := 121) hC dX12_isBeginning_117 (by decide) ?_
                                exact zr_zret hC hZ42 (Or.inr rfl) h48 dX12_isBeginning_121
                              · have h49 := h46.2 c47
                                exact rj_isBeginning_92 hC  Ra0 hZ42 h49
                          · have h50 := h35.2 c36
                            refine g_iconst (v := zI 1) hC dX12_isBeginning_77 rfl ?_
                            exact zr_zret hC hZ (Or.inr rfl) h50 dX12_isBeginning_78
              · have h51 := h18.2 c19
                refine g_iconst (v := zI 1) hC dX12_isBeginning_39 rfl ?_
                exact zr_zret hC hZ (Or.inr rfl) h51 dX12_isBeginning_40
theorem dX12_token_0 : decode cX12_token 0 = .ok (.aload_n 0, 1) := by decide +kernel
theorem dX12_token_1 : decode cX12_token 1 = .ok (.getfield 36, 3) := by decide +kernel
theorem dX12_token_4 : decode cX12_token 4 = .ok (.ifCond .le 69, 3) := by decide +kernel
theorem dX12_token_7 : decode cX12_token 7 = .ok (.aload_n 0, 1) := by decide +kernel
theorem dX12_token_8 : decode cX12_token 8 = .ok (.getfield 72, 3) := by decide +kernel
theorem dX12_token_11 : decode cX12_token 11 = .ok (.aload_n 0, 1) := by decide +kernel
theorem dX12_token_12 : decode cX12_token 12 = .ok (.getfield 69, 3) := by decide +kernel
theorem dX12_token_15 : decode cX12_token 15 = .ok (.if_icmp .ge 58, 3) := by decide +kernel
theorem dX12_token_18 : decode cX12_token 18 = .ok (.aload_n 0, 1) := by decide +kernel
theorem dX12_token_19 : decode cX12_token 19 = .ok (.getfield 39, 3) := by decide +kernel
theorem dX12_token_22 : decode cX12_token 22 = .ok (.aload_n 0, 1) := by decide +kernel
theorem dX12_token_23 : decode cX12_token 23 = .ok (.getfield 36, 3) := by decide +kernel
theorem dX12_token_26 : decode cX12_token 26 = .ok (.iconst 1, 1) := by decide +kernel
theorem dX12_token_27 : decode cX12_token 27 = .ok (.isub, 1) := by decide +kernel
theorem dX12_token_28 : decode cX12_token 28 = .ok (.iaload, 1) := by decide +kernel
theorem dX12_token_29 : decode cX12_token 29 = .ok (.invokestatic 477, 3) := by decide +kernel
theorem dX12_token_32 : decode cX12_token 32 = .ok (.ifCond .eq 41, 3) := by decide +kernel
theorem dX12_token_35 : decode cX12_token 35 = .ok (.iload_n 1, 1) := by decide +kernel
theorem dX12_token_36 : decode cX12_token 36 = .ok (.invokestatic 480, 3) := by decide +kernel
theorem dX12_token_39 : decode cX12_token 39 = .ok (.ifCond .eq 34, 3) := by decide +kernel
theorem dX12_token_42 : decode cX12_token 42 = .ok (.aload_n 0, 1) := by decide +kernel
theorem dX12_token_43 : decode cX12_token 43 = .ok (.getfield 39, 3) := by decide +kernel
theorem dX12_token_46 : decode cX12_token 46 = .ok (.aload_n 0, 1) := by decide +kernel
theorem dX12_token_47 : decode cX12_token 47 = .ok (.getfield 36, 3) := by decide +kernel
theorem dX12_token_50 : decode cX12_token 50 = .ok (.bipush 15, 2) := by decide +kernel
theorem dX12_token_52 : decode cX12_token 52 = .ok (.iastore, 1) := by decide +kernel
theorem dX12_token_53 : decode cX12_token 53 = .ok (.aload_n 0, 1) := by decide +kernel
theorem dX12_token_54 : decode cX12_token 54 = .ok (.getfield 42, 3) := by decide +kernel
theorem dX12_token_57 : decode cX12_token 57 = .ok (.aload_n 0, 1) := by decide +kernel
theorem dX12_token_58 : decode cX12_token 58 = .ok (.getfield 36, 3) := by decide +kernel
theorem dX12_token_61 : decode cX12_token 61 = .ok (.iload_n 2, 1) := by decide +kernel
theorem dX12_token_62 : decode cX12_token 62 = .ok (.iastore, 1) := by decide +kernel
theorem dX12_token_63 : decode cX12_token 63 = .ok (.aload_n 0, 1) := by decide +kernel
theorem dX12_token_64 : decode cX12_token 64 = .ok (.dup, 1) := by decide +kernel
theorem dX12_token_65 : decode cX12_token 65 = .ok (.getfield 36, 3) := by decide +kernel
theorem dX12_token_68 : decode cX12_token 68 = .ok (.iconst 1, 1) := by decide +kernel
theorem dX12_token_69 : decode cX12_token 69 = .ok (.iadd, 1) := by decide +kernel
theorem dX12_token_70 : decode cX12_token 70 = .ok (.putfield 36, 3) := by decide +kernel
theorem dX12_token_73 : decode cX12_token 73 = .ok (.aload_n 0, 1) := by decide +kernel
theorem dX12_token_74 : decode cX12_token 74 = .ok (.getfield 39, 3) := by decide +kernel
theorem dX12_token_77 : decode cX12_token 77 = .ok (.aload_n 0, 1) := by decide +kernel
theorem dX12_token_78 : decode cX12_token 78 = .ok (.getfield 36, 3) := by decide +kernel
theorem dX12_token_81 : decode cX12_token 81 = .ok (.iload_n 1, 1) := by decide +kernel
theorem dX12_token_82 : decode cX12_token 82 = .ok (.iastore, 1) := by decide +kernel
theorem dX12_token_83 : decode cX12_token 83 = .ok (.aload_n 0, 1) := by decide +kernel
theorem dX12_token_84 : decode cX12_token 84 = .ok (.getfield 42, 3) := by decide +kernel
theorem dX12_token_87 : decode cX12_token 87 = .ok (.aload_n 0, 1) := by decide +kernel
theorem dX12_token_88 : decode cX12_token 88 = .ok (.getfield 36, 3) := by decide +kernel
theorem dX12_token_91 : decode cX12_token 91 = .ok (.iload_n 2, 1) := by decide +kernel
theorem dX12_token_92 : decode cX12_token 92 = .ok (.iastore, 1) := by decide +kernel
theorem dX12_token_93 : decode cX12_token 93 = .ok (.aload_n 0, 1) := by decide +kernel
theorem dX12_token_94 : decode cX12_token 94 = .ok (.getfield 45, 3) := by decide +kernel
theorem dX12_token_97 : decode cX12_token 97 = .ok (.aload_n 0, 1) := by decide +kernel
theorem dX12_token_98 : decode cX12_token 98 = .ok (.getfield 36, 3) := by decide +kernel
theorem dX12_token_101 : decode cX12_token 101 = .ok (.iload_n 3, 1) := by decide +kernel
theorem dX12_token_102 : decode cX12_token 102 = .ok (.iastore, 1) := by decide +kernel
theorem dX12_token_103 : decode cX12_token 103 = .ok (.aload_n 0, 1) := by decide +kernel
theorem dX12_token_104 : decode cX12_token 104 = .ok (.dup, 1) := by decide +kernel
theorem dX12_token_105 : decode cX12_token 105 = .ok (.getfield 36, 3) := by decide +kernel
theorem dX12_token_108 : decode cX12_token 108 = .ok (.iconst 1, 1) := by decide +kernel
theorem dX12_token_109 : decode cX12_token 109 = .ok (.iadd, 1) := by decide +kernel
theorem dX12_token_110 : decode cX12_token 110 = .ok (.putfield 36, 3) := by decide +kernel
theorem dX12_token_113 : decode cX12_token 113 = .ok (.aload_n 0, 1) := by decide +kernel
theorem dX12_token_114 : decode cX12_token 114 = .ok (.aload_n 0, 1) := by decide +kernel
theorem dX12_token_115 : decode cX12_token 115 = .ok (.getfield 69, 3) := by decide +kernel
theorem dX12_token_118 : decode cX12_token 118 = .ok (.putfield 72, 3) := by decide +kernel
theorem dX12_token_121 : decode cX12_token 121 = .ok (.return_, 1) := by decide +kernel
def wr_token_73 (Q : zS → Prop)  (s0 : zS) (x1 : Int) (x2 : Int) (x3 : Int) : Prop :=
  (0 ≤ (zv s0 8)) ∧ ((zv s0 8) < 12100) ∧ (0 ≤ (zv s0 8)) ∧ ((zv s0 8) < 12100) ∧ (0 ≤ (zv s0 8)) ∧ ((zv s0 8) < 12100) ∧ (zR ((zv s0 8) + 1)) ∧ Q (zpv (zpv (zpa (zpa (zpa s0 9 (Int.toNat (zv s0 8)) x1) 10 (Int.toNat (zv s0 8)) x2) 11 (Int.toNat (zv s0 8)) x3) 8 ((zv s0 8) + 1)) 20 (zv s0 19))
def wr_token (s0 : zS) (a0 : Int) (a1 : Int) (a2 : Int) (Q : zS → Prop) : Prop :=
  (((zv s0 8) ≤ 0 → wr_token_73 Q  s0 a0 a1 a2) ∧ (¬ (zv s0 8) ≤ 0 → (((zv s0 19) ≤ (zv s0 20) → wr_token_73 Q  s0 a0 a1 a2) ∧ (¬ (zv s0 19) ≤ (zv s0 20) → (0 ≤ ((zv s0 8) - 1)) ∧ (((zv s0 8) - 1) < 12100) ∧ wr_endsLine s0 (za s0 9 (Int.toNat ((zv s0 8) - 1))) (fun r11 s12 => ((r11 = 0 → wr_token_73 Q  s12 a0 a1 a2) ∧ (¬ r11 = 0 → wr_isBeginning s12 a0 (fun r20 s21 => ((r20 = 0 → wr_token_73 Q  s21 a0 a1 a2) ∧ (¬ r20 = 0 → (0 ≤ (zv s21 8)) ∧ ((zv s21 8) < 12100) ∧ (0 ≤ (zv s21 8)) ∧ ((zv s21 8) < 12100) ∧ (zR ((zv s21 8) + 1)) ∧ wr_token_73 Q  (zpv (zpa (zpa s21 9 (Int.toNat (zv s21 8)) 15) 10 (Int.toNat (zv s21 8)) a1) 8 ((zv s21 8) + 1)) a0 a1 a2))))))))))
set_option maxHeartbeats 4000000 in
set_option maxRecDepth 100000 in
theorem rj_token_73 {X : gX} {d : gD} {b t : Nat} {T : Nat → Nat} {F0 : gM} (hC : gC RX12 cX12_token 4 none "token" (gR 2 0 0) d b X) {Q : zS → Prop}   {F : gM} {s0 : zS} {x1 : Int} {x2 : Int} {x3 : Int} (Rx1 : zR x1) (Rx2 : zR x2) (Rx3 : zR x3) (hZ : zZ d t T F0 F s0) (hw : wr_token_73 Q  s0 x1 x2 x3) : gG X d b (zQv X d b t T F0 Q) F 0 0 73 [some (.ref t), some (.int (zI x1)), some (.int (zI x2)), some (.int (zI x3))] [] := by
  unfold wr_token_73 at hw
  refine g_aload_n hC dX12_token_73 rfl ?_
  refine zr_geta hC hZ fl_X12_39 zb_9 (by decide) dX12_token_74 ?_
  refine g_aload_n hC dX12_token_77 rfl ?_
  refine zr_get (e := (zv s0 8)) hC hZ fl_X12_36 zb_8 (by decide) rfl dX12_token_78 ?_
  refine g_iload_n hC dX12_token_81 rfl ?_
  obtain ⟨o1, h2⟩ := hw
  obtain ⟨o3, h4⟩ := h2
  refine zr_iast hC hZ zk_9 zb_9 zn_9 (by decide) o1 o3 Rx1 dX12_token_82 (fun F5 hZ6 => ?_)
  refine g_aload_n hC dX12_token_83 rfl ?_
  refine zr_geta hC hZ6 fl_X12_42 zb_10 (by decide) dX12_token_84 ?_
  refine g_aload_n hC dX12_token_87 rfl ?_
  refine zr_get (e := (zv s0 8)) hC hZ6 fl_X12_36 zb_8 (by decide) rfl dX12_token_88 ?_
  refine g_iload_n hC dX12_token_91 rfl ?_
  obtain ⟨o7, h8⟩ := h4
  obtain ⟨o9, h10⟩ := h8
  refine zr_iast hC hZ6 zk_10 zb_10 zn_10 (by decide) o7 o9 Rx2 dX12_token_92 (fun F11 hZ12 => ?_)
  refine g_aload_n hC dX12_token_93 rfl ?_
  refine zr_geta hC hZ12 fl_X12_45 zb_11 (by decide) dX12_token_94 ?_
  refine g_aload_n hC dX12_token_97 rfl ?_
  refine zr_get (e := (zv s0 8)) hC hZ12 fl_X12_36 zb_8 (by decide) rfl dX12_token_98 ?_
  refine g_iload_n hC dX12_token_101 rfl ?_
  obtain ⟨o13, h14⟩ := h10
  obtain ⟨o15, h16⟩ := h14
  refine zr_iast hC hZ12 zk_11 zb_11 zn_11 (by decide) o13 o15 Rx3 dX12_token_102 (fun F17 hZ18 => ?_)
  refine g_aload_n hC dX12_token_103 rfl ?_
  refine g_dup hC dX12_token_104 rfl ?_
  refine zr_get (e := (zv s0 8)) hC hZ18 fl_X12_36 zb_8 (by decide) rfl dX12_token_105 ?_
  refine g_iconst (v := zI 1) hC dX12_token_108 rfl ?_
  refine zr_iadd hC dX12_token_109 ?_
  obtain ⟨o19, h20⟩ := h16
  refine zr_put hC hZ18 fl_X12_36 zb_8 (by decide) o19 dX12_token_110 (fun F21 hZ22 => ?_)
  refine g_aload_n hC dX12_token_113 rfl ?_
  refine g_aload_n hC dX12_token_114 rfl ?_
  refine zr_get (e := (zv s0 19)) hC hZ22 fl_X12_69 zb_19 (by decide) rfl dX12_token_115 ?_
  refine zr_put hC hZ22 fl_X12_72 zb_20 (by decide) (hZ.rv 19) dX12_token_118 (fun F23 hZ24 => ?_)
  exact zr_vret hC hZ24 h20 dX12_token_121
set_option maxHeartbeats 4000000 in
set_option maxRecDepth 100000 in
theorem rm_token (l : Launch) (d : gD) (b : Nat) {t : Nat} {T : Nat → Nat} {F : gM} {s0 : zS} {a0 : Int} {a1 : Int} {a2 : Int} (Ra0 : zR a0) (Ra1 : zR a1) (Ra2 : zR a2) {Q : zS → Prop} (hZ : zZ d t T F F s0) (hw : wr_token s0 a0 a1 a2 Q) : gMv l d b yX12_token cX12_token 4 2 0 0 F [.ref t, .int (zI a0), .int (zI a1), .int (zI a2)] (zPv d t T F Q) := by
  refine gM_of2 rfl (nL := 4) (Nat.le_of_ble_eq_true rfl) ?_
  intro X hX hC; subst hX
  show gG X d b (zQv X d b t T F Q) F 0 0 0 [some (.ref t), some (.int (zI a0)), some (.int (zI a1)), some (.int (zI a2))] []
  unfold wr_token at hw
  refine g_aload_n hC dX12_token_0 rfl ?_
  refine zr_get (e := (zv s0 8)) hC hZ fl_X12_36 zb_8 (by decide) rfl dX12_token_1 ?_
  refine zr_if_le (tgt := 73) hC (hZ.rv 8) dX12_token_4 (by decide) (fun c1 => ?_) (fun c1 => ?_)
  · have h2 := hw.1 c1
    exact rj_token_73 hC  Ra0 Ra1 Ra2 hZ h2
  · have h3 := hw.2 c1
    refine g_aload_n hC dX12_token_7 rfl ?_
    refine zr_get (e := (zv s0 20)) hC hZ fl_X12_72 zb_20 (by decide) rfl dX12_token_8 ?_
    refine g_aload_n hC dX12_token_11 rfl ?_
    refine zr_get (e := (zv s0 19)) hC hZ fl_X12_69 zb_19 (by decide) rfl dX12_token_12 ?_
    refine zr_icmp_ge (tgt := 73) hC (hZ.rv 20) (hZ.rv 19) dX12_token_15 (by decide) (fun c4 => ?_) (fun c4 => ?_)
    · have h5 := h3.1 c4
      exact rj_token_73 hC  Ra0 Ra1 Ra2 hZ h5
    · have h6 := h3.2 c4
      refine g_aload_n hC dX12_token_18 rfl ?_
      refine zr_geta hC hZ fl_X12_39 zb_9 (by decide) dX12_token_19 ?_
      refine g_aload_n hC dX12_token_22 rfl ?_
      refine zr_get (e := (zv s0 8)) hC hZ fl_X12_36 zb_8 (by decide) rfl dX12_token_23 ?_
      refine g_iconst (v := zI 1) hC dX12_token_26 rfl ?_
      refine zr_isub hC dX12_token_27 ?_
      obtain ⟨o7, h8⟩ := h6
      obtain ⟨o9, h10⟩ := h8
      refine zr_iald (v := (za s0 9 (Int.toNat ((zv s0 8) - 1)))) hC hZ zk_9 zb_9 zn_9 (by decide) o7 o9 rfl dX12_token_28 ?_
      refine zr_callSi (As := [.int (zI (za s0 9 (Int.toNat ((zv s0 8) - 1))))]) hC hZ (rm_endsLine X.la d b (hZ.ra 9 _) hZ.rf h10) cl_X12_477 rfl rfl (Nat.le_of_ble_eq_true rfl) ⟨Nat.le_of_ble_eq_true rfl, Nat.le_of_ble_eq_true rfl⟩ dX12_token_29 (fun r11 s12 F13 R14 hZ15 h16 => ?_)
      refine zr_if_eq (tgt := 73) hC R14 dX12_token_32 (by decide) (fun c17 => ?_) (fun c17 => ?_)
      · have h18 := h16.1 c17
        exact rj_token_73 hC  Ra0 Ra1 Ra2 hZ15 h18
      · have h19 := h16.2 c17
        refine g_iload_n hC dX12_token_35 rfl ?_
        refine zr_callSi (As := [.int (zI a0)]) hC hZ15 (rm_isBeginning X.la d b Ra0 hZ15.rf h19) cl_X12_480 rfl rfl (Nat.le_of_ble_eq_true rfl) ⟨Nat.le_of_ble_eq_true rfl, Nat.le_of_ble_eq_true rfl⟩ dX12_token_36 (fun r20 s21 F22 R23 hZ24 h25 => ?_)
        refine zr_if_eq (tgt := 73) hC R23 dX12_token_39 (by decide) (fun c26 => ?_) (fun c26 => ?_)
        · have h27 := h25.1 c26
          exact rj_token_73 hC  Ra0 Ra1 Ra2 hZ24 h27
        · have h28 := h25.2 c26
          refine g_aload_n hC dX12_token_42 rfl ?_
          refine zr_geta hC hZ24 fl_X12_39 zb_9 (by decide) dX12_token_43 ?_
          refine g_aload_n hC dX12_token_46 rfl ?_
          refine zr_get (e := (zv s21 8)) hC hZ24 fl_X12_36 zb_8 (by decide) rfl dX12_token_47 ?_
          refine g_bipush (v := zI 15) hC dX12_token_50 rfl ?_
          obtain ⟨o29, h30⟩ := h28
          obtain ⟨o31, h32⟩ := h30
          refine zr_iast hC hZ24 zk_9 zb_9 zn_9 (by decide) o29 o31 (by decide) dX12_token_52 (fun F33 hZ34 => ?_)
          refine g_aload_n hC dX12_token_53 rfl ?_
          refine zr_geta hC hZ34 fl_X12_42 zb_10 (by decide) dX12_token_54 ?_
          refine g_aload_n hC dX12_token_57 rfl ?_
          refine zr_get (e := (zv s21 8)) hC hZ34 fl_X12_36 zb_8 (by decide) rfl dX12_token_58 ?_
          refine g_iload_n hC dX12_token_61 rfl ?_
          obtain ⟨o35, h36⟩ := h32
          obtain ⟨o37, h38⟩ := h36
          refine zr_iast hC hZ34 zk_10 zb_10 zn_10 (by decide) o35 o37 Ra1 dX12_token_62 (fun F39 hZ40 => ?_)
          refine g_aload_n hC dX12_token_63 rfl ?_
          refine g_dup hC dX12_token_64 rfl ?_
          refine zr_get (e := (zv s21 8)) hC hZ40 fl_X12_36 zb_8 (by decide) rfl dX12_token_65 ?_
          refine g_iconst (v := zI 1) hC dX12_token_68 rfl ?_
          refine zr_iadd hC dX12_token_69 ?_
          obtain ⟨o41, h42⟩ := h38
          refine zr_put hC hZ40 fl_X12_36 zb_8 (by decide) o41 dX12_token_70 (fun F43 hZ44 => ?_)
          exact rj_token_73 hC  Ra0 Ra1 Ra2 hZ44 h42
theorem dX12_oneC_0 : decode cX12_oneC 0 = .ok (.aload_n 0, 1) := by decide +kernel
theorem dX12_oneC_1 : decode cX12_oneC 1 = .ok (.iload_n 1, 1) := by decide +kernel
theorem dX12_oneC_2 : decode cX12_oneC 2 = .ok (.invokevirtual 483, 3) := by decide +kernel
theorem dX12_oneC_5 : decode cX12_oneC 5 = .ok (.istore_n 3, 1) := by decide +kernel
theorem dX12_oneC_6 : decode cX12_oneC 6 = .ok (.iload_n 3, 1) := by decide +kernel
theorem dX12_oneC_7 : decode cX12_oneC 7 = .ok (.bipush 32, 2) := by decide +kernel
theorem dX12_oneC_9 : decode cX12_oneC 9 = .ok (.if_icmp .lt 14, 3) := by decide +kernel
theorem dX12_oneC_12 : decode cX12_oneC 12 = .ok (.iload_n 3, 1) := by decide +kernel
theorem dX12_oneC_13 : decode cX12_oneC 13 = .ok (.bipush 126, 2) := by decide +kernel
theorem dX12_oneC_15 : decode cX12_oneC 15 = .ok (.if_icmp .gt 8, 3) := by decide +kernel
theorem dX12_oneC_18 : decode cX12_oneC 18 = .ok (.iload_n 3, 1) := by decide +kernel
theorem dX12_oneC_19 : decode cX12_oneC 19 = .ok (.iload_n 2, 1) := by decide +kernel
theorem dX12_oneC_20 : decode cX12_oneC 20 = .ok (.if_icmp .ne 5, 3) := by decide +kernel
theorem dX12_oneC_23 : decode cX12_oneC 23 = .ok (.iconst (-1), 1) := by decide +kernel
theorem dX12_oneC_24 : decode cX12_oneC 24 = .ok (.ireturn, 1) := by decide +kernel
theorem dX12_oneC_25 : decode cX12_oneC 25 = .ok (.aload_n 0, 1) := by decide +kernel
theorem dX12_oneC_26 : decode cX12_oneC 26 = .ok (.iload_n 3, 1) := by decide +kernel
theorem dX12_oneC_27 : decode cX12_oneC 27 = .ok (.putfield 75, 3) := by decide +kernel
theorem dX12_oneC_30 : decode cX12_oneC 30 = .ok (.iload_n 3, 1) := by decide +kernel
theorem dX12_oneC_31 : decode cX12_oneC 31 = .ok (.bipush 42, 2) := by decide +kernel
theorem dX12_oneC_33 : decode cX12_oneC 33 = .ok (.if_icmp .eq 7, 3) := by decide +kernel
theorem dX12_oneC_36 : decode cX12_oneC 36 = .ok (.iload_n 1, 1) := by decide +kernel
theorem dX12_oneC_37 : decode cX12_oneC 37 = .ok (.iconst 1, 1) := by decide +kernel
theorem dX12_oneC_38 : decode cX12_oneC 38 = .ok (.iadd, 1) := by decide +kernel
theorem dX12_oneC_39 : decode cX12_oneC 39 = .ok (.ireturn, 1) := by decide +kernel
theorem dX12_oneC_40 : decode cX12_oneC 40 = .ok (.aload_n 0, 1) := by decide +kernel
theorem dX12_oneC_41 : decode cX12_oneC 41 = .ok (.iload_n 1, 1) := by decide +kernel
theorem dX12_oneC_42 : decode cX12_oneC 42 = .ok (.iconst 1, 1) := by decide +kernel
theorem dX12_oneC_43 : decode cX12_oneC 43 = .ok (.iadd, 1) := by decide +kernel
theorem dX12_oneC_44 : decode cX12_oneC 44 = .ok (.invokevirtual 483, 3) := by decide +kernel
theorem dX12_oneC_47 : decode cX12_oneC 47 = .ok (.istore 4, 2) := by decide +kernel
theorem dX12_oneC_49 : decode cX12_oneC 49 = .ok (.iload 4, 2) := by decide +kernel
theorem dX12_oneC_51 : decode cX12_oneC 51 = .ok (.bipush 78, 2) := by decide +kernel
theorem dX12_oneC_53 : decode cX12_oneC 53 = .ok (.if_icmp .ne 12, 3) := by decide +kernel
theorem dX12_oneC_56 : decode cX12_oneC 56 = .ok (.aload_n 0, 1) := by decide +kernel
theorem dX12_oneC_57 : decode cX12_oneC 57 = .ok (.bipush 10, 2) := by decide +kernel
theorem dX12_oneC_59 : decode cX12_oneC 59 = .ok (.putfield 75, 3) := by decide +kernel
theorem dX12_oneC_62 : decode cX12_oneC 62 = .ok (.goto 67, 3) := by decide +kernel
theorem dX12_oneC_65 : decode cX12_oneC 65 = .ok (.iload 4, 2) := by decide +kernel
theorem dX12_oneC_67 : decode cX12_oneC 67 = .ok (.bipush 83, 2) := by decide +kernel
theorem dX12_oneC_69 : decode cX12_oneC 69 = .ok (.if_icmp .ne 12, 3) := by decide +kernel
theorem dX12_oneC_72 : decode cX12_oneC 72 = .ok (.aload_n 0, 1) := by decide +kernel
theorem dX12_oneC_73 : decode cX12_oneC 73 = .ok (.bipush 32, 2) := by decide +kernel
theorem dX12_oneC_75 : decode cX12_oneC 75 = .ok (.putfield 75, 3) := by decide +kernel
theorem dX12_oneC_78 : decode cX12_oneC 78 = .ok (.goto 51, 3) := by decide +kernel
theorem dX12_oneC_81 : decode cX12_oneC 81 = .ok (.iload 4, 2) := by decide +kernel
theorem dX12_oneC_83 : decode cX12_oneC 83 = .ok (.bipush 84, 2) := by decide +kernel
theorem dX12_oneC_85 : decode cX12_oneC 85 = .ok (.if_icmp .ne 12, 3) := by decide +kernel
theorem dX12_oneC_88 : decode cX12_oneC 88 = .ok (.aload_n 0, 1) := by decide +kernel
theorem dX12_oneC_89 : decode cX12_oneC 89 = .ok (.bipush 9, 2) := by decide +kernel
theorem dX12_oneC_91 : decode cX12_oneC 91 = .ok (.putfield 75, 3) := by decide +kernel
theorem dX12_oneC_94 : decode cX12_oneC 94 = .ok (.goto 35, 3) := by decide +kernel
theorem dX12_oneC_97 : decode cX12_oneC 97 = .ok (.iload 4, 2) := by decide +kernel
theorem dX12_oneC_99 : decode cX12_oneC 99 = .ok (.bipush 39, 2) := by decide +kernel
theorem dX12_oneC_101 : decode cX12_oneC 101 = .ok (.if_icmp .eq 17, 3) := by decide +kernel
theorem dX12_oneC_104 : decode cX12_oneC 104 = .ok (.iload 4, 2) := by decide +kernel
theorem dX12_oneC_106 : decode cX12_oneC 106 = .ok (.bipush 34, 2) := by decide +kernel
theorem dX12_oneC_108 : decode cX12_oneC 108 = .ok (.if_icmp .eq 10, 3) := by decide +kernel
theorem dX12_oneC_111 : decode cX12_oneC 111 = .ok (.iload 4, 2) := by decide +kernel
theorem dX12_oneC_113 : decode cX12_oneC 113 = .ok (.bipush 42, 2) := by decide +kernel
theorem dX12_oneC_115 : decode cX12_oneC 115 = .ok (.if_icmp .ne 12, 3) := by decide +kernel
theorem dX12_oneC_118 : decode cX12_oneC 118 = .ok (.aload_n 0, 1) := by decide +kernel
theorem dX12_oneC_119 : decode cX12_oneC 119 = .ok (.iload 4, 2) := by decide +kernel
theorem dX12_oneC_121 : decode cX12_oneC 121 = .ok (.putfield 75, 3) := by decide +kernel
theorem dX12_oneC_124 : decode cX12_oneC 124 = .ok (.goto 5, 3) := by decide +kernel
theorem dX12_oneC_127 : decode cX12_oneC 127 = .ok (.iconst (-1), 1) := by decide +kernel
theorem dX12_oneC_128 : decode cX12_oneC 128 = .ok (.ireturn, 1) := by decide +kernel
theorem dX12_oneC_129 : decode cX12_oneC 129 = .ok (.iload_n 1, 1) := by decide +kernel
theorem dX12_oneC_130 : decode cX12_oneC 130 = .ok (.iconst 2, 1) := by decide +kernel
theorem dX12_oneC_131 : decode cX12_oneC 131 = .ok (.iadd, 1) := by decide +kernel
theorem dX12_oneC_132 : decode cX12_oneC 132 = .ok (.ireturn, 1) := by decide +kernel
def wr_oneC (s0 : zS) (a0 : Int) (a1 : Int) (Q : Int → zS → Prop) : Prop :=
  wr_look s0 a0 (fun r1 s2 => ((r1 < 32 → Q (-1) s2) ∧ (¬ r1 < 32 → ((126 < r1 → Q (-1) s2) ∧ (¬ 126 < r1 → ((¬ r1 = a1 → ((r1 = 42 → (zR (a0 + 1)) ∧ wr_look (zpv s2 21 r1) (a0 + 1) (fun r21 s22 => ((¬ r21 = 78 → ((¬ r21 = 83 → ((¬ r21 = 84 → ((r21 = 39 → (zR (a0 + 2)) ∧ Q (a0 + 2) (zpv s22 21 r21)) ∧ (¬ r21 = 39 → ((r21 = 34 → (zR (a0 + 2)) ∧ Q (a0 + 2) (zpv s22 21 r21)) ∧ (¬ r21 = 34 → ((¬ r21 = 42 → Q (-1) s22) ∧ (r21 = 42 → (zR (a0 + 2)) ∧ Q (a0 + 2) (zpv s22 21 r21)))))))) ∧ (r21 = 84 → (zR (a0 + 2)) ∧ Q (a0 + 2) (zpv s22 21 9)))) ∧ (r21 = 83 → (zR (a0 + 2)) ∧ Q (a0 + 2) (zpv s22 21 32)))) ∧ (r21 = 78 → (zR (a0 + 2)) ∧ Q (a0 + 2) (zpv s22 21 10))))) ∧ (¬ r1 = 42 → (zR (a0 + 1)) ∧ Q (a0 + 1) (zpv s2 21 r1)))) ∧ (r1 = a1 → Q (-1) s2)))))))
set_option maxHeartbeats 4000000 in
set_option maxRecDepth 100000 in
theorem rm_oneC (l : Launch) (d : gD) (b : Nat) {t : Nat} {T : Nat → Nat} {F : gM} {s0 : zS} {a0 : Int} {a1 : Int} (Ra0 : zR a0) (Ra1 : zR a1) {Q : Int → zS → Prop} (hZ : zZ d t T F F s0) (hw : wr_oneC s0 a0 a1 Q) : gMi l d b yX12_oneC cX12_oneC 5 .int 1 0 0 F [.ref t, .int (zI a0), .int (zI a1)] (zPi d t T F Q) := by
  refine gM_of2 rfl (nL := 5) (Nat.le_of_ble_eq_true rfl) ?_
  intro X hX hC; subst hX
  show gG X d b (zQi X d b t T F Q) F 0 0 0 [some (.ref t), some (.int (zI a0)), some (.int (zI a1)), none, none] []
  unfold wr_oneC at hw
  refine g_aload_n hC dX12_oneC_0 rfl ?_
  refine g_iload_n hC dX12_oneC_1 rfl ?_
  refine zr_callVi (As := [.int (zI a0)]) hC hZ rfl (rm_look X.la d b Ra0 hZ.rf hw) cl_X12_483 rfl rfl (Nat.le_of_ble_eq_true rfl) ⟨Nat.le_of_ble_eq_true rfl, Nat.le_of_ble_eq_true rfl⟩ dX12_oneC_2 (fun r1 s2 F3 R4 hZ5 h6 => ?_)
  refine g_istore_n (lv' := [some (.ref t), some (.int (zI a0)), some (.int (zI a1)), some (.int (zI r1)), none]) hC dX12_oneC_5 (Nat.le_of_ble_eq_true rfl) rfl rfl ?_
  refine g_iload_n hC dX12_oneC_6 rfl ?_
  refine g_bipush (v := zI 32) hC dX12_oneC_7 rfl ?_
  refine zr_icmp_lt (tgt := 23) hC R4 (by decide) dX12_oneC_9 (by decide) (fun c7 => ?_) (fun c7 => ?_)
  · have h8 := h6.1 c7
    refine g_iconst (v := zI (-1)) hC dX12_oneC_23 rfl ?_
    exact zr_iret hC hZ5 (by decide) h8 dX12_oneC_24
  · have h9 := h6.2 c7
    refine g_iload_n hC dX12_oneC_12 rfl ?_
    refine g_bipush (v := zI 126) hC dX12_oneC_13 rfl ?_
    refine zr_icmp_gt (tgt := 23) hC R4 (by decide) dX12_oneC_15 (by decide) (fun c10 => ?_) (fun c10 => ?_)
    · have h11 := h9.1 c10
      refine g_iconst (v := zI (-1)) hC dX12_oneC_23 rfl ?_
      exact zr_iret hC hZ5 (by decide) h11 dX12_oneC_24
    · have h12 := h9.2 c10
      refine g_iload_n hC dX12_oneC_18 rfl ?_
      refine g_iload_n hC dX12_oneC_19 rfl ?_
      refine zr_icmp_ne (tgt := 25) hC R4 Ra1 dX12_oneC_20 (by decide) (fun c13 => ?_) (fun c13 => ?_)
      · have h14 := h12.1 c13
        refine g_aload_n hC dX12_oneC_25 rfl ?_
        refine g_iload_n hC dX12_oneC_26 rfl ?_
        refine zr_put hC hZ5 fl_X12_75 zb_21 (by decide) R4 dX12_oneC_27 (fun F15 hZ16 => ?_)
        refine g_iload_n hC dX12_oneC_30 rfl ?_
        refine g_bipush (v := zI 42) hC dX12_oneC_31 rfl ?_
        refine zr_icmp_eq (tgt := 40) hC R4 (by decide) dX12_oneC_33 (by decide) (fun c17 => ?_) (fun c17 => ?_)
        · have h18 := h14.1 c17
          refine g_aload_n hC dX12_oneC_40 rfl ?_
          refine g_iload_n hC dX12_oneC_41 rfl ?_
          refine g_iconst (v := zI 1) hC dX12_oneC_42 rfl ?_
          refine zr_iadd hC dX12_oneC_43 ?_
          obtain ⟨o19, h20⟩ := h18
          refine zr_callVi (As := [.int (zI (a0 + 1))]) hC hZ16 rfl (rm_look X.la d b o19 hZ16.rf h20) cl_X12_483 rfl rfl (Nat.le_of_ble_eq_true rfl) ⟨Nat.le_of_ble_eq_true rfl, Nat.le_of_ble_eq_true rfl⟩ dX12_oneC_44 (fun r21 s22 F23 R24 hZ25 h26 => ?_)
          refine g_istore (lv' := [some (.ref t), some (.int (zI a0)), some (.int (zI a1)), some (.int (zI r1)), some (.int (zI r21))]) hC dX12_oneC_47 (Nat.le_of_ble_eq_true rfl) rfl rfl ?_
          refine g_iload hC dX12_oneC_49 rfl ?_
          refine g_bipush (v := zI 78) hC dX12_oneC_51 rfl ?_
          refine zr_icmp_ne (tgt := 65) hC R24 (by decide) dX12_oneC_53 (by decide) (fun c27 => ?_) (fun c27 => ?_)
          · have h28 := h26.1 c27
            refine g_iload hC dX12_oneC_65 rfl ?_
            refine g_bipush (v := zI 83) hC dX12_oneC_67 rfl ?_
            refine zr_icmp_ne (tgt := 81) hC R24 (by decide) dX12_oneC_69 (by decide) (fun c29 => ?_) (fun c29 => ?_)
            · have h30 := h28.1 c29
              refine g_iload hC dX12_oneC_81 rfl ?_
              refine g_bipush (v := zI 84) hC dX12_oneC_83 rfl ?_
              refine zr_icmp_ne (tgt := 97) hC R24 (by decide) dX12_oneC_85 (by decide) (fun c31 => ?_) (fun c31 => ?_)
              · have h32 := h30.1 c31
                refine g_iload hC dX12_oneC_97 rfl ?_
                refine g_bipush (v := zI 39) hC dX12_oneC_99 rfl ?_
                refine zr_icmp_eq (tgt := 118) hC R24 (by decide) dX12_oneC_101 (by decide) (fun c33 => ?_) (fun c33 => ?_)
                · have h34 := h32.1 c33
                  refine g_aload_n hC dX12_oneC_118 rfl ?_
                  refine g_iload hC dX12_oneC_119 rfl ?_
                  refine zr_put hC hZ25 fl_X12_75 zb_21 (by decide) R24 dX12_oneC_121 (fun F35 hZ36 => ?_)
                  refine g_goto (tgt := 129) hC dX12_oneC_124 (by decide) ?_
                  refine g_iload_n hC dX12_oneC_129 rfl ?_
                  refine g_iconst (v := zI 2) hC dX12_oneC_130 rfl ?_
                  refine zr_iadd hC dX12_oneC_131 ?_
                  obtain ⟨o37, h38⟩ := h34
                  exact zr_iret hC hZ36 o37 h38 dX12_oneC_132
                · have h39 := h32.2 c33
                  refine g_iload hC dX12_oneC_104 rfl ?_
                  refine g_bipush (v := zI 34) hC dX12_oneC_106 rfl ?_
                  refine zr_icmp_eq (tgt := 118) hC R24 (by decide) dX12_oneC_108 (by decide) (fun c40 => ?_) (fun c40 => ?_)
                  · have h41 := h39.1 c40
                    refine g_aload_n hC dX12_oneC_118 rfl ?_
                    refine g_iload hC dX12_oneC_119 rfl ?_
                    refine zr_put hC hZ25 fl_X12_75 zb_21 (by decide) R24 dX12_oneC_121 (fun F42 hZ43 => ?_)
                    refine g_goto (tgt := 129) hC dX12_oneC_124 (by decide) ?_
                    refine g_iload_n hC dX12_oneC_129 rfl ?_
                    refine g_iconst (v := zI 2) hC dX12_oneC_130 rfl ?_
                    refine zr_iadd hC dX12_oneC_131 ?_
                    obtain ⟨o44, h45⟩ := h41
                    exact zr_iret hC hZ43 o44 h45 dX12_oneC_132
                  · have h46 := h39.2 c40
                    refine g_iload hC dX12_oneC_111 rfl ?_
                    refine g_bipush (v := zI 42) hC dX12_oneC_113 rfl ?_
                    refine zr_icmp_ne (tgt := 127) hC R24 (by decide) dX12_oneC_115 (by decide) (fun c47 => ?_) (fun c47 => ?_)
                    · have h48 := h46.1 c47
                      refine g_iconst (v := zI (-1)) hC dX12_oneC_127 rfl ?_
                      exact zr_iret hC hZ25 (by decide) h48 dX12_oneC_128
                    · have h49 := h46.2 c47
                      refine g_aload_n hC dX12_oneC_118 rfl ?_
                      refine g_iload hC dX12_oneC_119 rfl ?_
                      refine zr_put hC hZ25 fl_X12_75 zb_21 (by decide) R24 dX12_oneC_121 (fun F50 hZ51 => ?_)
                      refine g_goto (tgt := 129) hC dX12_oneC_124 (by decide) ?_
                      refine g_iload_n hC dX12_oneC_129 rfl ?_
                      refine g_iconst (v := zI 2) hC dX12_oneC_130 rfl ?_
                      refine zr_iadd hC dX12_oneC_131 ?_
                      obtain ⟨o52, h53⟩ := h49
                      exact zr_iret hC hZ51 o52 h53 dX12_oneC_132
              · have h54 := h30.2 c31
                refine g_aload_n hC dX12_oneC_88 rfl ?_
                refine g_bipush (v := zI 9) hC dX12_oneC_89 rfl ?_
                refine zr_put hC hZ25 fl_X12_75 zb_21 (by decide) (by decide) dX12_oneC_91 (fun F55 hZ56 => ?_)
                refine g_goto (tgt := 129) hC dX12_oneC_94 (by decide) ?_
                refine g_iload_n hC dX12_oneC_129 rfl ?_
                refine g_iconst (v := zI 2) hC dX12_oneC_130 rfl ?_
                refine zr_iadd hC dX12_oneC_131 ?_
                obtain ⟨o57, h58⟩ := h54
                exact zr_iret hC hZ56 o57 h58 dX12_oneC_132
            · have h59 := h28.2 c29
              refine g_aload_n hC dX12_oneC_72 rfl ?_
              refine g_bipush (v := zI 32) hC dX12_oneC_73 rfl ?_
              refine zr_put hC hZ25 fl_X12_75 zb_21 (by decide) (by decide) dX12_oneC_75 (fun F60 hZ61 => ?_)
              refine g_goto (tgt := 129) hC dX12_oneC_78 (by decide) ?_
              refine g_iload_n hC dX12_oneC_129 rfl ?_
              refine g_iconst (v := zI 2) hC dX12_oneC_130 rfl ?_
              refine zr_iadd hC dX12_oneC_131 ?_
              obtain ⟨o62, h63⟩ := h59
              exact zr_iret hC hZ61 o62 h63 dX12_oneC_132
          · have h64 := h26.2 c27
            refine g_aload_n hC dX12_oneC_56 rfl ?_
            refine g_bipush (v := zI 10) hC dX12_oneC_57 rfl ?_
            refine zr_put hC hZ25 fl_X12_75 zb_21 (by decide) (by decide) dX12_oneC_59 (fun F65 hZ66 => ?_)
            refine g_goto (tgt := 129) hC dX12_oneC_62 (by decide) ?_
            refine g_iload_n hC dX12_oneC_129 rfl ?_
            refine g_iconst (v := zI 2) hC dX12_oneC_130 rfl ?_
            refine zr_iadd hC dX12_oneC_131 ?_
            obtain ⟨o67, h68⟩ := h64
            exact zr_iret hC hZ66 o67 h68 dX12_oneC_132
        · have h69 := h14.2 c17
          refine g_iload_n hC dX12_oneC_36 rfl ?_
          refine g_iconst (v := zI 1) hC dX12_oneC_37 rfl ?_
          refine zr_iadd hC dX12_oneC_38 ?_
          obtain ⟨o70, h71⟩ := h69
          exact zr_iret hC hZ16 o70 h71 dX12_oneC_39
      · have h72 := h12.2 c13
        refine g_iconst (v := zI (-1)) hC dX12_oneC_23 rfl ?_
        exact zr_iret hC hZ5 (by decide) h72 dX12_oneC_24
theorem dX12_stringAt_0 : decode cX12_stringAt 0 = .ok (.iload_n 1, 1) := by decide +kernel
theorem dX12_stringAt_1 : decode cX12_stringAt 1 = .ok (.iconst 1, 1) := by decide +kernel
theorem dX12_stringAt_2 : decode cX12_stringAt 2 = .ok (.iadd, 1) := by decide +kernel
theorem dX12_stringAt_3 : decode cX12_stringAt 3 = .ok (.istore_n 2, 1) := by decide +kernel
theorem dX12_stringAt_4 : decode cX12_stringAt 4 = .ok (.aload_n 0, 1) := by decide +kernel
theorem dX12_stringAt_5 : decode cX12_stringAt 5 = .ok (.getfield 57, 3) := by decide +kernel
theorem dX12_stringAt_8 : decode cX12_stringAt 8 = .ok (.istore_n 3, 1) := by decide +kernel
theorem dX12_stringAt_9 : decode cX12_stringAt 9 = .ok (.iconst 0, 1) := by decide +kernel
theorem dX12_stringAt_10 : decode cX12_stringAt 10 = .ok (.istore 4, 2) := by decide +kernel
theorem dX12_stringAt_12 : decode cX12_stringAt 12 = .ok (.aload_n 0, 1) := by decide +kernel
theorem dX12_stringAt_13 : decode cX12_stringAt 13 = .ok (.iload_n 2, 1) := by decide +kernel
theorem dX12_stringAt_14 : decode cX12_stringAt 14 = .ok (.invokevirtual 483, 3) := by decide +kernel
theorem dX12_stringAt_17 : decode cX12_stringAt 17 = .ok (.bipush 34, 2) := by decide +kernel
theorem dX12_stringAt_19 : decode cX12_stringAt 19 = .ok (.if_icmp .eq 45, 3) := by decide +kernel
theorem dX12_stringAt_22 : decode cX12_stringAt 22 = .ok (.aload_n 0, 1) := by decide +kernel
theorem dX12_stringAt_23 : decode cX12_stringAt 23 = .ok (.iload_n 2, 1) := by decide +kernel
theorem dX12_stringAt_24 : decode cX12_stringAt 24 = .ok (.bipush 34, 2) := by decide +kernel
theorem dX12_stringAt_26 : decode cX12_stringAt 26 = .ok (.invokevirtual 487, 3) := by decide +kernel
theorem dX12_stringAt_29 : decode cX12_stringAt 29 = .ok (.istore_n 2, 1) := by decide +kernel
theorem dX12_stringAt_30 : decode cX12_stringAt 30 = .ok (.iload_n 2, 1) := by decide +kernel
theorem dX12_stringAt_31 : decode cX12_stringAt 31 = .ok (.ifCond .lt 11, 3) := by decide +kernel
theorem dX12_stringAt_34 : decode cX12_stringAt 34 = .ok (.iload 4, 2) := by decide +kernel
theorem dX12_stringAt_36 : decode cX12_stringAt 36 = .ok (.sipush 200, 3) := by decide +kernel
theorem dX12_stringAt_39 : decode cX12_stringAt 39 = .ok (.if_icmp .ne 5, 3) := by decide +kernel
theorem dX12_stringAt_42 : decode cX12_stringAt 42 = .ok (.iconst (-1), 1) := by decide +kernel
theorem dX12_stringAt_43 : decode cX12_stringAt 43 = .ok (.ireturn, 1) := by decide +kernel
theorem dX12_stringAt_44 : decode cX12_stringAt 44 = .ok (.aload_n 0, 1) := by decide +kernel
theorem dX12_stringAt_45 : decode cX12_stringAt 45 = .ok (.getfield 54, 3) := by decide +kernel
theorem dX12_stringAt_48 : decode cX12_stringAt 48 = .ok (.iload_n 3, 1) := by decide +kernel
theorem dX12_stringAt_49 : decode cX12_stringAt 49 = .ok (.iload 4, 2) := by decide +kernel
theorem dX12_stringAt_51 : decode cX12_stringAt 51 = .ok (.iadd, 1) := by decide +kernel
theorem dX12_stringAt_52 : decode cX12_stringAt 52 = .ok (.aload_n 0, 1) := by decide +kernel
theorem dX12_stringAt_53 : decode cX12_stringAt 53 = .ok (.getfield 75, 3) := by decide +kernel
theorem dX12_stringAt_56 : decode cX12_stringAt 56 = .ok (.i2b, 1) := by decide +kernel
theorem dX12_stringAt_57 : decode cX12_stringAt 57 = .ok (.bastore, 1) := by decide +kernel
theorem dX12_stringAt_58 : decode cX12_stringAt 58 = .ok (.iinc 4 1, 3) := by decide +kernel
theorem dX12_stringAt_61 : decode cX12_stringAt 61 = .ok (.goto (-49), 3) := by decide +kernel
theorem dX12_stringAt_64 : decode cX12_stringAt 64 = .ok (.aload_n 0, 1) := by decide +kernel
theorem dX12_stringAt_65 : decode cX12_stringAt 65 = .ok (.getfield 60, 3) := by decide +kernel
theorem dX12_stringAt_68 : decode cX12_stringAt 68 = .ok (.aload_n 0, 1) := by decide +kernel
theorem dX12_stringAt_69 : decode cX12_stringAt 69 = .ok (.getfield 66, 3) := by decide +kernel
theorem dX12_stringAt_72 : decode cX12_stringAt 72 = .ok (.iload_n 3, 1) := by decide +kernel
theorem dX12_stringAt_73 : decode cX12_stringAt 73 = .ok (.iastore, 1) := by decide +kernel
theorem dX12_stringAt_74 : decode cX12_stringAt 74 = .ok (.aload_n 0, 1) := by decide +kernel
theorem dX12_stringAt_75 : decode cX12_stringAt 75 = .ok (.getfield 63, 3) := by decide +kernel
theorem dX12_stringAt_78 : decode cX12_stringAt 78 = .ok (.aload_n 0, 1) := by decide +kernel
theorem dX12_stringAt_79 : decode cX12_stringAt 79 = .ok (.getfield 66, 3) := by decide +kernel
theorem dX12_stringAt_82 : decode cX12_stringAt 82 = .ok (.iload 4, 2) := by decide +kernel
theorem dX12_stringAt_84 : decode cX12_stringAt 84 = .ok (.iastore, 1) := by decide +kernel
theorem dX12_stringAt_85 : decode cX12_stringAt 85 = .ok (.aload_n 0, 1) := by decide +kernel
theorem dX12_stringAt_86 : decode cX12_stringAt 86 = .ok (.dup, 1) := by decide +kernel
theorem dX12_stringAt_87 : decode cX12_stringAt 87 = .ok (.getfield 57, 3) := by decide +kernel
theorem dX12_stringAt_90 : decode cX12_stringAt 90 = .ok (.iload 4, 2) := by decide +kernel
theorem dX12_stringAt_92 : decode cX12_stringAt 92 = .ok (.iadd, 1) := by decide +kernel
theorem dX12_stringAt_93 : decode cX12_stringAt 93 = .ok (.putfield 57, 3) := by decide +kernel
theorem dX12_stringAt_96 : decode cX12_stringAt 96 = .ok (.aload_n 0, 1) := by decide +kernel
theorem dX12_stringAt_97 : decode cX12_stringAt 97 = .ok (.dup, 1) := by decide +kernel
theorem dX12_stringAt_98 : decode cX12_stringAt 98 = .ok (.getfield 66, 3) := by decide +kernel
theorem dX12_stringAt_101 : decode cX12_stringAt 101 = .ok (.iconst 1, 1) := by decide +kernel
theorem dX12_stringAt_102 : decode cX12_stringAt 102 = .ok (.iadd, 1) := by decide +kernel
theorem dX12_stringAt_103 : decode cX12_stringAt 103 = .ok (.putfield 66, 3) := by decide +kernel
theorem dX12_stringAt_106 : decode cX12_stringAt 106 = .ok (.iload_n 2, 1) := by decide +kernel
theorem dX12_stringAt_107 : decode cX12_stringAt 107 = .ok (.iconst 1, 1) := by decide +kernel
theorem dX12_stringAt_108 : decode cX12_stringAt 108 = .ok (.iadd, 1) := by decide +kernel
theorem dX12_stringAt_109 : decode cX12_stringAt 109 = .ok (.ireturn, 1) := by decide +kernel
def wr_stringAt_12B (Q : Int → zS → Prop) (k12 : zS → Int → Int → Int → Prop) (s0 : zS) (x2 : Int) (x3 : Int) (x4 : Int) : Prop :=
  wr_look s0 x2 (fun r1 s2 => ((r1 = 34 → (0 ≤ (zv s2 18)) ∧ ((zv s2 18) < 3100) ∧ (0 ≤ (zv s2 18)) ∧ ((zv s2 18) < 3100) ∧ (zR ((zv s2 15) + x4)) ∧ (zR ((zv s2 18) + 1)) ∧ (zR (x2 + 1)) ∧ Q (x2 + 1) (zpv (zpv (zpa (zpa s2 16 (Int.toNat (zv s2 18)) x3) 17 (Int.toNat (zv s2 18)) x4) 15 ((zv s2 15) + x4)) 18 ((zv s2 18) + 1))) ∧ (¬ r1 = 34 → wr_oneC s2 x2 34 (fun r32 s33 => ((r32 < 0 → Q (-1) s33) ∧ (¬ r32 < 0 → ((¬ x4 = 200 → (0 ≤ (x3 + x4)) ∧ ((x3 + x4) < 6000) ∧ (zR (x4 + 1)) ∧ k12 (zpa s33 14 (Int.toNat (x3 + x4)) (znb (zby (zv s33 21)))) r32 x3 (x4 + 1)) ∧ (x4 = 200 → Q (-1) s33))))))))
def wr_stringAt_12 (Q : Int → zS → Prop)  : Nat → zS → Int → Int → Int → Prop
  | 0 => fun _ _ _ _ => False
  | m + 1 => fun s0 x2 x3 x4 => wr_stringAt_12B Q  (wr_stringAt_12 Q  m) s0 x2 x3 x4
def wr_stringAt (s0 : zS) (a0 : Int) (Q : Int → zS → Prop) : Prop :=
  (zR (a0 + 1)) ∧ ∃ n, wr_stringAt_12 Q  n s0 (a0 + 1) (zv s0 15) 0
set_option maxHeartbeats 4000000 in
set_option maxRecDepth 100000 in
theorem rb_stringAt_12 {X : gX} {d : gD} {b t : Nat} {T : Nat → Nat} {F0 : gM} (hC : gC RX12 cX12_stringAt 5 (some .int) "stringAt" (gR 2 0 0) d b X) {Q : Int → zS → Prop} {k12 : zS → Int → Int → Int → Prop} (hk12 : ∀ (F : gM) (s0 : zS) (x2 : Int) (x3 : Int) (x4 : Int), zR x2 → zR x3 → zR x4 → zZ d t T F0 F s0 → k12 s0 x2 x3 x4 → gG X d b (zQi X d b t T F0 Q) F 0 0 12 [some (.ref t), none, some (.int (zI x2)), some (.int (zI x3)), some (.int (zI x4))] []) {F : gM} {s0 : zS} {x2 : Int} {x3 : Int} {x4 : Int} (Rx2 : zR x2) (Rx3 : zR x3) (Rx4 : zR x4) (hZ : zZ d t T F0 F s0) (hw : wr_stringAt_12B Q k12 s0 x2 x3 x4) : gG X d b (zQi X d b t T F0 Q) F 0 0 12 [some (.ref t), none, some (.int (zI x2)), some (.int (zI x3)), some (.int (zI x4))] [] := by
  unfold wr_stringAt_12B at hw
  refine g_aload_n hC dX12_stringAt_12 rfl ?_
  refine g_iload_n hC dX12_stringAt_13 rfl ?_
  refine zr_callVi (As := [.int (zI x2)]) hC hZ rfl (rm_look X.la d b Rx2 hZ.rf hw) cl_X12_483 rfl rfl (Nat.le_of_ble_eq_true rfl) ⟨Nat.le_of_ble_eq_true rfl, Nat.le_of_ble_eq_true rfl⟩ dX12_stringAt_14 (fun r1 s2 F3 R4 hZ5 h6 => ?_)
  refine g_bipush (v := zI 34) hC dX12_stringAt_17 rfl ?_
  refine zr_icmp_eq (tgt := 64) hC R4 (by decide) dX12_stringAt_19 (by decide) (fun c7 => ?_) (fun c7 => ?_)
  · have h8 := h6.1 c7
    refine g_aload_n hC dX12_stringAt_64 rfl ?_
    refine zr_geta hC hZ5 fl_X12_60 zb_16 (by decide) dX12_stringAt_65 ?_
    refine g_aload_n hC dX12_stringAt_68 rfl ?_
    refine zr_get (e := (zv s2 18)) hC hZ5 fl_X12_66 zb_18 (by decide) rfl dX12_stringAt_69 ?_
    refine g_iload_n hC dX12_stringAt_72 rfl ?_
    obtain ⟨o9, h10⟩ := h8
    obtain ⟨o11, h12⟩ := h10
    refine zr_iast hC hZ5 zk_16 zb_16 zn_16 (by decide) o9 o11 Rx3 dX12_stringAt_73 (fun F13 hZ14 => ?_)
    refine g_aload_n hC dX12_stringAt_74 rfl ?_
    refine zr_geta hC hZ14 fl_X12_63 zb_17 (by decide) dX12_stringAt_75 ?_
    refine g_aload_n hC dX12_stringAt_78 rfl ?_
    refine zr_get (e := (zv s2 18)) hC hZ14 fl_X12_66 zb_18 (by decide) rfl dX12_stringAt_79 ?_
    refine g_iload hC dX12_stringAt_82 rfl ?_
    obtain ⟨o15, h16⟩ := h12
    obtain ⟨o17, h18⟩ := h16
    refine zr_iast hC hZ14 zk_17 zb_17 zn_17 (by decide) o15 o17 Rx4 dX12_stringAt_84 (fun F19 hZ20 => ?_)
    refine g_aload_n hC dX12_stringAt_85 rfl ?_
    refine g_dup hC dX12_stringAt_86 rfl ?_
    refine zr_get (e := (zv s2 15)) hC hZ20 fl_X12_57 zb_15 (by decide) rfl dX12_stringAt_87 ?_
    refine g_iload hC dX12_stringAt_90 rfl ?_
    refine zr_iadd hC dX12_stringAt_92 ?_
    obtain ⟨o21, h22⟩ := h18
    refine zr_put hC hZ20 fl_X12_57 zb_15 (by decide) o21 dX12_stringAt_93 (fun F23 hZ24 => ?_)
    refine g_aload_n hC dX12_stringAt_96 rfl ?_
    refine g_dup hC dX12_stringAt_97 rfl ?_
    refine zr_get (e := (zv s2 18)) hC hZ24 fl_X12_66 zb_18 (by decide) rfl dX12_stringAt_98 ?_
    refine g_iconst (v := zI 1) hC dX12_stringAt_101 rfl ?_
    refine zr_iadd hC dX12_stringAt_102 ?_
    obtain ⟨o25, h26⟩ := h22
    refine zr_put hC hZ24 fl_X12_66 zb_18 (by decide) o25 dX12_stringAt_103 (fun F27 hZ28 => ?_)
    refine g_iload_n hC dX12_stringAt_106 rfl ?_
    refine g_iconst (v := zI 1) hC dX12_stringAt_107 rfl ?_
    refine zr_iadd hC dX12_stringAt_108 ?_
    obtain ⟨o29, h30⟩ := h26
    exact zr_iret hC hZ28 o29 h30 dX12_stringAt_109
  · have h31 := h6.2 c7
    refine g_aload_n hC dX12_stringAt_22 rfl ?_
    refine g_iload_n hC dX12_stringAt_23 rfl ?_
    refine g_bipush (v := zI 34) hC dX12_stringAt_24 rfl ?_
    refine zr_callVi (As := [.int (zI x2), .int (zI 34)]) hC hZ5 rfl (rm_oneC X.la d b Rx2 (by decide) hZ5.rf h31) cl_X12_487 rfl rfl (Nat.le_of_ble_eq_true rfl) ⟨Nat.le_of_ble_eq_true rfl, Nat.le_of_ble_eq_true rfl⟩ dX12_stringAt_26 (fun r32 s33 F34 R35 hZ36 h37 => ?_)
    refine g_istore_n (lv' := [some (.ref t), none, some (.int (zI r32)), some (.int (zI x3)), some (.int (zI x4))]) hC dX12_stringAt_29 (Nat.le_of_ble_eq_true rfl) rfl rfl ?_
    refine g_iload_n hC dX12_stringAt_30 rfl ?_
    refine zr_if_lt (tgt := 42) hC R35 dX12_stringAt_31 (by decide) (fun c38 => ?_) (fun c38 => ?_)
    · have h39 := h37.1 c38
      refine g_iconst (v := zI (-1)) hC dX12_stringAt_42 rfl ?_
      exact zr_iret hC hZ36 (by decide) h39 dX12_stringAt_43
    · have h40 := h37.2 c38
      refine g_iload hC dX12_stringAt_34 rfl ?_
      refine g_sipush (v := zI 200) hC dX12_stringAt_36 rfl ?_
      refine zr_icmp_ne (tgt := 44) hC Rx4 (by decide) dX12_stringAt_39 (by decide) (fun c41 => ?_) (fun c41 => ?_)
      · have h42 := h40.1 c41
        refine g_aload_n hC dX12_stringAt_44 rfl ?_
        refine zr_geta hC hZ36 fl_X12_54 zb_14 (by decide) dX12_stringAt_45 ?_
        refine g_iload_n hC dX12_stringAt_48 rfl ?_
        refine g_iload hC dX12_stringAt_49 rfl ?_
        refine zr_iadd hC dX12_stringAt_51 ?_
        refine g_aload_n hC dX12_stringAt_52 rfl ?_
        refine zr_get (e := (zv s33 21)) hC hZ36 fl_X12_75 zb_21 (by decide) rfl dX12_stringAt_53 ?_
        refine zr_i2b hC dX12_stringAt_56 ?_
        obtain ⟨o43, h44⟩ := h42
        obtain ⟨o45, h46⟩ := h44
        refine zr_bast hC hZ36 zk_14 zb_14 zn_14 (by decide) o43 o45  dX12_stringAt_57 (fun F47 hZ48 => ?_)
        refine zr_iinc (x := x4) (lv' := [some (.ref t), none, some (.int (zI r32)), some (.int (zI x3)), some (.int (zI (x4 + 1)))]) hC dX12_stringAt_58 rfl rfl rfl ?_
        refine g_goto (tgt := 12) hC dX12_stringAt_61 (by decide) ?_
        obtain ⟨o49, h50⟩ := h46
        exact hk12 _ _ _ _ _ R35 Rx3 o49 hZ48 h50
      · have h51 := h40.2 c41
        refine g_iconst (v := zI (-1)) hC dX12_stringAt_42 rfl ?_
        exact zr_iret hC hZ36 (by decide) h51 dX12_stringAt_43
theorem rl_stringAt_12 {X : gX} {d : gD} {b t : Nat} {T : Nat → Nat} {F0 : gM} (hC : gC RX12 cX12_stringAt 5 (some .int) "stringAt" (gR 2 0 0) d b X) {Q : Int → zS → Prop}   : ∀ (m : Nat) (F : gM) (s0 : zS) (x2 : Int) (x3 : Int) (x4 : Int), zR x2 → zR x3 → zR x4 → zZ d t T F0 F s0 → wr_stringAt_12 Q  m s0 x2 x3 x4 → gG X d b (zQi X d b t T F0 Q) F 0 0 12 [some (.ref t), none, some (.int (zI x2)), some (.int (zI x3)), some (.int (zI x4))] [] := by
  intro m
  induction m with
  | zero => intro F s0 x2 x3 x4 Rx2 Rx3 Rx4 hZ hw; exact False.elim hw
  | succ m ih => intro F s0 x2 x3 x4 Rx2 Rx3 Rx4 hZ hw; exact rb_stringAt_12 hC  ih Rx2 Rx3 Rx4 hZ hw
set_option maxHeartbeats 4000000 in
set_option maxRecDepth 100000 in
theorem rm_stringAt (l : Launch) (d : gD) (b : Nat) {t : Nat} {T : Nat → Nat} {F : gM} {s0 : zS} {a0 : Int} (Ra0 : zR a0) {Q : Int → zS → Prop} (hZ : zZ d t T F F s0) (hw : wr_stringAt s0 a0 Q) : gMi l d b yX12_stringAt cX12_stringAt 5 .int 2 0 0 F [.ref t, .int (zI a0)] (zPi d t T F Q) := by
  refine gM_of2 rfl (nL := 5) (Nat.le_of_ble_eq_true rfl) ?_
  intro X hX hC; subst hX
  show gG X d b (zQi X d b t T F Q) F 0 0 0 [some (.ref t), some (.int (zI a0)), none, none, none] []
  unfold wr_stringAt at hw
  refine g_iload_n hC dX12_stringAt_0 rfl ?_
  refine g_iconst (v := zI 1) hC dX12_stringAt_1 rfl ?_
  refine zr_iadd hC dX12_stringAt_2 ?_
  refine g_istore_n (lv' := [some (.ref t), some (.int (zI a0)), some (.int (zI (a0 + 1))), none, none]) hC dX12_stringAt_3 (Nat.le_of_ble_eq_true rfl) rfl rfl ?_
  refine g_aload_n hC dX12_stringAt_4 rfl ?_
  refine zr_get (e := (zv s0 15)) hC hZ fl_X12_57 zb_15 (by decide) rfl dX12_stringAt_5 ?_
  refine g_istore_n (lv' := [some (.ref t), some (.int (zI a0)), some (.int (zI (a0 + 1))), some (.int (zI (zv s0 15))), none]) hC dX12_stringAt_8 (Nat.le_of_ble_eq_true rfl) rfl rfl ?_
  refine g_iconst (v := zI 0) hC dX12_stringAt_9 rfl ?_
  refine g_istore (lv' := [some (.ref t), some (.int (zI a0)), some (.int (zI (a0 + 1))), some (.int (zI (zv s0 15))), some (.int (zI 0))]) hC dX12_stringAt_10 (Nat.le_of_ble_eq_true rfl) rfl rfl ?_
  obtain ⟨o1, h2⟩ := hw
  refine g_lv (lv' := [some (.ref t), none, some (.int (zI (a0 + 1))), some (.int (zI (zv s0 15))), some (.int (zI 0))]) ⟨rfl, rfl, rfl, rfl, trivial⟩ ?_
  obtain ⟨m3, h4⟩ := h2
  exact rl_stringAt_12 hC  m3 _ _ _ _ _ o1 (hZ.rv 15) (by decide) hZ h4
theorem dX12_digits_0 : decode cX12_digits 0 = .ok (.iload_n 1, 1) := by decide +kernel
theorem dX12_digits_1 : decode cX12_digits 1 = .ok (.istore_n 3, 1) := by decide +kernel
theorem dX12_digits_2 : decode cX12_digits 2 = .ok (.lconst 0, 1) := by decide +kernel
theorem dX12_digits_3 : decode cX12_digits 3 = .ok (.lstore 4, 2) := by decide +kernel
theorem dX12_digits_5 : decode cX12_digits 5 = .ok (.iconst 1, 1) := by decide +kernel
theorem dX12_digits_6 : decode cX12_digits 6 = .ok (.istore 6, 2) := by decide +kernel
theorem dX12_digits_8 : decode cX12_digits 8 = .ok (.iload 6, 2) := by decide +kernel
theorem dX12_digits_10 : decode cX12_digits 10 = .ok (.ifCond .eq 102, 3) := by decide +kernel
theorem dX12_digits_13 : decode cX12_digits 13 = .ok (.aload_n 0, 1) := by decide +kernel
theorem dX12_digits_14 : decode cX12_digits 14 = .ok (.iload_n 3, 1) := by decide +kernel
theorem dX12_digits_15 : decode cX12_digits 15 = .ok (.invokevirtual 483, 3) := by decide +kernel
theorem dX12_digits_18 : decode cX12_digits 18 = .ok (.istore 7, 2) := by decide +kernel
theorem dX12_digits_20 : decode cX12_digits 20 = .ok (.iload 7, 2) := by decide +kernel
theorem dX12_digits_22 : decode cX12_digits 22 = .ok (.invokestatic 471, 3) := by decide +kernel
theorem dX12_digits_25 : decode cX12_digits 25 = .ok (.ifCond .eq 11, 3) := by decide +kernel
theorem dX12_digits_28 : decode cX12_digits 28 = .ok (.iload 7, 2) := by decide +kernel
theorem dX12_digits_30 : decode cX12_digits 30 = .ok (.bipush 48, 2) := by decide +kernel
theorem dX12_digits_32 : decode cX12_digits 32 = .ok (.isub, 1) := by decide +kernel
theorem dX12_digits_33 : decode cX12_digits 33 = .ok (.goto 30, 3) := by decide +kernel
theorem dX12_digits_36 : decode cX12_digits 36 = .ok (.iload 7, 2) := by decide +kernel
theorem dX12_digits_38 : decode cX12_digits 38 = .ok (.bipush 65, 2) := by decide +kernel
theorem dX12_digits_40 : decode cX12_digits 40 = .ok (.if_icmp .lt 21, 3) := by decide +kernel
theorem dX12_digits_43 : decode cX12_digits 43 = .ok (.iload 7, 2) := by decide +kernel
theorem dX12_digits_45 : decode cX12_digits 45 = .ok (.bipush 70, 2) := by decide +kernel
theorem dX12_digits_47 : decode cX12_digits 47 = .ok (.if_icmp .gt 14, 3) := by decide +kernel
theorem dX12_digits_50 : decode cX12_digits 50 = .ok (.iload 7, 2) := by decide +kernel
theorem dX12_digits_52 : decode cX12_digits 52 = .ok (.bipush 65, 2) := by decide +kernel
theorem dX12_digits_54 : decode cX12_digits 54 = .ok (.isub, 1) := by decide +kernel
theorem dX12_digits_55 : decode cX12_digits 55 = .ok (.bipush 10, 2) := by decide +kernel
theorem dX12_digits_57 : decode cX12_digits 57 = .ok (.iadd, 1) := by decide +kernel
theorem dX12_digits_58 : decode cX12_digits 58 = .ok (.goto 5, 3) := by decide +kernel
theorem dX12_digits_61 : decode cX12_digits 61 = .ok (.bipush 99, 2) := by decide +kernel
theorem dX12_digits_63 : decode cX12_digits 63 = .ok (.istore 8, 2) := by decide +kernel
theorem dX12_digits_65 : decode cX12_digits 65 = .ok (.iload 8, 2) := by decide +kernel
theorem dX12_digits_67 : decode cX12_digits 67 = .ok (.iload_n 2, 1) := by decide +kernel
theorem dX12_digits_68 : decode cX12_digits 68 = .ok (.if_icmp .ge 7, 3) := by decide +kernel
theorem dX12_digits_71 : decode cX12_digits 71 = .ok (.iconst 1, 1) := by decide +kernel
theorem dX12_digits_72 : decode cX12_digits 72 = .ok (.goto 4, 3) := by decide +kernel
theorem dX12_digits_75 : decode cX12_digits 75 = .ok (.iconst 0, 1) := by decide +kernel
theorem dX12_digits_76 : decode cX12_digits 76 = .ok (.istore 6, 2) := by decide +kernel
theorem dX12_digits_78 : decode cX12_digits 78 = .ok (.iload 6, 2) := by decide +kernel
theorem dX12_digits_80 : decode cX12_digits 80 = .ok (.ifCond .ne 6, 3) := by decide +kernel
theorem dX12_digits_83 : decode cX12_digits 83 = .ok (.goto (-75), 3) := by decide +kernel
theorem dX12_digits_86 : decode cX12_digits 86 = .ok (.lload 4, 2) := by decide +kernel
theorem dX12_digits_88 : decode cX12_digits 88 = .ok (.ldc2_w 491, 3) := by decide +kernel
theorem dX12_digits_91 : decode cX12_digits 91 = .ok (.lcmp, 1) := by decide +kernel
theorem dX12_digits_92 : decode cX12_digits 92 = .ok (.ifCond .ge 14, 3) := by decide +kernel
theorem dX12_digits_95 : decode cX12_digits 95 = .ok (.lload 4, 2) := by decide +kernel
theorem dX12_digits_97 : decode cX12_digits 97 = .ok (.iload_n 2, 1) := by decide +kernel
theorem dX12_digits_98 : decode cX12_digits 98 = .ok (.i2l, 1) := by decide +kernel
theorem dX12_digits_99 : decode cX12_digits 99 = .ok (.lmul, 1) := by decide +kernel
theorem dX12_digits_100 : decode cX12_digits 100 = .ok (.iload 8, 2) := by decide +kernel
theorem dX12_digits_102 : decode cX12_digits 102 = .ok (.i2l, 1) := by decide +kernel
theorem dX12_digits_103 : decode cX12_digits 103 = .ok (.ladd, 1) := by decide +kernel
theorem dX12_digits_104 : decode cX12_digits 104 = .ok (.lstore 4, 2) := by decide +kernel
theorem dX12_digits_106 : decode cX12_digits 106 = .ok (.iinc 3 1, 3) := by decide +kernel
theorem dX12_digits_109 : decode cX12_digits 109 = .ok (.goto (-101), 3) := by decide +kernel
theorem dX12_digits_112 : decode cX12_digits 112 = .ok (.aload_n 0, 1) := by decide +kernel
theorem dX12_digits_113 : decode cX12_digits 113 = .ok (.lload 4, 2) := by decide +kernel
theorem dX12_digits_115 : decode cX12_digits 115 = .ok (.l2i, 1) := by decide +kernel
theorem dX12_digits_116 : decode cX12_digits 116 = .ok (.putfield 78, 3) := by decide +kernel
theorem dX12_digits_119 : decode cX12_digits 119 = .ok (.iload_n 3, 1) := by decide +kernel
theorem dX12_digits_120 : decode cX12_digits 120 = .ok (.iload_n 1, 1) := by decide +kernel
theorem dX12_digits_121 : decode cX12_digits 121 = .ok (.if_icmp .eq 12, 3) := by decide +kernel
theorem dX12_digits_124 : decode cX12_digits 124 = .ok (.lload 4, 2) := by decide +kernel
theorem dX12_digits_126 : decode cX12_digits 126 = .ok (.ldc2_w 491, 3) := by decide +kernel
theorem dX12_digits_129 : decode cX12_digits 129 = .ok (.lcmp, 1) := by decide +kernel
theorem dX12_digits_130 : decode cX12_digits 130 = .ok (.ifCond .lt 7, 3) := by decide +kernel
theorem dX12_digits_133 : decode cX12_digits 133 = .ok (.iconst (-1), 1) := by decide +kernel
theorem dX12_digits_134 : decode cX12_digits 134 = .ok (.goto 4, 3) := by decide +kernel
theorem dX12_digits_137 : decode cX12_digits 137 = .ok (.iload_n 3, 1) := by decide +kernel
theorem dX12_digits_138 : decode cX12_digits 138 = .ok (.ireturn, 1) := by decide +kernel
def wr_digits_63 (Q : Int → zS → Prop) (k8 : zS → Int → Int → Int → Int → Int → Prop) (s0 : zS) (x1 : Int) (x2 : Int) (x3 : Int) (x4 : Int) (y0 : Int) : Prop :=
  ((x2 ≤ y0 → k8 s0 x1 x2 x3 x4 0) ∧ (¬ x2 ≤ y0 → ((4294967296 ≤ x4 → (zR (x3 + 1)) ∧ k8 s0 x1 x2 (x3 + 1) x4 1) ∧ (¬ 4294967296 ≤ x4 → (zR (x3 + 1)) ∧ (zL ((x4 * x2) + y0)) ∧ k8 s0 x1 x2 (x3 + 1) ((x4 * x2) + y0) 1))))
def wr_digits_8B (Q : Int → zS → Prop) (k8 : zS → Int → Int → Int → Int → Int → Prop) (s0 : zS) (x1 : Int) (x2 : Int) (x3 : Int) (x4 : Int) (x6 : Int) : Prop :=
  ((x6 = 0 → ∀ z3 : Int, z3 = zw x4 → zR z3 → ((x3 = x1 → Q (-1) (zpv s0 22 z3)) ∧ (¬ x3 = x1 → ((x4 < 4294967296 → Q x3 (zpv s0 22 z3)) ∧ (¬ x4 < 4294967296 → Q (-1) (zpv s0 22 z3)))))) ∧ (¬ x6 = 0 → wr_look s0 x3 (fun r16 s17 => wr_isDigit s17 r16 (fun r22 s23 => ((r22 = 0 → ((r16 < 65 → wr_digits_63 Q k8 s23 x1 x2 x3 x4 99) ∧ (¬ r16 < 65 → ((70 < r16 → wr_digits_63 Q k8 s23 x1 x2 x3 x4 99) ∧ (¬ 70 < r16 → (zR ((r16 - 65) + 10)) ∧ wr_digits_63 Q k8 s23 x1 x2 x3 x4 ((r16 - 65) + 10)))))) ∧ (¬ r22 = 0 → (zR (r16 - 48)) ∧ wr_digits_63 Q k8 s23 x1 x2 x3 x4 (r16 - 48)))))))
def wr_digits_8 (Q : Int → zS → Prop)  : Nat → zS → Int → Int → Int → Int → Int → Prop
  | 0 => fun _ _ _ _ _ _ => False
  | m + 1 => fun s0 x1 x2 x3 x4 x6 => wr_digits_8B Q  (wr_digits_8 Q  m) s0 x1 x2 x3 x4 x6
def wr_digits (s0 : zS) (a0 : Int) (a1 : Int) (Q : Int → zS → Prop) : Prop :=
  ∃ n, wr_digits_8 Q  n s0 a0 a1 a0 0 1
set_option maxHeartbeats 4000000 in
set_option maxRecDepth 100000 in
theorem rj_digits_63 {X : gX} {d : gD} {b t : Nat} {T : Nat → Nat} {F0 : gM} (hC : gC RX12 cX12_digits 9 (some .int) "digits" (gR 1 0 0) d b X) {Q : Int → zS → Prop} {k8 : zS → Int → Int → Int → Int → Int → Prop} (hk8 : ∀ (F : gM) (s0 : zS) (x1 : Int) (x2 : Int) (x3 : Int) (x4 : Int) (x6 : Int), zR x1 → zR x2 → zR x3 → zL x4 → zR x6 → zZ d t T F0 F s0 → k8 s0 x1 x2 x3 x4 x6 → gG X d b (zQi X d b t T F0 Q) F 0 0 8 [some (.ref t), some (.int (zI x1)), some (.int (zI x2)), some (.int (zI x3)), some (.long (zJ x4)), none, some (.int (zI x6)), none, none] []) {F : gM} {s0 : zS} {x1 : Int} {x2 : Int} {x3 : Int} {x4 : Int} {y0 : Int} (Rx1 : zR x1) (Rx2 : zR x2) (Rx3 : zR x3) (Rx4 : zL x4) (Ry0 : zR y0) (hZ : zZ d t T F0 F s0) (hw : wr_digits_63 Q k8 s0 x1 x2 x3 x4 y0) : gG X d b (zQi X d b t T F0 Q) F 0 0 63 [some (.ref t), some (.int (zI x1)), some (.int (zI x2)), some (.int (zI x3)), some (.long (zJ x4)), none, none, none, none] [.int (zI y0)] := by
  unfold wr_digits_63 at hw
  refine g_istore (lv' := [some (.ref t), some (.int (zI x1)), some (.int (zI x2)), some (.int (zI x3)), some (.long (zJ x4)), none, none, none, some (.int (zI y0))]) hC dX12_digits_63 (Nat.le_of_ble_eq_true rfl) rfl rfl ?_
  refine g_iload hC dX12_digits_65 rfl ?_
  refine g_iload_n hC dX12_digits_67 rfl ?_
  refine zr_icmp_ge (tgt := 75) hC Ry0 Rx2 dX12_digits_68 (by decide) (fun c1 => ?_) (fun c1 => ?_)
  · have h2 := hw.1 c1
    refine g_iconst (v := zI 0) hC dX12_digits_75 rfl ?_
    refine g_istore (lv' := [some (.ref t), some (.int (zI x1)), some (.int (zI x2)), some (.int (zI x3)), some (.long (zJ x4)), none, some (.int (zI 0)), none, some (.int (zI y0))]) hC dX12_digits_76 (Nat.le_of_ble_eq_true rfl) rfl rfl ?_
    refine g_iload hC dX12_digits_78 rfl ?_
    refine zr_if_ne (tgt := 86) hC (by decide) dX12_digits_80 (by decide) (fun c3 => ?_) (fun c3 => ?_)
    · exact absurd (by decide) c3
    · refine g_goto (tgt := 8) hC dX12_digits_83 (by decide) ?_
      refine g_lv (lv' := [some (.ref t), some (.int (zI x1)), some (.int (zI x2)), some (.int (zI x3)), some (.long (zJ x4)), none, some (.int (zI 0)), none, none]) ⟨rfl, rfl, rfl, rfl, rfl, rfl, trivial⟩ ?_
      exact hk8 _ _ _ _ _ _ _ Rx1 Rx2 Rx3 Rx4 (by decide) hZ h2
  · have h4 := hw.2 c1
    refine g_iconst (v := zI 1) hC dX12_digits_71 rfl ?_
    refine g_goto (tgt := 76) hC dX12_digits_72 (by decide) ?_
    refine g_istore (lv' := [some (.ref t), some (.int (zI x1)), some (.int (zI x2)), some (.int (zI x3)), some (.long (zJ x4)), none, some (.int (zI 1)), none, some (.int (zI y0))]) hC dX12_digits_76 (Nat.le_of_ble_eq_true rfl) rfl rfl ?_
    refine g_iload hC dX12_digits_78 rfl ?_
    refine zr_if_ne (tgt := 86) hC (by decide) dX12_digits_80 (by decide) (fun c5 => ?_) (fun c5 => ?_)
    · refine g_lload hC dX12_digits_86 rfl ?_
      refine zr_ldc2 (e := 4294967296) hC dX12_digits_88 kw_2425 (by decide) ?_
      refine g_lcmp hC dX12_digits_91 ?_
      refine zr_lif_ge (tgt := 106) hC Rx4 (by decide) dX12_digits_92 (by decide) (fun c6 => ?_) (fun c6 => ?_)
      · have h7 := h4.1 c6
        refine zr_iinc (x := x3) (lv' := [some (.ref t), some (.int (zI x1)), some (.int (zI x2)), some (.int (zI (x3 + 1))), some (.long (zJ x4)), none, some (.int (zI 1)), none, some (.int (zI y0))]) hC dX12_digits_106 rfl rfl rfl ?_
        refine g_goto (tgt := 8) hC dX12_digits_109 (by decide) ?_
        obtain ⟨o8, h9⟩ := h7
        refine g_lv (lv' := [some (.ref t), some (.int (zI x1)), some (.int (zI x2)), some (.int (zI (x3 + 1))), some (.long (zJ x4)), none, some (.int (zI 1)), none, none]) ⟨rfl, rfl, rfl, rfl, rfl, rfl, trivial⟩ ?_
        exact hk8 _ _ _ _ _ _ _ Rx1 Rx2 o8 Rx4 (by decide) hZ h9
      · have h10 := h4.2 c6
        refine g_lload hC dX12_digits_95 rfl ?_
        refine g_iload_n hC dX12_digits_97 rfl ?_
        refine zr_i2l hC dX12_digits_98 Rx2 ?_
        refine zr_lmul hC dX12_digits_99 ?_
        refine g_iload hC dX12_digits_100 rfl ?_
        refine zr_i2l hC dX12_digits_102 Ry0 ?_
        refine zr_ladd hC dX12_digits_103 ?_
        refine g_lstore (lv' := [some (.ref t), some (.int (zI x1)), some (.int (zI x2)), some (.int (zI x3)), some (.long (zJ ((x4 * x2) + y0))), none, some (.int (zI 1)), none, some (.int (zI y0))]) hC dX12_digits_104 (Nat.le_of_ble_eq_true rfl) rfl rfl ?_
        refine zr_iinc (x := x3) (lv' := [some (.ref t), some (.int (zI x1)), some (.int (zI x2)), some (.int (zI (x3 + 1))), some (.long (zJ ((x4 * x2) + y0))), none, some (.int (zI 1)), none, some (.int (zI y0))]) hC dX12_digits_106 rfl rfl rfl ?_
        refine g_goto (tgt := 8) hC dX12_digits_109 (by decide) ?_
        obtain ⟨o11, h12⟩ := h10
        obtain ⟨o13, h14⟩ := h12
        refine g_lv (lv' := [some (.ref t), some (.int (zI x1)), some (.int (zI x2)), some (.int (zI (x3 + 1))), some (.long (zJ ((x4 * x2) + y0))), none, some (.int (zI 1)), none, none]) ⟨rfl, rfl, rfl, rfl, rfl, rfl, trivial⟩ ?_
        exact hk8 _ _ _ _ _ _ _ Rx1 Rx2 o11 o13 (by decide) hZ h14
    · exact absurd c5 (by decide)
set_option maxHeartbeats 4000000 in
set_option maxRecDepth 100000 in
theorem rb_digits_8 {X : gX} {d : gD} {b t : Nat} {T : Nat → Nat} {F0 : gM} (hC : gC RX12 cX12_digits 9 (some .int) "digits" (gR 1 0 0) d b X) {Q : Int → zS → Prop} {k8 : zS → Int → Int → Int → Int → Int → Prop} (hk8 : ∀ (F : gM) (s0 : zS) (x1 : Int) (x2 : Int) (x3 : Int) (x4 : Int) (x6 : Int), zR x1 → zR x2 → zR x3 → zL x4 → zR x6 → zZ d t T F0 F s0 → k8 s0 x1 x2 x3 x4 x6 → gG X d b (zQi X d b t T F0 Q) F 0 0 8 [some (.ref t), some (.int (zI x1)), some (.int (zI x2)), some (.int (zI x3)), some (.long (zJ x4)), none, some (.int (zI x6)), none, none] []) {F : gM} {s0 : zS} {x1 : Int} {x2 : Int} {x3 : Int} {x4 : Int} {x6 : Int} (Rx1 : zR x1) (Rx2 : zR x2) (Rx3 : zR x3) (Rx4 : zL x4) (Rx6 : zR x6) (hZ : zZ d t T F0 F s0) (hw : wr_digits_8B Q k8 s0 x1 x2 x3 x4 x6) : gG X d b (zQi X d b t T F0 Q) F 0 0 8 [some (.ref t), some (.int (zI x1)), some (.int (zI x2)), some (.int (zI x3)), some (.long (zJ x4)), none, some (.int (zI x6)), none, none] [] := by
  unfold wr_digits_8B at hw
  refine g_iload hC dX12_digits_8 rfl ?_
  refine zr_if_eq (tgt := 112) hC Rx6 dX12_digits_10 (by decide) (fun c1 => ?_) (fun c1 => ?_)
  · have h2 := hw.1 c1
    refine g_aload_n hC dX12_digits_112 rfl ?_
    refine g_lload hC dX12_digits_113 rfl ?_
    refine zr_l2i hC dX12_digits_115 ?_
    refine zr_w (fun z3 e4 R5 => ?_)
    have h6 := h2 z3 e4 R5
    refine zr_put hC hZ fl_X12_78 zb_22 (by decide) R5 dX12_digits_116 (fun F7 hZ8 => ?_)
    refine g_iload_n hC dX12_digits_119 rfl ?_
    refine g_iload_n hC dX12_digits_120 rfl ?_
    refine zr_icmp_eq (tgt := 133) hC Rx3 Rx1 dX12_digits_121 (by decide) (fun c9 => ?_) (fun c9 => ?_)
    · have h10 := h6.1 c9
      refine g_iconst (v := zI (-1)) hC dX12_digits_133 rfl ?_
      refine g_goto (tgt := 138) hC dX12_digits_134 (by decide) ?_
      exact zr_iret hC hZ8 (by decide) h10 dX12_digits_138
    · have h11 := h6.2 c9
      refine g_lload hC dX12_digits_124 rfl ?_
      refine zr_ldc2 (e := 4294967296) hC dX12_digits_126 kw_2425 (by decide) ?_
      refine g_lcmp hC dX12_digits_129 ?_
      refine zr_lif_lt (tgt := 137) hC Rx4 (by decide) dX12_digits_130 (by decide) (fun c12 => ?_) (fun c12 => ?_)
      · have h13 := h11.1 c12
        refine g_iload_n hC dX12_digits_137 rfl ?_
        exact zr_iret hC hZ8 Rx3 h13 dX12_digits_138
      · have h14 := h11.2 c12
        refine g_iconst (v := zI (-1)) hC dX12_digits_133 rfl ?_
        refine g_goto (tgt := 138) hC dX12_digits_134 (by decide) ?_
        exact zr_iret hC hZ8 (by decide) h14 dX12_digits_138
  · have h15 := hw.2 c1
    refine g_aload_n hC dX12_digits_13 rfl ?_
    refine g_iload_n hC dX12_digits_14 rfl ?_
    refine zr_callVi (As := [.int (zI x3)]) hC hZ rfl (rm_look X.la d b Rx3 hZ.rf h15) cl_X12_483 rfl rfl (Nat.le_of_ble_eq_true rfl) ⟨Nat.le_of_ble_eq_true rfl, Nat.le_of_ble_eq_true rfl⟩ dX12_digits_15 (fun r16 s17 F18 R19 hZ20 h21 => ?_)
    refine g_istore (lv' := [some (.ref t), some (.int (zI x1)), some (.int (zI x2)), some (.int (zI x3)), some (.long (zJ x4)), none, some (.int (zI x6)), some (.int (zI r16)), none]) hC dX12_digits_18 (Nat.le_of_ble_eq_true rfl) rfl rfl ?_
    refine g_iload hC dX12_digits_20 rfl ?_
    refine zr_callSi (As := [.int (zI r16)]) hC hZ20 (rm_isDigit X.la d b R19 hZ20.rf h21) cl_X12_471 rfl rfl (Nat.le_of_ble_eq_true rfl) ⟨Nat.le_of_ble_eq_true rfl, Nat.le_of_ble_eq_true rfl⟩ dX12_digits_22 (fun r22 s23 F24 R25 hZ26 h27 => ?_)
    refine zr_if_eq (tgt := 36) hC R25 dX12_digits_25 (by decide) (fun c28 => ?_) (fun c28 => ?_)
    · have h29 := h27.1 c28
      refine g_iload hC dX12_digits_36 rfl ?_
      refine g_bipush (v := zI 65) hC dX12_digits_38 rfl ?_
      refine zr_icmp_lt (tgt := 61) hC R19 (by decide) dX12_digits_40 (by decide) (fun c30 => ?_) (fun c30 => ?_)
      · have h31 := h29.1 c30
        refine g_bipush (v := zI 99) hC dX12_digits_61 rfl ?_
        refine g_lv (lv' := [some (.ref t), some (.int (zI x1)), some (.int (zI x2)), some (.int (zI x3)), some (.long (zJ x4)), none, none, none, none]) ⟨rfl, rfl, rfl, rfl, rfl, trivial⟩ ?_
        exact rj_digits_63 hC hk8 Rx1 Rx2 Rx3 Rx4 (by decide) hZ26 h31
      · have h32 := h29.2 c30
        refine g_iload hC dX12_digits_43 rfl ?_
        refine g_bipush (v := zI 70) hC dX12_digits_45 rfl ?_
        refine zr_icmp_gt (tgt := 61) hC R19 (by decide) dX12_digits_47 (by decide) (fun c33 => ?_) (fun c33 => ?_)
        · have h34 := h32.1 c33
          refine g_bipush (v := zI 99) hC dX12_digits_61 rfl ?_
          refine g_lv (lv' := [some (.ref t), some (.int (zI x1)), some (.int (zI x2)), some (.int (zI x3)), some (.long (zJ x4)), none, none, none, none]) ⟨rfl, rfl, rfl, rfl, rfl, trivial⟩ ?_
          exact rj_digits_63 hC hk8 Rx1 Rx2 Rx3 Rx4 (by decide) hZ26 h34
        · have h35 := h32.2 c33
          refine g_iload hC dX12_digits_50 rfl ?_
          refine g_bipush (v := zI 65) hC dX12_digits_52 rfl ?_
          refine zr_isub hC dX12_digits_54 ?_
          refine g_bipush (v := zI 10) hC dX12_digits_55 rfl ?_
          refine zr_iadd hC dX12_digits_57 ?_
          refine g_goto (tgt := 63) hC dX12_digits_58 (by decide) ?_
          obtain ⟨o36, h37⟩ := h35
          refine g_lv (lv' := [some (.ref t), some (.int (zI x1)), some (.int (zI x2)), some (.int (zI x3)), some (.long (zJ x4)), none, none, none, none]) ⟨rfl, rfl, rfl, rfl, rfl, trivial⟩ ?_
          exact rj_digits_63 hC hk8 Rx1 Rx2 Rx3 Rx4 o36 hZ26 h37
    · have h38 := h27.2 c28
      refine g_iload hC dX12_digits_28 rfl ?_
      refine g_bipush (v := zI 48) hC dX12_digits_30 rfl ?_
      refine zr_isub hC dX12_digits_32 ?_
      refine g_goto (tgt := 63) hC dX12_digits_33 (by decide) ?_
      obtain ⟨o39, h40⟩ := h38
      refine g_lv (lv' := [some (.ref t), some (.int (zI x1)), some (.int (zI x2)), some (.int (zI x3)), some (.long (zJ x4)), none, none, none, none]) ⟨rfl, rfl, rfl, rfl, rfl, trivial⟩ ?_
      exact rj_digits_63 hC hk8 Rx1 Rx2 Rx3 Rx4 o39 hZ26 h40
theorem rl_digits_8 {X : gX} {d : gD} {b t : Nat} {T : Nat → Nat} {F0 : gM} (hC : gC RX12 cX12_digits 9 (some .int) "digits" (gR 1 0 0) d b X) {Q : Int → zS → Prop}   : ∀ (m : Nat) (F : gM) (s0 : zS) (x1 : Int) (x2 : Int) (x3 : Int) (x4 : Int) (x6 : Int), zR x1 → zR x2 → zR x3 → zL x4 → zR x6 → zZ d t T F0 F s0 → wr_digits_8 Q  m s0 x1 x2 x3 x4 x6 → gG X d b (zQi X d b t T F0 Q) F 0 0 8 [some (.ref t), some (.int (zI x1)), some (.int (zI x2)), some (.int (zI x3)), some (.long (zJ x4)), none, some (.int (zI x6)), none, none] [] := by
  intro m
  induction m with
  | zero => intro F s0 x1 x2 x3 x4 x6 Rx1 Rx2 Rx3 Rx4 Rx6 hZ hw; exact False.elim hw
  | succ m ih => intro F s0 x1 x2 x3 x4 x6 Rx1 Rx2 Rx3 Rx4 Rx6 hZ hw; exact rb_digits_8 hC  ih Rx1 Rx2 Rx3 Rx4 Rx6 hZ hw
set_option maxHeartbeats 4000000 in
set_option maxRecDepth 100000 in
theorem rm_digits (l : Launch) (d : gD) (b : Nat) {t : Nat} {T : Nat → Nat} {F : gM} {s0 : zS} {a0 : Int} {a1 : Int} (Ra0 : zR a0) (Ra1 : zR a1) {Q : Int → zS → Prop} (hZ : zZ d t T F F s0) (hw : wr_digits s0 a0 a1 Q) : gMi l d b yX12_digits cX12_digits 9 .int 1 0 0 F [.ref t, .int (zI a0), .int (zI a1)] (zPi d t T F Q) := by
  refine gM_of2 rfl (nL := 9) (Nat.le_of_ble_eq_true rfl) ?_
  intro X hX hC; subst hX
  show gG X d b (zQi X d b t T F Q) F 0 0 0 [some (.ref t), some (.int (zI a0)), some (.int (zI a1)), none, none, none, none, none, none] []
  unfold wr_digits at hw
  refine g_iload_n hC dX12_digits_0 rfl ?_
  refine g_istore_n (lv' := [some (.ref t), some (.int (zI a0)), some (.int (zI a1)), some (.int (zI a0)), none, none, none, none, none]) hC dX12_digits_1 (Nat.le_of_ble_eq_true rfl) rfl rfl ?_
  refine g_lconst (v := zJ 0) hC dX12_digits_2 rfl ?_
  refine g_lstore (lv' := [some (.ref t), some (.int (zI a0)), some (.int (zI a1)), some (.int (zI a0)), some (.long (zJ 0)), none, none, none, none]) hC dX12_digits_3 (Nat.le_of_ble_eq_true rfl) rfl rfl ?_
  refine g_iconst (v := zI 1) hC dX12_digits_5 rfl ?_
  refine g_istore (lv' := [some (.ref t), some (.int (zI a0)), some (.int (zI a1)), some (.int (zI a0)), some (.long (zJ 0)), none, some (.int (zI 1)), none, none]) hC dX12_digits_6 (Nat.le_of_ble_eq_true rfl) rfl rfl ?_
  obtain ⟨m1, h2⟩ := hw
  exact rl_digits_8 hC  m1 _ _ _ _ _ _ _ Ra0 Ra1 Ra0 (by decide) (by decide) hZ h2
theorem dX12_isPair_0 : decode cX12_isPair 0 = .ok (.aload_n 0, 1) := by decide +kernel
theorem dX12_isPair_1 : decode cX12_isPair 1 = .ok (.iload_n 1, 1) := by decide +kernel
theorem dX12_isPair_2 : decode cX12_isPair 2 = .ok (.invokevirtual 483, 3) := by decide +kernel
theorem dX12_isPair_5 : decode cX12_isPair 5 = .ok (.iload_n 2, 1) := by decide +kernel
theorem dX12_isPair_6 : decode cX12_isPair 6 = .ok (.if_icmp .ne 18, 3) := by decide +kernel
theorem dX12_isPair_9 : decode cX12_isPair 9 = .ok (.aload_n 0, 1) := by decide +kernel
theorem dX12_isPair_10 : decode cX12_isPair 10 = .ok (.iload_n 1, 1) := by decide +kernel
theorem dX12_isPair_11 : decode cX12_isPair 11 = .ok (.iconst 1, 1) := by decide +kernel
theorem dX12_isPair_12 : decode cX12_isPair 12 = .ok (.iadd, 1) := by decide +kernel
theorem dX12_isPair_13 : decode cX12_isPair 13 = .ok (.invokevirtual 483, 3) := by decide +kernel
theorem dX12_isPair_16 : decode cX12_isPair 16 = .ok (.iload_n 3, 1) := by decide +kernel
theorem dX12_isPair_17 : decode cX12_isPair 17 = .ok (.if_icmp .ne 7, 3) := by decide +kernel
theorem dX12_isPair_20 : decode cX12_isPair 20 = .ok (.iconst 1, 1) := by decide +kernel
theorem dX12_isPair_21 : decode cX12_isPair 21 = .ok (.goto 4, 3) := by decide +kernel
theorem dX12_isPair_24 : decode cX12_isPair 24 = .ok (.iconst 0, 1) := by decide +kernel
theorem dX12_isPair_25 : decode cX12_isPair 25 = .ok (.ireturn, 1) := by decide +kernel
def wr_isPair (s0 : zS) (a0 : Int) (a1 : Int) (a2 : Int) (Q : Int → zS → Prop) : Prop :=
  wr_look s0 a0 (fun r1 s2 => ((¬ r1 = a1 → Q 0 s2) ∧ (r1 = a1 → (zR (a0 + 1)) ∧ wr_look s2 (a0 + 1) (fun r12 s13 => ((¬ r12 = a2 → Q 0 s13) ∧ (r12 = a2 → Q 1 s13))))))
set_option maxHeartbeats 4000000 in
set_option maxRecDepth 100000 in
theorem rm_isPair (l : Launch) (d : gD) (b : Nat) {t : Nat} {T : Nat → Nat} {F : gM} {s0 : zS} {a0 : Int} {a1 : Int} {a2 : Int} (Ra0 : zR a0) (Ra1 : zR a1) (Ra2 : zR a2) {Q : Int → zS → Prop} (hZ : zZ d t T F F s0) (hw : wr_isPair s0 a0 a1 a2 Q) : gMi l d b yX12_isPair cX12_isPair 4 .boolean 1 0 0 F [.ref t, .int (zI a0), .int (zI a1), .int (zI a2)] (zPi d t T F Q) := by
  refine gM_of2 rfl (nL := 4) (Nat.le_of_ble_eq_true rfl) ?_
  intro X hX hC; subst hX
  show gG X d b (zQi X d b t T F Q) F 0 0 0 [some (.ref t), some (.int (zI a0)), some (.int (zI a1)), some (.int (zI a2))] []
  unfold wr_isPair at hw
  refine g_aload_n hC dX12_isPair_0 rfl ?_
  refine g_iload_n hC dX12_isPair_1 rfl ?_
  refine zr_callVi (As := [.int (zI a0)]) hC hZ rfl (rm_look X.la d b Ra0 hZ.rf hw) cl_X12_483 rfl rfl (Nat.le_of_ble_eq_true rfl) ⟨Nat.le_of_ble_eq_true rfl, Nat.le_of_ble_eq_true rfl⟩ dX12_isPair_2 (fun r1 s2 F3 R4 hZ5 h6 => ?_)
  refine g_iload_n hC dX12_isPair_5 rfl ?_
  refine zr_icmp_ne (tgt := 24) hC R4 Ra1 dX12_isPair_6 (by decide) (fun c7 => ?_) (fun c7 => ?_)
  · have h8 := h6.1 c7
    refine g_iconst (v := zI 0) hC dX12_isPair_24 rfl ?_
    exact zr_zret hC hZ5 (Or.inl rfl) h8 dX12_isPair_25
  · have h9 := h6.2 c7
    refine g_aload_n hC dX12_isPair_9 rfl ?_
    refine g_iload_n hC dX12_isPair_10 rfl ?_
    refine g_iconst (v := zI 1) hC dX12_isPair_11 rfl ?_
    refine zr_iadd hC dX12_isPair_12 ?_
    obtain ⟨o10, h11⟩ := h9
    refine zr_callVi (As := [.int (zI (a0 + 1))]) hC hZ5 rfl (rm_look X.la d b o10 hZ5.rf h11) cl_X12_483 rfl rfl (Nat.le_of_ble_eq_true rfl) ⟨Nat.le_of_ble_eq_true rfl, Nat.le_of_ble_eq_true rfl⟩ dX12_isPair_13 (fun r12 s13 F14 R15 hZ16 h17 => ?_)
    refine g_iload_n hC dX12_isPair_16 rfl ?_
    refine zr_icmp_ne (tgt := 24) hC R15 Ra2 dX12_isPair_17 (by decide) (fun c18 => ?_) (fun c18 => ?_)
    · have h19 := h17.1 c18
      refine g_iconst (v := zI 0) hC dX12_isPair_24 rfl ?_
      exact zr_zret hC hZ16 (Or.inl rfl) h19 dX12_isPair_25
    · have h20 := h17.2 c18
      refine g_iconst (v := zI 1) hC dX12_isPair_20 rfl ?_
      refine g_goto (tgt := 25) hC dX12_isPair_21 (by decide) ?_
      exact zr_zret hC hZ16 (Or.inr rfl) h20 dX12_isPair_25
theorem dX12_signAt_0 : decode cX12_signAt 0 = .ok (.aload_n 0, 1) := by decide +kernel
theorem dX12_signAt_1 : decode cX12_signAt 1 = .ok (.iconst 2, 1) := by decide +kernel
theorem dX12_signAt_2 : decode cX12_signAt 2 = .ok (.putfield 81, 3) := by decide +kernel
theorem dX12_signAt_5 : decode cX12_signAt 5 = .ok (.aload_n 0, 1) := by decide +kernel
theorem dX12_signAt_6 : decode cX12_signAt 6 = .ok (.iload_n 1, 1) := by decide +kernel
theorem dX12_signAt_7 : decode cX12_signAt 7 = .ok (.bipush 36, 2) := by decide +kernel
theorem dX12_signAt_9 : decode cX12_signAt 9 = .ok (.bipush 40, 2) := by decide +kernel
theorem dX12_signAt_11 : decode cX12_signAt 11 = .ok (.invokevirtual 493, 3) := by decide +kernel
theorem dX12_signAt_14 : decode cX12_signAt 14 = .ok (.ifCond .eq 6, 3) := by decide +kernel
theorem dX12_signAt_17 : decode cX12_signAt 17 = .ok (.bipush 10, 2) := by decide +kernel
theorem dX12_signAt_19 : decode cX12_signAt 19 = .ok (.ireturn, 1) := by decide +kernel
theorem dX12_signAt_20 : decode cX12_signAt 20 = .ok (.aload_n 0, 1) := by decide +kernel
theorem dX12_signAt_21 : decode cX12_signAt 21 = .ok (.iload_n 1, 1) := by decide +kernel
theorem dX12_signAt_22 : decode cX12_signAt 22 = .ok (.bipush 36, 2) := by decide +kernel
theorem dX12_signAt_24 : decode cX12_signAt 24 = .ok (.bipush 41, 2) := by decide +kernel
theorem dX12_signAt_26 : decode cX12_signAt 26 = .ok (.invokevirtual 493, 3) := by decide +kernel
theorem dX12_signAt_29 : decode cX12_signAt 29 = .ok (.ifCond .eq 6, 3) := by decide +kernel
theorem dX12_signAt_32 : decode cX12_signAt 32 = .ok (.bipush 11, 2) := by decide +kernel
theorem dX12_signAt_34 : decode cX12_signAt 34 = .ok (.ireturn, 1) := by decide +kernel
theorem dX12_signAt_35 : decode cX12_signAt 35 = .ok (.aload_n 0, 1) := by decide +kernel
theorem dX12_signAt_36 : decode cX12_signAt 36 = .ok (.iload_n 1, 1) := by decide +kernel
theorem dX12_signAt_37 : decode cX12_signAt 37 = .ok (.bipush 58, 2) := by decide +kernel
theorem dX12_signAt_39 : decode cX12_signAt 39 = .ok (.bipush 61, 2) := by decide +kernel
theorem dX12_signAt_41 : decode cX12_signAt 41 = .ok (.invokevirtual 493, 3) := by decide +kernel
theorem dX12_signAt_44 : decode cX12_signAt 44 = .ok (.ifCond .eq 6, 3) := by decide +kernel
theorem dX12_signAt_47 : decode cX12_signAt 47 = .ok (.bipush 16, 2) := by decide +kernel
theorem dX12_signAt_49 : decode cX12_signAt 49 = .ok (.ireturn, 1) := by decide +kernel
theorem dX12_signAt_50 : decode cX12_signAt 50 = .ok (.aload_n 0, 1) := by decide +kernel
theorem dX12_signAt_51 : decode cX12_signAt 51 = .ok (.iload_n 1, 1) := by decide +kernel
theorem dX12_signAt_52 : decode cX12_signAt 52 = .ok (.bipush 126, 2) := by decide +kernel
theorem dX12_signAt_54 : decode cX12_signAt 54 = .ok (.bipush 61, 2) := by decide +kernel
theorem dX12_signAt_56 : decode cX12_signAt 56 = .ok (.invokevirtual 493, 3) := by decide +kernel
theorem dX12_signAt_59 : decode cX12_signAt 59 = .ok (.ifCond .eq 6, 3) := by decide +kernel
theorem dX12_signAt_62 : decode cX12_signAt 62 = .ok (.bipush 26, 2) := by decide +kernel
theorem dX12_signAt_64 : decode cX12_signAt 64 = .ok (.ireturn, 1) := by decide +kernel
theorem dX12_signAt_65 : decode cX12_signAt 65 = .ok (.aload_n 0, 1) := by decide +kernel
theorem dX12_signAt_66 : decode cX12_signAt 66 = .ok (.iload_n 1, 1) := by decide +kernel
theorem dX12_signAt_67 : decode cX12_signAt 67 = .ok (.bipush 60, 2) := by decide +kernel
theorem dX12_signAt_69 : decode cX12_signAt 69 = .ok (.bipush 61, 2) := by decide +kernel
theorem dX12_signAt_71 : decode cX12_signAt 71 = .ok (.invokevirtual 493, 3) := by decide +kernel
theorem dX12_signAt_74 : decode cX12_signAt 74 = .ok (.ifCond .eq 6, 3) := by decide +kernel
theorem dX12_signAt_77 : decode cX12_signAt 77 = .ok (.bipush 28, 2) := by decide +kernel
theorem dX12_signAt_79 : decode cX12_signAt 79 = .ok (.ireturn, 1) := by decide +kernel
theorem dX12_signAt_80 : decode cX12_signAt 80 = .ok (.aload_n 0, 1) := by decide +kernel
theorem dX12_signAt_81 : decode cX12_signAt 81 = .ok (.iload_n 1, 1) := by decide +kernel
theorem dX12_signAt_82 : decode cX12_signAt 82 = .ok (.bipush 62, 2) := by decide +kernel
theorem dX12_signAt_84 : decode cX12_signAt 84 = .ok (.bipush 61, 2) := by decide +kernel
theorem dX12_signAt_86 : decode cX12_signAt 86 = .ok (.invokevirtual 493, 3) := by decide +kernel
theorem dX12_signAt_89 : decode cX12_signAt 89 = .ok (.ifCond .eq 6, 3) := by decide +kernel
theorem dX12_signAt_92 : decode cX12_signAt 92 = .ok (.bipush 30, 2) := by decide +kernel
theorem dX12_signAt_94 : decode cX12_signAt 94 = .ok (.ireturn, 1) := by decide +kernel
theorem dX12_signAt_95 : decode cX12_signAt 95 = .ok (.aload_n 0, 1) := by decide +kernel
theorem dX12_signAt_96 : decode cX12_signAt 96 = .ok (.iload_n 1, 1) := by decide +kernel
theorem dX12_signAt_97 : decode cX12_signAt 97 = .ok (.bipush 60, 2) := by decide +kernel
theorem dX12_signAt_99 : decode cX12_signAt 99 = .ok (.bipush 60, 2) := by decide +kernel
theorem dX12_signAt_101 : decode cX12_signAt 101 = .ok (.invokevirtual 493, 3) := by decide +kernel
theorem dX12_signAt_104 : decode cX12_signAt 104 = .ok (.ifCond .eq 6, 3) := by decide +kernel
theorem dX12_signAt_107 : decode cX12_signAt 107 = .ok (.bipush 31, 2) := by decide +kernel
theorem dX12_signAt_109 : decode cX12_signAt 109 = .ok (.ireturn, 1) := by decide +kernel
theorem dX12_signAt_110 : decode cX12_signAt 110 = .ok (.aload_n 0, 1) := by decide +kernel
theorem dX12_signAt_111 : decode cX12_signAt 111 = .ok (.iload_n 1, 1) := by decide +kernel
theorem dX12_signAt_112 : decode cX12_signAt 112 = .ok (.bipush 62, 2) := by decide +kernel
theorem dX12_signAt_114 : decode cX12_signAt 114 = .ok (.bipush 62, 2) := by decide +kernel
theorem dX12_signAt_116 : decode cX12_signAt 116 = .ok (.invokevirtual 493, 3) := by decide +kernel
theorem dX12_signAt_119 : decode cX12_signAt 119 = .ok (.ifCond .eq 6, 3) := by decide +kernel
theorem dX12_signAt_122 : decode cX12_signAt 122 = .ok (.bipush 32, 2) := by decide +kernel
theorem dX12_signAt_124 : decode cX12_signAt 124 = .ok (.ireturn, 1) := by decide +kernel
theorem dX12_signAt_125 : decode cX12_signAt 125 = .ok (.aload_n 0, 1) := by decide +kernel
theorem dX12_signAt_126 : decode cX12_signAt 126 = .ok (.iload_n 1, 1) := by decide +kernel
theorem dX12_signAt_127 : decode cX12_signAt 127 = .ok (.bipush 45, 2) := by decide +kernel
theorem dX12_signAt_129 : decode cX12_signAt 129 = .ok (.bipush 62, 2) := by decide +kernel
theorem dX12_signAt_131 : decode cX12_signAt 131 = .ok (.invokevirtual 493, 3) := by decide +kernel
theorem dX12_signAt_134 : decode cX12_signAt 134 = .ok (.ifCond .eq 6, 3) := by decide +kernel
theorem dX12_signAt_137 : decode cX12_signAt 137 = .ok (.bipush 36, 2) := by decide +kernel
theorem dX12_signAt_139 : decode cX12_signAt 139 = .ok (.ireturn, 1) := by decide +kernel
theorem dX12_signAt_140 : decode cX12_signAt 140 = .ok (.aload_n 0, 1) := by decide +kernel
theorem dX12_signAt_141 : decode cX12_signAt 141 = .ok (.iconst 1, 1) := by decide +kernel
theorem dX12_signAt_142 : decode cX12_signAt 142 = .ok (.putfield 81, 3) := by decide +kernel
theorem dX12_signAt_145 : decode cX12_signAt 145 = .ok (.aload_n 0, 1) := by decide +kernel
theorem dX12_signAt_146 : decode cX12_signAt 146 = .ok (.iload_n 1, 1) := by decide +kernel
theorem dX12_signAt_147 : decode cX12_signAt 147 = .ok (.invokevirtual 483, 3) := by decide +kernel
theorem dX12_signAt_150 : decode cX12_signAt 150 = .ok (.istore_n 2, 1) := by decide +kernel
theorem dX12_signAt_151 : decode cX12_signAt 151 = .ok (.iload_n 2, 1) := by decide +kernel
theorem dX12_signAt_152 : decode cX12_signAt 152 = .ok (.bipush 40, 2) := by decide +kernel
theorem dX12_signAt_154 : decode cX12_signAt 154 = .ok (.if_icmp .ne 6, 3) := by decide +kernel
theorem dX12_signAt_157 : decode cX12_signAt 157 = .ok (.bipush 12, 2) := by decide +kernel
theorem dX12_signAt_159 : decode cX12_signAt 159 = .ok (.ireturn, 1) := by decide +kernel
theorem dX12_signAt_160 : decode cX12_signAt 160 = .ok (.iload_n 2, 1) := by decide +kernel
theorem dX12_signAt_161 : decode cX12_signAt 161 = .ok (.bipush 41, 2) := by decide +kernel
theorem dX12_signAt_163 : decode cX12_signAt 163 = .ok (.if_icmp .ne 6, 3) := by decide +kernel
theorem dX12_signAt_166 : decode cX12_signAt 166 = .ok (.bipush 13, 2) := by decide +kernel
theorem dX12_signAt_168 : decode cX12_signAt 168 = .ok (.ireturn, 1) := by decide +kernel
theorem dX12_signAt_169 : decode cX12_signAt 169 = .ok (.iload_n 2, 1) := by decide +kernel
theorem dX12_signAt_170 : decode cX12_signAt 170 = .ok (.bipush 44, 2) := by decide +kernel
theorem dX12_signAt_172 : decode cX12_signAt 172 = .ok (.if_icmp .ne 6, 3) := by decide +kernel
theorem dX12_signAt_175 : decode cX12_signAt 175 = .ok (.bipush 14, 2) := by decide +kernel
theorem dX12_signAt_177 : decode cX12_signAt 177 = .ok (.ireturn, 1) := by decide +kernel
theorem dX12_signAt_178 : decode cX12_signAt 178 = .ok (.iload_n 2, 1) := by decide +kernel
theorem dX12_signAt_179 : decode cX12_signAt 179 = .ok (.bipush 59, 2) := by decide +kernel
theorem dX12_signAt_181 : decode cX12_signAt 181 = .ok (.if_icmp .ne 6, 3) := by decide +kernel
theorem dX12_signAt_184 : decode cX12_signAt 184 = .ok (.bipush 15, 2) := by decide +kernel
theorem dX12_signAt_186 : decode cX12_signAt 186 = .ok (.ireturn, 1) := by decide +kernel
theorem dX12_signAt_187 : decode cX12_signAt 187 = .ok (.iload_n 2, 1) := by decide +kernel
theorem dX12_signAt_188 : decode cX12_signAt 188 = .ok (.bipush 58, 2) := by decide +kernel
theorem dX12_signAt_190 : decode cX12_signAt 190 = .ok (.if_icmp .ne 6, 3) := by decide +kernel
theorem dX12_signAt_193 : decode cX12_signAt 193 = .ok (.bipush 17, 2) := by decide +kernel
theorem dX12_signAt_195 : decode cX12_signAt 195 = .ok (.ireturn, 1) := by decide +kernel
theorem dX12_signAt_196 : decode cX12_signAt 196 = .ok (.iload_n 2, 1) := by decide +kernel
theorem dX12_signAt_197 : decode cX12_signAt 197 = .ok (.bipush 33, 2) := by decide +kernel
theorem dX12_signAt_199 : decode cX12_signAt 199 = .ok (.if_icmp .ne 6, 3) := by decide +kernel
theorem dX12_signAt_202 : decode cX12_signAt 202 = .ok (.bipush 18, 2) := by decide +kernel
theorem dX12_signAt_204 : decode cX12_signAt 204 = .ok (.ireturn, 1) := by decide +kernel
theorem dX12_signAt_205 : decode cX12_signAt 205 = .ok (.iload_n 2, 1) := by decide +kernel
theorem dX12_signAt_206 : decode cX12_signAt 206 = .ok (.bipush 37, 2) := by decide +kernel
theorem dX12_signAt_208 : decode cX12_signAt 208 = .ok (.if_icmp .ne 6, 3) := by decide +kernel
theorem dX12_signAt_211 : decode cX12_signAt 211 = .ok (.bipush 19, 2) := by decide +kernel
theorem dX12_signAt_213 : decode cX12_signAt 213 = .ok (.ireturn, 1) := by decide +kernel
theorem dX12_signAt_214 : decode cX12_signAt 214 = .ok (.iload_n 2, 1) := by decide +kernel
theorem dX12_signAt_215 : decode cX12_signAt 215 = .ok (.bipush 64, 2) := by decide +kernel
theorem dX12_signAt_217 : decode cX12_signAt 217 = .ok (.if_icmp .ne 6, 3) := by decide +kernel
theorem dX12_signAt_220 : decode cX12_signAt 220 = .ok (.bipush 20, 2) := by decide +kernel
theorem dX12_signAt_222 : decode cX12_signAt 222 = .ok (.ireturn, 1) := by decide +kernel
theorem dX12_signAt_223 : decode cX12_signAt 223 = .ok (.iload_n 2, 1) := by decide +kernel
theorem dX12_signAt_224 : decode cX12_signAt 224 = .ok (.bipush 43, 2) := by decide +kernel
theorem dX12_signAt_226 : decode cX12_signAt 226 = .ok (.if_icmp .ne 6, 3) := by decide +kernel
theorem dX12_signAt_229 : decode cX12_signAt 229 = .ok (.bipush 21, 2) := by decide +kernel
theorem dX12_signAt_231 : decode cX12_signAt 231 = .ok (.ireturn, 1) := by decide +kernel
theorem dX12_signAt_232 : decode cX12_signAt 232 = .ok (.iload_n 2, 1) := by decide +kernel
theorem dX12_signAt_233 : decode cX12_signAt 233 = .ok (.bipush 45, 2) := by decide +kernel
theorem dX12_signAt_235 : decode cX12_signAt 235 = .ok (.if_icmp .ne 6, 3) := by decide +kernel
theorem dX12_signAt_238 : decode cX12_signAt 238 = .ok (.bipush 22, 2) := by decide +kernel
theorem dX12_signAt_240 : decode cX12_signAt 240 = .ok (.ireturn, 1) := by decide +kernel
theorem dX12_signAt_241 : decode cX12_signAt 241 = .ok (.iload_n 2, 1) := by decide +kernel
theorem dX12_signAt_242 : decode cX12_signAt 242 = .ok (.bipush 42, 2) := by decide +kernel
theorem dX12_signAt_244 : decode cX12_signAt 244 = .ok (.if_icmp .ne 6, 3) := by decide +kernel
theorem dX12_signAt_247 : decode cX12_signAt 247 = .ok (.bipush 23, 2) := by decide +kernel
theorem dX12_signAt_249 : decode cX12_signAt 249 = .ok (.ireturn, 1) := by decide +kernel
theorem dX12_signAt_250 : decode cX12_signAt 250 = .ok (.iload_n 2, 1) := by decide +kernel
theorem dX12_signAt_251 : decode cX12_signAt 251 = .ok (.bipush 47, 2) := by decide +kernel
theorem dX12_signAt_253 : decode cX12_signAt 253 = .ok (.if_icmp .ne 6, 3) := by decide +kernel
theorem dX12_signAt_256 : decode cX12_signAt 256 = .ok (.bipush 24, 2) := by decide +kernel
theorem dX12_signAt_258 : decode cX12_signAt 258 = .ok (.ireturn, 1) := by decide +kernel
theorem dX12_signAt_259 : decode cX12_signAt 259 = .ok (.iload_n 2, 1) := by decide +kernel
theorem dX12_signAt_260 : decode cX12_signAt 260 = .ok (.bipush 61, 2) := by decide +kernel
theorem dX12_signAt_262 : decode cX12_signAt 262 = .ok (.if_icmp .ne 6, 3) := by decide +kernel
theorem dX12_signAt_265 : decode cX12_signAt 265 = .ok (.bipush 25, 2) := by decide +kernel
theorem dX12_signAt_267 : decode cX12_signAt 267 = .ok (.ireturn, 1) := by decide +kernel
theorem dX12_signAt_268 : decode cX12_signAt 268 = .ok (.iload_n 2, 1) := by decide +kernel
theorem dX12_signAt_269 : decode cX12_signAt 269 = .ok (.bipush 60, 2) := by decide +kernel
theorem dX12_signAt_271 : decode cX12_signAt 271 = .ok (.if_icmp .ne 6, 3) := by decide +kernel
theorem dX12_signAt_274 : decode cX12_signAt 274 = .ok (.bipush 27, 2) := by decide +kernel
theorem dX12_signAt_276 : decode cX12_signAt 276 = .ok (.ireturn, 1) := by decide +kernel
theorem dX12_signAt_277 : decode cX12_signAt 277 = .ok (.iload_n 2, 1) := by decide +kernel
theorem dX12_signAt_278 : decode cX12_signAt 278 = .ok (.bipush 62, 2) := by decide +kernel
theorem dX12_signAt_280 : decode cX12_signAt 280 = .ok (.if_icmp .ne 6, 3) := by decide +kernel
theorem dX12_signAt_283 : decode cX12_signAt 283 = .ok (.bipush 29, 2) := by decide +kernel
theorem dX12_signAt_285 : decode cX12_signAt 285 = .ok (.ireturn, 1) := by decide +kernel
theorem dX12_signAt_286 : decode cX12_signAt 286 = .ok (.iload_n 2, 1) := by decide +kernel
theorem dX12_signAt_287 : decode cX12_signAt 287 = .ok (.bipush 126, 2) := by decide +kernel
theorem dX12_signAt_289 : decode cX12_signAt 289 = .ok (.if_icmp .ne 6, 3) := by decide +kernel
theorem dX12_signAt_292 : decode cX12_signAt 292 = .ok (.bipush 33, 2) := by decide +kernel
theorem dX12_signAt_294 : decode cX12_signAt 294 = .ok (.ireturn, 1) := by decide +kernel
theorem dX12_signAt_295 : decode cX12_signAt 295 = .ok (.iload_n 2, 1) := by decide +kernel
theorem dX12_signAt_296 : decode cX12_signAt 296 = .ok (.bipush 38, 2) := by decide +kernel
theorem dX12_signAt_298 : decode cX12_signAt 298 = .ok (.if_icmp .ne 6, 3) := by decide +kernel
theorem dX12_signAt_301 : decode cX12_signAt 301 = .ok (.bipush 34, 2) := by decide +kernel
theorem dX12_signAt_303 : decode cX12_signAt 303 = .ok (.ireturn, 1) := by decide +kernel
theorem dX12_signAt_304 : decode cX12_signAt 304 = .ok (.iload_n 2, 1) := by decide +kernel
theorem dX12_signAt_305 : decode cX12_signAt 305 = .ok (.bipush 124, 2) := by decide +kernel
theorem dX12_signAt_307 : decode cX12_signAt 307 = .ok (.if_icmp .ne 6, 3) := by decide +kernel
theorem dX12_signAt_310 : decode cX12_signAt 310 = .ok (.bipush 35, 2) := by decide +kernel
theorem dX12_signAt_312 : decode cX12_signAt 312 = .ok (.ireturn, 1) := by decide +kernel
theorem dX12_signAt_313 : decode cX12_signAt 313 = .ok (.iconst (-1), 1) := by decide +kernel
theorem dX12_signAt_314 : decode cX12_signAt 314 = .ok (.ireturn, 1) := by decide +kernel
def wr_signAt (s0 : zS) (a0 : Int) (Q : Int → zS → Prop) : Prop :=
  wr_isPair (zpv s0 23 2) a0 36 40 (fun r3 s4 => ((r3 = 0 → wr_isPair s4 a0 36 41 (fun r11 s12 => ((r11 = 0 → wr_isPair s12 a0 58 61 (fun r19 s20 => ((r19 = 0 → wr_isPair s20 a0 126 61 (fun r27 s28 => ((r27 = 0 → wr_isPair s28 a0 60 61 (fun r35 s36 => ((r35 = 0 → wr_isPair s36 a0 62 61 (fun r43 s44 => ((r43 = 0 → wr_isPair s44 a0 60 60 (fun r51 s52 => ((r51 = 0 → wr_isPair s52 a0 62 62 (fun r59 s60 => ((r59 = 0 → wr_isPair s60 a0 45 62 (fun r67 s68 => ((r67 = 0 → wr_look (zpv s68 23 1) a0 (fun r77 s78 => ((¬ r77 = 40 → ((¬ r77 = 41 → ((¬ r77 = 44 → ((¬ r77 = 59 → ((¬ r77 = 58 → ((¬ r77 = 33 → ((¬ r77 = 37 → ((¬ r77 = 64 → ((¬ r77 = 43 → ((¬ r77 = 45 → ((¬ r77 = 42 → ((¬ r77 = 47 → ((¬ r77 = 61 → ((¬ r77 = 60 → ((¬ r77 = 62 → ((¬ r77 = 126 → ((¬ r77 = 38 → ((¬ r77 = 124 → Q (-1) s78) ∧ (r77 = 124 → Q 35 s78))) ∧ (r77 = 38 → Q 34 s78))) ∧ (r77 = 126 → Q 33 s78))) ∧ (r77 = 62 → Q 29 s78))) ∧ (r77 = 60 → Q 27 s78))) ∧ (r77 = 61 → Q 25 s78))) ∧ (r77 = 47 → Q 24 s78))) ∧ (r77 = 42 → Q 23 s78))) ∧ (r77 = 45 → Q 22 s78))) ∧ (r77 = 43 → Q 21 s78))) ∧ (r77 = 64 → Q 20 s78))) ∧ (r77 = 37 → Q 19 s78))) ∧ (r77 = 33 → Q 18 s78))) ∧ (r77 = 58 → Q 17 s78))) ∧ (r77 = 59 → Q 15 s78))) ∧ (r77 = 44 → Q 14 s78))) ∧ (r77 = 41 → Q 13 s78))) ∧ (r77 = 40 → Q 12 s78)))) ∧ (¬ r67 = 0 → Q 36 s68)))) ∧ (¬ r59 = 0 → Q 32 s60)))) ∧ (¬ r51 = 0 → Q 31 s52)))) ∧ (¬ r43 = 0 → Q 30 s44)))) ∧ (¬ r35 = 0 → Q 28 s36)))) ∧ (¬ r27 = 0 → Q 26 s28)))) ∧ (¬ r19 = 0 → Q 16 s20)))) ∧ (¬ r11 = 0 → Q 11 s12)))) ∧ (¬ r3 = 0 → Q 10 s4)))
set_option maxHeartbeats 4000000 in
set_option maxRecDepth 100000 in
theorem rm_signAt (l : Launch) (d : gD) (b : Nat) {t : Nat} {T : Nat → Nat} {F : gM} {s0 : zS} {a0 : Int} (Ra0 : zR a0) {Q : Int → zS → Prop} (hZ : zZ d t T F F s0) (hw : wr_signAt s0 a0 Q) : gMi l d b yX12_signAt cX12_signAt 3 .int 2 0 0 F [.ref t, .int (zI a0)] (zPi d t T F Q) := by
  refine gM_of2 rfl (nL := 3) (Nat.le_of_ble_eq_true rfl) ?_
  intro X hX hC; subst hX
  show gG X d b (zQi X d b t T F Q) F 0 0 0 [some (.ref t), some (.int (zI a0)), none] []
  unfold wr_signAt at hw
  refine g_aload_n hC dX12_signAt_0 rfl ?_
  refine g_iconst (v := zI 2) hC dX12_signAt_1 rfl ?_
  refine zr_put hC hZ fl_X12_81 zb_23 (by decide) (by decide) dX12_signAt_2 (fun F1 hZ2 => ?_)
  refine g_aload_n hC dX12_signAt_5 rfl ?_
  refine g_iload_n hC dX12_signAt_6 rfl ?_
  refine g_bipush (v := zI 36) hC dX12_signAt_7 rfl ?_
  refine g_bipush (v := zI 40) hC dX12_signAt_9 rfl ?_
  refine zr_callVi (As := [.int (zI a0), .int (zI 36), .int (zI 40)]) hC hZ2 rfl (rm_isPair X.la d b Ra0 (by decide) (by decide) hZ2.rf hw) cl_X12_493 rfl rfl (Nat.le_of_ble_eq_true rfl) ⟨Nat.le_of_ble_eq_true rfl, Nat.le_of_ble_eq_true rfl⟩ dX12_signAt_11 (fun r3 s4 F5 R6 hZ7 h8 => ?_)
  refine zr_if_eq (tgt := 20) hC R6 dX12_signAt_14 (by decide) (fun c9 => ?_) (fun c9 => ?_)
  · have h10 := h8.1 c9
    refine g_aload_n hC dX12_signAt_20 rfl ?_
    refine g_iload_n hC dX12_signAt_21 rfl ?_
    refine g_bipush (v := zI 36) hC dX12_signAt_22 rfl ?_
    refine g_bipush (v := zI 41) hC dX12_signAt_24 rfl ?_
    refine zr_callVi (As := [.int (zI a0), .int (zI 36), .int (zI 41)]) hC hZ7 rfl (rm_isPair X.la d b Ra0 (by decide) (by decide) hZ7.rf h10) cl_X12_493 rfl rfl (Nat.le_of_ble_eq_true rfl) ⟨Nat.le_of_ble_eq_true rfl, Nat.le_of_ble_eq_true rfl⟩ dX12_signAt_26 (fun r11 s12 F13 R14 hZ15 h16 => ?_)
    refine zr_if_eq (tgt := 35) hC R14 dX12_signAt_29 (by decide) (fun c17 => ?_) (fun c17 => ?_)
    · have h18 := h16.1 c17
      refine g_aload_n hC dX12_signAt_35 rfl ?_
      refine g_iload_n hC dX12_signAt_36 rfl ?_
      refine g_bipush (v := zI 58) hC dX12_signAt_37 rfl ?_
      refine g_bipush (v := zI 61) hC dX12_signAt_39 rfl ?_
      refine zr_callVi (As := [.int (zI a0), .int (zI 58), .int (zI 61)]) hC hZ15 rfl (rm_isPair X.la d b Ra0 (by decide) (by decide) hZ15.rf h18) cl_X12_493 rfl rfl (Nat.le_of_ble_eq_true rfl) ⟨Nat.le_of_ble_eq_true rfl, Nat.le_of_ble_eq_true rfl⟩ dX12_signAt_41 (fun r19 s20 F21 R22 hZ23 h24 => ?_)
      refine zr_if_eq (tgt := 50) hC R22 dX12_signAt_44 (by decide) (fun c25 => ?_) (fun c25 => ?_)
      · have h26 := h24.1 c25
        refine g_aload_n hC dX12_signAt_50 rfl ?_
        refine g_iload_n hC dX12_signAt_51 rfl ?_
        refine g_bipush (v := zI 126) hC dX12_signAt_52 rfl ?_
        refine g_bipush (v := zI 61) hC dX12_signAt_54 rfl ?_
        refine zr_callVi (As := [.int (zI a0), .int (zI 126), .int (zI 61)]) hC hZ23 rfl (rm_isPair X.la d b Ra0 (by decide) (by decide) hZ23.rf h26) cl_X12_493 rfl rfl (Nat.le_of_ble_eq_true rfl) ⟨Nat.le_of_ble_eq_true rfl, Nat.le_of_ble_eq_true rfl⟩ dX12_signAt_56 (fun r27 s28 F29 R30 hZ31 h32 => ?_)
        refine zr_if_eq (tgt := 65) hC R30 dX12_signAt_59 (by decide) (fun c33 => ?_) (fun c33 => ?_)
        · have h34 := h32.1 c33
          refine g_aload_n hC dX12_signAt_65 rfl ?_
          refine g_iload_n hC dX12_signAt_66 rfl ?_
          refine g_bipush (v := zI 60) hC dX12_signAt_67 rfl ?_
          refine g_bipush (v := zI 61) hC dX12_signAt_69 rfl ?_
          refine zr_callVi (As := [.int (zI a0), .int (zI 60), .int (zI 61)]) hC hZ31 rfl (rm_isPair X.la d b Ra0 (by decide) (by decide) hZ31.rf h34) cl_X12_493 rfl rfl (Nat.le_of_ble_eq_true rfl) ⟨Nat.le_of_ble_eq_true rfl, Nat.le_of_ble_eq_true rfl⟩ dX12_signAt_71 (fun r35 s36 F37 R38 hZ39 h40 => ?_)
          refine zr_if_eq (tgt := 80) hC R38 dX12_signAt_74 (by decide) (fun c41 => ?_) (fun c41 => ?_)
          · have h42 := h40.1 c41
            refine g_aload_n hC dX12_signAt_80 rfl ?_
            refine g_iload_n hC dX12_signAt_81 rfl ?_
            refine g_bipush (v := zI 62) hC dX12_signAt_82 rfl ?_
            refine g_bipush (v := zI 61) hC dX12_signAt_84 rfl ?_
            refine zr_callVi (As := [.int (zI a0), .int (zI 62), .int (zI 61)]) hC hZ39 rfl (rm_isPair X.la d b Ra0 (by decide) (by decide) hZ39.rf h42) cl_X12_493 rfl rfl (Nat.le_of_ble_eq_true rfl) ⟨Nat.le_of_ble_eq_true rfl, Nat.le_of_ble_eq_true rfl⟩ dX12_signAt_86 (fun r43 s44 F45 R46 hZ47 h48 => ?_)
            refine zr_if_eq (tgt := 95) hC R46 dX12_signAt_89 (by decide) (fun c49 => ?_) (fun c49 => ?_)
            · have h50 := h48.1 c49
              refine g_aload_n hC dX12_signAt_95 rfl ?_
              refine g_iload_n hC dX12_signAt_96 rfl ?_
              refine g_bipush (v := zI 60) hC dX12_signAt_97 rfl ?_
              refine g_bipush (v := zI 60) hC dX12_signAt_99 rfl ?_
              refine zr_callVi (As := [.int (zI a0), .int (zI 60), .int (zI 60)]) hC hZ47 rfl (rm_isPair X.la d b Ra0 (by decide) (by decide) hZ47.rf h50) cl_X12_493 rfl rfl (Nat.le_of_ble_eq_true rfl) ⟨Nat.le_of_ble_eq_true rfl, Nat.le_of_ble_eq_true rfl⟩ dX12_signAt_101 (fun r51 s52 F53 R54 hZ55 h56 => ?_)
              refine zr_if_eq (tgt := 110) hC R54 dX12_signAt_104 (by decide) (fun c57 => ?_) (fun c57 => ?_)
              · have h58 := h56.1 c57
                refine g_aload_n hC dX12_signAt_110 rfl ?_
                refine g_iload_n hC dX12_signAt_111 rfl ?_
                refine g_bipush (v := zI 62) hC dX12_signAt_112 rfl ?_
                refine g_bipush (v := zI 62) hC dX12_signAt_114 rfl ?_
                refine zr_callVi (As := [.int (zI a0), .int (zI 62), .int (zI 62)]) hC hZ55 rfl (rm_isPair X.la d b Ra0 (by decide) (by decide) hZ55.rf h58) cl_X12_493 rfl rfl (Nat.le_of_ble_eq_true rfl) ⟨Nat.le_of_ble_eq_true rfl, Nat.le_of_ble_eq_true rfl⟩ dX12_signAt_116 (fun r59 s60 F61 R62 hZ63 h64 => ?_)
                refine zr_if_eq (tgt := 125) hC R62 dX12_signAt_119 (by decide) (fun c65 => ?_) (fun c65 => ?_)
                · have h66 := h64.1 c65
                  refine g_aload_n hC dX12_signAt_125 rfl ?_
                  refine g_iload_n hC dX12_signAt_126 rfl ?_
                  refine g_bipush (v := zI 45) hC dX12_signAt_127 rfl ?_
                  refine g_bipush (v := zI 62) hC dX12_signAt_129 rfl ?_
                  refine zr_callVi (As := [.int (zI a0), .int (zI 45), .int (zI 62)]) hC hZ63 rfl (rm_isPair X.la d b Ra0 (by decide) (by decide) hZ63.rf h66) cl_X12_493 rfl rfl (Nat.le_of_ble_eq_true rfl) ⟨Nat.le_of_ble_eq_true rfl, Nat.le_of_ble_eq_true rfl⟩ dX12_signAt_131 (fun r67 s68 F69 R70 hZ71 h72 => ?_)
                  refine zr_if_eq (tgt := 140) hC R70 dX12_signAt_134 (by decide) (fun c73 => ?_) (fun c73 => ?_)
                  · have h74 := h72.1 c73
                    refine g_aload_n hC dX12_signAt_140 rfl ?_
                    refine g_iconst (v := zI 1) hC dX12_signAt_141 rfl ?_
                    refine zr_put hC hZ71 fl_X12_81 zb_23 (by decide) (by decide) dX12_signAt_142 (fun F75 hZ76 => ?_)
                    refine g_aload_n hC dX12_signAt_145 rfl ?_
                    refine g_iload_n hC dX12_signAt_146 rfl ?_
                    refine zr_callVi (As := [.int (zI a0)]) hC hZ76 rfl (rm_look X.la d b Ra0 hZ76.rf h74) cl_X12_483 rfl rfl (Nat.le_of_ble_eq_true rfl) ⟨Nat.le_of_ble_eq_true rfl, Nat.le_of_ble_eq_true rfl⟩ dX12_signAt_147 (fun r77 s78 F79 R80 hZ81 h82 => ?_)
                    refine g_istore_n (lv' := [some (.ref t), some (.int (zI a0)), some (.int (zI r77))]) hC dX12_signAt_150 (Nat.le_of_ble_eq_true rfl) rfl rfl ?_
                    refine g_iload_n hC dX12_signAt_151 rfl ?_
                    refine g_bipush (v := zI 40) hC dX12_signAt_152 rfl ?_
                    refine zr_icmp_ne (tgt := 160) hC R80 (by decide) dX12_signAt_154 (by decide) (fun c83 => ?_) (fun c83 => ?_)
                    · have h84 := h82.1 c83
                      refine g_iload_n hC dX12_signAt_160 rfl ?_
                      refine g_bipush (v := zI 41) hC dX12_signAt_161 rfl ?_
                      refine zr_icmp_ne (tgt := 169) hC R80 (by decide) dX12_signAt_163 (by decide) (fun c85 => ?_) (fun c85 => ?_)
                      · have h86 := h84.1 c85
                        refine g_iload_n hC dX12_signAt_169 rfl ?_
                        refine g_bipush (v := zI 44) hC dX12_signAt_170 rfl ?_
                        refine zr_icmp_ne (tgt := 178) hC R80 (by decide) dX12_signAt_172 (by decide) (fun c87 => ?_) (fun c87 => ?_)
                        · have h88 := h86.1 c87
                          refine g_iload_n hC dX12_signAt_178 rfl ?_
                          refine g_bipush (v := zI 59) hC dX12_signAt_179 rfl ?_
                          refine zr_icmp_ne (tgt := 187) hC R80 (by decide) dX12_signAt_181 (by decide) (fun c89 => ?_) (fun c89 => ?_)
                          · have h90 := h88.1 c89
                            refine g_iload_n hC dX12_signAt_187 rfl ?_
                            refine g_bipush (v := zI 58) hC dX12_signAt_188 rfl ?_
                            refine zr_icmp_ne (tgt := 196) hC R80 (by decide) dX12_signAt_190 (by decide) (fun c91 => ?_) (fun c91 => ?_)
                            · have h92 := h90.1 c91
                              refine g_iload_n hC dX12_signAt_196 rfl ?_
                              refine g_bipush (v := zI 33) hC dX12_signAt_197 rfl ?_
                              refine zr_icmp_ne (tgt := 205) hC R80 (by decide) dX12_signAt_199 (by decide) (fun c93 => ?_) (fun c93 => ?_)
                              · have h94 := h92.1 c93
                                refine g_iload_n hC dX12_signAt_205 rfl ?_
                                refine g_bipush (v := zI 37) hC dX12_signAt_206 rfl ?_
                                refine zr_icmp_ne (tgt := 214) hC R80 (by decide) dX12_signAt_208 (by decide) (fun c95 => ?_) (fun c95 => ?_)
                                · have h96 := h94.1 c95
                                  refine g_iload_n hC dX12_signAt_214 rfl ?_
                                  refine g_bipush (v := zI 64) hC dX12_signAt_215 rfl ?_
                                  refine zr_icmp_ne (tgt := 223) hC R80 (by decide) dX12_signAt_217 (by decide) (fun c97 => ?_) (fun c97 => ?_)
                                  · have h98 := h96.1 c97
                                    refine g_iload_n hC dX12_signAt_223 rfl ?_
                                    refine g_bipush (v := zI 43) hC dX12_signAt_224 rfl ?_
                                    refine zr_icmp_ne (tgt := 232) hC R80 (by decide) dX12_signAt_226 (by decide) (fun c99 => ?_) (fun c99 => ?_)
                                    · have h100 := h98.1 c99
                                      refine g_iload_n hC dX12_signAt_232 rfl ?_
                                      refine g_bipush (v := zI 45) hC dX12_signAt_233 rfl ?_
                                      refine zr_icmp_ne (tgt := 241) hC R80 (by decide) dX12_signAt_235 (by decide) (fun c101 => ?_) (fun c101 => ?_)
                                      · have h102 := h100.1 c101
                                        refine g_iload_n hC dX12_signAt_241 rfl ?_
                                        refine g_bipush (v := zI 42) hC dX12_signAt_242 rfl ?_
                                        refine zr_icmp_ne (tgt := 250) hC R80 (by decide) dX12_signAt_244 (by decide) (fun c103 => ?_) (fun c103 => ?_)
                                        · have h104 := h102.1 c103
                                          refine g_iload_n hC dX12_signAt_250 rfl ?_
                                          refine g_bipush (v := zI 47) hC dX12_signAt_251 rfl ?_
                                          refine zr_icmp_ne (tgt := 259) hC R80 (by decide) dX12_signAt_253 (by decide) (fun c105 => ?_) (fun c105 => ?_)
                                          · have h106 := h104.1 c105
                                            refine g_iload_n hC dX12_signAt_259 rfl ?_
                                            refine g_bipush (v := zI 61) hC dX12_signAt_260 rfl ?_
                                            refine zr_icmp_ne (tgt := 268) hC R80 (by decide) dX12_signAt_262 (by decide) (fun c107 => ?_) (fun c107 => ?_)
                                            · have h108 := h106.1 c107
                                              refine g_iload_n hC dX12_signAt_268 rfl ?_
                                              refine g_bipush (v := zI 60) hC dX12_signAt_269 rfl ?_
                                              refine zr_icmp_ne (tgt := 277) hC R80 (by decide) dX12_signAt_271 (by decide) (fun c109 => ?_) (fun c109 => ?_)
                                              · have h110 := h108.1 c109
                                                refine g_iload_n hC dX12_signAt_277 rfl ?_
                                                refine g_bipush (v := zI 62) hC dX12_signAt_278 rfl ?_
                                                refine zr_icmp_ne (tgt := 286) hC R80 (by decide) dX12_signAt_280 (by decide) (fun c111 => ?_) (fun c111 => ?_)
                                                · have h112 := h110.1 c111
                                                  refine g_iload_n hC dX12_signAt_286 rfl ?_
                                                  refine g_bipush (v := zI 126) hC dX12_signAt_287 rfl ?_
                                                  refine zr_icmp_ne (tgt := 295) hC R80 (by decide) dX12_signAt_289 (by decide) (fun c113 => ?_) (fun c113 => ?_)
                                                  · have h114 := h112.1 c113
                                                    refine g_iload_n hC dX12_signAt_295 rfl ?_
                                                    refine g_bipush (v := zI 38) hC dX12_signAt_296 rfl ?_
                                                    refine zr_icmp_ne (tgt := 304) hC R80 (by decide) dX12_signAt_298 (by decide) (fun c115 => ?_) (fun c115 => ?_)
                                                    · have h116 := h114.1 c115
                                                      refine g_iload_n hC dX12_signAt_304 rfl ?_
                                                      refine g_bipush (v := zI 124) hC dX12_signAt_305 rfl ?_
                                                      refine zr_icmp_ne (tgt := 313) hC R80 (by decide) dX12_signAt_307 (by decide) (fun c117 => ?_) (fun c117 => ?_)
                                                      · have h118 := h116.1 c117
                                                        refine g_iconst (v := zI (-1)) hC dX12_signAt_313 rfl ?_
                                                        exact zr_iret hC hZ81 (by decide) h118 dX12_signAt_314
                                                      · have h119 := h116.2 c117
                                                        refine g_bipush (v := zI 35) hC dX12_signAt_310 rfl ?_
                                                        exact zr_iret hC hZ81 (by decide) h119 dX12_signAt_312
                                                    · have h120 := h114.2 c115
                                                      refine g_bipush (v := zI 34) hC dX12_signAt_301 rfl ?_
                                                      exact zr_iret hC hZ81 (by decide) h120 dX12_signAt_303
                                                  · have h121 := h112.2 c113
                                                    refine g_bipush (v := zI 33) hC dX12_signAt_292 rfl ?_
                                                    exact zr_iret hC hZ81 (by decide) h121 dX12_signAt_294
                                                · have h122 := h110.2 c111
                                                  refine g_bipush (v := zI 29) hC dX12_signAt_283 rfl ?_
                                                  exact zr_iret hC hZ81 (by decide) h122 dX12_signAt_285
                                              · have h123 := h108.2 c109
                                                refine g_bipush (v := zI 27) hC dX12_signAt_274 rfl ?_
                                                exact zr_iret hC hZ81 (by decide) h123 dX12_signAt_276
                                            · have h124 := h106.2 c107
                                              refine g_bipush (v := zI 25) hC dX12_signAt_265 rfl ?_
                                              exact zr_iret hC hZ81 (by decide) h124 dX12_signAt_267
                                          · have h125 := h104.2 c105
                                            refine g_bipush (v := zI 24) hC dX12_signAt_256 rfl ?_
                                            exact zr_iret hC hZ81 (by decide) h125 dX12_signAt_258
                                        · have h126 := h102.2 c103
                                          refine g_bipush (v := zI 23) hC dX12_signAt_247 rfl ?_
                                          exact zr_iret hC hZ81 (by decide) h126 dX12_signAt_249
                                      · have h127 := h100.2 c101
                                        refine g_bipush (v := zI 22) hC dX12_signAt_238 rfl ?_
                                        exact zr_iret hC hZ81 (by decide) h127 dX12_signAt_240
                                    · have h128 := h98.2 c99
                                      refine g_bipush (v := zI 21) hC dX12_signAt_229 rfl ?_
                                      exact zr_iret hC hZ81 (by decide) h128 dX12_signAt_231
                                  · have h129 := h96.2 c97
                                    refine g_bipush (v := zI 20) hC dX12_signAt_220 rfl ?_
                                    exact zr_iret hC hZ81 (by decide) h129 dX12_signAt_222
                                · have h130 := h94.2 c95
                                  refine g_bipush (v := zI 19) hC dX12_signAt_211 rfl ?_
                                  exact zr_iret hC hZ81 (by decide) h130 dX12_signAt_213
                              · have h131 := h92.2 c93
                                refine g_bipush (v := zI 18) hC dX12_signAt_202 rfl ?_
                                exact zr_iret hC hZ81 (by decide) h131 dX12_signAt_204
                            · have h132 := h90.2 c91
                              refine g_bipush (v := zI 17) hC dX12_signAt_193 rfl ?_
                              exact zr_iret hC hZ81 (by decide) h132 dX12_signAt_195
                          · have h133 := h88.2 c89
                            refine g_bipush (v := zI 15) hC dX12_signAt_184 rfl ?_
                            exact zr_iret hC hZ81 (by decide) h133 dX12_signAt_186
                        · have h134 := h86.2 c87
                          refine g_bipush (v := zI 14) hC dX12_signAt_175 rfl ?_
                          exact zr_iret hC hZ81 (by decide) h134 dX12_signAt_177
                      · have h135 := h84.2 c85
                        refine g_bipush (v := zI 13) hC dX12_signAt_166 rfl ?_
                        exact zr_iret hC hZ81 (by decide) h135 dX12_signAt_168
                    · have h136 := h82.2 c83
                      refine g_bipush (v := zI 12) hC dX12_signAt_157 rfl ?_
                      exact zr_iret hC hZ81 (by decide) h136 dX12_signAt_159
                  · have h137 := h72.2 c73
                    refine g_bipush (v := zI 36) hC dX12_signAt_137 rfl ?_
                    exact zr_iret hC hZ71 (by decide) h137 dX12_signAt_139
                · have h138 := h64.2 c65
                  refine g_bipush (v := zI 32) hC dX12_signAt_122 rfl ?_
                  exact zr_iret hC hZ63 (by decide) h138 dX12_signAt_124
              · have h139 := h56.2 c57
                refine g_bipush (v := zI 31) hC dX12_signAt_107 rfl ?_
                exact zr_iret hC hZ55 (by decide) h139 dX12_signAt_109
            · have h140 := h48.2 c49
              refine g_bipush (v := zI 30) hC dX12_signAt_92 rfl ?_
              exact zr_iret hC hZ47 (by decide) h140 dX12_signAt_94
          · have h141 := h40.2 c41
            refine g_bipush (v := zI 28) hC dX12_signAt_77 rfl ?_
            exact zr_iret hC hZ39 (by decide) h141 dX12_signAt_79
        · have h142 := h32.2 c33
          refine g_bipush (v := zI 26) hC dX12_signAt_62 rfl ?_
          exact zr_iret hC hZ31 (by decide) h142 dX12_signAt_64
      · have h143 := h24.2 c25
        refine g_bipush (v := zI 16) hC dX12_signAt_47 rfl ?_
        exact zr_iret hC hZ23 (by decide) h143 dX12_signAt_49
    · have h144 := h16.2 c17
      refine g_bipush (v := zI 11) hC dX12_signAt_32 rfl ?_
      exact zr_iret hC hZ15 (by decide) h144 dX12_signAt_34
  · have h145 := h8.2 c9
    refine g_bipush (v := zI 10) hC dX12_signAt_17 rfl ?_
    exact zr_iret hC hZ7 (by decide) h145 dX12_signAt_19
