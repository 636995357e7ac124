/-! the reference as formulas: arg, outByte, decimal, writeString, nextByte, layVector, getVector, freeVector, peek, isBlank, readNumber, toVector, libraryCall, call, rowsOf, assign -/
theorem dX12_arg_0 : decode cX12_arg 0 = .ok (.iload_n 1, 1) := by decide +kernel
theorem dX12_arg_1 : decode cX12_arg 1 = .ok (.iload_n 2, 1) := by decide +kernel
theorem dX12_arg_2 : decode cX12_arg 2 = .ok (.if_icmp .ge 19, 3) := by decide +kernel
theorem dX12_arg_5 : decode cX12_arg 5 = .ok (.aload_n 0, 1) := by decide +kernel
theorem dX12_arg_6 : decode cX12_arg 6 = .ok (.getfield 293, 3) := by decide +kernel
theorem dX12_arg_9 : decode cX12_arg 9 = .ok (.aload_n 0, 1) := by decide +kernel
theorem dX12_arg_10 : decode cX12_arg 10 = .ok (.getfield 289, 3) := by decide +kernel
theorem dX12_arg_13 : decode cX12_arg 13 = .ok (.iload_n 2, 1) := by decide +kernel
theorem dX12_arg_14 : decode cX12_arg 14 = .ok (.isub, 1) := by decide +kernel
theorem dX12_arg_15 : decode cX12_arg 15 = .ok (.iload_n 1, 1) := by decide +kernel
theorem dX12_arg_16 : decode cX12_arg 16 = .ok (.iadd, 1) := by decide +kernel
theorem dX12_arg_17 : decode cX12_arg 17 = .ok (.iaload, 1) := by decide +kernel
theorem dX12_arg_18 : decode cX12_arg 18 = .ok (.goto 4, 3) := by decide +kernel
theorem dX12_arg_21 : decode cX12_arg 21 = .ok (.iconst 0, 1) := by decide +kernel
theorem dX12_arg_22 : decode cX12_arg 22 = .ok (.ireturn, 1) := by decide +kernel
def wr_arg (s0 : zS) (a0 : Int) (a1 : Int) (Q : Int → zS → Prop) : Prop :=
  ((a1 ≤ a0 → Q 0 s0) ∧ (¬ a1 ≤ a0 → (0 ≤ (((zv s0 91) - a1) + a0)) ∧ ((((zv s0 91) - a1) + a0) < 300000) ∧ ∀ _ : zR (za s0 92 (Int.toNat (((zv s0 91) - a1) + a0))), Q (za s0 92 (Int.toNat (((zv s0 91) - a1) + a0))) s0))
set_option maxHeartbeats 4000000 in
set_option maxRecDepth 100000 in
theorem rm_arg (l : Launch) (d : gD) (b : Nat) {t : Nat} {T : Nat → Nat} {F : gM} {s0 : zS} {a0 : Int} {a1 : Int} (Ra0 : zR a0) (Ra1 : zR a1) {Q : Int → zS → Prop} (hZ : zZ d t T F F s0) (hw : wr_arg s0 a0 a1 Q) : gMi l d b yX12_arg cX12_arg 3 .int 0 0 0 F [.ref t, .int (zI a0), .int (zI a1)] (zPi d t T F Q) := by
  refine gM_of2 rfl (nL := 3) (Nat.le_of_ble_eq_true rfl) ?_
  intro X hX hC; subst hX
  show gG X d b (zQi X d b t T F Q) F 0 0 0 [some (.ref t), some (.int (zI a0)), some (.int (zI a1))] []
  unfold wr_arg at hw
  refine g_iload_n hC dX12_arg_0 rfl ?_
  refine g_iload_n hC dX12_arg_1 rfl ?_
  refine zr_icmp_ge (tgt := 21) hC Ra0 Ra1 dX12_arg_2 (by decide) (fun c1 => ?_) (fun c1 => ?_)
  · have h2 := hw.1 c1
    refine g_iconst (v := zI 0) hC dX12_arg_21 rfl ?_
    exact zr_iret hC hZ (by decide) h2 dX12_arg_22
  · have h3 := hw.2 c1
    refine g_aload_n hC dX12_arg_5 rfl ?_
    refine zr_geta hC hZ fl_X12_293 zb_92 (by decide) dX12_arg_6 ?_
    refine g_aload_n hC dX12_arg_9 rfl ?_
    refine zr_get (e := (zv s0 91)) hC hZ fl_X12_289 zb_91 (by decide) rfl dX12_arg_10 ?_
    refine g_iload_n hC dX12_arg_13 rfl ?_
    refine zr_isub hC dX12_arg_14 ?_
    refine g_iload_n hC dX12_arg_15 rfl ?_
    refine zr_iadd hC dX12_arg_16 ?_
    obtain ⟨o4, h5⟩ := h3
    obtain ⟨o6, h7⟩ := h5
    refine zr_iald (v := (za s0 92 (Int.toNat (((zv s0 91) - a1) + a0)))) hC hZ zk_92 zb_92 zn_92 (by decide) o4 o6 rfl dX12_arg_17 ?_
    have h8 := h7 (hZ.ra 92 _)
    refine g_goto (tgt := 22) hC dX12_arg_18 (by decide) ?_
    exact zr_iret hC hZ (hZ.ra 92 _) h8 dX12_arg_22
theorem dX12_outByte_0 : decode cX12_outByte 0 = .ok (.aload_n 0, 1) := by decide +kernel
theorem dX12_outByte_1 : decode cX12_outByte 1 = .ok (.getfield 369, 3) := by decide +kernel
theorem dX12_outByte_4 : decode cX12_outByte 4 = .ok (.istore_n 2, 1) := by decide +kernel
theorem dX12_outByte_5 : decode cX12_outByte 5 = .ok (.aload_n 0, 1) := by decide +kernel
theorem dX12_outByte_6 : decode cX12_outByte 6 = .ok (.getfield 366, 3) := by decide +kernel
theorem dX12_outByte_9 : decode cX12_outByte 9 = .ok (.iload_n 2, 1) := by decide +kernel
theorem dX12_outByte_10 : decode cX12_outByte 10 = .ok (.iaload, 1) := by decide +kernel
theorem dX12_outByte_11 : decode cX12_outByte 11 = .ok (.sipush 4096, 3) := by decide +kernel
theorem dX12_outByte_14 : decode cX12_outByte 14 = .ok (.if_icmp .ne 4, 3) := by decide +kernel
theorem dX12_outByte_17 : decode cX12_outByte 17 = .ok (.return_, 1) := by decide +kernel
theorem dX12_outByte_18 : decode cX12_outByte 18 = .ok (.aload_n 0, 1) := by decide +kernel
theorem dX12_outByte_19 : decode cX12_outByte 19 = .ok (.getfield 363, 3) := by decide +kernel
theorem dX12_outByte_22 : decode cX12_outByte 22 = .ok (.sipush 4096, 3) := by decide +kernel
theorem dX12_outByte_25 : decode cX12_outByte 25 = .ok (.iload_n 2, 1) := by decide +kernel
theorem dX12_outByte_26 : decode cX12_outByte 26 = .ok (.imul, 1) := by decide +kernel
theorem dX12_outByte_27 : decode cX12_outByte 27 = .ok (.aload_n 0, 1) := by decide +kernel
theorem dX12_outByte_28 : decode cX12_outByte 28 = .ok (.getfield 366, 3) := by decide +kernel
theorem dX12_outByte_31 : decode cX12_outByte 31 = .ok (.iload_n 2, 1) := by decide +kernel
theorem dX12_outByte_32 : decode cX12_outByte 32 = .ok (.iaload, 1) := by decide +kernel
theorem dX12_outByte_33 : decode cX12_outByte 33 = .ok (.iadd, 1) := by decide +kernel
theorem dX12_outByte_34 : decode cX12_outByte 34 = .ok (.iload_n 1, 1) := by decide +kernel
theorem dX12_outByte_35 : decode cX12_outByte 35 = .ok (.i2b, 1) := by decide +kernel
theorem dX12_outByte_36 : decode cX12_outByte 36 = .ok (.bastore, 1) := by decide +kernel
theorem dX12_outByte_37 : decode cX12_outByte 37 = .ok (.aload_n 0, 1) := by decide +kernel
theorem dX12_outByte_38 : decode cX12_outByte 38 = .ok (.getfield 366, 3) := by decide +kernel
theorem dX12_outByte_41 : decode cX12_outByte 41 = .ok (.iload_n 2, 1) := by decide +kernel
theorem dX12_outByte_42 : decode cX12_outByte 42 = .ok (.dup2, 1) := by decide +kernel
theorem dX12_outByte_43 : decode cX12_outByte 43 = .ok (.iaload, 1) := by decide +kernel
theorem dX12_outByte_44 : decode cX12_outByte 44 = .ok (.iconst 1, 1) := by decide +kernel
theorem dX12_outByte_45 : decode cX12_outByte 45 = .ok (.iadd, 1) := by decide +kernel
theorem dX12_outByte_46 : decode cX12_outByte 46 = .ok (.iastore, 1) := by decide +kernel
theorem dX12_outByte_47 : decode cX12_outByte 47 = .ok (.return_, 1) := by decide +kernel
def wr_outByte (s0 : zS) (a0 : Int) (Q : zS → Prop) : Prop :=
  (0 ≤ (zv s0 117)) ∧ ((zv s0 117) < 2) ∧ ((¬ (za s0 116 (Int.toNat (zv s0 117))) = 4096 → (0 ≤ (zv s0 117)) ∧ ((zv s0 117) < 2) ∧ (0 ≤ ((4096 * (zv s0 117)) + (za s0 116 (Int.toNat (zv s0 117))))) ∧ (((4096 * (zv s0 117)) + (za s0 116 (Int.toNat (zv s0 117)))) < 8192) ∧ (0 ≤ (zv s0 117)) ∧ ((zv s0 117) < 2) ∧ (0 ≤ (zv s0 117)) ∧ ((zv s0 117) < 2) ∧ (zR ((za s0 116 (Int.toNat (zv s0 117))) + 1)) ∧ Q (zpa (zpa s0 115 (Int.toNat ((4096 * (zv s0 117)) + (za s0 116 (Int.toNat (zv s0 117))))) (znb (zby a0))) 116 (Int.toNat (zv s0 117)) ((za s0 116 (Int.toNat (zv s0 117))) + 1))) ∧ ((za s0 116 (Int.toNat (zv s0 117))) = 4096 → Q s0))
set_option maxHeartbeats 4000000 in
set_option maxRecDepth 100000 in
theorem rm_outByte (l : Launch) (d : gD) (b : Nat) {t : Nat} {T : Nat → Nat} {F : gM} {s0 : zS} {a0 : Int} (Ra0 : zR a0) {Q : zS → Prop} (hZ : zZ d t T F F s0) (hw : wr_outByte s0 a0 Q) : gMv l d b yX12_outByte cX12_outByte 3 0 0 0 F [.ref t, .int (zI a0)] (zPv d t T F Q) := by
  refine gM_of2 rfl (nL := 3) (Nat.le_of_ble_eq_true rfl) ?_
  intro X hX hC; subst hX
  show gG X d b (zQv X d b t T F Q) F 0 0 0 [some (.ref t), some (.int (zI a0)), none] []
  unfold wr_outByte at hw
  refine g_aload_n hC dX12_outByte_0 rfl ?_
  refine zr_get (e := (zv s0 117)) hC hZ fl_X12_369 zb_117 (by decide) rfl dX12_outByte_1 ?_
  refine g_istore_n (lv' := [some (.ref t), some (.int (zI a0)), some (.int (zI (zv s0 117)))]) hC dX12_outByte_4 (Nat.le_of_ble_eq_true rfl) rfl rfl ?_
  refine g_aload_n hC dX12_outByte_5 rfl ?_
  refine zr_geta hC hZ fl_X12_366 zb_116 (by decide) dX12_outByte_6 ?_
  refine g_iload_n hC dX12_outByte_9 rfl ?_
  obtain ⟨o1, h2⟩ := hw
  obtain ⟨o3, h4⟩ := h2
  refine zr_iald (v := (za s0 116 (Int.toNat (zv s0 117)))) hC hZ zk_116 zb_116 zn_116 (by decide) o1 o3 rfl dX12_outByte_10 ?_
  refine g_sipush (v := zI 4096) hC dX12_outByte_11 rfl ?_
  refine zr_icmp_ne (tgt := 18) hC (hZ.ra 116 _) (by decide) dX12_outByte_14 (by decide) (fun c5 => ?_) (fun c5 => ?_)
  · have h6 := h4.1 c5
    refine g_aload_n hC dX12_outByte_18 rfl ?_
    refine zr_geta hC hZ fl_X12_363 zb_115 (by decide) dX12_outByte_19 ?_
    refine g_sipush (v := zI 4096) hC dX12_outByte_22 rfl ?_
    refine g_iload_n hC dX12_outByte_25 rfl ?_
    refine zr_imul hC dX12_outByte_26 ?_
    refine g_aload_n hC dX12_outByte_27 rfl ?_
    refine zr_geta hC hZ fl_X12_366 zb_116 (by decide) dX12_outByte_28 ?_
    refine g_iload_n hC dX12_outByte_31 rfl ?_
    obtain ⟨o7, h8⟩ := h6
    obtain ⟨o9, h10⟩ := h8
    refine zr_iald (v := (za s0 116 (Int.toNat (zv s0 117)))) hC hZ zk_116 zb_116 zn_116 (by decide) o7 o9 rfl dX12_outByte_32 ?_
    refine zr_iadd hC dX12_outByte_33 ?_
    refine g_iload_n hC dX12_outByte_34 rfl ?_
    refine zr_i2b hC dX12_outByte_35 ?_
    obtain ⟨o11, h12⟩ := h10
    obtain ⟨o13, h14⟩ := h12
    refine zr_bast hC hZ zk_115 zb_115 zn_115 (by decide) o11 o13  dX12_outByte_36 (fun F15 hZ16 => ?_)
    refine g_aload_n hC dX12_outByte_37 rfl ?_
    refine zr_geta hC hZ16 fl_X12_366 zb_116 (by decide) dX12_outByte_38 ?_
    refine g_iload_n hC dX12_outByte_41 rfl ?_
    refine g_dup2 hC dX12_outByte_42 rfl rfl ?_
    obtain ⟨o17, h18⟩ := h14
    obtain ⟨o19, h20⟩ := h18
    refine zr_iald (v := (za s0 116 (Int.toNat (zv s0 117)))) hC hZ16 zk_116 zb_116 zn_116 (by decide) o17 o19 rfl dX12_outByte_43 ?_
    refine g_iconst (v := zI 1) hC dX12_outByte_44 rfl ?_
    refine zr_iadd hC dX12_outByte_45 ?_
    obtain ⟨o21, h22⟩ := h20
    obtain ⟨o23, h24⟩ := h22
    obtain ⟨o25, h26⟩ := h24
    refine zr_iast hC hZ16 zk_116 zb_116 zn_116 (by decide) o21 o23 o25 dX12_outByte_46 (fun F27 hZ28 => ?_)
    exact zr_vret hC hZ28 h26 dX12_outByte_47
  · have h29 := h4.2 c5
    exact zr_vret hC hZ h29 dX12_outByte_17
theorem dX12_decimal_0 : decode cX12_decimal 0 = .ok (.aload_n 0, 1) := by decide +kernel
theorem dX12_decimal_1 : decode cX12_decimal 1 = .ok (.getfield 366, 3) := by decide +kernel
theorem dX12_decimal_4 : decode cX12_decimal 4 = .ok (.aload_n 0, 1) := by decide +kernel
theorem dX12_decimal_5 : decode cX12_decimal 5 = .ok (.getfield 369, 3) := by decide +kernel
theorem dX12_decimal_8 : decode cX12_decimal 8 = .ok (.iaload, 1) := by decide +kernel
theorem dX12_decimal_9 : decode cX12_decimal 9 = .ok (.sipush 4096, 3) := by decide +kernel
theorem dX12_decimal_12 : decode cX12_decimal 12 = .ok (.if_icmp .ne 4, 3) := by decide +kernel
theorem dX12_decimal_15 : decode cX12_decimal 15 = .ok (.return_, 1) := by decide +kernel
theorem dX12_decimal_16 : decode cX12_decimal 16 = .ok (.iload_n 1, 1) := by decide +kernel
theorem dX12_decimal_17 : decode cX12_decimal 17 = .ok (.ifCond .ge 9, 3) := by decide +kernel
theorem dX12_decimal_20 : decode cX12_decimal 20 = .ok (.iload_n 1, 1) := by decide +kernel
theorem dX12_decimal_21 : decode cX12_decimal 21 = .ok (.i2l, 1) := by decide +kernel
theorem dX12_decimal_22 : decode cX12_decimal 22 = .ok (.lneg, 1) := by decide +kernel
theorem dX12_decimal_23 : decode cX12_decimal 23 = .ok (.goto 5, 3) := by decide +kernel
theorem dX12_decimal_26 : decode cX12_decimal 26 = .ok (.iload_n 1, 1) := by decide +kernel
theorem dX12_decimal_27 : decode cX12_decimal 27 = .ok (.i2l, 1) := by decide +kernel
theorem dX12_decimal_28 : decode cX12_decimal 28 = .ok (.lstore_n 3, 1) := by decide +kernel
theorem dX12_decimal_29 : decode cX12_decimal 29 = .ok (.iconst 0, 1) := by decide +kernel
theorem dX12_decimal_30 : decode cX12_decimal 30 = .ok (.istore 5, 2) := by decide +kernel
theorem dX12_decimal_32 : decode cX12_decimal 32 = .ok (.iconst 1, 1) := by decide +kernel
theorem dX12_decimal_33 : decode cX12_decimal 33 = .ok (.istore 6, 2) := by decide +kernel
theorem dX12_decimal_35 : decode cX12_decimal 35 = .ok (.iload 6, 2) := by decide +kernel
theorem dX12_decimal_37 : decode cX12_decimal 37 = .ok (.ifCond .eq 46, 3) := by decide +kernel
theorem dX12_decimal_40 : decode cX12_decimal 40 = .ok (.aload_n 0, 1) := by decide +kernel
theorem dX12_decimal_41 : decode cX12_decimal 41 = .ok (.getfield 372, 3) := by decide +kernel
theorem dX12_decimal_44 : decode cX12_decimal 44 = .ok (.iload 5, 2) := by decide +kernel
theorem dX12_decimal_46 : decode cX12_decimal 46 = .ok (.ldc2_w 830, 3) := by decide +kernel
theorem dX12_decimal_49 : decode cX12_decimal 49 = .ok (.lload_n 3, 1) := by decide +kernel
theorem dX12_decimal_50 : decode cX12_decimal 50 = .ok (.ldc2_w 832, 3) := by decide +kernel
theorem dX12_decimal_53 : decode cX12_decimal 53 = .ok (.lrem, 1) := by decide +kernel
theorem dX12_decimal_54 : decode cX12_decimal 54 = .ok (.ladd, 1) := by decide +kernel
theorem dX12_decimal_55 : decode cX12_decimal 55 = .ok (.l2i, 1) := by decide +kernel
theorem dX12_decimal_56 : decode cX12_decimal 56 = .ok (.i2b, 1) := by decide +kernel
theorem dX12_decimal_57 : decode cX12_decimal 57 = .ok (.bastore, 1) := by decide +kernel
theorem dX12_decimal_58 : decode cX12_decimal 58 = .ok (.iinc 5 1, 3) := by decide +kernel
theorem dX12_decimal_61 : decode cX12_decimal 61 = .ok (.lload_n 3, 1) := by decide +kernel
theorem dX12_decimal_62 : decode cX12_decimal 62 = .ok (.ldc2_w 832, 3) := by decide +kernel
theorem dX12_decimal_65 : decode cX12_decimal 65 = .ok (.ldiv, 1) := by decide +kernel
theorem dX12_decimal_66 : decode cX12_decimal 66 = .ok (.lstore_n 3, 1) := by decide +kernel
theorem dX12_decimal_67 : decode cX12_decimal 67 = .ok (.lload_n 3, 1) := by decide +kernel
theorem dX12_decimal_68 : decode cX12_decimal 68 = .ok (.lconst 0, 1) := by decide +kernel
theorem dX12_decimal_69 : decode cX12_decimal 69 = .ok (.lcmp, 1) := by decide +kernel
theorem dX12_decimal_70 : decode cX12_decimal 70 = .ok (.ifCond .le 7, 3) := by decide +kernel
theorem dX12_decimal_73 : decode cX12_decimal 73 = .ok (.iconst 1, 1) := by decide +kernel
theorem dX12_decimal_74 : decode cX12_decimal 74 = .ok (.goto 4, 3) := by decide +kernel
theorem dX12_decimal_77 : decode cX12_decimal 77 = .ok (.iconst 0, 1) := by decide +kernel
theorem dX12_decimal_78 : decode cX12_decimal 78 = .ok (.istore 6, 2) := by decide +kernel
theorem dX12_decimal_80 : decode cX12_decimal 80 = .ok (.goto (-45), 3) := by decide +kernel
theorem dX12_decimal_83 : decode cX12_decimal 83 = .ok (.iload_n 1, 1) := by decide +kernel
theorem dX12_decimal_84 : decode cX12_decimal 84 = .ok (.ifCond .ge 10, 3) := by decide +kernel
theorem dX12_decimal_87 : decode cX12_decimal 87 = .ok (.iload 5, 2) := by decide +kernel
theorem dX12_decimal_89 : decode cX12_decimal 89 = .ok (.iconst 1, 1) := by decide +kernel
theorem dX12_decimal_90 : decode cX12_decimal 90 = .ok (.iadd, 1) := by decide +kernel
theorem dX12_decimal_91 : decode cX12_decimal 91 = .ok (.goto 5, 3) := by decide +kernel
theorem dX12_decimal_94 : decode cX12_decimal 94 = .ok (.iload 5, 2) := by decide +kernel
theorem dX12_decimal_96 : decode cX12_decimal 96 = .ok (.istore 7, 2) := by decide +kernel
theorem dX12_decimal_98 : decode cX12_decimal 98 = .ok (.iload 7, 2) := by decide +kernel
theorem dX12_decimal_100 : decode cX12_decimal 100 = .ok (.istore 8, 2) := by decide +kernel
theorem dX12_decimal_102 : decode cX12_decimal 102 = .ok (.iload 8, 2) := by decide +kernel
theorem dX12_decimal_104 : decode cX12_decimal 104 = .ok (.iload_n 2, 1) := by decide +kernel
theorem dX12_decimal_105 : decode cX12_decimal 105 = .ok (.if_icmp .ge 15, 3) := by decide +kernel
theorem dX12_decimal_108 : decode cX12_decimal 108 = .ok (.aload_n 0, 1) := by decide +kernel
theorem dX12_decimal_109 : decode cX12_decimal 109 = .ok (.bipush 32, 2) := by decide +kernel
theorem dX12_decimal_111 : decode cX12_decimal 111 = .ok (.invokevirtual 834, 3) := by decide +kernel
theorem dX12_decimal_114 : decode cX12_decimal 114 = .ok (.iinc 8 1, 3) := by decide +kernel
theorem dX12_decimal_117 : decode cX12_decimal 117 = .ok (.goto (-15), 3) := by decide +kernel
theorem dX12_decimal_120 : decode cX12_decimal 120 = .ok (.iload_n 1, 1) := by decide +kernel
theorem dX12_decimal_121 : decode cX12_decimal 121 = .ok (.ifCond .ge 9, 3) := by decide +kernel
theorem dX12_decimal_124 : decode cX12_decimal 124 = .ok (.aload_n 0, 1) := by decide +kernel
theorem dX12_decimal_125 : decode cX12_decimal 125 = .ok (.bipush 45, 2) := by decide +kernel
theorem dX12_decimal_127 : decode cX12_decimal 127 = .ok (.invokevirtual 834, 3) := by decide +kernel
theorem dX12_decimal_130 : decode cX12_decimal 130 = .ok (.iload 5, 2) := by decide +kernel
theorem dX12_decimal_132 : decode cX12_decimal 132 = .ok (.iconst 1, 1) := by decide +kernel
theorem dX12_decimal_133 : decode cX12_decimal 133 = .ok (.isub, 1) := by decide +kernel
theorem dX12_decimal_134 : decode cX12_decimal 134 = .ok (.istore 8, 2) := by decide +kernel
theorem dX12_decimal_136 : decode cX12_decimal 136 = .ok (.iload 8, 2) := by decide +kernel
theorem dX12_decimal_138 : decode cX12_decimal 138 = .ok (.ifCond .lt 20, 3) := by decide +kernel
theorem dX12_decimal_141 : decode cX12_decimal 141 = .ok (.aload_n 0, 1) := by decide +kernel
theorem dX12_decimal_142 : decode cX12_decimal 142 = .ok (.aload_n 0, 1) := by decide +kernel
theorem dX12_decimal_143 : decode cX12_decimal 143 = .ok (.getfield 372, 3) := by decide +kernel
theorem dX12_decimal_146 : decode cX12_decimal 146 = .ok (.iload 8, 2) := by decide +kernel
theorem dX12_decimal_148 : decode cX12_decimal 148 = .ok (.baload, 1) := by decide +kernel
theorem dX12_decimal_149 : decode cX12_decimal 149 = .ok (.invokevirtual 834, 3) := by decide +kernel
theorem dX12_decimal_152 : decode cX12_decimal 152 = .ok (.iinc 8 (-1), 3) := by decide +kernel
theorem dX12_decimal_155 : decode cX12_decimal 155 = .ok (.goto (-19), 3) := by decide +kernel
theorem dX12_decimal_158 : decode cX12_decimal 158 = .ok (.return_, 1) := by decide +kernel
def wr_decimal_136B (Q : zS → Prop) (k136 : zS → Int → Prop) (s0 : zS) (x8 : Int) : Prop :=
  ((x8 < 0 → Q s0) ∧ (¬ x8 < 0 → (0 ≤ x8) ∧ (x8 < 12) ∧ wr_outByte s0 (za s0 118 (Int.toNat x8)) (fun s9 => (zR (x8 + (-1))) ∧ k136 s9 (x8 + (-1)))))
def wr_decimal_136 (Q : zS → Prop)  : Nat → zS → Int → Prop
  | 0 => fun _ _ => False
  | m + 1 => fun s0 x8 => wr_decimal_136B Q  (wr_decimal_136 Q  m) s0 x8
def wr_decimal_102B (Q : zS → Prop) (k102 : zS → Int → Int → Int → Int → Prop) (s0 : zS) (x1 : Int) (x2 : Int) (x5 : Int) (x8 : Int) : Prop :=
  ((x2 ≤ x8 → ((0 ≤ x1 → (zR (x5 - 1)) ∧ ∃ n, wr_decimal_136 Q  n s0 (x5 - 1)) ∧ (¬ 0 ≤ x1 → wr_outByte s0 45 (fun s11 => (zR (x5 - 1)) ∧ ∃ n, wr_decimal_136 Q  n s11 (x5 - 1))))) ∧ (¬ x2 ≤ x8 → wr_outByte s0 32 (fun s22 => (zR (x8 + 1)) ∧ k102 s22 x1 x2 x5 (x8 + 1))))
def wr_decimal_102 (Q : zS → Prop)  : Nat → zS → Int → Int → Int → Int → Prop
  | 0 => fun _ _ _ _ _ => False
  | m + 1 => fun s0 x1 x2 x5 x8 => wr_decimal_102B Q  (wr_decimal_102 Q  m) s0 x1 x2 x5 x8
def wr_decimal_35B (Q : zS → Prop) (k35 : zS → Int → Int → Int → Int → Int → Prop) (s0 : zS) (x1 : Int) (x2 : Int) (x3 : Int) (x5 : Int) (x6 : Int) : Prop :=
  ((x6 = 0 → ((0 ≤ x1 → ∃ n, wr_decimal_102 Q  n s0 x1 x2 x5 x5) ∧ (¬ 0 ≤ x1 → (zR (x5 + 1)) ∧ ∃ n, wr_decimal_102 Q  n s0 x1 x2 x5 (x5 + 1)))) ∧ (¬ x6 = 0 → (0 ≤ x5) ∧ (x5 < 12) ∧ (((zdl x3 10) ≤ 0 → (zR (x5 + 1)) ∧ k35 (zpa s0 118 (Int.toNat x5) (znb (zby (48 + (x3 - zdl x3 10 * 10))))) x1 x2 (zdl x3 10) (x5 + 1) 0) ∧ (¬ (zdl x3 10) ≤ 0 → (zR (x5 + 1)) ∧ k35 (zpa s0 118 (Int.toNat x5) (znb (zby (48 + (x3 - zdl x3 10 * 10))))) x1 x2 (zdl x3 10) (x5 + 1) 1))))
def wr_decimal_35 (Q : zS → Prop)  : Nat → zS → Int → Int → Int → Int → Int → Prop
  | 0 => fun _ _ _ _ _ _ => False
  | m + 1 => fun s0 x1 x2 x3 x5 x6 => wr_decimal_35B Q  (wr_decimal_35 Q  m) s0 x1 x2 x3 x5 x6
def wr_decimal (s0 : zS) (a0 : Int) (a1 : Int) (Q : zS → Prop) : Prop :=
  (0 ≤ (zv s0 117)) ∧ ((zv s0 117) < 2) ∧ ((¬ (za s0 116 (Int.toNat (zv s0 117))) = 4096 → ((0 ≤ a0 → ∃ n, wr_decimal_35 Q  n s0 a0 a1 a0 0 1) ∧ (¬ 0 ≤ a0 → (zL (-a0)) ∧ ∃ n, wr_decimal_35 Q  n s0 a0 a1 (-a0) 0 1))) ∧ ((za s0 116 (Int.toNat (zv s0 117))) = 4096 → Q s0))
set_option maxHeartbeats 4000000 in
set_option maxRecDepth 100000 in
theorem rb_decimal_136 {X : gX} {d : gD} {b t : Nat} {T : Nat → Nat} {F0 : gM} (hC : gC RX12 cX12_decimal 9 none "decimal" (gR 1 0 0) d b X) {Q : zS → Prop} {k136 : zS → Int → Prop} (hk136 : ∀ (F : gM) (s0 : zS) (x8 : Int), zR x8 → zZ d t T F0 F s0 → k136 s0 x8 → gG X d b (zQv X d b t T F0 Q) F 0 0 136 [some (.ref t), none, none, none, none, none, none, none, some (.int (zI x8))] []) {F : gM} {s0 : zS} {x8 : Int} (Rx8 : zR x8) (hZ : zZ d t T F0 F s0) (hw : wr_decimal_136B Q k136 s0 x8) : gG X d b (zQv X d b t T F0 Q) F 0 0 136 [some (.ref t), none, none, none, none, none, none, none, some (.int (zI x8))] [] := by
  unfold wr_decimal_136B at hw
  refine g_iload hC dX12_decimal_136 rfl ?_
  refine zr_if_lt (tgt := 158) hC Rx8 dX12_decimal_138 (by decide) (fun c1 => ?_) (fun c1 => ?_)
  · have h2 := hw.1 c1
    exact zr_vret hC hZ h2 dX12_decimal_158
  · have h3 := hw.2 c1
    refine g_aload_n hC dX12_decimal_141 rfl ?_
    refine g_aload_n hC dX12_decimal_142 rfl ?_
    refine zr_geta hC hZ fl_X12_372 zb_118 (by decide) dX12_decimal_143 ?_
    refine g_iload hC dX12_decimal_146 rfl ?_
    obtain ⟨o4, h5⟩ := h3
    obtain ⟨o6, h7⟩ := h5
    refine zr_bald (v := (za s0 118 (Int.toNat x8))) hC hZ zk_118 zb_118 zn_118 (by decide) o4 o6 rfl dX12_decimal_148 ?_
    refine zr_callVv (As := [.int (zI (za s0 118 (Int.toNat x8)))]) hC hZ rfl (rm_outByte X.la d b (hZ.ra 118 _) hZ.rf h7) cl_X12_834 rfl rfl (Nat.le_of_ble_eq_true rfl) ⟨Nat.le_of_ble_eq_true rfl, Nat.le_of_ble_eq_true rfl⟩ dX12_decimal_149 (fun s9 F10 hZ12 h13 => ?_)
    refine zr_iinc (x := x8) (lv' := [some (.ref t), none, none, none, none, none, none, none, some (.int (zI (x8 + (-1))))]) hC dX12_decimal_152 rfl rfl rfl ?_
    refine g_goto (tgt := 136) hC dX12_decimal_155 (by decide) ?_
    obtain ⟨o14, h15⟩ := h13
    exact hk136 _ _ _ o14 hZ12 h15
theorem rl_decimal_136 {X : gX} {d : gD} {b t : Nat} {T : Nat → Nat} {F0 : gM} (hC : gC RX12 cX12_decimal 9 none "decimal" (gR 1 0 0) d b X) {Q : zS → Prop}   : ∀ (m : Nat) (F : gM) (s0 : zS) (x8 : Int), zR x8 → zZ d t T F0 F s0 → wr_decimal_136 Q  m s0 x8 → gG X d b (zQv X d b t T F0 Q) F 0 0 136 [some (.ref t), none, none, none, none, none, none, none, some (.int (zI x8))] [] := by
  intro m
  induction m with
  | zero => intro F s0 x8 Rx8 hZ hw; exact False.elim hw
  | succ m ih => intro F s0 x8 Rx8 hZ hw; exact rb_decimal_136 hC  ih Rx8 hZ hw
set_option maxHeartbeats 4000000 in
set_option maxRecDepth 100000 in
theorem rb_decimal_102 {X : gX} {d : gD} {b t : Nat} {T : Nat → Nat} {F0 : gM} (hC : gC RX12 cX12_decimal 9 none "decimal" (gR 1 0 0) d b X) {Q : zS → Prop} {k102 : zS → Int → Int → Int → Int → Prop} (hk102 : ∀ (F : gM) (s0 : zS) (x1 : Int) (x2 : Int) (x5 : Int) (x8 : Int), zR x1 → zR x2 → zR x5 → zR x8 → zZ d t T F0 F s0 → k102 s0 x1 x2 x5 x8 → gG X d b (zQv X d b t T F0 Q) F 0 0 102 [some (.ref t), some (.int (zI x1)), some (.int (zI x2)), none, none, some (.int (zI x5)), none, none, some (.int (zI x8))] []) {F : gM} {s0 : zS} {x1 : Int} {x2 : Int} {x5 : Int} {x8 : Int} (Rx1 : zR x1) (Rx2 : zR x2) (Rx5 : zR x5) (Rx8 : zR x8) (hZ : zZ d t T F0 F s0) (hw : wr_decimal_102B Q k102 s0 x1 x2 x5 x8) : gG X d b (zQv X d b t T F0 Q) F 0 0 102 [some (.ref t), some (.int (zI x1)), some (.int (zI x2)), none, none, some (.int (zI x5)), none, none, some (.int (zI x8))] [] := by
  unfold wr_decimal_102B at hw
  refine g_iload hC dX12_decimal_102 rfl ?_
  refine g_iload_n hC dX12_decimal_104 rfl ?_
  refine zr_icmp_ge (tgt := 120) hC Rx8 Rx2 dX12_decimal_105 (by decide) (fun c1 => ?_) (fun c1 => ?_)
  · have h2 := hw.1 c1
    refine g_iload_n hC dX12_decimal_120 rfl ?_
    refine zr_if_ge (tgt := 130) hC Rx1 dX12_decimal_121 (by decide) (fun c3 => ?_) (fun c3 => ?_)
    · have h4 := h2.1 c3
      refine g_iload hC dX12_decimal_130 rfl ?_
      refine g_iconst (v := zI 1) hC dX12_decimal_132 rfl ?_
      refine zr_isub hC dX12_decimal_133 ?_
      refine g_istore (lv' := [some (.ref t), some (.int (zI x1)), some (.int (zI x2)), none, none, some (.int (zI x5)), none, none, some (.int (zI (x5 - 1)))]) hC dX12_decimal_134 (Nat.le_of_ble_eq_true rfl) rfl rfl ?_
      obtain ⟨o5, h6⟩ := h4
      refine g_lv (lv' := [some (.ref t), none, none, none, none, none, none, none, some (.int (zI (x5 - 1)))]) ⟨rfl, rfl, trivial⟩ ?_
      obtain ⟨m7, h8⟩ := h6
      exact rl_decimal_136 hC  m7 _ _ _ o5 hZ h8
    · have h9 := h2.2 c3
      refine g_aload_n hC dX12_decimal_124 rfl ?_
      refine g_bipush (v := zI 45) hC dX12_decimal_125 rfl ?_
      refine zr_callVv (As := [.int (zI 45)]) hC hZ rfl (rm_outByte X.la d b (by decide) hZ.rf h9) cl_X12_834 rfl rfl (Nat.le_of_ble_eq_true rfl) ⟨Nat.le_of_ble_eq_true rfl, Nat.le_of_ble_eq_true rfl⟩ dX12_decimal_127 (fun s11 F12 hZ14 h15 => ?_)
      refine g_iload hC dX12_decimal_130 rfl ?_
      refine g_iconst (v := zI 1) hC dX12_decimal_132 rfl ?_
      refine zr_isub hC dX12_decimal_133 ?_
      refine g_istore (lv' := [some (.ref t), some (.int (zI x1)), some (.int (zI x2)), none, none, some (.int (zI x5)), none, none, some (.int (zI (x5 - 1)))]) hC dX12_decimal_134 (Nat.le_of_ble_eq_true rfl) rfl rfl ?_
      obtain ⟨o16, h17⟩ := h15
      refine g_lv (lv' := [some (.ref t), none, none, none, none, none, none, none, some (.int (zI (x5 - 1)))]) ⟨rfl, rfl, trivial⟩ ?_
      obtain ⟨m18, h19⟩ := h17
      exact rl_decimal_136 hC  m18 _ _ _ o16 hZ14 h19
  · have h20 := hw.2 c1
    refine g_aload_n hC dX12_decimal_108 rfl ?_
    refine g_bipush (v := zI 32) hC dX12_decimal_109 rfl ?_
    refine zr_callVv (As := [.int (zI 32)]) hC hZ rfl (rm_outByte X.la d b (by decide) hZ.rf h20) cl_X12_834 rfl rfl (Nat.le_of_ble_eq_true rfl) ⟨Nat.le_of_ble_eq_true rfl, Nat.le_of_ble_eq_true rfl⟩ dX12_decimal_111 (fun s22 F23 hZ25 h26 => ?_)
    refine zr_iinc (x := x8) (lv' := [some (.ref t), some (.int (zI x1)), some (.int (zI x2)), none, none, some (.int (zI x5)), none, none, some (.int (zI (x8 + 1)))]) hC dX12_decimal_114 rfl rfl rfl ?_
    refine g_goto (tgt := 102) hC dX12_decimal_117 (by decide) ?_
    obtain ⟨o27, h28⟩ := h26
    exact hk102 _ _ _ _ _ _ Rx1 Rx2 Rx5 o27 hZ25 h28
theorem rl_decimal_102 {X : gX} {d : gD} {b t : Nat} {T : Nat → Nat} {F0 : gM} (hC : gC RX12 cX12_decimal 9 none "decimal" (gR 1 0 0) d b X) {Q : zS → Prop}   : ∀ (m : Nat) (F : gM) (s0 : zS) (x1 : Int) (x2 : Int) (x5 : Int) (x8 : Int), zR x1 → zR x2 → zR x5 → zR x8 → zZ d t T F0 F s0 → wr_decimal_102 Q  m s0 x1 x2 x5 x8 → gG X d b (zQv X d b t T F0 Q) F 0 0 102 [some (.ref t), some (.int (zI x1)), some (.int (zI x2)), none, none, some (.int (zI x5)), none, none, some (.int (zI x8))] [] := by
  intro m
  induction m with
  | zero => intro F s0 x1 x2 x5 x8 Rx1 Rx2 Rx5 Rx8 hZ hw; exact False.elim hw
  | succ m ih => intro F s0 x1 x2 x5 x8 Rx1 Rx2 Rx5 Rx8 hZ hw; exact rb_decimal_102 hC  ih Rx1 Rx2 Rx5 Rx8 hZ hw
set_option maxHeartbeats 4000000 in
set_option maxRecDepth 100000 in
theorem rb_decimal_35 {X : gX} {d : gD} {b t : Nat} {T : Nat → Nat} {F0 : gM} (hC : gC RX12 cX12_decimal 9 none "decimal" (gR 1 0 0) d b X) {Q : zS → Prop} {k35 : zS → Int → Int → Int → Int → Int → Prop} (hk35 : ∀ (F : gM) (s0 : zS) (x1 : Int) (x2 : Int) (x3 : Int) (x5 : Int) (x6 : Int), zR x1 → zR x2 → zL x3 → zR x5 → zR x6 → zZ d t T F0 F s0 → k35 s0 x1 x2 x3 x5 x6 → gG X d b (zQv X d b t T F0 Q) F 0 0 35 [some (.ref t), some (.int (zI x1)), some (.int (zI x2)), some (.long (zJ x3)), none, some (.int (zI x5)), some (.int (zI x6)), none, none] []) {F : gM} {s0 : zS} {x1 : Int} {x2 : Int} {x3 : Int} {x5 : Int} {x6 : Int} (Rx1 : zR x1) (Rx2 : zR x2) (Rx3 : zL x3) (Rx5 : zR x5) (Rx6 : zR x6) (hZ : zZ d t T F0 F s0) (hw : wr_decimal_35B Q k35 s0 x1 x2 x3 x5 x6) : gG X d b (zQv X d b t T F0 Q) F 0 0 35 [some (.ref t), some (.int (zI x1)), some (.int (zI x2)), some (.long (zJ x3)), none, some (.int (zI x5)), some (.int (zI x6)), none, none] [] := by
  unfold wr_decimal_35B at hw
  refine g_iload hC dX12_decimal_35 rfl ?_
  refine zr_if_eq (tgt := 83) hC Rx6 dX12_decimal_37 (by decide) (fun c1 => ?_) (fun c1 => ?_)
  · have h2 := hw.1 c1
    refine g_iload_n hC dX12_decimal_83 rfl ?_
    refine zr_if_ge (tgt := 94) hC Rx1 dX12_decimal_84 (by decide) (fun c3 => ?_) (fun c3 => ?_)
    · have h4 := h2.1 c3
      refine g_iload hC dX12_decimal_94 rfl ?_
      refine g_istore (lv' := [some (.ref t), some (.int (zI x1)), some (.int (zI x2)), some (.long (zJ x3)), none, some (.int (zI x5)), some (.int (zI x6)), some (.int (zI x5)), none]) hC dX12_decimal_96 (Nat.le_of_ble_eq_true rfl) rfl rfl ?_
      refine g_iload hC dX12_decimal_98 rfl ?_
      refine g_istore (lv' := [some (.ref t), some (.int (zI x1)), some (.int (zI x2)), some (.long (zJ x3)), none, some (.int (zI x5)), some (.int (zI x6)), some (.int (zI x5)), some (.int (zI x5))]) hC dX12_decimal_100 (Nat.le_of_ble_eq_true rfl) rfl rfl ?_
      refine g_lv (lv' := [some (.ref t), some (.int (zI x1)), some (.int (zI x2)), none, none, some (.int (zI x5)), none, none, some (.int (zI x5))]) ⟨rfl, rfl, rfl, rfl, rfl, trivial⟩ ?_
      obtain ⟨m5, h6⟩ := h4
      exact rl_decimal_102 hC  m5 _ _ _ _ _ _ Rx1 Rx2 Rx5 Rx5 hZ h6
    · have h7 := h2.2 c3
      refine g_iload hC dX12_decimal_87 rfl ?_
      refine g_iconst (v := zI 1) hC dX12_decimal_89 rfl ?_
      refine zr_iadd hC dX12_decimal_90 ?_
      refine g_goto (tgt := 96) hC dX12_decimal_91 (by decide) ?_
      refine g_istore (lv' := [some (.ref t), some (.int (zI x1)), some (.int (zI x2)), some (.long (zJ x3)), none, some (.int (zI x5)), some (.int (zI x6)), some (.int (zI (x5 + 1))), none]) hC dX12_decimal_96 (Nat.le_of_ble_eq_true rfl) rfl rfl ?_
      refine g_iload hC dX12_decimal_98 rfl ?_
      refine g_istore (lv' := [some (.ref t), some (.int (zI x1)), some (.int (zI x2)), some (.long (zJ x3)), none, some (.int (zI x5)), some (.int (zI x6)), some (.int (zI (x5 + 1))), some (.int (zI (x5 + 1)))]) hC dX12_decimal_100 (Nat.le_of_ble_eq_true rfl) rfl rfl ?_
      obtain ⟨o8, h9⟩ := h7
      refine g_lv (lv' := [some (.ref t), some (.int (zI x1)), some (.int (zI x2)), none, none, some (.int (zI x5)), none, none, some (.int (zI (x5 + 1)))]) ⟨rfl, rfl, rfl, rfl, rfl, trivial⟩ ?_
      obtain ⟨m10, h11⟩ := h9
      exact rl_decimal_102 hC  m10 _ _ _ _ _ _ Rx1 Rx2 Rx5 o8 hZ h11
  · have h12 := hw.2 c1
    refine g_aload_n hC dX12_decimal_40 rfl ?_
    refine zr_geta hC hZ fl_X12_372 zb_118 (by decide) dX12_decimal_41 ?_
    refine g_iload hC dX12_decimal_44 rfl ?_
    refine zr_ldc2 (e := 48) hC dX12_decimal_46 kw_2842 (by decide) ?_
    refine g_lload_n hC dX12_decimal_49 rfl ?_
    refine zr_ldc2 (e := 10) hC dX12_decimal_50 kw_2843 (by decide) ?_
    refine zr_lrem hC dX12_decimal_53 (by decide) (by decide) ?_
    refine zr_ladd hC dX12_decimal_54 ?_
    refine zr_l2i hC dX12_decimal_55 ?_
    refine zr_i2b hC dX12_decimal_56 ?_
    obtain ⟨o13, h14⟩ := h12
    obtain ⟨o15, h16⟩ := h14
    refine zr_bast hC hZ zk_118 zb_118 zn_118 (by decide) o13 o15  dX12_decimal_57 (fun F17 hZ18 => ?_)
    refine zr_iinc (x := x5) (lv' := [some (.ref t), some (.int (zI x1)), some (.int (zI x2)), some (.long (zJ x3)), none, some (.int (zI (x5 + 1))), some (.int (zI x6)), none, none]) hC dX12_decimal_58 rfl rfl rfl ?_
    refine g_lload_n hC dX12_decimal_61 rfl ?_
    refine zr_ldc2 (e := 10) hC dX12_decimal_62 kw_2843 (by decide) ?_
    refine zr_ldiv hC dX12_decimal_65 (by decide) (by decide) ?_
    refine g_lstore_n (lv' := [some (.ref t), some (.int (zI x1)), some (.int (zI x2)), some (.long (zJ (zdl x3 10))), none, some (.int (zI (x5 + 1))), some (.int (zI x6)), none, none]) hC dX12_decimal_66 (Nat.le_of_ble_eq_true rfl) rfl rfl ?_
    refine g_lload_n hC dX12_decimal_67 rfl ?_
    refine g_lconst (v := zJ 0) hC dX12_decimal_68 rfl ?_
    refine g_lcmp hC dX12_decimal_69 ?_
    refine zr_lif_le (tgt := 77) hC (zL_t _) (by decide) dX12_decimal_70 (by decide) (fun c19 => ?_) (fun c19 => ?_)
    · have h20 := h16.1 c19
      refine g_iconst (v := zI 0) hC dX12_decimal_77 rfl ?_
      refine g_istore (lv' := [some (.ref t), some (.int (zI x1)), some (.int (zI x2)), some (.long (zJ (zdl x3 10))), none, some (.int (zI (x5 + 1))), some (.int (zI 0)), none, none]) hC dX12_decimal_78 (Nat.le_of_ble_eq_true rfl) rfl rfl ?_
      refine g_goto (tgt := 35) hC dX12_decimal_80 (by decide) ?_
      obtain ⟨o21, h22⟩ := h20
      exact hk35 _ _ _ _ _ _ _ Rx1 Rx2 (zL_t _) o21 (by decide) hZ18 h22
    · have h23 := h16.2 c19
      refine g_iconst (v := zI 1) hC dX12_decimal_73 rfl ?_
      refine g_goto (tgt := 78) hC dX12_decimal_74 (by decide) ?_
      refine g_istore (lv' := [some (.ref t), some (.int (zI x1)), some (.int (zI x2)), some (.long (zJ (zdl x3 10))), none, some (.int (zI (x5 + 1))), some (.int (zI 1)), none, none]) hC dX12_decimal_78 (Nat.le_of_ble_eq_true rfl) rfl rfl ?_
      refine g_goto (tgt := 35) hC dX12_decimal_80 (by decide) ?_
      obtain ⟨o24, h25⟩ := h23
      exact hk35 _ _ _ _ _ _ _ Rx1 Rx2 (zL_t _) o24 (by decide) hZ18 h25
theorem rl_decimal_35 {X : gX} {d : gD} {b t : Nat} {T : Nat → Nat} {F0 : gM} (hC : gC RX12 cX12_decimal 9 none "decimal" (gR 1 0 0) d b X) {Q : zS → Prop}   : ∀ (m : Nat) (F : gM) (s0 : zS) (x1 : Int) (x2 : Int) (x3 : Int) (x5 : Int) (x6 : Int), zR x1 → zR x2 → zL x3 → zR x5 → zR x6 → zZ d t T F0 F s0 → wr_decimal_35 Q  m s0 x1 x2 x3 x5 x6 → gG X d b (zQv X d b t T F0 Q) F 0 0 35 [some (.ref t), some (.int (zI x1)), some (.int (zI x2)), some (.long (zJ x3)), none, some (.int (zI x5)), some (.int (zI x6)), none, none] [] := by
  intro m
  induction m with
  | zero => intro F s0 x1 x2 x3 x5 x6 Rx1 Rx2 Rx3 Rx5 Rx6 hZ hw; exact False.elim hw
  | succ m ih => intro F s0 x1 x2 x3 x5 x6 Rx1 Rx2 Rx3 Rx5 Rx6 hZ hw; exact rb_decimal_35 hC  ih Rx1 Rx2 Rx3 Rx5 Rx6 hZ hw
set_option maxHeartbeats 4000000 in
set_option maxRecDepth 100000 in
theorem rm_decimal (l : Launch) (d : gD) (b : Nat) {t : Nat} {T : Nat → Nat} {F : gM} {s0 : zS} {a0 : Int} {a1 : Int} (Ra0 : zR a0) (Ra1 : zR a1) {Q : zS → Prop} (hZ : zZ d t T F F s0) (hw : wr_decimal s0 a0 a1 Q) : gMv l d b yX12_decimal cX12_decimal 9 1 0 0 F [.ref t, .int (zI a0), .int (zI a1)] (zPv d t T F Q) := by
  refine gM_of2 rfl (nL := 9) (Nat.le_of_ble_eq_true rfl) ?_
  intro X hX hC; subst hX
  show gG X d b (zQv X d b t T F Q) F 0 0 0 [some (.ref t), some (.int (zI a0)), some (.int (zI a1)), none, none, none, none, none, none] []
  unfold wr_decimal at hw
  refine g_aload_n hC dX12_decimal_0 rfl ?_
  refine zr_geta hC hZ fl_X12_366 zb_116 (by decide) dX12_decimal_1 ?_
  refine g_aload_n hC dX12_decimal_4 rfl ?_
  refine zr_get (e := (zv s0 117)) hC hZ fl_X12_369 zb_117 (by decide) rfl dX12_decimal_5 ?_
  obtain ⟨o1, h2⟩ := hw
  obtain ⟨o3, h4⟩ := h2
  refine zr_iald (v := (za s0 116 (Int.toNat (zv s0 117)))) hC hZ zk_116 zb_116 zn_116 (by decide) o1 o3 rfl dX12_decimal_8 ?_
  refine g_sipush (v := zI 4096) hC dX12_decimal_9 rfl ?_
  refine zr_icmp_ne (tgt := 16) hC (hZ.ra 116 _) (by decide) dX12_decimal_12 (by decide) (fun c5 => ?_) (fun c5 => ?_)
  · have h6 := h4.1 c5
    refine g_iload_n hC dX12_decimal_16 rfl ?_
    refine zr_if_ge (tgt := 26) hC Ra0 dX12_decimal_17 (by decide) (fun c7 => ?_) (fun c7 => ?_)
    · have h8 := h6.1 c7
      refine g_iload_n hC dX12_decimal_26 rfl ?_
      refine zr_i2l hC dX12_decimal_27 Ra0 ?_
      refine g_lstore_n (lv' := [some (.ref t), some (.int (zI a0)), some (.int (zI a1)), some (.long (zJ a0)), none, none, none, none, none]) hC dX12_decimal_28 (Nat.le_of_ble_eq_true rfl) rfl rfl ?_
      refine g_iconst (v := zI 0) hC dX12_decimal_29 rfl ?_
      refine g_istore (lv' := [some (.ref t), some (.int (zI a0)), some (.int (zI a1)), some (.long (zJ a0)), none, some (.int (zI 0)), none, none, none]) hC dX12_decimal_30 (Nat.le_of_ble_eq_true rfl) rfl rfl ?_
      refine g_iconst (v := zI 1) hC dX12_decimal_32 rfl ?_
      refine g_istore (lv' := [some (.ref t), some (.int (zI a0)), some (.int (zI a1)), some (.long (zJ a0)), none, some (.int (zI 0)), some (.int (zI 1)), none, none]) hC dX12_decimal_33 (Nat.le_of_ble_eq_true rfl) rfl rfl ?_
      obtain ⟨m9, h10⟩ := h8
      exact rl_decimal_35 hC  m9 _ _ _ _ _ _ _ Ra0 Ra1 (zR_L Ra0) (by decide) (by decide) hZ h10
    · have h11 := h6.2 c7
      refine g_iload_n hC dX12_decimal_20 rfl ?_
      refine zr_i2l hC dX12_decimal_21 Ra0 ?_
      refine zr_lneg hC dX12_decimal_22 ?_
      refine g_goto (tgt := 28) hC dX12_decimal_23 (by decide) ?_
      refine g_lstore_n (lv' := [some (.ref t), some (.int (zI a0)), some (.int (zI a1)), some (.long (zJ (-a0))), none, none, none, none, none]) hC dX12_decimal_28 (Nat.le_of_ble_eq_true rfl) rfl rfl ?_
      refine g_iconst (v := zI 0) hC dX12_decimal_29 rfl ?_
      refine g_istore (lv' := [some (.ref t), some (.int (zI a0)), some (.int (zI a1)), some (.long (zJ (-a0))), none, some (.int (zI 0)), none, none, none]) hC dX12_decimal_30 (Nat.le_of_ble_eq_true rfl) rfl rfl ?_
      refine g_iconst (v := zI 1) hC dX12_decimal_32 rfl ?_
      refine g_istore (lv' := [some (.ref t), some (.int (zI a0)), some (.int (zI a1)), some (.long (zJ (-a0))), none, some (.int (zI 0)), some (.int (zI 1)), none, none]) hC dX12_decimal_33 (Nat.le_of_ble_eq_true rfl) rfl rfl ?_
      obtain ⟨o12, h13⟩ := h11
      obtain ⟨m14, h15⟩ := h13
      exact rl_decimal_35 hC  m14 _ _ _ _ _ _ _ Ra0 Ra1 o12 (by decide) (by decide) hZ h15
  · have h16 := h4.2 c5
    exact zr_vret hC hZ h16 dX12_decimal_15
theorem dX12_writeString_0 : decode cX12_writeString 0 = .ok (.iload_n 1, 1) := by decide +kernel
theorem dX12_writeString_1 : decode cX12_writeString 1 = .ok (.ifCond .lt 11, 3) := by decide +kernel
theorem dX12_writeString_4 : decode cX12_writeString 4 = .ok (.iload_n 1, 1) := by decide +kernel
theorem dX12_writeString_5 : decode cX12_writeString 5 = .ok (.aload_n 0, 1) := by decide +kernel
theorem dX12_writeString_6 : decode cX12_writeString 6 = .ok (.getfield 315, 3) := by decide +kernel
theorem dX12_writeString_9 : decode cX12_writeString 9 = .ok (.if_icmp .lt 9, 3) := by decide +kernel
theorem dX12_writeString_12 : decode cX12_writeString 12 = .ok (.aload_n 0, 1) := by decide +kernel
theorem dX12_writeString_13 : decode cX12_writeString 13 = .ok (.iconst 2, 1) := by decide +kernel
theorem dX12_writeString_14 : decode cX12_writeString 14 = .ok (.invokevirtual 792, 3) := by decide +kernel
theorem dX12_writeString_17 : decode cX12_writeString 17 = .ok (.return_, 1) := by decide +kernel
theorem dX12_writeString_18 : decode cX12_writeString 18 = .ok (.aload_n 0, 1) := by decide +kernel
theorem dX12_writeString_19 : decode cX12_writeString 19 = .ok (.getfield 312, 3) := by decide +kernel
theorem dX12_writeString_22 : decode cX12_writeString 22 = .ok (.iload_n 1, 1) := by decide +kernel
theorem dX12_writeString_23 : decode cX12_writeString 23 = .ok (.iaload, 1) := by decide +kernel
theorem dX12_writeString_24 : decode cX12_writeString 24 = .ok (.sipush 255, 3) := by decide +kernel
theorem dX12_writeString_27 : decode cX12_writeString 27 = .ok (.iand, 1) := by decide +kernel
theorem dX12_writeString_28 : decode cX12_writeString 28 = .ok (.istore_n 2, 1) := by decide +kernel
theorem dX12_writeString_29 : decode cX12_writeString 29 = .ok (.iload_n 1, 1) := by decide +kernel
theorem dX12_writeString_30 : decode cX12_writeString 30 = .ok (.i2l, 1) := by decide +kernel
theorem dX12_writeString_31 : decode cX12_writeString 31 = .ok (.iload_n 2, 1) := by decide +kernel
theorem dX12_writeString_32 : decode cX12_writeString 32 = .ok (.iconst 4, 1) := by decide +kernel
theorem dX12_writeString_33 : decode cX12_writeString 33 = .ok (.idiv, 1) := by decide +kernel
theorem dX12_writeString_34 : decode cX12_writeString 34 = .ok (.i2l, 1) := by decide +kernel
theorem dX12_writeString_35 : decode cX12_writeString 35 = .ok (.ladd, 1) := by decide +kernel
theorem dX12_writeString_36 : decode cX12_writeString 36 = .ok (.aload_n 0, 1) := by decide +kernel
theorem dX12_writeString_37 : decode cX12_writeString 37 = .ok (.getfield 315, 3) := by decide +kernel
theorem dX12_writeString_40 : decode cX12_writeString 40 = .ok (.i2l, 1) := by decide +kernel
theorem dX12_writeString_41 : decode cX12_writeString 41 = .ok (.lcmp, 1) := by decide +kernel
theorem dX12_writeString_42 : decode cX12_writeString 42 = .ok (.ifCond .lt 9, 3) := by decide +kernel
theorem dX12_writeString_45 : decode cX12_writeString 45 = .ok (.aload_n 0, 1) := by decide +kernel
theorem dX12_writeString_46 : decode cX12_writeString 46 = .ok (.iconst 2, 1) := by decide +kernel
theorem dX12_writeString_47 : decode cX12_writeString 47 = .ok (.invokevirtual 792, 3) := by decide +kernel
theorem dX12_writeString_50 : decode cX12_writeString 50 = .ok (.return_, 1) := by decide +kernel
theorem dX12_writeString_51 : decode cX12_writeString 51 = .ok (.aload_n 0, 1) := by decide +kernel
theorem dX12_writeString_52 : decode cX12_writeString 52 = .ok (.getfield 366, 3) := by decide +kernel
theorem dX12_writeString_55 : decode cX12_writeString 55 = .ok (.aload_n 0, 1) := by decide +kernel
theorem dX12_writeString_56 : decode cX12_writeString 56 = .ok (.getfield 369, 3) := by decide +kernel
theorem dX12_writeString_59 : decode cX12_writeString 59 = .ok (.iaload, 1) := by decide +kernel
theorem dX12_writeString_60 : decode cX12_writeString 60 = .ok (.sipush 4096, 3) := by decide +kernel
theorem dX12_writeString_63 : decode cX12_writeString 63 = .ok (.if_icmp .ne 4, 3) := by decide +kernel
theorem dX12_writeString_66 : decode cX12_writeString 66 = .ok (.return_, 1) := by decide +kernel
theorem dX12_writeString_67 : decode cX12_writeString 67 = .ok (.iconst 1, 1) := by decide +kernel
theorem dX12_writeString_68 : decode cX12_writeString 68 = .ok (.istore_n 3, 1) := by decide +kernel
theorem dX12_writeString_69 : decode cX12_writeString 69 = .ok (.iload_n 3, 1) := by decide +kernel
theorem dX12_writeString_70 : decode cX12_writeString 70 = .ok (.iload_n 2, 1) := by decide +kernel
theorem dX12_writeString_71 : decode cX12_writeString 71 = .ok (.if_icmp .gt 34, 3) := by decide +kernel
theorem dX12_writeString_74 : decode cX12_writeString 74 = .ok (.aload_n 0, 1) := by decide +kernel
theorem dX12_writeString_75 : decode cX12_writeString 75 = .ok (.aload_n 0, 1) := by decide +kernel
theorem dX12_writeString_76 : decode cX12_writeString 76 = .ok (.getfield 312, 3) := by decide +kernel
theorem dX12_writeString_79 : decode cX12_writeString 79 = .ok (.iload_n 1, 1) := by decide +kernel
theorem dX12_writeString_80 : decode cX12_writeString 80 = .ok (.iload_n 3, 1) := by decide +kernel
theorem dX12_writeString_81 : decode cX12_writeString 81 = .ok (.iconst 4, 1) := by decide +kernel
theorem dX12_writeString_82 : decode cX12_writeString 82 = .ok (.idiv, 1) := by decide +kernel
theorem dX12_writeString_83 : decode cX12_writeString 83 = .ok (.iadd, 1) := by decide +kernel
theorem dX12_writeString_84 : decode cX12_writeString 84 = .ok (.iaload, 1) := by decide +kernel
theorem dX12_writeString_85 : decode cX12_writeString 85 = .ok (.bipush 8, 2) := by decide +kernel
theorem dX12_writeString_87 : decode cX12_writeString 87 = .ok (.iload_n 3, 1) := by decide +kernel
theorem dX12_writeString_88 : decode cX12_writeString 88 = .ok (.iconst 3, 1) := by decide +kernel
theorem dX12_writeString_89 : decode cX12_writeString 89 = .ok (.iand, 1) := by decide +kernel
theorem dX12_writeString_90 : decode cX12_writeString 90 = .ok (.imul, 1) := by decide +kernel
theorem dX12_writeString_91 : decode cX12_writeString 91 = .ok (.iushr, 1) := by decide +kernel
theorem dX12_writeString_92 : decode cX12_writeString 92 = .ok (.sipush 255, 3) := by decide +kernel
theorem dX12_writeString_95 : decode cX12_writeString 95 = .ok (.iand, 1) := by decide +kernel
theorem dX12_writeString_96 : decode cX12_writeString 96 = .ok (.invokevirtual 834, 3) := by decide +kernel
theorem dX12_writeString_99 : decode cX12_writeString 99 = .ok (.iinc 3 1, 3) := by decide +kernel
theorem dX12_writeString_102 : decode cX12_writeString 102 = .ok (.goto (-33), 3) := by decide +kernel
theorem dX12_writeString_105 : decode cX12_writeString 105 = .ok (.return_, 1) := by decide +kernel
def wr_writeString_69B (Q : zS → Prop) (k69 : zS → Int → Int → Int → Prop) (s0 : zS) (x1 : Int) (x2 : Int) (x3 : Int) : Prop :=
  ((x2 < x3 → Q s0) ∧ (¬ x2 < x3 → (0 ≤ (x1 + (zd x3 4))) ∧ ((x1 + (zd x3 4)) < 65536) ∧ wr_outByte s0 (zan (zus (za s0 98 (Int.toNat (x1 + (zd x3 4)))) (8 * (zan x3 3))) 255) (fun s9 => (zR (x3 + 1)) ∧ k69 s9 x1 x2 (x3 + 1))))
def wr_writeString_69 (Q : zS → Prop)  : Nat → zS → Int → Int → Int → Prop
  | 0 => fun _ _ _ _ => False
  | m + 1 => fun s0 x1 x2 x3 => wr_writeString_69B Q  (wr_writeString_69 Q  m) s0 x1 x2 x3
def wr_writeString (s0 : zS) (a0 : Int) (Q : zS → Prop) : Prop :=
  ((a0 < 0 → wr_err s0 2 (fun s4 => Q s4)) ∧ (¬ a0 < 0 → ((a0 < (zv s0 99) → (0 ≤ a0) ∧ (a0 < 65536) ∧ (zL (a0 + (zd (zan (za s0 98 (Int.toNat a0)) 255) 4))) ∧ (((a0 + (zd (zan (za s0 98 (Int.toNat a0)) 255) 4)) < (zv s0 99) → (0 ≤ (zv s0 117)) ∧ ((zv s0 117) < 2) ∧ ((¬ (za s0 116 (Int.toNat (zv s0 117))) = 4096 → ∃ n, wr_writeString_69 Q  n s0 a0 (zan (za s0 98 (Int.toNat a0)) 255) 1) ∧ ((za s0 116 (Int.toNat (zv s0 117))) = 4096 → Q s0))) ∧ (¬ (a0 + (zd (zan (za s0 98 (Int.toNat a0)) 255) 4)) < (zv s0 99) → wr_err s0 2 (fun s31 => Q s31)))) ∧ (¬ a0 < (zv s0 99) → wr_err s0 2 (fun s38 => Q s38)))))
set_option maxHeartbeats 4000000 in
set_option maxRecDepth 100000 in
theorem rb_writeString_69 {X : gX} {d : gD} {b t : Nat} {T : Nat → Nat} {F0 : gM} (hC : gC RX12 cX12_writeString 4 none "writeString" (gR 1 0 0) d b X) {Q : zS → Prop} {k69 : zS → Int → Int → Int → Prop} (hk69 : ∀ (F : gM) (s0 : zS) (x1 : Int) (x2 : Int) (x3 : Int), zR x1 → zR x2 → zR x3 → zZ d t T F0 F s0 → k69 s0 x1 x2 x3 → gG X d b (zQv X d b t T F0 Q) F 0 0 69 [some (.ref t), some (.int (zI x1)), some (.int (zI x2)), some (.int (zI x3))] []) {F : gM} {s0 : zS} {x1 : Int} {x2 : Int} {x3 : Int} (Rx1 : zR x1) (Rx2 : zR x2) (Rx3 : zR x3) (hZ : zZ d t T F0 F s0) (hw : wr_writeString_69B Q k69 s0 x1 x2 x3) : gG X d b (zQv X d b t T F0 Q) F 0 0 69 [some (.ref t), some (.int (zI x1)), some (.int (zI x2)), some (.int (zI x3))] [] := by
  unfold wr_writeString_69B at hw
  refine g_iload_n hC dX12_writeString_69 rfl ?_
  refine g_iload_n hC dX12_writeString_70 rfl ?_
  refine zr_icmp_gt (tgt := 105) hC Rx3 Rx2 dX12_writeString_71 (by decide) (fun c1 => ?_) (fun c1 => ?_)
  · have h2 := hw.1 c1
    exact zr_vret hC hZ h2 dX12_writeString_105
  · have h3 := hw.2 c1
    refine g_aload_n hC dX12_writeString_74 rfl ?_
    refine g_aload_n hC dX12_writeString_75 rfl ?_
    refine zr_geta hC hZ fl_X12_312 zb_98 (by decide) dX12_writeString_76 ?_
    refine g_iload_n hC dX12_writeString_79 rfl ?_
    refine g_iload_n hC dX12_writeString_80 rfl ?_
    refine g_iconst (v := zI 4) hC dX12_writeString_81 rfl ?_
    refine zr_idiv hC dX12_writeString_82 (by decide) (by decide) ?_
    refine zr_iadd hC dX12_writeString_83 ?_
    obtain ⟨o4, h5⟩ := h3
    obtain ⟨o6, h7⟩ := h5
    refine zr_iald (v := (za s0 98 (Int.toNat (x1 + (zd x3 4))))) hC hZ zk_98 zb_98 zn_98 (by decide) o4 o6 rfl dX12_writeString_84 ?_
    refine g_bipush (v := zI 8) hC dX12_writeString_85 rfl ?_
    refine g_iload_n hC dX12_writeString_87 rfl ?_
    refine g_iconst (v := zI 3) hC dX12_writeString_88 rfl ?_
    refine zr_iand hC dX12_writeString_89 ?_
    refine zr_imul hC dX12_writeString_90 ?_
    refine zr_iushr hC dX12_writeString_91 ?_
    refine g_sipush (v := zI 255) hC dX12_writeString_92 rfl ?_
    refine zr_iand hC dX12_writeString_95 ?_
    refine zr_callVv (As := [.int (zI (zan (zus (za s0 98 (Int.toNat (x1 + (zd x3 4)))) (8 * (zan x3 3))) 255))]) hC hZ rfl (rm_outByte X.la d b (zR_t _) hZ.rf h7) cl_X12_834 rfl rfl (Nat.le_of_ble_eq_true rfl) ⟨Nat.le_of_ble_eq_true rfl, Nat.le_of_ble_eq_true rfl⟩ dX12_writeString_96 (fun s9 F10 hZ12 h13 => ?_)
    refine zr_iinc (x := x3) (lv' := [some (.ref t), some (.int (zI x1)), some (.int (zI x2)), some (.int (zI (x3 + 1)))]) hC dX12_writeString_99 rfl rfl rfl ?_
    refine g_goto (tgt := 69) hC dX12_writeString_102 (by decide) ?_
    obtain ⟨o14, h15⟩ := h13
    exact hk69 _ _ _ _ _ Rx1 Rx2 o14 hZ12 h15
theorem rl_writeString_69 {X : gX} {d : gD} {b t : Nat} {T : Nat → Nat} {F0 : gM} (hC : gC RX12 cX12_writeString 4 none "writeString" (gR 1 0 0) d b X) {Q : zS → Prop}   : ∀ (m : Nat) (F : gM) (s0 : zS) (x1 : Int) (x2 : Int) (x3 : Int), zR x1 → zR x2 → zR x3 → zZ d t T F0 F s0 → wr_writeString_69 Q  m s0 x1 x2 x3 → gG X d b (zQv X d b t T F0 Q) F 0 0 69 [some (.ref t), some (.int (zI x1)), some (.int (zI x2)), some (.int (zI x3))] [] := by
  intro m
  induction m with
  | zero => intro F s0 x1 x2 x3 Rx1 Rx2 Rx3 hZ hw; exact False.elim hw
  | succ m ih => intro F s0 x1 x2 x3 Rx1 Rx2 Rx3 hZ hw; exact rb_writeString_69 hC  ih Rx1 Rx2 Rx3 hZ hw
set_option maxHeartbeats 4000000 in
set_option maxRecDepth 100000 in
theorem rm_writeString (l : Launch) (d : gD) (b : Nat) {t : Nat} {T : Nat → Nat} {F : gM} {s0 : zS} {a0 : Int} (Ra0 : zR a0) {Q : zS → Prop} (hZ : zZ d t T F F s0) (hw : wr_writeString s0 a0 Q) : gMv l d b yX12_writeString cX12_writeString 4 1 0 0 F [.ref t, .int (zI a0)] (zPv d t T F Q) := by
  refine gM_of2 rfl (nL := 4) (Nat.le_of_ble_eq_true rfl) ?_
  intro X hX hC; subst hX
  show gG X d b (zQv X d b t T F Q) F 0 0 0 [some (.ref t), some (.int (zI a0)), none, none] []
  unfold wr_writeString at hw
  refine g_iload_n hC dX12_writeString_0 rfl ?_
  refine zr_if_lt (tgt := 12) hC Ra0 dX12_writeString_1 (by decide) (fun c1 => ?_) (fun c1 => ?_)
  · have h2 := hw.1 c1
    refine g_aload_n hC dX12_writeString_12 rfl ?_
    refine g_iconst (v := zI 2) hC dX12_writeString_13 rfl ?_
    refine zr_callVv (As := [.int (zI 2)]) hC hZ rfl (rm_err X.la d b (by decide) hZ.rf h2) cl_X12_792 rfl rfl (Nat.le_of_ble_eq_true rfl) ⟨Nat.le_of_ble_eq_true rfl, Nat.le_of_ble_eq_true rfl⟩ dX12_writeString_14 (fun s4 F5 hZ7 h8 => ?_)
    exact zr_vret hC hZ7 h8 dX12_writeString_17
  · have h9 := hw.2 c1
    refine g_iload_n hC dX12_writeString_4 rfl ?_
    refine g_aload_n hC dX12_writeString_5 rfl ?_
    refine zr_get (e := (zv s0 99)) hC hZ fl_X12_315 zb_99 (by decide) rfl dX12_writeString_6 ?_
    refine zr_icmp_lt (tgt := 18) hC Ra0 (hZ.rv 99) dX12_writeString_9 (by decide) (fun c10 => ?_) (fun c10 => ?_)
    · have h11 := h9.1 c10
      refine g_aload_n hC dX12_writeString_18 rfl ?_
      refine zr_geta hC hZ fl_X12_312 zb_98 (by decide) dX12_writeString_19 ?_
      refine g_iload_n hC dX12_writeString_22 rfl ?_
      obtain ⟨o12, h13⟩ := h11
      obtain ⟨o14, h15⟩ := h13
      refine zr_iald (v := (za s0 98 (Int.toNat a0))) hC hZ zk_98 zb_98 zn_98 (by decide) o12 o14 rfl dX12_writeString_23 ?_
      refine g_sipush (v := zI 255) hC dX12_writeString_24 rfl ?_
      refine zr_iand hC dX12_writeString_27 ?_
      refine g_istore_n (lv' := [some (.ref t), some (.int (zI a0)), some (.int (zI (zan (za s0 98 (Int.toNat a0)) 255))), none]) hC dX12_writeString_28 (Nat.le_of_ble_eq_true rfl) rfl rfl ?_
      refine g_iload_n hC dX12_writeString_29 rfl ?_
      refine zr_i2l hC dX12_writeString_30 Ra0 ?_
      refine g_iload_n hC dX12_writeString_31 rfl ?_
      refine g_iconst (v := zI 4) hC dX12_writeString_32 rfl ?_
      refine zr_idiv hC dX12_writeString_33 (by decide) (by decide) ?_
      refine zr_i2l hC dX12_writeString_34 (zR_t _) ?_
      refine zr_ladd hC dX12_writeString_35 ?_
      refine g_aload_n hC dX12_writeString_36 rfl ?_
      refine zr_get (e := (zv s0 99)) hC hZ fl_X12_315 zb_99 (by decide) rfl dX12_writeString_37 ?_
      refine zr_i2l hC dX12_writeString_40 (hZ.rv 99) ?_
      refine g_lcmp hC dX12_writeString_41 ?_
      obtain ⟨o16, h17⟩ := h15
      refine zr_lif_lt (tgt := 51) hC o16 (zR_L (hZ.rv 99)) dX12_writeString_42 (by decide) (fun c18 => ?_) (fun c18 => ?_)
      · have h19 := h17.1 c18
        refine g_aload_n hC dX12_writeString_51 rfl ?_
        refine zr_geta hC hZ fl_X12_366 zb_116 (by decide) dX12_writeString_52 ?_
        refine g_aload_n hC dX12_writeString_55 rfl ?_
        refine zr_get (e := (zv s0 117)) hC hZ fl_X12_369 zb_117 (by decide) rfl dX12_writeString_56 ?_
        obtain ⟨o20, h21⟩ := h19
        obtain ⟨o22, h23⟩ := h21
        refine zr_iald (v := (za s0 116 (Int.toNat (zv s0 117)))) hC hZ zk_116 zb_116 zn_116 (by decide) o20 o22 rfl dX12_writeString_59 ?_
        refine g_sipush (v := zI 4096) hC dX12_writeString_60 rfl ?_
        refine zr_icmp_ne (tgt := 67) hC (hZ.ra 116 _) (by decide) dX12_writeString_63 (by decide) (fun c24 => ?_) (fun c24 => ?_)
        · have h25 := h23.1 c24
          refine g_iconst (v := zI 1) hC dX12_writeString_67 rfl ?_
          refine g_istore_n (lv' := [some (.ref t), some (.int (zI a0)), some (.int (zI (zan (za s0 98 (Int.toNat a0)) 255))), some (.int (zI 1))]) hC dX12_writeString_68 (Nat.le_of_ble_eq_true rfl) rfl rfl ?_
          obtain ⟨m26, h27⟩ := h25
          exact rl_writeString_69 hC  m26 _ _ _ _ _ Ra0 (zR_t _) (by decide) hZ h27
        · have h28 := h23.2 c24
          exact zr_vret hC hZ h28 dX12_writeString_66
      · have h29 := h17.2 c18
        refine g_aload_n hC dX12_writeString_45 rfl ?_
        refine g_iconst (v := zI 2) hC dX12_writeString_46 rfl ?_
        refine zr_callVv (As := [.int (zI 2)]) hC hZ rfl (rm_err X.la d b (by decide) hZ.rf h29) cl_X12_792 rfl rfl (Nat.le_of_ble_eq_true rfl) ⟨Nat.le_of_ble_eq_true rfl, Nat.le_of_ble_eq_true rfl⟩ dX12_writeString_47 (fun s31 F32 hZ34 h35 => ?_)
        exact zr_vret hC hZ34 h35 dX12_writeString_50
    · have h36 := h9.2 c10
      refine g_aload_n hC dX12_writeString_12 rfl ?_
      refine g_iconst (v := zI 2) hC dX12_writeString_13 rfl ?_
      refine zr_callVv (As := [.int (zI 2)]) hC hZ rfl (rm_err X.la d b (by decide) hZ.rf h36) cl_X12_792 rfl rfl (Nat.le_of_ble_eq_true rfl) ⟨Nat.le_of_ble_eq_true rfl, Nat.le_of_ble_eq_true rfl⟩ dX12_writeString_14 (fun s38 F39 hZ41 h42 => ?_)
      exact zr_vret hC hZ41 h42 dX12_writeString_17
theorem dX12_nextByte_0 : decode cX12_nextByte 0 = .ok (.aload_n 0, 1) := by decide +kernel
theorem dX12_nextByte_1 : decode cX12_nextByte 1 = .ok (.getfield 360, 3) := by decide +kernel
theorem dX12_nextByte_4 : decode cX12_nextByte 4 = .ok (.istore_n 1, 1) := by decide +kernel
theorem dX12_nextByte_5 : decode cX12_nextByte 5 = .ok (.aload_n 0, 1) := by decide +kernel
theorem dX12_nextByte_6 : decode cX12_nextByte 6 = .ok (.getfield 357, 3) := by decide +kernel
theorem dX12_nextByte_9 : decode cX12_nextByte 9 = .ok (.iload_n 1, 1) := by decide +kernel
theorem dX12_nextByte_10 : decode cX12_nextByte 10 = .ok (.iaload, 1) := by decide +kernel
theorem dX12_nextByte_11 : decode cX12_nextByte 11 = .ok (.aload_n 0, 1) := by decide +kernel
theorem dX12_nextByte_12 : decode cX12_nextByte 12 = .ok (.getfield 354, 3) := by decide +kernel
theorem dX12_nextByte_15 : decode cX12_nextByte 15 = .ok (.iload_n 1, 1) := by decide +kernel
theorem dX12_nextByte_16 : decode cX12_nextByte 16 = .ok (.iaload, 1) := by decide +kernel
theorem dX12_nextByte_17 : decode cX12_nextByte 17 = .ok (.if_icmp .ne 5, 3) := by decide +kernel
theorem dX12_nextByte_20 : decode cX12_nextByte 20 = .ok (.iconst (-1), 1) := by decide +kernel
theorem dX12_nextByte_21 : decode cX12_nextByte 21 = .ok (.ireturn, 1) := by decide +kernel
theorem dX12_nextByte_22 : decode cX12_nextByte 22 = .ok (.aload_n 0, 1) := by decide +kernel
theorem dX12_nextByte_23 : decode cX12_nextByte 23 = .ok (.getfield 357, 3) := by decide +kernel
theorem dX12_nextByte_26 : decode cX12_nextByte 26 = .ok (.iload_n 1, 1) := by decide +kernel
theorem dX12_nextByte_27 : decode cX12_nextByte 27 = .ok (.dup2, 1) := by decide +kernel
theorem dX12_nextByte_28 : decode cX12_nextByte 28 = .ok (.iaload, 1) := by decide +kernel
theorem dX12_nextByte_29 : decode cX12_nextByte 29 = .ok (.iconst 1, 1) := by decide +kernel
theorem dX12_nextByte_30 : decode cX12_nextByte 30 = .ok (.iadd, 1) := by decide +kernel
theorem dX12_nextByte_31 : decode cX12_nextByte 31 = .ok (.iastore, 1) := by decide +kernel
theorem dX12_nextByte_32 : decode cX12_nextByte 32 = .ok (.aload_n 0, 1) := by decide +kernel
theorem dX12_nextByte_33 : decode cX12_nextByte 33 = .ok (.getfield 345, 3) := by decide +kernel
theorem dX12_nextByte_36 : decode cX12_nextByte 36 = .ok (.sipush 6000, 3) := by decide +kernel
theorem dX12_nextByte_39 : decode cX12_nextByte 39 = .ok (.iload_n 1, 1) := by decide +kernel
theorem dX12_nextByte_40 : decode cX12_nextByte 40 = .ok (.imul, 1) := by decide +kernel
theorem dX12_nextByte_41 : decode cX12_nextByte 41 = .ok (.aload_n 0, 1) := by decide +kernel
theorem dX12_nextByte_42 : decode cX12_nextByte 42 = .ok (.getfield 357, 3) := by decide +kernel
theorem dX12_nextByte_45 : decode cX12_nextByte 45 = .ok (.iload_n 1, 1) := by decide +kernel
theorem dX12_nextByte_46 : decode cX12_nextByte 46 = .ok (.iaload, 1) := by decide +kernel
theorem dX12_nextByte_47 : decode cX12_nextByte 47 = .ok (.iadd, 1) := by decide +kernel
theorem dX12_nextByte_48 : decode cX12_nextByte 48 = .ok (.iconst 1, 1) := by decide +kernel
theorem dX12_nextByte_49 : decode cX12_nextByte 49 = .ok (.isub, 1) := by decide +kernel
theorem dX12_nextByte_50 : decode cX12_nextByte 50 = .ok (.baload, 1) := by decide +kernel
theorem dX12_nextByte_51 : decode cX12_nextByte 51 = .ok (.sipush 255, 3) := by decide +kernel
theorem dX12_nextByte_54 : decode cX12_nextByte 54 = .ok (.iand, 1) := by decide +kernel
theorem dX12_nextByte_55 : decode cX12_nextByte 55 = .ok (.ireturn, 1) := by decide +kernel
def wr_nextByte (s0 : zS)  (Q : Int → zS → Prop) : Prop :=
  (0 ≤ (zv s0 114)) ∧ ((zv s0 114) < 4) ∧ (0 ≤ (zv s0 114)) ∧ ((zv s0 114) < 4) ∧ ((¬ (za s0 113 (Int.toNat (zv s0 114))) = (za s0 112 (Int.toNat (zv s0 114))) → (0 ≤ (zv s0 114)) ∧ ((zv s0 114) < 4) ∧ (0 ≤ (zv s0 114)) ∧ ((zv s0 114) < 4) ∧ (zR ((za s0 113 (Int.toNat (zv s0 114))) + 1)) ∧ (0 ≤ (zv s0 114)) ∧ ((zv s0 114) < 4) ∧ (0 ≤ (((6000 * (zv s0 114)) + ((za s0 113 (Int.toNat (zv s0 114))) + 1)) - 1)) ∧ ((((6000 * (zv s0 114)) + ((za s0 113 (Int.toNat (zv s0 114))) + 1)) - 1) < 24000) ∧ Q (zan (za s0 109 (Int.toNat (((6000 * (zv s0 114)) + ((za s0 113 (Int.toNat (zv s0 114))) + 1)) - 1))) 255) (zpa s0 113 (Int.toNat (zv s0 114)) ((za s0 113 (Int.toNat (zv s0 114))) + 1))) ∧ ((za s0 113 (Int.toNat (zv s0 114))) = (za s0 112 (Int.toNat (zv s0 114))) → Q (-1) s0))
set_option maxHeartbeats 4000000 in
set_option maxRecDepth 100000 in
theorem rm_nextByte (l : Launch) (d : gD) (b : Nat) {t : Nat} {T : Nat → Nat} {F : gM} {s0 : zS}   {Q : Int → zS → Prop} (hZ : zZ d t T F F s0) (hw : wr_nextByte s0  Q) : gMi l d b yX12_nextByte cX12_nextByte 2 .int 0 0 0 F [.ref t] (zPi d t T F Q) := by
  refine gM_of2 rfl (nL := 2) (Nat.le_of_ble_eq_true rfl) ?_
  intro X hX hC; subst hX
  show gG X d b (zQi X d b t T F Q) F 0 0 0 [some (.ref t), none] []
  unfold wr_nextByte at hw
  refine g_aload_n hC dX12_nextByte_0 rfl ?_
  refine zr_get (e := (zv s0 114)) hC hZ fl_X12_360 zb_114 (by decide) rfl dX12_nextByte_1 ?_
  refine g_istore_n (lv' := [some (.ref t), some (.int (zI (zv s0 114)))]) hC dX12_nextByte_4 (Nat.le_of_ble_eq_true rfl) rfl rfl ?_
  refine g_aload_n hC dX12_nextByte_5 rfl ?_
  refine zr_geta hC hZ fl_X12_357 zb_113 (by decide) dX12_nextByte_6 ?_
  refine g_iload_n hC dX12_nextByte_9 rfl ?_
  obtain ⟨o1, h2⟩ := hw
  obtain ⟨o3, h4⟩ := h2
  refine zr_iald (v := (za s0 113 (Int.toNat (zv s0 114)))) hC hZ zk_113 zb_113 zn_113 (by decide) o1 o3 rfl dX12_nextByte_10 ?_
  refine g_aload_n hC dX12_nextByte_11 rfl ?_
  refine zr_geta hC hZ fl_X12_354 zb_112 (by decide) dX12_nextByte_12 ?_
  refine g_iload_n hC dX12_nextByte_15 rfl ?_
  obtain ⟨o5, h6⟩ := h4
  obtain ⟨o7, h8⟩ := h6
  refine zr_iald (v := (za s0 112 (Int.toNat (zv s0 114)))) hC hZ zk_112 zb_112 zn_112 (by decide) o5 o7 rfl dX12_nextByte_16 ?_
  refine zr_icmp_ne (tgt := 22) hC (hZ.ra 113 _) (hZ.ra 112 _) dX12_nextByte_17 (by decide) (fun c9 => ?_) (fun c9 => ?_)
  · have h10 := h8.1 c9
    refine g_aload_n hC dX12_nextByte_22 rfl ?_
    refine zr_geta hC hZ fl_X12_357 zb_113 (by decide) dX12_nextByte_23 ?_
    refine g_iload_n hC dX12_nextByte_26 rfl ?_
    refine g_dup2 hC dX12_nextByte_27 rfl rfl ?_
    obtain ⟨o11, h12⟩ := h10
    obtain ⟨o13, h14⟩ := h12
    refine zr_iald (v := (za s0 113 (Int.toNat (zv s0 114)))) hC hZ zk_113 zb_113 zn_113 (by decide) o11 o13 rfl dX12_nextByte_28 ?_
    refine g_iconst (v := zI 1) hC dX12_nextByte_29 rfl ?_
    refine zr_iadd hC dX12_nextByte_30 ?_
    obtain ⟨o15, h16⟩ := h14
    obtain ⟨o17, h18⟩ := h16
    obtain ⟨o19, h20⟩ := h18
    refine zr_iast hC hZ zk_113 zb_113 zn_113 (by decide) o15 o17 o19 dX12_nextByte_31 (fun F21 hZ22 => ?_)
    refine g_aload_n hC dX12_nextByte_32 rfl ?_
    refine zr_geta hC hZ22 fl_X12_345 zb_109 (by decide) dX12_nextByte_33 ?_
    refine g_sipush (v := zI 6000) hC dX12_nextByte_36 rfl ?_
    refine g_iload_n hC dX12_nextByte_39 rfl ?_
    refine zr_imul hC dX12_nextByte_40 ?_
    refine g_aload_n hC dX12_nextByte_41 rfl ?_
    refine zr_geta hC hZ22 fl_X12_357 zb_113 (by decide) dX12_nextByte_42 ?_
    refine g_iload_n hC dX12_nextByte_45 rfl ?_
    obtain ⟨o23, h24⟩ := h20
    obtain ⟨o25, h26⟩ := h24
    refine zr_iald (v := ((za s0 113 (Int.toNat (zv s0 114))) + 1)) hC hZ22 zk_113 zb_113 zn_113 (by decide) o23 o25 (za_self s0 113 (Int.toNat (zv s0 114)) ((za s0 113 (Int.toNat (zv s0 114))) + 1)) dX12_nextByte_46 ?_
    refine zr_iadd hC dX12_nextByte_47 ?_
    refine g_iconst (v := zI 1) hC dX12_nextByte_48 rfl ?_
    refine zr_isub hC dX12_nextByte_49 ?_
    obtain ⟨o27, h28⟩ := h26
    obtain ⟨o29, h30⟩ := h28
    refine zr_bald (v := (za s0 109 (Int.toNat (((6000 * (zv s0 114)) + ((za s0 113 (Int.toNat (zv s0 114))) + 1)) - 1)))) hC hZ22 zk_109 zb_109 zn_109 (by decide) o27 o29 rfl dX12_nextByte_50 ?_
    refine g_sipush (v := zI 255) hC dX12_nextByte_51 rfl ?_
    refine zr_iand hC dX12_nextByte_54 ?_
    exact zr_iret hC hZ22 (zR_t _) h30 dX12_nextByte_55
  · have h31 := h8.2 c9
    refine g_iconst (v := zI (-1)) hC dX12_nextByte_20 rfl ?_
    exact zr_iret hC hZ (by decide) h31 dX12_nextByte_21
theorem dX12_layVector_0 : decode cX12_layVector 0 = .ok (.lload_n 2, 1) := by decide +kernel
theorem dX12_layVector_1 : decode cX12_layVector 1 = .ok (.iload 6, 2) := by decide +kernel
theorem dX12_layVector_3 : decode cX12_layVector 3 = .ok (.i2l, 1) := by decide +kernel
theorem dX12_layVector_4 : decode cX12_layVector 4 = .ok (.lcmp, 1) := by decide +kernel
theorem dX12_layVector_5 : decode cX12_layVector 5 = .ok (.ifCond .ge 5, 3) := by decide +kernel
theorem dX12_layVector_8 : decode cX12_layVector 8 = .ok (.iconst 0, 1) := by decide +kernel
theorem dX12_layVector_9 : decode cX12_layVector 9 = .ok (.ireturn, 1) := by decide +kernel
theorem dX12_layVector_10 : decode cX12_layVector 10 = .ok (.aload_n 0, 1) := by decide +kernel
theorem dX12_layVector_11 : decode cX12_layVector 11 = .ok (.getfield 336, 3) := by decide +kernel
theorem dX12_layVector_14 : decode cX12_layVector 14 = .ok (.istore 7, 2) := by decide +kernel
theorem dX12_layVector_16 : decode cX12_layVector 16 = .ok (.iload 7, 2) := by decide +kernel
theorem dX12_layVector_18 : decode cX12_layVector 18 = .ok (.iload_n 1, 1) := by decide +kernel
theorem dX12_layVector_19 : decode cX12_layVector 19 = .ok (.if_icmp .le 41, 3) := by decide +kernel
theorem dX12_layVector_22 : decode cX12_layVector 22 = .ok (.aload_n 0, 1) := by decide +kernel
theorem dX12_layVector_23 : decode cX12_layVector 23 = .ok (.getfield 339, 3) := by decide +kernel
theorem dX12_layVector_26 : decode cX12_layVector 26 = .ok (.iload 7, 2) := by decide +kernel
theorem dX12_layVector_28 : decode cX12_layVector 28 = .ok (.aload_n 0, 1) := by decide +kernel
theorem dX12_layVector_29 : decode cX12_layVector 29 = .ok (.getfield 339, 3) := by decide +kernel
theorem dX12_layVector_32 : decode cX12_layVector 32 = .ok (.iload 7, 2) := by decide +kernel
theorem dX12_layVector_34 : decode cX12_layVector 34 = .ok (.iconst 1, 1) := by decide +kernel
theorem dX12_layVector_35 : decode cX12_layVector 35 = .ok (.isub, 1) := by decide +kernel
theorem dX12_layVector_36 : decode cX12_layVector 36 = .ok (.iaload, 1) := by decide +kernel
theorem dX12_layVector_37 : decode cX12_layVector 37 = .ok (.iastore, 1) := by decide +kernel
theorem dX12_layVector_38 : decode cX12_layVector 38 = .ok (.aload_n 0, 1) := by decide +kernel
theorem dX12_layVector_39 : decode cX12_layVector 39 = .ok (.getfield 342, 3) := by decide +kernel
theorem dX12_layVector_42 : decode cX12_layVector 42 = .ok (.iload 7, 2) := by decide +kernel
theorem dX12_layVector_44 : decode cX12_layVector 44 = .ok (.aload_n 0, 1) := by decide +kernel
theorem dX12_layVector_45 : decode cX12_layVector 45 = .ok (.getfield 342, 3) := by decide +kernel
theorem dX12_layVector_48 : decode cX12_layVector 48 = .ok (.iload 7, 2) := by decide +kernel
theorem dX12_layVector_50 : decode cX12_layVector 50 = .ok (.iconst 1, 1) := by decide +kernel
theorem dX12_layVector_51 : decode cX12_layVector 51 = .ok (.isub, 1) := by decide +kernel
theorem dX12_layVector_52 : decode cX12_layVector 52 = .ok (.iaload, 1) := by decide +kernel
theorem dX12_layVector_53 : decode cX12_layVector 53 = .ok (.iastore, 1) := by decide +kernel
theorem dX12_layVector_54 : decode cX12_layVector 54 = .ok (.iinc 7 (-1), 3) := by decide +kernel
theorem dX12_layVector_57 : decode cX12_layVector 57 = .ok (.goto (-41), 3) := by decide +kernel
theorem dX12_layVector_60 : decode cX12_layVector 60 = .ok (.aload_n 0, 1) := by decide +kernel
theorem dX12_layVector_61 : decode cX12_layVector 61 = .ok (.getfield 339, 3) := by decide +kernel
theorem dX12_layVector_64 : decode cX12_layVector 64 = .ok (.iload_n 1, 1) := by decide +kernel
theorem dX12_layVector_65 : decode cX12_layVector 65 = .ok (.lload_n 2, 1) := by decide +kernel
theorem dX12_layVector_66 : decode cX12_layVector 66 = .ok (.l2i, 1) := by decide +kernel
theorem dX12_layVector_67 : decode cX12_layVector 67 = .ok (.iastore, 1) := by decide +kernel
theorem dX12_layVector_68 : decode cX12_layVector 68 = .ok (.aload_n 0, 1) := by decide +kernel
theorem dX12_layVector_69 : decode cX12_layVector 69 = .ok (.getfield 342, 3) := by decide +kernel
theorem dX12_layVector_72 : decode cX12_layVector 72 = .ok (.iload_n 1, 1) := by decide +kernel
theorem dX12_layVector_73 : decode cX12_layVector 73 = .ok (.lload 4, 2) := by decide +kernel
theorem dX12_layVector_75 : decode cX12_layVector 75 = .ok (.l2i, 1) := by decide +kernel
theorem dX12_layVector_76 : decode cX12_layVector 76 = .ok (.iastore, 1) := by decide +kernel
theorem dX12_layVector_77 : decode cX12_layVector 77 = .ok (.aload_n 0, 1) := by decide +kernel
theorem dX12_layVector_78 : decode cX12_layVector 78 = .ok (.dup, 1) := by decide +kernel
theorem dX12_layVector_79 : decode cX12_layVector 79 = .ok (.getfield 336, 3) := by decide +kernel
theorem dX12_layVector_82 : decode cX12_layVector 82 = .ok (.iconst 1, 1) := by decide +kernel
theorem dX12_layVector_83 : decode cX12_layVector 83 = .ok (.iadd, 1) := by decide +kernel
theorem dX12_layVector_84 : decode cX12_layVector 84 = .ok (.putfield 336, 3) := by decide +kernel
theorem dX12_layVector_87 : decode cX12_layVector 87 = .ok (.lload_n 2, 1) := by decide +kernel
theorem dX12_layVector_88 : decode cX12_layVector 88 = .ok (.l2i, 1) := by decide +kernel
theorem dX12_layVector_89 : decode cX12_layVector 89 = .ok (.ireturn, 1) := by decide +kernel
def wr_layVector_16B (Q : Int → zS → Prop) (k16 : zS → Int → Int → Int → Int → Prop) (s0 : zS) (x1 : Int) (x2 : Int) (x4 : Int) (x7 : Int) : Prop :=
  ((x7 ≤ x1 → (0 ≤ x1) ∧ (x1 < 100) ∧ (zR x2) ∧ (0 ≤ x1) ∧ (x1 < 100) ∧ (zR x4) ∧ (zR ((zv s0 106) + 1)) ∧ Q x2 (zpv (zpa (zpa s0 107 (Int.toNat x1) x2) 108 (Int.toNat x1) x4) 106 ((zv s0 106) + 1))) ∧ (¬ x7 ≤ x1 → (0 ≤ (x7 - 1)) ∧ ((x7 - 1) < 100) ∧ (0 ≤ x7) ∧ (x7 < 100) ∧ (0 ≤ (x7 - 1)) ∧ ((x7 - 1) < 100) ∧ (0 ≤ x7) ∧ (x7 < 100) ∧ (zR (x7 + (-1))) ∧ k16 (zpa (zpa s0 107 (Int.toNat x7) (za s0 107 (Int.toNat (x7 - 1)))) 108 (Int.toNat x7) (za s0 108 (Int.toNat (x7 - 1)))) x1 x2 x4 (x7 + (-1))))
def wr_layVector_16 (Q : Int → zS → Prop)  : Nat → zS → Int → Int → Int → Int → Prop
  | 0 => fun _ _ _ _ _ => False
  | m + 1 => fun s0 x1 x2 x4 x7 => wr_layVector_16B Q  (wr_layVector_16 Q  m) s0 x1 x2 x4 x7
def wr_layVector (s0 : zS) (a0 : Int) (a1 : Int) (a2 : Int) (a3 : Int) (Q : Int → zS → Prop) : Prop :=
  ((a3 ≤ a1 → ∃ n, wr_layVector_16 Q  n s0 a0 a1 a2 (zv s0 106)) ∧ (¬ a3 ≤ a1 → Q 0 s0))
set_option maxHeartbeats 4000000 in
set_option maxRecDepth 100000 in
theorem rb_layVector_16 {X : gX} {d : gD} {b t : Nat} {T : Nat → Nat} {F0 : gM} (hC : gC RX12 cX12_layVector 8 (some .int) "layVector" (gR 0 0 0) d b X) {Q : Int → zS → Prop} {k16 : zS → Int → Int → Int → Int → Prop} (hk16 : ∀ (F : gM) (s0 : zS) (x1 : Int) (x2 : Int) (x4 : Int) (x7 : Int), zR x1 → zL x2 → zL x4 → zR x7 → zZ d t T F0 F s0 → k16 s0 x1 x2 x4 x7 → gG X d b (zQi X d b t T F0 Q) F 0 0 16 [some (.ref t), some (.int (zI x1)), some (.long (zJ x2)), none, some (.long (zJ x4)), none, none, some (.int (zI x7))] []) {F : gM} {s0 : zS} {x1 : Int} {x2 : Int} {x4 : Int} {x7 : Int} (Rx1 : zR x1) (Rx2 : zL x2) (Rx4 : zL x4) (Rx7 : zR x7) (hZ : zZ d t T F0 F s0) (hw : wr_layVector_16B Q k16 s0 x1 x2 x4 x7) : gG X d b (zQi X d b t T F0 Q) F 0 0 16 [some (.ref t), some (.int (zI x1)), some (.long (zJ x2)), none, some (.long (zJ x4)), none, none, some (.int (zI x7))] [] := by
  unfold wr_layVector_16B at hw
  refine g_iload hC dX12_layVector_16 rfl ?_
  refine g_iload_n hC dX12_layVector_18 rfl ?_
  refine zr_icmp_le (tgt := 60) hC Rx7 Rx1 dX12_layVector_19 (by decide) (fun c1 => ?_) (fun c1 => ?_)
  · have h2 := hw.1 c1
    refine g_aload_n hC dX12_layVector_60 rfl ?_
    refine zr_geta hC hZ fl_X12_339 zb_107 (by decide) dX12_layVector_61 ?_
    refine g_iload_n hC dX12_layVector_64 rfl ?_
    refine g_lload_n hC dX12_layVector_65 rfl ?_
    refine zr_l2i hC dX12_layVector_66 ?_
    obtain ⟨o3, h4⟩ := h2
    obtain ⟨o5, h6⟩ := h4
    obtain ⟨o7, h8⟩ := h6
    refine zr_iast hC hZ zk_107 zb_107 zn_107 (by decide) o3 o5 o7 dX12_layVector_67 (fun F9 hZ10 => ?_)
    refine g_aload_n hC dX12_layVector_68 rfl ?_
    refine zr_geta hC hZ10 fl_X12_342 zb_108 (by decide) dX12_layVector_69 ?_
    refine g_iload_n hC dX12_layVector_72 rfl ?_
    refine g_lload hC dX12_layVector_73 rfl ?_
    refine zr_l2i hC dX12_layVector_75 ?_
    obtain ⟨o11, h12⟩ := h8
    obtain ⟨o13, h14⟩ := h12
    obtain ⟨o15, h16⟩ := h14
    refine zr_iast hC hZ10 zk_108 zb_108 zn_108 (by decide) o11 o13 o15 dX12_layVector_76 (fun F17 hZ18 => ?_)
    refine g_aload_n hC dX12_layVector_77 rfl ?_
    refine g_dup hC dX12_layVector_78 rfl ?_
    refine zr_get (e := (zv s0 106)) hC hZ18 fl_X12_336 zb_106 (by decide) rfl dX12_layVector_79 ?_
    refine g_iconst (v := zI 1) hC dX12_layVector_82 rfl ?_
    refine zr_iadd hC dX12_layVector_83 ?_
    obtain ⟨o19, h20⟩ := h16
    refine zr_put hC hZ18 fl_X12_336 zb_106 (by decide) o19 dX12_layVector_84 (fun F21 hZ22 => ?_)
    refine g_lload_n hC dX12_layVector_87 rfl ?_
    refine zr_l2i hC dX12_layVector_88 ?_
    exact zr_iret hC hZ22 o7 h20 dX12_layVector_89
  · have h23 := hw.2 c1
    refine g_aload_n hC dX12_layVector_22 rfl ?_
    refine zr_geta hC hZ fl_X12_339 zb_107 (by decide) dX12_layVector_23 ?_
    refine g_iload hC dX12_layVector_26 rfl ?_
    refine g_aload_n hC dX12_layVector_28 rfl ?_
    refine zr_geta hC hZ fl_X12_339 zb_107 (by decide) dX12_layVector_29 ?_
    refine g_iload hC dX12_layVector_32 rfl ?_
    refine g_iconst (v := zI 1) hC dX12_layVector_34 rfl ?_
    refine zr_isub hC dX12_layVector_35 ?_
    obtain ⟨o24, h25⟩ := h23
    obtain ⟨o26, h27⟩ := h25
    refine zr_iald (v := (za s0 107 (Int.toNat (x7 - 1)))) hC hZ zk_107 zb_107 zn_107 (by decide) o24 o26 rfl dX12_layVector_36 ?_
    obtain ⟨o28, h29⟩ := h27
    obtain ⟨o30, h31⟩ := h29
    refine zr_iast hC hZ zk_107 zb_107 zn_107 (by decide) o28 o30 (hZ.ra 107 _) dX12_layVector_37 (fun F32 hZ33 => ?_)
    refine g_aload_n hC dX12_layVector_38 rfl ?_
    refine zr_geta hC hZ33 fl_X12_342 zb_108 (by decide) dX12_layVector_39 ?_
    refine g_iload hC dX12_layVector_42 rfl ?_
    refine g_aload_n hC dX12_layVector_44 rfl ?_
    refine zr_geta hC hZ33 fl_X12_342 zb_108 (by decide) dX12_layVector_45 ?_
    refine g_iload hC dX12_layVector_48 rfl ?_
    refine g_iconst (v := zI 1) hC dX12_layVector_50 rfl ?_
    refine zr_isub hC dX12_layVector_51 ?_
    obtain ⟨o34, h35⟩ := h31
    obtain ⟨o36, h37⟩ := h35
    refine zr_iald (v := (za s0 108 (Int.toNat (x7 - 1)))) hC hZ33 zk_108 zb_108 zn_108 (by decide) o34 o36 rfl dX12_layVector_52 ?_
    obtain ⟨o38, h39⟩ := h37
    obtain ⟨o40, h41⟩ := h39
    refine zr_iast hC hZ33 zk_108 zb_108 zn_108 (by decide) o38 o40 (hZ.ra 108 _) dX12_layVector_53 (fun F42 hZ43 => ?_)
    refine zr_iinc (x := x7) (lv' := [some (.ref t), some (.int (zI x1)), some (.long (zJ x2)), none, some (.long (zJ x4)), none, none, some (.int (zI (x7 + (-1))))]) hC dX12_layVector_54 rfl rfl rfl ?_
    refine g_goto (tgt := 16) hC dX12_layVector_57 (by decide) ?_
    obtain ⟨o44, h45⟩ := h41
    exact hk16 _ _ _ _ _ _ Rx1 Rx2 Rx4 o44 hZ43 h45
theorem rl_layVector_16 {X : gX} {d : gD} {b t : Nat} {T : Nat → Nat} {F0 : gM} (hC : gC RX12 cX12_layVector 8 (some .int) "layVector" (gR 0 0 0) d b X) {Q : Int → zS → Prop}   : ∀ (m : Nat) (F : gM) (s0 : zS) (x1 : Int) (x2 : Int) (x4 : Int) (x7 : Int), zR x1 → zL x2 → zL x4 → zR x7 → zZ d t T F0 F s0 → wr_layVector_16 Q  m s0 x1 x2 x4 x7 → gG X d b (zQi X d b t T F0 Q) F 0 0 16 [some (.ref t), some (.int (zI x1)), some (.long (zJ x2)), none, some (.long (zJ x4)), none, none, some (.int (zI x7))] [] := by
  intro m
  induction m with
  | zero => intro F s0 x1 x2 x4 x7 Rx1 Rx2 Rx4 Rx7 hZ hw; exact False.elim hw
  | succ m ih => intro F s0 x1 x2 x4 x7 Rx1 Rx2 Rx4 Rx7 hZ hw; exact rb_layVector_16 hC  ih Rx1 Rx2 Rx4 Rx7 hZ hw
set_option maxHeartbeats 4000000 in
set_option maxRecDepth 100000 in
theorem rm_layVector (l : Launch) (d : gD) (b : Nat) {t : Nat} {T : Nat → Nat} {F : gM} {s0 : zS} {a0 : Int} {a1 : Int} {a2 : Int} {a3 : Int} (Ra0 : zR a0) (Ra1 : zL a1) (Ra2 : zL a2) (Ra3 : zR a3) {Q : Int → zS → Prop} (hZ : zZ d t T F F s0) (hw : wr_layVector s0 a0 a1 a2 a3 Q) : gMi l d b yX12_layVector cX12_layVector 8 .int 0 0 0 F [.ref t, .int (zI a0), .long (zJ a1), .long (zJ a2), .int (zI a3)] (zPi d t T F Q) := by
  refine gM_of2 rfl (nL := 8) (Nat.le_of_ble_eq_true rfl) ?_
  intro X hX hC; subst hX
  show gG X d b (zQi X d b t T F Q) F 0 0 0 [some (.ref t), some (.int (zI a0)), some (.long (zJ a1)), none, some (.long (zJ a2)), none, some (.int (zI a3)), none] []
  unfold wr_layVector at hw
  refine g_lload_n hC dX12_layVector_0 rfl ?_
  refine g_iload hC dX12_layVector_1 rfl ?_
  refine zr_i2l hC dX12_layVector_3 Ra3 ?_
  refine g_lcmp hC dX12_layVector_4 ?_
  refine zr_lif_ge (tgt := 10) hC Ra1 (zR_L Ra3) dX12_layVector_5 (by decide) (fun c1 => ?_) (fun c1 => ?_)
  · have h2 := hw.1 c1
    refine g_aload_n hC dX12_layVector_10 rfl ?_
    refine zr_get (e := (zv s0 106)) hC hZ fl_X12_336 zb_106 (by decide) rfl dX12_layVector_11 ?_
    refine g_istore (lv' := [some (.ref t), some (.int (zI a0)), some (.long (zJ a1)), none, some (.long (zJ a2)), none, some (.int (zI a3)), some (.int (zI (zv s0 106)))]) hC dX12_layVector_14 (Nat.le_of_ble_eq_true rfl) rfl rfl ?_
    refine g_lv (lv' := [some (.ref t), some (.int (zI a0)), some (.long (zJ a1)), none, some (.long (zJ a2)), none, none, some (.int (zI (zv s0 106)))]) ⟨rfl, rfl, rfl, rfl, rfl, trivial⟩ ?_
    obtain ⟨m3, h4⟩ := h2
    exact rl_layVector_16 hC  m3 _ _ _ _ _ _ Ra0 Ra1 Ra2 (hZ.rv 106) hZ h4
  · have h5 := hw.2 c1
    refine g_iconst (v := zI 0) hC dX12_layVector_8 rfl ?_
    exact zr_iret hC hZ (by decide) h5 dX12_layVector_9
theorem dX12_getVector_0 : decode cX12_getVector 0 = .ok (.iload_n 1, 1) := by decide +kernel
theorem dX12_getVector_1 : decode cX12_getVector 1 = .ok (.ifCond .lt 12, 3) := by decide +kernel
theorem dX12_getVector_4 : decode cX12_getVector 4 = .ok (.aload_n 0, 1) := by decide +kernel
theorem dX12_getVector_5 : decode cX12_getVector 5 = .ok (.getfield 336, 3) := by decide +kernel
theorem dX12_getVector_8 : decode cX12_getVector 8 = .ok (.bipush 100, 2) := by decide +kernel
theorem dX12_getVector_10 : decode cX12_getVector 10 = .ok (.if_icmp .ne 5, 3) := by decide +kernel
theorem dX12_getVector_13 : decode cX12_getVector 13 = .ok (.iconst 0, 1) := by decide +kernel
theorem dX12_getVector_14 : decode cX12_getVector 14 = .ok (.ireturn, 1) := by decide +kernel
theorem dX12_getVector_15 : decode cX12_getVector 15 = .ok (.iload_n 1, 1) := by decide +kernel
theorem dX12_getVector_16 : decode cX12_getVector 16 = .ok (.i2l, 1) := by decide +kernel
theorem dX12_getVector_17 : decode cX12_getVector 17 = .ok (.lconst 1, 1) := by decide +kernel
theorem dX12_getVector_18 : decode cX12_getVector 18 = .ok (.ladd, 1) := by decide +kernel
theorem dX12_getVector_19 : decode cX12_getVector 19 = .ok (.lstore_n 2, 1) := by decide +kernel
theorem dX12_getVector_20 : decode cX12_getVector 20 = .ok (.aload_n 0, 1) := by decide +kernel
theorem dX12_getVector_21 : decode cX12_getVector 21 = .ok (.getfield 305, 3) := by decide +kernel
theorem dX12_getVector_24 : decode cX12_getVector 24 = .ok (.aload_n 0, 1) := by decide +kernel
theorem dX12_getVector_25 : decode cX12_getVector 25 = .ok (.getfield 225, 3) := by decide +kernel
theorem dX12_getVector_28 : decode cX12_getVector 28 = .ok (.aload_n 0, 1) := by decide +kernel
theorem dX12_getVector_29 : decode cX12_getVector 29 = .ok (.getfield 308, 3) := by decide +kernel
theorem dX12_getVector_32 : decode cX12_getVector 32 = .ok (.iaload, 1) := by decide +kernel
theorem dX12_getVector_33 : decode cX12_getVector 33 = .ok (.iadd, 1) := by decide +kernel
theorem dX12_getVector_34 : decode cX12_getVector 34 = .ok (.istore 4, 2) := by decide +kernel
theorem dX12_getVector_36 : decode cX12_getVector 36 = .ok (.aload_n 0, 1) := by decide +kernel
theorem dX12_getVector_37 : decode cX12_getVector 37 = .ok (.getfield 315, 3) := by decide +kernel
theorem dX12_getVector_40 : decode cX12_getVector 40 = .ok (.i2l, 1) := by decide +kernel
theorem dX12_getVector_41 : decode cX12_getVector 41 = .ok (.lstore 5, 2) := by decide +kernel
theorem dX12_getVector_43 : decode cX12_getVector 43 = .ok (.iconst 0, 1) := by decide +kernel
theorem dX12_getVector_44 : decode cX12_getVector 44 = .ok (.istore 7, 2) := by decide +kernel
theorem dX12_getVector_46 : decode cX12_getVector 46 = .ok (.iload 7, 2) := by decide +kernel
theorem dX12_getVector_48 : decode cX12_getVector 48 = .ok (.aload_n 0, 1) := by decide +kernel
theorem dX12_getVector_49 : decode cX12_getVector 49 = .ok (.getfield 336, 3) := by decide +kernel
theorem dX12_getVector_52 : decode cX12_getVector 52 = .ok (.if_icmp .ge 58, 3) := by decide +kernel
theorem dX12_getVector_55 : decode cX12_getVector 55 = .ok (.lload 5, 2) := by decide +kernel
theorem dX12_getVector_57 : decode cX12_getVector 57 = .ok (.lload_n 2, 1) := by decide +kernel
theorem dX12_getVector_58 : decode cX12_getVector 58 = .ok (.lsub, 1) := by decide +kernel
theorem dX12_getVector_59 : decode cX12_getVector 59 = .ok (.aload_n 0, 1) := by decide +kernel
theorem dX12_getVector_60 : decode cX12_getVector 60 = .ok (.getfield 339, 3) := by decide +kernel
theorem dX12_getVector_63 : decode cX12_getVector 63 = .ok (.iload 7, 2) := by decide +kernel
theorem dX12_getVector_65 : decode cX12_getVector 65 = .ok (.iaload, 1) := by decide +kernel
theorem dX12_getVector_66 : decode cX12_getVector 66 = .ok (.i2l, 1) := by decide +kernel
theorem dX12_getVector_67 : decode cX12_getVector 67 = .ok (.aload_n 0, 1) := by decide +kernel
theorem dX12_getVector_68 : decode cX12_getVector 68 = .ok (.getfield 342, 3) := by decide +kernel
theorem dX12_getVector_71 : decode cX12_getVector 71 = .ok (.iload 7, 2) := by decide +kernel
theorem dX12_getVector_73 : decode cX12_getVector 73 = .ok (.iaload, 1) := by decide +kernel
theorem dX12_getVector_74 : decode cX12_getVector 74 = .ok (.i2l, 1) := by decide +kernel
theorem dX12_getVector_75 : decode cX12_getVector 75 = .ok (.ladd, 1) := by decide +kernel
theorem dX12_getVector_76 : decode cX12_getVector 76 = .ok (.lcmp, 1) := by decide +kernel
theorem dX12_getVector_77 : decode cX12_getVector 77 = .ok (.ifCond .lt 17, 3) := by decide +kernel
theorem dX12_getVector_80 : decode cX12_getVector 80 = .ok (.aload_n 0, 1) := by decide +kernel
theorem dX12_getVector_81 : decode cX12_getVector 81 = .ok (.iload 7, 2) := by decide +kernel
theorem dX12_getVector_83 : decode cX12_getVector 83 = .ok (.lload 5, 2) := by decide +kernel
theorem dX12_getVector_85 : decode cX12_getVector 85 = .ok (.lload_n 2, 1) := by decide +kernel
theorem dX12_getVector_86 : decode cX12_getVector 86 = .ok (.lsub, 1) := by decide +kernel
theorem dX12_getVector_87 : decode cX12_getVector 87 = .ok (.lload_n 2, 1) := by decide +kernel
theorem dX12_getVector_88 : decode cX12_getVector 88 = .ok (.iload 4, 2) := by decide +kernel
theorem dX12_getVector_90 : decode cX12_getVector 90 = .ok (.invokevirtual 846, 3) := by decide +kernel
theorem dX12_getVector_93 : decode cX12_getVector 93 = .ok (.ireturn, 1) := by decide +kernel
theorem dX12_getVector_94 : decode cX12_getVector 94 = .ok (.aload_n 0, 1) := by decide +kernel
theorem dX12_getVector_95 : decode cX12_getVector 95 = .ok (.getfield 339, 3) := by decide +kernel
theorem dX12_getVector_98 : decode cX12_getVector 98 = .ok (.iload 7, 2) := by decide +kernel
theorem dX12_getVector_100 : decode cX12_getVector 100 = .ok (.iaload, 1) := by decide +kernel
theorem dX12_getVector_101 : decode cX12_getVector 101 = .ok (.i2l, 1) := by decide +kernel
theorem dX12_getVector_102 : decode cX12_getVector 102 = .ok (.lstore 5, 2) := by decide +kernel
theorem dX12_getVector_104 : decode cX12_getVector 104 = .ok (.iinc 7 1, 3) := by decide +kernel
theorem dX12_getVector_107 : decode cX12_getVector 107 = .ok (.goto (-61), 3) := by decide +kernel
theorem dX12_getVector_110 : decode cX12_getVector 110 = .ok (.aload_n 0, 1) := by decide +kernel
theorem dX12_getVector_111 : decode cX12_getVector 111 = .ok (.aload_n 0, 1) := by decide +kernel
theorem dX12_getVector_112 : decode cX12_getVector 112 = .ok (.getfield 336, 3) := by decide +kernel
theorem dX12_getVector_115 : decode cX12_getVector 115 = .ok (.lload 5, 2) := by decide +kernel
theorem dX12_getVector_117 : decode cX12_getVector 117 = .ok (.lload_n 2, 1) := by decide +kernel
theorem dX12_getVector_118 : decode cX12_getVector 118 = .ok (.lsub, 1) := by decide +kernel
theorem dX12_getVector_119 : decode cX12_getVector 119 = .ok (.lload_n 2, 1) := by decide +kernel
theorem dX12_getVector_120 : decode cX12_getVector 120 = .ok (.iload 4, 2) := by decide +kernel
theorem dX12_getVector_122 : decode cX12_getVector 122 = .ok (.invokevirtual 846, 3) := by decide +kernel
theorem dX12_getVector_125 : decode cX12_getVector 125 = .ok (.ireturn, 1) := by decide +kernel
def wr_getVector_46B (Q : Int → zS → Prop) (k46 : zS → Int → Int → Int → Int → Prop) (s0 : zS) (x2 : Int) (x4 : Int) (x5 : Int) (x7 : Int) : Prop :=
  (((zv s0 106) ≤ x7 → (zL (x5 - x2)) ∧ wr_layVector s0 (zv s0 106) (x5 - x2) x2 x4 (fun r5 s6 => Q r5 s6)) ∧ (¬ (zv s0 106) ≤ x7 → (0 ≤ x7) ∧ (x7 < 100) ∧ (0 ≤ x7) ∧ (x7 < 100) ∧ (zL (x5 - x2)) ∧ (zL ((za s0 107 (Int.toNat x7)) + (za s0 108 (Int.toNat x7)))) ∧ (((x5 - x2) < ((za s0 107 (Int.toNat x7)) + (za s0 108 (Int.toNat x7))) → (0 ≤ x7) ∧ (x7 < 100) ∧ (zR (x7 + 1)) ∧ k46 s0 x2 x4 (za s0 107 (Int.toNat x7)) (x7 + 1)) ∧ (¬ (x5 - x2) < ((za s0 107 (Int.toNat x7)) + (za s0 108 (Int.toNat x7))) → wr_layVector s0 x7 (x5 - x2) x2 x4 (fun r33 s34 => Q r33 s34)))))
def wr_getVector_46 (Q : Int → zS → Prop)  : Nat → zS → Int → Int → Int → Int → Prop
  | 0 => fun _ _ _ _ _ => False
  | m + 1 => fun s0 x2 x4 x5 x7 => wr_getVector_46B Q  (wr_getVector_46 Q  m) s0 x2 x4 x5 x7
def wr_getVector (s0 : zS) (a0 : Int) (Q : Int → zS → Prop) : Prop :=
  ((a0 < 0 → Q 0 s0) ∧ (¬ a0 < 0 → ((¬ (zv s0 106) = 100 → (0 ≤ (zv s0 97)) ∧ ((zv s0 97) < 3100) ∧ (zL (a0 + 1)) ∧ (zR ((zv s0 96) + (za s0 70 (Int.toNat (zv s0 97))))) ∧ ∃ n, wr_getVector_46 Q  n s0 (a0 + 1) ((zv s0 96) + (za s0 70 (Int.toNat (zv s0 97)))) (zv s0 99) 0) ∧ ((zv s0 106) = 100 → Q 0 s0))))
set_option maxHeartbeats 4000000 in
set_option maxRecDepth 100000 in
theorem rb_getVector_46 {X : gX} {d : gD} {b t : Nat} {T : Nat → Nat} {F0 : gM} (hC : gC RX12 cX12_getVector 8 (some .int) "getVector" (gR 1 0 0) d b X) {Q : Int → zS → Prop} {k46 : zS → Int → Int → Int → Int → Prop} (hk46 : ∀ (F : gM) (s0 : zS) (x2 : Int) (x4 : Int) (x5 : Int) (x7 : Int), zL x2 → zR x4 → zL x5 → zR x7 → zZ d t T F0 F s0 → k46 s0 x2 x4 x5 x7 → gG X d b (zQi X d b t T F0 Q) F 0 0 46 [some (.ref t), none, some (.long (zJ x2)), none, some (.int (zI x4)), some (.long (zJ x5)), none, some (.int (zI x7))] []) {F : gM} {s0 : zS} {x2 : Int} {x4 : Int} {x5 : Int} {x7 : Int} (Rx2 : zL x2) (Rx4 : zR x4) (Rx5 : zL x5) (Rx7 : zR x7) (hZ : zZ d t T F0 F s0) (hw : wr_getVector_46B Q k46 s0 x2 x4 x5 x7) : gG X d b (zQi X d b t T F0 Q) F 0 0 46 [some (.ref t), none, some (.long (zJ x2)), none, some (.int (zI x4)), some (.long (zJ x5)), none, some (.int (zI x7))] [] := by
  unfold wr_getVector_46B at hw
  refine g_iload hC dX12_getVector_46 rfl ?_
  refine g_aload_n hC dX12_getVector_48 rfl ?_
  refine zr_get (e := (zv s0 106)) hC hZ fl_X12_336 zb_106 (by decide) rfl dX12_getVector_49 ?_
  refine zr_icmp_ge (tgt := 110) hC Rx7 (hZ.rv 106) dX12_getVector_52 (by decide) (fun c1 => ?_) (fun c1 => ?_)
  · have h2 := hw.1 c1
    refine g_aload_n hC dX12_getVector_110 rfl ?_
    refine g_aload_n hC dX12_getVector_111 rfl ?_
    refine zr_get (e := (zv s0 106)) hC hZ fl_X12_336 zb_106 (by decide) rfl dX12_getVector_112 ?_
    refine g_lload hC dX12_getVector_115 rfl ?_
    refine g_lload_n hC dX12_getVector_117 rfl ?_
    refine zr_lsub hC dX12_getVector_118 ?_
    refine g_lload_n hC dX12_getVector_119 rfl ?_
    refine g_iload hC dX12_getVector_120 rfl ?_
    obtain ⟨o3, h4⟩ := h2
    refine zr_callVi (As := [.int (zI (zv s0 106)), .long (zJ (x5 - x2)), .long (zJ x2), .int (zI x4)]) hC hZ rfl (rm_layVector X.la d b (hZ.rv 106) o3 Rx2 Rx4 hZ.rf h4) cl_X12_846 rfl rfl (Nat.le_of_ble_eq_true rfl) ⟨Nat.le_of_ble_eq_true rfl, Nat.le_of_ble_eq_true rfl⟩ dX12_getVector_122 (fun r5 s6 F7 R8 hZ9 h10 => ?_)
    exact zr_iret hC hZ9 R8 h10 dX12_getVector_125
  · have h11 := hw.2 c1
    refine g_lload hC dX12_getVector_55 rfl ?_
    refine g_lload_n hC dX12_getVector_57 rfl ?_
    refine zr_lsub hC dX12_getVector_58 ?_
    refine g_aload_n hC dX12_getVector_59 rfl ?_
    refine zr_geta hC hZ fl_X12_339 zb_107 (by decide) dX12_getVector_60 ?_
    refine g_iload hC dX12_getVector_63 rfl ?_
    obtain ⟨o12, h13⟩ := h11
    obtain ⟨o14, h15⟩ := h13
    refine zr_iald (v := (za s0 107 (Int.toNat x7))) hC hZ zk_107 zb_107 zn_107 (by decide) o12 o14 rfl dX12_getVector_65 ?_
    refine zr_i2l hC dX12_getVector_66 (hZ.ra 107 _) ?_
    refine g_aload_n hC dX12_getVector_67 rfl ?_
    refine zr_geta hC hZ fl_X12_342 zb_108 (by decide) dX12_getVector_68 ?_
    refine g_iload hC dX12_getVector_71 rfl ?_
    obtain ⟨o16, h17⟩ := h15
    obtain ⟨o18, h19⟩ := h17
    refine zr_iald (v := (za s0 108 (Int.toNat x7))) hC hZ zk_108 zb_108 zn_108 (by decide) o16 o18 rfl dX12_getVector_73 ?_
    refine zr_i2l hC dX12_getVector_74 (hZ.ra 108 _) ?_
    refine zr_ladd hC dX12_getVector_75 ?_
    refine g_lcmp hC dX12_getVector_76 ?_
    obtain ⟨o20, h21⟩ := h19
    obtain ⟨o22, h23⟩ := h21
    refine zr_lif_lt (tgt := 94) hC o20 o22 dX12_getVector_77 (by decide) (fun c24 => ?_) (fun c24 => ?_)
    · have h25 := h23.1 c24
      refine g_aload_n hC dX12_getVector_94 rfl ?_
      refine zr_geta hC hZ fl_X12_339 zb_107 (by decide) dX12_getVector_95 ?_
      refine g_iload hC dX12_getVector_98 rfl ?_
      obtain ⟨o26, h27⟩ := h25
      obtain ⟨o28, h29⟩ := h27
      refine zr_iald (v := (za s0 107 (Int.toNat x7))) hC hZ zk_107 zb_107 zn_107 (by decide) o26 o28 rfl dX12_getVector_100 ?_
      refine zr_i2l hC dX12_getVector_101 (hZ.ra 107 _) ?_
      refine g_lstore (lv' := [some (.ref t), none, some (.long (zJ x2)), none, some (.int (zI x4)), some (.long (zJ (za s0 107 (Int.toNat x7)))), none, some (.int (zI x7))]) hC dX12_getVector_102 (Nat.le_of_ble_eq_true rfl) rfl rfl ?_
      refine zr_iinc (x := x7) (lv' := [some (.ref t), none, some (.long (zJ x2)), none, some (.int (zI x4)), some (.long (zJ (za s0 107 (Int.toNat x7)))), none, some (.int (zI (x7 + 1)))]) hC dX12_getVector_104 rfl rfl rfl ?_
      refine g_goto (tgt := 46) hC dX12_getVector_107 (by decide) ?_
      obtain ⟨o30, h31⟩ := h29
      exact hk46 _ _ _ _ _ _ Rx2 Rx4 (zR_L (hZ.ra 107 _)) o30 hZ h31
    · have h32 := h23.2 c24
      refine g_aload_n hC dX12_getVector_80 rfl ?_
      refine g_iload hC dX12_getVector_81 rfl ?_
      refine g_lload hC dX12_getVector_83 rfl ?_
      refine g_lload_n hC dX12_getVector_85 rfl ?_
      refine zr_lsub hC dX12_getVector_86 ?_
      refine g_lload_n hC dX12_getVector_87 rfl ?_
      refine g_iload hC dX12_getVector_88 rfl ?_
      refine zr_callVi (As := [.int (zI x7), .long (zJ (x5 - x2)), .long (zJ x2), .int (zI x4)]) hC hZ rfl (rm_layVector X.la d b Rx7 o20 Rx2 Rx4 hZ.rf h32) cl_X12_846 rfl rfl (Nat.le_of_ble_eq_true rfl) ⟨Nat.le_of_ble_eq_true rfl, Nat.le_of_ble_eq_true rfl⟩ dX12_getVector_90 (fun r33 s34 F35 R36 hZ37 h38 => ?_)
      exact zr_iret hC hZ37 R36 h38 dX12_getVector_93
theorem rl_getVector_46 {X : gX} {d : gD} {b t : Nat} {T : Nat → Nat} {F0 : gM} (hC : gC RX12 cX12_getVector 8 (some .int) "getVector" (gR 1 0 0) d b X) {Q : Int → zS → Prop}   : ∀ (m : Nat) (F : gM) (s0 : zS) (x2 : Int) (x4 : Int) (x5 : Int) (x7 : Int), zL x2 → zR x4 → zL x5 → zR x7 → zZ d t T F0 F s0 → wr_getVector_46 Q  m s0 x2 x4 x5 x7 → gG X d b (zQi X d b t T F0 Q) F 0 0 46 [some (.ref t), none, some (.long (zJ x2)), none, some (.int (zI x4)), some (.long (zJ x5)), none, some (.int (zI x7))] [] := by
  intro m
  induction m with
  | zero => intro F s0 x2 x4 x5 x7 Rx2 Rx4 Rx5 Rx7 hZ hw; exact False.elim hw
  | succ m ih => intro F s0 x2 x4 x5 x7 Rx2 Rx4 Rx5 Rx7 hZ hw; exact rb_getVector_46 hC  ih Rx2 Rx4 Rx5 Rx7 hZ hw
set_option maxHeartbeats 4000000 in
set_option maxRecDepth 100000 in
theorem rm_getVector (l : Launch) (d : gD) (b : Nat) {t : Nat} {T : Nat → Nat} {F : gM} {s0 : zS} {a0 : Int} (Ra0 : zR a0) {Q : Int → zS → Prop} (hZ : zZ d t T F F s0) (hw : wr_getVector s0 a0 Q) : gMi l d b yX12_getVector cX12_getVector 8 .int 1 0 0 F [.ref t, .int (zI a0)] (zPi d t T F Q) := by
  refine gM_of2 rfl (nL := 8) (Nat.le_of_ble_eq_true rfl) ?_
  intro X hX hC; subst hX
  show gG X d b (zQi X d b t T F Q) F 0 0 0 [some (.ref t), some (.int (zI a0)), none, none, none, none, none, none] []
  unfold wr_getVector at hw
  refine g_iload_n hC dX12_getVector_0 rfl ?_
  refine zr_if_lt (tgt := 13) hC Ra0 dX12_getVector_1 (by decide) (fun c1 => ?_) (fun c1 => ?_)
  · have h2 := hw.1 c1
    refine g_iconst (v := zI 0) hC dX12_getVector_13 rfl ?_
    exact zr_iret hC hZ (by decide) h2 dX12_getVector_14
  · have h3 := hw.2 c1
    refine g_aload_n hC dX12_getVector_4 rfl ?_
    refine zr_get (e := (zv s0 106)) hC hZ fl_X12_336 zb_106 (by decide) rfl dX12_getVector_5 ?_
    refine g_bipush (v := zI 100) hC dX12_getVector_8 rfl ?_
    refine zr_icmp_ne (tgt := 15) hC (hZ.rv 106) (by decide) dX12_getVector_10 (by decide) (fun c4 => ?_) (fun c4 => ?_)
    · have h5 := h3.1 c4
      refine g_iload_n hC dX12_getVector_15 rfl ?_
      refine zr_i2l hC dX12_getVector_16 Ra0 ?_
      refine g_lconst (v := zJ 1) hC dX12_getVector_17 rfl ?_
      refine zr_ladd hC dX12_getVector_18 ?_
      refine g_lstore_n (lv' := [some (.ref t), some (.int (zI a0)), some (.long (zJ (a0 + 1))), none, none, none, none, none]) hC dX12_getVector_19 (Nat.le_of_ble_eq_true rfl) rfl rfl ?_
      refine g_aload_n hC dX12_getVector_20 rfl ?_
      refine zr_get (e := (zv s0 96)) hC hZ fl_X12_305 zb_96 (by decide) rfl dX12_getVector_21 ?_
      refine g_aload_n hC dX12_getVector_24 rfl ?_
      refine zr_geta hC hZ fl_X12_225 zb_70 (by decide) dX12_getVector_25 ?_
      refine g_aload_n hC dX12_getVector_28 rfl ?_
      refine zr_get (e := (zv s0 97)) hC hZ fl_X12_308 zb_97 (by decide) rfl dX12_getVector_29 ?_
      obtain ⟨o6, h7⟩ := h5
      obtain ⟨o8, h9⟩ := h7
      refine zr_iald (v := (za s0 70 (Int.toNat (zv s0 97)))) hC hZ zk_70 zb_70 zn_70 (by decide) o6 o8 rfl dX12_getVector_32 ?_
      refine zr_iadd hC dX12_getVector_33 ?_
      refine g_istore (lv' := [some (.ref t), some (.int (zI a0)), some (.long (zJ (a0 + 1))), none, some (.int (zI ((zv s0 96) + (za s0 70 (Int.toNat (zv s0 97)))))), none, none, none]) hC dX12_getVector_34 (Nat.le_of_ble_eq_true rfl) rfl rfl ?_
      refine g_aload_n hC dX12_getVector_36 rfl ?_
      refine zr_get (e := (zv s0 99)) hC hZ fl_X12_315 zb_99 (by decide) rfl dX12_getVector_37 ?_
      refine zr_i2l hC dX12_getVector_40 (hZ.rv 99) ?_
      refine g_lstore (lv' := [some (.ref t), some (.int (zI a0)), some (.long (zJ (a0 + 1))), none, some (.int (zI ((zv s0 96) + (za s0 70 (Int.toNat (zv s0 97)))))), some (.long (zJ (zv s0 99))), none, none]) hC dX12_getVector_41 (Nat.le_of_ble_eq_true rfl) rfl rfl ?_
      refine g_iconst (v := zI 0) hC dX12_getVector_43 rfl ?_
      refine g_istore (lv' := [some (.ref t), some (.int (zI a0)), some (.long (zJ (a0 + 1))), none, some (.int (zI ((zv s0 96) + (za s0 70 (Int.toNat (zv s0 97)))))), some (.long (zJ (zv s0 99))), none, some (.int (zI 0))]) hC dX12_getVector_44 (Nat.le_of_ble_eq_true rfl) rfl rfl ?_
      obtain ⟨o10, h11⟩ := h9
      obtain ⟨o12, h13⟩ := h11
      refine g_lv (lv' := [some (.ref t), none, some (.long (zJ (a0 + 1))), none, some (.int (zI ((zv s0 96) + (za s0 70 (Int.toNat (zv s0 97)))))), some (.long (zJ (zv s0 99))), none, some (.int (zI 0))]) ⟨rfl, rfl, rfl, rfl, rfl, trivial⟩ ?_
      obtain ⟨m14, h15⟩ := h13
      exact rl_getVector_46 hC  m14 _ _ _ _ _ _ o10 o12 (zR_L (hZ.rv 99)) (by decide) hZ h15
    · have h16 := h3.2 c4
      refine g_iconst (v := zI 0) hC dX12_getVector_13 rfl ?_
      exact zr_iret hC hZ (by decide) h16 dX12_getVector_14
theorem dX12_freeVector_0 : decode cX12_freeVector 0 = .ok (.iload_n 1, 1) := by decide +kernel
theorem dX12_freeVector_1 : decode cX12_freeVector 1 = .ok (.ifCond .ne 4, 3) := by decide +kernel
theorem dX12_freeVector_4 : decode cX12_freeVector 4 = .ok (.return_, 1) := by decide +kernel
theorem dX12_freeVector_5 : decode cX12_freeVector 5 = .ok (.iconst 0, 1) := by decide +kernel
theorem dX12_freeVector_6 : decode cX12_freeVector 6 = .ok (.istore_n 2, 1) := by decide +kernel
theorem dX12_freeVector_7 : decode cX12_freeVector 7 = .ok (.iload_n 2, 1) := by decide +kernel
theorem dX12_freeVector_8 : decode cX12_freeVector 8 = .ok (.aload_n 0, 1) := by decide +kernel
theorem dX12_freeVector_9 : decode cX12_freeVector 9 = .ok (.getfield 336, 3) := by decide +kernel
theorem dX12_freeVector_12 : decode cX12_freeVector 12 = .ok (.if_icmp .ge 19, 3) := by decide +kernel
theorem dX12_freeVector_15 : decode cX12_freeVector 15 = .ok (.aload_n 0, 1) := by decide +kernel
theorem dX12_freeVector_16 : decode cX12_freeVector 16 = .ok (.getfield 339, 3) := by decide +kernel
theorem dX12_freeVector_19 : decode cX12_freeVector 19 = .ok (.iload_n 2, 1) := by decide +kernel
theorem dX12_freeVector_20 : decode cX12_freeVector 20 = .ok (.iaload, 1) := by decide +kernel
theorem dX12_freeVector_21 : decode cX12_freeVector 21 = .ok (.iload_n 1, 1) := by decide +kernel
theorem dX12_freeVector_22 : decode cX12_freeVector 22 = .ok (.if_icmp .eq 9, 3) := by decide +kernel
theorem dX12_freeVector_25 : decode cX12_freeVector 25 = .ok (.iinc 2 1, 3) := by decide +kernel
theorem dX12_freeVector_28 : decode cX12_freeVector 28 = .ok (.goto (-21), 3) := by decide +kernel
theorem dX12_freeVector_31 : decode cX12_freeVector 31 = .ok (.iload_n 2, 1) := by decide +kernel
theorem dX12_freeVector_32 : decode cX12_freeVector 32 = .ok (.aload_n 0, 1) := by decide +kernel
theorem dX12_freeVector_33 : decode cX12_freeVector 33 = .ok (.getfield 336, 3) := by decide +kernel
theorem dX12_freeVector_36 : decode cX12_freeVector 36 = .ok (.if_icmp .ne 9, 3) := by decide +kernel
theorem dX12_freeVector_39 : decode cX12_freeVector 39 = .ok (.aload_n 0, 1) := by decide +kernel
theorem dX12_freeVector_40 : decode cX12_freeVector 40 = .ok (.iconst 2, 1) := by decide +kernel
theorem dX12_freeVector_41 : decode cX12_freeVector 41 = .ok (.invokevirtual 792, 3) := by decide +kernel
theorem dX12_freeVector_44 : decode cX12_freeVector 44 = .ok (.return_, 1) := by decide +kernel
theorem dX12_freeVector_45 : decode cX12_freeVector 45 = .ok (.aload_n 0, 1) := by decide +kernel
theorem dX12_freeVector_46 : decode cX12_freeVector 46 = .ok (.dup, 1) := by decide +kernel
theorem dX12_freeVector_47 : decode cX12_freeVector 47 = .ok (.getfield 336, 3) := by decide +kernel
theorem dX12_freeVector_50 : decode cX12_freeVector 50 = .ok (.iconst 1, 1) := by decide +kernel
theorem dX12_freeVector_51 : decode cX12_freeVector 51 = .ok (.isub, 1) := by decide +kernel
theorem dX12_freeVector_52 : decode cX12_freeVector 52 = .ok (.putfield 336, 3) := by decide +kernel
theorem dX12_freeVector_55 : decode cX12_freeVector 55 = .ok (.iload_n 2, 1) := by decide +kernel
theorem dX12_freeVector_56 : decode cX12_freeVector 56 = .ok (.aload_n 0, 1) := by decide +kernel
theorem dX12_freeVector_57 : decode cX12_freeVector 57 = .ok (.getfield 336, 3) := by decide +kernel
theorem dX12_freeVector_60 : decode cX12_freeVector 60 = .ok (.if_icmp .ge 37, 3) := by decide +kernel
theorem dX12_freeVector_63 : decode cX12_freeVector 63 = .ok (.aload_n 0, 1) := by decide +kernel
theorem dX12_freeVector_64 : decode cX12_freeVector 64 = .ok (.getfield 339, 3) := by decide +kernel
theorem dX12_freeVector_67 : decode cX12_freeVector 67 = .ok (.iload_n 2, 1) := by decide +kernel
theorem dX12_freeVector_68 : decode cX12_freeVector 68 = .ok (.aload_n 0, 1) := by decide +kernel
theorem dX12_freeVector_69 : decode cX12_freeVector 69 = .ok (.getfield 339, 3) := by decide +kernel
theorem dX12_freeVector_72 : decode cX12_freeVector 72 = .ok (.iload_n 2, 1) := by decide +kernel
theorem dX12_freeVector_73 : decode cX12_freeVector 73 = .ok (.iconst 1, 1) := by decide +kernel
theorem dX12_freeVector_74 : decode cX12_freeVector 74 = .ok (.iadd, 1) := by decide +kernel
theorem dX12_freeVector_75 : decode cX12_freeVector 75 = .ok (.iaload, 1) := by decide +kernel
theorem dX12_freeVector_76 : decode cX12_freeVector 76 = .ok (.iastore, 1) := by decide +kernel
theorem dX12_freeVector_77 : decode cX12_freeVector 77 = .ok (.aload_n 0, 1) := by decide +kernel
theorem dX12_freeVector_78 : decode cX12_freeVector 78 = .ok (.getfield 342, 3) := by decide +kernel
theorem dX12_freeVector_81 : decode cX12_freeVector 81 = .ok (.iload_n 2, 1) := by decide +kernel
theorem dX12_freeVector_82 : decode cX12_freeVector 82 = .ok (.aload_n 0, 1) := by decide +kernel
theorem dX12_freeVector_83 : decode cX12_freeVector 83 = .ok (.getfield 342, 3) := by decide +kernel
theorem dX12_freeVector_86 : decode cX12_freeVector 86 = .ok (.iload_n 2, 1) := by decide +kernel
theorem dX12_freeVector_87 : decode cX12_freeVector 87 = .ok (.iconst 1, 1) := by decide +kernel
theorem dX12_freeVector_88 : decode cX12_freeVector 88 = .ok (.iadd, 1) := by decide +kernel
theorem dX12_freeVector_89 : decode cX12_freeVector 89 = .ok (.iaload, 1) := by decide +kernel
theorem dX12_freeVector_90 : decode cX12_freeVector 90 = .ok (.iastore, 1) := by decide +kernel
theorem dX12_freeVector_91 : decode cX12_freeVector 91 = .ok (.iinc 2 1, 3) := by decide +kernel
theorem dX12_freeVector_94 : decode cX12_freeVector 94 = .ok (.goto (-39), 3) := by decide +kernel
theorem dX12_freeVector_97 : decode cX12_freeVector 97 = .ok (.return_, 1) := by decide +kernel
def wr_freeVector_55B (Q : zS → Prop) (k55 : zS → Int → Prop) (s0 : zS) (x2 : Int) : Prop :=
  (((zv s0 106) ≤ x2 → Q s0) ∧ (¬ (zv s0 106) ≤ x2 → (0 ≤ (x2 + 1)) ∧ ((x2 + 1) < 100) ∧ (0 ≤ x2) ∧ (x2 < 100) ∧ (0 ≤ (x2 + 1)) ∧ ((x2 + 1) < 100) ∧ (0 ≤ x2) ∧ (x2 < 100) ∧ k55 (zpa (zpa s0 107 (Int.toNat x2) (za s0 107 (Int.toNat (x2 + 1)))) 108 (Int.toNat x2) (za s0 108 (Int.toNat (x2 + 1)))) (x2 + 1)))
def wr_freeVector_55 (Q : zS → Prop)  : Nat → zS → Int → Prop
  | 0 => fun _ _ => False
  | m + 1 => fun s0 x2 => wr_freeVector_55B Q  (wr_freeVector_55 Q  m) s0 x2
def wr_freeVector_7B (Q : zS → Prop) (k7 : zS → Int → Int → Prop) (s0 : zS) (x1 : Int) (x2 : Int) : Prop :=
  (((zv s0 106) ≤ x2 → ((¬ x2 = (zv s0 106) → (zR ((zv s0 106) - 1)) ∧ ∃ n, wr_freeVector_55 Q  n (zpv s0 106 ((zv s0 106) - 1)) x2) ∧ (x2 = (zv s0 106) → wr_err s0 2 (fun s13 => Q s13)))) ∧ (¬ (zv s0 106) ≤ x2 → (0 ≤ x2) ∧ (x2 < 100) ∧ (((za s0 107 (Int.toNat x2)) = x1 → ((¬ x2 = (zv s0 106) → (zR ((zv s0 106) - 1)) ∧ ∃ n, wr_freeVector_55 Q  n (zpv s0 106 ((zv s0 106) - 1)) x2) ∧ (x2 = (zv s0 106) → wr_err s0 2 (fun s35 => Q s35)))) ∧ (¬ (za s0 107 (Int.toNat x2)) = x1 → (zR (x2 + 1)) ∧ k7 s0 x1 (x2 + 1)))))
def wr_freeVector_7 (Q : zS → Prop)  : Nat → zS → Int → Int → Prop
  | 0 => fun _ _ _ => False
  | m + 1 => fun s0 x1 x2 => wr_freeVector_7B Q  (wr_freeVector_7 Q  m) s0 x1 x2
def wr_freeVector (s0 : zS) (a0 : Int) (Q : zS → Prop) : Prop :=
  ((¬ a0 = 0 → ∃ n, wr_freeVector_7 Q  n s0 a0 0) ∧ (a0 = 0 → Q s0))
set_option maxHeartbeats 4000000 in
set_option maxRecDepth 100000 in
theorem rb_freeVector_55 {X : gX} {d : gD} {b t : Nat} {T : Nat → Nat} {F0 : gM} (hC : gC RX12 cX12_freeVector 3 none "freeVector" (gR 1 0 0) d b X) {Q : zS → Prop} {k55 : zS → Int → Prop} (hk55 : ∀ (F : gM) (s0 : zS) (x2 : Int), zR x2 → zZ d t T F0 F s0 → k55 s0 x2 → gG X d b (zQv X d b t T F0 Q) F 0 0 55 [some (.ref t), none, some (.int (zI x2))] []) {F : gM} {s0 : zS} {x2 : Int} (Rx2 : zR x2) (hZ : zZ d t T F0 F s0) (hw : wr_freeVector_55B Q k55 s0 x2) : gG X d b (zQv X d b t T F0 Q) F 0 0 55 [some (.ref t), none, some (.int (zI x2))] [] := by
  unfold wr_freeVector_55B at hw
  refine g_iload_n hC dX12_freeVector_55 rfl ?_
  refine g_aload_n hC dX12_freeVector_56 rfl ?_
  refine zr_get (e := (zv s0 106)) hC hZ fl_X12_336 zb_106 (by decide) rfl dX12_freeVector_57 ?_
  refine zr_icmp_ge (tgt := 97) hC Rx2 (hZ.rv 106) dX12_freeVector_60 (by decide) (fun c1 => ?_) (fun c1 => ?_)
  · have h2 := hw.1 c1
    exact zr_vret hC hZ h2 dX12_freeVector_97
  · have h3 := hw.2 c1
    refine g_aload_n hC dX12_freeVector_63 rfl ?_
    refine zr_geta hC hZ fl_X12_339 zb_107 (by decide) dX12_freeVector_64 ?_
    refine g_iload_n hC dX12_freeVector_67 rfl ?_
    refine g_aload_n hC dX12_freeVector_68 rfl ?_
    refine zr_geta hC hZ fl_X12_339 zb_107 (by decide) dX12_freeVector_69 ?_
    refine g_iload_n hC dX12_freeVector_72 rfl ?_
    refine g_iconst (v := zI 1) hC dX12_freeVector_73 rfl ?_
    refine zr_iadd hC dX12_freeVector_74 ?_
    obtain ⟨o4, h5⟩ := h3
    obtain ⟨o6, h7⟩ := h5
    refine zr_iald (v := (za s0 107 (Int.toNat (x2 + 1)))) hC hZ zk_107 zb_107 zn_107 (by decide) o4 o6 rfl dX12_freeVector_75 ?_
    obtain ⟨o8, h9⟩ := h7
    obtain ⟨o10, h11⟩ := h9
    refine zr_iast hC hZ zk_107 zb_107 zn_107 (by decide) o8 o10 (hZ.ra 107 _) dX12_freeVector_76 (fun F12 hZ13 => ?_)
    refine g_aload_n hC dX12_freeVector_77 rfl ?_
    refine zr_geta hC hZ13 fl_X12_342 zb_108 (by decide) dX12_freeVector_78 ?_
    refine g_iload_n hC dX12_freeVector_81 rfl ?_
    refine g_aload_n hC dX12_freeVector_82 rfl ?_
    refine zr_geta hC hZ13 fl_X12_342 zb_108 (by decide) dX12_freeVector_83 ?_
    refine g_iload_n hC dX12_freeVector_86 rfl ?_
    refine g_iconst (v := zI 1) hC dX12_freeVector_87 rfl ?_
    refine zr_iadd hC dX12_freeVector_88 ?_
    obtain ⟨o14, h15⟩ := h11
    obtain ⟨o16, h17⟩ := h15
    refine zr_iald (v := (za s0 108 (Int.toNat (x2 + 1)))) hC hZ13 zk_108 zb_108 zn_108 (by decide) o14 o16 rfl dX12_freeVector_89 ?_
    obtain ⟨o18, h19⟩ := h17
    obtain ⟨o20, h21⟩ := h19
    refine zr_iast hC hZ13 zk_108 zb_108 zn_108 (by decide) o18 o20 (hZ.ra 108 _) dX12_freeVector_90 (fun F22 hZ23 => ?_)
    refine zr_iinc (x := x2) (lv' := [some (.ref t), none, some (.int (zI (x2 + 1)))]) hC dX12_freeVector_91 rfl rfl rfl ?_
    refine g_goto (tgt := 55) hC dX12_freeVector_94 (by decide) ?_
    exact hk55 _ _ _ ⟨by omega, by omega⟩ hZ23 h21
theorem rl_freeVector_55 {X : gX} {d : gD} {b t : Nat} {T : Nat → Nat} {F0 : gM} (hC : gC RX12 cX12_freeVector 3 none "freeVector" (gR 1 0 0) d b X) {Q : zS → Prop}   : ∀ (m : Nat) (F : gM) (s0 : zS) (x2 : Int), zR x2 → zZ d t T F0 F s0 → wr_freeVector_55 Q  m s0 x2 → gG X d b (zQv X d b t T F0 Q) F 0 0 55 [some (.ref t), none, some (.int (zI x2))] [] := by
  intro m
  induction m with
  | zero => intro F s0 x2 Rx2 hZ hw; exact False.elim hw
  | succ m ih => intro F s0 x2 Rx2 hZ hw; exact rb_freeVector_55 hC  ih Rx2 hZ hw
set_option maxHeartbeats 4000000 in
set_option maxRecDepth 100000 in
theorem rb_freeVector_7 {X : gX} {d : gD} {b t : Nat} {T : Nat → Nat} {F0 : gM} (hC : gC RX12 cX12_freeVector 3 none "freeVector" (gR 1 0 0) d b X) {Q : zS → Prop} {k7 : zS → Int → Int → Prop} (hk7 : ∀ (F : gM) (s0 : zS) (x1 : Int) (x2 : Int), zR x1 → zR x2 → zZ d t T F0 F s0 → k7 s0 x1 x2 → gG X d b (zQv X d b t T F0 Q) F 0 0 7 [some (.ref t), some (.int (zI x1)), some (.int (zI x2))] []) {F : gM} {s0 : zS} {x1 : Int} {x2 : Int} (Rx1 : zR x1) (Rx2 : zR x2) (hZ : zZ d t T F0 F s0) (hw : wr_freeVector_7B Q k7 s0 x1 x2) : gG X d b (zQv X d b t T F0 Q) F 0 0 7 [some (.ref t), some (.int (zI x1)), some (.int (zI x2))] [] := by
  unfold wr_freeVector_7B at hw
  refine g_iload_n hC dX12_freeVector_7 rfl ?_
  refine g_aload_n hC dX12_freeVector_8 rfl ?_
  refine zr_get (e := (zv s0 106)) hC hZ fl_X12_336 zb_106 (by decide) rfl dX12_freeVector_9 ?_
  refine zr_icmp_ge (tgt := 31) hC Rx2 (hZ.rv 106) dX12_freeVector_12 (by decide) (fun c1 => ?_) (fun c1 => ?_)
  · have h2 := hw.1 c1
    refine g_iload_n hC dX12_freeVector_31 rfl ?_
    refine g_aload_n hC dX12_freeVector_32 rfl ?_
    refine zr_get (e := (zv s0 106)) hC hZ fl_X12_336 zb_106 (by decide) rfl dX12_freeVector_33 ?_
    refine zr_icmp_ne (tgt := 45) hC Rx2 (hZ.rv 106) dX12_freeVector_36 (by decide) (fun c3 => ?_) (fun c3 => ?_)
    · have h4 := h2.1 c3
      refine g_aload_n hC dX12_freeVector_45 rfl ?_
      refine g_dup hC dX12_freeVector_46 rfl ?_
      refine zr_get (e := (zv s0 106)) hC hZ fl_X12_336 zb_106 (by decide) rfl dX12_freeVector_47 ?_
      refine g_iconst (v := zI 1) hC dX12_freeVector_50 rfl ?_
      refine zr_isub hC dX12_freeVector_51 ?_
      obtain ⟨o5, h6⟩ := h4
      refine zr_put hC hZ fl_X12_336 zb_106 (by decide) o5 dX12_freeVector_52 (fun F7 hZ8 => ?_)
      refine g_lv (lv' := [some (.ref t), none, some (.int (zI x2))]) ⟨rfl, rfl, trivial⟩ ?_
      obtain ⟨m9, h10⟩ := h6
      exact rl_freeVector_55 hC  m9 _ _ _ Rx2 hZ8 h10
    · have h11 := h2.2 c3
      refine g_aload_n hC dX12_freeVector_39 rfl ?_
      refine g_iconst (v := zI 2) hC dX12_freeVector_40 rfl ?_
      refine zr_callVv (As := [.int (zI 2)]) hC hZ rfl (rm_err X.la d b (by decide) hZ.rf h11) cl_X12_792 rfl rfl (Nat.le_of_ble_eq_true rfl) ⟨Nat.le_of_ble_eq_true rfl, Nat.le_of_ble_eq_true rfl⟩ dX12_freeVector_41 (fun s13 F14 hZ16 h17 => ?_)
      exact zr_vret hC hZ16 h17 dX12_freeVector_44
  · have h18 := hw.2 c1
    refine g_aload_n hC dX12_freeVector_15 rfl ?_
    refine zr_geta hC hZ fl_X12_339 zb_107 (by decide) dX12_freeVector_16 ?_
    refine g_iload_n hC dX12_freeVector_19 rfl ?_
    obtain ⟨o19, h20⟩ := h18
    obtain ⟨o21, h22⟩ := h20
    refine zr_iald (v := (za s0 107 (Int.toNat x2))) hC hZ zk_107 zb_107 zn_107 (by decide) o19 o21 rfl dX12_freeVector_20 ?_
    refine g_iload_n hC dX12_freeVector_21 rfl ?_
    refine zr_icmp_eq (tgt := 31) hC (hZ.ra 107 _) Rx1 dX12_freeVector_22 (by decide) (fun c23 => ?_) (fun c23 => ?_)
    · have h24 := h22.1 c23
      refine g_iload_n hC dX12_freeVector_31 rfl ?_
      refine g_aload_n hC dX12_freeVector_32 rfl ?_
      refine zr_get (e := (zv s0 106)) hC hZ fl_X12_336 zb_106 (by decide) rfl dX12_freeVector_33 ?_
      refine zr_icmp_ne (tgt := 45) hC Rx2 (hZ.rv 106) dX12_freeVector_36 (by decide) (fun c25 => ?_) (fun c25 => ?_)
      · have h26 := h24.1 c25
        refine g_aload_n hC dX12_freeVector_45 rfl ?_
        refine g_dup hC dX12_freeVector_46 rfl ?_
        refine zr_get (e := (zv s0 106)) hC hZ fl_X12_336 zb_106 (by decide) rfl dX12_freeVector_47 ?_
        refine g_iconst (v := zI 1) hC dX12_freeVector_50 rfl ?_
        refine zr_isub hC dX12_freeVector_51 ?_
        obtain ⟨o27, h28⟩ := h26
        refine zr_put hC hZ fl_X12_336 zb_106 (by decide) o27 dX12_freeVector_52 (fun F29 hZ30 => ?_)
        refine g_lv (lv' := [some (.ref t), none, some (.int (zI x2))]) ⟨rfl, rfl, trivial⟩ ?_
        obtain ⟨m31, h32⟩ := h28
        exact rl_freeVector_55 hC  m31 _ _ _ Rx2 hZ30 h32
      · have h33 := h24.2 c25
        refine g_aload_n hC dX12_freeVector_39 rfl ?_
        refine g_iconst (v := zI 2) hC dX12_freeVector_40 rfl ?_
        refine zr_callVv (As := [.int (zI 2)]) hC hZ rfl (rm_err X.la d b (by decide) hZ.rf h33) cl_X12_792 rfl rfl (Nat.le_of_ble_eq_true rfl) ⟨Nat.le_of_ble_eq_true rfl, Nat.le_of_ble_eq_true rfl⟩ dX12_freeVector_41 (fun s35 F36 hZ38 h39 => ?_)
        exact zr_vret hC hZ38 h39 dX12_freeVector_44
    · have h40 := h22.2 c23
      refine zr_iinc (x := x2) (lv' := [some (.ref t), some (.int (zI x1)), some (.int (zI (x2 + 1)))]) hC dX12_freeVector_25 rfl rfl rfl ?_
      refine g_goto (tgt := 7) hC dX12_freeVector_28 (by decide) ?_
      obtain ⟨o41, h42⟩ := h40
      exact hk7 _ _ _ _ Rx1 o41 hZ h42
theorem rl_freeVector_7 {X : gX} {d : gD} {b t : Nat} {T : Nat → Nat} {F0 : gM} (hC : gC RX12 cX12_freeVector 3 none "freeVector" (gR 1 0 0) d b X) {Q : zS → Prop}   : ∀ (m : Nat) (F : gM) (s0 : zS) (x1 : Int) (x2 : Int), zR x1 → zR x2 → zZ d t T F0 F s0 → wr_freeVector_7 Q  m s0 x1 x2 → gG X d b (zQv X d b t T F0 Q) F 0 0 7 [some (.ref t), some (.int (zI x1)), some (.int (zI x2))] [] := by
  intro m
  induction m with
  | zero => intro F s0 x1 x2 Rx1 Rx2 hZ hw; exact False.elim hw
  | succ m ih => intro F s0 x1 x2 Rx1 Rx2 hZ hw; exact rb_freeVector_7 hC  ih Rx1 Rx2 hZ hw
set_option maxHeartbeats 4000000 in
set_option maxRecDepth 100000 in
theorem rm_freeVector (l : Launch) (d : gD) (b : Nat) {t : Nat} {T : Nat → Nat} {F : gM} {s0 : zS} {a0 : Int} (Ra0 : zR a0) {Q : zS → Prop} (hZ : zZ d t T F F s0) (hw : wr_freeVector s0 a0 Q) : gMv l d b yX12_freeVector cX12_freeVector 3 1 0 0 F [.ref t, .int (zI a0)] (zPv d t T F Q) := by
  refine gM_of2 rfl (nL := 3) (Nat.le_of_ble_eq_true rfl) ?_
  intro X hX hC; subst hX
  show gG X d b (zQv X d b t T F Q) F 0 0 0 [some (.ref t), some (.int (zI a0)), none] []
  unfold wr_freeVector at hw
  refine g_iload_n hC dX12_freeVector_0 rfl ?_
  refine zr_if_ne (tgt := 5) hC Ra0 dX12_freeVector_1 (by decide) (fun c1 => ?_) (fun c1 => ?_)
  · have h2 := hw.1 c1
    refine g_iconst (v := zI 0) hC dX12_freeVector_5 rfl ?_
    refine g_istore_n (lv' := [some (.ref t), some (.int (zI a0)), some (.int (zI 0))]) hC dX12_freeVector_6 (Nat.le_of_ble_eq_true rfl) rfl rfl ?_
    obtain ⟨m3, h4⟩ := h2
    exact rl_freeVector_7 hC  m3 _ _ _ _ Ra0 (by decide) hZ h4
  · have h5 := hw.2 c1
    exact zr_vret hC hZ h5 dX12_freeVector_4
theorem dX12_peek_0 : decode cX12_peek 0 = .ok (.aload_n 0, 1) := by decide +kernel
theorem dX12_peek_1 : decode cX12_peek 1 = .ok (.getfield 360, 3) := by decide +kernel
theorem dX12_peek_4 : decode cX12_peek 4 = .ok (.istore_n 1, 1) := by decide +kernel
theorem dX12_peek_5 : decode cX12_peek 5 = .ok (.aload_n 0, 1) := by decide +kernel
theorem dX12_peek_6 : decode cX12_peek 6 = .ok (.getfield 357, 3) := by decide +kernel
theorem dX12_peek_9 : decode cX12_peek 9 = .ok (.iload_n 1, 1) := by decide +kernel
theorem dX12_peek_10 : decode cX12_peek 10 = .ok (.iaload, 1) := by decide +kernel
theorem dX12_peek_11 : decode cX12_peek 11 = .ok (.aload_n 0, 1) := by decide +kernel
theorem dX12_peek_12 : decode cX12_peek 12 = .ok (.getfield 354, 3) := by decide +kernel
theorem dX12_peek_15 : decode cX12_peek 15 = .ok (.iload_n 1, 1) := by decide +kernel
theorem dX12_peek_16 : decode cX12_peek 16 = .ok (.iaload, 1) := by decide +kernel
theorem dX12_peek_17 : decode cX12_peek 17 = .ok (.if_icmp .ne 7, 3) := by decide +kernel
theorem dX12_peek_20 : decode cX12_peek 20 = .ok (.iconst (-1), 1) := by decide +kernel
theorem dX12_peek_21 : decode cX12_peek 21 = .ok (.goto 24, 3) := by decide +kernel
theorem dX12_peek_24 : decode cX12_peek 24 = .ok (.aload_n 0, 1) := by decide +kernel
theorem dX12_peek_25 : decode cX12_peek 25 = .ok (.getfield 345, 3) := by decide +kernel
theorem dX12_peek_28 : decode cX12_peek 28 = .ok (.sipush 6000, 3) := by decide +kernel
theorem dX12_peek_31 : decode cX12_peek 31 = .ok (.iload_n 1, 1) := by decide +kernel
theorem dX12_peek_32 : decode cX12_peek 32 = .ok (.imul, 1) := by decide +kernel
theorem dX12_peek_33 : decode cX12_peek 33 = .ok (.aload_n 0, 1) := by decide +kernel
theorem dX12_peek_34 : decode cX12_peek 34 = .ok (.getfield 357, 3) := by decide +kernel
theorem dX12_peek_37 : decode cX12_peek 37 = .ok (.iload_n 1, 1) := by decide +kernel
theorem dX12_peek_38 : decode cX12_peek 38 = .ok (.iaload, 1) := by decide +kernel
theorem dX12_peek_39 : decode cX12_peek 39 = .ok (.iadd, 1) := by decide +kernel
theorem dX12_peek_40 : decode cX12_peek 40 = .ok (.baload, 1) := by decide +kernel
theorem dX12_peek_41 : decode cX12_peek 41 = .ok (.sipush 255, 3) := by decide +kernel
theorem dX12_peek_44 : decode cX12_peek 44 = .ok (.iand, 1) := by decide +kernel
theorem dX12_peek_45 : decode cX12_peek 45 = .ok (.ireturn, 1) := by decide +kernel
def wr_peek (s0 : zS)  (Q : Int → zS → Prop) : Prop :=
  (0 ≤ (zv s0 114)) ∧ ((zv s0 114) < 4) ∧ (0 ≤ (zv s0 114)) ∧ ((zv s0 114) < 4) ∧ ((¬ (za s0 113 (Int.toNat (zv s0 114))) = (za s0 112 (Int.toNat (zv s0 114))) → (0 ≤ (zv s0 114)) ∧ ((zv s0 114) < 4) ∧ (0 ≤ ((6000 * (zv s0 114)) + (za s0 113 (Int.toNat (zv s0 114))))) ∧ (((6000 * (zv s0 114)) + (za s0 113 (Int.toNat (zv s0 114)))) < 24000) ∧ Q (zan (za s0 109 (Int.toNat ((6000 * (zv s0 114)) + (za s0 113 (Int.toNat (zv s0 114)))))) 255) s0) ∧ ((za s0 113 (Int.toNat (zv s0 114))) = (za s0 112 (Int.toNat (zv s0 114))) → Q (-1) s0))
set_option maxHeartbeats 4000000 in
set_option maxRecDepth 100000 in
theorem rm_peek (l : Launch) (d : gD) (b : Nat) {t : Nat} {T : Nat → Nat} {F : gM} {s0 : zS}   {Q : Int → zS → Prop} (hZ : zZ d t T F F s0) (hw : wr_peek s0  Q) : gMi l d b yX12_peek cX12_peek 2 .int 0 0 0 F [.ref t] (zPi d t T F Q) := by
  refine gM_of2 rfl (nL := 2) (Nat.le_of_ble_eq_true rfl) ?_
  intro X hX hC; subst hX
  show gG X d b (zQi X d b t T F Q) F 0 0 0 [some (.ref t), none] []
  unfold wr_peek at hw
  refine g_aload_n hC dX12_peek_0 rfl ?_
  refine zr_get (e := (zv s0 114)) hC hZ fl_X12_360 zb_114 (by decide) rfl dX12_peek_1 ?_
  refine g_istore_n (lv' := [some (.ref t), some (.int (zI (zv s0 114)))]) hC dX12_peek_4 (Nat.le_of_ble_eq_true rfl) rfl rfl ?_
  refine g_aload_n hC dX12_peek_5 rfl ?_
  refine zr_geta hC hZ fl_X12_357 zb_113 (by decide) dX12_peek_6 ?_
  refine g_iload_n hC dX12_peek_9 rfl ?_
  obtain ⟨o1, h2⟩ := hw
  obtain ⟨o3, h4⟩ := h2
  refine zr_iald (v := (za s0 113 (Int.toNat (zv s0 114)))) hC hZ zk_113 zb_113 zn_113 (by decide) o1 o3 rfl dX12_peek_10 ?_
  refine g_aload_n hC dX12_peek_11 rfl ?_
  refine zr_geta hC hZ fl_X12_354 zb_112 (by decide) dX12_peek_12 ?_
  refine g_iload_n hC dX12_peek_15 rfl ?_
  obtain ⟨o5, h6⟩ := h4
  obtain ⟨o7, h8⟩ := h6
  refine zr_iald (v := (za s0 112 (Int.toNat (zv s0 114)))) hC hZ zk_112 zb_112 zn_112 (by decide) o5 o7 rfl dX12_peek_16 ?_
  refine zr_icmp_ne (tgt := 24) hC (hZ.ra 113 _) (hZ.ra 112 _) dX12_peek_17 (by decide) (fun c9 => ?_) (fun c9 => ?_)
  · have h10 := h8.1 c9
    refine g_aload_n hC dX12_peek_24 rfl ?_
    refine zr_geta hC hZ fl_X12_345 zb_109 (by decide) dX12_peek_25 ?_
    refine g_sipush (v := zI 6000) hC dX12_peek_28 rfl ?_
    refine g_iload_n hC dX12_peek_31 rfl ?_
    refine zr_imul hC dX12_peek_32 ?_
    refine g_aload_n hC dX12_peek_33 rfl ?_
    refine zr_geta hC hZ fl_X12_357 zb_113 (by decide) dX12_peek_34 ?_
    refine g_iload_n hC dX12_peek_37 rfl ?_
    obtain ⟨o11, h12⟩ := h10
    obtain ⟨o13, h14⟩ := h12
    refine zr_iald (v := (za s0 113 (Int.toNat (zv s0 114)))) hC hZ zk_113 zb_113 zn_113 (by decide) o11 o13 rfl dX12_peek_38 ?_
    refine zr_iadd hC dX12_peek_39 ?_
    obtain ⟨o15, h16⟩ := h14
    obtain ⟨o17, h18⟩ := h16
    refine zr_bald (v := (za s0 109 (Int.toNat ((6000 * (zv s0 114)) + (za s0 113 (Int.toNat (zv s0 114))))))) hC hZ zk_109 zb_109 zn_109 (by decide) o15 o17 rfl dX12_peek_40 ?_
    refine g_sipush (v := zI 255) hC dX12_peek_41 rfl ?_
    refine zr_iand hC dX12_peek_44 ?_
    exact zr_iret hC hZ (zR_t _) h18 dX12_peek_45
  · have h19 := h8.2 c9
    refine g_iconst (v := zI (-1)) hC dX12_peek_20 rfl ?_
    refine g_goto (tgt := 45) hC dX12_peek_21 (by decide) ?_
    exact zr_iret hC hZ (by decide) h19 dX12_peek_45
theorem dX12_isBlank_0 : decode cX12_isBlank 0 = .ok (.iload_n 0, 1) := by decide +kernel
theorem dX12_isBlank_1 : decode cX12_isBlank 1 = .ok (.bipush 32, 2) := by decide +kernel
theorem dX12_isBlank_3 : decode cX12_isBlank 3 = .ok (.if_icmp .eq 21, 3) := by decide +kernel
theorem dX12_isBlank_6 : decode cX12_isBlank 6 = .ok (.iload_n 0, 1) := by decide +kernel
theorem dX12_isBlank_7 : decode cX12_isBlank 7 = .ok (.bipush 9, 2) := by decide +kernel
theorem dX12_isBlank_9 : decode cX12_isBlank 9 = .ok (.if_icmp .eq 15, 3) := by decide +kernel
theorem dX12_isBlank_12 : decode cX12_isBlank 12 = .ok (.iload_n 0, 1) := by decide +kernel
theorem dX12_isBlank_13 : decode cX12_isBlank 13 = .ok (.bipush 10, 2) := by decide +kernel
theorem dX12_isBlank_15 : decode cX12_isBlank 15 = .ok (.if_icmp .eq 9, 3) := by decide +kernel
theorem dX12_isBlank_18 : decode cX12_isBlank 18 = .ok (.iload_n 0, 1) := by decide +kernel
theorem dX12_isBlank_19 : decode cX12_isBlank 19 = .ok (.bipush 13, 2) := by decide +kernel
theorem dX12_isBlank_21 : decode cX12_isBlank 21 = .ok (.if_icmp .ne 7, 3) := by decide +kernel
theorem dX12_isBlank_24 : decode cX12_isBlank 24 = .ok (.iconst 1, 1) := by decide +kernel
theorem dX12_isBlank_25 : decode cX12_isBlank 25 = .ok (.goto 4, 3) := by decide +kernel
theorem dX12_isBlank_28 : decode cX12_isBlank 28 = .ok (.iconst 0, 1) := by decide +kernel
theorem dX12_isBlank_29 : decode cX12_isBlank 29 = .ok (.ireturn, 1) := by decide +kernel
def wr_isBlank (s0 : zS) (a0 : Int) (Q : Int → zS → Prop) : Prop :=
  ((a0 = 32 → Q 1 s0) ∧ (¬ a0 = 32 → ((a0 = 9 → Q 1 s0) ∧ (¬ a0 = 9 → ((a0 = 10 → Q 1 s0) ∧ (¬ a0 = 10 → ((¬ a0 = 13 → Q 0 s0) ∧ (a0 = 13 → Q 1 s0))))))))
set_option maxHeartbeats 4000000 in
set_option maxRecDepth 100000 in
theorem rm_isBlank (l : Launch) (d : gD) (b : Nat) {t : Nat} {T : Nat → Nat} {F : gM} {s0 : zS} {a0 : Int} (Ra0 : zR a0) {Q : Int → zS → Prop} (hZ : zZ d t T F F s0) (hw : wr_isBlank s0 a0 Q) : gMi l d b yX12_isBlank cX12_isBlank 1 .boolean 0 0 0 F [.int (zI a0)] (zPi d t T F Q) := by
  refine gM_of2 rfl (nL := 1) (Nat.le_of_ble_eq_true rfl) ?_
  intro X hX hC; subst hX
  show gG X d b (zQi X d b t T F Q) F 0 0 0 [some (.int (zI a0))] []
  unfold wr_isBlank at hw
  refine g_iload_n hC dX12_isBlank_0 rfl ?_
  refine g_bipush (v := zI 32) hC dX12_isBlank_1 rfl ?_
  refine zr_icmp_eq (tgt := 24) hC Ra0 (by decide) dX12_isBlank_3 (by decide) (fun c1 => ?_) (fun c1 => ?_)
  · have h2 := hw.1 c1
    refine g_iconst (v := zI 1) hC dX12_isBlank_24 rfl ?_
    refine g_goto (tgt := 29) hC dX12_isBlank_25 (by decide) ?_
    exact zr_zret hC hZ (Or.inr rfl) h2 dX12_isBlank_29
  · have h3 := hw.2 c1
    refine g_iload_n hC dX12_isBlank_6 rfl ?_
    refine g_bipush (v := zI 9) hC dX12_isBlank_7 rfl ?_
    refine zr_icmp_eq (tgt := 24) hC Ra0 (by decide) dX12_isBlank_9 (by decide) (fun c4 => ?_) (fun c4 => ?_)
    · have h5 := h3.1 c4
      refine g_iconst (v := zI 1) hC dX12_isBlank_24 rfl ?_
      refine g_goto (tgt := 29) hC dX12_isBlank_25 (by decide) ?_
      exact zr_zret hC hZ (Or.inr rfl) h5 dX12_isBlank_29
    · have h6 := h3.2 c4
      refine g_iload_n hC dX12_isBlank_12 rfl ?_
      refine g_bipush (v := zI 10) hC dX12_isBlank_13 rfl ?_
      refine zr_icmp_eq (tgt := 24) hC Ra0 (by decide) dX12_isBlank_15 (by decide) (fun c7 => ?_) (fun c7 => ?_)
      · have h8 := h6.1 c7
        refine g_iconst (v := zI 1) hC dX12_isBlank_24 rfl ?_
        refine g_goto (tgt := 29) hC dX12_isBlank_25 (by decide) ?_
        exact zr_zret hC hZ (Or.inr rfl) h8 dX12_isBlank_29
      · have h9 := h6.2 c7
        refine g_iload_n hC dX12_isBlank_18 rfl ?_
        refine g_bipush (v := zI 13) hC dX12_isBlank_19 rfl ?_
        refine zr_icmp_ne (tgt := 28) hC Ra0 (by decide) dX12_isBlank_21 (by decide) (fun c10 => ?_) (fun c10 => ?_)
        · have h11 := h9.1 c10
          refine g_iconst (v := zI 0) hC dX12_isBlank_28 rfl ?_
          exact zr_zret hC hZ (Or.inl rfl) h11 dX12_isBlank_29
        · have h12 := h9.2 c10
          refine g_iconst (v := zI 1) hC dX12_isBlank_24 rfl ?_
          refine g_goto (tgt := 29) hC dX12_isBlank_25 (by decide) ?_
          exact zr_zret hC hZ (Or.inr rfl) h12 dX12_isBlank_29
theorem dX12_readNumber_0 : decode cX12_readNumber 0 = .ok (.aload_n 0, 1) := by decide +kernel
theorem dX12_readNumber_1 : decode cX12_readNumber 1 = .ok (.getfield 360, 3) := by decide +kernel
theorem dX12_readNumber_4 : decode cX12_readNumber 4 = .ok (.istore_n 1, 1) := by decide +kernel
theorem dX12_readNumber_5 : decode cX12_readNumber 5 = .ok (.aload_n 0, 1) := by decide +kernel
theorem dX12_readNumber_6 : decode cX12_readNumber 6 = .ok (.invokevirtual 837, 3) := by decide +kernel
theorem dX12_readNumber_9 : decode cX12_readNumber 9 = .ok (.invokestatic 840, 3) := by decide +kernel
theorem dX12_readNumber_12 : decode cX12_readNumber 12 = .ok (.ifCond .eq 26, 3) := by decide +kernel
theorem dX12_readNumber_15 : decode cX12_readNumber 15 = .ok (.aload_n 0, 1) := by decide +kernel
theorem dX12_readNumber_16 : decode cX12_readNumber 16 = .ok (.getfield 357, 3) := by decide +kernel
theorem dX12_readNumber_19 : decode cX12_readNumber 19 = .ok (.iload_n 1, 1) := by decide +kernel
theorem dX12_readNumber_20 : decode cX12_readNumber 20 = .ok (.aload_n 0, 1) := by decide +kernel
theorem dX12_readNumber_21 : decode cX12_readNumber 21 = .ok (.getfield 348, 3) := by decide +kernel
theorem dX12_readNumber_24 : decode cX12_readNumber 24 = .ok (.sipush 6000, 3) := by decide +kernel
theorem dX12_readNumber_27 : decode cX12_readNumber 27 = .ok (.iload_n 1, 1) := by decide +kernel
theorem dX12_readNumber_28 : decode cX12_readNumber 28 = .ok (.imul, 1) := by decide +kernel
theorem dX12_readNumber_29 : decode cX12_readNumber 29 = .ok (.aload_n 0, 1) := by decide +kernel
theorem dX12_readNumber_30 : decode cX12_readNumber 30 = .ok (.getfield 357, 3) := by decide +kernel
theorem dX12_readNumber_33 : decode cX12_readNumber 33 = .ok (.iload_n 1, 1) := by decide +kernel
theorem dX12_readNumber_34 : decode cX12_readNumber 34 = .ok (.iaload, 1) := by decide +kernel
theorem dX12_readNumber_35 : decode cX12_readNumber 35 = .ok (.iadd, 1) := by decide +kernel
theorem dX12_readNumber_36 : decode cX12_readNumber 36 = .ok (.iaload, 1) := by decide +kernel
theorem dX12_readNumber_37 : decode cX12_readNumber 37 = .ok (.iastore, 1) := by decide +kernel
theorem dX12_readNumber_38 : decode cX12_readNumber 38 = .ok (.aload_n 0, 1) := by decide +kernel
theorem dX12_readNumber_39 : decode cX12_readNumber 39 = .ok (.invokevirtual 837, 3) := by decide +kernel
theorem dX12_readNumber_42 : decode cX12_readNumber 42 = .ok (.istore_n 2, 1) := by decide +kernel
theorem dX12_readNumber_43 : decode cX12_readNumber 43 = .ok (.iload_n 2, 1) := by decide +kernel
theorem dX12_readNumber_44 : decode cX12_readNumber 44 = .ok (.bipush 45, 2) := by decide +kernel
theorem dX12_readNumber_46 : decode cX12_readNumber 46 = .ok (.if_icmp .ne 7, 3) := by decide +kernel
theorem dX12_readNumber_49 : decode cX12_readNumber 49 = .ok (.iconst 1, 1) := by decide +kernel
theorem dX12_readNumber_50 : decode cX12_readNumber 50 = .ok (.goto 4, 3) := by decide +kernel
theorem dX12_readNumber_53 : decode cX12_readNumber 53 = .ok (.iconst 0, 1) := by decide +kernel
theorem dX12_readNumber_54 : decode cX12_readNumber 54 = .ok (.istore_n 3, 1) := by decide +kernel
theorem dX12_readNumber_55 : decode cX12_readNumber 55 = .ok (.iload_n 3, 1) := by decide +kernel
theorem dX12_readNumber_56 : decode cX12_readNumber 56 = .ok (.ifCond .ne 9, 3) := by decide +kernel
theorem dX12_readNumber_59 : decode cX12_readNumber 59 = .ok (.iload_n 2, 1) := by decide +kernel
theorem dX12_readNumber_60 : decode cX12_readNumber 60 = .ok (.bipush 43, 2) := by decide +kernel
theorem dX12_readNumber_62 : decode cX12_readNumber 62 = .ok (.if_icmp .ne 8, 3) := by decide +kernel
theorem dX12_readNumber_65 : decode cX12_readNumber 65 = .ok (.aload_n 0, 1) := by decide +kernel
theorem dX12_readNumber_66 : decode cX12_readNumber 66 = .ok (.invokevirtual 843, 3) := by decide +kernel
theorem dX12_readNumber_69 : decode cX12_readNumber 69 = .ok (.pop, 1) := by decide +kernel
theorem dX12_readNumber_70 : decode cX12_readNumber 70 = .ok (.aload_n 0, 1) := by decide +kernel
theorem dX12_readNumber_71 : decode cX12_readNumber 71 = .ok (.invokevirtual 837, 3) := by decide +kernel
theorem dX12_readNumber_74 : decode cX12_readNumber 74 = .ok (.invokestatic 471, 3) := by decide +kernel
theorem dX12_readNumber_77 : decode cX12_readNumber 77 = .ok (.ifCond .ne 5, 3) := by decide +kernel
theorem dX12_readNumber_80 : decode cX12_readNumber 80 = .ok (.iconst 0, 1) := by decide +kernel
theorem dX12_readNumber_81 : decode cX12_readNumber 81 = .ok (.ireturn, 1) := by decide +kernel
theorem dX12_readNumber_82 : decode cX12_readNumber 82 = .ok (.sipush 6000, 3) := by decide +kernel
theorem dX12_readNumber_85 : decode cX12_readNumber 85 = .ok (.iload_n 1, 1) := by decide +kernel
theorem dX12_readNumber_86 : decode cX12_readNumber 86 = .ok (.imul, 1) := by decide +kernel
theorem dX12_readNumber_87 : decode cX12_readNumber 87 = .ok (.aload_n 0, 1) := by decide +kernel
theorem dX12_readNumber_88 : decode cX12_readNumber 88 = .ok (.getfield 357, 3) := by decide +kernel
theorem dX12_readNumber_91 : decode cX12_readNumber 91 = .ok (.iload_n 1, 1) := by decide +kernel
theorem dX12_readNumber_92 : decode cX12_readNumber 92 = .ok (.iaload, 1) := by decide +kernel
theorem dX12_readNumber_93 : decode cX12_readNumber 93 = .ok (.iadd, 1) := by decide +kernel
theorem dX12_readNumber_94 : decode cX12_readNumber 94 = .ok (.istore 4, 2) := by decide +kernel
theorem dX12_readNumber_96 : decode cX12_readNumber 96 = .ok (.aload_n 0, 1) := by decide +kernel
theorem dX12_readNumber_97 : decode cX12_readNumber 97 = .ok (.getfield 357, 3) := by decide +kernel
theorem dX12_readNumber_100 : decode cX12_readNumber 100 = .ok (.iload_n 1, 1) := by decide +kernel
theorem dX12_readNumber_101 : decode cX12_readNumber 101 = .ok (.aload_n 0, 1) := by decide +kernel
theorem dX12_readNumber_102 : decode cX12_readNumber 102 = .ok (.getfield 348, 3) := by decide +kernel
theorem dX12_readNumber_105 : decode cX12_readNumber 105 = .ok (.iload 4, 2) := by decide +kernel
theorem dX12_readNumber_107 : decode cX12_readNumber 107 = .ok (.iaload, 1) := by decide +kernel
theorem dX12_readNumber_108 : decode cX12_readNumber 108 = .ok (.iastore, 1) := by decide +kernel
theorem dX12_readNumber_109 : decode cX12_readNumber 109 = .ok (.iload_n 3, 1) := by decide +kernel
theorem dX12_readNumber_110 : decode cX12_readNumber 110 = .ok (.ifCond .eq 14, 3) := by decide +kernel
theorem dX12_readNumber_113 : decode cX12_readNumber 113 = .ok (.aload_n 0, 1) := by decide +kernel
theorem dX12_readNumber_114 : decode cX12_readNumber 114 = .ok (.getfield 351, 3) := by decide +kernel
theorem dX12_readNumber_117 : decode cX12_readNumber 117 = .ok (.iload 4, 2) := by decide +kernel
theorem dX12_readNumber_119 : decode cX12_readNumber 119 = .ok (.iaload, 1) := by decide +kernel
theorem dX12_readNumber_120 : decode cX12_readNumber 120 = .ok (.ineg, 1) := by decide +kernel
theorem dX12_readNumber_121 : decode cX12_readNumber 121 = .ok (.goto 10, 3) := by decide +kernel
theorem dX12_readNumber_124 : decode cX12_readNumber 124 = .ok (.aload_n 0, 1) := by decide +kernel
theorem dX12_readNumber_125 : decode cX12_readNumber 125 = .ok (.getfield 351, 3) := by decide +kernel
theorem dX12_readNumber_128 : decode cX12_readNumber 128 = .ok (.iload 4, 2) := by decide +kernel
theorem dX12_readNumber_130 : decode cX12_readNumber 130 = .ok (.iaload, 1) := by decide +kernel
theorem dX12_readNumber_131 : decode cX12_readNumber 131 = .ok (.ireturn, 1) := by decide +kernel
def wr_readNumber_70 (Q : Int → zS → Prop)  (s0 : zS) (x1 : Int) (x3 : Int) : Prop :=
  wr_peek s0  (fun r1 s2 => wr_isDigit s2 r1 (fun r7 s8 => ((¬ r7 = 0 → (0 ≤ x1) ∧ (x1 < 4) ∧ (0 ≤ ((6000 * x1) + (za s8 113 (Int.toNat x1)))) ∧ (((6000 * x1) + (za s8 113 (Int.toNat x1))) < 24000) ∧ (0 ≤ x1) ∧ (x1 < 4) ∧ ((x3 = 0 → (0 ≤ ((6000 * x1) + (za s8 113 (Int.toNat x1)))) ∧ (((6000 * x1) + (za s8 113 (Int.toNat x1))) < 24000) ∧ Q (za s8 111 (Int.toNat ((6000 * x1) + (za s8 113 (Int.toNat x1))))) (zpa s8 113 (Int.toNat x1) (za s8 110 (Int.toNat ((6000 * x1) + (za s8 113 (Int.toNat x1))))))) ∧ (¬ x3 = 0 → (0 ≤ ((6000 * x1) + (za s8 113 (Int.toNat x1)))) ∧ (((6000 * x1) + (za s8 113 (Int.toNat x1))) < 24000) ∧ ∀ z40 : Int, z40 = zw (-(za s8 111 (Int.toNat ((6000 * x1) + (za s8 113 (Int.toNat x1)))))) → zR z40 → Q z40 (zpa s8 113 (Int.toNat x1) (za s8 110 (Int.toNat ((6000 * x1) + (za s8 113 (Int.toNat x1))))))))) ∧ (r7 = 0 → Q 0 s8))))
def wr_readNumber_38 (Q : Int → zS → Prop)  (s0 : zS) (x1 : Int) : Prop :=
  wr_peek s0  (fun r1 s2 => ((¬ r1 = 45 → ((¬ r1 = 43 → wr_readNumber_70 Q  s2 x1 0) ∧ (r1 = 43 → wr_nextByte s2  (fun r13 s14 => wr_readNumber_70 Q  s14 x1 0)))) ∧ (r1 = 45 → wr_nextByte s2  (fun r21 s22 => wr_readNumber_70 Q  s22 x1 1))))
def wr_readNumber (s0 : zS)  (Q : Int → zS → Prop) : Prop :=
  wr_peek s0  (fun r1 s2 => wr_isBlank s2 r1 (fun r7 s8 => ((r7 = 0 → wr_readNumber_38 Q  s8 (zv s0 114)) ∧ (¬ r7 = 0 → (0 ≤ (zv s0 114)) ∧ ((zv s0 114) < 4) ∧ (0 ≤ ((6000 * (zv s0 114)) + (za s8 113 (Int.toNat (zv s0 114))))) ∧ (((6000 * (zv s0 114)) + (za s8 113 (Int.toNat (zv s0 114)))) < 24000) ∧ (0 ≤ (zv s0 114)) ∧ ((zv s0 114) < 4) ∧ wr_readNumber_38 Q  (zpa s8 113 (Int.toNat (zv s0 114)) (za s8 110 (Int.toNat ((6000 * (zv s0 114)) + (za s8 113 (Int.toNat (zv s0 114))))))) (zv s0 114)))))
set_option maxHeartbeats 4000000 in
set_option maxRecDepth 100000 in
theorem rj_readNumber_70 {X : gX} {d : gD} {b t : Nat} {T : Nat → Nat} {F0 : gM} (hC : gC RX12 cX12_readNumber 5 (some .int) "readNumber" (gR 1 0 0) d b X) {Q : Int → zS → Prop}   {F : gM} {s0 : zS} {x1 : Int} {x3 : Int} (Rx1 : zR x1) (Rx3 : zR x3) (hZ : zZ d t T F0 F s0) (hw : wr_readNumber_70 Q  s0 x1 x3) : gG X d b (zQi X d b t T F0 Q) F 0 0 70 [some (.ref t), some (.int (zI x1)), none, some (.int (zI x3)), none] [] := by
  unfold wr_readNumber_70 at hw
  refine g_aload_n hC dX12_readNumber_70 rfl ?_
  refine zr_callVi (As := []) hC hZ rfl (rm_peek X.la d b  hZ.rf hw) cl_X12_837 rfl rfl (Nat.le_of_ble_eq_true rfl) ⟨Nat.le_of_ble_eq_true rfl, Nat.le_of_ble_eq_true rfl⟩ dX12_readNumber_71 (fun r1 s2 F3 R4 hZ5 h6 => ?_)
  refine zr_callSi (As := [.int (zI r1)]) hC hZ5 (rm_isDigit X.la d b R4 hZ5.rf h6) cl_X12_471 rfl rfl (Nat.le_of_ble_eq_true rfl) ⟨Nat.le_of_ble_eq_true rfl, Nat.le_of_ble_eq_true rfl⟩ dX12_readNumber_74 (fun r7 s8 F9 R10 hZ11 h12 => ?_)
  refine zr_if_ne (tgt := 82) hC R10 dX12_readNumber_77 (by decide) (fun c13 => ?_) (fun c13 => ?_)
  · have h14 := h12.1 c13
    refine g_sipush (v := zI 6000) hC dX12_readNumber_82 rfl ?_
    refine g_iload_n hC dX12_readNumber_85 rfl ?_
    refine zr_imul hC dX12_readNumber_86 ?_
    refine g_aload_n hC dX12_readNumber_87 rfl ?_
    refine zr_geta hC hZ11 fl_X12_357 zb_113 (by decide) dX12_readNumber_88 ?_
    refine g_iload_n hC dX12_readNumber_91 rfl ?_
    obtain ⟨o15, h16⟩ := h14
    obtain ⟨o17, h18⟩ := h16
    refine zr_iald (v := (za s8 113 (Int.toNat x1))) hC hZ11 zk_113 zb_113 zn_113 (by decide) o15 o17 rfl dX12_readNumber_92 ?_
    refine zr_iadd hC dX12_readNumber_93 ?_
    refine g_istore (lv' := [some (.ref t), some (.int (zI x1)), none, some (.int (zI x3)), some (.int (zI ((6000 * x1) + (za s8 113 (Int.toNat x1)))))]) hC dX12_readNumber_94 (Nat.le_of_ble_eq_true rfl) rfl rfl ?_
    refine g_aload_n hC dX12_readNumber_96 rfl ?_
    refine zr_geta hC hZ11 fl_X12_357 zb_113 (by decide) dX12_readNumber_97 ?_
    refine g_iload_n hC dX12_readNumber_100 rfl ?_
    refine g_aload_n hC dX12_readNumber_101 rfl ?_
    refine zr_geta hC hZ11 fl_X12_348 zb_110 (by decide) dX12_readNumber_102 ?_
    refine g_iload hC dX12_readNumber_105 rfl ?_
    obtain ⟨o19, h20⟩ := h18
    obtain ⟨o21, h22⟩ := h20
    refine zr_iald (v := (za s8 110 (Int.toNat ((6000 * x1) + (za s8 113 (Int.toNat x1)))))) hC hZ11 zk_110 zb_110 zn_110 (by decide) o19 o21 rfl dX12_readNumber_107 ?_
    obtain ⟨o23, h24⟩ := h22
    obtain ⟨o25, h26⟩ := h24
    refine zr_iast hC hZ11 zk_113 zb_113 zn_113 (by decide) o23 o25 (hZ11.ra 110 _) dX12_readNumber_108 (fun F27 hZ28 => ?_)
    refine g_iload_n hC dX12_readNumber_109 rfl ?_
    refine zr_if_eq (tgt := 124) hC Rx3 dX12_readNumber_110 (by decide) (fun c29 => ?_) (fun c29 => ?_)
    · have h30 := h26.1 c29
      refine g_aload_n hC dX12_readNumber_124 rfl ?_
      refine zr_geta hC hZ28 fl_X12_351 zb_111 (by decide) dX12_readNumber_125 ?_
      refine g_iload hC dX12_readNumber_128 rfl ?_
      obtain ⟨o31, h32⟩ := h30
      obtain ⟨o33, h34⟩ := h32
      refine zr_iald (v := (za s8 111 (Int.toNat ((6000 * x1) + (za s8 113 (Int.toNat x1)))))) hC hZ28 zk_111 zb_111 zn_111 (by decide) o31 o33 rfl dX12_readNumber_130 ?_
      exact zr_iret hC hZ28 (hZ11.ra 111 _) h34 dX12_readNumber_131
    · have h35 := h26.2 c29
      refine g_aload_n hC dX12_readNumber_113 rfl ?_
      refine zr_geta hC hZ28 fl_X12_351 zb_111 (by decide) dX12_readNumber_114 ?_
      refine g_iload hC dX12_readNumber_117 rfl ?_
      obtain ⟨o36, h37⟩ := h35
      obtain ⟨o38, h39⟩ := h37
      refine zr_iald (v := (za s8 111 (Int.toNat ((6000 * x1) + (za s8 113 (Int.toNat x1)))))) hC hZ28 zk_111 zb_111 zn_111 (by decide) o36 o38 rfl dX12_readNumber_119 ?_
      refine zr_ineg hC dX12_readNumber_120 ?_
      refine zr_w (fun z40 e41 R42 => ?_)
      have h43 := h39 z40 e41 R42
      refine g_goto (tgt := 131) hC dX12_readNumber_121 (by decide) ?_
      exact zr_iret hC hZ28 R42 h43 dX12_readNumber_131
  · have h44 := h12.2 c13
    refine g_iconst (v := zI 0) hC dX12_readNumber_80 rfl ?_
    exact zr_iret hC hZ11 (by decide) h44 dX12_readNumber_81
set_option maxHeartbeats 4000000 in
set_option maxRecDepth 100000 in
theorem rj_readNumber_38 {X : gX} {d : gD} {b t : Nat} {T : Nat → Nat} {F0 : gM} (hC : gC RX12 cX12_readNumber 5 (some .int) "readNumber" (gR 1 0 0) d b X) {Q : Int → zS → Prop}   {F : gM} {s0 : zS} {x1 : Int} (Rx1 : zR x1) (hZ : zZ d t T F0 F s0) (hw : wr_readNumber_38 Q  s0 x1) : gG X d b (zQi X d b t T F0 Q) F 0 0 38 [some (.ref t), some (.int (zI x1)), none, none, none] [] := by
  unfold wr_readNumber_38 at hw
  refine g_aload_n hC dX12_readNumber_38 rfl ?_
  refine zr_callVi (As := []) hC hZ rfl (rm_peek X.la d b  hZ.rf hw) cl_X12_837 rfl rfl (Nat.le_of_ble_eq_true rfl) ⟨Nat.le_of_ble_eq_true rfl, Nat.le_of_ble_eq_true rfl⟩ dX12_readNumber_39 (fun r1 s2 F3 R4 hZ5 h6 => ?_)
  refine g_istore_n (lv' := [some (.ref t), some (.int (zI x1)), some (.int (zI r1)), none, none]) hC dX12_readNumber_42 (Nat.le_of_ble_eq_true rfl) rfl rfl ?_
  refine g_iload_n hC dX12_readNumber_43 rfl ?_
  refine g_bipush (v := zI 45) hC dX12_readNumber_44 rfl ?_
  refine zr_icmp_ne (tgt := 53) hC R4 (by decide) dX12_readNumber_46 (by decide) (fun c7 => ?_) (fun c7 => ?_)
  · have h8 := h6.1 c7
    refine g_iconst (v := zI 0) hC dX12_readNumber_53 rfl ?_
    refine g_istore_n (lv' := [some (.ref t), some (.int (zI x1)), some (.int (zI r1)), some (.int (zI 0)), none]) hC dX12_readNumber_54 (Nat.le_of_ble_eq_true rfl) rfl rfl ?_
    refine g_iload_n hC dX12_readNumber_55 rfl ?_
    refine zr_if_ne (tgt := 65) hC (by decide) dX12_readNumber_56 (by decide) (fun c9 => ?_) (fun c9 => ?_)
    · exact absurd (by decide) c9
    · refine g_iload_n hC dX12_readNumber_59 rfl ?_
      refine g_bipush (v := zI 43) hC dX12_readNumber_60 rfl ?_
      refine zr_icmp_ne (tgt := 70) hC R4 (by decide) dX12_readNumber_62 (by decide) (fun c10 => ?_) (fun c10 => ?_)
      · have h11 := h8.1 c10
        refine g_lv (lv' := [some (.ref t), some (.int (zI x1)), none, some (.int (zI 0)), none]) ⟨rfl, rfl, rfl, trivial⟩ ?_
        exact rj_readNumber_70 hC  Rx1 (by decide) hZ5 h11
      · have h12 := h8.2 c10
        refine g_aload_n hC dX12_readNumber_65 rfl ?_
        refine zr_callVi (As := []) hC hZ5 rfl (rm_nextByte X.la d b  hZ5.rf h12) cl_X12_843 rfl rfl (Nat.le_of_ble_eq_true rfl) ⟨Nat.le_of_ble_eq_true rfl, Nat.le_of_ble_eq_true rfl⟩ dX12_readNumber_66 (fun r13 s14 F15 R16 hZ17 h18 => ?_)
        refine g_pop hC dX12_readNumber_69 rfl ?_
        refine g_lv (lv' := [some (.ref t), some (.int (zI x1)), none, some (.int (zI 0)), none]) ⟨rfl, rfl, rfl, trivial⟩ ?_
        exact rj_readNumber_70 hC  Rx1 (by decide) hZ17 h18
  · have h19 := h6.2 c7
    refine g_iconst (v := zI 1) hC dX12_readNumber_49 rfl ?_
    refine g_goto (tgt := 54) hC dX12_readNumber_50 (by decide) ?_
    refine g_istore_n (lv' := [some (.ref t), some (.int (zI x1)), some (.int (zI r1)), some (.int (zI 1)), none]) hC dX12_readNumber_54 (Nat.le_of_ble_eq_true rfl) rfl rfl ?_
    refine g_iload_n hC dX12_readNumber_55 rfl ?_
    refine zr_if_ne (tgt := 65) hC (by decide) dX12_readNumber_56 (by decide) (fun c20 => ?_) (fun c20 => ?_)
    · refine g_aload_n hC dX12_readNumber_65 rfl ?_
      refine zr_callVi (As := []) hC hZ5 rfl (rm_nextByte X.la d b  hZ5.rf h19) cl_X12_843 rfl rfl (Nat.le_of_ble_eq_true rfl) ⟨Nat.le_of_ble_eq_true rfl, Nat.le_of_ble_eq_true rfl⟩ dX12_readNumber_66 (fun r21 s22 F23 R24 hZ25 h26 => ?_)
      refine g_pop hC dX12_readNumber_69 rfl ?_
      refine g_lv (lv' := [some (.ref t), some (.int (zI x1)), none, some (.int (zI 1)), none]) ⟨rfl, rfl, rfl, trivial⟩ ?_
      exact rj_readNumber_70 hC  Rx1 (by decide) hZ25 h26
    · exact absurd c20 (by decide)
set_option maxHeartbeats 4000000 in
set_option maxRecDepth 100000 in
theorem rm_readNumber (l : Launch) (d : gD) (b : Nat) {t : Nat} {T : Nat → Nat} {F : gM} {s0 : zS}   {Q : Int → zS → Prop} (hZ : zZ d t T F F s0) (hw : wr_readNumber s0  Q) : gMi l d b yX12_readNumber cX12_readNumber 5 .int 1 0 0 F [.ref t] (zPi d t T F Q) := by
  refine gM_of2 rfl (nL := 5) (Nat.le_of_ble_eq_true rfl) ?_
  intro X hX hC; subst hX
  show gG X d b (zQi X d b t T F Q) F 0 0 0 [some (.ref t), none, none, none, none] []
  unfold wr_readNumber at hw
  refine g_aload_n hC dX12_readNumber_0 rfl ?_
  refine zr_get (e := (zv s0 114)) hC hZ fl_X12_360 zb_114 (by decide) rfl dX12_readNumber_1 ?_
  refine g_istore_n (lv' := [some (.ref t), some (.int (zI (zv s0 114))), none, none, none]) hC dX12_readNumber_4 (Nat.le_of_ble_eq_true rfl) rfl rfl ?_
  refine g_aload_n hC dX12_readNumber_5 rfl ?_
  refine zr_callVi (As := []) hC hZ rfl (rm_peek X.la d b  hZ.rf hw) cl_X12_837 rfl rfl (Nat.le_of_ble_eq_true rfl) ⟨Nat.le_of_ble_eq_true rfl, Nat.le_of_ble_eq_true rfl⟩ dX12_readNumber_6 (fun r1 s2 F3 R4 hZ5 h6 => ?_)
  refine zr_callSi (As := [.int (zI r1)]) hC hZ5 (rm_isBlank X.la d b R4 hZ5.rf h6) cl_X12_840 rfl rfl (Nat.le_of_ble_eq_true rfl) ⟨Nat.le_of_ble_eq_true rfl, Nat.le_of_ble_eq_true rfl⟩ dX12_readNumber_9 (fun r7 s8 F9 R10 hZ11 h12 => ?_)
  refine zr_if_eq (tgt := 38) hC R10 dX12_readNumber_12 (by decide) (fun c13 => ?_) (fun c13 => ?_)
  · have h14 := h12.1 c13
    exact rj_readNumber_38 hC  (hZ.rv 114) hZ11 h14
  · have h15 := h12.2 c13
    refine g_aload_n hC dX12_readNumber_15 rfl ?_
    refine zr_geta hC hZ11 fl_X12_357 zb_113 (by decide) dX12_readNumber_16 ?_
    refine g_iload_n hC dX12_readNumber_19 rfl ?_
    refine g_aload_n hC dX12_readNumber_20 rfl ?_
    refine zr_geta hC hZ11 fl_X12_348 zb_110 (by decide) dX12_readNumber_21 ?_
    refine g_sipush (v := zI 6000) hC dX12_readNumber_24 rfl ?_
    refine g_iload_n hC dX12_readNumber_27 rfl ?_
    refine zr_imul hC dX12_readNumber_28 ?_
    refine g_aload_n hC dX12_readNumber_29 rfl ?_
    refine zr_geta hC hZ11 fl_X12_357 zb_113 (by decide) dX12_readNumber_30 ?_
    refine g_iload_n hC dX12_readNumber_33 rfl ?_
    obtain ⟨o16, h17⟩ := h15
    obtain ⟨o18, h19⟩ := h17
    refine zr_iald (v := (za s8 113 (Int.toNat (zv s0 114)))) hC hZ11 zk_113 zb_113 zn_113 (by decide) o16 o18 rfl dX12_readNumber_34 ?_
    refine zr_iadd hC dX12_readNumber_35 ?_
    obtain ⟨o20, h21⟩ := h19
    obtain ⟨o22, h23⟩ := h21
    refine zr_iald (v := (za s8 110 (Int.toNat ((6000 * (zv s0 114)) + (za s8 113 (Int.toNat (zv s0 114))))))) hC hZ11 zk_110 zb_110 zn_110 (by decide) o20 o22 rfl dX12_readNumber_36 ?_
    obtain ⟨o24, h25⟩ := h23
    obtain ⟨o26, h27⟩ := h25
    refine zr_iast hC hZ11 zk_113 zb_113 zn_113 (by decide) o24 o26 (hZ11.ra 110 _) dX12_readNumber_37 (fun F28 hZ29 => ?_)
    exact rj_readNumber_38 hC  (hZ.rv 114) hZ29 h27
theorem dX12_toVector_0 : decode cX12_toVector 0 = .ok (.iload_n 1, 1) := by decide +kernel
theorem dX12_toVector_1 : decode cX12_toVector 1 = .ok (.ldc_w 697, 3) := by decide +kernel
theorem dX12_toVector_4 : decode cX12_toVector 4 = .ok (.if_icmp .lt 14, 3) := by decide +kernel
theorem dX12_toVector_7 : decode cX12_toVector 7 = .ok (.iload_n 1, 1) := by decide +kernel
theorem dX12_toVector_8 : decode cX12_toVector 8 = .ok (.ldc_w 823, 3) := by decide +kernel
theorem dX12_toVector_11 : decode cX12_toVector 11 = .ok (.if_icmp .ge 7, 3) := by decide +kernel
theorem dX12_toVector_14 : decode cX12_toVector 14 = .ok (.iconst 1, 1) := by decide +kernel
theorem dX12_toVector_15 : decode cX12_toVector 15 = .ok (.goto 4, 3) := by decide +kernel
theorem dX12_toVector_18 : decode cX12_toVector 18 = .ok (.iconst 0, 1) := by decide +kernel
theorem dX12_toVector_19 : decode cX12_toVector 19 = .ok (.istore 4, 2) := by decide +kernel
theorem dX12_toVector_21 : decode cX12_toVector 21 = .ok (.iload 4, 2) := by decide +kernel
theorem dX12_toVector_23 : decode cX12_toVector 23 = .ok (.ifCond .ne 28, 3) := by decide +kernel
theorem dX12_toVector_26 : decode cX12_toVector 26 = .ok (.iload_n 1, 1) := by decide +kernel
theorem dX12_toVector_27 : decode cX12_toVector 27 = .ok (.ldc_w 762, 3) := by decide +kernel
theorem dX12_toVector_30 : decode cX12_toVector 30 = .ok (.if_icmp .lt 15, 3) := by decide +kernel
theorem dX12_toVector_33 : decode cX12_toVector 33 = .ok (.iload_n 1, 1) := by decide +kernel
theorem dX12_toVector_34 : decode cX12_toVector 34 = .ok (.ldc_w 762, 3) := by decide +kernel
theorem dX12_toVector_37 : decode cX12_toVector 37 = .ok (.aload_n 0, 1) := by decide +kernel
theorem dX12_toVector_38 : decode cX12_toVector 38 = .ok (.getfield 222, 3) := by decide +kernel
theorem dX12_toVector_41 : decode cX12_toVector 41 = .ok (.iadd, 1) := by decide +kernel
theorem dX12_toVector_42 : decode cX12_toVector 42 = .ok (.if_icmp .lt 9, 3) := by decide +kernel
theorem dX12_toVector_45 : decode cX12_toVector 45 = .ok (.aload_n 0, 1) := by decide +kernel
theorem dX12_toVector_46 : decode cX12_toVector 46 = .ok (.iconst 4, 1) := by decide +kernel
theorem dX12_toVector_47 : decode cX12_toVector 47 = .ok (.invokevirtual 792, 3) := by decide +kernel
theorem dX12_toVector_50 : decode cX12_toVector 50 = .ok (.return_, 1) := by decide +kernel
theorem dX12_toVector_51 : decode cX12_toVector 51 = .ok (.iload_n 2, 1) := by decide +kernel
theorem dX12_toVector_52 : decode cX12_toVector 52 = .ok (.ifCond .lt 11, 3) := by decide +kernel
theorem dX12_toVector_55 : decode cX12_toVector 55 = .ok (.iload_n 2, 1) := by decide +kernel
theorem dX12_toVector_56 : decode cX12_toVector 56 = .ok (.aload_n 0, 1) := by decide +kernel
theorem dX12_toVector_57 : decode cX12_toVector 57 = .ok (.getfield 315, 3) := by decide +kernel
theorem dX12_toVector_60 : decode cX12_toVector 60 = .ok (.if_icmp .lt 9, 3) := by decide +kernel
theorem dX12_toVector_63 : decode cX12_toVector 63 = .ok (.aload_n 0, 1) := by decide +kernel
theorem dX12_toVector_64 : decode cX12_toVector 64 = .ok (.iconst 2, 1) := by decide +kernel
theorem dX12_toVector_65 : decode cX12_toVector 65 = .ok (.invokevirtual 792, 3) := by decide +kernel
theorem dX12_toVector_68 : decode cX12_toVector 68 = .ok (.return_, 1) := by decide +kernel
theorem dX12_toVector_69 : decode cX12_toVector 69 = .ok (.aload_n 0, 1) := by decide +kernel
theorem dX12_toVector_70 : decode cX12_toVector 70 = .ok (.iload_n 3, 1) := by decide +kernel
theorem dX12_toVector_71 : decode cX12_toVector 71 = .ok (.invokevirtual 795, 3) := by decide +kernel
theorem dX12_toVector_74 : decode cX12_toVector 74 = .ok (.aload_n 0, 1) := by decide +kernel
theorem dX12_toVector_75 : decode cX12_toVector 75 = .ok (.iload_n 2, 1) := by decide +kernel
theorem dX12_toVector_76 : decode cX12_toVector 76 = .ok (.invokevirtual 795, 3) := by decide +kernel
theorem dX12_toVector_79 : decode cX12_toVector 79 = .ok (.iload 4, 2) := by decide +kernel
theorem dX12_toVector_81 : decode cX12_toVector 81 = .ok (.ifCond .ne 19, 3) := by decide +kernel
theorem dX12_toVector_84 : decode cX12_toVector 84 = .ok (.aload_n 0, 1) := by decide +kernel
theorem dX12_toVector_85 : decode cX12_toVector 85 = .ok (.iload_n 1, 1) := by decide +kernel
theorem dX12_toVector_86 : decode cX12_toVector 86 = .ok (.ldc_w 762, 3) := by decide +kernel
theorem dX12_toVector_89 : decode cX12_toVector 89 = .ok (.isub, 1) := by decide +kernel
theorem dX12_toVector_90 : decode cX12_toVector 90 = .ok (.iload_n 3, 1) := by decide +kernel
theorem dX12_toVector_91 : decode cX12_toVector 91 = .ok (.iload_n 2, 1) := by decide +kernel
theorem dX12_toVector_92 : decode cX12_toVector 92 = .ok (.iadd, 1) := by decide +kernel
theorem dX12_toVector_93 : decode cX12_toVector 93 = .ok (.iconst 1, 1) := by decide +kernel
theorem dX12_toVector_94 : decode cX12_toVector 94 = .ok (.iadd, 1) := by decide +kernel
theorem dX12_toVector_95 : decode cX12_toVector 95 = .ok (.iconst 2, 1) := by decide +kernel
theorem dX12_toVector_96 : decode cX12_toVector 96 = .ok (.invokevirtual 827, 3) := by decide +kernel
theorem dX12_toVector_99 : decode cX12_toVector 99 = .ok (.return_, 1) := by decide +kernel
theorem dX12_toVector_100 : decode cX12_toVector 100 = .ok (.iload_n 3, 1) := by decide +kernel
theorem dX12_toVector_101 : decode cX12_toVector 101 = .ok (.iload_n 2, 1) := by decide +kernel
theorem dX12_toVector_102 : decode cX12_toVector 102 = .ok (.iadd, 1) := by decide +kernel
theorem dX12_toVector_103 : decode cX12_toVector 103 = .ok (.iconst 1, 1) := by decide +kernel
theorem dX12_toVector_104 : decode cX12_toVector 104 = .ok (.iadd, 1) := by decide +kernel
theorem dX12_toVector_105 : decode cX12_toVector 105 = .ok (.aload_n 0, 1) := by decide +kernel
theorem dX12_toVector_106 : decode cX12_toVector 106 = .ok (.invokevirtual 820, 3) := by decide +kernel
theorem dX12_toVector_109 : decode cX12_toVector 109 = .ok (.if_icmp .le 9, 3) := by decide +kernel
theorem dX12_toVector_112 : decode cX12_toVector 112 = .ok (.aload_n 0, 1) := by decide +kernel
theorem dX12_toVector_113 : decode cX12_toVector 113 = .ok (.iconst 5, 1) := by decide +kernel
theorem dX12_toVector_114 : decode cX12_toVector 114 = .ok (.invokevirtual 792, 3) := by decide +kernel
theorem dX12_toVector_117 : decode cX12_toVector 117 = .ok (.return_, 1) := by decide +kernel
theorem dX12_toVector_118 : decode cX12_toVector 118 = .ok (.aload_n 0, 1) := by decide +kernel
theorem dX12_toVector_119 : decode cX12_toVector 119 = .ok (.bipush 23, 2) := by decide +kernel
theorem dX12_toVector_121 : decode cX12_toVector 121 = .ok (.iload_n 1, 1) := by decide +kernel
theorem dX12_toVector_122 : decode cX12_toVector 122 = .ok (.ldc_w 697, 3) := by decide +kernel
theorem dX12_toVector_125 : decode cX12_toVector 125 = .ok (.isub, 1) := by decide +kernel
theorem dX12_toVector_126 : decode cX12_toVector 126 = .ok (.iload_n 3, 1) := by decide +kernel
theorem dX12_toVector_127 : decode cX12_toVector 127 = .ok (.iload_n 2, 1) := by decide +kernel
theorem dX12_toVector_128 : decode cX12_toVector 128 = .ok (.iadd, 1) := by decide +kernel
theorem dX12_toVector_129 : decode cX12_toVector 129 = .ok (.iconst 1, 1) := by decide +kernel
theorem dX12_toVector_130 : decode cX12_toVector 130 = .ok (.iadd, 1) := by decide +kernel
theorem dX12_toVector_131 : decode cX12_toVector 131 = .ok (.invokevirtual 801, 3) := by decide +kernel
theorem dX12_toVector_134 : decode cX12_toVector 134 = .ok (.return_, 1) := by decide +kernel
def wr_toVector_51 (Q : zS → Prop)  (s0 : zS) (x1 : Int) (x2 : Int) (x3 : Int) (x4 : Int) : Prop :=
  ((x2 < 0 → wr_err s0 2 (fun s4 => Q s4)) ∧ (¬ x2 < 0 → ((x2 < (zv s0 99) → wr_push s0 x3 (fun s13 => wr_push s13 x2 (fun s19 => ((¬ x4 = 0 → wr_limit s19  (fun r26 s27 => (zR ((x3 + x2) + 1)) ∧ ((((x3 + x2) + 1) ≤ r26 → (zR (x1 - 2000000)) ∧ wr_todoTask s27 23 (x1 - 2000000) ((x3 + x2) + 1) (fun s39 => Q s39)) ∧ (¬ ((x3 + x2) + 1) ≤ r26 → wr_err s27 5 (fun s46 => Q s46))))) ∧ (x4 = 0 → (zR (x1 - 1000000)) ∧ (zR ((x3 + x2) + 1)) ∧ wr_enter s19 (x1 - 1000000) ((x3 + x2) + 1) 2 (fun s57 => Q s57)))))) ∧ (¬ x2 < (zv s0 99) → wr_err s0 2 (fun s64 => Q s64)))))
def wr_toVector (s0 : zS) (a0 : Int) (a1 : Int) (a2 : Int) (Q : zS → Prop) : Prop :=
  ((a0 < 2000000 → ((a0 < 1000000 → wr_err s0 4 (fun s7 => Q s7)) ∧ (¬ a0 < 1000000 → (zR (1000000 + (zv s0 69))) ∧ ((a0 < (1000000 + (zv s0 69)) → wr_toVector_51 Q  s0 a0 a1 a2 0) ∧ (¬ a0 < (1000000 + (zv s0 69)) → wr_err s0 4 (fun s19 => Q s19)))))) ∧ (¬ a0 < 2000000 → ((2000018 ≤ a0 → ((a0 < 1000000 → wr_err s0 4 (fun s31 => Q s31)) ∧ (¬ a0 < 1000000 → (zR (1000000 + (zv s0 69))) ∧ ((a0 < (1000000 + (zv s0 69)) → wr_toVector_51 Q  s0 a0 a1 a2 0) ∧ (¬ a0 < (1000000 + (zv s0 69)) → wr_err s0 4 (fun s43 => Q s43)))))) ∧ (¬ 2000018 ≤ a0 → wr_toVector_51 Q  s0 a0 a1 a2 1))))
set_option maxHeartbeats 4000000 in
set_option maxRecDepth 100000 in
theorem rj_toVector_51 {X : gX} {d : gD} {b t : Nat} {T : Nat → Nat} {F0 : gM} (hC : gC RX12 cX12_toVector 5 none "toVector" (gR 3 0 0) d b X) {Q : zS → Prop}   {F : gM} {s0 : zS} {x1 : Int} {x2 : Int} {x3 : Int} {x4 : Int} (Rx1 : zR x1) (Rx2 : zR x2) (Rx3 : zR x3) (Rx4 : zR x4) (hZ : zZ d t T F0 F s0) (hw : wr_toVector_51 Q  s0 x1 x2 x3 x4) : gG X d b (zQv X d b t T F0 Q) F 0 0 51 [some (.ref t), some (.int (zI x1)), some (.int (zI x2)), some (.int (zI x3)), some (.int (zI x4))] [] := by
  unfold wr_toVector_51 at hw
  refine g_iload_n hC dX12_toVector_51 rfl ?_
  refine zr_if_lt (tgt := 63) hC Rx2 dX12_toVector_52 (by decide) (fun c1 => ?_) (fun c1 => ?_)
  · have h2 := hw.1 c1
    refine g_aload_n hC dX12_toVector_63 rfl ?_
    refine g_iconst (v := zI 2) hC dX12_toVector_64 rfl ?_
    refine zr_callVv (As := [.int (zI 2)]) hC hZ rfl (rm_err X.la d b (by decide) hZ.rf h2) cl_X12_792 rfl rfl (Nat.le_of_ble_eq_true rfl) ⟨Nat.le_of_ble_eq_true rfl, Nat.le_of_ble_eq_true rfl⟩ dX12_toVector_65 (fun s4 F5 hZ7 h8 => ?_)
    exact zr_vret hC hZ7 h8 dX12_toVector_68
  · have h9 := hw.2 c1
    refine g_iload_n hC dX12_toVector_55 rfl ?_
    refine g_aload_n hC dX12_toVector_56 rfl ?_
    refine zr_get (e := (zv s0 99)) hC hZ fl_X12_315 zb_99 (by decide) rfl dX12_toVector_57 ?_
    refine zr_icmp_lt (tgt := 69) hC Rx2 (hZ.rv 99) dX12_toVector_60 (by decide) (fun c10 => ?_) (fun c10 => ?_)
    · have h11 := h9.1 c10
      refine g_aload_n hC dX12_toVector_69 rfl ?_
      refine g_iload_n hC dX12_toVector_70 rfl ?_
      refine zr_callVv (As := [.int (zI x3)]) hC hZ rfl (rm_push X.la d b Rx3 hZ.rf h11) cl_X12_795 rfl rfl (Nat.le_of_ble_eq_true rfl) ⟨Nat.le_of_ble_eq_true rfl, Nat.le_of_ble_eq_true rfl⟩ dX12_toVector_71 (fun s13 F14 hZ16 h17 => ?_)
      refine g_aload_n hC dX12_toVector_74 rfl ?_
      refine g_iload_n hC dX12_toVector_75 rfl ?_
      refine zr_callVv (As := [.int (zI x2)]) hC hZ16 rfl (rm_push X.la d b Rx2 hZ16.rf h17) cl_X12_795 rfl rfl (Nat.le_of_ble_eq_true rfl) ⟨Nat.le_of_ble_eq_true rfl, Nat.le_of_ble_eq_true rfl⟩ dX12_toVector_76 (fun s19 F20 hZ22 h23 => ?_)
      refine g_iload hC dX12_toVector_79 rfl ?_
      refine zr_if_ne (tgt := 100) hC Rx4 dX12_toVector_81 (by decide) (fun c24 => ?_) (fun c24 => ?_)
      · have h25 := h23.1 c24
        refine g_iload_n hC dX12_toVector_100 rfl ?_
        refine g_iload_n hC dX12_toVector_101 rfl ?_
        refine zr_iadd hC dX12_toVector_102 ?_
        refine g_iconst (v := zI 1) hC dX12_toVector_103 rfl ?_
        refine zr_iadd hC dX12_toVector_104 ?_
        refine g_aload_n hC dX12_toVector_105 rfl ?_
        refine zr_callVi (As := []) hC hZ22 rfl (rm_limit X.la d b  hZ22.rf h25) cl_X12_820 rfl rfl (Nat.le_of_ble_eq_true rfl) ⟨Nat.le_of_ble_eq_true rfl, Nat.le_of_ble_eq_true rfl⟩ dX12_toVector_106 (fun r26 s27 F28 R29 hZ30 h31 => ?_)
        obtain ⟨o32, h33⟩ := h31
        refine zr_icmp_le (tgt := 118) hC o32 R29 dX12_toVector_109 (by decide) (fun c34 => ?_) (fun c34 => ?_)
        · have h35 := h33.1 c34
          refine g_aload_n hC dX12_toVector_118 rfl ?_
          refine g_bipush (v := zI 23) hC dX12_toVector_119 rfl ?_
          refine g_iload_n hC dX12_toVector_121 rfl ?_
          refine zr_ldcw (e := 2000000) hC dX12_toVector_122 kw_2552 (by decide) ?_
          refine zr_isub hC dX12_toVector_125 ?_
          refine g_iload_n hC dX12_toVector_126 rfl ?_
          refine g_iload_n hC dX12_toVector_127 rfl ?_
          refine zr_iadd hC dX12_toVector_128 ?_
          refine g_iconst (v := zI 1) hC dX12_toVector_129 rfl ?_
          refine zr_iadd hC dX12_toVector_130 ?_
          obtain ⟨o36, h37⟩ := h35
          refine zr_callVv (As := [.int (zI 23), .int (zI (x1 - 2000000)), .int (zI ((x3 + x2) + 1))]) hC hZ30 rfl (rm_todoTask X.la d b (by decide) o36 o32 hZ30.rf h37) cl_X12_801 rfl rfl (Nat.le_of_ble_eq_true rfl) ⟨Nat.le_of_ble_eq_true rfl, Nat.le_of_ble_eq_true rfl⟩ dX12_toVector_131 (fun s39 F40 hZ42 h43 => ?_)
          exact zr_vret hC hZ42 h43 dX12_toVector_134
        · have h44 := h33.2 c34
          refine g_aload_n hC dX12_toVector_112 rfl ?_
          refine g_iconst (v := zI 5) hC dX12_toVector_113 rfl ?_
          refine zr_callVv (As := [.int (zI 5)]) hC hZ30 rfl (rm_err X.la d b (by decide) hZ30.rf h44) cl_X12_792 rfl rfl (Nat.le_of_ble_eq_true rfl) ⟨Nat.le_of_ble_eq_true rfl, Nat.le_of_ble_eq_true rfl⟩ dX12_toVector_114 (fun s46 F47 hZ49 h50 => ?_)
          exact zr_vret hC hZ49 h50 dX12_toVector_117
      · have h51 := h23.2 c24
        refine g_aload_n hC dX12_toVector_84 rfl ?_
        refine g_iload_n hC dX12_toVector_85 rfl ?_
        refine zr_ldcw (e := 1000000) hC dX12_toVector_86 kw_2699 (by decide) ?_
        refine zr_isub hC dX12_toVector_89 ?_
        refine g_iload_n hC dX12_toVector_90 rfl ?_
        refine g_iload_n hC dX12_toVector_91 rfl ?_
        refine zr_iadd hC dX12_toVector_92 ?_
        refine g_iconst (v := zI 1) hC dX12_toVector_93 rfl ?_
        refine zr_iadd hC dX12_toVector_94 ?_
        refine g_iconst (v := zI 2) hC dX12_toVector_95 rfl ?_
        obtain ⟨o52, h53⟩ := h51
        obtain ⟨o54, h55⟩ := h53
        refine zr_callVv (As := [.int (zI (x1 - 1000000)), .int (zI ((x3 + x2) + 1)), .int (zI 2)]) hC hZ22 rfl (rm_enter X.la d b o52 o54 (by decide) hZ22.rf h55) cl_X12_827 rfl rfl (Nat.le_of_ble_eq_true rfl) ⟨Nat.le_of_ble_eq_true rfl, Nat.le_of_ble_eq_true rfl⟩ dX12_toVector_96 (fun s57 F58 hZ60 h61 => ?_)
        exact zr_vret hC hZ60 h61 dX12_toVector_99
    · have h62 := h9.2 c10
      refine g_aload_n hC dX12_toVector_63 rfl ?_
      refine g_iconst (v := zI 2) hC dX12_toVector_64 rfl ?_
      refine zr_callVv (As := [.int (zI 2)]) hC hZ rfl (rm_err X.la d b (by decide) hZ.rf h62) cl_X12_792 rfl rfl (Nat.le_of_ble_eq_true rfl) ⟨Nat.le_of_ble_eq_true rfl, Nat.le_of_ble_eq_true rfl⟩ dX12_toVector_65 (fun s64 F65 hZ67 h68 => ?_)
      exact zr_vret hC hZ67 h68 dX12_toVector_68
set_option maxHeartbeats 4000000 in
set_option maxRecDepth 100000 in
theorem rm_toVector (l : Launch) (d : gD) (b : Nat) {t : Nat} {T : Nat → Nat} {F : gM} {s0 : zS} {a0 : Int} {a1 : Int} {a2 : Int} (Ra0 : zR a0) (Ra1 : zR a1) (Ra2 : zR a2) {Q : zS → Prop} (hZ : zZ d t T F F s0) (hw : wr_toVector s0 a0 a1 a2 Q) : gMv l d b yX12_toVector cX12_toVector 5 3 0 0 F [.ref t, .int (zI a0), .int (zI a1), .int (zI a2)] (zPv d t T F Q) := by
  refine gM_of2 rfl (nL := 5) (Nat.le_of_ble_eq_true rfl) ?_
  intro X hX hC; subst hX
  show gG X d b (zQv X d b t T F Q) F 0 0 0 [some (.ref t), some (.int (zI a0)), some (.int (zI a1)), some (.int (zI a2)), none] []
  unfold wr_toVector at hw
  refine g_iload_n hC dX12_toVector_0 rfl ?_
  refine zr_ldcw (e := 2000000) hC dX12_toVector_1 kw_2552 (by decide) ?_
  refine zr_icmp_lt (tgt := 18) hC Ra0 (by decide) dX12_toVector_4 (by decide) (fun c1 => ?_) (fun c1 => ?_)
  · have h2 := hw.1 c1
    refine g_iconst (v := zI 0) hC dX12_toVector_18 rfl ?_
    refine g_istore (lv' := [some (.ref t), some (.int (zI a0)), some (.int (zI a1)), some (.int (zI a2)), some (.int (zI 0))]) hC dX12_toVector_19 (Nat.le_of_ble_eq_true rfl) rfl rfl ?_
    refine g_iload hC dX12_toVector_21 rfl ?_
    refine zr_if_ne (tgt := 51) hC (by decide) dX12_toVector_23 (by decide) (fun c3 => ?_) (fun c3 => ?_)
    · exact absurd (by decide) c3
    · refine g_iload_n hC dX12_toVector_26 rfl ?_
      refine zr_ldcw (e := 1000000) hC dX12_toVector_27 kw_2699 (by decide) ?_
      refine zr_icmp_lt (tgt := 45) hC Ra0 (by decide) dX12_toVector_30 (by decide) (fun c4 => ?_) (fun c4 => ?_)
      · have h5 := h2.1 c4
        refine g_aload_n hC dX12_toVector_45 rfl ?_
        refine g_iconst (v := zI 4) hC dX12_toVector_46 rfl ?_
        refine zr_callVv (As := [.int (zI 4)]) hC hZ rfl (rm_err X.la d b (by decide) hZ.rf h5) cl_X12_792 rfl rfl (Nat.le_of_ble_eq_true rfl) ⟨Nat.le_of_ble_eq_true rfl, Nat.le_of_ble_eq_true rfl⟩ dX12_toVector_47 (fun s7 F8 hZ10 h11 => ?_)
        exact zr_vret hC hZ10 h11 dX12_toVector_50
      · have h12 := h2.2 c4
        refine g_iload_n hC dX12_toVector_33 rfl ?_
        refine zr_ldcw (e := 1000000) hC dX12_toVector_34 kw_2699 (by decide) ?_
        refine g_aload_n hC dX12_toVector_37 rfl ?_
        refine zr_get (e := (zv s0 69)) hC hZ fl_X12_222 zb_69 (by decide) rfl dX12_toVector_38 ?_
        refine zr_iadd hC dX12_toVector_41 ?_
        obtain ⟨o13, h14⟩ := h12
        refine zr_icmp_lt (tgt := 51) hC Ra0 o13 dX12_toVector_42 (by decide) (fun c15 => ?_) (fun c15 => ?_)
        · have h16 := h14.1 c15
          exact rj_toVector_51 hC  Ra0 Ra1 Ra2 (by decide) hZ h16
        · have h17 := h14.2 c15
          refine g_aload_n hC dX12_toVector_45 rfl ?_
          refine g_iconst (v := zI 4) hC dX12_toVector_46 rfl ?_
          refine zr_callVv (As := [.int (zI 4)]) hC hZ rfl (rm_err X.la d b (by decide) hZ.rf h17) cl_X12_792 rfl rfl (Nat.le_of_ble_eq_true rfl) ⟨Nat.le_of_ble_eq_true rfl, Nat.le_of_ble_eq_true rfl⟩ dX12_toVector_47 (fun s19 F20 hZ22 h23 => ?_)
          exact zr_vret hC hZ22 h23 dX12_toVector_50
  · have h24 := hw.2 c1
    refine g_iload_n hC dX12_toVector_7 rfl ?_
    refine zr_ldcw (e := 2000018) hC dX12_toVector_8 kw_2829 (by decide) ?_
    refine zr_icmp_ge (tgt := 18) hC Ra0 (by decide) dX12_toVector_11 (by decide) (fun c25 => ?_) (fun c25 => ?_)
    · have h26 := h24.1 c25
      refine g_iconst (v := zI 0) hC dX12_toVector_18 rfl ?_
      refine g_istore (lv' := [some (.ref t), some (.int (zI a0)), some (.int (zI a1)), some (.int (zI a2)), some (.int (zI 0))]) hC dX12_toVector_19 (Nat.le_of_ble_eq_true rfl) rfl rfl ?_
      refine g_iload hC dX12_toVector_21 rfl ?_
      refine zr_if_ne (tgt := 51) hC (by decide) dX12_toVector_23 (by decide) (fun c27 => ?_) (fun c27 => ?_)
      · exact absurd (by decide) c27
      · refine g_iload_n hC dX12_toVector_26 rfl ?_
        refine zr_ldcw (e := 1000000) hC dX12_toVector_27 kw_2699 (by decide) ?_
        refine zr_icmp_lt (tgt := 45) hC Ra0 (by decide) dX12_toVector_30 (by decide) (fun c28 => ?_) (fun c28 => ?_)
        · have h29 := h26.1 c28
          refine g_aload_n hC dX12_toVector_45 rfl ?_
          refine g_iconst (v := zI 4) hC dX12_toVector_46 rfl ?_
          refine zr_callVv (As := [.int (zI 4)]) hC hZ rfl (rm_err X.la d b (by decide) hZ.rf h29) cl_X12_792 rfl rfl (Nat.le_of_ble_eq_true rfl) ⟨Nat.le_of_ble_eq_true rfl, Nat.le_of_ble_eq_true rfl⟩ dX12_toVector_47 (fun s31 F32 hZ34 h35 => ?_)
          exact zr_vret hC hZ34 h35 dX12_toVector_50
        · have h36 := h26.2 c28
          refine g_iload_n hC dX12_toVector_33 rfl ?_
          refine zr_ldcw (e := 1000000) hC dX12_toVector_34 kw_2699 (by decide) ?_
          refine g_aload_n hC dX12_toVector_37 rfl ?_
          refine zr_get (e := (zv s0 69)) hC hZ fl_X12_222 zb_69 (by decide) rfl dX12_toVector_38 ?_
          refine zr_iadd hC dX12_toVector_41 ?_
          obtain ⟨o37, h38⟩ := h36
          refine zr_icmp_lt (tgt := 51) hC Ra0 o37 dX12_toVector_42 (by decide) (fun c39 => ?_) (fun c39 => ?_)
          · have h40 := h38.1 c39
            exact rj_toVector_51 hC  Ra0 Ra1 Ra2 (by decide) hZ h40
          · have h41 := h38.2 c39
            refine g_aload_n hC dX12_toVector_45 rfl ?_
            refine g_iconst (v := zI 4) hC dX12_toVector_46 rfl ?_
            refine zr_callVv (As := [.int (zI 4)]) hC hZ rfl (rm_err X.la d b (by decide) hZ.rf h41) cl_X12_792 rfl rfl (Nat.le_of_ble_eq_true rfl) ⟨Nat.le_of_ble_eq_true rfl, Nat.le_of_ble_eq_true rfl⟩ dX12_toVector_47 (fun s43 F44 hZ46 h47 => ?_)
            exact zr_vret hC hZ46 h47 dX12_toVector_50
    · have h48 := h24.2 c25
      refine g_iconst (v := zI 1) hC dX12_toVector_14 rfl ?_
      refine g_goto (tgt := 19) hC dX12_toVector_15 (by decide) ?_
      refine g_istore (lv' := [some (.ref t), some (.int (zI a0)), some (.int (zI a1)), some (.int (zI a2)), some (.int (zI 1))]) hC dX12_toVector_19 (Nat.le_of_ble_eq_true rfl) rfl rfl ?_
      refine g_iload hC dX12_toVector_21 rfl ?_
      refine zr_if_ne (tgt := 51) hC (by decide) dX12_toVector_23 (by decide) (fun c49 => ?_) (fun c49 => ?_)
      · exact rj_toVector_51 hC  Ra0 Ra1 Ra2 (by decide) hZ h48
      · exact absurd c49 (by decide)
theorem dX12_libraryCall_0 : decode cX12_libraryCall 0 = .ok (.iload_n 2, 1) := by decide +kernel
theorem dX12_libraryCall_1 : decode cX12_libraryCall 1 = .ok (.istore 4, 2) := by decide +kernel
theorem dX12_libraryCall_3 : decode cX12_libraryCall 3 = .ok (.iload_n 3, 1) := by decide +kernel
theorem dX12_libraryCall_4 : decode cX12_libraryCall 4 = .ok (.istore 5, 2) := by decide +kernel
theorem dX12_libraryCall_6 : decode cX12_libraryCall 6 = .ok (.iload_n 1, 1) := by decide +kernel
theorem dX12_libraryCall_7 : decode cX12_libraryCall 7 = .ok (.istore 6, 2) := by decide +kernel
theorem dX12_libraryCall_9 : decode cX12_libraryCall 9 = .ok (.aload_n 0, 1) := by decide +kernel
theorem dX12_libraryCall_10 : decode cX12_libraryCall 10 = .ok (.iconst 0, 1) := by decide +kernel
theorem dX12_libraryCall_11 : decode cX12_libraryCall 11 = .ok (.iload 4, 2) := by decide +kernel
theorem dX12_libraryCall_13 : decode cX12_libraryCall 13 = .ok (.invokevirtual 850, 3) := by decide +kernel
theorem dX12_libraryCall_16 : decode cX12_libraryCall 16 = .ok (.istore 7, 2) := by decide +kernel
theorem dX12_libraryCall_18 : decode cX12_libraryCall 18 = .ok (.aload_n 0, 1) := by decide +kernel
theorem dX12_libraryCall_19 : decode cX12_libraryCall 19 = .ok (.iconst 1, 1) := by decide +kernel
theorem dX12_libraryCall_20 : decode cX12_libraryCall 20 = .ok (.iload 4, 2) := by decide +kernel
theorem dX12_libraryCall_22 : decode cX12_libraryCall 22 = .ok (.invokevirtual 850, 3) := by decide +kernel
theorem dX12_libraryCall_25 : decode cX12_libraryCall 25 = .ok (.istore 8, 2) := by decide +kernel
theorem dX12_libraryCall_27 : decode cX12_libraryCall 27 = .ok (.aload_n 0, 1) := by decide +kernel
theorem dX12_libraryCall_28 : decode cX12_libraryCall 28 = .ok (.iconst 2, 1) := by decide +kernel
theorem dX12_libraryCall_29 : decode cX12_libraryCall 29 = .ok (.iload 4, 2) := by decide +kernel
theorem dX12_libraryCall_31 : decode cX12_libraryCall 31 = .ok (.invokevirtual 850, 3) := by decide +kernel
theorem dX12_libraryCall_34 : decode cX12_libraryCall 34 = .ok (.istore 9, 2) := by decide +kernel
theorem dX12_libraryCall_36 : decode cX12_libraryCall 36 = .ok (.aload_n 0, 1) := by decide +kernel
theorem dX12_libraryCall_37 : decode cX12_libraryCall 37 = .ok (.dup, 1) := by decide +kernel
theorem dX12_libraryCall_38 : decode cX12_libraryCall 38 = .ok (.getfield 289, 3) := by decide +kernel
theorem dX12_libraryCall_41 : decode cX12_libraryCall 41 = .ok (.iload 4, 2) := by decide +kernel
theorem dX12_libraryCall_43 : decode cX12_libraryCall 43 = .ok (.isub, 1) := by decide +kernel
theorem dX12_libraryCall_44 : decode cX12_libraryCall 44 = .ok (.putfield 289, 3) := by decide +kernel
theorem dX12_libraryCall_47 : decode cX12_libraryCall 47 = .ok (.iconst 0, 1) := by decide +kernel
theorem dX12_libraryCall_48 : decode cX12_libraryCall 48 = .ok (.istore 10, 2) := by decide +kernel
theorem dX12_libraryCall_50 : decode cX12_libraryCall 50 = .ok (.iload 6, 2) := by decide +kernel
theorem dX12_libraryCall_52 : decode cX12_libraryCall 52 = .ok (.ifCond .ne 13, 3) := by decide +kernel
theorem dX12_libraryCall_55 : decode cX12_libraryCall 55 = .ok (.aload_n 0, 1) := by decide +kernel
theorem dX12_libraryCall_56 : decode cX12_libraryCall 56 = .ok (.iload 7, 2) := by decide +kernel
theorem dX12_libraryCall_58 : decode cX12_libraryCall 58 = .ok (.iconst 0, 1) := by decide +kernel
theorem dX12_libraryCall_59 : decode cX12_libraryCall 59 = .ok (.invokevirtual 853, 3) := by decide +kernel
theorem dX12_libraryCall_62 : decode cX12_libraryCall 62 = .ok (.goto 449, 3) := by decide +kernel
theorem dX12_libraryCall_65 : decode cX12_libraryCall 65 = .ok (.iload 6, 2) := by decide +kernel
theorem dX12_libraryCall_67 : decode cX12_libraryCall 67 = .ok (.bipush 15, 2) := by decide +kernel
theorem dX12_libraryCall_69 : decode cX12_libraryCall 69 = .ok (.if_icmp .ne 26, 3) := by decide +kernel
theorem dX12_libraryCall_72 : decode cX12_libraryCall 72 = .ok (.aload_n 0, 1) := by decide +kernel
theorem dX12_libraryCall_73 : decode cX12_libraryCall 73 = .ok (.iload 7, 2) := by decide +kernel
theorem dX12_libraryCall_75 : decode cX12_libraryCall 75 = .ok (.iload 8, 2) := by decide +kernel
theorem dX12_libraryCall_77 : decode cX12_libraryCall 77 = .ok (.bipush 100, 2) := by decide +kernel
theorem dX12_libraryCall_79 : decode cX12_libraryCall 79 = .ok (.if_icmp .le 8, 3) := by decide +kernel
theorem dX12_libraryCall_82 : decode cX12_libraryCall 82 = .ok (.bipush 100, 2) := by decide +kernel
theorem dX12_libraryCall_84 : decode cX12_libraryCall 84 = .ok (.goto 5, 3) := by decide +kernel
theorem dX12_libraryCall_87 : decode cX12_libraryCall 87 = .ok (.iload 8, 2) := by decide +kernel
theorem dX12_libraryCall_89 : decode cX12_libraryCall 89 = .ok (.invokevirtual 853, 3) := by decide +kernel
theorem dX12_libraryCall_92 : decode cX12_libraryCall 92 = .ok (.goto 419, 3) := by decide +kernel
theorem dX12_libraryCall_95 : decode cX12_libraryCall 95 = .ok (.iload 6, 2) := by decide +kernel
theorem dX12_libraryCall_97 : decode cX12_libraryCall 97 = .ok (.bipush 16, 2) := by decide +kernel
theorem dX12_libraryCall_99 : decode cX12_libraryCall 99 = .ok (.if_icmp .ne 85, 3) := by decide +kernel
theorem dX12_libraryCall_102 : decode cX12_libraryCall 102 = .ok (.iload 8, 2) := by decide +kernel
theorem dX12_libraryCall_104 : decode cX12_libraryCall 104 = .ok (.iconst 1, 1) := by decide +kernel
theorem dX12_libraryCall_105 : decode cX12_libraryCall 105 = .ok (.if_icmp .ge 7, 3) := by decide +kernel
theorem dX12_libraryCall_108 : decode cX12_libraryCall 108 = .ok (.iconst 1, 1) := by decide +kernel
theorem dX12_libraryCall_109 : decode cX12_libraryCall 109 = .ok (.goto 17, 3) := by decide +kernel
theorem dX12_libraryCall_112 : decode cX12_libraryCall 112 = .ok (.iload 8, 2) := by decide +kernel
theorem dX12_libraryCall_114 : decode cX12_libraryCall 114 = .ok (.bipush 8, 2) := by decide +kernel
theorem dX12_libraryCall_116 : decode cX12_libraryCall 116 = .ok (.if_icmp .le 8, 3) := by decide +kernel
theorem dX12_libraryCall_119 : decode cX12_libraryCall 119 = .ok (.bipush 8, 2) := by decide +kernel
theorem dX12_libraryCall_121 : decode cX12_libraryCall 121 = .ok (.goto 5, 3) := by decide +kernel
theorem dX12_libraryCall_124 : decode cX12_libraryCall 124 = .ok (.iload 8, 2) := by decide +kernel
theorem dX12_libraryCall_126 : decode cX12_libraryCall 126 = .ok (.istore 11, 2) := by decide +kernel
theorem dX12_libraryCall_128 : decode cX12_libraryCall 128 = .ok (.iload 11, 2) := by decide +kernel
theorem dX12_libraryCall_130 : decode cX12_libraryCall 130 = .ok (.iconst 1, 1) := by decide +kernel
theorem dX12_libraryCall_131 : decode cX12_libraryCall 131 = .ok (.isub, 1) := by decide +kernel
theorem dX12_libraryCall_132 : decode cX12_libraryCall 132 = .ok (.istore 12, 2) := by decide +kernel
theorem dX12_libraryCall_134 : decode cX12_libraryCall 134 = .ok (.iload 12, 2) := by decide +kernel
theorem dX12_libraryCall_136 : decode cX12_libraryCall 136 = .ok (.ifCond .lt 45, 3) := by decide +kernel
theorem dX12_libraryCall_139 : decode cX12_libraryCall 139 = .ok (.iload 7, 2) := by decide +kernel
theorem dX12_libraryCall_141 : decode cX12_libraryCall 141 = .ok (.iconst 4, 1) := by decide +kernel
theorem dX12_libraryCall_142 : decode cX12_libraryCall 142 = .ok (.iload 12, 2) := by decide +kernel
theorem dX12_libraryCall_144 : decode cX12_libraryCall 144 = .ok (.imul, 1) := by decide +kernel
theorem dX12_libraryCall_145 : decode cX12_libraryCall 145 = .ok (.iushr, 1) := by decide +kernel
theorem dX12_libraryCall_146 : decode cX12_libraryCall 146 = .ok (.bipush 15, 2) := by decide +kernel
theorem dX12_libraryCall_148 : decode cX12_libraryCall 148 = .ok (.iand, 1) := by decide +kernel
theorem dX12_libraryCall_149 : decode cX12_libraryCall 149 = .ok (.istore 13, 2) := by decide +kernel
theorem dX12_libraryCall_151 : decode cX12_libraryCall 151 = .ok (.aload_n 0, 1) := by decide +kernel
theorem dX12_libraryCall_152 : decode cX12_libraryCall 152 = .ok (.iload 13, 2) := by decide +kernel
theorem dX12_libraryCall_154 : decode cX12_libraryCall 154 = .ok (.bipush 10, 2) := by decide +kernel
theorem dX12_libraryCall_156 : decode cX12_libraryCall 156 = .ok (.if_icmp .ge 11, 3) := by decide +kernel
theorem dX12_libraryCall_159 : decode cX12_libraryCall 159 = .ok (.bipush 48, 2) := by decide +kernel
theorem dX12_libraryCall_161 : decode cX12_libraryCall 161 = .ok (.iload 13, 2) := by decide +kernel
theorem dX12_libraryCall_163 : decode cX12_libraryCall 163 = .ok (.iadd, 1) := by decide +kernel
theorem dX12_libraryCall_164 : decode cX12_libraryCall 164 = .ok (.goto 8, 3) := by decide +kernel
theorem dX12_libraryCall_167 : decode cX12_libraryCall 167 = .ok (.bipush 55, 2) := by decide +kernel
theorem dX12_libraryCall_169 : decode cX12_libraryCall 169 = .ok (.iload 13, 2) := by decide +kernel
theorem dX12_libraryCall_171 : decode cX12_libraryCall 171 = .ok (.iadd, 1) := by decide +kernel
theorem dX12_libraryCall_172 : decode cX12_libraryCall 172 = .ok (.invokevirtual 834, 3) := by decide +kernel
theorem dX12_libraryCall_175 : decode cX12_libraryCall 175 = .ok (.iinc 12 (-1), 3) := by decide +kernel
theorem dX12_libraryCall_178 : decode cX12_libraryCall 178 = .ok (.goto (-44), 3) := by decide +kernel
theorem dX12_libraryCall_181 : decode cX12_libraryCall 181 = .ok (.goto 330, 3) := by decide +kernel
theorem dX12_libraryCall_184 : decode cX12_libraryCall 184 = .ok (.iload 6, 2) := by decide +kernel
theorem dX12_libraryCall_186 : decode cX12_libraryCall 186 = .ok (.iconst 1, 1) := by decide +kernel
theorem dX12_libraryCall_187 : decode cX12_libraryCall 187 = .ok (.if_icmp .ne 12, 3) := by decide +kernel
theorem dX12_libraryCall_190 : decode cX12_libraryCall 190 = .ok (.aload_n 0, 1) := by decide +kernel
theorem dX12_libraryCall_191 : decode cX12_libraryCall 191 = .ok (.iload 7, 2) := by decide +kernel
theorem dX12_libraryCall_193 : decode cX12_libraryCall 193 = .ok (.invokevirtual 856, 3) := by decide +kernel
theorem dX12_libraryCall_196 : decode cX12_libraryCall 196 = .ok (.goto 315, 3) := by decide +kernel
theorem dX12_libraryCall_199 : decode cX12_libraryCall 199 = .ok (.iload 6, 2) := by decide +kernel
theorem dX12_libraryCall_201 : decode cX12_libraryCall 201 = .ok (.iconst 2, 1) := by decide +kernel
theorem dX12_libraryCall_202 : decode cX12_libraryCall 202 = .ok (.if_icmp .ne 12, 3) := by decide +kernel
theorem dX12_libraryCall_205 : decode cX12_libraryCall 205 = .ok (.aload_n 0, 1) := by decide +kernel
theorem dX12_libraryCall_206 : decode cX12_libraryCall 206 = .ok (.iload 7, 2) := by decide +kernel
theorem dX12_libraryCall_208 : decode cX12_libraryCall 208 = .ok (.invokevirtual 834, 3) := by decide +kernel
theorem dX12_libraryCall_211 : decode cX12_libraryCall 211 = .ok (.goto 300, 3) := by decide +kernel
theorem dX12_libraryCall_214 : decode cX12_libraryCall 214 = .ok (.iload 6, 2) := by decide +kernel
theorem dX12_libraryCall_216 : decode cX12_libraryCall 216 = .ok (.iconst 3, 1) := by decide +kernel
theorem dX12_libraryCall_217 : decode cX12_libraryCall 217 = .ok (.if_icmp .ne 12, 3) := by decide +kernel
theorem dX12_libraryCall_220 : decode cX12_libraryCall 220 = .ok (.aload_n 0, 1) := by decide +kernel
theorem dX12_libraryCall_221 : decode cX12_libraryCall 221 = .ok (.bipush 10, 2) := by decide +kernel
theorem dX12_libraryCall_223 : decode cX12_libraryCall 223 = .ok (.invokevirtual 834, 3) := by decide +kernel
theorem dX12_libraryCall_226 : decode cX12_libraryCall 226 = .ok (.goto 285, 3) := by decide +kernel
theorem dX12_libraryCall_229 : decode cX12_libraryCall 229 = .ok (.iload 6, 2) := by decide +kernel
theorem dX12_libraryCall_231 : decode cX12_libraryCall 231 = .ok (.iconst 4, 1) := by decide +kernel
theorem dX12_libraryCall_232 : decode cX12_libraryCall 232 = .ok (.if_icmp .ne 12, 3) := by decide +kernel
theorem dX12_libraryCall_235 : decode cX12_libraryCall 235 = .ok (.aload_n 0, 1) := by decide +kernel
theorem dX12_libraryCall_236 : decode cX12_libraryCall 236 = .ok (.invokevirtual 843, 3) := by decide +kernel
theorem dX12_libraryCall_239 : decode cX12_libraryCall 239 = .ok (.istore 10, 2) := by decide +kernel
theorem dX12_libraryCall_241 : decode cX12_libraryCall 241 = .ok (.goto 270, 3) := by decide +kernel
theorem dX12_libraryCall_244 : decode cX12_libraryCall 244 = .ok (.iload 6, 2) := by decide +kernel
theorem dX12_libraryCall_246 : decode cX12_libraryCall 246 = .ok (.iconst 5, 1) := by decide +kernel
theorem dX12_libraryCall_247 : decode cX12_libraryCall 247 = .ok (.if_icmp .ne 23, 3) := by decide +kernel
theorem dX12_libraryCall_250 : decode cX12_libraryCall 250 = .ok (.aload_n 0, 1) := by decide +kernel
theorem dX12_libraryCall_251 : decode cX12_libraryCall 251 = .ok (.iconst 1, 1) := by decide +kernel
theorem dX12_libraryCall_252 : decode cX12_libraryCall 252 = .ok (.putfield 324, 3) := by decide +kernel
theorem dX12_libraryCall_255 : decode cX12_libraryCall 255 = .ok (.aload_n 0, 1) := by decide +kernel
theorem dX12_libraryCall_256 : decode cX12_libraryCall 256 = .ok (.bipush 6, 2) := by decide +kernel
theorem dX12_libraryCall_258 : decode cX12_libraryCall 258 = .ok (.putfield 327, 3) := by decide +kernel
theorem dX12_libraryCall_261 : decode cX12_libraryCall 261 = .ok (.aload_n 0, 1) := by decide +kernel
theorem dX12_libraryCall_262 : decode cX12_libraryCall 262 = .ok (.iload 7, 2) := by decide +kernel
theorem dX12_libraryCall_264 : decode cX12_libraryCall 264 = .ok (.putfield 330, 3) := by decide +kernel
theorem dX12_libraryCall_267 : decode cX12_libraryCall 267 = .ok (.goto 244, 3) := by decide +kernel
theorem dX12_libraryCall_270 : decode cX12_libraryCall 270 = .ok (.iload 6, 2) := by decide +kernel
theorem dX12_libraryCall_272 : decode cX12_libraryCall 272 = .ok (.bipush 6, 2) := by decide +kernel
theorem dX12_libraryCall_274 : decode cX12_libraryCall 274 = .ok (.if_icmp .ne 21, 3) := by decide +kernel
theorem dX12_libraryCall_277 : decode cX12_libraryCall 277 = .ok (.iload 7, 2) := by decide +kernel
theorem dX12_libraryCall_279 : decode cX12_libraryCall 279 = .ok (.ifCond .ge 9, 3) := by decide +kernel
theorem dX12_libraryCall_282 : decode cX12_libraryCall 282 = .ok (.iload 7, 2) := by decide +kernel
theorem dX12_libraryCall_284 : decode cX12_libraryCall 284 = .ok (.ineg, 1) := by decide +kernel
theorem dX12_libraryCall_285 : decode cX12_libraryCall 285 = .ok (.goto 5, 3) := by decide +kernel
theorem dX12_libraryCall_288 : decode cX12_libraryCall 288 = .ok (.iload 7, 2) := by decide +kernel
theorem dX12_libraryCall_290 : decode cX12_libraryCall 290 = .ok (.istore 10, 2) := by decide +kernel
theorem dX12_libraryCall_292 : decode cX12_libraryCall 292 = .ok (.goto 219, 3) := by decide +kernel
theorem dX12_libraryCall_295 : decode cX12_libraryCall 295 = .ok (.iload 6, 2) := by decide +kernel
theorem dX12_libraryCall_297 : decode cX12_libraryCall 297 = .ok (.bipush 7, 2) := by decide +kernel
theorem dX12_libraryCall_299 : decode cX12_libraryCall 299 = .ok (.if_icmp .ne 34, 3) := by decide +kernel
theorem dX12_libraryCall_302 : decode cX12_libraryCall 302 = .ok (.aload_n 0, 1) := by decide +kernel
theorem dX12_libraryCall_303 : decode cX12_libraryCall 303 = .ok (.getfield 357, 3) := by decide +kernel
theorem dX12_libraryCall_306 : decode cX12_libraryCall 306 = .ok (.aload_n 0, 1) := by decide +kernel
theorem dX12_libraryCall_307 : decode cX12_libraryCall 307 = .ok (.getfield 360, 3) := by decide +kernel
theorem dX12_libraryCall_310 : decode cX12_libraryCall 310 = .ok (.iaload, 1) := by decide +kernel
theorem dX12_libraryCall_311 : decode cX12_libraryCall 311 = .ok (.ifCond .le 200, 3) := by decide +kernel
theorem dX12_libraryCall_314 : decode cX12_libraryCall 314 = .ok (.aload_n 0, 1) := by decide +kernel
theorem dX12_libraryCall_315 : decode cX12_libraryCall 315 = .ok (.getfield 357, 3) := by decide +kernel
theorem dX12_libraryCall_318 : decode cX12_libraryCall 318 = .ok (.aload_n 0, 1) := by decide +kernel
theorem dX12_libraryCall_319 : decode cX12_libraryCall 319 = .ok (.getfield 360, 3) := by decide +kernel
theorem dX12_libraryCall_322 : decode cX12_libraryCall 322 = .ok (.dup2, 1) := by decide +kernel
theorem dX12_libraryCall_323 : decode cX12_libraryCall 323 = .ok (.iaload, 1) := by decide +kernel
theorem dX12_libraryCall_324 : decode cX12_libraryCall 324 = .ok (.iconst 1, 1) := by decide +kernel
theorem dX12_libraryCall_325 : decode cX12_libraryCall 325 = .ok (.isub, 1) := by decide +kernel
theorem dX12_libraryCall_326 : decode cX12_libraryCall 326 = .ok (.iastore, 1) := by decide +kernel
theorem dX12_libraryCall_327 : decode cX12_libraryCall 327 = .ok (.iconst (-1), 1) := by decide +kernel
theorem dX12_libraryCall_328 : decode cX12_libraryCall 328 = .ok (.istore 10, 2) := by decide +kernel
theorem dX12_libraryCall_330 : decode cX12_libraryCall 330 = .ok (.goto 181, 3) := by decide +kernel
theorem dX12_libraryCall_333 : decode cX12_libraryCall 333 = .ok (.iload 6, 2) := by decide +kernel
theorem dX12_libraryCall_335 : decode cX12_libraryCall 335 = .ok (.bipush 8, 2) := by decide +kernel
theorem dX12_libraryCall_337 : decode cX12_libraryCall 337 = .ok (.if_icmp .ne 26, 3) := by decide +kernel
theorem dX12_libraryCall_340 : decode cX12_libraryCall 340 = .ok (.iload 7, 2) := by decide +kernel
theorem dX12_libraryCall_342 : decode cX12_libraryCall 342 = .ok (.ifCond .lt 169, 3) := by decide +kernel
theorem dX12_libraryCall_345 : decode cX12_libraryCall 345 = .ok (.iload 7, 2) := by decide +kernel
theorem dX12_libraryCall_347 : decode cX12_libraryCall 347 = .ok (.iconst 3, 1) := by decide +kernel
theorem dX12_libraryCall_348 : decode cX12_libraryCall 348 = .ok (.if_icmp .gt 163, 3) := by decide +kernel
theorem dX12_libraryCall_351 : decode cX12_libraryCall 351 = .ok (.aload_n 0, 1) := by decide +kernel
theorem dX12_libraryCall_352 : decode cX12_libraryCall 352 = .ok (.iload 7, 2) := by decide +kernel
theorem dX12_libraryCall_354 : decode cX12_libraryCall 354 = .ok (.putfield 360, 3) := by decide +kernel
theorem dX12_libraryCall_357 : decode cX12_libraryCall 357 = .ok (.iconst (-1), 1) := by decide +kernel
theorem dX12_libraryCall_358 : decode cX12_libraryCall 358 = .ok (.istore 10, 2) := by decide +kernel
theorem dX12_libraryCall_360 : decode cX12_libraryCall 360 = .ok (.goto 151, 3) := by decide +kernel
theorem dX12_libraryCall_363 : decode cX12_libraryCall 363 = .ok (.iload 6, 2) := by decide +kernel
theorem dX12_libraryCall_365 : decode cX12_libraryCall 365 = .ok (.bipush 9, 2) := by decide +kernel
theorem dX12_libraryCall_367 : decode cX12_libraryCall 367 = .ok (.if_icmp .ne 26, 3) := by decide +kernel
theorem dX12_libraryCall_370 : decode cX12_libraryCall 370 = .ok (.iload 7, 2) := by decide +kernel
theorem dX12_libraryCall_372 : decode cX12_libraryCall 372 = .ok (.ifCond .eq 9, 3) := by decide +kernel
theorem dX12_libraryCall_375 : decode cX12_libraryCall 375 = .ok (.iload 7, 2) := by decide +kernel
theorem dX12_libraryCall_377 : decode cX12_libraryCall 377 = .ok (.iconst 1, 1) := by decide +kernel
theorem dX12_libraryCall_378 : decode cX12_libraryCall 378 = .ok (.if_icmp .ne 133, 3) := by decide +kernel
theorem dX12_libraryCall_381 : decode cX12_libraryCall 381 = .ok (.aload_n 0, 1) := by decide +kernel
theorem dX12_libraryCall_382 : decode cX12_libraryCall 382 = .ok (.iload 7, 2) := by decide +kernel
theorem dX12_libraryCall_384 : decode cX12_libraryCall 384 = .ok (.putfield 369, 3) := by decide +kernel
theorem dX12_libraryCall_387 : decode cX12_libraryCall 387 = .ok (.iconst (-1), 1) := by decide +kernel
theorem dX12_libraryCall_388 : decode cX12_libraryCall 388 = .ok (.istore 10, 2) := by decide +kernel
theorem dX12_libraryCall_390 : decode cX12_libraryCall 390 = .ok (.goto 121, 3) := by decide +kernel
theorem dX12_libraryCall_393 : decode cX12_libraryCall 393 = .ok (.iload 6, 2) := by decide +kernel
theorem dX12_libraryCall_395 : decode cX12_libraryCall 395 = .ok (.bipush 10, 2) := by decide +kernel
theorem dX12_libraryCall_397 : decode cX12_libraryCall 397 = .ok (.if_icmp .ne 16, 3) := by decide +kernel
theorem dX12_libraryCall_400 : decode cX12_libraryCall 400 = .ok (.aload_n 0, 1) := by decide +kernel
theorem dX12_libraryCall_401 : decode cX12_libraryCall 401 = .ok (.getfield 357, 3) := by decide +kernel
theorem dX12_libraryCall_404 : decode cX12_libraryCall 404 = .ok (.aload_n 0, 1) := by decide +kernel
theorem dX12_libraryCall_405 : decode cX12_libraryCall 405 = .ok (.getfield 360, 3) := by decide +kernel
theorem dX12_libraryCall_408 : decode cX12_libraryCall 408 = .ok (.iconst 0, 1) := by decide +kernel
theorem dX12_libraryCall_409 : decode cX12_libraryCall 409 = .ok (.iastore, 1) := by decide +kernel
theorem dX12_libraryCall_410 : decode cX12_libraryCall 410 = .ok (.goto 101, 3) := by decide +kernel
theorem dX12_libraryCall_413 : decode cX12_libraryCall 413 = .ok (.iload 6, 2) := by decide +kernel
theorem dX12_libraryCall_415 : decode cX12_libraryCall 415 = .ok (.bipush 11, 2) := by decide +kernel
theorem dX12_libraryCall_417 : decode cX12_libraryCall 417 = .ok (.if_icmp .ne 14, 3) := by decide +kernel
theorem dX12_libraryCall_420 : decode cX12_libraryCall 420 = .ok (.aload_n 0, 1) := by decide +kernel
theorem dX12_libraryCall_421 : decode cX12_libraryCall 421 = .ok (.iload 7, 2) := by decide +kernel
theorem dX12_libraryCall_423 : decode cX12_libraryCall 423 = .ok (.invokevirtual 859, 3) := by decide +kernel
theorem dX12_libraryCall_426 : decode cX12_libraryCall 426 = .ok (.istore 10, 2) := by decide +kernel
theorem dX12_libraryCall_428 : decode cX12_libraryCall 428 = .ok (.goto 83, 3) := by decide +kernel
theorem dX12_libraryCall_431 : decode cX12_libraryCall 431 = .ok (.iload 6, 2) := by decide +kernel
theorem dX12_libraryCall_433 : decode cX12_libraryCall 433 = .ok (.bipush 12, 2) := by decide +kernel
theorem dX12_libraryCall_435 : decode cX12_libraryCall 435 = .ok (.if_icmp .ne 12, 3) := by decide +kernel
theorem dX12_libraryCall_438 : decode cX12_libraryCall 438 = .ok (.aload_n 0, 1) := by decide +kernel
theorem dX12_libraryCall_439 : decode cX12_libraryCall 439 = .ok (.iload 7, 2) := by decide +kernel
theorem dX12_libraryCall_441 : decode cX12_libraryCall 441 = .ok (.invokevirtual 862, 3) := by decide +kernel
theorem dX12_libraryCall_444 : decode cX12_libraryCall 444 = .ok (.goto 67, 3) := by decide +kernel
theorem dX12_libraryCall_447 : decode cX12_libraryCall 447 = .ok (.iload 6, 2) := by decide +kernel
theorem dX12_libraryCall_449 : decode cX12_libraryCall 449 = .ok (.bipush 14, 2) := by decide +kernel
theorem dX12_libraryCall_451 : decode cX12_libraryCall 451 = .ok (.if_icmp .ne 33, 3) := by decide +kernel
theorem dX12_libraryCall_454 : decode cX12_libraryCall 454 = .ok (.iload 9, 2) := by decide +kernel
theorem dX12_libraryCall_456 : decode cX12_libraryCall 456 = .ok (.ifCond .ne 11, 3) := by decide +kernel
theorem dX12_libraryCall_459 : decode cX12_libraryCall 459 = .ok (.aload_n 0, 1) := by decide +kernel
theorem dX12_libraryCall_460 : decode cX12_libraryCall 460 = .ok (.iconst 3, 1) := by decide +kernel
theorem dX12_libraryCall_461 : decode cX12_libraryCall 461 = .ok (.invokevirtual 792, 3) := by decide +kernel
theorem dX12_libraryCall_464 : decode cX12_libraryCall 464 = .ok (.goto 47, 3) := by decide +kernel
theorem dX12_libraryCall_467 : decode cX12_libraryCall 467 = .ok (.iload 7, 2) := by decide +kernel
theorem dX12_libraryCall_469 : decode cX12_libraryCall 469 = .ok (.i2l, 1) := by decide +kernel
theorem dX12_libraryCall_470 : decode cX12_libraryCall 470 = .ok (.iload 8, 2) := by decide +kernel
theorem dX12_libraryCall_472 : decode cX12_libraryCall 472 = .ok (.i2l, 1) := by decide +kernel
theorem dX12_libraryCall_473 : decode cX12_libraryCall 473 = .ok (.lmul, 1) := by decide +kernel
theorem dX12_libraryCall_474 : decode cX12_libraryCall 474 = .ok (.iload 9, 2) := by decide +kernel
theorem dX12_libraryCall_476 : decode cX12_libraryCall 476 = .ok (.i2l, 1) := by decide +kernel
theorem dX12_libraryCall_477 : decode cX12_libraryCall 477 = .ok (.ldiv, 1) := by decide +kernel
theorem dX12_libraryCall_478 : decode cX12_libraryCall 478 = .ok (.l2i, 1) := by decide +kernel
theorem dX12_libraryCall_479 : decode cX12_libraryCall 479 = .ok (.istore 10, 2) := by decide +kernel
theorem dX12_libraryCall_481 : decode cX12_libraryCall 481 = .ok (.goto 30, 3) := by decide +kernel
theorem dX12_libraryCall_484 : decode cX12_libraryCall 484 = .ok (.iload 6, 2) := by decide +kernel
theorem dX12_libraryCall_486 : decode cX12_libraryCall 486 = .ok (.bipush 17, 2) := by decide +kernel
theorem dX12_libraryCall_488 : decode cX12_libraryCall 488 = .ok (.if_icmp .ne 12, 3) := by decide +kernel
theorem dX12_libraryCall_491 : decode cX12_libraryCall 491 = .ok (.aload_n 0, 1) := by decide +kernel
theorem dX12_libraryCall_492 : decode cX12_libraryCall 492 = .ok (.invokevirtual 865, 3) := by decide +kernel
theorem dX12_libraryCall_495 : decode cX12_libraryCall 495 = .ok (.istore 10, 2) := by decide +kernel
theorem dX12_libraryCall_497 : decode cX12_libraryCall 497 = .ok (.goto 14, 3) := by decide +kernel
theorem dX12_libraryCall_500 : decode cX12_libraryCall 500 = .ok (.aload_n 0, 1) := by decide +kernel
theorem dX12_libraryCall_501 : decode cX12_libraryCall 501 = .ok (.iload 7, 2) := by decide +kernel
theorem dX12_libraryCall_503 : decode cX12_libraryCall 503 = .ok (.iload 8, 2) := by decide +kernel
theorem dX12_libraryCall_505 : decode cX12_libraryCall 505 = .ok (.iload 5, 2) := by decide +kernel
theorem dX12_libraryCall_507 : decode cX12_libraryCall 507 = .ok (.invokevirtual 868, 3) := by decide +kernel
theorem dX12_libraryCall_510 : decode cX12_libraryCall 510 = .ok (.return_, 1) := by decide +kernel
theorem dX12_libraryCall_511 : decode cX12_libraryCall 511 = .ok (.aload_n 0, 1) := by decide +kernel
theorem dX12_libraryCall_512 : decode cX12_libraryCall 512 = .ok (.iload 10, 2) := by decide +kernel
theorem dX12_libraryCall_514 : decode cX12_libraryCall 514 = .ok (.invokevirtual 795, 3) := by decide +kernel
theorem dX12_libraryCall_517 : decode cX12_libraryCall 517 = .ok (.return_, 1) := by decide +kernel
def wr_libraryCall_511 (Q : zS → Prop)  (s0 : zS) (x10 : Int) : Prop :=
  wr_push s0 x10 (fun s2 => Q s2)
def wr_libraryCall_134B (Q : zS → Prop) (k134 : zS → Int → Int → Int → Prop) (s0 : zS) (x7 : Int) (x10 : Int) (x12 : Int) : Prop :=
  ((x12 < 0 → wr_libraryCall_511 Q  s0 x10) ∧ (¬ x12 < 0 → ((10 ≤ (zan (zus x7 (4 * x12)) 15) → (zR (55 + (zan (zus x7 (4 * x12)) 15))) ∧ wr_outByte s0 (55 + (zan (zus x7 (4 * x12)) 15)) (fun s9 => (zR (x12 + (-1))) ∧ k134 s9 x7 x10 (x12 + (-1)))) ∧ (¬ 10 ≤ (zan (zus x7 (4 * x12)) 15) → (zR (48 + (zan (zus x7 (4 * x12)) 15))) ∧ wr_outByte s0 (48 + (zan (zus x7 (4 * x12)) 15)) (fun s20 => (zR (x12 + (-1))) ∧ k134 s20 x7 x10 (x12 + (-1)))))))
def wr_libraryCall_134 (Q : zS → Prop)  : Nat → zS → Int → Int → Int → Prop
  | 0 => fun _ _ _ _ => False
  | m + 1 => fun s0 x7 x10 x12 => wr_libraryCall_134B Q  (wr_libraryCall_134 Q  m) s0 x7 x10 x12
def wr_libraryCall (s0 : zS) (a0 : Int) (a1 : Int) (a2 : Int) (Q : zS → Prop) : Prop :=
  wr_arg s0 0 a1 (fun r1 s2 => wr_arg s2 1 a1 (fun r7 s8 => wr_arg s8 2 a1 (fun r13 s14 => (zR ((zv s14 91) - a1)) ∧ ((¬ a0 = 0 → ((¬ a0 = 15 → ((¬ a0 = 16 → ((¬ a0 = 1 → ((¬ a0 = 2 → ((¬ a0 = 3 → ((¬ a0 = 4 → ((¬ a0 = 5 → ((¬ a0 = 6 → ((¬ a0 = 7 → ((¬ a0 = 8 → ((¬ a0 = 9 → ((¬ a0 = 10 → ((¬ a0 = 11 → ((¬ a0 = 12 → ((¬ a0 = 14 → ((¬ a0 = 17 → wr_toVector (zpv s14 91 ((zv s14 91) - a1)) r1 r7 a2 (fun s58 => Q s58)) ∧ (a0 = 17 → wr_readNumber (zpv s14 91 ((zv s14 91) - a1))  (fun r64 s65 => wr_libraryCall_511 Q  s65 r64)))) ∧ (a0 = 14 → ((¬ r13 = 0 → (¬ r13 = 0) ∧ ∀ z75 : Int, z75 = zw (zdl (r1 * r7) r13) → zR z75 → wr_libraryCall_511 Q  (zpv s14 91 ((zv s14 91) - a1)) z75) ∧ (r13 = 0 → wr_err (zpv s14 91 ((zv s14 91) - a1)) 3 (fun s81 => wr_libraryCall_511 Q  s81 0)))))) ∧ (a0 = 12 → wr_freeVector (zpv s14 91 ((zv s14 91) - a1)) r1 (fun s88 => wr_libraryCall_511 Q  s88 0)))) ∧ (a0 = 11 → wr_getVector (zpv s14 91 ((zv s14 91) - a1)) r1 (fun r94 s95 => wr_libraryCall_511 Q  s95 r94)))) ∧ (a0 = 10 → (0 ≤ (zv s14 114)) ∧ ((zv s14 114) < 4) ∧ wr_libraryCall_511 Q  (zpa (zpv s14 91 ((zv s14 91) - a1)) 113 (Int.toNat (zv s14 114)) 0) 0))) ∧ (a0 = 9 → ((r1 = 0 → wr_libraryCall_511 Q  (zpv (zpv s14 91 ((zv s14 91) - a1)) 117 r1) (-1)) ∧ (¬ r1 = 0 → ((¬ r1 = 1 → wr_libraryCall_511 Q  (zpv s14 91 ((zv s14 91) - a1)) 0) ∧ (r1 = 1 → wr_libraryCall_511 Q  (zpv (zpv s14 91 ((zv s14 91) - a1)) 117 r1) (-1)))))))) ∧ (a0 = 8 → ((r1 < 0 → wr_libraryCall_511 Q  (zpv s14 91 ((zv s14 91) - a1)) 0) ∧ (¬ r1 < 0 → ((3 < r1 → wr_libraryCall_511 Q  (zpv s14 91 ((zv s14 91) - a1)) 0) ∧ (¬ 3 < r1 → wr_libraryCall_511 Q  (zpv (zpv s14 91 ((zv s14 91) - a1)) 114 r1) (-1)))))))) ∧ (a0 = 7 → (0 ≤ (zv s14 114)) ∧ ((zv s14 114) < 4) ∧ (((za s14 113 (Int.toNat (zv s14 114))) ≤ 0 → wr_libraryCall_511 Q  (zpv s14 91 ((zv s14 91) - a1)) 0) ∧ (¬ (za s14 113 (Int.toNat (zv s14 114))) ≤ 0 → (0 ≤ (zv s14 114)) ∧ ((zv s14 114) < 4) ∧ (0 ≤ (zv s14 114)) ∧ ((zv s14 114) < 4) ∧ (zR ((za s14 113 (Int.toNat (zv s14 114))) - 1)) ∧ wr_libraryCall_511 Q  (zpa (zpv s14 91 ((zv s14 91) - a1)) 113 (Int.toNat (zv s14 114)) ((za s14 113 (Int.toNat (zv s14 114))) - 1)) (-1)))))) ∧ (a0 = 6 → ((0 ≤ r1 → wr_libraryCall_511 Q  (zpv s14 91 ((zv s14 91) - a1)) r1) ∧ (¬ 0 ≤ r1 → ∀ z151 : Int, z151 = zw (-r1) → zR z151 → wr_libraryCall_511 Q  (zpv s14 91 ((zv s14 91) - a1)) z151))))) ∧ (a0 = 5 → wr_libraryCall_511 Q  (zpv (zpv (zpv (zpv s14 91 ((zv s14 91) - a1)) 102 1) 103 6) 104 r1) 0))) ∧ (a0 = 4 → wr_nextByte (zpv s14 91 ((zv s14 91) - a1))  (fun r163 s164 => wr_libraryCall_511 Q  s164 r163)))) ∧ (a0 = 3 → wr_outByte (zpv s14 91 ((zv s14 91) - a1)) 10 (fun s171 => wr_libraryCall_511 Q  s171 0)))) ∧ (a0 = 2 → wr_outByte (zpv s14 91 ((zv s14 91) - a1)) r1 (fun s178 => wr_libraryCall_511 Q  s178 0)))) ∧ (a0 = 1 → wr_writeString (zpv s14 91 ((zv s14 91) - a1)) r1 (fun s185 => wr_libraryCall_511 Q  s185 0)))) ∧ (a0 = 16 → ((1 ≤ r7 → ((r7 ≤ 8 → (zR (r7 - 1)) ∧ ∃ n, wr_libraryCall_134 Q  n (zpv s14 91 ((zv s14 91) - a1)) r1 0 (r7 - 1)) ∧ (¬ r7 ≤ 8 → (zR (8 - 1)) ∧ ∃ n, wr_libraryCall_134 Q  n (zpv s14 91 ((zv s14 91) - a1)) r1 0 (8 - 1)))) ∧ (¬ 1 ≤ r7 → (zR (1 - 1)) ∧ ∃ n, wr_libraryCall_134 Q  n (zpv s14 91 ((zv s14 91) - a1)) r1 0 (1 - 1)))))) ∧ (a0 = 15 → ((r7 ≤ 100 → wr_decimal (zpv s14 91 ((zv s14 91) - a1)) r1 r7 (fun s213 => wr_libraryCall_511 Q  s213 0)) ∧ (¬ r7 ≤ 100 → wr_decimal (zpv s14 91 ((zv s14 91) - a1)) r1 100 (fun s220 => wr_libraryCall_511 Q  s220 0)))))) ∧ (a0 = 0 → wr_decimal (zpv s14 91 ((zv s14 91) - a1)) r1 0 (fun s227 => wr_libraryCall_511 Q  s227 0))))))
set_option maxHeartbeats 4000000 in
set_option maxRecDepth 100000 in
theorem rj_libraryCall_511 {X : gX} {d : gD} {b t : Nat} {T : Nat → Nat} {F0 : gM} (hC : gC RX12 cX12_libraryCall 14 none "libraryCall" (gR 4 0 0) d b X) {Q : zS → Prop}   {F : gM} {s0 : zS} {x10 : Int} (Rx10 : zR x10) (hZ : zZ d t T F0 F s0) (hw : wr_libraryCall_511 Q  s0 x10) : gG X d b (zQv X d b t T F0 Q) F 0 0 511 [some (.ref t), none, none, none, none, none, none, none, none, none, some (.int (zI x10)), none, none, none] [] := by
  unfold wr_libraryCall_511 at hw
  refine g_aload_n hC dX12_libraryCall_511 rfl ?_
  refine g_iload hC dX12_libraryCall_512 rfl ?_
  refine zr_callVv (As := [.int (zI x10)]) hC hZ rfl (rm_push X.la d b Rx10 hZ.rf hw) cl_X12_795 rfl rfl (Nat.le_of_ble_eq_true rfl) ⟨Nat.le_of_ble_eq_true rfl, Nat.le_of_ble_eq_true rfl⟩ dX12_libraryCall_514 (fun s2 F3 hZ5 h6 => ?_)
  exact zr_vret hC hZ5 h6 dX12_libraryCall_517
set_option maxHeartbeats 4000000 in
set_option maxRecDepth 100000 in
theorem rb_libraryCall_134 {X : gX} {d : gD} {b t : Nat} {T : Nat → Nat} {F0 : gM} (hC : gC RX12 cX12_libraryCall 14 none "libraryCall" (gR 4 0 0) d b X) {Q : zS → Prop} {k134 : zS → Int → Int → Int → Prop} (hk134 : ∀ (F : gM) (s0 : zS) (x7 : Int) (x10 : Int) (x12 : Int), zR x7 → zR x10 → zR x12 → zZ d t T F0 F s0 → k134 s0 x7 x10 x12 → gG X d b (zQv X d b t T F0 Q) F 0 0 134 [some (.ref t), none, none, none, none, none, none, some (.int (zI x7)), none, none, some (.int (zI x10)), none, some (.int (zI x12)), none] []) {F : gM} {s0 : zS} {x7 : Int} {x10 : Int} {x12 : Int} (Rx7 : zR x7) (Rx10 : zR x10) (Rx12 : zR x12) (hZ : zZ d t T F0 F s0) (hw : wr_libraryCall_134B Q k134 s0 x7 x10 x12) : gG X d b (zQv X d b t T F0 Q) F 0 0 134 [some (.ref t), none, none, none, none, none, none, some (.int (zI x7)), none, none, some (.int (zI x10)), none, some (.int (zI x12)), none] [] := by
  unfold wr_libraryCall_134B at hw
  refine g_iload hC dX12_libraryCall_134 rfl ?_
  refine zr_if_lt (tgt := 181) hC Rx12 dX12_libraryCall_136 (by decide) (fun c1 => ?_) (fun c1 => ?_)
  · have h2 := hw.1 c1
    refine g_goto (tgt := 511) hC dX12_libraryCall_181 (by decide) ?_
    refine g_lv (lv' := [some (.ref t), none, none, none, none, none, none, none, none, none, some (.int (zI x10)), none, none, none]) ⟨rfl, rfl, trivial⟩ ?_
    exact rj_libraryCall_511 hC  Rx10 hZ h2
  · have h3 := hw.2 c1
    refine g_iload hC dX12_libraryCall_139 rfl ?_
    refine g_iconst (v := zI 4) hC dX12_libraryCall_141 rfl ?_
    refine g_iload hC dX12_libraryCall_142 rfl ?_
    refine zr_imul hC dX12_libraryCall_144 ?_
    refine zr_iushr hC dX12_libraryCall_145 ?_
    refine g_bipush (v := zI 15) hC dX12_libraryCall_146 rfl ?_
    refine zr_iand hC dX12_libraryCall_148 ?_
    refine g_istore (lv' := [some (.ref t), none, none, none, none, none, none, some (.int (zI x7)), none, none, some (.int (zI x10)), none, some (.int (zI x12)), some (.int (zI (zan (zus x7 (4 * x12)) 15)))]) hC dX12_libraryCall_149 (Nat.le_of_ble_eq_true rfl) rfl rfl ?_
    refine g_aload_n hC dX12_libraryCall_151 rfl ?_
    refine g_iload hC dX12_libraryCall_152 rfl ?_
    refine g_bipush (v := zI 10) hC dX12_libraryCall_154 rfl ?_
    refine zr_icmp_ge (tgt := 167) hC (zR_t _) (by decide) dX12_libraryCall_156 (by decide) (fun c4 => ?_) (fun c4 => ?_)
    · have h5 := h3.1 c4
      refine g_bipush (v := zI 55) hC dX12_libraryCall_167 rfl ?_
      refine g_iload hC dX12_libraryCall_169 rfl ?_
      refine zr_iadd hC dX12_libraryCall_171 ?_
      obtain ⟨o6, h7⟩ := h5
      refine zr_callVv (As := [.int (zI (55 + (zan (zus x7 (4 * x12)) 15)))]) hC hZ rfl (rm_outByte X.la d b o6 hZ.rf h7) cl_X12_834 rfl rfl (Nat.le_of_ble_eq_true rfl) ⟨Nat.le_of_ble_eq_true rfl, Nat.le_of_ble_eq_true rfl⟩ dX12_libraryCall_172 (fun s9 F10 hZ12 h13 => ?_)
      refine zr_iinc (x := x12) (lv' := [some (.ref t), none, none, none, none, none, none, some (.int (zI x7)), none, none, some (.int (zI x10)), none, some (.int (zI (x12 + (-1)))), some (.int (zI (zan (zus x7 (4 * x12)) 15)))]) hC dX12_libraryCall_175 rfl rfl rfl ?_
      refine g_goto (tgt := 134) hC dX12_libraryCall_178 (by decide) ?_
      obtain ⟨o14, h15⟩ := h13
      refine g_lv (lv' := [some (.ref t), none, none, none, none, none, none, some (.int (zI x7)), none, none, some (.int (zI x10)), none, some (.int (zI (x12 + (-1)))), none]) ⟨rfl, rfl, rfl, rfl, trivial⟩ ?_
      exact hk134 _ _ _ _ _ Rx7 Rx10 o14 hZ12 h15
    · have h16 := h3.2 c4
      refine g_bipush (v := zI 48) hC dX12_libraryCall_159 rfl ?_
      refine g_iload hC dX12_libraryCall_161 rfl ?_
      refine zr_iadd hC dX12_libraryCall_163 ?_
      refine g_goto (tgt := 172) hC dX12_libraryCall_164 (by decide) ?_
      obtain ⟨o17, h18⟩ := h16
      refine zr_callVv (As := [.int (zI (48 + (zan (zus x7 (4 * x12)) 15)))]) hC hZ rfl (rm_outByte X.la d b o17 hZ.rf h18) cl_X12_834 rfl rfl (Nat.le_of_ble_eq_true rfl) ⟨Nat.le_of_ble_eq_true rfl, Nat.le_of_ble_eq_true rfl⟩ dX12_libraryCall_172 (fun s20 F21 hZ23 h24 => ?_)
      refine zr_iinc (x := x12) (lv' := [some (.ref t), none, none, none, none, none, none, some (.int (zI x7)), none, none, some (.int (zI x10)), none, some (.int (zI (x12 + (-1)))), some (.int (zI (zan (zus x7 (4 * x12)) 15)))]) hC dX12_libraryCall_175 rfl rfl rfl ?_
      refine g_goto (tgt := 134) hC dX12_libraryCall_178 (by decide) ?_
      obtain ⟨o25, h26⟩ := h24
      refine g_lv (lv' := [some (.ref t), none, none, none, none, none, none, some (.int (zI x7)), none, none, some (.int (zI x10)), none, some (.int (zI (x12 + (-1)))), none]) ⟨rfl, rfl, rfl, rfl, trivial⟩ ?_
      exact hk134 _ _ _ _ _ Rx7 Rx10 o25 hZ23 h26
theorem rl_libraryCall_134 {X : gX} {d : gD} {b t : Nat} {T : Nat → Nat} {F0 : gM} (hC : gC RX12 cX12_libraryCall 14 none "libraryCall" (gR 4 0 0) d b X) {Q : zS → Prop}   : ∀ (m : Nat) (F : gM) (s0 : zS) (x7 : Int) (x10 : Int) (x12 : Int), zR x7 → zR x10 → zR x12 → zZ d t T F0 F s0 → wr_libraryCall_134 Q  m s0 x7 x10 x12 → gG X d b (zQv X d b t T F0 Q) F 0 0 134 [some (.ref t), none, none, none, none, none, none, some (.int (zI x7)), none, none, some (.int (zI x10)), none, some (.int (zI x12)), none] [] := by
  intro m
  induction m with
  | zero => intro F s0 x7 x10 x12 Rx7 Rx10 Rx12 hZ hw; exact False.elim hw
  | succ m ih => intro F s0 x7 x10 x12 Rx7 Rx10 Rx12 hZ hw; exact rb_libraryCall_134 hC  ih Rx7 Rx10 Rx12 hZ hw
set_option maxHeartbeats 4000000 in
set_option maxRecDepth 100000 in
theorem rm_libraryCall (l : Launch) (d : gD) (b : Nat) {t : Nat} {T : Nat → Nat} {F : gM} {s0 : zS} {a0 : Int} {a1 : Int} {a2 : Int} (Ra0 : zR a0) (Ra1 : zR a1) (Ra2 : zR a2) {Q : zS → Prop} (hZ : zZ d t T F F s0) (hw : wr_libraryCall s0 a0 a1 a2 Q) : gMv l d b yX12_libraryCall cX12_libraryCall 14 4 0 0 F [.ref t, .int (zI a0), .int (zI a1), .int (zI a2)] (zPv d t T F Q) := by
  refine gM_of2 rfl (nL := 14) (Nat.le_of_ble_eq_true rfl) ?_
  intro X hX hC; subst hX
  show gG X d b (zQv X d b t T F Q) F 0 0 0 [some (.ref t), some (.int (zI a0)), some (.int (zI a1)), some (.int (zI a2)), none, none, none, none, none, none, none, none, none, none] []
  unfold wr_libraryCall at hw
  refine g_iload_n hC dX12_libraryCall_0 rfl ?_
  refine g_istore (lv' := [some (.ref t), some (.int (zI a0)), some (.int (zI a1)), some (.int (zI a2)), some (.int (zI a1)), none, none, none, none, none, none, none, none, none]) hC dX12_libraryCall_1 (Nat.le_of_ble_eq_true rfl) rfl rfl ?_
  refine g_iload_n hC dX12_libraryCall_3 rfl ?_
  refine g_istore (lv' := [some (.ref t), some (.int (zI a0)), some (.int (zI a1)), some (.int (zI a2)), some (.int (zI a1)), some (.int (zI a2)), none, none, none, none, none, none, none, none]) hC dX12_libraryCall_4 (Nat.le_of_ble_eq_true rfl) rfl rfl ?_
  refine g_iload_n hC dX12_libraryCall_6 rfl ?_
  refine g_istore (lv' := [some (.ref t), some (.int (zI a0)), some (.int (zI a1)), some (.int (zI a2)), some (.int (zI a1)), some (.int (zI a2)), some (.int (zI a0)), none, none, none, none, none, none, none]) hC dX12_libraryCall_7 (Nat.le_of_ble_eq_true rfl) rfl rfl ?_
  refine g_aload_n hC dX12_libraryCall_9 rfl ?_
  refine g_iconst (v := zI 0) hC dX12_libraryCall_10 rfl ?_
  refine g_iload hC dX12_libraryCall_11 rfl ?_
  refine zr_callVi (As := [.int (zI 0), .int (zI a1)]) hC hZ rfl (rm_arg X.la d b (by decide) Ra1 hZ.rf hw) cl_X12_850 rfl rfl (Nat.le_of_ble_eq_true rfl) ⟨Nat.le_of_ble_eq_true rfl, Nat.le_of_ble_eq_true rfl⟩ dX12_libraryCall_13 (fun r1 s2 F3 R4 hZ5 h6 => ?_)
  refine g_istore (lv' := [some (.ref t), some (.int (zI a0)), some (.int (zI a1)), some (.int (zI a2)), some (.int (zI a1)), some (.int (zI a2)), some (.int (zI a0)), some (.int (zI r1)), none, none, none, none, none, none]) hC dX12_libraryCall_16 (Nat.le_of_ble_eq_true rfl) rfl rfl ?_
  refine g_aload_n hC dX12_libraryCall_18 rfl ?_
  refine g_iconst (v := zI 1) hC dX12_libraryCall_19 rfl ?_
  refine g_iload hC dX12_libraryCall_20 rfl ?_
  refine zr_callVi (As := [.int (zI 1), .int (zI a1)]) hC hZ5 rfl (rm_arg X.la d b (by decide) Ra1 hZ5.rf h6) cl_X12_850 rfl rfl (Nat.le_of_ble_eq_true rfl) ⟨Nat.le_of_ble_eq_true rfl, Nat.le_of_ble_eq_true rfl⟩ dX12_libraryCall_22 (fun r7 s8 F9 R10 hZ11 h12 => ?_)
  refine g_istore (lv' := [some (.ref t), some (.int (zI a0)), some (.int (zI a1)), some (.int (zI a2)), some (.int (zI a1)), some (.int (zI a2)), some (.int (zI a0)), some (.int (zI r1)), some (.int (zI r7)), none, none, none, none, none]) hC dX12_libraryCall_25 (Nat.le_of_ble_eq_true rfl) rfl rfl ?_
  refine g_aload_n hC dX12_libraryCall_27 rfl ?_
  refine g_iconst (v := zI 2) hC dX12_libraryCall_28 rfl ?_
  refine g_iload hC dX12_libraryCall_29 rfl ?_
  refine zr_callVi (As := [.int (zI 2), .int (zI a1)]) hC hZ11 rfl (rm_arg X.la d b (by decide) Ra1 hZ11.rf h12) cl_X12_850 rfl rfl (Nat.le_of_ble_eq_true rfl) ⟨Nat.le_of_ble_eq_true rfl, Nat.le_of_ble_eq_true rfl⟩ dX12_libraryCall_31 (fun r13 s14 F15 R16 hZ17 h18 => ?_)
  refine g_istore (lv' := [some (.ref t), some (.int (zI a0)), some (.int (zI a1)), some (.int (zI a2)), some (.int (zI a1)), some (.int (zI a2)), some (.int (zI a0)), some (.int (zI r1)), some (.int (zI r7)), some (.int (zI r13)), none, none, none, none]) hC dX12_libraryCall_34 (Nat.le_of_ble_eq_true rfl) rfl rfl ?_
  refine g_aload_n hC dX12_libraryCall_36 rfl ?_
  refine g_dup hC dX12_libraryCall_37 rfl ?_
  refine zr_get (e := (zv s14 91)) hC hZ17 fl_X12_289 zb_91 (by decide) rfl dX12_libraryCall_38 ?_
  refine g_iload hC dX12_libraryCall_41 rfl ?_
  refine zr_isub hC dX12_libraryCall_43 ?_
  obtain ⟨o19, h20⟩ := h18
  refine zr_put hC hZ17 fl_X12_289 zb_91 (by decide) o19 dX12_libraryCall_44 (fun F21 hZ22 => ?_)
  refine g_iconst (v := zI 0) hC dX12_libraryCall_47 rfl ?_
  refine g_istore (lv' := [some (.ref t), some (.int (zI a0)), some (.int (zI a1)), some (.int (zI a2)), some (.int (zI a1)), some (.int (zI a2)), some (.int (zI a0)), some (.int (zI r1)), some (.int (zI r7)), some (.int (zI r13)), some (.int (zI 0)), none, none, none]) hC dX12_libraryCall_48 (Nat.le_of_ble_eq_true rfl) rfl rfl ?_
  refine g_iload hC dX12_libraryCall_50 rfl ?_
  refine zr_if_ne (tgt := 65) hC Ra0 dX12_libraryCall_52 (by decide) (fun c23 => ?_) (fun c23 => ?_)
  · have h24 := h20.1 c23
    refine g_iload hC dX12_libraryCall_65 rfl ?_
    refine g_bipush (v := zI 15) hC dX12_libraryCall_67 rfl ?_
    refine zr_icmp_ne (tgt := 95) hC Ra0 (by decide) dX12_libraryCall_69 (by decide) (fun c25 => ?_) (fun c25 => ?_)
    · have h26 := h24.1 c25
      refine g_iload hC dX12_libraryCall_95 rfl ?_
      refine g_bipush (v := zI 16) hC dX12_libraryCall_97 rfl ?_
      refine zr_icmp_ne (tgt := 184) hC Ra0 (by decide) dX12_libraryCall_99 (by decide) (fun c27 => ?_) (fun c27 => ?_)
      · have h28 := h26.1 c27
        refine g_iload hC dX12_libraryCall_184 rfl ?_
        refine g_iconst (v := zI 1) hC dX12_libraryCall_186 rfl ?_
        refine zr_icmp_ne (tgt := 199) hC Ra0 (by decide) dX12_libraryCall_187 (by decide) (fun c29 => ?_) (fun c29 => ?_)
        · have h30 := h28.1 c29
          refine g_iload hC dX12_libraryCall_199 rfl ?_
          refine g_iconst (v := zI 2) hC dX12_libraryCall_201 rfl ?_
          refine zr_icmp_ne (tgt := 214) hC Ra0 (by decide) dX12_libraryCall_202 (by decide) (fun c31 => ?_) (fun c31 => ?_)
          · have h32 := h30.1 c31
            refine g_iload hC dX12_libraryCall_214 rfl ?_
            refine g_iconst (v := zI 3) hC dX12_libraryCall_216 rfl ?_
            refine zr_icmp_ne (tgt := 229) hC Ra0 (by decide) dX12_libraryCall_217 (by decide) (fun c33 => ?_) (fun c33 => ?_)
            · have h34 := h32.1 c33
              refine g_iload hC dX12_libraryCall_229 rfl ?_
              refine g_iconst (v := zI 4) hC dX12_libraryCall_231 rfl ?_
              refine zr_icmp_ne (tgt := 244) hC Ra0 (by decide) dX12_libraryCall_232 (by decide) (fun c35 => ?_) (fun c35 => ?_)
              · have h36 := h34.1 c35
                refine g_iload hC dX12_libraryCall_244 rfl ?_
                refine g_iconst (v := zI 5) hC dX12_libraryCall_246 rfl ?_
                refine zr_icmp_ne (tgt := 270) hC Ra0 (by decide) dX12_libraryCall_247 (by decide) (fun c37 => ?_) (fun c37 => ?_)
                · have h38 := h36.1 c37
                  refine g_iload hC dX12_libraryCall_270 rfl ?_
                  refine g_bipush (v := zI 6) hC dX12_libraryCall_272 rfl ?_
                  refine zr_icmp_ne (tgt := 295) hC Ra0 (by decide) dX12_libraryCall_274 (by decide) (fun c39 => ?_) (fun c39 => ?_)
                  · have h40 := h38.1 c39
                    refine g_iload hC dX12_libraryCall_295 rfl ?_
                    refine g_bipush (v := zI 7) hC dX12_libraryCall_297 rfl ?_
                    refine zr_icmp_ne (tgt := 333) hC Ra0 (by decide) dX12_libraryCall_299 (by decide) (fun c41 => ?_) (fun c41 => ?_)
                    · have h42 := h40.1 c41
                      refine g_iload hC dX12_libraryCall_333 rfl ?_
                      refine g_bipush (v := zI 8) hC dX12_libraryCall_335 rfl ?_
                      refine zr_icmp_ne (tgt := 363) hC Ra0 (by decide) dX12_libraryCall_337 (by decide) (fun c43 => ?_) (fun c43 => ?_)
                      · have h44 := h42.1 c43
                        refine g_iload hC dX12_libraryCall_363 rfl ?_
                        refine g_bipush (v := zI 9) hC dX12_libraryCall_365 rfl ?_
                        refine zr_icmp_ne (tgt := 393) hC Ra0 (by decide) dX12_libraryCall_367 (by decide) (fun c45 => ?_) (fun c45 => ?_)
                        · have h46 := h44.1 c45
                          refine g_iload hC dX12_libraryCall_393 rfl ?_
                          refine g_bipush (v := zI 10) hC dX12_libraryCall_395 rfl ?_
                          refine zr_icmp_ne (tgt := 413) hC Ra0 (by decide) dX12_libraryCall_397 (by decide) (fun c47 => ?_) (fun c47 => ?_)
                          · have h48 := h46.1 c47
                            refine g_iload hC dX12_libraryCall_413 rfl ?_
                            refine g_bipush (v := zI 11) hC dX12_libraryCall_415 rfl ?_
                            refine zr_icmp_ne (tgt := 431) hC Ra0 (by decide) dX12_libraryCall_417 (by decide) (fun c49 => ?_) (fun c49 => ?_)
                            · have h50 := h48.1 c49
                              refine g_iload hC dX12_libraryCall_431 rfl ?_
                              refine g_bipush (v := zI 12) hC dX12_libraryCall_433 rfl ?_
                              refine zr_icmp_ne (tgt := 447) hC Ra0 (by decide) dX12_libraryCall_435 (by decide) (fun c51 => ?_) (fun c51 => ?_)
                              · have h52 := h50.1 c51
                                refine g_iload hC dX12_libraryCall_447 rfl ?_
                                refine g_bipush (v := zI 14) hC dX12_libraryCall_449 rfl ?_
                                refine zr_icmp_ne (tgt := 484) hC Ra0 (by decide) dX12_libraryCall_451 (by decide) (fun c53 => ?_) (fun c53 => ?_)
                                · have h54 := h52.1 c53
                                  refine g_iload hC dX12_libraryCall_484 rfl ?_
                                  refine g_bipush (v := zI 17) hC dX12_libraryCall_486 rfl ?_
                                  refine zr_icmp_ne (tgt := 500) hC Ra0 (by decide) dX12_libraryCall_488 (by decide) (fun c55 => ?_) (fun c55 => ?_)
                                  · have h56 := h54.1 c55
                                    refine g_aload_n hC dX12_libraryCall_500 rfl ?_
                                    refine g_iload hC dX12_libraryCall_501 rfl ?_
                                    refine g_iload hC dX12_libraryCall_503 rfl ?_
                                    refine g_iload hC dX12_libraryCall_505 rfl ?_
                                    refine zr_callVv (As := [.int (zI r1), .int (zI r7), .int (zI a2)]) hC hZ22 rfl (rm_toVector X.la d b R4 R10 Ra2 hZ22.rf h56) cl_X12_868 rfl rfl (Nat.le_of_ble_eq_true rfl) ⟨Nat.le_of_ble_eq_true rfl, Nat.le_of_ble_eq_true rfl⟩ dX12_libraryCall_507 (fun s58 F59 hZ61 h62 => ?_)
                                    exact zr_vret hC hZ61 h62 dX12_libraryCall_510
                                  · have h63 := h54.2 c55
                                    refine g_aload_n hC dX12_libraryCall_491 rfl ?_
                                    refine zr_callVi (As := []) hC hZ22 rfl (rm_readNumber X.la d b  hZ22.rf h63) cl_X12_865 rfl rfl (Nat.le_of_ble_eq_true rfl) ⟨Nat.le_of_ble_eq_true rfl, Nat.le_of_ble_eq_true rfl⟩ dX12_libraryCall_492 (fun r64 s65 F66 R67 hZ68 h69 => ?_)
                                    refine g_istore (lv' := [some (.ref t), some (.int (zI a0)), some (.int (zI a1)), some (.int (zI a2)), some (.int (zI a1)), some (.int (zI a2)), some (.int (zI a0)), some (.int (zI r1)), some (.int (zI r7)), some (.int (zI r13)), some (.int (zI r64)), none, none, none]) hC dX12_libraryCall_495 (Nat.le_of_ble_eq_true rfl) rfl rfl ?_
                                    refine g_goto (tgt := 511) hC dX12_libraryCall_497 (by decide) ?_
                                    refine g_lv (lv' := [some (.ref t), none, none, none, none, none, none, none, none, none, some (.int (zI r64)), none, none, none]) ⟨rfl, rfl, trivial⟩ ?_
                                    exact rj_libraryCall_511 hC  R67 hZ68 h69
                                · have h70 := h52.2 c53
                                  refine g_iload hC dX12_libraryCall_454 rfl ?_
                                  refine zr_if_ne (tgt := 467) hC R16 dX12_libraryCall_456 (by decide) (fun c71 => ?_) (fun c71 => ?_)
                                  · have h72 := h70.1 c71
                                    refine g_iload hC dX12_libraryCall_467 rfl ?_
                                    refine zr_i2l hC dX12_libraryCall_469 R4 ?_
                                    refine g_iload hC dX12_libraryCall_470 rfl ?_
                                    refine zr_i2l hC dX12_libraryCall_472 R10 ?_
                                    refine zr_lmul hC dX12_libraryCall_473 ?_
                                    refine g_iload hC dX12_libraryCall_474 rfl ?_
                                    refine zr_i2l hC dX12_libraryCall_476 R16 ?_
                                    obtain ⟨o73, h74⟩ := h72
                                    refine zr_ldiv hC dX12_libraryCall_477 (zR_L R16) o73 ?_
                                    refine zr_l2i hC dX12_libraryCall_478 ?_
                                    refine zr_w (fun z75 e76 R77 => ?_)
                                    have h78 := h74 z75 e76 R77
                                    refine g_istore (lv' := [some (.ref t), some (.int (zI a0)), some (.int (zI a1)), some (.int (zI a2)), some (.int (zI a1)), some (.int (zI a2)), some (.int (zI a0)), some (.int (zI r1)), some (.int (zI r7)), some (.int (zI r13)), some (.int (zI z75)), none, none, none]) hC dX12_libraryCall_479 (Nat.le_of_ble_eq_true rfl) rfl rfl ?_
                                    refine g_goto (tgt := 511) hC dX12_libraryCall_481 (by decide) ?_
                                    refine g_lv (lv' := [some (.ref t), none, none, none, none, none, none, none, none, none, some (.int (zI z75)), none, none, none]) ⟨rfl, rfl, trivial⟩ ?_
                                    exact rj_libraryCall_511 hC  R77 hZ22 h78
                                  · have h79 := h70.2 c71
                                    refine g_aload_n hC dX12_libraryCall_459 rfl ?_
                                    refine g_iconst (v := zI 3) hC dX12_libraryCall_460 rfl ?_
                                    refine zr_callVv (As := [.int (zI 3)]) hC hZ22 rfl (rm_err X.la d b (by decide) hZ22.rf h79) cl_X12_792 rfl rfl (Nat.le_of_ble_eq_true rfl) ⟨Nat.le_of_ble_eq_true rfl, Nat.le_of_ble_eq_true rfl⟩ dX12_libraryCall_461 (fun s81 F82 hZ84 h85 => ?_)
                                    refine g_goto (tgt := 511) hC dX12_libraryCall_464 (by decide) ?_
                                    refine g_lv (lv' := [some (.ref t), none, none, none, none, none, none, none, none, none, some (.int (zI 0)), none, none, none]) ⟨rfl, rfl, trivial⟩ ?_
                                    exact rj_libraryCall_511 hC  (by decide) hZ84 h85
                              · have h86 := h50.2 c51
                                refine g_aload_n hC dX12_libraryCall_438 rfl ?_
                                refine g_iload hC dX12_libraryCall_439 rfl ?_
                                refine zr_callVv (As := [.int (zI r1)]) hC hZ22 rfl (rm_freeVector X.la d b R4 hZ22.rf h86) cl_X12_862 rfl rfl (Nat.le_of_ble_eq_true rfl) ⟨Nat.le_of_ble_eq_true rfl, Nat.le_of_ble_eq_true rfl⟩ dX12_libraryCall_441 (fun s88 F89 hZ91 h92 => ?_)
                                refine g_goto (tgt := 511) hC dX12_libraryCall_444 (by decide) ?_
                                refine g_lv (lv' := [some (.ref t), none, none, none, none, none, none, none, none, none, some (.int (zI 0)), none, none, none]) ⟨rfl, rfl, trivial⟩ ?_
                                exact rj_libraryCall_511 hC  (by decide) hZ91 h92
                            · have h93 := h48.2 c49
                              refine g_aload_n hC dX12_libraryCall_420 rfl ?_
                              refine g_iload hC dX12_libraryCall_421 rfl ?_
                              refine zr_callVi (As := [.int (zI r1)]) hC hZ22 rfl (rm_getVector X.la d b R4 hZ22.rf h93) cl_X12_859 rfl rfl (Nat.le_of_ble_eq_true rfl) ⟨Nat.le_of_ble_eq_true rfl, Nat.le_of_ble_eq_true rfl⟩ dX12_libraryCall_423 (fun r94 s95 F96 R97 hZ98 h99 => ?_)
                              refine g_istore (lv' := [some (.ref t), some (.int (zI a0)), some (.int (zI a1)), some (.int (zI a2)), some (.int (zI a1)), some (.int (zI a2)), some (.int (zI a0)), some (.int (zI r1)), some (.int (zI r7)), some (.int (zI r13)), some (.int (zI r94)), none, none, none]) hC dX12_libraryCall_426 (Nat.le_of_ble_eq_true rfl) rfl rfl ?_
                              refine g_goto (tgt := 511) hC dX12_libraryCall_428 (by decide) ?_
                              refine g_lv (lv' := [some (.ref t), none, none, none, none, none, none, none, none, none, some (.int (zI r94)), none, none, none]) ⟨rfl, rfl, trivial⟩ ?_
                              exact rj_libraryCall_511 hC  R97 hZ98 h99
                          · have h100 := h46.2 c47
                            refine g_aload_n hC dX12_libraryCall_400 rfl ?_
                            refine zr_geta hC hZ22 fl_X12_357 zb_113 (by decide) dX12_libraryCall_401 ?_
                            refine g_aload_n hC dX12_libraryCall_404 rfl ?_
                            refine zr_get (e := (zv s14 114)) hC hZ22 fl_X12_360 zb_114 (by decide) rfl dX12_libraryCall_405 ?_
                            refine g_iconst (v := zI 0) hC dX12_libraryCall_408 rfl ?_
                            obtain ⟨o101, h102⟩ := h100
                            obtain ⟨o103, h104⟩ := h102
                            refine zr_iast hC hZ22 zk_113 zb_113 zn_113 (by decide) o101 o103 (by decide) dX12_libraryCall_409 (fun F105 hZ106 => ?_)
                            refine g_goto (tgt := 511) hC dX12_libraryCall_410 (by decide) ?_
                            refine g_lv (lv' := [some (.ref t), none, none, none, none, none, none, none, none, none, some (.int (zI 0)), none, none, none]) ⟨rfl, rfl, trivial⟩ ?_
                            exact rj_libraryCall_511 hC  (by decide) hZ106 h104
                        · have h107 := h44.2 c45
                          refine g_iload hC dX12_libraryCall_370 rfl ?_
                          refine zr_if_eq (tgt := 381) hC R4 dX12_libraryCall_372 (by decide) (fun c108 => ?_) (fun c108 => ?_)
                          · have h109 := h107.1 c108
                            refine g_aload_n hC dX12_libraryCall_381 rfl ?_
                            refine g_iload hC dX12_libraryCall_382 rfl ?_
                            refine zr_put hC hZ22 fl_X12_369 zb_117 (by decide) R4 dX12_libraryCall_384 (fun F110 hZ111 => ?_)
                            refine g_iconst (v := zI (-1)) hC dX12_libraryCall_387 rfl ?_
                            refine g_istore (lv' := [some (.ref t), some (.int (zI a0)), some (.int (zI a1)), some (.int (zI a2)), some (.int (zI a1)), some (.int (zI a2)), some (.int (zI a0)), some (.int (zI r1)), some (.int (zI r7)), some (.int (zI r13)), some (.int (zI (-1))), none, none, none]) hC dX12_libraryCall_388 (Nat.le_of_ble_eq_true rfl) rfl rfl ?_
                            refine g_goto (tgt := 511) hC dX12_libraryCall_390 (by decide) ?_
                            refine g_lv (lv' := [some (.ref t), none, none, none, none, none, none, none, none, none, some (.int (zI (-1))), none, none, none]) ⟨rfl, rfl, trivial⟩ ?_
                            exact rj_libraryCall_511 hC  (by decide) hZ111 h109
                          · have h112 := h107.2 c108
                            refine g_iload hC dX12_libraryCall_375 rfl ?_
                            refine g_iconst (v := zI 1) hC dX12_libraryCall_377 rfl ?_
                            refine zr_icmp_ne (tgt := 511) hC R4 (by decide) dX12_libraryCall_378 (by decide) (fun c113 => ?_) (fun c113 => ?_)
                            · have h114 := h112.1 c113
                              refine g_lv (lv' := [some (.ref t), none, none, none, none, none, none, none, none, none, some (.int (zI 0)), none, none, none]) ⟨rfl, rfl, trivial⟩ ?_
                              exact rj_libraryCall_511 hC  (by decide) hZ22 h114
                            · have h115 := h112.2 c113
                              refine g_aload_n hC dX12_libraryCall_381 rfl ?_
                              refine g_iload hC dX12_libraryCall_382 rfl ?_
                              refine zr_put hC hZ22 fl_X12_369 zb_117 (by decide) R4 dX12_libraryCall_384 (fun F116 hZ117 => ?_)
                              refine g_iconst (v := zI (-1)) hC dX12_libraryCall_387 rfl ?_
                              refine g_istore (lv' := [some (.ref t), some (.int (zI a0)), some (.int (zI a1)), some (.int (zI a2)), some (.int (zI a1)), some (.int (zI a2)), some (.int (zI a0)), some (.int (zI r1)), some (.int (zI r7)), some (.int (zI r13)), some (.int (zI (-1))), none, none, none]) hC dX12_libraryCall_388 (Nat.le_of_ble_eq_true rfl) rfl rfl ?_
                              refine g_goto (tgt := 511) hC dX12_libraryCall_390 (by decide) ?_
                              refine g_lv (lv' := [some (.ref t), none, none, none, none, none, none, none, none, none, some (.int (zI (-1))), none, none, none]) ⟨rfl, rfl, trivial⟩ ?_
                              exact rj_libraryCall_511 hC  (by decide) hZ117 h115
                      · have h118 := h42.2 c43
                        refine g_iload hC dX12_libraryCall_340 rfl ?_
                        refine zr_if_lt (tgt := 511) hC R4 dX12_libraryCall_342 (by decide) (fun c119 => ?_) (fun c119 => ?_)
                        · have h120 := h118.1 c119
                          refine g_lv (lv' := [some (.ref t), none, none, none, none, none, none, none, none, none, some (.int (zI 0)), none, none, none]) ⟨rfl, rfl, trivial⟩ ?_
                          exact rj_libraryCall_511 hC  (by decide) hZ22 h120
                        · have h121 := h118.2 c119
                          refine g_iload hC dX12_libraryCall_345 rfl ?_
                          refine g_iconst (v := zI 3) hC dX12_libraryCall_347 rfl ?_
                          refine zr_icmp_gt (tgt := 511) hC R4 (by decide) dX12_libraryCall_348 (by decide) (fun c122 => ?_) (fun c122 => ?_)
                          · have h123 := h121.1 c122
                            refine g_lv (lv' := [some (.ref t), none, none, none, none, none, none, none, none, none, some (.int (zI 0)), none, none, none]) ⟨rfl, rfl, trivial⟩ ?_
                            exact rj_libraryCall_511 hC  (by decide) hZ22 h123
                          · have h124 := h121.2 c122
                            refine g_aload_n hC dX12_libraryCall_351 rfl ?_
                            refine g_iload hC dX12_libraryCall_352 rfl ?_
                            refine zr_put hC hZ22 fl_X12_360 zb_114 (by decide) R4 dX12_libraryCall_354 (fun F125 hZ126 => ?_)
                            refine g_iconst (v := zI (-1)) hC dX12_libraryCall_357 rfl ?_
                            refine g_istore (lv' := [some (.ref t), some (.int (zI a0)), some (.int (zI a1)), some (.int (zI a2)), some (.int (zI a1)), some (.int (zI a2)), some (.int (zI a0)), some (.int (zI r1)), some (.int (zI r7)), some (.int (zI r13)), some (.int (zI (-1))), none, none, none]) hC dX12_libraryCall_358 (Nat.le_of_ble_eq_true rfl) rfl rfl ?_
                            refine g_goto (tgt := 511) hC dX12_libraryCall_360 (by decide) ?_
                            refine g_lv (lv' := [some (.ref t), none, none, none, none, none, none, none, none, none, some (.int (zI (-1))), none, none, none]) ⟨rfl, rfl, trivial⟩ ?_
                            exact rj_libraryCall_511 hC  (by decide) hZ126 h124
                    · have h127 := h40.2 c41
                      refine g_aload_n hC dX12_libraryCall_302 rfl ?_
                      refine zr_geta hC hZ22 fl_X12_357 zb_113 (by decide) dX12_libraryCall_303 ?_
                      refine g_aload_n hC dX12_libraryCall_306 rfl ?_
                      refine zr_get (e := (zv s14 114)) hC hZ22 fl_X12_360 zb_114 (by decide) rfl dX12_libraryCall_307 ?_
                      obtain ⟨o128, h129⟩ := h127
                      obtain ⟨o130, h131⟩ := h129
                      refine zr_iald (v := (za s14 113 (Int.toNat (zv s14 114)))) hC hZ22 zk_113 zb_113 zn_113 (by decide) o128 o130 rfl dX12_libraryCall_310 ?_
                      refine zr_if_le (tgt := 511) hC (hZ17.ra 113 _) dX12_libraryCall_311 (by decide) (fun c132 => ?_) (fun c132 => ?_)
                      · have h133 := h131.1 c132
                        refine g_lv (lv' := [some (.ref t), none, none, none, none, none, none, none, none, none, some (.int (zI 0)), none, none, none]) ⟨rfl, rfl, trivial⟩ ?_
                        exact rj_libraryCall_511 hC  (by decide) hZ22 h133
                      · have h134 := h131.2 c132
                        refine g_aload_n hC dX12_libraryCall_314 rfl ?_
                        refine zr_geta hC hZ22 fl_X12_357 zb_113 (by decide) dX12_libraryCall_315 ?_
                        refine g_aload_n hC dX12_libraryCall_318 rfl ?_
                        refine zr_get (e := (zv s14 114)) hC hZ22 fl_X12_360 zb_114 (by decide) rfl dX12_libraryCall_319 ?_
                        refine g_dup2 hC dX12_libraryCall_322 rfl rfl ?_
                        obtain ⟨o135, h136⟩ := h134
                        obtain ⟨o137, h138⟩ := h136
                        refine zr_iald (v := (za s14 113 (Int.toNat (zv s14 114)))) hC hZ22 zk_113 zb_113 zn_113 (by decide) o135 o137 rfl dX12_libraryCall_323 ?_
                        refine g_iconst (v := zI 1) hC dX12_libraryCall_324 rfl ?_
                        refine zr_isub hC dX12_libraryCall_325 ?_
                        obtain ⟨o139, h140⟩ := h138
                        obtain ⟨o141, h142⟩ := h140
                        obtain ⟨o143, h144⟩ := h142
                        refine zr_iast hC hZ22 zk_113 zb_113 zn_113 (by decide) o139 o141 o143 dX12_libraryCall_326 (fun F145 hZ146 => ?_)
                        refine g_iconst (v := zI (-1)) hC dX12_libraryCall_327 rfl ?_
                        refine g_istore (lv' := [some (.ref t), some (.int (zI a0)), some (.int (zI a1)), some (.int (zI a2)), some (.int (zI a1)), some (.int (zI a2)), some (.int (zI a0)), some (.int (zI r1)), some (.int (zI r7)), some (.int (zI r13)), some (.int (zI (-1))), none, none, none]) hC dX12_libraryCall_328 (Nat.le_of_ble_eq_true rfl) rfl rfl ?_
                        refine g_goto (tgt := 511) hC dX12_libraryCall_330 (by decide) ?_
                        refine g_lv (lv' := [some (.ref t), none, none, none, none, none, none, none, none, none, some (.int (zI (-1))), none, none, none]) ⟨rfl, rfl, trivial⟩ ?_
                        exact rj_libraryCall_511 hC  (by decide) hZ146 h144
                  · have h147 := h38.2 c39
                    refine g_iload hC dX12_libraryCall_277 rfl ?_
                    refine zr_if_ge (tgt := 288) hC R4 dX12_libraryCall_279 (by decide) (fun c148 => ?_) (fun c148 => ?_)
                    · have h149 := h147.1 c148
                      refine g_iload hC dX12_libraryCall_288 rfl ?_
                      refine g_istore (lv' := [some (.ref t), some (.int (zI a0)), some (.int (zI a1)), some (.int (zI a2)), some (.int (zI a1)), some (.int (zI a2)), some (.int (zI a0)), some (.int (zI r1)), some (.int (zI r7)), some (.int (zI r13)), some (.int (zI r1)), none, none, none]) hC dX12_libraryCall_290 (Nat.le_of_ble_eq_true rfl) rfl rfl ?_
                      refine g_goto (tgt := 511) hC dX12_libraryCall_292 (by decide) ?_
                      refine g_lv (lv' := [some (.ref t), none, none, none, none, none, none, none, none, none, some (.int (zI r1)), none, none, none]) ⟨rfl, rfl, trivial⟩ ?_
                      exact rj_libraryCall_511 hC  R4 hZ22 h149
                    · have h150 := h147.2 c148
                      refine g_iload hC dX12_libraryCall_282 rfl ?_
                      refine zr_ineg hC dX12_libraryCall_284 ?_
                      refine zr_w (fun z151 e152 R153 => ?_)
                      have h154 := h150 z151 e152 R153
                      refine g_goto (tgt := 290) hC dX12_libraryCall_285 (by decide) ?_
                      refine g_istore (lv' := [some (.ref t), some (.int (zI a0)), some (.int (zI a1)), some (.int (zI a2)), some (.int (zI a1)), some (.int (zI a2)), some (.int (zI a0)), some (.int (zI r1)), some (.int (zI r7)), some (.int (zI r13)), some (.int (zI z151)), none, none, none]) hC dX12_libraryCall_290 (Nat.le_of_ble_eq_true rfl) rfl rfl ?_
                      refine g_goto (tgt := 511) hC dX12_libraryCall_292 (by decide) ?_
                      refine g_lv (lv' := [some (.ref t), none, none, none, none, none, none, none, none, none, some (.int (zI z151)), none, none, none]) ⟨rfl, rfl, trivial⟩ ?_
                      exact rj_libraryCall_511 hC  R153 hZ22 h154
                · have h155 := h36.2 c37
                  refine g_aload_n hC dX12_libraryCall_250 rfl ?_
                  refine g_iconst (v := zI 1) hC dX12_libraryCall_251 rfl ?_
                  refine zr_putZ hC hZ22 fl_X12_324 zb_102 (by decide) (Or.inr rfl) dX12_libraryCall_252 (fun F156 hZ157 => ?_)
                  refine g_aload_n hC dX12_libraryCall_255 rfl ?_
                  refine g_bipush (v := zI 6) hC dX12_libraryCall_256 rfl ?_
                  refine zr_put hC hZ157 fl_X12_327 zb_103 (by decide) (by decide) dX12_libraryCall_258 (fun F158 hZ159 => ?_)
                  refine g_aload_n hC dX12_libraryCall_261 rfl ?_
                  refine g_iload hC dX12_libraryCall_262 rfl ?_
                  refine zr_put hC hZ159 fl_X12_330 zb_104 (by decide) R4 dX12_libraryCall_264 (fun F160 hZ161 => ?_)
                  refine g_goto (tgt := 511) hC dX12_libraryCall_267 (by decide) ?_
                  refine g_lv (lv' := [some (.ref t), none, none, none, none, none, none, none, none, none, some (.int (zI 0)), none, none, none]) ⟨rfl, rfl, trivial⟩ ?_
                  exact rj_libraryCall_511 hC  (by decide) hZ161 h155
              · have h162 := h34.2 c35
                refine g_aload_n hC dX12_libraryCall_235 rfl ?_
                refine zr_callVi (As := []) hC hZ22 rfl (rm_nextByte X.la d b  hZ22.rf h162) cl_X12_843 rfl rfl (Nat.le_of_ble_eq_true rfl) ⟨Nat.le_of_ble_eq_true rfl, Nat.le_of_ble_eq_true rfl⟩ dX12_libraryCall_236 (fun r163 s164 F165 R166 hZ167 h168 => ?_)
                refine g_istore (lv' := [some (.ref t), some (.int (zI a0)), some (.int (zI a1)), some (.int (zI a2)), some (.int (zI a1)), some (.int (zI a2)), some (.int (zI a0)), some (.int (zI r1)), some (.int (zI r7)), some (.int (zI r13)), some (.int (zI r163)), none, none, none]) hC dX12_libraryCall_239 (Nat.le_of_ble_eq_true rfl) rfl rfl ?_
                refine g_goto (tgt := 511) hC dX12_libraryCall_241 (by decide) ?_
                refine g_lv (lv' := [some (.ref t), none, none, none, none, none, none, none, none, none, some (.int (zI r163)), none, none, none]) ⟨rfl, rfl, trivial⟩ ?_
                exact rj_libraryCall_511 hC  R166 hZ167 h168
            · have h169 := h32.2 c33
              refine g_aload_n hC dX12_libraryCall_220 rfl ?_
              refine g_bipush (v := zI 10) hC dX12_libraryCall_221 rfl ?_
              refine zr_callVv (As := [.int (zI 10)]) hC hZ22 rfl (rm_outByte X.la d b (by decide) hZ22.rf h169) cl_X12_834 rfl rfl (Nat.le_of_ble_eq_true rfl) ⟨Nat.le_of_ble_eq_true rfl, Nat.le_of_ble_eq_true rfl⟩ dX12_libraryCall_223 (fun s171 F172 hZ174 h175 => ?_)
              refine g_goto (tgt := 511) hC dX12_libraryCall_226 (by decide) ?_
              refine g_lv (lv' := [some (.ref t), none, none, none, none, none, none, none, none, none, some (.int (zI 0)), none, none, none]) ⟨rfl, rfl, trivial⟩ ?_
              exact rj_libraryCall_511 hC  (by decide) hZ174 h175
          · have h176 := h30.2 c31
            refine g_aload_n hC dX12_libraryCall_205 rfl ?_
            refine g_iload hC dX12_libraryCall_206 rfl ?_
            refine zr_callVv (As := [.int (zI r1)]) hC hZ22 rfl (rm_outByte X.la d b R4 hZ22.rf h176) cl_X12_834 rfl rfl (Nat.le_of_ble_eq_true rfl) ⟨Nat.le_of_ble_eq_true rfl, Nat.le_of_ble_eq_true rfl⟩ dX12_libraryCall_208 (fun s178 F179 hZ181 h182 => ?_)
            refine g_goto (tgt := 511) hC dX12_libraryCall_211 (by decide) ?_
            refine g_lv (lv' := [some (.ref t), none, none, none, none, none, none, none, none, none, some (.int (zI 0)), none, none, none]) ⟨rfl, rfl, trivial⟩ ?_
            exact rj_libraryCall_511 hC  (by decide) hZ181 h182
        · have h183 := h28.2 c29
          refine g_aload_n hC dX12_libraryCall_190 rfl ?_
          refine g_iload hC dX12_libraryCall_191 rfl ?_
          refine zr_callVv (As := [.int (zI r1)]) hC hZ22 rfl (rm_writeString X.la d b R4 hZ22.rf h183) cl_X12_856 rfl rfl (Nat.le_of_ble_eq_true rfl) ⟨Nat.le_of_ble_eq_true rfl, Nat.le_of_ble_eq_true rfl⟩ dX12_libraryCall_193 (fun s185 F186 hZ188 h189 => ?_)
          refine g_goto (tgt := 511) hC dX12_libraryCall_196 (by decide) ?_
          refine g_lv (lv' := [some (.ref t), none, none, none, none, none, none, none, none, none, some (.int (zI 0)), none, none, none]) ⟨rfl, rfl, trivial⟩ ?_
          exact rj_libraryCall_511 hC  (by decide) hZ188 h189
      · have h190 := h26.2 c27
        refine g_iload hC dX12_libraryCall_102 rfl ?_
        refine g_iconst (v := zI 1) hC dX12_libraryCall_104 rfl ?_
        refine zr_icmp_ge (tgt := 112) hC R10 (by decide) dX12_libraryCall_105 (by decide) (fun c191 => ?_) (fun c191 => ?_)
        · have h192 := h190.1 c191
          refine g_iload hC dX12_libraryCall_112 rfl ?_
          refine g_bipush (v := zI 8) hC dX12_libraryCall_114 rfl ?_
          refine zr_icmp_le (tgt := 124) hC R10 (by decide) dX12_libraryCall_116 (by decide) (fun c193 => ?_) (fun c193 => ?_)
          · have h194 := h192.1 c193
            refine g_iload hC dX12_libraryCall_124 rfl ?_
            refine g_istore (lv' := [some (.ref t), some (.int (zI a0)), some (.int (zI a1)), some (.int (zI a2)), some (.int (zI a1)), some (.int (zI a2)), some (.int (zI a0)), some (.int (zI r1)), some (.int (zI r7)), some (.int (zI r13)), some (.int (zI 0)), some (.int (zI r7)), none, none]) hC dX12_libraryCall_126 (Nat.le_of_ble_eq_true rfl) rfl rfl ?_
            refine g_iload hC dX12_libraryCall_128 rfl ?_
            refine g_iconst (v := zI 1) hC dX12_libraryCall_130 rfl ?_
            refine zr_isub hC dX12_libraryCall_131 ?_
            refine g_istore (lv' := [some (.ref t), some (.int (zI a0)), some (.int (zI a1)), some (.int (zI a2)), some (.int (zI a1)), some (.int (zI a2)), some (.int (zI a0)), some (.int (zI r1)), some (.int (zI r7)), some (.int (zI r13)), some (.int (zI 0)), some (.int (zI r7)), some (.int (zI (r7 - 1))), none]) hC dX12_libraryCall_132 (Nat.le_of_ble_eq_true rfl) rfl rfl ?_
            obtain ⟨o195, h196⟩ := h194
            refine g_lv (lv' := [some (.ref t), none, none, none, none, none, none, some (.int (zI r1)), none, none, some (.int (zI 0)), none, some (.int (zI (r7 - 1))), none]) ⟨rfl, rfl, rfl, rfl, trivial⟩ ?_
            obtain ⟨m197, h198⟩ := h196
            exact rl_libraryCall_134 hC  m197 _ _ _ _ _ R4 (by decide) o195 hZ22 h198
          · have h199 := h192.2 c193
            refine g_bipush (v := zI 8) hC dX12_libraryCall_119 rfl ?_
            refine g_goto (tgt := 126) hC dX12_libraryCall_121 (by decide) ?_
            refine g_istore (lv' := [some (.ref t), some (.int (zI a0)), some (.int (zI a1)), some (.int (zI a2)), some (.int (zI a1)), some (.int (zI a2)), some (.int (zI a0)), some (.int (zI r1)), some (.int (zI r7)), some (.int (zI r13)), some (.int (zI 0)), some (.int (zI 8)), none, none]) hC dX12_libraryCall_126 (Nat.le_of_ble_eq_true rfl) rfl rfl ?_
            refine g_iload hC dX12_libraryCall_128 rfl ?_
            refine g_iconst (v := zI 1) hC dX12_libraryCall_130 rfl ?_
            refine zr_isub hC dX12_libraryCall_131 ?_
            refine g_istore (lv' := [some (.ref t), some (.int (zI a0)), some (.int (zI a1)), some (.int (zI a2)), some (.int (zI a1)), some (.int (zI a2)), some (.int (zI a0)), some (.int (zI r1)), some (.int (zI r7)), some (.int (zI r13)), some (.int (zI 0)), some (.int (zI 8)), some (.int (zI (8 - 1))), none]) hC dX12_libraryCall_132 (Nat.le_of_ble_eq_true rfl) rfl rfl ?_
            obtain ⟨o200, h201⟩ := h199
            refine g_lv (lv' := [some (.ref t), none, none, none, none, none, none, some (.int (zI r1)), none, none, some (.int (zI 0)), none, some (.int (zI (8 - 1))), none]) ⟨rfl, rfl, rfl, rfl, trivial⟩ ?_
            obtain ⟨m202, h203⟩ := h201
            exact rl_libraryCall_134 hC  m202 _ _ _ _ _ R4 (by decide) o200 hZ22 h203
        · have h204 := h190.2 c191
          refine g_iconst (v := zI 1) hC dX12_libraryCall_108 rfl ?_
          refine g_goto (tgt := 126) hC dX12_libraryCall_109 (by decide) ?_
          refine g_istore (lv' := [some (.ref t), some (.int (zI a0)), some (.int (zI a1)), some (.int (zI a2)), some (.int (zI a1)), some (.int (zI a2)), some (.int (zI a0)), some (.int (zI r1)), some (.int (zI r7)), some (.int (zI r13)), some (.int (zI 0)), some (.int (zI 1)), none, none]) hC dX12_libraryCall_126 (Nat.le_of_ble_eq_true rfl) rfl rfl ?_
          refine g_iload hC dX12_libraryCall_128 rfl ?_
          refine g_iconst (v := zI 1) hC dX12_libraryCall_130 rfl ?_
          refine zr_isub hC dX12_libraryCall_131 ?_
          refine g_istore (lv' := [some (.ref t), some (.int (zI a0)), some (.int (zI a1)), some (.int (zI a2)), some (.int (zI a1)), some (.int (zI a2)), some (.int (zI a0)), some (.int (zI r1)), some (.int (zI r7)), some (.int (zI r13)), some (.int (zI 0)), some (.int (zI 1)), some (.int (zI (1 - 1))), none]) hC dX12_libraryCall_132 (Nat.le_of_ble_eq_true rfl) rfl rfl ?_
          obtain ⟨o205, h206⟩ := h204
          refine g_lv (lv' := [some (.ref t), none, none, none, none, none, none, some (.int (zI r1)), none, none, some (.int (zI 0)), none, some (.int (zI (1 - 1))), none]) ⟨rfl, rfl, rfl, rfl, trivial⟩ ?_
          obtain ⟨m207, h208⟩ := h206
          exact rl_libraryCall_134 hC  m207 _ _ _ _ _ R4 (by decide) o205 hZ22 h208
    · have h209 := h24.2 c25
      refine g_aload_n hC dX12_libraryCall_72 rfl ?_
      refine g_iload hC dX12_libraryCall_73 rfl ?_
      refine g_iload hC dX12_libraryCall_75 rfl ?_
      refine g_bipush (v := zI 100) hC dX12_libraryCall_77 rfl ?_
      refine zr_icmp_le (tgt := 87) hC R10 (by decide) dX12_libraryCall_79 (by decide) (fun c210 => ?_) (fun c210 => ?_)
      · have h211 := h209.1 c210
        refine g_iload hC dX12_libraryCall_87 rfl ?_
        refine zr_callVv (As := [.int (zI r1), .int (zI r7)]) hC hZ22 rfl (rm_decimal X.la d b R4 R10 hZ22.rf h211) cl_X12_853 rfl rfl (Nat.le_of_ble_eq_true rfl) ⟨Nat.le_of_ble_eq_true rfl, Nat.le_of_ble_eq_true rfl⟩ dX12_libraryCall_89 (fun s213 F214 hZ216 h217 => ?_)
        refine g_goto (tgt := 511) hC dX12_libraryCall_92 (by decide) ?_
        refine g_lv (lv' := [some (.ref t), none, none, none, none, none, none, none, none, none, some (.int (zI 0)), none, none, none]) ⟨rfl, rfl, trivial⟩ ?_
        exact rj_libraryCall_511 hC  (by decide) hZ216 h217
      · have h218 := h209.2 c210
        refine g_bipush (v := zI 100) hC dX12_libraryCall_82 rfl ?_
        refine g_goto (tgt := 89) hC dX12_libraryCall_84 (by decide) ?_
        refine zr_callVv (As := [.int (zI r1), .int (zI 100)]) hC hZ22 rfl (rm_decimal X.la d b R4 (by decide) hZ22.rf h218) cl_X12_853 rfl rfl (Nat.le_of_ble_eq_true rfl) ⟨Nat.le_of_ble_eq_true rfl, Nat.le_of_ble_eq_true rfl⟩ dX12_libraryCall_89 (fun s220 F221 hZ223 h224 => ?_)
        refine g_goto (tgt := 511) hC dX12_libraryCall_92 (by decide) ?_
        refine g_lv (lv' := [some (.ref t), none, none, none, none, none, none, none, none, none, some (.int (zI 0)), none, none, none]) ⟨rfl, rfl, trivial⟩ ?_
        exact rj_libraryCall_511 hC  (by decide) hZ223 h224
  · have h225 := h20.2 c23
    refine g_aload_n hC dX12_libraryCall_55 rfl ?_
    refine g_iload hC dX12_libraryCall_56 rfl ?_
    refine g_iconst (v := zI 0) hC dX12_libraryCall_58 rfl ?_
    refine zr_callVv (As := [.int (zI r1), .int (zI 0)]) hC hZ22 rfl (rm_decimal X.la d b R4 (by decide) hZ22.rf h225) cl_X12_853 rfl rfl (Nat.le_of_ble_eq_true rfl) ⟨Nat.le_of_ble_eq_true rfl, Nat.le_of_ble_eq_true rfl⟩ dX12_libraryCall_59 (fun s227 F228 hZ230 h231 => ?_)
    refine g_goto (tgt := 511) hC dX12_libraryCall_62 (by decide) ?_
    refine g_lv (lv' := [some (.ref t), none, none, none, none, none, none, none, none, none, some (.int (zI 0)), none, none, none]) ⟨rfl, rfl, trivial⟩ ?_
    exact rj_libraryCall_511 hC  (by decide) hZ230 h231
theorem dX12_call_0 : decode cX12_call 0 = .ok (.aload_n 0, 1) := by decide +kernel
theorem dX12_call_1 : decode cX12_call 1 = .ok (.invokevirtual 810, 3) := by decide +kernel
theorem dX12_call_4 : decode cX12_call 4 = .ok (.istore_n 3, 1) := by decide +kernel
theorem dX12_call_5 : decode cX12_call 5 = .ok (.aload_n 0, 1) := by decide +kernel
theorem dX12_call_6 : decode cX12_call 6 = .ok (.getfield 305, 3) := by decide +kernel
theorem dX12_call_9 : decode cX12_call 9 = .ok (.aload_n 0, 1) := by decide +kernel
theorem dX12_call_10 : decode cX12_call 10 = .ok (.getfield 102, 3) := by decide +kernel
theorem dX12_call_13 : decode cX12_call 13 = .ok (.iload_n 1, 1) := by decide +kernel
theorem dX12_call_14 : decode cX12_call 14 = .ok (.iaload, 1) := by decide +kernel
theorem dX12_call_15 : decode cX12_call 15 = .ok (.iadd, 1) := by decide +kernel
theorem dX12_call_16 : decode cX12_call 16 = .ok (.istore 4, 2) := by decide +kernel
theorem dX12_call_18 : decode cX12_call 18 = .ok (.iload_n 3, 1) := by decide +kernel
theorem dX12_call_19 : decode cX12_call 19 = .ok (.ldc_w 697, 3) := by decide +kernel
theorem dX12_call_22 : decode cX12_call 22 = .ok (.if_icmp .lt 25, 3) := by decide +kernel
theorem dX12_call_25 : decode cX12_call 25 = .ok (.iload_n 3, 1) := by decide +kernel
theorem dX12_call_26 : decode cX12_call 26 = .ok (.ldc_w 823, 3) := by decide +kernel
theorem dX12_call_29 : decode cX12_call 29 = .ok (.if_icmp .ge 18, 3) := by decide +kernel
theorem dX12_call_32 : decode cX12_call 32 = .ok (.aload_n 0, 1) := by decide +kernel
theorem dX12_call_33 : decode cX12_call 33 = .ok (.iload_n 3, 1) := by decide +kernel
theorem dX12_call_34 : decode cX12_call 34 = .ok (.ldc_w 697, 3) := by decide +kernel
theorem dX12_call_37 : decode cX12_call 37 = .ok (.isub, 1) := by decide +kernel
theorem dX12_call_38 : decode cX12_call 38 = .ok (.iload_n 2, 1) := by decide +kernel
theorem dX12_call_39 : decode cX12_call 39 = .ok (.iload 4, 2) := by decide +kernel
theorem dX12_call_41 : decode cX12_call 41 = .ok (.invokevirtual 824, 3) := by decide +kernel
theorem dX12_call_44 : decode cX12_call 44 = .ok (.goto 42, 3) := by decide +kernel
theorem dX12_call_47 : decode cX12_call 47 = .ok (.iload_n 3, 1) := by decide +kernel
theorem dX12_call_48 : decode cX12_call 48 = .ok (.ldc_w 762, 3) := by decide +kernel
theorem dX12_call_51 : decode cX12_call 51 = .ok (.if_icmp .lt 30, 3) := by decide +kernel
theorem dX12_call_54 : decode cX12_call 54 = .ok (.iload_n 3, 1) := by decide +kernel
theorem dX12_call_55 : decode cX12_call 55 = .ok (.ldc_w 762, 3) := by decide +kernel
theorem dX12_call_58 : decode cX12_call 58 = .ok (.aload_n 0, 1) := by decide +kernel
theorem dX12_call_59 : decode cX12_call 59 = .ok (.getfield 222, 3) := by decide +kernel
theorem dX12_call_62 : decode cX12_call 62 = .ok (.iadd, 1) := by decide +kernel
theorem dX12_call_63 : decode cX12_call 63 = .ok (.if_icmp .ge 18, 3) := by decide +kernel
theorem dX12_call_66 : decode cX12_call 66 = .ok (.aload_n 0, 1) := by decide +kernel
theorem dX12_call_67 : decode cX12_call 67 = .ok (.iload_n 3, 1) := by decide +kernel
theorem dX12_call_68 : decode cX12_call 68 = .ok (.ldc_w 762, 3) := by decide +kernel
theorem dX12_call_71 : decode cX12_call 71 = .ok (.isub, 1) := by decide +kernel
theorem dX12_call_72 : decode cX12_call 72 = .ok (.iload 4, 2) := by decide +kernel
theorem dX12_call_74 : decode cX12_call 74 = .ok (.iload_n 2, 1) := by decide +kernel
theorem dX12_call_75 : decode cX12_call 75 = .ok (.invokevirtual 827, 3) := by decide +kernel
theorem dX12_call_78 : decode cX12_call 78 = .ok (.goto 8, 3) := by decide +kernel
theorem dX12_call_81 : decode cX12_call 81 = .ok (.aload_n 0, 1) := by decide +kernel
theorem dX12_call_82 : decode cX12_call 82 = .ok (.iconst 4, 1) := by decide +kernel
theorem dX12_call_83 : decode cX12_call 83 = .ok (.invokevirtual 792, 3) := by decide +kernel
theorem dX12_call_86 : decode cX12_call 86 = .ok (.return_, 1) := by decide +kernel
def wr_call_47 (Q : zS → Prop)  (s0 : zS) (x2 : Int) (x3 : Int) (x4 : Int) : Prop :=
  ((x3 < 1000000 → wr_err s0 4 (fun s4 => Q s4)) ∧ (¬ x3 < 1000000 → (zR (1000000 + (zv s0 69))) ∧ (((1000000 + (zv s0 69)) ≤ x3 → wr_err s0 4 (fun s15 => Q s15)) ∧ (¬ (1000000 + (zv s0 69)) ≤ x3 → (zR (x3 - 1000000)) ∧ wr_enter s0 (x3 - 1000000) x4 x2 (fun s24 => Q s24)))))
def wr_call (s0 : zS) (a0 : Int) (a1 : Int) (Q : zS → Prop) : Prop :=
  wr_pop s0  (fun r1 s2 => (0 ≤ a0) ∧ (a0 < 26000) ∧ ((r1 < 2000000 → (zR ((zv s2 96) + (za s2 30 (Int.toNat a0)))) ∧ wr_call_47 Q  s2 a1 r1 ((zv s2 96) + (za s2 30 (Int.toNat a0)))) ∧ (¬ r1 < 2000000 → ((2000018 ≤ r1 → (zR ((zv s2 96) + (za s2 30 (Int.toNat a0)))) ∧ wr_call_47 Q  s2 a1 r1 ((zv s2 96) + (za s2 30 (Int.toNat a0)))) ∧ (¬ 2000018 ≤ r1 → (zR (r1 - 2000000)) ∧ (zR ((zv s2 96) + (za s2 30 (Int.toNat a0)))) ∧ wr_libraryCall s2 (r1 - 2000000) a1 ((zv s2 96) + (za s2 30 (Int.toNat a0))) (fun s26 => Q s26))))))
set_option maxHeartbeats 4000000 in
set_option maxRecDepth 100000 in
theorem rj_call_47 {X : gX} {d : gD} {b t : Nat} {T : Nat → Nat} {F0 : gM} (hC : gC RX12 cX12_call 5 none "call" (gR 5 0 0) d b X) {Q : zS → Prop}   {F : gM} {s0 : zS} {x2 : Int} {x3 : Int} {x4 : Int} (Rx2 : zR x2) (Rx3 : zR x3) (Rx4 : zR x4) (hZ : zZ d t T F0 F s0) (hw : wr_call_47 Q  s0 x2 x3 x4) : gG X d b (zQv X d b t T F0 Q) F 0 0 47 [some (.ref t), none, some (.int (zI x2)), some (.int (zI x3)), some (.int (zI x4))] [] := by
  unfold wr_call_47 at hw
  refine g_iload_n hC dX12_call_47 rfl ?_
  refine zr_ldcw (e := 1000000) hC dX12_call_48 kw_2699 (by decide) ?_
  refine zr_icmp_lt (tgt := 81) hC Rx3 (by decide) dX12_call_51 (by decide) (fun c1 => ?_) (fun c1 => ?_)
  · have h2 := hw.1 c1
    refine g_aload_n hC dX12_call_81 rfl ?_
    refine g_iconst (v := zI 4) hC dX12_call_82 rfl ?_
    refine zr_callVv (As := [.int (zI 4)]) hC hZ rfl (rm_err X.la d b (by decide) hZ.rf h2) cl_X12_792 rfl rfl (Nat.le_of_ble_eq_true rfl) ⟨Nat.le_of_ble_eq_true rfl, Nat.le_of_ble_eq_true rfl⟩ dX12_call_83 (fun s4 F5 hZ7 h8 => ?_)
    exact zr_vret hC hZ7 h8 dX12_call_86
  · have h9 := hw.2 c1
    refine g_iload_n hC dX12_call_54 rfl ?_
    refine zr_ldcw (e := 1000000) hC dX12_call_55 kw_2699 (by decide) ?_
    refine g_aload_n hC dX12_call_58 rfl ?_
    refine zr_get (e := (zv s0 69)) hC hZ fl_X12_222 zb_69 (by decide) rfl dX12_call_59 ?_
    refine zr_iadd hC dX12_call_62 ?_
    obtain ⟨o10, h11⟩ := h9
    refine zr_icmp_ge (tgt := 81) hC Rx3 o10 dX12_call_63 (by decide) (fun c12 => ?_) (fun c12 => ?_)
    · have h13 := h11.1 c12
      refine g_aload_n hC dX12_call_81 rfl ?_
      refine g_iconst (v := zI 4) hC dX12_call_82 rfl ?_
      refine zr_callVv (As := [.int (zI 4)]) hC hZ rfl (rm_err X.la d b (by decide) hZ.rf h13) cl_X12_792 rfl rfl (Nat.le_of_ble_eq_true rfl) ⟨Nat.le_of_ble_eq_true rfl, Nat.le_of_ble_eq_true rfl⟩ dX12_call_83 (fun s15 F16 hZ18 h19 => ?_)
      exact zr_vret hC hZ18 h19 dX12_call_86
    · have h20 := h11.2 c12
      refine g_aload_n hC dX12_call_66 rfl ?_
      refine g_iload_n hC dX12_call_67 rfl ?_
      refine zr_ldcw (e := 1000000) hC dX12_call_68 kw_2699 (by decide) ?_
      refine zr_isub hC dX12_call_71 ?_
      refine g_iload hC dX12_call_72 rfl ?_
      refine g_iload_n hC dX12_call_74 rfl ?_
      obtain ⟨o21, h22⟩ := h20
      refine zr_callVv (As := [.int (zI (x3 - 1000000)), .int (zI x4), .int (zI x2)]) hC hZ rfl (rm_enter X.la d b o21 Rx4 Rx2 hZ.rf h22) cl_X12_827 rfl rfl (Nat.le_of_ble_eq_true rfl) ⟨Nat.le_of_ble_eq_true rfl, Nat.le_of_ble_eq_true rfl⟩ dX12_call_75 (fun s24 F25 hZ27 h28 => ?_)
      refine g_goto (tgt := 86) hC dX12_call_78 (by decide) ?_
      exact zr_vret hC hZ27 h28 dX12_call_86
set_option maxHeartbeats 4000000 in
set_option maxRecDepth 100000 in
theorem rm_call (l : Launch) (d : gD) (b : Nat) {t : Nat} {T : Nat → Nat} {F : gM} {s0 : zS} {a0 : Int} {a1 : Int} (Ra0 : zR a0) (Ra1 : zR a1) {Q : zS → Prop} (hZ : zZ d t T F F s0) (hw : wr_call s0 a0 a1 Q) : gMv l d b yX12_call cX12_call 5 5 0 0 F [.ref t, .int (zI a0), .int (zI a1)] (zPv d t T F Q) := by
  refine gM_of2 rfl (nL := 5) (Nat.le_of_ble_eq_true rfl) ?_
  intro X hX hC; subst hX
  show gG X d b (zQv X d b t T F Q) F 0 0 0 [some (.ref t), some (.int (zI a0)), some (.int (zI a1)), none, none] []
  unfold wr_call at hw
  refine g_aload_n hC dX12_call_0 rfl ?_
  refine zr_callVi (As := []) hC hZ rfl (rm_pop X.la d b  hZ.rf hw) cl_X12_810 rfl rfl (Nat.le_of_ble_eq_true rfl) ⟨Nat.le_of_ble_eq_true rfl, Nat.le_of_ble_eq_true rfl⟩ dX12_call_1 (fun r1 s2 F3 R4 hZ5 h6 => ?_)
  refine g_istore_n (lv' := [some (.ref t), some (.int (zI a0)), some (.int (zI a1)), some (.int (zI r1)), none]) hC dX12_call_4 (Nat.le_of_ble_eq_true rfl) rfl rfl ?_
  refine g_aload_n hC dX12_call_5 rfl ?_
  refine zr_get (e := (zv s2 96)) hC hZ5 fl_X12_305 zb_96 (by decide) rfl dX12_call_6 ?_
  refine g_aload_n hC dX12_call_9 rfl ?_
  refine zr_geta hC hZ5 fl_X12_102 zb_30 (by decide) dX12_call_10 ?_
  refine g_iload_n hC dX12_call_13 rfl ?_
  obtain ⟨o7, h8⟩ := h6
  obtain ⟨o9, h10⟩ := h8
  refine zr_iald (v := (za s2 30 (Int.toNat a0))) hC hZ5 zk_30 zb_30 zn_30 (by decide) o7 o9 rfl dX12_call_14 ?_
  refine zr_iadd hC dX12_call_15 ?_
  refine g_istore (lv' := [some (.ref t), some (.int (zI a0)), some (.int (zI a1)), some (.int (zI r1)), some (.int (zI ((zv s2 96) + (za s2 30 (Int.toNat a0)))))]) hC dX12_call_16 (Nat.le_of_ble_eq_true rfl) rfl rfl ?_
  refine g_iload_n hC dX12_call_18 rfl ?_
  refine zr_ldcw (e := 2000000) hC dX12_call_19 kw_2552 (by decide) ?_
  refine zr_icmp_lt (tgt := 47) hC R4 (by decide) dX12_call_22 (by decide) (fun c11 => ?_) (fun c11 => ?_)
  · have h12 := h10.1 c11
    obtain ⟨o13, h14⟩ := h12
    refine g_lv (lv' := [some (.ref t), none, some (.int (zI a1)), some (.int (zI r1)), some (.int (zI ((zv s2 96) + (za s2 30 (Int.toNat a0)))))]) ⟨rfl, rfl, rfl, rfl, trivial⟩ ?_
    exact rj_call_47 hC  Ra1 R4 o13 hZ5 h14
  · have h15 := h10.2 c11
    refine g_iload_n hC dX12_call_25 rfl ?_
    refine zr_ldcw (e := 2000018) hC dX12_call_26 kw_2829 (by decide) ?_
    refine zr_icmp_ge (tgt := 47) hC R4 (by decide) dX12_call_29 (by decide) (fun c16 => ?_) (fun c16 => ?_)
    · have h17 := h15.1 c16
      obtain ⟨o18, h19⟩ := h17
      refine g_lv (lv' := [some (.ref t), none, some (.int (zI a1)), some (.int (zI r1)), some (.int (zI ((zv s2 96) + (za s2 30 (Int.toNat a0)))))]) ⟨rfl, rfl, rfl, rfl, trivial⟩ ?_
      exact rj_call_47 hC  Ra1 R4 o18 hZ5 h19
    · have h20 := h15.2 c16
      refine g_aload_n hC dX12_call_32 rfl ?_
      refine g_iload_n hC dX12_call_33 rfl ?_
      refine zr_ldcw (e := 2000000) hC dX12_call_34 kw_2552 (by decide) ?_
      refine zr_isub hC dX12_call_37 ?_
      refine g_iload_n hC dX12_call_38 rfl ?_
      refine g_iload hC dX12_call_39 rfl ?_
      obtain ⟨o21, h22⟩ := h20
      obtain ⟨o23, h24⟩ := h22
      refine zr_callVv (As := [.int (zI (r1 - 2000000)), .int (zI a1), .int (zI ((zv s2 96) + (za s2 30 (Int.toNat a0))))]) hC hZ5 rfl (rm_libraryCall X.la d b o21 Ra1 o23 hZ5.rf h24) cl_X12_824 rfl rfl (Nat.le_of_ble_eq_true rfl) ⟨Nat.le_of_ble_eq_true rfl, Nat.le_of_ble_eq_true rfl⟩ dX12_call_41 (fun s26 F27 hZ29 h30 => ?_)
      refine g_goto (tgt := 86) hC dX12_call_44 (by decide) ?_
      exact zr_vret hC hZ29 h30 dX12_call_86
theorem dX12_rowsOf_0 : decode cX12_rowsOf 0 = .ok (.iconst 1, 1) := by decide +kernel
theorem dX12_rowsOf_1 : decode cX12_rowsOf 1 = .ok (.istore_n 2, 1) := by decide +kernel
theorem dX12_rowsOf_2 : decode cX12_rowsOf 2 = .ok (.aload_n 0, 1) := by decide +kernel
theorem dX12_rowsOf_3 : decode cX12_rowsOf 3 = .ok (.getfield 354, 3) := by decide +kernel
theorem dX12_rowsOf_6 : decode cX12_rowsOf 6 = .ok (.iload_n 1, 1) := by decide +kernel
theorem dX12_rowsOf_7 : decode cX12_rowsOf 7 = .ok (.iaload, 1) := by decide +kernel
theorem dX12_rowsOf_8 : decode cX12_rowsOf 8 = .ok (.iconst 1, 1) := by decide +kernel
theorem dX12_rowsOf_9 : decode cX12_rowsOf 9 = .ok (.isub, 1) := by decide +kernel
theorem dX12_rowsOf_10 : decode cX12_rowsOf 10 = .ok (.istore_n 3, 1) := by decide +kernel
theorem dX12_rowsOf_11 : decode cX12_rowsOf 11 = .ok (.iload_n 3, 1) := by decide +kernel
theorem dX12_rowsOf_12 : decode cX12_rowsOf 12 = .ok (.ifCond .lt 199, 3) := by decide +kernel
theorem dX12_rowsOf_15 : decode cX12_rowsOf 15 = .ok (.sipush 6000, 3) := by decide +kernel
theorem dX12_rowsOf_18 : decode cX12_rowsOf 18 = .ok (.iload_n 1, 1) := by decide +kernel
theorem dX12_rowsOf_19 : decode cX12_rowsOf 19 = .ok (.imul, 1) := by decide +kernel
theorem dX12_rowsOf_20 : decode cX12_rowsOf 20 = .ok (.iload_n 3, 1) := by decide +kernel
theorem dX12_rowsOf_21 : decode cX12_rowsOf 21 = .ok (.iadd, 1) := by decide +kernel
theorem dX12_rowsOf_22 : decode cX12_rowsOf 22 = .ok (.istore 4, 2) := by decide +kernel
theorem dX12_rowsOf_24 : decode cX12_rowsOf 24 = .ok (.aload_n 0, 1) := by decide +kernel
theorem dX12_rowsOf_25 : decode cX12_rowsOf 25 = .ok (.getfield 345, 3) := by decide +kernel
theorem dX12_rowsOf_28 : decode cX12_rowsOf 28 = .ok (.iload 4, 2) := by decide +kernel
theorem dX12_rowsOf_30 : decode cX12_rowsOf 30 = .ok (.baload, 1) := by decide +kernel
theorem dX12_rowsOf_31 : decode cX12_rowsOf 31 = .ok (.sipush 255, 3) := by decide +kernel
theorem dX12_rowsOf_34 : decode cX12_rowsOf 34 = .ok (.iand, 1) := by decide +kernel
theorem dX12_rowsOf_35 : decode cX12_rowsOf 35 = .ok (.istore 5, 2) := by decide +kernel
theorem dX12_rowsOf_37 : decode cX12_rowsOf 37 = .ok (.iload_n 3, 1) := by decide +kernel
theorem dX12_rowsOf_38 : decode cX12_rowsOf 38 = .ok (.iconst 1, 1) := by decide +kernel
theorem dX12_rowsOf_39 : decode cX12_rowsOf 39 = .ok (.iadd, 1) := by decide +kernel
theorem dX12_rowsOf_40 : decode cX12_rowsOf 40 = .ok (.aload_n 0, 1) := by decide +kernel
theorem dX12_rowsOf_41 : decode cX12_rowsOf 41 = .ok (.getfield 354, 3) := by decide +kernel
theorem dX12_rowsOf_44 : decode cX12_rowsOf 44 = .ok (.iload_n 1, 1) := by decide +kernel
theorem dX12_rowsOf_45 : decode cX12_rowsOf 45 = .ok (.iaload, 1) := by decide +kernel
theorem dX12_rowsOf_46 : decode cX12_rowsOf 46 = .ok (.if_icmp .ge 7, 3) := by decide +kernel
theorem dX12_rowsOf_49 : decode cX12_rowsOf 49 = .ok (.iconst 1, 1) := by decide +kernel
theorem dX12_rowsOf_50 : decode cX12_rowsOf 50 = .ok (.goto 4, 3) := by decide +kernel
theorem dX12_rowsOf_53 : decode cX12_rowsOf 53 = .ok (.iconst 0, 1) := by decide +kernel
theorem dX12_rowsOf_54 : decode cX12_rowsOf 54 = .ok (.istore 6, 2) := by decide +kernel
theorem dX12_rowsOf_56 : decode cX12_rowsOf 56 = .ok (.iload 6, 2) := by decide +kernel
theorem dX12_rowsOf_58 : decode cX12_rowsOf 58 = .ok (.ifCond .eq 19, 3) := by decide +kernel
theorem dX12_rowsOf_61 : decode cX12_rowsOf 61 = .ok (.aload_n 0, 1) := by decide +kernel
theorem dX12_rowsOf_62 : decode cX12_rowsOf 62 = .ok (.getfield 345, 3) := by decide +kernel
theorem dX12_rowsOf_65 : decode cX12_rowsOf 65 = .ok (.iload 4, 2) := by decide +kernel
theorem dX12_rowsOf_67 : decode cX12_rowsOf 67 = .ok (.iconst 1, 1) := by decide +kernel
theorem dX12_rowsOf_68 : decode cX12_rowsOf 68 = .ok (.iadd, 1) := by decide +kernel
theorem dX12_rowsOf_69 : decode cX12_rowsOf 69 = .ok (.baload, 1) := by decide +kernel
theorem dX12_rowsOf_70 : decode cX12_rowsOf 70 = .ok (.sipush 255, 3) := by decide +kernel
theorem dX12_rowsOf_73 : decode cX12_rowsOf 73 = .ok (.iand, 1) := by decide +kernel
theorem dX12_rowsOf_74 : decode cX12_rowsOf 74 = .ok (.goto 4, 3) := by decide +kernel
theorem dX12_rowsOf_77 : decode cX12_rowsOf 77 = .ok (.iconst (-1), 1) := by decide +kernel
theorem dX12_rowsOf_78 : decode cX12_rowsOf 78 = .ok (.istore 7, 2) := by decide +kernel
theorem dX12_rowsOf_80 : decode cX12_rowsOf 80 = .ok (.iload 5, 2) := by decide +kernel
theorem dX12_rowsOf_82 : decode cX12_rowsOf 82 = .ok (.invokestatic 840, 3) := by decide +kernel
theorem dX12_rowsOf_85 : decode cX12_rowsOf 85 = .ok (.ifCond .eq 11, 3) := by decide +kernel
theorem dX12_rowsOf_88 : decode cX12_rowsOf 88 = .ok (.iload 7, 2) := by decide +kernel
theorem dX12_rowsOf_90 : decode cX12_rowsOf 90 = .ok (.invokestatic 840, 3) := by decide +kernel
theorem dX12_rowsOf_93 : decode cX12_rowsOf 93 = .ok (.ifCond .ne 19, 3) := by decide +kernel
theorem dX12_rowsOf_96 : decode cX12_rowsOf 96 = .ok (.iload 5, 2) := by decide +kernel
theorem dX12_rowsOf_98 : decode cX12_rowsOf 98 = .ok (.invokestatic 471, 3) := by decide +kernel
theorem dX12_rowsOf_101 : decode cX12_rowsOf 101 = .ok (.ifCond .eq 15, 3) := by decide +kernel
theorem dX12_rowsOf_104 : decode cX12_rowsOf 104 = .ok (.iload 7, 2) := by decide +kernel
theorem dX12_rowsOf_106 : decode cX12_rowsOf 106 = .ok (.invokestatic 471, 3) := by decide +kernel
theorem dX12_rowsOf_109 : decode cX12_rowsOf 109 = .ok (.ifCond .eq 7, 3) := by decide +kernel
theorem dX12_rowsOf_112 : decode cX12_rowsOf 112 = .ok (.iconst 1, 1) := by decide +kernel
theorem dX12_rowsOf_113 : decode cX12_rowsOf 113 = .ok (.goto 4, 3) := by decide +kernel
theorem dX12_rowsOf_116 : decode cX12_rowsOf 116 = .ok (.iconst 0, 1) := by decide +kernel
theorem dX12_rowsOf_117 : decode cX12_rowsOf 117 = .ok (.istore 8, 2) := by decide +kernel
theorem dX12_rowsOf_119 : decode cX12_rowsOf 119 = .ok (.aload_n 0, 1) := by decide +kernel
theorem dX12_rowsOf_120 : decode cX12_rowsOf 120 = .ok (.getfield 348, 3) := by decide +kernel
theorem dX12_rowsOf_123 : decode cX12_rowsOf 123 = .ok (.iload 4, 2) := by decide +kernel
theorem dX12_rowsOf_125 : decode cX12_rowsOf 125 = .ok (.iload 8, 2) := by decide +kernel
theorem dX12_rowsOf_127 : decode cX12_rowsOf 127 = .ok (.ifCond .eq 15, 3) := by decide +kernel
theorem dX12_rowsOf_130 : decode cX12_rowsOf 130 = .ok (.aload_n 0, 1) := by decide +kernel
theorem dX12_rowsOf_131 : decode cX12_rowsOf 131 = .ok (.getfield 348, 3) := by decide +kernel
theorem dX12_rowsOf_134 : decode cX12_rowsOf 134 = .ok (.iload 4, 2) := by decide +kernel
theorem dX12_rowsOf_136 : decode cX12_rowsOf 136 = .ok (.iconst 1, 1) := by decide +kernel
theorem dX12_rowsOf_137 : decode cX12_rowsOf 137 = .ok (.iadd, 1) := by decide +kernel
theorem dX12_rowsOf_138 : decode cX12_rowsOf 138 = .ok (.iaload, 1) := by decide +kernel
theorem dX12_rowsOf_139 : decode cX12_rowsOf 139 = .ok (.goto 6, 3) := by decide +kernel
theorem dX12_rowsOf_142 : decode cX12_rowsOf 142 = .ok (.iload_n 3, 1) := by decide +kernel
theorem dX12_rowsOf_143 : decode cX12_rowsOf 143 = .ok (.iconst 1, 1) := by decide +kernel
theorem dX12_rowsOf_144 : decode cX12_rowsOf 144 = .ok (.iadd, 1) := by decide +kernel
theorem dX12_rowsOf_145 : decode cX12_rowsOf 145 = .ok (.iastore, 1) := by decide +kernel
theorem dX12_rowsOf_146 : decode cX12_rowsOf 146 = .ok (.iload 8, 2) := by decide +kernel
theorem dX12_rowsOf_148 : decode cX12_rowsOf 148 = .ok (.ifCond .eq 10, 3) := by decide +kernel
theorem dX12_rowsOf_151 : decode cX12_rowsOf 151 = .ok (.iload_n 2, 1) := by decide +kernel
theorem dX12_rowsOf_152 : decode cX12_rowsOf 152 = .ok (.bipush 10, 2) := by decide +kernel
theorem dX12_rowsOf_154 : decode cX12_rowsOf 154 = .ok (.imul, 1) := by decide +kernel
theorem dX12_rowsOf_155 : decode cX12_rowsOf 155 = .ok (.goto 4, 3) := by decide +kernel
theorem dX12_rowsOf_158 : decode cX12_rowsOf 158 = .ok (.iconst 1, 1) := by decide +kernel
theorem dX12_rowsOf_159 : decode cX12_rowsOf 159 = .ok (.istore_n 2, 1) := by decide +kernel
theorem dX12_rowsOf_160 : decode cX12_rowsOf 160 = .ok (.aload_n 0, 1) := by decide +kernel
theorem dX12_rowsOf_161 : decode cX12_rowsOf 161 = .ok (.getfield 351, 3) := by decide +kernel
theorem dX12_rowsOf_164 : decode cX12_rowsOf 164 = .ok (.iload 4, 2) := by decide +kernel
theorem dX12_rowsOf_166 : decode cX12_rowsOf 166 = .ok (.iload 5, 2) := by decide +kernel
theorem dX12_rowsOf_168 : decode cX12_rowsOf 168 = .ok (.invokestatic 471, 3) := by decide +kernel
theorem dX12_rowsOf_171 : decode cX12_rowsOf 171 = .ok (.ifCond .eq 32, 3) := by decide +kernel
theorem dX12_rowsOf_174 : decode cX12_rowsOf 174 = .ok (.iload 8, 2) := by decide +kernel
theorem dX12_rowsOf_176 : decode cX12_rowsOf 176 = .ok (.ifCond .eq 15, 3) := by decide +kernel
theorem dX12_rowsOf_179 : decode cX12_rowsOf 179 = .ok (.aload_n 0, 1) := by decide +kernel
theorem dX12_rowsOf_180 : decode cX12_rowsOf 180 = .ok (.getfield 351, 3) := by decide +kernel
theorem dX12_rowsOf_183 : decode cX12_rowsOf 183 = .ok (.iload 4, 2) := by decide +kernel
theorem dX12_rowsOf_185 : decode cX12_rowsOf 185 = .ok (.iconst 1, 1) := by decide +kernel
theorem dX12_rowsOf_186 : decode cX12_rowsOf 186 = .ok (.iadd, 1) := by decide +kernel
theorem dX12_rowsOf_187 : decode cX12_rowsOf 187 = .ok (.iaload, 1) := by decide +kernel
theorem dX12_rowsOf_188 : decode cX12_rowsOf 188 = .ok (.goto 4, 3) := by decide +kernel
theorem dX12_rowsOf_191 : decode cX12_rowsOf 191 = .ok (.iconst 0, 1) := by decide +kernel
theorem dX12_rowsOf_192 : decode cX12_rowsOf 192 = .ok (.iload 5, 2) := by decide +kernel
theorem dX12_rowsOf_194 : decode cX12_rowsOf 194 = .ok (.bipush 48, 2) := by decide +kernel
theorem dX12_rowsOf_196 : decode cX12_rowsOf 196 = .ok (.isub, 1) := by decide +kernel
theorem dX12_rowsOf_197 : decode cX12_rowsOf 197 = .ok (.iload_n 2, 1) := by decide +kernel
theorem dX12_rowsOf_198 : decode cX12_rowsOf 198 = .ok (.imul, 1) := by decide +kernel
theorem dX12_rowsOf_199 : decode cX12_rowsOf 199 = .ok (.iadd, 1) := by decide +kernel
theorem dX12_rowsOf_200 : decode cX12_rowsOf 200 = .ok (.goto 4, 3) := by decide +kernel
theorem dX12_rowsOf_203 : decode cX12_rowsOf 203 = .ok (.iconst 0, 1) := by decide +kernel
theorem dX12_rowsOf_204 : decode cX12_rowsOf 204 = .ok (.iastore, 1) := by decide +kernel
theorem dX12_rowsOf_205 : decode cX12_rowsOf 205 = .ok (.iinc 3 (-1), 3) := by decide +kernel
theorem dX12_rowsOf_208 : decode cX12_rowsOf 208 = .ok (.goto (-197), 3) := by decide +kernel
theorem dX12_rowsOf_211 : decode cX12_rowsOf 211 = .ok (.return_, 1) := by decide +kernel
def wr_rowsOf_159 (Q : zS → Prop) (k11 : zS → Int → Int → Int → Prop) (s0 : zS) (x1 : Int) (x3 : Int) (x4 : Int) (x5 : Int) (x8 : Int) (y0 : Int) : Prop :=
  wr_isDigit s0 x5 (fun r1 s2 => ((r1 = 0 → (0 ≤ x4) ∧ (x4 < 24000) ∧ (zR (x3 + (-1))) ∧ k11 (zpa s2 111 (Int.toNat x4) 0) x1 y0 (x3 + (-1))) ∧ (¬ r1 = 0 → ((x8 = 0 → ∀ z20 : Int, z20 = zw ((x5 - 48) * y0) → zR z20 → ∀ z24 : Int, z24 = zw (0 + z20) → zR z24 → (0 ≤ x4) ∧ (x4 < 24000) ∧ (zR (x3 + (-1))) ∧ k11 (zpa s2 111 (Int.toNat x4) z24) x1 y0 (x3 + (-1))) ∧ (¬ x8 = 0 → (0 ≤ (x4 + 1)) ∧ ((x4 + 1) < 24000) ∧ ∀ z41 : Int, z41 = zw ((x5 - 48) * y0) → zR z41 → ∀ z45 : Int, z45 = zw ((za s2 111 (Int.toNat (x4 + 1))) + z41) → zR z45 → (0 ≤ x4) ∧ (x4 < 24000) ∧ (zR (x3 + (-1))) ∧ k11 (zpa s2 111 (Int.toNat x4) z45) x1 y0 (x3 + (-1)))))))
def wr_rowsOf_117 (Q : zS → Prop) (k11 : zS → Int → Int → Int → Prop) (s0 : zS) (x1 : Int) (x2 : Int) (x3 : Int) (x4 : Int) (x5 : Int) (y0 : Int) : Prop :=
  ((y0 = 0 → (0 ≤ x4) ∧ (x4 < 24000) ∧ (zR (x3 + 1)) ∧ ((y0 = 0 → wr_rowsOf_159 Q k11 (zpa s0 110 (Int.toNat x4) (x3 + 1)) x1 x3 x4 x5 y0 1) ∧ (¬ y0 = 0 → ∀ z14 : Int, z14 = zw (x2 * 10) → zR z14 → wr_rowsOf_159 Q k11 (zpa s0 110 (Int.toNat x4) (x3 + 1)) x1 x3 x4 x5 y0 z14))) ∧ (¬ y0 = 0 → (0 ≤ (x4 + 1)) ∧ ((x4 + 1) < 24000) ∧ (0 ≤ x4) ∧ (x4 < 24000) ∧ ((y0 = 0 → wr_rowsOf_159 Q k11 (zpa s0 110 (Int.toNat x4) (za s0 110 (Int.toNat (x4 + 1)))) x1 x3 x4 x5 y0 1) ∧ (¬ y0 = 0 → ∀ z32 : Int, z32 = zw (x2 * 10) → zR z32 → wr_rowsOf_159 Q k11 (zpa s0 110 (Int.toNat x4) (za s0 110 (Int.toNat (x4 + 1)))) x1 x3 x4 x5 y0 z32))))
def wr_rowsOf_78 (Q : zS → Prop) (k11 : zS → Int → Int → Int → Prop) (s0 : zS) (x1 : Int) (x2 : Int) (x3 : Int) (x4 : Int) (x5 : Int) (y0 : Int) : Prop :=
  wr_isBlank s0 x5 (fun r1 s2 => ((r1 = 0 → wr_isDigit s2 x5 (fun r9 s10 => ((r9 = 0 → wr_rowsOf_117 Q k11 s10 x1 x2 x3 x4 x5 0) ∧ (¬ r9 = 0 → wr_isDigit s10 y0 (fun r18 s19 => ((r18 = 0 → wr_rowsOf_117 Q k11 s19 x1 x2 x3 x4 x5 0) ∧ (¬ r18 = 0 → wr_rowsOf_117 Q k11 s19 x1 x2 x3 x4 x5 1))))))) ∧ (¬ r1 = 0 → wr_isBlank s2 y0 (fun r28 s29 => ((¬ r28 = 0 → wr_rowsOf_117 Q k11 s29 x1 x2 x3 x4 x5 1) ∧ (r28 = 0 → wr_isDigit s29 x5 (fun r37 s38 => ((r37 = 0 → wr_rowsOf_117 Q k11 s38 x1 x2 x3 x4 x5 0) ∧ (¬ r37 = 0 → wr_isDigit s38 y0 (fun r46 s47 => ((r46 = 0 → wr_rowsOf_117 Q k11 s47 x1 x2 x3 x4 x5 0) ∧ (¬ r46 = 0 → wr_rowsOf_117 Q k11 s47 x1 x2 x3 x4 x5 1))))))))))))
def wr_rowsOf_11B (Q : zS → Prop) (k11 : zS → Int → Int → Int → Prop) (s0 : zS) (x1 : Int) (x2 : Int) (x3 : Int) : Prop :=
  ((x3 < 0 → Q s0) ∧ (¬ x3 < 0 → (0 ≤ ((6000 * x1) + x3)) ∧ (((6000 * x1) + x3) < 24000) ∧ (0 ≤ x1) ∧ (x1 < 4) ∧ (zR (x3 + 1)) ∧ (((za s0 112 (Int.toNat x1)) ≤ (x3 + 1) → wr_rowsOf_78 Q k11 s0 x1 x2 x3 ((6000 * x1) + x3) (zan (za s0 109 (Int.toNat ((6000 * x1) + x3))) 255) (-1)) ∧ (¬ (za s0 112 (Int.toNat x1)) ≤ (x3 + 1) → (0 ≤ (((6000 * x1) + x3) + 1)) ∧ ((((6000 * x1) + x3) + 1) < 24000) ∧ wr_rowsOf_78 Q k11 s0 x1 x2 x3 ((6000 * x1) + x3) (zan (za s0 109 (Int.toNat ((6000 * x1) + x3))) 255) (zan (za s0 109 (Int.toNat (((6000 * x1) + x3) + 1))) 255)))))
def wr_rowsOf_11 (Q : zS → Prop)  : Nat → zS → Int → Int → Int → Prop
  | 0 => fun _ _ _ _ => False
  | m + 1 => fun s0 x1 x2 x3 => wr_rowsOf_11B Q  (wr_rowsOf_11 Q  m) s0 x1 x2 x3
def wr_rowsOf (s0 : zS) (a0 : Int) (Q : zS → Prop) : Prop :=
  (0 ≤ a0) ∧ (a0 < 4) ∧ (zR ((za s0 112 (Int.toNat a0)) - 1)) ∧ ∃ n, wr_rowsOf_11 Q  n s0 a0 1 ((za s0 112 (Int.toNat a0)) - 1)
set_option maxHeartbeats 4000000 in
set_option maxRecDepth 100000 in
theorem rj_rowsOf_159 {X : gX} {d : gD} {b t : Nat} {T : Nat → Nat} {F0 : gM} (hC : gC RX12 cX12_rowsOf 9 none "rowsOf" (gR 1 0 0) d b X) {Q : zS → Prop} {k11 : zS → Int → Int → Int → Prop} (hk11 : ∀ (F : gM) (s0 : zS) (x1 : Int) (x2 : Int) (x3 : Int), zR x1 → zR x2 → zR x3 → zZ d t T F0 F s0 → k11 s0 x1 x2 x3 → gG X d b (zQv X d b t T F0 Q) F 0 0 11 [some (.ref t), some (.int (zI x1)), some (.int (zI x2)), some (.int (zI x3)), none, none, none, none, none] []) {F : gM} {s0 : zS} {x1 : Int} {x3 : Int} {x4 : Int} {x5 : Int} {x8 : Int} {y0 : Int} (Rx1 : zR x1) (Rx3 : zR x3) (Rx4 : zR x4) (Rx5 : zR x5) (Rx8 : zR x8) (Ry0 : zR y0) (hZ : zZ d t T F0 F s0) (hw : wr_rowsOf_159 Q k11 s0 x1 x3 x4 x5 x8 y0) : gG X d b (zQv X d b t T F0 Q) F 0 0 159 [some (.ref t), some (.int (zI x1)), none, some (.int (zI x3)), some (.int (zI x4)), some (.int (zI x5)), none, none, some (.int (zI x8))] [.int (zI y0)] := by
  unfold wr_rowsOf_159 at hw
  refine g_istore_n (lv' := [some (.ref t), some (.int (zI x1)), some (.int (zI y0)), some (.int (zI x3)), some (.int (zI x4)), some (.int (zI x5)), none, none, some (.int (zI x8))]) hC dX12_rowsOf_159 (Nat.le_of_ble_eq_true rfl) rfl rfl ?_
  refine g_aload_n hC dX12_rowsOf_160 rfl ?_
  refine zr_geta hC hZ fl_X12_351 zb_111 (by decide) dX12_rowsOf_161 ?_
  refine g_iload hC dX12_rowsOf_164 rfl ?_
  refine g_iload hC dX12_rowsOf_166 rfl ?_
  refine zr_callSi (As := [.int (zI x5)]) hC hZ (rm_isDigit X.la d b Rx5 hZ.rf hw) cl_X12_471 rfl rfl (Nat.le_of_ble_eq_true rfl) ⟨Nat.le_of_ble_eq_true rfl, Nat.le_of_ble_eq_true rfl⟩ dX12_rowsOf_168 (fun r1 s2 F3 R4 hZ5 h6 => ?_)
  refine zr_if_eq (tgt := 203) hC R4 dX12_rowsOf_171 (by decide) (fun c7 => ?_) (fun c7 => ?_)
  · have h8 := h6.1 c7
    refine g_iconst (v := zI 0) hC dX12_rowsOf_203 rfl ?_
    obtain ⟨o9, h10⟩ := h8
    obtain ⟨o11, h12⟩ := h10
    refine zr_iast hC hZ5 zk_111 zb_111 zn_111 (by decide) o9 o11 (by decide) dX12_rowsOf_204 (fun F13 hZ14 => ?_)
    refine zr_iinc (x := x3) (lv' := [some (.ref t), some (.int (zI x1)), some (.int (zI y0)), some (.int (zI (x3 + (-1)))), some (.int (zI x4)), some (.int (zI x5)), none, none, some (.int (zI x8))]) hC dX12_rowsOf_205 rfl rfl rfl ?_
    refine g_goto (tgt := 11) hC dX12_rowsOf_208 (by decide) ?_
    obtain ⟨o15, h16⟩ := h12
    refine g_lv (lv' := [some (.ref t), some (.int (zI x1)), some (.int (zI y0)), some (.int (zI (x3 + (-1)))), none, none, none, none, none]) ⟨rfl, rfl, rfl, rfl, trivial⟩ ?_
    exact hk11 _ _ _ _ _ Rx1 Ry0 o15 hZ14 h16
  · have h17 := h6.2 c7
    refine g_iload hC dX12_rowsOf_174 rfl ?_
    refine zr_if_eq (tgt := 191) hC Rx8 dX12_rowsOf_176 (by decide) (fun c18 => ?_) (fun c18 => ?_)
    · have h19 := h17.1 c18
      refine g_iconst (v := zI 0) hC dX12_rowsOf_191 rfl ?_
      refine g_iload hC dX12_rowsOf_192 rfl ?_
      refine g_bipush (v := zI 48) hC dX12_rowsOf_194 rfl ?_
      refine zr_isub hC dX12_rowsOf_196 ?_
      refine g_iload_n hC dX12_rowsOf_197 rfl ?_
      refine zr_imul hC dX12_rowsOf_198 ?_
      refine zr_w (fun z20 e21 R22 => ?_)
      have h23 := h19 z20 e21 R22
      refine zr_iadd hC dX12_rowsOf_199 ?_
      refine zr_w (fun z24 e25 R26 => ?_)
      have h27 := h23 z24 e25 R26
      refine g_goto (tgt := 204) hC dX12_rowsOf_200 (by decide) ?_
      obtain ⟨o28, h29⟩ := h27
      obtain ⟨o30, h31⟩ := h29
      refine zr_iast hC hZ5 zk_111 zb_111 zn_111 (by decide) o28 o30 R26 dX12_rowsOf_204 (fun F32 hZ33 => ?_)
      refine zr_iinc (x := x3) (lv' := [some (.ref t), some (.int (zI x1)), some (.int (zI y0)), some (.int (zI (x3 + (-1)))), some (.int (zI x4)), some (.int (zI x5)), none, none, some (.int (zI x8))]) hC dX12_rowsOf_205 rfl rfl rfl ?_
      refine g_goto (tgt := 11) hC dX12_rowsOf_208 (by decide) ?_
      obtain ⟨o34, h35⟩ := h31
      refine g_lv (lv' := [some (.ref t), some (.int (zI x1)), some (.int (zI y0)), some (.int (zI (x3 + (-1)))), none, none, none, none, none]) ⟨rfl, rfl, rfl, rfl, trivial⟩ ?_
      exact hk11 _ _ _ _ _ Rx1 Ry0 o34 hZ33 h35
    · have h36 := h17.2 c18
      refine g_aload_n hC dX12_rowsOf_179 rfl ?_
      refine zr_geta hC hZ5 fl_X12_351 zb_111 (by decide) dX12_rowsOf_180 ?_
      refine g_iload hC dX12_rowsOf_183 rfl ?_
      refine g_iconst (v := zI 1) hC dX12_rowsOf_185 rfl ?_
      refine zr_iadd hC dX12_rowsOf_186 ?_
      obtain ⟨o37, h38⟩ := h36
      obtain ⟨o39, h40⟩ := h38
      refine zr_iald (v := (za s2 111 (Int.toNat (x4 + 1)))) hC hZ5 zk_111 zb_111 zn_111 (by decide) o37 o39 rfl dX12_rowsOf_187 ?_
      refine g_goto (tgt := 192) hC dX12_rowsOf_188 (by decide) ?_
      refine g_iload hC dX12_rowsOf_192 rfl ?_
      refine g_bipush (v := zI 48) hC dX12_rowsOf_194 rfl ?_
      refine zr_isub hC dX12_rowsOf_196 ?_
      refine g_iload_n hC dX12_rowsOf_197 rfl ?_
      refine zr_imul hC dX12_rowsOf_198 ?_
      refine zr_w (fun z41 e42 R43 => ?_)
      have h44 := h40 z41 e42 R43
      refine zr_iadd hC dX12_rowsOf_199 ?_
      refine zr_w (fun z45 e46 R47 => ?_)
      have h48 := h44 z45 e46 R47
      refine g_goto (tgt := 204) hC dX12_rowsOf_200 (by decide) ?_
      obtain ⟨o49, h50⟩ := h48
      obtain ⟨o51, h52⟩ := h50
      refine zr_iast hC hZ5 zk_111 zb_111 zn_111 (by decide) o49 o51 R47 dX12_rowsOf_204 (fun F53 hZ54 => ?_)
      refine zr_iinc (x := x3) (lv' := [some (.ref t), some (.int (zI x1)), some (.int (zI y0)), some (.int (zI (x3 + (-1)))), some (.int (zI x4)), some (.int (zI x5)), none, none, some (.int (zI x8))]) hC dX12_rowsOf_205 rfl rfl rfl ?_
      refine g_goto (tgt := 11) hC dX12_rowsOf_208 (by decide) ?_
      obtain ⟨o55, h56⟩ := h52
      refine g_lv (lv' := [some (.ref t), some (.int (zI x1)), some (.int (zI y0)), some (.int (zI (x3 + (-1)))), none, none, none, none, none]) ⟨rfl, rfl, rfl, rfl, trivial⟩ ?_
      exact hk11 _ _ _ _ _ Rx1 Ry0 o55 hZ54 h56
set_option maxHeartbeats 4000000 in
set_option maxRecDepth 100000 in
theorem rj_rowsOf_117 {X : gX} {d : gD} {b t : Nat} {T : Nat → Nat} {F0 : gM} (hC : gC RX12 cX12_rowsOf 9 none "rowsOf" (gR 1 0 0) d b X) {Q : zS → Prop} {k11 : zS → Int → Int → Int → Prop} (hk11 : ∀ (F : gM) (s0 : zS) (x1 : Int) (x2 : Int) (x3 : Int), zR x1 → zR x2 → zR x3 → zZ d t T F0 F s0 → k11 s0 x1 x2 x3 → gG X d b (zQv X d b t T F0 Q) F 0 0 11 [some (.ref t), some (.int (zI x1)), some (.int (zI x2)), some (.int (zI x3)), none, none, none, none, none] []) {F : gM} {s0 : zS} {x1 : Int} {x2 : Int} {x3 : Int} {x4 : Int} {x5 : Int} {y0 : Int} (Rx1 : zR x1) (Rx2 : zR x2) (Rx3 : zR x3) (Rx4 : zR x4) (Rx5 : zR x5) (Ry0 : zR y0) (hZ : zZ d t T F0 F s0) (hw : wr_rowsOf_117 Q k11 s0 x1 x2 x3 x4 x5 y0) : gG X d b (zQv X d b t T F0 Q) F 0 0 117 [some (.ref t), some (.int (zI x1)), some (.int (zI x2)), some (.int (zI x3)), some (.int (zI x4)), some (.int (zI x5)), none, none, none] [.int (zI y0)] := by
  unfold wr_rowsOf_117 at hw
  refine g_istore (lv' := [some (.ref t), some (.int (zI x1)), some (.int (zI x2)), some (.int (zI x3)), some (.int (zI x4)), some (.int (zI x5)), none, none, some (.int (zI y0))]) hC dX12_rowsOf_117 (Nat.le_of_ble_eq_true rfl) rfl rfl ?_
  refine g_aload_n hC dX12_rowsOf_119 rfl ?_
  refine zr_geta hC hZ fl_X12_348 zb_110 (by decide) dX12_rowsOf_120 ?_
  refine g_iload hC dX12_rowsOf_123 rfl ?_
  refine g_iload hC dX12_rowsOf_125 rfl ?_
  refine zr_if_eq (tgt := 142) hC Ry0 dX12_rowsOf_127 (by decide) (fun c1 => ?_) (fun c1 => ?_)
  · have h2 := hw.1 c1
    refine g_iload_n hC dX12_rowsOf_142 rfl ?_
    refine g_iconst (v := zI 1) hC dX12_rowsOf_143 rfl ?_
    refine zr_iadd hC dX12_rowsOf_144 ?_
    obtain ⟨o3, h4⟩ := h2
    obtain ⟨o5, h6⟩ := h4
    obtain ⟨o7, h8⟩ := h6
    refine zr_iast hC hZ zk_110 zb_110 zn_110 (by decide) o3 o5 o7 dX12_rowsOf_145 (fun F9 hZ10 => ?_)
    refine g_iload hC dX12_rowsOf_146 rfl ?_
    refine zr_if_eq (tgt := 158) hC Ry0 dX12_rowsOf_148 (by decide) (fun c11 => ?_) (fun c11 => ?_)
    · have h12 := h8.1 c11
      refine g_iconst (v := zI 1) hC dX12_rowsOf_158 rfl ?_
      refine g_lv (lv' := [some (.ref t), some (.int (zI x1)), none, some (.int (zI x3)), some (.int (zI x4)), some (.int (zI x5)), none, none, some (.int (zI y0))]) ⟨rfl, rfl, rfl, rfl, rfl, rfl, trivial⟩ ?_
      exact rj_rowsOf_159 hC hk11 Rx1 Rx3 Rx4 Rx5 Ry0 (by decide) hZ10 h12
    · have h13 := h8.2 c11
      refine g_iload_n hC dX12_rowsOf_151 rfl ?_
      refine g_bipush (v := zI 10) hC dX12_rowsOf_152 rfl ?_
      refine zr_imul hC dX12_rowsOf_154 ?_
      refine zr_w (fun z14 e15 R16 => ?_)
      have h17 := h13 z14 e15 R16
      refine g_goto (tgt := 159) hC dX12_rowsOf_155 (by decide) ?_
      refine g_lv (lv' := [some (.ref t), some (.int (zI x1)), none, some (.int (zI x3)), some (.int (zI x4)), some (.int (zI x5)), none, none, some (.int (zI y0))]) ⟨rfl, rfl, rfl, rfl, rfl, rfl, trivial⟩ ?_
      exact rj_rowsOf_159 hC hk11 Rx1 Rx3 Rx4 Rx5 Ry0 R16 hZ10 h17
  · have h18 := hw.2 c1
    refine g_aload_n hC dX12_rowsOf_130 rfl ?_
    refine zr_geta hC hZ fl_X12_348 zb_110 (by decide) dX12_rowsOf_131 ?_
    refine g_iload hC dX12_rowsOf_134 rfl ?_
    refine g_iconst (v := zI 1) hC dX12_rowsOf_136 rfl ?_
    refine zr_iadd hC dX12_rowsOf_137 ?_
    obtain ⟨o19, h20⟩ := h18
    obtain ⟨o21, h22⟩ := h20
    refine zr_iald (v := (za s0 110 (Int.toNat (x4 + 1)))) hC hZ zk_110 zb_110 zn_110 (by decide) o19 o21 rfl dX12_rowsOf_138 ?_
    refine g_goto (tgt := 145) hC dX12_rowsOf_139 (by decide) ?_
    obtain ⟨o23, h24⟩ := h22
    obtain ⟨o25, h26⟩ := h24
    refine zr_iast hC hZ zk_110 zb_110 zn_110 (by decide) o23 o25 (hZ.ra 110 _) dX12_rowsOf_145 (fun F27 hZ28 => ?_)
    refine g_iload hC dX12_rowsOf_146 rfl ?_
    refine zr_if_eq (tgt := 158) hC Ry0 dX12_rowsOf_148 (by decide) (fun c29 => ?_) (fun c29 => ?_)
    · have h30 := h26.1 c29
      refine g_iconst (v := zI 1) hC dX12_rowsOf_158 rfl ?_
      refine g_lv (lv' := [some (.ref t), some (.int (zI x1)), none, some (.int (zI x3)), some (.int (zI x4)), some (.int (zI x5)), none, none, some (.int (zI y0))]) ⟨rfl, rfl, rfl, rfl, rfl, rfl, trivial⟩ ?_
      exact rj_rowsOf_159 hC hk11 Rx1 Rx3 Rx4 Rx5 Ry0 (by decide) hZ28 h30
    · have h31 := h26.2 c29
      refine g_iload_n hC dX12_rowsOf_151 rfl ?_
      refine g_bipush (v := zI 10) hC dX12_rowsOf_152 rfl ?_
      refine zr_imul hC dX12_rowsOf_154 ?_
      refine zr_w (fun z32 e33 R34 => ?_)
      have h35 := h31 z32 e33 R34
      refine g_goto (tgt := 159) hC dX12_rowsOf_155 (by decide) ?_
      refine g_lv (lv' := [some (.ref t), some (.int (zI x1)), none, some (.int (zI x3)), some (.int (zI x4)), some (.int (zI x5)), none, none, some (.int (zI y0))]) ⟨rfl, rfl, rfl, rfl, rfl, rfl, trivial⟩ ?_
      exact rj_rowsOf_159 hC hk11 Rx1 Rx3 Rx4 Rx5 Ry0 R34 hZ28 h35
set_option maxHeartbeats 4000000 in
set_option maxRecDepth 100000 in
theorem rj_rowsOf_78 {X : gX} {d : gD} {b t : Nat} {T : Nat → Nat} {F0 : gM} (hC : gC RX12 cX12_rowsOf 9 none "rowsOf" (gR 1 0 0) d b X) {Q : zS → Prop} {k11 : zS → Int → Int → Int → Prop} (hk11 : ∀ (F : gM) (s0 : zS) (x1 : Int) (x2 : Int) (x3 : Int), zR x1 → zR x2 → zR x3 → zZ d t T F0 F s0 → k11 s0 x1 x2 x3 → gG X d b (zQv X d b t T F0 Q) F 0 0 11 [some (.ref t), some (.int (zI x1)), some (.int (zI x2)), some (.int (zI x3)), none, none, none, none, none] []) {F : gM} {s0 : zS} {x1 : Int} {x2 : Int} {x3 : Int} {x4 : Int} {x5 : Int} {y0 : Int} (Rx1 : zR x1) (Rx2 : zR x2) (Rx3 : zR x3) (Rx4 : zR x4) (Rx5 : zR x5) (Ry0 : zR y0) (hZ : zZ d t T F0 F s0) (hw : wr_rowsOf_78 Q k11 s0 x1 x2 x3 x4 x5 y0) : gG X d b (zQv X d b t T F0 Q) F 0 0 78 [some (.ref t), some (.int (zI x1)), some (.int (zI x2)), some (.int (zI x3)), some (.int (zI x4)), some (.int (zI x5)), none, none, none] [.int (zI y0)] := by
  unfold wr_rowsOf_78 at hw
  refine g_istore (lv' := [some (.ref t), some (.int (zI x1)), some (.int (zI x2)), some (.int (zI x3)), some (.int (zI x4)), some (.int (zI x5)), none, some (.int (zI y0)), none]) hC dX12_rowsOf_78 (Nat.le_of_ble_eq_true rfl) rfl rfl ?_
  refine g_iload hC dX12_rowsOf_80 rfl ?_
  refine zr_callSi (As := [.int (zI x5)]) hC hZ (rm_isBlank X.la d b Rx5 hZ.rf hw) cl_X12_840 rfl rfl (Nat.le_of_ble_eq_true rfl) ⟨Nat.le_of_ble_eq_true rfl, Nat.le_of_ble_eq_true rfl⟩ dX12_rowsOf_82 (fun r1 s2 F3 R4 hZ5 h6 => ?_)
  refine zr_if_eq (tgt := 96) hC R4 dX12_rowsOf_85 (by decide) (fun c7 => ?_) (fun c7 => ?_)
  · have h8 := h6.1 c7
    refine g_iload hC dX12_rowsOf_96 rfl ?_
    refine zr_callSi (As := [.int (zI x5)]) hC hZ5 (rm_isDigit X.la d b Rx5 hZ5.rf h8) cl_X12_471 rfl rfl (Nat.le_of_ble_eq_true rfl) ⟨Nat.le_of_ble_eq_true rfl, Nat.le_of_ble_eq_true rfl⟩ dX12_rowsOf_98 (fun r9 s10 F11 R12 hZ13 h14 => ?_)
    refine zr_if_eq (tgt := 116) hC R12 dX12_rowsOf_101 (by decide) (fun c15 => ?_) (fun c15 => ?_)
    · have h16 := h14.1 c15
      refine g_iconst (v := zI 0) hC dX12_rowsOf_116 rfl ?_
      refine g_lv (lv' := [some (.ref t), some (.int (zI x1)), some (.int (zI x2)), some (.int (zI x3)), some (.int (zI x4)), some (.int (zI x5)), none, none, none]) ⟨rfl, rfl, rfl, rfl, rfl, rfl, trivial⟩ ?_
      exact rj_rowsOf_117 hC hk11 Rx1 Rx2 Rx3 Rx4 Rx5 (by decide) hZ13 h16
    · have h17 := h14.2 c15
      refine g_iload hC dX12_rowsOf_104 rfl ?_
      refine zr_callSi (As := [.int (zI y0)]) hC hZ13 (rm_isDigit X.la d b Ry0 hZ13.rf h17) cl_X12_471 rfl rfl (Nat.le_of_ble_eq_true rfl) ⟨Nat.le_of_ble_eq_true rfl, Nat.le_of_ble_eq_true rfl⟩ dX12_rowsOf_106 (fun r18 s19 F20 R21 hZ22 h23 => ?_)
      refine zr_if_eq (tgt := 116) hC R21 dX12_rowsOf_109 (by decide) (fun c24 => ?_) (fun c24 => ?_)
      · have h25 := h23.1 c24
        refine g_iconst (v := zI 0) hC dX12_rowsOf_116 rfl ?_
        refine g_lv (lv' := [some (.ref t), some (.int (zI x1)), some (.int (zI x2)), some (.int (zI x3)), some (.int (zI x4)), some (.int (zI x5)), none, none, none]) ⟨rfl, rfl, rfl, rfl, rfl, rfl, trivial⟩ ?_
        exact rj_rowsOf_117 hC hk11 Rx1 Rx2 Rx3 Rx4 Rx5 (by decide) hZ22 h25
      · have h26 := h23.2 c24
        refine g_iconst (v := zI 1) hC dX12_rowsOf_112 rfl ?_
        refine g_goto (tgt := 117) hC dX12_rowsOf_113 (by decide) ?_
        refine g_lv (lv' := [some (.ref t), some (.int (zI x1)), some (.int (zI x2)), some (.int (zI x3)), some (.int (zI x4)), some (.int (zI x5)), none, none, none]) ⟨rfl, rfl, rfl, rfl, rfl, rfl, trivial⟩ ?_
        exact rj_rowsOf_117 hC hk11 Rx1 Rx2 Rx3 Rx4 Rx5 (by decide) hZ22 h26
  · have h27 := h6.2 c7
    refine g_iload hC dX12_rowsOf_88 rfl ?_
    refine zr_callSi (As := [.int (zI y0)]) hC hZ5 (rm_isBlank X.la d b Ry0 hZ5.rf h27) cl_X12_840 rfl rfl (Nat.le_of_ble_eq_true rfl) ⟨Nat.le_of_ble_eq_true rfl, Nat.le_of_ble_eq_true rfl⟩ dX12_rowsOf_90 (fun r28 s29 F30 R31 hZ32 h33 => ?_)
    refine zr_if_ne (tgt := 112) hC R31 dX12_rowsOf_93 (by decide) (fun c34 => ?_) (fun c34 => ?_)
    · have h35 := h33.1 c34
      refine g_iconst (v := zI 1) hC dX12_rowsOf_112 rfl ?_
      refine g_goto (tgt := 117) hC dX12_rowsOf_113 (by decide) ?_
      refine g_lv (lv' := [some (.ref t), some (.int (zI x1)), some (.int (zI x2)), some (.int (zI x3)), some (.int (zI x4)), some (.int (zI x5)), none, none, none]) ⟨rfl, rfl, rfl, rfl, rfl, rfl, trivial⟩ ?_
      exact rj_rowsOf_117 hC hk11 Rx1 Rx2 Rx3 Rx4 Rx5 (by decide) hZ32 h35
    · have h36 := h33.2 c34
      refine g_iload hC dX12_rowsOf_96 rfl ?_
      refine zr_callSi (As := [.int (zI x5)]) hC hZ32 (rm_isDigit X.la d b Rx5 hZ32.rf h36) cl_X12_471 rfl rfl (Nat.le_of_ble_eq_true rfl) ⟨Nat.le_of_ble_eq_true rfl, Nat.le_of_ble_eq_true rfl⟩ dX12_rowsOf_98 (fun r37 s38 F39 R40 hZ41 h42 => ?_)
      refine zr_if_eq (tgt := 116) hC R40 dX12_rowsOf_101 (by decide) (fun c43 => ?_) (fun c43 => ?_)
      · have h44 := h42.1 c43
        refine g_iconst (v := zI 0) hC dX12_rowsOf_116 rfl ?_
        refine g_lv (lv' := [some (.ref t), some (.int (zI x1)), some (.int (zI x2)), some (.int (zI x3)), some (.int (zI x4)), some (.int (zI x5)), none, none, none]) ⟨rfl, rfl, rfl, rfl, rfl, rfl, trivial⟩ ?_
        exact rj_rowsOf_117 hC hk11 Rx1 Rx2 Rx3 Rx4 Rx5 (by decide) hZ41 h44
      · have h45 := h42.2 c43
        refine g_iload hC dX12_rowsOf_104 rfl ?_
        refine zr_callSi (As := [.int (zI y0)]) hC hZ41 (rm_isDigit X.la d b Ry0 hZ41.rf h45) cl_X12_471 rfl rfl (Nat.le_of_ble_eq_true rfl) ⟨Nat.le_of_ble_eq_true rfl, Nat.le_of_ble_eq_true rfl⟩ dX12_rowsOf_106 (fun r46 s47 F48 R49 hZ50 h51 => ?_)
        refine zr_if_eq (tgt := 116) hC R49 dX12_rowsOf_109 (by decide) (fun c52 => ?_) (fun c52 => ?_)
        · have h53 := h51.1 c52
          refine g_iconst (v := zI 0) hC dX12_rowsOf_116 rfl ?_
          refine g_lv (lv' := [some (.ref t), some (.int (zI x1)), some (.int (zI x2)), some (.int (zI x3)), some (.int (zI x4)), some (.int (zI x5)), none, none, none]) ⟨rfl, rfl, rfl, rfl, rfl, rfl, trivial⟩ ?_
          exact rj_rowsOf_117 hC hk11 Rx1 Rx2 Rx3 Rx4 Rx5 (by decide) hZ50 h53
        · have h54 := h51.2 c52
          refine g_iconst (v := zI 1) hC dX12_rowsOf_112 rfl ?_
          refine g_goto (tgt := 117) hC dX12_rowsOf_113 (by decide) ?_
          refine g_lv (lv' := [some (.ref t), some (.int (zI x1)), some (.int (zI x2)), some (.int (zI x3)), some (.int (zI x4)), some (.int (zI x5)), none, none, none]) ⟨rfl, rfl, rfl, rfl, rfl, rfl, trivial⟩ ?_
          exact rj_rowsOf_117 hC hk11 Rx1 Rx2 Rx3 Rx4 Rx5 (by decide) hZ50 h54
set_option maxHeartbeats 4000000 in
set_option maxRecDepth 100000 in
theorem rb_rowsOf_11 {X : gX} {d : gD} {b t : Nat} {T : Nat → Nat} {F0 : gM} (hC : gC RX12 cX12_rowsOf 9 none "rowsOf" (gR 1 0 0) d b X) {Q : zS → Prop} {k11 : zS → Int → Int → Int → Prop} (hk11 : ∀ (F : gM) (s0 : zS) (x1 : Int) (x2 : Int) (x3 : Int), zR x1 → zR x2 → zR x3 → zZ d t T F0 F s0 → k11 s0 x1 x2 x3 → gG X d b (zQv X d b t T F0 Q) F 0 0 11 [some (.ref t), some (.int (zI x1)), some (.int (zI x2)), some (.int (zI x3)), none, none, none, none, none] []) {F : gM} {s0 : zS} {x1 : Int} {x2 : Int} {x3 : Int} (Rx1 : zR x1) (Rx2 : zR x2) (Rx3 : zR x3) (hZ : zZ d t T F0 F s0) (hw : wr_rowsOf_11B Q k11 s0 x1 x2 x3) : gG X d b (zQv X d b t T F0 Q) F 0 0 11 [some (.ref t), some (.int (zI x1)), some (.int (zI x2)), some (.int (zI x3)), none, none, none, none, none] [] := by
  unfold wr_rowsOf_11B at hw
  refine g_iload_n hC dX12_rowsOf_11 rfl ?_
  refine zr_if_lt (tgt := 211) hC Rx3 dX12_rowsOf_12 (by decide) (fun c1 => ?_) (fun c1 => ?_)
  · have h2 := hw.1 c1
    exact zr_vret hC hZ h2 dX12_rowsOf_211
  · have h3 := hw.2 c1
    refine g_sipush (v := zI 6000) hC dX12_rowsOf_15 rfl ?_
    refine g_iload_n hC dX12_rowsOf_18 rfl ?_
    refine zr_imul hC dX12_rowsOf_19 ?_
    refine g_iload_n hC dX12_rowsOf_20 rfl ?_
    refine zr_iadd hC dX12_rowsOf_21 ?_
    refine g_istore (lv' := [some (.ref t), some (.int (zI x1)), some (.int (zI x2)), some (.int (zI x3)), some (.int (zI ((6000 * x1) + x3))), none, none, none, none]) hC dX12_rowsOf_22 (Nat.le_of_ble_eq_true rfl) rfl rfl ?_
    refine g_aload_n hC dX12_rowsOf_24 rfl ?_
    refine zr_geta hC hZ fl_X12_345 zb_109 (by decide) dX12_rowsOf_25 ?_
    refine g_iload hC dX12_rowsOf_28 rfl ?_
    obtain ⟨o4, h5⟩ := h3
    obtain ⟨o6, h7⟩ := h5
    refine zr_bald (v := (za s0 109 (Int.toNat ((6000 * x1) + x3)))) hC hZ zk_109 zb_109 zn_109 (by decide) o4 o6 rfl dX12_rowsOf_30 ?_
    refine g_sipush (v := zI 255) hC dX12_rowsOf_31 rfl ?_
    refine zr_iand hC dX12_rowsOf_34 ?_
    refine g_istore (lv' := [some (.ref t), some (.int (zI x1)), some (.int (zI x2)), some (.int (zI x3)), some (.int (zI ((6000 * x1) + x3))), some (.int (zI (zan (za s0 109 (Int.toNat ((6000 * x1) + x3))) 255))), none, none, none]) hC dX12_rowsOf_35 (Nat.le_of_ble_eq_true rfl) rfl rfl ?_
    refine g_iload_n hC dX12_rowsOf_37 rfl ?_
    refine g_iconst (v := zI 1) hC dX12_rowsOf_38 rfl ?_
    refine zr_iadd hC dX12_rowsOf_39 ?_
    refine g_aload_n hC dX12_rowsOf_40 rfl ?_
    refine zr_geta hC hZ fl_X12_354 zb_112 (by decide) dX12_rowsOf_41 ?_
    refine g_iload_n hC dX12_rowsOf_44 rfl ?_
    obtain ⟨o8, h9⟩ := h7
    obtain ⟨o10, h11⟩ := h9
    refine zr_iald (v := (za s0 112 (Int.toNat x1))) hC hZ zk_112 zb_112 zn_112 (by decide) o8 o10 rfl dX12_rowsOf_45 ?_
    obtain ⟨o12, h13⟩ := h11
    refine zr_icmp_ge (tgt := 53) hC o12 (hZ.ra 112 _) dX12_rowsOf_46 (by decide) (fun c14 => ?_) (fun c14 => ?_)
    · have h15 := h13.1 c14
      refine g_iconst (v := zI 0) hC dX12_rowsOf_53 rfl ?_
      refine g_istore (lv' := [some (.ref t), some (.int (zI x1)), some (.int (zI x2)), some (.int (zI x3)), some (.int (zI ((6000 * x1) + x3))), some (.int (zI (zan (za s0 109 (Int.toNat ((6000 * x1) + x3))) 255))), some (.int (zI 0)), none, none]) hC dX12_rowsOf_54 (Nat.le_of_ble_eq_true rfl) rfl rfl ?_
      refine g_iload hC dX12_rowsOf_56 rfl ?_
      refine zr_if_eq (tgt := 77) hC (by decide) dX12_rowsOf_58 (by decide) (fun c16 => ?_) (fun c16 => ?_)
      · refine g_iconst (v := zI (-1)) hC dX12_rowsOf_77 rfl ?_
        refine g_lv (lv' := [some (.ref t), some (.int (zI x1)), some (.int (zI x2)), some (.int (zI x3)), some (.int (zI ((6000 * x1) + x3))), some (.int (zI (zan (za s0 109 (Int.toNat ((6000 * x1) + x3))) 255))), none, none, none]) ⟨rfl, rfl, rfl, rfl, rfl, rfl, trivial⟩ ?_
        exact rj_rowsOf_78 hC hk11 Rx1 Rx2 Rx3 ⟨by omega, by omega⟩ (zR_t _) (by decide) hZ h15
      · exact absurd (by decide) c16
    · have h17 := h13.2 c14
      refine g_iconst (v := zI 1) hC dX12_rowsOf_49 rfl ?_
      refine g_goto (tgt := 54) hC dX12_rowsOf_50 (by decide) ?_
      refine g_istore (lv' := [some (.ref t), some (.int (zI x1)), some (.int (zI x2)), some (.int (zI x3)), some (.int (zI ((6000 * x1) + x3))), some (.int (zI (zan (za s0 109 (Int.toNat ((6000 * x1) + x3))) 255))), some (.int (zI 1)), none, none]) hC dX12_rowsOf_54 (Nat.le_of_ble_eq_true rfl) rfl rfl ?_
      refine g_iload hC dX12_rowsOf_56 rfl ?_
      refine zr_if_eq (tgt := 77) hC (by decide) dX12_rowsOf_58 (by decide) (fun c18 => ?_) (fun c18 => ?_)
      · exact absurd c18 (by decide)
      · refine g_aload_n hC dX12_rowsOf_61 rfl ?_
        refine zr_geta hC hZ fl_X12_345 zb_109 (by decide) dX12_rowsOf_62 ?_
        refine g_iload hC dX12_rowsOf_65 rfl ?_
        refine g_iconst (v := zI 1) hC dX12_rowsOf_67 rfl ?_
        refine zr_iadd hC dX12_rowsOf_68 ?_
        obtain ⟨o19, h20⟩ := h17
        obtain ⟨o21, h22⟩ := h20
        refine zr_bald (v := (za s0 109 (Int.toNat (((6000 * x1) + x3) + 1)))) hC hZ zk_109 zb_109 zn_109 (by decide) o19 o21 rfl dX12_rowsOf_69 ?_
        refine g_sipush (v := zI 255) hC dX12_rowsOf_70 rfl ?_
        refine zr_iand hC dX12_rowsOf_73 ?_
        refine g_goto (tgt := 78) hC dX12_rowsOf_74 (by decide) ?_
        refine g_lv (lv' := [some (.ref t), some (.int (zI x1)), some (.int (zI x2)), some (.int (zI x3)), some (.int (zI ((6000 * x1) + x3))), some (.int (zI (zan (za s0 109 (Int.toNat ((6000 * x1) + x3))) 255))), none, none, none]) ⟨rfl, rfl, rfl, rfl, rfl, rfl, trivial⟩ ?_
        exact rj_rowsOf_78 hC hk11 Rx1 Rx2 Rx3 ⟨by omega, by omega⟩ (zR_t _) (zR_t _) hZ h22
theorem rl_rowsOf_11 {X : gX} {d : gD} {b t : Nat} {T : Nat → Nat} {F0 : gM} (hC : gC RX12 cX12_rowsOf 9 none "rowsOf" (gR 1 0 0) d b X) {Q : zS → Prop}   : ∀ (m : Nat) (F : gM) (s0 : zS) (x1 : Int) (x2 : Int) (x3 : Int), zR x1 → zR x2 → zR x3 → zZ d t T F0 F s0 → wr_rowsOf_11 Q  m s0 x1 x2 x3 → gG X d b (zQv X d b t T F0 Q) F 0 0 11 [some (.ref t), some (.int (zI x1)), some (.int (zI x2)), some (.int (zI x3)), none, none, none, none, none] [] := by
  intro m
  induction m with
  | zero => intro F s0 x1 x2 x3 Rx1 Rx2 Rx3 hZ hw; exact False.elim hw
  | succ m ih => intro F s0 x1 x2 x3 Rx1 Rx2 Rx3 hZ hw; exact rb_rowsOf_11 hC  ih Rx1 Rx2 Rx3 hZ hw
set_option maxHeartbeats 4000000 in
set_option maxRecDepth 100000 in
theorem rm_rowsOf (l : Launch) (d : gD) (b : Nat) {t : Nat} {T : Nat → Nat} {F : gM} {s0 : zS} {a0 : Int} (Ra0 : zR a0) {Q : zS → Prop} (hZ : zZ d t T F F s0) (hw : wr_rowsOf s0 a0 Q) : gMv l d b yX12_rowsOf cX12_rowsOf 9 1 0 0 F [.ref t, .int (zI a0)] (zPv d t T F Q) := by
  refine gM_of2 rfl (nL := 9) (Nat.le_of_ble_eq_true rfl) ?_
  intro X hX hC; subst hX
  show gG X d b (zQv X d b t T F Q) F 0 0 0 [some (.ref t), some (.int (zI a0)), none, none, none, none, none, none, none] []
  unfold wr_rowsOf at hw
  refine g_iconst (v := zI 1) hC dX12_rowsOf_0 rfl ?_
  refine g_istore_n (lv' := [some (.ref t), some (.int (zI a0)), some (.int (zI 1)), none, none, none, none, none, none]) hC dX12_rowsOf_1 (Nat.le_of_ble_eq_true rfl) rfl rfl ?_
  refine g_aload_n hC dX12_rowsOf_2 rfl ?_
  refine zr_geta hC hZ fl_X12_354 zb_112 (by decide) dX12_rowsOf_3 ?_
  refine g_iload_n hC dX12_rowsOf_6 rfl ?_
  obtain ⟨o1, h2⟩ := hw
  obtain ⟨o3, h4⟩ := h2
  refine zr_iald (v := (za s0 112 (Int.toNat a0))) hC hZ zk_112 zb_112 zn_112 (by decide) o1 o3 rfl dX12_rowsOf_7 ?_
  refine g_iconst (v := zI 1) hC dX12_rowsOf_8 rfl ?_
  refine zr_isub hC dX12_rowsOf_9 ?_
  refine g_istore_n (lv' := [some (.ref t), some (.int (zI a0)), some (.int (zI 1)), some (.int (zI ((za s0 112 (Int.toNat a0)) - 1))), none, none, none, none, none]) hC dX12_rowsOf_10 (Nat.le_of_ble_eq_true rfl) rfl rfl ?_
  obtain ⟨o5, h6⟩ := h4
  obtain ⟨m7, h8⟩ := h6
  exact rl_rowsOf_11 hC  m7 _ _ _ _ _ Ra0 (by decide) o5 hZ h8
theorem dX12_assign_0 : decode cX12_assign 0 = .ok (.iload_n 2, 1) := by decide +kernel
theorem dX12_assign_1 : decode cX12_assign 1 = .ok (.aload_n 0, 1) := by decide +kernel
theorem dX12_assign_2 : decode cX12_assign 2 = .ok (.getfield 108, 3) := by decide +kernel
theorem dX12_assign_5 : decode cX12_assign 5 = .ok (.aload_n 0, 1) := by decide +kernel
theorem dX12_assign_6 : decode cX12_assign 6 = .ok (.getfield 93, 3) := by decide +kernel
theorem dX12_assign_9 : decode cX12_assign 9 = .ok (.iload_n 1, 1) := by decide +kernel
theorem dX12_assign_10 : decode cX12_assign 10 = .ok (.iaload, 1) := by decide +kernel
theorem dX12_assign_11 : decode cX12_assign 11 = .ok (.iaload, 1) := by decide +kernel
theorem dX12_assign_12 : decode cX12_assign 12 = .ok (.if_icmp .ne 4, 3) := by decide +kernel
theorem dX12_assign_15 : decode cX12_assign 15 = .ok (.return_, 1) := by decide +kernel
theorem dX12_assign_16 : decode cX12_assign 16 = .ok (.aload_n 0, 1) := by decide +kernel
theorem dX12_assign_17 : decode cX12_assign 17 = .ok (.bipush 11, 2) := by decide +kernel
theorem dX12_assign_19 : decode cX12_assign 19 = .ok (.iload_n 1, 1) := by decide +kernel
theorem dX12_assign_20 : decode cX12_assign 20 = .ok (.aload_n 0, 1) := by decide +kernel
theorem dX12_assign_21 : decode cX12_assign 21 = .ok (.getfield 96, 3) := by decide +kernel
theorem dX12_assign_24 : decode cX12_assign 24 = .ok (.iload_n 2, 1) := by decide +kernel
theorem dX12_assign_25 : decode cX12_assign 25 = .ok (.iaload, 1) := by decide +kernel
theorem dX12_assign_26 : decode cX12_assign 26 = .ok (.invokevirtual 801, 3) := by decide +kernel
theorem dX12_assign_29 : decode cX12_assign 29 = .ok (.aload_n 0, 1) := by decide +kernel
theorem dX12_assign_30 : decode cX12_assign 30 = .ok (.bipush 12, 2) := by decide +kernel
theorem dX12_assign_32 : decode cX12_assign 32 = .ok (.iload_n 2, 1) := by decide +kernel
theorem dX12_assign_33 : decode cX12_assign 33 = .ok (.iconst 0, 1) := by decide +kernel
theorem dX12_assign_34 : decode cX12_assign 34 = .ok (.invokevirtual 801, 3) := by decide +kernel
theorem dX12_assign_37 : decode cX12_assign 37 = .ok (.aload_n 0, 1) := by decide +kernel
theorem dX12_assign_38 : decode cX12_assign 38 = .ok (.getfield 87, 3) := by decide +kernel
theorem dX12_assign_41 : decode cX12_assign 41 = .ok (.iload_n 2, 1) := by decide +kernel
theorem dX12_assign_42 : decode cX12_assign 42 = .ok (.baload, 1) := by decide +kernel
theorem dX12_assign_43 : decode cX12_assign 43 = .ok (.bipush 9, 2) := by decide +kernel
theorem dX12_assign_45 : decode cX12_assign 45 = .ok (.if_icmp .ne 35, 3) := by decide +kernel
theorem dX12_assign_48 : decode cX12_assign 48 = .ok (.aload_n 0, 1) := by decide +kernel
theorem dX12_assign_49 : decode cX12_assign 49 = .ok (.iconst 1, 1) := by decide +kernel
theorem dX12_assign_50 : decode cX12_assign 50 = .ok (.aload_n 0, 1) := by decide +kernel
theorem dX12_assign_51 : decode cX12_assign 51 = .ok (.getfield 96, 3) := by decide +kernel
theorem dX12_assign_54 : decode cX12_assign 54 = .ok (.aload_n 0, 1) := by decide +kernel
theorem dX12_assign_55 : decode cX12_assign 55 = .ok (.getfield 93, 3) := by decide +kernel
theorem dX12_assign_58 : decode cX12_assign 58 = .ok (.iload_n 2, 1) := by decide +kernel
theorem dX12_assign_59 : decode cX12_assign 59 = .ok (.iaload, 1) := by decide +kernel
theorem dX12_assign_60 : decode cX12_assign 60 = .ok (.iaload, 1) := by decide +kernel
theorem dX12_assign_61 : decode cX12_assign 61 = .ok (.iconst 0, 1) := by decide +kernel
theorem dX12_assign_62 : decode cX12_assign 62 = .ok (.invokevirtual 801, 3) := by decide +kernel
theorem dX12_assign_65 : decode cX12_assign 65 = .ok (.aload_n 0, 1) := by decide +kernel
theorem dX12_assign_66 : decode cX12_assign 66 = .ok (.iconst 1, 1) := by decide +kernel
theorem dX12_assign_67 : decode cX12_assign 67 = .ok (.aload_n 0, 1) := by decide +kernel
theorem dX12_assign_68 : decode cX12_assign 68 = .ok (.getfield 93, 3) := by decide +kernel
theorem dX12_assign_71 : decode cX12_assign 71 = .ok (.iload_n 2, 1) := by decide +kernel
theorem dX12_assign_72 : decode cX12_assign 72 = .ok (.iaload, 1) := by decide +kernel
theorem dX12_assign_73 : decode cX12_assign 73 = .ok (.iconst 0, 1) := by decide +kernel
theorem dX12_assign_74 : decode cX12_assign 74 = .ok (.invokevirtual 801, 3) := by decide +kernel
theorem dX12_assign_77 : decode cX12_assign 77 = .ok (.goto 26, 3) := by decide +kernel
theorem dX12_assign_80 : decode cX12_assign 80 = .ok (.aload_n 0, 1) := by decide +kernel
theorem dX12_assign_81 : decode cX12_assign 81 = .ok (.getfield 87, 3) := by decide +kernel
theorem dX12_assign_84 : decode cX12_assign 84 = .ok (.iload_n 2, 1) := by decide +kernel
theorem dX12_assign_85 : decode cX12_assign 85 = .ok (.baload, 1) := by decide +kernel
theorem dX12_assign_86 : decode cX12_assign 86 = .ok (.bipush 7, 2) := by decide +kernel
theorem dX12_assign_88 : decode cX12_assign 88 = .ok (.if_icmp .ne 15, 3) := by decide +kernel
theorem dX12_assign_91 : decode cX12_assign 91 = .ok (.aload_n 0, 1) := by decide +kernel
theorem dX12_assign_92 : decode cX12_assign 92 = .ok (.iconst 1, 1) := by decide +kernel
theorem dX12_assign_93 : decode cX12_assign 93 = .ok (.aload_n 0, 1) := by decide +kernel
theorem dX12_assign_94 : decode cX12_assign 94 = .ok (.getfield 93, 3) := by decide +kernel
theorem dX12_assign_97 : decode cX12_assign 97 = .ok (.iload_n 2, 1) := by decide +kernel
theorem dX12_assign_98 : decode cX12_assign 98 = .ok (.iaload, 1) := by decide +kernel
theorem dX12_assign_99 : decode cX12_assign 99 = .ok (.iconst 0, 1) := by decide +kernel
theorem dX12_assign_100 : decode cX12_assign 100 = .ok (.invokevirtual 801, 3) := by decide +kernel
theorem dX12_assign_103 : decode cX12_assign 103 = .ok (.aload_n 0, 1) := by decide +kernel
theorem dX12_assign_104 : decode cX12_assign 104 = .ok (.iconst 1, 1) := by decide +kernel
theorem dX12_assign_105 : decode cX12_assign 105 = .ok (.aload_n 0, 1) := by decide +kernel
theorem dX12_assign_106 : decode cX12_assign 106 = .ok (.getfield 108, 3) := by decide +kernel
theorem dX12_assign_109 : decode cX12_assign 109 = .ok (.iload_n 2, 1) := by decide +kernel
theorem dX12_assign_110 : decode cX12_assign 110 = .ok (.iaload, 1) := by decide +kernel
theorem dX12_assign_111 : decode cX12_assign 111 = .ok (.iconst 0, 1) := by decide +kernel
theorem dX12_assign_112 : decode cX12_assign 112 = .ok (.invokevirtual 801, 3) := by decide +kernel
theorem dX12_assign_115 : decode cX12_assign 115 = .ok (.return_, 1) := by decide +kernel
def wr_assign (s0 : zS) (a0 : Int) (a1 : Int) (Q : zS → Prop) : Prop :=
  (0 ≤ a0) ∧ (a0 < 26000) ∧ (0 ≤ (za s0 27 (Int.toNat a0))) ∧ ((za s0 27 (Int.toNat a0)) < 26000) ∧ ((¬ a1 = (za s0 32 (Int.toNat (za s0 27 (Int.toNat a0)))) → (0 ≤ a1) ∧ (a1 < 26000) ∧ wr_todoTask s0 11 a0 (za s0 28 (Int.toNat a1)) (fun s16 => wr_todoTask s16 12 a1 0 (fun s22 => (0 ≤ a1) ∧ (a1 < 26000) ∧ ((¬ (za s22 25 (Int.toNat a1)) = 9 → (0 ≤ a1) ∧ (a1 < 26000) ∧ ((¬ (za s22 25 (Int.toNat a1)) = 7 → (0 ≤ a1) ∧ (a1 < 26000) ∧ wr_todoTask s22 1 (za s22 32 (Int.toNat a1)) 0 (fun s44 => Q s44)) ∧ ((za s22 25 (Int.toNat a1)) = 7 → (0 ≤ a1) ∧ (a1 < 26000) ∧ wr_todoTask s22 1 (za s22 27 (Int.toNat a1)) 0 (fun s55 => (0 ≤ a1) ∧ (a1 < 26000) ∧ wr_todoTask s55 1 (za s55 32 (Int.toNat a1)) 0 (fun s65 => Q s65))))) ∧ ((za s22 25 (Int.toNat a1)) = 9 → (0 ≤ a1) ∧ (a1 < 26000) ∧ (0 ≤ (za s22 27 (Int.toNat a1))) ∧ ((za s22 27 (Int.toNat a1)) < 26000) ∧ wr_todoTask s22 1 (za s22 28 (Int.toNat (za s22 27 (Int.toNat a1)))) 0 (fun s80 => (0 ≤ a1) ∧ (a1 < 26000) ∧ wr_todoTask s80 1 (za s80 27 (Int.toNat a1)) 0 (fun s90 => (0 ≤ a1) ∧ (a1 < 26000) ∧ wr_todoTask s90 1 (za s90 32 (Int.toNat a1)) 0 (fun s100 => Q s100)))))))) ∧ (a1 = (za s0 32 (Int.toNat (za s0 27 (Int.toNat a0)))) → Q s0))
set_option maxHeartbeats 4000000 in
set_option maxRecDepth 100000 in
theorem rm_assign (l : Launch) (d : gD) (b : Nat) {t : Nat} {T : Nat → Nat} {F : gM} {s0 : zS} {a0 : Int} {a1 : Int} (Ra0 : zR a0) (Ra1 : zR a1) {Q : zS → Prop} (hZ : zZ d t T F F s0) (hw : wr_assign s0 a0 a1 Q) : gMv l d b yX12_assign cX12_assign 3 1 0 0 F [.ref t, .int (zI a0), .int (zI a1)] (zPv d t T F Q) := by
  refine gM_of2 rfl (nL := 3) (Nat.le_of_ble_eq_true rfl) ?_
  intro X hX hC; subst hX
  show gG X d b (zQv X d b t T F Q) F 0 0 0 [some (.ref t), some (.int (zI a0)), some (.int (zI a1))] []
  unfold wr_assign at hw
  refine g_iload_n hC dX12_assign_0 rfl ?_
  refine g_aload_n hC dX12_assign_1 rfl ?_
  refine zr_geta hC hZ fl_X12_108 zb_32 (by decide) dX12_assign_2 ?_
  refine g_aload_n hC dX12_assign_5 rfl ?_
  refine zr_geta hC hZ fl_X12_93 zb_27 (by decide) dX12_assign_6 ?_
  refine g_iload_n hC dX12_assign_9 rfl ?_
  obtain ⟨o1, h2⟩ := hw
  obtain ⟨o3, h4⟩ := h2
  refine zr_iald (v := (za s0 27 (Int.toNat a0))) hC hZ zk_27 zb_27 zn_27 (by decide) o1 o3 rfl dX12_assign_10 ?_
  obtain ⟨o5, h6⟩ := h4
  obtain ⟨o7, h8⟩ := h6
  refine zr_iald (v := (za s0 32 (Int.toNat (za s0 27 (Int.toNat a0))))) hC hZ zk_32 zb_32 zn_32 (by decide) o5 o7 rfl dX12_assign_11 ?_
  refine zr_icmp_ne (tgt := 16) hC Ra1 (hZ.ra 32 _) dX12_assign_12 (by decide) (fun c9 => ?_) (fun c9 => ?_)
  · have h10 := h8.1 c9
    refine g_aload_n hC dX12_assign_16 rfl ?_
    refine g_bipush (v := zI 11) hC dX12_assign_17 rfl ?_
    refine g_iload_n hC dX12_assign_19 rfl ?_
    refine g_aload_n hC dX12_assign_20 rfl ?_
    refine zr_geta hC hZ fl_X12_96 zb_28 (by decide) dX12_assign_21 ?_
    refine g_iload_n hC dX12_assign_24 rfl ?_
    obtain ⟨o11, h12⟩ := h10
    obtain ⟨o13, h14⟩ := h12
    refine zr_iald (v := (za s0 28 (Int.toNat a1))) hC hZ zk_28 zb_28 zn_28 (by decide) o11 o13 rfl dX12_assign_25 ?_
    refine zr_callVv (As := [.int (zI 11), .int (zI a0), .int (zI (za s0 28 (Int.toNat a1)))]) hC hZ rfl (rm_todoTask X.la d b (by decide) Ra0 (hZ.ra 28 _) hZ.rf h14) cl_X12_801 rfl rfl (Nat.le_of_ble_eq_true rfl) ⟨Nat.le_of_ble_eq_true rfl, Nat.le_of_ble_eq_true rfl⟩ dX12_assign_26 (fun s16 F17 hZ19 h20 => ?_)
    refine g_aload_n hC dX12_assign_29 rfl ?_
    refine g_bipush (v := zI 12) hC dX12_assign_30 rfl ?_
    refine g_iload_n hC dX12_assign_32 rfl ?_
    refine g_iconst (v := zI 0) hC dX12_assign_33 rfl ?_
    refine zr_callVv (As := [.int (zI 12), .int (zI a1), .int (zI 0)]) hC hZ19 rfl (rm_todoTask X.la d b (by decide) Ra1 (by decide) hZ19.rf h20) cl_X12_801 rfl rfl (Nat.le_of_ble_eq_true rfl) ⟨Nat.le_of_ble_eq_true rfl, Nat.le_of_ble_eq_true rfl⟩ dX12_assign_34 (fun s22 F23 hZ25 h26 => ?_)
    refine g_aload_n hC dX12_assign_37 rfl ?_
    refine zr_geta hC hZ25 fl_X12_87 zb_25 (by decide) dX12_assign_38 ?_
    refine g_iload_n hC dX12_assign_41 rfl ?_
    obtain ⟨o27, h28⟩ := h26
    obtain ⟨o29, h30⟩ := h28
    refine zr_bald (v := (za s22 25 (Int.toNat a1))) hC hZ25 zk_25 zb_25 zn_25 (by decide) o27 o29 rfl dX12_assign_42 ?_
    refine g_bipush (v := zI 9) hC dX12_assign_43 rfl ?_
    refine zr_icmp_ne (tgt := 80) hC (hZ25.ra 25 _) (by decide) dX12_assign_45 (by decide) (fun c31 => ?_) (fun c31 => ?_)
    · have h32 := h30.1 c31
      refine g_aload_n hC dX12_assign_80 rfl ?_
      refine zr_geta hC hZ25 fl_X12_87 zb_25 (by decide) dX12_assign_81 ?_
      refine g_iload_n hC dX12_assign_84 rfl ?_
      obtain ⟨o33, h34⟩ := h32
      obtain ⟨o35, h36⟩ := h34
      refine zr_bald (v := (za s22 25 (Int.toNat a1))) hC hZ25 zk_25 zb_25 zn_25 (by decide) o33 o35 rfl dX12_assign_85 ?_
      refine g_bipush (v := zI 7) hC dX12_assign_86 rfl ?_
      refine zr_icmp_ne (tgt := 103) hC (hZ25.ra 25 _) (by decide) dX12_assign_88 (by decide) (fun c37 => ?_) (fun c37 => ?_)
      · have h38 := h36.1 c37
        refine g_aload_n hC dX12_assign_103 rfl ?_
        refine g_iconst (v := zI 1) hC dX12_assign_104 rfl ?_
        refine g_aload_n hC dX12_assign_105 rfl ?_
        refine zr_geta hC hZ25 fl_X12_108 zb_32 (by decide) dX12_assign_106 ?_
        refine g_iload_n hC dX12_assign_109 rfl ?_
        obtain ⟨o39, h40⟩ := h38
        obtain ⟨o41, h42⟩ := h40
        refine zr_iald (v := (za s22 32 (Int.toNat a1))) hC hZ25 zk_32 zb_32 zn_32 (by decide) o39 o41 rfl dX12_assign_110 ?_
        refine g_iconst (v := zI 0) hC dX12_assign_111 rfl ?_
        refine zr_callVv (As := [.int (zI 1), .int (zI (za s22 32 (Int.toNat a1))), .int (zI 0)]) hC hZ25 rfl (rm_todoTask X.la d b (by decide) (hZ25.ra 32 _) (by decide) hZ25.rf h42) cl_X12_801 rfl rfl (Nat.le_of_ble_eq_true rfl) ⟨Nat.le_of_ble_eq_true rfl, Nat.le_of_ble_eq_true rfl⟩ dX12_assign_112 (fun s44 F45 hZ47 h48 => ?_)
        exact zr_vret hC hZ47 h48 dX12_assign_115
      · have h49 := h36.2 c37
        refine g_aload_n hC dX12_assign_91 rfl ?_
        refine g_iconst (v := zI 1) hC dX12_assign_92 rfl ?_
        refine g_aload_n hC dX12_assign_93 rfl ?_
        refine zr_geta hC hZ25 fl_X12_93 zb_27 (by decide) dX12_assign_94 ?_
        refine g_iload_n hC dX12_assign_97 rfl ?_
        obtain ⟨o50, h51⟩ := h49
        obtain ⟨o52, h53⟩ := h51
        refine zr_iald (v := (za s22 27 (Int.toNat a1))) hC hZ25 zk_27 zb_27 zn_27 (by decide) o50 o52 rfl dX12_assign_98 ?_
        refine g_iconst (v := zI 0) hC dX12_assign_99 rfl ?_
        refine zr_callVv (As := [.int (zI 1), .int (zI (za s22 27 (Int.toNat a1))), .int (zI 0)]) hC hZ25 rfl (rm_todoTask X.la d b (by decide) (hZ25.ra 27 _) (by decide) hZ25.rf h53) cl_X12_801 rfl rfl (Nat.le_of_ble_eq_true rfl) ⟨Nat.le_of_ble_eq_true rfl, Nat.le_of_ble_eq_true rfl⟩ dX12_assign_100 (fun s55 F56 hZ58 h59 => ?_)
        refine g_aload_n hC dX12_assign_103 rfl ?_
        refine g_iconst (v := zI 1) hC dX12_assign_104 rfl ?_
        refine g_aload_n hC dX12_assign_105 rfl ?_
        refine zr_geta hC hZ58 fl_X12_108 zb_32 (by decide) dX12_assign_106 ?_
        refine g_iload_n hC dX12_assign_109 rfl ?_
        obtain ⟨o60, h61⟩ := h59
        obtain ⟨o62, h63⟩ := h61
        refine zr_iald (v := (za s55 32 (Int.toNat a1))) hC hZ58 zk_32 zb_32 zn_32 (by decide) o60 o62 rfl dX12_assign_110 ?_
        refine g_iconst (v := zI 0) hC dX12_assign_111 rfl ?_
        refine zr_callVv (As := [.int (zI 1), .int (zI (za s55 32 (Int.toNat a1))), .int (zI 0)]) hC hZ58 rfl (rm_todoTask X.la d b (by decide) (hZ58.ra 32 _) (by decide) hZ58.rf h63) cl_X12_801 rfl rfl (Nat.le_of_ble_eq_true rfl) ⟨Nat.le_of_ble_eq_true rfl, Nat.le_of_ble_eq_true rfl⟩ dX12_assign_112 (fun s65 F66 hZ68 h69 => ?_)
        exact zr_vret hC hZ68 h69 dX12_assign_115
    · have h70 := h30.2 c31
      refine g_aload_n hC dX12_assign_48 rfl ?_
      refine g_iconst (v := zI 1) hC dX12_assign_49 rfl ?_
      refine g_aload_n hC dX12_assign_50 rfl ?_
      refine zr_geta hC hZ25 fl_X12_96 zb_28 (by decide) dX12_assign_51 ?_
      refine g_aload_n hC dX12_assign_54 rfl ?_
      refine zr_geta hC hZ25 fl_X12_93 zb_27 (by decide) dX12_assign_55 ?_
      refine g_iload_n hC dX12_assign_58 rfl ?_
      obtain ⟨o71, h72⟩ := h70
      obtain ⟨o73, h74⟩ := h72
      refine zr_iald (v := (za s22 27 (Int.toNat a1))) hC hZ25 zk_27 zb_27 zn_27 (by decide) o71 o73 rfl dX12_assign_59 ?_
      obtain ⟨o75, h76⟩ := h74
      obtain ⟨o77, h78⟩ := h76
      refine zr_iald (v := (za s22 28 (Int.toNat (za s22 27 (Int.toNat a1))))) hC hZ25 zk_28 zb_28 zn_28 (by decide) o75 o77 rfl dX12_assign_60 ?_
      refine g_iconst (v := zI 0) hC dX12_assign_61 rfl ?_
      refine zr_callVv (As := [.int (zI 1), .int (zI (za s22 28 (Int.toNat (za s22 27 (Int.toNat a1))))), .int (zI 0)]) hC hZ25 rfl (rm_todoTask X.la d b (by decide) (hZ25.ra 28 _) (by decide) hZ25.rf h78) cl_X12_801 rfl rfl (Nat.le_of_ble_eq_true rfl) ⟨Nat.le_of_ble_eq_true rfl, Nat.le_of_ble_eq_true rfl⟩ dX12_assign_62 (fun s80 F81 hZ83 h84 => ?_)
      refine g_aload_n hC dX12_assign_65 rfl ?_
      refine g_iconst (v := zI 1) hC dX12_assign_66 rfl ?_
      refine g_aload_n hC dX12_assign_67 rfl ?_
      refine zr_geta hC hZ83 fl_X12_93 zb_27 (by decide) dX12_assign_68 ?_
      refine g_iload_n hC dX12_assign_71 rfl ?_
      obtain ⟨o85, h86⟩ := h84
      obtain ⟨o87, h88⟩ := h86
      refine zr_iald (v := (za s80 27 (Int.toNat a1))) hC hZ83 zk_27 zb_27 zn_27 (by decide) o85 o87 rfl dX12_assign_72 ?_
      refine g_iconst (v := zI 0) hC dX12_assign_73 rfl ?_
      refine zr_callVv (As := [.int (zI 1), .int (zI (za s80 27 (Int.toNat a1))), .int (zI 0)]) hC hZ83 rfl (rm_todoTask X.la d b (by decide) (hZ83.ra 27 _) (by decide) hZ83.rf h88) cl_X12_801 rfl rfl (Nat.le_of_ble_eq_true rfl) ⟨Nat.le_of_ble_eq_true rfl, Nat.le_of_ble_eq_true rfl⟩ dX12_assign_74 (fun s90 F91 hZ93 h94 => ?_)
      refine g_goto (tgt := 103) hC dX12_assign_77 (by decide) ?_
      refine g_aload_n hC dX12_assign_103 rfl ?_
      refine g_iconst (v := zI 1) hC dX12_assign_104 rfl ?_
      refine g_aload_n hC dX12_assign_105 rfl ?_
      refine zr_geta hC hZ93 fl_X12_108 zb_32 (by decide) dX12_assign_106 ?_
      refine g_iload_n hC dX12_assign_109 rfl ?_
      obtain ⟨o95, h96⟩ := h94
      obtain ⟨o97, h98⟩ := h96
      refine zr_iald (v := (za s90 32 (Int.toNat a1))) hC hZ93 zk_32 zb_32 zn_32 (by decide) o95 o97 rfl dX12_assign_110 ?_
      refine g_iconst (v := zI 0) hC dX12_assign_111 rfl ?_
      refine zr_callVv (As := [.int (zI 1), .int (zI (za s90 32 (Int.toNat a1))), .int (zI 0)]) hC hZ93 rfl (rm_todoTask X.la d b (by decide) (hZ93.ra 32 _) (by decide) hZ93.rf h98) cl_X12_801 rfl rfl (Nat.le_of_ble_eq_true rfl) ⟨Nat.le_of_ble_eq_true rfl, Nat.le_of_ble_eq_true rfl⟩ dX12_assign_112 (fun s100 F101 hZ103 h104 => ?_)
      exact zr_vret hC hZ103 h104 dX12_assign_115
  · have h105 := h8.2 c9
    exact zr_vret hC hZ h105 dX12_assign_15
