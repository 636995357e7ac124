/-! the reference as formulas: feed, end, compile, fault_, store, input, run, value, out, outAt, word, fuel -/
theorem dX12_feed_0 : decode cX12_feed 0 = .ok (.aload_n 0, 1) := by decide +kernel
theorem dX12_feed_1 : decode cX12_feed 1 = .ok (.iconst 0, 1) := by decide +kernel
theorem dX12_feed_2 : decode cX12_feed 2 = .ok (.putfield 7, 3) := by decide +kernel
theorem dX12_feed_5 : decode cX12_feed 5 = .ok (.aload_n 0, 1) := by decide +kernel
theorem dX12_feed_6 : decode cX12_feed 6 = .ok (.getfield 17, 3) := by decide +kernel
theorem dX12_feed_9 : decode cX12_feed 9 = .ok (.bipush 20, 2) := by decide +kernel
theorem dX12_feed_11 : decode cX12_feed 11 = .ok (.iadd, 1) := by decide +kernel
theorem dX12_feed_12 : decode cX12_feed 12 = .ok (.sipush 6000, 3) := by decide +kernel
theorem dX12_feed_15 : decode cX12_feed 15 = .ok (.if_icmp .le 5, 3) := by decide +kernel
theorem dX12_feed_18 : decode cX12_feed 18 = .ok (.iconst 0, 1) := by decide +kernel
theorem dX12_feed_19 : decode cX12_feed 19 = .ok (.ireturn, 1) := by decide +kernel
theorem dX12_feed_20 : decode cX12_feed 20 = .ok (.iconst 0, 1) := by decide +kernel
theorem dX12_feed_21 : decode cX12_feed 21 = .ok (.istore 6, 2) := by decide +kernel
theorem dX12_feed_23 : decode cX12_feed 23 = .ok (.iload 6, 2) := by decide +kernel
theorem dX12_feed_25 : decode cX12_feed 25 = .ok (.bipush 20, 2) := by decide +kernel
theorem dX12_feed_27 : decode cX12_feed 27 = .ok (.if_icmp .ge 86, 3) := by decide +kernel
theorem dX12_feed_30 : decode cX12_feed 30 = .ok (.iload_n 1, 1) := by decide +kernel
theorem dX12_feed_31 : decode cX12_feed 31 = .ok (.istore 7, 2) := by decide +kernel
theorem dX12_feed_33 : decode cX12_feed 33 = .ok (.iload 6, 2) := by decide +kernel
theorem dX12_feed_35 : decode cX12_feed 35 = .ok (.iconst 4, 1) := by decide +kernel
theorem dX12_feed_36 : decode cX12_feed 36 = .ok (.if_icmp .lt 6, 3) := by decide +kernel
theorem dX12_feed_39 : decode cX12_feed 39 = .ok (.iload_n 2, 1) := by decide +kernel
theorem dX12_feed_40 : decode cX12_feed 40 = .ok (.istore 7, 2) := by decide +kernel
theorem dX12_feed_42 : decode cX12_feed 42 = .ok (.iload 6, 2) := by decide +kernel
theorem dX12_feed_44 : decode cX12_feed 44 = .ok (.bipush 8, 2) := by decide +kernel
theorem dX12_feed_46 : decode cX12_feed 46 = .ok (.if_icmp .lt 6, 3) := by decide +kernel
theorem dX12_feed_49 : decode cX12_feed 49 = .ok (.iload_n 3, 1) := by decide +kernel
theorem dX12_feed_50 : decode cX12_feed 50 = .ok (.istore 7, 2) := by decide +kernel
theorem dX12_feed_52 : decode cX12_feed 52 = .ok (.iload 6, 2) := by decide +kernel
theorem dX12_feed_54 : decode cX12_feed 54 = .ok (.bipush 12, 2) := by decide +kernel
theorem dX12_feed_56 : decode cX12_feed 56 = .ok (.if_icmp .lt 7, 3) := by decide +kernel
theorem dX12_feed_59 : decode cX12_feed 59 = .ok (.iload 4, 2) := by decide +kernel
theorem dX12_feed_61 : decode cX12_feed 61 = .ok (.istore 7, 2) := by decide +kernel
theorem dX12_feed_63 : decode cX12_feed 63 = .ok (.iload 6, 2) := by decide +kernel
theorem dX12_feed_65 : decode cX12_feed 65 = .ok (.bipush 16, 2) := by decide +kernel
theorem dX12_feed_67 : decode cX12_feed 67 = .ok (.if_icmp .lt 7, 3) := by decide +kernel
theorem dX12_feed_70 : decode cX12_feed 70 = .ok (.iload 5, 2) := by decide +kernel
theorem dX12_feed_72 : decode cX12_feed 72 = .ok (.istore 7, 2) := by decide +kernel
theorem dX12_feed_74 : decode cX12_feed 74 = .ok (.aload_n 0, 1) := by decide +kernel
theorem dX12_feed_75 : decode cX12_feed 75 = .ok (.getfield 13, 3) := by decide +kernel
theorem dX12_feed_78 : decode cX12_feed 78 = .ok (.aload_n 0, 1) := by decide +kernel
theorem dX12_feed_79 : decode cX12_feed 79 = .ok (.getfield 17, 3) := by decide +kernel
theorem dX12_feed_82 : decode cX12_feed 82 = .ok (.iload 7, 2) := by decide +kernel
theorem dX12_feed_84 : decode cX12_feed 84 = .ok (.bipush 24, 2) := by decide +kernel
theorem dX12_feed_86 : decode cX12_feed 86 = .ok (.bipush 8, 2) := by decide +kernel
theorem dX12_feed_88 : decode cX12_feed 88 = .ok (.iload 6, 2) := by decide +kernel
theorem dX12_feed_90 : decode cX12_feed 90 = .ok (.iconst 3, 1) := by decide +kernel
theorem dX12_feed_91 : decode cX12_feed 91 = .ok (.iand, 1) := by decide +kernel
theorem dX12_feed_92 : decode cX12_feed 92 = .ok (.imul, 1) := by decide +kernel
theorem dX12_feed_93 : decode cX12_feed 93 = .ok (.isub, 1) := by decide +kernel
theorem dX12_feed_94 : decode cX12_feed 94 = .ok (.ishr, 1) := by decide +kernel
theorem dX12_feed_95 : decode cX12_feed 95 = .ok (.i2b, 1) := by decide +kernel
theorem dX12_feed_96 : decode cX12_feed 96 = .ok (.bastore, 1) := by decide +kernel
theorem dX12_feed_97 : decode cX12_feed 97 = .ok (.aload_n 0, 1) := by decide +kernel
theorem dX12_feed_98 : decode cX12_feed 98 = .ok (.dup, 1) := by decide +kernel
theorem dX12_feed_99 : decode cX12_feed 99 = .ok (.getfield 17, 3) := by decide +kernel
theorem dX12_feed_102 : decode cX12_feed 102 = .ok (.iconst 1, 1) := by decide +kernel
theorem dX12_feed_103 : decode cX12_feed 103 = .ok (.iadd, 1) := by decide +kernel
theorem dX12_feed_104 : decode cX12_feed 104 = .ok (.putfield 17, 3) := by decide +kernel
theorem dX12_feed_107 : decode cX12_feed 107 = .ok (.iinc 6 1, 3) := by decide +kernel
theorem dX12_feed_110 : decode cX12_feed 110 = .ok (.goto (-87), 3) := by decide +kernel
theorem dX12_feed_113 : decode cX12_feed 113 = .ok (.iconst 1, 1) := by decide +kernel
theorem dX12_feed_114 : decode cX12_feed 114 = .ok (.ireturn, 1) := by decide +kernel
def wr_feed_63 (Q : Int → zS → Prop) (k23 : zS → Int → Int → Int → Int → Int → Int → Prop) (s0 : zS) (x1 : Int) (x2 : Int) (x3 : Int) (x4 : Int) (x5 : Int) (x6 : Int) (x7 : Int) : Prop :=
  ((x6 < 16 → (0 ≤ (zv s0 2)) ∧ ((zv s0 2) < 6000) ∧ (zR ((zv s0 2) + 1)) ∧ (zR (x6 + 1)) ∧ k23 (zpv (zpa s0 1 (Int.toNat (zv s0 2)) (znb (zby (zsr x7 (24 - (8 * (zan x6 3))))))) 2 ((zv s0 2) + 1)) x1 x2 x3 x4 x5 (x6 + 1)) ∧ (¬ x6 < 16 → (0 ≤ (zv s0 2)) ∧ ((zv s0 2) < 6000) ∧ (zR ((zv s0 2) + 1)) ∧ (zR (x6 + 1)) ∧ k23 (zpv (zpa s0 1 (Int.toNat (zv s0 2)) (znb (zby (zsr x5 (24 - (8 * (zan x6 3))))))) 2 ((zv s0 2) + 1)) x1 x2 x3 x4 x5 (x6 + 1)))
def wr_feed_23B (Q : Int → zS → Prop) (k23 : zS → Int → Int → Int → Int → Int → Int → Prop) (s0 : zS) (x1 : Int) (x2 : Int) (x3 : Int) (x4 : Int) (x5 : Int) (x6 : Int) : Prop :=
  ((20 ≤ x6 → Q 1 s0) ∧ (¬ 20 ≤ x6 → ((x6 < 4 → ((x6 < 8 → ((x6 < 12 → wr_feed_63 Q k23 s0 x1 x2 x3 x4 x5 x6 x1) ∧ (¬ x6 < 12 → wr_feed_63 Q k23 s0 x1 x2 x3 x4 x5 x6 x4))) ∧ (¬ x6 < 8 → ((x6 < 12 → wr_feed_63 Q k23 s0 x1 x2 x3 x4 x5 x6 x3) ∧ (¬ x6 < 12 → wr_feed_63 Q k23 s0 x1 x2 x3 x4 x5 x6 x4))))) ∧ (¬ x6 < 4 → ((x6 < 8 → ((x6 < 12 → wr_feed_63 Q k23 s0 x1 x2 x3 x4 x5 x6 x2) ∧ (¬ x6 < 12 → wr_feed_63 Q k23 s0 x1 x2 x3 x4 x5 x6 x4))) ∧ (¬ x6 < 8 → ((x6 < 12 → wr_feed_63 Q k23 s0 x1 x2 x3 x4 x5 x6 x3) ∧ (¬ x6 < 12 → wr_feed_63 Q k23 s0 x1 x2 x3 x4 x5 x6 x4))))))))
def wr_feed_23 (Q : Int → zS → Prop)  : Nat → zS → Int → Int → Int → Int → Int → Int → Prop
  | 0 => fun _ _ _ _ _ _ _ => False
  | m + 1 => fun s0 x1 x2 x3 x4 x5 x6 => wr_feed_23B Q  (wr_feed_23 Q  m) s0 x1 x2 x3 x4 x5 x6
def wr_feed (s0 : zS) (a0 : Int) (a1 : Int) (a2 : Int) (a3 : Int) (a4 : Int) (Q : Int → zS → Prop) : Prop :=
  (zR ((zv s0 2) + 20)) ∧ ((((zv s0 2) + 20) ≤ 6000 → ∃ n, wr_feed_23 Q  n (zpv s0 0 0) a0 a1 a2 a3 a4 0) ∧ (¬ ((zv s0 2) + 20) ≤ 6000 → Q 0 (zpv s0 0 0)))
set_option maxHeartbeats 4000000 in
set_option maxRecDepth 100000 in
theorem rj_feed_63 {X : gX} {d : gD} {b t : Nat} {T : Nat → Nat} {F0 : gM} (hC : gC RX12 cX12_feed 8 (some .boolean) "feed" (gR 0 0 0) d b X) {Q : Int → zS → Prop} {k23 : zS → Int → Int → Int → Int → Int → Int → Prop} (hk23 : ∀ (F : gM) (s0 : zS) (x1 : Int) (x2 : Int) (x3 : Int) (x4 : Int) (x5 : Int) (x6 : Int), zR x1 → zR x2 → zR x3 → zR x4 → zR x5 → zR x6 → zZ d t T F0 F s0 → k23 s0 x1 x2 x3 x4 x5 x6 → gG X d b (zQi X d b t T F0 Q) F 0 0 23 [some (.ref t), some (.int (zI x1)), some (.int (zI x2)), some (.int (zI x3)), some (.int (zI x4)), some (.int (zI x5)), some (.int (zI x6)), none] []) {F : gM} {s0 : zS} {x1 : Int} {x2 : Int} {x3 : Int} {x4 : Int} {x5 : Int} {x6 : Int} {x7 : Int} (Rx1 : zR x1) (Rx2 : zR x2) (Rx3 : zR x3) (Rx4 : zR x4) (Rx5 : zR x5) (Rx6 : zR x6) (Rx7 : zR x7) (hZ : zZ d t T F0 F s0) (hw : wr_feed_63 Q k23 s0 x1 x2 x3 x4 x5 x6 x7) : gG X d b (zQi X d b t T F0 Q) F 0 0 63 [some (.ref t), some (.int (zI x1)), some (.int (zI x2)), some (.int (zI x3)), some (.int (zI x4)), some (.int (zI x5)), some (.int (zI x6)), some (.int (zI x7))] [] := by
  unfold wr_feed_63 at hw
  refine g_iload hC dX12_feed_63 rfl ?_
  refine g_bipush (v := zI 16) hC dX12_feed_65 rfl ?_
  refine zr_icmp_lt (tgt := 74) hC Rx6 (by decide) dX12_feed_67 (by decide) (fun c1 => ?_) (fun c1 => ?_)
  · have h2 := hw.1 c1
    refine g_aload_n hC dX12_feed_74 rfl ?_
    refine zr_geta hC hZ fl_X12_13 zb_1 (by decide) dX12_feed_75 ?_
    refine g_aload_n hC dX12_feed_78 rfl ?_
    refine zr_get (e := (zv s0 2)) hC hZ fl_X12_17 zb_2 (by decide) rfl dX12_feed_79 ?_
    refine g_iload hC dX12_feed_82 rfl ?_
    refine g_bipush (v := zI 24) hC dX12_feed_84 rfl ?_
    refine g_bipush (v := zI 8) hC dX12_feed_86 rfl ?_
    refine g_iload hC dX12_feed_88 rfl ?_
    refine g_iconst (v := zI 3) hC dX12_feed_90 rfl ?_
    refine zr_iand hC dX12_feed_91 ?_
    refine zr_imul hC dX12_feed_92 ?_
    refine zr_isub hC dX12_feed_93 ?_
    refine zr_ishr hC dX12_feed_94 ?_
    refine zr_i2b hC dX12_feed_95 ?_
    obtain ⟨o3, h4⟩ := h2
    obtain ⟨o5, h6⟩ := h4
    refine zr_bast hC hZ zk_1 zb_1 zn_1 (by decide) o3 o5  dX12_feed_96 (fun F7 hZ8 => ?_)
    refine g_aload_n hC dX12_feed_97 rfl ?_
    refine g_dup hC dX12_feed_98 rfl ?_
    refine zr_get (e := (zv s0 2)) hC hZ8 fl_X12_17 zb_2 (by decide) rfl dX12_feed_99 ?_
    refine g_iconst (v := zI 1) hC dX12_feed_102 rfl ?_
    refine zr_iadd hC dX12_feed_103 ?_
    obtain ⟨o9, h10⟩ := h6
    refine zr_put hC hZ8 fl_X12_17 zb_2 (by decide) o9 dX12_feed_104 (fun F11 hZ12 => ?_)
    refine zr_iinc (x := x6) (lv' := [some (.ref t), some (.int (zI x1)), some (.int (zI x2)), some (.int (zI x3)), some (.int (zI x4)), some (.int (zI x5)), some (.int (zI (x6 + 1))), some (.int (zI x7))]) hC dX12_feed_107 rfl rfl rfl ?_
    refine g_goto (tgt := 23) hC dX12_feed_110 (by decide) ?_
    obtain ⟨o13, h14⟩ := h10
    refine g_lv (lv' := [some (.ref t), some (.int (zI x1)), some (.int (zI x2)), some (.int (zI x3)), some (.int (zI x4)), some (.int (zI x5)), some (.int (zI (x6 + 1))), none]) ⟨rfl, rfl, rfl, rfl, rfl, rfl, rfl, trivial⟩ ?_
    exact hk23 _ _ _ _ _ _ _ _ Rx1 Rx2 Rx3 Rx4 Rx5 o13 hZ12 h14
  · have h15 := hw.2 c1
    refine g_iload hC dX12_feed_70 rfl ?_
    refine g_istore (lv' := [some (.ref t), some (.int (zI x1)), some (.int (zI x2)), some (.int (zI x3)), some (.int (zI x4)), some (.int (zI x5)), some (.int (zI x6)), some (.int (zI x5))]) hC dX12_feed_72 (Nat.le_of_ble_eq_true rfl) rfl rfl ?_
    refine g_aload_n hC dX12_feed_74 rfl ?_
    refine zr_geta hC hZ fl_X12_13 zb_1 (by decide) dX12_feed_75 ?_
    refine g_aload_n hC dX12_feed_78 rfl ?_
    refine zr_get (e := (zv s0 2)) hC hZ fl_X12_17 zb_2 (by decide) rfl dX12_feed_79 ?_
    refine g_iload hC dX12_feed_82 rfl ?_
    refine g_bipush (v := zI 24) hC dX12_feed_84 rfl ?_
    refine g_bipush (v := zI 8) hC dX12_feed_86 rfl ?_
    refine g_iload hC dX12_feed_88 rfl ?_
    refine g_iconst (v := zI 3) hC dX12_feed_90 rfl ?_
    refine zr_iand hC dX12_feed_91 ?_
    refine zr_imul hC dX12_feed_92 ?_
    refine zr_isub hC dX12_feed_93 ?_
    refine zr_ishr hC dX12_feed_94 ?_
    refine zr_i2b hC dX12_feed_95 ?_
    obtain ⟨o16, h17⟩ := h15
    obtain ⟨o18, h19⟩ := h17
    refine zr_bast hC hZ zk_1 zb_1 zn_1 (by decide) o16 o18  dX12_feed_96 (fun F20 hZ21 => ?_)
    refine g_aload_n hC dX12_feed_97 rfl ?_
    refine g_dup hC dX12_feed_98 rfl ?_
    refine zr_get (e := (zv s0 2)) hC hZ21 fl_X12_17 zb_2 (by decide) rfl dX12_feed_99 ?_
    refine g_iconst (v := zI 1) hC dX12_feed_102 rfl ?_
    refine zr_iadd hC dX12_feed_103 ?_
    obtain ⟨o22, h23⟩ := h19
    refine zr_put hC hZ21 fl_X12_17 zb_2 (by decide) o22 dX12_feed_104 (fun F24 hZ25 => ?_)
    refine zr_iinc (x := x6) (lv' := [some (.ref t), some (.int (zI x1)), some (.int (zI x2)), some (.int (zI x3)), some (.int (zI x4)), some (.int (zI x5)), some (.int (zI (x6 + 1))), some (.int (zI x5))]) hC dX12_feed_107 rfl rfl rfl ?_
    refine g_goto (tgt := 23) hC dX12_feed_110 (by decide) ?_
    obtain ⟨o26, h27⟩ := h23
    refine g_lv (lv' := [some (.ref t), some (.int (zI x1)), some (.int (zI x2)), some (.int (zI x3)), some (.int (zI x4)), some (.int (zI x5)), some (.int (zI (x6 + 1))), none]) ⟨rfl, rfl, rfl, rfl, rfl, rfl, rfl, trivial⟩ ?_
    exact hk23 _ _ _ _ _ _ _ _ Rx1 Rx2 Rx3 Rx4 Rx5 o26 hZ25 h27
set_option maxHeartbeats 4000000 in
set_option maxRecDepth 100000 in
theorem rb_feed_23 {X : gX} {d : gD} {b t : Nat} {T : Nat → Nat} {F0 : gM} (hC : gC RX12 cX12_feed 8 (some .boolean) "feed" (gR 0 0 0) d b X) {Q : Int → zS → Prop} {k23 : zS → Int → Int → Int → Int → Int → Int → Prop} (hk23 : ∀ (F : gM) (s0 : zS) (x1 : Int) (x2 : Int) (x3 : Int) (x4 : Int) (x5 : Int) (x6 : Int), zR x1 → zR x2 → zR x3 → zR x4 → zR x5 → zR x6 → zZ d t T F0 F s0 → k23 s0 x1 x2 x3 x4 x5 x6 → gG X d b (zQi X d b t T F0 Q) F 0 0 23 [some (.ref t), some (.int (zI x1)), some (.int (zI x2)), some (.int (zI x3)), some (.int (zI x4)), some (.int (zI x5)), some (.int (zI x6)), none] []) {F : gM} {s0 : zS} {x1 : Int} {x2 : Int} {x3 : Int} {x4 : Int} {x5 : Int} {x6 : Int} (Rx1 : zR x1) (Rx2 : zR x2) (Rx3 : zR x3) (Rx4 : zR x4) (Rx5 : zR x5) (Rx6 : zR x6) (hZ : zZ d t T F0 F s0) (hw : wr_feed_23B Q k23 s0 x1 x2 x3 x4 x5 x6) : gG X d b (zQi X d b t T F0 Q) F 0 0 23 [some (.ref t), some (.int (zI x1)), some (.int (zI x2)), some (.int (zI x3)), some (.int (zI x4)), some (.int (zI x5)), some (.int (zI x6)), none] [] := by
  unfold wr_feed_23B at hw
  refine g_iload hC dX12_feed_23 rfl ?_
  refine g_bipush (v := zI 20) hC dX12_feed_25 rfl ?_
  refine zr_icmp_ge (tgt := 113) hC Rx6 (by decide) dX12_feed_27 (by decide) (fun c1 => ?_) (fun c1 => ?_)
  · have h2 := hw.1 c1
    refine g_iconst (v := zI 1) hC dX12_feed_113 rfl ?_
    exact zr_zret hC hZ (Or.inr rfl) h2 dX12_feed_114
  · have h3 := hw.2 c1
    refine g_iload_n hC dX12_feed_30 rfl ?_
    refine g_istore (lv' := [some (.ref t), some (.int (zI x1)), some (.int (zI x2)), some (.int (zI x3)), some (.int (zI x4)), some (.int (zI x5)), some (.int (zI x6)), some (.int (zI x1))]) hC dX12_feed_31 (Nat.le_of_ble_eq_true rfl) rfl rfl ?_
    refine g_iload hC dX12_feed_33 rfl ?_
    refine g_iconst (v := zI 4) hC dX12_feed_35 rfl ?_
    refine zr_icmp_lt (tgt := 42) hC Rx6 (by decide) dX12_feed_36 (by decide) (fun c4 => ?_) (fun c4 => ?_)
    · have h5 := h3.1 c4
      refine g_iload hC dX12_feed_42 rfl ?_
      refine g_bipush (v := zI 8) hC dX12_feed_44 rfl ?_
      refine zr_icmp_lt (tgt := 52) hC Rx6 (by decide) dX12_feed_46 (by decide) (fun c6 => ?_) (fun c6 => ?_)
      · have h7 := h5.1 c6
        refine g_iload hC dX12_feed_52 rfl ?_
        refine g_bipush (v := zI 12) hC dX12_feed_54 rfl ?_
        refine zr_icmp_lt (tgt := 63) hC Rx6 (by decide) dX12_feed_56 (by decide) (fun c8 => ?_) (fun c8 => ?_)
        · have h9 := h7.1 c8
          exact rj_feed_63 hC hk23 Rx1 Rx2 Rx3 Rx4 Rx5 Rx6 Rx1 hZ h9
        · have h10 := h7.2 c8
          refine g_iload hC dX12_feed_59 rfl ?_
          refine g_istore (lv' := [some (.ref t), some (.int (zI x1)), some (.int (zI x2)), some (.int (zI x3)), some (.int (zI x4)), some (.int (zI x5)), some (.int (zI x6)), some (.int (zI x4))]) hC dX12_feed_61 (Nat.le_of_ble_eq_true rfl) rfl rfl ?_
          exact rj_feed_63 hC hk23 Rx1 Rx2 Rx3 Rx4 Rx5 Rx6 Rx4 hZ h10
      · have h11 := h5.2 c6
        refine g_iload_n hC dX12_feed_49 rfl ?_
        refine g_istore (lv' := [some (.ref t), some (.int (zI x1)), some (.int (zI x2)), some (.int (zI x3)), some (.int (zI x4)), some (.int (zI x5)), some (.int (zI x6)), some (.int (zI x3))]) hC dX12_feed_50 (Nat.le_of_ble_eq_true rfl) rfl rfl ?_
        refine g_iload hC dX12_feed_52 rfl ?_
        refine g_bipush (v := zI 12) hC dX12_feed_54 rfl ?_
        refine zr_icmp_lt (tgt := 63) hC Rx6 (by decide) dX12_feed_56 (by decide) (fun c12 => ?_) (fun c12 => ?_)
        · have h13 := h11.1 c12
          exact rj_feed_63 hC hk23 Rx1 Rx2 Rx3 Rx4 Rx5 Rx6 Rx3 hZ h13
        · have h14 := h11.2 c12
          refine g_iload hC dX12_feed_59 rfl ?_
          refine g_istore (lv' := [some (.ref t), some (.int (zI x1)), some (.int (zI x2)), some (.int (zI x3)), some (.int (zI x4)), some (.int (zI x5)), some (.int (zI x6)), some (.int (zI x4))]) hC dX12_feed_61 (Nat.le_of_ble_eq_true rfl) rfl rfl ?_
          exact rj_feed_63 hC hk23 Rx1 Rx2 Rx3 Rx4 Rx5 Rx6 Rx4 hZ h14
    · have h15 := h3.2 c4
      refine g_iload_n hC dX12_feed_39 rfl ?_
      refine g_istore (lv' := [some (.ref t), some (.int (zI x1)), some (.int (zI x2)), some (.int (zI x3)), some (.int (zI x4)), some (.int (zI x5)), some (.int (zI x6)), some (.int (zI x2))]) hC dX12_feed_40 (Nat.le_of_ble_eq_true rfl) rfl rfl ?_
      refine g_iload hC dX12_feed_42 rfl ?_
      refine g_bipush (v := zI 8) hC dX12_feed_44 rfl ?_
      refine zr_icmp_lt (tgt := 52) hC Rx6 (by decide) dX12_feed_46 (by decide) (fun c16 => ?_) (fun c16 => ?_)
      · have h17 := h15.1 c16
        refine g_iload hC dX12_feed_52 rfl ?_
        refine g_bipush (v := zI 12) hC dX12_feed_54 rfl ?_
        refine zr_icmp_lt (tgt := 63) hC Rx6 (by decide) dX12_feed_56 (by decide) (fun c18 => ?_) (fun c18 => ?_)
        · have h19 := h17.1 c18
          exact rj_feed_63 hC hk23 Rx1 Rx2 Rx3 Rx4 Rx5 Rx6 Rx2 hZ h19
        · have h20 := h17.2 c18
          refine g_iload hC dX12_feed_59 rfl ?_
          refine g_istore (lv' := [some (.ref t), some (.int (zI x1)), some (.int (zI x2)), some (.int (zI x3)), some (.int (zI x4)), some (.int (zI x5)), some (.int (zI x6)), some (.int (zI x4))]) hC dX12_feed_61 (Nat.le_of_ble_eq_true rfl) rfl rfl ?_
          exact rj_feed_63 hC hk23 Rx1 Rx2 Rx3 Rx4 Rx5 Rx6 Rx4 hZ h20
      · have h21 := h15.2 c16
        refine g_iload_n hC dX12_feed_49 rfl ?_
        refine g_istore (lv' := [some (.ref t), some (.int (zI x1)), some (.int (zI x2)), some (.int (zI x3)), some (.int (zI x4)), some (.int (zI x5)), some (.int (zI x6)), some (.int (zI x3))]) hC dX12_feed_50 (Nat.le_of_ble_eq_true rfl) rfl rfl ?_
        refine g_iload hC dX12_feed_52 rfl ?_
        refine g_bipush (v := zI 12) hC dX12_feed_54 rfl ?_
        refine zr_icmp_lt (tgt := 63) hC Rx6 (by decide) dX12_feed_56 (by decide) (fun c22 => ?_) (fun c22 => ?_)
        · have h23 := h21.1 c22
          exact rj_feed_63 hC hk23 Rx1 Rx2 Rx3 Rx4 Rx5 Rx6 Rx3 hZ h23
        · have h24 := h21.2 c22
          refine g_iload hC dX12_feed_59 rfl ?_
          refine g_istore (lv' := [some (.ref t), some (.int (zI x1)), some (.int (zI x2)), some (.int (zI x3)), some (.int (zI x4)), some (.int (zI x5)), some (.int (zI x6)), some (.int (zI x4))]) hC dX12_feed_61 (Nat.le_of_ble_eq_true rfl) rfl rfl ?_
          exact rj_feed_63 hC hk23 Rx1 Rx2 Rx3 Rx4 Rx5 Rx6 Rx4 hZ h24
theorem rl_feed_23 {X : gX} {d : gD} {b t : Nat} {T : Nat → Nat} {F0 : gM} (hC : gC RX12 cX12_feed 8 (some .boolean) "feed" (gR 0 0 0) d b X) {Q : Int → zS → Prop}   : ∀ (m : Nat) (F : gM) (s0 : zS) (x1 : Int) (x2 : Int) (x3 : Int) (x4 : Int) (x5 : Int) (x6 : Int), zR x1 → zR x2 → zR x3 → zR x4 → zR x5 → zR x6 → zZ d t T F0 F s0 → wr_feed_23 Q  m s0 x1 x2 x3 x4 x5 x6 → gG X d b (zQi X d b t T F0 Q) F 0 0 23 [some (.ref t), some (.int (zI x1)), some (.int (zI x2)), some (.int (zI x3)), some (.int (zI x4)), some (.int (zI x5)), some (.int (zI x6)), none] [] := by
  intro m
  induction m with
  | zero => intro F s0 x1 x2 x3 x4 x5 x6 Rx1 Rx2 Rx3 Rx4 Rx5 Rx6 hZ hw; exact False.elim hw
  | succ m ih => intro F s0 x1 x2 x3 x4 x5 x6 Rx1 Rx2 Rx3 Rx4 Rx5 Rx6 hZ hw; exact rb_feed_23 hC  ih Rx1 Rx2 Rx3 Rx4 Rx5 Rx6 hZ hw
set_option maxHeartbeats 4000000 in
set_option maxRecDepth 100000 in
theorem rm_feed (l : Launch) (d : gD) (b : Nat) {t : Nat} {T : Nat → Nat} {F : gM} {s0 : zS} {a0 : Int} {a1 : Int} {a2 : Int} {a3 : Int} {a4 : Int} (Ra0 : zR a0) (Ra1 : zR a1) (Ra2 : zR a2) (Ra3 : zR a3) (Ra4 : zR a4) {Q : Int → zS → Prop} (hZ : zZ d t T F F s0) (hw : wr_feed s0 a0 a1 a2 a3 a4 Q) : gMi l d b yX12_feed cX12_feed 8 .boolean 0 0 0 F [.ref t, .int (zI a0), .int (zI a1), .int (zI a2), .int (zI a3), .int (zI a4)] (zPi d t T F Q) := by
  refine gM_of2 rfl (nL := 8) (Nat.le_of_ble_eq_true rfl) ?_
  intro X hX hC; subst hX
  show gG X d b (zQi X d b t T F Q) F 0 0 0 [some (.ref t), some (.int (zI a0)), some (.int (zI a1)), some (.int (zI a2)), some (.int (zI a3)), some (.int (zI a4)), none, none] []
  unfold wr_feed at hw
  refine g_aload_n hC dX12_feed_0 rfl ?_
  refine g_iconst (v := zI 0) hC dX12_feed_1 rfl ?_
  refine zr_put hC hZ fl_X12_7 zb_0 (by decide) (by decide) dX12_feed_2 (fun F1 hZ2 => ?_)
  refine g_aload_n hC dX12_feed_5 rfl ?_
  refine zr_get (e := (zv s0 2)) hC hZ2 fl_X12_17 zb_2 (by decide) rfl dX12_feed_6 ?_
  refine g_bipush (v := zI 20) hC dX12_feed_9 rfl ?_
  refine zr_iadd hC dX12_feed_11 ?_
  refine g_sipush (v := zI 6000) hC dX12_feed_12 rfl ?_
  obtain ⟨o3, h4⟩ := hw
  refine zr_icmp_le (tgt := 20) hC o3 (by decide) dX12_feed_15 (by decide) (fun c5 => ?_) (fun c5 => ?_)
  · have h6 := h4.1 c5
    refine g_iconst (v := zI 0) hC dX12_feed_20 rfl ?_
    refine g_istore (lv' := [some (.ref t), some (.int (zI a0)), some (.int (zI a1)), some (.int (zI a2)), some (.int (zI a3)), some (.int (zI a4)), some (.int (zI 0)), none]) hC dX12_feed_21 (Nat.le_of_ble_eq_true rfl) rfl rfl ?_
    obtain ⟨m7, h8⟩ := h6
    exact rl_feed_23 hC  m7 _ _ _ _ _ _ _ _ Ra0 Ra1 Ra2 Ra3 Ra4 (by decide) hZ2 h8
  · have h9 := h4.2 c5
    refine g_iconst (v := zI 0) hC dX12_feed_18 rfl ?_
    exact zr_zret hC hZ2 (Or.inl rfl) h9 dX12_feed_19
theorem dX12_end_0 : decode cX12_end 0 = .ok (.aload_n 0, 1) := by decide +kernel
theorem dX12_end_1 : decode cX12_end 1 = .ok (.iconst 0, 1) := by decide +kernel
theorem dX12_end_2 : decode cX12_end 2 = .ok (.putfield 7, 3) := by decide +kernel
theorem dX12_end_5 : decode cX12_end 5 = .ok (.iload_n 1, 1) := by decide +kernel
theorem dX12_end_6 : decode cX12_end 6 = .ok (.ifCond .lt 11, 3) := by decide +kernel
theorem dX12_end_9 : decode cX12_end 9 = .ok (.iload_n 1, 1) := by decide +kernel
theorem dX12_end_10 : decode cX12_end 10 = .ok (.aload_n 0, 1) := by decide +kernel
theorem dX12_end_11 : decode cX12_end 11 = .ok (.getfield 17, 3) := by decide +kernel
theorem dX12_end_14 : decode cX12_end 14 = .ok (.if_icmp .le 5, 3) := by decide +kernel
theorem dX12_end_17 : decode cX12_end 17 = .ok (.iconst 0, 1) := by decide +kernel
theorem dX12_end_18 : decode cX12_end 18 = .ok (.ireturn, 1) := by decide +kernel
theorem dX12_end_19 : decode cX12_end 19 = .ok (.aload_n 0, 1) := by decide +kernel
theorem dX12_end_20 : decode cX12_end 20 = .ok (.iload_n 1, 1) := by decide +kernel
theorem dX12_end_21 : decode cX12_end 21 = .ok (.putfield 17, 3) := by decide +kernel
theorem dX12_end_24 : decode cX12_end 24 = .ok (.iconst 1, 1) := by decide +kernel
theorem dX12_end_25 : decode cX12_end 25 = .ok (.ireturn, 1) := by decide +kernel
def wr_end (s0 : zS) (a0 : Int) (Q : Int → zS → Prop) : Prop :=
  ((a0 < 0 → Q 0 (zpv s0 0 0)) ∧ (¬ a0 < 0 → ((a0 ≤ (zv s0 2) → Q 1 (zpv (zpv s0 0 0) 2 a0)) ∧ (¬ a0 ≤ (zv s0 2) → Q 0 (zpv s0 0 0)))))
set_option maxHeartbeats 4000000 in
set_option maxRecDepth 100000 in
theorem rm_end (l : Launch) (d : gD) (b : Nat) {t : Nat} {T : Nat → Nat} {F : gM} {s0 : zS} {a0 : Int} (Ra0 : zR a0) {Q : Int → zS → Prop} (hZ : zZ d t T F F s0) (hw : wr_end s0 a0 Q) : gMi l d b yX12_end cX12_end 2 .boolean 0 0 0 F [.ref t, .int (zI a0)] (zPi d t T F Q) := by
  refine gM_of2 rfl (nL := 2) (Nat.le_of_ble_eq_true rfl) ?_
  intro X hX hC; subst hX
  show gG X d b (zQi X d b t T F Q) F 0 0 0 [some (.ref t), some (.int (zI a0))] []
  unfold wr_end at hw
  refine g_aload_n hC dX12_end_0 rfl ?_
  refine g_iconst (v := zI 0) hC dX12_end_1 rfl ?_
  refine zr_put hC hZ fl_X12_7 zb_0 (by decide) (by decide) dX12_end_2 (fun F1 hZ2 => ?_)
  refine g_iload_n hC dX12_end_5 rfl ?_
  refine zr_if_lt (tgt := 17) hC Ra0 dX12_end_6 (by decide) (fun c3 => ?_) (fun c3 => ?_)
  · have h4 := hw.1 c3
    refine g_iconst (v := zI 0) hC dX12_end_17 rfl ?_
    exact zr_zret hC hZ2 (Or.inl rfl) h4 dX12_end_18
  · have h5 := hw.2 c3
    refine g_iload_n hC dX12_end_9 rfl ?_
    refine g_aload_n hC dX12_end_10 rfl ?_
    refine zr_get (e := (zv s0 2)) hC hZ2 fl_X12_17 zb_2 (by decide) rfl dX12_end_11 ?_
    refine zr_icmp_le (tgt := 19) hC Ra0 (hZ.rv 2) dX12_end_14 (by decide) (fun c6 => ?_) (fun c6 => ?_)
    · have h7 := h5.1 c6
      refine g_aload_n hC dX12_end_19 rfl ?_
      refine g_iload_n hC dX12_end_20 rfl ?_
      refine zr_put hC hZ2 fl_X12_17 zb_2 (by decide) Ra0 dX12_end_21 (fun F8 hZ9 => ?_)
      refine g_iconst (v := zI 1) hC dX12_end_24 rfl ?_
      exact zr_zret hC hZ9 (Or.inr rfl) h7 dX12_end_25
    · have h10 := h5.2 c6
      refine g_iconst (v := zI 0) hC dX12_end_17 rfl ?_
      exact zr_zret hC hZ2 (Or.inl rfl) h10 dX12_end_18
theorem dX12_compile_0 : decode cX12_compile 0 = .ok (.aload_n 0, 1) := by decide +kernel
theorem dX12_compile_1 : decode cX12_compile 1 = .ok (.iconst 0, 1) := by decide +kernel
theorem dX12_compile_2 : decode cX12_compile 2 = .ok (.putfield 7, 3) := by decide +kernel
theorem dX12_compile_5 : decode cX12_compile 5 = .ok (.aload_n 0, 1) := by decide +kernel
theorem dX12_compile_6 : decode cX12_compile 6 = .ok (.aload_n 0, 1) := by decide +kernel
theorem dX12_compile_7 : decode cX12_compile 7 = .ok (.getfield 17, 3) := by decide +kernel
theorem dX12_compile_10 : decode cX12_compile 10 = .ok (.putfield 23, 3) := by decide +kernel
theorem dX12_compile_13 : decode cX12_compile 13 = .ok (.aload_n 0, 1) := by decide +kernel
theorem dX12_compile_14 : decode cX12_compile 14 = .ok (.iconst 0, 1) := by decide +kernel
theorem dX12_compile_15 : decode cX12_compile 15 = .ok (.putfield 17, 3) := by decide +kernel
theorem dX12_compile_18 : decode cX12_compile 18 = .ok (.iconst 0, 1) := by decide +kernel
theorem dX12_compile_19 : decode cX12_compile 19 = .ok (.istore_n 1, 1) := by decide +kernel
theorem dX12_compile_20 : decode cX12_compile 20 = .ok (.iload_n 1, 1) := by decide +kernel
theorem dX12_compile_21 : decode cX12_compile 21 = .ok (.aload_n 0, 1) := by decide +kernel
theorem dX12_compile_22 : decode cX12_compile 22 = .ok (.getfield 23, 3) := by decide +kernel
theorem dX12_compile_25 : decode cX12_compile 25 = .ok (.if_icmp .ge 21, 3) := by decide +kernel
theorem dX12_compile_28 : decode cX12_compile 28 = .ok (.aload_n 0, 1) := by decide +kernel
theorem dX12_compile_29 : decode cX12_compile 29 = .ok (.getfield 20, 3) := by decide +kernel
theorem dX12_compile_32 : decode cX12_compile 32 = .ok (.iload_n 1, 1) := by decide +kernel
theorem dX12_compile_33 : decode cX12_compile 33 = .ok (.aload_n 0, 1) := by decide +kernel
theorem dX12_compile_34 : decode cX12_compile 34 = .ok (.getfield 13, 3) := by decide +kernel
theorem dX12_compile_37 : decode cX12_compile 37 = .ok (.iload_n 1, 1) := by decide +kernel
theorem dX12_compile_38 : decode cX12_compile 38 = .ok (.baload, 1) := by decide +kernel
theorem dX12_compile_39 : decode cX12_compile 39 = .ok (.bastore, 1) := by decide +kernel
theorem dX12_compile_40 : decode cX12_compile 40 = .ok (.iinc 1 1, 3) := by decide +kernel
theorem dX12_compile_43 : decode cX12_compile 43 = .ok (.goto (-23), 3) := by decide +kernel
theorem dX12_compile_46 : decode cX12_compile 46 = .ok (.aload_n 0, 1) := by decide +kernel
theorem dX12_compile_47 : decode cX12_compile 47 = .ok (.iconst 0, 1) := by decide +kernel
theorem dX12_compile_48 : decode cX12_compile 48 = .ok (.putfield 333, 3) := by decide +kernel
theorem dX12_compile_51 : decode cX12_compile 51 = .ok (.aload_n 0, 1) := by decide +kernel
theorem dX12_compile_52 : decode cX12_compile 52 = .ok (.iconst 0, 1) := by decide +kernel
theorem dX12_compile_53 : decode cX12_compile 53 = .ok (.putfield 48, 3) := by decide +kernel
theorem dX12_compile_56 : decode cX12_compile 56 = .ok (.aload_n 0, 1) := by decide +kernel
theorem dX12_compile_57 : decode cX12_compile 57 = .ok (.iconst 0, 1) := by decide +kernel
theorem dX12_compile_58 : decode cX12_compile 58 = .ok (.putfield 51, 3) := by decide +kernel
theorem dX12_compile_61 : decode cX12_compile 61 = .ok (.aload_n 0, 1) := by decide +kernel
theorem dX12_compile_62 : decode cX12_compile 62 = .ok (.aload_n 0, 1) := by decide +kernel
theorem dX12_compile_63 : decode cX12_compile 63 = .ok (.invokevirtual 917, 3) := by decide +kernel
theorem dX12_compile_66 : decode cX12_compile 66 = .ok (.putfield 157, 3) := by decide +kernel
theorem dX12_compile_69 : decode cX12_compile 69 = .ok (.aload_n 0, 1) := by decide +kernel
theorem dX12_compile_70 : decode cX12_compile 70 = .ok (.invokevirtual 920, 3) := by decide +kernel
theorem dX12_compile_73 : decode cX12_compile 73 = .ok (.ifCond .ne 85, 3) := by decide +kernel
theorem dX12_compile_76 : decode cX12_compile 76 = .ok (.aload_n 0, 1) := by decide +kernel
theorem dX12_compile_77 : decode cX12_compile 77 = .ok (.getfield 142, 3) := by decide +kernel
theorem dX12_compile_80 : decode cX12_compile 80 = .ok (.aload_n 0, 1) := by decide +kernel
theorem dX12_compile_81 : decode cX12_compile 81 = .ok (.getfield 36, 3) := by decide +kernel
theorem dX12_compile_84 : decode cX12_compile 84 = .ok (.if_icmp .ne 14, 3) := by decide +kernel
theorem dX12_compile_87 : decode cX12_compile 87 = .ok (.aload_n 0, 1) := by decide +kernel
theorem dX12_compile_88 : decode cX12_compile 88 = .ok (.getfield 157, 3) := by decide +kernel
theorem dX12_compile_91 : decode cX12_compile 91 = .ok (.ifCond .lt 7, 3) := by decide +kernel
theorem dX12_compile_94 : decode cX12_compile 94 = .ok (.iconst 1, 1) := by decide +kernel
theorem dX12_compile_95 : decode cX12_compile 95 = .ok (.goto 4, 3) := by decide +kernel
theorem dX12_compile_98 : decode cX12_compile 98 = .ok (.iconst 0, 1) := by decide +kernel
theorem dX12_compile_99 : decode cX12_compile 99 = .ok (.istore_n 1, 1) := by decide +kernel
theorem dX12_compile_100 : decode cX12_compile 100 = .ok (.aload_n 0, 1) := by decide +kernel
theorem dX12_compile_101 : decode cX12_compile 101 = .ok (.iload_n 1, 1) := by decide +kernel
theorem dX12_compile_102 : decode cX12_compile 102 = .ok (.ifCond .eq 7, 3) := by decide +kernel
theorem dX12_compile_105 : decode cX12_compile 105 = .ok (.iconst 1, 1) := by decide +kernel
theorem dX12_compile_106 : decode cX12_compile 106 = .ok (.goto 4, 3) := by decide +kernel
theorem dX12_compile_109 : decode cX12_compile 109 = .ok (.iconst 2, 1) := by decide +kernel
theorem dX12_compile_110 : decode cX12_compile 110 = .ok (.iload_n 1, 1) := by decide +kernel
theorem dX12_compile_111 : decode cX12_compile 111 = .ok (.ifCond .eq 10, 3) := by decide +kernel
theorem dX12_compile_114 : decode cX12_compile 114 = .ok (.aload_n 0, 1) := by decide +kernel
theorem dX12_compile_115 : decode cX12_compile 115 = .ok (.getfield 157, 3) := by decide +kernel
theorem dX12_compile_118 : decode cX12_compile 118 = .ok (.goto 30, 3) := by decide +kernel
theorem dX12_compile_121 : decode cX12_compile 121 = .ok (.aload_n 0, 1) := by decide +kernel
theorem dX12_compile_122 : decode cX12_compile 122 = .ok (.getfield 142, 3) := by decide +kernel
theorem dX12_compile_125 : decode cX12_compile 125 = .ok (.aload_n 0, 1) := by decide +kernel
theorem dX12_compile_126 : decode cX12_compile 126 = .ok (.getfield 36, 3) := by decide +kernel
theorem dX12_compile_129 : decode cX12_compile 129 = .ok (.if_icmp .ne 10, 3) := by decide +kernel
theorem dX12_compile_132 : decode cX12_compile 132 = .ok (.aload_n 0, 1) := by decide +kernel
theorem dX12_compile_133 : decode cX12_compile 133 = .ok (.getfield 23, 3) := by decide +kernel
theorem dX12_compile_136 : decode cX12_compile 136 = .ok (.goto 12, 3) := by decide +kernel
theorem dX12_compile_139 : decode cX12_compile 139 = .ok (.aload_n 0, 1) := by decide +kernel
theorem dX12_compile_140 : decode cX12_compile 140 = .ok (.getfield 42, 3) := by decide +kernel
theorem dX12_compile_143 : decode cX12_compile 143 = .ok (.aload_n 0, 1) := by decide +kernel
theorem dX12_compile_144 : decode cX12_compile 144 = .ok (.getfield 142, 3) := by decide +kernel
theorem dX12_compile_147 : decode cX12_compile 147 = .ok (.iaload, 1) := by decide +kernel
theorem dX12_compile_148 : decode cX12_compile 148 = .ok (.invokevirtual 605, 3) := by decide +kernel
theorem dX12_compile_151 : decode cX12_compile 151 = .ok (.iconst (-1), 1) := by decide +kernel
theorem dX12_compile_152 : decode cX12_compile 152 = .ok (.aload_n 0, 1) := by decide +kernel
theorem dX12_compile_153 : decode cX12_compile 153 = .ok (.getfield 51, 3) := by decide +kernel
theorem dX12_compile_156 : decode cX12_compile 156 = .ok (.isub, 1) := by decide +kernel
theorem dX12_compile_157 : decode cX12_compile 157 = .ok (.ireturn, 1) := by decide +kernel
theorem dX12_compile_158 : decode cX12_compile 158 = .ok (.aload_n 0, 1) := by decide +kernel
theorem dX12_compile_159 : decode cX12_compile 159 = .ok (.invokevirtual 923, 3) := by decide +kernel
theorem dX12_compile_162 : decode cX12_compile 162 = .ok (.aload_n 0, 1) := by decide +kernel
theorem dX12_compile_163 : decode cX12_compile 163 = .ok (.getfield 48, 3) := by decide +kernel
theorem dX12_compile_166 : decode cX12_compile 166 = .ok (.ifCond .eq 10, 3) := by decide +kernel
theorem dX12_compile_169 : decode cX12_compile 169 = .ok (.iconst (-1), 1) := by decide +kernel
theorem dX12_compile_170 : decode cX12_compile 170 = .ok (.aload_n 0, 1) := by decide +kernel
theorem dX12_compile_171 : decode cX12_compile 171 = .ok (.getfield 51, 3) := by decide +kernel
theorem dX12_compile_174 : decode cX12_compile 174 = .ok (.isub, 1) := by decide +kernel
theorem dX12_compile_175 : decode cX12_compile 175 = .ok (.ireturn, 1) := by decide +kernel
theorem dX12_compile_176 : decode cX12_compile 176 = .ok (.aload_n 0, 1) := by decide +kernel
theorem dX12_compile_177 : decode cX12_compile 177 = .ok (.iconst 1, 1) := by decide +kernel
theorem dX12_compile_178 : decode cX12_compile 178 = .ok (.putfield 333, 3) := by decide +kernel
theorem dX12_compile_181 : decode cX12_compile 181 = .ok (.aload_n 0, 1) := by decide +kernel
theorem dX12_compile_182 : decode cX12_compile 182 = .ok (.aload_n 0, 1) := by decide +kernel
theorem dX12_compile_183 : decode cX12_compile 183 = .ok (.getfield 318, 3) := by decide +kernel
theorem dX12_compile_186 : decode cX12_compile 186 = .ok (.putfield 315, 3) := by decide +kernel
theorem dX12_compile_189 : decode cX12_compile 189 = .ok (.aload_n 0, 1) := by decide +kernel
theorem dX12_compile_190 : decode cX12_compile 190 = .ok (.getfield 258, 3) := by decide +kernel
theorem dX12_compile_193 : decode cX12_compile 193 = .ok (.ireturn, 1) := by decide +kernel
def wr_compile_110 (Q : Int → zS → Prop)  (s0 : zS) (x1 : Int) (y0 : Int) : Prop :=
  ((x1 = 0 → ((¬ (zv s0 43) = (zv s0 8) → (0 ≤ (zv s0 43)) ∧ ((zv s0 43) < 12100) ∧ wr_fault s0 y0 (za s0 10 (Int.toNat (zv s0 43))) (fun s10 => ∀ z15 : Int, z15 = zw ((-1) - (zv s10 13)) → zR z15 → Q z15 s10)) ∧ ((zv s0 43) = (zv s0 8) → wr_fault s0 y0 (zv s0 4) (fun s21 => ∀ z26 : Int, z26 = zw ((-1) - (zv s21 13)) → zR z26 → Q z26 s21)))) ∧ (¬ x1 = 0 → wr_fault s0 y0 (zv s0 48) (fun s32 => ∀ z37 : Int, z37 = zw ((-1) - (zv s32 13)) → zR z37 → Q z37 s32)))
def wr_compile_20B (Q : Int → zS → Prop) (k20 : zS → Int → Prop) (s0 : zS) (x1 : Int) : Prop :=
  (((zv s0 4) ≤ x1 → wr_scan (zpv (zpv (zpv s0 105 0) 12 0) 13 0)  (fun r9 s10 => wr_parse (zpv s10 48 r9)  (fun r17 s18 => ((¬ r17 = 0 → wr_check s18  (fun s26 => (((zv s26 12) = 0 → Q (zv s26 81) (zpv (zpv s26 105 1) 99 (zv s26 100))) ∧ (¬ (zv s26 12) = 0 → ∀ z38 : Int, z38 = zw ((-1) - (zv s26 13)) → zR z38 → Q z38 s26)))) ∧ (r17 = 0 → ((¬ (zv s18 43) = (zv s18 8) → wr_compile_110 Q  s18 0 2) ∧ ((zv s18 43) = (zv s18 8) → (((zv s18 48) < 0 → wr_compile_110 Q  s18 0 2) ∧ (¬ (zv s18 48) < 0 → wr_compile_110 Q  s18 1 1))))))))) ∧ (¬ (zv s0 4) ≤ x1 → (0 ≤ x1) ∧ (x1 < 6000) ∧ (0 ≤ x1) ∧ (x1 < 6000) ∧ (zR (x1 + 1)) ∧ k20 (zpa s0 3 (Int.toNat x1) (znb (za s0 1 (Int.toNat x1)))) (x1 + 1)))
def wr_compile_20 (Q : Int → zS → Prop)  : Nat → zS → Int → Prop
  | 0 => fun _ _ => False
  | m + 1 => fun s0 x1 => wr_compile_20B Q  (wr_compile_20 Q  m) s0 x1
def wr_compile (s0 : zS)  (Q : Int → zS → Prop) : Prop :=
  ∃ n, wr_compile_20 Q  n (zpv (zpv (zpv s0 0 0) 4 (zv s0 2)) 2 0) 0
set_option maxHeartbeats 4000000 in
set_option maxRecDepth 100000 in
theorem rj_compile_110 {X : gX} {d : gD} {b t : Nat} {T : Nat → Nat} {F0 : gM} (hC : gC RX12 cX12_compile 2 (some .int) "compile" (gR 7 0 0) d b X) {Q : Int → zS → Prop}   {F : gM} {s0 : zS} {x1 : Int} {y0 : Int} (Rx1 : zR x1) (Ry0 : zR y0) (hZ : zZ d t T F0 F s0) (hw : wr_compile_110 Q  s0 x1 y0) : gG X d b (zQi X d b t T F0 Q) F 0 0 110 [some (.ref t), some (.int (zI x1))] [.int (zI y0), .ref t] := by
  unfold wr_compile_110 at hw
  refine g_iload_n hC dX12_compile_110 rfl ?_
  refine zr_if_eq (tgt := 121) hC Rx1 dX12_compile_111 (by decide) (fun c1 => ?_) (fun c1 => ?_)
  · have h2 := hw.1 c1
    refine g_aload_n hC dX12_compile_121 rfl ?_
    refine zr_get (e := (zv s0 43)) hC hZ fl_X12_142 zb_43 (by decide) rfl dX12_compile_122 ?_
    refine g_aload_n hC dX12_compile_125 rfl ?_
    refine zr_get (e := (zv s0 8)) hC hZ fl_X12_36 zb_8 (by decide) rfl dX12_compile_126 ?_
    refine zr_icmp_ne (tgt := 139) hC (hZ.rv 43) (hZ.rv 8) dX12_compile_129 (by decide) (fun c3 => ?_) (fun c3 => ?_)
    · have h4 := h2.1 c3
      refine g_aload_n hC dX12_compile_139 rfl ?_
      refine zr_geta hC hZ fl_X12_42 zb_10 (by decide) dX12_compile_140 ?_
      refine g_aload_n hC dX12_compile_143 rfl ?_
      refine zr_get (e := (zv s0 43)) hC hZ fl_X12_142 zb_43 (by decide) rfl dX12_compile_144 ?_
      obtain ⟨o5, h6⟩ := h4
      obtain ⟨o7, h8⟩ := h6
      refine zr_iald (v := (za s0 10 (Int.toNat (zv s0 43)))) hC hZ zk_10 zb_10 zn_10 (by decide) o5 o7 rfl dX12_compile_147 ?_
      refine zr_callVv (As := [.int (zI y0), .int (zI (za s0 10 (Int.toNat (zv s0 43))))]) hC hZ rfl (rm_fault X.la d b Ry0 (hZ.ra 10 _) hZ.rf h8) cl_X12_605 rfl rfl (Nat.le_of_ble_eq_true rfl) ⟨Nat.le_of_ble_eq_true rfl, Nat.le_of_ble_eq_true rfl⟩ dX12_compile_148 (fun s10 F11 hZ13 h14 => ?_)
      refine g_iconst (v := zI (-1)) hC dX12_compile_151 rfl ?_
      refine g_aload_n hC dX12_compile_152 rfl ?_
      refine zr_get (e := (zv s10 13)) hC hZ13 fl_X12_51 zb_13 (by decide) rfl dX12_compile_153 ?_
      refine zr_isub hC dX12_compile_156 ?_
      refine zr_w (fun z15 e16 R17 => ?_)
      have h18 := h14 z15 e16 R17
      exact zr_iret hC hZ13 R17 h18 dX12_compile_157
    · have h19 := h2.2 c3
      refine g_aload_n hC dX12_compile_132 rfl ?_
      refine zr_get (e := (zv s0 4)) hC hZ fl_X12_23 zb_4 (by decide) rfl dX12_compile_133 ?_
      refine g_goto (tgt := 148) hC dX12_compile_136 (by decide) ?_
      refine zr_callVv (As := [.int (zI y0), .int (zI (zv s0 4))]) hC hZ rfl (rm_fault X.la d b Ry0 (hZ.rv 4) hZ.rf h19) cl_X12_605 rfl rfl (Nat.le_of_ble_eq_true rfl) ⟨Nat.le_of_ble_eq_true rfl, Nat.le_of_ble_eq_true rfl⟩ dX12_compile_148 (fun s21 F22 hZ24 h25 => ?_)
      refine g_iconst (v := zI (-1)) hC dX12_compile_151 rfl ?_
      refine g_aload_n hC dX12_compile_152 rfl ?_
      refine zr_get (e := (zv s21 13)) hC hZ24 fl_X12_51 zb_13 (by decide) rfl dX12_compile_153 ?_
      refine zr_isub hC dX12_compile_156 ?_
      refine zr_w (fun z26 e27 R28 => ?_)
      have h29 := h25 z26 e27 R28
      exact zr_iret hC hZ24 R28 h29 dX12_compile_157
  · have h30 := hw.2 c1
    refine g_aload_n hC dX12_compile_114 rfl ?_
    refine zr_get (e := (zv s0 48)) hC hZ fl_X12_157 zb_48 (by decide) rfl dX12_compile_115 ?_
    refine g_goto (tgt := 148) hC dX12_compile_118 (by decide) ?_
    refine zr_callVv (As := [.int (zI y0), .int (zI (zv s0 48))]) hC hZ rfl (rm_fault X.la d b Ry0 (hZ.rv 48) hZ.rf h30) cl_X12_605 rfl rfl (Nat.le_of_ble_eq_true rfl) ⟨Nat.le_of_ble_eq_true rfl, Nat.le_of_ble_eq_true rfl⟩ dX12_compile_148 (fun s32 F33 hZ35 h36 => ?_)
    refine g_iconst (v := zI (-1)) hC dX12_compile_151 rfl ?_
    refine g_aload_n hC dX12_compile_152 rfl ?_
    refine zr_get (e := (zv s32 13)) hC hZ35 fl_X12_51 zb_13 (by decide) rfl dX12_compile_153 ?_
    refine zr_isub hC dX12_compile_156 ?_
    refine zr_w (fun z37 e38 R39 => ?_)
    have h40 := h36 z37 e38 R39
    exact zr_iret hC hZ35 R39 h40 dX12_compile_157
set_option maxHeartbeats 4000000 in
set_option maxRecDepth 100000 in
theorem rb_compile_20 {X : gX} {d : gD} {b t : Nat} {T : Nat → Nat} {F0 : gM} (hC : gC RX12 cX12_compile 2 (some .int) "compile" (gR 7 0 0) d b X) {Q : Int → zS → Prop} {k20 : zS → Int → Prop} (hk20 : ∀ (F : gM) (s0 : zS) (x1 : Int), zR x1 → zZ d t T F0 F s0 → k20 s0 x1 → gG X d b (zQi X d b t T F0 Q) F 0 0 20 [some (.ref t), some (.int (zI x1))] []) {F : gM} {s0 : zS} {x1 : Int} (Rx1 : zR x1) (hZ : zZ d t T F0 F s0) (hw : wr_compile_20B Q k20 s0 x1) : gG X d b (zQi X d b t T F0 Q) F 0 0 20 [some (.ref t), some (.int (zI x1))] [] := by
  unfold wr_compile_20B at hw
  refine g_iload_n hC dX12_compile_20 rfl ?_
  refine g_aload_n hC dX12_compile_21 rfl ?_
  refine zr_get (e := (zv s0 4)) hC hZ fl_X12_23 zb_4 (by decide) rfl dX12_compile_22 ?_
  refine zr_icmp_ge (tgt := 46) hC Rx1 (hZ.rv 4) dX12_compile_25 (by decide) (fun c1 => ?_) (fun c1 => ?_)
  · have h2 := hw.1 c1
    refine g_aload_n hC dX12_compile_46 rfl ?_
    refine g_iconst (v := zI 0) hC dX12_compile_47 rfl ?_
    refine zr_putZ hC hZ fl_X12_333 zb_105 (by decide) (Or.inl rfl) dX12_compile_48 (fun F3 hZ4 => ?_)
    refine g_aload_n hC dX12_compile_51 rfl ?_
    refine g_iconst (v := zI 0) hC dX12_compile_52 rfl ?_
    refine zr_put hC hZ4 fl_X12_48 zb_12 (by decide) (by decide) dX12_compile_53 (fun F5 hZ6 => ?_)
    refine g_aload_n hC dX12_compile_56 rfl ?_
    refine g_iconst (v := zI 0) hC dX12_compile_57 rfl ?_
    refine zr_put hC hZ6 fl_X12_51 zb_13 (by decide) (by decide) dX12_compile_58 (fun F7 hZ8 => ?_)
    refine g_aload_n hC dX12_compile_61 rfl ?_
    refine g_aload_n hC dX12_compile_62 rfl ?_
    refine zr_callVi (As := []) hC hZ8 rfl (rm_scan X.la d b  hZ8.rf h2) cl_X12_917 rfl rfl (Nat.le_of_ble_eq_true rfl) ⟨Nat.le_of_ble_eq_true rfl, Nat.le_of_ble_eq_true rfl⟩ dX12_compile_63 (fun r9 s10 F11 R12 hZ13 h14 => ?_)
    refine zr_put hC hZ13 fl_X12_157 zb_48 (by decide) R12 dX12_compile_66 (fun F15 hZ16 => ?_)
    refine g_aload_n hC dX12_compile_69 rfl ?_
    refine zr_callVi (As := []) hC hZ16 rfl (rm_parse X.la d b  hZ16.rf h14) cl_X12_920 rfl rfl (Nat.le_of_ble_eq_true rfl) ⟨Nat.le_of_ble_eq_true rfl, Nat.le_of_ble_eq_true rfl⟩ dX12_compile_70 (fun r17 s18 F19 R20 hZ21 h22 => ?_)
    refine zr_if_ne (tgt := 158) hC R20 dX12_compile_73 (by decide) (fun c23 => ?_) (fun c23 => ?_)
    · have h24 := h22.1 c23
      refine g_aload_n hC dX12_compile_158 rfl ?_
      refine zr_callVv (As := []) hC hZ21 rfl (rm_check X.la d b  hZ21.rf h24) cl_X12_923 rfl rfl (Nat.le_of_ble_eq_true rfl) ⟨Nat.le_of_ble_eq_true rfl, Nat.le_of_ble_eq_true rfl⟩ dX12_compile_159 (fun s26 F27 hZ29 h30 => ?_)
      refine g_aload_n hC dX12_compile_162 rfl ?_
      refine zr_get (e := (zv s26 12)) hC hZ29 fl_X12_48 zb_12 (by decide) rfl dX12_compile_163 ?_
      refine zr_if_eq (tgt := 176) hC (hZ29.rv 12) dX12_compile_166 (by decide) (fun c31 => ?_) (fun c31 => ?_)
      · have h32 := h30.1 c31
        refine g_aload_n hC dX12_compile_176 rfl ?_
        refine g_iconst (v := zI 1) hC dX12_compile_177 rfl ?_
        refine zr_putZ hC hZ29 fl_X12_333 zb_105 (by decide) (Or.inr rfl) dX12_compile_178 (fun F33 hZ34 => ?_)
        refine g_aload_n hC dX12_compile_181 rfl ?_
        refine g_aload_n hC dX12_compile_182 rfl ?_
        refine zr_get (e := (zv s26 100)) hC hZ34 fl_X12_318 zb_100 (by decide) rfl dX12_compile_183 ?_
        refine zr_put hC hZ34 fl_X12_315 zb_99 (by decide) (hZ29.rv 100) dX12_compile_186 (fun F35 hZ36 => ?_)
        refine g_aload_n hC dX12_compile_189 rfl ?_
        refine zr_get (e := (zv s26 81)) hC hZ36 fl_X12_258 zb_81 (by decide) rfl dX12_compile_190 ?_
        exact zr_iret hC hZ36 (hZ29.rv 81) h32 dX12_compile_193
      · have h37 := h30.2 c31
        refine g_iconst (v := zI (-1)) hC dX12_compile_169 rfl ?_
        refine g_aload_n hC dX12_compile_170 rfl ?_
        refine zr_get (e := (zv s26 13)) hC hZ29 fl_X12_51 zb_13 (by decide) rfl dX12_compile_171 ?_
        refine zr_isub hC dX12_compile_174 ?_
        refine zr_w (fun z38 e39 R40 => ?_)
        have h41 := h37 z38 e39 R40
        exact zr_iret hC hZ29 R40 h41 dX12_compile_175
    · have h42 := h22.2 c23
      refine g_aload_n hC dX12_compile_76 rfl ?_
      refine zr_get (e := (zv s18 43)) hC hZ21 fl_X12_142 zb_43 (by decide) rfl dX12_compile_77 ?_
      refine g_aload_n hC dX12_compile_80 rfl ?_
      refine zr_get (e := (zv s18 8)) hC hZ21 fl_X12_36 zb_8 (by decide) rfl dX12_compile_81 ?_
      refine zr_icmp_ne (tgt := 98) hC (hZ21.rv 43) (hZ21.rv 8) dX12_compile_84 (by decide) (fun c43 => ?_) (fun c43 => ?_)
      · have h44 := h42.1 c43
        refine g_iconst (v := zI 0) hC dX12_compile_98 rfl ?_
        refine g_istore_n (lv' := [some (.ref t), some (.int (zI 0))]) hC dX12_compile_99 (Nat.le_of_ble_eq_true rfl) rfl rfl ?_
        refine g_aload_n hC dX12_compile_100 rfl ?_
        refine g_iload_n hC dX12_compile_101 rfl ?_
        refine zr_if_eq (tgt := 109) hC (by decide) dX12_compile_102 (by decide) (fun c45 => ?_) (fun c45 => ?_)
        · refine g_iconst (v := zI 2) hC dX12_compile_109 rfl ?_
          exact rj_compile_110 hC  (by decide) (by decide) hZ21 h44
        · exact absurd (by decide) c45
      · have h46 := h42.2 c43
        refine g_aload_n hC dX12_compile_87 rfl ?_
        refine zr_get (e := (zv s18 48)) hC hZ21 fl_X12_157 zb_48 (by decide) rfl dX12_compile_88 ?_
        refine zr_if_lt (tgt := 98) hC (hZ21.rv 48) dX12_compile_91 (by decide) (fun c47 => ?_) (fun c47 => ?_)
        · have h48 := h46.1 c47
          refine g_iconst (v := zI 0) hC dX12_compile_98 rfl ?_
          refine g_istore_n (lv' := [some (.ref t), some (.int (zI 0))]) hC dX12_compile_99 (Nat.le_of_ble_eq_true rfl) rfl rfl ?_
          refine g_aload_n hC dX12_compile_100 rfl ?_
          refine g_iload_n hC dX12_compile_101 rfl ?_
          refine zr_if_eq (tgt := 109) hC (by decide) dX12_compile_102 (by decide) (fun c49 => ?_) (fun c49 => ?_)
          · refine g_iconst (v := zI 2) hC dX12_compile_109 rfl ?_
            exact rj_compile_110 hC  (by decide) (by decide) hZ21 h48
          · exact absurd (by decide) c49
        · have h50 := h46.2 c47
          refine g_iconst (v := zI 1) hC dX12_compile_94 rfl ?_
          refine g_goto (tgt := 99) hC dX12_compile_95 (by decide) ?_
          refine g_istore_n (lv' := [some (.ref t), some (.int (zI 1))]) hC dX12_compile_99 (Nat.le_of_ble_eq_true rfl) rfl rfl ?_
          refine g_aload_n hC dX12_compile_100 rfl ?_
          refine g_iload_n hC dX12_compile_101 rfl ?_
          refine zr_if_eq (tgt := 109) hC (by decide) dX12_compile_102 (by decide) (fun c51 => ?_) (fun c51 => ?_)
          · exact absurd c51 (by decide)
          · refine g_iconst (v := zI 1) hC dX12_compile_105 rfl ?_
            refine g_goto (tgt := 110) hC dX12_compile_106 (by decide) ?_
            exact rj_compile_110 hC  (by decide) (by decide) hZ21 h50
  · have h52 := hw.2 c1
    refine g_aload_n hC dX12_compile_28 rfl ?_
    refine zr_geta hC hZ fl_X12_20 zb_3 (by decide) dX12_compile_29 ?_
    refine g_iload_n hC dX12_compile_32 rfl ?_
    refine g_aload_n hC dX12_compile_33 rfl ?_
    refine zr_geta hC hZ fl_X12_13 zb_1 (by decide) dX12_compile_34 ?_
    refine g_iload_n hC dX12_compile_37 rfl ?_
    obtain ⟨o53, h54⟩ := h52
    obtain ⟨o55, h56⟩ := h54
    refine zr_bald (v := (za s0 1 (Int.toNat x1))) hC hZ zk_1 zb_1 zn_1 (by decide) o53 o55 rfl dX12_compile_38 ?_
    obtain ⟨o57, h58⟩ := h56
    obtain ⟨o59, h60⟩ := h58
    refine zr_bast hC hZ zk_3 zb_3 zn_3 (by decide) o57 o59  dX12_compile_39 (fun F61 hZ62 => ?_)
    refine zr_iinc (x := x1) (lv' := [some (.ref t), some (.int (zI (x1 + 1)))]) hC dX12_compile_40 rfl rfl rfl ?_
    refine g_goto (tgt := 20) hC dX12_compile_43 (by decide) ?_
    obtain ⟨o63, h64⟩ := h60
    exact hk20 _ _ _ o63 hZ62 h64
theorem rl_compile_20 {X : gX} {d : gD} {b t : Nat} {T : Nat → Nat} {F0 : gM} (hC : gC RX12 cX12_compile 2 (some .int) "compile" (gR 7 0 0) d b X) {Q : Int → zS → Prop}   : ∀ (m : Nat) (F : gM) (s0 : zS) (x1 : Int), zR x1 → zZ d t T F0 F s0 → wr_compile_20 Q  m s0 x1 → gG X d b (zQi X d b t T F0 Q) F 0 0 20 [some (.ref t), some (.int (zI x1))] [] := by
  intro m
  induction m with
  | zero => intro F s0 x1 Rx1 hZ hw; exact False.elim hw
  | succ m ih => intro F s0 x1 Rx1 hZ hw; exact rb_compile_20 hC  ih Rx1 hZ hw
set_option maxHeartbeats 4000000 in
set_option maxRecDepth 100000 in
theorem rm_compile (l : Launch) (d : gD) (b : Nat) {t : Nat} {T : Nat → Nat} {F : gM} {s0 : zS}   {Q : Int → zS → Prop} (hZ : zZ d t T F F s0) (hw : wr_compile s0  Q) : gMi l d b yX12_compile cX12_compile 2 .int 7 0 0 F [.ref t] (zPi d t T F Q) := by
  refine gM_of2 rfl (nL := 2) (Nat.le_of_ble_eq_true rfl) ?_
  intro X hX hC; subst hX
  show gG X d b (zQi X d b t T F Q) F 0 0 0 [some (.ref t), none] []
  unfold wr_compile at hw
  refine g_aload_n hC dX12_compile_0 rfl ?_
  refine g_iconst (v := zI 0) hC dX12_compile_1 rfl ?_
  refine zr_put hC hZ fl_X12_7 zb_0 (by decide) (by decide) dX12_compile_2 (fun F1 hZ2 => ?_)
  refine g_aload_n hC dX12_compile_5 rfl ?_
  refine g_aload_n hC dX12_compile_6 rfl ?_
  refine zr_get (e := (zv s0 2)) hC hZ2 fl_X12_17 zb_2 (by decide) rfl dX12_compile_7 ?_
  refine zr_put hC hZ2 fl_X12_23 zb_4 (by decide) (hZ.rv 2) dX12_compile_10 (fun F3 hZ4 => ?_)
  refine g_aload_n hC dX12_compile_13 rfl ?_
  refine g_iconst (v := zI 0) hC dX12_compile_14 rfl ?_
  refine zr_put hC hZ4 fl_X12_17 zb_2 (by decide) (by decide) dX12_compile_15 (fun F5 hZ6 => ?_)
  refine g_iconst (v := zI 0) hC dX12_compile_18 rfl ?_
  refine g_istore_n (lv' := [some (.ref t), some (.int (zI 0))]) hC dX12_compile_19 (Nat.le_of_ble_eq_true rfl) rfl rfl ?_
  obtain ⟨m7, h8⟩ := hw
  exact rl_compile_20 hC  m7 _ _ _ (by decide) hZ6 h8
theorem dX12_fault__0 : decode cX12_fault_ 0 = .ok (.aload_n 0, 1) := by decide +kernel
theorem dX12_fault__1 : decode cX12_fault_ 1 = .ok (.iconst 0, 1) := by decide +kernel
theorem dX12_fault__2 : decode cX12_fault_ 2 = .ok (.putfield 7, 3) := by decide +kernel
theorem dX12_fault__5 : decode cX12_fault_ 5 = .ok (.aload_n 0, 1) := by decide +kernel
theorem dX12_fault__6 : decode cX12_fault_ 6 = .ok (.getfield 48, 3) := by decide +kernel
theorem dX12_fault__9 : decode cX12_fault_ 9 = .ok (.ireturn, 1) := by decide +kernel
def wr_fault_ (s0 : zS)  (Q : Int → zS → Prop) : Prop :=
  Q (zv s0 12) (zpv s0 0 0)
set_option maxHeartbeats 4000000 in
set_option maxRecDepth 100000 in
theorem rm_fault_ (l : Launch) (d : gD) (b : Nat) {t : Nat} {T : Nat → Nat} {F : gM} {s0 : zS}   {Q : Int → zS → Prop} (hZ : zZ d t T F F s0) (hw : wr_fault_ s0  Q) : gMi l d b yX12_fault_ cX12_fault_ 1 .int 0 0 0 F [.ref t] (zPi d t T F Q) := by
  refine gM_of2 rfl (nL := 1) (Nat.le_of_ble_eq_true rfl) ?_
  intro X hX hC; subst hX
  show gG X d b (zQi X d b t T F Q) F 0 0 0 [some (.ref t)] []
  unfold wr_fault_ at hw
  refine g_aload_n hC dX12_fault__0 rfl ?_
  refine g_iconst (v := zI 0) hC dX12_fault__1 rfl ?_
  refine zr_put hC hZ fl_X12_7 zb_0 (by decide) (by decide) dX12_fault__2 (fun F1 hZ2 => ?_)
  refine g_aload_n hC dX12_fault__5 rfl ?_
  refine zr_get (e := (zv s0 12)) hC hZ2 fl_X12_48 zb_12 (by decide) rfl dX12_fault__6 ?_
  exact zr_iret hC hZ2 (hZ.rv 12) hw dX12_fault__9
theorem dX12_store_0 : decode cX12_store 0 = .ok (.aload_n 0, 1) := by decide +kernel
theorem dX12_store_1 : decode cX12_store 1 = .ok (.iconst 0, 1) := by decide +kernel
theorem dX12_store_2 : decode cX12_store 2 = .ok (.putfield 7, 3) := by decide +kernel
theorem dX12_store_5 : decode cX12_store 5 = .ok (.iload_n 1, 1) := by decide +kernel
theorem dX12_store_6 : decode cX12_store 6 = .ok (.sipush 4096, 3) := by decide +kernel
theorem dX12_store_9 : decode cX12_store 9 = .ok (.if_icmp .eq 33, 3) := by decide +kernel
theorem dX12_store_12 : decode cX12_store 12 = .ok (.iload_n 1, 1) := by decide +kernel
theorem dX12_store_13 : decode cX12_store 13 = .ok (.sipush 8192, 3) := by decide +kernel
theorem dX12_store_16 : decode cX12_store 16 = .ok (.if_icmp .eq 26, 3) := by decide +kernel
theorem dX12_store_19 : decode cX12_store 19 = .ok (.iload_n 1, 1) := by decide +kernel
theorem dX12_store_20 : decode cX12_store 20 = .ok (.sipush 16384, 3) := by decide +kernel
theorem dX12_store_23 : decode cX12_store 23 = .ok (.if_icmp .eq 19, 3) := by decide +kernel
theorem dX12_store_26 : decode cX12_store 26 = .ok (.iload_n 1, 1) := by decide +kernel
theorem dX12_store_27 : decode cX12_store 27 = .ok (.ldc_w 926, 3) := by decide +kernel
theorem dX12_store_30 : decode cX12_store 30 = .ok (.if_icmp .eq 12, 3) := by decide +kernel
theorem dX12_store_33 : decode cX12_store 33 = .ok (.iload_n 1, 1) := by decide +kernel
theorem dX12_store_34 : decode cX12_store 34 = .ok (.ldc_w 311, 3) := by decide +kernel
theorem dX12_store_37 : decode cX12_store 37 = .ok (.if_icmp .eq 5, 3) := by decide +kernel
theorem dX12_store_40 : decode cX12_store 40 = .ok (.iconst 0, 1) := by decide +kernel
theorem dX12_store_41 : decode cX12_store 41 = .ok (.ireturn, 1) := by decide +kernel
theorem dX12_store_42 : decode cX12_store 42 = .ok (.aload_n 0, 1) := by decide +kernel
theorem dX12_store_43 : decode cX12_store 43 = .ok (.iload_n 1, 1) := by decide +kernel
theorem dX12_store_44 : decode cX12_store 44 = .ok (.putfield 318, 3) := by decide +kernel
theorem dX12_store_47 : decode cX12_store 47 = .ok (.iconst 1, 1) := by decide +kernel
theorem dX12_store_48 : decode cX12_store 48 = .ok (.ireturn, 1) := by decide +kernel
def wr_store (s0 : zS) (a0 : Int) (Q : Int → zS → Prop) : Prop :=
  ((a0 = 4096 → Q 1 (zpv (zpv s0 0 0) 100 a0)) ∧ (¬ a0 = 4096 → ((a0 = 8192 → Q 1 (zpv (zpv s0 0 0) 100 a0)) ∧ (¬ a0 = 8192 → ((a0 = 16384 → Q 1 (zpv (zpv s0 0 0) 100 a0)) ∧ (¬ a0 = 16384 → ((a0 = 32768 → Q 1 (zpv (zpv s0 0 0) 100 a0)) ∧ (¬ a0 = 32768 → ((a0 = 65536 → Q 1 (zpv (zpv s0 0 0) 100 a0)) ∧ (¬ a0 = 65536 → Q 0 (zpv s0 0 0)))))))))))
set_option maxHeartbeats 4000000 in
set_option maxRecDepth 100000 in
theorem rm_store (l : Launch) (d : gD) (b : Nat) {t : Nat} {T : Nat → Nat} {F : gM} {s0 : zS} {a0 : Int} (Ra0 : zR a0) {Q : Int → zS → Prop} (hZ : zZ d t T F F s0) (hw : wr_store s0 a0 Q) : gMi l d b yX12_store cX12_store 2 .boolean 0 0 0 F [.ref t, .int (zI a0)] (zPi d t T F Q) := by
  refine gM_of2 rfl (nL := 2) (Nat.le_of_ble_eq_true rfl) ?_
  intro X hX hC; subst hX
  show gG X d b (zQi X d b t T F Q) F 0 0 0 [some (.ref t), some (.int (zI a0))] []
  unfold wr_store at hw
  refine g_aload_n hC dX12_store_0 rfl ?_
  refine g_iconst (v := zI 0) hC dX12_store_1 rfl ?_
  refine zr_put hC hZ fl_X12_7 zb_0 (by decide) (by decide) dX12_store_2 (fun F1 hZ2 => ?_)
  refine g_iload_n hC dX12_store_5 rfl ?_
  refine g_sipush (v := zI 4096) hC dX12_store_6 rfl ?_
  refine zr_icmp_eq (tgt := 42) hC Ra0 (by decide) dX12_store_9 (by decide) (fun c3 => ?_) (fun c3 => ?_)
  · have h4 := hw.1 c3
    refine g_aload_n hC dX12_store_42 rfl ?_
    refine g_iload_n hC dX12_store_43 rfl ?_
    refine zr_put hC hZ2 fl_X12_318 zb_100 (by decide) Ra0 dX12_store_44 (fun F5 hZ6 => ?_)
    refine g_iconst (v := zI 1) hC dX12_store_47 rfl ?_
    exact zr_zret hC hZ6 (Or.inr rfl) h4 dX12_store_48
  · have h7 := hw.2 c3
    refine g_iload_n hC dX12_store_12 rfl ?_
    refine g_sipush (v := zI 8192) hC dX12_store_13 rfl ?_
    refine zr_icmp_eq (tgt := 42) hC Ra0 (by decide) dX12_store_16 (by decide) (fun c8 => ?_) (fun c8 => ?_)
    · have h9 := h7.1 c8
      refine g_aload_n hC dX12_store_42 rfl ?_
      refine g_iload_n hC dX12_store_43 rfl ?_
      refine zr_put hC hZ2 fl_X12_318 zb_100 (by decide) Ra0 dX12_store_44 (fun F10 hZ11 => ?_)
      refine g_iconst (v := zI 1) hC dX12_store_47 rfl ?_
      exact zr_zret hC hZ11 (Or.inr rfl) h9 dX12_store_48
    · have h12 := h7.2 c8
      refine g_iload_n hC dX12_store_19 rfl ?_
      refine g_sipush (v := zI 16384) hC dX12_store_20 rfl ?_
      refine zr_icmp_eq (tgt := 42) hC Ra0 (by decide) dX12_store_23 (by decide) (fun c13 => ?_) (fun c13 => ?_)
      · have h14 := h12.1 c13
        refine g_aload_n hC dX12_store_42 rfl ?_
        refine g_iload_n hC dX12_store_43 rfl ?_
        refine zr_put hC hZ2 fl_X12_318 zb_100 (by decide) Ra0 dX12_store_44 (fun F15 hZ16 => ?_)
        refine g_iconst (v := zI 1) hC dX12_store_47 rfl ?_
        exact zr_zret hC hZ16 (Or.inr rfl) h14 dX12_store_48
      · have h17 := h12.2 c13
        refine g_iload_n hC dX12_store_26 rfl ?_
        refine zr_ldcw (e := 32768) hC dX12_store_27 kw_2745 (by decide) ?_
        refine zr_icmp_eq (tgt := 42) hC Ra0 (by decide) dX12_store_30 (by decide) (fun c18 => ?_) (fun c18 => ?_)
        · have h19 := h17.1 c18
          refine g_aload_n hC dX12_store_42 rfl ?_
          refine g_iload_n hC dX12_store_43 rfl ?_
          refine zr_put hC hZ2 fl_X12_318 zb_100 (by decide) Ra0 dX12_store_44 (fun F20 hZ21 => ?_)
          refine g_iconst (v := zI 1) hC dX12_store_47 rfl ?_
          exact zr_zret hC hZ21 (Or.inr rfl) h19 dX12_store_48
        · have h22 := h17.2 c18
          refine g_iload_n hC dX12_store_33 rfl ?_
          refine zr_ldcw (e := 65536) hC dX12_store_34 kw_1955 (by decide) ?_
          refine zr_icmp_eq (tgt := 42) hC Ra0 (by decide) dX12_store_37 (by decide) (fun c23 => ?_) (fun c23 => ?_)
          · have h24 := h22.1 c23
            refine g_aload_n hC dX12_store_42 rfl ?_
            refine g_iload_n hC dX12_store_43 rfl ?_
            refine zr_put hC hZ2 fl_X12_318 zb_100 (by decide) Ra0 dX12_store_44 (fun F25 hZ26 => ?_)
            refine g_iconst (v := zI 1) hC dX12_store_47 rfl ?_
            exact zr_zret hC hZ26 (Or.inr rfl) h24 dX12_store_48
          · have h27 := h22.2 c23
            refine g_iconst (v := zI 0) hC dX12_store_40 rfl ?_
            exact zr_zret hC hZ2 (Or.inl rfl) h27 dX12_store_41
theorem dX12_input_0 : decode cX12_input 0 = .ok (.aload_n 0, 1) := by decide +kernel
theorem dX12_input_1 : decode cX12_input 1 = .ok (.iconst 0, 1) := by decide +kernel
theorem dX12_input_2 : decode cX12_input 2 = .ok (.putfield 7, 3) := by decide +kernel
theorem dX12_input_5 : decode cX12_input 5 = .ok (.aload_n 0, 1) := by decide +kernel
theorem dX12_input_6 : decode cX12_input 6 = .ok (.getfield 17, 3) := by decide +kernel
theorem dX12_input_9 : decode cX12_input 9 = .ok (.istore_n 2, 1) := by decide +kernel
theorem dX12_input_10 : decode cX12_input 10 = .ok (.aload_n 0, 1) := by decide +kernel
theorem dX12_input_11 : decode cX12_input 11 = .ok (.iconst 0, 1) := by decide +kernel
theorem dX12_input_12 : decode cX12_input 12 = .ok (.putfield 17, 3) := by decide +kernel
theorem dX12_input_15 : decode cX12_input 15 = .ok (.iload_n 1, 1) := by decide +kernel
theorem dX12_input_16 : decode cX12_input 16 = .ok (.ifCond .lt 8, 3) := by decide +kernel
theorem dX12_input_19 : decode cX12_input 19 = .ok (.iload_n 1, 1) := by decide +kernel
theorem dX12_input_20 : decode cX12_input 20 = .ok (.iconst 3, 1) := by decide +kernel
theorem dX12_input_21 : decode cX12_input 21 = .ok (.if_icmp .le 5, 3) := by decide +kernel
theorem dX12_input_24 : decode cX12_input 24 = .ok (.iconst (-1), 1) := by decide +kernel
theorem dX12_input_25 : decode cX12_input 25 = .ok (.ireturn, 1) := by decide +kernel
theorem dX12_input_26 : decode cX12_input 26 = .ok (.iconst 0, 1) := by decide +kernel
theorem dX12_input_27 : decode cX12_input 27 = .ok (.istore_n 3, 1) := by decide +kernel
theorem dX12_input_28 : decode cX12_input 28 = .ok (.iload_n 3, 1) := by decide +kernel
theorem dX12_input_29 : decode cX12_input 29 = .ok (.iload_n 2, 1) := by decide +kernel
theorem dX12_input_30 : decode cX12_input 30 = .ok (.if_icmp .ge 27, 3) := by decide +kernel
theorem dX12_input_33 : decode cX12_input 33 = .ok (.aload_n 0, 1) := by decide +kernel
theorem dX12_input_34 : decode cX12_input 34 = .ok (.getfield 345, 3) := by decide +kernel
theorem dX12_input_37 : decode cX12_input 37 = .ok (.sipush 6000, 3) := by decide +kernel
theorem dX12_input_40 : decode cX12_input 40 = .ok (.iload_n 1, 1) := by decide +kernel
theorem dX12_input_41 : decode cX12_input 41 = .ok (.imul, 1) := by decide +kernel
theorem dX12_input_42 : decode cX12_input 42 = .ok (.iload_n 3, 1) := by decide +kernel
theorem dX12_input_43 : decode cX12_input 43 = .ok (.iadd, 1) := by decide +kernel
theorem dX12_input_44 : decode cX12_input 44 = .ok (.aload_n 0, 1) := by decide +kernel
theorem dX12_input_45 : decode cX12_input 45 = .ok (.getfield 13, 3) := by decide +kernel
theorem dX12_input_48 : decode cX12_input 48 = .ok (.iload_n 3, 1) := by decide +kernel
theorem dX12_input_49 : decode cX12_input 49 = .ok (.baload, 1) := by decide +kernel
theorem dX12_input_50 : decode cX12_input 50 = .ok (.bastore, 1) := by decide +kernel
theorem dX12_input_51 : decode cX12_input 51 = .ok (.iinc 3 1, 3) := by decide +kernel
theorem dX12_input_54 : decode cX12_input 54 = .ok (.goto (-26), 3) := by decide +kernel
theorem dX12_input_57 : decode cX12_input 57 = .ok (.aload_n 0, 1) := by decide +kernel
theorem dX12_input_58 : decode cX12_input 58 = .ok (.getfield 354, 3) := by decide +kernel
theorem dX12_input_61 : decode cX12_input 61 = .ok (.iload_n 1, 1) := by decide +kernel
theorem dX12_input_62 : decode cX12_input 62 = .ok (.iload_n 2, 1) := by decide +kernel
theorem dX12_input_63 : decode cX12_input 63 = .ok (.iastore, 1) := by decide +kernel
theorem dX12_input_64 : decode cX12_input 64 = .ok (.aload_n 0, 1) := by decide +kernel
theorem dX12_input_65 : decode cX12_input 65 = .ok (.getfield 357, 3) := by decide +kernel
theorem dX12_input_68 : decode cX12_input 68 = .ok (.iload_n 1, 1) := by decide +kernel
theorem dX12_input_69 : decode cX12_input 69 = .ok (.iconst 0, 1) := by decide +kernel
theorem dX12_input_70 : decode cX12_input 70 = .ok (.iastore, 1) := by decide +kernel
theorem dX12_input_71 : decode cX12_input 71 = .ok (.aload_n 0, 1) := by decide +kernel
theorem dX12_input_72 : decode cX12_input 72 = .ok (.iload_n 1, 1) := by decide +kernel
theorem dX12_input_73 : decode cX12_input 73 = .ok (.invokevirtual 927, 3) := by decide +kernel
theorem dX12_input_76 : decode cX12_input 76 = .ok (.iload_n 2, 1) := by decide +kernel
theorem dX12_input_77 : decode cX12_input 77 = .ok (.ireturn, 1) := by decide +kernel
def wr_input_28B (Q : Int → zS → Prop) (k28 : zS → Int → Int → Int → Prop) (s0 : zS) (x1 : Int) (x2 : Int) (x3 : Int) : Prop :=
  ((x2 ≤ x3 → (0 ≤ x1) ∧ (x1 < 4) ∧ (0 ≤ x1) ∧ (x1 < 4) ∧ wr_rowsOf (zpa (zpa s0 112 (Int.toNat x1) x2) 113 (Int.toNat x1) 0) x1 (fun s16 => Q x2 s16)) ∧ (¬ x2 ≤ x3 → (0 ≤ x3) ∧ (x3 < 6000) ∧ (0 ≤ ((6000 * x1) + x3)) ∧ (((6000 * x1) + x3) < 24000) ∧ (zR (x3 + 1)) ∧ k28 (zpa s0 109 (Int.toNat ((6000 * x1) + x3)) (znb (za s0 1 (Int.toNat x3)))) x1 x2 (x3 + 1)))
def wr_input_28 (Q : Int → zS → Prop)  : Nat → zS → Int → Int → Int → Prop
  | 0 => fun _ _ _ _ => False
  | m + 1 => fun s0 x1 x2 x3 => wr_input_28B Q  (wr_input_28 Q  m) s0 x1 x2 x3
def wr_input (s0 : zS) (a0 : Int) (Q : Int → zS → Prop) : Prop :=
  ((a0 < 0 → Q (-1) (zpv (zpv s0 0 0) 2 0)) ∧ (¬ a0 < 0 → ((a0 ≤ 3 → ∃ n, wr_input_28 Q  n (zpv (zpv s0 0 0) 2 0) a0 (zv s0 2) 0) ∧ (¬ a0 ≤ 3 → Q (-1) (zpv (zpv s0 0 0) 2 0)))))
set_option maxHeartbeats 4000000 in
set_option maxRecDepth 100000 in
theorem rb_input_28 {X : gX} {d : gD} {b t : Nat} {T : Nat → Nat} {F0 : gM} (hC : gC RX12 cX12_input 4 (some .int) "input" (gR 2 0 0) d b X) {Q : Int → zS → Prop} {k28 : zS → Int → Int → Int → Prop} (hk28 : ∀ (F : gM) (s0 : zS) (x1 : Int) (x2 : Int) (x3 : Int), zR x1 → zR x2 → zR x3 → zZ d t T F0 F s0 → k28 s0 x1 x2 x3 → gG X d b (zQi X d b t T F0 Q) F 0 0 28 [some (.ref t), some (.int (zI x1)), some (.int (zI x2)), some (.int (zI x3))] []) {F : gM} {s0 : zS} {x1 : Int} {x2 : Int} {x3 : Int} (Rx1 : zR x1) (Rx2 : zR x2) (Rx3 : zR x3) (hZ : zZ d t T F0 F s0) (hw : wr_input_28B Q k28 s0 x1 x2 x3) : gG X d b (zQi X d b t T F0 Q) F 0 0 28 [some (.ref t), some (.int (zI x1)), some (.int (zI x2)), some (.int (zI x3))] [] := by
  unfold wr_input_28B at hw
  refine g_iload_n hC dX12_input_28 rfl ?_
  refine g_iload_n hC dX12_input_29 rfl ?_
  refine zr_icmp_ge (tgt := 57) hC Rx3 Rx2 dX12_input_30 (by decide) (fun c1 => ?_) (fun c1 => ?_)
  · have h2 := hw.1 c1
    refine g_aload_n hC dX12_input_57 rfl ?_
    refine zr_geta hC hZ fl_X12_354 zb_112 (by decide) dX12_input_58 ?_
    refine g_iload_n hC dX12_input_61 rfl ?_
    refine g_iload_n hC dX12_input_62 rfl ?_
    obtain ⟨o3, h4⟩ := h2
    obtain ⟨o5, h6⟩ := h4
    refine zr_iast hC hZ zk_112 zb_112 zn_112 (by decide) o3 o5 Rx2 dX12_input_63 (fun F7 hZ8 => ?_)
    refine g_aload_n hC dX12_input_64 rfl ?_
    refine zr_geta hC hZ8 fl_X12_357 zb_113 (by decide) dX12_input_65 ?_
    refine g_iload_n hC dX12_input_68 rfl ?_
    refine g_iconst (v := zI 0) hC dX12_input_69 rfl ?_
    obtain ⟨o9, h10⟩ := h6
    obtain ⟨o11, h12⟩ := h10
    refine zr_iast hC hZ8 zk_113 zb_113 zn_113 (by decide) o9 o11 (by decide) dX12_input_70 (fun F13 hZ14 => ?_)
    refine g_aload_n hC dX12_input_71 rfl ?_
    refine g_iload_n hC dX12_input_72 rfl ?_
    refine zr_callVv (As := [.int (zI x1)]) hC hZ14 rfl (rm_rowsOf X.la d b Rx1 hZ14.rf h12) cl_X12_927 rfl rfl (Nat.le_of_ble_eq_true rfl) ⟨Nat.le_of_ble_eq_true rfl, Nat.le_of_ble_eq_true rfl⟩ dX12_input_73 (fun s16 F17 hZ19 h20 => ?_)
    refine g_iload_n hC dX12_input_76 rfl ?_
    exact zr_iret hC hZ19 Rx2 h20 dX12_input_77
  · have h21 := hw.2 c1
    refine g_aload_n hC dX12_input_33 rfl ?_
    refine zr_geta hC hZ fl_X12_345 zb_109 (by decide) dX12_input_34 ?_
    refine g_sipush (v := zI 6000) hC dX12_input_37 rfl ?_
    refine g_iload_n hC dX12_input_40 rfl ?_
    refine zr_imul hC dX12_input_41 ?_
    refine g_iload_n hC dX12_input_42 rfl ?_
    refine zr_iadd hC dX12_input_43 ?_
    refine g_aload_n hC dX12_input_44 rfl ?_
    refine zr_geta hC hZ fl_X12_13 zb_1 (by decide) dX12_input_45 ?_
    refine g_iload_n hC dX12_input_48 rfl ?_
    obtain ⟨o22, h23⟩ := h21
    obtain ⟨o24, h25⟩ := h23
    refine zr_bald (v := (za s0 1 (Int.toNat x3))) hC hZ zk_1 zb_1 zn_1 (by decide) o22 o24 rfl dX12_input_49 ?_
    obtain ⟨o26, h27⟩ := h25
    obtain ⟨o28, h29⟩ := h27
    refine zr_bast hC hZ zk_109 zb_109 zn_109 (by decide) o26 o28  dX12_input_50 (fun F30 hZ31 => ?_)
    refine zr_iinc (x := x3) (lv' := [some (.ref t), some (.int (zI x1)), some (.int (zI x2)), some (.int (zI (x3 + 1)))]) hC dX12_input_51 rfl rfl rfl ?_
    refine g_goto (tgt := 28) hC dX12_input_54 (by decide) ?_
    obtain ⟨o32, h33⟩ := h29
    exact hk28 _ _ _ _ _ Rx1 Rx2 o32 hZ31 h33
theorem rl_input_28 {X : gX} {d : gD} {b t : Nat} {T : Nat → Nat} {F0 : gM} (hC : gC RX12 cX12_input 4 (some .int) "input" (gR 2 0 0) d b X) {Q : Int → zS → Prop}   : ∀ (m : Nat) (F : gM) (s0 : zS) (x1 : Int) (x2 : Int) (x3 : Int), zR x1 → zR x2 → zR x3 → zZ d t T F0 F s0 → wr_input_28 Q  m s0 x1 x2 x3 → gG X d b (zQi X d b t T F0 Q) F 0 0 28 [some (.ref t), some (.int (zI x1)), some (.int (zI x2)), some (.int (zI x3))] [] := by
  intro m
  induction m with
  | zero => intro F s0 x1 x2 x3 Rx1 Rx2 Rx3 hZ hw; exact False.elim hw
  | succ m ih => intro F s0 x1 x2 x3 Rx1 Rx2 Rx3 hZ hw; exact rb_input_28 hC  ih Rx1 Rx2 Rx3 hZ hw
set_option maxHeartbeats 4000000 in
set_option maxRecDepth 100000 in
theorem rm_input (l : Launch) (d : gD) (b : Nat) {t : Nat} {T : Nat → Nat} {F : gM} {s0 : zS} {a0 : Int} (Ra0 : zR a0) {Q : Int → zS → Prop} (hZ : zZ d t T F F s0) (hw : wr_input s0 a0 Q) : gMi l d b yX12_input cX12_input 4 .int 2 0 0 F [.ref t, .int (zI a0)] (zPi d t T F Q) := by
  refine gM_of2 rfl (nL := 4) (Nat.le_of_ble_eq_true rfl) ?_
  intro X hX hC; subst hX
  show gG X d b (zQi X d b t T F Q) F 0 0 0 [some (.ref t), some (.int (zI a0)), none, none] []
  unfold wr_input at hw
  refine g_aload_n hC dX12_input_0 rfl ?_
  refine g_iconst (v := zI 0) hC dX12_input_1 rfl ?_
  refine zr_put hC hZ fl_X12_7 zb_0 (by decide) (by decide) dX12_input_2 (fun F1 hZ2 => ?_)
  refine g_aload_n hC dX12_input_5 rfl ?_
  refine zr_get (e := (zv s0 2)) hC hZ2 fl_X12_17 zb_2 (by decide) rfl dX12_input_6 ?_
  refine g_istore_n (lv' := [some (.ref t), some (.int (zI a0)), some (.int (zI (zv s0 2))), none]) hC dX12_input_9 (Nat.le_of_ble_eq_true rfl) rfl rfl ?_
  refine g_aload_n hC dX12_input_10 rfl ?_
  refine g_iconst (v := zI 0) hC dX12_input_11 rfl ?_
  refine zr_put hC hZ2 fl_X12_17 zb_2 (by decide) (by decide) dX12_input_12 (fun F3 hZ4 => ?_)
  refine g_iload_n hC dX12_input_15 rfl ?_
  refine zr_if_lt (tgt := 24) hC Ra0 dX12_input_16 (by decide) (fun c5 => ?_) (fun c5 => ?_)
  · have h6 := hw.1 c5
    refine g_iconst (v := zI (-1)) hC dX12_input_24 rfl ?_
    exact zr_iret hC hZ4 (by decide) h6 dX12_input_25
  · have h7 := hw.2 c5
    refine g_iload_n hC dX12_input_19 rfl ?_
    refine g_iconst (v := zI 3) hC dX12_input_20 rfl ?_
    refine zr_icmp_le (tgt := 26) hC Ra0 (by decide) dX12_input_21 (by decide) (fun c8 => ?_) (fun c8 => ?_)
    · have h9 := h7.1 c8
      refine g_iconst (v := zI 0) hC dX12_input_26 rfl ?_
      refine g_istore_n (lv' := [some (.ref t), some (.int (zI a0)), some (.int (zI (zv s0 2))), some (.int (zI 0))]) hC dX12_input_27 (Nat.le_of_ble_eq_true rfl) rfl rfl ?_
      obtain ⟨m10, h11⟩ := h9
      exact rl_input_28 hC  m10 _ _ _ _ _ Ra0 (hZ.rv 2) (by decide) hZ4 h11
    · have h12 := h7.2 c8
      refine g_iconst (v := zI (-1)) hC dX12_input_24 rfl ?_
      exact zr_iret hC hZ4 (by decide) h12 dX12_input_25
theorem dX12_run_0 : decode cX12_run 0 = .ok (.aload_n 0, 1) := by decide +kernel
theorem dX12_run_1 : decode cX12_run 1 = .ok (.iconst 0, 1) := by decide +kernel
theorem dX12_run_2 : decode cX12_run 2 = .ok (.putfield 7, 3) := by decide +kernel
theorem dX12_run_5 : decode cX12_run 5 = .ok (.aload_n 0, 1) := by decide +kernel
theorem dX12_run_6 : decode cX12_run 6 = .ok (.getfield 333, 3) := by decide +kernel
theorem dX12_run_9 : decode cX12_run 9 = .ok (.ifCond .eq 14, 3) := by decide +kernel
theorem dX12_run_12 : decode cX12_run 12 = .ok (.iload_n 1, 1) := by decide +kernel
theorem dX12_run_13 : decode cX12_run 13 = .ok (.ifCond .lt 10, 3) := by decide +kernel
theorem dX12_run_16 : decode cX12_run 16 = .ok (.iload_n 1, 1) := by decide +kernel
theorem dX12_run_17 : decode cX12_run 17 = .ok (.ldc_w 930, 3) := by decide +kernel
theorem dX12_run_20 : decode cX12_run 20 = .ok (.if_icmp .le 5, 3) := by decide +kernel
theorem dX12_run_23 : decode cX12_run 23 = .ok (.iconst (-1), 1) := by decide +kernel
theorem dX12_run_24 : decode cX12_run 24 = .ok (.ireturn, 1) := by decide +kernel
theorem dX12_run_25 : decode cX12_run 25 = .ok (.iconst 0, 1) := by decide +kernel
theorem dX12_run_26 : decode cX12_run 26 = .ok (.istore_n 2, 1) := by decide +kernel
theorem dX12_run_27 : decode cX12_run 27 = .ok (.iload_n 2, 1) := by decide +kernel
theorem dX12_run_28 : decode cX12_run 28 = .ok (.ldc_w 311, 3) := by decide +kernel
theorem dX12_run_31 : decode cX12_run 31 = .ok (.if_icmp .ge 16, 3) := by decide +kernel
theorem dX12_run_34 : decode cX12_run 34 = .ok (.aload_n 0, 1) := by decide +kernel
theorem dX12_run_35 : decode cX12_run 35 = .ok (.getfield 312, 3) := by decide +kernel
theorem dX12_run_38 : decode cX12_run 38 = .ok (.iload_n 2, 1) := by decide +kernel
theorem dX12_run_39 : decode cX12_run 39 = .ok (.iconst 0, 1) := by decide +kernel
theorem dX12_run_40 : decode cX12_run 40 = .ok (.iastore, 1) := by decide +kernel
theorem dX12_run_41 : decode cX12_run 41 = .ok (.iinc 2 1, 3) := by decide +kernel
theorem dX12_run_44 : decode cX12_run 44 = .ok (.goto (-17), 3) := by decide +kernel
theorem dX12_run_47 : decode cX12_run 47 = .ok (.iconst 0, 1) := by decide +kernel
theorem dX12_run_48 : decode cX12_run 48 = .ok (.istore_n 2, 1) := by decide +kernel
theorem dX12_run_49 : decode cX12_run 49 = .ok (.iload_n 2, 1) := by decide +kernel
theorem dX12_run_50 : decode cX12_run 50 = .ok (.aload_n 0, 1) := by decide +kernel
theorem dX12_run_51 : decode cX12_run 51 = .ok (.getfield 267, 3) := by decide +kernel
theorem dX12_run_54 : decode cX12_run 54 = .ok (.if_icmp .ge 26, 3) := by decide +kernel
theorem dX12_run_57 : decode cX12_run 57 = .ok (.aload_n 0, 1) := by decide +kernel
theorem dX12_run_58 : decode cX12_run 58 = .ok (.getfield 312, 3) := by decide +kernel
theorem dX12_run_61 : decode cX12_run 61 = .ok (.aload_n 0, 1) := by decide +kernel
theorem dX12_run_62 : decode cX12_run 62 = .ok (.getfield 270, 3) := by decide +kernel
theorem dX12_run_65 : decode cX12_run 65 = .ok (.iload_n 2, 1) := by decide +kernel
theorem dX12_run_66 : decode cX12_run 66 = .ok (.iaload, 1) := by decide +kernel
theorem dX12_run_67 : decode cX12_run 67 = .ok (.aload_n 0, 1) := by decide +kernel
theorem dX12_run_68 : decode cX12_run 68 = .ok (.getfield 273, 3) := by decide +kernel
theorem dX12_run_71 : decode cX12_run 71 = .ok (.iload_n 2, 1) := by decide +kernel
theorem dX12_run_72 : decode cX12_run 72 = .ok (.iaload, 1) := by decide +kernel
theorem dX12_run_73 : decode cX12_run 73 = .ok (.iastore, 1) := by decide +kernel
theorem dX12_run_74 : decode cX12_run 74 = .ok (.iinc 2 1, 3) := by decide +kernel
theorem dX12_run_77 : decode cX12_run 77 = .ok (.goto (-28), 3) := by decide +kernel
theorem dX12_run_80 : decode cX12_run 80 = .ok (.aload_n 0, 1) := by decide +kernel
theorem dX12_run_81 : decode cX12_run 81 = .ok (.iconst 0, 1) := by decide +kernel
theorem dX12_run_82 : decode cX12_run 82 = .ok (.putfield 336, 3) := by decide +kernel
theorem dX12_run_85 : decode cX12_run 85 = .ok (.aload_n 0, 1) := by decide +kernel
theorem dX12_run_86 : decode cX12_run 86 = .ok (.iconst 0, 1) := by decide +kernel
theorem dX12_run_87 : decode cX12_run 87 = .ok (.putfield 360, 3) := by decide +kernel
theorem dX12_run_90 : decode cX12_run 90 = .ok (.aload_n 0, 1) := by decide +kernel
theorem dX12_run_91 : decode cX12_run 91 = .ok (.iconst 0, 1) := by decide +kernel
theorem dX12_run_92 : decode cX12_run 92 = .ok (.putfield 369, 3) := by decide +kernel
theorem dX12_run_95 : decode cX12_run 95 = .ok (.aload_n 0, 1) := by decide +kernel
theorem dX12_run_96 : decode cX12_run 96 = .ok (.getfield 366, 3) := by decide +kernel
theorem dX12_run_99 : decode cX12_run 99 = .ok (.iconst 0, 1) := by decide +kernel
theorem dX12_run_100 : decode cX12_run 100 = .ok (.iconst 0, 1) := by decide +kernel
theorem dX12_run_101 : decode cX12_run 101 = .ok (.iastore, 1) := by decide +kernel
theorem dX12_run_102 : decode cX12_run 102 = .ok (.aload_n 0, 1) := by decide +kernel
theorem dX12_run_103 : decode cX12_run 103 = .ok (.getfield 366, 3) := by decide +kernel
theorem dX12_run_106 : decode cX12_run 106 = .ok (.iconst 1, 1) := by decide +kernel
theorem dX12_run_107 : decode cX12_run 107 = .ok (.iconst 0, 1) := by decide +kernel
theorem dX12_run_108 : decode cX12_run 108 = .ok (.iastore, 1) := by decide +kernel
theorem dX12_run_109 : decode cX12_run 109 = .ok (.aload_n 0, 1) := by decide +kernel
theorem dX12_run_110 : decode cX12_run 110 = .ok (.iload_n 1, 1) := by decide +kernel
theorem dX12_run_111 : decode cX12_run 111 = .ok (.putfield 321, 3) := by decide +kernel
theorem dX12_run_114 : decode cX12_run 114 = .ok (.aload_n 0, 1) := by decide +kernel
theorem dX12_run_115 : decode cX12_run 115 = .ok (.iconst 0, 1) := by decide +kernel
theorem dX12_run_116 : decode cX12_run 116 = .ok (.putfield 324, 3) := by decide +kernel
theorem dX12_run_119 : decode cX12_run 119 = .ok (.aload_n 0, 1) := by decide +kernel
theorem dX12_run_120 : decode cX12_run 120 = .ok (.iconst 0, 1) := by decide +kernel
theorem dX12_run_121 : decode cX12_run 121 = .ok (.putfield 327, 3) := by decide +kernel
theorem dX12_run_124 : decode cX12_run 124 = .ok (.aload_n 0, 1) := by decide +kernel
theorem dX12_run_125 : decode cX12_run 125 = .ok (.iconst 0, 1) := by decide +kernel
theorem dX12_run_126 : decode cX12_run 126 = .ok (.putfield 330, 3) := by decide +kernel
theorem dX12_run_129 : decode cX12_run 129 = .ok (.aload_n 0, 1) := by decide +kernel
theorem dX12_run_130 : decode cX12_run 130 = .ok (.iconst 0, 1) := by decide +kernel
theorem dX12_run_131 : decode cX12_run 131 = .ok (.putfield 276, 3) := by decide +kernel
theorem dX12_run_134 : decode cX12_run 134 = .ok (.aload_n 0, 1) := by decide +kernel
theorem dX12_run_135 : decode cX12_run 135 = .ok (.iconst 0, 1) := by decide +kernel
theorem dX12_run_136 : decode cX12_run 136 = .ok (.putfield 289, 3) := by decide +kernel
theorem dX12_run_139 : decode cX12_run 139 = .ok (.aload_n 0, 1) := by decide +kernel
theorem dX12_run_140 : decode cX12_run 140 = .ok (.iconst 0, 1) := by decide +kernel
theorem dX12_run_141 : decode cX12_run 141 = .ok (.putfield 302, 3) := by decide +kernel
theorem dX12_run_144 : decode cX12_run 144 = .ok (.aload_n 0, 1) := by decide +kernel
theorem dX12_run_145 : decode cX12_run 145 = .ok (.iconst 0, 1) := by decide +kernel
theorem dX12_run_146 : decode cX12_run 146 = .ok (.putfield 305, 3) := by decide +kernel
theorem dX12_run_149 : decode cX12_run 149 = .ok (.aload_n 0, 1) := by decide +kernel
theorem dX12_run_150 : decode cX12_run 150 = .ok (.iconst 0, 1) := by decide +kernel
theorem dX12_run_151 : decode cX12_run 151 = .ok (.putfield 308, 3) := by decide +kernel
theorem dX12_run_154 : decode cX12_run 154 = .ok (.aload_n 0, 1) := by decide +kernel
theorem dX12_run_155 : decode cX12_run 155 = .ok (.aload_n 0, 1) := by decide +kernel
theorem dX12_run_156 : decode cX12_run 156 = .ok (.getfield 99, 3) := by decide +kernel
theorem dX12_run_159 : decode cX12_run 159 = .ok (.aload_n 0, 1) := by decide +kernel
theorem dX12_run_160 : decode cX12_run 160 = .ok (.getfield 261, 3) := by decide +kernel
theorem dX12_run_163 : decode cX12_run 163 = .ok (.iaload, 1) := by decide +kernel
theorem dX12_run_164 : decode cX12_run 164 = .ok (.aload_n 0, 1) := by decide +kernel
theorem dX12_run_165 : decode cX12_run 165 = .ok (.getfield 258, 3) := by decide +kernel
theorem dX12_run_168 : decode cX12_run 168 = .ok (.iconst 0, 1) := by decide +kernel
theorem dX12_run_169 : decode cX12_run 169 = .ok (.invokevirtual 827, 3) := by decide +kernel
theorem dX12_run_172 : decode cX12_run 172 = .ok (.aload_n 0, 1) := by decide +kernel
theorem dX12_run_173 : decode cX12_run 173 = .ok (.getfield 324, 3) := by decide +kernel
theorem dX12_run_176 : decode cX12_run 176 = .ok (.ifCond .ne 17, 3) := by decide +kernel
theorem dX12_run_179 : decode cX12_run 179 = .ok (.aload_n 0, 1) := by decide +kernel
theorem dX12_run_180 : decode cX12_run 180 = .ok (.getfield 276, 3) := by decide +kernel
theorem dX12_run_183 : decode cX12_run 183 = .ok (.ifCond .le 10, 3) := by decide +kernel
theorem dX12_run_186 : decode cX12_run 186 = .ok (.aload_n 0, 1) := by decide +kernel
theorem dX12_run_187 : decode cX12_run 187 = .ok (.invokevirtual 931, 3) := by decide +kernel
theorem dX12_run_190 : decode cX12_run 190 = .ok (.goto (-18), 3) := by decide +kernel
theorem dX12_run_193 : decode cX12_run 193 = .ok (.aload_n 0, 1) := by decide +kernel
theorem dX12_run_194 : decode cX12_run 194 = .ok (.getfield 324, 3) := by decide +kernel
theorem dX12_run_197 : decode cX12_run 197 = .ok (.ifCond .ne 11, 3) := by decide +kernel
theorem dX12_run_200 : decode cX12_run 200 = .ok (.aload_n 0, 1) := by decide +kernel
theorem dX12_run_201 : decode cX12_run 201 = .ok (.aload_n 0, 1) := by decide +kernel
theorem dX12_run_202 : decode cX12_run 202 = .ok (.invokevirtual 810, 3) := by decide +kernel
theorem dX12_run_205 : decode cX12_run 205 = .ok (.putfield 330, 3) := by decide +kernel
theorem dX12_run_208 : decode cX12_run 208 = .ok (.aload_n 0, 1) := by decide +kernel
theorem dX12_run_209 : decode cX12_run 209 = .ok (.getfield 327, 3) := by decide +kernel
theorem dX12_run_212 : decode cX12_run 212 = .ok (.ireturn, 1) := by decide +kernel
def wr_run_172B (Q : Int → zS → Prop) (k172 : zS → Prop) (s0 : zS)  : Prop :=
  ((¬ (zv s0 102) = 0 → ((¬ (zv s0 102) = 0 → Q (zv s0 103) s0) ∧ ((zv s0 102) = 0 → wr_pop s0  (fun r6 s7 => Q (zv s7 103) (zpv s7 104 r6))))) ∧ ((zv s0 102) = 0 → (((zv s0 87) ≤ 0 → ((¬ (zv s0 102) = 0 → Q (zv s0 103) s0) ∧ ((zv s0 102) = 0 → wr_pop s0  (fun r20 s21 => Q (zv s21 103) (zpv s21 104 r20))))) ∧ (¬ (zv s0 87) ≤ 0 → wr_doNext s0  (fun s30 => k172 s30 )))))
def wr_run_172 (Q : Int → zS → Prop)  : Nat → zS → Prop
  | 0 => fun _ => False
  | m + 1 => fun s0  => wr_run_172B Q  (wr_run_172 Q  m) s0 
def wr_run_49B (Q : Int → zS → Prop) (k49 : zS → Int → Int → Prop) (s0 : zS) (x1 : Int) (x2 : Int) : Prop :=
  (((zv s0 84) ≤ x2 → (0 ≤ (zv s0 82)) ∧ ((zv s0 82) < 26000) ∧ wr_enter (zpv (zpv (zpv (zpv (zpv (zpv (zpv (zpv (zpv (zpa (zpa (zpv (zpv (zpv s0 106 0) 114 0) 117 0) 116 (Int.toNat 0) 0) 116 (Int.toNat 1) 0) 101 x1) 102 0) 103 0) 104 0) 87 0) 91 0) 95 0) 96 0) 97 0) (za s0 29 (Int.toNat (zv s0 82))) (zv s0 81) 0 (fun s36 => ∃ n, wr_run_172 Q  n s36 )) ∧ (¬ (zv s0 84) ≤ x2 → (0 ≤ x2) ∧ (x2 < 9000) ∧ (0 ≤ x2) ∧ (x2 < 9000) ∧ (0 ≤ (za s0 85 (Int.toNat x2))) ∧ ((za s0 85 (Int.toNat x2)) < 65536) ∧ (zR (x2 + 1)) ∧ k49 (zpa s0 98 (Int.toNat (za s0 85 (Int.toNat x2))) (za s0 86 (Int.toNat x2))) x1 (x2 + 1)))
def wr_run_49 (Q : Int → zS → Prop)  : Nat → zS → Int → Int → Prop
  | 0 => fun _ _ _ => False
  | m + 1 => fun s0 x1 x2 => wr_run_49B Q  (wr_run_49 Q  m) s0 x1 x2
def wr_run_27B (Q : Int → zS → Prop) (k27 : zS → Int → Int → Prop) (s0 : zS) (x1 : Int) (x2 : Int) : Prop :=
  ((65536 ≤ x2 → ∃ n, wr_run_49 Q  n s0 x1 0) ∧ (¬ 65536 ≤ x2 → (0 ≤ x2) ∧ (x2 < 65536) ∧ (zR (x2 + 1)) ∧ k27 (zpa s0 98 (Int.toNat x2) 0) x1 (x2 + 1)))
def wr_run_27 (Q : Int → zS → Prop)  : Nat → zS → Int → Int → Prop
  | 0 => fun _ _ _ => False
  | m + 1 => fun s0 x1 x2 => wr_run_27B Q  (wr_run_27 Q  m) s0 x1 x2
def wr_run (s0 : zS) (a0 : Int) (Q : Int → zS → Prop) : Prop :=
  (((zv s0 105) = 0 → Q (-1) (zpv s0 0 0)) ∧ (¬ (zv s0 105) = 0 → ((a0 < 0 → Q (-1) (zpv s0 0 0)) ∧ (¬ a0 < 0 → ((a0 ≤ 100000 → ∃ n, wr_run_27 Q  n (zpv s0 0 0) a0 0) ∧ (¬ a0 ≤ 100000 → Q (-1) (zpv s0 0 0)))))))
set_option maxHeartbeats 4000000 in
set_option maxRecDepth 100000 in
theorem rb_run_172 {X : gX} {d : gD} {b t : Nat} {T : Nat → Nat} {F0 : gM} (hC : gC RX12 cX12_run 3 (some .int) "run" (gR 7 0 0) d b X) {Q : Int → zS → Prop} {k172 : zS → Prop} (hk172 : ∀ (F : gM) (s0 : zS), zZ d t T F0 F s0 → k172 s0  → gG X d b (zQi X d b t T F0 Q) F 0 0 172 [some (.ref t), none, none] []) {F : gM} {s0 : zS}   (hZ : zZ d t T F0 F s0) (hw : wr_run_172B Q k172 s0 ) : gG X d b (zQi X d b t T F0 Q) F 0 0 172 [some (.ref t), none, none] [] := by
  unfold wr_run_172B at hw
  refine g_aload_n hC dX12_run_172 rfl ?_
  refine zr_get (e := (zv s0 102)) hC hZ fl_X12_324 zb_102 (by decide) rfl dX12_run_173 ?_
  refine zr_if_ne (tgt := 193) hC (hZ.rv 102) dX12_run_176 (by decide) (fun c1 => ?_) (fun c1 => ?_)
  · have h2 := hw.1 c1
    refine g_aload_n hC dX12_run_193 rfl ?_
    refine zr_get (e := (zv s0 102)) hC hZ fl_X12_324 zb_102 (by decide) rfl dX12_run_194 ?_
    refine zr_if_ne (tgt := 208) hC (hZ.rv 102) dX12_run_197 (by decide) (fun c3 => ?_) (fun c3 => ?_)
    · have h4 := h2.1 c3
      refine g_aload_n hC dX12_run_208 rfl ?_
      refine zr_get (e := (zv s0 103)) hC hZ fl_X12_327 zb_103 (by decide) rfl dX12_run_209 ?_
      exact zr_iret hC hZ (hZ.rv 103) h4 dX12_run_212
    · have h5 := h2.2 c3
      refine g_aload_n hC dX12_run_200 rfl ?_
      refine g_aload_n hC dX12_run_201 rfl ?_
      refine zr_callVi (As := []) hC hZ rfl (rm_pop X.la d b  hZ.rf h5) cl_X12_810 rfl rfl (Nat.le_of_ble_eq_true rfl) ⟨Nat.le_of_ble_eq_true rfl, Nat.le_of_ble_eq_true rfl⟩ dX12_run_202 (fun r6 s7 F8 R9 hZ10 h11 => ?_)
      refine zr_put hC hZ10 fl_X12_330 zb_104 (by decide) R9 dX12_run_205 (fun F12 hZ13 => ?_)
      refine g_aload_n hC dX12_run_208 rfl ?_
      refine zr_get (e := (zv s7 103)) hC hZ13 fl_X12_327 zb_103 (by decide) rfl dX12_run_209 ?_
      exact zr_iret hC hZ13 (hZ10.rv 103) h11 dX12_run_212
  · have h14 := hw.2 c1
    refine g_aload_n hC dX12_run_179 rfl ?_
    refine zr_get (e := (zv s0 87)) hC hZ fl_X12_276 zb_87 (by decide) rfl dX12_run_180 ?_
    refine zr_if_le (tgt := 193) hC (hZ.rv 87) dX12_run_183 (by decide) (fun c15 => ?_) (fun c15 => ?_)
    · have h16 := h14.1 c15
      refine g_aload_n hC dX12_run_193 rfl ?_
      refine zr_get (e := (zv s0 102)) hC hZ fl_X12_324 zb_102 (by decide) rfl dX12_run_194 ?_
      refine zr_if_ne (tgt := 208) hC (hZ.rv 102) dX12_run_197 (by decide) (fun c17 => ?_) (fun c17 => ?_)
      · have h18 := h16.1 c17
        refine g_aload_n hC dX12_run_208 rfl ?_
        refine zr_get (e := (zv s0 103)) hC hZ fl_X12_327 zb_103 (by decide) rfl dX12_run_209 ?_
        exact zr_iret hC hZ (hZ.rv 103) h18 dX12_run_212
      · have h19 := h16.2 c17
        refine g_aload_n hC dX12_run_200 rfl ?_
        refine g_aload_n hC dX12_run_201 rfl ?_
        refine zr_callVi (As := []) hC hZ rfl (rm_pop X.la d b  hZ.rf h19) cl_X12_810 rfl rfl (Nat.le_of_ble_eq_true rfl) ⟨Nat.le_of_ble_eq_true rfl, Nat.le_of_ble_eq_true rfl⟩ dX12_run_202 (fun r20 s21 F22 R23 hZ24 h25 => ?_)
        refine zr_put hC hZ24 fl_X12_330 zb_104 (by decide) R23 dX12_run_205 (fun F26 hZ27 => ?_)
        refine g_aload_n hC dX12_run_208 rfl ?_
        refine zr_get (e := (zv s21 103)) hC hZ27 fl_X12_327 zb_103 (by decide) rfl dX12_run_209 ?_
        exact zr_iret hC hZ27 (hZ24.rv 103) h25 dX12_run_212
    · have h28 := h14.2 c15
      refine g_aload_n hC dX12_run_186 rfl ?_
      refine zr_callVv (As := []) hC hZ rfl (rm_doNext X.la d b  hZ.rf h28) cl_X12_931 rfl rfl (Nat.le_of_ble_eq_true rfl) ⟨Nat.le_of_ble_eq_true rfl, Nat.le_of_ble_eq_true rfl⟩ dX12_run_187 (fun s30 F31 hZ33 h34 => ?_)
      refine g_goto (tgt := 172) hC dX12_run_190 (by decide) ?_
      exact hk172 _ _   hZ33 h34
theorem rl_run_172 {X : gX} {d : gD} {b t : Nat} {T : Nat → Nat} {F0 : gM} (hC : gC RX12 cX12_run 3 (some .int) "run" (gR 7 0 0) d b X) {Q : Int → zS → Prop}   : ∀ (m : Nat) (F : gM) (s0 : zS), zZ d t T F0 F s0 → wr_run_172 Q  m s0  → gG X d b (zQi X d b t T F0 Q) F 0 0 172 [some (.ref t), none, none] [] := by
  intro m
  induction m with
  | zero => intro F s0   hZ hw; exact False.elim hw
  | succ m ih => intro F s0   hZ hw; exact rb_run_172 hC  ih  hZ hw
set_option maxHeartbeats 4000000 in
set_option maxRecDepth 100000 in
theorem rb_run_49 {X : gX} {d : gD} {b t : Nat} {T : Nat → Nat} {F0 : gM} (hC : gC RX12 cX12_run 3 (some .int) "run" (gR 7 0 0) d b X) {Q : Int → zS → Prop} {k49 : zS → Int → Int → Prop} (hk49 : ∀ (F : gM) (s0 : zS) (x1 : Int) (x2 : Int), zR x1 → zR x2 → zZ d t T F0 F s0 → k49 s0 x1 x2 → gG X d b (zQi X d b t T F0 Q) F 0 0 49 [some (.ref t), some (.int (zI x1)), some (.int (zI x2))] []) {F : gM} {s0 : zS} {x1 : Int} {x2 : Int} (Rx1 : zR x1) (Rx2 : zR x2) (hZ : zZ d t T F0 F s0) (hw : wr_run_49B Q k49 s0 x1 x2) : gG X d b (zQi X d b t T F0 Q) F 0 0 49 [some (.ref t), some (.int (zI x1)), some (.int (zI x2))] [] := by
  unfold wr_run_49B at hw
  refine g_iload_n hC dX12_run_49 rfl ?_
  refine g_aload_n hC dX12_run_50 rfl ?_
  refine zr_get (e := (zv s0 84)) hC hZ fl_X12_267 zb_84 (by decide) rfl dX12_run_51 ?_
  refine zr_icmp_ge (tgt := 80) hC Rx2 (hZ.rv 84) dX12_run_54 (by decide) (fun c1 => ?_) (fun c1 => ?_)
  · have h2 := hw.1 c1
    refine g_aload_n hC dX12_run_80 rfl ?_
    refine g_iconst (v := zI 0) hC dX12_run_81 rfl ?_
    refine zr_put hC hZ fl_X12_336 zb_106 (by decide) (by decide) dX12_run_82 (fun F3 hZ4 => ?_)
    refine g_aload_n hC dX12_run_85 rfl ?_
    refine g_iconst (v := zI 0) hC dX12_run_86 rfl ?_
    refine zr_put hC hZ4 fl_X12_360 zb_114 (by decide) (by decide) dX12_run_87 (fun F5 hZ6 => ?_)
    refine g_aload_n hC dX12_run_90 rfl ?_
    refine g_iconst (v := zI 0) hC dX12_run_91 rfl ?_
    refine zr_put hC hZ6 fl_X12_369 zb_117 (by decide) (by decide) dX12_run_92 (fun F7 hZ8 => ?_)
    refine g_aload_n hC dX12_run_95 rfl ?_
    refine zr_geta hC hZ8 fl_X12_366 zb_116 (by decide) dX12_run_96 ?_
    refine g_iconst (v := zI 0) hC dX12_run_99 rfl ?_
    refine g_iconst (v := zI 0) hC dX12_run_100 rfl ?_
    refine zr_iast hC hZ8 zk_116 zb_116 zn_116 (by decide) (by decide) (by decide) (by decide) dX12_run_101 (fun F9 hZ10 => ?_)
    refine g_aload_n hC dX12_run_102 rfl ?_
    refine zr_geta hC hZ10 fl_X12_366 zb_116 (by decide) dX12_run_103 ?_
    refine g_iconst (v := zI 1) hC dX12_run_106 rfl ?_
    refine g_iconst (v := zI 0) hC dX12_run_107 rfl ?_
    refine zr_iast hC hZ10 zk_116 zb_116 zn_116 (by decide) (by decide) (by decide) (by decide) dX12_run_108 (fun F11 hZ12 => ?_)
    refine g_aload_n hC dX12_run_109 rfl ?_
    refine g_iload_n hC dX12_run_110 rfl ?_
    refine zr_put hC hZ12 fl_X12_321 zb_101 (by decide) Rx1 dX12_run_111 (fun F13 hZ14 => ?_)
    refine g_aload_n hC dX12_run_114 rfl ?_
    refine g_iconst (v := zI 0) hC dX12_run_115 rfl ?_
    refine zr_putZ hC hZ14 fl_X12_324 zb_102 (by decide) (Or.inl rfl) dX12_run_116 (fun F15 hZ16 => ?_)
    refine g_aload_n hC dX12_run_119 rfl ?_
    refine g_iconst (v := zI 0) hC dX12_run_120 rfl ?_
    refine zr_put hC hZ16 fl_X12_327 zb_103 (by decide) (by decide) dX12_run_121 (fun F17 hZ18 => ?_)
    refine g_aload_n hC dX12_run_124 rfl ?_
    refine g_iconst (v := zI 0) hC dX12_run_125 rfl ?_
    refine zr_put hC hZ18 fl_X12_330 zb_104 (by decide) (by decide) dX12_run_126 (fun F19 hZ20 => ?_)
    refine g_aload_n hC dX12_run_129 rfl ?_
    refine g_iconst (v := zI 0) hC dX12_run_130 rfl ?_
    refine zr_put hC hZ20 fl_X12_276 zb_87 (by decide) (by decide) dX12_run_131 (fun F21 hZ22 => ?_)
    refine g_aload_n hC dX12_run_134 rfl ?_
    refine g_iconst (v := zI 0) hC dX12_run_135 rfl ?_
    refine zr_put hC hZ22 fl_X12_289 zb_91 (by decide) (by decide) dX12_run_136 (fun F23 hZ24 => ?_)
    refine g_aload_n hC dX12_run_139 rfl ?_
    refine g_iconst (v := zI 0) hC dX12_run_140 rfl ?_
    refine zr_put hC hZ24 fl_X12_302 zb_95 (by decide) (by decide) dX12_run_141 (fun F25 hZ26 => ?_)
    refine g_aload_n hC dX12_run_144 rfl ?_
    refine g_iconst (v := zI 0) hC dX12_run_145 rfl ?_
    refine zr_put hC hZ26 fl_X12_305 zb_96 (by decide) (by decide) dX12_run_146 (fun F27 hZ28 => ?_)
    refine g_aload_n hC dX12_run_149 rfl ?_
    refine g_iconst (v := zI 0) hC dX12_run_150 rfl ?_
    refine zr_put hC hZ28 fl_X12_308 zb_97 (by decide) (by decide) dX12_run_151 (fun F29 hZ30 => ?_)
    refine g_aload_n hC dX12_run_154 rfl ?_
    refine g_aload_n hC dX12_run_155 rfl ?_
    refine zr_geta hC hZ30 fl_X12_99 zb_29 (by decide) dX12_run_156 ?_
    refine g_aload_n hC dX12_run_159 rfl ?_
    refine zr_get (e := (zv s0 82)) hC hZ30 fl_X12_261 zb_82 (by decide) rfl dX12_run_160 ?_
    obtain ⟨o31, h32⟩ := h2
    obtain ⟨o33, h34⟩ := h32
    refine zr_iald (v := (za s0 29 (Int.toNat (zv s0 82)))) hC hZ30 zk_29 zb_29 zn_29 (by decide) o31 o33 rfl dX12_run_163 ?_
    refine g_aload_n hC dX12_run_164 rfl ?_
    refine zr_get (e := (zv s0 81)) hC hZ30 fl_X12_258 zb_81 (by decide) rfl dX12_run_165 ?_
    refine g_iconst (v := zI 0) hC dX12_run_168 rfl ?_
    refine zr_callVv (As := [.int (zI (za s0 29 (Int.toNat (zv s0 82)))), .int (zI (zv s0 81)), .int (zI 0)]) hC hZ30 rfl (rm_enter X.la d b (hZ.ra 29 _) (hZ.rv 81) (by decide) hZ30.rf h34) cl_X12_827 rfl rfl (Nat.le_of_ble_eq_true rfl) ⟨Nat.le_of_ble_eq_true rfl, Nat.le_of_ble_eq_true rfl⟩ dX12_run_169 (fun s36 F37 hZ39 h40 => ?_)
    refine g_lv (lv' := [some (.ref t), none, none]) ⟨rfl, trivial⟩ ?_
    obtain ⟨m41, h42⟩ := h40
    exact rl_run_172 hC  m41 _ _   hZ39 h42
  · have h43 := hw.2 c1
    refine g_aload_n hC dX12_run_57 rfl ?_
    refine zr_geta hC hZ fl_X12_312 zb_98 (by decide) dX12_run_58 ?_
    refine g_aload_n hC dX12_run_61 rfl ?_
    refine zr_geta hC hZ fl_X12_270 zb_85 (by decide) dX12_run_62 ?_
    refine g_iload_n hC dX12_run_65 rfl ?_
    obtain ⟨o44, h45⟩ := h43
    obtain ⟨o46, h47⟩ := h45
    refine zr_iald (v := (za s0 85 (Int.toNat x2))) hC hZ zk_85 zb_85 zn_85 (by decide) o44 o46 rfl dX12_run_66 ?_
    refine g_aload_n hC dX12_run_67 rfl ?_
    refine zr_geta hC hZ fl_X12_273 zb_86 (by decide) dX12_run_68 ?_
    refine g_iload_n hC dX12_run_71 rfl ?_
    obtain ⟨o48, h49⟩ := h47
    obtain ⟨o50, h51⟩ := h49
    refine zr_iald (v := (za s0 86 (Int.toNat x2))) hC hZ zk_86 zb_86 zn_86 (by decide) o48 o50 rfl dX12_run_72 ?_
    obtain ⟨o52, h53⟩ := h51
    obtain ⟨o54, h55⟩ := h53
    refine zr_iast hC hZ zk_98 zb_98 zn_98 (by decide) o52 o54 (hZ.ra 86 _) dX12_run_73 (fun F56 hZ57 => ?_)
    refine zr_iinc (x := x2) (lv' := [some (.ref t), some (.int (zI x1)), some (.int (zI (x2 + 1)))]) hC dX12_run_74 rfl rfl rfl ?_
    refine g_goto (tgt := 49) hC dX12_run_77 (by decide) ?_
    obtain ⟨o58, h59⟩ := h55
    exact hk49 _ _ _ _ Rx1 o58 hZ57 h59
theorem rl_run_49 {X : gX} {d : gD} {b t : Nat} {T : Nat → Nat} {F0 : gM} (hC : gC RX12 cX12_run 3 (some .int) "run" (gR 7 0 0) d b X) {Q : Int → zS → Prop}   : ∀ (m : Nat) (F : gM) (s0 : zS) (x1 : Int) (x2 : Int), zR x1 → zR x2 → zZ d t T F0 F s0 → wr_run_49 Q  m s0 x1 x2 → gG X d b (zQi X d b t T F0 Q) F 0 0 49 [some (.ref t), some (.int (zI x1)), some (.int (zI x2))] [] := by
  intro m
  induction m with
  | zero => intro F s0 x1 x2 Rx1 Rx2 hZ hw; exact False.elim hw
  | succ m ih => intro F s0 x1 x2 Rx1 Rx2 hZ hw; exact rb_run_49 hC  ih Rx1 Rx2 hZ hw
set_option maxHeartbeats 4000000 in
set_option maxRecDepth 100000 in
theorem rb_run_27 {X : gX} {d : gD} {b t : Nat} {T : Nat → Nat} {F0 : gM} (hC : gC RX12 cX12_run 3 (some .int) "run" (gR 7 0 0) d b X) {Q : Int → zS → Prop} {k27 : zS → Int → Int → Prop} (hk27 : ∀ (F : gM) (s0 : zS) (x1 : Int) (x2 : Int), zR x1 → zR x2 → zZ d t T F0 F s0 → k27 s0 x1 x2 → gG X d b (zQi X d b t T F0 Q) F 0 0 27 [some (.ref t), some (.int (zI x1)), some (.int (zI x2))] []) {F : gM} {s0 : zS} {x1 : Int} {x2 : Int} (Rx1 : zR x1) (Rx2 : zR x2) (hZ : zZ d t T F0 F s0) (hw : wr_run_27B Q k27 s0 x1 x2) : gG X d b (zQi X d b t T F0 Q) F 0 0 27 [some (.ref t), some (.int (zI x1)), some (.int (zI x2))] [] := by
  unfold wr_run_27B at hw
  refine g_iload_n hC dX12_run_27 rfl ?_
  refine zr_ldcw (e := 65536) hC dX12_run_28 kw_1955 (by decide) ?_
  refine zr_icmp_ge (tgt := 47) hC Rx2 (by decide) dX12_run_31 (by decide) (fun c1 => ?_) (fun c1 => ?_)
  · have h2 := hw.1 c1
    refine g_iconst (v := zI 0) hC dX12_run_47 rfl ?_
    refine g_istore_n (lv' := [some (.ref t), some (.int (zI x1)), some (.int (zI 0))]) hC dX12_run_48 (Nat.le_of_ble_eq_true rfl) rfl rfl ?_
    obtain ⟨m3, h4⟩ := h2
    exact rl_run_49 hC  m3 _ _ _ _ Rx1 (by decide) hZ h4
  · have h5 := hw.2 c1
    refine g_aload_n hC dX12_run_34 rfl ?_
    refine zr_geta hC hZ fl_X12_312 zb_98 (by decide) dX12_run_35 ?_
    refine g_iload_n hC dX12_run_38 rfl ?_
    refine g_iconst (v := zI 0) hC dX12_run_39 rfl ?_
    obtain ⟨o6, h7⟩ := h5
    obtain ⟨o8, h9⟩ := h7
    refine zr_iast hC hZ zk_98 zb_98 zn_98 (by decide) o6 o8 (by decide) dX12_run_40 (fun F10 hZ11 => ?_)
    refine zr_iinc (x := x2) (lv' := [some (.ref t), some (.int (zI x1)), some (.int (zI (x2 + 1)))]) hC dX12_run_41 rfl rfl rfl ?_
    refine g_goto (tgt := 27) hC dX12_run_44 (by decide) ?_
    obtain ⟨o12, h13⟩ := h9
    exact hk27 _ _ _ _ Rx1 o12 hZ11 h13
theorem rl_run_27 {X : gX} {d : gD} {b t : Nat} {T : Nat → Nat} {F0 : gM} (hC : gC RX12 cX12_run 3 (some .int) "run" (gR 7 0 0) d b X) {Q : Int → zS → Prop}   : ∀ (m : Nat) (F : gM) (s0 : zS) (x1 : Int) (x2 : Int), zR x1 → zR x2 → zZ d t T F0 F s0 → wr_run_27 Q  m s0 x1 x2 → gG X d b (zQi X d b t T F0 Q) F 0 0 27 [some (.ref t), some (.int (zI x1)), some (.int (zI x2))] [] := by
  intro m
  induction m with
  | zero => intro F s0 x1 x2 Rx1 Rx2 hZ hw; exact False.elim hw
  | succ m ih => intro F s0 x1 x2 Rx1 Rx2 hZ hw; exact rb_run_27 hC  ih Rx1 Rx2 hZ hw
set_option maxHeartbeats 4000000 in
set_option maxRecDepth 100000 in
theorem rm_run (l : Launch) (d : gD) (b : Nat) {t : Nat} {T : Nat → Nat} {F : gM} {s0 : zS} {a0 : Int} (Ra0 : zR a0) {Q : Int → zS → Prop} (hZ : zZ d t T F F s0) (hw : wr_run s0 a0 Q) : gMi l d b yX12_run cX12_run 3 .int 7 0 0 F [.ref t, .int (zI a0)] (zPi d t T F Q) := by
  refine gM_of2 rfl (nL := 3) (Nat.le_of_ble_eq_true rfl) ?_
  intro X hX hC; subst hX
  show gG X d b (zQi X d b t T F Q) F 0 0 0 [some (.ref t), some (.int (zI a0)), none] []
  unfold wr_run at hw
  refine g_aload_n hC dX12_run_0 rfl ?_
  refine g_iconst (v := zI 0) hC dX12_run_1 rfl ?_
  refine zr_put hC hZ fl_X12_7 zb_0 (by decide) (by decide) dX12_run_2 (fun F1 hZ2 => ?_)
  refine g_aload_n hC dX12_run_5 rfl ?_
  refine zr_get (e := (zv s0 105)) hC hZ2 fl_X12_333 zb_105 (by decide) rfl dX12_run_6 ?_
  refine zr_if_eq (tgt := 23) hC (hZ.rv 105) dX12_run_9 (by decide) (fun c3 => ?_) (fun c3 => ?_)
  · have h4 := hw.1 c3
    refine g_iconst (v := zI (-1)) hC dX12_run_23 rfl ?_
    exact zr_iret hC hZ2 (by decide) h4 dX12_run_24
  · have h5 := hw.2 c3
    refine g_iload_n hC dX12_run_12 rfl ?_
    refine zr_if_lt (tgt := 23) hC Ra0 dX12_run_13 (by decide) (fun c6 => ?_) (fun c6 => ?_)
    · have h7 := h5.1 c6
      refine g_iconst (v := zI (-1)) hC dX12_run_23 rfl ?_
      exact zr_iret hC hZ2 (by decide) h7 dX12_run_24
    · have h8 := h5.2 c6
      refine g_iload_n hC dX12_run_16 rfl ?_
      refine zr_ldcw (e := 100000) hC dX12_run_17 kw_2761 (by decide) ?_
      refine zr_icmp_le (tgt := 25) hC Ra0 (by decide) dX12_run_20 (by decide) (fun c9 => ?_) (fun c9 => ?_)
      · have h10 := h8.1 c9
        refine g_iconst (v := zI 0) hC dX12_run_25 rfl ?_
        refine g_istore_n (lv' := [some (.ref t), some (.int (zI a0)), some (.int (zI 0))]) hC dX12_run_26 (Nat.le_of_ble_eq_true rfl) rfl rfl ?_
        obtain ⟨m11, h12⟩ := h10
        exact rl_run_27 hC  m11 _ _ _ _ Ra0 (by decide) hZ2 h12
      · have h13 := h8.2 c9
        refine g_iconst (v := zI (-1)) hC dX12_run_23 rfl ?_
        exact zr_iret hC hZ2 (by decide) h13 dX12_run_24
theorem dX12_value_0 : decode cX12_value 0 = .ok (.aload_n 0, 1) := by decide +kernel
theorem dX12_value_1 : decode cX12_value 1 = .ok (.iconst 0, 1) := by decide +kernel
theorem dX12_value_2 : decode cX12_value 2 = .ok (.putfield 7, 3) := by decide +kernel
theorem dX12_value_5 : decode cX12_value 5 = .ok (.aload_n 0, 1) := by decide +kernel
theorem dX12_value_6 : decode cX12_value 6 = .ok (.getfield 330, 3) := by decide +kernel
theorem dX12_value_9 : decode cX12_value 9 = .ok (.ireturn, 1) := by decide +kernel
def wr_value (s0 : zS)  (Q : Int → zS → Prop) : Prop :=
  Q (zv s0 104) (zpv s0 0 0)
set_option maxHeartbeats 4000000 in
set_option maxRecDepth 100000 in
theorem rm_value (l : Launch) (d : gD) (b : Nat) {t : Nat} {T : Nat → Nat} {F : gM} {s0 : zS}   {Q : Int → zS → Prop} (hZ : zZ d t T F F s0) (hw : wr_value s0  Q) : gMi l d b yX12_value cX12_value 1 .int 0 0 0 F [.ref t] (zPi d t T F Q) := by
  refine gM_of2 rfl (nL := 1) (Nat.le_of_ble_eq_true rfl) ?_
  intro X hX hC; subst hX
  show gG X d b (zQi X d b t T F Q) F 0 0 0 [some (.ref t)] []
  unfold wr_value at hw
  refine g_aload_n hC dX12_value_0 rfl ?_
  refine g_iconst (v := zI 0) hC dX12_value_1 rfl ?_
  refine zr_put hC hZ fl_X12_7 zb_0 (by decide) (by decide) dX12_value_2 (fun F1 hZ2 => ?_)
  refine g_aload_n hC dX12_value_5 rfl ?_
  refine zr_get (e := (zv s0 104)) hC hZ2 fl_X12_330 zb_104 (by decide) rfl dX12_value_6 ?_
  exact zr_iret hC hZ2 (hZ.rv 104) hw dX12_value_9
theorem dX12_out_0 : decode cX12_out 0 = .ok (.aload_n 0, 1) := by decide +kernel
theorem dX12_out_1 : decode cX12_out 1 = .ok (.iconst 0, 1) := by decide +kernel
theorem dX12_out_2 : decode cX12_out 2 = .ok (.putfield 7, 3) := by decide +kernel
theorem dX12_out_5 : decode cX12_out 5 = .ok (.iload_n 1, 1) := by decide +kernel
theorem dX12_out_6 : decode cX12_out 6 = .ok (.ifCond .lt 8, 3) := by decide +kernel
theorem dX12_out_9 : decode cX12_out 9 = .ok (.iload_n 1, 1) := by decide +kernel
theorem dX12_out_10 : decode cX12_out 10 = .ok (.iconst 1, 1) := by decide +kernel
theorem dX12_out_11 : decode cX12_out 11 = .ok (.if_icmp .le 7, 3) := by decide +kernel
theorem dX12_out_14 : decode cX12_out 14 = .ok (.iconst (-1), 1) := by decide +kernel
theorem dX12_out_15 : decode cX12_out 15 = .ok (.goto 9, 3) := by decide +kernel
theorem dX12_out_18 : decode cX12_out 18 = .ok (.aload_n 0, 1) := by decide +kernel
theorem dX12_out_19 : decode cX12_out 19 = .ok (.getfield 366, 3) := by decide +kernel
theorem dX12_out_22 : decode cX12_out 22 = .ok (.iload_n 1, 1) := by decide +kernel
theorem dX12_out_23 : decode cX12_out 23 = .ok (.iaload, 1) := by decide +kernel
theorem dX12_out_24 : decode cX12_out 24 = .ok (.ireturn, 1) := by decide +kernel
def wr_out (s0 : zS) (a0 : Int) (Q : Int → zS → Prop) : Prop :=
  ((a0 < 0 → Q (-1) (zpv s0 0 0)) ∧ (¬ a0 < 0 → ((a0 ≤ 1 → (0 ≤ a0) ∧ (a0 < 2) ∧ Q (za s0 116 (Int.toNat a0)) (zpv s0 0 0)) ∧ (¬ a0 ≤ 1 → Q (-1) (zpv s0 0 0)))))
set_option maxHeartbeats 4000000 in
set_option maxRecDepth 100000 in
theorem rm_out (l : Launch) (d : gD) (b : Nat) {t : Nat} {T : Nat → Nat} {F : gM} {s0 : zS} {a0 : Int} (Ra0 : zR a0) {Q : Int → zS → Prop} (hZ : zZ d t T F F s0) (hw : wr_out s0 a0 Q) : gMi l d b yX12_out cX12_out 2 .int 0 0 0 F [.ref t, .int (zI a0)] (zPi d t T F Q) := by
  refine gM_of2 rfl (nL := 2) (Nat.le_of_ble_eq_true rfl) ?_
  intro X hX hC; subst hX
  show gG X d b (zQi X d b t T F Q) F 0 0 0 [some (.ref t), some (.int (zI a0))] []
  unfold wr_out at hw
  refine g_aload_n hC dX12_out_0 rfl ?_
  refine g_iconst (v := zI 0) hC dX12_out_1 rfl ?_
  refine zr_put hC hZ fl_X12_7 zb_0 (by decide) (by decide) dX12_out_2 (fun F1 hZ2 => ?_)
  refine g_iload_n hC dX12_out_5 rfl ?_
  refine zr_if_lt (tgt := 14) hC Ra0 dX12_out_6 (by decide) (fun c3 => ?_) (fun c3 => ?_)
  · have h4 := hw.1 c3
    refine g_iconst (v := zI (-1)) hC dX12_out_14 rfl ?_
    refine g_goto (tgt := 24) hC dX12_out_15 (by decide) ?_
    exact zr_iret hC hZ2 (by decide) h4 dX12_out_24
  · have h5 := hw.2 c3
    refine g_iload_n hC dX12_out_9 rfl ?_
    refine g_iconst (v := zI 1) hC dX12_out_10 rfl ?_
    refine zr_icmp_le (tgt := 18) hC Ra0 (by decide) dX12_out_11 (by decide) (fun c6 => ?_) (fun c6 => ?_)
    · have h7 := h5.1 c6
      refine g_aload_n hC dX12_out_18 rfl ?_
      refine zr_geta hC hZ2 fl_X12_366 zb_116 (by decide) dX12_out_19 ?_
      refine g_iload_n hC dX12_out_22 rfl ?_
      obtain ⟨o8, h9⟩ := h7
      obtain ⟨o10, h11⟩ := h9
      refine zr_iald (v := (za s0 116 (Int.toNat a0))) hC hZ2 zk_116 zb_116 zn_116 (by decide) o8 o10 rfl dX12_out_23 ?_
      exact zr_iret hC hZ2 (hZ.ra 116 _) h11 dX12_out_24
    · have h12 := h5.2 c6
      refine g_iconst (v := zI (-1)) hC dX12_out_14 rfl ?_
      refine g_goto (tgt := 24) hC dX12_out_15 (by decide) ?_
      exact zr_iret hC hZ2 (by decide) h12 dX12_out_24
theorem dX12_outAt_0 : decode cX12_outAt 0 = .ok (.aload_n 0, 1) := by decide +kernel
theorem dX12_outAt_1 : decode cX12_outAt 1 = .ok (.iconst 0, 1) := by decide +kernel
theorem dX12_outAt_2 : decode cX12_outAt 2 = .ok (.putfield 7, 3) := by decide +kernel
theorem dX12_outAt_5 : decode cX12_outAt 5 = .ok (.iload_n 1, 1) := by decide +kernel
theorem dX12_outAt_6 : decode cX12_outAt 6 = .ok (.ifCond .lt 22, 3) := by decide +kernel
theorem dX12_outAt_9 : decode cX12_outAt 9 = .ok (.iload_n 1, 1) := by decide +kernel
theorem dX12_outAt_10 : decode cX12_outAt 10 = .ok (.iconst 1, 1) := by decide +kernel
theorem dX12_outAt_11 : decode cX12_outAt 11 = .ok (.if_icmp .gt 17, 3) := by decide +kernel
theorem dX12_outAt_14 : decode cX12_outAt 14 = .ok (.iload_n 2, 1) := by decide +kernel
theorem dX12_outAt_15 : decode cX12_outAt 15 = .ok (.ifCond .lt 13, 3) := by decide +kernel
theorem dX12_outAt_18 : decode cX12_outAt 18 = .ok (.iload_n 2, 1) := by decide +kernel
theorem dX12_outAt_19 : decode cX12_outAt 19 = .ok (.aload_n 0, 1) := by decide +kernel
theorem dX12_outAt_20 : decode cX12_outAt 20 = .ok (.getfield 366, 3) := by decide +kernel
theorem dX12_outAt_23 : decode cX12_outAt 23 = .ok (.iload_n 1, 1) := by decide +kernel
theorem dX12_outAt_24 : decode cX12_outAt 24 = .ok (.iaload, 1) := by decide +kernel
theorem dX12_outAt_25 : decode cX12_outAt 25 = .ok (.if_icmp .lt 10, 3) := by decide +kernel
theorem dX12_outAt_28 : decode cX12_outAt 28 = .ok (.aload_n 0, 1) := by decide +kernel
theorem dX12_outAt_29 : decode cX12_outAt 29 = .ok (.iconst 1, 1) := by decide +kernel
theorem dX12_outAt_30 : decode cX12_outAt 30 = .ok (.putfield 7, 3) := by decide +kernel
theorem dX12_outAt_33 : decode cX12_outAt 33 = .ok (.iconst 0, 1) := by decide +kernel
theorem dX12_outAt_34 : decode cX12_outAt 34 = .ok (.ireturn, 1) := by decide +kernel
theorem dX12_outAt_35 : decode cX12_outAt 35 = .ok (.aload_n 0, 1) := by decide +kernel
theorem dX12_outAt_36 : decode cX12_outAt 36 = .ok (.getfield 363, 3) := by decide +kernel
theorem dX12_outAt_39 : decode cX12_outAt 39 = .ok (.sipush 4096, 3) := by decide +kernel
theorem dX12_outAt_42 : decode cX12_outAt 42 = .ok (.iload_n 1, 1) := by decide +kernel
theorem dX12_outAt_43 : decode cX12_outAt 43 = .ok (.imul, 1) := by decide +kernel
theorem dX12_outAt_44 : decode cX12_outAt 44 = .ok (.iload_n 2, 1) := by decide +kernel
theorem dX12_outAt_45 : decode cX12_outAt 45 = .ok (.iadd, 1) := by decide +kernel
theorem dX12_outAt_46 : decode cX12_outAt 46 = .ok (.baload, 1) := by decide +kernel
theorem dX12_outAt_47 : decode cX12_outAt 47 = .ok (.sipush 255, 3) := by decide +kernel
theorem dX12_outAt_50 : decode cX12_outAt 50 = .ok (.iand, 1) := by decide +kernel
theorem dX12_outAt_51 : decode cX12_outAt 51 = .ok (.ireturn, 1) := by decide +kernel
def wr_outAt (s0 : zS) (a0 : Int) (a1 : Int) (Q : Int → zS → Prop) : Prop :=
  ((a0 < 0 → Q 0 (zpv (zpv s0 0 0) 0 1)) ∧ (¬ a0 < 0 → ((1 < a0 → Q 0 (zpv (zpv s0 0 0) 0 1)) ∧ (¬ 1 < a0 → ((a1 < 0 → Q 0 (zpv (zpv s0 0 0) 0 1)) ∧ (¬ a1 < 0 → (0 ≤ a0) ∧ (a0 < 2) ∧ ((a1 < (za s0 116 (Int.toNat a0)) → (0 ≤ ((4096 * a0) + a1)) ∧ (((4096 * a0) + a1) < 8192) ∧ Q (zan (za s0 115 (Int.toNat ((4096 * a0) + a1))) 255) (zpv s0 0 0)) ∧ (¬ a1 < (za s0 116 (Int.toNat a0)) → Q 0 (zpv (zpv s0 0 0) 0 1)))))))))
set_option maxHeartbeats 4000000 in
set_option maxRecDepth 100000 in
theorem rm_outAt (l : Launch) (d : gD) (b : Nat) {t : Nat} {T : Nat → Nat} {F : gM} {s0 : zS} {a0 : Int} {a1 : Int} (Ra0 : zR a0) (Ra1 : zR a1) {Q : Int → zS → Prop} (hZ : zZ d t T F F s0) (hw : wr_outAt s0 a0 a1 Q) : gMi l d b yX12_outAt cX12_outAt 3 .int 0 0 0 F [.ref t, .int (zI a0), .int (zI a1)] (zPi d t T F Q) := by
  refine gM_of2 rfl (nL := 3) (Nat.le_of_ble_eq_true rfl) ?_
  intro X hX hC; subst hX
  show gG X d b (zQi X d b t T F Q) F 0 0 0 [some (.ref t), some (.int (zI a0)), some (.int (zI a1))] []
  unfold wr_outAt at hw
  refine g_aload_n hC dX12_outAt_0 rfl ?_
  refine g_iconst (v := zI 0) hC dX12_outAt_1 rfl ?_
  refine zr_put hC hZ fl_X12_7 zb_0 (by decide) (by decide) dX12_outAt_2 (fun F1 hZ2 => ?_)
  refine g_iload_n hC dX12_outAt_5 rfl ?_
  refine zr_if_lt (tgt := 28) hC Ra0 dX12_outAt_6 (by decide) (fun c3 => ?_) (fun c3 => ?_)
  · have h4 := hw.1 c3
    refine g_aload_n hC dX12_outAt_28 rfl ?_
    refine g_iconst (v := zI 1) hC dX12_outAt_29 rfl ?_
    refine zr_put hC hZ2 fl_X12_7 zb_0 (by decide) (by decide) dX12_outAt_30 (fun F5 hZ6 => ?_)
    refine g_iconst (v := zI 0) hC dX12_outAt_33 rfl ?_
    exact zr_iret hC hZ6 (by decide) h4 dX12_outAt_34
  · have h7 := hw.2 c3
    refine g_iload_n hC dX12_outAt_9 rfl ?_
    refine g_iconst (v := zI 1) hC dX12_outAt_10 rfl ?_
    refine zr_icmp_gt (tgt := 28) hC Ra0 (by decide) dX12_outAt_11 (by decide) (fun c8 => ?_) (fun c8 => ?_)
    · have h9 := h7.1 c8
      refine g_aload_n hC dX12_outAt_28 rfl ?_
      refine g_iconst (v := zI 1) hC dX12_outAt_29 rfl ?_
      refine zr_put hC hZ2 fl_X12_7 zb_0 (by decide) (by decide) dX12_outAt_30 (fun F10 hZ11 => ?_)
      refine g_iconst (v := zI 0) hC dX12_outAt_33 rfl ?_
      exact zr_iret hC hZ11 (by decide) h9 dX12_outAt_34
    · have h12 := h7.2 c8
      refine g_iload_n hC dX12_outAt_14 rfl ?_
      refine zr_if_lt (tgt := 28) hC Ra1 dX12_outAt_15 (by decide) (fun c13 => ?_) (fun c13 => ?_)
      · have h14 := h12.1 c13
        refine g_aload_n hC dX12_outAt_28 rfl ?_
        refine g_iconst (v := zI 1) hC dX12_outAt_29 rfl ?_
        refine zr_put hC hZ2 fl_X12_7 zb_0 (by decide) (by decide) dX12_outAt_30 (fun F15 hZ16 => ?_)
        refine g_iconst (v := zI 0) hC dX12_outAt_33 rfl ?_
        exact zr_iret hC hZ16 (by decide) h14 dX12_outAt_34
      · have h17 := h12.2 c13
        refine g_iload_n hC dX12_outAt_18 rfl ?_
        refine g_aload_n hC dX12_outAt_19 rfl ?_
        refine zr_geta hC hZ2 fl_X12_366 zb_116 (by decide) dX12_outAt_20 ?_
        refine g_iload_n hC dX12_outAt_23 rfl ?_
        obtain ⟨o18, h19⟩ := h17
        obtain ⟨o20, h21⟩ := h19
        refine zr_iald (v := (za s0 116 (Int.toNat a0))) hC hZ2 zk_116 zb_116 zn_116 (by decide) o18 o20 rfl dX12_outAt_24 ?_
        refine zr_icmp_lt (tgt := 35) hC Ra1 (hZ.ra 116 _) dX12_outAt_25 (by decide) (fun c22 => ?_) (fun c22 => ?_)
        · have h23 := h21.1 c22
          refine g_aload_n hC dX12_outAt_35 rfl ?_
          refine zr_geta hC hZ2 fl_X12_363 zb_115 (by decide) dX12_outAt_36 ?_
          refine g_sipush (v := zI 4096) hC dX12_outAt_39 rfl ?_
          refine g_iload_n hC dX12_outAt_42 rfl ?_
          refine zr_imul hC dX12_outAt_43 ?_
          refine g_iload_n hC dX12_outAt_44 rfl ?_
          refine zr_iadd hC dX12_outAt_45 ?_
          obtain ⟨o24, h25⟩ := h23
          obtain ⟨o26, h27⟩ := h25
          refine zr_bald (v := (za s0 115 (Int.toNat ((4096 * a0) + a1)))) hC hZ2 zk_115 zb_115 zn_115 (by decide) o24 o26 rfl dX12_outAt_46 ?_
          refine g_sipush (v := zI 255) hC dX12_outAt_47 rfl ?_
          refine zr_iand hC dX12_outAt_50 ?_
          exact zr_iret hC hZ2 (zR_t _) h27 dX12_outAt_51
        · have h28 := h21.2 c22
          refine g_aload_n hC dX12_outAt_28 rfl ?_
          refine g_iconst (v := zI 1) hC dX12_outAt_29 rfl ?_
          refine zr_put hC hZ2 fl_X12_7 zb_0 (by decide) (by decide) dX12_outAt_30 (fun F29 hZ30 => ?_)
          refine g_iconst (v := zI 0) hC dX12_outAt_33 rfl ?_
          exact zr_iret hC hZ30 (by decide) h28 dX12_outAt_34
theorem dX12_word_0 : decode cX12_word 0 = .ok (.aload_n 0, 1) := by decide +kernel
theorem dX12_word_1 : decode cX12_word 1 = .ok (.iconst 0, 1) := by decide +kernel
theorem dX12_word_2 : decode cX12_word 2 = .ok (.putfield 7, 3) := by decide +kernel
theorem dX12_word_5 : decode cX12_word 5 = .ok (.iload_n 1, 1) := by decide +kernel
theorem dX12_word_6 : decode cX12_word 6 = .ok (.ifCond .lt 11, 3) := by decide +kernel
theorem dX12_word_9 : decode cX12_word 9 = .ok (.iload_n 1, 1) := by decide +kernel
theorem dX12_word_10 : decode cX12_word 10 = .ok (.aload_n 0, 1) := by decide +kernel
theorem dX12_word_11 : decode cX12_word 11 = .ok (.getfield 315, 3) := by decide +kernel
theorem dX12_word_14 : decode cX12_word 14 = .ok (.if_icmp .lt 10, 3) := by decide +kernel
theorem dX12_word_17 : decode cX12_word 17 = .ok (.aload_n 0, 1) := by decide +kernel
theorem dX12_word_18 : decode cX12_word 18 = .ok (.iconst 1, 1) := by decide +kernel
theorem dX12_word_19 : decode cX12_word 19 = .ok (.putfield 7, 3) := by decide +kernel
theorem dX12_word_22 : decode cX12_word 22 = .ok (.iconst 0, 1) := by decide +kernel
theorem dX12_word_23 : decode cX12_word 23 = .ok (.ireturn, 1) := by decide +kernel
theorem dX12_word_24 : decode cX12_word 24 = .ok (.aload_n 0, 1) := by decide +kernel
theorem dX12_word_25 : decode cX12_word 25 = .ok (.getfield 312, 3) := by decide +kernel
theorem dX12_word_28 : decode cX12_word 28 = .ok (.iload_n 1, 1) := by decide +kernel
theorem dX12_word_29 : decode cX12_word 29 = .ok (.iaload, 1) := by decide +kernel
theorem dX12_word_30 : decode cX12_word 30 = .ok (.ireturn, 1) := by decide +kernel
def wr_word (s0 : zS) (a0 : Int) (Q : Int → zS → Prop) : Prop :=
  ((a0 < 0 → Q 0 (zpv (zpv s0 0 0) 0 1)) ∧ (¬ a0 < 0 → ((a0 < (zv s0 99) → (0 ≤ a0) ∧ (a0 < 65536) ∧ Q (za s0 98 (Int.toNat a0)) (zpv s0 0 0)) ∧ (¬ a0 < (zv s0 99) → Q 0 (zpv (zpv s0 0 0) 0 1)))))
set_option maxHeartbeats 4000000 in
set_option maxRecDepth 100000 in
theorem rm_word (l : Launch) (d : gD) (b : Nat) {t : Nat} {T : Nat → Nat} {F : gM} {s0 : zS} {a0 : Int} (Ra0 : zR a0) {Q : Int → zS → Prop} (hZ : zZ d t T F F s0) (hw : wr_word s0 a0 Q) : gMi l d b yX12_word cX12_word 2 .int 0 0 0 F [.ref t, .int (zI a0)] (zPi d t T F Q) := by
  refine gM_of2 rfl (nL := 2) (Nat.le_of_ble_eq_true rfl) ?_
  intro X hX hC; subst hX
  show gG X d b (zQi X d b t T F Q) F 0 0 0 [some (.ref t), some (.int (zI a0))] []
  unfold wr_word at hw
  refine g_aload_n hC dX12_word_0 rfl ?_
  refine g_iconst (v := zI 0) hC dX12_word_1 rfl ?_
  refine zr_put hC hZ fl_X12_7 zb_0 (by decide) (by decide) dX12_word_2 (fun F1 hZ2 => ?_)
  refine g_iload_n hC dX12_word_5 rfl ?_
  refine zr_if_lt (tgt := 17) hC Ra0 dX12_word_6 (by decide) (fun c3 => ?_) (fun c3 => ?_)
  · have h4 := hw.1 c3
    refine g_aload_n hC dX12_word_17 rfl ?_
    refine g_iconst (v := zI 1) hC dX12_word_18 rfl ?_
    refine zr_put hC hZ2 fl_X12_7 zb_0 (by decide) (by decide) dX12_word_19 (fun F5 hZ6 => ?_)
    refine g_iconst (v := zI 0) hC dX12_word_22 rfl ?_
    exact zr_iret hC hZ6 (by decide) h4 dX12_word_23
  · have h7 := hw.2 c3
    refine g_iload_n hC dX12_word_9 rfl ?_
    refine g_aload_n hC dX12_word_10 rfl ?_
    refine zr_get (e := (zv s0 99)) hC hZ2 fl_X12_315 zb_99 (by decide) rfl dX12_word_11 ?_
    refine zr_icmp_lt (tgt := 24) hC Ra0 (hZ.rv 99) dX12_word_14 (by decide) (fun c8 => ?_) (fun c8 => ?_)
    · have h9 := h7.1 c8
      refine g_aload_n hC dX12_word_24 rfl ?_
      refine zr_geta hC hZ2 fl_X12_312 zb_98 (by decide) dX12_word_25 ?_
      refine g_iload_n hC dX12_word_28 rfl ?_
      obtain ⟨o10, h11⟩ := h9
      obtain ⟨o12, h13⟩ := h11
      refine zr_iald (v := (za s0 98 (Int.toNat a0))) hC hZ2 zk_98 zb_98 zn_98 (by decide) o10 o12 rfl dX12_word_29 ?_
      exact zr_iret hC hZ2 (hZ.ra 98 _) h13 dX12_word_30
    · have h14 := h7.2 c8
      refine g_aload_n hC dX12_word_17 rfl ?_
      refine g_iconst (v := zI 1) hC dX12_word_18 rfl ?_
      refine zr_put hC hZ2 fl_X12_7 zb_0 (by decide) (by decide) dX12_word_19 (fun F15 hZ16 => ?_)
      refine g_iconst (v := zI 0) hC dX12_word_22 rfl ?_
      exact zr_iret hC hZ16 (by decide) h14 dX12_word_23
theorem dX12_fuel_0 : decode cX12_fuel 0 = .ok (.aload_n 0, 1) := by decide +kernel
theorem dX12_fuel_1 : decode cX12_fuel 1 = .ok (.iconst 0, 1) := by decide +kernel
theorem dX12_fuel_2 : decode cX12_fuel 2 = .ok (.putfield 7, 3) := by decide +kernel
theorem dX12_fuel_5 : decode cX12_fuel 5 = .ok (.aload_n 0, 1) := by decide +kernel
theorem dX12_fuel_6 : decode cX12_fuel 6 = .ok (.getfield 321, 3) := by decide +kernel
theorem dX12_fuel_9 : decode cX12_fuel 9 = .ok (.ireturn, 1) := by decide +kernel
def wr_fuel (s0 : zS)  (Q : Int → zS → Prop) : Prop :=
  Q (zv s0 101) (zpv s0 0 0)
set_option maxHeartbeats 4000000 in
set_option maxRecDepth 100000 in
theorem rm_fuel (l : Launch) (d : gD) (b : Nat) {t : Nat} {T : Nat → Nat} {F : gM} {s0 : zS}   {Q : Int → zS → Prop} (hZ : zZ d t T F F s0) (hw : wr_fuel s0  Q) : gMi l d b yX12_fuel cX12_fuel 1 .int 0 0 0 F [.ref t] (zPi d t T F Q) := by
  refine gM_of2 rfl (nL := 1) (Nat.le_of_ble_eq_true rfl) ?_
  intro X hX hC; subst hX
  show gG X d b (zQi X d b t T F Q) F 0 0 0 [some (.ref t)] []
  unfold wr_fuel at hw
  refine g_aload_n hC dX12_fuel_0 rfl ?_
  refine g_iconst (v := zI 0) hC dX12_fuel_1 rfl ?_
  refine zr_put hC hZ fl_X12_7 zb_0 (by decide) (by decide) dX12_fuel_2 (fun F1 hZ2 => ?_)
  refine g_aload_n hC dX12_fuel_5 rfl ?_
  refine zr_get (e := (zv s0 101)) hC hZ2 fl_X12_321 zb_101 (by decide) rfl dX12_fuel_6 ?_
  exact zr_iret hC hZ2 (hZ.rv 101) hw dX12_fuel_9
