/-! the reference as formulas: isTwice, switchOf, part, go, check, todoTask, err, burns, push, pop, read, write, wordOf, address, turnTodo, evaluate, bin, rel, limit, enter -/
theorem dX12_isTwice_0 : decode cX12_isTwice 0 = .ok (.aload_n 0, 1) := by decide +kernel
theorem dX12_isTwice_1 : decode cX12_isTwice 1 = .ok (.getfield 96, 3) := by decide +kernel
theorem dX12_isTwice_4 : decode cX12_isTwice 4 = .ok (.aload_n 0, 1) := by decide +kernel
theorem dX12_isTwice_5 : decode cX12_isTwice 5 = .ok (.getfield 93, 3) := by decide +kernel
theorem dX12_isTwice_8 : decode cX12_isTwice 8 = .ok (.iload_n 1, 1) := by decide +kernel
theorem dX12_isTwice_9 : decode cX12_isTwice 9 = .ok (.iaload, 1) := by decide +kernel
theorem dX12_isTwice_10 : decode cX12_isTwice 10 = .ok (.iaload, 1) := by decide +kernel
theorem dX12_isTwice_11 : decode cX12_isTwice 11 = .ok (.istore_n 3, 1) := by decide +kernel
theorem dX12_isTwice_12 : decode cX12_isTwice 12 = .ok (.iload_n 3, 1) := by decide +kernel
theorem dX12_isTwice_13 : decode cX12_isTwice 13 = .ok (.ifCond .lt 87, 3) := by decide +kernel
theorem dX12_isTwice_16 : decode cX12_isTwice 16 = .ok (.aload_n 0, 1) := by decide +kernel
theorem dX12_isTwice_17 : decode cX12_isTwice 17 = .ok (.getfield 93, 3) := by decide +kernel
theorem dX12_isTwice_20 : decode cX12_isTwice 20 = .ok (.iload_n 3, 1) := by decide +kernel
theorem dX12_isTwice_21 : decode cX12_isTwice 21 = .ok (.iaload, 1) := by decide +kernel
theorem dX12_isTwice_22 : decode cX12_isTwice 22 = .ok (.istore 4, 2) := by decide +kernel
theorem dX12_isTwice_24 : decode cX12_isTwice 24 = .ok (.iload 4, 2) := by decide +kernel
theorem dX12_isTwice_26 : decode cX12_isTwice 26 = .ok (.ifCond .lt 64, 3) := by decide +kernel
theorem dX12_isTwice_29 : decode cX12_isTwice 29 = .ok (.iload 4, 2) := by decide +kernel
theorem dX12_isTwice_31 : decode cX12_isTwice 31 = .ok (.iload_n 2, 1) := by decide +kernel
theorem dX12_isTwice_32 : decode cX12_isTwice 32 = .ok (.if_icmp .ne 5, 3) := by decide +kernel
theorem dX12_isTwice_35 : decode cX12_isTwice 35 = .ok (.iconst 0, 1) := by decide +kernel
theorem dX12_isTwice_36 : decode cX12_isTwice 36 = .ok (.ireturn, 1) := by decide +kernel
theorem dX12_isTwice_37 : decode cX12_isTwice 37 = .ok (.aload_n 0, 1) := by decide +kernel
theorem dX12_isTwice_38 : decode cX12_isTwice 38 = .ok (.getfield 87, 3) := by decide +kernel
theorem dX12_isTwice_41 : decode cX12_isTwice 41 = .ok (.iload 4, 2) := by decide +kernel
theorem dX12_isTwice_43 : decode cX12_isTwice 43 = .ok (.baload, 1) := by decide +kernel
theorem dX12_isTwice_44 : decode cX12_isTwice 44 = .ok (.bipush 43, 2) := by decide +kernel
theorem dX12_isTwice_46 : decode cX12_isTwice 46 = .ok (.if_icmp .ne 32, 3) := by decide +kernel
theorem dX12_isTwice_49 : decode cX12_isTwice 49 = .ok (.aload_n 0, 1) := by decide +kernel
theorem dX12_isTwice_50 : decode cX12_isTwice 50 = .ok (.getfield 102, 3) := by decide +kernel
theorem dX12_isTwice_53 : decode cX12_isTwice 53 = .ok (.iload 4, 2) := by decide +kernel
theorem dX12_isTwice_55 : decode cX12_isTwice 55 = .ok (.iaload, 1) := by decide +kernel
theorem dX12_isTwice_56 : decode cX12_isTwice 56 = .ok (.iconst 1, 1) := by decide +kernel
theorem dX12_isTwice_57 : decode cX12_isTwice 57 = .ok (.if_icmp .ne 21, 3) := by decide +kernel
theorem dX12_isTwice_60 : decode cX12_isTwice 60 = .ok (.aload_n 0, 1) := by decide +kernel
theorem dX12_isTwice_61 : decode cX12_isTwice 61 = .ok (.getfield 99, 3) := by decide +kernel
theorem dX12_isTwice_64 : decode cX12_isTwice 64 = .ok (.iload 4, 2) := by decide +kernel
theorem dX12_isTwice_66 : decode cX12_isTwice 66 = .ok (.iaload, 1) := by decide +kernel
theorem dX12_isTwice_67 : decode cX12_isTwice 67 = .ok (.aload_n 0, 1) := by decide +kernel
theorem dX12_isTwice_68 : decode cX12_isTwice 68 = .ok (.getfield 99, 3) := by decide +kernel
theorem dX12_isTwice_71 : decode cX12_isTwice 71 = .ok (.iload_n 2, 1) := by decide +kernel
theorem dX12_isTwice_72 : decode cX12_isTwice 72 = .ok (.iaload, 1) := by decide +kernel
theorem dX12_isTwice_73 : decode cX12_isTwice 73 = .ok (.if_icmp .ne 5, 3) := by decide +kernel
theorem dX12_isTwice_76 : decode cX12_isTwice 76 = .ok (.iconst 1, 1) := by decide +kernel
theorem dX12_isTwice_77 : decode cX12_isTwice 77 = .ok (.ireturn, 1) := by decide +kernel
theorem dX12_isTwice_78 : decode cX12_isTwice 78 = .ok (.aload_n 0, 1) := by decide +kernel
theorem dX12_isTwice_79 : decode cX12_isTwice 79 = .ok (.getfield 96, 3) := by decide +kernel
theorem dX12_isTwice_82 : decode cX12_isTwice 82 = .ok (.iload 4, 2) := by decide +kernel
theorem dX12_isTwice_84 : decode cX12_isTwice 84 = .ok (.iaload, 1) := by decide +kernel
theorem dX12_isTwice_85 : decode cX12_isTwice 85 = .ok (.istore 4, 2) := by decide +kernel
theorem dX12_isTwice_87 : decode cX12_isTwice 87 = .ok (.goto (-63), 3) := by decide +kernel
theorem dX12_isTwice_90 : decode cX12_isTwice 90 = .ok (.aload_n 0, 1) := by decide +kernel
theorem dX12_isTwice_91 : decode cX12_isTwice 91 = .ok (.getfield 96, 3) := by decide +kernel
theorem dX12_isTwice_94 : decode cX12_isTwice 94 = .ok (.iload_n 3, 1) := by decide +kernel
theorem dX12_isTwice_95 : decode cX12_isTwice 95 = .ok (.iaload, 1) := by decide +kernel
theorem dX12_isTwice_96 : decode cX12_isTwice 96 = .ok (.istore_n 3, 1) := by decide +kernel
theorem dX12_isTwice_97 : decode cX12_isTwice 97 = .ok (.goto (-85), 3) := by decide +kernel
theorem dX12_isTwice_100 : decode cX12_isTwice 100 = .ok (.iconst 0, 1) := by decide +kernel
theorem dX12_isTwice_101 : decode cX12_isTwice 101 = .ok (.ireturn, 1) := by decide +kernel
def wr_isTwice_24B (Q : Int → zS → Prop) (k12 : zS → Int → Int → Prop) (k24 : zS → Int → Int → Int → Prop) (s0 : zS) (x2 : Int) (x3 : Int) (x4 : Int) : Prop :=
  ((x4 < 0 → (0 ≤ x3) ∧ (x3 < 26000) ∧ k12 s0 x2 (za s0 28 (Int.toNat x3))) ∧ (¬ x4 < 0 → ((¬ x4 = x2 → (0 ≤ x4) ∧ (x4 < 26000) ∧ ((¬ (za s0 25 (Int.toNat x4)) = 43 → (0 ≤ x4) ∧ (x4 < 26000) ∧ k24 s0 x2 x3 (za s0 28 (Int.toNat x4))) ∧ ((za s0 25 (Int.toNat x4)) = 43 → (0 ≤ x4) ∧ (x4 < 26000) ∧ ((¬ (za s0 30 (Int.toNat x4)) = 1 → (0 ≤ x4) ∧ (x4 < 26000) ∧ k24 s0 x2 x3 (za s0 28 (Int.toNat x4))) ∧ ((za s0 30 (Int.toNat x4)) = 1 → (0 ≤ x4) ∧ (x4 < 26000) ∧ (0 ≤ x2) ∧ (x2 < 26000) ∧ ((¬ (za s0 29 (Int.toNat x4)) = (za s0 29 (Int.toNat x2)) → (0 ≤ x4) ∧ (x4 < 26000) ∧ k24 s0 x2 x3 (za s0 28 (Int.toNat x4))) ∧ ((za s0 29 (Int.toNat x4)) = (za s0 29 (Int.toNat x2)) → Q 1 s0))))))) ∧ (x4 = x2 → Q 0 s0))))
def wr_isTwice_24 (Q : Int → zS → Prop) (k12 : zS → Int → Int → Prop) : Nat → zS → Int → Int → Int → Prop
  | 0 => fun _ _ _ _ => False
  | m + 1 => fun s0 x2 x3 x4 => wr_isTwice_24B Q k12 (wr_isTwice_24 Q k12 m) s0 x2 x3 x4
def wr_isTwice_12B (Q : Int → zS → Prop) (k12 : zS → Int → Int → Prop) (s0 : zS) (x2 : Int) (x3 : Int) : Prop :=
  ((x3 < 0 → Q 0 s0) ∧ (¬ x3 < 0 → (0 ≤ x3) ∧ (x3 < 26000) ∧ ∃ n, wr_isTwice_24 Q k12 n s0 x2 x3 (za s0 27 (Int.toNat x3))))
def wr_isTwice_12 (Q : Int → zS → Prop)  : Nat → zS → Int → Int → Prop
  | 0 => fun _ _ _ => False
  | m + 1 => fun s0 x2 x3 => wr_isTwice_12B Q  (wr_isTwice_12 Q  m) s0 x2 x3
def wr_isTwice (s0 : zS) (a0 : Int) (a1 : Int) (Q : Int → zS → Prop) : Prop :=
  (0 ≤ a0) ∧ (a0 < 26000) ∧ (0 ≤ (za s0 27 (Int.toNat a0))) ∧ ((za s0 27 (Int.toNat a0)) < 26000) ∧ ∃ n, wr_isTwice_12 Q  n s0 a1 (za s0 28 (Int.toNat (za s0 27 (Int.toNat a0))))
set_option maxHeartbeats 4000000 in
set_option maxRecDepth 100000 in
theorem rb_isTwice_24 {X : gX} {d : gD} {b t : Nat} {T : Nat → Nat} {F0 : gM} (hC : gC RX12 cX12_isTwice 5 (some .boolean) "isTwice" (gR 0 0 0) d b X) {Q : Int → zS → Prop} {k12 : zS → Int → Int → Prop} {k24 : zS → Int → Int → Int → Prop} (hk12 : ∀ (F : gM) (s0 : zS) (x2 : Int) (x3 : Int), zR x2 → zR x3 → zZ d t T F0 F s0 → k12 s0 x2 x3 → gG X d b (zQi X d b t T F0 Q) F 0 0 12 [some (.ref t), none, some (.int (zI x2)), some (.int (zI x3)), none] []) (hk24 : ∀ (F : gM) (s0 : zS) (x2 : Int) (x3 : Int) (x4 : Int), zR x2 → zR x3 → zR x4 → zZ d t T F0 F s0 → k24 s0 x2 x3 x4 → gG X d b (zQi X d b t T F0 Q) F 0 0 24 [some (.ref t), none, some (.int (zI x2)), some (.int (zI x3)), some (.int (zI x4))] []) {F : gM} {s0 : zS} {x2 : Int} {x3 : Int} {x4 : Int} (Rx2 : zR x2) (Rx3 : zR x3) (Rx4 : zR x4) (hZ : zZ d t T F0 F s0) (hw : wr_isTwice_24B Q k12 k24 s0 x2 x3 x4) : gG X d b (zQi X d b t T F0 Q) F 0 0 24 [some (.ref t), none, some (.int (zI x2)), some (.int (zI x3)), some (.int (zI x4))] [] := by
  unfold wr_isTwice_24B at hw
  refine g_iload hC dX12_isTwice_24 rfl ?_
  refine zr_if_lt (tgt := 90) hC Rx4 dX12_isTwice_26 (by decide) (fun c1 => ?_) (fun c1 => ?_)
  · have h2 := hw.1 c1
    refine g_aload_n hC dX12_isTwice_90 rfl ?_
    refine zr_geta hC hZ fl_X12_96 zb_28 (by decide) dX12_isTwice_91 ?_
    refine g_iload_n hC dX12_isTwice_94 rfl ?_
    obtain ⟨o3, h4⟩ := h2
    obtain ⟨o5, h6⟩ := h4
    refine zr_iald (v := (za s0 28 (Int.toNat x3))) hC hZ zk_28 zb_28 zn_28 (by decide) o3 o5 rfl dX12_isTwice_95 ?_
    refine g_istore_n (lv' := [some (.ref t), none, some (.int (zI x2)), some (.int (zI (za s0 28 (Int.toNat x3)))), some (.int (zI x4))]) hC dX12_isTwice_96 (Nat.le_of_ble_eq_true rfl) rfl rfl ?_
    refine g_goto (tgt := 12) hC dX12_isTwice_97 (by decide) ?_
    refine g_lv (lv' := [some (.ref t), none, some (.int (zI x2)), some (.int (zI (za s0 28 (Int.toNat x3)))), none]) ⟨rfl, rfl, rfl, trivial⟩ ?_
    exact hk12 _ _ _ _ Rx2 (hZ.ra 28 _) hZ h6
  · have h7 := hw.2 c1
    refine g_iload hC dX12_isTwice_29 rfl ?_
    refine g_iload_n hC dX12_isTwice_31 rfl ?_
    refine zr_icmp_ne (tgt := 37) hC Rx4 Rx2 dX12_isTwice_32 (by decide) (fun c8 => ?_) (fun c8 => ?_)
    · have h9 := h7.1 c8
      refine g_aload_n hC dX12_isTwice_37 rfl ?_
      refine zr_geta hC hZ fl_X12_87 zb_25 (by decide) dX12_isTwice_38 ?_
      refine g_iload hC dX12_isTwice_41 rfl ?_
      obtain ⟨o10, h11⟩ := h9
      obtain ⟨o12, h13⟩ := h11
      refine zr_bald (v := (za s0 25 (Int.toNat x4))) hC hZ zk_25 zb_25 zn_25 (by decide) o10 o12 rfl dX12_isTwice_43 ?_
      refine g_bipush (v := zI 43) hC dX12_isTwice_44 rfl ?_
      refine zr_icmp_ne (tgt := 78) hC (hZ.ra 25 _) (by decide) dX12_isTwice_46 (by decide) (fun c14 => ?_) (fun c14 => ?_)
      · have h15 := h13.1 c14
        refine g_aload_n hC dX12_isTwice_78 rfl ?_
        refine zr_geta hC hZ fl_X12_96 zb_28 (by decide) dX12_isTwice_79 ?_
        refine g_iload hC dX12_isTwice_82 rfl ?_
        obtain ⟨o16, h17⟩ := h15
        obtain ⟨o18, h19⟩ := h17
        refine zr_iald (v := (za s0 28 (Int.toNat x4))) hC hZ zk_28 zb_28 zn_28 (by decide) o16 o18 rfl dX12_isTwice_84 ?_
        refine g_istore (lv' := [some (.ref t), none, some (.int (zI x2)), some (.int (zI x3)), some (.int (zI (za s0 28 (Int.toNat x4))))]) hC dX12_isTwice_85 (Nat.le_of_ble_eq_true rfl) rfl rfl ?_
        refine g_goto (tgt := 24) hC dX12_isTwice_87 (by decide) ?_
        exact hk24 _ _ _ _ _ Rx2 Rx3 (hZ.ra 28 _) hZ h19
      · have h20 := h13.2 c14
        refine g_aload_n hC dX12_isTwice_49 rfl ?_
        refine zr_geta hC hZ fl_X12_102 zb_30 (by decide) dX12_isTwice_50 ?_
        refine g_iload hC dX12_isTwice_53 rfl ?_
        obtain ⟨o21, h22⟩ := h20
        obtain ⟨o23, h24⟩ := h22
        refine zr_iald (v := (za s0 30 (Int.toNat x4))) hC hZ zk_30 zb_30 zn_30 (by decide) o21 o23 rfl dX12_isTwice_55 ?_
        refine g_iconst (v := zI 1) hC dX12_isTwice_56 rfl ?_
        refine zr_icmp_ne (tgt := 78) hC (hZ.ra 30 _) (by decide) dX12_isTwice_57 (by decide) (fun c25 => ?_) (fun c25 => ?_)
        · have h26 := h24.1 c25
          refine g_aload_n hC dX12_isTwice_78 rfl ?_
          refine zr_geta hC hZ fl_X12_96 zb_28 (by decide) dX12_isTwice_79 ?_
          refine g_iload hC dX12_isTwice_82 rfl ?_
          obtain ⟨o27, h28⟩ := h26
          obtain ⟨o29, h30⟩ := h28
          refine zr_iald (v := (za s0 28 (Int.toNat x4))) hC hZ zk_28 zb_28 zn_28 (by decide) o27 o29 rfl dX12_isTwice_84 ?_
          refine g_istore (lv' := [some (.ref t), none, some (.int (zI x2)), some (.int (zI x3)), some (.int (zI (za s0 28 (Int.toNat x4))))]) hC dX12_isTwice_85 (Nat.le_of_ble_eq_true rfl) rfl rfl ?_
          refine g_goto (tgt := 24) hC dX12_isTwice_87 (by decide) ?_
          exact hk24 _ _ _ _ _ Rx2 Rx3 (hZ.ra 28 _) hZ h30
        · have h31 := h24.2 c25
          refine g_aload_n hC dX12_isTwice_60 rfl ?_
          refine zr_geta hC hZ fl_X12_99 zb_29 (by decide) dX12_isTwice_61 ?_
          refine g_iload hC dX12_isTwice_64 rfl ?_
          obtain ⟨o32, h33⟩ := h31
          obtain ⟨o34, h35⟩ := h33
          refine zr_iald (v := (za s0 29 (Int.toNat x4))) hC hZ zk_29 zb_29 zn_29 (by decide) o32 o34 rfl dX12_isTwice_66 ?_
          refine g_aload_n hC dX12_isTwice_67 rfl ?_
          refine zr_geta hC hZ fl_X12_99 zb_29 (by decide) dX12_isTwice_68 ?_
          refine g_iload_n hC dX12_isTwice_71 rfl ?_
          obtain ⟨o36, h37⟩ := h35
          obtain ⟨o38, h39⟩ := h37
          refine zr_iald (v := (za s0 29 (Int.toNat x2))) hC hZ zk_29 zb_29 zn_29 (by decide) o36 o38 rfl dX12_isTwice_72 ?_
          refine zr_icmp_ne (tgt := 78) hC (hZ.ra 29 _) (hZ.ra 29 _) dX12_isTwice_73 (by decide) (fun c40 => ?_) (fun c40 => ?_)
          · have h41 := h39.1 c40
            refine g_aload_n hC dX12_isTwice_78 rfl ?_
            refine zr_geta hC hZ fl_X12_96 zb_28 (by decide) dX12_isTwice_79 ?_
            refine g_iload hC dX12_isTwice_82 rfl ?_
            obtain ⟨o42, h43⟩ := h41
            obtain ⟨o44, h45⟩ := h43
            refine zr_iald (v := (za s0 28 (Int.toNat x4))) hC hZ zk_28 zb_28 zn_28 (by decide) o42 o44 rfl dX12_isTwice_84 ?_
            refine g_istore (lv' := [some (.ref t), none, some (.int (zI x2)), some (.int (zI x3)), some (.int (zI (za s0 28 (Int.toNat x4))))]) hC dX12_isTwice_85 (Nat.le_of_ble_eq_true rfl) rfl rfl ?_
            refine g_goto (tgt := 24) hC dX12_isTwice_87 (by decide) ?_
            exact hk24 _ _ _ _ _ Rx2 Rx3 (hZ.ra 28 _) hZ h45
          · have h46 := h39.2 c40
            refine g_iconst (v := zI 1) hC dX12_isTwice_76 rfl ?_
            exact zr_zret hC hZ (Or.inr rfl) h46 dX12_isTwice_77
    · have h47 := h7.2 c8
      refine g_iconst (v := zI 0) hC dX12_isTwice_35 rfl ?_
      exact zr_zret hC hZ (Or.inl rfl) h47 dX12_isTwice_36
theorem rl_isTwice_24 {X : gX} {d : gD} {b t : Nat} {T : Nat → Nat} {F0 : gM} (hC : gC RX12 cX12_isTwice 5 (some .boolean) "isTwice" (gR 0 0 0) d b X) {Q : Int → zS → Prop} {k12 : zS → Int → Int → Prop} (hk12 : ∀ (F : gM) (s0 : zS) (x2 : Int) (x3 : Int), zR x2 → zR x3 → zZ d t T F0 F s0 → k12 s0 x2 x3 → gG X d b (zQi X d b t T F0 Q) F 0 0 12 [some (.ref t), none, some (.int (zI x2)), some (.int (zI x3)), none] []) : ∀ (m : Nat) (F : gM) (s0 : zS) (x2 : Int) (x3 : Int) (x4 : Int), zR x2 → zR x3 → zR x4 → zZ d t T F0 F s0 → wr_isTwice_24 Q k12 m s0 x2 x3 x4 → gG X d b (zQi X d b t T F0 Q) F 0 0 24 [some (.ref t), none, some (.int (zI x2)), some (.int (zI x3)), some (.int (zI x4))] [] := by
  intro m
  induction m with
  | zero => intro F s0 x2 x3 x4 Rx2 Rx3 Rx4 hZ hw; exact False.elim hw
  | succ m ih => intro F s0 x2 x3 x4 Rx2 Rx3 Rx4 hZ hw; exact rb_isTwice_24 hC hk12 ih Rx2 Rx3 Rx4 hZ hw
set_option maxHeartbeats 4000000 in
set_option maxRecDepth 100000 in
theorem rb_isTwice_12 {X : gX} {d : gD} {b t : Nat} {T : Nat → Nat} {F0 : gM} (hC : gC RX12 cX12_isTwice 5 (some .boolean) "isTwice" (gR 0 0 0) d b X) {Q : Int → zS → Prop} {k12 : zS → Int → Int → Prop} (hk12 : ∀ (F : gM) (s0 : zS) (x2 : Int) (x3 : Int), zR x2 → zR x3 → zZ d t T F0 F s0 → k12 s0 x2 x3 → gG X d b (zQi X d b t T F0 Q) F 0 0 12 [some (.ref t), none, some (.int (zI x2)), some (.int (zI x3)), none] []) {F : gM} {s0 : zS} {x2 : Int} {x3 : Int} (Rx2 : zR x2) (Rx3 : zR x3) (hZ : zZ d t T F0 F s0) (hw : wr_isTwice_12B Q k12 s0 x2 x3) : gG X d b (zQi X d b t T F0 Q) F 0 0 12 [some (.ref t), none, some (.int (zI x2)), some (.int (zI x3)), none] [] := by
  unfold wr_isTwice_12B at hw
  refine g_iload_n hC dX12_isTwice_12 rfl ?_
  refine zr_if_lt (tgt := 100) hC Rx3 dX12_isTwice_13 (by decide) (fun c1 => ?_) (fun c1 => ?_)
  · have h2 := hw.1 c1
    refine g_iconst (v := zI 0) hC dX12_isTwice_100 rfl ?_
    exact zr_zret hC hZ (Or.inl rfl) h2 dX12_isTwice_101
  · have h3 := hw.2 c1
    refine g_aload_n hC dX12_isTwice_16 rfl ?_
    refine zr_geta hC hZ fl_X12_93 zb_27 (by decide) dX12_isTwice_17 ?_
    refine g_iload_n hC dX12_isTwice_20 rfl ?_
    obtain ⟨o4, h5⟩ := h3
    obtain ⟨o6, h7⟩ := h5
    refine zr_iald (v := (za s0 27 (Int.toNat x3))) hC hZ zk_27 zb_27 zn_27 (by decide) o4 o6 rfl dX12_isTwice_21 ?_
    refine g_istore (lv' := [some (.ref t), none, some (.int (zI x2)), some (.int (zI x3)), some (.int (zI (za s0 27 (Int.toNat x3))))]) hC dX12_isTwice_22 (Nat.le_of_ble_eq_true rfl) rfl rfl ?_
    obtain ⟨m8, h9⟩ := h7
    exact rl_isTwice_24 hC hk12 m8 _ _ _ _ _ Rx2 Rx3 (hZ.ra 27 _) hZ h9
theorem rl_isTwice_12 {X : gX} {d : gD} {b t : Nat} {T : Nat → Nat} {F0 : gM} (hC : gC RX12 cX12_isTwice 5 (some .boolean) "isTwice" (gR 0 0 0) d b X) {Q : Int → zS → Prop}   : ∀ (m : Nat) (F : gM) (s0 : zS) (x2 : Int) (x3 : Int), zR x2 → zR x3 → zZ d t T F0 F s0 → wr_isTwice_12 Q  m s0 x2 x3 → gG X d b (zQi X d b t T F0 Q) F 0 0 12 [some (.ref t), none, some (.int (zI x2)), some (.int (zI x3)), none] [] := by
  intro m
  induction m with
  | zero => intro F s0 x2 x3 Rx2 Rx3 hZ hw; exact False.elim hw
  | succ m ih => intro F s0 x2 x3 Rx2 Rx3 hZ hw; exact rb_isTwice_12 hC  ih Rx2 Rx3 hZ hw
set_option maxHeartbeats 4000000 in
set_option maxRecDepth 100000 in
theorem rm_isTwice (l : Launch) (d : gD) (b : Nat) {t : Nat} {T : Nat → Nat} {F : gM} {s0 : zS} {a0 : Int} {a1 : Int} (Ra0 : zR a0) (Ra1 : zR a1) {Q : Int → zS → Prop} (hZ : zZ d t T F F s0) (hw : wr_isTwice s0 a0 a1 Q) : gMi l d b yX12_isTwice cX12_isTwice 5 .boolean 0 0 0 F [.ref t, .int (zI a0), .int (zI a1)] (zPi d t T F Q) := by
  refine gM_of2 rfl (nL := 5) (Nat.le_of_ble_eq_true rfl) ?_
  intro X hX hC; subst hX
  show gG X d b (zQi X d b t T F Q) F 0 0 0 [some (.ref t), some (.int (zI a0)), some (.int (zI a1)), none, none] []
  unfold wr_isTwice at hw
  refine g_aload_n hC dX12_isTwice_0 rfl ?_
  refine zr_geta hC hZ fl_X12_96 zb_28 (by decide) dX12_isTwice_1 ?_
  refine g_aload_n hC dX12_isTwice_4 rfl ?_
  refine zr_geta hC hZ fl_X12_93 zb_27 (by decide) dX12_isTwice_5 ?_
  refine g_iload_n hC dX12_isTwice_8 rfl ?_
  obtain ⟨o1, h2⟩ := hw
  obtain ⟨o3, h4⟩ := h2
  refine zr_iald (v := (za s0 27 (Int.toNat a0))) hC hZ zk_27 zb_27 zn_27 (by decide) o1 o3 rfl dX12_isTwice_9 ?_
  obtain ⟨o5, h6⟩ := h4
  obtain ⟨o7, h8⟩ := h6
  refine zr_iald (v := (za s0 28 (Int.toNat (za s0 27 (Int.toNat a0))))) hC hZ zk_28 zb_28 zn_28 (by decide) o5 o7 rfl dX12_isTwice_10 ?_
  refine g_istore_n (lv' := [some (.ref t), some (.int (zI a0)), some (.int (zI a1)), some (.int (zI (za s0 28 (Int.toNat (za s0 27 (Int.toNat a0)))))), none]) hC dX12_isTwice_11 (Nat.le_of_ble_eq_true rfl) rfl rfl ?_
  refine g_lv (lv' := [some (.ref t), none, some (.int (zI a1)), some (.int (zI (za s0 28 (Int.toNat (za s0 27 (Int.toNat a0)))))), none]) ⟨rfl, rfl, rfl, trivial⟩ ?_
  obtain ⟨m9, h10⟩ := h8
  exact rl_isTwice_12 hC  m9 _ _ _ _ Ra1 (hZ.ra 28 _) hZ h10
theorem dX12_switchOf_0 : decode cX12_switchOf 0 = .ok (.aload_n 0, 1) := by decide +kernel
theorem dX12_switchOf_1 : decode cX12_switchOf 1 = .ok (.invokevirtual 770, 3) := by decide +kernel
theorem dX12_switchOf_4 : decode cX12_switchOf 4 = .ok (.aload_n 0, 1) := by decide +kernel
theorem dX12_switchOf_5 : decode cX12_switchOf 5 = .ok (.dup, 1) := by decide +kernel
theorem dX12_switchOf_6 : decode cX12_switchOf 6 = .ok (.getfield 255, 3) := by decide +kernel
theorem dX12_switchOf_9 : decode cX12_switchOf 9 = .ok (.iconst 1, 1) := by decide +kernel
theorem dX12_switchOf_10 : decode cX12_switchOf 10 = .ok (.iadd, 1) := by decide +kernel
theorem dX12_switchOf_11 : decode cX12_switchOf 11 = .ok (.putfield 255, 3) := by decide +kernel
theorem dX12_switchOf_14 : decode cX12_switchOf 14 = .ok (.aload_n 0, 1) := by decide +kernel
theorem dX12_switchOf_15 : decode cX12_switchOf 15 = .ok (.iload_n 1, 1) := by decide +kernel
theorem dX12_switchOf_16 : decode cX12_switchOf 16 = .ok (.invokevirtual 773, 3) := by decide +kernel
theorem dX12_switchOf_19 : decode cX12_switchOf 19 = .ok (.iconst 0, 1) := by decide +kernel
theorem dX12_switchOf_20 : decode cX12_switchOf 20 = .ok (.istore_n 2, 1) := by decide +kernel
theorem dX12_switchOf_21 : decode cX12_switchOf 21 = .ok (.aload_n 0, 1) := by decide +kernel
theorem dX12_switchOf_22 : decode cX12_switchOf 22 = .ok (.bipush 9, 2) := by decide +kernel
theorem dX12_switchOf_24 : decode cX12_switchOf 24 = .ok (.iconst 0, 1) := by decide +kernel
theorem dX12_switchOf_25 : decode cX12_switchOf 25 = .ok (.iconst (-1), 1) := by decide +kernel
theorem dX12_switchOf_26 : decode cX12_switchOf 26 = .ok (.invokevirtual 647, 3) := by decide +kernel
theorem dX12_switchOf_29 : decode cX12_switchOf 29 = .ok (.aload_n 0, 1) := by decide +kernel
theorem dX12_switchOf_30 : decode cX12_switchOf 30 = .ok (.getfield 203, 3) := by decide +kernel
theorem dX12_switchOf_33 : decode cX12_switchOf 33 = .ok (.istore_n 3, 1) := by decide +kernel
theorem dX12_switchOf_34 : decode cX12_switchOf 34 = .ok (.aload_n 0, 1) := by decide +kernel
theorem dX12_switchOf_35 : decode cX12_switchOf 35 = .ok (.getfield 96, 3) := by decide +kernel
theorem dX12_switchOf_38 : decode cX12_switchOf 38 = .ok (.aload_n 0, 1) := by decide +kernel
theorem dX12_switchOf_39 : decode cX12_switchOf 39 = .ok (.getfield 93, 3) := by decide +kernel
theorem dX12_switchOf_42 : decode cX12_switchOf 42 = .ok (.iload_n 1, 1) := by decide +kernel
theorem dX12_switchOf_43 : decode cX12_switchOf 43 = .ok (.iaload, 1) := by decide +kernel
theorem dX12_switchOf_44 : decode cX12_switchOf 44 = .ok (.iaload, 1) := by decide +kernel
theorem dX12_switchOf_45 : decode cX12_switchOf 45 = .ok (.istore 4, 2) := by decide +kernel
theorem dX12_switchOf_47 : decode cX12_switchOf 47 = .ok (.iload 4, 2) := by decide +kernel
theorem dX12_switchOf_49 : decode cX12_switchOf 49 = .ok (.ifCond .lt 179, 3) := by decide +kernel
theorem dX12_switchOf_52 : decode cX12_switchOf 52 = .ok (.aload_n 0, 1) := by decide +kernel
theorem dX12_switchOf_53 : decode cX12_switchOf 53 = .ok (.getfield 93, 3) := by decide +kernel
theorem dX12_switchOf_56 : decode cX12_switchOf 56 = .ok (.iload 4, 2) := by decide +kernel
theorem dX12_switchOf_58 : decode cX12_switchOf 58 = .ok (.iaload, 1) := by decide +kernel
theorem dX12_switchOf_59 : decode cX12_switchOf 59 = .ok (.istore 5, 2) := by decide +kernel
theorem dX12_switchOf_61 : decode cX12_switchOf 61 = .ok (.iload 5, 2) := by decide +kernel
theorem dX12_switchOf_63 : decode cX12_switchOf 63 = .ok (.ifCond .lt 144, 3) := by decide +kernel
theorem dX12_switchOf_66 : decode cX12_switchOf 66 = .ok (.aload_n 0, 1) := by decide +kernel
theorem dX12_switchOf_67 : decode cX12_switchOf 67 = .ok (.getfield 87, 3) := by decide +kernel
theorem dX12_switchOf_70 : decode cX12_switchOf 70 = .ok (.iload 5, 2) := by decide +kernel
theorem dX12_switchOf_72 : decode cX12_switchOf 72 = .ok (.baload, 1) := by decide +kernel
theorem dX12_switchOf_73 : decode cX12_switchOf 73 = .ok (.bipush 44, 2) := by decide +kernel
theorem dX12_switchOf_75 : decode cX12_switchOf 75 = .ok (.if_icmp .ne 26, 3) := by decide +kernel
theorem dX12_switchOf_78 : decode cX12_switchOf 78 = .ok (.iload_n 2, 1) := by decide +kernel
theorem dX12_switchOf_79 : decode cX12_switchOf 79 = .ok (.ifCond .eq 20, 3) := by decide +kernel
theorem dX12_switchOf_82 : decode cX12_switchOf 82 = .ok (.aload_n 0, 1) := by decide +kernel
theorem dX12_switchOf_83 : decode cX12_switchOf 83 = .ok (.bipush 6, 2) := by decide +kernel
theorem dX12_switchOf_85 : decode cX12_switchOf 85 = .ok (.aload_n 0, 1) := by decide +kernel
theorem dX12_switchOf_86 : decode cX12_switchOf 86 = .ok (.aload_n 0, 1) := by decide +kernel
theorem dX12_switchOf_87 : decode cX12_switchOf 87 = .ok (.getfield 90, 3) := by decide +kernel
theorem dX12_switchOf_90 : decode cX12_switchOf 90 = .ok (.iload 5, 2) := by decide +kernel
theorem dX12_switchOf_92 : decode cX12_switchOf 92 = .ok (.iaload, 1) := by decide +kernel
theorem dX12_switchOf_93 : decode cX12_switchOf 93 = .ok (.invokevirtual 613, 3) := by decide +kernel
theorem dX12_switchOf_96 : decode cX12_switchOf 96 = .ok (.invokevirtual 605, 3) := by decide +kernel
theorem dX12_switchOf_99 : decode cX12_switchOf 99 = .ok (.iconst 1, 1) := by decide +kernel
theorem dX12_switchOf_100 : decode cX12_switchOf 100 = .ok (.istore_n 2, 1) := by decide +kernel
theorem dX12_switchOf_101 : decode cX12_switchOf 101 = .ok (.aload_n 0, 1) := by decide +kernel
theorem dX12_switchOf_102 : decode cX12_switchOf 102 = .ok (.getfield 87, 3) := by decide +kernel
theorem dX12_switchOf_105 : decode cX12_switchOf 105 = .ok (.iload 5, 2) := by decide +kernel
theorem dX12_switchOf_107 : decode cX12_switchOf 107 = .ok (.baload, 1) := by decide +kernel
theorem dX12_switchOf_108 : decode cX12_switchOf 108 = .ok (.bipush 43, 2) := by decide +kernel
theorem dX12_switchOf_110 : decode cX12_switchOf 110 = .ok (.if_icmp .eq 6, 3) := by decide +kernel
theorem dX12_switchOf_113 : decode cX12_switchOf 113 = .ok (.goto 82, 3) := by decide +kernel
theorem dX12_switchOf_116 : decode cX12_switchOf 116 = .ok (.aload_n 0, 1) := by decide +kernel
theorem dX12_switchOf_117 : decode cX12_switchOf 117 = .ok (.getfield 93, 3) := by decide +kernel
theorem dX12_switchOf_120 : decode cX12_switchOf 120 = .ok (.iload 5, 2) := by decide +kernel
theorem dX12_switchOf_122 : decode cX12_switchOf 122 = .ok (.iaload, 1) := by decide +kernel
theorem dX12_switchOf_123 : decode cX12_switchOf 123 = .ok (.istore 6, 2) := by decide +kernel
theorem dX12_switchOf_125 : decode cX12_switchOf 125 = .ok (.aload_n 0, 1) := by decide +kernel
theorem dX12_switchOf_126 : decode cX12_switchOf 126 = .ok (.iload 6, 2) := by decide +kernel
theorem dX12_switchOf_128 : decode cX12_switchOf 128 = .ok (.invokevirtual 756, 3) := by decide +kernel
theorem dX12_switchOf_131 : decode cX12_switchOf 131 = .ok (.aload_n 0, 1) := by decide +kernel
theorem dX12_switchOf_132 : decode cX12_switchOf 132 = .ok (.getfield 99, 3) := by decide +kernel
theorem dX12_switchOf_135 : decode cX12_switchOf 135 = .ok (.iload 5, 2) := by decide +kernel
theorem dX12_switchOf_137 : decode cX12_switchOf 137 = .ok (.aload_n 0, 1) := by decide +kernel
theorem dX12_switchOf_138 : decode cX12_switchOf 138 = .ok (.getfield 191, 3) := by decide +kernel
theorem dX12_switchOf_141 : decode cX12_switchOf 141 = .ok (.iastore, 1) := by decide +kernel
theorem dX12_switchOf_142 : decode cX12_switchOf 142 = .ok (.aload_n 0, 1) := by decide +kernel
theorem dX12_switchOf_143 : decode cX12_switchOf 143 = .ok (.getfield 102, 3) := by decide +kernel
theorem dX12_switchOf_146 : decode cX12_switchOf 146 = .ok (.iload 5, 2) := by decide +kernel
theorem dX12_switchOf_148 : decode cX12_switchOf 148 = .ok (.aload_n 0, 1) := by decide +kernel
theorem dX12_switchOf_149 : decode cX12_switchOf 149 = .ok (.getfield 187, 3) := by decide +kernel
theorem dX12_switchOf_152 : decode cX12_switchOf 152 = .ok (.ifCond .eq 7, 3) := by decide +kernel
theorem dX12_switchOf_155 : decode cX12_switchOf 155 = .ok (.iconst 1, 1) := by decide +kernel
theorem dX12_switchOf_156 : decode cX12_switchOf 156 = .ok (.goto 4, 3) := by decide +kernel
theorem dX12_switchOf_159 : decode cX12_switchOf 159 = .ok (.iconst 0, 1) := by decide +kernel
theorem dX12_switchOf_160 : decode cX12_switchOf 160 = .ok (.iastore, 1) := by decide +kernel
theorem dX12_switchOf_161 : decode cX12_switchOf 161 = .ok (.aload_n 0, 1) := by decide +kernel
theorem dX12_switchOf_162 : decode cX12_switchOf 162 = .ok (.getfield 187, 3) := by decide +kernel
theorem dX12_switchOf_165 : decode cX12_switchOf 165 = .ok (.ifCond .eq 30, 3) := by decide +kernel
theorem dX12_switchOf_168 : decode cX12_switchOf 168 = .ok (.aload_n 0, 1) := by decide +kernel
theorem dX12_switchOf_169 : decode cX12_switchOf 169 = .ok (.iload_n 1, 1) := by decide +kernel
theorem dX12_switchOf_170 : decode cX12_switchOf 170 = .ok (.iload 5, 2) := by decide +kernel
theorem dX12_switchOf_172 : decode cX12_switchOf 172 = .ok (.invokevirtual 776, 3) := by decide +kernel
theorem dX12_switchOf_175 : decode cX12_switchOf 175 = .ok (.ifCond .eq 20, 3) := by decide +kernel
theorem dX12_switchOf_178 : decode cX12_switchOf 178 = .ok (.aload_n 0, 1) := by decide +kernel
theorem dX12_switchOf_179 : decode cX12_switchOf 179 = .ok (.bipush 6, 2) := by decide +kernel
theorem dX12_switchOf_181 : decode cX12_switchOf 181 = .ok (.aload_n 0, 1) := by decide +kernel
theorem dX12_switchOf_182 : decode cX12_switchOf 182 = .ok (.aload_n 0, 1) := by decide +kernel
theorem dX12_switchOf_183 : decode cX12_switchOf 183 = .ok (.getfield 114, 3) := by decide +kernel
theorem dX12_switchOf_186 : decode cX12_switchOf 186 = .ok (.iload 6, 2) := by decide +kernel
theorem dX12_switchOf_188 : decode cX12_switchOf 188 = .ok (.iaload, 1) := by decide +kernel
theorem dX12_switchOf_189 : decode cX12_switchOf 189 = .ok (.invokevirtual 613, 3) := by decide +kernel
theorem dX12_switchOf_192 : decode cX12_switchOf 192 = .ok (.invokevirtual 605, 3) := by decide +kernel
theorem dX12_switchOf_195 : decode cX12_switchOf 195 = .ok (.aload_n 0, 1) := by decide +kernel
theorem dX12_switchOf_196 : decode cX12_switchOf 196 = .ok (.getfield 96, 3) := by decide +kernel
theorem dX12_switchOf_199 : decode cX12_switchOf 199 = .ok (.iload 5, 2) := by decide +kernel
theorem dX12_switchOf_201 : decode cX12_switchOf 201 = .ok (.iaload, 1) := by decide +kernel
theorem dX12_switchOf_202 : decode cX12_switchOf 202 = .ok (.istore 5, 2) := by decide +kernel
theorem dX12_switchOf_204 : decode cX12_switchOf 204 = .ok (.goto (-143), 3) := by decide +kernel
theorem dX12_switchOf_207 : decode cX12_switchOf 207 = .ok (.aload_n 0, 1) := by decide +kernel
theorem dX12_switchOf_208 : decode cX12_switchOf 208 = .ok (.bipush 13, 2) := by decide +kernel
theorem dX12_switchOf_210 : decode cX12_switchOf 210 = .ok (.iload 4, 2) := by decide +kernel
theorem dX12_switchOf_212 : decode cX12_switchOf 212 = .ok (.iconst 0, 1) := by decide +kernel
theorem dX12_switchOf_213 : decode cX12_switchOf 213 = .ok (.invokevirtual 647, 3) := by decide +kernel
theorem dX12_switchOf_216 : decode cX12_switchOf 216 = .ok (.aload_n 0, 1) := by decide +kernel
theorem dX12_switchOf_217 : decode cX12_switchOf 217 = .ok (.getfield 96, 3) := by decide +kernel
theorem dX12_switchOf_220 : decode cX12_switchOf 220 = .ok (.iload 4, 2) := by decide +kernel
theorem dX12_switchOf_222 : decode cX12_switchOf 222 = .ok (.iaload, 1) := by decide +kernel
theorem dX12_switchOf_223 : decode cX12_switchOf 223 = .ok (.istore 4, 2) := by decide +kernel
theorem dX12_switchOf_225 : decode cX12_switchOf 225 = .ok (.goto (-178), 3) := by decide +kernel
theorem dX12_switchOf_228 : decode cX12_switchOf 228 = .ok (.aload_n 0, 1) := by decide +kernel
theorem dX12_switchOf_229 : decode cX12_switchOf 229 = .ok (.iload_n 3, 1) := by decide +kernel
theorem dX12_switchOf_230 : decode cX12_switchOf 230 = .ok (.invokevirtual 650, 3) := by decide +kernel
theorem dX12_switchOf_233 : decode cX12_switchOf 233 = .ok (.return_, 1) := by decide +kernel
def wr_switchOf_160 (Q : zS → Prop) (k47 : zS → Int → Int → Int → Int → Prop) (k61 : zS → Int → Int → Int → Int → Int → Prop) (s0 : zS) (x1 : Int) (x2 : Int) (x3 : Int) (x4 : Int) (x5 : Int) (x6 : Int) (y0 : Int) (y1 : Int) : Prop :=
  (0 ≤ y1) ∧ (y1 < 26000) ∧ (((zv s0 58) = 0 → (0 ≤ x5) ∧ (x5 < 26000) ∧ k61 (zpa s0 30 (Int.toNat y1) y0) x1 x2 x3 x4 (za s0 28 (Int.toNat x5))) ∧ (¬ (zv s0 58) = 0 → wr_isTwice (zpa s0 30 (Int.toNat y1) y0) x1 x5 (fun r14 s15 => ((r14 = 0 → (0 ≤ x5) ∧ (x5 < 26000) ∧ k61 s15 x1 x2 x3 x4 (za s15 28 (Int.toNat x5))) ∧ (¬ r14 = 0 → (0 ≤ x6) ∧ (x6 < 26000) ∧ wr_place s15 (za s15 34 (Int.toNat x6)) (fun r31 s32 => wr_fault s32 6 r31 (fun s38 => (0 ≤ x5) ∧ (x5 < 26000) ∧ k61 s38 x1 x2 x3 x4 (za s38 28 (Int.toNat x5)))))))))
def wr_switchOf_101 (Q : zS → Prop) (k47 : zS → Int → Int → Int → Int → Prop) (k61 : zS → Int → Int → Int → Int → Int → Prop) (s0 : zS) (x1 : Int) (x2 : Int) (x3 : Int) (x4 : Int) (x5 : Int) : Prop :=
  (0 ≤ x5) ∧ (x5 < 26000) ∧ (((za s0 25 (Int.toNat x5)) = 43 → (0 ≤ x5) ∧ (x5 < 26000) ∧ wr_constant s0 (za s0 27 (Int.toNat x5)) (fun s12 => (0 ≤ x5) ∧ (x5 < 26000) ∧ (((zv s12 58) = 0 → wr_switchOf_160 Q k47 k61 (zpa s12 29 (Int.toNat x5) (zv s12 59)) x1 x2 x3 x4 x5 (za s0 27 (Int.toNat x5)) 0 x5) ∧ (¬ (zv s12 58) = 0 → wr_switchOf_160 Q k47 k61 (zpa s12 29 (Int.toNat x5) (zv s12 59)) x1 x2 x3 x4 x5 (za s0 27 (Int.toNat x5)) 1 x5)))) ∧ (¬ (za s0 25 (Int.toNat x5)) = 43 → (0 ≤ x5) ∧ (x5 < 26000) ∧ k61 s0 x1 x2 x3 x4 (za s0 28 (Int.toNat x5))))
def wr_switchOf_61B (Q : zS → Prop) (k47 : zS → Int → Int → Int → Int → Prop) (k61 : zS → Int → Int → Int → Int → Int → Prop) (s0 : zS) (x1 : Int) (x2 : Int) (x3 : Int) (x4 : Int) (x5 : Int) : Prop :=
  ((x5 < 0 → wr_task s0 13 x4 0 (fun s4 => (0 ≤ x4) ∧ (x4 < 26000) ∧ k47 s4 x1 x2 x3 (za s4 28 (Int.toNat x4)))) ∧ (¬ x5 < 0 → (0 ≤ x5) ∧ (x5 < 26000) ∧ ((¬ (za s0 25 (Int.toNat x5)) = 44 → wr_switchOf_101 Q k47 k61 s0 x1 x2 x3 x4 x5) ∧ ((za s0 25 (Int.toNat x5)) = 44 → ((x2 = 0 → wr_switchOf_101 Q k47 k61 s0 x1 1 x3 x4 x5) ∧ (¬ x2 = 0 → (0 ≤ x5) ∧ (x5 < 26000) ∧ wr_place s0 (za s0 26 (Int.toNat x5)) (fun r28 s29 => wr_fault s29 6 r28 (fun s35 => wr_switchOf_101 Q k47 k61 s35 x1 1 x3 x4 x5))))))))
def wr_switchOf_61 (Q : zS → Prop) (k47 : zS → Int → Int → Int → Int → Prop) : Nat → zS → Int → Int → Int → Int → Int → Prop
  | 0 => fun _ _ _ _ _ _ => False
  | m + 1 => fun s0 x1 x2 x3 x4 x5 => wr_switchOf_61B Q k47 (wr_switchOf_61 Q k47 m) s0 x1 x2 x3 x4 x5
def wr_switchOf_47B (Q : zS → Prop) (k47 : zS → Int → Int → Int → Int → Prop) (s0 : zS) (x1 : Int) (x2 : Int) (x3 : Int) (x4 : Int) : Prop :=
  ((x4 < 0 → wr_turn s0 x3 (fun s4 => Q s4)) ∧ (¬ x4 < 0 → (0 ≤ x4) ∧ (x4 < 26000) ∧ ∃ n, wr_switchOf_61 Q k47 n s0 x1 x2 x3 x4 (za s0 27 (Int.toNat x4))))
def wr_switchOf_47 (Q : zS → Prop)  : Nat → zS → Int → Int → Int → Int → Prop
  | 0 => fun _ _ _ _ _ => False
  | m + 1 => fun s0 x1 x2 x3 x4 => wr_switchOf_47B Q  (wr_switchOf_47 Q  m) s0 x1 x2 x3 x4
def wr_switchOf (s0 : zS) (a0 : Int) (Q : zS → Prop) : Prop :=
  wr_beginBlock s0  (fun s2 => (zR ((zv s2 80) + 1)) ∧ wr_labelsOf (zpv s2 80 ((zv s2 80) + 1)) a0 (fun s12 => wr_task s12 9 0 (-1) (fun s18 => (0 ≤ a0) ∧ (a0 < 26000) ∧ (0 ≤ (za s18 27 (Int.toNat a0))) ∧ ((za s18 27 (Int.toNat a0)) < 26000) ∧ ∃ n, wr_switchOf_47 Q  n s18 a0 0 (zv s18 63) (za s18 28 (Int.toNat (za s18 27 (Int.toNat a0)))))))
set_option maxHeartbeats 4000000 in
set_option maxRecDepth 100000 in
theorem rj_switchOf_160 {X : gX} {d : gD} {b t : Nat} {T : Nat → Nat} {F0 : gM} (hC : gC RX12 cX12_switchOf 7 none "switchOf" (gR 4 0 0) d b X) {Q : zS → Prop} {k47 : zS → Int → Int → Int → Int → Prop} {k61 : zS → Int → Int → Int → Int → Int → Prop} (hk47 : ∀ (F : gM) (s0 : zS) (x1 : Int) (x2 : Int) (x3 : Int) (x4 : Int), zR x1 → zR x2 → zR x3 → zR x4 → zZ d t T F0 F s0 → k47 s0 x1 x2 x3 x4 → gG X d b (zQv X d b t T F0 Q) F 0 0 47 [some (.ref t), some (.int (zI x1)), some (.int (zI x2)), some (.int (zI x3)), some (.int (zI x4)), none, none] []) (hk61 : ∀ (F : gM) (s0 : zS) (x1 : Int) (x2 : Int) (x3 : Int) (x4 : Int) (x5 : Int), zR x1 → zR x2 → zR x3 → zR x4 → zR x5 → zZ d t T F0 F s0 → k61 s0 x1 x2 x3 x4 x5 → gG X d b (zQv X d b t T F0 Q) F 0 0 61 [some (.ref t), some (.int (zI x1)), some (.int (zI x2)), some (.int (zI x3)), some (.int (zI x4)), some (.int (zI x5)), none] []) {F : gM} {s0 : zS} {x1 : Int} {x2 : Int} {x3 : Int} {x4 : Int} {x5 : Int} {x6 : Int} {y0 : Int} {y1 : Int} (Rx1 : zR x1) (Rx2 : zR x2) (Rx3 : zR x3) (Rx4 : zR x4) (Rx5 : zR x5) (Rx6 : zR x6) (Ry0 : zR y0) (Ry1 : zR y1) (hZ : zZ d t T F0 F s0) (hw : wr_switchOf_160 Q k47 k61 s0 x1 x2 x3 x4 x5 x6 y0 y1) : gG X d b (zQv X d b t T F0 Q) F 0 0 160 [some (.ref t), some (.int (zI x1)), some (.int (zI x2)), some (.int (zI x3)), some (.int (zI x4)), some (.int (zI x5)), some (.int (zI x6))] [.int (zI y0), .int (zI y1), .ref (T 30)] := by
  unfold wr_switchOf_160 at hw
  obtain ⟨o1, h2⟩ := hw
  obtain ⟨o3, h4⟩ := h2
  refine zr_iast hC hZ zk_30 zb_30 zn_30 (by decide) o1 o3 Ry0 dX12_switchOf_160 (fun F5 hZ6 => ?_)
  refine g_aload_n hC dX12_switchOf_161 rfl ?_
  refine zr_get (e := (zv s0 58)) hC hZ6 fl_X12_187 zb_58 (by decide) rfl dX12_switchOf_162 ?_
  refine zr_if_eq (tgt := 195) hC (hZ.rv 58) dX12_switchOf_165 (by decide) (fun c7 => ?_) (fun c7 => ?_)
  · have h8 := h4.1 c7
    refine g_aload_n hC dX12_switchOf_195 rfl ?_
    refine zr_geta hC hZ6 fl_X12_96 zb_28 (by decide) dX12_switchOf_196 ?_
    refine g_iload hC dX12_switchOf_199 rfl ?_
    obtain ⟨o9, h10⟩ := h8
    obtain ⟨o11, h12⟩ := h10
    refine zr_iald (v := (za s0 28 (Int.toNat x5))) hC hZ6 zk_28 zb_28 zn_28 (by decide) o9 o11 rfl dX12_switchOf_201 ?_
    refine g_istore (lv' := [some (.ref t), some (.int (zI x1)), some (.int (zI x2)), some (.int (zI x3)), some (.int (zI x4)), some (.int (zI (za s0 28 (Int.toNat x5)))), some (.int (zI x6))]) hC dX12_switchOf_202 (Nat.le_of_ble_eq_true rfl) rfl rfl ?_
    refine g_goto (tgt := 61) hC dX12_switchOf_204 (by decide) ?_
    refine g_lv (lv' := [some (.ref t), some (.int (zI x1)), some (.int (zI x2)), some (.int (zI x3)), some (.int (zI x4)), some (.int (zI (za s0 28 (Int.toNat x5)))), none]) ⟨rfl, rfl, rfl, rfl, rfl, rfl, trivial⟩ ?_
    exact hk61 _ _ _ _ _ _ _ Rx1 Rx2 Rx3 Rx4 (hZ.ra 28 _) hZ6 h12
  · have h13 := h4.2 c7
    refine g_aload_n hC dX12_switchOf_168 rfl ?_
    refine g_iload_n hC dX12_switchOf_169 rfl ?_
    refine g_iload hC dX12_switchOf_170 rfl ?_
    refine zr_callVi (As := [.int (zI x1), .int (zI x5)]) hC hZ6 rfl (rm_isTwice X.la d b Rx1 Rx5 hZ6.rf h13) cl_X12_776 rfl rfl (Nat.le_of_ble_eq_true rfl) ⟨Nat.le_of_ble_eq_true rfl, Nat.le_of_ble_eq_true rfl⟩ dX12_switchOf_172 (fun r14 s15 F16 R17 hZ18 h19 => ?_)
    refine zr_if_eq (tgt := 195) hC R17 dX12_switchOf_175 (by decide) (fun c20 => ?_) (fun c20 => ?_)
    · have h21 := h19.1 c20
      refine g_aload_n hC dX12_switchOf_195 rfl ?_
      refine zr_geta hC hZ18 fl_X12_96 zb_28 (by decide) dX12_switchOf_196 ?_
      refine g_iload hC dX12_switchOf_199 rfl ?_
      obtain ⟨o22, h23⟩ := h21
      obtain ⟨o24, h25⟩ := h23
      refine zr_iald (v := (za s15 28 (Int.toNat x5))) hC hZ18 zk_28 zb_28 zn_28 (by decide) o22 o24 rfl dX12_switchOf_201 ?_
      refine g_istore (lv' := [some (.ref t), some (.int (zI x1)), some (.int (zI x2)), some (.int (zI x3)), some (.int (zI x4)), some (.int (zI (za s15 28 (Int.toNat x5)))), some (.int (zI x6))]) hC dX12_switchOf_202 (Nat.le_of_ble_eq_true rfl) rfl rfl ?_
      refine g_goto (tgt := 61) hC dX12_switchOf_204 (by decide) ?_
      refine g_lv (lv' := [some (.ref t), some (.int (zI x1)), some (.int (zI x2)), some (.int (zI x3)), some (.int (zI x4)), some (.int (zI (za s15 28 (Int.toNat x5)))), none]) ⟨rfl, rfl, rfl, rfl, rfl, rfl, trivial⟩ ?_
      exact hk61 _ _ _ _ _ _ _ Rx1 Rx2 Rx3 Rx4 (hZ18.ra 28 _) hZ18 h25
    · have h26 := h19.2 c20
      refine g_aload_n hC dX12_switchOf_178 rfl ?_
      refine g_bipush (v := zI 6) hC dX12_switchOf_179 rfl ?_
      refine g_aload_n hC dX12_switchOf_181 rfl ?_
      refine g_aload_n hC dX12_switchOf_182 rfl ?_
      refine zr_geta hC hZ18 fl_X12_114 zb_34 (by decide) dX12_switchOf_183 ?_
      refine g_iload hC dX12_switchOf_186 rfl ?_
      obtain ⟨o27, h28⟩ := h26
      obtain ⟨o29, h30⟩ := h28
      refine zr_iald (v := (za s15 34 (Int.toNat x6))) hC hZ18 zk_34 zb_34 zn_34 (by decide) o27 o29 rfl dX12_switchOf_188 ?_
      refine zr_callVi (As := [.int (zI (za s15 34 (Int.toNat x6)))]) hC hZ18 rfl (rm_place X.la d b (hZ18.ra 34 _) hZ18.rf h30) cl_X12_613 rfl rfl (Nat.le_of_ble_eq_true rfl) ⟨Nat.le_of_ble_eq_true rfl, Nat.le_of_ble_eq_true rfl⟩ dX12_switchOf_189 (fun r31 s32 F33 R34 hZ35 h36 => ?_)
      refine zr_callVv (As := [.int (zI 6), .int (zI r31)]) hC hZ35 rfl (rm_fault X.la d b (by decide) R34 hZ35.rf h36) cl_X12_605 rfl rfl (Nat.le_of_ble_eq_true rfl) ⟨Nat.le_of_ble_eq_true rfl, Nat.le_of_ble_eq_true rfl⟩ dX12_switchOf_192 (fun s38 F39 hZ41 h42 => ?_)
      refine g_aload_n hC dX12_switchOf_195 rfl ?_
      refine zr_geta hC hZ41 fl_X12_96 zb_28 (by decide) dX12_switchOf_196 ?_
      refine g_iload hC dX12_switchOf_199 rfl ?_
      obtain ⟨o43, h44⟩ := h42
      obtain ⟨o45, h46⟩ := h44
      refine zr_iald (v := (za s38 28 (Int.toNat x5))) hC hZ41 zk_28 zb_28 zn_28 (by decide) o43 o45 rfl dX12_switchOf_201 ?_
      refine g_istore (lv' := [some (.ref t), some (.int (zI x1)), some (.int (zI x2)), some (.int (zI x3)), some (.int (zI x4)), some (.int (zI (za s38 28 (Int.toNat x5)))), some (.int (zI x6))]) hC dX12_switchOf_202 (Nat.le_of_ble_eq_true rfl) rfl rfl ?_
      refine g_goto (tgt := 61) hC dX12_switchOf_204 (by decide) ?_
      refine g_lv (lv' := [some (.ref t), some (.int (zI x1)), some (.int (zI x2)), some (.int (zI x3)), some (.int (zI x4)), some (.int (zI (za s38 28 (Int.toNat x5)))), none]) ⟨rfl, rfl, rfl, rfl, rfl, rfl, trivial⟩ ?_
      exact hk61 _ _ _ _ _ _ _ Rx1 Rx2 Rx3 Rx4 (hZ41.ra 28 _) hZ41 h46
set_option maxHeartbeats 4000000 in
set_option maxRecDepth 100000 in
theorem rj_switchOf_101 {X : gX} {d : gD} {b t : Nat} {T : Nat → Nat} {F0 : gM} (hC : gC RX12 cX12_switchOf 7 none "switchOf" (gR 4 0 0) d b X) {Q : zS → Prop} {k47 : zS → Int → Int → Int → Int → Prop} {k61 : zS → Int → Int → Int → Int → Int → Prop} (hk47 : ∀ (F : gM) (s0 : zS) (x1 : Int) (x2 : Int) (x3 : Int) (x4 : Int), zR x1 → zR x2 → zR x3 → zR x4 → zZ d t T F0 F s0 → k47 s0 x1 x2 x3 x4 → gG X d b (zQv X d b t T F0 Q) F 0 0 47 [some (.ref t), some (.int (zI x1)), some (.int (zI x2)), some (.int (zI x3)), some (.int (zI x4)), none, none] []) (hk61 : ∀ (F : gM) (s0 : zS) (x1 : Int) (x2 : Int) (x3 : Int) (x4 : Int) (x5 : Int), zR x1 → zR x2 → zR x3 → zR x4 → zR x5 → zZ d t T F0 F s0 → k61 s0 x1 x2 x3 x4 x5 → gG X d b (zQv X d b t T F0 Q) F 0 0 61 [some (.ref t), some (.int (zI x1)), some (.int (zI x2)), some (.int (zI x3)), some (.int (zI x4)), some (.int (zI x5)), none] []) {F : gM} {s0 : zS} {x1 : Int} {x2 : Int} {x3 : Int} {x4 : Int} {x5 : Int} (Rx1 : zR x1) (Rx2 : zR x2) (Rx3 : zR x3) (Rx4 : zR x4) (Rx5 : zR x5) (hZ : zZ d t T F0 F s0) (hw : wr_switchOf_101 Q k47 k61 s0 x1 x2 x3 x4 x5) : gG X d b (zQv X d b t T F0 Q) F 0 0 101 [some (.ref t), some (.int (zI x1)), some (.int (zI x2)), some (.int (zI x3)), some (.int (zI x4)), some (.int (zI x5)), none] [] := by
  unfold wr_switchOf_101 at hw
  refine g_aload_n hC dX12_switchOf_101 rfl ?_
  refine zr_geta hC hZ fl_X12_87 zb_25 (by decide) dX12_switchOf_102 ?_
  refine g_iload hC dX12_switchOf_105 rfl ?_
  obtain ⟨o1, h2⟩ := hw
  obtain ⟨o3, h4⟩ := h2
  refine zr_bald (v := (za s0 25 (Int.toNat x5))) hC hZ zk_25 zb_25 zn_25 (by decide) o1 o3 rfl dX12_switchOf_107 ?_
  refine g_bipush (v := zI 43) hC dX12_switchOf_108 rfl ?_
  refine zr_icmp_eq (tgt := 116) hC (hZ.ra 25 _) (by decide) dX12_switchOf_110 (by decide) (fun c5 => ?_) (fun c5 => ?_)
  · have h6 := h4.1 c5
    refine g_aload_n hC dX12_switchOf_116 rfl ?_
    refine zr_geta hC hZ fl_X12_93 zb_27 (by decide) dX12_switchOf_117 ?_
    refine g_iload hC dX12_switchOf_120 rfl ?_
    obtain ⟨o7, h8⟩ := h6
    obtain ⟨o9, h10⟩ := h8
    refine zr_iald (v := (za s0 27 (Int.toNat x5))) hC hZ zk_27 zb_27 zn_27 (by decide) o7 o9 rfl dX12_switchOf_122 ?_
    refine g_istore (lv' := [some (.ref t), some (.int (zI x1)), some (.int (zI x2)), some (.int (zI x3)), some (.int (zI x4)), some (.int (zI x5)), some (.int (zI (za s0 27 (Int.toNat x5))))]) hC dX12_switchOf_123 (Nat.le_of_ble_eq_true rfl) rfl rfl ?_
    refine g_aload_n hC dX12_switchOf_125 rfl ?_
    refine g_iload hC dX12_switchOf_126 rfl ?_
    refine zr_callVv (As := [.int (zI (za s0 27 (Int.toNat x5)))]) hC hZ rfl (rm_constant X.la d b (hZ.ra 27 _) hZ.rf h10) cl_X12_756 rfl rfl (Nat.le_of_ble_eq_true rfl) ⟨Nat.le_of_ble_eq_true rfl, Nat.le_of_ble_eq_true rfl⟩ dX12_switchOf_128 (fun s12 F13 hZ15 h16 => ?_)
    refine g_aload_n hC dX12_switchOf_131 rfl ?_
    refine zr_geta hC hZ15 fl_X12_99 zb_29 (by decide) dX12_switchOf_132 ?_
    refine g_iload hC dX12_switchOf_135 rfl ?_
    refine g_aload_n hC dX12_switchOf_137 rfl ?_
    refine zr_get (e := (zv s12 59)) hC hZ15 fl_X12_191 zb_59 (by decide) rfl dX12_switchOf_138 ?_
    obtain ⟨o17, h18⟩ := h16
    obtain ⟨o19, h20⟩ := h18
    refine zr_iast hC hZ15 zk_29 zb_29 zn_29 (by decide) o17 o19 (hZ15.rv 59) dX12_switchOf_141 (fun F21 hZ22 => ?_)
    refine g_aload_n hC dX12_switchOf_142 rfl ?_
    refine zr_geta hC hZ22 fl_X12_102 zb_30 (by decide) dX12_switchOf_143 ?_
    refine g_iload hC dX12_switchOf_146 rfl ?_
    refine g_aload_n hC dX12_switchOf_148 rfl ?_
    refine zr_get (e := (zv s12 58)) hC hZ22 fl_X12_187 zb_58 (by decide) rfl dX12_switchOf_149 ?_
    refine zr_if_eq (tgt := 159) hC (hZ15.rv 58) dX12_switchOf_152 (by decide) (fun c23 => ?_) (fun c23 => ?_)
    · have h24 := h20.1 c23
      refine g_iconst (v := zI 0) hC dX12_switchOf_159 rfl ?_
      exact rj_switchOf_160 hC hk47 hk61 Rx1 Rx2 Rx3 Rx4 Rx5 (hZ.ra 27 _) (by decide) Rx5 hZ22 h24
    · have h25 := h20.2 c23
      refine g_iconst (v := zI 1) hC dX12_switchOf_155 rfl ?_
      refine g_goto (tgt := 160) hC dX12_switchOf_156 (by decide) ?_
      exact rj_switchOf_160 hC hk47 hk61 Rx1 Rx2 Rx3 Rx4 Rx5 (hZ.ra 27 _) (by decide) Rx5 hZ22 h25
  · have h26 := h4.2 c5
    refine g_goto (tgt := 195) hC dX12_switchOf_113 (by decide) ?_
    refine g_aload_n hC dX12_switchOf_195 rfl ?_
    refine zr_geta hC hZ fl_X12_96 zb_28 (by decide) dX12_switchOf_196 ?_
    refine g_iload hC dX12_switchOf_199 rfl ?_
    obtain ⟨o27, h28⟩ := h26
    obtain ⟨o29, h30⟩ := h28
    refine zr_iald (v := (za s0 28 (Int.toNat x5))) hC hZ zk_28 zb_28 zn_28 (by decide) o27 o29 rfl dX12_switchOf_201 ?_
    refine g_istore (lv' := [some (.ref t), some (.int (zI x1)), some (.int (zI x2)), some (.int (zI x3)), some (.int (zI x4)), some (.int (zI (za s0 28 (Int.toNat x5)))), none]) hC dX12_switchOf_202 (Nat.le_of_ble_eq_true rfl) rfl rfl ?_
    refine g_goto (tgt := 61) hC dX12_switchOf_204 (by decide) ?_
    exact hk61 _ _ _ _ _ _ _ Rx1 Rx2 Rx3 Rx4 (hZ.ra 28 _) hZ h30
set_option maxHeartbeats 4000000 in
set_option maxRecDepth 100000 in
theorem rb_switchOf_61 {X : gX} {d : gD} {b t : Nat} {T : Nat → Nat} {F0 : gM} (hC : gC RX12 cX12_switchOf 7 none "switchOf" (gR 4 0 0) d b X) {Q : zS → Prop} {k47 : zS → Int → Int → Int → Int → Prop} {k61 : zS → Int → Int → Int → Int → Int → Prop} (hk47 : ∀ (F : gM) (s0 : zS) (x1 : Int) (x2 : Int) (x3 : Int) (x4 : Int), zR x1 → zR x2 → zR x3 → zR x4 → zZ d t T F0 F s0 → k47 s0 x1 x2 x3 x4 → gG X d b (zQv X d b t T F0 Q) F 0 0 47 [some (.ref t), some (.int (zI x1)), some (.int (zI x2)), some (.int (zI x3)), some (.int (zI x4)), none, none] []) (hk61 : ∀ (F : gM) (s0 : zS) (x1 : Int) (x2 : Int) (x3 : Int) (x4 : Int) (x5 : Int), zR x1 → zR x2 → zR x3 → zR x4 → zR x5 → zZ d t T F0 F s0 → k61 s0 x1 x2 x3 x4 x5 → gG X d b (zQv X d b t T F0 Q) F 0 0 61 [some (.ref t), some (.int (zI x1)), some (.int (zI x2)), some (.int (zI x3)), some (.int (zI x4)), some (.int (zI x5)), none] []) {F : gM} {s0 : zS} {x1 : Int} {x2 : Int} {x3 : Int} {x4 : Int} {x5 : Int} (Rx1 : zR x1) (Rx2 : zR x2) (Rx3 : zR x3) (Rx4 : zR x4) (Rx5 : zR x5) (hZ : zZ d t T F0 F s0) (hw : wr_switchOf_61B Q k47 k61 s0 x1 x2 x3 x4 x5) : gG X d b (zQv X d b t T F0 Q) F 0 0 61 [some (.ref t), some (.int (zI x1)), some (.int (zI x2)), some (.int (zI x3)), some (.int (zI x4)), some (.int (zI x5)), none] [] := by
  unfold wr_switchOf_61B at hw
  refine g_iload hC dX12_switchOf_61 rfl ?_
  refine zr_if_lt (tgt := 207) hC Rx5 dX12_switchOf_63 (by decide) (fun c1 => ?_) (fun c1 => ?_)
  · have h2 := hw.1 c1
    refine g_aload_n hC dX12_switchOf_207 rfl ?_
    refine g_bipush (v := zI 13) hC dX12_switchOf_208 rfl ?_
    refine g_iload hC dX12_switchOf_210 rfl ?_
    refine g_iconst (v := zI 0) hC dX12_switchOf_212 rfl ?_
    refine zr_callVv (As := [.int (zI 13), .int (zI x4), .int (zI 0)]) hC hZ rfl (rm_task X.la d b (by decide) Rx4 (by decide) hZ.rf h2) cl_X12_647 rfl rfl (Nat.le_of_ble_eq_true rfl) ⟨Nat.le_of_ble_eq_true rfl, Nat.le_of_ble_eq_true rfl⟩ dX12_switchOf_213 (fun s4 F5 hZ7 h8 => ?_)
    refine g_aload_n hC dX12_switchOf_216 rfl ?_
    refine zr_geta hC hZ7 fl_X12_96 zb_28 (by decide) dX12_switchOf_217 ?_
    refine g_iload hC dX12_switchOf_220 rfl ?_
    obtain ⟨o9, h10⟩ := h8
    obtain ⟨o11, h12⟩ := h10
    refine zr_iald (v := (za s4 28 (Int.toNat x4))) hC hZ7 zk_28 zb_28 zn_28 (by decide) o9 o11 rfl dX12_switchOf_222 ?_
    refine g_istore (lv' := [some (.ref t), some (.int (zI x1)), some (.int (zI x2)), some (.int (zI x3)), some (.int (zI (za s4 28 (Int.toNat x4)))), some (.int (zI x5)), none]) hC dX12_switchOf_223 (Nat.le_of_ble_eq_true rfl) rfl rfl ?_
    refine g_goto (tgt := 47) hC dX12_switchOf_225 (by decide) ?_
    refine g_lv (lv' := [some (.ref t), some (.int (zI x1)), some (.int (zI x2)), some (.int (zI x3)), some (.int (zI (za s4 28 (Int.toNat x4)))), none, none]) ⟨rfl, rfl, rfl, rfl, rfl, trivial⟩ ?_
    exact hk47 _ _ _ _ _ _ Rx1 Rx2 Rx3 (hZ7.ra 28 _) hZ7 h12
  · have h13 := hw.2 c1
    refine g_aload_n hC dX12_switchOf_66 rfl ?_
    refine zr_geta hC hZ fl_X12_87 zb_25 (by decide) dX12_switchOf_67 ?_
    refine g_iload hC dX12_switchOf_70 rfl ?_
    obtain ⟨o14, h15⟩ := h13
    obtain ⟨o16, h17⟩ := h15
    refine zr_bald (v := (za s0 25 (Int.toNat x5))) hC hZ zk_25 zb_25 zn_25 (by decide) o14 o16 rfl dX12_switchOf_72 ?_
    refine g_bipush (v := zI 44) hC dX12_switchOf_73 rfl ?_
    refine zr_icmp_ne (tgt := 101) hC (hZ.ra 25 _) (by decide) dX12_switchOf_75 (by decide) (fun c18 => ?_) (fun c18 => ?_)
    · have h19 := h17.1 c18
      exact rj_switchOf_101 hC hk47 hk61 Rx1 Rx2 Rx3 Rx4 Rx5 hZ h19
    · have h20 := h17.2 c18
      refine g_iload_n hC dX12_switchOf_78 rfl ?_
      refine zr_if_eq (tgt := 99) hC Rx2 dX12_switchOf_79 (by decide) (fun c21 => ?_) (fun c21 => ?_)
      · have h22 := h20.1 c21
        refine g_iconst (v := zI 1) hC dX12_switchOf_99 rfl ?_
        refine g_istore_n (lv' := [some (.ref t), some (.int (zI x1)), some (.int (zI 1)), some (.int (zI x3)), some (.int (zI x4)), some (.int (zI x5)), none]) hC dX12_switchOf_100 (Nat.le_of_ble_eq_true rfl) rfl rfl ?_
        exact rj_switchOf_101 hC hk47 hk61 Rx1 (by decide) Rx3 Rx4 Rx5 hZ h22
      · have h23 := h20.2 c21
        refine g_aload_n hC dX12_switchOf_82 rfl ?_
        refine g_bipush (v := zI 6) hC dX12_switchOf_83 rfl ?_
        refine g_aload_n hC dX12_switchOf_85 rfl ?_
        refine g_aload_n hC dX12_switchOf_86 rfl ?_
        refine zr_geta hC hZ fl_X12_90 zb_26 (by decide) dX12_switchOf_87 ?_
        refine g_iload hC dX12_switchOf_90 rfl ?_
        obtain ⟨o24, h25⟩ := h23
        obtain ⟨o26, h27⟩ := h25
        refine zr_iald (v := (za s0 26 (Int.toNat x5))) hC hZ zk_26 zb_26 zn_26 (by decide) o24 o26 rfl dX12_switchOf_92 ?_
        refine zr_callVi (As := [.int (zI (za s0 26 (Int.toNat x5)))]) hC hZ rfl (rm_place X.la d b (hZ.ra 26 _) hZ.rf h27) cl_X12_613 rfl rfl (Nat.le_of_ble_eq_true rfl) ⟨Nat.le_of_ble_eq_true rfl, Nat.le_of_ble_eq_true rfl⟩ dX12_switchOf_93 (fun r28 s29 F30 R31 hZ32 h33 => ?_)
        refine zr_callVv (As := [.int (zI 6), .int (zI r28)]) hC hZ32 rfl (rm_fault X.la d b (by decide) R31 hZ32.rf h33) cl_X12_605 rfl rfl (Nat.le_of_ble_eq_true rfl) ⟨Nat.le_of_ble_eq_true rfl, Nat.le_of_ble_eq_true rfl⟩ dX12_switchOf_96 (fun s35 F36 hZ38 h39 => ?_)
        refine g_iconst (v := zI 1) hC dX12_switchOf_99 rfl ?_
        refine g_istore_n (lv' := [some (.ref t), some (.int (zI x1)), some (.int (zI 1)), some (.int (zI x3)), some (.int (zI x4)), some (.int (zI x5)), none]) hC dX12_switchOf_100 (Nat.le_of_ble_eq_true rfl) rfl rfl ?_
        exact rj_switchOf_101 hC hk47 hk61 Rx1 (by decide) Rx3 Rx4 Rx5 hZ38 h39
theorem rl_switchOf_61 {X : gX} {d : gD} {b t : Nat} {T : Nat → Nat} {F0 : gM} (hC : gC RX12 cX12_switchOf 7 none "switchOf" (gR 4 0 0) d b X) {Q : zS → Prop} {k47 : zS → Int → Int → Int → Int → Prop} (hk47 : ∀ (F : gM) (s0 : zS) (x1 : Int) (x2 : Int) (x3 : Int) (x4 : Int), zR x1 → zR x2 → zR x3 → zR x4 → zZ d t T F0 F s0 → k47 s0 x1 x2 x3 x4 → gG X d b (zQv X d b t T F0 Q) F 0 0 47 [some (.ref t), some (.int (zI x1)), some (.int (zI x2)), some (.int (zI x3)), some (.int (zI x4)), none, none] []) : ∀ (m : Nat) (F : gM) (s0 : zS) (x1 : Int) (x2 : Int) (x3 : Int) (x4 : Int) (x5 : Int), zR x1 → zR x2 → zR x3 → zR x4 → zR x5 → zZ d t T F0 F s0 → wr_switchOf_61 Q k47 m s0 x1 x2 x3 x4 x5 → gG X d b (zQv X d b t T F0 Q) F 0 0 61 [some (.ref t), some (.int (zI x1)), some (.int (zI x2)), some (.int (zI x3)), some (.int (zI x4)), some (.int (zI x5)), none] [] := by
  intro m
  induction m with
  | zero => intro F s0 x1 x2 x3 x4 x5 Rx1 Rx2 Rx3 Rx4 Rx5 hZ hw; exact False.elim hw
  | succ m ih => intro F s0 x1 x2 x3 x4 x5 Rx1 Rx2 Rx3 Rx4 Rx5 hZ hw; exact rb_switchOf_61 hC hk47 ih Rx1 Rx2 Rx3 Rx4 Rx5 hZ hw
set_option maxHeartbeats 4000000 in
set_option maxRecDepth 100000 in
theorem rb_switchOf_47 {X : gX} {d : gD} {b t : Nat} {T : Nat → Nat} {F0 : gM} (hC : gC RX12 cX12_switchOf 7 none "switchOf" (gR 4 0 0) d b X) {Q : zS → Prop} {k47 : zS → Int → Int → Int → Int → Prop} (hk47 : ∀ (F : gM) (s0 : zS) (x1 : Int) (x2 : Int) (x3 : Int) (x4 : Int), zR x1 → zR x2 → zR x3 → zR x4 → zZ d t T F0 F s0 → k47 s0 x1 x2 x3 x4 → gG X d b (zQv X d b t T F0 Q) F 0 0 47 [some (.ref t), some (.int (zI x1)), some (.int (zI x2)), some (.int (zI x3)), some (.int (zI x4)), none, none] []) {F : gM} {s0 : zS} {x1 : Int} {x2 : Int} {x3 : Int} {x4 : Int} (Rx1 : zR x1) (Rx2 : zR x2) (Rx3 : zR x3) (Rx4 : zR x4) (hZ : zZ d t T F0 F s0) (hw : wr_switchOf_47B Q k47 s0 x1 x2 x3 x4) : gG X d b (zQv X d b t T F0 Q) F 0 0 47 [some (.ref t), some (.int (zI x1)), some (.int (zI x2)), some (.int (zI x3)), some (.int (zI x4)), none, none] [] := by
  unfold wr_switchOf_47B at hw
  refine g_iload hC dX12_switchOf_47 rfl ?_
  refine zr_if_lt (tgt := 228) hC Rx4 dX12_switchOf_49 (by decide) (fun c1 => ?_) (fun c1 => ?_)
  · have h2 := hw.1 c1
    refine g_aload_n hC dX12_switchOf_228 rfl ?_
    refine g_iload_n hC dX12_switchOf_229 rfl ?_
    refine zr_callVv (As := [.int (zI x3)]) hC hZ rfl (rm_turn X.la d b Rx3 hZ.rf h2) cl_X12_650 rfl rfl (Nat.le_of_ble_eq_true rfl) ⟨Nat.le_of_ble_eq_true rfl, Nat.le_of_ble_eq_true rfl⟩ dX12_switchOf_230 (fun s4 F5 hZ7 h8 => ?_)
    exact zr_vret hC hZ7 h8 dX12_switchOf_233
  · have h9 := hw.2 c1
    refine g_aload_n hC dX12_switchOf_52 rfl ?_
    refine zr_geta hC hZ fl_X12_93 zb_27 (by decide) dX12_switchOf_53 ?_
    refine g_iload hC dX12_switchOf_56 rfl ?_
    obtain ⟨o10, h11⟩ := h9
    obtain ⟨o12, h13⟩ := h11
    refine zr_iald (v := (za s0 27 (Int.toNat x4))) hC hZ zk_27 zb_27 zn_27 (by decide) o10 o12 rfl dX12_switchOf_58 ?_
    refine g_istore (lv' := [some (.ref t), some (.int (zI x1)), some (.int (zI x2)), some (.int (zI x3)), some (.int (zI x4)), some (.int (zI (za s0 27 (Int.toNat x4)))), none]) hC dX12_switchOf_59 (Nat.le_of_ble_eq_true rfl) rfl rfl ?_
    obtain ⟨m14, h15⟩ := h13
    exact rl_switchOf_61 hC hk47 m14 _ _ _ _ _ _ _ Rx1 Rx2 Rx3 Rx4 (hZ.ra 27 _) hZ h15
theorem rl_switchOf_47 {X : gX} {d : gD} {b t : Nat} {T : Nat → Nat} {F0 : gM} (hC : gC RX12 cX12_switchOf 7 none "switchOf" (gR 4 0 0) d b X) {Q : zS → Prop}   : ∀ (m : Nat) (F : gM) (s0 : zS) (x1 : Int) (x2 : Int) (x3 : Int) (x4 : Int), zR x1 → zR x2 → zR x3 → zR x4 → zZ d t T F0 F s0 → wr_switchOf_47 Q  m s0 x1 x2 x3 x4 → gG X d b (zQv X d b t T F0 Q) F 0 0 47 [some (.ref t), some (.int (zI x1)), some (.int (zI x2)), some (.int (zI x3)), some (.int (zI x4)), none, none] [] := by
  intro m
  induction m with
  | zero => intro F s0 x1 x2 x3 x4 Rx1 Rx2 Rx3 Rx4 hZ hw; exact False.elim hw
  | succ m ih => intro F s0 x1 x2 x3 x4 Rx1 Rx2 Rx3 Rx4 hZ hw; exact rb_switchOf_47 hC  ih Rx1 Rx2 Rx3 Rx4 hZ hw
set_option maxHeartbeats 4000000 in
set_option maxRecDepth 100000 in
theorem rm_switchOf (l : Launch) (d : gD) (b : Nat) {t : Nat} {T : Nat → Nat} {F : gM} {s0 : zS} {a0 : Int} (Ra0 : zR a0) {Q : zS → Prop} (hZ : zZ d t T F F s0) (hw : wr_switchOf s0 a0 Q) : gMv l d b yX12_switchOf cX12_switchOf 7 4 0 0 F [.ref t, .int (zI a0)] (zPv d t T F Q) := by
  refine gM_of2 rfl (nL := 7) (Nat.le_of_ble_eq_true rfl) ?_
  intro X hX hC; subst hX
  show gG X d b (zQv X d b t T F Q) F 0 0 0 [some (.ref t), some (.int (zI a0)), none, none, none, none, none] []
  unfold wr_switchOf at hw
  refine g_aload_n hC dX12_switchOf_0 rfl ?_
  refine zr_callVv (As := []) hC hZ rfl (rm_beginBlock X.la d b  hZ.rf hw) cl_X12_770 rfl rfl (Nat.le_of_ble_eq_true rfl) ⟨Nat.le_of_ble_eq_true rfl, Nat.le_of_ble_eq_true rfl⟩ dX12_switchOf_1 (fun s2 F3 hZ5 h6 => ?_)
  refine g_aload_n hC dX12_switchOf_4 rfl ?_
  refine g_dup hC dX12_switchOf_5 rfl ?_
  refine zr_get (e := (zv s2 80)) hC hZ5 fl_X12_255 zb_80 (by decide) rfl dX12_switchOf_6 ?_
  refine g_iconst (v := zI 1) hC dX12_switchOf_9 rfl ?_
  refine zr_iadd hC dX12_switchOf_10 ?_
  obtain ⟨o7, h8⟩ := h6
  refine zr_put hC hZ5 fl_X12_255 zb_80 (by decide) o7 dX12_switchOf_11 (fun F9 hZ10 => ?_)
  refine g_aload_n hC dX12_switchOf_14 rfl ?_
  refine g_iload_n hC dX12_switchOf_15 rfl ?_
  refine zr_callVv (As := [.int (zI a0)]) hC hZ10 rfl (rm_labelsOf X.la d b Ra0 hZ10.rf h8) cl_X12_773 rfl rfl (Nat.le_of_ble_eq_true rfl) ⟨Nat.le_of_ble_eq_true rfl, Nat.le_of_ble_eq_true rfl⟩ dX12_switchOf_16 (fun s12 F13 hZ15 h16 => ?_)
  refine g_iconst (v := zI 0) hC dX12_switchOf_19 rfl ?_
  refine g_istore_n (lv' := [some (.ref t), some (.int (zI a0)), some (.int (zI 0)), none, none, none, none]) hC dX12_switchOf_20 (Nat.le_of_ble_eq_true rfl) rfl rfl ?_
  refine g_aload_n hC dX12_switchOf_21 rfl ?_
  refine g_bipush (v := zI 9) hC dX12_switchOf_22 rfl ?_
  refine g_iconst (v := zI 0) hC dX12_switchOf_24 rfl ?_
  refine g_iconst (v := zI (-1)) hC dX12_switchOf_25 rfl ?_
  refine zr_callVv (As := [.int (zI 9), .int (zI 0), .int (zI (-1))]) hC hZ15 rfl (rm_task X.la d b (by decide) (by decide) (by decide) hZ15.rf h16) cl_X12_647 rfl rfl (Nat.le_of_ble_eq_true rfl) ⟨Nat.le_of_ble_eq_true rfl, Nat.le_of_ble_eq_true rfl⟩ dX12_switchOf_26 (fun s18 F19 hZ21 h22 => ?_)
  refine g_aload_n hC dX12_switchOf_29 rfl ?_
  refine zr_get (e := (zv s18 63)) hC hZ21 fl_X12_203 zb_63 (by decide) rfl dX12_switchOf_30 ?_
  refine g_istore_n (lv' := [some (.ref t), some (.int (zI a0)), some (.int (zI 0)), some (.int (zI (zv s18 63))), none, none, none]) hC dX12_switchOf_33 (Nat.le_of_ble_eq_true rfl) rfl rfl ?_
  refine g_aload_n hC dX12_switchOf_34 rfl ?_
  refine zr_geta hC hZ21 fl_X12_96 zb_28 (by decide) dX12_switchOf_35 ?_
  refine g_aload_n hC dX12_switchOf_38 rfl ?_
  refine zr_geta hC hZ21 fl_X12_93 zb_27 (by decide) dX12_switchOf_39 ?_
  refine g_iload_n hC dX12_switchOf_42 rfl ?_
  obtain ⟨o23, h24⟩ := h22
  obtain ⟨o25, h26⟩ := h24
  refine zr_iald (v := (za s18 27 (Int.toNat a0))) hC hZ21 zk_27 zb_27 zn_27 (by decide) o23 o25 rfl dX12_switchOf_43 ?_
  obtain ⟨o27, h28⟩ := h26
  obtain ⟨o29, h30⟩ := h28
  refine zr_iald (v := (za s18 28 (Int.toNat (za s18 27 (Int.toNat a0))))) hC hZ21 zk_28 zb_28 zn_28 (by decide) o27 o29 rfl dX12_switchOf_44 ?_
  refine g_istore (lv' := [some (.ref t), some (.int (zI a0)), some (.int (zI 0)), some (.int (zI (zv s18 63))), some (.int (zI (za s18 28 (Int.toNat (za s18 27 (Int.toNat a0)))))), none, none]) hC dX12_switchOf_45 (Nat.le_of_ble_eq_true rfl) rfl rfl ?_
  obtain ⟨m31, h32⟩ := h30
  exact rl_switchOf_47 hC  m31 _ _ _ _ _ _ Ra0 (by decide) (hZ21.rv 63) (hZ21.ra 28 _) hZ21 h32
theorem dX12_part_0 : decode cX12_part 0 = .ok (.aload_n 0, 1) := by decide +kernel
theorem dX12_part_1 : decode cX12_part 1 = .ok (.getfield 93, 3) := by decide +kernel
theorem dX12_part_4 : decode cX12_part 4 = .ok (.iload_n 1, 1) := by decide +kernel
theorem dX12_part_5 : decode cX12_part 5 = .ok (.iaload, 1) := by decide +kernel
theorem dX12_part_6 : decode cX12_part 6 = .ok (.istore_n 2, 1) := by decide +kernel
theorem dX12_part_7 : decode cX12_part 7 = .ok (.aload_n 0, 1) := by decide +kernel
theorem dX12_part_8 : decode cX12_part 8 = .ok (.getfield 96, 3) := by decide +kernel
theorem dX12_part_11 : decode cX12_part 11 = .ok (.iload_n 2, 1) := by decide +kernel
theorem dX12_part_12 : decode cX12_part 12 = .ok (.iaload, 1) := by decide +kernel
theorem dX12_part_13 : decode cX12_part 13 = .ok (.ifCond .lt 13, 3) := by decide +kernel
theorem dX12_part_16 : decode cX12_part 16 = .ok (.aload_n 0, 1) := by decide +kernel
theorem dX12_part_17 : decode cX12_part 17 = .ok (.getfield 96, 3) := by decide +kernel
theorem dX12_part_20 : decode cX12_part 20 = .ok (.iload_n 2, 1) := by decide +kernel
theorem dX12_part_21 : decode cX12_part 21 = .ok (.iaload, 1) := by decide +kernel
theorem dX12_part_22 : decode cX12_part 22 = .ok (.istore_n 2, 1) := by decide +kernel
theorem dX12_part_23 : decode cX12_part 23 = .ok (.goto (-16), 3) := by decide +kernel
theorem dX12_part_26 : decode cX12_part 26 = .ok (.aload_n 0, 1) := by decide +kernel
theorem dX12_part_27 : decode cX12_part 27 = .ok (.iconst 2, 1) := by decide +kernel
theorem dX12_part_28 : decode cX12_part 28 = .ok (.iload_n 2, 1) := by decide +kernel
theorem dX12_part_29 : decode cX12_part 29 = .ok (.iconst 0, 1) := by decide +kernel
theorem dX12_part_30 : decode cX12_part 30 = .ok (.invokevirtual 647, 3) := by decide +kernel
theorem dX12_part_33 : decode cX12_part 33 = .ok (.return_, 1) := by decide +kernel
def wr_part_7B (Q : zS → Prop) (k7 : zS → Int → Prop) (s0 : zS) (x2 : Int) : Prop :=
  (0 ≤ x2) ∧ (x2 < 26000) ∧ (((za s0 28 (Int.toNat x2)) < 0 → wr_task s0 2 x2 0 (fun s8 => Q s8)) ∧ (¬ (za s0 28 (Int.toNat x2)) < 0 → (0 ≤ x2) ∧ (x2 < 26000) ∧ k7 s0 (za s0 28 (Int.toNat x2))))
def wr_part_7 (Q : zS → Prop)  : Nat → zS → Int → Prop
  | 0 => fun _ _ => False
  | m + 1 => fun s0 x2 => wr_part_7B Q  (wr_part_7 Q  m) s0 x2
def wr_part (s0 : zS) (a0 : Int) (Q : zS → Prop) : Prop :=
  (0 ≤ a0) ∧ (a0 < 26000) ∧ ∃ n, wr_part_7 Q  n s0 (za s0 27 (Int.toNat a0))
set_option maxHeartbeats 4000000 in
set_option maxRecDepth 100000 in
theorem rb_part_7 {X : gX} {d : gD} {b t : Nat} {T : Nat → Nat} {F0 : gM} (hC : gC RX12 cX12_part 3 none "part" (gR 1 0 0) d b X) {Q : zS → Prop} {k7 : zS → Int → Prop} (hk7 : ∀ (F : gM) (s0 : zS) (x2 : Int), zR x2 → zZ d t T F0 F s0 → k7 s0 x2 → gG X d b (zQv X d b t T F0 Q) F 0 0 7 [some (.ref t), none, some (.int (zI x2))] []) {F : gM} {s0 : zS} {x2 : Int} (Rx2 : zR x2) (hZ : zZ d t T F0 F s0) (hw : wr_part_7B Q k7 s0 x2) : gG X d b (zQv X d b t T F0 Q) F 0 0 7 [some (.ref t), none, some (.int (zI x2))] [] := by
  unfold wr_part_7B at hw
  refine g_aload_n hC dX12_part_7 rfl ?_
  refine zr_geta hC hZ fl_X12_96 zb_28 (by decide) dX12_part_8 ?_
  refine g_iload_n hC dX12_part_11 rfl ?_
  obtain ⟨o1, h2⟩ := hw
  obtain ⟨o3, h4⟩ := h2
  refine zr_iald (v := (za s0 28 (Int.toNat x2))) hC hZ zk_28 zb_28 zn_28 (by decide) o1 o3 rfl dX12_part_12 ?_
  refine zr_if_lt (tgt := 26) hC (hZ.ra 28 _) dX12_part_13 (by decide) (fun c5 => ?_) (fun c5 => ?_)
  · have h6 := h4.1 c5
    refine g_aload_n hC dX12_part_26 rfl ?_
    refine g_iconst (v := zI 2) hC dX12_part_27 rfl ?_
    refine g_iload_n hC dX12_part_28 rfl ?_
    refine g_iconst (v := zI 0) hC dX12_part_29 rfl ?_
    refine zr_callVv (As := [.int (zI 2), .int (zI x2), .int (zI 0)]) hC hZ rfl (rm_task X.la d b (by decide) Rx2 (by decide) hZ.rf h6) cl_X12_647 rfl rfl (Nat.le_of_ble_eq_true rfl) ⟨Nat.le_of_ble_eq_true rfl, Nat.le_of_ble_eq_true rfl⟩ dX12_part_30 (fun s8 F9 hZ11 h12 => ?_)
    exact zr_vret hC hZ11 h12 dX12_part_33
  · have h13 := h4.2 c5
    refine g_aload_n hC dX12_part_16 rfl ?_
    refine zr_geta hC hZ fl_X12_96 zb_28 (by decide) dX12_part_17 ?_
    refine g_iload_n hC dX12_part_20 rfl ?_
    obtain ⟨o14, h15⟩ := h13
    obtain ⟨o16, h17⟩ := h15
    refine zr_iald (v := (za s0 28 (Int.toNat x2))) hC hZ zk_28 zb_28 zn_28 (by decide) o14 o16 rfl dX12_part_21 ?_
    refine g_istore_n (lv' := [some (.ref t), none, some (.int (zI (za s0 28 (Int.toNat x2))))]) hC dX12_part_22 (Nat.le_of_ble_eq_true rfl) rfl rfl ?_
    refine g_goto (tgt := 7) hC dX12_part_23 (by decide) ?_
    exact hk7 _ _ _ (hZ.ra 28 _) hZ h17
theorem rl_part_7 {X : gX} {d : gD} {b t : Nat} {T : Nat → Nat} {F0 : gM} (hC : gC RX12 cX12_part 3 none "part" (gR 1 0 0) d b X) {Q : zS → Prop}   : ∀ (m : Nat) (F : gM) (s0 : zS) (x2 : Int), zR x2 → zZ d t T F0 F s0 → wr_part_7 Q  m s0 x2 → gG X d b (zQv X d b t T F0 Q) F 0 0 7 [some (.ref t), none, some (.int (zI x2))] [] := by
  intro m
  induction m with
  | zero => intro F s0 x2 Rx2 hZ hw; exact False.elim hw
  | succ m ih => intro F s0 x2 Rx2 hZ hw; exact rb_part_7 hC  ih Rx2 hZ hw
set_option maxHeartbeats 4000000 in
set_option maxRecDepth 100000 in
theorem rm_part (l : Launch) (d : gD) (b : Nat) {t : Nat} {T : Nat → Nat} {F : gM} {s0 : zS} {a0 : Int} (Ra0 : zR a0) {Q : zS → Prop} (hZ : zZ d t T F F s0) (hw : wr_part s0 a0 Q) : gMv l d b yX12_part cX12_part 3 1 0 0 F [.ref t, .int (zI a0)] (zPv d t T F Q) := by
  refine gM_of2 rfl (nL := 3) (Nat.le_of_ble_eq_true rfl) ?_
  intro X hX hC; subst hX
  show gG X d b (zQv X d b t T F Q) F 0 0 0 [some (.ref t), some (.int (zI a0)), none] []
  unfold wr_part at hw
  refine g_aload_n hC dX12_part_0 rfl ?_
  refine zr_geta hC hZ fl_X12_93 zb_27 (by decide) dX12_part_1 ?_
  refine g_iload_n hC dX12_part_4 rfl ?_
  obtain ⟨o1, h2⟩ := hw
  obtain ⟨o3, h4⟩ := h2
  refine zr_iald (v := (za s0 27 (Int.toNat a0))) hC hZ zk_27 zb_27 zn_27 (by decide) o1 o3 rfl dX12_part_5 ?_
  refine g_istore_n (lv' := [some (.ref t), some (.int (zI a0)), some (.int (zI (za s0 27 (Int.toNat a0))))]) hC dX12_part_6 (Nat.le_of_ble_eq_true rfl) rfl rfl ?_
  refine g_lv (lv' := [some (.ref t), none, some (.int (zI (za s0 27 (Int.toNat a0))))]) ⟨rfl, rfl, trivial⟩ ?_
  obtain ⟨m5, h6⟩ := h4
  exact rl_part_7 hC  m5 _ _ _ (hZ.ra 27 _) hZ h6
theorem dX12_go_0 : decode cX12_go 0 = .ok (.iload_n 1, 1) := by decide +kernel
theorem dX12_go_1 : decode cX12_go 1 = .ok (.iconst 1, 1) := by decide +kernel
theorem dX12_go_2 : decode cX12_go 2 = .ok (.if_icmp .ne 11, 3) := by decide +kernel
theorem dX12_go_5 : decode cX12_go 5 = .ok (.aload_n 0, 1) := by decide +kernel
theorem dX12_go_6 : decode cX12_go 6 = .ok (.iload_n 2, 1) := by decide +kernel
theorem dX12_go_7 : decode cX12_go 7 = .ok (.invokevirtual 709, 3) := by decide +kernel
theorem dX12_go_10 : decode cX12_go 10 = .ok (.goto 199, 3) := by decide +kernel
theorem dX12_go_13 : decode cX12_go 13 = .ok (.iload_n 1, 1) := by decide +kernel
theorem dX12_go_14 : decode cX12_go 14 = .ok (.iconst 2, 1) := by decide +kernel
theorem dX12_go_15 : decode cX12_go 15 = .ok (.if_icmp .ne 11, 3) := by decide +kernel
theorem dX12_go_18 : decode cX12_go 18 = .ok (.aload_n 0, 1) := by decide +kernel
theorem dX12_go_19 : decode cX12_go 19 = .ok (.iload_n 2, 1) := by decide +kernel
theorem dX12_go_20 : decode cX12_go 20 = .ok (.invokevirtual 712, 3) := by decide +kernel
theorem dX12_go_23 : decode cX12_go 23 = .ok (.goto 186, 3) := by decide +kernel
theorem dX12_go_26 : decode cX12_go 26 = .ok (.iload_n 1, 1) := by decide +kernel
theorem dX12_go_27 : decode cX12_go 27 = .ok (.iconst 3, 1) := by decide +kernel
theorem dX12_go_28 : decode cX12_go 28 = .ok (.if_icmp .ne 11, 3) := by decide +kernel
theorem dX12_go_31 : decode cX12_go 31 = .ok (.aload_n 0, 1) := by decide +kernel
theorem dX12_go_32 : decode cX12_go 32 = .ok (.iload_n 2, 1) := by decide +kernel
theorem dX12_go_33 : decode cX12_go 33 = .ok (.invokevirtual 715, 3) := by decide +kernel
theorem dX12_go_36 : decode cX12_go 36 = .ok (.goto 173, 3) := by decide +kernel
theorem dX12_go_39 : decode cX12_go 39 = .ok (.iload_n 1, 1) := by decide +kernel
theorem dX12_go_40 : decode cX12_go 40 = .ok (.iconst 4, 1) := by decide +kernel
theorem dX12_go_41 : decode cX12_go 41 = .ok (.if_icmp .eq 8, 3) := by decide +kernel
theorem dX12_go_44 : decode cX12_go 44 = .ok (.iload_n 1, 1) := by decide +kernel
theorem dX12_go_45 : decode cX12_go 45 = .ok (.iconst 5, 1) := by decide +kernel
theorem dX12_go_46 : decode cX12_go 46 = .ok (.if_icmp .ne 21, 3) := by decide +kernel
theorem dX12_go_49 : decode cX12_go 49 = .ok (.aload_n 0, 1) := by decide +kernel
theorem dX12_go_50 : decode cX12_go 50 = .ok (.iload_n 2, 1) := by decide +kernel
theorem dX12_go_51 : decode cX12_go 51 = .ok (.iload_n 1, 1) := by decide +kernel
theorem dX12_go_52 : decode cX12_go 52 = .ok (.iconst 4, 1) := by decide +kernel
theorem dX12_go_53 : decode cX12_go 53 = .ok (.if_icmp .ne 7, 3) := by decide +kernel
theorem dX12_go_56 : decode cX12_go 56 = .ok (.iconst 1, 1) := by decide +kernel
theorem dX12_go_57 : decode cX12_go 57 = .ok (.goto 4, 3) := by decide +kernel
theorem dX12_go_60 : decode cX12_go 60 = .ok (.iconst 0, 1) := by decide +kernel
theorem dX12_go_61 : decode cX12_go 61 = .ok (.invokevirtual 718, 3) := by decide +kernel
theorem dX12_go_64 : decode cX12_go 64 = .ok (.goto 145, 3) := by decide +kernel
theorem dX12_go_67 : decode cX12_go 67 = .ok (.iload_n 1, 1) := by decide +kernel
theorem dX12_go_68 : decode cX12_go 68 = .ok (.bipush 6, 2) := by decide +kernel
theorem dX12_go_70 : decode cX12_go 70 = .ok (.if_icmp .ne 12, 3) := by decide +kernel
theorem dX12_go_73 : decode cX12_go 73 = .ok (.aload_n 0, 1) := by decide +kernel
theorem dX12_go_74 : decode cX12_go 74 = .ok (.iload_n 2, 1) := by decide +kernel
theorem dX12_go_75 : decode cX12_go 75 = .ok (.iload_n 3, 1) := by decide +kernel
theorem dX12_go_76 : decode cX12_go 76 = .ok (.invokevirtual 722, 3) := by decide +kernel
theorem dX12_go_79 : decode cX12_go 79 = .ok (.goto 130, 3) := by decide +kernel
theorem dX12_go_82 : decode cX12_go 82 = .ok (.iload_n 1, 1) := by decide +kernel
theorem dX12_go_83 : decode cX12_go 83 = .ok (.bipush 7, 2) := by decide +kernel
theorem dX12_go_85 : decode cX12_go 85 = .ok (.if_icmp .ne 11, 3) := by decide +kernel
theorem dX12_go_88 : decode cX12_go 88 = .ok (.aload_n 0, 1) := by decide +kernel
theorem dX12_go_89 : decode cX12_go 89 = .ok (.iload_n 2, 1) := by decide +kernel
theorem dX12_go_90 : decode cX12_go 90 = .ok (.invokevirtual 725, 3) := by decide +kernel
theorem dX12_go_93 : decode cX12_go 93 = .ok (.goto 116, 3) := by decide +kernel
theorem dX12_go_96 : decode cX12_go 96 = .ok (.iload_n 1, 1) := by decide +kernel
theorem dX12_go_97 : decode cX12_go 97 = .ok (.bipush 8, 2) := by decide +kernel
theorem dX12_go_99 : decode cX12_go 99 = .ok (.if_icmp .ne 11, 3) := by decide +kernel
theorem dX12_go_102 : decode cX12_go 102 = .ok (.aload_n 0, 1) := by decide +kernel
theorem dX12_go_103 : decode cX12_go 103 = .ok (.iload_n 2, 1) := by decide +kernel
theorem dX12_go_104 : decode cX12_go 104 = .ok (.invokevirtual 728, 3) := by decide +kernel
theorem dX12_go_107 : decode cX12_go 107 = .ok (.goto 102, 3) := by decide +kernel
theorem dX12_go_110 : decode cX12_go 110 = .ok (.iload_n 1, 1) := by decide +kernel
theorem dX12_go_111 : decode cX12_go 111 = .ok (.bipush 9, 2) := by decide +kernel
theorem dX12_go_113 : decode cX12_go 113 = .ok (.if_icmp .ne 11, 3) := by decide +kernel
theorem dX12_go_116 : decode cX12_go 116 = .ok (.aload_n 0, 1) := by decide +kernel
theorem dX12_go_117 : decode cX12_go 117 = .ok (.iload_n 3, 1) := by decide +kernel
theorem dX12_go_118 : decode cX12_go 118 = .ok (.invokevirtual 731, 3) := by decide +kernel
theorem dX12_go_121 : decode cX12_go 121 = .ok (.goto 88, 3) := by decide +kernel
theorem dX12_go_124 : decode cX12_go 124 = .ok (.iload_n 1, 1) := by decide +kernel
theorem dX12_go_125 : decode cX12_go 125 = .ok (.bipush 10, 2) := by decide +kernel
theorem dX12_go_127 : decode cX12_go 127 = .ok (.if_icmp .ne 16, 3) := by decide +kernel
theorem dX12_go_130 : decode cX12_go 130 = .ok (.aload_n 0, 1) := by decide +kernel
theorem dX12_go_131 : decode cX12_go 131 = .ok (.dup, 1) := by decide +kernel
theorem dX12_go_132 : decode cX12_go 132 = .ok (.getfield 252, 3) := by decide +kernel
theorem dX12_go_135 : decode cX12_go 135 = .ok (.iload_n 3, 1) := by decide +kernel
theorem dX12_go_136 : decode cX12_go 136 = .ok (.iadd, 1) := by decide +kernel
theorem dX12_go_137 : decode cX12_go 137 = .ok (.putfield 252, 3) := by decide +kernel
theorem dX12_go_140 : decode cX12_go 140 = .ok (.goto 69, 3) := by decide +kernel
theorem dX12_go_143 : decode cX12_go 143 = .ok (.iload_n 1, 1) := by decide +kernel
theorem dX12_go_144 : decode cX12_go 144 = .ok (.bipush 11, 2) := by decide +kernel
theorem dX12_go_146 : decode cX12_go 146 = .ok (.if_icmp .ne 11, 3) := by decide +kernel
theorem dX12_go_149 : decode cX12_go 149 = .ok (.aload_n 0, 1) := by decide +kernel
theorem dX12_go_150 : decode cX12_go 150 = .ok (.iload_n 2, 1) := by decide +kernel
theorem dX12_go_151 : decode cX12_go 151 = .ok (.invokevirtual 734, 3) := by decide +kernel
theorem dX12_go_154 : decode cX12_go 154 = .ok (.goto 55, 3) := by decide +kernel
theorem dX12_go_157 : decode cX12_go 157 = .ok (.iload_n 1, 1) := by decide +kernel
theorem dX12_go_158 : decode cX12_go 158 = .ok (.bipush 12, 2) := by decide +kernel
theorem dX12_go_160 : decode cX12_go 160 = .ok (.if_icmp .ne 11, 3) := by decide +kernel
theorem dX12_go_163 : decode cX12_go 163 = .ok (.aload_n 0, 1) := by decide +kernel
theorem dX12_go_164 : decode cX12_go 164 = .ok (.iload_n 2, 1) := by decide +kernel
theorem dX12_go_165 : decode cX12_go 165 = .ok (.invokevirtual 737, 3) := by decide +kernel
theorem dX12_go_168 : decode cX12_go 168 = .ok (.goto 41, 3) := by decide +kernel
theorem dX12_go_171 : decode cX12_go 171 = .ok (.iload_n 1, 1) := by decide +kernel
theorem dX12_go_172 : decode cX12_go 172 = .ok (.bipush 13, 2) := by decide +kernel
theorem dX12_go_174 : decode cX12_go 174 = .ok (.if_icmp .ne 11, 3) := by decide +kernel
theorem dX12_go_177 : decode cX12_go 177 = .ok (.aload_n 0, 1) := by decide +kernel
theorem dX12_go_178 : decode cX12_go 178 = .ok (.iload_n 2, 1) := by decide +kernel
theorem dX12_go_179 : decode cX12_go 179 = .ok (.invokevirtual 740, 3) := by decide +kernel
theorem dX12_go_182 : decode cX12_go 182 = .ok (.goto 27, 3) := by decide +kernel
theorem dX12_go_185 : decode cX12_go 185 = .ok (.aload_n 0, 1) := by decide +kernel
theorem dX12_go_186 : decode cX12_go 186 = .ok (.aload_n 0, 1) := by decide +kernel
theorem dX12_go_187 : decode cX12_go 187 = .ok (.invokevirtual 743, 3) := by decide +kernel
theorem dX12_go_190 : decode cX12_go 190 = .ok (.putfield 255, 3) := by decide +kernel
theorem dX12_go_193 : decode cX12_go 193 = .ok (.aload_n 0, 1) := by decide +kernel
theorem dX12_go_194 : decode cX12_go 194 = .ok (.aload_n 0, 1) := by decide +kernel
theorem dX12_go_195 : decode cX12_go 195 = .ok (.invokevirtual 743, 3) := by decide +kernel
theorem dX12_go_198 : decode cX12_go 198 = .ok (.putfield 252, 3) := by decide +kernel
theorem dX12_go_201 : decode cX12_go 201 = .ok (.aload_n 0, 1) := by decide +kernel
theorem dX12_go_202 : decode cX12_go 202 = .ok (.aload_n 0, 1) := by decide +kernel
theorem dX12_go_203 : decode cX12_go 203 = .ok (.invokevirtual 743, 3) := by decide +kernel
theorem dX12_go_206 : decode cX12_go 206 = .ok (.putfield 246, 3) := by decide +kernel
theorem dX12_go_209 : decode cX12_go 209 = .ok (.return_, 1) := by decide +kernel
def wr_go (s0 : zS) (a0 : Int) (a1 : Int) (a2 : Int) (Q : zS → Prop) : Prop :=
  ((¬ a0 = 1 → ((¬ a0 = 2 → ((¬ a0 = 3 → ((a0 = 4 → ((¬ a0 = 4 → wr_placeOf s0 a1 0 (fun s12 => Q s12)) ∧ (a0 = 4 → wr_placeOf s0 a1 1 (fun s19 => Q s19)))) ∧ (¬ a0 = 4 → ((¬ a0 = 5 → ((¬ a0 = 6 → ((¬ a0 = 7 → ((¬ a0 = 8 → ((¬ a0 = 9 → ((¬ a0 = 10 → ((¬ a0 = 11 → ((¬ a0 = 12 → ((¬ a0 = 13 → wr_pull s0  (fun r43 s44 => wr_pull (zpv s44 80 r43)  (fun r51 s52 => wr_pull (zpv s52 79 r51)  (fun r59 s60 => Q (zpv s60 77 r59))))) ∧ (a0 = 13 → wr_part s0 a1 (fun s69 => Q s69)))) ∧ (a0 = 12 → wr_switchOf s0 a1 (fun s76 => Q s76)))) ∧ (a0 = 11 → wr_forName s0 a1 (fun s83 => Q s83)))) ∧ (a0 = 10 → (zR ((zv s0 79) + a2)) ∧ Q (zpv s0 79 ((zv s0 79) + a2))))) ∧ (a0 = 9 → wr_blockEnds s0 a2 (fun s95 => Q s95)))) ∧ (a0 = 8 → wr_varsEnd s0 a1 (fun s102 => Q s102)))) ∧ (a0 = 7 → wr_routineEnds s0 a1 (fun s109 => Q s109)))) ∧ (a0 = 6 → wr_routineOf s0 a1 a2 (fun s116 => Q s116)))) ∧ (a0 = 5 → ((¬ a0 = 4 → wr_placeOf s0 a1 0 (fun s125 => Q s125)) ∧ (a0 = 4 → wr_placeOf s0 a1 1 (fun s132 => Q s132)))))))) ∧ (a0 = 3 → wr_expressionOf s0 a1 (fun s139 => Q s139)))) ∧ (a0 = 2 → wr_commandOf s0 a1 (fun s146 => Q s146)))) ∧ (a0 = 1 → wr_declaration s0 a1 (fun s153 => Q s153)))
set_option maxHeartbeats 4000000 in
set_option maxRecDepth 100000 in
theorem rm_go (l : Launch) (d : gD) (b : Nat) {t : Nat} {T : Nat → Nat} {F : gM} {s0 : zS} {a0 : Int} {a1 : Int} {a2 : Int} (Ra0 : zR a0) (Ra1 : zR a1) (Ra2 : zR a2) {Q : zS → Prop} (hZ : zZ d t T F F s0) (hw : wr_go s0 a0 a1 a2 Q) : gMv l d b yX12_go cX12_go 4 5 0 0 F [.ref t, .int (zI a0), .int (zI a1), .int (zI a2)] (zPv d t T F Q) := by
  refine gM_of2 rfl (nL := 4) (Nat.le_of_ble_eq_true rfl) ?_
  intro X hX hC; subst hX
  show gG X d b (zQv X d b t T F Q) F 0 0 0 [some (.ref t), some (.int (zI a0)), some (.int (zI a1)), some (.int (zI a2))] []
  unfold wr_go at hw
  refine g_iload_n hC dX12_go_0 rfl ?_
  refine g_iconst (v := zI 1) hC dX12_go_1 rfl ?_
  refine zr_icmp_ne (tgt := 13) hC Ra0 (by decide) dX12_go_2 (by decide) (fun c1 => ?_) (fun c1 => ?_)
  · have h2 := hw.1 c1
    refine g_iload_n hC dX12_go_13 rfl ?_
    refine g_iconst (v := zI 2) hC dX12_go_14 rfl ?_
    refine zr_icmp_ne (tgt := 26) hC Ra0 (by decide) dX12_go_15 (by decide) (fun c3 => ?_) (fun c3 => ?_)
    · have h4 := h2.1 c3
      refine g_iload_n hC dX12_go_26 rfl ?_
      refine g_iconst (v := zI 3) hC dX12_go_27 rfl ?_
      refine zr_icmp_ne (tgt := 39) hC Ra0 (by decide) dX12_go_28 (by decide) (fun c5 => ?_) (fun c5 => ?_)
      · have h6 := h4.1 c5
        refine g_iload_n hC dX12_go_39 rfl ?_
        refine g_iconst (v := zI 4) hC dX12_go_40 rfl ?_
        refine zr_icmp_eq (tgt := 49) hC Ra0 (by decide) dX12_go_41 (by decide) (fun c7 => ?_) (fun c7 => ?_)
        · have h8 := h6.1 c7
          refine g_aload_n hC dX12_go_49 rfl ?_
          refine g_iload_n hC dX12_go_50 rfl ?_
          refine g_iload_n hC dX12_go_51 rfl ?_
          refine g_iconst (v := zI 4) hC dX12_go_52 rfl ?_
          refine zr_icmp_ne (tgt := 60) hC Ra0 (by decide) dX12_go_53 (by decide) (fun c9 => ?_) (fun c9 => ?_)
          · have h10 := h8.1 c9
            refine g_iconst (v := zI 0) hC dX12_go_60 rfl ?_
            refine zr_callVv (As := [.int (zI a1), .int (zI 0)]) hC hZ rfl (rm_placeOf X.la d b Ra1 (by decide) hZ.rf h10) cl_X12_718 rfl rfl (Nat.le_of_ble_eq_true rfl) ⟨Nat.le_of_ble_eq_true rfl, Nat.le_of_ble_eq_true rfl⟩ dX12_go_61 (fun s12 F13 hZ15 h16 => ?_)
            refine g_goto (tgt := 209) hC dX12_go_64 (by decide) ?_
            exact zr_vret hC hZ15 h16 dX12_go_209
          · have h17 := h8.2 c9
            refine g_iconst (v := zI 1) hC dX12_go_56 rfl ?_
            refine g_goto (tgt := 61) hC dX12_go_57 (by decide) ?_
            refine zr_callVv (As := [.int (zI a1), .int (zI 1)]) hC hZ rfl (rm_placeOf X.la d b Ra1 (by decide) hZ.rf h17) cl_X12_718 rfl rfl (Nat.le_of_ble_eq_true rfl) ⟨Nat.le_of_ble_eq_true rfl, Nat.le_of_ble_eq_true rfl⟩ dX12_go_61 (fun s19 F20 hZ22 h23 => ?_)
            refine g_goto (tgt := 209) hC dX12_go_64 (by decide) ?_
            exact zr_vret hC hZ22 h23 dX12_go_209
        · have h24 := h6.2 c7
          refine g_iload_n hC dX12_go_44 rfl ?_
          refine g_iconst (v := zI 5) hC dX12_go_45 rfl ?_
          refine zr_icmp_ne (tgt := 67) hC Ra0 (by decide) dX12_go_46 (by decide) (fun c25 => ?_) (fun c25 => ?_)
          · have h26 := h24.1 c25
            refine g_iload_n hC dX12_go_67 rfl ?_
            refine g_bipush (v := zI 6) hC dX12_go_68 rfl ?_
            refine zr_icmp_ne (tgt := 82) hC Ra0 (by decide) dX12_go_70 (by decide) (fun c27 => ?_) (fun c27 => ?_)
            · have h28 := h26.1 c27
              refine g_iload_n hC dX12_go_82 rfl ?_
              refine g_bipush (v := zI 7) hC dX12_go_83 rfl ?_
              refine zr_icmp_ne (tgt := 96) hC Ra0 (by decide) dX12_go_85 (by decide) (fun c29 => ?_) (fun c29 => ?_)
              · have h30 := h28.1 c29
                refine g_iload_n hC dX12_go_96 rfl ?_
                refine g_bipush (v := zI 8) hC dX12_go_97 rfl ?_
                refine zr_icmp_ne (tgt := 110) hC Ra0 (by decide) dX12_go_99 (by decide) (fun c31 => ?_) (fun c31 => ?_)
                · have h32 := h30.1 c31
                  refine g_iload_n hC dX12_go_110 rfl ?_
                  refine g_bipush (v := zI 9) hC dX12_go_111 rfl ?_
                  refine zr_icmp_ne (tgt := 124) hC Ra0 (by decide) dX12_go_113 (by decide) (fun c33 => ?_) (fun c33 => ?_)
                  · have h34 := h32.1 c33
                    refine g_iload_n hC dX12_go_124 rfl ?_
                    refine g_bipush (v := zI 10) hC dX12_go_125 rfl ?_
                    refine zr_icmp_ne (tgt := 143) hC Ra0 (by decide) dX12_go_127 (by decide) (fun c35 => ?_) (fun c35 => ?_)
                    · have h36 := h34.1 c35
                      refine g_iload_n hC dX12_go_143 rfl ?_
                      refine g_bipush (v := zI 11) hC dX12_go_144 rfl ?_
                      refine zr_icmp_ne (tgt := 157) hC Ra0 (by decide) dX12_go_146 (by decide) (fun c37 => ?_) (fun c37 => ?_)
                      · have h38 := h36.1 c37
                        refine g_iload_n hC dX12_go_157 rfl ?_
                        refine g_bipush (v := zI 12) hC dX12_go_158 rfl ?_
                        refine zr_icmp_ne (tgt := 171) hC Ra0 (by decide) dX12_go_160 (by decide) (fun c39 => ?_) (fun c39 => ?_)
                        · have h40 := h38.1 c39
                          refine g_iload_n hC dX12_go_171 rfl ?_
                          refine g_bipush (v := zI 13) hC dX12_go_172 rfl ?_
                          refine zr_icmp_ne (tgt := 185) hC Ra0 (by decide) dX12_go_174 (by decide) (fun c41 => ?_) (fun c41 => ?_)
                          · have h42 := h40.1 c41
                            refine g_aload_n hC dX12_go_185 rfl ?_
                            refine g_aload_n hC dX12_go_186 rfl ?_
                            refine zr_callVi (As := []) hC hZ rfl (rm_pull X.la d b  hZ.rf h42) cl_X12_743 rfl rfl (Nat.le_of_ble_eq_true rfl) ⟨Nat.le_of_ble_eq_true rfl, Nat.le_of_ble_eq_true rfl⟩ dX12_go_187 (fun r43 s44 F45 R46 hZ47 h48 => ?_)
                            refine zr_put hC hZ47 fl_X12_255 zb_80 (by decide) R46 dX12_go_190 (fun F49 hZ50 => ?_)
                            refine g_aload_n hC dX12_go_193 rfl ?_
                            refine g_aload_n hC dX12_go_194 rfl ?_
                            refine zr_callVi (As := []) hC hZ50 rfl (rm_pull X.la d b  hZ50.rf h48) cl_X12_743 rfl rfl (Nat.le_of_ble_eq_true rfl) ⟨Nat.le_of_ble_eq_true rfl, Nat.le_of_ble_eq_true rfl⟩ dX12_go_195 (fun r51 s52 F53 R54 hZ55 h56 => ?_)
                            refine zr_put hC hZ55 fl_X12_252 zb_79 (by decide) R54 dX12_go_198 (fun F57 hZ58 => ?_)
                            refine g_aload_n hC dX12_go_201 rfl ?_
                            refine g_aload_n hC dX12_go_202 rfl ?_
                            refine zr_callVi (As := []) hC hZ58 rfl (rm_pull X.la d b  hZ58.rf h56) cl_X12_743 rfl rfl (Nat.le_of_ble_eq_true rfl) ⟨Nat.le_of_ble_eq_true rfl, Nat.le_of_ble_eq_true rfl⟩ dX12_go_203 (fun r59 s60 F61 R62 hZ63 h64 => ?_)
                            refine zr_put hC hZ63 fl_X12_246 zb_77 (by decide) R62 dX12_go_206 (fun F65 hZ66 => ?_)
                            exact zr_vret hC hZ66 h64 dX12_go_209
                          · have h67 := h40.2 c41
                            refine g_aload_n hC dX12_go_177 rfl ?_
                            refine g_iload_n hC dX12_go_178 rfl ?_
                            refine zr_callVv (As := [.int (zI a1)]) hC hZ rfl (rm_part X.la d b Ra1 hZ.rf h67) cl_X12_740 rfl rfl (Nat.le_of_ble_eq_true rfl) ⟨Nat.le_of_ble_eq_true rfl, Nat.le_of_ble_eq_true rfl⟩ dX12_go_179 (fun s69 F70 hZ72 h73 => ?_)
                            refine g_goto (tgt := 209) hC dX12_go_182 (by decide) ?_
                            exact zr_vret hC hZ72 h73 dX12_go_209
                        · have h74 := h38.2 c39
                          refine g_aload_n hC dX12_go_163 rfl ?_
                          refine g_iload_n hC dX12_go_164 rfl ?_
                          refine zr_callVv (As := [.int (zI a1)]) hC hZ rfl (rm_switchOf X.la d b Ra1 hZ.rf h74) cl_X12_737 rfl rfl (Nat.le_of_ble_eq_true rfl) ⟨Nat.le_of_ble_eq_true rfl, Nat.le_of_ble_eq_true rfl⟩ dX12_go_165 (fun s76 F77 hZ79 h80 => ?_)
                          refine g_goto (tgt := 209) hC dX12_go_168 (by decide) ?_
                          exact zr_vret hC hZ79 h80 dX12_go_209
                      · have h81 := h36.2 c37
                        refine g_aload_n hC dX12_go_149 rfl ?_
                        refine g_iload_n hC dX12_go_150 rfl ?_
                        refine zr_callVv (As := [.int (zI a1)]) hC hZ rfl (rm_forName X.la d b Ra1 hZ.rf h81) cl_X12_734 rfl rfl (Nat.le_of_ble_eq_true rfl) ⟨Nat.le_of_ble_eq_true rfl, Nat.le_of_ble_eq_true rfl⟩ dX12_go_151 (fun s83 F84 hZ86 h87 => ?_)
                        refine g_goto (tgt := 209) hC dX12_go_154 (by decide) ?_
                        exact zr_vret hC hZ86 h87 dX12_go_209
                    · have h88 := h34.2 c35
                      refine g_aload_n hC dX12_go_130 rfl ?_
                      refine g_dup hC dX12_go_131 rfl ?_
                      refine zr_get (e := (zv s0 79)) hC hZ fl_X12_252 zb_79 (by decide) rfl dX12_go_132 ?_
                      refine g_iload_n hC dX12_go_135 rfl ?_
                      refine zr_iadd hC dX12_go_136 ?_
                      obtain ⟨o89, h90⟩ := h88
                      refine zr_put hC hZ fl_X12_252 zb_79 (by decide) o89 dX12_go_137 (fun F91 hZ92 => ?_)
                      refine g_goto (tgt := 209) hC dX12_go_140 (by decide) ?_
                      exact zr_vret hC hZ92 h90 dX12_go_209
                  · have h93 := h32.2 c33
                    refine g_aload_n hC dX12_go_116 rfl ?_
                    refine g_iload_n hC dX12_go_117 rfl ?_
                    refine zr_callVv (As := [.int (zI a2)]) hC hZ rfl (rm_blockEnds X.la d b Ra2 hZ.rf h93) cl_X12_731 rfl rfl (Nat.le_of_ble_eq_true rfl) ⟨Nat.le_of_ble_eq_true rfl, Nat.le_of_ble_eq_true rfl⟩ dX12_go_118 (fun s95 F96 hZ98 h99 => ?_)
                    refine g_goto (tgt := 209) hC dX12_go_121 (by decide) ?_
                    exact zr_vret hC hZ98 h99 dX12_go_209
                · have h100 := h30.2 c31
                  refine g_aload_n hC dX12_go_102 rfl ?_
                  refine g_iload_n hC dX12_go_103 rfl ?_
                  refine zr_callVv (As := [.int (zI a1)]) hC hZ rfl (rm_varsEnd X.la d b Ra1 hZ.rf h100) cl_X12_728 rfl rfl (Nat.le_of_ble_eq_true rfl) ⟨Nat.le_of_ble_eq_true rfl, Nat.le_of_ble_eq_true rfl⟩ dX12_go_104 (fun s102 F103 hZ105 h106 => ?_)
                  refine g_goto (tgt := 209) hC dX12_go_107 (by decide) ?_
                  exact zr_vret hC hZ105 h106 dX12_go_209
              · have h107 := h28.2 c29
                refine g_aload_n hC dX12_go_88 rfl ?_
                refine g_iload_n hC dX12_go_89 rfl ?_
                refine zr_callVv (As := [.int (zI a1)]) hC hZ rfl (rm_routineEnds X.la d b Ra1 hZ.rf h107) cl_X12_725 rfl rfl (Nat.le_of_ble_eq_true rfl) ⟨Nat.le_of_ble_eq_true rfl, Nat.le_of_ble_eq_true rfl⟩ dX12_go_90 (fun s109 F110 hZ112 h113 => ?_)
                refine g_goto (tgt := 209) hC dX12_go_93 (by decide) ?_
                exact zr_vret hC hZ112 h113 dX12_go_209
            · have h114 := h26.2 c27
              refine g_aload_n hC dX12_go_73 rfl ?_
              refine g_iload_n hC dX12_go_74 rfl ?_
              refine g_iload_n hC dX12_go_75 rfl ?_
              refine zr_callVv (As := [.int (zI a1), .int (zI a2)]) hC hZ rfl (rm_routineOf X.la d b Ra1 Ra2 hZ.rf h114) cl_X12_722 rfl rfl (Nat.le_of_ble_eq_true rfl) ⟨Nat.le_of_ble_eq_true rfl, Nat.le_of_ble_eq_true rfl⟩ dX12_go_76 (fun s116 F117 hZ119 h120 => ?_)
              refine g_goto (tgt := 209) hC dX12_go_79 (by decide) ?_
              exact zr_vret hC hZ119 h120 dX12_go_209
          · have h121 := h24.2 c25
            refine g_aload_n hC dX12_go_49 rfl ?_
            refine g_iload_n hC dX12_go_50 rfl ?_
            refine g_iload_n hC dX12_go_51 rfl ?_
            refine g_iconst (v := zI 4) hC dX12_go_52 rfl ?_
            refine zr_icmp_ne (tgt := 60) hC Ra0 (by decide) dX12_go_53 (by decide) (fun c122 => ?_) (fun c122 => ?_)
            · have h123 := h121.1 c122
              refine g_iconst (v := zI 0) hC dX12_go_60 rfl ?_
              refine zr_callVv (As := [.int (zI a1), .int (zI 0)]) hC hZ rfl (rm_placeOf X.la d b Ra1 (by decide) hZ.rf h123) cl_X12_718 rfl rfl (Nat.le_of_ble_eq_true rfl) ⟨Nat.le_of_ble_eq_true rfl, Nat.le_of_ble_eq_true rfl⟩ dX12_go_61 (fun s125 F126 hZ128 h129 => ?_)
              refine g_goto (tgt := 209) hC dX12_go_64 (by decide) ?_
              exact zr_vret hC hZ128 h129 dX12_go_209
            · have h130 := h121.2 c122
              refine g_iconst (v := zI 1) hC dX12_go_56 rfl ?_
              refine g_goto (tgt := 61) hC dX12_go_57 (by decide) ?_
              refine zr_callVv (As := [.int (zI a1), .int (zI 1)]) hC hZ rfl (rm_placeOf X.la d b Ra1 (by decide) hZ.rf h130) cl_X12_718 rfl rfl (Nat.le_of_ble_eq_true rfl) ⟨Nat.le_of_ble_eq_true rfl, Nat.le_of_ble_eq_true rfl⟩ dX12_go_61 (fun s132 F133 hZ135 h136 => ?_)
              refine g_goto (tgt := 209) hC dX12_go_64 (by decide) ?_
              exact zr_vret hC hZ135 h136 dX12_go_209
      · have h137 := h4.2 c5
        refine g_aload_n hC dX12_go_31 rfl ?_
        refine g_iload_n hC dX12_go_32 rfl ?_
        refine zr_callVv (As := [.int (zI a1)]) hC hZ rfl (rm_expressionOf X.la d b Ra1 hZ.rf h137) cl_X12_715 rfl rfl (Nat.le_of_ble_eq_true rfl) ⟨Nat.le_of_ble_eq_true rfl, Nat.le_of_ble_eq_true rfl⟩ dX12_go_33 (fun s139 F140 hZ142 h143 => ?_)
        refine g_goto (tgt := 209) hC dX12_go_36 (by decide) ?_
        exact zr_vret hC hZ142 h143 dX12_go_209
    · have h144 := h2.2 c3
      refine g_aload_n hC dX12_go_18 rfl ?_
      refine g_iload_n hC dX12_go_19 rfl ?_
      refine zr_callVv (As := [.int (zI a1)]) hC hZ rfl (rm_commandOf X.la d b Ra1 hZ.rf h144) cl_X12_712 rfl rfl (Nat.le_of_ble_eq_true rfl) ⟨Nat.le_of_ble_eq_true rfl, Nat.le_of_ble_eq_true rfl⟩ dX12_go_20 (fun s146 F147 hZ149 h150 => ?_)
      refine g_goto (tgt := 209) hC dX12_go_23 (by decide) ?_
      exact zr_vret hC hZ149 h150 dX12_go_209
  · have h151 := hw.2 c1
    refine g_aload_n hC dX12_go_5 rfl ?_
    refine g_iload_n hC dX12_go_6 rfl ?_
    refine zr_callVv (As := [.int (zI a1)]) hC hZ rfl (rm_declaration X.la d b Ra1 hZ.rf h151) cl_X12_709 rfl rfl (Nat.le_of_ble_eq_true rfl) ⟨Nat.le_of_ble_eq_true rfl, Nat.le_of_ble_eq_true rfl⟩ dX12_go_7 (fun s153 F154 hZ156 h157 => ?_)
    refine g_goto (tgt := 209) hC dX12_go_10 (by decide) ?_
    exact zr_vret hC hZ156 h157 dX12_go_209
theorem dX12_check_0 : decode cX12_check 0 = .ok (.aload_n 0, 1) := by decide +kernel
theorem dX12_check_1 : decode cX12_check 1 = .ok (.getfield 84, 3) := by decide +kernel
theorem dX12_check_4 : decode cX12_check 4 = .ok (.iconst 1, 1) := by decide +kernel
theorem dX12_check_5 : decode cX12_check 5 = .ok (.isub, 1) := by decide +kernel
theorem dX12_check_6 : decode cX12_check 6 = .ok (.istore_n 1, 1) := by decide +kernel
theorem dX12_check_7 : decode cX12_check 7 = .ok (.aload_n 0, 1) := by decide +kernel
theorem dX12_check_8 : decode cX12_check 8 = .ok (.invokevirtual 698, 3) := by decide +kernel
theorem dX12_check_11 : decode cX12_check 11 = .ok (.aload_n 0, 1) := by decide +kernel
theorem dX12_check_12 : decode cX12_check 12 = .ok (.iconst 0, 1) := by decide +kernel
theorem dX12_check_13 : decode cX12_check 13 = .ok (.putfield 203, 3) := by decide +kernel
theorem dX12_check_16 : decode cX12_check 16 = .ok (.aload_n 0, 1) := by decide +kernel
theorem dX12_check_17 : decode cX12_check 17 = .ok (.iconst 0, 1) := by decide +kernel
theorem dX12_check_18 : decode cX12_check 18 = .ok (.putfield 215, 3) := by decide +kernel
theorem dX12_check_21 : decode cX12_check 21 = .ok (.aload_n 0, 1) := by decide +kernel
theorem dX12_check_22 : decode cX12_check 22 = .ok (.iconst 0, 1) := by decide +kernel
theorem dX12_check_23 : decode cX12_check 23 = .ok (.putfield 222, 3) := by decide +kernel
theorem dX12_check_26 : decode cX12_check 26 = .ok (.aload_n 0, 1) := by decide +kernel
theorem dX12_check_27 : decode cX12_check 27 = .ok (.iconst (-1), 1) := by decide +kernel
theorem dX12_check_28 : decode cX12_check 28 = .ok (.putfield 234, 3) := by decide +kernel
theorem dX12_check_31 : decode cX12_check 31 = .ok (.aload_n 0, 1) := by decide +kernel
theorem dX12_check_32 : decode cX12_check 32 = .ok (.iconst 0, 1) := by decide +kernel
theorem dX12_check_33 : decode cX12_check 33 = .ok (.putfield 237, 3) := by decide +kernel
theorem dX12_check_36 : decode cX12_check 36 = .ok (.aload_n 0, 1) := by decide +kernel
theorem dX12_check_37 : decode cX12_check 37 = .ok (.iconst 0, 1) := by decide +kernel
theorem dX12_check_38 : decode cX12_check 38 = .ok (.putfield 240, 3) := by decide +kernel
theorem dX12_check_41 : decode cX12_check 41 = .ok (.aload_n 0, 1) := by decide +kernel
theorem dX12_check_42 : decode cX12_check 42 = .ok (.iconst 0, 1) := by decide +kernel
theorem dX12_check_43 : decode cX12_check 43 = .ok (.putfield 246, 3) := by decide +kernel
theorem dX12_check_46 : decode cX12_check 46 = .ok (.aload_n 0, 1) := by decide +kernel
theorem dX12_check_47 : decode cX12_check 47 = .ok (.iconst 0, 1) := by decide +kernel
theorem dX12_check_48 : decode cX12_check 48 = .ok (.putfield 249, 3) := by decide +kernel
theorem dX12_check_51 : decode cX12_check 51 = .ok (.aload_n 0, 1) := by decide +kernel
theorem dX12_check_52 : decode cX12_check 52 = .ok (.iconst 0, 1) := by decide +kernel
theorem dX12_check_53 : decode cX12_check 53 = .ok (.putfield 252, 3) := by decide +kernel
theorem dX12_check_56 : decode cX12_check 56 = .ok (.aload_n 0, 1) := by decide +kernel
theorem dX12_check_57 : decode cX12_check 57 = .ok (.iconst 0, 1) := by decide +kernel
theorem dX12_check_58 : decode cX12_check 58 = .ok (.putfield 255, 3) := by decide +kernel
theorem dX12_check_61 : decode cX12_check 61 = .ok (.aload_n 0, 1) := by decide +kernel
theorem dX12_check_62 : decode cX12_check 62 = .ok (.bipush 100, 2) := by decide +kernel
theorem dX12_check_64 : decode cX12_check 64 = .ok (.putfield 258, 3) := by decide +kernel
theorem dX12_check_67 : decode cX12_check 67 = .ok (.aload_n 0, 1) := by decide +kernel
theorem dX12_check_68 : decode cX12_check 68 = .ok (.iconst 0, 1) := by decide +kernel
theorem dX12_check_69 : decode cX12_check 69 = .ok (.putfield 267, 3) := by decide +kernel
theorem dX12_check_72 : decode cX12_check 72 = .ok (.aload_n 0, 1) := by decide +kernel
theorem dX12_check_73 : decode cX12_check 73 = .ok (.iconst (-1), 1) := by decide +kernel
theorem dX12_check_74 : decode cX12_check 74 = .ok (.putfield 261, 3) := by decide +kernel
theorem dX12_check_77 : decode cX12_check 77 = .ok (.aload_n 0, 1) := by decide +kernel
theorem dX12_check_78 : decode cX12_check 78 = .ok (.iconst (-1), 1) := by decide +kernel
theorem dX12_check_79 : decode cX12_check 79 = .ok (.putfield 264, 3) := by decide +kernel
theorem dX12_check_82 : decode cX12_check 82 = .ok (.iconst 0, 1) := by decide +kernel
theorem dX12_check_83 : decode cX12_check 83 = .ok (.istore_n 2, 1) := by decide +kernel
theorem dX12_check_84 : decode cX12_check 84 = .ok (.iload_n 2, 1) := by decide +kernel
theorem dX12_check_85 : decode cX12_check 85 = .ok (.aload_n 0, 1) := by decide +kernel
theorem dX12_check_86 : decode cX12_check 86 = .ok (.getfield 26, 3) := by decide +kernel
theorem dX12_check_89 : decode cX12_check 89 = .ok (.if_icmp .ge 37, 3) := by decide +kernel
theorem dX12_check_92 : decode cX12_check 92 = .ok (.aload_n 0, 1) := by decide +kernel
theorem dX12_check_93 : decode cX12_check 93 = .ok (.aload_n 0, 1) := by decide +kernel
theorem dX12_check_94 : decode cX12_check 94 = .ok (.getfield 29, 3) := by decide +kernel
theorem dX12_check_97 : decode cX12_check 97 = .ok (.iload_n 2, 1) := by decide +kernel
theorem dX12_check_98 : decode cX12_check 98 = .ok (.iaload, 1) := by decide +kernel
theorem dX12_check_99 : decode cX12_check 99 = .ok (.aload_n 0, 1) := by decide +kernel
theorem dX12_check_100 : decode cX12_check 100 = .ok (.getfield 33, 3) := by decide +kernel
theorem dX12_check_103 : decode cX12_check 103 = .ok (.iload_n 2, 1) := by decide +kernel
theorem dX12_check_104 : decode cX12_check 104 = .ok (.iaload, 1) := by decide +kernel
theorem dX12_check_105 : decode cX12_check 105 = .ok (.ldc2_w 701, 3) := by decide +kernel
theorem dX12_check_108 : decode cX12_check 108 = .ok (.lconst 0, 1) := by decide +kernel
theorem dX12_check_109 : decode cX12_check 109 = .ok (.invokevirtual 377, 3) := by decide +kernel
theorem dX12_check_112 : decode cX12_check 112 = .ok (.ifCond .eq 8, 3) := by decide +kernel
theorem dX12_check_115 : decode cX12_check 115 = .ok (.aload_n 0, 1) := by decide +kernel
theorem dX12_check_116 : decode cX12_check 116 = .ok (.iload_n 2, 1) := by decide +kernel
theorem dX12_check_117 : decode cX12_check 117 = .ok (.putfield 264, 3) := by decide +kernel
theorem dX12_check_120 : decode cX12_check 120 = .ok (.iinc 2 1, 3) := by decide +kernel
theorem dX12_check_123 : decode cX12_check 123 = .ok (.goto (-39), 3) := by decide +kernel
theorem dX12_check_126 : decode cX12_check 126 = .ok (.aload_n 0, 1) := by decide +kernel
theorem dX12_check_127 : decode cX12_check 127 = .ok (.aload_n 0, 1) := by decide +kernel
theorem dX12_check_128 : decode cX12_check 128 = .ok (.getfield 160, 3) := by decide +kernel
theorem dX12_check_131 : decode cX12_check 131 = .ok (.putfield 178, 3) := by decide +kernel
theorem dX12_check_134 : decode cX12_check 134 = .ok (.aload_n 0, 1) := by decide +kernel
theorem dX12_check_135 : decode cX12_check 135 = .ok (.iload_n 1, 1) := by decide +kernel
theorem dX12_check_136 : decode cX12_check 136 = .ok (.iconst 1, 1) := by decide +kernel
theorem dX12_check_137 : decode cX12_check 137 = .ok (.invokevirtual 703, 3) := by decide +kernel
theorem dX12_check_140 : decode cX12_check 140 = .ok (.aload_n 0, 1) := by decide +kernel
theorem dX12_check_141 : decode cX12_check 141 = .ok (.getfield 203, 3) := by decide +kernel
theorem dX12_check_144 : decode cX12_check 144 = .ok (.ifCond .le 47, 3) := by decide +kernel
theorem dX12_check_147 : decode cX12_check 147 = .ok (.aload_n 0, 1) := by decide +kernel
theorem dX12_check_148 : decode cX12_check 148 = .ok (.dup, 1) := by decide +kernel
theorem dX12_check_149 : decode cX12_check 149 = .ok (.getfield 203, 3) := by decide +kernel
theorem dX12_check_152 : decode cX12_check 152 = .ok (.iconst 1, 1) := by decide +kernel
theorem dX12_check_153 : decode cX12_check 153 = .ok (.isub, 1) := by decide +kernel
theorem dX12_check_154 : decode cX12_check 154 = .ok (.putfield 203, 3) := by decide +kernel
theorem dX12_check_157 : decode cX12_check 157 = .ok (.aload_n 0, 1) := by decide +kernel
theorem dX12_check_158 : decode cX12_check 158 = .ok (.aload_n 0, 1) := by decide +kernel
theorem dX12_check_159 : decode cX12_check 159 = .ok (.getfield 206, 3) := by decide +kernel
theorem dX12_check_162 : decode cX12_check 162 = .ok (.aload_n 0, 1) := by decide +kernel
theorem dX12_check_163 : decode cX12_check 163 = .ok (.getfield 203, 3) := by decide +kernel
theorem dX12_check_166 : decode cX12_check 166 = .ok (.iaload, 1) := by decide +kernel
theorem dX12_check_167 : decode cX12_check 167 = .ok (.aload_n 0, 1) := by decide +kernel
theorem dX12_check_168 : decode cX12_check 168 = .ok (.getfield 209, 3) := by decide +kernel
theorem dX12_check_171 : decode cX12_check 171 = .ok (.aload_n 0, 1) := by decide +kernel
theorem dX12_check_172 : decode cX12_check 172 = .ok (.getfield 203, 3) := by decide +kernel
theorem dX12_check_175 : decode cX12_check 175 = .ok (.iaload, 1) := by decide +kernel
theorem dX12_check_176 : decode cX12_check 176 = .ok (.aload_n 0, 1) := by decide +kernel
theorem dX12_check_177 : decode cX12_check 177 = .ok (.getfield 212, 3) := by decide +kernel
theorem dX12_check_180 : decode cX12_check 180 = .ok (.aload_n 0, 1) := by decide +kernel
theorem dX12_check_181 : decode cX12_check 181 = .ok (.getfield 203, 3) := by decide +kernel
theorem dX12_check_184 : decode cX12_check 184 = .ok (.iaload, 1) := by decide +kernel
theorem dX12_check_185 : decode cX12_check 185 = .ok (.invokevirtual 706, 3) := by decide +kernel
theorem dX12_check_188 : decode cX12_check 188 = .ok (.goto (-48), 3) := by decide +kernel
theorem dX12_check_191 : decode cX12_check 191 = .ok (.aload_n 0, 1) := by decide +kernel
theorem dX12_check_192 : decode cX12_check 192 = .ok (.getfield 48, 3) := by decide +kernel
theorem dX12_check_195 : decode cX12_check 195 = .ok (.ifCond .eq 4, 3) := by decide +kernel
theorem dX12_check_198 : decode cX12_check 198 = .ok (.return_, 1) := by decide +kernel
theorem dX12_check_199 : decode cX12_check 199 = .ok (.aload_n 0, 1) := by decide +kernel
theorem dX12_check_200 : decode cX12_check 200 = .ok (.getfield 258, 3) := by decide +kernel
theorem dX12_check_203 : decode cX12_check 203 = .ok (.sipush 1600, 3) := by decide +kernel
theorem dX12_check_206 : decode cX12_check 206 = .ok (.if_icmp .gt 13, 3) := by decide +kernel
theorem dX12_check_209 : decode cX12_check 209 = .ok (.aload_n 0, 1) := by decide +kernel
theorem dX12_check_210 : decode cX12_check 210 = .ok (.getfield 222, 3) := by decide +kernel
theorem dX12_check_213 : decode cX12_check 213 = .ok (.sipush 200, 3) := by decide +kernel
theorem dX12_check_216 : decode cX12_check 216 = .ok (.if_icmp .le 7, 3) := by decide +kernel
theorem dX12_check_219 : decode cX12_check 219 = .ok (.iconst 1, 1) := by decide +kernel
theorem dX12_check_220 : decode cX12_check 220 = .ok (.goto 4, 3) := by decide +kernel
theorem dX12_check_223 : decode cX12_check 223 = .ok (.iconst 0, 1) := by decide +kernel
theorem dX12_check_224 : decode cX12_check 224 = .ok (.istore_n 2, 1) := by decide +kernel
theorem dX12_check_225 : decode cX12_check 225 = .ok (.iconst 0, 1) := by decide +kernel
theorem dX12_check_226 : decode cX12_check 226 = .ok (.istore_n 3, 1) := by decide +kernel
theorem dX12_check_227 : decode cX12_check 227 = .ok (.iload_n 3, 1) := by decide +kernel
theorem dX12_check_228 : decode cX12_check 228 = .ok (.aload_n 0, 1) := by decide +kernel
theorem dX12_check_229 : decode cX12_check 229 = .ok (.getfield 222, 3) := by decide +kernel
theorem dX12_check_232 : decode cX12_check 232 = .ok (.if_icmp .ge 31, 3) := by decide +kernel
theorem dX12_check_235 : decode cX12_check 235 = .ok (.iload_n 2, 1) := by decide +kernel
theorem dX12_check_236 : decode cX12_check 236 = .ok (.ifCond .ne 15, 3) := by decide +kernel
theorem dX12_check_239 : decode cX12_check 239 = .ok (.aload_n 0, 1) := by decide +kernel
theorem dX12_check_240 : decode cX12_check 240 = .ok (.getfield 225, 3) := by decide +kernel
theorem dX12_check_243 : decode cX12_check 243 = .ok (.iload_n 3, 1) := by decide +kernel
theorem dX12_check_244 : decode cX12_check 244 = .ok (.iaload, 1) := by decide +kernel
theorem dX12_check_245 : decode cX12_check 245 = .ok (.sipush 32000, 3) := by decide +kernel
theorem dX12_check_248 : decode cX12_check 248 = .ok (.if_icmp .le 7, 3) := by decide +kernel
theorem dX12_check_251 : decode cX12_check 251 = .ok (.iconst 1, 1) := by decide +kernel
theorem dX12_check_252 : decode cX12_check 252 = .ok (.goto 4, 3) := by decide +kernel
theorem dX12_check_255 : decode cX12_check 255 = .ok (.iconst 0, 1) := by decide +kernel
theorem dX12_check_256 : decode cX12_check 256 = .ok (.istore_n 2, 1) := by decide +kernel
theorem dX12_check_257 : decode cX12_check 257 = .ok (.iinc 3 1, 3) := by decide +kernel
theorem dX12_check_260 : decode cX12_check 260 = .ok (.goto (-33), 3) := by decide +kernel
theorem dX12_check_263 : decode cX12_check 263 = .ok (.aload_n 0, 1) := by decide +kernel
theorem dX12_check_264 : decode cX12_check 264 = .ok (.getfield 261, 3) := by decide +kernel
theorem dX12_check_267 : decode cX12_check 267 = .ok (.ifCond .lt 7, 3) := by decide +kernel
theorem dX12_check_270 : decode cX12_check 270 = .ok (.iload_n 2, 1) := by decide +kernel
theorem dX12_check_271 : decode cX12_check 271 = .ok (.ifCond .eq 10, 3) := by decide +kernel
theorem dX12_check_274 : decode cX12_check 274 = .ok (.aload_n 0, 1) := by decide +kernel
theorem dX12_check_275 : decode cX12_check 275 = .ok (.bipush 7, 2) := by decide +kernel
theorem dX12_check_277 : decode cX12_check 277 = .ok (.iconst 0, 1) := by decide +kernel
theorem dX12_check_278 : decode cX12_check 278 = .ok (.invokevirtual 605, 3) := by decide +kernel
theorem dX12_check_281 : decode cX12_check 281 = .ok (.return_, 1) := by decide +kernel
def wr_check_227B (Q : zS → Prop) (k227 : zS → Int → Int → Prop) (s0 : zS) (x2 : Int) (x3 : Int) : Prop :=
  (((zv s0 69) ≤ x3 → (((zv s0 82) < 0 → wr_fault s0 7 0 (fun s6 => Q s6)) ∧ (¬ (zv s0 82) < 0 → ((x2 = 0 → Q s0) ∧ (¬ x2 = 0 → wr_fault s0 7 0 (fun s16 => Q s16)))))) ∧ (¬ (zv s0 69) ≤ x3 → ((¬ x2 = 0 → (zR (x3 + 1)) ∧ k227 s0 1 (x3 + 1)) ∧ (x2 = 0 → (0 ≤ x3) ∧ (x3 < 3100) ∧ (((za s0 70 (Int.toNat x3)) ≤ 32000 → (zR (x3 + 1)) ∧ k227 s0 0 (x3 + 1)) ∧ (¬ (za s0 70 (Int.toNat x3)) ≤ 32000 → (zR (x3 + 1)) ∧ k227 s0 1 (x3 + 1)))))))
def wr_check_227 (Q : zS → Prop)  : Nat → zS → Int → Int → Prop
  | 0 => fun _ _ _ => False
  | m + 1 => fun s0 x2 x3 => wr_check_227B Q  (wr_check_227 Q  m) s0 x2 x3
def wr_check_140B (Q : zS → Prop) (k140 : zS → Prop) (s0 : zS)  : Prop :=
  (((zv s0 63) ≤ 0 → (((zv s0 12) = 0 → ((1600 < (zv s0 81) → ∃ n, wr_check_227 Q  n s0 1 0) ∧ (¬ 1600 < (zv s0 81) → (((zv s0 69) ≤ 200 → ∃ n, wr_check_227 Q  n s0 0 0) ∧ (¬ (zv s0 69) ≤ 200 → ∃ n, wr_check_227 Q  n s0 1 0))))) ∧ (¬ (zv s0 12) = 0 → Q s0))) ∧ (¬ (zv s0 63) ≤ 0 → (zR ((zv s0 63) - 1)) ∧ (0 ≤ ((zv s0 63) - 1)) ∧ (((zv s0 63) - 1) < 26000) ∧ (0 ≤ ((zv s0 63) - 1)) ∧ (((zv s0 63) - 1) < 26000) ∧ (0 ≤ ((zv s0 63) - 1)) ∧ (((zv s0 63) - 1) < 26000) ∧ wr_go (zpv s0 63 ((zv s0 63) - 1)) (za s0 64 (Int.toNat ((zv s0 63) - 1))) (za s0 65 (Int.toNat ((zv s0 63) - 1))) (za s0 66 (Int.toNat ((zv s0 63) - 1))) (fun s36 => k140 s36 )))
def wr_check_140 (Q : zS → Prop)  : Nat → zS → Prop
  | 0 => fun _ => False
  | m + 1 => fun s0  => wr_check_140B Q  (wr_check_140 Q  m) s0 
def wr_check_84B (Q : zS → Prop) (k84 : zS → Int → Int → Prop) (s0 : zS) (x1 : Int) (x2 : Int) : Prop :=
  (((zv s0 5) ≤ x2 → wr_children (zpv s0 55 (zv s0 49)) x1 1 (fun s6 => ∃ n, wr_check_140 Q  n s6 )) ∧ (¬ (zv s0 5) ≤ x2 → (0 ≤ x2) ∧ (x2 < 3100) ∧ (0 ≤ x2) ∧ (x2 < 3100) ∧ wr_isText s0 (za s0 6 (Int.toNat x2)) (za s0 7 (Int.toNat x2)) 357895852628 0 (fun r22 s23 => ((r22 = 0 → (zR (x2 + 1)) ∧ k84 s23 x1 (x2 + 1)) ∧ (¬ r22 = 0 → (zR (x2 + 1)) ∧ k84 (zpv s23 83 x2) x1 (x2 + 1))))))
def wr_check_84 (Q : zS → Prop)  : Nat → zS → Int → Int → Prop
  | 0 => fun _ _ _ => False
  | m + 1 => fun s0 x1 x2 => wr_check_84B Q  (wr_check_84 Q  m) s0 x1 x2
def wr_check (s0 : zS)  (Q : zS → Prop) : Prop :=
  wr_library s0  (fun s2 => (zR ((zv s0 24) - 1)) ∧ ∃ n, wr_check_84 Q  n (zpv (zpv (zpv (zpv (zpv (zpv (zpv (zpv (zpv (zpv (zpv (zpv (zpv (zpv s2 63 0) 67 0) 69 0) 73 (-1)) 74 0) 75 0) 77 0) 78 0) 79 0) 80 0) 81 100) 84 0) 82 (-1)) 83 (-1)) ((zv s0 24) - 1) 0)
set_option maxHeartbeats 4000000 in
set_option maxRecDepth 100000 in
theorem rb_check_227 {X : gX} {d : gD} {b t : Nat} {T : Nat → Nat} {F0 : gM} (hC : gC RX12 cX12_check 4 none "check" (gR 6 0 0) d b X) {Q : zS → Prop} {k227 : zS → Int → Int → Prop} (hk227 : ∀ (F : gM) (s0 : zS) (x2 : Int) (x3 : Int), zR x2 → zR x3 → zZ d t T F0 F s0 → k227 s0 x2 x3 → gG X d b (zQv X d b t T F0 Q) F 0 0 227 [some (.ref t), none, some (.int (zI x2)), some (.int (zI x3))] []) {F : gM} {s0 : zS} {x2 : Int} {x3 : Int} (Rx2 : zR x2) (Rx3 : zR x3) (hZ : zZ d t T F0 F s0) (hw : wr_check_227B Q k227 s0 x2 x3) : gG X d b (zQv X d b t T F0 Q) F 0 0 227 [some (.ref t), none, some (.int (zI x2)), some (.int (zI x3))] [] := by
  unfold wr_check_227B at hw
  refine g_iload_n hC dX12_check_227 rfl ?_
  refine g_aload_n hC dX12_check_228 rfl ?_
  refine zr_get (e := (zv s0 69)) hC hZ fl_X12_222 zb_69 (by decide) rfl dX12_check_229 ?_
  refine zr_icmp_ge (tgt := 263) hC Rx3 (hZ.rv 69) dX12_check_232 (by decide) (fun c1 => ?_) (fun c1 => ?_)
  · have h2 := hw.1 c1
    refine g_aload_n hC dX12_check_263 rfl ?_
    refine zr_get (e := (zv s0 82)) hC hZ fl_X12_261 zb_82 (by decide) rfl dX12_check_264 ?_
    refine zr_if_lt (tgt := 274) hC (hZ.rv 82) dX12_check_267 (by decide) (fun c3 => ?_) (fun c3 => ?_)
    · have h4 := h2.1 c3
      refine g_aload_n hC dX12_check_274 rfl ?_
      refine g_bipush (v := zI 7) hC dX12_check_275 rfl ?_
      refine g_iconst (v := zI 0) hC dX12_check_277 rfl ?_
      refine zr_callVv (As := [.int (zI 7), .int (zI 0)]) hC hZ rfl (rm_fault X.la d b (by decide) (by decide) hZ.rf h4) cl_X12_605 rfl rfl (Nat.le_of_ble_eq_true rfl) ⟨Nat.le_of_ble_eq_true rfl, Nat.le_of_ble_eq_true rfl⟩ dX12_check_278 (fun s6 F7 hZ9 h10 => ?_)
      exact zr_vret hC hZ9 h10 dX12_check_281
    · have h11 := h2.2 c3
      refine g_iload_n hC dX12_check_270 rfl ?_
      refine zr_if_eq (tgt := 281) hC Rx2 dX12_check_271 (by decide) (fun c12 => ?_) (fun c12 => ?_)
      · have h13 := h11.1 c12
        exact zr_vret hC hZ h13 dX12_check_281
      · have h14 := h11.2 c12
        refine g_aload_n hC dX12_check_274 rfl ?_
        refine g_bipush (v := zI 7) hC dX12_check_275 rfl ?_
        refine g_iconst (v := zI 0) hC dX12_check_277 rfl ?_
        refine zr_callVv (As := [.int (zI 7), .int (zI 0)]) hC hZ rfl (rm_fault X.la d b (by decide) (by decide) hZ.rf h14) cl_X12_605 rfl rfl (Nat.le_of_ble_eq_true rfl) ⟨Nat.le_of_ble_eq_true rfl, Nat.le_of_ble_eq_true rfl⟩ dX12_check_278 (fun s16 F17 hZ19 h20 => ?_)
        exact zr_vret hC hZ19 h20 dX12_check_281
  · have h21 := hw.2 c1
    refine g_iload_n hC dX12_check_235 rfl ?_
    refine zr_if_ne (tgt := 251) hC Rx2 dX12_check_236 (by decide) (fun c22 => ?_) (fun c22 => ?_)
    · have h23 := h21.1 c22
      refine g_iconst (v := zI 1) hC dX12_check_251 rfl ?_
      refine g_goto (tgt := 256) hC dX12_check_252 (by decide) ?_
      refine g_istore_n (lv' := [some (.ref t), none, some (.int (zI 1)), some (.int (zI x3))]) hC dX12_check_256 (Nat.le_of_ble_eq_true rfl) rfl rfl ?_
      refine zr_iinc (x := x3) (lv' := [some (.ref t), none, some (.int (zI 1)), some (.int (zI (x3 + 1)))]) hC dX12_check_257 rfl rfl rfl ?_
      refine g_goto (tgt := 227) hC dX12_check_260 (by decide) ?_
      obtain ⟨o24, h25⟩ := h23
      exact hk227 _ _ _ _ (by decide) o24 hZ h25
    · have h26 := h21.2 c22
      refine g_aload_n hC dX12_check_239 rfl ?_
      refine zr_geta hC hZ fl_X12_225 zb_70 (by decide) dX12_check_240 ?_
      refine g_iload_n hC dX12_check_243 rfl ?_
      obtain ⟨o27, h28⟩ := h26
      obtain ⟨o29, h30⟩ := h28
      refine zr_iald (v := (za s0 70 (Int.toNat x3))) hC hZ zk_70 zb_70 zn_70 (by decide) o27 o29 rfl dX12_check_244 ?_
      refine g_sipush (v := zI 32000) hC dX12_check_245 rfl ?_
      refine zr_icmp_le (tgt := 255) hC (hZ.ra 70 _) (by decide) dX12_check_248 (by decide) (fun c31 => ?_) (fun c31 => ?_)
      · have h32 := h30.1 c31
        refine g_iconst (v := zI 0) hC dX12_check_255 rfl ?_
        refine g_istore_n (lv' := [some (.ref t), none, some (.int (zI 0)), some (.int (zI x3))]) hC dX12_check_256 (Nat.le_of_ble_eq_true rfl) rfl rfl ?_
        refine zr_iinc (x := x3) (lv' := [some (.ref t), none, some (.int (zI 0)), some (.int (zI (x3 + 1)))]) hC dX12_check_257 rfl rfl rfl ?_
        refine g_goto (tgt := 227) hC dX12_check_260 (by decide) ?_
        obtain ⟨o33, h34⟩ := h32
        exact hk227 _ _ _ _ (by decide) o33 hZ h34
      · have h35 := h30.2 c31
        refine g_iconst (v := zI 1) hC dX12_check_251 rfl ?_
        refine g_goto (tgt := 256) hC dX12_check_252 (by decide) ?_
        refine g_istore_n (lv' := [some (.ref t), none, some (.int (zI 1)), some (.int (zI x3))]) hC dX12_check_256 (Nat.le_of_ble_eq_true rfl) rfl rfl ?_
        refine zr_iinc (x := x3) (lv' := [some (.ref t), none, some (.int (zI 1)), some (.int (zI (x3 + 1)))]) hC dX12_check_257 rfl rfl rfl ?_
        refine g_goto (tgt := 227) hC dX12_check_260 (by decide) ?_
        obtain ⟨o36, h37⟩ := h35
        exact hk227 _ _ _ _ (by decide) o36 hZ h37
theorem rl_check_227 {X : gX} {d : gD} {b t : Nat} {T : Nat → Nat} {F0 : gM} (hC : gC RX12 cX12_check 4 none "check" (gR 6 0 0) d b X) {Q : zS → Prop}   : ∀ (m : Nat) (F : gM) (s0 : zS) (x2 : Int) (x3 : Int), zR x2 → zR x3 → zZ d t T F0 F s0 → wr_check_227 Q  m s0 x2 x3 → gG X d b (zQv X d b t T F0 Q) F 0 0 227 [some (.ref t), none, some (.int (zI x2)), some (.int (zI x3))] [] := by
  intro m
  induction m with
  | zero => intro F s0 x2 x3 Rx2 Rx3 hZ hw; exact False.elim hw
  | succ m ih => intro F s0 x2 x3 Rx2 Rx3 hZ hw; exact rb_check_227 hC  ih Rx2 Rx3 hZ hw
set_option maxHeartbeats 4000000 in
set_option maxRecDepth 100000 in
theorem rb_check_140 {X : gX} {d : gD} {b t : Nat} {T : Nat → Nat} {F0 : gM} (hC : gC RX12 cX12_check 4 none "check" (gR 6 0 0) d b X) {Q : zS → Prop} {k140 : zS → Prop} (hk140 : ∀ (F : gM) (s0 : zS), zZ d t T F0 F s0 → k140 s0  → gG X d b (zQv X d b t T F0 Q) F 0 0 140 [some (.ref t), none, none, none] []) {F : gM} {s0 : zS}   (hZ : zZ d t T F0 F s0) (hw : wr_check_140B Q k140 s0 ) : gG X d b (zQv X d b t T F0 Q) F 0 0 140 [some (.ref t), none, none, none] [] := by
  unfold wr_check_140B at hw
  refine g_aload_n hC dX12_check_140 rfl ?_
  refine zr_get (e := (zv s0 63)) hC hZ fl_X12_203 zb_63 (by decide) rfl dX12_check_141 ?_
  refine zr_if_le (tgt := 191) hC (hZ.rv 63) dX12_check_144 (by decide) (fun c1 => ?_) (fun c1 => ?_)
  · have h2 := hw.1 c1
    refine g_aload_n hC dX12_check_191 rfl ?_
    refine zr_get (e := (zv s0 12)) hC hZ fl_X12_48 zb_12 (by decide) rfl dX12_check_192 ?_
    refine zr_if_eq (tgt := 199) hC (hZ.rv 12) dX12_check_195 (by decide) (fun c3 => ?_) (fun c3 => ?_)
    · have h4 := h2.1 c3
      refine g_aload_n hC dX12_check_199 rfl ?_
      refine zr_get (e := (zv s0 81)) hC hZ fl_X12_258 zb_81 (by decide) rfl dX12_check_200 ?_
      refine g_sipush (v := zI 1600) hC dX12_check_203 rfl ?_
      refine zr_icmp_gt (tgt := 219) hC (hZ.rv 81) (by decide) dX12_check_206 (by decide) (fun c5 => ?_) (fun c5 => ?_)
      · have h6 := h4.1 c5
        refine g_iconst (v := zI 1) hC dX12_check_219 rfl ?_
        refine g_goto (tgt := 224) hC dX12_check_220 (by decide) ?_
        refine g_istore_n (lv' := [some (.ref t), none, some (.int (zI 1)), none]) hC dX12_check_224 (Nat.le_of_ble_eq_true rfl) rfl rfl ?_
        refine g_iconst (v := zI 0) hC dX12_check_225 rfl ?_
        refine g_istore_n (lv' := [some (.ref t), none, some (.int (zI 1)), some (.int (zI 0))]) hC dX12_check_226 (Nat.le_of_ble_eq_true rfl) rfl rfl ?_
        obtain ⟨m7, h8⟩ := h6
        exact rl_check_227 hC  m7 _ _ _ _ (by decide) (by decide) hZ h8
      · have h9 := h4.2 c5
        refine g_aload_n hC dX12_check_209 rfl ?_
        refine zr_get (e := (zv s0 69)) hC hZ fl_X12_222 zb_69 (by decide) rfl dX12_check_210 ?_
        refine g_sipush (v := zI 200) hC dX12_check_213 rfl ?_
        refine zr_icmp_le (tgt := 223) hC (hZ.rv 69) (by decide) dX12_check_216 (by decide) (fun c10 => ?_) (fun c10 => ?_)
        · have h11 := h9.1 c10
          refine g_iconst (v := zI 0) hC dX12_check_223 rfl ?_
          refine g_istore_n (lv' := [some (.ref t), none, some (.int (zI 0)), none]) hC dX12_check_224 (Nat.le_of_ble_eq_true rfl) rfl rfl ?_
          refine g_iconst (v := zI 0) hC dX12_check_225 rfl ?_
          refine g_istore_n (lv' := [some (.ref t), none, some (.int (zI 0)), some (.int (zI 0))]) hC dX12_check_226 (Nat.le_of_ble_eq_true rfl) rfl rfl ?_
          obtain ⟨m12, h13⟩ := h11
          exact rl_check_227 hC  m12 _ _ _ _ (by decide) (by decide) hZ h13
        · have h14 := h9.2 c10
          refine g_iconst (v := zI 1) hC dX12_check_219 rfl ?_
          refine g_goto (tgt := 224) hC dX12_check_220 (by decide) ?_
          refine g_istore_n (lv' := [some (.ref t), none, some (.int (zI 1)), none]) hC dX12_check_224 (Nat.le_of_ble_eq_true rfl) rfl rfl ?_
          refine g_iconst (v := zI 0) hC dX12_check_225 rfl ?_
          refine g_istore_n (lv' := [some (.ref t), none, some (.int (zI 1)), some (.int (zI 0))]) hC dX12_check_226 (Nat.le_of_ble_eq_true rfl) rfl rfl ?_
          obtain ⟨m15, h16⟩ := h14
          exact rl_check_227 hC  m15 _ _ _ _ (by decide) (by decide) hZ h16
    · have h17 := h2.2 c3
      exact zr_vret hC hZ h17 dX12_check_198
  · have h18 := hw.2 c1
    refine g_aload_n hC dX12_check_147 rfl ?_
    refine g_dup hC dX12_check_148 rfl ?_
    refine zr_get (e := (zv s0 63)) hC hZ fl_X12_203 zb_63 (by decide) rfl dX12_check_149 ?_
    refine g_iconst (v := zI 1) hC dX12_check_152 rfl ?_
    refine zr_isub hC dX12_check_153 ?_
    obtain ⟨o19, h20⟩ := h18
    refine zr_put hC hZ fl_X12_203 zb_63 (by decide) o19 dX12_check_154 (fun F21 hZ22 => ?_)
    refine g_aload_n hC dX12_check_157 rfl ?_
    refine g_aload_n hC dX12_check_158 rfl ?_
    refine zr_geta hC hZ22 fl_X12_206 zb_64 (by decide) dX12_check_159 ?_
    refine g_aload_n hC dX12_check_162 rfl ?_
    refine zr_get (e := ((zv s0 63) - 1)) hC hZ22 fl_X12_203 zb_63 (by decide) rfl dX12_check_163 ?_
    obtain ⟨o23, h24⟩ := h20
    obtain ⟨o25, h26⟩ := h24
    refine zr_iald (v := (za s0 64 (Int.toNat ((zv s0 63) - 1)))) hC hZ22 zk_64 zb_64 zn_64 (by decide) o23 o25 rfl dX12_check_166 ?_
    refine g_aload_n hC dX12_check_167 rfl ?_
    refine zr_geta hC hZ22 fl_X12_209 zb_65 (by decide) dX12_check_168 ?_
    refine g_aload_n hC dX12_check_171 rfl ?_
    refine zr_get (e := ((zv s0 63) - 1)) hC hZ22 fl_X12_203 zb_63 (by decide) rfl dX12_check_172 ?_
    obtain ⟨o27, h28⟩ := h26
    obtain ⟨o29, h30⟩ := h28
    refine zr_iald (v := (za s0 65 (Int.toNat ((zv s0 63) - 1)))) hC hZ22 zk_65 zb_65 zn_65 (by decide) o27 o29 rfl dX12_check_175 ?_
    refine g_aload_n hC dX12_check_176 rfl ?_
    refine zr_geta hC hZ22 fl_X12_212 zb_66 (by decide) dX12_check_177 ?_
    refine g_aload_n hC dX12_check_180 rfl ?_
    refine zr_get (e := ((zv s0 63) - 1)) hC hZ22 fl_X12_203 zb_63 (by decide) rfl dX12_check_181 ?_
    obtain ⟨o31, h32⟩ := h30
    obtain ⟨o33, h34⟩ := h32
    refine zr_iald (v := (za s0 66 (Int.toNat ((zv s0 63) - 1)))) hC hZ22 zk_66 zb_66 zn_66 (by decide) o31 o33 rfl dX12_check_184 ?_
    refine zr_callVv (As := [.int (zI (za s0 64 (Int.toNat ((zv s0 63) - 1)))), .int (zI (za s0 65 (Int.toNat ((zv s0 63) - 1)))), .int (zI (za s0 66 (Int.toNat ((zv s0 63) - 1))))]) hC hZ22 rfl (rm_go X.la d b (hZ.ra 64 _) (hZ.ra 65 _) (hZ.ra 66 _) hZ22.rf h34) cl_X12_706 rfl rfl (Nat.le_of_ble_eq_true rfl) ⟨Nat.le_of_ble_eq_true rfl, Nat.le_of_ble_eq_true rfl⟩ dX12_check_185 (fun s36 F37 hZ39 h40 => ?_)
    refine g_goto (tgt := 140) hC dX12_check_188 (by decide) ?_
    exact hk140 _ _   hZ39 h40
theorem rl_check_140 {X : gX} {d : gD} {b t : Nat} {T : Nat → Nat} {F0 : gM} (hC : gC RX12 cX12_check 4 none "check" (gR 6 0 0) d b X) {Q : zS → Prop}   : ∀ (m : Nat) (F : gM) (s0 : zS), zZ d t T F0 F s0 → wr_check_140 Q  m s0  → gG X d b (zQv X d b t T F0 Q) F 0 0 140 [some (.ref t), none, none, none] [] := by
  intro m
  induction m with
  | zero => intro F s0   hZ hw; exact False.elim hw
  | succ m ih => intro F s0   hZ hw; exact rb_check_140 hC  ih  hZ hw
set_option maxHeartbeats 4000000 in
set_option maxRecDepth 100000 in
theorem rb_check_84 {X : gX} {d : gD} {b t : Nat} {T : Nat → Nat} {F0 : gM} (hC : gC RX12 cX12_check 4 none "check" (gR 6 0 0) d b X) {Q : zS → Prop} {k84 : zS → Int → Int → Prop} (hk84 : ∀ (F : gM) (s0 : zS) (x1 : Int) (x2 : Int), zR x1 → zR x2 → zZ d t T F0 F s0 → k84 s0 x1 x2 → gG X d b (zQv X d b t T F0 Q) F 0 0 84 [some (.ref t), some (.int (zI x1)), some (.int (zI x2)), none] []) {F : gM} {s0 : zS} {x1 : Int} {x2 : Int} (Rx1 : zR x1) (Rx2 : zR x2) (hZ : zZ d t T F0 F s0) (hw : wr_check_84B Q k84 s0 x1 x2) : gG X d b (zQv X d b t T F0 Q) F 0 0 84 [some (.ref t), some (.int (zI x1)), some (.int (zI x2)), none] [] := by
  unfold wr_check_84B at hw
  refine g_iload_n hC dX12_check_84 rfl ?_
  refine g_aload_n hC dX12_check_85 rfl ?_
  refine zr_get (e := (zv s0 5)) hC hZ fl_X12_26 zb_5 (by decide) rfl dX12_check_86 ?_
  refine zr_icmp_ge (tgt := 126) hC Rx2 (hZ.rv 5) dX12_check_89 (by decide) (fun c1 => ?_) (fun c1 => ?_)
  · have h2 := hw.1 c1
    refine g_aload_n hC dX12_check_126 rfl ?_
    refine g_aload_n hC dX12_check_127 rfl ?_
    refine zr_get (e := (zv s0 49)) hC hZ fl_X12_160 zb_49 (by decide) rfl dX12_check_128 ?_
    refine zr_put hC hZ fl_X12_178 zb_55 (by decide) (hZ.rv 49) dX12_check_131 (fun F3 hZ4 => ?_)
    refine g_aload_n hC dX12_check_134 rfl ?_
    refine g_iload_n hC dX12_check_135 rfl ?_
    refine g_iconst (v := zI 1) hC dX12_check_136 rfl ?_
    refine zr_callVv (As := [.int (zI x1), .int (zI 1)]) hC hZ4 rfl (rm_children X.la d b Rx1 (by decide) hZ4.rf h2) cl_X12_703 rfl rfl (Nat.le_of_ble_eq_true rfl) ⟨Nat.le_of_ble_eq_true rfl, Nat.le_of_ble_eq_true rfl⟩ dX12_check_137 (fun s6 F7 hZ9 h10 => ?_)
    refine g_lv (lv' := [some (.ref t), none, none, none]) ⟨rfl, trivial⟩ ?_
    obtain ⟨m11, h12⟩ := h10
    exact rl_check_140 hC  m11 _ _   hZ9 h12
  · have h13 := hw.2 c1
    refine g_aload_n hC dX12_check_92 rfl ?_
    refine g_aload_n hC dX12_check_93 rfl ?_
    refine zr_geta hC hZ fl_X12_29 zb_6 (by decide) dX12_check_94 ?_
    refine g_iload_n hC dX12_check_97 rfl ?_
    obtain ⟨o14, h15⟩ := h13
    obtain ⟨o16, h17⟩ := h15
    refine zr_iald (v := (za s0 6 (Int.toNat x2))) hC hZ zk_6 zb_6 zn_6 (by decide) o14 o16 rfl dX12_check_98 ?_
    refine g_aload_n hC dX12_check_99 rfl ?_
    refine zr_geta hC hZ fl_X12_33 zb_7 (by decide) dX12_check_100 ?_
    refine g_iload_n hC dX12_check_103 rfl ?_
    obtain ⟨o18, h19⟩ := h17
    obtain ⟨o20, h21⟩ := h19
    refine zr_iald (v := (za s0 7 (Int.toNat x2))) hC hZ zk_7 zb_7 zn_7 (by decide) o18 o20 rfl dX12_check_104 ?_
    refine zr_ldc2 (e := 357895852628) hC dX12_check_105 kw_2576 (by decide) ?_
    refine g_lconst (v := zJ 0) hC dX12_check_108 rfl ?_
    refine zr_callVi (As := [.int (zI (za s0 6 (Int.toNat x2))), .int (zI (za s0 7 (Int.toNat x2))), .long (zJ 357895852628), .long (zJ 0)]) hC hZ rfl (rm_isText X.la d b (hZ.ra 6 _) (hZ.ra 7 _) (by decide) (by decide) hZ.rf h21) cl_X12_377 rfl rfl (Nat.le_of_ble_eq_true rfl) ⟨Nat.le_of_ble_eq_true rfl, Nat.le_of_ble_eq_true rfl⟩ dX12_check_109 (fun r22 s23 F24 R25 hZ26 h27 => ?_)
    refine zr_if_eq (tgt := 120) hC R25 dX12_check_112 (by decide) (fun c28 => ?_) (fun c28 => ?_)
    · have h29 := h27.1 c28
      refine zr_iinc (x := x2) (lv' := [some (.ref t), some (.int (zI x1)), some (.int (zI (x2 + 1))), none]) hC dX12_check_120 rfl rfl rfl ?_
      refine g_goto (tgt := 84) hC dX12_check_123 (by decide) ?_
      obtain ⟨o30, h31⟩ := h29
      exact hk84 _ _ _ _ Rx1 o30 hZ26 h31
    · have h32 := h27.2 c28
      refine g_aload_n hC dX12_check_115 rfl ?_
      refine g_iload_n hC dX12_check_116 rfl ?_
      refine zr_put hC hZ26 fl_X12_264 zb_83 (by decide) Rx2 dX12_check_117 (fun F33 hZ34 => ?_)
      refine zr_iinc (x := x2) (lv' := [some (.ref t), some (.int (zI x1)), some (.int (zI (x2 + 1))), none]) hC dX12_check_120 rfl rfl rfl ?_
      refine g_goto (tgt := 84) hC dX12_check_123 (by decide) ?_
      obtain ⟨o35, h36⟩ := h32
      exact hk84 _ _ _ _ Rx1 o35 hZ34 h36
theorem rl_check_84 {X : gX} {d : gD} {b t : Nat} {T : Nat → Nat} {F0 : gM} (hC : gC RX12 cX12_check 4 none "check" (gR 6 0 0) d b X) {Q : zS → Prop}   : ∀ (m : Nat) (F : gM) (s0 : zS) (x1 : Int) (x2 : Int), zR x1 → zR x2 → zZ d t T F0 F s0 → wr_check_84 Q  m s0 x1 x2 → gG X d b (zQv X d b t T F0 Q) F 0 0 84 [some (.ref t), some (.int (zI x1)), some (.int (zI x2)), none] [] := by
  intro m
  induction m with
  | zero => intro F s0 x1 x2 Rx1 Rx2 hZ hw; exact False.elim hw
  | succ m ih => intro F s0 x1 x2 Rx1 Rx2 hZ hw; exact rb_check_84 hC  ih Rx1 Rx2 hZ hw
set_option maxHeartbeats 4000000 in
set_option maxRecDepth 100000 in
theorem rm_check (l : Launch) (d : gD) (b : Nat) {t : Nat} {T : Nat → Nat} {F : gM} {s0 : zS}   {Q : zS → Prop} (hZ : zZ d t T F F s0) (hw : wr_check s0  Q) : gMv l d b yX12_check cX12_check 4 6 0 0 F [.ref t] (zPv d t T F Q) := by
  refine gM_of2 rfl (nL := 4) (Nat.le_of_ble_eq_true rfl) ?_
  intro X hX hC; subst hX
  show gG X d b (zQv X d b t T F Q) F 0 0 0 [some (.ref t), none, none, none] []
  unfold wr_check at hw
  refine g_aload_n hC dX12_check_0 rfl ?_
  refine zr_get (e := (zv s0 24)) hC hZ fl_X12_84 zb_24 (by decide) rfl dX12_check_1 ?_
  refine g_iconst (v := zI 1) hC dX12_check_4 rfl ?_
  refine zr_isub hC dX12_check_5 ?_
  refine g_istore_n (lv' := [some (.ref t), some (.int (zI ((zv s0 24) - 1))), none, none]) hC dX12_check_6 (Nat.le_of_ble_eq_true rfl) rfl rfl ?_
  refine g_aload_n hC dX12_check_7 rfl ?_
  refine zr_callVv (As := []) hC hZ rfl (rm_library X.la d b  hZ.rf hw) cl_X12_698 rfl rfl (Nat.le_of_ble_eq_true rfl) ⟨Nat.le_of_ble_eq_true rfl, Nat.le_of_ble_eq_true rfl⟩ dX12_check_8 (fun s2 F3 hZ5 h6 => ?_)
  refine g_aload_n hC dX12_check_11 rfl ?_
  refine g_iconst (v := zI 0) hC dX12_check_12 rfl ?_
  refine zr_put hC hZ5 fl_X12_203 zb_63 (by decide) (by decide) dX12_check_13 (fun F7 hZ8 => ?_)
  refine g_aload_n hC dX12_check_16 rfl ?_
  refine g_iconst (v := zI 0) hC dX12_check_17 rfl ?_
  refine zr_put hC hZ8 fl_X12_215 zb_67 (by decide) (by decide) dX12_check_18 (fun F9 hZ10 => ?_)
  refine g_aload_n hC dX12_check_21 rfl ?_
  refine g_iconst (v := zI 0) hC dX12_check_22 rfl ?_
  refine zr_put hC hZ10 fl_X12_222 zb_69 (by decide) (by decide) dX12_check_23 (fun F11 hZ12 => ?_)
  refine g_aload_n hC dX12_check_26 rfl ?_
  refine g_iconst (v := zI (-1)) hC dX12_check_27 rfl ?_
  refine zr_put hC hZ12 fl_X12_234 zb_73 (by decide) (by decide) dX12_check_28 (fun F13 hZ14 => ?_)
  refine g_aload_n hC dX12_check_31 rfl ?_
  refine g_iconst (v := zI 0) hC dX12_check_32 rfl ?_
  refine zr_put hC hZ14 fl_X12_237 zb_74 (by decide) (by decide) dX12_check_33 (fun F15 hZ16 => ?_)
  refine g_aload_n hC dX12_check_36 rfl ?_
  refine g_iconst (v := zI 0) hC dX12_check_37 rfl ?_
  refine zr_put hC hZ16 fl_X12_240 zb_75 (by decide) (by decide) dX12_check_38 (fun F17 hZ18 => ?_)
  refine g_aload_n hC dX12_check_41 rfl ?_
  refine g_iconst (v := zI 0) hC dX12_check_42 rfl ?_
  refine zr_put hC hZ18 fl_X12_246 zb_77 (by decide) (by decide) dX12_check_43 (fun F19 hZ20 => ?_)
  refine g_aload_n hC dX12_check_46 rfl ?_
  refine g_iconst (v := zI 0) hC dX12_check_47 rfl ?_
  refine zr_put hC hZ20 fl_X12_249 zb_78 (by decide) (by decide) dX12_check_48 (fun F21 hZ22 => ?_)
  refine g_aload_n hC dX12_check_51 rfl ?_
  refine g_iconst (v := zI 0) hC dX12_check_52 rfl ?_
  refine zr_put hC hZ22 fl_X12_252 zb_79 (by decide) (by decide) dX12_check_53 (fun F23 hZ24 => ?_)
  refine g_aload_n hC dX12_check_56 rfl ?_
  refine g_iconst (v := zI 0) hC dX12_check_57 rfl ?_
  refine zr_put hC hZ24 fl_X12_255 zb_80 (by decide) (by decide) dX12_check_58 (fun F25 hZ26 => ?_)
  refine g_aload_n hC dX12_check_61 rfl ?_
  refine g_bipush (v := zI 100) hC dX12_check_62 rfl ?_
  refine zr_put hC hZ26 fl_X12_258 zb_81 (by decide) (by decide) dX12_check_64 (fun F27 hZ28 => ?_)
  refine g_aload_n hC dX12_check_67 rfl ?_
  refine g_iconst (v := zI 0) hC dX12_check_68 rfl ?_
  refine zr_put hC hZ28 fl_X12_267 zb_84 (by decide) (by decide) dX12_check_69 (fun F29 hZ30 => ?_)
  refine g_aload_n hC dX12_check_72 rfl ?_
  refine g_iconst (v := zI (-1)) hC dX12_check_73 rfl ?_
  refine zr_put hC hZ30 fl_X12_261 zb_82 (by decide) (by decide) dX12_check_74 (fun F31 hZ32 => ?_)
  refine g_aload_n hC dX12_check_77 rfl ?_
  refine g_iconst (v := zI (-1)) hC dX12_check_78 rfl ?_
  refine zr_put hC hZ32 fl_X12_264 zb_83 (by decide) (by decide) dX12_check_79 (fun F33 hZ34 => ?_)
  refine g_iconst (v := zI 0) hC dX12_check_82 rfl ?_
  refine g_istore_n (lv' := [some (.ref t), some (.int (zI ((zv s0 24) - 1))), some (.int (zI 0)), none]) hC dX12_check_83 (Nat.le_of_ble_eq_true rfl) rfl rfl ?_
  obtain ⟨o35, h36⟩ := h6
  obtain ⟨m37, h38⟩ := h36
  exact rl_check_84 hC  m37 _ _ _ _ o35 (by decide) hZ34 h38
theorem dX12_todoTask_0 : decode cX12_todoTask 0 = .ok (.aload_n 0, 1) := by decide +kernel
theorem dX12_todoTask_1 : decode cX12_todoTask 1 = .ok (.getfield 276, 3) := by decide +kernel
theorem dX12_todoTask_4 : decode cX12_todoTask 4 = .ok (.aload_n 0, 1) := by decide +kernel
theorem dX12_todoTask_5 : decode cX12_todoTask 5 = .ok (.getfield 280, 3) := by decide +kernel
theorem dX12_todoTask_8 : decode cX12_todoTask 8 = .ok (.arraylength, 1) := by decide +kernel
theorem dX12_todoTask_9 : decode cX12_todoTask 9 = .ok (.if_icmp .ne 36, 3) := by decide +kernel
theorem dX12_todoTask_12 : decode cX12_todoTask 12 = .ok (.aload_n 0, 1) := by decide +kernel
theorem dX12_todoTask_13 : decode cX12_todoTask 13 = .ok (.aload_n 0, 1) := by decide +kernel
theorem dX12_todoTask_14 : decode cX12_todoTask 14 = .ok (.getfield 280, 3) := by decide +kernel
theorem dX12_todoTask_17 : decode cX12_todoTask 17 = .ok (.invokestatic 788, 3) := by decide +kernel
theorem dX12_todoTask_20 : decode cX12_todoTask 20 = .ok (.putfield 280, 3) := by decide +kernel
theorem dX12_todoTask_23 : decode cX12_todoTask 23 = .ok (.aload_n 0, 1) := by decide +kernel
theorem dX12_todoTask_24 : decode cX12_todoTask 24 = .ok (.aload_n 0, 1) := by decide +kernel
theorem dX12_todoTask_25 : decode cX12_todoTask 25 = .ok (.getfield 283, 3) := by decide +kernel
theorem dX12_todoTask_28 : decode cX12_todoTask 28 = .ok (.invokestatic 788, 3) := by decide +kernel
theorem dX12_todoTask_31 : decode cX12_todoTask 31 = .ok (.putfield 283, 3) := by decide +kernel
theorem dX12_todoTask_34 : decode cX12_todoTask 34 = .ok (.aload_n 0, 1) := by decide +kernel
theorem dX12_todoTask_35 : decode cX12_todoTask 35 = .ok (.aload_n 0, 1) := by decide +kernel
theorem dX12_todoTask_36 : decode cX12_todoTask 36 = .ok (.getfield 286, 3) := by decide +kernel
theorem dX12_todoTask_39 : decode cX12_todoTask 39 = .ok (.invokestatic 788, 3) := by decide +kernel
theorem dX12_todoTask_42 : decode cX12_todoTask 42 = .ok (.putfield 286, 3) := by decide +kernel
theorem dX12_todoTask_45 : decode cX12_todoTask 45 = .ok (.aload_n 0, 1) := by decide +kernel
theorem dX12_todoTask_46 : decode cX12_todoTask 46 = .ok (.getfield 280, 3) := by decide +kernel
theorem dX12_todoTask_49 : decode cX12_todoTask 49 = .ok (.aload_n 0, 1) := by decide +kernel
theorem dX12_todoTask_50 : decode cX12_todoTask 50 = .ok (.getfield 276, 3) := by decide +kernel
theorem dX12_todoTask_53 : decode cX12_todoTask 53 = .ok (.iload_n 1, 1) := by decide +kernel
theorem dX12_todoTask_54 : decode cX12_todoTask 54 = .ok (.iastore, 1) := by decide +kernel
theorem dX12_todoTask_55 : decode cX12_todoTask 55 = .ok (.aload_n 0, 1) := by decide +kernel
theorem dX12_todoTask_56 : decode cX12_todoTask 56 = .ok (.getfield 283, 3) := by decide +kernel
theorem dX12_todoTask_59 : decode cX12_todoTask 59 = .ok (.aload_n 0, 1) := by decide +kernel
theorem dX12_todoTask_60 : decode cX12_todoTask 60 = .ok (.getfield 276, 3) := by decide +kernel
theorem dX12_todoTask_63 : decode cX12_todoTask 63 = .ok (.iload_n 2, 1) := by decide +kernel
theorem dX12_todoTask_64 : decode cX12_todoTask 64 = .ok (.iastore, 1) := by decide +kernel
theorem dX12_todoTask_65 : decode cX12_todoTask 65 = .ok (.aload_n 0, 1) := by decide +kernel
theorem dX12_todoTask_66 : decode cX12_todoTask 66 = .ok (.getfield 286, 3) := by decide +kernel
theorem dX12_todoTask_69 : decode cX12_todoTask 69 = .ok (.aload_n 0, 1) := by decide +kernel
theorem dX12_todoTask_70 : decode cX12_todoTask 70 = .ok (.getfield 276, 3) := by decide +kernel
theorem dX12_todoTask_73 : decode cX12_todoTask 73 = .ok (.iload_n 3, 1) := by decide +kernel
theorem dX12_todoTask_74 : decode cX12_todoTask 74 = .ok (.iastore, 1) := by decide +kernel
theorem dX12_todoTask_75 : decode cX12_todoTask 75 = .ok (.aload_n 0, 1) := by decide +kernel
theorem dX12_todoTask_76 : decode cX12_todoTask 76 = .ok (.dup, 1) := by decide +kernel
theorem dX12_todoTask_77 : decode cX12_todoTask 77 = .ok (.getfield 276, 3) := by decide +kernel
theorem dX12_todoTask_80 : decode cX12_todoTask 80 = .ok (.iconst 1, 1) := by decide +kernel
theorem dX12_todoTask_81 : decode cX12_todoTask 81 = .ok (.iadd, 1) := by decide +kernel
theorem dX12_todoTask_82 : decode cX12_todoTask 82 = .ok (.putfield 276, 3) := by decide +kernel
theorem dX12_todoTask_85 : decode cX12_todoTask 85 = .ok (.return_, 1) := by decide +kernel
def wr_todoTask_45 (Q : zS → Prop)  (s0 : zS) (x1 : Int) (x2 : Int) (x3 : Int) : Prop :=
  (0 ≤ (zv s0 87)) ∧ ((zv s0 87) < 620000) ∧ (0 ≤ (zv s0 87)) ∧ ((zv s0 87) < 620000) ∧ (0 ≤ (zv s0 87)) ∧ ((zv s0 87) < 620000) ∧ (zR ((zv s0 87) + 1)) ∧ Q (zpv (zpa (zpa (zpa s0 88 (Int.toNat (zv s0 87)) x1) 89 (Int.toNat (zv s0 87)) x2) 90 (Int.toNat (zv s0 87)) x3) 87 ((zv s0 87) + 1))
def wr_todoTask (s0 : zS) (a0 : Int) (a1 : Int) (a2 : Int) (Q : zS → Prop) : Prop :=
  ((¬ (zv s0 87) = 620000 → wr_todoTask_45 Q  s0 a0 a1 a2) ∧ ((zv s0 87) = 620000 → False))
set_option maxHeartbeats 4000000 in
set_option maxRecDepth 100000 in
theorem rj_todoTask_45 {X : gX} {d : gD} {b t : Nat} {T : Nat → Nat} {F0 : gM} (hC : gC RX12 cX12_todoTask 4 none "todoTask" (gR 0 0 0) d b X) {Q : zS → Prop}   {F : gM} {s0 : zS} {x1 : Int} {x2 : Int} {x3 : Int} (Rx1 : zR x1) (Rx2 : zR x2) (Rx3 : zR x3) (hZ : zZ d t T F0 F s0) (hw : wr_todoTask_45 Q  s0 x1 x2 x3) : gG X d b (zQv X d b t T F0 Q) F 0 0 45 [some (.ref t), some (.int (zI x1)), some (.int (zI x2)), some (.int (zI x3))] [] := by
  unfold wr_todoTask_45 at hw
  refine g_aload_n hC dX12_todoTask_45 rfl ?_
  refine zr_geta hC hZ fl_X12_280 zb_88 (by decide) dX12_todoTask_46 ?_
  refine g_aload_n hC dX12_todoTask_49 rfl ?_
  refine zr_get (e := (zv s0 87)) hC hZ fl_X12_276 zb_87 (by decide) rfl dX12_todoTask_50 ?_
  refine g_iload_n hC dX12_todoTask_53 rfl ?_
  obtain ⟨o1, h2⟩ := hw
  obtain ⟨o3, h4⟩ := h2
  refine zr_iast hC hZ zk_88 zb_88 zn_88 (by decide) o1 o3 Rx1 dX12_todoTask_54 (fun F5 hZ6 => ?_)
  refine g_aload_n hC dX12_todoTask_55 rfl ?_
  refine zr_geta hC hZ6 fl_X12_283 zb_89 (by decide) dX12_todoTask_56 ?_
  refine g_aload_n hC dX12_todoTask_59 rfl ?_
  refine zr_get (e := (zv s0 87)) hC hZ6 fl_X12_276 zb_87 (by decide) rfl dX12_todoTask_60 ?_
  refine g_iload_n hC dX12_todoTask_63 rfl ?_
  obtain ⟨o7, h8⟩ := h4
  obtain ⟨o9, h10⟩ := h8
  refine zr_iast hC hZ6 zk_89 zb_89 zn_89 (by decide) o7 o9 Rx2 dX12_todoTask_64 (fun F11 hZ12 => ?_)
  refine g_aload_n hC dX12_todoTask_65 rfl ?_
  refine zr_geta hC hZ12 fl_X12_286 zb_90 (by decide) dX12_todoTask_66 ?_
  refine g_aload_n hC dX12_todoTask_69 rfl ?_
  refine zr_get (e := (zv s0 87)) hC hZ12 fl_X12_276 zb_87 (by decide) rfl dX12_todoTask_70 ?_
  refine g_iload_n hC dX12_todoTask_73 rfl ?_
  obtain ⟨o13, h14⟩ := h10
  obtain ⟨o15, h16⟩ := h14
  refine zr_iast hC hZ12 zk_90 zb_90 zn_90 (by decide) o13 o15 Rx3 dX12_todoTask_74 (fun F17 hZ18 => ?_)
  refine g_aload_n hC dX12_todoTask_75 rfl ?_
  refine g_dup hC dX12_todoTask_76 rfl ?_
  refine zr_get (e := (zv s0 87)) hC hZ18 fl_X12_276 zb_87 (by decide) rfl dX12_todoTask_77 ?_
  refine g_iconst (v := zI 1) hC dX12_todoTask_80 rfl ?_
  refine zr_iadd hC dX12_todoTask_81 ?_
  obtain ⟨o19, h20⟩ := h16
  refine zr_put hC hZ18 fl_X12_276 zb_87 (by decide) o19 dX12_todoTask_82 (fun F21 hZ22 => ?_)
  exact zr_vret hC hZ22 h20 dX12_todoTask_85
set_option maxHeartbeats 4000000 in
set_option maxRecDepth 100000 in
theorem rm_todoTask (l : Launch) (d : gD) (b : Nat) {t : Nat} {T : Nat → Nat} {F : gM} {s0 : zS} {a0 : Int} {a1 : Int} {a2 : Int} (Ra0 : zR a0) (Ra1 : zR a1) (Ra2 : zR a2) {Q : zS → Prop} (hZ : zZ d t T F F s0) (hw : wr_todoTask s0 a0 a1 a2 Q) : gMv l d b yX12_todoTask cX12_todoTask 4 0 0 0 F [.ref t, .int (zI a0), .int (zI a1), .int (zI a2)] (zPv d t T F Q) := by
  refine gM_of2 rfl (nL := 4) (Nat.le_of_ble_eq_true rfl) ?_
  intro X hX hC; subst hX
  show gG X d b (zQv X d b t T F Q) F 0 0 0 [some (.ref t), some (.int (zI a0)), some (.int (zI a1)), some (.int (zI a2))] []
  unfold wr_todoTask at hw
  refine g_aload_n hC dX12_todoTask_0 rfl ?_
  refine zr_get (e := (zv s0 87)) hC hZ fl_X12_276 zb_87 (by decide) rfl dX12_todoTask_1 ?_
  refine g_aload_n hC dX12_todoTask_4 rfl ?_
  refine zr_geta hC hZ fl_X12_280 zb_88 (by decide) dX12_todoTask_5 ?_
  refine zr_alen hC hZ zk_88 zb_88 zn_88 dX12_todoTask_8 ?_
  refine zr_icmp_ne (tgt := 45) hC (hZ.rv 87) (by decide) dX12_todoTask_9 (by decide) (fun c1 => ?_) (fun c1 => ?_)
  · have h2 := hw.1 c1
    exact rj_todoTask_45 hC  Ra0 Ra1 Ra2 hZ h2
  · have h3 := hw.2 c1
    refine g_aload_n hC dX12_todoTask_12 rfl ?_
    refine g_aload_n hC dX12_todoTask_13 rfl ?_
    refine zr_geta hC hZ fl_X12_280 zb_88 (by decide) dX12_todoTask_14 ?_
    exact False.elim h3
theorem dX12_err_0 : decode cX12_err 0 = .ok (.aload_n 0, 1) := by decide +kernel
theorem dX12_err_1 : decode cX12_err 1 = .ok (.getfield 324, 3) := by decide +kernel
theorem dX12_err_4 : decode cX12_err 4 = .ok (.ifCond .eq 4, 3) := by decide +kernel
theorem dX12_err_7 : decode cX12_err 7 = .ok (.return_, 1) := by decide +kernel
theorem dX12_err_8 : decode cX12_err 8 = .ok (.aload_n 0, 1) := by decide +kernel
theorem dX12_err_9 : decode cX12_err 9 = .ok (.iconst 1, 1) := by decide +kernel
theorem dX12_err_10 : decode cX12_err 10 = .ok (.putfield 324, 3) := by decide +kernel
theorem dX12_err_13 : decode cX12_err 13 = .ok (.aload_n 0, 1) := by decide +kernel
theorem dX12_err_14 : decode cX12_err 14 = .ok (.iload_n 1, 1) := by decide +kernel
theorem dX12_err_15 : decode cX12_err 15 = .ok (.putfield 327, 3) := by decide +kernel
theorem dX12_err_18 : decode cX12_err 18 = .ok (.aload_n 0, 1) := by decide +kernel
theorem dX12_err_19 : decode cX12_err 19 = .ok (.iconst 0, 1) := by decide +kernel
theorem dX12_err_20 : decode cX12_err 20 = .ok (.putfield 330, 3) := by decide +kernel
theorem dX12_err_23 : decode cX12_err 23 = .ok (.return_, 1) := by decide +kernel
def wr_err (s0 : zS) (a0 : Int) (Q : zS → Prop) : Prop :=
  (((zv s0 102) = 0 → Q (zpv (zpv (zpv s0 102 1) 103 a0) 104 0)) ∧ (¬ (zv s0 102) = 0 → Q s0))
set_option maxHeartbeats 4000000 in
set_option maxRecDepth 100000 in
theorem rm_err (l : Launch) (d : gD) (b : Nat) {t : Nat} {T : Nat → Nat} {F : gM} {s0 : zS} {a0 : Int} (Ra0 : zR a0) {Q : zS → Prop} (hZ : zZ d t T F F s0) (hw : wr_err s0 a0 Q) : gMv l d b yX12_err cX12_err 2 0 0 0 F [.ref t, .int (zI a0)] (zPv d t T F Q) := by
  refine gM_of2 rfl (nL := 2) (Nat.le_of_ble_eq_true rfl) ?_
  intro X hX hC; subst hX
  show gG X d b (zQv X d b t T F Q) F 0 0 0 [some (.ref t), some (.int (zI a0))] []
  unfold wr_err at hw
  refine g_aload_n hC dX12_err_0 rfl ?_
  refine zr_get (e := (zv s0 102)) hC hZ fl_X12_324 zb_102 (by decide) rfl dX12_err_1 ?_
  refine zr_if_eq (tgt := 8) hC (hZ.rv 102) dX12_err_4 (by decide) (fun c1 => ?_) (fun c1 => ?_)
  · have h2 := hw.1 c1
    refine g_aload_n hC dX12_err_8 rfl ?_
    refine g_iconst (v := zI 1) hC dX12_err_9 rfl ?_
    refine zr_putZ hC hZ fl_X12_324 zb_102 (by decide) (Or.inr rfl) dX12_err_10 (fun F3 hZ4 => ?_)
    refine g_aload_n hC dX12_err_13 rfl ?_
    refine g_iload_n hC dX12_err_14 rfl ?_
    refine zr_put hC hZ4 fl_X12_327 zb_103 (by decide) Ra0 dX12_err_15 (fun F5 hZ6 => ?_)
    refine g_aload_n hC dX12_err_18 rfl ?_
    refine g_iconst (v := zI 0) hC dX12_err_19 rfl ?_
    refine zr_put hC hZ6 fl_X12_330 zb_104 (by decide) (by decide) dX12_err_20 (fun F7 hZ8 => ?_)
    exact zr_vret hC hZ8 h2 dX12_err_23
  · have h9 := hw.2 c1
    exact zr_vret hC hZ h9 dX12_err_7
theorem dX12_burns_0 : decode cX12_burns 0 = .ok (.aload_n 0, 1) := by decide +kernel
theorem dX12_burns_1 : decode cX12_burns 1 = .ok (.getfield 321, 3) := by decide +kernel
theorem dX12_burns_4 : decode cX12_burns 4 = .ok (.ifCond .ne 10, 3) := by decide +kernel
theorem dX12_burns_7 : decode cX12_burns 7 = .ok (.aload_n 0, 1) := by decide +kernel
theorem dX12_burns_8 : decode cX12_burns 8 = .ok (.iconst 1, 1) := by decide +kernel
theorem dX12_burns_9 : decode cX12_burns 9 = .ok (.invokevirtual 792, 3) := by decide +kernel
theorem dX12_burns_12 : decode cX12_burns 12 = .ok (.iconst 0, 1) := by decide +kernel
theorem dX12_burns_13 : decode cX12_burns 13 = .ok (.ireturn, 1) := by decide +kernel
theorem dX12_burns_14 : decode cX12_burns 14 = .ok (.aload_n 0, 1) := by decide +kernel
theorem dX12_burns_15 : decode cX12_burns 15 = .ok (.dup, 1) := by decide +kernel
theorem dX12_burns_16 : decode cX12_burns 16 = .ok (.getfield 321, 3) := by decide +kernel
theorem dX12_burns_19 : decode cX12_burns 19 = .ok (.iconst 1, 1) := by decide +kernel
theorem dX12_burns_20 : decode cX12_burns 20 = .ok (.isub, 1) := by decide +kernel
theorem dX12_burns_21 : decode cX12_burns 21 = .ok (.putfield 321, 3) := by decide +kernel
theorem dX12_burns_24 : decode cX12_burns 24 = .ok (.iconst 1, 1) := by decide +kernel
theorem dX12_burns_25 : decode cX12_burns 25 = .ok (.ireturn, 1) := by decide +kernel
def wr_burns (s0 : zS)  (Q : Int → zS → Prop) : Prop :=
  ((¬ (zv s0 101) = 0 → (zR ((zv s0 101) - 1)) ∧ Q 1 (zpv s0 101 ((zv s0 101) - 1))) ∧ ((zv s0 101) = 0 → wr_err s0 1 (fun s9 => Q 0 s9)))
set_option maxHeartbeats 4000000 in
set_option maxRecDepth 100000 in
theorem rm_burns (l : Launch) (d : gD) (b : Nat) {t : Nat} {T : Nat → Nat} {F : gM} {s0 : zS}   {Q : Int → zS → Prop} (hZ : zZ d t T F F s0) (hw : wr_burns s0  Q) : gMi l d b yX12_burns cX12_burns 1 .boolean 1 0 0 F [.ref t] (zPi d t T F Q) := by
  refine gM_of2 rfl (nL := 1) (Nat.le_of_ble_eq_true rfl) ?_
  intro X hX hC; subst hX
  show gG X d b (zQi X d b t T F Q) F 0 0 0 [some (.ref t)] []
  unfold wr_burns at hw
  refine g_aload_n hC dX12_burns_0 rfl ?_
  refine zr_get (e := (zv s0 101)) hC hZ fl_X12_321 zb_101 (by decide) rfl dX12_burns_1 ?_
  refine zr_if_ne (tgt := 14) hC (hZ.rv 101) dX12_burns_4 (by decide) (fun c1 => ?_) (fun c1 => ?_)
  · have h2 := hw.1 c1
    refine g_aload_n hC dX12_burns_14 rfl ?_
    refine g_dup hC dX12_burns_15 rfl ?_
    refine zr_get (e := (zv s0 101)) hC hZ fl_X12_321 zb_101 (by decide) rfl dX12_burns_16 ?_
    refine g_iconst (v := zI 1) hC dX12_burns_19 rfl ?_
    refine zr_isub hC dX12_burns_20 ?_
    obtain ⟨o3, h4⟩ := h2
    refine zr_put hC hZ fl_X12_321 zb_101 (by decide) o3 dX12_burns_21 (fun F5 hZ6 => ?_)
    refine g_iconst (v := zI 1) hC dX12_burns_24 rfl ?_
    exact zr_zret hC hZ6 (Or.inr rfl) h4 dX12_burns_25
  · have h7 := hw.2 c1
    refine g_aload_n hC dX12_burns_7 rfl ?_
    refine g_iconst (v := zI 1) hC dX12_burns_8 rfl ?_
    refine zr_callVv (As := [.int (zI 1)]) hC hZ rfl (rm_err X.la d b (by decide) hZ.rf h7) cl_X12_792 rfl rfl (Nat.le_of_ble_eq_true rfl) ⟨Nat.le_of_ble_eq_true rfl, Nat.le_of_ble_eq_true rfl⟩ dX12_burns_9 (fun s9 F10 hZ12 h13 => ?_)
    refine g_iconst (v := zI 0) hC dX12_burns_12 rfl ?_
    exact zr_zret hC hZ12 (Or.inl rfl) h13 dX12_burns_13
theorem dX12_push_0 : decode cX12_push 0 = .ok (.aload_n 0, 1) := by decide +kernel
theorem dX12_push_1 : decode cX12_push 1 = .ok (.getfield 289, 3) := by decide +kernel
theorem dX12_push_4 : decode cX12_push 4 = .ok (.aload_n 0, 1) := by decide +kernel
theorem dX12_push_5 : decode cX12_push 5 = .ok (.getfield 293, 3) := by decide +kernel
theorem dX12_push_8 : decode cX12_push 8 = .ok (.arraylength, 1) := by decide +kernel
theorem dX12_push_9 : decode cX12_push 9 = .ok (.if_icmp .ne 14, 3) := by decide +kernel
theorem dX12_push_12 : decode cX12_push 12 = .ok (.aload_n 0, 1) := by decide +kernel
theorem dX12_push_13 : decode cX12_push 13 = .ok (.aload_n 0, 1) := by decide +kernel
theorem dX12_push_14 : decode cX12_push 14 = .ok (.getfield 293, 3) := by decide +kernel
theorem dX12_push_17 : decode cX12_push 17 = .ok (.invokestatic 788, 3) := by decide +kernel
theorem dX12_push_20 : decode cX12_push 20 = .ok (.putfield 293, 3) := by decide +kernel
theorem dX12_push_23 : decode cX12_push 23 = .ok (.aload_n 0, 1) := by decide +kernel
theorem dX12_push_24 : decode cX12_push 24 = .ok (.getfield 293, 3) := by decide +kernel
theorem dX12_push_27 : decode cX12_push 27 = .ok (.aload_n 0, 1) := by decide +kernel
theorem dX12_push_28 : decode cX12_push 28 = .ok (.getfield 289, 3) := by decide +kernel
theorem dX12_push_31 : decode cX12_push 31 = .ok (.iload_n 1, 1) := by decide +kernel
theorem dX12_push_32 : decode cX12_push 32 = .ok (.iastore, 1) := by decide +kernel
theorem dX12_push_33 : decode cX12_push 33 = .ok (.aload_n 0, 1) := by decide +kernel
theorem dX12_push_34 : decode cX12_push 34 = .ok (.dup, 1) := by decide +kernel
theorem dX12_push_35 : decode cX12_push 35 = .ok (.getfield 289, 3) := by decide +kernel
theorem dX12_push_38 : decode cX12_push 38 = .ok (.iconst 1, 1) := by decide +kernel
theorem dX12_push_39 : decode cX12_push 39 = .ok (.iadd, 1) := by decide +kernel
theorem dX12_push_40 : decode cX12_push 40 = .ok (.putfield 289, 3) := by decide +kernel
theorem dX12_push_43 : decode cX12_push 43 = .ok (.return_, 1) := by decide +kernel
def wr_push (s0 : zS) (a0 : Int) (Q : zS → Prop) : Prop :=
  ((¬ (zv s0 91) = 300000 → (0 ≤ (zv s0 91)) ∧ ((zv s0 91) < 300000) ∧ (zR ((zv s0 91) + 1)) ∧ Q (zpv (zpa s0 92 (Int.toNat (zv s0 91)) a0) 91 ((zv s0 91) + 1))) ∧ ((zv s0 91) = 300000 → False))
set_option maxHeartbeats 4000000 in
set_option maxRecDepth 100000 in
theorem rm_push (l : Launch) (d : gD) (b : Nat) {t : Nat} {T : Nat → Nat} {F : gM} {s0 : zS} {a0 : Int} (Ra0 : zR a0) {Q : zS → Prop} (hZ : zZ d t T F F s0) (hw : wr_push s0 a0 Q) : gMv l d b yX12_push cX12_push 2 0 0 0 F [.ref t, .int (zI a0)] (zPv d t T F Q) := by
  refine gM_of2 rfl (nL := 2) (Nat.le_of_ble_eq_true rfl) ?_
  intro X hX hC; subst hX
  show gG X d b (zQv X d b t T F Q) F 0 0 0 [some (.ref t), some (.int (zI a0))] []
  unfold wr_push at hw
  refine g_aload_n hC dX12_push_0 rfl ?_
  refine zr_get (e := (zv s0 91)) hC hZ fl_X12_289 zb_91 (by decide) rfl dX12_push_1 ?_
  refine g_aload_n hC dX12_push_4 rfl ?_
  refine zr_geta hC hZ fl_X12_293 zb_92 (by decide) dX12_push_5 ?_
  refine zr_alen hC hZ zk_92 zb_92 zn_92 dX12_push_8 ?_
  refine zr_icmp_ne (tgt := 23) hC (hZ.rv 91) (by decide) dX12_push_9 (by decide) (fun c1 => ?_) (fun c1 => ?_)
  · have h2 := hw.1 c1
    refine g_aload_n hC dX12_push_23 rfl ?_
    refine zr_geta hC hZ fl_X12_293 zb_92 (by decide) dX12_push_24 ?_
    refine g_aload_n hC dX12_push_27 rfl ?_
    refine zr_get (e := (zv s0 91)) hC hZ fl_X12_289 zb_91 (by decide) rfl dX12_push_28 ?_
    refine g_iload_n hC dX12_push_31 rfl ?_
    obtain ⟨o3, h4⟩ := h2
    obtain ⟨o5, h6⟩ := h4
    refine zr_iast hC hZ zk_92 zb_92 zn_92 (by decide) o3 o5 Ra0 dX12_push_32 (fun F7 hZ8 => ?_)
    refine g_aload_n hC dX12_push_33 rfl ?_
    refine g_dup hC dX12_push_34 rfl ?_
    refine zr_get (e := (zv s0 91)) hC hZ8 fl_X12_289 zb_91 (by decide) rfl dX12_push_35 ?_
    refine g_iconst (v := zI 1) hC dX12_push_38 rfl ?_
    refine zr_iadd hC dX12_push_39 ?_
    obtain ⟨o9, h10⟩ := h6
    refine zr_put hC hZ8 fl_X12_289 zb_91 (by decide) o9 dX12_push_40 (fun F11 hZ12 => ?_)
    exact zr_vret hC hZ12 h10 dX12_push_43
  · have h13 := hw.2 c1
    refine g_aload_n hC dX12_push_12 rfl ?_
    refine g_aload_n hC dX12_push_13 rfl ?_
    refine zr_geta hC hZ fl_X12_293 zb_92 (by decide) dX12_push_14 ?_
    exact False.elim h13
theorem dX12_pop_0 : decode cX12_pop 0 = .ok (.aload_n 0, 1) := by decide +kernel
theorem dX12_pop_1 : decode cX12_pop 1 = .ok (.dup, 1) := by decide +kernel
theorem dX12_pop_2 : decode cX12_pop 2 = .ok (.getfield 289, 3) := by decide +kernel
theorem dX12_pop_5 : decode cX12_pop 5 = .ok (.iconst 1, 1) := by decide +kernel
theorem dX12_pop_6 : decode cX12_pop 6 = .ok (.isub, 1) := by decide +kernel
theorem dX12_pop_7 : decode cX12_pop 7 = .ok (.putfield 289, 3) := by decide +kernel
theorem dX12_pop_10 : decode cX12_pop 10 = .ok (.aload_n 0, 1) := by decide +kernel
theorem dX12_pop_11 : decode cX12_pop 11 = .ok (.getfield 293, 3) := by decide +kernel
theorem dX12_pop_14 : decode cX12_pop 14 = .ok (.aload_n 0, 1) := by decide +kernel
theorem dX12_pop_15 : decode cX12_pop 15 = .ok (.getfield 289, 3) := by decide +kernel
theorem dX12_pop_18 : decode cX12_pop 18 = .ok (.iaload, 1) := by decide +kernel
theorem dX12_pop_19 : decode cX12_pop 19 = .ok (.ireturn, 1) := by decide +kernel
def wr_pop (s0 : zS)  (Q : Int → zS → Prop) : Prop :=
  (zR ((zv s0 91) - 1)) ∧ (0 ≤ ((zv s0 91) - 1)) ∧ (((zv s0 91) - 1) < 300000) ∧ Q (za s0 92 (Int.toNat ((zv s0 91) - 1))) (zpv s0 91 ((zv s0 91) - 1))
set_option maxHeartbeats 4000000 in
set_option maxRecDepth 100000 in
theorem rm_pop (l : Launch) (d : gD) (b : Nat) {t : Nat} {T : Nat → Nat} {F : gM} {s0 : zS}   {Q : Int → zS → Prop} (hZ : zZ d t T F F s0) (hw : wr_pop s0  Q) : gMi l d b yX12_pop cX12_pop 1 .int 0 0 0 F [.ref t] (zPi d t T F Q) := by
  refine gM_of2 rfl (nL := 1) (Nat.le_of_ble_eq_true rfl) ?_
  intro X hX hC; subst hX
  show gG X d b (zQi X d b t T F Q) F 0 0 0 [some (.ref t)] []
  unfold wr_pop at hw
  refine g_aload_n hC dX12_pop_0 rfl ?_
  refine g_dup hC dX12_pop_1 rfl ?_
  refine zr_get (e := (zv s0 91)) hC hZ fl_X12_289 zb_91 (by decide) rfl dX12_pop_2 ?_
  refine g_iconst (v := zI 1) hC dX12_pop_5 rfl ?_
  refine zr_isub hC dX12_pop_6 ?_
  obtain ⟨o1, h2⟩ := hw
  refine zr_put hC hZ fl_X12_289 zb_91 (by decide) o1 dX12_pop_7 (fun F3 hZ4 => ?_)
  refine g_aload_n hC dX12_pop_10 rfl ?_
  refine zr_geta hC hZ4 fl_X12_293 zb_92 (by decide) dX12_pop_11 ?_
  refine g_aload_n hC dX12_pop_14 rfl ?_
  refine zr_get (e := ((zv s0 91) - 1)) hC hZ4 fl_X12_289 zb_91 (by decide) rfl dX12_pop_15 ?_
  obtain ⟨o5, h6⟩ := h2
  obtain ⟨o7, h8⟩ := h6
  refine zr_iald (v := (za s0 92 (Int.toNat ((zv s0 91) - 1)))) hC hZ4 zk_92 zb_92 zn_92 (by decide) o5 o7 rfl dX12_pop_18 ?_
  exact zr_iret hC hZ4 (hZ.ra 92 _) h8 dX12_pop_19
theorem dX12_read_0 : decode cX12_read 0 = .ok (.lload_n 1, 1) := by decide +kernel
theorem dX12_read_1 : decode cX12_read 1 = .ok (.lconst 0, 1) := by decide +kernel
theorem dX12_read_2 : decode cX12_read 2 = .ok (.lcmp, 1) := by decide +kernel
theorem dX12_read_3 : decode cX12_read 3 = .ok (.ifCond .lt 13, 3) := by decide +kernel
theorem dX12_read_6 : decode cX12_read 6 = .ok (.lload_n 1, 1) := by decide +kernel
theorem dX12_read_7 : decode cX12_read 7 = .ok (.aload_n 0, 1) := by decide +kernel
theorem dX12_read_8 : decode cX12_read 8 = .ok (.getfield 315, 3) := by decide +kernel
theorem dX12_read_11 : decode cX12_read 11 = .ok (.i2l, 1) := by decide +kernel
theorem dX12_read_12 : decode cX12_read 12 = .ok (.lcmp, 1) := by decide +kernel
theorem dX12_read_13 : decode cX12_read 13 = .ok (.ifCond .lt 10, 3) := by decide +kernel
theorem dX12_read_16 : decode cX12_read 16 = .ok (.aload_n 0, 1) := by decide +kernel
theorem dX12_read_17 : decode cX12_read 17 = .ok (.iconst 2, 1) := by decide +kernel
theorem dX12_read_18 : decode cX12_read 18 = .ok (.invokevirtual 792, 3) := by decide +kernel
theorem dX12_read_21 : decode cX12_read 21 = .ok (.iconst 0, 1) := by decide +kernel
theorem dX12_read_22 : decode cX12_read 22 = .ok (.ireturn, 1) := by decide +kernel
theorem dX12_read_23 : decode cX12_read 23 = .ok (.aload_n 0, 1) := by decide +kernel
theorem dX12_read_24 : decode cX12_read 24 = .ok (.getfield 312, 3) := by decide +kernel
theorem dX12_read_27 : decode cX12_read 27 = .ok (.lload_n 1, 1) := by decide +kernel
theorem dX12_read_28 : decode cX12_read 28 = .ok (.l2i, 1) := by decide +kernel
theorem dX12_read_29 : decode cX12_read 29 = .ok (.iaload, 1) := by decide +kernel
theorem dX12_read_30 : decode cX12_read 30 = .ok (.ireturn, 1) := by decide +kernel
def wr_read (s0 : zS) (a0 : Int) (Q : Int → zS → Prop) : Prop :=
  ((a0 < 0 → wr_err s0 2 (fun s4 => Q 0 s4)) ∧ (¬ a0 < 0 → ((a0 < (zv s0 99) → (0 ≤ a0) ∧ (a0 < 65536) ∧ Q (za s0 98 (Int.toNat a0)) s0) ∧ (¬ a0 < (zv s0 99) → wr_err s0 2 (fun s18 => Q 0 s18)))))
set_option maxHeartbeats 4000000 in
set_option maxRecDepth 100000 in
theorem rm_read (l : Launch) (d : gD) (b : Nat) {t : Nat} {T : Nat → Nat} {F : gM} {s0 : zS} {a0 : Int} (Ra0 : zL a0) {Q : Int → zS → Prop} (hZ : zZ d t T F F s0) (hw : wr_read s0 a0 Q) : gMi l d b yX12_read cX12_read 3 .int 1 0 0 F [.ref t, .long (zJ a0)] (zPi d t T F Q) := by
  refine gM_of2 rfl (nL := 3) (Nat.le_of_ble_eq_true rfl) ?_
  intro X hX hC; subst hX
  show gG X d b (zQi X d b t T F Q) F 0 0 0 [some (.ref t), some (.long (zJ a0)), none] []
  unfold wr_read at hw
  refine g_lload_n hC dX12_read_0 rfl ?_
  refine g_lconst (v := zJ 0) hC dX12_read_1 rfl ?_
  refine g_lcmp hC dX12_read_2 ?_
  refine zr_lif_lt (tgt := 16) hC Ra0 (by decide) dX12_read_3 (by decide) (fun c1 => ?_) (fun c1 => ?_)
  · have h2 := hw.1 c1
    refine g_aload_n hC dX12_read_16 rfl ?_
    refine g_iconst (v := zI 2) hC dX12_read_17 rfl ?_
    refine zr_callVv (As := [.int (zI 2)]) hC hZ rfl (rm_err X.la d b (by decide) hZ.rf h2) cl_X12_792 rfl rfl (Nat.le_of_ble_eq_true rfl) ⟨Nat.le_of_ble_eq_true rfl, Nat.le_of_ble_eq_true rfl⟩ dX12_read_18 (fun s4 F5 hZ7 h8 => ?_)
    refine g_iconst (v := zI 0) hC dX12_read_21 rfl ?_
    exact zr_iret hC hZ7 (by decide) h8 dX12_read_22
  · have h9 := hw.2 c1
    refine g_lload_n hC dX12_read_6 rfl ?_
    refine g_aload_n hC dX12_read_7 rfl ?_
    refine zr_get (e := (zv s0 99)) hC hZ fl_X12_315 zb_99 (by decide) rfl dX12_read_8 ?_
    refine zr_i2l hC dX12_read_11 (hZ.rv 99) ?_
    refine g_lcmp hC dX12_read_12 ?_
    refine zr_lif_lt (tgt := 23) hC Ra0 (zR_L (hZ.rv 99)) dX12_read_13 (by decide) (fun c10 => ?_) (fun c10 => ?_)
    · have h11 := h9.1 c10
      refine g_aload_n hC dX12_read_23 rfl ?_
      refine zr_geta hC hZ fl_X12_312 zb_98 (by decide) dX12_read_24 ?_
      refine g_lload_n hC dX12_read_27 rfl ?_
      refine zr_l2i hC dX12_read_28 ?_
      obtain ⟨o12, h13⟩ := h11
      obtain ⟨o14, h15⟩ := h13
      refine zr_iald (v := (za s0 98 (Int.toNat a0))) hC hZ zk_98 zb_98 zn_98 (by decide) o12 o14 rfl dX12_read_29 ?_
      exact zr_iret hC hZ (hZ.ra 98 _) h15 dX12_read_30
    · have h16 := h9.2 c10
      refine g_aload_n hC dX12_read_16 rfl ?_
      refine g_iconst (v := zI 2) hC dX12_read_17 rfl ?_
      refine zr_callVv (As := [.int (zI 2)]) hC hZ rfl (rm_err X.la d b (by decide) hZ.rf h16) cl_X12_792 rfl rfl (Nat.le_of_ble_eq_true rfl) ⟨Nat.le_of_ble_eq_true rfl, Nat.le_of_ble_eq_true rfl⟩ dX12_read_18 (fun s18 F19 hZ21 h22 => ?_)
      refine g_iconst (v := zI 0) hC dX12_read_21 rfl ?_
      exact zr_iret hC hZ21 (by decide) h22 dX12_read_22
theorem dX12_write_0 : decode cX12_write 0 = .ok (.lload_n 1, 1) := by decide +kernel
theorem dX12_write_1 : decode cX12_write 1 = .ok (.lconst 0, 1) := by decide +kernel
theorem dX12_write_2 : decode cX12_write 2 = .ok (.lcmp, 1) := by decide +kernel
theorem dX12_write_3 : decode cX12_write 3 = .ok (.ifCond .lt 13, 3) := by decide +kernel
theorem dX12_write_6 : decode cX12_write 6 = .ok (.lload_n 1, 1) := by decide +kernel
theorem dX12_write_7 : decode cX12_write 7 = .ok (.aload_n 0, 1) := by decide +kernel
theorem dX12_write_8 : decode cX12_write 8 = .ok (.getfield 315, 3) := by decide +kernel
theorem dX12_write_11 : decode cX12_write 11 = .ok (.i2l, 1) := by decide +kernel
theorem dX12_write_12 : decode cX12_write 12 = .ok (.lcmp, 1) := by decide +kernel
theorem dX12_write_13 : decode cX12_write 13 = .ok (.ifCond .lt 11, 3) := by decide +kernel
theorem dX12_write_16 : decode cX12_write 16 = .ok (.aload_n 0, 1) := by decide +kernel
theorem dX12_write_17 : decode cX12_write 17 = .ok (.iconst 2, 1) := by decide +kernel
theorem dX12_write_18 : decode cX12_write 18 = .ok (.invokevirtual 792, 3) := by decide +kernel
theorem dX12_write_21 : decode cX12_write 21 = .ok (.goto 11, 3) := by decide +kernel
theorem dX12_write_24 : decode cX12_write 24 = .ok (.aload_n 0, 1) := by decide +kernel
theorem dX12_write_25 : decode cX12_write 25 = .ok (.getfield 312, 3) := by decide +kernel
theorem dX12_write_28 : decode cX12_write 28 = .ok (.lload_n 1, 1) := by decide +kernel
theorem dX12_write_29 : decode cX12_write 29 = .ok (.l2i, 1) := by decide +kernel
theorem dX12_write_30 : decode cX12_write 30 = .ok (.iload_n 3, 1) := by decide +kernel
theorem dX12_write_31 : decode cX12_write 31 = .ok (.iastore, 1) := by decide +kernel
theorem dX12_write_32 : decode cX12_write 32 = .ok (.return_, 1) := by decide +kernel
def wr_write (s0 : zS) (a0 : Int) (a1 : Int) (Q : zS → Prop) : Prop :=
  ((a0 < 0 → wr_err s0 2 (fun s4 => Q s4)) ∧ (¬ a0 < 0 → ((a0 < (zv s0 99) → (0 ≤ a0) ∧ (a0 < 65536) ∧ Q (zpa s0 98 (Int.toNat a0) a1)) ∧ (¬ a0 < (zv s0 99) → wr_err s0 2 (fun s20 => Q s20)))))
set_option maxHeartbeats 4000000 in
set_option maxRecDepth 100000 in
theorem rm_write (l : Launch) (d : gD) (b : Nat) {t : Nat} {T : Nat → Nat} {F : gM} {s0 : zS} {a0 : Int} {a1 : Int} (Ra0 : zL a0) (Ra1 : zR a1) {Q : zS → Prop} (hZ : zZ d t T F F s0) (hw : wr_write s0 a0 a1 Q) : gMv l d b yX12_write cX12_write 4 1 0 0 F [.ref t, .long (zJ a0), .int (zI a1)] (zPv d t T F Q) := by
  refine gM_of2 rfl (nL := 4) (Nat.le_of_ble_eq_true rfl) ?_
  intro X hX hC; subst hX
  show gG X d b (zQv X d b t T F Q) F 0 0 0 [some (.ref t), some (.long (zJ a0)), none, some (.int (zI a1))] []
  unfold wr_write at hw
  refine g_lload_n hC dX12_write_0 rfl ?_
  refine g_lconst (v := zJ 0) hC dX12_write_1 rfl ?_
  refine g_lcmp hC dX12_write_2 ?_
  refine zr_lif_lt (tgt := 16) hC Ra0 (by decide) dX12_write_3 (by decide) (fun c1 => ?_) (fun c1 => ?_)
  · have h2 := hw.1 c1
    refine g_aload_n hC dX12_write_16 rfl ?_
    refine g_iconst (v := zI 2) hC dX12_write_17 rfl ?_
    refine zr_callVv (As := [.int (zI 2)]) hC hZ rfl (rm_err X.la d b (by decide) hZ.rf h2) cl_X12_792 rfl rfl (Nat.le_of_ble_eq_true rfl) ⟨Nat.le_of_ble_eq_true rfl, Nat.le_of_ble_eq_true rfl⟩ dX12_write_18 (fun s4 F5 hZ7 h8 => ?_)
    refine g_goto (tgt := 32) hC dX12_write_21 (by decide) ?_
    exact zr_vret hC hZ7 h8 dX12_write_32
  · have h9 := hw.2 c1
    refine g_lload_n hC dX12_write_6 rfl ?_
    refine g_aload_n hC dX12_write_7 rfl ?_
    refine zr_get (e := (zv s0 99)) hC hZ fl_X12_315 zb_99 (by decide) rfl dX12_write_8 ?_
    refine zr_i2l hC dX12_write_11 (hZ.rv 99) ?_
    refine g_lcmp hC dX12_write_12 ?_
    refine zr_lif_lt (tgt := 24) hC Ra0 (zR_L (hZ.rv 99)) dX12_write_13 (by decide) (fun c10 => ?_) (fun c10 => ?_)
    · have h11 := h9.1 c10
      refine g_aload_n hC dX12_write_24 rfl ?_
      refine zr_geta hC hZ fl_X12_312 zb_98 (by decide) dX12_write_25 ?_
      refine g_lload_n hC dX12_write_28 rfl ?_
      refine zr_l2i hC dX12_write_29 ?_
      refine g_iload_n hC dX12_write_30 rfl ?_
      obtain ⟨o12, h13⟩ := h11
      obtain ⟨o14, h15⟩ := h13
      refine zr_iast hC hZ zk_98 zb_98 zn_98 (by decide) o12 o14 Ra1 dX12_write_31 (fun F16 hZ17 => ?_)
      exact zr_vret hC hZ17 h15 dX12_write_32
    · have h18 := h9.2 c10
      refine g_aload_n hC dX12_write_16 rfl ?_
      refine g_iconst (v := zI 2) hC dX12_write_17 rfl ?_
      refine zr_callVv (As := [.int (zI 2)]) hC hZ rfl (rm_err X.la d b (by decide) hZ.rf h18) cl_X12_792 rfl rfl (Nat.le_of_ble_eq_true rfl) ⟨Nat.le_of_ble_eq_true rfl, Nat.le_of_ble_eq_true rfl⟩ dX12_write_18 (fun s20 F21 hZ23 h24 => ?_)
      refine g_goto (tgt := 32) hC dX12_write_21 (by decide) ?_
      exact zr_vret hC hZ23 h24 dX12_write_32
theorem dX12_wordOf_0 : decode cX12_wordOf 0 = .ok (.aload_n 0, 1) := by decide +kernel
theorem dX12_wordOf_1 : decode cX12_wordOf 1 = .ok (.getfield 102, 3) := by decide +kernel
theorem dX12_wordOf_4 : decode cX12_wordOf 4 = .ok (.iload_n 1, 1) := by decide +kernel
theorem dX12_wordOf_5 : decode cX12_wordOf 5 = .ok (.iaload, 1) := by decide +kernel
theorem dX12_wordOf_6 : decode cX12_wordOf 6 = .ok (.iconst 1, 1) := by decide +kernel
theorem dX12_wordOf_7 : decode cX12_wordOf 7 = .ok (.if_icmp .ne 10, 3) := by decide +kernel
theorem dX12_wordOf_10 : decode cX12_wordOf 10 = .ok (.aload_n 0, 1) := by decide +kernel
theorem dX12_wordOf_11 : decode cX12_wordOf 11 = .ok (.getfield 105, 3) := by decide +kernel
theorem dX12_wordOf_14 : decode cX12_wordOf 14 = .ok (.iload_n 1, 1) := by decide +kernel
theorem dX12_wordOf_15 : decode cX12_wordOf 15 = .ok (.iaload, 1) := by decide +kernel
theorem dX12_wordOf_16 : decode cX12_wordOf 16 = .ok (.ireturn, 1) := by decide +kernel
theorem dX12_wordOf_17 : decode cX12_wordOf 17 = .ok (.aload_n 0, 1) := by decide +kernel
theorem dX12_wordOf_18 : decode cX12_wordOf 18 = .ok (.getfield 102, 3) := by decide +kernel
theorem dX12_wordOf_21 : decode cX12_wordOf 21 = .ok (.iload_n 1, 1) := by decide +kernel
theorem dX12_wordOf_22 : decode cX12_wordOf 22 = .ok (.iaload, 1) := by decide +kernel
theorem dX12_wordOf_23 : decode cX12_wordOf 23 = .ok (.iconst 3, 1) := by decide +kernel
theorem dX12_wordOf_24 : decode cX12_wordOf 24 = .ok (.if_icmp .ne 15, 3) := by decide +kernel
theorem dX12_wordOf_27 : decode cX12_wordOf 27 = .ok (.aload_n 0, 1) := by decide +kernel
theorem dX12_wordOf_28 : decode cX12_wordOf 28 = .ok (.getfield 105, 3) := by decide +kernel
theorem dX12_wordOf_31 : decode cX12_wordOf 31 = .ok (.aload_n 0, 1) := by decide +kernel
theorem dX12_wordOf_32 : decode cX12_wordOf 32 = .ok (.getfield 105, 3) := by decide +kernel
theorem dX12_wordOf_35 : decode cX12_wordOf 35 = .ok (.iload_n 1, 1) := by decide +kernel
theorem dX12_wordOf_36 : decode cX12_wordOf 36 = .ok (.iaload, 1) := by decide +kernel
theorem dX12_wordOf_37 : decode cX12_wordOf 37 = .ok (.iaload, 1) := by decide +kernel
theorem dX12_wordOf_38 : decode cX12_wordOf 38 = .ok (.ireturn, 1) := by decide +kernel
theorem dX12_wordOf_39 : decode cX12_wordOf 39 = .ok (.aload_n 0, 1) := by decide +kernel
theorem dX12_wordOf_40 : decode cX12_wordOf 40 = .ok (.getfield 102, 3) := by decide +kernel
theorem dX12_wordOf_43 : decode cX12_wordOf 43 = .ok (.iload_n 1, 1) := by decide +kernel
theorem dX12_wordOf_44 : decode cX12_wordOf 44 = .ok (.iaload, 1) := by decide +kernel
theorem dX12_wordOf_45 : decode cX12_wordOf 45 = .ok (.iconst 4, 1) := by decide +kernel
theorem dX12_wordOf_46 : decode cX12_wordOf 46 = .ok (.if_icmp .ne 15, 3) := by decide +kernel
theorem dX12_wordOf_49 : decode cX12_wordOf 49 = .ok (.aload_n 0, 1) := by decide +kernel
theorem dX12_wordOf_50 : decode cX12_wordOf 50 = .ok (.getfield 305, 3) := by decide +kernel
theorem dX12_wordOf_53 : decode cX12_wordOf 53 = .ok (.aload_n 0, 1) := by decide +kernel
theorem dX12_wordOf_54 : decode cX12_wordOf 54 = .ok (.getfield 105, 3) := by decide +kernel
theorem dX12_wordOf_57 : decode cX12_wordOf 57 = .ok (.iload_n 1, 1) := by decide +kernel
theorem dX12_wordOf_58 : decode cX12_wordOf 58 = .ok (.iaload, 1) := by decide +kernel
theorem dX12_wordOf_59 : decode cX12_wordOf 59 = .ok (.iadd, 1) := by decide +kernel
theorem dX12_wordOf_60 : decode cX12_wordOf 60 = .ok (.ireturn, 1) := by decide +kernel
theorem dX12_wordOf_61 : decode cX12_wordOf 61 = .ok (.iconst (-1), 1) := by decide +kernel
theorem dX12_wordOf_62 : decode cX12_wordOf 62 = .ok (.ireturn, 1) := by decide +kernel
def wr_wordOf (s0 : zS) (a0 : Int) (Q : Int → zS → Prop) : Prop :=
  (0 ≤ a0) ∧ (a0 < 26000) ∧ ((¬ (za s0 30 (Int.toNat a0)) = 1 → (0 ≤ a0) ∧ (a0 < 26000) ∧ ((¬ (za s0 30 (Int.toNat a0)) = 3 → (0 ≤ a0) ∧ (a0 < 26000) ∧ ((¬ (za s0 30 (Int.toNat a0)) = 4 → Q (-1) s0) ∧ ((za s0 30 (Int.toNat a0)) = 4 → (0 ≤ a0) ∧ (a0 < 26000) ∧ (zR ((zv s0 96) + (za s0 31 (Int.toNat a0)))) ∧ Q ((zv s0 96) + (za s0 31 (Int.toNat a0))) s0))) ∧ ((za s0 30 (Int.toNat a0)) = 3 → (0 ≤ a0) ∧ (a0 < 26000) ∧ (0 ≤ (za s0 31 (Int.toNat a0))) ∧ ((za s0 31 (Int.toNat a0)) < 26000) ∧ Q (za s0 31 (Int.toNat (za s0 31 (Int.toNat a0)))) s0))) ∧ ((za s0 30 (Int.toNat a0)) = 1 → (0 ≤ a0) ∧ (a0 < 26000) ∧ Q (za s0 31 (Int.toNat a0)) s0))
set_option maxHeartbeats 4000000 in
set_option maxRecDepth 100000 in
theorem rm_wordOf (l : Launch) (d : gD) (b : Nat) {t : Nat} {T : Nat → Nat} {F : gM} {s0 : zS} {a0 : Int} (Ra0 : zR a0) {Q : Int → zS → Prop} (hZ : zZ d t T F F s0) (hw : wr_wordOf s0 a0 Q) : gMi l d b yX12_wordOf cX12_wordOf 2 .int 0 0 0 F [.ref t, .int (zI a0)] (zPi d t T F Q) := by
  refine gM_of2 rfl (nL := 2) (Nat.le_of_ble_eq_true rfl) ?_
  intro X hX hC; subst hX
  show gG X d b (zQi X d b t T F Q) F 0 0 0 [some (.ref t), some (.int (zI a0))] []
  unfold wr_wordOf at hw
  refine g_aload_n hC dX12_wordOf_0 rfl ?_
  refine zr_geta hC hZ fl_X12_102 zb_30 (by decide) dX12_wordOf_1 ?_
  refine g_iload_n hC dX12_wordOf_4 rfl ?_
  obtain ⟨o1, h2⟩ := hw
  obtain ⟨o3, h4⟩ := h2
  refine zr_iald (v := (za s0 30 (Int.toNat a0))) hC hZ zk_30 zb_30 zn_30 (by decide) o1 o3 rfl dX12_wordOf_5 ?_
  refine g_iconst (v := zI 1) hC dX12_wordOf_6 rfl ?_
  refine zr_icmp_ne (tgt := 17) hC (hZ.ra 30 _) (by decide) dX12_wordOf_7 (by decide) (fun c5 => ?_) (fun c5 => ?_)
  · have h6 := h4.1 c5
    refine g_aload_n hC dX12_wordOf_17 rfl ?_
    refine zr_geta hC hZ fl_X12_102 zb_30 (by decide) dX12_wordOf_18 ?_
    refine g_iload_n hC dX12_wordOf_21 rfl ?_
    obtain ⟨o7, h8⟩ := h6
    obtain ⟨o9, h10⟩ := h8
    refine zr_iald (v := (za s0 30 (Int.toNat a0))) hC hZ zk_30 zb_30 zn_30 (by decide) o7 o9 rfl dX12_wordOf_22 ?_
    refine g_iconst (v := zI 3) hC dX12_wordOf_23 rfl ?_
    refine zr_icmp_ne (tgt := 39) hC (hZ.ra 30 _) (by decide) dX12_wordOf_24 (by decide) (fun c11 => ?_) (fun c11 => ?_)
    · have h12 := h10.1 c11
      refine g_aload_n hC dX12_wordOf_39 rfl ?_
      refine zr_geta hC hZ fl_X12_102 zb_30 (by decide) dX12_wordOf_40 ?_
      refine g_iload_n hC dX12_wordOf_43 rfl ?_
      obtain ⟨o13, h14⟩ := h12
      obtain ⟨o15, h16⟩ := h14
      refine zr_iald (v := (za s0 30 (Int.toNat a0))) hC hZ zk_30 zb_30 zn_30 (by decide) o13 o15 rfl dX12_wordOf_44 ?_
      refine g_iconst (v := zI 4) hC dX12_wordOf_45 rfl ?_
      refine zr_icmp_ne (tgt := 61) hC (hZ.ra 30 _) (by decide) dX12_wordOf_46 (by decide) (fun c17 => ?_) (fun c17 => ?_)
      · have h18 := h16.1 c17
        refine g_iconst (v := zI (-1)) hC dX12_wordOf_61 rfl ?_
        exact zr_iret hC hZ (by decide) h18 dX12_wordOf_62
      · have h19 := h16.2 c17
        refine g_aload_n hC dX12_wordOf_49 rfl ?_
        refine zr_get (e := (zv s0 96)) hC hZ fl_X12_305 zb_96 (by decide) rfl dX12_wordOf_50 ?_
        refine g_aload_n hC dX12_wordOf_53 rfl ?_
        refine zr_geta hC hZ fl_X12_105 zb_31 (by decide) dX12_wordOf_54 ?_
        refine g_iload_n hC dX12_wordOf_57 rfl ?_
        obtain ⟨o20, h21⟩ := h19
        obtain ⟨o22, h23⟩ := h21
        refine zr_iald (v := (za s0 31 (Int.toNat a0))) hC hZ zk_31 zb_31 zn_31 (by decide) o20 o22 rfl dX12_wordOf_58 ?_
        refine zr_iadd hC dX12_wordOf_59 ?_
        obtain ⟨o24, h25⟩ := h23
        exact zr_iret hC hZ o24 h25 dX12_wordOf_60
    · have h26 := h10.2 c11
      refine g_aload_n hC dX12_wordOf_27 rfl ?_
      refine zr_geta hC hZ fl_X12_105 zb_31 (by decide) dX12_wordOf_28 ?_
      refine g_aload_n hC dX12_wordOf_31 rfl ?_
      refine zr_geta hC hZ fl_X12_105 zb_31 (by decide) dX12_wordOf_32 ?_
      refine g_iload_n hC dX12_wordOf_35 rfl ?_
      obtain ⟨o27, h28⟩ := h26
      obtain ⟨o29, h30⟩ := h28
      refine zr_iald (v := (za s0 31 (Int.toNat a0))) hC hZ zk_31 zb_31 zn_31 (by decide) o27 o29 rfl dX12_wordOf_36 ?_
      obtain ⟨o31, h32⟩ := h30
      obtain ⟨o33, h34⟩ := h32
      refine zr_iald (v := (za s0 31 (Int.toNat (za s0 31 (Int.toNat a0))))) hC hZ zk_31 zb_31 zn_31 (by decide) o31 o33 rfl dX12_wordOf_37 ?_
      exact zr_iret hC hZ (hZ.ra 31 _) h34 dX12_wordOf_38
  · have h35 := h4.2 c5
    refine g_aload_n hC dX12_wordOf_10 rfl ?_
    refine zr_geta hC hZ fl_X12_105 zb_31 (by decide) dX12_wordOf_11 ?_
    refine g_iload_n hC dX12_wordOf_14 rfl ?_
    obtain ⟨o36, h37⟩ := h35
    obtain ⟨o38, h39⟩ := h37
    refine zr_iald (v := (za s0 31 (Int.toNat a0))) hC hZ zk_31 zb_31 zn_31 (by decide) o36 o38 rfl dX12_wordOf_15 ?_
    exact zr_iret hC hZ (hZ.ra 31 _) h39 dX12_wordOf_16
theorem dX12_address_0 : decode cX12_address 0 = .ok (.aload_n 0, 1) := by decide +kernel
theorem dX12_address_1 : decode cX12_address 1 = .ok (.getfield 87, 3) := by decide +kernel
theorem dX12_address_4 : decode cX12_address 4 = .ok (.iload_n 1, 1) := by decide +kernel
theorem dX12_address_5 : decode cX12_address 5 = .ok (.baload, 1) := by decide +kernel
theorem dX12_address_6 : decode cX12_address 6 = .ok (.istore_n 2, 1) := by decide +kernel
theorem dX12_address_7 : decode cX12_address 7 = .ok (.iload_n 2, 1) := by decide +kernel
theorem dX12_address_8 : decode cX12_address 8 = .ok (.iconst 1, 1) := by decide +kernel
theorem dX12_address_9 : decode cX12_address 9 = .ok (.if_icmp .ne 15, 3) := by decide +kernel
theorem dX12_address_12 : decode cX12_address 12 = .ok (.aload_n 0, 1) := by decide +kernel
theorem dX12_address_13 : decode cX12_address 13 = .ok (.aload_n 0, 1) := by decide +kernel
theorem dX12_address_14 : decode cX12_address 14 = .ok (.iload_n 1, 1) := by decide +kernel
theorem dX12_address_15 : decode cX12_address 15 = .ok (.invokevirtual 798, 3) := by decide +kernel
theorem dX12_address_18 : decode cX12_address 18 = .ok (.invokevirtual 795, 3) := by decide +kernel
theorem dX12_address_21 : decode cX12_address 21 = .ok (.goto 61, 3) := by decide +kernel
theorem dX12_address_24 : decode cX12_address 24 = .ok (.iload_n 2, 1) := by decide +kernel
theorem dX12_address_25 : decode cX12_address 25 = .ok (.bipush 7, 2) := by decide +kernel
theorem dX12_address_27 : decode cX12_address 27 = .ok (.if_icmp .ne 18, 3) := by decide +kernel
theorem dX12_address_30 : decode cX12_address 30 = .ok (.aload_n 0, 1) := by decide +kernel
theorem dX12_address_31 : decode cX12_address 31 = .ok (.iconst 1, 1) := by decide +kernel
theorem dX12_address_32 : decode cX12_address 32 = .ok (.aload_n 0, 1) := by decide +kernel
theorem dX12_address_33 : decode cX12_address 33 = .ok (.getfield 93, 3) := by decide +kernel
theorem dX12_address_36 : decode cX12_address 36 = .ok (.iload_n 1, 1) := by decide +kernel
theorem dX12_address_37 : decode cX12_address 37 = .ok (.iaload, 1) := by decide +kernel
theorem dX12_address_38 : decode cX12_address 38 = .ok (.iconst 0, 1) := by decide +kernel
theorem dX12_address_39 : decode cX12_address 39 = .ok (.invokevirtual 801, 3) := by decide +kernel
theorem dX12_address_42 : decode cX12_address 42 = .ok (.goto 40, 3) := by decide +kernel
theorem dX12_address_45 : decode cX12_address 45 = .ok (.aload_n 0, 1) := by decide +kernel
theorem dX12_address_46 : decode cX12_address 46 = .ok (.bipush 9, 2) := by decide +kernel
theorem dX12_address_48 : decode cX12_address 48 = .ok (.iload_n 1, 1) := by decide +kernel
theorem dX12_address_49 : decode cX12_address 49 = .ok (.iconst 0, 1) := by decide +kernel
theorem dX12_address_50 : decode cX12_address 50 = .ok (.invokevirtual 801, 3) := by decide +kernel
theorem dX12_address_53 : decode cX12_address 53 = .ok (.aload_n 0, 1) := by decide +kernel
theorem dX12_address_54 : decode cX12_address 54 = .ok (.iconst 1, 1) := by decide +kernel
theorem dX12_address_55 : decode cX12_address 55 = .ok (.aload_n 0, 1) := by decide +kernel
theorem dX12_address_56 : decode cX12_address 56 = .ok (.getfield 96, 3) := by decide +kernel
theorem dX12_address_59 : decode cX12_address 59 = .ok (.aload_n 0, 1) := by decide +kernel
theorem dX12_address_60 : decode cX12_address 60 = .ok (.getfield 93, 3) := by decide +kernel
theorem dX12_address_63 : decode cX12_address 63 = .ok (.iload_n 1, 1) := by decide +kernel
theorem dX12_address_64 : decode cX12_address 64 = .ok (.iaload, 1) := by decide +kernel
theorem dX12_address_65 : decode cX12_address 65 = .ok (.iaload, 1) := by decide +kernel
theorem dX12_address_66 : decode cX12_address 66 = .ok (.iconst 0, 1) := by decide +kernel
theorem dX12_address_67 : decode cX12_address 67 = .ok (.invokevirtual 801, 3) := by decide +kernel
theorem dX12_address_70 : decode cX12_address 70 = .ok (.aload_n 0, 1) := by decide +kernel
theorem dX12_address_71 : decode cX12_address 71 = .ok (.iconst 1, 1) := by decide +kernel
theorem dX12_address_72 : decode cX12_address 72 = .ok (.aload_n 0, 1) := by decide +kernel
theorem dX12_address_73 : decode cX12_address 73 = .ok (.getfield 93, 3) := by decide +kernel
theorem dX12_address_76 : decode cX12_address 76 = .ok (.iload_n 1, 1) := by decide +kernel
theorem dX12_address_77 : decode cX12_address 77 = .ok (.iaload, 1) := by decide +kernel
theorem dX12_address_78 : decode cX12_address 78 = .ok (.iconst 0, 1) := by decide +kernel
theorem dX12_address_79 : decode cX12_address 79 = .ok (.invokevirtual 801, 3) := by decide +kernel
theorem dX12_address_82 : decode cX12_address 82 = .ok (.return_, 1) := by decide +kernel
def wr_address (s0 : zS) (a0 : Int) (Q : zS → Prop) : Prop :=
  (0 ≤ a0) ∧ (a0 < 26000) ∧ ((¬ (za s0 25 (Int.toNat a0)) = 1 → ((¬ (za s0 25 (Int.toNat a0)) = 7 → wr_todoTask s0 9 a0 0 (fun s10 => (0 ≤ a0) ∧ (a0 < 26000) ∧ (0 ≤ (za s10 27 (Int.toNat a0))) ∧ ((za s10 27 (Int.toNat a0)) < 26000) ∧ wr_todoTask s10 1 (za s10 28 (Int.toNat (za s10 27 (Int.toNat a0)))) 0 (fun s24 => (0 ≤ a0) ∧ (a0 < 26000) ∧ wr_todoTask s24 1 (za s24 27 (Int.toNat a0)) 0 (fun s34 => Q s34)))) ∧ ((za s0 25 (Int.toNat a0)) = 7 → (0 ≤ a0) ∧ (a0 < 26000) ∧ wr_todoTask s0 1 (za s0 27 (Int.toNat a0)) 0 (fun s45 => Q s45)))) ∧ ((za s0 25 (Int.toNat a0)) = 1 → wr_wordOf s0 a0 (fun r51 s52 => wr_push s52 r51 (fun s58 => Q s58))))
set_option maxHeartbeats 4000000 in
set_option maxRecDepth 100000 in
theorem rm_address (l : Launch) (d : gD) (b : Nat) {t : Nat} {T : Nat → Nat} {F : gM} {s0 : zS} {a0 : Int} (Ra0 : zR a0) {Q : zS → Prop} (hZ : zZ d t T F F s0) (hw : wr_address s0 a0 Q) : gMv l d b yX12_address cX12_address 3 1 0 0 F [.ref t, .int (zI a0)] (zPv d t T F Q) := by
  refine gM_of2 rfl (nL := 3) (Nat.le_of_ble_eq_true rfl) ?_
  intro X hX hC; subst hX
  show gG X d b (zQv X d b t T F Q) F 0 0 0 [some (.ref t), some (.int (zI a0)), none] []
  unfold wr_address at hw
  refine g_aload_n hC dX12_address_0 rfl ?_
  refine zr_geta hC hZ fl_X12_87 zb_25 (by decide) dX12_address_1 ?_
  refine g_iload_n hC dX12_address_4 rfl ?_
  obtain ⟨o1, h2⟩ := hw
  obtain ⟨o3, h4⟩ := h2
  refine zr_bald (v := (za s0 25 (Int.toNat a0))) hC hZ zk_25 zb_25 zn_25 (by decide) o1 o3 rfl dX12_address_5 ?_
  refine g_istore_n (lv' := [some (.ref t), some (.int (zI a0)), some (.int (zI (za s0 25 (Int.toNat a0))))]) hC dX12_address_6 (Nat.le_of_ble_eq_true rfl) rfl rfl ?_
  refine g_iload_n hC dX12_address_7 rfl ?_
  refine g_iconst (v := zI 1) hC dX12_address_8 rfl ?_
  refine zr_icmp_ne (tgt := 24) hC (hZ.ra 25 _) (by decide) dX12_address_9 (by decide) (fun c5 => ?_) (fun c5 => ?_)
  · have h6 := h4.1 c5
    refine g_iload_n hC dX12_address_24 rfl ?_
    refine g_bipush (v := zI 7) hC dX12_address_25 rfl ?_
    refine zr_icmp_ne (tgt := 45) hC (hZ.ra 25 _) (by decide) dX12_address_27 (by decide) (fun c7 => ?_) (fun c7 => ?_)
    · have h8 := h6.1 c7
      refine g_aload_n hC dX12_address_45 rfl ?_
      refine g_bipush (v := zI 9) hC dX12_address_46 rfl ?_
      refine g_iload_n hC dX12_address_48 rfl ?_
      refine g_iconst (v := zI 0) hC dX12_address_49 rfl ?_
      refine zr_callVv (As := [.int (zI 9), .int (zI a0), .int (zI 0)]) hC hZ rfl (rm_todoTask X.la d b (by decide) Ra0 (by decide) hZ.rf h8) cl_X12_801 rfl rfl (Nat.le_of_ble_eq_true rfl) ⟨Nat.le_of_ble_eq_true rfl, Nat.le_of_ble_eq_true rfl⟩ dX12_address_50 (fun s10 F11 hZ13 h14 => ?_)
      refine g_aload_n hC dX12_address_53 rfl ?_
      refine g_iconst (v := zI 1) hC dX12_address_54 rfl ?_
      refine g_aload_n hC dX12_address_55 rfl ?_
      refine zr_geta hC hZ13 fl_X12_96 zb_28 (by decide) dX12_address_56 ?_
      refine g_aload_n hC dX12_address_59 rfl ?_
      refine zr_geta hC hZ13 fl_X12_93 zb_27 (by decide) dX12_address_60 ?_
      refine g_iload_n hC dX12_address_63 rfl ?_
      obtain ⟨o15, h16⟩ := h14
      obtain ⟨o17, h18⟩ := h16
      refine zr_iald (v := (za s10 27 (Int.toNat a0))) hC hZ13 zk_27 zb_27 zn_27 (by decide) o15 o17 rfl dX12_address_64 ?_
      obtain ⟨o19, h20⟩ := h18
      obtain ⟨o21, h22⟩ := h20
      refine zr_iald (v := (za s10 28 (Int.toNat (za s10 27 (Int.toNat a0))))) hC hZ13 zk_28 zb_28 zn_28 (by decide) o19 o21 rfl dX12_address_65 ?_
      refine g_iconst (v := zI 0) hC dX12_address_66 rfl ?_
      refine zr_callVv (As := [.int (zI 1), .int (zI (za s10 28 (Int.toNat (za s10 27 (Int.toNat a0))))), .int (zI 0)]) hC hZ13 rfl (rm_todoTask X.la d b (by decide) (hZ13.ra 28 _) (by decide) hZ13.rf h22) cl_X12_801 rfl rfl (Nat.le_of_ble_eq_true rfl) ⟨Nat.le_of_ble_eq_true rfl, Nat.le_of_ble_eq_true rfl⟩ dX12_address_67 (fun s24 F25 hZ27 h28 => ?_)
      refine g_aload_n hC dX12_address_70 rfl ?_
      refine g_iconst (v := zI 1) hC dX12_address_71 rfl ?_
      refine g_aload_n hC dX12_address_72 rfl ?_
      refine zr_geta hC hZ27 fl_X12_93 zb_27 (by decide) dX12_address_73 ?_
      refine g_iload_n hC dX12_address_76 rfl ?_
      obtain ⟨o29, h30⟩ := h28
      obtain ⟨o31, h32⟩ := h30
      refine zr_iald (v := (za s24 27 (Int.toNat a0))) hC hZ27 zk_27 zb_27 zn_27 (by decide) o29 o31 rfl dX12_address_77 ?_
      refine g_iconst (v := zI 0) hC dX12_address_78 rfl ?_
      refine zr_callVv (As := [.int (zI 1), .int (zI (za s24 27 (Int.toNat a0))), .int (zI 0)]) hC hZ27 rfl (rm_todoTask X.la d b (by decide) (hZ27.ra 27 _) (by decide) hZ27.rf h32) cl_X12_801 rfl rfl (Nat.le_of_ble_eq_true rfl) ⟨Nat.le_of_ble_eq_true rfl, Nat.le_of_ble_eq_true rfl⟩ dX12_address_79 (fun s34 F35 hZ37 h38 => ?_)
      exact zr_vret hC hZ37 h38 dX12_address_82
    · have h39 := h6.2 c7
      refine g_aload_n hC dX12_address_30 rfl ?_
      refine g_iconst (v := zI 1) hC dX12_address_31 rfl ?_
      refine g_aload_n hC dX12_address_32 rfl ?_
      refine zr_geta hC hZ fl_X12_93 zb_27 (by decide) dX12_address_33 ?_
      refine g_iload_n hC dX12_address_36 rfl ?_
      obtain ⟨o40, h41⟩ := h39
      obtain ⟨o42, h43⟩ := h41
      refine zr_iald (v := (za s0 27 (Int.toNat a0))) hC hZ zk_27 zb_27 zn_27 (by decide) o40 o42 rfl dX12_address_37 ?_
      refine g_iconst (v := zI 0) hC dX12_address_38 rfl ?_
      refine zr_callVv (As := [.int (zI 1), .int (zI (za s0 27 (Int.toNat a0))), .int (zI 0)]) hC hZ rfl (rm_todoTask X.la d b (by decide) (hZ.ra 27 _) (by decide) hZ.rf h43) cl_X12_801 rfl rfl (Nat.le_of_ble_eq_true rfl) ⟨Nat.le_of_ble_eq_true rfl, Nat.le_of_ble_eq_true rfl⟩ dX12_address_39 (fun s45 F46 hZ48 h49 => ?_)
      refine g_goto (tgt := 82) hC dX12_address_42 (by decide) ?_
      exact zr_vret hC hZ48 h49 dX12_address_82
  · have h50 := h4.2 c5
    refine g_aload_n hC dX12_address_12 rfl ?_
    refine g_aload_n hC dX12_address_13 rfl ?_
    refine g_iload_n hC dX12_address_14 rfl ?_
    refine zr_callVi (As := [.int (zI a0)]) hC hZ rfl (rm_wordOf X.la d b Ra0 hZ.rf h50) cl_X12_798 rfl rfl (Nat.le_of_ble_eq_true rfl) ⟨Nat.le_of_ble_eq_true rfl, Nat.le_of_ble_eq_true rfl⟩ dX12_address_15 (fun r51 s52 F53 R54 hZ55 h56 => ?_)
    refine zr_callVv (As := [.int (zI r51)]) hC hZ55 rfl (rm_push X.la d b R54 hZ55.rf h56) cl_X12_795 rfl rfl (Nat.le_of_ble_eq_true rfl) ⟨Nat.le_of_ble_eq_true rfl, Nat.le_of_ble_eq_true rfl⟩ dX12_address_18 (fun s58 F59 hZ61 h62 => ?_)
    refine g_goto (tgt := 82) hC dX12_address_21 (by decide) ?_
    exact zr_vret hC hZ61 h62 dX12_address_82
theorem dX12_turnTodo_0 : decode cX12_turnTodo 0 = .ok (.iload_n 1, 1) := by decide +kernel
theorem dX12_turnTodo_1 : decode cX12_turnTodo 1 = .ok (.istore_n 2, 1) := by decide +kernel
theorem dX12_turnTodo_2 : decode cX12_turnTodo 2 = .ok (.aload_n 0, 1) := by decide +kernel
theorem dX12_turnTodo_3 : decode cX12_turnTodo 3 = .ok (.getfield 276, 3) := by decide +kernel
theorem dX12_turnTodo_6 : decode cX12_turnTodo 6 = .ok (.iconst 1, 1) := by decide +kernel
theorem dX12_turnTodo_7 : decode cX12_turnTodo 7 = .ok (.isub, 1) := by decide +kernel
theorem dX12_turnTodo_8 : decode cX12_turnTodo 8 = .ok (.istore_n 3, 1) := by decide +kernel
theorem dX12_turnTodo_9 : decode cX12_turnTodo 9 = .ok (.iload_n 2, 1) := by decide +kernel
theorem dX12_turnTodo_10 : decode cX12_turnTodo 10 = .ok (.iload_n 3, 1) := by decide +kernel
theorem dX12_turnTodo_11 : decode cX12_turnTodo 11 = .ok (.if_icmp .ge 96, 3) := by decide +kernel
theorem dX12_turnTodo_14 : decode cX12_turnTodo 14 = .ok (.aload_n 0, 1) := by decide +kernel
theorem dX12_turnTodo_15 : decode cX12_turnTodo 15 = .ok (.getfield 280, 3) := by decide +kernel
theorem dX12_turnTodo_18 : decode cX12_turnTodo 18 = .ok (.iload_n 2, 1) := by decide +kernel
theorem dX12_turnTodo_19 : decode cX12_turnTodo 19 = .ok (.iaload, 1) := by decide +kernel
theorem dX12_turnTodo_20 : decode cX12_turnTodo 20 = .ok (.istore 4, 2) := by decide +kernel
theorem dX12_turnTodo_22 : decode cX12_turnTodo 22 = .ok (.aload_n 0, 1) := by decide +kernel
theorem dX12_turnTodo_23 : decode cX12_turnTodo 23 = .ok (.getfield 283, 3) := by decide +kernel
theorem dX12_turnTodo_26 : decode cX12_turnTodo 26 = .ok (.iload_n 2, 1) := by decide +kernel
theorem dX12_turnTodo_27 : decode cX12_turnTodo 27 = .ok (.iaload, 1) := by decide +kernel
theorem dX12_turnTodo_28 : decode cX12_turnTodo 28 = .ok (.istore 5, 2) := by decide +kernel
theorem dX12_turnTodo_30 : decode cX12_turnTodo 30 = .ok (.aload_n 0, 1) := by decide +kernel
theorem dX12_turnTodo_31 : decode cX12_turnTodo 31 = .ok (.getfield 286, 3) := by decide +kernel
theorem dX12_turnTodo_34 : decode cX12_turnTodo 34 = .ok (.iload_n 2, 1) := by decide +kernel
theorem dX12_turnTodo_35 : decode cX12_turnTodo 35 = .ok (.iaload, 1) := by decide +kernel
theorem dX12_turnTodo_36 : decode cX12_turnTodo 36 = .ok (.istore 6, 2) := by decide +kernel
theorem dX12_turnTodo_38 : decode cX12_turnTodo 38 = .ok (.aload_n 0, 1) := by decide +kernel
theorem dX12_turnTodo_39 : decode cX12_turnTodo 39 = .ok (.getfield 280, 3) := by decide +kernel
theorem dX12_turnTodo_42 : decode cX12_turnTodo 42 = .ok (.iload_n 2, 1) := by decide +kernel
theorem dX12_turnTodo_43 : decode cX12_turnTodo 43 = .ok (.aload_n 0, 1) := by decide +kernel
theorem dX12_turnTodo_44 : decode cX12_turnTodo 44 = .ok (.getfield 280, 3) := by decide +kernel
theorem dX12_turnTodo_47 : decode cX12_turnTodo 47 = .ok (.iload_n 3, 1) := by decide +kernel
theorem dX12_turnTodo_48 : decode cX12_turnTodo 48 = .ok (.iaload, 1) := by decide +kernel
theorem dX12_turnTodo_49 : decode cX12_turnTodo 49 = .ok (.iastore, 1) := by decide +kernel
theorem dX12_turnTodo_50 : decode cX12_turnTodo 50 = .ok (.aload_n 0, 1) := by decide +kernel
theorem dX12_turnTodo_51 : decode cX12_turnTodo 51 = .ok (.getfield 283, 3) := by decide +kernel
theorem dX12_turnTodo_54 : decode cX12_turnTodo 54 = .ok (.iload_n 2, 1) := by decide +kernel
theorem dX12_turnTodo_55 : decode cX12_turnTodo 55 = .ok (.aload_n 0, 1) := by decide +kernel
theorem dX12_turnTodo_56 : decode cX12_turnTodo 56 = .ok (.getfield 283, 3) := by decide +kernel
theorem dX12_turnTodo_59 : decode cX12_turnTodo 59 = .ok (.iload_n 3, 1) := by decide +kernel
theorem dX12_turnTodo_60 : decode cX12_turnTodo 60 = .ok (.iaload, 1) := by decide +kernel
theorem dX12_turnTodo_61 : decode cX12_turnTodo 61 = .ok (.iastore, 1) := by decide +kernel
theorem dX12_turnTodo_62 : decode cX12_turnTodo 62 = .ok (.aload_n 0, 1) := by decide +kernel
theorem dX12_turnTodo_63 : decode cX12_turnTodo 63 = .ok (.getfield 286, 3) := by decide +kernel
theorem dX12_turnTodo_66 : decode cX12_turnTodo 66 = .ok (.iload_n 2, 1) := by decide +kernel
theorem dX12_turnTodo_67 : decode cX12_turnTodo 67 = .ok (.aload_n 0, 1) := by decide +kernel
theorem dX12_turnTodo_68 : decode cX12_turnTodo 68 = .ok (.getfield 286, 3) := by decide +kernel
theorem dX12_turnTodo_71 : decode cX12_turnTodo 71 = .ok (.iload_n 3, 1) := by decide +kernel
theorem dX12_turnTodo_72 : decode cX12_turnTodo 72 = .ok (.iaload, 1) := by decide +kernel
theorem dX12_turnTodo_73 : decode cX12_turnTodo 73 = .ok (.iastore, 1) := by decide +kernel
theorem dX12_turnTodo_74 : decode cX12_turnTodo 74 = .ok (.aload_n 0, 1) := by decide +kernel
theorem dX12_turnTodo_75 : decode cX12_turnTodo 75 = .ok (.getfield 280, 3) := by decide +kernel
theorem dX12_turnTodo_78 : decode cX12_turnTodo 78 = .ok (.iload_n 3, 1) := by decide +kernel
theorem dX12_turnTodo_79 : decode cX12_turnTodo 79 = .ok (.iload 4, 2) := by decide +kernel
theorem dX12_turnTodo_81 : decode cX12_turnTodo 81 = .ok (.iastore, 1) := by decide +kernel
theorem dX12_turnTodo_82 : decode cX12_turnTodo 82 = .ok (.aload_n 0, 1) := by decide +kernel
theorem dX12_turnTodo_83 : decode cX12_turnTodo 83 = .ok (.getfield 283, 3) := by decide +kernel
theorem dX12_turnTodo_86 : decode cX12_turnTodo 86 = .ok (.iload_n 3, 1) := by decide +kernel
theorem dX12_turnTodo_87 : decode cX12_turnTodo 87 = .ok (.iload 5, 2) := by decide +kernel
theorem dX12_turnTodo_89 : decode cX12_turnTodo 89 = .ok (.iastore, 1) := by decide +kernel
theorem dX12_turnTodo_90 : decode cX12_turnTodo 90 = .ok (.aload_n 0, 1) := by decide +kernel
theorem dX12_turnTodo_91 : decode cX12_turnTodo 91 = .ok (.getfield 286, 3) := by decide +kernel
theorem dX12_turnTodo_94 : decode cX12_turnTodo 94 = .ok (.iload_n 3, 1) := by decide +kernel
theorem dX12_turnTodo_95 : decode cX12_turnTodo 95 = .ok (.iload 6, 2) := by decide +kernel
theorem dX12_turnTodo_97 : decode cX12_turnTodo 97 = .ok (.iastore, 1) := by decide +kernel
theorem dX12_turnTodo_98 : decode cX12_turnTodo 98 = .ok (.iinc 2 1, 3) := by decide +kernel
theorem dX12_turnTodo_101 : decode cX12_turnTodo 101 = .ok (.iinc 3 (-1), 3) := by decide +kernel
theorem dX12_turnTodo_104 : decode cX12_turnTodo 104 = .ok (.goto (-95), 3) := by decide +kernel
theorem dX12_turnTodo_107 : decode cX12_turnTodo 107 = .ok (.return_, 1) := by decide +kernel
def wr_turnTodo_9B (Q : zS → Prop) (k9 : zS → Int → Int → Prop) (s0 : zS) (x2 : Int) (x3 : Int) : Prop :=
  ((x3 ≤ x2 → Q s0) ∧ (¬ x3 ≤ x2 → (0 ≤ x2) ∧ (x2 < 620000) ∧ (0 ≤ x2) ∧ (x2 < 620000) ∧ (0 ≤ x2) ∧ (x2 < 620000) ∧ (0 ≤ x3) ∧ (x3 < 620000) ∧ (0 ≤ x2) ∧ (x2 < 620000) ∧ (0 ≤ x3) ∧ (x3 < 620000) ∧ (0 ≤ x2) ∧ (x2 < 620000) ∧ (0 ≤ x3) ∧ (x3 < 620000) ∧ (0 ≤ x2) ∧ (x2 < 620000) ∧ (0 ≤ x3) ∧ (x3 < 620000) ∧ (0 ≤ x3) ∧ (x3 < 620000) ∧ (0 ≤ x3) ∧ (x3 < 620000) ∧ (zR (x2 + 1)) ∧ (zR (x3 + (-1))) ∧ k9 (zpa (zpa (zpa (zpa (zpa (zpa s0 88 (Int.toNat x2) (za s0 88 (Int.toNat x3))) 89 (Int.toNat x2) (za s0 89 (Int.toNat x3))) 90 (Int.toNat x2) (za s0 90 (Int.toNat x3))) 88 (Int.toNat x3) (za s0 88 (Int.toNat x2))) 89 (Int.toNat x3) (za s0 89 (Int.toNat x2))) 90 (Int.toNat x3) (za s0 90 (Int.toNat x2))) (x2 + 1) (x3 + (-1))))
def wr_turnTodo_9 (Q : zS → Prop)  : Nat → zS → Int → Int → Prop
  | 0 => fun _ _ _ => False
  | m + 1 => fun s0 x2 x3 => wr_turnTodo_9B Q  (wr_turnTodo_9 Q  m) s0 x2 x3
def wr_turnTodo (s0 : zS) (a0 : Int) (Q : zS → Prop) : Prop :=
  (zR ((zv s0 87) - 1)) ∧ ∃ n, wr_turnTodo_9 Q  n s0 a0 ((zv s0 87) - 1)
set_option maxHeartbeats 4000000 in
set_option maxRecDepth 100000 in
theorem rb_turnTodo_9 {X : gX} {d : gD} {b t : Nat} {T : Nat → Nat} {F0 : gM} (hC : gC RX12 cX12_turnTodo 7 none "turnTodo" (gR 0 0 0) d b X) {Q : zS → Prop} {k9 : zS → Int → Int → Prop} (hk9 : ∀ (F : gM) (s0 : zS) (x2 : Int) (x3 : Int), zR x2 → zR x3 → zZ d t T F0 F s0 → k9 s0 x2 x3 → gG X d b (zQv X d b t T F0 Q) F 0 0 9 [some (.ref t), none, some (.int (zI x2)), some (.int (zI x3)), none, none, none] []) {F : gM} {s0 : zS} {x2 : Int} {x3 : Int} (Rx2 : zR x2) (Rx3 : zR x3) (hZ : zZ d t T F0 F s0) (hw : wr_turnTodo_9B Q k9 s0 x2 x3) : gG X d b (zQv X d b t T F0 Q) F 0 0 9 [some (.ref t), none, some (.int (zI x2)), some (.int (zI x3)), none, none, none] [] := by
  unfold wr_turnTodo_9B at hw
  refine g_iload_n hC dX12_turnTodo_9 rfl ?_
  refine g_iload_n hC dX12_turnTodo_10 rfl ?_
  refine zr_icmp_ge (tgt := 107) hC Rx2 Rx3 dX12_turnTodo_11 (by decide) (fun c1 => ?_) (fun c1 => ?_)
  · have h2 := hw.1 c1
    exact zr_vret hC hZ h2 dX12_turnTodo_107
  · have h3 := hw.2 c1
    refine g_aload_n hC dX12_turnTodo_14 rfl ?_
    refine zr_geta hC hZ fl_X12_280 zb_88 (by decide) dX12_turnTodo_15 ?_
    refine g_iload_n hC dX12_turnTodo_18 rfl ?_
    obtain ⟨o4, h5⟩ := h3
    obtain ⟨o6, h7⟩ := h5
    refine zr_iald (v := (za s0 88 (Int.toNat x2))) hC hZ zk_88 zb_88 zn_88 (by decide) o4 o6 rfl dX12_turnTodo_19 ?_
    refine g_istore (lv' := [some (.ref t), none, some (.int (zI x2)), some (.int (zI x3)), some (.int (zI (za s0 88 (Int.toNat x2)))), none, none]) hC dX12_turnTodo_20 (Nat.le_of_ble_eq_true rfl) rfl rfl ?_
    refine g_aload_n hC dX12_turnTodo_22 rfl ?_
    refine zr_geta hC hZ fl_X12_283 zb_89 (by decide) dX12_turnTodo_23 ?_
    refine g_iload_n hC dX12_turnTodo_26 rfl ?_
    obtain ⟨o8, h9⟩ := h7
    obtain ⟨o10, h11⟩ := h9
    refine zr_iald (v := (za s0 89 (Int.toNat x2))) hC hZ zk_89 zb_89 zn_89 (by decide) o8 o10 rfl dX12_turnTodo_27 ?_
    refine g_istore (lv' := [some (.ref t), none, some (.int (zI x2)), some (.int (zI x3)), some (.int (zI (za s0 88 (Int.toNat x2)))), some (.int (zI (za s0 89 (Int.toNat x2)))), none]) hC dX12_turnTodo_28 (Nat.le_of_ble_eq_true rfl) rfl rfl ?_
    refine g_aload_n hC dX12_turnTodo_30 rfl ?_
    refine zr_geta hC hZ fl_X12_286 zb_90 (by decide) dX12_turnTodo_31 ?_
    refine g_iload_n hC dX12_turnTodo_34 rfl ?_
    obtain ⟨o12, h13⟩ := h11
    obtain ⟨o14, h15⟩ := h13
    refine zr_iald (v := (za s0 90 (Int.toNat x2))) hC hZ zk_90 zb_90 zn_90 (by decide) o12 o14 rfl dX12_turnTodo_35 ?_
    refine g_istore (lv' := [some (.ref t), none, some (.int (zI x2)), some (.int (zI x3)), some (.int (zI (za s0 88 (Int.toNat x2)))), some (.int (zI (za s0 89 (Int.toNat x2)))), some (.int (zI (za s0 90 (Int.toNat x2))))]) hC dX12_turnTodo_36 (Nat.le_of_ble_eq_true rfl) rfl rfl ?_
    refine g_aload_n hC dX12_turnTodo_38 rfl ?_
    refine zr_geta hC hZ fl_X12_280 zb_88 (by decide) dX12_turnTodo_39 ?_
    refine g_iload_n hC dX12_turnTodo_42 rfl ?_
    refine g_aload_n hC dX12_turnTodo_43 rfl ?_
    refine zr_geta hC hZ fl_X12_280 zb_88 (by decide) dX12_turnTodo_44 ?_
    refine g_iload_n hC dX12_turnTodo_47 rfl ?_
    obtain ⟨o16, h17⟩ := h15
    obtain ⟨o18, h19⟩ := h17
    refine zr_iald (v := (za s0 88 (Int.toNat x3))) hC hZ zk_88 zb_88 zn_88 (by decide) o16 o18 rfl dX12_turnTodo_48 ?_
    obtain ⟨o20, h21⟩ := h19
    obtain ⟨o22, h23⟩ := h21
    refine zr_iast hC hZ zk_88 zb_88 zn_88 (by decide) o20 o22 (hZ.ra 88 _) dX12_turnTodo_49 (fun F24 hZ25 => ?_)
    refine g_aload_n hC dX12_turnTodo_50 rfl ?_
    refine zr_geta hC hZ25 fl_X12_283 zb_89 (by decide) dX12_turnTodo_51 ?_
    refine g_iload_n hC dX12_turnTodo_54 rfl ?_
    refine g_aload_n hC dX12_turnTodo_55 rfl ?_
    refine zr_geta hC hZ25 fl_X12_283 zb_89 (by decide) dX12_turnTodo_56 ?_
    refine g_iload_n hC dX12_turnTodo_59 rfl ?_
    obtain ⟨o26, h27⟩ := h23
    obtain ⟨o28, h29⟩ := h27
    refine zr_iald (v := (za s0 89 (Int.toNat x3))) hC hZ25 zk_89 zb_89 zn_89 (by decide) o26 o28 rfl dX12_turnTodo_60 ?_
    obtain ⟨o30, h31⟩ := h29
    obtain ⟨o32, h33⟩ := h31
    refine zr_iast hC hZ25 zk_89 zb_89 zn_89 (by decide) o30 o32 (hZ.ra 89 _) dX12_turnTodo_61 (fun F34 hZ35 => ?_)
    refine g_aload_n hC dX12_turnTodo_62 rfl ?_
    refine zr_geta hC hZ35 fl_X12_286 zb_90 (by decide) dX12_turnTodo_63 ?_
    refine g_iload_n hC dX12_turnTodo_66 rfl ?_
    refine g_aload_n hC dX12_turnTodo_67 rfl ?_
    refine zr_geta hC hZ35 fl_X12_286 zb_90 (by decide) dX12_turnTodo_68 ?_
    refine g_iload_n hC dX12_turnTodo_71 rfl ?_
    obtain ⟨o36, h37⟩ := h33
    obtain ⟨o38, h39⟩ := h37
    refine zr_iald (v := (za s0 90 (Int.toNat x3))) hC hZ35 zk_90 zb_90 zn_90 (by decide) o36 o38 rfl dX12_turnTodo_72 ?_
    obtain ⟨o40, h41⟩ := h39
    obtain ⟨o42, h43⟩ := h41
    refine zr_iast hC hZ35 zk_90 zb_90 zn_90 (by decide) o40 o42 (hZ.ra 90 _) dX12_turnTodo_73 (fun F44 hZ45 => ?_)
    refine g_aload_n hC dX12_turnTodo_74 rfl ?_
    refine zr_geta hC hZ45 fl_X12_280 zb_88 (by decide) dX12_turnTodo_75 ?_
    refine g_iload_n hC dX12_turnTodo_78 rfl ?_
    refine g_iload hC dX12_turnTodo_79 rfl ?_
    obtain ⟨o46, h47⟩ := h43
    obtain ⟨o48, h49⟩ := h47
    refine zr_iast hC hZ45 zk_88 zb_88 zn_88 (by decide) o46 o48 (hZ.ra 88 _) dX12_turnTodo_81 (fun F50 hZ51 => ?_)
    refine g_aload_n hC dX12_turnTodo_82 rfl ?_
    refine zr_geta hC hZ51 fl_X12_283 zb_89 (by decide) dX12_turnTodo_83 ?_
    refine g_iload_n hC dX12_turnTodo_86 rfl ?_
    refine g_iload hC dX12_turnTodo_87 rfl ?_
    obtain ⟨o52, h53⟩ := h49
    obtain ⟨o54, h55⟩ := h53
    refine zr_iast hC hZ51 zk_89 zb_89 zn_89 (by decide) o52 o54 (hZ.ra 89 _) dX12_turnTodo_89 (fun F56 hZ57 => ?_)
    refine g_aload_n hC dX12_turnTodo_90 rfl ?_
    refine zr_geta hC hZ57 fl_X12_286 zb_90 (by decide) dX12_turnTodo_91 ?_
    refine g_iload_n hC dX12_turnTodo_94 rfl ?_
    refine g_iload hC dX12_turnTodo_95 rfl ?_
    obtain ⟨o58, h59⟩ := h55
    obtain ⟨o60, h61⟩ := h59
    refine zr_iast hC hZ57 zk_90 zb_90 zn_90 (by decide) o58 o60 (hZ.ra 90 _) dX12_turnTodo_97 (fun F62 hZ63 => ?_)
    refine zr_iinc (x := x2) (lv' := [some (.ref t), none, some (.int (zI (x2 + 1))), some (.int (zI x3)), some (.int (zI (za s0 88 (Int.toNat x2)))), some (.int (zI (za s0 89 (Int.toNat x2)))), some (.int (zI (za s0 90 (Int.toNat x2))))]) hC dX12_turnTodo_98 rfl rfl rfl ?_
    refine zr_iinc (x := x3) (lv' := [some (.ref t), none, some (.int (zI (x2 + 1))), some (.int (zI (x3 + (-1)))), some (.int (zI (za s0 88 (Int.toNat x2)))), some (.int (zI (za s0 89 (Int.toNat x2)))), some (.int (zI (za s0 90 (Int.toNat x2))))]) hC dX12_turnTodo_101 rfl rfl rfl ?_
    refine g_goto (tgt := 9) hC dX12_turnTodo_104 (by decide) ?_
    obtain ⟨o64, h65⟩ := h61
    obtain ⟨o66, h67⟩ := h65
    refine g_lv (lv' := [some (.ref t), none, some (.int (zI (x2 + 1))), some (.int (zI (x3 + (-1)))), none, none, none]) ⟨rfl, rfl, rfl, trivial⟩ ?_
    exact hk9 _ _ _ _ o64 o66 hZ63 h67
theorem rl_turnTodo_9 {X : gX} {d : gD} {b t : Nat} {T : Nat → Nat} {F0 : gM} (hC : gC RX12 cX12_turnTodo 7 none "turnTodo" (gR 0 0 0) d b X) {Q : zS → Prop}   : ∀ (m : Nat) (F : gM) (s0 : zS) (x2 : Int) (x3 : Int), zR x2 → zR x3 → zZ d t T F0 F s0 → wr_turnTodo_9 Q  m s0 x2 x3 → gG X d b (zQv X d b t T F0 Q) F 0 0 9 [some (.ref t), none, some (.int (zI x2)), some (.int (zI x3)), none, none, none] [] := by
  intro m
  induction m with
  | zero => intro F s0 x2 x3 Rx2 Rx3 hZ hw; exact False.elim hw
  | succ m ih => intro F s0 x2 x3 Rx2 Rx3 hZ hw; exact rb_turnTodo_9 hC  ih Rx2 Rx3 hZ hw
set_option maxHeartbeats 4000000 in
set_option maxRecDepth 100000 in
theorem rm_turnTodo (l : Launch) (d : gD) (b : Nat) {t : Nat} {T : Nat → Nat} {F : gM} {s0 : zS} {a0 : Int} (Ra0 : zR a0) {Q : zS → Prop} (hZ : zZ d t T F F s0) (hw : wr_turnTodo s0 a0 Q) : gMv l d b yX12_turnTodo cX12_turnTodo 7 0 0 0 F [.ref t, .int (zI a0)] (zPv d t T F Q) := by
  refine gM_of2 rfl (nL := 7) (Nat.le_of_ble_eq_true rfl) ?_
  intro X hX hC; subst hX
  show gG X d b (zQv X d b t T F Q) F 0 0 0 [some (.ref t), some (.int (zI a0)), none, none, none, none, none] []
  unfold wr_turnTodo at hw
  refine g_iload_n hC dX12_turnTodo_0 rfl ?_
  refine g_istore_n (lv' := [some (.ref t), some (.int (zI a0)), some (.int (zI a0)), none, none, none, none]) hC dX12_turnTodo_1 (Nat.le_of_ble_eq_true rfl) rfl rfl ?_
  refine g_aload_n hC dX12_turnTodo_2 rfl ?_
  refine zr_get (e := (zv s0 87)) hC hZ fl_X12_276 zb_87 (by decide) rfl dX12_turnTodo_3 ?_
  refine g_iconst (v := zI 1) hC dX12_turnTodo_6 rfl ?_
  refine zr_isub hC dX12_turnTodo_7 ?_
  refine g_istore_n (lv' := [some (.ref t), some (.int (zI a0)), some (.int (zI a0)), some (.int (zI ((zv s0 87) - 1))), none, none, none]) hC dX12_turnTodo_8 (Nat.le_of_ble_eq_true rfl) rfl rfl ?_
  obtain ⟨o1, h2⟩ := hw
  refine g_lv (lv' := [some (.ref t), none, some (.int (zI a0)), some (.int (zI ((zv s0 87) - 1))), none, none, none]) ⟨rfl, rfl, rfl, trivial⟩ ?_
  obtain ⟨m3, h4⟩ := h2
  exact rl_turnTodo_9 hC  m3 _ _ _ _ Ra0 o1 hZ h4
theorem dX12_evaluate_0 : decode cX12_evaluate 0 = .ok (.aload_n 0, 1) := by decide +kernel
theorem dX12_evaluate_1 : decode cX12_evaluate 1 = .ok (.getfield 87, 3) := by decide +kernel
theorem dX12_evaluate_4 : decode cX12_evaluate 4 = .ok (.iload_n 1, 1) := by decide +kernel
theorem dX12_evaluate_5 : decode cX12_evaluate 5 = .ok (.baload, 1) := by decide +kernel
theorem dX12_evaluate_6 : decode cX12_evaluate 6 = .ok (.istore_n 2, 1) := by decide +kernel
theorem dX12_evaluate_7 : decode cX12_evaluate 7 = .ok (.iload_n 2, 1) := by decide +kernel
theorem dX12_evaluate_8 : decode cX12_evaluate 8 = .ok (.iconst 2, 1) := by decide +kernel
theorem dX12_evaluate_9 : decode cX12_evaluate 9 = .ok (.if_icmp .ne 16, 3) := by decide +kernel
theorem dX12_evaluate_12 : decode cX12_evaluate 12 = .ok (.aload_n 0, 1) := by decide +kernel
theorem dX12_evaluate_13 : decode cX12_evaluate 13 = .ok (.aload_n 0, 1) := by decide +kernel
theorem dX12_evaluate_14 : decode cX12_evaluate 14 = .ok (.getfield 99, 3) := by decide +kernel
theorem dX12_evaluate_17 : decode cX12_evaluate 17 = .ok (.iload_n 1, 1) := by decide +kernel
theorem dX12_evaluate_18 : decode cX12_evaluate 18 = .ok (.iaload, 1) := by decide +kernel
theorem dX12_evaluate_19 : decode cX12_evaluate 19 = .ok (.invokevirtual 795, 3) := by decide +kernel
theorem dX12_evaluate_22 : decode cX12_evaluate 22 = .ok (.goto 335, 3) := by decide +kernel
theorem dX12_evaluate_25 : decode cX12_evaluate 25 = .ok (.iload_n 2, 1) := by decide +kernel
theorem dX12_evaluate_26 : decode cX12_evaluate 26 = .ok (.iconst 3, 1) := by decide +kernel
theorem dX12_evaluate_27 : decode cX12_evaluate 27 = .ok (.if_icmp .eq 8, 3) := by decide +kernel
theorem dX12_evaluate_30 : decode cX12_evaluate 30 = .ok (.iload_n 2, 1) := by decide +kernel
theorem dX12_evaluate_31 : decode cX12_evaluate 31 = .ok (.iconst 5, 1) := by decide +kernel
theorem dX12_evaluate_32 : decode cX12_evaluate 32 = .ok (.if_icmp .ne 16, 3) := by decide +kernel
theorem dX12_evaluate_35 : decode cX12_evaluate 35 = .ok (.aload_n 0, 1) := by decide +kernel
theorem dX12_evaluate_36 : decode cX12_evaluate 36 = .ok (.aload_n 0, 1) := by decide +kernel
theorem dX12_evaluate_37 : decode cX12_evaluate 37 = .ok (.getfield 105, 3) := by decide +kernel
theorem dX12_evaluate_40 : decode cX12_evaluate 40 = .ok (.iload_n 1, 1) := by decide +kernel
theorem dX12_evaluate_41 : decode cX12_evaluate 41 = .ok (.iaload, 1) := by decide +kernel
theorem dX12_evaluate_42 : decode cX12_evaluate 42 = .ok (.invokevirtual 795, 3) := by decide +kernel
theorem dX12_evaluate_45 : decode cX12_evaluate 45 = .ok (.goto 312, 3) := by decide +kernel
theorem dX12_evaluate_48 : decode cX12_evaluate 48 = .ok (.iload_n 2, 1) := by decide +kernel
theorem dX12_evaluate_49 : decode cX12_evaluate 49 = .ok (.iconst 1, 1) := by decide +kernel
theorem dX12_evaluate_50 : decode cX12_evaluate 50 = .ok (.if_icmp .ne 35, 3) := by decide +kernel
theorem dX12_evaluate_53 : decode cX12_evaluate 53 = .ok (.aload_n 0, 1) := by decide +kernel
theorem dX12_evaluate_54 : decode cX12_evaluate 54 = .ok (.iload_n 1, 1) := by decide +kernel
theorem dX12_evaluate_55 : decode cX12_evaluate 55 = .ok (.invokevirtual 798, 3) := by decide +kernel
theorem dX12_evaluate_58 : decode cX12_evaluate 58 = .ok (.istore_n 3, 1) := by decide +kernel
theorem dX12_evaluate_59 : decode cX12_evaluate 59 = .ok (.aload_n 0, 1) := by decide +kernel
theorem dX12_evaluate_60 : decode cX12_evaluate 60 = .ok (.iload_n 3, 1) := by decide +kernel
theorem dX12_evaluate_61 : decode cX12_evaluate 61 = .ok (.ifCond .ge 12, 3) := by decide +kernel
theorem dX12_evaluate_64 : decode cX12_evaluate 64 = .ok (.aload_n 0, 1) := by decide +kernel
theorem dX12_evaluate_65 : decode cX12_evaluate 65 = .ok (.getfield 105, 3) := by decide +kernel
theorem dX12_evaluate_68 : decode cX12_evaluate 68 = .ok (.iload_n 1, 1) := by decide +kernel
theorem dX12_evaluate_69 : decode cX12_evaluate 69 = .ok (.iaload, 1) := by decide +kernel
theorem dX12_evaluate_70 : decode cX12_evaluate 70 = .ok (.goto 9, 3) := by decide +kernel
theorem dX12_evaluate_73 : decode cX12_evaluate 73 = .ok (.aload_n 0, 1) := by decide +kernel
theorem dX12_evaluate_74 : decode cX12_evaluate 74 = .ok (.getfield 312, 3) := by decide +kernel
theorem dX12_evaluate_77 : decode cX12_evaluate 77 = .ok (.iload_n 3, 1) := by decide +kernel
theorem dX12_evaluate_78 : decode cX12_evaluate 78 = .ok (.iaload, 1) := by decide +kernel
theorem dX12_evaluate_79 : decode cX12_evaluate 79 = .ok (.invokevirtual 795, 3) := by decide +kernel
theorem dX12_evaluate_82 : decode cX12_evaluate 82 = .ok (.goto 275, 3) := by decide +kernel
theorem dX12_evaluate_85 : decode cX12_evaluate 85 = .ok (.iload_n 2, 1) := by decide +kernel
theorem dX12_evaluate_86 : decode cX12_evaluate 86 = .ok (.iconst 4, 1) := by decide +kernel
theorem dX12_evaluate_87 : decode cX12_evaluate 87 = .ok (.if_icmp .ne 30, 3) := by decide +kernel
theorem dX12_evaluate_90 : decode cX12_evaluate 90 = .ok (.aload_n 0, 1) := by decide +kernel
theorem dX12_evaluate_91 : decode cX12_evaluate 91 = .ok (.bipush 8, 2) := by decide +kernel
theorem dX12_evaluate_93 : decode cX12_evaluate 93 = .ok (.iload_n 1, 1) := by decide +kernel
theorem dX12_evaluate_94 : decode cX12_evaluate 94 = .ok (.aload_n 0, 1) := by decide +kernel
theorem dX12_evaluate_95 : decode cX12_evaluate 95 = .ok (.getfield 289, 3) := by decide +kernel
theorem dX12_evaluate_98 : decode cX12_evaluate 98 = .ok (.invokevirtual 801, 3) := by decide +kernel
theorem dX12_evaluate_101 : decode cX12_evaluate 101 = .ok (.aload_n 0, 1) := by decide +kernel
theorem dX12_evaluate_102 : decode cX12_evaluate 102 = .ok (.bipush 10, 2) := by decide +kernel
theorem dX12_evaluate_104 : decode cX12_evaluate 104 = .ok (.aload_n 0, 1) := by decide +kernel
theorem dX12_evaluate_105 : decode cX12_evaluate 105 = .ok (.getfield 93, 3) := by decide +kernel
theorem dX12_evaluate_108 : decode cX12_evaluate 108 = .ok (.iload_n 1, 1) := by decide +kernel
theorem dX12_evaluate_109 : decode cX12_evaluate 109 = .ok (.iaload, 1) := by decide +kernel
theorem dX12_evaluate_110 : decode cX12_evaluate 110 = .ok (.iconst 0, 1) := by decide +kernel
theorem dX12_evaluate_111 : decode cX12_evaluate 111 = .ok (.invokevirtual 801, 3) := by decide +kernel
theorem dX12_evaluate_114 : decode cX12_evaluate 114 = .ok (.goto 243, 3) := by decide +kernel
theorem dX12_evaluate_117 : decode cX12_evaluate 117 = .ok (.iload_n 2, 1) := by decide +kernel
theorem dX12_evaluate_118 : decode cX12_evaluate 118 = .ok (.bipush 8, 2) := by decide +kernel
theorem dX12_evaluate_120 : decode cX12_evaluate 120 = .ok (.if_icmp .ne 16, 3) := by decide +kernel
theorem dX12_evaluate_123 : decode cX12_evaluate 123 = .ok (.aload_n 0, 1) := by decide +kernel
theorem dX12_evaluate_124 : decode cX12_evaluate 124 = .ok (.aload_n 0, 1) := by decide +kernel
theorem dX12_evaluate_125 : decode cX12_evaluate 125 = .ok (.getfield 93, 3) := by decide +kernel
theorem dX12_evaluate_128 : decode cX12_evaluate 128 = .ok (.iload_n 1, 1) := by decide +kernel
theorem dX12_evaluate_129 : decode cX12_evaluate 129 = .ok (.iaload, 1) := by decide +kernel
theorem dX12_evaluate_130 : decode cX12_evaluate 130 = .ok (.invokevirtual 804, 3) := by decide +kernel
theorem dX12_evaluate_133 : decode cX12_evaluate 133 = .ok (.goto 224, 3) := by decide +kernel
theorem dX12_evaluate_136 : decode cX12_evaluate 136 = .ok (.iload_n 2, 1) := by decide +kernel
theorem dX12_evaluate_137 : decode cX12_evaluate 137 = .ok (.bipush 12, 2) := by decide +kernel
theorem dX12_evaluate_139 : decode cX12_evaluate 139 = .ok (.if_icmp .ne 25, 3) := by decide +kernel
theorem dX12_evaluate_142 : decode cX12_evaluate 142 = .ok (.aload_n 0, 1) := by decide +kernel
theorem dX12_evaluate_143 : decode cX12_evaluate 143 = .ok (.iconst 5, 1) := by decide +kernel
theorem dX12_evaluate_144 : decode cX12_evaluate 144 = .ok (.iload_n 1, 1) := by decide +kernel
theorem dX12_evaluate_145 : decode cX12_evaluate 145 = .ok (.iconst 0, 1) := by decide +kernel
theorem dX12_evaluate_146 : decode cX12_evaluate 146 = .ok (.invokevirtual 801, 3) := by decide +kernel
theorem dX12_evaluate_149 : decode cX12_evaluate 149 = .ok (.aload_n 0, 1) := by decide +kernel
theorem dX12_evaluate_150 : decode cX12_evaluate 150 = .ok (.iconst 1, 1) := by decide +kernel
theorem dX12_evaluate_151 : decode cX12_evaluate 151 = .ok (.aload_n 0, 1) := by decide +kernel
theorem dX12_evaluate_152 : decode cX12_evaluate 152 = .ok (.getfield 93, 3) := by decide +kernel
theorem dX12_evaluate_155 : decode cX12_evaluate 155 = .ok (.iload_n 1, 1) := by decide +kernel
theorem dX12_evaluate_156 : decode cX12_evaluate 156 = .ok (.iaload, 1) := by decide +kernel
theorem dX12_evaluate_157 : decode cX12_evaluate 157 = .ok (.iconst 0, 1) := by decide +kernel
theorem dX12_evaluate_158 : decode cX12_evaluate 158 = .ok (.invokevirtual 801, 3) := by decide +kernel
theorem dX12_evaluate_161 : decode cX12_evaluate 161 = .ok (.goto 196, 3) := by decide +kernel
theorem dX12_evaluate_164 : decode cX12_evaluate 164 = .ok (.iload_n 2, 1) := by decide +kernel
theorem dX12_evaluate_165 : decode cX12_evaluate 165 = .ok (.bipush 11, 2) := by decide +kernel
theorem dX12_evaluate_167 : decode cX12_evaluate 167 = .ok (.if_icmp .ne 36, 3) := by decide +kernel
theorem dX12_evaluate_170 : decode cX12_evaluate 170 = .ok (.aload_n 0, 1) := by decide +kernel
theorem dX12_evaluate_171 : decode cX12_evaluate 171 = .ok (.bipush 6, 2) := by decide +kernel
theorem dX12_evaluate_173 : decode cX12_evaluate 173 = .ok (.aload_n 0, 1) := by decide +kernel
theorem dX12_evaluate_174 : decode cX12_evaluate 174 = .ok (.getfield 96, 3) := by decide +kernel
theorem dX12_evaluate_177 : decode cX12_evaluate 177 = .ok (.aload_n 0, 1) := by decide +kernel
theorem dX12_evaluate_178 : decode cX12_evaluate 178 = .ok (.getfield 93, 3) := by decide +kernel
theorem dX12_evaluate_181 : decode cX12_evaluate 181 = .ok (.iload_n 1, 1) := by decide +kernel
theorem dX12_evaluate_182 : decode cX12_evaluate 182 = .ok (.iaload, 1) := by decide +kernel
theorem dX12_evaluate_183 : decode cX12_evaluate 183 = .ok (.iaload, 1) := by decide +kernel
theorem dX12_evaluate_184 : decode cX12_evaluate 184 = .ok (.iconst 0, 1) := by decide +kernel
theorem dX12_evaluate_185 : decode cX12_evaluate 185 = .ok (.invokevirtual 801, 3) := by decide +kernel
theorem dX12_evaluate_188 : decode cX12_evaluate 188 = .ok (.aload_n 0, 1) := by decide +kernel
theorem dX12_evaluate_189 : decode cX12_evaluate 189 = .ok (.iconst 1, 1) := by decide +kernel
theorem dX12_evaluate_190 : decode cX12_evaluate 190 = .ok (.aload_n 0, 1) := by decide +kernel
theorem dX12_evaluate_191 : decode cX12_evaluate 191 = .ok (.getfield 93, 3) := by decide +kernel
theorem dX12_evaluate_194 : decode cX12_evaluate 194 = .ok (.iload_n 1, 1) := by decide +kernel
theorem dX12_evaluate_195 : decode cX12_evaluate 195 = .ok (.iaload, 1) := by decide +kernel
theorem dX12_evaluate_196 : decode cX12_evaluate 196 = .ok (.iconst 0, 1) := by decide +kernel
theorem dX12_evaluate_197 : decode cX12_evaluate 197 = .ok (.invokevirtual 801, 3) := by decide +kernel
theorem dX12_evaluate_200 : decode cX12_evaluate 200 = .ok (.goto 157, 3) := by decide +kernel
theorem dX12_evaluate_203 : decode cX12_evaluate 203 = .ok (.iload_n 2, 1) := by decide +kernel
theorem dX12_evaluate_204 : decode cX12_evaluate 204 = .ok (.bipush 6, 2) := by decide +kernel
theorem dX12_evaluate_206 : decode cX12_evaluate 206 = .ok (.if_icmp .ne 81, 3) := by decide +kernel
theorem dX12_evaluate_209 : decode cX12_evaluate 209 = .ok (.aload_n 0, 1) := by decide +kernel
theorem dX12_evaluate_210 : decode cX12_evaluate 210 = .ok (.getfield 276, 3) := by decide +kernel
theorem dX12_evaluate_213 : decode cX12_evaluate 213 = .ok (.istore_n 3, 1) := by decide +kernel
theorem dX12_evaluate_214 : decode cX12_evaluate 214 = .ok (.iconst 0, 1) := by decide +kernel
theorem dX12_evaluate_215 : decode cX12_evaluate 215 = .ok (.istore 4, 2) := by decide +kernel
theorem dX12_evaluate_217 : decode cX12_evaluate 217 = .ok (.aload_n 0, 1) := by decide +kernel
theorem dX12_evaluate_218 : decode cX12_evaluate 218 = .ok (.getfield 96, 3) := by decide +kernel
theorem dX12_evaluate_221 : decode cX12_evaluate 221 = .ok (.aload_n 0, 1) := by decide +kernel
theorem dX12_evaluate_222 : decode cX12_evaluate 222 = .ok (.getfield 93, 3) := by decide +kernel
theorem dX12_evaluate_225 : decode cX12_evaluate 225 = .ok (.iload_n 1, 1) := by decide +kernel
theorem dX12_evaluate_226 : decode cX12_evaluate 226 = .ok (.iaload, 1) := by decide +kernel
theorem dX12_evaluate_227 : decode cX12_evaluate 227 = .ok (.iaload, 1) := by decide +kernel
theorem dX12_evaluate_228 : decode cX12_evaluate 228 = .ok (.istore 5, 2) := by decide +kernel
theorem dX12_evaluate_230 : decode cX12_evaluate 230 = .ok (.iload 5, 2) := by decide +kernel
theorem dX12_evaluate_232 : decode cX12_evaluate 232 = .ok (.ifCond .lt 26, 3) := by decide +kernel
theorem dX12_evaluate_235 : decode cX12_evaluate 235 = .ok (.aload_n 0, 1) := by decide +kernel
theorem dX12_evaluate_236 : decode cX12_evaluate 236 = .ok (.iconst 1, 1) := by decide +kernel
theorem dX12_evaluate_237 : decode cX12_evaluate 237 = .ok (.iload 5, 2) := by decide +kernel
theorem dX12_evaluate_239 : decode cX12_evaluate 239 = .ok (.iconst 0, 1) := by decide +kernel
theorem dX12_evaluate_240 : decode cX12_evaluate 240 = .ok (.invokevirtual 801, 3) := by decide +kernel
theorem dX12_evaluate_243 : decode cX12_evaluate 243 = .ok (.iinc 4 1, 3) := by decide +kernel
theorem dX12_evaluate_246 : decode cX12_evaluate 246 = .ok (.aload_n 0, 1) := by decide +kernel
theorem dX12_evaluate_247 : decode cX12_evaluate 247 = .ok (.getfield 96, 3) := by decide +kernel
theorem dX12_evaluate_250 : decode cX12_evaluate 250 = .ok (.iload 5, 2) := by decide +kernel
theorem dX12_evaluate_252 : decode cX12_evaluate 252 = .ok (.iaload, 1) := by decide +kernel
theorem dX12_evaluate_253 : decode cX12_evaluate 253 = .ok (.istore 5, 2) := by decide +kernel
theorem dX12_evaluate_255 : decode cX12_evaluate 255 = .ok (.goto (-25), 3) := by decide +kernel
theorem dX12_evaluate_258 : decode cX12_evaluate 258 = .ok (.aload_n 0, 1) := by decide +kernel
theorem dX12_evaluate_259 : decode cX12_evaluate 259 = .ok (.iconst 1, 1) := by decide +kernel
theorem dX12_evaluate_260 : decode cX12_evaluate 260 = .ok (.aload_n 0, 1) := by decide +kernel
theorem dX12_evaluate_261 : decode cX12_evaluate 261 = .ok (.getfield 93, 3) := by decide +kernel
theorem dX12_evaluate_264 : decode cX12_evaluate 264 = .ok (.iload_n 1, 1) := by decide +kernel
theorem dX12_evaluate_265 : decode cX12_evaluate 265 = .ok (.iaload, 1) := by decide +kernel
theorem dX12_evaluate_266 : decode cX12_evaluate 266 = .ok (.iconst 0, 1) := by decide +kernel
theorem dX12_evaluate_267 : decode cX12_evaluate 267 = .ok (.invokevirtual 801, 3) := by decide +kernel
theorem dX12_evaluate_270 : decode cX12_evaluate 270 = .ok (.aload_n 0, 1) := by decide +kernel
theorem dX12_evaluate_271 : decode cX12_evaluate 271 = .ok (.bipush 7, 2) := by decide +kernel
theorem dX12_evaluate_273 : decode cX12_evaluate 273 = .ok (.iload_n 1, 1) := by decide +kernel
theorem dX12_evaluate_274 : decode cX12_evaluate 274 = .ok (.iload 4, 2) := by decide +kernel
theorem dX12_evaluate_276 : decode cX12_evaluate 276 = .ok (.invokevirtual 801, 3) := by decide +kernel
theorem dX12_evaluate_279 : decode cX12_evaluate 279 = .ok (.aload_n 0, 1) := by decide +kernel
theorem dX12_evaluate_280 : decode cX12_evaluate 280 = .ok (.iload_n 3, 1) := by decide +kernel
theorem dX12_evaluate_281 : decode cX12_evaluate 281 = .ok (.invokevirtual 807, 3) := by decide +kernel
theorem dX12_evaluate_284 : decode cX12_evaluate 284 = .ok (.goto 73, 3) := by decide +kernel
theorem dX12_evaluate_287 : decode cX12_evaluate 287 = .ok (.aload_n 0, 1) := by decide +kernel
theorem dX12_evaluate_288 : decode cX12_evaluate 288 = .ok (.iload_n 2, 1) := by decide +kernel
theorem dX12_evaluate_289 : decode cX12_evaluate 289 = .ok (.bipush 9, 2) := by decide +kernel
theorem dX12_evaluate_291 : decode cX12_evaluate 291 = .ok (.if_icmp .ne 7, 3) := by decide +kernel
theorem dX12_evaluate_294 : decode cX12_evaluate 294 = .ok (.iconst 2, 1) := by decide +kernel
theorem dX12_evaluate_295 : decode cX12_evaluate 295 = .ok (.goto 14, 3) := by decide +kernel
theorem dX12_evaluate_298 : decode cX12_evaluate 298 = .ok (.iload_n 2, 1) := by decide +kernel
theorem dX12_evaluate_299 : decode cX12_evaluate 299 = .ok (.bipush 10, 2) := by decide +kernel
theorem dX12_evaluate_301 : decode cX12_evaluate 301 = .ok (.if_icmp .ne 7, 3) := by decide +kernel
theorem dX12_evaluate_304 : decode cX12_evaluate 304 = .ok (.iconst 3, 1) := by decide +kernel
theorem dX12_evaluate_305 : decode cX12_evaluate 305 = .ok (.goto 4, 3) := by decide +kernel
theorem dX12_evaluate_308 : decode cX12_evaluate 308 = .ok (.iconst 4, 1) := by decide +kernel
theorem dX12_evaluate_309 : decode cX12_evaluate 309 = .ok (.iload_n 1, 1) := by decide +kernel
theorem dX12_evaluate_310 : decode cX12_evaluate 310 = .ok (.iconst 0, 1) := by decide +kernel
theorem dX12_evaluate_311 : decode cX12_evaluate 311 = .ok (.invokevirtual 801, 3) := by decide +kernel
theorem dX12_evaluate_314 : decode cX12_evaluate 314 = .ok (.aload_n 0, 1) := by decide +kernel
theorem dX12_evaluate_315 : decode cX12_evaluate 315 = .ok (.getfield 276, 3) := by decide +kernel
theorem dX12_evaluate_318 : decode cX12_evaluate 318 = .ok (.istore_n 3, 1) := by decide +kernel
theorem dX12_evaluate_319 : decode cX12_evaluate 319 = .ok (.aload_n 0, 1) := by decide +kernel
theorem dX12_evaluate_320 : decode cX12_evaluate 320 = .ok (.getfield 93, 3) := by decide +kernel
theorem dX12_evaluate_323 : decode cX12_evaluate 323 = .ok (.iload_n 1, 1) := by decide +kernel
theorem dX12_evaluate_324 : decode cX12_evaluate 324 = .ok (.iaload, 1) := by decide +kernel
theorem dX12_evaluate_325 : decode cX12_evaluate 325 = .ok (.istore 4, 2) := by decide +kernel
theorem dX12_evaluate_327 : decode cX12_evaluate 327 = .ok (.iload 4, 2) := by decide +kernel
theorem dX12_evaluate_329 : decode cX12_evaluate 329 = .ok (.ifCond .lt 23, 3) := by decide +kernel
theorem dX12_evaluate_332 : decode cX12_evaluate 332 = .ok (.aload_n 0, 1) := by decide +kernel
theorem dX12_evaluate_333 : decode cX12_evaluate 333 = .ok (.iconst 1, 1) := by decide +kernel
theorem dX12_evaluate_334 : decode cX12_evaluate 334 = .ok (.iload 4, 2) := by decide +kernel
theorem dX12_evaluate_336 : decode cX12_evaluate 336 = .ok (.iconst 0, 1) := by decide +kernel
theorem dX12_evaluate_337 : decode cX12_evaluate 337 = .ok (.invokevirtual 801, 3) := by decide +kernel
theorem dX12_evaluate_340 : decode cX12_evaluate 340 = .ok (.aload_n 0, 1) := by decide +kernel
theorem dX12_evaluate_341 : decode cX12_evaluate 341 = .ok (.getfield 96, 3) := by decide +kernel
theorem dX12_evaluate_344 : decode cX12_evaluate 344 = .ok (.iload 4, 2) := by decide +kernel
theorem dX12_evaluate_346 : decode cX12_evaluate 346 = .ok (.iaload, 1) := by decide +kernel
theorem dX12_evaluate_347 : decode cX12_evaluate 347 = .ok (.istore 4, 2) := by decide +kernel
theorem dX12_evaluate_349 : decode cX12_evaluate 349 = .ok (.goto (-22), 3) := by decide +kernel
theorem dX12_evaluate_352 : decode cX12_evaluate 352 = .ok (.aload_n 0, 1) := by decide +kernel
theorem dX12_evaluate_353 : decode cX12_evaluate 353 = .ok (.iload_n 3, 1) := by decide +kernel
theorem dX12_evaluate_354 : decode cX12_evaluate 354 = .ok (.invokevirtual 807, 3) := by decide +kernel
theorem dX12_evaluate_357 : decode cX12_evaluate 357 = .ok (.return_, 1) := by decide +kernel
def wr_evaluate_327B (Q : zS → Prop) (k327 : zS → Int → Int → Prop) (s0 : zS) (x3 : Int) (x4 : Int) : Prop :=
  ((x4 < 0 → wr_turnTodo s0 x3 (fun s4 => Q s4)) ∧ (¬ x4 < 0 → wr_todoTask s0 1 x4 0 (fun s11 => (0 ≤ x4) ∧ (x4 < 26000) ∧ k327 s11 x3 (za s11 28 (Int.toNat x4)))))
def wr_evaluate_327 (Q : zS → Prop)  : Nat → zS → Int → Int → Prop
  | 0 => fun _ _ _ => False
  | m + 1 => fun s0 x3 x4 => wr_evaluate_327B Q  (wr_evaluate_327 Q  m) s0 x3 x4
def wr_evaluate_230B (Q : zS → Prop) (k230 : zS → Int → Int → Int → Int → Prop) (s0 : zS) (x1 : Int) (x3 : Int) (x4 : Int) (x5 : Int) : Prop :=
  ((x5 < 0 → (0 ≤ x1) ∧ (x1 < 26000) ∧ wr_todoTask s0 1 (za s0 27 (Int.toNat x1)) 0 (fun s8 => wr_todoTask s8 7 x1 x4 (fun s14 => wr_turnTodo s14 x3 (fun s20 => Q s20)))) ∧ (¬ x5 < 0 → wr_todoTask s0 1 x5 0 (fun s27 => (0 ≤ x5) ∧ (x5 < 26000) ∧ (zR (x4 + 1)) ∧ k230 s27 x1 x3 (x4 + 1) (za s27 28 (Int.toNat x5)))))
def wr_evaluate_230 (Q : zS → Prop)  : Nat → zS → Int → Int → Int → Int → Prop
  | 0 => fun _ _ _ _ _ => False
  | m + 1 => fun s0 x1 x3 x4 x5 => wr_evaluate_230B Q  (wr_evaluate_230 Q  m) s0 x1 x3 x4 x5
def wr_evaluate (s0 : zS) (a0 : Int) (Q : zS → Prop) : Prop :=
  (0 ≤ a0) ∧ (a0 < 26000) ∧ ((¬ (za s0 25 (Int.toNat a0)) = 2 → (((za s0 25 (Int.toNat a0)) = 3 → (0 ≤ a0) ∧ (a0 < 26000) ∧ wr_push s0 (za s0 31 (Int.toNat a0)) (fun s14 => Q s14)) ∧ (¬ (za s0 25 (Int.toNat a0)) = 3 → ((¬ (za s0 25 (Int.toNat a0)) = 5 → ((¬ (za s0 25 (Int.toNat a0)) = 1 → ((¬ (za s0 25 (Int.toNat a0)) = 4 → ((¬ (za s0 25 (Int.toNat a0)) = 8 → ((¬ (za s0 25 (Int.toNat a0)) = 12 → ((¬ (za s0 25 (Int.toNat a0)) = 11 → ((¬ (za s0 25 (Int.toNat a0)) = 6 → ((¬ (za s0 25 (Int.toNat a0)) = 9 → ((¬ (za s0 25 (Int.toNat a0)) = 10 → wr_todoTask s0 4 a0 0 (fun s39 => (0 ≤ a0) ∧ (a0 < 26000) ∧ ∃ n, wr_evaluate_327 Q  n s39 (zv s39 87) (za s39 27 (Int.toNat a0)))) ∧ ((za s0 25 (Int.toNat a0)) = 10 → wr_todoTask s0 3 a0 0 (fun s52 => (0 ≤ a0) ∧ (a0 < 26000) ∧ ∃ n, wr_evaluate_327 Q  n s52 (zv s52 87) (za s52 27 (Int.toNat a0)))))) ∧ ((za s0 25 (Int.toNat a0)) = 9 → wr_todoTask s0 2 a0 0 (fun s65 => (0 ≤ a0) ∧ (a0 < 26000) ∧ ∃ n, wr_evaluate_327 Q  n s65 (zv s65 87) (za s65 27 (Int.toNat a0)))))) ∧ ((za s0 25 (Int.toNat a0)) = 6 → (0 ≤ a0) ∧ (a0 < 26000) ∧ (0 ≤ (za s0 27 (Int.toNat a0))) ∧ ((za s0 27 (Int.toNat a0)) < 26000) ∧ ∃ n, wr_evaluate_230 Q  n s0 a0 (zv s0 87) 0 (za s0 28 (Int.toNat (za s0 27 (Int.toNat a0))))))) ∧ ((za s0 25 (Int.toNat a0)) = 11 → (0 ≤ a0) ∧ (a0 < 26000) ∧ (0 ≤ (za s0 27 (Int.toNat a0))) ∧ ((za s0 27 (Int.toNat a0)) < 26000) ∧ wr_todoTask s0 6 (za s0 28 (Int.toNat (za s0 27 (Int.toNat a0)))) 0 (fun s97 => (0 ≤ a0) ∧ (a0 < 26000) ∧ wr_todoTask s97 1 (za s97 27 (Int.toNat a0)) 0 (fun s107 => Q s107))))) ∧ ((za s0 25 (Int.toNat a0)) = 12 → wr_todoTask s0 5 a0 0 (fun s114 => (0 ≤ a0) ∧ (a0 < 26000) ∧ wr_todoTask s114 1 (za s114 27 (Int.toNat a0)) 0 (fun s124 => Q s124))))) ∧ ((za s0 25 (Int.toNat a0)) = 8 → (0 ≤ a0) ∧ (a0 < 26000) ∧ wr_address s0 (za s0 27 (Int.toNat a0)) (fun s135 => Q s135)))) ∧ ((za s0 25 (Int.toNat a0)) = 4 → wr_todoTask s0 8 a0 (zv s0 91) (fun s142 => (0 ≤ a0) ∧ (a0 < 26000) ∧ wr_todoTask s142 10 (za s142 27 (Int.toNat a0)) 0 (fun s152 => Q s152))))) ∧ ((za s0 25 (Int.toNat a0)) = 1 → wr_wordOf s0 a0 (fun r158 s159 => ((0 ≤ r158 → (0 ≤ r158) ∧ (r158 < 65536) ∧ wr_push s159 (za s159 98 (Int.toNat r158)) (fun s171 => Q s171)) ∧ (¬ 0 ≤ r158 → (0 ≤ a0) ∧ (a0 < 26000) ∧ wr_push s159 (za s159 31 (Int.toNat a0)) (fun s182 => Q s182))))))) ∧ ((za s0 25 (Int.toNat a0)) = 5 → (0 ≤ a0) ∧ (a0 < 26000) ∧ wr_push s0 (za s0 31 (Int.toNat a0)) (fun s193 => Q s193)))))) ∧ ((za s0 25 (Int.toNat a0)) = 2 → (0 ≤ a0) ∧ (a0 < 26000) ∧ wr_push s0 (za s0 29 (Int.toNat a0)) (fun s204 => Q s204)))
set_option maxHeartbeats 4000000 in
set_option maxRecDepth 100000 in
theorem rb_evaluate_327 {X : gX} {d : gD} {b t : Nat} {T : Nat → Nat} {F0 : gM} (hC : gC RX12 cX12_evaluate 6 none "evaluate" (gR 2 0 0) d b X) {Q : zS → Prop} {k327 : zS → Int → Int → Prop} (hk327 : ∀ (F : gM) (s0 : zS) (x3 : Int) (x4 : Int), zR x3 → zR x4 → zZ d t T F0 F s0 → k327 s0 x3 x4 → gG X d b (zQv X d b t T F0 Q) F 0 0 327 [some (.ref t), none, none, some (.int (zI x3)), some (.int (zI x4)), none] []) {F : gM} {s0 : zS} {x3 : Int} {x4 : Int} (Rx3 : zR x3) (Rx4 : zR x4) (hZ : zZ d t T F0 F s0) (hw : wr_evaluate_327B Q k327 s0 x3 x4) : gG X d b (zQv X d b t T F0 Q) F 0 0 327 [some (.ref t), none, none, some (.int (zI x3)), some (.int (zI x4)), none] [] := by
  unfold wr_evaluate_327B at hw
  refine g_iload hC dX12_evaluate_327 rfl ?_
  refine zr_if_lt (tgt := 352) hC Rx4 dX12_evaluate_329 (by decide) (fun c1 => ?_) (fun c1 => ?_)
  · have h2 := hw.1 c1
    refine g_aload_n hC dX12_evaluate_352 rfl ?_
    refine g_iload_n hC dX12_evaluate_353 rfl ?_
    refine zr_callVv (As := [.int (zI x3)]) hC hZ rfl (rm_turnTodo X.la d b Rx3 hZ.rf h2) cl_X12_807 rfl rfl (Nat.le_of_ble_eq_true rfl) ⟨Nat.le_of_ble_eq_true rfl, Nat.le_of_ble_eq_true rfl⟩ dX12_evaluate_354 (fun s4 F5 hZ7 h8 => ?_)
    exact zr_vret hC hZ7 h8 dX12_evaluate_357
  · have h9 := hw.2 c1
    refine g_aload_n hC dX12_evaluate_332 rfl ?_
    refine g_iconst (v := zI 1) hC dX12_evaluate_333 rfl ?_
    refine g_iload hC dX12_evaluate_334 rfl ?_
    refine g_iconst (v := zI 0) hC dX12_evaluate_336 rfl ?_
    refine zr_callVv (As := [.int (zI 1), .int (zI x4), .int (zI 0)]) hC hZ rfl (rm_todoTask X.la d b (by decide) Rx4 (by decide) hZ.rf h9) cl_X12_801 rfl rfl (Nat.le_of_ble_eq_true rfl) ⟨Nat.le_of_ble_eq_true rfl, Nat.le_of_ble_eq_true rfl⟩ dX12_evaluate_337 (fun s11 F12 hZ14 h15 => ?_)
    refine g_aload_n hC dX12_evaluate_340 rfl ?_
    refine zr_geta hC hZ14 fl_X12_96 zb_28 (by decide) dX12_evaluate_341 ?_
    refine g_iload hC dX12_evaluate_344 rfl ?_
    obtain ⟨o16, h17⟩ := h15
    obtain ⟨o18, h19⟩ := h17
    refine zr_iald (v := (za s11 28 (Int.toNat x4))) hC hZ14 zk_28 zb_28 zn_28 (by decide) o16 o18 rfl dX12_evaluate_346 ?_
    refine g_istore (lv' := [some (.ref t), none, none, some (.int (zI x3)), some (.int (zI (za s11 28 (Int.toNat x4)))), none]) hC dX12_evaluate_347 (Nat.le_of_ble_eq_true rfl) rfl rfl ?_
    refine g_goto (tgt := 327) hC dX12_evaluate_349 (by decide) ?_
    exact hk327 _ _ _ _ Rx3 (hZ14.ra 28 _) hZ14 h19
theorem rl_evaluate_327 {X : gX} {d : gD} {b t : Nat} {T : Nat → Nat} {F0 : gM} (hC : gC RX12 cX12_evaluate 6 none "evaluate" (gR 2 0 0) d b X) {Q : zS → Prop}   : ∀ (m : Nat) (F : gM) (s0 : zS) (x3 : Int) (x4 : Int), zR x3 → zR x4 → zZ d t T F0 F s0 → wr_evaluate_327 Q  m s0 x3 x4 → gG X d b (zQv X d b t T F0 Q) F 0 0 327 [some (.ref t), none, none, some (.int (zI x3)), some (.int (zI x4)), none] [] := by
  intro m
  induction m with
  | zero => intro F s0 x3 x4 Rx3 Rx4 hZ hw; exact False.elim hw
  | succ m ih => intro F s0 x3 x4 Rx3 Rx4 hZ hw; exact rb_evaluate_327 hC  ih Rx3 Rx4 hZ hw
set_option maxHeartbeats 4000000 in
set_option maxRecDepth 100000 in
theorem rb_evaluate_230 {X : gX} {d : gD} {b t : Nat} {T : Nat → Nat} {F0 : gM} (hC : gC RX12 cX12_evaluate 6 none "evaluate" (gR 2 0 0) d b X) {Q : zS → Prop} {k230 : zS → Int → Int → Int → Int → Prop} (hk230 : ∀ (F : gM) (s0 : zS) (x1 : Int) (x3 : Int) (x4 : Int) (x5 : Int), zR x1 → zR x3 → zR x4 → zR x5 → zZ d t T F0 F s0 → k230 s0 x1 x3 x4 x5 → gG X d b (zQv X d b t T F0 Q) F 0 0 230 [some (.ref t), some (.int (zI x1)), none, some (.int (zI x3)), some (.int (zI x4)), some (.int (zI x5))] []) {F : gM} {s0 : zS} {x1 : Int} {x3 : Int} {x4 : Int} {x5 : Int} (Rx1 : zR x1) (Rx3 : zR x3) (Rx4 : zR x4) (Rx5 : zR x5) (hZ : zZ d t T F0 F s0) (hw : wr_evaluate_230B Q k230 s0 x1 x3 x4 x5) : gG X d b (zQv X d b t T F0 Q) F 0 0 230 [some (.ref t), some (.int (zI x1)), none, some (.int (zI x3)), some (.int (zI x4)), some (.int (zI x5))] [] := by
  unfold wr_evaluate_230B at hw
  refine g_iload hC dX12_evaluate_230 rfl ?_
  refine zr_if_lt (tgt := 258) hC Rx5 dX12_evaluate_232 (by decide) (fun c1 => ?_) (fun c1 => ?_)
  · have h2 := hw.1 c1
    refine g_aload_n hC dX12_evaluate_258 rfl ?_
    refine g_iconst (v := zI 1) hC dX12_evaluate_259 rfl ?_
    refine g_aload_n hC dX12_evaluate_260 rfl ?_
    refine zr_geta hC hZ fl_X12_93 zb_27 (by decide) dX12_evaluate_261 ?_
    refine g_iload_n hC dX12_evaluate_264 rfl ?_
    obtain ⟨o3, h4⟩ := h2
    obtain ⟨o5, h6⟩ := h4
    refine zr_iald (v := (za s0 27 (Int.toNat x1))) hC hZ zk_27 zb_27 zn_27 (by decide) o3 o5 rfl dX12_evaluate_265 ?_
    refine g_iconst (v := zI 0) hC dX12_evaluate_266 rfl ?_
    refine zr_callVv (As := [.int (zI 1), .int (zI (za s0 27 (Int.toNat x1))), .int (zI 0)]) hC hZ rfl (rm_todoTask X.la d b (by decide) (hZ.ra 27 _) (by decide) hZ.rf h6) cl_X12_801 rfl rfl (Nat.le_of_ble_eq_true rfl) ⟨Nat.le_of_ble_eq_true rfl, Nat.le_of_ble_eq_true rfl⟩ dX12_evaluate_267 (fun s8 F9 hZ11 h12 => ?_)
    refine g_aload_n hC dX12_evaluate_270 rfl ?_
    refine g_bipush (v := zI 7) hC dX12_evaluate_271 rfl ?_
    refine g_iload_n hC dX12_evaluate_273 rfl ?_
    refine g_iload hC dX12_evaluate_274 rfl ?_
    refine zr_callVv (As := [.int (zI 7), .int (zI x1), .int (zI x4)]) hC hZ11 rfl (rm_todoTask X.la d b (by decide) Rx1 Rx4 hZ11.rf h12) cl_X12_801 rfl rfl (Nat.le_of_ble_eq_true rfl) ⟨Nat.le_of_ble_eq_true rfl, Nat.le_of_ble_eq_true rfl⟩ dX12_evaluate_276 (fun s14 F15 hZ17 h18 => ?_)
    refine g_aload_n hC dX12_evaluate_279 rfl ?_
    refine g_iload_n hC dX12_evaluate_280 rfl ?_
    refine zr_callVv (As := [.int (zI x3)]) hC hZ17 rfl (rm_turnTodo X.la d b Rx3 hZ17.rf h18) cl_X12_807 rfl rfl (Nat.le_of_ble_eq_true rfl) ⟨Nat.le_of_ble_eq_true rfl, Nat.le_of_ble_eq_true rfl⟩ dX12_evaluate_281 (fun s20 F21 hZ23 h24 => ?_)
    refine g_goto (tgt := 357) hC dX12_evaluate_284 (by decide) ?_
    exact zr_vret hC hZ23 h24 dX12_evaluate_357
  · have h25 := hw.2 c1
    refine g_aload_n hC dX12_evaluate_235 rfl ?_
    refine g_iconst (v := zI 1) hC dX12_evaluate_236 rfl ?_
    refine g_iload hC dX12_evaluate_237 rfl ?_
    refine g_iconst (v := zI 0) hC dX12_evaluate_239 rfl ?_
    refine zr_callVv (As := [.int (zI 1), .int (zI x5), .int (zI 0)]) hC hZ rfl (rm_todoTask X.la d b (by decide) Rx5 (by decide) hZ.rf h25) cl_X12_801 rfl rfl (Nat.le_of_ble_eq_true rfl) ⟨Nat.le_of_ble_eq_true rfl, Nat.le_of_ble_eq_true rfl⟩ dX12_evaluate_240 (fun s27 F28 hZ30 h31 => ?_)
    refine zr_iinc (x := x4) (lv' := [some (.ref t), some (.int (zI x1)), none, some (.int (zI x3)), some (.int (zI (x4 + 1))), some (.int (zI x5))]) hC dX12_evaluate_243 rfl rfl rfl ?_
    refine g_aload_n hC dX12_evaluate_246 rfl ?_
    refine zr_geta hC hZ30 fl_X12_96 zb_28 (by decide) dX12_evaluate_247 ?_
    refine g_iload hC dX12_evaluate_250 rfl ?_
    obtain ⟨o32, h33⟩ := h31
    obtain ⟨o34, h35⟩ := h33
    refine zr_iald (v := (za s27 28 (Int.toNat x5))) hC hZ30 zk_28 zb_28 zn_28 (by decide) o32 o34 rfl dX12_evaluate_252 ?_
    refine g_istore (lv' := [some (.ref t), some (.int (zI x1)), none, some (.int (zI x3)), some (.int (zI (x4 + 1))), some (.int (zI (za s27 28 (Int.toNat x5))))]) hC dX12_evaluate_253 (Nat.le_of_ble_eq_true rfl) rfl rfl ?_
    refine g_goto (tgt := 230) hC dX12_evaluate_255 (by decide) ?_
    obtain ⟨o36, h37⟩ := h35
    exact hk230 _ _ _ _ _ _ Rx1 Rx3 o36 (hZ30.ra 28 _) hZ30 h37
theorem rl_evaluate_230 {X : gX} {d : gD} {b t : Nat} {T : Nat → Nat} {F0 : gM} (hC : gC RX12 cX12_evaluate 6 none "evaluate" (gR 2 0 0) d b X) {Q : zS → Prop}   : ∀ (m : Nat) (F : gM) (s0 : zS) (x1 : Int) (x3 : Int) (x4 : Int) (x5 : Int), zR x1 → zR x3 → zR x4 → zR x5 → zZ d t T F0 F s0 → wr_evaluate_230 Q  m s0 x1 x3 x4 x5 → gG X d b (zQv X d b t T F0 Q) F 0 0 230 [some (.ref t), some (.int (zI x1)), none, some (.int (zI x3)), some (.int (zI x4)), some (.int (zI x5))] [] := by
  intro m
  induction m with
  | zero => intro F s0 x1 x3 x4 x5 Rx1 Rx3 Rx4 Rx5 hZ hw; exact False.elim hw
  | succ m ih => intro F s0 x1 x3 x4 x5 Rx1 Rx3 Rx4 Rx5 hZ hw; exact rb_evaluate_230 hC  ih Rx1 Rx3 Rx4 Rx5 hZ hw
set_option maxHeartbeats 4000000 in
set_option maxRecDepth 100000 in
theorem rm_evaluate (l : Launch) (d : gD) (b : Nat) {t : Nat} {T : Nat → Nat} {F : gM} {s0 : zS} {a0 : Int} (Ra0 : zR a0) {Q : zS → Prop} (hZ : zZ d t T F F s0) (hw : wr_evaluate s0 a0 Q) : gMv l d b yX12_evaluate cX12_evaluate 6 2 0 0 F [.ref t, .int (zI a0)] (zPv d t T F Q) := by
  refine gM_of2 rfl (nL := 6) (Nat.le_of_ble_eq_true rfl) ?_
  intro X hX hC; subst hX
  show gG X d b (zQv X d b t T F Q) F 0 0 0 [some (.ref t), some (.int (zI a0)), none, none, none, none] []
  unfold wr_evaluate at hw
  refine g_aload_n hC dX12_evaluate_0 rfl ?_
  refine zr_geta hC hZ fl_X12_87 zb_25 (by decide) dX12_evaluate_1 ?_
  refine g_iload_n hC dX12_evaluate_4 rfl ?_
  obtain ⟨o1, h2⟩ := hw
  obtain ⟨o3, h4⟩ := h2
  refine zr_bald (v := (za s0 25 (Int.toNat a0))) hC hZ zk_25 zb_25 zn_25 (by decide) o1 o3 rfl dX12_evaluate_5 ?_
  refine g_istore_n (lv' := [some (.ref t), some (.int (zI a0)), some (.int (zI (za s0 25 (Int.toNat a0)))), none, none, none]) hC dX12_evaluate_6 (Nat.le_of_ble_eq_true rfl) rfl rfl ?_
  refine g_iload_n hC dX12_evaluate_7 rfl ?_
  refine g_iconst (v := zI 2) hC dX12_evaluate_8 rfl ?_
  refine zr_icmp_ne (tgt := 25) hC (hZ.ra 25 _) (by decide) dX12_evaluate_9 (by decide) (fun c5 => ?_) (fun c5 => ?_)
  · have h6 := h4.1 c5
    refine g_iload_n hC dX12_evaluate_25 rfl ?_
    refine g_iconst (v := zI 3) hC dX12_evaluate_26 rfl ?_
    refine zr_icmp_eq (tgt := 35) hC (hZ.ra 25 _) (by decide) dX12_evaluate_27 (by decide) (fun c7 => ?_) (fun c7 => ?_)
    · have h8 := h6.1 c7
      refine g_aload_n hC dX12_evaluate_35 rfl ?_
      refine g_aload_n hC dX12_evaluate_36 rfl ?_
      refine zr_geta hC hZ fl_X12_105 zb_31 (by decide) dX12_evaluate_37 ?_
      refine g_iload_n hC dX12_evaluate_40 rfl ?_
      obtain ⟨o9, h10⟩ := h8
      obtain ⟨o11, h12⟩ := h10
      refine zr_iald (v := (za s0 31 (Int.toNat a0))) hC hZ zk_31 zb_31 zn_31 (by decide) o9 o11 rfl dX12_evaluate_41 ?_
      refine zr_callVv (As := [.int (zI (za s0 31 (Int.toNat a0)))]) hC hZ rfl (rm_push X.la d b (hZ.ra 31 _) hZ.rf h12) cl_X12_795 rfl rfl (Nat.le_of_ble_eq_true rfl) ⟨Nat.le_of_ble_eq_true rfl, Nat.le_of_ble_eq_true rfl⟩ dX12_evaluate_42 (fun s14 F15 hZ17 h18 => ?_)
      refine g_goto (tgt := 357) hC dX12_evaluate_45 (by decide) ?_
      exact zr_vret hC hZ17 h18 dX12_evaluate_357
    · have h19 := h6.2 c7
      refine g_iload_n hC dX12_evaluate_30 rfl ?_
      refine g_iconst (v := zI 5) hC dX12_evaluate_31 rfl ?_
      refine zr_icmp_ne (tgt := 48) hC (hZ.ra 25 _) (by decide) dX12_evaluate_32 (by decide) (fun c20 => ?_) (fun c20 => ?_)
      · have h21 := h19.1 c20
        refine g_iload_n hC dX12_evaluate_48 rfl ?_
        refine g_iconst (v := zI 1) hC dX12_evaluate_49 rfl ?_
        refine zr_icmp_ne (tgt := 85) hC (hZ.ra 25 _) (by decide) dX12_evaluate_50 (by decide) (fun c22 => ?_) (fun c22 => ?_)
        · have h23 := h21.1 c22
          refine g_iload_n hC dX12_evaluate_85 rfl ?_
          refine g_iconst (v := zI 4) hC dX12_evaluate_86 rfl ?_
          refine zr_icmp_ne (tgt := 117) hC (hZ.ra 25 _) (by decide) dX12_evaluate_87 (by decide) (fun c24 => ?_) (fun c24 => ?_)
          · have h25 := h23.1 c24
            refine g_iload_n hC dX12_evaluate_117 rfl ?_
            refine g_bipush (v := zI 8) hC dX12_evaluate_118 rfl ?_
            refine zr_icmp_ne (tgt := 136) hC (hZ.ra 25 _) (by decide) dX12_evaluate_120 (by decide) (fun c26 => ?_) (fun c26 => ?_)
            · have h27 := h25.1 c26
              refine g_iload_n hC dX12_evaluate_136 rfl ?_
              refine g_bipush (v := zI 12) hC dX12_evaluate_137 rfl ?_
              refine zr_icmp_ne (tgt := 164) hC (hZ.ra 25 _) (by decide) dX12_evaluate_139 (by decide) (fun c28 => ?_) (fun c28 => ?_)
              · have h29 := h27.1 c28
                refine g_iload_n hC dX12_evaluate_164 rfl ?_
                refine g_bipush (v := zI 11) hC dX12_evaluate_165 rfl ?_
                refine zr_icmp_ne (tgt := 203) hC (hZ.ra 25 _) (by decide) dX12_evaluate_167 (by decide) (fun c30 => ?_) (fun c30 => ?_)
                · have h31 := h29.1 c30
                  refine g_iload_n hC dX12_evaluate_203 rfl ?_
                  refine g_bipush (v := zI 6) hC dX12_evaluate_204 rfl ?_
                  refine zr_icmp_ne (tgt := 287) hC (hZ.ra 25 _) (by decide) dX12_evaluate_206 (by decide) (fun c32 => ?_) (fun c32 => ?_)
                  · have h33 := h31.1 c32
                    refine g_aload_n hC dX12_evaluate_287 rfl ?_
                    refine g_iload_n hC dX12_evaluate_288 rfl ?_
                    refine g_bipush (v := zI 9) hC dX12_evaluate_289 rfl ?_
                    refine zr_icmp_ne (tgt := 298) hC (hZ.ra 25 _) (by decide) dX12_evaluate_291 (by decide) (fun c34 => ?_) (fun c34 => ?_)
                    · have h35 := h33.1 c34
                      refine g_iload_n hC dX12_evaluate_298 rfl ?_
                      refine g_bipush (v := zI 10) hC dX12_evaluate_299 rfl ?_
                      refine zr_icmp_ne (tgt := 308) hC (hZ.ra 25 _) (by decide) dX12_evaluate_301 (by decide) (fun c36 => ?_) (fun c36 => ?_)
                      · have h37 := h35.1 c36
                        refine g_iconst (v := zI 4) hC dX12_evaluate_308 rfl ?_
                        refine g_iload_n hC dX12_evaluate_309 rfl ?_
                        refine g_iconst (v := zI 0) hC dX12_evaluate_310 rfl ?_
                        refine zr_callVv (As := [.int (zI 4), .int (zI a0), .int (zI 0)]) hC hZ rfl (rm_todoTask X.la d b (by decide) Ra0 (by decide) hZ.rf h37) cl_X12_801 rfl rfl (Nat.le_of_ble_eq_true rfl) ⟨Nat.le_of_ble_eq_true rfl, Nat.le_of_ble_eq_true rfl⟩ dX12_evaluate_311 (fun s39 F40 hZ42 h43 => ?_)
                        refine g_aload_n hC dX12_evaluate_314 rfl ?_
                        refine zr_get (e := (zv s39 87)) hC hZ42 fl_X12_276 zb_87 (by decide) rfl dX12_evaluate_315 ?_
                        refine g_istore_n (lv' := [some (.ref t), some (.int (zI a0)), some (.int (zI (za s0 25 (Int.toNat a0)))), some (.int (zI (zv s39 87))), none, none]) hC dX12_evaluate_318 (Nat.le_of_ble_eq_true rfl) rfl rfl ?_
                        refine g_aload_n hC dX12_evaluate_319 rfl ?_
                        refine zr_geta hC hZ42 fl_X12_93 zb_27 (by decide) dX12_evaluate_320 ?_
                        refine g_iload_n hC dX12_evaluate_323 rfl ?_
                        obtain ⟨o44, h45⟩ := h43
                        obtain ⟨o46, h47⟩ := h45
                        refine zr_iald (v := (za s39 27 (Int.toNat a0))) hC hZ42 zk_27 zb_27 zn_27 (by decide) o44 o46 rfl dX12_evaluate_324 ?_
                        refine g_istore (lv' := [some (.ref t), some (.int (zI a0)), some (.int (zI (za s0 25 (Int.toNat a0)))), some (.int (zI (zv s39 87))), some (.int (zI (za s39 27 (Int.toNat a0)))), none]) hC dX12_evaluate_325 (Nat.le_of_ble_eq_true rfl) rfl rfl ?_
                        refine g_lv (lv' := [some (.ref t), none, none, some (.int (zI (zv s39 87))), some (.int (zI (za s39 27 (Int.toNat a0)))), none]) ⟨rfl, rfl, rfl, trivial⟩ ?_
                        obtain ⟨m48, h49⟩ := h47
                        exact rl_evaluate_327 hC  m48 _ _ _ _ (hZ42.rv 87) (hZ42.ra 27 _) hZ42 h49
                      · have h50 := h35.2 c36
                        refine g_iconst (v := zI 3) hC dX12_evaluate_304 rfl ?_
                        refine g_goto (tgt := 309) hC dX12_evaluate_305 (by decide) ?_
                        refine g_iload_n hC dX12_evaluate_309 rfl ?_
                        refine g_iconst (v := zI 0) hC dX12_evaluate_310 rfl ?_
                        refine zr_callVv (As := [.int (zI 3), .int (zI a0), .int (zI 0)]) hC hZ rfl (rm_todoTask X.la d b (by decide) Ra0 (by decide) hZ.rf h50) cl_X12_801 rfl rfl (Nat.le_of_ble_eq_true rfl) ⟨Nat.le_of_ble_eq_true rfl, Nat.le_of_ble_eq_true rfl⟩ dX12_evaluate_311 (fun s52 F53 hZ55 h56 => ?_)
                        refine g_aload_n hC dX12_evaluate_314 rfl ?_
                        refine zr_get (e := (zv s52 87)) hC hZ55 fl_X12_276 zb_87 (by decide) rfl dX12_evaluate_315 ?_
                        refine g_istore_n (lv' := [some (.ref t), some (.int (zI a0)), some (.int (zI (za s0 25 (Int.toNat a0)))), some (.int (zI (zv s52 87))), none, none]) hC dX12_evaluate_318 (Nat.le_of_ble_eq_true rfl) rfl rfl ?_
                        refine g_aload_n hC dX12_evaluate_319 rfl ?_
                        refine zr_geta hC hZ55 fl_X12_93 zb_27 (by decide) dX12_evaluate_320 ?_
                        refine g_iload_n hC dX12_evaluate_323 rfl ?_
                        obtain ⟨o57, h58⟩ := h56
                        obtain ⟨o59, h60⟩ := h58
                        refine zr_iald (v := (za s52 27 (Int.toNat a0))) hC hZ55 zk_27 zb_27 zn_27 (by decide) o57 o59 rfl dX12_evaluate_324 ?_
                        refine g_istore (lv' := [some (.ref t), some (.int (zI a0)), some (.int (zI (za s0 25 (Int.toNat a0)))), some (.int (zI (zv s52 87))), some (.int (zI (za s52 27 (Int.toNat a0)))), none]) hC dX12_evaluate_325 (Nat.le_of_ble_eq_true rfl) rfl rfl ?_
                        refine g_lv (lv' := [some (.ref t), none, none, some (.int (zI (zv s52 87))), some (.int (zI (za s52 27 (Int.toNat a0)))), none]) ⟨rfl, rfl, rfl, trivial⟩ ?_
                        obtain ⟨m61, h62⟩ := h60
                        exact rl_evaluate_327 hC  m61 _ _ _ _ (hZ55.rv 87) (hZ55.ra 27 _) hZ55 h62
                    · have h63 := h33.2 c34
                      refine g_iconst (v := zI 2) hC dX12_evaluate_294 rfl ?_
                      refine g_goto (tgt := 309) hC dX12_evaluate_295 (by decide) ?_
                      refine g_iload_n hC dX12_evaluate_309 rfl ?_
                      refine g_iconst (v := zI 0) hC dX12_evaluate_310 rfl ?_
                      refine zr_callVv (As := [.int (zI 2), .int (zI a0), .int (zI 0)]) hC hZ rfl (rm_todoTask X.la d b (by decide) Ra0 (by decide) hZ.rf h63) cl_X12_801 rfl rfl (Nat.le_of_ble_eq_true rfl) ⟨Nat.le_of_ble_eq_true rfl, Nat.le_of_ble_eq_true rfl⟩ dX12_evaluate_311 (fun s65 F66 hZ68 h69 => ?_)
                      refine g_aload_n hC dX12_evaluate_314 rfl ?_
                      refine zr_get (e := (zv s65 87)) hC hZ68 fl_X12_276 zb_87 (by decide) rfl dX12_evaluate_315 ?_
                      refine g_istore_n (lv' := [some (.ref t), some (.int (zI a0)), some (.int (zI (za s0 25 (Int.toNat a0)))), some (.int (zI (zv s65 87))), none, none]) hC dX12_evaluate_318 (Nat.le_of_ble_eq_true rfl) rfl rfl ?_
                      refine g_aload_n hC dX12_evaluate_319 rfl ?_
                      refine zr_geta hC hZ68 fl_X12_93 zb_27 (by decide) dX12_evaluate_320 ?_
                      refine g_iload_n hC dX12_evaluate_323 rfl ?_
                      obtain ⟨o70, h71⟩ := h69
                      obtain ⟨o72, h73⟩ := h71
                      refine zr_iald (v := (za s65 27 (Int.toNat a0))) hC hZ68 zk_27 zb_27 zn_27 (by decide) o70 o72 rfl dX12_evaluate_324 ?_
                      refine g_istore (lv' := [some (.ref t), some (.int (zI a0)), some (.int (zI (za s0 25 (Int.toNat a0)))), some (.int (zI (zv s65 87))), some (.int (zI (za s65 27 (Int.toNat a0)))), none]) hC dX12_evaluate_325 (Nat.le_of_ble_eq_true rfl) rfl rfl ?_
                      refine g_lv (lv' := [some (.ref t), none, none, some (.int (zI (zv s65 87))), some (.int (zI (za s65 27 (Int.toNat a0)))), none]) ⟨rfl, rfl, rfl, trivial⟩ ?_
                      obtain ⟨m74, h75⟩ := h73
                      exact rl_evaluate_327 hC  m74 _ _ _ _ (hZ68.rv 87) (hZ68.ra 27 _) hZ68 h75
                  · have h76 := h31.2 c32
                    refine g_aload_n hC dX12_evaluate_209 rfl ?_
                    refine zr_get (e := (zv s0 87)) hC hZ fl_X12_276 zb_87 (by decide) rfl dX12_evaluate_210 ?_
                    refine g_istore_n (lv' := [some (.ref t), some (.int (zI a0)), some (.int (zI (za s0 25 (Int.toNat a0)))), some (.int (zI (zv s0 87))), none, none]) hC dX12_evaluate_213 (Nat.le_of_ble_eq_true rfl) rfl rfl ?_
                    refine g_iconst (v := zI 0) hC dX12_evaluate_214 rfl ?_
                    refine g_istore (lv' := [some (.ref t), some (.int (zI a0)), some (.int (zI (za s0 25 (Int.toNat a0)))), some (.int (zI (zv s0 87))), some (.int (zI 0)), none]) hC dX12_evaluate_215 (Nat.le_of_ble_eq_true rfl) rfl rfl ?_
                    refine g_aload_n hC dX12_evaluate_217 rfl ?_
                    refine zr_geta hC hZ fl_X12_96 zb_28 (by decide) dX12_evaluate_218 ?_
                    refine g_aload_n hC dX12_evaluate_221 rfl ?_
                    refine zr_geta hC hZ fl_X12_93 zb_27 (by decide) dX12_evaluate_222 ?_
                    refine g_iload_n hC dX12_evaluate_225 rfl ?_
                    obtain ⟨o77, h78⟩ := h76
                    obtain ⟨o79, h80⟩ := h78
                    refine zr_iald (v := (za s0 27 (Int.toNat a0))) hC hZ zk_27 zb_27 zn_27 (by decide) o77 o79 rfl dX12_evaluate_226 ?_
                    obtain ⟨o81, h82⟩ := h80
                    obtain ⟨o83, h84⟩ := h82
                    refine zr_iald (v := (za s0 28 (Int.toNat (za s0 27 (Int.toNat a0))))) hC hZ zk_28 zb_28 zn_28 (by decide) o81 o83 rfl dX12_evaluate_227 ?_
                    refine g_istore (lv' := [some (.ref t), some (.int (zI a0)), some (.int (zI (za s0 25 (Int.toNat a0)))), some (.int (zI (zv s0 87))), some (.int (zI 0)), some (.int (zI (za s0 28 (Int.toNat (za s0 27 (Int.toNat a0))))))]) hC dX12_evaluate_228 (Nat.le_of_ble_eq_true rfl) rfl rfl ?_
                    refine g_lv (lv' := [some (.ref t), some (.int (zI a0)), none, some (.int (zI (zv s0 87))), some (.int (zI 0)), some (.int (zI (za s0 28 (Int.toNat (za s0 27 (Int.toNat a0))))))]) ⟨rfl, rfl, rfl, rfl, rfl, trivial⟩ ?_
                    obtain ⟨m85, h86⟩ := h84
                    exact rl_evaluate_230 hC  m85 _ _ _ _ _ _ Ra0 (hZ.rv 87) (by decide) (hZ.ra 28 _) hZ h86
                · have h87 := h29.2 c30
                  refine g_aload_n hC dX12_evaluate_170 rfl ?_
                  refine g_bipush (v := zI 6) hC dX12_evaluate_171 rfl ?_
                  refine g_aload_n hC dX12_evaluate_173 rfl ?_
                  refine zr_geta hC hZ fl_X12_96 zb_28 (by decide) dX12_evaluate_174 ?_
                  refine g_aload_n hC dX12_evaluate_177 rfl ?_
                  refine zr_geta hC hZ fl_X12_93 zb_27 (by decide) dX12_evaluate_178 ?_
                  refine g_iload_n hC dX12_evaluate_181 rfl ?_
                  obtain ⟨o88, h89⟩ := h87
                  obtain ⟨o90, h91⟩ := h89
                  refine zr_iald (v := (za s0 27 (Int.toNat a0))) hC hZ zk_27 zb_27 zn_27 (by decide) o88 o90 rfl dX12_evaluate_182 ?_
                  obtain ⟨o92, h93⟩ := h91
                  obtain ⟨o94, h95⟩ := h93
                  refine zr_iald (v := (za s0 28 (Int.toNat (za s0 27 (Int.toNat a0))))) hC hZ zk_28 zb_28 zn_28 (by decide) o92 o94 rfl dX12_evaluate_183 ?_
                  refine g_iconst (v := zI 0) hC dX12_evaluate_184 rfl ?_
                  refine zr_callVv (As := [.int (zI 6), .int (zI (za s0 28 (Int.toNat (za s0 27 (Int.toNat a0))))), .int (zI 0)]) hC hZ rfl (rm_todoTask X.la d b (by decide) (hZ.ra 28 _) (by decide) hZ.rf h95) cl_X12_801 rfl rfl (Nat.le_of_ble_eq_true rfl) ⟨Nat.le_of_ble_eq_true rfl, Nat.le_of_ble_eq_true rfl⟩ dX12_evaluate_185 (fun s97 F98 hZ100 h101 => ?_)
                  refine g_aload_n hC dX12_evaluate_188 rfl ?_
                  refine g_iconst (v := zI 1) hC dX12_evaluate_189 rfl ?_
                  refine g_aload_n hC dX12_evaluate_190 rfl ?_
                  refine zr_geta hC hZ100 fl_X12_93 zb_27 (by decide) dX12_evaluate_191 ?_
                  refine g_iload_n hC dX12_evaluate_194 rfl ?_
                  obtain ⟨o102, h103⟩ := h101
                  obtain ⟨o104, h105⟩ := h103
                  refine zr_iald (v := (za s97 27 (Int.toNat a0))) hC hZ100 zk_27 zb_27 zn_27 (by decide) o102 o104 rfl dX12_evaluate_195 ?_
                  refine g_iconst (v := zI 0) hC dX12_evaluate_196 rfl ?_
                  refine zr_callVv (As := [.int (zI 1), .int (zI (za s97 27 (Int.toNat a0))), .int (zI 0)]) hC hZ100 rfl (rm_todoTask X.la d b (by decide) (hZ100.ra 27 _) (by decide) hZ100.rf h105) cl_X12_801 rfl rfl (Nat.le_of_ble_eq_true rfl) ⟨Nat.le_of_ble_eq_true rfl, Nat.le_of_ble_eq_true rfl⟩ dX12_evaluate_197 (fun s107 F108 hZ110 h111 => ?_)
                  refine g_goto (tgt := 357) hC dX12_evaluate_200 (by decide) ?_
                  exact zr_vret hC hZ110 h111 dX12_evaluate_357
              · have h112 := h27.2 c28
                refine g_aload_n hC dX12_evaluate_142 rfl ?_
                refine g_iconst (v := zI 5) hC dX12_evaluate_143 rfl ?_
                refine g_iload_n hC dX12_evaluate_144 rfl ?_
                refine g_iconst (v := zI 0) hC dX12_evaluate_145 rfl ?_
                refine zr_callVv (As := [.int (zI 5), .int (zI a0), .int (zI 0)]) hC hZ rfl (rm_todoTask X.la d b (by decide) Ra0 (by decide) hZ.rf h112) cl_X12_801 rfl rfl (Nat.le_of_ble_eq_true rfl) ⟨Nat.le_of_ble_eq_true rfl, Nat.le_of_ble_eq_true rfl⟩ dX12_evaluate_146 (fun s114 F115 hZ117 h118 => ?_)
                refine g_aload_n hC dX12_evaluate_149 rfl ?_
                refine g_iconst (v := zI 1) hC dX12_evaluate_150 rfl ?_
                refine g_aload_n hC dX12_evaluate_151 rfl ?_
                refine zr_geta hC hZ117 fl_X12_93 zb_27 (by decide) dX12_evaluate_152 ?_
                refine g_iload_n hC dX12_evaluate_155 rfl ?_
                obtain ⟨o119, h120⟩ := h118
                obtain ⟨o121, h122⟩ := h120
                refine zr_iald (v := (za s114 27 (Int.toNat a0))) hC hZ117 zk_27 zb_27 zn_27 (by decide) o119 o121 rfl dX12_evaluate_156 ?_
                refine g_iconst (v := zI 0) hC dX12_evaluate_157 rfl ?_
                refine zr_callVv (As := [.int (zI 1), .int (zI (za s114 27 (Int.toNat a0))), .int (zI 0)]) hC hZ117 rfl (rm_todoTask X.la d b (by decide) (hZ117.ra 27 _) (by decide) hZ117.rf h122) cl_X12_801 rfl rfl (Nat.le_of_ble_eq_true rfl) ⟨Nat.le_of_ble_eq_true rfl, Nat.le_of_ble_eq_true rfl⟩ dX12_evaluate_158 (fun s124 F125 hZ127 h128 => ?_)
                refine g_goto (tgt := 357) hC dX12_evaluate_161 (by decide) ?_
                exact zr_vret hC hZ127 h128 dX12_evaluate_357
            · have h129 := h25.2 c26
              refine g_aload_n hC dX12_evaluate_123 rfl ?_
              refine g_aload_n hC dX12_evaluate_124 rfl ?_
              refine zr_geta hC hZ fl_X12_93 zb_27 (by decide) dX12_evaluate_125 ?_
              refine g_iload_n hC dX12_evaluate_128 rfl ?_
              obtain ⟨o130, h131⟩ := h129
              obtain ⟨o132, h133⟩ := h131
              refine zr_iald (v := (za s0 27 (Int.toNat a0))) hC hZ zk_27 zb_27 zn_27 (by decide) o130 o132 rfl dX12_evaluate_129 ?_
              refine zr_callVv (As := [.int (zI (za s0 27 (Int.toNat a0)))]) hC hZ rfl (rm_address X.la d b (hZ.ra 27 _) hZ.rf h133) cl_X12_804 rfl rfl (Nat.le_of_ble_eq_true rfl) ⟨Nat.le_of_ble_eq_true rfl, Nat.le_of_ble_eq_true rfl⟩ dX12_evaluate_130 (fun s135 F136 hZ138 h139 => ?_)
              refine g_goto (tgt := 357) hC dX12_evaluate_133 (by decide) ?_
              exact zr_vret hC hZ138 h139 dX12_evaluate_357
          · have h140 := h23.2 c24
            refine g_aload_n hC dX12_evaluate_90 rfl ?_
            refine g_bipush (v := zI 8) hC dX12_evaluate_91 rfl ?_
            refine g_iload_n hC dX12_evaluate_93 rfl ?_
            refine g_aload_n hC dX12_evaluate_94 rfl ?_
            refine zr_get (e := (zv s0 91)) hC hZ fl_X12_289 zb_91 (by decide) rfl dX12_evaluate_95 ?_
            refine zr_callVv (As := [.int (zI 8), .int (zI a0), .int (zI (zv s0 91))]) hC hZ rfl (rm_todoTask X.la d b (by decide) Ra0 (hZ.rv 91) hZ.rf h140) cl_X12_801 rfl rfl (Nat.le_of_ble_eq_true rfl) ⟨Nat.le_of_ble_eq_true rfl, Nat.le_of_ble_eq_true rfl⟩ dX12_evaluate_98 (fun s142 F143 hZ145 h146 => ?_)
            refine g_aload_n hC dX12_evaluate_101 rfl ?_
            refine g_bipush (v := zI 10) hC dX12_evaluate_102 rfl ?_
            refine g_aload_n hC dX12_evaluate_104 rfl ?_
            refine zr_geta hC hZ145 fl_X12_93 zb_27 (by decide) dX12_evaluate_105 ?_
            refine g_iload_n hC dX12_evaluate_108 rfl ?_
            obtain ⟨o147, h148⟩ := h146
            obtain ⟨o149, h150⟩ := h148
            refine zr_iald (v := (za s142 27 (Int.toNat a0))) hC hZ145 zk_27 zb_27 zn_27 (by decide) o147 o149 rfl dX12_evaluate_109 ?_
            refine g_iconst (v := zI 0) hC dX12_evaluate_110 rfl ?_
            refine zr_callVv (As := [.int (zI 10), .int (zI (za s142 27 (Int.toNat a0))), .int (zI 0)]) hC hZ145 rfl (rm_todoTask X.la d b (by decide) (hZ145.ra 27 _) (by decide) hZ145.rf h150) cl_X12_801 rfl rfl (Nat.le_of_ble_eq_true rfl) ⟨Nat.le_of_ble_eq_true rfl, Nat.le_of_ble_eq_true rfl⟩ dX12_evaluate_111 (fun s152 F153 hZ155 h156 => ?_)
            refine g_goto (tgt := 357) hC dX12_evaluate_114 (by decide) ?_
            exact zr_vret hC hZ155 h156 dX12_evaluate_357
        · have h157 := h21.2 c22
          refine g_aload_n hC dX12_evaluate_53 rfl ?_
          refine g_iload_n hC dX12_evaluate_54 rfl ?_
          refine zr_callVi (As := [.int (zI a0)]) hC hZ rfl (rm_wordOf X.la d b Ra0 hZ.rf h157) cl_X12_798 rfl rfl (Nat.le_of_ble_eq_true rfl) ⟨Nat.le_of_ble_eq_true rfl, Nat.le_of_ble_eq_true rfl⟩ dX12_evaluate_55 (fun r158 s159 F160 R161 hZ162 h163 => ?_)
          refine g_istore_n (lv' := [some (.ref t), some (.int (zI a0)), some (.int (zI (za s0 25 (Int.toNat a0)))), some (.int (zI r158)), none, none]) hC dX12_evaluate_58 (Nat.le_of_ble_eq_true rfl) rfl rfl ?_
          refine g_aload_n hC dX12_evaluate_59 rfl ?_
          refine g_iload_n hC dX12_evaluate_60 rfl ?_
          refine zr_if_ge (tgt := 73) hC R161 dX12_evaluate_61 (by decide) (fun c164 => ?_) (fun c164 => ?_)
          · have h165 := h163.1 c164
            refine g_aload_n hC dX12_evaluate_73 rfl ?_
            refine zr_geta hC hZ162 fl_X12_312 zb_98 (by decide) dX12_evaluate_74 ?_
            refine g_iload_n hC dX12_evaluate_77 rfl ?_
            obtain ⟨o166, h167⟩ := h165
            obtain ⟨o168, h169⟩ := h167
            refine zr_iald (v := (za s159 98 (Int.toNat r158))) hC hZ162 zk_98 zb_98 zn_98 (by decide) o166 o168 rfl dX12_evaluate_78 ?_
            refine zr_callVv (As := [.int (zI (za s159 98 (Int.toNat r158)))]) hC hZ162 rfl (rm_push X.la d b (hZ162.ra 98 _) hZ162.rf h169) cl_X12_795 rfl rfl (Nat.le_of_ble_eq_true rfl) ⟨Nat.le_of_ble_eq_true rfl, Nat.le_of_ble_eq_true rfl⟩ dX12_evaluate_79 (fun s171 F172 hZ174 h175 => ?_)
            refine g_goto (tgt := 357) hC dX12_evaluate_82 (by decide) ?_
            exact zr_vret hC hZ174 h175 dX12_evaluate_357
          · have h176 := h163.2 c164
            refine g_aload_n hC dX12_evaluate_64 rfl ?_
            refine zr_geta hC hZ162 fl_X12_105 zb_31 (by decide) dX12_evaluate_65 ?_
            refine g_iload_n hC dX12_evaluate_68 rfl ?_
            obtain ⟨o177, h178⟩ := h176
            obtain ⟨o179, h180⟩ := h178
            refine zr_iald (v := (za s159 31 (Int.toNat a0))) hC hZ162 zk_31 zb_31 zn_31 (by decide) o177 o179 rfl dX12_evaluate_69 ?_
            refine g_goto (tgt := 79) hC dX12_evaluate_70 (by decide) ?_
            refine zr_callVv (As := [.int (zI (za s159 31 (Int.toNat a0)))]) hC hZ162 rfl (rm_push X.la d b (hZ162.ra 31 _) hZ162.rf h180) cl_X12_795 rfl rfl (Nat.le_of_ble_eq_true rfl) ⟨Nat.le_of_ble_eq_true rfl, Nat.le_of_ble_eq_true rfl⟩ dX12_evaluate_79 (fun s182 F183 hZ185 h186 => ?_)
            refine g_goto (tgt := 357) hC dX12_evaluate_82 (by decide) ?_
            exact zr_vret hC hZ185 h186 dX12_evaluate_357
      · have h187 := h19.2 c20
        refine g_aload_n hC dX12_evaluate_35 rfl ?_
        refine g_aload_n hC dX12_evaluate_36 rfl ?_
        refine zr_geta hC hZ fl_X12_105 zb_31 (by decide) dX12_evaluate_37 ?_
        refine g_iload_n hC dX12_evaluate_40 rfl ?_
        obtain ⟨o188, h189⟩ := h187
        obtain ⟨o190, h191⟩ := h189
        refine zr_iald (v := (za s0 31 (Int.toNat a0))) hC hZ zk_31 zb_31 zn_31 (by decide) o188 o190 rfl dX12_evaluate_41 ?_
        refine zr_callVv (As := [.int (zI (za s0 31 (Int.toNat a0)))]) hC hZ rfl (rm_push X.la d b (hZ.ra 31 _) hZ.rf h191) cl_X12_795 rfl rfl (Nat.le_of_ble_eq_true rfl) ⟨Nat.le_of_ble_eq_true rfl, Nat.le_of_ble_eq_true rfl⟩ dX12_evaluate_42 (fun s193 F194 hZ196 h197 => ?_)
        refine g_goto (tgt := 357) hC dX12_evaluate_45 (by decide) ?_
        exact zr_vret hC hZ196 h197 dX12_evaluate_357
  · have h198 := h4.2 c5
    refine g_aload_n hC dX12_evaluate_12 rfl ?_
    refine g_aload_n hC dX12_evaluate_13 rfl ?_
    refine zr_geta hC hZ fl_X12_99 zb_29 (by decide) dX12_evaluate_14 ?_
    refine g_iload_n hC dX12_evaluate_17 rfl ?_
    obtain ⟨o199, h200⟩ := h198
    obtain ⟨o201, h202⟩ := h200
    refine zr_iald (v := (za s0 29 (Int.toNat a0))) hC hZ zk_29 zb_29 zn_29 (by decide) o199 o201 rfl dX12_evaluate_18 ?_
    refine zr_callVv (As := [.int (zI (za s0 29 (Int.toNat a0)))]) hC hZ rfl (rm_push X.la d b (hZ.ra 29 _) hZ.rf h202) cl_X12_795 rfl rfl (Nat.le_of_ble_eq_true rfl) ⟨Nat.le_of_ble_eq_true rfl, Nat.le_of_ble_eq_true rfl⟩ dX12_evaluate_19 (fun s204 F205 hZ207 h208 => ?_)
    refine g_goto (tgt := 357) hC dX12_evaluate_22 (by decide) ?_
    exact zr_vret hC hZ207 h208 dX12_evaluate_357
theorem dX12_bin_0 : decode cX12_bin 0 = .ok (.aload_n 0, 1) := by decide +kernel
theorem dX12_bin_1 : decode cX12_bin 1 = .ok (.invokevirtual 810, 3) := by decide +kernel
theorem dX12_bin_4 : decode cX12_bin 4 = .ok (.istore_n 2, 1) := by decide +kernel
theorem dX12_bin_5 : decode cX12_bin 5 = .ok (.aload_n 0, 1) := by decide +kernel
theorem dX12_bin_6 : decode cX12_bin 6 = .ok (.invokevirtual 810, 3) := by decide +kernel
theorem dX12_bin_9 : decode cX12_bin 9 = .ok (.istore_n 3, 1) := by decide +kernel
theorem dX12_bin_10 : decode cX12_bin 10 = .ok (.aload_n 0, 1) := by decide +kernel
theorem dX12_bin_11 : decode cX12_bin 11 = .ok (.getfield 99, 3) := by decide +kernel
theorem dX12_bin_14 : decode cX12_bin 14 = .ok (.iload_n 1, 1) := by decide +kernel
theorem dX12_bin_15 : decode cX12_bin 15 = .ok (.iaload, 1) := by decide +kernel
theorem dX12_bin_16 : decode cX12_bin 16 = .ok (.istore 4, 2) := by decide +kernel
theorem dX12_bin_18 : decode cX12_bin 18 = .ok (.iload 4, 2) := by decide +kernel
theorem dX12_bin_20 : decode cX12_bin 20 = .ok (.bipush 18, 2) := by decide +kernel
theorem dX12_bin_22 : decode cX12_bin 22 = .ok (.if_icmp .ne 18, 3) := by decide +kernel
theorem dX12_bin_25 : decode cX12_bin 25 = .ok (.aload_n 0, 1) := by decide +kernel
theorem dX12_bin_26 : decode cX12_bin 26 = .ok (.aload_n 0, 1) := by decide +kernel
theorem dX12_bin_27 : decode cX12_bin 27 = .ok (.iload_n 3, 1) := by decide +kernel
theorem dX12_bin_28 : decode cX12_bin 28 = .ok (.iload_n 2, 1) := by decide +kernel
theorem dX12_bin_29 : decode cX12_bin 29 = .ok (.iadd, 1) := by decide +kernel
theorem dX12_bin_30 : decode cX12_bin 30 = .ok (.i2l, 1) := by decide +kernel
theorem dX12_bin_31 : decode cX12_bin 31 = .ok (.invokevirtual 813, 3) := by decide +kernel
theorem dX12_bin_34 : decode cX12_bin 34 = .ok (.invokevirtual 795, 3) := by decide +kernel
theorem dX12_bin_37 : decode cX12_bin 37 = .ok (.goto 76, 3) := by decide +kernel
theorem dX12_bin_40 : decode cX12_bin 40 = .ok (.iload 4, 2) := by decide +kernel
theorem dX12_bin_42 : decode cX12_bin 42 = .ok (.bipush 19, 2) := by decide +kernel
theorem dX12_bin_44 : decode cX12_bin 44 = .ok (.if_icmp .ne 32, 3) := by decide +kernel
theorem dX12_bin_47 : decode cX12_bin 47 = .ok (.aload_n 0, 1) := by decide +kernel
theorem dX12_bin_48 : decode cX12_bin 48 = .ok (.aload_n 0, 1) := by decide +kernel
theorem dX12_bin_49 : decode cX12_bin 49 = .ok (.iload_n 3, 1) := by decide +kernel
theorem dX12_bin_50 : decode cX12_bin 50 = .ok (.i2l, 1) := by decide +kernel
theorem dX12_bin_51 : decode cX12_bin 51 = .ok (.iload_n 2, 1) := by decide +kernel
theorem dX12_bin_52 : decode cX12_bin 52 = .ok (.iconst 2, 1) := by decide +kernel
theorem dX12_bin_53 : decode cX12_bin 53 = .ok (.ishr, 1) := by decide +kernel
theorem dX12_bin_54 : decode cX12_bin 54 = .ok (.i2l, 1) := by decide +kernel
theorem dX12_bin_55 : decode cX12_bin 55 = .ok (.ladd, 1) := by decide +kernel
theorem dX12_bin_56 : decode cX12_bin 56 = .ok (.invokevirtual 813, 3) := by decide +kernel
theorem dX12_bin_59 : decode cX12_bin 59 = .ok (.bipush 8, 2) := by decide +kernel
theorem dX12_bin_61 : decode cX12_bin 61 = .ok (.iload_n 2, 1) := by decide +kernel
theorem dX12_bin_62 : decode cX12_bin 62 = .ok (.iconst 3, 1) := by decide +kernel
theorem dX12_bin_63 : decode cX12_bin 63 = .ok (.iand, 1) := by decide +kernel
theorem dX12_bin_64 : decode cX12_bin 64 = .ok (.imul, 1) := by decide +kernel
theorem dX12_bin_65 : decode cX12_bin 65 = .ok (.iushr, 1) := by decide +kernel
theorem dX12_bin_66 : decode cX12_bin 66 = .ok (.sipush 255, 3) := by decide +kernel
theorem dX12_bin_69 : decode cX12_bin 69 = .ok (.iand, 1) := by decide +kernel
theorem dX12_bin_70 : decode cX12_bin 70 = .ok (.invokevirtual 795, 3) := by decide +kernel
theorem dX12_bin_73 : decode cX12_bin 73 = .ok (.goto 40, 3) := by decide +kernel
theorem dX12_bin_76 : decode cX12_bin 76 = .ok (.iload 4, 2) := by decide +kernel
theorem dX12_bin_78 : decode cX12_bin 78 = .ok (.bipush 24, 2) := by decide +kernel
theorem dX12_bin_80 : decode cX12_bin 80 = .ok (.if_icmp .eq 10, 3) := by decide +kernel
theorem dX12_bin_83 : decode cX12_bin 83 = .ok (.iload 4, 2) := by decide +kernel
theorem dX12_bin_85 : decode cX12_bin 85 = .ok (.bipush 73, 2) := by decide +kernel
theorem dX12_bin_87 : decode cX12_bin 87 = .ok (.if_icmp .ne 15, 3) := by decide +kernel
theorem dX12_bin_90 : decode cX12_bin 90 = .ok (.iload_n 2, 1) := by decide +kernel
theorem dX12_bin_91 : decode cX12_bin 91 = .ok (.ifCond .ne 11, 3) := by decide +kernel
theorem dX12_bin_94 : decode cX12_bin 94 = .ok (.aload_n 0, 1) := by decide +kernel
theorem dX12_bin_95 : decode cX12_bin 95 = .ok (.iconst 3, 1) := by decide +kernel
theorem dX12_bin_96 : decode cX12_bin 96 = .ok (.invokevirtual 792, 3) := by decide +kernel
theorem dX12_bin_99 : decode cX12_bin 99 = .ok (.goto 14, 3) := by decide +kernel
theorem dX12_bin_102 : decode cX12_bin 102 = .ok (.aload_n 0, 1) := by decide +kernel
theorem dX12_bin_103 : decode cX12_bin 103 = .ok (.iload 4, 2) := by decide +kernel
theorem dX12_bin_105 : decode cX12_bin 105 = .ok (.iload_n 3, 1) := by decide +kernel
theorem dX12_bin_106 : decode cX12_bin 106 = .ok (.iload_n 2, 1) := by decide +kernel
theorem dX12_bin_107 : decode cX12_bin 107 = .ok (.invokestatic 644, 3) := by decide +kernel
theorem dX12_bin_110 : decode cX12_bin 110 = .ok (.invokevirtual 795, 3) := by decide +kernel
theorem dX12_bin_113 : decode cX12_bin 113 = .ok (.return_, 1) := by decide +kernel
def wr_bin (s0 : zS) (a0 : Int) (Q : zS → Prop) : Prop :=
  wr_pop s0  (fun r1 s2 => wr_pop s2  (fun r7 s8 => (0 ≤ a0) ∧ (a0 < 26000) ∧ ((¬ (za s8 29 (Int.toNat a0)) = 18 → ((¬ (za s8 29 (Int.toNat a0)) = 19 → (((za s8 29 (Int.toNat a0)) = 24 → ((¬ r1 = 0 → wr_worked s8 (za s8 29 (Int.toNat a0)) r7 r1 (fun r25 s26 => wr_push s26 r25 (fun s32 => Q s32))) ∧ (r1 = 0 → wr_err s8 3 (fun s39 => Q s39)))) ∧ (¬ (za s8 29 (Int.toNat a0)) = 24 → ((¬ (za s8 29 (Int.toNat a0)) = 73 → wr_worked s8 (za s8 29 (Int.toNat a0)) r7 r1 (fun r47 s48 => wr_push s48 r47 (fun s54 => Q s54))) ∧ ((za s8 29 (Int.toNat a0)) = 73 → ((¬ r1 = 0 → wr_worked s8 (za s8 29 (Int.toNat a0)) r7 r1 (fun r62 s63 => wr_push s63 r62 (fun s69 => Q s69))) ∧ (r1 = 0 → wr_err s8 3 (fun s76 => Q s76)))))))) ∧ ((za s8 29 (Int.toNat a0)) = 19 → ∀ z82 : Int, z82 = zwl (r7 + (zsr r1 2)) → zL z82 → wr_read s8 z82 (fun r86 s87 => wr_push s87 (zan (zus r86 (8 * (zan r1 3))) 255) (fun s93 => Q s93))))) ∧ ((za s8 29 (Int.toNat a0)) = 18 → ∀ z99 : Int, z99 = zw (r7 + r1) → zR z99 → wr_read s8 z99 (fun r103 s104 => wr_push s104 r103 (fun s110 => Q s110))))))
set_option maxHeartbeats 4000000 in
set_option maxRecDepth 100000 in
theorem rm_bin (l : Launch) (d : gD) (b : Nat) {t : Nat} {T : Nat → Nat} {F : gM} {s0 : zS} {a0 : Int} (Ra0 : zR a0) {Q : zS → Prop} (hZ : zZ d t T F F s0) (hw : wr_bin s0 a0 Q) : gMv l d b yX12_bin cX12_bin 5 2 0 0 F [.ref t, .int (zI a0)] (zPv d t T F Q) := by
  refine gM_of2 rfl (nL := 5) (Nat.le_of_ble_eq_true rfl) ?_
  intro X hX hC; subst hX
  show gG X d b (zQv X d b t T F Q) F 0 0 0 [some (.ref t), some (.int (zI a0)), none, none, none] []
  unfold wr_bin at hw
  refine g_aload_n hC dX12_bin_0 rfl ?_
  refine zr_callVi (As := []) hC hZ rfl (rm_pop X.la d b  hZ.rf hw) cl_X12_810 rfl rfl (Nat.le_of_ble_eq_true rfl) ⟨Nat.le_of_ble_eq_true rfl, Nat.le_of_ble_eq_true rfl⟩ dX12_bin_1 (fun r1 s2 F3 R4 hZ5 h6 => ?_)
  refine g_istore_n (lv' := [some (.ref t), some (.int (zI a0)), some (.int (zI r1)), none, none]) hC dX12_bin_4 (Nat.le_of_ble_eq_true rfl) rfl rfl ?_
  refine g_aload_n hC dX12_bin_5 rfl ?_
  refine zr_callVi (As := []) hC hZ5 rfl (rm_pop X.la d b  hZ5.rf h6) cl_X12_810 rfl rfl (Nat.le_of_ble_eq_true rfl) ⟨Nat.le_of_ble_eq_true rfl, Nat.le_of_ble_eq_true rfl⟩ dX12_bin_6 (fun r7 s8 F9 R10 hZ11 h12 => ?_)
  refine g_istore_n (lv' := [some (.ref t), some (.int (zI a0)), some (.int (zI r1)), some (.int (zI r7)), none]) hC dX12_bin_9 (Nat.le_of_ble_eq_true rfl) rfl rfl ?_
  refine g_aload_n hC dX12_bin_10 rfl ?_
  refine zr_geta hC hZ11 fl_X12_99 zb_29 (by decide) dX12_bin_11 ?_
  refine g_iload_n hC dX12_bin_14 rfl ?_
  obtain ⟨o13, h14⟩ := h12
  obtain ⟨o15, h16⟩ := h14
  refine zr_iald (v := (za s8 29 (Int.toNat a0))) hC hZ11 zk_29 zb_29 zn_29 (by decide) o13 o15 rfl dX12_bin_15 ?_
  refine g_istore (lv' := [some (.ref t), some (.int (zI a0)), some (.int (zI r1)), some (.int (zI r7)), some (.int (zI (za s8 29 (Int.toNat a0))))]) hC dX12_bin_16 (Nat.le_of_ble_eq_true rfl) rfl rfl ?_
  refine g_iload hC dX12_bin_18 rfl ?_
  refine g_bipush (v := zI 18) hC dX12_bin_20 rfl ?_
  refine zr_icmp_ne (tgt := 40) hC (hZ11.ra 29 _) (by decide) dX12_bin_22 (by decide) (fun c17 => ?_) (fun c17 => ?_)
  · have h18 := h16.1 c17
    refine g_iload hC dX12_bin_40 rfl ?_
    refine g_bipush (v := zI 19) hC dX12_bin_42 rfl ?_
    refine zr_icmp_ne (tgt := 76) hC (hZ11.ra 29 _) (by decide) dX12_bin_44 (by decide) (fun c19 => ?_) (fun c19 => ?_)
    · have h20 := h18.1 c19
      refine g_iload hC dX12_bin_76 rfl ?_
      refine g_bipush (v := zI 24) hC dX12_bin_78 rfl ?_
      refine zr_icmp_eq (tgt := 90) hC (hZ11.ra 29 _) (by decide) dX12_bin_80 (by decide) (fun c21 => ?_) (fun c21 => ?_)
      · have h22 := h20.1 c21
        refine g_iload_n hC dX12_bin_90 rfl ?_
        refine zr_if_ne (tgt := 102) hC R4 dX12_bin_91 (by decide) (fun c23 => ?_) (fun c23 => ?_)
        · have h24 := h22.1 c23
          refine g_aload_n hC dX12_bin_102 rfl ?_
          refine g_iload hC dX12_bin_103 rfl ?_
          refine g_iload_n hC dX12_bin_105 rfl ?_
          refine g_iload_n hC dX12_bin_106 rfl ?_
          refine zr_callSi (As := [.int (zI (za s8 29 (Int.toNat a0))), .int (zI r7), .int (zI r1)]) hC hZ11 (rm_worked X.la d b (hZ11.ra 29 _) R10 R4 hZ11.rf h24) cl_X12_644 rfl rfl (Nat.le_of_ble_eq_true rfl) ⟨Nat.le_of_ble_eq_true rfl, Nat.le_of_ble_eq_true rfl⟩ dX12_bin_107 (fun r25 s26 F27 R28 hZ29 h30 => ?_)
          refine zr_callVv (As := [.int (zI r25)]) hC hZ29 rfl (rm_push X.la d b R28 hZ29.rf h30) cl_X12_795 rfl rfl (Nat.le_of_ble_eq_true rfl) ⟨Nat.le_of_ble_eq_true rfl, Nat.le_of_ble_eq_true rfl⟩ dX12_bin_110 (fun s32 F33 hZ35 h36 => ?_)
          exact zr_vret hC hZ35 h36 dX12_bin_113
        · have h37 := h22.2 c23
          refine g_aload_n hC dX12_bin_94 rfl ?_
          refine g_iconst (v := zI 3) hC dX12_bin_95 rfl ?_
          refine zr_callVv (As := [.int (zI 3)]) hC hZ11 rfl (rm_err X.la d b (by decide) hZ11.rf h37) cl_X12_792 rfl rfl (Nat.le_of_ble_eq_true rfl) ⟨Nat.le_of_ble_eq_true rfl, Nat.le_of_ble_eq_true rfl⟩ dX12_bin_96 (fun s39 F40 hZ42 h43 => ?_)
          refine g_goto (tgt := 113) hC dX12_bin_99 (by decide) ?_
          exact zr_vret hC hZ42 h43 dX12_bin_113
      · have h44 := h20.2 c21
        refine g_iload hC dX12_bin_83 rfl ?_
        refine g_bipush (v := zI 73) hC dX12_bin_85 rfl ?_
        refine zr_icmp_ne (tgt := 102) hC (hZ11.ra 29 _) (by decide) dX12_bin_87 (by decide) (fun c45 => ?_) (fun c45 => ?_)
        · have h46 := h44.1 c45
          refine g_aload_n hC dX12_bin_102 rfl ?_
          refine g_iload hC dX12_bin_103 rfl ?_
          refine g_iload_n hC dX12_bin_105 rfl ?_
          refine g_iload_n hC dX12_bin_106 rfl ?_
          refine zr_callSi (As := [.int (zI (za s8 29 (Int.toNat a0))), .int (zI r7), .int (zI r1)]) hC hZ11 (rm_worked X.la d b (hZ11.ra 29 _) R10 R4 hZ11.rf h46) cl_X12_644 rfl rfl (Nat.le_of_ble_eq_true rfl) ⟨Nat.le_of_ble_eq_true rfl, Nat.le_of_ble_eq_true rfl⟩ dX12_bin_107 (fun r47 s48 F49 R50 hZ51 h52 => ?_)
          refine zr_callVv (As := [.int (zI r47)]) hC hZ51 rfl (rm_push X.la d b R50 hZ51.rf h52) cl_X12_795 rfl rfl (Nat.le_of_ble_eq_true rfl) ⟨Nat.le_of_ble_eq_true rfl, Nat.le_of_ble_eq_true rfl⟩ dX12_bin_110 (fun s54 F55 hZ57 h58 => ?_)
          exact zr_vret hC hZ57 h58 dX12_bin_113
        · have h59 := h44.2 c45
          refine g_iload_n hC dX12_bin_90 rfl ?_
          refine zr_if_ne (tgt := 102) hC R4 dX12_bin_91 (by decide) (fun c60 => ?_) (fun c60 => ?_)
          · have h61 := h59.1 c60
            refine g_aload_n hC dX12_bin_102 rfl ?_
            refine g_iload hC dX12_bin_103 rfl ?_
            refine g_iload_n hC dX12_bin_105 rfl ?_
            refine g_iload_n hC dX12_bin_106 rfl ?_
            refine zr_callSi (As := [.int (zI (za s8 29 (Int.toNat a0))), .int (zI r7), .int (zI r1)]) hC hZ11 (rm_worked X.la d b (hZ11.ra 29 _) R10 R4 hZ11.rf h61) cl_X12_644 rfl rfl (Nat.le_of_ble_eq_true rfl) ⟨Nat.le_of_ble_eq_true rfl, Nat.le_of_ble_eq_true rfl⟩ dX12_bin_107 (fun r62 s63 F64 R65 hZ66 h67 => ?_)
            refine zr_callVv (As := [.int (zI r62)]) hC hZ66 rfl (rm_push X.la d b R65 hZ66.rf h67) cl_X12_795 rfl rfl (Nat.le_of_ble_eq_true rfl) ⟨Nat.le_of_ble_eq_true rfl, Nat.le_of_ble_eq_true rfl⟩ dX12_bin_110 (fun s69 F70 hZ72 h73 => ?_)
            exact zr_vret hC hZ72 h73 dX12_bin_113
          · have h74 := h59.2 c60
            refine g_aload_n hC dX12_bin_94 rfl ?_
            refine g_iconst (v := zI 3) hC dX12_bin_95 rfl ?_
            refine zr_callVv (As := [.int (zI 3)]) hC hZ11 rfl (rm_err X.la d b (by decide) hZ11.rf h74) cl_X12_792 rfl rfl (Nat.le_of_ble_eq_true rfl) ⟨Nat.le_of_ble_eq_true rfl, Nat.le_of_ble_eq_true rfl⟩ dX12_bin_96 (fun s76 F77 hZ79 h80 => ?_)
            refine g_goto (tgt := 113) hC dX12_bin_99 (by decide) ?_
            exact zr_vret hC hZ79 h80 dX12_bin_113
    · have h81 := h18.2 c19
      refine g_aload_n hC dX12_bin_47 rfl ?_
      refine g_aload_n hC dX12_bin_48 rfl ?_
      refine g_iload_n hC dX12_bin_49 rfl ?_
      refine zr_i2l hC dX12_bin_50 R10 ?_
      refine g_iload_n hC dX12_bin_51 rfl ?_
      refine g_iconst (v := zI 2) hC dX12_bin_52 rfl ?_
      refine zr_ishr hC dX12_bin_53 ?_
      refine zr_i2l hC dX12_bin_54 (zR_t _) ?_
      refine zr_ladd hC dX12_bin_55 ?_
      refine zr_wl (fun z82 e83 R84 => ?_)
      have h85 := h81 z82 e83 R84
      refine zr_callVi (As := [.long (zJ z82)]) hC hZ11 rfl (rm_read X.la d b R84 hZ11.rf h85) cl_X12_813 rfl rfl (Nat.le_of_ble_eq_true rfl) ⟨Nat.le_of_ble_eq_true rfl, Nat.le_of_ble_eq_true rfl⟩ dX12_bin_56 (fun r86 s87 F88 R89 hZ90 h91 => ?_)
      refine g_bipush (v := zI 8) hC dX12_bin_59 rfl ?_
      refine g_iload_n hC dX12_bin_61 rfl ?_
      refine g_iconst (v := zI 3) hC dX12_bin_62 rfl ?_
      refine zr_iand hC dX12_bin_63 ?_
      refine zr_imul hC dX12_bin_64 ?_
      refine zr_iushr hC dX12_bin_65 ?_
      refine g_sipush (v := zI 255) hC dX12_bin_66 rfl ?_
      refine zr_iand hC dX12_bin_69 ?_
      refine zr_callVv (As := [.int (zI (zan (zus r86 (8 * (zan r1 3))) 255))]) hC hZ90 rfl (rm_push X.la d b (zR_t _) hZ90.rf h91) cl_X12_795 rfl rfl (Nat.le_of_ble_eq_true rfl) ⟨Nat.le_of_ble_eq_true rfl, Nat.le_of_ble_eq_true rfl⟩ dX12_bin_70 (fun s93 F94 hZ96 h97 => ?_)
      refine g_goto (tgt := 113) hC dX12_bin_73 (by decide) ?_
      exact zr_vret hC hZ96 h97 dX12_bin_113
  · have h98 := h16.2 c17
    refine g_aload_n hC dX12_bin_25 rfl ?_
    refine g_aload_n hC dX12_bin_26 rfl ?_
    refine g_iload_n hC dX12_bin_27 rfl ?_
    refine g_iload_n hC dX12_bin_28 rfl ?_
    refine zr_iadd hC dX12_bin_29 ?_
    refine zr_w (fun z99 e100 R101 => ?_)
    have h102 := h98 z99 e100 R101
    refine zr_i2l hC dX12_bin_30 R101 ?_
    refine zr_callVi (As := [.long (zJ z99)]) hC hZ11 rfl (rm_read X.la d b (zR_L R101) hZ11.rf h102) cl_X12_813 rfl rfl (Nat.le_of_ble_eq_true rfl) ⟨Nat.le_of_ble_eq_true rfl, Nat.le_of_ble_eq_true rfl⟩ dX12_bin_31 (fun r103 s104 F105 R106 hZ107 h108 => ?_)
    refine zr_callVv (As := [.int (zI r103)]) hC hZ107 rfl (rm_push X.la d b R106 hZ107.rf h108) cl_X12_795 rfl rfl (Nat.le_of_ble_eq_true rfl) ⟨Nat.le_of_ble_eq_true rfl, Nat.le_of_ble_eq_true rfl⟩ dX12_bin_34 (fun s110 F111 hZ113 h114 => ?_)
    refine g_goto (tgt := 113) hC dX12_bin_37 (by decide) ?_
    exact zr_vret hC hZ113 h114 dX12_bin_113
theorem dX12_rel_0 : decode cX12_rel 0 = .ok (.iload_n 2, 1) := by decide +kernel
theorem dX12_rel_1 : decode cX12_rel 1 = .ok (.ifCond .ne 19, 3) := by decide +kernel
theorem dX12_rel_4 : decode cX12_rel 4 = .ok (.aload_n 0, 1) := by decide +kernel
theorem dX12_rel_5 : decode cX12_rel 5 = .ok (.bipush 6, 2) := by decide +kernel
theorem dX12_rel_7 : decode cX12_rel 7 = .ok (.iload_n 1, 1) := by decide +kernel
theorem dX12_rel_8 : decode cX12_rel 8 = .ok (.iconst 1, 1) := by decide +kernel
theorem dX12_rel_9 : decode cX12_rel 9 = .ok (.invokevirtual 801, 3) := by decide +kernel
theorem dX12_rel_12 : decode cX12_rel 12 = .ok (.aload_n 0, 1) := by decide +kernel
theorem dX12_rel_13 : decode cX12_rel 13 = .ok (.iconst 1, 1) := by decide +kernel
theorem dX12_rel_14 : decode cX12_rel 14 = .ok (.iload_n 1, 1) := by decide +kernel
theorem dX12_rel_15 : decode cX12_rel 15 = .ok (.iconst 0, 1) := by decide +kernel
theorem dX12_rel_16 : decode cX12_rel 16 = .ok (.invokevirtual 801, 3) := by decide +kernel
theorem dX12_rel_19 : decode cX12_rel 19 = .ok (.return_, 1) := by decide +kernel
theorem dX12_rel_20 : decode cX12_rel 20 = .ok (.aload_n 0, 1) := by decide +kernel
theorem dX12_rel_21 : decode cX12_rel 21 = .ok (.invokevirtual 810, 3) := by decide +kernel
theorem dX12_rel_24 : decode cX12_rel 24 = .ok (.istore_n 3, 1) := by decide +kernel
theorem dX12_rel_25 : decode cX12_rel 25 = .ok (.aload_n 0, 1) := by decide +kernel
theorem dX12_rel_26 : decode cX12_rel 26 = .ok (.invokevirtual 810, 3) := by decide +kernel
theorem dX12_rel_29 : decode cX12_rel 29 = .ok (.istore 4, 2) := by decide +kernel
theorem dX12_rel_31 : decode cX12_rel 31 = .ok (.aload_n 0, 1) := by decide +kernel
theorem dX12_rel_32 : decode cX12_rel 32 = .ok (.getfield 111, 3) := by decide +kernel
theorem dX12_rel_35 : decode cX12_rel 35 = .ok (.iload_n 1, 1) := by decide +kernel
theorem dX12_rel_36 : decode cX12_rel 36 = .ok (.iaload, 1) := by decide +kernel
theorem dX12_rel_37 : decode cX12_rel 37 = .ok (.iload 4, 2) := by decide +kernel
theorem dX12_rel_39 : decode cX12_rel 39 = .ok (.iload_n 3, 1) := by decide +kernel
theorem dX12_rel_40 : decode cX12_rel 40 = .ok (.invokestatic 641, 3) := by decide +kernel
theorem dX12_rel_43 : decode cX12_rel 43 = .ok (.istore 5, 2) := by decide +kernel
theorem dX12_rel_45 : decode cX12_rel 45 = .ok (.iload 5, 2) := by decide +kernel
theorem dX12_rel_47 : decode cX12_rel 47 = .ok (.ifCond .eq 43, 3) := by decide +kernel
theorem dX12_rel_50 : decode cX12_rel 50 = .ok (.aload_n 0, 1) := by decide +kernel
theorem dX12_rel_51 : decode cX12_rel 51 = .ok (.getfield 96, 3) := by decide +kernel
theorem dX12_rel_54 : decode cX12_rel 54 = .ok (.iload_n 1, 1) := by decide +kernel
theorem dX12_rel_55 : decode cX12_rel 55 = .ok (.iaload, 1) := by decide +kernel
theorem dX12_rel_56 : decode cX12_rel 56 = .ok (.ifCond .lt 34, 3) := by decide +kernel
theorem dX12_rel_59 : decode cX12_rel 59 = .ok (.aload_n 0, 1) := by decide +kernel
theorem dX12_rel_60 : decode cX12_rel 60 = .ok (.iload_n 3, 1) := by decide +kernel
theorem dX12_rel_61 : decode cX12_rel 61 = .ok (.invokevirtual 795, 3) := by decide +kernel
theorem dX12_rel_64 : decode cX12_rel 64 = .ok (.aload_n 0, 1) := by decide +kernel
theorem dX12_rel_65 : decode cX12_rel 65 = .ok (.bipush 6, 2) := by decide +kernel
theorem dX12_rel_67 : decode cX12_rel 67 = .ok (.aload_n 0, 1) := by decide +kernel
theorem dX12_rel_68 : decode cX12_rel 68 = .ok (.getfield 96, 3) := by decide +kernel
theorem dX12_rel_71 : decode cX12_rel 71 = .ok (.iload_n 1, 1) := by decide +kernel
theorem dX12_rel_72 : decode cX12_rel 72 = .ok (.iaload, 1) := by decide +kernel
theorem dX12_rel_73 : decode cX12_rel 73 = .ok (.iconst 1, 1) := by decide +kernel
theorem dX12_rel_74 : decode cX12_rel 74 = .ok (.invokevirtual 801, 3) := by decide +kernel
theorem dX12_rel_77 : decode cX12_rel 77 = .ok (.aload_n 0, 1) := by decide +kernel
theorem dX12_rel_78 : decode cX12_rel 78 = .ok (.iconst 1, 1) := by decide +kernel
theorem dX12_rel_79 : decode cX12_rel 79 = .ok (.aload_n 0, 1) := by decide +kernel
theorem dX12_rel_80 : decode cX12_rel 80 = .ok (.getfield 96, 3) := by decide +kernel
theorem dX12_rel_83 : decode cX12_rel 83 = .ok (.iload_n 1, 1) := by decide +kernel
theorem dX12_rel_84 : decode cX12_rel 84 = .ok (.iaload, 1) := by decide +kernel
theorem dX12_rel_85 : decode cX12_rel 85 = .ok (.iconst 0, 1) := by decide +kernel
theorem dX12_rel_86 : decode cX12_rel 86 = .ok (.invokevirtual 801, 3) := by decide +kernel
theorem dX12_rel_89 : decode cX12_rel 89 = .ok (.return_, 1) := by decide +kernel
theorem dX12_rel_90 : decode cX12_rel 90 = .ok (.aload_n 0, 1) := by decide +kernel
theorem dX12_rel_91 : decode cX12_rel 91 = .ok (.iload 5, 2) := by decide +kernel
theorem dX12_rel_93 : decode cX12_rel 93 = .ok (.ifCond .eq 7, 3) := by decide +kernel
theorem dX12_rel_96 : decode cX12_rel 96 = .ok (.iconst (-1), 1) := by decide +kernel
theorem dX12_rel_97 : decode cX12_rel 97 = .ok (.goto 4, 3) := by decide +kernel
theorem dX12_rel_100 : decode cX12_rel 100 = .ok (.iconst 0, 1) := by decide +kernel
theorem dX12_rel_101 : decode cX12_rel 101 = .ok (.invokevirtual 795, 3) := by decide +kernel
theorem dX12_rel_104 : decode cX12_rel 104 = .ok (.return_, 1) := by decide +kernel
def wr_rel (s0 : zS) (a0 : Int) (a1 : Int) (Q : zS → Prop) : Prop :=
  ((¬ a1 = 0 → wr_pop s0  (fun r3 s4 => wr_pop s4  (fun r9 s10 => (0 ≤ a0) ∧ (a0 < 26000) ∧ wr_related s10 (za s10 33 (Int.toNat a0)) r9 r3 (fun r19 s20 => ((r19 = 0 → ((r19 = 0 → wr_push s20 0 (fun s30 => Q s30)) ∧ (¬ r19 = 0 → wr_push s20 (-1) (fun s37 => Q s37)))) ∧ (¬ r19 = 0 → (0 ≤ a0) ∧ (a0 < 26000) ∧ (((za s20 28 (Int.toNat a0)) < 0 → ((r19 = 0 → wr_push s20 0 (fun s52 => Q s52)) ∧ (¬ r19 = 0 → wr_push s20 (-1) (fun s59 => Q s59)))) ∧ (¬ (za s20 28 (Int.toNat a0)) < 0 → wr_push s20 r3 (fun s66 => (0 ≤ a0) ∧ (a0 < 26000) ∧ wr_todoTask s66 6 (za s66 28 (Int.toNat a0)) 1 (fun s76 => (0 ≤ a0) ∧ (a0 < 26000) ∧ wr_todoTask s76 1 (za s76 28 (Int.toNat a0)) 0 (fun s86 => Q s86))))))))))) ∧ (a1 = 0 → wr_todoTask s0 6 a0 1 (fun s93 => wr_todoTask s93 1 a0 0 (fun s99 => Q s99))))
set_option maxHeartbeats 4000000 in
set_option maxRecDepth 100000 in
theorem rm_rel (l : Launch) (d : gD) (b : Nat) {t : Nat} {T : Nat → Nat} {F : gM} {s0 : zS} {a0 : Int} {a1 : Int} (Ra0 : zR a0) (Ra1 : zR a1) {Q : zS → Prop} (hZ : zZ d t T F F s0) (hw : wr_rel s0 a0 a1 Q) : gMv l d b yX12_rel cX12_rel 6 1 0 0 F [.ref t, .int (zI a0), .int (zI a1)] (zPv d t T F Q) := by
  refine gM_of2 rfl (nL := 6) (Nat.le_of_ble_eq_true rfl) ?_
  intro X hX hC; subst hX
  show gG X d b (zQv X d b t T F Q) F 0 0 0 [some (.ref t), some (.int (zI a0)), some (.int (zI a1)), none, none, none] []
  unfold wr_rel at hw
  refine g_iload_n hC dX12_rel_0 rfl ?_
  refine zr_if_ne (tgt := 20) hC Ra1 dX12_rel_1 (by decide) (fun c1 => ?_) (fun c1 => ?_)
  · have h2 := hw.1 c1
    refine g_aload_n hC dX12_rel_20 rfl ?_
    refine zr_callVi (As := []) hC hZ rfl (rm_pop X.la d b  hZ.rf h2) cl_X12_810 rfl rfl (Nat.le_of_ble_eq_true rfl) ⟨Nat.le_of_ble_eq_true rfl, Nat.le_of_ble_eq_true rfl⟩ dX12_rel_21 (fun r3 s4 F5 R6 hZ7 h8 => ?_)
    refine g_istore_n (lv' := [some (.ref t), some (.int (zI a0)), some (.int (zI a1)), some (.int (zI r3)), none, none]) hC dX12_rel_24 (Nat.le_of_ble_eq_true rfl) rfl rfl ?_
    refine g_aload_n hC dX12_rel_25 rfl ?_
    refine zr_callVi (As := []) hC hZ7 rfl (rm_pop X.la d b  hZ7.rf h8) cl_X12_810 rfl rfl (Nat.le_of_ble_eq_true rfl) ⟨Nat.le_of_ble_eq_true rfl, Nat.le_of_ble_eq_true rfl⟩ dX12_rel_26 (fun r9 s10 F11 R12 hZ13 h14 => ?_)
    refine g_istore (lv' := [some (.ref t), some (.int (zI a0)), some (.int (zI a1)), some (.int (zI r3)), some (.int (zI r9)), none]) hC dX12_rel_29 (Nat.le_of_ble_eq_true rfl) rfl rfl ?_
    refine g_aload_n hC dX12_rel_31 rfl ?_
    refine zr_geta hC hZ13 fl_X12_111 zb_33 (by decide) dX12_rel_32 ?_
    refine g_iload_n hC dX12_rel_35 rfl ?_
    obtain ⟨o15, h16⟩ := h14
    obtain ⟨o17, h18⟩ := h16
    refine zr_iald (v := (za s10 33 (Int.toNat a0))) hC hZ13 zk_33 zb_33 zn_33 (by decide) o15 o17 rfl dX12_rel_36 ?_
    refine g_iload hC dX12_rel_37 rfl ?_
    refine g_iload_n hC dX12_rel_39 rfl ?_
    refine zr_callSi (As := [.int (zI (za s10 33 (Int.toNat a0))), .int (zI r9), .int (zI r3)]) hC hZ13 (rm_related X.la d b (hZ13.ra 33 _) R12 R6 hZ13.rf h18) cl_X12_641 rfl rfl (Nat.le_of_ble_eq_true rfl) ⟨Nat.le_of_ble_eq_true rfl, Nat.le_of_ble_eq_true rfl⟩ dX12_rel_40 (fun r19 s20 F21 R22 hZ23 h24 => ?_)
    refine g_istore (lv' := [some (.ref t), some (.int (zI a0)), some (.int (zI a1)), some (.int (zI r3)), some (.int (zI r9)), some (.int (zI r19))]) hC dX12_rel_43 (Nat.le_of_ble_eq_true rfl) rfl rfl ?_
    refine g_iload hC dX12_rel_45 rfl ?_
    refine zr_if_eq (tgt := 90) hC R22 dX12_rel_47 (by decide) (fun c25 => ?_) (fun c25 => ?_)
    · have h26 := h24.1 c25
      refine g_aload_n hC dX12_rel_90 rfl ?_
      refine g_iload hC dX12_rel_91 rfl ?_
      refine zr_if_eq (tgt := 100) hC R22 dX12_rel_93 (by decide) (fun c27 => ?_) (fun c27 => ?_)
      · have h28 := h26.1 c27
        refine g_iconst (v := zI 0) hC dX12_rel_100 rfl ?_
        refine zr_callVv (As := [.int (zI 0)]) hC hZ23 rfl (rm_push X.la d b (by decide) hZ23.rf h28) cl_X12_795 rfl rfl (Nat.le_of_ble_eq_true rfl) ⟨Nat.le_of_ble_eq_true rfl, Nat.le_of_ble_eq_true rfl⟩ dX12_rel_101 (fun s30 F31 hZ33 h34 => ?_)
        exact zr_vret hC hZ33 h34 dX12_rel_104
      · have h35 := h26.2 c27
        refine g_iconst (v := zI (-1)) hC dX12_rel_96 rfl ?_
        refine g_goto (tgt := 101) hC dX12_rel_97 (by decide) ?_
        refine zr_callVv (As := [.int (zI (-1))]) hC hZ23 rfl (rm_push X.la d b (by decide) hZ23.rf h35) cl_X12_795 rfl rfl (Nat.le_of_ble_eq_true rfl) ⟨Nat.le_of_ble_eq_true rfl, Nat.le_of_ble_eq_true rfl⟩ dX12_rel_101 (fun s37 F38 hZ40 h41 => ?_)
        exact zr_vret hC hZ40 h41 dX12_rel_104
    · have h42 := h24.2 c25
      refine g_aload_n hC dX12_rel_50 rfl ?_
      refine zr_geta hC hZ23 fl_X12_96 zb_28 (by decide) dX12_rel_51 ?_
      refine g_iload_n hC dX12_rel_54 rfl ?_
      obtain ⟨o43, h44⟩ := h42
      obtain ⟨o45, h46⟩ := h44
      refine zr_iald (v := (za s20 28 (Int.toNat a0))) hC hZ23 zk_28 zb_28 zn_28 (by decide) o43 o45 rfl dX12_rel_55 ?_
      refine zr_if_lt (tgt := 90) hC (hZ23.ra 28 _) dX12_rel_56 (by decide) (fun c47 => ?_) (fun c47 => ?_)
      · have h48 := h46.1 c47
        refine g_aload_n hC dX12_rel_90 rfl ?_
        refine g_iload hC dX12_rel_91 rfl ?_
        refine zr_if_eq (tgt := 100) hC R22 dX12_rel_93 (by decide) (fun c49 => ?_) (fun c49 => ?_)
        · have h50 := h48.1 c49
          refine g_iconst (v := zI 0) hC dX12_rel_100 rfl ?_
          refine zr_callVv (As := [.int (zI 0)]) hC hZ23 rfl (rm_push X.la d b (by decide) hZ23.rf h50) cl_X12_795 rfl rfl (Nat.le_of_ble_eq_true rfl) ⟨Nat.le_of_ble_eq_true rfl, Nat.le_of_ble_eq_true rfl⟩ dX12_rel_101 (fun s52 F53 hZ55 h56 => ?_)
          exact zr_vret hC hZ55 h56 dX12_rel_104
        · have h57 := h48.2 c49
          refine g_iconst (v := zI (-1)) hC dX12_rel_96 rfl ?_
          refine g_goto (tgt := 101) hC dX12_rel_97 (by decide) ?_
          refine zr_callVv (As := [.int (zI (-1))]) hC hZ23 rfl (rm_push X.la d b (by decide) hZ23.rf h57) cl_X12_795 rfl rfl (Nat.le_of_ble_eq_true rfl) ⟨Nat.le_of_ble_eq_true rfl, Nat.le_of_ble_eq_true rfl⟩ dX12_rel_101 (fun s59 F60 hZ62 h63 => ?_)
          exact zr_vret hC hZ62 h63 dX12_rel_104
      · have h64 := h46.2 c47
        refine g_aload_n hC dX12_rel_59 rfl ?_
        refine g_iload_n hC dX12_rel_60 rfl ?_
        refine zr_callVv (As := [.int (zI r3)]) hC hZ23 rfl (rm_push X.la d b R6 hZ23.rf h64) cl_X12_795 rfl rfl (Nat.le_of_ble_eq_true rfl) ⟨Nat.le_of_ble_eq_true rfl, Nat.le_of_ble_eq_true rfl⟩ dX12_rel_61 (fun s66 F67 hZ69 h70 => ?_)
        refine g_aload_n hC dX12_rel_64 rfl ?_
        refine g_bipush (v := zI 6) hC dX12_rel_65 rfl ?_
        refine g_aload_n hC dX12_rel_67 rfl ?_
        refine zr_geta hC hZ69 fl_X12_96 zb_28 (by decide) dX12_rel_68 ?_
        refine g_iload_n hC dX12_rel_71 rfl ?_
        obtain ⟨o71, h72⟩ := h70
        obtain ⟨o73, h74⟩ := h72
        refine zr_iald (v := (za s66 28 (Int.toNat a0))) hC hZ69 zk_28 zb_28 zn_28 (by decide) o71 o73 rfl dX12_rel_72 ?_
        refine g_iconst (v := zI 1) hC dX12_rel_73 rfl ?_
        refine zr_callVv (As := [.int (zI 6), .int (zI (za s66 28 (Int.toNat a0))), .int (zI 1)]) hC hZ69 rfl (rm_todoTask X.la d b (by decide) (hZ69.ra 28 _) (by decide) hZ69.rf h74) cl_X12_801 rfl rfl (Nat.le_of_ble_eq_true rfl) ⟨Nat.le_of_ble_eq_true rfl, Nat.le_of_ble_eq_true rfl⟩ dX12_rel_74 (fun s76 F77 hZ79 h80 => ?_)
        refine g_aload_n hC dX12_rel_77 rfl ?_
        refine g_iconst (v := zI 1) hC dX12_rel_78 rfl ?_
        refine g_aload_n hC dX12_rel_79 rfl ?_
        refine zr_geta hC hZ79 fl_X12_96 zb_28 (by decide) dX12_rel_80 ?_
        refine g_iload_n hC dX12_rel_83 rfl ?_
        obtain ⟨o81, h82⟩ := h80
        obtain ⟨o83, h84⟩ := h82
        refine zr_iald (v := (za s76 28 (Int.toNat a0))) hC hZ79 zk_28 zb_28 zn_28 (by decide) o81 o83 rfl dX12_rel_84 ?_
        refine g_iconst (v := zI 0) hC dX12_rel_85 rfl ?_
        refine zr_callVv (As := [.int (zI 1), .int (zI (za s76 28 (Int.toNat a0))), .int (zI 0)]) hC hZ79 rfl (rm_todoTask X.la d b (by decide) (hZ79.ra 28 _) (by decide) hZ79.rf h84) cl_X12_801 rfl rfl (Nat.le_of_ble_eq_true rfl) ⟨Nat.le_of_ble_eq_true rfl, Nat.le_of_ble_eq_true rfl⟩ dX12_rel_86 (fun s86 F87 hZ89 h90 => ?_)
        exact zr_vret hC hZ89 h90 dX12_rel_89
  · have h91 := hw.2 c1
    refine g_aload_n hC dX12_rel_4 rfl ?_
    refine g_bipush (v := zI 6) hC dX12_rel_5 rfl ?_
    refine g_iload_n hC dX12_rel_7 rfl ?_
    refine g_iconst (v := zI 1) hC dX12_rel_8 rfl ?_
    refine zr_callVv (As := [.int (zI 6), .int (zI a0), .int (zI 1)]) hC hZ rfl (rm_todoTask X.la d b (by decide) Ra0 (by decide) hZ.rf h91) cl_X12_801 rfl rfl (Nat.le_of_ble_eq_true rfl) ⟨Nat.le_of_ble_eq_true rfl, Nat.le_of_ble_eq_true rfl⟩ dX12_rel_9 (fun s93 F94 hZ96 h97 => ?_)
    refine g_aload_n hC dX12_rel_12 rfl ?_
    refine g_iconst (v := zI 1) hC dX12_rel_13 rfl ?_
    refine g_iload_n hC dX12_rel_14 rfl ?_
    refine g_iconst (v := zI 0) hC dX12_rel_15 rfl ?_
    refine zr_callVv (As := [.int (zI 1), .int (zI a0), .int (zI 0)]) hC hZ96 rfl (rm_todoTask X.la d b (by decide) Ra0 (by decide) hZ96.rf h97) cl_X12_801 rfl rfl (Nat.le_of_ble_eq_true rfl) ⟨Nat.le_of_ble_eq_true rfl, Nat.le_of_ble_eq_true rfl⟩ dX12_rel_16 (fun s99 F100 hZ102 h103 => ?_)
    exact zr_vret hC hZ102 h103 dX12_rel_19
theorem dX12_limit_0 : decode cX12_limit 0 = .ok (.aload_n 0, 1) := by decide +kernel
theorem dX12_limit_1 : decode cX12_limit 1 = .ok (.getfield 336, 3) := by decide +kernel
theorem dX12_limit_4 : decode cX12_limit 4 = .ok (.ifCond .le 17, 3) := by decide +kernel
theorem dX12_limit_7 : decode cX12_limit 7 = .ok (.aload_n 0, 1) := by decide +kernel
theorem dX12_limit_8 : decode cX12_limit 8 = .ok (.getfield 339, 3) := by decide +kernel
theorem dX12_limit_11 : decode cX12_limit 11 = .ok (.aload_n 0, 1) := by decide +kernel
theorem dX12_limit_12 : decode cX12_limit 12 = .ok (.getfield 336, 3) := by decide +kernel
theorem dX12_limit_15 : decode cX12_limit 15 = .ok (.iconst 1, 1) := by decide +kernel
theorem dX12_limit_16 : decode cX12_limit 16 = .ok (.isub, 1) := by decide +kernel
theorem dX12_limit_17 : decode cX12_limit 17 = .ok (.iaload, 1) := by decide +kernel
theorem dX12_limit_18 : decode cX12_limit 18 = .ok (.goto 7, 3) := by decide +kernel
theorem dX12_limit_21 : decode cX12_limit 21 = .ok (.aload_n 0, 1) := by decide +kernel
theorem dX12_limit_22 : decode cX12_limit 22 = .ok (.getfield 315, 3) := by decide +kernel
theorem dX12_limit_25 : decode cX12_limit 25 = .ok (.ireturn, 1) := by decide +kernel
def wr_limit (s0 : zS)  (Q : Int → zS → Prop) : Prop :=
  (((zv s0 106) ≤ 0 → Q (zv s0 99) s0) ∧ (¬ (zv s0 106) ≤ 0 → (0 ≤ ((zv s0 106) - 1)) ∧ (((zv s0 106) - 1) < 100) ∧ Q (za s0 107 (Int.toNat ((zv s0 106) - 1))) s0))
set_option maxHeartbeats 4000000 in
set_option maxRecDepth 100000 in
theorem rm_limit (l : Launch) (d : gD) (b : Nat) {t : Nat} {T : Nat → Nat} {F : gM} {s0 : zS}   {Q : Int → zS → Prop} (hZ : zZ d t T F F s0) (hw : wr_limit s0  Q) : gMi l d b yX12_limit cX12_limit 1 .int 0 0 0 F [.ref t] (zPi d t T F Q) := by
  refine gM_of2 rfl (nL := 1) (Nat.le_of_ble_eq_true rfl) ?_
  intro X hX hC; subst hX
  show gG X d b (zQi X d b t T F Q) F 0 0 0 [some (.ref t)] []
  unfold wr_limit at hw
  refine g_aload_n hC dX12_limit_0 rfl ?_
  refine zr_get (e := (zv s0 106)) hC hZ fl_X12_336 zb_106 (by decide) rfl dX12_limit_1 ?_
  refine zr_if_le (tgt := 21) hC (hZ.rv 106) dX12_limit_4 (by decide) (fun c1 => ?_) (fun c1 => ?_)
  · have h2 := hw.1 c1
    refine g_aload_n hC dX12_limit_21 rfl ?_
    refine zr_get (e := (zv s0 99)) hC hZ fl_X12_315 zb_99 (by decide) rfl dX12_limit_22 ?_
    exact zr_iret hC hZ (hZ.rv 99) h2 dX12_limit_25
  · have h3 := hw.2 c1
    refine g_aload_n hC dX12_limit_7 rfl ?_
    refine zr_geta hC hZ fl_X12_339 zb_107 (by decide) dX12_limit_8 ?_
    refine g_aload_n hC dX12_limit_11 rfl ?_
    refine zr_get (e := (zv s0 106)) hC hZ fl_X12_336 zb_106 (by decide) rfl dX12_limit_12 ?_
    refine g_iconst (v := zI 1) hC dX12_limit_15 rfl ?_
    refine zr_isub hC dX12_limit_16 ?_
    obtain ⟨o4, h5⟩ := h3
    obtain ⟨o6, h7⟩ := h5
    refine zr_iald (v := (za s0 107 (Int.toNat ((zv s0 106) - 1)))) hC hZ zk_107 zb_107 zn_107 (by decide) o4 o6 rfl dX12_limit_17 ?_
    refine g_goto (tgt := 25) hC dX12_limit_18 (by decide) ?_
    exact zr_iret hC hZ (hZ.ra 107 _) h7 dX12_limit_25
theorem dX12_enter_0 : decode cX12_enter 0 = .ok (.aload_n 0, 1) := by decide +kernel
theorem dX12_enter_1 : decode cX12_enter 1 = .ok (.invokevirtual 817, 3) := by decide +kernel
theorem dX12_enter_4 : decode cX12_enter 4 = .ok (.ifCond .ne 4, 3) := by decide +kernel
theorem dX12_enter_7 : decode cX12_enter 7 = .ok (.return_, 1) := by decide +kernel
theorem dX12_enter_8 : decode cX12_enter 8 = .ok (.aload_n 0, 1) := by decide +kernel
theorem dX12_enter_9 : decode cX12_enter 9 = .ok (.getfield 302, 3) := by decide +kernel
theorem dX12_enter_12 : decode cX12_enter 12 = .ok (.bipush 100, 2) := by decide +kernel
theorem dX12_enter_14 : decode cX12_enter 14 = .ok (.if_icmp .eq 18, 3) := by decide +kernel
theorem dX12_enter_17 : decode cX12_enter 17 = .ok (.iload_n 2, 1) := by decide +kernel
theorem dX12_enter_18 : decode cX12_enter 18 = .ok (.aload_n 0, 1) := by decide +kernel
theorem dX12_enter_19 : decode cX12_enter 19 = .ok (.getfield 225, 3) := by decide +kernel
theorem dX12_enter_22 : decode cX12_enter 22 = .ok (.iload_n 1, 1) := by decide +kernel
theorem dX12_enter_23 : decode cX12_enter 23 = .ok (.iaload, 1) := by decide +kernel
theorem dX12_enter_24 : decode cX12_enter 24 = .ok (.iadd, 1) := by decide +kernel
theorem dX12_enter_25 : decode cX12_enter 25 = .ok (.aload_n 0, 1) := by decide +kernel
theorem dX12_enter_26 : decode cX12_enter 26 = .ok (.invokevirtual 820, 3) := by decide +kernel
theorem dX12_enter_29 : decode cX12_enter 29 = .ok (.if_icmp .le 9, 3) := by decide +kernel
theorem dX12_enter_32 : decode cX12_enter 32 = .ok (.aload_n 0, 1) := by decide +kernel
theorem dX12_enter_33 : decode cX12_enter 33 = .ok (.iconst 5, 1) := by decide +kernel
theorem dX12_enter_34 : decode cX12_enter 34 = .ok (.invokevirtual 792, 3) := by decide +kernel
theorem dX12_enter_37 : decode cX12_enter 37 = .ok (.return_, 1) := by decide +kernel
theorem dX12_enter_38 : decode cX12_enter 38 = .ok (.aload_n 0, 1) := by decide +kernel
theorem dX12_enter_39 : decode cX12_enter 39 = .ok (.getfield 289, 3) := by decide +kernel
theorem dX12_enter_42 : decode cX12_enter 42 = .ok (.iload_n 3, 1) := by decide +kernel
theorem dX12_enter_43 : decode cX12_enter 43 = .ok (.isub, 1) := by decide +kernel
theorem dX12_enter_44 : decode cX12_enter 44 = .ok (.istore 4, 2) := by decide +kernel
theorem dX12_enter_46 : decode cX12_enter 46 = .ok (.aload_n 0, 1) := by decide +kernel
theorem dX12_enter_47 : decode cX12_enter 47 = .ok (.getfield 312, 3) := by decide +kernel
theorem dX12_enter_50 : decode cX12_enter 50 = .ok (.iload_n 2, 1) := by decide +kernel
theorem dX12_enter_51 : decode cX12_enter 51 = .ok (.aload_n 0, 1) := by decide +kernel
theorem dX12_enter_52 : decode cX12_enter 52 = .ok (.getfield 305, 3) := by decide +kernel
theorem dX12_enter_55 : decode cX12_enter 55 = .ok (.iastore, 1) := by decide +kernel
theorem dX12_enter_56 : decode cX12_enter 56 = .ok (.aload_n 0, 1) := by decide +kernel
theorem dX12_enter_57 : decode cX12_enter 57 = .ok (.getfield 312, 3) := by decide +kernel
theorem dX12_enter_60 : decode cX12_enter 60 = .ok (.iload_n 2, 1) := by decide +kernel
theorem dX12_enter_61 : decode cX12_enter 61 = .ok (.iconst 1, 1) := by decide +kernel
theorem dX12_enter_62 : decode cX12_enter 62 = .ok (.iadd, 1) := by decide +kernel
theorem dX12_enter_63 : decode cX12_enter 63 = .ok (.ldc_w 762, 3) := by decide +kernel
theorem dX12_enter_66 : decode cX12_enter 66 = .ok (.iload_n 1, 1) := by decide +kernel
theorem dX12_enter_67 : decode cX12_enter 67 = .ok (.iadd, 1) := by decide +kernel
theorem dX12_enter_68 : decode cX12_enter 68 = .ok (.iastore, 1) := by decide +kernel
theorem dX12_enter_69 : decode cX12_enter 69 = .ok (.iconst 0, 1) := by decide +kernel
theorem dX12_enter_70 : decode cX12_enter 70 = .ok (.istore 5, 2) := by decide +kernel
theorem dX12_enter_72 : decode cX12_enter 72 = .ok (.iload 5, 2) := by decide +kernel
theorem dX12_enter_74 : decode cX12_enter 74 = .ok (.aload_n 0, 1) := by decide +kernel
theorem dX12_enter_75 : decode cX12_enter 75 = .ok (.getfield 228, 3) := by decide +kernel
theorem dX12_enter_78 : decode cX12_enter 78 = .ok (.iload_n 1, 1) := by decide +kernel
theorem dX12_enter_79 : decode cX12_enter 79 = .ok (.iaload, 1) := by decide +kernel
theorem dX12_enter_80 : decode cX12_enter 80 = .ok (.if_icmp .ge 40, 3) := by decide +kernel
theorem dX12_enter_83 : decode cX12_enter 83 = .ok (.aload_n 0, 1) := by decide +kernel
theorem dX12_enter_84 : decode cX12_enter 84 = .ok (.getfield 312, 3) := by decide +kernel
theorem dX12_enter_87 : decode cX12_enter 87 = .ok (.iload_n 2, 1) := by decide +kernel
theorem dX12_enter_88 : decode cX12_enter 88 = .ok (.iconst 2, 1) := by decide +kernel
theorem dX12_enter_89 : decode cX12_enter 89 = .ok (.iadd, 1) := by decide +kernel
theorem dX12_enter_90 : decode cX12_enter 90 = .ok (.iload 5, 2) := by decide +kernel
theorem dX12_enter_92 : decode cX12_enter 92 = .ok (.iadd, 1) := by decide +kernel
theorem dX12_enter_93 : decode cX12_enter 93 = .ok (.iload 5, 2) := by decide +kernel
theorem dX12_enter_95 : decode cX12_enter 95 = .ok (.iload_n 3, 1) := by decide +kernel
theorem dX12_enter_96 : decode cX12_enter 96 = .ok (.if_icmp .ge 16, 3) := by decide +kernel
theorem dX12_enter_99 : decode cX12_enter 99 = .ok (.aload_n 0, 1) := by decide +kernel
theorem dX12_enter_100 : decode cX12_enter 100 = .ok (.getfield 293, 3) := by decide +kernel
theorem dX12_enter_103 : decode cX12_enter 103 = .ok (.iload 4, 2) := by decide +kernel
theorem dX12_enter_105 : decode cX12_enter 105 = .ok (.iload 5, 2) := by decide +kernel
theorem dX12_enter_107 : decode cX12_enter 107 = .ok (.iadd, 1) := by decide +kernel
theorem dX12_enter_108 : decode cX12_enter 108 = .ok (.iaload, 1) := by decide +kernel
theorem dX12_enter_109 : decode cX12_enter 109 = .ok (.goto 4, 3) := by decide +kernel
theorem dX12_enter_112 : decode cX12_enter 112 = .ok (.iconst 0, 1) := by decide +kernel
theorem dX12_enter_113 : decode cX12_enter 113 = .ok (.iastore, 1) := by decide +kernel
theorem dX12_enter_114 : decode cX12_enter 114 = .ok (.iinc 5 1, 3) := by decide +kernel
theorem dX12_enter_117 : decode cX12_enter 117 = .ok (.goto (-45), 3) := by decide +kernel
theorem dX12_enter_120 : decode cX12_enter 120 = .ok (.aload_n 0, 1) := by decide +kernel
theorem dX12_enter_121 : decode cX12_enter 121 = .ok (.iload 4, 2) := by decide +kernel
theorem dX12_enter_123 : decode cX12_enter 123 = .ok (.putfield 289, 3) := by decide +kernel
theorem dX12_enter_126 : decode cX12_enter 126 = .ok (.aload_n 0, 1) := by decide +kernel
theorem dX12_enter_127 : decode cX12_enter 127 = .ok (.getfield 296, 3) := by decide +kernel
theorem dX12_enter_130 : decode cX12_enter 130 = .ok (.aload_n 0, 1) := by decide +kernel
theorem dX12_enter_131 : decode cX12_enter 131 = .ok (.getfield 302, 3) := by decide +kernel
theorem dX12_enter_134 : decode cX12_enter 134 = .ok (.aload_n 0, 1) := by decide +kernel
theorem dX12_enter_135 : decode cX12_enter 135 = .ok (.getfield 305, 3) := by decide +kernel
theorem dX12_enter_138 : decode cX12_enter 138 = .ok (.iastore, 1) := by decide +kernel
theorem dX12_enter_139 : decode cX12_enter 139 = .ok (.aload_n 0, 1) := by decide +kernel
theorem dX12_enter_140 : decode cX12_enter 140 = .ok (.getfield 299, 3) := by decide +kernel
theorem dX12_enter_143 : decode cX12_enter 143 = .ok (.aload_n 0, 1) := by decide +kernel
theorem dX12_enter_144 : decode cX12_enter 144 = .ok (.getfield 302, 3) := by decide +kernel
theorem dX12_enter_147 : decode cX12_enter 147 = .ok (.aload_n 0, 1) := by decide +kernel
theorem dX12_enter_148 : decode cX12_enter 148 = .ok (.getfield 308, 3) := by decide +kernel
theorem dX12_enter_151 : decode cX12_enter 151 = .ok (.iastore, 1) := by decide +kernel
theorem dX12_enter_152 : decode cX12_enter 152 = .ok (.aload_n 0, 1) := by decide +kernel
theorem dX12_enter_153 : decode cX12_enter 153 = .ok (.dup, 1) := by decide +kernel
theorem dX12_enter_154 : decode cX12_enter 154 = .ok (.getfield 302, 3) := by decide +kernel
theorem dX12_enter_157 : decode cX12_enter 157 = .ok (.iconst 1, 1) := by decide +kernel
theorem dX12_enter_158 : decode cX12_enter 158 = .ok (.iadd, 1) := by decide +kernel
theorem dX12_enter_159 : decode cX12_enter 159 = .ok (.putfield 302, 3) := by decide +kernel
theorem dX12_enter_162 : decode cX12_enter 162 = .ok (.aload_n 0, 1) := by decide +kernel
theorem dX12_enter_163 : decode cX12_enter 163 = .ok (.iload_n 2, 1) := by decide +kernel
theorem dX12_enter_164 : decode cX12_enter 164 = .ok (.putfield 305, 3) := by decide +kernel
theorem dX12_enter_167 : decode cX12_enter 167 = .ok (.aload_n 0, 1) := by decide +kernel
theorem dX12_enter_168 : decode cX12_enter 168 = .ok (.iload_n 1, 1) := by decide +kernel
theorem dX12_enter_169 : decode cX12_enter 169 = .ok (.putfield 308, 3) := by decide +kernel
theorem dX12_enter_172 : decode cX12_enter 172 = .ok (.aload_n 0, 1) := by decide +kernel
theorem dX12_enter_173 : decode cX12_enter 173 = .ok (.getfield 231, 3) := by decide +kernel
theorem dX12_enter_176 : decode cX12_enter 176 = .ok (.iload_n 1, 1) := by decide +kernel
theorem dX12_enter_177 : decode cX12_enter 177 = .ok (.iaload, 1) := by decide +kernel
theorem dX12_enter_178 : decode cX12_enter 178 = .ok (.istore 5, 2) := by decide +kernel
theorem dX12_enter_180 : decode cX12_enter 180 = .ok (.aload_n 0, 1) := by decide +kernel
theorem dX12_enter_181 : decode cX12_enter 181 = .ok (.getfield 87, 3) := by decide +kernel
theorem dX12_enter_184 : decode cX12_enter 184 = .ok (.iload 5, 2) := by decide +kernel
theorem dX12_enter_186 : decode cX12_enter 186 = .ok (.baload, 1) := by decide +kernel
theorem dX12_enter_187 : decode cX12_enter 187 = .ok (.bipush 20, 2) := by decide +kernel
theorem dX12_enter_189 : decode cX12_enter 189 = .ok (.if_icmp .ge 7, 3) := by decide +kernel
theorem dX12_enter_192 : decode cX12_enter 192 = .ok (.iconst 1, 1) := by decide +kernel
theorem dX12_enter_193 : decode cX12_enter 193 = .ok (.goto 4, 3) := by decide +kernel
theorem dX12_enter_196 : decode cX12_enter 196 = .ok (.iconst 0, 1) := by decide +kernel
theorem dX12_enter_197 : decode cX12_enter 197 = .ok (.istore 6, 2) := by decide +kernel
theorem dX12_enter_199 : decode cX12_enter 199 = .ok (.aload_n 0, 1) := by decide +kernel
theorem dX12_enter_200 : decode cX12_enter 200 = .ok (.bipush 18, 2) := by decide +kernel
theorem dX12_enter_202 : decode cX12_enter 202 = .ok (.iload 6, 2) := by decide +kernel
theorem dX12_enter_204 : decode cX12_enter 204 = .ok (.ifCond .eq 7, 3) := by decide +kernel
theorem dX12_enter_207 : decode cX12_enter 207 = .ok (.iconst 1, 1) := by decide +kernel
theorem dX12_enter_208 : decode cX12_enter 208 = .ok (.goto 4, 3) := by decide +kernel
theorem dX12_enter_211 : decode cX12_enter 211 = .ok (.iconst 0, 1) := by decide +kernel
theorem dX12_enter_212 : decode cX12_enter 212 = .ok (.aload_n 0, 1) := by decide +kernel
theorem dX12_enter_213 : decode cX12_enter 213 = .ok (.getfield 289, 3) := by decide +kernel
theorem dX12_enter_216 : decode cX12_enter 216 = .ok (.invokevirtual 801, 3) := by decide +kernel
theorem dX12_enter_219 : decode cX12_enter 219 = .ok (.aload_n 0, 1) := by decide +kernel
theorem dX12_enter_220 : decode cX12_enter 220 = .ok (.iload 6, 2) := by decide +kernel
theorem dX12_enter_222 : decode cX12_enter 222 = .ok (.ifCond .eq 7, 3) := by decide +kernel
theorem dX12_enter_225 : decode cX12_enter 225 = .ok (.iconst 1, 1) := by decide +kernel
theorem dX12_enter_226 : decode cX12_enter 226 = .ok (.goto 5, 3) := by decide +kernel
theorem dX12_enter_229 : decode cX12_enter 229 = .ok (.bipush 10, 2) := by decide +kernel
theorem dX12_enter_231 : decode cX12_enter 231 = .ok (.iload 5, 2) := by decide +kernel
theorem dX12_enter_233 : decode cX12_enter 233 = .ok (.iconst 0, 1) := by decide +kernel
theorem dX12_enter_234 : decode cX12_enter 234 = .ok (.invokevirtual 801, 3) := by decide +kernel
theorem dX12_enter_237 : decode cX12_enter 237 = .ok (.return_, 1) := by decide +kernel
def wr_enter_197 (Q : zS → Prop)  (s0 : zS) (x5 : Int) (y0 : Int) : Prop :=
  ((y0 = 0 → wr_todoTask s0 18 0 (zv s0 91) (fun s4 => ((y0 = 0 → wr_todoTask s4 10 x5 0 (fun s12 => Q s12)) ∧ (¬ y0 = 0 → wr_todoTask s4 1 x5 0 (fun s19 => Q s19))))) ∧ (¬ y0 = 0 → wr_todoTask s0 18 1 (zv s0 91) (fun s26 => ((y0 = 0 → wr_todoTask s26 10 x5 0 (fun s34 => Q s34)) ∧ (¬ y0 = 0 → wr_todoTask s26 1 x5 0 (fun s41 => Q s41))))))
def wr_enter_72B (Q : zS → Prop) (k72 : zS → Int → Int → Int → Int → Int → Prop) (s0 : zS) (x1 : Int) (x2 : Int) (x3 : Int) (x4 : Int) (x5 : Int) : Prop :=
  (0 ≤ x1) ∧ (x1 < 3100) ∧ (((za s0 71 (Int.toNat x1)) ≤ x5 → (0 ≤ (zv s0 95)) ∧ ((zv s0 95) < 600) ∧ (0 ≤ (zv s0 95)) ∧ ((zv s0 95) < 600) ∧ (zR ((zv s0 95) + 1)) ∧ (0 ≤ x1) ∧ (x1 < 3100) ∧ (0 ≤ (za s0 72 (Int.toNat x1))) ∧ ((za s0 72 (Int.toNat x1)) < 26000) ∧ ((20 ≤ (za s0 25 (Int.toNat (za s0 72 (Int.toNat x1)))) → wr_enter_197 Q  (zpv (zpv (zpv (zpa (zpa (zpv s0 91 x4) 93 (Int.toNat (zv s0 95)) (zv s0 96)) 94 (Int.toNat (zv s0 95)) (zv s0 97)) 95 ((zv s0 95) + 1)) 96 x2) 97 x1) (za s0 72 (Int.toNat x1)) 0) ∧ (¬ 20 ≤ (za s0 25 (Int.toNat (za s0 72 (Int.toNat x1)))) → wr_enter_197 Q  (zpv (zpv (zpv (zpa (zpa (zpv s0 91 x4) 93 (Int.toNat (zv s0 95)) (zv s0 96)) 94 (Int.toNat (zv s0 95)) (zv s0 97)) 95 ((zv s0 95) + 1)) 96 x2) 97 x1) (za s0 72 (Int.toNat x1)) 1))) ∧ (¬ (za s0 71 (Int.toNat x1)) ≤ x5 → ((x3 ≤ x5 → (0 ≤ ((x2 + 2) + x5)) ∧ (((x2 + 2) + x5) < 65536) ∧ (zR (x5 + 1)) ∧ k72 (zpa s0 98 (Int.toNat ((x2 + 2) + x5)) 0) x1 x2 x3 x4 (x5 + 1)) ∧ (¬ x3 ≤ x5 → (0 ≤ (x4 + x5)) ∧ ((x4 + x5) < 300000) ∧ (0 ≤ ((x2 + 2) + x5)) ∧ (((x2 + 2) + x5) < 65536) ∧ (zR (x5 + 1)) ∧ k72 (zpa s0 98 (Int.toNat ((x2 + 2) + x5)) (za s0 92 (Int.toNat (x4 + x5)))) x1 x2 x3 x4 (x5 + 1)))))
def wr_enter_72 (Q : zS → Prop)  : Nat → zS → Int → Int → Int → Int → Int → Prop
  | 0 => fun _ _ _ _ _ _ => False
  | m + 1 => fun s0 x1 x2 x3 x4 x5 => wr_enter_72B Q  (wr_enter_72 Q  m) s0 x1 x2 x3 x4 x5
def wr_enter (s0 : zS) (a0 : Int) (a1 : Int) (a2 : Int) (Q : zS → Prop) : Prop :=
  wr_burns s0  (fun r1 s2 => ((¬ r1 = 0 → (((zv s2 95) = 100 → wr_err s2 5 (fun s12 => Q s12)) ∧ (¬ (zv s2 95) = 100 → (0 ≤ a0) ∧ (a0 < 3100) ∧ wr_limit s2  (fun r22 s23 => (zR (a1 + (za s2 70 (Int.toNat a0)))) ∧ (((a1 + (za s2 70 (Int.toNat a0))) ≤ r22 → (0 ≤ a1) ∧ (a1 < 65536) ∧ (0 ≤ (a1 + 1)) ∧ ((a1 + 1) < 65536) ∧ (zR (1000000 + a0)) ∧ (zR ((zv s23 91) - a2)) ∧ ∃ n, wr_enter_72 Q  n (zpa (zpa s23 98 (Int.toNat a1) (zv s23 96)) 98 (Int.toNat (a1 + 1)) (1000000 + a0)) a0 a1 a2 ((zv s23 91) - a2) 0) ∧ (¬ (a1 + (za s2 70 (Int.toNat a0))) ≤ r22 → wr_err s23 5 (fun s52 => Q s52))))))) ∧ (r1 = 0 → Q s2)))
set_option maxHeartbeats 4000000 in
set_option maxRecDepth 100000 in
theorem rj_enter_197 {X : gX} {d : gD} {b t : Nat} {T : Nat → Nat} {F0 : gM} (hC : gC RX12 cX12_enter 7 none "enter" (gR 2 0 0) d b X) {Q : zS → Prop}   {F : gM} {s0 : zS} {x5 : Int} {y0 : Int} (Rx5 : zR x5) (Ry0 : zR y0) (hZ : zZ d t T F0 F s0) (hw : wr_enter_197 Q  s0 x5 y0) : gG X d b (zQv X d b t T F0 Q) F 0 0 197 [some (.ref t), none, none, none, none, some (.int (zI x5)), none] [.int (zI y0)] := by
  unfold wr_enter_197 at hw
  refine g_istore (lv' := [some (.ref t), none, none, none, none, some (.int (zI x5)), some (.int (zI y0))]) hC dX12_enter_197 (Nat.le_of_ble_eq_true rfl) rfl rfl ?_
  refine g_aload_n hC dX12_enter_199 rfl ?_
  refine g_bipush (v := zI 18) hC dX12_enter_200 rfl ?_
  refine g_iload hC dX12_enter_202 rfl ?_
  refine zr_if_eq (tgt := 211) hC Ry0 dX12_enter_204 (by decide) (fun c1 => ?_) (fun c1 => ?_)
  · have h2 := hw.1 c1
    refine g_iconst (v := zI 0) hC dX12_enter_211 rfl ?_
    refine g_aload_n hC dX12_enter_212 rfl ?_
    refine zr_get (e := (zv s0 91)) hC hZ fl_X12_289 zb_91 (by decide) rfl dX12_enter_213 ?_
    refine zr_callVv (As := [.int (zI 18), .int (zI 0), .int (zI (zv s0 91))]) hC hZ rfl (rm_todoTask X.la d b (by decide) (by decide) (hZ.rv 91) hZ.rf h2) cl_X12_801 rfl rfl (Nat.le_of_ble_eq_true rfl) ⟨Nat.le_of_ble_eq_true rfl, Nat.le_of_ble_eq_true rfl⟩ dX12_enter_216 (fun s4 F5 hZ7 h8 => ?_)
    refine g_aload_n hC dX12_enter_219 rfl ?_
    refine g_iload hC dX12_enter_220 rfl ?_
    refine zr_if_eq (tgt := 229) hC Ry0 dX12_enter_222 (by decide) (fun c9 => ?_) (fun c9 => ?_)
    · have h10 := h8.1 c9
      refine g_bipush (v := zI 10) hC dX12_enter_229 rfl ?_
      refine g_iload hC dX12_enter_231 rfl ?_
      refine g_iconst (v := zI 0) hC dX12_enter_233 rfl ?_
      refine zr_callVv (As := [.int (zI 10), .int (zI x5), .int (zI 0)]) hC hZ7 rfl (rm_todoTask X.la d b (by decide) Rx5 (by decide) hZ7.rf h10) cl_X12_801 rfl rfl (Nat.le_of_ble_eq_true rfl) ⟨Nat.le_of_ble_eq_true rfl, Nat.le_of_ble_eq_true rfl⟩ dX12_enter_234 (fun s12 F13 hZ15 h16 => ?_)
      exact zr_vret hC hZ15 h16 dX12_enter_237
    · have h17 := h8.2 c9
      refine g_iconst (v := zI 1) hC dX12_enter_225 rfl ?_
      refine g_goto (tgt := 231) hC dX12_enter_226 (by decide) ?_
      refine g_iload hC dX12_enter_231 rfl ?_
      refine g_iconst (v := zI 0) hC dX12_enter_233 rfl ?_
      refine zr_callVv (As := [.int (zI 1), .int (zI x5), .int (zI 0)]) hC hZ7 rfl (rm_todoTask X.la d b (by decide) Rx5 (by decide) hZ7.rf h17) cl_X12_801 rfl rfl (Nat.le_of_ble_eq_true rfl) ⟨Nat.le_of_ble_eq_true rfl, Nat.le_of_ble_eq_true rfl⟩ dX12_enter_234 (fun s19 F20 hZ22 h23 => ?_)
      exact zr_vret hC hZ22 h23 dX12_enter_237
  · have h24 := hw.2 c1
    refine g_iconst (v := zI 1) hC dX12_enter_207 rfl ?_
    refine g_goto (tgt := 212) hC dX12_enter_208 (by decide) ?_
    refine g_aload_n hC dX12_enter_212 rfl ?_
    refine zr_get (e := (zv s0 91)) hC hZ fl_X12_289 zb_91 (by decide) rfl dX12_enter_213 ?_
    refine zr_callVv (As := [.int (zI 18), .int (zI 1), .int (zI (zv s0 91))]) hC hZ rfl (rm_todoTask X.la d b (by decide) (by decide) (hZ.rv 91) hZ.rf h24) cl_X12_801 rfl rfl (Nat.le_of_ble_eq_true rfl) ⟨Nat.le_of_ble_eq_true rfl, Nat.le_of_ble_eq_true rfl⟩ dX12_enter_216 (fun s26 F27 hZ29 h30 => ?_)
    refine g_aload_n hC dX12_enter_219 rfl ?_
    refine g_iload hC dX12_enter_220 rfl ?_
    refine zr_if_eq (tgt := 229) hC Ry0 dX12_enter_222 (by decide) (fun c31 => ?_) (fun c31 => ?_)
    · have h32 := h30.1 c31
      refine g_bipush (v := zI 10) hC dX12_enter_229 rfl ?_
      refine g_iload hC dX12_enter_231 rfl ?_
      refine g_iconst (v := zI 0) hC dX12_enter_233 rfl ?_
      refine zr_callVv (As := [.int (zI 10), .int (zI x5), .int (zI 0)]) hC hZ29 rfl (rm_todoTask X.la d b (by decide) Rx5 (by decide) hZ29.rf h32) cl_X12_801 rfl rfl (Nat.le_of_ble_eq_true rfl) ⟨Nat.le_of_ble_eq_true rfl, Nat.le_of_ble_eq_true rfl⟩ dX12_enter_234 (fun s34 F35 hZ37 h38 => ?_)
      exact zr_vret hC hZ37 h38 dX12_enter_237
    · have h39 := h30.2 c31
      refine g_iconst (v := zI 1) hC dX12_enter_225 rfl ?_
      refine g_goto (tgt := 231) hC dX12_enter_226 (by decide) ?_
      refine g_iload hC dX12_enter_231 rfl ?_
      refine g_iconst (v := zI 0) hC dX12_enter_233 rfl ?_
      refine zr_callVv (As := [.int (zI 1), .int (zI x5), .int (zI 0)]) hC hZ29 rfl (rm_todoTask X.la d b (by decide) Rx5 (by decide) hZ29.rf h39) cl_X12_801 rfl rfl (Nat.le_of_ble_eq_true rfl) ⟨Nat.le_of_ble_eq_true rfl, Nat.le_of_ble_eq_true rfl⟩ dX12_enter_234 (fun s41 F42 hZ44 h45 => ?_)
      exact zr_vret hC hZ44 h45 dX12_enter_237
set_option maxHeartbeats 4000000 in
set_option maxRecDepth 100000 in
theorem rb_enter_72 {X : gX} {d : gD} {b t : Nat} {T : Nat → Nat} {F0 : gM} (hC : gC RX12 cX12_enter 7 none "enter" (gR 2 0 0) d b X) {Q : zS → Prop} {k72 : zS → Int → Int → Int → Int → Int → Prop} (hk72 : ∀ (F : gM) (s0 : zS) (x1 : Int) (x2 : Int) (x3 : Int) (x4 : Int) (x5 : Int), zR x1 → zR x2 → zR x3 → zR x4 → zR x5 → zZ d t T F0 F s0 → k72 s0 x1 x2 x3 x4 x5 → gG X d b (zQv X d b t T F0 Q) F 0 0 72 [some (.ref t), some (.int (zI x1)), some (.int (zI x2)), some (.int (zI x3)), some (.int (zI x4)), some (.int (zI x5)), none] []) {F : gM} {s0 : zS} {x1 : Int} {x2 : Int} {x3 : Int} {x4 : Int} {x5 : Int} (Rx1 : zR x1) (Rx2 : zR x2) (Rx3 : zR x3) (Rx4 : zR x4) (Rx5 : zR x5) (hZ : zZ d t T F0 F s0) (hw : wr_enter_72B Q k72 s0 x1 x2 x3 x4 x5) : gG X d b (zQv X d b t T F0 Q) F 0 0 72 [some (.ref t), some (.int (zI x1)), some (.int (zI x2)), some (.int (zI x3)), some (.int (zI x4)), some (.int (zI x5)), none] [] := by
  unfold wr_enter_72B at hw
  refine g_iload hC dX12_enter_72 rfl ?_
  refine g_aload_n hC dX12_enter_74 rfl ?_
  refine zr_geta hC hZ fl_X12_228 zb_71 (by decide) dX12_enter_75 ?_
  refine g_iload_n hC dX12_enter_78 rfl ?_
  obtain ⟨o1, h2⟩ := hw
  obtain ⟨o3, h4⟩ := h2
  refine zr_iald (v := (za s0 71 (Int.toNat x1))) hC hZ zk_71 zb_71 zn_71 (by decide) o1 o3 rfl dX12_enter_79 ?_
  refine zr_icmp_ge (tgt := 120) hC Rx5 (hZ.ra 71 _) dX12_enter_80 (by decide) (fun c5 => ?_) (fun c5 => ?_)
  · have h6 := h4.1 c5
    refine g_aload_n hC dX12_enter_120 rfl ?_
    refine g_iload hC dX12_enter_121 rfl ?_
    refine zr_put hC hZ fl_X12_289 zb_91 (by decide) Rx4 dX12_enter_123 (fun F7 hZ8 => ?_)
    refine g_aload_n hC dX12_enter_126 rfl ?_
    refine zr_geta hC hZ8 fl_X12_296 zb_93 (by decide) dX12_enter_127 ?_
    refine g_aload_n hC dX12_enter_130 rfl ?_
    refine zr_get (e := (zv s0 95)) hC hZ8 fl_X12_302 zb_95 (by decide) rfl dX12_enter_131 ?_
    refine g_aload_n hC dX12_enter_134 rfl ?_
    refine zr_get (e := (zv s0 96)) hC hZ8 fl_X12_305 zb_96 (by decide) rfl dX12_enter_135 ?_
    obtain ⟨o9, h10⟩ := h6
    obtain ⟨o11, h12⟩ := h10
    refine zr_iast hC hZ8 zk_93 zb_93 zn_93 (by decide) o9 o11 (hZ.rv 96) dX12_enter_138 (fun F13 hZ14 => ?_)
    refine g_aload_n hC dX12_enter_139 rfl ?_
    refine zr_geta hC hZ14 fl_X12_299 zb_94 (by decide) dX12_enter_140 ?_
    refine g_aload_n hC dX12_enter_143 rfl ?_
    refine zr_get (e := (zv s0 95)) hC hZ14 fl_X12_302 zb_95 (by decide) rfl dX12_enter_144 ?_
    refine g_aload_n hC dX12_enter_147 rfl ?_
    refine zr_get (e := (zv s0 97)) hC hZ14 fl_X12_308 zb_97 (by decide) rfl dX12_enter_148 ?_
    obtain ⟨o15, h16⟩ := h12
    obtain ⟨o17, h18⟩ := h16
    refine zr_iast hC hZ14 zk_94 zb_94 zn_94 (by decide) o15 o17 (hZ.rv 97) dX12_enter_151 (fun F19 hZ20 => ?_)
    refine g_aload_n hC dX12_enter_152 rfl ?_
    refine g_dup hC dX12_enter_153 rfl ?_
    refine zr_get (e := (zv s0 95)) hC hZ20 fl_X12_302 zb_95 (by decide) rfl dX12_enter_154 ?_
    refine g_iconst (v := zI 1) hC dX12_enter_157 rfl ?_
    refine zr_iadd hC dX12_enter_158 ?_
    obtain ⟨o21, h22⟩ := h18
    refine zr_put hC hZ20 fl_X12_302 zb_95 (by decide) o21 dX12_enter_159 (fun F23 hZ24 => ?_)
    refine g_aload_n hC dX12_enter_162 rfl ?_
    refine g_iload_n hC dX12_enter_163 rfl ?_
    refine zr_put hC hZ24 fl_X12_305 zb_96 (by decide) Rx2 dX12_enter_164 (fun F25 hZ26 => ?_)
    refine g_aload_n hC dX12_enter_167 rfl ?_
    refine g_iload_n hC dX12_enter_168 rfl ?_
    refine zr_put hC hZ26 fl_X12_308 zb_97 (by decide) Rx1 dX12_enter_169 (fun F27 hZ28 => ?_)
    refine g_aload_n hC dX12_enter_172 rfl ?_
    refine zr_geta hC hZ28 fl_X12_231 zb_72 (by decide) dX12_enter_173 ?_
    refine g_iload_n hC dX12_enter_176 rfl ?_
    obtain ⟨o29, h30⟩ := h22
    obtain ⟨o31, h32⟩ := h30
    refine zr_iald (v := (za s0 72 (Int.toNat x1))) hC hZ28 zk_72 zb_72 zn_72 (by decide) o29 o31 rfl dX12_enter_177 ?_
    refine g_istore (lv' := [some (.ref t), some (.int (zI x1)), some (.int (zI x2)), some (.int (zI x3)), some (.int (zI x4)), some (.int (zI (za s0 72 (Int.toNat x1)))), none]) hC dX12_enter_178 (Nat.le_of_ble_eq_true rfl) rfl rfl ?_
    refine g_aload_n hC dX12_enter_180 rfl ?_
    refine zr_geta hC hZ28 fl_X12_87 zb_25 (by decide) dX12_enter_181 ?_
    refine g_iload hC dX12_enter_184 rfl ?_
    obtain ⟨o33, h34⟩ := h32
    obtain ⟨o35, h36⟩ := h34
    refine zr_bald (v := (za s0 25 (Int.toNat (za s0 72 (Int.toNat x1))))) hC hZ28 zk_25 zb_25 zn_25 (by decide) o33 o35 rfl dX12_enter_186 ?_
    refine g_bipush (v := zI 20) hC dX12_enter_187 rfl ?_
    refine zr_icmp_ge (tgt := 196) hC (hZ.ra 25 _) (by decide) dX12_enter_189 (by decide) (fun c37 => ?_) (fun c37 => ?_)
    · have h38 := h36.1 c37
      refine g_iconst (v := zI 0) hC dX12_enter_196 rfl ?_
      refine g_lv (lv' := [some (.ref t), none, none, none, none, some (.int (zI (za s0 72 (Int.toNat x1)))), none]) ⟨rfl, rfl, trivial⟩ ?_
      exact rj_enter_197 hC  (hZ.ra 72 _) (by decide) hZ28 h38
    · have h39 := h36.2 c37
      refine g_iconst (v := zI 1) hC dX12_enter_192 rfl ?_
      refine g_goto (tgt := 197) hC dX12_enter_193 (by decide) ?_
      refine g_lv (lv' := [some (.ref t), none, none, none, none, some (.int (zI (za s0 72 (Int.toNat x1)))), none]) ⟨rfl, rfl, trivial⟩ ?_
      exact rj_enter_197 hC  (hZ.ra 72 _) (by decide) hZ28 h39
  · have h40 := h4.2 c5
    refine g_aload_n hC dX12_enter_83 rfl ?_
    refine zr_geta hC hZ fl_X12_312 zb_98 (by decide) dX12_enter_84 ?_
    refine g_iload_n hC dX12_enter_87 rfl ?_
    refine g_iconst (v := zI 2) hC dX12_enter_88 rfl ?_
    refine zr_iadd hC dX12_enter_89 ?_
    refine g_iload hC dX12_enter_90 rfl ?_
    refine zr_iadd hC dX12_enter_92 ?_
    refine g_iload hC dX12_enter_93 rfl ?_
    refine g_iload_n hC dX12_enter_95 rfl ?_
    refine zr_icmp_ge (tgt := 112) hC Rx5 Rx3 dX12_enter_96 (by decide) (fun c41 => ?_) (fun c41 => ?_)
    · have h42 := h40.1 c41
      refine g_iconst (v := zI 0) hC dX12_enter_112 rfl ?_
      obtain ⟨o43, h44⟩ := h42
      obtain ⟨o45, h46⟩ := h44
      refine zr_iast hC hZ zk_98 zb_98 zn_98 (by decide) o43 o45 (by decide) dX12_enter_113 (fun F47 hZ48 => ?_)
      refine zr_iinc (x := x5) (lv' := [some (.ref t), some (.int (zI x1)), some (.int (zI x2)), some (.int (zI x3)), some (.int (zI x4)), some (.int (zI (x5 + 1))), none]) hC dX12_enter_114 rfl rfl rfl ?_
      refine g_goto (tgt := 72) hC dX12_enter_117 (by decide) ?_
      obtain ⟨o49, h50⟩ := h46
      exact hk72 _ _ _ _ _ _ _ Rx1 Rx2 Rx3 Rx4 o49 hZ48 h50
    · have h51 := h40.2 c41
      refine g_aload_n hC dX12_enter_99 rfl ?_
      refine zr_geta hC hZ fl_X12_293 zb_92 (by decide) dX12_enter_100 ?_
      refine g_iload hC dX12_enter_103 rfl ?_
      refine g_iload hC dX12_enter_105 rfl ?_
      refine zr_iadd hC dX12_enter_107 ?_
      obtain ⟨o52, h53⟩ := h51
      obtain ⟨o54, h55⟩ := h53
      refine zr_iald (v := (za s0 92 (Int.toNat (x4 + x5)))) hC hZ zk_92 zb_92 zn_92 (by decide) o52 o54 rfl dX12_enter_108 ?_
      refine g_goto (tgt := 113) hC dX12_enter_109 (by decide) ?_
      obtain ⟨o56, h57⟩ := h55
      obtain ⟨o58, h59⟩ := h57
      refine zr_iast hC hZ zk_98 zb_98 zn_98 (by decide) o56 o58 (hZ.ra 92 _) dX12_enter_113 (fun F60 hZ61 => ?_)
      refine zr_iinc (x := x5) (lv' := [some (.ref t), some (.int (zI x1)), some (.int (zI x2)), some (.int (zI x3)), some (.int (zI x4)), some (.int (zI (x5 + 1))), none]) hC dX12_enter_114 rfl rfl rfl ?_
      refine g_goto (tgt := 72) hC dX12_enter_117 (by decide) ?_
      obtain ⟨o62, h63⟩ := h59
      exact hk72 _ _ _ _ _ _ _ Rx1 Rx2 Rx3 Rx4 o62 hZ61 h63
theorem rl_enter_72 {X : gX} {d : gD} {b t : Nat} {T : Nat → Nat} {F0 : gM} (hC : gC RX12 cX12_enter 7 none "enter" (gR 2 0 0) d b X) {Q : zS → Prop}   : ∀ (m : Nat) (F : gM) (s0 : zS) (x1 : Int) (x2 : Int) (x3 : Int) (x4 : Int) (x5 : Int), zR x1 → zR x2 → zR x3 → zR x4 → zR x5 → zZ d t T F0 F s0 → wr_enter_72 Q  m s0 x1 x2 x3 x4 x5 → gG X d b (zQv X d b t T F0 Q) F 0 0 72 [some (.ref t), some (.int (zI x1)), some (.int (zI x2)), some (.int (zI x3)), some (.int (zI x4)), some (.int (zI x5)), none] [] := by
  intro m
  induction m with
  | zero => intro F s0 x1 x2 x3 x4 x5 Rx1 Rx2 Rx3 Rx4 Rx5 hZ hw; exact False.elim hw
  | succ m ih => intro F s0 x1 x2 x3 x4 x5 Rx1 Rx2 Rx3 Rx4 Rx5 hZ hw; exact rb_enter_72 hC  ih Rx1 Rx2 Rx3 Rx4 Rx5 hZ hw
set_option maxHeartbeats 4000000 in
set_option maxRecDepth 100000 in
theorem rm_enter (l : Launch) (d : gD) (b : Nat) {t : Nat} {T : Nat → Nat} {F : gM} {s0 : zS} {a0 : Int} {a1 : Int} {a2 : Int} (Ra0 : zR a0) (Ra1 : zR a1) (Ra2 : zR a2) {Q : zS → Prop} (hZ : zZ d t T F F s0) (hw : wr_enter s0 a0 a1 a2 Q) : gMv l d b yX12_enter cX12_enter 7 2 0 0 F [.ref t, .int (zI a0), .int (zI a1), .int (zI a2)] (zPv d t T F Q) := by
  refine gM_of2 rfl (nL := 7) (Nat.le_of_ble_eq_true rfl) ?_
  intro X hX hC; subst hX
  show gG X d b (zQv X d b t T F Q) F 0 0 0 [some (.ref t), some (.int (zI a0)), some (.int (zI a1)), some (.int (zI a2)), none, none, none] []
  unfold wr_enter at hw
  refine g_aload_n hC dX12_enter_0 rfl ?_
  refine zr_callVi (As := []) hC hZ rfl (rm_burns X.la d b  hZ.rf hw) cl_X12_817 rfl rfl (Nat.le_of_ble_eq_true rfl) ⟨Nat.le_of_ble_eq_true rfl, Nat.le_of_ble_eq_true rfl⟩ dX12_enter_1 (fun r1 s2 F3 R4 hZ5 h6 => ?_)
  refine zr_if_ne (tgt := 8) hC R4 dX12_enter_4 (by decide) (fun c7 => ?_) (fun c7 => ?_)
  · have h8 := h6.1 c7
    refine g_aload_n hC dX12_enter_8 rfl ?_
    refine zr_get (e := (zv s2 95)) hC hZ5 fl_X12_302 zb_95 (by decide) rfl dX12_enter_9 ?_
    refine g_bipush (v := zI 100) hC dX12_enter_12 rfl ?_
    refine zr_icmp_eq (tgt := 32) hC (hZ5.rv 95) (by decide) dX12_enter_14 (by decide) (fun c9 => ?_) (fun c9 => ?_)
    · have h10 := h8.1 c9
      refine g_aload_n hC dX12_enter_32 rfl ?_
      refine g_iconst (v := zI 5) hC dX12_enter_33 rfl ?_
      refine zr_callVv (As := [.int (zI 5)]) hC hZ5 rfl (rm_err X.la d b (by decide) hZ5.rf h10) cl_X12_792 rfl rfl (Nat.le_of_ble_eq_true rfl) ⟨Nat.le_of_ble_eq_true rfl, Nat.le_of_ble_eq_true rfl⟩ dX12_enter_34 (fun s12 F13 hZ15 h16 => ?_)
      exact zr_vret hC hZ15 h16 dX12_enter_37
    · have h17 := h8.2 c9
      refine g_iload_n hC dX12_enter_17 rfl ?_
      refine g_aload_n hC dX12_enter_18 rfl ?_
      refine zr_geta hC hZ5 fl_X12_225 zb_70 (by decide) dX12_enter_19 ?_
      refine g_iload_n hC dX12_enter_22 rfl ?_
      obtain ⟨o18, h19⟩ := h17
      obtain ⟨o20, h21⟩ := h19
      refine zr_iald (v := (za s2 70 (Int.toNat a0))) hC hZ5 zk_70 zb_70 zn_70 (by decide) o18 o20 rfl dX12_enter_23 ?_
      refine zr_iadd hC dX12_enter_24 ?_
      refine g_aload_n hC dX12_enter_25 rfl ?_
      refine zr_callVi (As := []) hC hZ5 rfl (rm_limit X.la d b  hZ5.rf h21) cl_X12_820 rfl rfl (Nat.le_of_ble_eq_true rfl) ⟨Nat.le_of_ble_eq_true rfl, Nat.le_of_ble_eq_true rfl⟩ dX12_enter_26 (fun r22 s23 F24 R25 hZ26 h27 => ?_)
      obtain ⟨o28, h29⟩ := h27
      refine zr_icmp_le (tgt := 38) hC o28 R25 dX12_enter_29 (by decide) (fun c30 => ?_) (fun c30 => ?_)
      · have h31 := h29.1 c30
        refine g_aload_n hC dX12_enter_38 rfl ?_
        refine zr_get (e := (zv s23 91)) hC hZ26 fl_X12_289 zb_91 (by decide) rfl dX12_enter_39 ?_
        refine g_iload_n hC dX12_enter_42 rfl ?_
        refine zr_isub hC dX12_enter_43 ?_
        refine g_istore (lv' := [some (.ref t), some (.int (zI a0)), some (.int (zI a1)), some (.int (zI a2)), some (.int (zI ((zv s23 91) - a2))), none, none]) hC dX12_enter_44 (Nat.le_of_ble_eq_true rfl) rfl rfl ?_
        refine g_aload_n hC dX12_enter_46 rfl ?_
        refine zr_geta hC hZ26 fl_X12_312 zb_98 (by decide) dX12_enter_47 ?_
        refine g_iload_n hC dX12_enter_50 rfl ?_
        refine g_aload_n hC dX12_enter_51 rfl ?_
        refine zr_get (e := (zv s23 96)) hC hZ26 fl_X12_305 zb_96 (by decide) rfl dX12_enter_52 ?_
        obtain ⟨o32, h33⟩ := h31
        obtain ⟨o34, h35⟩ := h33
        refine zr_iast hC hZ26 zk_98 zb_98 zn_98 (by decide) o32 o34 (hZ26.rv 96) dX12_enter_55 (fun F36 hZ37 => ?_)
        refine g_aload_n hC dX12_enter_56 rfl ?_
        refine zr_geta hC hZ37 fl_X12_312 zb_98 (by decide) dX12_enter_57 ?_
        refine g_iload_n hC dX12_enter_60 rfl ?_
        refine g_iconst (v := zI 1) hC dX12_enter_61 rfl ?_
        refine zr_iadd hC dX12_enter_62 ?_
        refine zr_ldcw (e := 1000000) hC dX12_enter_63 kw_2699 (by decide) ?_
        refine g_iload_n hC dX12_enter_66 rfl ?_
        refine zr_iadd hC dX12_enter_67 ?_
        obtain ⟨o38, h39⟩ := h35
        obtain ⟨o40, h41⟩ := h39
        obtain ⟨o42, h43⟩ := h41
        refine zr_iast hC hZ37 zk_98 zb_98 zn_98 (by decide) o38 o40 o42 dX12_enter_68 (fun F44 hZ45 => ?_)
        refine g_iconst (v := zI 0) hC dX12_enter_69 rfl ?_
        refine g_istore (lv' := [some (.ref t), some (.int (zI a0)), some (.int (zI a1)), some (.int (zI a2)), some (.int (zI ((zv s23 91) - a2))), some (.int (zI 0)), none]) hC dX12_enter_70 (Nat.le_of_ble_eq_true rfl) rfl rfl ?_
        obtain ⟨o46, h47⟩ := h43
        obtain ⟨m48, h49⟩ := h47
        exact rl_enter_72 hC  m48 _ _ _ _ _ _ _ Ra0 Ra1 Ra2 o46 (by decide) hZ45 h49
      · have h50 := h29.2 c30
        refine g_aload_n hC dX12_enter_32 rfl ?_
        refine g_iconst (v := zI 5) hC dX12_enter_33 rfl ?_
        refine zr_callVv (As := [.int (zI 5)]) hC hZ26 rfl (rm_err X.la d b (by decide) hZ26.rf h50) cl_X12_792 rfl rfl (Nat.le_of_ble_eq_true rfl) ⟨Nat.le_of_ble_eq_true rfl, Nat.le_of_ble_eq_true rfl⟩ dX12_enter_34 (fun s52 F53 hZ55 h56 => ?_)
        exact zr_vret hC hZ55 h56 dX12_enter_37
  · have h57 := h6.2 c7
    exact zr_vret hC hZ5 h57 dX12_enter_7
