/-! the class as formulas: scanner -/
theorem dX8_isAlike_0 : decode cX8_isAlike 0 = .ok (.aload_n 0, 1) := by decide +kernel
theorem dX8_isAlike_1 : decode cX8_isAlike 1 = .ok (.getfield 33, 3) := by decide +kernel
theorem dX8_isAlike_4 : decode cX8_isAlike 4 = .ok (.iload_n 1, 1) := by decide +kernel
theorem dX8_isAlike_5 : decode cX8_isAlike 5 = .ok (.invokevirtual 88, 3) := by decide +kernel
theorem dX8_isAlike_8 : decode cX8_isAlike 8 = .ok (.istore 5, 2) := by decide +kernel
theorem dX8_isAlike_10 : decode cX8_isAlike 10 = .ok (.iload_n 1, 1) := by decide +kernel
theorem dX8_isAlike_11 : decode cX8_isAlike 11 = .ok (.iconst 1, 1) := by decide +kernel
theorem dX8_isAlike_12 : decode cX8_isAlike 12 = .ok (.iadd, 1) := by decide +kernel
theorem dX8_isAlike_13 : decode cX8_isAlike 13 = .ok (.aload_n 0, 1) := by decide +kernel
theorem dX8_isAlike_14 : decode cX8_isAlike 14 = .ok (.getfield 33, 3) := by decide +kernel
theorem dX8_isAlike_17 : decode cX8_isAlike 17 = .ok (.invokevirtual 62, 3) := by decide +kernel
theorem dX8_isAlike_20 : decode cX8_isAlike 20 = .ok (.if_icmp .ge 16, 3) := by decide +kernel
theorem dX8_isAlike_23 : decode cX8_isAlike 23 = .ok (.aload_n 0, 1) := by decide +kernel
theorem dX8_isAlike_24 : decode cX8_isAlike 24 = .ok (.getfield 33, 3) := by decide +kernel
theorem dX8_isAlike_27 : decode cX8_isAlike 27 = .ok (.iload_n 1, 1) := by decide +kernel
theorem dX8_isAlike_28 : decode cX8_isAlike 28 = .ok (.iconst 1, 1) := by decide +kernel
theorem dX8_isAlike_29 : decode cX8_isAlike 29 = .ok (.iadd, 1) := by decide +kernel
theorem dX8_isAlike_30 : decode cX8_isAlike 30 = .ok (.invokevirtual 88, 3) := by decide +kernel
theorem dX8_isAlike_33 : decode cX8_isAlike 33 = .ok (.goto 10, 3) := by decide +kernel
theorem dX8_isAlike_36 : decode cX8_isAlike 36 = .ok (.aload_n 0, 1) := by decide +kernel
theorem dX8_isAlike_37 : decode cX8_isAlike 37 = .ok (.getfield 30, 3) := by decide +kernel
theorem dX8_isAlike_40 : decode cX8_isAlike 40 = .ok (.invokevirtual 62, 3) := by decide +kernel
theorem dX8_isAlike_43 : decode cX8_isAlike 43 = .ok (.istore 6, 2) := by decide +kernel
theorem dX8_isAlike_45 : decode cX8_isAlike 45 = .ok (.iload 6, 2) := by decide +kernel
theorem dX8_isAlike_47 : decode cX8_isAlike 47 = .ok (.iload 5, 2) := by decide +kernel
theorem dX8_isAlike_49 : decode cX8_isAlike 49 = .ok (.isub, 1) := by decide +kernel
theorem dX8_isAlike_50 : decode cX8_isAlike 50 = .ok (.iload 4, 2) := by decide +kernel
theorem dX8_isAlike_52 : decode cX8_isAlike 52 = .ok (.iload_n 3, 1) := by decide +kernel
theorem dX8_isAlike_53 : decode cX8_isAlike 53 = .ok (.isub, 1) := by decide +kernel
theorem dX8_isAlike_54 : decode cX8_isAlike 54 = .ok (.if_icmp .eq 5, 3) := by decide +kernel
theorem dX8_isAlike_57 : decode cX8_isAlike 57 = .ok (.iconst 0, 1) := by decide +kernel
theorem dX8_isAlike_58 : decode cX8_isAlike 58 = .ok (.ireturn, 1) := by decide +kernel
theorem dX8_isAlike_59 : decode cX8_isAlike 59 = .ok (.iconst 0, 1) := by decide +kernel
theorem dX8_isAlike_60 : decode cX8_isAlike 60 = .ok (.istore 7, 2) := by decide +kernel
theorem dX8_isAlike_62 : decode cX8_isAlike 62 = .ok (.iload 7, 2) := by decide +kernel
theorem dX8_isAlike_64 : decode cX8_isAlike 64 = .ok (.iload 4, 2) := by decide +kernel
theorem dX8_isAlike_66 : decode cX8_isAlike 66 = .ok (.iload_n 3, 1) := by decide +kernel
theorem dX8_isAlike_67 : decode cX8_isAlike 67 = .ok (.isub, 1) := by decide +kernel
theorem dX8_isAlike_68 : decode cX8_isAlike 68 = .ok (.if_icmp .ge 34, 3) := by decide +kernel
theorem dX8_isAlike_71 : decode cX8_isAlike 71 = .ok (.aload_n 0, 1) := by decide +kernel
theorem dX8_isAlike_72 : decode cX8_isAlike 72 = .ok (.getfield 30, 3) := by decide +kernel
theorem dX8_isAlike_75 : decode cX8_isAlike 75 = .ok (.iload 5, 2) := by decide +kernel
theorem dX8_isAlike_77 : decode cX8_isAlike 77 = .ok (.iload 7, 2) := by decide +kernel
theorem dX8_isAlike_79 : decode cX8_isAlike 79 = .ok (.iadd, 1) := by decide +kernel
theorem dX8_isAlike_80 : decode cX8_isAlike 80 = .ok (.invokevirtual 88, 3) := by decide +kernel
theorem dX8_isAlike_83 : decode cX8_isAlike 83 = .ok (.aload_n 2, 1) := by decide +kernel
theorem dX8_isAlike_84 : decode cX8_isAlike 84 = .ok (.iload_n 3, 1) := by decide +kernel
theorem dX8_isAlike_85 : decode cX8_isAlike 85 = .ok (.iload 7, 2) := by decide +kernel
theorem dX8_isAlike_87 : decode cX8_isAlike 87 = .ok (.iadd, 1) := by decide +kernel
theorem dX8_isAlike_88 : decode cX8_isAlike 88 = .ok (.invokevirtual 88, 3) := by decide +kernel
theorem dX8_isAlike_91 : decode cX8_isAlike 91 = .ok (.if_icmp .eq 5, 3) := by decide +kernel
theorem dX8_isAlike_94 : decode cX8_isAlike 94 = .ok (.iconst 0, 1) := by decide +kernel
theorem dX8_isAlike_95 : decode cX8_isAlike 95 = .ok (.ireturn, 1) := by decide +kernel
theorem dX8_isAlike_96 : decode cX8_isAlike 96 = .ok (.iinc 7 1, 3) := by decide +kernel
theorem dX8_isAlike_99 : decode cX8_isAlike 99 = .ok (.goto (-37), 3) := by decide +kernel
theorem dX8_isAlike_102 : decode cX8_isAlike 102 = .ok (.iconst 1, 1) := by decide +kernel
theorem dX8_isAlike_103 : decode cX8_isAlike 103 = .ok (.ireturn, 1) := by decide +kernel
def wc_Scanner_isAlike_62B (Q : Int → cS → Prop) (k62 : cS → Int → Int → Int → Int → Prop) (A0 : cS) (x3 : Int) (x4 : Int) (x5 : Int) (x7 : Int) : Prop :=
  (zR (x4 - x3)) ∧ (((x4 - x3) ≤ x7 → Q 1 A0) ∧ (¬ (x4 - x3) ≤ x7 → ∀ z6 : Int, z6 = zw (x5 + x7) → zR z6 → (zR (x3 + x7)) ∧ (((yget A0 18 z6) = (yget A0 0 (x3 + x7)) → (zR (x7 + 1)) ∧ k62 A0 x3 x4 x5 (x7 + 1)) ∧ (¬ (yget A0 18 z6) = (yget A0 0 (x3 + x7)) → Q 0 A0))))
def wc_Scanner_isAlike_62 (Q : Int → cS → Prop)  : Nat → cS → Int → Int → Int → Int → Prop
  | 0 => fun _ _ _ _ _ => False
  | m + 1 => fun A0 x3 x4 x5 x7 => wc_Scanner_isAlike_62B Q  (wc_Scanner_isAlike_62 Q  m) A0 x3 x4 x5 x7
def wc_Scanner_isAlike (A0 : cS) (a0 : Int) (a2 : Int) (a3 : Int) (Q : Int → cS → Prop) : Prop :=
  (zR (a0 + 1)) ∧ ((((yz A0 19 : Nat) : Int) ≤ (a0 + 1) → ∀ z5 : Int, z5 = zw (((yz A0 18 : Nat) : Int) - (yget A0 19 a0)) → zR z5 → (zR (a3 - a2)) ∧ ((z5 = (a3 - a2) → ∃ n, wc_Scanner_isAlike_62 Q  n A0 a2 a3 (yget A0 19 a0) 0) ∧ (¬ z5 = (a3 - a2) → Q 0 A0))) ∧ (¬ ((yz A0 19 : Nat) : Int) ≤ (a0 + 1) → ∀ z17 : Int, z17 = zw ((yget A0 19 (a0 + 1)) - (yget A0 19 a0)) → zR z17 → (zR (a3 - a2)) ∧ ((z17 = (a3 - a2) → ∃ n, wc_Scanner_isAlike_62 Q  n A0 a2 a3 (yget A0 19 a0) 0) ∧ (¬ z17 = (a3 - a2) → Q 0 A0))))
set_option maxHeartbeats 4000000 in
set_option maxRecDepth 100000 in
theorem cb_Scanner_isAlike_62 {X : gX} {d : gD} {b : Nat} {Y : gYt} {c : Nat × Nat} {F0 : gM} {S0 : gSt} {mc ms : Nat} (hC : gC RX8 cX8_isAlike 8 (some .boolean) "isAlike" (gR 1 mc ms) d b X) (hr : hRm X b) {Q : Int → cS → Prop} {k62 : cS → Int → Int → Int → Int → Prop} (hk62 : ∀ (u : hU) (S : gSt) (A0 : cS) (x3 : Int) (x4 : Int) (x5 : Int) (x7 : Int), zR x3 → zR x4 → zR x5 → zR x7 → yOk X b u → yZ d b Y c F0 S0 u S A0 → k62 A0 x3 x4 x5 x7 → yG X d b (yQi X d b Y c F0 S0 mc ms Q) u 62 [some (.ref (gO' Y 3)), none, some (.ref (gA' Y 0)), some (.int (zI x3)), some (.int (zI x4)), some (.int (zI x5)), none, some (.int (zI x7))] []) {u : hU} {S : gSt} {A0 : cS} {x3 : Int} {x4 : Int} {x5 : Int} {x7 : Int} (Rx3 : zR x3) (Rx4 : zR x4) (Rx5 : zR x5) (Rx7 : zR x7) (ho : yOk X b u) (hZ : yZ d b Y c F0 S0 u S A0) (hw : wc_Scanner_isAlike_62B Q k62 A0 x3 x4 x5 x7) : yG X d b (yQi X d b Y c F0 S0 mc ms Q) u 62 [some (.ref (gO' Y 3)), none, some (.ref (gA' Y 0)), some (.int (zI x3)), some (.int (zI x4)), some (.int (zI x5)), none, some (.int (zI x7))] [] := by
  unfold wc_Scanner_isAlike_62B at hw
  refine h_iload hC dX8_isAlike_62 rfl ?_
  refine h_iload hC dX8_isAlike_64 rfl ?_
  refine h_iload_n hC dX8_isAlike_66 rfl ?_
  refine yr_isub hC dX8_isAlike_67 ?_
  obtain ⟨o1, h2⟩ := hw
  refine yr_icmp_ge (tgt := 102) hC Rx7 o1 dX8_isAlike_68 (by decide) (fun c3 => ?_) (fun c3 => ?_)
  · have h4 := h2.1 c3
    refine h_iconst (v := zI 1) hC dX8_isAlike_102 rfl ?_
    exact yr_zret hC hr ho hZ (Or.inr rfl) h4 dX8_isAlike_103
  · have h5 := h2.2 c3
    refine h_aload_n hC dX8_isAlike_71 rfl ?_
    refine h_get hC fl_X8_30 (hZ.w.o 3 (by decide)) rfl dX8_isAlike_72 ?_
    refine h_iload hC dX8_isAlike_75 rfl ?_
    refine h_iload hC dX8_isAlike_77 rfl ?_
    refine yr_iadd hC dX8_isAlike_79 ?_
    refine yr_w (fun z6 e7 R8 => ?_)
    have h9 := h5 z6 e7 R8
    refine yr_get (j := 18) (e := (yget A0 18 z6)) hC hr ho hZ (by decide) R8 rfl cl_X8_88 rfl (Nat.le_of_ble_eq_true rfl) (hFr_of (Nat.le_of_ble_eq_true rfl) (Nat.le_of_ble_eq_true rfl)) dX8_isAlike_80 ?_
    refine h_aload_n hC dX8_isAlike_83 rfl ?_
    refine h_iload_n hC dX8_isAlike_84 rfl ?_
    refine h_iload hC dX8_isAlike_85 rfl ?_
    refine yr_iadd hC dX8_isAlike_87 ?_
    obtain ⟨o10, h11⟩ := h9
    refine yr_get (j := 0) (e := (yget A0 0 (x3 + x7))) hC hr ho hZ (by decide) o10 rfl cl_X8_88 rfl (Nat.le_of_ble_eq_true rfl) (hFr_of (Nat.le_of_ble_eq_true rfl) (Nat.le_of_ble_eq_true rfl)) dX8_isAlike_88 ?_
    refine yr_icmp_eq (tgt := 96) hC (hZ.rg 18 _) (hZ.rg 0 _) dX8_isAlike_91 (by decide) (fun c12 => ?_) (fun c12 => ?_)
    · have h13 := h11.1 c12
      refine yr_iinc (x := x7) (lv' := [some (.ref (gO' Y 3)), none, some (.ref (gA' Y 0)), some (.int (zI x3)), some (.int (zI x4)), some (.int (zI x5)), none, some (.int (zI (x7 + 1)))]) hC dX8_isAlike_96 rfl rfl rfl ?_
      refine h_goto (tgt := 62) hC dX8_isAlike_99 (by decide) ?_
      obtain ⟨o14, h15⟩ := h13
      exact hk62 _ _ _ _ _ _ _ Rx3 Rx4 Rx5 o14 ho hZ h15
    · have h16 := h11.2 c12
      refine h_iconst (v := zI 0) hC dX8_isAlike_94 rfl ?_
      exact yr_zret hC hr ho hZ (Or.inl rfl) h16 dX8_isAlike_95
theorem cl_Scanner_isAlike_62 {X : gX} {d : gD} {b : Nat} {Y : gYt} {c : Nat × Nat} {F0 : gM} {S0 : gSt} {mc ms : Nat} (hC : gC RX8 cX8_isAlike 8 (some .boolean) "isAlike" (gR 1 mc ms) d b X) (hr : hRm X b) {Q : Int → cS → Prop}   : ∀ (m : Nat) (u : hU) (S : gSt) (A0 : cS) (x3 : Int) (x4 : Int) (x5 : Int) (x7 : Int), zR x3 → zR x4 → zR x5 → zR x7 → yOk X b u → yZ d b Y c F0 S0 u S A0 → wc_Scanner_isAlike_62 Q  m A0 x3 x4 x5 x7 → yG X d b (yQi X d b Y c F0 S0 mc ms Q) u 62 [some (.ref (gO' Y 3)), none, some (.ref (gA' Y 0)), some (.int (zI x3)), some (.int (zI x4)), some (.int (zI x5)), none, some (.int (zI x7))] [] := by
  intro m
  induction m with
  | zero => intro u S A0 x3 x4 x5 x7 Rx3 Rx4 Rx5 Rx7 ho hZ hw; exact False.elim hw
  | succ m ihm => intro u S A0 x3 x4 x5 x7 Rx3 Rx4 Rx5 Rx7 ho hZ hw; exact cb_Scanner_isAlike_62 hC hr  ihm Rx3 Rx4 Rx5 Rx7 ho hZ hw
set_option maxHeartbeats 4000000 in
set_option maxRecDepth 100000 in
theorem cm_Scanner_isAlike (l : Launch) (d : gD) (b : Nat) {Y : gYt} {c : Nat × Nat} {F : gM} {k n : Nat} {S : gSt} {A0 : cS} {a0 : Int} {a2 : Int} {a3 : Int} (Ra0 : zR a0) (Ra2 : zR a2) (Ra3 : zR a3) {Q : Int → cS → Prop} (hZ : yZ d b Y c F S (F, k, n) S A0) (hw : wc_Scanner_isAlike A0 a0 a2 a3 Q) : hMi l d b yX8_isAlike cX8_isAlike 8 .boolean 1 k n F [.ref (gO' Y 3), .int (zI a0), .ref (gA' Y 0), .int (zI a2), .int (zI a3)] (yPi d b Y c F S Q) := by
  intro mc ms
  refine hM_of2 rfl (nL := 8) (Nat.le_of_ble_eq_true rfl) ?_
  intro X hX hC hr ho; subst hX
  show yG X d b (yQi X d b Y c F S mc ms Q) (F, k, n) 0 [some (.ref (gO' Y 3)), some (.int (zI a0)), some (.ref (gA' Y 0)), some (.int (zI a2)), some (.int (zI a3)), none, none, none] []
  unfold wc_Scanner_isAlike at hw
  refine h_aload_n hC dX8_isAlike_0 rfl ?_
  refine h_get hC fl_X8_33 (hZ.w.o 3 (by decide)) rfl dX8_isAlike_1 ?_
  refine h_iload_n hC dX8_isAlike_4 rfl ?_
  refine yr_get (j := 19) (e := (yget A0 19 a0)) hC hr ho hZ (by decide) Ra0 rfl cl_X8_88 rfl (Nat.le_of_ble_eq_true rfl) (hFr_of (Nat.le_of_ble_eq_true rfl) (Nat.le_of_ble_eq_true rfl)) dX8_isAlike_5 ?_
  refine h_istore (lv' := [some (.ref (gO' Y 3)), some (.int (zI a0)), some (.ref (gA' Y 0)), some (.int (zI a2)), some (.int (zI a3)), some (.int (zI (yget A0 19 a0))), none, none]) hC dX8_isAlike_8 (Nat.le_of_ble_eq_true rfl) rfl rfl ?_
  refine h_iload_n hC dX8_isAlike_10 rfl ?_
  refine h_iconst (v := zI 1) hC dX8_isAlike_11 rfl ?_
  refine yr_iadd hC dX8_isAlike_12 ?_
  refine h_aload_n hC dX8_isAlike_13 rfl ?_
  refine h_get hC fl_X8_33 (hZ.w.o 3 (by decide)) rfl dX8_isAlike_14 ?_
  refine yr_size (j := 19) (e := ((yz A0 19 : Nat) : Int)) hC hr ho hZ (by decide) rfl cl_X8_62 rfl (Nat.le_of_ble_eq_true rfl) (hFr_of (Nat.le_of_ble_eq_true rfl) (Nat.le_of_ble_eq_true rfl)) dX8_isAlike_17 ?_
  obtain ⟨o1, h2⟩ := hw
  refine yr_icmp_ge (tgt := 36) hC o1 (hZ.rz (j := 19) (by decide)) dX8_isAlike_20 (by decide) (fun c3 => ?_) (fun c3 => ?_)
  · have h4 := h2.1 c3
    refine h_aload_n hC dX8_isAlike_36 rfl ?_
    refine h_get hC fl_X8_30 (hZ.w.o 3 (by decide)) rfl dX8_isAlike_37 ?_
    refine yr_size (j := 18) (e := ((yz A0 18 : Nat) : Int)) hC hr ho hZ (by decide) rfl cl_X8_62 rfl (Nat.le_of_ble_eq_true rfl) (hFr_of (Nat.le_of_ble_eq_true rfl) (Nat.le_of_ble_eq_true rfl)) dX8_isAlike_40 ?_
    refine h_istore (lv' := [some (.ref (gO' Y 3)), some (.int (zI a0)), some (.ref (gA' Y 0)), some (.int (zI a2)), some (.int (zI a3)), some (.int (zI (yget A0 19 a0))), some (.int (zI ((yz A0 18 : Nat) : Int))), none]) hC dX8_isAlike_43 (Nat.le_of_ble_eq_true rfl) rfl rfl ?_
    refine h_iload hC dX8_isAlike_45 rfl ?_
    refine h_iload hC dX8_isAlike_47 rfl ?_
    refine yr_isub hC dX8_isAlike_49 ?_
    refine yr_w (fun z5 e6 R7 => ?_)
    have h8 := h4 z5 e6 R7
    refine h_iload hC dX8_isAlike_50 rfl ?_
    refine h_iload_n hC dX8_isAlike_52 rfl ?_
    refine yr_isub hC dX8_isAlike_53 ?_
    obtain ⟨o9, h10⟩ := h8
    refine yr_icmp_eq (tgt := 59) hC R7 o9 dX8_isAlike_54 (by decide) (fun c11 => ?_) (fun c11 => ?_)
    · have h12 := h10.1 c11
      refine h_iconst (v := zI 0) hC dX8_isAlike_59 rfl ?_
      refine h_istore (lv' := [some (.ref (gO' Y 3)), some (.int (zI a0)), some (.ref (gA' Y 0)), some (.int (zI a2)), some (.int (zI a3)), some (.int (zI (yget A0 19 a0))), some (.int (zI ((yz A0 18 : Nat) : Int))), some (.int (zI 0))]) hC dX8_isAlike_60 (Nat.le_of_ble_eq_true rfl) rfl rfl ?_
      refine h_lv (lv' := [some (.ref (gO' Y 3)), none, some (.ref (gA' Y 0)), some (.int (zI a2)), some (.int (zI a3)), some (.int (zI (yget A0 19 a0))), none, some (.int (zI 0))]) ⟨rfl, rfl, rfl, rfl, rfl, rfl, trivial⟩ ?_
      obtain ⟨m13, h14⟩ := h12
      exact cl_Scanner_isAlike_62 hC hr  m13 _ _ _ _ _ _ _ Ra2 Ra3 (hZ.rg 19 _) (by decide) ho hZ h14
    · have h15 := h10.2 c11
      refine h_iconst (v := zI 0) hC dX8_isAlike_57 rfl ?_
      exact yr_zret hC hr ho hZ (Or.inl rfl) h15 dX8_isAlike_58
  · have h16 := h2.2 c3
    refine h_aload_n hC dX8_isAlike_23 rfl ?_
    refine h_get hC fl_X8_33 (hZ.w.o 3 (by decide)) rfl dX8_isAlike_24 ?_
    refine h_iload_n hC dX8_isAlike_27 rfl ?_
    refine h_iconst (v := zI 1) hC dX8_isAlike_28 rfl ?_
    refine yr_iadd hC dX8_isAlike_29 ?_
    refine yr_get (j := 19) (e := (yget A0 19 (a0 + 1))) hC hr ho hZ (by decide) o1 rfl cl_X8_88 rfl (Nat.le_of_ble_eq_true rfl) (hFr_of (Nat.le_of_ble_eq_true rfl) (Nat.le_of_ble_eq_true rfl)) dX8_isAlike_30 ?_
    refine h_goto (tgt := 43) hC dX8_isAlike_33 (by decide) ?_
    refine h_istore (lv' := [some (.ref (gO' Y 3)), some (.int (zI a0)), some (.ref (gA' Y 0)), some (.int (zI a2)), some (.int (zI a3)), some (.int (zI (yget A0 19 a0))), some (.int (zI (yget A0 19 (a0 + 1)))), none]) hC dX8_isAlike_43 (Nat.le_of_ble_eq_true rfl) rfl rfl ?_
    refine h_iload hC dX8_isAlike_45 rfl ?_
    refine h_iload hC dX8_isAlike_47 rfl ?_
    refine yr_isub hC dX8_isAlike_49 ?_
    refine yr_w (fun z17 e18 R19 => ?_)
    have h20 := h16 z17 e18 R19
    refine h_iload hC dX8_isAlike_50 rfl ?_
    refine h_iload_n hC dX8_isAlike_52 rfl ?_
    refine yr_isub hC dX8_isAlike_53 ?_
    obtain ⟨o21, h22⟩ := h20
    refine yr_icmp_eq (tgt := 59) hC R19 o21 dX8_isAlike_54 (by decide) (fun c23 => ?_) (fun c23 => ?_)
    · have h24 := h22.1 c23
      refine h_iconst (v := zI 0) hC dX8_isAlike_59 rfl ?_
      refine h_istore (lv' := [some (.ref (gO' Y 3)), some (.int (zI a0)), some (.ref (gA' Y 0)), some (.int (zI a2)), some (.int (zI a3)), some (.int (zI (yget A0 19 a0))), some (.int (zI (yget A0 19 (a0 + 1)))), some (.int (zI 0))]) hC dX8_isAlike_60 (Nat.le_of_ble_eq_true rfl) rfl rfl ?_
      refine h_lv (lv' := [some (.ref (gO' Y 3)), none, some (.ref (gA' Y 0)), some (.int (zI a2)), some (.int (zI a3)), some (.int (zI (yget A0 19 a0))), none, some (.int (zI 0))]) ⟨rfl, rfl, rfl, rfl, rfl, rfl, trivial⟩ ?_
      obtain ⟨m25, h26⟩ := h24
      exact cl_Scanner_isAlike_62 hC hr  m25 _ _ _ _ _ _ _ Ra2 Ra3 (hZ.rg 19 _) (by decide) ho hZ h26
    · have h27 := h22.2 c23
      refine h_iconst (v := zI 0) hC dX8_isAlike_57 rfl ?_
      exact yr_zret hC hr ho hZ (Or.inl rfl) h27 dX8_isAlike_58
theorem dX8_idOf_0 : decode cX8_idOf 0 = .ok (.iload_n 3, 1) := by decide +kernel
theorem dX8_idOf_1 : decode cX8_idOf 1 = .ok (.iload_n 2, 1) := by decide +kernel
theorem dX8_idOf_2 : decode cX8_idOf 2 = .ok (.isub, 1) := by decide +kernel
theorem dX8_idOf_3 : decode cX8_idOf 3 = .ok (.istore 4, 2) := by decide +kernel
theorem dX8_idOf_5 : decode cX8_idOf 5 = .ok (.iload_n 2, 1) := by decide +kernel
theorem dX8_idOf_6 : decode cX8_idOf 6 = .ok (.istore 5, 2) := by decide +kernel
theorem dX8_idOf_8 : decode cX8_idOf 8 = .ok (.iload 5, 2) := by decide +kernel
theorem dX8_idOf_10 : decode cX8_idOf 10 = .ok (.iload_n 3, 1) := by decide +kernel
theorem dX8_idOf_11 : decode cX8_idOf 11 = .ok (.if_icmp .ge 23, 3) := by decide +kernel
theorem dX8_idOf_14 : decode cX8_idOf 14 = .ok (.iload 4, 2) := by decide +kernel
theorem dX8_idOf_16 : decode cX8_idOf 16 = .ok (.bipush 31, 2) := by decide +kernel
theorem dX8_idOf_18 : decode cX8_idOf 18 = .ok (.imul, 1) := by decide +kernel
theorem dX8_idOf_19 : decode cX8_idOf 19 = .ok (.aload_n 1, 1) := by decide +kernel
theorem dX8_idOf_20 : decode cX8_idOf 20 = .ok (.iload 5, 2) := by decide +kernel
theorem dX8_idOf_22 : decode cX8_idOf 22 = .ok (.invokevirtual 88, 3) := by decide +kernel
theorem dX8_idOf_25 : decode cX8_idOf 25 = .ok (.iadd, 1) := by decide +kernel
theorem dX8_idOf_26 : decode cX8_idOf 26 = .ok (.istore 4, 2) := by decide +kernel
theorem dX8_idOf_28 : decode cX8_idOf 28 = .ok (.iinc 5 1, 3) := by decide +kernel
theorem dX8_idOf_31 : decode cX8_idOf 31 = .ok (.goto (-23), 3) := by decide +kernel
theorem dX8_idOf_34 : decode cX8_idOf 34 = .ok (.iconst 0, 1) := by decide +kernel
theorem dX8_idOf_35 : decode cX8_idOf 35 = .ok (.istore 5, 2) := by decide +kernel
theorem dX8_idOf_37 : decode cX8_idOf 37 = .ok (.iload 5, 2) := by decide +kernel
theorem dX8_idOf_39 : decode cX8_idOf 39 = .ok (.aload_n 0, 1) := by decide +kernel
theorem dX8_idOf_40 : decode cX8_idOf 40 = .ok (.getfield 36, 3) := by decide +kernel
theorem dX8_idOf_43 : decode cX8_idOf 43 = .ok (.invokevirtual 62, 3) := by decide +kernel
theorem dX8_idOf_46 : decode cX8_idOf 46 = .ok (.if_icmp .ge 38, 3) := by decide +kernel
theorem dX8_idOf_49 : decode cX8_idOf 49 = .ok (.aload_n 0, 1) := by decide +kernel
theorem dX8_idOf_50 : decode cX8_idOf 50 = .ok (.getfield 36, 3) := by decide +kernel
theorem dX8_idOf_53 : decode cX8_idOf 53 = .ok (.iload 5, 2) := by decide +kernel
theorem dX8_idOf_55 : decode cX8_idOf 55 = .ok (.invokevirtual 88, 3) := by decide +kernel
theorem dX8_idOf_58 : decode cX8_idOf 58 = .ok (.iload 4, 2) := by decide +kernel
theorem dX8_idOf_60 : decode cX8_idOf 60 = .ok (.if_icmp .ne 18, 3) := by decide +kernel
theorem dX8_idOf_63 : decode cX8_idOf 63 = .ok (.aload_n 0, 1) := by decide +kernel
theorem dX8_idOf_64 : decode cX8_idOf 64 = .ok (.iload 5, 2) := by decide +kernel
theorem dX8_idOf_66 : decode cX8_idOf 66 = .ok (.aload_n 1, 1) := by decide +kernel
theorem dX8_idOf_67 : decode cX8_idOf 67 = .ok (.iload_n 2, 1) := by decide +kernel
theorem dX8_idOf_68 : decode cX8_idOf 68 = .ok (.iload_n 3, 1) := by decide +kernel
theorem dX8_idOf_69 : decode cX8_idOf 69 = .ok (.invokevirtual 92, 3) := by decide +kernel
theorem dX8_idOf_72 : decode cX8_idOf 72 = .ok (.ifCond .eq 6, 3) := by decide +kernel
theorem dX8_idOf_75 : decode cX8_idOf 75 = .ok (.iload 5, 2) := by decide +kernel
theorem dX8_idOf_77 : decode cX8_idOf 77 = .ok (.ireturn, 1) := by decide +kernel
theorem dX8_idOf_78 : decode cX8_idOf 78 = .ok (.iinc 5 1, 3) := by decide +kernel
theorem dX8_idOf_81 : decode cX8_idOf 81 = .ok (.goto (-44), 3) := by decide +kernel
theorem dX8_idOf_84 : decode cX8_idOf 84 = .ok (.aload_n 0, 1) := by decide +kernel
theorem dX8_idOf_85 : decode cX8_idOf 85 = .ok (.getfield 33, 3) := by decide +kernel
theorem dX8_idOf_88 : decode cX8_idOf 88 = .ok (.aload_n 0, 1) := by decide +kernel
theorem dX8_idOf_89 : decode cX8_idOf 89 = .ok (.getfield 30, 3) := by decide +kernel
theorem dX8_idOf_92 : decode cX8_idOf 92 = .ok (.invokevirtual 62, 3) := by decide +kernel
theorem dX8_idOf_95 : decode cX8_idOf 95 = .ok (.invokevirtual 85, 3) := by decide +kernel
theorem dX8_idOf_98 : decode cX8_idOf 98 = .ok (.aload_n 0, 1) := by decide +kernel
theorem dX8_idOf_99 : decode cX8_idOf 99 = .ok (.getfield 36, 3) := by decide +kernel
theorem dX8_idOf_102 : decode cX8_idOf 102 = .ok (.iload 4, 2) := by decide +kernel
theorem dX8_idOf_104 : decode cX8_idOf 104 = .ok (.invokevirtual 85, 3) := by decide +kernel
theorem dX8_idOf_107 : decode cX8_idOf 107 = .ok (.iload_n 2, 1) := by decide +kernel
theorem dX8_idOf_108 : decode cX8_idOf 108 = .ok (.istore 5, 2) := by decide +kernel
theorem dX8_idOf_110 : decode cX8_idOf 110 = .ok (.iload 5, 2) := by decide +kernel
theorem dX8_idOf_112 : decode cX8_idOf 112 = .ok (.iload_n 3, 1) := by decide +kernel
theorem dX8_idOf_113 : decode cX8_idOf 113 = .ok (.if_icmp .ge 22, 3) := by decide +kernel
theorem dX8_idOf_116 : decode cX8_idOf 116 = .ok (.aload_n 0, 1) := by decide +kernel
theorem dX8_idOf_117 : decode cX8_idOf 117 = .ok (.getfield 30, 3) := by decide +kernel
theorem dX8_idOf_120 : decode cX8_idOf 120 = .ok (.aload_n 1, 1) := by decide +kernel
theorem dX8_idOf_121 : decode cX8_idOf 121 = .ok (.iload 5, 2) := by decide +kernel
theorem dX8_idOf_123 : decode cX8_idOf 123 = .ok (.invokevirtual 88, 3) := by decide +kernel
theorem dX8_idOf_126 : decode cX8_idOf 126 = .ok (.invokevirtual 85, 3) := by decide +kernel
theorem dX8_idOf_129 : decode cX8_idOf 129 = .ok (.iinc 5 1, 3) := by decide +kernel
theorem dX8_idOf_132 : decode cX8_idOf 132 = .ok (.goto (-22), 3) := by decide +kernel
theorem dX8_idOf_135 : decode cX8_idOf 135 = .ok (.aload_n 0, 1) := by decide +kernel
theorem dX8_idOf_136 : decode cX8_idOf 136 = .ok (.getfield 36, 3) := by decide +kernel
theorem dX8_idOf_139 : decode cX8_idOf 139 = .ok (.invokevirtual 62, 3) := by decide +kernel
theorem dX8_idOf_142 : decode cX8_idOf 142 = .ok (.iconst 1, 1) := by decide +kernel
theorem dX8_idOf_143 : decode cX8_idOf 143 = .ok (.isub, 1) := by decide +kernel
theorem dX8_idOf_144 : decode cX8_idOf 144 = .ok (.ireturn, 1) := by decide +kernel
def wc_Scanner_idOf_110B (Q : Int → cS → Prop) (k110 : cS → Int → Int → Prop) (A0 : cS) (x3 : Int) (x5 : Int) : Prop :=
  ((x3 ≤ x5 → (zR (((yz A0 20 : Nat) : Int) - 1)) ∧ Q (((yz A0 20 : Nat) : Int) - 1) A0) ∧ (¬ x3 ≤ x5 → ((yz A0 18) < 1800) ∧ (zR (x5 + 1)) ∧ k110 (yadd A0 18 (yget A0 0 x5)) x3 (x5 + 1)))
def wc_Scanner_idOf_110 (Q : Int → cS → Prop)  : Nat → cS → Int → Int → Prop
  | 0 => fun _ _ _ => False
  | m + 1 => fun A0 x3 x5 => wc_Scanner_idOf_110B Q  (wc_Scanner_idOf_110 Q  m) A0 x3 x5
def wc_Scanner_idOf_37B (Q : Int → cS → Prop) (k37 : cS → Int → Int → Int → Int → Prop) (A0 : cS) (x2 : Int) (x3 : Int) (x4 : Int) (x5 : Int) : Prop :=
  ((((yz A0 20 : Nat) : Int) ≤ x5 → ((yz A0 19) < 1400) ∧ ((yz A0 20) < 1400) ∧ ∃ n, wc_Scanner_idOf_110 Q  n (yadd (yadd A0 19 ((yz A0 18 : Nat) : Int)) 20 x4) x3 x2) ∧ (¬ ((yz A0 20 : Nat) : Int) ≤ x5 → ((¬ (yget A0 20 x5) = x4 → (zR (x5 + 1)) ∧ k37 A0 x2 x3 x4 (x5 + 1)) ∧ ((yget A0 20 x5) = x4 → wc_Scanner_isAlike A0 x5 x2 x3 (fun r23 A24 => ((r23 = 0 → (zR (x5 + 1)) ∧ k37 A24 x2 x3 x4 (x5 + 1)) ∧ (¬ r23 = 0 → Q x5 A24)))))))
def wc_Scanner_idOf_37 (Q : Int → cS → Prop)  : Nat → cS → Int → Int → Int → Int → Prop
  | 0 => fun _ _ _ _ _ => False
  | m + 1 => fun A0 x2 x3 x4 x5 => wc_Scanner_idOf_37B Q  (wc_Scanner_idOf_37 Q  m) A0 x2 x3 x4 x5
def wc_Scanner_idOf_8B (Q : Int → cS → Prop) (k8 : cS → Int → Int → Int → Int → Prop) (A0 : cS) (x2 : Int) (x3 : Int) (x4 : Int) (x5 : Int) : Prop :=
  ((x3 ≤ x5 → ∃ n, wc_Scanner_idOf_37 Q  n A0 x2 x3 x4 0) ∧ (¬ x3 ≤ x5 → ∀ z6 : Int, z6 = zw ((x4 * 31) + (yget A0 0 x5)) → zR z6 → (zR (x5 + 1)) ∧ k8 A0 x2 x3 z6 (x5 + 1)))
def wc_Scanner_idOf_8 (Q : Int → cS → Prop)  : Nat → cS → Int → Int → Int → Int → Prop
  | 0 => fun _ _ _ _ _ => False
  | m + 1 => fun A0 x2 x3 x4 x5 => wc_Scanner_idOf_8B Q  (wc_Scanner_idOf_8 Q  m) A0 x2 x3 x4 x5
def wc_Scanner_idOf (A0 : cS) (a1 : Int) (a2 : Int) (Q : Int → cS → Prop) : Prop :=
  (zR (a2 - a1)) ∧ ∃ n, wc_Scanner_idOf_8 Q  n A0 a1 a2 (a2 - a1) a1
set_option maxHeartbeats 4000000 in
set_option maxRecDepth 100000 in
theorem cb_Scanner_idOf_110 {X : gX} {d : gD} {b : Nat} {Y : gYt} {c : Nat × Nat} {F0 : gM} {S0 : gSt} {mc ms : Nat} (hC : gC RX8 cX8_idOf 6 (some .int) "idOf" (gR 3 mc ms) d b X) (hr : hRm X b) {Q : Int → cS → Prop} {k110 : cS → Int → Int → Prop} (hk110 : ∀ (u : hU) (S : gSt) (A0 : cS) (x3 : Int) (x5 : Int), zR x3 → zR x5 → yOk X b u → yZ d b Y c F0 S0 u S A0 → k110 A0 x3 x5 → yG X d b (yQi X d b Y c F0 S0 mc ms Q) u 110 [some (.ref (gO' Y 3)), some (.ref (gA' Y 0)), none, some (.int (zI x3)), none, some (.int (zI x5))] []) {u : hU} {S : gSt} {A0 : cS} {x3 : Int} {x5 : Int} (Rx3 : zR x3) (Rx5 : zR x5) (ho : yOk X b u) (hZ : yZ d b Y c F0 S0 u S A0) (hw : wc_Scanner_idOf_110B Q k110 A0 x3 x5) : yG X d b (yQi X d b Y c F0 S0 mc ms Q) u 110 [some (.ref (gO' Y 3)), some (.ref (gA' Y 0)), none, some (.int (zI x3)), none, some (.int (zI x5))] [] := by
  unfold wc_Scanner_idOf_110B at hw
  refine h_iload hC dX8_idOf_110 rfl ?_
  refine h_iload_n hC dX8_idOf_112 rfl ?_
  refine yr_icmp_ge (tgt := 135) hC Rx5 Rx3 dX8_idOf_113 (by decide) (fun c1 => ?_) (fun c1 => ?_)
  · have h2 := hw.1 c1
    refine h_aload_n hC dX8_idOf_135 rfl ?_
    refine h_get hC fl_X8_36 (hZ.w.o 3 (by decide)) rfl dX8_idOf_136 ?_
    refine yr_size (j := 20) (e := ((yz A0 20 : Nat) : Int)) hC hr ho hZ (by decide) rfl cl_X8_62 rfl (Nat.le_of_ble_eq_true rfl) (hFr_of (Nat.le_of_ble_eq_true rfl) (Nat.le_of_ble_eq_true rfl)) dX8_idOf_139 ?_
    refine h_iconst (v := zI 1) hC dX8_idOf_142 rfl ?_
    refine yr_isub hC dX8_idOf_143 ?_
    obtain ⟨o3, h4⟩ := h2
    exact yr_iret hC hr ho hZ o3 h4 dX8_idOf_144
  · have h5 := hw.2 c1
    refine h_aload_n hC dX8_idOf_116 rfl ?_
    refine h_get hC fl_X8_30 (hZ.w.o 3 (by decide)) rfl dX8_idOf_117 ?_
    refine h_aload_n hC dX8_idOf_120 rfl ?_
    refine h_iload hC dX8_idOf_121 rfl ?_
    refine yr_get (j := 0) (e := (yget A0 0 x5)) hC hr ho hZ (by decide) Rx5 rfl cl_X8_88 rfl (Nat.le_of_ble_eq_true rfl) (hFr_of (Nat.le_of_ble_eq_true rfl) (Nat.le_of_ble_eq_true rfl)) dX8_idOf_123 ?_
    obtain ⟨o10, h11⟩ := h5
    refine yr_add (j := 18) hC hr ho hZ (by decide) (by decide) (hZ.rg 0 _) o10 cl_X8_85 rfl (Nat.le_of_ble_eq_true rfl) (hFr_of (Nat.le_of_ble_eq_true rfl) (Nat.le_of_ble_eq_true rfl)) dX8_idOf_126 (fun u6 S7 o8 hZ9 => ?_)
    refine yr_iinc (x := x5) (lv' := [some (.ref (gO' Y 3)), some (.ref (gA' Y 0)), none, some (.int (zI x3)), none, some (.int (zI (x5 + 1)))]) hC dX8_idOf_129 rfl rfl rfl ?_
    refine h_goto (tgt := 110) hC dX8_idOf_132 (by decide) ?_
    obtain ⟨o12, h13⟩ := h11
    exact hk110 _ _ _ _ _ Rx3 o12 o8 hZ9 h13
theorem cl_Scanner_idOf_110 {X : gX} {d : gD} {b : Nat} {Y : gYt} {c : Nat × Nat} {F0 : gM} {S0 : gSt} {mc ms : Nat} (hC : gC RX8 cX8_idOf 6 (some .int) "idOf" (gR 3 mc ms) d b X) (hr : hRm X b) {Q : Int → cS → Prop}   : ∀ (m : Nat) (u : hU) (S : gSt) (A0 : cS) (x3 : Int) (x5 : Int), zR x3 → zR x5 → yOk X b u → yZ d b Y c F0 S0 u S A0 → wc_Scanner_idOf_110 Q  m A0 x3 x5 → yG X d b (yQi X d b Y c F0 S0 mc ms Q) u 110 [some (.ref (gO' Y 3)), some (.ref (gA' Y 0)), none, some (.int (zI x3)), none, some (.int (zI x5))] [] := by
  intro m
  induction m with
  | zero => intro u S A0 x3 x5 Rx3 Rx5 ho hZ hw; exact False.elim hw
  | succ m ihm => intro u S A0 x3 x5 Rx3 Rx5 ho hZ hw; exact cb_Scanner_idOf_110 hC hr  ihm Rx3 Rx5 ho hZ hw
set_option maxHeartbeats 4000000 in
set_option maxRecDepth 100000 in
theorem cb_Scanner_idOf_37 {X : gX} {d : gD} {b : Nat} {Y : gYt} {c : Nat × Nat} {F0 : gM} {S0 : gSt} {mc ms : Nat} (hC : gC RX8 cX8_idOf 6 (some .int) "idOf" (gR 3 mc ms) d b X) (hr : hRm X b) {Q : Int → cS → Prop} {k37 : cS → Int → Int → Int → Int → Prop} (hk37 : ∀ (u : hU) (S : gSt) (A0 : cS) (x2 : Int) (x3 : Int) (x4 : Int) (x5 : Int), zR x2 → zR x3 → zR x4 → zR x5 → yOk X b u → yZ d b Y c F0 S0 u S A0 → k37 A0 x2 x3 x4 x5 → yG X d b (yQi X d b Y c F0 S0 mc ms Q) u 37 [some (.ref (gO' Y 3)), some (.ref (gA' Y 0)), some (.int (zI x2)), some (.int (zI x3)), some (.int (zI x4)), some (.int (zI x5))] []) {u : hU} {S : gSt} {A0 : cS} {x2 : Int} {x3 : Int} {x4 : Int} {x5 : Int} (Rx2 : zR x2) (Rx3 : zR x3) (Rx4 : zR x4) (Rx5 : zR x5) (ho : yOk X b u) (hZ : yZ d b Y c F0 S0 u S A0) (hw : wc_Scanner_idOf_37B Q k37 A0 x2 x3 x4 x5) : yG X d b (yQi X d b Y c F0 S0 mc ms Q) u 37 [some (.ref (gO' Y 3)), some (.ref (gA' Y 0)), some (.int (zI x2)), some (.int (zI x3)), some (.int (zI x4)), some (.int (zI x5))] [] := by
  unfold wc_Scanner_idOf_37B at hw
  refine h_iload hC dX8_idOf_37 rfl ?_
  refine h_aload_n hC dX8_idOf_39 rfl ?_
  refine h_get hC fl_X8_36 (hZ.w.o 3 (by decide)) rfl dX8_idOf_40 ?_
  refine yr_size (j := 20) (e := ((yz A0 20 : Nat) : Int)) hC hr ho hZ (by decide) rfl cl_X8_62 rfl (Nat.le_of_ble_eq_true rfl) (hFr_of (Nat.le_of_ble_eq_true rfl) (Nat.le_of_ble_eq_true rfl)) dX8_idOf_43 ?_
  refine yr_icmp_ge (tgt := 84) hC Rx5 (hZ.rz (j := 20) (by decide)) dX8_idOf_46 (by decide) (fun c1 => ?_) (fun c1 => ?_)
  · have h2 := hw.1 c1
    refine h_aload_n hC dX8_idOf_84 rfl ?_
    refine h_get hC fl_X8_33 (hZ.w.o 3 (by decide)) rfl dX8_idOf_85 ?_
    refine h_aload_n hC dX8_idOf_88 rfl ?_
    refine h_get hC fl_X8_30 (hZ.w.o 3 (by decide)) rfl dX8_idOf_89 ?_
    refine yr_size (j := 18) (e := ((yz A0 18 : Nat) : Int)) hC hr ho hZ (by decide) rfl cl_X8_62 rfl (Nat.le_of_ble_eq_true rfl) (hFr_of (Nat.le_of_ble_eq_true rfl) (Nat.le_of_ble_eq_true rfl)) dX8_idOf_92 ?_
    obtain ⟨o7, h8⟩ := h2
    refine yr_add (j := 19) hC hr ho hZ (by decide) (by decide) (hZ.rz (j := 18) (by decide)) o7 cl_X8_85 rfl (Nat.le_of_ble_eq_true rfl) (hFr_of (Nat.le_of_ble_eq_true rfl) (Nat.le_of_ble_eq_true rfl)) dX8_idOf_95 (fun u3 S4 o5 hZ6 => ?_)
    refine h_aload_n hC dX8_idOf_98 rfl ?_
    refine h_get hC fl_X8_36 (hZ6.w.o 3 (by decide)) rfl dX8_idOf_99 ?_
    refine h_iload hC dX8_idOf_102 rfl ?_
    obtain ⟨o13, h14⟩ := h8
    refine yr_add (j := 20) hC hr o5 hZ6 (by decide) (by decide) Rx4 o13 cl_X8_85 rfl (Nat.le_of_ble_eq_true rfl) (hFr_of (Nat.le_of_ble_eq_true rfl) (Nat.le_of_ble_eq_true rfl)) dX8_idOf_104 (fun u9 S10 o11 hZ12 => ?_)
    refine h_iload_n hC dX8_idOf_107 rfl ?_
    refine h_istore (lv' := [some (.ref (gO' Y 3)), some (.ref (gA' Y 0)), some (.int (zI x2)), some (.int (zI x3)), some (.int (zI x4)), some (.int (zI x2))]) hC dX8_idOf_108 (Nat.le_of_ble_eq_true rfl) rfl rfl ?_
    refine h_lv (lv' := [some (.ref (gO' Y 3)), some (.ref (gA' Y 0)), none, some (.int (zI x3)), none, some (.int (zI x2))]) ⟨rfl, rfl, rfl, rfl, trivial⟩ ?_
    obtain ⟨m15, h16⟩ := h14
    exact cl_Scanner_idOf_110 hC hr  m15 _ _ _ _ _ Rx3 Rx2 o11 hZ12 h16
  · have h17 := hw.2 c1
    refine h_aload_n hC dX8_idOf_49 rfl ?_
    refine h_get hC fl_X8_36 (hZ.w.o 3 (by decide)) rfl dX8_idOf_50 ?_
    refine h_iload hC dX8_idOf_53 rfl ?_
    refine yr_get (j := 20) (e := (yget A0 20 x5)) hC hr ho hZ (by decide) Rx5 rfl cl_X8_88 rfl (Nat.le_of_ble_eq_true rfl) (hFr_of (Nat.le_of_ble_eq_true rfl) (Nat.le_of_ble_eq_true rfl)) dX8_idOf_55 ?_
    refine h_iload hC dX8_idOf_58 rfl ?_
    refine yr_icmp_ne (tgt := 78) hC (hZ.rg 20 _) Rx4 dX8_idOf_60 (by decide) (fun c18 => ?_) (fun c18 => ?_)
    · have h19 := h17.1 c18
      refine yr_iinc (x := x5) (lv' := [some (.ref (gO' Y 3)), some (.ref (gA' Y 0)), some (.int (zI x2)), some (.int (zI x3)), some (.int (zI x4)), some (.int (zI (x5 + 1)))]) hC dX8_idOf_78 rfl rfl rfl ?_
      refine h_goto (tgt := 37) hC dX8_idOf_81 (by decide) ?_
      obtain ⟨o20, h21⟩ := h19
      exact hk37 _ _ _ _ _ _ _ Rx2 Rx3 Rx4 o20 ho hZ h21
    · have h22 := h17.2 c18
      refine h_aload_n hC dX8_idOf_63 rfl ?_
      refine h_iload hC dX8_idOf_64 rfl ?_
      refine h_aload_n hC dX8_idOf_66 rfl ?_
      refine h_iload_n hC dX8_idOf_67 rfl ?_
      refine h_iload_n hC dX8_idOf_68 rfl ?_
      refine yr_callVi (As := [.int (zI x5), .ref (gA' Y 0), .int (zI x2), .int (zI x3)]) hC hr ho hZ rfl (hZ.w.o 3 (by decide)) (cm_Scanner_isAlike X.la d b Rx5 Rx2 Rx3 hZ.rs h22) cl_X8_92 rfl rfl (Nat.le_of_ble_eq_true rfl) (hFr_of (Nat.le_of_ble_eq_true rfl) (Nat.le_of_ble_eq_true rfl)) dX8_idOf_69 (fun r23 A24 u25 S26 R27 o28 hZ29 h30 => ?_)
      refine yr_if_eq (tgt := 78) hC R27 dX8_idOf_72 (by decide) (fun c31 => ?_) (fun c31 => ?_)
      · have h32 := h30.1 c31
        refine yr_iinc (x := x5) (lv' := [some (.ref (gO' Y 3)), some (.ref (gA' Y 0)), some (.int (zI x2)), some (.int (zI x3)), some (.int (zI x4)), some (.int (zI (x5 + 1)))]) hC dX8_idOf_78 rfl rfl rfl ?_
        refine h_goto (tgt := 37) hC dX8_idOf_81 (by decide) ?_
        obtain ⟨o33, h34⟩ := h32
        exact hk37 _ _ _ _ _ _ _ Rx2 Rx3 Rx4 o33 o28 hZ29 h34
      · have h35 := h30.2 c31
        refine h_iload hC dX8_idOf_75 rfl ?_
        exact yr_iret hC hr o28 hZ29 Rx5 h35 dX8_idOf_77
theorem cl_Scanner_idOf_37 {X : gX} {d : gD} {b : Nat} {Y : gYt} {c : Nat × Nat} {F0 : gM} {S0 : gSt} {mc ms : Nat} (hC : gC RX8 cX8_idOf 6 (some .int) "idOf" (gR 3 mc ms) d b X) (hr : hRm X b) {Q : Int → cS → Prop}   : ∀ (m : Nat) (u : hU) (S : gSt) (A0 : cS) (x2 : Int) (x3 : Int) (x4 : Int) (x5 : Int), zR x2 → zR x3 → zR x4 → zR x5 → yOk X b u → yZ d b Y c F0 S0 u S A0 → wc_Scanner_idOf_37 Q  m A0 x2 x3 x4 x5 → yG X d b (yQi X d b Y c F0 S0 mc ms Q) u 37 [some (.ref (gO' Y 3)), some (.ref (gA' Y 0)), some (.int (zI x2)), some (.int (zI x3)), some (.int (zI x4)), some (.int (zI x5))] [] := by
  intro m
  induction m with
  | zero => intro u S A0 x2 x3 x4 x5 Rx2 Rx3 Rx4 Rx5 ho hZ hw; exact False.elim hw
  | succ m ihm => intro u S A0 x2 x3 x4 x5 Rx2 Rx3 Rx4 Rx5 ho hZ hw; exact cb_Scanner_idOf_37 hC hr  ihm Rx2 Rx3 Rx4 Rx5 ho hZ hw
set_option maxHeartbeats 4000000 in
set_option maxRecDepth 100000 in
theorem cb_Scanner_idOf_8 {X : gX} {d : gD} {b : Nat} {Y : gYt} {c : Nat × Nat} {F0 : gM} {S0 : gSt} {mc ms : Nat} (hC : gC RX8 cX8_idOf 6 (some .int) "idOf" (gR 3 mc ms) d b X) (hr : hRm X b) {Q : Int → cS → Prop} {k8 : cS → Int → Int → Int → Int → Prop} (hk8 : ∀ (u : hU) (S : gSt) (A0 : cS) (x2 : Int) (x3 : Int) (x4 : Int) (x5 : Int), zR x2 → zR x3 → zR x4 → zR x5 → yOk X b u → yZ d b Y c F0 S0 u S A0 → k8 A0 x2 x3 x4 x5 → yG X d b (yQi X d b Y c F0 S0 mc ms Q) u 8 [some (.ref (gO' Y 3)), some (.ref (gA' Y 0)), some (.int (zI x2)), some (.int (zI x3)), some (.int (zI x4)), some (.int (zI x5))] []) {u : hU} {S : gSt} {A0 : cS} {x2 : Int} {x3 : Int} {x4 : Int} {x5 : Int} (Rx2 : zR x2) (Rx3 : zR x3) (Rx4 : zR x4) (Rx5 : zR x5) (ho : yOk X b u) (hZ : yZ d b Y c F0 S0 u S A0) (hw : wc_Scanner_idOf_8B Q k8 A0 x2 x3 x4 x5) : yG X d b (yQi X d b Y c F0 S0 mc ms Q) u 8 [some (.ref (gO' Y 3)), some (.ref (gA' Y 0)), some (.int (zI x2)), some (.int (zI x3)), some (.int (zI x4)), some (.int (zI x5))] [] := by
  unfold wc_Scanner_idOf_8B at hw
  refine h_iload hC dX8_idOf_8 rfl ?_
  refine h_iload_n hC dX8_idOf_10 rfl ?_
  refine yr_icmp_ge (tgt := 34) hC Rx5 Rx3 dX8_idOf_11 (by decide) (fun c1 => ?_) (fun c1 => ?_)
  · have h2 := hw.1 c1
    refine h_iconst (v := zI 0) hC dX8_idOf_34 rfl ?_
    refine h_istore (lv' := [some (.ref (gO' Y 3)), some (.ref (gA' Y 0)), some (.int (zI x2)), some (.int (zI x3)), some (.int (zI x4)), some (.int (zI 0))]) hC dX8_idOf_35 (Nat.le_of_ble_eq_true rfl) rfl rfl ?_
    obtain ⟨m3, h4⟩ := h2
    exact cl_Scanner_idOf_37 hC hr  m3 _ _ _ _ _ _ _ Rx2 Rx3 Rx4 (by decide) ho hZ h4
  · have h5 := hw.2 c1
    refine h_iload hC dX8_idOf_14 rfl ?_
    refine h_bipush (v := zI 31) hC dX8_idOf_16 rfl ?_
    refine yr_imul hC dX8_idOf_18 ?_
    refine h_aload_n hC dX8_idOf_19 rfl ?_
    refine h_iload hC dX8_idOf_20 rfl ?_
    refine yr_get (j := 0) (e := (yget A0 0 x5)) hC hr ho hZ (by decide) Rx5 rfl cl_X8_88 rfl (Nat.le_of_ble_eq_true rfl) (hFr_of (Nat.le_of_ble_eq_true rfl) (Nat.le_of_ble_eq_true rfl)) dX8_idOf_22 ?_
    refine yr_iadd hC dX8_idOf_25 ?_
    refine yr_w (fun z6 e7 R8 => ?_)
    have h9 := h5 z6 e7 R8
    refine h_istore (lv' := [some (.ref (gO' Y 3)), some (.ref (gA' Y 0)), some (.int (zI x2)), some (.int (zI x3)), some (.int (zI z6)), some (.int (zI x5))]) hC dX8_idOf_26 (Nat.le_of_ble_eq_true rfl) rfl rfl ?_
    refine yr_iinc (x := x5) (lv' := [some (.ref (gO' Y 3)), some (.ref (gA' Y 0)), some (.int (zI x2)), some (.int (zI x3)), some (.int (zI z6)), some (.int (zI (x5 + 1)))]) hC dX8_idOf_28 rfl rfl rfl ?_
    refine h_goto (tgt := 8) hC dX8_idOf_31 (by decide) ?_
    obtain ⟨o10, h11⟩ := h9
    exact hk8 _ _ _ _ _ _ _ Rx2 Rx3 R8 o10 ho hZ h11
theorem cl_Scanner_idOf_8 {X : gX} {d : gD} {b : Nat} {Y : gYt} {c : Nat × Nat} {F0 : gM} {S0 : gSt} {mc ms : Nat} (hC : gC RX8 cX8_idOf 6 (some .int) "idOf" (gR 3 mc ms) d b X) (hr : hRm X b) {Q : Int → cS → Prop}   : ∀ (m : Nat) (u : hU) (S : gSt) (A0 : cS) (x2 : Int) (x3 : Int) (x4 : Int) (x5 : Int), zR x2 → zR x3 → zR x4 → zR x5 → yOk X b u → yZ d b Y c F0 S0 u S A0 → wc_Scanner_idOf_8 Q  m A0 x2 x3 x4 x5 → yG X d b (yQi X d b Y c F0 S0 mc ms Q) u 8 [some (.ref (gO' Y 3)), some (.ref (gA' Y 0)), some (.int (zI x2)), some (.int (zI x3)), some (.int (zI x4)), some (.int (zI x5))] [] := by
  intro m
  induction m with
  | zero => intro u S A0 x2 x3 x4 x5 Rx2 Rx3 Rx4 Rx5 ho hZ hw; exact False.elim hw
  | succ m ihm => intro u S A0 x2 x3 x4 x5 Rx2 Rx3 Rx4 Rx5 ho hZ hw; exact cb_Scanner_idOf_8 hC hr  ihm Rx2 Rx3 Rx4 Rx5 ho hZ hw
set_option maxHeartbeats 4000000 in
set_option maxRecDepth 100000 in
theorem cm_Scanner_idOf (l : Launch) (d : gD) (b : Nat) {Y : gYt} {c : Nat × Nat} {F : gM} {k n : Nat} {S : gSt} {A0 : cS} {a1 : Int} {a2 : Int} (Ra1 : zR a1) (Ra2 : zR a2) {Q : Int → cS → Prop} (hZ : yZ d b Y c F S (F, k, n) S A0) (hw : wc_Scanner_idOf A0 a1 a2 Q) : hMi l d b yX8_idOf cX8_idOf 6 .int 3 k n F [.ref (gO' Y 3), .ref (gA' Y 0), .int (zI a1), .int (zI a2)] (yPi d b Y c F S Q) := by
  intro mc ms
  refine hM_of2 rfl (nL := 6) (Nat.le_of_ble_eq_true rfl) ?_
  intro X hX hC hr ho; subst hX
  show yG X d b (yQi X d b Y c F S mc ms Q) (F, k, n) 0 [some (.ref (gO' Y 3)), some (.ref (gA' Y 0)), some (.int (zI a1)), some (.int (zI a2)), none, none] []
  unfold wc_Scanner_idOf at hw
  refine h_iload_n hC dX8_idOf_0 rfl ?_
  refine h_iload_n hC dX8_idOf_1 rfl ?_
  refine yr_isub hC dX8_idOf_2 ?_
  refine h_istore (lv' := [some (.ref (gO' Y 3)), some (.ref (gA' Y 0)), some (.int (zI a1)), some (.int (zI a2)), some (.int (zI (a2 - a1))), none]) hC dX8_idOf_3 (Nat.le_of_ble_eq_true rfl) rfl rfl ?_
  refine h_iload_n hC dX8_idOf_5 rfl ?_
  refine h_istore (lv' := [some (.ref (gO' Y 3)), some (.ref (gA' Y 0)), some (.int (zI a1)), some (.int (zI a2)), some (.int (zI (a2 - a1))), some (.int (zI a1))]) hC dX8_idOf_6 (Nat.le_of_ble_eq_true rfl) rfl rfl ?_
  obtain ⟨o1, h2⟩ := hw
  obtain ⟨m3, h4⟩ := h2
  exact cl_Scanner_idOf_8 hC hr  m3 _ _ _ _ _ _ _ Ra1 Ra2 o1 Ra1 ho hZ h4
theorem dX8_skipLine_0 : decode cX8_skipLine 0 = .ok (.iconst 0, 1) := by decide +kernel
theorem dX8_skipLine_1 : decode cX8_skipLine 1 = .ok (.istore_n 1, 1) := by decide +kernel
theorem dX8_skipLine_2 : decode cX8_skipLine 2 = .ok (.iload_n 1, 1) := by decide +kernel
theorem dX8_skipLine_3 : decode cX8_skipLine 3 = .ok (.aload_n 0, 1) := by decide +kernel
theorem dX8_skipLine_4 : decode cX8_skipLine 4 = .ok (.getfield 47, 3) := by decide +kernel
theorem dX8_skipLine_7 : decode cX8_skipLine 7 = .ok (.invokevirtual 62, 3) := by decide +kernel
theorem dX8_skipLine_10 : decode cX8_skipLine 10 = .ok (.if_icmp .gt 49, 3) := by decide +kernel
theorem dX8_skipLine_13 : decode cX8_skipLine 13 = .ok (.aload_n 0, 1) := by decide +kernel
theorem dX8_skipLine_14 : decode cX8_skipLine 14 = .ok (.getfield 39, 3) := by decide +kernel
theorem dX8_skipLine_17 : decode cX8_skipLine 17 = .ok (.aload_n 0, 1) := by decide +kernel
theorem dX8_skipLine_18 : decode cX8_skipLine 18 = .ok (.getfield 47, 3) := by decide +kernel
theorem dX8_skipLine_21 : decode cX8_skipLine 21 = .ok (.invokevirtual 62, 3) := by decide +kernel
theorem dX8_skipLine_24 : decode cX8_skipLine 24 = .ok (.if_icmp .ge 35, 3) := by decide +kernel
theorem dX8_skipLine_27 : decode cX8_skipLine 27 = .ok (.aload_n 0, 1) := by decide +kernel
theorem dX8_skipLine_28 : decode cX8_skipLine 28 = .ok (.getfield 47, 3) := by decide +kernel
theorem dX8_skipLine_31 : decode cX8_skipLine 31 = .ok (.aload_n 0, 1) := by decide +kernel
theorem dX8_skipLine_32 : decode cX8_skipLine 32 = .ok (.getfield 39, 3) := by decide +kernel
theorem dX8_skipLine_35 : decode cX8_skipLine 35 = .ok (.invokevirtual 88, 3) := by decide +kernel
theorem dX8_skipLine_38 : decode cX8_skipLine 38 = .ok (.bipush 10, 2) := by decide +kernel
theorem dX8_skipLine_40 : decode cX8_skipLine 40 = .ok (.if_icmp .eq 19, 3) := by decide +kernel
theorem dX8_skipLine_43 : decode cX8_skipLine 43 = .ok (.aload_n 0, 1) := by decide +kernel
theorem dX8_skipLine_44 : decode cX8_skipLine 44 = .ok (.dup, 1) := by decide +kernel
theorem dX8_skipLine_45 : decode cX8_skipLine 45 = .ok (.getfield 39, 3) := by decide +kernel
theorem dX8_skipLine_48 : decode cX8_skipLine 48 = .ok (.iconst 1, 1) := by decide +kernel
theorem dX8_skipLine_49 : decode cX8_skipLine 49 = .ok (.iadd, 1) := by decide +kernel
theorem dX8_skipLine_50 : decode cX8_skipLine 50 = .ok (.putfield 39, 3) := by decide +kernel
theorem dX8_skipLine_53 : decode cX8_skipLine 53 = .ok (.iinc 1 1, 3) := by decide +kernel
theorem dX8_skipLine_56 : decode cX8_skipLine 56 = .ok (.goto (-54), 3) := by decide +kernel
theorem dX8_skipLine_59 : decode cX8_skipLine 59 = .ok (.return_, 1) := by decide +kernel
def wc_Scanner_skipLine_2B (Q : cS → Prop) (k2 : cS → Int → Prop) (A0 : cS) (x1 : Int) : Prop :=
  ((((yz A0 0 : Nat) : Int) < x1 → Q A0) ∧ (¬ ((yz A0 0 : Nat) : Int) < x1 → ((((yz A0 0 : Nat) : Int) ≤ (yv A0 8) → Q A0) ∧ (¬ ((yz A0 0 : Nat) : Int) ≤ (yv A0 8) → (((yget A0 0 (yv A0 8)) = 10 → Q A0) ∧ (¬ (yget A0 0 (yv A0 8)) = 10 → (zR ((yv A0 8) + 1)) ∧ (zR (x1 + 1)) ∧ k2 (ypv A0 8 ((yv A0 8) + 1)) (x1 + 1)))))))
def wc_Scanner_skipLine_2 (Q : cS → Prop)  : Nat → cS → Int → Prop
  | 0 => fun _ _ => False
  | m + 1 => fun A0 x1 => wc_Scanner_skipLine_2B Q  (wc_Scanner_skipLine_2 Q  m) A0 x1
def wc_Scanner_skipLine (A0 : cS)  (Q : cS → Prop) : Prop :=
  ∃ n, wc_Scanner_skipLine_2 Q  n A0 0
set_option maxHeartbeats 4000000 in
set_option maxRecDepth 100000 in
theorem cb_Scanner_skipLine_2 {X : gX} {d : gD} {b : Nat} {Y : gYt} {c : Nat × Nat} {F0 : gM} {S0 : gSt} {mc ms : Nat} (hC : gC RX8 cX8_skipLine 2 none "skipLine" (gR 1 mc ms) d b X) (hr : hRm X b) {Q : cS → Prop} {k2 : cS → Int → Prop} (hk2 : ∀ (u : hU) (S : gSt) (A0 : cS) (x1 : Int), zR x1 → yOk X b u → yZ d b Y c F0 S0 u S A0 → k2 A0 x1 → yG X d b (yQv X d b Y c F0 S0 mc ms Q) u 2 [some (.ref (gO' Y 3)), some (.int (zI x1))] []) {u : hU} {S : gSt} {A0 : cS} {x1 : Int} (Rx1 : zR x1) (ho : yOk X b u) (hZ : yZ d b Y c F0 S0 u S A0) (hw : wc_Scanner_skipLine_2B Q k2 A0 x1) : yG X d b (yQv X d b Y c F0 S0 mc ms Q) u 2 [some (.ref (gO' Y 3)), some (.int (zI x1))] [] := by
  unfold wc_Scanner_skipLine_2B at hw
  refine h_iload_n hC dX8_skipLine_2 rfl ?_
  refine h_aload_n hC dX8_skipLine_3 rfl ?_
  refine h_get hC fl_X8_47 (hZ.w.o 3 (by decide)) rfl dX8_skipLine_4 ?_
  refine yr_size (j := 0) (e := ((yz A0 0 : Nat) : Int)) hC hr ho hZ (by decide) rfl cl_X8_62 rfl (Nat.le_of_ble_eq_true rfl) (hFr_of (Nat.le_of_ble_eq_true rfl) (Nat.le_of_ble_eq_true rfl)) dX8_skipLine_7 ?_
  refine yr_icmp_gt (tgt := 59) hC Rx1 (hZ.rz (j := 0) (by decide)) dX8_skipLine_10 (by decide) (fun c1 => ?_) (fun c1 => ?_)
  · have h2 := hw.1 c1
    exact yr_vret hC hr ho hZ h2 dX8_skipLine_59
  · have h3 := hw.2 c1
    refine h_aload_n hC dX8_skipLine_13 rfl ?_
    refine h_get hC fl_X8_39 (hZ.w.o 3 (by decide)) rfl dX8_skipLine_14 ?_
    refine yr_sv (e := (yv A0 8)) hZ 8 rfl ?_
    refine h_aload_n hC dX8_skipLine_17 rfl ?_
    refine h_get hC fl_X8_47 (hZ.w.o 3 (by decide)) rfl dX8_skipLine_18 ?_
    refine yr_size (j := 0) (e := ((yz A0 0 : Nat) : Int)) hC hr ho hZ (by decide) rfl cl_X8_62 rfl (Nat.le_of_ble_eq_true rfl) (hFr_of (Nat.le_of_ble_eq_true rfl) (Nat.le_of_ble_eq_true rfl)) dX8_skipLine_21 ?_
    refine yr_icmp_ge (tgt := 59) hC (hZ.rv 8) (hZ.rz (j := 0) (by decide)) dX8_skipLine_24 (by decide) (fun c4 => ?_) (fun c4 => ?_)
    · have h5 := h3.1 c4
      exact yr_vret hC hr ho hZ h5 dX8_skipLine_59
    · have h6 := h3.2 c4
      refine h_aload_n hC dX8_skipLine_27 rfl ?_
      refine h_get hC fl_X8_47 (hZ.w.o 3 (by decide)) rfl dX8_skipLine_28 ?_
      refine h_aload_n hC dX8_skipLine_31 rfl ?_
      refine h_get hC fl_X8_39 (hZ.w.o 3 (by decide)) rfl dX8_skipLine_32 ?_
      refine yr_sv (e := (yv A0 8)) hZ 8 rfl ?_
      refine yr_get (j := 0) (e := (yget A0 0 (yv A0 8))) hC hr ho hZ (by decide) (hZ.rv 8) rfl cl_X8_88 rfl (Nat.le_of_ble_eq_true rfl) (hFr_of (Nat.le_of_ble_eq_true rfl) (Nat.le_of_ble_eq_true rfl)) dX8_skipLine_35 ?_
      refine h_bipush (v := zI 10) hC dX8_skipLine_38 rfl ?_
      refine yr_icmp_eq (tgt := 59) hC (hZ.rg 0 _) (by decide) dX8_skipLine_40 (by decide) (fun c7 => ?_) (fun c7 => ?_)
      · have h8 := h6.1 c7
        exact yr_vret hC hr ho hZ h8 dX8_skipLine_59
      · have h9 := h6.2 c7
        refine h_aload_n hC dX8_skipLine_43 rfl ?_
        refine h_dup hC dX8_skipLine_44 rfl ?_
        refine h_get hC fl_X8_39 (hZ.w.o 3 (by decide)) rfl dX8_skipLine_45 ?_
        refine yr_sv (e := (yv A0 8)) hZ 8 rfl ?_
        refine h_iconst (v := zI 1) hC dX8_skipLine_48 rfl ?_
        refine yr_iadd hC dX8_skipLine_49 ?_
        obtain ⟨o10, h11⟩ := h9
        refine hi_putx (i := 3) (kx := 8) hC hZ.hi (by decide) fl_X8_39 rfl rfl rfl (Nat.le_of_ble_eq_true rfl) rfl gsame_8 (fun q => absurd q (by decide)) dX8_skipLine_50 (fun F12 S13 I14 K15 s16 v17 p18 => ?_)
        have hZ19 := hZ.put I14 K15 s16 v17 o10 rfl
        clear I14 K15 s16 v17 p18
        refine yr_nu ho hZ19 (fun u20 o21 hZ22 => ?_)
        refine yr_iinc (x := x1) (lv' := [some (.ref (gO' Y 3)), some (.int (zI (x1 + 1)))]) hC dX8_skipLine_53 rfl rfl rfl ?_
        refine h_goto (tgt := 2) hC dX8_skipLine_56 (by decide) ?_
        obtain ⟨o23, h24⟩ := h11
        exact hk2 _ _ _ _ o23 o21 hZ22 h24
theorem cl_Scanner_skipLine_2 {X : gX} {d : gD} {b : Nat} {Y : gYt} {c : Nat × Nat} {F0 : gM} {S0 : gSt} {mc ms : Nat} (hC : gC RX8 cX8_skipLine 2 none "skipLine" (gR 1 mc ms) d b X) (hr : hRm X b) {Q : cS → Prop}   : ∀ (m : Nat) (u : hU) (S : gSt) (A0 : cS) (x1 : Int), zR x1 → yOk X b u → yZ d b Y c F0 S0 u S A0 → wc_Scanner_skipLine_2 Q  m A0 x1 → yG X d b (yQv X d b Y c F0 S0 mc ms Q) u 2 [some (.ref (gO' Y 3)), some (.int (zI x1))] [] := by
  intro m
  induction m with
  | zero => intro u S A0 x1 Rx1 ho hZ hw; exact False.elim hw
  | succ m ihm => intro u S A0 x1 Rx1 ho hZ hw; exact cb_Scanner_skipLine_2 hC hr  ihm Rx1 ho hZ hw
set_option maxHeartbeats 4000000 in
set_option maxRecDepth 100000 in
theorem cm_Scanner_skipLine (l : Launch) (d : gD) (b : Nat) {Y : gYt} {c : Nat × Nat} {F : gM} {k n : Nat} {S : gSt} {A0 : cS}   {Q : cS → Prop} (hZ : yZ d b Y c F S (F, k, n) S A0) (hw : wc_Scanner_skipLine A0  Q) : hMv l d b yX8_skipLine cX8_skipLine 2 1 k n F [.ref (gO' Y 3)] (yPv d b Y c F S Q) := by
  intro mc ms
  refine hM_of2 rfl (nL := 2) (Nat.le_of_ble_eq_true rfl) ?_
  intro X hX hC hr ho; subst hX
  show yG X d b (yQv X d b Y c F S mc ms Q) (F, k, n) 0 [some (.ref (gO' Y 3)), none] []
  unfold wc_Scanner_skipLine at hw
  refine h_iconst (v := zI 0) hC dX8_skipLine_0 rfl ?_
  refine h_istore_n (lv' := [some (.ref (gO' Y 3)), some (.int (zI 0))]) hC dX8_skipLine_1 (Nat.le_of_ble_eq_true rfl) rfl rfl ?_
  obtain ⟨m1, h2⟩ := hw
  exact cl_Scanner_skipLine_2 hC hr  m1 _ _ _ _ (by decide) ho hZ h2
theorem dX8_pass_0 : decode cX8_pass 0 = .ok (.iconst 0, 1) := by decide +kernel
theorem dX8_pass_1 : decode cX8_pass 1 = .ok (.istore_n 1, 1) := by decide +kernel
theorem dX8_pass_2 : decode cX8_pass 2 = .ok (.iload_n 1, 1) := by decide +kernel
theorem dX8_pass_3 : decode cX8_pass 3 = .ok (.aload_n 0, 1) := by decide +kernel
theorem dX8_pass_4 : decode cX8_pass 4 = .ok (.getfield 47, 3) := by decide +kernel
theorem dX8_pass_7 : decode cX8_pass 7 = .ok (.invokevirtual 62, 3) := by decide +kernel
theorem dX8_pass_10 : decode cX8_pass 10 = .ok (.if_icmp .gt 122, 3) := by decide +kernel
theorem dX8_pass_13 : decode cX8_pass 13 = .ok (.aload_n 0, 1) := by decide +kernel
theorem dX8_pass_14 : decode cX8_pass 14 = .ok (.getfield 39, 3) := by decide +kernel
theorem dX8_pass_17 : decode cX8_pass 17 = .ok (.aload_n 0, 1) := by decide +kernel
theorem dX8_pass_18 : decode cX8_pass 18 = .ok (.getfield 47, 3) := by decide +kernel
theorem dX8_pass_21 : decode cX8_pass 21 = .ok (.invokevirtual 62, 3) := by decide +kernel
theorem dX8_pass_24 : decode cX8_pass 24 = .ok (.if_icmp .ge 108, 3) := by decide +kernel
theorem dX8_pass_27 : decode cX8_pass 27 = .ok (.aload_n 0, 1) := by decide +kernel
theorem dX8_pass_28 : decode cX8_pass 28 = .ok (.getfield 47, 3) := by decide +kernel
theorem dX8_pass_31 : decode cX8_pass 31 = .ok (.aload_n 0, 1) := by decide +kernel
theorem dX8_pass_32 : decode cX8_pass 32 = .ok (.getfield 39, 3) := by decide +kernel
theorem dX8_pass_35 : decode cX8_pass 35 = .ok (.invokevirtual 88, 3) := by decide +kernel
theorem dX8_pass_38 : decode cX8_pass 38 = .ok (.istore_n 2, 1) := by decide +kernel
theorem dX8_pass_39 : decode cX8_pass 39 = .ok (.iload_n 2, 1) := by decide +kernel
theorem dX8_pass_40 : decode cX8_pass 40 = .ok (.bipush 47, 2) := by decide +kernel
theorem dX8_pass_42 : decode cX8_pass 42 = .ok (.if_icmp .ne 28, 3) := by decide +kernel
theorem dX8_pass_45 : decode cX8_pass 45 = .ok (.aload_n 0, 1) := by decide +kernel
theorem dX8_pass_46 : decode cX8_pass 46 = .ok (.getfield 47, 3) := by decide +kernel
theorem dX8_pass_49 : decode cX8_pass 49 = .ok (.aload_n 0, 1) := by decide +kernel
theorem dX8_pass_50 : decode cX8_pass 50 = .ok (.getfield 39, 3) := by decide +kernel
theorem dX8_pass_53 : decode cX8_pass 53 = .ok (.iconst 1, 1) := by decide +kernel
theorem dX8_pass_54 : decode cX8_pass 54 = .ok (.iadd, 1) := by decide +kernel
theorem dX8_pass_55 : decode cX8_pass 55 = .ok (.invokevirtual 88, 3) := by decide +kernel
theorem dX8_pass_58 : decode cX8_pass 58 = .ok (.bipush 47, 2) := by decide +kernel
theorem dX8_pass_60 : decode cX8_pass 60 = .ok (.if_icmp .ne 10, 3) := by decide +kernel
theorem dX8_pass_63 : decode cX8_pass 63 = .ok (.aload_n 0, 1) := by decide +kernel
theorem dX8_pass_64 : decode cX8_pass 64 = .ok (.invokevirtual 109, 3) := by decide +kernel
theorem dX8_pass_67 : decode cX8_pass 67 = .ok (.goto 59, 3) := by decide +kernel
theorem dX8_pass_70 : decode cX8_pass 70 = .ok (.iload_n 2, 1) := by decide +kernel
theorem dX8_pass_71 : decode cX8_pass 71 = .ok (.bipush 10, 2) := by decide +kernel
theorem dX8_pass_73 : decode cX8_pass 73 = .ok (.if_icmp .ne 21, 3) := by decide +kernel
theorem dX8_pass_76 : decode cX8_pass 76 = .ok (.aload_n 0, 1) := by decide +kernel
theorem dX8_pass_77 : decode cX8_pass 77 = .ok (.iconst 1, 1) := by decide +kernel
theorem dX8_pass_78 : decode cX8_pass 78 = .ok (.putfield 43, 3) := by decide +kernel
theorem dX8_pass_81 : decode cX8_pass 81 = .ok (.aload_n 0, 1) := by decide +kernel
theorem dX8_pass_82 : decode cX8_pass 82 = .ok (.dup, 1) := by decide +kernel
theorem dX8_pass_83 : decode cX8_pass 83 = .ok (.getfield 39, 3) := by decide +kernel
theorem dX8_pass_86 : decode cX8_pass 86 = .ok (.iconst 1, 1) := by decide +kernel
theorem dX8_pass_87 : decode cX8_pass 87 = .ok (.iadd, 1) := by decide +kernel
theorem dX8_pass_88 : decode cX8_pass 88 = .ok (.putfield 39, 3) := by decide +kernel
theorem dX8_pass_91 : decode cX8_pass 91 = .ok (.goto 35, 3) := by decide +kernel
theorem dX8_pass_94 : decode cX8_pass 94 = .ok (.iload_n 2, 1) := by decide +kernel
theorem dX8_pass_95 : decode cX8_pass 95 = .ok (.bipush 9, 2) := by decide +kernel
theorem dX8_pass_97 : decode cX8_pass 97 = .ok (.if_icmp .eq 15, 3) := by decide +kernel
theorem dX8_pass_100 : decode cX8_pass 100 = .ok (.iload_n 2, 1) := by decide +kernel
theorem dX8_pass_101 : decode cX8_pass 101 = .ok (.bipush 13, 2) := by decide +kernel
theorem dX8_pass_103 : decode cX8_pass 103 = .ok (.if_icmp .eq 9, 3) := by decide +kernel
theorem dX8_pass_106 : decode cX8_pass 106 = .ok (.iload_n 2, 1) := by decide +kernel
theorem dX8_pass_107 : decode cX8_pass 107 = .ok (.bipush 32, 2) := by decide +kernel
theorem dX8_pass_109 : decode cX8_pass 109 = .ok (.if_icmp .ne 16, 3) := by decide +kernel
theorem dX8_pass_112 : decode cX8_pass 112 = .ok (.aload_n 0, 1) := by decide +kernel
theorem dX8_pass_113 : decode cX8_pass 113 = .ok (.dup, 1) := by decide +kernel
theorem dX8_pass_114 : decode cX8_pass 114 = .ok (.getfield 39, 3) := by decide +kernel
theorem dX8_pass_117 : decode cX8_pass 117 = .ok (.iconst 1, 1) := by decide +kernel
theorem dX8_pass_118 : decode cX8_pass 118 = .ok (.iadd, 1) := by decide +kernel
theorem dX8_pass_119 : decode cX8_pass 119 = .ok (.putfield 39, 3) := by decide +kernel
theorem dX8_pass_122 : decode cX8_pass 122 = .ok (.goto 4, 3) := by decide +kernel
theorem dX8_pass_125 : decode cX8_pass 125 = .ok (.return_, 1) := by decide +kernel
theorem dX8_pass_126 : decode cX8_pass 126 = .ok (.iinc 1 1, 3) := by decide +kernel
theorem dX8_pass_129 : decode cX8_pass 129 = .ok (.goto (-127), 3) := by decide +kernel
theorem dX8_pass_132 : decode cX8_pass 132 = .ok (.return_, 1) := by decide +kernel
def wc_Scanner_pass_70 (Q : cS → Prop) (k2 : cS → Int → Prop) (A0 : cS) (x1 : Int) (x2 : Int) : Prop :=
  ((¬ x2 = 10 → ((x2 = 9 → (zR ((yv A0 8) + 1)) ∧ (zR (x1 + 1)) ∧ k2 (ypv A0 8 ((yv A0 8) + 1)) (x1 + 1)) ∧ (¬ x2 = 9 → ((x2 = 13 → (zR ((yv A0 8) + 1)) ∧ (zR (x1 + 1)) ∧ k2 (ypv A0 8 ((yv A0 8) + 1)) (x1 + 1)) ∧ (¬ x2 = 13 → ((¬ x2 = 32 → Q A0) ∧ (x2 = 32 → (zR ((yv A0 8) + 1)) ∧ (zR (x1 + 1)) ∧ k2 (ypv A0 8 ((yv A0 8) + 1)) (x1 + 1)))))))) ∧ (x2 = 10 → (zR ((yv A0 8) + 1)) ∧ (zR (x1 + 1)) ∧ k2 (ypv (ypv A0 9 1) 8 ((yv A0 8) + 1)) (x1 + 1)))
def wc_Scanner_pass_2B (Q : cS → Prop) (k2 : cS → Int → Prop) (A0 : cS) (x1 : Int) : Prop :=
  ((((yz A0 0 : Nat) : Int) < x1 → Q A0) ∧ (¬ ((yz A0 0 : Nat) : Int) < x1 → ((((yz A0 0 : Nat) : Int) ≤ (yv A0 8) → Q A0) ∧ (¬ ((yz A0 0 : Nat) : Int) ≤ (yv A0 8) → ((¬ (yget A0 0 (yv A0 8)) = 47 → wc_Scanner_pass_70 Q k2 A0 x1 (yget A0 0 (yv A0 8))) ∧ ((yget A0 0 (yv A0 8)) = 47 → (zR ((yv A0 8) + 1)) ∧ ((¬ (yget A0 0 ((yv A0 8) + 1)) = 47 → wc_Scanner_pass_70 Q k2 A0 x1 (yget A0 0 (yv A0 8))) ∧ ((yget A0 0 ((yv A0 8) + 1)) = 47 → wc_Scanner_skipLine A0  (fun A16 => (zR (x1 + 1)) ∧ k2 A16 (x1 + 1))))))))))
def wc_Scanner_pass_2 (Q : cS → Prop)  : Nat → cS → Int → Prop
  | 0 => fun _ _ => False
  | m + 1 => fun A0 x1 => wc_Scanner_pass_2B Q  (wc_Scanner_pass_2 Q  m) A0 x1
def wc_Scanner_pass (A0 : cS)  (Q : cS → Prop) : Prop :=
  ∃ n, wc_Scanner_pass_2 Q  n A0 0
set_option maxHeartbeats 4000000 in
set_option maxRecDepth 100000 in
theorem cj_Scanner_pass_70 {X : gX} {d : gD} {b : Nat} {Y : gYt} {c : Nat × Nat} {F0 : gM} {S0 : gSt} {mc ms : Nat} (hC : gC RX8 cX8_pass 3 none "pass" (gR 2 mc ms) d b X) (hr : hRm X b) {Q : cS → Prop} {k2 : cS → Int → Prop} (hk2 : ∀ (u : hU) (S : gSt) (A0 : cS) (x1 : Int), zR x1 → yOk X b u → yZ d b Y c F0 S0 u S A0 → k2 A0 x1 → yG X d b (yQv X d b Y c F0 S0 mc ms Q) u 2 [some (.ref (gO' Y 3)), some (.int (zI x1)), none] []) {u : hU} {S : gSt} {A0 : cS} {x1 : Int} {x2 : Int} (Rx1 : zR x1) (Rx2 : zR x2) (ho : yOk X b u) (hZ : yZ d b Y c F0 S0 u S A0) (hw : wc_Scanner_pass_70 Q k2 A0 x1 x2) : yG X d b (yQv X d b Y c F0 S0 mc ms Q) u 70 [some (.ref (gO' Y 3)), some (.int (zI x1)), some (.int (zI x2))] [] := by
  unfold wc_Scanner_pass_70 at hw
  refine h_iload_n hC dX8_pass_70 rfl ?_
  refine h_bipush (v := zI 10) hC dX8_pass_71 rfl ?_
  refine yr_icmp_ne (tgt := 94) hC Rx2 (by decide) dX8_pass_73 (by decide) (fun c1 => ?_) (fun c1 => ?_)
  · have h2 := hw.1 c1
    refine h_iload_n hC dX8_pass_94 rfl ?_
    refine h_bipush (v := zI 9) hC dX8_pass_95 rfl ?_
    refine yr_icmp_eq (tgt := 112) hC Rx2 (by decide) dX8_pass_97 (by decide) (fun c3 => ?_) (fun c3 => ?_)
    · have h4 := h2.1 c3
      refine h_aload_n hC dX8_pass_112 rfl ?_
      refine h_dup hC dX8_pass_113 rfl ?_
      refine h_get hC fl_X8_39 (hZ.w.o 3 (by decide)) rfl dX8_pass_114 ?_
      refine yr_sv (e := (yv A0 8)) hZ 8 rfl ?_
      refine h_iconst (v := zI 1) hC dX8_pass_117 rfl ?_
      refine yr_iadd hC dX8_pass_118 ?_
      obtain ⟨o5, h6⟩ := h4
      refine hi_putx (i := 3) (kx := 8) hC hZ.hi (by decide) fl_X8_39 rfl rfl rfl (Nat.le_of_ble_eq_true rfl) rfl gsame_8 (fun q => absurd q (by decide)) dX8_pass_119 (fun F7 S8 I9 K10 s11 v12 p13 => ?_)
      have hZ14 := hZ.put I9 K10 s11 v12 o5 rfl
      clear I9 K10 s11 v12 p13
      refine yr_nu ho hZ14 (fun u15 o16 hZ17 => ?_)
      refine h_goto (tgt := 126) hC dX8_pass_122 (by decide) ?_
      refine yr_iinc (x := x1) (lv' := [some (.ref (gO' Y 3)), some (.int (zI (x1 + 1))), some (.int (zI x2))]) hC dX8_pass_126 rfl rfl rfl ?_
      refine h_goto (tgt := 2) hC dX8_pass_129 (by decide) ?_
      obtain ⟨o18, h19⟩ := h6
      refine h_lv (lv' := [some (.ref (gO' Y 3)), some (.int (zI (x1 + 1))), none]) ⟨rfl, rfl, trivial⟩ ?_
      exact hk2 _ _ _ _ o18 o16 hZ17 h19
    · have h20 := h2.2 c3
      refine h_iload_n hC dX8_pass_100 rfl ?_
      refine h_bipush (v := zI 13) hC dX8_pass_101 rfl ?_
      refine yr_icmp_eq (tgt := 112) hC Rx2 (by decide) dX8_pass_103 (by decide) (fun c21 => ?_) (fun c21 => ?_)
      · have h22 := h20.1 c21
        refine h_aload_n hC dX8_pass_112 rfl ?_
        refine h_dup hC dX8_pass_113 rfl ?_
        refine h_get hC fl_X8_39 (hZ.w.o 3 (by decide)) rfl dX8_pass_114 ?_
        refine yr_sv (e := (yv A0 8)) hZ 8 rfl ?_
        refine h_iconst (v := zI 1) hC dX8_pass_117 rfl ?_
        refine yr_iadd hC dX8_pass_118 ?_
        obtain ⟨o23, h24⟩ := h22
        refine hi_putx (i := 3) (kx := 8) hC hZ.hi (by decide) fl_X8_39 rfl rfl rfl (Nat.le_of_ble_eq_true rfl) rfl gsame_8 (fun q => absurd q (by decide)) dX8_pass_119 (fun F25 S26 I27 K28 s29 v30 p31 => ?_)
        have hZ32 := hZ.put I27 K28 s29 v30 o23 rfl
        clear I27 K28 s29 v30 p31
        refine yr_nu ho hZ32 (fun u33 o34 hZ35 => ?_)
        refine h_goto (tgt := 126) hC dX8_pass_122 (by decide) ?_
        refine yr_iinc (x := x1) (lv' := [some (.ref (gO' Y 3)), some (.int (zI (x1 + 1))), some (.int (zI x2))]) hC dX8_pass_126 rfl rfl rfl ?_
        refine h_goto (tgt := 2) hC dX8_pass_129 (by decide) ?_
        obtain ⟨o36, h37⟩ := h24
        refine h_lv (lv' := [some (.ref (gO' Y 3)), some (.int (zI (x1 + 1))), none]) ⟨rfl, rfl, trivial⟩ ?_
        exact hk2 _ _ _ _ o36 o34 hZ35 h37
      · have h38 := h20.2 c21
        refine h_iload_n hC dX8_pass_106 rfl ?_
        refine h_bipush (v := zI 32) hC dX8_pass_107 rfl ?_
        refine yr_icmp_ne (tgt := 125) hC Rx2 (by decide) dX8_pass_109 (by decide) (fun c39 => ?_) (fun c39 => ?_)
        · have h40 := h38.1 c39
          exact yr_vret hC hr ho hZ h40 dX8_pass_125
        · have h41 := h38.2 c39
          refine h_aload_n hC dX8_pass_112 rfl ?_
          refine h_dup hC dX8_pass_113 rfl ?_
          refine h_get hC fl_X8_39 (hZ.w.o 3 (by decide)) rfl dX8_pass_114 ?_
          refine yr_sv (e := (yv A0 8)) hZ 8 rfl ?_
          refine h_iconst (v := zI 1) hC dX8_pass_117 rfl ?_
          refine yr_iadd hC dX8_pass_118 ?_
          obtain ⟨o42, h43⟩ := h41
          refine hi_putx (i := 3) (kx := 8) hC hZ.hi (by decide) fl_X8_39 rfl rfl rfl (Nat.le_of_ble_eq_true rfl) rfl gsame_8 (fun q => absurd q (by decide)) dX8_pass_119 (fun F44 S45 I46 K47 s48 v49 p50 => ?_)
          have hZ51 := hZ.put I46 K47 s48 v49 o42 rfl
          clear I46 K47 s48 v49 p50
          refine yr_nu ho hZ51 (fun u52 o53 hZ54 => ?_)
          refine h_goto (tgt := 126) hC dX8_pass_122 (by decide) ?_
          refine yr_iinc (x := x1) (lv' := [some (.ref (gO' Y 3)), some (.int (zI (x1 + 1))), some (.int (zI x2))]) hC dX8_pass_126 rfl rfl rfl ?_
          refine h_goto (tgt := 2) hC dX8_pass_129 (by decide) ?_
          obtain ⟨o55, h56⟩ := h43
          refine h_lv (lv' := [some (.ref (gO' Y 3)), some (.int (zI (x1 + 1))), none]) ⟨rfl, rfl, trivial⟩ ?_
          exact hk2 _ _ _ _ o55 o53 hZ54 h56
  · have h57 := hw.2 c1
    refine h_aload_n hC dX8_pass_76 rfl ?_
    refine h_iconst (v := zI 1) hC dX8_pass_77 rfl ?_
    refine hi_putx (i := 3) (kx := 9) hC hZ.hi (by decide) fl_X8_43 rfl (ynb (Or.inr rfl)) (yfb (Or.inr rfl)) (Nat.le_of_ble_eq_true rfl) rfl gsame_9 (fun _ => y01 (Or.inr rfl)) dX8_pass_78 (fun F58 S59 I60 K61 s62 v63 p64 => ?_)
    have hZ65 := hZ.put I60 K61 s62 v63 (y01R (Or.inr rfl)) rfl
    clear I60 K61 s62 v63 p64
    refine yr_nu ho hZ65 (fun u66 o67 hZ68 => ?_)
    refine h_aload_n hC dX8_pass_81 rfl ?_
    refine h_dup hC dX8_pass_82 rfl ?_
    refine h_get hC fl_X8_39 (hZ68.w.o 3 (by decide)) rfl dX8_pass_83 ?_
    refine yr_sv (e := (yv A0 8)) hZ68 8 rfl ?_
    refine h_iconst (v := zI 1) hC dX8_pass_86 rfl ?_
    refine yr_iadd hC dX8_pass_87 ?_
    obtain ⟨o69, h70⟩ := h57
    refine hi_putx (i := 3) (kx := 8) hC hZ68.hi (by decide) fl_X8_39 rfl rfl rfl (Nat.le_of_ble_eq_true rfl) rfl gsame_8 (fun q => absurd q (by decide)) dX8_pass_88 (fun F71 S72 I73 K74 s75 v76 p77 => ?_)
    have hZ78 := hZ68.put I73 K74 s75 v76 o69 rfl
    clear I73 K74 s75 v76 p77
    refine yr_nu o67 hZ78 (fun u79 o80 hZ81 => ?_)
    refine h_goto (tgt := 126) hC dX8_pass_91 (by decide) ?_
    refine yr_iinc (x := x1) (lv' := [some (.ref (gO' Y 3)), some (.int (zI (x1 + 1))), some (.int (zI x2))]) hC dX8_pass_126 rfl rfl rfl ?_
    refine h_goto (tgt := 2) hC dX8_pass_129 (by decide) ?_
    obtain ⟨o82, h83⟩ := h70
    refine h_lv (lv' := [some (.ref (gO' Y 3)), some (.int (zI (x1 + 1))), none]) ⟨rfl, rfl, trivial⟩ ?_
    exact hk2 _ _ _ _ o82 o80 hZ81 h83
set_option maxHeartbeats 4000000 in
set_option maxRecDepth 100000 in
theorem cb_Scanner_pass_2 {X : gX} {d : gD} {b : Nat} {Y : gYt} {c : Nat × Nat} {F0 : gM} {S0 : gSt} {mc ms : Nat} (hC : gC RX8 cX8_pass 3 none "pass" (gR 2 mc ms) d b X) (hr : hRm X b) {Q : cS → Prop} {k2 : cS → Int → Prop} (hk2 : ∀ (u : hU) (S : gSt) (A0 : cS) (x1 : Int), zR x1 → yOk X b u → yZ d b Y c F0 S0 u S A0 → k2 A0 x1 → yG X d b (yQv X d b Y c F0 S0 mc ms Q) u 2 [some (.ref (gO' Y 3)), some (.int (zI x1)), none] []) {u : hU} {S : gSt} {A0 : cS} {x1 : Int} (Rx1 : zR x1) (ho : yOk X b u) (hZ : yZ d b Y c F0 S0 u S A0) (hw : wc_Scanner_pass_2B Q k2 A0 x1) : yG X d b (yQv X d b Y c F0 S0 mc ms Q) u 2 [some (.ref (gO' Y 3)), some (.int (zI x1)), none] [] := by
  unfold wc_Scanner_pass_2B at hw
  refine h_iload_n hC dX8_pass_2 rfl ?_
  refine h_aload_n hC dX8_pass_3 rfl ?_
  refine h_get hC fl_X8_47 (hZ.w.o 3 (by decide)) rfl dX8_pass_4 ?_
  refine yr_size (j := 0) (e := ((yz A0 0 : Nat) : Int)) hC hr ho hZ (by decide) rfl cl_X8_62 rfl (Nat.le_of_ble_eq_true rfl) (hFr_of (Nat.le_of_ble_eq_true rfl) (Nat.le_of_ble_eq_true rfl)) dX8_pass_7 ?_
  refine yr_icmp_gt (tgt := 132) hC Rx1 (hZ.rz (j := 0) (by decide)) dX8_pass_10 (by decide) (fun c1 => ?_) (fun c1 => ?_)
  · have h2 := hw.1 c1
    exact yr_vret hC hr ho hZ h2 dX8_pass_132
  · have h3 := hw.2 c1
    refine h_aload_n hC dX8_pass_13 rfl ?_
    refine h_get hC fl_X8_39 (hZ.w.o 3 (by decide)) rfl dX8_pass_14 ?_
    refine yr_sv (e := (yv A0 8)) hZ 8 rfl ?_
    refine h_aload_n hC dX8_pass_17 rfl ?_
    refine h_get hC fl_X8_47 (hZ.w.o 3 (by decide)) rfl dX8_pass_18 ?_
    refine yr_size (j := 0) (e := ((yz A0 0 : Nat) : Int)) hC hr ho hZ (by decide) rfl cl_X8_62 rfl (Nat.le_of_ble_eq_true rfl) (hFr_of (Nat.le_of_ble_eq_true rfl) (Nat.le_of_ble_eq_true rfl)) dX8_pass_21 ?_
    refine yr_icmp_ge (tgt := 132) hC (hZ.rv 8) (hZ.rz (j := 0) (by decide)) dX8_pass_24 (by decide) (fun c4 => ?_) (fun c4 => ?_)
    · have h5 := h3.1 c4
      exact yr_vret hC hr ho hZ h5 dX8_pass_132
    · have h6 := h3.2 c4
      refine h_aload_n hC dX8_pass_27 rfl ?_
      refine h_get hC fl_X8_47 (hZ.w.o 3 (by decide)) rfl dX8_pass_28 ?_
      refine h_aload_n hC dX8_pass_31 rfl ?_
      refine h_get hC fl_X8_39 (hZ.w.o 3 (by decide)) rfl dX8_pass_32 ?_
      refine yr_sv (e := (yv A0 8)) hZ 8 rfl ?_
      refine yr_get (j := 0) (e := (yget A0 0 (yv A0 8))) hC hr ho hZ (by decide) (hZ.rv 8) rfl cl_X8_88 rfl (Nat.le_of_ble_eq_true rfl) (hFr_of (Nat.le_of_ble_eq_true rfl) (Nat.le_of_ble_eq_true rfl)) dX8_pass_35 ?_
      refine h_istore_n (lv' := [some (.ref (gO' Y 3)), some (.int (zI x1)), some (.int (zI (yget A0 0 (yv A0 8))))]) hC dX8_pass_38 (Nat.le_of_ble_eq_true rfl) rfl rfl ?_
      refine h_iload_n hC dX8_pass_39 rfl ?_
      refine h_bipush (v := zI 47) hC dX8_pass_40 rfl ?_
      refine yr_icmp_ne (tgt := 70) hC (hZ.rg 0 _) (by decide) dX8_pass_42 (by decide) (fun c7 => ?_) (fun c7 => ?_)
      · have h8 := h6.1 c7
        exact cj_Scanner_pass_70 hC hr hk2 Rx1 (hZ.rg 0 _) ho hZ h8
      · have h9 := h6.2 c7
        refine h_aload_n hC dX8_pass_45 rfl ?_
        refine h_get hC fl_X8_47 (hZ.w.o 3 (by decide)) rfl dX8_pass_46 ?_
        refine h_aload_n hC dX8_pass_49 rfl ?_
        refine h_get hC fl_X8_39 (hZ.w.o 3 (by decide)) rfl dX8_pass_50 ?_
        refine yr_sv (e := (yv A0 8)) hZ 8 rfl ?_
        refine h_iconst (v := zI 1) hC dX8_pass_53 rfl ?_
        refine yr_iadd hC dX8_pass_54 ?_
        obtain ⟨o10, h11⟩ := h9
        refine yr_get (j := 0) (e := (yget A0 0 ((yv A0 8) + 1))) hC hr ho hZ (by decide) o10 rfl cl_X8_88 rfl (Nat.le_of_ble_eq_true rfl) (hFr_of (Nat.le_of_ble_eq_true rfl) (Nat.le_of_ble_eq_true rfl)) dX8_pass_55 ?_
        refine h_bipush (v := zI 47) hC dX8_pass_58 rfl ?_
        refine yr_icmp_ne (tgt := 70) hC (hZ.rg 0 _) (by decide) dX8_pass_60 (by decide) (fun c12 => ?_) (fun c12 => ?_)
        · have h13 := h11.1 c12
          exact cj_Scanner_pass_70 hC hr hk2 Rx1 (hZ.rg 0 _) ho hZ h13
        · have h14 := h11.2 c12
          refine h_aload_n hC dX8_pass_63 rfl ?_
          refine yr_callVv (As := []) hC hr ho hZ rfl (hZ.w.o 3 (by decide)) (cm_Scanner_skipLine X.la d b  hZ.rs h14) cl_X8_109 rfl rfl (Nat.le_of_ble_eq_true rfl) (hFr_of (Nat.le_of_ble_eq_true rfl) (Nat.le_of_ble_eq_true rfl)) dX8_pass_64 (fun A16 u17 S18 o20 hZ21 h22 => ?_)
          refine h_goto (tgt := 126) hC dX8_pass_67 (by decide) ?_
          refine yr_iinc (x := x1) (lv' := [some (.ref (gO' Y 3)), some (.int (zI (x1 + 1))), some (.int (zI (yget A0 0 (yv A0 8))))]) hC dX8_pass_126 rfl rfl rfl ?_
          refine h_goto (tgt := 2) hC dX8_pass_129 (by decide) ?_
          obtain ⟨o23, h24⟩ := h22
          refine h_lv (lv' := [some (.ref (gO' Y 3)), some (.int (zI (x1 + 1))), none]) ⟨rfl, rfl, trivial⟩ ?_
          exact hk2 _ _ _ _ o23 o20 hZ21 h24
theorem cl_Scanner_pass_2 {X : gX} {d : gD} {b : Nat} {Y : gYt} {c : Nat × Nat} {F0 : gM} {S0 : gSt} {mc ms : Nat} (hC : gC RX8 cX8_pass 3 none "pass" (gR 2 mc ms) d b X) (hr : hRm X b) {Q : cS → Prop}   : ∀ (m : Nat) (u : hU) (S : gSt) (A0 : cS) (x1 : Int), zR x1 → yOk X b u → yZ d b Y c F0 S0 u S A0 → wc_Scanner_pass_2 Q  m A0 x1 → yG X d b (yQv X d b Y c F0 S0 mc ms Q) u 2 [some (.ref (gO' Y 3)), some (.int (zI x1)), none] [] := by
  intro m
  induction m with
  | zero => intro u S A0 x1 Rx1 ho hZ hw; exact False.elim hw
  | succ m ihm => intro u S A0 x1 Rx1 ho hZ hw; exact cb_Scanner_pass_2 hC hr  ihm Rx1 ho hZ hw
set_option maxHeartbeats 4000000 in
set_option maxRecDepth 100000 in
theorem cm_Scanner_pass (l : Launch) (d : gD) (b : Nat) {Y : gYt} {c : Nat × Nat} {F : gM} {k n : Nat} {S : gSt} {A0 : cS}   {Q : cS → Prop} (hZ : yZ d b Y c F S (F, k, n) S A0) (hw : wc_Scanner_pass A0  Q) : hMv l d b yX8_pass cX8_pass 3 2 k n F [.ref (gO' Y 3)] (yPv d b Y c F S Q) := by
  intro mc ms
  refine hM_of2 rfl (nL := 3) (Nat.le_of_ble_eq_true rfl) ?_
  intro X hX hC hr ho; subst hX
  show yG X d b (yQv X d b Y c F S mc ms Q) (F, k, n) 0 [some (.ref (gO' Y 3)), none, none] []
  unfold wc_Scanner_pass at hw
  refine h_iconst (v := zI 0) hC dX8_pass_0 rfl ?_
  refine h_istore_n (lv' := [some (.ref (gO' Y 3)), some (.int (zI 0)), none]) hC dX8_pass_1 (Nat.le_of_ble_eq_true rfl) rfl rfl ?_
  obtain ⟨m1, h2⟩ := hw
  exact cl_Scanner_pass_2 hC hr  m1 _ _ _ _ (by decide) ho hZ h2
def wc_Scanner_mayEnd (A0 : cS) (a0 : Int) (Q : Int → cS → Prop) : Prop :=
  (((a0 = 2 ∨ a0 = 3 ∨ a0 = 4 ∨ a0 = 6 ∨ a0 = 8 ∨ a0 = 32 ∨ a0 = 33 ∨ a0 = 45 ∨ a0 = 46 ∨ a0 = 47 ∨ a0 = 48 ∨ a0 = 50) → Q 1 A0) ∧ (¬ (a0 = 2 ∨ a0 = 3 ∨ a0 = 4 ∨ a0 = 6 ∨ a0 = 8 ∨ a0 = 32 ∨ a0 = 33 ∨ a0 = 45 ∨ a0 = 46 ∨ a0 = 47 ∨ a0 = 48 ∨ a0 = 50) → Q 0 A0))
set_option maxHeartbeats 4000000 in
set_option maxRecDepth 100000 in
theorem cm_Scanner_mayEnd (l : Launch) (d : gD) (b : Nat) {Y : gYt} {c : Nat × Nat} {F : gM} {k n : Nat} {S : gSt} {A0 : cS} {a0 : Int} (Ra0 : zR a0) {Q : Int → cS → Prop} (hZ : yZ d b Y c F S (F, k, n) S A0) (hw : wc_Scanner_mayEnd A0 a0 Q) : hMi l d b yX8_mayEnd cX8_mayEnd 1 .boolean 0 k n F [.int (zI a0)] (yPi d b Y c F S Q) := by
  intro mc ms
  refine hM_of2 rfl (nL := 1) (Nat.le_of_ble_eq_true rfl) ?_
  intro X hX hC hr ho; subst hX
  show yG X d b (yQi X d b Y c F S mc ms Q) (F, k, n) 0 [some (.int (zI a0))] []
  unfold wc_Scanner_mayEnd at hw
  refine h_iload_n hC dX8_mayEnd_0 rfl ?_
  by_cases g1 : a0 = 2 ∨ a0 = 3 ∨ a0 = 4 ∨ a0 = 6 ∨ a0 = 8 ∨ a0 = 32 ∨ a0 = 33 ∨ a0 = 45 ∨ a0 = 46 ∨ a0 = 47 ∨ a0 = 48 ∨ a0 = 50
  · have h3 := (hw.1) g1
    have T2 : yG X d b (yQi X d b Y c F S mc ms Q) (F, k, n) 212 [some (.int (zI a0))] [] := by
      refine h_iconst (v := zI 1) hC dX8_mayEnd_212 rfl ?_
      exact yr_zret hC hr ho hZ (Or.inr rfl) h3 dX8_mayEnd_213
    clear h3
    rcases g1 with e1 | e1 | e1 | e1 | e1 | e1 | e1 | e1 | e1 | e1 | e1 | e1
    · exact zr_tabAt (v := 2) hC dX8_mayEnd_1 Ra0 e1 (by decide) (by decide) rfl (by decide) T2
    · exact zr_tabAt (v := 3) hC dX8_mayEnd_1 Ra0 e1 (by decide) (by decide) rfl (by decide) T2
    · exact zr_tabAt (v := 4) hC dX8_mayEnd_1 Ra0 e1 (by decide) (by decide) rfl (by decide) T2
    · exact zr_tabAt (v := 6) hC dX8_mayEnd_1 Ra0 e1 (by decide) (by decide) rfl (by decide) T2
    · exact zr_tabAt (v := 8) hC dX8_mayEnd_1 Ra0 e1 (by decide) (by decide) rfl (by decide) T2
    · exact zr_tabAt (v := 32) hC dX8_mayEnd_1 Ra0 e1 (by decide) (by decide) rfl (by decide) T2
    · exact zr_tabAt (v := 33) hC dX8_mayEnd_1 Ra0 e1 (by decide) (by decide) rfl (by decide) T2
    · exact zr_tabAt (v := 45) hC dX8_mayEnd_1 Ra0 e1 (by decide) (by decide) rfl (by decide) T2
    · exact zr_tabAt (v := 46) hC dX8_mayEnd_1 Ra0 e1 (by decide) (by decide) rfl (by decide) T2
    · exact zr_tabAt (v := 47) hC dX8_mayEnd_1 Ra0 e1 (by decide) (by decide) rfl (by decide) T2
    · exact zr_tabAt (v := 48) hC dX8_mayEnd_1 Ra0 e1 (by decide) (by decide) rfl (by decide) T2
    · exact zr_tabAt (v := 50) hC dX8_mayEnd_1 Ra0 e1 (by decide) (by decide) rfl (by decide) T2
  · skip
    have h4 := hw.2 g1
    refine yr_tabD (tgt := 214) [2, 3, 4, 6, 8, 32, 33, 45, 46, 47, 48, 50] hC dX8_mayEnd_1 Ra0 (by decide) (by decide) (List.forall_mem_cons.mpr ⟨(fun q => g1 (Or.inl q)), List.forall_mem_cons.mpr ⟨(fun q => g1 (Or.inr (Or.inl q))), List.forall_mem_cons.mpr ⟨(fun q => g1 (Or.inr (Or.inr (Or.inl q)))), List.forall_mem_cons.mpr ⟨(fun q => g1 (Or.inr (Or.inr (Or.inr (Or.inl q))))), List.forall_mem_cons.mpr ⟨(fun q => g1 (Or.inr (Or.inr (Or.inr (Or.inr (Or.inl q)))))), List.forall_mem_cons.mpr ⟨(fun q => g1 (Or.inr (Or.inr (Or.inr (Or.inr (Or.inr (Or.inl q))))))), List.forall_mem_cons.mpr ⟨(fun q => g1 (Or.inr (Or.inr (Or.inr (Or.inr (Or.inr (Or.inr (Or.inl q)))))))), List.forall_mem_cons.mpr ⟨(fun q => g1 (Or.inr (Or.inr (Or.inr (Or.inr (Or.inr (Or.inr (Or.inr (Or.inl q))))))))), List.forall_mem_cons.mpr ⟨(fun q => g1 (Or.inr (Or.inr (Or.inr (Or.inr (Or.inr (Or.inr (Or.inr (Or.inr (Or.inl q)))))))))), List.forall_mem_cons.mpr ⟨(fun q => g1 (Or.inr (Or.inr (Or.inr (Or.inr (Or.inr (Or.inr (Or.inr (Or.inr (Or.inr (Or.inl q))))))))))), List.forall_mem_cons.mpr ⟨(fun q => g1 (Or.inr (Or.inr (Or.inr (Or.inr (Or.inr (Or.inr (Or.inr (Or.inr (Or.inr (Or.inr (Or.inl q)))))))))))), List.forall_mem_cons.mpr ⟨(fun q => g1 (Or.inr (Or.inr (Or.inr (Or.inr (Or.inr (Or.inr (Or.inr (Or.inr (Or.inr (Or.inr (Or.inr (q))))))))))))), fun q hq => absurd hq List.not_mem_nil⟩⟩⟩⟩⟩⟩⟩⟩⟩⟩⟩⟩) (by decide) ?_
    refine h_iconst (v := zI 0) hC dX8_mayEnd_214 rfl ?_
    exact yr_zret hC hr ho hZ (Or.inl rfl) h4 dX8_mayEnd_215
def wc_Scanner_mayBegin_74 (Q : Int → cS → Prop)  (A0 : cS) (x0 : Int) : Prop :=
  ((x0 < 32 → Q 0 A0) ∧ (¬ x0 < 32 → ((55 < x0 → Q 0 A0) ∧ (¬ 55 < x0 → Q 1 A0))))
def wc_Scanner_mayBegin (A0 : cS) (a0 : Int) (Q : Int → cS → Prop) : Prop :=
  (((a0 = 2 ∨ a0 = 3 ∨ a0 = 4 ∨ a0 = 5 ∨ a0 = 7 ∨ a0 = 13 ∨ a0 = 15) → Q 1 A0) ∧ (¬ (a0 = 2 ∨ a0 = 3 ∨ a0 = 4 ∨ a0 = 5 ∨ a0 = 7 ∨ a0 = 13 ∨ a0 = 15) → wc_Scanner_mayBegin_74 Q  A0 a0))
set_option maxHeartbeats 4000000 in
set_option maxRecDepth 100000 in
theorem cj_Scanner_mayBegin_74 {X : gX} {d : gD} {b : Nat} {Y : gYt} {c : Nat × Nat} {F0 : gM} {S0 : gSt} {mc ms : Nat} (hC : gC RX8 cX8_mayBegin 1 (some .boolean) "mayBegin" (gR 0 mc ms) d b X) (hr : hRm X b) {Q : Int → cS → Prop}   {u : hU} {S : gSt} {A0 : cS} {x0 : Int} (Rx0 : zR x0) (ho : yOk X b u) (hZ : yZ d b Y c F0 S0 u S A0) (hw : wc_Scanner_mayBegin_74 Q  A0 x0) : yG X d b (yQi X d b Y c F0 S0 mc ms Q) u 74 [some (.int (zI x0))] [] := by
  unfold wc_Scanner_mayBegin_74 at hw
  refine h_iload_n hC dX8_mayBegin_74 rfl ?_
  refine h_bipush (v := zI 32) hC dX8_mayBegin_75 rfl ?_
  refine yr_icmp_lt (tgt := 90) hC Rx0 (by decide) dX8_mayBegin_77 (by decide) (fun c1 => ?_) (fun c1 => ?_)
  · have h2 := hw.1 c1
    refine h_iconst (v := zI 0) hC dX8_mayBegin_90 rfl ?_
    exact yr_zret hC hr ho hZ (Or.inl rfl) h2 dX8_mayBegin_91
  · have h3 := hw.2 c1
    refine h_iload_n hC dX8_mayBegin_80 rfl ?_
    refine h_bipush (v := zI 55) hC dX8_mayBegin_81 rfl ?_
    refine yr_icmp_gt (tgt := 90) hC Rx0 (by decide) dX8_mayBegin_83 (by decide) (fun c4 => ?_) (fun c4 => ?_)
    · have h5 := h3.1 c4
      refine h_iconst (v := zI 0) hC dX8_mayBegin_90 rfl ?_
      exact yr_zret hC hr ho hZ (Or.inl rfl) h5 dX8_mayBegin_91
    · have h6 := h3.2 c4
      refine h_iconst (v := zI 1) hC dX8_mayBegin_86 rfl ?_
      refine h_goto (tgt := 91) hC dX8_mayBegin_87 (by decide) ?_
      exact yr_zret hC hr ho hZ (Or.inr rfl) h6 dX8_mayBegin_91
set_option maxHeartbeats 4000000 in
set_option maxRecDepth 100000 in
theorem cm_Scanner_mayBegin (l : Launch) (d : gD) (b : Nat) {Y : gYt} {c : Nat × Nat} {F : gM} {k n : Nat} {S : gSt} {A0 : cS} {a0 : Int} (Ra0 : zR a0) {Q : Int → cS → Prop} (hZ : yZ d b Y c F S (F, k, n) S A0) (hw : wc_Scanner_mayBegin A0 a0 Q) : hMi l d b yX8_mayBegin cX8_mayBegin 1 .boolean 0 k n F [.int (zI a0)] (yPi d b Y c F S Q) := by
  intro mc ms
  refine hM_of2 rfl (nL := 1) (Nat.le_of_ble_eq_true rfl) ?_
  intro X hX hC hr ho; subst hX
  show yG X d b (yQi X d b Y c F S mc ms Q) (F, k, n) 0 [some (.int (zI a0))] []
  unfold wc_Scanner_mayBegin at hw
  refine h_iload_n hC dX8_mayBegin_0 rfl ?_
  by_cases g1 : a0 = 2 ∨ a0 = 3 ∨ a0 = 4 ∨ a0 = 5 ∨ a0 = 7 ∨ a0 = 13 ∨ a0 = 15
  · have h3 := (hw.1) g1
    have T2 : yG X d b (yQi X d b Y c F S mc ms Q) (F, k, n) 72 [some (.int (zI a0))] [] := by
      refine h_iconst (v := zI 1) hC dX8_mayBegin_72 rfl ?_
      exact yr_zret hC hr ho hZ (Or.inr rfl) h3 dX8_mayBegin_73
    clear h3
    rcases g1 with e1 | e1 | e1 | e1 | e1 | e1 | e1
    · exact zr_tabAt (v := 2) hC dX8_mayBegin_1 Ra0 e1 (by decide) (by decide) rfl (by decide) T2
    · exact zr_tabAt (v := 3) hC dX8_mayBegin_1 Ra0 e1 (by decide) (by decide) rfl (by decide) T2
    · exact zr_tabAt (v := 4) hC dX8_mayBegin_1 Ra0 e1 (by decide) (by decide) rfl (by decide) T2
    · exact zr_tabAt (v := 5) hC dX8_mayBegin_1 Ra0 e1 (by decide) (by decide) rfl (by decide) T2
    · exact zr_tabAt (v := 7) hC dX8_mayBegin_1 Ra0 e1 (by decide) (by decide) rfl (by decide) T2
    · exact zr_tabAt (v := 13) hC dX8_mayBegin_1 Ra0 e1 (by decide) (by decide) rfl (by decide) T2
    · exact zr_tabAt (v := 15) hC dX8_mayBegin_1 Ra0 e1 (by decide) (by decide) rfl (by decide) T2
  · skip
    have h4 := hw.2 g1
    refine yr_tabD (tgt := 74) [2, 3, 4, 5, 7, 13, 15] hC dX8_mayBegin_1 Ra0 (by decide) (by decide) (List.forall_mem_cons.mpr ⟨(fun q => g1 (Or.inl q)), List.forall_mem_cons.mpr ⟨(fun q => g1 (Or.inr (Or.inl q))), List.forall_mem_cons.mpr ⟨(fun q => g1 (Or.inr (Or.inr (Or.inl q)))), List.forall_mem_cons.mpr ⟨(fun q => g1 (Or.inr (Or.inr (Or.inr (Or.inl q))))), List.forall_mem_cons.mpr ⟨(fun q => g1 (Or.inr (Or.inr (Or.inr (Or.inr (Or.inl q)))))), List.forall_mem_cons.mpr ⟨(fun q => g1 (Or.inr (Or.inr (Or.inr (Or.inr (Or.inr (Or.inl q))))))), List.forall_mem_cons.mpr ⟨(fun q => g1 (Or.inr (Or.inr (Or.inr (Or.inr (Or.inr (Or.inr (q)))))))), fun q hq => absurd hq List.not_mem_nil⟩⟩⟩⟩⟩⟩⟩) (by decide) ?_
    exact cj_Scanner_mayBegin_74 hC hr  Ra0 ho hZ h4
theorem dX8_put_0 : decode cX8_put 0 = .ok (.aload_n 0, 1) := by decide +kernel
theorem dX8_put_1 : decode cX8_put 1 = .ok (.getfield 43, 3) := by decide +kernel
theorem dX8_put_4 : decode cX8_put 4 = .ok (.ifCond .eq 48, 3) := by decide +kernel
theorem dX8_put_7 : decode cX8_put 7 = .ok (.aload_n 0, 1) := by decide +kernel
theorem dX8_put_8 : decode cX8_put 8 = .ok (.getfield 15, 3) := by decide +kernel
theorem dX8_put_11 : decode cX8_put 11 = .ok (.invokevirtual 106, 3) := by decide +kernel
theorem dX8_put_14 : decode cX8_put 14 = .ok (.invokestatic 112, 3) := by decide +kernel
theorem dX8_put_17 : decode cX8_put 17 = .ok (.ifCond .eq 35, 3) := by decide +kernel
theorem dX8_put_20 : decode cX8_put 20 = .ok (.iload_n 1, 1) := by decide +kernel
theorem dX8_put_21 : decode cX8_put 21 = .ok (.invokestatic 116, 3) := by decide +kernel
theorem dX8_put_24 : decode cX8_put 24 = .ok (.ifCond .eq 28, 3) := by decide +kernel
theorem dX8_put_27 : decode cX8_put 27 = .ok (.aload_n 0, 1) := by decide +kernel
theorem dX8_put_28 : decode cX8_put 28 = .ok (.getfield 15, 3) := by decide +kernel
theorem dX8_put_31 : decode cX8_put 31 = .ok (.bipush 10, 2) := by decide +kernel
theorem dX8_put_33 : decode cX8_put 33 = .ok (.invokevirtual 85, 3) := by decide +kernel
theorem dX8_put_36 : decode cX8_put 36 = .ok (.aload_n 0, 1) := by decide +kernel
theorem dX8_put_37 : decode cX8_put 37 = .ok (.getfield 21, 3) := by decide +kernel
theorem dX8_put_40 : decode cX8_put 40 = .ok (.iconst 0, 1) := by decide +kernel
theorem dX8_put_41 : decode cX8_put 41 = .ok (.invokevirtual 85, 3) := by decide +kernel
theorem dX8_put_44 : decode cX8_put 44 = .ok (.aload_n 0, 1) := by decide +kernel
theorem dX8_put_45 : decode cX8_put 45 = .ok (.getfield 24, 3) := by decide +kernel
theorem dX8_put_48 : decode cX8_put 48 = .ok (.iload_n 3, 1) := by decide +kernel
theorem dX8_put_49 : decode cX8_put 49 = .ok (.invokevirtual 85, 3) := by decide +kernel
theorem dX8_put_52 : decode cX8_put 52 = .ok (.aload_n 0, 1) := by decide +kernel
theorem dX8_put_53 : decode cX8_put 53 = .ok (.iconst 0, 1) := by decide +kernel
theorem dX8_put_54 : decode cX8_put 54 = .ok (.putfield 43, 3) := by decide +kernel
theorem dX8_put_57 : decode cX8_put 57 = .ok (.aload_n 0, 1) := by decide +kernel
theorem dX8_put_58 : decode cX8_put 58 = .ok (.getfield 15, 3) := by decide +kernel
theorem dX8_put_61 : decode cX8_put 61 = .ok (.iload_n 1, 1) := by decide +kernel
theorem dX8_put_62 : decode cX8_put 62 = .ok (.invokevirtual 85, 3) := by decide +kernel
theorem dX8_put_65 : decode cX8_put 65 = .ok (.aload_n 0, 1) := by decide +kernel
theorem dX8_put_66 : decode cX8_put 66 = .ok (.getfield 21, 3) := by decide +kernel
theorem dX8_put_69 : decode cX8_put 69 = .ok (.iload_n 2, 1) := by decide +kernel
theorem dX8_put_70 : decode cX8_put 70 = .ok (.invokevirtual 85, 3) := by decide +kernel
theorem dX8_put_73 : decode cX8_put 73 = .ok (.aload_n 0, 1) := by decide +kernel
theorem dX8_put_74 : decode cX8_put 74 = .ok (.getfield 24, 3) := by decide +kernel
theorem dX8_put_77 : decode cX8_put 77 = .ok (.iload_n 3, 1) := by decide +kernel
theorem dX8_put_78 : decode cX8_put 78 = .ok (.invokevirtual 85, 3) := by decide +kernel
theorem dX8_put_81 : decode cX8_put 81 = .ok (.return_, 1) := by decide +kernel
def wc_Scanner_put_52 (Q : cS → Prop)  (A0 : cS) (x1 : Int) (x2 : Int) (x3 : Int) : Prop :=
  ((yz A0 14) < 1400) ∧ ((yz A0 15) < 1400) ∧ ((yz A0 16) < 1400) ∧ Q (yadd (yadd (yadd (ypv A0 9 0) 14 x1) 15 x2) 16 x3)
def wc_Scanner_put (A0 : cS) (a0 : Int) (a1 : Int) (a2 : Int) (Q : cS → Prop) : Prop :=
  (((yv A0 9) = 0 → wc_Scanner_put_52 Q  A0 a0 a1 a2) ∧ (¬ (yv A0 9) = 0 → wc_Scanner_mayEnd A0 (yget A0 14 ((yz A0 14 : Nat) - 1 : Int)) (fun r4 A5 => ((r4 = 0 → wc_Scanner_put_52 Q  A5 a0 a1 a2) ∧ (¬ r4 = 0 → wc_Scanner_mayBegin A5 a0 (fun r15 A16 => ((r15 = 0 → wc_Scanner_put_52 Q  A16 a0 a1 a2) ∧ (¬ r15 = 0 → ((yz A16 14) < 1400) ∧ ((yz A16 15) < 1400) ∧ ((yz A16 16) < 1400) ∧ wc_Scanner_put_52 Q  (yadd (yadd (yadd A16 14 10) 15 0) 16 a2) a0 a1 a2))))))))
set_option maxHeartbeats 4000000 in
set_option maxRecDepth 100000 in
theorem cj_Scanner_put_52 {X : gX} {d : gD} {b : Nat} {Y : gYt} {c : Nat × Nat} {F0 : gM} {S0 : gSt} {mc ms : Nat} (hC : gC RX8 cX8_put 4 none "put" (gR 3 mc ms) d b X) (hr : hRm X b) {Q : cS → Prop}   {u : hU} {S : gSt} {A0 : cS} {x1 : Int} {x2 : Int} {x3 : Int} (Rx1 : zR x1) (Rx2 : zR x2) (Rx3 : zR x3) (ho : yOk X b u) (hZ : yZ d b Y c F0 S0 u S A0) (hw : wc_Scanner_put_52 Q  A0 x1 x2 x3) : yG X d b (yQv X d b Y c F0 S0 mc ms Q) u 52 [some (.ref (gO' Y 3)), some (.int (zI x1)), some (.int (zI x2)), some (.int (zI x3))] [] := by
  unfold wc_Scanner_put_52 at hw
  refine h_aload_n hC dX8_put_52 rfl ?_
  refine h_iconst (v := zI 0) hC dX8_put_53 rfl ?_
  refine hi_putx (i := 3) (kx := 9) hC hZ.hi (by decide) fl_X8_43 rfl (ynb (Or.inl rfl)) (yfb (Or.inl rfl)) (Nat.le_of_ble_eq_true rfl) rfl gsame_9 (fun _ => y01 (Or.inl rfl)) dX8_put_54 (fun F1 S2 I3 K4 s5 v6 p7 => ?_)
  have hZ8 := hZ.put I3 K4 s5 v6 (y01R (Or.inl rfl)) rfl
  clear I3 K4 s5 v6 p7
  refine yr_nu ho hZ8 (fun u9 o10 hZ11 => ?_)
  refine h_aload_n hC dX8_put_57 rfl ?_
  refine h_get hC fl_X8_15 (hZ11.w.o 3 (by decide)) rfl dX8_put_58 ?_
  refine h_iload_n hC dX8_put_61 rfl ?_
  obtain ⟨o16, h17⟩ := hw
  refine yr_add (j := 14) hC hr o10 hZ11 (by decide) (by decide) Rx1 o16 cl_X8_85 rfl (Nat.le_of_ble_eq_true rfl) (hFr_of (Nat.le_of_ble_eq_true rfl) (Nat.le_of_ble_eq_true rfl)) dX8_put_62 (fun u12 S13 o14 hZ15 => ?_)
  refine h_aload_n hC dX8_put_65 rfl ?_
  refine h_get hC fl_X8_21 (hZ15.w.o 3 (by decide)) rfl dX8_put_66 ?_
  refine h_iload_n hC dX8_put_69 rfl ?_
  obtain ⟨o22, h23⟩ := h17
  refine yr_add (j := 15) hC hr o14 hZ15 (by decide) (by decide) Rx2 o22 cl_X8_85 rfl (Nat.le_of_ble_eq_true rfl) (hFr_of (Nat.le_of_ble_eq_true rfl) (Nat.le_of_ble_eq_true rfl)) dX8_put_70 (fun u18 S19 o20 hZ21 => ?_)
  refine h_aload_n hC dX8_put_73 rfl ?_
  refine h_get hC fl_X8_24 (hZ21.w.o 3 (by decide)) rfl dX8_put_74 ?_
  refine h_iload_n hC dX8_put_77 rfl ?_
  obtain ⟨o28, h29⟩ := h23
  refine yr_add (j := 16) hC hr o20 hZ21 (by decide) (by decide) Rx3 o28 cl_X8_85 rfl (Nat.le_of_ble_eq_true rfl) (hFr_of (Nat.le_of_ble_eq_true rfl) (Nat.le_of_ble_eq_true rfl)) dX8_put_78 (fun u24 S25 o26 hZ27 => ?_)
  exact yr_vret hC hr o26 hZ27 h29 dX8_put_81
set_option maxHeartbeats 4000000 in
set_option maxRecDepth 100000 in
theorem cm_Scanner_put (l : Launch) (d : gD) (b : Nat) {Y : gYt} {c : Nat × Nat} {F : gM} {k n : Nat} {S : gSt} {A0 : cS} {a0 : Int} {a1 : Int} {a2 : Int} (Ra0 : zR a0) (Ra1 : zR a1) (Ra2 : zR a2) {Q : cS → Prop} (hZ : yZ d b Y c F S (F, k, n) S A0) (hw : wc_Scanner_put A0 a0 a1 a2 Q) : hMv l d b yX8_put cX8_put 4 3 k n F [.ref (gO' Y 3), .int (zI a0), .int (zI a1), .int (zI a2)] (yPv d b Y c F S Q) := by
  intro mc ms
  refine hM_of2 rfl (nL := 4) (Nat.le_of_ble_eq_true rfl) ?_
  intro X hX hC hr ho; subst hX
  show yG X d b (yQv X d b Y c F S mc ms Q) (F, k, n) 0 [some (.ref (gO' Y 3)), some (.int (zI a0)), some (.int (zI a1)), some (.int (zI a2))] []
  unfold wc_Scanner_put at hw
  refine h_aload_n hC dX8_put_0 rfl ?_
  refine h_get hC fl_X8_43 (hZ.w.o 3 (by decide)) rfl dX8_put_1 ?_
  refine yr_sv (e := (yv A0 9)) hZ 9 rfl ?_
  refine yr_if_eq (tgt := 52) hC (hZ.rv 9) dX8_put_4 (by decide) (fun c1 => ?_) (fun c1 => ?_)
  · have h2 := hw.1 c1
    exact cj_Scanner_put_52 hC hr  Ra0 Ra1 Ra2 ho hZ h2
  · have h3 := hw.2 c1
    refine h_aload_n hC dX8_put_7 rfl ?_
    refine h_get hC fl_X8_15 (hZ.w.o 3 (by decide)) rfl dX8_put_8 ?_
    refine yr_top (j := 14) (e := (yget A0 14 ((yz A0 14 : Nat) - 1 : Int))) hC hr ho hZ (by decide) rfl cl_X8_106 rfl (Nat.le_of_ble_eq_true rfl) (hFr_of (Nat.le_of_ble_eq_true rfl) (Nat.le_of_ble_eq_true rfl)) dX8_put_11 ?_
    refine yr_callSi (As := [.int (zI (yget A0 14 ((yz A0 14 : Nat) - 1 : Int)))]) hC hr ho hZ (cm_Scanner_mayEnd X.la d b (hZ.rg 14 _) hZ.rs h3) cl_X8_112 rfl rfl (Nat.le_of_ble_eq_true rfl) (hFr_of (Nat.le_of_ble_eq_true rfl) (Nat.le_of_ble_eq_true rfl)) dX8_put_14 (fun r4 A5 u6 S7 R8 o9 hZ10 h11 => ?_)
    refine yr_if_eq (tgt := 52) hC R8 dX8_put_17 (by decide) (fun c12 => ?_) (fun c12 => ?_)
    · have h13 := h11.1 c12
      exact cj_Scanner_put_52 hC hr  Ra0 Ra1 Ra2 o9 hZ10 h13
    · have h14 := h11.2 c12
      refine h_iload_n hC dX8_put_20 rfl ?_
      refine yr_callSi (As := [.int (zI a0)]) hC hr o9 hZ10 (cm_Scanner_mayBegin X.la d b Ra0 hZ10.rs h14) cl_X8_116 rfl rfl (Nat.le_of_ble_eq_true rfl) (hFr_of (Nat.le_of_ble_eq_true rfl) (Nat.le_of_ble_eq_true rfl)) dX8_put_21 (fun r15 A16 u17 S18 R19 o20 hZ21 h22 => ?_)
      refine yr_if_eq (tgt := 52) hC R19 dX8_put_24 (by decide) (fun c23 => ?_) (fun c23 => ?_)
      · have h24 := h22.1 c23
        exact cj_Scanner_put_52 hC hr  Ra0 Ra1 Ra2 o20 hZ21 h24
      · have h25 := h22.2 c23
        refine h_aload_n hC dX8_put_27 rfl ?_
        refine h_get hC fl_X8_15 (hZ21.w.o 3 (by decide)) rfl dX8_put_28 ?_
        refine h_bipush (v := zI 10) hC dX8_put_31 rfl ?_
        obtain ⟨o30, h31⟩ := h25
        refine yr_add (j := 14) hC hr o20 hZ21 (by decide) (by decide) (by decide) o30 cl_X8_85 rfl (Nat.le_of_ble_eq_true rfl) (hFr_of (Nat.le_of_ble_eq_true rfl) (Nat.le_of_ble_eq_true rfl)) dX8_put_33 (fun u26 S27 o28 hZ29 => ?_)
        refine h_aload_n hC dX8_put_36 rfl ?_
        refine h_get hC fl_X8_21 (hZ29.w.o 3 (by decide)) rfl dX8_put_37 ?_
        refine h_iconst (v := zI 0) hC dX8_put_40 rfl ?_
        obtain ⟨o36, h37⟩ := h31
        refine yr_add (j := 15) hC hr o28 hZ29 (by decide) (by decide) (by decide) o36 cl_X8_85 rfl (Nat.le_of_ble_eq_true rfl) (hFr_of (Nat.le_of_ble_eq_true rfl) (Nat.le_of_ble_eq_true rfl)) dX8_put_41 (fun u32 S33 o34 hZ35 => ?_)
        refine h_aload_n hC dX8_put_44 rfl ?_
        refine h_get hC fl_X8_24 (hZ35.w.o 3 (by decide)) rfl dX8_put_45 ?_
        refine h_iload_n hC dX8_put_48 rfl ?_
        obtain ⟨o42, h43⟩ := h37
        refine yr_add (j := 16) hC hr o34 hZ35 (by decide) (by decide) Ra2 o42 cl_X8_85 rfl (Nat.le_of_ble_eq_true rfl) (hFr_of (Nat.le_of_ble_eq_true rfl) (Nat.le_of_ble_eq_true rfl)) dX8_put_49 (fun u38 S39 o40 hZ41 => ?_)
        exact cj_Scanner_put_52 hC hr  Ra0 Ra1 Ra2 o40 hZ41 h43
def wc_Scanner_isLetter (A0 : cS) (a0 : Int) (Q : Int → cS → Prop) : Prop :=
  ((a0 < 65 → ((a0 < 97 → Q 0 A0) ∧ (¬ a0 < 97 → ((122 < a0 → Q 0 A0) ∧ (¬ 122 < a0 → Q 1 A0))))) ∧ (¬ a0 < 65 → ((a0 ≤ 90 → Q 1 A0) ∧ (¬ a0 ≤ 90 → ((a0 < 97 → Q 0 A0) ∧ (¬ a0 < 97 → ((122 < a0 → Q 0 A0) ∧ (¬ 122 < a0 → Q 1 A0))))))))
set_option maxHeartbeats 4000000 in
set_option maxRecDepth 100000 in
theorem cm_Scanner_isLetter (l : Launch) (d : gD) (b : Nat) {Y : gYt} {c : Nat × Nat} {F : gM} {k n : Nat} {S : gSt} {A0 : cS} {a0 : Int} (Ra0 : zR a0) {Q : Int → cS → Prop} (hZ : yZ d b Y c F S (F, k, n) S A0) (hw : wc_Scanner_isLetter A0 a0 Q) : hMi l d b yX8_isLetter cX8_isLetter 1 .boolean 0 k n F [.int (zI a0)] (yPi d b Y c F S Q) := by
  intro mc ms
  refine hM_of2 rfl (nL := 1) (Nat.le_of_ble_eq_true rfl) ?_
  intro X hX hC hr ho; subst hX
  show yG X d b (yQi X d b Y c F S mc ms Q) (F, k, n) 0 [some (.int (zI a0))] []
  unfold wc_Scanner_isLetter at hw
  refine h_iload_n hC dX8_isLetter_0 rfl ?_
  refine h_bipush (v := zI 65) hC dX8_isLetter_1 rfl ?_
  refine yr_icmp_lt (tgt := 12) hC Ra0 (by decide) dX8_isLetter_3 (by decide) (fun c1 => ?_) (fun c1 => ?_)
  · have h2 := hw.1 c1
    refine h_iload_n hC dX8_isLetter_12 rfl ?_
    refine h_bipush (v := zI 97) hC dX8_isLetter_13 rfl ?_
    refine yr_icmp_lt (tgt := 28) hC Ra0 (by decide) dX8_isLetter_15 (by decide) (fun c3 => ?_) (fun c3 => ?_)
    · have h4 := h2.1 c3
      refine h_iconst (v := zI 0) hC dX8_isLetter_28 rfl ?_
      exact yr_zret hC hr ho hZ (Or.inl rfl) h4 dX8_isLetter_29
    · have h5 := h2.2 c3
      refine h_iload_n hC dX8_isLetter_18 rfl ?_
      refine h_bipush (v := zI 122) hC dX8_isLetter_19 rfl ?_
      refine yr_icmp_gt (tgt := 28) hC Ra0 (by decide) dX8_isLetter_21 (by decide) (fun c6 => ?_) (fun c6 => ?_)
      · have h7 := h5.1 c6
        refine h_iconst (v := zI 0) hC dX8_isLetter_28 rfl ?_
        exact yr_zret hC hr ho hZ (Or.inl rfl) h7 dX8_isLetter_29
      · have h8 := h5.2 c6
        refine h_iconst (v := zI 1) hC dX8_isLetter_24 rfl ?_
        refine h_goto (tgt := 29) hC dX8_isLetter_25 (by decide) ?_
        exact yr_zret hC hr ho hZ (Or.inr rfl) h8 dX8_isLetter_29
  · have h9 := hw.2 c1
    refine h_iload_n hC dX8_isLetter_6 rfl ?_
    refine h_bipush (v := zI 90) hC dX8_isLetter_7 rfl ?_
    refine yr_icmp_le (tgt := 24) hC Ra0 (by decide) dX8_isLetter_9 (by decide) (fun c10 => ?_) (fun c10 => ?_)
    · have h11 := h9.1 c10
      refine h_iconst (v := zI 1) hC dX8_isLetter_24 rfl ?_
      refine h_goto (tgt := 29) hC dX8_isLetter_25 (by decide) ?_
      exact yr_zret hC hr ho hZ (Or.inr rfl) h11 dX8_isLetter_29
    · have h12 := h9.2 c10
      refine h_iload_n hC dX8_isLetter_12 rfl ?_
      refine h_bipush (v := zI 97) hC dX8_isLetter_13 rfl ?_
      refine yr_icmp_lt (tgt := 28) hC Ra0 (by decide) dX8_isLetter_15 (by decide) (fun c13 => ?_) (fun c13 => ?_)
      · have h14 := h12.1 c13
        refine h_iconst (v := zI 0) hC dX8_isLetter_28 rfl ?_
        exact yr_zret hC hr ho hZ (Or.inl rfl) h14 dX8_isLetter_29
      · have h15 := h12.2 c13
        refine h_iload_n hC dX8_isLetter_18 rfl ?_
        refine h_bipush (v := zI 122) hC dX8_isLetter_19 rfl ?_
        refine yr_icmp_gt (tgt := 28) hC Ra0 (by decide) dX8_isLetter_21 (by decide) (fun c16 => ?_) (fun c16 => ?_)
        · have h17 := h15.1 c16
          refine h_iconst (v := zI 0) hC dX8_isLetter_28 rfl ?_
          exact yr_zret hC hr ho hZ (Or.inl rfl) h17 dX8_isLetter_29
        · have h18 := h15.2 c16
          refine h_iconst (v := zI 1) hC dX8_isLetter_24 rfl ?_
          refine h_goto (tgt := 29) hC dX8_isLetter_25 (by decide) ?_
          exact yr_zret hC hr ho hZ (Or.inr rfl) h18 dX8_isLetter_29
def wc_Scanner_isDigit (A0 : cS) (a0 : Int) (Q : Int → cS → Prop) : Prop :=
  ((a0 < 48 → Q 0 A0) ∧ (¬ a0 < 48 → ((57 < a0 → Q 0 A0) ∧ (¬ 57 < a0 → Q 1 A0))))
set_option maxHeartbeats 4000000 in
set_option maxRecDepth 100000 in
theorem cm_Scanner_isDigit (l : Launch) (d : gD) (b : Nat) {Y : gYt} {c : Nat × Nat} {F : gM} {k n : Nat} {S : gSt} {A0 : cS} {a0 : Int} (Ra0 : zR a0) {Q : Int → cS → Prop} (hZ : yZ d b Y c F S (F, k, n) S A0) (hw : wc_Scanner_isDigit A0 a0 Q) : hMi l d b yX8_isDigit cX8_isDigit 1 .boolean 0 k n F [.int (zI a0)] (yPi d b Y c F S Q) := by
  intro mc ms
  refine hM_of2 rfl (nL := 1) (Nat.le_of_ble_eq_true rfl) ?_
  intro X hX hC hr ho; subst hX
  show yG X d b (yQi X d b Y c F S mc ms Q) (F, k, n) 0 [some (.int (zI a0))] []
  unfold wc_Scanner_isDigit at hw
  refine h_iload_n hC dX8_isDigit_0 rfl ?_
  refine h_bipush (v := zI 48) hC dX8_isDigit_1 rfl ?_
  refine yr_icmp_lt (tgt := 16) hC Ra0 (by decide) dX8_isDigit_3 (by decide) (fun c1 => ?_) (fun c1 => ?_)
  · have h2 := hw.1 c1
    refine h_iconst (v := zI 0) hC dX8_isDigit_16 rfl ?_
    exact yr_zret hC hr ho hZ (Or.inl rfl) h2 dX8_isDigit_17
  · have h3 := hw.2 c1
    refine h_iload_n hC dX8_isDigit_6 rfl ?_
    refine h_bipush (v := zI 57) hC dX8_isDigit_7 rfl ?_
    refine yr_icmp_gt (tgt := 16) hC Ra0 (by decide) dX8_isDigit_9 (by decide) (fun c4 => ?_) (fun c4 => ?_)
    · have h5 := h3.1 c4
      refine h_iconst (v := zI 0) hC dX8_isDigit_16 rfl ?_
      exact yr_zret hC hr ho hZ (Or.inl rfl) h5 dX8_isDigit_17
    · have h6 := h3.2 c4
      refine h_iconst (v := zI 1) hC dX8_isDigit_12 rfl ?_
      refine h_goto (tgt := 17) hC dX8_isDigit_13 (by decide) ?_
      exact yr_zret hC hr ho hZ (Or.inr rfl) h6 dX8_isDigit_17
def wc_Scanner_isRest (A0 : cS) (a0 : Int) (Q : Int → cS → Prop) : Prop :=
  wc_Scanner_isLetter A0 a0 (fun r1 A2 => ((¬ r1 = 0 → Q 1 A2) ∧ (r1 = 0 → wc_Scanner_isDigit A2 a0 (fun r12 A13 => ((¬ r12 = 0 → Q 1 A13) ∧ (r12 = 0 → ((a0 = 46 → Q 1 A13) ∧ (¬ a0 = 46 → ((¬ a0 = 95 → Q 0 A13) ∧ (a0 = 95 → Q 1 A13))))))))))
set_option maxHeartbeats 4000000 in
set_option maxRecDepth 100000 in
theorem cm_Scanner_isRest (l : Launch) (d : gD) (b : Nat) {Y : gYt} {c : Nat × Nat} {F : gM} {k n : Nat} {S : gSt} {A0 : cS} {a0 : Int} (Ra0 : zR a0) {Q : Int → cS → Prop} (hZ : yZ d b Y c F S (F, k, n) S A0) (hw : wc_Scanner_isRest A0 a0 Q) : hMi l d b yX8_isRest cX8_isRest 1 .boolean 1 k n F [.int (zI a0)] (yPi d b Y c F S Q) := by
  intro mc ms
  refine hM_of2 rfl (nL := 1) (Nat.le_of_ble_eq_true rfl) ?_
  intro X hX hC hr ho; subst hX
  show yG X d b (yQi X d b Y c F S mc ms Q) (F, k, n) 0 [some (.int (zI a0))] []
  unfold wc_Scanner_isRest at hw
  refine h_iload_n hC dX8_isRest_0 rfl ?_
  refine yr_callSi (As := [.int (zI a0)]) hC hr ho hZ (cm_Scanner_isLetter X.la d b Ra0 hZ.rs hw) cl_X8_119 rfl rfl (Nat.le_of_ble_eq_true rfl) (hFr_of (Nat.le_of_ble_eq_true rfl) (Nat.le_of_ble_eq_true rfl)) dX8_isRest_1 (fun r1 A2 u3 S4 R5 o6 hZ7 h8 => ?_)
  refine yr_if_ne (tgt := 26) hC R5 dX8_isRest_4 (by decide) (fun c9 => ?_) (fun c9 => ?_)
  · have h10 := h8.1 c9
    refine h_iconst (v := zI 1) hC dX8_isRest_26 rfl ?_
    refine h_goto (tgt := 31) hC dX8_isRest_27 (by decide) ?_
    exact yr_zret hC hr o6 hZ7 (Or.inr rfl) h10 dX8_isRest_31
  · have h11 := h8.2 c9
    refine h_iload_n hC dX8_isRest_7 rfl ?_
    refine yr_callSi (As := [.int (zI a0)]) hC hr o6 hZ7 (cm_Scanner_isDigit X.la d b Ra0 hZ7.rs h11) cl_X8_125 rfl rfl (Nat.le_of_ble_eq_true rfl) (hFr_of (Nat.le_of_ble_eq_true rfl) (Nat.le_of_ble_eq_true rfl)) dX8_isRest_8 (fun r12 A13 u14 S15 R16 o17 hZ18 h19 => ?_)
    refine yr_if_ne (tgt := 26) hC R16 dX8_isRest_11 (by decide) (fun c20 => ?_) (fun c20 => ?_)
    · have h21 := h19.1 c20
      refine h_iconst (v := zI 1) hC dX8_isRest_26 rfl ?_
      refine h_goto (tgt := 31) hC dX8_isRest_27 (by decide) ?_
      exact yr_zret hC hr o17 hZ18 (Or.inr rfl) h21 dX8_isRest_31
    · have h22 := h19.2 c20
      refine h_iload_n hC dX8_isRest_14 rfl ?_
      refine h_bipush (v := zI 46) hC dX8_isRest_15 rfl ?_
      refine yr_icmp_eq (tgt := 26) hC Ra0 (by decide) dX8_isRest_17 (by decide) (fun c23 => ?_) (fun c23 => ?_)
      · have h24 := h22.1 c23
        refine h_iconst (v := zI 1) hC dX8_isRest_26 rfl ?_
        refine h_goto (tgt := 31) hC dX8_isRest_27 (by decide) ?_
        exact yr_zret hC hr o17 hZ18 (Or.inr rfl) h24 dX8_isRest_31
      · have h25 := h22.2 c23
        refine h_iload_n hC dX8_isRest_20 rfl ?_
        refine h_bipush (v := zI 95) hC dX8_isRest_21 rfl ?_
        refine yr_icmp_ne (tgt := 30) hC Ra0 (by decide) dX8_isRest_23 (by decide) (fun c26 => ?_) (fun c26 => ?_)
        · have h27 := h25.1 c26
          refine h_iconst (v := zI 0) hC dX8_isRest_30 rfl ?_
          exact yr_zret hC hr o17 hZ18 (Or.inl rfl) h27 dX8_isRest_31
        · have h28 := h25.2 c26
          refine h_iconst (v := zI 1) hC dX8_isRest_26 rfl ?_
          refine h_goto (tgt := 31) hC dX8_isRest_27 (by decide) ?_
          exact yr_zret hC hr o17 hZ18 (Or.inr rfl) h28 dX8_isRest_31
theorem dX8_restEnd_0 : decode cX8_restEnd 0 = .ok (.iload_n 1, 1) := by decide +kernel
theorem dX8_restEnd_1 : decode cX8_restEnd 1 = .ok (.istore_n 2, 1) := by decide +kernel
theorem dX8_restEnd_2 : decode cX8_restEnd 2 = .ok (.iload_n 2, 1) := by decide +kernel
theorem dX8_restEnd_3 : decode cX8_restEnd 3 = .ok (.aload_n 0, 1) := by decide +kernel
theorem dX8_restEnd_4 : decode cX8_restEnd 4 = .ok (.getfield 47, 3) := by decide +kernel
theorem dX8_restEnd_7 : decode cX8_restEnd 7 = .ok (.invokevirtual 62, 3) := by decide +kernel
theorem dX8_restEnd_10 : decode cX8_restEnd 10 = .ok (.if_icmp .ge 23, 3) := by decide +kernel
theorem dX8_restEnd_13 : decode cX8_restEnd 13 = .ok (.aload_n 0, 1) := by decide +kernel
theorem dX8_restEnd_14 : decode cX8_restEnd 14 = .ok (.getfield 47, 3) := by decide +kernel
theorem dX8_restEnd_17 : decode cX8_restEnd 17 = .ok (.iload_n 2, 1) := by decide +kernel
theorem dX8_restEnd_18 : decode cX8_restEnd 18 = .ok (.invokevirtual 88, 3) := by decide +kernel
theorem dX8_restEnd_21 : decode cX8_restEnd 21 = .ok (.invokestatic 144, 3) := by decide +kernel
theorem dX8_restEnd_24 : decode cX8_restEnd 24 = .ok (.ifCond .eq 9, 3) := by decide +kernel
theorem dX8_restEnd_27 : decode cX8_restEnd 27 = .ok (.iinc 2 1, 3) := by decide +kernel
theorem dX8_restEnd_30 : decode cX8_restEnd 30 = .ok (.goto (-28), 3) := by decide +kernel
theorem dX8_restEnd_33 : decode cX8_restEnd 33 = .ok (.iload_n 2, 1) := by decide +kernel
theorem dX8_restEnd_34 : decode cX8_restEnd 34 = .ok (.ireturn, 1) := by decide +kernel
def wc_Scanner_restEnd_2B (Q : Int → cS → Prop) (k2 : cS → Int → Prop) (A0 : cS) (x2 : Int) : Prop :=
  ((((yz A0 0 : Nat) : Int) ≤ x2 → Q x2 A0) ∧ (¬ ((yz A0 0 : Nat) : Int) ≤ x2 → wc_Scanner_isRest A0 (yget A0 0 x2) (fun r4 A5 => ((r4 = 0 → Q x2 A5) ∧ (¬ r4 = 0 → (zR (x2 + 1)) ∧ k2 A5 (x2 + 1))))))
def wc_Scanner_restEnd_2 (Q : Int → cS → Prop)  : Nat → cS → Int → Prop
  | 0 => fun _ _ => False
  | m + 1 => fun A0 x2 => wc_Scanner_restEnd_2B Q  (wc_Scanner_restEnd_2 Q  m) A0 x2
def wc_Scanner_restEnd (A0 : cS) (a0 : Int) (Q : Int → cS → Prop) : Prop :=
  ∃ n, wc_Scanner_restEnd_2 Q  n A0 a0
set_option maxHeartbeats 4000000 in
set_option maxRecDepth 100000 in
theorem cb_Scanner_restEnd_2 {X : gX} {d : gD} {b : Nat} {Y : gYt} {c : Nat × Nat} {F0 : gM} {S0 : gSt} {mc ms : Nat} (hC : gC RX8 cX8_restEnd 3 (some .int) "restEnd" (gR 2 mc ms) d b X) (hr : hRm X b) {Q : Int → cS → Prop} {k2 : cS → Int → Prop} (hk2 : ∀ (u : hU) (S : gSt) (A0 : cS) (x2 : Int), zR x2 → yOk X b u → yZ d b Y c F0 S0 u S A0 → k2 A0 x2 → yG X d b (yQi X d b Y c F0 S0 mc ms Q) u 2 [some (.ref (gO' Y 3)), none, some (.int (zI x2))] []) {u : hU} {S : gSt} {A0 : cS} {x2 : Int} (Rx2 : zR x2) (ho : yOk X b u) (hZ : yZ d b Y c F0 S0 u S A0) (hw : wc_Scanner_restEnd_2B Q k2 A0 x2) : yG X d b (yQi X d b Y c F0 S0 mc ms Q) u 2 [some (.ref (gO' Y 3)), none, some (.int (zI x2))] [] := by
  unfold wc_Scanner_restEnd_2B at hw
  refine h_iload_n hC dX8_restEnd_2 rfl ?_
  refine h_aload_n hC dX8_restEnd_3 rfl ?_
  refine h_get hC fl_X8_47 (hZ.w.o 3 (by decide)) rfl dX8_restEnd_4 ?_
  refine yr_size (j := 0) (e := ((yz A0 0 : Nat) : Int)) hC hr ho hZ (by decide) rfl cl_X8_62 rfl (Nat.le_of_ble_eq_true rfl) (hFr_of (Nat.le_of_ble_eq_true rfl) (Nat.le_of_ble_eq_true rfl)) dX8_restEnd_7 ?_
  refine yr_icmp_ge (tgt := 33) hC Rx2 (hZ.rz (j := 0) (by decide)) dX8_restEnd_10 (by decide) (fun c1 => ?_) (fun c1 => ?_)
  · have h2 := hw.1 c1
    refine h_iload_n hC dX8_restEnd_33 rfl ?_
    exact yr_iret hC hr ho hZ Rx2 h2 dX8_restEnd_34
  · have h3 := hw.2 c1
    refine h_aload_n hC dX8_restEnd_13 rfl ?_
    refine h_get hC fl_X8_47 (hZ.w.o 3 (by decide)) rfl dX8_restEnd_14 ?_
    refine h_iload_n hC dX8_restEnd_17 rfl ?_
    refine yr_get (j := 0) (e := (yget A0 0 x2)) hC hr ho hZ (by decide) Rx2 rfl cl_X8_88 rfl (Nat.le_of_ble_eq_true rfl) (hFr_of (Nat.le_of_ble_eq_true rfl) (Nat.le_of_ble_eq_true rfl)) dX8_restEnd_18 ?_
    refine yr_callSi (As := [.int (zI (yget A0 0 x2))]) hC hr ho hZ (cm_Scanner_isRest X.la d b (hZ.rg 0 _) hZ.rs h3) cl_X8_144 rfl rfl (Nat.le_of_ble_eq_true rfl) (hFr_of (Nat.le_of_ble_eq_true rfl) (Nat.le_of_ble_eq_true rfl)) dX8_restEnd_21 (fun r4 A5 u6 S7 R8 o9 hZ10 h11 => ?_)
    refine yr_if_eq (tgt := 33) hC R8 dX8_restEnd_24 (by decide) (fun c12 => ?_) (fun c12 => ?_)
    · have h13 := h11.1 c12
      refine h_iload_n hC dX8_restEnd_33 rfl ?_
      exact yr_iret hC hr o9 hZ10 Rx2 h13 dX8_restEnd_34
    · have h14 := h11.2 c12
      refine yr_iinc (x := x2) (lv' := [some (.ref (gO' Y 3)), none, some (.int (zI (x2 + 1)))]) hC dX8_restEnd_27 rfl rfl rfl ?_
      refine h_goto (tgt := 2) hC dX8_restEnd_30 (by decide) ?_
      obtain ⟨o15, h16⟩ := h14
      exact hk2 _ _ _ _ o15 o9 hZ10 h16
theorem cl_Scanner_restEnd_2 {X : gX} {d : gD} {b : Nat} {Y : gYt} {c : Nat × Nat} {F0 : gM} {S0 : gSt} {mc ms : Nat} (hC : gC RX8 cX8_restEnd 3 (some .int) "restEnd" (gR 2 mc ms) d b X) (hr : hRm X b) {Q : Int → cS → Prop}   : ∀ (m : Nat) (u : hU) (S : gSt) (A0 : cS) (x2 : Int), zR x2 → yOk X b u → yZ d b Y c F0 S0 u S A0 → wc_Scanner_restEnd_2 Q  m A0 x2 → yG X d b (yQi X d b Y c F0 S0 mc ms Q) u 2 [some (.ref (gO' Y 3)), none, some (.int (zI x2))] [] := by
  intro m
  induction m with
  | zero => intro u S A0 x2 Rx2 ho hZ hw; exact False.elim hw
  | succ m ihm => intro u S A0 x2 Rx2 ho hZ hw; exact cb_Scanner_restEnd_2 hC hr  ihm Rx2 ho hZ hw
set_option maxHeartbeats 4000000 in
set_option maxRecDepth 100000 in
theorem cm_Scanner_restEnd (l : Launch) (d : gD) (b : Nat) {Y : gYt} {c : Nat × Nat} {F : gM} {k n : Nat} {S : gSt} {A0 : cS} {a0 : Int} (Ra0 : zR a0) {Q : Int → cS → Prop} (hZ : yZ d b Y c F S (F, k, n) S A0) (hw : wc_Scanner_restEnd A0 a0 Q) : hMi l d b yX8_restEnd cX8_restEnd 3 .int 2 k n F [.ref (gO' Y 3), .int (zI a0)] (yPi d b Y c F S Q) := by
  intro mc ms
  refine hM_of2 rfl (nL := 3) (Nat.le_of_ble_eq_true rfl) ?_
  intro X hX hC hr ho; subst hX
  show yG X d b (yQi X d b Y c F S mc ms Q) (F, k, n) 0 [some (.ref (gO' Y 3)), some (.int (zI a0)), none] []
  unfold wc_Scanner_restEnd at hw
  refine h_iload_n hC dX8_restEnd_0 rfl ?_
  refine h_istore_n (lv' := [some (.ref (gO' Y 3)), some (.int (zI a0)), some (.int (zI a0))]) hC dX8_restEnd_1 (Nat.le_of_ble_eq_true rfl) rfl rfl ?_
  refine h_lv (lv' := [some (.ref (gO' Y 3)), none, some (.int (zI a0))]) ⟨rfl, rfl, trivial⟩ ?_
  obtain ⟨m1, h2⟩ := hw
  exact cl_Scanner_restEnd_2 hC hr  m1 _ _ _ _ Ra0 ho hZ h2
theorem dX8_name_0 : decode cX8_name 0 = .ok (.aload_n 0, 1) := by decide +kernel
theorem dX8_name_1 : decode cX8_name 1 = .ok (.aload_n 0, 1) := by decide +kernel
theorem dX8_name_2 : decode cX8_name 2 = .ok (.iload_n 1, 1) := by decide +kernel
theorem dX8_name_3 : decode cX8_name 3 = .ok (.invokevirtual 147, 3) := by decide +kernel
theorem dX8_name_6 : decode cX8_name 6 = .ok (.putfield 39, 3) := by decide +kernel
theorem dX8_name_9 : decode cX8_name 9 = .ok (.aload_n 0, 1) := by decide +kernel
theorem dX8_name_10 : decode cX8_name 10 = .ok (.getfield 39, 3) := by decide +kernel
theorem dX8_name_13 : decode cX8_name 13 = .ok (.iload_n 1, 1) := by decide +kernel
theorem dX8_name_14 : decode cX8_name 14 = .ok (.isub, 1) := by decide +kernel
theorem dX8_name_15 : decode cX8_name 15 = .ok (.bipush 40, 2) := by decide +kernel
theorem dX8_name_17 : decode cX8_name 17 = .ok (.if_icmp .le 11, 3) := by decide +kernel
theorem dX8_name_20 : decode cX8_name 20 = .ok (.aload_n 0, 1) := by decide +kernel
theorem dX8_name_21 : decode cX8_name 21 = .ok (.iconst 1, 1) := by decide +kernel
theorem dX8_name_22 : decode cX8_name 22 = .ok (.iconst 0, 1) := by decide +kernel
theorem dX8_name_23 : decode cX8_name 23 = .ok (.iload_n 1, 1) := by decide +kernel
theorem dX8_name_24 : decode cX8_name 24 = .ok (.invokevirtual 99, 3) := by decide +kernel
theorem dX8_name_27 : decode cX8_name 27 = .ok (.return_, 1) := by decide +kernel
theorem dX8_name_28 : decode cX8_name 28 = .ok (.aload_n 0, 1) := by decide +kernel
theorem dX8_name_29 : decode cX8_name 29 = .ok (.aload_n 0, 1) := by decide +kernel
theorem dX8_name_30 : decode cX8_name 30 = .ok (.getfield 47, 3) := by decide +kernel
theorem dX8_name_33 : decode cX8_name 33 = .ok (.iload_n 1, 1) := by decide +kernel
theorem dX8_name_34 : decode cX8_name 34 = .ok (.aload_n 0, 1) := by decide +kernel
theorem dX8_name_35 : decode cX8_name 35 = .ok (.getfield 39, 3) := by decide +kernel
theorem dX8_name_38 : decode cX8_name 38 = .ok (.invokevirtual 78, 3) := by decide +kernel
theorem dX8_name_41 : decode cX8_name 41 = .ok (.istore_n 2, 1) := by decide +kernel
theorem dX8_name_42 : decode cX8_name 42 = .ok (.iload_n 2, 1) := by decide +kernel
theorem dX8_name_43 : decode cX8_name 43 = .ok (.bipush 42, 2) := by decide +kernel
theorem dX8_name_45 : decode cX8_name 45 = .ok (.if_icmp .lt 11, 3) := by decide +kernel
theorem dX8_name_48 : decode cX8_name 48 = .ok (.aload_n 0, 1) := by decide +kernel
theorem dX8_name_49 : decode cX8_name 49 = .ok (.iconst 2, 1) := by decide +kernel
theorem dX8_name_50 : decode cX8_name 50 = .ok (.iload_n 2, 1) := by decide +kernel
theorem dX8_name_51 : decode cX8_name 51 = .ok (.iload_n 1, 1) := by decide +kernel
theorem dX8_name_52 : decode cX8_name 52 = .ok (.invokevirtual 99, 3) := by decide +kernel
theorem dX8_name_55 : decode cX8_name 55 = .ok (.return_, 1) := by decide +kernel
theorem dX8_name_56 : decode cX8_name 56 = .ok (.bipush 32, 2) := by decide +kernel
theorem dX8_name_58 : decode cX8_name 58 = .ok (.iload_n 2, 1) := by decide +kernel
theorem dX8_name_59 : decode cX8_name 59 = .ok (.iadd, 1) := by decide +kernel
theorem dX8_name_60 : decode cX8_name 60 = .ok (.istore_n 3, 1) := by decide +kernel
theorem dX8_name_61 : decode cX8_name 61 = .ok (.aload_n 0, 1) := by decide +kernel
theorem dX8_name_62 : decode cX8_name 62 = .ok (.iload_n 3, 1) := by decide +kernel
theorem dX8_name_63 : decode cX8_name 63 = .ok (.bipush 60, 2) := by decide +kernel
theorem dX8_name_65 : decode cX8_name 65 = .ok (.if_icmp .ne 8, 3) := by decide +kernel
theorem dX8_name_68 : decode cX8_name 68 = .ok (.bipush 61, 2) := by decide +kernel
theorem dX8_name_70 : decode cX8_name 70 = .ok (.goto 26, 3) := by decide +kernel
theorem dX8_name_73 : decode cX8_name 73 = .ok (.iload_n 3, 1) := by decide +kernel
theorem dX8_name_74 : decode cX8_name 74 = .ok (.bipush 63, 2) := by decide +kernel
theorem dX8_name_76 : decode cX8_name 76 = .ok (.if_icmp .ne 8, 3) := by decide +kernel
theorem dX8_name_79 : decode cX8_name 79 = .ok (.bipush 62, 2) := by decide +kernel
theorem dX8_name_81 : decode cX8_name 81 = .ok (.goto 15, 3) := by decide +kernel
theorem dX8_name_84 : decode cX8_name 84 = .ok (.iload_n 3, 1) := by decide +kernel
theorem dX8_name_85 : decode cX8_name 85 = .ok (.bipush 73, 2) := by decide +kernel
theorem dX8_name_87 : decode cX8_name 87 = .ok (.if_icmp .ne 8, 3) := by decide +kernel
theorem dX8_name_90 : decode cX8_name 90 = .ok (.bipush 28, 2) := by decide +kernel
theorem dX8_name_92 : decode cX8_name 92 = .ok (.goto 4, 3) := by decide +kernel
theorem dX8_name_95 : decode cX8_name 95 = .ok (.iload_n 3, 1) := by decide +kernel
theorem dX8_name_96 : decode cX8_name 96 = .ok (.iconst 0, 1) := by decide +kernel
theorem dX8_name_97 : decode cX8_name 97 = .ok (.iload_n 1, 1) := by decide +kernel
theorem dX8_name_98 : decode cX8_name 98 = .ok (.invokevirtual 99, 3) := by decide +kernel
theorem dX8_name_101 : decode cX8_name 101 = .ok (.return_, 1) := by decide +kernel
def wc_Scanner_name (A0 : cS) (a0 : Int) (Q : cS → Prop) : Prop :=
  wc_Scanner_restEnd A0 a0 (fun r1 A2 => (zR (r1 - a0)) ∧ (((r1 - a0) ≤ 40 → wc_Scanner_idOf (ypv A2 8 r1) a0 r1 (fun r24 A25 => ((r24 < 42 → (zR (32 + r24)) ∧ ((¬ (32 + r24) = 60 → ((¬ (32 + r24) = 63 → ((¬ (32 + r24) = 73 → wc_Scanner_put A25 (32 + r24) 0 a0 (fun A43 => Q A43)) ∧ ((32 + r24) = 73 → wc_Scanner_put A25 28 0 a0 (fun A52 => Q A52)))) ∧ ((32 + r24) = 63 → wc_Scanner_put A25 62 0 a0 (fun A61 => Q A61)))) ∧ ((32 + r24) = 60 → wc_Scanner_put A25 61 0 a0 (fun A70 => Q A70)))) ∧ (¬ r24 < 42 → wc_Scanner_put A25 2 r24 a0 (fun A79 => Q A79))))) ∧ (¬ (r1 - a0) ≤ 40 → wc_Scanner_put (ypv A2 8 r1) 1 0 a0 (fun A88 => Q A88))))
set_option maxHeartbeats 4000000 in
set_option maxRecDepth 100000 in
theorem cm_Scanner_name (l : Launch) (d : gD) (b : Nat) {Y : gYt} {c : Nat × Nat} {F : gM} {k n : Nat} {S : gSt} {A0 : cS} {a0 : Int} (Ra0 : zR a0) {Q : cS → Prop} (hZ : yZ d b Y c F S (F, k, n) S A0) (hw : wc_Scanner_name A0 a0 Q) : hMv l d b yX8_name cX8_name 4 4 k n F [.ref (gO' Y 3), .int (zI a0)] (yPv d b Y c F S Q) := by
  intro mc ms
  refine hM_of2 rfl (nL := 4) (Nat.le_of_ble_eq_true rfl) ?_
  intro X hX hC hr ho; subst hX
  show yG X d b (yQv X d b Y c F S mc ms Q) (F, k, n) 0 [some (.ref (gO' Y 3)), some (.int (zI a0)), none, none] []
  unfold wc_Scanner_name at hw
  refine h_aload_n hC dX8_name_0 rfl ?_
  refine h_aload_n hC dX8_name_1 rfl ?_
  refine h_iload_n hC dX8_name_2 rfl ?_
  refine yr_callVi (As := [.int (zI a0)]) hC hr ho hZ rfl (hZ.w.o 3 (by decide)) (cm_Scanner_restEnd X.la d b Ra0 hZ.rs hw) cl_X8_147 rfl rfl (Nat.le_of_ble_eq_true rfl) (hFr_of (Nat.le_of_ble_eq_true rfl) (Nat.le_of_ble_eq_true rfl)) dX8_name_3 (fun r1 A2 u3 S4 R5 o6 hZ7 h8 => ?_)
  refine hi_putx (i := 3) (kx := 8) hC hZ7.hi (by decide) fl_X8_39 rfl rfl rfl (Nat.le_of_ble_eq_true rfl) rfl gsame_8 (fun q => absurd q (by decide)) dX8_name_6 (fun F9 S10 I11 K12 s13 v14 p15 => ?_)
  have hZ16 := hZ7.put I11 K12 s13 v14 R5 rfl
  clear I11 K12 s13 v14 p15
  refine yr_nu o6 hZ16 (fun u17 o18 hZ19 => ?_)
  refine h_aload_n hC dX8_name_9 rfl ?_
  refine h_get hC fl_X8_39 (hZ19.w.o 3 (by decide)) rfl dX8_name_10 ?_
  refine yr_sv (e := r1) hZ19 8 rfl ?_
  refine h_iload_n hC dX8_name_13 rfl ?_
  refine yr_isub hC dX8_name_14 ?_
  refine h_bipush (v := zI 40) hC dX8_name_15 rfl ?_
  obtain ⟨o20, h21⟩ := h8
  refine yr_icmp_le (tgt := 28) hC o20 (by decide) dX8_name_17 (by decide) (fun c22 => ?_) (fun c22 => ?_)
  · have h23 := h21.1 c22
    refine h_aload_n hC dX8_name_28 rfl ?_
    refine h_aload_n hC dX8_name_29 rfl ?_
    refine h_get hC fl_X8_47 (hZ19.w.o 3 (by decide)) rfl dX8_name_30 ?_
    refine h_iload_n hC dX8_name_33 rfl ?_
    refine h_aload_n hC dX8_name_34 rfl ?_
    refine h_get hC fl_X8_39 (hZ19.w.o 3 (by decide)) rfl dX8_name_35 ?_
    refine yr_sv (e := r1) hZ19 8 rfl ?_
    refine yr_callVi (As := [.ref (gA' Y 0), .int (zI a0), .int (zI r1)]) hC hr o18 hZ19 rfl (hZ19.w.o 3 (by decide)) (cm_Scanner_idOf X.la d b Ra0 R5 hZ19.rs h23) cl_X8_78 rfl rfl (Nat.le_of_ble_eq_true rfl) (hFr_of (Nat.le_of_ble_eq_true rfl) (Nat.le_of_ble_eq_true rfl)) dX8_name_38 (fun r24 A25 u26 S27 R28 o29 hZ30 h31 => ?_)
    refine h_istore_n (lv' := [some (.ref (gO' Y 3)), some (.int (zI a0)), some (.int (zI r24)), none]) hC dX8_name_41 (Nat.le_of_ble_eq_true rfl) rfl rfl ?_
    refine h_iload_n hC dX8_name_42 rfl ?_
    refine h_bipush (v := zI 42) hC dX8_name_43 rfl ?_
    refine yr_icmp_lt (tgt := 56) hC R28 (by decide) dX8_name_45 (by decide) (fun c32 => ?_) (fun c32 => ?_)
    · have h33 := h31.1 c32
      refine h_bipush (v := zI 32) hC dX8_name_56 rfl ?_
      refine h_iload_n hC dX8_name_58 rfl ?_
      refine yr_iadd hC dX8_name_59 ?_
      refine h_istore_n (lv' := [some (.ref (gO' Y 3)), some (.int (zI a0)), some (.int (zI r24)), some (.int (zI (32 + r24)))]) hC dX8_name_60 (Nat.le_of_ble_eq_true rfl) rfl rfl ?_
      refine h_aload_n hC dX8_name_61 rfl ?_
      refine h_iload_n hC dX8_name_62 rfl ?_
      refine h_bipush (v := zI 60) hC dX8_name_63 rfl ?_
      obtain ⟨o34, h35⟩ := h33
      refine yr_icmp_ne (tgt := 73) hC o34 (by decide) dX8_name_65 (by decide) (fun c36 => ?_) (fun c36 => ?_)
      · have h37 := h35.1 c36
        refine h_iload_n hC dX8_name_73 rfl ?_
        refine h_bipush (v := zI 63) hC dX8_name_74 rfl ?_
        refine yr_icmp_ne (tgt := 84) hC o34 (by decide) dX8_name_76 (by decide) (fun c38 => ?_) (fun c38 => ?_)
        · have h39 := h37.1 c38
          refine h_iload_n hC dX8_name_84 rfl ?_
          refine h_bipush (v := zI 73) hC dX8_name_85 rfl ?_
          refine yr_icmp_ne (tgt := 95) hC o34 (by decide) dX8_name_87 (by decide) (fun c40 => ?_) (fun c40 => ?_)
          · have h41 := h39.1 c40
            refine h_iload_n hC dX8_name_95 rfl ?_
            refine h_iconst (v := zI 0) hC dX8_name_96 rfl ?_
            refine h_iload_n hC dX8_name_97 rfl ?_
            refine yr_callVv (As := [.int (zI (32 + r24)), .int (zI 0), .int (zI a0)]) hC hr o29 hZ30 rfl (hZ30.w.o 3 (by decide)) (cm_Scanner_put X.la d b o34 (by decide) Ra0 hZ30.rs h41) cl_X8_99 rfl rfl (Nat.le_of_ble_eq_true rfl) (hFr_of (Nat.le_of_ble_eq_true rfl) (Nat.le_of_ble_eq_true rfl)) dX8_name_98 (fun A43 u44 S45 o47 hZ48 h49 => ?_)
            exact yr_vret hC hr o47 hZ48 h49 dX8_name_101
          · have h50 := h39.2 c40
            refine h_bipush (v := zI 28) hC dX8_name_90 rfl ?_
            refine h_goto (tgt := 96) hC dX8_name_92 (by decide) ?_
            refine h_iconst (v := zI 0) hC dX8_name_96 rfl ?_
            refine h_iload_n hC dX8_name_97 rfl ?_
            refine yr_callVv (As := [.int (zI 28), .int (zI 0), .int (zI a0)]) hC hr o29 hZ30 rfl (hZ30.w.o 3 (by decide)) (cm_Scanner_put X.la d b (by decide) (by decide) Ra0 hZ30.rs h50) cl_X8_99 rfl rfl (Nat.le_of_ble_eq_true rfl) (hFr_of (Nat.le_of_ble_eq_true rfl) (Nat.le_of_ble_eq_true rfl)) dX8_name_98 (fun A52 u53 S54 o56 hZ57 h58 => ?_)
            exact yr_vret hC hr o56 hZ57 h58 dX8_name_101
        · have h59 := h37.2 c38
          refine h_bipush (v := zI 62) hC dX8_name_79 rfl ?_
          refine h_goto (tgt := 96) hC dX8_name_81 (by decide) ?_
          refine h_iconst (v := zI 0) hC dX8_name_96 rfl ?_
          refine h_iload_n hC dX8_name_97 rfl ?_
          refine yr_callVv (As := [.int (zI 62), .int (zI 0), .int (zI a0)]) hC hr o29 hZ30 rfl (hZ30.w.o 3 (by decide)) (cm_Scanner_put X.la d b (by decide) (by decide) Ra0 hZ30.rs h59) cl_X8_99 rfl rfl (Nat.le_of_ble_eq_true rfl) (hFr_of (Nat.le_of_ble_eq_true rfl) (Nat.le_of_ble_eq_true rfl)) dX8_name_98 (fun A61 u62 S63 o65 hZ66 h67 => ?_)
          exact yr_vret hC hr o65 hZ66 h67 dX8_name_101
      · have h68 := h35.2 c36
        refine h_bipush (v := zI 61) hC dX8_name_68 rfl ?_
        refine h_goto (tgt := 96) hC dX8_name_70 (by decide) ?_
        refine h_iconst (v := zI 0) hC dX8_name_96 rfl ?_
        refine h_iload_n hC dX8_name_97 rfl ?_
        refine yr_callVv (As := [.int (zI 61), .int (zI 0), .int (zI a0)]) hC hr o29 hZ30 rfl (hZ30.w.o 3 (by decide)) (cm_Scanner_put X.la d b (by decide) (by decide) Ra0 hZ30.rs h68) cl_X8_99 rfl rfl (Nat.le_of_ble_eq_true rfl) (hFr_of (Nat.le_of_ble_eq_true rfl) (Nat.le_of_ble_eq_true rfl)) dX8_name_98 (fun A70 u71 S72 o74 hZ75 h76 => ?_)
        exact yr_vret hC hr o74 hZ75 h76 dX8_name_101
    · have h77 := h31.2 c32
      refine h_aload_n hC dX8_name_48 rfl ?_
      refine h_iconst (v := zI 2) hC dX8_name_49 rfl ?_
      refine h_iload_n hC dX8_name_50 rfl ?_
      refine h_iload_n hC dX8_name_51 rfl ?_
      refine yr_callVv (As := [.int (zI 2), .int (zI r24), .int (zI a0)]) hC hr o29 hZ30 rfl (hZ30.w.o 3 (by decide)) (cm_Scanner_put X.la d b (by decide) R28 Ra0 hZ30.rs h77) cl_X8_99 rfl rfl (Nat.le_of_ble_eq_true rfl) (hFr_of (Nat.le_of_ble_eq_true rfl) (Nat.le_of_ble_eq_true rfl)) dX8_name_52 (fun A79 u80 S81 o83 hZ84 h85 => ?_)
      exact yr_vret hC hr o83 hZ84 h85 dX8_name_55
  · have h86 := h21.2 c22
    refine h_aload_n hC dX8_name_20 rfl ?_
    refine h_iconst (v := zI 1) hC dX8_name_21 rfl ?_
    refine h_iconst (v := zI 0) hC dX8_name_22 rfl ?_
    refine h_iload_n hC dX8_name_23 rfl ?_
    refine yr_callVv (As := [.int (zI 1), .int (zI 0), .int (zI a0)]) hC hr o18 hZ19 rfl (hZ19.w.o 3 (by decide)) (cm_Scanner_put X.la d b (by decide) (by decide) Ra0 hZ19.rs h86) cl_X8_99 rfl rfl (Nat.le_of_ble_eq_true rfl) (hFr_of (Nat.le_of_ble_eq_true rfl) (Nat.le_of_ble_eq_true rfl)) dX8_name_24 (fun A88 u89 S90 o92 hZ93 h94 => ?_)
    exact yr_vret hC hr o92 hZ93 h94 dX8_name_27
def wc_Scanner_digitOf (A0 : cS) (a0 : Int) (Q : Int → cS → Prop) : Prop :=
  wc_Scanner_isDigit A0 a0 (fun r1 A2 => ((r1 = 0 → ((a0 < 65 → Q 99 A2) ∧ (¬ a0 < 65 → ((70 < a0 → Q 99 A2) ∧ (¬ 70 < a0 → (zR ((a0 - 65) + 10)) ∧ Q ((a0 - 65) + 10) A2))))) ∧ (¬ r1 = 0 → (zR (a0 - 48)) ∧ Q (a0 - 48) A2)))
set_option maxHeartbeats 4000000 in
set_option maxRecDepth 100000 in
theorem cm_Scanner_digitOf (l : Launch) (d : gD) (b : Nat) {Y : gYt} {c : Nat × Nat} {F : gM} {k n : Nat} {S : gSt} {A0 : cS} {a0 : Int} (Ra0 : zR a0) {Q : Int → cS → Prop} (hZ : yZ d b Y c F S (F, k, n) S A0) (hw : wc_Scanner_digitOf A0 a0 Q) : hMi l d b yX8_digitOf cX8_digitOf 1 .int 1 k n F [.int (zI a0)] (yPi d b Y c F S Q) := by
  intro mc ms
  refine hM_of2 rfl (nL := 1) (Nat.le_of_ble_eq_true rfl) ?_
  intro X hX hC hr ho; subst hX
  show yG X d b (yQi X d b Y c F S mc ms Q) (F, k, n) 0 [some (.int (zI a0))] []
  unfold wc_Scanner_digitOf at hw
  refine h_iload_n hC dX8_digitOf_0 rfl ?_
  refine yr_callSi (As := [.int (zI a0)]) hC hr ho hZ (cm_Scanner_isDigit X.la d b Ra0 hZ.rs hw) cl_X8_125 rfl rfl (Nat.le_of_ble_eq_true rfl) (hFr_of (Nat.le_of_ble_eq_true rfl) (Nat.le_of_ble_eq_true rfl)) dX8_digitOf_1 (fun r1 A2 u3 S4 R5 o6 hZ7 h8 => ?_)
  refine yr_if_eq (tgt := 14) hC R5 dX8_digitOf_4 (by decide) (fun c9 => ?_) (fun c9 => ?_)
  · have h10 := h8.1 c9
    refine h_iload_n hC dX8_digitOf_14 rfl ?_
    refine h_bipush (v := zI 65) hC dX8_digitOf_15 rfl ?_
    refine yr_icmp_lt (tgt := 36) hC Ra0 (by decide) dX8_digitOf_17 (by decide) (fun c11 => ?_) (fun c11 => ?_)
    · have h12 := h10.1 c11
      refine h_bipush (v := zI 99) hC dX8_digitOf_36 rfl ?_
      exact yr_iret hC hr o6 hZ7 (by decide) h12 dX8_digitOf_38
    · have h13 := h10.2 c11
      refine h_iload_n hC dX8_digitOf_20 rfl ?_
      refine h_bipush (v := zI 70) hC dX8_digitOf_21 rfl ?_
      refine yr_icmp_gt (tgt := 36) hC Ra0 (by decide) dX8_digitOf_23 (by decide) (fun c14 => ?_) (fun c14 => ?_)
      · have h15 := h13.1 c14
        refine h_bipush (v := zI 99) hC dX8_digitOf_36 rfl ?_
        exact yr_iret hC hr o6 hZ7 (by decide) h15 dX8_digitOf_38
      · have h16 := h13.2 c14
        refine h_iload_n hC dX8_digitOf_26 rfl ?_
        refine h_bipush (v := zI 65) hC dX8_digitOf_27 rfl ?_
        refine yr_isub hC dX8_digitOf_29 ?_
        refine h_bipush (v := zI 10) hC dX8_digitOf_30 rfl ?_
        refine yr_iadd hC dX8_digitOf_32 ?_
        refine h_goto (tgt := 38) hC dX8_digitOf_33 (by decide) ?_
        obtain ⟨o17, h18⟩ := h16
        exact yr_iret hC hr o6 hZ7 o17 h18 dX8_digitOf_38
  · have h19 := h8.2 c9
    refine h_iload_n hC dX8_digitOf_7 rfl ?_
    refine h_bipush (v := zI 48) hC dX8_digitOf_8 rfl ?_
    refine yr_isub hC dX8_digitOf_10 ?_
    refine h_goto (tgt := 38) hC dX8_digitOf_11 (by decide) ?_
    obtain ⟨o20, h21⟩ := h19
    exact yr_iret hC hr o6 hZ7 o20 h21 dX8_digitOf_38
theorem dX8_number_0 : decode cX8_number 0 = .ok (.lconst 0, 1) := by decide +kernel
theorem dX8_number_1 : decode cX8_number 1 = .ok (.lstore 4, 2) := by decide +kernel
theorem dX8_number_3 : decode cX8_number 3 = .ok (.aload_n 0, 1) := by decide +kernel
theorem dX8_number_4 : decode cX8_number 4 = .ok (.iload_n 2, 1) := by decide +kernel
theorem dX8_number_5 : decode cX8_number 5 = .ok (.putfield 39, 3) := by decide +kernel
theorem dX8_number_8 : decode cX8_number 8 = .ok (.iconst 0, 1) := by decide +kernel
theorem dX8_number_9 : decode cX8_number 9 = .ok (.istore 6, 2) := by decide +kernel
theorem dX8_number_11 : decode cX8_number 11 = .ok (.iload 6, 2) := by decide +kernel
theorem dX8_number_13 : decode cX8_number 13 = .ok (.aload_n 0, 1) := by decide +kernel
theorem dX8_number_14 : decode cX8_number 14 = .ok (.getfield 47, 3) := by decide +kernel
theorem dX8_number_17 : decode cX8_number 17 = .ok (.invokevirtual 62, 3) := by decide +kernel
theorem dX8_number_20 : decode cX8_number 20 = .ok (.if_icmp .ge 80, 3) := by decide +kernel
theorem dX8_number_23 : decode cX8_number 23 = .ok (.aload_n 0, 1) := by decide +kernel
theorem dX8_number_24 : decode cX8_number 24 = .ok (.getfield 39, 3) := by decide +kernel
theorem dX8_number_27 : decode cX8_number 27 = .ok (.aload_n 0, 1) := by decide +kernel
theorem dX8_number_28 : decode cX8_number 28 = .ok (.getfield 47, 3) := by decide +kernel
theorem dX8_number_31 : decode cX8_number 31 = .ok (.invokevirtual 62, 3) := by decide +kernel
theorem dX8_number_34 : decode cX8_number 34 = .ok (.if_icmp .ge 66, 3) := by decide +kernel
theorem dX8_number_37 : decode cX8_number 37 = .ok (.aload_n 0, 1) := by decide +kernel
theorem dX8_number_38 : decode cX8_number 38 = .ok (.getfield 47, 3) := by decide +kernel
theorem dX8_number_41 : decode cX8_number 41 = .ok (.aload_n 0, 1) := by decide +kernel
theorem dX8_number_42 : decode cX8_number 42 = .ok (.getfield 39, 3) := by decide +kernel
theorem dX8_number_45 : decode cX8_number 45 = .ok (.invokevirtual 88, 3) := by decide +kernel
theorem dX8_number_48 : decode cX8_number 48 = .ok (.invokestatic 150, 3) := by decide +kernel
theorem dX8_number_51 : decode cX8_number 51 = .ok (.iload_n 3, 1) := by decide +kernel
theorem dX8_number_52 : decode cX8_number 52 = .ok (.if_icmp .ge 48, 3) := by decide +kernel
theorem dX8_number_55 : decode cX8_number 55 = .ok (.lload 4, 2) := by decide +kernel
theorem dX8_number_57 : decode cX8_number 57 = .ok (.iload_n 3, 1) := by decide +kernel
theorem dX8_number_58 : decode cX8_number 58 = .ok (.i2l, 1) := by decide +kernel
theorem dX8_number_59 : decode cX8_number 59 = .ok (.lmul, 1) := by decide +kernel
theorem dX8_number_60 : decode cX8_number 60 = .ok (.aload_n 0, 1) := by decide +kernel
theorem dX8_number_61 : decode cX8_number 61 = .ok (.getfield 47, 3) := by decide +kernel
theorem dX8_number_64 : decode cX8_number 64 = .ok (.aload_n 0, 1) := by decide +kernel
theorem dX8_number_65 : decode cX8_number 65 = .ok (.getfield 39, 3) := by decide +kernel
theorem dX8_number_68 : decode cX8_number 68 = .ok (.invokevirtual 88, 3) := by decide +kernel
theorem dX8_number_71 : decode cX8_number 71 = .ok (.invokestatic 150, 3) := by decide +kernel
theorem dX8_number_74 : decode cX8_number 74 = .ok (.i2l, 1) := by decide +kernel
theorem dX8_number_75 : decode cX8_number 75 = .ok (.ladd, 1) := by decide +kernel
theorem dX8_number_76 : decode cX8_number 76 = .ok (.ldc2_w 153, 3) := by decide +kernel
theorem dX8_number_79 : decode cX8_number 79 = .ok (.invokestatic 155, 3) := by decide +kernel
theorem dX8_number_82 : decode cX8_number 82 = .ok (.lstore 4, 2) := by decide +kernel
theorem dX8_number_84 : decode cX8_number 84 = .ok (.aload_n 0, 1) := by decide +kernel
theorem dX8_number_85 : decode cX8_number 85 = .ok (.dup, 1) := by decide +kernel
theorem dX8_number_86 : decode cX8_number 86 = .ok (.getfield 39, 3) := by decide +kernel
theorem dX8_number_89 : decode cX8_number 89 = .ok (.iconst 1, 1) := by decide +kernel
theorem dX8_number_90 : decode cX8_number 90 = .ok (.iadd, 1) := by decide +kernel
theorem dX8_number_91 : decode cX8_number 91 = .ok (.putfield 39, 3) := by decide +kernel
theorem dX8_number_94 : decode cX8_number 94 = .ok (.iinc 6 1, 3) := by decide +kernel
theorem dX8_number_97 : decode cX8_number 97 = .ok (.goto (-86), 3) := by decide +kernel
theorem dX8_number_100 : decode cX8_number 100 = .ok (.aload_n 0, 1) := by decide +kernel
theorem dX8_number_101 : decode cX8_number 101 = .ok (.aload_n 0, 1) := by decide +kernel
theorem dX8_number_102 : decode cX8_number 102 = .ok (.getfield 39, 3) := by decide +kernel
theorem dX8_number_105 : decode cX8_number 105 = .ok (.iload_n 2, 1) := by decide +kernel
theorem dX8_number_106 : decode cX8_number 106 = .ok (.if_icmp .le 16, 3) := by decide +kernel
theorem dX8_number_109 : decode cX8_number 109 = .ok (.lload 4, 2) := by decide +kernel
theorem dX8_number_111 : decode cX8_number 111 = .ok (.ldc2_w 161, 3) := by decide +kernel
theorem dX8_number_114 : decode cX8_number 114 = .ok (.lcmp, 1) := by decide +kernel
theorem dX8_number_115 : decode cX8_number 115 = .ok (.ifCond .ge 7, 3) := by decide +kernel
theorem dX8_number_118 : decode cX8_number 118 = .ok (.iconst 3, 1) := by decide +kernel
theorem dX8_number_119 : decode cX8_number 119 = .ok (.goto 4, 3) := by decide +kernel
theorem dX8_number_122 : decode cX8_number 122 = .ok (.iconst 1, 1) := by decide +kernel
theorem dX8_number_123 : decode cX8_number 123 = .ok (.lload 4, 2) := by decide +kernel
theorem dX8_number_125 : decode cX8_number 125 = .ok (.l2i, 1) := by decide +kernel
theorem dX8_number_126 : decode cX8_number 126 = .ok (.iload_n 1, 1) := by decide +kernel
theorem dX8_number_127 : decode cX8_number 127 = .ok (.invokevirtual 99, 3) := by decide +kernel
theorem dX8_number_130 : decode cX8_number 130 = .ok (.return_, 1) := by decide +kernel
def wc_Scanner_number_100 (Q : cS → Prop)  (A0 : cS) (x1 : Int) (x2 : Int) (x4 : Int) : Prop :=
  (((yv A0 8) ≤ x2 → ∀ z3 : Int, z3 = zw x4 → zR z3 → wc_Scanner_put A0 1 z3 x1 (fun A8 => Q A8)) ∧ (¬ (yv A0 8) ≤ x2 → ((4294967296 ≤ x4 → ∀ z18 : Int, z18 = zw x4 → zR z18 → wc_Scanner_put A0 1 z18 x1 (fun A23 => Q A23)) ∧ (¬ 4294967296 ≤ x4 → ∀ z31 : Int, z31 = zw x4 → zR z31 → wc_Scanner_put A0 3 z31 x1 (fun A36 => Q A36)))))
def wc_Scanner_number_11B (Q : cS → Prop) (k11 : cS → Int → Int → Int → Int → Int → Prop) (A0 : cS) (x1 : Int) (x2 : Int) (x3 : Int) (x4 : Int) (x6 : Int) : Prop :=
  ((((yz A0 0 : Nat) : Int) ≤ x6 → wc_Scanner_number_100 Q  A0 x1 x2 x4) ∧ (¬ ((yz A0 0 : Nat) : Int) ≤ x6 → ((((yz A0 0 : Nat) : Int) ≤ (yv A0 8) → wc_Scanner_number_100 Q  A0 x1 x2 x4) ∧ (¬ ((yz A0 0 : Nat) : Int) ≤ (yv A0 8) → wc_Scanner_digitOf A0 (yget A0 0 (yv A0 8)) (fun r7 A8 => ((x3 ≤ r7 → wc_Scanner_number_100 Q  A8 x1 x2 x4) ∧ (¬ x3 ≤ r7 → wc_Scanner_digitOf A8 (yget A8 0 (yv A8 8)) (fun r18 A19 => (zL ((x4 * x3) + r18)) ∧ (zR ((yv A19 8) + 1)) ∧ (zR (x6 + 1)) ∧ k11 (ypv A19 8 ((yv A19 8) + 1)) x1 x2 x3 (min ((x4 * x3) + r18) 1099511627776) (x6 + 1)))))))))
def wc_Scanner_number_11 (Q : cS → Prop)  : Nat → cS → Int → Int → Int → Int → Int → Prop
  | 0 => fun _ _ _ _ _ _ => False
  | m + 1 => fun A0 x1 x2 x3 x4 x6 => wc_Scanner_number_11B Q  (wc_Scanner_number_11 Q  m) A0 x1 x2 x3 x4 x6
def wc_Scanner_number (A0 : cS) (a0 : Int) (a1 : Int) (a2 : Int) (Q : cS → Prop) : Prop :=
  ∃ n, wc_Scanner_number_11 Q  n (ypv A0 8 a1) a0 a1 a2 0 0
set_option maxHeartbeats 4000000 in
set_option maxRecDepth 100000 in
theorem cj_Scanner_number_100 {X : gX} {d : gD} {b : Nat} {Y : gYt} {c : Nat × Nat} {F0 : gM} {S0 : gSt} {mc ms : Nat} (hC : gC RX8 cX8_number 7 none "number" (gR 4 mc ms) d b X) (hr : hRm X b) {Q : cS → Prop}   {u : hU} {S : gSt} {A0 : cS} {x1 : Int} {x2 : Int} {x4 : Int} (Rx1 : zR x1) (Rx2 : zR x2) (Rx4 : zL x4) (ho : yOk X b u) (hZ : yZ d b Y c F0 S0 u S A0) (hw : wc_Scanner_number_100 Q  A0 x1 x2 x4) : yG X d b (yQv X d b Y c F0 S0 mc ms Q) u 100 [some (.ref (gO' Y 3)), some (.int (zI x1)), some (.int (zI x2)), none, some (.long (zJ x4)), none, none] [] := by
  unfold wc_Scanner_number_100 at hw
  refine h_aload_n hC dX8_number_100 rfl ?_
  refine h_aload_n hC dX8_number_101 rfl ?_
  refine h_get hC fl_X8_39 (hZ.w.o 3 (by decide)) rfl dX8_number_102 ?_
  refine yr_sv (e := (yv A0 8)) hZ 8 rfl ?_
  refine h_iload_n hC dX8_number_105 rfl ?_
  refine yr_icmp_le (tgt := 122) hC (hZ.rv 8) Rx2 dX8_number_106 (by decide) (fun c1 => ?_) (fun c1 => ?_)
  · have h2 := hw.1 c1
    refine h_iconst (v := zI 1) hC dX8_number_122 rfl ?_
    refine h_lload hC dX8_number_123 rfl ?_
    refine yr_l2i hC dX8_number_125 ?_
    refine yr_w (fun z3 e4 R5 => ?_)
    have h6 := h2 z3 e4 R5
    refine h_iload_n hC dX8_number_126 rfl ?_
    refine yr_callVv (As := [.int (zI 1), .int (zI z3), .int (zI x1)]) hC hr ho hZ rfl (hZ.w.o 3 (by decide)) (cm_Scanner_put X.la d b (by decide) R5 Rx1 hZ.rs h6) cl_X8_99 rfl rfl (Nat.le_of_ble_eq_true rfl) (hFr_of (Nat.le_of_ble_eq_true rfl) (Nat.le_of_ble_eq_true rfl)) dX8_number_127 (fun A8 u9 S10 o12 hZ13 h14 => ?_)
    exact yr_vret hC hr o12 hZ13 h14 dX8_number_130
  · have h15 := hw.2 c1
    refine h_lload hC dX8_number_109 rfl ?_
    refine yr_ldc2 (e := 4294967296) hC dX8_number_111 kw_919 (by decide) ?_
    refine h_lcmp hC dX8_number_114 ?_
    refine yr_lif_ge (tgt := 122) hC Rx4 (by decide) dX8_number_115 (by decide) (fun c16 => ?_) (fun c16 => ?_)
    · have h17 := h15.1 c16
      refine h_iconst (v := zI 1) hC dX8_number_122 rfl ?_
      refine h_lload hC dX8_number_123 rfl ?_
      refine yr_l2i hC dX8_number_125 ?_
      refine yr_w (fun z18 e19 R20 => ?_)
      have h21 := h17 z18 e19 R20
      refine h_iload_n hC dX8_number_126 rfl ?_
      refine yr_callVv (As := [.int (zI 1), .int (zI z18), .int (zI x1)]) hC hr ho hZ rfl (hZ.w.o 3 (by decide)) (cm_Scanner_put X.la d b (by decide) R20 Rx1 hZ.rs h21) cl_X8_99 rfl rfl (Nat.le_of_ble_eq_true rfl) (hFr_of (Nat.le_of_ble_eq_true rfl) (Nat.le_of_ble_eq_true rfl)) dX8_number_127 (fun A23 u24 S25 o27 hZ28 h29 => ?_)
      exact yr_vret hC hr o27 hZ28 h29 dX8_number_130
    · have h30 := h15.2 c16
      refine h_iconst (v := zI 3) hC dX8_number_118 rfl ?_
      refine h_goto (tgt := 123) hC dX8_number_119 (by decide) ?_
      refine h_lload hC dX8_number_123 rfl ?_
      refine yr_l2i hC dX8_number_125 ?_
      refine yr_w (fun z31 e32 R33 => ?_)
      have h34 := h30 z31 e32 R33
      refine h_iload_n hC dX8_number_126 rfl ?_
      refine yr_callVv (As := [.int (zI 3), .int (zI z31), .int (zI x1)]) hC hr ho hZ rfl (hZ.w.o 3 (by decide)) (cm_Scanner_put X.la d b (by decide) R33 Rx1 hZ.rs h34) cl_X8_99 rfl rfl (Nat.le_of_ble_eq_true rfl) (hFr_of (Nat.le_of_ble_eq_true rfl) (Nat.le_of_ble_eq_true rfl)) dX8_number_127 (fun A36 u37 S38 o40 hZ41 h42 => ?_)
      exact yr_vret hC hr o40 hZ41 h42 dX8_number_130
set_option maxHeartbeats 4000000 in
set_option maxRecDepth 100000 in
theorem cb_Scanner_number_11 {X : gX} {d : gD} {b : Nat} {Y : gYt} {c : Nat × Nat} {F0 : gM} {S0 : gSt} {mc ms : Nat} (hC : gC RX8 cX8_number 7 none "number" (gR 4 mc ms) d b X) (hr : hRm X b) {Q : cS → Prop} {k11 : cS → Int → Int → Int → Int → Int → Prop} (hk11 : ∀ (u : hU) (S : gSt) (A0 : cS) (x1 : Int) (x2 : Int) (x3 : Int) (x4 : Int) (x6 : Int), zR x1 → zR x2 → zR x3 → zL x4 → zR x6 → yOk X b u → yZ d b Y c F0 S0 u S A0 → k11 A0 x1 x2 x3 x4 x6 → yG X d b (yQv X d b Y c F0 S0 mc ms Q) u 11 [some (.ref (gO' Y 3)), some (.int (zI x1)), some (.int (zI x2)), some (.int (zI x3)), some (.long (zJ x4)), none, some (.int (zI x6))] []) {u : hU} {S : gSt} {A0 : cS} {x1 : Int} {x2 : Int} {x3 : Int} {x4 : Int} {x6 : Int} (Rx1 : zR x1) (Rx2 : zR x2) (Rx3 : zR x3) (Rx4 : zL x4) (Rx6 : zR x6) (ho : yOk X b u) (hZ : yZ d b Y c F0 S0 u S A0) (hw : wc_Scanner_number_11B Q k11 A0 x1 x2 x3 x4 x6) : yG X d b (yQv X d b Y c F0 S0 mc ms Q) u 11 [some (.ref (gO' Y 3)), some (.int (zI x1)), some (.int (zI x2)), some (.int (zI x3)), some (.long (zJ x4)), none, some (.int (zI x6))] [] := by
  unfold wc_Scanner_number_11B at hw
  refine h_iload hC dX8_number_11 rfl ?_
  refine h_aload_n hC dX8_number_13 rfl ?_
  refine h_get hC fl_X8_47 (hZ.w.o 3 (by decide)) rfl dX8_number_14 ?_
  refine yr_size (j := 0) (e := ((yz A0 0 : Nat) : Int)) hC hr ho hZ (by decide) rfl cl_X8_62 rfl (Nat.le_of_ble_eq_true rfl) (hFr_of (Nat.le_of_ble_eq_true rfl) (Nat.le_of_ble_eq_true rfl)) dX8_number_17 ?_
  refine yr_icmp_ge (tgt := 100) hC Rx6 (hZ.rz (j := 0) (by decide)) dX8_number_20 (by decide) (fun c1 => ?_) (fun c1 => ?_)
  · have h2 := hw.1 c1
    refine h_lv (lv' := [some (.ref (gO' Y 3)), some (.int (zI x1)), some (.int (zI x2)), none, some (.long (zJ x4)), none, none]) ⟨rfl, rfl, rfl, rfl, trivial⟩ ?_
    exact cj_Scanner_number_100 hC hr  Rx1 Rx2 Rx4 ho hZ h2
  · have h3 := hw.2 c1
    refine h_aload_n hC dX8_number_23 rfl ?_
    refine h_get hC fl_X8_39 (hZ.w.o 3 (by decide)) rfl dX8_number_24 ?_
    refine yr_sv (e := (yv A0 8)) hZ 8 rfl ?_
    refine h_aload_n hC dX8_number_27 rfl ?_
    refine h_get hC fl_X8_47 (hZ.w.o 3 (by decide)) rfl dX8_number_28 ?_
    refine yr_size (j := 0) (e := ((yz A0 0 : Nat) : Int)) hC hr ho hZ (by decide) rfl cl_X8_62 rfl (Nat.le_of_ble_eq_true rfl) (hFr_of (Nat.le_of_ble_eq_true rfl) (Nat.le_of_ble_eq_true rfl)) dX8_number_31 ?_
    refine yr_icmp_ge (tgt := 100) hC (hZ.rv 8) (hZ.rz (j := 0) (by decide)) dX8_number_34 (by decide) (fun c4 => ?_) (fun c4 => ?_)
    · have h5 := h3.1 c4
      refine h_lv (lv' := [some (.ref (gO' Y 3)), some (.int (zI x1)), some (.int (zI x2)), none, some (.long (zJ x4)), none, none]) ⟨rfl, rfl, rfl, rfl, trivial⟩ ?_
      exact cj_Scanner_number_100 hC hr  Rx1 Rx2 Rx4 ho hZ h5
    · have h6 := h3.2 c4
      refine h_aload_n hC dX8_number_37 rfl ?_
      refine h_get hC fl_X8_47 (hZ.w.o 3 (by decide)) rfl dX8_number_38 ?_
      refine h_aload_n hC dX8_number_41 rfl ?_
      refine h_get hC fl_X8_39 (hZ.w.o 3 (by decide)) rfl dX8_number_42 ?_
      refine yr_sv (e := (yv A0 8)) hZ 8 rfl ?_
      refine yr_get (j := 0) (e := (yget A0 0 (yv A0 8))) hC hr ho hZ (by decide) (hZ.rv 8) rfl cl_X8_88 rfl (Nat.le_of_ble_eq_true rfl) (hFr_of (Nat.le_of_ble_eq_true rfl) (Nat.le_of_ble_eq_true rfl)) dX8_number_45 ?_
      refine yr_callSi (As := [.int (zI (yget A0 0 (yv A0 8)))]) hC hr ho hZ (cm_Scanner_digitOf X.la d b (hZ.rg 0 _) hZ.rs h6) cl_X8_150 rfl rfl (Nat.le_of_ble_eq_true rfl) (hFr_of (Nat.le_of_ble_eq_true rfl) (Nat.le_of_ble_eq_true rfl)) dX8_number_48 (fun r7 A8 u9 S10 R11 o12 hZ13 h14 => ?_)
      refine h_iload_n hC dX8_number_51 rfl ?_
      refine yr_icmp_ge (tgt := 100) hC R11 Rx3 dX8_number_52 (by decide) (fun c15 => ?_) (fun c15 => ?_)
      · have h16 := h14.1 c15
        refine h_lv (lv' := [some (.ref (gO' Y 3)), some (.int (zI x1)), some (.int (zI x2)), none, some (.long (zJ x4)), none, none]) ⟨rfl, rfl, rfl, rfl, trivial⟩ ?_
        exact cj_Scanner_number_100 hC hr  Rx1 Rx2 Rx4 o12 hZ13 h16
      · have h17 := h14.2 c15
        refine h_lload hC dX8_number_55 rfl ?_
        refine h_iload_n hC dX8_number_57 rfl ?_
        refine yr_i2l hC dX8_number_58 Rx3 ?_
        refine yr_lmul hC dX8_number_59 ?_
        refine h_aload_n hC dX8_number_60 rfl ?_
        refine h_get hC fl_X8_47 (hZ13.w.o 3 (by decide)) rfl dX8_number_61 ?_
        refine h_aload_n hC dX8_number_64 rfl ?_
        refine h_get hC fl_X8_39 (hZ13.w.o 3 (by decide)) rfl dX8_number_65 ?_
        refine yr_sv (e := (yv A8 8)) hZ13 8 rfl ?_
        refine yr_get (j := 0) (e := (yget A8 0 (yv A8 8))) hC hr o12 hZ13 (by decide) (hZ13.rv 8) rfl cl_X8_88 rfl (Nat.le_of_ble_eq_true rfl) (hFr_of (Nat.le_of_ble_eq_true rfl) (Nat.le_of_ble_eq_true rfl)) dX8_number_68 ?_
        refine yr_callSi (As := [.int (zI (yget A8 0 (yv A8 8)))]) hC hr o12 hZ13 (cm_Scanner_digitOf X.la d b (hZ13.rg 0 _) hZ13.rs h17) cl_X8_150 rfl rfl (Nat.le_of_ble_eq_true rfl) (hFr_of (Nat.le_of_ble_eq_true rfl) (Nat.le_of_ble_eq_true rfl)) dX8_number_71 (fun r18 A19 u20 S21 R22 o23 hZ24 h25 => ?_)
        refine yr_i2l hC dX8_number_74 R22 ?_
        refine yr_ladd hC dX8_number_75 ?_
        refine yr_ldc2 (e := 1099511627776) hC dX8_number_76 kw_915 (by decide) ?_
        obtain ⟨o26, h27⟩ := h25
        refine yr_minl hC hr o23 kw_916 rfl ⟨Nat.le_of_ble_eq_true rfl, Nat.le_of_ble_eq_true rfl⟩ (Nat.le_of_ble_eq_true rfl) dX8_number_79 o26 (by decide) ?_
        refine h_lstore (lv' := [some (.ref (gO' Y 3)), some (.int (zI x1)), some (.int (zI x2)), some (.int (zI x3)), some (.long (zJ (min ((x4 * x3) + r18) 1099511627776))), none, some (.int (zI x6))]) hC dX8_number_82 (Nat.le_of_ble_eq_true rfl) rfl rfl ?_
        refine h_aload_n hC dX8_number_84 rfl ?_
        refine h_dup hC dX8_number_85 rfl ?_
        refine h_get hC fl_X8_39 (hZ24.w.o 3 (by decide)) rfl dX8_number_86 ?_
        refine yr_sv (e := (yv A19 8)) hZ24 8 rfl ?_
        refine h_iconst (v := zI 1) hC dX8_number_89 rfl ?_
        refine yr_iadd hC dX8_number_90 ?_
        obtain ⟨o28, h29⟩ := h27
        refine hi_putx (i := 3) (kx := 8) hC hZ24.hi (by decide) fl_X8_39 rfl rfl rfl (Nat.le_of_ble_eq_true rfl) rfl gsame_8 (fun q => absurd q (by decide)) dX8_number_91 (fun F30 S31 I32 K33 s34 v35 p36 => ?_)
        have hZ37 := hZ24.put I32 K33 s34 v35 o28 rfl
        clear I32 K33 s34 v35 p36
        refine yr_nu o23 hZ37 (fun u38 o39 hZ40 => ?_)
        refine yr_iinc (x := x6) (lv' := [some (.ref (gO' Y 3)), some (.int (zI x1)), some (.int (zI x2)), some (.int (zI x3)), some (.long (zJ (min ((x4 * x3) + r18) 1099511627776))), none, some (.int (zI (x6 + 1)))]) hC dX8_number_94 rfl rfl rfl ?_
        refine h_goto (tgt := 11) hC dX8_number_97 (by decide) ?_
        obtain ⟨o41, h42⟩ := h29
        exact hk11 _ _ _ _ _ _ _ _ Rx1 Rx2 Rx3 (y_minL o26 (by decide)) o41 o39 hZ40 h42
theorem cl_Scanner_number_11 {X : gX} {d : gD} {b : Nat} {Y : gYt} {c : Nat × Nat} {F0 : gM} {S0 : gSt} {mc ms : Nat} (hC : gC RX8 cX8_number 7 none "number" (gR 4 mc ms) d b X) (hr : hRm X b) {Q : cS → Prop}   : ∀ (m : Nat) (u : hU) (S : gSt) (A0 : cS) (x1 : Int) (x2 : Int) (x3 : Int) (x4 : Int) (x6 : Int), zR x1 → zR x2 → zR x3 → zL x4 → zR x6 → yOk X b u → yZ d b Y c F0 S0 u S A0 → wc_Scanner_number_11 Q  m A0 x1 x2 x3 x4 x6 → yG X d b (yQv X d b Y c F0 S0 mc ms Q) u 11 [some (.ref (gO' Y 3)), some (.int (zI x1)), some (.int (zI x2)), some (.int (zI x3)), some (.long (zJ x4)), none, some (.int (zI x6))] [] := by
  intro m
  induction m with
  | zero => intro u S A0 x1 x2 x3 x4 x6 Rx1 Rx2 Rx3 Rx4 Rx6 ho hZ hw; exact False.elim hw
  | succ m ihm => intro u S A0 x1 x2 x3 x4 x6 Rx1 Rx2 Rx3 Rx4 Rx6 ho hZ hw; exact cb_Scanner_number_11 hC hr  ihm Rx1 Rx2 Rx3 Rx4 Rx6 ho hZ hw
set_option maxHeartbeats 4000000 in
set_option maxRecDepth 100000 in
theorem cm_Scanner_number (l : Launch) (d : gD) (b : Nat) {Y : gYt} {c : Nat × Nat} {F : gM} {k n : Nat} {S : gSt} {A0 : cS} {a0 : Int} {a1 : Int} {a2 : Int} (Ra0 : zR a0) (Ra1 : zR a1) (Ra2 : zR a2) {Q : cS → Prop} (hZ : yZ d b Y c F S (F, k, n) S A0) (hw : wc_Scanner_number A0 a0 a1 a2 Q) : hMv l d b yX8_number cX8_number 7 4 k n F [.ref (gO' Y 3), .int (zI a0), .int (zI a1), .int (zI a2)] (yPv d b Y c F S Q) := by
  intro mc ms
  refine hM_of2 rfl (nL := 7) (Nat.le_of_ble_eq_true rfl) ?_
  intro X hX hC hr ho; subst hX
  show yG X d b (yQv X d b Y c F S mc ms Q) (F, k, n) 0 [some (.ref (gO' Y 3)), some (.int (zI a0)), some (.int (zI a1)), some (.int (zI a2)), none, none, none] []
  unfold wc_Scanner_number at hw
  refine h_lconst (v := zJ 0) hC dX8_number_0 rfl ?_
  refine h_lstore (lv' := [some (.ref (gO' Y 3)), some (.int (zI a0)), some (.int (zI a1)), some (.int (zI a2)), some (.long (zJ 0)), none, none]) hC dX8_number_1 (Nat.le_of_ble_eq_true rfl) rfl rfl ?_
  refine h_aload_n hC dX8_number_3 rfl ?_
  refine h_iload_n hC dX8_number_4 rfl ?_
  refine hi_putx (i := 3) (kx := 8) hC hZ.hi (by decide) fl_X8_39 rfl rfl rfl (Nat.le_of_ble_eq_true rfl) rfl gsame_8 (fun q => absurd q (by decide)) dX8_number_5 (fun F1 S2 I3 K4 s5 v6 p7 => ?_)
  have hZ8 := hZ.put I3 K4 s5 v6 Ra1 rfl
  clear I3 K4 s5 v6 p7
  refine yr_nu ho hZ8 (fun u9 o10 hZ11 => ?_)
  refine h_iconst (v := zI 0) hC dX8_number_8 rfl ?_
  refine h_istore (lv' := [some (.ref (gO' Y 3)), some (.int (zI a0)), some (.int (zI a1)), some (.int (zI a2)), some (.long (zJ 0)), none, some (.int (zI 0))]) hC dX8_number_9 (Nat.le_of_ble_eq_true rfl) rfl rfl ?_
  obtain ⟨m12, h13⟩ := hw
  exact cl_Scanner_number_11 hC hr  m12 _ _ _ _ _ _ _ _ Ra0 Ra1 Ra2 (by decide) (by decide) o10 hZ11 h13
theorem dX8_quoted_0 : decode cX8_quoted 0 = .ok (.aload_n 0, 1) := by decide +kernel
theorem dX8_quoted_1 : decode cX8_quoted 1 = .ok (.getfield 47, 3) := by decide +kernel
theorem dX8_quoted_4 : decode cX8_quoted 4 = .ok (.aload_n 0, 1) := by decide +kernel
theorem dX8_quoted_5 : decode cX8_quoted 5 = .ok (.getfield 39, 3) := by decide +kernel
theorem dX8_quoted_8 : decode cX8_quoted 8 = .ok (.invokevirtual 88, 3) := by decide +kernel
theorem dX8_quoted_11 : decode cX8_quoted 11 = .ok (.istore_n 2, 1) := by decide +kernel
theorem dX8_quoted_12 : decode cX8_quoted 12 = .ok (.aload_n 0, 1) := by decide +kernel
theorem dX8_quoted_13 : decode cX8_quoted 13 = .ok (.dup, 1) := by decide +kernel
theorem dX8_quoted_14 : decode cX8_quoted 14 = .ok (.getfield 39, 3) := by decide +kernel
theorem dX8_quoted_17 : decode cX8_quoted 17 = .ok (.iconst 1, 1) := by decide +kernel
theorem dX8_quoted_18 : decode cX8_quoted 18 = .ok (.iadd, 1) := by decide +kernel
theorem dX8_quoted_19 : decode cX8_quoted 19 = .ok (.putfield 39, 3) := by decide +kernel
theorem dX8_quoted_22 : decode cX8_quoted 22 = .ok (.iload_n 2, 1) := by decide +kernel
theorem dX8_quoted_23 : decode cX8_quoted 23 = .ok (.bipush 42, 2) := by decide +kernel
theorem dX8_quoted_25 : decode cX8_quoted 25 = .ok (.if_icmp .eq 26, 3) := by decide +kernel
theorem dX8_quoted_28 : decode cX8_quoted 28 = .ok (.iload_n 2, 1) := by decide +kernel
theorem dX8_quoted_29 : decode cX8_quoted 29 = .ok (.bipush 32, 2) := by decide +kernel
theorem dX8_quoted_31 : decode cX8_quoted 31 = .ok (.if_icmp .lt 14, 3) := by decide +kernel
theorem dX8_quoted_34 : decode cX8_quoted 34 = .ok (.iload_n 2, 1) := by decide +kernel
theorem dX8_quoted_35 : decode cX8_quoted 35 = .ok (.bipush 126, 2) := by decide +kernel
theorem dX8_quoted_37 : decode cX8_quoted 37 = .ok (.if_icmp .gt 8, 3) := by decide +kernel
theorem dX8_quoted_40 : decode cX8_quoted 40 = .ok (.iload_n 2, 1) := by decide +kernel
theorem dX8_quoted_41 : decode cX8_quoted 41 = .ok (.iload_n 1, 1) := by decide +kernel
theorem dX8_quoted_42 : decode cX8_quoted 42 = .ok (.if_icmp .ne 7, 3) := by decide +kernel
theorem dX8_quoted_45 : decode cX8_quoted 45 = .ok (.iconst (-1), 1) := by decide +kernel
theorem dX8_quoted_46 : decode cX8_quoted 46 = .ok (.goto 4, 3) := by decide +kernel
theorem dX8_quoted_49 : decode cX8_quoted 49 = .ok (.iload_n 2, 1) := by decide +kernel
theorem dX8_quoted_50 : decode cX8_quoted 50 = .ok (.ireturn, 1) := by decide +kernel
theorem dX8_quoted_51 : decode cX8_quoted 51 = .ok (.aload_n 0, 1) := by decide +kernel
theorem dX8_quoted_52 : decode cX8_quoted 52 = .ok (.getfield 47, 3) := by decide +kernel
theorem dX8_quoted_55 : decode cX8_quoted 55 = .ok (.aload_n 0, 1) := by decide +kernel
theorem dX8_quoted_56 : decode cX8_quoted 56 = .ok (.getfield 39, 3) := by decide +kernel
theorem dX8_quoted_59 : decode cX8_quoted 59 = .ok (.invokevirtual 88, 3) := by decide +kernel
theorem dX8_quoted_62 : decode cX8_quoted 62 = .ok (.istore_n 3, 1) := by decide +kernel
theorem dX8_quoted_63 : decode cX8_quoted 63 = .ok (.aload_n 0, 1) := by decide +kernel
theorem dX8_quoted_64 : decode cX8_quoted 64 = .ok (.dup, 1) := by decide +kernel
theorem dX8_quoted_65 : decode cX8_quoted 65 = .ok (.getfield 39, 3) := by decide +kernel
theorem dX8_quoted_68 : decode cX8_quoted 68 = .ok (.iconst 1, 1) := by decide +kernel
theorem dX8_quoted_69 : decode cX8_quoted 69 = .ok (.iadd, 1) := by decide +kernel
theorem dX8_quoted_70 : decode cX8_quoted 70 = .ok (.putfield 39, 3) := by decide +kernel
theorem dX8_quoted_73 : decode cX8_quoted 73 = .ok (.iload_n 3, 1) := by decide +kernel
theorem dX8_quoted_74 : decode cX8_quoted 74 = .ok (.lookupswitch 69 #[(34, 67), (39, 67), (42, 67), (78, 58), (83, 61), (84, 64)], 58) := by decide +kernel
theorem dX8_quoted_132 : decode cX8_quoted 132 = .ok (.bipush 10, 2) := by decide +kernel
theorem dX8_quoted_134 : decode cX8_quoted 134 = .ok (.ireturn, 1) := by decide +kernel
theorem dX8_quoted_135 : decode cX8_quoted 135 = .ok (.bipush 32, 2) := by decide +kernel
theorem dX8_quoted_137 : decode cX8_quoted 137 = .ok (.ireturn, 1) := by decide +kernel
theorem dX8_quoted_138 : decode cX8_quoted 138 = .ok (.bipush 9, 2) := by decide +kernel
theorem dX8_quoted_140 : decode cX8_quoted 140 = .ok (.ireturn, 1) := by decide +kernel
theorem dX8_quoted_141 : decode cX8_quoted 141 = .ok (.iload_n 3, 1) := by decide +kernel
theorem dX8_quoted_142 : decode cX8_quoted 142 = .ok (.ireturn, 1) := by decide +kernel
theorem dX8_quoted_143 : decode cX8_quoted 143 = .ok (.iconst (-1), 1) := by decide +kernel
theorem dX8_quoted_144 : decode cX8_quoted 144 = .ok (.ireturn, 1) := by decide +kernel
def wc_Scanner_quoted (A0 : cS) (a0 : Int) (Q : Int → cS → Prop) : Prop :=
  (zR ((yv A0 8) + 1)) ∧ (((yget A0 0 (yv A0 8)) = 42 → (zR (((yv A0 8) + 1) + 1)) ∧ ((((yget A0 0 ((yv A0 8) + 1)) = 34 ∨ (yget A0 0 ((yv A0 8) + 1)) = 39 ∨ (yget A0 0 ((yv A0 8) + 1)) = 42) → Q (yget A0 0 ((yv A0 8) + 1)) (ypv (ypv A0 8 ((yv A0 8) + 1)) 8 (((yv A0 8) + 1) + 1))) ∧ (((yget A0 0 ((yv A0 8) + 1)) = 78) → Q 10 (ypv (ypv A0 8 ((yv A0 8) + 1)) 8 (((yv A0 8) + 1) + 1))) ∧ (((yget A0 0 ((yv A0 8) + 1)) = 83) → Q 32 (ypv (ypv A0 8 ((yv A0 8) + 1)) 8 (((yv A0 8) + 1) + 1))) ∧ (((yget A0 0 ((yv A0 8) + 1)) = 84) → Q 9 (ypv (ypv A0 8 ((yv A0 8) + 1)) 8 (((yv A0 8) + 1) + 1))) ∧ (¬ ((yget A0 0 ((yv A0 8) + 1)) = 34 ∨ (yget A0 0 ((yv A0 8) + 1)) = 39 ∨ (yget A0 0 ((yv A0 8) + 1)) = 42) → ¬ ((yget A0 0 ((yv A0 8) + 1)) = 78) → ¬ ((yget A0 0 ((yv A0 8) + 1)) = 83) → ¬ ((yget A0 0 ((yv A0 8) + 1)) = 84) → Q (-1) (ypv (ypv A0 8 ((yv A0 8) + 1)) 8 (((yv A0 8) + 1) + 1))))) ∧ (¬ (yget A0 0 (yv A0 8)) = 42 → (((yget A0 0 (yv A0 8)) < 32 → Q (-1) (ypv A0 8 ((yv A0 8) + 1))) ∧ (¬ (yget A0 0 (yv A0 8)) < 32 → ((126 < (yget A0 0 (yv A0 8)) → Q (-1) (ypv A0 8 ((yv A0 8) + 1))) ∧ (¬ 126 < (yget A0 0 (yv A0 8)) → ((¬ (yget A0 0 (yv A0 8)) = a0 → Q (yget A0 0 (yv A0 8)) (ypv A0 8 ((yv A0 8) + 1))) ∧ ((yget A0 0 (yv A0 8)) = a0 → Q (-1) (ypv A0 8 ((yv A0 8) + 1))))))))))
set_option maxHeartbeats 4000000 in
set_option maxRecDepth 100000 in
theorem cm_Scanner_quoted (l : Launch) (d : gD) (b : Nat) {Y : gYt} {c : Nat × Nat} {F : gM} {k n : Nat} {S : gSt} {A0 : cS} {a0 : Int} (Ra0 : zR a0) {Q : Int → cS → Prop} (hZ : yZ d b Y c F S (F, k, n) S A0) (hw : wc_Scanner_quoted A0 a0 Q) : hMi l d b yX8_quoted cX8_quoted 4 .int 1 k n F [.ref (gO' Y 3), .int (zI a0)] (yPi d b Y c F S Q) := by
  intro mc ms
  refine hM_of2 rfl (nL := 4) (Nat.le_of_ble_eq_true rfl) ?_
  intro X hX hC hr ho; subst hX
  show yG X d b (yQi X d b Y c F S mc ms Q) (F, k, n) 0 [some (.ref (gO' Y 3)), some (.int (zI a0)), none, none] []
  unfold wc_Scanner_quoted at hw
  refine h_aload_n hC dX8_quoted_0 rfl ?_
  refine h_get hC fl_X8_47 (hZ.w.o 3 (by decide)) rfl dX8_quoted_1 ?_
  refine h_aload_n hC dX8_quoted_4 rfl ?_
  refine h_get hC fl_X8_39 (hZ.w.o 3 (by decide)) rfl dX8_quoted_5 ?_
  refine yr_sv (e := (yv A0 8)) hZ 8 rfl ?_
  refine yr_get (j := 0) (e := (yget A0 0 (yv A0 8))) hC hr ho hZ (by decide) (hZ.rv 8) rfl cl_X8_88 rfl (Nat.le_of_ble_eq_true rfl) (hFr_of (Nat.le_of_ble_eq_true rfl) (Nat.le_of_ble_eq_true rfl)) dX8_quoted_8 ?_
  refine h_istore_n (lv' := [some (.ref (gO' Y 3)), some (.int (zI a0)), some (.int (zI (yget A0 0 (yv A0 8)))), none]) hC dX8_quoted_11 (Nat.le_of_ble_eq_true rfl) rfl rfl ?_
  refine h_aload_n hC dX8_quoted_12 rfl ?_
  refine h_dup hC dX8_quoted_13 rfl ?_
  refine h_get hC fl_X8_39 (hZ.w.o 3 (by decide)) rfl dX8_quoted_14 ?_
  refine yr_sv (e := (yv A0 8)) hZ 8 rfl ?_
  refine h_iconst (v := zI 1) hC dX8_quoted_17 rfl ?_
  refine yr_iadd hC dX8_quoted_18 ?_
  obtain ⟨o1, h2⟩ := hw
  refine hi_putx (i := 3) (kx := 8) hC hZ.hi (by decide) fl_X8_39 rfl rfl rfl (Nat.le_of_ble_eq_true rfl) rfl gsame_8 (fun q => absurd q (by decide)) dX8_quoted_19 (fun F3 S4 I5 K6 s7 v8 p9 => ?_)
  have hZ10 := hZ.put I5 K6 s7 v8 o1 rfl
  clear I5 K6 s7 v8 p9
  refine yr_nu ho hZ10 (fun u11 o12 hZ13 => ?_)
  refine h_iload_n hC dX8_quoted_22 rfl ?_
  refine h_bipush (v := zI 42) hC dX8_quoted_23 rfl ?_
  refine yr_icmp_eq (tgt := 51) hC (hZ.rg 0 _) (by decide) dX8_quoted_25 (by decide) (fun c14 => ?_) (fun c14 => ?_)
  · have h15 := h2.1 c14
    refine h_aload_n hC dX8_quoted_51 rfl ?_
    refine h_get hC fl_X8_47 (hZ13.w.o 3 (by decide)) rfl dX8_quoted_52 ?_
    refine h_aload_n hC dX8_quoted_55 rfl ?_
    refine h_get hC fl_X8_39 (hZ13.w.o 3 (by decide)) rfl dX8_quoted_56 ?_
    refine yr_sv (e := ((yv A0 8) + 1)) hZ13 8 rfl ?_
    refine yr_get (j := 0) (e := (yget A0 0 ((yv A0 8) + 1))) hC hr o12 hZ13 (by decide) o1 rfl cl_X8_88 rfl (Nat.le_of_ble_eq_true rfl) (hFr_of (Nat.le_of_ble_eq_true rfl) (Nat.le_of_ble_eq_true rfl)) dX8_quoted_59 ?_
    refine h_istore_n (lv' := [some (.ref (gO' Y 3)), some (.int (zI a0)), some (.int (zI (yget A0 0 (yv A0 8)))), some (.int (zI (yget A0 0 ((yv A0 8) + 1))))]) hC dX8_quoted_62 (Nat.le_of_ble_eq_true rfl) rfl rfl ?_
    refine h_aload_n hC dX8_quoted_63 rfl ?_
    refine h_dup hC dX8_quoted_64 rfl ?_
    refine h_get hC fl_X8_39 (hZ13.w.o 3 (by decide)) rfl dX8_quoted_65 ?_
    refine yr_sv (e := ((yv A0 8) + 1)) hZ13 8 rfl ?_
    refine h_iconst (v := zI 1) hC dX8_quoted_68 rfl ?_
    refine yr_iadd hC dX8_quoted_69 ?_
    obtain ⟨o16, h17⟩ := h15
    refine hi_putx (i := 3) (kx := 8) hC hZ13.hi (by decide) fl_X8_39 rfl rfl rfl (Nat.le_of_ble_eq_true rfl) rfl gsame_8 (fun q => absurd q (by decide)) dX8_quoted_70 (fun F18 S19 I20 K21 s22 v23 p24 => ?_)
    have hZ25 := hZ13.put I20 K21 s22 v23 o16 rfl
    clear I20 K21 s22 v23 p24
    refine yr_nu o12 hZ25 (fun u26 o27 hZ28 => ?_)
    refine h_iload_n hC dX8_quoted_73 rfl ?_
    by_cases g29 : (yget A0 0 ((yv A0 8) + 1)) = 34 ∨ (yget A0 0 ((yv A0 8) + 1)) = 39 ∨ (yget A0 0 ((yv A0 8) + 1)) = 42
    · have h31 := (h17.1) g29
      have T30 : yG X d b (yQi X d b Y c F S mc ms Q) u26 141 [some (.ref (gO' Y 3)), some (.int (zI a0)), some (.int (zI (yget A0 0 (yv A0 8)))), some (.int (zI (yget A0 0 ((yv A0 8) + 1))))] [] := by
        refine h_iload_n hC dX8_quoted_141 rfl ?_
        exact yr_iret hC hr o27 hZ28 (hZ13.rg 0 _) h31 dX8_quoted_142
      clear h31
      rcases g29 with e1 | e1 | e1
      · exact zr_lokAt (v := 34) hC dX8_quoted_74 (hZ13.rg 0 _) (by decide) e1 rfl (by decide) T30
      · exact zr_lokAt (v := 39) hC dX8_quoted_74 (hZ13.rg 0 _) (by decide) e1 rfl (by decide) T30
      · exact zr_lokAt (v := 42) hC dX8_quoted_74 (hZ13.rg 0 _) (by decide) e1 rfl (by decide) T30
    · skip
      by_cases g32 : (yget A0 0 ((yv A0 8) + 1)) = 78
      · have h34 := (h17.2.1) g32
        have T33 : yG X d b (yQi X d b Y c F S mc ms Q) u26 132 [some (.ref (gO' Y 3)), some (.int (zI a0)), some (.int (zI (yget A0 0 (yv A0 8)))), some (.int (zI (yget A0 0 ((yv A0 8) + 1))))] [] := by
          refine h_bipush (v := zI 10) hC dX8_quoted_132 rfl ?_
          exact yr_iret hC hr o27 hZ28 (by decide) h34 dX8_quoted_134
        clear h34
        exact yr_lokAt (v := 78) hC dX8_quoted_74 (hZ13.rg 0 _) (by decide) g32 rfl (by decide) T33
      · skip
        by_cases g35 : (yget A0 0 ((yv A0 8) + 1)) = 83
        · have h37 := (h17.2.2.1) g35
          have T36 : yG X d b (yQi X d b Y c F S mc ms Q) u26 135 [some (.ref (gO' Y 3)), some (.int (zI a0)), some (.int (zI (yget A0 0 (yv A0 8)))), some (.int (zI (yget A0 0 ((yv A0 8) + 1))))] [] := by
            refine h_bipush (v := zI 32) hC dX8_quoted_135 rfl ?_
            exact yr_iret hC hr o27 hZ28 (by decide) h37 dX8_quoted_137
          clear h37
          exact yr_lokAt (v := 83) hC dX8_quoted_74 (hZ13.rg 0 _) (by decide) g35 rfl (by decide) T36
        · skip
          by_cases g38 : (yget A0 0 ((yv A0 8) + 1)) = 84
          · have h40 := (h17.2.2.2.1) g38
            have T39 : yG X d b (yQi X d b Y c F S mc ms Q) u26 138 [some (.ref (gO' Y 3)), some (.int (zI a0)), some (.int (zI (yget A0 0 (yv A0 8)))), some (.int (zI (yget A0 0 ((yv A0 8) + 1))))] [] := by
              refine h_bipush (v := zI 9) hC dX8_quoted_138 rfl ?_
              exact yr_iret hC hr o27 hZ28 (by decide) h40 dX8_quoted_140
            clear h40
            exact yr_lokAt (v := 84) hC dX8_quoted_74 (hZ13.rg 0 _) (by decide) g38 rfl (by decide) T39
          · skip
            have h41 := h17.2.2.2.2 g29 g32 g35 g38
            refine yr_lokD (tgt := 143) hC dX8_quoted_74 (hZ13.rg 0 _) (by decide) (List.forall_mem_cons.mpr ⟨(fun q => g29 (Or.inl q)), List.forall_mem_cons.mpr ⟨(fun q => g29 (Or.inr (Or.inl q))), List.forall_mem_cons.mpr ⟨(fun q => g29 (Or.inr (Or.inr (q)))), List.forall_mem_cons.mpr ⟨(fun q => g32 (q)), List.forall_mem_cons.mpr ⟨(fun q => g35 (q)), List.forall_mem_cons.mpr ⟨(fun q => g38 (q)), fun q hq => absurd hq List.not_mem_nil⟩⟩⟩⟩⟩⟩) (by decide) ?_
            refine h_iconst (v := zI (-1)) hC dX8_quoted_143 rfl ?_
            exact yr_iret hC hr o27 hZ28 (by decide) h41 dX8_quoted_144
  · have h42 := h2.2 c14
    refine h_iload_n hC dX8_quoted_28 rfl ?_
    refine h_bipush (v := zI 32) hC dX8_quoted_29 rfl ?_
    refine yr_icmp_lt (tgt := 45) hC (hZ.rg 0 _) (by decide) dX8_quoted_31 (by decide) (fun c43 => ?_) (fun c43 => ?_)
    · have h44 := h42.1 c43
      refine h_iconst (v := zI (-1)) hC dX8_quoted_45 rfl ?_
      refine h_goto (tgt := 50) hC dX8_quoted_46 (by decide) ?_
      exact yr_iret hC hr o12 hZ13 (by decide) h44 dX8_quoted_50
    · have h45 := h42.2 c43
      refine h_iload_n hC dX8_quoted_34 rfl ?_
      refine h_bipush (v := zI 126) hC dX8_quoted_35 rfl ?_
      refine yr_icmp_gt (tgt := 45) hC (hZ.rg 0 _) (by decide) dX8_quoted_37 (by decide) (fun c46 => ?_) (fun c46 => ?_)
      · have h47 := h45.1 c46
        refine h_iconst (v := zI (-1)) hC dX8_quoted_45 rfl ?_
        refine h_goto (tgt := 50) hC dX8_quoted_46 (by decide) ?_
        exact yr_iret hC hr o12 hZ13 (by decide) h47 dX8_quoted_50
      · have h48 := h45.2 c46
        refine h_iload_n hC dX8_quoted_40 rfl ?_
        refine h_iload_n hC dX8_quoted_41 rfl ?_
        refine yr_icmp_ne (tgt := 49) hC (hZ.rg 0 _) Ra0 dX8_quoted_42 (by decide) (fun c49 => ?_) (fun c49 => ?_)
        · have h50 := h48.1 c49
          refine h_iload_n hC dX8_quoted_49 rfl ?_
          exact yr_iret hC hr o12 hZ13 (hZ.rg 0 _) h50 dX8_quoted_50
        · have h51 := h48.2 c49
          refine h_iconst (v := zI (-1)) hC dX8_quoted_45 rfl ?_
          refine h_goto (tgt := 50) hC dX8_quoted_46 (by decide) ?_
          exact yr_iret hC hr o12 hZ13 (by decide) h51 dX8_quoted_50
theorem dX8_string_0 : decode cX8_string 0 = .ok (.aload_n 0, 1) := by decide +kernel
theorem dX8_string_1 : decode cX8_string 1 = .ok (.getfield 27, 3) := by decide +kernel
theorem dX8_string_4 : decode cX8_string 4 = .ok (.invokevirtual 62, 3) := by decide +kernel
theorem dX8_string_7 : decode cX8_string 7 = .ok (.istore_n 2, 1) := by decide +kernel
theorem dX8_string_8 : decode cX8_string 8 = .ok (.aload_n 0, 1) := by decide +kernel
theorem dX8_string_9 : decode cX8_string 9 = .ok (.getfield 27, 3) := by decide +kernel
theorem dX8_string_12 : decode cX8_string 12 = .ok (.iconst 0, 1) := by decide +kernel
theorem dX8_string_13 : decode cX8_string 13 = .ok (.invokevirtual 85, 3) := by decide +kernel
theorem dX8_string_16 : decode cX8_string 16 = .ok (.aload_n 0, 1) := by decide +kernel
theorem dX8_string_17 : decode cX8_string 17 = .ok (.dup, 1) := by decide +kernel
theorem dX8_string_18 : decode cX8_string 18 = .ok (.getfield 39, 3) := by decide +kernel
theorem dX8_string_21 : decode cX8_string 21 = .ok (.iconst 1, 1) := by decide +kernel
theorem dX8_string_22 : decode cX8_string 22 = .ok (.iadd, 1) := by decide +kernel
theorem dX8_string_23 : decode cX8_string 23 = .ok (.putfield 39, 3) := by decide +kernel
theorem dX8_string_26 : decode cX8_string 26 = .ok (.iconst 0, 1) := by decide +kernel
theorem dX8_string_27 : decode cX8_string 27 = .ok (.istore_n 3, 1) := by decide +kernel
theorem dX8_string_28 : decode cX8_string 28 = .ok (.iconst 0, 1) := by decide +kernel
theorem dX8_string_29 : decode cX8_string 29 = .ok (.istore 4, 2) := by decide +kernel
theorem dX8_string_31 : decode cX8_string 31 = .ok (.iload 4, 2) := by decide +kernel
theorem dX8_string_33 : decode cX8_string 33 = .ok (.sipush 200, 3) := by decide +kernel
theorem dX8_string_36 : decode cX8_string 36 = .ok (.if_icmp .gt 44, 3) := by decide +kernel
theorem dX8_string_39 : decode cX8_string 39 = .ok (.iload_n 3, 1) := by decide +kernel
theorem dX8_string_40 : decode cX8_string 40 = .ok (.ifCond .lt 40, 3) := by decide +kernel
theorem dX8_string_43 : decode cX8_string 43 = .ok (.aload_n 0, 1) := by decide +kernel
theorem dX8_string_44 : decode cX8_string 44 = .ok (.getfield 47, 3) := by decide +kernel
theorem dX8_string_47 : decode cX8_string 47 = .ok (.aload_n 0, 1) := by decide +kernel
theorem dX8_string_48 : decode cX8_string 48 = .ok (.getfield 39, 3) := by decide +kernel
theorem dX8_string_51 : decode cX8_string 51 = .ok (.invokevirtual 88, 3) := by decide +kernel
theorem dX8_string_54 : decode cX8_string 54 = .ok (.bipush 34, 2) := by decide +kernel
theorem dX8_string_56 : decode cX8_string 56 = .ok (.if_icmp .eq 24, 3) := by decide +kernel
theorem dX8_string_59 : decode cX8_string 59 = .ok (.aload_n 0, 1) := by decide +kernel
theorem dX8_string_60 : decode cX8_string 60 = .ok (.bipush 34, 2) := by decide +kernel
theorem dX8_string_62 : decode cX8_string 62 = .ok (.invokevirtual 131, 3) := by decide +kernel
theorem dX8_string_65 : decode cX8_string 65 = .ok (.istore_n 3, 1) := by decide +kernel
theorem dX8_string_66 : decode cX8_string 66 = .ok (.aload_n 0, 1) := by decide +kernel
theorem dX8_string_67 : decode cX8_string 67 = .ok (.getfield 27, 3) := by decide +kernel
theorem dX8_string_70 : decode cX8_string 70 = .ok (.iload_n 3, 1) := by decide +kernel
theorem dX8_string_71 : decode cX8_string 71 = .ok (.invokevirtual 85, 3) := by decide +kernel
theorem dX8_string_74 : decode cX8_string 74 = .ok (.iinc 4 1, 3) := by decide +kernel
theorem dX8_string_77 : decode cX8_string 77 = .ok (.goto (-46), 3) := by decide +kernel
theorem dX8_string_80 : decode cX8_string 80 = .ok (.aload_n 0, 1) := by decide +kernel
theorem dX8_string_81 : decode cX8_string 81 = .ok (.getfield 27, 3) := by decide +kernel
theorem dX8_string_84 : decode cX8_string 84 = .ok (.invokevirtual 62, 3) := by decide +kernel
theorem dX8_string_87 : decode cX8_string 87 = .ok (.iload_n 2, 1) := by decide +kernel
theorem dX8_string_88 : decode cX8_string 88 = .ok (.isub, 1) := by decide +kernel
theorem dX8_string_89 : decode cX8_string 89 = .ok (.iconst 1, 1) := by decide +kernel
theorem dX8_string_90 : decode cX8_string 90 = .ok (.isub, 1) := by decide +kernel
theorem dX8_string_91 : decode cX8_string 91 = .ok (.istore 4, 2) := by decide +kernel
theorem dX8_string_93 : decode cX8_string 93 = .ok (.aload_n 0, 1) := by decide +kernel
theorem dX8_string_94 : decode cX8_string 94 = .ok (.getfield 27, 3) := by decide +kernel
theorem dX8_string_97 : decode cX8_string 97 = .ok (.iload_n 2, 1) := by decide +kernel
theorem dX8_string_98 : decode cX8_string 98 = .ok (.iload 4, 2) := by decide +kernel
theorem dX8_string_100 : decode cX8_string 100 = .ok (.invokevirtual 163, 3) := by decide +kernel
theorem dX8_string_103 : decode cX8_string 103 = .ok (.aload_n 0, 1) := by decide +kernel
theorem dX8_string_104 : decode cX8_string 104 = .ok (.iload_n 3, 1) := by decide +kernel
theorem dX8_string_105 : decode cX8_string 105 = .ok (.ifCond .lt 31, 3) := by decide +kernel
theorem dX8_string_108 : decode cX8_string 108 = .ok (.iload 4, 2) := by decide +kernel
theorem dX8_string_110 : decode cX8_string 110 = .ok (.sipush 200, 3) := by decide +kernel
theorem dX8_string_113 : decode cX8_string 113 = .ok (.if_icmp .gt 23, 3) := by decide +kernel
theorem dX8_string_116 : decode cX8_string 116 = .ok (.aload_n 0, 1) := by decide +kernel
theorem dX8_string_117 : decode cX8_string 117 = .ok (.getfield 47, 3) := by decide +kernel
theorem dX8_string_120 : decode cX8_string 120 = .ok (.aload_n 0, 1) := by decide +kernel
theorem dX8_string_121 : decode cX8_string 121 = .ok (.getfield 39, 3) := by decide +kernel
theorem dX8_string_124 : decode cX8_string 124 = .ok (.invokevirtual 88, 3) := by decide +kernel
theorem dX8_string_127 : decode cX8_string 127 = .ok (.bipush 34, 2) := by decide +kernel
theorem dX8_string_129 : decode cX8_string 129 = .ok (.if_icmp .ne 7, 3) := by decide +kernel
theorem dX8_string_132 : decode cX8_string 132 = .ok (.iconst 4, 1) := by decide +kernel
theorem dX8_string_133 : decode cX8_string 133 = .ok (.goto 4, 3) := by decide +kernel
theorem dX8_string_136 : decode cX8_string 136 = .ok (.iconst 1, 1) := by decide +kernel
theorem dX8_string_137 : decode cX8_string 137 = .ok (.iload_n 2, 1) := by decide +kernel
theorem dX8_string_138 : decode cX8_string 138 = .ok (.iload_n 1, 1) := by decide +kernel
theorem dX8_string_139 : decode cX8_string 139 = .ok (.invokevirtual 99, 3) := by decide +kernel
theorem dX8_string_142 : decode cX8_string 142 = .ok (.aload_n 0, 1) := by decide +kernel
theorem dX8_string_143 : decode cX8_string 143 = .ok (.dup, 1) := by decide +kernel
theorem dX8_string_144 : decode cX8_string 144 = .ok (.getfield 39, 3) := by decide +kernel
theorem dX8_string_147 : decode cX8_string 147 = .ok (.iconst 1, 1) := by decide +kernel
theorem dX8_string_148 : decode cX8_string 148 = .ok (.iadd, 1) := by decide +kernel
theorem dX8_string_149 : decode cX8_string 149 = .ok (.putfield 39, 3) := by decide +kernel
theorem dX8_string_152 : decode cX8_string 152 = .ok (.return_, 1) := by decide +kernel
def wc_Scanner_string_80 (Q : cS → Prop)  (A0 : cS) (x1 : Int) (x2 : Int) (x3 : Int) : Prop :=
  (zR ((((yz A0 17 : Nat) : Int) - x2) - 1)) ∧ ((x3 < 0 → wc_Scanner_put (yset A0 17 x2 ((((yz A0 17 : Nat) : Int) - x2) - 1)) 1 x2 x1 (fun A10 => (zR ((yv A10 8) + 1)) ∧ Q (ypv A10 8 ((yv A10 8) + 1)))) ∧ (¬ x3 < 0 → ((200 < ((((yz A0 17 : Nat) : Int) - x2) - 1) → wc_Scanner_put (yset A0 17 x2 ((((yz A0 17 : Nat) : Int) - x2) - 1)) 1 x2 x1 (fun A34 => (zR ((yv A34 8) + 1)) ∧ Q (ypv A34 8 ((yv A34 8) + 1)))) ∧ (¬ 200 < ((((yz A0 17 : Nat) : Int) - x2) - 1) → ((¬ (yget A0 0 (yv A0 8)) = 34 → wc_Scanner_put (yset A0 17 x2 ((((yz A0 17 : Nat) : Int) - x2) - 1)) 1 x2 x1 (fun A58 => (zR ((yv A58 8) + 1)) ∧ Q (ypv A58 8 ((yv A58 8) + 1)))) ∧ ((yget A0 0 (yv A0 8)) = 34 → wc_Scanner_put (yset A0 17 x2 ((((yz A0 17 : Nat) : Int) - x2) - 1)) 4 x2 x1 (fun A80 => (zR ((yv A80 8) + 1)) ∧ Q (ypv A80 8 ((yv A80 8) + 1)))))))))
def wc_Scanner_string_31B (Q : cS → Prop) (k31 : cS → Int → Int → Int → Int → Prop) (A0 : cS) (x1 : Int) (x2 : Int) (x3 : Int) (x4 : Int) : Prop :=
  ((200 < x4 → wc_Scanner_string_80 Q  A0 x1 x2 x3) ∧ (¬ 200 < x4 → ((x3 < 0 → wc_Scanner_string_80 Q  A0 x1 x2 x3) ∧ (¬ x3 < 0 → (((yget A0 0 (yv A0 8)) = 34 → wc_Scanner_string_80 Q  A0 x1 x2 x3) ∧ (¬ (yget A0 0 (yv A0 8)) = 34 → wc_Scanner_quoted A0 34 (fun r10 A11 => ((yz A11 17) < 2600) ∧ (zR (x4 + 1)) ∧ k31 (yadd A11 17 r10) x1 x2 r10 (x4 + 1))))))))
def wc_Scanner_string_31 (Q : cS → Prop)  : Nat → cS → Int → Int → Int → Int → Prop
  | 0 => fun _ _ _ _ _ => False
  | m + 1 => fun A0 x1 x2 x3 x4 => wc_Scanner_string_31B Q  (wc_Scanner_string_31 Q  m) A0 x1 x2 x3 x4
def wc_Scanner_string (A0 : cS) (a0 : Int) (Q : cS → Prop) : Prop :=
  ((yz A0 17) < 2600) ∧ (zR ((yv A0 8) + 1)) ∧ ∃ n, wc_Scanner_string_31 Q  n (ypv (yadd A0 17 0) 8 ((yv A0 8) + 1)) a0 ((yz A0 17 : Nat) : Int) 0 0
set_option maxHeartbeats 4000000 in
set_option maxRecDepth 100000 in
theorem cj_Scanner_string_80 {X : gX} {d : gD} {b : Nat} {Y : gYt} {c : Nat × Nat} {F0 : gM} {S0 : gSt} {mc ms : Nat} (hC : gC RX8 cX8_string 5 none "string" (gR 4 mc ms) d b X) (hr : hRm X b) {Q : cS → Prop}   {u : hU} {S : gSt} {A0 : cS} {x1 : Int} {x2 : Int} {x3 : Int} (Rx1 : zR x1) (Rx2 : zR x2) (Rx3 : zR x3) (ho : yOk X b u) (hZ : yZ d b Y c F0 S0 u S A0) (hw : wc_Scanner_string_80 Q  A0 x1 x2 x3) : yG X d b (yQv X d b Y c F0 S0 mc ms Q) u 80 [some (.ref (gO' Y 3)), some (.int (zI x1)), some (.int (zI x2)), some (.int (zI x3)), none] [] := by
  unfold wc_Scanner_string_80 at hw
  refine h_aload_n hC dX8_string_80 rfl ?_
  refine h_get hC fl_X8_27 (hZ.w.o 3 (by decide)) rfl dX8_string_81 ?_
  refine yr_size (j := 17) (e := ((yz A0 17 : Nat) : Int)) hC hr ho hZ (by decide) rfl cl_X8_62 rfl (Nat.le_of_ble_eq_true rfl) (hFr_of (Nat.le_of_ble_eq_true rfl) (Nat.le_of_ble_eq_true rfl)) dX8_string_84 ?_
  refine h_iload_n hC dX8_string_87 rfl ?_
  refine yr_isub hC dX8_string_88 ?_
  refine h_iconst (v := zI 1) hC dX8_string_89 rfl ?_
  refine yr_isub hC dX8_string_90 ?_
  refine h_istore (lv' := [some (.ref (gO' Y 3)), some (.int (zI x1)), some (.int (zI x2)), some (.int (zI x3)), some (.int (zI ((((yz A0 17 : Nat) : Int) - x2) - 1)))]) hC dX8_string_91 (Nat.le_of_ble_eq_true rfl) rfl rfl ?_
  refine h_aload_n hC dX8_string_93 rfl ?_
  refine h_get hC fl_X8_27 (hZ.w.o 3 (by decide)) rfl dX8_string_94 ?_
  refine h_iload_n hC dX8_string_97 rfl ?_
  refine h_iload hC dX8_string_98 rfl ?_
  obtain ⟨o5, h6⟩ := hw
  refine yr_set (j := 17) hC hr ho hZ (by decide) Rx2 o5 cl_X8_163 rfl (Nat.le_of_ble_eq_true rfl) (hFr_of (Nat.le_of_ble_eq_true rfl) (Nat.le_of_ble_eq_true rfl)) dX8_string_100 (fun u1 S2 o3 hZ4 => ?_)
  refine h_aload_n hC dX8_string_103 rfl ?_
  refine h_iload_n hC dX8_string_104 rfl ?_
  refine yr_if_lt (tgt := 136) hC Rx3 dX8_string_105 (by decide) (fun c7 => ?_) (fun c7 => ?_)
  · have h8 := h6.1 c7
    refine h_iconst (v := zI 1) hC dX8_string_136 rfl ?_
    refine h_iload_n hC dX8_string_137 rfl ?_
    refine h_iload_n hC dX8_string_138 rfl ?_
    refine yr_callVv (As := [.int (zI 1), .int (zI x2), .int (zI x1)]) hC hr o3 hZ4 rfl (hZ4.w.o 3 (by decide)) (cm_Scanner_put X.la d b (by decide) Rx2 Rx1 hZ4.rs h8) cl_X8_99 rfl rfl (Nat.le_of_ble_eq_true rfl) (hFr_of (Nat.le_of_ble_eq_true rfl) (Nat.le_of_ble_eq_true rfl)) dX8_string_139 (fun A10 u11 S12 o14 hZ15 h16 => ?_)
    refine h_aload_n hC dX8_string_142 rfl ?_
    refine h_dup hC dX8_string_143 rfl ?_
    refine h_get hC fl_X8_39 (hZ15.w.o 3 (by decide)) rfl dX8_string_144 ?_
    refine yr_sv (e := (yv A10 8)) hZ15 8 rfl ?_
    refine h_iconst (v := zI 1) hC dX8_string_147 rfl ?_
    refine yr_iadd hC dX8_string_148 ?_
    obtain ⟨o17, h18⟩ := h16
    refine hi_putx (i := 3) (kx := 8) hC hZ15.hi (by decide) fl_X8_39 rfl rfl rfl (Nat.le_of_ble_eq_true rfl) rfl gsame_8 (fun q => absurd q (by decide)) dX8_string_149 (fun F19 S20 I21 K22 s23 v24 p25 => ?_)
    have hZ26 := hZ15.put I21 K22 s23 v24 o17 rfl
    clear I21 K22 s23 v24 p25
    refine yr_nu o14 hZ26 (fun u27 o28 hZ29 => ?_)
    exact yr_vret hC hr o28 hZ29 h18 dX8_string_152
  · have h30 := h6.2 c7
    refine h_iload hC dX8_string_108 rfl ?_
    refine h_sipush (v := zI 200) hC dX8_string_110 rfl ?_
    refine yr_icmp_gt (tgt := 136) hC o5 (by decide) dX8_string_113 (by decide) (fun c31 => ?_) (fun c31 => ?_)
    · have h32 := h30.1 c31
      refine h_iconst (v := zI 1) hC dX8_string_136 rfl ?_
      refine h_iload_n hC dX8_string_137 rfl ?_
      refine h_iload_n hC dX8_string_138 rfl ?_
      refine yr_callVv (As := [.int (zI 1), .int (zI x2), .int (zI x1)]) hC hr o3 hZ4 rfl (hZ4.w.o 3 (by decide)) (cm_Scanner_put X.la d b (by decide) Rx2 Rx1 hZ4.rs h32) cl_X8_99 rfl rfl (Nat.le_of_ble_eq_true rfl) (hFr_of (Nat.le_of_ble_eq_true rfl) (Nat.le_of_ble_eq_true rfl)) dX8_string_139 (fun A34 u35 S36 o38 hZ39 h40 => ?_)
      refine h_aload_n hC dX8_string_142 rfl ?_
      refine h_dup hC dX8_string_143 rfl ?_
      refine h_get hC fl_X8_39 (hZ39.w.o 3 (by decide)) rfl dX8_string_144 ?_
      refine yr_sv (e := (yv A34 8)) hZ39 8 rfl ?_
      refine h_iconst (v := zI 1) hC dX8_string_147 rfl ?_
      refine yr_iadd hC dX8_string_148 ?_
      obtain ⟨o41, h42⟩ := h40
      refine hi_putx (i := 3) (kx := 8) hC hZ39.hi (by decide) fl_X8_39 rfl rfl rfl (Nat.le_of_ble_eq_true rfl) rfl gsame_8 (fun q => absurd q (by decide)) dX8_string_149 (fun F43 S44 I45 K46 s47 v48 p49 => ?_)
      have hZ50 := hZ39.put I45 K46 s47 v48 o41 rfl
      clear I45 K46 s47 v48 p49
      refine yr_nu o38 hZ50 (fun u51 o52 hZ53 => ?_)
      exact yr_vret hC hr o52 hZ53 h42 dX8_string_152
    · have h54 := h30.2 c31
      refine h_aload_n hC dX8_string_116 rfl ?_
      refine h_get hC fl_X8_47 (hZ4.w.o 3 (by decide)) rfl dX8_string_117 ?_
      refine h_aload_n hC dX8_string_120 rfl ?_
      refine h_get hC fl_X8_39 (hZ4.w.o 3 (by decide)) rfl dX8_string_121 ?_
      refine yr_sv (e := (yv A0 8)) hZ4 8 rfl ?_
      refine yr_get (j := 0) (e := (yget A0 0 (yv A0 8))) hC hr o3 hZ4 (by decide) (hZ.rv 8) rfl cl_X8_88 rfl (Nat.le_of_ble_eq_true rfl) (hFr_of (Nat.le_of_ble_eq_true rfl) (Nat.le_of_ble_eq_true rfl)) dX8_string_124 ?_
      refine h_bipush (v := zI 34) hC dX8_string_127 rfl ?_
      refine yr_icmp_ne (tgt := 136) hC (hZ4.rg 0 _) (by decide) dX8_string_129 (by decide) (fun c55 => ?_) (fun c55 => ?_)
      · have h56 := h54.1 c55
        refine h_iconst (v := zI 1) hC dX8_string_136 rfl ?_
        refine h_iload_n hC dX8_string_137 rfl ?_
        refine h_iload_n hC dX8_string_138 rfl ?_
        refine yr_callVv (As := [.int (zI 1), .int (zI x2), .int (zI x1)]) hC hr o3 hZ4 rfl (hZ4.w.o 3 (by decide)) (cm_Scanner_put X.la d b (by decide) Rx2 Rx1 hZ4.rs h56) cl_X8_99 rfl rfl (Nat.le_of_ble_eq_true rfl) (hFr_of (Nat.le_of_ble_eq_true rfl) (Nat.le_of_ble_eq_true rfl)) dX8_string_139 (fun A58 u59 S60 o62 hZ63 h64 => ?_)
        refine h_aload_n hC dX8_string_142 rfl ?_
        refine h_dup hC dX8_string_143 rfl ?_
        refine h_get hC fl_X8_39 (hZ63.w.o 3 (by decide)) rfl dX8_string_144 ?_
        refine yr_sv (e := (yv A58 8)) hZ63 8 rfl ?_
        refine h_iconst (v := zI 1) hC dX8_string_147 rfl ?_
        refine yr_iadd hC dX8_string_148 ?_
        obtain ⟨o65, h66⟩ := h64
        refine hi_putx (i := 3) (kx := 8) hC hZ63.hi (by decide) fl_X8_39 rfl rfl rfl (Nat.le_of_ble_eq_true rfl) rfl gsame_8 (fun q => absurd q (by decide)) dX8_string_149 (fun F67 S68 I69 K70 s71 v72 p73 => ?_)
        have hZ74 := hZ63.put I69 K70 s71 v72 o65 rfl
        clear I69 K70 s71 v72 p73
        refine yr_nu o62 hZ74 (fun u75 o76 hZ77 => ?_)
        exact yr_vret hC hr o76 hZ77 h66 dX8_string_152
      · have h78 := h54.2 c55
        refine h_iconst (v := zI 4) hC dX8_string_132 rfl ?_
        refine h_goto (tgt := 137) hC dX8_string_133 (by decide) ?_
        refine h_iload_n hC dX8_string_137 rfl ?_
        refine h_iload_n hC dX8_string_138 rfl ?_
        refine yr_callVv (As := [.int (zI 4), .int (zI x2), .int (zI x1)]) hC hr o3 hZ4 rfl (hZ4.w.o 3 (by decide)) (cm_Scanner_put X.la d b (by decide) Rx2 Rx1 hZ4.rs h78) cl_X8_99 rfl rfl (Nat.le_of_ble_eq_true rfl) (hFr_of (Nat.le_of_ble_eq_true rfl) (Nat.le_of_ble_eq_true rfl)) dX8_string_139 (fun A80 u81 S82 o84 hZ85 h86 => ?_)
        refine h_aload_n hC dX8_string_142 rfl ?_
        refine h_dup hC dX8_string_143 rfl ?_
        refine h_get hC fl_X8_39 (hZ85.w.o 3 (by decide)) rfl dX8_string_144 ?_
        refine yr_sv (e := (yv A80 8)) hZ85 8 rfl ?_
        refine h_iconst (v := zI 1) hC dX8_string_147 rfl ?_
        refine yr_iadd hC dX8_string_148 ?_
        obtain ⟨o87, h88⟩ := h86
        refine hi_putx (i := 3) (kx := 8) hC hZ85.hi (by decide) fl_X8_39 rfl rfl rfl (Nat.le_of_ble_eq_true rfl) rfl gsame_8 (fun q => absurd q (by decide)) dX8_string_149 (fun F89 S90 I91 K92 s93 v94 p95 => ?_)
        have hZ96 := hZ85.put I91 K92 s93 v94 o87 rfl
        clear I91 K92 s93 v94 p95
        refine yr_nu o84 hZ96 (fun u97 o98 hZ99 => ?_)
        exact yr_vret hC hr o98 hZ99 h88 dX8_string_152
set_option maxHeartbeats 4000000 in
set_option maxRecDepth 100000 in
theorem cb_Scanner_string_31 {X : gX} {d : gD} {b : Nat} {Y : gYt} {c : Nat × Nat} {F0 : gM} {S0 : gSt} {mc ms : Nat} (hC : gC RX8 cX8_string 5 none "string" (gR 4 mc ms) d b X) (hr : hRm X b) {Q : cS → Prop} {k31 : cS → Int → Int → Int → Int → Prop} (hk31 : ∀ (u : hU) (S : gSt) (A0 : cS) (x1 : Int) (x2 : Int) (x3 : Int) (x4 : Int), zR x1 → zR x2 → zR x3 → zR x4 → yOk X b u → yZ d b Y c F0 S0 u S A0 → k31 A0 x1 x2 x3 x4 → yG X d b (yQv X d b Y c F0 S0 mc ms Q) u 31 [some (.ref (gO' Y 3)), some (.int (zI x1)), some (.int (zI x2)), some (.int (zI x3)), some (.int (zI x4))] []) {u : hU} {S : gSt} {A0 : cS} {x1 : Int} {x2 : Int} {x3 : Int} {x4 : Int} (Rx1 : zR x1) (Rx2 : zR x2) (Rx3 : zR x3) (Rx4 : zR x4) (ho : yOk X b u) (hZ : yZ d b Y c F0 S0 u S A0) (hw : wc_Scanner_string_31B Q k31 A0 x1 x2 x3 x4) : yG X d b (yQv X d b Y c F0 S0 mc ms Q) u 31 [some (.ref (gO' Y 3)), some (.int (zI x1)), some (.int (zI x2)), some (.int (zI x3)), some (.int (zI x4))] [] := by
  unfold wc_Scanner_string_31B at hw
  refine h_iload hC dX8_string_31 rfl ?_
  refine h_sipush (v := zI 200) hC dX8_string_33 rfl ?_
  refine yr_icmp_gt (tgt := 80) hC Rx4 (by decide) dX8_string_36 (by decide) (fun c1 => ?_) (fun c1 => ?_)
  · have h2 := hw.1 c1
    refine h_lv (lv' := [some (.ref (gO' Y 3)), some (.int (zI x1)), some (.int (zI x2)), some (.int (zI x3)), none]) ⟨rfl, rfl, rfl, rfl, trivial⟩ ?_
    exact cj_Scanner_string_80 hC hr  Rx1 Rx2 Rx3 ho hZ h2
  · have h3 := hw.2 c1
    refine h_iload_n hC dX8_string_39 rfl ?_
    refine yr_if_lt (tgt := 80) hC Rx3 dX8_string_40 (by decide) (fun c4 => ?_) (fun c4 => ?_)
    · have h5 := h3.1 c4
      refine h_lv (lv' := [some (.ref (gO' Y 3)), some (.int (zI x1)), some (.int (zI x2)), some (.int (zI x3)), none]) ⟨rfl, rfl, rfl, rfl, trivial⟩ ?_
      exact cj_Scanner_string_80 hC hr  Rx1 Rx2 Rx3 ho hZ h5
    · have h6 := h3.2 c4
      refine h_aload_n hC dX8_string_43 rfl ?_
      refine h_get hC fl_X8_47 (hZ.w.o 3 (by decide)) rfl dX8_string_44 ?_
      refine h_aload_n hC dX8_string_47 rfl ?_
      refine h_get hC fl_X8_39 (hZ.w.o 3 (by decide)) rfl dX8_string_48 ?_
      refine yr_sv (e := (yv A0 8)) hZ 8 rfl ?_
      refine yr_get (j := 0) (e := (yget A0 0 (yv A0 8))) hC hr ho hZ (by decide) (hZ.rv 8) rfl cl_X8_88 rfl (Nat.le_of_ble_eq_true rfl) (hFr_of (Nat.le_of_ble_eq_true rfl) (Nat.le_of_ble_eq_true rfl)) dX8_string_51 ?_
      refine h_bipush (v := zI 34) hC dX8_string_54 rfl ?_
      refine yr_icmp_eq (tgt := 80) hC (hZ.rg 0 _) (by decide) dX8_string_56 (by decide) (fun c7 => ?_) (fun c7 => ?_)
      · have h8 := h6.1 c7
        refine h_lv (lv' := [some (.ref (gO' Y 3)), some (.int (zI x1)), some (.int (zI x2)), some (.int (zI x3)), none]) ⟨rfl, rfl, rfl, rfl, trivial⟩ ?_
        exact cj_Scanner_string_80 hC hr  Rx1 Rx2 Rx3 ho hZ h8
      · have h9 := h6.2 c7
        refine h_aload_n hC dX8_string_59 rfl ?_
        refine h_bipush (v := zI 34) hC dX8_string_60 rfl ?_
        refine yr_callVi (As := [.int (zI 34)]) hC hr ho hZ rfl (hZ.w.o 3 (by decide)) (cm_Scanner_quoted X.la d b (by decide) hZ.rs h9) cl_X8_131 rfl rfl (Nat.le_of_ble_eq_true rfl) (hFr_of (Nat.le_of_ble_eq_true rfl) (Nat.le_of_ble_eq_true rfl)) dX8_string_62 (fun r10 A11 u12 S13 R14 o15 hZ16 h17 => ?_)
        refine h_istore_n (lv' := [some (.ref (gO' Y 3)), some (.int (zI x1)), some (.int (zI x2)), some (.int (zI r10)), some (.int (zI x4))]) hC dX8_string_65 (Nat.le_of_ble_eq_true rfl) rfl rfl ?_
        refine h_aload_n hC dX8_string_66 rfl ?_
        refine h_get hC fl_X8_27 (hZ16.w.o 3 (by decide)) rfl dX8_string_67 ?_
        refine h_iload_n hC dX8_string_70 rfl ?_
        obtain ⟨o22, h23⟩ := h17
        refine yr_add (j := 17) hC hr o15 hZ16 (by decide) (by decide) R14 o22 cl_X8_85 rfl (Nat.le_of_ble_eq_true rfl) (hFr_of (Nat.le_of_ble_eq_true rfl) (Nat.le_of_ble_eq_true rfl)) dX8_string_71 (fun u18 S19 o20 hZ21 => ?_)
        refine yr_iinc (x := x4) (lv' := [some (.ref (gO' Y 3)), some (.int (zI x1)), some (.int (zI x2)), some (.int (zI r10)), some (.int (zI (x4 + 1)))]) hC dX8_string_74 rfl rfl rfl ?_
        refine h_goto (tgt := 31) hC dX8_string_77 (by decide) ?_
        obtain ⟨o24, h25⟩ := h23
        exact hk31 _ _ _ _ _ _ _ Rx1 Rx2 R14 o24 o20 hZ21 h25
theorem cl_Scanner_string_31 {X : gX} {d : gD} {b : Nat} {Y : gYt} {c : Nat × Nat} {F0 : gM} {S0 : gSt} {mc ms : Nat} (hC : gC RX8 cX8_string 5 none "string" (gR 4 mc ms) d b X) (hr : hRm X b) {Q : cS → Prop}   : ∀ (m : Nat) (u : hU) (S : gSt) (A0 : cS) (x1 : Int) (x2 : Int) (x3 : Int) (x4 : Int), zR x1 → zR x2 → zR x3 → zR x4 → yOk X b u → yZ d b Y c F0 S0 u S A0 → wc_Scanner_string_31 Q  m A0 x1 x2 x3 x4 → yG X d b (yQv X d b Y c F0 S0 mc ms Q) u 31 [some (.ref (gO' Y 3)), some (.int (zI x1)), some (.int (zI x2)), some (.int (zI x3)), some (.int (zI x4))] [] := by
  intro m
  induction m with
  | zero => intro u S A0 x1 x2 x3 x4 Rx1 Rx2 Rx3 Rx4 ho hZ hw; exact False.elim hw
  | succ m ihm => intro u S A0 x1 x2 x3 x4 Rx1 Rx2 Rx3 Rx4 ho hZ hw; exact cb_Scanner_string_31 hC hr  ihm Rx1 Rx2 Rx3 Rx4 ho hZ hw
set_option maxHeartbeats 4000000 in
set_option maxRecDepth 100000 in
theorem cm_Scanner_string (l : Launch) (d : gD) (b : Nat) {Y : gYt} {c : Nat × Nat} {F : gM} {k n : Nat} {S : gSt} {A0 : cS} {a0 : Int} (Ra0 : zR a0) {Q : cS → Prop} (hZ : yZ d b Y c F S (F, k, n) S A0) (hw : wc_Scanner_string A0 a0 Q) : hMv l d b yX8_string cX8_string 5 4 k n F [.ref (gO' Y 3), .int (zI a0)] (yPv d b Y c F S Q) := by
  intro mc ms
  refine hM_of2 rfl (nL := 5) (Nat.le_of_ble_eq_true rfl) ?_
  intro X hX hC hr ho; subst hX
  show yG X d b (yQv X d b Y c F S mc ms Q) (F, k, n) 0 [some (.ref (gO' Y 3)), some (.int (zI a0)), none, none, none] []
  unfold wc_Scanner_string at hw
  refine h_aload_n hC dX8_string_0 rfl ?_
  refine h_get hC fl_X8_27 (hZ.w.o 3 (by decide)) rfl dX8_string_1 ?_
  refine yr_size (j := 17) (e := ((yz A0 17 : Nat) : Int)) hC hr ho hZ (by decide) rfl cl_X8_62 rfl (Nat.le_of_ble_eq_true rfl) (hFr_of (Nat.le_of_ble_eq_true rfl) (Nat.le_of_ble_eq_true rfl)) dX8_string_4 ?_
  refine h_istore_n (lv' := [some (.ref (gO' Y 3)), some (.int (zI a0)), some (.int (zI ((yz A0 17 : Nat) : Int))), none, none]) hC dX8_string_7 (Nat.le_of_ble_eq_true rfl) rfl rfl ?_
  refine h_aload_n hC dX8_string_8 rfl ?_
  refine h_get hC fl_X8_27 (hZ.w.o 3 (by decide)) rfl dX8_string_9 ?_
  refine h_iconst (v := zI 0) hC dX8_string_12 rfl ?_
  obtain ⟨o5, h6⟩ := hw
  refine yr_add (j := 17) hC hr ho hZ (by decide) (by decide) (by decide) o5 cl_X8_85 rfl (Nat.le_of_ble_eq_true rfl) (hFr_of (Nat.le_of_ble_eq_true rfl) (Nat.le_of_ble_eq_true rfl)) dX8_string_13 (fun u1 S2 o3 hZ4 => ?_)
  refine h_aload_n hC dX8_string_16 rfl ?_
  refine h_dup hC dX8_string_17 rfl ?_
  refine h_get hC fl_X8_39 (hZ4.w.o 3 (by decide)) rfl dX8_string_18 ?_
  refine yr_sv (e := (yv A0 8)) hZ4 8 rfl ?_
  refine h_iconst (v := zI 1) hC dX8_string_21 rfl ?_
  refine yr_iadd hC dX8_string_22 ?_
  obtain ⟨o7, h8⟩ := h6
  refine hi_putx (i := 3) (kx := 8) hC hZ4.hi (by decide) fl_X8_39 rfl rfl rfl (Nat.le_of_ble_eq_true rfl) rfl gsame_8 (fun q => absurd q (by decide)) dX8_string_23 (fun F9 S10 I11 K12 s13 v14 p15 => ?_)
  have hZ16 := hZ4.put I11 K12 s13 v14 o7 rfl
  clear I11 K12 s13 v14 p15
  refine yr_nu o3 hZ16 (fun u17 o18 hZ19 => ?_)
  refine h_iconst (v := zI 0) hC dX8_string_26 rfl ?_
  refine h_istore_n (lv' := [some (.ref (gO' Y 3)), some (.int (zI a0)), some (.int (zI ((yz A0 17 : Nat) : Int))), some (.int (zI 0)), none]) hC dX8_string_27 (Nat.le_of_ble_eq_true rfl) rfl rfl ?_
  refine h_iconst (v := zI 0) hC dX8_string_28 rfl ?_
  refine h_istore (lv' := [some (.ref (gO' Y 3)), some (.int (zI a0)), some (.int (zI ((yz A0 17 : Nat) : Int))), some (.int (zI 0)), some (.int (zI 0))]) hC dX8_string_29 (Nat.le_of_ble_eq_true rfl) rfl rfl ?_
  obtain ⟨m20, h21⟩ := h8
  exact cl_Scanner_string_31 hC hr  m20 _ _ _ _ _ _ _ Ra0 (hZ.rz (j := 17) (by decide)) (by decide) (by decide) o18 hZ19 h21
theorem dX8_section_0 : decode cX8_section 0 = .ok (.aload_n 0, 1) := by decide +kernel
theorem dX8_section_1 : decode cX8_section 1 = .ok (.getfield 47, 3) := by decide +kernel
theorem dX8_section_4 : decode cX8_section 4 = .ok (.aload_n 0, 1) := by decide +kernel
theorem dX8_section_5 : decode cX8_section 5 = .ok (.getfield 39, 3) := by decide +kernel
theorem dX8_section_8 : decode cX8_section 8 = .ok (.iconst 1, 1) := by decide +kernel
theorem dX8_section_9 : decode cX8_section 9 = .ok (.iadd, 1) := by decide +kernel
theorem dX8_section_10 : decode cX8_section 10 = .ok (.invokevirtual 88, 3) := by decide +kernel
theorem dX8_section_13 : decode cX8_section 13 = .ok (.istore_n 2, 1) := by decide +kernel
theorem dX8_section_14 : decode cX8_section 14 = .ok (.aload_n 0, 1) := by decide +kernel
theorem dX8_section_15 : decode cX8_section 15 = .ok (.iload_n 1, 1) := by decide +kernel
theorem dX8_section_16 : decode cX8_section 16 = .ok (.iconst 2, 1) := by decide +kernel
theorem dX8_section_17 : decode cX8_section 17 = .ok (.iadd, 1) := by decide +kernel
theorem dX8_section_18 : decode cX8_section 18 = .ok (.invokevirtual 147, 3) := by decide +kernel
theorem dX8_section_21 : decode cX8_section 21 = .ok (.istore_n 3, 1) := by decide +kernel
theorem dX8_section_22 : decode cX8_section 22 = .ok (.iload_n 3, 1) := by decide +kernel
theorem dX8_section_23 : decode cX8_section 23 = .ok (.iload_n 1, 1) := by decide +kernel
theorem dX8_section_24 : decode cX8_section 24 = .ok (.iconst 2, 1) := by decide +kernel
theorem dX8_section_25 : decode cX8_section 25 = .ok (.iadd, 1) := by decide +kernel
theorem dX8_section_26 : decode cX8_section 26 = .ok (.if_icmp .le 20, 3) := by decide +kernel
theorem dX8_section_29 : decode cX8_section 29 = .ok (.aload_n 0, 1) := by decide +kernel
theorem dX8_section_30 : decode cX8_section 30 = .ok (.aload_n 0, 1) := by decide +kernel
theorem dX8_section_31 : decode cX8_section 31 = .ok (.getfield 47, 3) := by decide +kernel
theorem dX8_section_34 : decode cX8_section 34 = .ok (.iload_n 1, 1) := by decide +kernel
theorem dX8_section_35 : decode cX8_section 35 = .ok (.iconst 2, 1) := by decide +kernel
theorem dX8_section_36 : decode cX8_section 36 = .ok (.iadd, 1) := by decide +kernel
theorem dX8_section_37 : decode cX8_section 37 = .ok (.iload_n 3, 1) := by decide +kernel
theorem dX8_section_38 : decode cX8_section 38 = .ok (.invokevirtual 78, 3) := by decide +kernel
theorem dX8_section_41 : decode cX8_section 41 = .ok (.iconst 1, 1) := by decide +kernel
theorem dX8_section_42 : decode cX8_section 42 = .ok (.iadd, 1) := by decide +kernel
theorem dX8_section_43 : decode cX8_section 43 = .ok (.goto 4, 3) := by decide +kernel
theorem dX8_section_46 : decode cX8_section 46 = .ok (.iconst 0, 1) := by decide +kernel
theorem dX8_section_47 : decode cX8_section 47 = .ok (.istore 4, 2) := by decide +kernel
theorem dX8_section_49 : decode cX8_section 49 = .ok (.iload_n 2, 1) := by decide +kernel
theorem dX8_section_50 : decode cX8_section 50 = .ok (.bipush 40, 2) := by decide +kernel
theorem dX8_section_52 : decode cX8_section 52 = .ok (.if_icmp .eq 9, 3) := by decide +kernel
theorem dX8_section_55 : decode cX8_section 55 = .ok (.iload_n 2, 1) := by decide +kernel
theorem dX8_section_56 : decode cX8_section 56 = .ok (.bipush 41, 2) := by decide +kernel
theorem dX8_section_58 : decode cX8_section 58 = .ok (.if_icmp .ne 17, 3) := by decide +kernel
theorem dX8_section_61 : decode cX8_section 61 = .ok (.iload_n 3, 1) := by decide +kernel
theorem dX8_section_62 : decode cX8_section 62 = .ok (.iload_n 1, 1) := by decide +kernel
theorem dX8_section_63 : decode cX8_section 63 = .ok (.isub, 1) := by decide +kernel
theorem dX8_section_64 : decode cX8_section 64 = .ok (.iconst 2, 1) := by decide +kernel
theorem dX8_section_65 : decode cX8_section 65 = .ok (.isub, 1) := by decide +kernel
theorem dX8_section_66 : decode cX8_section 66 = .ok (.bipush 40, 2) := by decide +kernel
theorem dX8_section_68 : decode cX8_section 68 = .ok (.if_icmp .gt 7, 3) := by decide +kernel
theorem dX8_section_71 : decode cX8_section 71 = .ok (.iconst 1, 1) := by decide +kernel
theorem dX8_section_72 : decode cX8_section 72 = .ok (.goto 4, 3) := by decide +kernel
theorem dX8_section_75 : decode cX8_section 75 = .ok (.iconst 0, 1) := by decide +kernel
theorem dX8_section_76 : decode cX8_section 76 = .ok (.istore 5, 2) := by decide +kernel
theorem dX8_section_78 : decode cX8_section 78 = .ok (.aload_n 0, 1) := by decide +kernel
theorem dX8_section_79 : decode cX8_section 79 = .ok (.iload 5, 2) := by decide +kernel
theorem dX8_section_81 : decode cX8_section 81 = .ok (.ifCond .ne 7, 3) := by decide +kernel
theorem dX8_section_84 : decode cX8_section 84 = .ok (.iconst 1, 1) := by decide +kernel
theorem dX8_section_85 : decode cX8_section 85 = .ok (.goto 15, 3) := by decide +kernel
theorem dX8_section_88 : decode cX8_section 88 = .ok (.iload_n 2, 1) := by decide +kernel
theorem dX8_section_89 : decode cX8_section 89 = .ok (.bipush 40, 2) := by decide +kernel
theorem dX8_section_91 : decode cX8_section 91 = .ok (.if_icmp .ne 7, 3) := by decide +kernel
theorem dX8_section_94 : decode cX8_section 94 = .ok (.iconst 5, 1) := by decide +kernel
theorem dX8_section_95 : decode cX8_section 95 = .ok (.goto 5, 3) := by decide +kernel
theorem dX8_section_98 : decode cX8_section 98 = .ok (.bipush 6, 2) := by decide +kernel
theorem dX8_section_100 : decode cX8_section 100 = .ok (.iload 4, 2) := by decide +kernel
theorem dX8_section_102 : decode cX8_section 102 = .ok (.iload_n 1, 1) := by decide +kernel
theorem dX8_section_103 : decode cX8_section 103 = .ok (.invokevirtual 99, 3) := by decide +kernel
theorem dX8_section_106 : decode cX8_section 106 = .ok (.aload_n 0, 1) := by decide +kernel
theorem dX8_section_107 : decode cX8_section 107 = .ok (.iload_n 3, 1) := by decide +kernel
theorem dX8_section_108 : decode cX8_section 108 = .ok (.putfield 39, 3) := by decide +kernel
theorem dX8_section_111 : decode cX8_section 111 = .ok (.return_, 1) := by decide +kernel
def wc_Scanner_section_76 (Q : cS → Prop)  (A0 : cS) (x1 : Int) (x2 : Int) (x3 : Int) (x4 : Int) (y0 : Int) : Prop :=
  ((¬ y0 = 0 → ((¬ x2 = 40 → wc_Scanner_put A0 6 x4 x1 (fun A6 => Q (ypv A6 8 x3))) ∧ (x2 = 40 → wc_Scanner_put A0 5 x4 x1 (fun A26 => Q (ypv A26 8 x3))))) ∧ (y0 = 0 → wc_Scanner_put A0 1 x4 x1 (fun A46 => Q (ypv A46 8 x3))))
def wc_Scanner_section_47 (Q : cS → Prop)  (A0 : cS) (x1 : Int) (x2 : Int) (x3 : Int) (y0 : Int) : Prop :=
  ((x2 = 40 → (zR ((x3 - x1) - 2)) ∧ ((40 < ((x3 - x1) - 2) → wc_Scanner_section_76 Q  A0 x1 x2 x3 y0 0) ∧ (¬ 40 < ((x3 - x1) - 2) → wc_Scanner_section_76 Q  A0 x1 x2 x3 y0 1))) ∧ (¬ x2 = 40 → ((¬ x2 = 41 → wc_Scanner_section_76 Q  A0 x1 x2 x3 y0 0) ∧ (x2 = 41 → (zR ((x3 - x1) - 2)) ∧ ((40 < ((x3 - x1) - 2) → wc_Scanner_section_76 Q  A0 x1 x2 x3 y0 0) ∧ (¬ 40 < ((x3 - x1) - 2) → wc_Scanner_section_76 Q  A0 x1 x2 x3 y0 1))))))
def wc_Scanner_section (A0 : cS) (a0 : Int) (Q : cS → Prop) : Prop :=
  (zR ((yv A0 8) + 1)) ∧ (zR (a0 + 2)) ∧ wc_Scanner_restEnd A0 (a0 + 2) (fun r5 A6 => ((r5 ≤ (a0 + 2) → wc_Scanner_section_47 Q  A6 a0 (yget A0 0 ((yv A0 8) + 1)) r5 0) ∧ (¬ r5 ≤ (a0 + 2) → wc_Scanner_idOf A6 (a0 + 2) r5 (fun r16 A17 => (zR (r16 + 1)) ∧ wc_Scanner_section_47 Q  A17 a0 (yget A0 0 ((yv A0 8) + 1)) r5 (r16 + 1)))))
set_option maxHeartbeats 4000000 in
set_option maxRecDepth 100000 in
theorem cj_Scanner_section_76 {X : gX} {d : gD} {b : Nat} {Y : gYt} {c : Nat × Nat} {F0 : gM} {S0 : gSt} {mc ms : Nat} (hC : gC RX8 cX8_section 6 none "section" (gR 4 mc ms) d b X) (hr : hRm X b) {Q : cS → Prop}   {u : hU} {S : gSt} {A0 : cS} {x1 : Int} {x2 : Int} {x3 : Int} {x4 : Int} {y0 : Int} (Rx1 : zR x1) (Rx2 : zR x2) (Rx3 : zR x3) (Rx4 : zR x4) (Ry0 : zR y0) (ho : yOk X b u) (hZ : yZ d b Y c F0 S0 u S A0) (hw : wc_Scanner_section_76 Q  A0 x1 x2 x3 x4 y0) : yG X d b (yQv X d b Y c F0 S0 mc ms Q) u 76 [some (.ref (gO' Y 3)), some (.int (zI x1)), some (.int (zI x2)), some (.int (zI x3)), some (.int (zI x4)), none] [.int (zI y0)] := by
  unfold wc_Scanner_section_76 at hw
  refine h_istore (lv' := [some (.ref (gO' Y 3)), some (.int (zI x1)), some (.int (zI x2)), some (.int (zI x3)), some (.int (zI x4)), some (.int (zI y0))]) hC dX8_section_76 (Nat.le_of_ble_eq_true rfl) rfl rfl ?_
  refine h_aload_n hC dX8_section_78 rfl ?_
  refine h_iload hC dX8_section_79 rfl ?_
  refine yr_if_ne (tgt := 88) hC Ry0 dX8_section_81 (by decide) (fun c1 => ?_) (fun c1 => ?_)
  · have h2 := hw.1 c1
    refine h_iload_n hC dX8_section_88 rfl ?_
    refine h_bipush (v := zI 40) hC dX8_section_89 rfl ?_
    refine yr_icmp_ne (tgt := 98) hC Rx2 (by decide) dX8_section_91 (by decide) (fun c3 => ?_) (fun c3 => ?_)
    · have h4 := h2.1 c3
      refine h_bipush (v := zI 6) hC dX8_section_98 rfl ?_
      refine h_iload hC dX8_section_100 rfl ?_
      refine h_iload_n hC dX8_section_102 rfl ?_
      refine yr_callVv (As := [.int (zI 6), .int (zI x4), .int (zI x1)]) hC hr ho hZ rfl (hZ.w.o 3 (by decide)) (cm_Scanner_put X.la d b (by decide) Rx4 Rx1 hZ.rs h4) cl_X8_99 rfl rfl (Nat.le_of_ble_eq_true rfl) (hFr_of (Nat.le_of_ble_eq_true rfl) (Nat.le_of_ble_eq_true rfl)) dX8_section_103 (fun A6 u7 S8 o10 hZ11 h12 => ?_)
      refine h_aload_n hC dX8_section_106 rfl ?_
      refine h_iload_n hC dX8_section_107 rfl ?_
      refine hi_putx (i := 3) (kx := 8) hC hZ11.hi (by decide) fl_X8_39 rfl rfl rfl (Nat.le_of_ble_eq_true rfl) rfl gsame_8 (fun q => absurd q (by decide)) dX8_section_108 (fun F13 S14 I15 K16 s17 v18 p19 => ?_)
      have hZ20 := hZ11.put I15 K16 s17 v18 Rx3 rfl
      clear I15 K16 s17 v18 p19
      refine yr_nu o10 hZ20 (fun u21 o22 hZ23 => ?_)
      exact yr_vret hC hr o22 hZ23 h12 dX8_section_111
    · have h24 := h2.2 c3
      refine h_iconst (v := zI 5) hC dX8_section_94 rfl ?_
      refine h_goto (tgt := 100) hC dX8_section_95 (by decide) ?_
      refine h_iload hC dX8_section_100 rfl ?_
      refine h_iload_n hC dX8_section_102 rfl ?_
      refine yr_callVv (As := [.int (zI 5), .int (zI x4), .int (zI x1)]) hC hr ho hZ rfl (hZ.w.o 3 (by decide)) (cm_Scanner_put X.la d b (by decide) Rx4 Rx1 hZ.rs h24) cl_X8_99 rfl rfl (Nat.le_of_ble_eq_true rfl) (hFr_of (Nat.le_of_ble_eq_true rfl) (Nat.le_of_ble_eq_true rfl)) dX8_section_103 (fun A26 u27 S28 o30 hZ31 h32 => ?_)
      refine h_aload_n hC dX8_section_106 rfl ?_
      refine h_iload_n hC dX8_section_107 rfl ?_
      refine hi_putx (i := 3) (kx := 8) hC hZ31.hi (by decide) fl_X8_39 rfl rfl rfl (Nat.le_of_ble_eq_true rfl) rfl gsame_8 (fun q => absurd q (by decide)) dX8_section_108 (fun F33 S34 I35 K36 s37 v38 p39 => ?_)
      have hZ40 := hZ31.put I35 K36 s37 v38 Rx3 rfl
      clear I35 K36 s37 v38 p39
      refine yr_nu o30 hZ40 (fun u41 o42 hZ43 => ?_)
      exact yr_vret hC hr o42 hZ43 h32 dX8_section_111
  · have h44 := hw.2 c1
    refine h_iconst (v := zI 1) hC dX8_section_84 rfl ?_
    refine h_goto (tgt := 100) hC dX8_section_85 (by decide) ?_
    refine h_iload hC dX8_section_100 rfl ?_
    refine h_iload_n hC dX8_section_102 rfl ?_
    refine yr_callVv (As := [.int (zI 1), .int (zI x4), .int (zI x1)]) hC hr ho hZ rfl (hZ.w.o 3 (by decide)) (cm_Scanner_put X.la d b (by decide) Rx4 Rx1 hZ.rs h44) cl_X8_99 rfl rfl (Nat.le_of_ble_eq_true rfl) (hFr_of (Nat.le_of_ble_eq_true rfl) (Nat.le_of_ble_eq_true rfl)) dX8_section_103 (fun A46 u47 S48 o50 hZ51 h52 => ?_)
    refine h_aload_n hC dX8_section_106 rfl ?_
    refine h_iload_n hC dX8_section_107 rfl ?_
    refine hi_putx (i := 3) (kx := 8) hC hZ51.hi (by decide) fl_X8_39 rfl rfl rfl (Nat.le_of_ble_eq_true rfl) rfl gsame_8 (fun q => absurd q (by decide)) dX8_section_108 (fun F53 S54 I55 K56 s57 v58 p59 => ?_)
    have hZ60 := hZ51.put I55 K56 s57 v58 Rx3 rfl
    clear I55 K56 s57 v58 p59
    refine yr_nu o50 hZ60 (fun u61 o62 hZ63 => ?_)
    exact yr_vret hC hr o62 hZ63 h52 dX8_section_111
set_option maxHeartbeats 4000000 in
set_option maxRecDepth 100000 in
theorem cj_Scanner_section_47 {X : gX} {d : gD} {b : Nat} {Y : gYt} {c : Nat × Nat} {F0 : gM} {S0 : gSt} {mc ms : Nat} (hC : gC RX8 cX8_section 6 none "section" (gR 4 mc ms) d b X) (hr : hRm X b) {Q : cS → Prop}   {u : hU} {S : gSt} {A0 : cS} {x1 : Int} {x2 : Int} {x3 : Int} {y0 : Int} (Rx1 : zR x1) (Rx2 : zR x2) (Rx3 : zR x3) (Ry0 : zR y0) (ho : yOk X b u) (hZ : yZ d b Y c F0 S0 u S A0) (hw : wc_Scanner_section_47 Q  A0 x1 x2 x3 y0) : yG X d b (yQv X d b Y c F0 S0 mc ms Q) u 47 [some (.ref (gO' Y 3)), some (.int (zI x1)), some (.int (zI x2)), some (.int (zI x3)), none, none] [.int (zI y0)] := by
  unfold wc_Scanner_section_47 at hw
  refine h_istore (lv' := [some (.ref (gO' Y 3)), some (.int (zI x1)), some (.int (zI x2)), some (.int (zI x3)), some (.int (zI y0)), none]) hC dX8_section_47 (Nat.le_of_ble_eq_true rfl) rfl rfl ?_
  refine h_iload_n hC dX8_section_49 rfl ?_
  refine h_bipush (v := zI 40) hC dX8_section_50 rfl ?_
  refine yr_icmp_eq (tgt := 61) hC Rx2 (by decide) dX8_section_52 (by decide) (fun c1 => ?_) (fun c1 => ?_)
  · have h2 := hw.1 c1
    refine h_iload_n hC dX8_section_61 rfl ?_
    refine h_iload_n hC dX8_section_62 rfl ?_
    refine yr_isub hC dX8_section_63 ?_
    refine h_iconst (v := zI 2) hC dX8_section_64 rfl ?_
    refine yr_isub hC dX8_section_65 ?_
    refine h_bipush (v := zI 40) hC dX8_section_66 rfl ?_
    obtain ⟨o3, h4⟩ := h2
    refine yr_icmp_gt (tgt := 75) hC o3 (by decide) dX8_section_68 (by decide) (fun c5 => ?_) (fun c5 => ?_)
    · have h6 := h4.1 c5
      refine h_iconst (v := zI 0) hC dX8_section_75 rfl ?_
      exact cj_Scanner_section_76 hC hr  Rx1 Rx2 Rx3 Ry0 (by decide) ho hZ h6
    · have h7 := h4.2 c5
      refine h_iconst (v := zI 1) hC dX8_section_71 rfl ?_
      refine h_goto (tgt := 76) hC dX8_section_72 (by decide) ?_
      exact cj_Scanner_section_76 hC hr  Rx1 Rx2 Rx3 Ry0 (by decide) ho hZ h7
  · have h8 := hw.2 c1
    refine h_iload_n hC dX8_section_55 rfl ?_
    refine h_bipush (v := zI 41) hC dX8_section_56 rfl ?_
    refine yr_icmp_ne (tgt := 75) hC Rx2 (by decide) dX8_section_58 (by decide) (fun c9 => ?_) (fun c9 => ?_)
    · have h10 := h8.1 c9
      refine h_iconst (v := zI 0) hC dX8_section_75 rfl ?_
      exact cj_Scanner_section_76 hC hr  Rx1 Rx2 Rx3 Ry0 (by decide) ho hZ h10
    · have h11 := h8.2 c9
      refine h_iload_n hC dX8_section_61 rfl ?_
      refine h_iload_n hC dX8_section_62 rfl ?_
      refine yr_isub hC dX8_section_63 ?_
      refine h_iconst (v := zI 2) hC dX8_section_64 rfl ?_
      refine yr_isub hC dX8_section_65 ?_
      refine h_bipush (v := zI 40) hC dX8_section_66 rfl ?_
      obtain ⟨o12, h13⟩ := h11
      refine yr_icmp_gt (tgt := 75) hC o12 (by decide) dX8_section_68 (by decide) (fun c14 => ?_) (fun c14 => ?_)
      · have h15 := h13.1 c14
        refine h_iconst (v := zI 0) hC dX8_section_75 rfl ?_
        exact cj_Scanner_section_76 hC hr  Rx1 Rx2 Rx3 Ry0 (by decide) ho hZ h15
      · have h16 := h13.2 c14
        refine h_iconst (v := zI 1) hC dX8_section_71 rfl ?_
        refine h_goto (tgt := 76) hC dX8_section_72 (by decide) ?_
        exact cj_Scanner_section_76 hC hr  Rx1 Rx2 Rx3 Ry0 (by decide) ho hZ h16
set_option maxHeartbeats 4000000 in
set_option maxRecDepth 100000 in
theorem cm_Scanner_section (l : Launch) (d : gD) (b : Nat) {Y : gYt} {c : Nat × Nat} {F : gM} {k n : Nat} {S : gSt} {A0 : cS} {a0 : Int} (Ra0 : zR a0) {Q : cS → Prop} (hZ : yZ d b Y c F S (F, k, n) S A0) (hw : wc_Scanner_section A0 a0 Q) : hMv l d b yX8_section cX8_section 6 4 k n F [.ref (gO' Y 3), .int (zI a0)] (yPv d b Y c F S Q) := by
  intro mc ms
  refine hM_of2 rfl (nL := 6) (Nat.le_of_ble_eq_true rfl) ?_
  intro X hX hC hr ho; subst hX
  show yG X d b (yQv X d b Y c F S mc ms Q) (F, k, n) 0 [some (.ref (gO' Y 3)), some (.int (zI a0)), none, none, none, none] []
  unfold wc_Scanner_section at hw
  refine h_aload_n hC dX8_section_0 rfl ?_
  refine h_get hC fl_X8_47 (hZ.w.o 3 (by decide)) rfl dX8_section_1 ?_
  refine h_aload_n hC dX8_section_4 rfl ?_
  refine h_get hC fl_X8_39 (hZ.w.o 3 (by decide)) rfl dX8_section_5 ?_
  refine yr_sv (e := (yv A0 8)) hZ 8 rfl ?_
  refine h_iconst (v := zI 1) hC dX8_section_8 rfl ?_
  refine yr_iadd hC dX8_section_9 ?_
  obtain ⟨o1, h2⟩ := hw
  refine yr_get (j := 0) (e := (yget A0 0 ((yv A0 8) + 1))) hC hr ho hZ (by decide) o1 rfl cl_X8_88 rfl (Nat.le_of_ble_eq_true rfl) (hFr_of (Nat.le_of_ble_eq_true rfl) (Nat.le_of_ble_eq_true rfl)) dX8_section_10 ?_
  refine h_istore_n (lv' := [some (.ref (gO' Y 3)), some (.int (zI a0)), some (.int (zI (yget A0 0 ((yv A0 8) + 1)))), none, none, none]) hC dX8_section_13 (Nat.le_of_ble_eq_true rfl) rfl rfl ?_
  refine h_aload_n hC dX8_section_14 rfl ?_
  refine h_iload_n hC dX8_section_15 rfl ?_
  refine h_iconst (v := zI 2) hC dX8_section_16 rfl ?_
  refine yr_iadd hC dX8_section_17 ?_
  obtain ⟨o3, h4⟩ := h2
  refine yr_callVi (As := [.int (zI (a0 + 2))]) hC hr ho hZ rfl (hZ.w.o 3 (by decide)) (cm_Scanner_restEnd X.la d b o3 hZ.rs h4) cl_X8_147 rfl rfl (Nat.le_of_ble_eq_true rfl) (hFr_of (Nat.le_of_ble_eq_true rfl) (Nat.le_of_ble_eq_true rfl)) dX8_section_18 (fun r5 A6 u7 S8 R9 o10 hZ11 h12 => ?_)
  refine h_istore_n (lv' := [some (.ref (gO' Y 3)), some (.int (zI a0)), some (.int (zI (yget A0 0 ((yv A0 8) + 1)))), some (.int (zI r5)), none, none]) hC dX8_section_21 (Nat.le_of_ble_eq_true rfl) rfl rfl ?_
  refine h_iload_n hC dX8_section_22 rfl ?_
  refine h_iload_n hC dX8_section_23 rfl ?_
  refine h_iconst (v := zI 2) hC dX8_section_24 rfl ?_
  refine yr_iadd hC dX8_section_25 ?_
  refine yr_icmp_le (tgt := 46) hC R9 o3 dX8_section_26 (by decide) (fun c13 => ?_) (fun c13 => ?_)
  · have h14 := h12.1 c13
    refine h_iconst (v := zI 0) hC dX8_section_46 rfl ?_
    exact cj_Scanner_section_47 hC hr  Ra0 (hZ.rg 0 _) R9 (by decide) o10 hZ11 h14
  · have h15 := h12.2 c13
    refine h_aload_n hC dX8_section_29 rfl ?_
    refine h_aload_n hC dX8_section_30 rfl ?_
    refine h_get hC fl_X8_47 (hZ11.w.o 3 (by decide)) rfl dX8_section_31 ?_
    refine h_iload_n hC dX8_section_34 rfl ?_
    refine h_iconst (v := zI 2) hC dX8_section_35 rfl ?_
    refine yr_iadd hC dX8_section_36 ?_
    refine h_iload_n hC dX8_section_37 rfl ?_
    refine yr_callVi (As := [.ref (gA' Y 0), .int (zI (a0 + 2)), .int (zI r5)]) hC hr o10 hZ11 rfl (hZ11.w.o 3 (by decide)) (cm_Scanner_idOf X.la d b o3 R9 hZ11.rs h15) cl_X8_78 rfl rfl (Nat.le_of_ble_eq_true rfl) (hFr_of (Nat.le_of_ble_eq_true rfl) (Nat.le_of_ble_eq_true rfl)) dX8_section_38 (fun r16 A17 u18 S19 R20 o21 hZ22 h23 => ?_)
    refine h_iconst (v := zI 1) hC dX8_section_41 rfl ?_
    refine yr_iadd hC dX8_section_42 ?_
    refine h_goto (tgt := 47) hC dX8_section_43 (by decide) ?_
    obtain ⟨o24, h25⟩ := h23
    exact cj_Scanner_section_47 hC hr  Ra0 (hZ.rg 0 _) R9 o24 o21 hZ22 h25
def wc_Scanner_doubled (A0 : cS) (a0 : Int) (a1 : Int) (Q : Int → cS → Prop) : Prop :=
  (((a0 = 45) → ((¬ a1 = 62 → Q 1 A0) ∧ (a1 = 62 → Q 31 A0))) ∧ ((a0 = 58) → ((¬ a1 = 61 → Q 1 A0) ∧ (a1 = 61 → Q 11 A0))) ∧ ((a0 = 60) → ((¬ a1 = 61 → ((¬ a1 = 60 → Q 1 A0) ∧ (a1 = 60 → Q 26 A0))) ∧ (a1 = 61 → Q 23 A0))) ∧ ((a0 = 62) → ((¬ a1 = 61 → ((¬ a1 = 62 → Q 1 A0) ∧ (a1 = 62 → Q 27 A0))) ∧ (a1 = 61 → Q 25 A0))) ∧ ((a0 = 126) → ((¬ a1 = 61 → Q 1 A0) ∧ (a1 = 61 → Q 21 A0))) ∧ (¬ (a0 = 45) → ¬ (a0 = 58) → ¬ (a0 = 60) → ¬ (a0 = 62) → ¬ (a0 = 126) → Q 1 A0))
set_option maxHeartbeats 4000000 in
set_option maxRecDepth 100000 in
theorem cm_Scanner_doubled (l : Launch) (d : gD) (b : Nat) {Y : gYt} {c : Nat × Nat} {F : gM} {k n : Nat} {S : gSt} {A0 : cS} {a0 : Int} {a1 : Int} (Ra0 : zR a0) (Ra1 : zR a1) {Q : Int → cS → Prop} (hZ : yZ d b Y c F S (F, k, n) S A0) (hw : wc_Scanner_doubled A0 a0 a1 Q) : hMi l d b yX8_doubled cX8_doubled 2 .int 0 k n F [.int (zI a0), .int (zI a1)] (yPi d b Y c F S Q) := by
  intro mc ms
  refine hM_of2 rfl (nL := 2) (Nat.le_of_ble_eq_true rfl) ?_
  intro X hX hC hr ho; subst hX
  show yG X d b (yQi X d b Y c F S mc ms Q) (F, k, n) 0 [some (.int (zI a0)), some (.int (zI a1))] []
  unfold wc_Scanner_doubled at hw
  refine h_iload_n hC dX8_doubled_0 rfl ?_
  by_cases g1 : a0 = 45
  · have h3 := (hw.1) g1
    have T2 : yG X d b (yQi X d b Y c F S mc ms Q) (F, k, n) 126 [some (.int (zI a0)), some (.int (zI a1))] [] := by
      refine h_iload_n hC dX8_doubled_126 rfl ?_
      refine h_bipush (v := zI 62) hC dX8_doubled_127 rfl ?_
      refine yr_icmp_ne (tgt := 137) hC Ra1 (by decide) dX8_doubled_129 (by decide) (fun c4 => ?_) (fun c4 => ?_)
      · have h5 := h3.1 c4
        refine h_iconst (v := zI 1) hC dX8_doubled_137 rfl ?_
        exact yr_iret hC hr ho hZ (by decide) h5 dX8_doubled_138
      · have h6 := h3.2 c4
        refine h_bipush (v := zI 31) hC dX8_doubled_132 rfl ?_
        refine h_goto (tgt := 138) hC dX8_doubled_134 (by decide) ?_
        exact yr_iret hC hr ho hZ (by decide) h6 dX8_doubled_138
    clear h3
    exact yr_lokAt (v := 45) hC dX8_doubled_1 Ra0 (by decide) g1 rfl (by decide) T2
  · skip
    by_cases g7 : a0 = 58
    · have h9 := (hw.2.1) g7
      have T8 : yG X d b (yQi X d b Y c F S mc ms Q) (F, k, n) 52 [some (.int (zI a0)), some (.int (zI a1))] [] := by
        refine h_iload_n hC dX8_doubled_52 rfl ?_
        refine h_bipush (v := zI 61) hC dX8_doubled_53 rfl ?_
        refine yr_icmp_ne (tgt := 63) hC Ra1 (by decide) dX8_doubled_55 (by decide) (fun c10 => ?_) (fun c10 => ?_)
        · have h11 := h9.1 c10
          refine h_iconst (v := zI 1) hC dX8_doubled_63 rfl ?_
          exact yr_iret hC hr ho hZ (by decide) h11 dX8_doubled_64
        · have h12 := h9.2 c10
          refine h_bipush (v := zI 11) hC dX8_doubled_58 rfl ?_
          refine h_goto (tgt := 64) hC dX8_doubled_60 (by decide) ?_
          exact yr_iret hC hr ho hZ (by decide) h12 dX8_doubled_64
      clear h9
      exact yr_lokAt (v := 58) hC dX8_doubled_1 Ra0 (by decide) g7 rfl (by decide) T8
    · skip
      by_cases g13 : a0 = 60
      · have h15 := (hw.2.2.1) g13
        have T14 : yG X d b (yQi X d b Y c F S mc ms Q) (F, k, n) 78 [some (.int (zI a0)), some (.int (zI a1))] [] := by
          refine h_iload_n hC dX8_doubled_78 rfl ?_
          refine h_bipush (v := zI 61) hC dX8_doubled_79 rfl ?_
          refine yr_icmp_ne (tgt := 89) hC Ra1 (by decide) dX8_doubled_81 (by decide) (fun c16 => ?_) (fun c16 => ?_)
          · have h17 := h15.1 c16
            refine h_iload_n hC dX8_doubled_89 rfl ?_
            refine h_bipush (v := zI 60) hC dX8_doubled_90 rfl ?_
            refine yr_icmp_ne (tgt := 100) hC Ra1 (by decide) dX8_doubled_92 (by decide) (fun c18 => ?_) (fun c18 => ?_)
            · have h19 := h17.1 c18
              refine h_iconst (v := zI 1) hC dX8_doubled_100 rfl ?_
              exact yr_iret hC hr ho hZ (by decide) h19 dX8_doubled_101
            · have h20 := h17.2 c18
              refine h_bipush (v := zI 26) hC dX8_doubled_95 rfl ?_
              refine h_goto (tgt := 101) hC dX8_doubled_97 (by decide) ?_
              exact yr_iret hC hr ho hZ (by decide) h20 dX8_doubled_101
          · have h21 := h15.2 c16
            refine h_bipush (v := zI 23) hC dX8_doubled_84 rfl ?_
            refine h_goto (tgt := 101) hC dX8_doubled_86 (by decide) ?_
            exact yr_iret hC hr ho hZ (by decide) h21 dX8_doubled_101
        clear h15
        exact yr_lokAt (v := 60) hC dX8_doubled_1 Ra0 (by decide) g13 rfl (by decide) T14
      · skip
        by_cases g22 : a0 = 62
        · have h24 := (hw.2.2.2.1) g22
          have T23 : yG X d b (yQi X d b Y c F S mc ms Q) (F, k, n) 102 [some (.int (zI a0)), some (.int (zI a1))] [] := by
            refine h_iload_n hC dX8_doubled_102 rfl ?_
            refine h_bipush (v := zI 61) hC dX8_doubled_103 rfl ?_
            refine yr_icmp_ne (tgt := 113) hC Ra1 (by decide) dX8_doubled_105 (by decide) (fun c25 => ?_) (fun c25 => ?_)
            · have h26 := h24.1 c25
              refine h_iload_n hC dX8_doubled_113 rfl ?_
              refine h_bipush (v := zI 62) hC dX8_doubled_114 rfl ?_
              refine yr_icmp_ne (tgt := 124) hC Ra1 (by decide) dX8_doubled_116 (by decide) (fun c27 => ?_) (fun c27 => ?_)
              · have h28 := h26.1 c27
                refine h_iconst (v := zI 1) hC dX8_doubled_124 rfl ?_
                exact yr_iret hC hr ho hZ (by decide) h28 dX8_doubled_125
              · have h29 := h26.2 c27
                refine h_bipush (v := zI 27) hC dX8_doubled_119 rfl ?_
                refine h_goto (tgt := 125) hC dX8_doubled_121 (by decide) ?_
                exact yr_iret hC hr ho hZ (by decide) h29 dX8_doubled_125
            · have h30 := h24.2 c25
              refine h_bipush (v := zI 25) hC dX8_doubled_108 rfl ?_
              refine h_goto (tgt := 125) hC dX8_doubled_110 (by decide) ?_
              exact yr_iret hC hr ho hZ (by decide) h30 dX8_doubled_125
          clear h24
          exact yr_lokAt (v := 62) hC dX8_doubled_1 Ra0 (by decide) g22 rfl (by decide) T23
        · skip
          by_cases g31 : a0 = 126
          · have h33 := (hw.2.2.2.2.1) g31
            have T32 : yG X d b (yQi X d b Y c F S mc ms Q) (F, k, n) 65 [some (.int (zI a0)), some (.int (zI a1))] [] := by
              refine h_iload_n hC dX8_doubled_65 rfl ?_
              refine h_bipush (v := zI 61) hC dX8_doubled_66 rfl ?_
              refine yr_icmp_ne (tgt := 76) hC Ra1 (by decide) dX8_doubled_68 (by decide) (fun c34 => ?_) (fun c34 => ?_)
              · have h35 := h33.1 c34
                refine h_iconst (v := zI 1) hC dX8_doubled_76 rfl ?_
                exact yr_iret hC hr ho hZ (by decide) h35 dX8_doubled_77
              · have h36 := h33.2 c34
                refine h_bipush (v := zI 21) hC dX8_doubled_71 rfl ?_
                refine h_goto (tgt := 77) hC dX8_doubled_73 (by decide) ?_
                exact yr_iret hC hr ho hZ (by decide) h36 dX8_doubled_77
            clear h33
            exact yr_lokAt (v := 126) hC dX8_doubled_1 Ra0 (by decide) g31 rfl (by decide) T32
          · skip
            have h37 := hw.2.2.2.2.2 g1 g7 g13 g22 g31
            refine yr_lokD (tgt := 139) hC dX8_doubled_1 Ra0 (by decide) (List.forall_mem_cons.mpr ⟨(fun q => g1 (q)), List.forall_mem_cons.mpr ⟨(fun q => g7 (q)), List.forall_mem_cons.mpr ⟨(fun q => g13 (q)), List.forall_mem_cons.mpr ⟨(fun q => g22 (q)), List.forall_mem_cons.mpr ⟨(fun q => g31 (q)), fun q hq => absurd hq List.not_mem_nil⟩⟩⟩⟩⟩) (by decide) ?_
            refine h_iconst (v := zI 1) hC dX8_doubled_139 rfl ?_
            exact yr_iret hC hr ho hZ (by decide) h37 dX8_doubled_140
def wc_Scanner_single (A0 : cS) (a0 : Int) (Q : Int → cS → Prop) : Prop :=
  (((a0 = 33) → Q 13 A0) ∧ ((a0 = 37) → Q 14 A0) ∧ ((a0 = 38) → Q 29 A0) ∧ ((a0 = 40) → Q 7 A0) ∧ ((a0 = 41) → Q 8 A0) ∧ ((a0 = 42) → Q 18 A0) ∧ ((a0 = 43) → Q 16 A0) ∧ ((a0 = 44) → Q 9 A0) ∧ ((a0 = 45) → Q 17 A0) ∧ ((a0 = 47) → Q 19 A0) ∧ ((a0 = 58) → Q 12 A0) ∧ ((a0 = 59) → Q 10 A0) ∧ ((a0 = 60) → Q 22 A0) ∧ ((a0 = 61) → Q 20 A0) ∧ ((a0 = 62) → Q 24 A0) ∧ ((a0 = 64) → Q 15 A0) ∧ ((a0 = 124) → Q 30 A0) ∧ ((a0 = 126) → Q 28 A0) ∧ (¬ (a0 = 33) → ¬ (a0 = 37) → ¬ (a0 = 38) → ¬ (a0 = 40) → ¬ (a0 = 41) → ¬ (a0 = 42) → ¬ (a0 = 43) → ¬ (a0 = 44) → ¬ (a0 = 45) → ¬ (a0 = 47) → ¬ (a0 = 58) → ¬ (a0 = 59) → ¬ (a0 = 60) → ¬ (a0 = 61) → ¬ (a0 = 62) → ¬ (a0 = 64) → ¬ (a0 = 124) → ¬ (a0 = 126) → Q 1 A0))
set_option maxHeartbeats 4000000 in
set_option maxRecDepth 100000 in
theorem cm_Scanner_single (l : Launch) (d : gD) (b : Nat) {Y : gYt} {c : Nat × Nat} {F : gM} {k n : Nat} {S : gSt} {A0 : cS} {a0 : Int} (Ra0 : zR a0) {Q : Int → cS → Prop} (hZ : yZ d b Y c F S (F, k, n) S A0) (hw : wc_Scanner_single A0 a0 Q) : hMi l d b yX8_single cX8_single 1 .int 0 k n F [.int (zI a0)] (yPi d b Y c F S Q) := by
  intro mc ms
  refine hM_of2 rfl (nL := 1) (Nat.le_of_ble_eq_true rfl) ?_
  intro X hX hC hr ho; subst hX
  show yG X d b (yQi X d b Y c F S mc ms Q) (F, k, n) 0 [some (.int (zI a0))] []
  unfold wc_Scanner_single at hw
  refine h_iload_n hC dX8_single_0 rfl ?_
  by_cases g1 : a0 = 33
  · have h3 := (hw.1) g1
    have T2 : yG X d b (yQi X d b Y c F S mc ms Q) (F, k, n) 171 [some (.int (zI a0))] [] := by
      refine h_bipush (v := zI 13) hC dX8_single_171 rfl ?_
      exact yr_iret hC hr ho hZ (by decide) h3 dX8_single_173
    clear h3
    exact yr_lokAt (v := 33) hC dX8_single_1 Ra0 (by decide) g1 rfl (by decide) T2
  · skip
    by_cases g4 : a0 = 37
    · have h6 := (hw.2.1) g4
      have T5 : yG X d b (yQi X d b Y c F S mc ms Q) (F, k, n) 174 [some (.int (zI a0))] [] := by
        refine h_bipush (v := zI 14) hC dX8_single_174 rfl ?_
        exact yr_iret hC hr ho hZ (by decide) h6 dX8_single_176
      clear h6
      exact yr_lokAt (v := 37) hC dX8_single_1 Ra0 (by decide) g4 rfl (by decide) T5
    · skip
      by_cases g7 : a0 = 38
      · have h9 := (hw.2.2.1) g7
        have T8 : yG X d b (yQi X d b Y c F S mc ms Q) (F, k, n) 204 [some (.int (zI a0))] [] := by
          refine h_bipush (v := zI 29) hC dX8_single_204 rfl ?_
          exact yr_iret hC hr ho hZ (by decide) h9 dX8_single_206
        clear h9
        exact yr_lokAt (v := 38) hC dX8_single_1 Ra0 (by decide) g7 rfl (by decide) T8
      · skip
        by_cases g10 : a0 = 40
        · have h12 := (hw.2.2.2.1) g10
          have T11 : yG X d b (yQi X d b Y c F S mc ms Q) (F, k, n) 156 [some (.int (zI a0))] [] := by
            refine h_bipush (v := zI 7) hC dX8_single_156 rfl ?_
            exact yr_iret hC hr ho hZ (by decide) h12 dX8_single_158
          clear h12
          exact yr_lokAt (v := 40) hC dX8_single_1 Ra0 (by decide) g10 rfl (by decide) T11
        · skip
          by_cases g13 : a0 = 41
          · have h15 := (hw.2.2.2.2.1) g13
            have T14 : yG X d b (yQi X d b Y c F S mc ms Q) (F, k, n) 159 [some (.int (zI a0))] [] := by
              refine h_bipush (v := zI 8) hC dX8_single_159 rfl ?_
              exact yr_iret hC hr ho hZ (by decide) h15 dX8_single_161
            clear h15
            exact yr_lokAt (v := 41) hC dX8_single_1 Ra0 (by decide) g13 rfl (by decide) T14
          · skip
            by_cases g16 : a0 = 42
            · have h18 := (hw.2.2.2.2.2.1) g16
              have T17 : yG X d b (yQi X d b Y c F S mc ms Q) (F, k, n) 186 [some (.int (zI a0))] [] := by
                refine h_bipush (v := zI 18) hC dX8_single_186 rfl ?_
                exact yr_iret hC hr ho hZ (by decide) h18 dX8_single_188
              clear h18
              exact yr_lokAt (v := 42) hC dX8_single_1 Ra0 (by decide) g16 rfl (by decide) T17
            · skip
              by_cases g19 : a0 = 43
              · have h21 := (hw.2.2.2.2.2.2.1) g19
                have T20 : yG X d b (yQi X d b Y c F S mc ms Q) (F, k, n) 180 [some (.int (zI a0))] [] := by
                  refine h_bipush (v := zI 16) hC dX8_single_180 rfl ?_
                  exact yr_iret hC hr ho hZ (by decide) h21 dX8_single_182
                clear h21
                exact yr_lokAt (v := 43) hC dX8_single_1 Ra0 (by decide) g19 rfl (by decide) T20
              · skip
                by_cases g22 : a0 = 44
                · have h24 := (hw.2.2.2.2.2.2.2.1) g22
                  have T23 : yG X d b (yQi X d b Y c F S mc ms Q) (F, k, n) 162 [some (.int (zI a0))] [] := by
                    refine h_bipush (v := zI 9) hC dX8_single_162 rfl ?_
                    exact yr_iret hC hr ho hZ (by decide) h24 dX8_single_164
                  clear h24
                  exact yr_lokAt (v := 44) hC dX8_single_1 Ra0 (by decide) g22 rfl (by decide) T23
                · skip
                  by_cases g25 : a0 = 45
                  · have h27 := (hw.2.2.2.2.2.2.2.2.1) g25
                    have T26 : yG X d b (yQi X d b Y c F S mc ms Q) (F, k, n) 183 [some (.int (zI a0))] [] := by
                      refine h_bipush (v := zI 17) hC dX8_single_183 rfl ?_
                      exact yr_iret hC hr ho hZ (by decide) h27 dX8_single_185
                    clear h27
                    exact yr_lokAt (v := 45) hC dX8_single_1 Ra0 (by decide) g25 rfl (by decide) T26
                  · skip
                    by_cases g28 : a0 = 47
                    · have h30 := (hw.2.2.2.2.2.2.2.2.2.1) g28
                      have T29 : yG X d b (yQi X d b Y c F S mc ms Q) (F, k, n) 189 [some (.int (zI a0))] [] := by
                        refine h_bipush (v := zI 19) hC dX8_single_189 rfl ?_
                        exact yr_iret hC hr ho hZ (by decide) h30 dX8_single_191
                      clear h30
                      exact yr_lokAt (v := 47) hC dX8_single_1 Ra0 (by decide) g28 rfl (by decide) T29
                    · skip
                      by_cases g31 : a0 = 58
                      · have h33 := (hw.2.2.2.2.2.2.2.2.2.2.1) g31
                        have T32 : yG X d b (yQi X d b Y c F S mc ms Q) (F, k, n) 168 [some (.int (zI a0))] [] := by
                          refine h_bipush (v := zI 12) hC dX8_single_168 rfl ?_
                          exact yr_iret hC hr ho hZ (by decide) h33 dX8_single_170
                        clear h33
                        exact yr_lokAt (v := 58) hC dX8_single_1 Ra0 (by decide) g31 rfl (by decide) T32
                      · skip
                        by_cases g34 : a0 = 59
                        · have h36 := (hw.2.2.2.2.2.2.2.2.2.2.2.1) g34
                          have T35 : yG X d b (yQi X d b Y c F S mc ms Q) (F, k, n) 165 [some (.int (zI a0))] [] := by
                            refine h_bipush (v := zI 10) hC dX8_single_165 rfl ?_
                            exact yr_iret hC hr ho hZ (by decide) h36 dX8_single_167
                          clear h36
                          exact yr_lokAt (v := 59) hC dX8_single_1 Ra0 (by decide) g34 rfl (by decide) T35
                        · skip
                          by_cases g37 : a0 = 60
                          · have h39 := (hw.2.2.2.2.2.2.2.2.2.2.2.2.1) g37
                            have T38 : yG X d b (yQi X d b Y c F S mc ms Q) (F, k, n) 195 [some (.int (zI a0))] [] := by
                              refine h_bipush (v := zI 22) hC dX8_single_195 rfl ?_
                              exact yr_iret hC hr ho hZ (by decide) h39 dX8_single_197
                            clear h39
                            exact yr_lokAt (v := 60) hC dX8_single_1 Ra0 (by decide) g37 rfl (by decide) T38
                          · skip
                            by_cases g40 : a0 = 61
                            · have h42 := (hw.2.2.2.2.2.2.2.2.2.2.2.2.2.1) g40
                              have T41 : yG X d b (yQi X d b Y c F S mc ms Q) (F, k, n) 192 [some (.int (zI a0))] [] := by
                                refine h_bipush (v := zI 20) hC dX8_single_192 rfl ?_
                                exact yr_iret hC hr ho hZ (by decide) h42 dX8_single_194
                              clear h42
                              exact yr_lokAt (v := 61) hC dX8_single_1 Ra0 (by decide) g40 rfl (by decide) T41
                            · skip
                              by_cases g43 : a0 = 62
                              · have h45 := (hw.2.2.2.2.2.2.2.2.2.2.2.2.2.2.1) g43
                                have T44 : yG X d b (yQi X d b Y c F S mc ms Q) (F, k, n) 198 [some (.int (zI a0))] [] := by
                                  refine h_bipush (v := zI 24) hC dX8_single_198 rfl ?_
                                  exact yr_iret hC hr ho hZ (by decide) h45 dX8_single_200
                                clear h45
                                exact yr_lokAt (v := 62) hC dX8_single_1 Ra0 (by decide) g43 rfl (by decide) T44
                              · skip
                                by_cases g46 : a0 = 64
                                · have h48 := (hw.2.2.2.2.2.2.2.2.2.2.2.2.2.2.2.1) g46
                                  have T47 : yG X d b (yQi X d b Y c F S mc ms Q) (F, k, n) 177 [some (.int (zI a0))] [] := by
                                    refine h_bipush (v := zI 15) hC dX8_single_177 rfl ?_
                                    exact yr_iret hC hr ho hZ (by decide) h48 dX8_single_179
                                  clear h48
                                  exact yr_lokAt (v := 64) hC dX8_single_1 Ra0 (by decide) g46 rfl (by decide) T47
                                · skip
                                  by_cases g49 : a0 = 124
                                  · have h51 := (hw.2.2.2.2.2.2.2.2.2.2.2.2.2.2.2.2.1) g49
                                    have T50 : yG X d b (yQi X d b Y c F S mc ms Q) (F, k, n) 207 [some (.int (zI a0))] [] := by
                                      refine h_bipush (v := zI 30) hC dX8_single_207 rfl ?_
                                      exact yr_iret hC hr ho hZ (by decide) h51 dX8_single_209
                                    clear h51
                                    exact yr_lokAt (v := 124) hC dX8_single_1 Ra0 (by decide) g49 rfl (by decide) T50
                                  · skip
                                    by_cases g52 : a0 = 126
                                    · have h54 := (hw.2.2.2.2.2.2.2.2.2.2.2.2.2.2.2.2.2.1) g52
                                      have T53 : yG X d b (yQi X d b Y c F S mc ms Q) (F, k, n) 201 [some (.int (zI a0))] [] := by
                                        refine h_bipush (v := zI 28) hC dX8_single_201 rfl ?_
                                        exact yr_iret hC hr ho hZ (by decide) h54 dX8_single_203
                                      clear h54
                                      exact yr_lokAt (v := 126) hC dX8_single_1 Ra0 (by decide) g52 rfl (by decide) T53
                                    · skip
                                      have h55 := hw.2.2.2.2.2.2.2.2.2.2.2.2.2.2.2.2.2.2 g1 g4 g7 g10 g13 g16 g19 g22 g25 g28 g31 g34 g37 g40 g43 g46 g49 g52
                                      refine yr_lokD (tgt := 210) hC dX8_single_1 Ra0 (by decide) (List.forall_mem_cons.mpr ⟨(fun q => g1 (q)), List.forall_mem_cons.mpr ⟨(fun q => g4 (q)), List.forall_mem_cons.mpr ⟨(fun q => g7 (q)), List.forall_mem_cons.mpr ⟨(fun q => g10 (q)), List.forall_mem_cons.mpr ⟨(fun q => g13 (q)), List.forall_mem_cons.mpr ⟨(fun q => g16 (q)), List.forall_mem_cons.mpr ⟨(fun q => g19 (q)), List.forall_mem_cons.mpr ⟨(fun q => g22 (q)), List.forall_mem_cons.mpr ⟨(fun q => g25 (q)), List.forall_mem_cons.mpr ⟨(fun q => g28 (q)), List.forall_mem_cons.mpr ⟨(fun q => g31 (q)), List.forall_mem_cons.mpr ⟨(fun q => g34 (q)), List.forall_mem_cons.mpr ⟨(fun q => g37 (q)), List.forall_mem_cons.mpr ⟨(fun q => g40 (q)), List.forall_mem_cons.mpr ⟨(fun q => g43 (q)), List.forall_mem_cons.mpr ⟨(fun q => g46 (q)), List.forall_mem_cons.mpr ⟨(fun q => g49 (q)), List.forall_mem_cons.mpr ⟨(fun q => g52 (q)), fun q hq => absurd hq List.not_mem_nil⟩⟩⟩⟩⟩⟩⟩⟩⟩⟩⟩⟩⟩⟩⟩⟩⟩⟩) (by decide) ?_
                                      refine h_iconst (v := zI 1) hC dX8_single_210 rfl ?_
                                      exact yr_iret hC hr ho hZ (by decide) h55 dX8_single_211
theorem dX8_sign_0 : decode cX8_sign 0 = .ok (.iload_n 2, 1) := by decide +kernel
theorem dX8_sign_1 : decode cX8_sign 1 = .ok (.aload_n 0, 1) := by decide +kernel
theorem dX8_sign_2 : decode cX8_sign 2 = .ok (.getfield 47, 3) := by decide +kernel
theorem dX8_sign_5 : decode cX8_sign 5 = .ok (.aload_n 0, 1) := by decide +kernel
theorem dX8_sign_6 : decode cX8_sign 6 = .ok (.getfield 39, 3) := by decide +kernel
theorem dX8_sign_9 : decode cX8_sign 9 = .ok (.iconst 1, 1) := by decide +kernel
theorem dX8_sign_10 : decode cX8_sign 10 = .ok (.iadd, 1) := by decide +kernel
theorem dX8_sign_11 : decode cX8_sign 11 = .ok (.invokevirtual 88, 3) := by decide +kernel
theorem dX8_sign_14 : decode cX8_sign 14 = .ok (.invokestatic 166, 3) := by decide +kernel
theorem dX8_sign_17 : decode cX8_sign 17 = .ok (.istore_n 3, 1) := by decide +kernel
theorem dX8_sign_18 : decode cX8_sign 18 = .ok (.iload_n 3, 1) := by decide +kernel
theorem dX8_sign_19 : decode cX8_sign 19 = .ok (.iconst 1, 1) := by decide +kernel
theorem dX8_sign_20 : decode cX8_sign 20 = .ok (.if_icmp .eq 7, 3) := by decide +kernel
theorem dX8_sign_23 : decode cX8_sign 23 = .ok (.iload_n 3, 1) := by decide +kernel
theorem dX8_sign_24 : decode cX8_sign 24 = .ok (.goto 7, 3) := by decide +kernel
theorem dX8_sign_27 : decode cX8_sign 27 = .ok (.iload_n 2, 1) := by decide +kernel
theorem dX8_sign_28 : decode cX8_sign 28 = .ok (.invokestatic 170, 3) := by decide +kernel
theorem dX8_sign_31 : decode cX8_sign 31 = .ok (.istore 4, 2) := by decide +kernel
theorem dX8_sign_33 : decode cX8_sign 33 = .ok (.aload_n 0, 1) := by decide +kernel
theorem dX8_sign_34 : decode cX8_sign 34 = .ok (.dup, 1) := by decide +kernel
theorem dX8_sign_35 : decode cX8_sign 35 = .ok (.getfield 39, 3) := by decide +kernel
theorem dX8_sign_38 : decode cX8_sign 38 = .ok (.iload_n 3, 1) := by decide +kernel
theorem dX8_sign_39 : decode cX8_sign 39 = .ok (.iconst 1, 1) := by decide +kernel
theorem dX8_sign_40 : decode cX8_sign 40 = .ok (.if_icmp .eq 7, 3) := by decide +kernel
theorem dX8_sign_43 : decode cX8_sign 43 = .ok (.iconst 2, 1) := by decide +kernel
theorem dX8_sign_44 : decode cX8_sign 44 = .ok (.goto 4, 3) := by decide +kernel
theorem dX8_sign_47 : decode cX8_sign 47 = .ok (.iconst 1, 1) := by decide +kernel
theorem dX8_sign_48 : decode cX8_sign 48 = .ok (.iadd, 1) := by decide +kernel
theorem dX8_sign_49 : decode cX8_sign 49 = .ok (.putfield 39, 3) := by decide +kernel
theorem dX8_sign_52 : decode cX8_sign 52 = .ok (.aload_n 0, 1) := by decide +kernel
theorem dX8_sign_53 : decode cX8_sign 53 = .ok (.iload 4, 2) := by decide +kernel
theorem dX8_sign_55 : decode cX8_sign 55 = .ok (.iconst 0, 1) := by decide +kernel
theorem dX8_sign_56 : decode cX8_sign 56 = .ok (.iload_n 1, 1) := by decide +kernel
theorem dX8_sign_57 : decode cX8_sign 57 = .ok (.invokevirtual 99, 3) := by decide +kernel
theorem dX8_sign_60 : decode cX8_sign 60 = .ok (.return_, 1) := by decide +kernel
def wc_Scanner_sign_31 (Q : cS → Prop)  (A0 : cS) (x1 : Int) (x3 : Int) (y0 : Int) : Prop :=
  ((x3 = 1 → (zR ((yv A0 8) + 1)) ∧ wc_Scanner_put (ypv A0 8 ((yv A0 8) + 1)) y0 0 x1 (fun A17 => Q A17)) ∧ (¬ x3 = 1 → (zR ((yv A0 8) + 2)) ∧ wc_Scanner_put (ypv A0 8 ((yv A0 8) + 2)) y0 0 x1 (fun A39 => Q A39)))
def wc_Scanner_sign (A0 : cS) (a0 : Int) (a1 : Int) (Q : cS → Prop) : Prop :=
  (zR ((yv A0 8) + 1)) ∧ wc_Scanner_doubled A0 a1 (yget A0 0 ((yv A0 8) + 1)) (fun r3 A4 => ((r3 = 1 → wc_Scanner_single A4 a1 (fun r13 A14 => wc_Scanner_sign_31 Q  A14 a0 r3 r13)) ∧ (¬ r3 = 1 → wc_Scanner_sign_31 Q  A4 a0 r3 r3)))
set_option maxHeartbeats 4000000 in
set_option maxRecDepth 100000 in
theorem cj_Scanner_sign_31 {X : gX} {d : gD} {b : Nat} {Y : gYt} {c : Nat × Nat} {F0 : gM} {S0 : gSt} {mc ms : Nat} (hC : gC RX8 cX8_sign 5 none "sign" (gR 4 mc ms) d b X) (hr : hRm X b) {Q : cS → Prop}   {u : hU} {S : gSt} {A0 : cS} {x1 : Int} {x3 : Int} {y0 : Int} (Rx1 : zR x1) (Rx3 : zR x3) (Ry0 : zR y0) (ho : yOk X b u) (hZ : yZ d b Y c F0 S0 u S A0) (hw : wc_Scanner_sign_31 Q  A0 x1 x3 y0) : yG X d b (yQv X d b Y c F0 S0 mc ms Q) u 31 [some (.ref (gO' Y 3)), some (.int (zI x1)), none, some (.int (zI x3)), none] [.int (zI y0)] := by
  unfold wc_Scanner_sign_31 at hw
  refine h_istore (lv' := [some (.ref (gO' Y 3)), some (.int (zI x1)), none, some (.int (zI x3)), some (.int (zI y0))]) hC dX8_sign_31 (Nat.le_of_ble_eq_true rfl) rfl rfl ?_
  refine h_aload_n hC dX8_sign_33 rfl ?_
  refine h_dup hC dX8_sign_34 rfl ?_
  refine h_get hC fl_X8_39 (hZ.w.o 3 (by decide)) rfl dX8_sign_35 ?_
  refine yr_sv (e := (yv A0 8)) hZ 8 rfl ?_
  refine h_iload_n hC dX8_sign_38 rfl ?_
  refine h_iconst (v := zI 1) hC dX8_sign_39 rfl ?_
  refine yr_icmp_eq (tgt := 47) hC Rx3 (by decide) dX8_sign_40 (by decide) (fun c1 => ?_) (fun c1 => ?_)
  · have h2 := hw.1 c1
    refine h_iconst (v := zI 1) hC dX8_sign_47 rfl ?_
    refine yr_iadd hC dX8_sign_48 ?_
    obtain ⟨o3, h4⟩ := h2
    refine hi_putx (i := 3) (kx := 8) hC hZ.hi (by decide) fl_X8_39 rfl rfl rfl (Nat.le_of_ble_eq_true rfl) rfl gsame_8 (fun q => absurd q (by decide)) dX8_sign_49 (fun F5 S6 I7 K8 s9 v10 p11 => ?_)
    have hZ12 := hZ.put I7 K8 s9 v10 o3 rfl
    clear I7 K8 s9 v10 p11
    refine yr_nu ho hZ12 (fun u13 o14 hZ15 => ?_)
    refine h_aload_n hC dX8_sign_52 rfl ?_
    refine h_iload hC dX8_sign_53 rfl ?_
    refine h_iconst (v := zI 0) hC dX8_sign_55 rfl ?_
    refine h_iload_n hC dX8_sign_56 rfl ?_
    refine yr_callVv (As := [.int (zI y0), .int (zI 0), .int (zI x1)]) hC hr o14 hZ15 rfl (hZ15.w.o 3 (by decide)) (cm_Scanner_put X.la d b Ry0 (by decide) Rx1 hZ15.rs h4) cl_X8_99 rfl rfl (Nat.le_of_ble_eq_true rfl) (hFr_of (Nat.le_of_ble_eq_true rfl) (Nat.le_of_ble_eq_true rfl)) dX8_sign_57 (fun A17 u18 S19 o21 hZ22 h23 => ?_)
    exact yr_vret hC hr o21 hZ22 h23 dX8_sign_60
  · have h24 := hw.2 c1
    refine h_iconst (v := zI 2) hC dX8_sign_43 rfl ?_
    refine h_goto (tgt := 48) hC dX8_sign_44 (by decide) ?_
    refine yr_iadd hC dX8_sign_48 ?_
    obtain ⟨o25, h26⟩ := h24
    refine hi_putx (i := 3) (kx := 8) hC hZ.hi (by decide) fl_X8_39 rfl rfl rfl (Nat.le_of_ble_eq_true rfl) rfl gsame_8 (fun q => absurd q (by decide)) dX8_sign_49 (fun F27 S28 I29 K30 s31 v32 p33 => ?_)
    have hZ34 := hZ.put I29 K30 s31 v32 o25 rfl
    clear I29 K30 s31 v32 p33
    refine yr_nu ho hZ34 (fun u35 o36 hZ37 => ?_)
    refine h_aload_n hC dX8_sign_52 rfl ?_
    refine h_iload hC dX8_sign_53 rfl ?_
    refine h_iconst (v := zI 0) hC dX8_sign_55 rfl ?_
    refine h_iload_n hC dX8_sign_56 rfl ?_
    refine yr_callVv (As := [.int (zI y0), .int (zI 0), .int (zI x1)]) hC hr o36 hZ37 rfl (hZ37.w.o 3 (by decide)) (cm_Scanner_put X.la d b Ry0 (by decide) Rx1 hZ37.rs h26) cl_X8_99 rfl rfl (Nat.le_of_ble_eq_true rfl) (hFr_of (Nat.le_of_ble_eq_true rfl) (Nat.le_of_ble_eq_true rfl)) dX8_sign_57 (fun A39 u40 S41 o43 hZ44 h45 => ?_)
    exact yr_vret hC hr o43 hZ44 h45 dX8_sign_60
set_option maxHeartbeats 4000000 in
set_option maxRecDepth 100000 in
theorem cm_Scanner_sign (l : Launch) (d : gD) (b : Nat) {Y : gYt} {c : Nat × Nat} {F : gM} {k n : Nat} {S : gSt} {A0 : cS} {a0 : Int} {a1 : Int} (Ra0 : zR a0) (Ra1 : zR a1) {Q : cS → Prop} (hZ : yZ d b Y c F S (F, k, n) S A0) (hw : wc_Scanner_sign A0 a0 a1 Q) : hMv l d b yX8_sign cX8_sign 5 4 k n F [.ref (gO' Y 3), .int (zI a0), .int (zI a1)] (yPv d b Y c F S Q) := by
  intro mc ms
  refine hM_of2 rfl (nL := 5) (Nat.le_of_ble_eq_true rfl) ?_
  intro X hX hC hr ho; subst hX
  show yG X d b (yQv X d b Y c F S mc ms Q) (F, k, n) 0 [some (.ref (gO' Y 3)), some (.int (zI a0)), some (.int (zI a1)), none, none] []
  unfold wc_Scanner_sign at hw
  refine h_iload_n hC dX8_sign_0 rfl ?_
  refine h_aload_n hC dX8_sign_1 rfl ?_
  refine h_get hC fl_X8_47 (hZ.w.o 3 (by decide)) rfl dX8_sign_2 ?_
  refine h_aload_n hC dX8_sign_5 rfl ?_
  refine h_get hC fl_X8_39 (hZ.w.o 3 (by decide)) rfl dX8_sign_6 ?_
  refine yr_sv (e := (yv A0 8)) hZ 8 rfl ?_
  refine h_iconst (v := zI 1) hC dX8_sign_9 rfl ?_
  refine yr_iadd hC dX8_sign_10 ?_
  obtain ⟨o1, h2⟩ := hw
  refine yr_get (j := 0) (e := (yget A0 0 ((yv A0 8) + 1))) hC hr ho hZ (by decide) o1 rfl cl_X8_88 rfl (Nat.le_of_ble_eq_true rfl) (hFr_of (Nat.le_of_ble_eq_true rfl) (Nat.le_of_ble_eq_true rfl)) dX8_sign_11 ?_
  refine yr_callSi (As := [.int (zI a1), .int (zI (yget A0 0 ((yv A0 8) + 1)))]) hC hr ho hZ (cm_Scanner_doubled X.la d b Ra1 (hZ.rg 0 _) hZ.rs h2) cl_X8_166 rfl rfl (Nat.le_of_ble_eq_true rfl) (hFr_of (Nat.le_of_ble_eq_true rfl) (Nat.le_of_ble_eq_true rfl)) dX8_sign_14 (fun r3 A4 u5 S6 R7 o8 hZ9 h10 => ?_)
  refine h_istore_n (lv' := [some (.ref (gO' Y 3)), some (.int (zI a0)), some (.int (zI a1)), some (.int (zI r3)), none]) hC dX8_sign_17 (Nat.le_of_ble_eq_true rfl) rfl rfl ?_
  refine h_iload_n hC dX8_sign_18 rfl ?_
  refine h_iconst (v := zI 1) hC dX8_sign_19 rfl ?_
  refine yr_icmp_eq (tgt := 27) hC R7 (by decide) dX8_sign_20 (by decide) (fun c11 => ?_) (fun c11 => ?_)
  · have h12 := h10.1 c11
    refine h_iload_n hC dX8_sign_27 rfl ?_
    refine yr_callSi (As := [.int (zI a1)]) hC hr o8 hZ9 (cm_Scanner_single X.la d b Ra1 hZ9.rs h12) cl_X8_170 rfl rfl (Nat.le_of_ble_eq_true rfl) (hFr_of (Nat.le_of_ble_eq_true rfl) (Nat.le_of_ble_eq_true rfl)) dX8_sign_28 (fun r13 A14 u15 S16 R17 o18 hZ19 h20 => ?_)
    refine h_lv (lv' := [some (.ref (gO' Y 3)), some (.int (zI a0)), none, some (.int (zI r3)), none]) ⟨rfl, rfl, rfl, trivial⟩ ?_
    exact cj_Scanner_sign_31 hC hr  Ra0 R7 R17 o18 hZ19 h20
  · have h21 := h10.2 c11
    refine h_iload_n hC dX8_sign_23 rfl ?_
    refine h_goto (tgt := 31) hC dX8_sign_24 (by decide) ?_
    refine h_lv (lv' := [some (.ref (gO' Y 3)), some (.int (zI a0)), none, some (.int (zI r3)), none]) ⟨rfl, rfl, rfl, trivial⟩ ?_
    exact cj_Scanner_sign_31 hC hr  Ra0 R7 R7 o8 hZ9 h21
theorem dX8_token_0 : decode cX8_token 0 = .ok (.aload_n 0, 1) := by decide +kernel
theorem dX8_token_1 : decode cX8_token 1 = .ok (.getfield 39, 3) := by decide +kernel
theorem dX8_token_4 : decode cX8_token 4 = .ok (.istore_n 1, 1) := by decide +kernel
theorem dX8_token_5 : decode cX8_token 5 = .ok (.aload_n 0, 1) := by decide +kernel
theorem dX8_token_6 : decode cX8_token 6 = .ok (.getfield 47, 3) := by decide +kernel
theorem dX8_token_9 : decode cX8_token 9 = .ok (.aload_n 0, 1) := by decide +kernel
theorem dX8_token_10 : decode cX8_token 10 = .ok (.getfield 39, 3) := by decide +kernel
theorem dX8_token_13 : decode cX8_token 13 = .ok (.invokevirtual 88, 3) := by decide +kernel
theorem dX8_token_16 : decode cX8_token 16 = .ok (.istore_n 2, 1) := by decide +kernel
theorem dX8_token_17 : decode cX8_token 17 = .ok (.iload_n 2, 1) := by decide +kernel
theorem dX8_token_18 : decode cX8_token 18 = .ok (.invokestatic 119, 3) := by decide +kernel
theorem dX8_token_21 : decode cX8_token 21 = .ok (.ifCond .eq 11, 3) := by decide +kernel
theorem dX8_token_24 : decode cX8_token 24 = .ok (.aload_n 0, 1) := by decide +kernel
theorem dX8_token_25 : decode cX8_token 25 = .ok (.iload_n 1, 1) := by decide +kernel
theorem dX8_token_26 : decode cX8_token 26 = .ok (.invokevirtual 122, 3) := by decide +kernel
theorem dX8_token_29 : decode cX8_token 29 = .ok (.goto 193, 3) := by decide +kernel
theorem dX8_token_32 : decode cX8_token 32 = .ok (.iload_n 2, 1) := by decide +kernel
theorem dX8_token_33 : decode cX8_token 33 = .ok (.invokestatic 125, 3) := by decide +kernel
theorem dX8_token_36 : decode cX8_token 36 = .ok (.ifCond .eq 17, 3) := by decide +kernel
theorem dX8_token_39 : decode cX8_token 39 = .ok (.aload_n 0, 1) := by decide +kernel
theorem dX8_token_40 : decode cX8_token 40 = .ok (.iload_n 1, 1) := by decide +kernel
theorem dX8_token_41 : decode cX8_token 41 = .ok (.aload_n 0, 1) := by decide +kernel
theorem dX8_token_42 : decode cX8_token 42 = .ok (.getfield 39, 3) := by decide +kernel
theorem dX8_token_45 : decode cX8_token 45 = .ok (.bipush 10, 2) := by decide +kernel
theorem dX8_token_47 : decode cX8_token 47 = .ok (.invokevirtual 128, 3) := by decide +kernel
theorem dX8_token_50 : decode cX8_token 50 = .ok (.goto 172, 3) := by decide +kernel
theorem dX8_token_53 : decode cX8_token 53 = .ok (.iload_n 2, 1) := by decide +kernel
theorem dX8_token_54 : decode cX8_token 54 = .ok (.bipush 35, 2) := by decide +kernel
theorem dX8_token_56 : decode cX8_token 56 = .ok (.if_icmp .ne 65, 3) := by decide +kernel
theorem dX8_token_59 : decode cX8_token 59 = .ok (.aload_n 0, 1) := by decide +kernel
theorem dX8_token_60 : decode cX8_token 60 = .ok (.getfield 47, 3) := by decide +kernel
theorem dX8_token_63 : decode cX8_token 63 = .ok (.aload_n 0, 1) := by decide +kernel
theorem dX8_token_64 : decode cX8_token 64 = .ok (.getfield 39, 3) := by decide +kernel
theorem dX8_token_67 : decode cX8_token 67 = .ok (.iconst 1, 1) := by decide +kernel
theorem dX8_token_68 : decode cX8_token 68 = .ok (.iadd, 1) := by decide +kernel
theorem dX8_token_69 : decode cX8_token 69 = .ok (.invokevirtual 88, 3) := by decide +kernel
theorem dX8_token_72 : decode cX8_token 72 = .ok (.bipush 88, 2) := by decide +kernel
theorem dX8_token_74 : decode cX8_token 74 = .ok (.if_icmp .ne 7, 3) := by decide +kernel
theorem dX8_token_77 : decode cX8_token 77 = .ok (.iconst 1, 1) := by decide +kernel
theorem dX8_token_78 : decode cX8_token 78 = .ok (.goto 4, 3) := by decide +kernel
theorem dX8_token_81 : decode cX8_token 81 = .ok (.iconst 0, 1) := by decide +kernel
theorem dX8_token_82 : decode cX8_token 82 = .ok (.istore_n 3, 1) := by decide +kernel
theorem dX8_token_83 : decode cX8_token 83 = .ok (.aload_n 0, 1) := by decide +kernel
theorem dX8_token_84 : decode cX8_token 84 = .ok (.iload_n 1, 1) := by decide +kernel
theorem dX8_token_85 : decode cX8_token 85 = .ok (.iload_n 3, 1) := by decide +kernel
theorem dX8_token_86 : decode cX8_token 86 = .ok (.ifCond .eq 12, 3) := by decide +kernel
theorem dX8_token_89 : decode cX8_token 89 = .ok (.aload_n 0, 1) := by decide +kernel
theorem dX8_token_90 : decode cX8_token 90 = .ok (.getfield 39, 3) := by decide +kernel
theorem dX8_token_93 : decode cX8_token 93 = .ok (.iconst 2, 1) := by decide +kernel
theorem dX8_token_94 : decode cX8_token 94 = .ok (.iadd, 1) := by decide +kernel
theorem dX8_token_95 : decode cX8_token 95 = .ok (.goto 9, 3) := by decide +kernel
theorem dX8_token_98 : decode cX8_token 98 = .ok (.aload_n 0, 1) := by decide +kernel
theorem dX8_token_99 : decode cX8_token 99 = .ok (.getfield 39, 3) := by decide +kernel
theorem dX8_token_102 : decode cX8_token 102 = .ok (.iconst 1, 1) := by decide +kernel
theorem dX8_token_103 : decode cX8_token 103 = .ok (.iadd, 1) := by decide +kernel
theorem dX8_token_104 : decode cX8_token 104 = .ok (.iload_n 3, 1) := by decide +kernel
theorem dX8_token_105 : decode cX8_token 105 = .ok (.ifCond .eq 8, 3) := by decide +kernel
theorem dX8_token_108 : decode cX8_token 108 = .ok (.bipush 16, 2) := by decide +kernel
theorem dX8_token_110 : decode cX8_token 110 = .ok (.goto 5, 3) := by decide +kernel
theorem dX8_token_113 : decode cX8_token 113 = .ok (.bipush 8, 2) := by decide +kernel
theorem dX8_token_115 : decode cX8_token 115 = .ok (.invokevirtual 128, 3) := by decide +kernel
theorem dX8_token_118 : decode cX8_token 118 = .ok (.goto 104, 3) := by decide +kernel
theorem dX8_token_121 : decode cX8_token 121 = .ok (.iload_n 2, 1) := by decide +kernel
theorem dX8_token_122 : decode cX8_token 122 = .ok (.bipush 39, 2) := by decide +kernel
theorem dX8_token_124 : decode cX8_token 124 = .ok (.if_icmp .ne 64, 3) := by decide +kernel
theorem dX8_token_127 : decode cX8_token 127 = .ok (.aload_n 0, 1) := by decide +kernel
theorem dX8_token_128 : decode cX8_token 128 = .ok (.dup, 1) := by decide +kernel
theorem dX8_token_129 : decode cX8_token 129 = .ok (.getfield 39, 3) := by decide +kernel
theorem dX8_token_132 : decode cX8_token 132 = .ok (.iconst 1, 1) := by decide +kernel
theorem dX8_token_133 : decode cX8_token 133 = .ok (.iadd, 1) := by decide +kernel
theorem dX8_token_134 : decode cX8_token 134 = .ok (.putfield 39, 3) := by decide +kernel
theorem dX8_token_137 : decode cX8_token 137 = .ok (.aload_n 0, 1) := by decide +kernel
theorem dX8_token_138 : decode cX8_token 138 = .ok (.bipush 39, 2) := by decide +kernel
theorem dX8_token_140 : decode cX8_token 140 = .ok (.invokevirtual 131, 3) := by decide +kernel
theorem dX8_token_143 : decode cX8_token 143 = .ok (.istore_n 3, 1) := by decide +kernel
theorem dX8_token_144 : decode cX8_token 144 = .ok (.aload_n 0, 1) := by decide +kernel
theorem dX8_token_145 : decode cX8_token 145 = .ok (.iload_n 3, 1) := by decide +kernel
theorem dX8_token_146 : decode cX8_token 146 = .ok (.ifCond .lt 23, 3) := by decide +kernel
theorem dX8_token_149 : decode cX8_token 149 = .ok (.aload_n 0, 1) := by decide +kernel
theorem dX8_token_150 : decode cX8_token 150 = .ok (.getfield 47, 3) := by decide +kernel
theorem dX8_token_153 : decode cX8_token 153 = .ok (.aload_n 0, 1) := by decide +kernel
theorem dX8_token_154 : decode cX8_token 154 = .ok (.getfield 39, 3) := by decide +kernel
theorem dX8_token_157 : decode cX8_token 157 = .ok (.invokevirtual 88, 3) := by decide +kernel
theorem dX8_token_160 : decode cX8_token 160 = .ok (.bipush 39, 2) := by decide +kernel
theorem dX8_token_162 : decode cX8_token 162 = .ok (.if_icmp .ne 7, 3) := by decide +kernel
theorem dX8_token_165 : decode cX8_token 165 = .ok (.iconst 3, 1) := by decide +kernel
theorem dX8_token_166 : decode cX8_token 166 = .ok (.goto 4, 3) := by decide +kernel
theorem dX8_token_169 : decode cX8_token 169 = .ok (.iconst 1, 1) := by decide +kernel
theorem dX8_token_170 : decode cX8_token 170 = .ok (.iload_n 3, 1) := by decide +kernel
theorem dX8_token_171 : decode cX8_token 171 = .ok (.iload_n 1, 1) := by decide +kernel
theorem dX8_token_172 : decode cX8_token 172 = .ok (.invokevirtual 99, 3) := by decide +kernel
theorem dX8_token_175 : decode cX8_token 175 = .ok (.aload_n 0, 1) := by decide +kernel
theorem dX8_token_176 : decode cX8_token 176 = .ok (.dup, 1) := by decide +kernel
theorem dX8_token_177 : decode cX8_token 177 = .ok (.getfield 39, 3) := by decide +kernel
theorem dX8_token_180 : decode cX8_token 180 = .ok (.iconst 1, 1) := by decide +kernel
theorem dX8_token_181 : decode cX8_token 181 = .ok (.iadd, 1) := by decide +kernel
theorem dX8_token_182 : decode cX8_token 182 = .ok (.putfield 39, 3) := by decide +kernel
theorem dX8_token_185 : decode cX8_token 185 = .ok (.goto 37, 3) := by decide +kernel
theorem dX8_token_188 : decode cX8_token 188 = .ok (.iload_n 2, 1) := by decide +kernel
theorem dX8_token_189 : decode cX8_token 189 = .ok (.bipush 34, 2) := by decide +kernel
theorem dX8_token_191 : decode cX8_token 191 = .ok (.if_icmp .ne 11, 3) := by decide +kernel
theorem dX8_token_194 : decode cX8_token 194 = .ok (.aload_n 0, 1) := by decide +kernel
theorem dX8_token_195 : decode cX8_token 195 = .ok (.iload_n 1, 1) := by decide +kernel
theorem dX8_token_196 : decode cX8_token 196 = .ok (.invokevirtual 134, 3) := by decide +kernel
theorem dX8_token_199 : decode cX8_token 199 = .ok (.goto 23, 3) := by decide +kernel
theorem dX8_token_202 : decode cX8_token 202 = .ok (.iload_n 2, 1) := by decide +kernel
theorem dX8_token_203 : decode cX8_token 203 = .ok (.bipush 36, 2) := by decide +kernel
theorem dX8_token_205 : decode cX8_token 205 = .ok (.if_icmp .ne 11, 3) := by decide +kernel
theorem dX8_token_208 : decode cX8_token 208 = .ok (.aload_n 0, 1) := by decide +kernel
theorem dX8_token_209 : decode cX8_token 209 = .ok (.iload_n 1, 1) := by decide +kernel
theorem dX8_token_210 : decode cX8_token 210 = .ok (.invokevirtual 137, 3) := by decide +kernel
theorem dX8_token_213 : decode cX8_token 213 = .ok (.goto 9, 3) := by decide +kernel
theorem dX8_token_216 : decode cX8_token 216 = .ok (.aload_n 0, 1) := by decide +kernel
theorem dX8_token_217 : decode cX8_token 217 = .ok (.iload_n 1, 1) := by decide +kernel
theorem dX8_token_218 : decode cX8_token 218 = .ok (.iload_n 2, 1) := by decide +kernel
theorem dX8_token_219 : decode cX8_token 219 = .ok (.invokevirtual 140, 3) := by decide +kernel
theorem dX8_token_222 : decode cX8_token 222 = .ok (.return_, 1) := by decide +kernel
def wc_Scanner_token_82 (Q : cS → Prop)  (A0 : cS) (x1 : Int) (y0 : Int) : Prop :=
  ((y0 = 0 → ((y0 = 0 → (zR ((yv A0 8) + 1)) ∧ wc_Scanner_number A0 x1 ((yv A0 8) + 1) 8 (fun A8 => Q A8)) ∧ (¬ y0 = 0 → (zR ((yv A0 8) + 1)) ∧ wc_Scanner_number A0 x1 ((yv A0 8) + 1) 16 (fun A19 => Q A19)))) ∧ (¬ y0 = 0 → ((y0 = 0 → (zR ((yv A0 8) + 2)) ∧ wc_Scanner_number A0 x1 ((yv A0 8) + 2) 8 (fun A32 => Q A32)) ∧ (¬ y0 = 0 → (zR ((yv A0 8) + 2)) ∧ wc_Scanner_number A0 x1 ((yv A0 8) + 2) 16 (fun A43 => Q A43)))))
def wc_Scanner_token (A0 : cS)  (Q : cS → Prop) : Prop :=
  wc_Scanner_isLetter A0 (yget A0 0 (yv A0 8)) (fun r1 A2 => ((r1 = 0 → wc_Scanner_isDigit A2 (yget A0 0 (yv A0 8)) (fun r11 A12 => ((r11 = 0 → ((¬ (yget A0 0 (yv A0 8)) = 35 → ((¬ (yget A0 0 (yv A0 8)) = 39 → ((¬ (yget A0 0 (yv A0 8)) = 34 → ((¬ (yget A0 0 (yv A0 8)) = 36 → wc_Scanner_sign A12 (yv A0 8) (yget A0 0 (yv A0 8)) (fun A30 => Q A30)) ∧ ((yget A0 0 (yv A0 8)) = 36 → wc_Scanner_section A12 (yv A0 8) (fun A39 => Q A39)))) ∧ ((yget A0 0 (yv A0 8)) = 34 → wc_Scanner_string A12 (yv A0 8) (fun A48 => Q A48)))) ∧ ((yget A0 0 (yv A0 8)) = 39 → (zR ((yv A12 8) + 1)) ∧ wc_Scanner_quoted (ypv A12 8 ((yv A12 8) + 1)) 39 (fun r69 A70 => ((r69 < 0 → wc_Scanner_put A70 1 r69 (yv A0 8) (fun A80 => (zR ((yv A80 8) + 1)) ∧ Q (ypv A80 8 ((yv A80 8) + 1)))) ∧ (¬ r69 < 0 → ((¬ (yget A70 0 (yv A70 8)) = 39 → wc_Scanner_put A70 1 r69 (yv A0 8) (fun A104 => (zR ((yv A104 8) + 1)) ∧ Q (ypv A104 8 ((yv A104 8) + 1)))) ∧ ((yget A70 0 (yv A70 8)) = 39 → wc_Scanner_put A70 3 r69 (yv A0 8) (fun A126 => (zR ((yv A126 8) + 1)) ∧ Q (ypv A126 8 ((yv A126 8) + 1))))))))))) ∧ ((yget A0 0 (yv A0 8)) = 35 → (zR ((yv A12 8) + 1)) ∧ ((¬ (yget A12 0 ((yv A12 8) + 1)) = 88 → wc_Scanner_token_82 Q  A12 (yv A0 8) 0) ∧ ((yget A12 0 ((yv A12 8) + 1)) = 88 → wc_Scanner_token_82 Q  A12 (yv A0 8) 1))))) ∧ (¬ r11 = 0 → wc_Scanner_number A12 (yv A0 8) (yv A12 8) 10 (fun A154 => Q A154))))) ∧ (¬ r1 = 0 → wc_Scanner_name A2 (yv A0 8) (fun A163 => Q A163))))
set_option maxHeartbeats 4000000 in
set_option maxRecDepth 100000 in
theorem cj_Scanner_token_82 {X : gX} {d : gD} {b : Nat} {Y : gYt} {c : Nat × Nat} {F0 : gM} {S0 : gSt} {mc ms : Nat} (hC : gC RX8 cX8_token 4 none "token" (gR 5 mc ms) d b X) (hr : hRm X b) {Q : cS → Prop}   {u : hU} {S : gSt} {A0 : cS} {x1 : Int} {y0 : Int} (Rx1 : zR x1) (Ry0 : zR y0) (ho : yOk X b u) (hZ : yZ d b Y c F0 S0 u S A0) (hw : wc_Scanner_token_82 Q  A0 x1 y0) : yG X d b (yQv X d b Y c F0 S0 mc ms Q) u 82 [some (.ref (gO' Y 3)), some (.int (zI x1)), none, none] [.int (zI y0)] := by
  unfold wc_Scanner_token_82 at hw
  refine h_istore_n (lv' := [some (.ref (gO' Y 3)), some (.int (zI x1)), none, some (.int (zI y0))]) hC dX8_token_82 (Nat.le_of_ble_eq_true rfl) rfl rfl ?_
  refine h_aload_n hC dX8_token_83 rfl ?_
  refine h_iload_n hC dX8_token_84 rfl ?_
  refine h_iload_n hC dX8_token_85 rfl ?_
  refine yr_if_eq (tgt := 98) hC Ry0 dX8_token_86 (by decide) (fun c1 => ?_) (fun c1 => ?_)
  · have h2 := hw.1 c1
    refine h_aload_n hC dX8_token_98 rfl ?_
    refine h_get hC fl_X8_39 (hZ.w.o 3 (by decide)) rfl dX8_token_99 ?_
    refine yr_sv (e := (yv A0 8)) hZ 8 rfl ?_
    refine h_iconst (v := zI 1) hC dX8_token_102 rfl ?_
    refine yr_iadd hC dX8_token_103 ?_
    refine h_iload_n hC dX8_token_104 rfl ?_
    refine yr_if_eq (tgt := 113) hC Ry0 dX8_token_105 (by decide) (fun c3 => ?_) (fun c3 => ?_)
    · have h4 := h2.1 c3
      refine h_bipush (v := zI 8) hC dX8_token_113 rfl ?_
      obtain ⟨o5, h6⟩ := h4
      refine yr_callVv (As := [.int (zI x1), .int (zI ((yv A0 8) + 1)), .int (zI 8)]) hC hr ho hZ rfl (hZ.w.o 3 (by decide)) (cm_Scanner_number X.la d b Rx1 o5 (by decide) hZ.rs h6) cl_X8_128 rfl rfl (Nat.le_of_ble_eq_true rfl) (hFr_of (Nat.le_of_ble_eq_true rfl) (Nat.le_of_ble_eq_true rfl)) dX8_token_115 (fun A8 u9 S10 o12 hZ13 h14 => ?_)
      refine h_goto (tgt := 222) hC dX8_token_118 (by decide) ?_
      exact yr_vret hC hr o12 hZ13 h14 dX8_token_222
    · have h15 := h2.2 c3
      refine h_bipush (v := zI 16) hC dX8_token_108 rfl ?_
      refine h_goto (tgt := 115) hC dX8_token_110 (by decide) ?_
      obtain ⟨o16, h17⟩ := h15
      refine yr_callVv (As := [.int (zI x1), .int (zI ((yv A0 8) + 1)), .int (zI 16)]) hC hr ho hZ rfl (hZ.w.o 3 (by decide)) (cm_Scanner_number X.la d b Rx1 o16 (by decide) hZ.rs h17) cl_X8_128 rfl rfl (Nat.le_of_ble_eq_true rfl) (hFr_of (Nat.le_of_ble_eq_true rfl) (Nat.le_of_ble_eq_true rfl)) dX8_token_115 (fun A19 u20 S21 o23 hZ24 h25 => ?_)
      refine h_goto (tgt := 222) hC dX8_token_118 (by decide) ?_
      exact yr_vret hC hr o23 hZ24 h25 dX8_token_222
  · have h26 := hw.2 c1
    refine h_aload_n hC dX8_token_89 rfl ?_
    refine h_get hC fl_X8_39 (hZ.w.o 3 (by decide)) rfl dX8_token_90 ?_
    refine yr_sv (e := (yv A0 8)) hZ 8 rfl ?_
    refine h_iconst (v := zI 2) hC dX8_token_93 rfl ?_
    refine yr_iadd hC dX8_token_94 ?_
    refine h_goto (tgt := 104) hC dX8_token_95 (by decide) ?_
    refine h_iload_n hC dX8_token_104 rfl ?_
    refine yr_if_eq (tgt := 113) hC Ry0 dX8_token_105 (by decide) (fun c27 => ?_) (fun c27 => ?_)
    · have h28 := h26.1 c27
      refine h_bipush (v := zI 8) hC dX8_token_113 rfl ?_
      obtain ⟨o29, h30⟩ := h28
      refine yr_callVv (As := [.int (zI x1), .int (zI ((yv A0 8) + 2)), .int (zI 8)]) hC hr ho hZ rfl (hZ.w.o 3 (by decide)) (cm_Scanner_number X.la d b Rx1 o29 (by decide) hZ.rs h30) cl_X8_128 rfl rfl (Nat.le_of_ble_eq_true rfl) (hFr_of (Nat.le_of_ble_eq_true rfl) (Nat.le_of_ble_eq_true rfl)) dX8_token_115 (fun A32 u33 S34 o36 hZ37 h38 => ?_)
      refine h_goto (tgt := 222) hC dX8_token_118 (by decide) ?_
      exact yr_vret hC hr o36 hZ37 h38 dX8_token_222
    · have h39 := h26.2 c27
      refine h_bipush (v := zI 16) hC dX8_token_108 rfl ?_
      refine h_goto (tgt := 115) hC dX8_token_110 (by decide) ?_
      obtain ⟨o40, h41⟩ := h39
      refine yr_callVv (As := [.int (zI x1), .int (zI ((yv A0 8) + 2)), .int (zI 16)]) hC hr ho hZ rfl (hZ.w.o 3 (by decide)) (cm_Scanner_number X.la d b Rx1 o40 (by decide) hZ.rs h41) cl_X8_128 rfl rfl (Nat.le_of_ble_eq_true rfl) (hFr_of (Nat.le_of_ble_eq_true rfl) (Nat.le_of_ble_eq_true rfl)) dX8_token_115 (fun A43 u44 S45 o47 hZ48 h49 => ?_)
      refine h_goto (tgt := 222) hC dX8_token_118 (by decide) ?_
      exact yr_vret hC hr o47 hZ48 h49 dX8_token_222
set_option maxHeartbeats 4000000 in
set_option maxRecDepth 100000 in
theorem cm_Scanner_token (l : Launch) (d : gD) (b : Nat) {Y : gYt} {c : Nat × Nat} {F : gM} {k n : Nat} {S : gSt} {A0 : cS}   {Q : cS → Prop} (hZ : yZ d b Y c F S (F, k, n) S A0) (hw : wc_Scanner_token A0  Q) : hMv l d b yX8_token cX8_token 4 5 k n F [.ref (gO' Y 3)] (yPv d b Y c F S Q) := by
  intro mc ms
  refine hM_of2 rfl (nL := 4) (Nat.le_of_ble_eq_true rfl) ?_
  intro X hX hC hr ho; subst hX
  show yG X d b (yQv X d b Y c F S mc ms Q) (F, k, n) 0 [some (.ref (gO' Y 3)), none, none, none] []
  unfold wc_Scanner_token at hw
  refine h_aload_n hC dX8_token_0 rfl ?_
  refine h_get hC fl_X8_39 (hZ.w.o 3 (by decide)) rfl dX8_token_1 ?_
  refine yr_sv (e := (yv A0 8)) hZ 8 rfl ?_
  refine h_istore_n (lv' := [some (.ref (gO' Y 3)), some (.int (zI (yv A0 8))), none, none]) hC dX8_token_4 (Nat.le_of_ble_eq_true rfl) rfl rfl ?_
  refine h_aload_n hC dX8_token_5 rfl ?_
  refine h_get hC fl_X8_47 (hZ.w.o 3 (by decide)) rfl dX8_token_6 ?_
  refine h_aload_n hC dX8_token_9 rfl ?_
  refine h_get hC fl_X8_39 (hZ.w.o 3 (by decide)) rfl dX8_token_10 ?_
  refine yr_sv (e := (yv A0 8)) hZ 8 rfl ?_
  refine yr_get (j := 0) (e := (yget A0 0 (yv A0 8))) hC hr ho hZ (by decide) (hZ.rv 8) rfl cl_X8_88 rfl (Nat.le_of_ble_eq_true rfl) (hFr_of (Nat.le_of_ble_eq_true rfl) (Nat.le_of_ble_eq_true rfl)) dX8_token_13 ?_
  refine h_istore_n (lv' := [some (.ref (gO' Y 3)), some (.int (zI (yv A0 8))), some (.int (zI (yget A0 0 (yv A0 8)))), none]) hC dX8_token_16 (Nat.le_of_ble_eq_true rfl) rfl rfl ?_
  refine h_iload_n hC dX8_token_17 rfl ?_
  refine yr_callSi (As := [.int (zI (yget A0 0 (yv A0 8)))]) hC hr ho hZ (cm_Scanner_isLetter X.la d b (hZ.rg 0 _) hZ.rs hw) cl_X8_119 rfl rfl (Nat.le_of_ble_eq_true rfl) (hFr_of (Nat.le_of_ble_eq_true rfl) (Nat.le_of_ble_eq_true rfl)) dX8_token_18 (fun r1 A2 u3 S4 R5 o6 hZ7 h8 => ?_)
  refine yr_if_eq (tgt := 32) hC R5 dX8_token_21 (by decide) (fun c9 => ?_) (fun c9 => ?_)
  · have h10 := h8.1 c9
    refine h_iload_n hC dX8_token_32 rfl ?_
    refine yr_callSi (As := [.int (zI (yget A0 0 (yv A0 8)))]) hC hr o6 hZ7 (cm_Scanner_isDigit X.la d b (hZ.rg 0 _) hZ7.rs h10) cl_X8_125 rfl rfl (Nat.le_of_ble_eq_true rfl) (hFr_of (Nat.le_of_ble_eq_true rfl) (Nat.le_of_ble_eq_true rfl)) dX8_token_33 (fun r11 A12 u13 S14 R15 o16 hZ17 h18 => ?_)
    refine yr_if_eq (tgt := 53) hC R15 dX8_token_36 (by decide) (fun c19 => ?_) (fun c19 => ?_)
    · have h20 := h18.1 c19
      refine h_iload_n hC dX8_token_53 rfl ?_
      refine h_bipush (v := zI 35) hC dX8_token_54 rfl ?_
      refine yr_icmp_ne (tgt := 121) hC (hZ.rg 0 _) (by decide) dX8_token_56 (by decide) (fun c21 => ?_) (fun c21 => ?_)
      · have h22 := h20.1 c21
        refine h_iload_n hC dX8_token_121 rfl ?_
        refine h_bipush (v := zI 39) hC dX8_token_122 rfl ?_
        refine yr_icmp_ne (tgt := 188) hC (hZ.rg 0 _) (by decide) dX8_token_124 (by decide) (fun c23 => ?_) (fun c23 => ?_)
        · have h24 := h22.1 c23
          refine h_iload_n hC dX8_token_188 rfl ?_
          refine h_bipush (v := zI 34) hC dX8_token_189 rfl ?_
          refine yr_icmp_ne (tgt := 202) hC (hZ.rg 0 _) (by decide) dX8_token_191 (by decide) (fun c25 => ?_) (fun c25 => ?_)
          · have h26 := h24.1 c25
            refine h_iload_n hC dX8_token_202 rfl ?_
            refine h_bipush (v := zI 36) hC dX8_token_203 rfl ?_
            refine yr_icmp_ne (tgt := 216) hC (hZ.rg 0 _) (by decide) dX8_token_205 (by decide) (fun c27 => ?_) (fun c27 => ?_)
            · have h28 := h26.1 c27
              refine h_aload_n hC dX8_token_216 rfl ?_
              refine h_iload_n hC dX8_token_217 rfl ?_
              refine h_iload_n hC dX8_token_218 rfl ?_
              refine yr_callVv (As := [.int (zI (yv A0 8)), .int (zI (yget A0 0 (yv A0 8)))]) hC hr o16 hZ17 rfl (hZ17.w.o 3 (by decide)) (cm_Scanner_sign X.la d b (hZ.rv 8) (hZ.rg 0 _) hZ17.rs h28) cl_X8_140 rfl rfl (Nat.le_of_ble_eq_true rfl) (hFr_of (Nat.le_of_ble_eq_true rfl) (Nat.le_of_ble_eq_true rfl)) dX8_token_219 (fun A30 u31 S32 o34 hZ35 h36 => ?_)
              exact yr_vret hC hr o34 hZ35 h36 dX8_token_222
            · have h37 := h26.2 c27
              refine h_aload_n hC dX8_token_208 rfl ?_
              refine h_iload_n hC dX8_token_209 rfl ?_
              refine yr_callVv (As := [.int (zI (yv A0 8))]) hC hr o16 hZ17 rfl (hZ17.w.o 3 (by decide)) (cm_Scanner_section X.la d b (hZ.rv 8) hZ17.rs h37) cl_X8_137 rfl rfl (Nat.le_of_ble_eq_true rfl) (hFr_of (Nat.le_of_ble_eq_true rfl) (Nat.le_of_ble_eq_true rfl)) dX8_token_210 (fun A39 u40 S41 o43 hZ44 h45 => ?_)
              refine h_goto (tgt := 222) hC dX8_token_213 (by decide) ?_
              exact yr_vret hC hr o43 hZ44 h45 dX8_token_222
          · have h46 := h24.2 c25
            refine h_aload_n hC dX8_token_194 rfl ?_
            refine h_iload_n hC dX8_token_195 rfl ?_
            refine yr_callVv (As := [.int (zI (yv A0 8))]) hC hr o16 hZ17 rfl (hZ17.w.o 3 (by decide)) (cm_Scanner_string X.la d b (hZ.rv 8) hZ17.rs h46) cl_X8_134 rfl rfl (Nat.le_of_ble_eq_true rfl) (hFr_of (Nat.le_of_ble_eq_true rfl) (Nat.le_of_ble_eq_true rfl)) dX8_token_196 (fun A48 u49 S50 o52 hZ53 h54 => ?_)
            refine h_goto (tgt := 222) hC dX8_token_199 (by decide) ?_
            exact yr_vret hC hr o52 hZ53 h54 dX8_token_222
        · have h55 := h22.2 c23
          refine h_aload_n hC dX8_token_127 rfl ?_
          refine h_dup hC dX8_token_128 rfl ?_
          refine h_get hC fl_X8_39 (hZ17.w.o 3 (by decide)) rfl dX8_token_129 ?_
          refine yr_sv (e := (yv A12 8)) hZ17 8 rfl ?_
          refine h_iconst (v := zI 1) hC dX8_token_132 rfl ?_
          refine yr_iadd hC dX8_token_133 ?_
          obtain ⟨o56, h57⟩ := h55
          refine hi_putx (i := 3) (kx := 8) hC hZ17.hi (by decide) fl_X8_39 rfl rfl rfl (Nat.le_of_ble_eq_true rfl) rfl gsame_8 (fun q => absurd q (by decide)) dX8_token_134 (fun F58 S59 I60 K61 s62 v63 p64 => ?_)
          have hZ65 := hZ17.put I60 K61 s62 v63 o56 rfl
          clear I60 K61 s62 v63 p64
          refine yr_nu o16 hZ65 (fun u66 o67 hZ68 => ?_)
          refine h_aload_n hC dX8_token_137 rfl ?_
          refine h_bipush (v := zI 39) hC dX8_token_138 rfl ?_
          refine yr_callVi (As := [.int (zI 39)]) hC hr o67 hZ68 rfl (hZ68.w.o 3 (by decide)) (cm_Scanner_quoted X.la d b (by decide) hZ68.rs h57) cl_X8_131 rfl rfl (Nat.le_of_ble_eq_true rfl) (hFr_of (Nat.le_of_ble_eq_true rfl) (Nat.le_of_ble_eq_true rfl)) dX8_token_140 (fun r69 A70 u71 S72 R73 o74 hZ75 h76 => ?_)
          refine h_istore_n (lv' := [some (.ref (gO' Y 3)), some (.int (zI (yv A0 8))), some (.int (zI (yget A0 0 (yv A0 8)))), some (.int (zI r69))]) hC dX8_token_143 (Nat.le_of_ble_eq_true rfl) rfl rfl ?_
          refine h_aload_n hC dX8_token_144 rfl ?_
          refine h_iload_n hC dX8_token_145 rfl ?_
          refine yr_if_lt (tgt := 169) hC R73 dX8_token_146 (by decide) (fun c77 => ?_) (fun c77 => ?_)
          · have h78 := h76.1 c77
            refine h_iconst (v := zI 1) hC dX8_token_169 rfl ?_
            refine h_iload_n hC dX8_token_170 rfl ?_
            refine h_iload_n hC dX8_token_171 rfl ?_
            refine yr_callVv (As := [.int (zI 1), .int (zI r69), .int (zI (yv A0 8))]) hC hr o74 hZ75 rfl (hZ75.w.o 3 (by decide)) (cm_Scanner_put X.la d b (by decide) R73 (hZ.rv 8) hZ75.rs h78) cl_X8_99 rfl rfl (Nat.le_of_ble_eq_true rfl) (hFr_of (Nat.le_of_ble_eq_true rfl) (Nat.le_of_ble_eq_true rfl)) dX8_token_172 (fun A80 u81 S82 o84 hZ85 h86 => ?_)
            refine h_aload_n hC dX8_token_175 rfl ?_
            refine h_dup hC dX8_token_176 rfl ?_
            refine h_get hC fl_X8_39 (hZ85.w.o 3 (by decide)) rfl dX8_token_177 ?_
            refine yr_sv (e := (yv A80 8)) hZ85 8 rfl ?_
            refine h_iconst (v := zI 1) hC dX8_token_180 rfl ?_
            refine yr_iadd hC dX8_token_181 ?_
            obtain ⟨o87, h88⟩ := h86
            refine hi_putx (i := 3) (kx := 8) hC hZ85.hi (by decide) fl_X8_39 rfl rfl rfl (Nat.le_of_ble_eq_true rfl) rfl gsame_8 (fun q => absurd q (by decide)) dX8_token_182 (fun F89 S90 I91 K92 s93 v94 p95 => ?_)
            have hZ96 := hZ85.put I91 K92 s93 v94 o87 rfl
            clear I91 K92 s93 v94 p95
            refine yr_nu o84 hZ96 (fun u97 o98 hZ99 => ?_)
            refine h_goto (tgt := 222) hC dX8_token_185 (by decide) ?_
            exact yr_vret hC hr o98 hZ99 h88 dX8_token_222
          · have h100 := h76.2 c77
            refine h_aload_n hC dX8_token_149 rfl ?_
            refine h_get hC fl_X8_47 (hZ75.w.o 3 (by decide)) rfl dX8_token_150 ?_
            refine h_aload_n hC dX8_token_153 rfl ?_
            refine h_get hC fl_X8_39 (hZ75.w.o 3 (by decide)) rfl dX8_token_154 ?_
            refine yr_sv (e := (yv A70 8)) hZ75 8 rfl ?_
            refine yr_get (j := 0) (e := (yget A70 0 (yv A70 8))) hC hr o74 hZ75 (by decide) (hZ75.rv 8) rfl cl_X8_88 rfl (Nat.le_of_ble_eq_true rfl) (hFr_of (Nat.le_of_ble_eq_true rfl) (Nat.le_of_ble_eq_true rfl)) dX8_token_157 ?_
            refine h_bipush (v := zI 39) hC dX8_token_160 rfl ?_
            refine yr_icmp_ne (tgt := 169) hC (hZ75.rg 0 _) (by decide) dX8_token_162 (by decide) (fun c101 => ?_) (fun c101 => ?_)
            · have h102 := h100.1 c101
              refine h_iconst (v := zI 1) hC dX8_token_169 rfl ?_
              refine h_iload_n hC dX8_token_170 rfl ?_
              refine h_iload_n hC dX8_token_171 rfl ?_
              refine yr_callVv (As := [.int (zI 1), .int (zI r69), .int (zI (yv A0 8))]) hC hr o74 hZ75 rfl (hZ75.w.o 3 (by decide)) (cm_Scanner_put X.la d b (by decide) R73 (hZ.rv 8) hZ75.rs h102) cl_X8_99 rfl rfl (Nat.le_of_ble_eq_true rfl) (hFr_of (Nat.le_of_ble_eq_true rfl) (Nat.le_of_ble_eq_true rfl)) dX8_token_172 (fun A104 u105 S106 o108 hZ109 h110 => ?_)
              refine h_aload_n hC dX8_token_175 rfl ?_
              refine h_dup hC dX8_token_176 rfl ?_
              refine h_get hC fl_X8_39 (hZ109.w.o 3 (by decide)) rfl dX8_token_177 ?_
              refine yr_sv (e := (yv A104 8)) hZ109 8 rfl ?_
              refine h_iconst (v := zI 1) hC dX8_token_180 rfl ?_
              refine yr_iadd hC dX8_token_181 ?_
              obtain ⟨o111, h112⟩ := h110
              refine hi_putx (i := 3) (kx := 8) hC hZ109.hi (by decide) fl_X8_39 rfl rfl rfl (Nat.le_of_ble_eq_true rfl) rfl gsame_8 (fun q => absurd q (by decide)) dX8_token_182 (fun F113 S114 I115 K116 s117 v118 p119 => ?_)
              have hZ120 := hZ109.put I115 K116 s117 v118 o111 rfl
              clear I115 K116 s117 v118 p119
              refine yr_nu o108 hZ120 (fun u121 o122 hZ123 => ?_)
              refine h_goto (tgt := 222) hC dX8_token_185 (by decide) ?_
              exact yr_vret hC hr o122 hZ123 h112 dX8_token_222
            · have h124 := h100.2 c101
              refine h_iconst (v := zI 3) hC dX8_token_165 rfl ?_
              refine h_goto (tgt := 170) hC dX8_token_166 (by decide) ?_
              refine h_iload_n hC dX8_token_170 rfl ?_
              refine h_iload_n hC dX8_token_171 rfl ?_
              refine yr_callVv (As := [.int (zI 3), .int (zI r69), .int (zI (yv A0 8))]) hC hr o74 hZ75 rfl (hZ75.w.o 3 (by decide)) (cm_Scanner_put X.la d b (by decide) R73 (hZ.rv 8) hZ75.rs h124) cl_X8_99 rfl rfl (Nat.le_of_ble_eq_true rfl) (hFr_of (Nat.le_of_ble_eq_true rfl) (Nat.le_of_ble_eq_true rfl)) dX8_token_172 (fun A126 u127 S128 o130 hZ131 h132 => ?_)
              refine h_aload_n hC dX8_token_175 rfl ?_
              refine h_dup hC dX8_token_176 rfl ?_
              refine h_get hC fl_X8_39 (hZ131.w.o 3 (by decide)) rfl dX8_token_177 ?_
              refine yr_sv (e := (yv A126 8)) hZ131 8 rfl ?_
              refine h_iconst (v := zI 1) hC dX8_token_180 rfl ?_
              refine yr_iadd hC dX8_token_181 ?_
              obtain ⟨o133, h134⟩ := h132
              refine hi_putx (i := 3) (kx := 8) hC hZ131.hi (by decide) fl_X8_39 rfl rfl rfl (Nat.le_of_ble_eq_true rfl) rfl gsame_8 (fun q => absurd q (by decide)) dX8_token_182 (fun F135 S136 I137 K138 s139 v140 p141 => ?_)
              have hZ142 := hZ131.put I137 K138 s139 v140 o133 rfl
              clear I137 K138 s139 v140 p141
              refine yr_nu o130 hZ142 (fun u143 o144 hZ145 => ?_)
              refine h_goto (tgt := 222) hC dX8_token_185 (by decide) ?_
              exact yr_vret hC hr o144 hZ145 h134 dX8_token_222
      · have h146 := h20.2 c21
        refine h_aload_n hC dX8_token_59 rfl ?_
        refine h_get hC fl_X8_47 (hZ17.w.o 3 (by decide)) rfl dX8_token_60 ?_
        refine h_aload_n hC dX8_token_63 rfl ?_
        refine h_get hC fl_X8_39 (hZ17.w.o 3 (by decide)) rfl dX8_token_64 ?_
        refine yr_sv (e := (yv A12 8)) hZ17 8 rfl ?_
        refine h_iconst (v := zI 1) hC dX8_token_67 rfl ?_
        refine yr_iadd hC dX8_token_68 ?_
        obtain ⟨o147, h148⟩ := h146
        refine yr_get (j := 0) (e := (yget A12 0 ((yv A12 8) + 1))) hC hr o16 hZ17 (by decide) o147 rfl cl_X8_88 rfl (Nat.le_of_ble_eq_true rfl) (hFr_of (Nat.le_of_ble_eq_true rfl) (Nat.le_of_ble_eq_true rfl)) dX8_token_69 ?_
        refine h_bipush (v := zI 88) hC dX8_token_72 rfl ?_
        refine yr_icmp_ne (tgt := 81) hC (hZ17.rg 0 _) (by decide) dX8_token_74 (by decide) (fun c149 => ?_) (fun c149 => ?_)
        · have h150 := h148.1 c149
          refine h_iconst (v := zI 0) hC dX8_token_81 rfl ?_
          refine h_lv (lv' := [some (.ref (gO' Y 3)), some (.int (zI (yv A0 8))), none, none]) ⟨rfl, rfl, trivial⟩ ?_
          exact cj_Scanner_token_82 hC hr  (hZ.rv 8) (by decide) o16 hZ17 h150
        · have h151 := h148.2 c149
          refine h_iconst (v := zI 1) hC dX8_token_77 rfl ?_
          refine h_goto (tgt := 82) hC dX8_token_78 (by decide) ?_
          refine h_lv (lv' := [some (.ref (gO' Y 3)), some (.int (zI (yv A0 8))), none, none]) ⟨rfl, rfl, trivial⟩ ?_
          exact cj_Scanner_token_82 hC hr  (hZ.rv 8) (by decide) o16 hZ17 h151
    · have h152 := h18.2 c19
      refine h_aload_n hC dX8_token_39 rfl ?_
      refine h_iload_n hC dX8_token_40 rfl ?_
      refine h_aload_n hC dX8_token_41 rfl ?_
      refine h_get hC fl_X8_39 (hZ17.w.o 3 (by decide)) rfl dX8_token_42 ?_
      refine yr_sv (e := (yv A12 8)) hZ17 8 rfl ?_
      refine h_bipush (v := zI 10) hC dX8_token_45 rfl ?_
      refine yr_callVv (As := [.int (zI (yv A0 8)), .int (zI (yv A12 8)), .int (zI 10)]) hC hr o16 hZ17 rfl (hZ17.w.o 3 (by decide)) (cm_Scanner_number X.la d b (hZ.rv 8) (hZ17.rv 8) (by decide) hZ17.rs h152) cl_X8_128 rfl rfl (Nat.le_of_ble_eq_true rfl) (hFr_of (Nat.le_of_ble_eq_true rfl) (Nat.le_of_ble_eq_true rfl)) dX8_token_47 (fun A154 u155 S156 o158 hZ159 h160 => ?_)
      refine h_goto (tgt := 222) hC dX8_token_50 (by decide) ?_
      exact yr_vret hC hr o158 hZ159 h160 dX8_token_222
  · have h161 := h8.2 c9
    refine h_aload_n hC dX8_token_24 rfl ?_
    refine h_iload_n hC dX8_token_25 rfl ?_
    refine yr_callVv (As := [.int (zI (yv A0 8))]) hC hr o6 hZ7 rfl (hZ7.w.o 3 (by decide)) (cm_Scanner_name X.la d b (hZ.rv 8) hZ7.rs h161) cl_X8_122 rfl rfl (Nat.le_of_ble_eq_true rfl) (hFr_of (Nat.le_of_ble_eq_true rfl) (Nat.le_of_ble_eq_true rfl)) dX8_token_26 (fun A163 u164 S165 o167 hZ168 h169 => ?_)
    refine h_goto (tgt := 222) hC dX8_token_29 (by decide) ?_
    exact yr_vret hC hr o167 hZ168 h169 dX8_token_222
theorem dX8_scan_0 : decode cX8_scan 0 = .ok (.aload_n 0, 1) := by decide +kernel
theorem dX8_scan_1 : decode cX8_scan 1 = .ok (.getfield 15, 3) := by decide +kernel
theorem dX8_scan_4 : decode cX8_scan 4 = .ok (.iconst 0, 1) := by decide +kernel
theorem dX8_scan_5 : decode cX8_scan 5 = .ok (.invokevirtual 82, 3) := by decide +kernel
theorem dX8_scan_8 : decode cX8_scan 8 = .ok (.aload_n 0, 1) := by decide +kernel
theorem dX8_scan_9 : decode cX8_scan 9 = .ok (.getfield 21, 3) := by decide +kernel
theorem dX8_scan_12 : decode cX8_scan 12 = .ok (.iconst 0, 1) := by decide +kernel
theorem dX8_scan_13 : decode cX8_scan 13 = .ok (.invokevirtual 82, 3) := by decide +kernel
theorem dX8_scan_16 : decode cX8_scan 16 = .ok (.aload_n 0, 1) := by decide +kernel
theorem dX8_scan_17 : decode cX8_scan 17 = .ok (.getfield 24, 3) := by decide +kernel
theorem dX8_scan_20 : decode cX8_scan 20 = .ok (.iconst 0, 1) := by decide +kernel
theorem dX8_scan_21 : decode cX8_scan 21 = .ok (.invokevirtual 82, 3) := by decide +kernel
theorem dX8_scan_24 : decode cX8_scan 24 = .ok (.aload_n 0, 1) := by decide +kernel
theorem dX8_scan_25 : decode cX8_scan 25 = .ok (.getfield 27, 3) := by decide +kernel
theorem dX8_scan_28 : decode cX8_scan 28 = .ok (.iconst 0, 1) := by decide +kernel
theorem dX8_scan_29 : decode cX8_scan 29 = .ok (.invokevirtual 82, 3) := by decide +kernel
theorem dX8_scan_32 : decode cX8_scan 32 = .ok (.aload_n 0, 1) := by decide +kernel
theorem dX8_scan_33 : decode cX8_scan 33 = .ok (.getfield 30, 3) := by decide +kernel
theorem dX8_scan_36 : decode cX8_scan 36 = .ok (.aload_n 0, 1) := by decide +kernel
theorem dX8_scan_37 : decode cX8_scan 37 = .ok (.getfield 66, 3) := by decide +kernel
theorem dX8_scan_40 : decode cX8_scan 40 = .ok (.invokevirtual 82, 3) := by decide +kernel
theorem dX8_scan_43 : decode cX8_scan 43 = .ok (.aload_n 0, 1) := by decide +kernel
theorem dX8_scan_44 : decode cX8_scan 44 = .ok (.getfield 33, 3) := by decide +kernel
theorem dX8_scan_47 : decode cX8_scan 47 = .ok (.bipush 61, 2) := by decide +kernel
theorem dX8_scan_49 : decode cX8_scan 49 = .ok (.invokevirtual 82, 3) := by decide +kernel
theorem dX8_scan_52 : decode cX8_scan 52 = .ok (.aload_n 0, 1) := by decide +kernel
theorem dX8_scan_53 : decode cX8_scan 53 = .ok (.getfield 36, 3) := by decide +kernel
theorem dX8_scan_56 : decode cX8_scan 56 = .ok (.bipush 61, 2) := by decide +kernel
theorem dX8_scan_58 : decode cX8_scan 58 = .ok (.invokevirtual 82, 3) := by decide +kernel
theorem dX8_scan_61 : decode cX8_scan 61 = .ok (.aload_n 0, 1) := by decide +kernel
theorem dX8_scan_62 : decode cX8_scan 62 = .ok (.iconst 0, 1) := by decide +kernel
theorem dX8_scan_63 : decode cX8_scan 63 = .ok (.putfield 39, 3) := by decide +kernel
theorem dX8_scan_66 : decode cX8_scan 66 = .ok (.aload_n 0, 1) := by decide +kernel
theorem dX8_scan_67 : decode cX8_scan 67 = .ok (.iconst 0, 1) := by decide +kernel
theorem dX8_scan_68 : decode cX8_scan 68 = .ok (.putfield 43, 3) := by decide +kernel
theorem dX8_scan_71 : decode cX8_scan 71 = .ok (.iconst 0, 1) := by decide +kernel
theorem dX8_scan_72 : decode cX8_scan 72 = .ok (.istore_n 1, 1) := by decide +kernel
theorem dX8_scan_73 : decode cX8_scan 73 = .ok (.iload_n 1, 1) := by decide +kernel
theorem dX8_scan_74 : decode cX8_scan 74 = .ok (.ldc 11, 2) := by decide +kernel
theorem dX8_scan_76 : decode cX8_scan 76 = .ok (.if_icmp .ge 57, 3) := by decide +kernel
theorem dX8_scan_79 : decode cX8_scan 79 = .ok (.aload_n 0, 1) := by decide +kernel
theorem dX8_scan_80 : decode cX8_scan 80 = .ok (.invokevirtual 96, 3) := by decide +kernel
theorem dX8_scan_83 : decode cX8_scan 83 = .ok (.aload_n 0, 1) := by decide +kernel
theorem dX8_scan_84 : decode cX8_scan 84 = .ok (.getfield 39, 3) := by decide +kernel
theorem dX8_scan_87 : decode cX8_scan 87 = .ok (.aload_n 0, 1) := by decide +kernel
theorem dX8_scan_88 : decode cX8_scan 88 = .ok (.getfield 47, 3) := by decide +kernel
theorem dX8_scan_91 : decode cX8_scan 91 = .ok (.invokevirtual 62, 3) := by decide +kernel
theorem dX8_scan_94 : decode cX8_scan 94 = .ok (.if_icmp .lt 17, 3) := by decide +kernel
theorem dX8_scan_97 : decode cX8_scan 97 = .ok (.aload_n 0, 1) := by decide +kernel
theorem dX8_scan_98 : decode cX8_scan 98 = .ok (.iconst 0, 1) := by decide +kernel
theorem dX8_scan_99 : decode cX8_scan 99 = .ok (.iconst 0, 1) := by decide +kernel
theorem dX8_scan_100 : decode cX8_scan 100 = .ok (.aload_n 0, 1) := by decide +kernel
theorem dX8_scan_101 : decode cX8_scan 101 = .ok (.getfield 47, 3) := by decide +kernel
theorem dX8_scan_104 : decode cX8_scan 104 = .ok (.invokevirtual 62, 3) := by decide +kernel
theorem dX8_scan_107 : decode cX8_scan 107 = .ok (.invokevirtual 99, 3) := by decide +kernel
theorem dX8_scan_110 : decode cX8_scan 110 = .ok (.return_, 1) := by decide +kernel
theorem dX8_scan_111 : decode cX8_scan 111 = .ok (.aload_n 0, 1) := by decide +kernel
theorem dX8_scan_112 : decode cX8_scan 112 = .ok (.invokevirtual 103, 3) := by decide +kernel
theorem dX8_scan_115 : decode cX8_scan 115 = .ok (.aload_n 0, 1) := by decide +kernel
theorem dX8_scan_116 : decode cX8_scan 116 = .ok (.getfield 15, 3) := by decide +kernel
theorem dX8_scan_119 : decode cX8_scan 119 = .ok (.invokevirtual 106, 3) := by decide +kernel
theorem dX8_scan_122 : decode cX8_scan 122 = .ok (.iconst 1, 1) := by decide +kernel
theorem dX8_scan_123 : decode cX8_scan 123 = .ok (.if_icmp .ne 4, 3) := by decide +kernel
theorem dX8_scan_126 : decode cX8_scan 126 = .ok (.return_, 1) := by decide +kernel
theorem dX8_scan_127 : decode cX8_scan 127 = .ok (.iinc 1 1, 3) := by decide +kernel
theorem dX8_scan_130 : decode cX8_scan 130 = .ok (.goto (-57), 3) := by decide +kernel
theorem dX8_scan_133 : decode cX8_scan 133 = .ok (.return_, 1) := by decide +kernel
def wc_Scanner_scan_73B (Q : cS → Prop) (k73 : cS → Int → Prop) (A0 : cS) (x1 : Int) : Prop :=
  ((1000000 ≤ x1 → Q A0) ∧ (¬ 1000000 ≤ x1 → wc_Scanner_pass A0  (fun A5 => (((yv A5 8) < ((yz A5 0 : Nat) : Int) → wc_Scanner_token A5  (fun A15 => ((¬ (yget A15 14 ((yz A15 14 : Nat) - 1 : Int)) = 1 → (zR (x1 + 1)) ∧ k73 A15 (x1 + 1)) ∧ ((yget A15 14 ((yz A15 14 : Nat) - 1 : Int)) = 1 → Q A15)))) ∧ (¬ (yv A5 8) < ((yz A5 0 : Nat) : Int) → wc_Scanner_put A5 0 0 ((yz A5 0 : Nat) : Int) (fun A29 => Q A29))))))
def wc_Scanner_scan_73 (Q : cS → Prop)  : Nat → cS → Int → Prop
  | 0 => fun _ _ => False
  | m + 1 => fun A0 x1 => wc_Scanner_scan_73B Q  (wc_Scanner_scan_73 Q  m) A0 x1
def wc_Scanner_scan (A0 : cS)  (Q : cS → Prop) : Prop :=
  ∃ n, wc_Scanner_scan_73 Q  n (ypv (ypv (ycut (ycut (ycut (ycut (ycut (ycut (ycut A0 14 0) 15 0) 16 0) 17 0) 18 (yv A0 7)) 19 61) 20 61) 8 0) 9 0) 0
set_option maxHeartbeats 4000000 in
set_option maxRecDepth 100000 in
theorem cb_Scanner_scan_73 {X : gX} {d : gD} {b : Nat} {Y : gYt} {c : Nat × Nat} {F0 : gM} {S0 : gSt} {mc ms : Nat} (hC : gC RX8 cX8_scan 2 none "scan" (gR 6 mc ms) d b X) (hr : hRm X b) {Q : cS → Prop} {k73 : cS → Int → Prop} (hk73 : ∀ (u : hU) (S : gSt) (A0 : cS) (x1 : Int), zR x1 → yOk X b u → yZ d b Y c F0 S0 u S A0 → k73 A0 x1 → yG X d b (yQv X d b Y c F0 S0 mc ms Q) u 73 [some (.ref (gO' Y 3)), some (.int (zI x1))] []) {u : hU} {S : gSt} {A0 : cS} {x1 : Int} (Rx1 : zR x1) (ho : yOk X b u) (hZ : yZ d b Y c F0 S0 u S A0) (hw : wc_Scanner_scan_73B Q k73 A0 x1) : yG X d b (yQv X d b Y c F0 S0 mc ms Q) u 73 [some (.ref (gO' Y 3)), some (.int (zI x1))] [] := by
  unfold wc_Scanner_scan_73B at hw
  refine h_iload_n hC dX8_scan_73 rfl ?_
  refine yr_ldc (e := 1000000) hC dX8_scan_74 kw_370 (by decide) ?_
  refine yr_icmp_ge (tgt := 133) hC Rx1 (by decide) dX8_scan_76 (by decide) (fun c1 => ?_) (fun c1 => ?_)
  · have h2 := hw.1 c1
    exact yr_vret hC hr ho hZ h2 dX8_scan_133
  · have h3 := hw.2 c1
    refine h_aload_n hC dX8_scan_79 rfl ?_
    refine yr_callVv (As := []) hC hr ho hZ rfl (hZ.w.o 3 (by decide)) (cm_Scanner_pass X.la d b  hZ.rs h3) cl_X8_96 rfl rfl (Nat.le_of_ble_eq_true rfl) (hFr_of (Nat.le_of_ble_eq_true rfl) (Nat.le_of_ble_eq_true rfl)) dX8_scan_80 (fun A5 u6 S7 o9 hZ10 h11 => ?_)
    refine h_aload_n hC dX8_scan_83 rfl ?_
    refine h_get hC fl_X8_39 (hZ10.w.o 3 (by decide)) rfl dX8_scan_84 ?_
    refine yr_sv (e := (yv A5 8)) hZ10 8 rfl ?_
    refine h_aload_n hC dX8_scan_87 rfl ?_
    refine h_get hC fl_X8_47 (hZ10.w.o 3 (by decide)) rfl dX8_scan_88 ?_
    refine yr_size (j := 0) (e := ((yz A5 0 : Nat) : Int)) hC hr o9 hZ10 (by decide) rfl cl_X8_62 rfl (Nat.le_of_ble_eq_true rfl) (hFr_of (Nat.le_of_ble_eq_true rfl) (Nat.le_of_ble_eq_true rfl)) dX8_scan_91 ?_
    refine yr_icmp_lt (tgt := 111) hC (hZ10.rv 8) (hZ10.rz (j := 0) (by decide)) dX8_scan_94 (by decide) (fun c12 => ?_) (fun c12 => ?_)
    · have h13 := h11.1 c12
      refine h_aload_n hC dX8_scan_111 rfl ?_
      refine yr_callVv (As := []) hC hr o9 hZ10 rfl (hZ10.w.o 3 (by decide)) (cm_Scanner_token X.la d b  hZ10.rs h13) cl_X8_103 rfl rfl (Nat.le_of_ble_eq_true rfl) (hFr_of (Nat.le_of_ble_eq_true rfl) (Nat.le_of_ble_eq_true rfl)) dX8_scan_112 (fun A15 u16 S17 o19 hZ20 h21 => ?_)
      refine h_aload_n hC dX8_scan_115 rfl ?_
      refine h_get hC fl_X8_15 (hZ20.w.o 3 (by decide)) rfl dX8_scan_116 ?_
      refine yr_top (j := 14) (e := (yget A15 14 ((yz A15 14 : Nat) - 1 : Int))) hC hr o19 hZ20 (by decide) rfl cl_X8_106 rfl (Nat.le_of_ble_eq_true rfl) (hFr_of (Nat.le_of_ble_eq_true rfl) (Nat.le_of_ble_eq_true rfl)) dX8_scan_119 ?_
      refine h_iconst (v := zI 1) hC dX8_scan_122 rfl ?_
      refine yr_icmp_ne (tgt := 127) hC (hZ20.rg 14 _) (by decide) dX8_scan_123 (by decide) (fun c22 => ?_) (fun c22 => ?_)
      · have h23 := h21.1 c22
        refine yr_iinc (x := x1) (lv' := [some (.ref (gO' Y 3)), some (.int (zI (x1 + 1)))]) hC dX8_scan_127 rfl rfl rfl ?_
        refine h_goto (tgt := 73) hC dX8_scan_130 (by decide) ?_
        obtain ⟨o24, h25⟩ := h23
        exact hk73 _ _ _ _ o24 o19 hZ20 h25
      · have h26 := h21.2 c22
        exact yr_vret hC hr o19 hZ20 h26 dX8_scan_126
    · have h27 := h11.2 c12
      refine h_aload_n hC dX8_scan_97 rfl ?_
      refine h_iconst (v := zI 0) hC dX8_scan_98 rfl ?_
      refine h_iconst (v := zI 0) hC dX8_scan_99 rfl ?_
      refine h_aload_n hC dX8_scan_100 rfl ?_
      refine h_get hC fl_X8_47 (hZ10.w.o 3 (by decide)) rfl dX8_scan_101 ?_
      refine yr_size (j := 0) (e := ((yz A5 0 : Nat) : Int)) hC hr o9 hZ10 (by decide) rfl cl_X8_62 rfl (Nat.le_of_ble_eq_true rfl) (hFr_of (Nat.le_of_ble_eq_true rfl) (Nat.le_of_ble_eq_true rfl)) dX8_scan_104 ?_
      refine yr_callVv (As := [.int (zI 0), .int (zI 0), .int (zI ((yz A5 0 : Nat) : Int))]) hC hr o9 hZ10 rfl (hZ10.w.o 3 (by decide)) (cm_Scanner_put X.la d b (by decide) (by decide) (hZ10.rz (j := 0) (by decide)) hZ10.rs h27) cl_X8_99 rfl rfl (Nat.le_of_ble_eq_true rfl) (hFr_of (Nat.le_of_ble_eq_true rfl) (Nat.le_of_ble_eq_true rfl)) dX8_scan_107 (fun A29 u30 S31 o33 hZ34 h35 => ?_)
      exact yr_vret hC hr o33 hZ34 h35 dX8_scan_110
theorem cl_Scanner_scan_73 {X : gX} {d : gD} {b : Nat} {Y : gYt} {c : Nat × Nat} {F0 : gM} {S0 : gSt} {mc ms : Nat} (hC : gC RX8 cX8_scan 2 none "scan" (gR 6 mc ms) d b X) (hr : hRm X b) {Q : cS → Prop}   : ∀ (m : Nat) (u : hU) (S : gSt) (A0 : cS) (x1 : Int), zR x1 → yOk X b u → yZ d b Y c F0 S0 u S A0 → wc_Scanner_scan_73 Q  m A0 x1 → yG X d b (yQv X d b Y c F0 S0 mc ms Q) u 73 [some (.ref (gO' Y 3)), some (.int (zI x1))] [] := by
  intro m
  induction m with
  | zero => intro u S A0 x1 Rx1 ho hZ hw; exact False.elim hw
  | succ m ihm => intro u S A0 x1 Rx1 ho hZ hw; exact cb_Scanner_scan_73 hC hr  ihm Rx1 ho hZ hw
set_option maxHeartbeats 4000000 in
set_option maxRecDepth 100000 in
theorem cm_Scanner_scan (l : Launch) (d : gD) (b : Nat) {Y : gYt} {c : Nat × Nat} {F : gM} {k n : Nat} {S : gSt} {A0 : cS}   {Q : cS → Prop} (hZ : yZ d b Y c F S (F, k, n) S A0) (hw : wc_Scanner_scan A0  Q) : hMv l d b yX8_scan cX8_scan 2 6 k n F [.ref (gO' Y 3)] (yPv d b Y c F S Q) := by
  intro mc ms
  refine hM_of2 rfl (nL := 2) (Nat.le_of_ble_eq_true rfl) ?_
  intro X hX hC hr ho; subst hX
  show yG X d b (yQv X d b Y c F S mc ms Q) (F, k, n) 0 [some (.ref (gO' Y 3)), none] []
  unfold wc_Scanner_scan at hw
  refine h_aload_n hC dX8_scan_0 rfl ?_
  refine h_get hC fl_X8_15 (hZ.w.o 3 (by decide)) rfl dX8_scan_1 ?_
  refine h_iconst (v := zI 0) hC dX8_scan_4 rfl ?_
  refine yr_cut (j := 14) hC hr ho hZ (by decide) (by decide) cl_X8_82 rfl (Nat.le_of_ble_eq_true rfl) (hFr_of (Nat.le_of_ble_eq_true rfl) (Nat.le_of_ble_eq_true rfl)) dX8_scan_5 (fun u1 S2 o3 hZ4 => ?_)
  refine h_aload_n hC dX8_scan_8 rfl ?_
  refine h_get hC fl_X8_21 (hZ4.w.o 3 (by decide)) rfl dX8_scan_9 ?_
  refine h_iconst (v := zI 0) hC dX8_scan_12 rfl ?_
  refine yr_cut (j := 15) hC hr o3 hZ4 (by decide) (by decide) cl_X8_82 rfl (Nat.le_of_ble_eq_true rfl) (hFr_of (Nat.le_of_ble_eq_true rfl) (Nat.le_of_ble_eq_true rfl)) dX8_scan_13 (fun u5 S6 o7 hZ8 => ?_)
  refine h_aload_n hC dX8_scan_16 rfl ?_
  refine h_get hC fl_X8_24 (hZ8.w.o 3 (by decide)) rfl dX8_scan_17 ?_
  refine h_iconst (v := zI 0) hC dX8_scan_20 rfl ?_
  refine yr_cut (j := 16) hC hr o7 hZ8 (by decide) (by decide) cl_X8_82 rfl (Nat.le_of_ble_eq_true rfl) (hFr_of (Nat.le_of_ble_eq_true rfl) (Nat.le_of_ble_eq_true rfl)) dX8_scan_21 (fun u9 S10 o11 hZ12 => ?_)
  refine h_aload_n hC dX8_scan_24 rfl ?_
  refine h_get hC fl_X8_27 (hZ12.w.o 3 (by decide)) rfl dX8_scan_25 ?_
  refine h_iconst (v := zI 0) hC dX8_scan_28 rfl ?_
  refine yr_cut (j := 17) hC hr o11 hZ12 (by decide) (by decide) cl_X8_82 rfl (Nat.le_of_ble_eq_true rfl) (hFr_of (Nat.le_of_ble_eq_true rfl) (Nat.le_of_ble_eq_true rfl)) dX8_scan_29 (fun u13 S14 o15 hZ16 => ?_)
  refine h_aload_n hC dX8_scan_32 rfl ?_
  refine h_get hC fl_X8_30 (hZ16.w.o 3 (by decide)) rfl dX8_scan_33 ?_
  refine h_aload_n hC dX8_scan_36 rfl ?_
  refine h_get hC fl_X8_66 (hZ16.w.o 3 (by decide)) rfl dX8_scan_37 ?_
  refine yr_sv (e := (yv A0 7)) hZ16 7 rfl ?_
  refine yr_cut (j := 18) hC hr o15 hZ16 (by decide) (hZ.rv 7) cl_X8_82 rfl (Nat.le_of_ble_eq_true rfl) (hFr_of (Nat.le_of_ble_eq_true rfl) (Nat.le_of_ble_eq_true rfl)) dX8_scan_40 (fun u17 S18 o19 hZ20 => ?_)
  refine h_aload_n hC dX8_scan_43 rfl ?_
  refine h_get hC fl_X8_33 (hZ20.w.o 3 (by decide)) rfl dX8_scan_44 ?_
  refine h_bipush (v := zI 61) hC dX8_scan_47 rfl ?_
  refine yr_cut (j := 19) hC hr o19 hZ20 (by decide) (by decide) cl_X8_82 rfl (Nat.le_of_ble_eq_true rfl) (hFr_of (Nat.le_of_ble_eq_true rfl) (Nat.le_of_ble_eq_true rfl)) dX8_scan_49 (fun u21 S22 o23 hZ24 => ?_)
  refine h_aload_n hC dX8_scan_52 rfl ?_
  refine h_get hC fl_X8_36 (hZ24.w.o 3 (by decide)) rfl dX8_scan_53 ?_
  refine h_bipush (v := zI 61) hC dX8_scan_56 rfl ?_
  refine yr_cut (j := 20) hC hr o23 hZ24 (by decide) (by decide) cl_X8_82 rfl (Nat.le_of_ble_eq_true rfl) (hFr_of (Nat.le_of_ble_eq_true rfl) (Nat.le_of_ble_eq_true rfl)) dX8_scan_58 (fun u25 S26 o27 hZ28 => ?_)
  refine h_aload_n hC dX8_scan_61 rfl ?_
  refine h_iconst (v := zI 0) hC dX8_scan_62 rfl ?_
  refine hi_putx (i := 3) (kx := 8) hC hZ28.hi (by decide) fl_X8_39 rfl rfl rfl (Nat.le_of_ble_eq_true rfl) rfl gsame_8 (fun q => absurd q (by decide)) dX8_scan_63 (fun F29 S30 I31 K32 s33 v34 p35 => ?_)
  have hZ36 := hZ28.put I31 K32 s33 v34 (by decide) rfl
  clear I31 K32 s33 v34 p35
  refine yr_nu o27 hZ36 (fun u37 o38 hZ39 => ?_)
  refine h_aload_n hC dX8_scan_66 rfl ?_
  refine h_iconst (v := zI 0) hC dX8_scan_67 rfl ?_
  refine hi_putx (i := 3) (kx := 9) hC hZ39.hi (by decide) fl_X8_43 rfl (ynb (Or.inl rfl)) (yfb (Or.inl rfl)) (Nat.le_of_ble_eq_true rfl) rfl gsame_9 (fun _ => y01 (Or.inl rfl)) dX8_scan_68 (fun F40 S41 I42 K43 s44 v45 p46 => ?_)
  have hZ47 := hZ39.put I42 K43 s44 v45 (y01R (Or.inl rfl)) rfl
  clear I42 K43 s44 v45 p46
  refine yr_nu o38 hZ47 (fun u48 o49 hZ50 => ?_)
  refine h_iconst (v := zI 0) hC dX8_scan_71 rfl ?_
  refine h_istore_n (lv' := [some (.ref (gO' Y 3)), some (.int (zI 0))]) hC dX8_scan_72 (Nat.le_of_ble_eq_true rfl) rfl rfl ?_
  obtain ⟨m51, h52⟩ := hw
  exact cl_Scanner_scan_73 hC hr  m51 _ _ _ _ (by decide) o49 hZ50 h52
