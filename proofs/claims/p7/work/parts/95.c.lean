/-! the class as formulas: constants -/
theorem dX2_hasFailed_0 : decode cX2_hasFailed 0 = .ok (.aload_n 0, 1) := by decide +kernel
theorem dX2_hasFailed_1 : decode cX2_hasFailed 1 = .ok (.getfield 21, 3) := by decide +kernel
theorem dX2_hasFailed_4 : decode cX2_hasFailed 4 = .ok (.ireturn, 1) := by decide +kernel
def wc_Constants_hasFailed (A0 : cS)  (Q : Int → cS → Prop) : Prop :=
  ((yv A0 38) = 0 ∨ (yv A0 38) = 1) ∧ Q (yv A0 38) A0
set_option maxHeartbeats 4000000 in
set_option maxRecDepth 100000 in
theorem cm_Constants_hasFailed (l : Launch) (d : gD) (b : Nat) {Y : gYt} {c : Nat × Nat} {F : gM} {k n : Nat} {S : gSt} {A0 : cS}   {Q : Int → cS → Prop} (hZ : yZ d b Y c F S (F, k, n) S A0) (hw : wc_Constants_hasFailed A0  Q) : hMi l d b yX2_hasFailed cX2_hasFailed 1 .boolean 0 k n F [.ref (gO' Y 9)] (yPi d b Y c F S Q) := by
  intro mc ms
  refine hM_of2 rfl (nL := 1) (Nat.le_of_ble_eq_true rfl) ?_
  intro X hX hC hr ho; subst hX
  show yG X d b (yQi X d b Y c F S mc ms Q) (F, k, n) 0 [some (.ref (gO' Y 9))] []
  unfold wc_Constants_hasFailed at hw
  refine h_aload_n hC dX2_hasFailed_0 rfl ?_
  refine h_get hC fl_X2_21 (hZ.w.o 9 (by decide)) rfl dX2_hasFailed_1 ?_
  refine yr_sv (e := (yv A0 38)) hZ 38 rfl ?_
  obtain ⟨o1, h2⟩ := hw
  exact yr_zret hC hr ho hZ o1 h2 dX2_hasFailed_4
theorem dX2_fail_0 : decode cX2_fail 0 = .ok (.aload_n 0, 1) := by decide +kernel
theorem dX2_fail_1 : decode cX2_fail 1 = .ok (.getfield 21, 3) := by decide +kernel
theorem dX2_fail_4 : decode cX2_fail 4 = .ok (.ifCond .eq 11, 3) := by decide +kernel
theorem dX2_fail_7 : decode cX2_fail 7 = .ok (.iload_n 2, 1) := by decide +kernel
theorem dX2_fail_8 : decode cX2_fail 8 = .ok (.aload_n 0, 1) := by decide +kernel
theorem dX2_fail_9 : decode cX2_fail 9 = .ok (.getfield 29, 3) := by decide +kernel
theorem dX2_fail_12 : decode cX2_fail 12 = .ok (.if_icmp .ge 18, 3) := by decide +kernel
theorem dX2_fail_15 : decode cX2_fail 15 = .ok (.aload_n 0, 1) := by decide +kernel
theorem dX2_fail_16 : decode cX2_fail 16 = .ok (.iconst 1, 1) := by decide +kernel
theorem dX2_fail_17 : decode cX2_fail 17 = .ok (.putfield 21, 3) := by decide +kernel
theorem dX2_fail_20 : decode cX2_fail 20 = .ok (.aload_n 0, 1) := by decide +kernel
theorem dX2_fail_21 : decode cX2_fail 21 = .ok (.iload_n 1, 1) := by decide +kernel
theorem dX2_fail_22 : decode cX2_fail 22 = .ok (.putfield 25, 3) := by decide +kernel
theorem dX2_fail_25 : decode cX2_fail 25 = .ok (.aload_n 0, 1) := by decide +kernel
theorem dX2_fail_26 : decode cX2_fail 26 = .ok (.iload_n 2, 1) := by decide +kernel
theorem dX2_fail_27 : decode cX2_fail 27 = .ok (.putfield 29, 3) := by decide +kernel
theorem dX2_fail_30 : decode cX2_fail 30 = .ok (.return_, 1) := by decide +kernel
def wc_Constants_fail (A0 : cS) (a0 : Int) (a1 : Int) (Q : cS → Prop) : Prop :=
  (((yv A0 38) = 0 → Q (ypv (ypv (ypv A0 38 1) 39 a0) 40 a1)) ∧ (¬ (yv A0 38) = 0 → (((yv A0 40) ≤ a1 → Q A0) ∧ (¬ (yv A0 40) ≤ a1 → Q (ypv (ypv (ypv A0 38 1) 39 a0) 40 a1)))))
set_option maxHeartbeats 4000000 in
set_option maxRecDepth 100000 in
theorem cm_Constants_fail (l : Launch) (d : gD) (b : Nat) {Y : gYt} {c : Nat × Nat} {F : gM} {k n : Nat} {S : gSt} {A0 : cS} {a0 : Int} {a1 : Int} (Ra0 : zR a0) (Ra1 : zR a1) {Q : cS → Prop} (hZ : yZ d b Y c F S (F, k, n) S A0) (hw : wc_Constants_fail A0 a0 a1 Q) : hMv l d b yX2_fail cX2_fail 3 0 k n F [.ref (gO' Y 9), .int (zI a0), .int (zI a1)] (yPv d b Y c F S Q) := by
  intro mc ms
  refine hM_of2 rfl (nL := 3) (Nat.le_of_ble_eq_true rfl) ?_
  intro X hX hC hr ho; subst hX
  show yG X d b (yQv X d b Y c F S mc ms Q) (F, k, n) 0 [some (.ref (gO' Y 9)), some (.int (zI a0)), some (.int (zI a1))] []
  unfold wc_Constants_fail at hw
  refine h_aload_n hC dX2_fail_0 rfl ?_
  refine h_get hC fl_X2_21 (hZ.w.o 9 (by decide)) rfl dX2_fail_1 ?_
  refine yr_sv (e := (yv A0 38)) hZ 38 rfl ?_
  refine yr_if_eq (tgt := 15) hC (hZ.rv 38) dX2_fail_4 (by decide) (fun c1 => ?_) (fun c1 => ?_)
  · have h2 := hw.1 c1
    refine h_aload_n hC dX2_fail_15 rfl ?_
    refine h_iconst (v := zI 1) hC dX2_fail_16 rfl ?_
    refine hi_putx (i := 9) (kx := 38) hC hZ.hi (by decide) fl_X2_21 rfl (ynb (Or.inr rfl)) (yfb (Or.inr rfl)) (Nat.le_of_ble_eq_true rfl) rfl gsame_38 (fun _ => y01 (Or.inr rfl)) dX2_fail_17 (fun F3 S4 I5 K6 s7 v8 p9 => ?_)
    have hZ10 := hZ.put I5 K6 s7 v8 (y01R (Or.inr rfl)) rfl
    clear I5 K6 s7 v8 p9
    refine yr_nu ho hZ10 (fun u11 o12 hZ13 => ?_)
    refine h_aload_n hC dX2_fail_20 rfl ?_
    refine h_iload_n hC dX2_fail_21 rfl ?_
    refine hi_putx (i := 9) (kx := 39) hC hZ13.hi (by decide) fl_X2_25 rfl rfl rfl (Nat.le_of_ble_eq_true rfl) rfl gsame_39 (fun q => absurd q (by decide)) dX2_fail_22 (fun F14 S15 I16 K17 s18 v19 p20 => ?_)
    have hZ21 := hZ13.put I16 K17 s18 v19 Ra0 rfl
    clear I16 K17 s18 v19 p20
    refine yr_nu o12 hZ21 (fun u22 o23 hZ24 => ?_)
    refine h_aload_n hC dX2_fail_25 rfl ?_
    refine h_iload_n hC dX2_fail_26 rfl ?_
    refine hi_putx (i := 9) (kx := 40) hC hZ24.hi (by decide) fl_X2_29 rfl rfl rfl (Nat.le_of_ble_eq_true rfl) rfl gsame_40 (fun q => absurd q (by decide)) dX2_fail_27 (fun F25 S26 I27 K28 s29 v30 p31 => ?_)
    have hZ32 := hZ24.put I27 K28 s29 v30 Ra1 rfl
    clear I27 K28 s29 v30 p31
    refine yr_nu o23 hZ32 (fun u33 o34 hZ35 => ?_)
    exact yr_vret hC hr o34 hZ35 h2 dX2_fail_30
  · have h36 := hw.2 c1
    refine h_iload_n hC dX2_fail_7 rfl ?_
    refine h_aload_n hC dX2_fail_8 rfl ?_
    refine h_get hC fl_X2_29 (hZ.w.o 9 (by decide)) rfl dX2_fail_9 ?_
    refine yr_sv (e := (yv A0 40)) hZ 40 rfl ?_
    refine yr_icmp_ge (tgt := 30) hC Ra1 (hZ.rv 40) dX2_fail_12 (by decide) (fun c37 => ?_) (fun c37 => ?_)
    · have h38 := h36.1 c37
      exact yr_vret hC hr ho hZ h38 dX2_fail_30
    · have h39 := h36.2 c37
      refine h_aload_n hC dX2_fail_15 rfl ?_
      refine h_iconst (v := zI 1) hC dX2_fail_16 rfl ?_
      refine hi_putx (i := 9) (kx := 38) hC hZ.hi (by decide) fl_X2_21 rfl (ynb (Or.inr rfl)) (yfb (Or.inr rfl)) (Nat.le_of_ble_eq_true rfl) rfl gsame_38 (fun _ => y01 (Or.inr rfl)) dX2_fail_17 (fun F40 S41 I42 K43 s44 v45 p46 => ?_)
      have hZ47 := hZ.put I42 K43 s44 v45 (y01R (Or.inr rfl)) rfl
      clear I42 K43 s44 v45 p46
      refine yr_nu ho hZ47 (fun u48 o49 hZ50 => ?_)
      refine h_aload_n hC dX2_fail_20 rfl ?_
      refine h_iload_n hC dX2_fail_21 rfl ?_
      refine hi_putx (i := 9) (kx := 39) hC hZ50.hi (by decide) fl_X2_25 rfl rfl rfl (Nat.le_of_ble_eq_true rfl) rfl gsame_39 (fun q => absurd q (by decide)) dX2_fail_22 (fun F51 S52 I53 K54 s55 v56 p57 => ?_)
      have hZ58 := hZ50.put I53 K54 s55 v56 Ra0 rfl
      clear I53 K54 s55 v56 p57
      refine yr_nu o49 hZ58 (fun u59 o60 hZ61 => ?_)
      refine h_aload_n hC dX2_fail_25 rfl ?_
      refine h_iload_n hC dX2_fail_26 rfl ?_
      refine hi_putx (i := 9) (kx := 40) hC hZ61.hi (by decide) fl_X2_29 rfl rfl rfl (Nat.le_of_ble_eq_true rfl) rfl gsame_40 (fun q => absurd q (by decide)) dX2_fail_27 (fun F62 S63 I64 K65 s66 v67 p68 => ?_)
      have hZ69 := hZ61.put I64 K65 s66 v67 Ra1 rfl
      clear I64 K65 s66 v67 p68
      refine yr_nu o60 hZ69 (fun u70 o71 hZ72 => ?_)
      exact yr_vret hC hr o71 hZ72 h39 dX2_fail_30
theorem dX2_relate_0 : decode cX2_relate 0 = .ok (.aload_n 0, 1) := by decide +kernel
theorem dX2_relate_1 : decode cX2_relate 1 = .ok (.getfield 15, 3) := by decide +kernel
theorem dX2_relate_4 : decode cX2_relate 4 = .ok (.invokevirtual 113, 3) := by decide +kernel
theorem dX2_relate_7 : decode cX2_relate 7 = .ok (.istore 4, 2) := by decide +kernel
theorem dX2_relate_9 : decode cX2_relate 9 = .ok (.aload_n 0, 1) := by decide +kernel
theorem dX2_relate_10 : decode cX2_relate 10 = .ok (.getfield 15, 3) := by decide +kernel
theorem dX2_relate_13 : decode cX2_relate 13 = .ok (.invokevirtual 113, 3) := by decide +kernel
theorem dX2_relate_16 : decode cX2_relate 16 = .ok (.istore 5, 2) := by decide +kernel
theorem dX2_relate_18 : decode cX2_relate 18 = .ok (.iload_n 2, 1) := by decide +kernel
theorem dX2_relate_19 : decode cX2_relate 19 = .ok (.ifCond .eq 18, 3) := by decide +kernel
theorem dX2_relate_22 : decode cX2_relate 22 = .ok (.iload_n 1, 1) := by decide +kernel
theorem dX2_relate_23 : decode cX2_relate 23 = .ok (.iload 5, 2) := by decide +kernel
theorem dX2_relate_25 : decode cX2_relate 25 = .ok (.iload 4, 2) := by decide +kernel
theorem dX2_relate_27 : decode cX2_relate 27 = .ok (.invokestatic 117, 3) := by decide +kernel
theorem dX2_relate_30 : decode cX2_relate 30 = .ok (.ifCond .eq 7, 3) := by decide +kernel
theorem dX2_relate_33 : decode cX2_relate 33 = .ok (.iconst 1, 1) := by decide +kernel
theorem dX2_relate_34 : decode cX2_relate 34 = .ok (.goto 4, 3) := by decide +kernel
theorem dX2_relate_37 : decode cX2_relate 37 = .ok (.iconst 0, 1) := by decide +kernel
theorem dX2_relate_38 : decode cX2_relate 38 = .ok (.istore 6, 2) := by decide +kernel
theorem dX2_relate_40 : decode cX2_relate 40 = .ok (.aload_n 0, 1) := by decide +kernel
theorem dX2_relate_41 : decode cX2_relate 41 = .ok (.getfield 15, 3) := by decide +kernel
theorem dX2_relate_44 : decode cX2_relate 44 = .ok (.iload_n 3, 1) := by decide +kernel
theorem dX2_relate_45 : decode cX2_relate 45 = .ok (.ifCond .eq 8, 3) := by decide +kernel
theorem dX2_relate_48 : decode cX2_relate 48 = .ok (.iload 4, 2) := by decide +kernel
theorem dX2_relate_50 : decode cX2_relate 50 = .ok (.goto 13, 3) := by decide +kernel
theorem dX2_relate_53 : decode cX2_relate 53 = .ok (.iload 6, 2) := by decide +kernel
theorem dX2_relate_55 : decode cX2_relate 55 = .ok (.ifCond .eq 7, 3) := by decide +kernel
theorem dX2_relate_58 : decode cX2_relate 58 = .ok (.iconst (-1), 1) := by decide +kernel
theorem dX2_relate_59 : decode cX2_relate 59 = .ok (.goto 4, 3) := by decide +kernel
theorem dX2_relate_62 : decode cX2_relate 62 = .ok (.iconst 0, 1) := by decide +kernel
theorem dX2_relate_63 : decode cX2_relate 63 = .ok (.invokevirtual 75, 3) := by decide +kernel
theorem dX2_relate_66 : decode cX2_relate 66 = .ok (.iload_n 3, 1) := by decide +kernel
theorem dX2_relate_67 : decode cX2_relate 67 = .ok (.ifCond .eq 8, 3) := by decide +kernel
theorem dX2_relate_70 : decode cX2_relate 70 = .ok (.iload 6, 2) := by decide +kernel
theorem dX2_relate_72 : decode cX2_relate 72 = .ok (.ifCond .eq 7, 3) := by decide +kernel
theorem dX2_relate_75 : decode cX2_relate 75 = .ok (.iconst 1, 1) := by decide +kernel
theorem dX2_relate_76 : decode cX2_relate 76 = .ok (.goto 4, 3) := by decide +kernel
theorem dX2_relate_79 : decode cX2_relate 79 = .ok (.iconst 0, 1) := by decide +kernel
theorem dX2_relate_80 : decode cX2_relate 80 = .ok (.ireturn, 1) := by decide +kernel
def wc_Constants_relate_63 (Q : Int → cS → Prop)  (A0 : cS) (x3 : Int) (x6 : Int) (y0 : Int) : Prop :=
  ((yz A0 33) < 3000) ∧ ((x3 = 0 → Q 1 (yadd A0 33 y0)) ∧ (¬ x3 = 0 → ((x6 = 0 → Q 0 (yadd A0 33 y0)) ∧ (¬ x6 = 0 → Q 1 (yadd A0 33 y0)))))
def wc_Constants_relate (A0 : cS) (a0 : Int) (a1 : Int) (a2 : Int) (Q : Int → cS → Prop) : Prop :=
  ((a1 = 0 → ((a2 = 0 → wc_Constants_relate_63 Q  (ypop (ypop A0 33) 33) a2 0 0) ∧ (¬ a2 = 0 → wc_Constants_relate_63 Q  (ypop (ypop A0 33) 33) a2 0 (yget A0 33 ((yz A0 33 : Nat) - 1 : Int))))) ∧ (¬ a1 = 0 → wc_W_holds (ypop (ypop A0 33) 33) a0 (yget (ypop A0 33) 33 ((yz (ypop A0 33) 33 : Nat) - 1 : Int)) (yget A0 33 ((yz A0 33 : Nat) - 1 : Int)) (fun r16 A17 => ((r16 = 0 → ((a2 = 0 → wc_Constants_relate_63 Q  A17 a2 0 0) ∧ (¬ a2 = 0 → wc_Constants_relate_63 Q  A17 a2 0 (yget A0 33 ((yz A0 33 : Nat) - 1 : Int))))) ∧ (¬ r16 = 0 → ((a2 = 0 → wc_Constants_relate_63 Q  A17 a2 1 (-1)) ∧ (¬ a2 = 0 → wc_Constants_relate_63 Q  A17 a2 1 (yget A0 33 ((yz A0 33 : Nat) - 1 : Int)))))))))
set_option maxHeartbeats 4000000 in
set_option maxRecDepth 100000 in
theorem cj_Constants_relate_63 {X : gX} {d : gD} {b : Nat} {Y : gYt} {c : Nat × Nat} {F0 : gM} {S0 : gSt} {mc ms : Nat} (hC : gC RX2 cX2_relate 7 (some .boolean) "relate" (gR 3 mc ms) d b X) (hr : hRm X b) {Q : Int → cS → Prop}   {u : hU} {S : gSt} {A0 : cS} {x3 : Int} {x6 : Int} {y0 : Int} (Rx3 : zR x3) (Rx6 : zR x6) (Ry0 : zR y0) (ho : yOk X b u) (hZ : yZ d b Y c F0 S0 u S A0) (hw : wc_Constants_relate_63 Q  A0 x3 x6 y0) : yG X d b (yQi X d b Y c F0 S0 mc ms Q) u 63 [none, none, none, some (.int (zI x3)), none, none, some (.int (zI x6))] [.int (zI y0), .ref (gA' Y 33)] := by
  unfold wc_Constants_relate_63 at hw
  obtain ⟨o5, h6⟩ := hw
  refine yr_add (j := 33) hC hr ho hZ (by decide) (by decide) Ry0 o5 cl_X2_75 rfl (Nat.le_of_ble_eq_true rfl) (hFr_of (Nat.le_of_ble_eq_true rfl) (Nat.le_of_ble_eq_true rfl)) dX2_relate_63 (fun u1 S2 o3 hZ4 => ?_)
  refine h_iload_n hC dX2_relate_66 rfl ?_
  refine yr_if_eq (tgt := 75) hC Rx3 dX2_relate_67 (by decide) (fun c7 => ?_) (fun c7 => ?_)
  · have h8 := h6.1 c7
    refine h_iconst (v := zI 1) hC dX2_relate_75 rfl ?_
    refine h_goto (tgt := 80) hC dX2_relate_76 (by decide) ?_
    exact yr_zret hC hr o3 hZ4 (Or.inr rfl) h8 dX2_relate_80
  · have h9 := h6.2 c7
    refine h_iload hC dX2_relate_70 rfl ?_
    refine yr_if_eq (tgt := 79) hC Rx6 dX2_relate_72 (by decide) (fun c10 => ?_) (fun c10 => ?_)
    · have h11 := h9.1 c10
      refine h_iconst (v := zI 0) hC dX2_relate_79 rfl ?_
      exact yr_zret hC hr o3 hZ4 (Or.inl rfl) h11 dX2_relate_80
    · have h12 := h9.2 c10
      refine h_iconst (v := zI 1) hC dX2_relate_75 rfl ?_
      refine h_goto (tgt := 80) hC dX2_relate_76 (by decide) ?_
      exact yr_zret hC hr o3 hZ4 (Or.inr rfl) h12 dX2_relate_80
set_option maxHeartbeats 4000000 in
set_option maxRecDepth 100000 in
theorem cm_Constants_relate (l : Launch) (d : gD) (b : Nat) {Y : gYt} {c : Nat × Nat} {F : gM} {k n : Nat} {S : gSt} {A0 : cS} {a0 : Int} {a1 : Int} {a2 : Int} (Ra0 : zR a0) (Ra1 : zR a1) (Ra2 : zR a2) {Q : Int → cS → Prop} (hZ : yZ d b Y c F S (F, k, n) S A0) (hw : wc_Constants_relate A0 a0 a1 a2 Q) : hMi l d b yX2_relate cX2_relate 7 .boolean 3 k n F [.ref (gO' Y 9), .int (zI a0), .int (zI a1), .int (zI a2)] (yPi d b Y c F S Q) := by
  intro mc ms
  refine hM_of2 rfl (nL := 7) (Nat.le_of_ble_eq_true rfl) ?_
  intro X hX hC hr ho; subst hX
  show yG X d b (yQi X d b Y c F S mc ms Q) (F, k, n) 0 [some (.ref (gO' Y 9)), some (.int (zI a0)), some (.int (zI a1)), some (.int (zI a2)), none, none, none] []
  unfold wc_Constants_relate at hw
  refine h_aload_n hC dX2_relate_0 rfl ?_
  refine h_get hC fl_X2_15 (hZ.w.o 9 (by decide)) rfl dX2_relate_1 ?_
  refine yr_pop (j := 33) (e := (yget A0 33 ((yz A0 33 : Nat) - 1 : Int))) hC hr ho hZ (by decide) rfl cl_X2_113 rfl (Nat.le_of_ble_eq_true rfl) (hFr_of (Nat.le_of_ble_eq_true rfl) (Nat.le_of_ble_eq_true rfl)) dX2_relate_4 (fun u1 S2 o3 hZ4 => ?_)
  refine h_istore (lv' := [some (.ref (gO' Y 9)), some (.int (zI a0)), some (.int (zI a1)), some (.int (zI a2)), some (.int (zI (yget A0 33 ((yz A0 33 : Nat) - 1 : Int)))), none, none]) hC dX2_relate_7 (Nat.le_of_ble_eq_true rfl) rfl rfl ?_
  refine h_aload_n hC dX2_relate_9 rfl ?_
  refine h_get hC fl_X2_15 (hZ4.w.o 9 (by decide)) rfl dX2_relate_10 ?_
  refine yr_pop (j := 33) (e := (yget (ypop A0 33) 33 ((yz (ypop A0 33) 33 : Nat) - 1 : Int))) hC hr o3 hZ4 (by decide) rfl cl_X2_113 rfl (Nat.le_of_ble_eq_true rfl) (hFr_of (Nat.le_of_ble_eq_true rfl) (Nat.le_of_ble_eq_true rfl)) dX2_relate_13 (fun u5 S6 o7 hZ8 => ?_)
  refine h_istore (lv' := [some (.ref (gO' Y 9)), some (.int (zI a0)), some (.int (zI a1)), some (.int (zI a2)), some (.int (zI (yget A0 33 ((yz A0 33 : Nat) - 1 : Int)))), some (.int (zI (yget (ypop A0 33) 33 ((yz (ypop A0 33) 33 : Nat) - 1 : Int)))), none]) hC dX2_relate_16 (Nat.le_of_ble_eq_true rfl) rfl rfl ?_
  refine h_iload_n hC dX2_relate_18 rfl ?_
  refine yr_if_eq (tgt := 37) hC Ra1 dX2_relate_19 (by decide) (fun c9 => ?_) (fun c9 => ?_)
  · have h10 := hw.1 c9
    refine h_iconst (v := zI 0) hC dX2_relate_37 rfl ?_
    refine h_istore (lv' := [some (.ref (gO' Y 9)), some (.int (zI a0)), some (.int (zI a1)), some (.int (zI a2)), some (.int (zI (yget A0 33 ((yz A0 33 : Nat) - 1 : Int)))), some (.int (zI (yget (ypop A0 33) 33 ((yz (ypop A0 33) 33 : Nat) - 1 : Int)))), some (.int (zI 0))]) hC dX2_relate_38 (Nat.le_of_ble_eq_true rfl) rfl rfl ?_
    refine h_aload_n hC dX2_relate_40 rfl ?_
    refine h_get hC fl_X2_15 (hZ8.w.o 9 (by decide)) rfl dX2_relate_41 ?_
    refine h_iload_n hC dX2_relate_44 rfl ?_
    refine yr_if_eq (tgt := 53) hC Ra2 dX2_relate_45 (by decide) (fun c11 => ?_) (fun c11 => ?_)
    · have h12 := h10.1 c11
      refine h_iload hC dX2_relate_53 rfl ?_
      refine yr_if_eq (tgt := 62) hC (by decide) dX2_relate_55 (by decide) (fun c13 => ?_) (fun c13 => ?_)
      · refine h_iconst (v := zI 0) hC dX2_relate_62 rfl ?_
        refine h_lv (lv' := [none, none, none, some (.int (zI a2)), none, none, some (.int (zI 0))]) ⟨rfl, rfl, trivial⟩ ?_
        exact cj_Constants_relate_63 hC hr  Ra2 (by decide) (by decide) o7 hZ8 h12
      · exact absurd (by decide) c13
    · have h14 := h10.2 c11
      refine h_iload hC dX2_relate_48 rfl ?_
      refine h_goto (tgt := 63) hC dX2_relate_50 (by decide) ?_
      refine h_lv (lv' := [none, none, none, some (.int (zI a2)), none, none, some (.int (zI 0))]) ⟨rfl, rfl, trivial⟩ ?_
      exact cj_Constants_relate_63 hC hr  Ra2 (by decide) (hZ.rg 33 _) o7 hZ8 h14
  · have h15 := hw.2 c9
    refine h_iload_n hC dX2_relate_22 rfl ?_
    refine h_iload hC dX2_relate_23 rfl ?_
    refine h_iload hC dX2_relate_25 rfl ?_
    refine yr_callSNi (As := [.int (zI a0), .int (zI (yget (ypop A0 33) 33 ((yz (ypop A0 33) 33 : Nat) - 1 : Int))), .int (zI (yget A0 33 ((yz A0 33 : Nat) - 1 : Int)))]) hC hr o7 hZ8 (cm_W_holds X.la d b Ra0 (hZ4.rg 33 _) (hZ.rg 33 _) hZ8.rs h15) cl_X2_117 rfl rfl (Nat.le_of_ble_eq_true rfl) (hFr_of (Nat.le_of_ble_eq_true rfl) (Nat.le_of_ble_eq_true rfl)) dX2_relate_27 (fun r16 A17 u18 S19 R20 o21 hZ22 h23 => ?_)
    refine yr_if_eq (tgt := 37) hC R20 dX2_relate_30 (by decide) (fun c24 => ?_) (fun c24 => ?_)
    · have h25 := h23.1 c24
      refine h_iconst (v := zI 0) hC dX2_relate_37 rfl ?_
      refine h_istore (lv' := [some (.ref (gO' Y 9)), some (.int (zI a0)), some (.int (zI a1)), some (.int (zI a2)), some (.int (zI (yget A0 33 ((yz A0 33 : Nat) - 1 : Int)))), some (.int (zI (yget (ypop A0 33) 33 ((yz (ypop A0 33) 33 : Nat) - 1 : Int)))), some (.int (zI 0))]) hC dX2_relate_38 (Nat.le_of_ble_eq_true rfl) rfl rfl ?_
      refine h_aload_n hC dX2_relate_40 rfl ?_
      refine h_get hC fl_X2_15 (hZ22.w.o 9 (by decide)) rfl dX2_relate_41 ?_
      refine h_iload_n hC dX2_relate_44 rfl ?_
      refine yr_if_eq (tgt := 53) hC Ra2 dX2_relate_45 (by decide) (fun c26 => ?_) (fun c26 => ?_)
      · have h27 := h25.1 c26
        refine h_iload hC dX2_relate_53 rfl ?_
        refine yr_if_eq (tgt := 62) hC (by decide) dX2_relate_55 (by decide) (fun c28 => ?_) (fun c28 => ?_)
        · refine h_iconst (v := zI 0) hC dX2_relate_62 rfl ?_
          refine h_lv (lv' := [none, none, none, some (.int (zI a2)), none, none, some (.int (zI 0))]) ⟨rfl, rfl, trivial⟩ ?_
          exact cj_Constants_relate_63 hC hr  Ra2 (by decide) (by decide) o21 hZ22 h27
        · exact absurd (by decide) c28
      · have h29 := h25.2 c26
        refine h_iload hC dX2_relate_48 rfl ?_
        refine h_goto (tgt := 63) hC dX2_relate_50 (by decide) ?_
        refine h_lv (lv' := [none, none, none, some (.int (zI a2)), none, none, some (.int (zI 0))]) ⟨rfl, rfl, trivial⟩ ?_
        exact cj_Constants_relate_63 hC hr  Ra2 (by decide) (hZ.rg 33 _) o21 hZ22 h29
    · have h30 := h23.2 c24
      refine h_iconst (v := zI 1) hC dX2_relate_33 rfl ?_
      refine h_goto (tgt := 38) hC dX2_relate_34 (by decide) ?_
      refine h_istore (lv' := [some (.ref (gO' Y 9)), some (.int (zI a0)), some (.int (zI a1)), some (.int (zI a2)), some (.int (zI (yget A0 33 ((yz A0 33 : Nat) - 1 : Int)))), some (.int (zI (yget (ypop A0 33) 33 ((yz (ypop A0 33) 33 : Nat) - 1 : Int)))), some (.int (zI 1))]) hC dX2_relate_38 (Nat.le_of_ble_eq_true rfl) rfl rfl ?_
      refine h_aload_n hC dX2_relate_40 rfl ?_
      refine h_get hC fl_X2_15 (hZ22.w.o 9 (by decide)) rfl dX2_relate_41 ?_
      refine h_iload_n hC dX2_relate_44 rfl ?_
      refine yr_if_eq (tgt := 53) hC Ra2 dX2_relate_45 (by decide) (fun c31 => ?_) (fun c31 => ?_)
      · have h32 := h30.1 c31
        refine h_iload hC dX2_relate_53 rfl ?_
        refine yr_if_eq (tgt := 62) hC (by decide) dX2_relate_55 (by decide) (fun c33 => ?_) (fun c33 => ?_)
        · exact absurd c33 (by decide)
        · refine h_iconst (v := zI (-1)) hC dX2_relate_58 rfl ?_
          refine h_goto (tgt := 63) hC dX2_relate_59 (by decide) ?_
          refine h_lv (lv' := [none, none, none, some (.int (zI a2)), none, none, some (.int (zI 1))]) ⟨rfl, rfl, trivial⟩ ?_
          exact cj_Constants_relate_63 hC hr  Ra2 (by decide) (by decide) o21 hZ22 h32
      · have h34 := h30.2 c31
        refine h_iload hC dX2_relate_48 rfl ?_
        refine h_goto (tgt := 63) hC dX2_relate_50 (by decide) ?_
        refine h_lv (lv' := [none, none, none, some (.int (zI a2)), none, none, some (.int (zI 1))]) ⟨rfl, rfl, trivial⟩ ?_
        exact cj_Constants_relate_63 hC hr  Ra2 (by decide) (hZ.rg 33 _) o21 hZ22 h34
theorem dX2_work_0 : decode cX2_work 0 = .ok (.aload_n 0, 1) := by decide +kernel
theorem dX2_work_1 : decode cX2_work 1 = .ok (.getfield 15, 3) := by decide +kernel
theorem dX2_work_4 : decode cX2_work 4 = .ok (.invokevirtual 113, 3) := by decide +kernel
theorem dX2_work_7 : decode cX2_work 7 = .ok (.istore 4, 2) := by decide +kernel
theorem dX2_work_9 : decode cX2_work 9 = .ok (.aload_n 0, 1) := by decide +kernel
theorem dX2_work_10 : decode cX2_work 10 = .ok (.getfield 15, 3) := by decide +kernel
theorem dX2_work_13 : decode cX2_work 13 = .ok (.invokevirtual 113, 3) := by decide +kernel
theorem dX2_work_16 : decode cX2_work 16 = .ok (.istore 5, 2) := by decide +kernel
theorem dX2_work_18 : decode cX2_work 18 = .ok (.iload_n 1, 1) := by decide +kernel
theorem dX2_work_19 : decode cX2_work 19 = .ok (.invokestatic 121, 3) := by decide +kernel
theorem dX2_work_22 : decode cX2_work 22 = .ok (.ifCond .eq 26, 3) := by decide +kernel
theorem dX2_work_25 : decode cX2_work 25 = .ok (.iload 4, 2) := by decide +kernel
theorem dX2_work_27 : decode cX2_work 27 = .ok (.ifCond .ne 21, 3) := by decide +kernel
theorem dX2_work_30 : decode cX2_work 30 = .ok (.iload_n 2, 1) := by decide +kernel
theorem dX2_work_31 : decode cX2_work 31 = .ok (.ifCond .eq 17, 3) := by decide +kernel
theorem dX2_work_34 : decode cX2_work 34 = .ok (.aload_n 0, 1) := by decide +kernel
theorem dX2_work_35 : decode cX2_work 35 = .ok (.getfield 21, 3) := by decide +kernel
theorem dX2_work_38 : decode cX2_work 38 = .ok (.ifCond .ne 10, 3) := by decide +kernel
theorem dX2_work_41 : decode cX2_work 41 = .ok (.aload_n 0, 1) := by decide +kernel
theorem dX2_work_42 : decode cX2_work 42 = .ok (.bipush 6, 2) := by decide +kernel
theorem dX2_work_44 : decode cX2_work 44 = .ok (.iload_n 3, 1) := by decide +kernel
theorem dX2_work_45 : decode cX2_work 45 = .ok (.invokevirtual 57, 3) := by decide +kernel
theorem dX2_work_48 : decode cX2_work 48 = .ok (.aload_n 0, 1) := by decide +kernel
theorem dX2_work_49 : decode cX2_work 49 = .ok (.getfield 15, 3) := by decide +kernel
theorem dX2_work_52 : decode cX2_work 52 = .ok (.iload_n 1, 1) := by decide +kernel
theorem dX2_work_53 : decode cX2_work 53 = .ok (.iload 5, 2) := by decide +kernel
theorem dX2_work_55 : decode cX2_work 55 = .ok (.iload 4, 2) := by decide +kernel
theorem dX2_work_57 : decode cX2_work 57 = .ok (.invokestatic 124, 3) := by decide +kernel
theorem dX2_work_60 : decode cX2_work 60 = .ok (.invokevirtual 75, 3) := by decide +kernel
theorem dX2_work_63 : decode cX2_work 63 = .ok (.return_, 1) := by decide +kernel
def wc_Constants_work_48 (Q : cS → Prop)  (A0 : cS) (x1 : Int) (x4 : Int) (x5 : Int) : Prop :=
  wc_W_worked A0 x1 x5 x4 (fun r1 A2 => ((yz A2 33) < 3000) ∧ Q (yadd A2 33 r1))
def wc_Constants_work (A0 : cS) (a0 : Int) (a1 : Int) (a2 : Int) (Q : cS → Prop) : Prop :=
  wc_W_isDivision (ypop (ypop A0 33) 33) a0 (fun r9 A10 => ((r9 = 0 → wc_Constants_work_48 Q  A10 a0 (yget A0 33 ((yz A0 33 : Nat) - 1 : Int)) (yget (ypop A0 33) 33 ((yz (ypop A0 33) 33 : Nat) - 1 : Int))) ∧ (¬ r9 = 0 → ((¬ (yget A0 33 ((yz A0 33 : Nat) - 1 : Int)) = 0 → wc_Constants_work_48 Q  A10 a0 (yget A0 33 ((yz A0 33 : Nat) - 1 : Int)) (yget (ypop A0 33) 33 ((yz (ypop A0 33) 33 : Nat) - 1 : Int))) ∧ ((yget A0 33 ((yz A0 33 : Nat) - 1 : Int)) = 0 → ((a1 = 0 → wc_Constants_work_48 Q  A10 a0 (yget A0 33 ((yz A0 33 : Nat) - 1 : Int)) (yget (ypop A0 33) 33 ((yz (ypop A0 33) 33 : Nat) - 1 : Int))) ∧ (¬ a1 = 0 → ((¬ (yv A10 38) = 0 → wc_Constants_work_48 Q  A10 a0 (yget A0 33 ((yz A0 33 : Nat) - 1 : Int)) (yget (ypop A0 33) 33 ((yz (ypop A0 33) 33 : Nat) - 1 : Int))) ∧ ((yv A10 38) = 0 → wc_Constants_fail A10 6 a2 (fun A30 => wc_Constants_work_48 Q  A30 a0 (yget A0 33 ((yz A0 33 : Nat) - 1 : Int)) (yget (ypop A0 33) 33 ((yz (ypop A0 33) 33 : Nat) - 1 : Int))))))))))))
set_option maxHeartbeats 4000000 in
set_option maxRecDepth 100000 in
theorem cj_Constants_work_48 {X : gX} {d : gD} {b : Nat} {Y : gYt} {c : Nat × Nat} {F0 : gM} {S0 : gSt} {mc ms : Nat} (hC : gC RX2 cX2_work 6 none "work" (gR 3 mc ms) d b X) (hr : hRm X b) {Q : cS → Prop}   {u : hU} {S : gSt} {A0 : cS} {x1 : Int} {x4 : Int} {x5 : Int} (Rx1 : zR x1) (Rx4 : zR x4) (Rx5 : zR x5) (ho : yOk X b u) (hZ : yZ d b Y c F0 S0 u S A0) (hw : wc_Constants_work_48 Q  A0 x1 x4 x5) : yG X d b (yQv X d b Y c F0 S0 mc ms Q) u 48 [some (.ref (gO' Y 9)), some (.int (zI x1)), none, none, some (.int (zI x4)), some (.int (zI x5))] [] := by
  unfold wc_Constants_work_48 at hw
  refine h_aload_n hC dX2_work_48 rfl ?_
  refine h_get hC fl_X2_15 (hZ.w.o 9 (by decide)) rfl dX2_work_49 ?_
  refine h_iload_n hC dX2_work_52 rfl ?_
  refine h_iload hC dX2_work_53 rfl ?_
  refine h_iload hC dX2_work_55 rfl ?_
  refine yr_callSNi (As := [.int (zI x1), .int (zI x5), .int (zI x4)]) hC hr ho hZ (cm_W_worked X.la d b Rx1 Rx5 Rx4 hZ.rs hw) cl_X2_124 rfl rfl (Nat.le_of_ble_eq_true rfl) (hFr_of (Nat.le_of_ble_eq_true rfl) (Nat.le_of_ble_eq_true rfl)) dX2_work_57 (fun r1 A2 u3 S4 R5 o6 hZ7 h8 => ?_)
  obtain ⟨o13, h14⟩ := h8
  refine yr_add (j := 33) hC hr o6 hZ7 (by decide) (by decide) R5 o13 cl_X2_75 rfl (Nat.le_of_ble_eq_true rfl) (hFr_of (Nat.le_of_ble_eq_true rfl) (Nat.le_of_ble_eq_true rfl)) dX2_work_60 (fun u9 S10 o11 hZ12 => ?_)
  exact yr_vret hC hr o11 hZ12 h14 dX2_work_63
set_option maxHeartbeats 4000000 in
set_option maxRecDepth 100000 in
theorem cm_Constants_work (l : Launch) (d : gD) (b : Nat) {Y : gYt} {c : Nat × Nat} {F : gM} {k n : Nat} {S : gSt} {A0 : cS} {a0 : Int} {a1 : Int} {a2 : Int} (Ra0 : zR a0) (Ra1 : zR a1) (Ra2 : zR a2) {Q : cS → Prop} (hZ : yZ d b Y c F S (F, k, n) S A0) (hw : wc_Constants_work A0 a0 a1 a2 Q) : hMv l d b yX2_work cX2_work 6 3 k n F [.ref (gO' Y 9), .int (zI a0), .int (zI a1), .int (zI a2)] (yPv d b Y c F S Q) := by
  intro mc ms
  refine hM_of2 rfl (nL := 6) (Nat.le_of_ble_eq_true rfl) ?_
  intro X hX hC hr ho; subst hX
  show yG X d b (yQv X d b Y c F S mc ms Q) (F, k, n) 0 [some (.ref (gO' Y 9)), some (.int (zI a0)), some (.int (zI a1)), some (.int (zI a2)), none, none] []
  unfold wc_Constants_work at hw
  refine h_aload_n hC dX2_work_0 rfl ?_
  refine h_get hC fl_X2_15 (hZ.w.o 9 (by decide)) rfl dX2_work_1 ?_
  refine yr_pop (j := 33) (e := (yget A0 33 ((yz A0 33 : Nat) - 1 : Int))) hC hr ho hZ (by decide) rfl cl_X2_113 rfl (Nat.le_of_ble_eq_true rfl) (hFr_of (Nat.le_of_ble_eq_true rfl) (Nat.le_of_ble_eq_true rfl)) dX2_work_4 (fun u1 S2 o3 hZ4 => ?_)
  refine h_istore (lv' := [some (.ref (gO' Y 9)), some (.int (zI a0)), some (.int (zI a1)), some (.int (zI a2)), some (.int (zI (yget A0 33 ((yz A0 33 : Nat) - 1 : Int)))), none]) hC dX2_work_7 (Nat.le_of_ble_eq_true rfl) rfl rfl ?_
  refine h_aload_n hC dX2_work_9 rfl ?_
  refine h_get hC fl_X2_15 (hZ4.w.o 9 (by decide)) rfl dX2_work_10 ?_
  refine yr_pop (j := 33) (e := (yget (ypop A0 33) 33 ((yz (ypop A0 33) 33 : Nat) - 1 : Int))) hC hr o3 hZ4 (by decide) rfl cl_X2_113 rfl (Nat.le_of_ble_eq_true rfl) (hFr_of (Nat.le_of_ble_eq_true rfl) (Nat.le_of_ble_eq_true rfl)) dX2_work_13 (fun u5 S6 o7 hZ8 => ?_)
  refine h_istore (lv' := [some (.ref (gO' Y 9)), some (.int (zI a0)), some (.int (zI a1)), some (.int (zI a2)), some (.int (zI (yget A0 33 ((yz A0 33 : Nat) - 1 : Int)))), some (.int (zI (yget (ypop A0 33) 33 ((yz (ypop A0 33) 33 : Nat) - 1 : Int))))]) hC dX2_work_16 (Nat.le_of_ble_eq_true rfl) rfl rfl ?_
  refine h_iload_n hC dX2_work_18 rfl ?_
  refine yr_callSNi (As := [.int (zI a0)]) hC hr o7 hZ8 (cm_W_isDivision X.la d b Ra0 hZ8.rs hw) cl_X2_121 rfl rfl (Nat.le_of_ble_eq_true rfl) (hFr_of (Nat.le_of_ble_eq_true rfl) (Nat.le_of_ble_eq_true rfl)) dX2_work_19 (fun r9 A10 u11 S12 R13 o14 hZ15 h16 => ?_)
  refine yr_if_eq (tgt := 48) hC R13 dX2_work_22 (by decide) (fun c17 => ?_) (fun c17 => ?_)
  · have h18 := h16.1 c17
    refine h_lv (lv' := [some (.ref (gO' Y 9)), some (.int (zI a0)), none, none, some (.int (zI (yget A0 33 ((yz A0 33 : Nat) - 1 : Int)))), some (.int (zI (yget (ypop A0 33) 33 ((yz (ypop A0 33) 33 : Nat) - 1 : Int))))]) ⟨rfl, rfl, rfl, rfl, trivial⟩ ?_
    exact cj_Constants_work_48 hC hr  Ra0 (hZ.rg 33 _) (hZ4.rg 33 _) o14 hZ15 h18
  · have h19 := h16.2 c17
    refine h_iload hC dX2_work_25 rfl ?_
    refine yr_if_ne (tgt := 48) hC (hZ.rg 33 _) dX2_work_27 (by decide) (fun c20 => ?_) (fun c20 => ?_)
    · have h21 := h19.1 c20
      refine h_lv (lv' := [some (.ref (gO' Y 9)), some (.int (zI a0)), none, none, some (.int (zI (yget A0 33 ((yz A0 33 : Nat) - 1 : Int)))), some (.int (zI (yget (ypop A0 33) 33 ((yz (ypop A0 33) 33 : Nat) - 1 : Int))))]) ⟨rfl, rfl, rfl, rfl, trivial⟩ ?_
      exact cj_Constants_work_48 hC hr  Ra0 (hZ.rg 33 _) (hZ4.rg 33 _) o14 hZ15 h21
    · have h22 := h19.2 c20
      refine h_iload_n hC dX2_work_30 rfl ?_
      refine yr_if_eq (tgt := 48) hC Ra1 dX2_work_31 (by decide) (fun c23 => ?_) (fun c23 => ?_)
      · have h24 := h22.1 c23
        refine h_lv (lv' := [some (.ref (gO' Y 9)), some (.int (zI a0)), none, none, some (.int (zI (yget A0 33 ((yz A0 33 : Nat) - 1 : Int)))), some (.int (zI (yget (ypop A0 33) 33 ((yz (ypop A0 33) 33 : Nat) - 1 : Int))))]) ⟨rfl, rfl, rfl, rfl, trivial⟩ ?_
        exact cj_Constants_work_48 hC hr  Ra0 (hZ.rg 33 _) (hZ4.rg 33 _) o14 hZ15 h24
      · have h25 := h22.2 c23
        refine h_aload_n hC dX2_work_34 rfl ?_
        refine h_get hC fl_X2_21 (hZ15.w.o 9 (by decide)) rfl dX2_work_35 ?_
        refine yr_sv (e := (yv A10 38)) hZ15 38 rfl ?_
        refine yr_if_ne (tgt := 48) hC (hZ15.rv 38) dX2_work_38 (by decide) (fun c26 => ?_) (fun c26 => ?_)
        · have h27 := h25.1 c26
          refine h_lv (lv' := [some (.ref (gO' Y 9)), some (.int (zI a0)), none, none, some (.int (zI (yget A0 33 ((yz A0 33 : Nat) - 1 : Int)))), some (.int (zI (yget (ypop A0 33) 33 ((yz (ypop A0 33) 33 : Nat) - 1 : Int))))]) ⟨rfl, rfl, rfl, rfl, trivial⟩ ?_
          exact cj_Constants_work_48 hC hr  Ra0 (hZ.rg 33 _) (hZ4.rg 33 _) o14 hZ15 h27
        · have h28 := h25.2 c26
          refine h_aload_n hC dX2_work_41 rfl ?_
          refine h_bipush (v := zI 6) hC dX2_work_42 rfl ?_
          refine h_iload_n hC dX2_work_44 rfl ?_
          refine yr_callVv (As := [.int (zI 6), .int (zI a2)]) hC hr o14 hZ15 rfl (hZ15.w.o 9 (by decide)) (cm_Constants_fail X.la d b (by decide) Ra2 hZ15.rs h28) cl_X2_57 rfl rfl (Nat.le_of_ble_eq_true rfl) (hFr_of (Nat.le_of_ble_eq_true rfl) (Nat.le_of_ble_eq_true rfl)) dX2_work_45 (fun A30 u31 S32 o34 hZ35 h36 => ?_)
          refine h_lv (lv' := [some (.ref (gO' Y 9)), some (.int (zI a0)), none, none, some (.int (zI (yget A0 33 ((yz A0 33 : Nat) - 1 : Int)))), some (.int (zI (yget (ypop A0 33) 33 ((yz (ypop A0 33) 33 : Nat) - 1 : Int))))]) ⟨rfl, rfl, rfl, rfl, trivial⟩ ?_
          exact cj_Constants_work_48 hC hr  Ra0 (hZ.rg 33 _) (hZ4.rg 33 _) o34 hZ35 h36
theorem dX2_single_0 : decode cX2_single 0 = .ok (.iload_n 1, 1) := by decide +kernel
theorem dX2_single_1 : decode cX2_single 1 = .ok (.lookupswitch 144 #[(3, 59), (13, 116), (14, 116), (85, 134), (86, 134), (87, 70)], 59) := by decide +kernel
theorem dX2_single_60 : decode cX2_single 60 = .ok (.aload_n 0, 1) := by decide +kernel
theorem dX2_single_61 : decode cX2_single 61 = .ok (.getfield 15, 3) := by decide +kernel
theorem dX2_single_64 : decode cX2_single 64 = .ok (.iload_n 2, 1) := by decide +kernel
theorem dX2_single_65 : decode cX2_single 65 = .ok (.invokevirtual 75, 3) := by decide +kernel
theorem dX2_single_68 : decode cX2_single 68 = .ok (.goto 92, 3) := by decide +kernel
theorem dX2_single_71 : decode cX2_single 71 = .ok (.aload_n 0, 1) := by decide +kernel
theorem dX2_single_72 : decode cX2_single 72 = .ok (.getfield 15, 3) := by decide +kernel
theorem dX2_single_75 : decode cX2_single 75 = .ok (.invokevirtual 113, 3) := by decide +kernel
theorem dX2_single_78 : decode cX2_single 78 = .ok (.istore 4, 2) := by decide +kernel
theorem dX2_single_80 : decode cX2_single 80 = .ok (.aload_n 0, 1) := by decide +kernel
theorem dX2_single_81 : decode cX2_single 81 = .ok (.getfield 15, 3) := by decide +kernel
theorem dX2_single_84 : decode cX2_single 84 = .ok (.iload_n 2, 1) := by decide +kernel
theorem dX2_single_85 : decode cX2_single 85 = .ok (.bipush 17, 2) := by decide +kernel
theorem dX2_single_87 : decode cX2_single 87 = .ok (.if_icmp .ne 9, 3) := by decide +kernel
theorem dX2_single_90 : decode cX2_single 90 = .ok (.iload 4, 2) := by decide +kernel
theorem dX2_single_92 : decode cX2_single 92 = .ok (.ineg, 1) := by decide +kernel
theorem dX2_single_93 : decode cX2_single 93 = .ok (.goto 18, 3) := by decide +kernel
theorem dX2_single_96 : decode cX2_single 96 = .ok (.iload_n 2, 1) := by decide +kernel
theorem dX2_single_97 : decode cX2_single 97 = .ok (.bipush 28, 2) := by decide +kernel
theorem dX2_single_99 : decode cX2_single 99 = .ok (.if_icmp .ne 10, 3) := by decide +kernel
theorem dX2_single_102 : decode cX2_single 102 = .ok (.iload 4, 2) := by decide +kernel
theorem dX2_single_104 : decode cX2_single 104 = .ok (.iconst (-1), 1) := by decide +kernel
theorem dX2_single_105 : decode cX2_single 105 = .ok (.ixor, 1) := by decide +kernel
theorem dX2_single_106 : decode cX2_single 106 = .ok (.goto 5, 3) := by decide +kernel
theorem dX2_single_109 : decode cX2_single 109 = .ok (.iload 4, 2) := by decide +kernel
theorem dX2_single_111 : decode cX2_single 111 = .ok (.invokevirtual 75, 3) := by decide +kernel
theorem dX2_single_114 : decode cX2_single 114 = .ok (.goto 46, 3) := by decide +kernel
theorem dX2_single_117 : decode cX2_single 117 = .ok (.aload_n 0, 1) := by decide +kernel
theorem dX2_single_118 : decode cX2_single 118 = .ok (.getfield 15, 3) := by decide +kernel
theorem dX2_single_121 : decode cX2_single 121 = .ok (.invokevirtual 113, 3) := by decide +kernel
theorem dX2_single_124 : decode cX2_single 124 = .ok (.pop, 1) := by decide +kernel
theorem dX2_single_125 : decode cX2_single 125 = .ok (.aload_n 0, 1) := by decide +kernel
theorem dX2_single_126 : decode cX2_single 126 = .ok (.bipush 6, 2) := by decide +kernel
theorem dX2_single_128 : decode cX2_single 128 = .ok (.iload_n 3, 1) := by decide +kernel
theorem dX2_single_129 : decode cX2_single 129 = .ok (.invokevirtual 57, 3) := by decide +kernel
theorem dX2_single_132 : decode cX2_single 132 = .ok (.goto 28, 3) := by decide +kernel
theorem dX2_single_135 : decode cX2_single 135 = .ok (.aload_n 0, 1) := by decide +kernel
theorem dX2_single_136 : decode cX2_single 136 = .ok (.bipush 6, 2) := by decide +kernel
theorem dX2_single_138 : decode cX2_single 138 = .ok (.iload_n 3, 1) := by decide +kernel
theorem dX2_single_139 : decode cX2_single 139 = .ok (.invokevirtual 57, 3) := by decide +kernel
theorem dX2_single_142 : decode cX2_single 142 = .ok (.goto 18, 3) := by decide +kernel
theorem dX2_single_145 : decode cX2_single 145 = .ok (.aload_n 0, 1) := by decide +kernel
theorem dX2_single_146 : decode cX2_single 146 = .ok (.bipush 6, 2) := by decide +kernel
theorem dX2_single_148 : decode cX2_single 148 = .ok (.iload_n 3, 1) := by decide +kernel
theorem dX2_single_149 : decode cX2_single 149 = .ok (.invokevirtual 57, 3) := by decide +kernel
theorem dX2_single_152 : decode cX2_single 152 = .ok (.aload_n 0, 1) := by decide +kernel
theorem dX2_single_153 : decode cX2_single 153 = .ok (.getfield 15, 3) := by decide +kernel
theorem dX2_single_156 : decode cX2_single 156 = .ok (.iconst 0, 1) := by decide +kernel
theorem dX2_single_157 : decode cX2_single 157 = .ok (.invokevirtual 75, 3) := by decide +kernel
theorem dX2_single_160 : decode cX2_single 160 = .ok (.return_, 1) := by decide +kernel
def wc_Constants_single (A0 : cS) (a0 : Int) (a1 : Int) (a2 : Int) (Q : cS → Prop) : Prop :=
  (((a0 = 3) → ((yz A0 33) < 3000) ∧ Q (yadd A0 33 a1)) ∧ ((a0 = 13 ∨ a0 = 14) → wc_Constants_fail (ypop A0 33) 6 a2 (fun A18 => Q A18)) ∧ ((a0 = 85 ∨ a0 = 86) → wc_Constants_fail A0 6 a2 (fun A29 => Q A29)) ∧ ((a0 = 87) → ((¬ a1 = 17 → ((¬ a1 = 28 → ((yz (ypop A0 33) 33) < 3000) ∧ Q (yadd (ypop A0 33) 33 (yget A0 33 ((yz A0 33 : Nat) - 1 : Int)))) ∧ (a1 = 28 → ((yz (ypop A0 33) 33) < 3000) ∧ Q (yadd (ypop A0 33) 33 (zxo (yget A0 33 ((yz A0 33 : Nat) - 1 : Int)) (-1)))))) ∧ (a1 = 17 → ∀ z61 : Int, z61 = zw (-(yget A0 33 ((yz A0 33 : Nat) - 1 : Int))) → zR z61 → ((yz (ypop A0 33) 33) < 3000) ∧ Q (yadd (ypop A0 33) 33 z61)))) ∧ (¬ (a0 = 3) → ¬ (a0 = 13 ∨ a0 = 14) → ¬ (a0 = 85 ∨ a0 = 86) → ¬ (a0 = 87) → wc_Constants_fail A0 6 a2 (fun A73 => ((yz A73 33) < 3000) ∧ Q (yadd A73 33 0))))
set_option maxHeartbeats 4000000 in
set_option maxRecDepth 100000 in
theorem cm_Constants_single (l : Launch) (d : gD) (b : Nat) {Y : gYt} {c : Nat × Nat} {F : gM} {k n : Nat} {S : gSt} {A0 : cS} {a0 : Int} {a1 : Int} {a2 : Int} (Ra0 : zR a0) (Ra1 : zR a1) (Ra2 : zR a2) {Q : cS → Prop} (hZ : yZ d b Y c F S (F, k, n) S A0) (hw : wc_Constants_single A0 a0 a1 a2 Q) : hMv l d b yX2_single cX2_single 5 3 k n F [.ref (gO' Y 9), .int (zI a0), .int (zI a1), .int (zI a2)] (yPv d b Y c F S Q) := by
  intro mc ms
  refine hM_of2 rfl (nL := 5) (Nat.le_of_ble_eq_true rfl) ?_
  intro X hX hC hr ho; subst hX
  show yG X d b (yQv X d b Y c F S mc ms Q) (F, k, n) 0 [some (.ref (gO' Y 9)), some (.int (zI a0)), some (.int (zI a1)), some (.int (zI a2)), none] []
  unfold wc_Constants_single at hw
  refine h_iload_n hC dX2_single_0 rfl ?_
  by_cases g1 : a0 = 3
  · have h3 := (hw.1) g1
    have T2 : yG X d b (yQv X d b Y c F S mc ms Q) (F, k, n) 60 [some (.ref (gO' Y 9)), some (.int (zI a0)), some (.int (zI a1)), some (.int (zI a2)), none] [] := by
      refine h_aload_n hC dX2_single_60 rfl ?_
      refine h_get hC fl_X2_15 (hZ.w.o 9 (by decide)) rfl dX2_single_61 ?_
      refine h_iload_n hC dX2_single_64 rfl ?_
      obtain ⟨o8, h9⟩ := h3
      refine yr_add (j := 33) hC hr ho hZ (by decide) (by decide) Ra1 o8 cl_X2_75 rfl (Nat.le_of_ble_eq_true rfl) (hFr_of (Nat.le_of_ble_eq_true rfl) (Nat.le_of_ble_eq_true rfl)) dX2_single_65 (fun u4 S5 o6 hZ7 => ?_)
      refine h_goto (tgt := 160) hC dX2_single_68 (by decide) ?_
      exact yr_vret hC hr o6 hZ7 h9 dX2_single_160
    clear h3
    exact yr_lokAt (v := 3) hC dX2_single_1 Ra0 (by decide) g1 rfl (by decide) T2
  · skip
    by_cases g10 : a0 = 13 ∨ a0 = 14
    · have h12 := (hw.2.1) g10
      have T11 : yG X d b (yQv X d b Y c F S mc ms Q) (F, k, n) 117 [some (.ref (gO' Y 9)), some (.int (zI a0)), some (.int (zI a1)), some (.int (zI a2)), none] [] := by
        refine h_aload_n hC dX2_single_117 rfl ?_
        refine h_get hC fl_X2_15 (hZ.w.o 9 (by decide)) rfl dX2_single_118 ?_
        refine yr_pop (j := 33) (e := (yget A0 33 ((yz A0 33 : Nat) - 1 : Int))) hC hr ho hZ (by decide) rfl cl_X2_113 rfl (Nat.le_of_ble_eq_true rfl) (hFr_of (Nat.le_of_ble_eq_true rfl) (Nat.le_of_ble_eq_true rfl)) dX2_single_121 (fun u13 S14 o15 hZ16 => ?_)
        refine h_pop hC dX2_single_124 rfl ?_
        refine h_aload_n hC dX2_single_125 rfl ?_
        refine h_bipush (v := zI 6) hC dX2_single_126 rfl ?_
        refine h_iload_n hC dX2_single_128 rfl ?_
        refine yr_callVv (As := [.int (zI 6), .int (zI a2)]) hC hr o15 hZ16 rfl (hZ16.w.o 9 (by decide)) (cm_Constants_fail X.la d b (by decide) Ra2 hZ16.rs h12) cl_X2_57 rfl rfl (Nat.le_of_ble_eq_true rfl) (hFr_of (Nat.le_of_ble_eq_true rfl) (Nat.le_of_ble_eq_true rfl)) dX2_single_129 (fun A18 u19 S20 o22 hZ23 h24 => ?_)
        refine h_goto (tgt := 160) hC dX2_single_132 (by decide) ?_
        exact yr_vret hC hr o22 hZ23 h24 dX2_single_160
      clear h12
      rcases g10 with e1 | e1
      · exact zr_lokAt (v := 13) hC dX2_single_1 Ra0 (by decide) e1 rfl (by decide) T11
      · exact zr_lokAt (v := 14) hC dX2_single_1 Ra0 (by decide) e1 rfl (by decide) T11
    · skip
      by_cases g25 : a0 = 85 ∨ a0 = 86
      · have h27 := (hw.2.2.1) g25
        have T26 : yG X d b (yQv X d b Y c F S mc ms Q) (F, k, n) 135 [some (.ref (gO' Y 9)), some (.int (zI a0)), some (.int (zI a1)), some (.int (zI a2)), none] [] := by
          refine h_aload_n hC dX2_single_135 rfl ?_
          refine h_bipush (v := zI 6) hC dX2_single_136 rfl ?_
          refine h_iload_n hC dX2_single_138 rfl ?_
          refine yr_callVv (As := [.int (zI 6), .int (zI a2)]) hC hr ho hZ rfl (hZ.w.o 9 (by decide)) (cm_Constants_fail X.la d b (by decide) Ra2 hZ.rs h27) cl_X2_57 rfl rfl (Nat.le_of_ble_eq_true rfl) (hFr_of (Nat.le_of_ble_eq_true rfl) (Nat.le_of_ble_eq_true rfl)) dX2_single_139 (fun A29 u30 S31 o33 hZ34 h35 => ?_)
          refine h_goto (tgt := 160) hC dX2_single_142 (by decide) ?_
          exact yr_vret hC hr o33 hZ34 h35 dX2_single_160
        clear h27
        rcases g25 with e1 | e1
        · exact zr_lokAt (v := 85) hC dX2_single_1 Ra0 (by decide) e1 rfl (by decide) T26
        · exact zr_lokAt (v := 86) hC dX2_single_1 Ra0 (by decide) e1 rfl (by decide) T26
      · skip
        by_cases g36 : a0 = 87
        · have h38 := (hw.2.2.2.1) g36
          have T37 : yG X d b (yQv X d b Y c F S mc ms Q) (F, k, n) 71 [some (.ref (gO' Y 9)), some (.int (zI a0)), some (.int (zI a1)), some (.int (zI a2)), none] [] := by
            refine h_aload_n hC dX2_single_71 rfl ?_
            refine h_get hC fl_X2_15 (hZ.w.o 9 (by decide)) rfl dX2_single_72 ?_
            refine yr_pop (j := 33) (e := (yget A0 33 ((yz A0 33 : Nat) - 1 : Int))) hC hr ho hZ (by decide) rfl cl_X2_113 rfl (Nat.le_of_ble_eq_true rfl) (hFr_of (Nat.le_of_ble_eq_true rfl) (Nat.le_of_ble_eq_true rfl)) dX2_single_75 (fun u39 S40 o41 hZ42 => ?_)
            refine h_istore (lv' := [some (.ref (gO' Y 9)), some (.int (zI a0)), some (.int (zI a1)), some (.int (zI a2)), some (.int (zI (yget A0 33 ((yz A0 33 : Nat) - 1 : Int))))]) hC dX2_single_78 (Nat.le_of_ble_eq_true rfl) rfl rfl ?_
            refine h_aload_n hC dX2_single_80 rfl ?_
            refine h_get hC fl_X2_15 (hZ42.w.o 9 (by decide)) rfl dX2_single_81 ?_
            refine h_iload_n hC dX2_single_84 rfl ?_
            refine h_bipush (v := zI 17) hC dX2_single_85 rfl ?_
            refine yr_icmp_ne (tgt := 96) hC Ra1 (by decide) dX2_single_87 (by decide) (fun c43 => ?_) (fun c43 => ?_)
            · have h44 := h38.1 c43
              refine h_iload_n hC dX2_single_96 rfl ?_
              refine h_bipush (v := zI 28) hC dX2_single_97 rfl ?_
              refine yr_icmp_ne (tgt := 109) hC Ra1 (by decide) dX2_single_99 (by decide) (fun c45 => ?_) (fun c45 => ?_)
              · have h46 := h44.1 c45
                refine h_iload hC dX2_single_109 rfl ?_
                obtain ⟨o51, h52⟩ := h46
                refine yr_add (j := 33) hC hr o41 hZ42 (by decide) (by decide) (hZ.rg 33 _) o51 cl_X2_75 rfl (Nat.le_of_ble_eq_true rfl) (hFr_of (Nat.le_of_ble_eq_true rfl) (Nat.le_of_ble_eq_true rfl)) dX2_single_111 (fun u47 S48 o49 hZ50 => ?_)
                refine h_goto (tgt := 160) hC dX2_single_114 (by decide) ?_
                exact yr_vret hC hr o49 hZ50 h52 dX2_single_160
              · have h53 := h44.2 c45
                refine h_iload hC dX2_single_102 rfl ?_
                refine h_iconst (v := zI (-1)) hC dX2_single_104 rfl ?_
                refine yr_ixor hC dX2_single_105 ?_
                refine h_goto (tgt := 111) hC dX2_single_106 (by decide) ?_
                obtain ⟨o58, h59⟩ := h53
                refine yr_add (j := 33) hC hr o41 hZ42 (by decide) (by decide) (zR_t _) o58 cl_X2_75 rfl (Nat.le_of_ble_eq_true rfl) (hFr_of (Nat.le_of_ble_eq_true rfl) (Nat.le_of_ble_eq_true rfl)) dX2_single_111 (fun u54 S55 o56 hZ57 => ?_)
                refine h_goto (tgt := 160) hC dX2_single_114 (by decide) ?_
                exact yr_vret hC hr o56 hZ57 h59 dX2_single_160
            · have h60 := h38.2 c43
              refine h_iload hC dX2_single_90 rfl ?_
              refine yr_ineg hC dX2_single_92 ?_
              refine yr_w (fun z61 e62 R63 => ?_)
              have h64 := h60 z61 e62 R63
              refine h_goto (tgt := 111) hC dX2_single_93 (by decide) ?_
              obtain ⟨o69, h70⟩ := h64
              refine yr_add (j := 33) hC hr o41 hZ42 (by decide) (by decide) R63 o69 cl_X2_75 rfl (Nat.le_of_ble_eq_true rfl) (hFr_of (Nat.le_of_ble_eq_true rfl) (Nat.le_of_ble_eq_true rfl)) dX2_single_111 (fun u65 S66 o67 hZ68 => ?_)
              refine h_goto (tgt := 160) hC dX2_single_114 (by decide) ?_
              exact yr_vret hC hr o67 hZ68 h70 dX2_single_160
          clear h38
          exact yr_lokAt (v := 87) hC dX2_single_1 Ra0 (by decide) g36 rfl (by decide) T37
        · skip
          have h71 := hw.2.2.2.2 g1 g10 g25 g36
          refine yr_lokD (tgt := 145) hC dX2_single_1 Ra0 (by decide) (List.forall_mem_cons.mpr ⟨(fun q => g1 (q)), List.forall_mem_cons.mpr ⟨(fun q => g10 (Or.inl q)), List.forall_mem_cons.mpr ⟨(fun q => g10 (Or.inr (q))), List.forall_mem_cons.mpr ⟨(fun q => g25 (Or.inl q)), List.forall_mem_cons.mpr ⟨(fun q => g25 (Or.inr (q))), List.forall_mem_cons.mpr ⟨(fun q => g36 (q)), fun q hq => absurd hq List.not_mem_nil⟩⟩⟩⟩⟩⟩) (by decide) ?_
          refine h_aload_n hC dX2_single_145 rfl ?_
          refine h_bipush (v := zI 6) hC dX2_single_146 rfl ?_
          refine h_iload_n hC dX2_single_148 rfl ?_
          refine yr_callVv (As := [.int (zI 6), .int (zI a2)]) hC hr ho hZ rfl (hZ.w.o 9 (by decide)) (cm_Constants_fail X.la d b (by decide) Ra2 hZ.rs h71) cl_X2_57 rfl rfl (Nat.le_of_ble_eq_true rfl) (hFr_of (Nat.le_of_ble_eq_true rfl) (Nat.le_of_ble_eq_true rfl)) dX2_single_149 (fun A73 u74 S75 o77 hZ78 h79 => ?_)
          refine h_aload_n hC dX2_single_152 rfl ?_
          refine h_get hC fl_X2_15 (hZ78.w.o 9 (by decide)) rfl dX2_single_153 ?_
          refine h_iconst (v := zI 0) hC dX2_single_156 rfl ?_
          obtain ⟨o84, h85⟩ := h79
          refine yr_add (j := 33) hC hr o77 hZ78 (by decide) (by decide) (by decide) o84 cl_X2_75 rfl (Nat.le_of_ble_eq_true rfl) (hFr_of (Nat.le_of_ble_eq_true rfl) (Nat.le_of_ble_eq_true rfl)) dX2_single_157 (fun u80 S81 o82 hZ83 => ?_)
          exact yr_vret hC hr o82 hZ83 h85 dX2_single_160
def yOkK (l : Launch) (d : gD) (b : Nat) (Y : gYt) (c : Nat × Nat) (lv0 : Nat) (rec : Nat → Int → Int → Int → cS → (Int → cS → Prop) → Prop) : Prop :=
  (∀ {F : gM} {k n : Nat} {S : gSt} {A0 : cS} {a0 : Int} {a1 : Int}, zR a0 → zR a1 → ∀ {Q : Int → cS → Prop}, yZ d b Y c F S (F, k, n) S A0 → rec 0 a0 a1 0 A0 Q → hMi l d b yX2_reckon cX2_reckon 11 .int (7 + lv0) k n F [(.ref (gO' Y 9)), .int (zI a0), .int (zI a1)] (yPi d b Y c F S Q)) ∧
  (∀ {F : gM} {k n : Nat} {S : gSt} {A0 : cS} {a0 : Int} {a1 : Int}, zR a0 → zR a1 → ∀ {Q : Int → cS → Prop}, yZ d b Y c F S (F, k, n) S A0 → rec 1 a0 a1 0 A0 Q → hMi l d b yX2_choose cX2_choose 8 .int (7 + lv0) k n F [(.ref (gO' Y 9)), .int (zI a0), .int (zI a1)] (yPi d b Y c F S Q))
theorem dX2_reckon_0 : decode cX2_reckon 0 = .ok (.iload_n 2, 1) := by decide +kernel
theorem dX2_reckon_1 : decode cX2_reckon 1 = .ok (.istore_n 3, 1) := by decide +kernel
theorem dX2_reckon_2 : decode cX2_reckon 2 = .ok (.iconst 1, 1) := by decide +kernel
theorem dX2_reckon_3 : decode cX2_reckon 3 = .ok (.istore 4, 2) := by decide +kernel
theorem dX2_reckon_5 : decode cX2_reckon 5 = .ok (.aload_n 0, 1) := by decide +kernel
theorem dX2_reckon_6 : decode cX2_reckon 6 = .ok (.getfield 32, 3) := by decide +kernel
theorem dX2_reckon_9 : decode cX2_reckon 9 = .ok (.iload_n 1, 1) := by decide +kernel
theorem dX2_reckon_10 : decode cX2_reckon 10 = .ok (.invokevirtual 66, 3) := by decide +kernel
theorem dX2_reckon_13 : decode cX2_reckon 13 = .ok (.istore 5, 2) := by decide +kernel
theorem dX2_reckon_15 : decode cX2_reckon 15 = .ok (.iconst 0, 1) := by decide +kernel
theorem dX2_reckon_16 : decode cX2_reckon 16 = .ok (.istore 6, 2) := by decide +kernel
theorem dX2_reckon_18 : decode cX2_reckon 18 = .ok (.iload 6, 2) := by decide +kernel
theorem dX2_reckon_20 : decode cX2_reckon 20 = .ok (.ldc 11, 2) := by decide +kernel
theorem dX2_reckon_22 : decode cX2_reckon 22 = .ok (.if_icmp .ge 381, 3) := by decide +kernel
theorem dX2_reckon_25 : decode cX2_reckon 25 = .ok (.iload 5, 2) := by decide +kernel
theorem dX2_reckon_27 : decode cX2_reckon 27 = .ok (.ifCond .eq 376, 3) := by decide +kernel
theorem dX2_reckon_30 : decode cX2_reckon 30 = .ok (.aload_n 0, 1) := by decide +kernel
theorem dX2_reckon_31 : decode cX2_reckon 31 = .ok (.getfield 32, 3) := by decide +kernel
theorem dX2_reckon_34 : decode cX2_reckon 34 = .ok (.iload 5, 2) := by decide +kernel
theorem dX2_reckon_36 : decode cX2_reckon 36 = .ok (.invokevirtual 69, 3) := by decide +kernel
theorem dX2_reckon_39 : decode cX2_reckon 39 = .ok (.istore 7, 2) := by decide +kernel
theorem dX2_reckon_41 : decode cX2_reckon 41 = .ok (.aload_n 0, 1) := by decide +kernel
theorem dX2_reckon_42 : decode cX2_reckon 42 = .ok (.getfield 32, 3) := by decide +kernel
theorem dX2_reckon_45 : decode cX2_reckon 45 = .ok (.iload 5, 2) := by decide +kernel
theorem dX2_reckon_47 : decode cX2_reckon 47 = .ok (.invokevirtual 51, 3) := by decide +kernel
theorem dX2_reckon_50 : decode cX2_reckon 50 = .ok (.istore 8, 2) := by decide +kernel
theorem dX2_reckon_52 : decode cX2_reckon 52 = .ok (.aload_n 0, 1) := by decide +kernel
theorem dX2_reckon_53 : decode cX2_reckon 53 = .ok (.getfield 32, 3) := by decide +kernel
theorem dX2_reckon_56 : decode cX2_reckon 56 = .ok (.iload 5, 2) := by decide +kernel
theorem dX2_reckon_58 : decode cX2_reckon 58 = .ok (.invokevirtual 72, 3) := by decide +kernel
theorem dX2_reckon_61 : decode cX2_reckon 61 = .ok (.lookupswitch 308 #[(2, 210), (81, 75), (82, 51), (83, 92), (88, 145)], 51) := by decide +kernel
theorem dX2_reckon_112 : decode cX2_reckon 112 = .ok (.aload_n 0, 1) := by decide +kernel
theorem dX2_reckon_113 : decode cX2_reckon 113 = .ok (.getfield 15, 3) := by decide +kernel
theorem dX2_reckon_116 : decode cX2_reckon 116 = .ok (.aload_n 0, 1) := by decide +kernel
theorem dX2_reckon_117 : decode cX2_reckon 117 = .ok (.aload_n 0, 1) := by decide +kernel
theorem dX2_reckon_118 : decode cX2_reckon 118 = .ok (.getfield 32, 3) := by decide +kernel
theorem dX2_reckon_121 : decode cX2_reckon 121 = .ok (.iload 5, 2) := by decide +kernel
theorem dX2_reckon_123 : decode cX2_reckon 123 = .ok (.invokevirtual 66, 3) := by decide +kernel
theorem dX2_reckon_126 : decode cX2_reckon 126 = .ok (.iload_n 3, 1) := by decide +kernel
theorem dX2_reckon_127 : decode cX2_reckon 127 = .ok (.invokevirtual 47, 3) := by decide +kernel
theorem dX2_reckon_130 : decode cX2_reckon 130 = .ok (.invokevirtual 75, 3) := by decide +kernel
theorem dX2_reckon_133 : decode cX2_reckon 133 = .ok (.goto 253, 3) := by decide +kernel
theorem dX2_reckon_136 : decode cX2_reckon 136 = .ok (.aload_n 0, 1) := by decide +kernel
theorem dX2_reckon_137 : decode cX2_reckon 137 = .ok (.getfield 15, 3) := by decide +kernel
theorem dX2_reckon_140 : decode cX2_reckon 140 = .ok (.aload_n 0, 1) := by decide +kernel
theorem dX2_reckon_141 : decode cX2_reckon 141 = .ok (.iload 5, 2) := by decide +kernel
theorem dX2_reckon_143 : decode cX2_reckon 143 = .ok (.iload_n 3, 1) := by decide +kernel
theorem dX2_reckon_144 : decode cX2_reckon 144 = .ok (.invokevirtual 78, 3) := by decide +kernel
theorem dX2_reckon_147 : decode cX2_reckon 147 = .ok (.invokevirtual 75, 3) := by decide +kernel
theorem dX2_reckon_150 : decode cX2_reckon 150 = .ok (.goto 236, 3) := by decide +kernel
theorem dX2_reckon_153 : decode cX2_reckon 153 = .ok (.aload_n 0, 1) := by decide +kernel
theorem dX2_reckon_154 : decode cX2_reckon 154 = .ok (.getfield 15, 3) := by decide +kernel
theorem dX2_reckon_157 : decode cX2_reckon 157 = .ok (.aload_n 0, 1) := by decide +kernel
theorem dX2_reckon_158 : decode cX2_reckon 158 = .ok (.aload_n 0, 1) := by decide +kernel
theorem dX2_reckon_159 : decode cX2_reckon 159 = .ok (.getfield 32, 3) := by decide +kernel
theorem dX2_reckon_162 : decode cX2_reckon 162 = .ok (.iload 5, 2) := by decide +kernel
theorem dX2_reckon_164 : decode cX2_reckon 164 = .ok (.invokevirtual 66, 3) := by decide +kernel
theorem dX2_reckon_167 : decode cX2_reckon 167 = .ok (.iload_n 3, 1) := by decide +kernel
theorem dX2_reckon_168 : decode cX2_reckon 168 = .ok (.invokevirtual 47, 3) := by decide +kernel
theorem dX2_reckon_171 : decode cX2_reckon 171 = .ok (.invokevirtual 75, 3) := by decide +kernel
theorem dX2_reckon_174 : decode cX2_reckon 174 = .ok (.aload_n 0, 1) := by decide +kernel
theorem dX2_reckon_175 : decode cX2_reckon 175 = .ok (.bipush 6, 2) := by decide +kernel
theorem dX2_reckon_177 : decode cX2_reckon 177 = .ok (.aload_n 0, 1) := by decide +kernel
theorem dX2_reckon_178 : decode cX2_reckon 178 = .ok (.getfield 32, 3) := by decide +kernel
theorem dX2_reckon_181 : decode cX2_reckon 181 = .ok (.aload_n 0, 1) := by decide +kernel
theorem dX2_reckon_182 : decode cX2_reckon 182 = .ok (.getfield 32, 3) := by decide +kernel
theorem dX2_reckon_185 : decode cX2_reckon 185 = .ok (.aload_n 0, 1) := by decide +kernel
theorem dX2_reckon_186 : decode cX2_reckon 186 = .ok (.getfield 32, 3) := by decide +kernel
theorem dX2_reckon_189 : decode cX2_reckon 189 = .ok (.iload 5, 2) := by decide +kernel
theorem dX2_reckon_191 : decode cX2_reckon 191 = .ok (.invokevirtual 66, 3) := by decide +kernel
theorem dX2_reckon_194 : decode cX2_reckon 194 = .ok (.invokevirtual 81, 3) := by decide +kernel
theorem dX2_reckon_197 : decode cX2_reckon 197 = .ok (.invokevirtual 51, 3) := by decide +kernel
theorem dX2_reckon_200 : decode cX2_reckon 200 = .ok (.invokevirtual 57, 3) := by decide +kernel
theorem dX2_reckon_203 : decode cX2_reckon 203 = .ok (.goto 183, 3) := by decide +kernel
theorem dX2_reckon_206 : decode cX2_reckon 206 = .ok (.iload 7, 2) := by decide +kernel
theorem dX2_reckon_208 : decode cX2_reckon 208 = .ok (.invokestatic 84, 3) := by decide +kernel
theorem dX2_reckon_211 : decode cX2_reckon 211 = .ok (.ifCond .eq 48, 3) := by decide +kernel
theorem dX2_reckon_214 : decode cX2_reckon 214 = .ok (.aload_n 0, 1) := by decide +kernel
theorem dX2_reckon_215 : decode cX2_reckon 215 = .ok (.iload 7, 2) := by decide +kernel
theorem dX2_reckon_217 : decode cX2_reckon 217 = .ok (.iload 4, 2) := by decide +kernel
theorem dX2_reckon_219 : decode cX2_reckon 219 = .ok (.aload_n 0, 1) := by decide +kernel
theorem dX2_reckon_220 : decode cX2_reckon 220 = .ok (.getfield 32, 3) := by decide +kernel
theorem dX2_reckon_223 : decode cX2_reckon 223 = .ok (.iload 5, 2) := by decide +kernel
theorem dX2_reckon_225 : decode cX2_reckon 225 = .ok (.invokevirtual 88, 3) := by decide +kernel
theorem dX2_reckon_228 : decode cX2_reckon 228 = .ok (.ifCond .eq 7, 3) := by decide +kernel
theorem dX2_reckon_231 : decode cX2_reckon 231 = .ok (.iconst 1, 1) := by decide +kernel
theorem dX2_reckon_232 : decode cX2_reckon 232 = .ok (.goto 4, 3) := by decide +kernel
theorem dX2_reckon_235 : decode cX2_reckon 235 = .ok (.iconst 0, 1) := by decide +kernel
theorem dX2_reckon_236 : decode cX2_reckon 236 = .ok (.invokevirtual 91, 3) := by decide +kernel
theorem dX2_reckon_239 : decode cX2_reckon 239 = .ok (.istore 4, 2) := by decide +kernel
theorem dX2_reckon_241 : decode cX2_reckon 241 = .ok (.iload_n 2, 1) := by decide +kernel
theorem dX2_reckon_242 : decode cX2_reckon 242 = .ok (.ifCond .eq 12, 3) := by decide +kernel
theorem dX2_reckon_245 : decode cX2_reckon 245 = .ok (.iload 4, 2) := by decide +kernel
theorem dX2_reckon_247 : decode cX2_reckon 247 = .ok (.ifCond .eq 7, 3) := by decide +kernel
theorem dX2_reckon_250 : decode cX2_reckon 250 = .ok (.iconst 1, 1) := by decide +kernel
theorem dX2_reckon_251 : decode cX2_reckon 251 = .ok (.goto 4, 3) := by decide +kernel
theorem dX2_reckon_254 : decode cX2_reckon 254 = .ok (.iconst 0, 1) := by decide +kernel
theorem dX2_reckon_255 : decode cX2_reckon 255 = .ok (.istore_n 3, 1) := by decide +kernel
theorem dX2_reckon_256 : decode cX2_reckon 256 = .ok (.goto 130, 3) := by decide +kernel
theorem dX2_reckon_259 : decode cX2_reckon 259 = .ok (.aload_n 0, 1) := by decide +kernel
theorem dX2_reckon_260 : decode cX2_reckon 260 = .ok (.iload 7, 2) := by decide +kernel
theorem dX2_reckon_262 : decode cX2_reckon 262 = .ok (.iload_n 3, 1) := by decide +kernel
theorem dX2_reckon_263 : decode cX2_reckon 263 = .ok (.iload 8, 2) := by decide +kernel
theorem dX2_reckon_265 : decode cX2_reckon 265 = .ok (.invokevirtual 95, 3) := by decide +kernel
theorem dX2_reckon_268 : decode cX2_reckon 268 = .ok (.goto 118, 3) := by decide +kernel
theorem dX2_reckon_271 : decode cX2_reckon 271 = .ok (.aload_n 0, 1) := by decide +kernel
theorem dX2_reckon_272 : decode cX2_reckon 272 = .ok (.getfield 40, 3) := by decide +kernel
theorem dX2_reckon_275 : decode cX2_reckon 275 = .ok (.iload 7, 2) := by decide +kernel
theorem dX2_reckon_277 : decode cX2_reckon 277 = .ok (.invokevirtual 99, 3) := by decide +kernel
theorem dX2_reckon_280 : decode cX2_reckon 280 = .ok (.istore 9, 2) := by decide +kernel
theorem dX2_reckon_282 : decode cX2_reckon 282 = .ok (.iload 9, 2) := by decide +kernel
theorem dX2_reckon_284 : decode cX2_reckon 284 = .ok (.ifCond .lt 32, 3) := by decide +kernel
theorem dX2_reckon_287 : decode cX2_reckon 287 = .ok (.aload_n 0, 1) := by decide +kernel
theorem dX2_reckon_288 : decode cX2_reckon 288 = .ok (.getfield 40, 3) := by decide +kernel
theorem dX2_reckon_291 : decode cX2_reckon 291 = .ok (.iload 9, 2) := by decide +kernel
theorem dX2_reckon_293 : decode cX2_reckon 293 = .ok (.invokevirtual 104, 3) := by decide +kernel
theorem dX2_reckon_296 : decode cX2_reckon 296 = .ok (.iconst 4, 1) := by decide +kernel
theorem dX2_reckon_297 : decode cX2_reckon 297 = .ok (.if_icmp .ne 19, 3) := by decide +kernel
theorem dX2_reckon_300 : decode cX2_reckon 300 = .ok (.aload_n 0, 1) := by decide +kernel
theorem dX2_reckon_301 : decode cX2_reckon 301 = .ok (.getfield 40, 3) := by decide +kernel
theorem dX2_reckon_304 : decode cX2_reckon 304 = .ok (.iload 9, 2) := by decide +kernel
theorem dX2_reckon_306 : decode cX2_reckon 306 = .ok (.invokevirtual 105, 3) := by decide +kernel
theorem dX2_reckon_309 : decode cX2_reckon 309 = .ok (.ifCond .eq 7, 3) := by decide +kernel
theorem dX2_reckon_312 : decode cX2_reckon 312 = .ok (.iconst 1, 1) := by decide +kernel
theorem dX2_reckon_313 : decode cX2_reckon 313 = .ok (.goto 4, 3) := by decide +kernel
theorem dX2_reckon_316 : decode cX2_reckon 316 = .ok (.iconst 0, 1) := by decide +kernel
theorem dX2_reckon_317 : decode cX2_reckon 317 = .ok (.istore 10, 2) := by decide +kernel
theorem dX2_reckon_319 : decode cX2_reckon 319 = .ok (.iload 10, 2) := by decide +kernel
theorem dX2_reckon_321 : decode cX2_reckon 321 = .ok (.ifCond .ne 20, 3) := by decide +kernel
theorem dX2_reckon_324 : decode cX2_reckon 324 = .ok (.aload_n 0, 1) := by decide +kernel
theorem dX2_reckon_325 : decode cX2_reckon 325 = .ok (.iload 9, 2) := by decide +kernel
theorem dX2_reckon_327 : decode cX2_reckon 327 = .ok (.ifCond .ge 7, 3) := by decide +kernel
theorem dX2_reckon_330 : decode cX2_reckon 330 = .ok (.iconst 3, 1) := by decide +kernel
theorem dX2_reckon_331 : decode cX2_reckon 331 = .ok (.goto 5, 3) := by decide +kernel
theorem dX2_reckon_334 : decode cX2_reckon 334 = .ok (.bipush 6, 2) := by decide +kernel
theorem dX2_reckon_336 : decode cX2_reckon 336 = .ok (.iload 8, 2) := by decide +kernel
theorem dX2_reckon_338 : decode cX2_reckon 338 = .ok (.invokevirtual 57, 3) := by decide +kernel
theorem dX2_reckon_341 : decode cX2_reckon 341 = .ok (.aload_n 0, 1) := by decide +kernel
theorem dX2_reckon_342 : decode cX2_reckon 342 = .ok (.getfield 15, 3) := by decide +kernel
theorem dX2_reckon_345 : decode cX2_reckon 345 = .ok (.iload 10, 2) := by decide +kernel
theorem dX2_reckon_347 : decode cX2_reckon 347 = .ok (.ifCond .eq 15, 3) := by decide +kernel
theorem dX2_reckon_350 : decode cX2_reckon 350 = .ok (.aload_n 0, 1) := by decide +kernel
theorem dX2_reckon_351 : decode cX2_reckon 351 = .ok (.getfield 40, 3) := by decide +kernel
theorem dX2_reckon_354 : decode cX2_reckon 354 = .ok (.iload 9, 2) := by decide +kernel
theorem dX2_reckon_356 : decode cX2_reckon 356 = .ok (.invokevirtual 108, 3) := by decide +kernel
theorem dX2_reckon_359 : decode cX2_reckon 359 = .ok (.goto 4, 3) := by decide +kernel
theorem dX2_reckon_362 : decode cX2_reckon 362 = .ok (.iconst 0, 1) := by decide +kernel
theorem dX2_reckon_363 : decode cX2_reckon 363 = .ok (.invokevirtual 75, 3) := by decide +kernel
theorem dX2_reckon_366 : decode cX2_reckon 366 = .ok (.goto 20, 3) := by decide +kernel
theorem dX2_reckon_369 : decode cX2_reckon 369 = .ok (.aload_n 0, 1) := by decide +kernel
theorem dX2_reckon_370 : decode cX2_reckon 370 = .ok (.aload_n 0, 1) := by decide +kernel
theorem dX2_reckon_371 : decode cX2_reckon 371 = .ok (.getfield 32, 3) := by decide +kernel
theorem dX2_reckon_374 : decode cX2_reckon 374 = .ok (.iload 5, 2) := by decide +kernel
theorem dX2_reckon_376 : decode cX2_reckon 376 = .ok (.invokevirtual 72, 3) := by decide +kernel
theorem dX2_reckon_379 : decode cX2_reckon 379 = .ok (.iload 7, 2) := by decide +kernel
theorem dX2_reckon_381 : decode cX2_reckon 381 = .ok (.iload 8, 2) := by decide +kernel
theorem dX2_reckon_383 : decode cX2_reckon 383 = .ok (.invokevirtual 109, 3) := by decide +kernel
theorem dX2_reckon_386 : decode cX2_reckon 386 = .ok (.aload_n 0, 1) := by decide +kernel
theorem dX2_reckon_387 : decode cX2_reckon 387 = .ok (.getfield 32, 3) := by decide +kernel
theorem dX2_reckon_390 : decode cX2_reckon 390 = .ok (.iload 5, 2) := by decide +kernel
theorem dX2_reckon_392 : decode cX2_reckon 392 = .ok (.invokevirtual 81, 3) := by decide +kernel
theorem dX2_reckon_395 : decode cX2_reckon 395 = .ok (.istore 5, 2) := by decide +kernel
theorem dX2_reckon_397 : decode cX2_reckon 397 = .ok (.iinc 6 1, 3) := by decide +kernel
theorem dX2_reckon_400 : decode cX2_reckon 400 = .ok (.goto (-382), 3) := by decide +kernel
theorem dX2_reckon_403 : decode cX2_reckon 403 = .ok (.aload_n 0, 1) := by decide +kernel
theorem dX2_reckon_404 : decode cX2_reckon 404 = .ok (.getfield 15, 3) := by decide +kernel
theorem dX2_reckon_407 : decode cX2_reckon 407 = .ok (.invokevirtual 113, 3) := by decide +kernel
theorem dX2_reckon_410 : decode cX2_reckon 410 = .ok (.ireturn, 1) := by decide +kernel
def wc_Constants_reckon_386 (rec : Nat → Int → Int → Int → cS → (Int → cS → Prop) → Prop) (Q : Int → cS → Prop) (k18 : cS → Int → Int → Int → Int → Int → Prop) (A0 : cS) (x2 : Int) (x3 : Int) (x4 : Int) (x5 : Int) (x6 : Int) : Prop :=
  wc_Tree_next A0 x5 (fun r1 A2 => (zR (x6 + 1)) ∧ k18 A2 x2 x3 x4 r1 (x6 + 1))
def wc_Constants_reckon_317 (rec : Nat → Int → Int → Int → cS → (Int → cS → Prop) → Prop) (Q : Int → cS → Prop) (k18 : cS → Int → Int → Int → Int → Int → Prop) (A0 : cS) (x2 : Int) (x3 : Int) (x4 : Int) (x5 : Int) (x6 : Int) (x8 : Int) (x9 : Int) (y0 : Int) : Prop :=
  ((¬ y0 = 0 → ((y0 = 0 → ((yz A0 33) < 3000) ∧ wc_Constants_reckon_386 rec Q k18 (yadd A0 33 0) x2 x3 x4 x5 x6) ∧ (¬ y0 = 0 → wc_Scope_data A0 x9 (fun r12 A13 => ((yz A13 33) < 3000) ∧ wc_Constants_reckon_386 rec Q k18 (yadd A13 33 r12) x2 x3 x4 x5 x6)))) ∧ (y0 = 0 → ((0 ≤ x9 → wc_Constants_fail A0 6 x8 (fun A30 => ((y0 = 0 → ((yz A30 33) < 3000) ∧ wc_Constants_reckon_386 rec Q k18 (yadd A30 33 0) x2 x3 x4 x5 x6) ∧ (¬ y0 = 0 → wc_Scope_data A30 x9 (fun r46 A47 => ((yz A47 33) < 3000) ∧ wc_Constants_reckon_386 rec Q k18 (yadd A47 33 r46) x2 x3 x4 x5 x6))))) ∧ (¬ 0 ≤ x9 → wc_Constants_fail A0 3 x8 (fun A62 => ((y0 = 0 → ((yz A62 33) < 3000) ∧ wc_Constants_reckon_386 rec Q k18 (yadd A62 33 0) x2 x3 x4 x5 x6) ∧ (¬ y0 = 0 → wc_Scope_data A62 x9 (fun r78 A79 => ((yz A79 33) < 3000) ∧ wc_Constants_reckon_386 rec Q k18 (yadd A79 33 r78) x2 x3 x4 x5 x6))))))))
def wc_Constants_reckon_18B (rec : Nat → Int → Int → Int → cS → (Int → cS → Prop) → Prop) (Q : Int → cS → Prop) (k18 : cS → Int → Int → Int → Int → Int → Prop) (A0 : cS) (x2 : Int) (x3 : Int) (x4 : Int) (x5 : Int) (x6 : Int) : Prop :=
  ((1000000 ≤ x6 → Q (yget A0 33 ((yz A0 33 : Nat) - 1 : Int)) (ypop A0 33)) ∧ (¬ 1000000 ≤ x6 → ((x5 = 0 → Q (yget A0 33 ((yz A0 33 : Nat) - 1 : Int)) (ypop A0 33)) ∧ (¬ x5 = 0 → wc_Tree_data A0 x5 (fun r15 A16 => wc_Tree_place A16 x5 (fun r23 A24 => wc_Tree_kind A24 x5 (fun r31 A32 => (((r31 = 2) → wc_Scope_find A32 r15 (fun r42 A43 => ((r42 < 0 → wc_Constants_reckon_317 rec Q k18 A43 x2 x3 x4 x5 x6 r23 r42 0) ∧ (¬ r42 < 0 → wc_Scope_kind A43 r42 (fun r53 A54 => ((¬ r53 = 4 → wc_Constants_reckon_317 rec Q k18 A54 x2 x3 x4 x5 x6 r23 r42 0) ∧ (r53 = 4 → wc_Scope_owner A54 r42 (fun r64 A65 => ((r64 = 0 → wc_Constants_reckon_317 rec Q k18 A65 x2 x3 x4 x5 x6 r23 r42 0) ∧ (¬ r64 = 0 → wc_Constants_reckon_317 rec Q k18 A65 x2 x3 x4 x5 x6 r23 r42 1)))))))))) ∧ ((r31 = 81) → rec 1 x5 x3 0 A32 (fun r78 A79 => ((yz A79 33) < 3000) ∧ wc_Constants_reckon_386 rec Q k18 (yadd A79 33 r78) x2 x3 x4 x5 x6)) ∧ ((r31 = 82) → wc_Tree_first A32 x5 (fun r95 A96 => rec 0 r95 x3 0 A96 (fun r103 A104 => ((yz A104 33) < 3000) ∧ wc_Constants_reckon_386 rec Q k18 (yadd A104 33 r103) x2 x3 x4 x5 x6))) ∧ ((r31 = 83) → wc_Tree_first A32 x5 (fun r120 A121 => rec 0 r120 x3 0 A121 (fun r128 A129 => ((yz A129 33) < 3000) ∧ wc_Tree_first (yadd A129 33 r128) x5 (fun r142 A143 => wc_Tree_next A143 r142 (fun r150 A151 => wc_Tree_place A151 r150 (fun r158 A159 => wc_Constants_fail A159 6 r158 (fun A167 => wc_Constants_reckon_386 rec Q k18 A167 x2 x3 x4 x5 x6))))))) ∧ ((r31 = 88) → wc_W_isRelation A32 r15 (fun r177 A178 => ((r177 = 0 → wc_Constants_work A178 r15 x3 r23 (fun A188 => wc_Constants_reckon_386 rec Q k18 A188 x2 x3 x4 x5 x6)) ∧ (¬ r177 = 0 → wc_Tree_extra A178 x5 (fun r196 A197 => ((r196 = 0 → wc_Constants_relate A197 r15 x4 0 (fun r206 A207 => ((x2 = 0 → wc_Constants_reckon_386 rec Q k18 A207 x2 0 r206 x5 x6) ∧ (¬ x2 = 0 → ((r206 = 0 → wc_Constants_reckon_386 rec Q k18 A207 x2 0 r206 x5 x6) ∧ (¬ r206 = 0 → wc_Constants_reckon_386 rec Q k18 A207 x2 1 r206 x5 x6)))))) ∧ (¬ r196 = 0 → wc_Constants_relate A197 r15 x4 1 (fun r221 A222 => ((x2 = 0 → wc_Constants_reckon_386 rec Q k18 A222 x2 0 r221 x5 x6) ∧ (¬ x2 = 0 → ((r221 = 0 → wc_Constants_reckon_386 rec Q k18 A222 x2 0 r221 x5 x6) ∧ (¬ r221 = 0 → wc_Constants_reckon_386 rec Q k18 A222 x2 1 r221 x5 x6)))))))))))) ∧ (¬ (r31 = 2) → ¬ (r31 = 81) → ¬ (r31 = 82) → ¬ (r31 = 83) → ¬ (r31 = 88) → wc_Tree_kind A32 x5 (fun r236 A237 => wc_Constants_single A237 r236 r15 r23 (fun A245 => wc_Constants_reckon_386 rec Q k18 A245 x2 x3 x4 x5 x6)))))))))))
def wc_Constants_reckon_18 (rec : Nat → Int → Int → Int → cS → (Int → cS → Prop) → Prop) (Q : Int → cS → Prop)  : Nat → cS → Int → Int → Int → Int → Int → Prop
  | 0 => fun _ _ _ _ _ _ => False
  | m + 1 => fun A0 x2 x3 x4 x5 x6 => wc_Constants_reckon_18B rec Q  (wc_Constants_reckon_18 rec Q  m) A0 x2 x3 x4 x5 x6
def wc_Constants_reckon (rec : Nat → Int → Int → Int → cS → (Int → cS → Prop) → Prop) (A0 : cS) (a0 : Int) (a1 : Int) (Q : Int → cS → Prop) : Prop :=
  wc_Tree_first A0 a0 (fun r1 A2 => ∃ n, wc_Constants_reckon_18 rec Q  n A2 a1 a1 1 r1 0)
set_option maxHeartbeats 4000000 in
set_option maxRecDepth 100000 in
theorem cj_Constants_reckon_386 {X : gX} {d : gD} {b : Nat} {Y : gYt} {c : Nat × Nat} {F0 : gM} {S0 : gSt} {mc ms : Nat} {rec : Nat → Int → Int → Int → cS → (Int → cS → Prop) → Prop} {lv0 : Nat} (hC : gC RX2 cX2_reckon 11 (some .int) "reckon" (gR (7 + lv0 + 1) mc ms) d b X) (hr : hRm X b) (ih : yOkK X.la d b Y c lv0 rec) {Q : Int → cS → Prop} {k18 : cS → Int → Int → Int → Int → Int → Prop} (hk18 : ∀ (u : hU) (S : gSt) (A0 : cS) (x2 : Int) (x3 : Int) (x4 : Int) (x5 : Int) (x6 : Int), zR x2 → zR x3 → zR x4 → zR x5 → zR x6 → yOk X b u → yZ d b Y c F0 S0 u S A0 → k18 A0 x2 x3 x4 x5 x6 → yG X d b (yQi X d b Y c F0 S0 mc ms Q) u 18 [some (.ref (gO' Y 9)), none, some (.int (zI x2)), some (.int (zI x3)), some (.int (zI x4)), some (.int (zI x5)), some (.int (zI x6)), none, none, none, none] []) {u : hU} {S : gSt} {A0 : cS} {x2 : Int} {x3 : Int} {x4 : Int} {x5 : Int} {x6 : Int} (Rx2 : zR x2) (Rx3 : zR x3) (Rx4 : zR x4) (Rx5 : zR x5) (Rx6 : zR x6) (ho : yOk X b u) (hZ : yZ d b Y c F0 S0 u S A0) (hw : wc_Constants_reckon_386 rec Q k18 A0 x2 x3 x4 x5 x6) : yG X d b (yQi X d b Y c F0 S0 mc ms Q) u 386 [some (.ref (gO' Y 9)), none, some (.int (zI x2)), some (.int (zI x3)), some (.int (zI x4)), some (.int (zI x5)), some (.int (zI x6)), none, none, none, none] [] := by
  unfold wc_Constants_reckon_386 at hw
  refine h_aload_n hC dX2_reckon_386 rfl ?_
  refine h_get hC fl_X2_32 (hZ.w.o 9 (by decide)) rfl dX2_reckon_387 ?_
  refine h_iload hC dX2_reckon_390 rfl ?_
  refine yr_callVi (As := [.int (zI x5)]) hC hr ho hZ rfl (hZ.w.o 2 (by decide)) (cm_Tree_next X.la d b Rx5 hZ.rs hw) cl_X2_81 rfl rfl (Nat.le_of_ble_eq_true rfl) (hFr_of (by omega) (Nat.le_of_ble_eq_true rfl)) dX2_reckon_392 (fun r1 A2 u3 S4 R5 o6 hZ7 h8 => ?_)
  refine h_istore (lv' := [some (.ref (gO' Y 9)), none, some (.int (zI x2)), some (.int (zI x3)), some (.int (zI x4)), some (.int (zI r1)), some (.int (zI x6)), none, none, none, none]) hC dX2_reckon_395 (Nat.le_of_ble_eq_true rfl) rfl rfl ?_
  refine yr_iinc (x := x6) (lv' := [some (.ref (gO' Y 9)), none, some (.int (zI x2)), some (.int (zI x3)), some (.int (zI x4)), some (.int (zI r1)), some (.int (zI (x6 + 1))), none, none, none, none]) hC dX2_reckon_397 rfl rfl rfl ?_
  refine h_goto (tgt := 18) hC dX2_reckon_400 (by decide) ?_
  obtain ⟨o9, h10⟩ := h8
  exact hk18 _ _ _ _ _ _ _ _ Rx2 Rx3 Rx4 R5 o9 o6 hZ7 h10
set_option maxHeartbeats 4000000 in
set_option maxRecDepth 100000 in
theorem cj_Constants_reckon_317 {X : gX} {d : gD} {b : Nat} {Y : gYt} {c : Nat × Nat} {F0 : gM} {S0 : gSt} {mc ms : Nat} {rec : Nat → Int → Int → Int → cS → (Int → cS → Prop) → Prop} {lv0 : Nat} (hC : gC RX2 cX2_reckon 11 (some .int) "reckon" (gR (7 + lv0 + 1) mc ms) d b X) (hr : hRm X b) (ih : yOkK X.la d b Y c lv0 rec) {Q : Int → cS → Prop} {k18 : cS → Int → Int → Int → Int → Int → Prop} (hk18 : ∀ (u : hU) (S : gSt) (A0 : cS) (x2 : Int) (x3 : Int) (x4 : Int) (x5 : Int) (x6 : Int), zR x2 → zR x3 → zR x4 → zR x5 → zR x6 → yOk X b u → yZ d b Y c F0 S0 u S A0 → k18 A0 x2 x3 x4 x5 x6 → yG X d b (yQi X d b Y c F0 S0 mc ms Q) u 18 [some (.ref (gO' Y 9)), none, some (.int (zI x2)), some (.int (zI x3)), some (.int (zI x4)), some (.int (zI x5)), some (.int (zI x6)), none, none, none, none] []) {u : hU} {S : gSt} {A0 : cS} {x2 : Int} {x3 : Int} {x4 : Int} {x5 : Int} {x6 : Int} {x8 : Int} {x9 : Int} {y0 : Int} (Rx2 : zR x2) (Rx3 : zR x3) (Rx4 : zR x4) (Rx5 : zR x5) (Rx6 : zR x6) (Rx8 : zR x8) (Rx9 : zR x9) (Ry0 : zR y0) (ho : yOk X b u) (hZ : yZ d b Y c F0 S0 u S A0) (hw : wc_Constants_reckon_317 rec Q k18 A0 x2 x3 x4 x5 x6 x8 x9 y0) : yG X d b (yQi X d b Y c F0 S0 mc ms Q) u 317 [some (.ref (gO' Y 9)), none, some (.int (zI x2)), some (.int (zI x3)), some (.int (zI x4)), some (.int (zI x5)), some (.int (zI x6)), none, some (.int (zI x8)), some (.int (zI x9)), none] [.int (zI y0)] := by
  unfold wc_Constants_reckon_317 at hw
  refine h_istore (lv' := [some (.ref (gO' Y 9)), none, some (.int (zI x2)), some (.int (zI x3)), some (.int (zI x4)), some (.int (zI x5)), some (.int (zI x6)), none, some (.int (zI x8)), some (.int (zI x9)), some (.int (zI y0))]) hC dX2_reckon_317 (Nat.le_of_ble_eq_true rfl) rfl rfl ?_
  refine h_iload hC dX2_reckon_319 rfl ?_
  refine yr_if_ne (tgt := 341) hC Ry0 dX2_reckon_321 (by decide) (fun c1 => ?_) (fun c1 => ?_)
  · have h2 := hw.1 c1
    refine h_aload_n hC dX2_reckon_341 rfl ?_
    refine h_get hC fl_X2_15 (hZ.w.o 9 (by decide)) rfl dX2_reckon_342 ?_
    refine h_iload hC dX2_reckon_345 rfl ?_
    refine yr_if_eq (tgt := 362) hC Ry0 dX2_reckon_347 (by decide) (fun c3 => ?_) (fun c3 => ?_)
    · have h4 := h2.1 c3
      refine h_iconst (v := zI 0) hC dX2_reckon_362 rfl ?_
      obtain ⟨o9, h10⟩ := h4
      refine yr_add (j := 33) hC hr ho hZ (by decide) (by decide) (by decide) o9 cl_X2_75 rfl (Nat.le_of_ble_eq_true rfl) (hFr_of (by omega) (Nat.le_of_ble_eq_true rfl)) dX2_reckon_363 (fun u5 S6 o7 hZ8 => ?_)
      refine h_goto (tgt := 386) hC dX2_reckon_366 (by decide) ?_
      refine h_lv (lv' := [some (.ref (gO' Y 9)), none, some (.int (zI x2)), some (.int (zI x3)), some (.int (zI x4)), some (.int (zI x5)), some (.int (zI x6)), none, none, none, none]) ⟨rfl, rfl, rfl, rfl, rfl, rfl, trivial⟩ ?_
      exact cj_Constants_reckon_386 hC hr ih hk18 Rx2 Rx3 Rx4 Rx5 Rx6 o7 hZ8 h10
    · have h11 := h2.2 c3
      refine h_aload_n hC dX2_reckon_350 rfl ?_
      refine h_get hC fl_X2_40 (hZ.w.o 9 (by decide)) rfl dX2_reckon_351 ?_
      refine h_iload hC dX2_reckon_354 rfl ?_
      refine yr_callVi (As := [.int (zI x9)]) hC hr ho hZ rfl (hZ.w.o 8 (by decide)) (cm_Scope_data X.la d b Rx9 hZ.rs h11) cl_X2_108 rfl rfl (Nat.le_of_ble_eq_true rfl) (hFr_of (by omega) (Nat.le_of_ble_eq_true rfl)) dX2_reckon_356 (fun r12 A13 u14 S15 R16 o17 hZ18 h19 => ?_)
      refine h_goto (tgt := 363) hC dX2_reckon_359 (by decide) ?_
      obtain ⟨o24, h25⟩ := h19
      refine yr_add (j := 33) hC hr o17 hZ18 (by decide) (by decide) R16 o24 cl_X2_75 rfl (Nat.le_of_ble_eq_true rfl) (hFr_of (by omega) (Nat.le_of_ble_eq_true rfl)) dX2_reckon_363 (fun u20 S21 o22 hZ23 => ?_)
      refine h_goto (tgt := 386) hC dX2_reckon_366 (by decide) ?_
      refine h_lv (lv' := [some (.ref (gO' Y 9)), none, some (.int (zI x2)), some (.int (zI x3)), some (.int (zI x4)), some (.int (zI x5)), some (.int (zI x6)), none, none, none, none]) ⟨rfl, rfl, rfl, rfl, rfl, rfl, trivial⟩ ?_
      exact cj_Constants_reckon_386 hC hr ih hk18 Rx2 Rx3 Rx4 Rx5 Rx6 o22 hZ23 h25
  · have h26 := hw.2 c1
    refine h_aload_n hC dX2_reckon_324 rfl ?_
    refine h_iload hC dX2_reckon_325 rfl ?_
    refine yr_if_ge (tgt := 334) hC Rx9 dX2_reckon_327 (by decide) (fun c27 => ?_) (fun c27 => ?_)
    · have h28 := h26.1 c27
      refine h_bipush (v := zI 6) hC dX2_reckon_334 rfl ?_
      refine h_iload hC dX2_reckon_336 rfl ?_
      refine yr_callVv (As := [.int (zI 6), .int (zI x8)]) hC hr ho hZ rfl (hZ.w.o 9 (by decide)) (cm_Constants_fail X.la d b (by decide) Rx8 hZ.rs h28) cl_X2_57 rfl rfl (Nat.le_of_ble_eq_true rfl) (hFr_of (by omega) (Nat.le_of_ble_eq_true rfl)) dX2_reckon_338 (fun A30 u31 S32 o34 hZ35 h36 => ?_)
      refine h_aload_n hC dX2_reckon_341 rfl ?_
      refine h_get hC fl_X2_15 (hZ35.w.o 9 (by decide)) rfl dX2_reckon_342 ?_
      refine h_iload hC dX2_reckon_345 rfl ?_
      refine yr_if_eq (tgt := 362) hC Ry0 dX2_reckon_347 (by decide) (fun c37 => ?_) (fun c37 => ?_)
      · have h38 := h36.1 c37
        refine h_iconst (v := zI 0) hC dX2_reckon_362 rfl ?_
        obtain ⟨o43, h44⟩ := h38
        refine yr_add (j := 33) hC hr o34 hZ35 (by decide) (by decide) (by decide) o43 cl_X2_75 rfl (Nat.le_of_ble_eq_true rfl) (hFr_of (by omega) (Nat.le_of_ble_eq_true rfl)) dX2_reckon_363 (fun u39 S40 o41 hZ42 => ?_)
        refine h_goto (tgt := 386) hC dX2_reckon_366 (by decide) ?_
        refine h_lv (lv' := [some (.ref (gO' Y 9)), none, some (.int (zI x2)), some (.int (zI x3)), some (.int (zI x4)), some (.int (zI x5)), some (.int (zI x6)), none, none, none, none]) ⟨rfl, rfl, rfl, rfl, rfl, rfl, trivial⟩ ?_
        exact cj_Constants_reckon_386 hC hr ih hk18 Rx2 Rx3 Rx4 Rx5 Rx6 o41 hZ42 h44
      · have h45 := h36.2 c37
        refine h_aload_n hC dX2_reckon_350 rfl ?_
        refine h_get hC fl_X2_40 (hZ35.w.o 9 (by decide)) rfl dX2_reckon_351 ?_
        refine h_iload hC dX2_reckon_354 rfl ?_
        refine yr_callVi (As := [.int (zI x9)]) hC hr o34 hZ35 rfl (hZ35.w.o 8 (by decide)) (cm_Scope_data X.la d b Rx9 hZ35.rs h45) cl_X2_108 rfl rfl (Nat.le_of_ble_eq_true rfl) (hFr_of (by omega) (Nat.le_of_ble_eq_true rfl)) dX2_reckon_356 (fun r46 A47 u48 S49 R50 o51 hZ52 h53 => ?_)
        refine h_goto (tgt := 363) hC dX2_reckon_359 (by decide) ?_
        obtain ⟨o58, h59⟩ := h53
        refine yr_add (j := 33) hC hr o51 hZ52 (by decide) (by decide) R50 o58 cl_X2_75 rfl (Nat.le_of_ble_eq_true rfl) (hFr_of (by omega) (Nat.le_of_ble_eq_true rfl)) dX2_reckon_363 (fun u54 S55 o56 hZ57 => ?_)
        refine h_goto (tgt := 386) hC dX2_reckon_366 (by decide) ?_
        refine h_lv (lv' := [some (.ref (gO' Y 9)), none, some (.int (zI x2)), some (.int (zI x3)), some (.int (zI x4)), some (.int (zI x5)), some (.int (zI x6)), none, none, none, none]) ⟨rfl, rfl, rfl, rfl, rfl, rfl, trivial⟩ ?_
        exact cj_Constants_reckon_386 hC hr ih hk18 Rx2 Rx3 Rx4 Rx5 Rx6 o56 hZ57 h59
    · have h60 := h26.2 c27
      refine h_iconst (v := zI 3) hC dX2_reckon_330 rfl ?_
      refine h_goto (tgt := 336) hC dX2_reckon_331 (by decide) ?_
      refine h_iload hC dX2_reckon_336 rfl ?_
      refine yr_callVv (As := [.int (zI 3), .int (zI x8)]) hC hr ho hZ rfl (hZ.w.o 9 (by decide)) (cm_Constants_fail X.la d b (by decide) Rx8 hZ.rs h60) cl_X2_57 rfl rfl (Nat.le_of_ble_eq_true rfl) (hFr_of (by omega) (Nat.le_of_ble_eq_true rfl)) dX2_reckon_338 (fun A62 u63 S64 o66 hZ67 h68 => ?_)
      refine h_aload_n hC dX2_reckon_341 rfl ?_
      refine h_get hC fl_X2_15 (hZ67.w.o 9 (by decide)) rfl dX2_reckon_342 ?_
      refine h_iload hC dX2_reckon_345 rfl ?_
      refine yr_if_eq (tgt := 362) hC Ry0 dX2_reckon_347 (by decide) (fun c69 => ?_) (fun c69 => ?_)
      · have h70 := h68.1 c69
        refine h_iconst (v := zI 0) hC dX2_reckon_362 rfl ?_
        obtain ⟨o75, h76⟩ := h70
        refine yr_add (j := 33) hC hr o66 hZ67 (by decide) (by decide) (by decide) o75 cl_X2_75 rfl (Nat.le_of_ble_eq_true rfl) (hFr_of (by omega) (Nat.le_of_ble_eq_true rfl)) dX2_reckon_363 (fun u71 S72 o73 hZ74 => ?_)
        refine h_goto (tgt := 386) hC dX2_reckon_366 (by decide) ?_
        refine h_lv (lv' := [some (.ref (gO' Y 9)), none, some (.int (zI x2)), some (.int (zI x3)), some (.int (zI x4)), some (.int (zI x5)), some (.int (zI x6)), none, none, none, none]) ⟨rfl, rfl, rfl, rfl, rfl, rfl, trivial⟩ ?_
        exact cj_Constants_reckon_386 hC hr ih hk18 Rx2 Rx3 Rx4 Rx5 Rx6 o73 hZ74 h76
      · have h77 := h68.2 c69
        refine h_aload_n hC dX2_reckon_350 rfl ?_
        refine h_get hC fl_X2_40 (hZ67.w.o 9 (by decide)) rfl dX2_reckon_351 ?_
        refine h_iload hC dX2_reckon_354 rfl ?_
        refine yr_callVi (As := [.int (zI x9)]) hC hr o66 hZ67 rfl (hZ67.w.o 8 (by decide)) (cm_Scope_data X.la d b Rx9 hZ67.rs h77) cl_X2_108 rfl rfl (Nat.le_of_ble_eq_true rfl) (hFr_of (by omega) (Nat.le_of_ble_eq_true rfl)) dX2_reckon_356 (fun r78 A79 u80 S81 R82 o83 hZ84 h85 => ?_)
        refine h_goto (tgt := 363) hC dX2_reckon_359 (by decide) ?_
        obtain ⟨o90, h91⟩ := h85
        refine yr_add (j := 33) hC hr o83 hZ84 (by decide) (by decide) R82 o90 cl_X2_75 rfl (Nat.le_of_ble_eq_true rfl) (hFr_of (by omega) (Nat.le_of_ble_eq_true rfl)) dX2_reckon_363 (fun u86 S87 o88 hZ89 => ?_)
        refine h_goto (tgt := 386) hC dX2_reckon_366 (by decide) ?_
        refine h_lv (lv' := [some (.ref (gO' Y 9)), none, some (.int (zI x2)), some (.int (zI x3)), some (.int (zI x4)), some (.int (zI x5)), some (.int (zI x6)), none, none, none, none]) ⟨rfl, rfl, rfl, rfl, rfl, rfl, trivial⟩ ?_
        exact cj_Constants_reckon_386 hC hr ih hk18 Rx2 Rx3 Rx4 Rx5 Rx6 o88 hZ89 h91
set_option maxHeartbeats 4000000 in
set_option maxRecDepth 100000 in
theorem cb_Constants_reckon_18 {X : gX} {d : gD} {b : Nat} {Y : gYt} {c : Nat × Nat} {F0 : gM} {S0 : gSt} {mc ms : Nat} {rec : Nat → Int → Int → Int → cS → (Int → cS → Prop) → Prop} {lv0 : Nat} (hC : gC RX2 cX2_reckon 11 (some .int) "reckon" (gR (7 + lv0 + 1) mc ms) d b X) (hr : hRm X b) (ih : yOkK X.la d b Y c lv0 rec) {Q : Int → cS → Prop} {k18 : cS → Int → Int → Int → Int → Int → Prop} (hk18 : ∀ (u : hU) (S : gSt) (A0 : cS) (x2 : Int) (x3 : Int) (x4 : Int) (x5 : Int) (x6 : Int), zR x2 → zR x3 → zR x4 → zR x5 → zR x6 → yOk X b u → yZ d b Y c F0 S0 u S A0 → k18 A0 x2 x3 x4 x5 x6 → yG X d b (yQi X d b Y c F0 S0 mc ms Q) u 18 [some (.ref (gO' Y 9)), none, some (.int (zI x2)), some (.int (zI x3)), some (.int (zI x4)), some (.int (zI x5)), some (.int (zI x6)), none, none, none, none] []) {u : hU} {S : gSt} {A0 : cS} {x2 : Int} {x3 : Int} {x4 : Int} {x5 : Int} {x6 : Int} (Rx2 : zR x2) (Rx3 : zR x3) (Rx4 : zR x4) (Rx5 : zR x5) (Rx6 : zR x6) (ho : yOk X b u) (hZ : yZ d b Y c F0 S0 u S A0) (hw : wc_Constants_reckon_18B rec Q k18 A0 x2 x3 x4 x5 x6) : yG X d b (yQi X d b Y c F0 S0 mc ms Q) u 18 [some (.ref (gO' Y 9)), none, some (.int (zI x2)), some (.int (zI x3)), some (.int (zI x4)), some (.int (zI x5)), some (.int (zI x6)), none, none, none, none] [] := by
  unfold wc_Constants_reckon_18B at hw
  refine h_iload hC dX2_reckon_18 rfl ?_
  refine yr_ldc (e := 1000000) hC dX2_reckon_20 kw_619 (by decide) ?_
  refine yr_icmp_ge (tgt := 403) hC Rx6 (by decide) dX2_reckon_22 (by decide) (fun c1 => ?_) (fun c1 => ?_)
  · have h2 := hw.1 c1
    refine h_aload_n hC dX2_reckon_403 rfl ?_
    refine h_get hC fl_X2_15 (hZ.w.o 9 (by decide)) rfl dX2_reckon_404 ?_
    refine yr_pop (j := 33) (e := (yget A0 33 ((yz A0 33 : Nat) - 1 : Int))) hC hr ho hZ (by decide) rfl cl_X2_113 rfl (Nat.le_of_ble_eq_true rfl) (hFr_of (by omega) (Nat.le_of_ble_eq_true rfl)) dX2_reckon_407 (fun u3 S4 o5 hZ6 => ?_)
    exact yr_iret hC hr o5 hZ6 (hZ.rg 33 _) h2 dX2_reckon_410
  · have h7 := hw.2 c1
    refine h_iload hC dX2_reckon_25 rfl ?_
    refine yr_if_eq (tgt := 403) hC Rx5 dX2_reckon_27 (by decide) (fun c8 => ?_) (fun c8 => ?_)
    · have h9 := h7.1 c8
      refine h_aload_n hC dX2_reckon_403 rfl ?_
      refine h_get hC fl_X2_15 (hZ.w.o 9 (by decide)) rfl dX2_reckon_404 ?_
      refine yr_pop (j := 33) (e := (yget A0 33 ((yz A0 33 : Nat) - 1 : Int))) hC hr ho hZ (by decide) rfl cl_X2_113 rfl (Nat.le_of_ble_eq_true rfl) (hFr_of (by omega) (Nat.le_of_ble_eq_true rfl)) dX2_reckon_407 (fun u10 S11 o12 hZ13 => ?_)
      exact yr_iret hC hr o12 hZ13 (hZ.rg 33 _) h9 dX2_reckon_410
    · have h14 := h7.2 c8
      refine h_aload_n hC dX2_reckon_30 rfl ?_
      refine h_get hC fl_X2_32 (hZ.w.o 9 (by decide)) rfl dX2_reckon_31 ?_
      refine h_iload hC dX2_reckon_34 rfl ?_
      refine yr_callVi (As := [.int (zI x5)]) hC hr ho hZ rfl (hZ.w.o 2 (by decide)) (cm_Tree_data X.la d b Rx5 hZ.rs h14) cl_X2_69 rfl rfl (Nat.le_of_ble_eq_true rfl) (hFr_of (by omega) (Nat.le_of_ble_eq_true rfl)) dX2_reckon_36 (fun r15 A16 u17 S18 R19 o20 hZ21 h22 => ?_)
      refine h_istore (lv' := [some (.ref (gO' Y 9)), none, some (.int (zI x2)), some (.int (zI x3)), some (.int (zI x4)), some (.int (zI x5)), some (.int (zI x6)), some (.int (zI r15)), none, none, none]) hC dX2_reckon_39 (Nat.le_of_ble_eq_true rfl) rfl rfl ?_
      refine h_aload_n hC dX2_reckon_41 rfl ?_
      refine h_get hC fl_X2_32 (hZ21.w.o 9 (by decide)) rfl dX2_reckon_42 ?_
      refine h_iload hC dX2_reckon_45 rfl ?_
      refine yr_callVi (As := [.int (zI x5)]) hC hr o20 hZ21 rfl (hZ21.w.o 2 (by decide)) (cm_Tree_place X.la d b Rx5 hZ21.rs h22) cl_X2_51 rfl rfl (Nat.le_of_ble_eq_true rfl) (hFr_of (by omega) (Nat.le_of_ble_eq_true rfl)) dX2_reckon_47 (fun r23 A24 u25 S26 R27 o28 hZ29 h30 => ?_)
      refine h_istore (lv' := [some (.ref (gO' Y 9)), none, some (.int (zI x2)), some (.int (zI x3)), some (.int (zI x4)), some (.int (zI x5)), some (.int (zI x6)), some (.int (zI r15)), some (.int (zI r23)), none, none]) hC dX2_reckon_50 (Nat.le_of_ble_eq_true rfl) rfl rfl ?_
      refine h_aload_n hC dX2_reckon_52 rfl ?_
      refine h_get hC fl_X2_32 (hZ29.w.o 9 (by decide)) rfl dX2_reckon_53 ?_
      refine h_iload hC dX2_reckon_56 rfl ?_
      refine yr_callVi (As := [.int (zI x5)]) hC hr o28 hZ29 rfl (hZ29.w.o 2 (by decide)) (cm_Tree_kind X.la d b Rx5 hZ29.rs h30) cl_X2_72 rfl rfl (Nat.le_of_ble_eq_true rfl) (hFr_of (by omega) (Nat.le_of_ble_eq_true rfl)) dX2_reckon_58 (fun r31 A32 u33 S34 R35 o36 hZ37 h38 => ?_)
      by_cases g39 : r31 = 2
      · have h41 := (h38.1) g39
        have T40 : yG X d b (yQi X d b Y c F0 S0 mc ms Q) u33 271 [some (.ref (gO' Y 9)), none, some (.int (zI x2)), some (.int (zI x3)), some (.int (zI x4)), some (.int (zI x5)), some (.int (zI x6)), some (.int (zI r15)), some (.int (zI r23)), none, none] [] := by
          refine h_aload_n hC dX2_reckon_271 rfl ?_
          refine h_get hC fl_X2_40 (hZ37.w.o 9 (by decide)) rfl dX2_reckon_272 ?_
          refine h_iload hC dX2_reckon_275 rfl ?_
          refine yr_callVi (As := [.int (zI r15)]) hC hr o36 hZ37 rfl (hZ37.w.o 8 (by decide)) (cm_Scope_find X.la d b R19 hZ37.rs h41) cl_X2_99 rfl rfl (Nat.le_of_ble_eq_true rfl) (hFr_of (by omega) (Nat.le_of_ble_eq_true rfl)) dX2_reckon_277 (fun r42 A43 u44 S45 R46 o47 hZ48 h49 => ?_)
          refine h_istore (lv' := [some (.ref (gO' Y 9)), none, some (.int (zI x2)), some (.int (zI x3)), some (.int (zI x4)), some (.int (zI x5)), some (.int (zI x6)), some (.int (zI r15)), some (.int (zI r23)), some (.int (zI r42)), none]) hC dX2_reckon_280 (Nat.le_of_ble_eq_true rfl) rfl rfl ?_
          refine h_iload hC dX2_reckon_282 rfl ?_
          refine yr_if_lt (tgt := 316) hC R46 dX2_reckon_284 (by decide) (fun c50 => ?_) (fun c50 => ?_)
          · have h51 := h49.1 c50
            refine h_iconst (v := zI 0) hC dX2_reckon_316 rfl ?_
            refine h_lv (lv' := [some (.ref (gO' Y 9)), none, some (.int (zI x2)), some (.int (zI x3)), some (.int (zI x4)), some (.int (zI x5)), some (.int (zI x6)), none, some (.int (zI r23)), some (.int (zI r42)), none]) ⟨rfl, rfl, rfl, rfl, rfl, rfl, rfl, rfl, trivial⟩ ?_
            exact cj_Constants_reckon_317 hC hr ih hk18 Rx2 Rx3 Rx4 Rx5 Rx6 R27 R46 (by decide) o47 hZ48 h51
          · have h52 := h49.2 c50
            refine h_aload_n hC dX2_reckon_287 rfl ?_
            refine h_get hC fl_X2_40 (hZ48.w.o 9 (by decide)) rfl dX2_reckon_288 ?_
            refine h_iload hC dX2_reckon_291 rfl ?_
            refine yr_callVi (As := [.int (zI r42)]) hC hr o47 hZ48 rfl (hZ48.w.o 8 (by decide)) (cm_Scope_kind X.la d b R46 hZ48.rs h52) cl_X2_104 rfl rfl (Nat.le_of_ble_eq_true rfl) (hFr_of (by omega) (Nat.le_of_ble_eq_true rfl)) dX2_reckon_293 (fun r53 A54 u55 S56 R57 o58 hZ59 h60 => ?_)
            refine h_iconst (v := zI 4) hC dX2_reckon_296 rfl ?_
            refine yr_icmp_ne (tgt := 316) hC R57 (by decide) dX2_reckon_297 (by decide) (fun c61 => ?_) (fun c61 => ?_)
            · have h62 := h60.1 c61
              refine h_iconst (v := zI 0) hC dX2_reckon_316 rfl ?_
              refine h_lv (lv' := [some (.ref (gO' Y 9)), none, some (.int (zI x2)), some (.int (zI x3)), some (.int (zI x4)), some (.int (zI x5)), some (.int (zI x6)), none, some (.int (zI r23)), some (.int (zI r42)), none]) ⟨rfl, rfl, rfl, rfl, rfl, rfl, rfl, rfl, trivial⟩ ?_
              exact cj_Constants_reckon_317 hC hr ih hk18 Rx2 Rx3 Rx4 Rx5 Rx6 R27 R46 (by decide) o58 hZ59 h62
            · have h63 := h60.2 c61
              refine h_aload_n hC dX2_reckon_300 rfl ?_
              refine h_get hC fl_X2_40 (hZ59.w.o 9 (by decide)) rfl dX2_reckon_301 ?_
              refine h_iload hC dX2_reckon_304 rfl ?_
              refine yr_callVi (As := [.int (zI r42)]) hC hr o58 hZ59 rfl (hZ59.w.o 8 (by decide)) (cm_Scope_owner X.la d b R46 hZ59.rs h63) cl_X2_105 rfl rfl (Nat.le_of_ble_eq_true rfl) (hFr_of (by omega) (Nat.le_of_ble_eq_true rfl)) dX2_reckon_306 (fun r64 A65 u66 S67 R68 o69 hZ70 h71 => ?_)
              refine yr_if_eq (tgt := 316) hC R68 dX2_reckon_309 (by decide) (fun c72 => ?_) (fun c72 => ?_)
              · have h73 := h71.1 c72
                refine h_iconst (v := zI 0) hC dX2_reckon_316 rfl ?_
                refine h_lv (lv' := [some (.ref (gO' Y 9)), none, some (.int (zI x2)), some (.int (zI x3)), some (.int (zI x4)), some (.int (zI x5)), some (.int (zI x6)), none, some (.int (zI r23)), some (.int (zI r42)), none]) ⟨rfl, rfl, rfl, rfl, rfl, rfl, rfl, rfl, trivial⟩ ?_
                exact cj_Constants_reckon_317 hC hr ih hk18 Rx2 Rx3 Rx4 Rx5 Rx6 R27 R46 (by decide) o69 hZ70 h73
              · have h74 := h71.2 c72
                refine h_iconst (v := zI 1) hC dX2_reckon_312 rfl ?_
                refine h_goto (tgt := 317) hC dX2_reckon_313 (by decide) ?_
                refine h_lv (lv' := [some (.ref (gO' Y 9)), none, some (.int (zI x2)), some (.int (zI x3)), some (.int (zI x4)), some (.int (zI x5)), some (.int (zI x6)), none, some (.int (zI r23)), some (.int (zI r42)), none]) ⟨rfl, rfl, rfl, rfl, rfl, rfl, rfl, rfl, trivial⟩ ?_
                exact cj_Constants_reckon_317 hC hr ih hk18 Rx2 Rx3 Rx4 Rx5 Rx6 R27 R46 (by decide) o69 hZ70 h74
        clear h41
        exact yr_lokAt (v := 2) hC dX2_reckon_61 R35 (by decide) g39 rfl (by decide) T40
      · skip
        by_cases g75 : r31 = 81
        · have h77 := (h38.2.1) g75
          have T76 : yG X d b (yQi X d b Y c F0 S0 mc ms Q) u33 136 [some (.ref (gO' Y 9)), none, some (.int (zI x2)), some (.int (zI x3)), some (.int (zI x4)), some (.int (zI x5)), some (.int (zI x6)), some (.int (zI r15)), some (.int (zI r23)), none, none] [] := by
            refine h_aload_n hC dX2_reckon_136 rfl ?_
            refine h_get hC fl_X2_15 (hZ37.w.o 9 (by decide)) rfl dX2_reckon_137 ?_
            refine h_aload_n hC dX2_reckon_140 rfl ?_
            refine h_iload hC dX2_reckon_141 rfl ?_
            refine h_iload_n hC dX2_reckon_143 rfl ?_
            refine yr_callVi (As := [.int (zI x5), .int (zI x3)]) hC hr o36 hZ37 rfl (hZ37.w.o 9 (by decide)) (ih.2 Rx5 Rx3 hZ37.rs h77) cl_X2_78 rfl rfl (Nat.le_of_ble_eq_true rfl) (hFr_of (by omega) (Nat.le_of_ble_eq_true rfl)) dX2_reckon_144 (fun r78 A79 u80 S81 R82 o83 hZ84 h85 => ?_)
            obtain ⟨o90, h91⟩ := h85
            refine yr_add (j := 33) hC hr o83 hZ84 (by decide) (by decide) R82 o90 cl_X2_75 rfl (Nat.le_of_ble_eq_true rfl) (hFr_of (by omega) (Nat.le_of_ble_eq_true rfl)) dX2_reckon_147 (fun u86 S87 o88 hZ89 => ?_)
            refine h_goto (tgt := 386) hC dX2_reckon_150 (by decide) ?_
            refine h_lv (lv' := [some (.ref (gO' Y 9)), none, some (.int (zI x2)), some (.int (zI x3)), some (.int (zI x4)), some (.int (zI x5)), some (.int (zI x6)), none, none, none, none]) ⟨rfl, rfl, rfl, rfl, rfl, rfl, trivial⟩ ?_
            exact cj_Constants_reckon_386 hC hr ih hk18 Rx2 Rx3 Rx4 Rx5 Rx6 o88 hZ89 h91
          clear h77
          exact yr_lokAt (v := 81) hC dX2_reckon_61 R35 (by decide) g75 rfl (by decide) T76
        · skip
          by_cases g92 : r31 = 82
          · have h94 := (h38.2.2.1) g92
            have T93 : yG X d b (yQi X d b Y c F0 S0 mc ms Q) u33 112 [some (.ref (gO' Y 9)), none, some (.int (zI x2)), some (.int (zI x3)), some (.int (zI x4)), some (.int (zI x5)), some (.int (zI x6)), some (.int (zI r15)), some (.int (zI r23)), none, none] [] := by
              refine h_aload_n hC dX2_reckon_112 rfl ?_
              refine h_get hC fl_X2_15 (hZ37.w.o 9 (by decide)) rfl dX2_reckon_113 ?_
              refine h_aload_n hC dX2_reckon_116 rfl ?_
              refine h_aload_n hC dX2_reckon_117 rfl ?_
              refine h_get hC fl_X2_32 (hZ37.w.o 9 (by decide)) rfl dX2_reckon_118 ?_
              refine h_iload hC dX2_reckon_121 rfl ?_
              refine yr_callVi (As := [.int (zI x5)]) hC hr o36 hZ37 rfl (hZ37.w.o 2 (by decide)) (cm_Tree_first X.la d b Rx5 hZ37.rs h94) cl_X2_66 rfl rfl (Nat.le_of_ble_eq_true rfl) (hFr_of (by omega) (Nat.le_of_ble_eq_true rfl)) dX2_reckon_123 (fun r95 A96 u97 S98 R99 o100 hZ101 h102 => ?_)
              refine h_iload_n hC dX2_reckon_126 rfl ?_
              refine yr_callVi (As := [.int (zI r95), .int (zI x3)]) hC hr o100 hZ101 rfl (hZ101.w.o 9 (by decide)) (ih.1 R99 Rx3 hZ101.rs h102) cl_X2_47 rfl rfl (Nat.le_of_ble_eq_true rfl) (hFr_of (by omega) (Nat.le_of_ble_eq_true rfl)) dX2_reckon_127 (fun r103 A104 u105 S106 R107 o108 hZ109 h110 => ?_)
              obtain ⟨o115, h116⟩ := h110
              refine yr_add (j := 33) hC hr o108 hZ109 (by decide) (by decide) R107 o115 cl_X2_75 rfl (Nat.le_of_ble_eq_true rfl) (hFr_of (by omega) (Nat.le_of_ble_eq_true rfl)) dX2_reckon_130 (fun u111 S112 o113 hZ114 => ?_)
              refine h_goto (tgt := 386) hC dX2_reckon_133 (by decide) ?_
              refine h_lv (lv' := [some (.ref (gO' Y 9)), none, some (.int (zI x2)), some (.int (zI x3)), some (.int (zI x4)), some (.int (zI x5)), some (.int (zI x6)), none, none, none, none]) ⟨rfl, rfl, rfl, rfl, rfl, rfl, trivial⟩ ?_
              exact cj_Constants_reckon_386 hC hr ih hk18 Rx2 Rx3 Rx4 Rx5 Rx6 o113 hZ114 h116
            clear h94
            exact yr_lokAt (v := 82) hC dX2_reckon_61 R35 (by decide) g92 rfl (by decide) T93
          · skip
            by_cases g117 : r31 = 83
            · have h119 := (h38.2.2.2.1) g117
              have T118 : yG X d b (yQi X d b Y c F0 S0 mc ms Q) u33 153 [some (.ref (gO' Y 9)), none, some (.int (zI x2)), some (.int (zI x3)), some (.int (zI x4)), some (.int (zI x5)), some (.int (zI x6)), some (.int (zI r15)), some (.int (zI r23)), none, none] [] := by
                refine h_aload_n hC dX2_reckon_153 rfl ?_
                refine h_get hC fl_X2_15 (hZ37.w.o 9 (by decide)) rfl dX2_reckon_154 ?_
                refine h_aload_n hC dX2_reckon_157 rfl ?_
                refine h_aload_n hC dX2_reckon_158 rfl ?_
                refine h_get hC fl_X2_32 (hZ37.w.o 9 (by decide)) rfl dX2_reckon_159 ?_
                refine h_iload hC dX2_reckon_162 rfl ?_
                refine yr_callVi (As := [.int (zI x5)]) hC hr o36 hZ37 rfl (hZ37.w.o 2 (by decide)) (cm_Tree_first X.la d b Rx5 hZ37.rs h119) cl_X2_66 rfl rfl (Nat.le_of_ble_eq_true rfl) (hFr_of (by omega) (Nat.le_of_ble_eq_true rfl)) dX2_reckon_164 (fun r120 A121 u122 S123 R124 o125 hZ126 h127 => ?_)
                refine h_iload_n hC dX2_reckon_167 rfl ?_
                refine yr_callVi (As := [.int (zI r120), .int (zI x3)]) hC hr o125 hZ126 rfl (hZ126.w.o 9 (by decide)) (ih.1 R124 Rx3 hZ126.rs h127) cl_X2_47 rfl rfl (Nat.le_of_ble_eq_true rfl) (hFr_of (by omega) (Nat.le_of_ble_eq_true rfl)) dX2_reckon_168 (fun r128 A129 u130 S131 R132 o133 hZ134 h135 => ?_)
                obtain ⟨o140, h141⟩ := h135
                refine yr_add (j := 33) hC hr o133 hZ134 (by decide) (by decide) R132 o140 cl_X2_75 rfl (Nat.le_of_ble_eq_true rfl) (hFr_of (by omega) (Nat.le_of_ble_eq_true rfl)) dX2_reckon_171 (fun u136 S137 o138 hZ139 => ?_)
                refine h_aload_n hC dX2_reckon_174 rfl ?_
                refine h_bipush (v := zI 6) hC dX2_reckon_175 rfl ?_
                refine h_aload_n hC dX2_reckon_177 rfl ?_
                refine h_get hC fl_X2_32 (hZ139.w.o 9 (by decide)) rfl dX2_reckon_178 ?_
                refine h_aload_n hC dX2_reckon_181 rfl ?_
                refine h_get hC fl_X2_32 (hZ139.w.o 9 (by decide)) rfl dX2_reckon_182 ?_
                refine h_aload_n hC dX2_reckon_185 rfl ?_
                refine h_get hC fl_X2_32 (hZ139.w.o 9 (by decide)) rfl dX2_reckon_186 ?_
                refine h_iload hC dX2_reckon_189 rfl ?_
                refine yr_callVi (As := [.int (zI x5)]) hC hr o138 hZ139 rfl (hZ139.w.o 2 (by decide)) (cm_Tree_first X.la d b Rx5 hZ139.rs h141) cl_X2_66 rfl rfl (Nat.le_of_ble_eq_true rfl) (hFr_of (by omega) (Nat.le_of_ble_eq_true rfl)) dX2_reckon_191 (fun r142 A143 u144 S145 R146 o147 hZ148 h149 => ?_)
                refine yr_callVi (As := [.int (zI r142)]) hC hr o147 hZ148 rfl (hZ148.w.o 2 (by decide)) (cm_Tree_next X.la d b R146 hZ148.rs h149) cl_X2_81 rfl rfl (Nat.le_of_ble_eq_true rfl) (hFr_of (by omega) (Nat.le_of_ble_eq_true rfl)) dX2_reckon_194 (fun r150 A151 u152 S153 R154 o155 hZ156 h157 => ?_)
                refine yr_callVi (As := [.int (zI r150)]) hC hr o155 hZ156 rfl (hZ156.w.o 2 (by decide)) (cm_Tree_place X.la d b R154 hZ156.rs h157) cl_X2_51 rfl rfl (Nat.le_of_ble_eq_true rfl) (hFr_of (by omega) (Nat.le_of_ble_eq_true rfl)) dX2_reckon_197 (fun r158 A159 u160 S161 R162 o163 hZ164 h165 => ?_)
                refine yr_callVv (As := [.int (zI 6), .int (zI r158)]) hC hr o163 hZ164 rfl (hZ164.w.o 9 (by decide)) (cm_Constants_fail X.la d b (by decide) R162 hZ164.rs h165) cl_X2_57 rfl rfl (Nat.le_of_ble_eq_true rfl) (hFr_of (by omega) (Nat.le_of_ble_eq_true rfl)) dX2_reckon_200 (fun A167 u168 S169 o171 hZ172 h173 => ?_)
                refine h_goto (tgt := 386) hC dX2_reckon_203 (by decide) ?_
                refine h_lv (lv' := [some (.ref (gO' Y 9)), none, some (.int (zI x2)), some (.int (zI x3)), some (.int (zI x4)), some (.int (zI x5)), some (.int (zI x6)), none, none, none, none]) ⟨rfl, rfl, rfl, rfl, rfl, rfl, trivial⟩ ?_
                exact cj_Constants_reckon_386 hC hr ih hk18 Rx2 Rx3 Rx4 Rx5 Rx6 o171 hZ172 h173
              clear h119
              exact yr_lokAt (v := 83) hC dX2_reckon_61 R35 (by decide) g117 rfl (by decide) T118
            · skip
              by_cases g174 : r31 = 88
              · have h176 := (h38.2.2.2.2.1) g174
                have T175 : yG X d b (yQi X d b Y c F0 S0 mc ms Q) u33 206 [some (.ref (gO' Y 9)), none, some (.int (zI x2)), some (.int (zI x3)), some (.int (zI x4)), some (.int (zI x5)), some (.int (zI x6)), some (.int (zI r15)), some (.int (zI r23)), none, none] [] := by
                  refine h_iload hC dX2_reckon_206 rfl ?_
                  refine yr_callSNi (As := [.int (zI r15)]) hC hr o36 hZ37 (cm_W_isRelation X.la d b R19 hZ37.rs h176) cl_X2_84 rfl rfl (Nat.le_of_ble_eq_true rfl) (hFr_of (by omega) (Nat.le_of_ble_eq_true rfl)) dX2_reckon_208 (fun r177 A178 u179 S180 R181 o182 hZ183 h184 => ?_)
                  refine yr_if_eq (tgt := 259) hC R181 dX2_reckon_211 (by decide) (fun c185 => ?_) (fun c185 => ?_)
                  · have h186 := h184.1 c185
                    refine h_aload_n hC dX2_reckon_259 rfl ?_
                    refine h_iload hC dX2_reckon_260 rfl ?_
                    refine h_iload_n hC dX2_reckon_262 rfl ?_
                    refine h_iload hC dX2_reckon_263 rfl ?_
                    refine yr_callVv (As := [.int (zI r15), .int (zI x3), .int (zI r23)]) hC hr o182 hZ183 rfl (hZ183.w.o 9 (by decide)) (cm_Constants_work X.la d b R19 Rx3 R27 hZ183.rs h186) cl_X2_95 rfl rfl (Nat.le_of_ble_eq_true rfl) (hFr_of (by omega) (Nat.le_of_ble_eq_true rfl)) dX2_reckon_265 (fun A188 u189 S190 o192 hZ193 h194 => ?_)
                    refine h_goto (tgt := 386) hC dX2_reckon_268 (by decide) ?_
                    refine h_lv (lv' := [some (.ref (gO' Y 9)), none, some (.int (zI x2)), some (.int (zI x3)), some (.int (zI x4)), some (.int (zI x5)), some (.int (zI x6)), none, none, none, none]) ⟨rfl, rfl, rfl, rfl, rfl, rfl, trivial⟩ ?_
                    exact cj_Constants_reckon_386 hC hr ih hk18 Rx2 Rx3 Rx4 Rx5 Rx6 o192 hZ193 h194
                  · have h195 := h184.2 c185
                    refine h_aload_n hC dX2_reckon_214 rfl ?_
                    refine h_iload hC dX2_reckon_215 rfl ?_
                    refine h_iload hC dX2_reckon_217 rfl ?_
                    refine h_aload_n hC dX2_reckon_219 rfl ?_
                    refine h_get hC fl_X2_32 (hZ183.w.o 9 (by decide)) rfl dX2_reckon_220 ?_
                    refine h_iload hC dX2_reckon_223 rfl ?_
                    refine yr_callVi (As := [.int (zI x5)]) hC hr o182 hZ183 rfl (hZ183.w.o 2 (by decide)) (cm_Tree_extra X.la d b Rx5 hZ183.rs h195) cl_X2_88 rfl rfl (Nat.le_of_ble_eq_true rfl) (hFr_of (by omega) (Nat.le_of_ble_eq_true rfl)) dX2_reckon_225 (fun r196 A197 u198 S199 R200 o201 hZ202 h203 => ?_)
                    refine yr_if_eq (tgt := 235) hC R200 dX2_reckon_228 (by decide) (fun c204 => ?_) (fun c204 => ?_)
                    · have h205 := h203.1 c204
                      refine h_iconst (v := zI 0) hC dX2_reckon_235 rfl ?_
                      refine yr_callVi (As := [.int (zI r15), .int (zI x4), .int (zI 0)]) hC hr o201 hZ202 rfl (hZ202.w.o 9 (by decide)) (cm_Constants_relate X.la d b R19 Rx4 (by decide) hZ202.rs h205) cl_X2_91 rfl rfl (Nat.le_of_ble_eq_true rfl) (hFr_of (by omega) (Nat.le_of_ble_eq_true rfl)) dX2_reckon_236 (fun r206 A207 u208 S209 R210 o211 hZ212 h213 => ?_)
                      refine h_istore (lv' := [some (.ref (gO' Y 9)), none, some (.int (zI x2)), some (.int (zI x3)), some (.int (zI r206)), some (.int (zI x5)), some (.int (zI x6)), some (.int (zI r15)), some (.int (zI r23)), none, none]) hC dX2_reckon_239 (Nat.le_of_ble_eq_true rfl) rfl rfl ?_
                      refine h_iload_n hC dX2_reckon_241 rfl ?_
                      refine yr_if_eq (tgt := 254) hC Rx2 dX2_reckon_242 (by decide) (fun c214 => ?_) (fun c214 => ?_)
                      · have h215 := h213.1 c214
                        refine h_iconst (v := zI 0) hC dX2_reckon_254 rfl ?_
                        refine h_istore_n (lv' := [some (.ref (gO' Y 9)), none, some (.int (zI x2)), some (.int (zI 0)), some (.int (zI r206)), some (.int (zI x5)), some (.int (zI x6)), some (.int (zI r15)), some (.int (zI r23)), none, none]) hC dX2_reckon_255 (Nat.le_of_ble_eq_true rfl) rfl rfl ?_
                        refine h_goto (tgt := 386) hC dX2_reckon_256 (by decide) ?_
                        refine h_lv (lv' := [some (.ref (gO' Y 9)), none, some (.int (zI x2)), some (.int (zI 0)), some (.int (zI r206)), some (.int (zI x5)), some (.int (zI x6)), none, none, none, none]) ⟨rfl, rfl, rfl, rfl, rfl, rfl, trivial⟩ ?_
                        exact cj_Constants_reckon_386 hC hr ih hk18 Rx2 (by decide) R210 Rx5 Rx6 o211 hZ212 h215
                      · have h216 := h213.2 c214
                        refine h_iload hC dX2_reckon_245 rfl ?_
                        refine yr_if_eq (tgt := 254) hC R210 dX2_reckon_247 (by decide) (fun c217 => ?_) (fun c217 => ?_)
                        · have h218 := h216.1 c217
                          refine h_iconst (v := zI 0) hC dX2_reckon_254 rfl ?_
                          refine h_istore_n (lv' := [some (.ref (gO' Y 9)), none, some (.int (zI x2)), some (.int (zI 0)), some (.int (zI r206)), some (.int (zI x5)), some (.int (zI x6)), some (.int (zI r15)), some (.int (zI r23)), none, none]) hC dX2_reckon_255 (Nat.le_of_ble_eq_true rfl) rfl rfl ?_
                          refine h_goto (tgt := 386) hC dX2_reckon_256 (by decide) ?_
                          refine h_lv (lv' := [some (.ref (gO' Y 9)), none, some (.int (zI x2)), some (.int (zI 0)), some (.int (zI r206)), some (.int (zI x5)), some (.int (zI x6)), none, none, none, none]) ⟨rfl, rfl, rfl, rfl, rfl, rfl, trivial⟩ ?_
                          exact cj_Constants_reckon_386 hC hr ih hk18 Rx2 (by decide) R210 Rx5 Rx6 o211 hZ212 h218
                        · have h219 := h216.2 c217
                          refine h_iconst (v := zI 1) hC dX2_reckon_250 rfl ?_
                          refine h_goto (tgt := 255) hC dX2_reckon_251 (by decide) ?_
                          refine h_istore_n (lv' := [some (.ref (gO' Y 9)), none, some (.int (zI x2)), some (.int (zI 1)), some (.int (zI r206)), some (.int (zI x5)), some (.int (zI x6)), some (.int (zI r15)), some (.int (zI r23)), none, none]) hC dX2_reckon_255 (Nat.le_of_ble_eq_true rfl) rfl rfl ?_
                          refine h_goto (tgt := 386) hC dX2_reckon_256 (by decide) ?_
                          refine h_lv (lv' := [some (.ref (gO' Y 9)), none, some (.int (zI x2)), some (.int (zI 1)), some (.int (zI r206)), some (.int (zI x5)), some (.int (zI x6)), none, none, none, none]) ⟨rfl, rfl, rfl, rfl, rfl, rfl, trivial⟩ ?_
                          exact cj_Constants_reckon_386 hC hr ih hk18 Rx2 (by decide) R210 Rx5 Rx6 o211 hZ212 h219
                    · have h220 := h203.2 c204
                      refine h_iconst (v := zI 1) hC dX2_reckon_231 rfl ?_
                      refine h_goto (tgt := 236) hC dX2_reckon_232 (by decide) ?_
                      refine yr_callVi (As := [.int (zI r15), .int (zI x4), .int (zI 1)]) hC hr o201 hZ202 rfl (hZ202.w.o 9 (by decide)) (cm_Constants_relate X.la d b R19 Rx4 (by decide) hZ202.rs h220) cl_X2_91 rfl rfl (Nat.le_of_ble_eq_true rfl) (hFr_of (by omega) (Nat.le_of_ble_eq_true rfl)) dX2_reckon_236 (fun r221 A222 u223 S224 R225 o226 hZ227 h228 => ?_)
                      refine h_istore (lv' := [some (.ref (gO' Y 9)), none, some (.int (zI x2)), some (.int (zI x3)), some (.int (zI r221)), some (.int (zI x5)), some (.int (zI x6)), some (.int (zI r15)), some (.int (zI r23)), none, none]) hC dX2_reckon_239 (Nat.le_of_ble_eq_true rfl) rfl rfl ?_
                      refine h_iload_n hC dX2_reckon_241 rfl ?_
                      refine yr_if_eq (tgt := 254) hC Rx2 dX2_reckon_242 (by decide) (fun c229 => ?_) (fun c229 => ?_)
                      · have h230 := h228.1 c229
                        refine h_iconst (v := zI 0) hC dX2_reckon_254 rfl ?_
                        refine h_istore_n (lv' := [some (.ref (gO' Y 9)), none, some (.int (zI x2)), some (.int (zI 0)), some (.int (zI r221)), some (.int (zI x5)), some (.int (zI x6)), some (.int (zI r15)), some (.int (zI r23)), none, none]) hC dX2_reckon_255 (Nat.le_of_ble_eq_true rfl) rfl rfl ?_
                        refine h_goto (tgt := 386) hC dX2_reckon_256 (by decide) ?_
                        refine h_lv (lv' := [some (.ref (gO' Y 9)), none, some (.int (zI x2)), some (.int (zI 0)), some (.int (zI r221)), some (.int (zI x5)), some (.int (zI x6)), none, none, none, none]) ⟨rfl, rfl, rfl, rfl, rfl, rfl, trivial⟩ ?_
                        exact cj_Constants_reckon_386 hC hr ih hk18 Rx2 (by decide) R225 Rx5 Rx6 o226 hZ227 h230
                      · have h231 := h228.2 c229
                        refine h_iload hC dX2_reckon_245 rfl ?_
                        refine yr_if_eq (tgt := 254) hC R225 dX2_reckon_247 (by decide) (fun c232 => ?_) (fun c232 => ?_)
                        · have h233 := h231.1 c232
                          refine h_iconst (v := zI 0) hC dX2_reckon_254 rfl ?_
                          refine h_istore_n (lv' := [some (.ref (gO' Y 9)), none, some (.int (zI x2)), some (.int (zI 0)), some (.int (zI r221)), some (.int (zI x5)), some (.int (zI x6)), some (.int (zI r15)), some (.int (zI r23)), none, none]) hC dX2_reckon_255 (Nat.le_of_ble_eq_true rfl) rfl rfl ?_
                          refine h_goto (tgt := 386) hC dX2_reckon_256 (by decide) ?_
                          refine h_lv (lv' := [some (.ref (gO' Y 9)), none, some (.int (zI x2)), some (.int (zI 0)), some (.int (zI r221)), some (.int (zI x5)), some (.int (zI x6)), none, none, none, none]) ⟨rfl, rfl, rfl, rfl, rfl, rfl, trivial⟩ ?_
                          exact cj_Constants_reckon_386 hC hr ih hk18 Rx2 (by decide) R225 Rx5 Rx6 o226 hZ227 h233
                        · have h234 := h231.2 c232
                          refine h_iconst (v := zI 1) hC dX2_reckon_250 rfl ?_
                          refine h_goto (tgt := 255) hC dX2_reckon_251 (by decide) ?_
                          refine h_istore_n (lv' := [some (.ref (gO' Y 9)), none, some (.int (zI x2)), some (.int (zI 1)), some (.int (zI r221)), some (.int (zI x5)), some (.int (zI x6)), some (.int (zI r15)), some (.int (zI r23)), none, none]) hC dX2_reckon_255 (Nat.le_of_ble_eq_true rfl) rfl rfl ?_
                          refine h_goto (tgt := 386) hC dX2_reckon_256 (by decide) ?_
                          refine h_lv (lv' := [some (.ref (gO' Y 9)), none, some (.int (zI x2)), some (.int (zI 1)), some (.int (zI r221)), some (.int (zI x5)), some (.int (zI x6)), none, none, none, none]) ⟨rfl, rfl, rfl, rfl, rfl, rfl, trivial⟩ ?_
                          exact cj_Constants_reckon_386 hC hr ih hk18 Rx2 (by decide) R225 Rx5 Rx6 o226 hZ227 h234
                clear h176
                exact yr_lokAt (v := 88) hC dX2_reckon_61 R35 (by decide) g174 rfl (by decide) T175
              · skip
                have h235 := h38.2.2.2.2.2 g39 g75 g92 g117 g174
                refine yr_lokD (tgt := 369) hC dX2_reckon_61 R35 (by decide) (List.forall_mem_cons.mpr ⟨(fun q => g39 (q)), List.forall_mem_cons.mpr ⟨(fun q => g75 (q)), List.forall_mem_cons.mpr ⟨(fun q => g92 (q)), List.forall_mem_cons.mpr ⟨(fun q => g117 (q)), List.forall_mem_cons.mpr ⟨(fun q => g174 (q)), fun q hq => absurd hq List.not_mem_nil⟩⟩⟩⟩⟩) (by decide) ?_
                refine h_aload_n hC dX2_reckon_369 rfl ?_
                refine h_aload_n hC dX2_reckon_370 rfl ?_
                refine h_get hC fl_X2_32 (hZ37.w.o 9 (by decide)) rfl dX2_reckon_371 ?_
                refine h_iload hC dX2_reckon_374 rfl ?_
                refine yr_callVi (As := [.int (zI x5)]) hC hr o36 hZ37 rfl (hZ37.w.o 2 (by decide)) (cm_Tree_kind X.la d b Rx5 hZ37.rs h235) cl_X2_72 rfl rfl (Nat.le_of_ble_eq_true rfl) (hFr_of (by omega) (Nat.le_of_ble_eq_true rfl)) dX2_reckon_376 (fun r236 A237 u238 S239 R240 o241 hZ242 h243 => ?_)
                refine h_iload hC dX2_reckon_379 rfl ?_
                refine h_iload hC dX2_reckon_381 rfl ?_
                refine yr_callVv (As := [.int (zI r236), .int (zI r15), .int (zI r23)]) hC hr o241 hZ242 rfl (hZ242.w.o 9 (by decide)) (cm_Constants_single X.la d b R240 R19 R27 hZ242.rs h243) cl_X2_109 rfl rfl (Nat.le_of_ble_eq_true rfl) (hFr_of (by omega) (Nat.le_of_ble_eq_true rfl)) dX2_reckon_383 (fun A245 u246 S247 o249 hZ250 h251 => ?_)
                refine h_lv (lv' := [some (.ref (gO' Y 9)), none, some (.int (zI x2)), some (.int (zI x3)), some (.int (zI x4)), some (.int (zI x5)), some (.int (zI x6)), none, none, none, none]) ⟨rfl, rfl, rfl, rfl, rfl, rfl, trivial⟩ ?_
                exact cj_Constants_reckon_386 hC hr ih hk18 Rx2 Rx3 Rx4 Rx5 Rx6 o249 hZ250 h251
theorem cl_Constants_reckon_18 {X : gX} {d : gD} {b : Nat} {Y : gYt} {c : Nat × Nat} {F0 : gM} {S0 : gSt} {mc ms : Nat} {rec : Nat → Int → Int → Int → cS → (Int → cS → Prop) → Prop} {lv0 : Nat} (hC : gC RX2 cX2_reckon 11 (some .int) "reckon" (gR (7 + lv0 + 1) mc ms) d b X) (hr : hRm X b) (ih : yOkK X.la d b Y c lv0 rec) {Q : Int → cS → Prop}   : ∀ (m : Nat) (u : hU) (S : gSt) (A0 : cS) (x2 : Int) (x3 : Int) (x4 : Int) (x5 : Int) (x6 : Int), zR x2 → zR x3 → zR x4 → zR x5 → zR x6 → yOk X b u → yZ d b Y c F0 S0 u S A0 → wc_Constants_reckon_18 rec Q  m A0 x2 x3 x4 x5 x6 → yG X d b (yQi X d b Y c F0 S0 mc ms Q) u 18 [some (.ref (gO' Y 9)), none, some (.int (zI x2)), some (.int (zI x3)), some (.int (zI x4)), some (.int (zI x5)), some (.int (zI x6)), none, none, none, none] [] := by
  intro m
  induction m with
  | zero => intro u S A0 x2 x3 x4 x5 x6 Rx2 Rx3 Rx4 Rx5 Rx6 ho hZ hw; exact False.elim hw
  | succ m ihm => intro u S A0 x2 x3 x4 x5 x6 Rx2 Rx3 Rx4 Rx5 Rx6 ho hZ hw; exact cb_Constants_reckon_18 hC hr ih  ihm Rx2 Rx3 Rx4 Rx5 Rx6 ho hZ hw
set_option maxHeartbeats 4000000 in
set_option maxRecDepth 100000 in
theorem cm_Constants_reckon (l : Launch) (d : gD) (b : Nat) {Y : gYt} {c : Nat × Nat} {F : gM} {k n : Nat} {S : gSt} {A0 : cS} {rec : Nat → Int → Int → Int → cS → (Int → cS → Prop) → Prop} {lv0 : Nat} (ih : yOkK l d b Y c lv0 rec) {a0 : Int} {a1 : Int} (Ra0 : zR a0) (Ra1 : zR a1) {Q : Int → cS → Prop} (hZ : yZ d b Y c F S (F, k, n) S A0) (hw : wc_Constants_reckon rec A0 a0 a1 Q) : hMi l d b yX2_reckon cX2_reckon 11 .int (7 + lv0 + 1) k n F [.ref (gO' Y 9), .int (zI a0), .int (zI a1)] (yPi d b Y c F S Q) := by
  intro mc ms
  refine hM_of2 rfl (nL := 11) (Nat.le_of_ble_eq_true rfl) ?_
  intro X hX hC hr ho; subst hX
  show yG X d b (yQi X d b Y c F S mc ms Q) (F, k, n) 0 [some (.ref (gO' Y 9)), some (.int (zI a0)), some (.int (zI a1)), none, none, none, none, none, none, none, none] []
  unfold wc_Constants_reckon at hw
  refine h_iload_n hC dX2_reckon_0 rfl ?_
  refine h_istore_n (lv' := [some (.ref (gO' Y 9)), some (.int (zI a0)), some (.int (zI a1)), some (.int (zI a1)), none, none, none, none, none, none, none]) hC dX2_reckon_1 (Nat.le_of_ble_eq_true rfl) rfl rfl ?_
  refine h_iconst (v := zI 1) hC dX2_reckon_2 rfl ?_
  refine h_istore (lv' := [some (.ref (gO' Y 9)), some (.int (zI a0)), some (.int (zI a1)), some (.int (zI a1)), some (.int (zI 1)), none, none, none, none, none, none]) hC dX2_reckon_3 (Nat.le_of_ble_eq_true rfl) rfl rfl ?_
  refine h_aload_n hC dX2_reckon_5 rfl ?_
  refine h_get hC fl_X2_32 (hZ.w.o 9 (by decide)) rfl dX2_reckon_6 ?_
  refine h_iload_n hC dX2_reckon_9 rfl ?_
  refine yr_callVi (As := [.int (zI a0)]) hC hr ho hZ rfl (hZ.w.o 2 (by decide)) (cm_Tree_first X.la d b Ra0 hZ.rs hw) cl_X2_66 rfl rfl (Nat.le_of_ble_eq_true rfl) (hFr_of (by omega) (Nat.le_of_ble_eq_true rfl)) dX2_reckon_10 (fun r1 A2 u3 S4 R5 o6 hZ7 h8 => ?_)
  refine h_istore (lv' := [some (.ref (gO' Y 9)), some (.int (zI a0)), some (.int (zI a1)), some (.int (zI a1)), some (.int (zI 1)), some (.int (zI r1)), none, none, none, none, none]) hC dX2_reckon_13 (Nat.le_of_ble_eq_true rfl) rfl rfl ?_
  refine h_iconst (v := zI 0) hC dX2_reckon_15 rfl ?_
  refine h_istore (lv' := [some (.ref (gO' Y 9)), some (.int (zI a0)), some (.int (zI a1)), some (.int (zI a1)), some (.int (zI 1)), some (.int (zI r1)), some (.int (zI 0)), none, none, none, none]) hC dX2_reckon_16 (Nat.le_of_ble_eq_true rfl) rfl rfl ?_
  refine h_lv (lv' := [some (.ref (gO' Y 9)), none, some (.int (zI a1)), some (.int (zI a1)), some (.int (zI 1)), some (.int (zI r1)), some (.int (zI 0)), none, none, none, none]) ⟨rfl, rfl, rfl, rfl, rfl, rfl, trivial⟩ ?_
  obtain ⟨m9, h10⟩ := h8
  exact cl_Constants_reckon_18 hC hr ih  m9 _ _ _ _ _ _ _ _ Ra1 Ra1 (by decide) R5 (by decide) o6 hZ7 h10
theorem dX2_choose_0 : decode cX2_choose 0 = .ok (.aload_n 0, 1) := by decide +kernel
theorem dX2_choose_1 : decode cX2_choose 1 = .ok (.getfield 32, 3) := by decide +kernel
theorem dX2_choose_4 : decode cX2_choose 4 = .ok (.iload_n 1, 1) := by decide +kernel
theorem dX2_choose_5 : decode cX2_choose 5 = .ok (.invokevirtual 66, 3) := by decide +kernel
theorem dX2_choose_8 : decode cX2_choose 8 = .ok (.istore_n 3, 1) := by decide +kernel
theorem dX2_choose_9 : decode cX2_choose 9 = .ok (.aload_n 0, 1) := by decide +kernel
theorem dX2_choose_10 : decode cX2_choose 10 = .ok (.getfield 32, 3) := by decide +kernel
theorem dX2_choose_13 : decode cX2_choose 13 = .ok (.iload_n 3, 1) := by decide +kernel
theorem dX2_choose_14 : decode cX2_choose 14 = .ok (.invokevirtual 81, 3) := by decide +kernel
theorem dX2_choose_17 : decode cX2_choose 17 = .ok (.istore 4, 2) := by decide +kernel
theorem dX2_choose_19 : decode cX2_choose 19 = .ok (.aload_n 0, 1) := by decide +kernel
theorem dX2_choose_20 : decode cX2_choose 20 = .ok (.iload_n 3, 1) := by decide +kernel
theorem dX2_choose_21 : decode cX2_choose 21 = .ok (.iload_n 2, 1) := by decide +kernel
theorem dX2_choose_22 : decode cX2_choose 22 = .ok (.invokevirtual 47, 3) := by decide +kernel
theorem dX2_choose_25 : decode cX2_choose 25 = .ok (.ifCond .eq 7, 3) := by decide +kernel
theorem dX2_choose_28 : decode cX2_choose 28 = .ok (.iconst 1, 1) := by decide +kernel
theorem dX2_choose_29 : decode cX2_choose 29 = .ok (.goto 4, 3) := by decide +kernel
theorem dX2_choose_32 : decode cX2_choose 32 = .ok (.iconst 0, 1) := by decide +kernel
theorem dX2_choose_33 : decode cX2_choose 33 = .ok (.istore 5, 2) := by decide +kernel
theorem dX2_choose_35 : decode cX2_choose 35 = .ok (.aload_n 0, 1) := by decide +kernel
theorem dX2_choose_36 : decode cX2_choose 36 = .ok (.iload 4, 2) := by decide +kernel
theorem dX2_choose_38 : decode cX2_choose 38 = .ok (.iload_n 2, 1) := by decide +kernel
theorem dX2_choose_39 : decode cX2_choose 39 = .ok (.ifCond .eq 12, 3) := by decide +kernel
theorem dX2_choose_42 : decode cX2_choose 42 = .ok (.iload 5, 2) := by decide +kernel
theorem dX2_choose_44 : decode cX2_choose 44 = .ok (.ifCond .eq 7, 3) := by decide +kernel
theorem dX2_choose_47 : decode cX2_choose 47 = .ok (.iconst 1, 1) := by decide +kernel
theorem dX2_choose_48 : decode cX2_choose 48 = .ok (.goto 4, 3) := by decide +kernel
theorem dX2_choose_51 : decode cX2_choose 51 = .ok (.iconst 0, 1) := by decide +kernel
theorem dX2_choose_52 : decode cX2_choose 52 = .ok (.invokevirtual 47, 3) := by decide +kernel
theorem dX2_choose_55 : decode cX2_choose 55 = .ok (.istore 6, 2) := by decide +kernel
theorem dX2_choose_57 : decode cX2_choose 57 = .ok (.aload_n 0, 1) := by decide +kernel
theorem dX2_choose_58 : decode cX2_choose 58 = .ok (.aload_n 0, 1) := by decide +kernel
theorem dX2_choose_59 : decode cX2_choose 59 = .ok (.getfield 32, 3) := by decide +kernel
theorem dX2_choose_62 : decode cX2_choose 62 = .ok (.iload 4, 2) := by decide +kernel
theorem dX2_choose_64 : decode cX2_choose 64 = .ok (.invokevirtual 81, 3) := by decide +kernel
theorem dX2_choose_67 : decode cX2_choose 67 = .ok (.iload_n 2, 1) := by decide +kernel
theorem dX2_choose_68 : decode cX2_choose 68 = .ok (.ifCond .eq 12, 3) := by decide +kernel
theorem dX2_choose_71 : decode cX2_choose 71 = .ok (.iload 5, 2) := by decide +kernel
theorem dX2_choose_73 : decode cX2_choose 73 = .ok (.ifCond .ne 7, 3) := by decide +kernel
theorem dX2_choose_76 : decode cX2_choose 76 = .ok (.iconst 1, 1) := by decide +kernel
theorem dX2_choose_77 : decode cX2_choose 77 = .ok (.goto 4, 3) := by decide +kernel
theorem dX2_choose_80 : decode cX2_choose 80 = .ok (.iconst 0, 1) := by decide +kernel
theorem dX2_choose_81 : decode cX2_choose 81 = .ok (.invokevirtual 47, 3) := by decide +kernel
theorem dX2_choose_84 : decode cX2_choose 84 = .ok (.istore 7, 2) := by decide +kernel
theorem dX2_choose_86 : decode cX2_choose 86 = .ok (.iload 5, 2) := by decide +kernel
theorem dX2_choose_88 : decode cX2_choose 88 = .ok (.ifCond .eq 8, 3) := by decide +kernel
theorem dX2_choose_91 : decode cX2_choose 91 = .ok (.iload 6, 2) := by decide +kernel
theorem dX2_choose_93 : decode cX2_choose 93 = .ok (.goto 5, 3) := by decide +kernel
theorem dX2_choose_96 : decode cX2_choose 96 = .ok (.iload 7, 2) := by decide +kernel
theorem dX2_choose_98 : decode cX2_choose 98 = .ok (.ireturn, 1) := by decide +kernel
def wc_Constants_choose_52 (rec : Nat → Int → Int → Int → cS → (Int → cS → Prop) → Prop) (Q : Int → cS → Prop)  (A0 : cS) (x2 : Int) (x4 : Int) (x5 : Int) (y0 : Int) (y1 : Int) : Prop :=
  rec 0 y1 y0 0 A0 (fun r1 A2 => wc_Tree_next A2 x4 (fun r9 A10 => ((x2 = 0 → rec 0 r9 0 0 A10 (fun r19 A20 => ((x5 = 0 → Q r19 A20) ∧ (¬ x5 = 0 → Q r1 A20)))) ∧ (¬ x2 = 0 → ((¬ x5 = 0 → rec 0 r9 0 0 A10 (fun r33 A34 => ((x5 = 0 → Q r33 A34) ∧ (¬ x5 = 0 → Q r1 A34)))) ∧ (x5 = 0 → rec 0 r9 1 0 A10 (fun r45 A46 => ((x5 = 0 → Q r45 A46) ∧ (¬ x5 = 0 → Q r1 A46)))))))))
def wc_Constants_choose (rec : Nat → Int → Int → Int → cS → (Int → cS → Prop) → Prop) (A0 : cS) (a0 : Int) (a1 : Int) (Q : Int → cS → Prop) : Prop :=
  wc_Tree_first A0 a0 (fun r1 A2 => wc_Tree_next A2 r1 (fun r9 A10 => rec 0 r1 a1 0 A10 (fun r17 A18 => ((r17 = 0 → ((a1 = 0 → wc_Constants_choose_52 rec Q  A18 a1 r9 0 0 r9) ∧ (¬ a1 = 0 → wc_Constants_choose_52 rec Q  A18 a1 r9 0 0 r9))) ∧ (¬ r17 = 0 → ((a1 = 0 → wc_Constants_choose_52 rec Q  A18 a1 r9 1 0 r9) ∧ (¬ a1 = 0 → wc_Constants_choose_52 rec Q  A18 a1 r9 1 1 r9)))))))
set_option maxHeartbeats 4000000 in
set_option maxRecDepth 100000 in
theorem cj_Constants_choose_52 {X : gX} {d : gD} {b : Nat} {Y : gYt} {c : Nat × Nat} {F0 : gM} {S0 : gSt} {mc ms : Nat} {rec : Nat → Int → Int → Int → cS → (Int → cS → Prop) → Prop} {lv0 : Nat} (hC : gC RX2 cX2_choose 8 (some .int) "choose" (gR (7 + lv0 + 1) mc ms) d b X) (hr : hRm X b) (ih : yOkK X.la d b Y c lv0 rec) {Q : Int → cS → Prop}   {u : hU} {S : gSt} {A0 : cS} {x2 : Int} {x4 : Int} {x5 : Int} {y0 : Int} {y1 : Int} (Rx2 : zR x2) (Rx4 : zR x4) (Rx5 : zR x5) (Ry0 : zR y0) (Ry1 : zR y1) (ho : yOk X b u) (hZ : yZ d b Y c F0 S0 u S A0) (hw : wc_Constants_choose_52 rec Q  A0 x2 x4 x5 y0 y1) : yG X d b (yQi X d b Y c F0 S0 mc ms Q) u 52 [some (.ref (gO' Y 9)), none, some (.int (zI x2)), none, some (.int (zI x4)), some (.int (zI x5)), none, none] [.int (zI y0), .int (zI y1), .ref (gO' Y 9)] := by
  unfold wc_Constants_choose_52 at hw
  refine yr_callVi (As := [.int (zI y1), .int (zI y0)]) hC hr ho hZ rfl (hZ.w.o 9 (by decide)) (ih.1 Ry1 Ry0 hZ.rs hw) cl_X2_47 rfl rfl (Nat.le_of_ble_eq_true rfl) (hFr_of (by omega) (Nat.le_of_ble_eq_true rfl)) dX2_choose_52 (fun r1 A2 u3 S4 R5 o6 hZ7 h8 => ?_)
  refine h_istore (lv' := [some (.ref (gO' Y 9)), none, some (.int (zI x2)), none, some (.int (zI x4)), some (.int (zI x5)), some (.int (zI r1)), none]) hC dX2_choose_55 (Nat.le_of_ble_eq_true rfl) rfl rfl ?_
  refine h_aload_n hC dX2_choose_57 rfl ?_
  refine h_aload_n hC dX2_choose_58 rfl ?_
  refine h_get hC fl_X2_32 (hZ7.w.o 9 (by decide)) rfl dX2_choose_59 ?_
  refine h_iload hC dX2_choose_62 rfl ?_
  refine yr_callVi (As := [.int (zI x4)]) hC hr o6 hZ7 rfl (hZ7.w.o 2 (by decide)) (cm_Tree_next X.la d b Rx4 hZ7.rs h8) cl_X2_81 rfl rfl (Nat.le_of_ble_eq_true rfl) (hFr_of (by omega) (Nat.le_of_ble_eq_true rfl)) dX2_choose_64 (fun r9 A10 u11 S12 R13 o14 hZ15 h16 => ?_)
  refine h_iload_n hC dX2_choose_67 rfl ?_
  refine yr_if_eq (tgt := 80) hC Rx2 dX2_choose_68 (by decide) (fun c17 => ?_) (fun c17 => ?_)
  · have h18 := h16.1 c17
    refine h_iconst (v := zI 0) hC dX2_choose_80 rfl ?_
    refine yr_callVi (As := [.int (zI r9), .int (zI 0)]) hC hr o14 hZ15 rfl (hZ15.w.o 9 (by decide)) (ih.1 R13 (by decide) hZ15.rs h18) cl_X2_47 rfl rfl (Nat.le_of_ble_eq_true rfl) (hFr_of (by omega) (Nat.le_of_ble_eq_true rfl)) dX2_choose_81 (fun r19 A20 u21 S22 R23 o24 hZ25 h26 => ?_)
    refine h_istore (lv' := [some (.ref (gO' Y 9)), none, some (.int (zI x2)), none, some (.int (zI x4)), some (.int (zI x5)), some (.int (zI r1)), some (.int (zI r19))]) hC dX2_choose_84 (Nat.le_of_ble_eq_true rfl) rfl rfl ?_
    refine h_iload hC dX2_choose_86 rfl ?_
    refine yr_if_eq (tgt := 96) hC Rx5 dX2_choose_88 (by decide) (fun c27 => ?_) (fun c27 => ?_)
    · have h28 := h26.1 c27
      refine h_iload hC dX2_choose_96 rfl ?_
      exact yr_iret hC hr o24 hZ25 R23 h28 dX2_choose_98
    · have h29 := h26.2 c27
      refine h_iload hC dX2_choose_91 rfl ?_
      refine h_goto (tgt := 98) hC dX2_choose_93 (by decide) ?_
      exact yr_iret hC hr o24 hZ25 R5 h29 dX2_choose_98
  · have h30 := h16.2 c17
    refine h_iload hC dX2_choose_71 rfl ?_
    refine yr_if_ne (tgt := 80) hC Rx5 dX2_choose_73 (by decide) (fun c31 => ?_) (fun c31 => ?_)
    · have h32 := h30.1 c31
      refine h_iconst (v := zI 0) hC dX2_choose_80 rfl ?_
      refine yr_callVi (As := [.int (zI r9), .int (zI 0)]) hC hr o14 hZ15 rfl (hZ15.w.o 9 (by decide)) (ih.1 R13 (by decide) hZ15.rs h32) cl_X2_47 rfl rfl (Nat.le_of_ble_eq_true rfl) (hFr_of (by omega) (Nat.le_of_ble_eq_true rfl)) dX2_choose_81 (fun r33 A34 u35 S36 R37 o38 hZ39 h40 => ?_)
      refine h_istore (lv' := [some (.ref (gO' Y 9)), none, some (.int (zI x2)), none, some (.int (zI x4)), some (.int (zI x5)), some (.int (zI r1)), some (.int (zI r33))]) hC dX2_choose_84 (Nat.le_of_ble_eq_true rfl) rfl rfl ?_
      refine h_iload hC dX2_choose_86 rfl ?_
      refine yr_if_eq (tgt := 96) hC Rx5 dX2_choose_88 (by decide) (fun c41 => ?_) (fun c41 => ?_)
      · have h42 := h40.1 c41
        refine h_iload hC dX2_choose_96 rfl ?_
        exact yr_iret hC hr o38 hZ39 R37 h42 dX2_choose_98
      · have h43 := h40.2 c41
        refine h_iload hC dX2_choose_91 rfl ?_
        refine h_goto (tgt := 98) hC dX2_choose_93 (by decide) ?_
        exact yr_iret hC hr o38 hZ39 R5 h43 dX2_choose_98
    · have h44 := h30.2 c31
      refine h_iconst (v := zI 1) hC dX2_choose_76 rfl ?_
      refine h_goto (tgt := 81) hC dX2_choose_77 (by decide) ?_
      refine yr_callVi (As := [.int (zI r9), .int (zI 1)]) hC hr o14 hZ15 rfl (hZ15.w.o 9 (by decide)) (ih.1 R13 (by decide) hZ15.rs h44) cl_X2_47 rfl rfl (Nat.le_of_ble_eq_true rfl) (hFr_of (by omega) (Nat.le_of_ble_eq_true rfl)) dX2_choose_81 (fun r45 A46 u47 S48 R49 o50 hZ51 h52 => ?_)
      refine h_istore (lv' := [some (.ref (gO' Y 9)), none, some (.int (zI x2)), none, some (.int (zI x4)), some (.int (zI x5)), some (.int (zI r1)), some (.int (zI r45))]) hC dX2_choose_84 (Nat.le_of_ble_eq_true rfl) rfl rfl ?_
      refine h_iload hC dX2_choose_86 rfl ?_
      refine yr_if_eq (tgt := 96) hC Rx5 dX2_choose_88 (by decide) (fun c53 => ?_) (fun c53 => ?_)
      · have h54 := h52.1 c53
        refine h_iload hC dX2_choose_96 rfl ?_
        exact yr_iret hC hr o50 hZ51 R49 h54 dX2_choose_98
      · have h55 := h52.2 c53
        refine h_iload hC dX2_choose_91 rfl ?_
        refine h_goto (tgt := 98) hC dX2_choose_93 (by decide) ?_
        exact yr_iret hC hr o50 hZ51 R5 h55 dX2_choose_98
set_option maxHeartbeats 4000000 in
set_option maxRecDepth 100000 in
theorem cm_Constants_choose (l : Launch) (d : gD) (b : Nat) {Y : gYt} {c : Nat × Nat} {F : gM} {k n : Nat} {S : gSt} {A0 : cS} {rec : Nat → Int → Int → Int → cS → (Int → cS → Prop) → Prop} {lv0 : Nat} (ih : yOkK l d b Y c lv0 rec) {a0 : Int} {a1 : Int} (Ra0 : zR a0) (Ra1 : zR a1) {Q : Int → cS → Prop} (hZ : yZ d b Y c F S (F, k, n) S A0) (hw : wc_Constants_choose rec A0 a0 a1 Q) : hMi l d b yX2_choose cX2_choose 8 .int (7 + lv0 + 1) k n F [.ref (gO' Y 9), .int (zI a0), .int (zI a1)] (yPi d b Y c F S Q) := by
  intro mc ms
  refine hM_of2 rfl (nL := 8) (Nat.le_of_ble_eq_true rfl) ?_
  intro X hX hC hr ho; subst hX
  show yG X d b (yQi X d b Y c F S mc ms Q) (F, k, n) 0 [some (.ref (gO' Y 9)), some (.int (zI a0)), some (.int (zI a1)), none, none, none, none, none] []
  unfold wc_Constants_choose at hw
  refine h_aload_n hC dX2_choose_0 rfl ?_
  refine h_get hC fl_X2_32 (hZ.w.o 9 (by decide)) rfl dX2_choose_1 ?_
  refine h_iload_n hC dX2_choose_4 rfl ?_
  refine yr_callVi (As := [.int (zI a0)]) hC hr ho hZ rfl (hZ.w.o 2 (by decide)) (cm_Tree_first X.la d b Ra0 hZ.rs hw) cl_X2_66 rfl rfl (Nat.le_of_ble_eq_true rfl) (hFr_of (by omega) (Nat.le_of_ble_eq_true rfl)) dX2_choose_5 (fun r1 A2 u3 S4 R5 o6 hZ7 h8 => ?_)
  refine h_istore_n (lv' := [some (.ref (gO' Y 9)), some (.int (zI a0)), some (.int (zI a1)), some (.int (zI r1)), none, none, none, none]) hC dX2_choose_8 (Nat.le_of_ble_eq_true rfl) rfl rfl ?_
  refine h_aload_n hC dX2_choose_9 rfl ?_
  refine h_get hC fl_X2_32 (hZ7.w.o 9 (by decide)) rfl dX2_choose_10 ?_
  refine h_iload_n hC dX2_choose_13 rfl ?_
  refine yr_callVi (As := [.int (zI r1)]) hC hr o6 hZ7 rfl (hZ7.w.o 2 (by decide)) (cm_Tree_next X.la d b R5 hZ7.rs h8) cl_X2_81 rfl rfl (Nat.le_of_ble_eq_true rfl) (hFr_of (by omega) (Nat.le_of_ble_eq_true rfl)) dX2_choose_14 (fun r9 A10 u11 S12 R13 o14 hZ15 h16 => ?_)
  refine h_istore (lv' := [some (.ref (gO' Y 9)), some (.int (zI a0)), some (.int (zI a1)), some (.int (zI r1)), some (.int (zI r9)), none, none, none]) hC dX2_choose_17 (Nat.le_of_ble_eq_true rfl) rfl rfl ?_
  refine h_aload_n hC dX2_choose_19 rfl ?_
  refine h_iload_n hC dX2_choose_20 rfl ?_
  refine h_iload_n hC dX2_choose_21 rfl ?_
  refine yr_callVi (As := [.int (zI r1), .int (zI a1)]) hC hr o14 hZ15 rfl (hZ15.w.o 9 (by decide)) (ih.1 R5 Ra1 hZ15.rs h16) cl_X2_47 rfl rfl (Nat.le_of_ble_eq_true rfl) (hFr_of (by omega) (Nat.le_of_ble_eq_true rfl)) dX2_choose_22 (fun r17 A18 u19 S20 R21 o22 hZ23 h24 => ?_)
  refine yr_if_eq (tgt := 32) hC R21 dX2_choose_25 (by decide) (fun c25 => ?_) (fun c25 => ?_)
  · have h26 := h24.1 c25
    refine h_iconst (v := zI 0) hC dX2_choose_32 rfl ?_
    refine h_istore (lv' := [some (.ref (gO' Y 9)), some (.int (zI a0)), some (.int (zI a1)), some (.int (zI r1)), some (.int (zI r9)), some (.int (zI 0)), none, none]) hC dX2_choose_33 (Nat.le_of_ble_eq_true rfl) rfl rfl ?_
    refine h_aload_n hC dX2_choose_35 rfl ?_
    refine h_iload hC dX2_choose_36 rfl ?_
    refine h_iload_n hC dX2_choose_38 rfl ?_
    refine yr_if_eq (tgt := 51) hC Ra1 dX2_choose_39 (by decide) (fun c27 => ?_) (fun c27 => ?_)
    · have h28 := h26.1 c27
      refine h_iconst (v := zI 0) hC dX2_choose_51 rfl ?_
      refine h_lv (lv' := [some (.ref (gO' Y 9)), none, some (.int (zI a1)), none, some (.int (zI r9)), some (.int (zI 0)), none, none]) ⟨rfl, rfl, rfl, rfl, trivial⟩ ?_
      exact cj_Constants_choose_52 hC hr ih  Ra1 R13 (by decide) (by decide) R13 o22 hZ23 h28
    · have h29 := h26.2 c27
      refine h_iload hC dX2_choose_42 rfl ?_
      refine yr_if_eq (tgt := 51) hC (by decide) dX2_choose_44 (by decide) (fun c30 => ?_) (fun c30 => ?_)
      · refine h_iconst (v := zI 0) hC dX2_choose_51 rfl ?_
        refine h_lv (lv' := [some (.ref (gO' Y 9)), none, some (.int (zI a1)), none, some (.int (zI r9)), some (.int (zI 0)), none, none]) ⟨rfl, rfl, rfl, rfl, trivial⟩ ?_
        exact cj_Constants_choose_52 hC hr ih  Ra1 R13 (by decide) (by decide) R13 o22 hZ23 h29
      · exact absurd (by decide) c30
  · have h31 := h24.2 c25
    refine h_iconst (v := zI 1) hC dX2_choose_28 rfl ?_
    refine h_goto (tgt := 33) hC dX2_choose_29 (by decide) ?_
    refine h_istore (lv' := [some (.ref (gO' Y 9)), some (.int (zI a0)), some (.int (zI a1)), some (.int (zI r1)), some (.int (zI r9)), some (.int (zI 1)), none, none]) hC dX2_choose_33 (Nat.le_of_ble_eq_true rfl) rfl rfl ?_
    refine h_aload_n hC dX2_choose_35 rfl ?_
    refine h_iload hC dX2_choose_36 rfl ?_
    refine h_iload_n hC dX2_choose_38 rfl ?_
    refine yr_if_eq (tgt := 51) hC Ra1 dX2_choose_39 (by decide) (fun c32 => ?_) (fun c32 => ?_)
    · have h33 := h31.1 c32
      refine h_iconst (v := zI 0) hC dX2_choose_51 rfl ?_
      refine h_lv (lv' := [some (.ref (gO' Y 9)), none, some (.int (zI a1)), none, some (.int (zI r9)), some (.int (zI 1)), none, none]) ⟨rfl, rfl, rfl, rfl, trivial⟩ ?_
      exact cj_Constants_choose_52 hC hr ih  Ra1 R13 (by decide) (by decide) R13 o22 hZ23 h33
    · have h34 := h31.2 c32
      refine h_iload hC dX2_choose_42 rfl ?_
      refine yr_if_eq (tgt := 51) hC (by decide) dX2_choose_44 (by decide) (fun c35 => ?_) (fun c35 => ?_)
      · exact absurd c35 (by decide)
      · refine h_iconst (v := zI 1) hC dX2_choose_47 rfl ?_
        refine h_goto (tgt := 52) hC dX2_choose_48 (by decide) ?_
        refine h_lv (lv' := [some (.ref (gO' Y 9)), none, some (.int (zI a1)), none, some (.int (zI r9)), some (.int (zI 1)), none, none]) ⟨rfl, rfl, rfl, rfl, trivial⟩ ?_
        exact cj_Constants_choose_52 hC hr ih  Ra1 R13 (by decide) (by decide) R13 o22 hZ23 h34
def wcG_K : Nat → Nat → Int → Int → Int → cS → (Int → cS → Prop) → Prop
  | 0 => fun _ _ _ _ _ _ => False
  | m + 1 => fun i a b c A Q => match i with
    | 0 => wc_Constants_reckon (wcG_K m) A a b Q
    | 1 => wc_Constants_choose (wcG_K m) A a b Q
    | _ => False
theorem okG_K (l : Launch) (d : gD) (b : Nat) (Y : gYt) (c : Nat × Nat) : ∀ m, yOkK l d b Y c m (wcG_K m) := by
  intro m
  induction m with
  | zero => exact ⟨fun _ _ _ _ hw => False.elim hw, fun _ _ _ _ hw => False.elim hw⟩
  | succ m ih => exact ⟨fun R0 R1 _ hZ hw => cm_Constants_reckon l d b ih R0 R1 hZ hw, fun R0 R1 _ hZ hw => cm_Constants_choose l d b ih R0 R1 hZ hw⟩
theorem dX2_number_0 : decode cX2_number 0 = .ok (.aload_n 0, 1) := by decide +kernel
theorem dX2_number_1 : decode cX2_number 1 = .ok (.iconst 0, 1) := by decide +kernel
theorem dX2_number_2 : decode cX2_number 2 = .ok (.putfield 21, 3) := by decide +kernel
theorem dX2_number_5 : decode cX2_number 5 = .ok (.aload_n 0, 1) := by decide +kernel
theorem dX2_number_6 : decode cX2_number 6 = .ok (.getfield 15, 3) := by decide +kernel
theorem dX2_number_9 : decode cX2_number 9 = .ok (.iconst 0, 1) := by decide +kernel
theorem dX2_number_10 : decode cX2_number 10 = .ok (.invokevirtual 44, 3) := by decide +kernel
theorem dX2_number_13 : decode cX2_number 13 = .ok (.aload_n 0, 1) := by decide +kernel
theorem dX2_number_14 : decode cX2_number 14 = .ok (.iload_n 1, 1) := by decide +kernel
theorem dX2_number_15 : decode cX2_number 15 = .ok (.iconst 1, 1) := by decide +kernel
theorem dX2_number_16 : decode cX2_number 16 = .ok (.invokevirtual 47, 3) := by decide +kernel
theorem dX2_number_19 : decode cX2_number 19 = .ok (.istore_n 3, 1) := by decide +kernel
theorem dX2_number_20 : decode cX2_number 20 = .ok (.aload_n 0, 1) := by decide +kernel
theorem dX2_number_21 : decode cX2_number 21 = .ok (.getfield 21, 3) := by decide +kernel
theorem dX2_number_24 : decode cX2_number 24 = .ok (.ifCond .ne 31, 3) := by decide +kernel
theorem dX2_number_27 : decode cX2_number 27 = .ok (.iload_n 2, 1) := by decide +kernel
theorem dX2_number_28 : decode cX2_number 28 = .ok (.iconst (-1), 1) := by decide +kernel
theorem dX2_number_29 : decode cX2_number 29 = .ok (.if_icmp .eq 26, 3) := by decide +kernel
theorem dX2_number_32 : decode cX2_number 32 = .ok (.iload_n 3, 1) := by decide +kernel
theorem dX2_number_33 : decode cX2_number 33 = .ok (.ifCond .lt 8, 3) := by decide +kernel
theorem dX2_number_36 : decode cX2_number 36 = .ok (.iload_n 3, 1) := by decide +kernel
theorem dX2_number_37 : decode cX2_number 37 = .ok (.iload_n 2, 1) := by decide +kernel
theorem dX2_number_38 : decode cX2_number 38 = .ok (.if_icmp .le 17, 3) := by decide +kernel
theorem dX2_number_41 : decode cX2_number 41 = .ok (.aload_n 0, 1) := by decide +kernel
theorem dX2_number_42 : decode cX2_number 42 = .ok (.bipush 6, 2) := by decide +kernel
theorem dX2_number_44 : decode cX2_number 44 = .ok (.aload_n 0, 1) := by decide +kernel
theorem dX2_number_45 : decode cX2_number 45 = .ok (.getfield 32, 3) := by decide +kernel
theorem dX2_number_48 : decode cX2_number 48 = .ok (.iload_n 1, 1) := by decide +kernel
theorem dX2_number_49 : decode cX2_number 49 = .ok (.invokevirtual 51, 3) := by decide +kernel
theorem dX2_number_52 : decode cX2_number 52 = .ok (.invokevirtual 57, 3) := by decide +kernel
theorem dX2_number_55 : decode cX2_number 55 = .ok (.aload_n 0, 1) := by decide +kernel
theorem dX2_number_56 : decode cX2_number 56 = .ok (.getfield 21, 3) := by decide +kernel
theorem dX2_number_59 : decode cX2_number 59 = .ok (.ifCond .eq 18, 3) := by decide +kernel
theorem dX2_number_62 : decode cX2_number 62 = .ok (.aload_n 0, 1) := by decide +kernel
theorem dX2_number_63 : decode cX2_number 63 = .ok (.getfield 36, 3) := by decide +kernel
theorem dX2_number_66 : decode cX2_number 66 = .ok (.aload_n 0, 1) := by decide +kernel
theorem dX2_number_67 : decode cX2_number 67 = .ok (.getfield 25, 3) := by decide +kernel
theorem dX2_number_70 : decode cX2_number 70 = .ok (.aload_n 0, 1) := by decide +kernel
theorem dX2_number_71 : decode cX2_number 71 = .ok (.getfield 29, 3) := by decide +kernel
theorem dX2_number_74 : decode cX2_number 74 = .ok (.invokevirtual 61, 3) := by decide +kernel
theorem dX2_number_77 : decode cX2_number 77 = .ok (.aload_n 0, 1) := by decide +kernel
theorem dX2_number_78 : decode cX2_number 78 = .ok (.getfield 21, 3) := by decide +kernel
theorem dX2_number_81 : decode cX2_number 81 = .ok (.ifCond .eq 7, 3) := by decide +kernel
theorem dX2_number_84 : decode cX2_number 84 = .ok (.iconst 0, 1) := by decide +kernel
theorem dX2_number_85 : decode cX2_number 85 = .ok (.goto 4, 3) := by decide +kernel
theorem dX2_number_88 : decode cX2_number 88 = .ok (.iload_n 3, 1) := by decide +kernel
theorem dX2_number_89 : decode cX2_number 89 = .ok (.ireturn, 1) := by decide +kernel
def wc_Constants_number_55 (Q : Int → cS → Prop)  (A0 : cS) (x3 : Int) : Prop :=
  (((yv A0 38) = 0 → (((yv A0 38) = 0 → Q x3 A0) ∧ (¬ (yv A0 38) = 0 → Q 0 A0))) ∧ (¬ (yv A0 38) = 0 → wc_Program_blame A0 (yv A0 39) (yv A0 40) (fun A8 => (((yv A8 38) = 0 → Q x3 A8) ∧ (¬ (yv A8 38) = 0 → Q 0 A8)))))
def wc_Constants_number (A0 : cS) (a0 : Int) (a1 : Int) (Q : Int → cS → Prop) : Prop :=
  ∃ n, n ≤ 620 ∧ wcG_K n 0 a0 1 0 (ycut (ypv A0 38 0) 33 0) (fun r19 A20 => ((¬ (yv A20 38) = 0 → wc_Constants_number_55 Q  A20 r19) ∧ ((yv A20 38) = 0 → ((a1 = (-1) → wc_Constants_number_55 Q  A20 r19) ∧ (¬ a1 = (-1) → ((r19 < 0 → wc_Tree_place A20 a0 (fun r35 A36 => wc_Constants_fail A36 6 r35 (fun A44 => wc_Constants_number_55 Q  A44 r19))) ∧ (¬ r19 < 0 → ((r19 ≤ a1 → wc_Constants_number_55 Q  A20 r19) ∧ (¬ r19 ≤ a1 → wc_Tree_place A20 a0 (fun r55 A56 => wc_Constants_fail A56 6 r55 (fun A64 => wc_Constants_number_55 Q  A64 r19)))))))))))
set_option maxHeartbeats 4000000 in
set_option maxRecDepth 100000 in
theorem cj_Constants_number_55 {X : gX} {d : gD} {b : Nat} {Y : gYt} {c : Nat × Nat} {F0 : gM} {S0 : gSt} {mc ms : Nat} (hC : gC RX2 cX2_number 4 (some .int) "number" (gR 628 mc ms) d b X) (hr : hRm X b) {Q : Int → cS → Prop}   {u : hU} {S : gSt} {A0 : cS} {x3 : Int} (Rx3 : zR x3) (ho : yOk X b u) (hZ : yZ d b Y c F0 S0 u S A0) (hw : wc_Constants_number_55 Q  A0 x3) : yG X d b (yQi X d b Y c F0 S0 mc ms Q) u 55 [some (.ref (gO' Y 9)), none, none, some (.int (zI x3))] [] := by
  unfold wc_Constants_number_55 at hw
  refine h_aload_n hC dX2_number_55 rfl ?_
  refine h_get hC fl_X2_21 (hZ.w.o 9 (by decide)) rfl dX2_number_56 ?_
  refine yr_sv (e := (yv A0 38)) hZ 38 rfl ?_
  refine yr_if_eq (tgt := 77) hC (hZ.rv 38) dX2_number_59 (by decide) (fun c1 => ?_) (fun c1 => ?_)
  · have h2 := hw.1 c1
    refine h_aload_n hC dX2_number_77 rfl ?_
    refine h_get hC fl_X2_21 (hZ.w.o 9 (by decide)) rfl dX2_number_78 ?_
    refine yr_sv (e := (yv A0 38)) hZ 38 rfl ?_
    refine yr_if_eq (tgt := 88) hC (hZ.rv 38) dX2_number_81 (by decide) (fun c3 => ?_) (fun c3 => ?_)
    · have h4 := h2.1 c3
      refine h_iload_n hC dX2_number_88 rfl ?_
      exact yr_iret hC hr ho hZ Rx3 h4 dX2_number_89
    · have h5 := h2.2 c3
      refine h_iconst (v := zI 0) hC dX2_number_84 rfl ?_
      refine h_goto (tgt := 89) hC dX2_number_85 (by decide) ?_
      exact yr_iret hC hr ho hZ (by decide) h5 dX2_number_89
  · have h6 := hw.2 c1
    refine h_aload_n hC dX2_number_62 rfl ?_
    refine h_get hC fl_X2_36 (hZ.w.o 9 (by decide)) rfl dX2_number_63 ?_
    refine h_aload_n hC dX2_number_66 rfl ?_
    refine h_get hC fl_X2_25 (hZ.w.o 9 (by decide)) rfl dX2_number_67 ?_
    refine yr_sv (e := (yv A0 39)) hZ 39 rfl ?_
    refine h_aload_n hC dX2_number_70 rfl ?_
    refine h_get hC fl_X2_29 (hZ.w.o 9 (by decide)) rfl dX2_number_71 ?_
    refine yr_sv (e := (yv A0 40)) hZ 40 rfl ?_
    refine yr_callVv (As := [.int (zI (yv A0 39)), .int (zI (yv A0 40))]) hC hr ho hZ rfl (hZ.w.o 1 (by decide)) (cm_Program_blame X.la d b (hZ.rv 39) (hZ.rv 40) hZ.rs h6) cl_X2_61 rfl rfl (Nat.le_of_ble_eq_true rfl) (hFr_of (Nat.le_of_ble_eq_true rfl) (Nat.le_of_ble_eq_true rfl)) dX2_number_74 (fun A8 u9 S10 o12 hZ13 h14 => ?_)
    refine h_aload_n hC dX2_number_77 rfl ?_
    refine h_get hC fl_X2_21 (hZ13.w.o 9 (by decide)) rfl dX2_number_78 ?_
    refine yr_sv (e := (yv A8 38)) hZ13 38 rfl ?_
    refine yr_if_eq (tgt := 88) hC (hZ13.rv 38) dX2_number_81 (by decide) (fun c15 => ?_) (fun c15 => ?_)
    · have h16 := h14.1 c15
      refine h_iload_n hC dX2_number_88 rfl ?_
      exact yr_iret hC hr o12 hZ13 Rx3 h16 dX2_number_89
    · have h17 := h14.2 c15
      refine h_iconst (v := zI 0) hC dX2_number_84 rfl ?_
      refine h_goto (tgt := 89) hC dX2_number_85 (by decide) ?_
      exact yr_iret hC hr o12 hZ13 (by decide) h17 dX2_number_89
set_option maxHeartbeats 4000000 in
set_option maxRecDepth 100000 in
theorem cm_Constants_number (l : Launch) (d : gD) (b : Nat) {Y : gYt} {c : Nat × Nat} {F : gM} {k n : Nat} {S : gSt} {A0 : cS} {a0 : Int} {a1 : Int} (Ra0 : zR a0) (Ra1 : zR a1) {Q : Int → cS → Prop} (hZ : yZ d b Y c F S (F, k, n) S A0) (hw : wc_Constants_number A0 a0 a1 Q) : hMi l d b yX2_number cX2_number 4 .int 628 k n F [.ref (gO' Y 9), .int (zI a0), .int (zI a1)] (yPi d b Y c F S Q) := by
  intro mc ms
  refine hM_of2 rfl (nL := 4) (Nat.le_of_ble_eq_true rfl) ?_
  intro X hX hC hr ho; subst hX
  show yG X d b (yQi X d b Y c F S mc ms Q) (F, k, n) 0 [some (.ref (gO' Y 9)), some (.int (zI a0)), some (.int (zI a1)), none] []
  unfold wc_Constants_number at hw
  refine h_aload_n hC dX2_number_0 rfl ?_
  refine h_iconst (v := zI 0) hC dX2_number_1 rfl ?_
  refine hi_putx (i := 9) (kx := 38) hC hZ.hi (by decide) fl_X2_21 rfl (ynb (Or.inl rfl)) (yfb (Or.inl rfl)) (Nat.le_of_ble_eq_true rfl) rfl gsame_38 (fun _ => y01 (Or.inl rfl)) dX2_number_2 (fun F1 S2 I3 K4 s5 v6 p7 => ?_)
  have hZ8 := hZ.put I3 K4 s5 v6 (y01R (Or.inl rfl)) rfl
  clear I3 K4 s5 v6 p7
  refine yr_nu ho hZ8 (fun u9 o10 hZ11 => ?_)
  refine h_aload_n hC dX2_number_5 rfl ?_
  refine h_get hC fl_X2_15 (hZ11.w.o 9 (by decide)) rfl dX2_number_6 ?_
  refine h_iconst (v := zI 0) hC dX2_number_9 rfl ?_
  refine yr_cut (j := 33) hC hr o10 hZ11 (by decide) (by decide) cl_X2_44 rfl (Nat.le_of_ble_eq_true rfl) (hFr_of (Nat.le_of_ble_eq_true rfl) (Nat.le_of_ble_eq_true rfl)) dX2_number_10 (fun u12 S13 o14 hZ15 => ?_)
  refine h_aload_n hC dX2_number_13 rfl ?_
  refine h_iload_n hC dX2_number_14 rfl ?_
  refine h_iconst (v := zI 1) hC dX2_number_15 rfl ?_
  obtain ⟨m16, hm17, h18⟩ := hw
  refine yr_callVi (As := [.int (zI a0), .int (zI 1)]) hC hr o14 hZ15 rfl (hZ15.w.o 9 (by decide)) ((okG_K X.la d b Y c m16).1 Ra0 (by decide) hZ15.rs h18) cl_X2_47 rfl rfl (Nat.le_of_ble_eq_true rfl) (hFr_of (by omega) (Nat.le_of_ble_eq_true rfl)) dX2_number_16 (fun r19 A20 u21 S22 R23 o24 hZ25 h26 => ?_)
  refine h_istore_n (lv' := [some (.ref (gO' Y 9)), some (.int (zI a0)), some (.int (zI a1)), some (.int (zI r19))]) hC dX2_number_19 (Nat.le_of_ble_eq_true rfl) rfl rfl ?_
  refine h_aload_n hC dX2_number_20 rfl ?_
  refine h_get hC fl_X2_21 (hZ25.w.o 9 (by decide)) rfl dX2_number_21 ?_
  refine yr_sv (e := (yv A20 38)) hZ25 38 rfl ?_
  refine yr_if_ne (tgt := 55) hC (hZ25.rv 38) dX2_number_24 (by decide) (fun c27 => ?_) (fun c27 => ?_)
  · have h28 := h26.1 c27
    refine h_lv (lv' := [some (.ref (gO' Y 9)), none, none, some (.int (zI r19))]) ⟨rfl, rfl, trivial⟩ ?_
    exact cj_Constants_number_55 hC hr  R23 o24 hZ25 h28
  · have h29 := h26.2 c27
    refine h_iload_n hC dX2_number_27 rfl ?_
    refine h_iconst (v := zI (-1)) hC dX2_number_28 rfl ?_
    refine yr_icmp_eq (tgt := 55) hC Ra1 (by decide) dX2_number_29 (by decide) (fun c30 => ?_) (fun c30 => ?_)
    · have h31 := h29.1 c30
      refine h_lv (lv' := [some (.ref (gO' Y 9)), none, none, some (.int (zI r19))]) ⟨rfl, rfl, trivial⟩ ?_
      exact cj_Constants_number_55 hC hr  R23 o24 hZ25 h31
    · have h32 := h29.2 c30
      refine h_iload_n hC dX2_number_32 rfl ?_
      refine yr_if_lt (tgt := 41) hC R23 dX2_number_33 (by decide) (fun c33 => ?_) (fun c33 => ?_)
      · have h34 := h32.1 c33
        refine h_aload_n hC dX2_number_41 rfl ?_
        refine h_bipush (v := zI 6) hC dX2_number_42 rfl ?_
        refine h_aload_n hC dX2_number_44 rfl ?_
        refine h_get hC fl_X2_32 (hZ25.w.o 9 (by decide)) rfl dX2_number_45 ?_
        refine h_iload_n hC dX2_number_48 rfl ?_
        refine yr_callVi (As := [.int (zI a0)]) hC hr o24 hZ25 rfl (hZ25.w.o 2 (by decide)) (cm_Tree_place X.la d b Ra0 hZ25.rs h34) cl_X2_51 rfl rfl (Nat.le_of_ble_eq_true rfl) (hFr_of (Nat.le_of_ble_eq_true rfl) (Nat.le_of_ble_eq_true rfl)) dX2_number_49 (fun r35 A36 u37 S38 R39 o40 hZ41 h42 => ?_)
        refine yr_callVv (As := [.int (zI 6), .int (zI r35)]) hC hr o40 hZ41 rfl (hZ41.w.o 9 (by decide)) (cm_Constants_fail X.la d b (by decide) R39 hZ41.rs h42) cl_X2_57 rfl rfl (Nat.le_of_ble_eq_true rfl) (hFr_of (Nat.le_of_ble_eq_true rfl) (Nat.le_of_ble_eq_true rfl)) dX2_number_52 (fun A44 u45 S46 o48 hZ49 h50 => ?_)
        refine h_lv (lv' := [some (.ref (gO' Y 9)), none, none, some (.int (zI r19))]) ⟨rfl, rfl, trivial⟩ ?_
        exact cj_Constants_number_55 hC hr  R23 o48 hZ49 h50
      · have h51 := h32.2 c33
        refine h_iload_n hC dX2_number_36 rfl ?_
        refine h_iload_n hC dX2_number_37 rfl ?_
        refine yr_icmp_le (tgt := 55) hC R23 Ra1 dX2_number_38 (by decide) (fun c52 => ?_) (fun c52 => ?_)
        · have h53 := h51.1 c52
          refine h_lv (lv' := [some (.ref (gO' Y 9)), none, none, some (.int (zI r19))]) ⟨rfl, rfl, trivial⟩ ?_
          exact cj_Constants_number_55 hC hr  R23 o24 hZ25 h53
        · have h54 := h51.2 c52
          refine h_aload_n hC dX2_number_41 rfl ?_
          refine h_bipush (v := zI 6) hC dX2_number_42 rfl ?_
          refine h_aload_n hC dX2_number_44 rfl ?_
          refine h_get hC fl_X2_32 (hZ25.w.o 9 (by decide)) rfl dX2_number_45 ?_
          refine h_iload_n hC dX2_number_48 rfl ?_
          refine yr_callVi (As := [.int (zI a0)]) hC hr o24 hZ25 rfl (hZ25.w.o 2 (by decide)) (cm_Tree_place X.la d b Ra0 hZ25.rs h54) cl_X2_51 rfl rfl (Nat.le_of_ble_eq_true rfl) (hFr_of (Nat.le_of_ble_eq_true rfl) (Nat.le_of_ble_eq_true rfl)) dX2_number_49 (fun r55 A56 u57 S58 R59 o60 hZ61 h62 => ?_)
          refine yr_callVv (As := [.int (zI 6), .int (zI r55)]) hC hr o60 hZ61 rfl (hZ61.w.o 9 (by decide)) (cm_Constants_fail X.la d b (by decide) R59 hZ61.rs h62) cl_X2_57 rfl rfl (Nat.le_of_ble_eq_true rfl) (hFr_of (Nat.le_of_ble_eq_true rfl) (Nat.le_of_ble_eq_true rfl)) dX2_number_52 (fun A64 u65 S66 o68 hZ69 h70 => ?_)
          refine h_lv (lv' := [some (.ref (gO' Y 9)), none, none, some (.int (zI r19))]) ⟨rfl, rfl, trivial⟩ ?_
          exact cj_Constants_number_55 hC hr  R23 o68 hZ69 h70
