/-! the class as formulas: tree, program -/
def wc_Tree_node (A0 : cS) (a0 : Int) (a1 : Int) (a2 : Int) (Q : Int → cS → Prop) : Prop :=
  ((yz A0 7) < 3000) ∧ ((yz A0 8) < 3000) ∧ ((yz A0 9) < 3000) ∧ ((yz A0 10) < 3000) ∧ ((yz A0 11) < 3000) ∧ ((yz A0 12) < 3000) ∧ ((yz A0 13) < 3000) ∧ (zR (((yz (yadd A0 7 a0) 7 : Nat) : Int) - 1)) ∧ Q (((yz (yadd A0 7 a0) 7 : Nat) : Int) - 1) (yadd (yadd (yadd (yadd (yadd (yadd (yadd A0 7 a0) 8 a1) 9 a2) 10 0) 11 0) 12 0) 13 0)
set_option maxHeartbeats 4000000 in
set_option maxRecDepth 100000 in
theorem cm_Tree_node (l : Launch) (d : gD) (b : Nat) {Y : gYt} {c : Nat × Nat} {F : gM} {k n : Nat} {S : gSt} {A0 : cS} {a0 : Int} {a1 : Int} {a2 : Int} (Ra0 : zR a0) (Ra1 : zR a1) (Ra2 : zR a2) {Q : Int → cS → Prop} (hZ : yZ d b Y c F S (F, k, n) S A0) (hw : wc_Tree_node A0 a0 a1 a2 Q) : hMi l d b yX10_node cX10_node 4 .int 3 k n F [.ref (gO' Y 2), .int (zI a0), .int (zI a1), .int (zI a2)] (yPi d b Y c F S Q) := by
  intro mc ms
  refine hM_of2 rfl (nL := 4) (Nat.le_of_ble_eq_true rfl) ?_
  intro X hX hC hr ho; subst hX
  show yG X d b (yQi X d b Y c F S mc ms Q) (F, k, n) 0 [some (.ref (gO' Y 2)), some (.int (zI a0)), some (.int (zI a1)), some (.int (zI a2))] []
  unfold wc_Tree_node at hw
  refine h_aload_n hC dX10_node_0 rfl ?_
  refine h_get hC fl_X10_15 (hZ.w.o 2 (by decide)) rfl dX10_node_1 ?_
  refine h_iload_n hC dX10_node_4 rfl ?_
  obtain ⟨o5, h6⟩ := hw
  refine yr_add (j := 7) hC hr ho hZ (by decide) (by decide) Ra0 o5 cl_X10_46 rfl (Nat.le_of_ble_eq_true rfl) (hFr_of (Nat.le_of_ble_eq_true rfl) (Nat.le_of_ble_eq_true rfl)) dX10_node_5 (fun u1 S2 o3 hZ4 => ?_)
  refine h_aload_n hC dX10_node_8 rfl ?_
  refine h_get hC fl_X10_21 (hZ4.w.o 2 (by decide)) rfl dX10_node_9 ?_
  refine h_iload_n hC dX10_node_12 rfl ?_
  obtain ⟨o11, h12⟩ := h6
  refine yr_add (j := 8) hC hr o3 hZ4 (by decide) (by decide) Ra1 o11 cl_X10_46 rfl (Nat.le_of_ble_eq_true rfl) (hFr_of (Nat.le_of_ble_eq_true rfl) (Nat.le_of_ble_eq_true rfl)) dX10_node_13 (fun u7 S8 o9 hZ10 => ?_)
  refine h_aload_n hC dX10_node_16 rfl ?_
  refine h_get hC fl_X10_24 (hZ10.w.o 2 (by decide)) rfl dX10_node_17 ?_
  refine h_iload_n hC dX10_node_20 rfl ?_
  obtain ⟨o17, h18⟩ := h12
  refine yr_add (j := 9) hC hr o9 hZ10 (by decide) (by decide) Ra2 o17 cl_X10_46 rfl (Nat.le_of_ble_eq_true rfl) (hFr_of (Nat.le_of_ble_eq_true rfl) (Nat.le_of_ble_eq_true rfl)) dX10_node_21 (fun u13 S14 o15 hZ16 => ?_)
  refine h_aload_n hC dX10_node_24 rfl ?_
  refine h_get hC fl_X10_27 (hZ16.w.o 2 (by decide)) rfl dX10_node_25 ?_
  refine h_iconst (v := zI 0) hC dX10_node_28 rfl ?_
  obtain ⟨o23, h24⟩ := h18
  refine yr_add (j := 10) hC hr o15 hZ16 (by decide) (by decide) (by decide) o23 cl_X10_46 rfl (Nat.le_of_ble_eq_true rfl) (hFr_of (Nat.le_of_ble_eq_true rfl) (Nat.le_of_ble_eq_true rfl)) dX10_node_29 (fun u19 S20 o21 hZ22 => ?_)
  refine h_aload_n hC dX10_node_32 rfl ?_
  refine h_get hC fl_X10_30 (hZ22.w.o 2 (by decide)) rfl dX10_node_33 ?_
  refine h_iconst (v := zI 0) hC dX10_node_36 rfl ?_
  obtain ⟨o29, h30⟩ := h24
  refine yr_add (j := 11) hC hr o21 hZ22 (by decide) (by decide) (by decide) o29 cl_X10_46 rfl (Nat.le_of_ble_eq_true rfl) (hFr_of (Nat.le_of_ble_eq_true rfl) (Nat.le_of_ble_eq_true rfl)) dX10_node_37 (fun u25 S26 o27 hZ28 => ?_)
  refine h_aload_n hC dX10_node_40 rfl ?_
  refine h_get hC fl_X10_33 (hZ28.w.o 2 (by decide)) rfl dX10_node_41 ?_
  refine h_iconst (v := zI 0) hC dX10_node_44 rfl ?_
  obtain ⟨o35, h36⟩ := h30
  refine yr_add (j := 12) hC hr o27 hZ28 (by decide) (by decide) (by decide) o35 cl_X10_46 rfl (Nat.le_of_ble_eq_true rfl) (hFr_of (Nat.le_of_ble_eq_true rfl) (Nat.le_of_ble_eq_true rfl)) dX10_node_45 (fun u31 S32 o33 hZ34 => ?_)
  refine h_aload_n hC dX10_node_48 rfl ?_
  refine h_get hC fl_X10_36 (hZ34.w.o 2 (by decide)) rfl dX10_node_49 ?_
  refine h_iconst (v := zI 0) hC dX10_node_52 rfl ?_
  obtain ⟨o41, h42⟩ := h36
  refine yr_add (j := 13) hC hr o33 hZ34 (by decide) (by decide) (by decide) o41 cl_X10_46 rfl (Nat.le_of_ble_eq_true rfl) (hFr_of (Nat.le_of_ble_eq_true rfl) (Nat.le_of_ble_eq_true rfl)) dX10_node_53 (fun u37 S38 o39 hZ40 => ?_)
  refine h_aload_n hC dX10_node_56 rfl ?_
  refine h_get hC fl_X10_15 (hZ40.w.o 2 (by decide)) rfl dX10_node_57 ?_
  refine yr_size (j := 7) (e := ((yz (yadd A0 7 a0) 7 : Nat) : Int)) hC hr o39 hZ40 (by decide) rfl cl_X10_49 rfl (Nat.le_of_ble_eq_true rfl) (hFr_of (Nat.le_of_ble_eq_true rfl) (Nat.le_of_ble_eq_true rfl)) dX10_node_60 ?_
  refine h_iconst (v := zI 1) hC dX10_node_63 rfl ?_
  refine yr_isub hC dX10_node_64 ?_
  obtain ⟨o43, h44⟩ := h42
  exact yr_iret hC hr o39 hZ40 o43 h44 dX10_node_65
def wc_Tree_clear (A0 : cS)  (Q : cS → Prop) : Prop :=
  wc_Tree_node (ycut (ycut (ycut (ycut (ycut (ycut (ycut A0 7 0) 8 0) 9 0) 10 0) 11 0) 12 0) 13 0) 0 0 0 (fun r29 A30 => Q A30)
set_option maxHeartbeats 4000000 in
set_option maxRecDepth 100000 in
theorem cm_Tree_clear (l : Launch) (d : gD) (b : Nat) {Y : gYt} {c : Nat × Nat} {F : gM} {k n : Nat} {S : gSt} {A0 : cS}   {Q : cS → Prop} (hZ : yZ d b Y c F S (F, k, n) S A0) (hw : wc_Tree_clear A0  Q) : hMv l d b yX10_clear cX10_clear 1 4 k n F [.ref (gO' Y 2)] (yPv d b Y c F S Q) := by
  intro mc ms
  refine hM_of2 rfl (nL := 1) (Nat.le_of_ble_eq_true rfl) ?_
  intro X hX hC hr ho; subst hX
  show yG X d b (yQv X d b Y c F S mc ms Q) (F, k, n) 0 [some (.ref (gO' Y 2))] []
  unfold wc_Tree_clear at hw
  refine h_aload_n hC dX10_clear_0 rfl ?_
  refine h_get hC fl_X10_15 (hZ.w.o 2 (by decide)) rfl dX10_clear_1 ?_
  refine h_iconst (v := zI 0) hC dX10_clear_4 rfl ?_
  refine yr_cut (j := 7) hC hr ho hZ (by decide) (by decide) cl_X10_39 rfl (Nat.le_of_ble_eq_true rfl) (hFr_of (Nat.le_of_ble_eq_true rfl) (Nat.le_of_ble_eq_true rfl)) dX10_clear_5 (fun u1 S2 o3 hZ4 => ?_)
  refine h_aload_n hC dX10_clear_8 rfl ?_
  refine h_get hC fl_X10_21 (hZ4.w.o 2 (by decide)) rfl dX10_clear_9 ?_
  refine h_iconst (v := zI 0) hC dX10_clear_12 rfl ?_
  refine yr_cut (j := 8) hC hr o3 hZ4 (by decide) (by decide) cl_X10_39 rfl (Nat.le_of_ble_eq_true rfl) (hFr_of (Nat.le_of_ble_eq_true rfl) (Nat.le_of_ble_eq_true rfl)) dX10_clear_13 (fun u5 S6 o7 hZ8 => ?_)
  refine h_aload_n hC dX10_clear_16 rfl ?_
  refine h_get hC fl_X10_24 (hZ8.w.o 2 (by decide)) rfl dX10_clear_17 ?_
  refine h_iconst (v := zI 0) hC dX10_clear_20 rfl ?_
  refine yr_cut (j := 9) hC hr o7 hZ8 (by decide) (by decide) cl_X10_39 rfl (Nat.le_of_ble_eq_true rfl) (hFr_of (Nat.le_of_ble_eq_true rfl) (Nat.le_of_ble_eq_true rfl)) dX10_clear_21 (fun u9 S10 o11 hZ12 => ?_)
  refine h_aload_n hC dX10_clear_24 rfl ?_
  refine h_get hC fl_X10_27 (hZ12.w.o 2 (by decide)) rfl dX10_clear_25 ?_
  refine h_iconst (v := zI 0) hC dX10_clear_28 rfl ?_
  refine yr_cut (j := 10) hC hr o11 hZ12 (by decide) (by decide) cl_X10_39 rfl (Nat.le_of_ble_eq_true rfl) (hFr_of (Nat.le_of_ble_eq_true rfl) (Nat.le_of_ble_eq_true rfl)) dX10_clear_29 (fun u13 S14 o15 hZ16 => ?_)
  refine h_aload_n hC dX10_clear_32 rfl ?_
  refine h_get hC fl_X10_30 (hZ16.w.o 2 (by decide)) rfl dX10_clear_33 ?_
  refine h_iconst (v := zI 0) hC dX10_clear_36 rfl ?_
  refine yr_cut (j := 11) hC hr o15 hZ16 (by decide) (by decide) cl_X10_39 rfl (Nat.le_of_ble_eq_true rfl) (hFr_of (Nat.le_of_ble_eq_true rfl) (Nat.le_of_ble_eq_true rfl)) dX10_clear_37 (fun u17 S18 o19 hZ20 => ?_)
  refine h_aload_n hC dX10_clear_40 rfl ?_
  refine h_get hC fl_X10_33 (hZ20.w.o 2 (by decide)) rfl dX10_clear_41 ?_
  refine h_iconst (v := zI 0) hC dX10_clear_44 rfl ?_
  refine yr_cut (j := 12) hC hr o19 hZ20 (by decide) (by decide) cl_X10_39 rfl (Nat.le_of_ble_eq_true rfl) (hFr_of (Nat.le_of_ble_eq_true rfl) (Nat.le_of_ble_eq_true rfl)) dX10_clear_45 (fun u21 S22 o23 hZ24 => ?_)
  refine h_aload_n hC dX10_clear_48 rfl ?_
  refine h_get hC fl_X10_36 (hZ24.w.o 2 (by decide)) rfl dX10_clear_49 ?_
  refine h_iconst (v := zI 0) hC dX10_clear_52 rfl ?_
  refine yr_cut (j := 13) hC hr o23 hZ24 (by decide) (by decide) cl_X10_39 rfl (Nat.le_of_ble_eq_true rfl) (hFr_of (Nat.le_of_ble_eq_true rfl) (Nat.le_of_ble_eq_true rfl)) dX10_clear_53 (fun u25 S26 o27 hZ28 => ?_)
  refine h_aload_n hC dX10_clear_56 rfl ?_
  refine h_iconst (v := zI 0) hC dX10_clear_57 rfl ?_
  refine h_iconst (v := zI 0) hC dX10_clear_58 rfl ?_
  refine h_iconst (v := zI 0) hC dX10_clear_59 rfl ?_
  refine yr_callVi (As := [.int (zI 0), .int (zI 0), .int (zI 0)]) hC hr o27 hZ28 rfl (hZ28.w.o 2 (by decide)) (cm_Tree_node X.la d b (by decide) (by decide) (by decide) hZ28.rs hw) cl_X10_42 rfl rfl (Nat.le_of_ble_eq_true rfl) (hFr_of (Nat.le_of_ble_eq_true rfl) (Nat.le_of_ble_eq_true rfl)) dX10_clear_60 (fun r29 A30 u31 S32 R33 o34 hZ35 h36 => ?_)
  refine h_pop hC dX10_clear_63 rfl ?_
  exact yr_vret hC hr o34 hZ35 h36 dX10_clear_64
def wc_Tree_hang (A0 : cS) (a0 : Int) (a1 : Int) (Q : cS → Prop) : Prop :=
  ((¬ (yget A0 11 a0) = 0 → Q (yset (yset A0 13 (yget A0 12 a0) a1) 12 a0 a1)) ∧ ((yget A0 11 a0) = 0 → Q (yset (yset A0 11 a0 a1) 12 a0 a1)))
set_option maxHeartbeats 4000000 in
set_option maxRecDepth 100000 in
theorem cm_Tree_hang (l : Launch) (d : gD) (b : Nat) {Y : gYt} {c : Nat × Nat} {F : gM} {k n : Nat} {S : gSt} {A0 : cS} {a0 : Int} {a1 : Int} (Ra0 : zR a0) (Ra1 : zR a1) {Q : cS → Prop} (hZ : yZ d b Y c F S (F, k, n) S A0) (hw : wc_Tree_hang A0 a0 a1 Q) : hMv l d b yX10_hang cX10_hang 3 1 k n F [.ref (gO' Y 2), .int (zI a0), .int (zI a1)] (yPv d b Y c F S Q) := by
  intro mc ms
  refine hM_of2 rfl (nL := 3) (Nat.le_of_ble_eq_true rfl) ?_
  intro X hX hC hr ho; subst hX
  show yG X d b (yQv X d b Y c F S mc ms Q) (F, k, n) 0 [some (.ref (gO' Y 2)), some (.int (zI a0)), some (.int (zI a1))] []
  unfold wc_Tree_hang at hw
  refine h_aload_n hC dX10_hang_0 rfl ?_
  refine h_get hC fl_X10_30 (hZ.w.o 2 (by decide)) rfl dX10_hang_1 ?_
  refine h_iload_n hC dX10_hang_4 rfl ?_
  refine yr_get (j := 11) (e := (yget A0 11 a0)) hC hr ho hZ (by decide) Ra0 rfl cl_X10_53 rfl (Nat.le_of_ble_eq_true rfl) (hFr_of (Nat.le_of_ble_eq_true rfl) (Nat.le_of_ble_eq_true rfl)) dX10_hang_5 ?_
  refine yr_if_ne (tgt := 23) hC (hZ.rg 11 _) dX10_hang_8 (by decide) (fun c1 => ?_) (fun c1 => ?_)
  · have h2 := hw.1 c1
    refine h_aload_n hC dX10_hang_23 rfl ?_
    refine h_get hC fl_X10_36 (hZ.w.o 2 (by decide)) rfl dX10_hang_24 ?_
    refine h_aload_n hC dX10_hang_27 rfl ?_
    refine h_get hC fl_X10_33 (hZ.w.o 2 (by decide)) rfl dX10_hang_28 ?_
    refine h_iload_n hC dX10_hang_31 rfl ?_
    refine yr_get (j := 12) (e := (yget A0 12 a0)) hC hr ho hZ (by decide) Ra0 rfl cl_X10_53 rfl (Nat.le_of_ble_eq_true rfl) (hFr_of (Nat.le_of_ble_eq_true rfl) (Nat.le_of_ble_eq_true rfl)) dX10_hang_32 ?_
    refine h_iload_n hC dX10_hang_35 rfl ?_
    refine yr_set (j := 13) hC hr ho hZ (by decide) (hZ.rg 12 _) Ra1 cl_X10_57 rfl (Nat.le_of_ble_eq_true rfl) (hFr_of (Nat.le_of_ble_eq_true rfl) (Nat.le_of_ble_eq_true rfl)) dX10_hang_36 (fun u3 S4 o5 hZ6 => ?_)
    refine h_aload_n hC dX10_hang_39 rfl ?_
    refine h_get hC fl_X10_33 (hZ6.w.o 2 (by decide)) rfl dX10_hang_40 ?_
    refine h_iload_n hC dX10_hang_43 rfl ?_
    refine h_iload_n hC dX10_hang_44 rfl ?_
    refine yr_set (j := 12) hC hr o5 hZ6 (by decide) Ra0 Ra1 cl_X10_57 rfl (Nat.le_of_ble_eq_true rfl) (hFr_of (Nat.le_of_ble_eq_true rfl) (Nat.le_of_ble_eq_true rfl)) dX10_hang_45 (fun u7 S8 o9 hZ10 => ?_)
    exact yr_vret hC hr o9 hZ10 h2 dX10_hang_48
  · have h11 := hw.2 c1
    refine h_aload_n hC dX10_hang_11 rfl ?_
    refine h_get hC fl_X10_30 (hZ.w.o 2 (by decide)) rfl dX10_hang_12 ?_
    refine h_iload_n hC dX10_hang_15 rfl ?_
    refine h_iload_n hC dX10_hang_16 rfl ?_
    refine yr_set (j := 11) hC hr ho hZ (by decide) Ra0 Ra1 cl_X10_57 rfl (Nat.le_of_ble_eq_true rfl) (hFr_of (Nat.le_of_ble_eq_true rfl) (Nat.le_of_ble_eq_true rfl)) dX10_hang_17 (fun u12 S13 o14 hZ15 => ?_)
    refine h_goto (tgt := 39) hC dX10_hang_20 (by decide) ?_
    refine h_aload_n hC dX10_hang_39 rfl ?_
    refine h_get hC fl_X10_33 (hZ15.w.o 2 (by decide)) rfl dX10_hang_40 ?_
    refine h_iload_n hC dX10_hang_43 rfl ?_
    refine h_iload_n hC dX10_hang_44 rfl ?_
    refine yr_set (j := 12) hC hr o14 hZ15 (by decide) Ra0 Ra1 cl_X10_57 rfl (Nat.le_of_ble_eq_true rfl) (hFr_of (Nat.le_of_ble_eq_true rfl) (Nat.le_of_ble_eq_true rfl)) dX10_hang_45 (fun u16 S17 o18 hZ19 => ?_)
    exact yr_vret hC hr o18 hZ19 h11 dX10_hang_48
def wc_Tree_kind (A0 : cS) (a0 : Int) (Q : Int → cS → Prop) : Prop :=
  Q (yget A0 7 a0) A0
set_option maxHeartbeats 4000000 in
set_option maxRecDepth 100000 in
theorem cm_Tree_kind (l : Launch) (d : gD) (b : Nat) {Y : gYt} {c : Nat × Nat} {F : gM} {k n : Nat} {S : gSt} {A0 : cS} {a0 : Int} (Ra0 : zR a0) {Q : Int → cS → Prop} (hZ : yZ d b Y c F S (F, k, n) S A0) (hw : wc_Tree_kind A0 a0 Q) : hMi l d b yX10_kind cX10_kind 2 .int 1 k n F [.ref (gO' Y 2), .int (zI a0)] (yPi d b Y c F S Q) := by
  intro mc ms
  refine hM_of2 rfl (nL := 2) (Nat.le_of_ble_eq_true rfl) ?_
  intro X hX hC hr ho; subst hX
  show yG X d b (yQi X d b Y c F S mc ms Q) (F, k, n) 0 [some (.ref (gO' Y 2)), some (.int (zI a0))] []
  unfold wc_Tree_kind at hw
  refine h_aload_n hC dX10_kind_0 rfl ?_
  refine h_get hC fl_X10_15 (hZ.w.o 2 (by decide)) rfl dX10_kind_1 ?_
  refine h_iload_n hC dX10_kind_4 rfl ?_
  refine yr_get (j := 7) (e := (yget A0 7 a0)) hC hr ho hZ (by decide) Ra0 rfl cl_X10_53 rfl (Nat.le_of_ble_eq_true rfl) (hFr_of (Nat.le_of_ble_eq_true rfl) (Nat.le_of_ble_eq_true rfl)) dX10_kind_5 ?_
  exact yr_iret hC hr ho hZ (hZ.rg 7 _) hw dX10_kind_8
def wc_Tree_place (A0 : cS) (a0 : Int) (Q : Int → cS → Prop) : Prop :=
  Q (yget A0 8 a0) A0
set_option maxHeartbeats 4000000 in
set_option maxRecDepth 100000 in
theorem cm_Tree_place (l : Launch) (d : gD) (b : Nat) {Y : gYt} {c : Nat × Nat} {F : gM} {k n : Nat} {S : gSt} {A0 : cS} {a0 : Int} (Ra0 : zR a0) {Q : Int → cS → Prop} (hZ : yZ d b Y c F S (F, k, n) S A0) (hw : wc_Tree_place A0 a0 Q) : hMi l d b yX10_place cX10_place 2 .int 1 k n F [.ref (gO' Y 2), .int (zI a0)] (yPi d b Y c F S Q) := by
  intro mc ms
  refine hM_of2 rfl (nL := 2) (Nat.le_of_ble_eq_true rfl) ?_
  intro X hX hC hr ho; subst hX
  show yG X d b (yQi X d b Y c F S mc ms Q) (F, k, n) 0 [some (.ref (gO' Y 2)), some (.int (zI a0))] []
  unfold wc_Tree_place at hw
  refine h_aload_n hC dX10_place_0 rfl ?_
  refine h_get hC fl_X10_21 (hZ.w.o 2 (by decide)) rfl dX10_place_1 ?_
  refine h_iload_n hC dX10_place_4 rfl ?_
  refine yr_get (j := 8) (e := (yget A0 8 a0)) hC hr ho hZ (by decide) Ra0 rfl cl_X10_53 rfl (Nat.le_of_ble_eq_true rfl) (hFr_of (Nat.le_of_ble_eq_true rfl) (Nat.le_of_ble_eq_true rfl)) dX10_place_5 ?_
  exact yr_iret hC hr ho hZ (hZ.rg 8 _) hw dX10_place_8
def wc_Tree_data (A0 : cS) (a0 : Int) (Q : Int → cS → Prop) : Prop :=
  Q (yget A0 9 a0) A0
set_option maxHeartbeats 4000000 in
set_option maxRecDepth 100000 in
theorem cm_Tree_data (l : Launch) (d : gD) (b : Nat) {Y : gYt} {c : Nat × Nat} {F : gM} {k n : Nat} {S : gSt} {A0 : cS} {a0 : Int} (Ra0 : zR a0) {Q : Int → cS → Prop} (hZ : yZ d b Y c F S (F, k, n) S A0) (hw : wc_Tree_data A0 a0 Q) : hMi l d b yX10_data cX10_data 2 .int 1 k n F [.ref (gO' Y 2), .int (zI a0)] (yPi d b Y c F S Q) := by
  intro mc ms
  refine hM_of2 rfl (nL := 2) (Nat.le_of_ble_eq_true rfl) ?_
  intro X hX hC hr ho; subst hX
  show yG X d b (yQi X d b Y c F S mc ms Q) (F, k, n) 0 [some (.ref (gO' Y 2)), some (.int (zI a0))] []
  unfold wc_Tree_data at hw
  refine h_aload_n hC dX10_data_0 rfl ?_
  refine h_get hC fl_X10_24 (hZ.w.o 2 (by decide)) rfl dX10_data_1 ?_
  refine h_iload_n hC dX10_data_4 rfl ?_
  refine yr_get (j := 9) (e := (yget A0 9 a0)) hC hr ho hZ (by decide) Ra0 rfl cl_X10_53 rfl (Nat.le_of_ble_eq_true rfl) (hFr_of (Nat.le_of_ble_eq_true rfl) (Nat.le_of_ble_eq_true rfl)) dX10_data_5 ?_
  exact yr_iret hC hr ho hZ (hZ.rg 9 _) hw dX10_data_8
def wc_Tree_extra (A0 : cS) (a0 : Int) (Q : Int → cS → Prop) : Prop :=
  Q (yget A0 10 a0) A0
set_option maxHeartbeats 4000000 in
set_option maxRecDepth 100000 in
theorem cm_Tree_extra (l : Launch) (d : gD) (b : Nat) {Y : gYt} {c : Nat × Nat} {F : gM} {k n : Nat} {S : gSt} {A0 : cS} {a0 : Int} (Ra0 : zR a0) {Q : Int → cS → Prop} (hZ : yZ d b Y c F S (F, k, n) S A0) (hw : wc_Tree_extra A0 a0 Q) : hMi l d b yX10_extra cX10_extra 2 .int 1 k n F [.ref (gO' Y 2), .int (zI a0)] (yPi d b Y c F S Q) := by
  intro mc ms
  refine hM_of2 rfl (nL := 2) (Nat.le_of_ble_eq_true rfl) ?_
  intro X hX hC hr ho; subst hX
  show yG X d b (yQi X d b Y c F S mc ms Q) (F, k, n) 0 [some (.ref (gO' Y 2)), some (.int (zI a0))] []
  unfold wc_Tree_extra at hw
  refine h_aload_n hC dX10_extra_0 rfl ?_
  refine h_get hC fl_X10_27 (hZ.w.o 2 (by decide)) rfl dX10_extra_1 ?_
  refine h_iload_n hC dX10_extra_4 rfl ?_
  refine yr_get (j := 10) (e := (yget A0 10 a0)) hC hr ho hZ (by decide) Ra0 rfl cl_X10_53 rfl (Nat.le_of_ble_eq_true rfl) (hFr_of (Nat.le_of_ble_eq_true rfl) (Nat.le_of_ble_eq_true rfl)) dX10_extra_5 ?_
  exact yr_iret hC hr ho hZ (hZ.rg 10 _) hw dX10_extra_8
def wc_Tree_first (A0 : cS) (a0 : Int) (Q : Int → cS → Prop) : Prop :=
  Q (yget A0 11 a0) A0
set_option maxHeartbeats 4000000 in
set_option maxRecDepth 100000 in
theorem cm_Tree_first (l : Launch) (d : gD) (b : Nat) {Y : gYt} {c : Nat × Nat} {F : gM} {k n : Nat} {S : gSt} {A0 : cS} {a0 : Int} (Ra0 : zR a0) {Q : Int → cS → Prop} (hZ : yZ d b Y c F S (F, k, n) S A0) (hw : wc_Tree_first A0 a0 Q) : hMi l d b yX10_first cX10_first 2 .int 1 k n F [.ref (gO' Y 2), .int (zI a0)] (yPi d b Y c F S Q) := by
  intro mc ms
  refine hM_of2 rfl (nL := 2) (Nat.le_of_ble_eq_true rfl) ?_
  intro X hX hC hr ho; subst hX
  show yG X d b (yQi X d b Y c F S mc ms Q) (F, k, n) 0 [some (.ref (gO' Y 2)), some (.int (zI a0))] []
  unfold wc_Tree_first at hw
  refine h_aload_n hC dX10_first_0 rfl ?_
  refine h_get hC fl_X10_30 (hZ.w.o 2 (by decide)) rfl dX10_first_1 ?_
  refine h_iload_n hC dX10_first_4 rfl ?_
  refine yr_get (j := 11) (e := (yget A0 11 a0)) hC hr ho hZ (by decide) Ra0 rfl cl_X10_53 rfl (Nat.le_of_ble_eq_true rfl) (hFr_of (Nat.le_of_ble_eq_true rfl) (Nat.le_of_ble_eq_true rfl)) dX10_first_5 ?_
  exact yr_iret hC hr ho hZ (hZ.rg 11 _) hw dX10_first_8
def wc_Tree_last (A0 : cS) (a0 : Int) (Q : Int → cS → Prop) : Prop :=
  Q (yget A0 12 a0) A0
set_option maxHeartbeats 4000000 in
set_option maxRecDepth 100000 in
theorem cm_Tree_last (l : Launch) (d : gD) (b : Nat) {Y : gYt} {c : Nat × Nat} {F : gM} {k n : Nat} {S : gSt} {A0 : cS} {a0 : Int} (Ra0 : zR a0) {Q : Int → cS → Prop} (hZ : yZ d b Y c F S (F, k, n) S A0) (hw : wc_Tree_last A0 a0 Q) : hMi l d b yX10_last cX10_last 2 .int 1 k n F [.ref (gO' Y 2), .int (zI a0)] (yPi d b Y c F S Q) := by
  intro mc ms
  refine hM_of2 rfl (nL := 2) (Nat.le_of_ble_eq_true rfl) ?_
  intro X hX hC hr ho; subst hX
  show yG X d b (yQi X d b Y c F S mc ms Q) (F, k, n) 0 [some (.ref (gO' Y 2)), some (.int (zI a0))] []
  unfold wc_Tree_last at hw
  refine h_aload_n hC dX10_last_0 rfl ?_
  refine h_get hC fl_X10_33 (hZ.w.o 2 (by decide)) rfl dX10_last_1 ?_
  refine h_iload_n hC dX10_last_4 rfl ?_
  refine yr_get (j := 12) (e := (yget A0 12 a0)) hC hr ho hZ (by decide) Ra0 rfl cl_X10_53 rfl (Nat.le_of_ble_eq_true rfl) (hFr_of (Nat.le_of_ble_eq_true rfl) (Nat.le_of_ble_eq_true rfl)) dX10_last_5 ?_
  exact yr_iret hC hr ho hZ (hZ.rg 12 _) hw dX10_last_8
def wc_Tree_next (A0 : cS) (a0 : Int) (Q : Int → cS → Prop) : Prop :=
  Q (yget A0 13 a0) A0
set_option maxHeartbeats 4000000 in
set_option maxRecDepth 100000 in
theorem cm_Tree_next (l : Launch) (d : gD) (b : Nat) {Y : gYt} {c : Nat × Nat} {F : gM} {k n : Nat} {S : gSt} {A0 : cS} {a0 : Int} (Ra0 : zR a0) {Q : Int → cS → Prop} (hZ : yZ d b Y c F S (F, k, n) S A0) (hw : wc_Tree_next A0 a0 Q) : hMi l d b yX10_next cX10_next 2 .int 1 k n F [.ref (gO' Y 2), .int (zI a0)] (yPi d b Y c F S Q) := by
  intro mc ms
  refine hM_of2 rfl (nL := 2) (Nat.le_of_ble_eq_true rfl) ?_
  intro X hX hC hr ho; subst hX
  show yG X d b (yQi X d b Y c F S mc ms Q) (F, k, n) 0 [some (.ref (gO' Y 2)), some (.int (zI a0))] []
  unfold wc_Tree_next at hw
  refine h_aload_n hC dX10_next_0 rfl ?_
  refine h_get hC fl_X10_36 (hZ.w.o 2 (by decide)) rfl dX10_next_1 ?_
  refine h_iload_n hC dX10_next_4 rfl ?_
  refine yr_get (j := 13) (e := (yget A0 13 a0)) hC hr ho hZ (by decide) Ra0 rfl cl_X10_53 rfl (Nat.le_of_ble_eq_true rfl) (hFr_of (Nat.le_of_ble_eq_true rfl) (Nat.le_of_ble_eq_true rfl)) dX10_next_5 ?_
  exact yr_iret hC hr ho hZ (hZ.rg 13 _) hw dX10_next_8
def wc_Tree_setKind (A0 : cS) (a0 : Int) (a1 : Int) (Q : cS → Prop) : Prop :=
  Q (yset A0 7 a0 a1)
set_option maxHeartbeats 4000000 in
set_option maxRecDepth 100000 in
theorem cm_Tree_setKind (l : Launch) (d : gD) (b : Nat) {Y : gYt} {c : Nat × Nat} {F : gM} {k n : Nat} {S : gSt} {A0 : cS} {a0 : Int} {a1 : Int} (Ra0 : zR a0) (Ra1 : zR a1) {Q : cS → Prop} (hZ : yZ d b Y c F S (F, k, n) S A0) (hw : wc_Tree_setKind A0 a0 a1 Q) : hMv l d b yX10_setKind cX10_setKind 3 1 k n F [.ref (gO' Y 2), .int (zI a0), .int (zI a1)] (yPv d b Y c F S Q) := by
  intro mc ms
  refine hM_of2 rfl (nL := 3) (Nat.le_of_ble_eq_true rfl) ?_
  intro X hX hC hr ho; subst hX
  show yG X d b (yQv X d b Y c F S mc ms Q) (F, k, n) 0 [some (.ref (gO' Y 2)), some (.int (zI a0)), some (.int (zI a1))] []
  unfold wc_Tree_setKind at hw
  refine h_aload_n hC dX10_setKind_0 rfl ?_
  refine h_get hC fl_X10_15 (hZ.w.o 2 (by decide)) rfl dX10_setKind_1 ?_
  refine h_iload_n hC dX10_setKind_4 rfl ?_
  refine h_iload_n hC dX10_setKind_5 rfl ?_
  refine yr_set (j := 7) hC hr ho hZ (by decide) Ra0 Ra1 cl_X10_57 rfl (Nat.le_of_ble_eq_true rfl) (hFr_of (Nat.le_of_ble_eq_true rfl) (Nat.le_of_ble_eq_true rfl)) dX10_setKind_6 (fun u1 S2 o3 hZ4 => ?_)
  exact yr_vret hC hr o3 hZ4 hw dX10_setKind_9
def wc_Tree_setData (A0 : cS) (a0 : Int) (a1 : Int) (Q : cS → Prop) : Prop :=
  Q (yset A0 9 a0 a1)
set_option maxHeartbeats 4000000 in
set_option maxRecDepth 100000 in
theorem cm_Tree_setData (l : Launch) (d : gD) (b : Nat) {Y : gYt} {c : Nat × Nat} {F : gM} {k n : Nat} {S : gSt} {A0 : cS} {a0 : Int} {a1 : Int} (Ra0 : zR a0) (Ra1 : zR a1) {Q : cS → Prop} (hZ : yZ d b Y c F S (F, k, n) S A0) (hw : wc_Tree_setData A0 a0 a1 Q) : hMv l d b yX10_setData cX10_setData 3 1 k n F [.ref (gO' Y 2), .int (zI a0), .int (zI a1)] (yPv d b Y c F S Q) := by
  intro mc ms
  refine hM_of2 rfl (nL := 3) (Nat.le_of_ble_eq_true rfl) ?_
  intro X hX hC hr ho; subst hX
  show yG X d b (yQv X d b Y c F S mc ms Q) (F, k, n) 0 [some (.ref (gO' Y 2)), some (.int (zI a0)), some (.int (zI a1))] []
  unfold wc_Tree_setData at hw
  refine h_aload_n hC dX10_setData_0 rfl ?_
  refine h_get hC fl_X10_24 (hZ.w.o 2 (by decide)) rfl dX10_setData_1 ?_
  refine h_iload_n hC dX10_setData_4 rfl ?_
  refine h_iload_n hC dX10_setData_5 rfl ?_
  refine yr_set (j := 9) hC hr ho hZ (by decide) Ra0 Ra1 cl_X10_57 rfl (Nat.le_of_ble_eq_true rfl) (hFr_of (Nat.le_of_ble_eq_true rfl) (Nat.le_of_ble_eq_true rfl)) dX10_setData_6 (fun u1 S2 o3 hZ4 => ?_)
  exact yr_vret hC hr o3 hZ4 hw dX10_setData_9
def wc_Tree_setExtra (A0 : cS) (a0 : Int) (a1 : Int) (Q : cS → Prop) : Prop :=
  Q (yset A0 10 a0 a1)
set_option maxHeartbeats 4000000 in
set_option maxRecDepth 100000 in
theorem cm_Tree_setExtra (l : Launch) (d : gD) (b : Nat) {Y : gYt} {c : Nat × Nat} {F : gM} {k n : Nat} {S : gSt} {A0 : cS} {a0 : Int} {a1 : Int} (Ra0 : zR a0) (Ra1 : zR a1) {Q : cS → Prop} (hZ : yZ d b Y c F S (F, k, n) S A0) (hw : wc_Tree_setExtra A0 a0 a1 Q) : hMv l d b yX10_setExtra cX10_setExtra 3 1 k n F [.ref (gO' Y 2), .int (zI a0), .int (zI a1)] (yPv d b Y c F S Q) := by
  intro mc ms
  refine hM_of2 rfl (nL := 3) (Nat.le_of_ble_eq_true rfl) ?_
  intro X hX hC hr ho; subst hX
  show yG X d b (yQv X d b Y c F S mc ms Q) (F, k, n) 0 [some (.ref (gO' Y 2)), some (.int (zI a0)), some (.int (zI a1))] []
  unfold wc_Tree_setExtra at hw
  refine h_aload_n hC dX10_setExtra_0 rfl ?_
  refine h_get hC fl_X10_27 (hZ.w.o 2 (by decide)) rfl dX10_setExtra_1 ?_
  refine h_iload_n hC dX10_setExtra_4 rfl ?_
  refine h_iload_n hC dX10_setExtra_5 rfl ?_
  refine yr_set (j := 10) hC hr ho hZ (by decide) Ra0 Ra1 cl_X10_57 rfl (Nat.le_of_ble_eq_true rfl) (hFr_of (Nat.le_of_ble_eq_true rfl) (Nat.le_of_ble_eq_true rfl)) dX10_setExtra_6 (fun u1 S2 o3 hZ4 => ?_)
  exact yr_vret hC hr o3 hZ4 hw dX10_setExtra_9
def wc_Program_emit (A0 : cS) (a0 : Int) (a1 : Int) (Q : Int → cS → Prop) : Prop :=
  ((yz A0 1) < 40000) ∧ ((yz (yadd A0 1 a0) 1) < 40000) ∧ (zR (((yz (yadd (yadd A0 1 a0) 1 a1) 1 : Nat) : Int) - 1)) ∧ Q (((yz (yadd (yadd A0 1 a0) 1 a1) 1 : Nat) : Int) - 1) (yadd (yadd A0 1 a0) 1 a1)
set_option maxHeartbeats 4000000 in
set_option maxRecDepth 100000 in
theorem cm_Program_emit (l : Launch) (d : gD) (b : Nat) {Y : gYt} {c : Nat × Nat} {F : gM} {k n : Nat} {S : gSt} {A0 : cS} {a0 : Int} {a1 : Int} (Ra0 : zR a0) (Ra1 : zR a1) {Q : Int → cS → Prop} (hZ : yZ d b Y c F S (F, k, n) S A0) (hw : wc_Program_emit A0 a0 a1 Q) : hMi l d b yX7_emit cX7_emit 3 .int 3 k n F [.ref (gO' Y 1), .int (zI a0), .int (zI a1)] (yPi d b Y c F S Q) := by
  intro mc ms
  refine hM_of2 rfl (nL := 3) (Nat.le_of_ble_eq_true rfl) ?_
  intro X hX hC hr ho; subst hX
  show yG X d b (yQi X d b Y c F S mc ms Q) (F, k, n) 0 [some (.ref (gO' Y 1)), some (.int (zI a0)), some (.int (zI a1))] []
  unfold wc_Program_emit at hw
  refine h_aload_n hC dX7_emit_0 rfl ?_
  refine h_get hC fl_X7_15 (hZ.w.o 1 (by decide)) rfl dX7_emit_1 ?_
  refine h_iload_n hC dX7_emit_4 rfl ?_
  obtain ⟨o5, h6⟩ := hw
  refine yr_add (j := 1) hC hr ho hZ (by decide) (by decide) Ra0 o5 cl_X7_56 rfl (Nat.le_of_ble_eq_true rfl) (hFr_of (Nat.le_of_ble_eq_true rfl) (Nat.le_of_ble_eq_true rfl)) dX7_emit_5 (fun u1 S2 o3 hZ4 => ?_)
  refine h_aload_n hC dX7_emit_8 rfl ?_
  refine h_get hC fl_X7_15 (hZ4.w.o 1 (by decide)) rfl dX7_emit_9 ?_
  refine h_iload_n hC dX7_emit_12 rfl ?_
  obtain ⟨o11, h12⟩ := h6
  refine yr_add (j := 1) hC hr o3 hZ4 (by decide) (by decide) Ra1 o11 cl_X7_56 rfl (Nat.le_of_ble_eq_true rfl) (hFr_of (Nat.le_of_ble_eq_true rfl) (Nat.le_of_ble_eq_true rfl)) dX7_emit_13 (fun u7 S8 o9 hZ10 => ?_)
  refine h_aload_n hC dX7_emit_16 rfl ?_
  refine h_get hC fl_X7_15 (hZ10.w.o 1 (by decide)) rfl dX7_emit_17 ?_
  refine yr_size (j := 1) (e := ((yz (yadd (yadd A0 1 a0) 1 a1) 1 : Nat) : Int)) hC hr o9 hZ10 (by decide) rfl cl_X7_67 rfl (Nat.le_of_ble_eq_true rfl) (hFr_of (Nat.le_of_ble_eq_true rfl) (Nat.le_of_ble_eq_true rfl)) dX7_emit_20 ?_
  refine h_iconst (v := zI 1) hC dX7_emit_23 rfl ?_
  refine yr_isub hC dX7_emit_24 ?_
  obtain ⟨o13, h14⟩ := h12
  exact yr_iret hC hr o9 hZ10 o13 h14 dX7_emit_25
def wc_Program_clear_50B (Q : cS → Prop) (k50 : cS → Int → Int → Prop) (A0 : cS) (x1 : Int) (x2 : Int) : Prop :=
  ((100 ≤ x2 → wc_Program_emit A0 0 0 (fun r3 A4 => Q (ypv (ypv (ypv (ypv (ypv A4 2 x1) 3 (-1)) 4 0) 5 0) 6 0))) ∧ (¬ 100 ≤ x2 → ((yz A0 2) < 80000) ∧ (zR (x2 + 1)) ∧ k50 (yadd A0 2 0) x1 (x2 + 1)))
def wc_Program_clear_50 (Q : cS → Prop)  : Nat → cS → Int → Int → Prop
  | 0 => fun _ _ _ => False
  | m + 1 => fun A0 x1 x2 => wc_Program_clear_50B Q  (wc_Program_clear_50 Q  m) A0 x1 x2
def wc_Program_clear (A0 : cS) (a0 : Int) (Q : cS → Prop) : Prop :=
  ∃ n, wc_Program_clear_50 Q  n (ycut (ycut (ycut (ycut (ycut (ycut A0 1 0) 2 0) 3 0) 4 0) 5 0) 6 0) a0 0
set_option maxHeartbeats 4000000 in
set_option maxRecDepth 100000 in
theorem cb_Program_clear_50 {X : gX} {d : gD} {b : Nat} {Y : gYt} {c : Nat × Nat} {F0 : gM} {S0 : gSt} {mc ms : Nat} (hC : gC RX7 cX7_clear 3 none "clear" (gR 4 mc ms) d b X) (hr : hRm X b) {Q : cS → Prop} {k50 : cS → Int → Int → Prop} (hk50 : ∀ (u : hU) (S : gSt) (A0 : cS) (x1 : Int) (x2 : Int), zR x1 → zR x2 → yOk X b u → yZ d b Y c F0 S0 u S A0 → k50 A0 x1 x2 → yG X d b (yQv X d b Y c F0 S0 mc ms Q) u 50 [some (.ref (gO' Y 1)), some (.int (zI x1)), some (.int (zI x2))] []) {u : hU} {S : gSt} {A0 : cS} {x1 : Int} {x2 : Int} (Rx1 : zR x1) (Rx2 : zR x2) (ho : yOk X b u) (hZ : yZ d b Y c F0 S0 u S A0) (hw : wc_Program_clear_50B Q k50 A0 x1 x2) : yG X d b (yQv X d b Y c F0 S0 mc ms Q) u 50 [some (.ref (gO' Y 1)), some (.int (zI x1)), some (.int (zI x2))] [] := by
  unfold wc_Program_clear_50B at hw
  refine h_iload_n hC dX7_clear_50 rfl ?_
  refine h_bipush (v := zI 100) hC dX7_clear_51 rfl ?_
  refine yr_icmp_ge (tgt := 70) hC Rx2 (by decide) dX7_clear_53 (by decide) (fun c1 => ?_) (fun c1 => ?_)
  · have h2 := hw.1 c1
    refine h_aload_n hC dX7_clear_70 rfl ?_
    refine h_iconst (v := zI 0) hC dX7_clear_71 rfl ?_
    refine h_iconst (v := zI 0) hC dX7_clear_72 rfl ?_
    refine yr_callVi (As := [.int (zI 0), .int (zI 0)]) hC hr ho hZ rfl (hZ.w.o 1 (by decide)) (cm_Program_emit X.la d b (by decide) (by decide) hZ.rs h2) cl_X7_59 rfl rfl (Nat.le_of_ble_eq_true rfl) (hFr_of (Nat.le_of_ble_eq_true rfl) (Nat.le_of_ble_eq_true rfl)) dX7_clear_73 (fun r3 A4 u5 S6 R7 o8 hZ9 h10 => ?_)
    refine h_pop hC dX7_clear_76 rfl ?_
    refine h_aload_n hC dX7_clear_77 rfl ?_
    refine h_iload_n hC dX7_clear_78 rfl ?_
    refine hi_putx (i := 1) (kx := 2) hC hZ9.hi (by decide) fl_X7_36 rfl rfl rfl (Nat.le_of_ble_eq_true rfl) rfl gsame_2 (fun q => absurd q (by decide)) dX7_clear_79 (fun F11 S12 I13 K14 s15 v16 p17 => ?_)
    have hZ18 := hZ9.put I13 K14 s15 v16 Rx1 rfl
    clear I13 K14 s15 v16 p17
    refine yr_nu o8 hZ18 (fun u19 o20 hZ21 => ?_)
    refine h_aload_n hC dX7_clear_82 rfl ?_
    refine h_iconst (v := zI (-1)) hC dX7_clear_83 rfl ?_
    refine hi_putx (i := 1) (kx := 3) hC hZ21.hi (by decide) fl_X7_40 rfl rfl rfl (Nat.le_of_ble_eq_true rfl) rfl gsame_3 (fun q => absurd q (by decide)) dX7_clear_84 (fun F22 S23 I24 K25 s26 v27 p28 => ?_)
    have hZ29 := hZ21.put I24 K25 s26 v27 (by decide) rfl
    clear I24 K25 s26 v27 p28
    refine yr_nu o20 hZ29 (fun u30 o31 hZ32 => ?_)
    refine h_aload_n hC dX7_clear_87 rfl ?_
    refine h_iconst (v := zI 0) hC dX7_clear_88 rfl ?_
    refine hi_putx (i := 1) (kx := 4) hC hZ32.hi (by decide) fl_X7_43 rfl rfl rfl (Nat.le_of_ble_eq_true rfl) rfl gsame_4 (fun q => absurd q (by decide)) dX7_clear_89 (fun F33 S34 I35 K36 s37 v38 p39 => ?_)
    have hZ40 := hZ32.put I35 K36 s37 v38 (by decide) rfl
    clear I35 K36 s37 v38 p39
    refine yr_nu o31 hZ40 (fun u41 o42 hZ43 => ?_)
    refine h_aload_n hC dX7_clear_92 rfl ?_
    refine h_iconst (v := zI 0) hC dX7_clear_93 rfl ?_
    refine hi_putx (i := 1) (kx := 5) hC hZ43.hi (by decide) fl_X7_46 rfl rfl rfl (Nat.le_of_ble_eq_true rfl) rfl gsame_5 (fun q => absurd q (by decide)) dX7_clear_94 (fun F44 S45 I46 K47 s48 v49 p50 => ?_)
    have hZ51 := hZ43.put I46 K47 s48 v49 (by decide) rfl
    clear I46 K47 s48 v49 p50
    refine yr_nu o42 hZ51 (fun u52 o53 hZ54 => ?_)
    refine h_aload_n hC dX7_clear_97 rfl ?_
    refine h_iconst (v := zI 0) hC dX7_clear_98 rfl ?_
    refine hi_putx (i := 1) (kx := 6) hC hZ54.hi (by decide) fl_X7_49 rfl (ynb (Or.inl rfl)) (yfb (Or.inl rfl)) (Nat.le_of_ble_eq_true rfl) rfl gsame_6 (fun _ => y01 (Or.inl rfl)) dX7_clear_99 (fun F55 S56 I57 K58 s59 v60 p61 => ?_)
    have hZ62 := hZ54.put I57 K58 s59 v60 (y01R (Or.inl rfl)) rfl
    clear I57 K58 s59 v60 p61
    refine yr_nu o53 hZ62 (fun u63 o64 hZ65 => ?_)
    exact yr_vret hC hr o64 hZ65 h10 dX7_clear_102
  · have h66 := hw.2 c1
    refine h_aload_n hC dX7_clear_56 rfl ?_
    refine h_get hC fl_X7_21 (hZ.w.o 1 (by decide)) rfl dX7_clear_57 ?_
    refine h_iconst (v := zI 0) hC dX7_clear_60 rfl ?_
    obtain ⟨o71, h72⟩ := h66
    refine yr_add (j := 2) hC hr ho hZ (by decide) (by decide) (by decide) o71 cl_X7_56 rfl (Nat.le_of_ble_eq_true rfl) (hFr_of (Nat.le_of_ble_eq_true rfl) (Nat.le_of_ble_eq_true rfl)) dX7_clear_61 (fun u67 S68 o69 hZ70 => ?_)
    refine yr_iinc (x := x2) (lv' := [some (.ref (gO' Y 1)), some (.int (zI x1)), some (.int (zI (x2 + 1)))]) hC dX7_clear_64 rfl rfl rfl ?_
    refine h_goto (tgt := 50) hC dX7_clear_67 (by decide) ?_
    obtain ⟨o73, h74⟩ := h72
    exact hk50 _ _ _ _ _ Rx1 o73 o69 hZ70 h74
theorem cl_Program_clear_50 {X : gX} {d : gD} {b : Nat} {Y : gYt} {c : Nat × Nat} {F0 : gM} {S0 : gSt} {mc ms : Nat} (hC : gC RX7 cX7_clear 3 none "clear" (gR 4 mc ms) d b X) (hr : hRm X b) {Q : cS → Prop}   : ∀ (m : Nat) (u : hU) (S : gSt) (A0 : cS) (x1 : Int) (x2 : Int), zR x1 → zR x2 → yOk X b u → yZ d b Y c F0 S0 u S A0 → wc_Program_clear_50 Q  m A0 x1 x2 → yG X d b (yQv X d b Y c F0 S0 mc ms Q) u 50 [some (.ref (gO' Y 1)), some (.int (zI x1)), some (.int (zI x2))] [] := by
  intro m
  induction m with
  | zero => intro u S A0 x1 x2 Rx1 Rx2 ho hZ hw; exact False.elim hw
  | succ m ihm => intro u S A0 x1 x2 Rx1 Rx2 ho hZ hw; exact cb_Program_clear_50 hC hr  ihm Rx1 Rx2 ho hZ hw
set_option maxHeartbeats 4000000 in
set_option maxRecDepth 100000 in
theorem cm_Program_clear (l : Launch) (d : gD) (b : Nat) {Y : gYt} {c : Nat × Nat} {F : gM} {k n : Nat} {S : gSt} {A0 : cS} {a0 : Int} (Ra0 : zR a0) {Q : cS → Prop} (hZ : yZ d b Y c F S (F, k, n) S A0) (hw : wc_Program_clear A0 a0 Q) : hMv l d b yX7_clear cX7_clear 3 4 k n F [.ref (gO' Y 1), .int (zI a0)] (yPv d b Y c F S Q) := by
  intro mc ms
  refine hM_of2 rfl (nL := 3) (Nat.le_of_ble_eq_true rfl) ?_
  intro X hX hC hr ho; subst hX
  show yG X d b (yQv X d b Y c F S mc ms Q) (F, k, n) 0 [some (.ref (gO' Y 1)), some (.int (zI a0)), none] []
  unfold wc_Program_clear at hw
  refine h_aload_n hC dX7_clear_0 rfl ?_
  refine h_get hC fl_X7_15 (hZ.w.o 1 (by decide)) rfl dX7_clear_1 ?_
  refine h_iconst (v := zI 0) hC dX7_clear_4 rfl ?_
  refine yr_cut (j := 1) hC hr ho hZ (by decide) (by decide) cl_X7_53 rfl (Nat.le_of_ble_eq_true rfl) (hFr_of (Nat.le_of_ble_eq_true rfl) (Nat.le_of_ble_eq_true rfl)) dX7_clear_5 (fun u1 S2 o3 hZ4 => ?_)
  refine h_aload_n hC dX7_clear_8 rfl ?_
  refine h_get hC fl_X7_21 (hZ4.w.o 1 (by decide)) rfl dX7_clear_9 ?_
  refine h_iconst (v := zI 0) hC dX7_clear_12 rfl ?_
  refine yr_cut (j := 2) hC hr o3 hZ4 (by decide) (by decide) cl_X7_53 rfl (Nat.le_of_ble_eq_true rfl) (hFr_of (Nat.le_of_ble_eq_true rfl) (Nat.le_of_ble_eq_true rfl)) dX7_clear_13 (fun u5 S6 o7 hZ8 => ?_)
  refine h_aload_n hC dX7_clear_16 rfl ?_
  refine h_get hC fl_X7_24 (hZ8.w.o 1 (by decide)) rfl dX7_clear_17 ?_
  refine h_iconst (v := zI 0) hC dX7_clear_20 rfl ?_
  refine yr_cut (j := 3) hC hr o7 hZ8 (by decide) (by decide) cl_X7_53 rfl (Nat.le_of_ble_eq_true rfl) (hFr_of (Nat.le_of_ble_eq_true rfl) (Nat.le_of_ble_eq_true rfl)) dX7_clear_21 (fun u9 S10 o11 hZ12 => ?_)
  refine h_aload_n hC dX7_clear_24 rfl ?_
  refine h_get hC fl_X7_27 (hZ12.w.o 1 (by decide)) rfl dX7_clear_25 ?_
  refine h_iconst (v := zI 0) hC dX7_clear_28 rfl ?_
  refine yr_cut (j := 4) hC hr o11 hZ12 (by decide) (by decide) cl_X7_53 rfl (Nat.le_of_ble_eq_true rfl) (hFr_of (Nat.le_of_ble_eq_true rfl) (Nat.le_of_ble_eq_true rfl)) dX7_clear_29 (fun u13 S14 o15 hZ16 => ?_)
  refine h_aload_n hC dX7_clear_32 rfl ?_
  refine h_get hC fl_X7_30 (hZ16.w.o 1 (by decide)) rfl dX7_clear_33 ?_
  refine h_iconst (v := zI 0) hC dX7_clear_36 rfl ?_
  refine yr_cut (j := 5) hC hr o15 hZ16 (by decide) (by decide) cl_X7_53 rfl (Nat.le_of_ble_eq_true rfl) (hFr_of (Nat.le_of_ble_eq_true rfl) (Nat.le_of_ble_eq_true rfl)) dX7_clear_37 (fun u17 S18 o19 hZ20 => ?_)
  refine h_aload_n hC dX7_clear_40 rfl ?_
  refine h_get hC fl_X7_33 (hZ20.w.o 1 (by decide)) rfl dX7_clear_41 ?_
  refine h_iconst (v := zI 0) hC dX7_clear_44 rfl ?_
  refine yr_cut (j := 6) hC hr o19 hZ20 (by decide) (by decide) cl_X7_53 rfl (Nat.le_of_ble_eq_true rfl) (hFr_of (Nat.le_of_ble_eq_true rfl) (Nat.le_of_ble_eq_true rfl)) dX7_clear_45 (fun u21 S22 o23 hZ24 => ?_)
  refine h_iconst (v := zI 0) hC dX7_clear_48 rfl ?_
  refine h_istore_n (lv' := [some (.ref (gO' Y 1)), some (.int (zI a0)), some (.int (zI 0))]) hC dX7_clear_49 (Nat.le_of_ble_eq_true rfl) rfl rfl ?_
  obtain ⟨m25, h26⟩ := hw
  exact cl_Program_clear_50 hC hr  m25 _ _ _ _ _ Ra0 (by decide) o23 hZ24 h26
def wc_Program_blame (A0 : cS) (a0 : Int) (a1 : Int) (Q : cS → Prop) : Prop :=
  ((a1 < (yv A0 5) → (((yv A0 4) = 0 → Q (ypv (ypv A0 4 a0) 5 a1)) ∧ (¬ (yv A0 4) = 0 → Q (ypv (ypv A0 4 a0) 5 a1)))) ∧ (¬ a1 < (yv A0 5) → ((¬ a1 = (yv A0 5) → (((yv A0 4) = 0 → Q (ypv (ypv A0 4 a0) 5 a1)) ∧ (¬ (yv A0 4) = 0 → Q A0))) ∧ (a1 = (yv A0 5) → (((yv A0 4) ≤ a0 → (((yv A0 4) = 0 → Q (ypv (ypv A0 4 a0) 5 a1)) ∧ (¬ (yv A0 4) = 0 → Q A0))) ∧ (¬ (yv A0 4) ≤ a0 → (((yv A0 4) = 0 → Q (ypv (ypv A0 4 a0) 5 a1)) ∧ (¬ (yv A0 4) = 0 → Q (ypv (ypv A0 4 a0) 5 a1)))))))))
set_option maxHeartbeats 4000000 in
set_option maxRecDepth 100000 in
theorem cm_Program_blame (l : Launch) (d : gD) (b : Nat) {Y : gYt} {c : Nat × Nat} {F : gM} {k n : Nat} {S : gSt} {A0 : cS} {a0 : Int} {a1 : Int} (Ra0 : zR a0) (Ra1 : zR a1) {Q : cS → Prop} (hZ : yZ d b Y c F S (F, k, n) S A0) (hw : wc_Program_blame A0 a0 a1 Q) : hMv l d b yX7_blame cX7_blame 4 0 k n F [.ref (gO' Y 1), .int (zI a0), .int (zI a1)] (yPv d b Y c F S Q) := by
  intro mc ms
  refine hM_of2 rfl (nL := 4) (Nat.le_of_ble_eq_true rfl) ?_
  intro X hX hC hr ho; subst hX
  show yG X d b (yQv X d b Y c F S mc ms Q) (F, k, n) 0 [some (.ref (gO' Y 1)), some (.int (zI a0)), some (.int (zI a1)), none] []
  unfold wc_Program_blame at hw
  refine h_iload_n hC dX7_blame_0 rfl ?_
  refine h_aload_n hC dX7_blame_1 rfl ?_
  refine h_get hC fl_X7_46 (hZ.w.o 1 (by decide)) rfl dX7_blame_2 ?_
  refine yr_sv (e := (yv A0 5)) hZ 5 rfl ?_
  refine yr_icmp_lt (tgt := 24) hC Ra1 (hZ.rv 5) dX7_blame_5 (by decide) (fun c1 => ?_) (fun c1 => ?_)
  · have h2 := hw.1 c1
    refine h_iconst (v := zI 1) hC dX7_blame_24 rfl ?_
    refine h_goto (tgt := 29) hC dX7_blame_25 (by decide) ?_
    refine h_istore_n (lv' := [some (.ref (gO' Y 1)), some (.int (zI a0)), some (.int (zI a1)), some (.int (zI 1))]) hC dX7_blame_29 (Nat.le_of_ble_eq_true rfl) rfl rfl ?_
    refine h_aload_n hC dX7_blame_30 rfl ?_
    refine h_get hC fl_X7_43 (hZ.w.o 1 (by decide)) rfl dX7_blame_31 ?_
    refine yr_sv (e := (yv A0 4)) hZ 4 rfl ?_
    refine yr_if_eq (tgt := 41) hC (hZ.rv 4) dX7_blame_34 (by decide) (fun c3 => ?_) (fun c3 => ?_)
    · have h4 := h2.1 c3
      refine h_aload_n hC dX7_blame_41 rfl ?_
      refine h_iload_n hC dX7_blame_42 rfl ?_
      refine hi_putx (i := 1) (kx := 4) hC hZ.hi (by decide) fl_X7_43 rfl rfl rfl (Nat.le_of_ble_eq_true rfl) rfl gsame_4 (fun q => absurd q (by decide)) dX7_blame_43 (fun F5 S6 I7 K8 s9 v10 p11 => ?_)
      have hZ12 := hZ.put I7 K8 s9 v10 Ra0 rfl
      clear I7 K8 s9 v10 p11
      refine yr_nu ho hZ12 (fun u13 o14 hZ15 => ?_)
      refine h_aload_n hC dX7_blame_46 rfl ?_
      refine h_iload_n hC dX7_blame_47 rfl ?_
      refine hi_putx (i := 1) (kx := 5) hC hZ15.hi (by decide) fl_X7_46 rfl rfl rfl (Nat.le_of_ble_eq_true rfl) rfl gsame_5 (fun q => absurd q (by decide)) dX7_blame_48 (fun F16 S17 I18 K19 s20 v21 p22 => ?_)
      have hZ23 := hZ15.put I18 K19 s20 v21 Ra1 rfl
      clear I18 K19 s20 v21 p22
      refine yr_nu o14 hZ23 (fun u24 o25 hZ26 => ?_)
      exact yr_vret hC hr o25 hZ26 h4 dX7_blame_51
    · have h27 := h2.2 c3
      refine h_iload_n hC dX7_blame_37 rfl ?_
      refine yr_if_eq (tgt := 51) hC (by decide) dX7_blame_38 (by decide) (fun c28 => ?_) (fun c28 => ?_)
      · exact absurd c28 (by decide)
      · refine h_aload_n hC dX7_blame_41 rfl ?_
        refine h_iload_n hC dX7_blame_42 rfl ?_
        refine hi_putx (i := 1) (kx := 4) hC hZ.hi (by decide) fl_X7_43 rfl rfl rfl (Nat.le_of_ble_eq_true rfl) rfl gsame_4 (fun q => absurd q (by decide)) dX7_blame_43 (fun F29 S30 I31 K32 s33 v34 p35 => ?_)
        have hZ36 := hZ.put I31 K32 s33 v34 Ra0 rfl
        clear I31 K32 s33 v34 p35
        refine yr_nu ho hZ36 (fun u37 o38 hZ39 => ?_)
        refine h_aload_n hC dX7_blame_46 rfl ?_
        refine h_iload_n hC dX7_blame_47 rfl ?_
        refine hi_putx (i := 1) (kx := 5) hC hZ39.hi (by decide) fl_X7_46 rfl rfl rfl (Nat.le_of_ble_eq_true rfl) rfl gsame_5 (fun q => absurd q (by decide)) dX7_blame_48 (fun F40 S41 I42 K43 s44 v45 p46 => ?_)
        have hZ47 := hZ39.put I42 K43 s44 v45 Ra1 rfl
        clear I42 K43 s44 v45 p46
        refine yr_nu o38 hZ47 (fun u48 o49 hZ50 => ?_)
        exact yr_vret hC hr o49 hZ50 h27 dX7_blame_51
  · have h51 := hw.2 c1
    refine h_iload_n hC dX7_blame_8 rfl ?_
    refine h_aload_n hC dX7_blame_9 rfl ?_
    refine h_get hC fl_X7_46 (hZ.w.o 1 (by decide)) rfl dX7_blame_10 ?_
    refine yr_sv (e := (yv A0 5)) hZ 5 rfl ?_
    refine yr_icmp_ne (tgt := 28) hC Ra1 (hZ.rv 5) dX7_blame_13 (by decide) (fun c52 => ?_) (fun c52 => ?_)
    · have h53 := h51.1 c52
      refine h_iconst (v := zI 0) hC dX7_blame_28 rfl ?_
      refine h_istore_n (lv' := [some (.ref (gO' Y 1)), some (.int (zI a0)), some (.int (zI a1)), some (.int (zI 0))]) hC dX7_blame_29 (Nat.le_of_ble_eq_true rfl) rfl rfl ?_
      refine h_aload_n hC dX7_blame_30 rfl ?_
      refine h_get hC fl_X7_43 (hZ.w.o 1 (by decide)) rfl dX7_blame_31 ?_
      refine yr_sv (e := (yv A0 4)) hZ 4 rfl ?_
      refine yr_if_eq (tgt := 41) hC (hZ.rv 4) dX7_blame_34 (by decide) (fun c54 => ?_) (fun c54 => ?_)
      · have h55 := h53.1 c54
        refine h_aload_n hC dX7_blame_41 rfl ?_
        refine h_iload_n hC dX7_blame_42 rfl ?_
        refine hi_putx (i := 1) (kx := 4) hC hZ.hi (by decide) fl_X7_43 rfl rfl rfl (Nat.le_of_ble_eq_true rfl) rfl gsame_4 (fun q => absurd q (by decide)) dX7_blame_43 (fun F56 S57 I58 K59 s60 v61 p62 => ?_)
        have hZ63 := hZ.put I58 K59 s60 v61 Ra0 rfl
        clear I58 K59 s60 v61 p62
        refine yr_nu ho hZ63 (fun u64 o65 hZ66 => ?_)
        refine h_aload_n hC dX7_blame_46 rfl ?_
        refine h_iload_n hC dX7_blame_47 rfl ?_
        refine hi_putx (i := 1) (kx := 5) hC hZ66.hi (by decide) fl_X7_46 rfl rfl rfl (Nat.le_of_ble_eq_true rfl) rfl gsame_5 (fun q => absurd q (by decide)) dX7_blame_48 (fun F67 S68 I69 K70 s71 v72 p73 => ?_)
        have hZ74 := hZ66.put I69 K70 s71 v72 Ra1 rfl
        clear I69 K70 s71 v72 p73
        refine yr_nu o65 hZ74 (fun u75 o76 hZ77 => ?_)
        exact yr_vret hC hr o76 hZ77 h55 dX7_blame_51
      · have h78 := h53.2 c54
        refine h_iload_n hC dX7_blame_37 rfl ?_
        refine yr_if_eq (tgt := 51) hC (by decide) dX7_blame_38 (by decide) (fun c79 => ?_) (fun c79 => ?_)
        · exact yr_vret hC hr ho hZ h78 dX7_blame_51
        · exact absurd (by decide) c79
    · have h80 := h51.2 c52
      refine h_iload_n hC dX7_blame_16 rfl ?_
      refine h_aload_n hC dX7_blame_17 rfl ?_
      refine h_get hC fl_X7_43 (hZ.w.o 1 (by decide)) rfl dX7_blame_18 ?_
      refine yr_sv (e := (yv A0 4)) hZ 4 rfl ?_
      refine yr_icmp_ge (tgt := 28) hC Ra0 (hZ.rv 4) dX7_blame_21 (by decide) (fun c81 => ?_) (fun c81 => ?_)
      · have h82 := h80.1 c81
        refine h_iconst (v := zI 0) hC dX7_blame_28 rfl ?_
        refine h_istore_n (lv' := [some (.ref (gO' Y 1)), some (.int (zI a0)), some (.int (zI a1)), some (.int (zI 0))]) hC dX7_blame_29 (Nat.le_of_ble_eq_true rfl) rfl rfl ?_
        refine h_aload_n hC dX7_blame_30 rfl ?_
        refine h_get hC fl_X7_43 (hZ.w.o 1 (by decide)) rfl dX7_blame_31 ?_
        refine yr_sv (e := (yv A0 4)) hZ 4 rfl ?_
        refine yr_if_eq (tgt := 41) hC (hZ.rv 4) dX7_blame_34 (by decide) (fun c83 => ?_) (fun c83 => ?_)
        · have h84 := h82.1 c83
          refine h_aload_n hC dX7_blame_41 rfl ?_
          refine h_iload_n hC dX7_blame_42 rfl ?_
          refine hi_putx (i := 1) (kx := 4) hC hZ.hi (by decide) fl_X7_43 rfl rfl rfl (Nat.le_of_ble_eq_true rfl) rfl gsame_4 (fun q => absurd q (by decide)) dX7_blame_43 (fun F85 S86 I87 K88 s89 v90 p91 => ?_)
          have hZ92 := hZ.put I87 K88 s89 v90 Ra0 rfl
          clear I87 K88 s89 v90 p91
          refine yr_nu ho hZ92 (fun u93 o94 hZ95 => ?_)
          refine h_aload_n hC dX7_blame_46 rfl ?_
          refine h_iload_n hC dX7_blame_47 rfl ?_
          refine hi_putx (i := 1) (kx := 5) hC hZ95.hi (by decide) fl_X7_46 rfl rfl rfl (Nat.le_of_ble_eq_true rfl) rfl gsame_5 (fun q => absurd q (by decide)) dX7_blame_48 (fun F96 S97 I98 K99 s100 v101 p102 => ?_)
          have hZ103 := hZ95.put I98 K99 s100 v101 Ra1 rfl
          clear I98 K99 s100 v101 p102
          refine yr_nu o94 hZ103 (fun u104 o105 hZ106 => ?_)
          exact yr_vret hC hr o105 hZ106 h84 dX7_blame_51
        · have h107 := h82.2 c83
          refine h_iload_n hC dX7_blame_37 rfl ?_
          refine yr_if_eq (tgt := 51) hC (by decide) dX7_blame_38 (by decide) (fun c108 => ?_) (fun c108 => ?_)
          · exact yr_vret hC hr ho hZ h107 dX7_blame_51
          · exact absurd (by decide) c108
      · have h109 := h80.2 c81
        refine h_iconst (v := zI 1) hC dX7_blame_24 rfl ?_
        refine h_goto (tgt := 29) hC dX7_blame_25 (by decide) ?_
        refine h_istore_n (lv' := [some (.ref (gO' Y 1)), some (.int (zI a0)), some (.int (zI a1)), some (.int (zI 1))]) hC dX7_blame_29 (Nat.le_of_ble_eq_true rfl) rfl rfl ?_
        refine h_aload_n hC dX7_blame_30 rfl ?_
        refine h_get hC fl_X7_43 (hZ.w.o 1 (by decide)) rfl dX7_blame_31 ?_
        refine yr_sv (e := (yv A0 4)) hZ 4 rfl ?_
        refine yr_if_eq (tgt := 41) hC (hZ.rv 4) dX7_blame_34 (by decide) (fun c110 => ?_) (fun c110 => ?_)
        · have h111 := h109.1 c110
          refine h_aload_n hC dX7_blame_41 rfl ?_
          refine h_iload_n hC dX7_blame_42 rfl ?_
          refine hi_putx (i := 1) (kx := 4) hC hZ.hi (by decide) fl_X7_43 rfl rfl rfl (Nat.le_of_ble_eq_true rfl) rfl gsame_4 (fun q => absurd q (by decide)) dX7_blame_43 (fun F112 S113 I114 K115 s116 v117 p118 => ?_)
          have hZ119 := hZ.put I114 K115 s116 v117 Ra0 rfl
          clear I114 K115 s116 v117 p118
          refine yr_nu ho hZ119 (fun u120 o121 hZ122 => ?_)
          refine h_aload_n hC dX7_blame_46 rfl ?_
          refine h_iload_n hC dX7_blame_47 rfl ?_
          refine hi_putx (i := 1) (kx := 5) hC hZ122.hi (by decide) fl_X7_46 rfl rfl rfl (Nat.le_of_ble_eq_true rfl) rfl gsame_5 (fun q => absurd q (by decide)) dX7_blame_48 (fun F123 S124 I125 K126 s127 v128 p129 => ?_)
          have hZ130 := hZ122.put I125 K126 s127 v128 Ra1 rfl
          clear I125 K126 s127 v128 p129
          refine yr_nu o121 hZ130 (fun u131 o132 hZ133 => ?_)
          exact yr_vret hC hr o132 hZ133 h111 dX7_blame_51
        · have h134 := h109.2 c110
          refine h_iload_n hC dX7_blame_37 rfl ?_
          refine yr_if_eq (tgt := 51) hC (by decide) dX7_blame_38 (by decide) (fun c135 => ?_) (fun c135 => ?_)
          · exact absurd c135 (by decide)
          · refine h_aload_n hC dX7_blame_41 rfl ?_
            refine h_iload_n hC dX7_blame_42 rfl ?_
            refine hi_putx (i := 1) (kx := 4) hC hZ.hi (by decide) fl_X7_43 rfl rfl rfl (Nat.le_of_ble_eq_true rfl) rfl gsame_4 (fun q => absurd q (by decide)) dX7_blame_43 (fun F136 S137 I138 K139 s140 v141 p142 => ?_)
            have hZ143 := hZ.put I138 K139 s140 v141 Ra0 rfl
            clear I138 K139 s140 v141 p142
            refine yr_nu ho hZ143 (fun u144 o145 hZ146 => ?_)
            refine h_aload_n hC dX7_blame_46 rfl ?_
            refine h_iload_n hC dX7_blame_47 rfl ?_
            refine hi_putx (i := 1) (kx := 5) hC hZ146.hi (by decide) fl_X7_46 rfl rfl rfl (Nat.le_of_ble_eq_true rfl) rfl gsame_5 (fun q => absurd q (by decide)) dX7_blame_48 (fun F147 S148 I149 K150 s151 v152 p153 => ?_)
            have hZ154 := hZ146.put I149 K150 s151 v152 Ra1 rfl
            clear I149 K150 s151 v152 p153
            refine yr_nu o145 hZ154 (fun u155 o156 hZ157 => ?_)
            exact yr_vret hC hr o156 hZ157 h134 dX7_blame_51
def wc_Program_words (A0 : cS)  (Q : Int → cS → Prop) : Prop :=
  Q ((yz A0 2 : Nat) : Int) A0
set_option maxHeartbeats 4000000 in
set_option maxRecDepth 100000 in
theorem cm_Program_words (l : Launch) (d : gD) (b : Nat) {Y : gYt} {c : Nat × Nat} {F : gM} {k n : Nat} {S : gSt} {A0 : cS}   {Q : Int → cS → Prop} (hZ : yZ d b Y c F S (F, k, n) S A0) (hw : wc_Program_words A0  Q) : hMi l d b yX7_words cX7_words 1 .int 1 k n F [.ref (gO' Y 1)] (yPi d b Y c F S Q) := by
  intro mc ms
  refine hM_of2 rfl (nL := 1) (Nat.le_of_ble_eq_true rfl) ?_
  intro X hX hC hr ho; subst hX
  show yG X d b (yQi X d b Y c F S mc ms Q) (F, k, n) 0 [some (.ref (gO' Y 1))] []
  unfold wc_Program_words at hw
  refine h_aload_n hC dX7_words_0 rfl ?_
  refine h_get hC fl_X7_21 (hZ.w.o 1 (by decide)) rfl dX7_words_1 ?_
  refine yr_size (j := 2) (e := ((yz A0 2 : Nat) : Int)) hC hr ho hZ (by decide) rfl cl_X7_67 rfl (Nat.le_of_ble_eq_true rfl) (hFr_of (Nat.le_of_ble_eq_true rfl) (Nat.le_of_ble_eq_true rfl)) dX7_words_4 ?_
  exact yr_iret hC hr ho hZ (hZ.rz (j := 2) (by decide)) hw dX7_words_7
theorem dX7_judge_0 : decode cX7_judge 0 = .ok (.aload_n 0, 1) := by decide +kernel
theorem dX7_judge_1 : decode cX7_judge 1 = .ok (.invokevirtual 63, 3) := by decide +kernel
theorem dX7_judge_4 : decode cX7_judge 4 = .ok (.bipush 100, 2) := by decide +kernel
theorem dX7_judge_6 : decode cX7_judge 6 = .ok (.isub, 1) := by decide +kernel
theorem dX7_judge_7 : decode cX7_judge 7 = .ok (.sipush 1500, 3) := by decide +kernel
theorem dX7_judge_10 : decode cX7_judge 10 = .ok (.if_icmp .gt 16, 3) := by decide +kernel
theorem dX7_judge_13 : decode cX7_judge 13 = .ok (.aload_n 0, 1) := by decide +kernel
theorem dX7_judge_14 : decode cX7_judge 14 = .ok (.getfield 24, 3) := by decide +kernel
theorem dX7_judge_17 : decode cX7_judge 17 = .ok (.invokevirtual 67, 3) := by decide +kernel
theorem dX7_judge_20 : decode cX7_judge 20 = .ok (.sipush 200, 3) := by decide +kernel
theorem dX7_judge_23 : decode cX7_judge 23 = .ok (.if_icmp .le 7, 3) := by decide +kernel
theorem dX7_judge_26 : decode cX7_judge 26 = .ok (.iconst 1, 1) := by decide +kernel
theorem dX7_judge_27 : decode cX7_judge 27 = .ok (.goto 4, 3) := by decide +kernel
theorem dX7_judge_30 : decode cX7_judge 30 = .ok (.iconst 0, 1) := by decide +kernel
theorem dX7_judge_31 : decode cX7_judge 31 = .ok (.istore_n 1, 1) := by decide +kernel
theorem dX7_judge_32 : decode cX7_judge 32 = .ok (.iconst 0, 1) := by decide +kernel
theorem dX7_judge_33 : decode cX7_judge 33 = .ok (.istore_n 2, 1) := by decide +kernel
theorem dX7_judge_34 : decode cX7_judge 34 = .ok (.iload_n 2, 1) := by decide +kernel
theorem dX7_judge_35 : decode cX7_judge 35 = .ok (.aload_n 0, 1) := by decide +kernel
theorem dX7_judge_36 : decode cX7_judge 36 = .ok (.getfield 30, 3) := by decide +kernel
theorem dX7_judge_39 : decode cX7_judge 39 = .ok (.invokevirtual 67, 3) := by decide +kernel
theorem dX7_judge_42 : decode cX7_judge 42 = .ok (.if_icmp .ge 33, 3) := by decide +kernel
theorem dX7_judge_45 : decode cX7_judge 45 = .ok (.iload_n 1, 1) := by decide +kernel
theorem dX7_judge_46 : decode cX7_judge 46 = .ok (.ifCond .ne 17, 3) := by decide +kernel
theorem dX7_judge_49 : decode cX7_judge 49 = .ok (.aload_n 0, 1) := by decide +kernel
theorem dX7_judge_50 : decode cX7_judge 50 = .ok (.getfield 30, 3) := by decide +kernel
theorem dX7_judge_53 : decode cX7_judge 53 = .ok (.iload_n 2, 1) := by decide +kernel
theorem dX7_judge_54 : decode cX7_judge 54 = .ok (.invokevirtual 70, 3) := by decide +kernel
theorem dX7_judge_57 : decode cX7_judge 57 = .ok (.sipush 32000, 3) := by decide +kernel
theorem dX7_judge_60 : decode cX7_judge 60 = .ok (.if_icmp .le 7, 3) := by decide +kernel
theorem dX7_judge_63 : decode cX7_judge 63 = .ok (.iconst 1, 1) := by decide +kernel
theorem dX7_judge_64 : decode cX7_judge 64 = .ok (.goto 4, 3) := by decide +kernel
theorem dX7_judge_67 : decode cX7_judge 67 = .ok (.iconst 0, 1) := by decide +kernel
theorem dX7_judge_68 : decode cX7_judge 68 = .ok (.istore_n 1, 1) := by decide +kernel
theorem dX7_judge_69 : decode cX7_judge 69 = .ok (.iinc 2 1, 3) := by decide +kernel
theorem dX7_judge_72 : decode cX7_judge 72 = .ok (.goto (-38), 3) := by decide +kernel
theorem dX7_judge_75 : decode cX7_judge 75 = .ok (.aload_n 0, 1) := by decide +kernel
theorem dX7_judge_76 : decode cX7_judge 76 = .ok (.getfield 43, 3) := by decide +kernel
theorem dX7_judge_79 : decode cX7_judge 79 = .ok (.ifCond .ne 21, 3) := by decide +kernel
theorem dX7_judge_82 : decode cX7_judge 82 = .ok (.iload_n 1, 1) := by decide +kernel
theorem dX7_judge_83 : decode cX7_judge 83 = .ok (.ifCond .ne 10, 3) := by decide +kernel
theorem dX7_judge_86 : decode cX7_judge 86 = .ok (.aload_n 0, 1) := by decide +kernel
theorem dX7_judge_87 : decode cX7_judge 87 = .ok (.getfield 40, 3) := by decide +kernel
theorem dX7_judge_90 : decode cX7_judge 90 = .ok (.ifCond .ge 10, 3) := by decide +kernel
theorem dX7_judge_93 : decode cX7_judge 93 = .ok (.aload_n 0, 1) := by decide +kernel
theorem dX7_judge_94 : decode cX7_judge 94 = .ok (.bipush 7, 2) := by decide +kernel
theorem dX7_judge_96 : decode cX7_judge 96 = .ok (.iconst 0, 1) := by decide +kernel
theorem dX7_judge_97 : decode cX7_judge 97 = .ok (.invokevirtual 74, 3) := by decide +kernel
theorem dX7_judge_100 : decode cX7_judge 100 = .ok (.aload_n 0, 1) := by decide +kernel
theorem dX7_judge_101 : decode cX7_judge 101 = .ok (.aload_n 0, 1) := by decide +kernel
theorem dX7_judge_102 : decode cX7_judge 102 = .ok (.getfield 43, 3) := by decide +kernel
theorem dX7_judge_105 : decode cX7_judge 105 = .ok (.ifCond .ne 7, 3) := by decide +kernel
theorem dX7_judge_108 : decode cX7_judge 108 = .ok (.iconst 1, 1) := by decide +kernel
theorem dX7_judge_109 : decode cX7_judge 109 = .ok (.goto 4, 3) := by decide +kernel
theorem dX7_judge_112 : decode cX7_judge 112 = .ok (.iconst 0, 1) := by decide +kernel
theorem dX7_judge_113 : decode cX7_judge 113 = .ok (.putfield 49, 3) := by decide +kernel
theorem dX7_judge_116 : decode cX7_judge 116 = .ok (.return_, 1) := by decide +kernel
def wc_Program_judge_34B (Q : cS → Prop) (k34 : cS → Int → Int → Prop) (A0 : cS) (x1 : Int) (x2 : Int) : Prop :=
  ((((yz A0 5 : Nat) : Int) ≤ x2 → ((¬ (yv A0 4) = 0 → ((¬ (yv A0 4) = 0 → Q (ypv A0 6 0)) ∧ ((yv A0 4) = 0 → Q (ypv A0 6 1)))) ∧ ((yv A0 4) = 0 → ((¬ x1 = 0 → wc_Program_blame A0 7 0 (fun A34 => ((¬ (yv A34 4) = 0 → Q (ypv A34 6 0)) ∧ ((yv A34 4) = 0 → Q (ypv A34 6 1))))) ∧ (x1 = 0 → ((0 ≤ (yv A0 3) → ((¬ (yv A0 4) = 0 → Q (ypv A0 6 0)) ∧ ((yv A0 4) = 0 → Q (ypv A0 6 1)))) ∧ (¬ 0 ≤ (yv A0 3) → wc_Program_blame A0 7 0 (fun A96 => ((¬ (yv A96 4) = 0 → Q (ypv A96 6 0)) ∧ ((yv A96 4) = 0 → Q (ypv A96 6 1))))))))))) ∧ (¬ ((yz A0 5 : Nat) : Int) ≤ x2 → ((¬ x1 = 0 → (zR (x2 + 1)) ∧ k34 A0 1 (x2 + 1)) ∧ (x1 = 0 → (((yget A0 5 x2) ≤ 32000 → (zR (x2 + 1)) ∧ k34 A0 0 (x2 + 1)) ∧ (¬ (yget A0 5 x2) ≤ 32000 → (zR (x2 + 1)) ∧ k34 A0 1 (x2 + 1)))))))
def wc_Program_judge_34 (Q : cS → Prop)  : Nat → cS → Int → Int → Prop
  | 0 => fun _ _ _ => False
  | m + 1 => fun A0 x1 x2 => wc_Program_judge_34B Q  (wc_Program_judge_34 Q  m) A0 x1 x2
def wc_Program_judge (A0 : cS)  (Q : cS → Prop) : Prop :=
  wc_Program_words A0  (fun r1 A2 => (zR (r1 - 100)) ∧ ((1500 < (r1 - 100) → ∃ n, wc_Program_judge_34 Q  n A2 1 0) ∧ (¬ 1500 < (r1 - 100) → ((((yz A2 3 : Nat) : Int) ≤ 200 → ∃ n, wc_Program_judge_34 Q  n A2 0 0) ∧ (¬ ((yz A2 3 : Nat) : Int) ≤ 200 → ∃ n, wc_Program_judge_34 Q  n A2 1 0)))))
set_option maxHeartbeats 4000000 in
set_option maxRecDepth 100000 in
theorem cb_Program_judge_34 {X : gX} {d : gD} {b : Nat} {Y : gYt} {c : Nat × Nat} {F0 : gM} {S0 : gSt} {mc ms : Nat} (hC : gC RX7 cX7_judge 3 none "judge" (gR 2 mc ms) d b X) (hr : hRm X b) {Q : cS → Prop} {k34 : cS → Int → Int → Prop} (hk34 : ∀ (u : hU) (S : gSt) (A0 : cS) (x1 : Int) (x2 : Int), zR x1 → zR x2 → yOk X b u → yZ d b Y c F0 S0 u S A0 → k34 A0 x1 x2 → yG X d b (yQv X d b Y c F0 S0 mc ms Q) u 34 [some (.ref (gO' Y 1)), some (.int (zI x1)), some (.int (zI x2))] []) {u : hU} {S : gSt} {A0 : cS} {x1 : Int} {x2 : Int} (Rx1 : zR x1) (Rx2 : zR x2) (ho : yOk X b u) (hZ : yZ d b Y c F0 S0 u S A0) (hw : wc_Program_judge_34B Q k34 A0 x1 x2) : yG X d b (yQv X d b Y c F0 S0 mc ms Q) u 34 [some (.ref (gO' Y 1)), some (.int (zI x1)), some (.int (zI x2))] [] := by
  unfold wc_Program_judge_34B at hw
  refine h_iload_n hC dX7_judge_34 rfl ?_
  refine h_aload_n hC dX7_judge_35 rfl ?_
  refine h_get hC fl_X7_30 (hZ.w.o 1 (by decide)) rfl dX7_judge_36 ?_
  refine yr_size (j := 5) (e := ((yz A0 5 : Nat) : Int)) hC hr ho hZ (by decide) rfl cl_X7_67 rfl (Nat.le_of_ble_eq_true rfl) (hFr_of (Nat.le_of_ble_eq_true rfl) (Nat.le_of_ble_eq_true rfl)) dX7_judge_39 ?_
  refine yr_icmp_ge (tgt := 75) hC Rx2 (hZ.rz (j := 5) (by decide)) dX7_judge_42 (by decide) (fun c1 => ?_) (fun c1 => ?_)
  · have h2 := hw.1 c1
    refine h_aload_n hC dX7_judge_75 rfl ?_
    refine h_get hC fl_X7_43 (hZ.w.o 1 (by decide)) rfl dX7_judge_76 ?_
    refine yr_sv (e := (yv A0 4)) hZ 4 rfl ?_
    refine yr_if_ne (tgt := 100) hC (hZ.rv 4) dX7_judge_79 (by decide) (fun c3 => ?_) (fun c3 => ?_)
    · have h4 := h2.1 c3
      refine h_aload_n hC dX7_judge_100 rfl ?_
      refine h_aload_n hC dX7_judge_101 rfl ?_
      refine h_get hC fl_X7_43 (hZ.w.o 1 (by decide)) rfl dX7_judge_102 ?_
      refine yr_sv (e := (yv A0 4)) hZ 4 rfl ?_
      refine yr_if_ne (tgt := 112) hC (hZ.rv 4) dX7_judge_105 (by decide) (fun c5 => ?_) (fun c5 => ?_)
      · have h6 := h4.1 c5
        refine h_iconst (v := zI 0) hC dX7_judge_112 rfl ?_
        refine hi_putx (i := 1) (kx := 6) hC hZ.hi (by decide) fl_X7_49 rfl (ynb (Or.inl rfl)) (yfb (Or.inl rfl)) (Nat.le_of_ble_eq_true rfl) rfl gsame_6 (fun _ => y01 (Or.inl rfl)) dX7_judge_113 (fun F7 S8 I9 K10 s11 v12 p13 => ?_)
        have hZ14 := hZ.put I9 K10 s11 v12 (y01R (Or.inl rfl)) rfl
        clear I9 K10 s11 v12 p13
        refine yr_nu ho hZ14 (fun u15 o16 hZ17 => ?_)
        exact yr_vret hC hr o16 hZ17 h6 dX7_judge_116
      · have h18 := h4.2 c5
        refine h_iconst (v := zI 1) hC dX7_judge_108 rfl ?_
        refine h_goto (tgt := 113) hC dX7_judge_109 (by decide) ?_
        refine hi_putx (i := 1) (kx := 6) hC hZ.hi (by decide) fl_X7_49 rfl (ynb (Or.inr rfl)) (yfb (Or.inr rfl)) (Nat.le_of_ble_eq_true rfl) rfl gsame_6 (fun _ => y01 (Or.inr rfl)) dX7_judge_113 (fun F19 S20 I21 K22 s23 v24 p25 => ?_)
        have hZ26 := hZ.put I21 K22 s23 v24 (y01R (Or.inr rfl)) rfl
        clear I21 K22 s23 v24 p25
        refine yr_nu ho hZ26 (fun u27 o28 hZ29 => ?_)
        exact yr_vret hC hr o28 hZ29 h18 dX7_judge_116
    · have h30 := h2.2 c3
      refine h_iload_n hC dX7_judge_82 rfl ?_
      refine yr_if_ne (tgt := 93) hC Rx1 dX7_judge_83 (by decide) (fun c31 => ?_) (fun c31 => ?_)
      · have h32 := h30.1 c31
        refine h_aload_n hC dX7_judge_93 rfl ?_
        refine h_bipush (v := zI 7) hC dX7_judge_94 rfl ?_
        refine h_iconst (v := zI 0) hC dX7_judge_96 rfl ?_
        refine yr_callVv (As := [.int (zI 7), .int (zI 0)]) hC hr ho hZ rfl (hZ.w.o 1 (by decide)) (cm_Program_blame X.la d b (by decide) (by decide) hZ.rs h32) cl_X7_74 rfl rfl (Nat.le_of_ble_eq_true rfl) (hFr_of (Nat.le_of_ble_eq_true rfl) (Nat.le_of_ble_eq_true rfl)) dX7_judge_97 (fun A34 u35 S36 o38 hZ39 h40 => ?_)
        refine h_aload_n hC dX7_judge_100 rfl ?_
        refine h_aload_n hC dX7_judge_101 rfl ?_
        refine h_get hC fl_X7_43 (hZ39.w.o 1 (by decide)) rfl dX7_judge_102 ?_
        refine yr_sv (e := (yv A34 4)) hZ39 4 rfl ?_
        refine yr_if_ne (tgt := 112) hC (hZ39.rv 4) dX7_judge_105 (by decide) (fun c41 => ?_) (fun c41 => ?_)
        · have h42 := h40.1 c41
          refine h_iconst (v := zI 0) hC dX7_judge_112 rfl ?_
          refine hi_putx (i := 1) (kx := 6) hC hZ39.hi (by decide) fl_X7_49 rfl (ynb (Or.inl rfl)) (yfb (Or.inl rfl)) (Nat.le_of_ble_eq_true rfl) rfl gsame_6 (fun _ => y01 (Or.inl rfl)) dX7_judge_113 (fun F43 S44 I45 K46 s47 v48 p49 => ?_)
          have hZ50 := hZ39.put I45 K46 s47 v48 (y01R (Or.inl rfl)) rfl
          clear I45 K46 s47 v48 p49
          refine yr_nu o38 hZ50 (fun u51 o52 hZ53 => ?_)
          exact yr_vret hC hr o52 hZ53 h42 dX7_judge_116
        · have h54 := h40.2 c41
          refine h_iconst (v := zI 1) hC dX7_judge_108 rfl ?_
          refine h_goto (tgt := 113) hC dX7_judge_109 (by decide) ?_
          refine hi_putx (i := 1) (kx := 6) hC hZ39.hi (by decide) fl_X7_49 rfl (ynb (Or.inr rfl)) (yfb (Or.inr rfl)) (Nat.le_of_ble_eq_true rfl) rfl gsame_6 (fun _ => y01 (Or.inr rfl)) dX7_judge_113 (fun F55 S56 I57 K58 s59 v60 p61 => ?_)
          have hZ62 := hZ39.put I57 K58 s59 v60 (y01R (Or.inr rfl)) rfl
          clear I57 K58 s59 v60 p61
          refine yr_nu o38 hZ62 (fun u63 o64 hZ65 => ?_)
          exact yr_vret hC hr o64 hZ65 h54 dX7_judge_116
      · have h66 := h30.2 c31
        refine h_aload_n hC dX7_judge_86 rfl ?_
        refine h_get hC fl_X7_40 (hZ.w.o 1 (by decide)) rfl dX7_judge_87 ?_
        refine yr_sv (e := (yv A0 3)) hZ 3 rfl ?_
        refine yr_if_ge (tgt := 100) hC (hZ.rv 3) dX7_judge_90 (by decide) (fun c67 => ?_) (fun c67 => ?_)
        · have h68 := h66.1 c67
          refine h_aload_n hC dX7_judge_100 rfl ?_
          refine h_aload_n hC dX7_judge_101 rfl ?_
          refine h_get hC fl_X7_43 (hZ.w.o 1 (by decide)) rfl dX7_judge_102 ?_
          refine yr_sv (e := (yv A0 4)) hZ 4 rfl ?_
          refine yr_if_ne (tgt := 112) hC (hZ.rv 4) dX7_judge_105 (by decide) (fun c69 => ?_) (fun c69 => ?_)
          · have h70 := h68.1 c69
            refine h_iconst (v := zI 0) hC dX7_judge_112 rfl ?_
            refine hi_putx (i := 1) (kx := 6) hC hZ.hi (by decide) fl_X7_49 rfl (ynb (Or.inl rfl)) (yfb (Or.inl rfl)) (Nat.le_of_ble_eq_true rfl) rfl gsame_6 (fun _ => y01 (Or.inl rfl)) dX7_judge_113 (fun F71 S72 I73 K74 s75 v76 p77 => ?_)
            have hZ78 := hZ.put I73 K74 s75 v76 (y01R (Or.inl rfl)) rfl
            clear I73 K74 s75 v76 p77
            refine yr_nu ho hZ78 (fun u79 o80 hZ81 => ?_)
            exact yr_vret hC hr o80 hZ81 h70 dX7_judge_116
          · have h82 := h68.2 c69
            refine h_iconst (v := zI 1) hC dX7_judge_108 rfl ?_
            refine h_goto (tgt := 113) hC dX7_judge_109 (by decide) ?_
            refine hi_putx (i := 1) (kx := 6) hC hZ.hi (by decide) fl_X7_49 rfl (ynb (Or.inr rfl)) (yfb (Or.inr rfl)) (Nat.le_of_ble_eq_true rfl) rfl gsame_6 (fun _ => y01 (Or.inr rfl)) dX7_judge_113 (fun F83 S84 I85 K86 s87 v88 p89 => ?_)
            have hZ90 := hZ.put I85 K86 s87 v88 (y01R (Or.inr rfl)) rfl
            clear I85 K86 s87 v88 p89
            refine yr_nu ho hZ90 (fun u91 o92 hZ93 => ?_)
            exact yr_vret hC hr o92 hZ93 h82 dX7_judge_116
        · have h94 := h66.2 c67
          refine h_aload_n hC dX7_judge_93 rfl ?_
          refine h_bipush (v := zI 7) hC dX7_judge_94 rfl ?_
          refine h_iconst (v := zI 0) hC dX7_judge_96 rfl ?_
          refine yr_callVv (As := [.int (zI 7), .int (zI 0)]) hC hr ho hZ rfl (hZ.w.o 1 (by decide)) (cm_Program_blame X.la d b (by decide) (by decide) hZ.rs h94) cl_X7_74 rfl rfl (Nat.le_of_ble_eq_true rfl) (hFr_of (Nat.le_of_ble_eq_true rfl) (Nat.le_of_ble_eq_true rfl)) dX7_judge_97 (fun A96 u97 S98 o100 hZ101 h102 => ?_)
          refine h_aload_n hC dX7_judge_100 rfl ?_
          refine h_aload_n hC dX7_judge_101 rfl ?_
          refine h_get hC fl_X7_43 (hZ101.w.o 1 (by decide)) rfl dX7_judge_102 ?_
          refine yr_sv (e := (yv A96 4)) hZ101 4 rfl ?_
          refine yr_if_ne (tgt := 112) hC (hZ101.rv 4) dX7_judge_105 (by decide) (fun c103 => ?_) (fun c103 => ?_)
          · have h104 := h102.1 c103
            refine h_iconst (v := zI 0) hC dX7_judge_112 rfl ?_
            refine hi_putx (i := 1) (kx := 6) hC hZ101.hi (by decide) fl_X7_49 rfl (ynb (Or.inl rfl)) (yfb (Or.inl rfl)) (Nat.le_of_ble_eq_true rfl) rfl gsame_6 (fun _ => y01 (Or.inl rfl)) dX7_judge_113 (fun F105 S106 I107 K108 s109 v110 p111 => ?_)
            have hZ112 := hZ101.put I107 K108 s109 v110 (y01R (Or.inl rfl)) rfl
            clear I107 K108 s109 v110 p111
            refine yr_nu o100 hZ112 (fun u113 o114 hZ115 => ?_)
            exact yr_vret hC hr o114 hZ115 h104 dX7_judge_116
          · have h116 := h102.2 c103
            refine h_iconst (v := zI 1) hC dX7_judge_108 rfl ?_
            refine h_goto (tgt := 113) hC dX7_judge_109 (by decide) ?_
            refine hi_putx (i := 1) (kx := 6) hC hZ101.hi (by decide) fl_X7_49 rfl (ynb (Or.inr rfl)) (yfb (Or.inr rfl)) (Nat.le_of_ble_eq_true rfl) rfl gsame_6 (fun _ => y01 (Or.inr rfl)) dX7_judge_113 (fun F117 S118 I119 K120 s121 v122 p123 => ?_)
            have hZ124 := hZ101.put I119 K120 s121 v122 (y01R (Or.inr rfl)) rfl
            clear I119 K120 s121 v122 p123
            refine yr_nu o100 hZ124 (fun u125 o126 hZ127 => ?_)
            exact yr_vret hC hr o126 hZ127 h116 dX7_judge_116
  · have h128 := hw.2 c1
    refine h_iload_n hC dX7_judge_45 rfl ?_
    refine yr_if_ne (tgt := 63) hC Rx1 dX7_judge_46 (by decide) (fun c129 => ?_) (fun c129 => ?_)
    · have h130 := h128.1 c129
      refine h_iconst (v := zI 1) hC dX7_judge_63 rfl ?_
      refine h_goto (tgt := 68) hC dX7_judge_64 (by decide) ?_
      refine h_istore_n (lv' := [some (.ref (gO' Y 1)), some (.int (zI 1)), some (.int (zI x2))]) hC dX7_judge_68 (Nat.le_of_ble_eq_true rfl) rfl rfl ?_
      refine yr_iinc (x := x2) (lv' := [some (.ref (gO' Y 1)), some (.int (zI 1)), some (.int (zI (x2 + 1)))]) hC dX7_judge_69 rfl rfl rfl ?_
      refine h_goto (tgt := 34) hC dX7_judge_72 (by decide) ?_
      obtain ⟨o131, h132⟩ := h130
      exact hk34 _ _ _ _ _ (by decide) o131 ho hZ h132
    · have h133 := h128.2 c129
      refine h_aload_n hC dX7_judge_49 rfl ?_
      refine h_get hC fl_X7_30 (hZ.w.o 1 (by decide)) rfl dX7_judge_50 ?_
      refine h_iload_n hC dX7_judge_53 rfl ?_
      refine yr_get (j := 5) (e := (yget A0 5 x2)) hC hr ho hZ (by decide) Rx2 rfl cl_X7_70 rfl (Nat.le_of_ble_eq_true rfl) (hFr_of (Nat.le_of_ble_eq_true rfl) (Nat.le_of_ble_eq_true rfl)) dX7_judge_54 ?_
      refine h_sipush (v := zI 32000) hC dX7_judge_57 rfl ?_
      refine yr_icmp_le (tgt := 67) hC (hZ.rg 5 _) (by decide) dX7_judge_60 (by decide) (fun c134 => ?_) (fun c134 => ?_)
      · have h135 := h133.1 c134
        refine h_iconst (v := zI 0) hC dX7_judge_67 rfl ?_
        refine h_istore_n (lv' := [some (.ref (gO' Y 1)), some (.int (zI 0)), some (.int (zI x2))]) hC dX7_judge_68 (Nat.le_of_ble_eq_true rfl) rfl rfl ?_
        refine yr_iinc (x := x2) (lv' := [some (.ref (gO' Y 1)), some (.int (zI 0)), some (.int (zI (x2 + 1)))]) hC dX7_judge_69 rfl rfl rfl ?_
        refine h_goto (tgt := 34) hC dX7_judge_72 (by decide) ?_
        obtain ⟨o136, h137⟩ := h135
        exact hk34 _ _ _ _ _ (by decide) o136 ho hZ h137
      · have h138 := h133.2 c134
        refine h_iconst (v := zI 1) hC dX7_judge_63 rfl ?_
        refine h_goto (tgt := 68) hC dX7_judge_64 (by decide) ?_
        refine h_istore_n (lv' := [some (.ref (gO' Y 1)), some (.int (zI 1)), some (.int (zI x2))]) hC dX7_judge_68 (Nat.le_of_ble_eq_true rfl) rfl rfl ?_
        refine yr_iinc (x := x2) (lv' := [some (.ref (gO' Y 1)), some (.int (zI 1)), some (.int (zI (x2 + 1)))]) hC dX7_judge_69 rfl rfl rfl ?_
        refine h_goto (tgt := 34) hC dX7_judge_72 (by decide) ?_
        obtain ⟨o139, h140⟩ := h138
        exact hk34 _ _ _ _ _ (by decide) o139 ho hZ h140
theorem cl_Program_judge_34 {X : gX} {d : gD} {b : Nat} {Y : gYt} {c : Nat × Nat} {F0 : gM} {S0 : gSt} {mc ms : Nat} (hC : gC RX7 cX7_judge 3 none "judge" (gR 2 mc ms) d b X) (hr : hRm X b) {Q : cS → Prop}   : ∀ (m : Nat) (u : hU) (S : gSt) (A0 : cS) (x1 : Int) (x2 : Int), zR x1 → zR x2 → yOk X b u → yZ d b Y c F0 S0 u S A0 → wc_Program_judge_34 Q  m A0 x1 x2 → yG X d b (yQv X d b Y c F0 S0 mc ms Q) u 34 [some (.ref (gO' Y 1)), some (.int (zI x1)), some (.int (zI x2))] [] := by
  intro m
  induction m with
  | zero => intro u S A0 x1 x2 Rx1 Rx2 ho hZ hw; exact False.elim hw
  | succ m ihm => intro u S A0 x1 x2 Rx1 Rx2 ho hZ hw; exact cb_Program_judge_34 hC hr  ihm Rx1 Rx2 ho hZ hw
set_option maxHeartbeats 4000000 in
set_option maxRecDepth 100000 in
theorem cm_Program_judge (l : Launch) (d : gD) (b : Nat) {Y : gYt} {c : Nat × Nat} {F : gM} {k n : Nat} {S : gSt} {A0 : cS}   {Q : cS → Prop} (hZ : yZ d b Y c F S (F, k, n) S A0) (hw : wc_Program_judge A0  Q) : hMv l d b yX7_judge cX7_judge 3 2 k n F [.ref (gO' Y 1)] (yPv d b Y c F S Q) := by
  intro mc ms
  refine hM_of2 rfl (nL := 3) (Nat.le_of_ble_eq_true rfl) ?_
  intro X hX hC hr ho; subst hX
  show yG X d b (yQv X d b Y c F S mc ms Q) (F, k, n) 0 [some (.ref (gO' Y 1)), none, none] []
  unfold wc_Program_judge at hw
  refine h_aload_n hC dX7_judge_0 rfl ?_
  refine yr_callVi (As := []) hC hr ho hZ rfl (hZ.w.o 1 (by decide)) (cm_Program_words X.la d b  hZ.rs hw) cl_X7_63 rfl rfl (Nat.le_of_ble_eq_true rfl) (hFr_of (Nat.le_of_ble_eq_true rfl) (Nat.le_of_ble_eq_true rfl)) dX7_judge_1 (fun r1 A2 u3 S4 R5 o6 hZ7 h8 => ?_)
  refine h_bipush (v := zI 100) hC dX7_judge_4 rfl ?_
  refine yr_isub hC dX7_judge_6 ?_
  refine h_sipush (v := zI 1500) hC dX7_judge_7 rfl ?_
  obtain ⟨o9, h10⟩ := h8
  refine yr_icmp_gt (tgt := 26) hC o9 (by decide) dX7_judge_10 (by decide) (fun c11 => ?_) (fun c11 => ?_)
  · have h12 := h10.1 c11
    refine h_iconst (v := zI 1) hC dX7_judge_26 rfl ?_
    refine h_goto (tgt := 31) hC dX7_judge_27 (by decide) ?_
    refine h_istore_n (lv' := [some (.ref (gO' Y 1)), some (.int (zI 1)), none]) hC dX7_judge_31 (Nat.le_of_ble_eq_true rfl) rfl rfl ?_
    refine h_iconst (v := zI 0) hC dX7_judge_32 rfl ?_
    refine h_istore_n (lv' := [some (.ref (gO' Y 1)), some (.int (zI 1)), some (.int (zI 0))]) hC dX7_judge_33 (Nat.le_of_ble_eq_true rfl) rfl rfl ?_
    obtain ⟨m13, h14⟩ := h12
    exact cl_Program_judge_34 hC hr  m13 _ _ _ _ _ (by decide) (by decide) o6 hZ7 h14
  · have h15 := h10.2 c11
    refine h_aload_n hC dX7_judge_13 rfl ?_
    refine h_get hC fl_X7_24 (hZ7.w.o 1 (by decide)) rfl dX7_judge_14 ?_
    refine yr_size (j := 3) (e := ((yz A2 3 : Nat) : Int)) hC hr o6 hZ7 (by decide) rfl cl_X7_67 rfl (Nat.le_of_ble_eq_true rfl) (hFr_of (Nat.le_of_ble_eq_true rfl) (Nat.le_of_ble_eq_true rfl)) dX7_judge_17 ?_
    refine h_sipush (v := zI 200) hC dX7_judge_20 rfl ?_
    refine yr_icmp_le (tgt := 30) hC (hZ7.rz (j := 3) (by decide)) (by decide) dX7_judge_23 (by decide) (fun c16 => ?_) (fun c16 => ?_)
    · have h17 := h15.1 c16
      refine h_iconst (v := zI 0) hC dX7_judge_30 rfl ?_
      refine h_istore_n (lv' := [some (.ref (gO' Y 1)), some (.int (zI 0)), none]) hC dX7_judge_31 (Nat.le_of_ble_eq_true rfl) rfl rfl ?_
      refine h_iconst (v := zI 0) hC dX7_judge_32 rfl ?_
      refine h_istore_n (lv' := [some (.ref (gO' Y 1)), some (.int (zI 0)), some (.int (zI 0))]) hC dX7_judge_33 (Nat.le_of_ble_eq_true rfl) rfl rfl ?_
      obtain ⟨m18, h19⟩ := h17
      exact cl_Program_judge_34 hC hr  m18 _ _ _ _ _ (by decide) (by decide) o6 hZ7 h19
    · have h20 := h15.2 c16
      refine h_iconst (v := zI 1) hC dX7_judge_26 rfl ?_
      refine h_goto (tgt := 31) hC dX7_judge_27 (by decide) ?_
      refine h_istore_n (lv' := [some (.ref (gO' Y 1)), some (.int (zI 1)), none]) hC dX7_judge_31 (Nat.le_of_ble_eq_true rfl) rfl rfl ?_
      refine h_iconst (v := zI 0) hC dX7_judge_32 rfl ?_
      refine h_istore_n (lv' := [some (.ref (gO' Y 1)), some (.int (zI 1)), some (.int (zI 0))]) hC dX7_judge_33 (Nat.le_of_ble_eq_true rfl) rfl rfl ?_
      obtain ⟨m21, h22⟩ := h20
      exact cl_Program_judge_34 hC hr  m21 _ _ _ _ _ (by decide) (by decide) o6 hZ7 h22
def wc_Program_isReady (A0 : cS)  (Q : Int → cS → Prop) : Prop :=
  ((yv A0 6) = 0 ∨ (yv A0 6) = 1) ∧ Q (yv A0 6) A0
set_option maxHeartbeats 4000000 in
set_option maxRecDepth 100000 in
theorem cm_Program_isReady (l : Launch) (d : gD) (b : Nat) {Y : gYt} {c : Nat × Nat} {F : gM} {k n : Nat} {S : gSt} {A0 : cS}   {Q : Int → cS → Prop} (hZ : yZ d b Y c F S (F, k, n) S A0) (hw : wc_Program_isReady A0  Q) : hMi l d b yX7_isReady cX7_isReady 1 .boolean 0 k n F [.ref (gO' Y 1)] (yPi d b Y c F S Q) := by
  intro mc ms
  refine hM_of2 rfl (nL := 1) (Nat.le_of_ble_eq_true rfl) ?_
  intro X hX hC hr ho; subst hX
  show yG X d b (yQi X d b Y c F S mc ms Q) (F, k, n) 0 [some (.ref (gO' Y 1))] []
  unfold wc_Program_isReady at hw
  refine h_aload_n hC dX7_isReady_0 rfl ?_
  refine h_get hC fl_X7_49 (hZ.w.o 1 (by decide)) rfl dX7_isReady_1 ?_
  refine yr_sv (e := (yv A0 6)) hZ 6 rfl ?_
  obtain ⟨o1, h2⟩ := hw
  exact yr_zret hC hr ho hZ o1 h2 dX7_isReady_4
def wc_Program_faultKind (A0 : cS)  (Q : Int → cS → Prop) : Prop :=
  Q (yv A0 4) A0
set_option maxHeartbeats 4000000 in
set_option maxRecDepth 100000 in
theorem cm_Program_faultKind (l : Launch) (d : gD) (b : Nat) {Y : gYt} {c : Nat × Nat} {F : gM} {k n : Nat} {S : gSt} {A0 : cS}   {Q : Int → cS → Prop} (hZ : yZ d b Y c F S (F, k, n) S A0) (hw : wc_Program_faultKind A0  Q) : hMi l d b yX7_faultKind cX7_faultKind 1 .int 0 k n F [.ref (gO' Y 1)] (yPi d b Y c F S Q) := by
  intro mc ms
  refine hM_of2 rfl (nL := 1) (Nat.le_of_ble_eq_true rfl) ?_
  intro X hX hC hr ho; subst hX
  show yG X d b (yQi X d b Y c F S mc ms Q) (F, k, n) 0 [some (.ref (gO' Y 1))] []
  unfold wc_Program_faultKind at hw
  refine h_aload_n hC dX7_faultKind_0 rfl ?_
  refine h_get hC fl_X7_43 (hZ.w.o 1 (by decide)) rfl dX7_faultKind_1 ?_
  refine yr_sv (e := (yv A0 4)) hZ 4 rfl ?_
  exact yr_iret hC hr ho hZ (hZ.rv 4) hw dX7_faultKind_4
def wc_Program_faultPlace (A0 : cS)  (Q : Int → cS → Prop) : Prop :=
  Q (yv A0 5) A0
set_option maxHeartbeats 4000000 in
set_option maxRecDepth 100000 in
theorem cm_Program_faultPlace (l : Launch) (d : gD) (b : Nat) {Y : gYt} {c : Nat × Nat} {F : gM} {k n : Nat} {S : gSt} {A0 : cS}   {Q : Int → cS → Prop} (hZ : yZ d b Y c F S (F, k, n) S A0) (hw : wc_Program_faultPlace A0  Q) : hMi l d b yX7_faultPlace cX7_faultPlace 1 .int 0 k n F [.ref (gO' Y 1)] (yPi d b Y c F S Q) := by
  intro mc ms
  refine hM_of2 rfl (nL := 1) (Nat.le_of_ble_eq_true rfl) ?_
  intro X hX hC hr ho; subst hX
  show yG X d b (yQi X d b Y c F S mc ms Q) (F, k, n) 0 [some (.ref (gO' Y 1))] []
  unfold wc_Program_faultPlace at hw
  refine h_aload_n hC dX7_faultPlace_0 rfl ?_
  refine h_get hC fl_X7_46 (hZ.w.o 1 (by decide)) rfl dX7_faultPlace_1 ?_
  refine yr_sv (e := (yv A0 5)) hZ 5 rfl ?_
  exact yr_iret hC hr ho hZ (hZ.rv 5) hw dX7_faultPlace_4
def wc_Program_storeWords (A0 : cS)  (Q : Int → cS → Prop) : Prop :=
  Q (yv A0 2) A0
set_option maxHeartbeats 4000000 in
set_option maxRecDepth 100000 in
theorem cm_Program_storeWords (l : Launch) (d : gD) (b : Nat) {Y : gYt} {c : Nat × Nat} {F : gM} {k n : Nat} {S : gSt} {A0 : cS}   {Q : Int → cS → Prop} (hZ : yZ d b Y c F S (F, k, n) S A0) (hw : wc_Program_storeWords A0  Q) : hMi l d b yX7_storeWords cX7_storeWords 1 .int 0 k n F [.ref (gO' Y 1)] (yPi d b Y c F S Q) := by
  intro mc ms
  refine hM_of2 rfl (nL := 1) (Nat.le_of_ble_eq_true rfl) ?_
  intro X hX hC hr ho; subst hX
  show yG X d b (yQi X d b Y c F S mc ms Q) (F, k, n) 0 [some (.ref (gO' Y 1))] []
  unfold wc_Program_storeWords at hw
  refine h_aload_n hC dX7_storeWords_0 rfl ?_
  refine h_get hC fl_X7_36 (hZ.w.o 1 (by decide)) rfl dX7_storeWords_1 ?_
  refine yr_sv (e := (yv A0 2)) hZ 2 rfl ?_
  exact yr_iret hC hr ho hZ (hZ.rv 2) hw dX7_storeWords_4
def wc_Program_wordAt (A0 : cS) (a0 : Int) (Q : Int → cS → Prop) : Prop :=
  Q (yget A0 2 a0) A0
set_option maxHeartbeats 4000000 in
set_option maxRecDepth 100000 in
theorem cm_Program_wordAt (l : Launch) (d : gD) (b : Nat) {Y : gYt} {c : Nat × Nat} {F : gM} {k n : Nat} {S : gSt} {A0 : cS} {a0 : Int} (Ra0 : zR a0) {Q : Int → cS → Prop} (hZ : yZ d b Y c F S (F, k, n) S A0) (hw : wc_Program_wordAt A0 a0 Q) : hMi l d b yX7_wordAt cX7_wordAt 2 .int 1 k n F [.ref (gO' Y 1), .int (zI a0)] (yPi d b Y c F S Q) := by
  intro mc ms
  refine hM_of2 rfl (nL := 2) (Nat.le_of_ble_eq_true rfl) ?_
  intro X hX hC hr ho; subst hX
  show yG X d b (yQi X d b Y c F S mc ms Q) (F, k, n) 0 [some (.ref (gO' Y 1)), some (.int (zI a0))] []
  unfold wc_Program_wordAt at hw
  refine h_aload_n hC dX7_wordAt_0 rfl ?_
  refine h_get hC fl_X7_21 (hZ.w.o 1 (by decide)) rfl dX7_wordAt_1 ?_
  refine h_iload_n hC dX7_wordAt_4 rfl ?_
  refine yr_get (j := 2) (e := (yget A0 2 a0)) hC hr ho hZ (by decide) Ra0 rfl cl_X7_70 rfl (Nat.le_of_ble_eq_true rfl) (hFr_of (Nat.le_of_ble_eq_true rfl) (Nat.le_of_ble_eq_true rfl)) dX7_wordAt_5 ?_
  exact yr_iret hC hr ho hZ (hZ.rg 2 _) hw dX7_wordAt_8
def wc_Program_setWord (A0 : cS) (a0 : Int) (a1 : Int) (Q : cS → Prop) : Prop :=
  Q (yset A0 2 a0 a1)
set_option maxHeartbeats 4000000 in
set_option maxRecDepth 100000 in
theorem cm_Program_setWord (l : Launch) (d : gD) (b : Nat) {Y : gYt} {c : Nat × Nat} {F : gM} {k n : Nat} {S : gSt} {A0 : cS} {a0 : Int} {a1 : Int} (Ra0 : zR a0) (Ra1 : zR a1) {Q : cS → Prop} (hZ : yZ d b Y c F S (F, k, n) S A0) (hw : wc_Program_setWord A0 a0 a1 Q) : hMv l d b yX7_setWord cX7_setWord 3 1 k n F [.ref (gO' Y 1), .int (zI a0), .int (zI a1)] (yPv d b Y c F S Q) := by
  intro mc ms
  refine hM_of2 rfl (nL := 3) (Nat.le_of_ble_eq_true rfl) ?_
  intro X hX hC hr ho; subst hX
  show yG X d b (yQv X d b Y c F S mc ms Q) (F, k, n) 0 [some (.ref (gO' Y 1)), some (.int (zI a0)), some (.int (zI a1))] []
  unfold wc_Program_setWord at hw
  refine h_aload_n hC dX7_setWord_0 rfl ?_
  refine h_get hC fl_X7_21 (hZ.w.o 1 (by decide)) rfl dX7_setWord_1 ?_
  refine h_iload_n hC dX7_setWord_4 rfl ?_
  refine h_iload_n hC dX7_setWord_5 rfl ?_
  refine yr_set (j := 2) hC hr ho hZ (by decide) Ra0 Ra1 cl_X7_78 rfl (Nat.le_of_ble_eq_true rfl) (hFr_of (Nat.le_of_ble_eq_true rfl) (Nat.le_of_ble_eq_true rfl)) dX7_setWord_6 (fun u1 S2 o3 hZ4 => ?_)
  exact yr_vret hC hr o3 hZ4 hw dX7_setWord_9
def wc_Program_addWord (A0 : cS) (a0 : Int) (Q : Int → cS → Prop) : Prop :=
  ((yz A0 2) < 80000) ∧ (zR (((yz (yadd A0 2 a0) 2 : Nat) : Int) - 1)) ∧ Q (((yz (yadd A0 2 a0) 2 : Nat) : Int) - 1) (yadd A0 2 a0)
set_option maxHeartbeats 4000000 in
set_option maxRecDepth 100000 in
theorem cm_Program_addWord (l : Launch) (d : gD) (b : Nat) {Y : gYt} {c : Nat × Nat} {F : gM} {k n : Nat} {S : gSt} {A0 : cS} {a0 : Int} (Ra0 : zR a0) {Q : Int → cS → Prop} (hZ : yZ d b Y c F S (F, k, n) S A0) (hw : wc_Program_addWord A0 a0 Q) : hMi l d b yX7_addWord cX7_addWord 2 .int 3 k n F [.ref (gO' Y 1), .int (zI a0)] (yPi d b Y c F S Q) := by
  intro mc ms
  refine hM_of2 rfl (nL := 2) (Nat.le_of_ble_eq_true rfl) ?_
  intro X hX hC hr ho; subst hX
  show yG X d b (yQi X d b Y c F S mc ms Q) (F, k, n) 0 [some (.ref (gO' Y 1)), some (.int (zI a0))] []
  unfold wc_Program_addWord at hw
  refine h_aload_n hC dX7_addWord_0 rfl ?_
  refine h_get hC fl_X7_21 (hZ.w.o 1 (by decide)) rfl dX7_addWord_1 ?_
  refine h_iload_n hC dX7_addWord_4 rfl ?_
  obtain ⟨o5, h6⟩ := hw
  refine yr_add (j := 2) hC hr ho hZ (by decide) (by decide) Ra0 o5 cl_X7_56 rfl (Nat.le_of_ble_eq_true rfl) (hFr_of (Nat.le_of_ble_eq_true rfl) (Nat.le_of_ble_eq_true rfl)) dX7_addWord_5 (fun u1 S2 o3 hZ4 => ?_)
  refine h_aload_n hC dX7_addWord_8 rfl ?_
  refine h_get hC fl_X7_21 (hZ4.w.o 1 (by decide)) rfl dX7_addWord_9 ?_
  refine yr_size (j := 2) (e := ((yz (yadd A0 2 a0) 2 : Nat) : Int)) hC hr o3 hZ4 (by decide) rfl cl_X7_67 rfl (Nat.le_of_ble_eq_true rfl) (hFr_of (Nat.le_of_ble_eq_true rfl) (Nat.le_of_ble_eq_true rfl)) dX7_addWord_12 ?_
  refine h_iconst (v := zI 1) hC dX7_addWord_15 rfl ?_
  refine yr_isub hC dX7_addWord_16 ?_
  obtain ⟨o7, h8⟩ := h6
  exact yr_iret hC hr o3 hZ4 o7 h8 dX7_addWord_17
def wc_Program_addRoutine (A0 : cS) (a0 : Int) (Q : Int → cS → Prop) : Prop :=
  ((a0 = 0 → ((yz A0 3) < 1400) ∧ ((yz A0 4) < 1400) ∧ ((yz A0 5) < 1400) ∧ ((yz A0 6) < 1400) ∧ Q ((yz A0 3 : Nat) : Int) (yadd (yadd (yadd (yadd A0 3 (-1)) 4 0) 5 0) 6 0)) ∧ (¬ a0 = 0 → (zR (1000000 + ((yz A0 3 : Nat) : Int))) ∧ wc_Program_addWord A0 (1000000 + ((yz A0 3 : Nat) : Int)) (fun r30 A31 => ((yz A31 3) < 1400) ∧ ((yz A31 4) < 1400) ∧ ((yz A31 5) < 1400) ∧ ((yz A31 6) < 1400) ∧ Q ((yz A0 3 : Nat) : Int) (yadd (yadd (yadd (yadd A31 3 r30) 4 0) 5 0) 6 0))))
set_option maxHeartbeats 4000000 in
set_option maxRecDepth 100000 in
theorem cm_Program_addRoutine (l : Launch) (d : gD) (b : Nat) {Y : gYt} {c : Nat × Nat} {F : gM} {k n : Nat} {S : gSt} {A0 : cS} {a0 : Int} (Ra0 : zR a0) {Q : Int → cS → Prop} (hZ : yZ d b Y c F S (F, k, n) S A0) (hw : wc_Program_addRoutine A0 a0 Q) : hMi l d b yX7_addRoutine cX7_addRoutine 3 .int 4 k n F [.ref (gO' Y 1), .int (zI a0)] (yPi d b Y c F S Q) := by
  intro mc ms
  refine hM_of2 rfl (nL := 3) (Nat.le_of_ble_eq_true rfl) ?_
  intro X hX hC hr ho; subst hX
  show yG X d b (yQi X d b Y c F S mc ms Q) (F, k, n) 0 [some (.ref (gO' Y 1)), some (.int (zI a0)), none] []
  unfold wc_Program_addRoutine at hw
  refine h_aload_n hC dX7_addRoutine_0 rfl ?_
  refine h_get hC fl_X7_24 (hZ.w.o 1 (by decide)) rfl dX7_addRoutine_1 ?_
  refine yr_size (j := 3) (e := ((yz A0 3 : Nat) : Int)) hC hr ho hZ (by decide) rfl cl_X7_67 rfl (Nat.le_of_ble_eq_true rfl) (hFr_of (Nat.le_of_ble_eq_true rfl) (Nat.le_of_ble_eq_true rfl)) dX7_addRoutine_4 ?_
  refine h_istore_n (lv' := [some (.ref (gO' Y 1)), some (.int (zI a0)), some (.int (zI ((yz A0 3 : Nat) : Int)))]) hC dX7_addRoutine_7 (Nat.le_of_ble_eq_true rfl) rfl rfl ?_
  refine h_aload_n hC dX7_addRoutine_8 rfl ?_
  refine h_get hC fl_X7_24 (hZ.w.o 1 (by decide)) rfl dX7_addRoutine_9 ?_
  refine h_iload_n hC dX7_addRoutine_12 rfl ?_
  refine yr_if_eq (tgt := 27) hC Ra0 dX7_addRoutine_13 (by decide) (fun c1 => ?_) (fun c1 => ?_)
  · have h2 := hw.1 c1
    refine h_iconst (v := zI (-1)) hC dX7_addRoutine_27 rfl ?_
    obtain ⟨o7, h8⟩ := h2
    refine yr_add (j := 3) hC hr ho hZ (by decide) (by decide) (by decide) o7 cl_X7_56 rfl (Nat.le_of_ble_eq_true rfl) (hFr_of (Nat.le_of_ble_eq_true rfl) (Nat.le_of_ble_eq_true rfl)) dX7_addRoutine_28 (fun u3 S4 o5 hZ6 => ?_)
    refine h_aload_n hC dX7_addRoutine_31 rfl ?_
    refine h_get hC fl_X7_27 (hZ6.w.o 1 (by decide)) rfl dX7_addRoutine_32 ?_
    refine h_iconst (v := zI 0) hC dX7_addRoutine_35 rfl ?_
    obtain ⟨o13, h14⟩ := h8
    refine yr_add (j := 4) hC hr o5 hZ6 (by decide) (by decide) (by decide) o13 cl_X7_56 rfl (Nat.le_of_ble_eq_true rfl) (hFr_of (Nat.le_of_ble_eq_true rfl) (Nat.le_of_ble_eq_true rfl)) dX7_addRoutine_36 (fun u9 S10 o11 hZ12 => ?_)
    refine h_aload_n hC dX7_addRoutine_39 rfl ?_
    refine h_get hC fl_X7_30 (hZ12.w.o 1 (by decide)) rfl dX7_addRoutine_40 ?_
    refine h_iconst (v := zI 0) hC dX7_addRoutine_43 rfl ?_
    obtain ⟨o19, h20⟩ := h14
    refine yr_add (j := 5) hC hr o11 hZ12 (by decide) (by decide) (by decide) o19 cl_X7_56 rfl (Nat.le_of_ble_eq_true rfl) (hFr_of (Nat.le_of_ble_eq_true rfl) (Nat.le_of_ble_eq_true rfl)) dX7_addRoutine_44 (fun u15 S16 o17 hZ18 => ?_)
    refine h_aload_n hC dX7_addRoutine_47 rfl ?_
    refine h_get hC fl_X7_33 (hZ18.w.o 1 (by decide)) rfl dX7_addRoutine_48 ?_
    refine h_iconst (v := zI 0) hC dX7_addRoutine_51 rfl ?_
    obtain ⟨o25, h26⟩ := h20
    refine yr_add (j := 6) hC hr o17 hZ18 (by decide) (by decide) (by decide) o25 cl_X7_56 rfl (Nat.le_of_ble_eq_true rfl) (hFr_of (Nat.le_of_ble_eq_true rfl) (Nat.le_of_ble_eq_true rfl)) dX7_addRoutine_52 (fun u21 S22 o23 hZ24 => ?_)
    refine h_iload_n hC dX7_addRoutine_55 rfl ?_
    exact yr_iret hC hr o23 hZ24 (hZ.rz (j := 3) (by decide)) h26 dX7_addRoutine_56
  · have h27 := hw.2 c1
    refine h_aload_n hC dX7_addRoutine_16 rfl ?_
    refine yr_ldc (e := 1000000) hC dX7_addRoutine_17 kw_296 (by decide) ?_
    refine h_iload_n hC dX7_addRoutine_19 rfl ?_
    refine yr_iadd hC dX7_addRoutine_20 ?_
    obtain ⟨o28, h29⟩ := h27
    refine yr_callVi (As := [.int (zI (1000000 + ((yz A0 3 : Nat) : Int)))]) hC hr ho hZ rfl (hZ.w.o 1 (by decide)) (cm_Program_addWord X.la d b o28 hZ.rs h29) cl_X7_81 rfl rfl (Nat.le_of_ble_eq_true rfl) (hFr_of (Nat.le_of_ble_eq_true rfl) (Nat.le_of_ble_eq_true rfl)) dX7_addRoutine_21 (fun r30 A31 u32 S33 R34 o35 hZ36 h37 => ?_)
    refine h_goto (tgt := 28) hC dX7_addRoutine_24 (by decide) ?_
    obtain ⟨o42, h43⟩ := h37
    refine yr_add (j := 3) hC hr o35 hZ36 (by decide) (by decide) R34 o42 cl_X7_56 rfl (Nat.le_of_ble_eq_true rfl) (hFr_of (Nat.le_of_ble_eq_true rfl) (Nat.le_of_ble_eq_true rfl)) dX7_addRoutine_28 (fun u38 S39 o40 hZ41 => ?_)
    refine h_aload_n hC dX7_addRoutine_31 rfl ?_
    refine h_get hC fl_X7_27 (hZ41.w.o 1 (by decide)) rfl dX7_addRoutine_32 ?_
    refine h_iconst (v := zI 0) hC dX7_addRoutine_35 rfl ?_
    obtain ⟨o48, h49⟩ := h43
    refine yr_add (j := 4) hC hr o40 hZ41 (by decide) (by decide) (by decide) o48 cl_X7_56 rfl (Nat.le_of_ble_eq_true rfl) (hFr_of (Nat.le_of_ble_eq_true rfl) (Nat.le_of_ble_eq_true rfl)) dX7_addRoutine_36 (fun u44 S45 o46 hZ47 => ?_)
    refine h_aload_n hC dX7_addRoutine_39 rfl ?_
    refine h_get hC fl_X7_30 (hZ47.w.o 1 (by decide)) rfl dX7_addRoutine_40 ?_
    refine h_iconst (v := zI 0) hC dX7_addRoutine_43 rfl ?_
    obtain ⟨o54, h55⟩ := h49
    refine yr_add (j := 5) hC hr o46 hZ47 (by decide) (by decide) (by decide) o54 cl_X7_56 rfl (Nat.le_of_ble_eq_true rfl) (hFr_of (Nat.le_of_ble_eq_true rfl) (Nat.le_of_ble_eq_true rfl)) dX7_addRoutine_44 (fun u50 S51 o52 hZ53 => ?_)
    refine h_aload_n hC dX7_addRoutine_47 rfl ?_
    refine h_get hC fl_X7_33 (hZ53.w.o 1 (by decide)) rfl dX7_addRoutine_48 ?_
    refine h_iconst (v := zI 0) hC dX7_addRoutine_51 rfl ?_
    obtain ⟨o60, h61⟩ := h55
    refine yr_add (j := 6) hC hr o52 hZ53 (by decide) (by decide) (by decide) o60 cl_X7_56 rfl (Nat.le_of_ble_eq_true rfl) (hFr_of (Nat.le_of_ble_eq_true rfl) (Nat.le_of_ble_eq_true rfl)) dX7_addRoutine_52 (fun u56 S57 o58 hZ59 => ?_)
    refine h_iload_n hC dX7_addRoutine_55 rfl ?_
    exact yr_iret hC hr o58 hZ59 (hZ.rz (j := 3) (by decide)) h61 dX7_addRoutine_56
def wc_Program_setStarter (A0 : cS) (a0 : Int) (Q : cS → Prop) : Prop :=
  ((0 ≤ (yv A0 3) → Q A0) ∧ (¬ 0 ≤ (yv A0 3) → Q (ypv A0 3 a0)))
set_option maxHeartbeats 4000000 in
set_option maxRecDepth 100000 in
theorem cm_Program_setStarter (l : Launch) (d : gD) (b : Nat) {Y : gYt} {c : Nat × Nat} {F : gM} {k n : Nat} {S : gSt} {A0 : cS} {a0 : Int} (Ra0 : zR a0) {Q : cS → Prop} (hZ : yZ d b Y c F S (F, k, n) S A0) (hw : wc_Program_setStarter A0 a0 Q) : hMv l d b yX7_setStarter cX7_setStarter 2 0 k n F [.ref (gO' Y 1), .int (zI a0)] (yPv d b Y c F S Q) := by
  intro mc ms
  refine hM_of2 rfl (nL := 2) (Nat.le_of_ble_eq_true rfl) ?_
  intro X hX hC hr ho; subst hX
  show yG X d b (yQv X d b Y c F S mc ms Q) (F, k, n) 0 [some (.ref (gO' Y 1)), some (.int (zI a0))] []
  unfold wc_Program_setStarter at hw
  refine h_aload_n hC dX7_setStarter_0 rfl ?_
  refine h_get hC fl_X7_40 (hZ.w.o 1 (by decide)) rfl dX7_setStarter_1 ?_
  refine yr_sv (e := (yv A0 3)) hZ 3 rfl ?_
  refine yr_if_ge (tgt := 12) hC (hZ.rv 3) dX7_setStarter_4 (by decide) (fun c1 => ?_) (fun c1 => ?_)
  · have h2 := hw.1 c1
    exact yr_vret hC hr ho hZ h2 dX7_setStarter_12
  · have h3 := hw.2 c1
    refine h_aload_n hC dX7_setStarter_7 rfl ?_
    refine h_iload_n hC dX7_setStarter_8 rfl ?_
    refine hi_putx (i := 1) (kx := 3) hC hZ.hi (by decide) fl_X7_40 rfl rfl rfl (Nat.le_of_ble_eq_true rfl) rfl gsame_3 (fun q => absurd q (by decide)) dX7_setStarter_9 (fun F4 S5 I6 K7 s8 v9 p10 => ?_)
    have hZ11 := hZ.put I6 K7 s8 v9 Ra0 rfl
    clear I6 K7 s8 v9 p10
    refine yr_nu ho hZ11 (fun u12 o13 hZ14 => ?_)
    exact yr_vret hC hr o13 hZ14 h3 dX7_setStarter_12
def wc_Program_starter (A0 : cS)  (Q : Int → cS → Prop) : Prop :=
  Q (yv A0 3) A0
set_option maxHeartbeats 4000000 in
set_option maxRecDepth 100000 in
theorem cm_Program_starter (l : Launch) (d : gD) (b : Nat) {Y : gYt} {c : Nat × Nat} {F : gM} {k n : Nat} {S : gSt} {A0 : cS}   {Q : Int → cS → Prop} (hZ : yZ d b Y c F S (F, k, n) S A0) (hw : wc_Program_starter A0  Q) : hMi l d b yX7_starter cX7_starter 1 .int 0 k n F [.ref (gO' Y 1)] (yPi d b Y c F S Q) := by
  intro mc ms
  refine hM_of2 rfl (nL := 1) (Nat.le_of_ble_eq_true rfl) ?_
  intro X hX hC hr ho; subst hX
  show yG X d b (yQi X d b Y c F S mc ms Q) (F, k, n) 0 [some (.ref (gO' Y 1))] []
  unfold wc_Program_starter at hw
  refine h_aload_n hC dX7_starter_0 rfl ?_
  refine h_get hC fl_X7_40 (hZ.w.o 1 (by decide)) rfl dX7_starter_1 ?_
  refine yr_sv (e := (yv A0 3)) hZ 3 rfl ?_
  exact yr_iret hC hr ho hZ (hZ.rv 3) hw dX7_starter_4
def wc_Program_routines (A0 : cS)  (Q : Int → cS → Prop) : Prop :=
  Q ((yz A0 3 : Nat) : Int) A0
set_option maxHeartbeats 4000000 in
set_option maxRecDepth 100000 in
theorem cm_Program_routines (l : Launch) (d : gD) (b : Nat) {Y : gYt} {c : Nat × Nat} {F : gM} {k n : Nat} {S : gSt} {A0 : cS}   {Q : Int → cS → Prop} (hZ : yZ d b Y c F S (F, k, n) S A0) (hw : wc_Program_routines A0  Q) : hMi l d b yX7_routines cX7_routines 1 .int 1 k n F [.ref (gO' Y 1)] (yPi d b Y c F S Q) := by
  intro mc ms
  refine hM_of2 rfl (nL := 1) (Nat.le_of_ble_eq_true rfl) ?_
  intro X hX hC hr ho; subst hX
  show yG X d b (yQi X d b Y c F S mc ms Q) (F, k, n) 0 [some (.ref (gO' Y 1))] []
  unfold wc_Program_routines at hw
  refine h_aload_n hC dX7_routines_0 rfl ?_
  refine h_get hC fl_X7_24 (hZ.w.o 1 (by decide)) rfl dX7_routines_1 ?_
  refine yr_size (j := 3) (e := ((yz A0 3 : Nat) : Int)) hC hr ho hZ (by decide) rfl cl_X7_67 rfl (Nat.le_of_ble_eq_true rfl) (hFr_of (Nat.le_of_ble_eq_true rfl) (Nat.le_of_ble_eq_true rfl)) dX7_routines_4 ?_
  exact yr_iret hC hr ho hZ (hZ.rz (j := 3) (by decide)) hw dX7_routines_7
def wc_Program_home (A0 : cS) (a0 : Int) (Q : Int → cS → Prop) : Prop :=
  Q (yget A0 3 a0) A0
set_option maxHeartbeats 4000000 in
set_option maxRecDepth 100000 in
theorem cm_Program_home (l : Launch) (d : gD) (b : Nat) {Y : gYt} {c : Nat × Nat} {F : gM} {k n : Nat} {S : gSt} {A0 : cS} {a0 : Int} (Ra0 : zR a0) {Q : Int → cS → Prop} (hZ : yZ d b Y c F S (F, k, n) S A0) (hw : wc_Program_home A0 a0 Q) : hMi l d b yX7_home cX7_home 2 .int 1 k n F [.ref (gO' Y 1), .int (zI a0)] (yPi d b Y c F S Q) := by
  intro mc ms
  refine hM_of2 rfl (nL := 2) (Nat.le_of_ble_eq_true rfl) ?_
  intro X hX hC hr ho; subst hX
  show yG X d b (yQi X d b Y c F S mc ms Q) (F, k, n) 0 [some (.ref (gO' Y 1)), some (.int (zI a0))] []
  unfold wc_Program_home at hw
  refine h_aload_n hC dX7_home_0 rfl ?_
  refine h_get hC fl_X7_24 (hZ.w.o 1 (by decide)) rfl dX7_home_1 ?_
  refine h_iload_n hC dX7_home_4 rfl ?_
  refine yr_get (j := 3) (e := (yget A0 3 a0)) hC hr ho hZ (by decide) Ra0 rfl cl_X7_70 rfl (Nat.le_of_ble_eq_true rfl) (hFr_of (Nat.le_of_ble_eq_true rfl) (Nat.le_of_ble_eq_true rfl)) dX7_home_5 ?_
  exact yr_iret hC hr ho hZ (hZ.rg 3 _) hw dX7_home_8
def wc_Program_begin (A0 : cS) (a0 : Int) (Q : Int → cS → Prop) : Prop :=
  Q (yget A0 4 a0) A0
set_option maxHeartbeats 4000000 in
set_option maxRecDepth 100000 in
theorem cm_Program_begin (l : Launch) (d : gD) (b : Nat) {Y : gYt} {c : Nat × Nat} {F : gM} {k n : Nat} {S : gSt} {A0 : cS} {a0 : Int} (Ra0 : zR a0) {Q : Int → cS → Prop} (hZ : yZ d b Y c F S (F, k, n) S A0) (hw : wc_Program_begin A0 a0 Q) : hMi l d b yX7_begin cX7_begin 2 .int 1 k n F [.ref (gO' Y 1), .int (zI a0)] (yPi d b Y c F S Q) := by
  intro mc ms
  refine hM_of2 rfl (nL := 2) (Nat.le_of_ble_eq_true rfl) ?_
  intro X hX hC hr ho; subst hX
  show yG X d b (yQi X d b Y c F S mc ms Q) (F, k, n) 0 [some (.ref (gO' Y 1)), some (.int (zI a0))] []
  unfold wc_Program_begin at hw
  refine h_aload_n hC dX7_begin_0 rfl ?_
  refine h_get hC fl_X7_27 (hZ.w.o 1 (by decide)) rfl dX7_begin_1 ?_
  refine h_iload_n hC dX7_begin_4 rfl ?_
  refine yr_get (j := 4) (e := (yget A0 4 a0)) hC hr ho hZ (by decide) Ra0 rfl cl_X7_70 rfl (Nat.le_of_ble_eq_true rfl) (hFr_of (Nat.le_of_ble_eq_true rfl) (Nat.le_of_ble_eq_true rfl)) dX7_begin_5 ?_
  exact yr_iret hC hr ho hZ (hZ.rg 4 _) hw dX7_begin_8
def wc_Program_frame (A0 : cS) (a0 : Int) (Q : Int → cS → Prop) : Prop :=
  Q (yget A0 5 a0) A0
set_option maxHeartbeats 4000000 in
set_option maxRecDepth 100000 in
theorem cm_Program_frame (l : Launch) (d : gD) (b : Nat) {Y : gYt} {c : Nat × Nat} {F : gM} {k n : Nat} {S : gSt} {A0 : cS} {a0 : Int} (Ra0 : zR a0) {Q : Int → cS → Prop} (hZ : yZ d b Y c F S (F, k, n) S A0) (hw : wc_Program_frame A0 a0 Q) : hMi l d b yX7_frame cX7_frame 2 .int 1 k n F [.ref (gO' Y 1), .int (zI a0)] (yPi d b Y c F S Q) := by
  intro mc ms
  refine hM_of2 rfl (nL := 2) (Nat.le_of_ble_eq_true rfl) ?_
  intro X hX hC hr ho; subst hX
  show yG X d b (yQi X d b Y c F S mc ms Q) (F, k, n) 0 [some (.ref (gO' Y 1)), some (.int (zI a0))] []
  unfold wc_Program_frame at hw
  refine h_aload_n hC dX7_frame_0 rfl ?_
  refine h_get hC fl_X7_30 (hZ.w.o 1 (by decide)) rfl dX7_frame_1 ?_
  refine h_iload_n hC dX7_frame_4 rfl ?_
  refine yr_get (j := 5) (e := (yget A0 5 a0)) hC hr ho hZ (by decide) Ra0 rfl cl_X7_70 rfl (Nat.le_of_ble_eq_true rfl) (hFr_of (Nat.le_of_ble_eq_true rfl) (Nat.le_of_ble_eq_true rfl)) dX7_frame_5 ?_
  exact yr_iret hC hr ho hZ (hZ.rg 5 _) hw dX7_frame_8
def wc_Program_params (A0 : cS) (a0 : Int) (Q : Int → cS → Prop) : Prop :=
  Q (yget A0 6 a0) A0
set_option maxHeartbeats 4000000 in
set_option maxRecDepth 100000 in
theorem cm_Program_params (l : Launch) (d : gD) (b : Nat) {Y : gYt} {c : Nat × Nat} {F : gM} {k n : Nat} {S : gSt} {A0 : cS} {a0 : Int} (Ra0 : zR a0) {Q : Int → cS → Prop} (hZ : yZ d b Y c F S (F, k, n) S A0) (hw : wc_Program_params A0 a0 Q) : hMi l d b yX7_params cX7_params 2 .int 1 k n F [.ref (gO' Y 1), .int (zI a0)] (yPi d b Y c F S Q) := by
  intro mc ms
  refine hM_of2 rfl (nL := 2) (Nat.le_of_ble_eq_true rfl) ?_
  intro X hX hC hr ho; subst hX
  show yG X d b (yQi X d b Y c F S mc ms Q) (F, k, n) 0 [some (.ref (gO' Y 1)), some (.int (zI a0))] []
  unfold wc_Program_params at hw
  refine h_aload_n hC dX7_params_0 rfl ?_
  refine h_get hC fl_X7_33 (hZ.w.o 1 (by decide)) rfl dX7_params_1 ?_
  refine h_iload_n hC dX7_params_4 rfl ?_
  refine yr_get (j := 6) (e := (yget A0 6 a0)) hC hr ho hZ (by decide) Ra0 rfl cl_X7_70 rfl (Nat.le_of_ble_eq_true rfl) (hFr_of (Nat.le_of_ble_eq_true rfl) (Nat.le_of_ble_eq_true rfl)) dX7_params_5 ?_
  exact yr_iret hC hr ho hZ (hZ.rg 6 _) hw dX7_params_8
def wc_Program_here (A0 : cS)  (Q : Int → cS → Prop) : Prop :=
  Q ((yz A0 1 : Nat) : Int) A0
set_option maxHeartbeats 4000000 in
set_option maxRecDepth 100000 in
theorem cm_Program_here (l : Launch) (d : gD) (b : Nat) {Y : gYt} {c : Nat × Nat} {F : gM} {k n : Nat} {S : gSt} {A0 : cS}   {Q : Int → cS → Prop} (hZ : yZ d b Y c F S (F, k, n) S A0) (hw : wc_Program_here A0  Q) : hMi l d b yX7_here cX7_here 1 .int 1 k n F [.ref (gO' Y 1)] (yPi d b Y c F S Q) := by
  intro mc ms
  refine hM_of2 rfl (nL := 1) (Nat.le_of_ble_eq_true rfl) ?_
  intro X hX hC hr ho; subst hX
  show yG X d b (yQi X d b Y c F S mc ms Q) (F, k, n) 0 [some (.ref (gO' Y 1))] []
  unfold wc_Program_here at hw
  refine h_aload_n hC dX7_here_0 rfl ?_
  refine h_get hC fl_X7_15 (hZ.w.o 1 (by decide)) rfl dX7_here_1 ?_
  refine yr_size (j := 1) (e := ((yz A0 1 : Nat) : Int)) hC hr ho hZ (by decide) rfl cl_X7_67 rfl (Nat.le_of_ble_eq_true rfl) (hFr_of (Nat.le_of_ble_eq_true rfl) (Nat.le_of_ble_eq_true rfl)) dX7_here_4 ?_
  exact yr_iret hC hr ho hZ (hZ.rz (j := 1) (by decide)) hw dX7_here_7
def wc_Program_setBegin (A0 : cS) (a0 : Int) (a1 : Int) (Q : cS → Prop) : Prop :=
  wc_Program_here A0  (fun r1 A2 => Q (yset (yset A2 4 a0 r1) 6 a0 a1))
set_option maxHeartbeats 4000000 in
set_option maxRecDepth 100000 in
theorem cm_Program_setBegin (l : Launch) (d : gD) (b : Nat) {Y : gYt} {c : Nat × Nat} {F : gM} {k n : Nat} {S : gSt} {A0 : cS} {a0 : Int} {a1 : Int} (Ra0 : zR a0) (Ra1 : zR a1) {Q : cS → Prop} (hZ : yZ d b Y c F S (F, k, n) S A0) (hw : wc_Program_setBegin A0 a0 a1 Q) : hMv l d b yX7_setBegin cX7_setBegin 3 2 k n F [.ref (gO' Y 1), .int (zI a0), .int (zI a1)] (yPv d b Y c F S Q) := by
  intro mc ms
  refine hM_of2 rfl (nL := 3) (Nat.le_of_ble_eq_true rfl) ?_
  intro X hX hC hr ho; subst hX
  show yG X d b (yQv X d b Y c F S mc ms Q) (F, k, n) 0 [some (.ref (gO' Y 1)), some (.int (zI a0)), some (.int (zI a1))] []
  unfold wc_Program_setBegin at hw
  refine h_aload_n hC dX7_setBegin_0 rfl ?_
  refine h_get hC fl_X7_27 (hZ.w.o 1 (by decide)) rfl dX7_setBegin_1 ?_
  refine h_iload_n hC dX7_setBegin_4 rfl ?_
  refine h_aload_n hC dX7_setBegin_5 rfl ?_
  refine yr_callVi (As := []) hC hr ho hZ rfl (hZ.w.o 1 (by decide)) (cm_Program_here X.la d b  hZ.rs hw) cl_X7_84 rfl rfl (Nat.le_of_ble_eq_true rfl) (hFr_of (Nat.le_of_ble_eq_true rfl) (Nat.le_of_ble_eq_true rfl)) dX7_setBegin_6 (fun r1 A2 u3 S4 R5 o6 hZ7 h8 => ?_)
  refine yr_set (j := 4) hC hr o6 hZ7 (by decide) Ra0 R5 cl_X7_78 rfl (Nat.le_of_ble_eq_true rfl) (hFr_of (Nat.le_of_ble_eq_true rfl) (Nat.le_of_ble_eq_true rfl)) dX7_setBegin_9 (fun u9 S10 o11 hZ12 => ?_)
  refine h_aload_n hC dX7_setBegin_12 rfl ?_
  refine h_get hC fl_X7_33 (hZ12.w.o 1 (by decide)) rfl dX7_setBegin_13 ?_
  refine h_iload_n hC dX7_setBegin_16 rfl ?_
  refine h_iload_n hC dX7_setBegin_17 rfl ?_
  refine yr_set (j := 6) hC hr o11 hZ12 (by decide) Ra0 Ra1 cl_X7_78 rfl (Nat.le_of_ble_eq_true rfl) (hFr_of (Nat.le_of_ble_eq_true rfl) (Nat.le_of_ble_eq_true rfl)) dX7_setBegin_18 (fun u13 S14 o15 hZ16 => ?_)
  exact yr_vret hC hr o15 hZ16 h8 dX7_setBegin_21
def wc_Program_setFrame (A0 : cS) (a0 : Int) (a1 : Int) (Q : cS → Prop) : Prop :=
  Q (yset A0 5 a0 a1)
set_option maxHeartbeats 4000000 in
set_option maxRecDepth 100000 in
theorem cm_Program_setFrame (l : Launch) (d : gD) (b : Nat) {Y : gYt} {c : Nat × Nat} {F : gM} {k n : Nat} {S : gSt} {A0 : cS} {a0 : Int} {a1 : Int} (Ra0 : zR a0) (Ra1 : zR a1) {Q : cS → Prop} (hZ : yZ d b Y c F S (F, k, n) S A0) (hw : wc_Program_setFrame A0 a0 a1 Q) : hMv l d b yX7_setFrame cX7_setFrame 3 1 k n F [.ref (gO' Y 1), .int (zI a0), .int (zI a1)] (yPv d b Y c F S Q) := by
  intro mc ms
  refine hM_of2 rfl (nL := 3) (Nat.le_of_ble_eq_true rfl) ?_
  intro X hX hC hr ho; subst hX
  show yG X d b (yQv X d b Y c F S mc ms Q) (F, k, n) 0 [some (.ref (gO' Y 1)), some (.int (zI a0)), some (.int (zI a1))] []
  unfold wc_Program_setFrame at hw
  refine h_aload_n hC dX7_setFrame_0 rfl ?_
  refine h_get hC fl_X7_30 (hZ.w.o 1 (by decide)) rfl dX7_setFrame_1 ?_
  refine h_iload_n hC dX7_setFrame_4 rfl ?_
  refine h_iload_n hC dX7_setFrame_5 rfl ?_
  refine yr_set (j := 5) hC hr ho hZ (by decide) Ra0 Ra1 cl_X7_78 rfl (Nat.le_of_ble_eq_true rfl) (hFr_of (Nat.le_of_ble_eq_true rfl) (Nat.le_of_ble_eq_true rfl)) dX7_setFrame_6 (fun u1 S2 o3 hZ4 => ?_)
  exact yr_vret hC hr o3 hZ4 hw dX7_setFrame_9
def wc_Program_codeAt (A0 : cS) (a0 : Int) (Q : Int → cS → Prop) : Prop :=
  Q (yget A0 1 a0) A0
set_option maxHeartbeats 4000000 in
set_option maxRecDepth 100000 in
theorem cm_Program_codeAt (l : Launch) (d : gD) (b : Nat) {Y : gYt} {c : Nat × Nat} {F : gM} {k n : Nat} {S : gSt} {A0 : cS} {a0 : Int} (Ra0 : zR a0) {Q : Int → cS → Prop} (hZ : yZ d b Y c F S (F, k, n) S A0) (hw : wc_Program_codeAt A0 a0 Q) : hMi l d b yX7_codeAt cX7_codeAt 2 .int 1 k n F [.ref (gO' Y 1), .int (zI a0)] (yPi d b Y c F S Q) := by
  intro mc ms
  refine hM_of2 rfl (nL := 2) (Nat.le_of_ble_eq_true rfl) ?_
  intro X hX hC hr ho; subst hX
  show yG X d b (yQi X d b Y c F S mc ms Q) (F, k, n) 0 [some (.ref (gO' Y 1)), some (.int (zI a0))] []
  unfold wc_Program_codeAt at hw
  refine h_aload_n hC dX7_codeAt_0 rfl ?_
  refine h_get hC fl_X7_15 (hZ.w.o 1 (by decide)) rfl dX7_codeAt_1 ?_
  refine h_iload_n hC dX7_codeAt_4 rfl ?_
  refine yr_get (j := 1) (e := (yget A0 1 a0)) hC hr ho hZ (by decide) Ra0 rfl cl_X7_70 rfl (Nat.le_of_ble_eq_true rfl) (hFr_of (Nat.le_of_ble_eq_true rfl) (Nat.le_of_ble_eq_true rfl)) dX7_codeAt_5 ?_
  exact yr_iret hC hr ho hZ (hZ.rg 1 _) hw dX7_codeAt_8
def wc_Program_setOperand (A0 : cS) (a0 : Int) (a1 : Int) (Q : cS → Prop) : Prop :=
  Q (yset A0 1 a0 a1)
set_option maxHeartbeats 4000000 in
set_option maxRecDepth 100000 in
theorem cm_Program_setOperand (l : Launch) (d : gD) (b : Nat) {Y : gYt} {c : Nat × Nat} {F : gM} {k n : Nat} {S : gSt} {A0 : cS} {a0 : Int} {a1 : Int} (Ra0 : zR a0) (Ra1 : zR a1) {Q : cS → Prop} (hZ : yZ d b Y c F S (F, k, n) S A0) (hw : wc_Program_setOperand A0 a0 a1 Q) : hMv l d b yX7_setOperand cX7_setOperand 3 1 k n F [.ref (gO' Y 1), .int (zI a0), .int (zI a1)] (yPv d b Y c F S Q) := by
  intro mc ms
  refine hM_of2 rfl (nL := 3) (Nat.le_of_ble_eq_true rfl) ?_
  intro X hX hC hr ho; subst hX
  show yG X d b (yQv X d b Y c F S mc ms Q) (F, k, n) 0 [some (.ref (gO' Y 1)), some (.int (zI a0)), some (.int (zI a1))] []
  unfold wc_Program_setOperand at hw
  refine h_aload_n hC dX7_setOperand_0 rfl ?_
  refine h_get hC fl_X7_15 (hZ.w.o 1 (by decide)) rfl dX7_setOperand_1 ?_
  refine h_iload_n hC dX7_setOperand_4 rfl ?_
  refine h_iload_n hC dX7_setOperand_5 rfl ?_
  refine yr_set (j := 1) hC hr ho hZ (by decide) Ra0 Ra1 cl_X7_78 rfl (Nat.le_of_ble_eq_true rfl) (hFr_of (Nat.le_of_ble_eq_true rfl) (Nat.le_of_ble_eq_true rfl)) dX7_setOperand_6 (fun u1 S2 o3 hZ4 => ?_)
  exact yr_vret hC hr o3 hZ4 hw dX7_setOperand_9
def wc_Program_land_4B (Q : cS → Prop) (k4 : cS → Int → Int → Prop) (A0 : cS) (x2 : Int) (x3 : Int) : Prop :=
  ((1000000 ≤ x3 → Q A0) ∧ (¬ 1000000 ≤ x3 → ((x2 ≤ 0 → Q A0) ∧ (¬ x2 ≤ 0 → wc_Program_here A0  (fun r7 A8 => (zR (x3 + 1)) ∧ k4 (yset A8 1 x2 r7) (yget A0 1 x2) (x3 + 1))))))
def wc_Program_land_4 (Q : cS → Prop)  : Nat → cS → Int → Int → Prop
  | 0 => fun _ _ _ => False
  | m + 1 => fun A0 x2 x3 => wc_Program_land_4B Q  (wc_Program_land_4 Q  m) A0 x2 x3
def wc_Program_land (A0 : cS) (a0 : Int) (Q : cS → Prop) : Prop :=
  ∃ n, wc_Program_land_4 Q  n A0 a0 0
set_option maxHeartbeats 4000000 in
set_option maxRecDepth 100000 in
theorem cb_Program_land_4 {X : gX} {d : gD} {b : Nat} {Y : gYt} {c : Nat × Nat} {F0 : gM} {S0 : gSt} {mc ms : Nat} (hC : gC RX7 cX7_land 5 none "land" (gR 2 mc ms) d b X) (hr : hRm X b) {Q : cS → Prop} {k4 : cS → Int → Int → Prop} (hk4 : ∀ (u : hU) (S : gSt) (A0 : cS) (x2 : Int) (x3 : Int), zR x2 → zR x3 → yOk X b u → yZ d b Y c F0 S0 u S A0 → k4 A0 x2 x3 → yG X d b (yQv X d b Y c F0 S0 mc ms Q) u 4 [some (.ref (gO' Y 1)), none, some (.int (zI x2)), some (.int (zI x3)), none] []) {u : hU} {S : gSt} {A0 : cS} {x2 : Int} {x3 : Int} (Rx2 : zR x2) (Rx3 : zR x3) (ho : yOk X b u) (hZ : yZ d b Y c F0 S0 u S A0) (hw : wc_Program_land_4B Q k4 A0 x2 x3) : yG X d b (yQv X d b Y c F0 S0 mc ms Q) u 4 [some (.ref (gO' Y 1)), none, some (.int (zI x2)), some (.int (zI x3)), none] [] := by
  unfold wc_Program_land_4B at hw
  refine h_iload_n hC dX7_land_4 rfl ?_
  refine yr_ldc (e := 1000000) hC dX7_land_5 kw_296 (by decide) ?_
  refine yr_icmp_ge (tgt := 45) hC Rx3 (by decide) dX7_land_7 (by decide) (fun c1 => ?_) (fun c1 => ?_)
  · have h2 := hw.1 c1
    exact yr_vret hC hr ho hZ h2 dX7_land_45
  · have h3 := hw.2 c1
    refine h_iload_n hC dX7_land_10 rfl ?_
    refine yr_if_le (tgt := 45) hC Rx2 dX7_land_11 (by decide) (fun c4 => ?_) (fun c4 => ?_)
    · have h5 := h3.1 c4
      exact yr_vret hC hr ho hZ h5 dX7_land_45
    · have h6 := h3.2 c4
      refine h_aload_n hC dX7_land_14 rfl ?_
      refine h_get hC fl_X7_15 (hZ.w.o 1 (by decide)) rfl dX7_land_15 ?_
      refine h_iload_n hC dX7_land_18 rfl ?_
      refine yr_get (j := 1) (e := (yget A0 1 x2)) hC hr ho hZ (by decide) Rx2 rfl cl_X7_70 rfl (Nat.le_of_ble_eq_true rfl) (hFr_of (Nat.le_of_ble_eq_true rfl) (Nat.le_of_ble_eq_true rfl)) dX7_land_19 ?_
      refine h_istore (lv' := [some (.ref (gO' Y 1)), none, some (.int (zI x2)), some (.int (zI x3)), some (.int (zI (yget A0 1 x2)))]) hC dX7_land_22 (Nat.le_of_ble_eq_true rfl) rfl rfl ?_
      refine h_aload_n hC dX7_land_24 rfl ?_
      refine h_get hC fl_X7_15 (hZ.w.o 1 (by decide)) rfl dX7_land_25 ?_
      refine h_iload_n hC dX7_land_28 rfl ?_
      refine h_aload_n hC dX7_land_29 rfl ?_
      refine yr_callVi (As := []) hC hr ho hZ rfl (hZ.w.o 1 (by decide)) (cm_Program_here X.la d b  hZ.rs h6) cl_X7_84 rfl rfl (Nat.le_of_ble_eq_true rfl) (hFr_of (Nat.le_of_ble_eq_true rfl) (Nat.le_of_ble_eq_true rfl)) dX7_land_30 (fun r7 A8 u9 S10 R11 o12 hZ13 h14 => ?_)
      refine yr_set (j := 1) hC hr o12 hZ13 (by decide) Rx2 R11 cl_X7_78 rfl (Nat.le_of_ble_eq_true rfl) (hFr_of (Nat.le_of_ble_eq_true rfl) (Nat.le_of_ble_eq_true rfl)) dX7_land_33 (fun u15 S16 o17 hZ18 => ?_)
      refine h_iload hC dX7_land_36 rfl ?_
      refine h_istore_n (lv' := [some (.ref (gO' Y 1)), none, some (.int (zI (yget A0 1 x2))), some (.int (zI x3)), some (.int (zI (yget A0 1 x2)))]) hC dX7_land_38 (Nat.le_of_ble_eq_true rfl) rfl rfl ?_
      refine yr_iinc (x := x3) (lv' := [some (.ref (gO' Y 1)), none, some (.int (zI (yget A0 1 x2))), some (.int (zI (x3 + 1))), some (.int (zI (yget A0 1 x2)))]) hC dX7_land_39 rfl rfl rfl ?_
      refine h_goto (tgt := 4) hC dX7_land_42 (by decide) ?_
      obtain ⟨o19, h20⟩ := h14
      refine h_lv (lv' := [some (.ref (gO' Y 1)), none, some (.int (zI (yget A0 1 x2))), some (.int (zI (x3 + 1))), none]) ⟨rfl, rfl, rfl, trivial⟩ ?_
      exact hk4 _ _ _ _ _ (hZ.rg 1 _) o19 o17 hZ18 h20
theorem cl_Program_land_4 {X : gX} {d : gD} {b : Nat} {Y : gYt} {c : Nat × Nat} {F0 : gM} {S0 : gSt} {mc ms : Nat} (hC : gC RX7 cX7_land 5 none "land" (gR 2 mc ms) d b X) (hr : hRm X b) {Q : cS → Prop}   : ∀ (m : Nat) (u : hU) (S : gSt) (A0 : cS) (x2 : Int) (x3 : Int), zR x2 → zR x3 → yOk X b u → yZ d b Y c F0 S0 u S A0 → wc_Program_land_4 Q  m A0 x2 x3 → yG X d b (yQv X d b Y c F0 S0 mc ms Q) u 4 [some (.ref (gO' Y 1)), none, some (.int (zI x2)), some (.int (zI x3)), none] [] := by
  intro m
  induction m with
  | zero => intro u S A0 x2 x3 Rx2 Rx3 ho hZ hw; exact False.elim hw
  | succ m ihm => intro u S A0 x2 x3 Rx2 Rx3 ho hZ hw; exact cb_Program_land_4 hC hr  ihm Rx2 Rx3 ho hZ hw
set_option maxHeartbeats 4000000 in
set_option maxRecDepth 100000 in
theorem cm_Program_land (l : Launch) (d : gD) (b : Nat) {Y : gYt} {c : Nat × Nat} {F : gM} {k n : Nat} {S : gSt} {A0 : cS} {a0 : Int} (Ra0 : zR a0) {Q : cS → Prop} (hZ : yZ d b Y c F S (F, k, n) S A0) (hw : wc_Program_land A0 a0 Q) : hMv l d b yX7_land cX7_land 5 2 k n F [.ref (gO' Y 1), .int (zI a0)] (yPv d b Y c F S Q) := by
  intro mc ms
  refine hM_of2 rfl (nL := 5) (Nat.le_of_ble_eq_true rfl) ?_
  intro X hX hC hr ho; subst hX
  show yG X d b (yQv X d b Y c F S mc ms Q) (F, k, n) 0 [some (.ref (gO' Y 1)), some (.int (zI a0)), none, none, none] []
  unfold wc_Program_land at hw
  refine h_iload_n hC dX7_land_0 rfl ?_
  refine h_istore_n (lv' := [some (.ref (gO' Y 1)), some (.int (zI a0)), some (.int (zI a0)), none, none]) hC dX7_land_1 (Nat.le_of_ble_eq_true rfl) rfl rfl ?_
  refine h_iconst (v := zI 0) hC dX7_land_2 rfl ?_
  refine h_istore_n (lv' := [some (.ref (gO' Y 1)), some (.int (zI a0)), some (.int (zI a0)), some (.int (zI 0)), none]) hC dX7_land_3 (Nat.le_of_ble_eq_true rfl) rfl rfl ?_
  refine h_lv (lv' := [some (.ref (gO' Y 1)), none, some (.int (zI a0)), some (.int (zI 0)), none]) ⟨rfl, rfl, rfl, trivial⟩ ?_
  obtain ⟨m1, h2⟩ := hw
  exact cl_Program_land_4 hC hr  m1 _ _ _ _ _ Ra0 (by decide) ho hZ h2
def wc_Program_landAt_5B (Q : cS → Prop) (k5 : cS → Int → Int → Int → Prop) (A0 : cS) (x2 : Int) (x3 : Int) (x4 : Int) : Prop :=
  ((1000000 ≤ x4 → Q A0) ∧ (¬ 1000000 ≤ x4 → ((x3 ≤ 0 → Q A0) ∧ (¬ x3 ≤ 0 → (zR (x4 + 1)) ∧ k5 (yset A0 1 x3 x2) x2 (yget A0 1 x3) (x4 + 1)))))
def wc_Program_landAt_5 (Q : cS → Prop)  : Nat → cS → Int → Int → Int → Prop
  | 0 => fun _ _ _ _ => False
  | m + 1 => fun A0 x2 x3 x4 => wc_Program_landAt_5B Q  (wc_Program_landAt_5 Q  m) A0 x2 x3 x4
def wc_Program_landAt (A0 : cS) (a0 : Int) (a1 : Int) (Q : cS → Prop) : Prop :=
  ∃ n, wc_Program_landAt_5 Q  n A0 a1 a0 0
set_option maxHeartbeats 4000000 in
set_option maxRecDepth 100000 in
theorem cb_Program_landAt_5 {X : gX} {d : gD} {b : Nat} {Y : gYt} {c : Nat × Nat} {F0 : gM} {S0 : gSt} {mc ms : Nat} (hC : gC RX7 cX7_landAt 6 none "landAt" (gR 1 mc ms) d b X) (hr : hRm X b) {Q : cS → Prop} {k5 : cS → Int → Int → Int → Prop} (hk5 : ∀ (u : hU) (S : gSt) (A0 : cS) (x2 : Int) (x3 : Int) (x4 : Int), zR x2 → zR x3 → zR x4 → yOk X b u → yZ d b Y c F0 S0 u S A0 → k5 A0 x2 x3 x4 → yG X d b (yQv X d b Y c F0 S0 mc ms Q) u 5 [some (.ref (gO' Y 1)), none, some (.int (zI x2)), some (.int (zI x3)), some (.int (zI x4)), none] []) {u : hU} {S : gSt} {A0 : cS} {x2 : Int} {x3 : Int} {x4 : Int} (Rx2 : zR x2) (Rx3 : zR x3) (Rx4 : zR x4) (ho : yOk X b u) (hZ : yZ d b Y c F0 S0 u S A0) (hw : wc_Program_landAt_5B Q k5 A0 x2 x3 x4) : yG X d b (yQv X d b Y c F0 S0 mc ms Q) u 5 [some (.ref (gO' Y 1)), none, some (.int (zI x2)), some (.int (zI x3)), some (.int (zI x4)), none] [] := by
  unfold wc_Program_landAt_5B at hw
  refine h_iload hC dX7_landAt_5 rfl ?_
  refine yr_ldc (e := 1000000) hC dX7_landAt_7 kw_296 (by decide) ?_
  refine yr_icmp_ge (tgt := 44) hC Rx4 (by decide) dX7_landAt_9 (by decide) (fun c1 => ?_) (fun c1 => ?_)
  · have h2 := hw.1 c1
    exact yr_vret hC hr ho hZ h2 dX7_landAt_44
  · have h3 := hw.2 c1
    refine h_iload_n hC dX7_landAt_12 rfl ?_
    refine yr_if_le (tgt := 44) hC Rx3 dX7_landAt_13 (by decide) (fun c4 => ?_) (fun c4 => ?_)
    · have h5 := h3.1 c4
      exact yr_vret hC hr ho hZ h5 dX7_landAt_44
    · have h6 := h3.2 c4
      refine h_aload_n hC dX7_landAt_16 rfl ?_
      refine h_get hC fl_X7_15 (hZ.w.o 1 (by decide)) rfl dX7_landAt_17 ?_
      refine h_iload_n hC dX7_landAt_20 rfl ?_
      refine yr_get (j := 1) (e := (yget A0 1 x3)) hC hr ho hZ (by decide) Rx3 rfl cl_X7_70 rfl (Nat.le_of_ble_eq_true rfl) (hFr_of (Nat.le_of_ble_eq_true rfl) (Nat.le_of_ble_eq_true rfl)) dX7_landAt_21 ?_
      refine h_istore (lv' := [some (.ref (gO' Y 1)), none, some (.int (zI x2)), some (.int (zI x3)), some (.int (zI x4)), some (.int (zI (yget A0 1 x3)))]) hC dX7_landAt_24 (Nat.le_of_ble_eq_true rfl) rfl rfl ?_
      refine h_aload_n hC dX7_landAt_26 rfl ?_
      refine h_get hC fl_X7_15 (hZ.w.o 1 (by decide)) rfl dX7_landAt_27 ?_
      refine h_iload_n hC dX7_landAt_30 rfl ?_
      refine h_iload_n hC dX7_landAt_31 rfl ?_
      refine yr_set (j := 1) hC hr ho hZ (by decide) Rx3 Rx2 cl_X7_78 rfl (Nat.le_of_ble_eq_true rfl) (hFr_of (Nat.le_of_ble_eq_true rfl) (Nat.le_of_ble_eq_true rfl)) dX7_landAt_32 (fun u7 S8 o9 hZ10 => ?_)
      refine h_iload hC dX7_landAt_35 rfl ?_
      refine h_istore_n (lv' := [some (.ref (gO' Y 1)), none, some (.int (zI x2)), some (.int (zI (yget A0 1 x3))), some (.int (zI x4)), some (.int (zI (yget A0 1 x3)))]) hC dX7_landAt_37 (Nat.le_of_ble_eq_true rfl) rfl rfl ?_
      refine yr_iinc (x := x4) (lv' := [some (.ref (gO' Y 1)), none, some (.int (zI x2)), some (.int (zI (yget A0 1 x3))), some (.int (zI (x4 + 1))), some (.int (zI (yget A0 1 x3)))]) hC dX7_landAt_38 rfl rfl rfl ?_
      refine h_goto (tgt := 5) hC dX7_landAt_41 (by decide) ?_
      obtain ⟨o11, h12⟩ := h6
      refine h_lv (lv' := [some (.ref (gO' Y 1)), none, some (.int (zI x2)), some (.int (zI (yget A0 1 x3))), some (.int (zI (x4 + 1))), none]) ⟨rfl, rfl, rfl, rfl, trivial⟩ ?_
      exact hk5 _ _ _ _ _ _ Rx2 (hZ.rg 1 _) o11 o9 hZ10 h12
theorem cl_Program_landAt_5 {X : gX} {d : gD} {b : Nat} {Y : gYt} {c : Nat × Nat} {F0 : gM} {S0 : gSt} {mc ms : Nat} (hC : gC RX7 cX7_landAt 6 none "landAt" (gR 1 mc ms) d b X) (hr : hRm X b) {Q : cS → Prop}   : ∀ (m : Nat) (u : hU) (S : gSt) (A0 : cS) (x2 : Int) (x3 : Int) (x4 : Int), zR x2 → zR x3 → zR x4 → yOk X b u → yZ d b Y c F0 S0 u S A0 → wc_Program_landAt_5 Q  m A0 x2 x3 x4 → yG X d b (yQv X d b Y c F0 S0 mc ms Q) u 5 [some (.ref (gO' Y 1)), none, some (.int (zI x2)), some (.int (zI x3)), some (.int (zI x4)), none] [] := by
  intro m
  induction m with
  | zero => intro u S A0 x2 x3 x4 Rx2 Rx3 Rx4 ho hZ hw; exact False.elim hw
  | succ m ihm => intro u S A0 x2 x3 x4 Rx2 Rx3 Rx4 ho hZ hw; exact cb_Program_landAt_5 hC hr  ihm Rx2 Rx3 Rx4 ho hZ hw
set_option maxHeartbeats 4000000 in
set_option maxRecDepth 100000 in
theorem cm_Program_landAt (l : Launch) (d : gD) (b : Nat) {Y : gYt} {c : Nat × Nat} {F : gM} {k n : Nat} {S : gSt} {A0 : cS} {a0 : Int} {a1 : Int} (Ra0 : zR a0) (Ra1 : zR a1) {Q : cS → Prop} (hZ : yZ d b Y c F S (F, k, n) S A0) (hw : wc_Program_landAt A0 a0 a1 Q) : hMv l d b yX7_landAt cX7_landAt 6 1 k n F [.ref (gO' Y 1), .int (zI a0), .int (zI a1)] (yPv d b Y c F S Q) := by
  intro mc ms
  refine hM_of2 rfl (nL := 6) (Nat.le_of_ble_eq_true rfl) ?_
  intro X hX hC hr ho; subst hX
  show yG X d b (yQv X d b Y c F S mc ms Q) (F, k, n) 0 [some (.ref (gO' Y 1)), some (.int (zI a0)), some (.int (zI a1)), none, none, none] []
  unfold wc_Program_landAt at hw
  refine h_iload_n hC dX7_landAt_0 rfl ?_
  refine h_istore_n (lv' := [some (.ref (gO' Y 1)), some (.int (zI a0)), some (.int (zI a1)), some (.int (zI a0)), none, none]) hC dX7_landAt_1 (Nat.le_of_ble_eq_true rfl) rfl rfl ?_
  refine h_iconst (v := zI 0) hC dX7_landAt_2 rfl ?_
  refine h_istore (lv' := [some (.ref (gO' Y 1)), some (.int (zI a0)), some (.int (zI a1)), some (.int (zI a0)), some (.int (zI 0)), none]) hC dX7_landAt_3 (Nat.le_of_ble_eq_true rfl) rfl rfl ?_
  refine h_lv (lv' := [some (.ref (gO' Y 1)), none, some (.int (zI a1)), some (.int (zI a0)), some (.int (zI 0)), none]) ⟨rfl, rfl, rfl, rfl, trivial⟩ ?_
  obtain ⟨m1, h2⟩ := hw
  exact cl_Program_landAt_5 hC hr  m1 _ _ _ _ _ _ Ra1 Ra0 (by decide) ho hZ h2
