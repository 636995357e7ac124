theorem ffb_Parser_labels_2 {Q Q' : cS → Prop} {k2 k2' : cS → Int → Int → Prop} {s0 : cS} {x1 : Int} {x2 : Int} (hq : ∀ (A' : cS), ySm s0 A' [7, 8, 9, 10, 11, 12, 13] [10] → Q A' → Q' A') (fk2 : ∀ (A' : cS) (x0 : Int) (x1 : Int), ySm s0 A' [7, 8, 9, 10, 11, 12, 13] [10] → k2 A' x0 x1 → k2' A' x0 x1) (hw : wc_Parser_labels_2B Q k2 s0 x1 x2) : wc_Parser_labels_2B Q' k2' s0 x1 x2 := by
  unfold wc_Parser_labels_2B at hw ⊢
  refine ⟨fun c1 => ?_, fun c1 => ?_⟩
  · have h2 := hw.1 c1
    exact hq _ ySm.rf h2
  · have h3 := hw.2 c1
    refine ffm_Parser_kind h3 (fun r4 A5 f1 h11 => ?_)
    refine ⟨fun c12 => ?_, fun c12 => ?_⟩
    · have h13 := h11.1 c12
      exact hq _ (ySm.rf.tr f1 rfl rfl) h13
    · have h14 := h11.2 c12
      obtain ⟨o15, h16⟩ := h14
      refine ⟨o15, ?_⟩
      refine ⟨fun c17 => ?_, fun c17 => ?_⟩
      · have h18 := h16.1 c17
        exact hq _ (ySm.rf.tr f1 rfl rfl) h18
      · have h19 := h16.2 c17
        refine ffm_Parser_leaf h19 (fun r20 A21 f2 h27 => ?_)
        refine ffm_Tree_hang h27 (fun A29 f3 h35 => ?_)
        refine ffm_Parser_advance h35 (fun A37 f4 h43 => ?_)
        obtain ⟨o44, h45⟩ := h43
        refine ⟨o44, ?_⟩
        exact fk2 _ _ _ ((((ySm.rf.tr f1 rfl rfl).tr f2 rfl rfl).tr f3 rfl rfl).tr f4 rfl rfl) h45
theorem ffl_Parser_labels_20 {Q Q' : cS → Prop}  : ∀ (m : Nat) (s0 : cS) (x1 : Int) (x2 : Int), (∀ (A' : cS), ySm s0 A' [7, 8, 9, 10, 11, 12, 13] [10] → Q A' → Q' A') → wc_Parser_labels_2 Q  m s0 x1 x2 → wc_Parser_labels_2 Q'  m s0 x1 x2 := by
  intro m
  induction m with
  | zero => intro s0 x1 x2 hq  hw; exact hw
  | succ m ih => intro s0 x1 x2 hq  hw; exact ffb_Parser_labels_2 hq  (fun A' y0 y1 f1 q => ih A' y0 y1 (fun A' f q => hq A' (f1.tr f rfl rfl) q)  q) hw
theorem ffm_Parser_labels {s0 : cS} {a0 : Int} {Q Q' : cS → Prop} (hw : wc_Parser_labels s0 a0 Q) (hq : ∀ (A' : cS), ySm s0 A' [7, 8, 9, 10, 11, 12, 13] [10] → Q A' → Q' A') : wc_Parser_labels s0 a0 Q' := by
  unfold wc_Parser_labels at hw ⊢
  obtain ⟨m1, h2⟩ := hw
  exact ⟨m1, ffl_Parser_labels_20 m1 _ _ _ (fun A' f q => hq A' (ySm.rf.tr f rfl rfl) q)  h2⟩
theorem ffb_Parser_isOpen_2 {Q Q' : Int → cS → Prop} {k2 k2' : cS → Int → Int → Prop} {s0 : cS} {x1 : Int} {x2 : Int} (hq : ∀ (e : Int) (A' : cS), ySm s0 A' [] [] → Q e A' → Q' e A') (fk2 : ∀ (A' : cS) (x0 : Int) (x1 : Int), ySm s0 A' [] [] → k2 A' x0 x1 → k2' A' x0 x1) (hw : wc_Parser_isOpen_2B Q k2 s0 x1 x2) : wc_Parser_isOpen_2B Q' k2' s0 x1 x2 := by
  unfold wc_Parser_isOpen_2B at hw ⊢
  refine ⟨fun c1 => ?_, fun c1 => ?_⟩
  · have h2 := hw.1 c1
    exact hq _ _ ySm.rf h2
  · have h3 := hw.2 c1
    refine ⟨fun c4 => ?_, fun c4 => ?_⟩
    · have h5 := h3.1 c4
      obtain ⟨o6, h7⟩ := h5
      refine ⟨o6, ?_⟩
      exact fk2 _ _ _ ySm.rf h7
    · have h8 := h3.2 c4
      exact hq _ _ ySm.rf h8
theorem ffl_Parser_isOpen_20 {Q Q' : Int → cS → Prop}  : ∀ (m : Nat) (s0 : cS) (x1 : Int) (x2 : Int), (∀ (e : Int) (A' : cS), ySm s0 A' [] [] → Q e A' → Q' e A') → wc_Parser_isOpen_2 Q  m s0 x1 x2 → wc_Parser_isOpen_2 Q'  m s0 x1 x2 := by
  intro m
  induction m with
  | zero => intro s0 x1 x2 hq  hw; exact hw
  | succ m ih => intro s0 x1 x2 hq  hw; exact ffb_Parser_isOpen_2 hq  (fun A' y0 y1 f1 q => ih A' y0 y1 (fun e A' f q => hq e A' (f1.tr f rfl rfl) q)  q) hw
theorem ffm_Parser_isOpen {s0 : cS} {a0 : Int} {Q Q' : Int → cS → Prop} (hw : wc_Parser_isOpen s0 a0 Q) (hq : ∀ (e : Int) (A' : cS), ySm s0 A' [] [] → Q e A' → Q' e A') : wc_Parser_isOpen s0 a0 Q' := by
  unfold wc_Parser_isOpen at hw ⊢
  obtain ⟨m1, h2⟩ := hw
  exact ⟨m1, ffl_Parser_isOpen_20 m1 _ _ _ (fun e A' f q => hq e A' (ySm.rf.tr f rfl rfl) q)  h2⟩
theorem ffm_Parser_isCall {s0 : cS} {a0 : Int} {Q Q' : Int → cS → Prop} (hw : wc_Parser_isCall s0 a0 Q) (hq : ∀ (e : Int) (A' : cS), ySm s0 A' [] [] → Q e A' → Q' e A') : wc_Parser_isCall s0 a0 Q' := by
  unfold wc_Parser_isCall at hw ⊢
  refine ffm_Tree_first hw (fun r1 A2 f1 h8 => ?_)
  refine ffm_Tree_kind h8 (fun r9 A10 f2 h16 => ?_)
  refine ⟨fun c17 => ?_, fun c17 => ?_⟩
  · have h18 := h16.1 c17
    exact hq _ _ ((ySm.rf.tr f1 rfl rfl).tr f2 rfl rfl) h18
  · have h19 := h16.2 c17
    refine ffm_Tree_next h19 (fun r20 A21 f3 h27 => ?_)
    refine ⟨fun c28 => ?_, fun c28 => ?_⟩
    · have h29 := h27.1 c28
      exact hq _ _ (((ySm.rf.tr f1 rfl rfl).tr f2 rfl rfl).tr f3 rfl rfl) h29
    · have h30 := h27.2 c28
      exact hq _ _ (((ySm.rf.tr f1 rfl rfl).tr f2 rfl rfl).tr f3 rfl rfl) h30
theorem ffm_Parser_isRepeat {s0 : cS} {a0 : Int} {Q Q' : Int → cS → Prop} (hw : wc_Parser_isRepeat s0 a0 Q) (hq : ∀ (e : Int) (A' : cS), ySm s0 A' [] [] → Q e A' → Q' e A') : wc_Parser_isRepeat s0 a0 Q' := by
  unfold wc_Parser_isRepeat at hw ⊢
  refine ⟨fun c1 => ?_, fun c1 => ?_⟩
  · have h2 := hw.1 c1
    exact hq _ _ ySm.rf h2
  · have h3 := hw.2 c1
    refine ⟨fun c4 => ?_, fun c4 => ?_⟩
    · have h5 := h3.1 c4
      exact hq _ _ ySm.rf h5
    · have h6 := h3.2 c4
      exact hq _ _ ySm.rf h6
theorem ffb_Parser_pack_32 {Q Q' : Int → cS → Prop} {k20 k20' : cS → Int → Int → Int → Int → Prop} {k32 k32' : cS → Int → Int → Int → Int → Int → Int → Prop} {s0 : cS} {x1 : Int} {x2 : Int} {x3 : Int} {x4 : Int} {x5 : Int} {x6 : Int} (hq : ∀ (e : Int) (A' : cS), ySm s0 A' [2] [] → Q e A' → Q' e A') (fk20 : ∀ (A' : cS) (x0 : Int) (x1 : Int) (x2 : Int) (x3 : Int), ySm s0 A' [2] [] → k20 A' x0 x1 x2 x3 → k20' A' x0 x1 x2 x3) (fk32 : ∀ (A' : cS) (x0 : Int) (x1 : Int) (x2 : Int) (x3 : Int) (x4 : Int) (x5 : Int), ySm s0 A' [2] [] → k32 A' x0 x1 x2 x3 x4 x5 → k32' A' x0 x1 x2 x3 x4 x5) (hw : wc_Parser_pack_32B Q k20 k32 s0 x1 x2 x3 x4 x5 x6) : wc_Parser_pack_32B Q' k20' k32' s0 x1 x2 x3 x4 x5 x6 := by
  unfold wc_Parser_pack_32B at hw ⊢
  refine ⟨fun c1 => ?_, fun c1 => ?_⟩
  · have h2 := hw.1 c1
    refine ffm_Program_addWord h2 (fun r3 A4 f1 h10 => ?_)
    obtain ⟨o11, h12⟩ := h10
    refine ⟨o11, ?_⟩
    exact fk20 _ _ _ _ _ (ySm.rf.tr f1 rfl rfl) h12
  · have h13 := hw.2 c1
    obtain ⟨o14, h15⟩ := h13
    refine ⟨o14, ?_⟩
    refine ⟨fun c16 => ?_, fun c16 => ?_⟩
    · have h17 := h15.1 c16
      refine ffm_Program_addWord h17 (fun r18 A19 f2 h25 => ?_)
      obtain ⟨o26, h27⟩ := h25
      refine ⟨o26, ?_⟩
      exact fk20 _ _ _ _ _ (ySm.rf.tr f2 rfl rfl) h27
    · have h28 := h15.2 c16
      intro z29 e30 R31
      have h32 := h28 z29 e30 R31
      intro z33 e34 R35
      have h36 := h32 z33 e34 R35
      obtain ⟨o37, h38⟩ := h36
      refine ⟨o37, ?_⟩
      exact fk32 _ _ _ _ _ _ _ ySm.rf h38
theorem ffl_Parser_pack_320 {Q Q' : Int → cS → Prop} {k20 k20' : cS → Int → Int → Int → Int → Prop} : ∀ (m : Nat) (s0 : cS) (x1 : Int) (x2 : Int) (x3 : Int) (x4 : Int) (x5 : Int) (x6 : Int), (∀ (e : Int) (A' : cS), ySm s0 A' [2] [] → Q e A' → Q' e A') → (∀ (A' : cS) (x0 : Int) (x1 : Int) (x2 : Int) (x3 : Int), ySm s0 A' [2] [] → k20 A' x0 x1 x2 x3 → k20' A' x0 x1 x2 x3) → wc_Parser_pack_32 Q k20 m s0 x1 x2 x3 x4 x5 x6 → wc_Parser_pack_32 Q' k20' m s0 x1 x2 x3 x4 x5 x6 := by
  intro m
  induction m with
  | zero => intro s0 x1 x2 x3 x4 x5 x6 hq fk20 hw; exact hw
  | succ m ih => intro s0 x1 x2 x3 x4 x5 x6 hq fk20 hw; exact ffb_Parser_pack_32 hq fk20 (fun A' y0 y1 y2 y3 y4 y5 f1 q => ih A' y0 y1 y2 y3 y4 y5 (fun e A' f q => hq e A' (f1.tr f rfl rfl) q) (fun A' z0 z1 z2 z3 f q => fk20 A' z0 z1 z2 z3 (f1.tr f rfl rfl) q) q) hw
theorem ffb_Parser_pack_20 {Q Q' : Int → cS → Prop} {k20 k20' : cS → Int → Int → Int → Int → Prop} {s0 : cS} {x1 : Int} {x2 : Int} {x3 : Int} {x4 : Int} (hq : ∀ (e : Int) (A' : cS), ySm s0 A' [2] [] → Q e A' → Q' e A') (fk20 : ∀ (A' : cS) (x0 : Int) (x1 : Int) (x2 : Int) (x3 : Int), ySm s0 A' [2] [] → k20 A' x0 x1 x2 x3 → k20' A' x0 x1 x2 x3) (hw : wc_Parser_pack_20B Q k20 s0 x1 x2 x3 x4) : wc_Parser_pack_20B Q' k20' s0 x1 x2 x3 x4 := by
  unfold wc_Parser_pack_20B at hw ⊢
  refine ⟨fun c1 => ?_, fun c1 => ?_⟩
  · have h2 := hw.1 c1
    exact hq _ _ ySm.rf h2
  · have h3 := hw.2 c1
    obtain ⟨m4, h5⟩ := h3
    exact ⟨m4, ffl_Parser_pack_320 m4 _ _ _ _ _ _ _ (fun e A' f q => hq e A' (ySm.rf.tr f rfl rfl) q) (fun A' x0 x1 x2 x3 f q => fk20 A' x0 x1 x2 x3 (ySm.rf.tr f rfl rfl) q) h5⟩
theorem ffl_Parser_pack_200 {Q Q' : Int → cS → Prop}  : ∀ (m : Nat) (s0 : cS) (x1 : Int) (x2 : Int) (x3 : Int) (x4 : Int), (∀ (e : Int) (A' : cS), ySm s0 A' [2] [] → Q e A' → Q' e A') → wc_Parser_pack_20 Q  m s0 x1 x2 x3 x4 → wc_Parser_pack_20 Q'  m s0 x1 x2 x3 x4 := by
  intro m
  induction m with
  | zero => intro s0 x1 x2 x3 x4 hq  hw; exact hw
  | succ m ih => intro s0 x1 x2 x3 x4 hq  hw; exact ffb_Parser_pack_20 hq  (fun A' y0 y1 y2 y3 f1 q => ih A' y0 y1 y2 y3 (fun e A' f q => hq e A' (f1.tr f rfl rfl) q)  q) hw
theorem ffm_Parser_pack {s0 : cS} {a0 : Int} {Q Q' : Int → cS → Prop} (hw : wc_Parser_pack s0 a0 Q) (hq : ∀ (e : Int) (A' : cS), ySm s0 A' [2] [] → Q e A' → Q' e A') : wc_Parser_pack s0 a0 Q' := by
  unfold wc_Parser_pack at hw ⊢
  refine ffm_Program_words hw (fun r1 A2 f1 h8 => ?_)
  obtain ⟨m9, h10⟩ := h8
  exact ⟨m9, ffl_Parser_pack_200 m9 _ _ _ _ _ (fun e A' f q => hq e A' ((ySm.rf.tr f1 rfl rfl).tr f rfl rfl) q)  h10⟩
theorem ffj_Parser_hangSigns_80 {Q Q' : cS → Prop} {k2 k2' : cS → Int → Int → Int → Prop} {s0 : cS} {x1 : Int} {x2 : Int} {x3 : Int} {x4 : Int} {x5 : Int} {x6 : Int} {y0 : Int} (hq : ∀ (A' : cS), ySm s0 A' [7, 8, 9, 10, 11, 12, 13, 22] [] → Q A' → Q' A') (fk2 : ∀ (A' : cS) (x0 : Int) (x1 : Int) (x2 : Int), ySm s0 A' [7, 8, 9, 10, 11, 12, 13, 22] [] → k2 A' x0 x1 x2 → k2' A' x0 x1 x2) (hw : wc_Parser_hangSigns_80 Q k2 s0 x1 x2 x3 x4 x5 x6 y0) : wc_Parser_hangSigns_80 Q' k2' s0 x1 x2 x3 x4 x5 x6 y0 := by
  unfold wc_Parser_hangSigns_80 at hw ⊢
  refine ⟨fun c1 => ?_, fun c1 => ?_⟩
  · have h2 := hw.1 c1
    refine ffm_Tree_node h2 (fun r3 A4 f1 h10 => ?_)
    refine ffm_Tree_hang h10 (fun A12 f2 h18 => ?_)
    obtain ⟨o19, h20⟩ := h18
    refine ⟨o19, ?_⟩
    exact fk2 _ _ _ _ ((ySm.rf.tr f1 rfl rfl).tr f2 rfl rfl) h20
  · have h21 := hw.2 c1
    refine ffm_Tree_node h21 (fun r22 A23 f3 h29 => ?_)
    refine ffm_Tree_hang h29 (fun A31 f4 h37 => ?_)
    obtain ⟨o38, h39⟩ := h37
    refine ⟨o38, ?_⟩
    exact fk2 _ _ _ _ ((ySm.rf.tr f3 rfl rfl).tr f4 rfl rfl) h39
theorem ffb_Parser_hangSigns_2 {Q Q' : cS → Prop} {k2 k2' : cS → Int → Int → Int → Prop} {s0 : cS} {x1 : Int} {x2 : Int} {x3 : Int} (hq : ∀ (A' : cS), ySm s0 A' [7, 8, 9, 10, 11, 12, 13, 22] [] → Q A' → Q' A') (fk2 : ∀ (A' : cS) (x0 : Int) (x1 : Int) (x2 : Int), ySm s0 A' [7, 8, 9, 10, 11, 12, 13, 22] [] → k2 A' x0 x1 x2 → k2' A' x0 x1 x2) (hw : wc_Parser_hangSigns_2B Q k2 s0 x1 x2 x3) : wc_Parser_hangSigns_2B Q' k2' s0 x1 x2 x3 := by
  unfold wc_Parser_hangSigns_2B at hw ⊢
  refine ⟨fun c1 => ?_, fun c1 => ?_⟩
  · have h2 := hw.1 c1
    exact hq _ ySm.rf h2
  · have h3 := hw.2 c1
    refine ⟨fun c4 => ?_, fun c4 => ?_⟩
    · have h5 := h3.1 c4
      exact hq _ ySm.rf h5
    · have h6 := h3.2 c4
      intro z7 e8 R9
      have h10 := h6 z7 e8 R9
      refine ⟨fun c19 => ?_, fun c19 => ?_⟩
      · have h20 := h10.1 c19
        refine ⟨fun c21 => ?_, fun c21 => ?_⟩
        · have h22 := h20.1 c21
          exact ffj_Parser_hangSigns_80 (fun A' f q => hq A' (((ySm.rf.pop rfl).pop rfl).tr f rfl rfl) q) (fun A' x0 x1 x2 f q => fk2 A' x0 x1 x2 (((ySm.rf.pop rfl).pop rfl).tr f rfl rfl) q) h22
        · have h23 := h20.2 c21
          exact ffj_Parser_hangSigns_80 (fun A' f q => hq A' (((ySm.rf.pop rfl).pop rfl).tr f rfl rfl) q) (fun A' x0 x1 x2 f q => fk2 A' x0 x1 x2 (((ySm.rf.pop rfl).pop rfl).tr f rfl rfl) q) h23
      · have h24 := h10.2 c19
        exact ffj_Parser_hangSigns_80 (fun A' f q => hq A' (((ySm.rf.pop rfl).pop rfl).tr f rfl rfl) q) (fun A' x0 x1 x2 f q => fk2 A' x0 x1 x2 (((ySm.rf.pop rfl).pop rfl).tr f rfl rfl) q) h24
theorem ffl_Parser_hangSigns_20 {Q Q' : cS → Prop}  : ∀ (m : Nat) (s0 : cS) (x1 : Int) (x2 : Int) (x3 : Int), (∀ (A' : cS), ySm s0 A' [7, 8, 9, 10, 11, 12, 13, 22] [] → Q A' → Q' A') → wc_Parser_hangSigns_2 Q  m s0 x1 x2 x3 → wc_Parser_hangSigns_2 Q'  m s0 x1 x2 x3 := by
  intro m
  induction m with
  | zero => intro s0 x1 x2 x3 hq  hw; exact hw
  | succ m ih => intro s0 x1 x2 x3 hq  hw; exact ffb_Parser_hangSigns_2 hq  (fun A' y0 y1 y2 f1 q => ih A' y0 y1 y2 (fun A' f q => hq A' (f1.tr f rfl rfl) q)  q) hw
theorem ffm_Parser_hangSigns {s0 : cS} {a0 : Int} {a1 : Int} {Q Q' : cS → Prop} (hw : wc_Parser_hangSigns s0 a0 a1 Q) (hq : ∀ (A' : cS), ySm s0 A' [7, 8, 9, 10, 11, 12, 13, 22] [] → Q A' → Q' A') : wc_Parser_hangSigns s0 a0 a1 Q' := by
  unfold wc_Parser_hangSigns at hw ⊢
  obtain ⟨m1, h2⟩ := hw
  exact ⟨m1, ffl_Parser_hangSigns_20 m1 _ _ _ _ (fun A' f q => hq A' (ySm.rf.tr f rfl rfl) q)  h2⟩
theorem ffb_Parser_settle_3 {Q Q' : cS → Prop} {k3 k3' : cS → Int → Int → Int → Int → Prop} {s0 : cS} {x1 : Int} {x2 : Int} {x3 : Int} {x4 : Int} (hq : ∀ (A' : cS), ySm s0 A' [7, 8, 9, 10, 11, 12, 13, 22] [] → Q A' → Q' A') (fk3 : ∀ (A' : cS) (x0 : Int) (x1 : Int) (x2 : Int) (x3 : Int), ySm s0 A' [7, 8, 9, 10, 11, 12, 13, 22] [] → k3 A' x0 x1 x2 x3 → k3' A' x0 x1 x2 x3) (hw : wc_Parser_settle_3B Q k3 s0 x1 x2 x3 x4) : wc_Parser_settle_3B Q' k3' s0 x1 x2 x3 x4 := by
  unfold wc_Parser_settle_3B at hw ⊢
  refine ⟨fun c1 => ?_, fun c1 => ?_⟩
  · have h2 := hw.1 c1
    exact hq _ ySm.rf h2
  · have h3 := hw.2 c1
    refine ⟨fun c4 => ?_, fun c4 => ?_⟩
    · have h5 := h3.1 c4
      exact hq _ ySm.rf h5
    · have h6 := h3.2 c4
      intro z7 e8 R9
      have h10 := h6 z7 e8 R9
      refine ffm_W_power h10 (fun r11 A12 f1 h18 => ?_)
      refine ffm_W_power h18 (fun r19 A20 f2 h26 => ?_)
      refine ⟨fun c27 => ?_, fun c27 => ?_⟩
      · have h28 := h26.1 c27
        refine ffm_Tree_node h28 (fun r33 A34 f3 h40 => ?_)
        refine ffm_W_isRelation h40 (fun r41 A42 f4 h48 => ?_)
        refine ⟨fun c49 => ?_, fun c49 => ?_⟩
        · have h50 := h48.1 c49
          refine ffm_Tree_setExtra h50 (fun A52 f5 h58 => ?_)
          refine ffm_Tree_hang h58 (fun A60 f6 h66 => ?_)
          obtain ⟨o67, h68⟩ := h66
          refine ⟨o67, ?_⟩
          exact fk3 _ _ _ _ _ (((((((ySm.rf.tr f1 rfl rfl).tr f2 rfl rfl).pop rfl).tr f3 rfl rfl).tr f4 rfl rfl).tr f5 rfl rfl).tr f6 rfl rfl) h68
        · have h69 := h48.2 c49
          refine ffm_W_isRelation h69 (fun r70 A71 f7 h77 => ?_)
          refine ⟨fun c78 => ?_, fun c78 => ?_⟩
          · have h79 := h77.1 c78
            refine ffm_Tree_setExtra h79 (fun A81 f8 h87 => ?_)
            refine ffm_Tree_hang h87 (fun A89 f9 h95 => ?_)
            obtain ⟨o96, h97⟩ := h95
            refine ⟨o96, ?_⟩
            exact fk3 _ _ _ _ _ ((((((((ySm.rf.tr f1 rfl rfl).tr f2 rfl rfl).pop rfl).tr f3 rfl rfl).tr f4 rfl rfl).tr f7 rfl rfl).tr f8 rfl rfl).tr f9 rfl rfl) h97
          · have h98 := h77.2 c78
            refine ffm_Tree_setExtra h98 (fun A100 f10 h106 => ?_)
            refine ffm_Tree_hang h106 (fun A108 f11 h114 => ?_)
            obtain ⟨o115, h116⟩ := h114
            refine ⟨o115, ?_⟩
            exact fk3 _ _ _ _ _ ((((((((ySm.rf.tr f1 rfl rfl).tr f2 rfl rfl).pop rfl).tr f3 rfl rfl).tr f4 rfl rfl).tr f7 rfl rfl).tr f10 rfl rfl).tr f11 rfl rfl) h116
      · have h117 := h26.2 c27
        exact hq _ ((ySm.rf.tr f1 rfl rfl).tr f2 rfl rfl) h117
theorem ffl_Parser_settle_30 {Q Q' : cS → Prop}  : ∀ (m : Nat) (s0 : cS) (x1 : Int) (x2 : Int) (x3 : Int) (x4 : Int), (∀ (A' : cS), ySm s0 A' [7, 8, 9, 10, 11, 12, 13, 22] [] → Q A' → Q' A') → wc_Parser_settle_3 Q  m s0 x1 x2 x3 x4 → wc_Parser_settle_3 Q'  m s0 x1 x2 x3 x4 := by
  intro m
  induction m with
  | zero => intro s0 x1 x2 x3 x4 hq  hw; exact hw
  | succ m ih => intro s0 x1 x2 x3 x4 hq  hw; exact ffb_Parser_settle_3 hq  (fun A' y0 y1 y2 y3 f1 q => ih A' y0 y1 y2 y3 (fun A' f q => hq A' (f1.tr f rfl rfl) q)  q) hw
theorem ffm_Parser_settle {s0 : cS} {a0 : Int} {a1 : Int} {a2 : Int} {Q Q' : cS → Prop} (hw : wc_Parser_settle s0 a0 a1 a2 Q) (hq : ∀ (A' : cS), ySm s0 A' [7, 8, 9, 10, 11, 12, 13, 22] [] → Q A' → Q' A') : wc_Parser_settle s0 a0 a1 a2 Q' := by
  unfold wc_Parser_settle at hw ⊢
  obtain ⟨m1, h2⟩ := hw
  exact ⟨m1, ffl_Parser_settle_30 m1 _ _ _ _ _ (fun A' f q => hq A' (ySm.rf.tr f rfl rfl) q)  h2⟩
theorem ffb_Parser_isGlobal_2 {Q Q' : Int → cS → Prop} {k2 k2' : cS → Int → Int → Prop} {s0 : cS} {x1 : Int} {x2 : Int} (hq : ∀ (e : Int) (A' : cS), ySm s0 A' [] [] → Q e A' → Q' e A') (fk2 : ∀ (A' : cS) (x0 : Int) (x1 : Int), ySm s0 A' [] [] → k2 A' x0 x1 → k2' A' x0 x1) (hw : wc_Parser_isGlobal_2B Q k2 s0 x1 x2) : wc_Parser_isGlobal_2B Q' k2' s0 x1 x2 := by
  unfold wc_Parser_isGlobal_2B at hw ⊢
  refine ⟨fun c1 => ?_, fun c1 => ?_⟩
  · have h2 := hw.1 c1
    exact hq _ _ ySm.rf h2
  · have h3 := hw.2 c1
    refine ⟨fun c4 => ?_, fun c4 => ?_⟩
    · have h5 := h3.1 c4
      obtain ⟨o6, h7⟩ := h5
      refine ⟨o6, ?_⟩
      exact fk2 _ _ _ ySm.rf h7
    · have h8 := h3.2 c4
      exact hq _ _ ySm.rf h8
theorem ffl_Parser_isGlobal_20 {Q Q' : Int → cS → Prop}  : ∀ (m : Nat) (s0 : cS) (x1 : Int) (x2 : Int), (∀ (e : Int) (A' : cS), ySm s0 A' [] [] → Q e A' → Q' e A') → wc_Parser_isGlobal_2 Q  m s0 x1 x2 → wc_Parser_isGlobal_2 Q'  m s0 x1 x2 := by
  intro m
  induction m with
  | zero => intro s0 x1 x2 hq  hw; exact hw
  | succ m ih => intro s0 x1 x2 hq  hw; exact ffb_Parser_isGlobal_2 hq  (fun A' y0 y1 f1 q => ih A' y0 y1 (fun e A' f q => hq e A' (f1.tr f rfl rfl) q)  q) hw
theorem ffm_Parser_isGlobal {s0 : cS} {a0 : Int} {Q Q' : Int → cS → Prop} (hw : wc_Parser_isGlobal s0 a0 Q) (hq : ∀ (e : Int) (A' : cS), ySm s0 A' [] [] → Q e A' → Q' e A') : wc_Parser_isGlobal s0 a0 Q' := by
  unfold wc_Parser_isGlobal at hw ⊢
  obtain ⟨m1, h2⟩ := hw
  exact ⟨m1, ffl_Parser_isGlobal_20 m1 _ _ _ (fun e A' f q => hq e A' (ySm.rf.tr f rfl rfl) q)  h2⟩
theorem ffm_Parser_refuse {s0 : cS}  {Q Q' : cS → Prop} {E E' : cS → Prop} (hw : wc_Parser_refuse s0  Q E) (hq : ∀ (A' : cS), ySm s0 A' [] [4, 5] → Q A' → Q' A') (hE : ∀ (A' : cS), ySm s0 A' [] [4, 5] → E A' → E' A') : wc_Parser_refuse s0  Q' E' := by
  unfold wc_Parser_refuse at hw ⊢
  refine ⟨fun c1 => ?_, fun c1 => ?_⟩
  · have h2 := hw.1 c1
    refine ffm_Program_blame h2 (fun A4 f1 h10 => ?_)
    exact hE _ (ySm.rf.tr f1 rfl rfl) h10
  · have h11 := hw.2 c1
    refine ffm_Program_blame h11 (fun A13 f2 h19 => ?_)
    exact hE _ (ySm.rf.tr f2 rfl rfl) h19
theorem ffm_Parser_enter {s0 : cS}  {Q Q' : cS → Prop} {E E' : cS → Prop} (hw : wc_Parser_enter s0  Q E) (hq : ∀ (A' : cS), ySm s0 A' [] [4, 5, 11] → Q A' → Q' A') (hE : ∀ (A' : cS), ySm s0 A' [] [4, 5, 11] → E A' → E' A') : wc_Parser_enter s0  Q' E' := by
  unfold wc_Parser_enter at hw ⊢
  refine ⟨fun c1 => ?_, fun c1 => ?_⟩
  · have h2 := hw.1 c1
    obtain ⟨o3, h4⟩ := h2
    refine ⟨o3, ?_⟩
    exact hq _ (ySm.rf.pv rfl) h4
  · have h16 := hw.2 c1
    refine ffm_Parser_refuse h16 (fun A18 f1 h24 => ?_) (fun Ae fe qe => hE Ae (ySm.rf.tr fe rfl rfl) qe)
    obtain ⟨o25, h26⟩ := h24
    refine ⟨o25, ?_⟩
    exact hq _ ((ySm.rf.tr f1 rfl rfl).pv rfl) h26
theorem ffm_Parser_open {s0 : cS}  {Q Q' : cS → Prop} {E E' : cS → Prop} (hw : wc_Parser_open s0  Q E) (hq : ∀ (A' : cS), ySm s0 A' [21] [4, 5, 10, 11] → Q A' → Q' A') (hE : ∀ (A' : cS), ySm s0 A' [21] [4, 5, 10, 11] → E A' → E' A') : wc_Parser_open s0  Q' E' := by
  unfold wc_Parser_open at hw ⊢
  refine ffm_Parser_kind hw (fun r1 A2 f1 h8 => ?_)
  refine ⟨fun c9 => ?_, fun c9 => ?_⟩
  · have h10 := h8.1 c9
    refine ffm_Parser_enter h10 (fun A12 f2 h18 => ?_) (fun Ae fe qe => hE Ae ((ySm.rf.tr f1 rfl rfl).tr fe rfl rfl) qe)
    refine ffm_Parser_info h18 (fun r19 A20 f3 h26 => ?_)
    obtain ⟨o31, h32⟩ := h26
    refine ⟨o31, ?_⟩
    refine ffm_Parser_advance h32 (fun A34 f4 h40 => ?_)
    exact hq _ (((((ySm.rf.tr f1 rfl rfl).tr f2 rfl rfl).tr f3 rfl rfl).add rfl).tr f4 rfl rfl) h40
  · have h41 := h8.2 c9
    refine ffm_Parser_refuse h41 (fun A43 f5 h49 => ?_) (fun Ae fe qe => hE Ae ((ySm.rf.tr f1 rfl rfl).tr fe rfl rfl) qe)
    refine ffm_Parser_enter h49 (fun A51 f6 h57 => ?_) (fun Ae fe qe => hE Ae (((ySm.rf.tr f1 rfl rfl).tr f5 rfl rfl).tr fe rfl rfl) qe)
    refine ffm_Parser_info h57 (fun r58 A59 f7 h65 => ?_)
    obtain ⟨o70, h71⟩ := h65
    refine ⟨o70, ?_⟩
    refine ffm_Parser_advance h71 (fun A73 f8 h79 => ?_)
    exact hq _ ((((((ySm.rf.tr f1 rfl rfl).tr f5 rfl rfl).tr f6 rfl rfl).tr f7 rfl rfl).add rfl).tr f8 rfl rfl) h79
theorem ffm_Parser_due {s0 : cS} {a0 : Int} {Q Q' : cS → Prop} {E E' : cS → Prop} (hw : wc_Parser_due s0 a0 Q E) (hq : ∀ (A' : cS), ySm s0 A' [] [4, 5, 10] → Q A' → Q' A') (hE : ∀ (A' : cS), ySm s0 A' [] [4, 5, 10] → E A' → E' A') : wc_Parser_due s0 a0 Q' E' := by
  unfold wc_Parser_due at hw ⊢
  refine ffm_Parser_kind hw (fun r1 A2 f1 h8 => ?_)
  refine ⟨fun c9 => ?_, fun c9 => ?_⟩
  · have h10 := h8.1 c9
    refine ffm_Parser_advance h10 (fun A12 f2 h18 => ?_)
    exact hq _ ((ySm.rf.tr f1 rfl rfl).tr f2 rfl rfl) h18
  · have h19 := h8.2 c9
    refine ffm_Parser_refuse h19 (fun A21 f3 h27 => ?_) (fun Ae fe qe => hE Ae ((ySm.rf.tr f1 rfl rfl).tr fe rfl rfl) qe)
    refine ffm_Parser_advance h27 (fun A29 f4 h35 => ?_)
    exact hq _ (((ySm.rf.tr f1 rfl rfl).tr f3 rfl rfl).tr f4 rfl rfl) h35
theorem ffm_Parser_nameDue {s0 : cS}  {Q Q' : Int → cS → Prop} {E E' : cS → Prop} (hw : wc_Parser_nameDue s0  Q E) (hq : ∀ (e : Int) (A' : cS), ySm s0 A' [] [4, 5, 10] → Q e A' → Q' e A') (hE : ∀ (A' : cS), ySm s0 A' [] [4, 5, 10] → E A' → E' A') : wc_Parser_nameDue s0  Q' E' := by
  unfold wc_Parser_nameDue at hw ⊢
  refine ffm_Parser_info hw (fun r1 A2 f1 h8 => ?_)
  refine ffm_Parser_due h8 (fun A10 f2 h16 => ?_) (fun Ae fe qe => hE Ae ((ySm.rf.tr f1 rfl rfl).tr fe rfl rfl) qe)
  exact hq _ _ ((ySm.rf.tr f1 rfl rfl).tr f2 rfl rfl) h16
theorem ffj_Parser_passSigns_80 {Q Q' : cS → Prop} {E E' : cS → Prop} {k4 k4' : cS → Int → Int → Prop} {s0 : cS} {x2 : Int} {x3 : Int} {x4 : Int} {x5 : Int} (hq : ∀ (A' : cS), ySm s0 A' [22] [4, 5, 10, 11] → Q A' → Q' A') (hE : ∀ (A' : cS), ySm s0 A' [22] [4, 5, 10, 11] → E A' → E' A') (fk4 : ∀ (A' : cS) (x0 : Int) (x1 : Int), ySm s0 A' [22] [4, 5, 10, 11] → k4 A' x0 x1 → k4' A' x0 x1) (hw : wc_Parser_passSigns_80 Q E k4 s0 x2 x3 x4 x5) : wc_Parser_passSigns_80 Q' E' k4' s0 x2 x3 x4 x5 := by
  unfold wc_Parser_passSigns_80 at hw ⊢
  refine ⟨fun c1 => ?_, fun c1 => ?_⟩
  · have h2 := hw.1 c1
    refine ffm_Parser_enter h2 (fun A4 f1 h10 => ?_) (fun Ae fe qe => hE Ae (ySm.rf.tr fe rfl rfl) qe)
    refine ffm_Parser_place h10 (fun r11 A12 f2 h18 => ?_)
    intro z19 e20 R21
    have h22 := h18 z19 e20 R21
    intro z23 e24 R25
    have h26 := h22 z23 e24 R25
    refine ffm_Parser_advance h26 (fun A28 f3 h34 => ?_)
    refine ffm_Parser_place h34 (fun r35 A36 f4 h42 => ?_)
    obtain ⟨o47, h48⟩ := h42
    refine ⟨o47, ?_⟩
    obtain ⟨o53, h54⟩ := h48
    refine ⟨o53, ?_⟩
    obtain ⟨o55, h56⟩ := h54
    refine ⟨o55, ?_⟩
    exact fk4 _ _ _ ((((((ySm.rf.tr f1 rfl rfl).tr f2 rfl rfl).tr f3 rfl rfl).tr f4 rfl rfl).add rfl).add rfl) h56
  · have h57 := hw.2 c1
    refine ⟨fun c58 => ?_, fun c58 => ?_⟩
    · have h59 := h57.1 c58
      refine ffm_Parser_enter h59 (fun A61 f5 h67 => ?_) (fun Ae fe qe => hE Ae (ySm.rf.tr fe rfl rfl) qe)
      refine ffm_Parser_place h67 (fun r68 A69 f6 h75 => ?_)
      intro z76 e77 R78
      have h79 := h75 z76 e77 R78
      intro z80 e81 R82
      have h83 := h79 z80 e81 R82
      refine ffm_Parser_advance h83 (fun A85 f7 h91 => ?_)
      refine ffm_Parser_place h91 (fun r92 A93 f8 h99 => ?_)
      obtain ⟨o104, h105⟩ := h99
      refine ⟨o104, ?_⟩
      obtain ⟨o110, h111⟩ := h105
      refine ⟨o110, ?_⟩
      obtain ⟨o112, h113⟩ := h111
      refine ⟨o112, ?_⟩
      exact fk4 _ _ _ ((((((ySm.rf.tr f5 rfl rfl).tr f6 rfl rfl).tr f7 rfl rfl).tr f8 rfl rfl).add rfl).add rfl) h113
    · have h114 := h57.2 c58
      refine ffm_Parser_enter h114 (fun A116 f9 h122 => ?_) (fun Ae fe qe => hE Ae (ySm.rf.tr fe rfl rfl) qe)
      refine ffm_Parser_place h122 (fun r123 A124 f10 h130 => ?_)
      intro z131 e132 R133
      have h134 := h130 z131 e132 R133
      intro z135 e136 R137
      have h138 := h134 z135 e136 R137
      refine ffm_Parser_advance h138 (fun A140 f11 h146 => ?_)
      refine ffm_Parser_place h146 (fun r147 A148 f12 h154 => ?_)
      obtain ⟨o159, h160⟩ := h154
      refine ⟨o159, ?_⟩
      obtain ⟨o165, h166⟩ := h160
      refine ⟨o165, ?_⟩
      obtain ⟨o167, h168⟩ := h166
      refine ⟨o167, ?_⟩
      exact fk4 _ _ _ ((((((ySm.rf.tr f9 rfl rfl).tr f10 rfl rfl).tr f11 rfl rfl).tr f12 rfl rfl).add rfl).add rfl) h168
theorem ffj_Parser_passSigns_42 {Q Q' : cS → Prop} {E E' : cS → Prop} {k4 k4' : cS → Int → Int → Prop} {s0 : cS} {x2 : Int} {x3 : Int} {x4 : Int} {y0 : Int} (hq : ∀ (A' : cS), ySm s0 A' [22] [4, 5, 10, 11] → Q A' → Q' A') (hE : ∀ (A' : cS), ySm s0 A' [22] [4, 5, 10, 11] → E A' → E' A') (fk4 : ∀ (A' : cS) (x0 : Int) (x1 : Int), ySm s0 A' [22] [4, 5, 10, 11] → k4 A' x0 x1 → k4' A' x0 x1) (hw : wc_Parser_passSigns_42 Q E k4 s0 x2 x3 x4 y0) : wc_Parser_passSigns_42 Q' E' k4' s0 x2 x3 x4 y0 := by
  unfold wc_Parser_passSigns_42 at hw ⊢
  refine ⟨fun c1 => ?_, fun c1 => ?_⟩
  · have h2 := hw.1 c1
    exact ffj_Parser_passSigns_80 (fun A' f q => hq A' (ySm.rf.tr f rfl rfl) q) (fun A' f q => hE A' (ySm.rf.tr f rfl rfl) q) (fun A' x0 x1 f q => fk4 A' x0 x1 (ySm.rf.tr f rfl rfl) q) h2
  · have h4 := hw.2 c1
    refine ⟨fun c5 => ?_, fun c5 => ?_⟩
    · have h6 := h4.1 c5
      refine ⟨fun c8 => ?_, fun c8 => ?_⟩
      · have h9 := h6.1 c8
        exact hq _ ySm.rf h9
      · have h10 := h6.2 c8
        refine ⟨fun c11 => ?_, fun c11 => ?_⟩
        · have h12 := h10.1 c11
          exact ffj_Parser_passSigns_80 (fun A' f q => hq A' (ySm.rf.tr f rfl rfl) q) (fun A' f q => hE A' (ySm.rf.tr f rfl rfl) q) (fun A' x0 x1 f q => fk4 A' x0 x1 (ySm.rf.tr f rfl rfl) q) h12
        · have h13 := h10.2 c11
          exact hq _ ySm.rf h13
    · have h14 := h4.2 c5
      exact ffj_Parser_passSigns_80 (fun A' f q => hq A' (ySm.rf.tr f rfl rfl) q) (fun A' f q => hE A' (ySm.rf.tr f rfl rfl) q) (fun A' x0 x1 f q => fk4 A' x0 x1 (ySm.rf.tr f rfl rfl) q) h14
theorem ffb_Parser_passSigns_4 {Q Q' : cS → Prop} {E E' : cS → Prop} {k4 k4' : cS → Int → Int → Prop} {s0 : cS} {x2 : Int} {x3 : Int} (hq : ∀ (A' : cS), ySm s0 A' [22] [4, 5, 10, 11] → Q A' → Q' A') (hE : ∀ (A' : cS), ySm s0 A' [22] [4, 5, 10, 11] → E A' → E' A') (fk4 : ∀ (A' : cS) (x0 : Int) (x1 : Int), ySm s0 A' [22] [4, 5, 10, 11] → k4 A' x0 x1 → k4' A' x0 x1) (hw : wc_Parser_passSigns_4B Q E k4 s0 x2 x3) : wc_Parser_passSigns_4B Q' E' k4' s0 x2 x3 := by
  unfold wc_Parser_passSigns_4B at hw ⊢
  refine ⟨fun c1 => ?_, fun c1 => ?_⟩
  · have h2 := hw.1 c1
    exact hq _ ySm.rf h2
  · have h3 := hw.2 c1
    refine ffm_Parser_kind h3 (fun r4 A5 f1 h11 => ?_)
    refine ⟨fun c12 => ?_, fun c12 => ?_⟩
    · have h13 := h11.1 c12
      exact ffj_Parser_passSigns_42 (fun A' f q => hq A' ((ySm.rf.tr f1 rfl rfl).tr f rfl rfl) q) (fun A' f q => hE A' ((ySm.rf.tr f1 rfl rfl).tr f rfl rfl) q) (fun A' x0 x1 f q => fk4 A' x0 x1 ((ySm.rf.tr f1 rfl rfl).tr f rfl rfl) q) h13
    · have h14 := h11.2 c12
      refine ⟨fun c15 => ?_, fun c15 => ?_⟩
      · have h16 := h14.1 c15
        exact ffj_Parser_passSigns_42 (fun A' f q => hq A' ((ySm.rf.tr f1 rfl rfl).tr f rfl rfl) q) (fun A' f q => hE A' ((ySm.rf.tr f1 rfl rfl).tr f rfl rfl) q) (fun A' x0 x1 f q => fk4 A' x0 x1 ((ySm.rf.tr f1 rfl rfl).tr f rfl rfl) q) h16
      · have h17 := h14.2 c15
        refine ⟨fun c18 => ?_, fun c18 => ?_⟩
        · have h19 := h17.1 c18
          exact ffj_Parser_passSigns_42 (fun A' f q => hq A' ((ySm.rf.tr f1 rfl rfl).tr f rfl rfl) q) (fun A' f q => hE A' ((ySm.rf.tr f1 rfl rfl).tr f rfl rfl) q) (fun A' x0 x1 f q => fk4 A' x0 x1 ((ySm.rf.tr f1 rfl rfl).tr f rfl rfl) q) h19
        · have h20 := h17.2 c18
          exact ffj_Parser_passSigns_42 (fun A' f q => hq A' ((ySm.rf.tr f1 rfl rfl).tr f rfl rfl) q) (fun A' f q => hE A' ((ySm.rf.tr f1 rfl rfl).tr f rfl rfl) q) (fun A' x0 x1 f q => fk4 A' x0 x1 ((ySm.rf.tr f1 rfl rfl).tr f rfl rfl) q) h20
theorem ffl_Parser_passSigns_40 {Q Q' : cS → Prop} {E E' : cS → Prop}  : ∀ (m : Nat) (s0 : cS) (x2 : Int) (x3 : Int), (∀ (A' : cS), ySm s0 A' [22] [4, 5, 10, 11] → Q A' → Q' A') → (∀ (A' : cS), ySm s0 A' [22] [4, 5, 10, 11] → E A' → E' A') → wc_Parser_passSigns_4 Q E  m s0 x2 x3 → wc_Parser_passSigns_4 Q' E'  m s0 x2 x3 := by
  intro m
  induction m with
  | zero => intro s0 x2 x3 hq hE  hw; exact hw
  | succ m ih => intro s0 x2 x3 hq hE  hw; exact ffb_Parser_passSigns_4 hq hE  (fun A' y0 y1 f1 q => ih A' y0 y1 (fun A' f q => hq A' (f1.tr f rfl rfl) q) (fun A' f q => hE A' (f1.tr f rfl rfl) q)  q) hw
theorem ffm_Parser_passSigns {s0 : cS} {a0 : Int} {Q Q' : cS → Prop} {E E' : cS → Prop} (hw : wc_Parser_passSigns s0 a0 Q E) (hq : ∀ (A' : cS), ySm s0 A' [22] [4, 5, 10, 11] → Q A' → Q' A') (hE : ∀ (A' : cS), ySm s0 A' [22] [4, 5, 10, 11] → E A' → E' A') : wc_Parser_passSigns s0 a0 Q' E' := by
  unfold wc_Parser_passSigns at hw ⊢
  obtain ⟨m1, h2⟩ := hw
  exact ⟨m1, ffl_Parser_passSigns_40 m1 _ _ _ (fun A' f q => hq A' (ySm.rf.tr f rfl rfl) q) (fun A' f q => hE A' (ySm.rf.tr f rfl rfl) q)  h2⟩
theorem ffj_Parser_close_13 {Q Q' : cS → Prop} {E E' : cS → Prop}  {s0 : cS}  (hq : ∀ (A' : cS), ySm s0 A' [21] [4, 5, 10, 11] → Q A' → Q' A') (hE : ∀ (A' : cS), ySm s0 A' [21] [4, 5, 10, 11] → E A' → E' A')  (hw : wc_Parser_close_13 Q E  s0 ) : wc_Parser_close_13 Q' E'  s0  := by
  unfold wc_Parser_close_13 at hw ⊢
  refine ffm_Parser_info hw (fun r1 A2 f1 h8 => ?_)
  refine ⟨fun c13 => ?_, fun c13 => ?_⟩
  · have h14 := h8.1 c13
    refine ffm_Parser_advance h14 (fun A16 f2 h22 => ?_)
    obtain ⟨o23, h24⟩ := h22
    refine ⟨o23, ?_⟩
    exact hq _ ((((ySm.rf.tr f1 rfl rfl).pop rfl).tr f2 rfl rfl).pv rfl) h24
  · have h36 := h8.2 c13
    refine ⟨fun c37 => ?_, fun c37 => ?_⟩
    · have h38 := h36.1 c37
      refine ffm_Parser_isOpen h38 (fun r39 A40 f3 h46 => ?_)
      refine ⟨fun c47 => ?_, fun c47 => ?_⟩
      · have h48 := h46.1 c47
        obtain ⟨o49, h50⟩ := h48
        refine ⟨o49, ?_⟩
        exact hq _ ((((ySm.rf.tr f1 rfl rfl).pop rfl).tr f3 rfl rfl).pv rfl) h50
      · have h62 := h46.2 c47
        refine ffm_Parser_refuse h62 (fun A64 f4 h70 => ?_) (fun Ae fe qe => hE Ae ((((ySm.rf.tr f1 rfl rfl).pop rfl).tr f3 rfl rfl).tr fe rfl rfl) qe)
        obtain ⟨o71, h72⟩ := h70
        refine ⟨o71, ?_⟩
        exact hq _ (((((ySm.rf.tr f1 rfl rfl).pop rfl).tr f3 rfl rfl).tr f4 rfl rfl).pv rfl) h72
    · have h84 := h36.2 c37
      refine ffm_Parser_advance h84 (fun A86 f5 h92 => ?_)
      obtain ⟨o93, h94⟩ := h92
      refine ⟨o93, ?_⟩
      exact hq _ ((((ySm.rf.tr f1 rfl rfl).pop rfl).tr f5 rfl rfl).pv rfl) h94
theorem ffm_Parser_close {s0 : cS}  {Q Q' : cS → Prop} {E E' : cS → Prop} (hw : wc_Parser_close s0  Q E) (hq : ∀ (A' : cS), ySm s0 A' [21] [4, 5, 10, 11] → Q A' → Q' A') (hE : ∀ (A' : cS), ySm s0 A' [21] [4, 5, 10, 11] → E A' → E' A') : wc_Parser_close s0  Q' E' := by
  unfold wc_Parser_close at hw ⊢
  refine ffm_Parser_kind hw (fun r1 A2 f1 h8 => ?_)
  refine ⟨fun c9 => ?_, fun c9 => ?_⟩
  · have h10 := h8.1 c9
    exact ffj_Parser_close_13 (fun A' f q => hq A' ((ySm.rf.tr f1 rfl rfl).tr f rfl rfl) q) (fun A' f q => hE A' ((ySm.rf.tr f1 rfl rfl).tr f rfl rfl) q)  h10
  · have h11 := h8.2 c9
    refine ffm_Parser_refuse h11 (fun A13 f2 h19 => ?_) (fun Ae fe qe => hE Ae ((ySm.rf.tr f1 rfl rfl).tr fe rfl rfl) qe)
    exact ffj_Parser_close_13 (fun A' f q => hq A' (((ySm.rf.tr f1 rfl rfl).tr f2 rfl rfl).tr f rfl rfl) q) (fun A' f q => hE A' (((ySm.rf.tr f1 rfl rfl).tr f2 rfl rfl).tr f rfl rfl) q)  h19
theorem ffj_Parser_passDo_33 {Q Q' : cS → Prop} {E E' : cS → Prop}  {s0 : cS} {x1 : Int} (hq : ∀ (A' : cS), ySm s0 A' [] [4, 5, 10] → Q A' → Q' A') (hE : ∀ (A' : cS), ySm s0 A' [] [4, 5, 10] → E A' → E' A')  (hw : wc_Parser_passDo_33 Q E  s0 x1) : wc_Parser_passDo_33 Q' E'  s0 x1 := by
  unfold wc_Parser_passDo_33 at hw ⊢
  refine ⟨fun c1 => ?_, fun c1 => ?_⟩
  · have h2 := hw.1 c1
    refine ⟨fun c3 => ?_, fun c3 => ?_⟩
    · have h4 := h2.1 c3
      exact hq _ ySm.rf h4
    · have h5 := h2.2 c3
      refine ffm_Parser_refuse h5 (fun A8 f1 h14 => ?_) (fun Ae fe qe => hE Ae (ySm.rf.tr fe rfl rfl) qe)
      exact hq _ (ySm.rf.tr f1 rfl rfl) h14
  · have h15 := hw.2 c1
    refine ffm_Parser_advance h15 (fun A17 f2 h23 => ?_)
    exact hq _ (ySm.rf.tr f2 rfl rfl) h23
theorem ffm_Parser_passDo {s0 : cS}  {Q Q' : cS → Prop} {E E' : cS → Prop} (hw : wc_Parser_passDo s0  Q E) (hq : ∀ (A' : cS), ySm s0 A' [] [4, 5, 10] → Q A' → Q' A') (hE : ∀ (A' : cS), ySm s0 A' [] [4, 5, 10] → E A' → E' A') : wc_Parser_passDo s0  Q' E' := by
  unfold wc_Parser_passDo at hw ⊢
  refine ffm_Parser_kind hw (fun r1 A2 f1 h8 => ?_)
  refine ⟨fun c9 => ?_, fun c9 => ?_⟩
  · have h10 := h8.1 c9
    exact ffj_Parser_passDo_33 (fun A' f q => hq A' ((ySm.rf.tr f1 rfl rfl).tr f rfl rfl) q) (fun A' f q => hE A' ((ySm.rf.tr f1 rfl rfl).tr f rfl rfl) q)  h10
  · have h11 := h8.2 c9
    refine ⟨fun c12 => ?_, fun c12 => ?_⟩
    · have h13 := h11.1 c12
      exact ffj_Parser_passDo_33 (fun A' f q => hq A' ((ySm.rf.tr f1 rfl rfl).tr f rfl rfl) q) (fun A' f q => hE A' ((ySm.rf.tr f1 rfl rfl).tr f rfl rfl) q)  h13
    · have h14 := h11.2 c12
      refine ⟨fun c15 => ?_, fun c15 => ?_⟩
      · have h16 := h14.1 c15
        exact ffj_Parser_passDo_33 (fun A' f q => hq A' ((ySm.rf.tr f1 rfl rfl).tr f rfl rfl) q) (fun A' f q => hE A' ((ySm.rf.tr f1 rfl rfl).tr f rfl rfl) q)  h16
      · have h17 := h14.2 c15
        refine ⟨fun c18 => ?_, fun c18 => ?_⟩
        · have h19 := h17.1 c18
          exact ffj_Parser_passDo_33 (fun A' f q => hq A' ((ySm.rf.tr f1 rfl rfl).tr f rfl rfl) q) (fun A' f q => hE A' ((ySm.rf.tr f1 rfl rfl).tr f rfl rfl) q)  h19
        · have h20 := h17.2 c18
          refine ⟨fun c21 => ?_, fun c21 => ?_⟩
          · have h22 := h20.1 c21
            refine ⟨fun c23 => ?_, fun c23 => ?_⟩
            · have h24 := h22.1 c23
              exact hq _ (ySm.rf.tr f1 rfl rfl) h24
            · have h25 := h22.2 c23
              exact hq _ (ySm.rf.tr f1 rfl rfl) h25
          · have h27 := h20.2 c21
            refine ffm_Parser_advance h27 (fun A29 f2 h35 => ?_)
            exact hq _ ((ySm.rf.tr f1 rfl rfl).tr f2 rfl rfl) h35
theorem ffb_Parser_names_2 {Q Q' : cS → Prop} {E E' : cS → Prop} {k2 k2' : cS → Int → Int → Prop} {s0 : cS} {x1 : Int} {x2 : Int} (hq : ∀ (A' : cS), ySm s0 A' [7, 8, 9, 10, 11, 12, 13] [4, 5, 10] → Q A' → Q' A') (hE : ∀ (A' : cS), ySm s0 A' [7, 8, 9, 10, 11, 12, 13] [4, 5, 10] → E A' → E' A') (fk2 : ∀ (A' : cS) (x0 : Int) (x1 : Int), ySm s0 A' [7, 8, 9, 10, 11, 12, 13] [4, 5, 10] → k2 A' x0 x1 → k2' A' x0 x1) (hw : wc_Parser_names_2B Q E k2 s0 x1 x2) : wc_Parser_names_2B Q' E' k2' s0 x1 x2 := by
  unfold wc_Parser_names_2B at hw ⊢
  refine ⟨fun c1 => ?_, fun c1 => ?_⟩
  · have h2 := hw.1 c1
    exact hq _ ySm.rf h2
  · have h3 := hw.2 c1
    refine ffm_Parser_kind h3 (fun r4 A5 f1 h11 => ?_)
    refine ⟨fun c12 => ?_, fun c12 => ?_⟩
    · have h13 := h11.1 c12
      refine ffm_Parser_leaf h13 (fun r14 A15 f2 h21 => ?_)
      refine ffm_Tree_hang h21 (fun A23 f3 h29 => ?_)
      refine ffm_Parser_kind h29 (fun r30 A31 f4 h37 => ?_)
      refine ⟨fun c38 => ?_, fun c38 => ?_⟩
      · have h39 := h37.1 c38
        exact hq _ ((((ySm.rf.tr f1 rfl rfl).tr f2 rfl rfl).tr f3 rfl rfl).tr f4 rfl rfl) h39
      · have h40 := h37.2 c38
        refine ⟨fun c41 => ?_, fun c41 => ?_⟩
        · have h42 := h40.1 c41
          refine ffm_Parser_advance h42 (fun A44 f5 h50 => ?_)
          obtain ⟨o51, h52⟩ := h50
          refine ⟨o51, ?_⟩
          exact fk2 _ _ _ (((((ySm.rf.tr f1 rfl rfl).tr f2 rfl rfl).tr f3 rfl rfl).tr f4 rfl rfl).tr f5 rfl rfl) h52
        · have h53 := h40.2 c41
          exact hq _ ((((ySm.rf.tr f1 rfl rfl).tr f2 rfl rfl).tr f3 rfl rfl).tr f4 rfl rfl) h53
    · have h54 := h11.2 c12
      refine ffm_Parser_refuse h54 (fun A56 f6 h62 => ?_) (fun Ae fe qe => hE Ae ((ySm.rf.tr f1 rfl rfl).tr fe rfl rfl) qe)
      refine ffm_Parser_leaf h62 (fun r63 A64 f7 h70 => ?_)
      refine ffm_Tree_hang h70 (fun A72 f8 h78 => ?_)
      refine ffm_Parser_kind h78 (fun r79 A80 f9 h86 => ?_)
      refine ⟨fun c87 => ?_, fun c87 => ?_⟩
      · have h88 := h86.1 c87
        exact hq _ (((((ySm.rf.tr f1 rfl rfl).tr f6 rfl rfl).tr f7 rfl rfl).tr f8 rfl rfl).tr f9 rfl rfl) h88
      · have h89 := h86.2 c87
        refine ⟨fun c90 => ?_, fun c90 => ?_⟩
        · have h91 := h89.1 c90
          refine ffm_Parser_advance h91 (fun A93 f10 h99 => ?_)
          obtain ⟨o100, h101⟩ := h99
          refine ⟨o100, ?_⟩
          exact fk2 _ _ _ ((((((ySm.rf.tr f1 rfl rfl).tr f6 rfl rfl).tr f7 rfl rfl).tr f8 rfl rfl).tr f9 rfl rfl).tr f10 rfl rfl) h101
        · have h102 := h89.2 c90
          exact hq _ (((((ySm.rf.tr f1 rfl rfl).tr f6 rfl rfl).tr f7 rfl rfl).tr f8 rfl rfl).tr f9 rfl rfl) h102
theorem ffl_Parser_names_20 {Q Q' : cS → Prop} {E E' : cS → Prop}  : ∀ (m : Nat) (s0 : cS) (x1 : Int) (x2 : Int), (∀ (A' : cS), ySm s0 A' [7, 8, 9, 10, 11, 12, 13] [4, 5, 10] → Q A' → Q' A') → (∀ (A' : cS), ySm s0 A' [7, 8, 9, 10, 11, 12, 13] [4, 5, 10] → E A' → E' A') → wc_Parser_names_2 Q E  m s0 x1 x2 → wc_Parser_names_2 Q' E'  m s0 x1 x2 := by
  intro m
  induction m with
  | zero => intro s0 x1 x2 hq hE  hw; exact hw
  | succ m ih => intro s0 x1 x2 hq hE  hw; exact ffb_Parser_names_2 hq hE  (fun A' y0 y1 f1 q => ih A' y0 y1 (fun A' f q => hq A' (f1.tr f rfl rfl) q) (fun A' f q => hE A' (f1.tr f rfl rfl) q)  q) hw
theorem ffm_Parser_names {s0 : cS} {a0 : Int} {Q Q' : cS → Prop} {E E' : cS → Prop} (hw : wc_Parser_names s0 a0 Q E) (hq : ∀ (A' : cS), ySm s0 A' [7, 8, 9, 10, 11, 12, 13] [4, 5, 10] → Q A' → Q' A') (hE : ∀ (A' : cS), ySm s0 A' [7, 8, 9, 10, 11, 12, 13] [4, 5, 10] → E A' → E' A') : wc_Parser_names s0 a0 Q' E' := by
  unfold wc_Parser_names at hw ⊢
  obtain ⟨m1, h2⟩ := hw
  exact ⟨m1, ffl_Parser_names_20 m1 _ _ _ (fun A' f q => hq A' (ySm.rf.tr f rfl rfl) q) (fun A' f q => hE A' (ySm.rf.tr f rfl rfl) q)  h2⟩
theorem ffb_Parser_declaration_90 {rec : Nat → Int → Int → Int → cS → (Int → cS → Prop) → (cS → Prop) → Prop} (hrec : ∀ (i : Nat) (a b c : Int) (A : cS) (Q Q' : Int → cS → Prop) (E E' : cS → Prop), rec i a b c A Q E → (∀ (e : Int) (A' : cS), ySm A A' [2, 3, 4, 5, 6, 7, 8, 9, 10, 11, 12, 13, 21, 22, 23] [3, 4, 5, 10, 11] → Q e A' → Q' e A') → (∀ (A' : cS), ySm A A' [2, 3, 4, 5, 6, 7, 8, 9, 10, 11, 12, 13, 21, 22, 23] [3, 4, 5, 10, 11] → E A' → E' A') → rec i a b c A Q' E') {Q Q' : Int → cS → Prop} {E E' : cS → Prop} {k90 k90' : cS → Int → Int → Int → Prop} {s0 : cS} {x1 : Int} {x3 : Int} {x4 : Int} (hq : ∀ (e : Int) (A' : cS), ySm s0 A' [2, 3, 4, 5, 6, 7, 8, 9, 10, 11, 12, 13, 21, 22, 23] [3, 4, 5, 10, 11] → Q e A' → Q' e A') (hE : ∀ (A' : cS), ySm s0 A' [2, 3, 4, 5, 6, 7, 8, 9, 10, 11, 12, 13, 21, 22, 23] [3, 4, 5, 10, 11] → E A' → E' A') (fk90 : ∀ (A' : cS) (x0 : Int) (x1 : Int) (x2 : Int), ySm s0 A' [2, 3, 4, 5, 6, 7, 8, 9, 10, 11, 12, 13, 21, 22, 23] [3, 4, 5, 10, 11] → k90 A' x0 x1 x2 → k90' A' x0 x1 x2) (hw : wc_Parser_declaration_90B rec Q E k90 s0 x1 x3 x4) : wc_Parser_declaration_90B rec Q' E' k90' s0 x1 x3 x4 := by
  unfold wc_Parser_declaration_90B at hw ⊢
  refine ⟨fun c1 => ?_, fun c1 => ?_⟩
  · have h2 := hw.1 c1
    exact hq _ _ ySm.rf h2
  · have h3 := hw.2 c1
    refine hrec _ _ _ _ _ _ _ _ _ h3 (fun r4 A5 f1 h11 => ?_) (fun Ae fe qe => hE Ae (ySm.rf.tr fe rfl rfl) qe)
    refine ffm_Tree_hang h11 (fun A13 f2 h19 => ?_)
    refine ffm_Parser_kind h19 (fun r20 A21 f3 h27 => ?_)
    refine ⟨fun c28 => ?_, fun c28 => ?_⟩
    · have h29 := h27.1 c28
      refine ffm_Parser_advance h29 (fun A31 f4 h37 => ?_)
      obtain ⟨o38, h39⟩ := h37
      refine ⟨o38, ?_⟩
      exact fk90 _ _ _ _ ((((ySm.rf.tr f1 rfl rfl).tr f2 rfl rfl).tr f3 rfl rfl).tr f4 rfl rfl) h39
    · have h40 := h27.2 c28
      exact hq _ _ (((ySm.rf.tr f1 rfl rfl).tr f2 rfl rfl).tr f3 rfl rfl) h40
theorem ffl_Parser_declaration_900 {rec : Nat → Int → Int → Int → cS → (Int → cS → Prop) → (cS → Prop) → Prop} (hrec : ∀ (i : Nat) (a b c : Int) (A : cS) (Q Q' : Int → cS → Prop) (E E' : cS → Prop), rec i a b c A Q E → (∀ (e : Int) (A' : cS), ySm A A' [2, 3, 4, 5, 6, 7, 8, 9, 10, 11, 12, 13, 21, 22, 23] [3, 4, 5, 10, 11] → Q e A' → Q' e A') → (∀ (A' : cS), ySm A A' [2, 3, 4, 5, 6, 7, 8, 9, 10, 11, 12, 13, 21, 22, 23] [3, 4, 5, 10, 11] → E A' → E' A') → rec i a b c A Q' E') {Q Q' : Int → cS → Prop} {E E' : cS → Prop}  : ∀ (m : Nat) (s0 : cS) (x1 : Int) (x3 : Int) (x4 : Int), (∀ (e : Int) (A' : cS), ySm s0 A' [2, 3, 4, 5, 6, 7, 8, 9, 10, 11, 12, 13, 21, 22, 23] [3, 4, 5, 10, 11] → Q e A' → Q' e A') → (∀ (A' : cS), ySm s0 A' [2, 3, 4, 5, 6, 7, 8, 9, 10, 11, 12, 13, 21, 22, 23] [3, 4, 5, 10, 11] → E A' → E' A') → wc_Parser_declaration_90 rec Q E  m s0 x1 x3 x4 → wc_Parser_declaration_90 rec Q' E'  m s0 x1 x3 x4 := by
  intro m
  induction m with
  | zero => intro s0 x1 x3 x4 hq hE  hw; exact hw
  | succ m ih => intro s0 x1 x3 x4 hq hE  hw; exact ffb_Parser_declaration_90 hrec hq hE  (fun A' y0 y1 y2 f1 q => ih A' y0 y1 y2 (fun e A' f q => hq e A' (f1.tr f rfl rfl) q) (fun A' f q => hE A' (f1.tr f rfl rfl) q)  q) hw
theorem ffm_Parser_declaration {rec : Nat → Int → Int → Int → cS → (Int → cS → Prop) → (cS → Prop) → Prop} (hrec : ∀ (i : Nat) (a b c : Int) (A : cS) (Q Q' : Int → cS → Prop) (E E' : cS → Prop), rec i a b c A Q E → (∀ (e : Int) (A' : cS), ySm A A' [2, 3, 4, 5, 6, 7, 8, 9, 10, 11, 12, 13, 21, 22, 23] [3, 4, 5, 10, 11] → Q e A' → Q' e A') → (∀ (A' : cS), ySm A A' [2, 3, 4, 5, 6, 7, 8, 9, 10, 11, 12, 13, 21, 22, 23] [3, 4, 5, 10, 11] → E A' → E' A') → rec i a b c A Q' E') {s0 : cS} {a0 : Int} {Q Q' : Int → cS → Prop} {E E' : cS → Prop} (hw : wc_Parser_declaration rec s0 a0 Q E) (hq : ∀ (e : Int) (A' : cS), ySm s0 A' [2, 3, 4, 5, 6, 7, 8, 9, 10, 11, 12, 13, 21, 22, 23] [3, 4, 5, 10, 11] → Q e A' → Q' e A') (hE : ∀ (A' : cS), ySm s0 A' [2, 3, 4, 5, 6, 7, 8, 9, 10, 11, 12, 13, 21, 22, 23] [3, 4, 5, 10, 11] → E A' → E' A') : wc_Parser_declaration rec s0 a0 Q' E' := by
  unfold wc_Parser_declaration at hw ⊢
  refine ffm_Parser_kind hw (fun r1 A2 f1 h8 => ?_)
  refine ⟨fun c9 => ?_, fun c9 => ?_⟩
  · have h10 := h8.1 c9
    refine hrec _ _ _ _ _ _ _ _ _ h10 (fun r11 A12 f2 h18 => ?_) (fun Ae fe qe => hE Ae ((ySm.rf.tr f1 rfl rfl).tr fe rfl rfl) qe)
    exact hq _ _ ((ySm.rf.tr f1 rfl rfl).tr f2 rfl rfl) h18
  · have h19 := h8.2 c9
    refine ⟨fun c20 => ?_, fun c20 => ?_⟩
    · have h21 := h19.1 c20
      refine hrec _ _ _ _ _ _ _ _ _ h21 (fun r22 A23 f3 h29 => ?_) (fun Ae fe qe => hE Ae ((ySm.rf.tr f1 rfl rfl).tr fe rfl rfl) qe)
      exact hq _ _ ((ySm.rf.tr f1 rfl rfl).tr f3 rfl rfl) h29
    · have h30 := h19.2 c20
      refine ⟨fun c31 => ?_, fun c31 => ?_⟩
      · have h32 := h30.1 c31
        refine ffm_Parser_place h32 (fun r33 A34 f4 h40 => ?_)
        refine ffm_Tree_node h40 (fun r41 A42 f5 h48 => ?_)
        refine ffm_Parser_due h48 (fun A50 f6 h56 => ?_) (fun Ae fe qe => hE Ae ((((ySm.rf.tr f1 rfl rfl).tr f4 rfl rfl).tr f5 rfl rfl).tr fe rfl rfl) qe)
        refine ⟨fun c57 => ?_, fun c57 => ?_⟩
        · have h58 := h56.1 c57
          obtain ⟨m59, h60⟩ := h58
          exact ⟨m59, ffl_Parser_declaration_900 hrec m59 _ _ _ _ (fun e A' f q => hq e A' (((((ySm.rf.tr f1 rfl rfl).tr f4 rfl rfl).tr f5 rfl rfl).tr f6 rfl rfl).tr f rfl rfl) q) (fun A' f q => hE A' (((((ySm.rf.tr f1 rfl rfl).tr f4 rfl rfl).tr f5 rfl rfl).tr f6 rfl rfl).tr f rfl rfl) q)  h60⟩
        · have h61 := h56.2 c57
          refine ffm_Parser_kind h61 (fun r62 A63 f7 h69 => ?_)
          refine ⟨fun c70 => ?_, fun c70 => ?_⟩
          · have h71 := h69.1 c70
            obtain ⟨m72, h73⟩ := h71
            exact ⟨m72, ffl_Parser_declaration_900 hrec m72 _ _ _ _ (fun e A' f q => hq e A' ((((((ySm.rf.tr f1 rfl rfl).tr f4 rfl rfl).tr f5 rfl rfl).tr f6 rfl rfl).tr f7 rfl rfl).tr f rfl rfl) q) (fun A' f q => hE A' ((((((ySm.rf.tr f1 rfl rfl).tr f4 rfl rfl).tr f5 rfl rfl).tr f6 rfl rfl).tr f7 rfl rfl).tr f rfl rfl) q)  h73⟩
          · have h74 := h69.2 c70
            obtain ⟨o75, h76⟩ := h74
            refine ⟨o75, ?_⟩
            refine ⟨fun c77 => ?_, fun c77 => ?_⟩
            · have h78 := h76.1 c77
              obtain ⟨m79, h80⟩ := h78
              exact ⟨m79, ffl_Parser_declaration_900 hrec m79 _ _ _ _ (fun e A' f q => hq e A' ((((((ySm.rf.tr f1 rfl rfl).tr f4 rfl rfl).tr f5 rfl rfl).tr f6 rfl rfl).tr f7 rfl rfl).tr f rfl rfl) q) (fun A' f q => hE A' ((((((ySm.rf.tr f1 rfl rfl).tr f4 rfl rfl).tr f5 rfl rfl).tr f6 rfl rfl).tr f7 rfl rfl).tr f rfl rfl) q)  h80⟩
            · have h81 := h76.2 c77
              refine hrec _ _ _ _ _ _ _ _ _ h81 (fun _ A83 f8 h89 => ?_) (fun Ae fe qe => hE Ae ((((((ySm.rf.tr f1 rfl rfl).tr f4 rfl rfl).tr f5 rfl rfl).tr f6 rfl rfl).tr f7 rfl rfl).tr fe rfl rfl) qe)
              exact hq _ _ ((((((ySm.rf.tr f1 rfl rfl).tr f4 rfl rfl).tr f5 rfl rfl).tr f6 rfl rfl).tr f7 rfl rfl).tr f8 rfl rfl) h89
      · have h90 := h30.2 c31
        refine hrec _ _ _ _ _ _ _ _ _ h90 (fun r91 A92 f9 h98 => ?_) (fun Ae fe qe => hE Ae ((ySm.rf.tr f1 rfl rfl).tr fe rfl rfl) qe)
        exact hq _ _ ((ySm.rf.tr f1 rfl rfl).tr f9 rfl rfl) h98
theorem ffj_Parser_definitions_107 {rec : Nat → Int → Int → Int → cS → (Int → cS → Prop) → (cS → Prop) → Prop} (hrec : ∀ (i : Nat) (a b c : Int) (A : cS) (Q Q' : Int → cS → Prop) (E E' : cS → Prop), rec i a b c A Q E → (∀ (e : Int) (A' : cS), ySm A A' [2, 3, 4, 5, 6, 7, 8, 9, 10, 11, 12, 13, 21, 22, 23] [3, 4, 5, 10, 11] → Q e A' → Q' e A') → (∀ (A' : cS), ySm A A' [2, 3, 4, 5, 6, 7, 8, 9, 10, 11, 12, 13, 21, 22, 23] [3, 4, 5, 10, 11] → E A' → E' A') → rec i a b c A Q' E') {Q Q' : Int → cS → Prop} {E E' : cS → Prop} {k18 k18' : cS → Int → Int → Int → Int → Prop} {s0 : cS} {x1 : Int} {x2 : Int} {x3 : Int} {x4 : Int} {x5 : Int} {y0 : Int} (hq : ∀ (e : Int) (A' : cS), ySm s0 A' [2, 3, 4, 5, 6, 7, 8, 9, 10, 11, 12, 13, 21, 22, 23] [3, 4, 5, 10, 11] → Q e A' → Q' e A') (hE : ∀ (A' : cS), ySm s0 A' [2, 3, 4, 5, 6, 7, 8, 9, 10, 11, 12, 13, 21, 22, 23] [3, 4, 5, 10, 11] → E A' → E' A') (fk18 : ∀ (A' : cS) (x0 : Int) (x1 : Int) (x2 : Int) (x3 : Int), ySm s0 A' [2, 3, 4, 5, 6, 7, 8, 9, 10, 11, 12, 13, 21, 22, 23] [3, 4, 5, 10, 11] → k18 A' x0 x1 x2 x3 → k18' A' x0 x1 x2 x3) (hw : wc_Parser_definitions_107 rec Q E k18 s0 x1 x2 x3 x4 x5 y0) : wc_Parser_definitions_107 rec Q' E' k18' s0 x1 x2 x3 x4 x5 y0 := by
  unfold wc_Parser_definitions_107 at hw ⊢
  refine ffm_Parser_due hw (fun A2 f1 h8 => ?_) (fun Ae fe qe => hE Ae (ySm.rf.tr fe rfl rfl) qe)
  refine hrec _ _ _ _ _ _ _ _ _ h8 (fun r9 A10 f2 h16 => ?_) (fun Ae fe qe => hE Ae ((ySm.rf.tr f1 rfl rfl).tr fe rfl rfl) qe)
  refine ffm_Tree_hang h16 (fun A18 f3 h24 => ?_)
  refine ffm_Tree_hang h24 (fun A26 f4 h32 => ?_)
  refine ffm_Parser_kind h32 (fun r33 A34 f5 h40 => ?_)
  refine ⟨fun c41 => ?_, fun c41 => ?_⟩
  · have h42 := h40.1 c41
    refine ffm_Parser_advance h42 (fun A44 f6 h50 => ?_)
    obtain ⟨o51, h52⟩ := h50
    refine ⟨o51, ?_⟩
    exact fk18 _ _ _ _ _ ((((((ySm.rf.tr f1 rfl rfl).tr f2 rfl rfl).tr f3 rfl rfl).tr f4 rfl rfl).tr f5 rfl rfl).tr f6 rfl rfl) h52
  · have h53 := h40.2 c41
    refine ffm_Parser_close h53 (fun A55 f7 h61 => ?_) (fun Ae fe qe => hE Ae ((((((ySm.rf.tr f1 rfl rfl).tr f2 rfl rfl).tr f3 rfl rfl).tr f4 rfl rfl).tr f5 rfl rfl).tr fe rfl rfl) qe)
    exact hq _ _ ((((((ySm.rf.tr f1 rfl rfl).tr f2 rfl rfl).tr f3 rfl rfl).tr f4 rfl rfl).tr f5 rfl rfl).tr f7 rfl rfl) h61
theorem ffj_Parser_definitions_70 {rec : Nat → Int → Int → Int → cS → (Int → cS → Prop) → (cS → Prop) → Prop} (hrec : ∀ (i : Nat) (a b c : Int) (A : cS) (Q Q' : Int → cS → Prop) (E E' : cS → Prop), rec i a b c A Q E → (∀ (e : Int) (A' : cS), ySm A A' [2, 3, 4, 5, 6, 7, 8, 9, 10, 11, 12, 13, 21, 22, 23] [3, 4, 5, 10, 11] → Q e A' → Q' e A') → (∀ (A' : cS), ySm A A' [2, 3, 4, 5, 6, 7, 8, 9, 10, 11, 12, 13, 21, 22, 23] [3, 4, 5, 10, 11] → E A' → E' A') → rec i a b c A Q' E') {Q Q' : Int → cS → Prop} {E E' : cS → Prop} {k18 k18' : cS → Int → Int → Int → Int → Prop} {s0 : cS} {x1 : Int} {x2 : Int} {x3 : Int} {x4 : Int} {x5 : Int} (hq : ∀ (e : Int) (A' : cS), ySm s0 A' [2, 3, 4, 5, 6, 7, 8, 9, 10, 11, 12, 13, 21, 22, 23] [3, 4, 5, 10, 11] → Q e A' → Q' e A') (hE : ∀ (A' : cS), ySm s0 A' [2, 3, 4, 5, 6, 7, 8, 9, 10, 11, 12, 13, 21, 22, 23] [3, 4, 5, 10, 11] → E A' → E' A') (fk18 : ∀ (A' : cS) (x0 : Int) (x1 : Int) (x2 : Int) (x3 : Int), ySm s0 A' [2, 3, 4, 5, 6, 7, 8, 9, 10, 11, 12, 13, 21, 22, 23] [3, 4, 5, 10, 11] → k18 A' x0 x1 x2 x3 → k18' A' x0 x1 x2 x3) (hw : wc_Parser_definitions_70 rec Q E k18 s0 x1 x2 x3 x4 x5) : wc_Parser_definitions_70 rec Q' E' k18' s0 x1 x2 x3 x4 x5 := by
  unfold wc_Parser_definitions_70 at hw ⊢
  refine ⟨fun c1 => ?_, fun c1 => ?_⟩
  · have h2 := hw.1 c1
    refine ⟨fun c3 => ?_, fun c3 => ?_⟩
    · have h4 := h2.1 c3
      exact ffj_Parser_definitions_107 hrec (fun e A' f q => hq e A' (ySm.rf.tr f rfl rfl) q) (fun A' f q => hE A' (ySm.rf.tr f rfl rfl) q) (fun A' x0 x1 x2 x3 f q => fk18 A' x0 x1 x2 x3 (ySm.rf.tr f rfl rfl) q) h4
    · have h5 := h2.2 c3
      exact ffj_Parser_definitions_107 hrec (fun e A' f q => hq e A' (ySm.rf.tr f rfl rfl) q) (fun A' f q => hE A' (ySm.rf.tr f rfl rfl) q) (fun A' x0 x1 x2 x3 f q => fk18 A' x0 x1 x2 x3 (ySm.rf.tr f rfl rfl) q) h5
  · have h6 := hw.2 c1
    refine ffm_Program_addWord h6 (fun r7 A8 f1 h14 => ?_)
    refine ffm_Tree_setExtra h14 (fun A16 f2 h22 => ?_)
    refine ⟨fun c23 => ?_, fun c23 => ?_⟩
    · have h24 := h22.1 c23
      exact ffj_Parser_definitions_107 hrec (fun e A' f q => hq e A' (((ySm.rf.tr f1 rfl rfl).tr f2 rfl rfl).tr f rfl rfl) q) (fun A' f q => hE A' (((ySm.rf.tr f1 rfl rfl).tr f2 rfl rfl).tr f rfl rfl) q) (fun A' x0 x1 x2 x3 f q => fk18 A' x0 x1 x2 x3 (((ySm.rf.tr f1 rfl rfl).tr f2 rfl rfl).tr f rfl rfl) q) h24
    · have h25 := h22.2 c23
      exact ffj_Parser_definitions_107 hrec (fun e A' f q => hq e A' (((ySm.rf.tr f1 rfl rfl).tr f2 rfl rfl).tr f rfl rfl) q) (fun A' f q => hE A' (((ySm.rf.tr f1 rfl rfl).tr f2 rfl rfl).tr f rfl rfl) q) (fun A' x0 x1 x2 x3 f q => fk18 A' x0 x1 x2 x3 (((ySm.rf.tr f1 rfl rfl).tr f2 rfl rfl).tr f rfl rfl) q) h25
theorem ffb_Parser_definitions_18 {rec : Nat → Int → Int → Int → cS → (Int → cS → Prop) → (cS → Prop) → Prop} (hrec : ∀ (i : Nat) (a b c : Int) (A : cS) (Q Q' : Int → cS → Prop) (E E' : cS → Prop), rec i a b c A Q E → (∀ (e : Int) (A' : cS), ySm A A' [2, 3, 4, 5, 6, 7, 8, 9, 10, 11, 12, 13, 21, 22, 23] [3, 4, 5, 10, 11] → Q e A' → Q' e A') → (∀ (A' : cS), ySm A A' [2, 3, 4, 5, 6, 7, 8, 9, 10, 11, 12, 13, 21, 22, 23] [3, 4, 5, 10, 11] → E A' → E' A') → rec i a b c A Q' E') {Q Q' : Int → cS → Prop} {E E' : cS → Prop} {k18 k18' : cS → Int → Int → Int → Int → Prop} {s0 : cS} {x1 : Int} {x2 : Int} {x3 : Int} {x4 : Int} (hq : ∀ (e : Int) (A' : cS), ySm s0 A' [2, 3, 4, 5, 6, 7, 8, 9, 10, 11, 12, 13, 21, 22, 23] [3, 4, 5, 10, 11] → Q e A' → Q' e A') (hE : ∀ (A' : cS), ySm s0 A' [2, 3, 4, 5, 6, 7, 8, 9, 10, 11, 12, 13, 21, 22, 23] [3, 4, 5, 10, 11] → E A' → E' A') (fk18 : ∀ (A' : cS) (x0 : Int) (x1 : Int) (x2 : Int) (x3 : Int), ySm s0 A' [2, 3, 4, 5, 6, 7, 8, 9, 10, 11, 12, 13, 21, 22, 23] [3, 4, 5, 10, 11] → k18 A' x0 x1 x2 x3 → k18' A' x0 x1 x2 x3) (hw : wc_Parser_definitions_18B rec Q E k18 s0 x1 x2 x3 x4) : wc_Parser_definitions_18B rec Q' E' k18' s0 x1 x2 x3 x4 := by
  unfold wc_Parser_definitions_18B at hw ⊢
  refine ⟨fun c1 => ?_, fun c1 => ?_⟩
  · have h2 := hw.1 c1
    refine ffm_Parser_close h2 (fun A4 f1 h10 => ?_) (fun Ae fe qe => hE Ae (ySm.rf.tr fe rfl rfl) qe)
    exact hq _ _ (ySm.rf.tr f1 rfl rfl) h10
  · have h11 := hw.2 c1
    refine ffm_Parser_place h11 (fun r12 A13 f2 h19 => ?_)
    refine ffm_Parser_nameDue h19 (fun r20 A21 f3 h27 => ?_) (fun Ae fe qe => hE Ae ((ySm.rf.tr f2 rfl rfl).tr fe rfl rfl) qe)
    refine ffm_Tree_node h27 (fun r28 A29 f4 h35 => ?_)
    refine ⟨fun c36 => ?_, fun c36 => ?_⟩
    · have h37 := h35.1 c36
      exact ffj_Parser_definitions_70 hrec (fun e A' f q => hq e A' ((((ySm.rf.tr f2 rfl rfl).tr f3 rfl rfl).tr f4 rfl rfl).tr f rfl rfl) q) (fun A' f q => hE A' ((((ySm.rf.tr f2 rfl rfl).tr f3 rfl rfl).tr f4 rfl rfl).tr f rfl rfl) q) (fun A' x0 x1 x2 x3 f q => fk18 A' x0 x1 x2 x3 ((((ySm.rf.tr f2 rfl rfl).tr f3 rfl rfl).tr f4 rfl rfl).tr f rfl rfl) q) h37
    · have h38 := h35.2 c36
      refine ⟨fun c39 => ?_, fun c39 => ?_⟩
      · have h40 := h38.1 c39
        exact ffj_Parser_definitions_70 hrec (fun e A' f q => hq e A' ((((ySm.rf.tr f2 rfl rfl).tr f3 rfl rfl).tr f4 rfl rfl).tr f rfl rfl) q) (fun A' f q => hE A' ((((ySm.rf.tr f2 rfl rfl).tr f3 rfl rfl).tr f4 rfl rfl).tr f rfl rfl) q) (fun A' x0 x1 x2 x3 f q => fk18 A' x0 x1 x2 x3 ((((ySm.rf.tr f2 rfl rfl).tr f3 rfl rfl).tr f4 rfl rfl).tr f rfl rfl) q) h40
      · have h41 := h38.2 c39
        refine ffm_Tree_data h41 (fun r42 A43 f5 h49 => ?_)
        obtain ⟨o54, h55⟩ := h49
        refine ⟨o54, ?_⟩
        exact ffj_Parser_definitions_70 hrec (fun e A' f q => hq e A' ((((((ySm.rf.tr f2 rfl rfl).tr f3 rfl rfl).tr f4 rfl rfl).tr f5 rfl rfl).add rfl).tr f rfl rfl) q) (fun A' f q => hE A' ((((((ySm.rf.tr f2 rfl rfl).tr f3 rfl rfl).tr f4 rfl rfl).tr f5 rfl rfl).add rfl).tr f rfl rfl) q) (fun A' x0 x1 x2 x3 f q => fk18 A' x0 x1 x2 x3 ((((((ySm.rf.tr f2 rfl rfl).tr f3 rfl rfl).tr f4 rfl rfl).tr f5 rfl rfl).add rfl).tr f rfl rfl) q) h55
theorem ffl_Parser_definitions_180 {rec : Nat → Int → Int → Int → cS → (Int → cS → Prop) → (cS → Prop) → Prop} (hrec : ∀ (i : Nat) (a b c : Int) (A : cS) (Q Q' : Int → cS → Prop) (E E' : cS → Prop), rec i a b c A Q E → (∀ (e : Int) (A' : cS), ySm A A' [2, 3, 4, 5, 6, 7, 8, 9, 10, 11, 12, 13, 21, 22, 23] [3, 4, 5, 10, 11] → Q e A' → Q' e A') → (∀ (A' : cS), ySm A A' [2, 3, 4, 5, 6, 7, 8, 9, 10, 11, 12, 13, 21, 22, 23] [3, 4, 5, 10, 11] → E A' → E' A') → rec i a b c A Q' E') {Q Q' : Int → cS → Prop} {E E' : cS → Prop}  : ∀ (m : Nat) (s0 : cS) (x1 : Int) (x2 : Int) (x3 : Int) (x4 : Int), (∀ (e : Int) (A' : cS), ySm s0 A' [2, 3, 4, 5, 6, 7, 8, 9, 10, 11, 12, 13, 21, 22, 23] [3, 4, 5, 10, 11] → Q e A' → Q' e A') → (∀ (A' : cS), ySm s0 A' [2, 3, 4, 5, 6, 7, 8, 9, 10, 11, 12, 13, 21, 22, 23] [3, 4, 5, 10, 11] → E A' → E' A') → wc_Parser_definitions_18 rec Q E  m s0 x1 x2 x3 x4 → wc_Parser_definitions_18 rec Q' E'  m s0 x1 x2 x3 x4 := by
  intro m
  induction m with
  | zero => intro s0 x1 x2 x3 x4 hq hE  hw; exact hw
  | succ m ih => intro s0 x1 x2 x3 x4 hq hE  hw; exact ffb_Parser_definitions_18 hrec hq hE  (fun A' y0 y1 y2 y3 f1 q => ih A' y0 y1 y2 y3 (fun e A' f q => hq e A' (f1.tr f rfl rfl) q) (fun A' f q => hE A' (f1.tr f rfl rfl) q)  q) hw
theorem ffm_Parser_definitions {rec : Nat → Int → Int → Int → cS → (Int → cS → Prop) → (cS → Prop) → Prop} (hrec : ∀ (i : Nat) (a b c : Int) (A : cS) (Q Q' : Int → cS → Prop) (E E' : cS → Prop), rec i a b c A Q E → (∀ (e : Int) (A' : cS), ySm A A' [2, 3, 4, 5, 6, 7, 8, 9, 10, 11, 12, 13, 21, 22, 23] [3, 4, 5, 10, 11] → Q e A' → Q' e A') → (∀ (A' : cS), ySm A A' [2, 3, 4, 5, 6, 7, 8, 9, 10, 11, 12, 13, 21, 22, 23] [3, 4, 5, 10, 11] → E A' → E' A') → rec i a b c A Q' E') {s0 : cS} {a0 : Int} {Q Q' : Int → cS → Prop} {E E' : cS → Prop} (hw : wc_Parser_definitions rec s0 a0 Q E) (hq : ∀ (e : Int) (A' : cS), ySm s0 A' [2, 3, 4, 5, 6, 7, 8, 9, 10, 11, 12, 13, 21, 22, 23] [3, 4, 5, 10, 11] → Q e A' → Q' e A') (hE : ∀ (A' : cS), ySm s0 A' [2, 3, 4, 5, 6, 7, 8, 9, 10, 11, 12, 13, 21, 22, 23] [3, 4, 5, 10, 11] → E A' → E' A') : wc_Parser_definitions rec s0 a0 Q' E' := by
  unfold wc_Parser_definitions at hw ⊢
  refine ffm_Parser_kind hw (fun r1 A2 f1 h8 => ?_)
  refine ffm_Parser_leaf h8 (fun r9 A10 f2 h16 => ?_)
  refine ffm_Parser_open h16 (fun A18 f3 h24 => ?_) (fun Ae fe qe => hE Ae (((ySm.rf.tr f1 rfl rfl).tr f2 rfl rfl).tr fe rfl rfl) qe)
  obtain ⟨m25, h26⟩ := h24
  exact ⟨m25, ffl_Parser_definitions_180 hrec m25 _ _ _ _ _ (fun e A' f q => hq e A' ((((ySm.rf.tr f1 rfl rfl).tr f2 rfl rfl).tr f3 rfl rfl).tr f rfl rfl) q) (fun A' f q => hE A' ((((ySm.rf.tr f1 rfl rfl).tr f2 rfl rfl).tr f3 rfl rfl).tr f rfl rfl) q)  h26⟩
theorem ffj_Parser_routine_104 {rec : Nat → Int → Int → Int → cS → (Int → cS → Prop) → (cS → Prop) → Prop} (hrec : ∀ (i : Nat) (a b c : Int) (A : cS) (Q Q' : Int → cS → Prop) (E E' : cS → Prop), rec i a b c A Q E → (∀ (e : Int) (A' : cS), ySm A A' [2, 3, 4, 5, 6, 7, 8, 9, 10, 11, 12, 13, 21, 22, 23] [3, 4, 5, 10, 11] → Q e A' → Q' e A') → (∀ (A' : cS), ySm A A' [2, 3, 4, 5, 6, 7, 8, 9, 10, 11, 12, 13, 21, 22, 23] [3, 4, 5, 10, 11] → E A' → E' A') → rec i a b c A Q' E') {Q Q' : Int → cS → Prop} {E E' : cS → Prop}  {s0 : cS} {x2 : Int} (hq : ∀ (e : Int) (A' : cS), ySm s0 A' [2, 3, 4, 5, 6, 7, 8, 9, 10, 11, 12, 13, 21, 22, 23] [3, 4, 5, 10, 11] → Q e A' → Q' e A') (hE : ∀ (A' : cS), ySm s0 A' [2, 3, 4, 5, 6, 7, 8, 9, 10, 11, 12, 13, 21, 22, 23] [3, 4, 5, 10, 11] → E A' → E' A')  (hw : wc_Parser_routine_104 rec Q E  s0 x2) : wc_Parser_routine_104 rec Q' E'  s0 x2 := by
  unfold wc_Parser_routine_104 at hw ⊢
  refine ffm_Parser_due hw (fun A2 f1 h8 => ?_) (fun Ae fe qe => hE Ae (ySm.rf.tr fe rfl rfl) qe)
  refine ffm_Parser_kind h8 (fun r9 A10 f2 h16 => ?_)
  refine ⟨fun c17 => ?_, fun c17 => ?_⟩
  · have h18 := h16.1 c17
    refine ffm_Parser_due h18 (fun A20 f3 h26 => ?_) (fun Ae fe qe => hE Ae (((ySm.rf.tr f1 rfl rfl).tr f2 rfl rfl).tr fe rfl rfl) qe)
    refine hrec _ _ _ _ _ _ _ _ _ h26 (fun r27 A28 f4 h34 => ?_) (fun Ae fe qe => hE Ae ((((ySm.rf.tr f1 rfl rfl).tr f2 rfl rfl).tr f3 rfl rfl).tr fe rfl rfl) qe)
    refine ffm_Tree_hang h34 (fun A36 f5 h42 => ?_)
    exact hq _ _ (((((ySm.rf.tr f1 rfl rfl).tr f2 rfl rfl).tr f3 rfl rfl).tr f4 rfl rfl).tr f5 rfl rfl) h42
  · have h43 := h16.2 c17
    refine ffm_Tree_setKind h43 (fun A45 f6 h51 => ?_)
    refine ffm_Parser_advance h51 (fun A53 f7 h59 => ?_)
    refine hrec _ _ _ _ _ _ _ _ _ h59 (fun r60 A61 f8 h67 => ?_) (fun Ae fe qe => hE Ae (((((ySm.rf.tr f1 rfl rfl).tr f2 rfl rfl).tr f6 rfl rfl).tr f7 rfl rfl).tr fe rfl rfl) qe)
    refine ffm_Tree_hang h67 (fun A69 f9 h75 => ?_)
    exact hq _ _ ((((((ySm.rf.tr f1 rfl rfl).tr f2 rfl rfl).tr f6 rfl rfl).tr f7 rfl rfl).tr f8 rfl rfl).tr f9 rfl rfl) h75
theorem ffj_Parser_routine_46 {rec : Nat → Int → Int → Int → cS → (Int → cS → Prop) → (cS → Prop) → Prop} (hrec : ∀ (i : Nat) (a b c : Int) (A : cS) (Q Q' : Int → cS → Prop) (E E' : cS → Prop), rec i a b c A Q E → (∀ (e : Int) (A' : cS), ySm A A' [2, 3, 4, 5, 6, 7, 8, 9, 10, 11, 12, 13, 21, 22, 23] [3, 4, 5, 10, 11] → Q e A' → Q' e A') → (∀ (A' : cS), ySm A A' [2, 3, 4, 5, 6, 7, 8, 9, 10, 11, 12, 13, 21, 22, 23] [3, 4, 5, 10, 11] → E A' → E' A') → rec i a b c A Q' E') {Q Q' : Int → cS → Prop} {E E' : cS → Prop}  {s0 : cS} {x1 : Int} {x2 : Int} {y0 : Int} (hq : ∀ (e : Int) (A' : cS), ySm s0 A' [2, 3, 4, 5, 6, 7, 8, 9, 10, 11, 12, 13, 21, 22, 23] [3, 4, 5, 10, 11] → Q e A' → Q' e A') (hE : ∀ (A' : cS), ySm s0 A' [2, 3, 4, 5, 6, 7, 8, 9, 10, 11, 12, 13, 21, 22, 23] [3, 4, 5, 10, 11] → E A' → E' A')  (hw : wc_Parser_routine_46 rec Q E  s0 x1 x2 y0) : wc_Parser_routine_46 rec Q' E'  s0 x1 x2 y0 := by
  unfold wc_Parser_routine_46 at hw ⊢
  refine ffm_Program_addRoutine hw (fun r1 A2 f1 h8 => ?_)
  refine ffm_Tree_setExtra h8 (fun A10 f2 h16 => ?_)
  refine ⟨fun c17 => ?_, fun c17 => ?_⟩
  · have h18 := h16.1 c17
    refine ffm_Parser_due h18 (fun A20 f3 h26 => ?_) (fun Ae fe qe => hE Ae (((ySm.rf.tr f1 rfl rfl).tr f2 rfl rfl).tr fe rfl rfl) qe)
    refine ffm_Parser_kind h26 (fun r27 A28 f4 h34 => ?_)
    refine ⟨fun c35 => ?_, fun c35 => ?_⟩
    · have h36 := h34.1 c35
      exact ffj_Parser_routine_104 hrec (fun e A' f q => hq e A' (((((ySm.rf.tr f1 rfl rfl).tr f2 rfl rfl).tr f3 rfl rfl).tr f4 rfl rfl).tr f rfl rfl) q) (fun A' f q => hE A' (((((ySm.rf.tr f1 rfl rfl).tr f2 rfl rfl).tr f3 rfl rfl).tr f4 rfl rfl).tr f rfl rfl) q)  h36
    · have h37 := h34.2 c35
      refine ffm_Parser_names h37 (fun A39 f5 h45 => ?_) (fun Ae fe qe => hE Ae (((((ySm.rf.tr f1 rfl rfl).tr f2 rfl rfl).tr f3 rfl rfl).tr f4 rfl rfl).tr fe rfl rfl) qe)
      exact ffj_Parser_routine_104 hrec (fun e A' f q => hq e A' ((((((ySm.rf.tr f1 rfl rfl).tr f2 rfl rfl).tr f3 rfl rfl).tr f4 rfl rfl).tr f5 rfl rfl).tr f rfl rfl) q) (fun A' f q => hE A' ((((((ySm.rf.tr f1 rfl rfl).tr f2 rfl rfl).tr f3 rfl rfl).tr f4 rfl rfl).tr f5 rfl rfl).tr f rfl rfl) q)  h45
  · have h46 := h16.2 c17
    refine ffm_Tree_data h46 (fun r47 A48 f6 h54 => ?_)
    refine ⟨fun c55 => ?_, fun c55 => ?_⟩
    · have h56 := h54.1 c55
      refine ffm_Parser_due h56 (fun A58 f7 h64 => ?_) (fun Ae fe qe => hE Ae ((((ySm.rf.tr f1 rfl rfl).tr f2 rfl rfl).tr f6 rfl rfl).tr fe rfl rfl) qe)
      refine ffm_Parser_kind h64 (fun r65 A66 f8 h72 => ?_)
      refine ⟨fun c73 => ?_, fun c73 => ?_⟩
      · have h74 := h72.1 c73
        exact ffj_Parser_routine_104 hrec (fun e A' f q => hq e A' ((((((ySm.rf.tr f1 rfl rfl).tr f2 rfl rfl).tr f6 rfl rfl).tr f7 rfl rfl).tr f8 rfl rfl).tr f rfl rfl) q) (fun A' f q => hE A' ((((((ySm.rf.tr f1 rfl rfl).tr f2 rfl rfl).tr f6 rfl rfl).tr f7 rfl rfl).tr f8 rfl rfl).tr f rfl rfl) q)  h74
      · have h75 := h72.2 c73
        refine ffm_Parser_names h75 (fun A77 f9 h83 => ?_) (fun Ae fe qe => hE Ae ((((((ySm.rf.tr f1 rfl rfl).tr f2 rfl rfl).tr f6 rfl rfl).tr f7 rfl rfl).tr f8 rfl rfl).tr fe rfl rfl) qe)
        exact ffj_Parser_routine_104 hrec (fun e A' f q => hq e A' (((((((ySm.rf.tr f1 rfl rfl).tr f2 rfl rfl).tr f6 rfl rfl).tr f7 rfl rfl).tr f8 rfl rfl).tr f9 rfl rfl).tr f rfl rfl) q) (fun A' f q => hE A' (((((((ySm.rf.tr f1 rfl rfl).tr f2 rfl rfl).tr f6 rfl rfl).tr f7 rfl rfl).tr f8 rfl rfl).tr f9 rfl rfl).tr f rfl rfl) q)  h83
    · have h84 := h54.2 c55
      refine ffm_Program_setStarter h84 (fun A86 f10 h92 => ?_)
      refine ffm_Parser_due h92 (fun A94 f11 h100 => ?_) (fun Ae fe qe => hE Ae (((((ySm.rf.tr f1 rfl rfl).tr f2 rfl rfl).tr f6 rfl rfl).tr f10 rfl rfl).tr fe rfl rfl) qe)
      refine ffm_Parser_kind h100 (fun r101 A102 f12 h108 => ?_)
      refine ⟨fun c109 => ?_, fun c109 => ?_⟩
      · have h110 := h108.1 c109
        exact ffj_Parser_routine_104 hrec (fun e A' f q => hq e A' (((((((ySm.rf.tr f1 rfl rfl).tr f2 rfl rfl).tr f6 rfl rfl).tr f10 rfl rfl).tr f11 rfl rfl).tr f12 rfl rfl).tr f rfl rfl) q) (fun A' f q => hE A' (((((((ySm.rf.tr f1 rfl rfl).tr f2 rfl rfl).tr f6 rfl rfl).tr f10 rfl rfl).tr f11 rfl rfl).tr f12 rfl rfl).tr f rfl rfl) q)  h110
      · have h111 := h108.2 c109
        refine ffm_Parser_names h111 (fun A113 f13 h119 => ?_) (fun Ae fe qe => hE Ae (((((((ySm.rf.tr f1 rfl rfl).tr f2 rfl rfl).tr f6 rfl rfl).tr f10 rfl rfl).tr f11 rfl rfl).tr f12 rfl rfl).tr fe rfl rfl) qe)
        exact ffj_Parser_routine_104 hrec (fun e A' f q => hq e A' ((((((((ySm.rf.tr f1 rfl rfl).tr f2 rfl rfl).tr f6 rfl rfl).tr f10 rfl rfl).tr f11 rfl rfl).tr f12 rfl rfl).tr f13 rfl rfl).tr f rfl rfl) q) (fun A' f q => hE A' ((((((((ySm.rf.tr f1 rfl rfl).tr f2 rfl rfl).tr f6 rfl rfl).tr f10 rfl rfl).tr f11 rfl rfl).tr f12 rfl rfl).tr f13 rfl rfl).tr f rfl rfl) q)  h119
theorem ffm_Parser_routine {rec : Nat → Int → Int → Int → cS → (Int → cS → Prop) → (cS → Prop) → Prop} (hrec : ∀ (i : Nat) (a b c : Int) (A : cS) (Q Q' : Int → cS → Prop) (E E' : cS → Prop), rec i a b c A Q E → (∀ (e : Int) (A' : cS), ySm A A' [2, 3, 4, 5, 6, 7, 8, 9, 10, 11, 12, 13, 21, 22, 23] [3, 4, 5, 10, 11] → Q e A' → Q' e A') → (∀ (A' : cS), ySm A A' [2, 3, 4, 5, 6, 7, 8, 9, 10, 11, 12, 13, 21, 22, 23] [3, 4, 5, 10, 11] → E A' → E' A') → rec i a b c A Q' E') {s0 : cS} {a0 : Int} {Q Q' : Int → cS → Prop} {E E' : cS → Prop} (hw : wc_Parser_routine rec s0 a0 Q E) (hq : ∀ (e : Int) (A' : cS), ySm s0 A' [2, 3, 4, 5, 6, 7, 8, 9, 10, 11, 12, 13, 21, 22, 23] [3, 4, 5, 10, 11] → Q e A' → Q' e A') (hE : ∀ (A' : cS), ySm s0 A' [2, 3, 4, 5, 6, 7, 8, 9, 10, 11, 12, 13, 21, 22, 23] [3, 4, 5, 10, 11] → E A' → E' A') : wc_Parser_routine rec s0 a0 Q' E' := by
  unfold wc_Parser_routine at hw ⊢
  refine ffm_Parser_place hw (fun r1 A2 f1 h8 => ?_)
  refine ffm_Parser_nameDue h8 (fun r9 A10 f2 h16 => ?_) (fun Ae fe qe => hE Ae ((ySm.rf.tr f1 rfl rfl).tr fe rfl rfl) qe)
  refine ffm_Tree_node h16 (fun r17 A18 f3 h24 => ?_)
  refine ⟨fun c25 => ?_, fun c25 => ?_⟩
  · have h26 := h24.1 c25
    exact ffj_Parser_routine_46 hrec (fun e A' f q => hq e A' ((((ySm.rf.tr f1 rfl rfl).tr f2 rfl rfl).tr f3 rfl rfl).tr f rfl rfl) q) (fun A' f q => hE A' ((((ySm.rf.tr f1 rfl rfl).tr f2 rfl rfl).tr f3 rfl rfl).tr f rfl rfl) q)  h26
  · have h27 := h24.2 c25
    refine ffm_Tree_data h27 (fun r28 A29 f4 h35 => ?_)
    refine ffm_Parser_isGlobal h35 (fun r36 A37 f5 h43 => ?_)
    refine ⟨fun c44 => ?_, fun c44 => ?_⟩
    · have h45 := h43.1 c44
      exact ffj_Parser_routine_46 hrec (fun e A' f q => hq e A' ((((((ySm.rf.tr f1 rfl rfl).tr f2 rfl rfl).tr f3 rfl rfl).tr f4 rfl rfl).tr f5 rfl rfl).tr f rfl rfl) q) (fun A' f q => hE A' ((((((ySm.rf.tr f1 rfl rfl).tr f2 rfl rfl).tr f3 rfl rfl).tr f4 rfl rfl).tr f5 rfl rfl).tr f rfl rfl) q)  h45
    · have h46 := h43.2 c44
      exact ffj_Parser_routine_46 hrec (fun e A' f q => hq e A' ((((((ySm.rf.tr f1 rfl rfl).tr f2 rfl rfl).tr f3 rfl rfl).tr f4 rfl rfl).tr f5 rfl rfl).tr f rfl rfl) q) (fun A' f q => hE A' ((((((ySm.rf.tr f1 rfl rfl).tr f2 rfl rfl).tr f3 rfl rfl).tr f4 rfl rfl).tr f5 rfl rfl).tr f rfl rfl) q)  h46
theorem ffj_Parser_variables_93 {rec : Nat → Int → Int → Int → cS → (Int → cS → Prop) → (cS → Prop) → Prop} (hrec : ∀ (i : Nat) (a b c : Int) (A : cS) (Q Q' : Int → cS → Prop) (E E' : cS → Prop), rec i a b c A Q E → (∀ (e : Int) (A' : cS), ySm A A' [2, 3, 4, 5, 6, 7, 8, 9, 10, 11, 12, 13, 21, 22, 23] [3, 4, 5, 10, 11] → Q e A' → Q' e A') → (∀ (A' : cS), ySm A A' [2, 3, 4, 5, 6, 7, 8, 9, 10, 11, 12, 13, 21, 22, 23] [3, 4, 5, 10, 11] → E A' → E' A') → rec i a b c A Q' E') {Q Q' : cS → Prop} {E E' : cS → Prop} {k78 k78' : cS → Int → Int → Int → Prop} {s0 : cS} {x1 : Int} {x2 : Int} {x3 : Int} (hq : ∀ (A' : cS), ySm s0 A' [2, 3, 4, 5, 6, 7, 8, 9, 10, 11, 12, 13, 21, 22, 23] [3, 4, 5, 10, 11] → Q A' → Q' A') (hE : ∀ (A' : cS), ySm s0 A' [2, 3, 4, 5, 6, 7, 8, 9, 10, 11, 12, 13, 21, 22, 23] [3, 4, 5, 10, 11] → E A' → E' A') (fk78 : ∀ (A' : cS) (x0 : Int) (x1 : Int) (x2 : Int), ySm s0 A' [2, 3, 4, 5, 6, 7, 8, 9, 10, 11, 12, 13, 21, 22, 23] [3, 4, 5, 10, 11] → k78 A' x0 x1 x2 → k78' A' x0 x1 x2) (hw : wc_Parser_variables_93 rec Q E k78 s0 x1 x2 x3) : wc_Parser_variables_93 rec Q' E' k78' s0 x1 x2 x3 := by
  unfold wc_Parser_variables_93 at hw ⊢
  refine ffm_Parser_kind hw (fun r1 A2 f1 h8 => ?_)
  refine ⟨fun c9 => ?_, fun c9 => ?_⟩
  · have h10 := h8.1 c9
    refine hrec _ _ _ _ _ _ _ _ _ h10 (fun r11 A12 f2 h18 => ?_) (fun Ae fe qe => hE Ae ((ySm.rf.tr f1 rfl rfl).tr fe rfl rfl) qe)
    refine ffm_Tree_hang h18 (fun A20 f3 h26 => ?_)
    obtain ⟨o27, h28⟩ := h26
    refine ⟨o27, ?_⟩
    exact fk78 _ _ _ _ (((ySm.rf.tr f1 rfl rfl).tr f2 rfl rfl).tr f3 rfl rfl) h28
  · have h29 := h8.2 c9
    refine ffm_Parser_leaf h29 (fun r30 A31 f4 h37 => ?_)
    refine hrec _ _ _ _ _ _ _ _ _ h37 (fun r38 A39 f5 h45 => ?_) (fun Ae fe qe => hE Ae (((ySm.rf.tr f1 rfl rfl).tr f4 rfl rfl).tr fe rfl rfl) qe)
    refine ffm_Tree_hang h45 (fun A47 f6 h53 => ?_)
    refine ffm_Tree_hang h53 (fun A55 f7 h61 => ?_)
    obtain ⟨o62, h63⟩ := h61
    refine ⟨o62, ?_⟩
    exact fk78 _ _ _ _ (((((ySm.rf.tr f1 rfl rfl).tr f4 rfl rfl).tr f5 rfl rfl).tr f6 rfl rfl).tr f7 rfl rfl) h63
theorem ffb_Parser_variables_78 {rec : Nat → Int → Int → Int → cS → (Int → cS → Prop) → (cS → Prop) → Prop} (hrec : ∀ (i : Nat) (a b c : Int) (A : cS) (Q Q' : Int → cS → Prop) (E E' : cS → Prop), rec i a b c A Q E → (∀ (e : Int) (A' : cS), ySm A A' [2, 3, 4, 5, 6, 7, 8, 9, 10, 11, 12, 13, 21, 22, 23] [3, 4, 5, 10, 11] → Q e A' → Q' e A') → (∀ (A' : cS), ySm A A' [2, 3, 4, 5, 6, 7, 8, 9, 10, 11, 12, 13, 21, 22, 23] [3, 4, 5, 10, 11] → E A' → E' A') → rec i a b c A Q' E') {Q Q' : cS → Prop} {E E' : cS → Prop} {k78 k78' : cS → Int → Int → Int → Prop} {s0 : cS} {x1 : Int} {x2 : Int} {x3 : Int} (hq : ∀ (A' : cS), ySm s0 A' [2, 3, 4, 5, 6, 7, 8, 9, 10, 11, 12, 13, 21, 22, 23] [3, 4, 5, 10, 11] → Q A' → Q' A') (hE : ∀ (A' : cS), ySm s0 A' [2, 3, 4, 5, 6, 7, 8, 9, 10, 11, 12, 13, 21, 22, 23] [3, 4, 5, 10, 11] → E A' → E' A') (fk78 : ∀ (A' : cS) (x0 : Int) (x1 : Int) (x2 : Int), ySm s0 A' [2, 3, 4, 5, 6, 7, 8, 9, 10, 11, 12, 13, 21, 22, 23] [3, 4, 5, 10, 11] → k78 A' x0 x1 x2 → k78' A' x0 x1 x2) (hw : wc_Parser_variables_78B rec Q E k78 s0 x1 x2 x3) : wc_Parser_variables_78B rec Q' E' k78' s0 x1 x2 x3 := by
  unfold wc_Parser_variables_78B at hw ⊢
  refine ⟨fun c1 => ?_, fun c1 => ?_⟩
  · have h2 := hw.1 c1
    refine ffm_Tree_setData h2 (fun A4 f1 h10 => ?_)
    exact hq _ (ySm.rf.tr f1 rfl rfl) h10
  · have h11 := hw.2 c1
    refine ⟨fun c12 => ?_, fun c12 => ?_⟩
    · have h13 := h11.1 c12
      exact ffj_Parser_variables_93 hrec (fun A' f q => hq A' (ySm.rf.tr f rfl rfl) q) (fun A' f q => hE A' (ySm.rf.tr f rfl rfl) q) (fun A' x0 x1 x2 f q => fk78 A' x0 x1 x2 (ySm.rf.tr f rfl rfl) q) h13
    · have h14 := h11.2 c12
      refine ffm_Parser_due h14 (fun A16 f2 h22 => ?_) (fun Ae fe qe => hE Ae (ySm.rf.tr fe rfl rfl) qe)
      exact ffj_Parser_variables_93 hrec (fun A' f q => hq A' ((ySm.rf.tr f2 rfl rfl).tr f rfl rfl) q) (fun A' f q => hE A' ((ySm.rf.tr f2 rfl rfl).tr f rfl rfl) q) (fun A' x0 x1 x2 f q => fk78 A' x0 x1 x2 ((ySm.rf.tr f2 rfl rfl).tr f rfl rfl) q) h22
theorem ffl_Parser_variables_780 {rec : Nat → Int → Int → Int → cS → (Int → cS → Prop) → (cS → Prop) → Prop} (hrec : ∀ (i : Nat) (a b c : Int) (A : cS) (Q Q' : Int → cS → Prop) (E E' : cS → Prop), rec i a b c A Q E → (∀ (e : Int) (A' : cS), ySm A A' [2, 3, 4, 5, 6, 7, 8, 9, 10, 11, 12, 13, 21, 22, 23] [3, 4, 5, 10, 11] → Q e A' → Q' e A') → (∀ (A' : cS), ySm A A' [2, 3, 4, 5, 6, 7, 8, 9, 10, 11, 12, 13, 21, 22, 23] [3, 4, 5, 10, 11] → E A' → E' A') → rec i a b c A Q' E') {Q Q' : cS → Prop} {E E' : cS → Prop}  : ∀ (m : Nat) (s0 : cS) (x1 : Int) (x2 : Int) (x3 : Int), (∀ (A' : cS), ySm s0 A' [2, 3, 4, 5, 6, 7, 8, 9, 10, 11, 12, 13, 21, 22, 23] [3, 4, 5, 10, 11] → Q A' → Q' A') → (∀ (A' : cS), ySm s0 A' [2, 3, 4, 5, 6, 7, 8, 9, 10, 11, 12, 13, 21, 22, 23] [3, 4, 5, 10, 11] → E A' → E' A') → wc_Parser_variables_78 rec Q E  m s0 x1 x2 x3 → wc_Parser_variables_78 rec Q' E'  m s0 x1 x2 x3 := by
  intro m
  induction m with
  | zero => intro s0 x1 x2 x3 hq hE  hw; exact hw
  | succ m ih => intro s0 x1 x2 x3 hq hE  hw; exact ffb_Parser_variables_78 hrec hq hE  (fun A' y0 y1 y2 f1 q => ih A' y0 y1 y2 (fun A' f q => hq A' (f1.tr f rfl rfl) q) (fun A' f q => hE A' (f1.tr f rfl rfl) q)  q) hw
theorem ffb_Parser_variables_14 {rec : Nat → Int → Int → Int → cS → (Int → cS → Prop) → (cS → Prop) → Prop} (hrec : ∀ (i : Nat) (a b c : Int) (A : cS) (Q Q' : Int → cS → Prop) (E E' : cS → Prop), rec i a b c A Q E → (∀ (e : Int) (A' : cS), ySm A A' [2, 3, 4, 5, 6, 7, 8, 9, 10, 11, 12, 13, 21, 22, 23] [3, 4, 5, 10, 11] → Q e A' → Q' e A') → (∀ (A' : cS), ySm A A' [2, 3, 4, 5, 6, 7, 8, 9, 10, 11, 12, 13, 21, 22, 23] [3, 4, 5, 10, 11] → E A' → E' A') → rec i a b c A Q' E') {Q Q' : cS → Prop} {E E' : cS → Prop} {k14 k14' : cS → Int → Int → Int → Prop} {s0 : cS} {x1 : Int} {x2 : Int} {x3 : Int} (hq : ∀ (A' : cS), ySm s0 A' [2, 3, 4, 5, 6, 7, 8, 9, 10, 11, 12, 13, 21, 22, 23] [3, 4, 5, 10, 11] → Q A' → Q' A') (hE : ∀ (A' : cS), ySm s0 A' [2, 3, 4, 5, 6, 7, 8, 9, 10, 11, 12, 13, 21, 22, 23] [3, 4, 5, 10, 11] → E A' → E' A') (fk14 : ∀ (A' : cS) (x0 : Int) (x1 : Int) (x2 : Int), ySm s0 A' [2, 3, 4, 5, 6, 7, 8, 9, 10, 11, 12, 13, 21, 22, 23] [3, 4, 5, 10, 11] → k14 A' x0 x1 x2 → k14' A' x0 x1 x2) (hw : wc_Parser_variables_14B rec Q E k14 s0 x1 x2 x3) : wc_Parser_variables_14B rec Q' E' k14' s0 x1 x2 x3 := by
  unfold wc_Parser_variables_14B at hw ⊢
  refine ⟨fun c1 => ?_, fun c1 => ?_⟩
  · have h2 := hw.1 c1
    refine ffm_Parser_due h2 (fun A4 f1 h10 => ?_) (fun Ae fe qe => hE Ae (ySm.rf.tr fe rfl rfl) qe)
    obtain ⟨m11, h12⟩ := h10
    exact ⟨m11, ffl_Parser_variables_780 hrec m11 _ _ _ _ (fun A' f q => hq A' ((ySm.rf.tr f1 rfl rfl).tr f rfl rfl) q) (fun A' f q => hE A' ((ySm.rf.tr f1 rfl rfl).tr f rfl rfl) q)  h12⟩
  · have h13 := hw.2 c1
    refine ffm_Parser_kind h13 (fun r14 A15 f2 h21 => ?_)
    refine ⟨fun c22 => ?_, fun c22 => ?_⟩
    · have h23 := h21.1 c22
      refine ffm_Parser_leaf h23 (fun r24 A25 f3 h31 => ?_)
      refine ffm_Tree_hang h31 (fun A33 f4 h39 => ?_)
      refine ffm_Parser_kind h39 (fun r40 A41 f5 h47 => ?_)
      refine ⟨fun c48 => ?_, fun c48 => ?_⟩
      · have h49 := h47.1 c48
        refine ffm_Parser_advance h49 (fun A51 f6 h57 => ?_)
        obtain ⟨o58, h59⟩ := h57
        refine ⟨o58, ?_⟩
        obtain ⟨o60, h61⟩ := h59
        refine ⟨o60, ?_⟩
        exact fk14 _ _ _ _ (((((ySm.rf.tr f2 rfl rfl).tr f3 rfl rfl).tr f4 rfl rfl).tr f5 rfl rfl).tr f6 rfl rfl) h61
      · have h62 := h47.2 c48
        refine ffm_Parser_due h62 (fun A64 f7 h70 => ?_) (fun Ae fe qe => hE Ae (((((ySm.rf.tr f2 rfl rfl).tr f3 rfl rfl).tr f4 rfl rfl).tr f5 rfl rfl).tr fe rfl rfl) qe)
        obtain ⟨o71, h72⟩ := h70
        refine ⟨o71, ?_⟩
        obtain ⟨m73, h74⟩ := h72
        exact ⟨m73, ffl_Parser_variables_780 hrec m73 _ _ _ _ (fun A' f q => hq A' ((((((ySm.rf.tr f2 rfl rfl).tr f3 rfl rfl).tr f4 rfl rfl).tr f5 rfl rfl).tr f7 rfl rfl).tr f rfl rfl) q) (fun A' f q => hE A' ((((((ySm.rf.tr f2 rfl rfl).tr f3 rfl rfl).tr f4 rfl rfl).tr f5 rfl rfl).tr f7 rfl rfl).tr f rfl rfl) q)  h74⟩
    · have h75 := h21.2 c22
      refine ffm_Parser_refuse h75 (fun A77 f8 h83 => ?_) (fun Ae fe qe => hE Ae ((ySm.rf.tr f2 rfl rfl).tr fe rfl rfl) qe)
      refine ffm_Parser_leaf h83 (fun r84 A85 f9 h91 => ?_)
      refine ffm_Tree_hang h91 (fun A93 f10 h99 => ?_)
      refine ffm_Parser_kind h99 (fun r100 A101 f11 h107 => ?_)
      refine ⟨fun c108 => ?_, fun c108 => ?_⟩
      · have h109 := h107.1 c108
        refine ffm_Parser_advance h109 (fun A111 f12 h117 => ?_)
        obtain ⟨o118, h119⟩ := h117
        refine ⟨o118, ?_⟩
        obtain ⟨o120, h121⟩ := h119
        refine ⟨o120, ?_⟩
        exact fk14 _ _ _ _ ((((((ySm.rf.tr f2 rfl rfl).tr f8 rfl rfl).tr f9 rfl rfl).tr f10 rfl rfl).tr f11 rfl rfl).tr f12 rfl rfl) h121
      · have h122 := h107.2 c108
        refine ffm_Parser_due h122 (fun A124 f13 h130 => ?_) (fun Ae fe qe => hE Ae ((((((ySm.rf.tr f2 rfl rfl).tr f8 rfl rfl).tr f9 rfl rfl).tr f10 rfl rfl).tr f11 rfl rfl).tr fe rfl rfl) qe)
        obtain ⟨o131, h132⟩ := h130
        refine ⟨o131, ?_⟩
        obtain ⟨m133, h134⟩ := h132
        exact ⟨m133, ffl_Parser_variables_780 hrec m133 _ _ _ _ (fun A' f q => hq A' (((((((ySm.rf.tr f2 rfl rfl).tr f8 rfl rfl).tr f9 rfl rfl).tr f10 rfl rfl).tr f11 rfl rfl).tr f13 rfl rfl).tr f rfl rfl) q) (fun A' f q => hE A' (((((((ySm.rf.tr f2 rfl rfl).tr f8 rfl rfl).tr f9 rfl rfl).tr f10 rfl rfl).tr f11 rfl rfl).tr f13 rfl rfl).tr f rfl rfl) q)  h134⟩
theorem ffl_Parser_variables_140 {rec : Nat → Int → Int → Int → cS → (Int → cS → Prop) → (cS → Prop) → Prop} (hrec : ∀ (i : Nat) (a b c : Int) (A : cS) (Q Q' : Int → cS → Prop) (E E' : cS → Prop), rec i a b c A Q E → (∀ (e : Int) (A' : cS), ySm A A' [2, 3, 4, 5, 6, 7, 8, 9, 10, 11, 12, 13, 21, 22, 23] [3, 4, 5, 10, 11] → Q e A' → Q' e A') → (∀ (A' : cS), ySm A A' [2, 3, 4, 5, 6, 7, 8, 9, 10, 11, 12, 13, 21, 22, 23] [3, 4, 5, 10, 11] → E A' → E' A') → rec i a b c A Q' E') {Q Q' : cS → Prop} {E E' : cS → Prop}  : ∀ (m : Nat) (s0 : cS) (x1 : Int) (x2 : Int) (x3 : Int), (∀ (A' : cS), ySm s0 A' [2, 3, 4, 5, 6, 7, 8, 9, 10, 11, 12, 13, 21, 22, 23] [3, 4, 5, 10, 11] → Q A' → Q' A') → (∀ (A' : cS), ySm s0 A' [2, 3, 4, 5, 6, 7, 8, 9, 10, 11, 12, 13, 21, 22, 23] [3, 4, 5, 10, 11] → E A' → E' A') → wc_Parser_variables_14 rec Q E  m s0 x1 x2 x3 → wc_Parser_variables_14 rec Q' E'  m s0 x1 x2 x3 := by
  intro m
  induction m with
  | zero => intro s0 x1 x2 x3 hq hE  hw; exact hw
  | succ m ih => intro s0 x1 x2 x3 hq hE  hw; exact ffb_Parser_variables_14 hrec hq hE  (fun A' y0 y1 y2 f1 q => ih A' y0 y1 y2 (fun A' f q => hq A' (f1.tr f rfl rfl) q) (fun A' f q => hE A' (f1.tr f rfl rfl) q)  q) hw
theorem ffm_Parser_variables {rec : Nat → Int → Int → Int → cS → (Int → cS → Prop) → (cS → Prop) → Prop} (hrec : ∀ (i : Nat) (a b c : Int) (A : cS) (Q Q' : Int → cS → Prop) (E E' : cS → Prop), rec i a b c A Q E → (∀ (e : Int) (A' : cS), ySm A A' [2, 3, 4, 5, 6, 7, 8, 9, 10, 11, 12, 13, 21, 22, 23] [3, 4, 5, 10, 11] → Q e A' → Q' e A') → (∀ (A' : cS), ySm A A' [2, 3, 4, 5, 6, 7, 8, 9, 10, 11, 12, 13, 21, 22, 23] [3, 4, 5, 10, 11] → E A' → E' A') → rec i a b c A Q' E') {s0 : cS} {a0 : Int} {Q Q' : cS → Prop} {E E' : cS → Prop} (hw : wc_Parser_variables rec s0 a0 Q E) (hq : ∀ (A' : cS), ySm s0 A' [2, 3, 4, 5, 6, 7, 8, 9, 10, 11, 12, 13, 21, 22, 23] [3, 4, 5, 10, 11] → Q A' → Q' A') (hE : ∀ (A' : cS), ySm s0 A' [2, 3, 4, 5, 6, 7, 8, 9, 10, 11, 12, 13, 21, 22, 23] [3, 4, 5, 10, 11] → E A' → E' A') : wc_Parser_variables rec s0 a0 Q' E' := by
  unfold wc_Parser_variables at hw ⊢
  refine ffm_Tree_setKind hw (fun A2 f1 h8 => ?_)
  obtain ⟨m9, h10⟩ := h8
  exact ⟨m9, ffl_Parser_variables_140 hrec m9 _ _ _ _ (fun A' f q => hq A' ((ySm.rf.tr f1 rfl rfl).tr f rfl rfl) q) (fun A' f q => hE A' ((ySm.rf.tr f1 rfl rfl).tr f rfl rfl) q)  h10⟩
theorem ffj_Parser_section_66 {rec : Nat → Int → Int → Int → cS → (Int → cS → Prop) → (cS → Prop) → Prop} (hrec : ∀ (i : Nat) (a b c : Int) (A : cS) (Q Q' : Int → cS → Prop) (E E' : cS → Prop), rec i a b c A Q E → (∀ (e : Int) (A' : cS), ySm A A' [2, 3, 4, 5, 6, 7, 8, 9, 10, 11, 12, 13, 21, 22, 23] [3, 4, 5, 10, 11] → Q e A' → Q' e A') → (∀ (A' : cS), ySm A A' [2, 3, 4, 5, 6, 7, 8, 9, 10, 11, 12, 13, 21, 22, 23] [3, 4, 5, 10, 11] → E A' → E' A') → rec i a b c A Q' E') {Q Q' : Int → cS → Prop} {E E' : cS → Prop} {k32 k32' : cS → Int → Int → Int → Int → Prop} {s0 : cS} {x1 : Int} {x2 : Int} {x4 : Int} {y0 : Int} (hq : ∀ (e : Int) (A' : cS), ySm s0 A' [2, 3, 4, 5, 6, 7, 8, 9, 10, 11, 12, 13, 21, 22, 23] [3, 4, 5, 10, 11] → Q e A' → Q' e A') (hE : ∀ (A' : cS), ySm s0 A' [2, 3, 4, 5, 6, 7, 8, 9, 10, 11, 12, 13, 21, 22, 23] [3, 4, 5, 10, 11] → E A' → E' A') (fk32 : ∀ (A' : cS) (x0 : Int) (x1 : Int) (x2 : Int) (x3 : Int), ySm s0 A' [2, 3, 4, 5, 6, 7, 8, 9, 10, 11, 12, 13, 21, 22, 23] [3, 4, 5, 10, 11] → k32 A' x0 x1 x2 x3 → k32' A' x0 x1 x2 x3) (hw : wc_Parser_section_66 rec Q E k32 s0 x1 x2 x4 y0) : wc_Parser_section_66 rec Q' E' k32' s0 x1 x2 x4 y0 := by
  unfold wc_Parser_section_66 at hw ⊢
  refine ⟨fun c1 => ?_, fun c1 => ?_⟩
  · have h2 := hw.1 c1
    refine ⟨fun c3 => ?_, fun c3 => ?_⟩
    · have h4 := h2.1 c3
      refine ffm_Parser_labels h4 (fun A6 f1 h12 => ?_)
      refine hrec _ _ _ _ _ _ _ _ _ h12 (fun r13 A14 f2 h20 => ?_) (fun Ae fe qe => hE Ae ((ySm.rf.tr f1 rfl rfl).tr fe rfl rfl) qe)
      refine ffm_Tree_hang h20 (fun A22 f3 h28 => ?_)
      refine ffm_Parser_kind h28 (fun r29 A30 f4 h36 => ?_)
      refine ⟨fun c37 => ?_, fun c37 => ?_⟩
      · have h38 := h36.1 c37
        refine ffm_Parser_advance h38 (fun A40 f5 h46 => ?_)
        obtain ⟨o47, h48⟩ := h46
        refine ⟨o47, ?_⟩
        exact fk32 _ _ _ _ _ (((((ySm.rf.tr f1 rfl rfl).tr f2 rfl rfl).tr f3 rfl rfl).tr f4 rfl rfl).tr f5 rfl rfl) h48
      · have h49 := h36.2 c37
        refine ffm_Parser_close h49 (fun A51 f6 h57 => ?_) (fun Ae fe qe => hE Ae (((((ySm.rf.tr f1 rfl rfl).tr f2 rfl rfl).tr f3 rfl rfl).tr f4 rfl rfl).tr fe rfl rfl) qe)
        exact hq _ _ (((((ySm.rf.tr f1 rfl rfl).tr f2 rfl rfl).tr f3 rfl rfl).tr f4 rfl rfl).tr f6 rfl rfl) h57
    · have h58 := h2.2 c3
      refine hrec _ _ _ _ _ _ _ _ _ h58 (fun _ A60 f7 h66 => ?_) (fun Ae fe qe => hE Ae (ySm.rf.tr fe rfl rfl) qe)
      refine ffm_Parser_labels h66 (fun A68 f8 h74 => ?_)
      refine hrec _ _ _ _ _ _ _ _ _ h74 (fun r75 A76 f9 h82 => ?_) (fun Ae fe qe => hE Ae (((ySm.rf.tr f7 rfl rfl).tr f8 rfl rfl).tr fe rfl rfl) qe)
      refine ffm_Tree_hang h82 (fun A84 f10 h90 => ?_)
      refine ffm_Parser_kind h90 (fun r91 A92 f11 h98 => ?_)
      refine ⟨fun c99 => ?_, fun c99 => ?_⟩
      · have h100 := h98.1 c99
        refine ffm_Parser_advance h100 (fun A102 f12 h108 => ?_)
        obtain ⟨o109, h110⟩ := h108
        refine ⟨o109, ?_⟩
        exact fk32 _ _ _ _ _ ((((((ySm.rf.tr f7 rfl rfl).tr f8 rfl rfl).tr f9 rfl rfl).tr f10 rfl rfl).tr f11 rfl rfl).tr f12 rfl rfl) h110
      · have h111 := h98.2 c99
        refine ffm_Parser_close h111 (fun A113 f13 h119 => ?_) (fun Ae fe qe => hE Ae ((((((ySm.rf.tr f7 rfl rfl).tr f8 rfl rfl).tr f9 rfl rfl).tr f10 rfl rfl).tr f11 rfl rfl).tr fe rfl rfl) qe)
        exact hq _ _ ((((((ySm.rf.tr f7 rfl rfl).tr f8 rfl rfl).tr f9 rfl rfl).tr f10 rfl rfl).tr f11 rfl rfl).tr f13 rfl rfl) h119
  · have h120 := hw.2 c1
    refine hrec _ _ _ _ _ _ _ _ _ h120 (fun r121 A122 f14 h128 => ?_) (fun Ae fe qe => hE Ae (ySm.rf.tr fe rfl rfl) qe)
    refine ffm_Tree_hang h128 (fun A130 f15 h136 => ?_)
    refine ffm_Parser_kind h136 (fun r137 A138 f16 h144 => ?_)
    refine ⟨fun c145 => ?_, fun c145 => ?_⟩
    · have h146 := h144.1 c145
      refine ffm_Parser_advance h146 (fun A148 f17 h154 => ?_)
      obtain ⟨o155, h156⟩ := h154
      refine ⟨o155, ?_⟩
      exact fk32 _ _ _ _ _ ((((ySm.rf.tr f14 rfl rfl).tr f15 rfl rfl).tr f16 rfl rfl).tr f17 rfl rfl) h156
    · have h157 := h144.2 c145
      refine ffm_Parser_close h157 (fun A159 f18 h165 => ?_) (fun Ae fe qe => hE Ae ((((ySm.rf.tr f14 rfl rfl).tr f15 rfl rfl).tr f16 rfl rfl).tr fe rfl rfl) qe)
      exact hq _ _ ((((ySm.rf.tr f14 rfl rfl).tr f15 rfl rfl).tr f16 rfl rfl).tr f18 rfl rfl) h165
theorem ffb_Parser_section_32 {rec : Nat → Int → Int → Int → cS → (Int → cS → Prop) → (cS → Prop) → Prop} (hrec : ∀ (i : Nat) (a b c : Int) (A : cS) (Q Q' : Int → cS → Prop) (E E' : cS → Prop), rec i a b c A Q E → (∀ (e : Int) (A' : cS), ySm A A' [2, 3, 4, 5, 6, 7, 8, 9, 10, 11, 12, 13, 21, 22, 23] [3, 4, 5, 10, 11] → Q e A' → Q' e A') → (∀ (A' : cS), ySm A A' [2, 3, 4, 5, 6, 7, 8, 9, 10, 11, 12, 13, 21, 22, 23] [3, 4, 5, 10, 11] → E A' → E' A') → rec i a b c A Q' E') {Q Q' : Int → cS → Prop} {E E' : cS → Prop} {k32 k32' : cS → Int → Int → Int → Int → Prop} {s0 : cS} {x1 : Int} {x2 : Int} {x3 : Int} {x4 : Int} (hq : ∀ (e : Int) (A' : cS), ySm s0 A' [2, 3, 4, 5, 6, 7, 8, 9, 10, 11, 12, 13, 21, 22, 23] [3, 4, 5, 10, 11] → Q e A' → Q' e A') (hE : ∀ (A' : cS), ySm s0 A' [2, 3, 4, 5, 6, 7, 8, 9, 10, 11, 12, 13, 21, 22, 23] [3, 4, 5, 10, 11] → E A' → E' A') (fk32 : ∀ (A' : cS) (x0 : Int) (x1 : Int) (x2 : Int) (x3 : Int), ySm s0 A' [2, 3, 4, 5, 6, 7, 8, 9, 10, 11, 12, 13, 21, 22, 23] [3, 4, 5, 10, 11] → k32 A' x0 x1 x2 x3 → k32' A' x0 x1 x2 x3) (hw : wc_Parser_section_32B rec Q E k32 s0 x1 x2 x3 x4) : wc_Parser_section_32B rec Q' E' k32' s0 x1 x2 x3 x4 := by
  unfold wc_Parser_section_32B at hw ⊢
  refine ⟨fun c1 => ?_, fun c1 => ?_⟩
  · have h2 := hw.1 c1
    refine ffm_Parser_close h2 (fun A4 f1 h10 => ?_) (fun Ae fe qe => hE Ae (ySm.rf.tr fe rfl rfl) qe)
    exact hq _ _ (ySm.rf.tr f1 rfl rfl) h10
  · have h11 := hw.2 c1
    refine ⟨fun c12 => ?_, fun c12 => ?_⟩
    · have h13 := h11.1 c12
      exact ffj_Parser_section_66 hrec (fun e A' f q => hq e A' (ySm.rf.tr f rfl rfl) q) (fun A' f q => hE A' (ySm.rf.tr f rfl rfl) q) (fun A' x0 x1 x2 x3 f q => fk32 A' x0 x1 x2 x3 (ySm.rf.tr f rfl rfl) q) h13
    · have h14 := h11.2 c12
      refine ffm_Parser_kind h14 (fun r15 A16 f2 h22 => ?_)
      refine ⟨fun c23 => ?_, fun c23 => ?_⟩
      · have h24 := h22.1 c23
        exact ffj_Parser_section_66 hrec (fun e A' f q => hq e A' ((ySm.rf.tr f2 rfl rfl).tr f rfl rfl) q) (fun A' f q => hE A' ((ySm.rf.tr f2 rfl rfl).tr f rfl rfl) q) (fun A' x0 x1 x2 x3 f q => fk32 A' x0 x1 x2 x3 ((ySm.rf.tr f2 rfl rfl).tr f rfl rfl) q) h24
      · have h25 := h22.2 c23
        refine ffm_Parser_kind h25 (fun r26 A27 f3 h33 => ?_)
        refine ⟨fun c34 => ?_, fun c34 => ?_⟩
        · have h35 := h33.1 c34
          exact ffj_Parser_section_66 hrec (fun e A' f q => hq e A' (((ySm.rf.tr f2 rfl rfl).tr f3 rfl rfl).tr f rfl rfl) q) (fun A' f q => hE A' (((ySm.rf.tr f2 rfl rfl).tr f3 rfl rfl).tr f rfl rfl) q) (fun A' x0 x1 x2 x3 f q => fk32 A' x0 x1 x2 x3 (((ySm.rf.tr f2 rfl rfl).tr f3 rfl rfl).tr f rfl rfl) q) h35
        · have h36 := h33.2 c34
          exact ffj_Parser_section_66 hrec (fun e A' f q => hq e A' (((ySm.rf.tr f2 rfl rfl).tr f3 rfl rfl).tr f rfl rfl) q) (fun A' f q => hE A' (((ySm.rf.tr f2 rfl rfl).tr f3 rfl rfl).tr f rfl rfl) q) (fun A' x0 x1 x2 x3 f q => fk32 A' x0 x1 x2 x3 (((ySm.rf.tr f2 rfl rfl).tr f3 rfl rfl).tr f rfl rfl) q) h36
theorem ffl_Parser_section_320 {rec : Nat → Int → Int → Int → cS → (Int → cS → Prop) → (cS → Prop) → Prop} (hrec : ∀ (i : Nat) (a b c : Int) (A : cS) (Q Q' : Int → cS → Prop) (E E' : cS → Prop), rec i a b c A Q E → (∀ (e : Int) (A' : cS), ySm A A' [2, 3, 4, 5, 6, 7, 8, 9, 10, 11, 12, 13, 21, 22, 23] [3, 4, 5, 10, 11] → Q e A' → Q' e A') → (∀ (A' : cS), ySm A A' [2, 3, 4, 5, 6, 7, 8, 9, 10, 11, 12, 13, 21, 22, 23] [3, 4, 5, 10, 11] → E A' → E' A') → rec i a b c A Q' E') {Q Q' : Int → cS → Prop} {E E' : cS → Prop}  : ∀ (m : Nat) (s0 : cS) (x1 : Int) (x2 : Int) (x3 : Int) (x4 : Int), (∀ (e : Int) (A' : cS), ySm s0 A' [2, 3, 4, 5, 6, 7, 8, 9, 10, 11, 12, 13, 21, 22, 23] [3, 4, 5, 10, 11] → Q e A' → Q' e A') → (∀ (A' : cS), ySm s0 A' [2, 3, 4, 5, 6, 7, 8, 9, 10, 11, 12, 13, 21, 22, 23] [3, 4, 5, 10, 11] → E A' → E' A') → wc_Parser_section_32 rec Q E  m s0 x1 x2 x3 x4 → wc_Parser_section_32 rec Q' E'  m s0 x1 x2 x3 x4 := by
  intro m
  induction m with
  | zero => intro s0 x1 x2 x3 x4 hq hE  hw; exact hw
  | succ m ih => intro s0 x1 x2 x3 x4 hq hE  hw; exact ffb_Parser_section_32 hrec hq hE  (fun A' y0 y1 y2 y3 f1 q => ih A' y0 y1 y2 y3 (fun e A' f q => hq e A' (f1.tr f rfl rfl) q) (fun A' f q => hE A' (f1.tr f rfl rfl) q)  q) hw
theorem ffm_Parser_section {rec : Nat → Int → Int → Int → cS → (Int → cS → Prop) → (cS → Prop) → Prop} (hrec : ∀ (i : Nat) (a b c : Int) (A : cS) (Q Q' : Int → cS → Prop) (E E' : cS → Prop), rec i a b c A Q E → (∀ (e : Int) (A' : cS), ySm A A' [2, 3, 4, 5, 6, 7, 8, 9, 10, 11, 12, 13, 21, 22, 23] [3, 4, 5, 10, 11] → Q e A' → Q' e A') → (∀ (A' : cS), ySm A A' [2, 3, 4, 5, 6, 7, 8, 9, 10, 11, 12, 13, 21, 22, 23] [3, 4, 5, 10, 11] → E A' → E' A') → rec i a b c A Q' E') {s0 : cS} {a0 : Int} {Q Q' : Int → cS → Prop} {E E' : cS → Prop} (hw : wc_Parser_section rec s0 a0 Q E) (hq : ∀ (e : Int) (A' : cS), ySm s0 A' [2, 3, 4, 5, 6, 7, 8, 9, 10, 11, 12, 13, 21, 22, 23] [3, 4, 5, 10, 11] → Q e A' → Q' e A') (hE : ∀ (A' : cS), ySm s0 A' [2, 3, 4, 5, 6, 7, 8, 9, 10, 11, 12, 13, 21, 22, 23] [3, 4, 5, 10, 11] → E A' → E' A') : wc_Parser_section rec s0 a0 Q' E' := by
  unfold wc_Parser_section at hw ⊢
  refine ffm_Parser_place hw (fun r1 A2 f1 h8 => ?_)
  refine ffm_Tree_node h8 (fun r9 A10 f2 h16 => ?_)
  refine ffm_Parser_open h16 (fun A18 f3 h24 => ?_) (fun Ae fe qe => hE Ae (((ySm.rf.tr f1 rfl rfl).tr f2 rfl rfl).tr fe rfl rfl) qe)
  refine ⟨fun c25 => ?_, fun c25 => ?_⟩
  · have h26 := h24.1 c25
    obtain ⟨m27, h28⟩ := h26
    exact ⟨m27, ffl_Parser_section_320 hrec m27 _ _ _ _ _ (fun e A' f q => hq e A' ((((ySm.rf.tr f1 rfl rfl).tr f2 rfl rfl).tr f3 rfl rfl).tr f rfl rfl) q) (fun A' f q => hE A' ((((ySm.rf.tr f1 rfl rfl).tr f2 rfl rfl).tr f3 rfl rfl).tr f rfl rfl) q)  h28⟩
  · have h29 := h24.2 c25
    obtain ⟨m30, h31⟩ := h29
    exact ⟨m30, ffl_Parser_section_320 hrec m30 _ _ _ _ _ (fun e A' f q => hq e A' ((((ySm.rf.tr f1 rfl rfl).tr f2 rfl rfl).tr f3 rfl rfl).tr f rfl rfl) q) (fun A' f q => hE A' ((((ySm.rf.tr f1 rfl rfl).tr f2 rfl rfl).tr f3 rfl rfl).tr f rfl rfl) q)  h31⟩
theorem ffj_Parser_cases_40 {rec : Nat → Int → Int → Int → cS → (Int → cS → Prop) → (cS → Prop) → Prop} (hrec : ∀ (i : Nat) (a b c : Int) (A : cS) (Q Q' : Int → cS → Prop) (E E' : cS → Prop), rec i a b c A Q E → (∀ (e : Int) (A' : cS), ySm A A' [2, 3, 4, 5, 6, 7, 8, 9, 10, 11, 12, 13, 21, 22, 23] [3, 4, 5, 10, 11] → Q e A' → Q' e A') → (∀ (A' : cS), ySm A A' [2, 3, 4, 5, 6, 7, 8, 9, 10, 11, 12, 13, 21, 22, 23] [3, 4, 5, 10, 11] → E A' → E' A') → rec i a b c A Q' E') {Q Q' : cS → Prop} {E E' : cS → Prop} {k2 k2' : cS → Int → Int → Prop} {s0 : cS} {x1 : Int} {x2 : Int} {y0 : Int} (hq : ∀ (A' : cS), ySm s0 A' [2, 3, 4, 5, 6, 7, 8, 9, 10, 11, 12, 13, 21, 22, 23] [3, 4, 5, 10, 11] → Q A' → Q' A') (hE : ∀ (A' : cS), ySm s0 A' [2, 3, 4, 5, 6, 7, 8, 9, 10, 11, 12, 13, 21, 22, 23] [3, 4, 5, 10, 11] → E A' → E' A') (fk2 : ∀ (A' : cS) (x0 : Int) (x1 : Int), ySm s0 A' [2, 3, 4, 5, 6, 7, 8, 9, 10, 11, 12, 13, 21, 22, 23] [3, 4, 5, 10, 11] → k2 A' x0 x1 → k2' A' x0 x1) (hw : wc_Parser_cases_40 rec Q E k2 s0 x1 x2 y0) : wc_Parser_cases_40 rec Q' E' k2' s0 x1 x2 y0 := by
  unfold wc_Parser_cases_40 at hw ⊢
  refine ffm_Parser_kind hw (fun r1 A2 f1 h8 => ?_)
  refine ffm_Parser_leaf h8 (fun r9 A10 f2 h16 => ?_)
  refine ⟨fun c17 => ?_, fun c17 => ?_⟩
  · have h18 := h16.1 c17
    refine ffm_Parser_due h18 (fun A20 f3 h26 => ?_) (fun Ae fe qe => hE Ae (((ySm.rf.tr f1 rfl rfl).tr f2 rfl rfl).tr fe rfl rfl) qe)
    refine ffm_Tree_hang h26 (fun A28 f4 h34 => ?_)
    obtain ⟨o35, h36⟩ := h34
    refine ⟨o35, ?_⟩
    exact fk2 _ _ _ ((((ySm.rf.tr f1 rfl rfl).tr f2 rfl rfl).tr f3 rfl rfl).tr f4 rfl rfl) h36
  · have h37 := h16.2 c17
    refine hrec _ _ _ _ _ _ _ _ _ h37 (fun r38 A39 f5 h45 => ?_) (fun Ae fe qe => hE Ae (((ySm.rf.tr f1 rfl rfl).tr f2 rfl rfl).tr fe rfl rfl) qe)
    refine ffm_Tree_hang h45 (fun A47 f6 h53 => ?_)
    refine ffm_Parser_due h53 (fun A55 f7 h61 => ?_) (fun Ae fe qe => hE Ae (((((ySm.rf.tr f1 rfl rfl).tr f2 rfl rfl).tr f5 rfl rfl).tr f6 rfl rfl).tr fe rfl rfl) qe)
    refine ffm_Tree_hang h61 (fun A63 f8 h69 => ?_)
    obtain ⟨o70, h71⟩ := h69
    refine ⟨o70, ?_⟩
    exact fk2 _ _ _ ((((((ySm.rf.tr f1 rfl rfl).tr f2 rfl rfl).tr f5 rfl rfl).tr f6 rfl rfl).tr f7 rfl rfl).tr f8 rfl rfl) h71
theorem ffb_Parser_cases_2 {rec : Nat → Int → Int → Int → cS → (Int → cS → Prop) → (cS → Prop) → Prop} (hrec : ∀ (i : Nat) (a b c : Int) (A : cS) (Q Q' : Int → cS → Prop) (E E' : cS → Prop), rec i a b c A Q E → (∀ (e : Int) (A' : cS), ySm A A' [2, 3, 4, 5, 6, 7, 8, 9, 10, 11, 12, 13, 21, 22, 23] [3, 4, 5, 10, 11] → Q e A' → Q' e A') → (∀ (A' : cS), ySm A A' [2, 3, 4, 5, 6, 7, 8, 9, 10, 11, 12, 13, 21, 22, 23] [3, 4, 5, 10, 11] → E A' → E' A') → rec i a b c A Q' E') {Q Q' : cS → Prop} {E E' : cS → Prop} {k2 k2' : cS → Int → Int → Prop} {s0 : cS} {x1 : Int} {x2 : Int} (hq : ∀ (A' : cS), ySm s0 A' [2, 3, 4, 5, 6, 7, 8, 9, 10, 11, 12, 13, 21, 22, 23] [3, 4, 5, 10, 11] → Q A' → Q' A') (hE : ∀ (A' : cS), ySm s0 A' [2, 3, 4, 5, 6, 7, 8, 9, 10, 11, 12, 13, 21, 22, 23] [3, 4, 5, 10, 11] → E A' → E' A') (fk2 : ∀ (A' : cS) (x0 : Int) (x1 : Int), ySm s0 A' [2, 3, 4, 5, 6, 7, 8, 9, 10, 11, 12, 13, 21, 22, 23] [3, 4, 5, 10, 11] → k2 A' x0 x1 → k2' A' x0 x1) (hw : wc_Parser_cases_2B rec Q E k2 s0 x1 x2) : wc_Parser_cases_2B rec Q' E' k2' s0 x1 x2 := by
  unfold wc_Parser_cases_2B at hw ⊢
  refine ⟨fun c1 => ?_, fun c1 => ?_⟩
  · have h2 := hw.1 c1
    exact hq _ ySm.rf h2
  · have h3 := hw.2 c1
    refine ffm_Parser_kind h3 (fun r4 A5 f1 h11 => ?_)
    refine ⟨fun c12 => ?_, fun c12 => ?_⟩
    · have h13 := h11.1 c12
      refine ffm_Parser_kind h13 (fun r14 A15 f2 h21 => ?_)
      refine ⟨fun c22 => ?_, fun c22 => ?_⟩
      · have h23 := h21.1 c22
        exact ffj_Parser_cases_40 hrec (fun A' f q => hq A' (((ySm.rf.tr f1 rfl rfl).tr f2 rfl rfl).tr f rfl rfl) q) (fun A' f q => hE A' (((ySm.rf.tr f1 rfl rfl).tr f2 rfl rfl).tr f rfl rfl) q) (fun A' x0 x1 f q => fk2 A' x0 x1 (((ySm.rf.tr f1 rfl rfl).tr f2 rfl rfl).tr f rfl rfl) q) h23
      · have h24 := h21.2 c22
        exact ffj_Parser_cases_40 hrec (fun A' f q => hq A' (((ySm.rf.tr f1 rfl rfl).tr f2 rfl rfl).tr f rfl rfl) q) (fun A' f q => hE A' (((ySm.rf.tr f1 rfl rfl).tr f2 rfl rfl).tr f rfl rfl) q) (fun A' x0 x1 f q => fk2 A' x0 x1 (((ySm.rf.tr f1 rfl rfl).tr f2 rfl rfl).tr f rfl rfl) q) h24
    · have h25 := h11.2 c12
      refine ffm_Parser_kind h25 (fun r26 A27 f3 h33 => ?_)
      refine ⟨fun c34 => ?_, fun c34 => ?_⟩
      · have h35 := h33.1 c34
        exact hq _ ((ySm.rf.tr f1 rfl rfl).tr f3 rfl rfl) h35
      · have h36 := h33.2 c34
        refine ffm_Parser_kind h36 (fun r37 A38 f4 h44 => ?_)
        refine ⟨fun c45 => ?_, fun c45 => ?_⟩
        · have h46 := h44.1 c45
          exact ffj_Parser_cases_40 hrec (fun A' f q => hq A' ((((ySm.rf.tr f1 rfl rfl).tr f3 rfl rfl).tr f4 rfl rfl).tr f rfl rfl) q) (fun A' f q => hE A' ((((ySm.rf.tr f1 rfl rfl).tr f3 rfl rfl).tr f4 rfl rfl).tr f rfl rfl) q) (fun A' x0 x1 f q => fk2 A' x0 x1 ((((ySm.rf.tr f1 rfl rfl).tr f3 rfl rfl).tr f4 rfl rfl).tr f rfl rfl) q) h46
        · have h47 := h44.2 c45
          exact ffj_Parser_cases_40 hrec (fun A' f q => hq A' ((((ySm.rf.tr f1 rfl rfl).tr f3 rfl rfl).tr f4 rfl rfl).tr f rfl rfl) q) (fun A' f q => hE A' ((((ySm.rf.tr f1 rfl rfl).tr f3 rfl rfl).tr f4 rfl rfl).tr f rfl rfl) q) (fun A' x0 x1 f q => fk2 A' x0 x1 ((((ySm.rf.tr f1 rfl rfl).tr f3 rfl rfl).tr f4 rfl rfl).tr f rfl rfl) q) h47
theorem ffl_Parser_cases_20 {rec : Nat → Int → Int → Int → cS → (Int → cS → Prop) → (cS → Prop) → Prop} (hrec : ∀ (i : Nat) (a b c : Int) (A : cS) (Q Q' : Int → cS → Prop) (E E' : cS → Prop), rec i a b c A Q E → (∀ (e : Int) (A' : cS), ySm A A' [2, 3, 4, 5, 6, 7, 8, 9, 10, 11, 12, 13, 21, 22, 23] [3, 4, 5, 10, 11] → Q e A' → Q' e A') → (∀ (A' : cS), ySm A A' [2, 3, 4, 5, 6, 7, 8, 9, 10, 11, 12, 13, 21, 22, 23] [3, 4, 5, 10, 11] → E A' → E' A') → rec i a b c A Q' E') {Q Q' : cS → Prop} {E E' : cS → Prop}  : ∀ (m : Nat) (s0 : cS) (x1 : Int) (x2 : Int), (∀ (A' : cS), ySm s0 A' [2, 3, 4, 5, 6, 7, 8, 9, 10, 11, 12, 13, 21, 22, 23] [3, 4, 5, 10, 11] → Q A' → Q' A') → (∀ (A' : cS), ySm s0 A' [2, 3, 4, 5, 6, 7, 8, 9, 10, 11, 12, 13, 21, 22, 23] [3, 4, 5, 10, 11] → E A' → E' A') → wc_Parser_cases_2 rec Q E  m s0 x1 x2 → wc_Parser_cases_2 rec Q' E'  m s0 x1 x2 := by
  intro m
  induction m with
  | zero => intro s0 x1 x2 hq hE  hw; exact hw
  | succ m ih => intro s0 x1 x2 hq hE  hw; exact ffb_Parser_cases_2 hrec hq hE  (fun A' y0 y1 f1 q => ih A' y0 y1 (fun A' f q => hq A' (f1.tr f rfl rfl) q) (fun A' f q => hE A' (f1.tr f rfl rfl) q)  q) hw
theorem ffm_Parser_cases {rec : Nat → Int → Int → Int → cS → (Int → cS → Prop) → (cS → Prop) → Prop} (hrec : ∀ (i : Nat) (a b c : Int) (A : cS) (Q Q' : Int → cS → Prop) (E E' : cS → Prop), rec i a b c A Q E → (∀ (e : Int) (A' : cS), ySm A A' [2, 3, 4, 5, 6, 7, 8, 9, 10, 11, 12, 13, 21, 22, 23] [3, 4, 5, 10, 11] → Q e A' → Q' e A') → (∀ (A' : cS), ySm A A' [2, 3, 4, 5, 6, 7, 8, 9, 10, 11, 12, 13, 21, 22, 23] [3, 4, 5, 10, 11] → E A' → E' A') → rec i a b c A Q' E') {s0 : cS} {a0 : Int} {Q Q' : cS → Prop} {E E' : cS → Prop} (hw : wc_Parser_cases rec s0 a0 Q E) (hq : ∀ (A' : cS), ySm s0 A' [2, 3, 4, 5, 6, 7, 8, 9, 10, 11, 12, 13, 21, 22, 23] [3, 4, 5, 10, 11] → Q A' → Q' A') (hE : ∀ (A' : cS), ySm s0 A' [2, 3, 4, 5, 6, 7, 8, 9, 10, 11, 12, 13, 21, 22, 23] [3, 4, 5, 10, 11] → E A' → E' A') : wc_Parser_cases rec s0 a0 Q' E' := by
  unfold wc_Parser_cases at hw ⊢
  obtain ⟨m1, h2⟩ := hw
  exact ⟨m1, ffl_Parser_cases_20 hrec m1 _ _ _ (fun A' f q => hq A' (ySm.rf.tr f rfl rfl) q) (fun A' f q => hE A' (ySm.rf.tr f rfl rfl) q)  h2⟩
theorem ffj_Parser_command_320 {rec : Nat → Int → Int → Int → cS → (Int → cS → Prop) → (cS → Prop) → Prop} (hrec : ∀ (i : Nat) (a b c : Int) (A : cS) (Q Q' : Int → cS → Prop) (E E' : cS → Prop), rec i a b c A Q E → (∀ (e : Int) (A' : cS), ySm A A' [2, 3, 4, 5, 6, 7, 8, 9, 10, 11, 12, 13, 21, 22, 23] [3, 4, 5, 10, 11] → Q e A' → Q' e A') → (∀ (A' : cS), ySm A A' [2, 3, 4, 5, 6, 7, 8, 9, 10, 11, 12, 13, 21, 22, 23] [3, 4, 5, 10, 11] → E A' → E' A') → rec i a b c A Q' E') {Q Q' : Int → cS → Prop} {E E' : cS → Prop}  {s0 : cS} {x1 : Int} (hq : ∀ (e : Int) (A' : cS), ySm s0 A' [2, 3, 4, 5, 6, 7, 8, 9, 10, 11, 12, 13, 21, 22, 23] [3, 4, 5, 10, 11] → Q e A' → Q' e A') (hE : ∀ (A' : cS), ySm s0 A' [2, 3, 4, 5, 6, 7, 8, 9, 10, 11, 12, 13, 21, 22, 23] [3, 4, 5, 10, 11] → E A' → E' A')  (hw : wc_Parser_command_320 rec Q E  s0 x1) : wc_Parser_command_320 rec Q' E'  s0 x1 := by
  unfold wc_Parser_command_320 at hw ⊢
  refine ffm_Parser_kind hw (fun r1 A2 f1 h8 => ?_)
  refine ffm_Parser_isRepeat h8 (fun r9 A10 f2 h16 => ?_)
  refine ⟨fun c17 => ?_, fun c17 => ?_⟩
  · have h18 := h16.1 c17
    exact hq _ _ ((ySm.rf.tr f1 rfl rfl).tr f2 rfl rfl) h18
  · have h19 := h16.2 c17
    refine hrec _ _ _ _ _ _ _ _ _ h19 (fun r20 A21 f3 h27 => ?_) (fun Ae fe qe => hE Ae (((ySm.rf.tr f1 rfl rfl).tr f2 rfl rfl).tr fe rfl rfl) qe)
    exact hq _ _ (((ySm.rf.tr f1 rfl rfl).tr f2 rfl rfl).tr f3 rfl rfl) h27
theorem ffm_Parser_command {rec : Nat → Int → Int → Int → cS → (Int → cS → Prop) → (cS → Prop) → Prop} (hrec : ∀ (i : Nat) (a b c : Int) (A : cS) (Q Q' : Int → cS → Prop) (E E' : cS → Prop), rec i a b c A Q E → (∀ (e : Int) (A' : cS), ySm A A' [2, 3, 4, 5, 6, 7, 8, 9, 10, 11, 12, 13, 21, 22, 23] [3, 4, 5, 10, 11] → Q e A' → Q' e A') → (∀ (A' : cS), ySm A A' [2, 3, 4, 5, 6, 7, 8, 9, 10, 11, 12, 13, 21, 22, 23] [3, 4, 5, 10, 11] → E A' → E' A') → rec i a b c A Q' E') {s0 : cS}  {Q Q' : Int → cS → Prop} {E E' : cS → Prop} (hw : wc_Parser_command rec s0  Q E) (hq : ∀ (e : Int) (A' : cS), ySm s0 A' [2, 3, 4, 5, 6, 7, 8, 9, 10, 11, 12, 13, 21, 22, 23] [3, 4, 5, 10, 11] → Q e A' → Q' e A') (hE : ∀ (A' : cS), ySm s0 A' [2, 3, 4, 5, 6, 7, 8, 9, 10, 11, 12, 13, 21, 22, 23] [3, 4, 5, 10, 11] → E A' → E' A') : wc_Parser_command rec s0  Q' E' := by
  unfold wc_Parser_command at hw ⊢
  refine ffm_Parser_kind hw (fun r1 A2 f1 h8 => ?_)
  refine ⟨fun g9 => ?_, ?_⟩
  · have h11 := (h8.1) g9
    refine hrec _ _ _ _ _ _ _ _ _ h11 (fun r12 A13 f2 h19 => ?_) (fun Ae fe qe => hE Ae ((ySm.rf.tr f1 rfl rfl).tr fe rfl rfl) qe)
    exact ffj_Parser_command_320 hrec (fun e A' f q => hq e A' (((ySm.rf.tr f1 rfl rfl).tr f2 rfl rfl).tr f rfl rfl) q) (fun A' f q => hE A' (((ySm.rf.tr f1 rfl rfl).tr f2 rfl rfl).tr f rfl rfl) q)  h19
  · skip
    refine ⟨fun g20 => ?_, ?_⟩
    · have h22 := (h8.2.1) g20
      refine ffm_Parser_place h22 (fun r23 A24 f3 h30 => ?_)
      refine ffm_Tree_node h30 (fun r31 A32 f4 h38 => ?_)
      exact hq _ _ (((ySm.rf.tr f1 rfl rfl).tr f3 rfl rfl).tr f4 rfl rfl) h38
    · skip
      refine ⟨fun g39 => ?_, ?_⟩
      · have h41 := (h8.2.2.1) g39
        refine hrec _ _ _ _ _ _ _ _ _ h41 (fun r42 A43 f5 h49 => ?_) (fun Ae fe qe => hE Ae ((ySm.rf.tr f1 rfl rfl).tr fe rfl rfl) qe)
        exact ffj_Parser_command_320 hrec (fun e A' f q => hq e A' (((ySm.rf.tr f1 rfl rfl).tr f5 rfl rfl).tr f rfl rfl) q) (fun A' f q => hE A' (((ySm.rf.tr f1 rfl rfl).tr f5 rfl rfl).tr f rfl rfl) q)  h49
      · skip
        refine ⟨fun g50 => ?_, ?_⟩
        · have h52 := (h8.2.2.2.1) g50
          refine hrec _ _ _ _ _ _ _ _ _ h52 (fun r53 A54 f6 h60 => ?_) (fun Ae fe qe => hE Ae ((ySm.rf.tr f1 rfl rfl).tr fe rfl rfl) qe)
          exact ffj_Parser_command_320 hrec (fun e A' f q => hq e A' (((ySm.rf.tr f1 rfl rfl).tr f6 rfl rfl).tr f rfl rfl) q) (fun A' f q => hE A' (((ySm.rf.tr f1 rfl rfl).tr f6 rfl rfl).tr f rfl rfl) q)  h60
        · skip
          refine ⟨fun g61 => ?_, ?_⟩
          · have h63 := (h8.2.2.2.2.1) g61
            refine hrec _ _ _ _ _ _ _ _ _ h63 (fun r64 A65 f7 h71 => ?_) (fun Ae fe qe => hE Ae ((ySm.rf.tr f1 rfl rfl).tr fe rfl rfl) qe)
            exact ffj_Parser_command_320 hrec (fun e A' f q => hq e A' (((ySm.rf.tr f1 rfl rfl).tr f7 rfl rfl).tr f rfl rfl) q) (fun A' f q => hE A' (((ySm.rf.tr f1 rfl rfl).tr f7 rfl rfl).tr f rfl rfl) q)  h71
          · skip
            refine ⟨fun g72 => ?_, ?_⟩
            · have h74 := (h8.2.2.2.2.2.1) g72
              refine ffm_Parser_kind h74 (fun r75 A76 f8 h82 => ?_)
              refine ffm_Parser_leaf h82 (fun r83 A84 f9 h90 => ?_)
              exact ffj_Parser_command_320 hrec (fun e A' f q => hq e A' ((((ySm.rf.tr f1 rfl rfl).tr f8 rfl rfl).tr f9 rfl rfl).tr f rfl rfl) q) (fun A' f q => hE A' ((((ySm.rf.tr f1 rfl rfl).tr f8 rfl rfl).tr f9 rfl rfl).tr f rfl rfl) q)  h90
            · skip
              refine ⟨fun g91 => ?_, ?_⟩
              · have h93 := (h8.2.2.2.2.2.2.1) g91
                refine ffm_Parser_leaf h93 (fun r94 A95 f10 h101 => ?_)
                refine hrec _ _ _ _ _ _ _ _ _ h101 (fun r102 A103 f11 h109 => ?_) (fun Ae fe qe => hE Ae (((ySm.rf.tr f1 rfl rfl).tr f10 rfl rfl).tr fe rfl rfl) qe)
                refine ffm_Tree_hang h109 (fun A111 f12 h117 => ?_)
                exact ffj_Parser_command_320 hrec (fun e A' f q => hq e A' (((((ySm.rf.tr f1 rfl rfl).tr f10 rfl rfl).tr f11 rfl rfl).tr f12 rfl rfl).tr f rfl rfl) q) (fun A' f q => hE A' (((((ySm.rf.tr f1 rfl rfl).tr f10 rfl rfl).tr f11 rfl rfl).tr f12 rfl rfl).tr f rfl rfl) q)  h117
              · skip
                refine ⟨fun g118 => ?_, ?_⟩
                · have h120 := (h8.2.2.2.2.2.2.2.1) g118
                  refine ffm_Parser_advance h120 (fun A122 f13 h128 => ?_)
                  refine ffm_Parser_place h128 (fun r129 A130 f14 h136 => ?_)
                  refine ffm_Parser_nameDue h136 (fun r137 A138 f15 h144 => ?_) (fun Ae fe qe => hE Ae ((((ySm.rf.tr f1 rfl rfl).tr f13 rfl rfl).tr f14 rfl rfl).tr fe rfl rfl) qe)
                  refine ffm_Tree_node h144 (fun r145 A146 f16 h152 => ?_)
                  exact ffj_Parser_command_320 hrec (fun e A' f q => hq e A' ((((((ySm.rf.tr f1 rfl rfl).tr f13 rfl rfl).tr f14 rfl rfl).tr f15 rfl rfl).tr f16 rfl rfl).tr f rfl rfl) q) (fun A' f q => hE A' ((((((ySm.rf.tr f1 rfl rfl).tr f13 rfl rfl).tr f14 rfl rfl).tr f15 rfl rfl).tr f16 rfl rfl).tr f rfl rfl) q)  h152
                · skip
                  intro ng9 ng20 ng39 ng50 ng61 ng72 ng91 ng118
                  have h153 := h8.2.2.2.2.2.2.2.2 ng9 ng20 ng39 ng50 ng61 ng72 ng91 ng118
                  refine hrec _ _ _ _ _ _ _ _ _ h153 (fun r154 A155 f17 h161 => ?_) (fun Ae fe qe => hE Ae ((ySm.rf.tr f1 rfl rfl).tr fe rfl rfl) qe)
                  exact ffj_Parser_command_320 hrec (fun e A' f q => hq e A' (((ySm.rf.tr f1 rfl rfl).tr f17 rfl rfl).tr f rfl rfl) q) (fun A' f q => hE A' (((ySm.rf.tr f1 rfl rfl).tr f17 rfl rfl).tr f rfl rfl) q)  h161
theorem ffb_Parser_repeats_36 {rec : Nat → Int → Int → Int → cS → (Int → cS → Prop) → (cS → Prop) → Prop} (hrec : ∀ (i : Nat) (a b c : Int) (A : cS) (Q Q' : Int → cS → Prop) (E E' : cS → Prop), rec i a b c A Q E → (∀ (e : Int) (A' : cS), ySm A A' [2, 3, 4, 5, 6, 7, 8, 9, 10, 11, 12, 13, 21, 22, 23] [3, 4, 5, 10, 11] → Q e A' → Q' e A') → (∀ (A' : cS), ySm A A' [2, 3, 4, 5, 6, 7, 8, 9, 10, 11, 12, 13, 21, 22, 23] [3, 4, 5, 10, 11] → E A' → E' A') → rec i a b c A Q' E') {Q Q' : Int → cS → Prop} {E E' : cS → Prop} {k36 k36' : cS → Int → Int → Int → Prop} {s0 : cS} {x2 : Int} {x3 : Int} {x4 : Int} (hq : ∀ (e : Int) (A' : cS), ySm s0 A' [2, 3, 4, 5, 6, 7, 8, 9, 10, 11, 12, 13, 21, 22, 23] [3, 4, 5, 10, 11] → Q e A' → Q' e A') (hE : ∀ (A' : cS), ySm s0 A' [2, 3, 4, 5, 6, 7, 8, 9, 10, 11, 12, 13, 21, 22, 23] [3, 4, 5, 10, 11] → E A' → E' A') (fk36 : ∀ (A' : cS) (x0 : Int) (x1 : Int) (x2 : Int), ySm s0 A' [2, 3, 4, 5, 6, 7, 8, 9, 10, 11, 12, 13, 21, 22, 23] [3, 4, 5, 10, 11] → k36 A' x0 x1 x2 → k36' A' x0 x1 x2) (hw : wc_Parser_repeats_36B rec Q E k36 s0 x2 x3 x4) : wc_Parser_repeats_36B rec Q' E' k36' s0 x2 x3 x4 := by
  unfold wc_Parser_repeats_36B at hw ⊢
  refine ⟨fun c1 => ?_, fun c1 => ?_⟩
  · have h2 := hw.1 c1
    exact hq _ _ (ySm.rf.pv rfl) h2
  · have h14 := hw.2 c1
    refine ffm_Parser_kind h14 (fun r15 A16 f1 h22 => ?_)
    refine ffm_Parser_isRepeat h22 (fun r23 A24 f2 h30 => ?_)
    refine ⟨fun c31 => ?_, fun c31 => ?_⟩
    · have h32 := h30.1 c31
      exact hq _ _ (((ySm.rf.tr f1 rfl rfl).tr f2 rfl rfl).pv rfl) h32
    · have h44 := h30.2 c31
      refine ffm_Parser_enter h44 (fun A46 f3 h52 => ?_) (fun Ae fe qe => hE Ae (((ySm.rf.tr f1 rfl rfl).tr f2 rfl rfl).tr fe rfl rfl) qe)
      refine ffm_Parser_kind h52 (fun r53 A54 f4 h60 => ?_)
      refine ffm_Parser_leaf h60 (fun r61 A62 f5 h68 => ?_)
      refine ffm_Tree_kind h68 (fun r69 A70 f6 h76 => ?_)
      refine ⟨fun c77 => ?_, fun c77 => ?_⟩
      · have h78 := h76.1 c77
        refine ffm_Tree_hang h78 (fun A80 f7 h86 => ?_)
        obtain ⟨o87, h88⟩ := h86
        refine ⟨o87, ?_⟩
        exact fk36 _ _ _ _ (((((((ySm.rf.tr f1 rfl rfl).tr f2 rfl rfl).tr f3 rfl rfl).tr f4 rfl rfl).tr f5 rfl rfl).tr f6 rfl rfl).tr f7 rfl rfl) h88
      · have h89 := h76.2 c77
        refine hrec _ _ _ _ _ _ _ _ _ h89 (fun r90 A91 f8 h97 => ?_) (fun Ae fe qe => hE Ae (((((((ySm.rf.tr f1 rfl rfl).tr f2 rfl rfl).tr f3 rfl rfl).tr f4 rfl rfl).tr f5 rfl rfl).tr f6 rfl rfl).tr fe rfl rfl) qe)
        refine ffm_Tree_hang h97 (fun A99 f9 h105 => ?_)
        refine ffm_Tree_hang h105 (fun A107 f10 h113 => ?_)
        obtain ⟨o114, h115⟩ := h113
        refine ⟨o114, ?_⟩
        exact fk36 _ _ _ _ (((((((((ySm.rf.tr f1 rfl rfl).tr f2 rfl rfl).tr f3 rfl rfl).tr f4 rfl rfl).tr f5 rfl rfl).tr f6 rfl rfl).tr f8 rfl rfl).tr f9 rfl rfl).tr f10 rfl rfl) h115
theorem ffl_Parser_repeats_360 {rec : Nat → Int → Int → Int → cS → (Int → cS → Prop) → (cS → Prop) → Prop} (hrec : ∀ (i : Nat) (a b c : Int) (A : cS) (Q Q' : Int → cS → Prop) (E E' : cS → Prop), rec i a b c A Q E → (∀ (e : Int) (A' : cS), ySm A A' [2, 3, 4, 5, 6, 7, 8, 9, 10, 11, 12, 13, 21, 22, 23] [3, 4, 5, 10, 11] → Q e A' → Q' e A') → (∀ (A' : cS), ySm A A' [2, 3, 4, 5, 6, 7, 8, 9, 10, 11, 12, 13, 21, 22, 23] [3, 4, 5, 10, 11] → E A' → E' A') → rec i a b c A Q' E') {Q Q' : Int → cS → Prop} {E E' : cS → Prop}  : ∀ (m : Nat) (s0 : cS) (x2 : Int) (x3 : Int) (x4 : Int), (∀ (e : Int) (A' : cS), ySm s0 A' [2, 3, 4, 5, 6, 7, 8, 9, 10, 11, 12, 13, 21, 22, 23] [3, 4, 5, 10, 11] → Q e A' → Q' e A') → (∀ (A' : cS), ySm s0 A' [2, 3, 4, 5, 6, 7, 8, 9, 10, 11, 12, 13, 21, 22, 23] [3, 4, 5, 10, 11] → E A' → E' A') → wc_Parser_repeats_36 rec Q E  m s0 x2 x3 x4 → wc_Parser_repeats_36 rec Q' E'  m s0 x2 x3 x4 := by
  intro m
  induction m with
  | zero => intro s0 x2 x3 x4 hq hE  hw; exact hw
  | succ m ih => intro s0 x2 x3 x4 hq hE  hw; exact ffb_Parser_repeats_36 hrec hq hE  (fun A' y0 y1 y2 f1 q => ih A' y0 y1 y2 (fun e A' f q => hq e A' (f1.tr f rfl rfl) q) (fun A' f q => hE A' (f1.tr f rfl rfl) q)  q) hw
theorem ffm_Parser_repeats {rec : Nat → Int → Int → Int → cS → (Int → cS → Prop) → (cS → Prop) → Prop} (hrec : ∀ (i : Nat) (a b c : Int) (A : cS) (Q Q' : Int → cS → Prop) (E E' : cS → Prop), rec i a b c A Q E → (∀ (e : Int) (A' : cS), ySm A A' [2, 3, 4, 5, 6, 7, 8, 9, 10, 11, 12, 13, 21, 22, 23] [3, 4, 5, 10, 11] → Q e A' → Q' e A') → (∀ (A' : cS), ySm A A' [2, 3, 4, 5, 6, 7, 8, 9, 10, 11, 12, 13, 21, 22, 23] [3, 4, 5, 10, 11] → E A' → E' A') → rec i a b c A Q' E') {s0 : cS} {a0 : Int} {Q Q' : Int → cS → Prop} {E E' : cS → Prop} (hw : wc_Parser_repeats rec s0 a0 Q E) (hq : ∀ (e : Int) (A' : cS), ySm s0 A' [2, 3, 4, 5, 6, 7, 8, 9, 10, 11, 12, 13, 21, 22, 23] [3, 4, 5, 10, 11] → Q e A' → Q' e A') (hE : ∀ (A' : cS), ySm s0 A' [2, 3, 4, 5, 6, 7, 8, 9, 10, 11, 12, 13, 21, 22, 23] [3, 4, 5, 10, 11] → E A' → E' A') : wc_Parser_repeats rec s0 a0 Q' E' := by
  unfold wc_Parser_repeats at hw ⊢
  refine ffm_Tree_place hw (fun r1 A2 f1 h8 => ?_)
  refine ffm_Tree_node h8 (fun r9 A10 f2 h16 => ?_)
  refine ffm_Tree_hang h16 (fun A18 f3 h24 => ?_)
  obtain ⟨m25, h26⟩ := h24
  exact ⟨m25, ffl_Parser_repeats_360 hrec m25 _ _ _ _ (fun e A' f q => hq e A' ((((ySm.rf.tr f1 rfl rfl).tr f2 rfl rfl).tr f3 rfl rfl).tr f rfl rfl) q) (fun A' f q => hE A' ((((ySm.rf.tr f1 rfl rfl).tr f2 rfl rfl).tr f3 rfl rfl).tr f rfl rfl) q)  h26⟩
theorem ffm_Parser_conditional {rec : Nat → Int → Int → Int → cS → (Int → cS → Prop) → (cS → Prop) → Prop} (hrec : ∀ (i : Nat) (a b c : Int) (A : cS) (Q Q' : Int → cS → Prop) (E E' : cS → Prop), rec i a b c A Q E → (∀ (e : Int) (A' : cS), ySm A A' [2, 3, 4, 5, 6, 7, 8, 9, 10, 11, 12, 13, 21, 22, 23] [3, 4, 5, 10, 11] → Q e A' → Q' e A') → (∀ (A' : cS), ySm A A' [2, 3, 4, 5, 6, 7, 8, 9, 10, 11, 12, 13, 21, 22, 23] [3, 4, 5, 10, 11] → E A' → E' A') → rec i a b c A Q' E') {s0 : cS}  {Q Q' : Int → cS → Prop} {E E' : cS → Prop} (hw : wc_Parser_conditional rec s0  Q E) (hq : ∀ (e : Int) (A' : cS), ySm s0 A' [2, 3, 4, 5, 6, 7, 8, 9, 10, 11, 12, 13, 21, 22, 23] [3, 4, 5, 10, 11] → Q e A' → Q' e A') (hE : ∀ (A' : cS), ySm s0 A' [2, 3, 4, 5, 6, 7, 8, 9, 10, 11, 12, 13, 21, 22, 23] [3, 4, 5, 10, 11] → E A' → E' A') : wc_Parser_conditional rec s0  Q' E' := by
  unfold wc_Parser_conditional at hw ⊢
  refine ffm_Parser_kind hw (fun r1 A2 f1 h8 => ?_)
  refine ffm_Parser_leaf h8 (fun r9 A10 f2 h16 => ?_)
  refine hrec _ _ _ _ _ _ _ _ _ h16 (fun r17 A18 f3 h24 => ?_) (fun Ae fe qe => hE Ae (((ySm.rf.tr f1 rfl rfl).tr f2 rfl rfl).tr fe rfl rfl) qe)
  refine ffm_Tree_hang h24 (fun A26 f4 h32 => ?_)
  refine ffm_Parser_passDo h32 (fun A34 f5 h40 => ?_) (fun Ae fe qe => hE Ae (((((ySm.rf.tr f1 rfl rfl).tr f2 rfl rfl).tr f3 rfl rfl).tr f4 rfl rfl).tr fe rfl rfl) qe)
  refine ffm_Parser_enter h40 (fun A42 f6 h48 => ?_) (fun Ae fe qe => hE Ae ((((((ySm.rf.tr f1 rfl rfl).tr f2 rfl rfl).tr f3 rfl rfl).tr f4 rfl rfl).tr f5 rfl rfl).tr fe rfl rfl) qe)
  refine hrec _ _ _ _ _ _ _ _ _ h48 (fun r49 A50 f7 h56 => ?_) (fun Ae fe qe => hE Ae (((((((ySm.rf.tr f1 rfl rfl).tr f2 rfl rfl).tr f3 rfl rfl).tr f4 rfl rfl).tr f5 rfl rfl).tr f6 rfl rfl).tr fe rfl rfl) qe)
  refine ffm_Tree_hang h56 (fun A58 f8 h64 => ?_)
  obtain ⟨o65, h66⟩ := h64
  refine ⟨o65, ?_⟩
  refine ffm_Tree_kind h66 (fun r78 A79 f9 h85 => ?_)
  refine ⟨fun c86 => ?_, fun c86 => ?_⟩
  · have h87 := h85.1 c86
    exact hq _ _ ((((((((((ySm.rf.tr f1 rfl rfl).tr f2 rfl rfl).tr f3 rfl rfl).tr f4 rfl rfl).tr f5 rfl rfl).tr f6 rfl rfl).tr f7 rfl rfl).tr f8 rfl rfl).pv rfl).tr f9 rfl rfl) h87
  · have h88 := h85.2 c86
    refine ffm_Parser_due h88 (fun A90 f10 h96 => ?_) (fun Ae fe qe => hE Ae (((((((((((ySm.rf.tr f1 rfl rfl).tr f2 rfl rfl).tr f3 rfl rfl).tr f4 rfl rfl).tr f5 rfl rfl).tr f6 rfl rfl).tr f7 rfl rfl).tr f8 rfl rfl).pv rfl).tr f9 rfl rfl).tr fe rfl rfl) qe)
    refine ffm_Parser_enter h96 (fun A98 f11 h104 => ?_) (fun Ae fe qe => hE Ae ((((((((((((ySm.rf.tr f1 rfl rfl).tr f2 rfl rfl).tr f3 rfl rfl).tr f4 rfl rfl).tr f5 rfl rfl).tr f6 rfl rfl).tr f7 rfl rfl).tr f8 rfl rfl).pv rfl).tr f9 rfl rfl).tr f10 rfl rfl).tr fe rfl rfl) qe)
    refine hrec _ _ _ _ _ _ _ _ _ h104 (fun r105 A106 f12 h112 => ?_) (fun Ae fe qe => hE Ae (((((((((((((ySm.rf.tr f1 rfl rfl).tr f2 rfl rfl).tr f3 rfl rfl).tr f4 rfl rfl).tr f5 rfl rfl).tr f6 rfl rfl).tr f7 rfl rfl).tr f8 rfl rfl).pv rfl).tr f9 rfl rfl).tr f10 rfl rfl).tr f11 rfl rfl).tr fe rfl rfl) qe)
    refine ffm_Tree_hang h112 (fun A114 f13 h120 => ?_)
    obtain ⟨o121, h122⟩ := h120
    refine ⟨o121, ?_⟩
    exact hq _ _ (((((((((((((((ySm.rf.tr f1 rfl rfl).tr f2 rfl rfl).tr f3 rfl rfl).tr f4 rfl rfl).tr f5 rfl rfl).tr f6 rfl rfl).tr f7 rfl rfl).tr f8 rfl rfl).pv rfl).tr f9 rfl rfl).tr f10 rfl rfl).tr f11 rfl rfl).tr f12 rfl rfl).tr f13 rfl rfl).pv rfl) h122
theorem ffm_Parser_counting {rec : Nat → Int → Int → Int → cS → (Int → cS → Prop) → (cS → Prop) → Prop} (hrec : ∀ (i : Nat) (a b c : Int) (A : cS) (Q Q' : Int → cS → Prop) (E E' : cS → Prop), rec i a b c A Q E → (∀ (e : Int) (A' : cS), ySm A A' [2, 3, 4, 5, 6, 7, 8, 9, 10, 11, 12, 13, 21, 22, 23] [3, 4, 5, 10, 11] → Q e A' → Q' e A') → (∀ (A' : cS), ySm A A' [2, 3, 4, 5, 6, 7, 8, 9, 10, 11, 12, 13, 21, 22, 23] [3, 4, 5, 10, 11] → E A' → E' A') → rec i a b c A Q' E') {s0 : cS}  {Q Q' : Int → cS → Prop} {E E' : cS → Prop} (hw : wc_Parser_counting rec s0  Q E) (hq : ∀ (e : Int) (A' : cS), ySm s0 A' [2, 3, 4, 5, 6, 7, 8, 9, 10, 11, 12, 13, 21, 22, 23] [3, 4, 5, 10, 11] → Q e A' → Q' e A') (hE : ∀ (A' : cS), ySm s0 A' [2, 3, 4, 5, 6, 7, 8, 9, 10, 11, 12, 13, 21, 22, 23] [3, 4, 5, 10, 11] → E A' → E' A') : wc_Parser_counting rec s0  Q' E' := by
  unfold wc_Parser_counting at hw ⊢
  refine ffm_Parser_leaf hw (fun r1 A2 f1 h8 => ?_)
  refine ffm_Parser_nameDue h8 (fun r9 A10 f2 h16 => ?_) (fun Ae fe qe => hE Ae ((ySm.rf.tr f1 rfl rfl).tr fe rfl rfl) qe)
  refine ffm_Tree_setData h16 (fun A18 f3 h24 => ?_)
  refine ffm_Parser_due h24 (fun A26 f4 h32 => ?_) (fun Ae fe qe => hE Ae ((((ySm.rf.tr f1 rfl rfl).tr f2 rfl rfl).tr f3 rfl rfl).tr fe rfl rfl) qe)
  refine hrec _ _ _ _ _ _ _ _ _ h32 (fun r33 A34 f5 h40 => ?_) (fun Ae fe qe => hE Ae (((((ySm.rf.tr f1 rfl rfl).tr f2 rfl rfl).tr f3 rfl rfl).tr f4 rfl rfl).tr fe rfl rfl) qe)
  refine ffm_Tree_hang h40 (fun A42 f6 h48 => ?_)
  refine ffm_Parser_due h48 (fun A50 f7 h56 => ?_) (fun Ae fe qe => hE Ae (((((((ySm.rf.tr f1 rfl rfl).tr f2 rfl rfl).tr f3 rfl rfl).tr f4 rfl rfl).tr f5 rfl rfl).tr f6 rfl rfl).tr fe rfl rfl) qe)
  refine hrec _ _ _ _ _ _ _ _ _ h56 (fun r57 A58 f8 h64 => ?_) (fun Ae fe qe => hE Ae ((((((((ySm.rf.tr f1 rfl rfl).tr f2 rfl rfl).tr f3 rfl rfl).tr f4 rfl rfl).tr f5 rfl rfl).tr f6 rfl rfl).tr f7 rfl rfl).tr fe rfl rfl) qe)
  refine ffm_Tree_hang h64 (fun A66 f9 h72 => ?_)
  refine ffm_Parser_kind h72 (fun r73 A74 f10 h80 => ?_)
  refine ⟨fun c81 => ?_, fun c81 => ?_⟩
  · have h82 := h80.1 c81
    refine ffm_Parser_passDo h82 (fun A84 f11 h90 => ?_) (fun Ae fe qe => hE Ae (((((((((((ySm.rf.tr f1 rfl rfl).tr f2 rfl rfl).tr f3 rfl rfl).tr f4 rfl rfl).tr f5 rfl rfl).tr f6 rfl rfl).tr f7 rfl rfl).tr f8 rfl rfl).tr f9 rfl rfl).tr f10 rfl rfl).tr fe rfl rfl) qe)
    refine ffm_Parser_enter h90 (fun A92 f12 h98 => ?_) (fun Ae fe qe => hE Ae ((((((((((((ySm.rf.tr f1 rfl rfl).tr f2 rfl rfl).tr f3 rfl rfl).tr f4 rfl rfl).tr f5 rfl rfl).tr f6 rfl rfl).tr f7 rfl rfl).tr f8 rfl rfl).tr f9 rfl rfl).tr f10 rfl rfl).tr f11 rfl rfl).tr fe rfl rfl) qe)
    refine hrec _ _ _ _ _ _ _ _ _ h98 (fun r99 A100 f13 h106 => ?_) (fun Ae fe qe => hE Ae (((((((((((((ySm.rf.tr f1 rfl rfl).tr f2 rfl rfl).tr f3 rfl rfl).tr f4 rfl rfl).tr f5 rfl rfl).tr f6 rfl rfl).tr f7 rfl rfl).tr f8 rfl rfl).tr f9 rfl rfl).tr f10 rfl rfl).tr f11 rfl rfl).tr f12 rfl rfl).tr fe rfl rfl) qe)
    refine ffm_Tree_hang h106 (fun A108 f14 h114 => ?_)
    obtain ⟨o115, h116⟩ := h114
    refine ⟨o115, ?_⟩
    exact hq _ _ (((((((((((((((ySm.rf.tr f1 rfl rfl).tr f2 rfl rfl).tr f3 rfl rfl).tr f4 rfl rfl).tr f5 rfl rfl).tr f6 rfl rfl).tr f7 rfl rfl).tr f8 rfl rfl).tr f9 rfl rfl).tr f10 rfl rfl).tr f11 rfl rfl).tr f12 rfl rfl).tr f13 rfl rfl).tr f14 rfl rfl).pv rfl) h116
  · have h128 := h80.2 c81
    refine ffm_Parser_advance h128 (fun A130 f15 h136 => ?_)
    refine hrec _ _ _ _ _ _ _ _ _ h136 (fun r137 A138 f16 h144 => ?_) (fun Ae fe qe => hE Ae ((((((((((((ySm.rf.tr f1 rfl rfl).tr f2 rfl rfl).tr f3 rfl rfl).tr f4 rfl rfl).tr f5 rfl rfl).tr f6 rfl rfl).tr f7 rfl rfl).tr f8 rfl rfl).tr f9 rfl rfl).tr f10 rfl rfl).tr f15 rfl rfl).tr fe rfl rfl) qe)
    refine ffm_Tree_setExtra h144 (fun A146 f17 h152 => ?_)
    refine ffm_Parser_passDo h152 (fun A154 f18 h160 => ?_) (fun Ae fe qe => hE Ae ((((((((((((((ySm.rf.tr f1 rfl rfl).tr f2 rfl rfl).tr f3 rfl rfl).tr f4 rfl rfl).tr f5 rfl rfl).tr f6 rfl rfl).tr f7 rfl rfl).tr f8 rfl rfl).tr f9 rfl rfl).tr f10 rfl rfl).tr f15 rfl rfl).tr f16 rfl rfl).tr f17 rfl rfl).tr fe rfl rfl) qe)
    refine ffm_Parser_enter h160 (fun A162 f19 h168 => ?_) (fun Ae fe qe => hE Ae (((((((((((((((ySm.rf.tr f1 rfl rfl).tr f2 rfl rfl).tr f3 rfl rfl).tr f4 rfl rfl).tr f5 rfl rfl).tr f6 rfl rfl).tr f7 rfl rfl).tr f8 rfl rfl).tr f9 rfl rfl).tr f10 rfl rfl).tr f15 rfl rfl).tr f16 rfl rfl).tr f17 rfl rfl).tr f18 rfl rfl).tr fe rfl rfl) qe)
    refine hrec _ _ _ _ _ _ _ _ _ h168 (fun r169 A170 f20 h176 => ?_) (fun Ae fe qe => hE Ae ((((((((((((((((ySm.rf.tr f1 rfl rfl).tr f2 rfl rfl).tr f3 rfl rfl).tr f4 rfl rfl).tr f5 rfl rfl).tr f6 rfl rfl).tr f7 rfl rfl).tr f8 rfl rfl).tr f9 rfl rfl).tr f10 rfl rfl).tr f15 rfl rfl).tr f16 rfl rfl).tr f17 rfl rfl).tr f18 rfl rfl).tr f19 rfl rfl).tr fe rfl rfl) qe)
    refine ffm_Tree_hang h176 (fun A178 f21 h184 => ?_)
    obtain ⟨o185, h186⟩ := h184
    refine ⟨o185, ?_⟩
    exact hq _ _ ((((((((((((((((((ySm.rf.tr f1 rfl rfl).tr f2 rfl rfl).tr f3 rfl rfl).tr f4 rfl rfl).tr f5 rfl rfl).tr f6 rfl rfl).tr f7 rfl rfl).tr f8 rfl rfl).tr f9 rfl rfl).tr f10 rfl rfl).tr f15 rfl rfl).tr f16 rfl rfl).tr f17 rfl rfl).tr f18 rfl rfl).tr f19 rfl rfl).tr f20 rfl rfl).tr f21 rfl rfl).pv rfl) h186
theorem ffm_Parser_switching {rec : Nat → Int → Int → Int → cS → (Int → cS → Prop) → (cS → Prop) → Prop} (hrec : ∀ (i : Nat) (a b c : Int) (A : cS) (Q Q' : Int → cS → Prop) (E E' : cS → Prop), rec i a b c A Q E → (∀ (e : Int) (A' : cS), ySm A A' [2, 3, 4, 5, 6, 7, 8, 9, 10, 11, 12, 13, 21, 22, 23] [3, 4, 5, 10, 11] → Q e A' → Q' e A') → (∀ (A' : cS), ySm A A' [2, 3, 4, 5, 6, 7, 8, 9, 10, 11, 12, 13, 21, 22, 23] [3, 4, 5, 10, 11] → E A' → E' A') → rec i a b c A Q' E') {s0 : cS}  {Q Q' : Int → cS → Prop} {E E' : cS → Prop} (hw : wc_Parser_switching rec s0  Q E) (hq : ∀ (e : Int) (A' : cS), ySm s0 A' [2, 3, 4, 5, 6, 7, 8, 9, 10, 11, 12, 13, 21, 22, 23] [3, 4, 5, 10, 11] → Q e A' → Q' e A') (hE : ∀ (A' : cS), ySm s0 A' [2, 3, 4, 5, 6, 7, 8, 9, 10, 11, 12, 13, 21, 22, 23] [3, 4, 5, 10, 11] → E A' → E' A') : wc_Parser_switching rec s0  Q' E' := by
  unfold wc_Parser_switching at hw ⊢
  refine ffm_Parser_leaf hw (fun r1 A2 f1 h8 => ?_)
  refine hrec _ _ _ _ _ _ _ _ _ h8 (fun r9 A10 f2 h16 => ?_) (fun Ae fe qe => hE Ae ((ySm.rf.tr f1 rfl rfl).tr fe rfl rfl) qe)
  refine ffm_Tree_hang h16 (fun A18 f3 h24 => ?_)
  refine ffm_Parser_due h24 (fun A26 f4 h32 => ?_) (fun Ae fe qe => hE Ae ((((ySm.rf.tr f1 rfl rfl).tr f2 rfl rfl).tr f3 rfl rfl).tr fe rfl rfl) qe)
  refine hrec _ _ _ _ _ _ _ _ _ h32 (fun r33 A34 f5 h40 => ?_) (fun Ae fe qe => hE Ae (((((ySm.rf.tr f1 rfl rfl).tr f2 rfl rfl).tr f3 rfl rfl).tr f4 rfl rfl).tr fe rfl rfl) qe)
  refine ffm_Tree_hang h40 (fun A42 f6 h48 => ?_)
  exact hq _ _ ((((((ySm.rf.tr f1 rfl rfl).tr f2 rfl rfl).tr f3 rfl rfl).tr f4 rfl rfl).tr f5 rfl rfl).tr f6 rfl rfl) h48
theorem ffb_Parser_assignment_124 {rec : Nat → Int → Int → Int → cS → (Int → cS → Prop) → (cS → Prop) → Prop} (hrec : ∀ (i : Nat) (a b c : Int) (A : cS) (Q Q' : Int → cS → Prop) (E E' : cS → Prop), rec i a b c A Q E → (∀ (e : Int) (A' : cS), ySm A A' [2, 3, 4, 5, 6, 7, 8, 9, 10, 11, 12, 13, 21, 22, 23] [3, 4, 5, 10, 11] → Q e A' → Q' e A') → (∀ (A' : cS), ySm A A' [2, 3, 4, 5, 6, 7, 8, 9, 10, 11, 12, 13, 21, 22, 23] [3, 4, 5, 10, 11] → E A' → E' A') → rec i a b c A Q' E') {Q Q' : Int → cS → Prop} {E E' : cS → Prop} {k124 k124' : cS → Int → Int → Int → Prop} {s0 : cS} {x1 : Int} {x2 : Int} {x3 : Int} (hq : ∀ (e : Int) (A' : cS), ySm s0 A' [2, 3, 4, 5, 6, 7, 8, 9, 10, 11, 12, 13, 21, 22, 23] [3, 4, 5, 10, 11] → Q e A' → Q' e A') (hE : ∀ (A' : cS), ySm s0 A' [2, 3, 4, 5, 6, 7, 8, 9, 10, 11, 12, 13, 21, 22, 23] [3, 4, 5, 10, 11] → E A' → E' A') (fk124 : ∀ (A' : cS) (x0 : Int) (x1 : Int) (x2 : Int), ySm s0 A' [2, 3, 4, 5, 6, 7, 8, 9, 10, 11, 12, 13, 21, 22, 23] [3, 4, 5, 10, 11] → k124 A' x0 x1 x2 → k124' A' x0 x1 x2) (hw : wc_Parser_assignment_124B rec Q E k124 s0 x1 x2 x3) : wc_Parser_assignment_124B rec Q' E' k124' s0 x1 x2 x3 := by
  unfold wc_Parser_assignment_124B at hw ⊢
  refine ⟨fun c1 => ?_, fun c1 => ?_⟩
  · have h2 := hw.1 c1
    refine ffm_Tree_setData h2 (fun A4 f1 h10 => ?_)
    exact hq _ _ (ySm.rf.tr f1 rfl rfl) h10
  · have h11 := hw.2 c1
    refine ⟨fun c12 => ?_, fun c12 => ?_⟩
    · have h13 := h11.1 c12
      refine hrec _ _ _ _ _ _ _ _ _ h13 (fun r14 A15 f2 h21 => ?_) (fun Ae fe qe => hE Ae (ySm.rf.tr fe rfl rfl) qe)
      refine ffm_Tree_hang h21 (fun A23 f3 h29 => ?_)
      obtain ⟨o30, h31⟩ := h29
      refine ⟨o30, ?_⟩
      exact fk124 _ _ _ _ ((ySm.rf.tr f2 rfl rfl).tr f3 rfl rfl) h31
    · have h32 := h11.2 c12
      refine ffm_Parser_due h32 (fun A34 f4 h40 => ?_) (fun Ae fe qe => hE Ae (ySm.rf.tr fe rfl rfl) qe)
      refine hrec _ _ _ _ _ _ _ _ _ h40 (fun r41 A42 f5 h48 => ?_) (fun Ae fe qe => hE Ae ((ySm.rf.tr f4 rfl rfl).tr fe rfl rfl) qe)
      refine ffm_Tree_hang h48 (fun A50 f6 h56 => ?_)
      obtain ⟨o57, h58⟩ := h56
      refine ⟨o57, ?_⟩
      exact fk124 _ _ _ _ (((ySm.rf.tr f4 rfl rfl).tr f5 rfl rfl).tr f6 rfl rfl) h58
theorem ffl_Parser_assignment_1240 {rec : Nat → Int → Int → Int → cS → (Int → cS → Prop) → (cS → Prop) → Prop} (hrec : ∀ (i : Nat) (a b c : Int) (A : cS) (Q Q' : Int → cS → Prop) (E E' : cS → Prop), rec i a b c A Q E → (∀ (e : Int) (A' : cS), ySm A A' [2, 3, 4, 5, 6, 7, 8, 9, 10, 11, 12, 13, 21, 22, 23] [3, 4, 5, 10, 11] → Q e A' → Q' e A') → (∀ (A' : cS), ySm A A' [2, 3, 4, 5, 6, 7, 8, 9, 10, 11, 12, 13, 21, 22, 23] [3, 4, 5, 10, 11] → E A' → E' A') → rec i a b c A Q' E') {Q Q' : Int → cS → Prop} {E E' : cS → Prop}  : ∀ (m : Nat) (s0 : cS) (x1 : Int) (x2 : Int) (x3 : Int), (∀ (e : Int) (A' : cS), ySm s0 A' [2, 3, 4, 5, 6, 7, 8, 9, 10, 11, 12, 13, 21, 22, 23] [3, 4, 5, 10, 11] → Q e A' → Q' e A') → (∀ (A' : cS), ySm s0 A' [2, 3, 4, 5, 6, 7, 8, 9, 10, 11, 12, 13, 21, 22, 23] [3, 4, 5, 10, 11] → E A' → E' A') → wc_Parser_assignment_124 rec Q E  m s0 x1 x2 x3 → wc_Parser_assignment_124 rec Q' E'  m s0 x1 x2 x3 := by
  intro m
  induction m with
  | zero => intro s0 x1 x2 x3 hq hE  hw; exact hw
  | succ m ih => intro s0 x1 x2 x3 hq hE  hw; exact ffb_Parser_assignment_124 hrec hq hE  (fun A' y0 y1 y2 f1 q => ih A' y0 y1 y2 (fun e A' f q => hq e A' (f1.tr f rfl rfl) q) (fun A' f q => hE A' (f1.tr f rfl rfl) q)  q) hw
theorem ffb_Parser_assignment_76 {rec : Nat → Int → Int → Int → cS → (Int → cS → Prop) → (cS → Prop) → Prop} (hrec : ∀ (i : Nat) (a b c : Int) (A : cS) (Q Q' : Int → cS → Prop) (E E' : cS → Prop), rec i a b c A Q E → (∀ (e : Int) (A' : cS), ySm A A' [2, 3, 4, 5, 6, 7, 8, 9, 10, 11, 12, 13, 21, 22, 23] [3, 4, 5, 10, 11] → Q e A' → Q' e A') → (∀ (A' : cS), ySm A A' [2, 3, 4, 5, 6, 7, 8, 9, 10, 11, 12, 13, 21, 22, 23] [3, 4, 5, 10, 11] → E A' → E' A') → rec i a b c A Q' E') {Q Q' : Int → cS → Prop} {E E' : cS → Prop} {k76 k76' : cS → Int → Int → Int → Prop} {s0 : cS} {x1 : Int} {x2 : Int} {x3 : Int} (hq : ∀ (e : Int) (A' : cS), ySm s0 A' [2, 3, 4, 5, 6, 7, 8, 9, 10, 11, 12, 13, 21, 22, 23] [3, 4, 5, 10, 11] → Q e A' → Q' e A') (hE : ∀ (A' : cS), ySm s0 A' [2, 3, 4, 5, 6, 7, 8, 9, 10, 11, 12, 13, 21, 22, 23] [3, 4, 5, 10, 11] → E A' → E' A') (fk76 : ∀ (A' : cS) (x0 : Int) (x1 : Int) (x2 : Int), ySm s0 A' [2, 3, 4, 5, 6, 7, 8, 9, 10, 11, 12, 13, 21, 22, 23] [3, 4, 5, 10, 11] → k76 A' x0 x1 x2 → k76' A' x0 x1 x2) (hw : wc_Parser_assignment_76B rec Q E k76 s0 x1 x2 x3) : wc_Parser_assignment_76B rec Q' E' k76' s0 x1 x2 x3 := by
  unfold wc_Parser_assignment_76B at hw ⊢
  refine ⟨fun c1 => ?_, fun c1 => ?_⟩
  · have h2 := hw.1 c1
    refine ffm_Parser_due h2 (fun A4 f1 h10 => ?_) (fun Ae fe qe => hE Ae (ySm.rf.tr fe rfl rfl) qe)
    obtain ⟨m11, h12⟩ := h10
    exact ⟨m11, ffl_Parser_assignment_1240 hrec m11 _ _ _ _ (fun e A' f q => hq e A' ((ySm.rf.tr f1 rfl rfl).tr f rfl rfl) q) (fun A' f q => hE A' ((ySm.rf.tr f1 rfl rfl).tr f rfl rfl) q)  h12⟩
  · have h13 := hw.2 c1
    refine ffm_Parser_kind h13 (fun r14 A15 f2 h21 => ?_)
    refine ⟨fun c22 => ?_, fun c22 => ?_⟩
    · have h23 := h21.1 c22
      refine ffm_Parser_due h23 (fun A25 f3 h31 => ?_) (fun Ae fe qe => hE Ae ((ySm.rf.tr f2 rfl rfl).tr fe rfl rfl) qe)
      obtain ⟨m32, h33⟩ := h31
      exact ⟨m32, ffl_Parser_assignment_1240 hrec m32 _ _ _ _ (fun e A' f q => hq e A' (((ySm.rf.tr f2 rfl rfl).tr f3 rfl rfl).tr f rfl rfl) q) (fun A' f q => hE A' (((ySm.rf.tr f2 rfl rfl).tr f3 rfl rfl).tr f rfl rfl) q)  h33⟩
    · have h34 := h21.2 c22
      refine ffm_Parser_advance h34 (fun A36 f4 h42 => ?_)
      refine hrec _ _ _ _ _ _ _ _ _ h42 (fun r43 A44 f5 h50 => ?_) (fun Ae fe qe => hE Ae (((ySm.rf.tr f2 rfl rfl).tr f4 rfl rfl).tr fe rfl rfl) qe)
      refine ffm_Tree_hang h50 (fun A52 f6 h58 => ?_)
      obtain ⟨o59, h60⟩ := h58
      refine ⟨o59, ?_⟩
      obtain ⟨o61, h62⟩ := h60
      refine ⟨o61, ?_⟩
      exact fk76 _ _ _ _ ((((ySm.rf.tr f2 rfl rfl).tr f4 rfl rfl).tr f5 rfl rfl).tr f6 rfl rfl) h62
theorem ffl_Parser_assignment_760 {rec : Nat → Int → Int → Int → cS → (Int → cS → Prop) → (cS → Prop) → Prop} (hrec : ∀ (i : Nat) (a b c : Int) (A : cS) (Q Q' : Int → cS → Prop) (E E' : cS → Prop), rec i a b c A Q E → (∀ (e : Int) (A' : cS), ySm A A' [2, 3, 4, 5, 6, 7, 8, 9, 10, 11, 12, 13, 21, 22, 23] [3, 4, 5, 10, 11] → Q e A' → Q' e A') → (∀ (A' : cS), ySm A A' [2, 3, 4, 5, 6, 7, 8, 9, 10, 11, 12, 13, 21, 22, 23] [3, 4, 5, 10, 11] → E A' → E' A') → rec i a b c A Q' E') {Q Q' : Int → cS → Prop} {E E' : cS → Prop}  : ∀ (m : Nat) (s0 : cS) (x1 : Int) (x2 : Int) (x3 : Int), (∀ (e : Int) (A' : cS), ySm s0 A' [2, 3, 4, 5, 6, 7, 8, 9, 10, 11, 12, 13, 21, 22, 23] [3, 4, 5, 10, 11] → Q e A' → Q' e A') → (∀ (A' : cS), ySm s0 A' [2, 3, 4, 5, 6, 7, 8, 9, 10, 11, 12, 13, 21, 22, 23] [3, 4, 5, 10, 11] → E A' → E' A') → wc_Parser_assignment_76 rec Q E  m s0 x1 x2 x3 → wc_Parser_assignment_76 rec Q' E'  m s0 x1 x2 x3 := by
  intro m
  induction m with
  | zero => intro s0 x1 x2 x3 hq hE  hw; exact hw
  | succ m ih => intro s0 x1 x2 x3 hq hE  hw; exact ffb_Parser_assignment_76 hrec hq hE  (fun A' y0 y1 y2 f1 q => ih A' y0 y1 y2 (fun e A' f q => hq e A' (f1.tr f rfl rfl) q) (fun A' f q => hE A' (f1.tr f rfl rfl) q)  q) hw
theorem ffm_Parser_assignment {rec : Nat → Int → Int → Int → cS → (Int → cS → Prop) → (cS → Prop) → Prop} (hrec : ∀ (i : Nat) (a b c : Int) (A : cS) (Q Q' : Int → cS → Prop) (E E' : cS → Prop), rec i a b c A Q E → (∀ (e : Int) (A' : cS), ySm A A' [2, 3, 4, 5, 6, 7, 8, 9, 10, 11, 12, 13, 21, 22, 23] [3, 4, 5, 10, 11] → Q e A' → Q' e A') → (∀ (A' : cS), ySm A A' [2, 3, 4, 5, 6, 7, 8, 9, 10, 11, 12, 13, 21, 22, 23] [3, 4, 5, 10, 11] → E A' → E' A') → rec i a b c A Q' E') {s0 : cS}  {Q Q' : Int → cS → Prop} {E E' : cS → Prop} (hw : wc_Parser_assignment rec s0  Q E) (hq : ∀ (e : Int) (A' : cS), ySm s0 A' [2, 3, 4, 5, 6, 7, 8, 9, 10, 11, 12, 13, 21, 22, 23] [3, 4, 5, 10, 11] → Q e A' → Q' e A') (hE : ∀ (A' : cS), ySm s0 A' [2, 3, 4, 5, 6, 7, 8, 9, 10, 11, 12, 13, 21, 22, 23] [3, 4, 5, 10, 11] → E A' → E' A') : wc_Parser_assignment rec s0  Q' E' := by
  unfold wc_Parser_assignment at hw ⊢
  refine ffm_Parser_place hw (fun r1 A2 f1 h8 => ?_)
  refine ffm_Tree_node h8 (fun r9 A10 f2 h16 => ?_)
  refine hrec _ _ _ _ _ _ _ _ _ h16 (fun r17 A18 f3 h24 => ?_) (fun Ae fe qe => hE Ae (((ySm.rf.tr f1 rfl rfl).tr f2 rfl rfl).tr fe rfl rfl) qe)
  refine ffm_Tree_hang h24 (fun A26 f4 h32 => ?_)
  refine ffm_Parser_kind h32 (fun r33 A34 f5 h40 => ?_)
  refine ⟨fun c41 => ?_, fun c41 => ?_⟩
  · have h42 := h40.1 c41
    obtain ⟨m43, h44⟩ := h42
    exact ⟨m43, ffl_Parser_assignment_760 hrec m43 _ _ _ _ (fun e A' f q => hq e A' ((((((ySm.rf.tr f1 rfl rfl).tr f2 rfl rfl).tr f3 rfl rfl).tr f4 rfl rfl).tr f5 rfl rfl).tr f rfl rfl) q) (fun A' f q => hE A' ((((((ySm.rf.tr f1 rfl rfl).tr f2 rfl rfl).tr f3 rfl rfl).tr f4 rfl rfl).tr f5 rfl rfl).tr f rfl rfl) q)  h44⟩
  · have h45 := h40.2 c41
    refine ffm_Parser_kind h45 (fun r46 A47 f6 h53 => ?_)
    refine ⟨fun c54 => ?_, fun c54 => ?_⟩
    · have h55 := h53.1 c54
      obtain ⟨m56, h57⟩ := h55
      exact ⟨m56, ffl_Parser_assignment_760 hrec m56 _ _ _ _ (fun e A' f q => hq e A' (((((((ySm.rf.tr f1 rfl rfl).tr f2 rfl rfl).tr f3 rfl rfl).tr f4 rfl rfl).tr f5 rfl rfl).tr f6 rfl rfl).tr f rfl rfl) q) (fun A' f q => hE A' (((((((ySm.rf.tr f1 rfl rfl).tr f2 rfl rfl).tr f3 rfl rfl).tr f4 rfl rfl).tr f5 rfl rfl).tr f6 rfl rfl).tr f rfl rfl) q)  h57⟩
    · have h58 := h53.2 c54
      refine ffm_Tree_first h58 (fun r59 A60 f7 h66 => ?_)
      refine ffm_Parser_isCall h66 (fun r67 A68 f8 h74 => ?_)
      refine ⟨fun c75 => ?_, fun c75 => ?_⟩
      · have h76 := h74.1 c75
        obtain ⟨m77, h78⟩ := h76
        exact ⟨m77, ffl_Parser_assignment_760 hrec m77 _ _ _ _ (fun e A' f q => hq e A' (((((((((ySm.rf.tr f1 rfl rfl).tr f2 rfl rfl).tr f3 rfl rfl).tr f4 rfl rfl).tr f5 rfl rfl).tr f6 rfl rfl).tr f7 rfl rfl).tr f8 rfl rfl).tr f rfl rfl) q) (fun A' f q => hE A' (((((((((ySm.rf.tr f1 rfl rfl).tr f2 rfl rfl).tr f3 rfl rfl).tr f4 rfl rfl).tr f5 rfl rfl).tr f6 rfl rfl).tr f7 rfl rfl).tr f8 rfl rfl).tr f rfl rfl) q)  h78⟩
      · have h79 := h74.2 c75
        refine ffm_Tree_setKind h79 (fun A81 f9 h87 => ?_)
        exact hq _ _ (((((((((ySm.rf.tr f1 rfl rfl).tr f2 rfl rfl).tr f3 rfl rfl).tr f4 rfl rfl).tr f5 rfl rfl).tr f6 rfl rfl).tr f7 rfl rfl).tr f8 rfl rfl).tr f9 rfl rfl) h87
theorem ffj_Parser_expression_89 {rec : Nat → Int → Int → Int → cS → (Int → cS → Prop) → (cS → Prop) → Prop} (hrec : ∀ (i : Nat) (a b c : Int) (A : cS) (Q Q' : Int → cS → Prop) (E E' : cS → Prop), rec i a b c A Q E → (∀ (e : Int) (A' : cS), ySm A A' [2, 3, 4, 5, 6, 7, 8, 9, 10, 11, 12, 13, 21, 22, 23] [3, 4, 5, 10, 11] → Q e A' → Q' e A') → (∀ (A' : cS), ySm A A' [2, 3, 4, 5, 6, 7, 8, 9, 10, 11, 12, 13, 21, 22, 23] [3, 4, 5, 10, 11] → E A' → E' A') → rec i a b c A Q' E') {Q Q' : Int → cS → Prop} {E E' : cS → Prop}  {s0 : cS} {x1 : Int} (hq : ∀ (e : Int) (A' : cS), ySm s0 A' [2, 3, 4, 5, 6, 7, 8, 9, 10, 11, 12, 13, 21, 22, 23] [3, 4, 5, 10, 11] → Q e A' → Q' e A') (hE : ∀ (A' : cS), ySm s0 A' [2, 3, 4, 5, 6, 7, 8, 9, 10, 11, 12, 13, 21, 22, 23] [3, 4, 5, 10, 11] → E A' → E' A')  (hw : wc_Parser_expression_89 rec Q E  s0 x1) : wc_Parser_expression_89 rec Q' E'  s0 x1 := by
  unfold wc_Parser_expression_89 at hw ⊢
  refine ffm_Parser_kind hw (fun r1 A2 f1 h8 => ?_)
  refine ⟨fun c9 => ?_, fun c9 => ?_⟩
  · have h10 := h8.1 c9
    refine ffm_Parser_place h10 (fun r11 A12 f2 h18 => ?_)
    refine ffm_Tree_node h18 (fun r19 A20 f3 h26 => ?_)
    refine ffm_Parser_enter h26 (fun A28 f4 h34 => ?_) (fun Ae fe qe => hE Ae ((((ySm.rf.tr f1 rfl rfl).tr f2 rfl rfl).tr f3 rfl rfl).tr fe rfl rfl) qe)
    refine ffm_Parser_advance h34 (fun A36 f5 h42 => ?_)
    refine ffm_Tree_hang h42 (fun A44 f6 h50 => ?_)
    refine hrec _ _ _ _ _ _ _ _ _ h50 (fun r51 A52 f7 h58 => ?_) (fun Ae fe qe => hE Ae (((((((ySm.rf.tr f1 rfl rfl).tr f2 rfl rfl).tr f3 rfl rfl).tr f4 rfl rfl).tr f5 rfl rfl).tr f6 rfl rfl).tr fe rfl rfl) qe)
    refine ffm_Tree_hang h58 (fun A60 f8 h66 => ?_)
    refine ffm_Parser_due h66 (fun A68 f9 h74 => ?_) (fun Ae fe qe => hE Ae (((((((((ySm.rf.tr f1 rfl rfl).tr f2 rfl rfl).tr f3 rfl rfl).tr f4 rfl rfl).tr f5 rfl rfl).tr f6 rfl rfl).tr f7 rfl rfl).tr f8 rfl rfl).tr fe rfl rfl) qe)
    refine hrec _ _ _ _ _ _ _ _ _ h74 (fun r75 A76 f10 h82 => ?_) (fun Ae fe qe => hE Ae ((((((((((ySm.rf.tr f1 rfl rfl).tr f2 rfl rfl).tr f3 rfl rfl).tr f4 rfl rfl).tr f5 rfl rfl).tr f6 rfl rfl).tr f7 rfl rfl).tr f8 rfl rfl).tr f9 rfl rfl).tr fe rfl rfl) qe)
    refine ffm_Tree_hang h82 (fun A84 f11 h90 => ?_)
    obtain ⟨o91, h92⟩ := h90
    refine ⟨o91, ?_⟩
    refine ffm_Tree_place h92 (fun r104 A105 f12 h111 => ?_)
    refine ffm_Tree_node h111 (fun r112 A113 f13 h119 => ?_)
    refine ffm_Tree_hang h119 (fun A121 f14 h127 => ?_)
    exact hq _ _ (((((((((((((((ySm.rf.tr f1 rfl rfl).tr f2 rfl rfl).tr f3 rfl rfl).tr f4 rfl rfl).tr f5 rfl rfl).tr f6 rfl rfl).tr f7 rfl rfl).tr f8 rfl rfl).tr f9 rfl rfl).tr f10 rfl rfl).tr f11 rfl rfl).pv rfl).tr f12 rfl rfl).tr f13 rfl rfl).tr f14 rfl rfl) h127
  · have h128 := h8.2 c9
    exact hq _ _ (ySm.rf.tr f1 rfl rfl) h128
theorem ffb_Parser_expression_25 {rec : Nat → Int → Int → Int → cS → (Int → cS → Prop) → (cS → Prop) → Prop} (hrec : ∀ (i : Nat) (a b c : Int) (A : cS) (Q Q' : Int → cS → Prop) (E E' : cS → Prop), rec i a b c A Q E → (∀ (e : Int) (A' : cS), ySm A A' [2, 3, 4, 5, 6, 7, 8, 9, 10, 11, 12, 13, 21, 22, 23] [3, 4, 5, 10, 11] → Q e A' → Q' e A') → (∀ (A' : cS), ySm A A' [2, 3, 4, 5, 6, 7, 8, 9, 10, 11, 12, 13, 21, 22, 23] [3, 4, 5, 10, 11] → E A' → E' A') → rec i a b c A Q' E') {Q Q' : Int → cS → Prop} {E E' : cS → Prop} {k25 k25' : cS → Int → Int → Int → Prop} {s0 : cS} {x1 : Int} {x2 : Int} {x3 : Int} (hq : ∀ (e : Int) (A' : cS), ySm s0 A' [2, 3, 4, 5, 6, 7, 8, 9, 10, 11, 12, 13, 21, 22, 23] [3, 4, 5, 10, 11] → Q e A' → Q' e A') (hE : ∀ (A' : cS), ySm s0 A' [2, 3, 4, 5, 6, 7, 8, 9, 10, 11, 12, 13, 21, 22, 23] [3, 4, 5, 10, 11] → E A' → E' A') (fk25 : ∀ (A' : cS) (x0 : Int) (x1 : Int) (x2 : Int), ySm s0 A' [2, 3, 4, 5, 6, 7, 8, 9, 10, 11, 12, 13, 21, 22, 23] [3, 4, 5, 10, 11] → k25 A' x0 x1 x2 → k25' A' x0 x1 x2) (hw : wc_Parser_expression_25B rec Q E k25 s0 x1 x2 x3) : wc_Parser_expression_25B rec Q' E' k25' s0 x1 x2 x3 := by
  unfold wc_Parser_expression_25B at hw ⊢
  refine ⟨fun c1 => ?_, fun c1 => ?_⟩
  · have h2 := hw.1 c1
    exact ffj_Parser_expression_89 hrec (fun e A' f q => hq e A' (ySm.rf.tr f rfl rfl) q) (fun A' f q => hE A' (ySm.rf.tr f rfl rfl) q)  h2
  · have h3 := hw.2 c1
    refine hrec _ _ _ _ _ _ _ _ _ h3 (fun _ A5 f1 h11 => ?_) (fun Ae fe qe => hE Ae (ySm.rf.tr fe rfl rfl) qe)
    refine ffm_Parser_kind h11 (fun r12 A13 f2 h19 => ?_)
    refine ffm_Parser_settle h19 (fun A21 f3 h27 => ?_)
    refine ffm_W_power h27 (fun r28 A29 f4 h35 => ?_)
    refine ⟨fun c36 => ?_, fun c36 => ?_⟩
    · have h37 := h35.1 c36
      refine ffm_Parser_place h37 (fun r38 A39 f5 h45 => ?_)
      intro z46 e47 R48
      have h49 := h45 z46 e47 R48
      intro z50 e51 R52
      have h53 := h49 z50 e51 R52
      obtain ⟨o58, h59⟩ := h53
      refine ⟨o58, ?_⟩
      refine ffm_Parser_advance h59 (fun A61 f6 h67 => ?_)
      obtain ⟨o68, h69⟩ := h67
      refine ⟨o68, ?_⟩
      exact fk25 _ _ _ _ (((((((ySm.rf.tr f1 rfl rfl).tr f2 rfl rfl).tr f3 rfl rfl).tr f4 rfl rfl).tr f5 rfl rfl).add rfl).tr f6 rfl rfl) h69
    · have h70 := h35.2 c36
      exact ffj_Parser_expression_89 hrec (fun e A' f q => hq e A' (((((ySm.rf.tr f1 rfl rfl).tr f2 rfl rfl).tr f3 rfl rfl).tr f4 rfl rfl).tr f rfl rfl) q) (fun A' f q => hE A' (((((ySm.rf.tr f1 rfl rfl).tr f2 rfl rfl).tr f3 rfl rfl).tr f4 rfl rfl).tr f rfl rfl) q)  h70
theorem ffl_Parser_expression_250 {rec : Nat → Int → Int → Int → cS → (Int → cS → Prop) → (cS → Prop) → Prop} (hrec : ∀ (i : Nat) (a b c : Int) (A : cS) (Q Q' : Int → cS → Prop) (E E' : cS → Prop), rec i a b c A Q E → (∀ (e : Int) (A' : cS), ySm A A' [2, 3, 4, 5, 6, 7, 8, 9, 10, 11, 12, 13, 21, 22, 23] [3, 4, 5, 10, 11] → Q e A' → Q' e A') → (∀ (A' : cS), ySm A A' [2, 3, 4, 5, 6, 7, 8, 9, 10, 11, 12, 13, 21, 22, 23] [3, 4, 5, 10, 11] → E A' → E' A') → rec i a b c A Q' E') {Q Q' : Int → cS → Prop} {E E' : cS → Prop}  : ∀ (m : Nat) (s0 : cS) (x1 : Int) (x2 : Int) (x3 : Int), (∀ (e : Int) (A' : cS), ySm s0 A' [2, 3, 4, 5, 6, 7, 8, 9, 10, 11, 12, 13, 21, 22, 23] [3, 4, 5, 10, 11] → Q e A' → Q' e A') → (∀ (A' : cS), ySm s0 A' [2, 3, 4, 5, 6, 7, 8, 9, 10, 11, 12, 13, 21, 22, 23] [3, 4, 5, 10, 11] → E A' → E' A') → wc_Parser_expression_25 rec Q E  m s0 x1 x2 x3 → wc_Parser_expression_25 rec Q' E'  m s0 x1 x2 x3 := by
  intro m
  induction m with
  | zero => intro s0 x1 x2 x3 hq hE  hw; exact hw
  | succ m ih => intro s0 x1 x2 x3 hq hE  hw; exact ffb_Parser_expression_25 hrec hq hE  (fun A' y0 y1 y2 f1 q => ih A' y0 y1 y2 (fun e A' f q => hq e A' (f1.tr f rfl rfl) q) (fun A' f q => hE A' (f1.tr f rfl rfl) q)  q) hw
theorem ffm_Parser_expression {rec : Nat → Int → Int → Int → cS → (Int → cS → Prop) → (cS → Prop) → Prop} (hrec : ∀ (i : Nat) (a b c : Int) (A : cS) (Q Q' : Int → cS → Prop) (E E' : cS → Prop), rec i a b c A Q E → (∀ (e : Int) (A' : cS), ySm A A' [2, 3, 4, 5, 6, 7, 8, 9, 10, 11, 12, 13, 21, 22, 23] [3, 4, 5, 10, 11] → Q e A' → Q' e A') → (∀ (A' : cS), ySm A A' [2, 3, 4, 5, 6, 7, 8, 9, 10, 11, 12, 13, 21, 22, 23] [3, 4, 5, 10, 11] → E A' → E' A') → rec i a b c A Q' E') {s0 : cS}  {Q Q' : Int → cS → Prop} {E E' : cS → Prop} (hw : wc_Parser_expression rec s0  Q E) (hq : ∀ (e : Int) (A' : cS), ySm s0 A' [2, 3, 4, 5, 6, 7, 8, 9, 10, 11, 12, 13, 21, 22, 23] [3, 4, 5, 10, 11] → Q e A' → Q' e A') (hE : ∀ (A' : cS), ySm s0 A' [2, 3, 4, 5, 6, 7, 8, 9, 10, 11, 12, 13, 21, 22, 23] [3, 4, 5, 10, 11] → E A' → E' A') : wc_Parser_expression rec s0  Q' E' := by
  unfold wc_Parser_expression at hw ⊢
  refine ffm_Parser_place hw (fun r1 A2 f1 h8 => ?_)
  refine ffm_Tree_node h8 (fun r9 A10 f2 h16 => ?_)
  obtain ⟨m17, h18⟩ := h16
  exact ⟨m17, ffl_Parser_expression_250 hrec m17 _ _ _ _ (fun e A' f q => hq e A' (((ySm.rf.tr f1 rfl rfl).tr f2 rfl rfl).tr f rfl rfl) q) (fun A' f q => hE A' (((ySm.rf.tr f1 rfl rfl).tr f2 rfl rfl).tr f rfl rfl) q)  h18⟩
theorem ffj_Parser_operand_156 {rec : Nat → Int → Int → Int → cS → (Int → cS → Prop) → (cS → Prop) → Prop} (hrec : ∀ (i : Nat) (a b c : Int) (A : cS) (Q Q' : Int → cS → Prop) (E E' : cS → Prop), rec i a b c A Q E → (∀ (e : Int) (A' : cS), ySm A A' [2, 3, 4, 5, 6, 7, 8, 9, 10, 11, 12, 13, 21, 22, 23] [3, 4, 5, 10, 11] → Q e A' → Q' e A') → (∀ (A' : cS), ySm A A' [2, 3, 4, 5, 6, 7, 8, 9, 10, 11, 12, 13, 21, 22, 23] [3, 4, 5, 10, 11] → E A' → E' A') → rec i a b c A Q' E') {Q Q' : cS → Prop} {E E' : cS → Prop} {k24 k24' : cS → Int → Int → Int → Int → Int → Prop} {s0 : cS} {x1 : Int} {x2 : Int} {x3 : Int} {x5 : Int} (hq : ∀ (A' : cS), ySm s0 A' [2, 3, 4, 5, 6, 7, 8, 9, 10, 11, 12, 13, 21, 22, 23] [3, 4, 5, 10, 11] → Q A' → Q' A') (hE : ∀ (A' : cS), ySm s0 A' [2, 3, 4, 5, 6, 7, 8, 9, 10, 11, 12, 13, 21, 22, 23] [3, 4, 5, 10, 11] → E A' → E' A') (fk24 : ∀ (A' : cS) (x0 : Int) (x1 : Int) (x2 : Int) (x3 : Int) (x4 : Int), ySm s0 A' [2, 3, 4, 5, 6, 7, 8, 9, 10, 11, 12, 13, 21, 22, 23] [3, 4, 5, 10, 11] → k24 A' x0 x1 x2 x3 x4 → k24' A' x0 x1 x2 x3 x4) (hw : wc_Parser_operand_156 rec Q E k24 s0 x1 x2 x3 x5) : wc_Parser_operand_156 rec Q' E' k24' s0 x1 x2 x3 x5 := by
  unfold wc_Parser_operand_156 at hw ⊢
  refine ffm_Parser_kind hw (fun r1 A2 f1 h8 => ?_)
  refine ⟨fun c9 => ?_, fun c9 => ?_⟩
  · have h10 := h8.1 c9
    refine ffm_Parser_enter h10 (fun A12 f2 h18 => ?_) (fun Ae fe qe => hE Ae ((ySm.rf.tr f1 rfl rfl).tr fe rfl rfl) qe)
    refine ffm_Parser_kind h18 (fun r19 A20 f3 h26 => ?_)
    refine ffm_Parser_leaf h26 (fun r27 A28 f4 h34 => ?_)
    obtain ⟨o35, h36⟩ := h34
    refine ⟨o35, ?_⟩
    exact fk24 _ _ _ _ _ _ ((((ySm.rf.tr f1 rfl rfl).tr f2 rfl rfl).tr f3 rfl rfl).tr f4 rfl rfl) h36
  · have h37 := h8.2 c9
    refine ffm_Parser_kind h37 (fun r38 A39 f5 h45 => ?_)
    refine ⟨fun c46 => ?_, fun c46 => ?_⟩
    · have h47 := h45.1 c46
      refine ffm_Parser_enter h47 (fun A49 f6 h55 => ?_) (fun Ae fe qe => hE Ae (((ySm.rf.tr f1 rfl rfl).tr f5 rfl rfl).tr fe rfl rfl) qe)
      refine ffm_Parser_kind h55 (fun r56 A57 f7 h63 => ?_)
      refine ffm_Parser_leaf h63 (fun r64 A65 f8 h71 => ?_)
      obtain ⟨o72, h73⟩ := h71
      refine ⟨o72, ?_⟩
      exact fk24 _ _ _ _ _ _ (((((ySm.rf.tr f1 rfl rfl).tr f5 rfl rfl).tr f6 rfl rfl).tr f7 rfl rfl).tr f8 rfl rfl) h73
    · have h74 := h45.2 c46
      refine ffm_Parser_hangSigns h74 (fun A76 f9 h82 => ?_)
      exact hq _ ((((ySm.rf.tr f1 rfl rfl).tr f5 rfl rfl).tr f9 rfl rfl).pv rfl) h82
theorem ffj_Parser_operand_106 {rec : Nat → Int → Int → Int → cS → (Int → cS → Prop) → (cS → Prop) → Prop} (hrec : ∀ (i : Nat) (a b c : Int) (A : cS) (Q Q' : Int → cS → Prop) (E E' : cS → Prop), rec i a b c A Q E → (∀ (e : Int) (A' : cS), ySm A A' [2, 3, 4, 5, 6, 7, 8, 9, 10, 11, 12, 13, 21, 22, 23] [3, 4, 5, 10, 11] → Q e A' → Q' e A') → (∀ (A' : cS), ySm A A' [2, 3, 4, 5, 6, 7, 8, 9, 10, 11, 12, 13, 21, 22, 23] [3, 4, 5, 10, 11] → E A' → E' A') → rec i a b c A Q' E') {Q Q' : cS → Prop} {E E' : cS → Prop} {k24 k24' : cS → Int → Int → Int → Int → Int → Prop} {s0 : cS} {x1 : Int} {x2 : Int} {x3 : Int} {x4 : Int} {x5 : Int} {x6 : Int} {x7 : Int} (hq : ∀ (A' : cS), ySm s0 A' [2, 3, 4, 5, 6, 7, 8, 9, 10, 11, 12, 13, 21, 22, 23] [3, 4, 5, 10, 11] → Q A' → Q' A') (hE : ∀ (A' : cS), ySm s0 A' [2, 3, 4, 5, 6, 7, 8, 9, 10, 11, 12, 13, 21, 22, 23] [3, 4, 5, 10, 11] → E A' → E' A') (fk24 : ∀ (A' : cS) (x0 : Int) (x1 : Int) (x2 : Int) (x3 : Int) (x4 : Int), ySm s0 A' [2, 3, 4, 5, 6, 7, 8, 9, 10, 11, 12, 13, 21, 22, 23] [3, 4, 5, 10, 11] → k24 A' x0 x1 x2 x3 x4 → k24' A' x0 x1 x2 x3 x4) (hw : wc_Parser_operand_106 rec Q E k24 s0 x1 x2 x3 x4 x5 x6 x7) : wc_Parser_operand_106 rec Q' E' k24' s0 x1 x2 x3 x4 x5 x6 x7 := by
  unfold wc_Parser_operand_106 at hw ⊢
  refine ffm_Parser_kind hw (fun r1 A2 f1 h8 => ?_)
  refine ⟨fun c9 => ?_, fun c9 => ?_⟩
  · have h10 := h8.1 c9
    refine ffm_Tree_hang h10 (fun A12 f2 h18 => ?_)
    refine ffm_Parser_hangSigns h18 (fun A20 f3 h26 => ?_)
    refine ⟨fun c27 => ?_, fun c27 => ?_⟩
    · have h28 := h26.1 c27
      exact ffj_Parser_operand_156 hrec (fun A' f q => hq A' ((((ySm.rf.tr f1 rfl rfl).tr f2 rfl rfl).tr f3 rfl rfl).tr f rfl rfl) q) (fun A' f q => hE A' ((((ySm.rf.tr f1 rfl rfl).tr f2 rfl rfl).tr f3 rfl rfl).tr f rfl rfl) q) (fun A' x0 x1 x2 x3 x4 f q => fk24 A' x0 x1 x2 x3 x4 ((((ySm.rf.tr f1 rfl rfl).tr f2 rfl rfl).tr f3 rfl rfl).tr f rfl rfl) q) h28
    · have h29 := h26.2 c27
      refine ffm_Tree_hang h29 (fun A31 f4 h37 => ?_)
      exact ffj_Parser_operand_156 hrec (fun A' f q => hq A' (((((ySm.rf.tr f1 rfl rfl).tr f2 rfl rfl).tr f3 rfl rfl).tr f4 rfl rfl).tr f rfl rfl) q) (fun A' f q => hE A' (((((ySm.rf.tr f1 rfl rfl).tr f2 rfl rfl).tr f3 rfl rfl).tr f4 rfl rfl).tr f rfl rfl) q) (fun A' x0 x1 x2 x3 x4 f q => fk24 A' x0 x1 x2 x3 x4 (((((ySm.rf.tr f1 rfl rfl).tr f2 rfl rfl).tr f3 rfl rfl).tr f4 rfl rfl).tr f rfl rfl) q) h37
  · have h38 := h8.2 c9
    refine hrec _ _ _ _ _ _ _ _ _ h38 (fun r39 A40 f5 h46 => ?_) (fun Ae fe qe => hE Ae ((ySm.rf.tr f1 rfl rfl).tr fe rfl rfl) qe)
    refine ffm_Tree_hang h46 (fun A48 f6 h54 => ?_)
    refine ffm_Parser_hangSigns h54 (fun A56 f7 h62 => ?_)
    refine ⟨fun c63 => ?_, fun c63 => ?_⟩
    · have h64 := h62.1 c63
      exact ffj_Parser_operand_156 hrec (fun A' f q => hq A' (((((ySm.rf.tr f1 rfl rfl).tr f5 rfl rfl).tr f6 rfl rfl).tr f7 rfl rfl).tr f rfl rfl) q) (fun A' f q => hE A' (((((ySm.rf.tr f1 rfl rfl).tr f5 rfl rfl).tr f6 rfl rfl).tr f7 rfl rfl).tr f rfl rfl) q) (fun A' x0 x1 x2 x3 x4 f q => fk24 A' x0 x1 x2 x3 x4 (((((ySm.rf.tr f1 rfl rfl).tr f5 rfl rfl).tr f6 rfl rfl).tr f7 rfl rfl).tr f rfl rfl) q) h64
    · have h65 := h62.2 c63
      refine ffm_Tree_hang h65 (fun A67 f8 h73 => ?_)
      exact ffj_Parser_operand_156 hrec (fun A' f q => hq A' ((((((ySm.rf.tr f1 rfl rfl).tr f5 rfl rfl).tr f6 rfl rfl).tr f7 rfl rfl).tr f8 rfl rfl).tr f rfl rfl) q) (fun A' f q => hE A' ((((((ySm.rf.tr f1 rfl rfl).tr f5 rfl rfl).tr f6 rfl rfl).tr f7 rfl rfl).tr f8 rfl rfl).tr f rfl rfl) q) (fun A' x0 x1 x2 x3 x4 f q => fk24 A' x0 x1 x2 x3 x4 ((((((ySm.rf.tr f1 rfl rfl).tr f5 rfl rfl).tr f6 rfl rfl).tr f7 rfl rfl).tr f8 rfl rfl).tr f rfl rfl) q) h73
theorem ffj_Parser_operand_50 {rec : Nat → Int → Int → Int → cS → (Int → cS → Prop) → (cS → Prop) → Prop} (hrec : ∀ (i : Nat) (a b c : Int) (A : cS) (Q Q' : Int → cS → Prop) (E E' : cS → Prop), rec i a b c A Q E → (∀ (e : Int) (A' : cS), ySm A A' [2, 3, 4, 5, 6, 7, 8, 9, 10, 11, 12, 13, 21, 22, 23] [3, 4, 5, 10, 11] → Q e A' → Q' e A') → (∀ (A' : cS), ySm A A' [2, 3, 4, 5, 6, 7, 8, 9, 10, 11, 12, 13, 21, 22, 23] [3, 4, 5, 10, 11] → E A' → E' A') → rec i a b c A Q' E') {Q Q' : cS → Prop} {E E' : cS → Prop} {k24 k24' : cS → Int → Int → Int → Int → Int → Prop} {s0 : cS} {x1 : Int} {x2 : Int} {x3 : Int} {x4 : Int} {x5 : Int} {x6 : Int} (hq : ∀ (A' : cS), ySm s0 A' [2, 3, 4, 5, 6, 7, 8, 9, 10, 11, 12, 13, 21, 22, 23] [3, 4, 5, 10, 11] → Q A' → Q' A') (hE : ∀ (A' : cS), ySm s0 A' [2, 3, 4, 5, 6, 7, 8, 9, 10, 11, 12, 13, 21, 22, 23] [3, 4, 5, 10, 11] → E A' → E' A') (fk24 : ∀ (A' : cS) (x0 : Int) (x1 : Int) (x2 : Int) (x3 : Int) (x4 : Int), ySm s0 A' [2, 3, 4, 5, 6, 7, 8, 9, 10, 11, 12, 13, 21, 22, 23] [3, 4, 5, 10, 11] → k24 A' x0 x1 x2 x3 x4 → k24' A' x0 x1 x2 x3 x4) (hw : wc_Parser_operand_50 rec Q E k24 s0 x1 x2 x3 x4 x5 x6) : wc_Parser_operand_50 rec Q' E' k24' s0 x1 x2 x3 x4 x5 x6 := by
  unfold wc_Parser_operand_50 at hw ⊢
  refine ffm_Parser_kind hw (fun r1 A2 f1 h8 => ?_)
  refine ⟨fun c9 => ?_, fun c9 => ?_⟩
  · have h10 := h8.1 c9
    refine hrec _ _ _ _ _ _ _ _ _ h10 (fun r11 A12 f2 h18 => ?_) (fun Ae fe qe => hE Ae ((ySm.rf.tr f1 rfl rfl).tr fe rfl rfl) qe)
    exact ffj_Parser_operand_106 hrec (fun A' f q => hq A' (((ySm.rf.tr f1 rfl rfl).tr f2 rfl rfl).tr f rfl rfl) q) (fun A' f q => hE A' (((ySm.rf.tr f1 rfl rfl).tr f2 rfl rfl).tr f rfl rfl) q) (fun A' x0 x1 x2 x3 x4 f q => fk24 A' x0 x1 x2 x3 x4 (((ySm.rf.tr f1 rfl rfl).tr f2 rfl rfl).tr f rfl rfl) q) h18
  · have h19 := h8.2 c9
    refine ffm_Parser_enter h19 (fun A21 f3 h27 => ?_) (fun Ae fe qe => hE Ae ((ySm.rf.tr f1 rfl rfl).tr fe rfl rfl) qe)
    refine ffm_Parser_leaf h27 (fun r28 A29 f4 h35 => ?_)
    refine hrec _ _ _ _ _ _ _ _ _ h35 (fun r36 A37 f5 h43 => ?_) (fun Ae fe qe => hE Ae ((((ySm.rf.tr f1 rfl rfl).tr f3 rfl rfl).tr f4 rfl rfl).tr fe rfl rfl) qe)
    refine ffm_Tree_hang h43 (fun A45 f6 h51 => ?_)
    obtain ⟨o52, h53⟩ := h51
    refine ⟨o52, ?_⟩
    exact ffj_Parser_operand_106 hrec (fun A' f q => hq A' (((((((ySm.rf.tr f1 rfl rfl).tr f3 rfl rfl).tr f4 rfl rfl).tr f5 rfl rfl).tr f6 rfl rfl).pv rfl).tr f rfl rfl) q) (fun A' f q => hE A' (((((((ySm.rf.tr f1 rfl rfl).tr f3 rfl rfl).tr f4 rfl rfl).tr f5 rfl rfl).tr f6 rfl rfl).pv rfl).tr f rfl rfl) q) (fun A' x0 x1 x2 x3 x4 f q => fk24 A' x0 x1 x2 x3 x4 (((((((ySm.rf.tr f1 rfl rfl).tr f3 rfl rfl).tr f4 rfl rfl).tr f5 rfl rfl).tr f6 rfl rfl).pv rfl).tr f rfl rfl) q) h53
theorem ffb_Parser_operand_24 {rec : Nat → Int → Int → Int → cS → (Int → cS → Prop) → (cS → Prop) → Prop} (hrec : ∀ (i : Nat) (a b c : Int) (A : cS) (Q Q' : Int → cS → Prop) (E E' : cS → Prop), rec i a b c A Q E → (∀ (e : Int) (A' : cS), ySm A A' [2, 3, 4, 5, 6, 7, 8, 9, 10, 11, 12, 13, 21, 22, 23] [3, 4, 5, 10, 11] → Q e A' → Q' e A') → (∀ (A' : cS), ySm A A' [2, 3, 4, 5, 6, 7, 8, 9, 10, 11, 12, 13, 21, 22, 23] [3, 4, 5, 10, 11] → E A' → E' A') → rec i a b c A Q' E') {Q Q' : cS → Prop} {E E' : cS → Prop} {k24 k24' : cS → Int → Int → Int → Int → Int → Prop} {s0 : cS} {x1 : Int} {x2 : Int} {x3 : Int} {x4 : Int} {x5 : Int} (hq : ∀ (A' : cS), ySm s0 A' [2, 3, 4, 5, 6, 7, 8, 9, 10, 11, 12, 13, 21, 22, 23] [3, 4, 5, 10, 11] → Q A' → Q' A') (hE : ∀ (A' : cS), ySm s0 A' [2, 3, 4, 5, 6, 7, 8, 9, 10, 11, 12, 13, 21, 22, 23] [3, 4, 5, 10, 11] → E A' → E' A') (fk24 : ∀ (A' : cS) (x0 : Int) (x1 : Int) (x2 : Int) (x3 : Int) (x4 : Int), ySm s0 A' [2, 3, 4, 5, 6, 7, 8, 9, 10, 11, 12, 13, 21, 22, 23] [3, 4, 5, 10, 11] → k24 A' x0 x1 x2 x3 x4 → k24' A' x0 x1 x2 x3 x4) (hw : wc_Parser_operand_24B rec Q E k24 s0 x1 x2 x3 x4 x5) : wc_Parser_operand_24B rec Q' E' k24' s0 x1 x2 x3 x4 x5 := by
  unfold wc_Parser_operand_24B at hw ⊢
  refine ⟨fun c1 => ?_, fun c1 => ?_⟩
  · have h2 := hw.1 c1
    refine ffm_Parser_hangSigns h2 (fun A4 f1 h10 => ?_)
    exact hq _ ((ySm.rf.tr f1 rfl rfl).pv rfl) h10
  · have h22 := hw.2 c1
    refine ⟨fun c23 => ?_, fun c23 => ?_⟩
    · have h24 := h22.1 c23
      exact ffj_Parser_operand_50 hrec (fun A' f q => hq A' (ySm.rf.tr f rfl rfl) q) (fun A' f q => hE A' (ySm.rf.tr f rfl rfl) q) (fun A' x0 x1 x2 x3 x4 f q => fk24 A' x0 x1 x2 x3 x4 (ySm.rf.tr f rfl rfl) q) h24
    · have h25 := h22.2 c23
      refine ffm_Parser_passSigns h25 (fun A27 f2 h33 => ?_) (fun Ae fe qe => hE Ae (ySm.rf.tr fe rfl rfl) qe)
      exact ffj_Parser_operand_50 hrec (fun A' f q => hq A' ((ySm.rf.tr f2 rfl rfl).tr f rfl rfl) q) (fun A' f q => hE A' ((ySm.rf.tr f2 rfl rfl).tr f rfl rfl) q) (fun A' x0 x1 x2 x3 x4 f q => fk24 A' x0 x1 x2 x3 x4 ((ySm.rf.tr f2 rfl rfl).tr f rfl rfl) q) h33
theorem ffl_Parser_operand_240 {rec : Nat → Int → Int → Int → cS → (Int → cS → Prop) → (cS → Prop) → Prop} (hrec : ∀ (i : Nat) (a b c : Int) (A : cS) (Q Q' : Int → cS → Prop) (E E' : cS → Prop), rec i a b c A Q E → (∀ (e : Int) (A' : cS), ySm A A' [2, 3, 4, 5, 6, 7, 8, 9, 10, 11, 12, 13, 21, 22, 23] [3, 4, 5, 10, 11] → Q e A' → Q' e A') → (∀ (A' : cS), ySm A A' [2, 3, 4, 5, 6, 7, 8, 9, 10, 11, 12, 13, 21, 22, 23] [3, 4, 5, 10, 11] → E A' → E' A') → rec i a b c A Q' E') {Q Q' : cS → Prop} {E E' : cS → Prop}  : ∀ (m : Nat) (s0 : cS) (x1 : Int) (x2 : Int) (x3 : Int) (x4 : Int) (x5 : Int), (∀ (A' : cS), ySm s0 A' [2, 3, 4, 5, 6, 7, 8, 9, 10, 11, 12, 13, 21, 22, 23] [3, 4, 5, 10, 11] → Q A' → Q' A') → (∀ (A' : cS), ySm s0 A' [2, 3, 4, 5, 6, 7, 8, 9, 10, 11, 12, 13, 21, 22, 23] [3, 4, 5, 10, 11] → E A' → E' A') → wc_Parser_operand_24 rec Q E  m s0 x1 x2 x3 x4 x5 → wc_Parser_operand_24 rec Q' E'  m s0 x1 x2 x3 x4 x5 := by
  intro m
  induction m with
  | zero => intro s0 x1 x2 x3 x4 x5 hq hE  hw; exact hw
  | succ m ih => intro s0 x1 x2 x3 x4 x5 hq hE  hw; exact ffb_Parser_operand_24 hrec hq hE  (fun A' y0 y1 y2 y3 y4 f1 q => ih A' y0 y1 y2 y3 y4 (fun A' f q => hq A' (f1.tr f rfl rfl) q) (fun A' f q => hE A' (f1.tr f rfl rfl) q)  q) hw
theorem ffm_Parser_operand {rec : Nat → Int → Int → Int → cS → (Int → cS → Prop) → (cS → Prop) → Prop} (hrec : ∀ (i : Nat) (a b c : Int) (A : cS) (Q Q' : Int → cS → Prop) (E E' : cS → Prop), rec i a b c A Q E → (∀ (e : Int) (A' : cS), ySm A A' [2, 3, 4, 5, 6, 7, 8, 9, 10, 11, 12, 13, 21, 22, 23] [3, 4, 5, 10, 11] → Q e A' → Q' e A') → (∀ (A' : cS), ySm A A' [2, 3, 4, 5, 6, 7, 8, 9, 10, 11, 12, 13, 21, 22, 23] [3, 4, 5, 10, 11] → E A' → E' A') → rec i a b c A Q' E') {s0 : cS} {a0 : Int} {Q Q' : cS → Prop} {E E' : cS → Prop} (hw : wc_Parser_operand rec s0 a0 Q E) (hq : ∀ (A' : cS), ySm s0 A' [2, 3, 4, 5, 6, 7, 8, 9, 10, 11, 12, 13, 21, 22, 23] [3, 4, 5, 10, 11] → Q A' → Q' A') (hE : ∀ (A' : cS), ySm s0 A' [2, 3, 4, 5, 6, 7, 8, 9, 10, 11, 12, 13, 21, 22, 23] [3, 4, 5, 10, 11] → E A' → E' A') : wc_Parser_operand rec s0 a0 Q' E' := by
  unfold wc_Parser_operand at hw ⊢
  refine ffm_Parser_passSigns hw (fun A2 f1 h8 => ?_) (fun Ae fe qe => hE Ae (ySm.rf.tr fe rfl rfl) qe)
  obtain ⟨m9, h10⟩ := h8
  exact ⟨m9, ffl_Parser_operand_240 hrec m9 _ _ _ _ _ _ (fun A' f q => hq A' ((ySm.rf.tr f1 rfl rfl).tr f rfl rfl) q) (fun A' f q => hE A' ((ySm.rf.tr f1 rfl rfl).tr f rfl rfl) q)  h10⟩
theorem ffm_Parser_primary {rec : Nat → Int → Int → Int → cS → (Int → cS → Prop) → (cS → Prop) → Prop} (hrec : ∀ (i : Nat) (a b c : Int) (A : cS) (Q Q' : Int → cS → Prop) (E E' : cS → Prop), rec i a b c A Q E → (∀ (e : Int) (A' : cS), ySm A A' [2, 3, 4, 5, 6, 7, 8, 9, 10, 11, 12, 13, 21, 22, 23] [3, 4, 5, 10, 11] → Q e A' → Q' e A') → (∀ (A' : cS), ySm A A' [2, 3, 4, 5, 6, 7, 8, 9, 10, 11, 12, 13, 21, 22, 23] [3, 4, 5, 10, 11] → E A' → E' A') → rec i a b c A Q' E') {s0 : cS}  {Q Q' : Int → cS → Prop} {E E' : cS → Prop} (hw : wc_Parser_primary rec s0  Q E) (hq : ∀ (e : Int) (A' : cS), ySm s0 A' [2, 3, 4, 5, 6, 7, 8, 9, 10, 11, 12, 13, 21, 22, 23] [3, 4, 5, 10, 11] → Q e A' → Q' e A') (hE : ∀ (A' : cS), ySm s0 A' [2, 3, 4, 5, 6, 7, 8, 9, 10, 11, 12, 13, 21, 22, 23] [3, 4, 5, 10, 11] → E A' → E' A') : wc_Parser_primary rec s0  Q' E' := by
  unfold wc_Parser_primary at hw ⊢
  refine ffm_Parser_kind hw (fun r1 A2 f1 h8 => ?_)
  refine ⟨fun g9 => ?_, ?_⟩
  · have h11 := (h8.1) g9
    refine ffm_Parser_kind h11 (fun r12 A13 f2 h19 => ?_)
    refine ffm_Parser_leaf h19 (fun r20 A21 f3 h27 => ?_)
    exact hq _ _ (((ySm.rf.tr f1 rfl rfl).tr f2 rfl rfl).tr f3 rfl rfl) h27
  · skip
    refine ⟨fun g28 => ?_, ?_⟩
    · have h30 := (h8.2.1) g28
      refine ffm_Parser_leaf h30 (fun r31 A32 f4 h38 => ?_)
      refine ffm_Tree_data h38 (fun r39 A40 f5 h46 => ?_)
      refine ffm_Parser_pack h46 (fun r47 A48 f6 h54 => ?_)
      refine ffm_Tree_setData h54 (fun A56 f7 h62 => ?_)
      exact hq _ _ (((((ySm.rf.tr f1 rfl rfl).tr f4 rfl rfl).tr f5 rfl rfl).tr f6 rfl rfl).tr f7 rfl rfl) h62
    · skip
      refine ⟨fun g63 => ?_, ?_⟩
      · have h65 := (h8.2.2.1) g63
        refine ffm_Parser_enter h65 (fun A67 f8 h73 => ?_) (fun Ae fe qe => hE Ae ((ySm.rf.tr f1 rfl rfl).tr fe rfl rfl) qe)
        refine ffm_Parser_leaf h73 (fun r74 A75 f9 h81 => ?_)
        refine hrec _ _ _ _ _ _ _ _ _ h81 (fun r82 A83 f10 h89 => ?_) (fun Ae fe qe => hE Ae ((((ySm.rf.tr f1 rfl rfl).tr f8 rfl rfl).tr f9 rfl rfl).tr fe rfl rfl) qe)
        refine ffm_Tree_hang h89 (fun A91 f11 h97 => ?_)
        refine ffm_Parser_due h97 (fun A99 f12 h105 => ?_) (fun Ae fe qe => hE Ae ((((((ySm.rf.tr f1 rfl rfl).tr f8 rfl rfl).tr f9 rfl rfl).tr f10 rfl rfl).tr f11 rfl rfl).tr fe rfl rfl) qe)
        obtain ⟨o106, h107⟩ := h105
        refine ⟨o106, ?_⟩
        exact hq _ _ (((((((ySm.rf.tr f1 rfl rfl).tr f8 rfl rfl).tr f9 rfl rfl).tr f10 rfl rfl).tr f11 rfl rfl).tr f12 rfl rfl).pv rfl) h107
      · skip
        refine ⟨fun g119 => ?_, ?_⟩
        · have h121 := (h8.2.2.2.1) g119
          refine ffm_Parser_place h121 (fun r122 A123 f13 h129 => ?_)
          refine ffm_Parser_kind h129 (fun r130 A131 f14 h137 => ?_)
          refine ⟨fun c138 => ?_, fun c138 => ?_⟩
          · have h139 := h137.1 c138
            refine ffm_Tree_node h139 (fun r140 A141 f15 h147 => ?_)
            refine ffm_Parser_advance h147 (fun A149 f16 h155 => ?_)
            exact hq _ _ (((((ySm.rf.tr f1 rfl rfl).tr f13 rfl rfl).tr f14 rfl rfl).tr f15 rfl rfl).tr f16 rfl rfl) h155
          · have h156 := h137.2 c138
            refine ffm_Tree_node h156 (fun r157 A158 f17 h164 => ?_)
            refine ffm_Parser_advance h164 (fun A166 f18 h172 => ?_)
            exact hq _ _ (((((ySm.rf.tr f1 rfl rfl).tr f13 rfl rfl).tr f14 rfl rfl).tr f17 rfl rfl).tr f18 rfl rfl) h172
        · skip
          refine ⟨fun g173 => ?_, ?_⟩
          · have h175 := (h8.2.2.2.2.1) g173
            refine hrec _ _ _ _ _ _ _ _ _ h175 (fun r176 A177 f19 h183 => ?_) (fun Ae fe qe => hE Ae ((ySm.rf.tr f1 rfl rfl).tr fe rfl rfl) qe)
            exact hq _ _ ((ySm.rf.tr f1 rfl rfl).tr f19 rfl rfl) h183
          · skip
            intro ng9 ng28 ng63 ng119 ng173
            have h184 := h8.2.2.2.2.2 ng9 ng28 ng63 ng119 ng173
            refine ffm_Parser_refuse h184 (fun A186 f20 h192 => ?_) (fun Ae fe qe => hE Ae ((ySm.rf.tr f1 rfl rfl).tr fe rfl rfl) qe)
            exact hq _ _ ((ySm.rf.tr f1 rfl rfl).tr f20 rfl rfl) h192
theorem ffb_Parser_table_75 {rec : Nat → Int → Int → Int → cS → (Int → cS → Prop) → (cS → Prop) → Prop} (hrec : ∀ (i : Nat) (a b c : Int) (A : cS) (Q Q' : Int → cS → Prop) (E E' : cS → Prop), rec i a b c A Q E → (∀ (e : Int) (A' : cS), ySm A A' [2, 3, 4, 5, 6, 7, 8, 9, 10, 11, 12, 13, 21, 22, 23] [3, 4, 5, 10, 11] → Q e A' → Q' e A') → (∀ (A' : cS), ySm A A' [2, 3, 4, 5, 6, 7, 8, 9, 10, 11, 12, 13, 21, 22, 23] [3, 4, 5, 10, 11] → E A' → E' A') → rec i a b c A Q' E') {Q Q' : Int → cS → Prop} {E E' : cS → Prop} {k75 k75' : cS → Int → Int → Int → Prop} {s0 : cS} {x1 : Int} {x2 : Int} {x3 : Int} (hq : ∀ (e : Int) (A' : cS), ySm s0 A' [2, 3, 4, 5, 6, 7, 8, 9, 10, 11, 12, 13, 21, 22, 23] [3, 4, 5, 10, 11] → Q e A' → Q' e A') (hE : ∀ (A' : cS), ySm s0 A' [2, 3, 4, 5, 6, 7, 8, 9, 10, 11, 12, 13, 21, 22, 23] [3, 4, 5, 10, 11] → E A' → E' A') (fk75 : ∀ (A' : cS) (x0 : Int) (x1 : Int) (x2 : Int), ySm s0 A' [2, 3, 4, 5, 6, 7, 8, 9, 10, 11, 12, 13, 21, 22, 23] [3, 4, 5, 10, 11] → k75 A' x0 x1 x2 → k75' A' x0 x1 x2) (hw : wc_Parser_table_75B rec Q E k75 s0 x1 x2 x3) : wc_Parser_table_75B rec Q' E' k75' s0 x1 x2 x3 := by
  unfold wc_Parser_table_75B at hw ⊢
  refine ⟨fun c1 => ?_, fun c1 => ?_⟩
  · have h2 := hw.1 c1
    obtain ⟨o3, h4⟩ := h2
    refine ⟨o3, ?_⟩
    exact hq _ _ (ySm.rf.pv rfl) h4
  · have h16 := hw.2 c1
    refine ffm_Program_addWord h16 (fun r17 A18 f1 h24 => ?_)
    obtain ⟨o25, h26⟩ := h24
    refine ⟨o25, ?_⟩
    exact fk75 _ _ _ _ (ySm.rf.tr f1 rfl rfl) h26
theorem ffl_Parser_table_750 {rec : Nat → Int → Int → Int → cS → (Int → cS → Prop) → (cS → Prop) → Prop} (hrec : ∀ (i : Nat) (a b c : Int) (A : cS) (Q Q' : Int → cS → Prop) (E E' : cS → Prop), rec i a b c A Q E → (∀ (e : Int) (A' : cS), ySm A A' [2, 3, 4, 5, 6, 7, 8, 9, 10, 11, 12, 13, 21, 22, 23] [3, 4, 5, 10, 11] → Q e A' → Q' e A') → (∀ (A' : cS), ySm A A' [2, 3, 4, 5, 6, 7, 8, 9, 10, 11, 12, 13, 21, 22, 23] [3, 4, 5, 10, 11] → E A' → E' A') → rec i a b c A Q' E') {Q Q' : Int → cS → Prop} {E E' : cS → Prop}  : ∀ (m : Nat) (s0 : cS) (x1 : Int) (x2 : Int) (x3 : Int), (∀ (e : Int) (A' : cS), ySm s0 A' [2, 3, 4, 5, 6, 7, 8, 9, 10, 11, 12, 13, 21, 22, 23] [3, 4, 5, 10, 11] → Q e A' → Q' e A') → (∀ (A' : cS), ySm s0 A' [2, 3, 4, 5, 6, 7, 8, 9, 10, 11, 12, 13, 21, 22, 23] [3, 4, 5, 10, 11] → E A' → E' A') → wc_Parser_table_75 rec Q E  m s0 x1 x2 x3 → wc_Parser_table_75 rec Q' E'  m s0 x1 x2 x3 := by
  intro m
  induction m with
  | zero => intro s0 x1 x2 x3 hq hE  hw; exact hw
  | succ m ih => intro s0 x1 x2 x3 hq hE  hw; exact ffb_Parser_table_75 hrec hq hE  (fun A' y0 y1 y2 f1 q => ih A' y0 y1 y2 (fun e A' f q => hq e A' (f1.tr f rfl rfl) q) (fun A' f q => hE A' (f1.tr f rfl rfl) q)  q) hw
theorem ffb_Parser_table_15 {rec : Nat → Int → Int → Int → cS → (Int → cS → Prop) → (cS → Prop) → Prop} (hrec : ∀ (i : Nat) (a b c : Int) (A : cS) (Q Q' : Int → cS → Prop) (E E' : cS → Prop), rec i a b c A Q E → (∀ (e : Int) (A' : cS), ySm A A' [2, 3, 4, 5, 6, 7, 8, 9, 10, 11, 12, 13, 21, 22, 23] [3, 4, 5, 10, 11] → Q e A' → Q' e A') → (∀ (A' : cS), ySm A A' [2, 3, 4, 5, 6, 7, 8, 9, 10, 11, 12, 13, 21, 22, 23] [3, 4, 5, 10, 11] → E A' → E' A') → rec i a b c A Q' E') {Q Q' : Int → cS → Prop} {E E' : cS → Prop} {k15 k15' : cS → Int → Int → Int → Prop} {s0 : cS} {x1 : Int} {x2 : Int} {x3 : Int} (hq : ∀ (e : Int) (A' : cS), ySm s0 A' [2, 3, 4, 5, 6, 7, 8, 9, 10, 11, 12, 13, 21, 22, 23] [3, 4, 5, 10, 11] → Q e A' → Q' e A') (hE : ∀ (A' : cS), ySm s0 A' [2, 3, 4, 5, 6, 7, 8, 9, 10, 11, 12, 13, 21, 22, 23] [3, 4, 5, 10, 11] → E A' → E' A') (fk15 : ∀ (A' : cS) (x0 : Int) (x1 : Int) (x2 : Int), ySm s0 A' [2, 3, 4, 5, 6, 7, 8, 9, 10, 11, 12, 13, 21, 22, 23] [3, 4, 5, 10, 11] → k15 A' x0 x1 x2 → k15' A' x0 x1 x2) (hw : wc_Parser_table_15B rec Q E k15 s0 x1 x2 x3) : wc_Parser_table_15B rec Q' E' k15' s0 x1 x2 x3 := by
  unfold wc_Parser_table_15B at hw ⊢
  refine ⟨fun c1 => ?_, fun c1 => ?_⟩
  · have h2 := hw.1 c1
    refine ffm_Program_words h2 (fun r3 A4 f1 h10 => ?_)
    refine ffm_Tree_setData h10 (fun A12 f2 h18 => ?_)
    obtain ⟨m19, h20⟩ := h18
    exact ⟨m19, ffl_Parser_table_750 hrec m19 _ _ _ _ (fun e A' f q => hq e A' (((ySm.rf.tr f1 rfl rfl).tr f2 rfl rfl).tr f rfl rfl) q) (fun A' f q => hE A' (((ySm.rf.tr f1 rfl rfl).tr f2 rfl rfl).tr f rfl rfl) q)  h20⟩
  · have h21 := hw.2 c1
    refine hrec _ _ _ _ _ _ _ _ _ h21 (fun r22 A23 f3 h29 => ?_) (fun Ae fe qe => hE Ae (ySm.rf.tr fe rfl rfl) qe)
    refine ffm_Tree_hang h29 (fun A31 f4 h37 => ?_)
    refine ffm_Parser_kind h37 (fun r38 A39 f5 h45 => ?_)
    refine ⟨fun c46 => ?_, fun c46 => ?_⟩
    · have h47 := h45.1 c46
      refine ffm_Parser_advance h47 (fun A49 f6 h55 => ?_)
      obtain ⟨o56, h57⟩ := h55
      refine ⟨o56, ?_⟩
      obtain ⟨o58, h59⟩ := h57
      refine ⟨o58, ?_⟩
      exact fk15 _ _ _ _ ((((ySm.rf.tr f3 rfl rfl).tr f4 rfl rfl).tr f5 rfl rfl).tr f6 rfl rfl) h59
    · have h60 := h45.2 c46
      refine ffm_Program_words h60 (fun r61 A62 f7 h68 => ?_)
      refine ffm_Tree_setData h68 (fun A70 f8 h76 => ?_)
      obtain ⟨o77, h78⟩ := h76
      refine ⟨o77, ?_⟩
      obtain ⟨m79, h80⟩ := h78
      exact ⟨m79, ffl_Parser_table_750 hrec m79 _ _ _ _ (fun e A' f q => hq e A' ((((((ySm.rf.tr f3 rfl rfl).tr f4 rfl rfl).tr f5 rfl rfl).tr f7 rfl rfl).tr f8 rfl rfl).tr f rfl rfl) q) (fun A' f q => hE A' ((((((ySm.rf.tr f3 rfl rfl).tr f4 rfl rfl).tr f5 rfl rfl).tr f7 rfl rfl).tr f8 rfl rfl).tr f rfl rfl) q)  h80⟩
theorem ffl_Parser_table_150 {rec : Nat → Int → Int → Int → cS → (Int → cS → Prop) → (cS → Prop) → Prop} (hrec : ∀ (i : Nat) (a b c : Int) (A : cS) (Q Q' : Int → cS → Prop) (E E' : cS → Prop), rec i a b c A Q E → (∀ (e : Int) (A' : cS), ySm A A' [2, 3, 4, 5, 6, 7, 8, 9, 10, 11, 12, 13, 21, 22, 23] [3, 4, 5, 10, 11] → Q e A' → Q' e A') → (∀ (A' : cS), ySm A A' [2, 3, 4, 5, 6, 7, 8, 9, 10, 11, 12, 13, 21, 22, 23] [3, 4, 5, 10, 11] → E A' → E' A') → rec i a b c A Q' E') {Q Q' : Int → cS → Prop} {E E' : cS → Prop}  : ∀ (m : Nat) (s0 : cS) (x1 : Int) (x2 : Int) (x3 : Int), (∀ (e : Int) (A' : cS), ySm s0 A' [2, 3, 4, 5, 6, 7, 8, 9, 10, 11, 12, 13, 21, 22, 23] [3, 4, 5, 10, 11] → Q e A' → Q' e A') → (∀ (A' : cS), ySm s0 A' [2, 3, 4, 5, 6, 7, 8, 9, 10, 11, 12, 13, 21, 22, 23] [3, 4, 5, 10, 11] → E A' → E' A') → wc_Parser_table_15 rec Q E  m s0 x1 x2 x3 → wc_Parser_table_15 rec Q' E'  m s0 x1 x2 x3 := by
  intro m
  induction m with
  | zero => intro s0 x1 x2 x3 hq hE  hw; exact hw
  | succ m ih => intro s0 x1 x2 x3 hq hE  hw; exact ffb_Parser_table_15 hrec hq hE  (fun A' y0 y1 y2 f1 q => ih A' y0 y1 y2 (fun e A' f q => hq e A' (f1.tr f rfl rfl) q) (fun A' f q => hE A' (f1.tr f rfl rfl) q)  q) hw
theorem ffm_Parser_table {rec : Nat → Int → Int → Int → cS → (Int → cS → Prop) → (cS → Prop) → Prop} (hrec : ∀ (i : Nat) (a b c : Int) (A : cS) (Q Q' : Int → cS → Prop) (E E' : cS → Prop), rec i a b c A Q E → (∀ (e : Int) (A' : cS), ySm A A' [2, 3, 4, 5, 6, 7, 8, 9, 10, 11, 12, 13, 21, 22, 23] [3, 4, 5, 10, 11] → Q e A' → Q' e A') → (∀ (A' : cS), ySm A A' [2, 3, 4, 5, 6, 7, 8, 9, 10, 11, 12, 13, 21, 22, 23] [3, 4, 5, 10, 11] → E A' → E' A') → rec i a b c A Q' E') {s0 : cS}  {Q Q' : Int → cS → Prop} {E E' : cS → Prop} (hw : wc_Parser_table rec s0  Q E) (hq : ∀ (e : Int) (A' : cS), ySm s0 A' [2, 3, 4, 5, 6, 7, 8, 9, 10, 11, 12, 13, 21, 22, 23] [3, 4, 5, 10, 11] → Q e A' → Q' e A') (hE : ∀ (A' : cS), ySm s0 A' [2, 3, 4, 5, 6, 7, 8, 9, 10, 11, 12, 13, 21, 22, 23] [3, 4, 5, 10, 11] → E A' → E' A') : wc_Parser_table rec s0  Q' E' := by
  unfold wc_Parser_table at hw ⊢
  refine ffm_Parser_enter hw (fun A2 f1 h8 => ?_) (fun Ae fe qe => hE Ae (ySm.rf.tr fe rfl rfl) qe)
  refine ffm_Parser_leaf h8 (fun r9 A10 f2 h16 => ?_)
  obtain ⟨m17, h18⟩ := h16
  exact ⟨m17, ffl_Parser_table_150 hrec m17 _ _ _ _ (fun e A' f q => hq e A' (((ySm.rf.tr f1 rfl rfl).tr f2 rfl rfl).tr f rfl rfl) q) (fun A' f q => hE A' (((ySm.rf.tr f1 rfl rfl).tr f2 rfl rfl).tr f rfl rfl) q)  h18⟩
theorem ffb_Parser_calls_109 {rec : Nat → Int → Int → Int → cS → (Int → cS → Prop) → (cS → Prop) → Prop} (hrec : ∀ (i : Nat) (a b c : Int) (A : cS) (Q Q' : Int → cS → Prop) (E E' : cS → Prop), rec i a b c A Q E → (∀ (e : Int) (A' : cS), ySm A A' [2, 3, 4, 5, 6, 7, 8, 9, 10, 11, 12, 13, 21, 22, 23] [3, 4, 5, 10, 11] → Q e A' → Q' e A') → (∀ (A' : cS), ySm A A' [2, 3, 4, 5, 6, 7, 8, 9, 10, 11, 12, 13, 21, 22, 23] [3, 4, 5, 10, 11] → E A' → E' A') → rec i a b c A Q' E') {Q Q' : Int → cS → Prop} {E E' : cS → Prop} {k59 k59' : cS → Int → Int → Prop} {k109 k109' : cS → Int → Int → Int → Int → Int → Int → Prop} {s0 : cS} {x2 : Int} {x4 : Int} {x5 : Int} {x6 : Int} {x7 : Int} {x8 : Int} (hq : ∀ (e : Int) (A' : cS), ySm s0 A' [2, 3, 4, 5, 6, 7, 8, 9, 10, 11, 12, 13, 21, 22, 23] [3, 4, 5, 10, 11] → Q e A' → Q' e A') (hE : ∀ (A' : cS), ySm s0 A' [2, 3, 4, 5, 6, 7, 8, 9, 10, 11, 12, 13, 21, 22, 23] [3, 4, 5, 10, 11] → E A' → E' A') (fk59 : ∀ (A' : cS) (x0 : Int) (x1 : Int), ySm s0 A' [2, 3, 4, 5, 6, 7, 8, 9, 10, 11, 12, 13, 21, 22, 23] [3, 4, 5, 10, 11] → k59 A' x0 x1 → k59' A' x0 x1) (fk109 : ∀ (A' : cS) (x0 : Int) (x1 : Int) (x2 : Int) (x3 : Int) (x4 : Int) (x5 : Int), ySm s0 A' [2, 3, 4, 5, 6, 7, 8, 9, 10, 11, 12, 13, 21, 22, 23] [3, 4, 5, 10, 11] → k109 A' x0 x1 x2 x3 x4 x5 → k109' A' x0 x1 x2 x3 x4 x5) (hw : wc_Parser_calls_109B rec Q E k59 k109 s0 x2 x4 x5 x6 x7 x8) : wc_Parser_calls_109B rec Q' E' k59' k109' s0 x2 x4 x5 x6 x7 x8 := by
  unfold wc_Parser_calls_109B at hw ⊢
  refine ⟨fun c1 => ?_, fun c1 => ?_⟩
  · have h2 := hw.1 c1
    refine ffm_Parser_due h2 (fun A4 f1 h10 => ?_) (fun Ae fe qe => hE Ae (ySm.rf.tr fe rfl rfl) qe)
    refine ffm_Tree_setData h10 (fun A12 f2 h18 => ?_)
    refine ffm_Tree_hang h18 (fun A20 f3 h26 => ?_)
    obtain ⟨o27, h28⟩ := h26
    refine ⟨o27, ?_⟩
    exact fk59 _ _ _ (((ySm.rf.tr f1 rfl rfl).tr f2 rfl rfl).tr f3 rfl rfl) h28
  · have h29 := hw.2 c1
    refine ⟨fun c30 => ?_, fun c30 => ?_⟩
    · have h31 := h29.1 c30
      refine ffm_Parser_due h31 (fun A33 f4 h39 => ?_) (fun Ae fe qe => hE Ae (ySm.rf.tr fe rfl rfl) qe)
      refine ffm_Tree_setData h39 (fun A41 f5 h47 => ?_)
      refine ffm_Tree_hang h47 (fun A49 f6 h55 => ?_)
      obtain ⟨o56, h57⟩ := h55
      refine ⟨o56, ?_⟩
      exact fk59 _ _ _ (((ySm.rf.tr f4 rfl rfl).tr f5 rfl rfl).tr f6 rfl rfl) h57
    · have h58 := h29.2 c30
      refine hrec _ _ _ _ _ _ _ _ _ h58 (fun r59 A60 f7 h66 => ?_) (fun Ae fe qe => hE Ae (ySm.rf.tr fe rfl rfl) qe)
      refine ffm_Tree_hang h66 (fun A68 f8 h74 => ?_)
      refine ffm_Parser_kind h74 (fun r75 A76 f9 h82 => ?_)
      refine ⟨fun c83 => ?_, fun c83 => ?_⟩
      · have h84 := h82.1 c83
        obtain ⟨o86, h87⟩ := h84
        refine ⟨o86, ?_⟩
        obtain ⟨o88, h89⟩ := h87
        refine ⟨o88, ?_⟩
        exact fk109 _ _ _ _ _ _ _ (((ySm.rf.tr f7 rfl rfl).tr f8 rfl rfl).tr f9 rfl rfl) h89
      · have h90 := h82.2 c83
        refine ⟨fun c91 => ?_, fun c91 => ?_⟩
        · have h92 := h90.1 c91
          obtain ⟨o94, h95⟩ := h92
          refine ⟨o94, ?_⟩
          obtain ⟨o96, h97⟩ := h95
          refine ⟨o96, ?_⟩
          exact fk109 _ _ _ _ _ _ _ (((ySm.rf.tr f7 rfl rfl).tr f8 rfl rfl).tr f9 rfl rfl) h97
        · have h98 := h90.2 c91
          refine ffm_Parser_advance h98 (fun A101 f10 h107 => ?_)
          obtain ⟨o108, h109⟩ := h107
          refine ⟨o108, ?_⟩
          obtain ⟨o110, h111⟩ := h109
          refine ⟨o110, ?_⟩
          exact fk109 _ _ _ _ _ _ _ ((((ySm.rf.tr f7 rfl rfl).tr f8 rfl rfl).tr f9 rfl rfl).tr f10 rfl rfl) h111
theorem ffl_Parser_calls_1090 {rec : Nat → Int → Int → Int → cS → (Int → cS → Prop) → (cS → Prop) → Prop} (hrec : ∀ (i : Nat) (a b c : Int) (A : cS) (Q Q' : Int → cS → Prop) (E E' : cS → Prop), rec i a b c A Q E → (∀ (e : Int) (A' : cS), ySm A A' [2, 3, 4, 5, 6, 7, 8, 9, 10, 11, 12, 13, 21, 22, 23] [3, 4, 5, 10, 11] → Q e A' → Q' e A') → (∀ (A' : cS), ySm A A' [2, 3, 4, 5, 6, 7, 8, 9, 10, 11, 12, 13, 21, 22, 23] [3, 4, 5, 10, 11] → E A' → E' A') → rec i a b c A Q' E') {Q Q' : Int → cS → Prop} {E E' : cS → Prop} {k59 k59' : cS → Int → Int → Prop} : ∀ (m : Nat) (s0 : cS) (x2 : Int) (x4 : Int) (x5 : Int) (x6 : Int) (x7 : Int) (x8 : Int), (∀ (e : Int) (A' : cS), ySm s0 A' [2, 3, 4, 5, 6, 7, 8, 9, 10, 11, 12, 13, 21, 22, 23] [3, 4, 5, 10, 11] → Q e A' → Q' e A') → (∀ (A' : cS), ySm s0 A' [2, 3, 4, 5, 6, 7, 8, 9, 10, 11, 12, 13, 21, 22, 23] [3, 4, 5, 10, 11] → E A' → E' A') → (∀ (A' : cS) (x0 : Int) (x1 : Int), ySm s0 A' [2, 3, 4, 5, 6, 7, 8, 9, 10, 11, 12, 13, 21, 22, 23] [3, 4, 5, 10, 11] → k59 A' x0 x1 → k59' A' x0 x1) → wc_Parser_calls_109 rec Q E k59 m s0 x2 x4 x5 x6 x7 x8 → wc_Parser_calls_109 rec Q' E' k59' m s0 x2 x4 x5 x6 x7 x8 := by
  intro m
  induction m with
  | zero => intro s0 x2 x4 x5 x6 x7 x8 hq hE fk59 hw; exact hw
  | succ m ih => intro s0 x2 x4 x5 x6 x7 x8 hq hE fk59 hw; exact ffb_Parser_calls_109 hrec hq hE fk59 (fun A' y0 y1 y2 y3 y4 y5 f1 q => ih A' y0 y1 y2 y3 y4 y5 (fun e A' f q => hq e A' (f1.tr f rfl rfl) q) (fun A' f q => hE A' (f1.tr f rfl rfl) q) (fun A' z0 z1 f q => fk59 A' z0 z1 (f1.tr f rfl rfl) q) q) hw
theorem ffb_Parser_calls_59 {rec : Nat → Int → Int → Int → cS → (Int → cS → Prop) → (cS → Prop) → Prop} (hrec : ∀ (i : Nat) (a b c : Int) (A : cS) (Q Q' : Int → cS → Prop) (E E' : cS → Prop), rec i a b c A Q E → (∀ (e : Int) (A' : cS), ySm A A' [2, 3, 4, 5, 6, 7, 8, 9, 10, 11, 12, 13, 21, 22, 23] [3, 4, 5, 10, 11] → Q e A' → Q' e A') → (∀ (A' : cS), ySm A A' [2, 3, 4, 5, 6, 7, 8, 9, 10, 11, 12, 13, 21, 22, 23] [3, 4, 5, 10, 11] → E A' → E' A') → rec i a b c A Q' E') {Q Q' : Int → cS → Prop} {E E' : cS → Prop} {k59 k59' : cS → Int → Int → Prop} {s0 : cS} {x2 : Int} {x4 : Int} (hq : ∀ (e : Int) (A' : cS), ySm s0 A' [2, 3, 4, 5, 6, 7, 8, 9, 10, 11, 12, 13, 21, 22, 23] [3, 4, 5, 10, 11] → Q e A' → Q' e A') (hE : ∀ (A' : cS), ySm s0 A' [2, 3, 4, 5, 6, 7, 8, 9, 10, 11, 12, 13, 21, 22, 23] [3, 4, 5, 10, 11] → E A' → E' A') (fk59 : ∀ (A' : cS) (x0 : Int) (x1 : Int), ySm s0 A' [2, 3, 4, 5, 6, 7, 8, 9, 10, 11, 12, 13, 21, 22, 23] [3, 4, 5, 10, 11] → k59 A' x0 x1 → k59' A' x0 x1) (hw : wc_Parser_calls_59B rec Q E k59 s0 x2 x4) : wc_Parser_calls_59B rec Q' E' k59' s0 x2 x4 := by
  unfold wc_Parser_calls_59B at hw ⊢
  refine ⟨fun c1 => ?_, fun c1 => ?_⟩
  · have h2 := hw.1 c1
    exact hq _ _ ySm.rf h2
  · have h3 := hw.2 c1
    refine ffm_Parser_kind h3 (fun r4 A5 f1 h11 => ?_)
    refine ⟨fun c12 => ?_, fun c12 => ?_⟩
    · have h13 := h11.1 c12
      exact hq _ _ (ySm.rf.tr f1 rfl rfl) h13
    · have h14 := h11.2 c12
      refine ffm_Parser_enter h14 (fun A16 f2 h22 => ?_) (fun Ae fe qe => hE Ae ((ySm.rf.tr f1 rfl rfl).tr fe rfl rfl) qe)
      refine ffm_Parser_leaf h22 (fun r23 A24 f3 h30 => ?_)
      refine ffm_Parser_kind h30 (fun r31 A32 f4 h38 => ?_)
      refine ⟨fun c39 => ?_, fun c39 => ?_⟩
      · have h40 := h38.1 c39
        obtain ⟨m41, h42⟩ := h40
        exact ⟨m41, ffl_Parser_calls_1090 hrec m41 _ _ _ _ _ _ _ (fun e A' f q => hq e A' (((((ySm.rf.tr f1 rfl rfl).tr f2 rfl rfl).tr f3 rfl rfl).tr f4 rfl rfl).tr f rfl rfl) q) (fun A' f q => hE A' (((((ySm.rf.tr f1 rfl rfl).tr f2 rfl rfl).tr f3 rfl rfl).tr f4 rfl rfl).tr f rfl rfl) q) (fun A' x0 x1 f q => fk59 A' x0 x1 (((((ySm.rf.tr f1 rfl rfl).tr f2 rfl rfl).tr f3 rfl rfl).tr f4 rfl rfl).tr f rfl rfl) q) h42⟩
      · have h43 := h38.2 c39
        obtain ⟨m44, h45⟩ := h43
        exact ⟨m44, ffl_Parser_calls_1090 hrec m44 _ _ _ _ _ _ _ (fun e A' f q => hq e A' (((((ySm.rf.tr f1 rfl rfl).tr f2 rfl rfl).tr f3 rfl rfl).tr f4 rfl rfl).tr f rfl rfl) q) (fun A' f q => hE A' (((((ySm.rf.tr f1 rfl rfl).tr f2 rfl rfl).tr f3 rfl rfl).tr f4 rfl rfl).tr f rfl rfl) q) (fun A' x0 x1 f q => fk59 A' x0 x1 (((((ySm.rf.tr f1 rfl rfl).tr f2 rfl rfl).tr f3 rfl rfl).tr f4 rfl rfl).tr f rfl rfl) q) h45⟩
theorem ffl_Parser_calls_590 {rec : Nat → Int → Int → Int → cS → (Int → cS → Prop) → (cS → Prop) → Prop} (hrec : ∀ (i : Nat) (a b c : Int) (A : cS) (Q Q' : Int → cS → Prop) (E E' : cS → Prop), rec i a b c A Q E → (∀ (e : Int) (A' : cS), ySm A A' [2, 3, 4, 5, 6, 7, 8, 9, 10, 11, 12, 13, 21, 22, 23] [3, 4, 5, 10, 11] → Q e A' → Q' e A') → (∀ (A' : cS), ySm A A' [2, 3, 4, 5, 6, 7, 8, 9, 10, 11, 12, 13, 21, 22, 23] [3, 4, 5, 10, 11] → E A' → E' A') → rec i a b c A Q' E') {Q Q' : Int → cS → Prop} {E E' : cS → Prop}  : ∀ (m : Nat) (s0 : cS) (x2 : Int) (x4 : Int), (∀ (e : Int) (A' : cS), ySm s0 A' [2, 3, 4, 5, 6, 7, 8, 9, 10, 11, 12, 13, 21, 22, 23] [3, 4, 5, 10, 11] → Q e A' → Q' e A') → (∀ (A' : cS), ySm s0 A' [2, 3, 4, 5, 6, 7, 8, 9, 10, 11, 12, 13, 21, 22, 23] [3, 4, 5, 10, 11] → E A' → E' A') → wc_Parser_calls_59 rec Q E  m s0 x2 x4 → wc_Parser_calls_59 rec Q' E'  m s0 x2 x4 := by
  intro m
  induction m with
  | zero => intro s0 x2 x4 hq hE  hw; exact hw
  | succ m ih => intro s0 x2 x4 hq hE  hw; exact ffb_Parser_calls_59 hrec hq hE  (fun A' y0 y1 f1 q => ih A' y0 y1 (fun e A' f q => hq e A' (f1.tr f rfl rfl) q) (fun A' f q => hE A' (f1.tr f rfl rfl) q)  q) hw
theorem ffm_Parser_calls {rec : Nat → Int → Int → Int → cS → (Int → cS → Prop) → (cS → Prop) → Prop} (hrec : ∀ (i : Nat) (a b c : Int) (A : cS) (Q Q' : Int → cS → Prop) (E E' : cS → Prop), rec i a b c A Q E → (∀ (e : Int) (A' : cS), ySm A A' [2, 3, 4, 5, 6, 7, 8, 9, 10, 11, 12, 13, 21, 22, 23] [3, 4, 5, 10, 11] → Q e A' → Q' e A') → (∀ (A' : cS), ySm A A' [2, 3, 4, 5, 6, 7, 8, 9, 10, 11, 12, 13, 21, 22, 23] [3, 4, 5, 10, 11] → E A' → E' A') → rec i a b c A Q' E') {s0 : cS} {a0 : Int} {Q Q' : Int → cS → Prop} {E E' : cS → Prop} (hw : wc_Parser_calls rec s0 a0 Q E) (hq : ∀ (e : Int) (A' : cS), ySm s0 A' [2, 3, 4, 5, 6, 7, 8, 9, 10, 11, 12, 13, 21, 22, 23] [3, 4, 5, 10, 11] → Q e A' → Q' e A') (hE : ∀ (A' : cS), ySm s0 A' [2, 3, 4, 5, 6, 7, 8, 9, 10, 11, 12, 13, 21, 22, 23] [3, 4, 5, 10, 11] → E A' → E' A') : wc_Parser_calls rec s0 a0 Q' E' := by
  unfold wc_Parser_calls at hw ⊢
  refine ffm_Tree_place hw (fun r1 A2 f1 h8 => ?_)
  refine ffm_Tree_node h8 (fun r9 A10 f2 h16 => ?_)
  refine ffm_Tree_place h16 (fun r17 A18 f3 h24 => ?_)
  refine ffm_Tree_node h24 (fun r25 A26 f4 h32 => ?_)
  refine ffm_Tree_hang h32 (fun A34 f5 h40 => ?_)
  refine ffm_Tree_hang h40 (fun A42 f6 h48 => ?_)
  obtain ⟨m49, h50⟩ := h48
  exact ⟨m49, ffl_Parser_calls_590 hrec m49 _ _ _ (fun e A' f q => hq e A' (((((((ySm.rf.tr f1 rfl rfl).tr f2 rfl rfl).tr f3 rfl rfl).tr f4 rfl rfl).tr f5 rfl rfl).tr f6 rfl rfl).tr f rfl rfl) q) (fun A' f q => hE A' (((((((ySm.rf.tr f1 rfl rfl).tr f2 rfl rfl).tr f3 rfl rfl).tr f4 rfl rfl).tr f5 rfl rfl).tr f6 rfl rfl).tr f rfl rfl) q)  h50⟩
theorem wcG_P_0 (m : Nat) (a b c : Int) (A : cS) (Q : Int → cS → Prop) (E : cS → Prop) : wcG_P (m + 1) 0 a b c A Q E = wc_Parser_declaration (wcG_P m) A a Q E := rfl
theorem wcG_P_1 (m : Nat) (a b c : Int) (A : cS) (Q : Int → cS → Prop) (E : cS → Prop) : wcG_P (m + 1) 1 a b c A Q E = wc_Parser_definitions (wcG_P m) A a Q E := rfl
theorem wcG_P_2 (m : Nat) (a b c : Int) (A : cS) (Q : Int → cS → Prop) (E : cS → Prop) : wcG_P (m + 1) 2 a b c A Q E = wc_Parser_routine (wcG_P m) A a Q E := rfl
theorem wcG_P_3 (m : Nat) (a b c : Int) (A : cS) (Q : Int → cS → Prop) (E : cS → Prop) : wcG_P (m + 1) 3 a b c A Q E = wc_Parser_variables (wcG_P m) A a (fun A' => Q 0 A') E := rfl
theorem wcG_P_4 (m : Nat) (a b c : Int) (A : cS) (Q : Int → cS → Prop) (E : cS → Prop) : wcG_P (m + 1) 4 a b c A Q E = wc_Parser_section (wcG_P m) A a Q E := rfl
theorem wcG_P_5 (m : Nat) (a b c : Int) (A : cS) (Q : Int → cS → Prop) (E : cS → Prop) : wcG_P (m + 1) 5 a b c A Q E = wc_Parser_cases (wcG_P m) A a (fun A' => Q 0 A') E := rfl
theorem wcG_P_6 (m : Nat) (a b c : Int) (A : cS) (Q : Int → cS → Prop) (E : cS → Prop) : wcG_P (m + 1) 6 a b c A Q E = wc_Parser_command (wcG_P m) A  Q E := rfl
theorem wcG_P_7 (m : Nat) (a b c : Int) (A : cS) (Q : Int → cS → Prop) (E : cS → Prop) : wcG_P (m + 1) 7 a b c A Q E = wc_Parser_repeats (wcG_P m) A a Q E := rfl
theorem wcG_P_8 (m : Nat) (a b c : Int) (A : cS) (Q : Int → cS → Prop) (E : cS → Prop) : wcG_P (m + 1) 8 a b c A Q E = wc_Parser_conditional (wcG_P m) A  Q E := rfl
theorem wcG_P_9 (m : Nat) (a b c : Int) (A : cS) (Q : Int → cS → Prop) (E : cS → Prop) : wcG_P (m + 1) 9 a b c A Q E = wc_Parser_counting (wcG_P m) A  Q E := rfl
theorem wcG_P_10 (m : Nat) (a b c : Int) (A : cS) (Q : Int → cS → Prop) (E : cS → Prop) : wcG_P (m + 1) 10 a b c A Q E = wc_Parser_switching (wcG_P m) A  Q E := rfl
theorem wcG_P_11 (m : Nat) (a b c : Int) (A : cS) (Q : Int → cS → Prop) (E : cS → Prop) : wcG_P (m + 1) 11 a b c A Q E = wc_Parser_assignment (wcG_P m) A  Q E := rfl
theorem wcG_P_12 (m : Nat) (a b c : Int) (A : cS) (Q : Int → cS → Prop) (E : cS → Prop) : wcG_P (m + 1) 12 a b c A Q E = wc_Parser_expression (wcG_P m) A  Q E := rfl
theorem wcG_P_13 (m : Nat) (a b c : Int) (A : cS) (Q : Int → cS → Prop) (E : cS → Prop) : wcG_P (m + 1) 13 a b c A Q E = wc_Parser_operand (wcG_P m) A a (fun A' => Q 0 A') E := rfl
theorem wcG_P_14 (m : Nat) (a b c : Int) (A : cS) (Q : Int → cS → Prop) (E : cS → Prop) : wcG_P (m + 1) 14 a b c A Q E = wc_Parser_primary (wcG_P m) A  Q E := rfl
theorem wcG_P_15 (m : Nat) (a b c : Int) (A : cS) (Q : Int → cS → Prop) (E : cS → Prop) : wcG_P (m + 1) 15 a b c A Q E = wc_Parser_table (wcG_P m) A  Q E := rfl
theorem wcG_P_16 (m : Nat) (a b c : Int) (A : cS) (Q : Int → cS → Prop) (E : cS → Prop) : wcG_P (m + 1) 16 a b c A Q E = wc_Parser_calls (wcG_P m) A a Q E := rfl
theorem ffG_P : ∀ (m : Nat) (i : Nat) (a b c : Int) (A : cS) (Q Q' : Int → cS → Prop) (E E' : cS → Prop), wcG_P m i a b c A Q E → (∀ (e : Int) (A' : cS), ySm A A' [2, 3, 4, 5, 6, 7, 8, 9, 10, 11, 12, 13, 21, 22, 23] [3, 4, 5, 10, 11] → Q e A' → Q' e A') → (∀ (A' : cS), ySm A A' [2, 3, 4, 5, 6, 7, 8, 9, 10, 11, 12, 13, 21, 22, 23] [3, 4, 5, 10, 11] → E A' → E' A') → wcG_P m i a b c A Q' E' := by
  intro m
  induction m with
  | zero => intro i a b c A Q Q' E E' hw hq hE; exact hw
  | succ m ih =>
    intro i a b c A Q Q' E E' hw hq hE
    match i with
    | 0 => exact Eq.mpr (wcG_P_0 _ _ _ _ _ _ _) (ffm_Parser_declaration ih (Eq.mp (wcG_P_0 _ _ _ _ _ _ _) hw) (fun e A' f q => hq _ A' f q) hE)
    | 1 => exact Eq.mpr (wcG_P_1 _ _ _ _ _ _ _) (ffm_Parser_definitions ih (Eq.mp (wcG_P_1 _ _ _ _ _ _ _) hw) (fun e A' f q => hq _ A' f q) hE)
    | 2 => exact Eq.mpr (wcG_P_2 _ _ _ _ _ _ _) (ffm_Parser_routine ih (Eq.mp (wcG_P_2 _ _ _ _ _ _ _) hw) (fun e A' f q => hq _ A' f q) hE)
    | 3 => exact Eq.mpr (wcG_P_3 _ _ _ _ _ _ _) (ffm_Parser_variables ih (Eq.mp (wcG_P_3 _ _ _ _ _ _ _) hw) (fun A' f q => hq _ A' f q) hE)
    | 4 => exact Eq.mpr (wcG_P_4 _ _ _ _ _ _ _) (ffm_Parser_section ih (Eq.mp (wcG_P_4 _ _ _ _ _ _ _) hw) (fun e A' f q => hq _ A' f q) hE)
    | 5 => exact Eq.mpr (wcG_P_5 _ _ _ _ _ _ _) (ffm_Parser_cases ih (Eq.mp (wcG_P_5 _ _ _ _ _ _ _) hw) (fun A' f q => hq _ A' f q) hE)
    | 6 => exact Eq.mpr (wcG_P_6 _ _ _ _ _ _ _) (ffm_Parser_command ih (Eq.mp (wcG_P_6 _ _ _ _ _ _ _) hw) (fun e A' f q => hq _ A' f q) hE)
    | 7 => exact Eq.mpr (wcG_P_7 _ _ _ _ _ _ _) (ffm_Parser_repeats ih (Eq.mp (wcG_P_7 _ _ _ _ _ _ _) hw) (fun e A' f q => hq _ A' f q) hE)
    | 8 => exact Eq.mpr (wcG_P_8 _ _ _ _ _ _ _) (ffm_Parser_conditional ih (Eq.mp (wcG_P_8 _ _ _ _ _ _ _) hw) (fun e A' f q => hq _ A' f q) hE)
    | 9 => exact Eq.mpr (wcG_P_9 _ _ _ _ _ _ _) (ffm_Parser_counting ih (Eq.mp (wcG_P_9 _ _ _ _ _ _ _) hw) (fun e A' f q => hq _ A' f q) hE)
    | 10 => exact Eq.mpr (wcG_P_10 _ _ _ _ _ _ _) (ffm_Parser_switching ih (Eq.mp (wcG_P_10 _ _ _ _ _ _ _) hw) (fun e A' f q => hq _ A' f q) hE)
    | 11 => exact Eq.mpr (wcG_P_11 _ _ _ _ _ _ _) (ffm_Parser_assignment ih (Eq.mp (wcG_P_11 _ _ _ _ _ _ _) hw) (fun e A' f q => hq _ A' f q) hE)
    | 12 => exact Eq.mpr (wcG_P_12 _ _ _ _ _ _ _) (ffm_Parser_expression ih (Eq.mp (wcG_P_12 _ _ _ _ _ _ _) hw) (fun e A' f q => hq _ A' f q) hE)
    | 13 => exact Eq.mpr (wcG_P_13 _ _ _ _ _ _ _) (ffm_Parser_operand ih (Eq.mp (wcG_P_13 _ _ _ _ _ _ _) hw) (fun A' f q => hq _ A' f q) hE)
    | 14 => exact Eq.mpr (wcG_P_14 _ _ _ _ _ _ _) (ffm_Parser_primary ih (Eq.mp (wcG_P_14 _ _ _ _ _ _ _) hw) (fun e A' f q => hq _ A' f q) hE)
    | 15 => exact Eq.mpr (wcG_P_15 _ _ _ _ _ _ _) (ffm_Parser_table ih (Eq.mp (wcG_P_15 _ _ _ _ _ _ _) hw) (fun e A' f q => hq _ A' f q) hE)
    | 16 => exact Eq.mpr (wcG_P_16 _ _ _ _ _ _ _) (ffm_Parser_calls ih (Eq.mp (wcG_P_16 _ _ _ _ _ _ _) hw) (fun e A' f q => hq _ A' f q) hE)
      | n + 17 => exact absurd hw (by unfold wcG_P; exact id)
theorem ffb_Parser_text_17 {Q Q' : Int → cS → Prop} {E E' : cS → Prop} {k17 k17' : cS → Int → Int → Prop} {s0 : cS} {x1 : Int} {x2 : Int} (hq : ∀ (e : Int) (A' : cS), ySm s0 A' [2, 3, 4, 5, 6, 7, 8, 9, 10, 11, 12, 13, 21, 22, 23] [3, 4, 5, 10, 11] → Q e A' → Q' e A') (hE : ∀ (A' : cS), ySm s0 A' [2, 3, 4, 5, 6, 7, 8, 9, 10, 11, 12, 13, 21, 22, 23] [3, 4, 5, 10, 11] → E A' → E' A') (fk17 : ∀ (A' : cS) (x0 : Int) (x1 : Int), ySm s0 A' [2, 3, 4, 5, 6, 7, 8, 9, 10, 11, 12, 13, 21, 22, 23] [3, 4, 5, 10, 11] → k17 A' x0 x1 → k17' A' x0 x1) (hw : wc_Parser_text_17B Q E k17 s0 x1 x2) : wc_Parser_text_17B Q' E' k17' s0 x1 x2 := by
  unfold wc_Parser_text_17B at hw ⊢
  refine ⟨fun c1 => ?_, fun c1 => ?_⟩
  · have h2 := hw.1 c1
    exact hq _ _ ySm.rf h2
  · have h3 := hw.2 c1
    obtain ⟨m4, hm5, h6⟩ := h3
    refine ⟨m4, hm5, ?_⟩
    refine ffG_P m4 _ _ _ _ _ _ _ _ _ h6 (fun r7 A8 f1 h14 => ?_) (fun Ae fe qe => hE Ae (ySm.rf.tr fe rfl rfl) qe)
    refine ffm_Tree_hang h14 (fun A16 f2 h22 => ?_)
    refine ffm_Parser_kind h22 (fun r23 A24 f3 h30 => ?_)
    refine ⟨fun c31 => ?_, fun c31 => ?_⟩
    · have h32 := h30.1 c31
      refine ffm_Parser_due h32 (fun A34 f4 h40 => ?_) (fun Ae fe qe => hE Ae ((((ySm.rf.tr f1 rfl rfl).tr f2 rfl rfl).tr f3 rfl rfl).tr fe rfl rfl) qe)
      refine ffm_Parser_kind h40 (fun r41 A42 f5 h48 => ?_)
      refine ⟨fun c49 => ?_, fun c49 => ?_⟩
      · have h50 := h48.1 c49
        obtain ⟨o51, h52⟩ := h50
        refine ⟨o51, ?_⟩
        exact fk17 _ _ _ (((((ySm.rf.tr f1 rfl rfl).tr f2 rfl rfl).tr f3 rfl rfl).tr f4 rfl rfl).tr f5 rfl rfl) h52
      · have h53 := h48.2 c49
        exact hq _ _ (((((ySm.rf.tr f1 rfl rfl).tr f2 rfl rfl).tr f3 rfl rfl).tr f4 rfl rfl).tr f5 rfl rfl) h53
    · have h54 := h30.2 c31
      exact hq _ _ (((ySm.rf.tr f1 rfl rfl).tr f2 rfl rfl).tr f3 rfl rfl) h54
theorem ffl_Parser_text_170 {Q Q' : Int → cS → Prop} {E E' : cS → Prop}  : ∀ (m : Nat) (s0 : cS) (x1 : Int) (x2 : Int), (∀ (e : Int) (A' : cS), ySm s0 A' [2, 3, 4, 5, 6, 7, 8, 9, 10, 11, 12, 13, 21, 22, 23] [3, 4, 5, 10, 11] → Q e A' → Q' e A') → (∀ (A' : cS), ySm s0 A' [2, 3, 4, 5, 6, 7, 8, 9, 10, 11, 12, 13, 21, 22, 23] [3, 4, 5, 10, 11] → E A' → E' A') → wc_Parser_text_17 Q E  m s0 x1 x2 → wc_Parser_text_17 Q' E'  m s0 x1 x2 := by
  intro m
  induction m with
  | zero => intro s0 x1 x2 hq hE  hw; exact hw
  | succ m ih => intro s0 x1 x2 hq hE  hw; exact ffb_Parser_text_17 hq hE  (fun A' y0 y1 f1 q => ih A' y0 y1 (fun e A' f q => hq e A' (f1.tr f rfl rfl) q) (fun A' f q => hE A' (f1.tr f rfl rfl) q)  q) hw
theorem ffm_Parser_text {s0 : cS}  {Q Q' : Int → cS → Prop} {E E' : cS → Prop} (hw : wc_Parser_text s0  Q E) (hq : ∀ (e : Int) (A' : cS), ySm s0 A' [2, 3, 4, 5, 6, 7, 8, 9, 10, 11, 12, 13, 21, 22, 23] [3, 4, 5, 10, 11] → Q e A' → Q' e A') (hE : ∀ (A' : cS), ySm s0 A' [2, 3, 4, 5, 6, 7, 8, 9, 10, 11, 12, 13, 21, 22, 23] [3, 4, 5, 10, 11] → E A' → E' A') : wc_Parser_text s0  Q' E' := by
  unfold wc_Parser_text at hw ⊢
  refine ffm_Parser_place hw (fun r1 A2 f1 h8 => ?_)
  refine ffm_Tree_node h8 (fun r9 A10 f2 h16 => ?_)
  obtain ⟨m17, h18⟩ := h16
  exact ⟨m17, ffl_Parser_text_170 m17 _ _ _ (fun e A' f q => hq e A' (((ySm.rf.tr f1 rfl rfl).tr f2 rfl rfl).tr f rfl rfl) q) (fun A' f q => hE A' (((ySm.rf.tr f1 rfl rfl).tr f2 rfl rfl).tr f rfl rfl) q)  h18⟩
