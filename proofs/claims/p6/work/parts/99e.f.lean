theorem ffG_P : ∀ (m : Nat) (i : Nat) (a b c : Int) (A : cS) (Q Q' : Int → cS → Prop) (E E' : cS → Prop), wcG_P m i a b c A Q E → (∀ (e : Int) (A' : cS), ySm A A' [2, 3, 4, 5, 6, 7, 8, 9, 10, 11, 12, 13, 21, 22, 23] [3, 4, 5, 10, 11] → Q e A' → Q' e A') → (∀ (A' : cS), ySm A A' [2, 3, 4, 5, 6, 7, 8, 9, 10, 11, 12, 13, 21, 22, 23] [3, 4, 5, 10, 11] → E A' → E' A') → wcG_P m i a b c A Q' E' := by
  intro m
  induction m with
  | zero => intro i a b c A Q Q' E E' hw hq hE; exact hw
  | succ m ih =>
    intro i a b c A Q Q' E E' hw hq hE
    match i with
    | 0 => exact ffm_Parser_declaration ih hw (fun e A' f q => hq _ A' f q) hE
    | 1 => exact ffm_Parser_definitions ih hw (fun e A' f q => hq _ A' f q) hE
    | 2 => exact ffm_Parser_routine ih hw (fun e A' f q => hq _ A' f q) hE
    | 3 => exact ffm_Parser_variables ih hw (fun A' f q => hq _ A' f q) hE
    | 4 => exact ffm_Parser_section ih hw (fun e A' f q => hq _ A' f q) hE
    | 5 => exact ffm_Parser_cases ih hw (fun A' f q => hq _ A' f q) hE
    | 6 => exact ffm_Parser_command ih hw (fun e A' f q => hq _ A' f q) hE
    | 7 => exact ffm_Parser_repeats ih hw (fun e A' f q => hq _ A' f q) hE
    | 8 => exact ffm_Parser_conditional ih hw (fun e A' f q => hq _ A' f q) hE
    | 9 => exact ffm_Parser_counting ih hw (fun e A' f q => hq _ A' f q) hE
    | 10 => exact ffm_Parser_switching ih hw (fun e A' f q => hq _ A' f q) hE
    | 11 => exact ffm_Parser_assignment ih hw (fun e A' f q => hq _ A' f q) hE
    | 12 => exact ffm_Parser_expression ih hw (fun e A' f q => hq _ A' f q) hE
    | 13 => exact ffm_Parser_operand ih hw (fun A' f q => hq _ A' f q) hE
    | 14 => exact ffm_Parser_primary ih hw (fun e A' f q => hq _ A' f q) hE
    | 15 => exact ffm_Parser_table ih hw (fun e A' f q => hq _ A' f q) hE
    | 16 => exact ffm_Parser_calls ih hw (fun e A' f q => hq _ A' f q) hE
      | n + 17 => exact hw
theorem ffb_Parser_text_17 {Q Q' : Int → cS → Prop} {E E' : cS → Prop} {k17 k17' : cS → Int → Int → Prop} {s0 : cS} {x1 : Int} {x2 : Int} (hq : ∀ (e : Int) (A' : cS), ySm s0 A' [2, 3, 4, 5, 6, 7, 8, 9, 10, 11, 12, 13, 21, 22, 23] [3, 4, 5, 10, 11] → Q e A' → Q' e A') (hE : ∀ (A' : cS), ySm s0 A' [2, 3, 4, 5, 6, 7, 8, 9, 10, 11, 12, 13, 21, 22, 23] [3, 4, 5, 10, 11] → E A' → E' A') (fk17 : ∀ (A' : cS) (x0 : Int) (x1 : Int), ySm s0 A' [2, 3, 4, 5, 6, 7, 8, 9, 10, 11, 12, 13, 21, 22, 23] [3, 4, 5, 10, 11] → k17 A' x0 x1 → k17' A' x0 x1) (hw : wc_Parser_text_17B Q E k17 s0 x1 x2) : wc_Parser_text_17B Q' E' k17' s0 x1 x2 := by
  unfold wc_Parser_text_17B at hw ⊢
  refine ⟨fun c1 => ?_, fun c1 => ?_⟩
  · have h2 := hw.1 c1
    exact hq _ _ ySm.rf h2
  · have h3 := hw.2 c1
    obtain ⟨m4, hm5, h6⟩ := h3
    refine ⟨m4, hm5, ?_⟩
    refine ffG_P m4 _ _ _ _ _ _ _ _ _ h6 (fun r7 A8 f1 h14 => ?_) (fun A9 f9 q9 => hE A9 (ySm.rf.tr f9 rfl rfl) q9)
    refine ffm_Tree_hang h14 (fun A16 f2 h22 => ?_)
    refine ffm_Parser_kind h22 (fun r23 A24 f3 h30 => ?_)
    refine ⟨fun c31 => ?_, fun c31 => ?_⟩
    · have h32 := h30.1 c31
      refine ffm_Parser_due h32 (fun A34 f4 h40 => ?_) (fun A9 f9 q9 => hE A9 ((((ySm.rf.tr f1 rfl rfl).tr f2 rfl rfl).tr f3 rfl rfl).tr f9 rfl rfl) q9)
      refine ffm_Parser_kind h40 (fun r41 A42 f5 h48 => ?_)
      refine ⟨fun c49 => ?_, fun c49 => ?_⟩
      · have h50 := h48.1 c49
        obtain ⟨o51, h52⟩ := h50
        refine ⟨o51, ?_⟩
        exact fk17 _ _ _ (((((ySm.rf.tr f1 rfl rfl).tr f2 rfl rfl).tr f3 rfl rfl).tr f4 rfl rfl).tr f5 rfl rfl) h52
      · have h53 := h48.2 c49
        exact hq _ _ (((((ySm.rf.tr f1 rfl rfl).tr f2 rfl rfl).tr f3 rfl rfl).tr f4 rfl rfl).tr f5 rfl rfl) h53
    · have h54 := h30.2 c31
      exact hq _ _ (((ySm.rf.tr f1 rfl rfl).tr f2 rfl rfl).tr f3 rfl rfl) h54
theorem ffl_Parser_text_170 {Q Q' : Int → cS → Prop} {E E' : cS → Prop}  : ∀ (m : Nat) (s0 : cS) (x1 : Int) (x2 : Int), (∀ (e : Int) (A' : cS), ySm s0 A' [2, 3, 4, 5, 6, 7, 8, 9, 10, 11, 12, 13, 21, 22, 23] [3, 4, 5, 10, 11] → Q e A' → Q' e A') → (∀ (A' : cS), ySm s0 A' [2, 3, 4, 5, 6, 7, 8, 9, 10, 11, 12, 13, 21, 22, 23] [3, 4, 5, 10, 11] → E A' → E' A') → wc_Parser_text_17 Q E  m s0 x1 x2 → wc_Parser_text_17 Q' E'  m s0 x1 x2 := by
  intro m
  induction m with
  | zero => intro s0 x1 x2 hq hE  hw; exact hw
  | succ m ih => intro s0 x1 x2 hq hE  hw; exact ffb_Parser_text_17 hq hE  (fun A' y0 y1 f1 q => ih A' y0 y1 (fun e A' f q => hq e A' (f1.tr f rfl rfl) q) (fun A' f q => hE A' (f1.tr f rfl rfl) q)  q) hw
theorem ffm_Parser_text {s0 : cS}  {Q Q' : Int → cS → Prop} {E E' : cS → Prop} (hw : wc_Parser_text s0  Q E) (hq : ∀ (e : Int) (A' : cS), ySm s0 A' [2, 3, 4, 5, 6, 7, 8, 9, 10, 11, 12, 13, 21, 22, 23] [3, 4, 5, 10, 11] → Q e A' → Q' e A') (hE : ∀ (A' : cS), ySm s0 A' [2, 3, 4, 5, 6, 7, 8, 9, 10, 11, 12, 13, 21, 22, 23] [3, 4, 5, 10, 11] → E A' → E' A') : wc_Parser_text s0  Q' E' := by
  unfold wc_Parser_text at hw ⊢
  refine ffm_Parser_place hw (fun r1 A2 f1 h8 => ?_)
  refine ffm_Tree_node h8 (fun r9 A10 f2 h16 => ?_)
  obtain ⟨m17, h18⟩ := h16
  exact ⟨m17, ffl_Parser_text_170 m17 _ _ _ (fun e A' f q => hq e A' (((ySm.rf.tr f1 rfl rfl).tr f2 rfl rfl).tr f rfl rfl) q) (fun A' f q => hE A' (((ySm.rf.tr f1 rfl rfl).tr f2 rfl rfl).tr f rfl rfl) q)  h18⟩
