theorem ffj_commandOf_191 {Q Q' : zS → Prop}  {s0 : zS} {x3 : Int} (hq : ∀ (A' : zS), zSm s0 A' [30, 31, 50, 51, 52, 53, 54, 57, 64, 65, 66, 68] [12, 13, 49, 55, 63, 67, 79] → Q A' → Q' A')  (hw : wr_commandOf_191 Q  s0 x3) : wr_commandOf_191 Q'  s0 x3 := by
  unfold wr_commandOf_191 at hw ⊢
  refine ffm_task hw (fun s2 f1 h6 => ?_)
  obtain ⟨o7, h8⟩ := h6
  refine ⟨o7, ?_⟩
  obtain ⟨o9, h10⟩ := h8
  refine ⟨o9, ?_⟩
  refine ffm_task h10 (fun s12 f2 h16 => ?_)
  refine ffm_task h16 (fun s18 f3 h22 => ?_)
  refine ffm_task h22 (fun s24 f4 h28 => ?_)
  exact hq _ ((((zSm.rf.tr f1 rfl rfl).tr f2 rfl rfl).tr f3 rfl rfl).tr f4 rfl rfl) h28
theorem ffj_commandOf_275 {Q Q' : zS → Prop}  {s0 : zS} {x3 : Int} (hq : ∀ (A' : zS), zSm s0 A' [30, 31, 50, 51, 52, 53, 54, 57, 64, 65, 66, 68] [12, 13, 49, 55, 63, 67, 79] → Q A' → Q' A')  (hw : wr_commandOf_275 Q  s0 x3) : wr_commandOf_275 Q'  s0 x3 := by
  unfold wr_commandOf_275 at hw ⊢
  obtain ⟨o1, h2⟩ := hw
  refine ⟨o1, ?_⟩
  obtain ⟨o3, h4⟩ := h2
  refine ⟨o3, ?_⟩
  refine ffm_task h4 (fun s6 f1 h10 => ?_)
  refine ffm_task h10 (fun s12 f2 h16 => ?_)
  refine ffm_task h16 (fun s18 f3 h22 => ?_)
  obtain ⟨o23, h24⟩ := h22
  refine ⟨o23, ?_⟩
  exact hq _ ((((zSm.rf.tr f1 rfl rfl).tr f2 rfl rfl).tr f3 rfl rfl).pv rfl) h24
theorem ffj_commandOf_540 {Q Q' : zS → Prop}  {s0 : zS} {x1 : Int} {x2 : Int} (hq : ∀ (A' : zS), zSm s0 A' [30, 31, 50, 51, 52, 53, 54, 57, 64, 65, 66, 68] [12, 13, 49, 55, 63, 67, 79] → Q A' → Q' A')  (hw : wr_commandOf_540 Q  s0 x1 x2) : wr_commandOf_540 Q'  s0 x1 x2 := by
  unfold wr_commandOf_540 at hw ⊢
  refine ⟨fun c1 => ?_, fun c1 => ?_⟩
  · have h2 := hw.1 c1
    refine ⟨fun c3 => ?_, fun c3 => ?_⟩
    · have h4 := h2.1 c3
      exact hq _ zSm.rf h4
    · have h5 := h2.2 c3
      refine ⟨fun c6 => ?_, fun c6 => ?_⟩
      · have h7 := h5.1 c6
        exact hq _ zSm.rf h7
      · have h8 := h5.2 c6
        obtain ⟨o9, h10⟩ := h8
        refine ⟨o9, ?_⟩
        obtain ⟨o11, h12⟩ := h10
        refine ⟨o11, ?_⟩
        refine ffm_place h12 (fun r13 s14 f1 h18 => ?_)
        refine ffm_fault h18 (fun s20 f2 h24 => ?_)
        exact hq _ ((zSm.rf.tr f1 rfl rfl).tr f2 rfl rfl) h24
  · have h25 := hw.2 c1
    refine ⟨fun c26 => ?_, fun c26 => ?_⟩
    · have h27 := h25.1 c26
      obtain ⟨o28, h29⟩ := h27
      refine ⟨o28, ?_⟩
      obtain ⟨o30, h31⟩ := h29
      refine ⟨o30, ?_⟩
      refine ffm_place h31 (fun r32 s33 f3 h37 => ?_)
      refine ffm_fault h37 (fun s39 f4 h43 => ?_)
      exact hq _ ((zSm.rf.tr f3 rfl rfl).tr f4 rfl rfl) h43
    · have h44 := h25.2 c26
      refine ⟨fun c45 => ?_, fun c45 => ?_⟩
      · have h46 := h44.1 c45
        exact hq _ zSm.rf h46
      · have h47 := h44.2 c45
        refine ⟨fun c48 => ?_, fun c48 => ?_⟩
        · have h49 := h47.1 c48
          exact hq _ zSm.rf h49
        · have h50 := h47.2 c48
          obtain ⟨o51, h52⟩ := h50
          refine ⟨o51, ?_⟩
          obtain ⟨o53, h54⟩ := h52
          refine ⟨o53, ?_⟩
          refine ffm_place h54 (fun r55 s56 f5 h60 => ?_)
          refine ffm_fault h60 (fun s62 f6 h66 => ?_)
          exact hq _ ((zSm.rf.tr f5 rfl rfl).tr f6 rfl rfl) h66
theorem ffb_commandOf_417 {Q Q' : zS → Prop} {k417 k417' : zS → Int → Int → Prop} {s0 : zS} {x4 : Int} {x5 : Int} (hq : ∀ (A' : zS), zSm s0 A' [30, 31, 50, 51, 52, 53, 54, 57, 64, 65, 66, 68] [12, 13, 49, 55, 63, 67, 79] → Q A' → Q' A') (fk417 : ∀ (A' : zS) (x0 : Int) (x1 : Int), zSm s0 A' [30, 31, 50, 51, 52, 53, 54, 57, 64, 65, 66, 68] [12, 13, 49, 55, 63, 67, 79] → k417 A' x0 x1 → k417' A' x0 x1) (hw : wr_commandOf_417B Q k417 s0 x4 x5) : wr_commandOf_417B Q' k417' s0 x4 x5 := by
  unfold wr_commandOf_417B at hw ⊢
  refine ⟨fun c1 => ?_, fun c1 => ?_⟩
  · have h2 := hw.1 c1
    refine ffm_turn h2 (fun s4 f1 h8 => ?_)
    exact hq _ (zSm.rf.tr f1 rfl rfl) h8
  · have h9 := hw.2 c1
    obtain ⟨o10, h11⟩ := h9
    refine ⟨o10, ?_⟩
    obtain ⟨o12, h13⟩ := h11
    refine ⟨o12, ?_⟩
    refine ⟨fun c14 => ?_, fun c14 => ?_⟩
    · have h15 := h13.1 c14
      refine ffm_task h15 (fun s17 f2 h21 => ?_)
      obtain ⟨o22, h23⟩ := h21
      refine ⟨o22, ?_⟩
      obtain ⟨o24, h25⟩ := h23
      refine ⟨o24, ?_⟩
      exact fk417 _ _ _ (zSm.rf.tr f2 rfl rfl) h25
    · have h26 := h13.2 c14
      refine ffm_task h26 (fun s28 f3 h32 => ?_)
      obtain ⟨o33, h34⟩ := h32
      refine ⟨o33, ?_⟩
      obtain ⟨o35, h36⟩ := h34
      refine ⟨o35, ?_⟩
      exact fk417 _ _ _ (zSm.rf.tr f3 rfl rfl) h36
theorem ffl_commandOf_4170 {Q Q' : zS → Prop}  : ∀ (m : Nat) (s0 : zS) (x4 : Int) (x5 : Int), (∀ (A' : zS), zSm s0 A' [30, 31, 50, 51, 52, 53, 54, 57, 64, 65, 66, 68] [12, 13, 49, 55, 63, 67, 79] → Q A' → Q' A') → wr_commandOf_417 Q  m s0 x4 x5 → wr_commandOf_417 Q'  m s0 x4 x5 := by
  intro m
  induction m with
  | zero => intro s0 x4 x5 hq  hw; exact hw
  | succ m ih => intro s0 x4 x5 hq  hw; exact ffb_commandOf_417 hq  (fun A' y0 y1 f1 q => ih A' y0 y1 (fun A' f q => hq A' (f1.tr f rfl rfl) q)  q) hw
theorem ffb_commandOf_32 {Q Q' : zS → Prop} {k32 k32' : zS → Int → Int → Int → Int → Prop} {s0 : zS} {x1 : Int} {x4 : Int} {x5 : Int} {x6 : Int} (hq : ∀ (A' : zS), zSm s0 A' [30, 31, 50, 51, 52, 53, 54, 57, 64, 65, 66, 68] [12, 13, 49, 55, 63, 67, 79] → Q A' → Q' A') (fk32 : ∀ (A' : zS) (x0 : Int) (x1 : Int) (x2 : Int) (x3 : Int), zSm s0 A' [30, 31, 50, 51, 52, 53, 54, 57, 64, 65, 66, 68] [12, 13, 49, 55, 63, 67, 79] → k32 A' x0 x1 x2 x3 → k32' A' x0 x1 x2 x3) (hw : wr_commandOf_32B Q k32 s0 x1 x4 x5 x6) : wr_commandOf_32B Q' k32' s0 x1 x4 x5 x6 := by
  unfold wr_commandOf_32B at hw ⊢
  refine ⟨fun c1 => ?_, fun c1 => ?_⟩
  · have h2 := hw.1 c1
    refine ffm_turn h2 (fun s4 f1 h8 => ?_)
    exact hq _ (zSm.rf.tr f1 rfl rfl) h8
  · have h9 := hw.2 c1
    obtain ⟨o10, h11⟩ := h9
    refine ⟨o10, ?_⟩
    obtain ⟨o12, h13⟩ := h11
    refine ⟨o12, ?_⟩
    refine ⟨fun c14 => ?_, fun c14 => ?_⟩
    · have h15 := h13.1 c14
      refine ffm_task h15 (fun s17 f2 h21 => ?_)
      obtain ⟨o22, h23⟩ := h21
      refine ⟨o22, ?_⟩
      obtain ⟨o24, h25⟩ := h23
      refine ⟨o24, ?_⟩
      obtain ⟨o26, h27⟩ := h25
      refine ⟨o26, ?_⟩
      exact fk32 _ _ _ _ _ (zSm.rf.tr f2 rfl rfl) h27
    · have h28 := h13.2 c14
      refine ffm_task h28 (fun s30 f3 h34 => ?_)
      obtain ⟨o35, h36⟩ := h34
      refine ⟨o35, ?_⟩
      obtain ⟨o37, h38⟩ := h36
      refine ⟨o37, ?_⟩
      obtain ⟨o39, h40⟩ := h38
      refine ⟨o39, ?_⟩
      exact fk32 _ _ _ _ _ (zSm.rf.tr f3 rfl rfl) h40
theorem ffl_commandOf_320 {Q Q' : zS → Prop}  : ∀ (m : Nat) (s0 : zS) (x1 : Int) (x4 : Int) (x5 : Int) (x6 : Int), (∀ (A' : zS), zSm s0 A' [30, 31, 50, 51, 52, 53, 54, 57, 64, 65, 66, 68] [12, 13, 49, 55, 63, 67, 79] → Q A' → Q' A') → wr_commandOf_32 Q  m s0 x1 x4 x5 x6 → wr_commandOf_32 Q'  m s0 x1 x4 x5 x6 := by
  intro m
  induction m with
  | zero => intro s0 x1 x4 x5 x6 hq  hw; exact hw
  | succ m ih => intro s0 x1 x4 x5 x6 hq  hw; exact ffb_commandOf_32 hq  (fun A' y0 y1 y2 y3 f1 q => ih A' y0 y1 y2 y3 (fun A' f q => hq A' (f1.tr f rfl rfl) q)  q) hw
theorem ffm_commandOf {s0 : zS} {a0 : Int} {Q Q' : zS → Prop} (hw : wr_commandOf s0 a0 Q) (hq : ∀ (A' : zS), zSm s0 A' [30, 31, 50, 51, 52, 53, 54, 57, 64, 65, 66, 68] [12, 13, 49, 55, 63, 67, 79] → Q A' → Q' A') : wr_commandOf s0 a0 Q' := by
  unfold wr_commandOf at hw ⊢
  obtain ⟨o1, h2⟩ := hw
  refine ⟨o1, ?_⟩
  obtain ⟨o3, h4⟩ := h2
  refine ⟨o3, ?_⟩
  obtain ⟨o5, h6⟩ := h4
  refine ⟨o5, ?_⟩
  obtain ⟨o7, h8⟩ := h6
  refine ⟨o7, ?_⟩
  refine ⟨fun c9 => ?_, fun c9 => ?_⟩
  · have h10 := h8.1 c9
    refine ⟨fun c11 => ?_, fun c11 => ?_⟩
    · have h12 := h10.1 c11
      refine ⟨fun c13 => ?_, fun c13 => ?_⟩
      · have h14 := h12.1 c13
        obtain ⟨o15, h16⟩ := h14
        refine ⟨o15, ?_⟩
        obtain ⟨o17, h18⟩ := h16
        refine ⟨o17, ?_⟩
        refine ffm_task h18 (fun s20 f1 h24 => ?_)
        refine ffm_task h24 (fun s26 f2 h30 => ?_)
        exact hq _ ((zSm.rf.tr f1 rfl rfl).tr f2 rfl rfl) h30
      · have h31 := h12.2 c13
        refine ⟨fun c32 => ?_, fun c32 => ?_⟩
        · have h33 := h31.1 c32
          refine ⟨fun c34 => ?_, fun c34 => ?_⟩
          · have h35 := h33.1 c34
            refine ⟨fun c36 => ?_, fun c36 => ?_⟩
            · have h37 := h35.1 c36
              exact ffj_commandOf_191 (fun A' f q => hq A' (zSm.rf.tr f rfl rfl) q)  h37
            · have h38 := h35.2 c36
              refine ⟨fun c39 => ?_, fun c39 => ?_⟩
              · have h40 := h38.1 c39
                refine ⟨fun c41 => ?_, fun c41 => ?_⟩
                · have h42 := h40.1 c41
                  refine ⟨fun c43 => ?_, fun c43 => ?_⟩
                  · have h44 := h42.1 c43
                    exact ffj_commandOf_275 (fun A' f q => hq A' (zSm.rf.tr f rfl rfl) q)  h44
                  · have h45 := h42.2 c43
                    refine ⟨fun c46 => ?_, fun c46 => ?_⟩
                    · have h47 := h45.1 c46
                      refine ⟨fun c48 => ?_, fun c48 => ?_⟩
                      · have h49 := h47.1 c48
                        refine ⟨fun c50 => ?_, fun c50 => ?_⟩
                        · have h51 := h49.1 c50
                          refine ⟨fun c52 => ?_, fun c52 => ?_⟩
                          · have h53 := h51.1 c52
                            refine ⟨fun c54 => ?_, fun c54 => ?_⟩
                            · have h55 := h53.1 c54
                              refine ⟨fun c56 => ?_, fun c56 => ?_⟩
                              · have h57 := h55.1 c56
                                refine ⟨fun c58 => ?_, fun c58 => ?_⟩
                                · have h59 := h57.1 c58
                                  refine ⟨fun c60 => ?_, fun c60 => ?_⟩
                                  · have h61 := h59.1 c60
                                    obtain ⟨o62, h63⟩ := h61
                                    refine ⟨o62, ?_⟩
                                    obtain ⟨o64, h65⟩ := h63
                                    refine ⟨o64, ?_⟩
                                    refine ffm_place h65 (fun r66 s67 f3 h71 => ?_)
                                    refine ffm_fault h71 (fun s73 f4 h77 => ?_)
                                    exact hq _ ((zSm.rf.tr f3 rfl rfl).tr f4 rfl rfl) h77
                                  · have h78 := h59.2 c60
                                    exact ffj_commandOf_540 (fun A' f q => hq A' (zSm.rf.tr f rfl rfl) q)  h78
                                · have h79 := h57.2 c58
                                  refine ⟨fun c80 => ?_, fun c80 => ?_⟩
                                  · have h81 := h79.1 c80
                                    exact ffj_commandOf_540 (fun A' f q => hq A' (zSm.rf.tr f rfl rfl) q)  h81
                                  · have h82 := h79.2 c80
                                    refine ⟨fun c83 => ?_, fun c83 => ?_⟩
                                    · have h84 := h82.1 c83
                                      obtain ⟨o85, h86⟩ := h84
                                      refine ⟨o85, ?_⟩
                                      obtain ⟨o87, h88⟩ := h86
                                      refine ⟨o87, ?_⟩
                                      refine ffm_place h88 (fun r89 s90 f5 h94 => ?_)
                                      refine ffm_fault h94 (fun s96 f6 h100 => ?_)
                                      exact hq _ ((zSm.rf.tr f5 rfl rfl).tr f6 rfl rfl) h100
                                    · have h101 := h82.2 c83
                                      exact ffj_commandOf_540 (fun A' f q => hq A' (zSm.rf.tr f rfl rfl) q)  h101
                              · have h102 := h55.2 c56
                                refine ffm_goesTo h102 (fun s104 f7 h108 => ?_)
                                exact hq _ (zSm.rf.tr f7 rfl rfl) h108
                            · have h109 := h53.2 c54
                              refine ⟨fun c110 => ?_, fun c110 => ?_⟩
                              · have h111 := h109.1 c110
                                refine ffm_task h111 (fun s113 f8 h117 => ?_)
                                exact hq _ (zSm.rf.tr f8 rfl rfl) h117
                              · have h118 := h109.2 c110
                                obtain ⟨o119, h120⟩ := h118
                                refine ⟨o119, ?_⟩
                                obtain ⟨o121, h122⟩ := h120
                                refine ⟨o121, ?_⟩
                                refine ffm_place h122 (fun r123 s124 f9 h128 => ?_)
                                refine ffm_fault h128 (fun s130 f10 h134 => ?_)
                                refine ffm_task h134 (fun s136 f11 h140 => ?_)
                                exact hq _ (((zSm.rf.tr f9 rfl rfl).tr f10 rfl rfl).tr f11 rfl rfl) h140
                          · have h141 := h51.2 c52
                            refine ffm_beginBlock h141 (fun s143 f12 h147 => ?_)
                            refine ffm_labelsOf h147 (fun s149 f13 h153 => ?_)
                            refine ffm_task h153 (fun s155 f14 h159 => ?_)
                            obtain ⟨m160, h161⟩ := h159
                            exact ⟨m160, ffl_commandOf_4170 m160 _ _ _ (fun A' f q => hq A' ((((zSm.rf.tr f12 rfl rfl).tr f13 rfl rfl).tr f14 rfl rfl).tr f rfl rfl) q)  h161⟩
                        · have h162 := h49.2 c50
                          refine ffm_task h162 (fun s164 f15 h168 => ?_)
                          refine ffm_task h168 (fun s170 f16 h174 => ?_)
                          exact hq _ ((zSm.rf.tr f15 rfl rfl).tr f16 rfl rfl) h174
                      · have h175 := h47.2 c48
                        refine ffm_task h175 (fun s177 f17 h181 => ?_)
                        obtain ⟨o182, h183⟩ := h181
                        refine ⟨o182, ?_⟩
                        obtain ⟨o184, h185⟩ := h183
                        refine ⟨o184, ?_⟩
                        obtain ⟨o186, h187⟩ := h185
                        refine ⟨o186, ?_⟩
                        obtain ⟨o188, h189⟩ := h187
                        refine ⟨o188, ?_⟩
                        refine ffm_task h189 (fun s191 f18 h195 => ?_)
                        obtain ⟨o196, h197⟩ := h195
                        refine ⟨o196, ?_⟩
                        obtain ⟨o198, h199⟩ := h197
                        refine ⟨o198, ?_⟩
                        refine ffm_task h199 (fun s201 f19 h205 => ?_)
                        exact hq _ (((zSm.rf.tr f17 rfl rfl).tr f18 rfl rfl).tr f19 rfl rfl) h205
                    · have h206 := h45.2 c46
                      exact ffj_commandOf_275 (fun A' f q => hq A' (zSm.rf.tr f rfl rfl) q)  h206
                · have h207 := h40.2 c41
                  refine ffm_task h207 (fun s209 f20 h213 => ?_)
                  refine ffm_task h213 (fun s215 f21 h219 => ?_)
                  obtain ⟨o220, h221⟩ := h219
                  refine ⟨o220, ?_⟩
                  exact hq _ (((zSm.rf.tr f20 rfl rfl).tr f21 rfl rfl).pv rfl) h221
              · have h224 := h38.2 c39
                exact ffj_commandOf_191 (fun A' f q => hq A' (zSm.rf.tr f rfl rfl) q)  h224
          · have h225 := h33.2 c34
            obtain ⟨o226, h227⟩ := h225
            refine ⟨o226, ?_⟩
            obtain ⟨o228, h229⟩ := h227
            refine ⟨o228, ?_⟩
            obtain ⟨o230, h231⟩ := h229
            refine ⟨o230, ?_⟩
            obtain ⟨o232, h233⟩ := h231
            refine ⟨o232, ?_⟩
            refine ffm_task h233 (fun s235 f22 h239 => ?_)
            obtain ⟨o240, h241⟩ := h239
            refine ⟨o240, ?_⟩
            obtain ⟨o242, h243⟩ := h241
            refine ⟨o242, ?_⟩
            refine ffm_task h243 (fun s245 f23 h249 => ?_)
            refine ffm_task h249 (fun s251 f24 h255 => ?_)
            exact hq _ (((zSm.rf.tr f22 rfl rfl).tr f23 rfl rfl).tr f24 rfl rfl) h255
        · have h256 := h31.2 c32
          obtain ⟨o257, h258⟩ := h256
          refine ⟨o257, ?_⟩
          obtain ⟨o259, h260⟩ := h258
          refine ⟨o259, ?_⟩
          refine ffm_task h260 (fun s262 f25 h266 => ?_)
          refine ffm_task h266 (fun s268 f26 h272 => ?_)
          exact hq _ ((zSm.rf.tr f25 rfl rfl).tr f26 rfl rfl) h272
    · have h273 := h10.2 c11
      refine ffm_task h273 (fun s275 f27 h279 => ?_)
      exact hq _ (zSm.rf.tr f27 rfl rfl) h279
  · have h280 := h8.2 c9
    obtain ⟨m281, h282⟩ := h280
    exact ⟨m281, ffl_commandOf_320 m281 _ _ _ _ _ (fun A' f q => hq A' (zSm.rf.tr f rfl rfl) q)  h282⟩
theorem ffj_named_101 {Q Q' : Int → zS → Prop}  {s0 : zS} {x1 : Int} {x2 : Int} (hq : ∀ (e : Int) (A' : zS), zSm s0 A' [30, 31] [12, 13] → Q e A' → Q' e A')  (hw : wr_named_101 Q  s0 x1 x2) : wr_named_101 Q'  s0 x1 x2 := by
  unfold wr_named_101 at hw ⊢
  obtain ⟨o1, h2⟩ := hw
  refine ⟨o1, ?_⟩
  obtain ⟨o3, h4⟩ := h2
  refine ⟨o3, ?_⟩
  refine ⟨fun c5 => ?_, fun c5 => ?_⟩
  · have h6 := h4.1 c5
    exact hq _ _ zSm.rf h6
  · have h7 := h4.2 c5
    obtain ⟨o8, h9⟩ := h7
    refine ⟨o8, ?_⟩
    obtain ⟨o10, h11⟩ := h9
    refine ⟨o10, ?_⟩
    refine ffm_place h11 (fun r12 s13 f1 h17 => ?_)
    refine ffm_fault h17 (fun s19 f2 h23 => ?_)
    exact hq _ _ ((zSm.rf.tr f1 rfl rfl).tr f2 rfl rfl) h23
theorem ffm_named {s0 : zS} {a0 : Int} {Q Q' : Int → zS → Prop} (hw : wr_named s0 a0 Q) (hq : ∀ (e : Int) (A' : zS), zSm s0 A' [30, 31] [12, 13] → Q e A' → Q' e A') : wr_named s0 a0 Q' := by
  unfold wr_named at hw ⊢
  obtain ⟨o1, h2⟩ := hw
  refine ⟨o1, ?_⟩
  obtain ⟨o3, h4⟩ := h2
  refine ⟨o3, ?_⟩
  refine ffm_means h4 (fun r5 s6 f1 h10 => ?_)
  refine ⟨fun c11 => ?_, fun c11 => ?_⟩
  · have h12 := h10.1 c11
    obtain ⟨o13, h14⟩ := h12
    refine ⟨o13, ?_⟩
    obtain ⟨o15, h16⟩ := h14
    refine ⟨o15, ?_⟩
    obtain ⟨o17, h18⟩ := h16
    refine ⟨o17, ?_⟩
    obtain ⟨o19, h20⟩ := h18
    refine ⟨o19, ?_⟩
    obtain ⟨o23, h24⟩ := h20
    refine ⟨o23, ?_⟩
    obtain ⟨o25, h26⟩ := h24
    refine ⟨o25, ?_⟩
    obtain ⟨o27, h28⟩ := h26
    refine ⟨o27, ?_⟩
    obtain ⟨o29, h30⟩ := h28
    refine ⟨o29, ?_⟩
    obtain ⟨o33, h34⟩ := h30
    refine ⟨o33, ?_⟩
    obtain ⟨o35, h36⟩ := h34
    refine ⟨o35, ?_⟩
    refine ⟨fun c37 => ?_, fun c37 => ?_⟩
    · have h38 := h36.1 c37
      exact ffj_named_101 (fun e A' f q => hq e A' ((((zSm.rf.tr f1 rfl rfl).pa rfl).pa rfl).tr f rfl rfl) q)  h38
    · have h39 := h36.2 c37
      obtain ⟨o40, h41⟩ := h39
      refine ⟨o40, ?_⟩
      obtain ⟨o42, h43⟩ := h41
      refine ⟨o42, ?_⟩
      refine ⟨fun c44 => ?_, fun c44 => ?_⟩
      · have h45 := h43.1 c44
        exact ffj_named_101 (fun e A' f q => hq e A' ((((zSm.rf.tr f1 rfl rfl).pa rfl).pa rfl).tr f rfl rfl) q)  h45
      · have h46 := h43.2 c44
        obtain ⟨o47, h48⟩ := h46
        refine ⟨o47, ?_⟩
        obtain ⟨o49, h50⟩ := h48
        refine ⟨o49, ?_⟩
        refine ffm_place h50 (fun r51 s52 f2 h56 => ?_)
        refine ffm_fault h56 (fun s58 f3 h62 => ?_)
        exact ffj_named_101 (fun e A' f q => hq e A' ((((((zSm.rf.tr f1 rfl rfl).pa rfl).pa rfl).tr f2 rfl rfl).tr f3 rfl rfl).tr f rfl rfl) q)  h62
  · have h63 := h10.2 c11
    obtain ⟨o64, h65⟩ := h63
    refine ⟨o64, ?_⟩
    obtain ⟨o66, h67⟩ := h65
    refine ⟨o66, ?_⟩
    refine ffm_place h67 (fun r68 s69 f4 h73 => ?_)
    refine ffm_fault h73 (fun s75 f5 h79 => ?_)
    obtain ⟨o80, h81⟩ := h79
    refine ⟨o80, ?_⟩
    obtain ⟨o82, h83⟩ := h81
    refine ⟨o82, ?_⟩
    exact hq _ _ ((((zSm.rf.tr f1 rfl rfl).tr f4 rfl rfl).tr f5 rfl rfl).pa rfl) h83
theorem ffb_string_41 {Q Q' : zS → Prop} {k29 k29' : zS → Int → Int → Int → Prop} {k41 k41' : zS → Int → Int → Int → Int → Int → Prop} {s0 : zS} {x2 : Int} {x3 : Int} {x4 : Int} {x5 : Int} {x6 : Int} (hq : ∀ (A' : zS), zSm s0 A' [31, 85, 86] [81, 84] → Q A' → Q' A') (fk29 : ∀ (A' : zS) (x0 : Int) (x1 : Int) (x2 : Int), zSm s0 A' [31, 85, 86] [81, 84] → k29 A' x0 x1 x2 → k29' A' x0 x1 x2) (fk41 : ∀ (A' : zS) (x0 : Int) (x1 : Int) (x2 : Int) (x3 : Int) (x4 : Int), zSm s0 A' [31, 85, 86] [81, 84] → k41 A' x0 x1 x2 x3 x4 → k41' A' x0 x1 x2 x3 x4) (hw : wr_string_41B Q k29 k41 s0 x2 x3 x4 x5 x6) : wr_string_41B Q' k29' k41' s0 x2 x3 x4 x5 x6 := by
  unfold wr_string_41B at hw ⊢
  refine ⟨fun c1 => ?_, fun c1 => ?_⟩
  · have h2 := hw.1 c1
    refine ffm_init_ h2 (fun s4 f1 h8 => ?_)
    obtain ⟨o9, h10⟩ := h8
    refine ⟨o9, ?_⟩
    obtain ⟨o13, h14⟩ := h10
    refine ⟨o13, ?_⟩
    exact fk29 _ _ _ _ ((zSm.rf.tr f1 rfl rfl).pv rfl) h14
  · have h15 := hw.2 c1
    obtain ⟨o16, h17⟩ := h15
    refine ⟨o16, ?_⟩
    refine ⟨fun c18 => ?_, fun c18 => ?_⟩
    · have h19 := h17.1 c18
      refine ⟨fun c20 => ?_, fun c20 => ?_⟩
      · have h21 := h19.1 c20
        obtain ⟨o22, h23⟩ := h21
        refine ⟨o22, ?_⟩
        exact fk41 _ _ _ _ _ _ zSm.rf h23
      · have h24 := h19.2 c20
        obtain ⟨o25, h26⟩ := h24
        refine ⟨o25, ?_⟩
        obtain ⟨o27, h28⟩ := h26
        refine ⟨o27, ?_⟩
        obtain ⟨o29, h30⟩ := h28
        refine ⟨o29, ?_⟩
        obtain ⟨o31, h32⟩ := h30
        refine ⟨o31, ?_⟩
        obtain ⟨o33, h34⟩ := h32
        refine ⟨o33, ?_⟩
        exact fk41 _ _ _ _ _ _ zSm.rf h34
    · have h35 := h17.2 c18
      obtain ⟨o36, h37⟩ := h35
      refine ⟨o36, ?_⟩
      obtain ⟨o38, h39⟩ := h37
      refine ⟨o38, ?_⟩
      obtain ⟨o40, h41⟩ := h39
      refine ⟨o40, ?_⟩
      exact fk41 _ _ _ _ _ _ zSm.rf h41
theorem ffl_string_410 {Q Q' : zS → Prop} {k29 k29' : zS → Int → Int → Int → Prop} : ∀ (m : Nat) (s0 : zS) (x2 : Int) (x3 : Int) (x4 : Int) (x5 : Int) (x6 : Int), (∀ (A' : zS), zSm s0 A' [31, 85, 86] [81, 84] → Q A' → Q' A') → (∀ (A' : zS) (x0 : Int) (x1 : Int) (x2 : Int), zSm s0 A' [31, 85, 86] [81, 84] → k29 A' x0 x1 x2 → k29' A' x0 x1 x2) → wr_string_41 Q k29 m s0 x2 x3 x4 x5 x6 → wr_string_41 Q' k29' m s0 x2 x3 x4 x5 x6 := by
  intro m
  induction m with
  | zero => intro s0 x2 x3 x4 x5 x6 hq fk29 hw; exact hw
  | succ m ih => intro s0 x2 x3 x4 x5 x6 hq fk29 hw; exact ffb_string_41 hq fk29 (fun A' y0 y1 y2 y3 y4 f1 q => ih A' y0 y1 y2 y3 y4 (fun A' f q => hq A' (f1.tr f rfl rfl) q) (fun A' z0 z1 z2 f q => fk29 A' z0 z1 z2 (f1.tr f rfl rfl) q) q) hw
theorem ffb_string_29 {Q Q' : zS → Prop} {k29 k29' : zS → Int → Int → Int → Prop} {s0 : zS} {x2 : Int} {x3 : Int} {x4 : Int} (hq : ∀ (A' : zS), zSm s0 A' [31, 85, 86] [81, 84] → Q A' → Q' A') (fk29 : ∀ (A' : zS) (x0 : Int) (x1 : Int) (x2 : Int), zSm s0 A' [31, 85, 86] [81, 84] → k29 A' x0 x1 x2 → k29' A' x0 x1 x2) (hw : wr_string_29B Q k29 s0 x2 x3 x4) : wr_string_29B Q' k29' s0 x2 x3 x4 := by
  unfold wr_string_29B at hw ⊢
  refine ⟨fun c1 => ?_, fun c1 => ?_⟩
  · have h2 := hw.1 c1
    exact hq _ zSm.rf h2
  · have h3 := hw.2 c1
    obtain ⟨m4, h5⟩ := h3
    exact ⟨m4, ffl_string_410 m4 _ _ _ _ _ _ (fun A' f q => hq A' (zSm.rf.tr f rfl rfl) q) (fun A' x0 x1 x2 f q => fk29 A' x0 x1 x2 (zSm.rf.tr f rfl rfl) q) h5⟩
theorem ffl_string_290 {Q Q' : zS → Prop}  : ∀ (m : Nat) (s0 : zS) (x2 : Int) (x3 : Int) (x4 : Int), (∀ (A' : zS), zSm s0 A' [31, 85, 86] [81, 84] → Q A' → Q' A') → wr_string_29 Q  m s0 x2 x3 x4 → wr_string_29 Q'  m s0 x2 x3 x4 := by
  intro m
  induction m with
  | zero => intro s0 x2 x3 x4 hq  hw; exact hw
  | succ m ih => intro s0 x2 x3 x4 hq  hw; exact ffb_string_29 hq  (fun A' y0 y1 y2 f1 q => ih A' y0 y1 y2 (fun A' f q => hq A' (f1.tr f rfl rfl) q)  q) hw
theorem ffm_string {s0 : zS} {a0 : Int} {Q Q' : zS → Prop} (hw : wr_string s0 a0 Q) (hq : ∀ (A' : zS), zSm s0 A' [31, 85, 86] [81, 84] → Q A' → Q' A') : wr_string s0 a0 Q' := by
  unfold wr_string at hw ⊢
  obtain ⟨o1, h2⟩ := hw
  refine ⟨o1, ?_⟩
  obtain ⟨o3, h4⟩ := h2
  refine ⟨o3, ?_⟩
  obtain ⟨o5, h6⟩ := h4
  refine ⟨o5, ?_⟩
  obtain ⟨o7, h8⟩ := h6
  refine ⟨o7, ?_⟩
  obtain ⟨o11, h12⟩ := h8
  refine ⟨o11, ?_⟩
  obtain ⟨o13, h14⟩ := h12
  refine ⟨o13, ?_⟩
  obtain ⟨o15, h16⟩ := h14
  refine ⟨o15, ?_⟩
  obtain ⟨m17, h18⟩ := h16
  exact ⟨m17, ffl_string_290 m17 _ _ _ _ (fun A' f q => hq A' ((zSm.rf.pa rfl).tr f rfl rfl) q)  h18⟩
theorem ffb_expressionOf_56 {Q Q' : zS → Prop} {k56 k56' : zS → Int → Prop} {s0 : zS} {x3 : Int} (hq : ∀ (A' : zS), zSm s0 A' [30, 31, 60, 61, 62, 64, 65, 66, 68, 85, 86] [12, 13, 58, 59, 63, 67, 77, 78, 79, 80, 81, 84] → Q A' → Q' A') (fk56 : ∀ (A' : zS) (x0 : Int), zSm s0 A' [30, 31, 60, 61, 62, 64, 65, 66, 68, 85, 86] [12, 13, 58, 59, 63, 67, 77, 78, 79, 80, 81, 84] → k56 A' x0 → k56' A' x0) (hw : wr_expressionOf_56B Q k56 s0 x3) : wr_expressionOf_56B Q' k56' s0 x3 := by
  unfold wr_expressionOf_56B at hw ⊢
  refine ⟨fun c1 => ?_, fun c1 => ?_⟩
  · have h2 := hw.1 c1
    exact hq _ zSm.rf h2
  · have h3 := hw.2 c1
    refine ffm_constant h3 (fun s5 f1 h9 => ?_)
    refine ffm_init_ h9 (fun s11 f2 h15 => ?_)
    obtain ⟨o16, h17⟩ := h15
    refine ⟨o16, ?_⟩
    obtain ⟨o20, h21⟩ := h17
    refine ⟨o20, ?_⟩
    obtain ⟨o22, h23⟩ := h21
    refine ⟨o22, ?_⟩
    exact fk56 _ _ (((zSm.rf.tr f1 rfl rfl).tr f2 rfl rfl).pv rfl) h23
theorem ffl_expressionOf_560 {Q Q' : zS → Prop}  : ∀ (m : Nat) (s0 : zS) (x3 : Int), (∀ (A' : zS), zSm s0 A' [30, 31, 60, 61, 62, 64, 65, 66, 68, 85, 86] [12, 13, 58, 59, 63, 67, 77, 78, 79, 80, 81, 84] → Q A' → Q' A') → wr_expressionOf_56 Q  m s0 x3 → wr_expressionOf_56 Q'  m s0 x3 := by
  intro m
  induction m with
  | zero => intro s0 x3 hq  hw; exact hw
  | succ m ih => intro s0 x3 hq  hw; exact ffb_expressionOf_56 hq  (fun A' y0 f1 q => ih A' y0 (fun A' f q => hq A' (f1.tr f rfl rfl) q)  q) hw
theorem ffm_expressionOf {s0 : zS} {a0 : Int} {Q Q' : zS → Prop} (hw : wr_expressionOf s0 a0 Q) (hq : ∀ (A' : zS), zSm s0 A' [30, 31, 60, 61, 62, 64, 65, 66, 68, 85, 86] [12, 13, 58, 59, 63, 67, 77, 78, 79, 80, 81, 84] → Q A' → Q' A') : wr_expressionOf s0 a0 Q' := by
  unfold wr_expressionOf at hw ⊢
  obtain ⟨o1, h2⟩ := hw
  refine ⟨o1, ?_⟩
  obtain ⟨o3, h4⟩ := h2
  refine ⟨o3, ?_⟩
  refine ⟨fun c5 => ?_, fun c5 => ?_⟩
  · have h6 := h4.1 c5
    refine ⟨fun c7 => ?_, fun c7 => ?_⟩
    · have h8 := h6.1 c7
      refine ⟨fun c9 => ?_, fun c9 => ?_⟩
      · have h10 := h8.1 c9
        refine ⟨fun c11 => ?_, fun c11 => ?_⟩
        · have h12 := h10.1 c11
          refine ⟨fun c13 => ?_, fun c13 => ?_⟩
          · have h14 := h12.1 c13
            refine ⟨fun c15 => ?_, fun c15 => ?_⟩
            · have h16 := h14.1 c15
              refine ffm_children h16 (fun s18 f1 h22 => ?_)
              exact hq _ (zSm.rf.tr f1 rfl rfl) h22
            · have h23 := h14.2 c15
              obtain ⟨o24, h25⟩ := h23
              refine ⟨o24, ?_⟩
              obtain ⟨o26, h27⟩ := h25
              refine ⟨o26, ?_⟩
              refine ffm_children h27 (fun s31 f2 h35 => ?_)
              exact hq _ ((zSm.rf.pa rfl).tr f2 rfl rfl) h35
          · have h36 := h12.2 c13
            obtain ⟨o37, h38⟩ := h36
            refine ⟨o37, ?_⟩
            obtain ⟨o39, h40⟩ := h38
            refine ⟨o39, ?_⟩
            refine ffm_task h40 (fun s42 f3 h46 => ?_)
            exact hq _ (zSm.rf.tr f3 rfl rfl) h46
        · have h47 := h10.2 c11
          refine ffm_put h47 (fun s49 f4 h53 => ?_)
          refine ffm_put h53 (fun s55 f5 h59 => ?_)
          refine ffm_put h59 (fun s61 f6 h65 => ?_)
          obtain ⟨o66, h67⟩ := h65
          refine ⟨o66, ?_⟩
          refine ffm_task h67 (fun s77 f7 h81 => ?_)
          obtain ⟨o82, h83⟩ := h81
          refine ⟨o82, ?_⟩
          obtain ⟨o84, h85⟩ := h83
          refine ⟨o84, ?_⟩
          refine ffm_task h85 (fun s87 f8 h91 => ?_)
          exact hq _ (((((((((zSm.rf.tr f4 rfl rfl).tr f5 rfl rfl).tr f6 rfl rfl).pv rfl).pv rfl).pv rfl).pv rfl).tr f7 rfl rfl).tr f8 rfl rfl) h91
      · have h92 := h8.2 c9
        obtain ⟨o93, h94⟩ := h92
        refine ⟨o93, ?_⟩
        obtain ⟨o95, h96⟩ := h94
        refine ⟨o95, ?_⟩
        obtain ⟨o99, h100⟩ := h96
        refine ⟨o99, ?_⟩
        obtain ⟨o101, h102⟩ := h100
        refine ⟨o101, ?_⟩
        obtain ⟨m103, h104⟩ := h102
        exact ⟨m103, ffl_expressionOf_560 m103 _ _ (fun A' f q => hq A' ((zSm.rf.pa rfl).tr f rfl rfl) q)  h104⟩
    · have h105 := h6.2 c7
      refine ffm_string h105 (fun s107 f9 h111 => ?_)
      exact hq _ (zSm.rf.tr f9 rfl rfl) h111
  · have h112 := h4.2 c5
    refine ffm_named h112 (fun r113 s114 f10 h118 => ?_)
    exact hq _ (zSm.rf.tr f10 rfl rfl) h118
theorem ffj_placeOf_50 {Q Q' : zS → Prop}  {s0 : zS} {x1 : Int} {x3 : Int} {y0 : Int} (hq : ∀ (A' : zS), zSm s0 A' [30, 31, 64, 65, 66] [12, 13, 63] → Q A' → Q' A')  (hw : wr_placeOf_50 Q  s0 x1 x3 y0) : wr_placeOf_50 Q'  s0 x1 x3 y0 := by
  unfold wr_placeOf_50 at hw ⊢
  refine ⟨fun c1 => ?_, fun c1 => ?_⟩
  · have h2 := hw.1 c1
    refine ⟨fun c3 => ?_, fun c3 => ?_⟩
    · have h4 := h2.1 c3
      refine ffm_task h4 (fun s6 f1 h10 => ?_)
      exact hq _ (zSm.rf.tr f1 rfl rfl) h10
    · have h11 := h2.2 c3
      obtain ⟨o12, h13⟩ := h11
      refine ⟨o12, ?_⟩
      obtain ⟨o14, h15⟩ := h13
      refine ⟨o14, ?_⟩
      refine ffm_place h15 (fun r16 s17 f2 h21 => ?_)
      refine ffm_fault h21 (fun s23 f3 h27 => ?_)
      refine ffm_task h27 (fun s29 f4 h33 => ?_)
      exact hq _ (((zSm.rf.tr f2 rfl rfl).tr f3 rfl rfl).tr f4 rfl rfl) h33
  · have h34 := hw.2 c1
    refine ffm_named h34 (fun r35 s36 f5 h40 => ?_)
    refine ⟨fun c41 => ?_, fun c41 => ?_⟩
    · have h42 := h40.1 c41
      exact hq _ (zSm.rf.tr f5 rfl rfl) h42
    · have h43 := h40.2 c41
      obtain ⟨o44, h45⟩ := h43
      refine ⟨o44, ?_⟩
      obtain ⟨o46, h47⟩ := h45
      refine ⟨o46, ?_⟩
      refine ⟨fun c48 => ?_, fun c48 => ?_⟩
      · have h49 := h47.1 c48
        obtain ⟨o50, h51⟩ := h49
        refine ⟨o50, ?_⟩
        obtain ⟨o52, h53⟩ := h51
        refine ⟨o52, ?_⟩
        refine ffm_place h53 (fun r54 s55 f6 h59 => ?_)
        refine ffm_fault h59 (fun s61 f7 h65 => ?_)
        exact hq _ (((zSm.rf.tr f5 rfl rfl).tr f6 rfl rfl).tr f7 rfl rfl) h65
      · have h66 := h47.2 c48
        obtain ⟨o67, h68⟩ := h66
        refine ⟨o67, ?_⟩
        obtain ⟨o69, h70⟩ := h68
        refine ⟨o69, ?_⟩
        refine ⟨fun c71 => ?_, fun c71 => ?_⟩
        · have h72 := h70.1 c71
          obtain ⟨o73, h74⟩ := h72
          refine ⟨o73, ?_⟩
          obtain ⟨o75, h76⟩ := h74
          refine ⟨o75, ?_⟩
          refine ffm_place h76 (fun r77 s78 f8 h82 => ?_)
          refine ffm_fault h82 (fun s84 f9 h88 => ?_)
          exact hq _ (((zSm.rf.tr f5 rfl rfl).tr f8 rfl rfl).tr f9 rfl rfl) h88
        · have h89 := h70.2 c71
          obtain ⟨o90, h91⟩ := h89
          refine ⟨o90, ?_⟩
          obtain ⟨o92, h93⟩ := h91
          refine ⟨o92, ?_⟩
          refine ⟨fun c94 => ?_, fun c94 => ?_⟩
          · have h95 := h93.1 c94
            exact hq _ (zSm.rf.tr f5 rfl rfl) h95
          · have h96 := h93.2 c94
            obtain ⟨o97, h98⟩ := h96
            refine ⟨o97, ?_⟩
            obtain ⟨o99, h100⟩ := h98
            refine ⟨o99, ?_⟩
            refine ffm_place h100 (fun r101 s102 f10 h106 => ?_)
            refine ffm_fault h106 (fun s108 f11 h112 => ?_)
            exact hq _ (((zSm.rf.tr f5 rfl rfl).tr f10 rfl rfl).tr f11 rfl rfl) h112
theorem ffm_placeOf {s0 : zS} {a0 : Int} {a1 : Int} {Q Q' : zS → Prop} (hw : wr_placeOf s0 a0 a1 Q) (hq : ∀ (A' : zS), zSm s0 A' [30, 31, 64, 65, 66] [12, 13, 63] → Q A' → Q' A') : wr_placeOf s0 a0 a1 Q' := by
  unfold wr_placeOf at hw ⊢
  obtain ⟨o1, h2⟩ := hw
  refine ⟨o1, ?_⟩
  obtain ⟨o3, h4⟩ := h2
  refine ⟨o3, ?_⟩
  refine ⟨fun c5 => ?_, fun c5 => ?_⟩
  · have h6 := h4.1 c5
    exact ffj_placeOf_50 (fun A' f q => hq A' (zSm.rf.tr f rfl rfl) q)  h6
  · have h7 := h4.2 c5
    refine ⟨fun c8 => ?_, fun c8 => ?_⟩
    · have h9 := h7.1 c8
      exact ffj_placeOf_50 (fun A' f q => hq A' (zSm.rf.tr f rfl rfl) q)  h9
    · have h10 := h7.2 c8
      obtain ⟨o11, h12⟩ := h10
      refine ⟨o11, ?_⟩
      obtain ⟨o13, h14⟩ := h12
      refine ⟨o13, ?_⟩
      refine ⟨fun c15 => ?_, fun c15 => ?_⟩
      · have h16 := h14.1 c15
        exact ffj_placeOf_50 (fun A' f q => hq A' (zSm.rf.tr f rfl rfl) q)  h16
      · have h17 := h14.2 c15
        refine ⟨fun c18 => ?_, fun c18 => ?_⟩
        · have h19 := h17.1 c18
          exact ffj_placeOf_50 (fun A' f q => hq A' (zSm.rf.tr f rfl rfl) q)  h19
        · have h20 := h17.2 c18
          obtain ⟨o21, h22⟩ := h20
          refine ⟨o21, ?_⟩
          obtain ⟨o23, h24⟩ := h22
          refine ⟨o23, ?_⟩
          refine ⟨fun c25 => ?_, fun c25 => ?_⟩
          · have h26 := h24.1 c25
            exact ffj_placeOf_50 (fun A' f q => hq A' (zSm.rf.tr f rfl rfl) q)  h26
          · have h27 := h24.2 c25
            exact ffj_placeOf_50 (fun A' f q => hq A' (zSm.rf.tr f rfl rfl) q)  h27
theorem ffj_routineOf_312 {Q Q' : zS → Prop}  {s0 : zS} {x1 : Int} {x3 : Int} {x4 : Int} {y0 : Int} (hq : ∀ (A' : zS), zSm s0 A' [29, 31, 50, 51, 52, 53, 54, 57, 64, 65, 66, 68, 71, 72, 85, 86] [12, 13, 49, 55, 63, 67, 69, 73, 74, 75, 76, 77, 79, 80, 81, 84] → Q A' → Q' A')  (hw : wr_routineOf_312 Q  s0 x1 x3 x4 y0) : wr_routineOf_312 Q'  s0 x1 x3 x4 y0 := by
  unfold wr_routineOf_312 at hw ⊢
  obtain ⟨o1, h2⟩ := hw
  refine ⟨o1, ?_⟩
  obtain ⟨o5, h6⟩ := h2
  refine ⟨o5, ?_⟩
  obtain ⟨o7, h8⟩ := h6
  refine ⟨o7, ?_⟩
  refine ffm_task h8 (fun s12 f1 h16 => ?_)
  refine ⟨fun c17 => ?_, fun c17 => ?_⟩
  · have h18 := h16.1 c17
    refine ffm_task h18 (fun s20 f2 h24 => ?_)
    exact hq _ ((((zSm.rf.pv rfl).pa rfl).tr f1 rfl rfl).tr f2 rfl rfl) h24
  · have h25 := h16.2 c17
    refine ffm_task h25 (fun s27 f3 h31 => ?_)
    exact hq _ ((((zSm.rf.pv rfl).pa rfl).tr f1 rfl rfl).tr f3 rfl rfl) h31
theorem ffb_routineOf_216 {Q Q' : zS → Prop} {k216 k216' : zS → Int → Int → Int → Prop} {s0 : zS} {x1 : Int} {x3 : Int} {x4 : Int} (hq : ∀ (A' : zS), zSm s0 A' [29, 31, 50, 51, 52, 53, 54, 57, 64, 65, 66, 68, 71, 72, 85, 86] [12, 13, 49, 55, 63, 67, 69, 73, 74, 75, 76, 77, 79, 80, 81, 84] → Q A' → Q' A') (fk216 : ∀ (A' : zS) (x0 : Int) (x1 : Int) (x2 : Int), zSm s0 A' [29, 31, 50, 51, 52, 53, 54, 57, 64, 65, 66, 68, 71, 72, 85, 86] [12, 13, 49, 55, 63, 67, 69, 73, 74, 75, 76, 77, 79, 80, 81, 84] → k216 A' x0 x1 x2 → k216' A' x0 x1 x2) (hw : wr_routineOf_216B Q k216 s0 x1 x3 x4) : wr_routineOf_216B Q' k216' s0 x1 x3 x4 := by
  unfold wr_routineOf_216B at hw ⊢
  obtain ⟨o1, h2⟩ := hw
  refine ⟨o1, ?_⟩
  obtain ⟨o3, h4⟩ := h2
  refine ⟨o3, ?_⟩
  refine ⟨fun c5 => ?_, fun c5 => ?_⟩
  · have h6 := h4.1 c5
    obtain ⟨o9, h10⟩ := h6
    refine ⟨o9, ?_⟩
    obtain ⟨o11, h12⟩ := h10
    refine ⟨o11, ?_⟩
    refine ⟨fun c13 => ?_, fun c13 => ?_⟩
    · have h14 := h12.1 c13
      exact ffj_routineOf_312 (fun A' f q => hq A' ((zSm.rf.pv rfl).tr f rfl rfl) q)  h14
    · have h15 := h12.2 c13
      exact ffj_routineOf_312 (fun A' f q => hq A' ((zSm.rf.pv rfl).tr f rfl rfl) q)  h15
  · have h16 := h4.2 c5
    obtain ⟨o17, h18⟩ := h16
    refine ⟨o17, ?_⟩
    obtain ⟨o19, h20⟩ := h18
    refine ⟨o19, ?_⟩
    obtain ⟨o21, h22⟩ := h20
    refine ⟨o21, ?_⟩
    obtain ⟨o23, h24⟩ := h22
    refine ⟨o23, ?_⟩
    refine ffm_declare h24 (fun r25 s26 f1 h30 => ?_)
    obtain ⟨o31, h32⟩ := h30
    refine ⟨o31, ?_⟩
    obtain ⟨o35, h36⟩ := h32
    refine ⟨o35, ?_⟩
    obtain ⟨o37, h38⟩ := h36
    refine ⟨o37, ?_⟩
    obtain ⟨o39, h40⟩ := h38
    refine ⟨o39, ?_⟩
    obtain ⟨o41, h42⟩ := h40
    refine ⟨o41, ?_⟩
    obtain ⟨o43, h44⟩ := h42
    refine ⟨o43, ?_⟩
    obtain ⟨o47, h48⟩ := h44
    refine ⟨o47, ?_⟩
    obtain ⟨o49, h50⟩ := h48
    refine ⟨o49, ?_⟩
    exact fk216 _ _ _ _ (((zSm.rf.tr f1 rfl rfl).pv rfl).pa rfl) h50
theorem ffl_routineOf_2160 {Q Q' : zS → Prop}  : ∀ (m : Nat) (s0 : zS) (x1 : Int) (x3 : Int) (x4 : Int), (∀ (A' : zS), zSm s0 A' [29, 31, 50, 51, 52, 53, 54, 57, 64, 65, 66, 68, 71, 72, 85, 86] [12, 13, 49, 55, 63, 67, 69, 73, 74, 75, 76, 77, 79, 80, 81, 84] → Q A' → Q' A') → wr_routineOf_216 Q  m s0 x1 x3 x4 → wr_routineOf_216 Q'  m s0 x1 x3 x4 := by
  intro m
  induction m with
  | zero => intro s0 x1 x3 x4 hq  hw; exact hw
  | succ m ih => intro s0 x1 x3 x4 hq  hw; exact ffb_routineOf_216 hq  (fun A' y0 y1 y2 f1 q => ih A' y0 y1 y2 (fun A' f q => hq A' (f1.tr f rfl rfl) q)  q) hw
theorem ffj_routineOf_125 {Q Q' : zS → Prop}  {s0 : zS} {x1 : Int} {x3 : Int} {y0 : Int} (hq : ∀ (A' : zS), zSm s0 A' [29, 31, 50, 51, 52, 53, 54, 57, 64, 65, 66, 68, 71, 72, 85, 86] [12, 13, 49, 55, 63, 67, 69, 73, 74, 75, 76, 77, 79, 80, 81, 84] → Q A' → Q' A')  (hw : wr_routineOf_125 Q  s0 x1 x3 y0) : wr_routineOf_125 Q'  s0 x1 x3 y0 := by
  unfold wr_routineOf_125 at hw ⊢
  refine ffm_put hw (fun s2 f1 h6 => ?_)
  refine ffm_put h6 (fun s8 f2 h12 => ?_)
  refine ffm_put h12 (fun s14 f3 h18 => ?_)
  refine ffm_put h18 (fun s20 f4 h24 => ?_)
  refine ffm_put h24 (fun s26 f5 h30 => ?_)
  refine ffm_put h30 (fun s32 f6 h36 => ?_)
  obtain ⟨o49, h50⟩ := h36
  refine ⟨o49, ?_⟩
  obtain ⟨o51, h52⟩ := h50
  refine ⟨o51, ?_⟩
  obtain ⟨o53, h54⟩ := h52
  refine ⟨o53, ?_⟩
  obtain ⟨o55, h56⟩ := h54
  refine ⟨o55, ?_⟩
  obtain ⟨m59, h60⟩ := h56
  exact ⟨m59, ffl_routineOf_2160 m59 _ _ _ _ (fun A' f q => hq A' ((((((((((((((zSm.rf.tr f1 rfl rfl).tr f2 rfl rfl).tr f3 rfl rfl).tr f4 rfl rfl).tr f5 rfl rfl).tr f6 rfl rfl).pv rfl).pv rfl).pv rfl).pv rfl).pv rfl).pv rfl).pa rfl).tr f rfl rfl) q)  h60⟩
theorem ffj_routineOf_73 {Q Q' : zS → Prop}  {s0 : zS} {x1 : Int} {x3 : Int} (hq : ∀ (A' : zS), zSm s0 A' [29, 31, 50, 51, 52, 53, 54, 57, 64, 65, 66, 68, 71, 72, 85, 86] [12, 13, 49, 55, 63, 67, 69, 73, 74, 75, 76, 77, 79, 80, 81, 84] → Q A' → Q' A')  (hw : wr_routineOf_73 Q  s0 x1 x3) : wr_routineOf_73 Q'  s0 x1 x3 := by
  unfold wr_routineOf_73 at hw ⊢
  obtain ⟨o1, h2⟩ := hw
  refine ⟨o1, ?_⟩
  obtain ⟨o3, h4⟩ := h2
  refine ⟨o3, ?_⟩
  obtain ⟨o5, h6⟩ := h4
  refine ⟨o5, ?_⟩
  refine ffm_init_ h6 (fun s8 f1 h12 => ?_)
  refine ffm_put h12 (fun s14 f2 h18 => ?_)
  refine ffm_put h18 (fun s20 f3 h24 => ?_)
  refine ffm_put h24 (fun s26 f4 h30 => ?_)
  refine ⟨fun c31 => ?_, fun c31 => ?_⟩
  · have h32 := h30.1 c31
    exact ffj_routineOf_125 (fun A' f q => hq A' (((((zSm.rf.tr f1 rfl rfl).tr f2 rfl rfl).tr f3 rfl rfl).tr f4 rfl rfl).tr f rfl rfl) q)  h32
  · have h33 := h30.2 c31
    exact ffj_routineOf_125 (fun A' f q => hq A' (((((zSm.rf.tr f1 rfl rfl).tr f2 rfl rfl).tr f3 rfl rfl).tr f4 rfl rfl).tr f rfl rfl) q)  h33
theorem ffm_routineOf {s0 : zS} {a0 : Int} {a1 : Int} {Q Q' : zS → Prop} (hw : wr_routineOf s0 a0 a1 Q) (hq : ∀ (A' : zS), zSm s0 A' [29, 31, 50, 51, 52, 53, 54, 57, 64, 65, 66, 68, 71, 72, 85, 86] [12, 13, 49, 55, 63, 67, 69, 73, 74, 75, 76, 77, 79, 80, 81, 84] → Q A' → Q' A') : wr_routineOf s0 a0 a1 Q' := by
  unfold wr_routineOf at hw ⊢
  obtain ⟨o1, h2⟩ := hw
  refine ⟨o1, ?_⟩
  obtain ⟨o5, h6⟩ := h2
  refine ⟨o5, ?_⟩
  obtain ⟨o7, h8⟩ := h6
  refine ⟨o7, ?_⟩
  obtain ⟨o11, h12⟩ := h8
  refine ⟨o11, ?_⟩
  obtain ⟨o13, h14⟩ := h12
  refine ⟨o13, ?_⟩
  refine ⟨fun c15 => ?_, fun c15 => ?_⟩
  · have h16 := h14.1 c15
    obtain ⟨o17, h18⟩ := h16
    refine ⟨o17, ?_⟩
    obtain ⟨o19, h20⟩ := h18
    refine ⟨o19, ?_⟩
    obtain ⟨o23, h24⟩ := h20
    refine ⟨o23, ?_⟩
    exact ffj_routineOf_73 (fun A' f q => hq A' (((((zSm.rf.pv rfl).pa rfl).pa rfl).pv rfl).tr f rfl rfl) q)  h24
  · have h27 := h14.2 c15
    obtain ⟨o28, h29⟩ := h27
    refine ⟨o28, ?_⟩
    obtain ⟨o30, h31⟩ := h29
    refine ⟨o30, ?_⟩
    obtain ⟨o32, h33⟩ := h31
    refine ⟨o32, ?_⟩
    obtain ⟨o34, h35⟩ := h33
    refine ⟨o34, ?_⟩
    obtain ⟨o36, h37⟩ := h35
    refine ⟨o36, ?_⟩
    obtain ⟨o38, h39⟩ := h37
    refine ⟨o38, ?_⟩
    exact ffj_routineOf_73 (fun A' f q => hq A' ((((zSm.rf.pv rfl).pa rfl).pa rfl).tr f rfl rfl) q)  h39
theorem ffm_routineEnds {s0 : zS} {a0 : Int} {Q Q' : zS → Prop} (hw : wr_routineEnds s0 a0 Q) (hq : ∀ (A' : zS), zSm s0 A' [70] [49, 55, 67, 73, 74, 75, 76, 77, 79, 80] → Q A' → Q' A') : wr_routineEnds s0 a0 Q' := by
  unfold wr_routineEnds at hw ⊢
  obtain ⟨o1, h2⟩ := hw
  refine ⟨o1, ?_⟩
  obtain ⟨o3, h4⟩ := h2
  refine ⟨o3, ?_⟩
  obtain ⟨o5, h6⟩ := h4
  refine ⟨o5, ?_⟩
  obtain ⟨o7, h8⟩ := h6
  refine ⟨o7, ?_⟩
  refine ffm_pull h8 (fun r11 s12 f1 h16 => ?_)
  refine ffm_pull h16 (fun r19 s20 f2 h24 => ?_)
  refine ffm_pull h24 (fun r27 s28 f3 h32 => ?_)
  refine ffm_pull h32 (fun r35 s36 f4 h40 => ?_)
  refine ffm_pull h40 (fun r43 s44 f5 h48 => ?_)
  refine ffm_pull h48 (fun r51 s52 f6 h56 => ?_)
  refine ⟨fun c57 => ?_, fun c57 => ?_⟩
  · have h58 := h56.1 c57
    refine ffm_pull h58 (fun r61 s62 f7 h66 => ?_)
    refine ffm_pull h66 (fun r69 s70 f8 h74 => ?_)
    refine ffm_pull h74 (fun r77 s78 f9 h82 => ?_)
    exact hq _ (((((((((((((((((((zSm.rf.pa rfl).tr f1 rfl rfl).pv rfl).tr f2 rfl rfl).pv rfl).tr f3 rfl rfl).pv rfl).tr f4 rfl rfl).pv rfl).tr f5 rfl rfl).pv rfl).tr f6 rfl rfl).pv rfl).tr f7 rfl rfl).pv rfl).tr f8 rfl rfl).pv rfl).tr f9 rfl rfl).pv rfl) h82
  · have h85 := h56.2 c57
    refine ffm_pull h85 (fun r88 s89 f10 h93 => ?_)
    refine ffm_pull h93 (fun r96 s97 f11 h101 => ?_)
    refine ffm_pull h101 (fun r104 s105 f12 h109 => ?_)
    exact hq _ (((((((((((((((((((zSm.rf.pa rfl).tr f1 rfl rfl).pv rfl).tr f2 rfl rfl).pv rfl).tr f3 rfl rfl).pv rfl).tr f4 rfl rfl).pv rfl).tr f5 rfl rfl).pv rfl).tr f6 rfl rfl).pv rfl).tr f10 rfl rfl).pv rfl).tr f11 rfl rfl).pv rfl).tr f12 rfl rfl).pv rfl) h109
theorem ffm_uses {s0 : zS} {a0 : Int} {Q Q' : zS → Prop} (hw : wr_uses s0 a0 Q) (hq : ∀ (A' : zS), zSm s0 A' [] [74, 75] → Q A' → Q' A') : wr_uses s0 a0 Q' := by
  unfold wr_uses at hw ⊢
  refine ⟨fun c1 => ?_, fun c1 => ?_⟩
  · have h2 := hw.1 c1
    obtain ⟨o3, h4⟩ := h2
    refine ⟨o3, ?_⟩
    refine ⟨fun c7 => ?_, fun c7 => ?_⟩
    · have h8 := h4.1 c7
      exact hq _ (zSm.rf.pv rfl) h8
    · have h9 := h4.2 c7
      exact hq _ ((zSm.rf.pv rfl).pv rfl) h9
  · have h12 := hw.2 c1
    refine ⟨fun c15 => ?_, fun c15 => ?_⟩
    · have h16 := h12.1 c15
      exact hq _ (zSm.rf.pv rfl) h16
    · have h17 := h12.2 c15
      exact hq _ ((zSm.rf.pv rfl).pv rfl) h17
theorem ffb_varsEnd_110 {Q Q' : zS → Prop} {k110 k110' : zS → Int → Prop} {s0 : zS} {x4 : Int} (hq : ∀ (A' : zS), zSm s0 A' [30, 31, 50, 51, 52, 53, 54, 57] [12, 13, 49, 74, 75] → Q A' → Q' A') (fk110 : ∀ (A' : zS) (x0 : Int), zSm s0 A' [30, 31, 50, 51, 52, 53, 54, 57] [12, 13, 49, 74, 75] → k110 A' x0 → k110' A' x0) (hw : wr_varsEnd_110B Q k110 s0 x4) : wr_varsEnd_110B Q' k110' s0 x4 := by
  unfold wr_varsEnd_110B at hw ⊢
  refine ⟨fun c1 => ?_, fun c1 => ?_⟩
  · have h2 := hw.1 c1
    exact hq _ zSm.rf h2
  · have h3 := hw.2 c1
    obtain ⟨o4, h5⟩ := h3
    refine ⟨o4, ?_⟩
    obtain ⟨o6, h7⟩ := h5
    refine ⟨o6, ?_⟩
    refine ⟨fun c8 => ?_, fun c8 => ?_⟩
    · have h9 := h7.1 c8
      obtain ⟨o10, h11⟩ := h9
      refine ⟨o10, ?_⟩
      obtain ⟨o12, h13⟩ := h11
      refine ⟨o12, ?_⟩
      obtain ⟨o16, h17⟩ := h13
      refine ⟨o16, ?_⟩
      obtain ⟨o18, h19⟩ := h17
      refine ⟨o18, ?_⟩
      obtain ⟨o20, h21⟩ := h19
      refine ⟨o20, ?_⟩
      refine ffm_uses h21 (fun s23 f1 h27 => ?_)
      obtain ⟨o28, h29⟩ := h27
      refine ⟨o28, ?_⟩
      obtain ⟨o30, h31⟩ := h29
      refine ⟨o30, ?_⟩
      exact fk110 _ _ ((zSm.rf.pa rfl).tr f1 rfl rfl) h31
    · have h32 := h7.2 c8
      obtain ⟨o33, h34⟩ := h32
      refine ⟨o33, ?_⟩
      obtain ⟨o35, h36⟩ := h34
      refine ⟨o35, ?_⟩
      exact fk110 _ _ zSm.rf h36
theorem ffl_varsEnd_1100 {Q Q' : zS → Prop}  : ∀ (m : Nat) (s0 : zS) (x4 : Int), (∀ (A' : zS), zSm s0 A' [30, 31, 50, 51, 52, 53, 54, 57] [12, 13, 49, 74, 75] → Q A' → Q' A') → wr_varsEnd_110 Q  m s0 x4 → wr_varsEnd_110 Q'  m s0 x4 := by
  intro m
  induction m with
  | zero => intro s0 x4 hq  hw; exact hw
  | succ m ih => intro s0 x4 hq  hw; exact ffb_varsEnd_110 hq  (fun A' y0 f1 q => ih A' y0 (fun A' f q => hq A' (f1.tr f rfl rfl) q)  q) hw
theorem ffb_varsEnd_25 {Q Q' : zS → Prop} {k25 k25' : zS → Int → Int → Int → Int → Prop} {s0 : zS} {x1 : Int} {x2 : Int} {x3 : Int} {x4 : Int} (hq : ∀ (A' : zS), zSm s0 A' [30, 31, 50, 51, 52, 53, 54, 57] [12, 13, 49, 74, 75] → Q A' → Q' A') (fk25 : ∀ (A' : zS) (x0 : Int) (x1 : Int) (x2 : Int) (x3 : Int), zSm s0 A' [30, 31, 50, 51, 52, 53, 54, 57] [12, 13, 49, 74, 75] → k25 A' x0 x1 x2 x3 → k25' A' x0 x1 x2 x3) (hw : wr_varsEnd_25B Q k25 s0 x1 x2 x3 x4) : wr_varsEnd_25B Q' k25' s0 x1 x2 x3 x4 := by
  unfold wr_varsEnd_25B at hw ⊢
  refine ⟨fun c1 => ?_, fun c1 => ?_⟩
  · have h2 := hw.1 c1
    refine ffm_uses h2 (fun s4 f1 h8 => ?_)
    obtain ⟨o9, h10⟩ := h8
    refine ⟨o9, ?_⟩
    obtain ⟨o11, h12⟩ := h10
    refine ⟨o11, ?_⟩
    obtain ⟨m13, h14⟩ := h12
    exact ⟨m13, ffl_varsEnd_1100 m13 _ _ (fun A' f q => hq A' ((zSm.rf.tr f1 rfl rfl).tr f rfl rfl) q)  h14⟩
  · have h15 := hw.2 c1
    obtain ⟨o16, h17⟩ := h15
    refine ⟨o16, ?_⟩
    obtain ⟨o18, h19⟩ := h17
    refine ⟨o18, ?_⟩
    refine ⟨fun c20 => ?_, fun c20 => ?_⟩
    · have h21 := h19.1 c20
      obtain ⟨o22, h23⟩ := h21
      refine ⟨o22, ?_⟩
      obtain ⟨o24, h25⟩ := h23
      refine ⟨o24, ?_⟩
      obtain ⟨o28, h29⟩ := h25
      refine ⟨o28, ?_⟩
      obtain ⟨o30, h31⟩ := h29
      refine ⟨o30, ?_⟩
      obtain ⟨o32, h33⟩ := h31
      refine ⟨o32, ?_⟩
      obtain ⟨o34, h35⟩ := h33
      refine ⟨o34, ?_⟩
      refine ffm_declare h35 (fun r36 s37 f2 h41 => ?_)
      obtain ⟨o42, h43⟩ := h41
      refine ⟨o42, ?_⟩
      obtain ⟨o44, h45⟩ := h43
      refine ⟨o44, ?_⟩
      obtain ⟨o46, h47⟩ := h45
      refine ⟨o46, ?_⟩
      obtain ⟨o48, h49⟩ := h47
      refine ⟨o48, ?_⟩
      exact fk25 _ _ _ _ _ ((zSm.rf.pa rfl).tr f2 rfl rfl) h49
    · have h50 := h19.2 c20
      obtain ⟨o51, h52⟩ := h50
      refine ⟨o51, ?_⟩
      obtain ⟨o53, h54⟩ := h52
      refine ⟨o53, ?_⟩
      exact fk25 _ _ _ _ _ zSm.rf h54
theorem ffl_varsEnd_250 {Q Q' : zS → Prop}  : ∀ (m : Nat) (s0 : zS) (x1 : Int) (x2 : Int) (x3 : Int) (x4 : Int), (∀ (A' : zS), zSm s0 A' [30, 31, 50, 51, 52, 53, 54, 57] [12, 13, 49, 74, 75] → Q A' → Q' A') → wr_varsEnd_25 Q  m s0 x1 x2 x3 x4 → wr_varsEnd_25 Q'  m s0 x1 x2 x3 x4 := by
  intro m
  induction m with
  | zero => intro s0 x1 x2 x3 x4 hq  hw; exact hw
  | succ m ih => intro s0 x1 x2 x3 x4 hq  hw; exact ffb_varsEnd_25 hq  (fun A' y0 y1 y2 y3 f1 q => ih A' y0 y1 y2 y3 (fun A' f q => hq A' (f1.tr f rfl rfl) q)  q) hw
theorem ffm_varsEnd {s0 : zS} {a0 : Int} {Q Q' : zS → Prop} (hw : wr_varsEnd s0 a0 Q) (hq : ∀ (A' : zS), zSm s0 A' [30, 31, 50, 51, 52, 53, 54, 57] [12, 13, 49, 74, 75] → Q A' → Q' A') : wr_varsEnd s0 a0 Q' := by
  unfold wr_varsEnd at hw ⊢
  obtain ⟨o1, h2⟩ := hw
  refine ⟨o1, ?_⟩
  obtain ⟨o3, h4⟩ := h2
  refine ⟨o3, ?_⟩
  obtain ⟨o7, h8⟩ := h4
  refine ⟨o7, ?_⟩
  obtain ⟨o9, h10⟩ := h8
  refine ⟨o9, ?_⟩
  obtain ⟨m11, h12⟩ := h10
  exact ⟨m11, ffl_varsEnd_250 m11 _ _ _ _ _ (fun A' f q => hq A' ((zSm.rf.pa rfl).tr f rfl rfl) q)  h12⟩
theorem ffm_blockEnds {s0 : zS} {a0 : Int} {Q Q' : zS → Prop} (hw : wr_blockEnds s0 a0 Q) (hq : ∀ (A' : zS), zSm s0 A' [] [49, 55, 67, 74, 80] → Q A' → Q' A') : wr_blockEnds s0 a0 Q' := by
  unfold wr_blockEnds at hw ⊢
  refine ffm_pull hw (fun r1 s2 f1 h6 => ?_)
  refine ffm_pull h6 (fun r9 s10 f2 h14 => ?_)
  refine ffm_pull h14 (fun r17 s18 f3 h22 => ?_)
  obtain ⟨o25, h26⟩ := h22
  refine ⟨o25, ?_⟩
  exact hq _ (((((((zSm.rf.tr f1 rfl rfl).pv rfl).tr f2 rfl rfl).pv rfl).tr f3 rfl rfl).pv rfl).pv rfl) h26
theorem ffj_forName_171 {Q Q' : zS → Prop}  {s0 : zS} {x1 : Int} {x2 : Int} {x4 : Int} (hq : ∀ (A' : zS), zSm s0 A' [29, 30, 31, 50, 51, 52, 53, 54, 57, 60, 61, 62, 64, 65, 66, 68] [12, 13, 49, 55, 58, 59, 63, 67, 74, 75, 79] → Q A' → Q' A')  (hw : wr_forName_171 Q  s0 x1 x2 x4) : wr_forName_171 Q'  s0 x1 x2 x4 := by
  unfold wr_forName_171 at hw ⊢
  obtain ⟨o1, h2⟩ := hw
  refine ⟨o1, ?_⟩
  obtain ⟨o3, h4⟩ := h2
  refine ⟨o3, ?_⟩
  refine ffm_beginBlock h4 (fun s8 f1 h12 => ?_)
  obtain ⟨o13, h14⟩ := h12
  refine ⟨o13, ?_⟩
  obtain ⟨o15, h16⟩ := h14
  refine ⟨o15, ?_⟩
  obtain ⟨o19, h20⟩ := h16
  refine ⟨o19, ?_⟩
  obtain ⟨o21, h22⟩ := h20
  refine ⟨o21, ?_⟩
  obtain ⟨o23, h24⟩ := h22
  refine ⟨o23, ?_⟩
  obtain ⟨o25, h26⟩ := h24
  refine ⟨o25, ?_⟩
  refine ffm_declare h26 (fun r27 s28 f2 h32 => ?_)
  refine ffm_uses h32 (fun s34 f3 h38 => ?_)
  obtain ⟨o39, h40⟩ := h38
  refine ⟨o39, ?_⟩
  refine ffm_task h40 (fun s44 f4 h48 => ?_)
  refine ffm_task h48 (fun s50 f5 h54 => ?_)
  refine ffm_task h54 (fun s56 f6 h60 => ?_)
  exact hq _ (((((((((zSm.rf.pa rfl).tr f1 rfl rfl).pa rfl).tr f2 rfl rfl).tr f3 rfl rfl).pv rfl).tr f4 rfl rfl).tr f5 rfl rfl).tr f6 rfl rfl) h60
theorem ffj_forName_63 {Q Q' : zS → Prop}  {s0 : zS} {x1 : Int} (hq : ∀ (A' : zS), zSm s0 A' [29, 30, 31, 50, 51, 52, 53, 54, 57, 60, 61, 62, 64, 65, 66, 68] [12, 13, 49, 55, 58, 59, 63, 67, 74, 75, 79] → Q A' → Q' A')  (hw : wr_forName_63 Q  s0 x1) : wr_forName_63 Q'  s0 x1 := by
  unfold wr_forName_63 at hw ⊢
  refine ⟨fun c1 => ?_, fun c1 => ?_⟩
  · have h2 := hw.1 c1
    obtain ⟨o3, h4⟩ := h2
    refine ⟨o3, ?_⟩
    obtain ⟨o5, h6⟩ := h4
    refine ⟨o5, ?_⟩
    exact hq _ (zSm.rf.pa rfl) h6
  · have h9 := hw.2 c1
    refine ⟨fun c10 => ?_, fun c10 => ?_⟩
    · have h11 := h9.1 c10
      obtain ⟨o12, h13⟩ := h11
      refine ⟨o12, ?_⟩
      obtain ⟨o14, h15⟩ := h13
      refine ⟨o14, ?_⟩
      exact hq _ (zSm.rf.pa rfl) h15
    · have h18 := h9.2 c10
      refine ⟨fun c19 => ?_, fun c19 => ?_⟩
      · have h20 := h18.1 c19
        obtain ⟨o21, h22⟩ := h20
        refine ⟨o21, ?_⟩
        obtain ⟨o23, h24⟩ := h22
        refine ⟨o23, ?_⟩
        exact hq _ (zSm.rf.pa rfl) h24
      · have h27 := h18.2 c19
        obtain ⟨o28, h29⟩ := h27
        refine ⟨o28, ?_⟩
        obtain ⟨o30, h31⟩ := h29
        refine ⟨o30, ?_⟩
        exact hq _ (zSm.rf.pa rfl) h31
theorem ffm_forName {s0 : zS} {a0 : Int} {Q Q' : zS → Prop} (hw : wr_forName s0 a0 Q) (hq : ∀ (A' : zS), zSm s0 A' [29, 30, 31, 50, 51, 52, 53, 54, 57, 60, 61, 62, 64, 65, 66, 68] [12, 13, 49, 55, 58, 59, 63, 67, 74, 75, 79] → Q A' → Q' A') : wr_forName s0 a0 Q' := by
  unfold wr_forName at hw ⊢
  obtain ⟨o1, h2⟩ := hw
  refine ⟨o1, ?_⟩
  obtain ⟨o3, h4⟩ := h2
  refine ⟨o3, ?_⟩
  refine ⟨fun c5 => ?_, fun c5 => ?_⟩
  · have h6 := h4.1 c5
    obtain ⟨o7, h8⟩ := h6
    refine ⟨o7, ?_⟩
    obtain ⟨o9, h10⟩ := h8
    refine ⟨o9, ?_⟩
    obtain ⟨o11, h12⟩ := h10
    refine ⟨o11, ?_⟩
    obtain ⟨o13, h14⟩ := h12
    refine ⟨o13, ?_⟩
    obtain ⟨o15, h16⟩ := h14
    refine ⟨o15, ?_⟩
    obtain ⟨o17, h18⟩ := h16
    refine ⟨o17, ?_⟩
    obtain ⟨o19, h20⟩ := h18
    refine ⟨o19, ?_⟩
    obtain ⟨o21, h22⟩ := h20
    refine ⟨o21, ?_⟩
    obtain ⟨o23, h24⟩ := h22
    refine ⟨o23, ?_⟩
    obtain ⟨o25, h26⟩ := h24
    refine ⟨o25, ?_⟩
    obtain ⟨o29, h30⟩ := h26
    refine ⟨o29, ?_⟩
    obtain ⟨o31, h32⟩ := h30
    refine ⟨o31, ?_⟩
    refine ⟨fun c33 => ?_, fun c33 => ?_⟩
    · have h34 := h32.1 c33
      exact ffj_forName_171 (fun A' f q => hq A' ((zSm.rf.pa rfl).tr f rfl rfl) q)  h34
    · have h35 := h32.2 c33
      refine ffm_constant h35 (fun s37 f1 h41 => ?_)
      obtain ⟨o42, h43⟩ := h41
      refine ⟨o42, ?_⟩
      obtain ⟨o44, h45⟩ := h43
      refine ⟨o44, ?_⟩
      obtain ⟨o48, h49⟩ := h45
      refine ⟨o48, ?_⟩
      obtain ⟨o50, h51⟩ := h49
      refine ⟨o50, ?_⟩
      exact ffj_forName_171 (fun A' f q => hq A' ((((zSm.rf.pa rfl).tr f1 rfl rfl).pa rfl).tr f rfl rfl) q)  h51
  · have h52 := h4.2 c5
    obtain ⟨o53, h54⟩ := h52
    refine ⟨o53, ?_⟩
    obtain ⟨o55, h56⟩ := h54
    refine ⟨o55, ?_⟩
    refine ffm_constant h56 (fun s58 f2 h62 => ?_)
    refine ⟨fun c63 => ?_, fun c63 => ?_⟩
    · have h64 := h62.1 c63
      exact ffj_forName_63 (fun A' f q => hq A' ((zSm.rf.tr f2 rfl rfl).tr f rfl rfl) q)  h64
    · have h65 := h62.2 c63
      refine ⟨fun c66 => ?_, fun c66 => ?_⟩
      · have h67 := h65.1 c66
        obtain ⟨o68, h69⟩ := h67
        refine ⟨o68, ?_⟩
        obtain ⟨o70, h71⟩ := h69
        refine ⟨o70, ?_⟩
        refine ffm_place h71 (fun r72 s73 f3 h77 => ?_)
        refine ffm_fault h77 (fun s79 f4 h83 => ?_)
        exact ffj_forName_63 (fun A' f q => hq A' ((((zSm.rf.tr f2 rfl rfl).tr f3 rfl rfl).tr f4 rfl rfl).tr f rfl rfl) q)  h83
      · have h84 := h65.2 c66
        refine ⟨fun c85 => ?_, fun c85 => ?_⟩
        · have h86 := h84.1 c85
          exact ffj_forName_63 (fun A' f q => hq A' ((zSm.rf.tr f2 rfl rfl).tr f rfl rfl) q)  h86
        · have h87 := h84.2 c85
          obtain ⟨o88, h89⟩ := h87
          refine ⟨o88, ?_⟩
          obtain ⟨o90, h91⟩ := h89
          refine ⟨o90, ?_⟩
          refine ffm_place h91 (fun r92 s93 f5 h97 => ?_)
          refine ffm_fault h97 (fun s99 f6 h103 => ?_)
          exact ffj_forName_63 (fun A' f q => hq A' ((((zSm.rf.tr f2 rfl rfl).tr f5 rfl rfl).tr f6 rfl rfl).tr f rfl rfl) q)  h103
theorem ffb_isTwice_24 {Q Q' : Int → zS → Prop} {k12 k12' : zS → Int → Int → Prop} {k24 k24' : zS → Int → Int → Int → Prop} {s0 : zS} {x2 : Int} {x3 : Int} {x4 : Int} (hq : ∀ (e : Int) (A' : zS), zSm s0 A' [] [] → Q e A' → Q' e A') (fk12 : ∀ (A' : zS) (x0 : Int) (x1 : Int), zSm s0 A' [] [] → k12 A' x0 x1 → k12' A' x0 x1) (fk24 : ∀ (A' : zS) (x0 : Int) (x1 : Int) (x2 : Int), zSm s0 A' [] [] → k24 A' x0 x1 x2 → k24' A' x0 x1 x2) (hw : wr_isTwice_24B Q k12 k24 s0 x2 x3 x4) : wr_isTwice_24B Q' k12' k24' s0 x2 x3 x4 := by
  unfold wr_isTwice_24B at hw ⊢
  refine ⟨fun c1 => ?_, fun c1 => ?_⟩
  · have h2 := hw.1 c1
    obtain ⟨o3, h4⟩ := h2
    refine ⟨o3, ?_⟩
    obtain ⟨o5, h6⟩ := h4
    refine ⟨o5, ?_⟩
    exact fk12 _ _ _ zSm.rf h6
  · have h7 := hw.2 c1
    refine ⟨fun c8 => ?_, fun c8 => ?_⟩
    · have h9 := h7.1 c8
      obtain ⟨o10, h11⟩ := h9
      refine ⟨o10, ?_⟩
      obtain ⟨o12, h13⟩ := h11
      refine ⟨o12, ?_⟩
      refine ⟨fun c14 => ?_, fun c14 => ?_⟩
      · have h15 := h13.1 c14
        obtain ⟨o16, h17⟩ := h15
        refine ⟨o16, ?_⟩
        obtain ⟨o18, h19⟩ := h17
        refine ⟨o18, ?_⟩
        exact fk24 _ _ _ _ zSm.rf h19
      · have h20 := h13.2 c14
        obtain ⟨o21, h22⟩ := h20
        refine ⟨o21, ?_⟩
        obtain ⟨o23, h24⟩ := h22
        refine ⟨o23, ?_⟩
        refine ⟨fun c25 => ?_, fun c25 => ?_⟩
        · have h26 := h24.1 c25
          obtain ⟨o27, h28⟩ := h26
          refine ⟨o27, ?_⟩
          obtain ⟨o29, h30⟩ := h28
          refine ⟨o29, ?_⟩
          exact fk24 _ _ _ _ zSm.rf h30
        · have h31 := h24.2 c25
          obtain ⟨o32, h33⟩ := h31
          refine ⟨o32, ?_⟩
          obtain ⟨o34, h35⟩ := h33
          refine ⟨o34, ?_⟩
          obtain ⟨o36, h37⟩ := h35
          refine ⟨o36, ?_⟩
          obtain ⟨o38, h39⟩ := h37
          refine ⟨o38, ?_⟩
          refine ⟨fun c40 => ?_, fun c40 => ?_⟩
          · have h41 := h39.1 c40
            obtain ⟨o42, h43⟩ := h41
            refine ⟨o42, ?_⟩
            obtain ⟨o44, h45⟩ := h43
            refine ⟨o44, ?_⟩
            exact fk24 _ _ _ _ zSm.rf h45
          · have h46 := h39.2 c40
            exact hq _ _ zSm.rf h46
    · have h47 := h7.2 c8
      exact hq _ _ zSm.rf h47
theorem ffl_isTwice_240 {Q Q' : Int → zS → Prop} {k12 k12' : zS → Int → Int → Prop} : ∀ (m : Nat) (s0 : zS) (x2 : Int) (x3 : Int) (x4 : Int), (∀ (e : Int) (A' : zS), zSm s0 A' [] [] → Q e A' → Q' e A') → (∀ (A' : zS) (x0 : Int) (x1 : Int), zSm s0 A' [] [] → k12 A' x0 x1 → k12' A' x0 x1) → wr_isTwice_24 Q k12 m s0 x2 x3 x4 → wr_isTwice_24 Q' k12' m s0 x2 x3 x4 := by
  intro m
  induction m with
  | zero => intro s0 x2 x3 x4 hq fk12 hw; exact hw
  | succ m ih => intro s0 x2 x3 x4 hq fk12 hw; exact ffb_isTwice_24 hq fk12 (fun A' y0 y1 y2 f1 q => ih A' y0 y1 y2 (fun e A' f q => hq e A' (f1.tr f rfl rfl) q) (fun A' z0 z1 f q => fk12 A' z0 z1 (f1.tr f rfl rfl) q) q) hw
theorem ffb_isTwice_12 {Q Q' : Int → zS → Prop} {k12 k12' : zS → Int → Int → Prop} {s0 : zS} {x2 : Int} {x3 : Int} (hq : ∀ (e : Int) (A' : zS), zSm s0 A' [] [] → Q e A' → Q' e A') (fk12 : ∀ (A' : zS) (x0 : Int) (x1 : Int), zSm s0 A' [] [] → k12 A' x0 x1 → k12' A' x0 x1) (hw : wr_isTwice_12B Q k12 s0 x2 x3) : wr_isTwice_12B Q' k12' s0 x2 x3 := by
  unfold wr_isTwice_12B at hw ⊢
  refine ⟨fun c1 => ?_, fun c1 => ?_⟩
  · have h2 := hw.1 c1
    exact hq _ _ zSm.rf h2
  · have h3 := hw.2 c1
    obtain ⟨o4, h5⟩ := h3
    refine ⟨o4, ?_⟩
    obtain ⟨o6, h7⟩ := h5
    refine ⟨o6, ?_⟩
    obtain ⟨m8, h9⟩ := h7
    exact ⟨m8, ffl_isTwice_240 m8 _ _ _ _ (fun e A' f q => hq e A' (zSm.rf.tr f rfl rfl) q) (fun A' x0 x1 f q => fk12 A' x0 x1 (zSm.rf.tr f rfl rfl) q) h9⟩
theorem ffl_isTwice_120 {Q Q' : Int → zS → Prop}  : ∀ (m : Nat) (s0 : zS) (x2 : Int) (x3 : Int), (∀ (e : Int) (A' : zS), zSm s0 A' [] [] → Q e A' → Q' e A') → wr_isTwice_12 Q  m s0 x2 x3 → wr_isTwice_12 Q'  m s0 x2 x3 := by
  intro m
  induction m with
  | zero => intro s0 x2 x3 hq  hw; exact hw
  | succ m ih => intro s0 x2 x3 hq  hw; exact ffb_isTwice_12 hq  (fun A' y0 y1 f1 q => ih A' y0 y1 (fun e A' f q => hq e A' (f1.tr f rfl rfl) q)  q) hw
theorem ffm_isTwice {s0 : zS} {a0 : Int} {a1 : Int} {Q Q' : Int → zS → Prop} (hw : wr_isTwice s0 a0 a1 Q) (hq : ∀ (e : Int) (A' : zS), zSm s0 A' [] [] → Q e A' → Q' e A') : wr_isTwice s0 a0 a1 Q' := by
  unfold wr_isTwice at hw ⊢
  obtain ⟨o1, h2⟩ := hw
  refine ⟨o1, ?_⟩
  obtain ⟨o3, h4⟩ := h2
  refine ⟨o3, ?_⟩
  obtain ⟨o5, h6⟩ := h4
  refine ⟨o5, ?_⟩
  obtain ⟨o7, h8⟩ := h6
  refine ⟨o7, ?_⟩
  obtain ⟨m9, h10⟩ := h8
  exact ⟨m9, ffl_isTwice_120 m9 _ _ _ (fun e A' f q => hq e A' (zSm.rf.tr f rfl rfl) q)  h10⟩
theorem ffj_switchOf_160 {Q Q' : zS → Prop} {k47 k47' : zS → Int → Int → Int → Int → Prop} {k61 k61' : zS → Int → Int → Int → Int → Int → Prop} {s0 : zS} {x1 : Int} {x2 : Int} {x3 : Int} {x4 : Int} {x5 : Int} {x6 : Int} {y0 : Int} {y1 : Int} (hq : ∀ (A' : zS), zSm s0 A' [29, 30, 50, 51, 52, 53, 54, 57, 60, 61, 62, 64, 65, 66, 68] [12, 13, 49, 55, 58, 59, 63, 67, 80] → Q A' → Q' A') (fk47 : ∀ (A' : zS) (x0 : Int) (x1 : Int) (x2 : Int) (x3 : Int), zSm s0 A' [29, 30, 50, 51, 52, 53, 54, 57, 60, 61, 62, 64, 65, 66, 68] [12, 13, 49, 55, 58, 59, 63, 67, 80] → k47 A' x0 x1 x2 x3 → k47' A' x0 x1 x2 x3) (fk61 : ∀ (A' : zS) (x0 : Int) (x1 : Int) (x2 : Int) (x3 : Int) (x4 : Int), zSm s0 A' [29, 30, 50, 51, 52, 53, 54, 57, 60, 61, 62, 64, 65, 66, 68] [12, 13, 49, 55, 58, 59, 63, 67, 80] → k61 A' x0 x1 x2 x3 x4 → k61' A' x0 x1 x2 x3 x4) (hw : wr_switchOf_160 Q k47 k61 s0 x1 x2 x3 x4 x5 x6 y0 y1) : wr_switchOf_160 Q' k47' k61' s0 x1 x2 x3 x4 x5 x6 y0 y1 := by
  unfold wr_switchOf_160 at hw ⊢
  obtain ⟨o1, h2⟩ := hw
  refine ⟨o1, ?_⟩
  obtain ⟨o3, h4⟩ := h2
  refine ⟨o3, ?_⟩
  refine ⟨fun c7 => ?_, fun c7 => ?_⟩
  · have h8 := h4.1 c7
    obtain ⟨o9, h10⟩ := h8
    refine ⟨o9, ?_⟩
    obtain ⟨o11, h12⟩ := h10
    refine ⟨o11, ?_⟩
    exact fk61 _ _ _ _ _ _ (zSm.rf.pa rfl) h12
  · have h13 := h4.2 c7
    refine ffm_isTwice h13 (fun r14 s15 f1 h19 => ?_)
    refine ⟨fun c20 => ?_, fun c20 => ?_⟩
    · have h21 := h19.1 c20
      obtain ⟨o22, h23⟩ := h21
      refine ⟨o22, ?_⟩
      obtain ⟨o24, h25⟩ := h23
      refine ⟨o24, ?_⟩
      exact fk61 _ _ _ _ _ _ ((zSm.rf.pa rfl).tr f1 rfl rfl) h25
    · have h26 := h19.2 c20
      obtain ⟨o27, h28⟩ := h26
      refine ⟨o27, ?_⟩
      obtain ⟨o29, h30⟩ := h28
      refine ⟨o29, ?_⟩
      refine ffm_place h30 (fun r31 s32 f2 h36 => ?_)
      refine ffm_fault h36 (fun s38 f3 h42 => ?_)
      obtain ⟨o43, h44⟩ := h42
      refine ⟨o43, ?_⟩
      obtain ⟨o45, h46⟩ := h44
      refine ⟨o45, ?_⟩
      exact fk61 _ _ _ _ _ _ ((((zSm.rf.pa rfl).tr f1 rfl rfl).tr f2 rfl rfl).tr f3 rfl rfl) h46
theorem ffj_switchOf_101 {Q Q' : zS → Prop} {k47 k47' : zS → Int → Int → Int → Int → Prop} {k61 k61' : zS → Int → Int → Int → Int → Int → Prop} {s0 : zS} {x1 : Int} {x2 : Int} {x3 : Int} {x4 : Int} {x5 : Int} (hq : ∀ (A' : zS), zSm s0 A' [29, 30, 50, 51, 52, 53, 54, 57, 60, 61, 62, 64, 65, 66, 68] [12, 13, 49, 55, 58, 59, 63, 67, 80] → Q A' → Q' A') (fk47 : ∀ (A' : zS) (x0 : Int) (x1 : Int) (x2 : Int) (x3 : Int), zSm s0 A' [29, 30, 50, 51, 52, 53, 54, 57, 60, 61, 62, 64, 65, 66, 68] [12, 13, 49, 55, 58, 59, 63, 67, 80] → k47 A' x0 x1 x2 x3 → k47' A' x0 x1 x2 x3) (fk61 : ∀ (A' : zS) (x0 : Int) (x1 : Int) (x2 : Int) (x3 : Int) (x4 : Int), zSm s0 A' [29, 30, 50, 51, 52, 53, 54, 57, 60, 61, 62, 64, 65, 66, 68] [12, 13, 49, 55, 58, 59, 63, 67, 80] → k61 A' x0 x1 x2 x3 x4 → k61' A' x0 x1 x2 x3 x4) (hw : wr_switchOf_101 Q k47 k61 s0 x1 x2 x3 x4 x5) : wr_switchOf_101 Q' k47' k61' s0 x1 x2 x3 x4 x5 := by
  unfold wr_switchOf_101 at hw ⊢
  obtain ⟨o1, h2⟩ := hw
  refine ⟨o1, ?_⟩
  obtain ⟨o3, h4⟩ := h2
  refine ⟨o3, ?_⟩
  refine ⟨fun c5 => ?_, fun c5 => ?_⟩
  · have h6 := h4.1 c5
    obtain ⟨o7, h8⟩ := h6
    refine ⟨o7, ?_⟩
    obtain ⟨o9, h10⟩ := h8
    refine ⟨o9, ?_⟩
    refine ffm_constant h10 (fun s12 f1 h16 => ?_)
    obtain ⟨o17, h18⟩ := h16
    refine ⟨o17, ?_⟩
    obtain ⟨o19, h20⟩ := h18
    refine ⟨o19, ?_⟩
    refine ⟨fun c23 => ?_, fun c23 => ?_⟩
    · have h24 := h20.1 c23
      exact ffj_switchOf_160 (fun A' f q => hq A' (((zSm.rf.tr f1 rfl rfl).pa rfl).tr f rfl rfl) q) (fun A' x0 x1 x2 x3 f q => fk47 A' x0 x1 x2 x3 (((zSm.rf.tr f1 rfl rfl).pa rfl).tr f rfl rfl) q) (fun A' x0 x1 x2 x3 x4 f q => fk61 A' x0 x1 x2 x3 x4 (((zSm.rf.tr f1 rfl rfl).pa rfl).tr f rfl rfl) q) h24
    · have h25 := h20.2 c23
      exact ffj_switchOf_160 (fun A' f q => hq A' (((zSm.rf.tr f1 rfl rfl).pa rfl).tr f rfl rfl) q) (fun A' x0 x1 x2 x3 f q => fk47 A' x0 x1 x2 x3 (((zSm.rf.tr f1 rfl rfl).pa rfl).tr f rfl rfl) q) (fun A' x0 x1 x2 x3 x4 f q => fk61 A' x0 x1 x2 x3 x4 (((zSm.rf.tr f1 rfl rfl).pa rfl).tr f rfl rfl) q) h25
  · have h26 := h4.2 c5
    obtain ⟨o27, h28⟩ := h26
    refine ⟨o27, ?_⟩
    obtain ⟨o29, h30⟩ := h28
    refine ⟨o29, ?_⟩
    exact fk61 _ _ _ _ _ _ zSm.rf h30
theorem ffb_switchOf_61 {Q Q' : zS → Prop} {k47 k47' : zS → Int → Int → Int → Int → Prop} {k61 k61' : zS → Int → Int → Int → Int → Int → Prop} {s0 : zS} {x1 : Int} {x2 : Int} {x3 : Int} {x4 : Int} {x5 : Int} (hq : ∀ (A' : zS), zSm s0 A' [29, 30, 50, 51, 52, 53, 54, 57, 60, 61, 62, 64, 65, 66, 68] [12, 13, 49, 55, 58, 59, 63, 67, 80] → Q A' → Q' A') (fk47 : ∀ (A' : zS) (x0 : Int) (x1 : Int) (x2 : Int) (x3 : Int), zSm s0 A' [29, 30, 50, 51, 52, 53, 54, 57, 60, 61, 62, 64, 65, 66, 68] [12, 13, 49, 55, 58, 59, 63, 67, 80] → k47 A' x0 x1 x2 x3 → k47' A' x0 x1 x2 x3) (fk61 : ∀ (A' : zS) (x0 : Int) (x1 : Int) (x2 : Int) (x3 : Int) (x4 : Int), zSm s0 A' [29, 30, 50, 51, 52, 53, 54, 57, 60, 61, 62, 64, 65, 66, 68] [12, 13, 49, 55, 58, 59, 63, 67, 80] → k61 A' x0 x1 x2 x3 x4 → k61' A' x0 x1 x2 x3 x4) (hw : wr_switchOf_61B Q k47 k61 s0 x1 x2 x3 x4 x5) : wr_switchOf_61B Q' k47' k61' s0 x1 x2 x3 x4 x5 := by
  unfold wr_switchOf_61B at hw ⊢
  refine ⟨fun c1 => ?_, fun c1 => ?_⟩
  · have h2 := hw.1 c1
    refine ffm_task h2 (fun s4 f1 h8 => ?_)
    obtain ⟨o9, h10⟩ := h8
    refine ⟨o9, ?_⟩
    obtain ⟨o11, h12⟩ := h10
    refine ⟨o11, ?_⟩
    exact fk47 _ _ _ _ _ (zSm.rf.tr f1 rfl rfl) h12
  · have h13 := hw.2 c1
    obtain ⟨o14, h15⟩ := h13
    refine ⟨o14, ?_⟩
    obtain ⟨o16, h17⟩ := h15
    refine ⟨o16, ?_⟩
    refine ⟨fun c18 => ?_, fun c18 => ?_⟩
    · have h19 := h17.1 c18
      exact ffj_switchOf_101 (fun A' f q => hq A' (zSm.rf.tr f rfl rfl) q) (fun A' x0 x1 x2 x3 f q => fk47 A' x0 x1 x2 x3 (zSm.rf.tr f rfl rfl) q) (fun A' x0 x1 x2 x3 x4 f q => fk61 A' x0 x1 x2 x3 x4 (zSm.rf.tr f rfl rfl) q) h19
    · have h20 := h17.2 c18
      refine ⟨fun c21 => ?_, fun c21 => ?_⟩
      · have h22 := h20.1 c21
        exact ffj_switchOf_101 (fun A' f q => hq A' (zSm.rf.tr f rfl rfl) q) (fun A' x0 x1 x2 x3 f q => fk47 A' x0 x1 x2 x3 (zSm.rf.tr f rfl rfl) q) (fun A' x0 x1 x2 x3 x4 f q => fk61 A' x0 x1 x2 x3 x4 (zSm.rf.tr f rfl rfl) q) h22
      · have h23 := h20.2 c21
        obtain ⟨o24, h25⟩ := h23
        refine ⟨o24, ?_⟩
        obtain ⟨o26, h27⟩ := h25
        refine ⟨o26, ?_⟩
        refine ffm_place h27 (fun r28 s29 f2 h33 => ?_)
        refine ffm_fault h33 (fun s35 f3 h39 => ?_)
        exact ffj_switchOf_101 (fun A' f q => hq A' (((zSm.rf.tr f2 rfl rfl).tr f3 rfl rfl).tr f rfl rfl) q) (fun A' x0 x1 x2 x3 f q => fk47 A' x0 x1 x2 x3 (((zSm.rf.tr f2 rfl rfl).tr f3 rfl rfl).tr f rfl rfl) q) (fun A' x0 x1 x2 x3 x4 f q => fk61 A' x0 x1 x2 x3 x4 (((zSm.rf.tr f2 rfl rfl).tr f3 rfl rfl).tr f rfl rfl) q) h39
theorem ffl_switchOf_610 {Q Q' : zS → Prop} {k47 k47' : zS → Int → Int → Int → Int → Prop} : ∀ (m : Nat) (s0 : zS) (x1 : Int) (x2 : Int) (x3 : Int) (x4 : Int) (x5 : Int), (∀ (A' : zS), zSm s0 A' [29, 30, 50, 51, 52, 53, 54, 57, 60, 61, 62, 64, 65, 66, 68] [12, 13, 49, 55, 58, 59, 63, 67, 80] → Q A' → Q' A') → (∀ (A' : zS) (x0 : Int) (x1 : Int) (x2 : Int) (x3 : Int), zSm s0 A' [29, 30, 50, 51, 52, 53, 54, 57, 60, 61, 62, 64, 65, 66, 68] [12, 13, 49, 55, 58, 59, 63, 67, 80] → k47 A' x0 x1 x2 x3 → k47' A' x0 x1 x2 x3) → wr_switchOf_61 Q k47 m s0 x1 x2 x3 x4 x5 → wr_switchOf_61 Q' k47' m s0 x1 x2 x3 x4 x5 := by
  intro m
  induction m with
  | zero => intro s0 x1 x2 x3 x4 x5 hq fk47 hw; exact hw
  | succ m ih => intro s0 x1 x2 x3 x4 x5 hq fk47 hw; exact ffb_switchOf_61 hq fk47 (fun A' y0 y1 y2 y3 y4 f1 q => ih A' y0 y1 y2 y3 y4 (fun A' f q => hq A' (f1.tr f rfl rfl) q) (fun A' z0 z1 z2 z3 f q => fk47 A' z0 z1 z2 z3 (f1.tr f rfl rfl) q) q) hw
theorem ffb_switchOf_47 {Q Q' : zS → Prop} {k47 k47' : zS → Int → Int → Int → Int → Prop} {s0 : zS} {x1 : Int} {x2 : Int} {x3 : Int} {x4 : Int} (hq : ∀ (A' : zS), zSm s0 A' [29, 30, 50, 51, 52, 53, 54, 57, 60, 61, 62, 64, 65, 66, 68] [12, 13, 49, 55, 58, 59, 63, 67, 80] → Q A' → Q' A') (fk47 : ∀ (A' : zS) (x0 : Int) (x1 : Int) (x2 : Int) (x3 : Int), zSm s0 A' [29, 30, 50, 51, 52, 53, 54, 57, 60, 61, 62, 64, 65, 66, 68] [12, 13, 49, 55, 58, 59, 63, 67, 80] → k47 A' x0 x1 x2 x3 → k47' A' x0 x1 x2 x3) (hw : wr_switchOf_47B Q k47 s0 x1 x2 x3 x4) : wr_switchOf_47B Q' k47' s0 x1 x2 x3 x4 := by
  unfold wr_switchOf_47B at hw ⊢
  refine ⟨fun c1 => ?_, fun c1 => ?_⟩
  · have h2 := hw.1 c1
    refine ffm_turn h2 (fun s4 f1 h8 => ?_)
    exact hq _ (zSm.rf.tr f1 rfl rfl) h8
  · have h9 := hw.2 c1
    obtain ⟨o10, h11⟩ := h9
    refine ⟨o10, ?_⟩
    obtain ⟨o12, h13⟩ := h11
    refine ⟨o12, ?_⟩
    obtain ⟨m14, h15⟩ := h13
    exact ⟨m14, ffl_switchOf_610 m14 _ _ _ _ _ _ (fun A' f q => hq A' (zSm.rf.tr f rfl rfl) q) (fun A' x0 x1 x2 x3 f q => fk47 A' x0 x1 x2 x3 (zSm.rf.tr f rfl rfl) q) h15⟩
theorem ffl_switchOf_470 {Q Q' : zS → Prop}  : ∀ (m : Nat) (s0 : zS) (x1 : Int) (x2 : Int) (x3 : Int) (x4 : Int), (∀ (A' : zS), zSm s0 A' [29, 30, 50, 51, 52, 53, 54, 57, 60, 61, 62, 64, 65, 66, 68] [12, 13, 49, 55, 58, 59, 63, 67, 80] → Q A' → Q' A') → wr_switchOf_47 Q  m s0 x1 x2 x3 x4 → wr_switchOf_47 Q'  m s0 x1 x2 x3 x4 := by
  intro m
  induction m with
  | zero => intro s0 x1 x2 x3 x4 hq  hw; exact hw
  | succ m ih => intro s0 x1 x2 x3 x4 hq  hw; exact ffb_switchOf_47 hq  (fun A' y0 y1 y2 y3 f1 q => ih A' y0 y1 y2 y3 (fun A' f q => hq A' (f1.tr f rfl rfl) q)  q) hw
theorem ffm_switchOf {s0 : zS} {a0 : Int} {Q Q' : zS → Prop} (hw : wr_switchOf s0 a0 Q) (hq : ∀ (A' : zS), zSm s0 A' [29, 30, 50, 51, 52, 53, 54, 57, 60, 61, 62, 64, 65, 66, 68] [12, 13, 49, 55, 58, 59, 63, 67, 80] → Q A' → Q' A') : wr_switchOf s0 a0 Q' := by
  unfold wr_switchOf at hw ⊢
  refine ffm_beginBlock hw (fun s2 f1 h6 => ?_)
  obtain ⟨o7, h8⟩ := h6
  refine ⟨o7, ?_⟩
  refine ffm_labelsOf h8 (fun s12 f2 h16 => ?_)
  refine ffm_task h16 (fun s18 f3 h22 => ?_)
  obtain ⟨o23, h24⟩ := h22
  refine ⟨o23, ?_⟩
  obtain ⟨o25, h26⟩ := h24
  refine ⟨o25, ?_⟩
  obtain ⟨o27, h28⟩ := h26
  refine ⟨o27, ?_⟩
  obtain ⟨o29, h30⟩ := h28
  refine ⟨o29, ?_⟩
  obtain ⟨m31, h32⟩ := h30
  exact ⟨m31, ffl_switchOf_470 m31 _ _ _ _ _ (fun A' f q => hq A' (((((zSm.rf.tr f1 rfl rfl).pv rfl).tr f2 rfl rfl).tr f3 rfl rfl).tr f rfl rfl) q)  h32⟩
theorem ffb_part_7 {Q Q' : zS → Prop} {k7 k7' : zS → Int → Prop} {s0 : zS} {x2 : Int} (hq : ∀ (A' : zS), zSm s0 A' [64, 65, 66] [63] → Q A' → Q' A') (fk7 : ∀ (A' : zS) (x0 : Int), zSm s0 A' [64, 65, 66] [63] → k7 A' x0 → k7' A' x0) (hw : wr_part_7B Q k7 s0 x2) : wr_part_7B Q' k7' s0 x2 := by
  unfold wr_part_7B at hw ⊢
  obtain ⟨o1, h2⟩ := hw
  refine ⟨o1, ?_⟩
  obtain ⟨o3, h4⟩ := h2
  refine ⟨o3, ?_⟩
  refine ⟨fun c5 => ?_, fun c5 => ?_⟩
  · have h6 := h4.1 c5
    refine ffm_task h6 (fun s8 f1 h12 => ?_)
    exact hq _ (zSm.rf.tr f1 rfl rfl) h12
  · have h13 := h4.2 c5
    obtain ⟨o14, h15⟩ := h13
    refine ⟨o14, ?_⟩
    obtain ⟨o16, h17⟩ := h15
    refine ⟨o16, ?_⟩
    exact fk7 _ _ zSm.rf h17
theorem ffl_part_70 {Q Q' : zS → Prop}  : ∀ (m : Nat) (s0 : zS) (x2 : Int), (∀ (A' : zS), zSm s0 A' [64, 65, 66] [63] → Q A' → Q' A') → wr_part_7 Q  m s0 x2 → wr_part_7 Q'  m s0 x2 := by
  intro m
  induction m with
  | zero => intro s0 x2 hq  hw; exact hw
  | succ m ih => intro s0 x2 hq  hw; exact ffb_part_7 hq  (fun A' y0 f1 q => ih A' y0 (fun A' f q => hq A' (f1.tr f rfl rfl) q)  q) hw
theorem ffm_part {s0 : zS} {a0 : Int} {Q Q' : zS → Prop} (hw : wr_part s0 a0 Q) (hq : ∀ (A' : zS), zSm s0 A' [64, 65, 66] [63] → Q A' → Q' A') : wr_part s0 a0 Q' := by
  unfold wr_part at hw ⊢
  obtain ⟨o1, h2⟩ := hw
  refine ⟨o1, ?_⟩
  obtain ⟨o3, h4⟩ := h2
  refine ⟨o3, ?_⟩
  obtain ⟨m5, h6⟩ := h4
  exact ⟨m5, ffl_part_70 m5 _ _ (fun A' f q => hq A' (zSm.rf.tr f rfl rfl) q)  h6⟩
theorem ffm_go {s0 : zS} {a0 : Int} {a1 : Int} {a2 : Int} {Q Q' : zS → Prop} (hw : wr_go s0 a0 a1 a2 Q) (hq : ∀ (A' : zS), zSm s0 A' [29, 30, 31, 50, 51, 52, 53, 54, 57, 60, 61, 62, 64, 65, 66, 68, 70, 71, 72, 85, 86] [12, 13, 49, 55, 58, 59, 63, 67, 69, 73, 74, 75, 76, 77, 78, 79, 80, 81, 82, 84] → Q A' → Q' A') : wr_go s0 a0 a1 a2 Q' := by
  unfold wr_go at hw ⊢
  refine ⟨fun c1 => ?_, fun c1 => ?_⟩
  · have h2 := hw.1 c1
    refine ⟨fun c3 => ?_, fun c3 => ?_⟩
    · have h4 := h2.1 c3
      refine ⟨fun c5 => ?_, fun c5 => ?_⟩
      · have h6 := h4.1 c5
        refine ⟨fun c7 => ?_, fun c7 => ?_⟩
        · have h8 := h6.1 c7
          refine ⟨fun c9 => ?_, fun c9 => ?_⟩
          · have h10 := h8.1 c9
            refine ffm_placeOf h10 (fun s12 f1 h16 => ?_)
            exact hq _ (zSm.rf.tr f1 rfl rfl) h16
          · have h17 := h8.2 c9
            refine ffm_placeOf h17 (fun s19 f2 h23 => ?_)
            exact hq _ (zSm.rf.tr f2 rfl rfl) h23
        · have h24 := h6.2 c7
          refine ⟨fun c25 => ?_, fun c25 => ?_⟩
          · have h26 := h24.1 c25
            refine ⟨fun c27 => ?_, fun c27 => ?_⟩
            · have h28 := h26.1 c27
              refine ⟨fun c29 => ?_, fun c29 => ?_⟩
              · have h30 := h28.1 c29
                refine ⟨fun c31 => ?_, fun c31 => ?_⟩
                · have h32 := h30.1 c31
                  refine ⟨fun c33 => ?_, fun c33 => ?_⟩
                  · have h34 := h32.1 c33
                    refine ⟨fun c35 => ?_, fun c35 => ?_⟩
                    · have h36 := h34.1 c35
                      refine ⟨fun c37 => ?_, fun c37 => ?_⟩
                      · have h38 := h36.1 c37
                        refine ⟨fun c39 => ?_, fun c39 => ?_⟩
                        · have h40 := h38.1 c39
                          refine ⟨fun c41 => ?_, fun c41 => ?_⟩
                          · have h42 := h40.1 c41
                            refine ffm_pull h42 (fun r43 s44 f3 h48 => ?_)
                            refine ffm_pull h48 (fun r51 s52 f4 h56 => ?_)
                            refine ffm_pull h56 (fun r59 s60 f5 h64 => ?_)
                            exact hq _ ((((((zSm.rf.tr f3 rfl rfl).pv rfl).tr f4 rfl rfl).pv rfl).tr f5 rfl rfl).pv rfl) h64
                          · have h67 := h40.2 c41
                            refine ffm_part h67 (fun s69 f6 h73 => ?_)
                            exact hq _ (zSm.rf.tr f6 rfl rfl) h73
                        · have h74 := h38.2 c39
                          refine ffm_switchOf h74 (fun s76 f7 h80 => ?_)
                          exact hq _ (zSm.rf.tr f7 rfl rfl) h80
                      · have h81 := h36.2 c37
                        refine ffm_forName h81 (fun s83 f8 h87 => ?_)
                        exact hq _ (zSm.rf.tr f8 rfl rfl) h87
                    · have h88 := h34.2 c35
                      obtain ⟨o89, h90⟩ := h88
                      refine ⟨o89, ?_⟩
                      exact hq _ (zSm.rf.pv rfl) h90
                  · have h93 := h32.2 c33
                    refine ffm_blockEnds h93 (fun s95 f9 h99 => ?_)
                    exact hq _ (zSm.rf.tr f9 rfl rfl) h99
                · have h100 := h30.2 c31
                  refine ffm_varsEnd h100 (fun s102 f10 h106 => ?_)
                  exact hq _ (zSm.rf.tr f10 rfl rfl) h106
              · have h107 := h28.2 c29
                refine ffm_routineEnds h107 (fun s109 f11 h113 => ?_)
                exact hq _ (zSm.rf.tr f11 rfl rfl) h113
            · have h114 := h26.2 c27
              refine ffm_routineOf h114 (fun s116 f12 h120 => ?_)
              exact hq _ (zSm.rf.tr f12 rfl rfl) h120
          · have h121 := h24.2 c25
            refine ⟨fun c122 => ?_, fun c122 => ?_⟩
            · have h123 := h121.1 c122
              refine ffm_placeOf h123 (fun s125 f13 h129 => ?_)
              exact hq _ (zSm.rf.tr f13 rfl rfl) h129
            · have h130 := h121.2 c122
              refine ffm_placeOf h130 (fun s132 f14 h136 => ?_)
              exact hq _ (zSm.rf.tr f14 rfl rfl) h136
      · have h137 := h4.2 c5
        refine ffm_expressionOf h137 (fun s139 f15 h143 => ?_)
        exact hq _ (zSm.rf.tr f15 rfl rfl) h143
    · have h144 := h2.2 c3
      refine ffm_commandOf h144 (fun s146 f16 h150 => ?_)
      exact hq _ (zSm.rf.tr f16 rfl rfl) h150
  · have h151 := hw.2 c1
    refine ffm_declaration h151 (fun s153 f17 h157 => ?_)
    exact hq _ (zSm.rf.tr f17 rfl rfl) h157
theorem ffb_check_227 {Q Q' : zS → Prop} {k227 k227' : zS → Int → Int → Prop} {s0 : zS} {x2 : Int} {x3 : Int} (hq : ∀ (A' : zS), zSm s0 A' [29, 30, 31, 50, 51, 52, 53, 54, 57, 60, 61, 62, 64, 65, 66, 68, 70, 71, 72, 85, 86] [12, 13, 49, 55, 58, 59, 63, 67, 69, 73, 74, 75, 76, 77, 78, 79, 80, 81, 82, 83, 84] → Q A' → Q' A') (fk227 : ∀ (A' : zS) (x0 : Int) (x1 : Int), zSm s0 A' [29, 30, 31, 50, 51, 52, 53, 54, 57, 60, 61, 62, 64, 65, 66, 68, 70, 71, 72, 85, 86] [12, 13, 49, 55, 58, 59, 63, 67, 69, 73, 74, 75, 76, 77, 78, 79, 80, 81, 82, 83, 84] → k227 A' x0 x1 → k227' A' x0 x1) (hw : wr_check_227B Q k227 s0 x2 x3) : wr_check_227B Q' k227' s0 x2 x3 := by
  unfold wr_check_227B at hw ⊢
  refine ⟨fun c1 => ?_, fun c1 => ?_⟩
  · have h2 := hw.1 c1
    refine ⟨fun c3 => ?_, fun c3 => ?_⟩
    · have h4 := h2.1 c3
      refine ffm_fault h4 (fun s6 f1 h10 => ?_)
      exact hq _ (zSm.rf.tr f1 rfl rfl) h10
    · have h11 := h2.2 c3
      refine ⟨fun c12 => ?_, fun c12 => ?_⟩
      · have h13 := h11.1 c12
        exact hq _ zSm.rf h13
      · have h14 := h11.2 c12
        refine ffm_fault h14 (fun s16 f2 h20 => ?_)
        exact hq _ (zSm.rf.tr f2 rfl rfl) h20
  · have h21 := hw.2 c1
    refine ⟨fun c22 => ?_, fun c22 => ?_⟩
    · have h23 := h21.1 c22
      obtain ⟨o24, h25⟩ := h23
      refine ⟨o24, ?_⟩
      exact fk227 _ _ _ zSm.rf h25
    · have h26 := h21.2 c22
      obtain ⟨o27, h28⟩ := h26
      refine ⟨o27, ?_⟩
      obtain ⟨o29, h30⟩ := h28
      refine ⟨o29, ?_⟩
      refine ⟨fun c31 => ?_, fun c31 => ?_⟩
      · have h32 := h30.1 c31
        obtain ⟨o33, h34⟩ := h32
        refine ⟨o33, ?_⟩
        exact fk227 _ _ _ zSm.rf h34
      · have h35 := h30.2 c31
        obtain ⟨o36, h37⟩ := h35
        refine ⟨o36, ?_⟩
        exact fk227 _ _ _ zSm.rf h37
theorem ffl_check_2270 {Q Q' : zS → Prop}  : ∀ (m : Nat) (s0 : zS) (x2 : Int) (x3 : Int), (∀ (A' : zS), zSm s0 A' [29, 30, 31, 50, 51, 52, 53, 54, 57, 60, 61, 62, 64, 65, 66, 68, 70, 71, 72, 85, 86] [12, 13, 49, 55, 58, 59, 63, 67, 69, 73, 74, 75, 76, 77, 78, 79, 80, 81, 82, 83, 84] → Q A' → Q' A') → wr_check_227 Q  m s0 x2 x3 → wr_check_227 Q'  m s0 x2 x3 := by
  intro m
  induction m with
  | zero => intro s0 x2 x3 hq  hw; exact hw
  | succ m ih => intro s0 x2 x3 hq  hw; exact ffb_check_227 hq  (fun A' y0 y1 f1 q => ih A' y0 y1 (fun A' f q => hq A' (f1.tr f rfl rfl) q)  q) hw
theorem ffb_check_140 {Q Q' : zS → Prop} {k140 k140' : zS → Prop} {s0 : zS}  (hq : ∀ (A' : zS), zSm s0 A' [29, 30, 31, 50, 51, 52, 53, 54, 57, 60, 61, 62, 64, 65, 66, 68, 70, 71, 72, 85, 86] [12, 13, 49, 55, 58, 59, 63, 67, 69, 73, 74, 75, 76, 77, 78, 79, 80, 81, 82, 83, 84] → Q A' → Q' A') (fk140 : ∀ (A' : zS), zSm s0 A' [29, 30, 31, 50, 51, 52, 53, 54, 57, 60, 61, 62, 64, 65, 66, 68, 70, 71, 72, 85, 86] [12, 13, 49, 55, 58, 59, 63, 67, 69, 73, 74, 75, 76, 77, 78, 79, 80, 81, 82, 83, 84] → k140 A'  → k140' A' ) (hw : wr_check_140B Q k140 s0 ) : wr_check_140B Q' k140' s0  := by
  unfold wr_check_140B at hw ⊢
  refine ⟨fun c1 => ?_, fun c1 => ?_⟩
  · have h2 := hw.1 c1
    refine ⟨fun c3 => ?_, fun c3 => ?_⟩
    · have h4 := h2.1 c3
      refine ⟨fun c5 => ?_, fun c5 => ?_⟩
      · have h6 := h4.1 c5
        obtain ⟨m7, h8⟩ := h6
        exact ⟨m7, ffl_check_2270 m7 _ _ _ (fun A' f q => hq A' (zSm.rf.tr f rfl rfl) q)  h8⟩
      · have h9 := h4.2 c5
        refine ⟨fun c10 => ?_, fun c10 => ?_⟩
        · have h11 := h9.1 c10
          obtain ⟨m12, h13⟩ := h11
          exact ⟨m12, ffl_check_2270 m12 _ _ _ (fun A' f q => hq A' (zSm.rf.tr f rfl rfl) q)  h13⟩
        · have h14 := h9.2 c10
          obtain ⟨m15, h16⟩ := h14
          exact ⟨m15, ffl_check_2270 m15 _ _ _ (fun A' f q => hq A' (zSm.rf.tr f rfl rfl) q)  h16⟩
    · have h17 := h2.2 c3
      exact hq _ zSm.rf h17
  · have h18 := hw.2 c1
    obtain ⟨o19, h20⟩ := h18
    refine ⟨o19, ?_⟩
    obtain ⟨o23, h24⟩ := h20
    refine ⟨o23, ?_⟩
    obtain ⟨o25, h26⟩ := h24
    refine ⟨o25, ?_⟩
    obtain ⟨o27, h28⟩ := h26
    refine ⟨o27, ?_⟩
    obtain ⟨o29, h30⟩ := h28
    refine ⟨o29, ?_⟩
    obtain ⟨o31, h32⟩ := h30
    refine ⟨o31, ?_⟩
    obtain ⟨o33, h34⟩ := h32
    refine ⟨o33, ?_⟩
    refine ffm_go h34 (fun s36 f1 h40 => ?_)
    exact fk140 _  ((zSm.rf.pv rfl).tr f1 rfl rfl) h40
theorem ffl_check_1400 {Q Q' : zS → Prop}  : ∀ (m : Nat) (s0 : zS), (∀ (A' : zS), zSm s0 A' [29, 30, 31, 50, 51, 52, 53, 54, 57, 60, 61, 62, 64, 65, 66, 68, 70, 71, 72, 85, 86] [12, 13, 49, 55, 58, 59, 63, 67, 69, 73, 74, 75, 76, 77, 78, 79, 80, 81, 82, 83, 84] → Q A' → Q' A') → wr_check_140 Q  m s0  → wr_check_140 Q'  m s0  := by
  intro m
  induction m with
  | zero => intro s0  hq  hw; exact hw
  | succ m ih => intro s0  hq  hw; exact ffb_check_140 hq  (fun A'  f1 q => ih A'  (fun A' f q => hq A' (f1.tr f rfl rfl) q)  q) hw
theorem ffb_check_84 {Q Q' : zS → Prop} {k84 k84' : zS → Int → Int → Prop} {s0 : zS} {x1 : Int} {x2 : Int} (hq : ∀ (A' : zS), zSm s0 A' [29, 30, 31, 50, 51, 52, 53, 54, 57, 60, 61, 62, 64, 65, 66, 68, 70, 71, 72, 85, 86] [12, 13, 49, 55, 58, 59, 63, 67, 69, 73, 74, 75, 76, 77, 78, 79, 80, 81, 82, 83, 84] → Q A' → Q' A') (fk84 : ∀ (A' : zS) (x0 : Int) (x1 : Int), zSm s0 A' [29, 30, 31, 50, 51, 52, 53, 54, 57, 60, 61, 62, 64, 65, 66, 68, 70, 71, 72, 85, 86] [12, 13, 49, 55, 58, 59, 63, 67, 69, 73, 74, 75, 76, 77, 78, 79, 80, 81, 82, 83, 84] → k84 A' x0 x1 → k84' A' x0 x1) (hw : wr_check_84B Q k84 s0 x1 x2) : wr_check_84B Q' k84' s0 x1 x2 := by
  unfold wr_check_84B at hw ⊢
  refine ⟨fun c1 => ?_, fun c1 => ?_⟩
  · have h2 := hw.1 c1
    refine ffm_children h2 (fun s6 f1 h10 => ?_)
    obtain ⟨m11, h12⟩ := h10
    exact ⟨m11, ffl_check_1400 m11 _  (fun A' f q => hq A' (((zSm.rf.pv rfl).tr f1 rfl rfl).tr f rfl rfl) q)  h12⟩
  · have h13 := hw.2 c1
    obtain ⟨o14, h15⟩ := h13
    refine ⟨o14, ?_⟩
    obtain ⟨o16, h17⟩ := h15
    refine ⟨o16, ?_⟩
    obtain ⟨o18, h19⟩ := h17
    refine ⟨o18, ?_⟩
    obtain ⟨o20, h21⟩ := h19
    refine ⟨o20, ?_⟩
    refine ffm_isText h21 (fun r22 s23 f2 h27 => ?_)
    refine ⟨fun c28 => ?_, fun c28 => ?_⟩
    · have h29 := h27.1 c28
      obtain ⟨o30, h31⟩ := h29
      refine ⟨o30, ?_⟩
      exact fk84 _ _ _ (zSm.rf.tr f2 rfl rfl) h31
    · have h32 := h27.2 c28
      obtain ⟨o35, h36⟩ := h32
      refine ⟨o35, ?_⟩
      exact fk84 _ _ _ ((zSm.rf.tr f2 rfl rfl).pv rfl) h36
theorem ffl_check_840 {Q Q' : zS → Prop}  : ∀ (m : Nat) (s0 : zS) (x1 : Int) (x2 : Int), (∀ (A' : zS), zSm s0 A' [29, 30, 31, 50, 51, 52, 53, 54, 57, 60, 61, 62, 64, 65, 66, 68, 70, 71, 72, 85, 86] [12, 13, 49, 55, 58, 59, 63, 67, 69, 73, 74, 75, 76, 77, 78, 79, 80, 81, 82, 83, 84] → Q A' → Q' A') → wr_check_84 Q  m s0 x1 x2 → wr_check_84 Q'  m s0 x1 x2 := by
  intro m
  induction m with
  | zero => intro s0 x1 x2 hq  hw; exact hw
  | succ m ih => intro s0 x1 x2 hq  hw; exact ffb_check_84 hq  (fun A' y0 y1 f1 q => ih A' y0 y1 (fun A' f q => hq A' (f1.tr f rfl rfl) q)  q) hw
theorem ffm_check {s0 : zS}  {Q Q' : zS → Prop} (hw : wr_check s0  Q) (hq : ∀ (A' : zS), zSm s0 A' [29, 30, 31, 50, 51, 52, 53, 54, 57, 60, 61, 62, 64, 65, 66, 68, 70, 71, 72, 85, 86] [12, 13, 49, 55, 58, 59, 63, 67, 69, 73, 74, 75, 76, 77, 78, 79, 80, 81, 82, 83, 84] → Q A' → Q' A') : wr_check s0  Q' := by
  unfold wr_check at hw ⊢
  refine ffm_library hw (fun s2 f1 h6 => ?_)
  obtain ⟨o35, h36⟩ := h6
  refine ⟨o35, ?_⟩
  obtain ⟨m37, h38⟩ := h36
  exact ⟨m37, ffl_check_840 m37 _ _ _ (fun A' f q => hq A' ((((((((((((((((zSm.rf.tr f1 rfl rfl).pv rfl).pv rfl).pv rfl).pv rfl).pv rfl).pv rfl).pv rfl).pv rfl).pv rfl).pv rfl).pv rfl).pv rfl).pv rfl).pv rfl).tr f rfl rfl) q)  h38⟩
theorem ffj_todoTask_45 {Q Q' : zS → Prop}  {s0 : zS} {x1 : Int} {x2 : Int} {x3 : Int} (hq : ∀ (A' : zS), zSm s0 A' [88, 89, 90] [87] → Q A' → Q' A')  (hw : wr_todoTask_45 Q  s0 x1 x2 x3) : wr_todoTask_45 Q'  s0 x1 x2 x3 := by
  unfold wr_todoTask_45 at hw ⊢
  obtain ⟨o1, h2⟩ := hw
  refine ⟨o1, ?_⟩
  obtain ⟨o3, h4⟩ := h2
  refine ⟨o3, ?_⟩
  obtain ⟨o7, h8⟩ := h4
  refine ⟨o7, ?_⟩
  obtain ⟨o9, h10⟩ := h8
  refine ⟨o9, ?_⟩
  obtain ⟨o13, h14⟩ := h10
  refine ⟨o13, ?_⟩
  obtain ⟨o15, h16⟩ := h14
  refine ⟨o15, ?_⟩
  obtain ⟨o19, h20⟩ := h16
  refine ⟨o19, ?_⟩
  exact hq _ ((((zSm.rf.pa rfl).pa rfl).pa rfl).pv rfl) h20
theorem ffm_todoTask {s0 : zS} {a0 : Int} {a1 : Int} {a2 : Int} {Q Q' : zS → Prop} (hw : wr_todoTask s0 a0 a1 a2 Q) (hq : ∀ (A' : zS), zSm s0 A' [88, 89, 90] [87] → Q A' → Q' A') : wr_todoTask s0 a0 a1 a2 Q' := by
  unfold wr_todoTask at hw ⊢
  refine ⟨fun c1 => ?_, fun c1 => ?_⟩
  · have h2 := hw.1 c1
    exact ffj_todoTask_45 (fun A' f q => hq A' (zSm.rf.tr f rfl rfl) q)  h2
  · have h3 := hw.2 c1
    exact False.elim h3
theorem ffm_err {s0 : zS} {a0 : Int} {Q Q' : zS → Prop} (hw : wr_err s0 a0 Q) (hq : ∀ (A' : zS), zSm s0 A' [] [102, 103, 104] → Q A' → Q' A') : wr_err s0 a0 Q' := by
  unfold wr_err at hw ⊢
  refine ⟨fun c1 => ?_, fun c1 => ?_⟩
  · have h2 := hw.1 c1
    exact hq _ (((zSm.rf.pv rfl).pv rfl).pv rfl) h2
  · have h9 := hw.2 c1
    exact hq _ zSm.rf h9
theorem ffm_burns {s0 : zS}  {Q Q' : Int → zS → Prop} (hw : wr_burns s0  Q) (hq : ∀ (e : Int) (A' : zS), zSm s0 A' [] [101, 102, 103, 104] → Q e A' → Q' e A') : wr_burns s0  Q' := by
  unfold wr_burns at hw ⊢
  refine ⟨fun c1 => ?_, fun c1 => ?_⟩
  · have h2 := hw.1 c1
    obtain ⟨o3, h4⟩ := h2
    refine ⟨o3, ?_⟩
    exact hq _ _ (zSm.rf.pv rfl) h4
  · have h7 := hw.2 c1
    refine ffm_err h7 (fun s9 f1 h13 => ?_)
    exact hq _ _ (zSm.rf.tr f1 rfl rfl) h13
theorem ffm_push {s0 : zS} {a0 : Int} {Q Q' : zS → Prop} (hw : wr_push s0 a0 Q) (hq : ∀ (A' : zS), zSm s0 A' [92] [91] → Q A' → Q' A') : wr_push s0 a0 Q' := by
  unfold wr_push at hw ⊢
  refine ⟨fun c1 => ?_, fun c1 => ?_⟩
  · have h2 := hw.1 c1
    obtain ⟨o3, h4⟩ := h2
    refine ⟨o3, ?_⟩
    obtain ⟨o5, h6⟩ := h4
    refine ⟨o5, ?_⟩
    obtain ⟨o9, h10⟩ := h6
    refine ⟨o9, ?_⟩
    exact hq _ ((zSm.rf.pa rfl).pv rfl) h10
  · have h13 := hw.2 c1
    exact False.elim h13
theorem ffm_pop {s0 : zS}  {Q Q' : Int → zS → Prop} (hw : wr_pop s0  Q) (hq : ∀ (e : Int) (A' : zS), zSm s0 A' [] [91] → Q e A' → Q' e A') : wr_pop s0  Q' := by
  unfold wr_pop at hw ⊢
  obtain ⟨o1, h2⟩ := hw
  refine ⟨o1, ?_⟩
  obtain ⟨o5, h6⟩ := h2
  refine ⟨o5, ?_⟩
  obtain ⟨o7, h8⟩ := h6
  refine ⟨o7, ?_⟩
  exact hq _ _ (zSm.rf.pv rfl) h8
theorem ffm_read {s0 : zS} {a0 : Int} {Q Q' : Int → zS → Prop} (hw : wr_read s0 a0 Q) (hq : ∀ (e : Int) (A' : zS), zSm s0 A' [] [102, 103, 104] → Q e A' → Q' e A') : wr_read s0 a0 Q' := by
  unfold wr_read at hw ⊢
  refine ⟨fun c1 => ?_, fun c1 => ?_⟩
  · have h2 := hw.1 c1
    refine ffm_err h2 (fun s4 f1 h8 => ?_)
    exact hq _ _ (zSm.rf.tr f1 rfl rfl) h8
  · have h9 := hw.2 c1
    refine ⟨fun c10 => ?_, fun c10 => ?_⟩
    · have h11 := h9.1 c10
      obtain ⟨o12, h13⟩ := h11
      refine ⟨o12, ?_⟩
      obtain ⟨o14, h15⟩ := h13
      refine ⟨o14, ?_⟩
      exact hq _ _ zSm.rf h15
    · have h16 := h9.2 c10
      refine ffm_err h16 (fun s18 f2 h22 => ?_)
      exact hq _ _ (zSm.rf.tr f2 rfl rfl) h22
theorem ffm_write {s0 : zS} {a0 : Int} {a1 : Int} {Q Q' : zS → Prop} (hw : wr_write s0 a0 a1 Q) (hq : ∀ (A' : zS), zSm s0 A' [98] [102, 103, 104] → Q A' → Q' A') : wr_write s0 a0 a1 Q' := by
  unfold wr_write at hw ⊢
  refine ⟨fun c1 => ?_, fun c1 => ?_⟩
  · have h2 := hw.1 c1
    refine ffm_err h2 (fun s4 f1 h8 => ?_)
    exact hq _ (zSm.rf.tr f1 rfl rfl) h8
  · have h9 := hw.2 c1
    refine ⟨fun c10 => ?_, fun c10 => ?_⟩
    · have h11 := h9.1 c10
      obtain ⟨o12, h13⟩ := h11
      refine ⟨o12, ?_⟩
      obtain ⟨o14, h15⟩ := h13
      refine ⟨o14, ?_⟩
      exact hq _ (zSm.rf.pa rfl) h15
    · have h18 := h9.2 c10
      refine ffm_err h18 (fun s20 f2 h24 => ?_)
      exact hq _ (zSm.rf.tr f2 rfl rfl) h24
theorem ffm_wordOf {s0 : zS} {a0 : Int} {Q Q' : Int → zS → Prop} (hw : wr_wordOf s0 a0 Q) (hq : ∀ (e : Int) (A' : zS), zSm s0 A' [] [] → Q e A' → Q' e A') : wr_wordOf s0 a0 Q' := by
  unfold wr_wordOf at hw ⊢
  obtain ⟨o1, h2⟩ := hw
  refine ⟨o1, ?_⟩
  obtain ⟨o3, h4⟩ := h2
  refine ⟨o3, ?_⟩
  refine ⟨fun c5 => ?_, fun c5 => ?_⟩
  · have h6 := h4.1 c5
    obtain ⟨o7, h8⟩ := h6
    refine ⟨o7, ?_⟩
    obtain ⟨o9, h10⟩ := h8
    refine ⟨o9, ?_⟩
    refine ⟨fun c11 => ?_, fun c11 => ?_⟩
    · have h12 := h10.1 c11
      obtain ⟨o13, h14⟩ := h12
      refine ⟨o13, ?_⟩
      obtain ⟨o15, h16⟩ := h14
      refine ⟨o15, ?_⟩
      refine ⟨fun c17 => ?_, fun c17 => ?_⟩
      · have h18 := h16.1 c17
        exact hq _ _ zSm.rf h18
      · have h19 := h16.2 c17
        obtain ⟨o20, h21⟩ := h19
        refine ⟨o20, ?_⟩
        obtain ⟨o22, h23⟩ := h21
        refine ⟨o22, ?_⟩
        obtain ⟨o24, h25⟩ := h23
        refine ⟨o24, ?_⟩
        exact hq _ _ zSm.rf h25
    · have h26 := h10.2 c11
      obtain ⟨o27, h28⟩ := h26
      refine ⟨o27, ?_⟩
      obtain ⟨o29, h30⟩ := h28
      refine ⟨o29, ?_⟩
      obtain ⟨o31, h32⟩ := h30
      refine ⟨o31, ?_⟩
      obtain ⟨o33, h34⟩ := h32
      refine ⟨o33, ?_⟩
      exact hq _ _ zSm.rf h34
  · have h35 := h4.2 c5
    obtain ⟨o36, h37⟩ := h35
    refine ⟨o36, ?_⟩
    obtain ⟨o38, h39⟩ := h37
    refine ⟨o38, ?_⟩
    exact hq _ _ zSm.rf h39
theorem ffm_address {s0 : zS} {a0 : Int} {Q Q' : zS → Prop} (hw : wr_address s0 a0 Q) (hq : ∀ (A' : zS), zSm s0 A' [88, 89, 90, 92] [87, 91] → Q A' → Q' A') : wr_address s0 a0 Q' := by
  unfold wr_address at hw ⊢
  obtain ⟨o1, h2⟩ := hw
  refine ⟨o1, ?_⟩
  obtain ⟨o3, h4⟩ := h2
  refine ⟨o3, ?_⟩
  refine ⟨fun c5 => ?_, fun c5 => ?_⟩
  · have h6 := h4.1 c5
    refine ⟨fun c7 => ?_, fun c7 => ?_⟩
    · have h8 := h6.1 c7
      refine ffm_todoTask h8 (fun s10 f1 h14 => ?_)
      obtain ⟨o15, h16⟩ := h14
      refine ⟨o15, ?_⟩
      obtain ⟨o17, h18⟩ := h16
      refine ⟨o17, ?_⟩
      obtain ⟨o19, h20⟩ := h18
      refine ⟨o19, ?_⟩
      obtain ⟨o21, h22⟩ := h20
      refine ⟨o21, ?_⟩
      refine ffm_todoTask h22 (fun s24 f2 h28 => ?_)
      obtain ⟨o29, h30⟩ := h28
      refine ⟨o29, ?_⟩
      obtain ⟨o31, h32⟩ := h30
      refine ⟨o31, ?_⟩
      refine ffm_todoTask h32 (fun s34 f3 h38 => ?_)
      exact hq _ (((zSm.rf.tr f1 rfl rfl).tr f2 rfl rfl).tr f3 rfl rfl) h38
    · have h39 := h6.2 c7
      obtain ⟨o40, h41⟩ := h39
      refine ⟨o40, ?_⟩
      obtain ⟨o42, h43⟩ := h41
      refine ⟨o42, ?_⟩
      refine ffm_todoTask h43 (fun s45 f4 h49 => ?_)
      exact hq _ (zSm.rf.tr f4 rfl rfl) h49
  · have h50 := h4.2 c5
    refine ffm_wordOf h50 (fun r51 s52 f5 h56 => ?_)
    refine ffm_push h56 (fun s58 f6 h62 => ?_)
    exact hq _ ((zSm.rf.tr f5 rfl rfl).tr f6 rfl rfl) h62
theorem ffb_turnTodo_9 {Q Q' : zS → Prop} {k9 k9' : zS → Int → Int → Prop} {s0 : zS} {x2 : Int} {x3 : Int} (hq : ∀ (A' : zS), zSm s0 A' [88, 89, 90] [] → Q A' → Q' A') (fk9 : ∀ (A' : zS) (x0 : Int) (x1 : Int), zSm s0 A' [88, 89, 90] [] → k9 A' x0 x1 → k9' A' x0 x1) (hw : wr_turnTodo_9B Q k9 s0 x2 x3) : wr_turnTodo_9B Q' k9' s0 x2 x3 := by
  unfold wr_turnTodo_9B at hw ⊢
  refine ⟨fun c1 => ?_, fun c1 => ?_⟩
  · have h2 := hw.1 c1
    exact hq _ zSm.rf h2
  · have h3 := hw.2 c1
    obtain ⟨o4, h5⟩ := h3
    refine ⟨o4, ?_⟩
    obtain ⟨o6, h7⟩ := h5
    refine ⟨o6, ?_⟩
    obtain ⟨o8, h9⟩ := h7
    refine ⟨o8, ?_⟩
    obtain ⟨o10, h11⟩ := h9
    refine ⟨o10, ?_⟩
    obtain ⟨o12, h13⟩ := h11
    refine ⟨o12, ?_⟩
    obtain ⟨o14, h15⟩ := h13
    refine ⟨o14, ?_⟩
    obtain ⟨o16, h17⟩ := h15
    refine ⟨o16, ?_⟩
    obtain ⟨o18, h19⟩ := h17
    refine ⟨o18, ?_⟩
    obtain ⟨o20, h21⟩ := h19
    refine ⟨o20, ?_⟩
    obtain ⟨o22, h23⟩ := h21
    refine ⟨o22, ?_⟩
    obtain ⟨o26, h27⟩ := h23
    refine ⟨o26, ?_⟩
    obtain ⟨o28, h29⟩ := h27
    refine ⟨o28, ?_⟩
    obtain ⟨o30, h31⟩ := h29
    refine ⟨o30, ?_⟩
    obtain ⟨o32, h33⟩ := h31
    refine ⟨o32, ?_⟩
    obtain ⟨o36, h37⟩ := h33
    refine ⟨o36, ?_⟩
    obtain ⟨o38, h39⟩ := h37
    refine ⟨o38, ?_⟩
    obtain ⟨o40, h41⟩ := h39
    refine ⟨o40, ?_⟩
    obtain ⟨o42, h43⟩ := h41
    refine ⟨o42, ?_⟩
    obtain ⟨o46, h47⟩ := h43
    refine ⟨o46, ?_⟩
    obtain ⟨o48, h49⟩ := h47
    refine ⟨o48, ?_⟩
    obtain ⟨o52, h53⟩ := h49
    refine ⟨o52, ?_⟩
    obtain ⟨o54, h55⟩ := h53
    refine ⟨o54, ?_⟩
    obtain ⟨o58, h59⟩ := h55
    refine ⟨o58, ?_⟩
    obtain ⟨o60, h61⟩ := h59
    refine ⟨o60, ?_⟩
    obtain ⟨o64, h65⟩ := h61
    refine ⟨o64, ?_⟩
    obtain ⟨o66, h67⟩ := h65
    refine ⟨o66, ?_⟩
    exact fk9 _ _ _ ((((((zSm.rf.pa rfl).pa rfl).pa rfl).pa rfl).pa rfl).pa rfl) h67
theorem ffl_turnTodo_90 {Q Q' : zS → Prop}  : ∀ (m : Nat) (s0 : zS) (x2 : Int) (x3 : Int), (∀ (A' : zS), zSm s0 A' [88, 89, 90] [] → Q A' → Q' A') → wr_turnTodo_9 Q  m s0 x2 x3 → wr_turnTodo_9 Q'  m s0 x2 x3 := by
  intro m
  induction m with
  | zero => intro s0 x2 x3 hq  hw; exact hw
  | succ m ih => intro s0 x2 x3 hq  hw; exact ffb_turnTodo_9 hq  (fun A' y0 y1 f1 q => ih A' y0 y1 (fun A' f q => hq A' (f1.tr f rfl rfl) q)  q) hw
theorem ffm_turnTodo {s0 : zS} {a0 : Int} {Q Q' : zS → Prop} (hw : wr_turnTodo s0 a0 Q) (hq : ∀ (A' : zS), zSm s0 A' [88, 89, 90] [] → Q A' → Q' A') : wr_turnTodo s0 a0 Q' := by
  unfold wr_turnTodo at hw ⊢
  obtain ⟨o1, h2⟩ := hw
  refine ⟨o1, ?_⟩
  obtain ⟨m3, h4⟩ := h2
  exact ⟨m3, ffl_turnTodo_90 m3 _ _ _ (fun A' f q => hq A' (zSm.rf.tr f rfl rfl) q)  h4⟩
theorem ffb_evaluate_327 {Q Q' : zS → Prop} {k327 k327' : zS → Int → Int → Prop} {s0 : zS} {x3 : Int} {x4 : Int} (hq : ∀ (A' : zS), zSm s0 A' [88, 89, 90, 92] [87, 91] → Q A' → Q' A') (fk327 : ∀ (A' : zS) (x0 : Int) (x1 : Int), zSm s0 A' [88, 89, 90, 92] [87, 91] → k327 A' x0 x1 → k327' A' x0 x1) (hw : wr_evaluate_327B Q k327 s0 x3 x4) : wr_evaluate_327B Q' k327' s0 x3 x4 := by
  unfold wr_evaluate_327B at hw ⊢
  refine ⟨fun c1 => ?_, fun c1 => ?_⟩
  · have h2 := hw.1 c1
    refine ffm_turnTodo h2 (fun s4 f1 h8 => ?_)
    exact hq _ (zSm.rf.tr f1 rfl rfl) h8
  · have h9 := hw.2 c1
    refine ffm_todoTask h9 (fun s11 f2 h15 => ?_)
    obtain ⟨o16, h17⟩ := h15
    refine ⟨o16, ?_⟩
    obtain ⟨o18, h19⟩ := h17
    refine ⟨o18, ?_⟩
    exact fk327 _ _ _ (zSm.rf.tr f2 rfl rfl) h19
theorem ffl_evaluate_3270 {Q Q' : zS → Prop}  : ∀ (m : Nat) (s0 : zS) (x3 : Int) (x4 : Int), (∀ (A' : zS), zSm s0 A' [88, 89, 90, 92] [87, 91] → Q A' → Q' A') → wr_evaluate_327 Q  m s0 x3 x4 → wr_evaluate_327 Q'  m s0 x3 x4 := by
  intro m
  induction m with
  | zero => intro s0 x3 x4 hq  hw; exact hw
  | succ m ih => intro s0 x3 x4 hq  hw; exact ffb_evaluate_327 hq  (fun A' y0 y1 f1 q => ih A' y0 y1 (fun A' f q => hq A' (f1.tr f rfl rfl) q)  q) hw
theorem ffb_evaluate_230 {Q Q' : zS → Prop} {k230 k230' : zS → Int → Int → Int → Int → Prop} {s0 : zS} {x1 : Int} {x3 : Int} {x4 : Int} {x5 : Int} (hq : ∀ (A' : zS), zSm s0 A' [88, 89, 90, 92] [87, 91] → Q A' → Q' A') (fk230 : ∀ (A' : zS) (x0 : Int) (x1 : Int) (x2 : Int) (x3 : Int), zSm s0 A' [88, 89, 90, 92] [87, 91] → k230 A' x0 x1 x2 x3 → k230' A' x0 x1 x2 x3) (hw : wr_evaluate_230B Q k230 s0 x1 x3 x4 x5) : wr_evaluate_230B Q' k230' s0 x1 x3 x4 x5 := by
  unfold wr_evaluate_230B at hw ⊢
  refine ⟨fun c1 => ?_, fun c1 => ?_⟩
  · have h2 := hw.1 c1
    obtain ⟨o3, h4⟩ := h2
    refine ⟨o3, ?_⟩
    obtain ⟨o5, h6⟩ := h4
    refine ⟨o5, ?_⟩
    refine ffm_todoTask h6 (fun s8 f1 h12 => ?_)
    refine ffm_todoTask h12 (fun s14 f2 h18 => ?_)
    refine ffm_turnTodo h18 (fun s20 f3 h24 => ?_)
    exact hq _ (((zSm.rf.tr f1 rfl rfl).tr f2 rfl rfl).tr f3 rfl rfl) h24
  · have h25 := hw.2 c1
    refine ffm_todoTask h25 (fun s27 f4 h31 => ?_)
    obtain ⟨o32, h33⟩ := h31
    refine ⟨o32, ?_⟩
    obtain ⟨o34, h35⟩ := h33
    refine ⟨o34, ?_⟩
    obtain ⟨o36, h37⟩ := h35
    refine ⟨o36, ?_⟩
    exact fk230 _ _ _ _ _ (zSm.rf.tr f4 rfl rfl) h37
theorem ffl_evaluate_2300 {Q Q' : zS → Prop}  : ∀ (m : Nat) (s0 : zS) (x1 : Int) (x3 : Int) (x4 : Int) (x5 : Int), (∀ (A' : zS), zSm s0 A' [88, 89, 90, 92] [87, 91] → Q A' → Q' A') → wr_evaluate_230 Q  m s0 x1 x3 x4 x5 → wr_evaluate_230 Q'  m s0 x1 x3 x4 x5 := by
  intro m
  induction m with
  | zero => intro s0 x1 x3 x4 x5 hq  hw; exact hw
  | succ m ih => intro s0 x1 x3 x4 x5 hq  hw; exact ffb_evaluate_230 hq  (fun A' y0 y1 y2 y3 f1 q => ih A' y0 y1 y2 y3 (fun A' f q => hq A' (f1.tr f rfl rfl) q)  q) hw
theorem ffm_evaluate {s0 : zS} {a0 : Int} {Q Q' : zS → Prop} (hw : wr_evaluate s0 a0 Q) (hq : ∀ (A' : zS), zSm s0 A' [88, 89, 90, 92] [87, 91] → Q A' → Q' A') : wr_evaluate s0 a0 Q' := by
  unfold wr_evaluate at hw ⊢
  obtain ⟨o1, h2⟩ := hw
  refine ⟨o1, ?_⟩
  obtain ⟨o3, h4⟩ := h2
  refine ⟨o3, ?_⟩
  refine ⟨fun c5 => ?_, fun c5 => ?_⟩
  · have h6 := h4.1 c5
    refine ⟨fun c7 => ?_, fun c7 => ?_⟩
    · have h8 := h6.1 c7
      obtain ⟨o9, h10⟩ := h8
      refine ⟨o9, ?_⟩
      obtain ⟨o11, h12⟩ := h10
      refine ⟨o11, ?_⟩
      refine ffm_push h12 (fun s14 f1 h18 => ?_)
      exact hq _ (zSm.rf.tr f1 rfl rfl) h18
    · have h19 := h6.2 c7
      refine ⟨fun c20 => ?_, fun c20 => ?_⟩
      · have h21 := h19.1 c20
        refine ⟨fun c22 => ?_, fun c22 => ?_⟩
        · have h23 := h21.1 c22
          refine ⟨fun c24 => ?_, fun c24 => ?_⟩
          · have h25 := h23.1 c24
            refine ⟨fun c26 => ?_, fun c26 => ?_⟩
            · have h27 := h25.1 c26
              refine ⟨fun c28 => ?_, fun c28 => ?_⟩
              · have h29 := h27.1 c28
                refine ⟨fun c30 => ?_, fun c30 => ?_⟩
                · have h31 := h29.1 c30
                  refine ⟨fun c32 => ?_, fun c32 => ?_⟩
                  · have h33 := h31.1 c32
                    refine ⟨fun c34 => ?_, fun c34 => ?_⟩
                    · have h35 := h33.1 c34
                      refine ⟨fun c36 => ?_, fun c36 => ?_⟩
                      · have h37 := h35.1 c36
                        refine ffm_todoTask h37 (fun s39 f2 h43 => ?_)
                        obtain ⟨o44, h45⟩ := h43
                        refine ⟨o44, ?_⟩
                        obtain ⟨o46, h47⟩ := h45
                        refine ⟨o46, ?_⟩
                        obtain ⟨m48, h49⟩ := h47
                        exact ⟨m48, ffl_evaluate_3270 m48 _ _ _ (fun A' f q => hq A' ((zSm.rf.tr f2 rfl rfl).tr f rfl rfl) q)  h49⟩
                      · have h50 := h35.2 c36
                        refine ffm_todoTask h50 (fun s52 f3 h56 => ?_)
                        obtain ⟨o57, h58⟩ := h56
                        refine ⟨o57, ?_⟩
                        obtain ⟨o59, h60⟩ := h58
                        refine ⟨o59, ?_⟩
                        obtain ⟨m61, h62⟩ := h60
                        exact ⟨m61, ffl_evaluate_3270 m61 _ _ _ (fun A' f q => hq A' ((zSm.rf.tr f3 rfl rfl).tr f rfl rfl) q)  h62⟩
                    · have h63 := h33.2 c34
                      refine ffm_todoTask h63 (fun s65 f4 h69 => ?_)
                      obtain ⟨o70, h71⟩ := h69
                      refine ⟨o70, ?_⟩
                      obtain ⟨o72, h73⟩ := h71
                      refine ⟨o72, ?_⟩
                      obtain ⟨m74, h75⟩ := h73
                      exact ⟨m74, ffl_evaluate_3270 m74 _ _ _ (fun A' f q => hq A' ((zSm.rf.tr f4 rfl rfl).tr f rfl rfl) q)  h75⟩
                  · have h76 := h31.2 c32
                    obtain ⟨o77, h78⟩ := h76
                    refine ⟨o77, ?_⟩
                    obtain ⟨o79, h80⟩ := h78
                    refine ⟨o79, ?_⟩
                    obtain ⟨o81, h82⟩ := h80
                    refine ⟨o81, ?_⟩
                    obtain ⟨o83, h84⟩ := h82
                    refine ⟨o83, ?_⟩
                    obtain ⟨m85, h86⟩ := h84
                    exact ⟨m85, ffl_evaluate_2300 m85 _ _ _ _ _ (fun A' f q => hq A' (zSm.rf.tr f rfl rfl) q)  h86⟩
                · have h87 := h29.2 c30
                  obtain ⟨o88, h89⟩ := h87
                  refine ⟨o88, ?_⟩
                  obtain ⟨o90, h91⟩ := h89
                  refine ⟨o90, ?_⟩
                  obtain ⟨o92, h93⟩ := h91
                  refine ⟨o92, ?_⟩
                  obtain ⟨o94, h95⟩ := h93
                  refine ⟨o94, ?_⟩
                  refine ffm_todoTask h95 (fun s97 f5 h101 => ?_)
                  obtain ⟨o102, h103⟩ := h101
                  refine ⟨o102, ?_⟩
                  obtain ⟨o104, h105⟩ := h103
                  refine ⟨o104, ?_⟩
                  refine ffm_todoTask h105 (fun s107 f6 h111 => ?_)
                  exact hq _ ((zSm.rf.tr f5 rfl rfl).tr f6 rfl rfl) h111
              · have h112 := h27.2 c28
                refine ffm_todoTask h112 (fun s114 f7 h118 => ?_)
                obtain ⟨o119, h120⟩ := h118
                refine ⟨o119, ?_⟩
                obtain ⟨o121, h122⟩ := h120
                refine ⟨o121, ?_⟩
                refine ffm_todoTask h122 (fun s124 f8 h128 => ?_)
                exact hq _ ((zSm.rf.tr f7 rfl rfl).tr f8 rfl rfl) h128
            · have h129 := h25.2 c26
              obtain ⟨o130, h131⟩ := h129
              refine ⟨o130, ?_⟩
              obtain ⟨o132, h133⟩ := h131
              refine ⟨o132, ?_⟩
              refine ffm_address h133 (fun s135 f9 h139 => ?_)
              exact hq _ (zSm.rf.tr f9 rfl rfl) h139
          · have h140 := h23.2 c24
            refine ffm_todoTask h140 (fun s142 f10 h146 => ?_)
            obtain ⟨o147, h148⟩ := h146
            refine ⟨o147, ?_⟩
            obtain ⟨o149, h150⟩ := h148
            refine ⟨o149, ?_⟩
            refine ffm_todoTask h150 (fun s152 f11 h156 => ?_)
            exact hq _ ((zSm.rf.tr f10 rfl rfl).tr f11 rfl rfl) h156
        · have h157 := h21.2 c22
          refine ffm_wordOf h157 (fun r158 s159 f12 h163 => ?_)
          refine ⟨fun c164 => ?_, fun c164 => ?_⟩
          · have h165 := h163.1 c164
            obtain ⟨o166, h167⟩ := h165
            refine ⟨o166, ?_⟩
            obtain ⟨o168, h169⟩ := h167
            refine ⟨o168, ?_⟩
            refine ffm_push h169 (fun s171 f13 h175 => ?_)
            exact hq _ ((zSm.rf.tr f12 rfl rfl).tr f13 rfl rfl) h175
          · have h176 := h163.2 c164
            obtain ⟨o177, h178⟩ := h176
            refine ⟨o177, ?_⟩
            obtain ⟨o179, h180⟩ := h178
            refine ⟨o179, ?_⟩
            refine ffm_push h180 (fun s182 f14 h186 => ?_)
            exact hq _ ((zSm.rf.tr f12 rfl rfl).tr f14 rfl rfl) h186
      · have h187 := h19.2 c20
        obtain ⟨o188, h189⟩ := h187
        refine ⟨o188, ?_⟩
        obtain ⟨o190, h191⟩ := h189
        refine ⟨o190, ?_⟩
        refine ffm_push h191 (fun s193 f15 h197 => ?_)
        exact hq _ (zSm.rf.tr f15 rfl rfl) h197
  · have h198 := h4.2 c5
    obtain ⟨o199, h200⟩ := h198
    refine ⟨o199, ?_⟩
    obtain ⟨o201, h202⟩ := h200
    refine ⟨o201, ?_⟩
    refine ffm_push h202 (fun s204 f16 h208 => ?_)
    exact hq _ (zSm.rf.tr f16 rfl rfl) h208
theorem ffm_bin {s0 : zS} {a0 : Int} {Q Q' : zS → Prop} (hw : wr_bin s0 a0 Q) (hq : ∀ (A' : zS), zSm s0 A' [92] [91, 102, 103, 104] → Q A' → Q' A') : wr_bin s0 a0 Q' := by
  unfold wr_bin at hw ⊢
  refine ffm_pop hw (fun r1 s2 f1 h6 => ?_)
  refine ffm_pop h6 (fun r7 s8 f2 h12 => ?_)
  obtain ⟨o13, h14⟩ := h12
  refine ⟨o13, ?_⟩
  obtain ⟨o15, h16⟩ := h14
  refine ⟨o15, ?_⟩
  refine ⟨fun c17 => ?_, fun c17 => ?_⟩
  · have h18 := h16.1 c17
    refine ⟨fun c19 => ?_, fun c19 => ?_⟩
    · have h20 := h18.1 c19
      refine ⟨fun c21 => ?_, fun c21 => ?_⟩
      · have h22 := h20.1 c21
        refine ⟨fun c23 => ?_, fun c23 => ?_⟩
        · have h24 := h22.1 c23
          refine ffm_worked h24 (fun r25 s26 f3 h30 => ?_)
          refine ffm_push h30 (fun s32 f4 h36 => ?_)
          exact hq _ ((((zSm.rf.tr f1 rfl rfl).tr f2 rfl rfl).tr f3 rfl rfl).tr f4 rfl rfl) h36
        · have h37 := h22.2 c23
          refine ffm_err h37 (fun s39 f5 h43 => ?_)
          exact hq _ (((zSm.rf.tr f1 rfl rfl).tr f2 rfl rfl).tr f5 rfl rfl) h43
      · have h44 := h20.2 c21
        refine ⟨fun c45 => ?_, fun c45 => ?_⟩
        · have h46 := h44.1 c45
          refine ffm_worked h46 (fun r47 s48 f6 h52 => ?_)
          refine ffm_push h52 (fun s54 f7 h58 => ?_)
          exact hq _ ((((zSm.rf.tr f1 rfl rfl).tr f2 rfl rfl).tr f6 rfl rfl).tr f7 rfl rfl) h58
        · have h59 := h44.2 c45
          refine ⟨fun c60 => ?_, fun c60 => ?_⟩
          · have h61 := h59.1 c60
            refine ffm_worked h61 (fun r62 s63 f8 h67 => ?_)
            refine ffm_push h67 (fun s69 f9 h73 => ?_)
            exact hq _ ((((zSm.rf.tr f1 rfl rfl).tr f2 rfl rfl).tr f8 rfl rfl).tr f9 rfl rfl) h73
          · have h74 := h59.2 c60
            refine ffm_err h74 (fun s76 f10 h80 => ?_)
            exact hq _ (((zSm.rf.tr f1 rfl rfl).tr f2 rfl rfl).tr f10 rfl rfl) h80
    · have h81 := h18.2 c19
      intro z82 e83 R84
      have h85 := h81 z82 e83 R84
      refine ffm_read h85 (fun r86 s87 f11 h91 => ?_)
      refine ffm_push h91 (fun s93 f12 h97 => ?_)
      exact hq _ ((((zSm.rf.tr f1 rfl rfl).tr f2 rfl rfl).tr f11 rfl rfl).tr f12 rfl rfl) h97
  · have h98 := h16.2 c17
    intro z99 e100 R101
    have h102 := h98 z99 e100 R101
    refine ffm_read h102 (fun r103 s104 f13 h108 => ?_)
    refine ffm_push h108 (fun s110 f14 h114 => ?_)
    exact hq _ ((((zSm.rf.tr f1 rfl rfl).tr f2 rfl rfl).tr f13 rfl rfl).tr f14 rfl rfl) h114
theorem ffm_rel {s0 : zS} {a0 : Int} {a1 : Int} {Q Q' : zS → Prop} (hw : wr_rel s0 a0 a1 Q) (hq : ∀ (A' : zS), zSm s0 A' [88, 89, 90, 92] [87, 91] → Q A' → Q' A') : wr_rel s0 a0 a1 Q' := by
  unfold wr_rel at hw ⊢
  refine ⟨fun c1 => ?_, fun c1 => ?_⟩
  · have h2 := hw.1 c1
    refine ffm_pop h2 (fun r3 s4 f1 h8 => ?_)
    refine ffm_pop h8 (fun r9 s10 f2 h14 => ?_)
    obtain ⟨o15, h16⟩ := h14
    refine ⟨o15, ?_⟩
    obtain ⟨o17, h18⟩ := h16
    refine ⟨o17, ?_⟩
    refine ffm_related h18 (fun r19 s20 f3 h24 => ?_)
    refine ⟨fun c25 => ?_, fun c25 => ?_⟩
    · have h26 := h24.1 c25
      refine ⟨fun c27 => ?_, fun c27 => ?_⟩
      · have h28 := h26.1 c27
        refine ffm_push h28 (fun s30 f4 h34 => ?_)
        exact hq _ ((((zSm.rf.tr f1 rfl rfl).tr f2 rfl rfl).tr f3 rfl rfl).tr f4 rfl rfl) h34
      · have h35 := h26.2 c27
        refine ffm_push h35 (fun s37 f5 h41 => ?_)
        exact hq _ ((((zSm.rf.tr f1 rfl rfl).tr f2 rfl rfl).tr f3 rfl rfl).tr f5 rfl rfl) h41
    · have h42 := h24.2 c25
      obtain ⟨o43, h44⟩ := h42
      refine ⟨o43, ?_⟩
      obtain ⟨o45, h46⟩ := h44
      refine ⟨o45, ?_⟩
      refine ⟨fun c47 => ?_, fun c47 => ?_⟩
      · have h48 := h46.1 c47
        refine ⟨fun c49 => ?_, fun c49 => ?_⟩
        · have h50 := h48.1 c49
          refine ffm_push h50 (fun s52 f6 h56 => ?_)
          exact hq _ ((((zSm.rf.tr f1 rfl rfl).tr f2 rfl rfl).tr f3 rfl rfl).tr f6 rfl rfl) h56
        · have h57 := h48.2 c49
          refine ffm_push h57 (fun s59 f7 h63 => ?_)
          exact hq _ ((((zSm.rf.tr f1 rfl rfl).tr f2 rfl rfl).tr f3 rfl rfl).tr f7 rfl rfl) h63
      · have h64 := h46.2 c47
        refine ffm_push h64 (fun s66 f8 h70 => ?_)
        obtain ⟨o71, h72⟩ := h70
        refine ⟨o71, ?_⟩
        obtain ⟨o73, h74⟩ := h72
        refine ⟨o73, ?_⟩
        refine ffm_todoTask h74 (fun s76 f9 h80 => ?_)
        obtain ⟨o81, h82⟩ := h80
        refine ⟨o81, ?_⟩
        obtain ⟨o83, h84⟩ := h82
        refine ⟨o83, ?_⟩
        refine ffm_todoTask h84 (fun s86 f10 h90 => ?_)
        exact hq _ ((((((zSm.rf.tr f1 rfl rfl).tr f2 rfl rfl).tr f3 rfl rfl).tr f8 rfl rfl).tr f9 rfl rfl).tr f10 rfl rfl) h90
  · have h91 := hw.2 c1
    refine ffm_todoTask h91 (fun s93 f11 h97 => ?_)
    refine ffm_todoTask h97 (fun s99 f12 h103 => ?_)
    exact hq _ ((zSm.rf.tr f11 rfl rfl).tr f12 rfl rfl) h103
theorem ffm_limit {s0 : zS}  {Q Q' : Int → zS → Prop} (hw : wr_limit s0  Q) (hq : ∀ (e : Int) (A' : zS), zSm s0 A' [] [] → Q e A' → Q' e A') : wr_limit s0  Q' := by
  unfold wr_limit at hw ⊢
  refine ⟨fun c1 => ?_, fun c1 => ?_⟩
  · have h2 := hw.1 c1
    exact hq _ _ zSm.rf h2
  · have h3 := hw.2 c1
    obtain ⟨o4, h5⟩ := h3
    refine ⟨o4, ?_⟩
    obtain ⟨o6, h7⟩ := h5
    refine ⟨o6, ?_⟩
    exact hq _ _ zSm.rf h7
theorem ffj_enter_197 {Q Q' : zS → Prop}  {s0 : zS} {x5 : Int} {y0 : Int} (hq : ∀ (A' : zS), zSm s0 A' [88, 89, 90, 93, 94, 98] [87, 91, 95, 96, 97, 101, 102, 103, 104] → Q A' → Q' A')  (hw : wr_enter_197 Q  s0 x5 y0) : wr_enter_197 Q'  s0 x5 y0 := by
  unfold wr_enter_197 at hw ⊢
  refine ⟨fun c1 => ?_, fun c1 => ?_⟩
  · have h2 := hw.1 c1
    refine ffm_todoTask h2 (fun s4 f1 h8 => ?_)
    refine ⟨fun c9 => ?_, fun c9 => ?_⟩
    · have h10 := h8.1 c9
      refine ffm_todoTask h10 (fun s12 f2 h16 => ?_)
      exact hq _ ((zSm.rf.tr f1 rfl rfl).tr f2 rfl rfl) h16
    · have h17 := h8.2 c9
      refine ffm_todoTask h17 (fun s19 f3 h23 => ?_)
      exact hq _ ((zSm.rf.tr f1 rfl rfl).tr f3 rfl rfl) h23
  · have h24 := hw.2 c1
    refine ffm_todoTask h24 (fun s26 f4 h30 => ?_)
    refine ⟨fun c31 => ?_, fun c31 => ?_⟩
    · have h32 := h30.1 c31
      refine ffm_todoTask h32 (fun s34 f5 h38 => ?_)
      exact hq _ ((zSm.rf.tr f4 rfl rfl).tr f5 rfl rfl) h38
    · have h39 := h30.2 c31
      refine ffm_todoTask h39 (fun s41 f6 h45 => ?_)
      exact hq _ ((zSm.rf.tr f4 rfl rfl).tr f6 rfl rfl) h45
theorem ffb_enter_72 {Q Q' : zS → Prop} {k72 k72' : zS → Int → Int → Int → Int → Int → Prop} {s0 : zS} {x1 : Int} {x2 : Int} {x3 : Int} {x4 : Int} {x5 : Int} (hq : ∀ (A' : zS), zSm s0 A' [88, 89, 90, 93, 94, 98] [87, 91, 95, 96, 97, 101, 102, 103, 104] → Q A' → Q' A') (fk72 : ∀ (A' : zS) (x0 : Int) (x1 : Int) (x2 : Int) (x3 : Int) (x4 : Int), zSm s0 A' [88, 89, 90, 93, 94, 98] [87, 91, 95, 96, 97, 101, 102, 103, 104] → k72 A' x0 x1 x2 x3 x4 → k72' A' x0 x1 x2 x3 x4) (hw : wr_enter_72B Q k72 s0 x1 x2 x3 x4 x5) : wr_enter_72B Q' k72' s0 x1 x2 x3 x4 x5 := by
  unfold wr_enter_72B at hw ⊢
  obtain ⟨o1, h2⟩ := hw
  refine ⟨o1, ?_⟩
  obtain ⟨o3, h4⟩ := h2
  refine ⟨o3, ?_⟩
  refine ⟨fun c5 => ?_, fun c5 => ?_⟩
  · have h6 := h4.1 c5
    obtain ⟨o9, h10⟩ := h6
    refine ⟨o9, ?_⟩
    obtain ⟨o11, h12⟩ := h10
    refine ⟨o11, ?_⟩
    obtain ⟨o15, h16⟩ := h12
    refine ⟨o15, ?_⟩
    obtain ⟨o17, h18⟩ := h16
    refine ⟨o17, ?_⟩
    obtain ⟨o21, h22⟩ := h18
    refine ⟨o21, ?_⟩
    obtain ⟨o29, h30⟩ := h22
    refine ⟨o29, ?_⟩
    obtain ⟨o31, h32⟩ := h30
    refine ⟨o31, ?_⟩
    obtain ⟨o33, h34⟩ := h32
    refine ⟨o33, ?_⟩
    obtain ⟨o35, h36⟩ := h34
    refine ⟨o35, ?_⟩
    refine ⟨fun c37 => ?_, fun c37 => ?_⟩
    · have h38 := h36.1 c37
      exact ffj_enter_197 (fun A' f q => hq A' (((((((zSm.rf.pv rfl).pa rfl).pa rfl).pv rfl).pv rfl).pv rfl).tr f rfl rfl) q)  h38
    · have h39 := h36.2 c37
      exact ffj_enter_197 (fun A' f q => hq A' (((((((zSm.rf.pv rfl).pa rfl).pa rfl).pv rfl).pv rfl).pv rfl).tr f rfl rfl) q)  h39
  · have h40 := h4.2 c5
    refine ⟨fun c41 => ?_, fun c41 => ?_⟩
    · have h42 := h40.1 c41
      obtain ⟨o43, h44⟩ := h42
      refine ⟨o43, ?_⟩
      obtain ⟨o45, h46⟩ := h44
      refine ⟨o45, ?_⟩
      obtain ⟨o49, h50⟩ := h46
      refine ⟨o49, ?_⟩
      exact fk72 _ _ _ _ _ _ (zSm.rf.pa rfl) h50
    · have h51 := h40.2 c41
      obtain ⟨o52, h53⟩ := h51
      refine ⟨o52, ?_⟩
      obtain ⟨o54, h55⟩ := h53
      refine ⟨o54, ?_⟩
      obtain ⟨o56, h57⟩ := h55
      refine ⟨o56, ?_⟩
      obtain ⟨o58, h59⟩ := h57
      refine ⟨o58, ?_⟩
      obtain ⟨o62, h63⟩ := h59
      refine ⟨o62, ?_⟩
      exact fk72 _ _ _ _ _ _ (zSm.rf.pa rfl) h63
theorem ffl_enter_720 {Q Q' : zS → Prop}  : ∀ (m : Nat) (s0 : zS) (x1 : Int) (x2 : Int) (x3 : Int) (x4 : Int) (x5 : Int), (∀ (A' : zS), zSm s0 A' [88, 89, 90, 93, 94, 98] [87, 91, 95, 96, 97, 101, 102, 103, 104] → Q A' → Q' A') → wr_enter_72 Q  m s0 x1 x2 x3 x4 x5 → wr_enter_72 Q'  m s0 x1 x2 x3 x4 x5 := by
  intro m
  induction m with
  | zero => intro s0 x1 x2 x3 x4 x5 hq  hw; exact hw
  | succ m ih => intro s0 x1 x2 x3 x4 x5 hq  hw; exact ffb_enter_72 hq  (fun A' y0 y1 y2 y3 y4 f1 q => ih A' y0 y1 y2 y3 y4 (fun A' f q => hq A' (f1.tr f rfl rfl) q)  q) hw
theorem ffm_enter {s0 : zS} {a0 : Int} {a1 : Int} {a2 : Int} {Q Q' : zS → Prop} (hw : wr_enter s0 a0 a1 a2 Q) (hq : ∀ (A' : zS), zSm s0 A' [88, 89, 90, 93, 94, 98] [87, 91, 95, 96, 97, 101, 102, 103, 104] → Q A' → Q' A') : wr_enter s0 a0 a1 a2 Q' := by
  unfold wr_enter at hw ⊢
  refine ffm_burns hw (fun r1 s2 f1 h6 => ?_)
  refine ⟨fun c7 => ?_, fun c7 => ?_⟩
  · have h8 := h6.1 c7
    refine ⟨fun c9 => ?_, fun c9 => ?_⟩
    · have h10 := h8.1 c9
      refine ffm_err h10 (fun s12 f2 h16 => ?_)
      exact hq _ ((zSm.rf.tr f1 rfl rfl).tr f2 rfl rfl) h16
    · have h17 := h8.2 c9
      obtain ⟨o18, h19⟩ := h17
      refine ⟨o18, ?_⟩
      obtain ⟨o20, h21⟩ := h19
      refine ⟨o20, ?_⟩
      refine ffm_limit h21 (fun r22 s23 f3 h27 => ?_)
      obtain ⟨o28, h29⟩ := h27
      refine ⟨o28, ?_⟩
      refine ⟨fun c30 => ?_, fun c30 => ?_⟩
      · have h31 := h29.1 c30
        obtain ⟨o32, h33⟩ := h31
        refine ⟨o32, ?_⟩
        obtain ⟨o34, h35⟩ := h33
        refine ⟨o34, ?_⟩
        obtain ⟨o38, h39⟩ := h35
        refine ⟨o38, ?_⟩
        obtain ⟨o40, h41⟩ := h39
        refine ⟨o40, ?_⟩
        obtain ⟨o42, h43⟩ := h41
        refine ⟨o42, ?_⟩
        obtain ⟨o46, h47⟩ := h43
        refine ⟨o46, ?_⟩
        obtain ⟨m48, h49⟩ := h47
        exact ⟨m48, ffl_enter_720 m48 _ _ _ _ _ _ (fun A' f q => hq A' (((((zSm.rf.tr f1 rfl rfl).tr f3 rfl rfl).pa rfl).pa rfl).tr f rfl rfl) q)  h49⟩
      · have h50 := h29.2 c30
        refine ffm_err h50 (fun s52 f4 h56 => ?_)
        exact hq _ (((zSm.rf.tr f1 rfl rfl).tr f3 rfl rfl).tr f4 rfl rfl) h56
  · have h57 := h6.2 c7
    exact hq _ (zSm.rf.tr f1 rfl rfl) h57
theorem ffm_arg {s0 : zS} {a0 : Int} {a1 : Int} {Q Q' : Int → zS → Prop} (hw : wr_arg s0 a0 a1 Q) (hq : ∀ (e : Int) (A' : zS), zSm s0 A' [] [] → Q e A' → Q' e A') : wr_arg s0 a0 a1 Q' := by
  unfold wr_arg at hw ⊢
  refine ⟨fun c1 => ?_, fun c1 => ?_⟩
  · have h2 := hw.1 c1
    exact hq _ _ zSm.rf h2
  · have h3 := hw.2 c1
    obtain ⟨o4, h5⟩ := h3
    refine ⟨o4, ?_⟩
    obtain ⟨o6, h7⟩ := h5
    refine ⟨o6, ?_⟩
    intro R9
    have h8 := h7 R9
    exact hq _ _ zSm.rf h8
theorem ffm_outByte {s0 : zS} {a0 : Int} {Q Q' : zS → Prop} (hw : wr_outByte s0 a0 Q) (hq : ∀ (A' : zS), zSm s0 A' [115, 116] [] → Q A' → Q' A') : wr_outByte s0 a0 Q' := by
  unfold wr_outByte at hw ⊢
  obtain ⟨o1, h2⟩ := hw
  refine ⟨o1, ?_⟩
  obtain ⟨o3, h4⟩ := h2
  refine ⟨o3, ?_⟩
  refine ⟨fun c5 => ?_, fun c5 => ?_⟩
  · have h6 := h4.1 c5
    obtain ⟨o7, h8⟩ := h6
    refine ⟨o7, ?_⟩
    obtain ⟨o9, h10⟩ := h8
    refine ⟨o9, ?_⟩
    obtain ⟨o11, h12⟩ := h10
    refine ⟨o11, ?_⟩
    obtain ⟨o13, h14⟩ := h12
    refine ⟨o13, ?_⟩
    obtain ⟨o17, h18⟩ := h14
    refine ⟨o17, ?_⟩
    obtain ⟨o19, h20⟩ := h18
    refine ⟨o19, ?_⟩
    obtain ⟨o21, h22⟩ := h20
    refine ⟨o21, ?_⟩
    obtain ⟨o23, h24⟩ := h22
    refine ⟨o23, ?_⟩
    obtain ⟨o25, h26⟩ := h24
    refine ⟨o25, ?_⟩
    exact hq _ ((zSm.rf.pa rfl).pa rfl) h26
  · have h29 := h4.2 c5
    exact hq _ zSm.rf h29
theorem ffb_decimal_136 {Q Q' : zS → Prop} {k136 k136' : zS → Int → Prop} {s0 : zS} {x8 : Int} (hq : ∀ (A' : zS), zSm s0 A' [115, 116, 118] [] → Q A' → Q' A') (fk136 : ∀ (A' : zS) (x0 : Int), zSm s0 A' [115, 116, 118] [] → k136 A' x0 → k136' A' x0) (hw : wr_decimal_136B Q k136 s0 x8) : wr_decimal_136B Q' k136' s0 x8 := by
  unfold wr_decimal_136B at hw ⊢
  refine ⟨fun c1 => ?_, fun c1 => ?_⟩
  · have h2 := hw.1 c1
    exact hq _ zSm.rf h2
  · have h3 := hw.2 c1
    obtain ⟨o4, h5⟩ := h3
    refine ⟨o4, ?_⟩
    obtain ⟨o6, h7⟩ := h5
    refine ⟨o6, ?_⟩
    refine ffm_outByte h7 (fun s9 f1 h13 => ?_)
    obtain ⟨o14, h15⟩ := h13
    refine ⟨o14, ?_⟩
    exact fk136 _ _ (zSm.rf.tr f1 rfl rfl) h15
theorem ffl_decimal_1360 {Q Q' : zS → Prop}  : ∀ (m : Nat) (s0 : zS) (x8 : Int), (∀ (A' : zS), zSm s0 A' [115, 116, 118] [] → Q A' → Q' A') → wr_decimal_136 Q  m s0 x8 → wr_decimal_136 Q'  m s0 x8 := by
  intro m
  induction m with
  | zero => intro s0 x8 hq  hw; exact hw
  | succ m ih => intro s0 x8 hq  hw; exact ffb_decimal_136 hq  (fun A' y0 f1 q => ih A' y0 (fun A' f q => hq A' (f1.tr f rfl rfl) q)  q) hw
theorem ffb_decimal_102 {Q Q' : zS → Prop} {k102 k102' : zS → Int → Int → Int → Int → Prop} {s0 : zS} {x1 : Int} {x2 : Int} {x5 : Int} {x8 : Int} (hq : ∀ (A' : zS), zSm s0 A' [115, 116, 118] [] → Q A' → Q' A') (fk102 : ∀ (A' : zS) (x0 : Int) (x1 : Int) (x2 : Int) (x3 : Int), zSm s0 A' [115, 116, 118] [] → k102 A' x0 x1 x2 x3 → k102' A' x0 x1 x2 x3) (hw : wr_decimal_102B Q k102 s0 x1 x2 x5 x8) : wr_decimal_102B Q' k102' s0 x1 x2 x5 x8 := by
  unfold wr_decimal_102B at hw ⊢
  refine ⟨fun c1 => ?_, fun c1 => ?_⟩
  · have h2 := hw.1 c1
    refine ⟨fun c3 => ?_, fun c3 => ?_⟩
    · have h4 := h2.1 c3
      obtain ⟨o5, h6⟩ := h4
      refine ⟨o5, ?_⟩
      obtain ⟨m7, h8⟩ := h6
      exact ⟨m7, ffl_decimal_1360 m7 _ _ (fun A' f q => hq A' (zSm.rf.tr f rfl rfl) q)  h8⟩
    · have h9 := h2.2 c3
      refine ffm_outByte h9 (fun s11 f1 h15 => ?_)
      obtain ⟨o16, h17⟩ := h15
      refine ⟨o16, ?_⟩
      obtain ⟨m18, h19⟩ := h17
      exact ⟨m18, ffl_decimal_1360 m18 _ _ (fun A' f q => hq A' ((zSm.rf.tr f1 rfl rfl).tr f rfl rfl) q)  h19⟩
  · have h20 := hw.2 c1
    refine ffm_outByte h20 (fun s22 f2 h26 => ?_)
    obtain ⟨o27, h28⟩ := h26
    refine ⟨o27, ?_⟩
    exact fk102 _ _ _ _ _ (zSm.rf.tr f2 rfl rfl) h28
theorem ffl_decimal_1020 {Q Q' : zS → Prop}  : ∀ (m : Nat) (s0 : zS) (x1 : Int) (x2 : Int) (x5 : Int) (x8 : Int), (∀ (A' : zS), zSm s0 A' [115, 116, 118] [] → Q A' → Q' A') → wr_decimal_102 Q  m s0 x1 x2 x5 x8 → wr_decimal_102 Q'  m s0 x1 x2 x5 x8 := by
  intro m
  induction m with
  | zero => intro s0 x1 x2 x5 x8 hq  hw; exact hw
  | succ m ih => intro s0 x1 x2 x5 x8 hq  hw; exact ffb_decimal_102 hq  (fun A' y0 y1 y2 y3 f1 q => ih A' y0 y1 y2 y3 (fun A' f q => hq A' (f1.tr f rfl rfl) q)  q) hw
theorem ffb_decimal_35 {Q Q' : zS → Prop} {k35 k35' : zS → Int → Int → Int → Int → Int → Prop} {s0 : zS} {x1 : Int} {x2 : Int} {x3 : Int} {x5 : Int} {x6 : Int} (hq : ∀ (A' : zS), zSm s0 A' [115, 116, 118] [] → Q A' → Q' A') (fk35 : ∀ (A' : zS) (x0 : Int) (x1 : Int) (x2 : Int) (x3 : Int) (x4 : Int), zSm s0 A' [115, 116, 118] [] → k35 A' x0 x1 x2 x3 x4 → k35' A' x0 x1 x2 x3 x4) (hw : wr_decimal_35B Q k35 s0 x1 x2 x3 x5 x6) : wr_decimal_35B Q' k35' s0 x1 x2 x3 x5 x6 := by
  unfold wr_decimal_35B at hw ⊢
  refine ⟨fun c1 => ?_, fun c1 => ?_⟩
  · have h2 := hw.1 c1
    refine ⟨fun c3 => ?_, fun c3 => ?_⟩
    · have h4 := h2.1 c3
      obtain ⟨m5, h6⟩ := h4
      exact ⟨m5, ffl_decimal_1020 m5 _ _ _ _ _ (fun A' f q => hq A' (zSm.rf.tr f rfl rfl) q)  h6⟩
    · have h7 := h2.2 c3
      obtain ⟨o8, h9⟩ := h7
      refine ⟨o8, ?_⟩
      obtain ⟨m10, h11⟩ := h9
      exact ⟨m10, ffl_decimal_1020 m10 _ _ _ _ _ (fun A' f q => hq A' (zSm.rf.tr f rfl rfl) q)  h11⟩
  · have h12 := hw.2 c1
    obtain ⟨o13, h14⟩ := h12
    refine ⟨o13, ?_⟩
    obtain ⟨o15, h16⟩ := h14
    refine ⟨o15, ?_⟩
    refine ⟨fun c19 => ?_, fun c19 => ?_⟩
    · have h20 := h16.1 c19
      obtain ⟨o21, h22⟩ := h20
      refine ⟨o21, ?_⟩
      exact fk35 _ _ _ _ _ _ (zSm.rf.pa rfl) h22
    · have h23 := h16.2 c19
      obtain ⟨o24, h25⟩ := h23
      refine ⟨o24, ?_⟩
      exact fk35 _ _ _ _ _ _ (zSm.rf.pa rfl) h25
theorem ffl_decimal_350 {Q Q' : zS → Prop}  : ∀ (m : Nat) (s0 : zS) (x1 : Int) (x2 : Int) (x3 : Int) (x5 : Int) (x6 : Int), (∀ (A' : zS), zSm s0 A' [115, 116, 118] [] → Q A' → Q' A') → wr_decimal_35 Q  m s0 x1 x2 x3 x5 x6 → wr_decimal_35 Q'  m s0 x1 x2 x3 x5 x6 := by
  intro m
  induction m with
  | zero => intro s0 x1 x2 x3 x5 x6 hq  hw; exact hw
  | succ m ih => intro s0 x1 x2 x3 x5 x6 hq  hw; exact ffb_decimal_35 hq  (fun A' y0 y1 y2 y3 y4 f1 q => ih A' y0 y1 y2 y3 y4 (fun A' f q => hq A' (f1.tr f rfl rfl) q)  q) hw
theorem ffm_decimal {s0 : zS} {a0 : Int} {a1 : Int} {Q Q' : zS → Prop} (hw : wr_decimal s0 a0 a1 Q) (hq : ∀ (A' : zS), zSm s0 A' [115, 116, 118] [] → Q A' → Q' A') : wr_decimal s0 a0 a1 Q' := by
  unfold wr_decimal at hw ⊢
  obtain ⟨o1, h2⟩ := hw
  refine ⟨o1, ?_⟩
  obtain ⟨o3, h4⟩ := h2
  refine ⟨o3, ?_⟩
  refine ⟨fun c5 => ?_, fun c5 => ?_⟩
  · have h6 := h4.1 c5
    refine ⟨fun c7 => ?_, fun c7 => ?_⟩
    · have h8 := h6.1 c7
      obtain ⟨m9, h10⟩ := h8
      exact ⟨m9, ffl_decimal_350 m9 _ _ _ _ _ _ (fun A' f q => hq A' (zSm.rf.tr f rfl rfl) q)  h10⟩
    · have h11 := h6.2 c7
      obtain ⟨o12, h13⟩ := h11
      refine ⟨o12, ?_⟩
      obtain ⟨m14, h15⟩ := h13
      exact ⟨m14, ffl_decimal_350 m14 _ _ _ _ _ _ (fun A' f q => hq A' (zSm.rf.tr f rfl rfl) q)  h15⟩
  · have h16 := h4.2 c5
    exact hq _ zSm.rf h16
theorem ffb_writeString_69 {Q Q' : zS → Prop} {k69 k69' : zS → Int → Int → Int → Prop} {s0 : zS} {x1 : Int} {x2 : Int} {x3 : Int} (hq : ∀ (A' : zS), zSm s0 A' [115, 116] [102, 103, 104] → Q A' → Q' A') (fk69 : ∀ (A' : zS) (x0 : Int) (x1 : Int) (x2 : Int), zSm s0 A' [115, 116] [102, 103, 104] → k69 A' x0 x1 x2 → k69' A' x0 x1 x2) (hw : wr_writeString_69B Q k69 s0 x1 x2 x3) : wr_writeString_69B Q' k69' s0 x1 x2 x3 := by
  unfold wr_writeString_69B at hw ⊢
  refine ⟨fun c1 => ?_, fun c1 => ?_⟩
  · have h2 := hw.1 c1
    exact hq _ zSm.rf h2
  · have h3 := hw.2 c1
    obtain ⟨o4, h5⟩ := h3
    refine ⟨o4, ?_⟩
    obtain ⟨o6, h7⟩ := h5
    refine ⟨o6, ?_⟩
    refine ffm_outByte h7 (fun s9 f1 h13 => ?_)
    obtain ⟨o14, h15⟩ := h13
    refine ⟨o14, ?_⟩
    exact fk69 _ _ _ _ (zSm.rf.tr f1 rfl rfl) h15
theorem ffl_writeString_690 {Q Q' : zS → Prop}  : ∀ (m : Nat) (s0 : zS) (x1 : Int) (x2 : Int) (x3 : Int), (∀ (A' : zS), zSm s0 A' [115, 116] [102, 103, 104] → Q A' → Q' A') → wr_writeString_69 Q  m s0 x1 x2 x3 → wr_writeString_69 Q'  m s0 x1 x2 x3 := by
  intro m
  induction m with
  | zero => intro s0 x1 x2 x3 hq  hw; exact hw
  | succ m ih => intro s0 x1 x2 x3 hq  hw; exact ffb_writeString_69 hq  (fun A' y0 y1 y2 f1 q => ih A' y0 y1 y2 (fun A' f q => hq A' (f1.tr f rfl rfl) q)  q) hw
theorem ffm_writeString {s0 : zS} {a0 : Int} {Q Q' : zS → Prop} (hw : wr_writeString s0 a0 Q) (hq : ∀ (A' : zS), zSm s0 A' [115, 116] [102, 103, 104] → Q A' → Q' A') : wr_writeString s0 a0 Q' := by
  unfold wr_writeString at hw ⊢
  refine ⟨fun c1 => ?_, fun c1 => ?_⟩
  · have h2 := hw.1 c1
    refine ffm_err h2 (fun s4 f1 h8 => ?_)
    exact hq _ (zSm.rf.tr f1 rfl rfl) h8
  · have h9 := hw.2 c1
    refine ⟨fun c10 => ?_, fun c10 => ?_⟩
    · have h11 := h9.1 c10
      obtain ⟨o12, h13⟩ := h11
      refine ⟨o12, ?_⟩
      obtain ⟨o14, h15⟩ := h13
      refine ⟨o14, ?_⟩
      obtain ⟨o16, h17⟩ := h15
      refine ⟨o16, ?_⟩
      refine ⟨fun c18 => ?_, fun c18 => ?_⟩
      · have h19 := h17.1 c18
        obtain ⟨o20, h21⟩ := h19
        refine ⟨o20, ?_⟩
        obtain ⟨o22, h23⟩ := h21
        refine ⟨o22, ?_⟩
        refine ⟨fun c24 => ?_, fun c24 => ?_⟩
        · have h25 := h23.1 c24
          obtain ⟨m26, h27⟩ := h25
          exact ⟨m26, ffl_writeString_690 m26 _ _ _ _ (fun A' f q => hq A' (zSm.rf.tr f rfl rfl) q)  h27⟩
        · have h28 := h23.2 c24
          exact hq _ zSm.rf h28
      · have h29 := h17.2 c18
        refine ffm_err h29 (fun s31 f2 h35 => ?_)
        exact hq _ (zSm.rf.tr f2 rfl rfl) h35
    · have h36 := h9.2 c10
      refine ffm_err h36 (fun s38 f3 h42 => ?_)
      exact hq _ (zSm.rf.tr f3 rfl rfl) h42
theorem ffm_nextByte {s0 : zS}  {Q Q' : Int → zS → Prop} (hw : wr_nextByte s0  Q) (hq : ∀ (e : Int) (A' : zS), zSm s0 A' [113] [] → Q e A' → Q' e A') : wr_nextByte s0  Q' := by
  unfold wr_nextByte at hw ⊢
  obtain ⟨o1, h2⟩ := hw
  refine ⟨o1, ?_⟩
  obtain ⟨o3, h4⟩ := h2
  refine ⟨o3, ?_⟩
  obtain ⟨o5, h6⟩ := h4
  refine ⟨o5, ?_⟩
  obtain ⟨o7, h8⟩ := h6
  refine ⟨o7, ?_⟩
  refine ⟨fun c9 => ?_, fun c9 => ?_⟩
  · have h10 := h8.1 c9
    obtain ⟨o11, h12⟩ := h10
    refine ⟨o11, ?_⟩
    obtain ⟨o13, h14⟩ := h12
    refine ⟨o13, ?_⟩
    obtain ⟨o15, h16⟩ := h14
    refine ⟨o15, ?_⟩
    obtain ⟨o17, h18⟩ := h16
    refine ⟨o17, ?_⟩
    obtain ⟨o19, h20⟩ := h18
    refine ⟨o19, ?_⟩
    obtain ⟨o23, h24⟩ := h20
    refine ⟨o23, ?_⟩
    obtain ⟨o25, h26⟩ := h24
    refine ⟨o25, ?_⟩
    obtain ⟨o27, h28⟩ := h26
    refine ⟨o27, ?_⟩
    obtain ⟨o29, h30⟩ := h28
    refine ⟨o29, ?_⟩
    exact hq _ _ (zSm.rf.pa rfl) h30
  · have h31 := h8.2 c9
    exact hq _ _ zSm.rf h31
theorem ffb_layVector_16 {Q Q' : Int → zS → Prop} {k16 k16' : zS → Int → Int → Int → Int → Prop} {s0 : zS} {x1 : Int} {x2 : Int} {x4 : Int} {x7 : Int} (hq : ∀ (e : Int) (A' : zS), zSm s0 A' [107, 108] [106] → Q e A' → Q' e A') (fk16 : ∀ (A' : zS) (x0 : Int) (x1 : Int) (x2 : Int) (x3 : Int), zSm s0 A' [107, 108] [106] → k16 A' x0 x1 x2 x3 → k16' A' x0 x1 x2 x3) (hw : wr_layVector_16B Q k16 s0 x1 x2 x4 x7) : wr_layVector_16B Q' k16' s0 x1 x2 x4 x7 := by
  unfold wr_layVector_16B at hw ⊢
  refine ⟨fun c1 => ?_, fun c1 => ?_⟩
  · have h2 := hw.1 c1
    obtain ⟨o3, h4⟩ := h2
    refine ⟨o3, ?_⟩
    obtain ⟨o5, h6⟩ := h4
    refine ⟨o5, ?_⟩
    obtain ⟨o7, h8⟩ := h6
    refine ⟨o7, ?_⟩
    obtain ⟨o11, h12⟩ := h8
    refine ⟨o11, ?_⟩
    obtain ⟨o13, h14⟩ := h12
    refine ⟨o13, ?_⟩
    obtain ⟨o15, h16⟩ := h14
    refine ⟨o15, ?_⟩
    obtain ⟨o19, h20⟩ := h16
    refine ⟨o19, ?_⟩
    exact hq _ _ (((zSm.rf.pa rfl).pa rfl).pv rfl) h20
  · have h23 := hw.2 c1
    obtain ⟨o24, h25⟩ := h23
    refine ⟨o24, ?_⟩
    obtain ⟨o26, h27⟩ := h25
    refine ⟨o26, ?_⟩
    obtain ⟨o28, h29⟩ := h27
    refine ⟨o28, ?_⟩
    obtain ⟨o30, h31⟩ := h29
    refine ⟨o30, ?_⟩
    obtain ⟨o34, h35⟩ := h31
    refine ⟨o34, ?_⟩
    obtain ⟨o36, h37⟩ := h35
    refine ⟨o36, ?_⟩
    obtain ⟨o38, h39⟩ := h37
    refine ⟨o38, ?_⟩
    obtain ⟨o40, h41⟩ := h39
    refine ⟨o40, ?_⟩
    obtain ⟨o44, h45⟩ := h41
    refine ⟨o44, ?_⟩
    exact fk16 _ _ _ _ _ ((zSm.rf.pa rfl).pa rfl) h45
theorem ffl_layVector_160 {Q Q' : Int → zS → Prop}  : ∀ (m : Nat) (s0 : zS) (x1 : Int) (x2 : Int) (x4 : Int) (x7 : Int), (∀ (e : Int) (A' : zS), zSm s0 A' [107, 108] [106] → Q e A' → Q' e A') → wr_layVector_16 Q  m s0 x1 x2 x4 x7 → wr_layVector_16 Q'  m s0 x1 x2 x4 x7 := by
  intro m
  induction m with
  | zero => intro s0 x1 x2 x4 x7 hq  hw; exact hw
  | succ m ih => intro s0 x1 x2 x4 x7 hq  hw; exact ffb_layVector_16 hq  (fun A' y0 y1 y2 y3 f1 q => ih A' y0 y1 y2 y3 (fun e A' f q => hq e A' (f1.tr f rfl rfl) q)  q) hw
theorem ffm_layVector {s0 : zS} {a0 : Int} {a1 : Int} {a2 : Int} {a3 : Int} {Q Q' : Int → zS → Prop} (hw : wr_layVector s0 a0 a1 a2 a3 Q) (hq : ∀ (e : Int) (A' : zS), zSm s0 A' [107, 108] [106] → Q e A' → Q' e A') : wr_layVector s0 a0 a1 a2 a3 Q' := by
  unfold wr_layVector at hw ⊢
  refine ⟨fun c1 => ?_, fun c1 => ?_⟩
  · have h2 := hw.1 c1
    obtain ⟨m3, h4⟩ := h2
    exact ⟨m3, ffl_layVector_160 m3 _ _ _ _ _ (fun e A' f q => hq e A' (zSm.rf.tr f rfl rfl) q)  h4⟩
  · have h5 := hw.2 c1
    exact hq _ _ zSm.rf h5
theorem ffb_getVector_46 {Q Q' : Int → zS → Prop} {k46 k46' : zS → Int → Int → Int → Int → Prop} {s0 : zS} {x2 : Int} {x4 : Int} {x5 : Int} {x7 : Int} (hq : ∀ (e : Int) (A' : zS), zSm s0 A' [107, 108] [106] → Q e A' → Q' e A') (fk46 : ∀ (A' : zS) (x0 : Int) (x1 : Int) (x2 : Int) (x3 : Int), zSm s0 A' [107, 108] [106] → k46 A' x0 x1 x2 x3 → k46' A' x0 x1 x2 x3) (hw : wr_getVector_46B Q k46 s0 x2 x4 x5 x7) : wr_getVector_46B Q' k46' s0 x2 x4 x5 x7 := by
  unfold wr_getVector_46B at hw ⊢
  refine ⟨fun c1 => ?_, fun c1 => ?_⟩
  · have h2 := hw.1 c1
    obtain ⟨o3, h4⟩ := h2
    refine ⟨o3, ?_⟩
    refine ffm_layVector h4 (fun r5 s6 f1 h10 => ?_)
    exact hq _ _ (zSm.rf.tr f1 rfl rfl) h10
  · have h11 := hw.2 c1
    obtain ⟨o12, h13⟩ := h11
    refine ⟨o12, ?_⟩
    obtain ⟨o14, h15⟩ := h13
    refine ⟨o14, ?_⟩
    obtain ⟨o16, h17⟩ := h15
    refine ⟨o16, ?_⟩
    obtain ⟨o18, h19⟩ := h17
    refine ⟨o18, ?_⟩
    obtain ⟨o20, h21⟩ := h19
    refine ⟨o20, ?_⟩
    obtain ⟨o22, h23⟩ := h21
    refine ⟨o22, ?_⟩
    refine ⟨fun c24 => ?_, fun c24 => ?_⟩
    · have h25 := h23.1 c24
      obtain ⟨o26, h27⟩ := h25
      refine ⟨o26, ?_⟩
      obtain ⟨o28, h29⟩ := h27
      refine ⟨o28, ?_⟩
      obtain ⟨o30, h31⟩ := h29
      refine ⟨o30, ?_⟩
      exact fk46 _ _ _ _ _ zSm.rf h31
    · have h32 := h23.2 c24
      refine ffm_layVector h32 (fun r33 s34 f2 h38 => ?_)
      exact hq _ _ (zSm.rf.tr f2 rfl rfl) h38
theorem ffl_getVector_460 {Q Q' : Int → zS → Prop}  : ∀ (m : Nat) (s0 : zS) (x2 : Int) (x4 : Int) (x5 : Int) (x7 : Int), (∀ (e : Int) (A' : zS), zSm s0 A' [107, 108] [106] → Q e A' → Q' e A') → wr_getVector_46 Q  m s0 x2 x4 x5 x7 → wr_getVector_46 Q'  m s0 x2 x4 x5 x7 := by
  intro m
  induction m with
  | zero => intro s0 x2 x4 x5 x7 hq  hw; exact hw
  | succ m ih => intro s0 x2 x4 x5 x7 hq  hw; exact ffb_getVector_46 hq  (fun A' y0 y1 y2 y3 f1 q => ih A' y0 y1 y2 y3 (fun e A' f q => hq e A' (f1.tr f rfl rfl) q)  q) hw
theorem ffm_getVector {s0 : zS} {a0 : Int} {Q Q' : Int → zS → Prop} (hw : wr_getVector s0 a0 Q) (hq : ∀ (e : Int) (A' : zS), zSm s0 A' [107, 108] [106] → Q e A' → Q' e A') : wr_getVector s0 a0 Q' := by
  unfold wr_getVector at hw ⊢
  refine ⟨fun c1 => ?_, fun c1 => ?_⟩
  · have h2 := hw.1 c1
    exact hq _ _ zSm.rf h2
  · have h3 := hw.2 c1
    refine ⟨fun c4 => ?_, fun c4 => ?_⟩
    · have h5 := h3.1 c4
      obtain ⟨o6, h7⟩ := h5
      refine ⟨o6, ?_⟩
      obtain ⟨o8, h9⟩ := h7
      refine ⟨o8, ?_⟩
      obtain ⟨o10, h11⟩ := h9
      refine ⟨o10, ?_⟩
      obtain ⟨o12, h13⟩ := h11
      refine ⟨o12, ?_⟩
      obtain ⟨m14, h15⟩ := h13
      exact ⟨m14, ffl_getVector_460 m14 _ _ _ _ _ (fun e A' f q => hq e A' (zSm.rf.tr f rfl rfl) q)  h15⟩
    · have h16 := h3.2 c4
      exact hq _ _ zSm.rf h16
theorem ffb_freeVector_55 {Q Q' : zS → Prop} {k55 k55' : zS → Int → Prop} {s0 : zS} {x2 : Int} (hq : ∀ (A' : zS), zSm s0 A' [107, 108] [102, 103, 104, 106] → Q A' → Q' A') (fk55 : ∀ (A' : zS) (x0 : Int), zSm s0 A' [107, 108] [102, 103, 104, 106] → k55 A' x0 → k55' A' x0) (hw : wr_freeVector_55B Q k55 s0 x2) : wr_freeVector_55B Q' k55' s0 x2 := by
  unfold wr_freeVector_55B at hw ⊢
  refine ⟨fun c1 => ?_, fun c1 => ?_⟩
  · have h2 := hw.1 c1
    exact hq _ zSm.rf h2
  · have h3 := hw.2 c1
    obtain ⟨o4, h5⟩ := h3
    refine ⟨o4, ?_⟩
    obtain ⟨o6, h7⟩ := h5
    refine ⟨o6, ?_⟩
    obtain ⟨o8, h9⟩ := h7
    refine ⟨o8, ?_⟩
    obtain ⟨o10, h11⟩ := h9
    refine ⟨o10, ?_⟩
    obtain ⟨o14, h15⟩ := h11
    refine ⟨o14, ?_⟩
    obtain ⟨o16, h17⟩ := h15
    refine ⟨o16, ?_⟩
    obtain ⟨o18, h19⟩ := h17
    refine ⟨o18, ?_⟩
    obtain ⟨o20, h21⟩ := h19
    refine ⟨o20, ?_⟩
    exact fk55 _ _ ((zSm.rf.pa rfl).pa rfl) h21
theorem ffl_freeVector_550 {Q Q' : zS → Prop}  : ∀ (m : Nat) (s0 : zS) (x2 : Int), (∀ (A' : zS), zSm s0 A' [107, 108] [102, 103, 104, 106] → Q A' → Q' A') → wr_freeVector_55 Q  m s0 x2 → wr_freeVector_55 Q'  m s0 x2 := by
  intro m
  induction m with
  | zero => intro s0 x2 hq  hw; exact hw
  | succ m ih => intro s0 x2 hq  hw; exact ffb_freeVector_55 hq  (fun A' y0 f1 q => ih A' y0 (fun A' f q => hq A' (f1.tr f rfl rfl) q)  q) hw
theorem ffb_freeVector_7 {Q Q' : zS → Prop} {k7 k7' : zS → Int → Int → Prop} {s0 : zS} {x1 : Int} {x2 : Int} (hq : ∀ (A' : zS), zSm s0 A' [107, 108] [102, 103, 104, 106] → Q A' → Q' A') (fk7 : ∀ (A' : zS) (x0 : Int) (x1 : Int), zSm s0 A' [107, 108] [102, 103, 104, 106] → k7 A' x0 x1 → k7' A' x0 x1) (hw : wr_freeVector_7B Q k7 s0 x1 x2) : wr_freeVector_7B Q' k7' s0 x1 x2 := by
  unfold wr_freeVector_7B at hw ⊢
  refine ⟨fun c1 => ?_, fun c1 => ?_⟩
  · have h2 := hw.1 c1
    refine ⟨fun c3 => ?_, fun c3 => ?_⟩
    · have h4 := h2.1 c3
      obtain ⟨o5, h6⟩ := h4
      refine ⟨o5, ?_⟩
      obtain ⟨m9, h10⟩ := h6
      exact ⟨m9, ffl_freeVector_550 m9 _ _ (fun A' f q => hq A' ((zSm.rf.pv rfl).tr f rfl rfl) q)  h10⟩
    · have h11 := h2.2 c3
      refine ffm_err h11 (fun s13 f1 h17 => ?_)
      exact hq _ (zSm.rf.tr f1 rfl rfl) h17
  · have h18 := hw.2 c1
    obtain ⟨o19, h20⟩ := h18
    refine ⟨o19, ?_⟩
    obtain ⟨o21, h22⟩ := h20
    refine ⟨o21, ?_⟩
    refine ⟨fun c23 => ?_, fun c23 => ?_⟩
    · have h24 := h22.1 c23
      refine ⟨fun c25 => ?_, fun c25 => ?_⟩
      · have h26 := h24.1 c25
        obtain ⟨o27, h28⟩ := h26
        refine ⟨o27, ?_⟩
        obtain ⟨m31, h32⟩ := h28
        exact ⟨m31, ffl_freeVector_550 m31 _ _ (fun A' f q => hq A' ((zSm.rf.pv rfl).tr f rfl rfl) q)  h32⟩
      · have h33 := h24.2 c25
        refine ffm_err h33 (fun s35 f2 h39 => ?_)
        exact hq _ (zSm.rf.tr f2 rfl rfl) h39
    · have h40 := h22.2 c23
      obtain ⟨o41, h42⟩ := h40
      refine ⟨o41, ?_⟩
      exact fk7 _ _ _ zSm.rf h42
theorem ffl_freeVector_70 {Q Q' : zS → Prop}  : ∀ (m : Nat) (s0 : zS) (x1 : Int) (x2 : Int), (∀ (A' : zS), zSm s0 A' [107, 108] [102, 103, 104, 106] → Q A' → Q' A') → wr_freeVector_7 Q  m s0 x1 x2 → wr_freeVector_7 Q'  m s0 x1 x2 := by
  intro m
  induction m with
  | zero => intro s0 x1 x2 hq  hw; exact hw
  | succ m ih => intro s0 x1 x2 hq  hw; exact ffb_freeVector_7 hq  (fun A' y0 y1 f1 q => ih A' y0 y1 (fun A' f q => hq A' (f1.tr f rfl rfl) q)  q) hw
theorem ffm_freeVector {s0 : zS} {a0 : Int} {Q Q' : zS → Prop} (hw : wr_freeVector s0 a0 Q) (hq : ∀ (A' : zS), zSm s0 A' [107, 108] [102, 103, 104, 106] → Q A' → Q' A') : wr_freeVector s0 a0 Q' := by
  unfold wr_freeVector at hw ⊢
  refine ⟨fun c1 => ?_, fun c1 => ?_⟩
  · have h2 := hw.1 c1
    obtain ⟨m3, h4⟩ := h2
    exact ⟨m3, ffl_freeVector_70 m3 _ _ _ (fun A' f q => hq A' (zSm.rf.tr f rfl rfl) q)  h4⟩
  · have h5 := hw.2 c1
    exact hq _ zSm.rf h5
theorem ffm_peek {s0 : zS}  {Q Q' : Int → zS → Prop} (hw : wr_peek s0  Q) (hq : ∀ (e : Int) (A' : zS), zSm s0 A' [] [] → Q e A' → Q' e A') : wr_peek s0  Q' := by
  unfold wr_peek at hw ⊢
  obtain ⟨o1, h2⟩ := hw
  refine ⟨o1, ?_⟩
  obtain ⟨o3, h4⟩ := h2
  refine ⟨o3, ?_⟩
  obtain ⟨o5, h6⟩ := h4
  refine ⟨o5, ?_⟩
  obtain ⟨o7, h8⟩ := h6
  refine ⟨o7, ?_⟩
  refine ⟨fun c9 => ?_, fun c9 => ?_⟩
  · have h10 := h8.1 c9
    obtain ⟨o11, h12⟩ := h10
    refine ⟨o11, ?_⟩
    obtain ⟨o13, h14⟩ := h12
    refine ⟨o13, ?_⟩
    obtain ⟨o15, h16⟩ := h14
    refine ⟨o15, ?_⟩
    obtain ⟨o17, h18⟩ := h16
    refine ⟨o17, ?_⟩
    exact hq _ _ zSm.rf h18
  · have h19 := h8.2 c9
    exact hq _ _ zSm.rf h19
theorem ffm_isBlank {s0 : zS} {a0 : Int} {Q Q' : Int → zS → Prop} (hw : wr_isBlank s0 a0 Q) (hq : ∀ (e : Int) (A' : zS), zSm s0 A' [] [] → Q e A' → Q' e A') : wr_isBlank s0 a0 Q' := by
  unfold wr_isBlank at hw ⊢
  refine ⟨fun c1 => ?_, fun c1 => ?_⟩
  · have h2 := hw.1 c1
    exact hq _ _ zSm.rf h2
  · have h3 := hw.2 c1
    refine ⟨fun c4 => ?_, fun c4 => ?_⟩
    · have h5 := h3.1 c4
      exact hq _ _ zSm.rf h5
    · have h6 := h3.2 c4
      refine ⟨fun c7 => ?_, fun c7 => ?_⟩
      · have h8 := h6.1 c7
        exact hq _ _ zSm.rf h8
      · have h9 := h6.2 c7
        refine ⟨fun c10 => ?_, fun c10 => ?_⟩
        · have h11 := h9.1 c10
          exact hq _ _ zSm.rf h11
        · have h12 := h9.2 c10
          exact hq _ _ zSm.rf h12
theorem ffj_readNumber_70 {Q Q' : Int → zS → Prop}  {s0 : zS} {x1 : Int} {x3 : Int} (hq : ∀ (e : Int) (A' : zS), zSm s0 A' [113] [] → Q e A' → Q' e A')  (hw : wr_readNumber_70 Q  s0 x1 x3) : wr_readNumber_70 Q'  s0 x1 x3 := by
  unfold wr_readNumber_70 at hw ⊢
  refine ffm_peek hw (fun r1 s2 f1 h6 => ?_)
  refine ffm_isDigit h6 (fun r7 s8 f2 h12 => ?_)
  refine ⟨fun c13 => ?_, fun c13 => ?_⟩
  · have h14 := h12.1 c13
    obtain ⟨o15, h16⟩ := h14
    refine ⟨o15, ?_⟩
    obtain ⟨o17, h18⟩ := h16
    refine ⟨o17, ?_⟩
    obtain ⟨o19, h20⟩ := h18
    refine ⟨o19, ?_⟩
    obtain ⟨o21, h22⟩ := h20
    refine ⟨o21, ?_⟩
    obtain ⟨o23, h24⟩ := h22
    refine ⟨o23, ?_⟩
    obtain ⟨o25, h26⟩ := h24
    refine ⟨o25, ?_⟩
    refine ⟨fun c29 => ?_, fun c29 => ?_⟩
    · have h30 := h26.1 c29
      obtain ⟨o31, h32⟩ := h30
      refine ⟨o31, ?_⟩
      obtain ⟨o33, h34⟩ := h32
      refine ⟨o33, ?_⟩
      exact hq _ _ (((zSm.rf.tr f1 rfl rfl).tr f2 rfl rfl).pa rfl) h34
    · have h35 := h26.2 c29
      obtain ⟨o36, h37⟩ := h35
      refine ⟨o36, ?_⟩
      obtain ⟨o38, h39⟩ := h37
      refine ⟨o38, ?_⟩
      intro z40 e41 R42
      have h43 := h39 z40 e41 R42
      exact hq _ _ (((zSm.rf.tr f1 rfl rfl).tr f2 rfl rfl).pa rfl) h43
  · have h44 := h12.2 c13
    exact hq _ _ ((zSm.rf.tr f1 rfl rfl).tr f2 rfl rfl) h44
theorem ffj_readNumber_38 {Q Q' : Int → zS → Prop}  {s0 : zS} {x1 : Int} (hq : ∀ (e : Int) (A' : zS), zSm s0 A' [113] [] → Q e A' → Q' e A')  (hw : wr_readNumber_38 Q  s0 x1) : wr_readNumber_38 Q'  s0 x1 := by
  unfold wr_readNumber_38 at hw ⊢
  refine ffm_peek hw (fun r1 s2 f1 h6 => ?_)
  refine ⟨fun c7 => ?_, fun c7 => ?_⟩
  · have h8 := h6.1 c7
    refine ⟨fun c10 => ?_, fun c10 => ?_⟩
    · have h11 := h8.1 c10
      exact ffj_readNumber_70 (fun e A' f q => hq e A' ((zSm.rf.tr f1 rfl rfl).tr f rfl rfl) q)  h11
    · have h12 := h8.2 c10
      refine ffm_nextByte h12 (fun r13 s14 f2 h18 => ?_)
      exact ffj_readNumber_70 (fun e A' f q => hq e A' (((zSm.rf.tr f1 rfl rfl).tr f2 rfl rfl).tr f rfl rfl) q)  h18
  · have h19 := h6.2 c7
    refine ffm_nextByte h19 (fun r21 s22 f3 h26 => ?_)
    exact ffj_readNumber_70 (fun e A' f q => hq e A' (((zSm.rf.tr f1 rfl rfl).tr f3 rfl rfl).tr f rfl rfl) q)  h26
theorem ffm_readNumber {s0 : zS}  {Q Q' : Int → zS → Prop} (hw : wr_readNumber s0  Q) (hq : ∀ (e : Int) (A' : zS), zSm s0 A' [113] [] → Q e A' → Q' e A') : wr_readNumber s0  Q' := by
  unfold wr_readNumber at hw ⊢
  refine ffm_peek hw (fun r1 s2 f1 h6 => ?_)
  refine ffm_isBlank h6 (fun r7 s8 f2 h12 => ?_)
  refine ⟨fun c13 => ?_, fun c13 => ?_⟩
  · have h14 := h12.1 c13
    exact ffj_readNumber_38 (fun e A' f q => hq e A' (((zSm.rf.tr f1 rfl rfl).tr f2 rfl rfl).tr f rfl rfl) q)  h14
  · have h15 := h12.2 c13
    obtain ⟨o16, h17⟩ := h15
    refine ⟨o16, ?_⟩
    obtain ⟨o18, h19⟩ := h17
    refine ⟨o18, ?_⟩
    obtain ⟨o20, h21⟩ := h19
    refine ⟨o20, ?_⟩
    obtain ⟨o22, h23⟩ := h21
    refine ⟨o22, ?_⟩
    obtain ⟨o24, h25⟩ := h23
    refine ⟨o24, ?_⟩
    obtain ⟨o26, h27⟩ := h25
    refine ⟨o26, ?_⟩
    exact ffj_readNumber_38 (fun e A' f q => hq e A' ((((zSm.rf.tr f1 rfl rfl).tr f2 rfl rfl).pa rfl).tr f rfl rfl) q)  h27
theorem ffj_toVector_51 {Q Q' : zS → Prop}  {s0 : zS} {x1 : Int} {x2 : Int} {x3 : Int} {x4 : Int} (hq : ∀ (A' : zS), zSm s0 A' [88, 89, 90, 92, 93, 94, 98] [87, 91, 95, 96, 97, 101, 102, 103, 104] → Q A' → Q' A')  (hw : wr_toVector_51 Q  s0 x1 x2 x3 x4) : wr_toVector_51 Q'  s0 x1 x2 x3 x4 := by
  unfold wr_toVector_51 at hw ⊢
  refine ⟨fun c1 => ?_, fun c1 => ?_⟩
  · have h2 := hw.1 c1
    refine ffm_err h2 (fun s4 f1 h8 => ?_)
    exact hq _ (zSm.rf.tr f1 rfl rfl) h8
  · have h9 := hw.2 c1
    refine ⟨fun c10 => ?_, fun c10 => ?_⟩
    · have h11 := h9.1 c10
      refine ffm_push h11 (fun s13 f2 h17 => ?_)
      refine ffm_push h17 (fun s19 f3 h23 => ?_)
      refine ⟨fun c24 => ?_, fun c24 => ?_⟩
      · have h25 := h23.1 c24
        refine ffm_limit h25 (fun r26 s27 f4 h31 => ?_)
        obtain ⟨o32, h33⟩ := h31
        refine ⟨o32, ?_⟩
        refine ⟨fun c34 => ?_, fun c34 => ?_⟩
        · have h35 := h33.1 c34
          obtain ⟨o36, h37⟩ := h35
          refine ⟨o36, ?_⟩
          refine ffm_todoTask h37 (fun s39 f5 h43 => ?_)
          exact hq _ ((((zSm.rf.tr f2 rfl rfl).tr f3 rfl rfl).tr f4 rfl rfl).tr f5 rfl rfl) h43
        · have h44 := h33.2 c34
          refine ffm_err h44 (fun s46 f6 h50 => ?_)
          exact hq _ ((((zSm.rf.tr f2 rfl rfl).tr f3 rfl rfl).tr f4 rfl rfl).tr f6 rfl rfl) h50
      · have h51 := h23.2 c24
        obtain ⟨o52, h53⟩ := h51
        refine ⟨o52, ?_⟩
        obtain ⟨o54, h55⟩ := h53
        refine ⟨o54, ?_⟩
        refine ffm_enter h55 (fun s57 f7 h61 => ?_)
        exact hq _ (((zSm.rf.tr f2 rfl rfl).tr f3 rfl rfl).tr f7 rfl rfl) h61
    · have h62 := h9.2 c10
      refine ffm_err h62 (fun s64 f8 h68 => ?_)
      exact hq _ (zSm.rf.tr f8 rfl rfl) h68
theorem ffm_toVector {s0 : zS} {a0 : Int} {a1 : Int} {a2 : Int} {Q Q' : zS → Prop} (hw : wr_toVector s0 a0 a1 a2 Q) (hq : ∀ (A' : zS), zSm s0 A' [88, 89, 90, 92, 93, 94, 98] [87, 91, 95, 96, 97, 101, 102, 103, 104] → Q A' → Q' A') : wr_toVector s0 a0 a1 a2 Q' := by
  unfold wr_toVector at hw ⊢
  refine ⟨fun c1 => ?_, fun c1 => ?_⟩
  · have h2 := hw.1 c1
    refine ⟨fun c4 => ?_, fun c4 => ?_⟩
    · have h5 := h2.1 c4
      refine ffm_err h5 (fun s7 f1 h11 => ?_)
      exact hq _ (zSm.rf.tr f1 rfl rfl) h11
    · have h12 := h2.2 c4
      obtain ⟨o13, h14⟩ := h12
      refine ⟨o13, ?_⟩
      refine ⟨fun c15 => ?_, fun c15 => ?_⟩
      · have h16 := h14.1 c15
        exact ffj_toVector_51 (fun A' f q => hq A' (zSm.rf.tr f rfl rfl) q)  h16
      · have h17 := h14.2 c15
        refine ffm_err h17 (fun s19 f2 h23 => ?_)
        exact hq _ (zSm.rf.tr f2 rfl rfl) h23
  · have h24 := hw.2 c1
    refine ⟨fun c25 => ?_, fun c25 => ?_⟩
    · have h26 := h24.1 c25
      refine ⟨fun c28 => ?_, fun c28 => ?_⟩
      · have h29 := h26.1 c28
        refine ffm_err h29 (fun s31 f3 h35 => ?_)
        exact hq _ (zSm.rf.tr f3 rfl rfl) h35
      · have h36 := h26.2 c28
        obtain ⟨o37, h38⟩ := h36
        refine ⟨o37, ?_⟩
        refine ⟨fun c39 => ?_, fun c39 => ?_⟩
        · have h40 := h38.1 c39
          exact ffj_toVector_51 (fun A' f q => hq A' (zSm.rf.tr f rfl rfl) q)  h40
        · have h41 := h38.2 c39
          refine ffm_err h41 (fun s43 f4 h47 => ?_)
          exact hq _ (zSm.rf.tr f4 rfl rfl) h47
    · have h48 := h24.2 c25
      exact ffj_toVector_51 (fun A' f q => hq A' (zSm.rf.tr f rfl rfl) q)  h48
theorem ffj_libraryCall_511 {Q Q' : zS → Prop}  {s0 : zS} {x10 : Int} (hq : ∀ (A' : zS), zSm s0 A' [88, 89, 90, 92, 93, 94, 98, 107, 108, 113, 115, 116, 118] [87, 91, 95, 96, 97, 101, 102, 103, 104, 106, 114, 117] → Q A' → Q' A')  (hw : wr_libraryCall_511 Q  s0 x10) : wr_libraryCall_511 Q'  s0 x10 := by
  unfold wr_libraryCall_511 at hw ⊢
  refine ffm_push hw (fun s2 f1 h6 => ?_)
  exact hq _ (zSm.rf.tr f1 rfl rfl) h6
theorem ffb_libraryCall_134 {Q Q' : zS → Prop} {k134 k134' : zS → Int → Int → Int → Prop} {s0 : zS} {x7 : Int} {x10 : Int} {x12 : Int} (hq : ∀ (A' : zS), zSm s0 A' [88, 89, 90, 92, 93, 94, 98, 107, 108, 113, 115, 116, 118] [87, 91, 95, 96, 97, 101, 102, 103, 104, 106, 114, 117] → Q A' → Q' A') (fk134 : ∀ (A' : zS) (x0 : Int) (x1 : Int) (x2 : Int), zSm s0 A' [88, 89, 90, 92, 93, 94, 98, 107, 108, 113, 115, 116, 118] [87, 91, 95, 96, 97, 101, 102, 103, 104, 106, 114, 117] → k134 A' x0 x1 x2 → k134' A' x0 x1 x2) (hw : wr_libraryCall_134B Q k134 s0 x7 x10 x12) : wr_libraryCall_134B Q' k134' s0 x7 x10 x12 := by
  unfold wr_libraryCall_134B at hw ⊢
  refine ⟨fun c1 => ?_, fun c1 => ?_⟩
  · have h2 := hw.1 c1
    exact ffj_libraryCall_511 (fun A' f q => hq A' (zSm.rf.tr f rfl rfl) q)  h2
  · have h3 := hw.2 c1
    refine ⟨fun c4 => ?_, fun c4 => ?_⟩
    · have h5 := h3.1 c4
      obtain ⟨o6, h7⟩ := h5
      refine ⟨o6, ?_⟩
      refine ffm_outByte h7 (fun s9 f1 h13 => ?_)
      obtain ⟨o14, h15⟩ := h13
      refine ⟨o14, ?_⟩
      exact fk134 _ _ _ _ (zSm.rf.tr f1 rfl rfl) h15
    · have h16 := h3.2 c4
      obtain ⟨o17, h18⟩ := h16
      refine ⟨o17, ?_⟩
      refine ffm_outByte h18 (fun s20 f2 h24 => ?_)
      obtain ⟨o25, h26⟩ := h24
      refine ⟨o25, ?_⟩
      exact fk134 _ _ _ _ (zSm.rf.tr f2 rfl rfl) h26
theorem ffl_libraryCall_1340 {Q Q' : zS → Prop}  : ∀ (m : Nat) (s0 : zS) (x7 : Int) (x10 : Int) (x12 : Int), (∀ (A' : zS), zSm s0 A' [88, 89, 90, 92, 93, 94, 98, 107, 108, 113, 115, 116, 118] [87, 91, 95, 96, 97, 101, 102, 103, 104, 106, 114, 117] → Q A' → Q' A') → wr_libraryCall_134 Q  m s0 x7 x10 x12 → wr_libraryCall_134 Q'  m s0 x7 x10 x12 := by
  intro m
  induction m with
  | zero => intro s0 x7 x10 x12 hq  hw; exact hw
  | succ m ih => intro s0 x7 x10 x12 hq  hw; exact ffb_libraryCall_134 hq  (fun A' y0 y1 y2 f1 q => ih A' y0 y1 y2 (fun A' f q => hq A' (f1.tr f rfl rfl) q)  q) hw
theorem ffm_libraryCall {s0 : zS} {a0 : Int} {a1 : Int} {a2 : Int} {Q Q' : zS → Prop} (hw : wr_libraryCall s0 a0 a1 a2 Q) (hq : ∀ (A' : zS), zSm s0 A' [88, 89, 90, 92, 93, 94, 98, 107, 108, 113, 115, 116, 118] [87, 91, 95, 96, 97, 101, 102, 103, 104, 106, 114, 117] → Q A' → Q' A') : wr_libraryCall s0 a0 a1 a2 Q' := by
  unfold wr_libraryCall at hw ⊢
  refine ffm_arg hw (fun r1 s2 f1 h6 => ?_)
  refine ffm_arg h6 (fun r7 s8 f2 h12 => ?_)
  refine ffm_arg h12 (fun r13 s14 f3 h18 => ?_)
  obtain ⟨o19, h20⟩ := h18
  refine ⟨o19, ?_⟩
  refine ⟨fun c23 => ?_, fun c23 => ?_⟩
  · have h24 := h20.1 c23
    refine ⟨fun c25 => ?_, fun c25 => ?_⟩
    · have h26 := h24.1 c25
      refine ⟨fun c27 => ?_, fun c27 => ?_⟩
      · have h28 := h26.1 c27
        refine ⟨fun c29 => ?_, fun c29 => ?_⟩
        · have h30 := h28.1 c29
          refine ⟨fun c31 => ?_, fun c31 => ?_⟩
          · have h32 := h30.1 c31
            refine ⟨fun c33 => ?_, fun c33 => ?_⟩
            · have h34 := h32.1 c33
              refine ⟨fun c35 => ?_, fun c35 => ?_⟩
              · have h36 := h34.1 c35
                refine ⟨fun c37 => ?_, fun c37 => ?_⟩
                · have h38 := h36.1 c37
                  refine ⟨fun c39 => ?_, fun c39 => ?_⟩
                  · have h40 := h38.1 c39
                    refine ⟨fun c41 => ?_, fun c41 => ?_⟩
                    · have h42 := h40.1 c41
                      refine ⟨fun c43 => ?_, fun c43 => ?_⟩
                      · have h44 := h42.1 c43
                        refine ⟨fun c45 => ?_, fun c45 => ?_⟩
                        · have h46 := h44.1 c45
                          refine ⟨fun c47 => ?_, fun c47 => ?_⟩
                          · have h48 := h46.1 c47
                            refine ⟨fun c49 => ?_, fun c49 => ?_⟩
                            · have h50 := h48.1 c49
                              refine ⟨fun c51 => ?_, fun c51 => ?_⟩
                              · have h52 := h50.1 c51
                                refine ⟨fun c53 => ?_, fun c53 => ?_⟩
                                · have h54 := h52.1 c53
                                  refine ⟨fun c55 => ?_, fun c55 => ?_⟩
                                  · have h56 := h54.1 c55
                                    refine ffm_toVector h56 (fun s58 f4 h62 => ?_)
                                    exact hq _ (((((zSm.rf.tr f1 rfl rfl).tr f2 rfl rfl).tr f3 rfl rfl).pv rfl).tr f4 rfl rfl) h62
                                  · have h63 := h54.2 c55
                                    refine ffm_readNumber h63 (fun r64 s65 f5 h69 => ?_)
                                    exact ffj_libraryCall_511 (fun A' f q => hq A' ((((((zSm.rf.tr f1 rfl rfl).tr f2 rfl rfl).tr f3 rfl rfl).pv rfl).tr f5 rfl rfl).tr f rfl rfl) q)  h69
                                · have h70 := h52.2 c53
                                  refine ⟨fun c71 => ?_, fun c71 => ?_⟩
                                  · have h72 := h70.1 c71
                                    obtain ⟨o73, h74⟩ := h72
                                    refine ⟨o73, ?_⟩
                                    intro z75 e76 R77
                                    have h78 := h74 z75 e76 R77
                                    exact ffj_libraryCall_511 (fun A' f q => hq A' (((((zSm.rf.tr f1 rfl rfl).tr f2 rfl rfl).tr f3 rfl rfl).pv rfl).tr f rfl rfl) q)  h78
                                  · have h79 := h70.2 c71
                                    refine ffm_err h79 (fun s81 f6 h85 => ?_)
                                    exact ffj_libraryCall_511 (fun A' f q => hq A' ((((((zSm.rf.tr f1 rfl rfl).tr f2 rfl rfl).tr f3 rfl rfl).pv rfl).tr f6 rfl rfl).tr f rfl rfl) q)  h85
                              · have h86 := h50.2 c51
                                refine ffm_freeVector h86 (fun s88 f7 h92 => ?_)
                                exact ffj_libraryCall_511 (fun A' f q => hq A' ((((((zSm.rf.tr f1 rfl rfl).tr f2 rfl rfl).tr f3 rfl rfl).pv rfl).tr f7 rfl rfl).tr f rfl rfl) q)  h92
                            · have h93 := h48.2 c49
                              refine ffm_getVector h93 (fun r94 s95 f8 h99 => ?_)
                              exact ffj_libraryCall_511 (fun A' f q => hq A' ((((((zSm.rf.tr f1 rfl rfl).tr f2 rfl rfl).tr f3 rfl rfl).pv rfl).tr f8 rfl rfl).tr f rfl rfl) q)  h99
                          · have h100 := h46.2 c47
                            obtain ⟨o101, h102⟩ := h100
                            refine ⟨o101, ?_⟩
                            obtain ⟨o103, h104⟩ := h102
                            refine ⟨o103, ?_⟩
                            exact ffj_libraryCall_511 (fun A' f q => hq A' ((((((zSm.rf.tr f1 rfl rfl).tr f2 rfl rfl).tr f3 rfl rfl).pv rfl).pa rfl).tr f rfl rfl) q)  h104
                        · have h107 := h44.2 c45
                          refine ⟨fun c108 => ?_, fun c108 => ?_⟩
                          · have h109 := h107.1 c108
                            exact ffj_libraryCall_511 (fun A' f q => hq A' ((((((zSm.rf.tr f1 rfl rfl).tr f2 rfl rfl).tr f3 rfl rfl).pv rfl).pv rfl).tr f rfl rfl) q)  h109
                          · have h112 := h107.2 c108
                            refine ⟨fun c113 => ?_, fun c113 => ?_⟩
                            · have h114 := h112.1 c113
                              exact ffj_libraryCall_511 (fun A' f q => hq A' (((((zSm.rf.tr f1 rfl rfl).tr f2 rfl rfl).tr f3 rfl rfl).pv rfl).tr f rfl rfl) q)  h114
                            · have h115 := h112.2 c113
                              exact ffj_libraryCall_511 (fun A' f q => hq A' ((((((zSm.rf.tr f1 rfl rfl).tr f2 rfl rfl).tr f3 rfl rfl).pv rfl).pv rfl).tr f rfl rfl) q)  h115
                      · have h118 := h42.2 c43
                        refine ⟨fun c119 => ?_, fun c119 => ?_⟩
                        · have h120 := h118.1 c119
                          exact ffj_libraryCall_511 (fun A' f q => hq A' (((((zSm.rf.tr f1 rfl rfl).tr f2 rfl rfl).tr f3 rfl rfl).pv rfl).tr f rfl rfl) q)  h120
                        · have h121 := h118.2 c119
                          refine ⟨fun c122 => ?_, fun c122 => ?_⟩
                          · have h123 := h121.1 c122
                            exact ffj_libraryCall_511 (fun A' f q => hq A' (((((zSm.rf.tr f1 rfl rfl).tr f2 rfl rfl).tr f3 rfl rfl).pv rfl).tr f rfl rfl) q)  h123
                          · have h124 := h121.2 c122
                            exact ffj_libraryCall_511 (fun A' f q => hq A' ((((((zSm.rf.tr f1 rfl rfl).tr f2 rfl rfl).tr f3 rfl rfl).pv rfl).pv rfl).tr f rfl rfl) q)  h124
                    · have h127 := h40.2 c41
                      obtain ⟨o128, h129⟩ := h127
                      refine ⟨o128, ?_⟩
                      obtain ⟨o130, h131⟩ := h129
                      refine ⟨o130, ?_⟩
                      refine ⟨fun c132 => ?_, fun c132 => ?_⟩
                      · have h133 := h131.1 c132
                        exact ffj_libraryCall_511 (fun A' f q => hq A' (((((zSm.rf.tr f1 rfl rfl).tr f2 rfl rfl).tr f3 rfl rfl).pv rfl).tr f rfl rfl) q)  h133
                      · have h134 := h131.2 c132
                        obtain ⟨o135, h136⟩ := h134
                        refine ⟨o135, ?_⟩
                        obtain ⟨o137, h138⟩ := h136
                        refine ⟨o137, ?_⟩
                        obtain ⟨o139, h140⟩ := h138
                        refine ⟨o139, ?_⟩
                        obtain ⟨o141, h142⟩ := h140
                        refine ⟨o141, ?_⟩
                        obtain ⟨o143, h144⟩ := h142
                        refine ⟨o143, ?_⟩
                        exact ffj_libraryCall_511 (fun A' f q => hq A' ((((((zSm.rf.tr f1 rfl rfl).tr f2 rfl rfl).tr f3 rfl rfl).pv rfl).pa rfl).tr f rfl rfl) q)  h144
                  · have h147 := h38.2 c39
                    refine ⟨fun c148 => ?_, fun c148 => ?_⟩
                    · have h149 := h147.1 c148
                      exact ffj_libraryCall_511 (fun A' f q => hq A' (((((zSm.rf.tr f1 rfl rfl).tr f2 rfl rfl).tr f3 rfl rfl).pv rfl).tr f rfl rfl) q)  h149
                    · have h150 := h147.2 c148
                      intro z151 e152 R153
                      have h154 := h150 z151 e152 R153
                      exact ffj_libraryCall_511 (fun A' f q => hq A' (((((zSm.rf.tr f1 rfl rfl).tr f2 rfl rfl).tr f3 rfl rfl).pv rfl).tr f rfl rfl) q)  h154
                · have h155 := h36.2 c37
                  exact ffj_libraryCall_511 (fun A' f q => hq A' ((((((((zSm.rf.tr f1 rfl rfl).tr f2 rfl rfl).tr f3 rfl rfl).pv rfl).pv rfl).pv rfl).pv rfl).tr f rfl rfl) q)  h155
              · have h162 := h34.2 c35
                refine ffm_nextByte h162 (fun r163 s164 f9 h168 => ?_)
                exact ffj_libraryCall_511 (fun A' f q => hq A' ((((((zSm.rf.tr f1 rfl rfl).tr f2 rfl rfl).tr f3 rfl rfl).pv rfl).tr f9 rfl rfl).tr f rfl rfl) q)  h168
            · have h169 := h32.2 c33
              refine ffm_outByte h169 (fun s171 f10 h175 => ?_)
              exact ffj_libraryCall_511 (fun A' f q => hq A' ((((((zSm.rf.tr f1 rfl rfl).tr f2 rfl rfl).tr f3 rfl rfl).pv rfl).tr f10 rfl rfl).tr f rfl rfl) q)  h175
          · have h176 := h30.2 c31
            refine ffm_outByte h176 (fun s178 f11 h182 => ?_)
            exact ffj_libraryCall_511 (fun A' f q => hq A' ((((((zSm.rf.tr f1 rfl rfl).tr f2 rfl rfl).tr f3 rfl rfl).pv rfl).tr f11 rfl rfl).tr f rfl rfl) q)  h182
        · have h183 := h28.2 c29
          refine ffm_writeString h183 (fun s185 f12 h189 => ?_)
          exact ffj_libraryCall_511 (fun A' f q => hq A' ((((((zSm.rf.tr f1 rfl rfl).tr f2 rfl rfl).tr f3 rfl rfl).pv rfl).tr f12 rfl rfl).tr f rfl rfl) q)  h189
      · have h190 := h26.2 c27
        refine ⟨fun c191 => ?_, fun c191 => ?_⟩
        · have h192 := h190.1 c191
          refine ⟨fun c193 => ?_, fun c193 => ?_⟩
          · have h194 := h192.1 c193
            obtain ⟨o195, h196⟩ := h194
            refine ⟨o195, ?_⟩
            obtain ⟨m197, h198⟩ := h196
            exact ⟨m197, ffl_libraryCall_1340 m197 _ _ _ _ (fun A' f q => hq A' (((((zSm.rf.tr f1 rfl rfl).tr f2 rfl rfl).tr f3 rfl rfl).pv rfl).tr f rfl rfl) q)  h198⟩
          · have h199 := h192.2 c193
            obtain ⟨o200, h201⟩ := h199
            refine ⟨o200, ?_⟩
            obtain ⟨m202, h203⟩ := h201
            exact ⟨m202, ffl_libraryCall_1340 m202 _ _ _ _ (fun A' f q => hq A' (((((zSm.rf.tr f1 rfl rfl).tr f2 rfl rfl).tr f3 rfl rfl).pv rfl).tr f rfl rfl) q)  h203⟩
        · have h204 := h190.2 c191
          obtain ⟨o205, h206⟩ := h204
          refine ⟨o205, ?_⟩
          obtain ⟨m207, h208⟩ := h206
          exact ⟨m207, ffl_libraryCall_1340 m207 _ _ _ _ (fun A' f q => hq A' (((((zSm.rf.tr f1 rfl rfl).tr f2 rfl rfl).tr f3 rfl rfl).pv rfl).tr f rfl rfl) q)  h208⟩
    · have h209 := h24.2 c25
      refine ⟨fun c210 => ?_, fun c210 => ?_⟩
      · have h211 := h209.1 c210
        refine ffm_decimal h211 (fun s213 f13 h217 => ?_)
        exact ffj_libraryCall_511 (fun A' f q => hq A' ((((((zSm.rf.tr f1 rfl rfl).tr f2 rfl rfl).tr f3 rfl rfl).pv rfl).tr f13 rfl rfl).tr f rfl rfl) q)  h217
      · have h218 := h209.2 c210
        refine ffm_decimal h218 (fun s220 f14 h224 => ?_)
        exact ffj_libraryCall_511 (fun A' f q => hq A' ((((((zSm.rf.tr f1 rfl rfl).tr f2 rfl rfl).tr f3 rfl rfl).pv rfl).tr f14 rfl rfl).tr f rfl rfl) q)  h224
  · have h225 := h20.2 c23
    refine ffm_decimal h225 (fun s227 f15 h231 => ?_)
    exact ffj_libraryCall_511 (fun A' f q => hq A' ((((((zSm.rf.tr f1 rfl rfl).tr f2 rfl rfl).tr f3 rfl rfl).pv rfl).tr f15 rfl rfl).tr f rfl rfl) q)  h231
theorem ffj_call_47 {Q Q' : zS → Prop}  {s0 : zS} {x2 : Int} {x3 : Int} {x4 : Int} (hq : ∀ (A' : zS), zSm s0 A' [88, 89, 90, 92, 93, 94, 98, 107, 108, 113, 115, 116, 118] [87, 91, 95, 96, 97, 101, 102, 103, 104, 106, 114, 117] → Q A' → Q' A')  (hw : wr_call_47 Q  s0 x2 x3 x4) : wr_call_47 Q'  s0 x2 x3 x4 := by
  unfold wr_call_47 at hw ⊢
  refine ⟨fun c1 => ?_, fun c1 => ?_⟩
  · have h2 := hw.1 c1
    refine ffm_err h2 (fun s4 f1 h8 => ?_)
    exact hq _ (zSm.rf.tr f1 rfl rfl) h8
  · have h9 := hw.2 c1
    obtain ⟨o10, h11⟩ := h9
    refine ⟨o10, ?_⟩
    refine ⟨fun c12 => ?_, fun c12 => ?_⟩
    · have h13 := h11.1 c12
      refine ffm_err h13 (fun s15 f2 h19 => ?_)
      exact hq _ (zSm.rf.tr f2 rfl rfl) h19
    · have h20 := h11.2 c12
      obtain ⟨o21, h22⟩ := h20
      refine ⟨o21, ?_⟩
      refine ffm_enter h22 (fun s24 f3 h28 => ?_)
      exact hq _ (zSm.rf.tr f3 rfl rfl) h28
theorem ffm_call {s0 : zS} {a0 : Int} {a1 : Int} {Q Q' : zS → Prop} (hw : wr_call s0 a0 a1 Q) (hq : ∀ (A' : zS), zSm s0 A' [88, 89, 90, 92, 93, 94, 98, 107, 108, 113, 115, 116, 118] [87, 91, 95, 96, 97, 101, 102, 103, 104, 106, 114, 117] → Q A' → Q' A') : wr_call s0 a0 a1 Q' := by
  unfold wr_call at hw ⊢
  refine ffm_pop hw (fun r1 s2 f1 h6 => ?_)
  obtain ⟨o7, h8⟩ := h6
  refine ⟨o7, ?_⟩
  obtain ⟨o9, h10⟩ := h8
  refine ⟨o9, ?_⟩
  refine ⟨fun c11 => ?_, fun c11 => ?_⟩
  · have h12 := h10.1 c11
    obtain ⟨o13, h14⟩ := h12
    refine ⟨o13, ?_⟩
    exact ffj_call_47 (fun A' f q => hq A' ((zSm.rf.tr f1 rfl rfl).tr f rfl rfl) q)  h14
  · have h15 := h10.2 c11
    refine ⟨fun c16 => ?_, fun c16 => ?_⟩
    · have h17 := h15.1 c16
      obtain ⟨o18, h19⟩ := h17
      refine ⟨o18, ?_⟩
      exact ffj_call_47 (fun A' f q => hq A' ((zSm.rf.tr f1 rfl rfl).tr f rfl rfl) q)  h19
    · have h20 := h15.2 c16
      obtain ⟨o21, h22⟩ := h20
      refine ⟨o21, ?_⟩
      obtain ⟨o23, h24⟩ := h22
      refine ⟨o23, ?_⟩
      refine ffm_libraryCall h24 (fun s26 f2 h30 => ?_)
      exact hq _ ((zSm.rf.tr f1 rfl rfl).tr f2 rfl rfl) h30
theorem ffj_rowsOf_159 {Q Q' : zS → Prop} {k11 k11' : zS → Int → Int → Int → Prop} {s0 : zS} {x1 : Int} {x3 : Int} {x4 : Int} {x5 : Int} {x8 : Int} {y0 : Int} (hq : ∀ (A' : zS), zSm s0 A' [110, 111] [] → Q A' → Q' A') (fk11 : ∀ (A' : zS) (x0 : Int) (x1 : Int) (x2 : Int), zSm s0 A' [110, 111] [] → k11 A' x0 x1 x2 → k11' A' x0 x1 x2) (hw : wr_rowsOf_159 Q k11 s0 x1 x3 x4 x5 x8 y0) : wr_rowsOf_159 Q' k11' s0 x1 x3 x4 x5 x8 y0 := by
  unfold wr_rowsOf_159 at hw ⊢
  refine ffm_isDigit hw (fun r1 s2 f1 h6 => ?_)
  refine ⟨fun c7 => ?_, fun c7 => ?_⟩
  · have h8 := h6.1 c7
    obtain ⟨o9, h10⟩ := h8
    refine ⟨o9, ?_⟩
    obtain ⟨o11, h12⟩ := h10
    refine ⟨o11, ?_⟩
    obtain ⟨o15, h16⟩ := h12
    refine ⟨o15, ?_⟩
    exact fk11 _ _ _ _ ((zSm.rf.tr f1 rfl rfl).pa rfl) h16
  · have h17 := h6.2 c7
    refine ⟨fun c18 => ?_, fun c18 => ?_⟩
    · have h19 := h17.1 c18
      intro z20 e21 R22
      have h23 := h19 z20 e21 R22
      intro z24 e25 R26
      have h27 := h23 z24 e25 R26
      obtain ⟨o28, h29⟩ := h27
      refine ⟨o28, ?_⟩
      obtain ⟨o30, h31⟩ := h29
      refine ⟨o30, ?_⟩
      obtain ⟨o34, h35⟩ := h31
      refine ⟨o34, ?_⟩
      exact fk11 _ _ _ _ ((zSm.rf.tr f1 rfl rfl).pa rfl) h35
    · have h36 := h17.2 c18
      obtain ⟨o37, h38⟩ := h36
      refine ⟨o37, ?_⟩
      obtain ⟨o39, h40⟩ := h38
      refine ⟨o39, ?_⟩
      intro z41 e42 R43
      have h44 := h40 z41 e42 R43
      intro z45 e46 R47
      have h48 := h44 z45 e46 R47
      obtain ⟨o49, h50⟩ := h48
      refine ⟨o49, ?_⟩
      obtain ⟨o51, h52⟩ := h50
      refine ⟨o51, ?_⟩
      obtain ⟨o55, h56⟩ := h52
      refine ⟨o55, ?_⟩
      exact fk11 _ _ _ _ ((zSm.rf.tr f1 rfl rfl).pa rfl) h56
theorem ffj_rowsOf_117 {Q Q' : zS → Prop} {k11 k11' : zS → Int → Int → Int → Prop} {s0 : zS} {x1 : Int} {x2 : Int} {x3 : Int} {x4 : Int} {x5 : Int} {y0 : Int} (hq : ∀ (A' : zS), zSm s0 A' [110, 111] [] → Q A' → Q' A') (fk11 : ∀ (A' : zS) (x0 : Int) (x1 : Int) (x2 : Int), zSm s0 A' [110, 111] [] → k11 A' x0 x1 x2 → k11' A' x0 x1 x2) (hw : wr_rowsOf_117 Q k11 s0 x1 x2 x3 x4 x5 y0) : wr_rowsOf_117 Q' k11' s0 x1 x2 x3 x4 x5 y0 := by
  unfold wr_rowsOf_117 at hw ⊢
  refine ⟨fun c1 => ?_, fun c1 => ?_⟩
  · have h2 := hw.1 c1
    obtain ⟨o3, h4⟩ := h2
    refine ⟨o3, ?_⟩
    obtain ⟨o5, h6⟩ := h4
    refine ⟨o5, ?_⟩
    obtain ⟨o7, h8⟩ := h6
    refine ⟨o7, ?_⟩
    refine ⟨fun c11 => ?_, fun c11 => ?_⟩
    · have h12 := h8.1 c11
      exact ffj_rowsOf_159 (fun A' f q => hq A' ((zSm.rf.pa rfl).tr f rfl rfl) q) (fun A' x0 x1 x2 f q => fk11 A' x0 x1 x2 ((zSm.rf.pa rfl).tr f rfl rfl) q) h12
    · have h13 := h8.2 c11
      intro z14 e15 R16
      have h17 := h13 z14 e15 R16
      exact ffj_rowsOf_159 (fun A' f q => hq A' ((zSm.rf.pa rfl).tr f rfl rfl) q) (fun A' x0 x1 x2 f q => fk11 A' x0 x1 x2 ((zSm.rf.pa rfl).tr f rfl rfl) q) h17
  · have h18 := hw.2 c1
    obtain ⟨o19, h20⟩ := h18
    refine ⟨o19, ?_⟩
    obtain ⟨o21, h22⟩ := h20
    refine ⟨o21, ?_⟩
    obtain ⟨o23, h24⟩ := h22
    refine ⟨o23, ?_⟩
    obtain ⟨o25, h26⟩ := h24
    refine ⟨o25, ?_⟩
    refine ⟨fun c29 => ?_, fun c29 => ?_⟩
    · have h30 := h26.1 c29
      exact ffj_rowsOf_159 (fun A' f q => hq A' ((zSm.rf.pa rfl).tr f rfl rfl) q) (fun A' x0 x1 x2 f q => fk11 A' x0 x1 x2 ((zSm.rf.pa rfl).tr f rfl rfl) q) h30
    · have h31 := h26.2 c29
      intro z32 e33 R34
      have h35 := h31 z32 e33 R34
      exact ffj_rowsOf_159 (fun A' f q => hq A' ((zSm.rf.pa rfl).tr f rfl rfl) q) (fun A' x0 x1 x2 f q => fk11 A' x0 x1 x2 ((zSm.rf.pa rfl).tr f rfl rfl) q) h35
theorem ffj_rowsOf_78 {Q Q' : zS → Prop} {k11 k11' : zS → Int → Int → Int → Prop} {s0 : zS} {x1 : Int} {x2 : Int} {x3 : Int} {x4 : Int} {x5 : Int} {y0 : Int} (hq : ∀ (A' : zS), zSm s0 A' [110, 111] [] → Q A' → Q' A') (fk11 : ∀ (A' : zS) (x0 : Int) (x1 : Int) (x2 : Int), zSm s0 A' [110, 111] [] → k11 A' x0 x1 x2 → k11' A' x0 x1 x2) (hw : wr_rowsOf_78 Q k11 s0 x1 x2 x3 x4 x5 y0) : wr_rowsOf_78 Q' k11' s0 x1 x2 x3 x4 x5 y0 := by
  unfold wr_rowsOf_78 at hw ⊢
  refine ffm_isBlank hw (fun r1 s2 f1 h6 => ?_)
  refine ⟨fun c7 => ?_, fun c7 => ?_⟩
  · have h8 := h6.1 c7
    refine ffm_isDigit h8 (fun r9 s10 f2 h14 => ?_)
    refine ⟨fun c15 => ?_, fun c15 => ?_⟩
    · have h16 := h14.1 c15
      exact ffj_rowsOf_117 (fun A' f q => hq A' (((zSm.rf.tr f1 rfl rfl).tr f2 rfl rfl).tr f rfl rfl) q) (fun A' x0 x1 x2 f q => fk11 A' x0 x1 x2 (((zSm.rf.tr f1 rfl rfl).tr f2 rfl rfl).tr f rfl rfl) q) h16
    · have h17 := h14.2 c15
      refine ffm_isDigit h17 (fun r18 s19 f3 h23 => ?_)
      refine ⟨fun c24 => ?_, fun c24 => ?_⟩
      · have h25 := h23.1 c24
        exact ffj_rowsOf_117 (fun A' f q => hq A' ((((zSm.rf.tr f1 rfl rfl).tr f2 rfl rfl).tr f3 rfl rfl).tr f rfl rfl) q) (fun A' x0 x1 x2 f q => fk11 A' x0 x1 x2 ((((zSm.rf.tr f1 rfl rfl).tr f2 rfl rfl).tr f3 rfl rfl).tr f rfl rfl) q) h25
      · have h26 := h23.2 c24
        exact ffj_rowsOf_117 (fun A' f q => hq A' ((((zSm.rf.tr f1 rfl rfl).tr f2 rfl rfl).tr f3 rfl rfl).tr f rfl rfl) q) (fun A' x0 x1 x2 f q => fk11 A' x0 x1 x2 ((((zSm.rf.tr f1 rfl rfl).tr f2 rfl rfl).tr f3 rfl rfl).tr f rfl rfl) q) h26
  · have h27 := h6.2 c7
    refine ffm_isBlank h27 (fun r28 s29 f4 h33 => ?_)
    refine ⟨fun c34 => ?_, fun c34 => ?_⟩
    · have h35 := h33.1 c34
      exact ffj_rowsOf_117 (fun A' f q => hq A' (((zSm.rf.tr f1 rfl rfl).tr f4 rfl rfl).tr f rfl rfl) q) (fun A' x0 x1 x2 f q => fk11 A' x0 x1 x2 (((zSm.rf.tr f1 rfl rfl).tr f4 rfl rfl).tr f rfl rfl) q) h35
    · have h36 := h33.2 c34
      refine ffm_isDigit h36 (fun r37 s38 f5 h42 => ?_)
      refine ⟨fun c43 => ?_, fun c43 => ?_⟩
      · have h44 := h42.1 c43
        exact ffj_rowsOf_117 (fun A' f q => hq A' ((((zSm.rf.tr f1 rfl rfl).tr f4 rfl rfl).tr f5 rfl rfl).tr f rfl rfl) q) (fun A' x0 x1 x2 f q => fk11 A' x0 x1 x2 ((((zSm.rf.tr f1 rfl rfl).tr f4 rfl rfl).tr f5 rfl rfl).tr f rfl rfl) q) h44
      · have h45 := h42.2 c43
        refine ffm_isDigit h45 (fun r46 s47 f6 h51 => ?_)
        refine ⟨fun c52 => ?_, fun c52 => ?_⟩
        · have h53 := h51.1 c52
          exact ffj_rowsOf_117 (fun A' f q => hq A' (((((zSm.rf.tr f1 rfl rfl).tr f4 rfl rfl).tr f5 rfl rfl).tr f6 rfl rfl).tr f rfl rfl) q) (fun A' x0 x1 x2 f q => fk11 A' x0 x1 x2 (((((zSm.rf.tr f1 rfl rfl).tr f4 rfl rfl).tr f5 rfl rfl).tr f6 rfl rfl).tr f rfl rfl) q) h53
        · have h54 := h51.2 c52
          exact ffj_rowsOf_117 (fun A' f q => hq A' (((((zSm.rf.tr f1 rfl rfl).tr f4 rfl rfl).tr f5 rfl rfl).tr f6 rfl rfl).tr f rfl rfl) q) (fun A' x0 x1 x2 f q => fk11 A' x0 x1 x2 (((((zSm.rf.tr f1 rfl rfl).tr f4 rfl rfl).tr f5 rfl rfl).tr f6 rfl rfl).tr f rfl rfl) q) h54
theorem ffb_rowsOf_11 {Q Q' : zS → Prop} {k11 k11' : zS → Int → Int → Int → Prop} {s0 : zS} {x1 : Int} {x2 : Int} {x3 : Int} (hq : ∀ (A' : zS), zSm s0 A' [110, 111] [] → Q A' → Q' A') (fk11 : ∀ (A' : zS) (x0 : Int) (x1 : Int) (x2 : Int), zSm s0 A' [110, 111] [] → k11 A' x0 x1 x2 → k11' A' x0 x1 x2) (hw : wr_rowsOf_11B Q k11 s0 x1 x2 x3) : wr_rowsOf_11B Q' k11' s0 x1 x2 x3 := by
  unfold wr_rowsOf_11B at hw ⊢
  refine ⟨fun c1 => ?_, fun c1 => ?_⟩
  · have h2 := hw.1 c1
    exact hq _ zSm.rf h2
  · have h3 := hw.2 c1
    obtain ⟨o4, h5⟩ := h3
    refine ⟨o4, ?_⟩
    obtain ⟨o6, h7⟩ := h5
    refine ⟨o6, ?_⟩
    obtain ⟨o8, h9⟩ := h7
    refine ⟨o8, ?_⟩
    obtain ⟨o10, h11⟩ := h9
    refine ⟨o10, ?_⟩
    obtain ⟨o12, h13⟩ := h11
    refine ⟨o12, ?_⟩
    refine ⟨fun c14 => ?_, fun c14 => ?_⟩
    · have h15 := h13.1 c14
      exact ffj_rowsOf_78 (fun A' f q => hq A' (zSm.rf.tr f rfl rfl) q) (fun A' x0 x1 x2 f q => fk11 A' x0 x1 x2 (zSm.rf.tr f rfl rfl) q) h15
    · have h17 := h13.2 c14
      obtain ⟨o19, h20⟩ := h17
      refine ⟨o19, ?_⟩
      obtain ⟨o21, h22⟩ := h20
      refine ⟨o21, ?_⟩
      exact ffj_rowsOf_78 (fun A' f q => hq A' (zSm.rf.tr f rfl rfl) q) (fun A' x0 x1 x2 f q => fk11 A' x0 x1 x2 (zSm.rf.tr f rfl rfl) q) h22
theorem ffl_rowsOf_110 {Q Q' : zS → Prop}  : ∀ (m : Nat) (s0 : zS) (x1 : Int) (x2 : Int) (x3 : Int), (∀ (A' : zS), zSm s0 A' [110, 111] [] → Q A' → Q' A') → wr_rowsOf_11 Q  m s0 x1 x2 x3 → wr_rowsOf_11 Q'  m s0 x1 x2 x3 := by
  intro m
  induction m with
  | zero => intro s0 x1 x2 x3 hq  hw; exact hw
  | succ m ih => intro s0 x1 x2 x3 hq  hw; exact ffb_rowsOf_11 hq  (fun A' y0 y1 y2 f1 q => ih A' y0 y1 y2 (fun A' f q => hq A' (f1.tr f rfl rfl) q)  q) hw
theorem ffm_rowsOf {s0 : zS} {a0 : Int} {Q Q' : zS → Prop} (hw : wr_rowsOf s0 a0 Q) (hq : ∀ (A' : zS), zSm s0 A' [110, 111] [] → Q A' → Q' A') : wr_rowsOf s0 a0 Q' := by
  unfold wr_rowsOf at hw ⊢
  obtain ⟨o1, h2⟩ := hw
  refine ⟨o1, ?_⟩
  obtain ⟨o3, h4⟩ := h2
  refine ⟨o3, ?_⟩
  obtain ⟨o5, h6⟩ := h4
  refine ⟨o5, ?_⟩
  obtain ⟨m7, h8⟩ := h6
  exact ⟨m7, ffl_rowsOf_110 m7 _ _ _ _ (fun A' f q => hq A' (zSm.rf.tr f rfl rfl) q)  h8⟩
theorem ffm_assign {s0 : zS} {a0 : Int} {a1 : Int} {Q Q' : zS → Prop} (hw : wr_assign s0 a0 a1 Q) (hq : ∀ (A' : zS), zSm s0 A' [88, 89, 90] [87] → Q A' → Q' A') : wr_assign s0 a0 a1 Q' := by
  unfold wr_assign at hw ⊢
  obtain ⟨o1, h2⟩ := hw
  refine ⟨o1, ?_⟩
  obtain ⟨o3, h4⟩ := h2
  refine ⟨o3, ?_⟩
  obtain ⟨o5, h6⟩ := h4
  refine ⟨o5, ?_⟩
  obtain ⟨o7, h8⟩ := h6
  refine ⟨o7, ?_⟩
  refine ⟨fun c9 => ?_, fun c9 => ?_⟩
  · have h10 := h8.1 c9
    obtain ⟨o11, h12⟩ := h10
    refine ⟨o11, ?_⟩
    obtain ⟨o13, h14⟩ := h12
    refine ⟨o13, ?_⟩
    refine ffm_todoTask h14 (fun s16 f1 h20 => ?_)
    refine ffm_todoTask h20 (fun s22 f2 h26 => ?_)
    obtain ⟨o27, h28⟩ := h26
    refine ⟨o27, ?_⟩
    obtain ⟨o29, h30⟩ := h28
    refine ⟨o29, ?_⟩
    refine ⟨fun c31 => ?_, fun c31 => ?_⟩
    · have h32 := h30.1 c31
      obtain ⟨o33, h34⟩ := h32
      refine ⟨o33, ?_⟩
      obtain ⟨o35, h36⟩ := h34
      refine ⟨o35, ?_⟩
      refine ⟨fun c37 => ?_, fun c37 => ?_⟩
      · have h38 := h36.1 c37
        obtain ⟨o39, h40⟩ := h38
        refine ⟨o39, ?_⟩
        obtain ⟨o41, h42⟩ := h40
        refine ⟨o41, ?_⟩
        refine ffm_todoTask h42 (fun s44 f3 h48 => ?_)
        exact hq _ (((zSm.rf.tr f1 rfl rfl).tr f2 rfl rfl).tr f3 rfl rfl) h48
      · have h49 := h36.2 c37
        obtain ⟨o50, h51⟩ := h49
        refine ⟨o50, ?_⟩
        obtain ⟨o52, h53⟩ := h51
        refine ⟨o52, ?_⟩
        refine ffm_todoTask h53 (fun s55 f4 h59 => ?_)
        obtain ⟨o60, h61⟩ := h59
        refine ⟨o60, ?_⟩
        obtain ⟨o62, h63⟩ := h61
        refine ⟨o62, ?_⟩
        refine ffm_todoTask h63 (fun s65 f5 h69 => ?_)
        exact hq _ ((((zSm.rf.tr f1 rfl rfl).tr f2 rfl rfl).tr f4 rfl rfl).tr f5 rfl rfl) h69
    · have h70 := h30.2 c31
      obtain ⟨o71, h72⟩ := h70
      refine ⟨o71, ?_⟩
      obtain ⟨o73, h74⟩ := h72
      refine ⟨o73, ?_⟩
      obtain ⟨o75, h76⟩ := h74
      refine ⟨o75, ?_⟩
      obtain ⟨o77, h78⟩ := h76
      refine ⟨o77, ?_⟩
      refine ffm_todoTask h78 (fun s80 f6 h84 => ?_)
      obtain ⟨o85, h86⟩ := h84
      refine ⟨o85, ?_⟩
      obtain ⟨o87, h88⟩ := h86
      refine ⟨o87, ?_⟩
      refine ffm_todoTask h88 (fun s90 f7 h94 => ?_)
      obtain ⟨o95, h96⟩ := h94
      refine ⟨o95, ?_⟩
      obtain ⟨o97, h98⟩ := h96
      refine ⟨o97, ?_⟩
      refine ffm_todoTask h98 (fun s100 f8 h104 => ?_)
      exact hq _ (((((zSm.rf.tr f1 rfl rfl).tr f2 rfl rfl).tr f6 rfl rfl).tr f7 rfl rfl).tr f8 rfl rfl) h104
  · have h105 := h8.2 c9
    exact hq _ zSm.rf h105
theorem ffb_perform_472 {Q Q' : zS → Prop} {k472 k472' : zS → Int → Prop} {s0 : zS} {x4 : Int} (hq : ∀ (A' : zS), zSm s0 A' [88, 89, 90] [87, 101, 102, 103, 104] → Q A' → Q' A') (fk472 : ∀ (A' : zS) (x0 : Int), zSm s0 A' [88, 89, 90] [87, 101, 102, 103, 104] → k472 A' x0 → k472' A' x0) (hw : wr_perform_472B Q k472 s0 x4) : wr_perform_472B Q' k472' s0 x4 := by
  unfold wr_perform_472B at hw ⊢
  obtain ⟨o1, h2⟩ := hw
  refine ⟨o1, ?_⟩
  obtain ⟨o3, h4⟩ := h2
  refine ⟨o3, ?_⟩
  refine ⟨fun c5 => ?_, fun c5 => ?_⟩
  · have h6 := h4.1 c5
    exact fk472 _ _ (zSm.rf.pv rfl) h6
  · have h9 := h4.2 c5
    obtain ⟨o10, h11⟩ := h9
    refine ⟨o10, ?_⟩
    obtain ⟨o12, h13⟩ := h11
    refine ⟨o12, ?_⟩
    obtain ⟨o14, h15⟩ := h13
    refine ⟨o14, ?_⟩
    obtain ⟨o16, h17⟩ := h15
    refine ⟨o16, ?_⟩
    refine ⟨fun c18 => ?_, fun c18 => ?_⟩
    · have h19 := h17.1 c18
      obtain ⟨o20, h21⟩ := h19
      refine ⟨o20, ?_⟩
      obtain ⟨o22, h23⟩ := h21
      refine ⟨o22, ?_⟩
      exact hq _ (zSm.rf.pa rfl) h23
    · have h26 := h17.2 c18
      exact fk472 _ _ (zSm.rf.pv rfl) h26
theorem ffl_perform_4720 {Q Q' : zS → Prop}  : ∀ (m : Nat) (s0 : zS) (x4 : Int), (∀ (A' : zS), zSm s0 A' [88, 89, 90] [87, 101, 102, 103, 104] → Q A' → Q' A') → wr_perform_472 Q  m s0 x4 → wr_perform_472 Q'  m s0 x4 := by
  intro m
  induction m with
  | zero => intro s0 x4 hq  hw; exact hw
  | succ m ih => intro s0 x4 hq  hw; exact ffb_perform_472 hq  (fun A' y0 f1 q => ih A' y0 (fun A' f q => hq A' (f1.tr f rfl rfl) q)  q) hw
theorem ffb_perform_405 {Q Q' : zS → Prop} {k405 k405' : zS → Prop} {s0 : zS}  (hq : ∀ (A' : zS), zSm s0 A' [88, 89, 90] [87, 101, 102, 103, 104] → Q A' → Q' A') (fk405 : ∀ (A' : zS), zSm s0 A' [88, 89, 90] [87, 101, 102, 103, 104] → k405 A'  → k405' A' ) (hw : wr_perform_405B Q k405 s0 ) : wr_perform_405B Q' k405' s0  := by
  unfold wr_perform_405B at hw ⊢
  obtain ⟨o1, h2⟩ := hw
  refine ⟨o1, ?_⟩
  obtain ⟨o3, h4⟩ := h2
  refine ⟨o3, ?_⟩
  refine ⟨fun c5 => ?_, fun c5 => ?_⟩
  · have h6 := h4.1 c5
    exact hq _ zSm.rf h6
  · have h7 := h4.2 c5
    exact fk405 _  (zSm.rf.pv rfl) h7
theorem ffl_perform_4050 {Q Q' : zS → Prop}  : ∀ (m : Nat) (s0 : zS), (∀ (A' : zS), zSm s0 A' [88, 89, 90] [87, 101, 102, 103, 104] → Q A' → Q' A') → wr_perform_405 Q  m s0  → wr_perform_405 Q'  m s0  := by
  intro m
  induction m with
  | zero => intro s0  hq  hw; exact hw
  | succ m ih => intro s0  hq  hw; exact ffb_perform_405 hq  (fun A'  f1 q => ih A'  (fun A' f q => hq A' (f1.tr f rfl rfl) q)  q) hw
theorem ffb_perform_336 {Q Q' : zS → Prop} {k336 k336' : zS → Prop} {s0 : zS}  (hq : ∀ (A' : zS), zSm s0 A' [88, 89, 90] [87, 101, 102, 103, 104] → Q A' → Q' A') (fk336 : ∀ (A' : zS), zSm s0 A' [88, 89, 90] [87, 101, 102, 103, 104] → k336 A'  → k336' A' ) (hw : wr_perform_336B Q k336 s0 ) : wr_perform_336B Q' k336' s0  := by
  unfold wr_perform_336B at hw ⊢
  obtain ⟨o1, h2⟩ := hw
  refine ⟨o1, ?_⟩
  obtain ⟨o3, h4⟩ := h2
  refine ⟨o3, ?_⟩
  refine ⟨fun c5 => ?_, fun c5 => ?_⟩
  · have h6 := h4.1 c5
    exact fk336 _  (zSm.rf.pv rfl) h6
  · have h9 := h4.2 c5
    obtain ⟨o10, h11⟩ := h9
    refine ⟨o10, ?_⟩
    obtain ⟨o12, h13⟩ := h11
    refine ⟨o12, ?_⟩
    obtain ⟨o14, h15⟩ := h13
    refine ⟨o14, ?_⟩
    obtain ⟨o16, h17⟩ := h15
    refine ⟨o16, ?_⟩
    refine ⟨fun c18 => ?_, fun c18 => ?_⟩
    · have h19 := h17.1 c18
      exact hq _ (zSm.rf.pv rfl) h19
    · have h22 := h17.2 c18
      exact fk336 _  (zSm.rf.pv rfl) h22
theorem ffl_perform_3360 {Q Q' : zS → Prop}  : ∀ (m : Nat) (s0 : zS), (∀ (A' : zS), zSm s0 A' [88, 89, 90] [87, 101, 102, 103, 104] → Q A' → Q' A') → wr_perform_336 Q  m s0  → wr_perform_336 Q'  m s0  := by
  intro m
  induction m with
  | zero => intro s0  hq  hw; exact hw
  | succ m ih => intro s0  hq  hw; exact ffb_perform_336 hq  (fun A'  f1 q => ih A'  (fun A' f q => hq A' (f1.tr f rfl rfl) q)  q) hw
theorem ffb_perform_301 {Q Q' : zS → Prop} {k301 k301' : zS → Prop} {s0 : zS}  (hq : ∀ (A' : zS), zSm s0 A' [88, 89, 90] [87, 101, 102, 103, 104] → Q A' → Q' A') (fk301 : ∀ (A' : zS), zSm s0 A' [88, 89, 90] [87, 101, 102, 103, 104] → k301 A'  → k301' A' ) (hw : wr_perform_301B Q k301 s0 ) : wr_perform_301B Q' k301' s0  := by
  unfold wr_perform_301B at hw ⊢
  obtain ⟨o1, h2⟩ := hw
  refine ⟨o1, ?_⟩
  obtain ⟨o3, h4⟩ := h2
  refine ⟨o3, ?_⟩
  refine ⟨fun c5 => ?_, fun c5 => ?_⟩
  · have h6 := h4.1 c5
    exact hq _ zSm.rf h6
  · have h7 := h4.2 c5
    exact fk301 _  (zSm.rf.pv rfl) h7
theorem ffl_perform_3010 {Q Q' : zS → Prop}  : ∀ (m : Nat) (s0 : zS), (∀ (A' : zS), zSm s0 A' [88, 89, 90] [87, 101, 102, 103, 104] → Q A' → Q' A') → wr_perform_301 Q  m s0  → wr_perform_301 Q'  m s0  := by
  intro m
  induction m with
  | zero => intro s0  hq  hw; exact hw
  | succ m ih => intro s0  hq  hw; exact ffb_perform_301 hq  (fun A'  f1 q => ih A'  (fun A' f q => hq A' (f1.tr f rfl rfl) q)  q) hw
theorem ffb_perform_253 {Q Q' : zS → Prop} {k253 k253' : zS → Prop} {s0 : zS}  (hq : ∀ (A' : zS), zSm s0 A' [88, 89, 90] [87, 101, 102, 103, 104] → Q A' → Q' A') (fk253 : ∀ (A' : zS), zSm s0 A' [88, 89, 90] [87, 101, 102, 103, 104] → k253 A'  → k253' A' ) (hw : wr_perform_253B Q k253 s0 ) : wr_perform_253B Q' k253' s0  := by
  unfold wr_perform_253B at hw ⊢
  obtain ⟨o1, h2⟩ := hw
  refine ⟨o1, ?_⟩
  obtain ⟨o3, h4⟩ := h2
  refine ⟨o3, ?_⟩
  refine ⟨fun c5 => ?_, fun c5 => ?_⟩
  · have h6 := h4.1 c5
    exact hq _ (zSm.rf.pv rfl) h6
  · have h9 := h4.2 c5
    exact fk253 _  (zSm.rf.pv rfl) h9
theorem ffl_perform_2530 {Q Q' : zS → Prop}  : ∀ (m : Nat) (s0 : zS), (∀ (A' : zS), zSm s0 A' [88, 89, 90] [87, 101, 102, 103, 104] → Q A' → Q' A') → wr_perform_253 Q  m s0  → wr_perform_253 Q'  m s0  := by
  intro m
  induction m with
  | zero => intro s0  hq  hw; exact hw
  | succ m ih => intro s0  hq  hw; exact ffb_perform_253 hq  (fun A'  f1 q => ih A'  (fun A' f q => hq A' (f1.tr f rfl rfl) q)  q) hw
theorem ffm_perform {s0 : zS} {a0 : Int} {Q Q' : zS → Prop} (hw : wr_perform s0 a0 Q) (hq : ∀ (A' : zS), zSm s0 A' [88, 89, 90] [87, 101, 102, 103, 104] → Q A' → Q' A') : wr_perform s0 a0 Q' := by
  unfold wr_perform at hw ⊢
  obtain ⟨o1, h2⟩ := hw
  refine ⟨o1, ?_⟩
  obtain ⟨o3, h4⟩ := h2
  refine ⟨o3, ?_⟩
  obtain ⟨o5, h6⟩ := h4
  refine ⟨o5, ?_⟩
  obtain ⟨o7, h8⟩ := h6
  refine ⟨o7, ?_⟩
  refine ⟨fun c9 => ?_, fun c9 => ?_⟩
  · have h10 := h8.1 c9
    refine ⟨fun c11 => ?_, fun c11 => ?_⟩
    · have h12 := h10.1 c11
      refine ⟨fun c13 => ?_, fun c13 => ?_⟩
      · have h14 := h12.1 c13
        refine ffm_todoTask h14 (fun s16 f1 h20 => ?_)
        refine ffm_todoTask h20 (fun s22 f2 h26 => ?_)
        exact hq _ ((zSm.rf.tr f1 rfl rfl).tr f2 rfl rfl) h26
      · have h27 := h12.2 c13
        refine ⟨fun c28 => ?_, fun c28 => ?_⟩
        · have h29 := h27.1 c28
          refine ffm_todoTask h29 (fun s31 f3 h35 => ?_)
          refine ffm_todoTask h35 (fun s37 f4 h41 => ?_)
          exact hq _ ((zSm.rf.tr f3 rfl rfl).tr f4 rfl rfl) h41
        · have h42 := h27.2 c28
          refine ⟨fun c43 => ?_, fun c43 => ?_⟩
          · have h44 := h42.1 c43
            refine ffm_burns h44 (fun r45 s46 f5 h50 => ?_)
            refine ⟨fun c51 => ?_, fun c51 => ?_⟩
            · have h52 := h50.1 c51
              refine ⟨fun c53 => ?_, fun c53 => ?_⟩
              · have h54 := h52.1 c53
                refine ⟨fun c55 => ?_, fun c55 => ?_⟩
                · have h56 := h54.1 c55
                  refine ⟨fun c57 => ?_, fun c57 => ?_⟩
                  · have h58 := h56.1 c57
                    refine ffm_todoTask h58 (fun s60 f6 h64 => ?_)
                    refine ffm_todoTask h64 (fun s66 f7 h70 => ?_)
                    exact hq _ (((zSm.rf.tr f5 rfl rfl).tr f6 rfl rfl).tr f7 rfl rfl) h70
                  · have h71 := h56.2 c57
                    refine ⟨fun c72 => ?_, fun c72 => ?_⟩
                    · have h73 := h71.1 c72
                      refine ffm_todoTask h73 (fun s75 f8 h79 => ?_)
                      refine ffm_todoTask h79 (fun s81 f9 h85 => ?_)
                      exact hq _ (((zSm.rf.tr f5 rfl rfl).tr f8 rfl rfl).tr f9 rfl rfl) h85
                    · have h86 := h71.2 c72
                      refine ⟨fun c87 => ?_, fun c87 => ?_⟩
                      · have h88 := h86.1 c87
                        refine ⟨fun c89 => ?_, fun c89 => ?_⟩
                        · have h90 := h88.1 c89
                          refine ffm_todoTask h90 (fun s92 f10 h96 => ?_)
                          exact hq _ ((zSm.rf.tr f5 rfl rfl).tr f10 rfl rfl) h96
                        · have h97 := h88.2 c89
                          refine ⟨fun c98 => ?_, fun c98 => ?_⟩
                          · have h99 := h97.1 c98
                            refine ⟨fun c100 => ?_, fun c100 => ?_⟩
                            · have h101 := h99.1 c100
                              refine ⟨fun c102 => ?_, fun c102 => ?_⟩
                              · have h103 := h101.1 c102
                                refine ⟨fun c104 => ?_, fun c104 => ?_⟩
                                · have h105 := h103.1 c104
                                  refine ⟨fun c106 => ?_, fun c106 => ?_⟩
                                  · have h107 := h105.1 c106
                                    refine ⟨fun c108 => ?_, fun c108 => ?_⟩
                                    · have h109 := h107.1 c108
                                      refine ⟨fun c110 => ?_, fun c110 => ?_⟩
                                      · have h111 := h109.1 c110
                                        refine ⟨fun c112 => ?_, fun c112 => ?_⟩
                                        · have h113 := h111.1 c112
                                          refine ⟨fun c114 => ?_, fun c114 => ?_⟩
                                          · have h115 := h113.1 c114
                                            exact hq _ ((((zSm.rf.tr f5 rfl rfl).pv rfl).pv rfl).pv rfl) h115
                                          · have h122 := h113.2 c114
                                            obtain ⟨o123, h124⟩ := h122
                                            refine ⟨o123, ?_⟩
                                            obtain ⟨o125, h126⟩ := h124
                                            refine ⟨o125, ?_⟩
                                            obtain ⟨m127, h128⟩ := h126
                                            exact ⟨m127, ffl_perform_4720 m127 _ _ (fun A' f q => hq A' ((zSm.rf.tr f5 rfl rfl).tr f rfl rfl) q)  h128⟩
                                        · have h129 := h111.2 c112
                                          refine ffm_todoTask h129 (fun s131 f11 h135 => ?_)
                                          refine ffm_todoTask h135 (fun s137 f12 h141 => ?_)
                                          exact hq _ (((zSm.rf.tr f5 rfl rfl).tr f11 rfl rfl).tr f12 rfl rfl) h141
                                      · have h142 := h109.2 c110
                                        obtain ⟨m143, h144⟩ := h142
                                        exact ⟨m143, ffl_perform_4050 m143 _  (fun A' f q => hq A' ((zSm.rf.tr f5 rfl rfl).tr f rfl rfl) q)  h144⟩
                                    · have h145 := h107.2 c108
                                      obtain ⟨m146, h147⟩ := h145
                                      exact ⟨m146, ffl_perform_3360 m146 _  (fun A' f q => hq A' ((zSm.rf.tr f5 rfl rfl).tr f rfl rfl) q)  h147⟩
                                  · have h148 := h105.2 c106
                                    obtain ⟨m149, h150⟩ := h148
                                    exact ⟨m149, ffl_perform_3010 m149 _  (fun A' f q => hq A' ((zSm.rf.tr f5 rfl rfl).tr f rfl rfl) q)  h150⟩
                                · have h151 := h103.2 c104
                                  obtain ⟨m152, h153⟩ := h151
                                  exact ⟨m152, ffl_perform_2530 m152 _  (fun A' f q => hq A' ((zSm.rf.tr f5 rfl rfl).tr f rfl rfl) q)  h153⟩
                              · have h154 := h101.2 c102
                                refine ffm_todoTask h154 (fun s156 f13 h160 => ?_)
                                refine ffm_todoTask h160 (fun s162 f14 h166 => ?_)
                                exact hq _ (((zSm.rf.tr f5 rfl rfl).tr f13 rfl rfl).tr f14 rfl rfl) h166
                            · have h167 := h99.2 c100
                              refine ffm_todoTask h167 (fun s169 f15 h173 => ?_)
                              obtain ⟨o174, h175⟩ := h173
                              refine ⟨o174, ?_⟩
                              obtain ⟨o176, h177⟩ := h175
                              refine ⟨o176, ?_⟩
                              obtain ⟨o178, h179⟩ := h177
                              refine ⟨o178, ?_⟩
                              obtain ⟨o180, h181⟩ := h179
                              refine ⟨o180, ?_⟩
                              refine ffm_todoTask h181 (fun s183 f16 h187 => ?_)
                              obtain ⟨o188, h189⟩ := h187
                              refine ⟨o188, ?_⟩
                              obtain ⟨o190, h191⟩ := h189
                              refine ⟨o190, ?_⟩
                              refine ffm_todoTask h191 (fun s193 f17 h197 => ?_)
                              exact hq _ ((((zSm.rf.tr f5 rfl rfl).tr f15 rfl rfl).tr f16 rfl rfl).tr f17 rfl rfl) h197
                          · have h198 := h97.2 c98
                            refine ffm_todoTask h198 (fun s200 f18 h204 => ?_)
                            exact hq _ ((zSm.rf.tr f5 rfl rfl).tr f18 rfl rfl) h204
                      · have h205 := h86.2 c87
                        refine ffm_todoTask h205 (fun s207 f19 h211 => ?_)
                        refine ffm_todoTask h211 (fun s213 f20 h217 => ?_)
                        exact hq _ (((zSm.rf.tr f5 rfl rfl).tr f19 rfl rfl).tr f20 rfl rfl) h217
                · have h218 := h54.2 c55
                  refine ffm_todoTask h218 (fun s220 f21 h224 => ?_)
                  refine ffm_todoTask h224 (fun s226 f22 h230 => ?_)
                  exact hq _ (((zSm.rf.tr f5 rfl rfl).tr f21 rfl rfl).tr f22 rfl rfl) h230
              · have h231 := h52.2 c53
                refine ffm_assign h231 (fun s233 f23 h237 => ?_)
                exact hq _ ((zSm.rf.tr f5 rfl rfl).tr f23 rfl rfl) h237
            · have h238 := h50.2 c51
              exact hq _ (zSm.rf.tr f5 rfl rfl) h238
          · have h239 := h42.2 c43
            refine ffm_todoTask h239 (fun s241 f24 h245 => ?_)
            refine ffm_todoTask h245 (fun s247 f25 h251 => ?_)
            exact hq _ ((zSm.rf.tr f24 rfl rfl).tr f25 rfl rfl) h251
    · have h252 := h10.2 c11
      refine ffm_todoTask h252 (fun s254 f26 h258 => ?_)
      exact hq _ (zSm.rf.tr f26 rfl rfl) h258
  · have h259 := h8.2 c9
    exact hq _ zSm.rf h259
theorem ffm_stores {s0 : zS} {a0 : Int} {Q Q' : zS → Prop} (hw : wr_stores s0 a0 Q) (hq : ∀ (A' : zS), zSm s0 A' [98] [91, 102, 103, 104] → Q A' → Q' A') : wr_stores s0 a0 Q' := by
  unfold wr_stores at hw ⊢
  obtain ⟨o1, h2⟩ := hw
  refine ⟨o1, ?_⟩
  obtain ⟨o3, h4⟩ := h2
  refine ⟨o3, ?_⟩
  refine ⟨fun c5 => ?_, fun c5 => ?_⟩
  · have h6 := h4.1 c5
    obtain ⟨o7, h8⟩ := h6
    refine ⟨o7, ?_⟩
    obtain ⟨o9, h10⟩ := h8
    refine ⟨o9, ?_⟩
    refine ⟨fun c11 => ?_, fun c11 => ?_⟩
    · have h12 := h10.1 c11
      refine ffm_pop h12 (fun r13 s14 f1 h18 => ?_)
      refine ffm_pop h18 (fun r19 s20 f2 h24 => ?_)
      refine ffm_pop h24 (fun r25 s26 f3 h30 => ?_)
      obtain ⟨o31, h32⟩ := h30
      refine ⟨o31, ?_⟩
      obtain ⟨o33, h34⟩ := h32
      refine ⟨o33, ?_⟩
      refine ⟨fun c35 => ?_, fun c35 => ?_⟩
      · have h36 := h34.1 c35
        intro z37 e38 R39
        have h40 := h36 z37 e38 R39
        refine ffm_read h40 (fun r41 s42 f4 h46 => ?_)
        refine ffm_write h46 (fun s48 f5 h52 => ?_)
        exact hq _ (((((zSm.rf.tr f1 rfl rfl).tr f2 rfl rfl).tr f3 rfl rfl).tr f4 rfl rfl).tr f5 rfl rfl) h52
      · have h53 := h34.2 c35
        intro z54 e55 R56
        have h57 := h53 z54 e55 R56
        refine ffm_write h57 (fun s59 f6 h63 => ?_)
        exact hq _ ((((zSm.rf.tr f1 rfl rfl).tr f2 rfl rfl).tr f3 rfl rfl).tr f6 rfl rfl) h63
    · have h64 := h10.2 c11
      refine ffm_pop h64 (fun r65 s66 f7 h70 => ?_)
      refine ffm_pop h70 (fun r71 s72 f8 h76 => ?_)
      refine ffm_write h76 (fun s78 f9 h82 => ?_)
      exact hq _ (((zSm.rf.tr f7 rfl rfl).tr f8 rfl rfl).tr f9 rfl rfl) h82
  · have h83 := h4.2 c5
    refine ffm_wordOf h83 (fun r84 s85 f10 h89 => ?_)
    refine ffm_pop h89 (fun r90 s91 f11 h95 => ?_)
    obtain ⟨o96, h97⟩ := h95
    refine ⟨o96, ?_⟩
    obtain ⟨o98, h99⟩ := h97
    refine ⟨o98, ?_⟩
    exact hq _ (((zSm.rf.tr f10 rfl rfl).tr f11 rfl rfl).pa rfl) h99
theorem ffm_isStep {s0 : zS} {a0 : Int} {a1 : Int} {a2 : Int} {Q Q' : Int → zS → Prop} (hw : wr_isStep s0 a0 a1 a2 Q) (hq : ∀ (e : Int) (A' : zS), zSm s0 A' [98] [] → Q e A' → Q' e A') : wr_isStep s0 a0 a1 a2 Q' := by
  unfold wr_isStep at hw ⊢
  refine ⟨fun c1 => ?_, fun c1 => ?_⟩
  · have h2 := hw.1 c1
    exact hq _ _ zSm.rf h2
  · have h3 := hw.2 c1
    refine ⟨fun c4 => ?_, fun c4 => ?_⟩
    · have h5 := h3.1 c4
      exact hq _ _ zSm.rf h5
    · have h6 := h3.2 c4
      obtain ⟨o7, h8⟩ := h6
      refine ⟨o7, ?_⟩
      obtain ⟨o9, h10⟩ := h8
      refine ⟨o9, ?_⟩
      obtain ⟨o11, h12⟩ := h10
      refine ⟨o11, ?_⟩
      obtain ⟨o13, h14⟩ := h12
      refine ⟨o13, ?_⟩
      obtain ⟨o15, h16⟩ := h14
      refine ⟨o15, ?_⟩
      obtain ⟨o17, h18⟩ := h16
      refine ⟨o17, ?_⟩
      intro z19 e20 R21
      have h22 := h18 z19 e20 R21
      obtain ⟨o23, h24⟩ := h22
      refine ⟨o23, ?_⟩
      obtain ⟨o25, h26⟩ := h24
      refine ⟨o25, ?_⟩
      exact hq _ _ (zSm.rf.pa rfl) h26
theorem ffm_loop {s0 : zS} {a0 : Int} {a1 : Int} {Q Q' : zS → Prop} (hw : wr_loop s0 a0 a1 Q) (hq : ∀ (A' : zS), zSm s0 A' [88, 89, 90, 98] [87, 101, 102, 103, 104] → Q A' → Q' A') : wr_loop s0 a0 a1 Q' := by
  unfold wr_loop at hw ⊢
  obtain ⟨o1, h2⟩ := hw
  refine ⟨o1, ?_⟩
  obtain ⟨o3, h4⟩ := h2
  refine ⟨o3, ?_⟩
  obtain ⟨o5, h6⟩ := h4
  refine ⟨o5, ?_⟩
  obtain ⟨o7, h8⟩ := h6
  refine ⟨o7, ?_⟩
  refine ffm_isStep h8 (fun r9 s10 f1 h14 => ?_)
  refine ⟨fun c15 => ?_, fun c15 => ?_⟩
  · have h16 := h14.1 c15
    exact hq _ (zSm.rf.tr f1 rfl rfl) h16
  · have h17 := h14.2 c15
    refine ffm_burns h17 (fun r18 s19 f2 h23 => ?_)
    refine ⟨fun c24 => ?_, fun c24 => ?_⟩
    · have h25 := h23.1 c24
      refine ⟨fun c26 => ?_, fun c26 => ?_⟩
      · have h27 := h25.1 c26
        refine ffm_todoTask h27 (fun s29 f3 h33 => ?_)
        refine ffm_todoTask h33 (fun s35 f4 h39 => ?_)
        refine ffm_todoTask h39 (fun s41 f5 h45 => ?_)
        exact hq _ (((((zSm.rf.tr f1 rfl rfl).tr f2 rfl rfl).tr f3 rfl rfl).tr f4 rfl rfl).tr f5 rfl rfl) h45
      · have h46 := h25.2 c26
        refine ⟨fun c47 => ?_, fun c47 => ?_⟩
        · have h48 := h46.1 c47
          refine ⟨fun c49 => ?_, fun c49 => ?_⟩
          · have h50 := h48.1 c49
            refine ⟨fun c51 => ?_, fun c51 => ?_⟩
            · have h52 := h50.1 c51
              refine ffm_todoTask h52 (fun s54 f6 h58 => ?_)
              obtain ⟨o59, h60⟩ := h58
              refine ⟨o59, ?_⟩
              obtain ⟨o61, h62⟩ := h60
              refine ⟨o61, ?_⟩
              refine ffm_todoTask h62 (fun s64 f7 h68 => ?_)
              exact hq _ ((((zSm.rf.tr f1 rfl rfl).tr f2 rfl rfl).tr f6 rfl rfl).tr f7 rfl rfl) h68
            · have h69 := h50.2 c51
              obtain ⟨o70, h71⟩ := h69
              refine ⟨o70, ?_⟩
              obtain ⟨o72, h73⟩ := h71
              refine ⟨o72, ?_⟩
              obtain ⟨o74, h75⟩ := h73
              refine ⟨o74, ?_⟩
              obtain ⟨o76, h77⟩ := h75
              refine ⟨o76, ?_⟩
              obtain ⟨o78, h79⟩ := h77
              refine ⟨o78, ?_⟩
              obtain ⟨o80, h81⟩ := h79
              refine ⟨o80, ?_⟩
              obtain ⟨o82, h83⟩ := h81
              refine ⟨o82, ?_⟩
              obtain ⟨o84, h85⟩ := h83
              refine ⟨o84, ?_⟩
              obtain ⟨o86, h87⟩ := h85
              refine ⟨o86, ?_⟩
              obtain ⟨o88, h89⟩ := h87
              refine ⟨o88, ?_⟩
              refine ⟨fun c90 => ?_, fun c90 => ?_⟩
              · have h91 := h89.1 c90
                refine ⟨fun c92 => ?_, fun c92 => ?_⟩
                · have h93 := h91.1 c92
                  refine ffm_todoTask h93 (fun s95 f8 h99 => ?_)
                  obtain ⟨o100, h101⟩ := h99
                  refine ⟨o100, ?_⟩
                  obtain ⟨o102, h103⟩ := h101
                  refine ⟨o102, ?_⟩
                  refine ffm_todoTask h103 (fun s105 f9 h109 => ?_)
                  exact hq _ ((((zSm.rf.tr f1 rfl rfl).tr f2 rfl rfl).tr f8 rfl rfl).tr f9 rfl rfl) h109
                · have h110 := h91.2 c92
                  exact hq _ ((zSm.rf.tr f1 rfl rfl).tr f2 rfl rfl) h110
              · have h111 := h89.2 c90
                refine ⟨fun c112 => ?_, fun c112 => ?_⟩
                · have h113 := h111.1 c112
                  refine ffm_todoTask h113 (fun s115 f10 h119 => ?_)
                  obtain ⟨o120, h121⟩ := h119
                  refine ⟨o120, ?_⟩
                  obtain ⟨o122, h123⟩ := h121
                  refine ⟨o122, ?_⟩
                  refine ffm_todoTask h123 (fun s125 f11 h129 => ?_)
                  exact hq _ ((((zSm.rf.tr f1 rfl rfl).tr f2 rfl rfl).tr f10 rfl rfl).tr f11 rfl rfl) h129
                · have h130 := h111.2 c112
                  exact hq _ ((zSm.rf.tr f1 rfl rfl).tr f2 rfl rfl) h130
          · have h131 := h48.2 c49
            refine ffm_todoTask h131 (fun s133 f12 h137 => ?_)
            refine ffm_todoTask h137 (fun s139 f13 h143 => ?_)
            exact hq _ ((((zSm.rf.tr f1 rfl rfl).tr f2 rfl rfl).tr f12 rfl rfl).tr f13 rfl rfl) h143
        · have h144 := h46.2 c47
          refine ffm_todoTask h144 (fun s146 f14 h150 => ?_)
          refine ffm_todoTask h150 (fun s152 f15 h156 => ?_)
          refine ffm_todoTask h156 (fun s158 f16 h162 => ?_)
          exact hq _ (((((zSm.rf.tr f1 rfl rfl).tr f2 rfl rfl).tr f14 rfl rfl).tr f15 rfl rfl).tr f16 rfl rfl) h162
    · have h163 := h23.2 c24
      exact hq _ ((zSm.rf.tr f1 rfl rfl).tr f2 rfl rfl) h163
theorem ffj_asked_32 {Q Q' : zS → Prop}  {s0 : zS} {x1 : Int} {x2 : Int} {x3 : Int} (hq : ∀ (A' : zS), zSm s0 A' [88, 89, 90] [87, 91] → Q A' → Q' A')  (hw : wr_asked_32 Q  s0 x1 x2 x3) : wr_asked_32 Q'  s0 x1 x2 x3 := by
  unfold wr_asked_32 at hw ⊢
  refine ⟨fun c1 => ?_, fun c1 => ?_⟩
  · have h2 := hw.1 c1
    refine ⟨fun c3 => ?_, fun c3 => ?_⟩
    · have h4 := h2.1 c3
      obtain ⟨o5, h6⟩ := h4
      refine ⟨o5, ?_⟩
      exact hq _ (zSm.rf.pv rfl) h6
    · have h9 := h2.2 c3
      obtain ⟨o10, h11⟩ := h9
      refine ⟨o10, ?_⟩
      obtain ⟨o12, h13⟩ := h11
      refine ⟨o12, ?_⟩
      obtain ⟨o14, h15⟩ := h13
      refine ⟨o14, ?_⟩
      obtain ⟨o16, h17⟩ := h15
      refine ⟨o16, ?_⟩
      refine ffm_todoTask h17 (fun s19 f1 h23 => ?_)
      exact hq _ (zSm.rf.tr f1 rfl rfl) h23
  · have h24 := hw.2 c1
    refine ⟨fun c25 => ?_, fun c25 => ?_⟩
    · have h26 := h24.1 c25
      obtain ⟨o27, h28⟩ := h26
      refine ⟨o27, ?_⟩
      exact hq _ (zSm.rf.pv rfl) h28
    · have h31 := h24.2 c25
      obtain ⟨o32, h33⟩ := h31
      refine ⟨o32, ?_⟩
      obtain ⟨o34, h35⟩ := h33
      refine ⟨o34, ?_⟩
      obtain ⟨o36, h37⟩ := h35
      refine ⟨o36, ?_⟩
      obtain ⟨o38, h39⟩ := h37
      refine ⟨o38, ?_⟩
      refine ffm_todoTask h39 (fun s41 f2 h45 => ?_)
      exact hq _ (zSm.rf.tr f2 rfl rfl) h45
theorem ffj_asked_12 {Q Q' : zS → Prop}  {s0 : zS} {x1 : Int} {y0 : Int} (hq : ∀ (A' : zS), zSm s0 A' [88, 89, 90] [87, 91] → Q A' → Q' A')  (hw : wr_asked_12 Q  s0 x1 y0) : wr_asked_12 Q'  s0 x1 y0 := by
  unfold wr_asked_12 at hw ⊢
  obtain ⟨o1, h2⟩ := hw
  refine ⟨o1, ?_⟩
  obtain ⟨o3, h4⟩ := h2
  refine ⟨o3, ?_⟩
  refine ⟨fun c5 => ?_, fun c5 => ?_⟩
  · have h6 := h4.1 c5
    exact ffj_asked_32 (fun A' f q => hq A' (zSm.rf.tr f rfl rfl) q)  h6
  · have h7 := h4.2 c5
    refine ⟨fun c8 => ?_, fun c8 => ?_⟩
    · have h9 := h7.1 c8
      refine ⟨fun c10 => ?_, fun c10 => ?_⟩
      · have h11 := h9.1 c10
        refine ⟨fun c12 => ?_, fun c12 => ?_⟩
        · have h13 := h11.1 c12
          refine ffm_todoTask h13 (fun s15 f1 h19 => ?_)
          obtain ⟨o20, h21⟩ := h19
          refine ⟨o20, ?_⟩
          obtain ⟨o22, h23⟩ := h21
          refine ⟨o22, ?_⟩
          refine ffm_todoTask h23 (fun s25 f2 h29 => ?_)
          exact hq _ ((zSm.rf.tr f1 rfl rfl).tr f2 rfl rfl) h29
        · have h30 := h11.2 c12
          exact hq _ zSm.rf h30
      · have h31 := h9.2 c10
        refine ⟨fun c32 => ?_, fun c32 => ?_⟩
        · have h33 := h31.1 c32
          refine ffm_todoTask h33 (fun s35 f3 h39 => ?_)
          obtain ⟨o40, h41⟩ := h39
          refine ⟨o40, ?_⟩
          obtain ⟨o42, h43⟩ := h41
          refine ⟨o42, ?_⟩
          refine ffm_todoTask h43 (fun s45 f4 h49 => ?_)
          exact hq _ ((zSm.rf.tr f3 rfl rfl).tr f4 rfl rfl) h49
        · have h50 := h31.2 c32
          exact hq _ zSm.rf h50
    · have h51 := h7.2 c8
      exact ffj_asked_32 (fun A' f q => hq A' (zSm.rf.tr f rfl rfl) q)  h51
theorem ffm_asked {s0 : zS} {a0 : Int} {Q Q' : zS → Prop} (hw : wr_asked s0 a0 Q) (hq : ∀ (A' : zS), zSm s0 A' [88, 89, 90] [87, 91] → Q A' → Q' A') : wr_asked s0 a0 Q' := by
  unfold wr_asked at hw ⊢
  refine ffm_pop hw (fun r1 s2 f1 h6 => ?_)
  refine ⟨fun c7 => ?_, fun c7 => ?_⟩
  · have h8 := h6.1 c7
    exact ffj_asked_12 (fun A' f q => hq A' ((zSm.rf.tr f1 rfl rfl).tr f rfl rfl) q)  h8
  · have h9 := h6.2 c7
    exact ffj_asked_12 (fun A' f q => hq A' ((zSm.rf.tr f1 rfl rfl).tr f rfl rfl) q)  h9
theorem ffb_section_128 {Q Q' : zS → Prop} {k128 k128' : zS → Int → Int → Prop} {s0 : zS} {x4 : Int} {x5 : Int} (hq : ∀ (A' : zS), zSm s0 A' [88, 89, 90] [87, 101, 102, 103, 104] → Q A' → Q' A') (fk128 : ∀ (A' : zS) (x0 : Int) (x1 : Int), zSm s0 A' [88, 89, 90] [87, 101, 102, 103, 104] → k128 A' x0 x1 → k128' A' x0 x1) (hw : wr_section_128B Q k128 s0 x4 x5) : wr_section_128B Q' k128' s0 x4 x5 := by
  unfold wr_section_128B at hw ⊢
  refine ⟨fun c1 => ?_, fun c1 => ?_⟩
  · have h2 := hw.1 c1
    refine ffm_turnTodo h2 (fun s4 f1 h8 => ?_)
    exact hq _ (zSm.rf.tr f1 rfl rfl) h8
  · have h9 := hw.2 c1
    obtain ⟨o10, h11⟩ := h9
    refine ⟨o10, ?_⟩
    obtain ⟨o12, h13⟩ := h11
    refine ⟨o12, ?_⟩
    refine ⟨fun c14 => ?_, fun c14 => ?_⟩
    · have h15 := h13.1 c14
      obtain ⟨o16, h17⟩ := h15
      refine ⟨o16, ?_⟩
      obtain ⟨o18, h19⟩ := h17
      refine ⟨o18, ?_⟩
      exact fk128 _ _ _ zSm.rf h19
    · have h20 := h13.2 c14
      obtain ⟨o21, h22⟩ := h20
      refine ⟨o21, ?_⟩
      obtain ⟨o23, h24⟩ := h22
      refine ⟨o23, ?_⟩
      refine ⟨fun c25 => ?_, fun c25 => ?_⟩
      · have h26 := h24.1 c25
        obtain ⟨o27, h28⟩ := h26
        refine ⟨o27, ?_⟩
        obtain ⟨o29, h30⟩ := h28
        refine ⟨o29, ?_⟩
        exact fk128 _ _ _ zSm.rf h30
      · have h31 := h24.2 c25
        refine ffm_todoTask h31 (fun s33 f2 h37 => ?_)
        obtain ⟨o38, h39⟩ := h37
        refine ⟨o38, ?_⟩
        obtain ⟨o40, h41⟩ := h39
        refine ⟨o40, ?_⟩
        exact fk128 _ _ _ (zSm.rf.tr f2 rfl rfl) h41
theorem ffl_section_1280 {Q Q' : zS → Prop}  : ∀ (m : Nat) (s0 : zS) (x4 : Int) (x5 : Int), (∀ (A' : zS), zSm s0 A' [88, 89, 90] [87, 101, 102, 103, 104] → Q A' → Q' A') → wr_section_128 Q  m s0 x4 x5 → wr_section_128 Q'  m s0 x4 x5 := by
  intro m
  induction m with
  | zero => intro s0 x4 x5 hq  hw; exact hw
  | succ m ih => intro s0 x4 x5 hq  hw; exact ffb_section_128 hq  (fun A' y0 y1 f1 q => ih A' y0 y1 (fun A' f q => hq A' (f1.tr f rfl rfl) q)  q) hw
theorem ffb_section_36 {Q Q' : zS → Prop} {k36 k36' : zS → Int → Prop} {s0 : zS} {x3 : Int} (hq : ∀ (A' : zS), zSm s0 A' [88, 89, 90] [87, 101, 102, 103, 104] → Q A' → Q' A') (fk36 : ∀ (A' : zS) (x0 : Int), zSm s0 A' [88, 89, 90] [87, 101, 102, 103, 104] → k36 A' x0 → k36' A' x0) (hw : wr_section_36B Q k36 s0 x3) : wr_section_36B Q' k36' s0 x3 := by
  unfold wr_section_36B at hw ⊢
  obtain ⟨o1, h2⟩ := hw
  refine ⟨o1, ?_⟩
  obtain ⟨o3, h4⟩ := h2
  refine ⟨o3, ?_⟩
  refine ⟨fun c5 => ?_, fun c5 => ?_⟩
  · have h6 := h4.1 c5
    refine ffm_todoTask h6 (fun s8 f1 h12 => ?_)
    exact hq _ (zSm.rf.tr f1 rfl rfl) h12
  · have h13 := h4.2 c5
    obtain ⟨o14, h15⟩ := h13
    refine ⟨o14, ?_⟩
    obtain ⟨o16, h17⟩ := h15
    refine ⟨o16, ?_⟩
    exact fk36 _ _ zSm.rf h17
theorem ffl_section_360 {Q Q' : zS → Prop}  : ∀ (m : Nat) (s0 : zS) (x3 : Int), (∀ (A' : zS), zSm s0 A' [88, 89, 90] [87, 101, 102, 103, 104] → Q A' → Q' A') → wr_section_36 Q  m s0 x3 → wr_section_36 Q'  m s0 x3 := by
  intro m
  induction m with
  | zero => intro s0 x3 hq  hw; exact hw
  | succ m ih => intro s0 x3 hq  hw; exact ffb_section_36 hq  (fun A' y0 f1 q => ih A' y0 (fun A' f q => hq A' (f1.tr f rfl rfl) q)  q) hw
theorem ffm_section {s0 : zS} {a0 : Int} {a1 : Int} {Q Q' : zS → Prop} (hw : wr_section s0 a0 a1 Q) (hq : ∀ (A' : zS), zSm s0 A' [88, 89, 90] [87, 101, 102, 103, 104] → Q A' → Q' A') : wr_section s0 a0 a1 Q' := by
  unfold wr_section at hw ⊢
  refine ⟨fun c1 => ?_, fun c1 => ?_⟩
  · have h2 := hw.1 c1
    obtain ⟨o3, h4⟩ := h2
    refine ⟨o3, ?_⟩
    obtain ⟨o5, h6⟩ := h4
    refine ⟨o5, ?_⟩
    refine ffm_todoTask h6 (fun s8 f1 h12 => ?_)
    obtain ⟨o13, h14⟩ := h12
    refine ⟨o13, ?_⟩
    obtain ⟨o15, h16⟩ := h14
    refine ⟨o15, ?_⟩
    refine ⟨fun c17 => ?_, fun c17 => ?_⟩
    · have h18 := h16.1 c17
      obtain ⟨o19, h20⟩ := h18
      refine ⟨o19, ?_⟩
      obtain ⟨o21, h22⟩ := h20
      refine ⟨o21, ?_⟩
      refine ⟨fun c23 => ?_, fun c23 => ?_⟩
      · have h24 := h22.1 c23
        exact hq _ (zSm.rf.tr f1 rfl rfl) h24
      · have h25 := h22.2 c23
        obtain ⟨o26, h27⟩ := h25
        refine ⟨o26, ?_⟩
        obtain ⟨o28, h29⟩ := h27
        refine ⟨o28, ?_⟩
        obtain ⟨o30, h31⟩ := h29
        refine ⟨o30, ?_⟩
        obtain ⟨o32, h33⟩ := h31
        refine ⟨o32, ?_⟩
        refine ⟨fun c34 => ?_, fun c34 => ?_⟩
        · have h35 := h33.1 c34
          exact hq _ (zSm.rf.tr f1 rfl rfl) h35
        · have h36 := h33.2 c34
          refine ffm_burns h36 (fun r37 s38 f2 h42 => ?_)
          refine ⟨fun c43 => ?_, fun c43 => ?_⟩
          · have h44 := h42.1 c43
            obtain ⟨o45, h46⟩ := h44
            refine ⟨o45, ?_⟩
            obtain ⟨o47, h48⟩ := h46
            refine ⟨o47, ?_⟩
            refine ffm_todoTask h48 (fun s50 f3 h54 => ?_)
            obtain ⟨o55, h56⟩ := h54
            refine ⟨o55, ?_⟩
            obtain ⟨o57, h58⟩ := h56
            refine ⟨o57, ?_⟩
            obtain ⟨m59, h60⟩ := h58
            exact ⟨m59, ffl_section_1280 m59 _ _ _ (fun A' f q => hq A' ((((zSm.rf.tr f1 rfl rfl).tr f2 rfl rfl).tr f3 rfl rfl).tr f rfl rfl) q)  h60⟩
          · have h61 := h42.2 c43
            exact hq _ ((zSm.rf.tr f1 rfl rfl).tr f2 rfl rfl) h61
    · have h62 := h16.2 c17
      obtain ⟨o63, h64⟩ := h62
      refine ⟨o63, ?_⟩
      obtain ⟨o65, h66⟩ := h64
      refine ⟨o65, ?_⟩
      obtain ⟨m67, h68⟩ := h66
      exact ⟨m67, ffl_section_360 m67 _ _ (fun A' f q => hq A' ((zSm.rf.tr f1 rfl rfl).tr f rfl rfl) q)  h68⟩
  · have h69 := hw.2 c1
    exact hq _ zSm.rf h69
theorem ffb_variables_91 {Q Q' : zS → Prop} {k91 k91' : zS → Int → Int → Int → Int → Prop} {s0 : zS} {x3 : Int} {x4 : Int} {x5 : Int} {x6 : Int} (hq : ∀ (A' : zS), zSm s0 A' [98] [91] → Q A' → Q' A') (fk91 : ∀ (A' : zS) (x0 : Int) (x1 : Int) (x2 : Int) (x3 : Int), zSm s0 A' [98] [91] → k91 A' x0 x1 x2 x3 → k91' A' x0 x1 x2 x3) (hw : wr_variables_91B Q k91 s0 x3 x4 x5 x6) : wr_variables_91B Q' k91' s0 x3 x4 x5 x6 := by
  unfold wr_variables_91B at hw ⊢
  refine ⟨fun c1 => ?_, fun c1 => ?_⟩
  · have h2 := hw.1 c1
    obtain ⟨o3, h4⟩ := h2
    refine ⟨o3, ?_⟩
    exact hq _ (zSm.rf.pv rfl) h4
  · have h7 := hw.2 c1
    obtain ⟨o8, h9⟩ := h7
    refine ⟨o8, ?_⟩
    obtain ⟨o10, h11⟩ := h9
    refine ⟨o10, ?_⟩
    refine ⟨fun c12 => ?_, fun c12 => ?_⟩
    · have h13 := h11.1 c12
      obtain ⟨o14, h15⟩ := h13
      refine ⟨o14, ?_⟩
      obtain ⟨o16, h17⟩ := h15
      refine ⟨o16, ?_⟩
      refine ⟨fun c18 => ?_, fun c18 => ?_⟩
      · have h19 := h17.1 c18
        obtain ⟨o20, h21⟩ := h19
        refine ⟨o20, ?_⟩
        obtain ⟨o22, h23⟩ := h21
        refine ⟨o22, ?_⟩
        obtain ⟨o24, h25⟩ := h23
        refine ⟨o24, ?_⟩
        obtain ⟨o26, h27⟩ := h25
        refine ⟨o26, ?_⟩
        obtain ⟨o30, h31⟩ := h27
        refine ⟨o30, ?_⟩
        obtain ⟨o32, h33⟩ := h31
        refine ⟨o32, ?_⟩
        obtain ⟨o34, h35⟩ := h33
        refine ⟨o34, ?_⟩
        obtain ⟨o36, h37⟩ := h35
        refine ⟨o36, ?_⟩
        exact fk91 _ _ _ _ _ (zSm.rf.pa rfl) h37
      · have h38 := h17.2 c18
        obtain ⟨o39, h40⟩ := h38
        refine ⟨o39, ?_⟩
        obtain ⟨o41, h42⟩ := h40
        refine ⟨o41, ?_⟩
        obtain ⟨o43, h44⟩ := h42
        refine ⟨o43, ?_⟩
        obtain ⟨o45, h46⟩ := h44
        refine ⟨o45, ?_⟩
        obtain ⟨o47, h48⟩ := h46
        refine ⟨o47, ?_⟩
        obtain ⟨o51, h52⟩ := h48
        refine ⟨o51, ?_⟩
        obtain ⟨o53, h54⟩ := h52
        refine ⟨o53, ?_⟩
        obtain ⟨o55, h56⟩ := h54
        refine ⟨o55, ?_⟩
        exact fk91 _ _ _ _ _ (zSm.rf.pa rfl) h56
    · have h57 := h11.2 c12
      obtain ⟨o58, h59⟩ := h57
      refine ⟨o58, ?_⟩
      obtain ⟨o60, h61⟩ := h59
      refine ⟨o60, ?_⟩
      exact fk91 _ _ _ _ _ zSm.rf h61
theorem ffl_variables_910 {Q Q' : zS → Prop}  : ∀ (m : Nat) (s0 : zS) (x3 : Int) (x4 : Int) (x5 : Int) (x6 : Int), (∀ (A' : zS), zSm s0 A' [98] [91] → Q A' → Q' A') → wr_variables_91 Q  m s0 x3 x4 x5 x6 → wr_variables_91 Q'  m s0 x3 x4 x5 x6 := by
  intro m
  induction m with
  | zero => intro s0 x3 x4 x5 x6 hq  hw; exact hw
  | succ m ih => intro s0 x3 x4 x5 x6 hq  hw; exact ffb_variables_91 hq  (fun A' y0 y1 y2 y3 f1 q => ih A' y0 y1 y2 y3 (fun A' f q => hq A' (f1.tr f rfl rfl) q)  q) hw
theorem ffb_variables_12 {Q Q' : zS → Prop} {k12 k12' : zS → Int → Int → Int → Int → Prop} {s0 : zS} {x1 : Int} {x2 : Int} {x3 : Int} {x4 : Int} (hq : ∀ (A' : zS), zSm s0 A' [98] [91] → Q A' → Q' A') (fk12 : ∀ (A' : zS) (x0 : Int) (x1 : Int) (x2 : Int) (x3 : Int), zSm s0 A' [98] [91] → k12 A' x0 x1 x2 x3 → k12' A' x0 x1 x2 x3) (hw : wr_variables_12B Q k12 s0 x1 x2 x3 x4) : wr_variables_12B Q' k12' s0 x1 x2 x3 x4 := by
  unfold wr_variables_12B at hw ⊢
  refine ⟨fun c1 => ?_, fun c1 => ?_⟩
  · have h2 := hw.1 c1
    obtain ⟨o3, h4⟩ := h2
    refine ⟨o3, ?_⟩
    obtain ⟨o5, h6⟩ := h4
    refine ⟨o5, ?_⟩
    obtain ⟨o7, h8⟩ := h6
    refine ⟨o7, ?_⟩
    obtain ⟨o9, h10⟩ := h8
    refine ⟨o9, ?_⟩
    obtain ⟨o11, h12⟩ := h10
    refine ⟨o11, ?_⟩
    obtain ⟨o13, h14⟩ := h12
    refine ⟨o13, ?_⟩
    obtain ⟨m15, h16⟩ := h14
    exact ⟨m15, ffl_variables_910 m15 _ _ _ _ _ (fun A' f q => hq A' (zSm.rf.tr f rfl rfl) q)  h16⟩
  · have h17 := hw.2 c1
    obtain ⟨o18, h19⟩ := h17
    refine ⟨o18, ?_⟩
    obtain ⟨o20, h21⟩ := h19
    refine ⟨o20, ?_⟩
    refine ⟨fun c22 => ?_, fun c22 => ?_⟩
    · have h23 := h21.1 c22
      obtain ⟨o24, h25⟩ := h23
      refine ⟨o24, ?_⟩
      obtain ⟨o26, h27⟩ := h25
      refine ⟨o26, ?_⟩
      refine ⟨fun c28 => ?_, fun c28 => ?_⟩
      · have h29 := h27.1 c28
        obtain ⟨o30, h31⟩ := h29
        refine ⟨o30, ?_⟩
        obtain ⟨o32, h33⟩ := h31
        refine ⟨o32, ?_⟩
        exact fk12 _ _ _ _ _ zSm.rf h33
      · have h34 := h27.2 c28
        obtain ⟨o35, h36⟩ := h34
        refine ⟨o35, ?_⟩
        obtain ⟨o37, h38⟩ := h36
        refine ⟨o37, ?_⟩
        obtain ⟨o39, h40⟩ := h38
        refine ⟨o39, ?_⟩
        exact fk12 _ _ _ _ _ zSm.rf h40
    · have h41 := h21.2 c22
      obtain ⟨o42, h43⟩ := h41
      refine ⟨o42, ?_⟩
      obtain ⟨o44, h45⟩ := h43
      refine ⟨o44, ?_⟩
      obtain ⟨o46, h47⟩ := h45
      refine ⟨o46, ?_⟩
      exact fk12 _ _ _ _ _ zSm.rf h47
theorem ffl_variables_120 {Q Q' : zS → Prop}  : ∀ (m : Nat) (s0 : zS) (x1 : Int) (x2 : Int) (x3 : Int) (x4 : Int), (∀ (A' : zS), zSm s0 A' [98] [91] → Q A' → Q' A') → wr_variables_12 Q  m s0 x1 x2 x3 x4 → wr_variables_12 Q'  m s0 x1 x2 x3 x4 := by
  intro m
  induction m with
  | zero => intro s0 x1 x2 x3 x4 hq  hw; exact hw
  | succ m ih => intro s0 x1 x2 x3 x4 hq  hw; exact ffb_variables_12 hq  (fun A' y0 y1 y2 y3 f1 q => ih A' y0 y1 y2 y3 (fun A' f q => hq A' (f1.tr f rfl rfl) q)  q) hw
theorem ffm_variables {s0 : zS} {a0 : Int} {Q Q' : zS → Prop} (hw : wr_variables s0 a0 Q) (hq : ∀ (A' : zS), zSm s0 A' [98] [91] → Q A' → Q' A') : wr_variables s0 a0 Q' := by
  unfold wr_variables at hw ⊢
  obtain ⟨o1, h2⟩ := hw
  refine ⟨o1, ?_⟩
  obtain ⟨o3, h4⟩ := h2
  refine ⟨o3, ?_⟩
  obtain ⟨m5, h6⟩ := h4
  exact ⟨m5, ffl_variables_120 m5 _ _ _ _ _ (fun A' f q => hq A' (zSm.rf.tr f rfl rfl) q)  h6⟩
theorem ffj_choose_72 {Q Q' : zS → Prop} {k23 k23' : zS → Int → Int → Int → Int → Int → Prop} {k37 k37' : zS → Int → Int → Int → Int → Int → Int → Prop} {s0 : zS} {x1 : Int} {x2 : Int} {x3 : Int} {x4 : Int} {x5 : Int} {x6 : Int} (hq : ∀ (A' : zS), zSm s0 A' [88, 89, 90] [87, 91] → Q A' → Q' A') (fk23 : ∀ (A' : zS) (x0 : Int) (x1 : Int) (x2 : Int) (x3 : Int) (x4 : Int), zSm s0 A' [88, 89, 90] [87, 91] → k23 A' x0 x1 x2 x3 x4 → k23' A' x0 x1 x2 x3 x4) (fk37 : ∀ (A' : zS) (x0 : Int) (x1 : Int) (x2 : Int) (x3 : Int) (x4 : Int) (x5 : Int), zSm s0 A' [88, 89, 90] [87, 91] → k37 A' x0 x1 x2 x3 x4 x5 → k37' A' x0 x1 x2 x3 x4 x5) (hw : wr_choose_72 Q k23 k37 s0 x1 x2 x3 x4 x5 x6) : wr_choose_72 Q' k23' k37' s0 x1 x2 x3 x4 x5 x6 := by
  unfold wr_choose_72 at hw ⊢
  obtain ⟨o1, h2⟩ := hw
  refine ⟨o1, ?_⟩
  obtain ⟨o3, h4⟩ := h2
  refine ⟨o3, ?_⟩
  refine ⟨fun c5 => ?_, fun c5 => ?_⟩
  · have h6 := h4.1 c5
    obtain ⟨o7, h8⟩ := h6
    refine ⟨o7, ?_⟩
    obtain ⟨o9, h10⟩ := h8
    refine ⟨o9, ?_⟩
    exact fk37 _ _ _ _ _ _ _ zSm.rf h10
  · have h11 := h4.2 c5
    obtain ⟨o12, h13⟩ := h11
    refine ⟨o12, ?_⟩
    obtain ⟨o14, h15⟩ := h13
    refine ⟨o14, ?_⟩
    exact fk37 _ _ _ _ _ _ _ zSm.rf h15
theorem ffb_choose_37 {Q Q' : zS → Prop} {k23 k23' : zS → Int → Int → Int → Int → Int → Prop} {k37 k37' : zS → Int → Int → Int → Int → Int → Int → Prop} {s0 : zS} {x1 : Int} {x2 : Int} {x3 : Int} {x4 : Int} {x5 : Int} {x6 : Int} (hq : ∀ (A' : zS), zSm s0 A' [88, 89, 90] [87, 91] → Q A' → Q' A') (fk23 : ∀ (A' : zS) (x0 : Int) (x1 : Int) (x2 : Int) (x3 : Int) (x4 : Int), zSm s0 A' [88, 89, 90] [87, 91] → k23 A' x0 x1 x2 x3 x4 → k23' A' x0 x1 x2 x3 x4) (fk37 : ∀ (A' : zS) (x0 : Int) (x1 : Int) (x2 : Int) (x3 : Int) (x4 : Int) (x5 : Int), zSm s0 A' [88, 89, 90] [87, 91] → k37 A' x0 x1 x2 x3 x4 x5 → k37' A' x0 x1 x2 x3 x4 x5) (hw : wr_choose_37B Q k23 k37 s0 x1 x2 x3 x4 x5 x6) : wr_choose_37B Q' k23' k37' s0 x1 x2 x3 x4 x5 x6 := by
  unfold wr_choose_37B at hw ⊢
  refine ⟨fun c1 => ?_, fun c1 => ?_⟩
  · have h2 := hw.1 c1
    obtain ⟨o3, h4⟩ := h2
    refine ⟨o3, ?_⟩
    obtain ⟨o5, h6⟩ := h4
    refine ⟨o5, ?_⟩
    exact fk23 _ _ _ _ _ _ zSm.rf h6
  · have h7 := hw.2 c1
    obtain ⟨o8, h9⟩ := h7
    refine ⟨o8, ?_⟩
    obtain ⟨o10, h11⟩ := h9
    refine ⟨o10, ?_⟩
    refine ⟨fun c12 => ?_, fun c12 => ?_⟩
    · have h13 := h11.1 c12
      exact ffj_choose_72 (fun A' f q => hq A' (zSm.rf.tr f rfl rfl) q) (fun A' x0 x1 x2 x3 x4 f q => fk23 A' x0 x1 x2 x3 x4 (zSm.rf.tr f rfl rfl) q) (fun A' x0 x1 x2 x3 x4 x5 f q => fk37 A' x0 x1 x2 x3 x4 x5 (zSm.rf.tr f rfl rfl) q) h13
    · have h14 := h11.2 c12
      obtain ⟨o15, h16⟩ := h14
      refine ⟨o15, ?_⟩
      obtain ⟨o17, h18⟩ := h16
      refine ⟨o17, ?_⟩
      refine ⟨fun c19 => ?_, fun c19 => ?_⟩
      · have h20 := h18.1 c19
        exact ffj_choose_72 (fun A' f q => hq A' (zSm.rf.tr f rfl rfl) q) (fun A' x0 x1 x2 x3 x4 f q => fk23 A' x0 x1 x2 x3 x4 (zSm.rf.tr f rfl rfl) q) (fun A' x0 x1 x2 x3 x4 x5 f q => fk37 A' x0 x1 x2 x3 x4 x5 (zSm.rf.tr f rfl rfl) q) h20
      · have h21 := h18.2 c19
        refine ⟨fun c22 => ?_, fun c22 => ?_⟩
        · have h23 := h21.1 c22
          exact ffj_choose_72 (fun A' f q => hq A' (zSm.rf.tr f rfl rfl) q) (fun A' x0 x1 x2 x3 x4 f q => fk23 A' x0 x1 x2 x3 x4 (zSm.rf.tr f rfl rfl) q) (fun A' x0 x1 x2 x3 x4 x5 f q => fk37 A' x0 x1 x2 x3 x4 x5 (zSm.rf.tr f rfl rfl) q) h23
        · have h24 := h21.2 c22
          exact ffj_choose_72 (fun A' f q => hq A' (zSm.rf.tr f rfl rfl) q) (fun A' x0 x1 x2 x3 x4 f q => fk23 A' x0 x1 x2 x3 x4 (zSm.rf.tr f rfl rfl) q) (fun A' x0 x1 x2 x3 x4 x5 f q => fk37 A' x0 x1 x2 x3 x4 x5 (zSm.rf.tr f rfl rfl) q) h24
theorem ffl_choose_370 {Q Q' : zS → Prop} {k23 k23' : zS → Int → Int → Int → Int → Int → Prop} : ∀ (m : Nat) (s0 : zS) (x1 : Int) (x2 : Int) (x3 : Int) (x4 : Int) (x5 : Int) (x6 : Int), (∀ (A' : zS), zSm s0 A' [88, 89, 90] [87, 91] → Q A' → Q' A') → (∀ (A' : zS) (x0 : Int) (x1 : Int) (x2 : Int) (x3 : Int) (x4 : Int), zSm s0 A' [88, 89, 90] [87, 91] → k23 A' x0 x1 x2 x3 x4 → k23' A' x0 x1 x2 x3 x4) → wr_choose_37 Q k23 m s0 x1 x2 x3 x4 x5 x6 → wr_choose_37 Q' k23' m s0 x1 x2 x3 x4 x5 x6 := by
  intro m
  induction m with
  | zero => intro s0 x1 x2 x3 x4 x5 x6 hq fk23 hw; exact hw
  | succ m ih => intro s0 x1 x2 x3 x4 x5 x6 hq fk23 hw; exact ffb_choose_37 hq fk23 (fun A' y0 y1 y2 y3 y4 y5 f1 q => ih A' y0 y1 y2 y3 y4 y5 (fun A' f q => hq A' (f1.tr f rfl rfl) q) (fun A' z0 z1 z2 z3 z4 f q => fk23 A' z0 z1 z2 z3 z4 (f1.tr f rfl rfl) q) q) hw
theorem ffb_choose_23 {Q Q' : zS → Prop} {k23 k23' : zS → Int → Int → Int → Int → Int → Prop} {s0 : zS} {x1 : Int} {x2 : Int} {x3 : Int} {x4 : Int} {x5 : Int} (hq : ∀ (A' : zS), zSm s0 A' [88, 89, 90] [87, 91] → Q A' → Q' A') (fk23 : ∀ (A' : zS) (x0 : Int) (x1 : Int) (x2 : Int) (x3 : Int) (x4 : Int), zSm s0 A' [88, 89, 90] [87, 91] → k23 A' x0 x1 x2 x3 x4 → k23' A' x0 x1 x2 x3 x4) (hw : wr_choose_23B Q k23 s0 x1 x2 x3 x4 x5) : wr_choose_23B Q' k23' s0 x1 x2 x3 x4 x5 := by
  unfold wr_choose_23B at hw ⊢
  refine ⟨fun c1 => ?_, fun c1 => ?_⟩
  · have h2 := hw.1 c1
    refine ⟨fun c3 => ?_, fun c3 => ?_⟩
    · have h4 := h2.1 c3
      refine ⟨fun c5 => ?_, fun c5 => ?_⟩
      · have h6 := h4.1 c5
        exact hq _ zSm.rf h6
      · have h7 := h4.2 c5
        refine ffm_todoTask h7 (fun s9 f1 h13 => ?_)
        exact hq _ (zSm.rf.tr f1 rfl rfl) h13
    · have h14 := h2.2 c3
      refine ⟨fun c15 => ?_, fun c15 => ?_⟩
      · have h16 := h14.1 c15
        exact hq _ zSm.rf h16
      · have h17 := h14.2 c15
        refine ffm_todoTask h17 (fun s19 f2 h23 => ?_)
        exact hq _ (zSm.rf.tr f2 rfl rfl) h23
  · have h24 := hw.2 c1
    obtain ⟨o25, h26⟩ := h24
    refine ⟨o25, ?_⟩
    obtain ⟨o27, h28⟩ := h26
    refine ⟨o27, ?_⟩
    obtain ⟨m29, h30⟩ := h28
    exact ⟨m29, ffl_choose_370 m29 _ _ _ _ _ _ _ (fun A' f q => hq A' (zSm.rf.tr f rfl rfl) q) (fun A' x0 x1 x2 x3 x4 f q => fk23 A' x0 x1 x2 x3 x4 (zSm.rf.tr f rfl rfl) q) h30⟩
theorem ffl_choose_230 {Q Q' : zS → Prop}  : ∀ (m : Nat) (s0 : zS) (x1 : Int) (x2 : Int) (x3 : Int) (x4 : Int) (x5 : Int), (∀ (A' : zS), zSm s0 A' [88, 89, 90] [87, 91] → Q A' → Q' A') → wr_choose_23 Q  m s0 x1 x2 x3 x4 x5 → wr_choose_23 Q'  m s0 x1 x2 x3 x4 x5 := by
  intro m
  induction m with
  | zero => intro s0 x1 x2 x3 x4 x5 hq  hw; exact hw
  | succ m ih => intro s0 x1 x2 x3 x4 x5 hq  hw; exact ffb_choose_23 hq  (fun A' y0 y1 y2 y3 y4 f1 q => ih A' y0 y1 y2 y3 y4 (fun A' f q => hq A' (f1.tr f rfl rfl) q)  q) hw
theorem ffm_choose {s0 : zS} {a0 : Int} {Q Q' : zS → Prop} (hw : wr_choose s0 a0 Q) (hq : ∀ (A' : zS), zSm s0 A' [88, 89, 90] [87, 91] → Q A' → Q' A') : wr_choose s0 a0 Q' := by
  unfold wr_choose at hw ⊢
  refine ffm_pop hw (fun r1 s2 f1 h6 => ?_)
  obtain ⟨o7, h8⟩ := h6
  refine ⟨o7, ?_⟩
  obtain ⟨o9, h10⟩ := h8
  refine ⟨o9, ?_⟩
  obtain ⟨o11, h12⟩ := h10
  refine ⟨o11, ?_⟩
  obtain ⟨o13, h14⟩ := h12
  refine ⟨o13, ?_⟩
  obtain ⟨m15, h16⟩ := h14
  exact ⟨m15, ffl_choose_230 m15 _ _ _ _ _ _ (fun A' f q => hq A' ((zSm.rf.tr f1 rfl rfl).tr f rfl rfl) q)  h16⟩
theorem ffj_returns_13 {Q Q' : zS → Prop}  {s0 : zS} {x2 : Int} {y0 : Int} (hq : ∀ (A' : zS), zSm s0 A' [92] [91, 95, 96, 97] → Q A' → Q' A')  (hw : wr_returns_13 Q  s0 x2 y0) : wr_returns_13 Q'  s0 x2 y0 := by
  unfold wr_returns_13 at hw ⊢
  obtain ⟨o3, h4⟩ := hw
  refine ⟨o3, ?_⟩
  obtain ⟨o7, h8⟩ := h4
  refine ⟨o7, ?_⟩
  obtain ⟨o9, h10⟩ := h8
  refine ⟨o9, ?_⟩
  obtain ⟨o13, h14⟩ := h10
  refine ⟨o13, ?_⟩
  obtain ⟨o15, h16⟩ := h14
  refine ⟨o15, ?_⟩
  refine ffm_push h16 (fun s20 f1 h24 => ?_)
  exact hq _ (((((zSm.rf.pv rfl).pv rfl).pv rfl).pv rfl).tr f1 rfl rfl) h24
theorem ffm_returns {s0 : zS} {a0 : Int} {a1 : Int} {Q Q' : zS → Prop} (hw : wr_returns s0 a0 a1 Q) (hq : ∀ (A' : zS), zSm s0 A' [92] [91, 95, 96, 97] → Q A' → Q' A') : wr_returns s0 a0 a1 Q' := by
  unfold wr_returns at hw ⊢
  refine ⟨fun c1 => ?_, fun c1 => ?_⟩
  · have h2 := hw.1 c1
    exact ffj_returns_13 (fun A' f q => hq A' (zSm.rf.tr f rfl rfl) q)  h2
  · have h3 := hw.2 c1
    refine ffm_pop h3 (fun r4 s5 f1 h9 => ?_)
    exact ffj_returns_13 (fun A' f q => hq A' ((zSm.rf.tr f1 rfl rfl).tr f rfl rfl) q)  h9
theorem ffb_doNext_557 {Q Q' : zS → Prop} {k557 k557' : zS → Int → Prop} {s0 : zS} {x4 : Int} (hq : ∀ (A' : zS), zSm s0 A' [88, 89, 90, 92, 93, 94, 98, 107, 108, 113, 115, 116, 118] [87, 91, 95, 96, 97, 101, 102, 103, 104, 106, 114, 117] → Q A' → Q' A') (fk557 : ∀ (A' : zS) (x0 : Int), zSm s0 A' [88, 89, 90, 92, 93, 94, 98, 107, 108, 113, 115, 116, 118] [87, 91, 95, 96, 97, 101, 102, 103, 104, 106, 114, 117] → k557 A' x0 → k557' A' x0) (hw : wr_doNext_557B Q k557 s0 x4) : wr_doNext_557B Q' k557' s0 x4 := by
  unfold wr_doNext_557B at hw ⊢
  obtain ⟨o1, h2⟩ := hw
  refine ⟨o1, ?_⟩
  obtain ⟨o3, h4⟩ := h2
  refine ⟨o3, ?_⟩
  refine ⟨fun c5 => ?_, fun c5 => ?_⟩
  · have h6 := h4.1 c5
    obtain ⟨o7, h8⟩ := h6
    refine ⟨o7, ?_⟩
    obtain ⟨o9, h10⟩ := h8
    refine ⟨o9, ?_⟩
    refine ffm_push h10 (fun s16 f1 h20 => ?_)
    exact hq _ (((zSm.rf.pv rfl).pv rfl).tr f1 rfl rfl) h20
  · have h21 := h4.2 c5
    exact fk557 _ _ (zSm.rf.pv rfl) h21
theorem ffl_doNext_5570 {Q Q' : zS → Prop}  : ∀ (m : Nat) (s0 : zS) (x4 : Int), (∀ (A' : zS), zSm s0 A' [88, 89, 90, 92, 93, 94, 98, 107, 108, 113, 115, 116, 118] [87, 91, 95, 96, 97, 101, 102, 103, 104, 106, 114, 117] → Q A' → Q' A') → wr_doNext_557 Q  m s0 x4 → wr_doNext_557 Q'  m s0 x4 := by
  intro m
  induction m with
  | zero => intro s0 x4 hq  hw; exact hw
  | succ m ih => intro s0 x4 hq  hw; exact ffb_doNext_557 hq  (fun A' y0 f1 q => ih A' y0 (fun A' f q => hq A' (f1.tr f rfl rfl) q)  q) hw
theorem ffj_doNext_299 {Q Q' : zS → Prop}  {s0 : zS} {x2 : Int} {y0 : Int} (hq : ∀ (A' : zS), zSm s0 A' [88, 89, 90, 92, 93, 94, 98, 107, 108, 113, 115, 116, 118] [87, 91, 95, 96, 97, 101, 102, 103, 104, 106, 114, 117] → Q A' → Q' A')  (hw : wr_doNext_299 Q  s0 x2 y0) : wr_doNext_299 Q'  s0 x2 y0 := by
  unfold wr_doNext_299 at hw ⊢
  obtain ⟨o1, h2⟩ := hw
  refine ⟨o1, ?_⟩
  obtain ⟨o3, h4⟩ := h2
  refine ⟨o3, ?_⟩
  obtain ⟨o5, h6⟩ := h4
  refine ⟨o5, ?_⟩
  obtain ⟨o7, h8⟩ := h6
  refine ⟨o7, ?_⟩
  obtain ⟨o9, h10⟩ := h8
  refine ⟨o9, ?_⟩
  obtain ⟨o11, h12⟩ := h10
  refine ⟨o11, ?_⟩
  refine ⟨fun c13 => ?_, fun c13 => ?_⟩
  · have h14 := h12.1 c13
    obtain ⟨o15, h16⟩ := h14
    refine ⟨o15, ?_⟩
    obtain ⟨o17, h18⟩ := h16
    refine ⟨o17, ?_⟩
    refine ⟨fun c19 => ?_, fun c19 => ?_⟩
    · have h20 := h18.1 c19
      refine ⟨fun c21 => ?_, fun c21 => ?_⟩
      · have h22 := h20.1 c21
        exact hq _ zSm.rf h22
      · have h23 := h20.2 c21
        refine ffm_todoTask h23 (fun s25 f1 h29 => ?_)
        exact hq _ (zSm.rf.tr f1 rfl rfl) h29
    · have h30 := h18.2 c19
      refine ⟨fun c31 => ?_, fun c31 => ?_⟩
      · have h32 := h30.1 c31
        exact hq _ zSm.rf h32
      · have h33 := h30.2 c31
        refine ffm_todoTask h33 (fun s35 f2 h39 => ?_)
        exact hq _ (zSm.rf.tr f2 rfl rfl) h39
  · have h40 := h12.2 c13
    refine ⟨fun c41 => ?_, fun c41 => ?_⟩
    · have h42 := h40.1 c41
      obtain ⟨o43, h44⟩ := h42
      refine ⟨o43, ?_⟩
      obtain ⟨o45, h46⟩ := h44
      refine ⟨o45, ?_⟩
      refine ffm_todoTask h46 (fun s48 f3 h52 => ?_)
      exact hq _ (zSm.rf.tr f3 rfl rfl) h52
    · have h53 := h40.2 c41
      refine ffm_todoTask h53 (fun s55 f4 h59 => ?_)
      exact hq _ (zSm.rf.tr f4 rfl rfl) h59
theorem ffm_doNext {s0 : zS}  {Q Q' : zS → Prop} (hw : wr_doNext s0  Q) (hq : ∀ (A' : zS), zSm s0 A' [88, 89, 90, 92, 93, 94, 98, 107, 108, 113, 115, 116, 118] [87, 91, 95, 96, 97, 101, 102, 103, 104, 106, 114, 117] → Q A' → Q' A') : wr_doNext s0  Q' := by
  unfold wr_doNext at hw ⊢
  obtain ⟨o1, h2⟩ := hw
  refine ⟨o1, ?_⟩
  obtain ⟨o5, h6⟩ := h2
  refine ⟨o5, ?_⟩
  obtain ⟨o7, h8⟩ := h6
  refine ⟨o7, ?_⟩
  obtain ⟨o9, h10⟩ := h8
  refine ⟨o9, ?_⟩
  obtain ⟨o11, h12⟩ := h10
  refine ⟨o11, ?_⟩
  obtain ⟨o13, h14⟩ := h12
  refine ⟨o13, ?_⟩
  obtain ⟨o15, h16⟩ := h14
  refine ⟨o15, ?_⟩
  refine ⟨fun c17 => ?_, fun c17 => ?_⟩
  · have h18 := h16.1 c17
    refine ⟨fun c19 => ?_, fun c19 => ?_⟩
    · have h20 := h18.1 c19
      refine ⟨fun c21 => ?_, fun c21 => ?_⟩
      · have h22 := h20.1 c21
        refine ⟨fun c23 => ?_, fun c23 => ?_⟩
        · have h24 := h22.1 c23
          refine ⟨fun c25 => ?_, fun c25 => ?_⟩
          · have h26 := h24.1 c25
            refine ⟨fun c27 => ?_, fun c27 => ?_⟩
            · have h28 := h26.1 c27
              refine ⟨fun c29 => ?_, fun c29 => ?_⟩
              · have h30 := h28.1 c29
                refine ⟨fun c31 => ?_, fun c31 => ?_⟩
                · have h32 := h30.1 c31
                  refine ⟨fun c33 => ?_, fun c33 => ?_⟩
                  · have h34 := h32.1 c33
                    refine ⟨fun c35 => ?_, fun c35 => ?_⟩
                    · have h36 := h34.1 c35
                      refine ⟨fun c37 => ?_, fun c37 => ?_⟩
                      · have h38 := h36.1 c37
                        refine ⟨fun c39 => ?_, fun c39 => ?_⟩
                        · have h40 := h38.1 c39
                          refine ⟨fun c41 => ?_, fun c41 => ?_⟩
                          · have h42 := h40.1 c41
                            refine ⟨fun c43 => ?_, fun c43 => ?_⟩
                            · have h44 := h42.1 c43
                              refine ⟨fun c45 => ?_, fun c45 => ?_⟩
                              · have h46 := h44.1 c45
                                refine ⟨fun c47 => ?_, fun c47 => ?_⟩
                                · have h48 := h46.1 c47
                                  refine ⟨fun c49 => ?_, fun c49 => ?_⟩
                                  · have h50 := h48.1 c49
                                    refine ⟨fun c51 => ?_, fun c51 => ?_⟩
                                    · have h52 := h50.1 c51
                                      refine ⟨fun c53 => ?_, fun c53 => ?_⟩
                                      · have h54 := h52.1 c53
                                        refine ⟨fun c55 => ?_, fun c55 => ?_⟩
                                        · have h56 := h54.1 c55
                                          refine ⟨fun c57 => ?_, fun c57 => ?_⟩
                                          · have h58 := h56.1 c57
                                            refine ⟨fun c59 => ?_, fun c59 => ?_⟩
                                            · have h60 := h58.1 c59
                                              refine ffm_pop h60 (fun r61 s62 f1 h66 => ?_)
                                              obtain ⟨m67, h68⟩ := h66
                                              exact ⟨m67, ffl_doNext_5570 m67 _ _ (fun A' f q => hq A' (((zSm.rf.pv rfl).tr f1 rfl rfl).tr f rfl rfl) q)  h68⟩
                                            · have h69 := h58.2 c59
                                              refine ffm_libraryCall h69 (fun s71 f2 h75 => ?_)
                                              exact hq _ ((zSm.rf.pv rfl).tr f2 rfl rfl) h75
                                          · have h76 := h56.2 c57
                                            refine ffm_choose h76 (fun s78 f3 h82 => ?_)
                                            exact hq _ ((zSm.rf.pv rfl).tr f3 rfl rfl) h82
                                        · have h83 := h54.2 c55
                                          refine ffm_pop h83 (fun r84 s85 f4 h89 => ?_)
                                          obtain ⟨o90, h91⟩ := h89
                                          refine ⟨o90, ?_⟩
                                          obtain ⟨o92, h93⟩ := h91
                                          refine ⟨o92, ?_⟩
                                          refine ffm_pop h93 (fun r94 s95 f5 h99 => ?_)
                                          obtain ⟨o100, h101⟩ := h99
                                          refine ⟨o100, ?_⟩
                                          obtain ⟨o102, h103⟩ := h101
                                          refine ⟨o102, ?_⟩
                                          obtain ⟨o106, h107⟩ := h103
                                          refine ⟨o106, ?_⟩
                                          obtain ⟨o108, h109⟩ := h107
                                          refine ⟨o108, ?_⟩
                                          obtain ⟨o110, h111⟩ := h109
                                          refine ⟨o110, ?_⟩
                                          obtain ⟨o112, h113⟩ := h111
                                          refine ⟨o112, ?_⟩
                                          refine ffm_todoTask h113 (fun s117 f6 h121 => ?_)
                                          exact hq _ ((((((zSm.rf.pv rfl).tr f4 rfl rfl).tr f5 rfl rfl).pa rfl).pa rfl).tr f6 rfl rfl) h121
                                      · have h122 := h52.2 c53
                                        refine ffm_variables h122 (fun s124 f7 h128 => ?_)
                                        exact hq _ ((zSm.rf.pv rfl).tr f7 rfl rfl) h128
                                    · have h129 := h50.2 c51
                                      refine ffm_returns h129 (fun s131 f8 h135 => ?_)
                                      exact hq _ ((zSm.rf.pv rfl).tr f8 rfl rfl) h135
                                  · have h136 := h48.2 c49
                                    refine ffm_section h136 (fun s138 f9 h142 => ?_)
                                    exact hq _ ((zSm.rf.pv rfl).tr f9 rfl rfl) h142
                                · have h143 := h46.2 c47
                                  refine ffm_asked h143 (fun s145 f10 h149 => ?_)
                                  exact hq _ ((zSm.rf.pv rfl).tr f10 rfl rfl) h149
                              · have h150 := h44.2 c45
                                refine ffm_loop h150 (fun s152 f11 h156 => ?_)
                                exact hq _ ((zSm.rf.pv rfl).tr f11 rfl rfl) h156
                            · have h157 := h42.2 c43
                              refine ffm_pop h157 (fun r158 s159 f12 h163 => ?_)
                              refine ⟨fun c164 => ?_, fun c164 => ?_⟩
                              · have h165 := h163.1 c164
                                exact ffj_doNext_299 (fun A' f q => hq A' (((zSm.rf.pv rfl).tr f12 rfl rfl).tr f rfl rfl) q)  h165
                              · have h166 := h163.2 c164
                                exact ffj_doNext_299 (fun A' f q => hq A' (((zSm.rf.pv rfl).tr f12 rfl rfl).tr f rfl rfl) q)  h166
                          · have h167 := h40.2 c41
                            refine ffm_pop h167 (fun r168 s169 f13 h173 => ?_)
                            exact hq _ ((zSm.rf.pv rfl).tr f13 rfl rfl) h173
                        · have h174 := h38.2 c39
                          refine ffm_stores h174 (fun s176 f14 h180 => ?_)
                          exact hq _ ((zSm.rf.pv rfl).tr f14 rfl rfl) h180
                      · have h181 := h36.2 c37
                        refine ffm_assign h181 (fun s183 f15 h187 => ?_)
                        exact hq _ ((zSm.rf.pv rfl).tr f15 rfl rfl) h187
                    · have h188 := h34.2 c35
                      refine ffm_perform h188 (fun s190 f16 h194 => ?_)
                      exact hq _ ((zSm.rf.pv rfl).tr f16 rfl rfl) h194
                  · have h195 := h32.2 c33
                    refine ffm_push h195 (fun s197 f17 h201 => ?_)
                    exact hq _ ((zSm.rf.pv rfl).tr f17 rfl rfl) h201
                · have h202 := h30.2 c31
                  refine ffm_call h202 (fun s204 f18 h208 => ?_)
                  exact hq _ ((zSm.rf.pv rfl).tr f18 rfl rfl) h208
              · have h209 := h28.2 c29
                refine ffm_rel h209 (fun s211 f19 h215 => ?_)
                exact hq _ ((zSm.rf.pv rfl).tr f19 rfl rfl) h215
            · have h216 := h26.2 c27
              obtain ⟨o217, h218⟩ := h216
              refine ⟨o217, ?_⟩
              obtain ⟨o219, h220⟩ := h218
              refine ⟨o219, ?_⟩
              obtain ⟨o221, h222⟩ := h220
              refine ⟨o221, ?_⟩
              obtain ⟨o223, h224⟩ := h222
              refine ⟨o223, ?_⟩
              refine ffm_pop h224 (fun r225 s226 f20 h230 => ?_)
              refine ⟨fun c231 => ?_, fun c231 => ?_⟩
              · have h232 := h230.1 c231
                obtain ⟨o233, h234⟩ := h232
                refine ⟨o233, ?_⟩
                obtain ⟨o235, h236⟩ := h234
                refine ⟨o235, ?_⟩
                refine ffm_todoTask h236 (fun s238 f21 h242 => ?_)
                exact hq _ (((zSm.rf.pv rfl).tr f20 rfl rfl).tr f21 rfl rfl) h242
              · have h243 := h230.2 c231
                refine ffm_todoTask h243 (fun s245 f22 h249 => ?_)
                exact hq _ (((zSm.rf.pv rfl).tr f20 rfl rfl).tr f22 rfl rfl) h249
          · have h250 := h24.2 c25
            refine ffm_pop h250 (fun r251 s252 f23 h256 => ?_)
            refine ffm_pop h256 (fun r257 s258 f24 h262 => ?_)
            intro z263 e264 R265
            have h266 := h262 z263 e264 R265
            refine ffm_push h266 (fun s268 f25 h272 => ?_)
            exact hq _ ((((zSm.rf.pv rfl).tr f23 rfl rfl).tr f24 rfl rfl).tr f25 rfl rfl) h272
        · have h273 := h22.2 c23
          refine ffm_pop h273 (fun r274 s275 f26 h279 => ?_)
          refine ffm_read h279 (fun r280 s281 f27 h285 => ?_)
          refine ffm_push h285 (fun s287 f28 h291 => ?_)
          exact hq _ ((((zSm.rf.pv rfl).tr f26 rfl rfl).tr f27 rfl rfl).tr f28 rfl rfl) h291
      · have h292 := h20.2 c21
        obtain ⟨o293, h294⟩ := h292
        refine ⟨o293, ?_⟩
        obtain ⟨o295, h296⟩ := h294
        refine ⟨o295, ?_⟩
        refine ffm_pop h296 (fun r297 s298 f29 h302 => ?_)
        refine ffm_signed h302 (fun r303 s304 f30 h308 => ?_)
        refine ffm_push h308 (fun s310 f31 h314 => ?_)
        exact hq _ ((((zSm.rf.pv rfl).tr f29 rfl rfl).tr f30 rfl rfl).tr f31 rfl rfl) h314
    · have h315 := h18.2 c19
      refine ffm_bin h315 (fun s317 f32 h321 => ?_)
      exact hq _ ((zSm.rf.pv rfl).tr f32 rfl rfl) h321
  · have h322 := h16.2 c17
    refine ffm_evaluate h322 (fun s324 f33 h328 => ?_)
    exact hq _ ((zSm.rf.pv rfl).tr f33 rfl rfl) h328
theorem ffj_feed_63 {Q Q' : Int → zS → Prop} {k23 k23' : zS → Int → Int → Int → Int → Int → Int → Prop} {s0 : zS} {x1 : Int} {x2 : Int} {x3 : Int} {x4 : Int} {x5 : Int} {x6 : Int} {x7 : Int} (hq : ∀ (e : Int) (A' : zS), zSm s0 A' [1] [0, 2] → Q e A' → Q' e A') (fk23 : ∀ (A' : zS) (x0 : Int) (x1 : Int) (x2 : Int) (x3 : Int) (x4 : Int) (x5 : Int), zSm s0 A' [1] [0, 2] → k23 A' x0 x1 x2 x3 x4 x5 → k23' A' x0 x1 x2 x3 x4 x5) (hw : wr_feed_63 Q k23 s0 x1 x2 x3 x4 x5 x6 x7) : wr_feed_63 Q' k23' s0 x1 x2 x3 x4 x5 x6 x7 := by
  unfold wr_feed_63 at hw ⊢
  refine ⟨fun c1 => ?_, fun c1 => ?_⟩
  · have h2 := hw.1 c1
    obtain ⟨o3, h4⟩ := h2
    refine ⟨o3, ?_⟩
    obtain ⟨o5, h6⟩ := h4
    refine ⟨o5, ?_⟩
    obtain ⟨o9, h10⟩ := h6
    refine ⟨o9, ?_⟩
    obtain ⟨o13, h14⟩ := h10
    refine ⟨o13, ?_⟩
    exact fk23 _ _ _ _ _ _ _ ((zSm.rf.pa rfl).pv rfl) h14
  · have h15 := hw.2 c1
    obtain ⟨o16, h17⟩ := h15
    refine ⟨o16, ?_⟩
    obtain ⟨o18, h19⟩ := h17
    refine ⟨o18, ?_⟩
    obtain ⟨o22, h23⟩ := h19
    refine ⟨o22, ?_⟩
    obtain ⟨o26, h27⟩ := h23
    refine ⟨o26, ?_⟩
    exact fk23 _ _ _ _ _ _ _ ((zSm.rf.pa rfl).pv rfl) h27
theorem ffb_feed_23 {Q Q' : Int → zS → Prop} {k23 k23' : zS → Int → Int → Int → Int → Int → Int → Prop} {s0 : zS} {x1 : Int} {x2 : Int} {x3 : Int} {x4 : Int} {x5 : Int} {x6 : Int} (hq : ∀ (e : Int) (A' : zS), zSm s0 A' [1] [0, 2] → Q e A' → Q' e A') (fk23 : ∀ (A' : zS) (x0 : Int) (x1 : Int) (x2 : Int) (x3 : Int) (x4 : Int) (x5 : Int), zSm s0 A' [1] [0, 2] → k23 A' x0 x1 x2 x3 x4 x5 → k23' A' x0 x1 x2 x3 x4 x5) (hw : wr_feed_23B Q k23 s0 x1 x2 x3 x4 x5 x6) : wr_feed_23B Q' k23' s0 x1 x2 x3 x4 x5 x6 := by
  unfold wr_feed_23B at hw ⊢
  refine ⟨fun c1 => ?_, fun c1 => ?_⟩
  · have h2 := hw.1 c1
    exact hq _ _ zSm.rf h2
  · have h3 := hw.2 c1
    refine ⟨fun c4 => ?_, fun c4 => ?_⟩
    · have h5 := h3.1 c4
      refine ⟨fun c6 => ?_, fun c6 => ?_⟩
      · have h7 := h5.1 c6
        refine ⟨fun c8 => ?_, fun c8 => ?_⟩
        · have h9 := h7.1 c8
          exact ffj_feed_63 (fun e A' f q => hq e A' (zSm.rf.tr f rfl rfl) q) (fun A' x0 x1 x2 x3 x4 x5 f q => fk23 A' x0 x1 x2 x3 x4 x5 (zSm.rf.tr f rfl rfl) q) h9
        · have h10 := h7.2 c8
          exact ffj_feed_63 (fun e A' f q => hq e A' (zSm.rf.tr f rfl rfl) q) (fun A' x0 x1 x2 x3 x4 x5 f q => fk23 A' x0 x1 x2 x3 x4 x5 (zSm.rf.tr f rfl rfl) q) h10
      · have h11 := h5.2 c6
        refine ⟨fun c12 => ?_, fun c12 => ?_⟩
        · have h13 := h11.1 c12
          exact ffj_feed_63 (fun e A' f q => hq e A' (zSm.rf.tr f rfl rfl) q) (fun A' x0 x1 x2 x3 x4 x5 f q => fk23 A' x0 x1 x2 x3 x4 x5 (zSm.rf.tr f rfl rfl) q) h13
        · have h14 := h11.2 c12
          exact ffj_feed_63 (fun e A' f q => hq e A' (zSm.rf.tr f rfl rfl) q) (fun A' x0 x1 x2 x3 x4 x5 f q => fk23 A' x0 x1 x2 x3 x4 x5 (zSm.rf.tr f rfl rfl) q) h14
    · have h15 := h3.2 c4
      refine ⟨fun c16 => ?_, fun c16 => ?_⟩
      · have h17 := h15.1 c16
        refine ⟨fun c18 => ?_, fun c18 => ?_⟩
        · have h19 := h17.1 c18
          exact ffj_feed_63 (fun e A' f q => hq e A' (zSm.rf.tr f rfl rfl) q) (fun A' x0 x1 x2 x3 x4 x5 f q => fk23 A' x0 x1 x2 x3 x4 x5 (zSm.rf.tr f rfl rfl) q) h19
        · have h20 := h17.2 c18
          exact ffj_feed_63 (fun e A' f q => hq e A' (zSm.rf.tr f rfl rfl) q) (fun A' x0 x1 x2 x3 x4 x5 f q => fk23 A' x0 x1 x2 x3 x4 x5 (zSm.rf.tr f rfl rfl) q) h20
      · have h21 := h15.2 c16
        refine ⟨fun c22 => ?_, fun c22 => ?_⟩
        · have h23 := h21.1 c22
          exact ffj_feed_63 (fun e A' f q => hq e A' (zSm.rf.tr f rfl rfl) q) (fun A' x0 x1 x2 x3 x4 x5 f q => fk23 A' x0 x1 x2 x3 x4 x5 (zSm.rf.tr f rfl rfl) q) h23
        · have h24 := h21.2 c22
          exact ffj_feed_63 (fun e A' f q => hq e A' (zSm.rf.tr f rfl rfl) q) (fun A' x0 x1 x2 x3 x4 x5 f q => fk23 A' x0 x1 x2 x3 x4 x5 (zSm.rf.tr f rfl rfl) q) h24
theorem ffl_feed_230 {Q Q' : Int → zS → Prop}  : ∀ (m : Nat) (s0 : zS) (x1 : Int) (x2 : Int) (x3 : Int) (x4 : Int) (x5 : Int) (x6 : Int), (∀ (e : Int) (A' : zS), zSm s0 A' [1] [0, 2] → Q e A' → Q' e A') → wr_feed_23 Q  m s0 x1 x2 x3 x4 x5 x6 → wr_feed_23 Q'  m s0 x1 x2 x3 x4 x5 x6 := by
  intro m
  induction m with
  | zero => intro s0 x1 x2 x3 x4 x5 x6 hq  hw; exact hw
  | succ m ih => intro s0 x1 x2 x3 x4 x5 x6 hq  hw; exact ffb_feed_23 hq  (fun A' y0 y1 y2 y3 y4 y5 f1 q => ih A' y0 y1 y2 y3 y4 y5 (fun e A' f q => hq e A' (f1.tr f rfl rfl) q)  q) hw
theorem ffm_feed {s0 : zS} {a0 : Int} {a1 : Int} {a2 : Int} {a3 : Int} {a4 : Int} {Q Q' : Int → zS → Prop} (hw : wr_feed s0 a0 a1 a2 a3 a4 Q) (hq : ∀ (e : Int) (A' : zS), zSm s0 A' [1] [0, 2] → Q e A' → Q' e A') : wr_feed s0 a0 a1 a2 a3 a4 Q' := by
  unfold wr_feed at hw ⊢
  obtain ⟨o3, h4⟩ := hw
  refine ⟨o3, ?_⟩
  refine ⟨fun c5 => ?_, fun c5 => ?_⟩
  · have h6 := h4.1 c5
    obtain ⟨m7, h8⟩ := h6
    exact ⟨m7, ffl_feed_230 m7 _ _ _ _ _ _ _ (fun e A' f q => hq e A' ((zSm.rf.pv rfl).tr f rfl rfl) q)  h8⟩
  · have h9 := h4.2 c5
    exact hq _ _ (zSm.rf.pv rfl) h9
theorem ffm_end {s0 : zS} {a0 : Int} {Q Q' : Int → zS → Prop} (hw : wr_end s0 a0 Q) (hq : ∀ (e : Int) (A' : zS), zSm s0 A' [] [0, 2] → Q e A' → Q' e A') : wr_end s0 a0 Q' := by
  unfold wr_end at hw ⊢
  refine ⟨fun c3 => ?_, fun c3 => ?_⟩
  · have h4 := hw.1 c3
    exact hq _ _ (zSm.rf.pv rfl) h4
  · have h5 := hw.2 c3
    refine ⟨fun c6 => ?_, fun c6 => ?_⟩
    · have h7 := h5.1 c6
      exact hq _ _ ((zSm.rf.pv rfl).pv rfl) h7
    · have h10 := h5.2 c6
      exact hq _ _ (zSm.rf.pv rfl) h10
theorem ffj_compile_110 {Q Q' : Int → zS → Prop}  {s0 : zS} {x1 : Int} {y0 : Int} (hq : ∀ (e : Int) (A' : zS), zSm s0 A' [3, 6, 7, 9, 10, 11, 14, 16, 17, 25, 26, 27, 28, 29, 30, 31, 32, 33, 34, 35, 36, 39, 40, 41, 42, 46, 47, 50, 51, 52, 53, 54, 57, 60, 61, 62, 64, 65, 66, 68, 70, 71, 72, 85, 86] [0, 2, 4, 5, 8, 12, 13, 15, 18, 19, 20, 21, 22, 23, 24, 37, 38, 43, 44, 45, 48, 49, 55, 58, 59, 63, 67, 69, 73, 74, 75, 76, 77, 78, 79, 80, 81, 82, 83, 84, 99, 105] → Q e A' → Q' e A')  (hw : wr_compile_110 Q  s0 x1 y0) : wr_compile_110 Q'  s0 x1 y0 := by
  unfold wr_compile_110 at hw ⊢
  refine ⟨fun c1 => ?_, fun c1 => ?_⟩
  · have h2 := hw.1 c1
    refine ⟨fun c3 => ?_, fun c3 => ?_⟩
    · have h4 := h2.1 c3
      obtain ⟨o5, h6⟩ := h4
      refine ⟨o5, ?_⟩
      obtain ⟨o7, h8⟩ := h6
      refine ⟨o7, ?_⟩
      refine ffm_fault h8 (fun s10 f1 h14 => ?_)
      intro z15 e16 R17
      have h18 := h14 z15 e16 R17
      exact hq _ _ (zSm.rf.tr f1 rfl rfl) h18
    · have h19 := h2.2 c3
      refine ffm_fault h19 (fun s21 f2 h25 => ?_)
      intro z26 e27 R28
      have h29 := h25 z26 e27 R28
      exact hq _ _ (zSm.rf.tr f2 rfl rfl) h29
  · have h30 := hw.2 c1
    refine ffm_fault h30 (fun s32 f3 h36 => ?_)
    intro z37 e38 R39
    have h40 := h36 z37 e38 R39
    exact hq _ _ (zSm.rf.tr f3 rfl rfl) h40
theorem ffb_compile_20 {Q Q' : Int → zS → Prop} {k20 k20' : zS → Int → Prop} {s0 : zS} {x1 : Int} (hq : ∀ (e : Int) (A' : zS), zSm s0 A' [3, 6, 7, 9, 10, 11, 14, 16, 17, 25, 26, 27, 28, 29, 30, 31, 32, 33, 34, 35, 36, 39, 40, 41, 42, 46, 47, 50, 51, 52, 53, 54, 57, 60, 61, 62, 64, 65, 66, 68, 70, 71, 72, 85, 86] [0, 2, 4, 5, 8, 12, 13, 15, 18, 19, 20, 21, 22, 23, 24, 37, 38, 43, 44, 45, 48, 49, 55, 58, 59, 63, 67, 69, 73, 74, 75, 76, 77, 78, 79, 80, 81, 82, 83, 84, 99, 105] → Q e A' → Q' e A') (fk20 : ∀ (A' : zS) (x0 : Int), zSm s0 A' [3, 6, 7, 9, 10, 11, 14, 16, 17, 25, 26, 27, 28, 29, 30, 31, 32, 33, 34, 35, 36, 39, 40, 41, 42, 46, 47, 50, 51, 52, 53, 54, 57, 60, 61, 62, 64, 65, 66, 68, 70, 71, 72, 85, 86] [0, 2, 4, 5, 8, 12, 13, 15, 18, 19, 20, 21, 22, 23, 24, 37, 38, 43, 44, 45, 48, 49, 55, 58, 59, 63, 67, 69, 73, 74, 75, 76, 77, 78, 79, 80, 81, 82, 83, 84, 99, 105] → k20 A' x0 → k20' A' x0) (hw : wr_compile_20B Q k20 s0 x1) : wr_compile_20B Q' k20' s0 x1 := by
  unfold wr_compile_20B at hw ⊢
  refine ⟨fun c1 => ?_, fun c1 => ?_⟩
  · have h2 := hw.1 c1
    refine ffm_scan h2 (fun r9 s10 f1 h14 => ?_)
    refine ffm_parse h14 (fun r17 s18 f2 h22 => ?_)
    refine ⟨fun c23 => ?_, fun c23 => ?_⟩
    · have h24 := h22.1 c23
      refine ffm_check h24 (fun s26 f3 h30 => ?_)
      refine ⟨fun c31 => ?_, fun c31 => ?_⟩
      · have h32 := h30.1 c31
        exact hq _ _ (((((((((zSm.rf.pv rfl).pv rfl).pv rfl).tr f1 rfl rfl).pv rfl).tr f2 rfl rfl).tr f3 rfl rfl).pv rfl).pv rfl) h32
      · have h37 := h30.2 c31
        intro z38 e39 R40
        have h41 := h37 z38 e39 R40
        exact hq _ _ (((((((zSm.rf.pv rfl).pv rfl).pv rfl).tr f1 rfl rfl).pv rfl).tr f2 rfl rfl).tr f3 rfl rfl) h41
    · have h42 := h22.2 c23
      refine ⟨fun c43 => ?_, fun c43 => ?_⟩
      · have h44 := h42.1 c43
        exact ffj_compile_110 (fun e A' f q => hq e A' (((((((zSm.rf.pv rfl).pv rfl).pv rfl).tr f1 rfl rfl).pv rfl).tr f2 rfl rfl).tr f rfl rfl) q)  h44
      · have h46 := h42.2 c43
        refine ⟨fun c47 => ?_, fun c47 => ?_⟩
        · have h48 := h46.1 c47
          exact ffj_compile_110 (fun e A' f q => hq e A' (((((((zSm.rf.pv rfl).pv rfl).pv rfl).tr f1 rfl rfl).pv rfl).tr f2 rfl rfl).tr f rfl rfl) q)  h48
        · have h50 := h46.2 c47
          exact ffj_compile_110 (fun e A' f q => hq e A' (((((((zSm.rf.pv rfl).pv rfl).pv rfl).tr f1 rfl rfl).pv rfl).tr f2 rfl rfl).tr f rfl rfl) q)  h50
  · have h52 := hw.2 c1
    obtain ⟨o53, h54⟩ := h52
    refine ⟨o53, ?_⟩
    obtain ⟨o55, h56⟩ := h54
    refine ⟨o55, ?_⟩
    obtain ⟨o57, h58⟩ := h56
    refine ⟨o57, ?_⟩
    obtain ⟨o59, h60⟩ := h58
    refine ⟨o59, ?_⟩
    obtain ⟨o63, h64⟩ := h60
    refine ⟨o63, ?_⟩
    exact fk20 _ _ (zSm.rf.pa rfl) h64
theorem ffl_compile_200 {Q Q' : Int → zS → Prop}  : ∀ (m : Nat) (s0 : zS) (x1 : Int), (∀ (e : Int) (A' : zS), zSm s0 A' [3, 6, 7, 9, 10, 11, 14, 16, 17, 25, 26, 27, 28, 29, 30, 31, 32, 33, 34, 35, 36, 39, 40, 41, 42, 46, 47, 50, 51, 52, 53, 54, 57, 60, 61, 62, 64, 65, 66, 68, 70, 71, 72, 85, 86] [0, 2, 4, 5, 8, 12, 13, 15, 18, 19, 20, 21, 22, 23, 24, 37, 38, 43, 44, 45, 48, 49, 55, 58, 59, 63, 67, 69, 73, 74, 75, 76, 77, 78, 79, 80, 81, 82, 83, 84, 99, 105] → Q e A' → Q' e A') → wr_compile_20 Q  m s0 x1 → wr_compile_20 Q'  m s0 x1 := by
  intro m
  induction m with
  | zero => intro s0 x1 hq  hw; exact hw
  | succ m ih => intro s0 x1 hq  hw; exact ffb_compile_20 hq  (fun A' y0 f1 q => ih A' y0 (fun e A' f q => hq e A' (f1.tr f rfl rfl) q)  q) hw
theorem ffm_compile {s0 : zS}  {Q Q' : Int → zS → Prop} (hw : wr_compile s0  Q) (hq : ∀ (e : Int) (A' : zS), zSm s0 A' [3, 6, 7, 9, 10, 11, 14, 16, 17, 25, 26, 27, 28, 29, 30, 31, 32, 33, 34, 35, 36, 39, 40, 41, 42, 46, 47, 50, 51, 52, 53, 54, 57, 60, 61, 62, 64, 65, 66, 68, 70, 71, 72, 85, 86] [0, 2, 4, 5, 8, 12, 13, 15, 18, 19, 20, 21, 22, 23, 24, 37, 38, 43, 44, 45, 48, 49, 55, 58, 59, 63, 67, 69, 73, 74, 75, 76, 77, 78, 79, 80, 81, 82, 83, 84, 99, 105] → Q e A' → Q' e A') : wr_compile s0  Q' := by
  unfold wr_compile at hw ⊢
  obtain ⟨m7, h8⟩ := hw
  exact ⟨m7, ffl_compile_200 m7 _ _ (fun e A' f q => hq e A' ((((zSm.rf.pv rfl).pv rfl).pv rfl).tr f rfl rfl) q)  h8⟩
theorem ffm_fault_ {s0 : zS}  {Q Q' : Int → zS → Prop} (hw : wr_fault_ s0  Q) (hq : ∀ (e : Int) (A' : zS), zSm s0 A' [] [0] → Q e A' → Q' e A') : wr_fault_ s0  Q' := by
  unfold wr_fault_ at hw ⊢
  exact hq _ _ (zSm.rf.pv rfl) hw
theorem ffm_store {s0 : zS} {a0 : Int} {Q Q' : Int → zS → Prop} (hw : wr_store s0 a0 Q) (hq : ∀ (e : Int) (A' : zS), zSm s0 A' [] [0, 100] → Q e A' → Q' e A') : wr_store s0 a0 Q' := by
  unfold wr_store at hw ⊢
  refine ⟨fun c3 => ?_, fun c3 => ?_⟩
  · have h4 := hw.1 c3
    exact hq _ _ ((zSm.rf.pv rfl).pv rfl) h4
  · have h7 := hw.2 c3
    refine ⟨fun c8 => ?_, fun c8 => ?_⟩
    · have h9 := h7.1 c8
      exact hq _ _ ((zSm.rf.pv rfl).pv rfl) h9
    · have h12 := h7.2 c8
      refine ⟨fun c13 => ?_, fun c13 => ?_⟩
      · have h14 := h12.1 c13
        exact hq _ _ ((zSm.rf.pv rfl).pv rfl) h14
      · have h17 := h12.2 c13
        refine ⟨fun c18 => ?_, fun c18 => ?_⟩
        · have h19 := h17.1 c18
          exact hq _ _ ((zSm.rf.pv rfl).pv rfl) h19
        · have h22 := h17.2 c18
          refine ⟨fun c23 => ?_, fun c23 => ?_⟩
          · have h24 := h22.1 c23
            exact hq _ _ ((zSm.rf.pv rfl).pv rfl) h24
          · have h27 := h22.2 c23
            exact hq _ _ (zSm.rf.pv rfl) h27
theorem ffb_input_28 {Q Q' : Int → zS → Prop} {k28 k28' : zS → Int → Int → Int → Prop} {s0 : zS} {x1 : Int} {x2 : Int} {x3 : Int} (hq : ∀ (e : Int) (A' : zS), zSm s0 A' [109, 110, 111, 112, 113] [0, 2] → Q e A' → Q' e A') (fk28 : ∀ (A' : zS) (x0 : Int) (x1 : Int) (x2 : Int), zSm s0 A' [109, 110, 111, 112, 113] [0, 2] → k28 A' x0 x1 x2 → k28' A' x0 x1 x2) (hw : wr_input_28B Q k28 s0 x1 x2 x3) : wr_input_28B Q' k28' s0 x1 x2 x3 := by
  unfold wr_input_28B at hw ⊢
  refine ⟨fun c1 => ?_, fun c1 => ?_⟩
  · have h2 := hw.1 c1
    obtain ⟨o3, h4⟩ := h2
    refine ⟨o3, ?_⟩
    obtain ⟨o5, h6⟩ := h4
    refine ⟨o5, ?_⟩
    obtain ⟨o9, h10⟩ := h6
    refine ⟨o9, ?_⟩
    obtain ⟨o11, h12⟩ := h10
    refine ⟨o11, ?_⟩
    refine ffm_rowsOf h12 (fun s16 f1 h20 => ?_)
    exact hq _ _ (((zSm.rf.pa rfl).pa rfl).tr f1 rfl rfl) h20
  · have h21 := hw.2 c1
    obtain ⟨o22, h23⟩ := h21
    refine ⟨o22, ?_⟩
    obtain ⟨o24, h25⟩ := h23
    refine ⟨o24, ?_⟩
    obtain ⟨o26, h27⟩ := h25
    refine ⟨o26, ?_⟩
    obtain ⟨o28, h29⟩ := h27
    refine ⟨o28, ?_⟩
    obtain ⟨o32, h33⟩ := h29
    refine ⟨o32, ?_⟩
    exact fk28 _ _ _ _ (zSm.rf.pa rfl) h33
theorem ffl_input_280 {Q Q' : Int → zS → Prop}  : ∀ (m : Nat) (s0 : zS) (x1 : Int) (x2 : Int) (x3 : Int), (∀ (e : Int) (A' : zS), zSm s0 A' [109, 110, 111, 112, 113] [0, 2] → Q e A' → Q' e A') → wr_input_28 Q  m s0 x1 x2 x3 → wr_input_28 Q'  m s0 x1 x2 x3 := by
  intro m
  induction m with
  | zero => intro s0 x1 x2 x3 hq  hw; exact hw
  | succ m ih => intro s0 x1 x2 x3 hq  hw; exact ffb_input_28 hq  (fun A' y0 y1 y2 f1 q => ih A' y0 y1 y2 (fun e A' f q => hq e A' (f1.tr f rfl rfl) q)  q) hw
theorem ffm_input {s0 : zS} {a0 : Int} {Q Q' : Int → zS → Prop} (hw : wr_input s0 a0 Q) (hq : ∀ (e : Int) (A' : zS), zSm s0 A' [109, 110, 111, 112, 113] [0, 2] → Q e A' → Q' e A') : wr_input s0 a0 Q' := by
  unfold wr_input at hw ⊢
  refine ⟨fun c5 => ?_, fun c5 => ?_⟩
  · have h6 := hw.1 c5
    exact hq _ _ ((zSm.rf.pv rfl).pv rfl) h6
  · have h7 := hw.2 c5
    refine ⟨fun c8 => ?_, fun c8 => ?_⟩
    · have h9 := h7.1 c8
      obtain ⟨m10, h11⟩ := h9
      exact ⟨m10, ffl_input_280 m10 _ _ _ _ (fun e A' f q => hq e A' (((zSm.rf.pv rfl).pv rfl).tr f rfl rfl) q)  h11⟩
    · have h12 := h7.2 c8
      exact hq _ _ ((zSm.rf.pv rfl).pv rfl) h12
theorem ffb_run_172 {Q Q' : Int → zS → Prop} {k172 k172' : zS → Prop} {s0 : zS}  (hq : ∀ (e : Int) (A' : zS), zSm s0 A' [88, 89, 90, 92, 93, 94, 98, 107, 108, 113, 115, 116, 118] [0, 87, 91, 95, 96, 97, 101, 102, 103, 104, 106, 114, 117] → Q e A' → Q' e A') (fk172 : ∀ (A' : zS), zSm s0 A' [88, 89, 90, 92, 93, 94, 98, 107, 108, 113, 115, 116, 118] [0, 87, 91, 95, 96, 97, 101, 102, 103, 104, 106, 114, 117] → k172 A'  → k172' A' ) (hw : wr_run_172B Q k172 s0 ) : wr_run_172B Q' k172' s0  := by
  unfold wr_run_172B at hw ⊢
  refine ⟨fun c1 => ?_, fun c1 => ?_⟩
  · have h2 := hw.1 c1
    refine ⟨fun c3 => ?_, fun c3 => ?_⟩
    · have h4 := h2.1 c3
      exact hq _ _ zSm.rf h4
    · have h5 := h2.2 c3
      refine ffm_pop h5 (fun r6 s7 f1 h11 => ?_)
      exact hq _ _ ((zSm.rf.tr f1 rfl rfl).pv rfl) h11
  · have h14 := hw.2 c1
    refine ⟨fun c15 => ?_, fun c15 => ?_⟩
    · have h16 := h14.1 c15
      refine ⟨fun c17 => ?_, fun c17 => ?_⟩
      · have h18 := h16.1 c17
        exact hq _ _ zSm.rf h18
      · have h19 := h16.2 c17
        refine ffm_pop h19 (fun r20 s21 f2 h25 => ?_)
        exact hq _ _ ((zSm.rf.tr f2 rfl rfl).pv rfl) h25
    · have h28 := h14.2 c15
      refine ffm_doNext h28 (fun s30 f3 h34 => ?_)
      exact fk172 _  (zSm.rf.tr f3 rfl rfl) h34
theorem ffl_run_1720 {Q Q' : Int → zS → Prop}  : ∀ (m : Nat) (s0 : zS), (∀ (e : Int) (A' : zS), zSm s0 A' [88, 89, 90, 92, 93, 94, 98, 107, 108, 113, 115, 116, 118] [0, 87, 91, 95, 96, 97, 101, 102, 103, 104, 106, 114, 117] → Q e A' → Q' e A') → wr_run_172 Q  m s0  → wr_run_172 Q'  m s0  := by
  intro m
  induction m with
  | zero => intro s0  hq  hw; exact hw
  | succ m ih => intro s0  hq  hw; exact ffb_run_172 hq  (fun A'  f1 q => ih A'  (fun e A' f q => hq e A' (f1.tr f rfl rfl) q)  q) hw
theorem ffb_run_49 {Q Q' : Int → zS → Prop} {k49 k49' : zS → Int → Int → Prop} {s0 : zS} {x1 : Int} {x2 : Int} (hq : ∀ (e : Int) (A' : zS), zSm s0 A' [88, 89, 90, 92, 93, 94, 98, 107, 108, 113, 115, 116, 118] [0, 87, 91, 95, 96, 97, 101, 102, 103, 104, 106, 114, 117] → Q e A' → Q' e A') (fk49 : ∀ (A' : zS) (x0 : Int) (x1 : Int), zSm s0 A' [88, 89, 90, 92, 93, 94, 98, 107, 108, 113, 115, 116, 118] [0, 87, 91, 95, 96, 97, 101, 102, 103, 104, 106, 114, 117] → k49 A' x0 x1 → k49' A' x0 x1) (hw : wr_run_49B Q k49 s0 x1 x2) : wr_run_49B Q' k49' s0 x1 x2 := by
  unfold wr_run_49B at hw ⊢
  refine ⟨fun c1 => ?_, fun c1 => ?_⟩
  · have h2 := hw.1 c1
    obtain ⟨o31, h32⟩ := h2
    refine ⟨o31, ?_⟩
    obtain ⟨o33, h34⟩ := h32
    refine ⟨o33, ?_⟩
    refine ffm_enter h34 (fun s36 f1 h40 => ?_)
    obtain ⟨m41, h42⟩ := h40
    exact ⟨m41, ffl_run_1720 m41 _  (fun e A' f q => hq e A' ((((((((((((((((zSm.rf.pv rfl).pv rfl).pv rfl).pa rfl).pa rfl).pv rfl).pv rfl).pv rfl).pv rfl).pv rfl).pv rfl).pv rfl).pv rfl).pv rfl).tr f1 rfl rfl).tr f rfl rfl) q)  h42⟩
  · have h43 := hw.2 c1
    obtain ⟨o44, h45⟩ := h43
    refine ⟨o44, ?_⟩
    obtain ⟨o46, h47⟩ := h45
    refine ⟨o46, ?_⟩
    obtain ⟨o48, h49⟩ := h47
    refine ⟨o48, ?_⟩
    obtain ⟨o50, h51⟩ := h49
    refine ⟨o50, ?_⟩
    obtain ⟨o52, h53⟩ := h51
    refine ⟨o52, ?_⟩
    obtain ⟨o54, h55⟩ := h53
    refine ⟨o54, ?_⟩
    obtain ⟨o58, h59⟩ := h55
    refine ⟨o58, ?_⟩
    exact fk49 _ _ _ (zSm.rf.pa rfl) h59
theorem ffl_run_490 {Q Q' : Int → zS → Prop}  : ∀ (m : Nat) (s0 : zS) (x1 : Int) (x2 : Int), (∀ (e : Int) (A' : zS), zSm s0 A' [88, 89, 90, 92, 93, 94, 98, 107, 108, 113, 115, 116, 118] [0, 87, 91, 95, 96, 97, 101, 102, 103, 104, 106, 114, 117] → Q e A' → Q' e A') → wr_run_49 Q  m s0 x1 x2 → wr_run_49 Q'  m s0 x1 x2 := by
  intro m
  induction m with
  | zero => intro s0 x1 x2 hq  hw; exact hw
  | succ m ih => intro s0 x1 x2 hq  hw; exact ffb_run_49 hq  (fun A' y0 y1 f1 q => ih A' y0 y1 (fun e A' f q => hq e A' (f1.tr f rfl rfl) q)  q) hw
theorem ffb_run_27 {Q Q' : Int → zS → Prop} {k27 k27' : zS → Int → Int → Prop} {s0 : zS} {x1 : Int} {x2 : Int} (hq : ∀ (e : Int) (A' : zS), zSm s0 A' [88, 89, 90, 92, 93, 94, 98, 107, 108, 113, 115, 116, 118] [0, 87, 91, 95, 96, 97, 101, 102, 103, 104, 106, 114, 117] → Q e A' → Q' e A') (fk27 : ∀ (A' : zS) (x0 : Int) (x1 : Int), zSm s0 A' [88, 89, 90, 92, 93, 94, 98, 107, 108, 113, 115, 116, 118] [0, 87, 91, 95, 96, 97, 101, 102, 103, 104, 106, 114, 117] → k27 A' x0 x1 → k27' A' x0 x1) (hw : wr_run_27B Q k27 s0 x1 x2) : wr_run_27B Q' k27' s0 x1 x2 := by
  unfold wr_run_27B at hw ⊢
  refine ⟨fun c1 => ?_, fun c1 => ?_⟩
  · have h2 := hw.1 c1
    obtain ⟨m3, h4⟩ := h2
    exact ⟨m3, ffl_run_490 m3 _ _ _ (fun e A' f q => hq e A' (zSm.rf.tr f rfl rfl) q)  h4⟩
  · have h5 := hw.2 c1
    obtain ⟨o6, h7⟩ := h5
    refine ⟨o6, ?_⟩
    obtain ⟨o8, h9⟩ := h7
    refine ⟨o8, ?_⟩
    obtain ⟨o12, h13⟩ := h9
    refine ⟨o12, ?_⟩
    exact fk27 _ _ _ (zSm.rf.pa rfl) h13
theorem ffl_run_270 {Q Q' : Int → zS → Prop}  : ∀ (m : Nat) (s0 : zS) (x1 : Int) (x2 : Int), (∀ (e : Int) (A' : zS), zSm s0 A' [88, 89, 90, 92, 93, 94, 98, 107, 108, 113, 115, 116, 118] [0, 87, 91, 95, 96, 97, 101, 102, 103, 104, 106, 114, 117] → Q e A' → Q' e A') → wr_run_27 Q  m s0 x1 x2 → wr_run_27 Q'  m s0 x1 x2 := by
  intro m
  induction m with
  | zero => intro s0 x1 x2 hq  hw; exact hw
  | succ m ih => intro s0 x1 x2 hq  hw; exact ffb_run_27 hq  (fun A' y0 y1 f1 q => ih A' y0 y1 (fun e A' f q => hq e A' (f1.tr f rfl rfl) q)  q) hw
theorem ffm_run {s0 : zS} {a0 : Int} {Q Q' : Int → zS → Prop} (hw : wr_run s0 a0 Q) (hq : ∀ (e : Int) (A' : zS), zSm s0 A' [88, 89, 90, 92, 93, 94, 98, 107, 108, 113, 115, 116, 118] [0, 87, 91, 95, 96, 97, 101, 102, 103, 104, 106, 114, 117] → Q e A' → Q' e A') : wr_run s0 a0 Q' := by
  unfold wr_run at hw ⊢
  refine ⟨fun c3 => ?_, fun c3 => ?_⟩
  · have h4 := hw.1 c3
    exact hq _ _ (zSm.rf.pv rfl) h4
  · have h5 := hw.2 c3
    refine ⟨fun c6 => ?_, fun c6 => ?_⟩
    · have h7 := h5.1 c6
      exact hq _ _ (zSm.rf.pv rfl) h7
    · have h8 := h5.2 c6
      refine ⟨fun c9 => ?_, fun c9 => ?_⟩
      · have h10 := h8.1 c9
        obtain ⟨m11, h12⟩ := h10
        exact ⟨m11, ffl_run_270 m11 _ _ _ (fun e A' f q => hq e A' ((zSm.rf.pv rfl).tr f rfl rfl) q)  h12⟩
      · have h13 := h8.2 c9
        exact hq _ _ (zSm.rf.pv rfl) h13
theorem ffm_value {s0 : zS}  {Q Q' : Int → zS → Prop} (hw : wr_value s0  Q) (hq : ∀ (e : Int) (A' : zS), zSm s0 A' [] [0] → Q e A' → Q' e A') : wr_value s0  Q' := by
  unfold wr_value at hw ⊢
  exact hq _ _ (zSm.rf.pv rfl) hw
theorem ffm_out {s0 : zS} {a0 : Int} {Q Q' : Int → zS → Prop} (hw : wr_out s0 a0 Q) (hq : ∀ (e : Int) (A' : zS), zSm s0 A' [] [0] → Q e A' → Q' e A') : wr_out s0 a0 Q' := by
  unfold wr_out at hw ⊢
  refine ⟨fun c3 => ?_, fun c3 => ?_⟩
  · have h4 := hw.1 c3
    exact hq _ _ (zSm.rf.pv rfl) h4
  · have h5 := hw.2 c3
    refine ⟨fun c6 => ?_, fun c6 => ?_⟩
    · have h7 := h5.1 c6
      obtain ⟨o8, h9⟩ := h7
      refine ⟨o8, ?_⟩
      obtain ⟨o10, h11⟩ := h9
      refine ⟨o10, ?_⟩
      exact hq _ _ (zSm.rf.pv rfl) h11
    · have h12 := h5.2 c6
      exact hq _ _ (zSm.rf.pv rfl) h12
theorem ffm_outAt {s0 : zS} {a0 : Int} {a1 : Int} {Q Q' : Int → zS → Prop} (hw : wr_outAt s0 a0 a1 Q) (hq : ∀ (e : Int) (A' : zS), zSm s0 A' [] [0] → Q e A' → Q' e A') : wr_outAt s0 a0 a1 Q' := by
  unfold wr_outAt at hw ⊢
  refine ⟨fun c3 => ?_, fun c3 => ?_⟩
  · have h4 := hw.1 c3
    exact hq _ _ ((zSm.rf.pv rfl).pv rfl) h4
  · have h7 := hw.2 c3
    refine ⟨fun c8 => ?_, fun c8 => ?_⟩
    · have h9 := h7.1 c8
      exact hq _ _ ((zSm.rf.pv rfl).pv rfl) h9
    · have h12 := h7.2 c8
      refine ⟨fun c13 => ?_, fun c13 => ?_⟩
      · have h14 := h12.1 c13
        exact hq _ _ ((zSm.rf.pv rfl).pv rfl) h14
      · have h17 := h12.2 c13
        obtain ⟨o18, h19⟩ := h17
        refine ⟨o18, ?_⟩
        obtain ⟨o20, h21⟩ := h19
        refine ⟨o20, ?_⟩
        refine ⟨fun c22 => ?_, fun c22 => ?_⟩
        · have h23 := h21.1 c22
          obtain ⟨o24, h25⟩ := h23
          refine ⟨o24, ?_⟩
          obtain ⟨o26, h27⟩ := h25
          refine ⟨o26, ?_⟩
          exact hq _ _ (zSm.rf.pv rfl) h27
        · have h28 := h21.2 c22
          exact hq _ _ ((zSm.rf.pv rfl).pv rfl) h28
theorem ffm_word {s0 : zS} {a0 : Int} {Q Q' : Int → zS → Prop} (hw : wr_word s0 a0 Q) (hq : ∀ (e : Int) (A' : zS), zSm s0 A' [] [0] → Q e A' → Q' e A') : wr_word s0 a0 Q' := by
  unfold wr_word at hw ⊢
  refine ⟨fun c3 => ?_, fun c3 => ?_⟩
  · have h4 := hw.1 c3
    exact hq _ _ ((zSm.rf.pv rfl).pv rfl) h4
  · have h7 := hw.2 c3
    refine ⟨fun c8 => ?_, fun c8 => ?_⟩
    · have h9 := h7.1 c8
      obtain ⟨o10, h11⟩ := h9
      refine ⟨o10, ?_⟩
      obtain ⟨o12, h13⟩ := h11
      refine ⟨o12, ?_⟩
      exact hq _ _ (zSm.rf.pv rfl) h13
    · have h14 := h7.2 c8
      exact hq _ _ ((zSm.rf.pv rfl).pv rfl) h14
theorem ffm_fuel {s0 : zS}  {Q Q' : Int → zS → Prop} (hw : wr_fuel s0  Q) (hq : ∀ (e : Int) (A' : zS), zSm s0 A' [] [0] → Q e A' → Q' e A') : wr_fuel s0  Q' := by
  unfold wr_fuel at hw ⊢
  exact hq _ _ (zSm.rf.pv rfl) hw
