theorem ffj_Constants_reckon_386 {rec : Nat → Int → Int → Int → cS → (Int → cS → Prop) → Prop} (hrec : ∀ (i : Nat) (a b c : Int) (A : cS) (Q Q' : Int → cS → Prop), rec i a b c A Q → (∀ (e : Int) (A' : cS), ySm A A' [33] [38, 39, 40] → Q e A' → Q' e A') → rec i a b c A Q') {Q Q' : Int → cS → Prop} {k18 k18' : cS → Int → Int → Int → Int → Int → Prop} {s0 : cS} {x2 : Int} {x3 : Int} {x4 : Int} {x5 : Int} {x6 : Int} (hq : ∀ (e : Int) (A' : cS), ySm s0 A' [33] [38, 39, 40] → Q e A' → Q' e A') (fk18 : ∀ (A' : cS) (x0 : Int) (x1 : Int) (x2 : Int) (x3 : Int) (x4 : Int), ySm s0 A' [33] [38, 39, 40] → k18 A' x0 x1 x2 x3 x4 → k18' A' x0 x1 x2 x3 x4) (hw : wc_Constants_reckon_386 rec Q k18 s0 x2 x3 x4 x5 x6) : wc_Constants_reckon_386 rec Q' k18' s0 x2 x3 x4 x5 x6 := by
  unfold wc_Constants_reckon_386 at hw ⊢
  refine ffm_Tree_next hw (fun r1 A2 f1 h8 => ?_)
  obtain ⟨o9, h10⟩ := h8
  refine ⟨o9, ?_⟩
  exact fk18 _ _ _ _ _ _ (ySm.rf.tr f1 rfl rfl) h10
theorem ffj_Constants_reckon_317 {rec : Nat → Int → Int → Int → cS → (Int → cS → Prop) → Prop} (hrec : ∀ (i : Nat) (a b c : Int) (A : cS) (Q Q' : Int → cS → Prop), rec i a b c A Q → (∀ (e : Int) (A' : cS), ySm A A' [33] [38, 39, 40] → Q e A' → Q' e A') → rec i a b c A Q') {Q Q' : Int → cS → Prop} {k18 k18' : cS → Int → Int → Int → Int → Int → Prop} {s0 : cS} {x2 : Int} {x3 : Int} {x4 : Int} {x5 : Int} {x6 : Int} {x8 : Int} {x9 : Int} {y0 : Int} (hq : ∀ (e : Int) (A' : cS), ySm s0 A' [33] [38, 39, 40] → Q e A' → Q' e A') (fk18 : ∀ (A' : cS) (x0 : Int) (x1 : Int) (x2 : Int) (x3 : Int) (x4 : Int), ySm s0 A' [33] [38, 39, 40] → k18 A' x0 x1 x2 x3 x4 → k18' A' x0 x1 x2 x3 x4) (hw : wc_Constants_reckon_317 rec Q k18 s0 x2 x3 x4 x5 x6 x8 x9 y0) : wc_Constants_reckon_317 rec Q' k18' s0 x2 x3 x4 x5 x6 x8 x9 y0 := by
  unfold wc_Constants_reckon_317 at hw ⊢
  refine ⟨fun c1 => ?_, fun c1 => ?_⟩
  · have h2 := hw.1 c1
    refine ⟨fun c3 => ?_, fun c3 => ?_⟩
    · have h4 := h2.1 c3
      obtain ⟨o9, h10⟩ := h4
      refine ⟨o9, ?_⟩
      exact ffj_Constants_reckon_386 hrec (fun e A' f q => hq e A' ((ySm.rf.add rfl).tr f rfl rfl) q) (fun A' x0 x1 x2 x3 x4 f q => fk18 A' x0 x1 x2 x3 x4 ((ySm.rf.add rfl).tr f rfl rfl) q) h10
    · have h11 := h2.2 c3
      refine ffm_Scope_data h11 (fun r12 A13 f1 h19 => ?_)
      obtain ⟨o24, h25⟩ := h19
      refine ⟨o24, ?_⟩
      exact ffj_Constants_reckon_386 hrec (fun e A' f q => hq e A' (((ySm.rf.tr f1 rfl rfl).add rfl).tr f rfl rfl) q) (fun A' x0 x1 x2 x3 x4 f q => fk18 A' x0 x1 x2 x3 x4 (((ySm.rf.tr f1 rfl rfl).add rfl).tr f rfl rfl) q) h25
  · have h26 := hw.2 c1
    refine ⟨fun c27 => ?_, fun c27 => ?_⟩
    · have h28 := h26.1 c27
      refine ffm_Constants_fail h28 (fun A30 f2 h36 => ?_)
      refine ⟨fun c37 => ?_, fun c37 => ?_⟩
      · have h38 := h36.1 c37
        obtain ⟨o43, h44⟩ := h38
        refine ⟨o43, ?_⟩
        exact ffj_Constants_reckon_386 hrec (fun e A' f q => hq e A' (((ySm.rf.tr f2 rfl rfl).add rfl).tr f rfl rfl) q) (fun A' x0 x1 x2 x3 x4 f q => fk18 A' x0 x1 x2 x3 x4 (((ySm.rf.tr f2 rfl rfl).add rfl).tr f rfl rfl) q) h44
      · have h45 := h36.2 c37
        refine ffm_Scope_data h45 (fun r46 A47 f3 h53 => ?_)
        obtain ⟨o58, h59⟩ := h53
        refine ⟨o58, ?_⟩
        exact ffj_Constants_reckon_386 hrec (fun e A' f q => hq e A' ((((ySm.rf.tr f2 rfl rfl).tr f3 rfl rfl).add rfl).tr f rfl rfl) q) (fun A' x0 x1 x2 x3 x4 f q => fk18 A' x0 x1 x2 x3 x4 ((((ySm.rf.tr f2 rfl rfl).tr f3 rfl rfl).add rfl).tr f rfl rfl) q) h59
    · have h60 := h26.2 c27
      refine ffm_Constants_fail h60 (fun A62 f4 h68 => ?_)
      refine ⟨fun c69 => ?_, fun c69 => ?_⟩
      · have h70 := h68.1 c69
        obtain ⟨o75, h76⟩ := h70
        refine ⟨o75, ?_⟩
        exact ffj_Constants_reckon_386 hrec (fun e A' f q => hq e A' (((ySm.rf.tr f4 rfl rfl).add rfl).tr f rfl rfl) q) (fun A' x0 x1 x2 x3 x4 f q => fk18 A' x0 x1 x2 x3 x4 (((ySm.rf.tr f4 rfl rfl).add rfl).tr f rfl rfl) q) h76
      · have h77 := h68.2 c69
        refine ffm_Scope_data h77 (fun r78 A79 f5 h85 => ?_)
        obtain ⟨o90, h91⟩ := h85
        refine ⟨o90, ?_⟩
        exact ffj_Constants_reckon_386 hrec (fun e A' f q => hq e A' ((((ySm.rf.tr f4 rfl rfl).tr f5 rfl rfl).add rfl).tr f rfl rfl) q) (fun A' x0 x1 x2 x3 x4 f q => fk18 A' x0 x1 x2 x3 x4 ((((ySm.rf.tr f4 rfl rfl).tr f5 rfl rfl).add rfl).tr f rfl rfl) q) h91
theorem ffb_Constants_reckon_18 {rec : Nat → Int → Int → Int → cS → (Int → cS → Prop) → Prop} (hrec : ∀ (i : Nat) (a b c : Int) (A : cS) (Q Q' : Int → cS → Prop), rec i a b c A Q → (∀ (e : Int) (A' : cS), ySm A A' [33] [38, 39, 40] → Q e A' → Q' e A') → rec i a b c A Q') {Q Q' : Int → cS → Prop} {k18 k18' : cS → Int → Int → Int → Int → Int → Prop} {s0 : cS} {x2 : Int} {x3 : Int} {x4 : Int} {x5 : Int} {x6 : Int} (hq : ∀ (e : Int) (A' : cS), ySm s0 A' [33] [38, 39, 40] → Q e A' → Q' e A') (fk18 : ∀ (A' : cS) (x0 : Int) (x1 : Int) (x2 : Int) (x3 : Int) (x4 : Int), ySm s0 A' [33] [38, 39, 40] → k18 A' x0 x1 x2 x3 x4 → k18' A' x0 x1 x2 x3 x4) (hw : wc_Constants_reckon_18B rec Q k18 s0 x2 x3 x4 x5 x6) : wc_Constants_reckon_18B rec Q' k18' s0 x2 x3 x4 x5 x6 := by
  unfold wc_Constants_reckon_18B at hw ⊢
  refine ⟨fun c1 => ?_, fun c1 => ?_⟩
  · have h2 := hw.1 c1
    exact hq _ _ (ySm.rf.pop rfl) h2
  · have h7 := hw.2 c1
    refine ⟨fun c8 => ?_, fun c8 => ?_⟩
    · have h9 := h7.1 c8
      exact hq _ _ (ySm.rf.pop rfl) h9
    · have h14 := h7.2 c8
      refine ffm_Tree_data h14 (fun r15 A16 f1 h22 => ?_)
      refine ffm_Tree_place h22 (fun r23 A24 f2 h30 => ?_)
      refine ffm_Tree_kind h30 (fun r31 A32 f3 h38 => ?_)
      refine ⟨fun g39 => ?_, ?_⟩
      · have h41 := (h38.1) g39
        refine ffm_Scope_find h41 (fun r42 A43 f4 h49 => ?_)
        refine ⟨fun c50 => ?_, fun c50 => ?_⟩
        · have h51 := h49.1 c50
          exact ffj_Constants_reckon_317 hrec (fun e A' f q => hq e A' (((((ySm.rf.tr f1 rfl rfl).tr f2 rfl rfl).tr f3 rfl rfl).tr f4 rfl rfl).tr f rfl rfl) q) (fun A' x0 x1 x2 x3 x4 f q => fk18 A' x0 x1 x2 x3 x4 (((((ySm.rf.tr f1 rfl rfl).tr f2 rfl rfl).tr f3 rfl rfl).tr f4 rfl rfl).tr f rfl rfl) q) h51
        · have h52 := h49.2 c50
          refine ffm_Scope_kind h52 (fun r53 A54 f5 h60 => ?_)
          refine ⟨fun c61 => ?_, fun c61 => ?_⟩
          · have h62 := h60.1 c61
            exact ffj_Constants_reckon_317 hrec (fun e A' f q => hq e A' ((((((ySm.rf.tr f1 rfl rfl).tr f2 rfl rfl).tr f3 rfl rfl).tr f4 rfl rfl).tr f5 rfl rfl).tr f rfl rfl) q) (fun A' x0 x1 x2 x3 x4 f q => fk18 A' x0 x1 x2 x3 x4 ((((((ySm.rf.tr f1 rfl rfl).tr f2 rfl rfl).tr f3 rfl rfl).tr f4 rfl rfl).tr f5 rfl rfl).tr f rfl rfl) q) h62
          · have h63 := h60.2 c61
            refine ffm_Scope_owner h63 (fun r64 A65 f6 h71 => ?_)
            refine ⟨fun c72 => ?_, fun c72 => ?_⟩
            · have h73 := h71.1 c72
              exact ffj_Constants_reckon_317 hrec (fun e A' f q => hq e A' (((((((ySm.rf.tr f1 rfl rfl).tr f2 rfl rfl).tr f3 rfl rfl).tr f4 rfl rfl).tr f5 rfl rfl).tr f6 rfl rfl).tr f rfl rfl) q) (fun A' x0 x1 x2 x3 x4 f q => fk18 A' x0 x1 x2 x3 x4 (((((((ySm.rf.tr f1 rfl rfl).tr f2 rfl rfl).tr f3 rfl rfl).tr f4 rfl rfl).tr f5 rfl rfl).tr f6 rfl rfl).tr f rfl rfl) q) h73
            · have h74 := h71.2 c72
              exact ffj_Constants_reckon_317 hrec (fun e A' f q => hq e A' (((((((ySm.rf.tr f1 rfl rfl).tr f2 rfl rfl).tr f3 rfl rfl).tr f4 rfl rfl).tr f5 rfl rfl).tr f6 rfl rfl).tr f rfl rfl) q) (fun A' x0 x1 x2 x3 x4 f q => fk18 A' x0 x1 x2 x3 x4 (((((((ySm.rf.tr f1 rfl rfl).tr f2 rfl rfl).tr f3 rfl rfl).tr f4 rfl rfl).tr f5 rfl rfl).tr f6 rfl rfl).tr f rfl rfl) q) h74
      · skip
        refine ⟨fun g75 => ?_, ?_⟩
        · have h77 := (h38.2.1) g75
          refine hrec _ _ _ _ _ _ _ h77 (fun r78 A79 f7 h85 => ?_)
          obtain ⟨o90, h91⟩ := h85
          refine ⟨o90, ?_⟩
          exact ffj_Constants_reckon_386 hrec (fun e A' f q => hq e A' ((((((ySm.rf.tr f1 rfl rfl).tr f2 rfl rfl).tr f3 rfl rfl).tr f7 rfl rfl).add rfl).tr f rfl rfl) q) (fun A' x0 x1 x2 x3 x4 f q => fk18 A' x0 x1 x2 x3 x4 ((((((ySm.rf.tr f1 rfl rfl).tr f2 rfl rfl).tr f3 rfl rfl).tr f7 rfl rfl).add rfl).tr f rfl rfl) q) h91
        · skip
          refine ⟨fun g92 => ?_, ?_⟩
          · have h94 := (h38.2.2.1) g92
            refine ffm_Tree_first h94 (fun r95 A96 f8 h102 => ?_)
            refine hrec _ _ _ _ _ _ _ h102 (fun r103 A104 f9 h110 => ?_)
            obtain ⟨o115, h116⟩ := h110
            refine ⟨o115, ?_⟩
            exact ffj_Constants_reckon_386 hrec (fun e A' f q => hq e A' (((((((ySm.rf.tr f1 rfl rfl).tr f2 rfl rfl).tr f3 rfl rfl).tr f8 rfl rfl).tr f9 rfl rfl).add rfl).tr f rfl rfl) q) (fun A' x0 x1 x2 x3 x4 f q => fk18 A' x0 x1 x2 x3 x4 (((((((ySm.rf.tr f1 rfl rfl).tr f2 rfl rfl).tr f3 rfl rfl).tr f8 rfl rfl).tr f9 rfl rfl).add rfl).tr f rfl rfl) q) h116
          · skip
            refine ⟨fun g117 => ?_, ?_⟩
            · have h119 := (h38.2.2.2.1) g117
              refine ffm_Tree_first h119 (fun r120 A121 f10 h127 => ?_)
              refine hrec _ _ _ _ _ _ _ h127 (fun r128 A129 f11 h135 => ?_)
              obtain ⟨o140, h141⟩ := h135
              refine ⟨o140, ?_⟩
              refine ffm_Tree_first h141 (fun r142 A143 f12 h149 => ?_)
              refine ffm_Tree_next h149 (fun r150 A151 f13 h157 => ?_)
              refine ffm_Tree_place h157 (fun r158 A159 f14 h165 => ?_)
              refine ffm_Constants_fail h165 (fun A167 f15 h173 => ?_)
              exact ffj_Constants_reckon_386 hrec (fun e A' f q => hq e A' (((((((((((ySm.rf.tr f1 rfl rfl).tr f2 rfl rfl).tr f3 rfl rfl).tr f10 rfl rfl).tr f11 rfl rfl).add rfl).tr f12 rfl rfl).tr f13 rfl rfl).tr f14 rfl rfl).tr f15 rfl rfl).tr f rfl rfl) q) (fun A' x0 x1 x2 x3 x4 f q => fk18 A' x0 x1 x2 x3 x4 (((((((((((ySm.rf.tr f1 rfl rfl).tr f2 rfl rfl).tr f3 rfl rfl).tr f10 rfl rfl).tr f11 rfl rfl).add rfl).tr f12 rfl rfl).tr f13 rfl rfl).tr f14 rfl rfl).tr f15 rfl rfl).tr f rfl rfl) q) h173
            · skip
              refine ⟨fun g174 => ?_, ?_⟩
              · have h176 := (h38.2.2.2.2.1) g174
                refine ffm_W_isRelation h176 (fun r177 A178 f16 h184 => ?_)
                refine ⟨fun c185 => ?_, fun c185 => ?_⟩
                · have h186 := h184.1 c185
                  refine ffm_Constants_work h186 (fun A188 f17 h194 => ?_)
                  exact ffj_Constants_reckon_386 hrec (fun e A' f q => hq e A' ((((((ySm.rf.tr f1 rfl rfl).tr f2 rfl rfl).tr f3 rfl rfl).tr f16 rfl rfl).tr f17 rfl rfl).tr f rfl rfl) q) (fun A' x0 x1 x2 x3 x4 f q => fk18 A' x0 x1 x2 x3 x4 ((((((ySm.rf.tr f1 rfl rfl).tr f2 rfl rfl).tr f3 rfl rfl).tr f16 rfl rfl).tr f17 rfl rfl).tr f rfl rfl) q) h194
                · have h195 := h184.2 c185
                  refine ffm_Tree_extra h195 (fun r196 A197 f18 h203 => ?_)
                  refine ⟨fun c204 => ?_, fun c204 => ?_⟩
                  · have h205 := h203.1 c204
                    refine ffm_Constants_relate h205 (fun r206 A207 f19 h213 => ?_)
                    refine ⟨fun c214 => ?_, fun c214 => ?_⟩
                    · have h215 := h213.1 c214
                      exact ffj_Constants_reckon_386 hrec (fun e A' f q => hq e A' (((((((ySm.rf.tr f1 rfl rfl).tr f2 rfl rfl).tr f3 rfl rfl).tr f16 rfl rfl).tr f18 rfl rfl).tr f19 rfl rfl).tr f rfl rfl) q) (fun A' x0 x1 x2 x3 x4 f q => fk18 A' x0 x1 x2 x3 x4 (((((((ySm.rf.tr f1 rfl rfl).tr f2 rfl rfl).tr f3 rfl rfl).tr f16 rfl rfl).tr f18 rfl rfl).tr f19 rfl rfl).tr f rfl rfl) q) h215
                    · have h216 := h213.2 c214
                      refine ⟨fun c217 => ?_, fun c217 => ?_⟩
                      · have h218 := h216.1 c217
                        exact ffj_Constants_reckon_386 hrec (fun e A' f q => hq e A' (((((((ySm.rf.tr f1 rfl rfl).tr f2 rfl rfl).tr f3 rfl rfl).tr f16 rfl rfl).tr f18 rfl rfl).tr f19 rfl rfl).tr f rfl rfl) q) (fun A' x0 x1 x2 x3 x4 f q => fk18 A' x0 x1 x2 x3 x4 (((((((ySm.rf.tr f1 rfl rfl).tr f2 rfl rfl).tr f3 rfl rfl).tr f16 rfl rfl).tr f18 rfl rfl).tr f19 rfl rfl).tr f rfl rfl) q) h218
                      · have h219 := h216.2 c217
                        exact ffj_Constants_reckon_386 hrec (fun e A' f q => hq e A' (((((((ySm.rf.tr f1 rfl rfl).tr f2 rfl rfl).tr f3 rfl rfl).tr f16 rfl rfl).tr f18 rfl rfl).tr f19 rfl rfl).tr f rfl rfl) q) (fun A' x0 x1 x2 x3 x4 f q => fk18 A' x0 x1 x2 x3 x4 (((((((ySm.rf.tr f1 rfl rfl).tr f2 rfl rfl).tr f3 rfl rfl).tr f16 rfl rfl).tr f18 rfl rfl).tr f19 rfl rfl).tr f rfl rfl) q) h219
                  · have h220 := h203.2 c204
                    refine ffm_Constants_relate h220 (fun r221 A222 f20 h228 => ?_)
                    refine ⟨fun c229 => ?_, fun c229 => ?_⟩
                    · have h230 := h228.1 c229
                      exact ffj_Constants_reckon_386 hrec (fun e A' f q => hq e A' (((((((ySm.rf.tr f1 rfl rfl).tr f2 rfl rfl).tr f3 rfl rfl).tr f16 rfl rfl).tr f18 rfl rfl).tr f20 rfl rfl).tr f rfl rfl) q) (fun A' x0 x1 x2 x3 x4 f q => fk18 A' x0 x1 x2 x3 x4 (((((((ySm.rf.tr f1 rfl rfl).tr f2 rfl rfl).tr f3 rfl rfl).tr f16 rfl rfl).tr f18 rfl rfl).tr f20 rfl rfl).tr f rfl rfl) q) h230
                    · have h231 := h228.2 c229
                      refine ⟨fun c232 => ?_, fun c232 => ?_⟩
                      · have h233 := h231.1 c232
                        exact ffj_Constants_reckon_386 hrec (fun e A' f q => hq e A' (((((((ySm.rf.tr f1 rfl rfl).tr f2 rfl rfl).tr f3 rfl rfl).tr f16 rfl rfl).tr f18 rfl rfl).tr f20 rfl rfl).tr f rfl rfl) q) (fun A' x0 x1 x2 x3 x4 f q => fk18 A' x0 x1 x2 x3 x4 (((((((ySm.rf.tr f1 rfl rfl).tr f2 rfl rfl).tr f3 rfl rfl).tr f16 rfl rfl).tr f18 rfl rfl).tr f20 rfl rfl).tr f rfl rfl) q) h233
                      · have h234 := h231.2 c232
                        exact ffj_Constants_reckon_386 hrec (fun e A' f q => hq e A' (((((((ySm.rf.tr f1 rfl rfl).tr f2 rfl rfl).tr f3 rfl rfl).tr f16 rfl rfl).tr f18 rfl rfl).tr f20 rfl rfl).tr f rfl rfl) q) (fun A' x0 x1 x2 x3 x4 f q => fk18 A' x0 x1 x2 x3 x4 (((((((ySm.rf.tr f1 rfl rfl).tr f2 rfl rfl).tr f3 rfl rfl).tr f16 rfl rfl).tr f18 rfl rfl).tr f20 rfl rfl).tr f rfl rfl) q) h234
              · skip
                intro ng39 ng75 ng92 ng117 ng174
                have h235 := h38.2.2.2.2.2 ng39 ng75 ng92 ng117 ng174
                refine ffm_Tree_kind h235 (fun r236 A237 f21 h243 => ?_)
                refine ffm_Constants_single h243 (fun A245 f22 h251 => ?_)
                exact ffj_Constants_reckon_386 hrec (fun e A' f q => hq e A' ((((((ySm.rf.tr f1 rfl rfl).tr f2 rfl rfl).tr f3 rfl rfl).tr f21 rfl rfl).tr f22 rfl rfl).tr f rfl rfl) q) (fun A' x0 x1 x2 x3 x4 f q => fk18 A' x0 x1 x2 x3 x4 ((((((ySm.rf.tr f1 rfl rfl).tr f2 rfl rfl).tr f3 rfl rfl).tr f21 rfl rfl).tr f22 rfl rfl).tr f rfl rfl) q) h251
theorem ffl_Constants_reckon_180 {rec : Nat → Int → Int → Int → cS → (Int → cS → Prop) → Prop} (hrec : ∀ (i : Nat) (a b c : Int) (A : cS) (Q Q' : Int → cS → Prop), rec i a b c A Q → (∀ (e : Int) (A' : cS), ySm A A' [33] [38, 39, 40] → Q e A' → Q' e A') → rec i a b c A Q') {Q Q' : Int → cS → Prop}  : ∀ (m : Nat) (s0 : cS) (x2 : Int) (x3 : Int) (x4 : Int) (x5 : Int) (x6 : Int), (∀ (e : Int) (A' : cS), ySm s0 A' [33] [38, 39, 40] → Q e A' → Q' e A') → wc_Constants_reckon_18 rec Q  m s0 x2 x3 x4 x5 x6 → wc_Constants_reckon_18 rec Q'  m s0 x2 x3 x4 x5 x6 := by
  intro m
  induction m with
  | zero => intro s0 x2 x3 x4 x5 x6 hq  hw; exact hw
  | succ m ih => intro s0 x2 x3 x4 x5 x6 hq  hw; exact ffb_Constants_reckon_18 hrec hq  (fun A' y0 y1 y2 y3 y4 f1 q => ih A' y0 y1 y2 y3 y4 (fun e A' f q => hq e A' (f1.tr f rfl rfl) q)  q) hw
theorem ffm_Constants_reckon {rec : Nat → Int → Int → Int → cS → (Int → cS → Prop) → Prop} (hrec : ∀ (i : Nat) (a b c : Int) (A : cS) (Q Q' : Int → cS → Prop), rec i a b c A Q → (∀ (e : Int) (A' : cS), ySm A A' [33] [38, 39, 40] → Q e A' → Q' e A') → rec i a b c A Q') {s0 : cS} {a0 : Int} {a1 : Int} {Q Q' : Int → cS → Prop} (hw : wc_Constants_reckon rec s0 a0 a1 Q) (hq : ∀ (e : Int) (A' : cS), ySm s0 A' [33] [38, 39, 40] → Q e A' → Q' e A') : wc_Constants_reckon rec s0 a0 a1 Q' := by
  unfold wc_Constants_reckon at hw ⊢
  refine ffm_Tree_first hw (fun r1 A2 f1 h8 => ?_)
  obtain ⟨m9, h10⟩ := h8
  exact ⟨m9, ffl_Constants_reckon_180 hrec m9 _ _ _ _ _ _ (fun e A' f q => hq e A' ((ySm.rf.tr f1 rfl rfl).tr f rfl rfl) q)  h10⟩
theorem ffj_Constants_choose_52 {rec : Nat → Int → Int → Int → cS → (Int → cS → Prop) → Prop} (hrec : ∀ (i : Nat) (a b c : Int) (A : cS) (Q Q' : Int → cS → Prop), rec i a b c A Q → (∀ (e : Int) (A' : cS), ySm A A' [33] [38, 39, 40] → Q e A' → Q' e A') → rec i a b c A Q') {Q Q' : Int → cS → Prop}  {s0 : cS} {x2 : Int} {x4 : Int} {x5 : Int} {y0 : Int} {y1 : Int} (hq : ∀ (e : Int) (A' : cS), ySm s0 A' [33] [38, 39, 40] → Q e A' → Q' e A')  (hw : wc_Constants_choose_52 rec Q  s0 x2 x4 x5 y0 y1) : wc_Constants_choose_52 rec Q'  s0 x2 x4 x5 y0 y1 := by
  unfold wc_Constants_choose_52 at hw ⊢
  refine hrec _ _ _ _ _ _ _ hw (fun r1 A2 f1 h8 => ?_)
  refine ffm_Tree_next h8 (fun r9 A10 f2 h16 => ?_)
  refine ⟨fun c17 => ?_, fun c17 => ?_⟩
  · have h18 := h16.1 c17
    refine hrec _ _ _ _ _ _ _ h18 (fun r19 A20 f3 h26 => ?_)
    refine ⟨fun c27 => ?_, fun c27 => ?_⟩
    · have h28 := h26.1 c27
      exact hq _ _ (((ySm.rf.tr f1 rfl rfl).tr f2 rfl rfl).tr f3 rfl rfl) h28
    · have h29 := h26.2 c27
      exact hq _ _ (((ySm.rf.tr f1 rfl rfl).tr f2 rfl rfl).tr f3 rfl rfl) h29
  · have h30 := h16.2 c17
    refine ⟨fun c31 => ?_, fun c31 => ?_⟩
    · have h32 := h30.1 c31
      refine hrec _ _ _ _ _ _ _ h32 (fun r33 A34 f4 h40 => ?_)
      refine ⟨fun c41 => ?_, fun c41 => ?_⟩
      · have h42 := h40.1 c41
        exact hq _ _ (((ySm.rf.tr f1 rfl rfl).tr f2 rfl rfl).tr f4 rfl rfl) h42
      · have h43 := h40.2 c41
        exact hq _ _ (((ySm.rf.tr f1 rfl rfl).tr f2 rfl rfl).tr f4 rfl rfl) h43
    · have h44 := h30.2 c31
      refine hrec _ _ _ _ _ _ _ h44 (fun r45 A46 f5 h52 => ?_)
      refine ⟨fun c53 => ?_, fun c53 => ?_⟩
      · have h54 := h52.1 c53
        exact hq _ _ (((ySm.rf.tr f1 rfl rfl).tr f2 rfl rfl).tr f5 rfl rfl) h54
      · have h55 := h52.2 c53
        exact hq _ _ (((ySm.rf.tr f1 rfl rfl).tr f2 rfl rfl).tr f5 rfl rfl) h55
theorem ffm_Constants_choose {rec : Nat → Int → Int → Int → cS → (Int → cS → Prop) → Prop} (hrec : ∀ (i : Nat) (a b c : Int) (A : cS) (Q Q' : Int → cS → Prop), rec i a b c A Q → (∀ (e : Int) (A' : cS), ySm A A' [33] [38, 39, 40] → Q e A' → Q' e A') → rec i a b c A Q') {s0 : cS} {a0 : Int} {a1 : Int} {Q Q' : Int → cS → Prop} (hw : wc_Constants_choose rec s0 a0 a1 Q) (hq : ∀ (e : Int) (A' : cS), ySm s0 A' [33] [38, 39, 40] → Q e A' → Q' e A') : wc_Constants_choose rec s0 a0 a1 Q' := by
  unfold wc_Constants_choose at hw ⊢
  refine ffm_Tree_first hw (fun r1 A2 f1 h8 => ?_)
  refine ffm_Tree_next h8 (fun r9 A10 f2 h16 => ?_)
  refine hrec _ _ _ _ _ _ _ h16 (fun r17 A18 f3 h24 => ?_)
  refine ⟨fun c25 => ?_, fun c25 => ?_⟩
  · have h26 := h24.1 c25
    refine ⟨fun c27 => ?_, fun c27 => ?_⟩
    · have h28 := h26.1 c27
      exact ffj_Constants_choose_52 hrec (fun e A' f q => hq e A' ((((ySm.rf.tr f1 rfl rfl).tr f2 rfl rfl).tr f3 rfl rfl).tr f rfl rfl) q)  h28
    · have h29 := h26.2 c27
      exact ffj_Constants_choose_52 hrec (fun e A' f q => hq e A' ((((ySm.rf.tr f1 rfl rfl).tr f2 rfl rfl).tr f3 rfl rfl).tr f rfl rfl) q)  h29
  · have h31 := h24.2 c25
    refine ⟨fun c32 => ?_, fun c32 => ?_⟩
    · have h33 := h31.1 c32
      exact ffj_Constants_choose_52 hrec (fun e A' f q => hq e A' ((((ySm.rf.tr f1 rfl rfl).tr f2 rfl rfl).tr f3 rfl rfl).tr f rfl rfl) q)  h33
    · have h34 := h31.2 c32
      exact ffj_Constants_choose_52 hrec (fun e A' f q => hq e A' ((((ySm.rf.tr f1 rfl rfl).tr f2 rfl rfl).tr f3 rfl rfl).tr f rfl rfl) q)  h34
theorem wcG_K_0 (m : Nat) (a b c : Int) (A : cS) (Q : Int → cS → Prop) : wcG_K (m + 1) 0 a b c A Q = wc_Constants_reckon (wcG_K m) A a b Q := rfl
theorem wcG_K_1 (m : Nat) (a b c : Int) (A : cS) (Q : Int → cS → Prop) : wcG_K (m + 1) 1 a b c A Q = wc_Constants_choose (wcG_K m) A a b Q := rfl
theorem ffG_K : ∀ (m : Nat) (i : Nat) (a b c : Int) (A : cS) (Q Q' : Int → cS → Prop), wcG_K m i a b c A Q → (∀ (e : Int) (A' : cS), ySm A A' [33] [38, 39, 40] → Q e A' → Q' e A') → wcG_K m i a b c A Q' := by
  intro m
  induction m with
  | zero => intro i a b c A Q Q' hw hq; exact hw
  | succ m ih =>
    intro i a b c A Q Q' hw hq
    match i with
    | 0 => exact Eq.mpr (wcG_K_0 _ _ _ _ _ _) (ffm_Constants_reckon ih (Eq.mp (wcG_K_0 _ _ _ _ _ _) hw) (fun e A' f q => hq _ A' f q))
    | 1 => exact Eq.mpr (wcG_K_1 _ _ _ _ _ _) (ffm_Constants_choose ih (Eq.mp (wcG_K_1 _ _ _ _ _ _) hw) (fun e A' f q => hq _ A' f q))
      | n + 2 => exact absurd hw (by unfold wcG_K; exact id)
theorem ffj_Constants_number_55 {Q Q' : Int → cS → Prop}  {s0 : cS} {x3 : Int} (hq : ∀ (e : Int) (A' : cS), ySm s0 A' [33] [4, 5, 38, 39, 40] → Q e A' → Q' e A')  (hw : wc_Constants_number_55 Q  s0 x3) : wc_Constants_number_55 Q'  s0 x3 := by
  unfold wc_Constants_number_55 at hw ⊢
  refine ⟨fun c1 => ?_, fun c1 => ?_⟩
  · have h2 := hw.1 c1
    refine ⟨fun c3 => ?_, fun c3 => ?_⟩
    · have h4 := h2.1 c3
      exact hq _ _ ySm.rf h4
    · have h5 := h2.2 c3
      exact hq _ _ ySm.rf h5
  · have h6 := hw.2 c1
    refine ffm_Program_blame h6 (fun A8 f1 h14 => ?_)
    refine ⟨fun c15 => ?_, fun c15 => ?_⟩
    · have h16 := h14.1 c15
      exact hq _ _ (ySm.rf.tr f1 rfl rfl) h16
    · have h17 := h14.2 c15
      exact hq _ _ (ySm.rf.tr f1 rfl rfl) h17
theorem ffm_Constants_number {s0 : cS} {a0 : Int} {a1 : Int} {Q Q' : Int → cS → Prop} (hw : wc_Constants_number s0 a0 a1 Q) (hq : ∀ (e : Int) (A' : cS), ySm s0 A' [33] [4, 5, 38, 39, 40] → Q e A' → Q' e A') : wc_Constants_number s0 a0 a1 Q' := by
  unfold wc_Constants_number at hw ⊢
  obtain ⟨m16, hm17, h18⟩ := hw
  refine ⟨m16, hm17, ?_⟩
  refine ffG_K m16 _ _ _ _ _ _ _ h18 (fun r19 A20 f1 h26 => ?_)
  refine ⟨fun c27 => ?_, fun c27 => ?_⟩
  · have h28 := h26.1 c27
    exact ffj_Constants_number_55 (fun e A' f q => hq e A' ((((ySm.rf.pv rfl).cut rfl).tr f1 rfl rfl).tr f rfl rfl) q)  h28
  · have h29 := h26.2 c27
    refine ⟨fun c30 => ?_, fun c30 => ?_⟩
    · have h31 := h29.1 c30
      exact ffj_Constants_number_55 (fun e A' f q => hq e A' ((((ySm.rf.pv rfl).cut rfl).tr f1 rfl rfl).tr f rfl rfl) q)  h31
    · have h32 := h29.2 c30
      refine ⟨fun c33 => ?_, fun c33 => ?_⟩
      · have h34 := h32.1 c33
        refine ffm_Tree_place h34 (fun r35 A36 f2 h42 => ?_)
        refine ffm_Constants_fail h42 (fun A44 f3 h50 => ?_)
        exact ffj_Constants_number_55 (fun e A' f q => hq e A' ((((((ySm.rf.pv rfl).cut rfl).tr f1 rfl rfl).tr f2 rfl rfl).tr f3 rfl rfl).tr f rfl rfl) q)  h50
      · have h51 := h32.2 c33
        refine ⟨fun c52 => ?_, fun c52 => ?_⟩
        · have h53 := h51.1 c52
          exact ffj_Constants_number_55 (fun e A' f q => hq e A' ((((ySm.rf.pv rfl).cut rfl).tr f1 rfl rfl).tr f rfl rfl) q)  h53
        · have h54 := h51.2 c52
          refine ffm_Tree_place h54 (fun r55 A56 f4 h62 => ?_)
          refine ffm_Constants_fail h62 (fun A64 f5 h70 => ?_)
          exact ffj_Constants_number_55 (fun e A' f q => hq e A' ((((((ySm.rf.pv rfl).cut rfl).tr f1 rfl rfl).tr f4 rfl rfl).tr f5 rfl rfl).tr f rfl rfl) q)  h70
theorem ffm_Coder_leaveAll {s0 : cS}  {Q Q' : cS → Prop} (hw : wc_Coder_leaveAll s0  Q) (hq : ∀ (A' : cS), ySm s0 A' [] [13, 14, 15, 16] → Q A' → Q' A') : wc_Coder_leaveAll s0  Q' := by
  unfold wc_Coder_leaveAll at hw ⊢
  exact hq _ ((((ySm.rf.pv rfl).pv rfl).pv rfl).pv rfl) hw
theorem ffb_Coder_entrance_86 {Q Q' : cS → Prop} {k86 k86' : cS → Int → Int → Int → Prop} {s0 : cS} {x2 : Int} {x3 : Int} {x4 : Int} (hq : ∀ (A' : cS), ySm s0 A' [26, 33] [4, 5, 18, 38, 39, 40] → Q A' → Q' A') (fk86 : ∀ (A' : cS) (x0 : Int) (x1 : Int) (x2 : Int), ySm s0 A' [26, 33] [4, 5, 18, 38, 39, 40] → k86 A' x0 x1 x2 → k86' A' x0 x1 x2) (hw : wc_Coder_entrance_86B Q k86 s0 x2 x3 x4) : wc_Coder_entrance_86B Q' k86' s0 x2 x3 x4 := by
  unfold wc_Coder_entrance_86B at hw ⊢
  refine ⟨fun c1 => ?_, fun c1 => ?_⟩
  · have h2 := hw.1 c1
    obtain ⟨o7, h8⟩ := h2
    refine ⟨o7, ?_⟩
    refine ffm_Program_here h8 (fun r9 A10 f1 h16 => ?_)
    obtain ⟨o21, h22⟩ := h16
    refine ⟨o21, ?_⟩
    exact hq _ (((ySm.rf.add rfl).tr f1 rfl rfl).add rfl) h22
  · have h23 := hw.2 c1
    refine ⟨fun c24 => ?_, fun c24 => ?_⟩
    · have h25 := h23.1 c24
      obtain ⟨o26, h27⟩ := h25
      refine ⟨o26, ?_⟩
      exact fk86 _ _ _ _ ySm.rf h27
    · have h28 := h23.2 c24
      refine ffm_Tree_place h28 (fun r29 A30 f2 h36 => ?_)
      refine ffm_Program_blame h36 (fun A38 f3 h44 => ?_)
      obtain ⟨o45, h46⟩ := h44
      refine ⟨o45, ?_⟩
      exact fk86 _ _ _ _ ((ySm.rf.tr f2 rfl rfl).tr f3 rfl rfl) h46
theorem ffl_Coder_entrance_860 {Q Q' : cS → Prop}  : ∀ (m : Nat) (s0 : cS) (x2 : Int) (x3 : Int) (x4 : Int), (∀ (A' : cS), ySm s0 A' [26, 33] [4, 5, 18, 38, 39, 40] → Q A' → Q' A') → wc_Coder_entrance_86 Q  m s0 x2 x3 x4 → wc_Coder_entrance_86 Q'  m s0 x2 x3 x4 := by
  intro m
  induction m with
  | zero => intro s0 x2 x3 x4 hq  hw; exact hw
  | succ m ih => intro s0 x2 x3 x4 hq  hw; exact ffb_Coder_entrance_86 hq  (fun A' y0 y1 y2 f1 q => ih A' y0 y1 y2 (fun A' f q => hq A' (f1.tr f rfl rfl) q)  q) hw
theorem ffm_Coder_entrance {s0 : cS} {a0 : Int} {Q Q' : cS → Prop} (hw : wc_Coder_entrance s0 a0 Q) (hq : ∀ (A' : cS), ySm s0 A' [26, 33] [4, 5, 18, 38, 39, 40] → Q A' → Q' A') : wc_Coder_entrance s0 a0 Q' := by
  unfold wc_Coder_entrance at hw ⊢
  refine ffm_Tree_kind hw (fun r1 A2 f1 h8 => ?_)
  refine ⟨fun c9 => ?_, fun c9 => ?_⟩
  · have h10 := h8.1 c9
    refine ffm_Tree_first h10 (fun r11 A12 f2 h18 => ?_)
    refine ffm_Constants_number h18 (fun r19 A20 f3 h26 => ?_)
    refine ffm_Constants_hasFailed h26 (fun r27 A28 f4 h34 => ?_)
    refine ⟨fun c35 => ?_, fun c35 => ?_⟩
    · have h36 := h34.1 c35
      obtain ⟨m37, h38⟩ := h36
      exact ⟨m37, ffl_Coder_entrance_860 m37 _ _ _ _ (fun A' f q => hq A' (((((ySm.rf.tr f1 rfl rfl).tr f2 rfl rfl).tr f3 rfl rfl).tr f4 rfl rfl).tr f rfl rfl) q)  h38⟩
    · have h39 := h34.2 c35
      exact hq _ ((((ySm.rf.tr f1 rfl rfl).tr f2 rfl rfl).tr f3 rfl rfl).tr f4 rfl rfl) h39
  · have h40 := h8.2 c9
    refine ⟨fun c41 => ?_, fun c41 => ?_⟩
    · have h42 := h40.1 c41
      refine ffm_Program_here h42 (fun r43 A44 f5 h50 => ?_)
      exact hq _ (((ySm.rf.tr f1 rfl rfl).tr f5 rfl rfl).pv rfl) h50
    · have h62 := h40.2 c41
      refine ffm_Tree_place h62 (fun r63 A64 f6 h70 => ?_)
      refine ffm_Program_blame h70 (fun A72 f7 h78 => ?_)
      refine ffm_Program_here h78 (fun r79 A80 f8 h86 => ?_)
      exact hq _ (((((ySm.rf.tr f1 rfl rfl).tr f6 rfl rfl).tr f7 rfl rfl).tr f8 rfl rfl).pv rfl) h86
theorem ffm_Coder_routineName {s0 : cS} {a0 : Int} {Q Q' : cS → Prop} (hw : wc_Coder_routineName s0 a0 Q) (hq : ∀ (A' : cS), ySm s0 A' [2, 27, 28, 29, 30, 31] [4, 5] → Q A' → Q' A') : wc_Coder_routineName s0 a0 Q' := by
  unfold wc_Coder_routineName at hw ⊢
  refine ffm_Tree_extra hw (fun r1 A2 f1 h8 => ?_)
  refine ffm_Program_home h8 (fun r9 A10 f2 h16 => ?_)
  refine ⟨fun c17 => ?_, fun c17 => ?_⟩
  · have h18 := h16.1 c17
    refine ffm_Tree_data h18 (fun r19 A20 f3 h26 => ?_)
    refine ffm_Scope_find h26 (fun r27 A28 f4 h34 => ?_)
    refine ffm_Scope_owner h34 (fun r35 A36 f5 h42 => ?_)
    refine ⟨fun c43 => ?_, fun c43 => ?_⟩
    · have h44 := h42.1 c43
      refine ffm_Scope_setOwner h44 (fun A46 f6 h52 => ?_)
      refine ffm_Scope_data h52 (fun r53 A54 f7 h60 => ?_)
      intro z61 e62 R63
      have h64 := h60 z61 e62 R63
      refine ffm_Program_setWord h64 (fun A66 f8 h72 => ?_)
      exact hq _ ((((((((ySm.rf.tr f1 rfl rfl).tr f2 rfl rfl).tr f3 rfl rfl).tr f4 rfl rfl).tr f5 rfl rfl).tr f6 rfl rfl).tr f7 rfl rfl).tr f8 rfl rfl) h72
    · have h73 := h42.2 c43
      refine ffm_Tree_place h73 (fun r74 A75 f9 h81 => ?_)
      refine ffm_Scope_place h81 (fun r82 A83 f10 h89 => ?_)
      refine ffm_Program_blame h89 (fun A91 f11 h97 => ?_)
      refine ffm_Scope_setOwner h97 (fun A99 f12 h105 => ?_)
      refine ffm_Scope_data h105 (fun r106 A107 f13 h113 => ?_)
      intro z114 e115 R116
      have h117 := h113 z114 e115 R116
      refine ffm_Program_setWord h117 (fun A119 f14 h125 => ?_)
      exact hq _ (((((((((((ySm.rf.tr f1 rfl rfl).tr f2 rfl rfl).tr f3 rfl rfl).tr f4 rfl rfl).tr f5 rfl rfl).tr f9 rfl rfl).tr f10 rfl rfl).tr f11 rfl rfl).tr f12 rfl rfl).tr f13 rfl rfl).tr f14 rfl rfl) h125
  · have h126 := h16.2 c17
    refine ffm_Tree_data h126 (fun r127 A128 f15 h134 => ?_)
    refine ffm_Tree_place h134 (fun r135 A136 f16 h142 => ?_)
    refine ffm_Scope_declare h142 (fun r143 A144 f17 h150 => ?_)
    exact hq _ (((((ySm.rf.tr f1 rfl rfl).tr f2 rfl rfl).tr f15 rfl rfl).tr f16 rfl rfl).tr f17 rfl rfl) h150
theorem ffm_Coder_emit {s0 : cS} {a0 : Int} {a1 : Int} {Q Q' : Int → cS → Prop} (hw : wc_Coder_emit s0 a0 a1 Q) (hq : ∀ (e : Int) (A' : cS), ySm s0 A' [1] [] → Q e A' → Q' e A') : wc_Coder_emit s0 a0 a1 Q' := by
  unfold wc_Coder_emit at hw ⊢
  refine ffm_Program_emit hw (fun r1 A2 f1 h8 => ?_)
  exact hq _ _ (ySm.rf.tr f1 rfl rfl) h8
theorem ffb_Coder_parameters_16 {Q Q' : Int → cS → Prop} {k16 k16' : cS → Int → Int → Prop} {s0 : cS} {x2 : Int} {x3 : Int} (hq : ∀ (e : Int) (A' : cS), ySm s0 A' [4, 6, 27, 28, 29, 30, 31] [4, 5, 19, 20] → Q e A' → Q' e A') (fk16 : ∀ (A' : cS) (x0 : Int) (x1 : Int), ySm s0 A' [4, 6, 27, 28, 29, 30, 31] [4, 5, 19, 20] → k16 A' x0 x1 → k16' A' x0 x1) (hw : wc_Coder_parameters_16B Q k16 s0 x2 x3) : wc_Coder_parameters_16B Q' k16' s0 x2 x3 := by
  unfold wc_Coder_parameters_16B at hw ⊢
  refine ⟨fun c1 => ?_, fun c1 => ?_⟩
  · have h2 := hw.1 c1
    obtain ⟨o14, h15⟩ := h2
    refine ⟨o14, ?_⟩
    refine ffm_Program_setBegin h15 (fun A17 f1 h23 => ?_)
    exact hq _ _ ((ySm.rf.pv rfl).tr f1 rfl rfl) h23
  · have h24 := hw.2 c1
    refine ffm_Tree_next h24 (fun r25 A26 f2 h32 => ?_)
    refine ⟨fun c33 => ?_, fun c33 => ?_⟩
    · have h34 := h32.1 c33
      obtain ⟨o46, h47⟩ := h34
      refine ⟨o46, ?_⟩
      refine ffm_Program_setBegin h47 (fun A49 f3 h55 => ?_)
      exact hq _ _ (((ySm.rf.tr f2 rfl rfl).pv rfl).tr f3 rfl rfl) h55
    · have h56 := h32.2 c33
      refine ffm_Tree_data h56 (fun r57 A58 f4 h64 => ?_)
      refine ffm_Tree_place h64 (fun r65 A66 f5 h72 => ?_)
      refine ffm_Scope_declare h72 (fun r73 A74 f6 h80 => ?_)
      obtain ⟨o81, h82⟩ := h80
      refine ⟨o81, ?_⟩
      refine ffm_Tree_next h82 (fun r94 A95 f7 h101 => ?_)
      obtain ⟨o102, h103⟩ := h101
      refine ⟨o102, ?_⟩
      exact fk16 _ _ _ ((((((ySm.rf.tr f2 rfl rfl).tr f4 rfl rfl).tr f5 rfl rfl).tr f6 rfl rfl).pv rfl).tr f7 rfl rfl) h103
theorem ffl_Coder_parameters_160 {Q Q' : Int → cS → Prop}  : ∀ (m : Nat) (s0 : cS) (x2 : Int) (x3 : Int), (∀ (e : Int) (A' : cS), ySm s0 A' [4, 6, 27, 28, 29, 30, 31] [4, 5, 19, 20] → Q e A' → Q' e A') → wc_Coder_parameters_16 Q  m s0 x2 x3 → wc_Coder_parameters_16 Q'  m s0 x2 x3 := by
  intro m
  induction m with
  | zero => intro s0 x2 x3 hq  hw; exact hw
  | succ m ih => intro s0 x2 x3 hq  hw; exact ffb_Coder_parameters_16 hq  (fun A' y0 y1 f1 q => ih A' y0 y1 (fun e A' f q => hq e A' (f1.tr f rfl rfl) q)  q) hw
theorem ffm_Coder_parameters {s0 : cS} {a0 : Int} {Q Q' : Int → cS → Prop} (hw : wc_Coder_parameters s0 a0 Q) (hq : ∀ (e : Int) (A' : cS), ySm s0 A' [4, 6, 27, 28, 29, 30, 31] [4, 5, 19, 20] → Q e A' → Q' e A') : wc_Coder_parameters s0 a0 Q' := by
  unfold wc_Coder_parameters at hw ⊢
  refine ffm_Tree_first hw (fun r1 A2 f1 h8 => ?_)
  obtain ⟨m20, h21⟩ := h8
  exact ⟨m20, ffl_Coder_parameters_160 m20 _ _ _ (fun e A' f q => hq e A' (((ySm.rf.tr f1 rfl rfl).pv rfl).tr f rfl rfl) q)  h21⟩
theorem ffm_Coder_unfit {s0 : cS} {a0 : Int} {a1 : Int} {Q Q' : cS → Prop} (hw : wc_Coder_unfit s0 a0 a1 Q) (hq : ∀ (A' : cS), ySm s0 A' [] [4, 5] → Q A' → Q' A') : wc_Coder_unfit s0 a0 a1 Q' := by
  unfold wc_Coder_unfit at hw ⊢
  refine ⟨fun c1 => ?_, fun c1 => ?_⟩
  · have h2 := hw.1 c1
    exact hq _ ySm.rf h2
  · have h3 := hw.2 c1
    refine ffm_Program_blame h3 (fun A5 f1 h11 => ?_)
    exact hq _ (ySm.rf.tr f1 rfl rfl) h11
theorem ffb_Coder_isByte_11 {Q Q' : Int → cS → Prop} {k11 k11' : cS → Int → Int → Prop} {s0 : cS} {x2 : Int} {x3 : Int} (hq : ∀ (e : Int) (A' : cS), ySm s0 A' [] [] → Q e A' → Q' e A') (fk11 : ∀ (A' : cS) (x0 : Int) (x1 : Int), ySm s0 A' [] [] → k11 A' x0 x1 → k11' A' x0 x1) (hw : wc_Coder_isByte_11B Q k11 s0 x2 x3) : wc_Coder_isByte_11B Q' k11' s0 x2 x3 := by
  unfold wc_Coder_isByte_11B at hw ⊢
  refine ⟨fun c1 => ?_, fun c1 => ?_⟩
  · have h2 := hw.1 c1
    refine ffm_Tree_kind h2 (fun r3 A4 f1 h10 => ?_)
    refine ⟨fun c11 => ?_, fun c11 => ?_⟩
    · have h12 := h10.1 c11
      exact hq _ _ (ySm.rf.tr f1 rfl rfl) h12
    · have h13 := h10.2 c11
      exact hq _ _ (ySm.rf.tr f1 rfl rfl) h13
  · have h14 := hw.2 c1
    refine ffm_Tree_kind h14 (fun r15 A16 f2 h22 => ?_)
    refine ⟨fun c23 => ?_, fun c23 => ?_⟩
    · have h24 := h22.1 c23
      refine ffm_Tree_kind h24 (fun r25 A26 f3 h32 => ?_)
      refine ⟨fun c33 => ?_, fun c33 => ?_⟩
      · have h34 := h32.1 c33
        exact hq _ _ ((ySm.rf.tr f2 rfl rfl).tr f3 rfl rfl) h34
      · have h35 := h32.2 c33
        exact hq _ _ ((ySm.rf.tr f2 rfl rfl).tr f3 rfl rfl) h35
    · have h36 := h22.2 c23
      refine ffm_Tree_first h36 (fun r37 A38 f4 h44 => ?_)
      refine ffm_Tree_last h44 (fun r45 A46 f5 h52 => ?_)
      obtain ⟨o53, h54⟩ := h52
      refine ⟨o53, ?_⟩
      exact fk11 _ _ _ (((ySm.rf.tr f2 rfl rfl).tr f4 rfl rfl).tr f5 rfl rfl) h54
theorem ffl_Coder_isByte_110 {Q Q' : Int → cS → Prop}  : ∀ (m : Nat) (s0 : cS) (x2 : Int) (x3 : Int), (∀ (e : Int) (A' : cS), ySm s0 A' [] [] → Q e A' → Q' e A') → wc_Coder_isByte_11 Q  m s0 x2 x3 → wc_Coder_isByte_11 Q'  m s0 x2 x3 := by
  intro m
  induction m with
  | zero => intro s0 x2 x3 hq  hw; exact hw
  | succ m ih => intro s0 x2 x3 hq  hw; exact ffb_Coder_isByte_11 hq  (fun A' y0 y1 f1 q => ih A' y0 y1 (fun e A' f q => hq e A' (f1.tr f rfl rfl) q)  q) hw
theorem ffm_Coder_isByte {s0 : cS} {a0 : Int} {Q Q' : Int → cS → Prop} (hw : wc_Coder_isByte s0 a0 Q) (hq : ∀ (e : Int) (A' : cS), ySm s0 A' [] [] → Q e A' → Q' e A') : wc_Coder_isByte s0 a0 Q' := by
  unfold wc_Coder_isByte at hw ⊢
  refine ffm_Tree_last hw (fun r1 A2 f1 h8 => ?_)
  obtain ⟨m9, h10⟩ := h8
  exact ⟨m9, ffl_Coder_isByte_110 m9 _ _ _ (fun e A' f q => hq e A' ((ySm.rf.tr f1 rfl rfl).tr f rfl rfl) q)  h10⟩
theorem ffm_Coder_take {s0 : cS} {a0 : Int} {Q Q' : cS → Prop} (hw : wc_Coder_take s0 a0 Q) (hq : ∀ (A' : cS), ySm s0 A' [] [19, 20] → Q A' → Q' A') : wc_Coder_take s0 a0 Q' := by
  unfold wc_Coder_take at hw ⊢
  obtain ⟨o1, h2⟩ := hw
  refine ⟨o1, ?_⟩
  exact hq _ ((ySm.rf.pv rfl).pv rfl) h2
theorem ffm_Coder_going {s0 : cS} {a0 : Int} {Q Q' : cS → Prop} (hw : wc_Coder_going s0 a0 Q) (hq : ∀ (A' : cS), ySm s0 A' [1, 25] [4, 5] → Q A' → Q' A') : wc_Coder_going s0 a0 Q' := by
  unfold wc_Coder_going at hw ⊢
  refine ffm_Tree_data hw (fun r1 A2 f1 h8 => ?_)
  refine ffm_Scope_find h8 (fun r9 A10 f2 h16 => ?_)
  refine ⟨fun c17 => ?_, fun c17 => ?_⟩
  · have h18 := h16.1 c17
    refine ffm_Scope_kind h18 (fun r19 A20 f3 h26 => ?_)
    refine ⟨fun c27 => ?_, fun c27 => ?_⟩
    · have h28 := h26.1 c27
      refine ffm_Tree_place h28 (fun r29 A30 f4 h36 => ?_)
      refine ffm_Program_blame h36 (fun A38 f5 h44 => ?_)
      exact hq _ (((((ySm.rf.tr f1 rfl rfl).tr f2 rfl rfl).tr f3 rfl rfl).tr f4 rfl rfl).tr f5 rfl rfl) h44
    · have h45 := h26.2 c27
      refine ffm_Scope_owner h45 (fun r46 A47 f6 h53 => ?_)
      refine ⟨fun c54 => ?_, fun c54 => ?_⟩
      · have h55 := h53.1 c54
        refine ffm_Coder_emit h55 (fun r56 A57 f7 h63 => ?_)
        obtain ⟨o68, h69⟩ := h63
        refine ⟨o68, ?_⟩
        refine ffm_Scope_data h69 (fun r70 A71 f8 h77 => ?_)
        obtain ⟨o82, h83⟩ := h77
        refine ⟨o82, ?_⟩
        exact hq _ ((((((((ySm.rf.tr f1 rfl rfl).tr f2 rfl rfl).tr f3 rfl rfl).tr f6 rfl rfl).tr f7 rfl rfl).add rfl).tr f8 rfl rfl).add rfl) h83
      · have h84 := h53.2 c54
        refine ffm_Tree_place h84 (fun r85 A86 f9 h92 => ?_)
        refine ffm_Program_blame h92 (fun A94 f10 h100 => ?_)
        exact hq _ ((((((ySm.rf.tr f1 rfl rfl).tr f2 rfl rfl).tr f3 rfl rfl).tr f6 rfl rfl).tr f9 rfl rfl).tr f10 rfl rfl) h100
  · have h101 := h16.2 c17
    refine ffm_Tree_place h101 (fun r102 A103 f11 h109 => ?_)
    refine ffm_Program_blame h109 (fun A111 f12 h117 => ?_)
    exact hq _ ((((ySm.rf.tr f1 rfl rfl).tr f2 rfl rfl).tr f11 rfl rfl).tr f12 rfl rfl) h117
theorem ffj_Coder_leaving_66 {Q Q' : cS → Prop}  {s0 : cS} {x1 : Int} {x2 : Int} {y0 : Int} (hq : ∀ (A' : cS), ySm s0 A' [1, 25] [4, 5, 13, 14, 15] → Q A' → Q' A')  (hw : wc_Coder_leaving_66 Q  s0 x1 x2 y0) : wc_Coder_leaving_66 Q'  s0 x1 x2 y0 := by
  unfold wc_Coder_leaving_66 at hw ⊢
  refine ⟨fun c1 => ?_, fun c1 => ?_⟩
  · have h2 := hw.1 c1
    refine ⟨fun c3 => ?_, fun c3 => ?_⟩
    · have h4 := h2.1 c3
      refine ⟨fun c5 => ?_, fun c5 => ?_⟩
      · have h6 := h4.1 c5
        refine ⟨fun c7 => ?_, fun c7 => ?_⟩
        · have h8 := h6.1 c7
          refine ⟨fun c9 => ?_, fun c9 => ?_⟩
          · have h10 := h8.1 c9
            refine ⟨fun c11 => ?_, fun c11 => ?_⟩
            · have h12 := h10.1 c11
              refine ffm_Coder_going h12 (fun A14 f1 h20 => ?_)
              exact hq _ (ySm.rf.tr f1 rfl rfl) h20
            · have h21 := h10.2 c11
              refine ffm_Coder_emit h21 (fun r22 A23 f2 h29 => ?_)
              exact hq _ (ySm.rf.tr f2 rfl rfl) h29
          · have h30 := h8.2 c9
            refine ffm_Coder_emit h30 (fun r31 A32 f3 h38 => ?_)
            refine ffm_Coder_emit h38 (fun r39 A40 f4 h46 => ?_)
            exact hq _ ((ySm.rf.tr f3 rfl rfl).tr f4 rfl rfl) h46
        · have h47 := h6.2 c7
          refine ffm_Coder_emit h47 (fun r48 A49 f5 h55 => ?_)
          exact hq _ ((ySm.rf.tr f5 rfl rfl).pv rfl) h55
      · have h67 := h4.2 c5
        refine ffm_Coder_emit h67 (fun r68 A69 f6 h75 => ?_)
        exact hq _ ((ySm.rf.tr f6 rfl rfl).pv rfl) h75
    · have h87 := h2.2 c3
      refine ffm_Coder_emit h87 (fun r88 A89 f7 h95 => ?_)
      exact hq _ ((ySm.rf.tr f7 rfl rfl).pv rfl) h95
  · have h107 := hw.2 c1
    refine ffm_Tree_place h107 (fun r108 A109 f8 h115 => ?_)
    refine ffm_Program_blame h115 (fun A117 f9 h123 => ?_)
    exact hq _ ((ySm.rf.tr f8 rfl rfl).tr f9 rfl rfl) h123
theorem ffj_Coder_leaving_35 {Q Q' : cS → Prop}  {s0 : cS} {x1 : Int} {x2 : Int} (hq : ∀ (A' : cS), ySm s0 A' [1, 25] [4, 5, 13, 14, 15] → Q A' → Q' A')  (hw : wc_Coder_leaving_35 Q  s0 x1 x2) : wc_Coder_leaving_35 Q'  s0 x1 x2 := by
  unfold wc_Coder_leaving_35 at hw ⊢
  refine ⟨fun c1 => ?_, fun c1 => ?_⟩
  · have h2 := hw.1 c1
    refine ⟨fun c3 => ?_, fun c3 => ?_⟩
    · have h4 := h2.1 c3
      exact ffj_Coder_leaving_66 (fun A' f q => hq A' (ySm.rf.tr f rfl rfl) q)  h4
    · have h5 := h2.2 c3
      refine ⟨fun c6 => ?_, fun c6 => ?_⟩
      · have h7 := h5.1 c6
        exact ffj_Coder_leaving_66 (fun A' f q => hq A' (ySm.rf.tr f rfl rfl) q)  h7
      · have h8 := h5.2 c6
        exact ffj_Coder_leaving_66 (fun A' f q => hq A' (ySm.rf.tr f rfl rfl) q)  h8
  · have h9 := hw.2 c1
    refine ⟨fun c10 => ?_, fun c10 => ?_⟩
    · have h11 := h9.1 c10
      exact ffj_Coder_leaving_66 (fun A' f q => hq A' (ySm.rf.tr f rfl rfl) q)  h11
    · have h12 := h9.2 c10
      refine ⟨fun c13 => ?_, fun c13 => ?_⟩
      · have h14 := h12.1 c13
        exact ffj_Coder_leaving_66 (fun A' f q => hq A' (ySm.rf.tr f rfl rfl) q)  h14
      · have h15 := h12.2 c13
        refine ⟨fun c16 => ?_, fun c16 => ?_⟩
        · have h17 := h15.1 c16
          exact ffj_Coder_leaving_66 (fun A' f q => hq A' (ySm.rf.tr f rfl rfl) q)  h17
        · have h18 := h15.2 c16
          exact ffj_Coder_leaving_66 (fun A' f q => hq A' (ySm.rf.tr f rfl rfl) q)  h18
theorem ffm_Coder_leaving {s0 : cS} {a0 : Int} {Q Q' : cS → Prop} (hw : wc_Coder_leaving s0 a0 Q) (hq : ∀ (A' : cS), ySm s0 A' [1, 25] [4, 5, 13, 14, 15] → Q A' → Q' A') : wc_Coder_leaving s0 a0 Q' := by
  unfold wc_Coder_leaving at hw ⊢
  refine ffm_Tree_kind hw (fun r1 A2 f1 h8 => ?_)
  refine ⟨fun c9 => ?_, fun c9 => ?_⟩
  · have h10 := h8.1 c9
    refine ⟨fun c11 => ?_, fun c11 => ?_⟩
    · have h12 := h10.1 c11
      exact ffj_Coder_leaving_35 (fun A' f q => hq A' ((ySm.rf.tr f1 rfl rfl).tr f rfl rfl) q)  h12
    · have h13 := h10.2 c11
      refine ⟨fun c14 => ?_, fun c14 => ?_⟩
      · have h15 := h13.1 c14
        exact ffj_Coder_leaving_66 (fun A' f q => hq A' ((ySm.rf.tr f1 rfl rfl).tr f rfl rfl) q)  h15
      · have h16 := h13.2 c14
        exact ffj_Coder_leaving_35 (fun A' f q => hq A' ((ySm.rf.tr f1 rfl rfl).tr f rfl rfl) q)  h16
  · have h17 := h8.2 c9
    refine ⟨fun c18 => ?_, fun c18 => ?_⟩
    · have h19 := h17.1 c18
      exact ffj_Coder_leaving_66 (fun A' f q => hq A' ((ySm.rf.tr f1 rfl rfl).tr f rfl rfl) q)  h19
    · have h20 := h17.2 c18
      refine ⟨fun c21 => ?_, fun c21 => ?_⟩
      · have h22 := h20.1 c21
        exact ffj_Coder_leaving_35 (fun A' f q => hq A' ((ySm.rf.tr f1 rfl rfl).tr f rfl rfl) q)  h22
      · have h23 := h20.2 c21
        refine ⟨fun c24 => ?_, fun c24 => ?_⟩
        · have h25 := h23.1 c24
          exact ffj_Coder_leaving_66 (fun A' f q => hq A' ((ySm.rf.tr f1 rfl rfl).tr f rfl rfl) q)  h25
        · have h26 := h23.2 c24
          exact ffj_Coder_leaving_35 (fun A' f q => hq A' ((ySm.rf.tr f1 rfl rfl).tr f rfl rfl) q)  h26
theorem ffb_Coder_table_21 {Q Q' : cS → Prop} {k21 k21' : cS → Int → Int → Int → Prop} {s0 : cS} {x2 : Int} {x3 : Int} {x4 : Int} (hq : ∀ (A' : cS), ySm s0 A' [1, 2, 33] [4, 5, 38, 39, 40] → Q A' → Q' A') (fk21 : ∀ (A' : cS) (x0 : Int) (x1 : Int) (x2 : Int), ySm s0 A' [1, 2, 33] [4, 5, 38, 39, 40] → k21 A' x0 x1 x2 → k21' A' x0 x1 x2) (hw : wc_Coder_table_21B Q k21 s0 x2 x3 x4) : wc_Coder_table_21B Q' k21' s0 x2 x3 x4 := by
  unfold wc_Coder_table_21B at hw ⊢
  refine ⟨fun c1 => ?_, fun c1 => ?_⟩
  · have h2 := hw.1 c1
    refine ffm_Coder_emit h2 (fun r3 A4 f1 h10 => ?_)
    exact hq _ (ySm.rf.tr f1 rfl rfl) h10
  · have h11 := hw.2 c1
    refine ⟨fun c12 => ?_, fun c12 => ?_⟩
    · have h13 := h11.1 c12
      refine ffm_Coder_emit h13 (fun r14 A15 f2 h21 => ?_)
      exact hq _ (ySm.rf.tr f2 rfl rfl) h21
    · have h22 := h11.2 c12
      intro z23 e24 R25
      have h26 := h22 z23 e24 R25
      refine ffm_Constants_number h26 (fun r27 A28 f3 h34 => ?_)
      refine ffm_Program_setWord h34 (fun A36 f4 h42 => ?_)
      refine ffm_Tree_next h42 (fun r43 A44 f5 h50 => ?_)
      obtain ⟨o51, h52⟩ := h50
      refine ⟨o51, ?_⟩
      exact fk21 _ _ _ _ (((ySm.rf.tr f3 rfl rfl).tr f4 rfl rfl).tr f5 rfl rfl) h52
theorem ffl_Coder_table_210 {Q Q' : cS → Prop}  : ∀ (m : Nat) (s0 : cS) (x2 : Int) (x3 : Int) (x4 : Int), (∀ (A' : cS), ySm s0 A' [1, 2, 33] [4, 5, 38, 39, 40] → Q A' → Q' A') → wc_Coder_table_21 Q  m s0 x2 x3 x4 → wc_Coder_table_21 Q'  m s0 x2 x3 x4 := by
  intro m
  induction m with
  | zero => intro s0 x2 x3 x4 hq  hw; exact hw
  | succ m ih => intro s0 x2 x3 x4 hq  hw; exact ffb_Coder_table_21 hq  (fun A' y0 y1 y2 f1 q => ih A' y0 y1 y2 (fun A' f q => hq A' (f1.tr f rfl rfl) q)  q) hw
theorem ffm_Coder_table {s0 : cS} {a0 : Int} {Q Q' : cS → Prop} (hw : wc_Coder_table s0 a0 Q) (hq : ∀ (A' : cS), ySm s0 A' [1, 2, 33] [4, 5, 38, 39, 40] → Q A' → Q' A') : wc_Coder_table s0 a0 Q' := by
  unfold wc_Coder_table at hw ⊢
  refine ffm_Tree_data hw (fun r1 A2 f1 h8 => ?_)
  refine ffm_Tree_first h8 (fun r9 A10 f2 h16 => ?_)
  obtain ⟨m17, h18⟩ := h16
  exact ⟨m17, ffl_Coder_table_210 m17 _ _ _ _ (fun A' f q => hq A' (((ySm.rf.tr f1 rfl rfl).tr f2 rfl rfl).tr f rfl rfl) q)  h18⟩
theorem ffm_Coder_sign {s0 : cS} {a0 : Int} {a1 : Int} {Q Q' : Int → cS → Prop} (hw : wc_Coder_sign s0 a0 a1 Q) (hq : ∀ (e : Int) (A' : cS), ySm s0 A' [1] [] → Q e A' → Q' e A') : wc_Coder_sign s0 a0 a1 Q' := by
  unfold wc_Coder_sign at hw ⊢
  refine ffm_Tree_data hw (fun r1 A2 f1 h8 => ?_)
  refine ffm_Tree_extra h8 (fun r9 A10 f2 h16 => ?_)
  refine ⟨fun c17 => ?_, fun c17 => ?_⟩
  · have h18 := h16.1 c17
    intro z19 e20 R21
    have h22 := h18 z19 e20 R21
    refine ffm_Coder_emit h22 (fun r23 A24 f3 h30 => ?_)
    refine ffm_W_isRelation h30 (fun r31 A32 f4 h38 => ?_)
    refine ⟨fun c39 => ?_, fun c39 => ?_⟩
    · have h40 := h38.1 c39
      refine ffm_Program_land h40 (fun A42 f5 h48 => ?_)
      exact hq _ _ (((((ySm.rf.tr f1 rfl rfl).tr f2 rfl rfl).tr f3 rfl rfl).tr f4 rfl rfl).tr f5 rfl rfl) h48
    · have h49 := h38.2 c39
      exact hq _ _ ((((ySm.rf.tr f1 rfl rfl).tr f2 rfl rfl).tr f3 rfl rfl).tr f4 rfl rfl) h49
  · have h50 := h16.2 c17
    intro z51 e52 R53
    have h54 := h50 z51 e52 R53
    refine ffm_Coder_emit h54 (fun r55 A56 f6 h62 => ?_)
    exact hq _ _ (((ySm.rf.tr f1 rfl rfl).tr f2 rfl rfl).tr f6 rfl rfl) h62
theorem ffm_Coder_name {s0 : cS} {a0 : Int} {a1 : Int} {a2 : Int} {Q Q' : cS → Prop} (hw : wc_Coder_name s0 a0 a1 a2 Q) (hq : ∀ (A' : cS), ySm s0 A' [1] [4, 5] → Q A' → Q' A') : wc_Coder_name s0 a0 a1 a2 Q' := by
  unfold wc_Coder_name at hw ⊢
  refine ffm_Tree_data hw (fun r1 A2 f1 h8 => ?_)
  refine ffm_Scope_find h8 (fun r9 A10 f2 h16 => ?_)
  refine ⟨fun c17 => ?_, fun c17 => ?_⟩
  · have h18 := h16.1 c17
    refine ffm_Scope_data h18 (fun r19 A20 f3 h26 => ?_)
    refine ffm_Scope_kind h26 (fun r27 A28 f4 h34 => ?_)
    refine ⟨fun g35 => ?_, ?_⟩
    · have h37 := (h34.1) g35
      refine ⟨fun c38 => ?_, fun c38 => ?_⟩
      · have h39 := h37.1 c38
        refine ffm_Coder_emit h39 (fun r40 A41 f5 h47 => ?_)
        exact hq _ (((((ySm.rf.tr f1 rfl rfl).tr f2 rfl rfl).tr f3 rfl rfl).tr f4 rfl rfl).tr f5 rfl rfl) h47
      · have h48 := h37.2 c38
        refine ffm_Coder_emit h48 (fun r49 A50 f6 h56 => ?_)
        exact hq _ (((((ySm.rf.tr f1 rfl rfl).tr f2 rfl rfl).tr f3 rfl rfl).tr f4 rfl rfl).tr f6 rfl rfl) h56
    · skip
      refine ⟨fun g57 => ?_, ?_⟩
      · have h59 := (h34.2.1) g57
        refine ⟨fun c60 => ?_, fun c60 => ?_⟩
        · have h61 := h59.1 c60
          refine ffm_Coder_emit h61 (fun r62 A63 f7 h69 => ?_)
          refine ffm_Scope_owner h69 (fun r70 A71 f8 h77 => ?_)
          refine ⟨fun c78 => ?_, fun c78 => ?_⟩
          · have h79 := h77.1 c78
            exact hq _ ((((((ySm.rf.tr f1 rfl rfl).tr f2 rfl rfl).tr f3 rfl rfl).tr f4 rfl rfl).tr f7 rfl rfl).tr f8 rfl rfl) h79
          · have h80 := h77.2 c78
            refine ffm_Tree_place h80 (fun r81 A82 f9 h88 => ?_)
            refine ffm_Program_blame h88 (fun A90 f10 h96 => ?_)
            exact hq _ ((((((((ySm.rf.tr f1 rfl rfl).tr f2 rfl rfl).tr f3 rfl rfl).tr f4 rfl rfl).tr f7 rfl rfl).tr f8 rfl rfl).tr f9 rfl rfl).tr f10 rfl rfl) h96
        · have h97 := h59.2 c60
          refine ffm_Coder_emit h97 (fun r98 A99 f11 h105 => ?_)
          refine ffm_Scope_owner h105 (fun r106 A107 f12 h113 => ?_)
          refine ⟨fun c114 => ?_, fun c114 => ?_⟩
          · have h115 := h113.1 c114
            exact hq _ ((((((ySm.rf.tr f1 rfl rfl).tr f2 rfl rfl).tr f3 rfl rfl).tr f4 rfl rfl).tr f11 rfl rfl).tr f12 rfl rfl) h115
          · have h116 := h113.2 c114
            refine ffm_Tree_place h116 (fun r117 A118 f13 h124 => ?_)
            refine ffm_Program_blame h124 (fun A126 f14 h132 => ?_)
            exact hq _ ((((((((ySm.rf.tr f1 rfl rfl).tr f2 rfl rfl).tr f3 rfl rfl).tr f4 rfl rfl).tr f11 rfl rfl).tr f12 rfl rfl).tr f13 rfl rfl).tr f14 rfl rfl) h132
      · skip
        refine ⟨fun g133 => ?_, ?_⟩
        · have h135 := (h34.2.2.1) g133
          refine ffm_Tree_place h135 (fun r136 A137 f15 h143 => ?_)
          refine ffm_Program_blame h143 (fun A145 f16 h151 => ?_)
          refine ffm_Coder_unfit h151 (fun A153 f17 h159 => ?_)
          exact hq _ (((((((ySm.rf.tr f1 rfl rfl).tr f2 rfl rfl).tr f3 rfl rfl).tr f4 rfl rfl).tr f15 rfl rfl).tr f16 rfl rfl).tr f17 rfl rfl) h159
        · skip
          intro ng35 ng57 ng133
          have h160 := h34.2.2.2 ng35 ng57 ng133
          refine ffm_Coder_emit h160 (fun r161 A162 f18 h168 => ?_)
          refine ffm_Coder_unfit h168 (fun A170 f19 h176 => ?_)
          exact hq _ ((((((ySm.rf.tr f1 rfl rfl).tr f2 rfl rfl).tr f3 rfl rfl).tr f4 rfl rfl).tr f18 rfl rfl).tr f19 rfl rfl) h176
  · have h177 := h16.2 c17
    refine ffm_Tree_place h177 (fun r178 A179 f20 h185 => ?_)
    refine ffm_Program_blame h185 (fun A187 f21 h193 => ?_)
    exact hq _ ((((ySm.rf.tr f1 rfl rfl).tr f2 rfl rfl).tr f20 rfl rfl).tr f21 rfl rfl) h193
theorem ffm_Coder_unary {s0 : cS} {a0 : Int} {Q Q' : cS → Prop} (hw : wc_Coder_unary s0 a0 Q) (hq : ∀ (A' : cS), ySm s0 A' [1] [] → Q A' → Q' A') : wc_Coder_unary s0 a0 Q' := by
  unfold wc_Coder_unary at hw ⊢
  refine ⟨fun c1 => ?_, fun c1 => ?_⟩
  · have h2 := hw.1 c1
    refine ⟨fun c3 => ?_, fun c3 => ?_⟩
    · have h4 := h2.1 c3
      exact hq _ ySm.rf h4
    · have h5 := h2.2 c3
      refine ffm_Coder_emit h5 (fun r6 A7 f1 h13 => ?_)
      exact hq _ (ySm.rf.tr f1 rfl rfl) h13
  · have h14 := hw.2 c1
    refine ffm_Coder_emit h14 (fun r15 A16 f2 h22 => ?_)
    exact hq _ (ySm.rf.tr f2 rfl rfl) h22
theorem ffj_Coder_single_203 {Q Q' : cS → Prop}  {s0 : cS} {x2 : Int} {x3 : Int} {x5 : Int} (hq : ∀ (A' : cS), ySm s0 A' [1] [4, 5] → Q A' → Q' A')  (hw : wc_Coder_single_203 Q  s0 x2 x3 x5) : wc_Coder_single_203 Q'  s0 x2 x3 x5 := by
  unfold wc_Coder_single_203 at hw ⊢
  refine ⟨fun c1 => ?_, fun c1 => ?_⟩
  · have h2 := hw.1 c1
    exact hq _ ySm.rf h2
  · have h3 := hw.2 c1
    refine ffm_Coder_unfit h3 (fun A5 f1 h11 => ?_)
    exact hq _ (ySm.rf.tr f1 rfl rfl) h11
theorem ffj_Coder_single_9 {Q Q' : cS → Prop}  {s0 : cS} {x1 : Int} {x2 : Int} {x3 : Int} {y0 : Int} (hq : ∀ (A' : cS), ySm s0 A' [1] [4, 5] → Q A' → Q' A')  (hw : wc_Coder_single_9 Q  s0 x1 x2 x3 y0) : wc_Coder_single_9 Q'  s0 x1 x2 x3 y0 := by
  unfold wc_Coder_single_9 at hw ⊢
  refine ffm_Tree_kind hw (fun r1 A2 f1 h8 => ?_)
  refine ⟨fun g9 => ?_, ?_⟩
  · have h11 := (h8.1) g9
    refine ffm_Coder_name h11 (fun A13 f2 h19 => ?_)
    exact ffj_Coder_single_203 (fun A' f q => hq A' (((ySm.rf.tr f1 rfl rfl).tr f2 rfl rfl).tr f rfl rfl) q)  h19
  · skip
    refine ⟨fun g20 => ?_, ?_⟩
    · have h22 := (h8.2.1) g20
      refine ffm_Tree_data h22 (fun r23 A24 f3 h30 => ?_)
      refine ffm_Coder_emit h30 (fun r31 A32 f4 h38 => ?_)
      exact ffj_Coder_single_203 (fun A' f q => hq A' ((((ySm.rf.tr f1 rfl rfl).tr f3 rfl rfl).tr f4 rfl rfl).tr f rfl rfl) q)  h38
    · skip
      refine ⟨fun g39 => ?_, ?_⟩
      · have h41 := (h8.2.2.1) g39
        refine ⟨fun c42 => ?_, fun c42 => ?_⟩
        · have h43 := h41.1 c42
          refine ffm_Coder_emit h43 (fun r44 A45 f5 h51 => ?_)
          exact ffj_Coder_single_203 (fun A' f q => hq A' (((ySm.rf.tr f1 rfl rfl).tr f5 rfl rfl).tr f rfl rfl) q)  h51
        · have h52 := h41.2 c42
          refine ffm_Coder_emit h52 (fun r53 A54 f6 h60 => ?_)
          exact ffj_Coder_single_203 (fun A' f q => hq A' (((ySm.rf.tr f1 rfl rfl).tr f6 rfl rfl).tr f rfl rfl) q)  h60
      · skip
        refine ⟨fun g61 => ?_, ?_⟩
        · have h63 := (h8.2.2.2.1) g61
          refine ⟨fun c64 => ?_, fun c64 => ?_⟩
          · have h65 := h63.1 c64
            refine ⟨fun c66 => ?_, fun c66 => ?_⟩
            · have h67 := h65.1 c66
              exact ffj_Coder_single_203 (fun A' f q => hq A' ((ySm.rf.tr f1 rfl rfl).tr f rfl rfl) q)  h67
            · have h68 := h65.2 c66
              exact ffj_Coder_single_203 (fun A' f q => hq A' ((ySm.rf.tr f1 rfl rfl).tr f rfl rfl) q)  h68
          · have h69 := h63.2 c64
            refine ffm_Coder_emit h69 (fun r70 A71 f7 h77 => ?_)
            refine ⟨fun c78 => ?_, fun c78 => ?_⟩
            · have h79 := h77.1 c78
              exact ffj_Coder_single_203 (fun A' f q => hq A' (((ySm.rf.tr f1 rfl rfl).tr f7 rfl rfl).tr f rfl rfl) q)  h79
            · have h80 := h77.2 c78
              exact ffj_Coder_single_203 (fun A' f q => hq A' (((ySm.rf.tr f1 rfl rfl).tr f7 rfl rfl).tr f rfl rfl) q)  h80
        · skip
          refine ⟨fun g81 => ?_, ?_⟩
          · have h83 := (h8.2.2.2.2.1) g81
            refine ⟨fun c84 => ?_, fun c84 => ?_⟩
            · have h85 := h83.1 c84
              exact ffj_Coder_single_203 (fun A' f q => hq A' ((ySm.rf.tr f1 rfl rfl).tr f rfl rfl) q)  h85
            · have h86 := h83.2 c84
              refine ffm_Coder_emit h86 (fun r87 A88 f8 h94 => ?_)
              exact ffj_Coder_single_203 (fun A' f q => hq A' (((ySm.rf.tr f1 rfl rfl).tr f8 rfl rfl).tr f rfl rfl) q)  h94
          · skip
            refine ⟨fun g95 => ?_, ?_⟩
            · have h97 := (h8.2.2.2.2.2.1) g95
              refine ffm_Tree_data h97 (fun r98 A99 f9 h105 => ?_)
              refine ffm_Coder_unary h105 (fun A107 f10 h113 => ?_)
              exact ffj_Coder_single_203 (fun A' f q => hq A' ((((ySm.rf.tr f1 rfl rfl).tr f9 rfl rfl).tr f10 rfl rfl).tr f rfl rfl) q)  h113
            · skip
              intro ng9 ng20 ng39 ng61 ng81 ng95
              have h114 := h8.2.2.2.2.2.2 ng9 ng20 ng39 ng61 ng81 ng95
              exact ffj_Coder_single_203 (fun A' f q => hq A' ((ySm.rf.tr f1 rfl rfl).tr f rfl rfl) q)  h114
theorem ffm_Coder_single {s0 : cS} {a0 : Int} {a1 : Int} {a2 : Int} {Q Q' : cS → Prop} (hw : wc_Coder_single s0 a0 a1 a2 Q) (hq : ∀ (A' : cS), ySm s0 A' [1] [4, 5] → Q A' → Q' A') : wc_Coder_single s0 a0 a1 a2 Q' := by
  unfold wc_Coder_single at hw ⊢
  refine ⟨fun c1 => ?_, fun c1 => ?_⟩
  · have h2 := hw.1 c1
    exact ffj_Coder_single_9 (fun A' f q => hq A' (ySm.rf.tr f rfl rfl) q)  h2
  · have h3 := hw.2 c1
    exact ffj_Coder_single_9 (fun A' f q => hq A' (ySm.rf.tr f rfl rfl) q)  h3
theorem ffj_Coder_definitions_167 {Q Q' : cS → Prop} {k128 k128' : cS → Int → Int → Int → Int → Prop} {s0 : cS} {x2 : Int} {x3 : Int} {x5 : Int} {x6 : Int} {y0 : Int} {y1 : Int} (hq : ∀ (A' : cS), ySm s0 A' [2, 27, 28, 29, 30, 31, 33] [4, 5, 38, 39, 40] → Q A' → Q' A') (fk128 : ∀ (A' : cS) (x0 : Int) (x1 : Int) (x2 : Int) (x3 : Int), ySm s0 A' [2, 27, 28, 29, 30, 31, 33] [4, 5, 38, 39, 40] → k128 A' x0 x1 x2 x3 → k128' A' x0 x1 x2 x3) (hw : wc_Coder_definitions_167 Q k128 s0 x2 x3 x5 x6 y0 y1) : wc_Coder_definitions_167 Q' k128' s0 x2 x3 x5 x6 y0 y1 := by
  unfold wc_Coder_definitions_167 at hw ⊢
  refine ffm_Constants_number hw (fun r1 A2 f1 h8 => ?_)
  refine ⟨fun c9 => ?_, fun c9 => ?_⟩
  · have h10 := h8.1 c9
    obtain ⟨o11, h12⟩ := h10
    refine ⟨o11, ?_⟩
    refine ffm_Scope_setData h12 (fun A14 f2 h20 => ?_)
    refine ⟨fun c21 => ?_, fun c21 => ?_⟩
    · have h22 := h20.1 c21
      refine ffm_Tree_next h22 (fun r23 A24 f3 h30 => ?_)
      obtain ⟨o31, h32⟩ := h30
      refine ⟨o31, ?_⟩
      exact fk128 _ _ _ _ _ (((ySm.rf.tr f1 rfl rfl).tr f2 rfl rfl).tr f3 rfl rfl) h32
    · have h33 := h20.2 c21
      refine ffm_Scope_setOwner h33 (fun A35 f4 h41 => ?_)
      refine ffm_Tree_next h41 (fun r42 A43 f5 h49 => ?_)
      obtain ⟨o50, h51⟩ := h49
      refine ⟨o50, ?_⟩
      exact fk128 _ _ _ _ _ ((((ySm.rf.tr f1 rfl rfl).tr f2 rfl rfl).tr f4 rfl rfl).tr f5 rfl rfl) h51
  · have h52 := h8.2 c9
    refine ffm_Tree_extra h52 (fun r53 A54 f6 h60 => ?_)
    refine ffm_Program_setWord h60 (fun A62 f7 h68 => ?_)
    refine ⟨fun c69 => ?_, fun c69 => ?_⟩
    · have h70 := h68.1 c69
      refine ffm_Tree_next h70 (fun r71 A72 f8 h78 => ?_)
      obtain ⟨o79, h80⟩ := h78
      refine ⟨o79, ?_⟩
      exact fk128 _ _ _ _ _ ((((ySm.rf.tr f1 rfl rfl).tr f6 rfl rfl).tr f7 rfl rfl).tr f8 rfl rfl) h80
    · have h81 := h68.2 c69
      obtain ⟨o82, h83⟩ := h81
      refine ⟨o82, ?_⟩
      refine ffm_Scope_setOwner h83 (fun A85 f9 h91 => ?_)
      refine ffm_Tree_next h91 (fun r92 A93 f10 h99 => ?_)
      obtain ⟨o100, h101⟩ := h99
      refine ⟨o100, ?_⟩
      exact fk128 _ _ _ _ _ (((((ySm.rf.tr f1 rfl rfl).tr f6 rfl rfl).tr f7 rfl rfl).tr f9 rfl rfl).tr f10 rfl rfl) h101
theorem ffb_Coder_definitions_128 {Q Q' : cS → Prop} {k128 k128' : cS → Int → Int → Int → Int → Prop} {s0 : cS} {x2 : Int} {x3 : Int} {x5 : Int} {x6 : Int} (hq : ∀ (A' : cS), ySm s0 A' [2, 27, 28, 29, 30, 31, 33] [4, 5, 38, 39, 40] → Q A' → Q' A') (fk128 : ∀ (A' : cS) (x0 : Int) (x1 : Int) (x2 : Int) (x3 : Int), ySm s0 A' [2, 27, 28, 29, 30, 31, 33] [4, 5, 38, 39, 40] → k128 A' x0 x1 x2 x3 → k128' A' x0 x1 x2 x3) (hw : wc_Coder_definitions_128B Q k128 s0 x2 x3 x5 x6) : wc_Coder_definitions_128B Q' k128' s0 x2 x3 x5 x6 := by
  unfold wc_Coder_definitions_128B at hw ⊢
  refine ⟨fun c1 => ?_, fun c1 => ?_⟩
  · have h2 := hw.1 c1
    exact hq _ ySm.rf h2
  · have h3 := hw.2 c1
    refine ⟨fun c4 => ?_, fun c4 => ?_⟩
    · have h5 := h3.1 c4
      exact hq _ ySm.rf h5
    · have h6 := h3.2 c4
      refine ffm_Tree_first h6 (fun r7 A8 f1 h14 => ?_)
      refine ⟨fun c15 => ?_, fun c15 => ?_⟩
      · have h16 := h14.1 c15
        exact ffj_Coder_definitions_167 (fun A' f q => hq A' ((ySm.rf.tr f1 rfl rfl).tr f rfl rfl) q) (fun A' x0 x1 x2 x3 f q => fk128 A' x0 x1 x2 x3 ((ySm.rf.tr f1 rfl rfl).tr f rfl rfl) q) h16
      · have h17 := h14.2 c15
        exact ffj_Coder_definitions_167 (fun A' f q => hq A' ((ySm.rf.tr f1 rfl rfl).tr f rfl rfl) q) (fun A' x0 x1 x2 x3 f q => fk128 A' x0 x1 x2 x3 ((ySm.rf.tr f1 rfl rfl).tr f rfl rfl) q) h17
theorem ffl_Coder_definitions_1280 {Q Q' : cS → Prop}  : ∀ (m : Nat) (s0 : cS) (x2 : Int) (x3 : Int) (x5 : Int) (x6 : Int), (∀ (A' : cS), ySm s0 A' [2, 27, 28, 29, 30, 31, 33] [4, 5, 38, 39, 40] → Q A' → Q' A') → wc_Coder_definitions_128 Q  m s0 x2 x3 x5 x6 → wc_Coder_definitions_128 Q'  m s0 x2 x3 x5 x6 := by
  intro m
  induction m with
  | zero => intro s0 x2 x3 x5 x6 hq  hw; exact hw
  | succ m ih => intro s0 x2 x3 x5 x6 hq  hw; exact ffb_Coder_definitions_128 hq  (fun A' y0 y1 y2 y3 f1 q => ih A' y0 y1 y2 y3 (fun A' f q => hq A' (f1.tr f rfl rfl) q)  q) hw
theorem ffj_Coder_definitions_49 {Q Q' : cS → Prop} {k27 k27' : cS → Int → Int → Int → Int → Int → Prop} {s0 : cS} {x1 : Int} {x2 : Int} {x3 : Int} {x5 : Int} {x6 : Int} {y0 : Int} (hq : ∀ (A' : cS), ySm s0 A' [2, 27, 28, 29, 30, 31, 33] [4, 5, 38, 39, 40] → Q A' → Q' A') (fk27 : ∀ (A' : cS) (x0 : Int) (x1 : Int) (x2 : Int) (x3 : Int) (x4 : Int), ySm s0 A' [2, 27, 28, 29, 30, 31, 33] [4, 5, 38, 39, 40] → k27 A' x0 x1 x2 x3 x4 → k27' A' x0 x1 x2 x3 x4) (hw : wc_Coder_definitions_49 Q k27 s0 x1 x2 x3 x5 x6 y0) : wc_Coder_definitions_49 Q' k27' s0 x1 x2 x3 x5 x6 y0 := by
  unfold wc_Coder_definitions_49 at hw ⊢
  refine ffm_Tree_data hw (fun r1 A2 f1 h8 => ?_)
  refine ffm_Tree_extra h8 (fun r9 A10 f2 h16 => ?_)
  refine ffm_Tree_place h16 (fun r17 A18 f3 h24 => ?_)
  refine ffm_Scope_declare h24 (fun r25 A26 f4 h32 => ?_)
  refine ⟨fun c33 => ?_, fun c33 => ?_⟩
  · have h34 := h32.1 c33
    refine ffm_Tree_next h34 (fun r35 A36 f5 h42 => ?_)
    obtain ⟨o43, h44⟩ := h42
    refine ⟨o43, ?_⟩
    exact fk27 _ _ _ _ _ _ (((((ySm.rf.tr f1 rfl rfl).tr f2 rfl rfl).tr f3 rfl rfl).tr f4 rfl rfl).tr f5 rfl rfl) h44
  · have h45 := h32.2 c33
    refine ffm_Tree_next h45 (fun r46 A47 f6 h53 => ?_)
    obtain ⟨o54, h55⟩ := h53
    refine ⟨o54, ?_⟩
    exact fk27 _ _ _ _ _ _ (((((ySm.rf.tr f1 rfl rfl).tr f2 rfl rfl).tr f3 rfl rfl).tr f4 rfl rfl).tr f6 rfl rfl) h55
theorem ffb_Coder_definitions_27 {Q Q' : cS → Prop} {k27 k27' : cS → Int → Int → Int → Int → Int → Prop} {s0 : cS} {x1 : Int} {x2 : Int} {x3 : Int} {x5 : Int} {x6 : Int} (hq : ∀ (A' : cS), ySm s0 A' [2, 27, 28, 29, 30, 31, 33] [4, 5, 38, 39, 40] → Q A' → Q' A') (fk27 : ∀ (A' : cS) (x0 : Int) (x1 : Int) (x2 : Int) (x3 : Int) (x4 : Int), ySm s0 A' [2, 27, 28, 29, 30, 31, 33] [4, 5, 38, 39, 40] → k27 A' x0 x1 x2 x3 x4 → k27' A' x0 x1 x2 x3 x4) (hw : wc_Coder_definitions_27B Q k27 s0 x1 x2 x3 x5 x6) : wc_Coder_definitions_27B Q' k27' s0 x1 x2 x3 x5 x6 := by
  unfold wc_Coder_definitions_27B at hw ⊢
  refine ⟨fun c1 => ?_, fun c1 => ?_⟩
  · have h2 := hw.1 c1
    refine ffm_Tree_first h2 (fun r3 A4 f1 h10 => ?_)
    obtain ⟨m11, h12⟩ := h10
    exact ⟨m11, ffl_Coder_definitions_1280 m11 _ _ _ _ _ (fun A' f q => hq A' ((ySm.rf.tr f1 rfl rfl).tr f rfl rfl) q)  h12⟩
  · have h13 := hw.2 c1
    refine ⟨fun c14 => ?_, fun c14 => ?_⟩
    · have h15 := h13.1 c14
      refine ffm_Tree_first h15 (fun r16 A17 f2 h23 => ?_)
      obtain ⟨m24, h25⟩ := h23
      exact ⟨m24, ffl_Coder_definitions_1280 m24 _ _ _ _ _ (fun A' f q => hq A' ((ySm.rf.tr f2 rfl rfl).tr f rfl rfl) q)  h25⟩
    · have h26 := h13.2 c14
      refine ⟨fun c27 => ?_, fun c27 => ?_⟩
      · have h28 := h26.1 c27
        exact ffj_Coder_definitions_49 (fun A' f q => hq A' (ySm.rf.tr f rfl rfl) q) (fun A' x0 x1 x2 x3 x4 f q => fk27 A' x0 x1 x2 x3 x4 (ySm.rf.tr f rfl rfl) q) h28
      · have h29 := h26.2 c27
        exact ffj_Coder_definitions_49 (fun A' f q => hq A' (ySm.rf.tr f rfl rfl) q) (fun A' x0 x1 x2 x3 x4 f q => fk27 A' x0 x1 x2 x3 x4 (ySm.rf.tr f rfl rfl) q) h29
theorem ffl_Coder_definitions_270 {Q Q' : cS → Prop}  : ∀ (m : Nat) (s0 : cS) (x1 : Int) (x2 : Int) (x3 : Int) (x5 : Int) (x6 : Int), (∀ (A' : cS), ySm s0 A' [2, 27, 28, 29, 30, 31, 33] [4, 5, 38, 39, 40] → Q A' → Q' A') → wc_Coder_definitions_27 Q  m s0 x1 x2 x3 x5 x6 → wc_Coder_definitions_27 Q'  m s0 x1 x2 x3 x5 x6 := by
  intro m
  induction m with
  | zero => intro s0 x1 x2 x3 x5 x6 hq  hw; exact hw
  | succ m ih => intro s0 x1 x2 x3 x5 x6 hq  hw; exact ffb_Coder_definitions_27 hq  (fun A' y0 y1 y2 y3 y4 f1 q => ih A' y0 y1 y2 y3 y4 (fun A' f q => hq A' (f1.tr f rfl rfl) q)  q) hw
theorem ffm_Coder_definitions {s0 : cS} {a0 : Int} {Q Q' : cS → Prop} (hw : wc_Coder_definitions s0 a0 Q) (hq : ∀ (A' : cS), ySm s0 A' [2, 27, 28, 29, 30, 31, 33] [4, 5, 38, 39, 40] → Q A' → Q' A') : wc_Coder_definitions s0 a0 Q' := by
  unfold wc_Coder_definitions at hw ⊢
  refine ffm_Tree_kind hw (fun r1 A2 f1 h8 => ?_)
  refine ffm_Tree_first h8 (fun r9 A10 f2 h16 => ?_)
  obtain ⟨m17, h18⟩ := h16
  exact ⟨m17, ffl_Coder_definitions_270 m17 _ _ _ _ _ _ (fun A' f q => hq A' (((ySm.rf.tr f1 rfl rfl).tr f2 rfl rfl).tr f rfl rfl) q)  h18⟩
theorem ffb_Coder_routines_52 {rec : Nat → Int → Int → Int → cS → (Int → cS → Prop) → Prop} (hrec : ∀ (i : Nat) (a b c : Int) (A : cS) (Q Q' : Int → cS → Prop), rec i a b c A Q → (∀ (e : Int) (A' : cS), ySm A A' [1, 2, 4, 5, 6, 10, 24, 25, 26, 27, 28, 29, 30, 31, 32, 33] [4, 5, 13, 14, 15, 16, 17, 18, 19, 20, 21, 22, 23, 24, 37, 38, 39, 40] → Q e A' → Q' e A') → rec i a b c A Q') {Q Q' : cS → Prop} {k52 k52' : cS → Int → Int → Prop} {s0 : cS} {x2 : Int} {x3 : Int} (hq : ∀ (A' : cS), ySm s0 A' [1, 2, 4, 5, 6, 10, 24, 25, 26, 27, 28, 29, 30, 31, 32, 33] [4, 5, 13, 14, 15, 16, 17, 18, 19, 20, 21, 22, 23, 24, 37, 38, 39, 40] → Q A' → Q' A') (fk52 : ∀ (A' : cS) (x0 : Int) (x1 : Int), ySm s0 A' [1, 2, 4, 5, 6, 10, 24, 25, 26, 27, 28, 29, 30, 31, 32, 33] [4, 5, 13, 14, 15, 16, 17, 18, 19, 20, 21, 22, 23, 24, 37, 38, 39, 40] → k52 A' x0 x1 → k52' A' x0 x1) (hw : wc_Coder_routines_52B rec Q k52 s0 x2 x3) : wc_Coder_routines_52B rec Q' k52' s0 x2 x3 := by
  unfold wc_Coder_routines_52B at hw ⊢
  refine ⟨fun c1 => ?_, fun c1 => ?_⟩
  · have h2 := hw.1 c1
    exact hq _ ySm.rf h2
  · have h3 := hw.2 c1
    refine ⟨fun c4 => ?_, fun c4 => ?_⟩
    · have h5 := h3.1 c4
      exact hq _ ySm.rf h5
    · have h6 := h3.2 c4
      refine hrec _ _ _ _ _ _ _ h6 (fun r7 A8 f1 h14 => ?_)
      refine ffm_Tree_next h14 (fun r15 A16 f2 h22 => ?_)
      obtain ⟨o23, h24⟩ := h22
      refine ⟨o23, ?_⟩
      exact fk52 _ _ _ ((ySm.rf.tr f1 rfl rfl).tr f2 rfl rfl) h24
theorem ffl_Coder_routines_520 {rec : Nat → Int → Int → Int → cS → (Int → cS → Prop) → Prop} (hrec : ∀ (i : Nat) (a b c : Int) (A : cS) (Q Q' : Int → cS → Prop), rec i a b c A Q → (∀ (e : Int) (A' : cS), ySm A A' [1, 2, 4, 5, 6, 10, 24, 25, 26, 27, 28, 29, 30, 31, 32, 33] [4, 5, 13, 14, 15, 16, 17, 18, 19, 20, 21, 22, 23, 24, 37, 38, 39, 40] → Q e A' → Q' e A') → rec i a b c A Q') {Q Q' : cS → Prop}  : ∀ (m : Nat) (s0 : cS) (x2 : Int) (x3 : Int), (∀ (A' : cS), ySm s0 A' [1, 2, 4, 5, 6, 10, 24, 25, 26, 27, 28, 29, 30, 31, 32, 33] [4, 5, 13, 14, 15, 16, 17, 18, 19, 20, 21, 22, 23, 24, 37, 38, 39, 40] → Q A' → Q' A') → wc_Coder_routines_52 rec Q  m s0 x2 x3 → wc_Coder_routines_52 rec Q'  m s0 x2 x3 := by
  intro m
  induction m with
  | zero => intro s0 x2 x3 hq  hw; exact hw
  | succ m ih => intro s0 x2 x3 hq  hw; exact ffb_Coder_routines_52 hrec hq  (fun A' y0 y1 f1 q => ih A' y0 y1 (fun A' f q => hq A' (f1.tr f rfl rfl) q)  q) hw
theorem ffb_Coder_routines_11 {rec : Nat → Int → Int → Int → cS → (Int → cS → Prop) → Prop} (hrec : ∀ (i : Nat) (a b c : Int) (A : cS) (Q Q' : Int → cS → Prop), rec i a b c A Q → (∀ (e : Int) (A' : cS), ySm A A' [1, 2, 4, 5, 6, 10, 24, 25, 26, 27, 28, 29, 30, 31, 32, 33] [4, 5, 13, 14, 15, 16, 17, 18, 19, 20, 21, 22, 23, 24, 37, 38, 39, 40] → Q e A' → Q' e A') → rec i a b c A Q') {Q Q' : cS → Prop} {k11 k11' : cS → Int → Int → Int → Prop} {s0 : cS} {x1 : Int} {x2 : Int} {x3 : Int} (hq : ∀ (A' : cS), ySm s0 A' [1, 2, 4, 5, 6, 10, 24, 25, 26, 27, 28, 29, 30, 31, 32, 33] [4, 5, 13, 14, 15, 16, 17, 18, 19, 20, 21, 22, 23, 24, 37, 38, 39, 40] → Q A' → Q' A') (fk11 : ∀ (A' : cS) (x0 : Int) (x1 : Int) (x2 : Int), ySm s0 A' [1, 2, 4, 5, 6, 10, 24, 25, 26, 27, 28, 29, 30, 31, 32, 33] [4, 5, 13, 14, 15, 16, 17, 18, 19, 20, 21, 22, 23, 24, 37, 38, 39, 40] → k11 A' x0 x1 x2 → k11' A' x0 x1 x2) (hw : wc_Coder_routines_11B rec Q k11 s0 x1 x2 x3) : wc_Coder_routines_11B rec Q' k11' s0 x1 x2 x3 := by
  unfold wc_Coder_routines_11B at hw ⊢
  refine ⟨fun c1 => ?_, fun c1 => ?_⟩
  · have h2 := hw.1 c1
    refine ffm_Tree_first h2 (fun r3 A4 f1 h10 => ?_)
    obtain ⟨m11, h12⟩ := h10
    exact ⟨m11, ffl_Coder_routines_520 hrec m11 _ _ _ (fun A' f q => hq A' ((ySm.rf.tr f1 rfl rfl).tr f rfl rfl) q)  h12⟩
  · have h13 := hw.2 c1
    refine ⟨fun c14 => ?_, fun c14 => ?_⟩
    · have h15 := h13.1 c14
      refine ffm_Tree_first h15 (fun r16 A17 f2 h23 => ?_)
      obtain ⟨m24, h25⟩ := h23
      exact ⟨m24, ffl_Coder_routines_520 hrec m24 _ _ _ (fun A' f q => hq A' ((ySm.rf.tr f2 rfl rfl).tr f rfl rfl) q)  h25⟩
    · have h26 := h13.2 c14
      refine ffm_Coder_routineName h26 (fun A28 f3 h34 => ?_)
      refine ffm_Tree_next h34 (fun r35 A36 f4 h42 => ?_)
      obtain ⟨o43, h44⟩ := h42
      refine ⟨o43, ?_⟩
      exact fk11 _ _ _ _ ((ySm.rf.tr f3 rfl rfl).tr f4 rfl rfl) h44
theorem ffl_Coder_routines_110 {rec : Nat → Int → Int → Int → cS → (Int → cS → Prop) → Prop} (hrec : ∀ (i : Nat) (a b c : Int) (A : cS) (Q Q' : Int → cS → Prop), rec i a b c A Q → (∀ (e : Int) (A' : cS), ySm A A' [1, 2, 4, 5, 6, 10, 24, 25, 26, 27, 28, 29, 30, 31, 32, 33] [4, 5, 13, 14, 15, 16, 17, 18, 19, 20, 21, 22, 23, 24, 37, 38, 39, 40] → Q e A' → Q' e A') → rec i a b c A Q') {Q Q' : cS → Prop}  : ∀ (m : Nat) (s0 : cS) (x1 : Int) (x2 : Int) (x3 : Int), (∀ (A' : cS), ySm s0 A' [1, 2, 4, 5, 6, 10, 24, 25, 26, 27, 28, 29, 30, 31, 32, 33] [4, 5, 13, 14, 15, 16, 17, 18, 19, 20, 21, 22, 23, 24, 37, 38, 39, 40] → Q A' → Q' A') → wc_Coder_routines_11 rec Q  m s0 x1 x2 x3 → wc_Coder_routines_11 rec Q'  m s0 x1 x2 x3 := by
  intro m
  induction m with
  | zero => intro s0 x1 x2 x3 hq  hw; exact hw
  | succ m ih => intro s0 x1 x2 x3 hq  hw; exact ffb_Coder_routines_11 hrec hq  (fun A' y0 y1 y2 f1 q => ih A' y0 y1 y2 (fun A' f q => hq A' (f1.tr f rfl rfl) q)  q) hw
theorem ffm_Coder_routines {rec : Nat → Int → Int → Int → cS → (Int → cS → Prop) → Prop} (hrec : ∀ (i : Nat) (a b c : Int) (A : cS) (Q Q' : Int → cS → Prop), rec i a b c A Q → (∀ (e : Int) (A' : cS), ySm A A' [1, 2, 4, 5, 6, 10, 24, 25, 26, 27, 28, 29, 30, 31, 32, 33] [4, 5, 13, 14, 15, 16, 17, 18, 19, 20, 21, 22, 23, 24, 37, 38, 39, 40] → Q e A' → Q' e A') → rec i a b c A Q') {s0 : cS} {a0 : Int} {Q Q' : cS → Prop} (hw : wc_Coder_routines rec s0 a0 Q) (hq : ∀ (A' : cS), ySm s0 A' [1, 2, 4, 5, 6, 10, 24, 25, 26, 27, 28, 29, 30, 31, 32, 33] [4, 5, 13, 14, 15, 16, 17, 18, 19, 20, 21, 22, 23, 24, 37, 38, 39, 40] → Q A' → Q' A') : wc_Coder_routines rec s0 a0 Q' := by
  unfold wc_Coder_routines at hw ⊢
  refine ffm_Tree_first hw (fun r1 A2 f1 h8 => ?_)
  obtain ⟨m9, h10⟩ := h8
  exact ⟨m9, ffl_Coder_routines_110 hrec m9 _ _ _ _ (fun A' f q => hq A' ((ySm.rf.tr f1 rfl rfl).tr f rfl rfl) q)  h10⟩
theorem ffj_Coder_routine_162 {rec : Nat → Int → Int → Int → cS → (Int → cS → Prop) → Prop} (hrec : ∀ (i : Nat) (a b c : Int) (A : cS) (Q Q' : Int → cS → Prop), rec i a b c A Q → (∀ (e : Int) (A' : cS), ySm A A' [1, 2, 4, 5, 6, 10, 24, 25, 26, 27, 28, 29, 30, 31, 32, 33] [4, 5, 13, 14, 15, 16, 17, 18, 19, 20, 21, 22, 23, 24, 37, 38, 39, 40] → Q e A' → Q' e A') → rec i a b c A Q') {Q Q' : cS → Prop}  {s0 : cS} {x2 : Int} {x3 : Int} {x4 : Int} {x5 : Int} {x6 : Int} {x7 : Int} {x8 : Int} {x9 : Int} {x10 : Int} {x11 : Int} (hq : ∀ (A' : cS), ySm s0 A' [1, 2, 4, 5, 6, 10, 24, 25, 26, 27, 28, 29, 30, 31, 32, 33] [4, 5, 13, 14, 15, 16, 17, 18, 19, 20, 21, 22, 23, 24, 37, 38, 39, 40] → Q A' → Q' A')  (hw : wc_Coder_routine_162 rec Q  s0 x2 x3 x4 x5 x6 x7 x8 x9 x10 x11) : wc_Coder_routine_162 rec Q'  s0 x2 x3 x4 x5 x6 x7 x8 x9 x10 x11 := by
  unfold wc_Coder_routine_162 at hw ⊢
  refine ffm_Coder_emit hw (fun r1 A2 f1 h8 => ?_)
  refine ffm_Scope_close h8 (fun A10 f2 h16 => ?_)
  refine ffm_Program_setFrame h16 (fun A18 f3 h24 => ?_)
  refine ffm_Program_land h24 (fun A26 f4 h32 => ?_)
  obtain ⟨o121, h122⟩ := h32
  refine ⟨o121, ?_⟩
  exact hq _ (((((((((((((ySm.rf.tr f1 rfl rfl).tr f2 rfl rfl).tr f3 rfl rfl).tr f4 rfl rfl).pv rfl).pv rfl).pv rfl).pv rfl).pv rfl).pv rfl).pv rfl).pv rfl).pv rfl) h122
theorem ffj_Coder_routine_114 {rec : Nat → Int → Int → Int → cS → (Int → cS → Prop) → Prop} (hrec : ∀ (i : Nat) (a b c : Int) (A : cS) (Q Q' : Int → cS → Prop), rec i a b c A Q → (∀ (e : Int) (A' : cS), ySm A A' [1, 2, 4, 5, 6, 10, 24, 25, 26, 27, 28, 29, 30, 31, 32, 33] [4, 5, 13, 14, 15, 16, 17, 18, 19, 20, 21, 22, 23, 24, 37, 38, 39, 40] → Q e A' → Q' e A') → rec i a b c A Q') {Q Q' : cS → Prop}  {s0 : cS} {x1 : Int} {x2 : Int} {x3 : Int} {x4 : Int} {x5 : Int} {x6 : Int} {x7 : Int} {x8 : Int} {x9 : Int} {x10 : Int} {x11 : Int} {y0 : Int} (hq : ∀ (A' : cS), ySm s0 A' [1, 2, 4, 5, 6, 10, 24, 25, 26, 27, 28, 29, 30, 31, 32, 33] [4, 5, 13, 14, 15, 16, 17, 18, 19, 20, 21, 22, 23, 24, 37, 38, 39, 40] → Q A' → Q' A')  (hw : wc_Coder_routine_114 rec Q  s0 x1 x2 x3 x4 x5 x6 x7 x8 x9 x10 x11 y0) : wc_Coder_routine_114 rec Q'  s0 x1 x2 x3 x4 x5 x6 x7 x8 x9 x10 x11 y0 := by
  unfold wc_Coder_routine_114 at hw ⊢
  obtain ⟨o1, h2⟩ := hw
  refine ⟨o1, ?_⟩
  refine ffm_Scope_open h2 (fun A15 f1 h21 => ?_)
  refine ffm_Coder_parameters h21 (fun r22 A23 f2 h29 => ?_)
  refine ⟨fun c30 => ?_, fun c30 => ?_⟩
  · have h31 := h29.1 c30
    refine hrec _ _ _ _ _ _ _ h31 (fun r32 A33 f3 h39 => ?_)
    refine ffm_Coder_emit h39 (fun r40 A41 f4 h47 => ?_)
    exact ffj_Coder_routine_162 hrec (fun A' f q => hq A' ((((((ySm.rf.pv rfl).tr f1 rfl rfl).tr f2 rfl rfl).tr f3 rfl rfl).tr f4 rfl rfl).tr f rfl rfl) q)  h47
  · have h48 := h29.2 c30
    refine hrec _ _ _ _ _ _ _ h48 (fun r49 A50 f5 h56 => ?_)
    exact ffj_Coder_routine_162 hrec (fun A' f q => hq A' (((((ySm.rf.pv rfl).tr f1 rfl rfl).tr f2 rfl rfl).tr f5 rfl rfl).tr f rfl rfl) q)  h56
theorem ffm_Coder_routine {rec : Nat → Int → Int → Int → cS → (Int → cS → Prop) → Prop} (hrec : ∀ (i : Nat) (a b c : Int) (A : cS) (Q Q' : Int → cS → Prop), rec i a b c A Q → (∀ (e : Int) (A' : cS), ySm A A' [1, 2, 4, 5, 6, 10, 24, 25, 26, 27, 28, 29, 30, 31, 32, 33] [4, 5, 13, 14, 15, 16, 17, 18, 19, 20, 21, 22, 23, 24, 37, 38, 39, 40] → Q e A' → Q' e A') → rec i a b c A Q') {s0 : cS} {a0 : Int} {Q Q' : cS → Prop} (hw : wc_Coder_routine rec s0 a0 Q) (hq : ∀ (A' : cS), ySm s0 A' [1, 2, 4, 5, 6, 10, 24, 25, 26, 27, 28, 29, 30, 31, 32, 33] [4, 5, 13, 14, 15, 16, 17, 18, 19, 20, 21, 22, 23, 24, 37, 38, 39, 40] → Q A' → Q' A') : wc_Coder_routine rec s0 a0 Q' := by
  unfold wc_Coder_routine at hw ⊢
  refine ffm_Coder_emit hw (fun r1 A2 f1 h8 => ?_)
  refine ffm_Coder_leaveAll h8 (fun A10 f2 h16 => ?_)
  refine ffm_Tree_extra h16 (fun r17 A18 f3 h24 => ?_)
  obtain ⟨o36, h37⟩ := h24
  refine ⟨o36, ?_⟩
  refine ffm_Tree_kind h37 (fun r60 A61 f4 h67 => ?_)
  refine ⟨fun c68 => ?_, fun c68 => ?_⟩
  · have h69 := h67.1 c68
    exact ffj_Coder_routine_114 hrec (fun A' f q => hq A' ((((((((ySm.rf.tr f1 rfl rfl).tr f2 rfl rfl).tr f3 rfl rfl).pv rfl).pv rfl).pv rfl).tr f4 rfl rfl).tr f rfl rfl) q)  h69
  · have h70 := h67.2 c68
    exact ffj_Coder_routine_114 hrec (fun A' f q => hq A' ((((((((ySm.rf.tr f1 rfl rfl).tr f2 rfl rfl).tr f3 rfl rfl).pv rfl).pv rfl).pv rfl).tr f4 rfl rfl).tr f rfl rfl) q)  h70
theorem ffb_Coder_variables_184 {rec : Nat → Int → Int → Int → cS → (Int → cS → Prop) → Prop} (hrec : ∀ (i : Nat) (a b c : Int) (A : cS) (Q Q' : Int → cS → Prop), rec i a b c A Q → (∀ (e : Int) (A' : cS), ySm A A' [1, 2, 4, 5, 6, 10, 24, 25, 26, 27, 28, 29, 30, 31, 32, 33] [4, 5, 13, 14, 15, 16, 17, 18, 19, 20, 21, 22, 23, 24, 37, 38, 39, 40] → Q e A' → Q' e A') → rec i a b c A Q') {Q Q' : cS → Prop} {k184 k184' : cS → Int → Int → Int → Int → Prop} {s0 : cS} {x2 : Int} {x4 : Int} {x5 : Int} {x6 : Int} (hq : ∀ (A' : cS), ySm s0 A' [1, 2, 4, 5, 6, 10, 24, 25, 26, 27, 28, 29, 30, 31, 32, 33] [4, 5, 13, 14, 15, 16, 17, 18, 19, 20, 21, 22, 23, 24, 37, 38, 39, 40] → Q A' → Q' A') (fk184 : ∀ (A' : cS) (x0 : Int) (x1 : Int) (x2 : Int) (x3 : Int), ySm s0 A' [1, 2, 4, 5, 6, 10, 24, 25, 26, 27, 28, 29, 30, 31, 32, 33] [4, 5, 13, 14, 15, 16, 17, 18, 19, 20, 21, 22, 23, 24, 37, 38, 39, 40] → k184 A' x0 x1 x2 x3 → k184' A' x0 x1 x2 x3) (hw : wc_Coder_variables_184B rec Q k184 s0 x2 x4 x5 x6) : wc_Coder_variables_184B rec Q' k184' s0 x2 x4 x5 x6 := by
  unfold wc_Coder_variables_184B at hw ⊢
  refine ⟨fun c1 => ?_, fun c1 => ?_⟩
  · have h2 := hw.1 c1
    refine ffm_Coder_take h2 (fun A4 f1 h10 => ?_)
    exact hq _ (ySm.rf.tr f1 rfl rfl) h10
  · have h11 := hw.2 c1
    refine ffm_Tree_data h11 (fun r12 A13 f2 h19 => ?_)
    refine ffm_Tree_place h19 (fun r20 A21 f3 h27 => ?_)
    obtain ⟨o28, h29⟩ := h27
    refine ⟨o28, ?_⟩
    refine ffm_Scope_declare h29 (fun r30 A31 f4 h37 => ?_)
    refine ffm_Tree_next h37 (fun r38 A39 f5 h45 => ?_)
    obtain ⟨o46, h47⟩ := h45
    refine ⟨o46, ?_⟩
    exact fk184 _ _ _ _ _ ((((ySm.rf.tr f2 rfl rfl).tr f3 rfl rfl).tr f4 rfl rfl).tr f5 rfl rfl) h47
theorem ffl_Coder_variables_1840 {rec : Nat → Int → Int → Int → cS → (Int → cS → Prop) → Prop} (hrec : ∀ (i : Nat) (a b c : Int) (A : cS) (Q Q' : Int → cS → Prop), rec i a b c A Q → (∀ (e : Int) (A' : cS), ySm A A' [1, 2, 4, 5, 6, 10, 24, 25, 26, 27, 28, 29, 30, 31, 32, 33] [4, 5, 13, 14, 15, 16, 17, 18, 19, 20, 21, 22, 23, 24, 37, 38, 39, 40] → Q e A' → Q' e A') → rec i a b c A Q') {Q Q' : cS → Prop}  : ∀ (m : Nat) (s0 : cS) (x2 : Int) (x4 : Int) (x5 : Int) (x6 : Int), (∀ (A' : cS), ySm s0 A' [1, 2, 4, 5, 6, 10, 24, 25, 26, 27, 28, 29, 30, 31, 32, 33] [4, 5, 13, 14, 15, 16, 17, 18, 19, 20, 21, 22, 23, 24, 37, 38, 39, 40] → Q A' → Q' A') → wc_Coder_variables_184 rec Q  m s0 x2 x4 x5 x6 → wc_Coder_variables_184 rec Q'  m s0 x2 x4 x5 x6 := by
  intro m
  induction m with
  | zero => intro s0 x2 x4 x5 x6 hq  hw; exact hw
  | succ m ih => intro s0 x2 x4 x5 x6 hq  hw; exact ffb_Coder_variables_184 hrec hq  (fun A' y0 y1 y2 y3 f1 q => ih A' y0 y1 y2 y3 (fun A' f q => hq A' (f1.tr f rfl rfl) q)  q) hw
theorem ffb_Coder_variables_153 {rec : Nat → Int → Int → Int → cS → (Int → cS → Prop) → Prop} (hrec : ∀ (i : Nat) (a b c : Int) (A : cS) (Q Q' : Int → cS → Prop), rec i a b c A Q → (∀ (e : Int) (A' : cS), ySm A A' [1, 2, 4, 5, 6, 10, 24, 25, 26, 27, 28, 29, 30, 31, 32, 33] [4, 5, 13, 14, 15, 16, 17, 18, 19, 20, 21, 22, 23, 24, 37, 38, 39, 40] → Q e A' → Q' e A') → rec i a b c A Q') {Q Q' : cS → Prop} {k153 k153' : cS → Int → Int → Int → Int → Prop} {s0 : cS} {x2 : Int} {x3 : Int} {x5 : Int} {x6 : Int} (hq : ∀ (A' : cS), ySm s0 A' [1, 2, 4, 5, 6, 10, 24, 25, 26, 27, 28, 29, 30, 31, 32, 33] [4, 5, 13, 14, 15, 16, 17, 18, 19, 20, 21, 22, 23, 24, 37, 38, 39, 40] → Q A' → Q' A') (fk153 : ∀ (A' : cS) (x0 : Int) (x1 : Int) (x2 : Int) (x3 : Int), ySm s0 A' [1, 2, 4, 5, 6, 10, 24, 25, 26, 27, 28, 29, 30, 31, 32, 33] [4, 5, 13, 14, 15, 16, 17, 18, 19, 20, 21, 22, 23, 24, 37, 38, 39, 40] → k153 A' x0 x1 x2 x3 → k153' A' x0 x1 x2 x3) (hw : wc_Coder_variables_153B rec Q k153 s0 x2 x3 x5 x6) : wc_Coder_variables_153B rec Q' k153' s0 x2 x3 x5 x6 := by
  unfold wc_Coder_variables_153B at hw ⊢
  refine ⟨fun c1 => ?_, fun c1 => ?_⟩
  · have h2 := hw.1 c1
    obtain ⟨m3, h4⟩ := h2
    exact ⟨m3, ffl_Coder_variables_1840 hrec m3 _ _ _ _ _ (fun A' f q => hq A' (ySm.rf.tr f rfl rfl) q)  h4⟩
  · have h5 := hw.2 c1
    obtain ⟨o6, h7⟩ := h5
    refine ⟨o6, ?_⟩
    refine ffm_Coder_emit h7 (fun r8 A9 f1 h15 => ?_)
    obtain ⟨o16, h17⟩ := h15
    refine ⟨o16, ?_⟩
    exact fk153 _ _ _ _ _ (ySm.rf.tr f1 rfl rfl) h17
theorem ffl_Coder_variables_1530 {rec : Nat → Int → Int → Int → cS → (Int → cS → Prop) → Prop} (hrec : ∀ (i : Nat) (a b c : Int) (A : cS) (Q Q' : Int → cS → Prop), rec i a b c A Q → (∀ (e : Int) (A' : cS), ySm A A' [1, 2, 4, 5, 6, 10, 24, 25, 26, 27, 28, 29, 30, 31, 32, 33] [4, 5, 13, 14, 15, 16, 17, 18, 19, 20, 21, 22, 23, 24, 37, 38, 39, 40] → Q e A' → Q' e A') → rec i a b c A Q') {Q Q' : cS → Prop}  : ∀ (m : Nat) (s0 : cS) (x2 : Int) (x3 : Int) (x5 : Int) (x6 : Int), (∀ (A' : cS), ySm s0 A' [1, 2, 4, 5, 6, 10, 24, 25, 26, 27, 28, 29, 30, 31, 32, 33] [4, 5, 13, 14, 15, 16, 17, 18, 19, 20, 21, 22, 23, 24, 37, 38, 39, 40] → Q A' → Q' A') → wc_Coder_variables_153 rec Q  m s0 x2 x3 x5 x6 → wc_Coder_variables_153 rec Q'  m s0 x2 x3 x5 x6 := by
  intro m
  induction m with
  | zero => intro s0 x2 x3 x5 x6 hq  hw; exact hw
  | succ m ih => intro s0 x2 x3 x5 x6 hq  hw; exact ffb_Coder_variables_153 hrec hq  (fun A' y0 y1 y2 y3 f1 q => ih A' y0 y1 y2 y3 (fun A' f q => hq A' (f1.tr f rfl rfl) q)  q) hw
theorem ffb_Coder_variables_61 {rec : Nat → Int → Int → Int → cS → (Int → cS → Prop) → Prop} (hrec : ∀ (i : Nat) (a b c : Int) (A : cS) (Q Q' : Int → cS → Prop), rec i a b c A Q → (∀ (e : Int) (A' : cS), ySm A A' [1, 2, 4, 5, 6, 10, 24, 25, 26, 27, 28, 29, 30, 31, 32, 33] [4, 5, 13, 14, 15, 16, 17, 18, 19, 20, 21, 22, 23, 24, 37, 38, 39, 40] → Q e A' → Q' e A') → rec i a b c A Q') {Q Q' : cS → Prop} {k61 k61' : cS → Int → Int → Int → Int → Int → Prop} {s0 : cS} {x2 : Int} {x3 : Int} {x4 : Int} {x5 : Int} {x6 : Int} (hq : ∀ (A' : cS), ySm s0 A' [1, 2, 4, 5, 6, 10, 24, 25, 26, 27, 28, 29, 30, 31, 32, 33] [4, 5, 13, 14, 15, 16, 17, 18, 19, 20, 21, 22, 23, 24, 37, 38, 39, 40] → Q A' → Q' A') (fk61 : ∀ (A' : cS) (x0 : Int) (x1 : Int) (x2 : Int) (x3 : Int) (x4 : Int), ySm s0 A' [1, 2, 4, 5, 6, 10, 24, 25, 26, 27, 28, 29, 30, 31, 32, 33] [4, 5, 13, 14, 15, 16, 17, 18, 19, 20, 21, 22, 23, 24, 37, 38, 39, 40] → k61 A' x0 x1 x2 x3 x4 → k61' A' x0 x1 x2 x3 x4) (hw : wc_Coder_variables_61B rec Q k61 s0 x2 x3 x4 x5 x6) : wc_Coder_variables_61B rec Q' k61' s0 x2 x3 x4 x5 x6 := by
  unfold wc_Coder_variables_61B at hw ⊢
  refine ⟨fun c1 => ?_, fun c1 => ?_⟩
  · have h2 := hw.1 c1
    obtain ⟨o3, h4⟩ := h2
    refine ⟨o3, ?_⟩
    obtain ⟨m5, h6⟩ := h4
    exact ⟨m5, ffl_Coder_variables_1530 hrec m5 _ _ _ _ _ (fun A' f q => hq A' (ySm.rf.tr f rfl rfl) q)  h6⟩
  · have h7 := hw.2 c1
    refine ffm_Tree_kind h7 (fun r8 A9 f1 h15 => ?_)
    refine ⟨fun c16 => ?_, fun c16 => ?_⟩
    · have h17 := h15.1 c16
      refine hrec _ _ _ _ _ _ _ h17 (fun r18 A19 f2 h25 => ?_)
      refine ffm_Tree_next h25 (fun r26 A27 f3 h33 => ?_)
      obtain ⟨o34, h35⟩ := h33
      refine ⟨o34, ?_⟩
      exact fk61 _ _ _ _ _ _ (((ySm.rf.tr f1 rfl rfl).tr f2 rfl rfl).tr f3 rfl rfl) h35
    · have h36 := h15.2 c16
      obtain ⟨o37, h38⟩ := h36
      refine ⟨o37, ?_⟩
      refine ffm_Coder_emit h38 (fun r39 A40 f4 h46 => ?_)
      refine ffm_Tree_first h46 (fun r47 A48 f5 h54 => ?_)
      refine ffm_Constants_number h54 (fun r55 A56 f6 h62 => ?_)
      refine ffm_Tree_next h62 (fun r63 A64 f7 h70 => ?_)
      obtain ⟨o71, h72⟩ := h70
      refine ⟨o71, ?_⟩
      obtain ⟨o73, h74⟩ := h72
      refine ⟨o73, ?_⟩
      exact fk61 _ _ _ _ _ _ (((((ySm.rf.tr f1 rfl rfl).tr f4 rfl rfl).tr f5 rfl rfl).tr f6 rfl rfl).tr f7 rfl rfl) h74
theorem ffl_Coder_variables_610 {rec : Nat → Int → Int → Int → cS → (Int → cS → Prop) → Prop} (hrec : ∀ (i : Nat) (a b c : Int) (A : cS) (Q Q' : Int → cS → Prop), rec i a b c A Q → (∀ (e : Int) (A' : cS), ySm A A' [1, 2, 4, 5, 6, 10, 24, 25, 26, 27, 28, 29, 30, 31, 32, 33] [4, 5, 13, 14, 15, 16, 17, 18, 19, 20, 21, 22, 23, 24, 37, 38, 39, 40] → Q e A' → Q' e A') → rec i a b c A Q') {Q Q' : cS → Prop}  : ∀ (m : Nat) (s0 : cS) (x2 : Int) (x3 : Int) (x4 : Int) (x5 : Int) (x6 : Int), (∀ (A' : cS), ySm s0 A' [1, 2, 4, 5, 6, 10, 24, 25, 26, 27, 28, 29, 30, 31, 32, 33] [4, 5, 13, 14, 15, 16, 17, 18, 19, 20, 21, 22, 23, 24, 37, 38, 39, 40] → Q A' → Q' A') → wc_Coder_variables_61 rec Q  m s0 x2 x3 x4 x5 x6 → wc_Coder_variables_61 rec Q'  m s0 x2 x3 x4 x5 x6 := by
  intro m
  induction m with
  | zero => intro s0 x2 x3 x4 x5 x6 hq  hw; exact hw
  | succ m ih => intro s0 x2 x3 x4 x5 x6 hq  hw; exact ffb_Coder_variables_61 hrec hq  (fun A' y0 y1 y2 y3 y4 f1 q => ih A' y0 y1 y2 y3 y4 (fun A' f q => hq A' (f1.tr f rfl rfl) q)  q) hw
theorem ffb_Coder_variables_32 {rec : Nat → Int → Int → Int → cS → (Int → cS → Prop) → Prop} (hrec : ∀ (i : Nat) (a b c : Int) (A : cS) (Q Q' : Int → cS → Prop), rec i a b c A Q → (∀ (e : Int) (A' : cS), ySm A A' [1, 2, 4, 5, 6, 10, 24, 25, 26, 27, 28, 29, 30, 31, 32, 33] [4, 5, 13, 14, 15, 16, 17, 18, 19, 20, 21, 22, 23, 24, 37, 38, 39, 40] → Q e A' → Q' e A') → rec i a b c A Q') {Q Q' : cS → Prop} {k32 k32' : cS → Int → Int → Int → Int → Prop} {s0 : cS} {x2 : Int} {x3 : Int} {x4 : Int} {x5 : Int} (hq : ∀ (A' : cS), ySm s0 A' [1, 2, 4, 5, 6, 10, 24, 25, 26, 27, 28, 29, 30, 31, 32, 33] [4, 5, 13, 14, 15, 16, 17, 18, 19, 20, 21, 22, 23, 24, 37, 38, 39, 40] → Q A' → Q' A') (fk32 : ∀ (A' : cS) (x0 : Int) (x1 : Int) (x2 : Int) (x3 : Int), ySm s0 A' [1, 2, 4, 5, 6, 10, 24, 25, 26, 27, 28, 29, 30, 31, 32, 33] [4, 5, 13, 14, 15, 16, 17, 18, 19, 20, 21, 22, 23, 24, 37, 38, 39, 40] → k32 A' x0 x1 x2 x3 → k32' A' x0 x1 x2 x3) (hw : wc_Coder_variables_32B rec Q k32 s0 x2 x3 x4 x5) : wc_Coder_variables_32B rec Q' k32' s0 x2 x3 x4 x5 := by
  unfold wc_Coder_variables_32B at hw ⊢
  refine ⟨fun c1 => ?_, fun c1 => ?_⟩
  · have h2 := hw.1 c1
    obtain ⟨m3, h4⟩ := h2
    exact ⟨m3, ffl_Coder_variables_610 hrec m3 _ _ _ _ _ _ (fun A' f q => hq A' (ySm.rf.tr f rfl rfl) q)  h4⟩
  · have h5 := hw.2 c1
    refine ffm_Tree_next h5 (fun r6 A7 f1 h13 => ?_)
    obtain ⟨o14, h15⟩ := h13
    refine ⟨o14, ?_⟩
    exact fk32 _ _ _ _ _ (ySm.rf.tr f1 rfl rfl) h15
theorem ffl_Coder_variables_320 {rec : Nat → Int → Int → Int → cS → (Int → cS → Prop) → Prop} (hrec : ∀ (i : Nat) (a b c : Int) (A : cS) (Q Q' : Int → cS → Prop), rec i a b c A Q → (∀ (e : Int) (A' : cS), ySm A A' [1, 2, 4, 5, 6, 10, 24, 25, 26, 27, 28, 29, 30, 31, 32, 33] [4, 5, 13, 14, 15, 16, 17, 18, 19, 20, 21, 22, 23, 24, 37, 38, 39, 40] → Q e A' → Q' e A') → rec i a b c A Q') {Q Q' : cS → Prop}  : ∀ (m : Nat) (s0 : cS) (x2 : Int) (x3 : Int) (x4 : Int) (x5 : Int), (∀ (A' : cS), ySm s0 A' [1, 2, 4, 5, 6, 10, 24, 25, 26, 27, 28, 29, 30, 31, 32, 33] [4, 5, 13, 14, 15, 16, 17, 18, 19, 20, 21, 22, 23, 24, 37, 38, 39, 40] → Q A' → Q' A') → wc_Coder_variables_32 rec Q  m s0 x2 x3 x4 x5 → wc_Coder_variables_32 rec Q'  m s0 x2 x3 x4 x5 := by
  intro m
  induction m with
  | zero => intro s0 x2 x3 x4 x5 hq  hw; exact hw
  | succ m ih => intro s0 x2 x3 x4 x5 hq  hw; exact ffb_Coder_variables_32 hrec hq  (fun A' y0 y1 y2 y3 f1 q => ih A' y0 y1 y2 y3 (fun A' f q => hq A' (f1.tr f rfl rfl) q)  q) hw
theorem ffm_Coder_variables {rec : Nat → Int → Int → Int → cS → (Int → cS → Prop) → Prop} (hrec : ∀ (i : Nat) (a b c : Int) (A : cS) (Q Q' : Int → cS → Prop), rec i a b c A Q → (∀ (e : Int) (A' : cS), ySm A A' [1, 2, 4, 5, 6, 10, 24, 25, 26, 27, 28, 29, 30, 31, 32, 33] [4, 5, 13, 14, 15, 16, 17, 18, 19, 20, 21, 22, 23, 24, 37, 38, 39, 40] → Q e A' → Q' e A') → rec i a b c A Q') {s0 : cS} {a0 : Int} {Q Q' : cS → Prop} (hw : wc_Coder_variables rec s0 a0 Q) (hq : ∀ (A' : cS), ySm s0 A' [1, 2, 4, 5, 6, 10, 24, 25, 26, 27, 28, 29, 30, 31, 32, 33] [4, 5, 13, 14, 15, 16, 17, 18, 19, 20, 21, 22, 23, 24, 37, 38, 39, 40] → Q A' → Q' A') : wc_Coder_variables rec s0 a0 Q' := by
  unfold wc_Coder_variables at hw ⊢
  refine ffm_Coder_emit hw (fun r1 A2 f1 h8 => ?_)
  refine ffm_Tree_data h8 (fun r9 A10 f2 h16 => ?_)
  refine ffm_Tree_first h16 (fun r17 A18 f3 h24 => ?_)
  obtain ⟨m25, h26⟩ := h24
  exact ⟨m25, ffl_Coder_variables_320 hrec m25 _ _ _ _ _ (fun A' f q => hq A' ((((ySm.rf.tr f1 rfl rfl).tr f2 rfl rfl).tr f3 rfl rfl).tr f rfl rfl) q)  h26⟩
theorem ffj_Coder_section_290 {rec : Nat → Int → Int → Int → cS → (Int → cS → Prop) → Prop} (hrec : ∀ (i : Nat) (a b c : Int) (A : cS) (Q Q' : Int → cS → Prop), rec i a b c A Q → (∀ (e : Int) (A' : cS), ySm A A' [1, 2, 4, 5, 6, 10, 24, 25, 26, 27, 28, 29, 30, 31, 32, 33] [4, 5, 13, 14, 15, 16, 17, 18, 19, 20, 21, 22, 23, 24, 37, 38, 39, 40] → Q e A' → Q' e A') → rec i a b c A Q') {Q Q' : cS → Prop} {k134 k134' : cS → Int → Int → Int → Prop} {s0 : cS} {x2 : Int} {x3 : Int} {x4 : Int} (hq : ∀ (A' : cS), ySm s0 A' [1, 2, 4, 5, 6, 10, 24, 25, 26, 27, 28, 29, 30, 31, 32, 33] [4, 5, 13, 14, 15, 16, 17, 18, 19, 20, 21, 22, 23, 24, 37, 38, 39, 40] → Q A' → Q' A') (fk134 : ∀ (A' : cS) (x0 : Int) (x1 : Int) (x2 : Int), ySm s0 A' [1, 2, 4, 5, 6, 10, 24, 25, 26, 27, 28, 29, 30, 31, 32, 33] [4, 5, 13, 14, 15, 16, 17, 18, 19, 20, 21, 22, 23, 24, 37, 38, 39, 40] → k134 A' x0 x1 x2 → k134' A' x0 x1 x2) (hw : wc_Coder_section_290 rec Q k134 s0 x2 x3 x4) : wc_Coder_section_290 rec Q' k134' s0 x2 x3 x4 := by
  unfold wc_Coder_section_290 at hw ⊢
  refine ffm_Tree_next hw (fun r1 A2 f1 h8 => ?_)
  obtain ⟨o9, h10⟩ := h8
  refine ⟨o9, ?_⟩
  exact fk134 _ _ _ _ (ySm.rf.tr f1 rfl rfl) h10
theorem ffb_Coder_section_134 {rec : Nat → Int → Int → Int → cS → (Int → cS → Prop) → Prop} (hrec : ∀ (i : Nat) (a b c : Int) (A : cS) (Q Q' : Int → cS → Prop), rec i a b c A Q → (∀ (e : Int) (A' : cS), ySm A A' [1, 2, 4, 5, 6, 10, 24, 25, 26, 27, 28, 29, 30, 31, 32, 33] [4, 5, 13, 14, 15, 16, 17, 18, 19, 20, 21, 22, 23, 24, 37, 38, 39, 40] → Q e A' → Q' e A') → rec i a b c A Q') {Q Q' : cS → Prop} {k134 k134' : cS → Int → Int → Int → Prop} {s0 : cS} {x2 : Int} {x3 : Int} {x4 : Int} (hq : ∀ (A' : cS), ySm s0 A' [1, 2, 4, 5, 6, 10, 24, 25, 26, 27, 28, 29, 30, 31, 32, 33] [4, 5, 13, 14, 15, 16, 17, 18, 19, 20, 21, 22, 23, 24, 37, 38, 39, 40] → Q A' → Q' A') (fk134 : ∀ (A' : cS) (x0 : Int) (x1 : Int) (x2 : Int), ySm s0 A' [1, 2, 4, 5, 6, 10, 24, 25, 26, 27, 28, 29, 30, 31, 32, 33] [4, 5, 13, 14, 15, 16, 17, 18, 19, 20, 21, 22, 23, 24, 37, 38, 39, 40] → k134 A' x0 x1 x2 → k134' A' x0 x1 x2) (hw : wc_Coder_section_134B rec Q k134 s0 x2 x3 x4) : wc_Coder_section_134B rec Q' k134' s0 x2 x3 x4 := by
  unfold wc_Coder_section_134B at hw ⊢
  refine ⟨fun c1 => ?_, fun c1 => ?_⟩
  · have h2 := hw.1 c1
    refine ffm_Scope_close h2 (fun A4 f1 h10 => ?_)
    exact hq _ ((ySm.rf.tr f1 rfl rfl).pv rfl) h10
  · have h22 := hw.2 c1
    refine ⟨fun c23 => ?_, fun c23 => ?_⟩
    · have h24 := h22.1 c23
      refine ffm_Scope_close h24 (fun A26 f2 h32 => ?_)
      exact hq _ ((ySm.rf.tr f2 rfl rfl).pv rfl) h32
    · have h44 := h22.2 c23
      refine ffm_Tree_kind h44 (fun r45 A46 f3 h52 => ?_)
      refine ⟨fun g53 => ?_, ?_⟩
      · have h55 := (h52.1) g53
        refine ffm_Coder_entrance h55 (fun A57 f4 h63 => ?_)
        exact ffj_Coder_section_290 hrec (fun A' f q => hq A' (((ySm.rf.tr f3 rfl rfl).tr f4 rfl rfl).tr f rfl rfl) q) (fun A' x0 x1 x2 f q => fk134 A' x0 x1 x2 (((ySm.rf.tr f3 rfl rfl).tr f4 rfl rfl).tr f rfl rfl) q) h63
      · skip
        refine ⟨fun g64 => ?_, ?_⟩
        · have h66 := (h52.2.1) g64
          refine ffm_Coder_definitions h66 (fun A68 f5 h74 => ?_)
          exact ffj_Coder_section_290 hrec (fun A' f q => hq A' (((ySm.rf.tr f3 rfl rfl).tr f5 rfl rfl).tr f rfl rfl) q) (fun A' x0 x1 x2 f q => fk134 A' x0 x1 x2 (((ySm.rf.tr f3 rfl rfl).tr f5 rfl rfl).tr f rfl rfl) q) h74
        · skip
          refine ⟨fun g75 => ?_, ?_⟩
          · have h77 := (h52.2.2.1) g75
            refine hrec _ _ _ _ _ _ _ h77 (fun r78 A79 f6 h85 => ?_)
            exact ffj_Coder_section_290 hrec (fun A' f q => hq A' (((ySm.rf.tr f3 rfl rfl).tr f6 rfl rfl).tr f rfl rfl) q) (fun A' x0 x1 x2 f q => fk134 A' x0 x1 x2 (((ySm.rf.tr f3 rfl rfl).tr f6 rfl rfl).tr f rfl rfl) q) h85
          · skip
            refine ⟨fun g86 => ?_, ?_⟩
            · have h88 := (h52.2.2.2.1) g86
              refine hrec _ _ _ _ _ _ _ h88 (fun r89 A90 f7 h96 => ?_)
              exact ffj_Coder_section_290 hrec (fun A' f q => hq A' (((ySm.rf.tr f3 rfl rfl).tr f7 rfl rfl).tr f rfl rfl) q) (fun A' x0 x1 x2 f q => fk134 A' x0 x1 x2 (((ySm.rf.tr f3 rfl rfl).tr f7 rfl rfl).tr f rfl rfl) q) h96
            · skip
              refine ⟨fun g97 => ?_, ?_⟩
              · have h99 := (h52.2.2.2.2.1) g97
                refine ffm_Tree_extra h99 (fun r100 A101 f8 h107 => ?_)
                refine ffm_Program_here h107 (fun r108 A109 f9 h115 => ?_)
                exact ffj_Coder_section_290 hrec (fun A' f q => hq A' (((((ySm.rf.tr f3 rfl rfl).tr f8 rfl rfl).tr f9 rfl rfl).set rfl).tr f rfl rfl) q) (fun A' x0 x1 x2 f q => fk134 A' x0 x1 x2 (((((ySm.rf.tr f3 rfl rfl).tr f8 rfl rfl).tr f9 rfl rfl).set rfl).tr f rfl rfl) q) h115
              · skip
                intro ng53 ng64 ng75 ng86 ng97
                have h120 := h52.2.2.2.2.2 ng53 ng64 ng75 ng86 ng97
                refine hrec _ _ _ _ _ _ _ h120 (fun r121 A122 f10 h128 => ?_)
                exact ffj_Coder_section_290 hrec (fun A' f q => hq A' (((ySm.rf.tr f3 rfl rfl).tr f10 rfl rfl).tr f rfl rfl) q) (fun A' x0 x1 x2 f q => fk134 A' x0 x1 x2 (((ySm.rf.tr f3 rfl rfl).tr f10 rfl rfl).tr f rfl rfl) q) h128
theorem ffl_Coder_section_1340 {rec : Nat → Int → Int → Int → cS → (Int → cS → Prop) → Prop} (hrec : ∀ (i : Nat) (a b c : Int) (A : cS) (Q Q' : Int → cS → Prop), rec i a b c A Q → (∀ (e : Int) (A' : cS), ySm A A' [1, 2, 4, 5, 6, 10, 24, 25, 26, 27, 28, 29, 30, 31, 32, 33] [4, 5, 13, 14, 15, 16, 17, 18, 19, 20, 21, 22, 23, 24, 37, 38, 39, 40] → Q e A' → Q' e A') → rec i a b c A Q') {Q Q' : cS → Prop}  : ∀ (m : Nat) (s0 : cS) (x2 : Int) (x3 : Int) (x4 : Int), (∀ (A' : cS), ySm s0 A' [1, 2, 4, 5, 6, 10, 24, 25, 26, 27, 28, 29, 30, 31, 32, 33] [4, 5, 13, 14, 15, 16, 17, 18, 19, 20, 21, 22, 23, 24, 37, 38, 39, 40] → Q A' → Q' A') → wc_Coder_section_134 rec Q  m s0 x2 x3 x4 → wc_Coder_section_134 rec Q'  m s0 x2 x3 x4 := by
  intro m
  induction m with
  | zero => intro s0 x2 x3 x4 hq  hw; exact hw
  | succ m ih => intro s0 x2 x3 x4 hq  hw; exact ffb_Coder_section_134 hrec hq  (fun A' y0 y1 y2 f1 q => ih A' y0 y1 y2 (fun A' f q => hq A' (f1.tr f rfl rfl) q)  q) hw
theorem ffb_Coder_section_24 {rec : Nat → Int → Int → Int → cS → (Int → cS → Prop) → Prop} (hrec : ∀ (i : Nat) (a b c : Int) (A : cS) (Q Q' : Int → cS → Prop), rec i a b c A Q → (∀ (e : Int) (A' : cS), ySm A A' [1, 2, 4, 5, 6, 10, 24, 25, 26, 27, 28, 29, 30, 31, 32, 33] [4, 5, 13, 14, 15, 16, 17, 18, 19, 20, 21, 22, 23, 24, 37, 38, 39, 40] → Q e A' → Q' e A') → rec i a b c A Q') {Q Q' : cS → Prop} {k24 k24' : cS → Int → Int → Int → Int → Prop} {s0 : cS} {x1 : Int} {x2 : Int} {x3 : Int} {x4 : Int} (hq : ∀ (A' : cS), ySm s0 A' [1, 2, 4, 5, 6, 10, 24, 25, 26, 27, 28, 29, 30, 31, 32, 33] [4, 5, 13, 14, 15, 16, 17, 18, 19, 20, 21, 22, 23, 24, 37, 38, 39, 40] → Q A' → Q' A') (fk24 : ∀ (A' : cS) (x0 : Int) (x1 : Int) (x2 : Int) (x3 : Int), ySm s0 A' [1, 2, 4, 5, 6, 10, 24, 25, 26, 27, 28, 29, 30, 31, 32, 33] [4, 5, 13, 14, 15, 16, 17, 18, 19, 20, 21, 22, 23, 24, 37, 38, 39, 40] → k24 A' x0 x1 x2 x3 → k24' A' x0 x1 x2 x3) (hw : wc_Coder_section_24B rec Q k24 s0 x1 x2 x3 x4) : wc_Coder_section_24B rec Q' k24' s0 x1 x2 x3 x4 := by
  unfold wc_Coder_section_24B at hw ⊢
  refine ⟨fun c1 => ?_, fun c1 => ?_⟩
  · have h2 := hw.1 c1
    refine ffm_Tree_first h2 (fun r3 A4 f1 h10 => ?_)
    obtain ⟨m11, h12⟩ := h10
    exact ⟨m11, ffl_Coder_section_1340 hrec m11 _ _ _ _ (fun A' f q => hq A' ((ySm.rf.tr f1 rfl rfl).tr f rfl rfl) q)  h12⟩
  · have h13 := hw.2 c1
    refine ⟨fun c14 => ?_, fun c14 => ?_⟩
    · have h15 := h13.1 c14
      refine ffm_Tree_first h15 (fun r16 A17 f2 h23 => ?_)
      obtain ⟨m24, h25⟩ := h23
      exact ⟨m24, ffl_Coder_section_1340 hrec m24 _ _ _ _ (fun A' f q => hq A' ((ySm.rf.tr f2 rfl rfl).tr f rfl rfl) q)  h25⟩
    · have h26 := h13.2 c14
      refine ffm_Tree_kind h26 (fun r27 A28 f3 h34 => ?_)
      refine ⟨fun c35 => ?_, fun c35 => ?_⟩
      · have h36 := h34.1 c35
        refine ffm_Tree_next h36 (fun r37 A38 f4 h44 => ?_)
        obtain ⟨o45, h46⟩ := h44
        refine ⟨o45, ?_⟩
        exact fk24 _ _ _ _ _ ((ySm.rf.tr f3 rfl rfl).tr f4 rfl rfl) h46
      · have h47 := h34.2 c35
        refine ffm_Tree_setExtra h47 (fun A49 f5 h55 => ?_)
        refine ffm_Tree_data h55 (fun r56 A57 f6 h63 => ?_)
        refine ffm_Tree_place h63 (fun r64 A65 f7 h71 => ?_)
        refine ffm_Scope_declare h71 (fun r72 A73 f8 h79 => ?_)
        obtain ⟨o84, h85⟩ := h79
        refine ⟨o84, ?_⟩
        refine ffm_Tree_next h85 (fun r86 A87 f9 h93 => ?_)
        obtain ⟨o94, h95⟩ := h93
        refine ⟨o94, ?_⟩
        exact fk24 _ _ _ _ _ (((((((ySm.rf.tr f3 rfl rfl).tr f5 rfl rfl).tr f6 rfl rfl).tr f7 rfl rfl).tr f8 rfl rfl).add rfl).tr f9 rfl rfl) h95
theorem ffl_Coder_section_240 {rec : Nat → Int → Int → Int → cS → (Int → cS → Prop) → Prop} (hrec : ∀ (i : Nat) (a b c : Int) (A : cS) (Q Q' : Int → cS → Prop), rec i a b c A Q → (∀ (e : Int) (A' : cS), ySm A A' [1, 2, 4, 5, 6, 10, 24, 25, 26, 27, 28, 29, 30, 31, 32, 33] [4, 5, 13, 14, 15, 16, 17, 18, 19, 20, 21, 22, 23, 24, 37, 38, 39, 40] → Q e A' → Q' e A') → rec i a b c A Q') {Q Q' : cS → Prop}  : ∀ (m : Nat) (s0 : cS) (x1 : Int) (x2 : Int) (x3 : Int) (x4 : Int), (∀ (A' : cS), ySm s0 A' [1, 2, 4, 5, 6, 10, 24, 25, 26, 27, 28, 29, 30, 31, 32, 33] [4, 5, 13, 14, 15, 16, 17, 18, 19, 20, 21, 22, 23, 24, 37, 38, 39, 40] → Q A' → Q' A') → wc_Coder_section_24 rec Q  m s0 x1 x2 x3 x4 → wc_Coder_section_24 rec Q'  m s0 x1 x2 x3 x4 := by
  intro m
  induction m with
  | zero => intro s0 x1 x2 x3 x4 hq  hw; exact hw
  | succ m ih => intro s0 x1 x2 x3 x4 hq  hw; exact ffb_Coder_section_24 hrec hq  (fun A' y0 y1 y2 y3 f1 q => ih A' y0 y1 y2 y3 (fun A' f q => hq A' (f1.tr f rfl rfl) q)  q) hw
theorem ffm_Coder_section {rec : Nat → Int → Int → Int → cS → (Int → cS → Prop) → Prop} (hrec : ∀ (i : Nat) (a b c : Int) (A : cS) (Q Q' : Int → cS → Prop), rec i a b c A Q → (∀ (e : Int) (A' : cS), ySm A A' [1, 2, 4, 5, 6, 10, 24, 25, 26, 27, 28, 29, 30, 31, 32, 33] [4, 5, 13, 14, 15, 16, 17, 18, 19, 20, 21, 22, 23, 24, 37, 38, 39, 40] → Q e A' → Q' e A') → rec i a b c A Q') {s0 : cS} {a0 : Int} {Q Q' : cS → Prop} (hw : wc_Coder_section rec s0 a0 Q) (hq : ∀ (A' : cS), ySm s0 A' [1, 2, 4, 5, 6, 10, 24, 25, 26, 27, 28, 29, 30, 31, 32, 33] [4, 5, 13, 14, 15, 16, 17, 18, 19, 20, 21, 22, 23, 24, 37, 38, 39, 40] → Q A' → Q' A') : wc_Coder_section rec s0 a0 Q' := by
  unfold wc_Coder_section at hw ⊢
  refine ffm_Scope_open hw (fun A2 f1 h8 => ?_)
  refine ffm_Tree_first h8 (fun r9 A10 f2 h16 => ?_)
  obtain ⟨m17, h18⟩ := h16
  exact ⟨m17, ffl_Coder_section_240 hrec m17 _ _ _ _ _ (fun A' f q => hq A' (((ySm.rf.tr f1 rfl rfl).tr f2 rfl rfl).tr f rfl rfl) q)  h18⟩
theorem ffj_Coder_command_57 {rec : Nat → Int → Int → Int → cS → (Int → cS → Prop) → Prop} (hrec : ∀ (i : Nat) (a b c : Int) (A : cS) (Q Q' : Int → cS → Prop), rec i a b c A Q → (∀ (e : Int) (A' : cS), ySm A A' [1, 2, 4, 5, 6, 10, 24, 25, 26, 27, 28, 29, 30, 31, 32, 33] [4, 5, 13, 14, 15, 16, 17, 18, 19, 20, 21, 22, 23, 24, 37, 38, 39, 40] → Q e A' → Q' e A') → rec i a b c A Q') {Q Q' : cS → Prop}  {s0 : cS} {x1 : Int} (hq : ∀ (A' : cS), ySm s0 A' [1, 2, 4, 5, 6, 10, 24, 25, 26, 27, 28, 29, 30, 31, 32, 33] [4, 5, 13, 14, 15, 16, 17, 18, 19, 20, 21, 22, 23, 24, 37, 38, 39, 40] → Q A' → Q' A')  (hw : wc_Coder_command_57 rec Q  s0 x1) : wc_Coder_command_57 rec Q'  s0 x1 := by
  unfold wc_Coder_command_57 at hw ⊢
  refine ffm_Coder_emit hw (fun r1 A2 f1 h8 => ?_)
  refine ffm_Tree_kind h8 (fun r9 A10 f2 h16 => ?_)
  refine ⟨fun g17 => ?_, ?_⟩
  · have h19 := (h16.1) g17
    refine hrec _ _ _ _ _ _ _ h19 (fun r20 A21 f3 h27 => ?_)
    exact hq _ (((ySm.rf.tr f1 rfl rfl).tr f2 rfl rfl).tr f3 rfl rfl) h27
  · skip
    refine ⟨fun g28 => ?_, ?_⟩
    · have h30 := (h16.2.1) g28
      refine hrec _ _ _ _ _ _ _ h30 (fun r31 A32 f4 h38 => ?_)
      exact hq _ (((ySm.rf.tr f1 rfl rfl).tr f2 rfl rfl).tr f4 rfl rfl) h38
    · skip
      refine ⟨fun g39 => ?_, ?_⟩
      · have h41 := (h16.2.2.1) g39
        refine hrec _ _ _ _ _ _ _ h41 (fun r42 A43 f5 h49 => ?_)
        exact hq _ (((ySm.rf.tr f1 rfl rfl).tr f2 rfl rfl).tr f5 rfl rfl) h49
      · skip
        refine ⟨fun g50 => ?_, ?_⟩
        · have h52 := (h16.2.2.2.1) g50
          refine hrec _ _ _ _ _ _ _ h52 (fun r53 A54 f6 h60 => ?_)
          exact hq _ (((ySm.rf.tr f1 rfl rfl).tr f2 rfl rfl).tr f6 rfl rfl) h60
        · skip
          refine ⟨fun g61 => ?_, ?_⟩
          · have h63 := (h16.2.2.2.2.1) g61
            refine hrec _ _ _ _ _ _ _ h63 (fun r64 A65 f7 h71 => ?_)
            exact hq _ (((ySm.rf.tr f1 rfl rfl).tr f2 rfl rfl).tr f7 rfl rfl) h71
          · skip
            refine ⟨fun g72 => ?_, ?_⟩
            · have h74 := (h16.2.2.2.2.2.1) g72
              refine hrec _ _ _ _ _ _ _ h74 (fun r75 A76 f8 h82 => ?_)
              exact hq _ (((ySm.rf.tr f1 rfl rfl).tr f2 rfl rfl).tr f8 rfl rfl) h82
            · skip
              refine ⟨fun g83 => ?_, ?_⟩
              · have h85 := (h16.2.2.2.2.2.2.1) g83
                refine ffm_Tree_first h85 (fun r86 A87 f9 h93 => ?_)
                refine hrec _ _ _ _ _ _ _ h93 (fun r94 A95 f10 h101 => ?_)
                refine ffm_Coder_emit h101 (fun r102 A103 f11 h109 => ?_)
                exact hq _ (((((ySm.rf.tr f1 rfl rfl).tr f2 rfl rfl).tr f9 rfl rfl).tr f10 rfl rfl).tr f11 rfl rfl) h109
              · skip
                intro ng17 ng28 ng39 ng50 ng61 ng72 ng83
                have h110 := h16.2.2.2.2.2.2.2 ng17 ng28 ng39 ng50 ng61 ng72 ng83
                refine ffm_Coder_leaving h110 (fun A112 f12 h118 => ?_)
                exact hq _ (((ySm.rf.tr f1 rfl rfl).tr f2 rfl rfl).tr f12 rfl rfl) h118
theorem ffm_Coder_command {rec : Nat → Int → Int → Int → cS → (Int → cS → Prop) → Prop} (hrec : ∀ (i : Nat) (a b c : Int) (A : cS) (Q Q' : Int → cS → Prop), rec i a b c A Q → (∀ (e : Int) (A' : cS), ySm A A' [1, 2, 4, 5, 6, 10, 24, 25, 26, 27, 28, 29, 30, 31, 32, 33] [4, 5, 13, 14, 15, 16, 17, 18, 19, 20, 21, 22, 23, 24, 37, 38, 39, 40] → Q e A' → Q' e A') → rec i a b c A Q') {s0 : cS} {a0 : Int} {Q Q' : cS → Prop} (hw : wc_Coder_command rec s0 a0 Q) (hq : ∀ (A' : cS), ySm s0 A' [1, 2, 4, 5, 6, 10, 24, 25, 26, 27, 28, 29, 30, 31, 32, 33] [4, 5, 13, 14, 15, 16, 17, 18, 19, 20, 21, 22, 23, 24, 37, 38, 39, 40] → Q A' → Q' A') : wc_Coder_command rec s0 a0 Q' := by
  unfold wc_Coder_command at hw ⊢
  refine ffm_Tree_kind hw (fun r1 A2 f1 h8 => ?_)
  refine ⟨fun g9 => ?_, ?_⟩
  · have h11 := (h8.1) g9
    exact hq _ (ySm.rf.tr f1 rfl rfl) h11
  · skip
    refine ⟨fun g12 => ?_, ?_⟩
    · have h14 := (h8.2.1) g12
      refine hrec _ _ _ _ _ _ _ h14 (fun r15 A16 f2 h22 => ?_)
      exact hq _ ((ySm.rf.tr f1 rfl rfl).tr f2 rfl rfl) h22
    · skip
      refine ⟨fun g23 => ?_, ?_⟩
      · have h25 := (h8.2.2.1) g23
        refine hrec _ _ _ _ _ _ _ h25 (fun r26 A27 f3 h33 => ?_)
        exact hq _ ((ySm.rf.tr f1 rfl rfl).tr f3 rfl rfl) h33
      · skip
        intro ng9 ng12 ng23
        have h34 := h8.2.2.2 ng9 ng12 ng23
        exact ffj_Coder_command_57 hrec (fun A' f q => hq A' ((ySm.rf.tr f1 rfl rfl).tr f rfl rfl) q)  h34
theorem ffb_Coder_assignment_50 {rec : Nat → Int → Int → Int → cS → (Int → cS → Prop) → Prop} (hrec : ∀ (i : Nat) (a b c : Int) (A : cS) (Q Q' : Int → cS → Prop), rec i a b c A Q → (∀ (e : Int) (A' : cS), ySm A A' [1, 2, 4, 5, 6, 10, 24, 25, 26, 27, 28, 29, 30, 31, 32, 33] [4, 5, 13, 14, 15, 16, 17, 18, 19, 20, 21, 22, 23, 24, 37, 38, 39, 40] → Q e A' → Q' e A') → rec i a b c A Q') {Q Q' : cS → Prop} {k50 k50' : cS → Int → Int → Int → Int → Prop} {s0 : cS} {x2 : Int} {x3 : Int} {x4 : Int} {x5 : Int} (hq : ∀ (A' : cS), ySm s0 A' [1, 2, 4, 5, 6, 10, 24, 25, 26, 27, 28, 29, 30, 31, 32, 33] [4, 5, 13, 14, 15, 16, 17, 18, 19, 20, 21, 22, 23, 24, 37, 38, 39, 40] → Q A' → Q' A') (fk50 : ∀ (A' : cS) (x0 : Int) (x1 : Int) (x2 : Int) (x3 : Int), ySm s0 A' [1, 2, 4, 5, 6, 10, 24, 25, 26, 27, 28, 29, 30, 31, 32, 33] [4, 5, 13, 14, 15, 16, 17, 18, 19, 20, 21, 22, 23, 24, 37, 38, 39, 40] → k50 A' x0 x1 x2 x3 → k50' A' x0 x1 x2 x3) (hw : wc_Coder_assignment_50B rec Q k50 s0 x2 x3 x4 x5) : wc_Coder_assignment_50B rec Q' k50' s0 x2 x3 x4 x5 := by
  unfold wc_Coder_assignment_50B at hw ⊢
  refine ⟨fun c1 => ?_, fun c1 => ?_⟩
  · have h2 := hw.1 c1
    exact hq _ ySm.rf h2
  · have h3 := hw.2 c1
    refine hrec _ _ _ _ _ _ _ h3 (fun r4 A5 f1 h11 => ?_)
    refine ffm_Tree_place h11 (fun r12 A13 f2 h19 => ?_)
    refine hrec _ _ _ _ _ _ _ h19 (fun r20 A21 f3 h27 => ?_)
    refine ffm_Coder_isByte h27 (fun r28 A29 f4 h35 => ?_)
    refine ⟨fun c36 => ?_, fun c36 => ?_⟩
    · have h37 := h35.1 c36
      refine ffm_Coder_emit h37 (fun r38 A39 f5 h45 => ?_)
      refine ffm_Tree_next h45 (fun r46 A47 f6 h53 => ?_)
      refine ffm_Tree_next h53 (fun r54 A55 f7 h61 => ?_)
      obtain ⟨o62, h63⟩ := h61
      refine ⟨o62, ?_⟩
      exact fk50 _ _ _ _ _ (((((((ySm.rf.tr f1 rfl rfl).tr f2 rfl rfl).tr f3 rfl rfl).tr f4 rfl rfl).tr f5 rfl rfl).tr f6 rfl rfl).tr f7 rfl rfl) h63
    · have h64 := h35.2 c36
      refine ffm_Coder_emit h64 (fun r65 A66 f8 h72 => ?_)
      refine ffm_Tree_next h72 (fun r73 A74 f9 h80 => ?_)
      refine ffm_Tree_next h80 (fun r81 A82 f10 h88 => ?_)
      obtain ⟨o89, h90⟩ := h88
      refine ⟨o89, ?_⟩
      exact fk50 _ _ _ _ _ (((((((ySm.rf.tr f1 rfl rfl).tr f2 rfl rfl).tr f3 rfl rfl).tr f4 rfl rfl).tr f8 rfl rfl).tr f9 rfl rfl).tr f10 rfl rfl) h90
theorem ffl_Coder_assignment_500 {rec : Nat → Int → Int → Int → cS → (Int → cS → Prop) → Prop} (hrec : ∀ (i : Nat) (a b c : Int) (A : cS) (Q Q' : Int → cS → Prop), rec i a b c A Q → (∀ (e : Int) (A' : cS), ySm A A' [1, 2, 4, 5, 6, 10, 24, 25, 26, 27, 28, 29, 30, 31, 32, 33] [4, 5, 13, 14, 15, 16, 17, 18, 19, 20, 21, 22, 23, 24, 37, 38, 39, 40] → Q e A' → Q' e A') → rec i a b c A Q') {Q Q' : cS → Prop}  : ∀ (m : Nat) (s0 : cS) (x2 : Int) (x3 : Int) (x4 : Int) (x5 : Int), (∀ (A' : cS), ySm s0 A' [1, 2, 4, 5, 6, 10, 24, 25, 26, 27, 28, 29, 30, 31, 32, 33] [4, 5, 13, 14, 15, 16, 17, 18, 19, 20, 21, 22, 23, 24, 37, 38, 39, 40] → Q A' → Q' A') → wc_Coder_assignment_50 rec Q  m s0 x2 x3 x4 x5 → wc_Coder_assignment_50 rec Q'  m s0 x2 x3 x4 x5 := by
  intro m
  induction m with
  | zero => intro s0 x2 x3 x4 x5 hq  hw; exact hw
  | succ m ih => intro s0 x2 x3 x4 x5 hq  hw; exact ffb_Coder_assignment_50 hrec hq  (fun A' y0 y1 y2 y3 f1 q => ih A' y0 y1 y2 y3 (fun A' f q => hq A' (f1.tr f rfl rfl) q)  q) hw
theorem ffb_Coder_assignment_24 {rec : Nat → Int → Int → Int → cS → (Int → cS → Prop) → Prop} (hrec : ∀ (i : Nat) (a b c : Int) (A : cS) (Q Q' : Int → cS → Prop), rec i a b c A Q → (∀ (e : Int) (A' : cS), ySm A A' [1, 2, 4, 5, 6, 10, 24, 25, 26, 27, 28, 29, 30, 31, 32, 33] [4, 5, 13, 14, 15, 16, 17, 18, 19, 20, 21, 22, 23, 24, 37, 38, 39, 40] → Q e A' → Q' e A') → rec i a b c A Q') {Q Q' : cS → Prop} {k24 k24' : cS → Int → Int → Int → Int → Prop} {s0 : cS} {x2 : Int} {x3 : Int} {x4 : Int} {x5 : Int} (hq : ∀ (A' : cS), ySm s0 A' [1, 2, 4, 5, 6, 10, 24, 25, 26, 27, 28, 29, 30, 31, 32, 33] [4, 5, 13, 14, 15, 16, 17, 18, 19, 20, 21, 22, 23, 24, 37, 38, 39, 40] → Q A' → Q' A') (fk24 : ∀ (A' : cS) (x0 : Int) (x1 : Int) (x2 : Int) (x3 : Int), ySm s0 A' [1, 2, 4, 5, 6, 10, 24, 25, 26, 27, 28, 29, 30, 31, 32, 33] [4, 5, 13, 14, 15, 16, 17, 18, 19, 20, 21, 22, 23, 24, 37, 38, 39, 40] → k24 A' x0 x1 x2 x3 → k24' A' x0 x1 x2 x3) (hw : wc_Coder_assignment_24B rec Q k24 s0 x2 x3 x4 x5) : wc_Coder_assignment_24B rec Q' k24' s0 x2 x3 x4 x5 := by
  unfold wc_Coder_assignment_24B at hw ⊢
  refine ⟨fun c1 => ?_, fun c1 => ?_⟩
  · have h2 := hw.1 c1
    obtain ⟨m3, h4⟩ := h2
    exact ⟨m3, ffl_Coder_assignment_500 hrec m3 _ _ _ _ _ (fun A' f q => hq A' (ySm.rf.tr f rfl rfl) q)  h4⟩
  · have h5 := hw.2 c1
    refine ffm_Tree_next h5 (fun r6 A7 f1 h13 => ?_)
    obtain ⟨o14, h15⟩ := h13
    refine ⟨o14, ?_⟩
    exact fk24 _ _ _ _ _ (ySm.rf.tr f1 rfl rfl) h15
theorem ffl_Coder_assignment_240 {rec : Nat → Int → Int → Int → cS → (Int → cS → Prop) → Prop} (hrec : ∀ (i : Nat) (a b c : Int) (A : cS) (Q Q' : Int → cS → Prop), rec i a b c A Q → (∀ (e : Int) (A' : cS), ySm A A' [1, 2, 4, 5, 6, 10, 24, 25, 26, 27, 28, 29, 30, 31, 32, 33] [4, 5, 13, 14, 15, 16, 17, 18, 19, 20, 21, 22, 23, 24, 37, 38, 39, 40] → Q e A' → Q' e A') → rec i a b c A Q') {Q Q' : cS → Prop}  : ∀ (m : Nat) (s0 : cS) (x2 : Int) (x3 : Int) (x4 : Int) (x5 : Int), (∀ (A' : cS), ySm s0 A' [1, 2, 4, 5, 6, 10, 24, 25, 26, 27, 28, 29, 30, 31, 32, 33] [4, 5, 13, 14, 15, 16, 17, 18, 19, 20, 21, 22, 23, 24, 37, 38, 39, 40] → Q A' → Q' A') → wc_Coder_assignment_24 rec Q  m s0 x2 x3 x4 x5 → wc_Coder_assignment_24 rec Q'  m s0 x2 x3 x4 x5 := by
  intro m
  induction m with
  | zero => intro s0 x2 x3 x4 x5 hq  hw; exact hw
  | succ m ih => intro s0 x2 x3 x4 x5 hq  hw; exact ffb_Coder_assignment_24 hrec hq  (fun A' y0 y1 y2 y3 f1 q => ih A' y0 y1 y2 y3 (fun A' f q => hq A' (f1.tr f rfl rfl) q)  q) hw
theorem ffm_Coder_assignment {rec : Nat → Int → Int → Int → cS → (Int → cS → Prop) → Prop} (hrec : ∀ (i : Nat) (a b c : Int) (A : cS) (Q Q' : Int → cS → Prop), rec i a b c A Q → (∀ (e : Int) (A' : cS), ySm A A' [1, 2, 4, 5, 6, 10, 24, 25, 26, 27, 28, 29, 30, 31, 32, 33] [4, 5, 13, 14, 15, 16, 17, 18, 19, 20, 21, 22, 23, 24, 37, 38, 39, 40] → Q e A' → Q' e A') → rec i a b c A Q') {s0 : cS} {a0 : Int} {Q Q' : cS → Prop} (hw : wc_Coder_assignment rec s0 a0 Q) (hq : ∀ (A' : cS), ySm s0 A' [1, 2, 4, 5, 6, 10, 24, 25, 26, 27, 28, 29, 30, 31, 32, 33] [4, 5, 13, 14, 15, 16, 17, 18, 19, 20, 21, 22, 23, 24, 37, 38, 39, 40] → Q A' → Q' A') : wc_Coder_assignment rec s0 a0 Q' := by
  unfold wc_Coder_assignment at hw ⊢
  refine ffm_Tree_data hw (fun r1 A2 f1 h8 => ?_)
  refine ffm_Tree_first h8 (fun r9 A10 f2 h16 => ?_)
  obtain ⟨m17, h18⟩ := h16
  exact ⟨m17, ffl_Coder_assignment_240 hrec m17 _ _ _ _ _ (fun A' f q => hq A' (((ySm.rf.tr f1 rfl rfl).tr f2 rfl rfl).tr f rfl rfl) q)  h18⟩
theorem ffj_Coder_conditional_46 {rec : Nat → Int → Int → Int → cS → (Int → cS → Prop) → Prop} (hrec : ∀ (i : Nat) (a b c : Int) (A : cS) (Q Q' : Int → cS → Prop), rec i a b c A Q → (∀ (e : Int) (A' : cS), ySm A A' [1, 2, 4, 5, 6, 10, 24, 25, 26, 27, 28, 29, 30, 31, 32, 33] [4, 5, 13, 14, 15, 16, 17, 18, 19, 20, 21, 22, 23, 24, 37, 38, 39, 40] → Q e A' → Q' e A') → rec i a b c A Q') {Q Q' : cS → Prop}  {s0 : cS} {x1 : Int} {x3 : Int} {y0 : Int} (hq : ∀ (A' : cS), ySm s0 A' [1, 2, 4, 5, 6, 10, 24, 25, 26, 27, 28, 29, 30, 31, 32, 33] [4, 5, 13, 14, 15, 16, 17, 18, 19, 20, 21, 22, 23, 24, 37, 38, 39, 40] → Q A' → Q' A')  (hw : wc_Coder_conditional_46 rec Q  s0 x1 x3 y0) : wc_Coder_conditional_46 rec Q'  s0 x1 x3 y0 := by
  unfold wc_Coder_conditional_46 at hw ⊢
  refine ffm_Coder_emit hw (fun r1 A2 f1 h8 => ?_)
  refine hrec _ _ _ _ _ _ _ h8 (fun r9 A10 f2 h16 => ?_)
  refine ffm_Tree_kind h16 (fun r17 A18 f3 h24 => ?_)
  refine ⟨fun c25 => ?_, fun c25 => ?_⟩
  · have h26 := h24.1 c25
    refine ffm_Program_land h26 (fun A28 f4 h34 => ?_)
    exact hq _ ((((ySm.rf.tr f1 rfl rfl).tr f2 rfl rfl).tr f3 rfl rfl).tr f4 rfl rfl) h34
  · have h35 := h24.2 c25
    refine ffm_Coder_emit h35 (fun r36 A37 f5 h43 => ?_)
    refine ffm_Program_land h43 (fun A45 f6 h51 => ?_)
    refine ffm_Tree_next h51 (fun r52 A53 f7 h59 => ?_)
    refine hrec _ _ _ _ _ _ _ h59 (fun r60 A61 f8 h67 => ?_)
    refine ffm_Program_land h67 (fun A69 f9 h75 => ?_)
    exact hq _ ((((((((ySm.rf.tr f1 rfl rfl).tr f2 rfl rfl).tr f3 rfl rfl).tr f5 rfl rfl).tr f6 rfl rfl).tr f7 rfl rfl).tr f8 rfl rfl).tr f9 rfl rfl) h75
theorem ffm_Coder_conditional {rec : Nat → Int → Int → Int → cS → (Int → cS → Prop) → Prop} (hrec : ∀ (i : Nat) (a b c : Int) (A : cS) (Q Q' : Int → cS → Prop), rec i a b c A Q → (∀ (e : Int) (A' : cS), ySm A A' [1, 2, 4, 5, 6, 10, 24, 25, 26, 27, 28, 29, 30, 31, 32, 33] [4, 5, 13, 14, 15, 16, 17, 18, 19, 20, 21, 22, 23, 24, 37, 38, 39, 40] → Q e A' → Q' e A') → rec i a b c A Q') {s0 : cS} {a0 : Int} {Q Q' : cS → Prop} (hw : wc_Coder_conditional rec s0 a0 Q) (hq : ∀ (A' : cS), ySm s0 A' [1, 2, 4, 5, 6, 10, 24, 25, 26, 27, 28, 29, 30, 31, 32, 33] [4, 5, 13, 14, 15, 16, 17, 18, 19, 20, 21, 22, 23, 24, 37, 38, 39, 40] → Q A' → Q' A') : wc_Coder_conditional rec s0 a0 Q' := by
  unfold wc_Coder_conditional at hw ⊢
  refine ffm_Tree_first hw (fun r1 A2 f1 h8 => ?_)
  refine ffm_Tree_next h8 (fun r9 A10 f2 h16 => ?_)
  refine hrec _ _ _ _ _ _ _ h16 (fun r17 A18 f3 h24 => ?_)
  refine ffm_Tree_kind h24 (fun r25 A26 f4 h32 => ?_)
  refine ⟨fun c33 => ?_, fun c33 => ?_⟩
  · have h34 := h32.1 c33
    exact ffj_Coder_conditional_46 hrec (fun A' f q => hq A' (((((ySm.rf.tr f1 rfl rfl).tr f2 rfl rfl).tr f3 rfl rfl).tr f4 rfl rfl).tr f rfl rfl) q)  h34
  · have h35 := h32.2 c33
    exact ffj_Coder_conditional_46 hrec (fun A' f q => hq A' (((((ySm.rf.tr f1 rfl rfl).tr f2 rfl rfl).tr f3 rfl rfl).tr f4 rfl rfl).tr f rfl rfl) q)  h35
theorem ffj_Coder_asking_67 {rec : Nat → Int → Int → Int → cS → (Int → cS → Prop) → Prop} (hrec : ∀ (i : Nat) (a b c : Int) (A : cS) (Q Q' : Int → cS → Prop), rec i a b c A Q → (∀ (e : Int) (A' : cS), ySm A A' [1, 2, 4, 5, 6, 10, 24, 25, 26, 27, 28, 29, 30, 31, 32, 33] [4, 5, 13, 14, 15, 16, 17, 18, 19, 20, 21, 22, 23, 24, 37, 38, 39, 40] → Q e A' → Q' e A') → rec i a b c A Q') {Q Q' : cS → Prop}  {s0 : cS} {x2 : Int} {x3 : Int} {x4 : Int} {x5 : Int} {y0 : Int} (hq : ∀ (A' : cS), ySm s0 A' [1, 2, 4, 5, 6, 10, 24, 25, 26, 27, 28, 29, 30, 31, 32, 33] [4, 5, 13, 14, 15, 16, 17, 18, 19, 20, 21, 22, 23, 24, 37, 38, 39, 40] → Q A' → Q' A')  (hw : wc_Coder_asking_67 rec Q  s0 x2 x3 x4 x5 y0) : wc_Coder_asking_67 rec Q'  s0 x2 x3 x4 x5 y0 := by
  unfold wc_Coder_asking_67 at hw ⊢
  refine ffm_Coder_emit hw (fun r1 A2 f1 h8 => ?_)
  refine ffm_Tree_next h8 (fun r31 A32 f2 h38 => ?_)
  refine hrec _ _ _ _ _ _ _ h38 (fun r39 A40 f3 h46 => ?_)
  refine ffm_Coder_emit h46 (fun r47 A48 f4 h54 => ?_)
  refine ffm_Program_landAt h54 (fun A56 f5 h62 => ?_)
  refine ffm_Program_land h62 (fun A64 f6 h70 => ?_)
  exact hq _ ((((((((((ySm.rf.tr f1 rfl rfl).pv rfl).pv rfl).tr f2 rfl rfl).tr f3 rfl rfl).tr f4 rfl rfl).tr f5 rfl rfl).tr f6 rfl rfl).pv rfl).pv rfl) h70
theorem ffm_Coder_asking {rec : Nat → Int → Int → Int → cS → (Int → cS → Prop) → Prop} (hrec : ∀ (i : Nat) (a b c : Int) (A : cS) (Q Q' : Int → cS → Prop), rec i a b c A Q → (∀ (e : Int) (A' : cS), ySm A A' [1, 2, 4, 5, 6, 10, 24, 25, 26, 27, 28, 29, 30, 31, 32, 33] [4, 5, 13, 14, 15, 16, 17, 18, 19, 20, 21, 22, 23, 24, 37, 38, 39, 40] → Q e A' → Q' e A') → rec i a b c A Q') {s0 : cS} {a0 : Int} {Q Q' : cS → Prop} (hw : wc_Coder_asking rec s0 a0 Q) (hq : ∀ (A' : cS), ySm s0 A' [1, 2, 4, 5, 6, 10, 24, 25, 26, 27, 28, 29, 30, 31, 32, 33] [4, 5, 13, 14, 15, 16, 17, 18, 19, 20, 21, 22, 23, 24, 37, 38, 39, 40] → Q A' → Q' A') : wc_Coder_asking rec s0 a0 Q' := by
  unfold wc_Coder_asking at hw ⊢
  refine ffm_Tree_first hw (fun r1 A2 f1 h8 => ?_)
  refine ffm_Program_here h8 (fun r9 A10 f2 h16 => ?_)
  refine ffm_Coder_emit h16 (fun r17 A18 f3 h24 => ?_)
  refine hrec _ _ _ _ _ _ _ h24 (fun r25 A26 f4 h32 => ?_)
  refine ffm_Tree_kind h32 (fun r33 A34 f5 h40 => ?_)
  refine ⟨fun c41 => ?_, fun c41 => ?_⟩
  · have h42 := h40.1 c41
    exact ffj_Coder_asking_67 hrec (fun A' f q => hq A' ((((((ySm.rf.tr f1 rfl rfl).tr f2 rfl rfl).tr f3 rfl rfl).tr f4 rfl rfl).tr f5 rfl rfl).tr f rfl rfl) q)  h42
  · have h43 := h40.2 c41
    exact ffj_Coder_asking_67 hrec (fun A' f q => hq A' ((((((ySm.rf.tr f1 rfl rfl).tr f2 rfl rfl).tr f3 rfl rfl).tr f4 rfl rfl).tr f5 rfl rfl).tr f rfl rfl) q)  h43
theorem ffb_Coder_repeats_59 {rec : Nat → Int → Int → Int → cS → (Int → cS → Prop) → Prop} (hrec : ∀ (i : Nat) (a b c : Int) (A : cS) (Q Q' : Int → cS → Prop), rec i a b c A Q → (∀ (e : Int) (A' : cS), ySm A A' [1, 2, 4, 5, 6, 10, 24, 25, 26, 27, 28, 29, 30, 31, 32, 33] [4, 5, 13, 14, 15, 16, 17, 18, 19, 20, 21, 22, 23, 24, 37, 38, 39, 40] → Q e A' → Q' e A') → rec i a b c A Q') {Q Q' : cS → Prop} {k59 k59' : cS → Int → Int → Int → Int → Int → Prop} {s0 : cS} {x2 : Int} {x3 : Int} {x5 : Int} {x6 : Int} {x7 : Int} (hq : ∀ (A' : cS), ySm s0 A' [1, 2, 4, 5, 6, 10, 24, 25, 26, 27, 28, 29, 30, 31, 32, 33] [4, 5, 13, 14, 15, 16, 17, 18, 19, 20, 21, 22, 23, 24, 37, 38, 39, 40] → Q A' → Q' A') (fk59 : ∀ (A' : cS) (x0 : Int) (x1 : Int) (x2 : Int) (x3 : Int) (x4 : Int), ySm s0 A' [1, 2, 4, 5, 6, 10, 24, 25, 26, 27, 28, 29, 30, 31, 32, 33] [4, 5, 13, 14, 15, 16, 17, 18, 19, 20, 21, 22, 23, 24, 37, 38, 39, 40] → k59 A' x0 x1 x2 x3 x4 → k59' A' x0 x1 x2 x3 x4) (hw : wc_Coder_repeats_59B rec Q k59 s0 x2 x3 x5 x6 x7) : wc_Coder_repeats_59B rec Q' k59' s0 x2 x3 x5 x6 x7 := by
  unfold wc_Coder_repeats_59B at hw ⊢
  refine ⟨fun c1 => ?_, fun c1 => ?_⟩
  · have h2 := hw.1 c1
    exact hq _ ((ySm.rf.pv rfl).pv rfl) h2
  · have h25 := hw.2 c1
    refine ⟨fun c26 => ?_, fun c26 => ?_⟩
    · have h27 := h25.1 c26
      exact hq _ ((ySm.rf.pv rfl).pv rfl) h27
    · have h50 := h25.2 c26
      refine ffm_Program_land h50 (fun A52 f1 h58 => ?_)
      refine ffm_Coder_emit h58 (fun r59 A60 f2 h66 => ?_)
      refine ffm_Tree_first h66 (fun r67 A68 f3 h74 => ?_)
      refine ⟨fun c75 => ?_, fun c75 => ?_⟩
      · have h76 := h74.1 c75
        refine hrec _ _ _ _ _ _ _ h76 (fun r77 A78 f4 h84 => ?_)
        refine ffm_Tree_kind h84 (fun r85 A86 f5 h92 => ?_)
        refine ⟨fun c93 => ?_, fun c93 => ?_⟩
        · have h94 := h92.1 c93
          refine ffm_Coder_emit h94 (fun r95 A96 f6 h102 => ?_)
          refine ffm_Program_land h102 (fun A104 f7 h110 => ?_)
          refine ffm_Tree_next h110 (fun r133 A134 f8 h140 => ?_)
          obtain ⟨o141, h142⟩ := h140
          refine ⟨o141, ?_⟩
          exact fk59 _ _ _ _ _ _ ((((((((((ySm.rf.tr f1 rfl rfl).tr f2 rfl rfl).tr f3 rfl rfl).tr f4 rfl rfl).tr f5 rfl rfl).tr f6 rfl rfl).tr f7 rfl rfl).pv rfl).pv rfl).tr f8 rfl rfl) h142
        · have h143 := h92.2 c93
          refine ffm_Coder_emit h143 (fun r144 A145 f9 h151 => ?_)
          refine ffm_Program_land h151 (fun A153 f10 h159 => ?_)
          refine ffm_Tree_next h159 (fun r182 A183 f11 h189 => ?_)
          obtain ⟨o190, h191⟩ := h189
          refine ⟨o190, ?_⟩
          exact fk59 _ _ _ _ _ _ ((((((((((ySm.rf.tr f1 rfl rfl).tr f2 rfl rfl).tr f3 rfl rfl).tr f4 rfl rfl).tr f5 rfl rfl).tr f9 rfl rfl).tr f10 rfl rfl).pv rfl).pv rfl).tr f11 rfl rfl) h191
      · have h192 := h74.2 c75
        refine ffm_Coder_emit h192 (fun r193 A194 f12 h200 => ?_)
        refine ffm_Program_land h200 (fun A202 f13 h208 => ?_)
        refine ffm_Tree_next h208 (fun r231 A232 f14 h238 => ?_)
        obtain ⟨o239, h240⟩ := h238
        refine ⟨o239, ?_⟩
        exact fk59 _ _ _ _ _ _ ((((((((ySm.rf.tr f1 rfl rfl).tr f2 rfl rfl).tr f3 rfl rfl).tr f12 rfl rfl).tr f13 rfl rfl).pv rfl).pv rfl).tr f14 rfl rfl) h240
theorem ffl_Coder_repeats_590 {rec : Nat → Int → Int → Int → cS → (Int → cS → Prop) → Prop} (hrec : ∀ (i : Nat) (a b c : Int) (A : cS) (Q Q' : Int → cS → Prop), rec i a b c A Q → (∀ (e : Int) (A' : cS), ySm A A' [1, 2, 4, 5, 6, 10, 24, 25, 26, 27, 28, 29, 30, 31, 32, 33] [4, 5, 13, 14, 15, 16, 17, 18, 19, 20, 21, 22, 23, 24, 37, 38, 39, 40] → Q e A' → Q' e A') → rec i a b c A Q') {Q Q' : cS → Prop}  : ∀ (m : Nat) (s0 : cS) (x2 : Int) (x3 : Int) (x5 : Int) (x6 : Int) (x7 : Int), (∀ (A' : cS), ySm s0 A' [1, 2, 4, 5, 6, 10, 24, 25, 26, 27, 28, 29, 30, 31, 32, 33] [4, 5, 13, 14, 15, 16, 17, 18, 19, 20, 21, 22, 23, 24, 37, 38, 39, 40] → Q A' → Q' A') → wc_Coder_repeats_59 rec Q  m s0 x2 x3 x5 x6 x7 → wc_Coder_repeats_59 rec Q'  m s0 x2 x3 x5 x6 x7 := by
  intro m
  induction m with
  | zero => intro s0 x2 x3 x5 x6 x7 hq  hw; exact hw
  | succ m ih => intro s0 x2 x3 x5 x6 x7 hq  hw; exact ffb_Coder_repeats_59 hrec hq  (fun A' y0 y1 y2 y3 y4 f1 q => ih A' y0 y1 y2 y3 y4 (fun A' f q => hq A' (f1.tr f rfl rfl) q)  q) hw
theorem ffm_Coder_repeats {rec : Nat → Int → Int → Int → cS → (Int → cS → Prop) → Prop} (hrec : ∀ (i : Nat) (a b c : Int) (A : cS) (Q Q' : Int → cS → Prop), rec i a b c A Q → (∀ (e : Int) (A' : cS), ySm A A' [1, 2, 4, 5, 6, 10, 24, 25, 26, 27, 28, 29, 30, 31, 32, 33] [4, 5, 13, 14, 15, 16, 17, 18, 19, 20, 21, 22, 23, 24, 37, 38, 39, 40] → Q e A' → Q' e A') → rec i a b c A Q') {s0 : cS} {a0 : Int} {Q Q' : cS → Prop} (hw : wc_Coder_repeats rec s0 a0 Q) (hq : ∀ (A' : cS), ySm s0 A' [1, 2, 4, 5, 6, 10, 24, 25, 26, 27, 28, 29, 30, 31, 32, 33] [4, 5, 13, 14, 15, 16, 17, 18, 19, 20, 21, 22, 23, 24, 37, 38, 39, 40] → Q A' → Q' A') : wc_Coder_repeats rec s0 a0 Q' := by
  unfold wc_Coder_repeats at hw ⊢
  refine ffm_Tree_first hw (fun r1 A2 f1 h8 => ?_)
  refine ffm_Program_here h8 (fun r9 A10 f2 h16 => ?_)
  refine hrec _ _ _ _ _ _ _ h16 (fun r39 A40 f3 h46 => ?_)
  refine ffm_Tree_next h46 (fun r47 A48 f4 h54 => ?_)
  obtain ⟨m55, h56⟩ := h54
  exact ⟨m55, ffl_Coder_repeats_590 hrec m55 _ _ _ _ _ _ (fun A' f q => hq A' (((((((ySm.rf.tr f1 rfl rfl).tr f2 rfl rfl).pv rfl).pv rfl).tr f3 rfl rfl).tr f4 rfl rfl).tr f rfl rfl) q)  h56⟩
theorem ffj_Coder_counting_199 {rec : Nat → Int → Int → Int → cS → (Int → cS → Prop) → Prop} (hrec : ∀ (i : Nat) (a b c : Int) (A : cS) (Q Q' : Int → cS → Prop), rec i a b c A Q → (∀ (e : Int) (A' : cS), ySm A A' [1, 2, 4, 5, 6, 10, 24, 25, 26, 27, 28, 29, 30, 31, 32, 33] [4, 5, 13, 14, 15, 16, 17, 18, 19, 20, 21, 22, 23, 24, 37, 38, 39, 40] → Q e A' → Q' e A') → rec i a b c A Q') {Q Q' : cS → Prop}  {s0 : cS} {x2 : Int} {x3 : Int} {x4 : Int} {x6 : Int} {x7 : Int} {x8 : Int} {y0 : Int} {y1 : Int} (hq : ∀ (A' : cS), ySm s0 A' [1, 2, 4, 5, 6, 10, 24, 25, 26, 27, 28, 29, 30, 31, 32, 33] [4, 5, 13, 14, 15, 16, 17, 18, 19, 20, 21, 22, 23, 24, 37, 38, 39, 40] → Q A' → Q' A')  (hw : wc_Coder_counting_199 rec Q  s0 x2 x3 x4 x6 x7 x8 y0 y1) : wc_Coder_counting_199 rec Q'  s0 x2 x3 x4 x6 x7 x8 y0 y1 := by
  unfold wc_Coder_counting_199 at hw ⊢
  obtain ⟨o1, h2⟩ := hw
  refine ⟨o1, ?_⟩
  refine ffm_Coder_emit h2 (fun r3 A4 f1 h10 => ?_)
  refine ffm_Coder_emit h10 (fun r11 A12 f2 h18 => ?_)
  refine ffm_Tree_next h18 (fun r41 A42 f3 h48 => ?_)
  refine hrec _ _ _ _ _ _ _ h48 (fun r49 A50 f4 h56 => ?_)
  refine ffm_Program_land h56 (fun A58 f5 h64 => ?_)
  refine ffm_Coder_emit h64 (fun r65 A66 f6 h72 => ?_)
  refine ffm_Coder_emit h72 (fun r73 A74 f7 h80 => ?_)
  refine ffm_Coder_emit h80 (fun r81 A82 f8 h88 => ?_)
  refine ffm_Coder_emit h88 (fun r89 A90 f9 h96 => ?_)
  refine ffm_Coder_emit h96 (fun r97 A98 f10 h104 => ?_)
  refine ffm_Program_land h104 (fun A106 f11 h112 => ?_)
  refine ffm_Scope_close h112 (fun A114 f12 h120 => ?_)
  exact hq _ (((((((((((((((((ySm.rf.tr f1 rfl rfl).tr f2 rfl rfl).pv rfl).pv rfl).tr f3 rfl rfl).tr f4 rfl rfl).tr f5 rfl rfl).tr f6 rfl rfl).tr f7 rfl rfl).tr f8 rfl rfl).tr f9 rfl rfl).tr f10 rfl rfl).tr f11 rfl rfl).tr f12 rfl rfl).pv rfl).pv rfl).pv rfl) h120
theorem ffj_Coder_counting_68 {rec : Nat → Int → Int → Int → cS → (Int → cS → Prop) → Prop} (hrec : ∀ (i : Nat) (a b c : Int) (A : cS) (Q Q' : Int → cS → Prop), rec i a b c A Q → (∀ (e : Int) (A' : cS), ySm A A' [1, 2, 4, 5, 6, 10, 24, 25, 26, 27, 28, 29, 30, 31, 32, 33] [4, 5, 13, 14, 15, 16, 17, 18, 19, 20, 21, 22, 23, 24, 37, 38, 39, 40] → Q e A' → Q' e A') → rec i a b c A Q') {Q Q' : cS → Prop}  {s0 : cS} {x1 : Int} {x2 : Int} {x3 : Int} {x4 : Int} {x5 : Int} {x6 : Int} {y0 : Int} (hq : ∀ (A' : cS), ySm s0 A' [1, 2, 4, 5, 6, 10, 24, 25, 26, 27, 28, 29, 30, 31, 32, 33] [4, 5, 13, 14, 15, 16, 17, 18, 19, 20, 21, 22, 23, 24, 37, 38, 39, 40] → Q A' → Q' A')  (hw : wc_Coder_counting_68 rec Q  s0 x1 x2 x3 x4 x5 x6 y0) : wc_Coder_counting_68 rec Q'  s0 x1 x2 x3 x4 x5 x6 y0 := by
  unfold wc_Coder_counting_68 at hw ⊢
  refine hrec _ _ _ _ _ _ _ hw (fun r1 A2 f1 h8 => ?_)
  refine hrec _ _ _ _ _ _ _ h8 (fun r9 A10 f2 h16 => ?_)
  obtain ⟨o17, h18⟩ := h16
  refine ⟨o17, ?_⟩
  refine ffm_Coder_emit h18 (fun r19 A20 f3 h26 => ?_)
  refine ffm_Coder_emit h26 (fun r27 A28 f4 h34 => ?_)
  refine ffm_Coder_take h34 (fun A36 f5 h42 => ?_)
  refine ffm_Scope_open h42 (fun A44 f6 h50 => ?_)
  refine ffm_Tree_data h50 (fun r51 A52 f7 h58 => ?_)
  refine ffm_Tree_place h58 (fun r59 A60 f8 h66 => ?_)
  refine ffm_Scope_declare h66 (fun r67 A68 f9 h74 => ?_)
  refine ffm_Program_here h74 (fun r75 A76 f10 h82 => ?_)
  refine ffm_Coder_emit h82 (fun r83 A84 f11 h90 => ?_)
  refine ffm_Coder_emit h90 (fun r91 A92 f12 h98 => ?_)
  refine ffm_Coder_emit h98 (fun r99 A100 f13 h106 => ?_)
  refine ⟨fun c107 => ?_, fun c107 => ?_⟩
  · have h108 := h106.1 c107
    exact ffj_Coder_counting_199 hrec (fun A' f q => hq A' ((((((((((((((ySm.rf.tr f1 rfl rfl).tr f2 rfl rfl).tr f3 rfl rfl).tr f4 rfl rfl).tr f5 rfl rfl).tr f6 rfl rfl).tr f7 rfl rfl).tr f8 rfl rfl).tr f9 rfl rfl).tr f10 rfl rfl).tr f11 rfl rfl).tr f12 rfl rfl).tr f13 rfl rfl).tr f rfl rfl) q)  h108
  · have h109 := h106.2 c107
    exact ffj_Coder_counting_199 hrec (fun A' f q => hq A' ((((((((((((((ySm.rf.tr f1 rfl rfl).tr f2 rfl rfl).tr f3 rfl rfl).tr f4 rfl rfl).tr f5 rfl rfl).tr f6 rfl rfl).tr f7 rfl rfl).tr f8 rfl rfl).tr f9 rfl rfl).tr f10 rfl rfl).tr f11 rfl rfl).tr f12 rfl rfl).tr f13 rfl rfl).tr f rfl rfl) q)  h109
theorem ffm_Coder_counting {rec : Nat → Int → Int → Int → cS → (Int → cS → Prop) → Prop} (hrec : ∀ (i : Nat) (a b c : Int) (A : cS) (Q Q' : Int → cS → Prop), rec i a b c A Q → (∀ (e : Int) (A' : cS), ySm A A' [1, 2, 4, 5, 6, 10, 24, 25, 26, 27, 28, 29, 30, 31, 32, 33] [4, 5, 13, 14, 15, 16, 17, 18, 19, 20, 21, 22, 23, 24, 37, 38, 39, 40] → Q e A' → Q' e A') → rec i a b c A Q') {s0 : cS} {a0 : Int} {Q Q' : cS → Prop} (hw : wc_Coder_counting rec s0 a0 Q) (hq : ∀ (A' : cS), ySm s0 A' [1, 2, 4, 5, 6, 10, 24, 25, 26, 27, 28, 29, 30, 31, 32, 33] [4, 5, 13, 14, 15, 16, 17, 18, 19, 20, 21, 22, 23, 24, 37, 38, 39, 40] → Q A' → Q' A') : wc_Coder_counting rec s0 a0 Q' := by
  unfold wc_Coder_counting at hw ⊢
  refine ffm_Tree_first hw (fun r1 A2 f1 h8 => ?_)
  refine ffm_Tree_next h8 (fun r9 A10 f2 h16 => ?_)
  refine ffm_Tree_extra h16 (fun r17 A18 f3 h24 => ?_)
  refine ⟨fun c25 => ?_, fun c25 => ?_⟩
  · have h26 := h24.1 c25
    refine ffm_Tree_extra h26 (fun r27 A28 f4 h34 => ?_)
    refine ffm_Constants_number h34 (fun r35 A36 f5 h42 => ?_)
    exact ffj_Coder_counting_68 hrec (fun A' f q => hq A' ((((((ySm.rf.tr f1 rfl rfl).tr f2 rfl rfl).tr f3 rfl rfl).tr f4 rfl rfl).tr f5 rfl rfl).tr f rfl rfl) q)  h42
  · have h43 := h24.2 c25
    exact ffj_Coder_counting_68 hrec (fun A' f q => hq A' ((((ySm.rf.tr f1 rfl rfl).tr f2 rfl rfl).tr f3 rfl rfl).tr f rfl rfl) q)  h43
theorem ffb_Coder_switching_106 {rec : Nat → Int → Int → Int → cS → (Int → cS → Prop) → Prop} (hrec : ∀ (i : Nat) (a b c : Int) (A : cS) (Q Q' : Int → cS → Prop), rec i a b c A Q → (∀ (e : Int) (A' : cS), ySm A A' [1, 2, 4, 5, 6, 10, 24, 25, 26, 27, 28, 29, 30, 31, 32, 33] [4, 5, 13, 14, 15, 16, 17, 18, 19, 20, 21, 22, 23, 24, 37, 38, 39, 40] → Q e A' → Q' e A') → rec i a b c A Q') {Q Q' : cS → Prop} {k106 k106' : cS → Int → Int → Int → Int → Prop} {s0 : cS} {x2 : Int} {x3 : Int} {x4 : Int} {x7 : Int} (hq : ∀ (A' : cS), ySm s0 A' [1, 2, 4, 5, 6, 10, 24, 25, 26, 27, 28, 29, 30, 31, 32, 33] [4, 5, 13, 14, 15, 16, 17, 18, 19, 20, 21, 22, 23, 24, 37, 38, 39, 40] → Q A' → Q' A') (fk106 : ∀ (A' : cS) (x0 : Int) (x1 : Int) (x2 : Int) (x3 : Int), ySm s0 A' [1, 2, 4, 5, 6, 10, 24, 25, 26, 27, 28, 29, 30, 31, 32, 33] [4, 5, 13, 14, 15, 16, 17, 18, 19, 20, 21, 22, 23, 24, 37, 38, 39, 40] → k106 A' x0 x1 x2 x3 → k106' A' x0 x1 x2 x3) (hw : wc_Coder_switching_106B rec Q k106 s0 x2 x3 x4 x7) : wc_Coder_switching_106B rec Q' k106' s0 x2 x3 x4 x7 := by
  unfold wc_Coder_switching_106B at hw ⊢
  refine ⟨fun c1 => ?_, fun c1 => ?_⟩
  · have h2 := hw.1 c1
    refine ffm_Coder_emit h2 (fun r3 A4 f1 h10 => ?_)
    refine ⟨fun c11 => ?_, fun c11 => ?_⟩
    · have h12 := h10.1 c11
      refine ffm_Program_land h12 (fun A14 f2 h20 => ?_)
      exact hq _ ((((((ySm.rf.tr f1 rfl rfl).tr f2 rfl rfl).cut rfl).pv rfl).pv rfl).pv rfl) h20
    · have h58 := h10.2 c11
      refine ffm_Coder_emit h58 (fun r59 A60 f3 h66 => ?_)
      refine ffm_Program_land h66 (fun A68 f4 h74 => ?_)
      exact hq _ (((((((ySm.rf.tr f1 rfl rfl).tr f3 rfl rfl).tr f4 rfl rfl).cut rfl).pv rfl).pv rfl).pv rfl) h74
  · have h112 := hw.2 c1
    refine ffm_Coder_emit h112 (fun r113 A114 f5 h120 => ?_)
    obtain ⟨o121, h122⟩ := h120
    refine ⟨o121, ?_⟩
    refine ffm_Coder_emit h122 (fun r123 A124 f6 h130 => ?_)
    obtain ⟨o131, h132⟩ := h130
    refine ⟨o131, ?_⟩
    exact fk106 _ _ _ _ _ ((ySm.rf.tr f5 rfl rfl).tr f6 rfl rfl) h132
theorem ffl_Coder_switching_1060 {rec : Nat → Int → Int → Int → cS → (Int → cS → Prop) → Prop} (hrec : ∀ (i : Nat) (a b c : Int) (A : cS) (Q Q' : Int → cS → Prop), rec i a b c A Q → (∀ (e : Int) (A' : cS), ySm A A' [1, 2, 4, 5, 6, 10, 24, 25, 26, 27, 28, 29, 30, 31, 32, 33] [4, 5, 13, 14, 15, 16, 17, 18, 19, 20, 21, 22, 23, 24, 37, 38, 39, 40] → Q e A' → Q' e A') → rec i a b c A Q') {Q Q' : cS → Prop}  : ∀ (m : Nat) (s0 : cS) (x2 : Int) (x3 : Int) (x4 : Int) (x7 : Int), (∀ (A' : cS), ySm s0 A' [1, 2, 4, 5, 6, 10, 24, 25, 26, 27, 28, 29, 30, 31, 32, 33] [4, 5, 13, 14, 15, 16, 17, 18, 19, 20, 21, 22, 23, 24, 37, 38, 39, 40] → Q A' → Q' A') → wc_Coder_switching_106 rec Q  m s0 x2 x3 x4 x7 → wc_Coder_switching_106 rec Q'  m s0 x2 x3 x4 x7 := by
  intro m
  induction m with
  | zero => intro s0 x2 x3 x4 x7 hq  hw; exact hw
  | succ m ih => intro s0 x2 x3 x4 x7 hq  hw; exact ffb_Coder_switching_106 hrec hq  (fun A' y0 y1 y2 y3 f1 q => ih A' y0 y1 y2 y3 (fun A' f q => hq A' (f1.tr f rfl rfl) q)  q) hw
theorem ffm_Coder_switching {rec : Nat → Int → Int → Int → cS → (Int → cS → Prop) → Prop} (hrec : ∀ (i : Nat) (a b c : Int) (A : cS) (Q Q' : Int → cS → Prop), rec i a b c A Q → (∀ (e : Int) (A' : cS), ySm A A' [1, 2, 4, 5, 6, 10, 24, 25, 26, 27, 28, 29, 30, 31, 32, 33] [4, 5, 13, 14, 15, 16, 17, 18, 19, 20, 21, 22, 23, 24, 37, 38, 39, 40] → Q e A' → Q' e A') → rec i a b c A Q') {s0 : cS} {a0 : Int} {Q Q' : cS → Prop} (hw : wc_Coder_switching rec s0 a0 Q) (hq : ∀ (A' : cS), ySm s0 A' [1, 2, 4, 5, 6, 10, 24, 25, 26, 27, 28, 29, 30, 31, 32, 33] [4, 5, 13, 14, 15, 16, 17, 18, 19, 20, 21, 22, 23, 24, 37, 38, 39, 40] → Q A' → Q' A') : wc_Coder_switching rec s0 a0 Q' := by
  unfold wc_Coder_switching at hw ⊢
  refine ffm_Tree_first hw (fun r1 A2 f1 h8 => ?_)
  refine hrec _ _ _ _ _ _ _ h8 (fun r9 A10 f2 h16 => ?_)
  refine ffm_Coder_emit h16 (fun r17 A18 f3 h24 => ?_)
  refine ffm_Tree_next h24 (fun r58 A59 f4 h65 => ?_)
  refine hrec _ _ _ _ _ _ _ h65 (fun r66 A67 f5 h73 => ?_)
  refine ffm_Coder_emit h73 (fun r74 A75 f6 h81 => ?_)
  refine ffm_Program_land h81 (fun A94 f7 h100 => ?_)
  obtain ⟨m101, h102⟩ := h100
  exact ⟨m101, ffl_Coder_switching_1060 hrec m101 _ _ _ _ _ (fun A' f q => hq A' ((((((((((((ySm.rf.tr f1 rfl rfl).tr f2 rfl rfl).tr f3 rfl rfl).pv rfl).pv rfl).pv rfl).tr f4 rfl rfl).tr f5 rfl rfl).tr f6 rfl rfl).pv rfl).tr f7 rfl rfl).tr f rfl rfl) q)  h102⟩
theorem ffm_Coder_telling {rec : Nat → Int → Int → Int → cS → (Int → cS → Prop) → Prop} (hrec : ∀ (i : Nat) (a b c : Int) (A : cS) (Q Q' : Int → cS → Prop), rec i a b c A Q → (∀ (e : Int) (A' : cS), ySm A A' [1, 2, 4, 5, 6, 10, 24, 25, 26, 27, 28, 29, 30, 31, 32, 33] [4, 5, 13, 14, 15, 16, 17, 18, 19, 20, 21, 22, 23, 24, 37, 38, 39, 40] → Q e A' → Q' e A') → rec i a b c A Q') {s0 : cS} {a0 : Int} {Q Q' : cS → Prop} (hw : wc_Coder_telling rec s0 a0 Q) (hq : ∀ (A' : cS), ySm s0 A' [1, 2, 4, 5, 6, 10, 24, 25, 26, 27, 28, 29, 30, 31, 32, 33] [4, 5, 13, 14, 15, 16, 17, 18, 19, 20, 21, 22, 23, 24, 37, 38, 39, 40] → Q A' → Q' A') : wc_Coder_telling rec s0 a0 Q' := by
  unfold wc_Coder_telling at hw ⊢
  refine ffm_Tree_first hw (fun r1 A2 f1 h8 => ?_)
  refine hrec _ _ _ _ _ _ _ h8 (fun r9 A10 f2 h16 => ?_)
  refine ⟨fun c17 => ?_, fun c17 => ?_⟩
  · have h18 := h16.1 c17
    refine ffm_Coder_emit h18 (fun r19 A20 f3 h26 => ?_)
    exact hq _ ((((ySm.rf.tr f1 rfl rfl).tr f2 rfl rfl).tr f3 rfl rfl).pv rfl) h26
  · have h38 := h16.2 c17
    refine ffm_Tree_place h38 (fun r39 A40 f4 h46 => ?_)
    refine ffm_Program_blame h46 (fun A48 f5 h54 => ?_)
    exact hq _ ((((ySm.rf.tr f1 rfl rfl).tr f2 rfl rfl).tr f4 rfl rfl).tr f5 rfl rfl) h54
theorem ffj_Coder_expression_99 {rec : Nat → Int → Int → Int → cS → (Int → cS → Prop) → Prop} (hrec : ∀ (i : Nat) (a b c : Int) (A : cS) (Q Q' : Int → cS → Prop), rec i a b c A Q → (∀ (e : Int) (A' : cS), ySm A A' [1, 2, 4, 5, 6, 10, 24, 25, 26, 27, 28, 29, 30, 31, 32, 33] [4, 5, 13, 14, 15, 16, 17, 18, 19, 20, 21, 22, 23, 24, 37, 38, 39, 40] → Q e A' → Q' e A') → rec i a b c A Q') {Q Q' : cS → Prop} {k16 k16' : cS → Int → Int → Int → Int → Int → Prop} {s0 : cS} {x2 : Int} {x3 : Int} {x4 : Int} {x5 : Int} {x6 : Int} {x7 : Int} {x9 : Int} {y0 : Int} (hq : ∀ (A' : cS), ySm s0 A' [1, 2, 4, 5, 6, 10, 24, 25, 26, 27, 28, 29, 30, 31, 32, 33] [4, 5, 13, 14, 15, 16, 17, 18, 19, 20, 21, 22, 23, 24, 37, 38, 39, 40] → Q A' → Q' A') (fk16 : ∀ (A' : cS) (x0 : Int) (x1 : Int) (x2 : Int) (x3 : Int) (x4 : Int), ySm s0 A' [1, 2, 4, 5, 6, 10, 24, 25, 26, 27, 28, 29, 30, 31, 32, 33] [4, 5, 13, 14, 15, 16, 17, 18, 19, 20, 21, 22, 23, 24, 37, 38, 39, 40] → k16 A' x0 x1 x2 x3 x4 → k16' A' x0 x1 x2 x3 x4) (hw : wc_Coder_expression_99 rec Q k16 s0 x2 x3 x4 x5 x6 x7 x9 y0) : wc_Coder_expression_99 rec Q' k16' s0 x2 x3 x4 x5 x6 x7 x9 y0 := by
  unfold wc_Coder_expression_99 at hw ⊢
  refine ffm_Tree_kind hw (fun r1 A2 f1 h8 => ?_)
  refine ⟨fun g9 => ?_, ?_⟩
  · have h11 := (h8.1) g9
    refine hrec _ _ _ _ _ _ _ h11 (fun r12 A13 f2 h19 => ?_)
    refine ffm_Coder_unfit h19 (fun A21 f3 h27 => ?_)
    obtain ⟨o28, h29⟩ := h27
    refine ⟨o28, ?_⟩
    exact fk16 _ _ _ _ _ _ (((ySm.rf.tr f1 rfl rfl).tr f2 rfl rfl).tr f3 rfl rfl) h29
  · skip
    refine ⟨fun g30 => ?_, ?_⟩
    · have h32 := (h8.2.1) g30
      refine ffm_Coder_table h32 (fun A34 f4 h40 => ?_)
      refine ffm_Coder_unfit h40 (fun A42 f5 h48 => ?_)
      obtain ⟨o49, h50⟩ := h48
      refine ⟨o49, ?_⟩
      exact fk16 _ _ _ _ _ _ (((ySm.rf.tr f1 rfl rfl).tr f4 rfl rfl).tr f5 rfl rfl) h50
    · skip
      refine ⟨fun g51 => ?_, ?_⟩
      · have h53 := (h8.2.2.1) g51
        refine hrec _ _ _ _ _ _ _ h53 (fun r54 A55 f6 h61 => ?_)
        refine ffm_Coder_unfit h61 (fun A63 f7 h69 => ?_)
        obtain ⟨o70, h71⟩ := h69
        refine ⟨o70, ?_⟩
        exact fk16 _ _ _ _ _ _ (((ySm.rf.tr f1 rfl rfl).tr f6 rfl rfl).tr f7 rfl rfl) h71
      · skip
        refine ⟨fun g72 => ?_, ?_⟩
        · have h74 := (h8.2.2.2.1) g72
          refine ffm_Tree_first h74 (fun r75 A76 f8 h82 => ?_)
          refine hrec _ _ _ _ _ _ _ h82 (fun r83 A84 f9 h90 => ?_)
          obtain ⟨o91, h92⟩ := h90
          refine ⟨o91, ?_⟩
          exact fk16 _ _ _ _ _ _ (((ySm.rf.tr f1 rfl rfl).tr f8 rfl rfl).tr f9 rfl rfl) h92
        · skip
          refine ⟨fun g93 => ?_, ?_⟩
          · have h95 := (h8.2.2.2.2.1) g93
            refine hrec _ _ _ _ _ _ _ h95 (fun r96 A97 f10 h103 => ?_)
            refine ffm_Coder_unfit h103 (fun A105 f11 h111 => ?_)
            obtain ⟨o112, h113⟩ := h111
            refine ⟨o112, ?_⟩
            exact fk16 _ _ _ _ _ _ (((ySm.rf.tr f1 rfl rfl).tr f10 rfl rfl).tr f11 rfl rfl) h113
          · skip
            refine ⟨fun g114 => ?_, ?_⟩
            · have h116 := (h8.2.2.2.2.2.1) g114
              refine ffm_Coder_sign h116 (fun r117 A118 f12 h124 => ?_)
              refine ffm_Coder_unfit h124 (fun A126 f13 h132 => ?_)
              obtain ⟨o133, h134⟩ := h132
              refine ⟨o133, ?_⟩
              exact fk16 _ _ _ _ _ _ (((ySm.rf.tr f1 rfl rfl).tr f12 rfl rfl).tr f13 rfl rfl) h134
            · skip
              intro ng9 ng30 ng51 ng72 ng93 ng114
              have h135 := h8.2.2.2.2.2.2 ng9 ng30 ng51 ng72 ng93 ng114
              refine ffm_Coder_single h135 (fun A137 f14 h143 => ?_)
              obtain ⟨o144, h145⟩ := h143
              refine ⟨o144, ?_⟩
              exact fk16 _ _ _ _ _ _ ((ySm.rf.tr f1 rfl rfl).tr f14 rfl rfl) h145
theorem ffj_Coder_expression_58 {rec : Nat → Int → Int → Int → cS → (Int → cS → Prop) → Prop} (hrec : ∀ (i : Nat) (a b c : Int) (A : cS) (Q Q' : Int → cS → Prop), rec i a b c A Q → (∀ (e : Int) (A' : cS), ySm A A' [1, 2, 4, 5, 6, 10, 24, 25, 26, 27, 28, 29, 30, 31, 32, 33] [4, 5, 13, 14, 15, 16, 17, 18, 19, 20, 21, 22, 23, 24, 37, 38, 39, 40] → Q e A' → Q' e A') → rec i a b c A Q') {Q Q' : cS → Prop} {k16 k16' : cS → Int → Int → Int → Int → Int → Prop} {s0 : cS} {x2 : Int} {x3 : Int} {x4 : Int} {x5 : Int} {x6 : Int} {x7 : Int} {y0 : Int} (hq : ∀ (A' : cS), ySm s0 A' [1, 2, 4, 5, 6, 10, 24, 25, 26, 27, 28, 29, 30, 31, 32, 33] [4, 5, 13, 14, 15, 16, 17, 18, 19, 20, 21, 22, 23, 24, 37, 38, 39, 40] → Q A' → Q' A') (fk16 : ∀ (A' : cS) (x0 : Int) (x1 : Int) (x2 : Int) (x3 : Int) (x4 : Int), ySm s0 A' [1, 2, 4, 5, 6, 10, 24, 25, 26, 27, 28, 29, 30, 31, 32, 33] [4, 5, 13, 14, 15, 16, 17, 18, 19, 20, 21, 22, 23, 24, 37, 38, 39, 40] → k16 A' x0 x1 x2 x3 x4 → k16' A' x0 x1 x2 x3 x4) (hw : wc_Coder_expression_58 rec Q k16 s0 x2 x3 x4 x5 x6 x7 y0) : wc_Coder_expression_58 rec Q' k16' s0 x2 x3 x4 x5 x6 x7 y0 := by
  unfold wc_Coder_expression_58 at hw ⊢
  refine ⟨fun c1 => ?_, fun c1 => ?_⟩
  · have h2 := hw.1 c1
    refine ⟨fun c3 => ?_, fun c3 => ?_⟩
    · have h4 := h2.1 c3
      refine ⟨fun c5 => ?_, fun c5 => ?_⟩
      · have h6 := h4.1 c5
        exact ffj_Coder_expression_99 hrec (fun A' f q => hq A' (ySm.rf.tr f rfl rfl) q) (fun A' x0 x1 x2 x3 x4 f q => fk16 A' x0 x1 x2 x3 x4 (ySm.rf.tr f rfl rfl) q) h6
      · have h7 := h4.2 c5
        refine ffm_Tree_data h7 (fun r8 A9 f1 h15 => ?_)
        exact ffj_Coder_expression_99 hrec (fun A' f q => hq A' ((ySm.rf.tr f1 rfl rfl).tr f rfl rfl) q) (fun A' x0 x1 x2 x3 x4 f q => fk16 A' x0 x1 x2 x3 x4 ((ySm.rf.tr f1 rfl rfl).tr f rfl rfl) q) h15
    · have h16 := h2.2 c3
      refine ⟨fun c17 => ?_, fun c17 => ?_⟩
      · have h18 := h16.1 c17
        exact ffj_Coder_expression_99 hrec (fun A' f q => hq A' (ySm.rf.tr f rfl rfl) q) (fun A' x0 x1 x2 x3 x4 f q => fk16 A' x0 x1 x2 x3 x4 (ySm.rf.tr f rfl rfl) q) h18
      · have h19 := h16.2 c17
        refine ffm_Tree_data h19 (fun r20 A21 f2 h27 => ?_)
        exact ffj_Coder_expression_99 hrec (fun A' f q => hq A' ((ySm.rf.tr f2 rfl rfl).tr f rfl rfl) q) (fun A' x0 x1 x2 x3 x4 f q => fk16 A' x0 x1 x2 x3 x4 ((ySm.rf.tr f2 rfl rfl).tr f rfl rfl) q) h27
  · have h28 := hw.2 c1
    refine ⟨fun c29 => ?_, fun c29 => ?_⟩
    · have h30 := h28.1 c29
      exact ffj_Coder_expression_99 hrec (fun A' f q => hq A' (ySm.rf.tr f rfl rfl) q) (fun A' x0 x1 x2 x3 x4 f q => fk16 A' x0 x1 x2 x3 x4 (ySm.rf.tr f rfl rfl) q) h30
    · have h31 := h28.2 c29
      refine ffm_Tree_data h31 (fun r32 A33 f3 h39 => ?_)
      exact ffj_Coder_expression_99 hrec (fun A' f q => hq A' ((ySm.rf.tr f3 rfl rfl).tr f rfl rfl) q) (fun A' x0 x1 x2 x3 x4 f q => fk16 A' x0 x1 x2 x3 x4 ((ySm.rf.tr f3 rfl rfl).tr f rfl rfl) q) h39
theorem ffb_Coder_expression_16 {rec : Nat → Int → Int → Int → cS → (Int → cS → Prop) → Prop} (hrec : ∀ (i : Nat) (a b c : Int) (A : cS) (Q Q' : Int → cS → Prop), rec i a b c A Q → (∀ (e : Int) (A' : cS), ySm A A' [1, 2, 4, 5, 6, 10, 24, 25, 26, 27, 28, 29, 30, 31, 32, 33] [4, 5, 13, 14, 15, 16, 17, 18, 19, 20, 21, 22, 23, 24, 37, 38, 39, 40] → Q e A' → Q' e A') → rec i a b c A Q') {Q Q' : cS → Prop} {k16 k16' : cS → Int → Int → Int → Int → Int → Prop} {s0 : cS} {x2 : Int} {x3 : Int} {x4 : Int} {x5 : Int} {x6 : Int} (hq : ∀ (A' : cS), ySm s0 A' [1, 2, 4, 5, 6, 10, 24, 25, 26, 27, 28, 29, 30, 31, 32, 33] [4, 5, 13, 14, 15, 16, 17, 18, 19, 20, 21, 22, 23, 24, 37, 38, 39, 40] → Q A' → Q' A') (fk16 : ∀ (A' : cS) (x0 : Int) (x1 : Int) (x2 : Int) (x3 : Int) (x4 : Int), ySm s0 A' [1, 2, 4, 5, 6, 10, 24, 25, 26, 27, 28, 29, 30, 31, 32, 33] [4, 5, 13, 14, 15, 16, 17, 18, 19, 20, 21, 22, 23, 24, 37, 38, 39, 40] → k16 A' x0 x1 x2 x3 x4 → k16' A' x0 x1 x2 x3 x4) (hw : wc_Coder_expression_16B rec Q k16 s0 x2 x3 x4 x5 x6) : wc_Coder_expression_16B rec Q' k16' s0 x2 x3 x4 x5 x6 := by
  unfold wc_Coder_expression_16B at hw ⊢
  refine ⟨fun c1 => ?_, fun c1 => ?_⟩
  · have h2 := hw.1 c1
    exact hq _ ySm.rf h2
  · have h3 := hw.2 c1
    refine ⟨fun c4 => ?_, fun c4 => ?_⟩
    · have h5 := h3.1 c4
      exact hq _ ySm.rf h5
    · have h6 := h3.2 c4
      refine ffm_Tree_next h6 (fun r7 A8 f1 h14 => ?_)
      refine ffm_Tree_kind h14 (fun r15 A16 f2 h22 => ?_)
      refine ⟨fun c23 => ?_, fun c23 => ?_⟩
      · have h24 := h22.1 c23
        exact ffj_Coder_expression_58 hrec (fun A' f q => hq A' (((ySm.rf.tr f1 rfl rfl).tr f2 rfl rfl).tr f rfl rfl) q) (fun A' x0 x1 x2 x3 x4 f q => fk16 A' x0 x1 x2 x3 x4 (((ySm.rf.tr f1 rfl rfl).tr f2 rfl rfl).tr f rfl rfl) q) h24
      · have h25 := h22.2 c23
        exact ffj_Coder_expression_58 hrec (fun A' f q => hq A' (((ySm.rf.tr f1 rfl rfl).tr f2 rfl rfl).tr f rfl rfl) q) (fun A' x0 x1 x2 x3 x4 f q => fk16 A' x0 x1 x2 x3 x4 (((ySm.rf.tr f1 rfl rfl).tr f2 rfl rfl).tr f rfl rfl) q) h25
theorem ffl_Coder_expression_160 {rec : Nat → Int → Int → Int → cS → (Int → cS → Prop) → Prop} (hrec : ∀ (i : Nat) (a b c : Int) (A : cS) (Q Q' : Int → cS → Prop), rec i a b c A Q → (∀ (e : Int) (A' : cS), ySm A A' [1, 2, 4, 5, 6, 10, 24, 25, 26, 27, 28, 29, 30, 31, 32, 33] [4, 5, 13, 14, 15, 16, 17, 18, 19, 20, 21, 22, 23, 24, 37, 38, 39, 40] → Q e A' → Q' e A') → rec i a b c A Q') {Q Q' : cS → Prop}  : ∀ (m : Nat) (s0 : cS) (x2 : Int) (x3 : Int) (x4 : Int) (x5 : Int) (x6 : Int), (∀ (A' : cS), ySm s0 A' [1, 2, 4, 5, 6, 10, 24, 25, 26, 27, 28, 29, 30, 31, 32, 33] [4, 5, 13, 14, 15, 16, 17, 18, 19, 20, 21, 22, 23, 24, 37, 38, 39, 40] → Q A' → Q' A') → wc_Coder_expression_16 rec Q  m s0 x2 x3 x4 x5 x6 → wc_Coder_expression_16 rec Q'  m s0 x2 x3 x4 x5 x6 := by
  intro m
  induction m with
  | zero => intro s0 x2 x3 x4 x5 x6 hq  hw; exact hw
  | succ m ih => intro s0 x2 x3 x4 x5 x6 hq  hw; exact ffb_Coder_expression_16 hrec hq  (fun A' y0 y1 y2 y3 y4 f1 q => ih A' y0 y1 y2 y3 y4 (fun A' f q => hq A' (f1.tr f rfl rfl) q)  q) hw
theorem ffm_Coder_expression {rec : Nat → Int → Int → Int → cS → (Int → cS → Prop) → Prop} (hrec : ∀ (i : Nat) (a b c : Int) (A : cS) (Q Q' : Int → cS → Prop), rec i a b c A Q → (∀ (e : Int) (A' : cS), ySm A A' [1, 2, 4, 5, 6, 10, 24, 25, 26, 27, 28, 29, 30, 31, 32, 33] [4, 5, 13, 14, 15, 16, 17, 18, 19, 20, 21, 22, 23, 24, 37, 38, 39, 40] → Q e A' → Q' e A') → rec i a b c A Q') {s0 : cS} {a0 : Int} {a1 : Int} {a2 : Int} {Q Q' : cS → Prop} (hw : wc_Coder_expression rec s0 a0 a1 a2 Q) (hq : ∀ (A' : cS), ySm s0 A' [1, 2, 4, 5, 6, 10, 24, 25, 26, 27, 28, 29, 30, 31, 32, 33] [4, 5, 13, 14, 15, 16, 17, 18, 19, 20, 21, 22, 23, 24, 37, 38, 39, 40] → Q A' → Q' A') : wc_Coder_expression rec s0 a0 a1 a2 Q' := by
  unfold wc_Coder_expression at hw ⊢
  refine ffm_Tree_first hw (fun r1 A2 f1 h8 => ?_)
  obtain ⟨m9, h10⟩ := h8
  exact ⟨m9, ffl_Coder_expression_160 hrec m9 _ _ _ _ _ _ (fun A' f q => hq A' ((ySm.rf.tr f1 rfl rfl).tr f rfl rfl) q)  h10⟩
theorem ffb_Coder_calls_97 {rec : Nat → Int → Int → Int → cS → (Int → cS → Prop) → Prop} (hrec : ∀ (i : Nat) (a b c : Int) (A : cS) (Q Q' : Int → cS → Prop), rec i a b c A Q → (∀ (e : Int) (A' : cS), ySm A A' [1, 2, 4, 5, 6, 10, 24, 25, 26, 27, 28, 29, 30, 31, 32, 33] [4, 5, 13, 14, 15, 16, 17, 18, 19, 20, 21, 22, 23, 24, 37, 38, 39, 40] → Q e A' → Q' e A') → rec i a b c A Q') {Q Q' : cS → Prop} {k97 k97' : cS → Int → Int → Int → Prop} {s0 : cS} {x3 : Int} {x4 : Int} {x5 : Int} (hq : ∀ (A' : cS), ySm s0 A' [1, 2, 4, 5, 6, 10, 24, 25, 26, 27, 28, 29, 30, 31, 32, 33] [4, 5, 13, 14, 15, 16, 17, 18, 19, 20, 21, 22, 23, 24, 37, 38, 39, 40] → Q A' → Q' A') (fk97 : ∀ (A' : cS) (x0 : Int) (x1 : Int) (x2 : Int), ySm s0 A' [1, 2, 4, 5, 6, 10, 24, 25, 26, 27, 28, 29, 30, 31, 32, 33] [4, 5, 13, 14, 15, 16, 17, 18, 19, 20, 21, 22, 23, 24, 37, 38, 39, 40] → k97 A' x0 x1 x2 → k97' A' x0 x1 x2) (hw : wc_Coder_calls_97B rec Q k97 s0 x3 x4 x5) : wc_Coder_calls_97B rec Q' k97' s0 x3 x4 x5 := by
  unfold wc_Coder_calls_97B at hw ⊢
  refine ⟨fun c1 => ?_, fun c1 => ?_⟩
  · have h2 := hw.1 c1
    exact hq _ ySm.rf h2
  · have h3 := hw.2 c1
    intro z4 e5 R6
    have h7 := h3 z4 e5 R6
    refine ffm_Tree_data h7 (fun r8 A9 f1 h15 => ?_)
    intro z16 e17 R18
    have h19 := h15 z16 e17 R18
    refine ffm_Coder_emit h19 (fun r20 A21 f2 h27 => ?_)
    refine ffm_Tree_next h27 (fun r28 A29 f3 h35 => ?_)
    obtain ⟨o36, h37⟩ := h35
    refine ⟨o36, ?_⟩
    exact fk97 _ _ _ _ (((ySm.rf.tr f1 rfl rfl).tr f2 rfl rfl).tr f3 rfl rfl) h37
theorem ffl_Coder_calls_970 {rec : Nat → Int → Int → Int → cS → (Int → cS → Prop) → Prop} (hrec : ∀ (i : Nat) (a b c : Int) (A : cS) (Q Q' : Int → cS → Prop), rec i a b c A Q → (∀ (e : Int) (A' : cS), ySm A A' [1, 2, 4, 5, 6, 10, 24, 25, 26, 27, 28, 29, 30, 31, 32, 33] [4, 5, 13, 14, 15, 16, 17, 18, 19, 20, 21, 22, 23, 24, 37, 38, 39, 40] → Q e A' → Q' e A') → rec i a b c A Q') {Q Q' : cS → Prop}  : ∀ (m : Nat) (s0 : cS) (x3 : Int) (x4 : Int) (x5 : Int), (∀ (A' : cS), ySm s0 A' [1, 2, 4, 5, 6, 10, 24, 25, 26, 27, 28, 29, 30, 31, 32, 33] [4, 5, 13, 14, 15, 16, 17, 18, 19, 20, 21, 22, 23, 24, 37, 38, 39, 40] → Q A' → Q' A') → wc_Coder_calls_97 rec Q  m s0 x3 x4 x5 → wc_Coder_calls_97 rec Q'  m s0 x3 x4 x5 := by
  intro m
  induction m with
  | zero => intro s0 x3 x4 x5 hq  hw; exact hw
  | succ m ih => intro s0 x3 x4 x5 hq  hw; exact ffb_Coder_calls_97 hrec hq  (fun A' y0 y1 y2 f1 q => ih A' y0 y1 y2 (fun A' f q => hq A' (f1.tr f rfl rfl) q)  q) hw
theorem ffb_Coder_calls_59 {rec : Nat → Int → Int → Int → cS → (Int → cS → Prop) → Prop} (hrec : ∀ (i : Nat) (a b c : Int) (A : cS) (Q Q' : Int → cS → Prop), rec i a b c A Q → (∀ (e : Int) (A' : cS), ySm A A' [1, 2, 4, 5, 6, 10, 24, 25, 26, 27, 28, 29, 30, 31, 32, 33] [4, 5, 13, 14, 15, 16, 17, 18, 19, 20, 21, 22, 23, 24, 37, 38, 39, 40] → Q e A' → Q' e A') → rec i a b c A Q') {Q Q' : cS → Prop} {k59 k59' : cS → Int → Int → Int → Int → Prop} {s0 : cS} {x1 : Int} {x2 : Int} {x3 : Int} {x5 : Int} (hq : ∀ (A' : cS), ySm s0 A' [1, 2, 4, 5, 6, 10, 24, 25, 26, 27, 28, 29, 30, 31, 32, 33] [4, 5, 13, 14, 15, 16, 17, 18, 19, 20, 21, 22, 23, 24, 37, 38, 39, 40] → Q A' → Q' A') (fk59 : ∀ (A' : cS) (x0 : Int) (x1 : Int) (x2 : Int) (x3 : Int), ySm s0 A' [1, 2, 4, 5, 6, 10, 24, 25, 26, 27, 28, 29, 30, 31, 32, 33] [4, 5, 13, 14, 15, 16, 17, 18, 19, 20, 21, 22, 23, 24, 37, 38, 39, 40] → k59 A' x0 x1 x2 x3 → k59' A' x0 x1 x2 x3) (hw : wc_Coder_calls_59B rec Q k59 s0 x1 x2 x3 x5) : wc_Coder_calls_59B rec Q' k59' s0 x1 x2 x3 x5 := by
  unfold wc_Coder_calls_59B at hw ⊢
  refine ⟨fun c1 => ?_, fun c1 => ?_⟩
  · have h2 := hw.1 c1
    refine hrec _ _ _ _ _ _ _ h2 (fun r3 A4 f1 h10 => ?_)
    refine ffm_Tree_next h10 (fun r11 A12 f2 h18 => ?_)
    obtain ⟨m19, h20⟩ := h18
    exact ⟨m19, ffl_Coder_calls_970 hrec m19 _ _ _ _ (fun A' f q => hq A' (((ySm.rf.tr f1 rfl rfl).tr f2 rfl rfl).tr f rfl rfl) q)  h20⟩
  · have h21 := hw.2 c1
    refine hrec _ _ _ _ _ _ _ h21 (fun r22 A23 f3 h29 => ?_)
    obtain ⟨o30, h31⟩ := h29
    refine ⟨o30, ?_⟩
    exact fk59 _ _ _ _ _ (ySm.rf.tr f3 rfl rfl) h31
theorem ffl_Coder_calls_590 {rec : Nat → Int → Int → Int → cS → (Int → cS → Prop) → Prop} (hrec : ∀ (i : Nat) (a b c : Int) (A : cS) (Q Q' : Int → cS → Prop), rec i a b c A Q → (∀ (e : Int) (A' : cS), ySm A A' [1, 2, 4, 5, 6, 10, 24, 25, 26, 27, 28, 29, 30, 31, 32, 33] [4, 5, 13, 14, 15, 16, 17, 18, 19, 20, 21, 22, 23, 24, 37, 38, 39, 40] → Q e A' → Q' e A') → rec i a b c A Q') {Q Q' : cS → Prop}  : ∀ (m : Nat) (s0 : cS) (x1 : Int) (x2 : Int) (x3 : Int) (x5 : Int), (∀ (A' : cS), ySm s0 A' [1, 2, 4, 5, 6, 10, 24, 25, 26, 27, 28, 29, 30, 31, 32, 33] [4, 5, 13, 14, 15, 16, 17, 18, 19, 20, 21, 22, 23, 24, 37, 38, 39, 40] → Q A' → Q' A') → wc_Coder_calls_59 rec Q  m s0 x1 x2 x3 x5 → wc_Coder_calls_59 rec Q'  m s0 x1 x2 x3 x5 := by
  intro m
  induction m with
  | zero => intro s0 x1 x2 x3 x5 hq  hw; exact hw
  | succ m ih => intro s0 x1 x2 x3 x5 hq  hw; exact ffb_Coder_calls_59 hrec hq  (fun A' y0 y1 y2 y3 f1 q => ih A' y0 y1 y2 y3 (fun A' f q => hq A' (f1.tr f rfl rfl) q)  q) hw
theorem ffb_Coder_calls_24 {rec : Nat → Int → Int → Int → cS → (Int → cS → Prop) → Prop} (hrec : ∀ (i : Nat) (a b c : Int) (A : cS) (Q Q' : Int → cS → Prop), rec i a b c A Q → (∀ (e : Int) (A' : cS), ySm A A' [1, 2, 4, 5, 6, 10, 24, 25, 26, 27, 28, 29, 30, 31, 32, 33] [4, 5, 13, 14, 15, 16, 17, 18, 19, 20, 21, 22, 23, 24, 37, 38, 39, 40] → Q e A' → Q' e A') → rec i a b c A Q') {Q Q' : cS → Prop} {k24 k24' : cS → Int → Int → Int → Int → Int → Prop} {s0 : cS} {x1 : Int} {x2 : Int} {x3 : Int} {x4 : Int} {x5 : Int} (hq : ∀ (A' : cS), ySm s0 A' [1, 2, 4, 5, 6, 10, 24, 25, 26, 27, 28, 29, 30, 31, 32, 33] [4, 5, 13, 14, 15, 16, 17, 18, 19, 20, 21, 22, 23, 24, 37, 38, 39, 40] → Q A' → Q' A') (fk24 : ∀ (A' : cS) (x0 : Int) (x1 : Int) (x2 : Int) (x3 : Int) (x4 : Int), ySm s0 A' [1, 2, 4, 5, 6, 10, 24, 25, 26, 27, 28, 29, 30, 31, 32, 33] [4, 5, 13, 14, 15, 16, 17, 18, 19, 20, 21, 22, 23, 24, 37, 38, 39, 40] → k24 A' x0 x1 x2 x3 x4 → k24' A' x0 x1 x2 x3 x4) (hw : wc_Coder_calls_24B rec Q k24 s0 x1 x2 x3 x4 x5) : wc_Coder_calls_24B rec Q' k24' s0 x1 x2 x3 x4 x5 := by
  unfold wc_Coder_calls_24B at hw ⊢
  refine ⟨fun c1 => ?_, fun c1 => ?_⟩
  · have h2 := hw.1 c1
    obtain ⟨m3, h4⟩ := h2
    exact ⟨m3, ffl_Coder_calls_590 hrec m3 _ _ _ _ _ (fun A' f q => hq A' (ySm.rf.tr f rfl rfl) q)  h4⟩
  · have h5 := hw.2 c1
    refine ⟨fun c6 => ?_, fun c6 => ?_⟩
    · have h7 := h5.1 c6
      obtain ⟨m8, h9⟩ := h7
      exact ⟨m8, ffl_Coder_calls_590 hrec m8 _ _ _ _ _ (fun A' f q => hq A' (ySm.rf.tr f rfl rfl) q)  h9⟩
    · have h10 := h5.2 c6
      refine ffm_Tree_next h10 (fun r11 A12 f1 h18 => ?_)
      obtain ⟨o19, h20⟩ := h18
      refine ⟨o19, ?_⟩
      obtain ⟨o21, h22⟩ := h20
      refine ⟨o21, ?_⟩
      exact fk24 _ _ _ _ _ _ (ySm.rf.tr f1 rfl rfl) h22
theorem ffl_Coder_calls_240 {rec : Nat → Int → Int → Int → cS → (Int → cS → Prop) → Prop} (hrec : ∀ (i : Nat) (a b c : Int) (A : cS) (Q Q' : Int → cS → Prop), rec i a b c A Q → (∀ (e : Int) (A' : cS), ySm A A' [1, 2, 4, 5, 6, 10, 24, 25, 26, 27, 28, 29, 30, 31, 32, 33] [4, 5, 13, 14, 15, 16, 17, 18, 19, 20, 21, 22, 23, 24, 37, 38, 39, 40] → Q e A' → Q' e A') → rec i a b c A Q') {Q Q' : cS → Prop}  : ∀ (m : Nat) (s0 : cS) (x1 : Int) (x2 : Int) (x3 : Int) (x4 : Int) (x5 : Int), (∀ (A' : cS), ySm s0 A' [1, 2, 4, 5, 6, 10, 24, 25, 26, 27, 28, 29, 30, 31, 32, 33] [4, 5, 13, 14, 15, 16, 17, 18, 19, 20, 21, 22, 23, 24, 37, 38, 39, 40] → Q A' → Q' A') → wc_Coder_calls_24 rec Q  m s0 x1 x2 x3 x4 x5 → wc_Coder_calls_24 rec Q'  m s0 x1 x2 x3 x4 x5 := by
  intro m
  induction m with
  | zero => intro s0 x1 x2 x3 x4 x5 hq  hw; exact hw
  | succ m ih => intro s0 x1 x2 x3 x4 x5 hq  hw; exact ffb_Coder_calls_24 hrec hq  (fun A' y0 y1 y2 y3 y4 f1 q => ih A' y0 y1 y2 y3 y4 (fun A' f q => hq A' (f1.tr f rfl rfl) q)  q) hw
theorem ffm_Coder_calls {rec : Nat → Int → Int → Int → cS → (Int → cS → Prop) → Prop} (hrec : ∀ (i : Nat) (a b c : Int) (A : cS) (Q Q' : Int → cS → Prop), rec i a b c A Q → (∀ (e : Int) (A' : cS), ySm A A' [1, 2, 4, 5, 6, 10, 24, 25, 26, 27, 28, 29, 30, 31, 32, 33] [4, 5, 13, 14, 15, 16, 17, 18, 19, 20, 21, 22, 23, 24, 37, 38, 39, 40] → Q e A' → Q' e A') → rec i a b c A Q') {s0 : cS} {a0 : Int} {Q Q' : cS → Prop} (hw : wc_Coder_calls rec s0 a0 Q) (hq : ∀ (A' : cS), ySm s0 A' [1, 2, 4, 5, 6, 10, 24, 25, 26, 27, 28, 29, 30, 31, 32, 33] [4, 5, 13, 14, 15, 16, 17, 18, 19, 20, 21, 22, 23, 24, 37, 38, 39, 40] → Q A' → Q' A') : wc_Coder_calls rec s0 a0 Q' := by
  unfold wc_Coder_calls at hw ⊢
  refine ffm_Tree_first hw (fun r1 A2 f1 h8 => ?_)
  refine ffm_Tree_next h8 (fun r9 A10 f2 h16 => ?_)
  obtain ⟨m17, h18⟩ := h16
  exact ⟨m17, ffl_Coder_calls_240 hrec m17 _ _ _ _ _ _ (fun A' f q => hq A' (((ySm.rf.tr f1 rfl rfl).tr f2 rfl rfl).tr f rfl rfl) q)  h18⟩
theorem ffb_Coder_arguments_46 {rec : Nat → Int → Int → Int → cS → (Int → cS → Prop) → Prop} (hrec : ∀ (i : Nat) (a b c : Int) (A : cS) (Q Q' : Int → cS → Prop), rec i a b c A Q → (∀ (e : Int) (A' : cS), ySm A A' [1, 2, 4, 5, 6, 10, 24, 25, 26, 27, 28, 29, 30, 31, 32, 33] [4, 5, 13, 14, 15, 16, 17, 18, 19, 20, 21, 22, 23, 24, 37, 38, 39, 40] → Q e A' → Q' e A') → rec i a b c A Q') {Q Q' : cS → Prop} {k46 k46' : cS → Int → Int → Prop} {s0 : cS} {x4 : Int} {x5 : Int} (hq : ∀ (A' : cS), ySm s0 A' [1, 2, 4, 5, 6, 10, 24, 25, 26, 27, 28, 29, 30, 31, 32, 33] [4, 5, 13, 14, 15, 16, 17, 18, 19, 20, 21, 22, 23, 24, 37, 38, 39, 40] → Q A' → Q' A') (fk46 : ∀ (A' : cS) (x0 : Int) (x1 : Int), ySm s0 A' [1, 2, 4, 5, 6, 10, 24, 25, 26, 27, 28, 29, 30, 31, 32, 33] [4, 5, 13, 14, 15, 16, 17, 18, 19, 20, 21, 22, 23, 24, 37, 38, 39, 40] → k46 A' x0 x1 → k46' A' x0 x1) (hw : wc_Coder_arguments_46B rec Q k46 s0 x4 x5) : wc_Coder_arguments_46B rec Q' k46' s0 x4 x5 := by
  unfold wc_Coder_arguments_46B at hw ⊢
  refine ⟨fun c1 => ?_, fun c1 => ?_⟩
  · have h2 := hw.1 c1
    exact hq _ ySm.rf h2
  · have h3 := hw.2 c1
    refine ⟨fun c4 => ?_, fun c4 => ?_⟩
    · have h5 := h3.1 c4
      exact hq _ ySm.rf h5
    · have h6 := h3.2 c4
      refine hrec _ _ _ _ _ _ _ h6 (fun r7 A8 f1 h14 => ?_)
      refine ffm_Tree_next h14 (fun r15 A16 f2 h22 => ?_)
      obtain ⟨o23, h24⟩ := h22
      refine ⟨o23, ?_⟩
      exact fk46 _ _ _ ((ySm.rf.tr f1 rfl rfl).tr f2 rfl rfl) h24
theorem ffl_Coder_arguments_460 {rec : Nat → Int → Int → Int → cS → (Int → cS → Prop) → Prop} (hrec : ∀ (i : Nat) (a b c : Int) (A : cS) (Q Q' : Int → cS → Prop), rec i a b c A Q → (∀ (e : Int) (A' : cS), ySm A A' [1, 2, 4, 5, 6, 10, 24, 25, 26, 27, 28, 29, 30, 31, 32, 33] [4, 5, 13, 14, 15, 16, 17, 18, 19, 20, 21, 22, 23, 24, 37, 38, 39, 40] → Q e A' → Q' e A') → rec i a b c A Q') {Q Q' : cS → Prop}  : ∀ (m : Nat) (s0 : cS) (x4 : Int) (x5 : Int), (∀ (A' : cS), ySm s0 A' [1, 2, 4, 5, 6, 10, 24, 25, 26, 27, 28, 29, 30, 31, 32, 33] [4, 5, 13, 14, 15, 16, 17, 18, 19, 20, 21, 22, 23, 24, 37, 38, 39, 40] → Q A' → Q' A') → wc_Coder_arguments_46 rec Q  m s0 x4 x5 → wc_Coder_arguments_46 rec Q'  m s0 x4 x5 := by
  intro m
  induction m with
  | zero => intro s0 x4 x5 hq  hw; exact hw
  | succ m ih => intro s0 x4 x5 hq  hw; exact ffb_Coder_arguments_46 hrec hq  (fun A' y0 y1 f1 q => ih A' y0 y1 (fun A' f q => hq A' (f1.tr f rfl rfl) q)  q) hw
theorem ffb_Coder_arguments_12 {rec : Nat → Int → Int → Int → cS → (Int → cS → Prop) → Prop} (hrec : ∀ (i : Nat) (a b c : Int) (A : cS) (Q Q' : Int → cS → Prop), rec i a b c A Q → (∀ (e : Int) (A' : cS), ySm A A' [1, 2, 4, 5, 6, 10, 24, 25, 26, 27, 28, 29, 30, 31, 32, 33] [4, 5, 13, 14, 15, 16, 17, 18, 19, 20, 21, 22, 23, 24, 37, 38, 39, 40] → Q e A' → Q' e A') → rec i a b c A Q') {Q Q' : cS → Prop} {k12 k12' : cS → Int → Int → Int → Prop} {s0 : cS} {x2 : Int} {x3 : Int} {x4 : Int} (hq : ∀ (A' : cS), ySm s0 A' [1, 2, 4, 5, 6, 10, 24, 25, 26, 27, 28, 29, 30, 31, 32, 33] [4, 5, 13, 14, 15, 16, 17, 18, 19, 20, 21, 22, 23, 24, 37, 38, 39, 40] → Q A' → Q' A') (fk12 : ∀ (A' : cS) (x0 : Int) (x1 : Int) (x2 : Int), ySm s0 A' [1, 2, 4, 5, 6, 10, 24, 25, 26, 27, 28, 29, 30, 31, 32, 33] [4, 5, 13, 14, 15, 16, 17, 18, 19, 20, 21, 22, 23, 24, 37, 38, 39, 40] → k12 A' x0 x1 x2 → k12' A' x0 x1 x2) (hw : wc_Coder_arguments_12B rec Q k12 s0 x2 x3 x4) : wc_Coder_arguments_12B rec Q' k12' s0 x2 x3 x4 := by
  unfold wc_Coder_arguments_12B at hw ⊢
  refine ⟨fun c1 => ?_, fun c1 => ?_⟩
  · have h2 := hw.1 c1
    refine ffm_Tree_first h2 (fun r3 A4 f1 h10 => ?_)
    obtain ⟨m11, h12⟩ := h10
    exact ⟨m11, ffl_Coder_arguments_460 hrec m11 _ _ _ (fun A' f q => hq A' ((ySm.rf.tr f1 rfl rfl).tr f rfl rfl) q)  h12⟩
  · have h13 := hw.2 c1
    refine ffm_Tree_next h13 (fun r14 A15 f2 h21 => ?_)
    obtain ⟨o22, h23⟩ := h21
    refine ⟨o22, ?_⟩
    exact fk12 _ _ _ _ (ySm.rf.tr f2 rfl rfl) h23
theorem ffl_Coder_arguments_120 {rec : Nat → Int → Int → Int → cS → (Int → cS → Prop) → Prop} (hrec : ∀ (i : Nat) (a b c : Int) (A : cS) (Q Q' : Int → cS → Prop), rec i a b c A Q → (∀ (e : Int) (A' : cS), ySm A A' [1, 2, 4, 5, 6, 10, 24, 25, 26, 27, 28, 29, 30, 31, 32, 33] [4, 5, 13, 14, 15, 16, 17, 18, 19, 20, 21, 22, 23, 24, 37, 38, 39, 40] → Q e A' → Q' e A') → rec i a b c A Q') {Q Q' : cS → Prop}  : ∀ (m : Nat) (s0 : cS) (x2 : Int) (x3 : Int) (x4 : Int), (∀ (A' : cS), ySm s0 A' [1, 2, 4, 5, 6, 10, 24, 25, 26, 27, 28, 29, 30, 31, 32, 33] [4, 5, 13, 14, 15, 16, 17, 18, 19, 20, 21, 22, 23, 24, 37, 38, 39, 40] → Q A' → Q' A') → wc_Coder_arguments_12 rec Q  m s0 x2 x3 x4 → wc_Coder_arguments_12 rec Q'  m s0 x2 x3 x4 := by
  intro m
  induction m with
  | zero => intro s0 x2 x3 x4 hq  hw; exact hw
  | succ m ih => intro s0 x2 x3 x4 hq  hw; exact ffb_Coder_arguments_12 hrec hq  (fun A' y0 y1 y2 f1 q => ih A' y0 y1 y2 (fun A' f q => hq A' (f1.tr f rfl rfl) q)  q) hw
theorem ffm_Coder_arguments {rec : Nat → Int → Int → Int → cS → (Int → cS → Prop) → Prop} (hrec : ∀ (i : Nat) (a b c : Int) (A : cS) (Q Q' : Int → cS → Prop), rec i a b c A Q → (∀ (e : Int) (A' : cS), ySm A A' [1, 2, 4, 5, 6, 10, 24, 25, 26, 27, 28, 29, 30, 31, 32, 33] [4, 5, 13, 14, 15, 16, 17, 18, 19, 20, 21, 22, 23, 24, 37, 38, 39, 40] → Q e A' → Q' e A') → rec i a b c A Q') {s0 : cS} {a0 : Int} {a1 : Int} {Q Q' : cS → Prop} (hw : wc_Coder_arguments rec s0 a0 a1 Q) (hq : ∀ (A' : cS), ySm s0 A' [1, 2, 4, 5, 6, 10, 24, 25, 26, 27, 28, 29, 30, 31, 32, 33] [4, 5, 13, 14, 15, 16, 17, 18, 19, 20, 21, 22, 23, 24, 37, 38, 39, 40] → Q A' → Q' A') : wc_Coder_arguments rec s0 a0 a1 Q' := by
  unfold wc_Coder_arguments at hw ⊢
  refine ffm_Tree_first hw (fun r1 A2 f1 h8 => ?_)
  obtain ⟨m9, h10⟩ := h8
  exact ⟨m9, ffl_Coder_arguments_120 hrec m9 _ _ _ _ (fun A' f q => hq A' ((ySm.rf.tr f1 rfl rfl).tr f rfl rfl) q)  h10⟩
theorem ffm_Coder_valof {rec : Nat → Int → Int → Int → cS → (Int → cS → Prop) → Prop} (hrec : ∀ (i : Nat) (a b c : Int) (A : cS) (Q Q' : Int → cS → Prop), rec i a b c A Q → (∀ (e : Int) (A' : cS), ySm A A' [1, 2, 4, 5, 6, 10, 24, 25, 26, 27, 28, 29, 30, 31, 32, 33] [4, 5, 13, 14, 15, 16, 17, 18, 19, 20, 21, 22, 23, 24, 37, 38, 39, 40] → Q e A' → Q' e A') → rec i a b c A Q') {s0 : cS} {a0 : Int} {Q Q' : cS → Prop} (hw : wc_Coder_valof rec s0 a0 Q) (hq : ∀ (A' : cS), ySm s0 A' [1, 2, 4, 5, 6, 10, 24, 25, 26, 27, 28, 29, 30, 31, 32, 33] [4, 5, 13, 14, 15, 16, 17, 18, 19, 20, 21, 22, 23, 24, 37, 38, 39, 40] → Q A' → Q' A') : wc_Coder_valof rec s0 a0 Q' := by
  unfold wc_Coder_valof at hw ⊢
  refine ffm_Coder_leaveAll hw (fun A2 f1 h8 => ?_)
  obtain ⟨o20, h21⟩ := h8
  refine ⟨o20, ?_⟩
  refine ffm_Tree_first h21 (fun r44 A45 f2 h51 => ?_)
  refine hrec _ _ _ _ _ _ _ h51 (fun r52 A53 f3 h59 => ?_)
  refine ffm_Coder_emit h59 (fun r60 A61 f4 h67 => ?_)
  refine ffm_Program_land h67 (fun A69 f5 h75 => ?_)
  exact hq _ (((((((((((((ySm.rf.tr f1 rfl rfl).pv rfl).pv rfl).pv rfl).tr f2 rfl rfl).tr f3 rfl rfl).tr f4 rfl rfl).tr f5 rfl rfl).pv rfl).pv rfl).pv rfl).pv rfl).pv rfl) h75
theorem ffm_Coder_choice {rec : Nat → Int → Int → Int → cS → (Int → cS → Prop) → Prop} (hrec : ∀ (i : Nat) (a b c : Int) (A : cS) (Q Q' : Int → cS → Prop), rec i a b c A Q → (∀ (e : Int) (A' : cS), ySm A A' [1, 2, 4, 5, 6, 10, 24, 25, 26, 27, 28, 29, 30, 31, 32, 33] [4, 5, 13, 14, 15, 16, 17, 18, 19, 20, 21, 22, 23, 24, 37, 38, 39, 40] → Q e A' → Q' e A') → rec i a b c A Q') {s0 : cS} {a0 : Int} {Q Q' : cS → Prop} (hw : wc_Coder_choice rec s0 a0 Q) (hq : ∀ (A' : cS), ySm s0 A' [1, 2, 4, 5, 6, 10, 24, 25, 26, 27, 28, 29, 30, 31, 32, 33] [4, 5, 13, 14, 15, 16, 17, 18, 19, 20, 21, 22, 23, 24, 37, 38, 39, 40] → Q A' → Q' A') : wc_Coder_choice rec s0 a0 Q' := by
  unfold wc_Coder_choice at hw ⊢
  refine ffm_Tree_first hw (fun r1 A2 f1 h8 => ?_)
  refine ffm_Tree_next h8 (fun r9 A10 f2 h16 => ?_)
  refine hrec _ _ _ _ _ _ _ h16 (fun r17 A18 f3 h24 => ?_)
  refine ffm_Coder_emit h24 (fun r25 A26 f4 h32 => ?_)
  refine hrec _ _ _ _ _ _ _ h32 (fun r33 A34 f5 h40 => ?_)
  refine ffm_Coder_emit h40 (fun r41 A42 f6 h48 => ?_)
  refine ffm_Program_land h48 (fun A50 f7 h56 => ?_)
  refine ffm_Tree_next h56 (fun r57 A58 f8 h64 => ?_)
  refine hrec _ _ _ _ _ _ _ h64 (fun r65 A66 f9 h72 => ?_)
  refine ffm_Program_land h72 (fun A74 f10 h80 => ?_)
  exact hq _ ((((((((((ySm.rf.tr f1 rfl rfl).tr f2 rfl rfl).tr f3 rfl rfl).tr f4 rfl rfl).tr f5 rfl rfl).tr f6 rfl rfl).tr f7 rfl rfl).tr f8 rfl rfl).tr f9 rfl rfl).tr f10 rfl rfl) h80
theorem wcG_C_0 (m : Nat) (a b c : Int) (A : cS) (Q : Int → cS → Prop) : wcG_C (m + 1) 0 a b c A Q = wc_Coder_routines (wcG_C m) A a (fun A' => Q 0 A') := rfl
theorem wcG_C_1 (m : Nat) (a b c : Int) (A : cS) (Q : Int → cS → Prop) : wcG_C (m + 1) 1 a b c A Q = wc_Coder_routine (wcG_C m) A a (fun A' => Q 0 A') := rfl
theorem wcG_C_2 (m : Nat) (a b c : Int) (A : cS) (Q : Int → cS → Prop) : wcG_C (m + 1) 2 a b c A Q = wc_Coder_variables (wcG_C m) A a (fun A' => Q 0 A') := rfl
theorem wcG_C_3 (m : Nat) (a b c : Int) (A : cS) (Q : Int → cS → Prop) : wcG_C (m + 1) 3 a b c A Q = wc_Coder_section (wcG_C m) A a (fun A' => Q 0 A') := rfl
theorem wcG_C_4 (m : Nat) (a b c : Int) (A : cS) (Q : Int → cS → Prop) : wcG_C (m + 1) 4 a b c A Q = wc_Coder_command (wcG_C m) A a (fun A' => Q 0 A') := rfl
theorem wcG_C_5 (m : Nat) (a b c : Int) (A : cS) (Q : Int → cS → Prop) : wcG_C (m + 1) 5 a b c A Q = wc_Coder_assignment (wcG_C m) A a (fun A' => Q 0 A') := rfl
theorem wcG_C_6 (m : Nat) (a b c : Int) (A : cS) (Q : Int → cS → Prop) : wcG_C (m + 1) 6 a b c A Q = wc_Coder_conditional (wcG_C m) A a (fun A' => Q 0 A') := rfl
theorem wcG_C_7 (m : Nat) (a b c : Int) (A : cS) (Q : Int → cS → Prop) : wcG_C (m + 1) 7 a b c A Q = wc_Coder_asking (wcG_C m) A a (fun A' => Q 0 A') := rfl
theorem wcG_C_8 (m : Nat) (a b c : Int) (A : cS) (Q : Int → cS → Prop) : wcG_C (m + 1) 8 a b c A Q = wc_Coder_repeats (wcG_C m) A a (fun A' => Q 0 A') := rfl
theorem wcG_C_9 (m : Nat) (a b c : Int) (A : cS) (Q : Int → cS → Prop) : wcG_C (m + 1) 9 a b c A Q = wc_Coder_counting (wcG_C m) A a (fun A' => Q 0 A') := rfl
theorem wcG_C_10 (m : Nat) (a b c : Int) (A : cS) (Q : Int → cS → Prop) : wcG_C (m + 1) 10 a b c A Q = wc_Coder_switching (wcG_C m) A a (fun A' => Q 0 A') := rfl
theorem wcG_C_11 (m : Nat) (a b c : Int) (A : cS) (Q : Int → cS → Prop) : wcG_C (m + 1) 11 a b c A Q = wc_Coder_telling (wcG_C m) A a (fun A' => Q 0 A') := rfl
theorem wcG_C_12 (m : Nat) (a b c : Int) (A : cS) (Q : Int → cS → Prop) : wcG_C (m + 1) 12 a b c A Q = wc_Coder_expression (wcG_C m) A a b c (fun A' => Q 0 A') := rfl
theorem wcG_C_13 (m : Nat) (a b c : Int) (A : cS) (Q : Int → cS → Prop) : wcG_C (m + 1) 13 a b c A Q = wc_Coder_calls (wcG_C m) A a (fun A' => Q 0 A') := rfl
theorem wcG_C_14 (m : Nat) (a b c : Int) (A : cS) (Q : Int → cS → Prop) : wcG_C (m + 1) 14 a b c A Q = wc_Coder_arguments (wcG_C m) A a b (fun A' => Q 0 A') := rfl
theorem wcG_C_15 (m : Nat) (a b c : Int) (A : cS) (Q : Int → cS → Prop) : wcG_C (m + 1) 15 a b c A Q = wc_Coder_valof (wcG_C m) A a (fun A' => Q 0 A') := rfl
theorem wcG_C_16 (m : Nat) (a b c : Int) (A : cS) (Q : Int → cS → Prop) : wcG_C (m + 1) 16 a b c A Q = wc_Coder_choice (wcG_C m) A a (fun A' => Q 0 A') := rfl
theorem ffG_C : ∀ (m : Nat) (i : Nat) (a b c : Int) (A : cS) (Q Q' : Int → cS → Prop), wcG_C m i a b c A Q → (∀ (e : Int) (A' : cS), ySm A A' [1, 2, 4, 5, 6, 10, 24, 25, 26, 27, 28, 29, 30, 31, 32, 33] [4, 5, 13, 14, 15, 16, 17, 18, 19, 20, 21, 22, 23, 24, 37, 38, 39, 40] → Q e A' → Q' e A') → wcG_C m i a b c A Q' := by
  intro m
  induction m with
  | zero => intro i a b c A Q Q' hw hq; exact hw
  | succ m ih =>
    intro i a b c A Q Q' hw hq
    match i with
    | 0 => exact Eq.mpr (wcG_C_0 _ _ _ _ _ _) (ffm_Coder_routines ih (Eq.mp (wcG_C_0 _ _ _ _ _ _) hw) (fun A' f q => hq _ A' f q))
    | 1 => exact Eq.mpr (wcG_C_1 _ _ _ _ _ _) (ffm_Coder_routine ih (Eq.mp (wcG_C_1 _ _ _ _ _ _) hw) (fun A' f q => hq _ A' f q))
    | 2 => exact Eq.mpr (wcG_C_2 _ _ _ _ _ _) (ffm_Coder_variables ih (Eq.mp (wcG_C_2 _ _ _ _ _ _) hw) (fun A' f q => hq _ A' f q))
    | 3 => exact Eq.mpr (wcG_C_3 _ _ _ _ _ _) (ffm_Coder_section ih (Eq.mp (wcG_C_3 _ _ _ _ _ _) hw) (fun A' f q => hq _ A' f q))
    | 4 => exact Eq.mpr (wcG_C_4 _ _ _ _ _ _) (ffm_Coder_command ih (Eq.mp (wcG_C_4 _ _ _ _ _ _) hw) (fun A' f q => hq _ A' f q))
    | 5 => exact Eq.mpr (wcG_C_5 _ _ _ _ _ _) (ffm_Coder_assignment ih (Eq.mp (wcG_C_5 _ _ _ _ _ _) hw) (fun A' f q => hq _ A' f q))
    | 6 => exact Eq.mpr (wcG_C_6 _ _ _ _ _ _) (ffm_Coder_conditional ih (Eq.mp (wcG_C_6 _ _ _ _ _ _) hw) (fun A' f q => hq _ A' f q))
    | 7 => exact Eq.mpr (wcG_C_7 _ _ _ _ _ _) (ffm_Coder_asking ih (Eq.mp (wcG_C_7 _ _ _ _ _ _) hw) (fun A' f q => hq _ A' f q))
    | 8 => exact Eq.mpr (wcG_C_8 _ _ _ _ _ _) (ffm_Coder_repeats ih (Eq.mp (wcG_C_8 _ _ _ _ _ _) hw) (fun A' f q => hq _ A' f q))
    | 9 => exact Eq.mpr (wcG_C_9 _ _ _ _ _ _) (ffm_Coder_counting ih (Eq.mp (wcG_C_9 _ _ _ _ _ _) hw) (fun A' f q => hq _ A' f q))
    | 10 => exact Eq.mpr (wcG_C_10 _ _ _ _ _ _) (ffm_Coder_switching ih (Eq.mp (wcG_C_10 _ _ _ _ _ _) hw) (fun A' f q => hq _ A' f q))
    | 11 => exact Eq.mpr (wcG_C_11 _ _ _ _ _ _) (ffm_Coder_telling ih (Eq.mp (wcG_C_11 _ _ _ _ _ _) hw) (fun A' f q => hq _ A' f q))
    | 12 => exact Eq.mpr (wcG_C_12 _ _ _ _ _ _) (ffm_Coder_expression ih (Eq.mp (wcG_C_12 _ _ _ _ _ _) hw) (fun A' f q => hq _ A' f q))
    | 13 => exact Eq.mpr (wcG_C_13 _ _ _ _ _ _) (ffm_Coder_calls ih (Eq.mp (wcG_C_13 _ _ _ _ _ _) hw) (fun A' f q => hq _ A' f q))
    | 14 => exact Eq.mpr (wcG_C_14 _ _ _ _ _ _) (ffm_Coder_arguments ih (Eq.mp (wcG_C_14 _ _ _ _ _ _) hw) (fun A' f q => hq _ A' f q))
    | 15 => exact Eq.mpr (wcG_C_15 _ _ _ _ _ _) (ffm_Coder_valof ih (Eq.mp (wcG_C_15 _ _ _ _ _ _) hw) (fun A' f q => hq _ A' f q))
    | 16 => exact Eq.mpr (wcG_C_16 _ _ _ _ _ _) (ffm_Coder_choice ih (Eq.mp (wcG_C_16 _ _ _ _ _ _) hw) (fun A' f q => hq _ A' f q))
      | n + 17 => exact absurd hw (by unfold wcG_C; exact id)
theorem ffb_Coder_translate_67 {Q Q' : cS → Prop} {k67 k67' : cS → Int → Prop} {s0 : cS} {x2 : Int} (hq : ∀ (A' : cS), ySm s0 A' [1, 2, 4, 5, 6, 10, 24, 25, 26, 27, 28, 29, 30, 31, 32, 33] [4, 5, 13, 14, 15, 16, 17, 18, 19, 20, 21, 22, 23, 24, 37, 38, 39, 40] → Q A' → Q' A') (fk67 : ∀ (A' : cS) (x0 : Int), ySm s0 A' [1, 2, 4, 5, 6, 10, 24, 25, 26, 27, 28, 29, 30, 31, 32, 33] [4, 5, 13, 14, 15, 16, 17, 18, 19, 20, 21, 22, 23, 24, 37, 38, 39, 40] → k67 A' x0 → k67' A' x0) (hw : wc_Coder_translate_67B Q k67 s0 x2) : wc_Coder_translate_67B Q' k67' s0 x2 := by
  unfold wc_Coder_translate_67B at hw ⊢
  obtain ⟨o1, h2⟩ := hw
  refine ⟨o1, ?_⟩
  refine ⟨fun c3 => ?_, fun c3 => ?_⟩
  · have h4 := h2.1 c3
    exact hq _ ySm.rf h4
  · have h5 := h2.2 c3
    refine ffm_Program_setOperand h5 (fun A7 f1 h13 => ?_)
    obtain ⟨o14, h15⟩ := h13
    refine ⟨o14, ?_⟩
    exact fk67 _ _ (ySm.rf.tr f1 rfl rfl) h15
theorem ffl_Coder_translate_670 {Q Q' : cS → Prop}  : ∀ (m : Nat) (s0 : cS) (x2 : Int), (∀ (A' : cS), ySm s0 A' [1, 2, 4, 5, 6, 10, 24, 25, 26, 27, 28, 29, 30, 31, 32, 33] [4, 5, 13, 14, 15, 16, 17, 18, 19, 20, 21, 22, 23, 24, 37, 38, 39, 40] → Q A' → Q' A') → wc_Coder_translate_67 Q  m s0 x2 → wc_Coder_translate_67 Q'  m s0 x2 := by
  intro m
  induction m with
  | zero => intro s0 x2 hq  hw; exact hw
  | succ m ih => intro s0 x2 hq  hw; exact ffb_Coder_translate_67 hq  (fun A' y0 f1 q => ih A' y0 (fun A' f q => hq A' (f1.tr f rfl rfl) q)  q) hw
theorem ffm_Coder_translate {s0 : cS} {a0 : Int} {Q Q' : cS → Prop} (hw : wc_Coder_translate s0 a0 Q) (hq : ∀ (A' : cS), ySm s0 A' [1, 2, 4, 5, 6, 10, 24, 25, 26, 27, 28, 29, 30, 31, 32, 33] [4, 5, 13, 14, 15, 16, 17, 18, 19, 20, 21, 22, 23, 24, 37, 38, 39, 40] → Q A' → Q' A') : wc_Coder_translate s0 a0 Q' := by
  unfold wc_Coder_translate at hw ⊢
  refine ffm_Scope_clear hw (fun A2 f1 h8 => ?_)
  refine ffm_Coder_leaveAll h8 (fun A22 f2 h28 => ?_)
  obtain ⟨m84, hm85, h86⟩ := h28
  refine ⟨m84, hm85, ?_⟩
  refine ffG_C m84 _ _ _ _ _ _ _ h86 (fun r87 A88 f3 h94 => ?_)
  obtain ⟨m95, h96⟩ := h94
  exact ⟨m95, ffl_Coder_translate_670 m95 _ _ (fun A' f q => hq A' ((((((((((((ySm.rf.tr f1 rfl rfl).cut rfl).cut rfl).cut rfl).tr f2 rfl rfl).pv rfl).pv rfl).pv rfl).pv rfl).pv rfl).tr f3 rfl rfl).tr f rfl rfl) q)  h96⟩
theorem ffm_Parser_root {s0 : cS}  {Q Q' : Int → cS → Prop} (hw : wc_Parser_root s0  Q) (hq : ∀ (e : Int) (A' : cS), ySm s0 A' [] [] → Q e A' → Q' e A') : wc_Parser_root s0  Q' := by
  unfold wc_Parser_root at hw ⊢
  exact hq _ _ ySm.rf hw
theorem ffm_Parser_place {s0 : cS}  {Q Q' : Int → cS → Prop} (hw : wc_Parser_place s0  Q) (hq : ∀ (e : Int) (A' : cS), ySm s0 A' [] [] → Q e A' → Q' e A') : wc_Parser_place s0  Q' := by
  unfold wc_Parser_place at hw ⊢
  exact hq _ _ ySm.rf hw
theorem ffm_Parser_kind {s0 : cS}  {Q Q' : Int → cS → Prop} (hw : wc_Parser_kind s0  Q) (hq : ∀ (e : Int) (A' : cS), ySm s0 A' [] [] → Q e A' → Q' e A') : wc_Parser_kind s0  Q' := by
  unfold wc_Parser_kind at hw ⊢
  exact hq _ _ ySm.rf hw
theorem ffm_Parser_info {s0 : cS}  {Q Q' : Int → cS → Prop} (hw : wc_Parser_info s0  Q) (hq : ∀ (e : Int) (A' : cS), ySm s0 A' [] [] → Q e A' → Q' e A') : wc_Parser_info s0  Q' := by
  unfold wc_Parser_info at hw ⊢
  exact hq _ _ ySm.rf hw
theorem ffm_Parser_advance {s0 : cS}  {Q Q' : cS → Prop} (hw : wc_Parser_advance s0  Q) (hq : ∀ (A' : cS), ySm s0 A' [] [10] → Q A' → Q' A') : wc_Parser_advance s0  Q' := by
  unfold wc_Parser_advance at hw ⊢
  refine ⟨fun c1 => ?_, fun c1 => ?_⟩
  · have h2 := hw.1 c1
    exact hq _ ySm.rf h2
  · have h3 := hw.2 c1
    obtain ⟨o4, h5⟩ := h3
    refine ⟨o4, ?_⟩
    exact hq _ (ySm.rf.pv rfl) h5
theorem ffm_Parser_leaf {s0 : cS} {a0 : Int} {Q Q' : Int → cS → Prop} (hw : wc_Parser_leaf s0 a0 Q) (hq : ∀ (e : Int) (A' : cS), ySm s0 A' [7, 8, 9, 10, 11, 12, 13] [10] → Q e A' → Q' e A') : wc_Parser_leaf s0 a0 Q' := by
  unfold wc_Parser_leaf at hw ⊢
  refine ffm_Parser_place hw (fun r1 A2 f1 h8 => ?_)
  refine ffm_Parser_info h8 (fun r9 A10 f2 h16 => ?_)
  refine ffm_Tree_node h16 (fun r17 A18 f3 h24 => ?_)
  refine ffm_Parser_advance h24 (fun A26 f4 h32 => ?_)
  exact hq _ _ ((((ySm.rf.tr f1 rfl rfl).tr f2 rfl rfl).tr f3 rfl rfl).tr f4 rfl rfl) h32
