/-! the class as formulas: statics, scope -/
def wc_W_worked (A0 : cS) (a0 : Int) (a1 : Int) (a2 : Int) (Q : Int → cS → Prop) : Prop :=
  (((a0 = 16) → ∀ z4 : Int, z4 = zw (a1 + a2) → zR z4 → Q z4 A0) ∧ ((a0 = 17) → ∀ z11 : Int, z11 = zw (a1 - a2) → zR z11 → Q z11 A0) ∧ ((a0 = 18) → ∀ z18 : Int, z18 = zw (a1 * a2) → zR z18 → Q z18 A0) ∧ ((a0 = 19) → ((¬ a2 = 0 → (¬ a2 = 0) ∧ Q (zd a1 a2) A0) ∧ (a2 = 0 → Q 0 A0))) ∧ ((a0 = 26) → ((a2 < 0 → Q 0 A0) ∧ (¬ a2 < 0 → ((a2 ≤ 31 → Q (zsl a1 a2) A0) ∧ (¬ a2 ≤ 31 → Q 0 A0))))) ∧ ((a0 = 27) → ((a2 < 0 → Q 0 A0) ∧ (¬ a2 < 0 → ((a2 ≤ 31 → Q (zus a1 a2) A0) ∧ (¬ a2 ≤ 31 → Q 0 A0))))) ∧ ((a0 = 29) → Q (zan a1 a2) A0) ∧ ((a0 = 30) → Q (zor a1 a2) A0) ∧ ((a0 = 70) → Q (zxo (zxo a1 a2) (-1)) A0) ∧ ((a0 = 72) → ((¬ a2 = 0 → (¬ a2 = 0) ∧ ∀ z64 : Int, z64 = zw (a1 - zd a1 a2 * a2) → zR z64 → Q z64 A0) ∧ (a2 = 0 → Q 0 A0))) ∧ (¬ (a0 = 16) → ¬ (a0 = 17) → ¬ (a0 = 18) → ¬ (a0 = 19) → ¬ (a0 = 26) → ¬ (a0 = 27) → ¬ (a0 = 29) → ¬ (a0 = 30) → ¬ (a0 = 70) → ¬ (a0 = 72) → Q (zxo a1 a2) A0))
set_option maxHeartbeats 4000000 in
set_option maxRecDepth 100000 in
theorem cm_W_worked (l : Launch) (d : gD) (b : Nat) {Y : gYt} {c : Nat × Nat} {F : gM} {k n : Nat} {S : gSt} {A0 : cS} {a0 : Int} {a1 : Int} {a2 : Int} (Ra0 : zR a0) (Ra1 : zR a1) (Ra2 : zR a2) {Q : Int → cS → Prop} (hZ : yZ d b Y c F S (F, k, n) S A0) (hw : wc_W_worked A0 a0 a1 a2 Q) : hMi l d b yX11_worked cX11_worked 3 .int 0 k n F [.int (zI a0), .int (zI a1), .int (zI a2)] (yPi d b Y c F S Q) := by
  intro mc ms
  refine hM_of2 rfl (nL := 3) (Nat.le_of_ble_eq_true rfl) ?_
  intro X hX hC hr ho; subst hX
  show yG X d b (yQi X d b Y c F S mc ms Q) (F, k, n) 0 [some (.int (zI a0)), some (.int (zI a1)), some (.int (zI a2))] []
  unfold wc_W_worked at hw
  refine h_iload_n hC dX11_worked_0 rfl ?_
  by_cases g1 : a0 = 16
  · have h3 := (hw.1) g1
    have T2 : yG X d b (yQi X d b Y c F S mc ms Q) (F, k, n) 92 [some (.int (zI a0)), some (.int (zI a1)), some (.int (zI a2))] [] := by
      refine h_iload_n hC dX11_worked_92 rfl ?_
      refine h_iload_n hC dX11_worked_93 rfl ?_
      refine yr_iadd hC dX11_worked_94 ?_
      refine yr_w (fun z4 e5 R6 => ?_)
      have h7 := h3 z4 e5 R6
      exact yr_iret hC hr ho hZ R6 h7 dX11_worked_95
    clear h3
    exact yr_lokAt (v := 16) hC dX11_worked_1 Ra0 (by decide) g1 rfl (by decide) T2
  · skip
    by_cases g8 : a0 = 17
    · have h10 := (hw.2.1) g8
      have T9 : yG X d b (yQi X d b Y c F S mc ms Q) (F, k, n) 96 [some (.int (zI a0)), some (.int (zI a1)), some (.int (zI a2))] [] := by
        refine h_iload_n hC dX11_worked_96 rfl ?_
        refine h_iload_n hC dX11_worked_97 rfl ?_
        refine yr_isub hC dX11_worked_98 ?_
        refine yr_w (fun z11 e12 R13 => ?_)
        have h14 := h10 z11 e12 R13
        exact yr_iret hC hr ho hZ R13 h14 dX11_worked_99
      clear h10
      exact yr_lokAt (v := 17) hC dX11_worked_1 Ra0 (by decide) g8 rfl (by decide) T9
    · skip
      by_cases g15 : a0 = 18
      · have h17 := (hw.2.2.1) g15
        have T16 : yG X d b (yQi X d b Y c F S mc ms Q) (F, k, n) 100 [some (.int (zI a0)), some (.int (zI a1)), some (.int (zI a2))] [] := by
          refine h_iload_n hC dX11_worked_100 rfl ?_
          refine h_iload_n hC dX11_worked_101 rfl ?_
          refine yr_imul hC dX11_worked_102 ?_
          refine yr_w (fun z18 e19 R20 => ?_)
          have h21 := h17 z18 e19 R20
          exact yr_iret hC hr ho hZ R20 h21 dX11_worked_103
        clear h17
        exact yr_lokAt (v := 18) hC dX11_worked_1 Ra0 (by decide) g15 rfl (by decide) T16
      · skip
        by_cases g22 : a0 = 19
        · have h24 := (hw.2.2.2.1) g22
          have T23 : yG X d b (yQi X d b Y c F S mc ms Q) (F, k, n) 104 [some (.int (zI a0)), some (.int (zI a1)), some (.int (zI a2))] [] := by
            refine h_iload_n hC dX11_worked_104 rfl ?_
            refine yr_if_ne (tgt := 112) hC Ra2 dX11_worked_105 (by decide) (fun c25 => ?_) (fun c25 => ?_)
            · have h26 := h24.1 c25
              refine h_iload_n hC dX11_worked_112 rfl ?_
              refine h_iload_n hC dX11_worked_113 rfl ?_
              obtain ⟨o27, h28⟩ := h26
              refine yr_idiv hC dX11_worked_114 Ra2 o27 ?_
              exact yr_iret hC hr ho hZ (zR_t _) h28 dX11_worked_115
            · have h29 := h24.2 c25
              refine h_iconst (v := zI 0) hC dX11_worked_108 rfl ?_
              refine h_goto (tgt := 115) hC dX11_worked_109 (by decide) ?_
              exact yr_iret hC hr ho hZ (by decide) h29 dX11_worked_115
          clear h24
          exact yr_lokAt (v := 19) hC dX11_worked_1 Ra0 (by decide) g22 rfl (by decide) T23
        · skip
          by_cases g30 : a0 = 26
          · have h32 := (hw.2.2.2.2.1) g30
            have T31 : yG X d b (yQi X d b Y c F S mc ms Q) (F, k, n) 128 [some (.int (zI a0)), some (.int (zI a1)), some (.int (zI a2))] [] := by
              refine h_iload_n hC dX11_worked_128 rfl ?_
              refine yr_if_lt (tgt := 138) hC Ra2 dX11_worked_129 (by decide) (fun c33 => ?_) (fun c33 => ?_)
              · have h34 := h32.1 c33
                refine h_iconst (v := zI 0) hC dX11_worked_138 rfl ?_
                refine h_goto (tgt := 145) hC dX11_worked_139 (by decide) ?_
                exact yr_iret hC hr ho hZ (by decide) h34 dX11_worked_145
              · have h35 := h32.2 c33
                refine h_iload_n hC dX11_worked_132 rfl ?_
                refine h_bipush (v := zI 31) hC dX11_worked_133 rfl ?_
                refine yr_icmp_le (tgt := 142) hC Ra2 (by decide) dX11_worked_135 (by decide) (fun c36 => ?_) (fun c36 => ?_)
                · have h37 := h35.1 c36
                  refine h_iload_n hC dX11_worked_142 rfl ?_
                  refine h_iload_n hC dX11_worked_143 rfl ?_
                  refine yr_ishl hC dX11_worked_144 ?_
                  exact yr_iret hC hr ho hZ (zR_t _) h37 dX11_worked_145
                · have h38 := h35.2 c36
                  refine h_iconst (v := zI 0) hC dX11_worked_138 rfl ?_
                  refine h_goto (tgt := 145) hC dX11_worked_139 (by decide) ?_
                  exact yr_iret hC hr ho hZ (by decide) h38 dX11_worked_145
            clear h32
            exact yr_lokAt (v := 26) hC dX11_worked_1 Ra0 (by decide) g30 rfl (by decide) T31
          · skip
            by_cases g39 : a0 = 27
            · have h41 := (hw.2.2.2.2.2.1) g39
              have T40 : yG X d b (yQi X d b Y c F S mc ms Q) (F, k, n) 146 [some (.int (zI a0)), some (.int (zI a1)), some (.int (zI a2))] [] := by
                refine h_iload_n hC dX11_worked_146 rfl ?_
                refine yr_if_lt (tgt := 156) hC Ra2 dX11_worked_147 (by decide) (fun c42 => ?_) (fun c42 => ?_)
                · have h43 := h41.1 c42
                  refine h_iconst (v := zI 0) hC dX11_worked_156 rfl ?_
                  refine h_goto (tgt := 163) hC dX11_worked_157 (by decide) ?_
                  exact yr_iret hC hr ho hZ (by decide) h43 dX11_worked_163
                · have h44 := h41.2 c42
                  refine h_iload_n hC dX11_worked_150 rfl ?_
                  refine h_bipush (v := zI 31) hC dX11_worked_151 rfl ?_
                  refine yr_icmp_le (tgt := 160) hC Ra2 (by decide) dX11_worked_153 (by decide) (fun c45 => ?_) (fun c45 => ?_)
                  · have h46 := h44.1 c45
                    refine h_iload_n hC dX11_worked_160 rfl ?_
                    refine h_iload_n hC dX11_worked_161 rfl ?_
                    refine yr_iushr hC dX11_worked_162 ?_
                    exact yr_iret hC hr ho hZ (zR_t _) h46 dX11_worked_163
                  · have h47 := h44.2 c45
                    refine h_iconst (v := zI 0) hC dX11_worked_156 rfl ?_
                    refine h_goto (tgt := 163) hC dX11_worked_157 (by decide) ?_
                    exact yr_iret hC hr ho hZ (by decide) h47 dX11_worked_163
              clear h41
              exact yr_lokAt (v := 27) hC dX11_worked_1 Ra0 (by decide) g39 rfl (by decide) T40
            · skip
              by_cases g48 : a0 = 29
              · have h50 := (hw.2.2.2.2.2.2.1) g48
                have T49 : yG X d b (yQi X d b Y c F S mc ms Q) (F, k, n) 164 [some (.int (zI a0)), some (.int (zI a1)), some (.int (zI a2))] [] := by
                  refine h_iload_n hC dX11_worked_164 rfl ?_
                  refine h_iload_n hC dX11_worked_165 rfl ?_
                  refine yr_iand hC dX11_worked_166 ?_
                  exact yr_iret hC hr ho hZ (zR_t _) h50 dX11_worked_167
                clear h50
                exact yr_lokAt (v := 29) hC dX11_worked_1 Ra0 (by decide) g48 rfl (by decide) T49
              · skip
                by_cases g51 : a0 = 30
                · have h53 := (hw.2.2.2.2.2.2.2.1) g51
                  have T52 : yG X d b (yQi X d b Y c F S mc ms Q) (F, k, n) 168 [some (.int (zI a0)), some (.int (zI a1)), some (.int (zI a2))] [] := by
                    refine h_iload_n hC dX11_worked_168 rfl ?_
                    refine h_iload_n hC dX11_worked_169 rfl ?_
                    refine yr_ior hC dX11_worked_170 ?_
                    exact yr_iret hC hr ho hZ (zR_t _) h53 dX11_worked_171
                  clear h53
                  exact yr_lokAt (v := 30) hC dX11_worked_1 Ra0 (by decide) g51 rfl (by decide) T52
                · skip
                  by_cases g54 : a0 = 70
                  · have h56 := (hw.2.2.2.2.2.2.2.2.1) g54
                    have T55 : yG X d b (yQi X d b Y c F S mc ms Q) (F, k, n) 172 [some (.int (zI a0)), some (.int (zI a1)), some (.int (zI a2))] [] := by
                      refine h_iload_n hC dX11_worked_172 rfl ?_
                      refine h_iload_n hC dX11_worked_173 rfl ?_
                      refine yr_ixor hC dX11_worked_174 ?_
                      refine h_iconst (v := zI (-1)) hC dX11_worked_175 rfl ?_
                      refine yr_ixor hC dX11_worked_176 ?_
                      exact yr_iret hC hr ho hZ (zR_t _) h56 dX11_worked_177
                    clear h56
                    exact yr_lokAt (v := 70) hC dX11_worked_1 Ra0 (by decide) g54 rfl (by decide) T55
                  · skip
                    by_cases g57 : a0 = 72
                    · have h59 := (hw.2.2.2.2.2.2.2.2.2.1) g57
                      have T58 : yG X d b (yQi X d b Y c F S mc ms Q) (F, k, n) 116 [some (.int (zI a0)), some (.int (zI a1)), some (.int (zI a2))] [] := by
                        refine h_iload_n hC dX11_worked_116 rfl ?_
                        refine yr_if_ne (tgt := 124) hC Ra2 dX11_worked_117 (by decide) (fun c60 => ?_) (fun c60 => ?_)
                        · have h61 := h59.1 c60
                          refine h_iload_n hC dX11_worked_124 rfl ?_
                          refine h_iload_n hC dX11_worked_125 rfl ?_
                          obtain ⟨o62, h63⟩ := h61
                          refine yr_irem hC dX11_worked_126 Ra2 o62 ?_
                          refine yr_w (fun z64 e65 R66 => ?_)
                          have h67 := h63 z64 e65 R66
                          exact yr_iret hC hr ho hZ R66 h67 dX11_worked_127
                        · have h68 := h59.2 c60
                          refine h_iconst (v := zI 0) hC dX11_worked_120 rfl ?_
                          refine h_goto (tgt := 127) hC dX11_worked_121 (by decide) ?_
                          exact yr_iret hC hr ho hZ (by decide) h68 dX11_worked_127
                      clear h59
                      exact yr_lokAt (v := 72) hC dX11_worked_1 Ra0 (by decide) g57 rfl (by decide) T58
                    · skip
                      have h69 := hw.2.2.2.2.2.2.2.2.2.2 g1 g8 g15 g22 g30 g39 g48 g51 g54 g57
                      refine yr_lokD (tgt := 178) hC dX11_worked_1 Ra0 (by decide) (List.forall_mem_cons.mpr ⟨(fun q => g1 (q)), List.forall_mem_cons.mpr ⟨(fun q => g8 (q)), List.forall_mem_cons.mpr ⟨(fun q => g15 (q)), List.forall_mem_cons.mpr ⟨(fun q => g22 (q)), List.forall_mem_cons.mpr ⟨(fun q => g30 (q)), List.forall_mem_cons.mpr ⟨(fun q => g39 (q)), List.forall_mem_cons.mpr ⟨(fun q => g48 (q)), List.forall_mem_cons.mpr ⟨(fun q => g51 (q)), List.forall_mem_cons.mpr ⟨(fun q => g54 (q)), List.forall_mem_cons.mpr ⟨(fun q => g57 (q)), fun q hq => absurd hq List.not_mem_nil⟩⟩⟩⟩⟩⟩⟩⟩⟩⟩) (by decide) ?_
                      refine h_iload_n hC dX11_worked_178 rfl ?_
                      refine h_iload_n hC dX11_worked_179 rfl ?_
                      refine yr_ixor hC dX11_worked_180 ?_
                      exact yr_iret hC hr ho hZ (zR_t _) h69 dX11_worked_181
def wc_W_holds (A0 : cS) (a0 : Int) (a1 : Int) (a2 : Int) (Q : Int → cS → Prop) : Prop :=
  (((a0 = 20) → ((¬ a1 = a2 → Q 0 A0) ∧ (a1 = a2 → Q 1 A0))) ∧ ((a0 = 21) → ((a1 = a2 → Q 0 A0) ∧ (¬ a1 = a2 → Q 1 A0))) ∧ ((a0 = 22) → ((a2 ≤ a1 → Q 0 A0) ∧ (¬ a2 ≤ a1 → Q 1 A0))) ∧ ((a0 = 23) → ((a2 < a1 → Q 0 A0) ∧ (¬ a2 < a1 → Q 1 A0))) ∧ ((a0 = 24) → ((a1 ≤ a2 → Q 0 A0) ∧ (¬ a1 ≤ a2 → Q 1 A0))) ∧ (¬ (a0 = 20) → ¬ (a0 = 21) → ¬ (a0 = 22) → ¬ (a0 = 23) → ¬ (a0 = 24) → ((a1 < a2 → Q 0 A0) ∧ (¬ a1 < a2 → Q 1 A0))))
set_option maxHeartbeats 4000000 in
set_option maxRecDepth 100000 in
theorem cm_W_holds (l : Launch) (d : gD) (b : Nat) {Y : gYt} {c : Nat × Nat} {F : gM} {k n : Nat} {S : gSt} {A0 : cS} {a0 : Int} {a1 : Int} {a2 : Int} (Ra0 : zR a0) (Ra1 : zR a1) (Ra2 : zR a2) {Q : Int → cS → Prop} (hZ : yZ d b Y c F S (F, k, n) S A0) (hw : wc_W_holds A0 a0 a1 a2 Q) : hMi l d b yX11_holds cX11_holds 3 .boolean 0 k n F [.int (zI a0), .int (zI a1), .int (zI a2)] (yPi d b Y c F S Q) := by
  intro mc ms
  refine hM_of2 rfl (nL := 3) (Nat.le_of_ble_eq_true rfl) ?_
  intro X hX hC hr ho; subst hX
  show yG X d b (yQi X d b Y c F S mc ms Q) (F, k, n) 0 [some (.int (zI a0)), some (.int (zI a1)), some (.int (zI a2))] []
  unfold wc_W_holds at hw
  refine h_iload_n hC dX11_holds_0 rfl ?_
  by_cases g1 : a0 = 20
  · have h3 := (hw.1) g1
    have T2 : yG X d b (yQi X d b Y c F S mc ms Q) (F, k, n) 36 [some (.int (zI a0)), some (.int (zI a1)), some (.int (zI a2))] [] := by
      refine h_iload_n hC dX11_holds_36 rfl ?_
      refine h_iload_n hC dX11_holds_37 rfl ?_
      refine yr_icmp_ne (tgt := 45) hC Ra1 Ra2 dX11_holds_38 (by decide) (fun c4 => ?_) (fun c4 => ?_)
      · have h5 := h3.1 c4
        refine h_iconst (v := zI 0) hC dX11_holds_45 rfl ?_
        exact yr_zret hC hr ho hZ (Or.inl rfl) h5 dX11_holds_46
      · have h6 := h3.2 c4
        refine h_iconst (v := zI 1) hC dX11_holds_41 rfl ?_
        refine h_goto (tgt := 46) hC dX11_holds_42 (by decide) ?_
        exact yr_zret hC hr ho hZ (Or.inr rfl) h6 dX11_holds_46
    clear h3
    exact yr_tabAt (v := 20) hC dX11_holds_1 Ra0 g1 (by decide) (by decide) rfl (by decide) T2
  · skip
    by_cases g7 : a0 = 21
    · have h9 := (hw.2.1) g7
      have T8 : yG X d b (yQi X d b Y c F S mc ms Q) (F, k, n) 47 [some (.int (zI a0)), some (.int (zI a1)), some (.int (zI a2))] [] := by
        refine h_iload_n hC dX11_holds_47 rfl ?_
        refine h_iload_n hC dX11_holds_48 rfl ?_
        refine yr_icmp_eq (tgt := 56) hC Ra1 Ra2 dX11_holds_49 (by decide) (fun c10 => ?_) (fun c10 => ?_)
        · have h11 := h9.1 c10
          refine h_iconst (v := zI 0) hC dX11_holds_56 rfl ?_
          exact yr_zret hC hr ho hZ (Or.inl rfl) h11 dX11_holds_57
        · have h12 := h9.2 c10
          refine h_iconst (v := zI 1) hC dX11_holds_52 rfl ?_
          refine h_goto (tgt := 57) hC dX11_holds_53 (by decide) ?_
          exact yr_zret hC hr ho hZ (Or.inr rfl) h12 dX11_holds_57
      clear h9
      exact yr_tabAt (v := 21) hC dX11_holds_1 Ra0 g7 (by decide) (by decide) rfl (by decide) T8
    · skip
      by_cases g13 : a0 = 22
      · have h15 := (hw.2.2.1) g13
        have T14 : yG X d b (yQi X d b Y c F S mc ms Q) (F, k, n) 58 [some (.int (zI a0)), some (.int (zI a1)), some (.int (zI a2))] [] := by
          refine h_iload_n hC dX11_holds_58 rfl ?_
          refine h_iload_n hC dX11_holds_59 rfl ?_
          refine yr_icmp_ge (tgt := 67) hC Ra1 Ra2 dX11_holds_60 (by decide) (fun c16 => ?_) (fun c16 => ?_)
          · have h17 := h15.1 c16
            refine h_iconst (v := zI 0) hC dX11_holds_67 rfl ?_
            exact yr_zret hC hr ho hZ (Or.inl rfl) h17 dX11_holds_68
          · have h18 := h15.2 c16
            refine h_iconst (v := zI 1) hC dX11_holds_63 rfl ?_
            refine h_goto (tgt := 68) hC dX11_holds_64 (by decide) ?_
            exact yr_zret hC hr ho hZ (Or.inr rfl) h18 dX11_holds_68
        clear h15
        exact yr_tabAt (v := 22) hC dX11_holds_1 Ra0 g13 (by decide) (by decide) rfl (by decide) T14
      · skip
        by_cases g19 : a0 = 23
        · have h21 := (hw.2.2.2.1) g19
          have T20 : yG X d b (yQi X d b Y c F S mc ms Q) (F, k, n) 69 [some (.int (zI a0)), some (.int (zI a1)), some (.int (zI a2))] [] := by
            refine h_iload_n hC dX11_holds_69 rfl ?_
            refine h_iload_n hC dX11_holds_70 rfl ?_
            refine yr_icmp_gt (tgt := 78) hC Ra1 Ra2 dX11_holds_71 (by decide) (fun c22 => ?_) (fun c22 => ?_)
            · have h23 := h21.1 c22
              refine h_iconst (v := zI 0) hC dX11_holds_78 rfl ?_
              exact yr_zret hC hr ho hZ (Or.inl rfl) h23 dX11_holds_79
            · have h24 := h21.2 c22
              refine h_iconst (v := zI 1) hC dX11_holds_74 rfl ?_
              refine h_goto (tgt := 79) hC dX11_holds_75 (by decide) ?_
              exact yr_zret hC hr ho hZ (Or.inr rfl) h24 dX11_holds_79
          clear h21
          exact yr_tabAt (v := 23) hC dX11_holds_1 Ra0 g19 (by decide) (by decide) rfl (by decide) T20
        · skip
          by_cases g25 : a0 = 24
          · have h27 := (hw.2.2.2.2.1) g25
            have T26 : yG X d b (yQi X d b Y c F S mc ms Q) (F, k, n) 80 [some (.int (zI a0)), some (.int (zI a1)), some (.int (zI a2))] [] := by
              refine h_iload_n hC dX11_holds_80 rfl ?_
              refine h_iload_n hC dX11_holds_81 rfl ?_
              refine yr_icmp_le (tgt := 89) hC Ra1 Ra2 dX11_holds_82 (by decide) (fun c28 => ?_) (fun c28 => ?_)
              · have h29 := h27.1 c28
                refine h_iconst (v := zI 0) hC dX11_holds_89 rfl ?_
                exact yr_zret hC hr ho hZ (Or.inl rfl) h29 dX11_holds_90
              · have h30 := h27.2 c28
                refine h_iconst (v := zI 1) hC dX11_holds_85 rfl ?_
                refine h_goto (tgt := 90) hC dX11_holds_86 (by decide) ?_
                exact yr_zret hC hr ho hZ (Or.inr rfl) h30 dX11_holds_90
            clear h27
            exact yr_tabAt (v := 24) hC dX11_holds_1 Ra0 g25 (by decide) (by decide) rfl (by decide) T26
          · skip
            have h31 := hw.2.2.2.2.2 g1 g7 g13 g19 g25
            refine yr_tabD (tgt := 91) [20, 21, 22, 23, 24] hC dX11_holds_1 Ra0 (by decide) (by decide) (List.forall_mem_cons.mpr ⟨(fun q => g1 (q)), List.forall_mem_cons.mpr ⟨(fun q => g7 (q)), List.forall_mem_cons.mpr ⟨(fun q => g13 (q)), List.forall_mem_cons.mpr ⟨(fun q => g19 (q)), List.forall_mem_cons.mpr ⟨(fun q => g25 (q)), fun q hq => absurd hq List.not_mem_nil⟩⟩⟩⟩⟩) (by decide) ?_
            refine h_iload_n hC dX11_holds_91 rfl ?_
            refine h_iload_n hC dX11_holds_92 rfl ?_
            refine yr_icmp_lt (tgt := 100) hC Ra1 Ra2 dX11_holds_93 (by decide) (fun c32 => ?_) (fun c32 => ?_)
            · have h33 := h31.1 c32
              refine h_iconst (v := zI 0) hC dX11_holds_100 rfl ?_
              exact yr_zret hC hr ho hZ (Or.inl rfl) h33 dX11_holds_101
            · have h34 := h31.2 c32
              refine h_iconst (v := zI 1) hC dX11_holds_96 rfl ?_
              refine h_goto (tgt := 101) hC dX11_holds_97 (by decide) ?_
              exact yr_zret hC hr ho hZ (Or.inr rfl) h34 dX11_holds_101
def wc_W_isRelation (A0 : cS) (a0 : Int) (Q : Int → cS → Prop) : Prop :=
  ((a0 < 20 → Q 0 A0) ∧ (¬ a0 < 20 → ((25 < a0 → Q 0 A0) ∧ (¬ 25 < a0 → Q 1 A0))))
set_option maxHeartbeats 4000000 in
set_option maxRecDepth 100000 in
theorem cm_W_isRelation (l : Launch) (d : gD) (b : Nat) {Y : gYt} {c : Nat × Nat} {F : gM} {k n : Nat} {S : gSt} {A0 : cS} {a0 : Int} (Ra0 : zR a0) {Q : Int → cS → Prop} (hZ : yZ d b Y c F S (F, k, n) S A0) (hw : wc_W_isRelation A0 a0 Q) : hMi l d b yX11_isRelation cX11_isRelation 1 .boolean 0 k n F [.int (zI a0)] (yPi d b Y c F S Q) := by
  intro mc ms
  refine hM_of2 rfl (nL := 1) (Nat.le_of_ble_eq_true rfl) ?_
  intro X hX hC hr ho; subst hX
  show yG X d b (yQi X d b Y c F S mc ms Q) (F, k, n) 0 [some (.int (zI a0))] []
  unfold wc_W_isRelation at hw
  refine h_iload_n hC dX11_isRelation_0 rfl ?_
  refine h_bipush (v := zI 20) hC dX11_isRelation_1 rfl ?_
  refine yr_icmp_lt (tgt := 16) hC Ra0 (by decide) dX11_isRelation_3 (by decide) (fun c1 => ?_) (fun c1 => ?_)
  · have h2 := hw.1 c1
    refine h_iconst (v := zI 0) hC dX11_isRelation_16 rfl ?_
    exact yr_zret hC hr ho hZ (Or.inl rfl) h2 dX11_isRelation_17
  · have h3 := hw.2 c1
    refine h_iload_n hC dX11_isRelation_6 rfl ?_
    refine h_bipush (v := zI 25) hC dX11_isRelation_7 rfl ?_
    refine yr_icmp_gt (tgt := 16) hC Ra0 (by decide) dX11_isRelation_9 (by decide) (fun c4 => ?_) (fun c4 => ?_)
    · have h5 := h3.1 c4
      refine h_iconst (v := zI 0) hC dX11_isRelation_16 rfl ?_
      exact yr_zret hC hr ho hZ (Or.inl rfl) h5 dX11_isRelation_17
    · have h6 := h3.2 c4
      refine h_iconst (v := zI 1) hC dX11_isRelation_12 rfl ?_
      refine h_goto (tgt := 17) hC dX11_isRelation_13 (by decide) ?_
      exact yr_zret hC hr ho hZ (Or.inr rfl) h6 dX11_isRelation_17
def wc_W_power (A0 : cS) (a0 : Int) (Q : Int → cS → Prop) : Prop :=
  (((a0 = 16 ∨ a0 = 17) → Q 6 A0) ∧ ((a0 = 18 ∨ a0 = 19 ∨ a0 = 72) → Q 7 A0) ∧ ((a0 = 26 ∨ a0 = 27) → Q 4 A0) ∧ ((a0 = 29) → Q 3 A0) ∧ ((a0 = 30) → Q 2 A0) ∧ ((a0 = 70 ∨ a0 = 71) → Q 1 A0) ∧ (¬ (a0 = 16 ∨ a0 = 17) → ¬ (a0 = 18 ∨ a0 = 19 ∨ a0 = 72) → ¬ (a0 = 26 ∨ a0 = 27) → ¬ (a0 = 29) → ¬ (a0 = 30) → ¬ (a0 = 70 ∨ a0 = 71) → wc_W_isRelation A0 a0 (fun r20 A21 => ((r20 = 0 → Q 0 A21) ∧ (¬ r20 = 0 → Q 5 A21)))))
set_option maxHeartbeats 4000000 in
set_option maxRecDepth 100000 in
theorem cm_W_power (l : Launch) (d : gD) (b : Nat) {Y : gYt} {c : Nat × Nat} {F : gM} {k n : Nat} {S : gSt} {A0 : cS} {a0 : Int} (Ra0 : zR a0) {Q : Int → cS → Prop} (hZ : yZ d b Y c F S (F, k, n) S A0) (hw : wc_W_power A0 a0 Q) : hMi l d b yX11_power cX11_power 1 .int 1 k n F [.int (zI a0)] (yPi d b Y c F S Q) := by
  intro mc ms
  refine hM_of2 rfl (nL := 1) (Nat.le_of_ble_eq_true rfl) ?_
  intro X hX hC hr ho; subst hX
  show yG X d b (yQi X d b Y c F S mc ms Q) (F, k, n) 0 [some (.int (zI a0))] []
  unfold wc_W_power at hw
  refine h_iload_n hC dX11_power_0 rfl ?_
  by_cases g1 : a0 = 16 ∨ a0 = 17
  · have h3 := (hw.1) g1
    have T2 : yG X d b (yQi X d b Y c F S mc ms Q) (F, k, n) 108 [some (.int (zI a0))] [] := by
      refine h_bipush (v := zI 6) hC dX11_power_108 rfl ?_
      exact yr_iret hC hr ho hZ (by decide) h3 dX11_power_110
    clear h3
    rcases g1 with e1 | e1
    · exact zr_lokAt (v := 16) hC dX11_power_1 Ra0 (by decide) e1 rfl (by decide) T2
    · exact zr_lokAt (v := 17) hC dX11_power_1 Ra0 (by decide) e1 rfl (by decide) T2
  · skip
    by_cases g4 : a0 = 18 ∨ a0 = 19 ∨ a0 = 72
    · have h6 := (hw.2.1) g4
      have T5 : yG X d b (yQi X d b Y c F S mc ms Q) (F, k, n) 111 [some (.int (zI a0))] [] := by
        refine h_bipush (v := zI 7) hC dX11_power_111 rfl ?_
        exact yr_iret hC hr ho hZ (by decide) h6 dX11_power_113
      clear h6
      rcases g4 with e1 | e1 | e1
      · exact zr_lokAt (v := 18) hC dX11_power_1 Ra0 (by decide) e1 rfl (by decide) T5
      · exact zr_lokAt (v := 19) hC dX11_power_1 Ra0 (by decide) e1 rfl (by decide) T5
      · exact zr_lokAt (v := 72) hC dX11_power_1 Ra0 (by decide) e1 rfl (by decide) T5
    · skip
      by_cases g7 : a0 = 26 ∨ a0 = 27
      · have h9 := (hw.2.2.1) g7
        have T8 : yG X d b (yQi X d b Y c F S mc ms Q) (F, k, n) 106 [some (.int (zI a0))] [] := by
          refine h_iconst (v := zI 4) hC dX11_power_106 rfl ?_
          exact yr_iret hC hr ho hZ (by decide) h9 dX11_power_107
        clear h9
        rcases g7 with e1 | e1
        · exact zr_lokAt (v := 26) hC dX11_power_1 Ra0 (by decide) e1 rfl (by decide) T8
        · exact zr_lokAt (v := 27) hC dX11_power_1 Ra0 (by decide) e1 rfl (by decide) T8
      · skip
        by_cases g10 : a0 = 29
        · have h12 := (hw.2.2.2.1) g10
          have T11 : yG X d b (yQi X d b Y c F S mc ms Q) (F, k, n) 104 [some (.int (zI a0))] [] := by
            refine h_iconst (v := zI 3) hC dX11_power_104 rfl ?_
            exact yr_iret hC hr ho hZ (by decide) h12 dX11_power_105
          clear h12
          exact yr_lokAt (v := 29) hC dX11_power_1 Ra0 (by decide) g10 rfl (by decide) T11
        · skip
          by_cases g13 : a0 = 30
          · have h15 := (hw.2.2.2.2.1) g13
            have T14 : yG X d b (yQi X d b Y c F S mc ms Q) (F, k, n) 102 [some (.int (zI a0))] [] := by
              refine h_iconst (v := zI 2) hC dX11_power_102 rfl ?_
              exact yr_iret hC hr ho hZ (by decide) h15 dX11_power_103
            clear h15
            exact yr_lokAt (v := 30) hC dX11_power_1 Ra0 (by decide) g13 rfl (by decide) T14
          · skip
            by_cases g16 : a0 = 70 ∨ a0 = 71
            · have h18 := (hw.2.2.2.2.2.1) g16
              have T17 : yG X d b (yQi X d b Y c F S mc ms Q) (F, k, n) 100 [some (.int (zI a0))] [] := by
                refine h_iconst (v := zI 1) hC dX11_power_100 rfl ?_
                exact yr_iret hC hr ho hZ (by decide) h18 dX11_power_101
              clear h18
              rcases g16 with e1 | e1
              · exact zr_lokAt (v := 70) hC dX11_power_1 Ra0 (by decide) e1 rfl (by decide) T17
              · exact zr_lokAt (v := 71) hC dX11_power_1 Ra0 (by decide) e1 rfl (by decide) T17
            · skip
              have h19 := hw.2.2.2.2.2.2 g1 g4 g7 g10 g13 g16
              refine yr_lokD (tgt := 114) hC dX11_power_1 Ra0 (by decide) (List.forall_mem_cons.mpr ⟨(fun q => g1 (Or.inl q)), List.forall_mem_cons.mpr ⟨(fun q => g1 (Or.inr (q))), List.forall_mem_cons.mpr ⟨(fun q => g4 (Or.inl q)), List.forall_mem_cons.mpr ⟨(fun q => g4 (Or.inr (Or.inl q))), List.forall_mem_cons.mpr ⟨(fun q => g7 (Or.inl q)), List.forall_mem_cons.mpr ⟨(fun q => g7 (Or.inr (q))), List.forall_mem_cons.mpr ⟨(fun q => g10 (q)), List.forall_mem_cons.mpr ⟨(fun q => g13 (q)), List.forall_mem_cons.mpr ⟨(fun q => g16 (Or.inl q)), List.forall_mem_cons.mpr ⟨(fun q => g16 (Or.inr (q))), List.forall_mem_cons.mpr ⟨(fun q => g4 (Or.inr (Or.inr (q)))), fun q hq => absurd hq List.not_mem_nil⟩⟩⟩⟩⟩⟩⟩⟩⟩⟩⟩) (by decide) ?_
              refine h_iload_n hC dX11_power_114 rfl ?_
              refine yr_callSi (As := [.int (zI a0)]) hC hr ho hZ (cm_W_isRelation X.la d b Ra0 hZ.rs h19) cl_X11_160 rfl rfl (Nat.le_of_ble_eq_true rfl) (hFr_of (Nat.le_of_ble_eq_true rfl) (Nat.le_of_ble_eq_true rfl)) dX11_power_115 (fun r20 A21 u22 S23 R24 o25 hZ26 h27 => ?_)
              refine yr_if_eq (tgt := 125) hC R24 dX11_power_118 (by decide) (fun c28 => ?_) (fun c28 => ?_)
              · have h29 := h27.1 c28
                refine h_iconst (v := zI 0) hC dX11_power_125 rfl ?_
                exact yr_iret hC hr o25 hZ26 (by decide) h29 dX11_power_126
              · have h30 := h27.2 c28
                refine h_iconst (v := zI 5) hC dX11_power_121 rfl ?_
                refine h_goto (tgt := 126) hC dX11_power_122 (by decide) ?_
                exact yr_iret hC hr o25 hZ26 (by decide) h30 dX11_power_126
def wc_W_isDivision (A0 : cS) (a0 : Int) (Q : Int → cS → Prop) : Prop :=
  ((a0 = 19 → Q 1 A0) ∧ (¬ a0 = 19 → ((¬ a0 = 72 → Q 0 A0) ∧ (a0 = 72 → Q 1 A0))))
set_option maxHeartbeats 4000000 in
set_option maxRecDepth 100000 in
theorem cm_W_isDivision (l : Launch) (d : gD) (b : Nat) {Y : gYt} {c : Nat × Nat} {F : gM} {k n : Nat} {S : gSt} {A0 : cS} {a0 : Int} (Ra0 : zR a0) {Q : Int → cS → Prop} (hZ : yZ d b Y c F S (F, k, n) S A0) (hw : wc_W_isDivision A0 a0 Q) : hMi l d b yX11_isDivision cX11_isDivision 1 .boolean 0 k n F [.int (zI a0)] (yPi d b Y c F S Q) := by
  intro mc ms
  refine hM_of2 rfl (nL := 1) (Nat.le_of_ble_eq_true rfl) ?_
  intro X hX hC hr ho; subst hX
  show yG X d b (yQi X d b Y c F S mc ms Q) (F, k, n) 0 [some (.int (zI a0))] []
  unfold wc_W_isDivision at hw
  refine h_iload_n hC dX11_isDivision_0 rfl ?_
  refine h_bipush (v := zI 19) hC dX11_isDivision_1 rfl ?_
  refine yr_icmp_eq (tgt := 12) hC Ra0 (by decide) dX11_isDivision_3 (by decide) (fun c1 => ?_) (fun c1 => ?_)
  · have h2 := hw.1 c1
    refine h_iconst (v := zI 1) hC dX11_isDivision_12 rfl ?_
    refine h_goto (tgt := 17) hC dX11_isDivision_13 (by decide) ?_
    exact yr_zret hC hr ho hZ (Or.inr rfl) h2 dX11_isDivision_17
  · have h3 := hw.2 c1
    refine h_iload_n hC dX11_isDivision_6 rfl ?_
    refine h_bipush (v := zI 72) hC dX11_isDivision_7 rfl ?_
    refine yr_icmp_ne (tgt := 16) hC Ra0 (by decide) dX11_isDivision_9 (by decide) (fun c4 => ?_) (fun c4 => ?_)
    · have h5 := h3.1 c4
      refine h_iconst (v := zI 0) hC dX11_isDivision_16 rfl ?_
      exact yr_zret hC hr ho hZ (Or.inl rfl) h5 dX11_isDivision_17
    · have h6 := h3.2 c4
      refine h_iconst (v := zI 1) hC dX11_isDivision_12 rfl ?_
      refine h_goto (tgt := 17) hC dX11_isDivision_13 (by decide) ?_
      exact yr_zret hC hr ho hZ (Or.inr rfl) h6 dX11_isDivision_17
def wc_Scope_cut (A0 : cS) (a0 : Int) (Q : cS → Prop) : Prop :=
  Q (ycut (ycut (ycut (ycut (ycut A0 27 a0) 28 a0) 29 a0) 30 a0) 31 a0)
set_option maxHeartbeats 4000000 in
set_option maxRecDepth 100000 in
theorem cm_Scope_cut (l : Launch) (d : gD) (b : Nat) {Y : gYt} {c : Nat × Nat} {F : gM} {k n : Nat} {S : gSt} {A0 : cS} {a0 : Int} (Ra0 : zR a0) {Q : cS → Prop} (hZ : yZ d b Y c F S (F, k, n) S A0) (hw : wc_Scope_cut A0 a0 Q) : hMv l d b yX9_cut cX9_cut 2 1 k n F [.ref (gO' Y 8), .int (zI a0)] (yPv d b Y c F S Q) := by
  intro mc ms
  refine hM_of2 rfl (nL := 2) (Nat.le_of_ble_eq_true rfl) ?_
  intro X hX hC hr ho; subst hX
  show yG X d b (yQv X d b Y c F S mc ms Q) (F, k, n) 0 [some (.ref (gO' Y 8)), some (.int (zI a0))] []
  unfold wc_Scope_cut at hw
  refine h_aload_n hC dX9_cut_0 rfl ?_
  refine h_get hC fl_X9_15 (hZ.w.o 8 (by decide)) rfl dX9_cut_1 ?_
  refine h_iload_n hC dX9_cut_4 rfl ?_
  refine yr_cut (j := 27) hC hr ho hZ (by decide) Ra0 cl_X9_47 rfl (Nat.le_of_ble_eq_true rfl) (hFr_of (Nat.le_of_ble_eq_true rfl) (Nat.le_of_ble_eq_true rfl)) dX9_cut_5 (fun u1 S2 o3 hZ4 => ?_)
  refine h_aload_n hC dX9_cut_8 rfl ?_
  refine h_get hC fl_X9_21 (hZ4.w.o 8 (by decide)) rfl dX9_cut_9 ?_
  refine h_iload_n hC dX9_cut_12 rfl ?_
  refine yr_cut (j := 28) hC hr o3 hZ4 (by decide) Ra0 cl_X9_47 rfl (Nat.le_of_ble_eq_true rfl) (hFr_of (Nat.le_of_ble_eq_true rfl) (Nat.le_of_ble_eq_true rfl)) dX9_cut_13 (fun u5 S6 o7 hZ8 => ?_)
  refine h_aload_n hC dX9_cut_16 rfl ?_
  refine h_get hC fl_X9_24 (hZ8.w.o 8 (by decide)) rfl dX9_cut_17 ?_
  refine h_iload_n hC dX9_cut_20 rfl ?_
  refine yr_cut (j := 29) hC hr o7 hZ8 (by decide) Ra0 cl_X9_47 rfl (Nat.le_of_ble_eq_true rfl) (hFr_of (Nat.le_of_ble_eq_true rfl) (Nat.le_of_ble_eq_true rfl)) dX9_cut_21 (fun u9 S10 o11 hZ12 => ?_)
  refine h_aload_n hC dX9_cut_24 rfl ?_
  refine h_get hC fl_X9_27 (hZ12.w.o 8 (by decide)) rfl dX9_cut_25 ?_
  refine h_iload_n hC dX9_cut_28 rfl ?_
  refine yr_cut (j := 30) hC hr o11 hZ12 (by decide) Ra0 cl_X9_47 rfl (Nat.le_of_ble_eq_true rfl) (hFr_of (Nat.le_of_ble_eq_true rfl) (Nat.le_of_ble_eq_true rfl)) dX9_cut_29 (fun u13 S14 o15 hZ16 => ?_)
  refine h_aload_n hC dX9_cut_32 rfl ?_
  refine h_get hC fl_X9_30 (hZ16.w.o 8 (by decide)) rfl dX9_cut_33 ?_
  refine h_iload_n hC dX9_cut_36 rfl ?_
  refine yr_cut (j := 31) hC hr o15 hZ16 (by decide) Ra0 cl_X9_47 rfl (Nat.le_of_ble_eq_true rfl) (hFr_of (Nat.le_of_ble_eq_true rfl) (Nat.le_of_ble_eq_true rfl)) dX9_cut_37 (fun u17 S18 o19 hZ20 => ?_)
  exact yr_vret hC hr o19 hZ20 hw dX9_cut_40
def wc_Scope_put (A0 : cS) (a0 : Int) (a1 : Int) (a2 : Int) (a3 : Int) (a4 : Int) (Q : Int → cS → Prop) : Prop :=
  ((yz A0 27) < 3000) ∧ ((yz A0 28) < 3000) ∧ ((yz A0 29) < 3000) ∧ ((yz A0 30) < 3000) ∧ ((yz A0 31) < 3000) ∧ (zR (((yz (yadd A0 27 a0) 27 : Nat) : Int) - 1)) ∧ Q (((yz (yadd A0 27 a0) 27 : Nat) : Int) - 1) (yadd (yadd (yadd (yadd (yadd A0 27 a0) 28 a1) 29 a2) 30 a3) 31 a4)
set_option maxHeartbeats 4000000 in
set_option maxRecDepth 100000 in
theorem cm_Scope_put (l : Launch) (d : gD) (b : Nat) {Y : gYt} {c : Nat × Nat} {F : gM} {k n : Nat} {S : gSt} {A0 : cS} {a0 : Int} {a1 : Int} {a2 : Int} {a3 : Int} {a4 : Int} (Ra0 : zR a0) (Ra1 : zR a1) (Ra2 : zR a2) (Ra3 : zR a3) (Ra4 : zR a4) {Q : Int → cS → Prop} (hZ : yZ d b Y c F S (F, k, n) S A0) (hw : wc_Scope_put A0 a0 a1 a2 a3 a4 Q) : hMi l d b yX9_put cX9_put 6 .int 3 k n F [.ref (gO' Y 8), .int (zI a0), .int (zI a1), .int (zI a2), .int (zI a3), .int (zI a4)] (yPi d b Y c F S Q) := by
  intro mc ms
  refine hM_of2 rfl (nL := 6) (Nat.le_of_ble_eq_true rfl) ?_
  intro X hX hC hr ho; subst hX
  show yG X d b (yQi X d b Y c F S mc ms Q) (F, k, n) 0 [some (.ref (gO' Y 8)), some (.int (zI a0)), some (.int (zI a1)), some (.int (zI a2)), some (.int (zI a3)), some (.int (zI a4))] []
  unfold wc_Scope_put at hw
  refine h_aload_n hC dX9_put_0 rfl ?_
  refine h_get hC fl_X9_15 (hZ.w.o 8 (by decide)) rfl dX9_put_1 ?_
  refine h_iload_n hC dX9_put_4 rfl ?_
  obtain ⟨o5, h6⟩ := hw
  refine yr_add (j := 27) hC hr ho hZ (by decide) (by decide) Ra0 o5 cl_X9_53 rfl (Nat.le_of_ble_eq_true rfl) (hFr_of (Nat.le_of_ble_eq_true rfl) (Nat.le_of_ble_eq_true rfl)) dX9_put_5 (fun u1 S2 o3 hZ4 => ?_)
  refine h_aload_n hC dX9_put_8 rfl ?_
  refine h_get hC fl_X9_21 (hZ4.w.o 8 (by decide)) rfl dX9_put_9 ?_
  refine h_iload_n hC dX9_put_12 rfl ?_
  obtain ⟨o11, h12⟩ := h6
  refine yr_add (j := 28) hC hr o3 hZ4 (by decide) (by decide) Ra1 o11 cl_X9_53 rfl (Nat.le_of_ble_eq_true rfl) (hFr_of (Nat.le_of_ble_eq_true rfl) (Nat.le_of_ble_eq_true rfl)) dX9_put_13 (fun u7 S8 o9 hZ10 => ?_)
  refine h_aload_n hC dX9_put_16 rfl ?_
  refine h_get hC fl_X9_24 (hZ10.w.o 8 (by decide)) rfl dX9_put_17 ?_
  refine h_iload_n hC dX9_put_20 rfl ?_
  obtain ⟨o17, h18⟩ := h12
  refine yr_add (j := 29) hC hr o9 hZ10 (by decide) (by decide) Ra2 o17 cl_X9_53 rfl (Nat.le_of_ble_eq_true rfl) (hFr_of (Nat.le_of_ble_eq_true rfl) (Nat.le_of_ble_eq_true rfl)) dX9_put_21 (fun u13 S14 o15 hZ16 => ?_)
  refine h_aload_n hC dX9_put_24 rfl ?_
  refine h_get hC fl_X9_27 (hZ16.w.o 8 (by decide)) rfl dX9_put_25 ?_
  refine h_iload hC dX9_put_28 rfl ?_
  obtain ⟨o23, h24⟩ := h18
  refine yr_add (j := 30) hC hr o15 hZ16 (by decide) (by decide) Ra3 o23 cl_X9_53 rfl (Nat.le_of_ble_eq_true rfl) (hFr_of (Nat.le_of_ble_eq_true rfl) (Nat.le_of_ble_eq_true rfl)) dX9_put_30 (fun u19 S20 o21 hZ22 => ?_)
  refine h_aload_n hC dX9_put_33 rfl ?_
  refine h_get hC fl_X9_30 (hZ22.w.o 8 (by decide)) rfl dX9_put_34 ?_
  refine h_iload hC dX9_put_37 rfl ?_
  obtain ⟨o29, h30⟩ := h24
  refine yr_add (j := 31) hC hr o21 hZ22 (by decide) (by decide) Ra4 o29 cl_X9_53 rfl (Nat.le_of_ble_eq_true rfl) (hFr_of (Nat.le_of_ble_eq_true rfl) (Nat.le_of_ble_eq_true rfl)) dX9_put_39 (fun u25 S26 o27 hZ28 => ?_)
  refine h_aload_n hC dX9_put_42 rfl ?_
  refine h_get hC fl_X9_15 (hZ28.w.o 8 (by decide)) rfl dX9_put_43 ?_
  refine yr_size (j := 27) (e := ((yz (yadd A0 27 a0) 27 : Nat) : Int)) hC hr o27 hZ28 (by decide) rfl cl_X9_56 rfl (Nat.le_of_ble_eq_true rfl) (hFr_of (Nat.le_of_ble_eq_true rfl) (Nat.le_of_ble_eq_true rfl)) dX9_put_46 ?_
  refine h_iconst (v := zI 1) hC dX9_put_49 rfl ?_
  refine yr_isub hC dX9_put_50 ?_
  obtain ⟨o31, h32⟩ := h30
  exact yr_iret hC hr o27 hZ28 o31 h32 dX9_put_51
def wc_Scope_clear_20B (Q : cS → Prop) (k20 : cS → Int → Prop) (A0 : cS) (x1 : Int) : Prop :=
  ((18 ≤ x1 → Q A0) ∧ (¬ 18 ≤ x1 → (zR (42 + x1)) ∧ (zR (2000000 + x1)) ∧ wc_Scope_put A0 (42 + x1) 5 (2000000 + x1) 0 0 (fun r8 A9 => (zR (x1 + 1)) ∧ k20 A9 (x1 + 1))))
def wc_Scope_clear_20 (Q : cS → Prop)  : Nat → cS → Int → Prop
  | 0 => fun _ _ => False
  | m + 1 => fun A0 x1 => wc_Scope_clear_20B Q  (wc_Scope_clear_20 Q  m) A0 x1
def wc_Scope_clear (A0 : cS)  (Q : cS → Prop) : Prop :=
  wc_Scope_cut A0 0 (fun A2 => ∃ n, wc_Scope_clear_20 Q  n (ypv (ycut A2 32 0) 37 0) 0)
set_option maxHeartbeats 4000000 in
set_option maxRecDepth 100000 in
theorem cb_Scope_clear_20 {X : gX} {d : gD} {b : Nat} {Y : gYt} {c : Nat × Nat} {F0 : gM} {S0 : gSt} {mc ms : Nat} (hC : gC RX9 cX9_clear 2 none "clear" (gR 4 mc ms) d b X) (hr : hRm X b) {Q : cS → Prop} {k20 : cS → Int → Prop} (hk20 : ∀ (u : hU) (S : gSt) (A0 : cS) (x1 : Int), zR x1 → yOk X b u → yZ d b Y c F0 S0 u S A0 → k20 A0 x1 → yG X d b (yQv X d b Y c F0 S0 mc ms Q) u 20 [some (.ref (gO' Y 8)), some (.int (zI x1))] []) {u : hU} {S : gSt} {A0 : cS} {x1 : Int} (Rx1 : zR x1) (ho : yOk X b u) (hZ : yZ d b Y c F0 S0 u S A0) (hw : wc_Scope_clear_20B Q k20 A0 x1) : yG X d b (yQv X d b Y c F0 S0 mc ms Q) u 20 [some (.ref (gO' Y 8)), some (.int (zI x1))] [] := by
  unfold wc_Scope_clear_20B at hw
  refine h_iload_n hC dX9_clear_20 rfl ?_
  refine h_bipush (v := zI 18) hC dX9_clear_21 rfl ?_
  refine yr_icmp_ge (tgt := 48) hC Rx1 (by decide) dX9_clear_23 (by decide) (fun c1 => ?_) (fun c1 => ?_)
  · have h2 := hw.1 c1
    exact yr_vret hC hr ho hZ h2 dX9_clear_48
  · have h3 := hw.2 c1
    refine h_aload_n hC dX9_clear_26 rfl ?_
    refine h_bipush (v := zI 42) hC dX9_clear_27 rfl ?_
    refine h_iload_n hC dX9_clear_29 rfl ?_
    refine yr_iadd hC dX9_clear_30 ?_
    refine h_iconst (v := zI 5) hC dX9_clear_31 rfl ?_
    refine yr_ldc (e := 2000000) hC dX9_clear_32 kw_1279 (by decide) ?_
    refine h_iload_n hC dX9_clear_34 rfl ?_
    refine yr_iadd hC dX9_clear_35 ?_
    refine h_iconst (v := zI 0) hC dX9_clear_36 rfl ?_
    refine h_iconst (v := zI 0) hC dX9_clear_37 rfl ?_
    obtain ⟨o4, h5⟩ := h3
    obtain ⟨o6, h7⟩ := h5
    refine yr_callVi (As := [.int (zI (42 + x1)), .int (zI 5), .int (zI (2000000 + x1)), .int (zI 0), .int (zI 0)]) hC hr ho hZ rfl (hZ.w.o 8 (by decide)) (cm_Scope_put X.la d b o4 (by decide) o6 (by decide) (by decide) hZ.rs h7) cl_X9_49 rfl rfl (Nat.le_of_ble_eq_true rfl) (hFr_of (Nat.le_of_ble_eq_true rfl) (Nat.le_of_ble_eq_true rfl)) dX9_clear_38 (fun r8 A9 u10 S11 R12 o13 hZ14 h15 => ?_)
    refine h_pop hC dX9_clear_41 rfl ?_
    refine yr_iinc (x := x1) (lv' := [some (.ref (gO' Y 8)), some (.int (zI (x1 + 1)))]) hC dX9_clear_42 rfl rfl rfl ?_
    refine h_goto (tgt := 20) hC dX9_clear_45 (by decide) ?_
    obtain ⟨o16, h17⟩ := h15
    exact hk20 _ _ _ _ o16 o13 hZ14 h17
theorem cl_Scope_clear_20 {X : gX} {d : gD} {b : Nat} {Y : gYt} {c : Nat × Nat} {F0 : gM} {S0 : gSt} {mc ms : Nat} (hC : gC RX9 cX9_clear 2 none "clear" (gR 4 mc ms) d b X) (hr : hRm X b) {Q : cS → Prop}   : ∀ (m : Nat) (u : hU) (S : gSt) (A0 : cS) (x1 : Int), zR x1 → yOk X b u → yZ d b Y c F0 S0 u S A0 → wc_Scope_clear_20 Q  m A0 x1 → yG X d b (yQv X d b Y c F0 S0 mc ms Q) u 20 [some (.ref (gO' Y 8)), some (.int (zI x1))] [] := by
  intro m
  induction m with
  | zero => intro u S A0 x1 Rx1 ho hZ hw; exact False.elim hw
  | succ m ihm => intro u S A0 x1 Rx1 ho hZ hw; exact cb_Scope_clear_20 hC hr  ihm Rx1 ho hZ hw
set_option maxHeartbeats 4000000 in
set_option maxRecDepth 100000 in
theorem cm_Scope_clear (l : Launch) (d : gD) (b : Nat) {Y : gYt} {c : Nat × Nat} {F : gM} {k n : Nat} {S : gSt} {A0 : cS}   {Q : cS → Prop} (hZ : yZ d b Y c F S (F, k, n) S A0) (hw : wc_Scope_clear A0  Q) : hMv l d b yX9_clear cX9_clear 2 4 k n F [.ref (gO' Y 8)] (yPv d b Y c F S Q) := by
  intro mc ms
  refine hM_of2 rfl (nL := 2) (Nat.le_of_ble_eq_true rfl) ?_
  intro X hX hC hr ho; subst hX
  show yG X d b (yQv X d b Y c F S mc ms Q) (F, k, n) 0 [some (.ref (gO' Y 8)), none] []
  unfold wc_Scope_clear at hw
  refine h_aload_n hC dX9_clear_0 rfl ?_
  refine h_iconst (v := zI 0) hC dX9_clear_1 rfl ?_
  refine yr_callVv (As := [.int (zI 0)]) hC hr ho hZ rfl (hZ.w.o 8 (by decide)) (cm_Scope_cut X.la d b (by decide) hZ.rs hw) cl_X9_44 rfl rfl (Nat.le_of_ble_eq_true rfl) (hFr_of (Nat.le_of_ble_eq_true rfl) (Nat.le_of_ble_eq_true rfl)) dX9_clear_2 (fun A2 u3 S4 o6 hZ7 h8 => ?_)
  refine h_aload_n hC dX9_clear_5 rfl ?_
  refine h_get hC fl_X9_33 (hZ7.w.o 8 (by decide)) rfl dX9_clear_6 ?_
  refine h_iconst (v := zI 0) hC dX9_clear_9 rfl ?_
  refine yr_cut (j := 32) hC hr o6 hZ7 (by decide) (by decide) cl_X9_47 rfl (Nat.le_of_ble_eq_true rfl) (hFr_of (Nat.le_of_ble_eq_true rfl) (Nat.le_of_ble_eq_true rfl)) dX9_clear_10 (fun u9 S10 o11 hZ12 => ?_)
  refine h_aload_n hC dX9_clear_13 rfl ?_
  refine h_iconst (v := zI 0) hC dX9_clear_14 rfl ?_
  refine hi_putx (i := 8) (kx := 37) hC hZ12.hi (by decide) fl_X9_36 rfl rfl rfl (Nat.le_of_ble_eq_true rfl) rfl gsame_37 (fun q => absurd q (by decide)) dX9_clear_15 (fun F13 S14 I15 K16 s17 v18 p19 => ?_)
  have hZ20 := hZ12.put I15 K16 s17 v18 (by decide) rfl
  clear I15 K16 s17 v18 p19
  refine yr_nu o11 hZ20 (fun u21 o22 hZ23 => ?_)
  refine h_iconst (v := zI 0) hC dX9_clear_18 rfl ?_
  refine h_istore_n (lv' := [some (.ref (gO' Y 8)), some (.int (zI 0))]) hC dX9_clear_19 (Nat.le_of_ble_eq_true rfl) rfl rfl ?_
  obtain ⟨m24, h25⟩ := h8
  exact cl_Scope_clear_20 hC hr  m24 _ _ _ _ (by decide) o22 hZ23 h25
def wc_Scope_open (A0 : cS)  (Q : cS → Prop) : Prop :=
  ((yz A0 32) < 3000) ∧ Q (ypv (yadd A0 32 (yv A0 37)) 37 ((yz A0 27 : Nat) : Int))
set_option maxHeartbeats 4000000 in
set_option maxRecDepth 100000 in
theorem cm_Scope_open (l : Launch) (d : gD) (b : Nat) {Y : gYt} {c : Nat × Nat} {F : gM} {k n : Nat} {S : gSt} {A0 : cS}   {Q : cS → Prop} (hZ : yZ d b Y c F S (F, k, n) S A0) (hw : wc_Scope_open A0  Q) : hMv l d b yX9_open cX9_open 1 3 k n F [.ref (gO' Y 8)] (yPv d b Y c F S Q) := by
  intro mc ms
  refine hM_of2 rfl (nL := 1) (Nat.le_of_ble_eq_true rfl) ?_
  intro X hX hC hr ho; subst hX
  show yG X d b (yQv X d b Y c F S mc ms Q) (F, k, n) 0 [some (.ref (gO' Y 8))] []
  unfold wc_Scope_open at hw
  refine h_aload_n hC dX9_open_0 rfl ?_
  refine h_get hC fl_X9_33 (hZ.w.o 8 (by decide)) rfl dX9_open_1 ?_
  refine h_aload_n hC dX9_open_4 rfl ?_
  refine h_get hC fl_X9_36 (hZ.w.o 8 (by decide)) rfl dX9_open_5 ?_
  refine yr_sv (e := (yv A0 37)) hZ 37 rfl ?_
  obtain ⟨o5, h6⟩ := hw
  refine yr_add (j := 32) hC hr ho hZ (by decide) (by decide) (hZ.rv 37) o5 cl_X9_53 rfl (Nat.le_of_ble_eq_true rfl) (hFr_of (Nat.le_of_ble_eq_true rfl) (Nat.le_of_ble_eq_true rfl)) dX9_open_8 (fun u1 S2 o3 hZ4 => ?_)
  refine h_aload_n hC dX9_open_11 rfl ?_
  refine h_aload_n hC dX9_open_12 rfl ?_
  refine h_get hC fl_X9_15 (hZ4.w.o 8 (by decide)) rfl dX9_open_13 ?_
  refine yr_size (j := 27) (e := ((yz A0 27 : Nat) : Int)) hC hr o3 hZ4 (by decide) rfl cl_X9_56 rfl (Nat.le_of_ble_eq_true rfl) (hFr_of (Nat.le_of_ble_eq_true rfl) (Nat.le_of_ble_eq_true rfl)) dX9_open_16 ?_
  refine hi_putx (i := 8) (kx := 37) hC hZ4.hi (by decide) fl_X9_36 rfl rfl rfl (Nat.le_of_ble_eq_true rfl) rfl gsame_37 (fun q => absurd q (by decide)) dX9_open_19 (fun F7 S8 I9 K10 s11 v12 p13 => ?_)
  have hZ14 := hZ4.put I9 K10 s11 v12 (hZ4.rz (j := 27) (by decide)) rfl
  clear I9 K10 s11 v12 p13
  refine yr_nu o3 hZ14 (fun u15 o16 hZ17 => ?_)
  exact yr_vret hC hr o16 hZ17 h6 dX9_open_22
def wc_Scope_close (A0 : cS)  (Q : cS → Prop) : Prop :=
  wc_Scope_cut A0 (yv A0 37) (fun A2 => Q (ypv (ypop A2 32) 37 (yget A2 32 ((yz A2 32 : Nat) - 1 : Int))))
set_option maxHeartbeats 4000000 in
set_option maxRecDepth 100000 in
theorem cm_Scope_close (l : Launch) (d : gD) (b : Nat) {Y : gYt} {c : Nat × Nat} {F : gM} {k n : Nat} {S : gSt} {A0 : cS}   {Q : cS → Prop} (hZ : yZ d b Y c F S (F, k, n) S A0) (hw : wc_Scope_close A0  Q) : hMv l d b yX9_close cX9_close 1 2 k n F [.ref (gO' Y 8)] (yPv d b Y c F S Q) := by
  intro mc ms
  refine hM_of2 rfl (nL := 1) (Nat.le_of_ble_eq_true rfl) ?_
  intro X hX hC hr ho; subst hX
  show yG X d b (yQv X d b Y c F S mc ms Q) (F, k, n) 0 [some (.ref (gO' Y 8))] []
  unfold wc_Scope_close at hw
  refine h_aload_n hC dX9_close_0 rfl ?_
  refine h_aload_n hC dX9_close_1 rfl ?_
  refine h_get hC fl_X9_36 (hZ.w.o 8 (by decide)) rfl dX9_close_2 ?_
  refine yr_sv (e := (yv A0 37)) hZ 37 rfl ?_
  refine yr_callVv (As := [.int (zI (yv A0 37))]) hC hr ho hZ rfl (hZ.w.o 8 (by decide)) (cm_Scope_cut X.la d b (hZ.rv 37) hZ.rs hw) cl_X9_44 rfl rfl (Nat.le_of_ble_eq_true rfl) (hFr_of (Nat.le_of_ble_eq_true rfl) (Nat.le_of_ble_eq_true rfl)) dX9_close_5 (fun A2 u3 S4 o6 hZ7 h8 => ?_)
  refine h_aload_n hC dX9_close_8 rfl ?_
  refine h_aload_n hC dX9_close_9 rfl ?_
  refine h_get hC fl_X9_33 (hZ7.w.o 8 (by decide)) rfl dX9_close_10 ?_
  refine yr_pop (j := 32) (e := (yget A2 32 ((yz A2 32 : Nat) - 1 : Int))) hC hr o6 hZ7 (by decide) rfl cl_X9_60 rfl (Nat.le_of_ble_eq_true rfl) (hFr_of (Nat.le_of_ble_eq_true rfl) (Nat.le_of_ble_eq_true rfl)) dX9_close_13 (fun u9 S10 o11 hZ12 => ?_)
  refine hi_putx (i := 8) (kx := 37) hC hZ12.hi (by decide) fl_X9_36 rfl rfl rfl (Nat.le_of_ble_eq_true rfl) rfl gsame_37 (fun q => absurd q (by decide)) dX9_close_16 (fun F13 S14 I15 K16 s17 v18 p19 => ?_)
  have hZ20 := hZ12.put I15 K16 s17 v18 (hZ7.rg 32 _) rfl
  clear I15 K16 s17 v18 p19
  refine yr_nu o11 hZ20 (fun u21 o22 hZ23 => ?_)
  exact yr_vret hC hr o22 hZ23 h8 dX9_close_19
def wc_Scope_declare_9B (Q : Int → cS → Prop) (k9 : cS → Int → Int → Int → Int → Int → Int → Int → Prop) (A0 : cS) (x1 : Int) (x2 : Int) (x3 : Int) (x4 : Int) (x5 : Int) (x6 : Int) (x7 : Int) : Prop :=
  ((((yz A0 27 : Nat) : Int) ≤ x7 → wc_Scope_put A0 x6 x2 x3 x4 x5 (fun r3 A4 => Q r3 A4)) ∧ (¬ ((yz A0 27 : Nat) : Int) ≤ x7 → ((¬ (yget A0 27 x7) = x1 → (zR (x7 + 1)) ∧ k9 A0 x1 x2 x3 x4 x5 x6 (x7 + 1)) ∧ ((yget A0 27 x7) = x1 → wc_Program_blame A0 4 (max x5 (yget A0 31 x7)) (fun A18 => ((x5 ≤ (yget A18 31 x7) → (zR (x7 + 1)) ∧ k9 A18 x1 x2 x3 x4 x5 x6 (x7 + 1)) ∧ (¬ x5 ≤ (yget A18 31 x7) → (zR (x7 + 1)) ∧ k9 A18 x1 x2 x3 x4 x5 (-1) (x7 + 1))))))))
def wc_Scope_declare_9 (Q : Int → cS → Prop)  : Nat → cS → Int → Int → Int → Int → Int → Int → Int → Prop
  | 0 => fun _ _ _ _ _ _ _ _ => False
  | m + 1 => fun A0 x1 x2 x3 x4 x5 x6 x7 => wc_Scope_declare_9B Q  (wc_Scope_declare_9 Q  m) A0 x1 x2 x3 x4 x5 x6 x7
def wc_Scope_declare (A0 : cS) (a0 : Int) (a1 : Int) (a2 : Int) (a3 : Int) (a4 : Int) (Q : Int → cS → Prop) : Prop :=
  ∃ n, wc_Scope_declare_9 Q  n A0 a0 a1 a2 a3 a4 a0 (yv A0 37)
set_option maxHeartbeats 4000000 in
set_option maxRecDepth 100000 in
theorem cb_Scope_declare_9 {X : gX} {d : gD} {b : Nat} {Y : gYt} {c : Nat × Nat} {F0 : gM} {S0 : gSt} {mc ms : Nat} (hC : gC RX9 cX9_declare 8 (some .int) "declare" (gR 4 mc ms) d b X) (hr : hRm X b) {Q : Int → cS → Prop} {k9 : cS → Int → Int → Int → Int → Int → Int → Int → Prop} (hk9 : ∀ (u : hU) (S : gSt) (A0 : cS) (x1 : Int) (x2 : Int) (x3 : Int) (x4 : Int) (x5 : Int) (x6 : Int) (x7 : Int), zR x1 → zR x2 → zR x3 → zR x4 → zR x5 → zR x6 → zR x7 → yOk X b u → yZ d b Y c F0 S0 u S A0 → k9 A0 x1 x2 x3 x4 x5 x6 x7 → yG X d b (yQi X d b Y c F0 S0 mc ms Q) u 9 [some (.ref (gO' Y 8)), some (.int (zI x1)), some (.int (zI x2)), some (.int (zI x3)), some (.int (zI x4)), some (.int (zI x5)), some (.int (zI x6)), some (.int (zI x7))] []) {u : hU} {S : gSt} {A0 : cS} {x1 : Int} {x2 : Int} {x3 : Int} {x4 : Int} {x5 : Int} {x6 : Int} {x7 : Int} (Rx1 : zR x1) (Rx2 : zR x2) (Rx3 : zR x3) (Rx4 : zR x4) (Rx5 : zR x5) (Rx6 : zR x6) (Rx7 : zR x7) (ho : yOk X b u) (hZ : yZ d b Y c F0 S0 u S A0) (hw : wc_Scope_declare_9B Q k9 A0 x1 x2 x3 x4 x5 x6 x7) : yG X d b (yQi X d b Y c F0 S0 mc ms Q) u 9 [some (.ref (gO' Y 8)), some (.int (zI x1)), some (.int (zI x2)), some (.int (zI x3)), some (.int (zI x4)), some (.int (zI x5)), some (.int (zI x6)), some (.int (zI x7))] [] := by
  unfold wc_Scope_declare_9B at hw
  refine h_iload hC dX9_declare_9 rfl ?_
  refine h_aload_n hC dX9_declare_11 rfl ?_
  refine h_get hC fl_X9_15 (hZ.w.o 8 (by decide)) rfl dX9_declare_12 ?_
  refine yr_size (j := 27) (e := ((yz A0 27 : Nat) : Int)) hC hr ho hZ (by decide) rfl cl_X9_56 rfl (Nat.le_of_ble_eq_true rfl) (hFr_of (Nat.le_of_ble_eq_true rfl) (Nat.le_of_ble_eq_true rfl)) dX9_declare_15 ?_
  refine yr_icmp_ge (tgt := 84) hC Rx7 (hZ.rz (j := 27) (by decide)) dX9_declare_18 (by decide) (fun c1 => ?_) (fun c1 => ?_)
  · have h2 := hw.1 c1
    refine h_aload_n hC dX9_declare_84 rfl ?_
    refine h_iload hC dX9_declare_85 rfl ?_
    refine h_iload_n hC dX9_declare_87 rfl ?_
    refine h_iload_n hC dX9_declare_88 rfl ?_
    refine h_iload hC dX9_declare_89 rfl ?_
    refine h_iload hC dX9_declare_91 rfl ?_
    refine yr_callVi (As := [.int (zI x6), .int (zI x2), .int (zI x3), .int (zI x4), .int (zI x5)]) hC hr ho hZ rfl (hZ.w.o 8 (by decide)) (cm_Scope_put X.la d b Rx6 Rx2 Rx3 Rx4 Rx5 hZ.rs h2) cl_X9_49 rfl rfl (Nat.le_of_ble_eq_true rfl) (hFr_of (Nat.le_of_ble_eq_true rfl) (Nat.le_of_ble_eq_true rfl)) dX9_declare_93 (fun r3 A4 u5 S6 R7 o8 hZ9 h10 => ?_)
    exact yr_iret hC hr o8 hZ9 R7 h10 dX9_declare_96
  · have h11 := hw.2 c1
    refine h_aload_n hC dX9_declare_21 rfl ?_
    refine h_get hC fl_X9_15 (hZ.w.o 8 (by decide)) rfl dX9_declare_22 ?_
    refine h_iload hC dX9_declare_25 rfl ?_
    refine yr_get (j := 27) (e := (yget A0 27 x7)) hC hr ho hZ (by decide) Rx7 rfl cl_X9_63 rfl (Nat.le_of_ble_eq_true rfl) (hFr_of (Nat.le_of_ble_eq_true rfl) (Nat.le_of_ble_eq_true rfl)) dX9_declare_27 ?_
    refine h_iload_n hC dX9_declare_30 rfl ?_
    refine yr_icmp_ne (tgt := 78) hC (hZ.rg 27 _) Rx1 dX9_declare_31 (by decide) (fun c12 => ?_) (fun c12 => ?_)
    · have h13 := h11.1 c12
      refine yr_iinc (x := x7) (lv' := [some (.ref (gO' Y 8)), some (.int (zI x1)), some (.int (zI x2)), some (.int (zI x3)), some (.int (zI x4)), some (.int (zI x5)), some (.int (zI x6)), some (.int (zI (x7 + 1)))]) hC dX9_declare_78 rfl rfl rfl ?_
      refine h_goto (tgt := 9) hC dX9_declare_81 (by decide) ?_
      obtain ⟨o14, h15⟩ := h13
      exact hk9 _ _ _ _ _ _ _ _ _ _ Rx1 Rx2 Rx3 Rx4 Rx5 Rx6 o14 ho hZ h15
    · have h16 := h11.2 c12
      refine h_aload_n hC dX9_declare_34 rfl ?_
      refine h_get hC fl_X9_40 (hZ.w.o 8 (by decide)) rfl dX9_declare_35 ?_
      refine h_iconst (v := zI 4) hC dX9_declare_38 rfl ?_
      refine h_iload hC dX9_declare_39 rfl ?_
      refine h_aload_n hC dX9_declare_41 rfl ?_
      refine h_get hC fl_X9_30 (hZ.w.o 8 (by decide)) rfl dX9_declare_42 ?_
      refine h_iload hC dX9_declare_45 rfl ?_
      refine yr_get (j := 31) (e := (yget A0 31 x7)) hC hr ho hZ (by decide) Rx7 rfl cl_X9_63 rfl (Nat.le_of_ble_eq_true rfl) (hFr_of (Nat.le_of_ble_eq_true rfl) (Nat.le_of_ble_eq_true rfl)) dX9_declare_47 ?_
      refine yr_max hC hr ho kw_1310 rfl ⟨Nat.le_of_ble_eq_true rfl, Nat.le_of_ble_eq_true rfl⟩ (Nat.le_of_ble_eq_true rfl) dX9_declare_50 Rx5 (hZ.rg 31 _) ?_
      refine yr_callVv (As := [.int (zI 4), .int (zI (max x5 (yget A0 31 x7)))]) hC hr ho hZ rfl (hZ.w.o 1 (by decide)) (cm_Program_blame X.la d b (by decide) (y_maxR Rx5 (hZ.rg 31 _)) hZ.rs h16) cl_X9_73 rfl rfl (Nat.le_of_ble_eq_true rfl) (hFr_of (Nat.le_of_ble_eq_true rfl) (Nat.le_of_ble_eq_true rfl)) dX9_declare_53 (fun A18 u19 S20 o22 hZ23 h24 => ?_)
      refine h_iload hC dX9_declare_56 rfl ?_
      refine h_aload_n hC dX9_declare_58 rfl ?_
      refine h_get hC fl_X9_30 (hZ23.w.o 8 (by decide)) rfl dX9_declare_59 ?_
      refine h_iload hC dX9_declare_62 rfl ?_
      refine yr_get (j := 31) (e := (yget A18 31 x7)) hC hr o22 hZ23 (by decide) Rx7 rfl cl_X9_63 rfl (Nat.le_of_ble_eq_true rfl) (hFr_of (Nat.le_of_ble_eq_true rfl) (Nat.le_of_ble_eq_true rfl)) dX9_declare_64 ?_
      refine yr_icmp_le (tgt := 74) hC Rx5 (hZ23.rg 31 _) dX9_declare_67 (by decide) (fun c25 => ?_) (fun c25 => ?_)
      · have h26 := h24.1 c25
        refine h_iload hC dX9_declare_74 rfl ?_
        refine h_istore (lv' := [some (.ref (gO' Y 8)), some (.int (zI x1)), some (.int (zI x2)), some (.int (zI x3)), some (.int (zI x4)), some (.int (zI x5)), some (.int (zI x6)), some (.int (zI x7))]) hC dX9_declare_76 (Nat.le_of_ble_eq_true rfl) rfl rfl ?_
        refine yr_iinc (x := x7) (lv' := [some (.ref (gO' Y 8)), some (.int (zI x1)), some (.int (zI x2)), some (.int (zI x3)), some (.int (zI x4)), some (.int (zI x5)), some (.int (zI x6)), some (.int (zI (x7 + 1)))]) hC dX9_declare_78 rfl rfl rfl ?_
        refine h_goto (tgt := 9) hC dX9_declare_81 (by decide) ?_
        obtain ⟨o27, h28⟩ := h26
        exact hk9 _ _ _ _ _ _ _ _ _ _ Rx1 Rx2 Rx3 Rx4 Rx5 Rx6 o27 o22 hZ23 h28
      · have h29 := h24.2 c25
        refine h_iconst (v := zI (-1)) hC dX9_declare_70 rfl ?_
        refine h_goto (tgt := 76) hC dX9_declare_71 (by decide) ?_
        refine h_istore (lv' := [some (.ref (gO' Y 8)), some (.int (zI x1)), some (.int (zI x2)), some (.int (zI x3)), some (.int (zI x4)), some (.int (zI x5)), some (.int (zI (-1))), some (.int (zI x7))]) hC dX9_declare_76 (Nat.le_of_ble_eq_true rfl) rfl rfl ?_
        refine yr_iinc (x := x7) (lv' := [some (.ref (gO' Y 8)), some (.int (zI x1)), some (.int (zI x2)), some (.int (zI x3)), some (.int (zI x4)), some (.int (zI x5)), some (.int (zI (-1))), some (.int (zI (x7 + 1)))]) hC dX9_declare_78 rfl rfl rfl ?_
        refine h_goto (tgt := 9) hC dX9_declare_81 (by decide) ?_
        obtain ⟨o30, h31⟩ := h29
        exact hk9 _ _ _ _ _ _ _ _ _ _ Rx1 Rx2 Rx3 Rx4 Rx5 (by decide) o30 o22 hZ23 h31
theorem cl_Scope_declare_9 {X : gX} {d : gD} {b : Nat} {Y : gYt} {c : Nat × Nat} {F0 : gM} {S0 : gSt} {mc ms : Nat} (hC : gC RX9 cX9_declare 8 (some .int) "declare" (gR 4 mc ms) d b X) (hr : hRm X b) {Q : Int → cS → Prop}   : ∀ (m : Nat) (u : hU) (S : gSt) (A0 : cS) (x1 : Int) (x2 : Int) (x3 : Int) (x4 : Int) (x5 : Int) (x6 : Int) (x7 : Int), zR x1 → zR x2 → zR x3 → zR x4 → zR x5 → zR x6 → zR x7 → yOk X b u → yZ d b Y c F0 S0 u S A0 → wc_Scope_declare_9 Q  m A0 x1 x2 x3 x4 x5 x6 x7 → yG X d b (yQi X d b Y c F0 S0 mc ms Q) u 9 [some (.ref (gO' Y 8)), some (.int (zI x1)), some (.int (zI x2)), some (.int (zI x3)), some (.int (zI x4)), some (.int (zI x5)), some (.int (zI x6)), some (.int (zI x7))] [] := by
  intro m
  induction m with
  | zero => intro u S A0 x1 x2 x3 x4 x5 x6 x7 Rx1 Rx2 Rx3 Rx4 Rx5 Rx6 Rx7 ho hZ hw; exact False.elim hw
  | succ m ihm => intro u S A0 x1 x2 x3 x4 x5 x6 x7 Rx1 Rx2 Rx3 Rx4 Rx5 Rx6 Rx7 ho hZ hw; exact cb_Scope_declare_9 hC hr  ihm Rx1 Rx2 Rx3 Rx4 Rx5 Rx6 Rx7 ho hZ hw
set_option maxHeartbeats 4000000 in
set_option maxRecDepth 100000 in
theorem cm_Scope_declare (l : Launch) (d : gD) (b : Nat) {Y : gYt} {c : Nat × Nat} {F : gM} {k n : Nat} {S : gSt} {A0 : cS} {a0 : Int} {a1 : Int} {a2 : Int} {a3 : Int} {a4 : Int} (Ra0 : zR a0) (Ra1 : zR a1) (Ra2 : zR a2) (Ra3 : zR a3) (Ra4 : zR a4) {Q : Int → cS → Prop} (hZ : yZ d b Y c F S (F, k, n) S A0) (hw : wc_Scope_declare A0 a0 a1 a2 a3 a4 Q) : hMi l d b yX9_declare cX9_declare 8 .int 4 k n F [.ref (gO' Y 8), .int (zI a0), .int (zI a1), .int (zI a2), .int (zI a3), .int (zI a4)] (yPi d b Y c F S Q) := by
  intro mc ms
  refine hM_of2 rfl (nL := 8) (Nat.le_of_ble_eq_true rfl) ?_
  intro X hX hC hr ho; subst hX
  show yG X d b (yQi X d b Y c F S mc ms Q) (F, k, n) 0 [some (.ref (gO' Y 8)), some (.int (zI a0)), some (.int (zI a1)), some (.int (zI a2)), some (.int (zI a3)), some (.int (zI a4)), none, none] []
  unfold wc_Scope_declare at hw
  refine h_iload_n hC dX9_declare_0 rfl ?_
  refine h_istore (lv' := [some (.ref (gO' Y 8)), some (.int (zI a0)), some (.int (zI a1)), some (.int (zI a2)), some (.int (zI a3)), some (.int (zI a4)), some (.int (zI a0)), none]) hC dX9_declare_1 (Nat.le_of_ble_eq_true rfl) rfl rfl ?_
  refine h_aload_n hC dX9_declare_3 rfl ?_
  refine h_get hC fl_X9_36 (hZ.w.o 8 (by decide)) rfl dX9_declare_4 ?_
  refine yr_sv (e := (yv A0 37)) hZ 37 rfl ?_
  refine h_istore (lv' := [some (.ref (gO' Y 8)), some (.int (zI a0)), some (.int (zI a1)), some (.int (zI a2)), some (.int (zI a3)), some (.int (zI a4)), some (.int (zI a0)), some (.int (zI (yv A0 37)))]) hC dX9_declare_7 (Nat.le_of_ble_eq_true rfl) rfl rfl ?_
  obtain ⟨m1, h2⟩ := hw
  exact cl_Scope_declare_9 hC hr  m1 _ _ _ _ _ _ _ _ _ _ Ra0 Ra1 Ra2 Ra3 Ra4 Ra0 (hZ.rv 37) ho hZ h2
def wc_Scope_find_10B (Q : Int → cS → Prop) (k10 : cS → Int → Int → Prop) (A0 : cS) (x1 : Int) (x2 : Int) : Prop :=
  ((x2 < 0 → Q (-1) A0) ∧ (¬ x2 < 0 → ((¬ (yget A0 27 x2) = x1 → (zR (x2 + (-1))) ∧ k10 A0 x1 (x2 + (-1))) ∧ ((yget A0 27 x2) = x1 → Q x2 A0))))
def wc_Scope_find_10 (Q : Int → cS → Prop)  : Nat → cS → Int → Int → Prop
  | 0 => fun _ _ _ => False
  | m + 1 => fun A0 x1 x2 => wc_Scope_find_10B Q  (wc_Scope_find_10 Q  m) A0 x1 x2
def wc_Scope_find (A0 : cS) (a0 : Int) (Q : Int → cS → Prop) : Prop :=
  (zR (((yz A0 27 : Nat) : Int) - 1)) ∧ ∃ n, wc_Scope_find_10 Q  n A0 a0 (((yz A0 27 : Nat) : Int) - 1)
set_option maxHeartbeats 4000000 in
set_option maxRecDepth 100000 in
theorem cb_Scope_find_10 {X : gX} {d : gD} {b : Nat} {Y : gYt} {c : Nat × Nat} {F0 : gM} {S0 : gSt} {mc ms : Nat} (hC : gC RX9 cX9_find 3 (some .int) "find" (gR 1 mc ms) d b X) (hr : hRm X b) {Q : Int → cS → Prop} {k10 : cS → Int → Int → Prop} (hk10 : ∀ (u : hU) (S : gSt) (A0 : cS) (x1 : Int) (x2 : Int), zR x1 → zR x2 → yOk X b u → yZ d b Y c F0 S0 u S A0 → k10 A0 x1 x2 → yG X d b (yQi X d b Y c F0 S0 mc ms Q) u 10 [some (.ref (gO' Y 8)), some (.int (zI x1)), some (.int (zI x2))] []) {u : hU} {S : gSt} {A0 : cS} {x1 : Int} {x2 : Int} (Rx1 : zR x1) (Rx2 : zR x2) (ho : yOk X b u) (hZ : yZ d b Y c F0 S0 u S A0) (hw : wc_Scope_find_10B Q k10 A0 x1 x2) : yG X d b (yQi X d b Y c F0 S0 mc ms Q) u 10 [some (.ref (gO' Y 8)), some (.int (zI x1)), some (.int (zI x2))] [] := by
  unfold wc_Scope_find_10B at hw
  refine h_iload_n hC dX9_find_10 rfl ?_
  refine yr_if_lt (tgt := 34) hC Rx2 dX9_find_11 (by decide) (fun c1 => ?_) (fun c1 => ?_)
  · have h2 := hw.1 c1
    refine h_iconst (v := zI (-1)) hC dX9_find_34 rfl ?_
    exact yr_iret hC hr ho hZ (by decide) h2 dX9_find_35
  · have h3 := hw.2 c1
    refine h_aload_n hC dX9_find_14 rfl ?_
    refine h_get hC fl_X9_15 (hZ.w.o 8 (by decide)) rfl dX9_find_15 ?_
    refine h_iload_n hC dX9_find_18 rfl ?_
    refine yr_get (j := 27) (e := (yget A0 27 x2)) hC hr ho hZ (by decide) Rx2 rfl cl_X9_63 rfl (Nat.le_of_ble_eq_true rfl) (hFr_of (Nat.le_of_ble_eq_true rfl) (Nat.le_of_ble_eq_true rfl)) dX9_find_19 ?_
    refine h_iload_n hC dX9_find_22 rfl ?_
    refine yr_icmp_ne (tgt := 28) hC (hZ.rg 27 _) Rx1 dX9_find_23 (by decide) (fun c4 => ?_) (fun c4 => ?_)
    · have h5 := h3.1 c4
      refine yr_iinc (x := x2) (lv' := [some (.ref (gO' Y 8)), some (.int (zI x1)), some (.int (zI (x2 + (-1))))]) hC dX9_find_28 rfl rfl rfl ?_
      refine h_goto (tgt := 10) hC dX9_find_31 (by decide) ?_
      obtain ⟨o6, h7⟩ := h5
      exact hk10 _ _ _ _ _ Rx1 o6 ho hZ h7
    · have h8 := h3.2 c4
      refine h_iload_n hC dX9_find_26 rfl ?_
      exact yr_iret hC hr ho hZ Rx2 h8 dX9_find_27
theorem cl_Scope_find_10 {X : gX} {d : gD} {b : Nat} {Y : gYt} {c : Nat × Nat} {F0 : gM} {S0 : gSt} {mc ms : Nat} (hC : gC RX9 cX9_find 3 (some .int) "find" (gR 1 mc ms) d b X) (hr : hRm X b) {Q : Int → cS → Prop}   : ∀ (m : Nat) (u : hU) (S : gSt) (A0 : cS) (x1 : Int) (x2 : Int), zR x1 → zR x2 → yOk X b u → yZ d b Y c F0 S0 u S A0 → wc_Scope_find_10 Q  m A0 x1 x2 → yG X d b (yQi X d b Y c F0 S0 mc ms Q) u 10 [some (.ref (gO' Y 8)), some (.int (zI x1)), some (.int (zI x2))] [] := by
  intro m
  induction m with
  | zero => intro u S A0 x1 x2 Rx1 Rx2 ho hZ hw; exact False.elim hw
  | succ m ihm => intro u S A0 x1 x2 Rx1 Rx2 ho hZ hw; exact cb_Scope_find_10 hC hr  ihm Rx1 Rx2 ho hZ hw
set_option maxHeartbeats 4000000 in
set_option maxRecDepth 100000 in
theorem cm_Scope_find (l : Launch) (d : gD) (b : Nat) {Y : gYt} {c : Nat × Nat} {F : gM} {k n : Nat} {S : gSt} {A0 : cS} {a0 : Int} (Ra0 : zR a0) {Q : Int → cS → Prop} (hZ : yZ d b Y c F S (F, k, n) S A0) (hw : wc_Scope_find A0 a0 Q) : hMi l d b yX9_find cX9_find 3 .int 1 k n F [.ref (gO' Y 8), .int (zI a0)] (yPi d b Y c F S Q) := by
  intro mc ms
  refine hM_of2 rfl (nL := 3) (Nat.le_of_ble_eq_true rfl) ?_
  intro X hX hC hr ho; subst hX
  show yG X d b (yQi X d b Y c F S mc ms Q) (F, k, n) 0 [some (.ref (gO' Y 8)), some (.int (zI a0)), none] []
  unfold wc_Scope_find at hw
  refine h_aload_n hC dX9_find_0 rfl ?_
  refine h_get hC fl_X9_15 (hZ.w.o 8 (by decide)) rfl dX9_find_1 ?_
  refine yr_size (j := 27) (e := ((yz A0 27 : Nat) : Int)) hC hr ho hZ (by decide) rfl cl_X9_56 rfl (Nat.le_of_ble_eq_true rfl) (hFr_of (Nat.le_of_ble_eq_true rfl) (Nat.le_of_ble_eq_true rfl)) dX9_find_4 ?_
  refine h_iconst (v := zI 1) hC dX9_find_7 rfl ?_
  refine yr_isub hC dX9_find_8 ?_
  refine h_istore_n (lv' := [some (.ref (gO' Y 8)), some (.int (zI a0)), some (.int (zI (((yz A0 27 : Nat) : Int) - 1)))]) hC dX9_find_9 (Nat.le_of_ble_eq_true rfl) rfl rfl ?_
  obtain ⟨o1, h2⟩ := hw
  obtain ⟨m3, h4⟩ := h2
  exact cl_Scope_find_10 hC hr  m3 _ _ _ _ _ Ra0 o1 ho hZ h4
def wc_Scope_kind (A0 : cS) (a0 : Int) (Q : Int → cS → Prop) : Prop :=
  Q (yget A0 28 a0) A0
set_option maxHeartbeats 4000000 in
set_option maxRecDepth 100000 in
theorem cm_Scope_kind (l : Launch) (d : gD) (b : Nat) {Y : gYt} {c : Nat × Nat} {F : gM} {k n : Nat} {S : gSt} {A0 : cS} {a0 : Int} (Ra0 : zR a0) {Q : Int → cS → Prop} (hZ : yZ d b Y c F S (F, k, n) S A0) (hw : wc_Scope_kind A0 a0 Q) : hMi l d b yX9_kind cX9_kind 2 .int 1 k n F [.ref (gO' Y 8), .int (zI a0)] (yPi d b Y c F S Q) := by
  intro mc ms
  refine hM_of2 rfl (nL := 2) (Nat.le_of_ble_eq_true rfl) ?_
  intro X hX hC hr ho; subst hX
  show yG X d b (yQi X d b Y c F S mc ms Q) (F, k, n) 0 [some (.ref (gO' Y 8)), some (.int (zI a0))] []
  unfold wc_Scope_kind at hw
  refine h_aload_n hC dX9_kind_0 rfl ?_
  refine h_get hC fl_X9_21 (hZ.w.o 8 (by decide)) rfl dX9_kind_1 ?_
  refine h_iload_n hC dX9_kind_4 rfl ?_
  refine yr_get (j := 28) (e := (yget A0 28 a0)) hC hr ho hZ (by decide) Ra0 rfl cl_X9_63 rfl (Nat.le_of_ble_eq_true rfl) (hFr_of (Nat.le_of_ble_eq_true rfl) (Nat.le_of_ble_eq_true rfl)) dX9_kind_5 ?_
  exact yr_iret hC hr ho hZ (hZ.rg 28 _) hw dX9_kind_8
def wc_Scope_data (A0 : cS) (a0 : Int) (Q : Int → cS → Prop) : Prop :=
  Q (yget A0 29 a0) A0
set_option maxHeartbeats 4000000 in
set_option maxRecDepth 100000 in
theorem cm_Scope_data (l : Launch) (d : gD) (b : Nat) {Y : gYt} {c : Nat × Nat} {F : gM} {k n : Nat} {S : gSt} {A0 : cS} {a0 : Int} (Ra0 : zR a0) {Q : Int → cS → Prop} (hZ : yZ d b Y c F S (F, k, n) S A0) (hw : wc_Scope_data A0 a0 Q) : hMi l d b yX9_data cX9_data 2 .int 1 k n F [.ref (gO' Y 8), .int (zI a0)] (yPi d b Y c F S Q) := by
  intro mc ms
  refine hM_of2 rfl (nL := 2) (Nat.le_of_ble_eq_true rfl) ?_
  intro X hX hC hr ho; subst hX
  show yG X d b (yQi X d b Y c F S mc ms Q) (F, k, n) 0 [some (.ref (gO' Y 8)), some (.int (zI a0))] []
  unfold wc_Scope_data at hw
  refine h_aload_n hC dX9_data_0 rfl ?_
  refine h_get hC fl_X9_24 (hZ.w.o 8 (by decide)) rfl dX9_data_1 ?_
  refine h_iload_n hC dX9_data_4 rfl ?_
  refine yr_get (j := 29) (e := (yget A0 29 a0)) hC hr ho hZ (by decide) Ra0 rfl cl_X9_63 rfl (Nat.le_of_ble_eq_true rfl) (hFr_of (Nat.le_of_ble_eq_true rfl) (Nat.le_of_ble_eq_true rfl)) dX9_data_5 ?_
  exact yr_iret hC hr ho hZ (hZ.rg 29 _) hw dX9_data_8
def wc_Scope_owner (A0 : cS) (a0 : Int) (Q : Int → cS → Prop) : Prop :=
  Q (yget A0 30 a0) A0
set_option maxHeartbeats 4000000 in
set_option maxRecDepth 100000 in
theorem cm_Scope_owner (l : Launch) (d : gD) (b : Nat) {Y : gYt} {c : Nat × Nat} {F : gM} {k n : Nat} {S : gSt} {A0 : cS} {a0 : Int} (Ra0 : zR a0) {Q : Int → cS → Prop} (hZ : yZ d b Y c F S (F, k, n) S A0) (hw : wc_Scope_owner A0 a0 Q) : hMi l d b yX9_owner cX9_owner 2 .int 1 k n F [.ref (gO' Y 8), .int (zI a0)] (yPi d b Y c F S Q) := by
  intro mc ms
  refine hM_of2 rfl (nL := 2) (Nat.le_of_ble_eq_true rfl) ?_
  intro X hX hC hr ho; subst hX
  show yG X d b (yQi X d b Y c F S mc ms Q) (F, k, n) 0 [some (.ref (gO' Y 8)), some (.int (zI a0))] []
  unfold wc_Scope_owner at hw
  refine h_aload_n hC dX9_owner_0 rfl ?_
  refine h_get hC fl_X9_27 (hZ.w.o 8 (by decide)) rfl dX9_owner_1 ?_
  refine h_iload_n hC dX9_owner_4 rfl ?_
  refine yr_get (j := 30) (e := (yget A0 30 a0)) hC hr ho hZ (by decide) Ra0 rfl cl_X9_63 rfl (Nat.le_of_ble_eq_true rfl) (hFr_of (Nat.le_of_ble_eq_true rfl) (Nat.le_of_ble_eq_true rfl)) dX9_owner_5 ?_
  exact yr_iret hC hr ho hZ (hZ.rg 30 _) hw dX9_owner_8
def wc_Scope_place (A0 : cS) (a0 : Int) (Q : Int → cS → Prop) : Prop :=
  Q (yget A0 31 a0) A0
set_option maxHeartbeats 4000000 in
set_option maxRecDepth 100000 in
theorem cm_Scope_place (l : Launch) (d : gD) (b : Nat) {Y : gYt} {c : Nat × Nat} {F : gM} {k n : Nat} {S : gSt} {A0 : cS} {a0 : Int} (Ra0 : zR a0) {Q : Int → cS → Prop} (hZ : yZ d b Y c F S (F, k, n) S A0) (hw : wc_Scope_place A0 a0 Q) : hMi l d b yX9_place cX9_place 2 .int 1 k n F [.ref (gO' Y 8), .int (zI a0)] (yPi d b Y c F S Q) := by
  intro mc ms
  refine hM_of2 rfl (nL := 2) (Nat.le_of_ble_eq_true rfl) ?_
  intro X hX hC hr ho; subst hX
  show yG X d b (yQi X d b Y c F S mc ms Q) (F, k, n) 0 [some (.ref (gO' Y 8)), some (.int (zI a0))] []
  unfold wc_Scope_place at hw
  refine h_aload_n hC dX9_place_0 rfl ?_
  refine h_get hC fl_X9_30 (hZ.w.o 8 (by decide)) rfl dX9_place_1 ?_
  refine h_iload_n hC dX9_place_4 rfl ?_
  refine yr_get (j := 31) (e := (yget A0 31 a0)) hC hr ho hZ (by decide) Ra0 rfl cl_X9_63 rfl (Nat.le_of_ble_eq_true rfl) (hFr_of (Nat.le_of_ble_eq_true rfl) (Nat.le_of_ble_eq_true rfl)) dX9_place_5 ?_
  exact yr_iret hC hr ho hZ (hZ.rg 31 _) hw dX9_place_8
def wc_Scope_setData (A0 : cS) (a0 : Int) (a1 : Int) (Q : cS → Prop) : Prop :=
  Q (yset A0 29 a0 a1)
set_option maxHeartbeats 4000000 in
set_option maxRecDepth 100000 in
theorem cm_Scope_setData (l : Launch) (d : gD) (b : Nat) {Y : gYt} {c : Nat × Nat} {F : gM} {k n : Nat} {S : gSt} {A0 : cS} {a0 : Int} {a1 : Int} (Ra0 : zR a0) (Ra1 : zR a1) {Q : cS → Prop} (hZ : yZ d b Y c F S (F, k, n) S A0) (hw : wc_Scope_setData A0 a0 a1 Q) : hMv l d b yX9_setData cX9_setData 3 1 k n F [.ref (gO' Y 8), .int (zI a0), .int (zI a1)] (yPv d b Y c F S Q) := by
  intro mc ms
  refine hM_of2 rfl (nL := 3) (Nat.le_of_ble_eq_true rfl) ?_
  intro X hX hC hr ho; subst hX
  show yG X d b (yQv X d b Y c F S mc ms Q) (F, k, n) 0 [some (.ref (gO' Y 8)), some (.int (zI a0)), some (.int (zI a1))] []
  unfold wc_Scope_setData at hw
  refine h_aload_n hC dX9_setData_0 rfl ?_
  refine h_get hC fl_X9_24 (hZ.w.o 8 (by decide)) rfl dX9_setData_1 ?_
  refine h_iload_n hC dX9_setData_4 rfl ?_
  refine h_iload_n hC dX9_setData_5 rfl ?_
  refine yr_set (j := 29) hC hr ho hZ (by decide) Ra0 Ra1 cl_X9_79 rfl (Nat.le_of_ble_eq_true rfl) (hFr_of (Nat.le_of_ble_eq_true rfl) (Nat.le_of_ble_eq_true rfl)) dX9_setData_6 (fun u1 S2 o3 hZ4 => ?_)
  exact yr_vret hC hr o3 hZ4 hw dX9_setData_9
def wc_Scope_setOwner (A0 : cS) (a0 : Int) (a1 : Int) (Q : cS → Prop) : Prop :=
  Q (yset A0 30 a0 a1)
set_option maxHeartbeats 4000000 in
set_option maxRecDepth 100000 in
theorem cm_Scope_setOwner (l : Launch) (d : gD) (b : Nat) {Y : gYt} {c : Nat × Nat} {F : gM} {k n : Nat} {S : gSt} {A0 : cS} {a0 : Int} {a1 : Int} (Ra0 : zR a0) (Ra1 : zR a1) {Q : cS → Prop} (hZ : yZ d b Y c F S (F, k, n) S A0) (hw : wc_Scope_setOwner A0 a0 a1 Q) : hMv l d b yX9_setOwner cX9_setOwner 3 1 k n F [.ref (gO' Y 8), .int (zI a0), .int (zI a1)] (yPv d b Y c F S Q) := by
  intro mc ms
  refine hM_of2 rfl (nL := 3) (Nat.le_of_ble_eq_true rfl) ?_
  intro X hX hC hr ho; subst hX
  show yG X d b (yQv X d b Y c F S mc ms Q) (F, k, n) 0 [some (.ref (gO' Y 8)), some (.int (zI a0)), some (.int (zI a1))] []
  unfold wc_Scope_setOwner at hw
  refine h_aload_n hC dX9_setOwner_0 rfl ?_
  refine h_get hC fl_X9_27 (hZ.w.o 8 (by decide)) rfl dX9_setOwner_1 ?_
  refine h_iload_n hC dX9_setOwner_4 rfl ?_
  refine h_iload_n hC dX9_setOwner_5 rfl ?_
  refine yr_set (j := 30) hC hr ho hZ (by decide) Ra0 Ra1 cl_X9_79 rfl (Nat.le_of_ble_eq_true rfl) (hFr_of (Nat.le_of_ble_eq_true rfl) (Nat.le_of_ble_eq_true rfl)) dX9_setOwner_6 (fun u1 S2 o3 hZ4 => ?_)
  exact yr_vret hC hr o3 hZ4 hw dX9_setOwner_9
