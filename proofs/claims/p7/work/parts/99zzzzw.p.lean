/-! THE CLASS'S CODER: COUNTING, SWITCHING, A COMMAND -/
theorem cs_k9 {m : Nat} (P12 : vK12 m) (P4 : vK4 m) : vKn 9 (fun K => K = 41) 2 0 (m + 1) := fun k b c A Q h w S g t hh hf hK R hq => by
  obtain ⟨l, y, ch, hl, hy, hw, sh, hk, -⟩ := t.ks
  have hkk := jkap_le (yget A 7 (k : Nat))
  have hps : vPs A l m := fun c hc => ⟨(hl c hc).1, by have := (hl c hc).2; omega, by have := (hl c hc).2; omega⟩
  have hm : 1 ≤ m := by omega
  have w1 := jW_td l
  have w2 := jW_td (l.drop 1)
  have w3 := jW_td ((l.drop 1).drop 1)
  obtain ⟨hne, hx⟩ := sh.1 hK
  have e1 := ve_lt hne (fun c hc => (hl c hc).1)
  have e2 := ve_le (l.drop 1)
  have m3 := vmu_01 ((l.drop 1).drop 1)
  have rr := R.w
  have g19 := g.2.2.2.1
  show wc_Coder_counting (wcG_C m) A k (fun A' => Q 0 A')
  unfold wc_Coder_counting wc_Tree_first wc_Tree_next wc_Tree_extra
  have F : ∀ (A1 : cS) (u v y0 : Int), vX A A1 0 0 0 0 0 0 0 → wc_Coder_counting_68 (wcG_C m) (fun A' => Q 0 A') A1 k u v (yv A 19) (yget A 11 (k : Nat)) (yget A 13 (yget A 11 (k : Nat))) y0 := fun A1 u v y0 X1 => by
    unfold wc_Coder_counting_68
    refine P12 _ _ _ X1.g (X1.t.ch ch) (hps.t X1.t) hm (R.x X1 (by omega)) (fun A2 X2 => ?_)
    have Y2 := X1.tr X2
    have ch2 := ch.nx g.1
    refine P12 _ _ _ X2.g (Y2.t.ch ch2) (hps.d.t Y2.t) hm (R.x Y2 (by omega)) (fun A3 X3 => ⟨⟨by omega, by omega⟩, ?_⟩)
    have Y3 := (Y2.tr X3).le (c' := 15 * (ve l : Int) + 15 * (ve (l.drop 1) : Int)) (l' := ve l + ve (l.drop 1)) (g' := 2 * (ve l : Int) + 2 * (ve (l.drop 1) : Int)) (k' := 2 * (ve l : Int) + 2 * (ve (l.drop 1) : Int)) (s' := ve l + ve (l.drop 1)) (m' := ve l + ve (l.drop 1)) (a' := ve l + ve (l.drop 1)) (by omega)
    refine cs_cemit X3.g (R.x Y3 (C' := 24) (G' := 0) (W' := 1) (by omega)) (by omega) _ _ (fun r4 A4 f4 X4 => ?_)
    have Y4 := (Y3.tr X4)
    refine cs_cemit X4.g (R.x Y4 (C' := 22) (G' := 0) (W' := 1) (by omega)) (by omega) _ _ (fun r5 A5 f5 X5 => cs_take X5.g 2 (by decide) (fun A6 f6 X6 => ?_))
    have Y6 := (Y4.tr X5).tr X6
    refine cs_copen X6.g (R.x Y6 (C' := 20) (G' := 0) (W' := 1) (by omega)) (by decide) (fun A7 f7 X7 => ?_)
    have Y7 := Y6.tr X7
    unfold wc_Tree_data wc_Tree_place wc_Program_here
    refine cs_declare X7.g (R.x Y7 (C' := 20) (G' := 0) (W' := 1) (by omega)) (by decide) _ _ _ _ _ (fun r8 A8 _ _ f8 X8 => ?_)
    have Y8 := Y7.tr X8
    have R8 : ∀ {A9 : cS} {c9 : Int}, vX A8 A9 c9 0 0 0 0 0 0 → c9 + 2 ≤ 20 → vRm A9 2 0 0 := fun x9 h9 => R.x (Y8.tr x9) (by omega)
    refine cs_cemit X8.g (R8 (vX.rf X8.g) (by omega)) (by omega) _ _ (fun r9 A9 f9 X9 => ?_)
    refine cs_cemit X9.g (R8 X9 (by omega)) (by omega) _ _ (fun r10 A10 f10 X10 => ?_)
    have Z10 := X9.tr X10
    refine cs_cemit X10.g (R8 Z10 (by omega)) (by omega) _ _ (fun r11 A11 f11 X11 => ?_)
    have Z11 := Z10.tr X11
    have G : ∀ a z, (a = 24 ∨ a = 22) → wc_Coder_counting_199 (wcG_C m) (fun A' => Q 0 A') A11 u v (yv A 19) (yget A 13 (yget A 11 (k : Nat))) y0 z a 100 := fun a z ha => by
      unfold wc_Coder_counting_199 wc_Tree_next
      refine ⟨⟨by omega, by omega⟩, cs_cemit X11.g (R8 Z11 (by omega)) (by omega) _ _ (fun r12 A12 f12 X12 => cs_cemit X12.g (R8 (Z11.tr X12) (by omega)) (by omega) _ _ (fun r13 A13 f13 X13 => ?_))⟩
      have f14 : ySm A13 (ypv (ypv A13 13 r13) 14 0) [] [13, 14] := (ySm.rf.pv rfl).pv rfl
      have X14 := vX.zv X13.g f14 rfl
      have Z14 := ((Z11.tr X12).tr X13).tr X14
      have Y14 := Y8.tr Z14
      have ch3 := ((Y14.t.ch ch2).nx X14.g.1)
      refine P4 _ _ _ X14.g ch3 (hps.d.d.t Y14.t) hm (R.x Y14 (by omega)) (fun A15 X15 => cs_land X15.g _ (fun A16 f16 X16 => ?_))
      have Y16 := (Y14.tr X15).tr X16
      have R16 : ∀ {A17 : cS} {c17 : Int}, vX A16 A17 c17 0 0 0 0 0 0 → c17 + 2 ≤ 10 → vRm A17 2 0 0 := fun x9 h9 => R.x (Y16.tr x9) (by omega)
      refine cs_cemit X16.g (R16 (vX.rf X16.g) (by omega)) (by omega) _ _ (fun r17 A17 f17 X17 => ?_)
      refine cs_cemit X17.g (R16 X17 (by omega)) (by omega) _ _ (fun r18 A18 f18 X18 => ?_)
      refine cs_cemit X18.g (R16 (X17.tr X18) (by omega)) (by omega) _ _ (fun r19 A19 f19 X19 => ?_)
      refine cs_cemit X19.g (R16 ((X17.tr X18).tr X19) (by omega)) (by omega) _ _ (fun r20 A20 f20 X20 => ?_)
      refine cs_cemit X20.g (R16 (((X17.tr X18).tr X19).tr X20) (by omega)) (by omega) _ _ (fun r21 A21 f21 X21 => cs_land X21.g _ (fun A22 f22 X22 => cs_cclose X22.g (fun A23 f23 X23 => ?_)))
      have f24 : ySm A23 (ypv (ypv (ypv A23 19 (yv A 19)) 13 u) 14 v) [] [13, 14, 19] := ((ySm.rf.pv rfl).pv rfl).pv rfl
      have e24 : yv (ypv (ypv (ypv A23 19 (yv A 19)) 13 u) 14 v) 19 = yv A 19 := rfl
      have X24 := vX.v X23.g f24 rfl (by rw [e24]; exact g19) X23.g.2.2.2.2.2.1
      exact hq _ ((Y16.tr ((((((((X17.tr X18).tr X19).tr X20).tr X21).tr X22).tr X23)).tr X24)).le (by omega))
    exact ⟨fun _ => G 24 _ (Or.inl rfl), fun _ => G 22 _ (Or.inr rfl)⟩
  refine ⟨fun q => ?_, fun _ => F A _ _ _ (vX.rf g)⟩
  rcases hx with ⟨e0, -⟩ | ⟨cx, ex, e0⟩
  · exact absurd e0 q
  have hcx := hy cx (by rw [ex]; exact List.mem_cons_self ..)
  have wx : jW y = cx.2.2.1 := by rw [ex]; rfl
  refine cs_cnumber g _ _ (l := [cx]) (vG.b27 R (by omega)) (Or.inr ⟨cx, [], rfl, e0⟩) (fun c hc => ?_) (by show cx.2.2.1 + 0 ≤ 2990; omega) (fun r A1 f1 X1 _ _ => F A1 _ _ _ X1)
  have : c = cx := by simpa using hc
  rw [this]
  exact ⟨hcx.1, by have := hcx.2; omega⟩
theorem cs_emit1 {A : cS} (g : vG A) (b1 : yz A 1 ≤ 39998) (a b : Int) {Q : Int → cS → Prop} (hq : ∀ r A', ySm A A' [1] [] → yz A' 1 = yz A 1 + 2 → vG A' → Q r A') : wc_Coder_emit A a b Q := by
  have f : ySm A (yadd (yadd A 1 a) 1 b) [1] [] := (ySm.rf.add rfl).add rfl
  have z1 : yz (yadd A 1 a) 1 = yz A 1 + 1 := rfl
  have z2 : yz (yadd (yadd A 1 a) 1 b) 1 = yz A 1 + 1 + 1 := rfl
  unfold wc_Coder_emit wc_Program_emit
  exact ⟨by omega, by omega, ⟨by omega, by omega⟩, hq _ _ f z2 (g.sm f rfl rfl)⟩
theorem cs_k10 {m : Nat} (P12 : vK12 m) (P3 : vK3h m) : vKn 10 vAny 2 0 (m + 1) := fun k b c A Q h w S g t hh hf hK R hq => by
  obtain ⟨l, y, ch, hl, -, hw, sh, hk, -⟩ := t.ks
  have hkk := jkap_le (yget A 7 (k : Nat))
  have hps : vPs A l m := fun c hc => ⟨(hl c hc).1, by have := (hl c hc).2; omega, by have := (hl c hc).2; omega⟩
  have hm : 1 ≤ m := by omega
  have w1 := jW_td l
  have w2 := jW_td (l.drop 1)
  have e1 := ve_le l
  have m1 := vmu_01 (l.drop 1)
  have rr := R.w
  show wc_Coder_switching (wcG_C m) A k (fun A' => Q 0 A')
  unfold wc_Coder_switching wc_Tree_first wc_Tree_next
  refine P12 _ _ _ g ch hps hm (R.le (by omega)) (fun A1 X1 => ?_)
  refine cs_cemit X1.g (R.x X1 (C' := 2) (G' := 0) (W' := 0) (by omega)) (by omega) _ _ (fun r2 A2 f2 X2 => ?_)
  have Y2 := vX.tr X1 X2
  have R2 := R.x Y2 (C' := 15 * (jW ((l.drop 1).take 1) : Int) + 10) (G' := 2 * (jW ((l.drop 1).take 1) : Int)) (W' := jW ((l.drop 1).take 1) + vmu (l.drop 1)) (by omega)
  -- other scalars
  have fB : ySm A2 (ypv (ypv (ypv A2 15 0) 17 ((yz A2 26 : Nat) : Int)) 18 (-1)) [] [15, 17, 18] := ((ySm.rf.pv rfl).pv rfl).pv rfl
  have eB : yv (ypv (ypv (ypv A2 15 0) 17 ((yz A2 26 : Nat) : Int)) 18 (-1)) 17 = ((yz A2 26 : Nat) : Int) := rfl
  have gB : vG (ypv (ypv (ypv A2 15 0) 17 ((yz A2 26 : Nat) : Int)) 18 (-1)) := by
    obtain ⟨g1, g2, g3, g4, g5, g6, g7, g8⟩ := X2.g
    refine ⟨g1, g2, ?_, g4, g5, g6, g7, g8⟩
    rw [eB]
    have := R2
    unfold vRm at this
    omega
  generalize ypv (ypv (ypv A2 15 0) 17 ((yz A2 26 : Nat) : Int)) 18 (-1) = B at fB eB gB
  show wcG_C m 3 (yget B 13 (yget A 11 (k : Nat))) 0 0 B _
  have tB : vT A2 B := vT.sm fB rfl
  have b1 : yz B 1 = yz A2 1 := fB.z 1 rfl
  have b26 : yz B 26 = yz A2 26 := fB.z 26 rfl
  have b24 : yz B 24 = yz A2 24 := fB.z 24 rfl
  have b2 : yz B 2 = yz A2 2 := fB.z 2 rfl
  have b5 : yz B 5 = yz A2 5 := fB.z 5 rfl
  have b25 : yz B 25 = yz A2 25 := fB.z 25 rfl
  have b27 : yz B 27 = yz A2 27 := fB.z 27 rfl
  have b32 : yz B 32 = yz A2 32 := fB.z 32 rfl
  have b23 : yv B 23 = yv A2 23 := fB.v 23 rfl
  have ch2 := ((Y2.t.tr tB).ch ch).nx gB.1
  have RB : vRm B (15 * (jW ((l.drop 1).take 1) : Int) + 10) (2 * (jW ((l.drop 1).take 1) : Int)) (jW ((l.drop 1).take 1) + vmu (l.drop 1)) := by
    unfold vRm at R2 ⊢
    rw [b1, b26, b24, b25, b27, b32, b23]
    exact R2
  refine P3 _ _ _ gB ch2 (hps.d.t (Y2.t.tr tB)) hm (RB.le (by omega)) (fun A3 X3 => ?_)
  have n3 := X3.n
  have R3 := RB.x X3 (C' := 10) (G' := 0) (W' := 0) (by omega)
  have q3 := R3
  unfold vRm at q3
  refine cs_emit1 X3.g (by omega) _ _ (fun r4 A4 f4 z4 g4 => ?_)
  have f5 : ySm A4 (ypv A4 15 r4) [] [15] := ySm.rf.pv rfl
  have g5 : vG (ypv A4 15 r4) := g4.sm f5 rfl rfl
  refine cs_land g5 _ (fun A6 f6 X6 => ?_)
  have n6 := X6.n
  have fA : ySm A3 A6 [1] [15] := (ySm.rf.tr f4 rfl rfl : ySm A3 A4 [1] [15]).tr ((ySm.rf.tr f5 rfl rfl : ySm A4 _ [1] [15]).tr f6 rfl rfl) rfl rfl
  have z61 : yz A6 1 ≤ yz A3 1 + 2 := by
    have e1 : yz (ypv A4 15 r4) 1 = yz A4 1 := rfl
    have e26 : yz A6 26 = yz (ypv A4 15 r4) 26 := f6.z 26 rfl
    unfold vN at n6
    omega
  have z626 : yz A6 26 = yz A3 26 := fA.z 26 rfl
  have v617 : yv A6 17 = ((yz A2 26 : Nat) : Int) := by
    rw [fA.v 17 rfl]
    unfold vN at n3
    omega
  -- the end
  have FIN : ∀ A7 : cS, ySm A6 A7 [1] [] → vG A7 → ((yz A7 1 : Nat) : Int) ≤ ((yz A6 1 : Nat) : Int) + 2 * (((yz A6 26 : Nat) : Int) - ((yz A2 26 : Nat) : Int)) + 6 → Q 0 (ypv (ypv (ypv (ycut A7 26 (yv A7 17)) 15 (yv A 15)) 17 (yv A 17)) 18 (yv A 18)) := fun A7 f7 g7 z7 => by
    have f8 : ySm A7 (ypv (ypv (ypv (ycut A7 26 (yv A7 17)) 15 (yv A 15)) 17 (yv A 17)) 18 (yv A 18)) [26] [15, 17, 18] := (((ySm.rf.cut rfl).pv rfl).pv rfl).pv rfl
    have z8 : yz (ypv (ypv (ypv (ycut A7 26 (yv A7 17)) 15 (yv A 15)) 17 (yv A 17)) 18 (yv A 18)) 26 = if 0 ≤ yv A7 17 ∧ yv A7 17 < (yz A7 26 : Int) then (yv A7 17).toNat else yz A7 26 := rfl
    have e8 : yv (ypv (ypv (ypv (ycut A7 26 (yv A7 17)) 15 (yv A 15)) 17 (yv A 17)) 18 (yv A 18)) 17 = yv A 17 := rfl
    have v7 : yv A7 17 = yv A6 17 := f7.v 17 rfl
    have z726 : yz A7 26 = yz A6 26 := f7.z 26 rfl
    have g8 : vG (ypv (ypv (ypv (ycut A7 26 (yv A7 17)) 15 (yv A 15)) 17 (yv A 17)) 18 (yv A 18)) := by
      obtain ⟨h1, h2, h3, h4, h5, h6, h7, h8⟩ := g7
      exact ⟨h1.k (vT.sm f8 rfl), h2, g.2.2.1, h4, h5, h6, h7, h8.sm f8 rfl⟩
    generalize ypv (ypv (ypv (ycut A7 26 (yv A7 17)) 15 (yv A 15)) 17 (yv A 17)) 18 (yv A 18) = A8 at f8 z8 e8 g8
    have f68 : ySm A6 A8 [1, 26] [15, 17, 18] := (ySm.rf.tr f7 rfl rfl : ySm A6 A7 [1, 26] [15, 17, 18]).tr f8 rfl rfl
    have f38 : ySm A3 A8 [1, 26] [15, 17, 18] := (ySm.rf.tr fA rfl rfl : ySm A3 A6 [1, 26] [15, 17, 18]).tr f68 rfl rfl
    refine hq A8 ⟨((Y2.f.tr (ySm.rf.tr fB rfl rfl : ySm A2 B vJs vKs) rfl rfl).tr X3.f rfl rfl).tr f38 rfl rfl, ((Y2.t.tr tB).tr X3.t).tr (vT.sm f38 rfl), g8, ?_⟩
    have nY := Y2.n
    have zz : (yz A2 26 : Int) ≤ ((yz A8 26 : Nat) : Int) ∧ ((yz A8 26 : Nat) : Int) ≤ ((yz A2 26 : Nat) : Int) := by
      unfold vN at n3
      rw [z8, v7, v617, z726, z626]
      split <;> omega
    have c1 : yz A8 1 = yz A7 1 := f8.z 1 rfl
    have c2 : yz A8 2 = yz A3 2 := f38.z 2 rfl
    have c5 : yz A8 5 = yz A3 5 := f38.z 5 rfl
    have c24 : yz A8 24 = yz A3 24 := f38.z 24 rfl
    have c25 : yz A8 25 = yz A3 25 := f38.z 25 rfl
    have c27 : yz A8 27 = yz A3 27 := f38.z 27 rfl
    have c32 : yz A8 32 = yz A3 32 := f38.z 32 rfl
    have c23 : yv A8 23 = yv A3 23 := f38.v 23 rfl
    unfold vN at nY n3 ⊢
    omega
  have L : ∀ (m2 : Nat) (A7 : cS) (x7 : Int), ySm A6 A7 [1] [] → vG A7 → ((yz A7 1 : Nat) : Int) + 2 * (((yz A6 26 : Nat) : Int) - x7) = ((yz A6 1 : Nat) : Int) + 2 * (((yz A6 26 : Nat) : Int) - ((yz A2 26 : Nat) : Int)) → 0 ≤ x7 → x7 ≤ ((yz A6 26 : Nat) : Int) + 1 → ((yz A6 26 : Nat) : Int) + 2 - x7 < m2 → wc_Coder_switching_106 (wcG_C m) (fun A' => Q 0 A') m2 A7 (yv A 15) (yv A 17) (yv A 18) x7 := by
    intro m2
    induction m2 with
    | zero => intro A7 x7 _ _ _ _ _ h; omega
    | succ m2 ih =>
      intro A7 x7 f7 g7 hz h0 h1 h2
      have z726 : yz A7 26 = yz A6 26 := f7.z 26 rfl
      unfold vN at n3
      unfold wc_Coder_switching_106
      unfold wc_Coder_switching_106B
      refine ⟨fun q => cs_emit1 g7 (by omega) _ _ (fun r8 A8 f8 z8 g8 => ⟨fun _ => cs_land g8 _ (fun A9 f9 X9 => ?_), fun _ => cs_emit1 g8 (by omega) _ _ (fun r9 A9 f9 z9 g9 => cs_land g9 _ (fun A10 f10 X10 => ?_))⟩), fun q => cs_emit1 g7 (by omega) _ _ (fun r8 A8 f8 z8 g8 => ⟨⟨by omega, by omega⟩, cs_emit1 g8 (by omega) _ _ (fun r9 A9 f9 z9 g9 => ⟨⟨by omega, by omega⟩, ih A9 _ ((f7.tr f8 rfl rfl).tr f9 rfl rfl) g9 (by omega) (by omega) (by omega) (by omega)⟩)⟩)⟩
      · have f69 := (f7.tr f8 rfl rfl).tr f9 rfl rfl
        have e := X9.n
        unfold vN at e
        have e26 : yz A9 26 = yz A8 26 := f9.z 26 rfl
        exact FIN A9 f69 X9.g (by omega)
      · have f69 := ((f7.tr f8 rfl rfl).tr f9 rfl rfl).tr f10 rfl rfl
        have e := X10.n
        unfold vN at e
        have e26 : yz A10 26 = yz A9 26 := f10.z 26 rfl
        exact FIN A10 f69 X10.g (by omega)
  have q6 := X6.g
  unfold vN at n3
  exact ⟨(yz A6 26) + 3, L _ A6 _ ySm.rf X6.g (by rw [v617]) (by omega) (by omega) (by omega)⟩
