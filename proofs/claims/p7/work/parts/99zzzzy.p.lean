/-! THE CLASS'S CODER: ROUTINES, VARIABLES, ALL -/
theorem cs_k3 {m : Nat} (P0 : vKn 0 vAny 0 0 m) (P2 : vKn 2 (fun K => K = 97) 0 0 m) (P4 : vK4 m) : vKn 3 vAny 0 0 (m + 1) ∧ vK3h (m + 1) := by
  refine ⟨fun k b c A Q h w S g t hh hf hK R hq => ?_, fun x b c A Q l g ch hl hn R hq => ?_⟩
  · obtain ⟨l, y, ch, hl, -, hw, -, hk, -⟩ := t.ks
    have hkk := jkap_le (yget A 7 (k : Nat))
    show wc_Coder_section (wcG_C m) A k (fun A' => Q 0 A')
    exact cs_sec P0 P2 P4 _ g ch (fun c hc => ⟨(hl c hc).1, by have := (hl c hc).2; omega, by have := (hl c hc).2; omega⟩) (Or.inl (by omega)) (R.le (by omega)) (fun A' X => hq A' (X.le (by omega)))
  · show wc_Coder_section (wcG_C m) A x (fun A' => Q 0 A')
    rcases ch.cs with ⟨rfl, rfl⟩ | ⟨kc, lt, rfl, hx, -, -⟩
    · have mu : vmu [] = 1 := rfl
      have j0 : jW (([] : List jC).take 1) = 0 := rfl
      have j1 : jW ([] : List jC) = 0 := rfl
      rw [mu, j0] at R hq
      exact cs_sec P0 P2 P4 (l := []) 0 g g.1.2.2.1 (fun c hc => absurd hc List.not_mem_nil) (Or.inr rfl) (by rw [j1]; exact R.le (by omega)) (fun A' X => hq A' (by rw [j1] at X; exact X.le (by omega)))
    · have mu : vmu (kc :: lt) = 0 := rfl
      have j0 : jW ((kc :: lt).take 1) = kc.2.2.1 := rfl
      rw [mu, j0] at R hq
      have hkc := hl kc (List.mem_cons_self ..)
      obtain ⟨l, y, ch2, hl2, -, hw, -, hk, -⟩ := hkc.1.ks
      have hkk := jkap_le (yget A 7 (kc.2.1 : Nat))
      rw [hx]
      exact cs_sec P0 P2 P4 _ g ch2 (fun c hc => ⟨(hl2 c hc).1, by have := (hl2 c hc).2; omega, by have := (hl2 c hc).2; omega⟩) (Or.inl (by omega)) (R.le (by omega)) (fun A' X => hq A' (X.le (by omega)))
theorem cs_k0 {m : Nat} (P1 : vKn 1 vAny 0 1 m) : vKn 0 vAny 0 0 (m + 1) := fun k b c A Q h w S g t hh hf hK R hq => by
  obtain ⟨l, y, ch, hl, -, hw, sh, hk, -⟩ := t.ks
  have hkk := jkap_le (yget A 7 (k : Nat))
  have hlen := jW_len (fun c hc => (hl c hc).1)
  have hvs := vs_len (fun c hc => (hl c hc).1)
  have rr := R.w
  show wc_Coder_routines (wcG_C m) A k (fun A' => Q 0 A')
  have L2 : ∀ (m2 : Nat) (A1 : cS) (l1 lr : List jC) (x2 x3 : Int), l = l1 ++ lr → vX A A1 (15 * (jW l1 : Int)) (jW l1) (2 * (jW l1 : Int)) (2 * (jW l1 : Int)) ((l.length : Int) + vs l1) (jW l1) (jW l1) → jCh A1 x2 (jNs lr) → 0 ≤ x3 → x3 + lr.length ≤ 3000 → lr.length < m2 → wc_Coder_routines_52 (wcG_C m) (fun A' => Q 0 A') m2 A1 x2 x3 := by
    intro m2
    induction m2 with
    | zero => intro A1 l1 lr x2 x3 _ _ _ _ _ h; omega
    | succ m2 ih =>
      intro A1 l1 lr x2 x3 el X hc h0 h1 h2
      have wl : jW l = jW l1 + jW lr := by rw [el, jW_ap]
      have sl : vs l = vs l1 + vs lr := by rw [el]; unfold vs; rw [List.map_append, List.sum_append]
      have O : Q 0 A1 := hq A1 (X.le (by omega))
      unfold wc_Coder_routines_52
      unfold wc_Coder_routines_52B
      refine ⟨fun _ => O, fun _ => ⟨fun _ => O, fun q => ?_⟩⟩
      rcases hc.cs with ⟨e, -⟩ | ⟨kc, lt, rfl, e5, e1, hct⟩
      · exact absurd e q
      have hkc := hl kc (by rw [el]; simp)
      have kw := hkc.1.n1.2.2
      rw [jW_c] at wl
      rw [vs_c] at sl
      rw [List.length_cons] at h1 h2
      have hkap := jkap_le (yget A1 7 (kc.2.1 : Nat))
      have := P1 kc.2.1 0 0 (Q := fun _ A8 => wc_Tree_next A8 (kc.2.1 : Nat) (fun r15 A16 => (zR (x3 + 1)) ∧ wc_Coder_routines_52 (wcG_C m) (fun A' => Q 0 A') m2 A16 r15 (x3 + 1))) X.g (hkc.1.k X.t) (by have := hkc.2; omega) (by have := hkc.2; omega) trivial (R.x X (by omega)) (fun A2 X2 => ?_)
      · rw [e5]
        exact this
      · unfold wc_Tree_next
        refine ⟨⟨by omega, by omega⟩, ih A2 (l1 ++ [kc]) lt _ (x3 + 1) (by rw [el]; simp) ((X.tr X2).le ?_) ?_ (by omega) (by omega) (by omega)⟩
        · have j1 : jW [kc] = kc.2.2.1 := rfl
          have j2 : vs (l1 ++ [kc]) = vs l1 + (kc.2.2.1 - 1) := by unfold vs; rw [List.map_append, List.sum_append]; rfl
          rw [jW_ap, j1, j2]
          omega
        · rw [X2.t.1 13 _ (by omega), ← e5]
          exact X2.t.ch hct
  have L1 : ∀ (m2 : Nat) (A1 : cS) (l1 lr : List jC) (x2 x3 : Int), l = l1 ++ lr → vX A A1 0 0 0 0 l1.length 0 0 → jCh A1 x2 (jNs lr) → 0 ≤ x3 → x3 + lr.length ≤ 3000 → lr.length < m2 → wc_Coder_routines_11 (wcG_C m) (fun A' => Q 0 A') m2 A1 k x2 x3 := by
    intro m2
    induction m2 with
    | zero => intro A1 l1 lr x2 x3 _ _ _ _ _ h; omega
    | succ m2 ih =>
      intro A1 l1 lr x2 x3 el X hc h0 h1 h2
      have ll : l.length = l1.length + lr.length := by rw [el, List.length_append]
      have O : ∃ n, wc_Coder_routines_52 (wcG_C m) (fun A' => Q 0 A') n A1 (yget A1 11 (k : Nat)) 0 := by
        refine ⟨l.length + 1, L2 (l.length + 1) A1 [] l _ 0 rfl (X.le ?_) ?_ (by decide) (by omega) (by omega)⟩
        · have j1 : jW ([] : List jC) = 0 := rfl
          have j2 : vs ([] : List jC) = 0 := rfl
          rw [j1, j2]
          omega
        · rw [X.t.1 11 _ (by omega)]
          exact X.t.ch ch
      unfold wc_Coder_routines_11
      unfold wc_Coder_routines_11B
      unfold wc_Tree_first wc_Tree_next
      refine ⟨fun _ => O, fun _ => ⟨fun _ => O, fun q => ?_⟩⟩
      rcases hc.cs with ⟨e, -⟩ | ⟨kc, lt, rfl, e5, e1, hct⟩
      · exact absurd e q
      rw [List.length_cons] at h1 h2 ll
      refine cs_routineName X.g (R.x X (C' := 0) (G' := 0) (W' := 1) (by omega)) (by decide) _ (fun A2 X2 => ⟨⟨by omega, by omega⟩, ih A2 (l1 ++ [kc]) lt _ (x3 + 1) (by rw [el]; simp) ((X.tr X2).le (by rw [List.length_append]; show _ ∧ _; have : ([kc] : List jC).length = 1 := rfl; omega)) ?_ (by omega) (by omega) (by omega)⟩)
      rw [X2.t.1 13 _ (by omega)]
      exact X2.t.ch hct
  unfold wc_Coder_routines wc_Tree_first
  exact ⟨l.length + 1, L1 (l.length + 1) A [] l _ 0 rfl ((vX.rf g).le (by show _ ∧ _; have : ([] : List jC).length = 0 := rfl; omega)) ch (by decide) (by omega) (by omega)⟩
theorem cs_k1 {m : Nat} (P12 : vK12 m) (P4 : vK4 m) : vKn 1 vAny 0 1 (m + 1) := fun k b c A Q h w S g t hh hf hK R hq => by
  have hkk := jkap_le (yget A 7 (k : Nat))
  have R6 := R
  unfold vRm at R6
  have h23 := g.2.2.2.2.1
  have w1 := t.n1.2.2
  show wc_Coder_routine (wcG_C m) A k (fun A' => Q 0 A')
  unfold wc_Coder_routine wc_Coder_leaveAll wc_Tree_extra wc_Tree_kind
  refine cs_cemit g R (by omega) _ _ (fun r1 A1 f1 X1 => ?_)
  have f2 : ySm A1 (ypv (ypv (ypv (ypv A1 13 (-1)) 14 (-1)) 15 (-1)) 16 (-1)) [] [13, 14, 15, 16] := (((ySm.rf.pv rfl).pv rfl).pv rfl).pv rfl
  have X2 := vX.zv X1.g f2 rfl
  dsimp only
  generalize ypv (ypv (ypv (ypv A1 13 (-1)) 14 (-1)) 15 (-1)) 16 (-1) = A2 at f2 X2
  have e23 : yv A2 23 = yv A 23 := (f2.v 23 rfl).trans (f1.v 23 rfl)
  have f3 : ySm A2 (ypv (ypv (ypv A2 21 (yget A2 10 (k : Nat))) 23 ((yv A2 23) + 1)) 22 ((yv A2 23) + 1)) [] [16, 21, 22, 23] := ((ySm.rf.pv rfl).pv rfl).pv rfl
  have X3 := vX.a X2.g f3 rfl
  refine ⟨⟨by omega, by omega⟩, ?_⟩
  generalize ypv (ypv (ypv A2 21 (yget A2 10 (k : Nat))) 23 ((yv A2 23) + 1)) 22 ((yv A2 23) + 1) = A3 at f3 X3
  have Y3 := (X1.tr X2).tr X3
  -- the end
  have END : ∀ (A4 : cS) (u13 u14 u15 u16 u20 u21 u22 c4 l4 g4 k4 s4 m4 a4 : Int), vX A3 A4 c4 l4 g4 k4 s4 m4 a4 → (c4 + 4 ≤ 15 * (w : Int) ∧ l4 ≤ w ∧ g4 ≤ 2 * (w : Int) ∧ k4 ≤ 2 * (w : Int) ∧ s4 ≤ (w : Int) - 1 ∧ m4 ≤ w ∧ a4 + 1 ≤ w) → wc_Coder_routine_162 (wcG_C m) (fun A' => Q 0 A') A4 u13 u14 u15 u16 (yv A 19) u20 u21 u22 (yv A 24) r1 := fun A4 u13 u14 u15 u16 u20 u21 u22 c4 l4 g4 k4 s4 m4 a4 X4 hb => by
    unfold wc_Coder_routine_162 wc_Program_setFrame
    refine cs_cemit X4.g (R.x (Y3.tr X4) (C' := 2) (G' := 0) (W' := 0) (by omega)) (by decide) _ _ (fun r5 A5 f5 X5 => cs_cclose X5.g (fun A6 f6 X6 => ?_))
    obtain ⟨f7, X7⟩ := vX.set X6.g (j := 5) (by omega) (yv A6 21) (yv A6 20)
    refine cs_land X7.g _ (fun A8 f8 X8 => ⟨g.2.2.2.2.2.1, ?_⟩)
    have f9 : ySm A8 (ypv (ypv (ypv (ypv (ypv (ypv (ypv (ypv (ypv A8 13 u13) 14 u14) 15 u15) 16 u16) 19 (yv A 19)) 20 u20) 21 u21) 22 u22) 24 (yv A 24)) [] [13, 14, 15, 16, 19, 20, 21, 22, 24] := ((((((((ySm.rf.pv rfl).pv rfl).pv rfl).pv rfl).pv rfl).pv rfl).pv rfl).pv rfl).pv rfl
    have e19 : yv (ypv (ypv (ypv (ypv (ypv (ypv (ypv (ypv (ypv A8 13 u13) 14 u14) 15 u15) 16 u16) 19 (yv A 19)) 20 u20) 21 u21) 22 u22) 24 (yv A 24)) 19 = yv A 19 := rfl
    have e24 : yv (ypv (ypv (ypv (ypv (ypv (ypv (ypv (ypv (ypv A8 13 u13) 14 u14) 15 u15) 16 u16) 19 (yv A 19)) 20 u20) 21 u21) 22 u22) 24 (yv A 24)) 24 = yv A 24 := rfl
    have X9 := vX.v X8.g f9 rfl (by rw [e19]; exact g.2.2.2.1) (by rw [e24]; exact g.2.2.2.2.2.1)
    exact hq _ ((((((Y3.tr X4).tr X5).tr X6).tr X7).tr X8 |>.tr X9).le (by omega))
  have G : ∀ (u13 u14 u15 u16 u20 u21 u22 y0 : Int), (y0 = 0 ∨ y0 = 1) → wc_Coder_routine_114 (wcG_C m) (fun A' => Q 0 A') A3 k u13 u14 u15 u16 (yv A 19) u20 u21 u22 (yv A 24) r1 y0 := fun u13 u14 u15 u16 u20 u21 u22 y0 hy => by
    unfold wc_Coder_routine_114
    have f4 : ySm A3 (ypv A3 24 y0) [] [24] := ySm.rf.pv rfl
    have X4 := vX.v X3.g f4 rfl X3.g.2.2.2.1 (show y0 = 0 ∨ y0 = 1 from hy)
    have Y4 := Y3.tr X4
    have n4 := Y4.n
    unfold vN at n4
    refine ⟨hy, cs_copen1 X4.g (by omega) (by omega) (fun A5 f5 X5 => ?_)⟩
    have Y5 := Y4.tr X5
    have n5 := Y5.n
    unfold vN at n5
    have k5 : yget A5 7 (k : Nat) = yget A 7 (k : Nat) := Y5.t.1 7 _ (by omega)
    refine cs_parameters X5.g (t.k Y5.t) (by omega) (fun r A6 l l1 l2 el hl hlw hc X6 => ?_)
    rw [k5] at hl
    have Y6 := Y5.tr X6
    have wl : jW l = jW l1 + jW l2 := by rw [el, jW_ap]
    have tl := jW_t1 (l := l2)
    have vl := ve_le l2
    have mu := vmu_01 l2
    have hps : vPs A6 l2 m := fun c hc => by
      have := hl c (by rw [el]; exact List.mem_append.mpr (Or.inr hc))
      exact ⟨this.1, by omega, by omega⟩
    have Z6 := (X4.tr X5).tr X6
    have hm : 1 ≤ m := by
      obtain ⟨l9, y9, -, -, -, -, -, hk9, -⟩ := t.ks
      omega
    refine ⟨fun _ => P4 _ _ _ X6.g hc hps hm (R.x Y6 (by omega)) (fun A7 X7 => cs_cemit X7.g (R.x (Y6.tr X7) (C' := 2) (G' := 0) (W' := 0) (by omega)) (by omega) _ _ (fun r8 A8 f8 X8 => END A8 _ _ _ _ _ _ _ _ _ _ _ _ _ _ ((Z6.tr X7).tr X8) (by omega))), fun _ => P12 _ _ _ X6.g hc hps hm (R.x Y6 (by omega)) (fun A7 X7 => END A7 _ _ _ _ _ _ _ _ _ _ _ _ _ _ (Z6.tr X7) (by omega))⟩
  exact ⟨fun _ => G _ _ _ _ _ _ _ 0 (Or.inl rfl), fun _ => G _ _ _ _ _ _ _ 1 (Or.inr rfl)⟩
