/-! THE CLASS'S CODER: CALLS, ARGUMENTS, VALOF, CHOICE -/
theorem cs_k14 {m : Nat} (P12 : vK12 m) : vK14 (m + 1) := fun k i c A Q l g ch hl hn hlen hi R hq => by
  have L2 : ∀ (m2 : Nat) (A1 : cS) (lr : List jC) (d : Nat) (x4 x5 : Int), vXw A A1 d → jCh A1 x4 (jNs lr) → vPs A1 lr m → d + jW lr ≤ ve (l.drop i) → 0 ≤ x5 → x5 ≤ 20 → 1 ≤ m ∨ lr = [] → 20 - x5 < m2 → wc_Coder_arguments_46 (wcG_C m) (fun A' => Q 0 A') m2 A1 x4 x5 := by
    intro m2
    induction m2 with
    | zero => intro A1 lr d x4 x5 _ _ _ _ _ _ _ h; omega
    | succ m2 ih =>
      intro A1 lr d x4 x5 X hc hlr hd h0 h1 hm h2
      have O : Q 0 A1 := hq A1 (vXw.up X (by omega))
      unfold wc_Coder_arguments_46
      unfold wc_Coder_arguments_46B
      refine ⟨fun _ => O, fun _ => ⟨fun _ => O, fun q => ?_⟩⟩
      rcases hc.cs with ⟨e, -⟩ | ⟨kc, lt, rfl, e5, e1, hct⟩
      · exact absurd e q
      have hm1 : 1 ≤ m := hm.elim id (fun e => absurd e (List.cons_ne_nil _ _))
      rw [jW_c] at hd
      have hve : ve (kc :: lt) = kc.2.2.1 - 1 := rfl
      refine P12 _ _ _ X.g hc hlr hm1 (vRw.x R X (by omega)) (fun A2 X2 => ?_)
      unfold wc_Tree_next
      refine ⟨⟨by omega, by omega⟩, ih A2 lt (d + ve (kc :: lt)) _ (x5 + 1) (vXw.tr X X2) ?_ (vPs.t (fun c hc => hlr c (List.mem_cons_of_mem _ hc)) X2.t) (by omega) (by omega) (by omega) (Or.inl hm1) (by omega)⟩
      rw [X2.t.1 13 _ (by omega)]
      exact X2.t.ch hct
  have L : ∀ (m2 : Nat) (x3 : Int) (j : Nat), jCh A x3 (jNs (l.drop j)) → j ≤ i → i - j < m2 → wc_Coder_arguments_12 (wcG_C m) (fun A' => Q 0 A') m2 A i x3 j := by
    intro m2
    induction m2 with
    | zero => intro x3 j _ _ h; omega
    | succ m2 ih =>
      intro x3 j hc h0 h1
      unfold wc_Coder_arguments_12
      unfold wc_Coder_arguments_12B
      unfold wc_Tree_first wc_Tree_next
      refine ⟨fun q => ?_, fun q => ?_⟩
      · have ej : j = i := by omega
        subst ej
        rcases hc.cs with ⟨e, e'⟩ | ⟨kc, lt, e', e5, e1, hct⟩
        · rw [e, g.1.2.2.1]
          exact ⟨21, L2 21 A [] 0 _ 0 (vX.rf g) (show (0 : Int) = 0 from rfl) (fun c hc => absurd hc List.not_mem_nil) (by show 0 + 0 ≤ _; omega) (by decide) (by decide) (Or.inr rfl) (by decide)⟩
        · have hkc := hl kc (List.mem_of_mem_drop (by rw [e']; exact List.mem_cons_self ..))
          obtain ⟨l2, y, ch2, hl2, -, hw2, -, hk2, -⟩ := hkc.1.ks
          have hkk := jkap_le (yget A 7 (kc.2.1 : Nat))
          have hve : ve (l.drop j) = kc.2.2.1 - 1 := by rw [e']; rfl
          rw [e5]
          exact ⟨21, L2 21 A l2 0 _ 0 (vX.rf g) ch2 (fun c hc => ⟨(hl2 c hc).1, by have := (hl2 c hc).2; omega, by have := (hl2 c hc).2; omega⟩) (by omega) (by decide) (by decide) (Or.inl (by omega)) (by decide)⟩
      · refine ⟨⟨by omega, by omega⟩, ?_⟩
        have e : (j : Int) + 1 = ((j + 1 : Nat) : Int) := by omega
        rw [e]
        refine ih _ (j + 1) ?_ (by omega) (by omega)
        have := hc.nx g.1
        rw [List.drop_drop] at this
        exact this
  show wc_Coder_arguments (wcG_C m) A k i (fun A' => Q 0 A')
  unfold wc_Coder_arguments wc_Tree_first
  exact ⟨i + 1, L (i + 1) _ 0 ch (Nat.zero_le _) (by omega)⟩
theorem vs_drop : ∀ (l : List jC) (j : Nat), vs (l.drop j) ≤ vs l
  | [], j => by rw [List.drop_nil]; exact Nat.le_refl _
  | a :: l, 0 => Nat.le_refl _
  | a :: l, j + 1 => by
    rw [List.drop_succ_cons, vs_c]
    have := vs_drop l j
    omega
theorem cs_k13 {m : Nat} (P12 : vK12 m) (P14 : vK14 m) : vKn 13 vAny 0 0 (m + 1) := fun k b c A Q h w S g t hh hf _ R hq => by
  obtain ⟨l, y, ch, hl, -, hw, -, hk, -⟩ := t.ks
  have hkk := jkap_le (yget A 7 (k : Nat))
  have hlen := jW_len (fun c hc => (hl c hc).1)
  have hvs := vs_len (fun c hc => (hl c hc).1)
  have rw' := R.w
  have hps : vPs A l m := fun c hc => ⟨(hl c hc).1, by have := (hl c hc).2; omega, by have := (hl c hc).2; omega⟩
  have hm : 1 ≤ m := by omega
  have RR : vRw A w := vRm.le R (by omega)
  -- the emits
  have L3 : ∀ (m2 : Nat) (A1 : cS) (x3 : Int) (x4 x5 e : Int), vX A A1 (15 * (vs l : Int) + e) (vs l) (2 * (vs l : Int)) (2 * (vs l : Int)) (vs l) (vs l) (vs l) → e + 2 * (x3 - x5) ≤ 2 * (l.length : Int) → 0 ≤ x5 → x5 ≤ x3 → x3 ≤ 3000 → 0 ≤ e → x3 - x5 < m2 → wc_Coder_calls_97 (wcG_C m) (fun A' => Q 0 A') m2 A1 x3 x4 x5 := by
    intro m2
    induction m2 with
    | zero => intro A1 x3 x4 x5 e _ _ _ _ _ _ h; omega
    | succ m2 ih =>
      intro A1 x3 x4 x5 e X h0 h1 h2 h3 he h4
      unfold wc_Coder_calls_97
      unfold wc_Coder_calls_97B
      unfold wc_Tree_data wc_Tree_next
      refine ⟨fun _ => hq A1 (X.le (by omega)), fun _ z4 _ _ z16 _ _ => ?_⟩
      refine cs_cemit X.g (R.x X (C' := 2) (G' := 0) (W' := 0) (by omega)) (by omega) _ _ (fun r A2 f2 X2 => ⟨⟨by omega, by omega⟩, ih A2 x3 _ (x5 + 1) (e + 2) ((X.tr X2).le (by omega)) (by omega) (by omega) (by omega) h3 (by omega) (by omega)⟩)
  -- the items, from the last
  have L2 : ∀ (m2 : Nat) (A1 : cS) (x2 : Int) (n j : Nat), jCh A x2 (jNs l) → vXw A A1 (vs (l.drop (j + 1))) → j ≤ n → n ≤ l.length → j < m2 → wc_Coder_calls_59 (wcG_C m) (fun A' => Q 0 A') m2 A1 k x2 n j := by
    intro m2
    induction m2 with
    | zero => intro A1 x2 n j _ _ _ _ h; omega
    | succ m2 ih =>
      intro A1 x2 n j hx X h0 h1 h2
      have vv : ve (l.drop j) + vs (l.drop (j + 1)) = vs (l.drop j) := by
        have := vs_ve (l.drop j)
        rw [List.drop_drop] at this
        exact this
      have vle := vs_drop l j
      unfold wc_Coder_calls_59
      unfold wc_Coder_calls_59B
      refine ⟨fun q => ?_, fun q => ?_⟩
      · have j0 : j = 0 := by omega
        subst j0
        rw [List.drop_zero] at vv
        refine P12 _ _ _ X.g (X.t.ch hx) (hps.t X.t) hm (vRw.x RR X (by omega)) (fun A2 X2 => ?_)
        unfold wc_Tree_next
        refine ⟨n + 1, L3 _ A2 n _ 0 0 ((vXw.tr X X2).le (by omega)) (by omega) (by decide) (by omega) (by omega) (by decide) (by omega)⟩
      · refine P14 k j 0 X.g (by rw [X.t.1 11 _ (by omega)]; exact X.t.ch ch) (hps.t X.t) hm (by omega) (by omega) (vRw.x RR X (by omega)) (fun A2 X2 => ⟨⟨by omega, by omega⟩, ?_⟩)
        have e : (j : Int) + (-1) = ((j - 1 : Nat) : Int) := by omega
        rw [e]
        refine ih A2 x2 n (j - 1) hx ?_ (by omega) h1 (by omega)
        have e2 : j - 1 + 1 = j := by omega
        rw [e2, ← vv, Nat.add_comm]
        exact vXw.tr X X2
  -- how many
  have L : ∀ (m2 : Nat) (x4 : Int) (j : Nat) (x5 : Int), jCh A x4 (jNs (l.drop (j + 1))) → j ≤ l.length → x5 = j → l.length - j < m2 → wc_Coder_calls_24 (wcG_C m) (fun A' => Q 0 A') m2 A k (yget A 11 (k : Nat)) j x4 x5 := by
    intro m2
    induction m2 with
    | zero => intro x4 j x5 _ _ _ h; omega
    | succ m2 ih =>
      intro x4 j x5 hc h0 h5 h1
      unfold wc_Coder_calls_24
      unfold wc_Coder_calls_24B
      unfold wc_Tree_next
      have O : l.drop (j + 1) = [] → ∃ n, wc_Coder_calls_59 (wcG_C m) (fun A' => Q 0 A') n A k (yget A 11 (k : Nat)) j j := fun e => ⟨j + 1, L2 _ A _ j j ch (by rw [e]; exact (vX.rf g)) (Nat.le_refl _) h0 (by omega)⟩
      refine ⟨fun q => by omega, fun _ => ⟨fun q => ?_, fun q => ?_⟩⟩
      · rcases hc.cs with ⟨-, e⟩ | ⟨kc, lt, -, e, e1, -⟩
        · exact O e
        · omega
      · rcases hc.cs with ⟨e, -⟩ | ⟨kc, lt, e, -, -, -⟩
        · exact absurd e q
        have hl2 : j + 1 < l.length := by
          have := congrArg List.length e
          rw [List.length_drop, List.length_cons] at this
          omega
        refine ⟨⟨by omega, by omega⟩, ⟨by omega, by omega⟩, ?_⟩
        have e2 : (j : Int) + 1 = ((j + 1 : Nat) : Int) := by omega
        rw [e2]
        refine ih _ (j + 1) (x5 + 1) ?_ (by omega) (by omega) (by omega)
        have := hc.nx g.1
        rw [List.drop_drop] at this
        exact this
  show wc_Coder_calls (wcG_C m) A k (fun A' => Q 0 A')
  unfold wc_Coder_calls wc_Tree_first wc_Tree_next
  exact ⟨l.length + 1, L _ _ 0 0 (ch.nx g.1) (Nat.zero_le _) rfl (by omega)⟩
theorem cs_k16 {m : Nat} (P12 : vK12 m) : vKn 16 vAny 0 0 (m + 1) := fun k b c A Q h w S g t hh hf _ R hq => by
  obtain ⟨l, y, ch, hl, -, hw, -, hk, -⟩ := t.ks
  have hkk := jkap_le (yget A 7 (k : Nat))
  have hps : vPs A l m := fun c hc => ⟨(hl c hc).1, by have := (hl c hc).2; omega, by have := (hl c hc).2; omega⟩
  have hm : 1 ≤ m := by omega
  have w1 := jW_td l
  have w2 := jW_td (l.drop 1)
  have w3 := jW_td ((l.drop 1).drop 1)
  have e1 := ve_le l
  have e2 := ve_le (l.drop 1)
  have e3 := ve_le ((l.drop 1).drop 1)
  show wc_Coder_choice (wcG_C m) A k (fun A' => Q 0 A')
  unfold wc_Coder_choice wc_Tree_first wc_Tree_next
  refine P12 _ _ _ g ch hps hm (vRm.le R (by omega)) (fun A1 X1 => cs_cemit X1.g (R.x X1 (C' := 2) (G' := 0) (W' := 0) (by omega)) (by omega) _ _ (fun r1 A2 f2 X2 => ?_))
  have Y2 := vX.tr X1 X2
  have ch2 := Y2.t.ch (ch.nx g.1)
  refine P12 _ _ _ Y2.g ch2 (hps.d.t Y2.t) hm (R.x Y2 (by omega)) (fun A3 X3 => cs_cemit X3.g (R.x (Y2.tr X3) (C' := 2) (G' := 0) (W' := 0) (by omega)) (by omega) _ _ (fun r3 A4 f4 X4 => cs_land X4.g _ (fun A5 f5 X5 => ?_)))
  have Z := ((vX.tr X3 X4).tr X5)
  have Y5 := Y2.tr Z
  have ch3 := (Z.t.ch ch2).nx Y5.g.1
  refine P12 _ _ _ Y5.g ch3 (hps.d.d.t Y5.t) hm (R.x Y5 (by omega)) (fun A6 X6 => cs_land X6.g _ (fun A7 f7 X7 => hq A7 (((Y5.tr X6).tr X7).le (by omega))))
theorem cs_k15 {m : Nat} (P4 : vK4 m) : vKn 15 vAny 0 0 (m + 1) := fun k b c A Q h w S g t hh hf _ R hq => by
  obtain ⟨l, y, ch, hl, -, hw, -, hk, -⟩ := t.ks
  have hkk := jkap_le (yget A 7 (k : Nat))
  have hps : vPs A l m := fun c hc => ⟨(hl c hc).1, by have := (hl c hc).2; omega, by have := (hl c hc).2; omega⟩
  have hm : 1 ≤ m := by omega
  have w1 := jW_td l
  have mu := vmu_01 l
  have R6 := R
  unfold vRm at R6
  show wc_Coder_valof (wcG_C m) A k (fun A' => Q 0 A')
  unfold wc_Coder_valof wc_Coder_leaveAll wc_Tree_first
  have f1 : ySm A (ypv (ypv (ypv (ypv A 13 (-1)) 14 (-1)) 15 (-1)) 16 (-1)) [] [13, 14, 15, 16] := (((ySm.rf.pv rfl).pv rfl).pv rfl).pv rfl
  have X1 := vX.zv g f1 rfl
  generalize ypv (ypv (ypv (ypv A 13 (-1)) 14 (-1)) 15 (-1)) 16 (-1) = A1 at f1 X1
  have e23 : yv A1 23 = yv A 23 := f1.v 23 rfl
  have h23 := g.2.2.2.2.1
  have rr := vRm.w R
  have f2 : ySm A1 (ypv (ypv (ypv A1 16 0) 23 ((yv A1 23) + 1)) 22 ((yv A1 23) + 1)) [] [16, 21, 22, 23] := ((ySm.rf.pv rfl).pv rfl).pv rfl
  have X2 := vX.a X1.g f2 rfl
  refine ⟨⟨by omega, by omega⟩, ?_⟩
  generalize ypv (ypv (ypv A1 16 0) 23 ((yv A1 23) + 1)) 22 ((yv A1 23) + 1) = A2 at f2 X2
  have Y2 := X1.tr X2
  refine P4 _ _ _ Y2.g (l := l) (by rw [Y2.t.1 11 _ (by omega)]; exact Y2.t.ch ch) (hps.t Y2.t) hm (R.x Y2 (by omega)) (fun A3 X3 => cs_cemit X3.g (R.x (Y2.tr X3) (C' := 2) (G' := 0) (W' := 0) (by omega)) (by omega) _ _ (fun r4 A4 f4 X4 => cs_land X4.g _ (fun A5 f5 X5 => ?_)))
  have f6 : ySm A5 (ypv (ypv (ypv (ypv (ypv A5 13 (yv A 13)) 14 (yv A 14)) 15 (yv A 15)) 16 (yv A 16)) 22 (yv A 22)) [] [13, 14, 15, 16, 22] := ((((ySm.rf.pv rfl).pv rfl).pv rfl).pv rfl).pv rfl
  have X6 := vX.zv X5.g f6 rfl
  exact hq _ (((((Y2.tr X3).tr X4).tr X5).tr X6).le (by omega))
