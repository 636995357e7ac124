/-! THE CLASS'S CODER: COMMANDS -/
theorem ve_lt {A : cS} {l : List jC} (h : ¬ l = []) (p : ∀ c ∈ l, jTc A c) : ve l + 1 ≤ jW (l.take 1) := by
  cases l with
  | nil => exact absurd rfl h
  | cons c t =>
    have := (p c (List.mem_cons_self ..)).n1.2.2
    show c.2.2.1 - 1 + 1 ≤ c.2.2.1 + 0
    omega
theorem cs_k5 {m : Nat} (P12 : vK12 m) : vKn 5 (fun K => K = 90) 2 0 (m + 1) := fun k b c A Q h w S g t hh hf hK R hq => by
  obtain ⟨l, y, ch, hl, -, hw, sh, hk, -⟩ := t.ks
  have hkk := jkap_le (yget A 7 (k : Nat))
  have hps : vPs A l m := fun c hc => ⟨(hl c hc).1, by have := (hl c hc).2; omega, by have := (hl c hc).2; omega⟩
  have hm : 1 ≤ m := by omega
  have hlen := jW_len (fun c hc => (hl c hc).1)
  have hvs := vs_len (fun c hc => (hl c hc).1)
  have rr := R.w
  obtain ⟨M, hM, hlM⟩ := sh.2.2.1 (Or.inl hK)
  have L2 : ∀ (m2 : Nat) (A1 : cS) (x3 x4 : Int) (i D : Nat), vX A A1 (15 * (D : Int) + 2 * i) D (2 * (D : Int)) (2 * (D : Int)) D D D → D + vs (l.drop i) + vs (l.drop (M + i)) = vs l + vs (l.drop M) → jCh A1 x3 (jNs (l.drop i)) → jCh A1 x4 (jNs (l.drop (M + i))) → i ≤ M → M - i < m2 → wc_Coder_assignment_50 (wcG_C m) (fun A' => Q 0 A') m2 A1 M x3 x4 i := by
    intro m2
    induction m2 with
    | zero => intro A1 x3 x4 i D _ _ _ _ _ h; omega
    | succ m2 ih =>
      intro A1 x3 x4 i D X hD c3 c4 h0 h1
      have d1 : vs (l.drop M) ≤ vs (l.drop i) := by
        have := vs_drop (l.drop i) (M - i)
        rw [List.drop_drop] at this
        have e : i + (M - i) = M := by omega
        rw [e] at this
        exact this
      unfold wc_Coder_assignment_50
      unfold wc_Coder_assignment_50B
      unfold wc_Tree_place wc_Tree_next
      refine ⟨fun q => hq A1 (X.le (by omega)), fun q => ?_⟩
      have v3 := vs_ve (l.drop i)
      have v4 := vs_ve (l.drop (M + i))
      rw [List.drop_drop] at v3 v4
      have d2 : vs (l.drop M) ≤ vs (l.drop (i + 1)) := by
        have := vs_drop (l.drop (i + 1)) (M - (i + 1))
        rw [List.drop_drop] at this
        have e : i + 1 + (M - (i + 1)) = M := by omega
        rw [e] at this
        exact this
      have p3 : vPs A1 (l.drop i) m := fun c hc => (hps.t X.t) c (List.mem_of_mem_drop hc)
      have p4 : vPs A1 (l.drop (M + i)) m := fun c hc => (hps.t X.t) c (List.mem_of_mem_drop hc)
      refine P12 _ _ _ X.g c4 p4 hm (R.x X (by omega)) (fun A2 X2 => ?_)
      refine P12 _ _ _ X2.g (X2.t.ch c3) (vPs.t p3 X2.t) hm (R.x (X.tr X2) (by omega)) (fun A3 X3 => ?_)
      have X23 := vX.tr X2 X3
      have N : ∀ z, wc_Coder_emit A3 z 0 (fun r38 A39 => (zR ((i : Int) + 1)) ∧ wc_Coder_assignment_50 (wcG_C m) (fun A' => Q 0 A') m2 A39 M (yget A39 13 x3) (yget A39 13 x4) ((i : Int) + 1)) := fun z => by
        refine cs_cemit X23.g (R.x (X.tr X23) (C' := 2) (G' := 0) (W' := 0) (by omega)) (by omega) _ _ (fun r A4 f4 X4 => ⟨⟨by omega, by omega⟩, ?_⟩)
        have Z := X23.tr X4
        have e : (i : Int) + 1 = ((i + 1 : Nat) : Int) := by omega
        rw [e]
        have n3 := (Z.t.ch c3).nx Z.g.1
        have n4 := (Z.t.ch c4).nx Z.g.1
        rw [List.drop_drop] at n3 n4
        exact ih A4 _ _ (i + 1) (D + ve (l.drop i) + ve (l.drop (M + i))) ((X.tr Z).le (by omega)) (by rw [show M + (i + 1) = M + i + 1 from rfl]; omega) n3 (by rw [show M + (i + 1) = M + i + 1 from rfl]; exact n4) (by omega) (by omega)
      exact cs_isByte A3 _ (fun r => ⟨fun _ => N _, fun _ => N _⟩)
  have L1 : ∀ (m2 : Nat) (x4 : Int) (i : Nat), jCh A x4 (jNs (l.drop i)) → i ≤ M → M - i < m2 → wc_Coder_assignment_24 (wcG_C m) (fun A' => Q 0 A') m2 A M (yget A 11 (k : Nat)) x4 i := by
    intro m2
    induction m2 with
    | zero => intro x4 i _ _ h; omega
    | succ m2 ih =>
      intro x4 i c4 h0 h1
      unfold wc_Coder_assignment_24
      unfold wc_Coder_assignment_24B
      unfold wc_Tree_next
      refine ⟨fun q => ?_, fun q => ⟨⟨by omega, by omega⟩, ?_⟩⟩
      · have e : i = M := by omega
        subst e
        exact ⟨i + 1, L2 (i + 1) A _ _ 0 0 ((vX.rf g).le (by omega)) (by rw [List.drop_zero]; show 0 + vs l + vs (l.drop i) = _; omega) ch c4 (Nat.zero_le _) (by omega)⟩
      · have e : (i : Int) + 1 = ((i + 1 : Nat) : Int) := by omega
        rw [e]
        have n4 := c4.nx g.1
        rw [List.drop_drop] at n4
        exact ih _ (i + 1) n4 (by omega) (by omega)
  show wc_Coder_assignment (wcG_C m) A k (fun A' => Q 0 A')
  unfold wc_Coder_assignment wc_Tree_data wc_Tree_first
  rw [hM]
  exact ⟨M + 1, L1 (M + 1) _ 0 ch (Nat.zero_le _) (by omega)⟩
theorem cs_k6 {m : Nat} (P12 : vK12 m) (P4 : vK4 m) : vKn 6 (fun K => 36 ≤ K ∧ K ≤ 38) 2 0 (m + 1) := fun k b c A Q h w S g t hh hf hK R hq => by
  obtain ⟨l, y, ch, hl, -, hw, sh, hk, -⟩ := t.ks
  have hkk := jkap_le (yget A 7 (k : Nat))
  have hps : vPs A l m := fun c hc => ⟨(hl c hc).1, by have := (hl c hc).2; omega, by have := (hl c hc).2; omega⟩
  have hm : 1 ≤ m := by omega
  have w1 := jW_td l
  have w2 := jW_td (l.drop 1)
  have w3 := jW_td ((l.drop 1).drop 1)
  have e1 := ve_le l
  have m1 := vmu_01 (l.drop 1)
  have m2 := vmu_01 ((l.drop 1).drop 1)
  show wc_Coder_conditional (wcG_C m) A k (fun A' => Q 0 A')
  unfold wc_Coder_conditional wc_Tree_first wc_Tree_next wc_Tree_kind
  refine P12 _ _ _ g ch hps hm (R.le (by omega)) (fun A1 X1 => ?_)
  have ch2 := X1.t.ch (ch.nx g.1)
  have k1 : yget A1 7 (k : Nat) = yget A 7 (k : Nat) := X1.t.1 7 _ (by omega)
  have F : ∀ y0, wc_Coder_conditional_46 (wcG_C m) (fun A' => Q 0 A') A1 k (yget A 13 (yget A 11 (k : Nat))) y0 := fun y0 => by
    unfold wc_Coder_conditional_46 wc_Tree_kind wc_Tree_next
    refine cs_cemit X1.g (R.x X1 (C' := 2) (G' := 0) (W' := 0) (by omega)) (by omega) _ _ (fun r2 A2 f2 X2 => ?_)
    have Y2 := vX.tr X1 X2
    refine P4 _ _ _ X2.g (X2.t.ch ch2) (hps.d.t Y2.t) hm (R.x Y2 (by omega)) (fun A3 X3 => ?_)
    have Y3 := Y2.tr X3
    have k3 : yget A3 7 (k : Nat) = yget A 7 (k : Nat) := Y3.t.1 7 _ (by omega)
    refine ⟨fun _ => cs_land X3.g _ (fun A4 f4 X4 => hq A4 ((Y3.tr X4).le (by omega))), fun q38 => ?_⟩
    have hne : ¬ l = [] := sh.2.2.2 (by rw [← k3]; exact q38)
    have e2 := ve_lt hne (fun c hc => (hl c hc).1)
    refine cs_cemit X3.g (R.x Y3 (C' := 2) (G' := 0) (W' := 0) (by omega)) (by omega) _ _ (fun r4 A4 f4 X4 => cs_land X4.g _ (fun A5 f5 X5 => ?_))
    have Y5 := (Y3.tr X4).tr X5
    have ch3 := ((((X2.tr X3).tr X4).tr X5).t.ch ch2).nx X5.g.1
    refine P4 _ _ _ X5.g ch3 (hps.d.d.t Y5.t) hm (R.x Y5 (by omega)) (fun A6 X6 => cs_land X6.g _ (fun A7 f7 X7 => hq A7 (((Y5.tr X6).tr X7).le (by omega))))
  exact ⟨fun _ => F _, fun _ => F _⟩
theorem cs_k7 {m : Nat} (P12 : vK12 m) (P4 : vK4 m) : vKn 7 vAny 2 0 (m + 1) := fun k b c A Q h w S g t hh hf hK R hq => by
  obtain ⟨l, y, ch, hl, -, hw, sh, hk, -⟩ := t.ks
  have hkk := jkap_le (yget A 7 (k : Nat))
  have hps : vPs A l m := fun c hc => ⟨(hl c hc).1, by have := (hl c hc).2; omega, by have := (hl c hc).2; omega⟩
  have hm : 1 ≤ m := by omega
  have w1 := jW_td l
  have w2 := jW_td (l.drop 1)
  have e1 := ve_le l
  have m1 := vmu_01 (l.drop 1)
  show wc_Coder_asking (wcG_C m) A k (fun A' => Q 0 A')
  unfold wc_Coder_asking wc_Tree_first wc_Tree_kind wc_Program_here
  refine cs_cemit g R (by omega) _ _ (fun r0 A0 f0 X0 => ?_)
  refine P12 _ _ _ X0.g (X0.t.ch ch) (hps.t X0.t) hm (R.x X0 (by omega)) (fun A1 X1 => ?_)
  have Y1 := X0.tr X1
  have F : ∀ u v z y0, wc_Coder_asking_67 (wcG_C m) (fun A' => Q 0 A') A1 u v (yget A 11 (k : Nat)) z y0 := fun u v z y0 => by
    unfold wc_Coder_asking_67 wc_Tree_next
    refine cs_cemit X1.g (R.x Y1 (C' := 2) (G' := 0) (W' := 0) (by omega)) (by omega) _ _ (fun r2 A2 f2 X2 => ?_)
    have f3 : ySm A2 (ypv (ypv A2 13 r2) 14 0) [] [13, 14] := (ySm.rf.pv rfl).pv rfl
    have X3 := vX.zv X2.g f3 rfl
    generalize ypv (ypv A2 13 r2) 14 0 = A3 at f3 X3
    have Y3 := (Y1.tr X2).tr X3
    have ch2 := (Y3.t.ch ch).nx X3.g.1
    refine P4 _ _ _ X3.g ch2 (hps.d.t Y3.t) hm (R.x Y3 (by omega)) (fun A4 X4 => cs_cemit X4.g (R.x (Y3.tr X4) (C' := 2) (G' := 0) (W' := 0) (by omega)) (by omega) _ _ (fun r5 A5 f5 X5 => cs_landAt X5.g _ _ (fun A6 f6 X6 => cs_land X6.g _ (fun A7 f7 X7 => ?_))))
    have f8 : ySm A7 (ypv (ypv A7 13 u) 14 v) [] [13, 14] := (ySm.rf.pv rfl).pv rfl
    exact hq _ ((((((Y3.tr X4).tr X5).tr X6).tr X7).tr (vX.zv X7.g f8 rfl)).le (by omega))
  exact ⟨fun _ => F _ _ _ _, fun _ => F _ _ _ _⟩
theorem cs_k11 {m : Nat} (P12 : vK12 m) : vKn 11 vAny 2 0 (m + 1) := fun k b c A Q h w S g t hh hf hK R hq => by
  obtain ⟨l, y, ch, hl, -, hw, sh, hk, -⟩ := t.ks
  have hkk := jkap_le (yget A 7 (k : Nat))
  have hps : vPs A l m := fun c hc => ⟨(hl c hc).1, by have := (hl c hc).2; omega, by have := (hl c hc).2; omega⟩
  have hm : 1 ≤ m := by omega
  have w1 := jW_td l
  have e1 := ve_le l
  show wc_Coder_telling (wcG_C m) A k (fun A' => Q 0 A')
  unfold wc_Coder_telling wc_Tree_first wc_Tree_place
  refine P12 _ _ _ g ch hps hm (R.le (by omega)) (fun A1 X1 => ⟨fun _ => cs_cemit X1.g (R.x X1 (C' := 2) (G' := 0) (W' := 0) (by omega)) (by omega) _ _ (fun r2 A2 f2 X2 => ?_), fun _ => cs_cblame X1.g _ _ (fun A2 f2 X2 => hq A2 ((vX.tr X1 X2).le (by omega)))⟩)
  have f3 : ySm A2 (ypv A2 16 r2) [] [16] := ySm.rf.pv rfl
  exact hq _ (((vX.tr X1 X2).tr (vX.zv X2.g f3 rfl)).le (by omega))
theorem cs_k8 {m : Nat} (P12 : vK12 m) (P4 : vK4 m) : vKn 8 vAny 0 0 (m + 1) := fun k b c A Q h w S g t hh hf hK R hq => by
  obtain ⟨l, y, ch, hl, -, hw, sh, hk, -⟩ := t.ks
  have hkk := jkap_le (yget A 7 (k : Nat))
  have hps : vPs A l m := fun c hc => ⟨(hl c hc).1, by have := (hl c hc).2; omega, by have := (hl c hc).2; omega⟩
  have hm : 1 ≤ m := by omega
  have w1 := jW_td l
  have m1 := vmu_01 l
  have rr := R.w
  have hlen := jW_len (fun c hc => (hl c hc).1)
  have hdl : (l.drop 1).length ≤ l.length := by rw [List.length_drop]; omega
  show wc_Coder_repeats (wcG_C m) A k (fun A' => Q 0 A')
  unfold wc_Coder_repeats wc_Tree_first wc_Tree_next wc_Program_here
  have f1 : ySm A (ypv (ypv A 13 0) 14 0) [] [13, 14] := (ySm.rf.pv rfl).pv rfl
  have X1 := vX.zv g f1 rfl
  refine P4 _ _ _ X1.g (X1.t.ch ch) (hps.t X1.t) hm (R.x X1 (by omega)) (fun A2 X2 => ?_)
  have Y2 := X1.tr X2
  have L : ∀ (m2 : Nat) (A3 : cS) (lr : List jC) (d : Nat) (u v z x6 x7 : Int), vX A A3 (15 * (d : Int) + 4) d (2 * (d : Int) + 2) (2 * (d : Int)) d d d → jCh A3 x6 (jNs lr) → vPs A3 lr m → d + jW lr ≤ jW l → 0 ≤ x7 → x7 + lr.length ≤ 3000 → lr.length < m2 → wc_Coder_repeats_59 (wcG_C m) (fun A' => Q 0 A') m2 A3 u v z x6 x7 := by
    intro m2
    induction m2 with
    | zero => intro A3 lr d u v z x6 x7 _ _ _ _ _ _ h; omega
    | succ m2 ih =>
      intro A3 lr d u v z x6 x7 X hc hlr hd h0 h1 h2
      have O : Q 0 (ypv (ypv A3 13 u) 14 v) := by
        have f8 : ySm A3 (ypv (ypv A3 13 u) 14 v) [] [13, 14] := (ySm.rf.pv rfl).pv rfl
        exact hq _ ((X.tr (vX.zv X.g f8 rfl)).le (by omega))
      unfold wc_Coder_repeats_59
      unfold wc_Coder_repeats_59B
      unfold wc_Tree_first wc_Tree_kind wc_Tree_next
      refine ⟨fun _ => O, fun _ => ⟨fun _ => O, fun q => ?_⟩⟩
      rcases hc.cs with ⟨e, -⟩ | ⟨kc, lt, rfl, e5, e1, hct⟩
      · exact absurd e q
      have hkc := hlr kc (List.mem_cons_self ..)
      have kw := hkc.1.n1.2.2
      rw [jW_c] at hd
      rw [List.length_cons] at h1 h2
      refine cs_land X.g _ (fun A4 f4 X4 => ?_)
      refine cs_cemit X4.g (R.x (X.tr X4) (C' := 2) (G' := 0) (W' := 0) (by omega)) (by omega) _ _ (fun r5 A5 f5 X5 => ?_)
      have Y5 := X4.tr X5
      -- the last of an item
      have E : ∀ (A6 : cS) (y : Int) (e : Nat), vX A3 A6 (2 + 15 * (e : Int)) e (2 * (e : Int)) (2 * (e : Int)) e e e → e + 1 ≤ kc.2.2.1 → wc_Coder_emit A6 y z (fun r95 A96 => wc_Program_land A96 (yv A96 13) (fun A104 => (zR (x7 + 1)) ∧ wc_Coder_repeats_59 (wcG_C m) (fun A' => Q 0 A') m2 (ypv (ypv A104 13 0) 14 0) u v z (yget (ypv (ypv A104 13 0) 14 0) 13 x6) (x7 + 1))) := fun A6 y e X6 he => by
        refine cs_cemit X6.g (R.x (X.tr X6) (C' := 2) (G' := 0) (W' := 0) (by omega)) (by omega) _ _ (fun r7 A7 f7 X7 => cs_land X7.g _ (fun A8 f8 X8 => ⟨⟨by omega, by omega⟩, ?_⟩))
        have f9 : ySm A8 (ypv (ypv A8 13 0) 14 0) [] [13, 14] := (ySm.rf.pv rfl).pv rfl
        have X9 := vX.zv X8.g f9 rfl
        have Z := ((X6.tr X7).tr X8).tr X9
        refine ih _ lt (d + kc.2.2.1) u v z _ (x7 + 1) ((X.tr Z).le (by omega)) ?_ (vPs.t (fun c hc => hlr c (List.mem_cons_of_mem _ hc)) Z.t) (by omega) (by omega) (by omega) (by omega)
        rw [Z.t.1 13 _ (by omega)]
        exact Z.t.ch hct
      obtain ⟨l2, y2, ch2, hl2, -, hw2, -, hk2, -⟩ := hkc.1.ks
      have hkk2 := jkap_le (yget A3 7 (kc.2.1 : Nat))
      have hps2 : vPs A3 l2 m := fun c hc => ⟨(hl2 c hc).1, by have := (hl2 c hc).2; omega, by have := (hl2 c hc).2; omega⟩
      have vl2 := ve_le l2
      have tl2 := jW_t1 (l := l2)
      refine ⟨fun _ => ?_, fun _ => E A5 _ 0 (Y5.le (by omega)) (by omega)⟩
      have ch3 : jCh A5 (yget A5 11 x6) (jNs l2) := by
        rw [Y5.t.1 11 _ (by omega), e5]
        exact Y5.t.ch ch2
      refine P12 _ _ _ Y5.g ch3 (hps2.t Y5.t) hm (R.x (X.tr Y5) (by omega)) (fun A6 X6 => ?_)
      have Z6 := (Y5.tr X6).le (c' := 2 + 15 * (ve l2 : Int)) (l' := ve l2) (g' := 2 * (ve l2 : Int)) (k' := 2 * (ve l2 : Int)) (s' := ve l2) (m' := ve l2) (a' := ve l2) (by omega)
      exact ⟨fun _ => E A6 _ (ve l2) Z6 (by omega), fun _ => E A6 _ (ve l2) Z6 (by omega)⟩
  have ch2 := (Y2.t.ch ch).nx X2.g.1
  exact ⟨(l.drop 1).length + 1, L _ A2 (l.drop 1) (jW (l.take 1)) _ _ _ _ 0 (Y2.le (by omega)) ch2 (hps.d.t Y2.t) (by omega) (by decide) (by omega) (by omega)⟩
