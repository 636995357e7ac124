/-! THE CLASS'S CODER: VARIABLES, ALL -/
theorem jW_dr {l : List jC} {M : Nat} {A : cS} (h : ∀ c ∈ l, jTc A c) (hM : M ≤ l.length) : M + jW (l.drop M) ≤ jW l := by
  have e := jW_ap (l.take M) (l.drop M)
  rw [List.take_append_drop] at e
  have q := jW_len (l := l.take M) (fun c hc => h c (List.mem_of_mem_take hc))
  rw [List.length_take] at q
  omega
theorem cs_k2 {m : Nat} (P12 : vK12 m) : vKn 2 (fun K => K = 97) 0 0 (m + 1) := fun k b c A Q h w S g t hh hf hK R hq => by
  obtain ⟨l, y, ch, hl, -, hw, sh, hk, -⟩ := t.ks
  have hkk := jkap_le (yget A 7 (k : Nat))
  have hps : vPs A l m := fun c hc => ⟨(hl c hc).1, by have := (hl c hc).2; omega, by have := (hl c hc).2; omega⟩
  have hm : 1 ≤ m := by omega
  have hlen := jW_len (fun c hc => (hl c hc).1)
  have rr := R.w
  obtain ⟨M, hM, hlM⟩ := sh.2.2.1 (Or.inr hK)
  have wM := jW_dr (M := M) (fun c hc => (hl c hc).1) (by omega)
  -- the names
  have L4 : ∀ (m2 : Nat) (A1 : cS) (x4 x5 : Int) (i : Nat), vX A A1 (15 * (jW (l.drop M) : Int) + 2 + 2 * M) (jW (l.drop M)) (2 * (jW (l.drop M) : Int)) (2 * (jW (l.drop M) : Int)) ((jW (l.drop M) : Int) + i) (jW (l.drop M)) (jW (l.drop M)) → 0 ≤ x5 → x5 ≤ 100000000 → i ≤ M → M - i < m2 → wc_Coder_variables_184 (wcG_C m) (fun A' => Q 0 A') m2 A1 M x4 x5 i := by
    intro m2
    induction m2 with
    | zero => intro A1 x4 x5 i _ _ _ _ h; omega
    | succ m2 ih =>
      intro A1 x4 x5 i X h0 h1 h2 h3
      have g19 := X.g.2.2.2.1
      unfold wc_Coder_variables_184
      unfold wc_Coder_variables_184B
      unfold wc_Tree_data wc_Tree_place wc_Tree_next
      refine ⟨fun q => cs_take X.g _ ⟨h0, h1⟩ (fun A2 f2 X2 => hq A2 ((X.tr X2).le (by omega))), fun q => ⟨⟨by omega, by omega⟩, ?_⟩⟩
      refine cs_declare X.g (R.x X (C' := 0) (G' := 0) (W' := 1) (by omega)) (by decide) _ _ _ _ _ (fun r A2 _ _ f2 X2 => ⟨⟨by omega, by omega⟩, ?_⟩)
      have e : (i : Int) + 1 = ((i + 1 : Nat) : Int) := by omega
      rw [e]
      exact ih A2 _ x5 (i + 1) ((X.tr X2).le (by omega)) h0 h1 (by omega) (by omega)
  -- what they hold is stored, from the last
  have L3 : ∀ (m2 : Nat) (A1 : cS) (x3 x5 x6 : Int) (e : Int), vX A A1 (15 * (jW (l.drop M) : Int) + 2 + e) (jW (l.drop M)) (2 * (jW (l.drop M) : Int)) (2 * (jW (l.drop M) : Int)) (jW (l.drop M)) (jW (l.drop M)) (jW (l.drop M)) → 0 ≤ x5 → x5 ≤ 100000000 → e + 2 * (x6 + 1) ≤ 2 * (M : Int) → 0 ≤ e → -1 ≤ x6 → x6 ≤ 3000 → x6 + 1 < m2 → wc_Coder_variables_153 (wcG_C m) (fun A' => Q 0 A') m2 A1 M x3 x5 x6 := by
    intro m2
    induction m2 with
    | zero => intro A1 x3 x5 x6 e _ _ _ _ _ _ _ h; omega
    | succ m2 ih =>
      intro A1 x3 x5 x6 e X h0 h1 h2 he h3 h4 h5
      have g19 := X.g.2.2.2.1
      unfold wc_Coder_variables_153
      unfold wc_Coder_variables_153B
      refine ⟨fun q => ⟨M + 1, L4 (M + 1) A1 _ x5 0 (X.le (by omega)) h0 h1 (Nat.zero_le _) (by omega)⟩, fun q => ⟨⟨by omega, by omega⟩, ?_⟩⟩
      refine cs_cemit X.g (R.x X (C' := 2) (G' := 0) (W' := 0) (by omega)) (by decide) _ _ (fun r A2 f2 X2 => ⟨⟨by omega, by omega⟩, ih A2 _ x5 _ (e + 2) ((X.tr X2).le (by omega)) h0 h1 (by omega) (by omega) (by omega) (by omega) (by omega)⟩)
  -- what they hold
  have L2 : ∀ (m2 : Nat) (A1 : cS) (x3 x4 x5 : Int) (i D : Nat), vX A A1 (15 * (D : Int) + 2) D (2 * (D : Int)) (2 * (D : Int)) D D D → D + jW (l.drop (M + i)) ≤ jW (l.drop M) → jCh A1 x4 (jNs (l.drop (M + i))) → 0 ≤ x5 → x5 ≤ M + 30001 * (i : Int) → i ≤ M → M - i < m2 → wc_Coder_variables_61 (wcG_C m) (fun A' => Q 0 A') m2 A1 M x3 x4 x5 i := by
    intro m2
    induction m2 with
    | zero => intro A1 x3 x4 x5 i D _ _ _ _ _ _ h; omega
    | succ m2 ih =>
      intro A1 x3 x4 x5 i D X hD hc h0 h1 h2 h3
      have g19 := X.g.2.2.2.1
      have td := jW_td (l.drop (M + i))
      rw [List.drop_drop] at td
      have vle := ve_le (l.drop (M + i))
      have e : (i : Int) + 1 = ((i + 1 : Nat) : Int) := by omega
      have p4 : vPs A1 (l.drop (M + i)) m := fun c hc => (hps.t X.t) c (List.mem_of_mem_drop hc)
      unfold wc_Coder_variables_61
      unfold wc_Coder_variables_61B
      unfold wc_Tree_kind wc_Tree_next wc_Tree_first
      refine ⟨fun q => ⟨⟨by omega, by omega⟩, M + 1, L3 (M + 1) A1 _ x5 _ 0 (X.le (by omega)) h0 (by omega) (by omega) (by decide) (by omega) (by omega) (by omega)⟩, fun q => ⟨fun k59 => ?_, fun k59 => ⟨⟨by omega, by omega⟩, ?_⟩⟩⟩
      · refine P12 _ _ _ X.g hc p4 hm (R.x X (by omega)) (fun A2 X2 => ⟨⟨by omega, by omega⟩, ?_⟩)
        rw [e]
        have n4 := (X2.t.ch hc).nx X2.g.1
        rw [List.drop_drop] at n4
        exact ih A2 x3 _ x5 (i + 1) (D + jW ((l.drop (M + i)).take 1)) ((vX.tr X X2).le (by omega)) (by rw [show M + (i + 1) = M + i + 1 from rfl]; omega) (by rw [show M + (i + 1) = M + i + 1 from rfl]; exact n4) h0 (by omega) (by omega) (by omega)
      · rcases hc.cs with ⟨e0, -⟩ | ⟨kc, lt, el, e5, e1, hct⟩
        · rw [e0, X.g.1.1] at k59
          exact absurd k59 (by decide)
        have mk : kc ∈ l.drop (M + i) := by rw [el]; exact List.mem_cons_self ..
        have hkc := p4 kc mk
        have kw := hkc.1.n1.2.2
        have j1 : jW ((l.drop (M + i)).take 1) = kc.2.2.1 := by rw [el]; rfl
        refine cs_cemit X.g (R.x X (C' := 2) (G' := 0) (W' := 0) (by omega)) (by decide) _ _ (fun r A2 f2 X2 => ?_)
        obtain ⟨l2, y2, ch2, hl2, -, hw2, -, hk2, -⟩ := (hkc.1.k X2.t).ks
        have tl2 := jW_t1 (l := l2)
        have b27 : yz A2 27 ≤ 3000 := vG.b27 (R.x (X.tr X2) (C' := 0) (G' := 0) (W' := 0) (by omega)) (by decide)
        have hd : vHd (yget A2 11 x4) l2 := by rw [e5]; exact ch2.hd
        refine cs_cnumber X2.g _ 30000 b27 hd (fun c hc => ⟨(hl2 c hc).1, by have := (hl2 c hc).2; have := hkc.2.2; omega⟩) (by omega) (fun r3 A3 f3 X3 _ hr => ?_)
        have hr2 := hr (by decide)
        have X23 := X2.tr X3
        refine ⟨⟨by omega, by omega⟩, ⟨by omega, by omega⟩, ?_⟩
        rw [e]
        have n4 := (X23.t.ch hc).nx X23.g.1
        rw [List.drop_drop] at n4
        exact ih A3 x3 _ _ (i + 1) (D + jW ((l.drop (M + i)).take 1)) ((X.tr X23).le (by omega)) (by rw [show M + (i + 1) = M + i + 1 from rfl]; omega) (by rw [show M + (i + 1) = M + i + 1 from rfl]; exact n4) (by omega) (by omega) (by omega) (by omega)
  have L1 : ∀ (m2 : Nat) (A1 : cS) (x3 x4 : Int) (i : Nat), vX A A1 2 0 0 0 0 0 0 → jCh A1 x4 (jNs (l.drop i)) → i ≤ M → M - i < m2 → wc_Coder_variables_32 (wcG_C m) (fun A' => Q 0 A') m2 A1 M x3 x4 i := by
    intro m2
    induction m2 with
    | zero => intro A1 x3 x4 i _ _ _ h; omega
    | succ m2 ih =>
      intro A1 x3 x4 i X hc h0 h1
      unfold wc_Coder_variables_32
      unfold wc_Coder_variables_32B
      unfold wc_Tree_next
      refine ⟨fun q => ?_, fun q => ⟨⟨by omega, by omega⟩, ?_⟩⟩
      · have e : i = M := by omega
        subst e
        exact ⟨i + 1, L2 (i + 1) A1 _ _ _ 0 0 (X.le (by omega)) (by rw [Nat.add_zero, Nat.zero_add]; exact Nat.le_refl _) (by rw [Nat.add_zero]; exact hc) (by omega) (by omega) (Nat.zero_le _) (by omega)⟩
      · have e : (i : Int) + 1 = ((i + 1 : Nat) : Int) := by omega
        rw [e]
        have n4 := hc.nx X.g.1
        rw [List.drop_drop] at n4
        exact ih A1 _ _ (i + 1) X n4 (by omega) (by omega)
  show wc_Coder_variables (wcG_C m) A k (fun A' => Q 0 A')
  unfold wc_Coder_variables wc_Tree_data wc_Tree_first
  refine cs_cemit g R (by omega) _ _ (fun r A1 f1 X1 => ?_)
  have e9 : yget A1 9 (k : Nat) = (M : Int) := (X1.t.1 9 _ (by omega)).trans hM
  rw [e9]
  refine ⟨M + 1, L1 (M + 1) A1 _ _ 0 X1 ?_ (Nat.zero_le _) (by omega)⟩
  rw [X1.t.1 11 _ (by omega)]
  exact X1.t.ch ch
/-- all -/
theorem cs_C : ∀ n, vKn 0 vAny 0 0 n ∧ vKn 1 vAny 0 1 n ∧ vKn 2 (fun K => K = 97) 0 0 n ∧ vKn 3 vAny 0 0 n ∧ vK3h n ∧ vK4 n ∧ vKn 5 (fun K => K = 90) 2 0 n ∧ vKn 6 (fun K => 36 ≤ K ∧ K ≤ 38) 2 0 n ∧ vKn 7 vAny 2 0 n ∧ vKn 8 vAny 0 0 n ∧ vKn 9 (fun K => K = 41) 2 0 n ∧ vKn 10 vAny 2 0 n ∧ vKn 11 vAny 2 0 n ∧ vK12 n ∧ vKn 13 vAny 0 0 n ∧ vK14 n ∧ vKn 15 vAny 0 0 n ∧ vKn 16 vAny 0 0 n
  | 0 => by
    have Z : ∀ (i : Nat) (K : Int → Prop) (u v : Int), vKn i K u v 0 := fun i K u v k b c A Q h w S g t hh hf hK R hq => by
      obtain ⟨l, y, -, -, -, -, -, hk, -⟩ := t.ks
      have hkk := jkap_le (yget A 7 (k : Nat))
      omega
    exact ⟨Z _ _ _ _, Z _ _ _ _, Z _ _ _ _, Z _ _ _ _, fun _ _ _ _ _ _ _ _ _ h => absurd h (by decide), fun _ _ _ _ _ _ _ _ _ h => absurd h (by decide), Z _ _ _ _, Z _ _ _ _, Z _ _ _ _, Z _ _ _ _, Z _ _ _ _, Z _ _ _ _, Z _ _ _ _, fun _ _ _ _ _ _ _ _ _ h => absurd h (by decide), Z _ _ _ _, fun _ _ _ _ _ _ _ _ _ h => absurd h (by decide), Z _ _ _ _, Z _ _ _ _⟩
  | m + 1 => by
    obtain ⟨p0, p1, p2, p3, p3h, p4, p5, p6, p7, p8, p9, p10, p11, p12, p13, p14, p15, p16⟩ := cs_C m
    exact ⟨cs_k0 p1, cs_k1 p12 p4, cs_k2 p12, (cs_k3 p0 p2 p4).1, (cs_k3 p0 p2 p4).2, cs_k4 p12 p3 p5 p6 p7 p8 p9 p10 p11, cs_k5 p12, cs_k6 p12 p4, cs_k7 p12 p4, cs_k8 p12 p4, cs_k9 p12 p4, cs_k10 p12 p3h, cs_k11 p12, cs_k12 p12 p13 p15 p16, cs_k13 p12 p14, cs_k14 p12, cs_k15 p4, cs_k16 p12⟩
