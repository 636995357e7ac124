/-! THE CLASS'S PARSER: CONDITIONAL, SWITCHING, REPEATS, COMMAND -/
theorem jkap2 {k : Int} (h : 36 ≤ k ∧ k ≤ 42 ∨ k = 49 ∨ 90 ≤ k ∧ k ≤ 93) : jkap k = 2 := if_pos h
theorem cs_p8 {m : Nat} (P : jP m) (a b c : Int) {A : cS} {E : cS → Prop} (s : jS A) (h7 : j7 A ≤ 2603 + 6 * yv A 11) (hk : 36 ≤ yget A 14 (yv A 10) ∧ yget A 14 (yv A 10) ≤ 40) (hf : jFl 5 A (m + 1)) (hE : jEE A E) : jSp (fun Q => wcG_P (m + 1) 8 a b c A Q E) (jH 8 A) A := fun Q hq => by
  have sd := s.d
  have hH : jH 8 A = jH 6 A + 2 := jH_c 6 2 A
  have hJ : jkap (yget A 14 (yv A 10)) = 2 := jkap2 (Or.inl (by omega))
  generalize hK : yget A 14 (yv A 10) = K at hk hJ
  -- a command within, and what follows it
  have C : ∀ (A1 : cS) (n : Nat) (l : List jC) (D a1 : Int) (W : cS → Prop), jD A A1 n l K D 0 a1 0 0 → j7 A + a1 ≤ 2609 + 6 * yv A 11 → (∀ c ∈ l, c.1 ≤ jH 6 A) → (∀ A2 l2, jD A A2 n l2 K D 0 (a1 + jdl A2) 0 0 → (∀ c ∈ l2, c.1 ≤ jH 6 A) → ¬ l2 = [] → W A2) → wc_Parser_enter A1 (fun A42 => wcG_P m 6 0 0 0 A42 (fun r49 A50 => wc_Tree_hang A50 n r49 (fun A58 => (zR ((yv A58 11) - 1)) ∧ W (ypv A58 11 ((yv A58 11) - 1)))) E) E := fun A1 n l D a1 W D1 hb hl hW => by
    have n1 := D1.x.n
    refine cs_enter D1.s (hE.tr D1.x.f) (fun dd A2 f2 x2 => ?_)
    have D2 := D1.sm x2 f2 rfl
    have n2 := D2.x.n
    refine D2.sub (P.p6 0 0 0 D2.s (by omega) (by unfold jFl at hf ⊢; omega) (hE.tr D2.x.f)) (fun A3 cc c1 D3 F3 a3 d3 => ?_)
    have n3 := D3.x.n
    have sd3 := D3.s.d
    obtain ⟨f4, x4⟩ := cs_dep D3.s (yv A3 11 - 1) (by omega)
    have D4 := D3.sm x4 f4 rfl
    have g : jH 10 A2 + 10 = jH 10 A := jH_up (by omega) (by omega) (by omega)
    have g2 : jH 10 A = jH 6 A + 4 := jH_c 6 4 A
    exact ⟨⟨by omega, by omega⟩, hW _ _ (D4.le (by rw [jdl_f f4 rfl rfl]; omega) (by omega) (by omega)) (jAll1 hl (by omega)) (by simp)⟩
  have OUT : ∀ (A1 : cS) (n : Nat) (l : List jC) (D a1 : Int), jD A A1 n l K D 0 a1 0 0 → a1 ≤ jdl A1 → (∀ c ∈ l, c.1 ≤ jH 6 A) → ¬ l = [] → Q n A1 := fun A1 n l D a1 D1 ha hl hne => hq _ _ (D1.x.le ha (by omega) rfl) D1.u (D1.N (fun c hc => by rw [hJ]; have := hl c hc; omega) (by rw [hJ]; omega) ⟨fun q => absurd q (by omega), fun _ => rfl, fun q => absurd q (by omega), fun _ => hne⟩)
  show wc_Parser_conditional (wcG_P m) A Q E
  unfold wc_Parser_conditional wc_Parser_kind wc_Tree_kind
  refine cs_leaf s (by omega) (by omega) _ (fun A1 f1 x1 e1 w1 => ?_)
  rw [hK] at w1
  have D1 := jD.new x1 w1
  have n1 := x1.n
  refine D1.sub (P.ex 0 0 0 D1.s (by omega) (by unfold jFl at hf ⊢; omega) (hE.tr D1.x.f)) (fun A2 cc c1 D2 F2 a2 d2 => ?_)
  have hl2 : ∀ q ∈ ([] : List jC) ++ [cc], q.1 ≤ jH 6 A := jAll1 (fun q hq => absurd hq List.not_mem_nil) (by rw [c1, jH_eq (by omega : yv A1 11 = yv A 11)]; exact Nat.le_refl _)
  refine cs_passDo D2.s (hE.tr D2.x.f) (fun q6 q10 A3 f3 x3 => ?_)
  have j2 := jdl_0 q6 q10
  have D3 := (D2.sm x3 f3 rfl).le (a' := -1) (b' := 0) (d' := 0) (by omega) (by omega) (by omega)
  refine C A3 _ _ _ (-1) (fun A79 => (¬ yget A79 7 (yz A 7 : Nat) = 38 → Q (yz A 7 : Nat) A79) ∧ (yget A79 7 (yz A 7 : Nat) = 38 → wc_Parser_due A79 62 (fun A90 => wc_Parser_enter A90 (fun A98 => wcG_P m 6 0 0 0 A98 (fun r105 A106 => wc_Tree_hang A106 (yz A 7 : Nat) r105 (fun A114 => (zR ((yv A114 11) - 1)) ∧ Q (yz A 7 : Nat) (ypv A114 11 ((yv A114 11) - 1)))) E) E) E)) D3 (by omega) hl2 (fun A4 l4 D4 hl4 hn4 => ?_)
  have j4 := jdl_01 A4
  refine ⟨fun _ => OUT A4 _ _ _ _ D4 (by omega) hl4 hn4, fun _ => cs_due D4.s 62 (by decide) (hE.tr D4.x.f) (fun k4 A5 f5 x5 e5 => ?_)⟩
  have j40 := jdl_0 (A := A4) (by omega) (by omega)
  have D5 := (D4.sm x5 f5 rfl).le (a' := -3) (b' := 0) (d' := 0) (by omega) (by omega) (by omega)
  refine C A5 _ _ _ (-3) _ D5 (by omega) hl4 (fun A6 l6 D6 hl6 hn6 => ?_)
  have j6 := jdl_01 A6
  exact OUT A6 _ _ _ _ D6 (by omega) hl6 hn6
theorem cs_p10 {m : Nat} (P : jP m) (a b c : Int) {A : cS} {E : cS → Prop} (s : jS A) (h7 : j7 A ≤ 2603 + 6 * yv A 11) (hk : ¬ yget A 14 (yv A 10) = 0) (hf : jFl 5 A (m + 1)) (hE : jEE A E) : jSp (fun Q => wcG_P (m + 1) 10 a b c A Q E) (jH 8 A) A := fun Q hq => by
  have sd := s.d
  have hH : jH 8 A = jH 6 A + 2 := jH_c 6 2 A
  have hH2 : jH 6 A = jH 4 A + 2 := jH_c 4 2 A
  show wc_Parser_switching (wcG_P m) A Q E
  unfold wc_Parser_switching
  refine cs_leaf s (by omega) hk _ (fun A1 f1 x1 e1 w1 => ?_)
  have D1 := jD.new x1 w1
  have n1 := x1.n
  refine D1.sub (P.ex 0 0 0 D1.s (by omega) (by unfold jFl at hf ⊢; omega) (hE.tr D1.x.f)) (fun A2 cc c1 D2 F2 a2 d2 => cs_due D2.s 66 (by decide) (hE.tr D2.x.f) (fun k2 A3 f3 x3 e3 => ?_))
  have j2 := jdl_0 (A := A2) (by omega) (by omega)
  have D3 := D2.sm x3 f3 rfl
  have n3 := D3.x.n
  refine P.p4 1 0 0 D3.s (by omega) (by unfold jFl at hf ⊢; omega) (hE.tr D3.x.f) (fun r A4 x4 u4 n4 => D3.kid x4 u4 n4 (fun A5 c5 c51 _ f5 _ _ D5 => hq _ _ (D5.x.le (by have := jdl_01 A5; omega) (by omega) (by omega)) D5.u (D5.N (fun q hx => ?_) (by rw [jkap2 (by decide)]; omega) (jShp.o (by decide) (by decide) (by decide)))))
  rw [jkap2 (by decide)]
  have e1 : jH 6 A1 = jH 6 A := jH_eq (by omega)
  have e2 : jH 4 A3 = jH 4 A := jH_eq (by omega)
  have : q = cc ∨ q = c5 := by simpa using hx
  rcases this with r | r <;> (rw [r]; omega)
theorem cs_p7 {m : Nat} (P : jP m) (r b c : Int) {A0 A : cS} {Q : Int → cS → Prop} {E : cS → Prop} (x : jX A0 A (jdl A) 0 0) (u : jU A0 A jO) (nn : jN A0 A r (jH 8 A0)) (h7 : j7 A0 ≤ 2604 + 6 * yv A0 11) (hk : 67 ≤ yget A 14 (yv A 10) ∧ yget A 14 (yv A 10) ≤ 69) (hf : jFl 5 A (m + 1)) (hE : jEE A E) (hq : ∀ r A', jX A0 A' (jdl A') 0 0 → jU A0 A' jO → jN A0 A' r (jH 10 A0) → Q r A') : wcG_P (m + 1) 7 r b c A Q E := by
  have sd := x.s.d
  have d0 := x.d
  have hH : jH 10 A0 = jH 8 A0 + 2 := jH_c 8 2 A0
  have hH2 : jH 8 A0 = jH 6 A0 + 2 := jH_c 6 2 A0
  have j0 := jdl_0 (A := A) (by omega) (by omega)
  rw [j0] at x
  have L : ∀ (m2 : Nat) (A1 : cS) (n : Nat) (l : List jC) (x4 a1 d1 : Int), jD A0 A1 n l 93 0 0 a1 0 d1 → 0 ≤ d1 → jF A A1 → (∀ c ∈ l, c.1 ≤ jH 8 A0) → (x4 = 0 ∧ yget A1 14 (yv A1 10) = yget A 14 (yv A 10) ∧ a1 ≤ 1 ∨ 1 ≤ x4 ∧ a1 ≤ jdl A1) → 0 ≤ x4 → x4 ≤ yv A1 10 → jt A1 < m2 → wc_Parser_repeats_36 (wcG_P m) Q E m2 A1 n (yv A 11) x4 := by
    intro m2
    induction m2 with
    | zero => intro A1 n l x4 a1 d1 D1 _ _ _ _ _ _ h; have := D1.s.a; unfold jt at h; omega
    | succ m2 ih =>
      intro A1 n l x4 a1 d1 D1 hd F1 hl hx h0 h1 h2
      have n1 := D1.x.n
      have sa := D1.s.a
      have e3 := D1.s.e.2.2.1
      have sd1 := D1.s.d
      have OUT : 1 ≤ x4 → a1 ≤ jdl A1 → Q n (ypv A1 11 (yv A 11)) := fun q1 q2 => by
        obtain ⟨f2, x2⟩ := cs_dep D1.s (yv A 11) sd
        have D2 := D1.sm x2 f2 rfl
        exact hq _ _ (D2.x.le (by rw [jdl_f f2 rfl rfl]; omega) (by omega) (by omega)) D2.u (D2.N (fun c hc => by rw [jkap2 (by decide)]; have := hl c hc; omega) (by rw [jkap2 (by decide)]; omega) (jShp.o (by decide) (by decide) (by decide)))
      unfold wc_Parser_repeats_36
      unfold wc_Parser_repeats_36B
      unfold wc_Parser_kind wc_Tree_kind wc_Parser_isRepeat
      have NO : yget A1 14 (yv A1 10) < 67 ∨ 69 < yget A1 14 (yv A1 10) → Q n (ypv A1 11 (yv A 11)) := fun q => by
        rcases hx with ⟨q1, q2, q3⟩ | ⟨q1, q2⟩
        · omega
        · exact OUT q1 q2
      refine ⟨fun q => by omega, fun _ => ⟨fun q => ⟨fun _ => NO (Or.inl (by omega)), fun q => absurd rfl q⟩, fun q1 => ⟨fun q => ⟨fun _ => NO (Or.inr (by omega)), fun q => absurd rfl q⟩, fun q2 => ⟨fun q => absurd q (by decide), fun _ => ?_⟩⟩⟩⟩
      have j1 := jdl_0 (A := A1) (by omega) (by omega)
      refine cs_enter D1.s (hE.tr F1) (fun dd A2 f2 x2 => ?_)
      have ek : yget A2 14 (yv A2 10) = yget A1 14 (yv A1 10) := by rw [f2.v 10 rfl]; exact f2.g 14 _ rfl
      have D2 := D1.sm x2 f2 rfl
      have n2 := x2.n
      have z2 : yz A2 7 = yz A1 7 := f2.z 7 rfl
      rw [ek]
      refine cs_leaf x2.s (by omega) (by omega) _ (fun A3 f3 x3 e3' w3 => ?_)
      have D3 := jD.new x3 w3
      have g7 := D3.c.2.1
      have n3 := x3.n
      generalize hK : yget A1 14 (yv A1 10) = K at g7 q1 q2 D3 ek
      have hJ : jkap K = 1 := jkap_1 (by omega)
      have FIN : ∀ (A4 : cS) (l4 : List jC) (DD a4 : Int), jD A2 A4 (yz A2 7) l4 K DD 0 a4 0 0 → a4 ≤ -1 + jdl A4 → yv A3 10 ≤ yv A4 10 → (∀ c ∈ l4, c.1 + 1 ≤ jH 8 A0) → wc_Tree_hang A4 n (yz A2 7 : Nat) (fun A80 => (zR (x4 + 1)) ∧ wc_Parser_repeats_36 (wcG_P m) Q E m2 A80 n (yv A 11) (x4 + 1)) := fun A4 l4 DD a4 D4 ha4 hm hl4 => by
        have N4 := D4.N (hh := jH 8 A0) (fun c hc => by rw [hJ]; exact hl4 c hc) (by rw [hJ]; omega) (jShp.o (by omega) (by omega) (by omega))
        have n4 := D4.x.n
        refine D2.kid D4.x D4.u N4 (fun A5 cc c1 _ f5 _ _ D5 => ⟨⟨by omega, by omega⟩, ?_⟩)
        have e5 : yv A5 10 = yv A4 10 := f5.v 10 rfl
        have e51 : yv A5 11 = yv A4 11 := f5.v 11 rfl
        have j5 : jdl A5 = jdl A4 := jdl_f f5 rfl rfl
        have j4 := jdl_01 A4
        have F5 : jF A1 A5 := (x2.f.tr D4.x.f rfl rfl).tr f5 rfl rfl
        refine ih A5 n _ (x4 + 1) (a1 + a4) (d1 + 1) (D5.le (by omega) (by omega) (by omega)) (by omega) (F1.tr F5 rfl rfl) (jAll1 hl (by omega)) (Or.inr ⟨by omega, by omega⟩) (by omega) (by omega) ?_
        have := jt_f F5
        omega
      rw [show yget A3 7 (yz A2 7 : Nat) = K from g7]
      refine ⟨fun _ => FIN A3 [] _ _ (D3.le (Int.le_refl _) (by decide) rfl) (by have := jdl_01 A3; omega) (Int.le_refl _) (fun c hc => absurd hc List.not_mem_nil), fun _ => ?_⟩
      refine D3.sub (P.ex 0 0 0 D3.s (by omega) (by unfold jFl at hf ⊢; omega) (hE.tr (F1.tr (x2.f.tr x3.f rfl rfl) rfl rfl))) (fun A4 cc c1 D4 F4 a4 d4 => FIN A4 _ _ _ (D4.le (Int.le_refl _) (by omega) rfl) (Int.le_refl _) a4 (jAllk (fun c hc => absurd hc List.not_mem_nil) ?_))
      have : jH 6 A3 ≤ jH 6 A0 := jH_ge (by omega)
      omega
  show wc_Parser_repeats (wcG_P m) A r Q E
  unfold wc_Parser_repeats wc_Tree_place
  refine cs_wrap x u nn (by have := x.n.2.1; omega) 93 _ 0 (fun A1 f1 e1 hs _ x1 => hs (fun A2 cc c1 _ f2 e2 D2 => ?_))
  have e11 : yv A2 11 = yv A 11 := by rw [f2.v 11 rfl, f1.v 11 rfl]
  have e10 : yv A2 10 = yv A 10 := by rw [f2.v 10 rfl, f1.v 10 rfl]
  have n2 := D2.x.n
  have sa2 := D2.s.a
  rw [e11]
  refine ⟨(jt A2).toNat + 1, L _ A2 _ [cc] 0 (0 + 1) 0 D2 (Int.le_refl _) ((ySm.rf.tr f1 rfl rfl : jF A A1).tr f2 rfl rfl) (fun q hx => ?_) (Or.inl ⟨rfl, by rw [e10, f2.g 14 _ rfl, f1.g 14 _ rfl], by decide⟩) (by decide) (by omega) (by omega)⟩
  have : q = cc := by simpa using hx
  rw [this, c1]
  exact Nat.le_refl _
theorem cs_p6 {m : Nat} (P : jP m) (a b c : Int) {A : cS} {E : cS → Prop} (s : jS A) (h7 : j7 A ≤ 2603 + 6 * yv A 11) (hf : jFl 6 A (m + 1)) (hE : jEE A E) : jSp (fun Q => wcG_P (m + 1) 6 a b c A Q E) (jH 10 A) A := fun Q hq => by
  have sd := s.d
  have hH : jH 10 A = jH 8 A + 2 := jH_c 8 2 A
  have hH8 : jH 8 A = jH 6 A + 2 := jH_c 6 2 A
  have hH6 : jH 6 A = jH 4 A + 2 := jH_c 4 2 A
  have R : ∀ (A1 : cS) (r : Int), jX A A1 (jdl A1) 0 0 → jU A A1 jO → jN A A1 r (jH 8 A) → wc_Parser_command_320 (wcG_P m) Q E A1 r := fun A1 r x1 u1 n1 => by
    unfold wc_Parser_command_320 wc_Parser_kind
    refine cs_isRepeat A1 _ (fun r9 h9 => ⟨fun _ => hq r A1 x1 u1 (n1.h (by omega)), fun q => ?_⟩)
    have d1 := x1.d
    exact P.p7 r 0 0 x1 u1 n1 (by omega) (h9 q) (by unfold jFl at hf ⊢; omega) (hE.tr x1.f) hq
  have B : ∀ i, jSp (fun Q => wcG_P m i 0 0 0 A Q E) (jH 8 A) A → wcG_P m i 0 0 0 A (fun r12 A13 => wc_Parser_command_320 (wcG_P m) Q E A13 r12) E := fun i sp => sp _ (fun r A' x u n => R A' r x u n)
  have hf5 : jFl 5 A m := by unfold jFl at hf ⊢; omega
  show wc_Parser_command (wcG_P m) A Q E
  unfold wc_Parser_command wc_Parser_kind wc_Parser_place
  refine ⟨fun _ => ?_, fun k => ?_, fun k => B 8 (P.p8 0 0 0 s h7 (by omega) hf5 hE), fun k => B 9 (P.p9 0 0 0 s h7 (by omega) hf5 hE), fun k => B 10 (P.p10 0 0 0 s h7 (by omega) hf5 hE), fun k => ?_, fun k => ?_, fun k => ?_, fun _ _ _ _ _ _ _ _ => B 11 (P.p11 0 0 0 s h7 hf5 hE)⟩
  · exact P.p4 0 0 0 s (by omega) (by unfold jFl at hf ⊢; omega) hE (fun r A' x u n => R A' r (x.le (by have := jdl_01 A'; omega) (by omega) rfl) u (n.h (by omega)))
  · refine cs_node s (by omega) _ _ _ (fun A1 f1 x1 w1 => hq _ _ (x1.le (by rw [jdl_f f1 rfl rfl, jdl_1 k]; exact Int.le_refl _) (by decide) rfl) w1.1 (w1.N x1 (by rw [jkap_1 (by decide)]; omega) (by decide) (by decide) (by decide)))
  · refine cs_leaf s (by omega) (by omega) _ (fun A1 f1 x1 e1 w1 => R A1 _ (x1.le (by have := jdl_01 A1; omega) (by decide) rfl) w1.1 (w1.N x1 (by rw [jkap_1 (by omega)]; omega) (by omega) (by omega) (by omega)))
  · refine cs_leaf s (by omega) (by omega) _ (fun A1 f1 x1 e1 w1 => ?_)
    have D1 := jD.new x1 w1
    have n1 := x1.n
    refine D1.sub (P.ex 0 0 0 D1.s (by omega) (by unfold jFl at hf ⊢; omega) (hE.tr D1.x.f)) (fun A2 cc c1 D2 F2 a2 d2 => R A2 _ (D2.x.le (by omega) (by omega) (by omega)) D2.u (D2.N (fun q hx => ?_) (by rw [jkap2 (by decide)]; omega) (jShp.o (by decide) (by decide) (by decide))))
    have : q = cc := by simpa using hx
    rw [this, c1, jkap2 (by decide), jH_eq (by omega : yv A1 11 = yv A 11)]
    omega
  · refine cs_adv s (by omega) (fun A1 f1 x1 e1 => cs_nameDue x1.s (hE.tr x1.f) (fun r A2 f2 x2 e2 => ?_))
    have n2 := (x1.tr x2).n
    have f12 : ySm A A2 [] [10] := f1.tr f2 rfl rfl
    refine cs_node x2.s (by omega) _ _ _ (fun A3 f3 x3 w3 => ?_)
    have D3 := (jD.new x3 w3).bs (x1.tr x2) (jU.sm f12 rfl) (f12.z 7 rfl)
    exact R A3 _ (D3.x.le (by have := jdl_01 A3; omega) (by omega) (by omega)) D3.u (D3.N (fun c hc => absurd hc List.not_mem_nil) (by rw [jkap_1 (by decide)]; omega) (jShp.o (by decide) (by decide) (by decide)))
