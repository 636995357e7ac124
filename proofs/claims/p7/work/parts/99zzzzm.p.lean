/-! THE CLASS'S PARSER: DECLARATIONS, ALL -/
theorem cs_p3 {m : Nat} (P : jP m) (k : Nat) (b c : Int) {A0 A : cS} {Q : Int → cS → Prop} {E : cS → Prop} {K D X a' b' d' : Int} (D0 : jD A0 A k [] K D X a' b' d') (h7 : j7 A0 + a' ≤ 2603 + 6 * yv A 11) (hf : jFl 5 A (m + 1)) (hE : jEE A E) (hq : ∀ A' l D2 a2, jD A0 A' k l 97 D2 X a2 b' d' → a2 ≤ a' + 1 → jF A A' → (∀ c ∈ l, c.1 ≤ jH 9 A) → (∃ m : Nat, D2 = m ∧ l.length = m + m) → Q 0 A') : wcG_P (m + 1) 3 k b c A Q E := by
  have sd := D0.s.d
  have d0 := D0.x.d
  have hH : jH 7 A = jH 6 A + 1 := jH_c 6 1 A
  have hH9 : jH 9 A = jH 6 A + 3 := jH_c 6 3 A
  have hH1 : 1 ≤ jH 6 A := Nat.le_trans (by decide) jH1
  have R : ∀ (m2 : Nat) (A1 : cS) (M : Nat) (l : List jC) (x3 : Nat) (a1 : Int), jD A0 A1 k l 97 D X a1 b' d' → jF A A1 → (∀ c ∈ l, c.1 ≤ jH 7 A) → l.length = M + x3 → x3 ≤ M → 1 ≤ M → M ≤ 2000 → (x3 = 0 ∧ a1 ≤ a' ∨ a1 ≤ a' + jdl A1 ∧ 1 ≤ x3) → (M : Int) - x3 < m2 → wc_Parser_variables_78 (wcG_P m) (fun A' => Q 0 A') E m2 A1 k M x3 := by
    intro m2
    induction m2 with
    | zero => intro A1 M l x3 a1 _ _ _ _ _ _ _ _ h; omega
    | succ m2 ih =>
      intro A1 M l x3 a1 D1 F1 hl hlen h1 h2 h3 hx h4
      have n1 := D1.x.n
      have j1 := jdl_01 A1
      have V : ∀ (A2 : cS) (a2 : Int), jD A0 A2 k l 97 D X a2 b' d' → jF A A2 → a2 ≤ a' → ¬ (M : Int) ≤ x3 → wc_Parser_variables_93 (wcG_P m) (fun A' => Q 0 A') E (wc_Parser_variables_78 (wcG_P m) (fun A' => Q 0 A') E m2) A2 k M x3 := fun A2 a2 D2 F2 ha2 hxM => by
        have n2 := D2.x.n
        have e : (x3 : Int) + 1 = ((x3 + 1 : Nat) : Int) := by omega
        unfold wc_Parser_variables_93
        unfold wc_Parser_kind
        refine ⟨fun _ => ?_, fun q => ?_⟩
        · refine D2.sub (P.ex 0 0 0 D2.s (by omega) (by unfold jFl at hf ⊢; omega) (hE.tr F2)) (fun A3 c c1 D3 F3 a3 d3 => ⟨⟨by omega, by omega⟩, ?_⟩)
          rw [e]
          exact ih A3 M _ (x3 + 1) _ D3 (F2.tr F3 rfl rfl) (jAll1 hl (by rw [c1, jH_eq (by omega : yv A2 11 = yv A 11)]; omega)) (by rw [List.length_append]; show _ + 1 = _; omega) (by omega) h2 h3 (Or.inr ⟨by omega, by omega⟩) (by omega)
        · refine cs_leaf D2.s (by omega) (by omega) _ (fun A3 f3 x3' e3 w3 => ?_)
          have D3 := jD.new x3' w3
          have n3 := x3'.n
          refine D3.sub (P.ex 0 0 0 D3.s (by omega) (by unfold jFl at hf ⊢; omega) (hE.tr (F2.tr D3.x.f rfl rfl))) (fun A4 c c1 D4 F4 a4 d4 => ?_)
          have e6 : jH 6 A3 = jH 6 A := jH_eq (by omega)
          refine D2.kid D4.x D4.u (D4.N (hh := jH 7 A) (jAllk (fun c hc => absurd hc List.not_mem_nil) (by rw [jkap_1 (by decide)]; omega)) (by rw [jkap_1 (by decide)]; omega) (jShp.o (by decide) (by decide) (by decide))) (fun A5 cc c1' _ f5 _ _ D5 => ⟨⟨by omega, by omega⟩, ?_⟩)
          rw [e]
          have ej : jdl A5 = jdl A4 := jdl_f f5 rfl rfl
          exact ih A5 M _ (x3 + 1) _ (D5.le (Int.le_refl _) (by omega) (by omega)) ((F2.tr D4.x.f rfl rfl).tr f5 rfl rfl) (jAll1 hl (by omega)) (by rw [List.length_append]; show _ + 1 = _; omega) (by omega) h2 h3 (Or.inr ⟨by omega, by omega⟩) (by omega)
      unfold wc_Parser_variables_78
      unfold wc_Parser_variables_78B
      refine ⟨fun q => ?_, fun q => ⟨fun q2 => V A1 a1 D1 F1 (by omega) q, fun q2 => cs_due D1.s 9 (by decide) (hE.tr F1) (fun k2 A2 f2 x2 e2 => ?_)⟩⟩
      · unfold wc_Tree_setData
        obtain ⟨f2, D2⟩ := D1.cell (j := 9) (Or.inr (Or.inl rfl)) (M : Int)
        rw [if_neg (by decide), if_pos rfl, if_neg (by decide)] at D2
        exact hq _ _ _ _ D2 (by omega) (F1.tr f2 rfl rfl) (fun c hc => by have := hl c hc; omega) ⟨M, rfl, by omega⟩
      · have j0 := jdl_0 (A := A1) (by omega) (by omega)
        exact V A2 (a1 - 2) ((D1.sm x2 f2 rfl).le (by omega) (by omega) (by omega)) (F1.tr f2 rfl rfl) (by omega) q
  have L : ∀ (m2 : Nat) (A1 : cS) (M : Nat) (l : List jC) (x3 : Int), jD A0 A1 k l 97 D X a' b' d' → jF A A1 → (∀ c ∈ l, c.1 ≤ jH 7 A) → l.length = M → (M : Int) ≤ yv A1 10 → 0 ≤ x3 → x3 ≤ yv A1 10 → jt A1 < m2 → wc_Parser_variables_14 (wcG_P m) (fun A' => Q 0 A') E m2 A1 k M x3 := by
    intro m2
    induction m2 with
    | zero => intro A1 M l x3 D1 _ _ _ _ _ _ h; have := D1.s.a; unfold jt at h; omega
    | succ m2 ih =>
      intro A1 M l x3 D1 F1 hl hlen h1 h3 h4 h5
      have n1 := D1.x.n
      have sa := D1.s.a
      have e3 := D1.s.e.2.2.1
      have e : (M : Int) + 1 = ((M + 1 : Nat) : Int) := by omega
      unfold wc_Parser_variables_14
      unfold wc_Parser_variables_14B
      unfold wc_Parser_kind
      refine ⟨fun q => by omega, fun _ => ⟨fun k2 => ?_, fun _ => cs_refuse D1.s _ (hE.tr F1)⟩⟩
      refine cs_leaf D1.s (by omega) (by omega) _ (fun A2 f2 x2 e2 w2 => D1.kid x2 w2.1 (w2.N x2 (h := 1) (by decide) (by decide) (by decide) (by decide)) (fun A3 c c1 cn f3 _ _ D3 => ?_))
      have e10 : yv A3 10 = yv A2 10 := f3.v 10 rfl
      have n3 := D3.x.n
      have F3 : jF A1 A3 := x2.f.tr f3 rfl rfl
      have hl3 := jAll1 hl (by omega : c.1 ≤ jH 7 A)
      have hlen3 : (l ++ [c]).length = M + 1 := by rw [List.length_append]; show _ + 1 = _; omega
      refine ⟨fun k9 => cs_adv D3.s (by omega) (fun A4 f4 x4 e4 => ⟨⟨by omega, by omega⟩, ⟨by omega, by omega⟩, ?_⟩), fun _ => cs_due D3.s 20 (by decide) (hE.tr (F1.tr F3 rfl rfl)) (fun k4 A4 f4 x4 e4 => ⟨⟨by omega, by omega⟩, M + 2, ?_⟩)⟩
      · rw [e]
        have F4 : jF A1 A4 := F3.tr f4 rfl rfl
        refine ih A4 (M + 1) _ (x3 + 1) ((D3.sm x4 f4 rfl).le (by omega) (by omega) (by omega)) (F1.tr F4 rfl rfl) hl3 hlen3 (by omega) (by omega) (by omega) ?_
        have := jt_f F4
        omega
      · rw [e]
        exact R (M + 2) A4 (M + 1) _ 0 a' ((D3.sm x4 f4 rfl).le (by omega) (by omega) (by omega)) ((F1.tr F3 rfl rfl).tr f4 rfl rfl) hl3 hlen3 (Nat.zero_le _) (by omega) (by omega) (Or.inl ⟨rfl, Int.le_refl _⟩) (by omega)
  show wc_Parser_variables (wcG_P m) A k (fun A' => Q 0 A') E
  unfold wc_Parser_variables wc_Tree_setKind
  obtain ⟨f1, D1⟩ := D0.cell (j := 7) (Or.inl rfl) 97
  rw [if_pos rfl, if_neg (by decide), if_neg (by decide)] at D1
  exact ⟨(jt (yset A 7 (k : Nat) 97)).toNat + 1, L _ _ 0 [] 0 D1 (ySm.rf.tr f1 rfl rfl) (fun c hc => absurd hc List.not_mem_nil) rfl (D1.s.a).1 (by decide) (D1.s.a).1 (by omega)⟩
theorem j23_f {A A' : cS} {js ks : List Nat} (f : ySm A A' js ks) (h1 : js.contains 14 = false) (h2 : js.contains 23 = false) : j23 A' = j23 A - (yv A' 10 - yv A 10) := by
  unfold j23 jt
  rw [f.z 14 h1, f.z 23 h2]
  omega
theorem j3_f {A A' : cS} {js ks : List Nat} (f : ySm A A' js ks) (h1 : js.contains 14 = false) (h2 : js.contains 3 = false) : j3 A' = j3 A - (yv A' 10 - yv A 10) := by
  unfold j3 jt
  rw [f.z 14 h1, f.z 3 h2]
  omega
/-- a global more -/
theorem jX.r23 {A A' : cS} (s : jS A) (b : j23 A ≤ 1389) (f : ySm A A' [23] []) (z : yz A' 23 = yz A 23 + 1) : jX A A' 0 0 0 := by
  have e10 : yv A' 10 = yv A 10 := f.v 10 rfl
  have e11 : yv A' 11 = yv A 11 := f.v 11 rfl
  have t : jt A' = jt A := by unfold jt; rw [f.z 14 rfl, e10]
  have m2 : j2 A' = j2 A := by unfold j2; rw [f.z 2 rfl, t]
  have m7 : j7 A' = j7 A := by unfold j7; rw [f.z 7 rfl, f.z 22 rfl, t]
  have sb := s.b
  refine ⟨ySm.rf.tr f rfl rfl, s.gen f rfl (by rw [e10]; exact s.a) (by rw [e11]; exact s.d) (by rw [f.z 3 rfl, f.z 4 rfl, f.z 5 rfl, f.z 6 rfl]; exact s.r) ⟨by omega, ?_, ?_, ?_⟩, by omega, by omega, by omega, by omega, by rw [f.z 7 rfl]; exact Nat.le_refl _, s.n.1⟩
  · unfold j3; rw [f.z 3 rfl, t]; exact sb.2.1
  · unfold j21; rw [f.z 21 rfl, t]; exact sb.2.2.1
  · unfold j23 at b ⊢; rw [z, t]; omega
theorem cs_p1 {m : Nat} (P : jP m) (a b c : Int) {A : cS} {Q : Int → cS → Prop} {E : cS → Prop} (s : jS A) (h7 : j7 A ≤ 2603 + 6 * yv A 11) (hk : 53 ≤ yget A 14 (yv A 10) ∧ yget A 14 (yv A 10) ≤ 55) (hf : jFl 1 A (m + 1)) (hE : jEE A E) (hq : ∀ r A', jX A A' 0 0 0 → jU A A' jO → jN A A' r (jH 12 A) → Q r A') : wcG_P (m + 1) 1 a b c A Q E := by
  have sd := s.d
  have hH : jH 12 A = jH 6 A + 6 := jH_c 6 6 A
  have hH6 : 1 ≤ jH 6 A := Nat.le_trans (by decide) jH1
  show wc_Parser_definitions (wcG_P m) A a Q E
  generalize hK : yget A 14 (yv A 10) = K at hk
  have CL : ∀ (A1 : cS) (n : Nat) (l : List jC) (D a1 : Int), jD A A1 n l K D 0 a1 0 1 → a1 ≤ -1 + jdl A1 → (∀ c ∈ l, c.1 ≤ jH 6 A) → wc_Parser_close A1 (fun A51 => Q n A51) E := fun A1 n l D a1 D1 ha hl => by
    have d1 := D1.x.d
    have j1 := jdl_01 A1
    refine cs_close D1.s (by omega) (hE.tr D1.x.f) (fun A2 f2 x2 _ => ?_)
    have D2 := D1.sm x2 f2 rfl
    refine hq _ _ (D2.x.le ?_ (by omega) (by omega)) D2.u (D2.N (fun c hc => by rw [jkap_1 (by omega)]; have := hl c hc; omega) (by rw [jkap_1 (by omega)]; omega) (jShp.o (by omega) (by omega) (by omega)))
    split <;> omega
  have L : ∀ (m2 : Nat) (A1 : cS) (n : Nat) (l : List jC) (D x4 a1 : Int), jD A A1 n l K D 0 a1 0 1 → a1 ≤ -1 → (∀ c ∈ l, c.1 ≤ jH 6 A) → 0 ≤ x4 → x4 ≤ yv A1 10 → jt A1 < m2 → wc_Parser_definitions_18 (wcG_P m) Q E m2 A1 a K n x4 := by
    intro m2
    induction m2 with
    | zero => intro A1 n l D x4 a1 D1 _ _ _ _ h; have := D1.s.a; unfold jt at h; omega
    | succ m2 ih =>
      intro A1 n l D x4 a1 D1 ha hl h0 h1 h2
      have n1 := D1.x.n
      have sa := D1.s.a
      have e3 := D1.s.e.2.2.1
      have sb1 := D1.s.b
      unfold wc_Parser_definitions_18
      unfold wc_Parser_definitions_18B
      unfold wc_Parser_place wc_Tree_data
      refine ⟨fun q => by omega, fun _ => cs_nameDue D1.s (hE.tr D1.x.f) (fun r A2 f2 x2 e2 => ?_)⟩
      have nx2 := x2.n
      refine cs_node x2.s (by omega) _ _ _ (fun A3 f3 x3 w3 => ?_)
      have D3 := (jD.new x3 w3).bs x2 (jU.sm f2 rfl) (f2.z 7 rfl)
      have e103 : yv A3 10 = yv A2 10 := f3.v 10 rfl
      have b23 : j23 A3 ≤ 1389 := by
        have e : j23 A2 = _ := j23_f f2 rfl rfl
        have e' : j23 A3 = _ := j23_f f3 rfl rfl
        omega
      have G7 : ∀ (A4 : cS) (X y0 b4 : Int), jD A1 A4 (yz A2 7) [] 98 r X (-1) b4 0 → b4 ≤ 0 → yv A1 10 + 1 ≤ yv A4 10 → ¬ y0 = 0 → ¬ y0 = 6 → ¬ y0 = 10 → wc_Parser_definitions_107 (wcG_P m) Q E (wc_Parser_definitions_18 (wcG_P m) Q E m2) A4 a K n x4 (yz A2 7 : Nat) y0 := fun A4 X y0 b4 D4 hb hm hy0 hy6 hy10 => by
        unfold wc_Parser_definitions_107
        unfold wc_Parser_kind
        refine cs_due D4.s y0 hy0 (hE.tr (D1.x.f.tr D4.x.f rfl rfl)) (fun k4 A5 f5 x5 e5 => ?_)
        have D5 := D4.sm x5 f5 rfl
        have n5 := D5.x.n
        refine D5.sub (P.ex 0 0 0 D5.s (by omega) (by unfold jFl at hf ⊢; omega) (hE.tr (D1.x.f.tr D5.x.f rfl rfl))) (fun A6 c6 c61 D6 F6 a6 d6 => ?_)
        have n6 := D6.x.n
        have g6 : jH 6 A5 + 10 = jH 6 A := jH_up (by omega) (by have := D5.s.d; omega) (by omega)
        refine D1.kid D6.x D6.u (D6.N (hh := jH 6 A) (jAllk (fun c hc => absurd hc List.not_mem_nil) (by rw [jkap_1 (by decide)]; omega)) (by rw [jkap_1 (by decide)]; omega) (jShp.o (by decide) (by decide) (by decide))) (fun A7 c7 c71 _ f7 _ _ D7 => ?_)
        have e107 : yv A7 10 = yv A6 10 := f7.v 10 rfl
        have j7' : jdl A7 = jdl A6 := jdl_f f7 rfl rfl
        have hl7 := jAll1 hl (by omega : c7.1 ≤ jH 6 A)
        have j6 := jdl_01 A6
        refine ⟨fun q => cs_adv D7.s (by omega) (fun A8 f8 x8 e8 => ⟨⟨by omega, by omega⟩, ?_⟩), fun _ => CL A7 n _ D _ (D7.le (Int.le_refl _) (by omega) (by omega)) (by omega) hl7⟩
        have D8 := D7.sm x8 f8 rfl
        have F8 : jF A1 A8 := (D6.x.f.tr f7 rfl rfl).tr f8 rfl rfl
        refine ih A8 n _ D (x4 + 1) _ (D8.le (Int.le_refl _) (by omega) (by omega)) (by omega) hl7 (by omega) (by omega) ?_
        have := jt_f F8
        omega
      have G0 : ∀ (A4 : cS), jD A1 A4 (yz A2 7) [] 98 r 0 (-1) (-60) 0 → yv A4 10 = yv A3 10 → wc_Parser_definitions_70 (wcG_P m) Q E (wc_Parser_definitions_18 (wcG_P m) Q E m2) A4 a K n x4 (yz A2 7 : Nat) := fun A4 D4 e4 => by
        unfold wc_Parser_definitions_70
        refine ⟨fun _ => ⟨fun _ => G7 A4 0 20 (-60) D4 (by decide) (by omega) (by decide) (by decide) (by decide), fun _ => G7 A4 0 12 (-60) D4 (by decide) (by omega) (by decide) (by decide) (by decide)⟩, fun _ => ?_⟩
        refine cs_word D4.s (by have := D4.x.n; omega) 0 (fun r5 A5 f5 x5 _ => ?_)
        unfold wc_Tree_setExtra
        obtain ⟨f6, D6⟩ := (D4.sm x5 f5 rfl).cell (j := 10) (Or.inr (Or.inr rfl)) r5
        rw [if_neg (by decide), if_neg (by decide), if_pos rfl] at D6
        have e6 : yv (yset A5 10 (yz A2 7 : Nat) r5) 10 = yv A4 10 := by rw [f6.v 10 rfl, f5.v 10 rfl]
        exact ⟨fun _ => G7 _ r5 20 (-59) (D6.le (by omega) (by omega) (by omega)) (by decide) (by omega) (by decide) (by decide) (by decide), fun _ => G7 _ r5 12 (-59) (D6.le (by omega) (by omega) (by omega)) (by decide) (by omega) (by decide) (by decide) (by decide)⟩
      have D3' := D3.le (a' := -1) (b' := -60) (d' := 0) (by omega) (by omega) (by omega)
      refine ⟨fun _ => G0 A3 D3' rfl, fun _ => ⟨fun _ => G0 A3 D3' rfl, fun _ => ?_⟩⟩
      have sb3 := D3.s.b
      have z23 : yz A3 23 < 1400 := by
        have := D3.s.a
        unfold j23 jt at b23
        omega
      refine ⟨z23, ?_⟩
      have f4 : ySm A3 (yadd A3 23 (yget A3 9 (yz A2 7 : Nat))) [23] [] := ySm.rf.add rfl
      have z4 : yz (yadd A3 23 (yget A3 9 (yz A2 7 : Nat))) 23 = yz A3 23 + 1 := rfl
      generalize yadd A3 23 (yget A3 9 (yz A2 7 : Nat)) = A4 at f4 z4
      exact G0 A4 ((D3'.sm (jX.r23 D3.s b23 f4 z4) f4 rfl).le (by decide) (by decide) (by decide)) (f4.v 10 rfl)
  unfold wc_Parser_definitions wc_Parser_kind
  refine cs_leaf s (by omega) (by omega) _ (fun A1 f1 x1 e1 w1 => cs_open x1.s (hE.tr x1.f) (fun dd A2 f2 x2 => ?_))
  rw [hK] at w1 ⊢
  have D2 := (jD.new x1 w1).sm x2 f2 rfl
  exact ⟨(jt A2).toNat + 1, L _ A2 _ [] _ 0 (-1 + -2) (D2.le (Int.le_refl _) (by decide) (by decide)) (by decide) (fun c hc => absurd hc List.not_mem_nil) (by decide) (by have := D2.s.a; omega) (by omega)⟩
theorem cs_p2 {m : Nat} (P : jP m) (a b c : Int) {A : cS} {Q : Int → cS → Prop} {E : cS → Prop} (s : jS A) (h7 : j7 A ≤ 2603 + 6 * yv A 11) (hf : jFl 7 A (m + 1)) (hE : jEE A E) (hq : ∀ r A', jX A A' 0 0 0 → jU A A' jO → jN A A' r (jH 11 A) → Q r A') : wcG_P (m + 1) 2 a b c A Q E := by
  have sd := s.d
  have sb := s.b
  have hH : jH 11 A = jH 6 A + 5 := jH_c 6 5 A
  have hH10 : jH 11 A = jH 10 A + 1 := jH_c 10 1 A
  have hH6 : 1 ≤ jH 6 A := Nat.le_trans (by decide) jH1
  have T4 : ∀ (A1 : cS) (n : Nat) (l : List jC) (D X a1 b1 : Int), jD A A1 n l 95 D X a1 b1 0 → a1 ≤ -3 → b1 ≤ 0 → (∀ c ∈ l, c.1 ≤ 1) → wc_Parser_routine_104 (wcG_P m) Q E A1 n := fun A1 n l D X a1 b1 D1 ha hb hl => by
    have n1 := D1.x.n
    unfold wc_Parser_routine_104
    refine cs_due D1.s 8 (by decide) (hE.tr D1.x.f) (fun k2 A2 f2 x2 e2 => ?_)
    have D2 := D1.sm x2 f2 rfl
    have n2 := D2.x.n
    unfold wc_Parser_kind wc_Tree_setKind
    refine ⟨fun _ => cs_due D2.s 58 (by decide) (hE.tr D2.x.f) (fun k3 A3 f3 x3 e3 => ?_), fun k20 => ?_⟩
    · have D3 := D2.sm x3 f3 rfl
      have n3 := D3.x.n
      refine D3.sub (P.p6 0 0 0 D3.s (by omega) (by unfold jFl at hf ⊢; omega) (hE.tr D3.x.f)) (fun A4 c4 c41 D4 F4 a4 d4 => ?_)
      have j4 := jdl_01 A4
      have e : jH 10 A3 = jH 10 A := jH_eq (by omega)
      exact hq _ _ (D4.x.le (by omega) (by omega) (by omega)) D4.u (D4.N (fun c hc => by rw [jkap_1 (by decide)]; exact jAllk (fun c hc => by have := hl c hc; omega) (by omega) c hc) (by rw [jkap_1 (by decide)]; omega) (jShp.o (by decide) (by decide) (by decide)))
    · obtain ⟨f3, D3⟩ := D2.cell (j := 7) (Or.inl rfl) 96
      rw [if_pos rfl, if_neg (by decide), if_neg (by decide)] at D3
      refine cs_adv D3.s (by rw [f3.v 10 rfl, f3.g 14 _ rfl]; omega) (fun A4 f4 x4 e4 => ?_)
      have D4 := D3.sm x4 f4 rfl
      have n4 := D4.x.n
      refine D4.sub (P.ex 0 0 0 D4.s (by omega) (by unfold jFl at hf ⊢; omega) (hE.tr D4.x.f)) (fun A5 c5 c51 D5 F5 a5 d5 => ?_)
      have j5 := jdl_01 A5
      have e : jH 6 A4 = jH 6 A := jH_eq (by omega)
      exact hq _ _ (D5.x.le (by omega) (by omega) (by omega)) D5.u (D5.N (fun c hc => by rw [jkap_1 (by decide)]; exact jAllk (fun c hc => by have := hl c hc; omega) (by omega) c hc) (by rw [jkap_1 (by decide)]; omega) (jShp.o (by decide) (by decide) (by decide)))
  have T7 : ∀ (A1 : cS) (n : Nat) (D X a1 b1 : Int), jD A A1 n [] 95 D X a1 b1 0 → a1 ≤ -1 → b1 ≤ 0 → wc_Parser_due A1 7 (fun A20 => wc_Parser_kind A20 (fun r27 A28 => ((r27 = 8 → wc_Parser_routine_104 (wcG_P m) Q E A28 n) ∧ (¬ r27 = 8 → wc_Parser_names A28 n (fun A39 => wc_Parser_routine_104 (wcG_P m) Q E A39 n) E)))) E := fun A1 n D X a1 b1 D1 ha hb => by
    refine cs_due D1.s 7 (by decide) (hE.tr D1.x.f) (fun k2 A2 f2 x2 e2 => ?_)
    have D2 := D1.sm x2 f2 rfl
    unfold wc_Parser_kind
    refine ⟨fun _ => T4 A2 n [] D X _ _ D2 (by omega) (by omega) (fun c hc => absurd hc List.not_mem_nil), fun _ => cs_names D2 (by omega) (hE.tr D2.x.f) (fun A3 l3 hl3 D3 => T4 A3 n _ D X _ _ D3 (by omega) (by omega) hl3)⟩
  show wc_Parser_routine (wcG_P m) A a Q E
  unfold wc_Parser_routine wc_Parser_place
  refine cs_nameDue s hE (fun r A2 f2 x2 e2 => ?_)
  have n2 := x2.n
  refine cs_node x2.s (by omega) _ _ _ (fun A3 f3 x3 w3 => ?_)
  have D3 := (jD.new x3 w3).bs x2 (jU.sm f2 rfl) (f2.z 7 rfl)
  have n3 := D3.x.n
  have e103 : yv A3 10 = yv A2 10 := f3.v 10 rfl
  have b3 : j3 A3 ≤ 1389 := by
    have e : j3 A2 = _ := j3_f f2 rfl rfl
    have e' : j3 A3 = _ := j3_f f3 rfl rfl
    omega
  have R : ∀ y0, wc_Parser_routine_46 (wcG_P m) Q E A3 a (yz A2 7 : Nat) y0 := fun y0 => by
    unfold wc_Parser_routine_46
    refine cs_addRoutine D3.s (by omega) b3 y0 (fun r5 A5 f5 x5 => ?_)
    unfold wc_Tree_setExtra wc_Tree_data
    obtain ⟨f6, D6⟩ := (D3.sm x5 f5 rfl).cell (j := 10) (Or.inr (Or.inr rfl)) r5
    rw [if_neg (by decide), if_neg (by decide), if_pos rfl] at D6
    generalize yset A5 10 (yz A2 7 : Nat) r5 = A6 at f6 D6
    refine ⟨fun _ => T7 A6 _ _ _ _ _ D6 (by omega) (by omega), fun _ => ⟨fun _ => T7 A6 _ _ _ _ _ D6 (by omega) (by omega), fun _ => cs_setStarter D6.s r5 (fun A7 f7 x7 => T7 A7 _ _ _ _ _ (D6.sm x7 f7 rfl) (by omega) (by omega))⟩⟩
  unfold wc_Tree_data
  have z23 : yz A3 23 ≤ 2000 := by
    have h1 := D3.s.b.2.2.2
    have h2 := D3.s.a
    unfold j23 jt at h1
    omega
  exact ⟨fun _ => R _, fun _ => cs_isGlobal A3 _ z23 (fun r => ⟨fun _ => R _, fun _ => R _⟩)⟩
theorem cs_p0 {m : Nat} (P : jP m) (a b c : Int) {A : cS} {Q : Int → cS → Prop} {E : cS → Prop} (s : jS A) (h7 : j7 A ≤ 2603 + 6 * yv A 11) (hf : jFl 8 A (m + 1)) (hE : jEE A E) (hq : ∀ r A', jX A A' 0 0 0 → jU A A' jO → jN A A' r (jH 12 A) → Q r A') : wcG_P (m + 1) 0 a b c A Q E := by
  have sd := s.d
  have hH : jH 12 A = jH 11 A + 1 := jH_c 11 1 A
  have hH9 : jH 12 A = jH 9 A + 3 := jH_c 9 3 A
  have L : ∀ (m2 : Nat) (A1 : cS) (n : Nat) (l : List jC) (x4 a1 : Int), jD A A1 n l 94 0 0 a1 0 0 → a1 ≤ -1 → (∀ c ∈ l, c.1 ≤ jH 11 A) → 0 ≤ x4 → x4 ≤ yv A1 10 → jt A1 < m2 → wc_Parser_declaration_90 (wcG_P m) Q E m2 A1 a n x4 := by
    intro m2
    induction m2 with
    | zero => intro A1 n l x4 a1 D1 _ _ _ _ h; have := D1.s.a; unfold jt at h; omega
    | succ m2 ih =>
      intro A1 n l x4 a1 D1 ha hl h0 h1 h2
      have n1 := D1.x.n
      have sa := D1.s.a
      have e3 := D1.s.e.2.2.1
      unfold wc_Parser_declaration_90
      unfold wc_Parser_declaration_90B
      unfold wc_Parser_kind
      refine ⟨fun q => by omega, fun _ => P.p2 a 0 0 D1.s (by omega) (by unfold jFl at hf ⊢; omega) (hE.tr D1.x.f) (fun r A2 x2 u2 n2 => D1.kid x2 u2 n2 (fun A3 c3 c31 _ f3 _ _ D3 => ?_))⟩
      have e10 : yv A3 10 = yv A2 10 := f3.v 10 rfl
      have m2' := x2.a
      have hl3 := jAll1 hl (by rw [c31, jH_eq (by omega : yv A1 11 = yv A 11)]; exact Nat.le_refl _ : c3.1 ≤ jH 11 A)
      refine ⟨fun q => cs_adv D3.s (by omega) (fun A4 f4 x4' e4 => ⟨⟨by omega, by omega⟩, ?_⟩), fun _ => hq _ _ (D3.x.le (by omega) (by omega) (by omega)) D3.u (D3.N (fun c hc => by rw [jkap_1 (by decide)]; have := hl3 c hc; omega) (by rw [jkap_1 (by decide)]; omega) (jShp.o (by decide) (by decide) (by decide)))⟩
      have D4 := D3.sm x4' f4 rfl
      refine ih A4 n _ (x4 + 1) _ (D4.le (Int.le_refl _) (by omega) (by omega)) (by omega) hl3 (by omega) (by omega) ?_
      have := jt_f (x2.f.tr f3 rfl rfl : jF A1 A3)
      have := jt_f x4'.f
      omega
  have D1 : ∀ (k1 : 53 ≤ yget A 14 (yv A 10) ∧ yget A 14 (yv A 10) ≤ 55), wcG_P m 1 a 0 0 A (fun r11 A12 => Q r11 A12) E := fun k1 => P.p1 a 0 0 s h7 k1 (by unfold jFl at hf ⊢; omega) hE hq
  show wc_Parser_declaration (wcG_P m) A a Q E
  unfold wc_Parser_declaration wc_Parser_kind wc_Parser_place
  refine ⟨fun q => D1 (by omega), fun _ => ⟨fun q => D1 (by omega), fun _ => ⟨fun _ => ?_, fun q => D1 (by omega)⟩⟩⟩
  refine cs_node s (by omega) _ _ _ (fun A1 f1 x1 w1 => cs_due x1.s 52 (by decide) (hE.tr x1.f) (fun k1 A2 f2 x2 e2 => ?_))
  have D2 := (jD.new x1 w1).sm x2 f2 rfl
  have n2 := D2.x.n
  have sa2 := D2.s.a
  have e32 := D2.s.e.2.2.1
  have S : ∃ k, wc_Parser_declaration_90 (wcG_P m) Q E k A2 a (yz A 7 : Nat) 0 := ⟨(jt A2).toNat + 1, L _ A2 _ [] 0 (1 + -2) (D2.le (Int.le_refl _) (by decide) (by decide)) (by decide) (fun c hc => absurd hc List.not_mem_nil) (by decide) (by omega) (by omega)⟩
  refine ⟨fun _ => S, fun _ => ⟨fun _ => S, fun _ => ⟨⟨by omega, by omega⟩, fun _ => S, fun _ => ?_⟩⟩⟩
  refine P.p3 _ 0 0 D2 (by omega) (by unfold jFl at hf ⊢; omega) (hE.tr D2.x.f) (fun A3 l D3 a3 E3 ha3 F3 hl hm => hq _ _ (E3.x.le (by omega) (by omega) (by omega)) E3.u (E3.N (fun c hc => ?_) (by rw [jkap_1 (by decide)]; omega) ⟨fun q => absurd q (by decide), fun _ => rfl, fun _ => hm, fun q => absurd q (by decide)⟩))
  have := hl c hc
  have e : jH 9 A2 = jH 9 A := jH_eq (by omega)
  rw [jkap_1 (by decide)]
  omega
/-- all -/
theorem cs_all : ∀ n, jP n
  | 0 => by
    refine ⟨?_, ?_, ?_, ?_, ?_, ?_, ?_, ?_, ?_, ?_, ?_, ?_, ?_, ?_, ?_, ?_, ?_⟩
    all_goals first | unfold jP0 | unfold jP1 | unfold jP2 | unfold jP3 | unfold jP4 | unfold jP5 | unfold jP6 | unfold jP7 | unfold jP8 | unfold jP9 | unfold jP10 | unfold jP11 | unfold jP12 | unfold jP13 | unfold jP14 | unfold jP15 | unfold jP16
    all_goals (intros; exfalso)
    all_goals first | (have h1 := jS.d ‹jS _›; unfold jFl at *; omega) | (have h1 := jS.d (jD.s ‹jD _ _ _ _ _ _ _ _ _ _›); unfold jFl at *; omega) | (have h1 := jS.d (jX.s ‹jX _ _ _ _ _›); unfold jFl at *; omega)
  | m + 1 => by
    have P := cs_all m
    exact ⟨fun a b c => cs_p0 P a b c, fun a b c => cs_p1 P a b c, fun a b c => cs_p2 P a b c, fun k b c => cs_p3 P k b c, fun a b c => cs_p4 P a b c, fun k b c => cs_p5 P k b c, fun a b c => cs_p6 P a b c, fun r b c => cs_p7 P r b c, fun a b c => cs_p8 P a b c, fun a b c => cs_p9 P a b c, fun a b c => cs_p10 P a b c, fun a b c => cs_p11 P a b c, fun a b c => cs_p12 P a b c, fun k b c => cs_p13 P k b c, fun a b c => cs_p14 P a b c, fun a b c => cs_p15 P a b c, fun r b c => cs_p16 P r b c⟩
