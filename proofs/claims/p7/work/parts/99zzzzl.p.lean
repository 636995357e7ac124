/-! THE CLASS'S PARSER: CASES, SECTIONS, VARIABLES -/
theorem cs_labels' {A0 A : cS} {n : Nat} {l : List jC} {K D X a b d : Int} (D0 : jD A0 A n l K D X a b d) (h7 : j7 A0 + a ≤ 2980) {Q : cS → Prop} (hq : ∀ A' l2, (∀ c ∈ l2, c.1 ≤ 1) → jD A0 A' n (l ++ l2) K D X a b d → jF A A' → yv A 10 ≤ yv A' 10 → Q A') : wc_Parser_labels A n Q := by
  have L : ∀ (m : Nat) (A1 : cS) (x : Int) (l1 : List jC), jF A A1 → yv A 10 ≤ yv A1 10 → jD A0 A1 n (l ++ l1) K D X a b d → (∀ c ∈ l1, c.1 ≤ 1) → 0 ≤ x → x ≤ yv A1 10 → jt A1 < m → wc_Parser_labels_2 Q m A1 n x := by
    intro m
    induction m with
    | zero => intro A1 x l1 _ _ D1 _ _ _ h; have := D1.s.a; unfold jt at h; omega
    | succ m ih =>
      intro A1 x l1 F1 m1 D1 hl h0 h1 h2
      have sa := D1.s.a
      have e3 := D1.s.e.2.2.1
      have b7 := D1.x.n.2.1
      unfold wc_Parser_labels_2
      unfold wc_Parser_labels_2B
      refine ⟨fun _ => hq A1 l1 hl D1 F1 m1, fun _ => ?_⟩
      unfold wc_Parser_kind
      refine ⟨fun _ => hq A1 l1 hl D1 F1 m1, fun c2 => ⟨⟨by omega, by omega⟩, fun _ => hq A1 l1 hl D1 F1 m1, fun c12 => ?_⟩⟩
      refine cs_leaf D1.s (by omega) (by rw [c2]; decide) 99 (fun A2 f2 x2 e2 w2 => ?_)
      refine D1.kid x2 w2.1 (w2.N x2 (h := 1) (by decide) (by decide) (by decide) (by decide)) (fun A3 c c1 cn f3 _ _ D3 => ?_)
      have e10 : yv A3 10 = yv A1 10 + 1 := by rw [f3.v 10 rfl]; exact e2
      have k3 : yget A3 14 (yv A3 10) = 12 := by rw [e10, f3.g 14 _ rfl, f2.g 14 _ rfl]; exact c12
      refine cs_adv D3.s (by rw [k3]; decide) (fun A4 f4 x4 e4 => ⟨⟨by omega, by omega⟩, ?_⟩)
      have D4 := (D3.sm x4 f4 rfl).le (a' := a) (b' := b) (d' := d) (by omega) (by omega) (by omega)
      rw [List.append_assoc] at D4
      refine ih A4 _ _ (((F1.tr x2.f rfl rfl).tr f3 rfl rfl).tr f4 rfl rfl) (by omega) D4 (jAll1 hl (by omega)) (by omega) (by omega) ?_
      have : jt A4 = jt A1 - 2 := by
        unfold jt
        rw [f4.z 14 rfl, f3.z 14 rfl, f2.z 14 rfl]
        omega
      omega
  unfold wc_Parser_labels
  exact ⟨(jt A).toNat + 1, L _ A 0 [] ySm.rf (Int.le_refl _) (by rw [List.append_nil]; exact D0) (fun c hc => absurd hc List.not_mem_nil) (by omega) (D0.s.a).1 (by omega)⟩
theorem cs_p5 {m : Nat} (P : jP m) (k : Nat) (b c : Int) {A0 A : cS} {Q : Int → cS → Prop} {E : cS → Prop} {l : List jC} {K D X a' b' d' : Int} (D0 : jD A0 A k l K D X a' b' d') (h7 : j7 A0 + a' ≤ 2603 + 6 * yv A 11) (hf : jFl 5 A (m + 1)) (hE : jEE A E) (hq : ∀ A' l2, jD A0 A' k (l ++ l2) K D X a' b' d' → jF A A' → yv A 10 ≤ yv A' 10 → (∀ c ∈ l2, c.1 ≤ jH 7 A) → Q 0 A') : wcG_P (m + 1) 5 k b c A Q E := by
  have sd := D0.s.d
  have d0 := D0.x.d
  have hH : jH 7 A = jH 6 A + 1 := jH_c 6 1 A
  have L : ∀ (m2 : Nat) (A1 : cS) (l1 : List jC) (x2 : Int), jD A0 A1 k (l ++ l1) K D X a' b' d' → jF A A1 → yv A 10 ≤ yv A1 10 → (∀ c ∈ l1, c.1 ≤ jH 7 A) → 0 ≤ x2 → x2 ≤ yv A1 10 → jt A1 < m2 → wc_Parser_cases_2 (wcG_P m) (fun A' => Q 0 A') E m2 A1 k x2 := by
    intro m2
    induction m2 with
    | zero => intro A1 l1 x2 D1 _ _ _ _ _ h; have := D1.s.a; unfold jt at h; omega
    | succ m2 ih =>
      intro A1 l1 x2 D1 F1 hm hl h0 h1 h2
      have n1 := D1.x.n
      have sa := D1.s.a
      have e3 := D1.s.e.2.2.1
      have T : ∀ (A3 : cS) (l3 : List jC) (DD a3 b3 : Int), (yget A1 14 (yv A1 10) = 43 ∨ yget A1 14 (yv A1 10) = 44) → jD A1 A3 (yz A1 7) l3 (yget A1 14 (yv A1 10)) DD 0 a3 b3 0 → b3 ≤ 0 → a3 ≤ -1 + jdl A3 → yv A1 10 + 1 ≤ yv A3 10 → (∀ c ∈ l3, c.1 ≤ jH 6 A) → wc_Parser_due A3 12 (fun A20 => wc_Tree_hang A20 k (yz A1 7 : Nat) (fun A28 => (zR (x2 + 1)) ∧ wc_Parser_cases_2 (wcG_P m) (fun A' => Q 0 A') E m2 A28 k (x2 + 1))) E := fun A3 l3 DD a3 b3 hk D3 hb ha hm3 hl3 => by
        refine cs_due D3.s 12 (by decide) (hE.tr (F1.tr D3.x.f rfl rfl)) (fun k3 A4 f4 x4 e4 => ?_)
        have j3 := jdl_0 (A := A3) (by omega) (by omega)
        have D4 := D3.sm x4 f4 rfl
        have n4 := D4.x.n
        refine D1.kid D4.x D4.u (D4.N (hh := jH 7 A) (fun c hc => by rw [jkap_1 (by omega), hH]; exact Nat.succ_le_succ (hl3 c hc)) (by rw [jkap_1 (by omega)]; omega) (jShp.o (by omega) (by omega) (by omega))) (fun A5 cc c1 _ f5 _ _ D5 => ⟨⟨by omega, by omega⟩, ?_⟩)
        have e10 : yv A5 10 = yv A4 10 := f5.v 10 rfl
        have F5 : jF A1 A5 := D4.x.f.tr f5 rfl rfl
        rw [List.append_assoc] at D5
        refine ih A5 _ (x2 + 1) (D5.le (by omega) (by omega) (by omega)) (F1.tr F5 rfl rfl) (by omega) (jAll1 hl (by omega)) (by omega) (by omega) ?_
        have := jt_f F5
        omega
      have G : ∀ y0, (yget A1 14 (yv A1 10) = 43 ∨ yget A1 14 (yv A1 10) = 44) → wc_Parser_cases_40 (wcG_P m) (fun A' => Q 0 A') E (wc_Parser_cases_2 (wcG_P m) (fun A' => Q 0 A') E m2) A1 k x2 y0 := fun y0 hk => by
        unfold wc_Parser_cases_40
        unfold wc_Parser_kind
        refine cs_leaf D1.s (by omega) (by omega) _ (fun A2 f2 x2' e2 w2 => ?_)
        have D2 := jD.new x2' w2
        have n2 := x2'.n
        have j2 := jdl_01 A2
        refine ⟨fun _ => T A2 [] _ _ _ hk D2 (by decide) (by omega) (by omega) (fun c hc => absurd hc List.not_mem_nil), fun _ => ?_⟩
        refine D2.sub (P.ex 0 0 0 D2.s (by omega) (by unfold jFl at hf ⊢; omega) (hE.tr (F1.tr D2.x.f rfl rfl))) (fun A3 cc c1 D3 F3 a3 d3 => T A3 _ _ _ _ hk D3 (by decide) (Int.le_refl _) (by omega) (jAll1 (fun c hc => absurd hc List.not_mem_nil) ?_))
        rw [c1, jH_eq (by omega : yv A2 11 = yv A 11)]
        exact Nat.le_refl _
      unfold wc_Parser_cases_2
      unfold wc_Parser_cases_2B
      unfold wc_Parser_kind
      exact ⟨fun q => by omega, fun _ => ⟨fun q => ⟨fun _ => G _ (Or.inl q), fun _ => G _ (Or.inl q)⟩, fun _ => ⟨fun _ => hq A1 l1 D1 F1 hm hl, fun q => ⟨fun _ => G _ (Or.inr q), fun _ => G _ (Or.inr q)⟩⟩⟩⟩
  show wc_Parser_cases (wcG_P m) A k (fun A' => Q 0 A') E
  unfold wc_Parser_cases
  exact ⟨(jt A).toNat + 1, L _ A [] 0 (by rw [List.append_nil]; exact D0) ySm.rf (Int.le_refl _) (fun c hc => absurd hc List.not_mem_nil) (by decide) (by have := D0.s.a; omega) (by omega)⟩
theorem cs_p4 {m : Nat} (P : jP m) (a b c : Int) {A : cS} {Q : Int → cS → Prop} {E : cS → Prop} (s : jS A) (h7 : j7 A ≤ 2606 + 6 * yv A 11) (hf : jFl 1 A (m + 1)) (hE : jEE A E) (hq : ∀ r A', jX A A' 0 0 0 → jU A A' jO → jN A A' r (jH 4 A) → Q r A') : wcG_P (m + 1) 4 a b c A Q E := by
  have sd := s.d
  have hH : jH 4 A = jH 2 A + 2 := jH_c 2 2 A
  have hH12 : jH 12 A = jH 2 A + 10 := jH_c 2 10 A
  have hH10 : jH 10 A = jH 2 A + 8 := jH_c 2 8 A
  have hH7 : jH 7 A = jH 2 A + 5 := jH_c 2 5 A
  have h2 : 1 ≤ jH 2 A := Nat.le_trans (by decide) jH1
  have CL : ∀ (A1 : cS) (n : Nat) (l : List jC) (a1 : Int), jD A A1 n l 92 0 0 a1 0 1 → a1 ≤ -1 + jdl A1 → (∀ c ∈ l, c.1 ≤ jH 2 A) → wc_Parser_close A1 (fun A51 => Q n A51) E := fun A1 n l a1 D1 ha hl => by
    have d1 := D1.x.d
    have j1 := jdl_01 A1
    refine cs_close D1.s (by omega) (hE.tr D1.x.f) (fun A2 f2 x2 _ => ?_)
    have D2 := D1.sm x2 f2 rfl
    refine hq _ _ (D2.x.le ?_ (by omega) (by omega)) D2.u (D2.N (fun c hc => by rw [jkap2 (by decide)]; have := hl c hc; omega) (by rw [jkap2 (by decide)]; omega) (jShp.o (by decide) (by decide) (by decide)))
    split <;> omega
  have L : ∀ (m2 : Nat) (A1 : cS) (n : Nat) (l : List jC) (x3 x4 a1 : Int), jD A A1 n l 92 0 0 a1 0 1 → a1 ≤ -1 → (∀ c ∈ l, c.1 ≤ jH 2 A) → 0 ≤ x4 → x4 ≤ yv A1 10 → jt A1 < m2 → wc_Parser_section_32 (wcG_P m) Q E m2 A1 a n x3 x4 := by
    intro m2
    induction m2 with
    | zero => intro A1 n l x3 x4 a1 D1 _ _ _ _ h; have := D1.s.a; unfold jt at h; omega
    | succ m2 ih =>
      intro A1 n l x3 x4 a1 D1 ha hl h0 h1 h2'
      have n1 := D1.x.n
      have sa := D1.s.a
      have e3 := D1.s.e.2.2.1
      have sd1 := D1.s.d
      -- what follows an item
      have T : ∀ (A3 : cS) (l3 : List jC) (y0 a3 : Int), jD A A3 n l3 92 0 0 a3 0 1 → a3 ≤ -1 + jdl A3 → jt A3 ≤ jt A1 → x4 ≤ yv A3 10 → (∀ c ∈ l3, c.1 ≤ jH 2 A) → (yget A3 14 (yv A3 10) = 10 → wc_Parser_advance A3 (fun A40 => (zR (x4 + 1)) ∧ wc_Parser_section_32 (wcG_P m) Q E m2 A40 a n y0 (x4 + 1))) ∧ (¬ yget A3 14 (yv A3 10) = 10 → wc_Parser_close A3 (fun A51 => Q n A51) E) := fun A3 l3 y0 a3 D3 ha3 ht hm hl3 => by
        have j3 := jdl_01 A3
        refine ⟨fun q => cs_adv D3.s (by omega) (fun A4 f4 x4' e4 => ⟨⟨by omega, by omega⟩, ?_⟩), fun _ => CL A3 n l3 a3 D3 ha3 hl3⟩
        have D4 := D3.sm x4' f4 rfl
        refine ih A4 n l3 y0 (x4 + 1) _ (D4.le (Int.le_refl _) (by omega) (by omega)) (by omega) hl3 (by omega) (by omega) ?_
        have := jt_f x4'.f
        omega
      have CMD : ∀ (A2 : cS) (l2 : List jC) (y0 : Int), jD A A2 n l2 92 0 0 a1 0 1 → jF A1 A2 → yv A1 10 ≤ yv A2 10 → (∀ c ∈ l2, c.1 ≤ jH 2 A) → wc_Parser_labels A2 n (fun A6 => wcG_P m 6 0 0 0 A6 (fun r13 A14 => wc_Tree_hang A14 n r13 (fun A22 => wc_Parser_kind A22 (fun r29 A30 => ((r29 = 10 → wc_Parser_advance A30 (fun A40 => (zR (x4 + 1)) ∧ wc_Parser_section_32 (wcG_P m) Q E m2 A40 a n y0 (x4 + 1))) ∧ (¬ r29 = 10 → wc_Parser_close A30 (fun A51 => Q n A51) E))))) E) := fun A2 l2 y0 D2 F2 hm2 hl2 => by
        refine cs_labels' D2 (by omega) (fun A3 l3 hl3 D3 F3 m3 => ?_)
        have n3 := D3.x.n
        refine D3.sub (P.p6 0 0 0 D3.s (by omega) (by unfold jFl at hf ⊢; omega) (hE.tr D3.x.f)) (fun A4 cc c1 D4 F4 a4 d4 => ?_)
        unfold wc_Parser_kind
        refine T A4 _ y0 _ D4 (by omega) ?_ (by omega) (jAll1 (jAlll hl2 (fun c hc => Nat.le_trans (hl3 c hc) h2)) ?_)
        · have t2 := jt_f F2
          have t3 := jt_f F3
          have t4 := jt_f F4
          omega
        · have : jH 10 A3 + 10 = jH 10 A := jH_up (by omega) (by omega) (by omega)
          omega
      have G : ∀ y0, wc_Parser_section_66 (wcG_P m) Q E (wc_Parser_section_32 (wcG_P m) Q E m2) A1 a n x4 y0 := fun y0 => by
        unfold wc_Parser_section_66
        refine ⟨fun _ => ⟨fun _ => CMD A1 l y0 D1 ySm.rf (Int.le_refl _) hl, fun _ => ?_⟩, fun _ => ?_⟩
        · refine P.p5 n 0 0 D1 (by omega) (by unfold jFl at hf ⊢; omega) (hE.tr D1.x.f) (fun A2 l2 D2 F2 m2' hl2 => CMD A2 _ y0 D2 F2 m2' (jAlll hl (fun c hc => ?_)))
          have := hl2 c hc
          have : jH 7 A1 + 10 = jH 7 A := jH_up (by omega) (by omega) (by omega)
          omega
        · refine P.p0 0 0 0 D1.s (by omega) (by unfold jFl at hf ⊢; omega) (hE.tr D1.x.f) (fun r A2 x2 u2 n2 => D1.kid x2 u2 n2 (fun A3 cc c1 _ f3 _ _ D3 => ?_))
          have e10 : yv A3 10 = yv A2 10 := f3.v 10 rfl
          have m2' := x2.a
          have F3 : jF A1 A3 := x2.f.tr f3 rfl rfl
          have j3 := jdl_01 A3
          unfold wc_Parser_kind
          refine T A3 _ y0 _ (D3.le (Int.le_refl _) (by omega) (by omega)) (by omega) ?_ (by omega) (jAll1 hl ?_)
          · have t2 := jt_f F3
            omega
          · have : jH 12 A1 + 10 = jH 12 A := jH_up (by omega) (by omega) (by omega)
            omega
      unfold wc_Parser_section_32
      unfold wc_Parser_section_32B
      unfold wc_Parser_kind
      exact ⟨fun q => by omega, fun _ => ⟨fun _ => G _, fun _ => ⟨fun _ => G _, fun _ => ⟨fun _ => G _, fun _ => G _⟩⟩⟩⟩
  show wc_Parser_section (wcG_P m) A a Q E
  unfold wc_Parser_section wc_Parser_place
  refine cs_node s (by omega) _ _ _ (fun A1 f1 x1 w1 => cs_open x1.s (hE.tr x1.f) (fun dd A2 f2 x2 => ?_))
  have D2 := (jD.new x1 w1).sm x2 f2 rfl
  have S : ∀ x3, ∃ k, wc_Parser_section_32 (wcG_P m) Q E k A2 a (yz A 7 : Nat) x3 0 := fun x3 => ⟨(jt A2).toNat + 1, L _ A2 _ [] x3 0 (1 + -2) (D2.le (Int.le_refl _) (by decide) (by decide)) (by decide) (fun c hc => absurd hc List.not_mem_nil) (by decide) (by have := D2.s.a; omega) (by omega)⟩
  exact ⟨fun _ => S _, fun _ => S _⟩
