/-! THE CLASS'S PARSER: PRIMARY, TABLE, CALLS -/
theorem jD.bs {A A0 A1 : cS} {n : Nat} {l : List jC} {K D X a b d a0 b0 d0 : Int} (x : jX A A0 a0 b0 d0) (u : jU A A0 jO) (z : yz A0 7 = yz A 7) (h : jD A0 A1 n l K D X a b d) : jD A A1 n l K D X (a0 + a) (b0 + b) (d0 + d) := by
  obtain ⟨h1, h2, h3, h4, h5, h6, h7, h8⟩ := h
  rw [z] at h3 h8
  exact ⟨x.tr h1, u.tr h2 (by omega) (fun _ _ q => q), h3, h4, h5, h6, h7, h8⟩
theorem jN.bs {A A0 A1 : cS} {r : Int} {h : Nat} (z : yz A0 7 = yz A 7) (nn : jN A0 A1 r h) : jN A A1 r h := by
  unfold jN at nn ⊢
  rw [z] at nn
  exact nn
theorem jH1 {c : Nat} {A : cS} : c ≤ jH c A := Nat.le_add_right _ _
theorem cs_p14 {m : Nat} (P : jP m) (a b c : Int) {A : cS} {Q : Int → cS → Prop} {E : cS → Prop} (s : jS A) (h7 : j7 A ≤ 2608 + 6 * yv A 11) (hf : jFl 2 A (m + 1)) (hE : jEE A E) (hq : ∀ r A', jX A A' (-1 + jdl A') 0 0 → jU A A' jO → jN A A' r (jH 1 A) → ¬ yget A' 7 r = 83 → Q r A') : wcG_P (m + 1) 14 a b c A Q E := by
  have sd := s.d
  have sb := s.b
  have hH : 1 ≤ jH 1 A := jH1
  show wc_Parser_primary (wcG_P m) A Q E
  unfold wc_Parser_primary wc_Parser_kind wc_Parser_place wc_Tree_data wc_Tree_setData
  refine ⟨fun c1 => ?_, fun c1 => ?_, fun c1 => ?_, fun c1 => ?_, fun c1 => ?_, fun _ _ _ _ _ => cs_refuse s _ hE⟩
  · refine cs_leaf s (by omega) (by omega) _ (fun A1 f1 x1 e1 w1 => hq _ A1 (x1.le (by have := (jdl_01 A1).1; omega) (by decide) rfl) w1.1 (w1.N x1 (by rw [jkap_1 (by omega)]; exact hH) (by omega) (by omega) (by omega)) (by rw [w1.2.2.2.2.1]; omega))
  · refine cs_leaf s (by omega) (by omega) _ (fun A1 f1 x1 e1 w1 => cs_pack x1.s (by have := x1.n.2.2.1; omega) _ (fun r A2 f2 x2 => ?_))
    obtain ⟨f3, D3⟩ := ((jD.new x1 w1).sm x2 f2 rfl).cell (j := 9) (Or.inr (Or.inl rfl)) r
    exact hq _ _ (D3.x.le (by have := (jdl_01 (yset A2 9 (yz A 7 : Nat) r)).1; omega) (by decide) (by decide)) D3.u (D3.N (fun c hc => absurd hc List.not_mem_nil) (by rw [if_neg (by decide)]; exact hH) (by rw [if_neg (by decide)]; exact jShp.o (by decide) (by decide) (by decide))) (by rw [D3.c.2.1, if_neg (by decide)]; decide)
  · refine cs_enter s hE (fun d1 A1 f1 x1 => cs_leaf x1.s (by have := x1.n.2.1; omega) (by rw [f1.v 10 rfl, f1.g 14 _ rfl]; omega) _ (fun A2 f2 x2 e2 w2 => ?_))
    have D2 := (jD.new x2 w2).bs x1 (jU.sm f1 rfl) (f1.z 7 rfl)
    have n2 := D2.x.n
    refine D2.sub (P.ex 0 0 0 D2.s (by omega) (by unfold jFl at hf ⊢; omega) (hE.tr D2.x.f)) (fun A3 c c1 D3 F3 a3 d3 => cs_due D3.s 8 (by decide) (hE.tr D3.x.f) (fun k3 A4 f4 x4 e4 => ?_))
    have j0 := jdl_0 (A := A3) (by rw [k3]; decide) (by rw [k3]; decide)
    have d4 := (D3.x.tr x4).d
    obtain ⟨f5, x5⟩ := cs_dep x4.s (yv A4 11 - 1) (by omega)
    have D5 := (D3.sm x4 f4 rfl).sm x5 f5 rfl
    refine ⟨⟨by omega, by omega⟩, hq _ _ (D5.x.le (by have := (jdl_01 (ypv A4 11 (yv A4 11 - 1))).1; omega) (by omega) (by omega)) D5.u (D5.N (fun x hx => ?_) (by rw [jkap_1 (by decide)]; exact hH) (jShp.o (by decide) (by decide) (by decide))) (by rw [D5.c.2.1]; decide)⟩
    have : x = c := by simpa using hx
    rw [this, c1, jkap_1 (by decide)]
    have := jH_up (c := 6) (A := A) (A1 := A2) (by omega) (by omega) (by omega)
    have : jH 6 A = jH 1 A + 5 := jH_c 1 5 A
    omega
  · have G : ∀ D, wc_Tree_node A 3 (yget A 16 (yv A 10)) D (fun r140 A141 => wc_Parser_advance A141 (fun A149 => Q r140 A149)) := fun D => by
      refine cs_node s (by omega) _ _ _ (fun A1 f1 x1 w1 => cs_adv x1.s (by rw [f1.v 10 rfl, f1.g 14 _ rfl]; omega) (fun A2 f2 x2 e2 => ?_))
      have D2 := (jD.new x1 w1).sm x2 f2 rfl
      exact hq _ _ (D2.x.le (by have := (jdl_01 A2).1; omega) (by decide) (by decide)) D2.u (D2.N (fun c hc => absurd hc List.not_mem_nil) (by rw [jkap_1 (by decide)]; exact hH) (jShp.o (by decide) (by decide) (by decide))) (by rw [D2.c.2.1]; decide)
    exact ⟨fun _ => G _, fun _ => G _⟩
  · exact P.p15 0 0 0 s h7 (by omega) (by unfold jFl at hf ⊢; omega) hE hq
theorem jAllk {l : List jC} {c : jC} {h : Nat} {k : Nat} (hk : ∀ x ∈ l, x.1 + k ≤ h) (b : c.1 + k ≤ h) : ∀ x ∈ l ++ [c], x.1 + k ≤ h := fun x hx => by
  rcases List.mem_append.mp hx with q | q
  · exact hk x q
  · have : x = c := by simpa using q
    rw [this]
    exact b
theorem cs_p15 {m : Nat} (P : jP m) (a b c : Int) {A : cS} {Q : Int → cS → Prop} {E : cS → Prop} (s : jS A) (h7 : j7 A ≤ 2608 + 6 * yv A 11) (hk : ¬ yget A 14 (yv A 10) = 0) (hf : jFl 1 A (m + 1)) (hE : jEE A E) (hq : ∀ r A', jX A A' (-1 + jdl A') 0 0 → jU A A' jO → jN A A' r (jH 1 A) → ¬ yget A' 7 r = 83 → Q r A') : wcG_P (m + 1) 15 a b c A Q E := by
  have sd := s.d
  have sb := s.b
  have hH : 1 ≤ jH 1 A := jH1
  -- the words, and out
  have T : ∀ (m2 : Nat) (A1 : cS) (n : Nat) (x2 : Int) (i : Int) (l : List jC) (D : Int) (a' : Int), jD A A1 n l 35 D 0 a' (-1 - 58 * x2 + i) 1 → a' ≤ -1 + jdl A1 → (∀ x ∈ l, x.1 + 1 ≤ jH 1 A) → 0 ≤ i → i ≤ x2 → 1 ≤ x2 → x2 ≤ 2000 → x2 - i < m2 → wc_Parser_table_75 (wcG_P m) Q E m2 A1 n x2 i := by
    intro m2
    induction m2 with
    | zero => intro A1 n x2 i l D a' _ _ _ h1 h2 h3 h4 h5; omega
    | succ m2 ih =>
      intro A1 n x2 i l D a' D1 ha hl h1 h2 h3 h4 h5
      have n1 := D1.x.n
      have d1 := D1.x.d
      unfold wc_Parser_table_75 wc_Parser_table_75B
      refine ⟨fun _ => ?_, fun _ => ?_⟩
      · obtain ⟨f5, x5⟩ := cs_dep D1.s (yv A1 11 - 1) (by omega)
        have D5 := D1.sm x5 f5 rfl
        exact ⟨⟨by omega, by omega⟩, hq _ _ (D5.x.le (by rw [jdl_f f5 rfl rfl]; omega) (by omega) (by omega)) D5.u (D5.N (fun x hx => by rw [jkap_1 (by decide)]; exact hl x hx) (by rw [jkap_1 (by decide)]; exact hH) (jShp.o (by decide) (by decide) (by decide))) (by rw [D5.c.2.1]; decide)⟩
      · refine cs_word D1.s (by omega) _ (fun r A2 f2 x2' _ => ⟨⟨by omega, by omega⟩, ?_⟩)
        exact ih A2 n x2 (i + 1) l D a' ((D1.sm x2' f2 rfl).le (by omega) (by omega) (by omega)) (by rw [jdl_f f2 rfl rfl]; exact ha) hl (by omega) (by omega) h3 h4 (by omega)
  have T0 : ∀ (A1 : cS) (n : Nat) (x2 : Int) (l : List jC) (D : Int) (a' : Int), jD A A1 n l 35 D 0 a' (-60 * x2) 1 → a' ≤ -1 + jdl A1 → (∀ x ∈ l, x.1 + 1 ≤ jH 1 A) → 1 ≤ x2 → x2 ≤ 2000 → ∃ k, wc_Parser_table_75 (wcG_P m) Q E k (yset A1 9 n ((yz A1 2 : Nat) : Int)) n x2 0 := fun A1 n x2 l D a' D1 ha hl h1 h2 => by
    obtain ⟨f3, D3⟩ := D1.cell (j := 9) (Or.inr (Or.inl rfl)) ((yz A1 2 : Nat) : Int)
    rw [if_neg (by decide), if_pos rfl, if_neg (by decide)] at D3
    exact ⟨x2.toNat + 1, T _ _ n x2 0 l _ a' (D3.le (by omega) (by omega) (by omega)) (by rw [jdl_f f3 rfl rfl]; exact ha) hl (by omega) (by omega) h1 h2 (by omega)⟩
  have L : ∀ (m2 : Nat) (A1 : cS) (n : Nat) (x2 : Int) (l : List jC) (D a' : Int), jD A A1 n l 35 D 0 a' (-60 - 60 * x2) 1 → a' ≤ -1 → (∀ x ∈ l, x.1 + 1 ≤ jH 1 A) → yv A 11 < 60 → 0 ≤ x2 → x2 ≤ yv A1 10 → jt A1 < m2 → wc_Parser_table_15 (wcG_P m) Q E m2 A1 n x2 x2 := by
    intro m2
    induction m2 with
    | zero => intro A1 n x2 l D a' D1 _ _ _ _ _ h; have := D1.s.a; unfold jt at h; omega
    | succ m2 ih =>
      intro A1 n x2 l D a' D1 ha hl hd h1 h2 h3
      have n1 := D1.x.n
      have d1 := D1.x.d
      have sa := D1.s.a
      have e3 := D1.s.e.2.2.1
      unfold wc_Parser_table_15 wc_Parser_table_15B wc_Program_words wc_Tree_setData wc_Parser_kind
      refine ⟨fun q => by omega, fun _ => ?_⟩
      refine D1.sub (P.ex 0 0 0 D1.s (by omega) (by unfold jFl at hf ⊢; omega) (hE.tr D1.x.f)) (fun A2 c c1 D2 F2 a2 d2 => ?_)
      have hl2 : ∀ x ∈ l ++ [c], x.1 + 1 ≤ jH 1 A := jAllk hl (by
        have := jH_up (c := 6) (A := A) (A1 := A1) (by omega) (by omega) (by omega)
        have : jH 6 A = jH 1 A + 5 := jH_c 1 5 A
        omega)
      have n2 := D2.x.n
      have sa2 := D2.s.a
      have e32 := D2.s.e.2.2.1
      refine ⟨fun c9 => cs_adv D2.s (by omega) (fun A3 f3 x3 e3' => ⟨⟨by omega, by omega⟩, ⟨by omega, by omega⟩, ?_⟩), fun _ => ⟨⟨by omega, by omega⟩, ?_⟩⟩
      · have j0 := jdl_0 (A := A2) (by omega) (by omega)
        have D3 := D2.sm x3 f3 rfl
        refine ih A3 n (x2 + 1) _ D a' (D3.le (by omega) (by omega) (by omega)) ha hl2 hd (by omega) (by omega) ?_
        have t1 := jt_f F2
        have t2 := jt_f x3.f
        omega
      · exact T0 A2 n (x2 + 1) _ D (a' + jdl A2) (D2.le (by omega) (by omega) (by omega)) (by omega) hl2 (by omega) (by omega)
  show wc_Parser_table (wcG_P m) A Q E
  unfold wc_Parser_table
  refine cs_enter s hE (fun d1 A1 f1 x1 => cs_leaf x1.s (by have := x1.n.2.1; omega) (by rw [f1.v 10 rfl, f1.g 14 _ rfl]; exact hk) _ (fun A2 f2 x2 e2 w2 => ?_))
  have D2 := (jD.new x2 w2).bs x1 (jU.sm f1 rfl) (f1.z 7 rfl)
  have z1 : yz A1 7 = yz A 7 := f1.z 7 rfl
  exact ⟨(jt A2).toNat + 1, L _ A2 (yz A1 7) 0 [] _ (-1) (D2.le (by omega) (by omega) (by omega)) (by decide) (fun c hc => absurd hc List.not_mem_nil) d1 (by omega) (D2.s.a).1 (by omega)⟩
