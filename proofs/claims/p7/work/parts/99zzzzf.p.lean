/-! THE CLASS'S PARSER: CALLS -/
/-- a part within a whole expression within a node of calls -/
theorem cs_callsNodes {B A : cS} {r : Int} {h : Nat} {a b d : Int} (x : jX B A a b d) (u : jU B A jO) (nn : jN B A r h) (h7 : j7 A ≤ 2980) {Q : Int → cS → Prop} (hq : ∀ A' (n : Nat) c, c.1 = h + 1 → jD B A' n [c] 83 0 0 (a + 2) b d → jF A A' → yv A' 10 = yv A 10 → yv A' 11 = yv A 11 → yget A' 14 (yv A' 10) = yget A 14 (yv A 10) → Q n A') : wc_Tree_place A r (fun r1 A2 => wc_Tree_node A2 83 r1 0 (fun r9 A10 => wc_Tree_place A10 r (fun r17 A18 => wc_Tree_node A18 80 r17 0 (fun r25 A26 => wc_Tree_hang A26 r25 r (fun A34 => wc_Tree_hang A34 r9 r25 (fun A42 => Q r9 A42)))))) := by
  unfold wc_Tree_place
  obtain ⟨k, w, rfl, i, e13, t, b0⟩ := nn
  have zz := x.n.2.2.2.2.1
  have s1 := x.n.2.2.2.2.2
  refine cs_node x.s (by omega) _ _ _ (fun A1 f1 x1 w1 => cs_node x1.s (by have := x1.n.2.1; omega) _ _ _ (fun A2 f2 x2 w2 => ?_))
  have z1 := w1.2.1
  have z2 := w2.2.1
  have o9 := w2.1.o w1.2.2.1 (by omega)
  have o25 := w2.2.2.1
  have t2 : jT A2 h k w (jI (yz B 7) (yz A 7)) := w2.1.t (w1.1.t t (fun i hi => hi.2)) (fun i hi => by have := hi.2; omega)
  have k13 : yget A2 13 k = 0 := by rw [w2.1 13 k (by decide) (by decide) (by have := i.2; omega) (fun q => q), w1.1 13 k (by decide) (by decide) i.2 (fun q => q)]; exact e13
  refine cs_hg x2.s o25 t2 k13 (fun i hi q => by have := hi.2; have := q.1; omega) (fun i hi => ⟨by have := hi.1; omega, by have := hi.2; omega⟩) (fun A3 f3 x3 z3 u3 e3 o3 => ?_)
  have o9' : jOp A3 (yz A 7) (jI (yz A 7) (yz A 7 + 1)) [] := o9.fr (by omega) (fun i hi => by
    have hi2 := hi.2
    have ni : ¬ jI (yz A1 7) (yz A1 7 + 1) i := fun q => by have := q.1; omega
    have e : ∀ j, 7 ≤ j → j ≤ 13 → yget A3 j i = yget A2 j i := fun j p q => u3 j i p q (by omega) ni
    exact ⟨⟨e 7 (by decide) (by decide), e 9 (by decide) (by decide), e 10 (by decide) (by decide), e 11 (by decide) (by decide)⟩, e 12 (by decide) (by decide), e 13 (by decide) (by decide)⟩)
  have g80 : yget A3 7 (yz A1 7 : Nat) = 80 := by rw [f3.g 7 _ rfl]; exact w2.2.2.2.2.1
  have t3 := o3.cl (x := []) (h := h + 1) (by rw [g80]; exact Nat.le_add_left _ _) (fun c hc => by
    rw [g80]
    rcases hc with hc | hc
    · have : c = (h, k, w, jI (yz B 7) (yz A 7)) := by simpa using hc
      rw [this]
      exact Nat.le_refl _
    · exact absurd hc List.not_mem_nil) (fun c hc => absurd hc List.not_mem_nil) (by rw [g80]; exact jShp.o (by decide) (by decide) (by decide))
  have k3 : yget A3 13 (yz A1 7 : Nat) = 0 := by rw [e3]; exact w2.2.2.2.1
  refine cs_hg x3.s o9' t3 k3 (fun i hi q => ?_) (fun i hi => ?_) (fun A4 f4 x4 z4 u4 e4 o4 => ?_)
  · have q1 := q.1
    have q2 := q.2
    rcases hi with hi | hi
    · have := hi.1
      omega
    · have := hi.2
      omega
  · rcases hi with hi | hi
    · exact ⟨by have := hi.1; omega, by have := hi.2; omega⟩
    · exact ⟨by have := hi.1; omega, by have := hi.2; omega⟩
  have cell : ∀ j : Nat, (j = 7 ∨ j = 9 ∨ j = 10 ∨ j = 13) → yget A4 j (yz A 7 : Nat) = yget A1 j (yz A 7 : Nat) := fun j hj => by
    have c3 : yget A3 j (yz A 7 : Nat) = yget A2 j (yz A 7 : Nat) := u3 j (yz A 7) (by omega) (by omega) (by omega) (fun q => by have := q.1; omega)
    have c2 : yget A2 j (yz A 7 : Nat) = yget A1 j (yz A 7 : Nat) := w2.1 j (yz A 7) (by omega) (by omega) (by omega) (fun q => q)
    rcases hj with rfl | rfl | rfl | rfl
    · rw [f4.g 7 _ rfl, c3, c2]
    · rw [f4.g 9 _ rfl, c3, c2]
    · rw [f4.g 10 _ rfl, c3, c2]
    · rw [e4, c3, c2]
  have xx := (((x.tr x1).tr x2).tr x3).tr x4
  refine hq A4 (yz A 7) (h + 1, yz A1 7, _, _) rfl ⟨xx.le (by omega) (by omega) (by omega), ?_, o4.Sle (fun i2 q => ?_) (fun i2 q => ⟨by have := q.1; omega, q.2⟩), by rw [cell 13 (by omega)]; exact w1.2.2.2.1, by rw [cell 7 (by omega)]; exact w1.2.2.2.2.1, by rw [cell 9 (by omega)]; exact w1.2.2.2.2.2.1, by rw [cell 10 (by omega)]; exact w1.2.2.2.2.2.2, ?_⟩ (((x1.f.tr x2.f rfl rfl).tr x3.f rfl rfl).tr x4.f rfl rfl) (by rw [f4.v 10 rfl, f3.v 10 rfl, f2.v 10 rfl, f1.v 10 rfl]) (by rw [f4.v 11 rfl, f3.v 11 rfl, f2.v 11 rfl, f1.v 11 rfl]) (by rw [f4.v 10 rfl, f3.v 10 rfl, f2.v 10 rfl, f1.v 10 rfl, f4.g 14 _ rfl, f3.g 14 _ rfl, f2.g 14 _ rfl, f1.g 14 _ rfl])
  · refine ((((u.tr w1.1 zz (fun _ _ q => q)).tr w2.1 (by omega) (fun _ _ q => q))).tr (S := jO) (S1 := jI (yz A1 7) (yz A1 7 + 1)) (fun j i2 p1 p2 g q => u3 j i2 p1 p2 g q) (by omega) (fun i2 g q => ?_)).tr (S1 := jI (yz A 7) (yz A 7 + 1)) (fun j i2 p1 p2 g q => u4 j i2 p1 p2 g q) (by omega) (fun i2 g q => ?_)
    · have := q.1
      omega
    · have := q.1
      omega
  · rw [z4, z3, z2, z1]
    rcases q with q | q | q
    · exact ⟨by have := q.1; omega, by have := q.2; omega⟩
    · exact ⟨by have := q.1; omega, by have := q.2; omega⟩
    · exact ⟨q.1, by have := q.2; omega⟩
  · show (1 + (w + 0) + 0) + 0 + yz B 7 + 1 ≤ yz A4 7
    omega
theorem cs_p16 {m : Nat} (P : jP m) (r b c : Int) {B A : cS} {Q : Int → cS → Prop} {E : cS → Prop} {a' b' d' : Int} {h : Nat} (x : jX B A a' b' d') (u : jU B A jO) (nn : jN B A r h) (hh : jH 1 A ≤ h) (h7 : j7 B + a' ≤ 2608 + 6 * yv A 11) (hk : yget A 14 (yv A 10) = 7) (hf : jFl 1 A (m + 1)) (hE : jEE A E) (hq : ∀ r A' d, jX B A' (a' - 1) b' d → d' ≤ d → jU B A' jO → jN B A' r (h + 2) → jF A A' → Q r A') : wcG_P (m + 1) 16 r b c A Q E := by
  have sd := x.s.d
  have L : ∀ (m2 : Nat) (A1 : cS) (n : Nat) (l : List jC) (x4 a1 d1 : Int), jD B A1 n l 83 0 0 a1 b' d1 → d' ≤ d1 → jF A A1 → (∀ c ∈ l, c.1 + 1 ≤ h + 2) → (x4 = 0 ∧ yget A1 14 (yv A1 10) = 7 ∧ a1 ≤ a' + 2 ∨ 1 ≤ x4 ∧ a1 ≤ a' - 1) → j7 B + a1 ≤ 2610 + 6 * yv A1 11 → yv A 11 ≤ yv A1 11 → 0 ≤ x4 → x4 ≤ yv A1 10 → jt A1 < m2 → wc_Parser_calls_59 (wcG_P m) Q E m2 A1 n x4 := by
    intro m2
    induction m2 with
    | zero => intro A1 n l x4 a1 d1 D1 _ _ _ _ _ _ _ _ h; have := D1.s.a; unfold jt at h; omega
    | succ m2 ih =>
      intro A1 n l x4 a1 d1 D1 hd F1 hl hx h71 hdd h0 h1 h2
      have sa := D1.s.a
      have e3 := D1.s.e.2.2.1
      have n1 := D1.x.n
      have sd1 := D1.s.d
      unfold wc_Parser_calls_59 wc_Parser_calls_59B wc_Parser_kind
      refine ⟨fun q => by omega, fun _ => ⟨fun q => ?_, fun q => ?_⟩⟩
      · rcases hx with hx | hx
        · exact absurd hx.2.1 q
        · exact hq _ A1 d1 (D1.x.le (by omega) (by omega) rfl) hd D1.u (D1.N (fun c hc => by rw [jkap_1 (by decide)]; exact hl c hc) (by rw [jkap_1 (by decide)]; omega) (jShp.o (by decide) (by decide) (by decide))) F1
      · refine cs_enter D1.s (hE.tr F1) (fun dd A2 f2 x2 => cs_leaf x2.s (by have := x2.n.2.1; omega) (by rw [f2.v 10 rfl, f2.g 14 _ rfl]; omega) _ (fun A3 f3 x3 e3' w3 => ?_))
        have F2 := F1.tr x2.f rfl rfl
        have D2 := D1.sm x2 f2 rfl
        have n2 := x2.n
        have e10 : yv A2 10 = yv A1 10 := f2.v 10 rfl
        -- its arguments
        have I : ∀ (m3 : Nat) (A4 : cS) (l2 : List jC) (D x6 x7 x8 a2 b2 : Int), jD A2 A4 (yz A2 7) l2 84 D 0 a2 b2 0 → b2 ≤ 0 → (∀ c ∈ l2, c.1 + 1 ≤ jH 1 A) → (¬ x7 = 0 → a2 ≤ -1) → a2 ≤ -1 + jdl A4 → yv A2 10 + 1 ≤ yv A4 10 → 1 ≤ x8 → x8 ≤ 21 → 0 ≤ x6 → x6 ≤ x8 → 21 - x8 < m3 → wc_Parser_calls_109 (wcG_P m) Q E (wc_Parser_calls_59 (wcG_P m) Q E m2) m3 A4 n x4 (yz A2 7 : Nat) x6 x7 x8 := by
          intro m3
          induction m3 with
          | zero => intro A4 l2 D x6 x7 x8 a2 b2 _ _ _ _ _ _ h1 h2 _ _ h3; omega
          | succ m3 ih3 =>
            intro A4 l2 D x6 x7 x8 a2 b2 D4 hb2 hl2 hx7 ha2 ht g1 g2 g3 g4 g5
            have n4 := D4.x.n
            have F4 := F2.tr D4.x.f rfl rfl
            have sd4 := D4.s.d
            have fin : wc_Parser_due A4 8 (fun A4 => wc_Tree_setData A4 (yz A2 7 : Nat) x6 (fun A12 => wc_Tree_hang A12 n (yz A2 7 : Nat) (fun A20 => (zR (x4 + 1)) ∧ wc_Parser_calls_59 (wcG_P m) Q E m2 A20 n (x4 + 1)))) E := by
              refine cs_due D4.s 8 (by decide) (hE.tr F4) (fun k4 A5 f5 x5 e5 => ?_)
              have j0 := jdl_0 (A := A4) (by rw [k4]; decide) (by rw [k4]; decide)
              obtain ⟨f6, D6⟩ := (D4.sm x5 f5 rfl).cell (j := 9) (Or.inr (Or.inl rfl)) x6
              rw [if_neg (by decide), if_pos rfl, if_neg (by decide)] at D6
              unfold wc_Tree_setData
              have n6 := D6.x.n
              have e60 : yv (yset A5 9 (yz A2 7 : Nat) x6) 10 = yv A5 10 := f6.v 10 rfl
              have N6 := D6.N (hh := jH 1 A + 1) (fun c hc => by rw [jkap_1 (by decide)]; exact Nat.le_succ_of_le (hl2 c hc)) (by rw [jkap_1 (by decide)]; exact Nat.le_add_left _ _) (jShp.o (by decide) (by decide) (by decide))
              refine D2.kid D6.x D6.u N6 (fun A7 cc c1 _ f7 _ _ D7 => ⟨⟨by omega, by omega⟩, ?_⟩)
              have e17 : yv A7 10 = yv (yset A5 9 (yz A2 7 : Nat) x6) 10 := f7.v 10 rfl
              have e18 : yv A7 11 = yv (yset A5 9 (yz A2 7 : Nat) x6) 11 := f7.v 11 rfl
              have F7 : jF A1 A7 := ((x2.f.tr D6.x.f rfl rfl).tr f7 rfl rfl)
              refine ih A7 n (l ++ [cc]) (x4 + 1) (a1 + 0 + -3) (d1 + 1) (D7.le (by omega) (by omega) (by omega)) (by omega) (F1.tr F7 rfl rfl) (jAllk hl (by omega)) (Or.inr ⟨by omega, by omega⟩) (by omega) (by omega) (by omega) (by omega) ?_
              have := jt_f F7
              omega
            unfold wc_Parser_calls_109 wc_Parser_calls_109B wc_Parser_kind
            refine ⟨fun _ => fin, fun c20 => ⟨fun _ => fin, fun c7 => ?_⟩⟩
            have ha7 := hx7 c7
            refine D4.sub (P.ex 0 0 0 D4.s (by omega) (by unfold jFl at hf ⊢; omega) (hE.tr F4)) (fun A5 cc c1 D5 F5 a5 d5 => ?_)
            have n5 := D5.x.n
            have hl5 : ∀ x ∈ l2 ++ [cc], x.1 + 1 ≤ jH 1 A := jAllk hl2 (by
              unfold jH at c1 ⊢
              omega)
            refine ⟨fun _ => ⟨⟨by omega, by omega⟩, ⟨by omega, by omega⟩, ih3 A5 _ D (x6 + 1) 0 (x8 + 1) _ b2 D5 hb2 hl5 (fun q => absurd rfl q) (by omega) (by omega) (by omega) (by omega) (by omega) (by omega) (by omega)⟩, fun c9 => ⟨fun _ => ⟨⟨by omega, by omega⟩, ⟨by omega, by omega⟩, ih3 A5 _ D (x6 + 1) 0 (x8 + 1) _ b2 D5 hb2 hl5 (fun q => absurd rfl q) (by omega) (by omega) (by omega) (by omega) (by omega) (by omega) (by omega)⟩, fun _ => cs_adv D5.s (by omega) (fun A6 f6 x6' e6 => ⟨⟨by omega, by omega⟩, ⟨by omega, by omega⟩, ?_⟩)⟩⟩
            have j0 := jdl_0 (A := A5) (by omega) (by omega)
            have D6 := D5.sm x6' f6 rfl
            have := jdl_01 A6
            exact ih3 A6 _ D (x6 + 1) 1 (x8 + 1) (a2 + jdl A5 + -2) (b2 + -60) (D6.le (by omega) (by omega) (by omega)) (by omega) hl5 (fun _ => by omega) (by omega) (by omega) (by omega) (by omega) (by omega) (by omega) (by omega)
        have D3 := jD.new x3 w3
        have := jdl_01 A3
        exact ⟨fun _ => ⟨22, I 22 A3 [] _ 0 0 1 (-1) (-60) D3 (by decide) (fun c hc => absurd hc List.not_mem_nil) (fun q => absurd rfl q) (by omega) (by omega) (by decide) (by decide) (by decide) (by decide) (by decide)⟩, fun _ => ⟨22, I 22 A3 [] _ 0 1 1 (-1) (-60) D3 (by decide) (fun c hc => absurd hc List.not_mem_nil) (fun _ => by decide) (by omega) (by omega) (by decide) (by decide) (by decide) (by decide) (by decide)⟩⟩
  show wc_Parser_calls (wcG_P m) A r Q E
  unfold wc_Parser_calls
  refine cs_callsNodes x u nn (by have := x.n.2.1; omega) (fun A1 n c1 hc D1 F1 e10 e11 e14 => ?_)
  have n1 := D1.x.n
  have n0 := x.n
  refine ⟨(jt A1).toNat + 1, L _ A1 n [c1] 0 (a' + 2) d' D1 (Int.le_refl _) F1 (fun c hc => ?_) (Or.inl ⟨rfl, by rw [e14]; exact hk, Int.le_refl _⟩) ?_ (by omega) (by decide) (by have := D1.s.a; omega) (by omega)⟩
  · have : c = c1 := by simpa using hc
    rw [this]
    omega
  · omega
