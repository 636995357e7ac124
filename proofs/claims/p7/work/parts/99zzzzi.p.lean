/-! THE CLASS'S PARSER: COMMANDS -/
theorem jD.kid2 {A0 A A1 : cS} {n : Nat} {l : List jC} {K D X a b d a' b' d' r : Int} {h : Nat} (D0 : jD A0 A n l K D X a b d) (x : jX A A1 a' b' d') (u : jU A A1 jO) (nn : jN A A1 r h) {Q : cS → Prop} (hq : ∀ A2 c, c.1 = h → (c.2.1 : Int) = r → ySm A1 A2 [11, 12, 13] [] → yz A2 7 = yz A1 7 → (∀ j i : Nat, 7 ≤ j → j ≤ 13 → yz A 7 ≤ i → i < yz A1 7 → yget A2 j i = yget A1 j i) → jD A0 A2 n (l ++ [c]) K D X (a + a') (b + b') (d + d') → Q A2) : wc_Tree_hang A1 n r Q := by
  obtain ⟨h1, h2, h3, h4, h5, h6, h7, h8⟩ := D0
  obtain ⟨k, w, rfl, i, e13, t, b0⟩ := nn
  have zz := x.n.2.2.2.2.1
  have nS := h3.2.2.1 n h3.2.1
  have s0 := h1.n.2.2.2.2.1
  have o1 := u.o h3 zz
  have e : ∀ j, 7 ≤ j → j ≤ 13 → yget A1 j n = yget A j n := fun j a c => u j n a c nS.2 (fun q => q)
  refine cs_hg x.s o1 t e13 (fun i hi q => by have := hi.1; have := q.2; omega) (fun i hi => ⟨by have := hi.1; omega, hi.2⟩) (fun A2 f x2 z u2 e2 o2 => ?_)
  have nk : ¬ (jI (yz A0 7) (yz A 7)) k := fun q => by have := q.2; have := i.1; omega
  refine hq A2 (h, k, w, jI (yz A 7) (yz A1 7)) rfl rfl f z (fun j i2 p1 p2 p3 p4 => u2 j i2 p1 p2 p4 (fun q => by have := q.2; omega)) ⟨?_, ?_, ?_, by rw [e2, e 13 (by decide) (by decide)]; exact h4, ?_, ?_, ?_, ?_⟩
  · exact ((h1.tr x).tr x2).le (by omega) (by omega) (by omega)
  · refine (h2.tr u s0 (fun _ _ q => q)).tr (S1 := jI (yz A0 7) (yz A 7)) (fun j i2 a c g q => u2 j i2 a c g q) (Nat.le_trans s0 zz) (fun i2 g q => ?_)
    have := q.1
    omega
  · refine o2.Sle (fun i2 q => ?_) (fun i2 q => ⟨by have := q.1; have := h1.n.2.2.2.2.2; omega, by have := q.2; omega⟩)
    rw [z]
    rcases q with q | q
    · exact ⟨q.1, by have := q.2; omega⟩
    · exact ⟨by have := q.1; omega, q.2⟩
  · rw [f.g 7 n rfl, e 7 (by decide) (by decide)]; exact h5
  · rw [f.g 9 n rfl, e 9 (by decide) (by decide)]; exact h6
  · rw [f.g 10 n rfl, e 10 (by decide) (by decide)]; exact h7
  · rw [jW_ap, z]
    show jW l + (w + 0) + yz A0 7 + 1 ≤ yz A1 7
    omega
theorem jX.i {A A' : cS} {a b d a2 : Int} (h : jX A A' a b d) (q : j7 A' ≤ j7 A + a2) : jX A A' a2 b d := ⟨h.1, h.2.1, h.2.2.1, q, h.2.2.2.2⟩
theorem jD.i {A0 A : cS} {n : Nat} {l : List jC} {K D X a b d a2 : Int} (h : jD A0 A n l K D X a b d) (q : j7 A ≤ j7 A0 + a2) : jD A0 A n l K D X a2 b d := ⟨h.1.i q, h.2⟩
theorem jN.fst {A A' : cS} {r : Int} {h : Nat} (n : jN A A' r h) : yget A' 11 r = 0 ∨ ∃ k : Nat, yget A' 11 r = k ∧ jI (yz A 7) (yz A' 7) k := by
  obtain ⟨k, w, rfl, i, e13, t, b⟩ := n
  obtain ⟨l, x, ⟨a1, a2, a3, a4, a5, a6, a7⟩, b2⟩ := t.un
  cases l with
  | nil => exact Or.inl a5
  | cons c l =>
    have q := a6 c (Or.inl (List.mem_cons_self ..))
    exact Or.inr ⟨c.2.1, a5.1, (q.2 _ (b2 c (Or.inl (List.mem_cons_self ..))).n1.2.1).1⟩
theorem cs_p11 {m : Nat} (P : jP m) (a b c : Int) {A : cS} {E : cS → Prop} (s : jS A) (h7 : j7 A ≤ 2603 + 6 * yv A 11) (hf : jFl 5 A (m + 1)) (hE : jEE A E) : jSp (fun Q => wcG_P (m + 1) 11 a b c A Q E) (jH 8 A) A := fun Q hq => by
  have sd := s.d
  have hH : jH 8 A = jH 6 A + 2 := jH_c 6 2 A
  have R : ∀ (m2 : Nat) (A1 : cS) (n M : Nat) (l : List jC) (x3 : Nat) (a1 : Int), jD A A1 n l 90 0 0 a1 0 0 → (∀ c ∈ l, c.1 ≤ jH 6 A) → l.length = M + x3 → x3 ≤ M → 1 ≤ M → M ≤ 2000 → (x3 = 0 ∧ a1 ≤ -1 ∨ a1 ≤ -1 + jdl A1 ∧ 1 ≤ x3) → (M : Int) - x3 < m2 → wc_Parser_assignment_124 (wcG_P m) Q E m2 A1 n M x3 := by
    intro m2
    induction m2 with
    | zero => intro A1 n M l x3 a1 _ _ _ _ _ _ _ h; omega
    | succ m2 ih =>
      intro A1 n M l x3 a1 D1 hl hlen h1 h2 h3 hx h4
      have n1 := D1.x.n
      have j1 := jdl_01 A1
      unfold wc_Parser_assignment_124
      unfold wc_Parser_assignment_124B
      unfold wc_Tree_setData
      refine ⟨fun q => ?_, fun q => ⟨fun q2 => ?_, fun q2 => ?_⟩⟩
      · obtain ⟨f2, D2⟩ := D1.cell (j := 9) (Or.inr (Or.inl rfl)) (M : Int)
        rw [if_neg (by decide), if_pos rfl, if_neg (by decide)] at D2
        exact hq _ _ (D2.x.le (by rw [jdl_f f2 rfl rfl]; omega) (by omega) (by omega)) D2.u (D2.N (fun c hc => by rw [show jkap 90 = 2 from by decide]; have := hl c hc; omega) (by rw [show jkap 90 = 2 from by decide]; omega) ⟨fun q => absurd q (by decide), fun _ => rfl, fun _ => ⟨M, rfl, by omega⟩, fun q => absurd q (by decide)⟩)
      · refine D1.sub (P.ex 0 0 0 D1.s (by omega) (by unfold jFl at hf ⊢; omega) (hE.tr D1.x.f)) (fun A2 c c1 D2 F2 a2 d2 => ⟨⟨by omega, by omega⟩, ?_⟩)
        have e : (x3 : Int) + 1 = ((x3 + 1 : Nat) : Int) := by omega
        rw [e]
        exact ih A2 n M _ (x3 + 1) _ D2 (jAll1 hl (by rw [c1, jH_eq (by omega : yv A1 11 = yv A 11)]; exact Nat.le_refl _)) (by rw [List.length_append]; show _ + 1 = _; omega) (by omega) h2 h3 (Or.inr ⟨by omega, by omega⟩) (by omega)
      · refine cs_due D1.s 9 (by decide) (hE.tr D1.x.f) (fun k2 A2 f2 x2 e2 => ?_)
        have j0 := jdl_0 (A := A1) (by omega) (by omega)
        have D2 := D1.sm x2 f2 rfl
        have n2 := D2.x.n
        refine D2.sub (P.ex 0 0 0 D2.s (by omega) (by unfold jFl at hf ⊢; omega) (hE.tr D2.x.f)) (fun A3 c c1 D3 F3 a3 d3 => ⟨⟨by omega, by omega⟩, ?_⟩)
        have e : (x3 : Int) + 1 = ((x3 + 1 : Nat) : Int) := by omega
        rw [e]
        have j3 := jdl_01 A3
        exact ih A3 n M _ (x3 + 1) _ (D3.le (Int.le_refl _) (by omega) (by omega)) (jAll1 hl (by rw [c1, jH_eq (by omega : yv A2 11 = yv A 11)]; exact Nat.le_refl _)) (by rw [List.length_append]; show _ + 1 = _; omega) (by omega) h2 h3 (Or.inr ⟨by omega, by omega⟩) (by omega)
  have GO : ∀ (A1 : cS) (n M : Nat) (l : List jC) (a1 : Int), jD A A1 n l 90 0 0 a1 0 0 → (∀ c ∈ l, c.1 ≤ jH 6 A) → l.length = M → 1 ≤ M → M ≤ 2000 → a1 ≤ 1 + jdl A1 → wc_Parser_due A1 11 (fun A4 => ∃ n2, wc_Parser_assignment_124 (wcG_P m) Q E n2 A4 n M 0) E := fun A1 n M l a1 D1 hl hlen h1 h2 h3 => by
    refine cs_due D1.s 11 (by decide) (hE.tr D1.x.f) (fun k2 A2 f2 x2 e2 => ⟨M + 1, ?_⟩)
    have j0 := jdl_0 (A := A1) (by omega) (by omega)
    have n1 := D1.x.n
    exact R (M + 1) A2 n M l 0 (-1) ((D1.sm x2 f2 rfl).le (by omega) (by omega) (by omega)) hl hlen (Nat.zero_le _) h1 h2 (Or.inl ⟨rfl, Int.le_refl _⟩) (by omega)
  have L : ∀ (m2 : Nat) (A1 : cS) (n M : Nat) (l : List jC) (x3 a1 : Int), jD A A1 n l 90 0 0 a1 0 0 → (∀ c ∈ l, c.1 ≤ jH 6 A) → l.length = M → 1 ≤ M → (M : Int) ≤ yv A1 10 + 1 → a1 ≤ 1 + jdl A1 → 0 ≤ x3 → x3 ≤ yv A1 10 → jt A1 < m2 → wc_Parser_assignment_76 (wcG_P m) Q E m2 A1 n M x3 := by
    intro m2
    induction m2 with
    | zero => intro A1 n M l x3 a1 D1 _ _ _ _ _ _ _ h; have := D1.s.a; unfold jt at h; omega
    | succ m2 ih =>
      intro A1 n M l x3 a1 D1 hl hlen h1 h2 ha h3 h4 h5
      have n1 := D1.x.n
      have sa := D1.s.a
      have e3 := D1.s.e.2.2.1
      unfold wc_Parser_assignment_76
      unfold wc_Parser_assignment_76B
      unfold wc_Parser_kind
      refine ⟨fun q => by omega, fun _ => ⟨fun _ => GO A1 n M l a1 D1 hl hlen h1 (by omega) ha, fun k9 => cs_adv D1.s (by omega) (fun A2 f2 x2 e2 => ?_)⟩⟩
      have j0 := jdl_0 (A := A1) (by omega) (by omega)
      have D2 := D1.sm x2 f2 rfl
      have n2 := D2.x.n
      refine D2.sub (P.ex 0 0 0 D2.s (by omega) (by unfold jFl at hf ⊢; omega) (hE.tr D2.x.f)) (fun A3 c c1 D3 F3 a3 d3 => ⟨⟨by omega, by omega⟩, ⟨by omega, by omega⟩, ?_⟩)
      have e : (M : Int) + 1 = ((M + 1 : Nat) : Int) := by omega
      rw [e]
      refine ih A3 n (M + 1) _ (x3 + 1) _ (D3.le (Int.le_refl _) (by omega) (by omega)) (jAll1 hl (by rw [c1, jH_eq (by omega : yv A2 11 = yv A 11)]; exact Nat.le_refl _)) (by rw [List.length_append]; show _ + 1 = _; omega) (by omega) (by omega) (by omega) (by omega) (by omega) ?_
      have t2 := jt_f x2.f
      have t3 := jt_f F3
      omega
  show wc_Parser_assignment (wcG_P m) A Q E
  unfold wc_Parser_assignment wc_Parser_place wc_Parser_kind
  refine cs_node s (by omega) _ _ _ (fun A1 f1 x1 w1 => ?_)
  have D1 := jD.new x1 w1
  have n1 := x1.n
  refine P.p12 0 0 0 x1.s (by omega) (by unfold jFl at hf ⊢; omega) (hE.tr x1.f) (fun r A2 x2 u2 n2 h83 => D1.kid2 x2 u2 n2 (fun A3 c c1 cr f3 z3 e3 D3 => ?_))
  have ej : jdl A3 = jdl A2 := jdl_f f3 rfl rfl
  have na2 := x2.n
  have e10 : yv A3 10 = yv A2 10 := f3.v 10 rfl
  have j3 := jdl_01 A3
  have sa3 := D3.s.a
  have hl3 : ∀ q ∈ ([] : List jC) ++ [c], q.1 ≤ jH 6 A := jAll1 (fun q hq => absurd hq List.not_mem_nil) (by rw [c1, jH_eq (by omega : yv A1 11 = yv A 11)]; exact Nat.le_refl _)
  have GO1 : ∃ k, wc_Parser_assignment_76 (wcG_P m) Q E k A3 (yz A 7 : Nat) 1 0 := ⟨(jt A3).toNat + 1, L _ A3 (yz A 7) 1 _ 0 (1 + jdl A2) (D3.le (Int.le_refl _) (by omega) (by omega)) hl3 rfl (Nat.le_refl _) (by omega) (by omega) (by decide) (by omega) (by omega)⟩
  refine ⟨fun _ => GO1, fun _ => ⟨fun _ => GO1, fun _ => ?_⟩⟩
  have G91 : yget A2 7 (yget A2 11 r) = 83 → wc_Tree_setKind A3 (yz A 7 : Nat) 91 (fun A81 => Q (yz A 7 : Nat) A81) := fun q => by
    have h := h83 q
    obtain ⟨f4, D4⟩ := (D3.i (a2 := jdl A3) (by
      have := D3.x.n
      have e73 : j7 A3 = j7 A2 := by unfold j7; rw [z3, f3.z 22 rfl, jt_f (ySm.rf.tr f3 rfl rfl : jF A2 A3)]; omega
      omega)).cell (j := 7) (Or.inl rfl) 91
    rw [if_pos rfl, if_neg (by decide), if_neg (by decide)] at D4
    unfold wc_Tree_setKind
    exact hq _ _ (D4.x.le (by rw [jdl_f f4 rfl rfl]; omega) (by omega) (by omega)) D4.u (D4.N (fun c hc => by rw [show jkap 91 = 2 from by decide]; have := hl3 c hc; omega) (by rw [show jkap 91 = 2 from by decide]; omega) (jShp.o (by decide) (by decide) (by decide)))
  have e11 : yget A3 11 (yz A 7 : Nat) = r := by rw [D3.fst]; exact cr
  unfold wc_Tree_first wc_Parser_isCall wc_Tree_first wc_Tree_kind wc_Tree_next
  rw [e11]
  have hr : ∃ k : Nat, r = k ∧ jI (yz A1 7) (yz A2 7) k := by
    obtain ⟨k, w, q1, q2, -⟩ := n2
    exact ⟨k, q1, q2⟩
  obtain ⟨rk, rfl, ri⟩ := hr
  have er : yget A3 11 (rk : Nat) = yget A2 11 (rk : Nat) := e3 11 rk (by decide) (by decide) ri.1 ri.2
  have e83 : yget A3 7 (yget A3 11 (rk : Nat)) = 83 → yget A2 7 (yget A2 11 (rk : Nat)) = 83 := fun q => by
    rw [er] at q
    rcases n2.fst with q0 | ⟨k, q0, q1⟩
    · rw [q0, D3.s.z 7 (by decide) (by decide)] at q
      exact absurd q (by decide)
    · rw [q0] at q ⊢
      rw [← e3 7 k (by decide) (by decide) q1.1 q1.2]
      exact q
  refine ⟨fun _ => ⟨fun _ => GO1, fun q => absurd rfl q⟩, fun k83 => ⟨fun _ => ⟨fun _ => GO1, fun q => absurd rfl q⟩, fun _ => ⟨fun q => absurd q (by decide), fun _ => G91 (e83 k83)⟩⟩⟩
