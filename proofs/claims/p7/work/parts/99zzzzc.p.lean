/-! THE CLASS'S PARSER: A NODE UNDER WAY, WITH ANOTHER THAT WAITS -/
def jPd (p : Nat) (A0 A : cS) (l : List jC) : Prop := p = 0 ∧ jW l + yz A0 7 + 1 ≤ yz A 7 ∨ jI (yz A0 7) (yz A 7) p ∧ yget A 13 p = 0 ∧ jT A 1 p 1 (fun i => i = p) ∧ jW l + 1 + yz A0 7 + 1 ≤ yz A 7
def jDh (p : Nat) (A0 A : cS) (n : Nat) (l : List jC) (K D X a b d : Int) : Prop := jX A0 A a b d ∧ jU A0 A jO ∧ jOp A n (fun i => jI (yz A0 7) (yz A 7) i ∧ ¬ i = p) l ∧ yget A 13 n = 0 ∧ yget A 7 n = K ∧ yget A 9 n = D ∧ yget A 10 n = X ∧ jPd p A0 A l
theorem jDh.x {p : Nat} {A0 A : cS} {n : Nat} {l : List jC} {K D X a b d : Int} (h : jDh p A0 A n l K D X a b d) : jX A0 A a b d := h.1
theorem jDh.s {p : Nat} {A0 A : cS} {n : Nat} {l : List jC} {K D X a b d : Int} (h : jDh p A0 A n l K D X a b d) : jS A := h.1.s
theorem jDh.le {p : Nat} {A0 A : cS} {n : Nat} {l : List jC} {K D X a b d a' b' d' : Int} (h : jDh p A0 A n l K D X a b d) (e1 : a ≤ a') (e2 : b ≤ b') (e3 : d = d') : jDh p A0 A n l K D X a' b' d' := ⟨h.1.le e1 e2 e3, h.2⟩
theorem jDh.of {A0 A : cS} {n : Nat} {l : List jC} {K D X a b d : Int} (h : jD A0 A n l K D X a b d) : jDh 0 A0 A n l K D X a b d := by
  obtain ⟨h1, h2, h3, h4, h5, h6, h7, h8⟩ := h
  have q := h1.n.2.2.2.2.2
  exact ⟨h1, h2, h3.Sle (fun i hi => ⟨hi, by have := hi.1; omega⟩) (fun i hi => h3.2.2.1 i hi.1), h4, h5, h6, h7, Or.inl ⟨rfl, h8⟩⟩
theorem jDh.to {A0 A : cS} {n : Nat} {l : List jC} {K D X a b d : Int} (h : jDh 0 A0 A n l K D X a b d) : jD A0 A n l K D X a b d := by
  obtain ⟨h1, h2, h3, h4, h5, h6, h7, h8⟩ := h
  have q := h1.n.2.2.2.2.2
  refine ⟨h1, h2, h3.Sle (fun i hi => hi.1) (fun i hi => ⟨by have := hi.1; omega, hi.2⟩), h4, h5, h6, h7, ?_⟩
  rcases h8 with h8 | h8
  · exact h8.2
  · have := h8.1.1
    omega
theorem jPd.u {p : Nat} {A0 A A' : cS} {l : List jC} (h : jPd p A0 A l) (u : jU A A' jO) (z : yz A 7 ≤ yz A' 7) : jPd p A0 A' l := by
  rcases h with ⟨h1, h2⟩ | ⟨h1, h2, h3, h4⟩
  · exact Or.inl ⟨h1, by omega⟩
  · exact Or.inr ⟨⟨h1.1, by have := h1.2; omega⟩, by rw [u 13 p (by decide) (by decide) h1.2 (fun q => q)]; exact h2, u.t h3 (fun i hi => by have := h1.2; omega), by omega⟩
theorem jDh.st {p : Nat} {A0 A A' : cS} {n : Nat} {l : List jC} {K D X a b d a' b' d' : Int} (h : jDh p A0 A n l K D X a b d) (x : jX A A' a' b' d') (u : jU A A' jO) (z : yz A' 7 = yz A 7) : jDh p A0 A' n l K D X (a + a') (b + b') (d + d') := by
  obtain ⟨h1, h2, h3, h4, h5, h6, h7, h8⟩ := h
  have nS := (h3.2.2.1 n h3.2.1).2
  have e : ∀ j, 7 ≤ j → j ≤ 13 → yget A' j n = yget A j n := fun j a c => u j n a c nS (fun q => q)
  refine ⟨h1.tr x, h2.tr u h1.n.2.2.2.2.1 (fun _ _ q => q), ?_, by rw [e 13 (by decide) (by decide)]; exact h4, by rw [e 7 (by decide) (by decide)]; exact h5, by rw [e 9 (by decide) (by decide)]; exact h6, by rw [e 10 (by decide) (by decide)]; exact h7, h8.u u (by rw [z]; exact Nat.le_refl _)⟩
  rw [z]
  exact u.o h3 (by rw [z]; exact Nat.le_refl _)
theorem jDh.sm {p : Nat} {A0 A A' : cS} {n : Nat} {l : List jC} {K D X a b d a' b' d' : Int} {js ks : List Nat} (h : jDh p A0 A n l K D X a b d) (x : jX A A' a' b' d') (f : ySm A A' js ks) (hj : ([7, 8, 9, 10, 11, 12, 13].all fun j => !js.contains j) = true) : jDh p A0 A' n l K D X (a + a') (b + b') (d + d') := h.st x (jU.sm f hj) (f.z 7 (by
  have := List.all_eq_true.mp hj 7 (by decide)
  simpa using this))
theorem jPd.p {p : Nat} {A0 A : cS} {l : List jC} (h : jPd p A0 A l) : p < yz A 7 ∨ p = 0 := by
  rcases h with ⟨h1, h2⟩ | ⟨h1, h2, h3, h4⟩
  · exact Or.inr h1
  · exact Or.inl h1.2
theorem jDh.kid {p : Nat} {A0 A A1 : cS} {n : Nat} {l : List jC} {K D X a b d a' b' d' r : Int} {h : Nat} (D0 : jDh p A0 A n l K D X a b d) (x : jX A A1 a' b' d') (u : jU A A1 jO) (nn : jN A A1 r h) {Q : cS → Prop} (hq : ∀ A2 c, c.1 = h → (c.2.1 : Int) = r → ySm A1 A2 [11, 12, 13] [] → yz A2 7 = yz A1 7 → (yget A2 7 r = yget A1 7 r) → jDh p A0 A2 n (l ++ [c]) K D X (a + a') (b + b') (d + d') → Q A2) : wc_Tree_hang A1 n r Q := by
  obtain ⟨h1, h2, h3, h4, h5, h6, h7, h8⟩ := D0
  obtain ⟨k, w, rfl, i, e13, t, b0⟩ := nn
  have zz := x.n.2.2.2.2.1
  have nS := h3.2.2.1 n h3.2.1
  have nI := h3.2.1
  have s0 := h1.n.2.2.2.2.1
  have s1 := h1.n.2.2.2.2.2
  have o1 := u.o h3 zz
  have hp := h8.p
  have h9 := h8.u u zz
  have e : ∀ j, 7 ≤ j → j ≤ 13 → yget A1 j n = yget A j n := fun j a c => u j n a c nS.2 (fun q => q)
  refine cs_hg x.s o1 t e13 (fun i hi q => by have := hi.1; have := q.1.2; omega) (fun i hi => ⟨by have := hi.1; omega, hi.2⟩) (fun A2 f x2 z u2 e2 o2 => ?_)
  have nk : ¬ (jI (yz A0 7) (yz A 7) k ∧ ¬ k = p) := fun q => by have := q.1.2; have := i.1; omega
  refine hq A2 (h, k, w, jI (yz A 7) (yz A1 7)) rfl rfl f z (u2 7 k (by decide) (by decide) i.2 nk) ⟨?_, ?_, ?_, by rw [e2, e 13 (by decide) (by decide)]; exact h4, ?_, ?_, ?_, ?_⟩
  · exact ((h1.tr x).tr x2).le (by omega) (by omega) (by omega)
  · refine (h2.tr u s0 (fun _ _ q => q)).tr (S1 := fun i => jI (yz A0 7) (yz A 7) i ∧ ¬ i = p) (fun j i2 a c g q => u2 j i2 a c g q) (Nat.le_trans s0 zz) (fun i2 g q => ?_)
    have := q.1.1
    omega
  · refine o2.Sle (fun i2 q => ?_) (fun i2 q => ⟨by have := q.1.1; omega, by have := q.1.2; omega⟩)
    rw [z]
    rcases q with q | q
    · exact ⟨⟨q.1.1, by have := q.1.2; omega⟩, q.2⟩
    · exact ⟨⟨by have := q.1; omega, q.2⟩, by have := q.1; omega⟩
  · rw [f.g 7 n rfl, e 7 (by decide) (by decide)]; exact h5
  · rw [f.g 9 n rfl, e 9 (by decide) (by decide)]; exact h6
  · rw [f.g 10 n rfl, e 10 (by decide) (by decide)]; exact h7
  · have w1 : jW (l ++ [(h, k, w, jI (yz A 7) (yz A1 7))]) = jW l + w := by rw [jW_ap]; rfl
    rcases h8 with ⟨g1, g2⟩ | ⟨g1, g2, g3, g4⟩
    · exact Or.inl ⟨g1, by rw [w1, z]; omega⟩
    · rcases h9 with ⟨k1, k2⟩ | ⟨k1, k2, k3, k4⟩
      · have := g1.1
        omega
      · have np : ¬ (jI (yz A0 7) (yz A 7) p ∧ ¬ p = p) := fun q => q.2 rfl
        have ep : ∀ j, 7 ≤ j → j ≤ 13 → yget A2 j p = yget A1 j p := fun j a c => u2 j p a c (by have := g1.2; omega) np
        refine Or.inr ⟨⟨g1.1, by rw [z]; exact k1.2⟩, by rw [ep 13 (by decide) (by decide)]; exact k2, k3.fr (fun i2 q => ?_) (fun i2 q c => absurd q c), by rw [w1, z]; omega⟩
        rw [q]
        exact ⟨ep 7 (by decide) (by decide), ep 9 (by decide) (by decide), ep 10 (by decide) (by decide), ep 11 (by decide) (by decide)⟩
/-- another node is made, and waits -/
theorem jDh.new {A0 A A' : cS} {n : Nat} {l : List jC} {K D X a b d a' b' d' k e : Int} (D0 : jDh 0 A0 A n l K D X a b d) (x : jX A A' a' b' d') (w : jNw A A' k e) (hk : jkap k ≤ 1) (h1 : ¬ k = 41) (h2 : ¬ k = 90) (h3 : ¬ k = 97) (h4 : ¬ k = 38 := by first | decide | omega) : jDh (yz A 7) A0 A' n l K D X (a + a') (b + b') (d + d') := by
  obtain ⟨k1, k2, k3, k4, k5, k6, k7, k8⟩ := D0
  obtain ⟨a1, a2, a3, a4, a5, a6, a7⟩ := w
  have nS := k3.2.2.1 n k3.2.1
  have s0 := k1.n.2.2.2.2.1
  have s1 := k1.n.2.2.2.2.2
  have e : ∀ j, 7 ≤ j → j ≤ 13 → yget A' j n = yget A j n := fun j a c => a1 j n a c nS.2 (fun q => q)
  have g8 : jW l + yz A0 7 + 1 ≤ yz A 7 := by
    rcases k8 with ⟨q1, q2⟩ | ⟨q1, q2, q3, q4⟩ <;> omega
  refine ⟨k1.tr x, k2.tr a1 s0 (fun _ _ q => q), ?_, by rw [e 13 (by decide) (by decide)]; exact k4, by rw [e 7 (by decide) (by decide)]; exact k5, by rw [e 9 (by decide) (by decide)]; exact k6, by rw [e 10 (by decide) (by decide)]; exact k7, Or.inr ⟨⟨s0, by omega⟩, a4, ?_, by omega⟩⟩
  · refine (a1.o k3 (by omega)).Sle (fun i hi => ⟨⟨hi.1.1, by have := hi.1.2; omega⟩, by have := hi.1.2; omega⟩) (fun i hi => ⟨by have := hi.1.1; omega, hi.1.2⟩)
  · have t := a3.cl (x := []) (h := 1) (by rw [a5]; exact hk) (fun c hc => by rcases hc with hc | hc <;> exact absurd hc List.not_mem_nil) (fun c hc => absurd hc List.not_mem_nil) (by rw [a5]; exact jShp.o h1 h2 h3 h4)
    exact t.Sle (fun i hi => by have := hi.1; have := hi.2; omega)
/-- .. and is hung -/
theorem jDh.pend {p : Nat} {A0 A : cS} {n : Nat} {l : List jC} {K D X a b d : Int} (hp : ¬ p = 0) (D0 : jDh p A0 A n l K D X a b d) {Q : cS → Prop} (hq : ∀ A2 c, c.1 = 1 → c.2.1 = p → ySm A A2 [11, 12, 13] [] → yz A2 7 = yz A 7 → jDh 0 A0 A2 n (l ++ [c]) K D X a b d → Q A2) : wc_Tree_hang A n p Q := by
  obtain ⟨h1, h2, h3, h4, h5, h6, h7, h8⟩ := D0
  have s1 := h1.n.2.2.2.2.2
  rcases h8 with h8 | ⟨g1, g2, g3, g4⟩
  · exact absurd h8.1 hp
  have nS := h3.2.1
  refine cs_hg h1.s h3 g3 g2 (fun i hi q => q.2 hi) (fun i hi => by rw [hi]; exact ⟨by omega, g1.2⟩) (fun A2 f x2 z u2 e2 o2 => ?_)
  refine hq A2 (1, p, 1, fun i => i = p) rfl rfl f z ⟨?_, ?_, ?_, by rw [e2]; exact h4, ?_, ?_, ?_, ?_⟩
  · exact (h1.tr x2).le (by omega) (by omega) (by omega)
  · refine h2.tr (S1 := fun i => jI (yz A0 7) (yz A 7) i ∧ ¬ i = p) (fun j i2 a c g q => u2 j i2 a c g q) h1.n.2.2.2.2.1 (fun i2 g q => ?_)
    have := q.1.1
    omega
  · refine o2.Sle (fun i2 q => ?_) (fun i2 q => ⟨by have := q.1.1; omega, q.1.2⟩)
    rw [z]
    rcases q with q | q
    · exact ⟨q.1, by have := q.1.1; omega⟩
    · rw [q]
      exact ⟨g1, hp⟩
  · rw [f.g 7 n rfl]; exact h5
  · rw [f.g 9 n rfl]; exact h6
  · rw [f.g 10 n rfl]; exact h7
  · have w1 : jW (l ++ [(1, p, 1, fun i => i = p)]) = jW l + 1 := by rw [jW_ap]; rfl
    exact Or.inl ⟨rfl, by rw [w1, z]; omega⟩
theorem cs_hangSignsh {p : Nat} {A0 A : cS} {n : Nat} {l : List jC} {K D X a b d : Int} (D0 : jDh p A0 A n l K D X a b d) (h7 : j7 A0 + a ≤ 2980) (base : Int) (hb : 0 ≤ base) {Q : cS → Prop} (hq : ∀ A' l2, (∀ c ∈ l2, c.1 ≤ 1) → jDh p A0 A' n (l ++ l2) K D X a b d → ySm A A' [7, 8, 9, 10, 11, 12, 13, 22] [] → jKk A A' → yz A 7 ≤ yz A' 7 → Q A') : wc_Parser_hangSigns A n base Q := by
  have z0 := j7_22 D0.s (by have := D0.x.n.2.1; omega)
  have L : ∀ (m : Nat) (A1 : cS) (x : Int) (l1 : List jC), ySm A A1 [7, 8, 9, 10, 11, 12, 13, 22] [] → jKk A A1 → yz A 7 ≤ yz A1 7 → jDh p A0 A1 n (l ++ l1) K D X a b d → (∀ c ∈ l1, c.1 ≤ 1) → 0 ≤ x → x + yz A1 22 ≤ 3000 → yz A1 22 < m → wc_Parser_hangSigns_2 Q m A1 n base x := by
    intro m
    induction m with
    | zero => intro A1 x l1 _ _ _ _ _ _ _ h; omega
    | succ m ih =>
      intro A1 x l1 F1 G1 Z1 D1 hl h0 h1 h2
      have b7 := D1.x.n.2.1
      unfold wc_Parser_hangSigns_2
      unfold wc_Parser_hangSigns_2B
      refine ⟨fun _ => hq A1 l1 hl D1 F1 G1 Z1, fun _ => ⟨fun _ => hq A1 l1 hl D1 F1 G1 Z1, fun c => ?_⟩⟩
      intro z7 _ _
      have f2 : ySm A1 (ypop (ypop A1 22) 22) [22] [] := (ySm.rf.pop rfl).pop rfl
      have z2 : yz (ypop (ypop A1 22) 22) 22 = yz A1 22 - 1 - 1 := rfl
      have P : ∀ (x4 x5 x6 y0 : Int), 85 ≤ y0 ∧ y0 ≤ 87 → wc_Parser_hangSigns_80 Q (wc_Parser_hangSigns_2 Q m) (ypop (ypop A1 22) 22) n base x x4 x5 x6 y0 := fun x4 x5 x6 y0 hy => by
        generalize ypop (ypop A1 22) 22 = A2 at f2 z2
        have x2 : jX A1 A2 (-1) 0 0 := jX.r22 D1.s f2 (by omega)
        have D2 := D1.sm x2 f2 rfl
        have G : ∀ dd, wc_Tree_node A2 y0 x5 dd (fun r3 A4 => wc_Tree_hang A4 n r3 (fun A12 => (zR (x + 1)) ∧ wc_Parser_hangSigns_2 Q m A12 n base (x + 1))) := fun dd => by
          refine cs_node D2.s (by have := D2.x.n.2.1; omega) _ _ _ (fun A3 f3 x3 w3 => ?_)
          refine D2.kid x3 w3.1 (w3.N x3 (h := 1) (by rw [jkap_1 (by omega)]; decide) (by omega) (by omega) (by omega)) (fun A4 cc c1 cn f4 zk _ D4 => ⟨⟨by omega, by omega⟩, ?_⟩)
          have D4' := D4.le (a' := a) (b' := b) (d' := d) (by omega) (by omega) (by omega)
          rw [List.append_assoc] at D4'
          have z4 : yz A4 22 = yz A2 22 := by rw [f4.z 22 rfl, f3.z 22 rfl]
          have zz3 := x3.n.2.2.2.2.1
          have z24 : yz A2 7 = yz A1 7 := f2.z 7 rfl
          have z34 : yz A4 7 = yz A3 7 := zk
          exact ih A4 _ _ (((F1.tr f2 rfl rfl).tr f3 rfl rfl).tr f4 rfl rfl) (((G1.tr (jKk.sm f2 rfl) Z1).tr (jKk.u w3.1) (by omega)).tr (jKk.sm f4 rfl) (by omega)) (by omega) D4' (jAll1 hl (by omega)) (by omega) (by omega) (by omega)
        unfold wc_Parser_hangSigns_80
        exact ⟨fun _ => G _, fun _ => G _⟩
      exact ⟨fun _ => ⟨fun _ => P _ _ _ _ (by decide), fun _ => P _ _ _ _ (by decide)⟩, fun _ => P _ _ _ _ (by decide)⟩
  unfold wc_Parser_hangSigns
  exact ⟨yz A 22 + 1, L _ A 0 [] ySm.rf jKk.rf (Nat.le_refl _) (by rw [List.append_nil]; exact D0) (fun c hc => absurd hc List.not_mem_nil) (by omega) (by omega) (by omega)⟩
