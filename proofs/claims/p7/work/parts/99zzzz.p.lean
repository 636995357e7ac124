/-! THE CLASS'S PARSER: A PART WHOLE, A NODE UNDER WAY -/
theorem jS.gen {A A' : cS} {js ks : List Nat} (s : jS A) (f : ySm A A' js ks) (hj : ([7, 8, 9, 10, 11, 12, 13, 14, 15, 16, 17].all fun j => !js.contains j) = true) (a : 0 ≤ yv A' 10 ∧ yv A' 10 ≤ ((yz A 14 : Nat) : Int)) (d : 0 ≤ yv A' 11 ∧ yv A' 11 ≤ 60) (r : yz A' 4 = yz A' 3 ∧ yz A' 5 = yz A' 3 ∧ yz A' 6 = yz A' 3) (b : j2 A' ≤ 79900 ∧ j3 A' ≤ 1390 ∧ j21 A' ≤ 1390 ∧ j23 A' ≤ 1390) : jS A' := by
  have J : ∀ j, ([7, 8, 9, 10, 11, 12, 13, 14, 15, 16, 17] : List Nat).contains j = true → js.contains j = false := fun j h1 => by
    have := List.all_eq_true.mp hj j (by simpa using h1)
    simpa using this
  obtain ⟨⟨e1, e2, e3, e4, e5, e6⟩, s2, s3, s4, s5, s6, s7⟩ := s
  unfold jS sE
  rw [f.z 14 (J 14 rfl), f.z 15 (J 15 rfl), f.z 16 (J 16 rfl), f.z 7 (J 7 rfl), f.z 8 (J 8 rfl), f.z 9 (J 9 rfl), f.z 10 (J 10 rfl), f.z 11 (J 11 rfl), f.z 12 (J 12 rfl), f.z 13 (J 13 rfl)]
  refine ⟨⟨e1, e2, e3, e4.sm f (J 14 rfl), e5.sm f (J 16 rfl), e6.sm f (J 17 rfl)⟩, a, d, s4, r, b, fun j q1 q2 => ?_⟩
  have q : j = 7 ∨ j = 8 ∨ j = 9 ∨ j = 10 ∨ j = 11 ∨ j = 12 ∨ j = 13 := by omega
  rw [f.g j 0 (J j (by rcases q with rfl | rfl | rfl | rfl | rfl | rfl | rfl <;> rfl))]
  exact s7 j q1 q2
/-- what was made is a whole part -/
def jN (A A' : cS) (r : Int) (h : Nat) : Prop := ∃ k w : Nat, r = k ∧ jI (yz A 7) (yz A' 7) k ∧ yget A' 13 k = 0 ∧ jT A' h k w (jI (yz A 7) (yz A' 7)) ∧ w + yz A 7 ≤ yz A' 7
/-- tokens behind which nothing may have stood -/
def jdl (A : cS) : Int := if yget A 14 (yv A 10) = 6 ∨ yget A 14 (yv A 10) = 10 then 1 else 0
theorem jdl_01 (A : cS) : 0 ≤ jdl A ∧ jdl A ≤ 1 := by
  unfold jdl
  split <;> omega
theorem jdl_0 {A : cS} (h : ¬ yget A 14 (yv A 10) = 6) (h2 : ¬ yget A 14 (yv A 10) = 10) : jdl A = 0 := if_neg (fun q => q.elim h h2)
theorem jdl_1 {A : cS} (h : yget A 14 (yv A 10) = 6 ∨ yget A 14 (yv A 10) = 10) : jdl A = 1 := if_pos h
/-- within so many calls, by the depth -/
def jH (c : Nat) (A : cS) : Nat := c + 10 * (60 - yv A 11).toNat
theorem jN.u {A A1 A' : cS} {r : Int} {h : Nat} (n : jN A A1 r h) (u : jU A1 A' jO) (z : yz A' 7 = yz A1 7) (s : 1 ≤ yz A 7) : jN A A' r h := by
  obtain ⟨k, w, e, i, e13, t, b⟩ := n
  refine ⟨k, w, e, by rw [z]; exact i, by rw [u 13 k (by decide) (by decide) i.2 (fun q => q)]; exact e13, ?_, by rw [z]; exact b⟩
  rw [z]
  exact u.t t (fun i hi => hi.2)
theorem jN.h {A A1 : cS} {r : Int} {h h' : Nat} (n : jN A A1 r h) (q : h ≤ h') : jN A A1 r h' := by
  obtain ⟨k, w, e, i, e13, t, b⟩ := n
  exact ⟨k, w, e, i, e13, t.hle q, b⟩
/-- a node under way, since A0 -/
def jD (A0 A : cS) (n : Nat) (l : List jC) (K D X a b d : Int) : Prop := jX A0 A a b d ∧ jU A0 A jO ∧ jOp A n (jI (yz A0 7) (yz A 7)) l ∧ yget A 13 n = 0 ∧ yget A 7 n = K ∧ yget A 9 n = D ∧ yget A 10 n = X ∧ jW l + yz A0 7 + 1 ≤ yz A 7
theorem jD.x {A0 A : cS} {n : Nat} {l : List jC} {K D X a b d : Int} (h : jD A0 A n l K D X a b d) : jX A0 A a b d := h.1
theorem jD.u {A0 A : cS} {n : Nat} {l : List jC} {K D X a b d : Int} (h : jD A0 A n l K D X a b d) : jU A0 A jO := h.2.1
theorem jD.o {A0 A : cS} {n : Nat} {l : List jC} {K D X a b d : Int} (h : jD A0 A n l K D X a b d) : jOp A n (jI (yz A0 7) (yz A 7)) l := h.2.2.1
theorem jD.c {A0 A : cS} {n : Nat} {l : List jC} {K D X a b d : Int} (h : jD A0 A n l K D X a b d) : yget A 13 n = 0 ∧ yget A 7 n = K ∧ yget A 9 n = D ∧ yget A 10 n = X ∧ jW l + yz A0 7 + 1 ≤ yz A 7 := h.2.2.2
theorem jD.le {A0 A : cS} {n : Nat} {l : List jC} {K D X a b d a' b' d' : Int} (h : jD A0 A n l K D X a b d) (e1 : a ≤ a') (e2 : b ≤ b') (e3 : d = d') : jD A0 A n l K D X a' b' d' := ⟨h.1.le e1 e2 e3, h.2⟩
/-- begun by a new node, or by one of the token at hand -/
theorem jD.new {A A' : cS} {k d a b e : Int} (x : jX A A' a b e) (w : jNw A A' k d) : jD A A' (yz A 7) [] k d 0 a b e := by
  obtain ⟨a1, a2, a3, a4, a5, a6, a7⟩ := w
  exact ⟨x, a1, by rw [a2]; exact a3, a4, a5, a6, a7, by rw [a2]; show 0 + yz A 7 + 1 ≤ _; omega⟩
/-- other cells change -/
theorem jD.st {A0 A A' : cS} {n : Nat} {l : List jC} {K D X a b d a' b' d' : Int} (h : jD A0 A n l K D X a b d) (x : jX A A' a' b' d') (u : jU A A' jO) (z : yz A' 7 = yz A 7) : jD A0 A' n l K D X (a + a') (b + b') (d + d') := by
  obtain ⟨h1, h2, h3, h4, h5, h6, h7, h8⟩ := h
  have nS := (h3.2.2.1 n h3.2.1).2
  have e : ∀ j, 7 ≤ j → j ≤ 13 → yget A' j n = yget A j n := fun j a c => u j n a c nS (fun q => q)
  refine ⟨h1.tr x, h2.tr u h1.n.2.2.2.2.1 (fun _ _ q => q), ?_, by rw [e 13 (by decide) (by decide)]; exact h4, by rw [e 7 (by decide) (by decide)]; exact h5, by rw [e 9 (by decide) (by decide)]; exact h6, by rw [e 10 (by decide) (by decide)]; exact h7, by rw [z]; exact h8⟩
  rw [z]
  exact u.o h3 (by rw [z]; exact Nat.le_refl _)
theorem jD.sm {A0 A A' : cS} {n : Nat} {l : List jC} {K D X a b d a' b' d' : Int} {js ks : List Nat} (h : jD A0 A n l K D X a b d) (x : jX A A' a' b' d') (f : ySm A A' js ks) (hj : ([7, 8, 9, 10, 11, 12, 13].all fun j => !js.contains j) = true) : jD A0 A' n l K D X (a + a') (b + b') (d + d') := h.st x (jU.sm f hj) (f.z 7 (by
  have := List.all_eq_true.mp hj 7 (by decide)
  simpa using this))
/-- one more part -/
theorem jD.kid {A0 A A1 : cS} {n : Nat} {l : List jC} {K D X a b d a' b' d' r : Int} {h : Nat} (D0 : jD A0 A n l K D X a b d) (x : jX A A1 a' b' d') (u : jU A A1 jO) (nn : jN A A1 r h) {Q : cS → Prop} (hq : ∀ A2 c, c.1 = h → (c.2.1 : Int) = r → ySm A1 A2 [11, 12, 13] [] → yz A2 7 = yz A1 7 → (yget A2 7 r = yget A1 7 r) → jD A0 A2 n (l ++ [c]) K D X (a + a') (b + b') (d + d') → Q A2) : wc_Tree_hang A1 n r Q := by
  obtain ⟨h1, h2, h3, h4, h5, h6, h7, h8⟩ := D0
  obtain ⟨k, w, rfl, i, e13, t, b0⟩ := nn
  have zz := x.n.2.2.2.2.1
  have nS := h3.2.2.1 n h3.2.1
  have s0 := h1.n.2.2.2.2.1
  have o1 := u.o h3 zz
  have e : ∀ j, 7 ≤ j → j ≤ 13 → yget A1 j n = yget A j n := fun j a c => u j n a c nS.2 (fun q => q)
  refine cs_hg x.s o1 t e13 (fun i hi q => by have := hi.1; have := q.2; omega) (fun i hi => ⟨by have := hi.1; omega, hi.2⟩) (fun A2 f x2 z u2 e2 o2 => ?_)
  have nk : ¬ (jI (yz A0 7) (yz A 7)) k := fun q => by have := q.2; have := i.1; omega
  refine hq A2 (h, k, w, jI (yz A 7) (yz A1 7)) rfl rfl f z (u2 7 k (by decide) (by decide) i.2 nk) ⟨?_, ?_, ?_, by rw [e2, e 13 (by decide) (by decide)]; exact h4, ?_, ?_, ?_, ?_⟩
  · exact ((h1.tr x).tr x2).le (by omega) (by omega) (by omega)
  · refine (h2.tr u s0 (fun _ _ q => q)).tr (S1 := jI (yz A0 7) (yz A 7)) (fun j i2 a c g q => u2 j i2 a c g q) (Nat.le_trans s0 zz) (fun i2 g q => ?_)
    have := q.1
    omega
  · refine o2.Sle (fun i2 q => ?_) (fun i2 q => ⟨by have := q.1; have := h1.n.2.2.2.2.2; omega, by have := q.2; omega⟩)
    rw [z]
    rcases q with q | q
    · exact ⟨q.1, by have := q.2; omega⟩
    · exact ⟨by have := q.1; omega, q.2⟩
  · rw [f.g 7 n rfl, e 7 (by decide) (by decide)]; exact h5
  · rw [f.g 9 n rfl, e 9 (by decide) (by decide)]; exact h6
  · rw [f.g 10 n rfl, e 10 (by decide) (by decide)]; exact h7
  · rw [jW_ap, z]
    show jW l + (w + 0) + yz A0 7 + 1 ≤ yz A1 7
    omega
/-- a cell of its own -/
theorem jD.cell {A0 A : cS} {n : Nat} {l : List jC} {K D X a b d : Int} (h : jD A0 A n l K D X a b d) {j : Nat} (hj : j = 7 ∨ j = 9 ∨ j = 10) (x : Int) : ySm A (yset A j n x) [j] [] ∧ jD A0 (yset A j n x) n l (if j = 7 then x else K) (if j = 9 then x else D) (if j = 10 then x else X) a b d := by
  obtain ⟨h1, h2, h3, h4, h5, h6, h7, h8⟩ := h
  obtain ⟨f, x1, z, u, o, g⟩ := cs_cell h1.s h3 hj x
  have nA := h3.2.1
  refine ⟨f, (h1.tr x1).le (by omega) (by omega) (by omega), h2.tr u h1.n.2.2.2.2.1 (fun i hi q => ?_), by rw [z]; exact o, ?_, ?_, ?_, ?_, by rw [z]; exact h8⟩
  · have := nA.1
    omega
  · rw [g, if_neg (by omega)]; exact h4
  · rw [g]
    rcases hj with rfl | rfl | rfl
    · rw [if_pos rfl, if_pos rfl]
    · rw [if_neg (by decide), if_neg (by decide)]; exact h5
    · rw [if_neg (by decide), if_neg (by decide)]; exact h5
  · rw [g]
    rcases hj with rfl | rfl | rfl
    · rw [if_neg (by decide), if_neg (by decide)]; exact h6
    · rw [if_pos rfl, if_pos rfl]
    · rw [if_neg (by decide), if_neg (by decide)]; exact h6
  · rw [g]
    rcases hj with rfl | rfl | rfl
    · rw [if_neg (by decide), if_neg (by decide)]; exact h7
    · rw [if_neg (by decide), if_neg (by decide)]; exact h7
    · rw [if_pos rfl, if_pos rfl]
/-- whole -/
theorem jD.N {A0 A : cS} {n : Nat} {l : List jC} {K D X a b d : Int} (h : jD A0 A n l K D X a b d) {hh : Nat} (hk : ∀ c ∈ l, c.1 + jkap K ≤ hh) (hk0 : jkap K ≤ hh) (sh : jShp K D X l []) : jN A0 A (n : Nat) hh := by
  obtain ⟨h1, h2, h3, h4, h5, h6, h7, h8⟩ := h
  refine ⟨n, 1 + jW l + jW [], rfl, h3.2.1, h4, h3.cl (x := []) (by rw [h5]; exact hk0) (fun c hc => ?_) (fun c hc => absurd hc List.not_mem_nil) (by rw [h5, h6, h7]; exact sh), by show 1 + jW l + 0 + yz A0 7 ≤ _; omega⟩
  rw [h5]
  rcases hc with hc | hc
  · exact hk c hc
  · exact absurd hc List.not_mem_nil
/-- shapes of other kinds -/
theorem jShp.o {K D : Int} {l : List jC} {X : Int} (h1 : ¬ K = 41) (h2 : ¬ K = 90) (h3 : ¬ K = 97) (h4 : ¬ K = 38 := by first | decide | omega) : jShp K D X l [] := ⟨fun q => absurd q h1, fun _ => rfl, fun q => q.elim (fun q => absurd q h2) (fun q => absurd q h3), fun q => absurd q h4⟩
theorem jkap_1 {k : Int} (h : ¬ ((36 ≤ k ∧ k ≤ 42) ∨ k = 49 ∨ (90 ≤ k ∧ k ≤ 93))) : jkap k = 1 := if_neg h
/-- a leaf -/
theorem jNw.N {A A' : cS} {k d a b e : Int} (x : jX A A' a b e) (w : jNw A A' k d) {h : Nat} (hk : jkap k ≤ h) (h1 : ¬ k = 41) (h2 : ¬ k = 90) (h3 : ¬ k = 97) (h4 : ¬ k = 38 := by first | decide | omega) : jN A A' (yz A 7 : Nat) h := (jD.new x w).N (fun c hc => absurd hc List.not_mem_nil) hk (jShp.o h1 h2 h3 h4)
/-- a new node around a whole part -/
theorem cs_wrap {A0 A : cS} {r : Int} {h : Nat} {a b d : Int} (x : jX A0 A a b d) (u : jU A0 A jO) (nn : jN A0 A r h) (h7 : j7 A ≤ 2990) (K p D : Int) {Q : Int → cS → Prop} (hq : ∀ A1, ySm A A1 [7, 8, 9, 10, 11, 12, 13] [] → yget A1 7 r = yget A 7 r → (∀ {Q2 : cS → Prop}, (∀ A2 c, c.1 = h → (c.2.1 : Int) = r → ySm A1 A2 [11, 12, 13] [] → yget A2 7 r = yget A1 7 r → jD A0 A2 (yz A 7) [c] K D 0 (a + 1) b d → Q2 A2) → wc_Tree_hang A1 (yz A 7 : Nat) r Q2) → (∀ A2, ySm A1 A2 [] [10, 11] → (∀ {a2 b2 d2 : Int}, jX A1 A2 a2 b2 d2 → ∀ {Q2 : cS → Prop}, (∀ A3 c, c.1 = h → (c.2.1 : Int) = r → ySm A2 A3 [11, 12, 13] [] → yget A3 7 r = yget A1 7 r → jD A0 A3 (yz A 7) [c] K D 0 (a + 1 + a2) (b + b2) (d + d2) → Q2 A3) → wc_Tree_hang A2 (yz A 7 : Nat) r Q2)) → jX A0 A1 (a + 1) b d → Q (yz A 7 : Nat) A1) : wc_Tree_node A K p D Q := by
  obtain ⟨k, w, rfl, i, e13, t, b0⟩ := nn
  have zz := x.n.2.2.2.2.1
  refine cs_node x.s h7 K p D (fun A1 f1 x1 w1 => ?_)
  have ek : yget A1 7 k = yget A 7 k := w1.1 7 k (by decide) (by decide) i.2 (fun q => q)
  have gen : ∀ A2, ySm A1 A2 [] [10, 11] → ∀ {a2 b2 d2 : Int}, jX A1 A2 a2 b2 d2 → ∀ {Q2 : cS → Prop}, (∀ A3 c, c.1 = h → (c.2.1 : Int) = (k : Int) → ySm A2 A3 [11, 12, 13] [] → yget A3 7 k = yget A1 7 k → jD A0 A3 (yz A 7) [c] K D 0 (a + 1 + a2) (b + b2) (d + d2) → Q2 A3) → wc_Tree_hang A2 (yz A 7 : Nat) k Q2 := fun A2 f2 a2 b2 d2 x2 Q2 hq2 => by
    obtain ⟨a1, z1, o1, g13, g7, g9, g10⟩ := w1
    have u2 : jU A1 A2 jO := jU.sm f2 rfl
    have z2 : yz A2 7 = yz A 7 + 1 := by rw [f2.z 7 rfl]; exact z1
    have o2 := u2.o o1 (by rw [f2.z 7 rfl]; exact Nat.le_refl _)
    have t2 : jT A2 h k w (jI (yz A0 7) (yz A 7)) := u2.t (a1.t t (fun i hi => hi.2)) (fun i hi => by have := hi.2; omega)
    have k13 : yget A2 13 k = 0 := by rw [f2.g 13 k rfl, a1 13 k (by decide) (by decide) i.2 (fun q => q)]; exact e13
    have s0 := x.s.n.1
    have nk : ¬ (jI (yz A 7) (yz A 7 + 1)) k := fun q => by have := q.1; have := i.2; omega
    refine cs_hg x2.s o2 t2 k13 (fun i hi q => by have := hi.2; have := q.1; omega) (fun i2 hi => ⟨by have := hi.1; have := x.n.2.2.2.2.2; omega, by have := hi.2; omega⟩) (fun A3 f3 x3 z3 u3 e3 o3 => ?_)
    · refine hq2 A3 (h, k, w, jI (yz A0 7) (yz A 7)) rfl rfl f3 (by rw [u3 7 k (by decide) (by decide) (by rw [z2]; have := i.2; omega) nk, f2.g 7 k rfl]) ⟨?_, ?_, ?_, by rw [e3, f2.g 13 _ rfl]; exact g13, by rw [f3.g 7 _ rfl, f2.g 7 _ rfl]; exact g7, by rw [f3.g 9 _ rfl, f2.g 9 _ rfl]; exact g9, by rw [f3.g 10 _ rfl, f2.g 10 _ rfl]; exact g10, ?_⟩
      · exact (((x.tr x1).tr x2).tr x3).le (by omega) (by omega) (by omega)
      · refine ((u.tr a1 zz (fun _ _ q => q)).tr u2 (by omega) (fun _ _ q => q)).tr (S1 := jI (yz A 7) (yz A 7 + 1)) (fun j i2 p1 p2 g q => u3 j i2 p1 p2 g q) (by omega) (fun i2 g q => ?_)
        have := q.1
        omega
      · refine o3.Sle (fun i2 q => ?_) (fun i2 q => ⟨?_, by have := q.2; omega⟩)
        · rw [z3, z2]
          rcases q with q | q
          · exact ⟨by have := q.1; omega, q.2⟩
          · exact ⟨q.1, by have := q.2; omega⟩
        · have := q.1
          have := x.n.2.2.2.2.2
          omega
      · show (w + 0) + yz A0 7 + 1 ≤ yz A3 7
        omega
  refine hq A1 f1 ek (fun {Q2} hq2 => gen A1 ySm.rf (jX.rf x1.s) (fun A3 c c1 c2 f3 e3 dd => hq2 A3 c c1 c2 f3 e3 (dd.le (by omega) (by omega) (by omega)))) gen ((x.tr x1).le (by omega) (by omega) (by omega))
