/-! THE CLASS'S PARSER: COUNTING -/
/-- a part that is kept by the further number, another that is hung -/
theorem cs_step {A A5 A6 A7 A9 A10 : cS} {n : Nat} {l : List jC} {D a5 b5 d5 a6 b6 d6 a9 b9 d9 a10 b10 d10 : Int} {r r2 : Int} {h h2 hh : Nat} (D5 : jD A A5 n l 41 D 0 a5 b5 d5) (x6 : jX A5 A6 a6 b6 d6) (u6 : jU A5 A6 jO) (n6 : jN A5 A6 r h) (e7 : A7 = yset A6 10 n r) (f9 : ySm A7 A9 [] [10, 11]) (x9 : jX A7 A9 a9 b9 d9) (x10 : jX A9 A10 a10 b10 d10) (u10 : jU A9 A10 jO) (n10 : jN A9 A10 r2 h2) (hl : ∀ c ∈ l, c.1 + 2 ≤ hh) (h1 : h + 2 ≤ hh) (h3 : h2 + 2 ≤ hh) {Q : cS → Prop} (hq : ∀ A11, ySm A10 A11 [11, 12, 13] [] → jX A A11 (a5 + a6 + a9 + a10) (b5 + b6 + b9 + b10) (d5 + d6 + d9 + d10) → (∀ A12, ySm A11 A12 [] [11] → jU A A12 jO ∧ jN A A12 n hh) → Q A11) : wc_Tree_hang A10 n r2 Q := by
  obtain ⟨k, w, rfl, ki, k13, t, b0⟩ := n6
  obtain ⟨k2, w2, rfl, ki2, k213, t2, b02⟩ := n10
  subst e7
  have z6 := x6.n.2.2.2.2.1
  have z10 := x10.n.2.2.2.2.1
  have nS := D5.o.2.2.1 n D5.o.2.1
  have nI := D5.o.2.1
  have s0 := D5.x.n.2.2.2.2.1
  have s1 := D5.x.n.2.2.2.2.2
  have o6 := u6.o D5.o z6
  obtain ⟨f7, x7, z7, u7, o7, g7⟩ := cs_cell x6.s o6 (j := 10) (Or.inr (Or.inr rfl)) (k : Int)
  have z9 : yz A9 7 = yz A6 7 := by rw [f9.z 7 rfl]; exact z7
  have u9 : jU (yset A6 10 (n : Nat) k) A9 jO := jU.sm f9 rfl
  have o10 := u10.o (u9.o o7 (by rw [f9.z 7 rfl]; exact Nat.le_refl _)) z10
  have t7 : jT (yset A6 10 (n : Nat) k) h k w (jI (yz A5 7) (yz A6 7)) := t.fr (fun i hi => by
    have q : ¬ i = n := by have := hi.1; omega
    have e : ∀ j, 7 ≤ j → j ≤ 13 → yget (yset A6 10 (n : Nat) k) j i = yget A6 j i := fun j p1 p2 => u7 j i p1 p2 hi.2 q
    exact ⟨e 7 (by decide) (by decide), e 9 (by decide) (by decide), e 10 (by decide) (by decide), e 11 (by decide) (by decide)⟩) (fun i hi _ => u7 13 i (by decide) (by decide) hi.2 (by have := hi.1; omega))
  have t10 : jT A10 h k w (jI (yz A5 7) (yz A6 7)) := u10.t (u9.t t7 (fun i hi => by have := hi.2; omega)) (fun i hi => by have := hi.2; omega)
  refine cs_hg x10.s o10 t2 k213 (fun i hi q => by have := hi.1; have := q.2; omega) (fun i hi => ⟨by have := hi.1; omega, hi.2⟩) (fun A11 f11 x11 z11 u11 e11 o11 => ?_)
  have t11 : jT A11 h k w (jI (yz A5 7) (yz A6 7)) := t10.fr (fun i hi => by
    have q : ¬ (jI (yz A 7) (yz A5 7)) i := fun q => by have := hi.1; have := q.2; omega
    have e : ∀ j, 7 ≤ j → j ≤ 13 → yget A11 j i = yget A10 j i := fun j p1 p2 => u11 j i p1 p2 (by have := hi.2; omega) q
    exact ⟨e 7 (by decide) (by decide), e 9 (by decide) (by decide), e 10 (by decide) (by decide), e 11 (by decide) (by decide)⟩) (fun i hi _ => u11 13 i (by decide) (by decide) (by have := hi.2; omega) (fun q => by have := hi.1; have := q.2; omega))
  refine hq A11 f11 ((((((D5.x.tr x6).tr x7).tr x9).tr x10).tr x11).le (by omega) (by omega) (by omega)) (fun A12 f12 => ?_)
  have u12 : jU A11 A12 jO := jU.sm f12 rfl
  have z12 : yz A12 7 = yz A10 7 := by rw [f12.z 7 rfl]; exact z11
  have ub : jU A A12 jO := by
    refine ((((((D5.u.tr u6 s0 (fun _ _ q => q)).tr (S1 := fun i => i = n) u7 (by omega) (fun i g q => ?_)).tr u9 (by omega) (fun _ _ q => q)).tr u10 (by omega) (fun _ _ q => q)).tr (S := jO) (S1 := jI (yz A 7) (yz A5 7)) (fun j i2 p1 p2 g q => u11 j i2 p1 p2 g q) (by omega) (fun i g q => ?_)).tr u12 (by omega) (fun _ _ q => q))
    · have := nI.1
      omega
    · have := q.1
      omega
  have c10 : ∀ j : Nat, 7 ≤ j → j ≤ 13 → yget A10 j n = if j = 10 then (k : Int) else yget A5 j n := fun j p1 p2 => by
    rw [u10 j n p1 p2 (by omega) (fun q => q), u9 j n p1 p2 (by rw [z7]; omega) (fun q => q), g7, u6 j n p1 p2 nS.2 (fun q => q)]
  have c12 : ∀ j : Nat, (j = 7 ∨ j = 9 ∨ j = 10 ∨ j = 13) → yget A12 j n = if j = 10 then (k : Int) else yget A5 j n := fun j hj => by
    rcases hj with rfl | rfl | rfl | rfl
    · rw [f12.g 7 _ rfl, f11.g 7 _ rfl]; exact c10 7 (by decide) (by decide)
    · rw [f12.g 9 _ rfl, f11.g 9 _ rfl]; exact c10 9 (by decide) (by decide)
    · rw [f12.g 10 _ rfl, f11.g 10 _ rfl]; exact c10 10 (by decide) (by decide)
    · rw [f12.g 13 _ rfl, e11]; exact c10 13 (by decide) (by decide)
  have e7 : yget A12 7 n = 41 := by rw [c12 7 (by decide), if_neg (by decide)]; exact D5.c.2.1
  have e10 : yget A12 10 n = (k : Int) := by rw [c12 10 (by decide), if_pos rfl]
  have o12 := (u12.o o11 (by omega)).Sle (S' := jI (yz A 7) (yz A12 7)) (fun i q => by
    rcases q with q | q
    · exact ⟨q.1, by have := q.2; omega⟩
    · exact ⟨by have := q.1; omega, by have := q.2; omega⟩) (fun i q => ⟨by have := q.1; omega, q.2⟩)
  have t12 : jT A12 h k w (jI (yz A5 7) (yz A6 7)) := u12.t t11 (fun i hi => by have := hi.2; omega)
  have T := o12.cl (x := [(h, k, w, jI (yz A5 7) (yz A6 7))]) (h := hh) (by rw [e7, jkap2 (by decide)]; omega) (fun c hc => ?_) (fun c hc => ?_) (by
    rw [e7, e10]
    exact ⟨fun _ => ⟨by simp, Or.inr ⟨_, rfl, rfl⟩⟩, fun q => absurd rfl q, fun q => absurd q (by decide), fun q => absurd q (by decide)⟩)
  · refine ⟨ub, n, _, rfl, ⟨nI.1, by omega⟩, by rw [c12 13 (by decide), if_neg (by decide)]; exact D5.c.1, T, ?_⟩
    have w5 := D5.c.2.2.2.2
    have e1 : jW (l ++ [(h2, k2, w2, jI (yz A9 7) (yz A10 7))]) = jW l + w2 := by rw [jW_ap]; rfl
    have e2 : jW [(h, k, w, jI (yz A5 7) (yz A6 7))] = w := rfl
    rw [e1, e2]
    omega
  · rw [e7, jkap2 (by decide)]
    rcases hc with hc | hc
    · rcases List.mem_append.mp hc with q | q
      · exact hl c q
      · have : c = (h2, k2, w2, jI (yz A9 7) (yz A10 7)) := by simpa using q
        rw [this]
        exact h3
    · have : c = (h, k, w, jI (yz A5 7) (yz A6 7)) := by simpa using hc
      rw [this]
      exact h1
  · have : c = (h, k, w, jI (yz A5 7) (yz A6 7)) := by simpa using hc
    subst this
    exact ⟨t12, fun i hi => ⟨⟨by have := hi.1; omega, by have := hi.2; omega⟩, by have := hi.1; omega⟩⟩
theorem cs_p9 {m : Nat} (P : jP m) (a b c : Int) {A : cS} {E : cS → Prop} (s : jS A) (h7 : j7 A ≤ 2603 + 6 * yv A 11) (hk : ¬ yget A 14 (yv A 10) = 0) (hf : jFl 5 A (m + 1)) (hE : jEE A E) : jSp (fun Q => wcG_P (m + 1) 9 a b c A Q E) (jH 8 A) A := fun Q hq => by
  have sd := s.d
  have hH : jH 8 A = jH 6 A + 2 := jH_c 6 2 A
  have hH2 : jH 10 A = jH 6 A + 4 := jH_c 6 4 A
  show wc_Parser_counting (wcG_P m) A Q E
  unfold wc_Parser_counting wc_Parser_kind
  refine cs_leaf s (by omega) hk _ (fun A1 f1 x1 e1 w1 => ?_)
  have D1 := jD.new x1 w1
  refine cs_nameDue D1.s (hE.tr D1.x.f) (fun r A2 f2 x2 e2 => ?_)
  obtain ⟨f3, D3⟩ := (D1.sm x2 f2 rfl).cell (j := 9) (Or.inr (Or.inl rfl)) r
  rw [if_neg (by decide), if_pos rfl, if_neg (by decide)] at D3
  unfold wc_Tree_setData
  generalize yset A2 9 (yz A 7 : Nat) r = A3 at f3 D3
  refine cs_due D3.s 20 (by decide) (hE.tr D3.x.f) (fun k3 A4 f4 x4 e4 => ?_)
  have D4 := D3.sm x4 f4 rfl
  have n4 := D4.x.n
  refine D4.sub (P.ex 0 0 0 D4.s (by omega) (by unfold jFl at hf ⊢; omega) (hE.tr D4.x.f)) (fun A5 c5 c51 D5 F5 a5 d5 => cs_due D5.s 64 (by decide) (hE.tr D5.x.f) (fun k5 A6 f6 x6 e6 => ?_))
  have j5 := jdl_0 (A := A5) (by omega) (by omega)
  have D6 := D5.sm x6 f6 rfl
  have n6 := D6.x.n
  refine D6.sub (P.ex 0 0 0 D6.s (by omega) (by unfold jFl at hf ⊢; omega) (hE.tr D6.x.f)) (fun A7 c7 c71 D7 F7 a7 d7 => ?_)
  have n7 := D7.x.n
  have hl7 : ∀ q ∈ ([] : List jC) ++ [c5] ++ [c7], q.1 + 2 ≤ jH 8 A := jAllk (jAllk (fun q hq => absurd hq List.not_mem_nil) (by rw [c51, jH_eq (by omega : yv A4 11 = yv A 11)]; omega)) (by rw [c71, jH_eq (by omega : yv A6 11 = yv A 11)]; omega)
  have sd7 := D7.s.d
  refine ⟨fun k7 => ?_, fun k7 => cs_adv D7.s (by omega) (fun A8 f8 x8 e8 => ?_)⟩
  · refine cs_passDo D7.s (hE.tr D7.x.f) (fun q6 q10 A8 f8 x8 => ?_)
    have j7' := jdl_0 q6 q10
    have D8 := D7.sm x8 f8 rfl
    have n8 := D8.x.n
    refine cs_enter D8.s (hE.tr D8.x.f) (fun dd A9 f9 x9 => ?_)
    have D9 := D8.sm x9 f9 rfl
    have n9 := D9.x.n
    refine D9.sub (P.p6 0 0 0 D9.s (by omega) (by unfold jFl at hf ⊢; omega) (hE.tr D9.x.f)) (fun A10 c10 c101 D10 F10 a10 d10 => ?_)
    have n10 := D10.x.n
    obtain ⟨f11, x11⟩ := cs_dep D10.s (yv A10 11 - 1) (by omega)
    have D11 := D10.sm x11 f11 rfl
    have g : jH 10 A9 + 10 = jH 10 A := jH_up (by omega) (by omega) (by omega)
    have j10 := jdl_01 A10
    exact ⟨⟨by omega, by omega⟩, hq _ _ (D11.x.le (by rw [jdl_f f11 rfl rfl]; omega) (by omega) (by omega)) D11.u (D11.N (fun q hx => by rw [jkap2 (by decide)]; exact jAllk hl7 (by omega) q hx) (by rw [jkap2 (by decide)]; omega) ⟨fun _ => ⟨by simp, Or.inl ⟨rfl, rfl⟩⟩, fun _ => rfl, fun q => absurd q (by decide), fun q => absurd q (by decide)⟩)⟩
  · have j7' := jdl_0 (A := A7) (by omega) (by omega)
    have D8 := D7.sm x8 f8 rfl
    have n8 := D8.x.n
    refine P.p12 0 0 0 D8.s (by omega) (by unfold jFl at hf ⊢; omega) (hE.tr D8.x.f) (fun r9 A9 x9 u9 n9 _ => ?_)
    unfold wc_Tree_setExtra
    have nn9 := (D8.x.tr x9).n
    have o9 := u9.o D8.o x9.n.2.2.2.2.1
    obtain ⟨f10, x10, -⟩ := cs_cell x9.s o9 (j := 10) (Or.inr (Or.inr rfl)) r9
    have F10 := (D8.x.f.tr x9.f rfl rfl).tr x10.f rfl rfl
    refine cs_passDo x10.s (hE.tr F10) (fun q6 q10 A11 f11 x11 => ?_)
    have j9 : jdl A9 = 0 := by
      have := jdl_0 q6 q10
      rw [jdl_f f10 rfl rfl] at this
      exact this
    refine cs_enter x11.s (hE.tr (F10.tr x11.f rfl rfl)) (fun dd A12 f12 x12 => ?_)
    have x1012 := x11.tr x12
    have n10' := x10.n
    have n11' := x11.n
    have X12 := (((D8.x.tr x9).tr x10).tr x1012)
    have n12 := X12.n
    have F12 : jF A A12 := X12.f
    refine P.p6 0 0 0 x12.s (by omega) (by unfold jFl at hf ⊢; omega) (hE.tr F12) _ (fun r13 A13 x13 u13 n13 => ?_)
    have h6 : jH 6 A8 = jH 6 A := jH_eq (by omega)
    have h10 : jH 10 A12 + 10 = jH 10 A := jH_up (by omega) (by omega) (by omega)
    refine cs_step D8 x9 u9 n9 rfl ((ySm.rf.tr f11 rfl rfl : ySm _ A11 [] [10, 11]).tr f12 rfl rfl) x1012 x13 u13 n13 hl7 (by omega) (by omega) (fun A14 f14 x14 H14 => ?_)
    have n14 := x14.n
    have sd14 := x14.s.d
    have n13' := x13.n
    obtain ⟨f15, x15⟩ := cs_dep x14.s (yv A14 11 - 1) (by omega)
    obtain ⟨u16, n16⟩ := H14 _ f15
    have j13 := jdl_01 A13
    exact ⟨⟨by omega, by omega⟩, hq _ _ ((x14.tr x15).le (by rw [jdl_f f15 rfl rfl, jdl_f f14 rfl rfl]; omega) (by omega) (by omega)) u16 n16⟩
