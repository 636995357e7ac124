/-! THE CLASS'S PARSER: EXPRESSIONS -/
theorem jD.fst {A0 A : cS} {n : Nat} {x : jC} {t : List jC} {K D X a b d : Int} (h : jD A0 A n (x :: t) K D X a b d) : yget A 11 n = (x.2.1 : Int) := h.o.2.2.2.1.1
theorem jD.mem {A0 A : cS} {n : Nat} {l : List jC} {K D X a b d : Int} (h : jD A0 A n l K D X a b d) {c : jC} (hc : c ∈ l) : c.2.1 < yz A 7 := by
  have q := h.o.2.2.2.2.2.1 c hc
  exact (h.o.2.2.1 _ (q.2 _ q.1.n1.2.1).1).2
theorem cs_p12 {m : Nat} (P : jP m) (a b c : Int) {A : cS} {Q : Int → cS → Prop} {E : cS → Prop} (s : jS A) (h7 : j7 A ≤ 2606 + 6 * yv A 11) (hf : jFl 4 A (m + 1)) (hE : jEE A E) (hq : ∀ r A', jX A A' (jdl A') 0 0 → jU A A' jO → jN A A' r (jH 6 A) → (yget A' 7 (yget A' 11 r) = 83 → j7 A' ≤ j7 A + jdl A' - 1) → Q r A') : wcG_P (m + 1) 12 a b c A Q E := by
  have sd := s.d
  have hH3 : 1 ≤ jH 3 A := Nat.le_trans (by decide) jH1
  have hH4 : jH 4 A = jH 3 A + 1 := jH_c 3 1 A
  have hH5 : jH 5 A = jH 3 A + 2 := jH_c 3 2 A
  have hH6 : jH 6 A = jH 3 A + 3 := jH_c 3 3 A
  have FIN : ∀ (A1 : cS) (n : Nat) (x : jC) (t : List jC) (a1 : Int), jD A A1 n (x :: t) 80 0 0 a1 0 0 → (∀ c ∈ x :: t, c.1 ≤ jH 3 A) → a1 ≤ jdl A1 → (yget A1 7 (x.2.1 : Nat) = 83 → a1 ≤ jdl A1 - 1) → wc_Parser_expression_89 (wcG_P m) Q E A1 n := fun A1 n x t a1 D1 hl ha h83 => by
    have n1 := D1.x.n
    have N4 : jN A A1 n (jH 4 A) := D1.N (fun c hc => by rw [jkap_1 (by decide), hH4]; exact Nat.succ_le_succ (hl c hc)) (by rw [jkap_1 (by decide)]; omega) (jShp.o (by decide) (by decide) (by decide))
    unfold wc_Parser_expression_89 wc_Parser_kind wc_Parser_place wc_Tree_place
    refine ⟨fun k31 => ?_, fun _ => hq _ A1 (D1.x.le ha (by omega) rfl) D1.u (N4.h (by omega)) (fun q => ?_)⟩
    · have j0 := jdl_0 (A := A1) (by omega) (by omega)
      refine cs_wrap D1.x D1.u N4 (by omega) 81 _ 0 (fun A2 f2 e2 _ gen x2 => ?_)
      have F2 : jF A A2 := x2.f
      have n2 := x2.n
      refine cs_enter x2.s (hE.tr F2) (fun dd A3 f3 x3 => cs_adv x3.s (by rw [f3.v 10 rfl, f3.g 14 _ rfl, f2.v 10 rfl, f2.g 14 _ rfl]; omega) (fun A4 f4 x4 e4 => ?_))
      refine gen A4 ((ySm.rf.tr f3 rfl rfl : ySm A2 A3 [] [10, 11]).tr f4 rfl rfl) (x3.tr x4) (fun A5 c5 c51 _ f5 _ D5 => ?_)
      have n5 := D5.x.n
      refine D5.sub (P.ex 0 0 0 D5.s (by omega) (by unfold jFl at hf ⊢; omega) (hE.tr D5.x.f)) (fun A6 c6 c61 D6 F6 a6 d6 => cs_due D6.s 9 (by decide) (hE.tr D6.x.f) (fun k6 A7 f7 x7 e7 => ?_))
      have j6 := jdl_0 (A := A6) (by omega) (by omega)
      have D7 := D6.sm x7 f7 rfl
      have n7 := D7.x.n
      refine D7.sub (P.ex 0 0 0 D7.s (by omega) (by unfold jFl at hf ⊢; omega) (hE.tr D7.x.f)) (fun A8 c8 c81 D8 F8 a8 d8 => ?_)
      have n8 := D8.x.n
      obtain ⟨f9, x9⟩ := cs_dep D8.s (yv A8 11 - 1) (by omega)
      have D9 := D8.sm x9 f9 rfl
      have e7 : yv A7 11 = yv A5 11 := by rw [f7.v 11 rfl]; exact d6
      have g6 : jH 6 A5 + 10 = jH 6 A := jH_up (by omega) (by omega) (by omega)
      have g8 : jH 6 A7 + 10 = jH 6 A := jH_up (by omega) (by omega) (by omega)
      have N9 : jN A (ypv A8 11 (yv A8 11 - 1)) (yz A1 7 : Nat) (jH 5 A) := D9.N (fun q hx => by
        rw [jkap_1 (by decide)]
        have : q = c5 ∨ q = c6 ∨ q = c8 := by simpa using hx
        rcases this with r | r | r <;> (rw [r]; omega)) (by rw [jkap_1 (by decide)]; omega) (jShp.o (by decide) (by decide) (by decide))
      have j9 := jdl_01 A8
      have n9 := D9.x.n
      refine ⟨⟨by omega, by omega⟩, cs_wrap D9.x D9.u N9 (by omega) 80 _ 0 (fun A10 f10 e10 hs _ x10 => hs (fun A11 c11 c111 c11r f11 e11 D11 => hq _ A11 (D11.x.le ?_ (by omega) (by omega)) D11.u (D11.N (fun q hx => ?_) (by rw [jkap_1 (by decide)]; omega) (jShp.o (by decide) (by decide) (by decide))) (fun q => ?_)))⟩
      · rw [jdl_f f11 rfl rfl, jdl_f f10 rfl rfl, jdl_f f9 rfl rfl]
        omega
      · have : q = c11 := by simpa using hx
        rw [this, c111, jkap_1 (by decide)]
        omega
      · rw [D11.fst, c11r, e11, e10, f9.g 7 _ rfl, D8.c.2.1] at q
        exact absurd q (by decide)
    · rw [D1.fst] at q
      have := h83 q
      omega
  have L : ∀ (m2 : Nat) (A1 : cS) (n : Nat) (l1 : List jC) (x2 x3 a1 : Int), jD A A1 n l1 80 0 0 a1 0 0 → 0 ≤ x2 → (∀ c ∈ l1, c.1 ≤ jH 3 A) → (l1 = [] ∧ a1 ≤ 1 ∨ ¬ l1 = [] ∧ a1 ≤ -1) → 0 ≤ x3 → x3 ≤ yv A1 10 → jt A1 < m2 → wc_Parser_expression_25 (wcG_P m) Q E m2 A1 n x2 x3 := by
    intro m2
    induction m2 with
    | zero => intro A1 n l1 x2 x3 a1 D1 _ _ _ _ _ h; have := D1.s.a; unfold jt at h; omega
    | succ m2 ih =>
      intro A1 n l1 x2 x3 a1 D1 hx2 hl hx h0 h1 h2
      have n1 := D1.x.n
      have sa := D1.s.a
      have e3 := D1.s.e.2.2.1
      have ha1 : a1 ≤ 1 := by rcases hx with ⟨_, q⟩ | ⟨_, q⟩ <;> omega
      unfold wc_Parser_expression_25
      unfold wc_Parser_expression_25B
      unfold wc_Parser_kind wc_Parser_place
      refine ⟨fun q => by omega, fun _ => ?_⟩
      refine P.p13 n 0 0 D1 (by omega) (by unfold jFl at hf ⊢; omega) (hE.tr D1.x.f) (fun A2 x t D2q h83 F2 m2' hl2 => ?_)
      have H0 : ∃ a2, jD A A2 n (l1 ++ x :: t) 80 0 0 a2 0 0 ∧ a2 ≤ a1 - 1 + jdl A2 ∧ (yget A2 7 (x.2.1 : Nat) = 83 → a2 ≤ a1 - 2 + jdl A2) := by
        by_cases c83 : yget A2 7 (x.2.1 : Nat) = 83
        · exact ⟨_, h83 c83, by omega, fun _ => Int.le_refl _⟩
        · exact ⟨_, D2q, Int.le_refl _, fun q => absurd q c83⟩
      obtain ⟨a2, D2, ha2, h832⟩ := H0
      have j2 := jdl_01 A2
      have ej1 : jH 3 A1 = jH 3 A := jH_eq (by omega)
      refine cs_settle D2 (by omega) x2 _ hx2 (fun A3 l3 hl3 D3 f3 g3 z3 => ?_)
      rw [List.append_assoc] at D3
      have e10 : yv A3 10 = yv A2 10 := f3.v 10 rfl
      have ek : yget A3 14 (yv A3 10) = yget A2 14 (yv A2 10) := by rw [e10]; exact f3.g 14 _ rfl
      have ej : jdl A3 = jdl A2 := jdl_f f3 rfl rfl
      have n3 := D3.x.n
      have hl4 : ∀ c ∈ l1 ++ (x :: t ++ l3), c.1 ≤ jH 3 A := jAlll hl (jAlll (fun c hc => by have := hl2 c hc; omega) (fun c hc => Nat.le_trans (hl3 c hc) hH3))
      have hm := D2.mem (c := x) (by simp)
      -- what the first is
      have H : ∃ x0 t0, l1 ++ (x :: t ++ l3) = x0 :: t0 ∧ ∃ a3, jD A A3 n (x0 :: t0) 80 0 0 a3 0 0 ∧ a3 ≤ jdl A3 ∧ (yget A3 7 (x0.2.1 : Nat) = 83 → a3 ≤ jdl A3 - 1) := by
        rcases hx with ⟨q1, q2⟩ | ⟨q1, q2⟩
        · subst q1
          refine ⟨x, t ++ l3, by simp, ?_⟩
          have D3' : jD A A3 n (x :: (t ++ l3)) 80 0 0 a2 0 0 := by simpa using D3
          exact ⟨_, D3', by omega, fun q => by
            rw [g3 _ hm] at q
            have := h832 q
            omega⟩
        · cases hl1 : l1 with
          | nil => exact absurd hl1 q1
          | cons x0 t0 =>
            rw [hl1] at D3
            exact ⟨x0, t0 ++ (x :: t ++ l3), by simp, _, D3, by omega, fun _ => by omega⟩
      obtain ⟨x0, t0, el, a3, D3', ha3, h833⟩ := H
      rw [el] at hl4
      refine cs_power A3 _ (fun r hr => ⟨fun q => ?_, fun _ => FIN A3 n x0 t0 a3 D3' hl4 ha3 h833⟩)
      have kr := hr q
      intro z46 _ _ z50 _ _
      have z22 := j7_22 D3'.s (by omega)
      have j0 := jdl_0 (A := A3) (by omega) (by omega)
      have f4 : ySm A3 (yadd A3 22 z50) [22] [] := ySm.rf.add rfl
      have z4 : yz (yadd A3 22 z50) 22 = yz A3 22 + 1 := rfl
      generalize yadd A3 22 z50 = A4 at f4 z4
      have D4 := D3'.sm (jX.r22 D3'.s f4 (c := 1) (by omega)) f4 rfl
      have e104 : yv A4 10 = yv A3 10 := f4.v 10 rfl
      refine ⟨by omega, cs_adv D4.s (by rw [e104, f4.g 14 _ rfl]; omega) (fun A5 f5 x5 e5 => ⟨⟨by omega, by omega⟩, ?_⟩)⟩
      have D5 := D4.sm x5 f5 rfl
      refine ih A5 n _ x2 (x3 + 1) (-1) (D5.le (by omega) (by omega) (by omega)) hx2 hl4 (Or.inr ⟨List.cons_ne_nil _ _, Int.le_refl _⟩) (by omega) (by omega) ?_
      have t1 := jt_f D1.x.f
      have t5 := jt_f D5.x.f
      omega
  show wc_Parser_expression (wcG_P m) A Q E
  unfold wc_Parser_expression wc_Parser_place
  refine cs_node s (by omega) _ _ _ (fun A1 f1 x1 w1 => ?_)
  exact ⟨(jt A1).toNat + 1, L _ A1 _ [] _ 0 1 (jD.new x1 w1) (by omega) (fun c hc => absurd hc List.not_mem_nil) (Or.inl ⟨rfl, by decide⟩) (by decide) (by have := x1.s.a; omega) (by omega)⟩
