/-! THE CLASS'S PARSER: AN OPERAND -/
theorem jH_ge {c : Nat} {A A1 : cS} (e : yv A 11 ≤ yv A1 11) : jH c A1 ≤ jH c A := by
  unfold jH
  omega
theorem jAlll {l l2 : List jC} {h : Nat} (a : ∀ c ∈ l, c.1 ≤ h) (b : ∀ c ∈ l2, c.1 ≤ h) : ∀ x ∈ l ++ l2, x.1 ≤ h := fun x hx => by
  rcases List.mem_append.mp hx with q | q
  · exact a x q
  · exact b x q
theorem jDh.mem {p : Nat} {A0 A : cS} {n : Nat} {l : List jC} {K D X a b d : Int} (h : jDh p A0 A n l K D X a b d) {c : jC} (hc : c ∈ l) : c.2.1 < yz A 7 := by
  have q := h.2.2.1.2.2.2.2.2.1 c hc
  exact (h.2.2.1.2.2.1 _ (q.2 _ q.1.n1.2.1).1).2
theorem cs_p13 {m : Nat} (P : jP m) (k : Nat) (b c : Int) {A0 A : cS} {Q : Int → cS → Prop} {E : cS → Prop} {l : List jC} {K D X a' b' d' : Int} (D0 : jD A0 A k l K D X a' b' d') (h7 : j7 A0 + a' ≤ 2608 + 6 * yv A 11) (hf : jFl 3 A (m + 1)) (hE : jEE A E) (hq : ∀ A' x t, jD A0 A' k (l ++ x :: t) K D X (a' - 1 + jdl A') b' d' → (yget A' 7 (x.2.1 : Nat) = 83 → jD A0 A' k (l ++ x :: t) K D X (a' - 2 + jdl A') b' d') → jF A A' → yv A 10 ≤ yv A' 10 → (∀ c ∈ x :: t, c.1 ≤ jH 3 A) → Q 0 A') : wcG_P (m + 1) 13 k b c A Q E := by
  have sd := D0.s.d
  have d0 := D0.x.d
  have hH3 : 1 ≤ jH 3 A := Nat.le_trans (by decide) jH1
  -- the signs before the whole, and out
  have OUT : ∀ (A1 : cS) (x : jC) (t : List jC) (a1 d1 : Int), jDh 0 A0 A1 k (l ++ x :: t) K D X a1 b' d1 → jF A A1 → yv A 10 ≤ yv A1 10 → d' ≤ d1 → x.2.1 < yz A1 7 → a1 ≤ a' - 1 + jdl A1 → (yget A1 7 (x.2.1 : Nat) = 83 → a1 ≤ a' - 2 + jdl A1) → (∀ c ∈ x :: t, c.1 ≤ jH 3 A) → wc_Parser_hangSigns A1 k ((yz A 22 : Nat) : Int) (fun A76 => Q 0 (ypv A76 11 (yv A 11))) := fun A1 x t a1 d1 D1 F1 hm hd hx7 ha h83 hl => by
    have d1' := D1.x.d
    have j1 := jdl_01 A1
    refine cs_hangSignsh D1 (by omega) _ (by omega) (fun A2 l2 hl2 D2 f2 g2 z2 => ?_)
    obtain ⟨f3, x3⟩ := cs_dep D2.s (yv A 11) sd
    have d2 := D2.x.d
    have D3 := (D2.sm x3 f3 rfl).to
    rw [List.append_assoc] at D3
    have ej : jdl (ypv A2 11 (yv A 11)) = jdl A1 := by rw [jdl_f f3 rfl rfl, jdl_f f2 rfl rfl]
    have e10 : yv (ypv A2 11 (yv A 11)) 10 = yv A1 10 := by rw [f3.v 10 rfl, f2.v 10 rfl]
    refine hq _ x (t ++ l2) (D3.le (by omega) (by omega) (by omega)) (fun q => ?_) ((F1.tr f2 rfl rfl).tr f3 rfl rfl) (by omega) (jAlll hl (fun c hc => Nat.le_trans (hl2 c hc) hH3))
    rw [f3.g 7 _ rfl, g2 _ hx7] at q
    have := h83 q
    exact D3.le (by omega) (by omega) (by omega)
  have L : ∀ (m2 : Nat) (A1 : cS) (l1 : List jC) (p : Nat) (x4 x5 a1 d1 : Int), jDh p A0 A1 k (l ++ l1) K D X a1 b' d1 → x4 = (p : Int) → jF A A1 → yv A 10 ≤ yv A1 10 → d' ≤ d1 → (∀ c ∈ l1, c.1 ≤ jH 3 A) → (p = 0 ∧ l1 = [] ∧ a1 ≤ a' ∨ ¬ p = 0 ∧ (∃ x t, l1 = x :: t ∧ x.2.1 < yz A1 7) ∧ a1 ≤ a' - 2) → 0 ≤ x5 → x5 ≤ yv A1 10 → jt A1 < m2 → wc_Parser_operand_24 (wcG_P m) (fun A' => Q 0 A') E m2 A1 k (yv A 11) ((yz A 22 : Nat) : Int) x4 x5 := by
    intro m2
    induction m2 with
    | zero => intro A1 l1 p x4 x5 a1 d1 D1 _ _ _ _ _ _ _ _ h; have := D1.s.a; unfold jt at h; omega
    | succ m2 ih =>
      intro A1 l1 p x4 x5 a1 d1 D1 hx4 F1 hm hd hl hx h0 h1 h2
      have sa := D1.s.a
      have e3 := D1.s.e.2.2.1
      -- a dot, or out
      have DOT : ∀ (A2 : cS) (x : jC) (t : List jC) (a2 d2 : Int), jDh 0 A0 A2 k (l ++ x :: t) K D X a2 b' d2 → jF A1 A2 → yv A1 10 ≤ yv A2 10 → d' ≤ d2 → x.2.1 < yz A2 7 → a2 ≤ a' - 1 + jdl A2 → (yget A2 7 (x.2.1 : Nat) = 83 → a2 ≤ a' - 2 + jdl A2) → (∀ c ∈ x :: t, c.1 ≤ jH 3 A) → wc_Parser_operand_156 (wcG_P m) (fun A' => Q 0 A') E (wc_Parser_operand_24 (wcG_P m) (fun A' => Q 0 A') E m2) A2 k (yv A 11) ((yz A 22 : Nat) : Int) x5 := fun A2 x t a2 d2 D2 F2 hm2 hd2 hx7 ha h83 hl2 => by
        have F12 := F1.tr F2 rfl rfl
        have n2 := D2.x.n
        have dot : yget A2 14 (yv A2 10) = 13 ∨ yget A2 14 (yv A2 10) = 14 → wc_Parser_enter A2 (fun A12 => wc_Parser_kind A12 (fun r19 A20 => wc_Parser_leaf A20 r19 (fun r27 A28 => (zR (x5 + 1)) ∧ wc_Parser_operand_24 (wcG_P m) (fun A' => Q 0 A') E m2 A28 k (yv A 11) ((yz A 22 : Nat) : Int) r27 (x5 + 1)))) E := fun hk => by
          have j0 := jdl_0 (A := A2) (by omega) (by omega)
          refine cs_enter D2.s (hE.tr F12) (fun dd A3 f3 x3 => ?_)
          have e10 : yv A3 10 = yv A2 10 := f3.v 10 rfl
          have ek : yget A3 14 (yv A3 10) = yget A2 14 (yv A2 10) := by rw [e10]; exact f3.g 14 _ rfl
          have D3 := D2.sm x3 f3 rfl
          have n3 := x3.n
          unfold wc_Parser_kind
          refine cs_leaf D3.s (by omega) (by omega) _ (fun A4 f4 x4 e4 w4 => ⟨⟨by omega, by omega⟩, ?_⟩)
          have D4 := D3.new x4 w4 (by rw [jkap_1 (by omega)]; exact Nat.le_refl _) (by omega) (by omega) (by omega)
          have z3 : yz A3 7 = yz A2 7 := f3.z 7 rfl
          have n4 := x4.n
          have F4 : jF A1 A4 := (F2.tr x3.f rfl rfl).tr x4.f rfl rfl
          refine ih A4 _ (yz A3 7) _ (x5 + 1) (a' - 2) (d2 + 1) (D4.le (by omega) (by omega) (by omega)) rfl (F1.tr F4 rfl rfl) (by omega) (by omega) hl2 (Or.inr ⟨by omega, ⟨x, t, rfl, by omega⟩, Int.le_refl _⟩) (by omega) (by omega) ?_
          have := jt_f F4
          omega
        unfold wc_Parser_operand_156
        unfold wc_Parser_kind
        exact ⟨fun q => dot (Or.inl q), fun _ => ⟨fun q => dot (Or.inr q), fun _ => OUT A2 x t a2 d2 D2 F12 (by omega) hd2 hx7 ha h83 hl2⟩⟩
      -- the part is there
      have PART : ∀ (A3 : cS) (r : Int) (x6 : Int), 0 ≤ x6 → ∀ (A2 : cS) (d2 : Int), jDh p A0 A2 k (l ++ l1) K D X a1 b' d2 → jF A1 A2 → yv A1 10 ≤ yv A2 10 → d1 ≤ d2 → jX A2 A3 (-1 + jdl A3) 0 0 → jU A2 A3 jO → jN A2 A3 r (jH 1 A2) → ¬ yget A3 7 r = 83 → wc_Parser_operand_106 (wcG_P m) (fun A' => Q 0 A') E (wc_Parser_operand_24 (wcG_P m) (fun A' => Q 0 A') E m2) A3 k (yv A 11) ((yz A 22 : Nat) : Int) x4 x5 x6 r := fun A3 r x6 hx6 A2 d2 D2 F2 hm2 hd2 x3 u3 n3 h83 => by
        have dd2 := D2.x.d
        have dd3 := x3.d
        have g1 : jH 1 A2 ≤ jH 1 A := jH_ge (by omega)
        have g3 : jH 3 A = jH 1 A + 2 := jH_c 1 2 A
        have F3 : jF A1 A3 := F2.tr x3.f rfl rfl
        have j3 := jdl_01 A3
        have na := x3.a
        -- hung, its signs, the dot before it
        have HANG : ∀ (A4 : cS) (cc : jC) (a4 d4 : Int), jDh p A0 A4 k (l ++ l1 ++ [cc]) K D X a4 b' d4 → jF A1 A4 → yv A1 10 ≤ yv A4 10 → d1 ≤ d4 → cc.2.1 < yz A4 7 → cc.1 ≤ jH 3 A → a4 ≤ a1 - 1 + jdl A4 → (yget A4 7 (cc.2.1 : Nat) = 83 → a4 ≤ a1 - 2 + jdl A4) → wc_Parser_hangSigns A4 k x6 (fun A20 => ((x4 = 0 → wc_Parser_operand_156 (wcG_P m) (fun A' => Q 0 A') E (wc_Parser_operand_24 (wcG_P m) (fun A' => Q 0 A') E m2) A20 k (yv A 11) ((yz A 22 : Nat) : Int) x5) ∧ (¬ x4 = 0 → wc_Tree_hang A20 k x4 (fun A31 => wc_Parser_operand_156 (wcG_P m) (fun A' => Q 0 A') E (wc_Parser_operand_24 (wcG_P m) (fun A' => Q 0 A') E m2) A31 k (yv A 11) ((yz A 22 : Nat) : Int) x5)))) := fun A4 cc a4 d4 D4 F4 hm4 hd4 hc7 hc1 ha4 h834 => by
          have j4 := jdl_01 A4
          refine cs_hangSignsh D4 (by have := hx; omega) _ hx6 (fun A5 l5 hl5 D5 f5 g5 z5 => ?_)
          rw [List.append_assoc, List.append_assoc] at D5
          have ej5 : jdl A5 = jdl A4 := jdl_f f5 rfl rfl
          have e10 : yv A5 10 = yv A4 10 := f5.v 10 rfl
          have F5 : jF A1 A5 := F4.tr f5 rfl rfl
          have hl6 : ∀ c ∈ [cc] ++ l5, c.1 ≤ jH 3 A := jAlll (fun c hc => by
            have : c = cc := by simpa using hc
            rw [this]
            exact hc1) (fun c hc => Nat.le_trans (hl5 c hc) hH3)
          rcases hx with ⟨p0, l0, a0⟩ | ⟨p0, ⟨x, t, l0, hx7⟩, a0⟩
          · subst p0
            subst l0
            refine ⟨fun _ => DOT A5 cc l5 a4 d4 D5 F5 (by omega) (by omega) (by omega) (by omega) (fun q => ?_) hl6, fun q => absurd hx4 q⟩
            rw [g5 _ hc7] at q
            have := h834 q
            omega
          · subst l0
            refine ⟨fun q => absurd q (by omega), fun _ => ?_⟩
            rw [hx4]
            refine D5.pend p0 (fun A6 c6 c61 c62 f6 z6 D6 => ?_)
            rw [List.append_assoc] at D6
            have ej6 : jdl A6 = jdl A5 := jdl_f f6 rfl rfl
            have e106 : yv A6 10 = yv A5 10 := f6.v 10 rfl
            refine DOT A6 x (t ++ ([cc] ++ l5) ++ [c6]) a4 d4 (by simpa using D6) (F5.tr f6 rfl rfl) (by omega) (by omega) ?_ (by omega) (fun _ => by omega) (fun c hc => ?_)
            · have := D5.mem (c := x) (by simp)
              omega
            · rcases List.mem_append.mp (show c ∈ (x :: t) ++ (([cc] ++ l5) ++ [c6]) by simpa using hc) with q | q
              · exact hl c q
              · rcases List.mem_append.mp q with q | q
                · exact hl6 c q
                · have : c = c6 := by simpa using q
                  rw [this, c61]
                  exact hH3
        unfold wc_Parser_operand_106
        unfold wc_Parser_kind
        refine ⟨fun _ => ?_, fun k7 => ?_⟩
        · refine D2.kid x3 u3 n3 (fun A4 cc c1 c2 f4 z4 e4 D4 => ?_)
          have e10 : yv A4 10 = yv A3 10 := f4.v 10 rfl
          refine HANG A4 cc _ _ (D4.le (Int.le_refl _) (by omega) rfl) (F3.tr f4 rfl rfl) (by omega) (by omega) ?_ (by omega) (by rw [jdl_f f4 rfl rfl]; omega) (fun q => absurd (by rw [c2, e4] at q; exact q) h83)
          obtain ⟨kk, w, hr, hi, -⟩ := n3
          have := hi.2
          omega
        · have ha1 : a1 ≤ a' := by rcases hx with ⟨_, _, q⟩ | ⟨_, _, q⟩ <;> omega
          clear hx
          have j0 := jdl_0 (A := A3) (by omega) (by omega)
          have e11 : yv A3 11 = yv A2 11 := by omega
          have nn2 := D2.x.n
          refine P.p16 r 0 0 x3 u3 n3 (by rw [jH_eq e11]; exact Nat.le_refl _) (by omega) k7 (by unfold jFl at hf ⊢; omega) (hE.tr (F1.tr F3 rfl rfl)) (fun r2 A4 d4 x4' hd4 u4 n4 F4 => ?_)
          have na4 := x4'.a
          refine D2.kid x4' u4 n4 (fun A5 cc c1 c2 f5 z5 e5 D5 => ?_)
          have e10 : yv A5 10 = yv A4 10 := f5.v 10 rfl
          have j5 := jdl_01 A5
          refine HANG A5 cc _ _ (D5.le (Int.le_refl _) (by omega) rfl) ((F3.tr F4 rfl rfl).tr f5 rfl rfl) (by omega) (by omega) ?_ (by omega) (by omega) (fun q => by omega)
          obtain ⟨kk, w, hr, hi, -⟩ := n4
          have := hi.2
          omega
      -- what the part is
      have O50 : ∀ (x6 : Int), 0 ≤ x6 → ∀ (A2 : cS) (d2 : Int), jDh p A0 A2 k (l ++ l1) K D X a1 b' d2 → jF A1 A2 → yv A1 10 ≤ yv A2 10 → d1 ≤ d2 → wc_Parser_operand_50 (wcG_P m) (fun A' => Q 0 A') E (wc_Parser_operand_24 (wcG_P m) (fun A' => Q 0 A') E m2) A2 k (yv A 11) ((yz A 22 : Nat) : Int) x4 x5 x6 := fun x6 hx6 A2 d2 D2 F2 hm2 hd2 => by
        have dd2 := D2.x.d
        have n2 := D2.x.n
        have F12 := F1.tr F2 rfl rfl
        have ha1 : a1 ≤ a' := by rcases hx with ⟨_, _, q⟩ | ⟨_, _, q⟩ <;> omega
        unfold wc_Parser_operand_50
        unfold wc_Parser_kind
        refine ⟨fun _ => P.p14 0 0 0 D2.s (by omega) (by unfold jFl at hf ⊢; omega) (hE.tr F12) (fun r A3 x3 u3 n3 h83 => PART A3 r x6 hx6 A2 d2 D2 F2 hm2 hd2 x3 u3 n3 h83), fun k34 => ?_⟩
        refine cs_enter D2.s (hE.tr F12) (fun dd A3 f3 x3 => cs_leaf x3.s (by have := x3.n; omega) (by rw [f3.v 10 rfl, f3.g 14 _ rfl]; omega) _ (fun A4 f4 x4' e4 w4 => ?_))
        have D4 := (jD.new x4' w4).bs x3 (jU.sm f3 rfl) (f3.z 7 rfl)
        have n4 := D4.x.n
        have F4 : jF A A4 := F12.tr D4.x.f rfl rfl
        refine D4.sub (P.p6 0 0 0 D4.s (by omega) (by unfold jFl at hf ⊢; omega) (hE.tr F4)) (fun A5 cc c1 D5 F5 a5 d5 => ?_)
        have dd5 := D5.x.d
        have sd5 := D5.s.d
        obtain ⟨f6, x6'⟩ := cs_dep D5.s (yv A5 11 - 1) (by omega)
        have D6 := D5.sm x6' f6 rfl
        have j5 := jdl_01 A5
        refine ⟨⟨by omega, by omega⟩, PART _ _ x6 hx6 A2 d2 D2 F2 hm2 hd2 (D6.x.le (by rw [jdl_f f6 rfl rfl]; omega) (by omega) (by omega)) D6.u (D6.N (fun x hx => ?_) (by rw [jkap_1 (by decide)]; exact jH1) (jShp.o (by decide) (by decide) (by decide))) (by rw [D6.c.2.1]; decide)⟩
        have : x = cc := by simpa using hx
        rw [this, c1, jkap_1 (by decide)]
        unfold jH
        omega
      unfold wc_Parser_operand_24
      unfold wc_Parser_operand_24B
      refine ⟨fun q => by omega, fun _ => ⟨fun _ => O50 _ (by omega) A1 d1 D1 ySm.rf (Int.le_refl _) (Int.le_refl _), fun _ => ?_⟩⟩
      refine cs_passSigns D1.s (by have := D1.x.n; omega) 0 (hE.tr F1) (fun A2 dd hdd f2 x2 => O50 _ (by omega) A2 (d1 + dd) ((D1.sm x2 f2 rfl).le (by omega) (by omega) rfl) x2.f x2.a (by omega))
  show wc_Parser_operand (wcG_P m) A k (fun A' => Q 0 A') E
  unfold wc_Parser_operand
  refine cs_passSigns D0.s (by have := D0.x.n; omega) 1 hE (fun A2 dd hdd f2 x2 => ?_)
  have D2 := (jDh.of D0).sm x2 f2 rfl
  exact ⟨(jt A2).toNat + 1, L _ A2 [] 0 0 0 a' (d' + dd) (by rw [List.append_nil]; exact D2.le (by omega) (by omega) rfl) rfl x2.f x2.a (by omega) (fun c hc => absurd hc List.not_mem_nil) (Or.inl ⟨rfl, rfl, Int.le_refl _⟩) (by decide) (by have := D2.s.a; omega) (by omega)⟩
