/-! THE CLASS'S PARSER: THE TEXT -/
theorem cs_text {A : cS} (s : jS A) (h7 : j7 A ≤ 2601) (h11 : yv A 11 = 0) {Q : Int → cS → Prop} {E : cS → Prop} (hE : jEE A E) (hq : ∀ r A', jX A A' 1 0 0 → jU A A' jO → jN A A' r 614 → Q r A') : wc_Parser_text A Q E := by
  have L : ∀ (m2 : Nat) (A1 : cS) (n : Nat) (l : List jC) (x2 a1 : Int), jD A A1 n l 92 0 0 a1 0 0 → a1 ≤ 1 → (∀ c ∈ l, c.1 ≤ 612) → 0 ≤ x2 → x2 ≤ yv A1 10 → jt A1 < m2 → wc_Parser_text_17 Q E m2 A1 n x2 := by
    intro m2
    induction m2 with
    | zero => intro A1 n l x2 a1 D1 _ _ _ _ h; have := D1.s.a; unfold jt at h; omega
    | succ m2 ih =>
      intro A1 n l x2 a1 D1 ha hl h0 h1 h2
      have n1 := D1.x.n
      have sa := D1.s.a
      have e3 := D1.s.e.2.2.1
      have d1 := D1.x.d
      unfold wc_Parser_text_17
      unfold wc_Parser_text_17B
      unfold wc_Parser_kind
      refine ⟨fun q => by omega, fun _ => ⟨900, Nat.le_refl _, (cs_all 900).p0 1 0 0 D1.s (by omega) (by unfold jFl; omega) (hE.tr D1.x.f) (fun r A2 x2' u2 n2 => D1.kid x2' u2 n2 (fun A3 c3 c31 _ f3 _ _ D3 => ?_))⟩⟩
      have e10 : yv A3 10 = yv A2 10 := f3.v 10 rfl
      have m2' := x2'.a
      have hl3 : ∀ c ∈ l ++ [c3], c.1 ≤ 612 := jAll1 hl (by rw [c31]; unfold jH; omega)
      have OUT : ∀ (A4 : cS) (a4 b4 : Int), jD A A4 n (l ++ [c3]) 92 0 0 a4 b4 0 → a4 ≤ 1 → b4 ≤ 0 → Q n A4 := fun A4 a4 b4 D4 h4 h5 => hq _ _ (D4.x.le h4 h5 rfl) D4.u (D4.N (fun c hc => by rw [jkap2 (by decide)]; have := hl3 c hc; omega) (by decide) (jShp.o (by decide) (by decide) (by decide)))
      refine ⟨fun _ => cs_due D3.s 10 (by decide) (hE.tr D3.x.f) (fun k3 A4 f4 x4 e4 => ⟨fun _ => ⟨⟨by omega, by omega⟩, ?_⟩, fun _ => OUT A4 _ _ ((D3.sm x4 f4 rfl).le (Int.le_refl _) (Int.le_refl _) (by omega)) (by omega) (by omega)⟩), fun _ => OUT A3 _ _ (D3.le (Int.le_refl _) (Int.le_refl _) (by omega)) (by omega) (by omega)⟩
      refine ih A4 n _ (x2 + 1) _ ((D3.sm x4 f4 rfl).le (Int.le_refl _) (by omega) (by omega)) (by omega) hl3 (by omega) (by omega) ?_
      have := jt_f (x2'.f.tr f3 rfl rfl : jF A1 A3)
      have := jt_f x4.f
      omega
  unfold wc_Parser_text wc_Parser_place
  refine cs_node s (by omega) _ _ _ (fun A1 f1 x1 w1 => ?_)
  exact ⟨(jt A1).toNat + 1, L _ A1 _ [] 0 1 (jD.new x1 w1) (by decide) (fun c hc => absurd hc List.not_mem_nil) (by decide) (by have := x1.s.a; omega) (by omega)⟩
theorem yz_cut0 (A : cS) (k j : Nat) : yz (ycut A k 0) j = if j = k then 0 else yz A j := by
  rw [yz_cut]
  by_cases c : j = k
  · rw [if_pos c, if_pos c]
    by_cases d : (0 : Int) ≤ 0 ∧ (0 : Int) < ((yz A j : Nat) : Int)
    · rw [if_pos d]; rfl
    · rw [if_neg d]; omega
  · rw [if_neg c, if_neg c]
theorem cs_reads {A : cS} (se : sE A) (z2 : yz A 2 ≤ 100) (z3 : yz A 3 = 0 ∧ yz A 4 = 0 ∧ yz A 5 = 0 ∧ yz A 6 = 0) {Q : Int → cS → Prop} (h0 : ∀ A', jF A A' → jB5 A' → Q 0 A') (h1 : ∀ A' (k w : Nat) (S : Nat → Prop), jF A A' → jS A' → yv A' 12 = k → jT A' 614 k w S → (∀ i, S i → i < yz A' 7) → w + 1 ≤ yz A' 7 → yz A' 7 ≤ 2610 → Q 1 A') : wc_Parser_reads A Q := by
  unfold wc_Parser_reads wc_Tree_clear
  have g0 : ∀ (i : Int), ∀ j, 7 ≤ j → j ≤ 13 → yget (ycut (ycut (ycut (ycut (ycut (ycut (ycut A 7 0) 8 0) 9 0) 10 0) 11 0) 12 0) 13 0) j i = 0 := fun i j a b => yget_out (by
    have q : j = 7 ∨ j = 8 ∨ j = 9 ∨ j = 10 ∨ j = 11 ∨ j = 12 ∨ j = 13 := by omega
    rcases q with rfl | rfl | rfl | rfl | rfl | rfl | rfl <;> simp only [yz_cut0, reduceIte, Nat.reduceEqDiff] <;> omega)
  have f0 : ySm A (ycut (ycut (ycut (ycut (ycut (ycut (ycut A 7 0) 8 0) 9 0) 10 0) 11 0) 12 0) 13 0) [7, 8, 9, 10, 11, 12, 13] [] := ((((((ySm.rf.cut rfl).cut rfl).cut rfl).cut rfl).cut rfl).cut rfl).cut rfl
  have c0 : ∀ j, 7 ≤ j → j ≤ 13 → yz (ycut (ycut (ycut (ycut (ycut (ycut (ycut A 7 0) 8 0) 9 0) 10 0) 11 0) 12 0) 13 0) j = 0 := fun j a b => by
    have q : j = 7 ∨ j = 8 ∨ j = 9 ∨ j = 10 ∨ j = 11 ∨ j = 12 ∨ j = 13 := by omega
    rcases q with rfl | rfl | rfl | rfl | rfl | rfl | rfl <;> simp only [yz_cut0, reduceIte, Nat.reduceEqDiff]
  generalize ycut (ycut (ycut (ycut (ycut (ycut (ycut A 7 0) 8 0) 9 0) 10 0) 11 0) 12 0) 13 0 = B at g0 f0 c0
  unfold wc_Tree_node
  have f : ySm B (yadd (yadd (yadd (yadd (yadd (yadd (yadd B 7 0) 8 0) 9 0) 10 0) 11 0) 12 0) 13 0) [7, 8, 9, 10, 11, 12, 13] [] := ((((((ySm.rf.add rfl).add rfl).add rfl).add rfl).add rfl).add rfl).add rfl
  have z : ∀ j, 7 ≤ j → j ≤ 13 → yz (yadd (yadd (yadd (yadd (yadd (yadd (yadd B 7 0) 8 0) 9 0) 10 0) 11 0) 12 0) 13 0) j = 1 := fun j a c => by
    have q : j = 7 ∨ j = 8 ∨ j = 9 ∨ j = 10 ∨ j = 11 ∨ j = 12 ∨ j = 13 := by omega
    have := c0 j a c
    rcases q with rfl | rfl | rfl | rfl | rfl | rfl | rfl <;> simp only [yz_add, reduceIte, Nat.reduceEqDiff] <;> omega
  have g : ∀ (j : Nat), 7 ≤ j → j ≤ 13 → yget (yadd (yadd (yadd (yadd (yadd (yadd (yadd B 7 0) 8 0) 9 0) 10 0) 11 0) 12 0) 13 0) j 0 = 0 := fun j a c => by
    rw [yget_add, yget_add, yget_add, yget_add, yget_add, yget_add, yget_add]
    repeat' split
    all_goals first | rfl | exact g0 0 j a c
  have q7 := c0 7 (by decide) (by decide)
  have q8 := c0 8 (by decide) (by decide)
  have q9 := c0 9 (by decide) (by decide)
  have q10 := c0 10 (by decide) (by decide)
  have q11 := c0 11 (by decide) (by decide)
  have q12 := c0 12 (by decide) (by decide)
  have q13 := c0 13 (by decide) (by decide)
  generalize yadd (yadd (yadd (yadd (yadd (yadd (yadd B 7 0) 8 0) 9 0) 10 0) 11 0) 12 0) 13 0 = C at f z g
  have F : ySm A C [7, 8, 9, 10, 11, 12, 13] [] := f0.tr f rfl rfl
  refine ⟨by omega, by omega, by omega, by omega, by omega, by omega, by omega, ?_, ?_⟩
  · show zR _
    have : yz (yadd B 7 0) 7 = yz B 7 + 1 := rfl
    exact ⟨by omega, by omega⟩
  show wc_Parser_text (ypv (ypv (ycut (ycut (ycut C 21 0) 22 0) 23 0) 10 0) 11 0) (fun r43 A44 => Q 1 (ypv A44 12 r43)) (fun A51 => Q 0 A51)
  have f2 : ySm C (ypv (ypv (ycut (ycut (ycut C 21 0) 22 0) 23 0) 10 0) 11 0) [21, 22, 23] [10, 11] := ((((ySm.rf.cut rfl).cut rfl).cut rfl).pv rfl).pv rfl
  have v10 : yv (ypv (ypv (ycut (ycut (ycut C 21 0) 22 0) 23 0) 10 0) 11 0) 10 = 0 := rfl
  have v11 : yv (ypv (ypv (ycut (ycut (ycut C 21 0) 22 0) 23 0) 10 0) 11 0) 11 = 0 := rfl
  have z21 : yz (ypv (ypv (ycut (ycut (ycut C 21 0) 22 0) 23 0) 10 0) 11 0) 21 = 0 := by
    show yz (ycut (ycut (ycut C 21 0) 22 0) 23 0) 21 = 0
    simp only [yz_cut0, reduceIte, Nat.reduceEqDiff]
  have z22 : yz (ypv (ypv (ycut (ycut (ycut C 21 0) 22 0) 23 0) 10 0) 11 0) 22 = 0 := by
    show yz (ycut (ycut (ycut C 21 0) 22 0) 23 0) 22 = 0
    simp only [yz_cut0, reduceIte, Nat.reduceEqDiff]
  have z23 : yz (ypv (ypv (ycut (ycut (ycut C 21 0) 22 0) 23 0) 10 0) 11 0) 23 = 0 := by
    show yz (ycut (ycut (ycut C 21 0) 22 0) 23 0) 23 = 0
    simp only [yz_cut0, reduceIte, Nat.reduceEqDiff]
  generalize ypv (ypv (ycut (ycut (ycut C 21 0) 22 0) 23 0) 10 0) 11 0 = D at f2 v10 v11 z21 z22 z23
  obtain ⟨e1, e2, e3, e4, e5, e6⟩ := se
  have FD : ySm A D [7, 8, 9, 10, 11, 12, 13, 21, 22, 23] [10, 11] := (ySm.rf.tr F rfl rfl : ySm A C [7, 8, 9, 10, 11, 12, 13, 21, 22, 23] [10, 11]).tr f2 rfl rfl
  have d14 : yz D 14 = yz A 14 := FD.z 14 rfl
  have d15 : yz D 15 = yz A 15 := FD.z 15 rfl
  have d16 : yz D 16 = yz A 16 := FD.z 16 rfl
  have d2 : yz D 2 = yz A 2 := FD.z 2 rfl
  have d3 : yz D 3 = yz A 3 := FD.z 3 rfl
  have d4 : yz D 4 = yz A 4 := FD.z 4 rfl
  have d5 : yz D 5 = yz A 5 := FD.z 5 rfl
  have d6 : yz D 6 = yz A 6 := FD.z 6 rfl
  have dz : ∀ j, 7 ≤ j → j ≤ 13 → yz D j = 1 := fun j a c => by
    have q : j = 7 ∨ j = 8 ∨ j = 9 ∨ j = 10 ∨ j = 11 ∨ j = 12 ∨ j = 13 := by omega
    rw [f2.z j (by rcases q with rfl | rfl | rfl | rfl | rfl | rfl | rfl <;> rfl)]
    exact z j a c
  have tD : jt D = ((yz A 14 : Nat) : Int) := by unfold jt; rw [d14, v10]; omega
  have sD : jS D := by
    refine ⟨⟨by omega, by omega, by omega, e4.sm FD rfl, e5.sm FD rfl, e6.sm FD rfl⟩, ⟨by omega, by omega⟩, ⟨by omega, by omega⟩, ⟨by rw [dz 7 (by decide) (by decide)]; exact Nat.le_refl _, by rw [dz 7 (by decide) (by decide), dz 8 (by decide) (by decide)], by rw [dz 7 (by decide) (by decide), dz 9 (by decide) (by decide)], by rw [dz 7 (by decide) (by decide), dz 10 (by decide) (by decide)], by rw [dz 7 (by decide) (by decide), dz 11 (by decide) (by decide)], by rw [dz 7 (by decide) (by decide), dz 12 (by decide) (by decide)], by rw [dz 7 (by decide) (by decide), dz 13 (by decide) (by decide)]⟩, ⟨by omega, by omega, by omega⟩, ⟨?_, ?_, ?_, ?_⟩, fun j a c => ?_⟩
    · unfold j2; rw [tD]; omega
    · unfold j3; rw [tD]; omega
    · unfold j21; rw [tD]; omega
    · unfold j23; rw [tD]; omega
    · have q : j = 7 ∨ j = 8 ∨ j = 9 ∨ j = 10 ∨ j = 11 ∨ j = 12 ∨ j = 13 := by omega
      rw [f2.g j 0 (by rcases q with rfl | rfl | rfl | rfl | rfl | rfl | rfl <;> rfl)]
      exact g j a c
  have FJ : jF A D := ySm.rf.tr FD rfl rfl
  have b7 : j7 D ≤ 2601 := by
    unfold j7
    rw [tD, dz 7 (by decide) (by decide), z22]
    omega
  refine cs_text sD b7 v11 (fun A' fE b => h0 A' (FJ.tr fE rfl rfl) b) (fun r A1 x1 u1 n1 => ?_)
  obtain ⟨k, w, rfl, i, e13, t, bw⟩ := n1
  have f3 : ySm A1 (ypv A1 12 (k : Int)) [] [12] := ySm.rf.pv rfl
  have u3 : jU A1 (ypv A1 12 (k : Int)) jO := jU.sm f3 rfl
  have xn := x1.n
  have b71 : yz A1 7 ≤ 2602 := by
    have := xn.2.1
    have := x1.s.a
    unfold j7 at *
    have h : 0 ≤ jt A1 := by unfold jt; omega
    omega
  have d7 := dz 7 (by decide) (by decide)
  exact h1 _ k w _ ((FJ.tr x1.f rfl rfl).tr f3 rfl rfl) (x1.s.sm f3 rfl (by rw [f3.v 10 rfl]; exact ⟨Int.le_refl _, x1.s.a.2⟩) (by rw [f3.v 11 rfl]; exact x1.s.d)) rfl (u3.t t (fun i hi => hi.2)) (fun i hi => by rw [f3.z 7 rfl]; exact hi.2) (by rw [f3.z 7 rfl]; omega) (by rw [f3.z 7 rfl]; omega)
