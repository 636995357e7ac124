/-! THE CLASS'S COMPILING -/
theorem cs_translate {A : cS} (z : v0 A) (h17 : 0 ≤ yv A 17 ∧ yv A 17 ≤ 6000) (h24 : yv A 24 = 0 ∨ yv A 24 = 1) (b1 : yz A 1 ≤ 2) {k w : Nat} {S : Nat → Prop} (t : jT A 614 k w S) (hw : w ≤ 2620) {Q : cS → Prop} (hq : ∀ A', ySm A A' vJs vKs → (0 ≤ yv A' 17 ∧ yv A' 17 ≤ 6000) → (yv A' 24 = 0 ∨ yv A' 24 = 1) → yz A' 2 = yz A 2 → yz A' 5 = yz A 5 → Q A') : wc_Coder_translate A k Q := by
  unfold wc_Coder_translate wc_Scope_clear wc_Scope_cut
  have f1 : ySm A (ypv (ycut (ycut (ycut (ycut (ycut (ycut A 27 0) 28 0) 29 0) 30 0) 31 0) 32 0) 37 0) [27, 28, 29, 30, 31, 32] [37] := ((((((ySm.rf.cut rfl).cut rfl).cut rfl).cut rfl).cut rfl).cut rfl).pv rfl
  have z1 : ∀ j, 27 ≤ j → j ≤ 32 → yz (ypv (ycut (ycut (ycut (ycut (ycut (ycut A 27 0) 28 0) 29 0) 30 0) 31 0) 32 0) 37 0) j = 0 := fun j a b => by
    have q : j = 27 ∨ j = 28 ∨ j = 29 ∨ j = 30 ∨ j = 31 ∨ j = 32 := by omega
    show yz (ycut (ycut (ycut (ycut (ycut (ycut A 27 0) 28 0) 29 0) 30 0) 31 0) 32 0) j = 0
    rcases q with rfl | rfl | rfl | rfl | rfl | rfl <;> simp only [yz_cut0, reduceIte, Nat.reduceEqDiff]
  have v37 : yv (ypv (ycut (ycut (ycut (ycut (ycut (ycut A 27 0) 28 0) 29 0) 30 0) 31 0) 32 0) 37 0) 37 = 0 := rfl
  dsimp only
  generalize ypv (ycut (ycut (ycut (ycut (ycut (ycut A 27 0) 28 0) 29 0) 30 0) 31 0) 32 0) 37 0 = A1 at f1 z1 v37
  -- the library's names
  have AFTER : ∀ A2 : cS, ySm A1 A2 [27, 28, 29, 30, 31] [] → (∀ j, 27 ≤ j → j ≤ 31 → yz A2 j = 18) → wc_Coder_leaveAll (ycut (ycut (ycut A2 24 0) 25 0) 26 0) (fun A22 => ∃ n, n ≤ 640 ∧ wcG_C n 3 k 0 0 (ypv (ypv (ypv (ypv (ypv A22 19 0) 20 0) 21 (-1)) 22 0) 23 0) (fun _ A88 => ∃ n, wc_Coder_translate_67 Q n A88 0)) := fun A2 f2 z2 => by
    unfold wc_Coder_leaveAll
    dsimp only
    have f3 : ySm A2 (ypv (ypv (ypv (ypv (ypv (ypv (ypv (ypv (ypv (ycut (ycut (ycut A2 24 0) 25 0) 26 0) 13 (-1)) 14 (-1)) 15 (-1)) 16 (-1)) 19 0) 20 0) 21 (-1)) 22 0) 23 0) [24, 25, 26] [13, 14, 15, 16, 19, 20, 21, 22, 23] := (((((((((((ySm.rf.cut rfl).cut rfl).cut rfl).pv rfl).pv rfl).pv rfl).pv rfl).pv rfl).pv rfl).pv rfl).pv rfl).pv rfl
    have z3 : ∀ j, (j = 24 ∨ j = 25 ∨ j = 26) → yz (ypv (ypv (ypv (ypv (ypv (ypv (ypv (ypv (ypv (ycut (ycut (ycut A2 24 0) 25 0) 26 0) 13 (-1)) 14 (-1)) 15 (-1)) 16 (-1)) 19 0) 20 0) 21 (-1)) 22 0) 23 0) j = 0 := fun j q => by
      show yz (ycut (ycut (ycut A2 24 0) 25 0) 26 0) j = 0
      rcases q with rfl | rfl | rfl <;> simp only [yz_cut0, reduceIte, Nat.reduceEqDiff]
    have v19 : yv (ypv (ypv (ypv (ypv (ypv (ypv (ypv (ypv (ypv (ycut (ycut (ycut A2 24 0) 25 0) 26 0) 13 (-1)) 14 (-1)) 15 (-1)) 16 (-1)) 19 0) 20 0) 21 (-1)) 22 0) 23 0) 19 = 0 := rfl
    have v23 : yv (ypv (ypv (ypv (ypv (ypv (ypv (ypv (ypv (ypv (ycut (ycut (ycut A2 24 0) 25 0) 26 0) 13 (-1)) 14 (-1)) 15 (-1)) 16 (-1)) 19 0) 20 0) 21 (-1)) 22 0) 23 0) 23 = 0 := rfl
    generalize ypv (ypv (ypv (ypv (ypv (ypv (ypv (ypv (ypv (ycut (ycut (ycut A2 24 0) 25 0) 26 0) 13 (-1)) 14 (-1)) 15 (-1)) 16 (-1)) 19 0) 20 0) 21 (-1)) 22 0) 23 0 = A3 at f3 z3 v19 v23
    have f13 : ySm A A3 vJs vKs := ((ySm.rf.tr f1 rfl rfl : ySm A A1 vJs vKs).tr f2 rfl rfl).tr f3 rfl rfl
    have t3 : vT A A3 := ((vT.sm f1 rfl).tr (vT.sm f2 rfl)).tr (vT.sm f3 rfl)
    have e27 : ∀ j, 27 ≤ j → j ≤ 31 → yz A3 j = 18 := fun j a b => by
      have q : j = 27 ∨ j = 28 ∨ j = 29 ∨ j = 30 ∨ j = 31 := by omega
      rw [f3.z j (by rcases q with rfl | rfl | rfl | rfl | rfl <;> rfl)]
      exact z2 j a b
    have e32 : yz A3 32 = 0 := by rw [f3.z 32 rfl, f2.z 32 rfl]; exact z1 32 (by decide) (by decide)
    have e1 : yz A3 1 = yz A 1 := by rw [f3.z 1 rfl, f2.z 1 rfl, f1.z 1 rfl]
    have c27 := e27 27 (by decide) (by decide)
    have c28 := e27 28 (by decide) (by decide)
    have c29 := e27 29 (by decide) (by decide)
    have c30 := e27 30 (by decide) (by decide)
    have c31 := e27 31 (by decide) (by decide)
    have c24 := z3 24 (by omega)
    have c25 := z3 25 (by omega)
    have c26 := z3 26 (by omega)
    have e17 : yv A3 17 = yv A 17 := by rw [f3.v 17 rfl, f2.v 17 rfl, f1.v 17 rfl]
    have e24 : yv A3 24 = yv A 24 := by rw [f3.v 24 rfl, f2.v 24 rfl, f1.v 24 rfl]
    have e37 : yv A3 37 = 0 := by rw [f3.v 37 rfl, f2.v 37 rfl]; exact v37
    have g3 : vG A3 := ⟨z.k t3, ⟨by omega, by omega, by omega, by omega⟩, by omega, by omega, by omega, by rw [e24]; exact h24, by omega, by decide, by decide, fun i => by
      have : yget A3 32 i = 0 := yget_out (by omega)
      omega⟩
    have R3 : vRm A3 (15 * (w : Int) - 0) (2 * (w : Int)) w := by
      unfold vRm
      omega
    refine ⟨640, Nat.le_refl _, (cs_C 640).2.2.2.1 k 0 0 g3 (t.k t3) (Nat.le_refl _) (by omega) trivial R3 (fun A4 X4 => ?_)⟩
    have f4 := f13.tr X4.f rfl rfl
    have L : ∀ (m : Nat) (A5 : cS) (x : Int), ySm A4 A5 [1] [] → 0 ≤ x → x ≤ 6002 → 6004 - x < m → wc_Coder_translate_67 Q m A5 x := by
      intro m
      induction m with
      | zero => intro A5 x _ _ _ h; omega
      | succ m ih =>
        intro A5 x f5 h0 h1 h2
        have n4 := X4.n
        have z25 : yz A5 25 = yz A4 25 := f5.z 25 rfl
        have b25 : yz A4 25 ≤ 6000 := by unfold vN at n4; omega
        unfold wc_Coder_translate_67
        unfold wc_Coder_translate_67B
        unfold wc_Program_setOperand
        refine ⟨⟨by omega, by omega⟩, fun _ => hq A5 (f4.tr f5 rfl rfl) (by rw [f5.v 17 rfl]; exact X4.g.2.2.1) (by rw [f5.v 24 rfl]; exact X4.g.2.2.2.2.2.1) (by rw [f5.z 2 rfl]; unfold vN at n4; rw [n4.2.2.2.2.2.2.2.2.2.1, f3.z 2 rfl, f2.z 2 rfl, f1.z 2 rfl]) (by rw [f5.z 5 rfl]; unfold vN at n4; rw [n4.2.2.2.2.2.2.2.2.2.2, f3.z 5 rfl, f2.z 5 rfl, f1.z 5 rfl]), fun _ => ⟨⟨by omega, by omega⟩, ih _ _ (f5.set rfl) (by omega) (by omega) (by omega)⟩⟩
    exact ⟨6005, L _ A4 0 ySm.rf (by decide) (by decide) (by decide)⟩
  have L : ∀ (m : Nat) (A2 : cS) (i : Nat), ySm A1 A2 [27, 28, 29, 30, 31] [] → (∀ j, 27 ≤ j → j ≤ 31 → yz A2 j = i) → i ≤ 18 → 18 - i < m → wc_Scope_clear_20 (fun A2 => wc_Coder_leaveAll (ycut (ycut (ycut A2 24 0) 25 0) 26 0) (fun A22 => ∃ n, n ≤ 640 ∧ wcG_C n 3 k 0 0 (ypv (ypv (ypv (ypv (ypv A22 19 0) 20 0) 21 (-1)) 22 0) 23 0) (fun _ A88 => ∃ n, wc_Coder_translate_67 Q n A88 0))) m A2 i := by
    intro m
    induction m with
    | zero => intro A2 i _ _ _ h; omega
    | succ m ih =>
      intro A2 i f2 z2 h0 h1
      unfold wc_Scope_clear_20
      unfold wc_Scope_clear_20B
      unfold wc_Scope_put
      have c27 := z2 27 (by decide) (by decide)
      have c28 := z2 28 (by decide) (by decide)
      have c29 := z2 29 (by decide) (by decide)
      have c30 := z2 30 (by decide) (by decide)
      have c31 := z2 31 (by decide) (by decide)
      refine ⟨fun q => AFTER A2 f2 (fun j a b => by rw [z2 j a b]; omega), fun q => ⟨⟨by omega, by omega⟩, ⟨by omega, by omega⟩, by omega, by omega, by omega, by omega, by omega, ?_, ⟨by omega, by omega⟩, ?_⟩⟩
      · show zR (((yz A2 27 + 1 : Nat) : Int) - 1)
        exact ⟨by omega, by omega⟩
      · have e : (i : Int) + 1 = ((i + 1 : Nat) : Int) := by omega
        rw [e]
        refine ih _ (i + 1) (((((f2.add rfl).add rfl).add rfl).add rfl).add rfl) (fun j a b => ?_) (by omega) (by omega)
        have q : j = 27 ∨ j = 28 ∨ j = 29 ∨ j = 30 ∨ j = 31 := by omega
        rw [← z2 j a b]
        rcases q with rfl | rfl | rfl | rfl | rfl <;> rfl
  exact ⟨19, L 19 A1 0 ySm.rf (fun j a b => z1 j a (by omega)) (by decide) (by decide)⟩
theorem cs_judge {A : cS} (b2 : yz A 2 ≤ 80000) (b5 : yz A 5 ≤ 2000) {Q : cS → Prop} (hq : ∀ A', ySm A A' [] [4, 5, 6] → Q A') : wc_Program_judge A Q := by
  have E : ∀ {A1 : cS} {x : Int}, ySm A A1 [] [4, 5, 6] → Q (ypv A1 6 x) := fun f => hq _ (f.pv rfl)
  have B : wc_Program_blame A 7 0 (fun A34 => ((¬ (yv A34 4) = 0 → Q (ypv A34 6 0)) ∧ ((yv A34 4) = 0 → Q (ypv A34 6 1)))) := cs_blame A _ _ (fun A1 f1 => ⟨fun _ => E (ySm.rf.tr f1 rfl rfl), fun _ => E (ySm.rf.tr f1 rfl rfl)⟩)
  have L : ∀ (m : Nat) (x y : Int), 0 ≤ y → y ≤ 2000 → 2001 - y < m → wc_Program_judge_34 Q m A x y := by
    intro m
    induction m with
    | zero => intro x y _ _ h; omega
    | succ m ih =>
      intro x y h0 h1 h2
      unfold wc_Program_judge_34
      unfold wc_Program_judge_34B
      exact ⟨fun _ => ⟨fun _ => ⟨fun _ => E ySm.rf, fun _ => E ySm.rf⟩, fun _ => ⟨fun _ => B, fun _ => ⟨fun _ => ⟨fun _ => E ySm.rf, fun _ => E ySm.rf⟩, fun _ => B⟩⟩⟩, fun _ => ⟨fun _ => ⟨⟨by omega, by omega⟩, ih _ _ (by omega) (by omega) (by omega)⟩, fun _ => ⟨fun _ => ⟨⟨by omega, by omega⟩, ih _ _ (by omega) (by omega) (by omega)⟩, fun _ => ⟨⟨by omega, by omega⟩, ih _ _ (by omega) (by omega) (by omega)⟩⟩⟩⟩
  have L0 : ∀ x, ∃ n, wc_Program_judge_34 Q n A x 0 := fun x => ⟨2002, L 2002 x 0 (by decide) (by decide) (by decide)⟩
  unfold wc_Program_judge wc_Program_words
  exact ⟨⟨by omega, by omega⟩, fun _ => L0 _, fun _ => ⟨fun _ => L0 _, fun _ => L0 _⟩⟩
theorem cs_pclear (A : cS) (a : Int) {Q : cS → Prop} (hq : ∀ A', ySm A A' [1, 2, 3, 4, 5, 6] [2, 3, 4, 5, 6] → yz A' 1 = 2 → yz A' 2 = 100 → (yz A' 3 = 0 ∧ yz A' 4 = 0 ∧ yz A' 5 = 0 ∧ yz A' 6 = 0) → yv A' 2 = a → Q A') : wc_Program_clear A a Q := by
  unfold wc_Program_clear
  have f0 : ySm A (ycut (ycut (ycut (ycut (ycut (ycut A 1 0) 2 0) 3 0) 4 0) 5 0) 6 0) [1, 2, 3, 4, 5, 6] [2, 3, 4, 5, 6] := (((((ySm.rf.cut rfl).cut rfl).cut rfl).cut rfl).cut rfl).cut rfl
  have z0 : ∀ j, 1 ≤ j → j ≤ 6 → yz (ycut (ycut (ycut (ycut (ycut (ycut A 1 0) 2 0) 3 0) 4 0) 5 0) 6 0) j = 0 := fun j a b => by
    have q : j = 1 ∨ j = 2 ∨ j = 3 ∨ j = 4 ∨ j = 5 ∨ j = 6 := by omega
    rcases q with rfl | rfl | rfl | rfl | rfl | rfl <;> simp only [yz_cut0, reduceIte, Nat.reduceEqDiff]
  generalize ycut (ycut (ycut (ycut (ycut (ycut A 1 0) 2 0) 3 0) 4 0) 5 0) 6 0 = A0 at f0 z0
  have L : ∀ (m : Nat) (A1 : cS) (i : Nat), ySm A0 A1 [2] [] → yz A1 2 = i → i ≤ 100 → 100 - i < m → wc_Program_clear_50 Q m A1 a i := by
    intro m
    induction m with
    | zero => intro A1 i _ _ _ h; omega
    | succ m ih =>
      intro A1 i f1 z1 h0 h1
      have c1 : yz A1 1 = 0 := by rw [f1.z 1 rfl]; exact z0 1 (by decide) (by decide)
      unfold wc_Program_clear_50
      unfold wc_Program_clear_50B
      refine ⟨fun q => ?_, fun q => ⟨by omega, ⟨by omega, by omega⟩, ?_⟩⟩
      · unfold wc_Program_emit
        have f2 : ySm A1 (ypv (ypv (ypv (ypv (ypv (yadd (yadd A1 1 0) 1 0) 2 a) 3 (-1)) 4 0) 5 0) 6 0) [1] [2, 3, 4, 5, 6] := ((((((ySm.rf.add rfl).add rfl).pv rfl).pv rfl).pv rfl).pv rfl).pv rfl
        have e1 : yz (yadd A1 1 0) 1 = yz A1 1 + 1 := rfl
        have e2 : yz (ypv (ypv (ypv (ypv (ypv (yadd (yadd A1 1 0) 1 0) 2 a) 3 (-1)) 4 0) 5 0) 6 0) 1 = yz A1 1 + 1 + 1 := rfl
        have e3 : yz (yadd (yadd A1 1 0) 1 0) 1 = yz A1 1 + 1 + 1 := rfl
        refine ⟨by omega, by omega, ⟨by omega, by omega⟩, hq _ ((f0.tr f1 rfl rfl).tr f2 rfl rfl) (by omega) (by rw [f2.z 2 rfl]; omega) ⟨?_, ?_, ?_, ?_⟩ rfl⟩
        · rw [f2.z 3 rfl, f1.z 3 rfl]; exact z0 3 (by decide) (by decide)
        · rw [f2.z 4 rfl, f1.z 4 rfl]; exact z0 4 (by decide) (by decide)
        · rw [f2.z 5 rfl, f1.z 5 rfl]; exact z0 5 (by decide) (by decide)
        · rw [f2.z 6 rfl, f1.z 6 rfl]; exact z0 6 (by decide) (by decide)
      · have e : (i : Int) + 1 = ((i + 1 : Nat) : Int) := by omega
        rw [e]
        exact ih _ (i + 1) (f1.add rfl) (by show yz A1 2 + 1 = _; omega) (by omega) (by omega)
  exact ⟨101, L 101 A0 0 ySm.rf (z0 2 (by decide) (by decide)) (by decide) (by decide)⟩
/-- the class between calls -/
def cI (A : cS) : Prop := (0 ≤ yv A 7 ∧ yv A 7 ≤ 500) ∧ ((yz A 18 : Nat) : Int) ≤ 100000 ∧ (yz A 14 = yz A 15 ∧ yz A 14 = yz A 16) ∧ (yrg A 14 0 99 ∧ yrg A 16 0 1400 ∧ yrg A 17 (-1) 201) ∧ (0 ≤ yv A 17 ∧ yv A 17 ≤ 6000) ∧ (yv A 24 = 0 ∨ yv A 24 = 1)
abbrev cJs : List Nat := [0, 1, 2, 3, 4, 5, 6, 7, 8, 9, 10, 11, 12, 13, 14, 15, 16, 17, 18, 19, 20, 21, 22, 23, 24, 25, 26, 27, 28, 29, 30, 31, 32, 33]
abbrev cKs : List Nat := [1, 2, 3, 4, 5, 6, 8, 9, 10, 11, 12, 13, 14, 15, 16, 17, 18, 19, 20, 21, 22, 23, 24, 37, 38, 39, 40]
theorem cs_compile {A : cS} (I : cI A) (hn : ((yz A 0 : Nat) : Int) ≤ 1280) {Q : Int → cS → Prop} (hq : ∀ r A', ySm A A' cJs cKs → cI A' → yz A' 0 = 0 → yv A' 2 = yv A 0 → Q r A') : wc_W_compile A Q := by
  obtain ⟨i7, i18, i14, ⟨r14, r16, r17⟩, i17, i24⟩ := I
  have C42 : ∀ A1 : cS, ySm A A1 cJs cKs → yv A1 2 = yv A 0 → cI A1 → yz A1 2 ≤ 80000 → yz A1 5 ≤ 2000 → wc_W_compile_42 Q A1 := fun A1 f1 e1 I1 b2 b5 => by
    unfold wc_W_compile_42
    refine cs_judge b2 b5 (fun A2 f2 => ?_)
    unfold wc_Program_faultKind wc_Program_words wc_Program_faultPlace
    have T : ∀ {A3 : cS}, ySm A2 A3 [0] [1] → cI A3 := fun {A3} f3 => by
      have f : ySm A1 A3 [0] [1, 4, 5, 6] := (ySm.rf.tr f2 rfl rfl : ySm A1 A2 [0] [1, 4, 5, 6]).tr f3 rfl rfl
      obtain ⟨j7, j18, j14, ⟨q14, q16, q17⟩, j17, j24⟩ := I1
      refine ⟨by rw [f.v 7 rfl]; exact j7, by rw [f.z 18 rfl]; exact j18, by rw [f.z 14 rfl, f.z 15 rfl, f.z 16 rfl]; exact j14, ⟨q14.sm f rfl, q16.sm f rfl, q17.sm f rfl⟩, by rw [f.v 17 rfl]; exact j17, by rw [f.v 24 rfl]; exact j24⟩
    have z0 : yz (ycut A2 0 0) 0 = 0 := by rw [yz_cut0]; rfl
    have fc : ySm A2 (ycut A2 0 0) [0] [1] := ySm.rf.cut rfl
    have f12 : ySm A A2 cJs cKs := f1.tr f2 rfl rfl
    exact ⟨fun _ => hq _ _ (f12.tr (fc.pv (k := 1) rfl) rfl rfl) (T (fc.pv rfl)) z0 (by rw [(fc.pv (k := 1) rfl).v 2 rfl, f2.v 2 rfl]; exact e1), fun _ z _ _ => hq _ _ (f12.tr fc rfl rfl) (T fc) z0 (by rw [fc.v 2 rfl, f2.v 2 rfl]; exact e1)⟩
  unfold wc_W_compile
  refine cs_pclear A _ (fun A1 f1 c1 c2 c3 v2 => ?_)
  refine cs_scan (by rw [f1.z 0 rfl]; exact hn) (by rw [f1.v 7 rfl]; exact i7) (by rw [f1.z 18 rfl]; exact i18) (by rw [f1.v 7 rfl, f1.z 18 rfl]; omega) (by rw [f1.z 14 rfl, f1.z 15 rfl, f1.z 16 rfl]; exact i14) (r14.sm f1 rfl) (r16.sm f1 rfl) (r17.sm f1 rfl) (fun A2 f2 se sc => ?_)
  have f12 : ySm A A2 cJs cKs := (ySm.rf.tr f1 rfl rfl : ySm A A1 cJs cKs).tr f2 rfl rfl
  have I2 : cI A2 := by
    obtain ⟨e1, e2, e3, e4, e5, e6⟩ := se
    obtain ⟨s1, s2, s3, ⟨s4, s5, s6⟩⟩ := sc
    refine ⟨by rw [f2.v 7 rfl, f1.v 7 rfl]; exact i7, by omega, ⟨e1, e2⟩, ⟨e4, e5, e6⟩, by rw [f2.v 17 rfl, f1.v 17 rfl]; exact i17, by rw [f2.v 24 rfl, f1.v 24 rfl]; exact i24⟩
  have z2 : yz A2 2 = 100 := by rw [f2.z 2 rfl]; exact c2
  have z1 : yz A2 1 = 2 := by rw [f2.z 1 rfl]; exact c1
  have z3 : yz A2 3 = 0 ∧ yz A2 4 = 0 ∧ yz A2 5 = 0 ∧ yz A2 6 = 0 := by rw [f2.z 3 rfl, f2.z 4 rfl, f2.z 5 rfl, f2.z 6 rfl]; exact c3
  have IJ : ∀ {A3 : cS}, jF A2 A3 → cI A3 := fun {A3} f => by
    obtain ⟨j7, j18, j14, ⟨q14, q16, q17⟩, j17, j24⟩ := I2
    exact ⟨by rw [f.v 7 rfl]; exact j7, by rw [f.z 18 rfl]; exact j18, by rw [f.z 14 rfl, f.z 15 rfl, f.z 16 rfl]; exact j14, ⟨q14.sm f rfl, q16.sm f rfl, q17.sm f rfl⟩, by rw [f.v 17 rfl]; exact j17, by rw [f.v 24 rfl]; exact j24⟩
  refine cs_reads se (by omega) z3 (fun A3 f3 b3 => ⟨fun _ => C42 A3 (f12.tr f3 rfl rfl) (by rw [f3.v 2 rfl, f2.v 2 rfl]; exact v2) (IJ f3) b3.1 b3.2, fun q => absurd rfl q⟩) (fun A3 k w S f3 s3 hr t hS hw7 h7 => ⟨fun q => absurd q (by decide), fun _ => ?_⟩)
  have I3 := IJ f3
  have z31 : yz A3 1 = 2 := by rw [f3.z 1 rfl]; exact z1
  have b5 := s3.b5
  have v0' : v0 A3 := ⟨s3.z 7 (by decide) (by decide), s3.z 9 (by decide) (by decide), s3.z 11 (by decide) (by decide), s3.z 13 (by decide) (by decide)⟩
  unfold wc_Parser_root
  rw [hr]
  obtain ⟨j7, j18, j14, ⟨q14, q16, q17⟩, j17, j24⟩ := I3
  have TR := cs_translate (Q := fun A37 => wc_W_compile_42 Q A37) v0' j17 j24 (by omega) t (by omega) (fun A4 f4 h17 h24 e2 e5 => C42 A4 ((f12.tr f3 rfl rfl : ySm A A3 cJs cKs).tr f4 rfl rfl) (by rw [f4.v 2 rfl, f3.v 2 rfl, f2.v 2 rfl]; exact v2) ⟨by rw [f4.v 7 rfl]; exact j7, by rw [f4.z 18 rfl]; exact j18, by rw [f4.z 14 rfl, f4.z 15 rfl, f4.z 16 rfl]; exact j14, ⟨q14.sm f4 rfl, q16.sm f4 rfl, q17.sm f4 rfl⟩, h17, h24⟩ (by rw [e2]; exact b5.1) (by rw [e5]; exact b5.2))
  exact TR
/-! THE CLASS'S OTHER CALLS OVER ITS ROWS -/
theorem cI.sm {A A' : cS} {js ks : List Nat} (I : cI A) (f : ySm A A' js ks) (hj : ([14, 15, 16, 17, 18, 19, 20].all fun j => !js.contains j) = true) (hk : ([7, 17, 24].all fun j => !ks.contains j) = true) : cI A' := by
  have J : ∀ j, ([14, 15, 16, 17, 18, 19, 20] : List Nat).contains j = true → js.contains j = false := fun j h1 => by
    have := List.all_eq_true.mp hj j (by simpa using h1)
    simpa using this
  have K : ∀ j, ([7, 17, 24] : List Nat).contains j = true → ks.contains j = false := fun j h1 => by
    have := List.all_eq_true.mp hk j (by simpa using h1)
    simpa using this
  obtain ⟨j7, j18, j14, ⟨q14, q16, q17⟩, j17, j24⟩ := I
  exact ⟨by rw [f.v 7 (K 7 rfl)]; exact j7, by rw [f.z 18 (J 18 rfl)]; exact j18, by rw [f.z 14 (J 14 rfl), f.z 15 (J 15 rfl), f.z 16 (J 16 rfl)]; exact j14, ⟨q14.sm f (J 14 rfl), q16.sm f (J 16 rfl), q17.sm f (J 17 rfl)⟩, by rw [f.v 17 (K 17 rfl)]; exact j17, by rw [f.v 24 (K 24 rfl)]; exact j24⟩
theorem cs_addBytes {A : cS} (b : yz A 0 ≤ 5996) (a : Int) {Q : cS → Prop} (hq : ∀ A', ySm A A' [0] [] → yz A' 0 = yz A 0 + 4 → Q A') : wc_W_addBytes A a Q := by
  have L : ∀ (m : Nat) (A1 : cS) (i : Nat), ySm A A1 [0] [] → yz A1 0 = yz A 0 + i → i ≤ 4 → 4 - i < m → wc_W_addBytes_3 Q m A1 a (24 - 8 * (i : Int)) := by
    intro m
    induction m with
    | zero => intro A1 i _ _ _ h; omega
    | succ m ih =>
      intro A1 i f z h0 h1
      unfold wc_W_addBytes_3
      unfold wc_W_addBytes_3B
      refine ⟨fun q => hq A1 f (by omega), fun q => ⟨by omega, ⟨by omega, by omega⟩, ?_⟩⟩
      have e : 24 - 8 * (i : Int) + (-8) = 24 - 8 * ((i + 1 : Nat) : Int) := by omega
      rw [e]
      exact ih _ (i + 1) (f.add rfl) (by show yz A1 0 + 1 = _; omega) (by omega) (by omega)
  unfold wc_W_addBytes
  exact ⟨5, L 5 A 0 ySm.rf rfl (by decide) (by decide)⟩
theorem cs_feed {A : cS} (I : cI A) (b : yz A 0 ≤ 6000) (a0 a1 a2 a3 a4 : Int) {Q : Int → cS → Prop} (hq : ∀ r A', ySm A A' [0] [] → cI A' → yz A' 0 = (if yz A 0 + 20 ≤ 6000 then yz A 0 + 20 else yz A 0) → Q r A') : wc_W_feed A a0 a1 a2 a3 a4 Q := by
  unfold wc_W_feed
  refine ⟨⟨by omega, by omega⟩, fun q => ?_, fun q => hq 0 A ySm.rf I (by rw [if_neg (by omega)])⟩
  refine cs_addBytes (by omega) _ (fun A1 f1 z1 => cs_addBytes (by omega) _ (fun A2 f2 z2 => cs_addBytes (by omega) _ (fun A3 f3 z3 => cs_addBytes (by omega) _ (fun A4 f4 z4 => cs_addBytes (by omega) _ (fun A5 f5 z5 => ?_)))))
  have f := (((f1.tr f2 rfl rfl : ySm A A2 [0] []).tr f3 rfl rfl : ySm A A3 [0] []).tr f4 rfl rfl : ySm A A4 [0] []).tr f5 rfl rfl (js := [0]) (ks := [])
  exact hq 1 A5 f (I.sm f rfl rfl) (by rw [if_pos (by omega)]; omega)
theorem cs_end {A : cS} (I : cI A) (a : Int) {Q : Int → cS → Prop} (hq : ∀ r A', ySm A A' [0] [] → cI A' → (yz A' 0 : Int) = (if 0 ≤ a ∧ a ≤ yz A 0 then a else (yz A 0 : Int)) → Q r A') : wc_W_end A a Q := by
  have s : Q 0 A → Q 0 A := id
  unfold wc_W_end
  refine ⟨fun q => hq 0 A ySm.rf I (by rw [if_neg (by omega)]), fun q => ⟨fun q2 => ?_, fun q2 => hq 0 A ySm.rf I (by rw [if_neg (by omega)])⟩⟩
  have f : ySm A (ycut A 0 a) [0] [] := ySm.rf.cut rfl
  refine hq 1 _ f (I.sm f rfl rfl) ?_
  rw [if_pos ⟨by omega, q2⟩, yz_cut, if_pos rfl]
  split <;> omega
