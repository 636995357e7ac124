/-! THE CLASS'S SCANNER: STRINGS, SECTIONS, SIGNS, THE WHOLE -/
theorem cs_string {A : cS} {k : Int} (h : sC A k) (e8 : yv A 8 = k) (h0 : 0 ≤ k) (hk : k < ((yz A 0 : Nat) : Int)) {Q : cS → Prop} (hq : ∀ A', sF7 A A' → sC A' (yv A' 8) → k + 1 ≤ yv A' 8 → yv A' 8 ≤ ((yz A 0 : Nat) : Int) + 10 → Q A') : wc_Scanner_string A k Q := by
  have hn := h.1
  have h17 := h.2.2.1
  have fin : ∀ (A1 : cS) (x3 x4 : Int), ySm A A1 [17] [8] → ((yz A1 17 : Nat) : Int) = ((yz A 17 : Nat) : Int) + 1 + x4 → yrg A1 17 (-1) 201 → 0 ≤ x4 → x4 ≤ 201 → k + 1 + x4 ≤ yv A1 8 → yv A1 8 ≤ ((yz A 0 : Nat) : Int) + 2 → wc_Scanner_string_80 Q A1 k ((yz A 17 : Nat) : Int) x3 := fun A1 x3 x4 f z g x0 x1 p0 p1 => by
    have P : ∀ kind, 0 ≤ kind ∧ kind ≤ 99 → wc_Scanner_put (yset A1 17 ((yz A 17 : Nat) : Int) ((((yz A1 17 : Nat) : Int) - ((yz A 17 : Nat) : Int)) - 1)) kind ((yz A 17 : Nat) : Int) k (fun A10 => (zR ((yv A10 8) + 1)) ∧ Q (ypv A10 8 ((yv A10 8) + 1))) := fun kind hkk => by
      have f2 : ySm A (yset A1 17 ((yz A 17 : Nat) : Int) ((((yz A1 17 : Nat) : Int) - ((yz A 17 : Nat) : Int)) - 1)) [17] [8] := f.set rfl
      have g2 : yrg (yset A1 17 ((yz A 17 : Nat) : Int) ((((yz A1 17 : Nat) : Int) - ((yz A 17 : Nat) : Int)) - 1)) 17 (-1) 201 := g.set (fun _ => by omega)
      have z2 : yz (yset A1 17 ((yz A 17 : Nat) : Int) ((((yz A1 17 : Nat) : Int) - ((yz A 17 : Nat) : Int)) - 1)) 17 = yz A1 17 := rfl
      have v2 : yv (yset A1 17 ((yz A 17 : Nat) : Int) ((((yz A1 17 : Nat) : Int) - ((yz A 17 : Nat) : Int)) - 1)) 8 = yv A1 8 := rfl
      generalize yset A1 17 ((yz A 17 : Nat) : Int) ((((yz A1 17 : Nat) : Int) - ((yz A 17 : Nat) : Int)) - 1) = A2 at f2 g2 z2 v2
      have d : sD A2 k (yv A1 8) := by
        obtain ⟨c1, c2, c3, c4⟩ := h
        refine ⟨by rw [f2.z 0 rfl]; exact c1, c2.sm f2 rfl rfl, ⟨by rw [z2]; omega, g2⟩, ?_⟩
        unfold sN' at c4 ⊢
        rw [f2.z 18 rfl, f2.z 19 rfl, f2.z 20 rfl]
        exact ⟨by omega, by omega, by omega⟩
      refine cs_putD d (by omega) (by omega) hkk ⟨h0, by omega⟩ (fun A' f' s => ?_)
      have v3 : yv A' 8 = yv A1 8 := by rw [f'.v 8 rfl, v2]
      refine ⟨⟨by omega, by omega⟩, hq _ (((ySm.rf.tr f2 rfl rfl : ySm A A2 [14, 15, 16, 17, 18, 19, 20] [8, 9]).tr f' rfl rfl).pv rfl) ?_ ?_ ?_⟩
      · have e : yv (ypv A' 8 (yv A' 8 + 1)) 8 = yv A' 8 + 1 := rfl
        rw [e, v3]
        exact s.p8.le (by omega)
      · show k + 1 ≤ yv A' 8 + 1
        omega
      · show yv A' 8 + 1 ≤ _
        omega
    unfold wc_Scanner_string_80
    exact ⟨⟨by omega, by omega⟩, fun _ => P 1 (by decide), fun _ => ⟨fun _ => P 1 (by decide), fun _ => ⟨fun _ => P 1 (by decide), fun _ => P 4 (by decide)⟩⟩⟩
  have L : ∀ (m : Nat) (A1 : cS) (x3 x4 : Int), ySm A A1 [17] [8] → ((yz A1 17 : Nat) : Int) = ((yz A 17 : Nat) : Int) + 1 + x4 → yrg A1 17 (-1) 201 → 0 ≤ x4 → x4 ≤ 201 → k + 1 + x4 ≤ yv A1 8 → (yv A1 8 ≤ ((yz A 0 : Nat) : Int) + 1 ∨ x3 < 0 ∧ yv A1 8 ≤ ((yz A 0 : Nat) : Int) + 2) → 201 - x4 < m → wc_Scanner_string_31 Q m A1 k ((yz A 17 : Nat) : Int) x3 x4 := by
    intro m
    induction m with
    | zero => intro A1 x3 x4 _ _ _ _ _ _ _ h; omega
    | succ m ih =>
      intro A1 x3 x4 f z g x0 x1 p0 p1 hm
      have e0 : yz A1 0 = yz A 0 := f.z 0 rfl
      unfold wc_Scanner_string_31
      unfold wc_Scanner_string_31B
      refine ⟨fun _ => fin A1 x3 x4 f z g x0 x1 p0 (by omega), fun c => ⟨fun _ => fin A1 x3 x4 f z g x0 x1 p0 (by omega), fun c2 => ⟨fun _ => fin A1 x3 x4 f z g x0 x1 p0 (by omega), fun c3 => ?_⟩⟩⟩
      refine cs_quoted 34 (by omega) (by omega) (fun r p r0 r1 q0 q1 q2 q3 => ⟨?_, ⟨by omega, by omega⟩, ?_⟩)
      · show yz A1 17 < 2600
        omega
      · refine ih (yadd (ypv A1 8 p) 17 r) r (x4 + 1) ((f.pv rfl).add rfl) ?_ (g.pv.add (fun _ => by omega)) (by omega) (by omega) ?_ ?_ (by omega)
        · show ((yz A1 17 + 1 : Nat) : Int) = _
          omega
        · show k + 1 + (x4 + 1) ≤ p
          omega
        · show p ≤ _ ∨ r < 0 ∧ p ≤ _
          rw [e0] at q2 q3
          by_cases c4 : 0 ≤ r
          · have := q3 c4
            omega
          · omega
  unfold wc_Scanner_string
  refine ⟨by omega, ⟨by omega, by omega⟩, 202, L 202 _ 0 0 ((ySm.rf.add rfl).pv rfl) ?_ (h17.2.add (fun _ => by decide)).pv (by decide) (by decide) ?_ ?_ (by decide)⟩
  · show ((yz A 17 + 1 : Nat) : Int) = _
    omega
  · show k + 1 + 0 ≤ yv A 8 + 1
    omega
  · show yv A 8 + 1 ≤ _ ∨ _
    omega
theorem cs_section {A : cS} {k : Int} (h : sC A k) (e8 : yv A 8 = k) (h0 : 0 ≤ k) (hk : k < ((yz A 0 : Nat) : Int)) {Q : cS → Prop} (hq : ∀ A', sF7 A A' → sC A' (yv A' 8) → k + 1 ≤ yv A' 8 → yv A' 8 ≤ ((yz A 0 : Nat) : Int) + 10 → Q A') : wc_Scanner_section A k Q := by
  have hn := h.1
  have fin : ∀ (A1 : cS) (c r tag : Int), k + 2 ≤ r → r ≤ ((yz A 0 : Nat) : Int) + 2 → ySm A A1 [18, 19, 20] [] → sD A1 k r → wc_Scanner_section_47 Q A1 k c r tag := fun A1 c r tag r0 r1 f d => by
    have P : ∀ kind, 0 ≤ kind ∧ kind ≤ 99 → wc_Scanner_put A1 kind tag k (fun A6 => Q (ypv A6 8 r)) := fun kind hkk => cs_putD d (by omega) (by omega) hkk ⟨h0, by omega⟩ (fun A' f' s => hq _ (((ySm.rf.tr f rfl rfl : ySm A A1 [14, 15, 16, 17, 18, 19, 20] [8, 9]).tr f' rfl rfl).pv rfl) s.p8 (by show k + 1 ≤ r; omega) (by show r ≤ _; omega))
    have T : ∀ y0, wc_Scanner_section_76 Q A1 k c r tag y0 := fun y0 => by
      unfold wc_Scanner_section_76
      exact ⟨fun _ => ⟨fun _ => P 6 (by decide), fun _ => P 5 (by decide)⟩, fun _ => P 1 (by decide)⟩
    unfold wc_Scanner_section_47
    exact ⟨fun _ => ⟨⟨by omega, by omega⟩, fun _ => T _, fun _ => T _⟩, fun _ => ⟨fun _ => T _, fun _ => ⟨⟨by omega, by omega⟩, fun _ => T _, fun _ => T _⟩⟩⟩
  unfold wc_Scanner_section
  refine ⟨⟨by omega, by omega⟩, ⟨by omega, by omega⟩, cs_restEnd (k + 2) (by omega) hn (by omega) (fun r r0 r1 _ => ⟨fun _ => fin A _ r 0 r0 (by omega) ySm.rf (h.to (by omega)), fun c => ?_⟩)⟩
  refine cs_idOf (e := 61 + k) (l := 500 + k) h.2.2.2 (k + 2) r (by omega) r0 (by omega) (by omega) (by omega) (fun id A1 f1 n1 i0 i1 => ⟨⟨by omega, by omega⟩, fin A1 _ r _ r0 (by omega) f1 (h.id (p := r) (by omega) (d := r - (k + 2)) (by omega) (ySm.rf.tr f1 rfl rfl) n1)⟩)
theorem cs_sign {A : cS} {k : Int} (h : sC A k) (e8 : yv A 8 = k) (h0 : 0 ≤ k) (hk : k < ((yz A 0 : Nat) : Int)) (c : Int) {Q : cS → Prop} (hq : ∀ A', sF7 A A' → sC A' (yv A' 8) → k + 1 ≤ yv A' 8 → yv A' 8 ≤ ((yz A 0 : Nat) : Int) + 10 → Q A') : wc_Scanner_sign A k c Q := by
  have hn := h.1
  have P : ∀ kind p, 0 ≤ kind ∧ kind ≤ 99 → k + 1 ≤ p → p ≤ k + 2 → wc_Scanner_put (ypv A 8 p) kind 0 k Q := fun kind p hkk hp hp2 => cs_putD (A := ypv A 8 p) (h.to (by omega : k ≤ p)).p8 (by omega) hp hkk ⟨h0, by omega⟩ (fun A' f s => hq A' ((ySm.rf.pv rfl : ySm A (ypv A 8 p) [14, 15, 16, 17, 18, 19, 20] [8, 9]).tr f rfl rfl) (by rw [f.v 8 rfl]; exact s) (by rw [f.v 8 rfl]; exact hp) (by rw [f.v 8 rfl]; show p ≤ _; omega))
  have T : ∀ x3 kind, 0 ≤ kind ∧ kind ≤ 99 → wc_Scanner_sign_31 Q A k x3 kind := fun x3 kind hkk => by
    unfold wc_Scanner_sign_31
    rw [e8]
    exact ⟨fun _ => ⟨⟨by omega, by omega⟩, P _ _ hkk (by omega) (by omega)⟩, fun _ => ⟨⟨by omega, by omega⟩, P _ _ hkk (by omega) (by omega)⟩⟩
  have S : wc_Scanner_single A c (fun r13 A14 => wc_Scanner_sign_31 Q A14 k 1 r13) := by
    unfold wc_Scanner_single
    refine ⟨fun _ => T _ _ (by decide), fun _ => T _ _ (by decide), fun _ => T _ _ (by decide), fun _ => T _ _ (by decide), fun _ => T _ _ (by decide), fun _ => T _ _ (by decide), fun _ => T _ _ (by decide), fun _ => T _ _ (by decide), fun _ => T _ _ (by decide), fun _ => T _ _ (by decide), fun _ => T _ _ (by decide), fun _ => T _ _ (by decide), fun _ => T _ _ (by decide), fun _ => T _ _ (by decide), fun _ => T _ _ (by decide), fun _ => T _ _ (by decide), fun _ => T _ _ (by decide), fun _ => T _ _ (by decide), fun _ _ _ _ _ _ _ _ _ _ _ _ _ _ _ _ _ _ => T _ _ (by decide)⟩
  have K : ∀ r : Int, 0 ≤ r ∧ r ≤ 99 → ((r = 1 → wc_Scanner_single A c (fun r13 A14 => wc_Scanner_sign_31 Q A14 k r r13)) ∧ (¬ r = 1 → wc_Scanner_sign_31 Q A k r r)) := fun r hr => ⟨fun e => by subst e; exact S, fun _ => T _ _ hr⟩
  unfold wc_Scanner_sign
  rw [e8]
  refine ⟨⟨by omega, by omega⟩, ?_⟩
  unfold wc_Scanner_doubled
  exact ⟨fun _ => ⟨fun _ => K _ (by decide), fun _ => K _ (by decide)⟩, fun _ => ⟨fun _ => K _ (by decide), fun _ => K _ (by decide)⟩, fun _ => ⟨fun _ => ⟨fun _ => K _ (by decide), fun _ => K _ (by decide)⟩, fun _ => K _ (by decide)⟩, fun _ => ⟨fun _ => ⟨fun _ => K _ (by decide), fun _ => K _ (by decide)⟩, fun _ => K _ (by decide)⟩, fun _ => ⟨fun _ => K _ (by decide), fun _ => K _ (by decide)⟩, fun _ _ _ _ _ => K _ (by decide)⟩
theorem cs_token {A : cS} (h : sC A (yv A 8)) (h0 : 0 ≤ yv A 8) (hk : yv A 8 < ((yz A 0 : Nat) : Int)) {Q : cS → Prop} (hq : ∀ A', sF7 A A' → sC A' (yv A' 8) → yv A 8 + 1 ≤ yv A' 8 → yv A' 8 ≤ ((yz A 0 : Nat) : Int) + 10 → Q A') : wc_Scanner_token A Q := by
  have hn := h.1
  have hx : ∀ y0, wc_Scanner_token_82 Q A (yv A 8) y0 := fun y0 => by
    unfold wc_Scanner_token_82
    have a1 := cs_number h h0 hk (yv A 8 + 1) 8 (by omega) (by decide) (Or.inl (by omega)) hq
    have a2 := cs_number h h0 hk (yv A 8 + 2) 8 (by omega) (by decide) (Or.inl (by omega)) hq
    have a3 := cs_number h h0 hk (yv A 8 + 1) 16 (by omega) (by decide) (Or.inl (by omega)) hq
    have a4 := cs_number h h0 hk (yv A 8 + 2) 16 (by omega) (by decide) (Or.inl (by omega)) hq
    exact ⟨fun _ => ⟨fun _ => ⟨⟨by omega, by omega⟩, a1⟩, fun _ => ⟨⟨by omega, by omega⟩, a3⟩⟩, fun _ => ⟨fun _ => ⟨⟨by omega, by omega⟩, a2⟩, fun _ => ⟨⟨by omega, by omega⟩, a4⟩⟩⟩
  unfold wc_Scanner_token
  refine cs_isLetter2 A _ (fun r1 l1 l2 => ⟨fun _ => cs_isDigit A _ (fun r2 d1 d2 => ⟨fun _ => ⟨fun _ => ⟨fun _ => ⟨fun _ => ⟨fun _ => cs_sign h rfl h0 hk _ hq, fun _ => cs_section h rfl h0 hk hq⟩, fun _ => cs_string h rfl h0 hk hq⟩, fun _ => ⟨⟨by omega, by omega⟩, ?_⟩⟩, fun _ => ⟨⟨by omega, by omega⟩, fun _ => hx 0, fun _ => hx 1⟩⟩, fun c => ?_⟩), fun c => cs_name h h0 hk (l2.mp (l1.elim (fun q => absurd q c) id)) hq⟩)
  · have e : yv (ypv A 8 (yv A 8 + 1)) 8 = yv A 8 + 1 := rfl
    refine cs_quoted 39 (by rw [e]; omega) (by rw [e]; omega) (fun r p r0 r1' q0 q1 q2 q3 => ?_)
    rw [e] at q0 q1 q2 q3
    rw [ypv2]
    have P : ∀ kind, 0 ≤ kind ∧ kind ≤ 99 → wc_Scanner_put (ypv A 8 p) kind r (yv A 8) (fun A80 => (zR ((yv A80 8) + 1)) ∧ Q (ypv A80 8 ((yv A80 8) + 1))) := fun kind hkk => by
      refine cs_putD (A := ypv A 8 p) (h.to (by omega : yv A 8 ≤ p)).p8 (by omega) (by omega) hkk ⟨h0, by omega⟩ (fun A' f s => ?_)
      have v3 : yv A' 8 = p := by rw [f.v 8 rfl]; rfl
      refine ⟨⟨by omega, by omega⟩, hq _ (((ySm.rf.pv rfl : ySm A (ypv A 8 p) [14, 15, 16, 17, 18, 19, 20] [8, 9]).tr f rfl rfl).pv rfl) ?_ ?_ ?_⟩
      · have e2 : yv (ypv A' 8 (yv A' 8 + 1)) 8 = yv A' 8 + 1 := rfl
        rw [e2, v3]
        exact s.p8.le (by omega)
      · show yv A 8 + 1 ≤ yv A' 8 + 1
        omega
      · show yv A' 8 + 1 ≤ _
        omega
    exact ⟨fun _ => P 1 (by decide), fun _ => ⟨fun _ => P 1 (by decide), fun _ => P 3 (by decide)⟩⟩
  · exact cs_number h h0 hk (yv A 8) 10 (by omega) (by decide) (Or.inr ⟨rfl, rfl, (d2.mp (d1.elim (fun q => absurd q c) id)).1, (d2.mp (d1.elim (fun q => absurd q c) id)).2⟩) hq
/-- what the scanner leaves -/
def sE (A : cS) : Prop := yz A 14 = yz A 15 ∧ yz A 14 = yz A 16 ∧ yz A 14 ≤ 1300 ∧ yrg A 14 0 99 ∧ yrg A 16 0 1400 ∧ yrg A 17 (-1) 201
theorem cs_scan {A : cS} (hn : ((yz A 0 : Nat) : Int) ≤ 1280) (h7 : 0 ≤ yv A 7 ∧ yv A 7 ≤ 500) (h18 : ((yz A 18 : Nat) : Int) ≤ 100000) (h7b : yv A 7 < ((yz A 18 : Nat) : Int) ∨ ((yz A 18 : Nat) : Int) ≤ 500) (h14 : yz A 14 = yz A 15 ∧ yz A 14 = yz A 16) (g14 : yrg A 14 0 99) (g16 : yrg A 16 0 1400) (g17 : yrg A 17 (-1) 201) {Q : cS → Prop} (hq : ∀ A', sF7 A A' → sE A' → sC A' 1300 → Q A') : wc_Scanner_scan A Q := by
  have L : ∀ (m : Nat) (A1 : cS) (x : Int), sF7 A A1 → sC A1 (yv A1 8) → 0 ≤ yv A1 8 → yv A1 8 ≤ ((yz A 0 : Nat) : Int) + 10 → 0 ≤ x → x ≤ yv A1 8 → ((yz A 0 : Nat) : Int) + 10 - yv A1 8 < m → wc_Scanner_scan_73 Q m A1 x := by
    intro m
    induction m with
    | zero => intro A1 x _ _ _ _ _ _ h; omega
    | succ m ih =>
      intro A1 x f s p0 p1 x0 x1 hm
      have e0 : yz A1 0 = yz A 0 := f.z 0 rfl
      have fin : ∀ A', sF7 A A' → sC A' 1300 → Q A' := fun A' f' s' => hq A' f' ⟨s'.2.1.1, s'.2.1.2.1, by have := s'.2.1.2.2.1; split at this <;> omega, s'.2.1.2.2.2.1, s'.2.1.2.2.2.2, s'.2.2.1.2⟩ s'
      unfold wc_Scanner_scan_73
      unfold wc_Scanner_scan_73B
      refine ⟨fun c => absurd c (by omega), fun _ => cs_pass s p0 (by omega) (fun A2 f2 s2 q0 q1 => ?_)⟩
      have e2 : yz A2 0 = yz A 0 := by rw [f2.z 0 rfl]; exact e0
      have F2 : sF7 A A2 := f.tr f2 rfl rfl
      refine ⟨fun c => ?_, fun c => ?_⟩
      · refine cs_token s2 (by omega) c (fun A3 f3 s3 t0 t1 => ?_)
        have F3 : sF7 A A3 := F2.tr f3 rfl rfl
        exact ⟨fun _ => ⟨⟨by omega, by omega⟩, ih A3 _ F3 s3 (by omega) (by omega) (by omega) (by omega) (by omega)⟩, fun _ => fin A3 F3 (s3.le (by omega))⟩
      · exact cs_put s2 (by omega) (by decide) ⟨by omega, by omega⟩ (fun A3 f3 s3 => fin A3 (F2.tr f3 rfl rfl) (s3.le (by omega)))
  have L0 : ∀ A1, sF7 A A1 → sC A1 (yv A1 8) → yv A1 8 = 0 → ∃ n, wc_Scanner_scan_73 Q n A1 0 := fun A1 f s e => ⟨(((yz A 0 : Nat) : Int) + 10).toNat + 1, L _ A1 0 f s (by omega) (by omega) (by omega) (by omega) (by omega)⟩
  have f0 : sF7 A (ypv (ypv (ycut (ycut (ycut (ycut (ycut (ycut (ycut A 14 0) 15 0) 16 0) 17 0) 18 (yv A 7)) 19 61) 20 61) 8 0) 9 0) := ((((((((ySm.rf.cut rfl).cut rfl).cut rfl).cut rfl).cut rfl).cut rfl).cut rfl).pv rfl).pv rfl
  unfold wc_Scanner_scan
  refine L0 _ f0 ?_ rfl
  have z : ∀ j, yz (ypv (ypv (ycut (ycut (ycut (ycut (ycut (ycut (ycut A 14 0) 15 0) 16 0) 17 0) 18 (yv A 7)) 19 61) 20 61) 8 0) 9 0) j = yz (ycut (ycut (ycut (ycut (ycut (ycut (ycut A 14 0) 15 0) 16 0) 17 0) 18 (yv A 7)) 19 61) 20 61) j := fun _ => rfl
  have v8 : yv (ypv (ypv (ycut (ycut (ycut (ycut (ycut (ycut (ycut A 14 0) 15 0) 16 0) 17 0) 18 (yv A 7)) 19 61) 20 61) 8 0) 9 0) 8 = 0 := rfl
  have v9 : yv (ypv (ypv (ycut (ycut (ycut (ycut (ycut (ycut (ycut A 14 0) 15 0) 16 0) 17 0) 18 (yv A 7)) 19 61) 20 61) 8 0) 9 0) 9 = 0 := rfl
  have c0 : ∀ n : Nat, (if (0 : Int) ≤ 0 ∧ (0 : Int) < (n : Int) then Int.toNat 0 else n) = 0 := fun n => by split <;> omega
  have G : ∀ j lo hi, yrg A j lo hi → yrg (ypv (ypv (ycut (ycut (ycut (ycut (ycut (ycut (ycut A 14 0) 15 0) 16 0) 17 0) 18 (yv A 7)) 19 61) 20 61) 8 0) 9 0) j lo hi := fun j lo hi g => (((((((g.cut).cut).cut).cut).cut).cut).cut).pv.pv
  rw [v8]
  have z14 : yz (ycut (ycut (ycut (ycut (ycut (ycut (ycut A 14 0) 15 0) 16 0) 17 0) 18 (yv A 7)) 19 61) 20 61) 14 = 0 := by simp only [yz_cut, reduceIte, Nat.reduceEqDiff]; exact c0 _
  have z15 : yz (ycut (ycut (ycut (ycut (ycut (ycut (ycut A 14 0) 15 0) 16 0) 17 0) 18 (yv A 7)) 19 61) 20 61) 15 = 0 := by simp only [yz_cut, reduceIte, Nat.reduceEqDiff]; exact c0 _
  have z16 : yz (ycut (ycut (ycut (ycut (ycut (ycut (ycut A 14 0) 15 0) 16 0) 17 0) 18 (yv A 7)) 19 61) 20 61) 16 = 0 := by simp only [yz_cut, reduceIte, Nat.reduceEqDiff]; exact c0 _
  have z17 : yz (ycut (ycut (ycut (ycut (ycut (ycut (ycut A 14 0) 15 0) 16 0) 17 0) 18 (yv A 7)) 19 61) 20 61) 17 = 0 := by simp only [yz_cut, reduceIte, Nat.reduceEqDiff]; exact c0 _
  have z0 : yz (ycut (ycut (ycut (ycut (ycut (ycut (ycut A 14 0) 15 0) 16 0) 17 0) 18 (yv A 7)) 19 61) 20 61) 0 = yz A 0 := by simp only [yz_cut, reduceIte, Nat.reduceEqDiff]
  have z18 : yz (ycut (ycut (ycut (ycut (ycut (ycut (ycut A 14 0) 15 0) 16 0) 17 0) 18 (yv A 7)) 19 61) 20 61) 18 ≤ 500 := by
    simp only [yz_cut, reduceIte, Nat.reduceEqDiff]
    split <;> omega
  have z19 : yz (ycut (ycut (ycut (ycut (ycut (ycut (ycut A 14 0) 15 0) 16 0) 17 0) 18 (yv A 7)) 19 61) 20 61) 19 ≤ 61 := by
    simp only [yz_cut, reduceIte, Nat.reduceEqDiff]
    split <;> omega
  have z20 : yz (ycut (ycut (ycut (ycut (ycut (ycut (ycut A 14 0) 15 0) 16 0) 17 0) 18 (yv A 7)) 19 61) 20 61) 20 ≤ 61 := by
    simp only [yz_cut, reduceIte, Nat.reduceEqDiff]
    split <;> omega
  refine ⟨by rw [z, z0]; exact hn, ⟨by rw [z, z, z14, z15], by rw [z, z, z14, z16], by rw [z, z14, v9]; decide, G _ _ _ g14, G _ _ _ g16⟩, ⟨by rw [z, z17]; decide, G _ _ _ g17⟩, by rw [z 20]; omega, by rw [z 19]; omega, by rw [z 18]; omega⟩
