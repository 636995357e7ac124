/-! THE CLASS'S SCANNER: TOKENS -/
/-- the scanner's frame -/
def sF7 (A A' : cS) : Prop := ySm A A' [14, 15, 16, 17, 18, 19, 20] [8, 9]
theorem sC.put {A A' : cS} {k : Int} (h : sC A k) (f : ySm A A' [14, 15, 16] [9]) (t : sT A' (k + 1)) : sC A' (k + 1) := by
  obtain ⟨c1, c2, c3, c4⟩ := h
  refine ⟨by rw [f.z 0 rfl]; exact c1, t, ⟨by rw [f.z 17 rfl]; omega, c3.2.sm f rfl⟩, ?_⟩
  unfold sN' at c4 ⊢
  rw [f.z 18 rfl, f.z 19 rfl, f.z 20 rfl]
  exact ⟨by omega, by omega, by omega⟩
theorem cs_put {A : cS} {k : Int} (h : sC A k) (hk : k ≤ 1300) {a b c : Int} (ha : 0 ≤ a ∧ a ≤ 99) (hc : 0 ≤ c ∧ c ≤ 1400) {Q : cS → Prop} (hq : ∀ A', ySm A A' [14, 15, 16] [9] → sC A' (k + 1) → Q A') : wc_Scanner_put A a b c Q := cs_put0 h.2.1 (by omega) ha hc (fun A' f t => hq A' f (h.put f t))
/-- the token's own counts are k's, those of names p's -/
def sD (A : cS) (k p : Int) : Prop := ((yz A 0 : Nat) : Int) ≤ 1280 ∧ sT A k ∧ (((yz A 17 : Nat) : Int) ≤ p ∧ yrg A 17 (-1) 201) ∧ sN' A (61 + p) (500 + p)
theorem sC.d {A : cS} {k : Int} (h : sC A k) : sD A k k := h
theorem sD.p8 {A : cS} {k p x : Int} (h : sD A k p) : sD (ypv A 8 x) k p := h
theorem cs_putD {A : cS} {k p : Int} (h : sD A k p) (hk : k ≤ 1300) (hp : k + 1 ≤ p) {a b c : Int} (ha : 0 ≤ a ∧ a ≤ 99) (hc : 0 ≤ c ∧ c ≤ 1400) {Q : cS → Prop} (hq : ∀ A', ySm A A' [14, 15, 16] [9] → sC A' p → Q A') : wc_Scanner_put A a b c Q := by
  obtain ⟨c1, c2, c3, c4⟩ := h
  refine cs_put0 c2 (by omega) ha hc (fun A' f t => hq A' f ?_)
  refine ⟨by rw [f.z 0 rfl]; exact c1, t.le hp, ⟨by rw [f.z 17 rfl]; omega, c3.2.sm f rfl⟩, ?_⟩
  unfold sN' at c4 ⊢
  rw [f.z 18 rfl, f.z 19 rfl, f.z 20 rfl]
  exact c4
/-- names come in -/
theorem sC.id {A A1 : cS} {k p : Int} (h : sC A k) (hp : k + 1 ≤ p) {d : Int} (hd : d ≤ p - k) (f : ySm A A1 [18, 19, 20] [8]) (n : sN' A1 (61 + k + 1) (500 + k + d)) : sD A1 k p := by
  obtain ⟨c1, c2, c3, c4⟩ := h
  exact ⟨by rw [f.z 0 rfl]; exact c1, c2.sm f rfl rfl, ⟨by rw [f.z 17 rfl]; omega, c3.2.sm f rfl⟩, by have := n.1; omega, by have := n.2.1; omega, by have := n.2.2; omega⟩
theorem cs_name {A : cS} {k : Int} (h : sC A k) (h0 : 0 ≤ k) (hk : k < ((yz A 0 : Nat) : Int)) (hl : (65 ≤ yget A 0 k ∧ yget A 0 k ≤ 90 ∨ 97 ≤ yget A 0 k ∧ yget A 0 k ≤ 122)) {Q : cS → Prop} (hq : ∀ A', sF7 A A' → sC A' (yv A' 8) → k + 1 ≤ yv A' 8 → yv A' 8 ≤ ((yz A 0 : Nat) : Int) + 10 → Q A') : wc_Scanner_name A k Q := by
  have hn := h.1
  unfold wc_Scanner_name
  refine cs_restEnd k h0 hn (by omega) (fun r r0 r1 r2 => ⟨⟨by omega, by omega⟩, fun c40 => ?_, fun _ => ?_⟩)
  · have hr := r2 hk hl
    refine cs_idOf (A := ypv A 8 r) (e := 61 + k) (l := 500 + k) h.2.2.2 k r h0 r0 (by omega) (by omega) (by omega) (fun id A1 f1 n1 i0 i1 => ?_)
    have f2 : ySm A A1 [18, 19, 20] [8] := (ySm.rf.pv rfl : ySm A (ypv A 8 r) [18, 19, 20] [8]).tr f1 rfl rfl
    have e8 : yv A1 8 = r := by rw [f1.v 8 rfl]; rfl
    have d := h.id (p := r) hr (Int.le_refl _) f2 n1
    have P : ∀ kind info, 0 ≤ kind ∧ kind ≤ 99 → wc_Scanner_put A1 kind info k Q := fun kind info hkk => cs_putD d (by omega) hr hkk ⟨h0, by omega⟩ (fun A' f s => hq A' ((ySm.rf.tr f2 rfl rfl : ySm A A1 [14, 15, 16, 17, 18, 19, 20] [8, 9]).tr f rfl rfl) (by rw [f.v 8 rfl, e8]; exact s) (by rw [f.v 8 rfl, e8]; exact hr) (by rw [f.v 8 rfl, e8]; omega))
    exact ⟨fun c => ⟨⟨by omega, by omega⟩, fun _ => ⟨fun _ => ⟨fun _ => P _ _ (by omega), fun _ => P _ _ (by decide)⟩, fun _ => P _ _ (by decide)⟩, fun _ => P _ _ (by decide)⟩, fun _ => P _ _ (by decide)⟩
  · have hr := r2 hk hl
    refine cs_putD (A := ypv A 8 r) (k := k) (p := r) ?_ (by omega) hr (by decide) ⟨h0, by omega⟩ (fun A' f s => hq A' ((ySm.rf.pv rfl : ySm A (ypv A 8 r) [14, 15, 16, 17, 18, 19, 20] [8, 9]).tr f rfl rfl) (by rw [f.v 8 rfl]; exact s) (by rw [f.v 8 rfl]; exact hr) (by rw [f.v 8 rfl]; show r ≤ _; omega))
    exact (h.id hr (d := 0) (by omega) (ySm.rf.pv rfl) ⟨by have := h.2.2.2.1; show ((yz A 20 : Nat) : Int) ≤ _; omega, by have := h.2.2.2.2.1; show ((yz A 19 : Nat) : Int) ≤ _; omega, by have := h.2.2.2.2.2; show ((yz A 18 : Nat) : Int) ≤ _; omega⟩)
/-- the position goes on -/
theorem sC.to {A : cS} {k p : Int} (h : sC A k) (hp : k ≤ p) : sD A k p := ⟨h.1, h.2.1, ⟨by have := h.2.2.1.1; omega, h.2.2.1.2⟩, by have := h.2.2.2.1; omega, by have := h.2.2.2.2.1; omega, by have := h.2.2.2.2.2; omega⟩
theorem cs_digitOf (A : cS) (a : Int) {Q : Int → cS → Prop} (hq : ∀ r, 0 ≤ r → r ≤ 99 → ((48 ≤ a ∧ a ≤ 57) → r ≤ 9) → Q r A) : wc_Scanner_digitOf A a Q := by
  unfold wc_Scanner_digitOf
  exact cs_isDigit A a (fun r h1 h2 => ⟨fun z => ⟨fun _ => hq _ (by decide) (by decide) (fun q => by omega), fun c => ⟨fun _ => hq _ (by decide) (by decide) (fun q => by omega), fun c2 => ⟨⟨by omega, by omega⟩, hq _ (by omega) (by omega) (fun q => by omega)⟩⟩⟩, fun z => ⟨⟨by omega, by omega⟩, hq _ (by omega) (by omega) (fun _ => by omega)⟩⟩)
theorem cs_number {A : cS} {k : Int} (h : sC A k) (h0 : 0 ≤ k) (hk : k < ((yz A 0 : Nat) : Int)) (from_ radix : Int) (hf : k ≤ from_ ∧ from_ ≤ k + 2) (hr : 1 ≤ radix ∧ radix ≤ 16) (hd : k + 1 ≤ from_ ∨ from_ = k ∧ radix = 10 ∧ 48 ≤ yget A 0 k ∧ yget A 0 k ≤ 57) {Q : cS → Prop} (hq : ∀ A', sF7 A A' → sC A' (yv A' 8) → k + 1 ≤ yv A' 8 → yv A' 8 ≤ ((yz A 0 : Nat) : Int) + 10 → Q A') : wc_Scanner_number A k from_ radix Q := by
  have hn := h.1
  have fin : ∀ (p x4 : Int), k + 1 ≤ p → p ≤ ((yz A 0 : Nat) : Int) + 2 → wc_Scanner_number_100 Q (ypv A 8 p) k from_ x4 := fun p x4 hp hp2 => by
    have P : ∀ kind info, 0 ≤ kind ∧ kind ≤ 99 → wc_Scanner_put (ypv A 8 p) kind info k Q := fun kind info hkk => cs_putD (A := ypv A 8 p) (h.to (by omega : k ≤ p)).p8 (by omega) hp hkk ⟨h0, by omega⟩ (fun A' f s => hq A' ((ySm.rf.pv rfl : ySm A (ypv A 8 p) [14, 15, 16, 17, 18, 19, 20] [8, 9]).tr f rfl rfl) (by rw [f.v 8 rfl]; exact s) (by rw [f.v 8 rfl]; exact hp) (by rw [f.v 8 rfl]; show p ≤ _; omega))
    unfold wc_Scanner_number_100
    exact ⟨fun _ z _ _ => P _ _ (by decide), fun _ => ⟨fun _ z _ _ => P _ _ (by decide), fun _ z _ _ => P _ _ (by decide)⟩⟩
  have L : ∀ (m : Nat) (p x4 x6 : Int), from_ ≤ p → p ≤ ((yz A 0 : Nat) : Int) + 2 → 0 ≤ x4 → x4 ≤ 1099511627776 → 0 ≤ x6 → x6 ≤ 2000 → ((yz A 0 : Nat) : Int) - x6 < m → 0 < m → (k + 1 ≤ p ∨ p = from_ ∧ x6 = 0) → wc_Scanner_number_11 Q m (ypv A 8 p) k from_ radix x4 x6 := by
    intro m
    induction m with
    | zero => intro p x4 x6 _ _ _ _ _ _ _ h; omega
    | succ m ih =>
      intro p x4 x6 g0 g1 g2 g3 g4 g5 g6 _ g7
      have e0 : yz (ypv A 8 p) 0 = yz A 0 := rfl
      have e8 : yv (ypv A 8 p) 8 = p := rfl
      have eg : ∀ i, yget (ypv A 8 p) 0 i = yget A 0 i := fun _ => rfl
      unfold wc_Scanner_number_11
      unfold wc_Scanner_number_11B
      rw [e0, e8]
      refine ⟨fun _ => fin _ _ (by omega) g1, fun c => ⟨fun _ => fin _ _ (by omega) g1, fun c2 => cs_digitOf _ _ (fun r r0 r1 r2 => ⟨fun c3 => fin _ _ ?_ g1, fun c3 => cs_digitOf _ _ (fun r' r0' r1' _ => ⟨?_, ⟨by omega, by omega⟩, ⟨by omega, by omega⟩, ?_⟩)⟩)⟩⟩
      · rcases g7 with q | ⟨q, q2⟩
        · exact q
        · rcases hd with d | ⟨d1, d2, d3, d4⟩
          · omega
          · have := r2 (by rw [eg, q, d1]; exact ⟨d3, d4⟩)
            omega
      · have h1 : x4 * radix ≤ 1099511627776 * 16 := Int.mul_le_mul g3 hr.2 (by omega) (by omega)
        have h2 : 0 ≤ x4 * radix := Int.mul_nonneg g2 (by omega)
        exact ⟨by omega, by omega⟩
      · have h2 : 0 ≤ x4 * radix := Int.mul_nonneg g2 (by omega)
        have e9 : ypv (ypv A 8 p) 8 (p + 1) = ypv A 8 (p + 1) := by
          refine Prod.ext rfl (Prod.ext rfl (funext fun m => ?_))
          show (if m = 8 then p + 1 else if m = 8 then p else A.2.2 m) = (if m = 8 then p + 1 else A.2.2 m)
          split <;> rfl
        rw [e8, e9]
        exact ih (p + 1) _ (x6 + 1) (by omega) (by omega) (by omega) (by omega) (by omega) (by omega) (by omega) (by omega) (by omega)
  unfold wc_Scanner_number
  exact ⟨yz A 0 + 1, L _ from_ 0 0 (Int.le_refl _) (by omega) (by omega) (by omega) (by omega) (by omega) (by omega) (by omega) (by omega)⟩
theorem cs_quoted {A : cS} (a : Int) (h0 : 0 ≤ yv A 8) (h1 : yv A 8 ≤ 3000) {Q : Int → cS → Prop} (hq : ∀ r p, -1 ≤ r → r ≤ 126 → yv A 8 + 1 ≤ p → p ≤ yv A 8 + 2 → (p = yv A 8 + 2 → yv A 8 < ((yz A 0 : Nat) : Int)) → (0 ≤ r → yv A 8 < ((yz A 0 : Nat) : Int)) → Q r (ypv A 8 p)) : wc_Scanner_quoted A a Q := by
  have e9 : ∀ x y, ypv (ypv A 8 x) 8 y = ypv A 8 y := fun x y => by
    refine Prod.ext rfl (Prod.ext rfl (funext fun m => ?_))
    show (if m = 8 then y else if m = 8 then x else A.2.2 m) = (if m = 8 then y else A.2.2 m)
    split <;> rfl
  unfold wc_Scanner_quoted
  refine ⟨⟨by omega, by omega⟩, fun c => ⟨⟨by omega, by omega⟩, ?_⟩, fun c => ?_⟩
  · have hin : yv A 8 < ((yz A 0 : Nat) : Int) := by
      by_cases q : 0 ≤ yv A 8 ∧ yv A 8 < ((yz A 0 : Nat) : Int)
      · exact q.2
      · rw [yget_out q] at c
        exact absurd c (by decide)
    rw [e9]
    exact ⟨fun q => hq _ _ (by omega) (by omega) (by omega) (by omega) (fun _ => hin) (fun _ => hin), fun _ => hq _ _ (by decide) (by decide) (by omega) (by omega) (fun _ => hin) (fun _ => hin), fun _ => hq _ _ (by decide) (by decide) (by omega) (by omega) (fun _ => hin) (fun _ => hin), fun _ => hq _ _ (by decide) (by decide) (by omega) (by omega) (fun _ => hin) (fun _ => hin), fun _ _ _ _ => hq _ _ (by decide) (by decide) (by omega) (by omega) (fun _ => hin) (fun _ => hin)⟩
  · refine ⟨fun _ => hq _ _ (by decide) (by decide) (by omega) (by omega) (fun q => by omega) (fun q => absurd q (by decide)), fun c1 => ⟨fun _ => hq _ _ (by decide) (by decide) (by omega) (by omega) (fun q => by omega) (fun q => absurd q (by decide)), fun _ => ⟨fun _ => hq _ _ (by omega) (by omega) (by omega) (by omega) (fun q => by omega) (fun _ => ?_), fun _ => hq _ _ (by decide) (by decide) (by omega) (by omega) (fun q => by omega) (fun q => absurd q (by decide))⟩⟩⟩
    by_cases q : 0 ≤ yv A 8 ∧ yv A 8 < ((yz A 0 : Nat) : Int)
    · exact q.2
    · rw [yget_out q] at c1
      exact absurd (by decide) c1
