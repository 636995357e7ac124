/-! THE CLASS'S SCANNER: ITS PARTS -/
theorem cs_isLetter (A : cS) (a : Int) {Q : Int → cS → Prop} (hq : ∀ r, (r = 0 ∨ r = 1) → Q r A) : wc_Scanner_isLetter A a Q := by
  unfold wc_Scanner_isLetter
  refine ⟨fun _ => ⟨fun _ => hq _ (Or.inl rfl), fun _ => ⟨fun _ => hq _ (Or.inl rfl), fun _ => hq _ (Or.inr rfl)⟩⟩, fun _ => ⟨fun _ => hq _ (Or.inr rfl), fun _ => ⟨fun _ => hq _ (Or.inl rfl), fun _ => ⟨fun _ => hq _ (Or.inl rfl), fun _ => hq _ (Or.inr rfl)⟩⟩⟩⟩
/-- a letter once is one always -/
theorem cs_isLetter2 (A : cS) (a : Int) {Q : Int → cS → Prop} (hq : ∀ r, (r = 0 ∨ r = 1) → (r = 1 ↔ (65 ≤ a ∧ a ≤ 90 ∨ 97 ≤ a ∧ a ≤ 122)) → Q r A) : wc_Scanner_isLetter A a Q := by
  unfold wc_Scanner_isLetter
  refine ⟨fun _ => ⟨fun _ => hq _ (Or.inl rfl) (by omega), fun _ => ⟨fun _ => hq _ (Or.inl rfl) (by omega), fun _ => hq _ (Or.inr rfl) (by omega)⟩⟩, fun _ => ⟨fun _ => hq _ (Or.inr rfl) (by omega), fun _ => ⟨fun _ => hq _ (Or.inl rfl) (by omega), fun _ => ⟨fun _ => hq _ (Or.inl rfl) (by omega), fun _ => hq _ (Or.inr rfl) (by omega)⟩⟩⟩⟩
theorem cs_isDigit (A : cS) (a : Int) {Q : Int → cS → Prop} (hq : ∀ r, (r = 0 ∨ r = 1) → (r = 1 ↔ (48 ≤ a ∧ a ≤ 57)) → Q r A) : wc_Scanner_isDigit A a Q := by
  unfold wc_Scanner_isDigit
  exact ⟨fun _ => hq _ (Or.inl rfl) (by omega), fun _ => ⟨fun _ => hq _ (Or.inl rfl) (by omega), fun _ => hq _ (Or.inr rfl) (by omega)⟩⟩
theorem cs_isRest (A : cS) (a : Int) {Q : Int → cS → Prop} (hq : ∀ r, ((65 ≤ a ∧ a ≤ 90 ∨ 97 ≤ a ∧ a ≤ 122) → ¬ r = 0) → Q r A) : wc_Scanner_isRest A a Q := by
  unfold wc_Scanner_isRest
  refine cs_isLetter2 A a (fun r h1 h2 => ⟨fun _ => hq _ (fun _ => by decide), fun c => cs_isDigit A a (fun r2 h3 h4 => ⟨fun _ => hq _ (fun _ => by decide), fun _ => ⟨fun _ => hq _ (fun _ => by decide), fun _ => ⟨fun _ => hq _ (fun q => by omega), fun _ => hq _ (fun _ => by decide)⟩⟩⟩)⟩)
theorem cs_restEnd {A : cS} (a : Int) (h0 : 0 ≤ a) (h1 : ((yz A 0 : Nat) : Int) ≤ 1280) (ha : a ≤ 1300) {Q : Int → cS → Prop} (hq : ∀ r, a ≤ r → (r ≤ ((yz A 0 : Nat) : Int) ∨ r = a) → (a < ((yz A 0 : Nat) : Int) → (65 ≤ yget A 0 a ∧ yget A 0 a ≤ 90 ∨ 97 ≤ yget A 0 a ∧ yget A 0 a ≤ 122) → a + 1 ≤ r) → Q r A) : wc_Scanner_restEnd A a Q := by
  have L : ∀ (m : Nat) (x : Int), a ≤ x → (x ≤ ((yz A 0 : Nat) : Int) ∨ x = a) → ((yz A 0 : Nat) : Int) - x < m → 0 < m → wc_Scanner_restEnd_2 Q m A x := by
    intro m
    induction m with
    | zero => intro x _ _ _ h; omega
    | succ m ih =>
      intro x g0 g1 g2 _
      unfold wc_Scanner_restEnd_2
      unfold wc_Scanner_restEnd_2B
      refine ⟨fun _ => hq x g0 g1 (by omega), fun c => cs_isRest A _ (fun r hr => ⟨fun z => hq x g0 g1 (fun c2 q => ?_), fun _ => ⟨⟨by omega, by omega⟩, ih _ (by omega) (by omega) (by omega) (by omega)⟩⟩)⟩
      by_cases e : x = a
      · rw [e] at hr
        exact absurd z (hr q)
      · omega
  unfold wc_Scanner_restEnd
  exact ⟨(((yz A 0 : Nat) : Int) - a).toNat + 1, L _ a (Int.le_refl _) (Or.inr rfl) (by omega) (by omega)⟩
theorem cs_isAlike (A : cS) (i a b : Int) (hi : 0 ≤ i ∧ i ≤ 2000) (ha : 0 ≤ a ∧ a ≤ 2000) (hb : 0 ≤ b ∧ b ≤ 2000) {Q : Int → cS → Prop} (hq : ∀ r, Q r A) : wc_Scanner_isAlike A i a b Q := by
  have L : ∀ (m : Nat) (x y : Int), 0 ≤ x → x ≤ 2000 → b - a - x < m → 0 < m → wc_Scanner_isAlike_62 Q m A a b y x := by
    intro m
    induction m with
    | zero => intro x y _ _ _ h; omega
    | succ m ih =>
      intro x y g0 g1 g2 _
      unfold wc_Scanner_isAlike_62
      unfold wc_Scanner_isAlike_62B
      exact ⟨⟨by omega, by omega⟩, fun _ => hq _, fun c z _ _ => ⟨⟨by omega, by omega⟩, fun _ => ⟨⟨by omega, by omega⟩, ih _ _ (by omega) (by omega) (by omega) (by omega)⟩, fun _ => hq _⟩⟩
  have G : ∀ y, ∃ n, wc_Scanner_isAlike_62 Q n A a b y 0 := fun y => ⟨(b - a).toNat + 1, L _ 0 y (by omega) (by omega) (by omega) (by omega)⟩
  unfold wc_Scanner_isAlike
  exact ⟨⟨by omega, by omega⟩, fun _ z _ _ => ⟨⟨by omega, by omega⟩, fun _ => G _, fun _ => hq _⟩, fun _ z _ _ => ⟨⟨by omega, by omega⟩, fun _ => G _, fun _ => hq _⟩⟩
/-- the rows of names: e of them at most, l letters -/
def sN' (A : cS) (e l : Int) : Prop := ((yz A 20 : Nat) : Int) ≤ e ∧ ((yz A 19 : Nat) : Int) ≤ e ∧ ((yz A 18 : Nat) : Int) ≤ l
theorem cs_idOf {A : cS} {e l : Int} (h : sN' A e l) (a b : Int) (ha : 0 ≤ a) (hab : a ≤ b) (hb : b ≤ 1400) (he : e < 1400) (hl : l + (b - a) ≤ 1800) {Q : Int → cS → Prop} (hq : ∀ r A', ySm A A' [18, 19, 20] [] → sN' A' (e + 1) (l + (b - a)) → 0 ≤ r → r ≤ 1400 → Q r A') : wc_Scanner_idOf A a b Q := by
  obtain ⟨h1, h2, h3⟩ := h
  have L3 : ∀ (m : Nat) (x : Int) (A1 : cS), a ≤ x → x ≤ b → b - x < m → ySm A A1 [18, 19, 20] [] → ((yz A1 20 : Nat) : Int) ≤ e + 1 → ((yz A1 19 : Nat) : Int) ≤ e + 1 → 1 ≤ yz A1 20 → ((yz A1 18 : Nat) : Int) ≤ l + (x - a) → wc_Scanner_idOf_110 Q m A1 b x := by
    intro m
    induction m with
    | zero => intro x A1 _ _ h; omega
    | succ m ih =>
      intro x A1 g0 g1 g2 f z1 z2 z4 z3
      unfold wc_Scanner_idOf_110
      unfold wc_Scanner_idOf_110B
      refine ⟨fun _ => ⟨⟨by omega, by omega⟩, hq _ A1 f ⟨z1, z2, by omega⟩ (by omega) (by omega)⟩, fun c => ⟨by omega, ⟨by omega, by omega⟩, ih _ _ (by omega) (by omega) (by omega) (f.add rfl) z1 z2 z4 ?_⟩⟩
      show ((yz A1 18 + 1 : Nat) : Int) ≤ _
      omega
  have L2 : ∀ (m : Nat) (x : Int) (s : Int), 0 ≤ x → x ≤ ((yz A 20 : Nat) : Int) → ((yz A 20 : Nat) : Int) - x < m → wc_Scanner_idOf_37 Q m A a b s x := by
    intro m
    induction m with
    | zero => intro x s _ _ h; omega
    | succ m ih =>
      intro x s g0 g1 g2
      unfold wc_Scanner_idOf_37
      unfold wc_Scanner_idOf_37B
      refine ⟨fun _ => ⟨by omega, by omega, (b - a).toNat + 1, L3 _ a _ (Int.le_refl _) hab (by omega) ((ySm.rf.add rfl).add rfl) ?_ ?_ ?_ ?_⟩, fun c => ?_⟩
      · show ((yz A 20 + 1 : Nat) : Int) ≤ _
        omega
      · show ((yz A 19 + 1 : Nat) : Int) ≤ _
        omega
      · show 1 ≤ yz A 20 + 1
        omega
      · show ((yz A 18 : Nat) : Int) ≤ _
        omega
      · have nx : (zR (x + 1)) ∧ wc_Scanner_idOf_37 Q m A a b s (x + 1) := ⟨⟨by omega, by omega⟩, ih _ _ (by omega) (by omega) (by omega)⟩
        exact ⟨fun _ => nx, fun _ => cs_isAlike A x a b ⟨g0, by omega⟩ ⟨ha, by omega⟩ ⟨by omega, by omega⟩ (fun r => ⟨fun _ => nx, fun _ => hq x A ySm.rf ⟨by omega, by omega, by omega⟩ g0 (by omega)⟩)⟩
  have L1 : ∀ (m : Nat) (x : Int) (s : Int), a ≤ x → x ≤ b → b - x < m → wc_Scanner_idOf_8 Q m A a b s x := by
    intro m
    induction m with
    | zero => intro x s _ _ h; omega
    | succ m ih =>
      intro x s g0 g1 g2
      unfold wc_Scanner_idOf_8
      unfold wc_Scanner_idOf_8B
      exact ⟨fun _ => ⟨yz A 20 + 1, L2 _ 0 s (by omega) (by omega) (by omega)⟩, fun c z _ _ => ⟨⟨by omega, by omega⟩, ih _ _ (by omega) (by omega) (by omega)⟩⟩
  unfold wc_Scanner_idOf
  exact ⟨⟨by omega, by omega⟩, (b - a).toNat + 1, L1 _ a _ (Int.le_refl _) hab (by omega)⟩
theorem cs_skipLine {A : cS} (h0 : 0 ≤ yv A 8) (h1 : ((yz A 0 : Nat) : Int) ≤ 1280) (h2 : yv A 8 ≤ 1300) {Q : cS → Prop} (hq : ∀ A', ySm A A' [] [8] → yv A 8 ≤ yv A' 8 → (yv A' 8 ≤ ((yz A 0 : Nat) : Int) ∨ yv A' 8 = yv A 8) → Q A') : wc_Scanner_skipLine A Q := by
  have L : ∀ (m : Nat) (x : Int) (A1 : cS), 0 ≤ x → x ≤ 1400 → ((yz A 0 : Nat) : Int) + 1 - x < m → 0 < m → ySm A A1 [] [8] → yv A 8 ≤ yv A1 8 → (yv A1 8 ≤ ((yz A 0 : Nat) : Int) ∨ yv A1 8 = yv A 8) → wc_Scanner_skipLine_2 Q m A1 x := by
    intro m
    induction m with
    | zero => intro x A1 _ _ _ h; omega
    | succ m ih =>
      intro x A1 g0 g1 g2 _ f p0 p1
      have e0 : yz A1 0 = yz A 0 := f.z 0 rfl
      unfold wc_Scanner_skipLine_2
      unfold wc_Scanner_skipLine_2B
      rw [e0]
      refine ⟨fun _ => hq A1 f p0 p1, fun c => ⟨fun _ => hq A1 f p0 p1, fun c2 => ⟨fun _ => hq A1 f p0 p1, fun c3 => ⟨⟨by omega, by omega⟩, ⟨by omega, by omega⟩, ih _ _ (by omega) (by omega) (by omega) (by omega) (f.pv rfl) ?_ ?_⟩⟩⟩⟩
      · show yv A 8 ≤ yv A1 8 + 1
        omega
      · show yv A1 8 + 1 ≤ _ ∨ yv A1 8 + 1 = _
        omega
  unfold wc_Scanner_skipLine
  exact ⟨yz A 0 + 2, L _ 0 A (by omega) (by omega) (by omega) (by omega) ySm.rf (Int.le_refl _) (Or.inr rfl)⟩
/-- the scanner under way: k bytes are passed -/
def sC (A : cS) (k : Int) : Prop := ((yz A 0 : Nat) : Int) ≤ 1280 ∧ sT A k ∧ (((yz A 17 : Nat) : Int) ≤ k ∧ yrg A 17 (-1) 201) ∧ sN' A (61 + k) (500 + k)
theorem sC.le {A : cS} {k k' : Int} (h : sC A k) (hk : k ≤ k') : sC A k' := ⟨h.1, h.2.1.le hk, ⟨by have := h.2.2.1.1; omega, h.2.2.1.2⟩, by have := h.2.2.2.1; omega, by have := h.2.2.2.2.1; omega, by have := h.2.2.2.2.2; omega⟩
theorem sC.p8 {A : cS} {k x : Int} (h : sC A k) : sC (ypv A 8 x) k := h
theorem cs_pass {A : cS} (h : sC A (yv A 8)) (h0 : 0 ≤ yv A 8) (h2 : yv A 8 ≤ 1300) {Q : cS → Prop} (hq : ∀ A', ySm A A' [] [8, 9] → sC A' (yv A' 8) → yv A 8 ≤ yv A' 8 → (yv A' 8 ≤ ((yz A 0 : Nat) : Int) ∨ yv A' 8 = yv A 8) → Q A') : wc_Scanner_pass A Q := by
  have hn := h.1
  have L : ∀ (m : Nat) (x : Int) (A1 : cS), 0 ≤ x → x ≤ 1400 → ((yz A 0 : Nat) : Int) + 1 - x < m → 0 < m → ySm A A1 [] [8, 9] → sC A1 (yv A1 8) → yv A 8 ≤ yv A1 8 → (yv A1 8 ≤ ((yz A 0 : Nat) : Int) ∨ yv A1 8 = yv A 8) → wc_Scanner_pass_2 Q m A1 x := by
    intro m
    induction m with
    | zero => intro x A1 _ _ _ h; omega
    | succ m ih =>
      intro x A1 g0 g1 g2 _ f sc p0 p1
      have e0 : yz A1 0 = yz A 0 := f.z 0 rfl
      have D : wc_Scanner_pass_2 Q (m + 1) A1 x := by
        unfold wc_Scanner_pass_2
        unfold wc_Scanner_pass_2B
        rw [e0]
        refine ⟨fun _ => hq A1 f sc p0 p1, fun c => ⟨fun _ => hq A1 f sc p0 p1, fun c2 => ?_⟩⟩
        have st : (zR (yv A1 8 + 1)) ∧ (zR (x + 1)) ∧ wc_Scanner_pass_2 Q m (ypv A1 8 (yv A1 8 + 1)) (x + 1) := ⟨⟨by omega, by omega⟩, ⟨by omega, by omega⟩, ih _ _ (by omega) (by omega) (by omega) (by omega) (f.pv rfl) (sc.p8.le (by show yv A1 8 ≤ yv A1 8 + 1; omega)) (by show yv A 8 ≤ yv A1 8 + 1; omega) (by show yv A1 8 + 1 ≤ _ ∨ yv A1 8 + 1 = _; omega)⟩
        have nl : (zR (yv A1 8 + 1)) ∧ (zR (x + 1)) ∧ wc_Scanner_pass_2 Q m (ypv (ypv A1 9 1) 8 (yv A1 8 + 1)) (x + 1) := by
          refine ⟨⟨by omega, by omega⟩, ⟨by omega, by omega⟩, ih _ _ (by omega) (by omega) (by omega) (by omega) ((f.pv rfl).pv rfl) ?_ (by show yv A 8 ≤ yv A1 8 + 1; omega) (by show yv A1 8 + 1 ≤ _ ∨ yv A1 8 + 1 = _; omega)⟩
          obtain ⟨c1, ⟨t1, t2, t3, t4, t5⟩, c3, c4⟩ := sc
          refine ⟨c1, ⟨t1, t2, ?_, t4, t5⟩, ⟨by show ((yz A1 17 : Nat) : Int) ≤ yv A1 8 + 1; omega, c3.2⟩, by have := c4.1; show ((yz A1 20 : Nat) : Int) ≤ 61 + (yv A1 8 + 1); omega, by have := c4.2.1; show ((yz A1 19 : Nat) : Int) ≤ 61 + (yv A1 8 + 1); omega, by have := c4.2.2; show ((yz A1 18 : Nat) : Int) ≤ 500 + (yv A1 8 + 1); omega⟩
          show ((yz A1 14 : Nat) : Int) + (if (1 : Int) = 0 then 0 else 1) ≤ yv A1 8 + 1
          rw [if_neg (by decide)]
          split at t3 <;> omega
        have w : ∀ y, wc_Scanner_pass_70 Q (wc_Scanner_pass_2 Q m) A1 x y := fun y => by
          unfold wc_Scanner_pass_70
          exact ⟨fun _ => ⟨fun _ => st, fun _ => ⟨fun _ => st, fun _ => ⟨fun _ => hq A1 f sc p0 p1, fun _ => st⟩⟩⟩, fun _ => nl⟩
        refine ⟨fun _ => w _, fun _ => ⟨⟨by omega, by omega⟩, fun _ => w _, fun _ => cs_skipLine (by omega) (by omega) (by omega) (fun A2 f2 q0 q1 => ⟨⟨by omega, by omega⟩, ih _ _ (by omega) (by omega) (by omega) (by omega) (f.tr f2 rfl rfl) ?_ (by omega) (by omega)⟩)⟩⟩
        have sc2 : sC A2 (yv A1 8) := by
          obtain ⟨c1, t, c3, c4⟩ := sc
          refine ⟨by rw [f2.z 0 rfl]; exact c1, t.sm f2 rfl rfl, ⟨by rw [f2.z 17 rfl]; exact c3.1, c3.2.sm f2 rfl⟩, ?_⟩
          unfold sN'
          rw [f2.z 18 rfl, f2.z 19 rfl, f2.z 20 rfl]
          exact c4
        exact sc2.le q0
      exact D
  unfold wc_Scanner_pass
  exact ⟨yz A 0 + 2, L _ 0 A (by omega) (by omega) (by omega) (by omega) ySm.rf h (Int.le_refl _) (Or.inr rfl)⟩
