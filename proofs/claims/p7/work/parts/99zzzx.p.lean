/-! THE CLASS'S PARSER: HOW IT STANDS -/
abbrev jJ : List Nat := [2, 3, 4, 5, 6, 7, 8, 9, 10, 11, 12, 13, 21, 22, 23]
abbrev jK : List Nat := [3, 4, 5, 10, 11, 12]
abbrev jF (A A' : cS) : Prop := ySm A A' jJ jK
/-- tokens that are left; what nodes, words, routines, tags, globals may come to -/
def jt (A : cS) : Int := ((yz A 14 : Nat) : Int) - yv A 10
def j7 (A : cS) : Int := ((yz A 7 : Nat) : Int) + ((yz A 22 : Nat) : Int) + 2 * jt A
def j2 (A : cS) : Int := ((yz A 2 : Nat) : Int) + 60 * jt A
def j3 (A : cS) : Int := ((yz A 3 : Nat) : Int) + jt A
def j21 (A : cS) : Int := ((yz A 21 : Nat) : Int) + jt A
def j23 (A : cS) : Int := ((yz A 23 : Nat) : Int) + jt A
def jS (A : cS) : Prop := sE A ∧ (0 ≤ yv A 10 ∧ yv A 10 ≤ ((yz A 14 : Nat) : Int)) ∧ (0 ≤ yv A 11 ∧ yv A 11 ≤ 60) ∧ (1 ≤ yz A 7 ∧ yz A 8 = yz A 7 ∧ yz A 9 = yz A 7 ∧ yz A 10 = yz A 7 ∧ yz A 11 = yz A 7 ∧ yz A 12 = yz A 7 ∧ yz A 13 = yz A 7) ∧ (yz A 4 = yz A 3 ∧ yz A 5 = yz A 3 ∧ yz A 6 = yz A 3) ∧ (j2 A ≤ 79900 ∧ j3 A ≤ 1390 ∧ j21 A ≤ 1390 ∧ j23 A ≤ 1390) ∧ ∀ j, 7 ≤ j → j ≤ 13 → yget A j 0 = 0
theorem jS.e {A : cS} (s : jS A) : sE A := s.1
theorem jS.a {A : cS} (s : jS A) : 0 ≤ yv A 10 ∧ yv A 10 ≤ ((yz A 14 : Nat) : Int) := s.2.1
theorem jS.d {A : cS} (s : jS A) : 0 ≤ yv A 11 ∧ yv A 11 ≤ 60 := s.2.2.1
theorem jS.n {A : cS} (s : jS A) : 1 ≤ yz A 7 ∧ yz A 8 = yz A 7 ∧ yz A 9 = yz A 7 ∧ yz A 10 = yz A 7 ∧ yz A 11 = yz A 7 ∧ yz A 12 = yz A 7 ∧ yz A 13 = yz A 7 := s.2.2.2.1
theorem jS.r {A : cS} (s : jS A) : yz A 4 = yz A 3 ∧ yz A 5 = yz A 3 ∧ yz A 6 = yz A 3 := s.2.2.2.2.1
theorem jS.b {A : cS} (s : jS A) : j2 A ≤ 79900 ∧ j3 A ≤ 1390 ∧ j21 A ≤ 1390 ∧ j23 A ≤ 1390 := s.2.2.2.2.2.1
theorem jS.z {A : cS} (s : jS A) : ∀ j, 7 ≤ j → j ≤ 13 → yget A j 0 = 0 := s.2.2.2.2.2.2
/-- the token at hand is there -/
theorem jS.in {A : cS} (s : jS A) (h : ¬ yget A 14 (yv A 10) = 0) : yv A 10 < ((yz A 14 : Nat) : Int) := by
  by_cases q : 0 ≤ yv A 10 ∧ yv A 10 < ((yz A 14 : Nat) : Int)
  · exact q.2
  · exact absurd (yget_out q) h
/-- from here to there: nodes and signs, words, depth -/
def jX (A A' : cS) (c7 c2 d : Int) : Prop := jF A A' ∧ jS A' ∧ yv A 10 ≤ yv A' 10 ∧ j7 A' ≤ j7 A + c7 ∧ j2 A' ≤ j2 A + c2 ∧ yv A' 11 = yv A 11 + d ∧ yz A 7 ≤ yz A' 7 ∧ 1 ≤ yz A 7
theorem jX.f {A A' : cS} {a b d : Int} (h : jX A A' a b d) : jF A A' := h.1
theorem jX.s {A A' : cS} {a b d : Int} (h : jX A A' a b d) : jS A' := h.2.1
theorem jX.n {A A' : cS} {a b d : Int} (h : jX A A' a b d) : yv A 10 ≤ yv A' 10 ∧ j7 A' ≤ j7 A + a ∧ j2 A' ≤ j2 A + b ∧ yv A' 11 = yv A 11 + d ∧ yz A 7 ≤ yz A' 7 ∧ 1 ≤ yz A 7 := h.2.2
theorem jX.rf {A : cS} (s : jS A) : jX A A 0 0 0 := ⟨ySm.rf, s, Int.le_refl _, by omega, by omega, by omega, Nat.le_refl _, s.n.1⟩
theorem jX.tr {A A1 A2 : cS} {a b d a' b' d' : Int} (h : jX A A1 a b d) (g : jX A1 A2 a' b' d') : jX A A2 (a + a') (b + b') (d + d') := by
  obtain ⟨h1, h2, h3, h4, h5, h6, h7, h8⟩ := h
  obtain ⟨g1, g2, g3, g4, g5, g6, g7, g8⟩ := g
  exact ⟨h1.tr g1 rfl rfl, g2, by omega, by omega, by omega, by omega, by omega, h8⟩
theorem jX.le {A A' : cS} {a b d a' b' d' : Int} (h : jX A A' a b d) (e1 : a ≤ a') (e2 : b ≤ b') (e3 : d = d') : jX A A' a' b' d' := by
  obtain ⟨h1, h2, h3, h4, h5, h6, h7, h8⟩ := h
  exact ⟨h1, h2, h3, by omega, by omega, by omega, h7, h8⟩
/-- nodes that were there, but for some, stay as they are -/
def jU (A A' : cS) (S : Nat → Prop) : Prop := ∀ (j i : Nat), 7 ≤ j → j ≤ 13 → i < yz A 7 → ¬ S i → yget A' j i = yget A j i
def jO : Nat → Prop := fun _ => False
theorem jU.rf {A : cS} {S : Nat → Prop} : jU A A S := fun _ _ _ _ _ _ => rfl
theorem jU.tr {A A1 A2 : cS} {S S1 : Nat → Prop} (h : jU A A1 S) (g : jU A1 A2 S1) (z : yz A 7 ≤ yz A1 7) (q : ∀ i, i < yz A 7 → S1 i → S i) : jU A A2 S := fun j i a b c d => (g j i a b (by omega) (fun e => d (q i c e))).trans (h j i a b c d)
theorem jU.le {A A1 : cS} {S S1 : Nat → Prop} (h : jU A A1 S) (q : ∀ i, i < yz A 7 → S i → S1 i) : jU A A1 S1 := fun j i a b c d => h j i a b c (fun e => d (q i c e))
theorem jU.sm {A A' : cS} {S : Nat → Prop} {js ks : List Nat} (f : ySm A A' js ks) (h : ([7, 8, 9, 10, 11, 12, 13].all fun j => !js.contains j) = true) : jU A A' S := fun j i a b _ _ => f.g j i (by
  have q : j = 7 ∨ j = 8 ∨ j = 9 ∨ j = 10 ∨ j = 11 ∨ j = 12 ∨ j = 13 := by omega
  have := List.all_eq_true.mp h j (by simpa using q)
  simpa using this)
theorem jU.o {A A' : cS} (h : jU A A' jO) {n : Nat} {S : Nat → Prop} {l : List jC} (o : jOp A n S l) (z : yz A 7 ≤ yz A' 7) : jOp A' n S l := o.fr z (fun i hi => by
  have b := (o.2.2.1 i hi).2
  have e : ∀ j, 7 ≤ j → j ≤ 13 → yget A' j i = yget A j i := fun j a c => h j i a c b (fun q => q)
  exact ⟨⟨e 7 (by decide) (by decide), e 9 (by decide) (by decide), e 10 (by decide) (by decide), e 11 (by decide) (by decide)⟩, e 12 (by decide) (by decide), e 13 (by decide) (by decide)⟩)
theorem jU.t {A A' : cS} (h : jU A A' jO) {a n w : Nat} {S : Nat → Prop} (t : jT A a n w S) (b : ∀ i, S i → i < yz A 7) : jT A' a n w S := t.fr (fun i hi => by
  have e : ∀ j, 7 ≤ j → j ≤ 13 → yget A' j i = yget A j i := fun j a c => h j i a c (b i hi) (fun q => q)
  exact ⟨e 7 (by decide) (by decide), e 9 (by decide) (by decide), e 10 (by decide) (by decide), e 11 (by decide) (by decide)⟩) (fun i hi _ => h 13 i (by decide) (by decide) (b i hi) (fun q => q))
theorem jOp.Sle {A : cS} {n : Nat} {S S' : Nat → Prop} {l : List jC} (o : jOp A n S l) (h : ∀ i, S i → S' i) (b : ∀ i, S' i → 1 ≤ i ∧ i < yz A 7) : jOp A n S' l := by
  obtain ⟨a1, a2, a3, a4, a5, a6, a7⟩ := o
  exact ⟨a1, h _ a2, b, a4, a5, fun c hc => ⟨(a6 c hc).1, fun i hi => ⟨h i ((a6 c hc).2 i hi).1, ((a6 c hc).2 i hi).2⟩⟩, a7⟩
abbrev jI (a b : Nat) : Nat → Prop := fun i => a ≤ i ∧ i < b
/-- the state's other cells are as before -/
theorem jS.sm {A A' : cS} {js ks : List Nat} (s : jS A) (f : ySm A A' js ks) (hj : ([2, 3, 4, 5, 6, 7, 8, 9, 10, 11, 12, 13, 14, 15, 16, 17, 21, 23].all fun j => !js.contains j) = true) (a : yv A 10 ≤ yv A' 10 ∧ yv A' 10 ≤ ((yz A 14 : Nat) : Int)) (d : 0 ≤ yv A' 11 ∧ yv A' 11 ≤ 60) : jS A' := by
  have J : ∀ j, ([2, 3, 4, 5, 6, 7, 8, 9, 10, 11, 12, 13, 14, 15, 16, 17, 21, 23] : List Nat).contains j = true → js.contains j = false := fun j h1 => by
    have := List.all_eq_true.mp hj j (by simpa using h1)
    simpa using this
  obtain ⟨⟨e1, e2, e3, e4, e5, e6⟩, s2, s3, s4, s5, s6, s7⟩ := s
  unfold jS sE
  unfold j2 j3 j21 j23 jt at s6 ⊢
  rw [f.z 14 (J 14 rfl), f.z 15 (J 15 rfl), f.z 16 (J 16 rfl), f.z 7 (J 7 rfl), f.z 8 (J 8 rfl), f.z 9 (J 9 rfl), f.z 10 (J 10 rfl), f.z 11 (J 11 rfl), f.z 12 (J 12 rfl), f.z 13 (J 13 rfl), f.z 3 (J 3 rfl), f.z 4 (J 4 rfl), f.z 5 (J 5 rfl), f.z 6 (J 6 rfl), f.z 2 (J 2 rfl), f.z 21 (J 21 rfl), f.z 23 (J 23 rfl)]
  refine ⟨⟨e1, e2, e3, e4.sm f (J 14 rfl), e5.sm f (J 16 rfl), e6.sm f (J 17 rfl)⟩, ⟨by omega, a.2⟩, d, s4, s5, ⟨by omega, by omega, by omega, by omega⟩, fun j q1 q2 => ?_⟩
  have q : j = 7 ∨ j = 8 ∨ j = 9 ∨ j = 10 ∨ j = 11 ∨ j = 12 ∨ j = 13 := by omega
  have h0 := f.g j 0 (J j (by rcases q with rfl | rfl | rfl | rfl | rfl | rfl | rfl <;> rfl))
  rw [h0]
  exact s7 j q1 q2
/-- a token is passed -/
theorem cs_adv {A : cS} (s : jS A) (h : ¬ yget A 14 (yv A 10) = 0) {Q : cS → Prop} (hq : ∀ A', ySm A A' [] [10] → jX A A' (-2) (-60) 0 → yv A' 10 = yv A 10 + 1 → Q A') : wc_Parser_advance A Q := by
  have i := s.in h
  have s2 := s.a
  have e3 := s.e.2.2.1
  unfold wc_Parser_advance
  refine ⟨fun c => absurd c h, fun _ => ⟨⟨by omega, by omega⟩, ?_⟩⟩
  have f : ySm A (ypv A 10 (yv A 10 + 1)) [] [10] := ySm.rf.pv rfl
  have e : yv (ypv A 10 (yv A 10 + 1)) 10 = yv A 10 + 1 := rfl
  generalize ypv A 10 (yv A 10 + 1) = A' at f e
  refine hq A' f ⟨ySm.rf.tr f rfl rfl, s.sm f rfl (by omega) (by rw [f.v 11 rfl]; exact s.d), by omega, ?_, ?_, by rw [f.v 11 rfl]; omega, by rw [f.z 7 rfl]; exact Nat.le_refl _, s.n.1⟩ e
  · unfold j7 jt
    rw [f.z 7 rfl, f.z 22 rfl, f.z 14 rfl]
    omega
  · unfold j2 jt
    rw [f.z 2 rfl, f.z 14 rfl]
    omega
theorem cs_blame (A : cS) (a b : Int) {Q : cS → Prop} (hq : ∀ A', ySm A A' [] [4, 5] → Q A') : wc_Program_blame A a b Q := by
  have h0 : Q A := hq A ySm.rf
  have h1 : Q (ypv (ypv A 4 a) 5 b) := hq _ ((ySm.rf.pv rfl).pv rfl)
  unfold wc_Program_blame
  exact ⟨fun _ => ⟨fun _ => h1, fun _ => h1⟩, fun _ => ⟨fun _ => ⟨fun _ => h1, fun _ => h0⟩, fun _ => ⟨fun _ => ⟨fun _ => h1, fun _ => h0⟩, fun _ => ⟨fun _ => h1, fun _ => h1⟩⟩⟩⟩
/-- words and routines have room, where it throws -/
def jB5 (A : cS) : Prop := yz A 2 ≤ 80000 ∧ yz A 5 ≤ 2000
theorem jS.b5 {A : cS} (s : jS A) : jB5 A := by
  have b := s.b
  have a := s.a
  have r := s.r
  unfold j2 j3 jt at b
  unfold jB5
  omega
theorem cs_refuse {A : cS} (s : jS A) (Q : cS → Prop) {E : cS → Prop} (hE : ∀ A', jF A A' → jB5 A' → E A') : wc_Parser_refuse A Q E := by
  have b := s.b5
  have h : ∀ A', ySm A A' [] [4, 5] → E A' := fun A' f => hE A' (ySm.rf.tr f rfl rfl) ⟨by rw [f.z 2 rfl]; exact b.1, by rw [f.z 5 rfl]; exact b.2⟩
  unfold wc_Parser_refuse
  exact ⟨fun _ => cs_blame A _ _ h, fun _ => cs_blame A _ _ h⟩
theorem cs_due {A : cS} (s : jS A) (k : Int) (hk : ¬ k = 0) {Q E : cS → Prop} (hE : ∀ A', jF A A' → jB5 A' → E A') (hq : yget A 14 (yv A 10) = k → ∀ A', ySm A A' [] [10] → jX A A' (-2) (-60) 0 → yv A' 10 = yv A 10 + 1 → Q A') : wc_Parser_due A k Q E := by
  unfold wc_Parser_due wc_Parser_kind
  exact ⟨fun c => cs_adv s (by rw [c]; exact hk) (hq c), fun _ => cs_refuse s _ hE⟩
theorem cs_enter {A : cS} (s : jS A) {Q E : cS → Prop} (hE : ∀ A', jF A A' → jB5 A' → E A') (hq : yv A 11 < 60 → ∀ A', ySm A A' [] [11] → jX A A' 0 0 1 → Q A') : wc_Parser_enter A Q E := by
  have d := s.d
  unfold wc_Parser_enter
  refine ⟨fun c => ⟨⟨by omega, by omega⟩, ?_⟩, fun _ => cs_refuse s _ hE⟩
  have f : ySm A (ypv A 11 (yv A 11 + 1)) [] [11] := ySm.rf.pv rfl
  have e : yv (ypv A 11 (yv A 11 + 1)) 11 = yv A 11 + 1 := rfl
  generalize ypv A 11 (yv A 11 + 1) = A' at f e
  have e10 : yv A' 10 = yv A 10 := f.v 10 rfl
  refine hq c A' f ⟨ySm.rf.tr f rfl rfl, s.sm f rfl (by have := s.a; omega) (by omega), by omega, ?_, ?_, e, by rw [f.z 7 rfl]; exact Nat.le_refl _, s.n.1⟩
  · unfold j7 jt
    rw [f.z 7 rfl, f.z 22 rfl, f.z 14 rfl, e10]
    omega
  · unfold j2 jt
    rw [f.z 2 rfl, f.z 14 rfl, e10]
    omega
/-- the depth is set -/
theorem cs_dep {A : cS} (s : jS A) (x : Int) (hx : 0 ≤ x ∧ x ≤ 60) : ySm A (ypv A 11 x) [] [11] ∧ jX A (ypv A 11 x) 0 0 (x - yv A 11) := by
  have f : ySm A (ypv A 11 x) [] [11] := ySm.rf.pv rfl
  have e : yv (ypv A 11 x) 11 = x := rfl
  refine ⟨f, ySm.rf.tr f rfl rfl, s.sm f rfl ⟨Int.le_refl _, s.a.2⟩ (by rw [e]; exact hx), Int.le_refl _, ?_, ?_, by rw [e]; omega, Nat.le_refl _, s.n.1⟩
  · show j7 A ≤ _
    omega
  · show j2 A ≤ _
    omega
