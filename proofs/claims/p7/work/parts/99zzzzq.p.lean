/-! THE CLASS'S CODER: HOW IT STANDS -/
abbrev vJs : List Nat := [1, 2, 4, 5, 6, 10, 24, 25, 26, 27, 28, 29, 30, 31, 32, 33]
abbrev vKs : List Nat := [4, 5, 13, 14, 15, 16, 17, 18, 19, 20, 21, 22, 23, 24, 37, 38, 39, 40]
def vG (A : cS) : Prop := v0 A ∧ (yz A 28 = yz A 27 ∧ yz A 29 = yz A 27 ∧ yz A 30 = yz A 27 ∧ yz A 31 = yz A 27) ∧ (0 ≤ yv A 17 ∧ yv A 17 ≤ 6000) ∧ (0 ≤ yv A 19 ∧ yv A 19 ≤ 33554432) ∧ 0 ≤ yv A 23 ∧ (yv A 24 = 0 ∨ yv A 24 = 1) ∧ (0 ≤ yv A 37 ∧ yv A 37 ≤ 3000) ∧ yrg A 32 0 3000
/-- from here to there: code and cases, labels, jumps to them, cases, names, marks, areas -/
def vN (A A' : cS) (c l g k s m a : Int) : Prop := ((yz A' 1 : Nat) : Int) + 2 * ((yz A' 26 : Nat) : Int) ≤ ((yz A 1 : Nat) : Int) + 2 * ((yz A 26 : Nat) : Int) + c ∧ ((yz A' 24 : Nat) : Int) ≤ ((yz A 24 : Nat) : Int) + l ∧ ((yz A' 25 : Nat) : Int) ≤ ((yz A 25 : Nat) : Int) + g ∧ yz A 26 ≤ yz A' 26 ∧ ((yz A' 26 : Nat) : Int) ≤ ((yz A 26 : Nat) : Int) + k ∧ ((yz A' 27 : Nat) : Int) ≤ ((yz A 27 : Nat) : Int) + s ∧ ((yz A' 32 : Nat) : Int) ≤ ((yz A 32 : Nat) : Int) + m ∧ yv A' 23 ≤ yv A 23 + a ∧ yv A' 17 = yv A 17 ∧ yz A' 2 = yz A 2 ∧ yz A' 5 = yz A 5
def vX (A A' : cS) (c l g k s m a : Int) : Prop := ySm A A' vJs vKs ∧ vT A A' ∧ vG A' ∧ vN A A' c l g k s m a
theorem vX.f {A A' : cS} {c l g k s m a : Int} (h : vX A A' c l g k s m a) : ySm A A' vJs vKs := h.1
theorem vX.t {A A' : cS} {c l g k s m a : Int} (h : vX A A' c l g k s m a) : vT A A' := h.2.1
theorem vX.g {A A' : cS} {c l g k s m a : Int} (h : vX A A' c l g k s m a) : vG A' := h.2.2.1
theorem vX.n {A A' : cS} {c l g k s m a : Int} (h : vX A A' c l g k s m a) : vN A A' c l g k s m a := h.2.2.2
theorem vX.rf {A : cS} (g : vG A) : vX A A 0 0 0 0 0 0 0 := ⟨ySm.rf, vT.rf, g, by unfold vN; omega⟩
theorem vX.tr {A A1 A2 : cS} {c l g k s m a c' l' g' k' s' m' a' : Int} (h : vX A A1 c l g k s m a) (q : vX A1 A2 c' l' g' k' s' m' a') : vX A A2 (c + c') (l + l') (g + g') (k + k') (s + s') (m + m') (a + a') := by
  have h1 := h.n
  have h2 := q.n
  refine ⟨h.f.tr q.f rfl rfl, h.t.tr q.t, q.g, ?_⟩
  unfold vN at *
  omega
theorem vX.le {A A1 : cS} {c l g k s m a c' l' g' k' s' m' a' : Int} (h : vX A A1 c l g k s m a) (q : c ≤ c' ∧ l ≤ l' ∧ g ≤ g' ∧ k ≤ k' ∧ s ≤ s' ∧ m ≤ m' ∧ a ≤ a') : vX A A1 c' l' g' k' s' m' a' := by
  have h1 := h.n
  refine ⟨h.f, h.t, h.g, ?_⟩
  unfold vN at *
  omega
/-- the room that is left -/
def vRm (A : cS) (C G W : Int) : Prop := ((yz A 1 : Nat) : Int) + 2 * ((yz A 26 : Nat) : Int) + C ≤ 39980 ∧ ((yz A 24 : Nat) : Int) + W ≤ 2990 ∧ ((yz A 25 : Nat) : Int) + G ≤ 5990 ∧ ((yz A 26 : Nat) : Int) + 2 * W ≤ 5990 ∧ ((yz A 27 : Nat) : Int) + W ≤ 2990 ∧ ((yz A 32 : Nat) : Int) + W ≤ 2990 ∧ yv A 23 + W ≤ 100000
theorem vRm.x {A A1 : cS} {C G W c l g k s m a C' G' W' : Int} (R : vRm A C G W) (x : vX A A1 c l g k s m a) (q : c + C' ≤ C ∧ g + G' ≤ G ∧ l + W' ≤ W ∧ k + 2 * W' ≤ 2 * W ∧ s + W' ≤ W ∧ m + W' ≤ W ∧ a + W' ≤ W) : vRm A1 C' G' W' := by
  have h1 := x.n
  unfold vRm vN at *
  omega
theorem vRm.le {A : cS} {C G W C' G' W' : Int} (R : vRm A C G W) (q : C' ≤ C ∧ G' ≤ G ∧ W' ≤ W) : vRm A C' G' W' := by
  unfold vRm at *
  omega
theorem vG.sm {A A' : cS} {js ks : List Nat} (g : vG A) (f : ySm A A' js ks) (hj : ([7, 9, 11, 13, 27, 28, 29, 30, 31, 32].all fun j => !js.contains j) = true) (hk : ([17, 19, 23, 24, 37].all fun j => !ks.contains j) = true) : vG A' := by
  have J : ∀ j, ([7, 9, 11, 13, 27, 28, 29, 30, 31, 32] : List Nat).contains j = true → js.contains j = false := fun j h1 => by
    have := List.all_eq_true.mp hj j (by simpa using h1)
    simpa using this
  have K : ∀ j, ([17, 19, 23, 24, 37] : List Nat).contains j = true → ks.contains j = false := fun j h1 => by
    have := List.all_eq_true.mp hk j (by simpa using h1)
    simpa using this
  obtain ⟨⟨b1, b2, b3, b4⟩, g2, g3, g4, g5, g6, g7, g8⟩ := g
  unfold vG v0
  rw [f.g 7 0 (J 7 rfl), f.g 9 0 (J 9 rfl), f.g 11 0 (J 11 rfl), f.g 13 0 (J 13 rfl), f.z 27 (J 27 rfl), f.z 28 (J 28 rfl), f.z 29 (J 29 rfl), f.z 30 (J 30 rfl), f.z 31 (J 31 rfl), f.v 17 (K 17 rfl), f.v 19 (K 19 rfl), f.v 23 (K 23 rfl), f.v 24 (K 24 rfl), f.v 37 (K 37 rfl)]
  exact ⟨⟨b1, b2, b3, b4⟩, g2, g3, g4, g5, g6, g7, g8.sm f (J 32 rfl)⟩
theorem vX.z {A A' : cS} {js ks : List Nat} (g : vG A) (f : ySm A A' js ks) (hj : js.all (fun z => ([33] : List Nat).contains z) = true) (hk : ks.all (fun z => ([4, 5, 13, 14, 15, 16, 18, 20, 21, 22, 38, 39, 40] : List Nat).contains z) = true) : vX A A' 0 0 0 0 0 0 0 := by
  have f2 : ySm A A' [33] [4, 5, 13, 14, 15, 16, 18, 20, 21, 22, 38, 39, 40] := ySm.rf.tr f hj hk
  refine ⟨ySm.rf.tr f2 rfl rfl, vT.sm f2 rfl, g.sm f2 rfl rfl, ?_⟩
  unfold vN
  rw [f2.z 1 rfl, f2.z 26 rfl, f2.z 24 rfl, f2.z 25 rfl, f2.z 27 rfl, f2.z 32 rfl, f2.v 23 rfl, f2.v 17 rfl, f2.z 2 rfl, f2.z 5 rfl]
  omega
theorem vX.zv {A A' : cS} {ks : List Nat} (g : vG A) (f : ySm A A' [] ks) (hk : ks.all (fun z => ([4, 5, 13, 14, 15, 16, 18, 20, 21, 22, 38, 39, 40] : List Nat).contains z) = true) : vX A A' 0 0 0 0 0 0 0 := vX.z g f rfl hk
theorem cs_emit {A : cS} (g : vG A) {C G W : Int} (R : vRm A C G W) (hC : 2 ≤ C) (a b : Int) {Q : Int → cS → Prop} (hq : ∀ r A', ySm A A' [1] [] → vX A A' 2 0 0 0 0 0 0 → Q r A') : wc_Program_emit A a b Q := by
  have f : ySm A (yadd (yadd A 1 a) 1 b) [1] [] := (ySm.rf.add rfl).add rfl
  have z1 : yz (yadd A 1 a) 1 = yz A 1 + 1 := rfl
  have z2 : yz (yadd (yadd A 1 a) 1 b) 1 = yz A 1 + 1 + 1 := rfl
  have R1 := R.1
  unfold wc_Program_emit
  refine ⟨by omega, by omega, ⟨by omega, by omega⟩, hq _ _ f ⟨ySm.rf.tr f rfl rfl, vT.sm f rfl, g.sm f rfl rfl, ?_⟩⟩
  unfold vN
  rw [z2, f.z 26 rfl, f.z 24 rfl, f.z 25 rfl, f.z 27 rfl, f.z 32 rfl, f.v 23 rfl, f.v 17 rfl, f.z 2 rfl, f.z 5 rfl]
  omega
theorem cs_cemit {A : cS} (g : vG A) {C G W : Int} (R : vRm A C G W) (hC : 2 ≤ C) (a b : Int) {Q : Int → cS → Prop} (hq : ∀ r A', ySm A A' [1] [] → vX A A' 2 0 0 0 0 0 0 → Q r A') : wc_Coder_emit A a b Q := by
  unfold wc_Coder_emit
  exact cs_emit g R hC a b hq
theorem vX.c1 {A A' : cS} (g : vG A) (f : ySm A A' [1] []) (z : yz A' 1 = yz A 1) : vX A A' 0 0 0 0 0 0 0 := by
  refine ⟨ySm.rf.tr f rfl rfl, vT.sm f rfl, g.sm f rfl rfl, ?_⟩
  unfold vN
  rw [z, f.z 26 rfl, f.z 24 rfl, f.z 25 rfl, f.z 27 rfl, f.z 32 rfl, f.v 23 rfl, f.v 17 rfl, f.z 2 rfl, f.z 5 rfl]
  omega
theorem cs_land {A : cS} (g : vG A) (a : Int) {Q : cS → Prop} (hq : ∀ A', ySm A A' [1] [] → vX A A' 0 0 0 0 0 0 0 → Q A') : wc_Program_land A a Q := by
  have L : ∀ (m : Nat) (A1 : cS) (x y : Int), ySm A A1 [1] [] → yz A1 1 = yz A 1 → 0 ≤ y → y ≤ 1000000 → 1000000 - y < m → wc_Program_land_4 Q m A1 x y := by
    intro m
    induction m with
    | zero => intro A1 x y _ _ _ _ h; omega
    | succ m ih =>
      intro A1 x y f z h0 h1 h2
      have q := hq A1 f (vX.c1 g f z)
      unfold wc_Program_land_4
      unfold wc_Program_land_4B
      unfold wc_Program_here
      exact ⟨fun _ => q, fun _ => ⟨fun _ => q, fun _ => ⟨⟨by omega, by omega⟩, ih _ _ _ (f.set rfl) z (by omega) (by omega) (by omega)⟩⟩⟩
  unfold wc_Program_land
  exact ⟨1000001, L _ A a 0 ySm.rf rfl (by omega) (by omega) (by omega)⟩
theorem cs_landAt {A : cS} (g : vG A) (a b : Int) {Q : cS → Prop} (hq : ∀ A', ySm A A' [1] [] → vX A A' 0 0 0 0 0 0 0 → Q A') : wc_Program_landAt A a b Q := by
  have L : ∀ (m : Nat) (A1 : cS) (w x y : Int), ySm A A1 [1] [] → yz A1 1 = yz A 1 → 0 ≤ y → y ≤ 1000000 → 1000000 - y < m → wc_Program_landAt_5 Q m A1 w x y := by
    intro m
    induction m with
    | zero => intro A1 w x y _ _ _ _ h; omega
    | succ m ih =>
      intro A1 w x y f z h0 h1 h2
      have q := hq A1 f (vX.c1 g f z)
      unfold wc_Program_landAt_5
      unfold wc_Program_landAt_5B
      exact ⟨fun _ => q, fun _ => ⟨fun _ => q, fun _ => ⟨⟨by omega, by omega⟩, ih _ _ _ _ (f.set rfl) z (by omega) (by omega) (by omega)⟩⟩⟩
  unfold wc_Program_landAt
  exact ⟨1000001, L _ A b a 0 ySm.rf rfl (by omega) (by omega) (by omega)⟩
theorem cs_cblame {A : cS} (g : vG A) (a b : Int) {Q : cS → Prop} (hq : ∀ A', ySm A A' [] [4, 5] → vX A A' 0 0 0 0 0 0 0 → Q A') : wc_Program_blame A a b Q := cs_blame A a b (fun A' f => hq A' f (vX.z g f rfl rfl))
/-- a row's cell is set -/
theorem vX.set {A : cS} (g : vG A) {j : Nat} (hj : j = 2 ∨ j = 4 ∨ j = 5 ∨ j = 6 ∨ j = 24 ∨ j = 29 ∨ j = 30) (i v : Int) : ySm A (yset A j i v) [j] [] ∧ vX A (yset A j i v) 0 0 0 0 0 0 0 := by
  have f : ySm A (yset A j i v) [j] [] := ySm.rf.set (by simp)
  have z : ∀ q, yz (yset A j i v) q = yz A q := fun _ => rfl
  have e : ∀ q, yv (yset A j i v) q = yv A q := fun _ => rfl
  have c : ∀ q : Nat, ¬ q = j → ([j] : List Nat).contains q = false := fun q h => by simp [h]
  have t : vT A (yset A j i v) := ⟨fun q x hq => f.g q x (c q (by omega)), fun x _ => f.g 10 x (c 10 (by omega))⟩
  refine ⟨f, ySm.rf.tr f (by rcases hj with rfl | rfl | rfl | rfl | rfl | rfl | rfl <;> rfl) rfl, t, ?_, ?_⟩
  · obtain ⟨g1, g2, g3, g4, g5, g6, g7, g8⟩ := g
    exact ⟨g1.k t, g2, g3, g4, g5, g6, g7, g8.sm f (c 32 (by omega))⟩
  · exact (vX.rf g).n
theorem cs_copen1 {A : cS} (g : vG A) (b27 : yz A 27 ≤ 3000) (b32 : yz A 32 ≤ 2999) {Q : cS → Prop} (hq : ∀ A', ySm A A' [32] [37] → vX A A' 0 0 0 0 0 1 0 → Q A') : wc_Scope_open A Q := by
  obtain ⟨g1, g2, g3, g4, g5, g6, g7, g8⟩ := id g
  unfold wc_Scope_open
  have f : ySm A (ypv (yadd A 32 (yv A 37)) 37 ((yz A 27 : Nat) : Int)) [32] [37] := (ySm.rf.add rfl).pv rfl
  refine ⟨by omega, hq _ f ⟨ySm.rf.tr f rfl rfl, vT.sm f rfl, ⟨g1.k (vT.sm f rfl), g2, g3, g4, g5, g6, ?_, ?_⟩, ?_⟩⟩
  · show 0 ≤ ((yz A 27 : Nat) : Int) ∧ ((yz A 27 : Nat) : Int) ≤ 3000
    omega
  · exact (yrg.add g8 (fun _ => g7)).pv
  · unfold vN
    have z32 : yz (ypv (yadd A 32 (yv A 37)) 37 ((yz A 27 : Nat) : Int)) 32 = yz A 32 + 1 := rfl
    rw [z32, f.z 1 rfl, f.z 26 rfl, f.z 24 rfl, f.z 25 rfl, f.z 27 rfl, f.v 23 rfl, f.v 17 rfl, f.z 2 rfl, f.z 5 rfl]
    omega
theorem cs_copen {A : cS} (g : vG A) {C G W : Int} (R : vRm A C G W) (hW : 1 ≤ W) {Q : cS → Prop} (hq : ∀ A', ySm A A' [32] [37] → vX A A' 0 0 0 0 0 1 0 → Q A') : wc_Scope_open A Q := cs_copen1 g (by unfold vRm at R; omega) (by unfold vRm at R; omega) hq
