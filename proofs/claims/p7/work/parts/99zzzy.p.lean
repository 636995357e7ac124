/-! THE CLASS'S PARSER: NODES, PARTS, SECTIONS' ENDS -/
/-- a new node -/
def jNw (A A' : cS) (k d : Int) : Prop := jU A A' jO ∧ yz A' 7 = yz A 7 + 1 ∧ jOp A' (yz A 7) (jI (yz A 7) (yz A 7 + 1)) [] ∧ yget A' 13 (yz A 7 : Nat) = 0 ∧ yget A' 7 (yz A 7 : Nat) = k ∧ yget A' 9 (yz A 7 : Nat) = d ∧ yget A' 10 (yz A 7 : Nat) = 0
theorem cs_node {A : cS} (s : jS A) (h7 : j7 A ≤ 2990) (k p d : Int) {Q : Int → cS → Prop} (hq : ∀ A', ySm A A' [7, 8, 9, 10, 11, 12, 13] [] → jX A A' 1 0 0 → jNw A A' k d → Q (yz A 7 : Nat) A') : wc_Tree_node A k p d Q := by
  obtain ⟨n1, n8, n9, n10, n11, n12, n13⟩ := s.n
  have sa := s.a
  have b : yz A 7 < 2995 := by unfold j7 jt at h7; omega
  unfold wc_Tree_node
  have f : ySm A (yadd (yadd (yadd (yadd (yadd (yadd (yadd A 7 k) 8 p) 9 d) 10 0) 11 0) 12 0) 13 0) [7, 8, 9, 10, 11, 12, 13] [] := ((((((ySm.rf.add rfl).add rfl).add rfl).add rfl).add rfl).add rfl).add rfl
  have e : ((yz (yadd A 7 k) 7 : Nat) : Int) - 1 = ((yz A 7 : Nat) : Int) := by
    show ((yz A 7 + 1 : Nat) : Int) - 1 = _
    omega
  rw [e]
  have z : ∀ j, 7 ≤ j → j ≤ 13 → yz (yadd (yadd (yadd (yadd (yadd (yadd (yadd A 7 k) 8 p) 9 d) 10 0) 11 0) 12 0) 13 0) j = yz A j + 1 := fun j a c => by
    have q : j = 7 ∨ j = 8 ∨ j = 9 ∨ j = 10 ∨ j = 11 ∨ j = 12 ∨ j = 13 := by omega
    rcases q with rfl | rfl | rfl | rfl | rfl | rfl | rfl <;> simp only [yz_add, reduceIte, Nat.reduceEqDiff]
  have g : ∀ (j : Nat) (i : Int), yget (yadd (yadd (yadd (yadd (yadd (yadd (yadd A 7 k) 8 p) 9 d) 10 0) 11 0) 12 0) 13 0) j i = if j = 13 ∧ i = (yz A 13 : Nat) then 0 else if j = 12 ∧ i = (yz A 12 : Nat) then 0 else if j = 11 ∧ i = (yz A 11 : Nat) then 0 else if j = 10 ∧ i = (yz A 10 : Nat) then 0 else if j = 9 ∧ i = (yz A 9 : Nat) then d else if j = 8 ∧ i = (yz A 8 : Nat) then p else if j = 7 ∧ i = (yz A 7 : Nat) then k else yget A j i := fun j i => by
    rw [yget_add, yget_add, yget_add, yget_add, yget_add, yget_add, yget_add]
    simp only [yz_add, reduceIte, Nat.reduceEqDiff]
  rw [n8, n9, n10, n11, n12, n13] at g
  generalize yadd (yadd (yadd (yadd (yadd (yadd (yadd A 7 k) 8 p) 9 d) 10 0) 11 0) 12 0) 13 0 = A' at f z g
  have z7 := z 7 (by decide) (by decide)
  have old : ∀ (j : Nat) (i : Int), ¬ i = (yz A 7 : Nat) → yget A' j i = yget A j i := fun j i h => by
    rw [g, if_neg (fun q => h q.2), if_neg (fun q => h q.2), if_neg (fun q => h q.2), if_neg (fun q => h q.2), if_neg (fun q => h q.2), if_neg (fun q => h q.2), if_neg (fun q => h q.2)]
  have g13 : yget A' 13 (yz A 7 : Nat) = 0 := by rw [g, if_pos ⟨rfl, rfl⟩]
  have g12 : yget A' 12 (yz A 7 : Nat) = 0 := by rw [g, if_neg (by omega), if_pos ⟨rfl, rfl⟩]
  have g11 : yget A' 11 (yz A 7 : Nat) = 0 := by rw [g, if_neg (by omega), if_neg (by omega), if_pos ⟨rfl, rfl⟩]
  have g10 : yget A' 10 (yz A 7 : Nat) = 0 := by rw [g, if_neg (by omega), if_neg (by omega), if_neg (by omega), if_pos ⟨rfl, rfl⟩]
  have g9 : yget A' 9 (yz A 7 : Nat) = d := by rw [g, if_neg (by omega), if_neg (by omega), if_neg (by omega), if_neg (by omega), if_pos ⟨rfl, rfl⟩]
  have g7 : yget A' 7 (yz A 7 : Nat) = k := by rw [g, if_neg (by omega), if_neg (by omega), if_neg (by omega), if_neg (by omega), if_neg (by omega), if_neg (by omega), if_pos ⟨rfl, rfl⟩]
  refine ⟨by omega, by omega, by omega, by omega, by omega, by omega, by omega, ⟨by omega, by omega⟩, hq A' f ⟨ySm.rf.tr f rfl rfl, ?_, by rw [f.v 10 rfl]; exact Int.le_refl _, ?_, ?_, by rw [f.v 11 rfl]; omega, by omega, n1⟩ ⟨fun j i a c hi _ => old j i (by omega), z7, ⟨n1, ⟨Nat.le_refl _, by omega⟩, fun i hi => ⟨by omega, by omega⟩, g11, fun c m hc => absurd hc (by simp), fun c hc => absurd hc List.not_mem_nil, List.Pairwise.nil⟩, g13, g7, g9, g10⟩⟩
  · obtain ⟨⟨e1, e2, e3, e4, e5, e6⟩, s2, s3, s4, s5, s6, s7⟩ := s
    unfold jS sE
    unfold j2 j3 j21 j23 jt at s6 ⊢
    rw [f.z 14 rfl, f.z 15 rfl, f.z 16 rfl, f.z 3 rfl, f.z 4 rfl, f.z 5 rfl, f.z 6 rfl, f.z 2 rfl, f.z 21 rfl, f.z 23 rfl, f.v 10 rfl, f.v 11 rfl, z 7 (by decide) (by decide), z 8 (by decide) (by decide), z 9 (by decide) (by decide), z 10 (by decide) (by decide), z 11 (by decide) (by decide), z 12 (by decide) (by decide), z 13 (by decide) (by decide)]
    exact ⟨⟨e1, e2, e3, e4.sm f rfl, e5.sm f rfl, e6.sm f rfl⟩, s2, s3, ⟨by omega, by omega, by omega, by omega, by omega, by omega, by omega⟩, s5, s6, fun j q1 q2 => by rw [old j 0 (by omega)]; exact s7 j q1 q2⟩
  · unfold j7 jt
    rw [f.z 22 rfl, f.z 14 rfl, f.v 10 rfl]
    omega
  · unfold j2 jt
    rw [f.z 2 rfl, f.z 14 rfl, f.v 10 rfl]
    omega
/-- a new node of the token at hand, which is passed -/
theorem cs_leaf {A : cS} (s : jS A) (h7 : j7 A ≤ 2990) (h0 : ¬ yget A 14 (yv A 10) = 0) (k : Int) {Q : Int → cS → Prop} (hq : ∀ A', ySm A A' [7, 8, 9, 10, 11, 12, 13] [10] → jX A A' (-1) (-60) 0 → yv A' 10 = yv A 10 + 1 → jNw A A' k (yget A 15 (yv A 10)) → Q (yz A 7 : Nat) A') : wc_Parser_leaf A k Q := by
  unfold wc_Parser_leaf wc_Parser_place wc_Parser_info
  refine cs_node s h7 _ _ _ (fun A1 f1 x1 w1 => ?_)
  have e10 : yv A1 10 = yv A 10 := f1.v 10 rfl
  refine cs_adv x1.s (by rw [e10, f1.g 14 _ rfl]; exact h0) (fun A2 f2 x2 e2 => ?_)
  refine hq A2 ((ySm.rf.tr f1 rfl rfl : ySm A A1 [7, 8, 9, 10, 11, 12, 13] [10]).tr f2 rfl rfl) ((x1.tr x2).le (by decide) (by decide) rfl) (by rw [e2, e10]) ?_
  obtain ⟨a1, a2, a3, a4, a5, a6, a7⟩ := w1
  have u : jU A1 A2 jO := jU.sm f2 rfl
  exact ⟨a1.tr u (by omega) (fun _ _ q => q), by rw [f2.z 7 rfl]; exact a2, u.o a3 (by rw [f2.z 7 rfl]; exact Nat.le_refl _), by rw [f2.g 13 _ rfl]; exact a4, by rw [f2.g 7 _ rfl]; exact a5, by rw [f2.g 9 _ rfl]; exact a6, by rw [f2.g 10 _ rfl]; exact a7⟩
/-- the tree's row of kids is changed, sizes stay -/
theorem jX.tree {A A' : cS} {js : List Nat} (s : jS A) (f : ySm A A' js []) (hj : js.all (fun z => ([7, 8, 9, 10, 11, 12, 13] : List Nat).contains z) = true) (z : ∀ j, yz A' j = yz A j) (g : ∀ j, 7 ≤ j → j ≤ 13 → yget A' j 0 = yget A j 0) : jX A A' 0 0 0 := by
  have f2 : ySm A A' [7, 8, 9, 10, 11, 12, 13] [] := ySm.rf.tr f hj rfl
  refine ⟨ySm.rf.tr f2 rfl rfl, ?_, by rw [f2.v 10 rfl]; exact Int.le_refl _, ?_, ?_, by rw [f2.v 11 rfl]; omega, by rw [z]; exact Nat.le_refl _, s.n.1⟩
  · obtain ⟨⟨e1, e2, e3, e4, e5, e6⟩, s2, s3, s4, s5, s6, s7⟩ := s
    unfold jS sE
    unfold j2 j3 j21 j23 jt at s6 ⊢
    simp only [z]
    rw [f2.v 10 rfl, f2.v 11 rfl]
    exact ⟨⟨e1, e2, e3, e4.sm f2 rfl, e5.sm f2 rfl, e6.sm f2 rfl⟩, s2, s3, s4, s5, s6, fun j q1 q2 => by rw [g j q1 q2]; exact s7 j q1 q2⟩
  · unfold j7 jt
    rw [z, z, z, f2.v 10 rfl]
    omega
  · unfold j2 jt
    rw [z, z, f2.v 10 rfl]
    omega
/-- a part is hung: as a step -/
theorem cs_hg {A : cS} (s : jS A) {n k : Nat} {S : Nat → Prop} {l : List jC} (o : jOp A n S l) {h w : Nat} {Sc : Nat → Prop} (t : jT A h k w Sc) (k13 : yget A 13 k = 0) (d : ∀ i, Sc i → ¬ S i) (b : ∀ i, Sc i → 1 ≤ i ∧ i < yz A 7) {Q : cS → Prop} (hq : ∀ A', ySm A A' [11, 12, 13] [] → jX A A' 0 0 0 → yz A' 7 = yz A 7 → jU A A' S → yget A' 13 n = yget A 13 n → jOp A' n (fun i => S i ∨ Sc i) (l ++ [(h, k, w, Sc)]) → Q A') : wc_Tree_hang A n k Q := by
  obtain ⟨n1, n8, n9, n10, n11, n12, n13⟩ := s.n
  refine cs_hang o t k13 d b ⟨n11, n12, n13⟩ (fun A' f z e e13 o' => ?_)
  have nS := o.2.2.1 n o.2.1
  refine hq A' f (jX.tree s f rfl z (fun j q1 q2 => e j 0 (fun q => by have := (o.2.2.1 0 q).1; omega))) (z 7) (fun j i a c hi hS => e j i hS) e13 o'
/-- a cell of an open node -/
theorem cs_cell {A : cS} (s : jS A) {n : Nat} {S : Nat → Prop} {l : List jC} (o : jOp A n S l) {j : Nat} (hj : j = 7 ∨ j = 9 ∨ j = 10) (x : Int) : ySm A (yset A j n x) [j] [] ∧ jX A (yset A j n x) 0 0 0 ∧ yz (yset A j n x) 7 = yz A 7 ∧ jU A (yset A j n x) (fun i => i = n) ∧ jOp (yset A j n x) n S l ∧ (∀ j2 : Nat, yget (yset A j n x) j2 n = if j2 = j then x else yget A j2 n) := by
  obtain ⟨n1, n8, n9, n10, n11, n12, n13⟩ := s.n
  have nS := o.2.2.1 n o.2.1
  have z : yz A j = yz A 7 := by rcases hj with rfl | rfl | rfl <;> omega
  have f : ySm A (yset A j n x) [j] [] := ySm.rf.set (by simp)
  have g : ∀ (j2 i : Nat), yget (yset A j n x) j2 i = if j2 = j ∧ i = n then x else yget A j2 i := fun j2 i => by
    rw [yget_set, z]
    by_cases c : j2 = j ∧ i = n
    · rw [if_pos ⟨⟨c.1, by rw [c.2]⟩, by omega, by omega⟩, if_pos c]
    · rw [if_neg (fun q => c ⟨q.1.1, by omega⟩), if_neg c]
  refine ⟨f, jX.tree s f (by rcases hj with rfl | rfl | rfl <;> rfl) (fun _ => rfl) (fun j2 q1 q2 => by have := g j2 0; rw [if_neg (by omega)] at this; exact this), rfl, fun j2 i a c hi hn => by rw [g, if_neg (fun q => hn q.2)], ?_, fun j2 => by rw [g]; by_cases c : j2 = j <;> simp [c]⟩
  obtain ⟨a1, a2, a3, a4, a5, a6, a7⟩ := o
  have e : ∀ (j2 i : Nat), ¬ j2 = j → yget (yset A j n x) j2 i = yget A j2 i := fun j2 i h => by rw [g, if_neg (fun q => h q.1)]
  have en : ∀ (j2 i : Nat), ¬ i = n → yget (yset A j n x) j2 i = yget A j2 i := fun j2 i h => by rw [g, if_neg (fun q => h q.2)]
  refine ⟨a1, a2, a3, ?_, fun c m hc => by rw [e 12 n (by omega)]; exact a5 c m hc, fun c hc => ⟨(a6 c hc).1.fr (fun i hi => ?_) (fun i hi _ => e 13 i (by omega)), (a6 c hc).2⟩, a7⟩
  · rw [e 11 n (by omega)]
    exact a4.fr (fun k _ => e 13 k (by omega))
  · have q := ((a6 c hc).2 i hi).2
    exact ⟨en 7 i q, en 9 i q, en 10 i q, en 11 i q⟩
/-- words of the store, routines -/
theorem cs_word {A : cS} (s : jS A) (b : j2 A ≤ 79899) (x : Int) {Q : Int → cS → Prop} (hq : ∀ r A', ySm A A' [2] [] → jX A A' 0 1 0 → zR r → Q r A') : wc_Program_addWord A x Q := by
  have sa := s.a
  have b2 : yz A 2 ≤ 79899 := by unfold j2 jt at b; omega
  have f : ySm A (yadd A 2 x) [2] [] := ySm.rf.add rfl
  have z : yz (yadd A 2 x) 2 = yz A 2 + 1 := rfl
  unfold wc_Program_addWord
  rw [z]
  generalize yadd A 2 x = A' at f z
  refine ⟨by omega, ⟨by omega, by omega⟩, hq _ A' f ⟨ySm.rf.tr f rfl rfl, ?_, by rw [f.v 10 rfl]; exact Int.le_refl _, ?_, ?_, by rw [f.v 11 rfl]; omega, by rw [f.z 7 rfl]; exact Nat.le_refl _, s.n.1⟩ ⟨by omega, by omega⟩⟩
  · obtain ⟨⟨e1, e2, e3, e4, e5, e6⟩, s2, s3, s4, s5, s6, s7⟩ := s
    unfold jS sE
    unfold j2 j3 j21 j23 jt at s6 ⊢
    unfold j2 jt at b
    rw [f.z 14 rfl, f.z 15 rfl, f.z 16 rfl, f.z 3 rfl, f.z 4 rfl, f.z 5 rfl, f.z 6 rfl, z, f.z 21 rfl, f.z 23 rfl, f.v 10 rfl, f.v 11 rfl, f.z 7 rfl, f.z 8 rfl, f.z 9 rfl, f.z 10 rfl, f.z 11 rfl, f.z 12 rfl, f.z 13 rfl]
    exact ⟨⟨e1, e2, e3, e4.sm f rfl, e5.sm f rfl, e6.sm f rfl⟩, s2, s3, s4, s5, ⟨by omega, s6.2⟩, fun j q1 q2 => by
      have q : j = 7 ∨ j = 8 ∨ j = 9 ∨ j = 10 ∨ j = 11 ∨ j = 12 ∨ j = 13 := by omega
      rw [f.g j 0 (by rcases q with rfl | rfl | rfl | rfl | rfl | rfl | rfl <;> rfl)]
      exact s7 j q1 q2⟩
  · unfold j7 jt
    rw [f.z 7 rfl, f.z 22 rfl, f.z 14 rfl, f.v 10 rfl]
    omega
  · unfold j2 jt
    rw [z, f.z 14 rfl, f.v 10 rfl]
    omega
