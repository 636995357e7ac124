/-! THE REFERENCE'S CALLS, ALL -/
theorem pJ.wt {s s' : zS} {N N' : Int} {js ks : List Nat} (h : pJ s N) (p : pI s' N') (f : zSm s s' js ks) (hj : ([25, 27, 28, 29, 30, 31, 32, 33, 57, 70, 71, 72, 85, 86].all fun j => !js.contains j) = true) (hk : ([69, 76, 81, 82, 84, 105].all fun k => !ks.contains k) = true) : pJ s' N' := by
  have aj : ∀ l : List Nat, l.all (fun z => ([25, 27, 28, 29, 30, 31, 32, 33, 57, 70, 71, 72, 85, 86] : List Nat).contains z) = true → (l.all fun j => !js.contains j) = true := fun l hl => List.all_eq_true.mpr (fun j hj2 => List.all_eq_true.mp hj j (by simpa using List.all_eq_true.mp hl j hj2))
  have ak : ∀ l : List Nat, l.all (fun z => ([69, 76, 81, 82, 84, 105] : List Nat).contains z) = true → (l.all fun k => !ks.contains k) = true := fun l hl => List.all_eq_true.mpr (fun j hj2 => List.all_eq_true.mp hk j (by simpa using List.all_eq_true.mp hl j hj2))
  obtain ⟨a, b, c, d⟩ := h
  have n57 : js.contains 57 = false := by simpa using List.all_eq_true.mp hj 57 (by decide)
  have n76 : ks.contains 76 = false := by simpa using List.all_eq_true.mp hk 76 (by decide)
  have n105 : ks.contains 105 = false := by simpa using List.all_eq_true.mp hk 105 (by decide)
  refine ⟨p, fun e => by rw [f.a 57 e n57]; exact b e, by rw [f.v 76 n76]; exact c, fun q => ?_⟩
  rw [f.v 105 n105] at q
  exact (d q).sm f (aj _ rfl) (ak _ rfl)
theorem pJ.N {s : zS} {N N' : Int} (h : pJ s N) (h1 : N ≤ N') : pJ s N' := ⟨h.1.N h1, h.2⟩
theorem pj_feed (s : zS) (a b c d e N : Int) (h : pJ s N) (hN : N + 20 ≤ 6000) {Q : Int → zS → Prop} (hq : ∀ r s', pJ s' (N + 20) → r = 1 → zv s' 2 = zv s 2 + 20 → Q r s') : wr_feed s a b c d e Q := by
  refine ffm_feed (sp_feed s a b c d e N h.1 hN) ?_
  rintro r s' f ⟨p, q1, q2⟩
  exact hq r s' (h.wt p f rfl rfl) q1 q2
theorem pj_end (s : zS) (a N : Int) (h : pJ s N) {Q : Int → zS → Prop} (hq : ∀ r s', pJ s' N → (r = 1 ∧ 0 ≤ a ∧ a ≤ zv s 2 ∧ zv s' 2 = a ∨ r = 0 ∧ ¬ (0 ≤ a ∧ a ≤ zv s 2) ∧ zv s' 2 = zv s 2) → Q r s') : wr_end s a Q := by
  refine ffm_end (sp_end s a N h.1) ?_
  rintro r s' f ⟨p, q1, q2, q3⟩
  refine hq r s' (h.wt p f rfl rfl) ?_
  rcases q3 with e | e
  · exact Or.inr ⟨e, q2 e⟩
  · exact Or.inl ⟨e, q1 e⟩
theorem pj_store (s : zS) (a N : Int) (h : pJ s N) {Q : Int → zS → Prop} (hq : ∀ r s', pJ s' N → (pFive a → r = 1) → (¬ pFive a → r = 0) → zv s' 2 = zv s 2 → Q r s') : wr_store s a Q := by
  refine ffm_store (sp_store s a N h.1) ?_
  rintro r s' f ⟨p, q1, q2, q3⟩
  exact hq r s' (h.wt p f rfl rfl) q1 q2 q3
theorem pJ.z {s s' : zS} {N : Int} (h : pJ s N) (f : zSm s s' [] [0]) : pJ s' N ∧ zv s' 2 = zv s 2 := ⟨h.fr f rfl rfl, f.v 2 rfl⟩
theorem pj_out (s : zS) (a N : Int) (h : pJ s N) {Q : Int → zS → Prop} (hq : ∀ r s', pJ s' N → zv s' 2 = zv s 2 → Q r s') : wr_out s a Q := by
  refine ffm_out (sp_out s a) ?_
  rintro r s' f -
  exact hq r s' (h.z f).1 (h.z f).2
theorem pj_word (s : zS) (a N : Int) (h : pJ s N) {Q : Int → zS → Prop} (hq : ∀ r s', pJ s' N → zv s' 2 = zv s 2 → Q r s') : wr_word s a Q := by
  refine ffm_word (sp_word s a N h.1) ?_
  rintro r s' f -
  exact hq r s' (h.z f).1 (h.z f).2
theorem pj_outAt (s : zS) (a i N : Int) (h : pJ s N) {Q : Int → zS → Prop} (hq : ∀ r s', pJ s' N → zv s' 2 = zv s 2 → Q r s') : wr_outAt s a i Q := by
  refine ffm_outAt (sp_outAt s a i N h.1) ?_
  rintro r s' f -
  exact hq r s' (h.z f).1 (h.z f).2
theorem pj_value (s : zS) (N : Int) (h : pJ s N) {Q : Int → zS → Prop} (hq : ∀ r s', pJ s' N → zv s' 2 = zv s 2 → Q r s') : wr_value s Q := by
  have f : zSm s (zpv s 0 0) [] [0] := zSm.rf.pv rfl
  exact hq _ _ (h.z f).1 (h.z f).2
theorem pj_fuel (s : zS) (N : Int) (h : pJ s N) {Q : Int → zS → Prop} (hq : ∀ r s', pJ s' N → zv s' 2 = zv s 2 → Q r s') : wr_fuel s Q := by
  have f : zSm s (zpv s 0 0) [] [0] := zSm.rf.pv rfl
  exact hq _ _ (h.z f).1 (h.z f).2
theorem pj_fault (s : zS) (N : Int) (h : pJ s N) {Q : Int → zS → Prop} (hq : ∀ r s', pJ s' N → zv s' 2 = zv s 2 → Q r s') : wr_fault_ s Q := by
  have f : zSm s (zpv s 0 0) [] [0] := zSm.rf.pv rfl
  exact hq _ _ (h.z f).1 (h.z f).2
theorem pj_run (s : zS) (a n : Int) (h : pJ s n) {Q : Int → zS → Prop} (hq : ∀ r s', pJ s' n → zv s' 2 = zv s 2 → Q r s') : wr_run s a Q := by
  refine ffm_run (sp_run s a n h (Q := fun _ s' => pJ s' n) (fun _ _ q => q)) ?_
  rintro r s' f q
  exact hq r s' q (f.v 2 rfl)
