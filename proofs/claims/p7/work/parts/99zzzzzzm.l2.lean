theorem gFive_z {a : Int32} : gFive a ↔ pFive a.toInt := by
  have e : ∀ x : Int, zR x → (a = zI x ↔ a.toInt = x) := fun x hx => ⟨fun q => by rw [q, zI_t hx], fun q => by rw [← q, zI_o]⟩
  unfold gFive pFive
  rw [← e 4096 (by decide), ← e 8192 (by decide), ← e 16384 (by decide), ← e 32768 (by decide), ← e 65536 (by decide)]
  exact Iff.rfl
theorem gFive_w {a : Int32} (h : gFive a) : ∃ N, gPw N ∧ a = nI N := by
  rcases h with rfl | rfl | rfl | rfl | rfl
  · exact ⟨4096, Or.inl rfl, rfl⟩
  · exact ⟨8192, Or.inr (Or.inl rfl), rfl⟩
  · exact ⟨16384, Or.inr (Or.inr (Or.inl rfl)), rfl⟩
  · exact ⟨32768, Or.inr (Or.inr (Or.inr (Or.inl rfl))), rfl⟩
  · exact ⟨65536, Or.inr (Or.inr (Or.inr (Or.inr rfl))), rfl⟩
theorem lW.of {S S' : gSt} (w : lW S) (h43 : sZ S' 43 = sZ S 43) (h45 : sN S' 45 = sN S 45) (h0 : sV S' 0 = sV S 0) (h2 : sV S' 2 = sV S 2 ∨ sV S' 2 = sV S 0) : lW S' := by
  obtain ⟨w43, w45, w0, w2⟩ := w
  refine ⟨by rw [h43]; exact w43, by rw [h45]; exact w45, by rw [h0]; exact w0, ?_⟩
  rcases h2 with q | q
  · rw [q]; exact w2
  · rw [q]; exact w0
theorem cs_feed1 {A : cS} (I : cI A) (b : yz A 0 + 20 ≤ 6000) (a0 a1 a2 a3 a4 : Int) {Q : Int → cS → Prop} (hq : ∀ A', ySm A A' [0] [] → cI A' → yz A' 0 = yz A 0 + 20 → Q 1 A') : wc_W_feed A a0 a1 a2 a3 a4 Q := by
  unfold wc_W_feed
  refine ⟨⟨by omega, by omega⟩, fun q => ?_, fun q => by exfalso; omega⟩
  refine cs_addBytes (by omega) _ (fun A1 f1 z1 => cs_addBytes (by omega) _ (fun A2 f2 z2 => cs_addBytes (by omega) _ (fun A3 f3 z3 => cs_addBytes (by omega) _ (fun A4 f4 z4 => cs_addBytes (by omega) _ (fun A5 f5 z5 => ?_)))))
  have f := (((f1.tr f2 rfl rfl : ySm A A2 [0] []).tr f3 rfl rfl : ySm A A3 [0] []).tr f4 rfl rfl : ySm A A4 [0] []).tr f5 rfl rfl (js := [0]) (ks := [])
  exact hq A5 f (I.sm f rfl rfl) (by omega)
/-- what 'end' leaves and answers -/
def lLen (a : Int32) (n : Nat) : Nat := if 0 ≤ a.toInt ∧ a.toInt ≤ (n : Int) then a.toInt.toNat else n
def lAns (a : Int32) (n : Nat) : Int32 := if 0 ≤ a.toInt ∧ a.toInt ≤ (n : Int) then 1 else 0
def lInp (a : Int32) (n : Nat) : Int32 := if 0 ≤ a.toInt ∧ a.toInt ≤ 3 then nI n else -1
theorem cs_end1 {A : cS} (I : cI A) (a : Int) {Q : Int → cS → Prop} (hq : ∀ r A', ySm A A' [0] [] → cI A' → (0 ≤ a ∧ a ≤ (yz A 0 : Int) → r = 1 ∧ (yz A' 0 : Int) = a) → (¬ (0 ≤ a ∧ a ≤ (yz A 0 : Int)) → r = 0 ∧ yz A' 0 = yz A 0) → Q r A') : wc_W_end A a Q := by
  unfold wc_W_end
  refine ⟨fun q => hq 0 A ySm.rf I (fun z => by exfalso; omega) (fun _ => ⟨rfl, rfl⟩), fun q => ⟨fun q2 => ?_, fun q2 => hq 0 A ySm.rf I (fun z => by exfalso; omega) (fun _ => ⟨rfl, rfl⟩)⟩⟩
  have f : ySm A (ycut A 0 a) [0] [] := ySm.rf.cut rfl
  refine hq 1 _ f (I.sm f rfl rfl) (fun z => ⟨rfl, ?_⟩) (fun z => by exfalso; omega)
  rw [yz_cut, if_pos rfl]
  split <;> omega
theorem lEnd_r {a : Int32} {n k : Nat} {r : Int} (z1 : 0 ≤ a.toInt ∧ a.toInt ≤ (n : Int) → r = 1 ∧ (k : Int) = a.toInt) (z2 : ¬ (0 ≤ a.toInt ∧ a.toInt ≤ (n : Int)) → r = 0 ∧ k = n) : k = lLen a n ∧ zI r = lAns a n := by
  unfold lLen lAns
  by_cases q : 0 ≤ a.toInt ∧ a.toInt ≤ (n : Int)
  · obtain ⟨q1, q2⟩ := z1 q
    rw [if_pos q, if_pos q, q1]
    exact ⟨by omega, rfl⟩
  · obtain ⟨q1, q2⟩ := z2 q
    rw [if_neg q, if_neg q, q1]
    exact ⟨q2, rfl⟩
theorem lLen_le {a : Int32} {n : Nat} : lLen a n ≤ n := by
  unfold lLen
  split <;> omega
theorem lInp_4 {x : Int32} : (x < 0 ∨ nI 4 ≤ x) ↔ ¬ (0 ≤ x.toInt ∧ x.toInt ≤ 3) := by
  have e4 : (nI 4).toInt = 4 := by decide
  have e0 : (0 : Int32).toInt = 0 := by decide
  rw [Int32.lt_iff_toInt_lt, Int32.le_iff_toInt_le, e4, e0]
  omega
set_option maxHeartbeats 4000000 in
theorem lC_feed (l : Launch) {d : gD} {b : Nat} {Y : gYt} {c : Nat × Nat} {r z : Nat} {T : Nat → Nat} {e n m : Nat} {u : hU} (P : lPr Y r T z) (h : lJ d b Y c r T z e n m u) (hn6 : n + 20 ≤ 6000) (a0 a1 a2 a3 a4 : Int32) : ∃ Pc : Int32 → hU → Prop, hMi l d b yX11_feed cX11_feed 6 .boolean 4 u.2.1 u.2.2 u.1 [.ref (gO' Y 0), .int a0, .int a1, .int a2, .int a3, .int a4] Pc ∧ ∀ x u', Pc x u' → x = 1 ∧ lJ d b Y c r T z (e) (n + 20) m u' := by
  obtain ⟨S, A, s, ⟨hi, hy, hc, hn⟩, ⟨w43, w45, w0, w2⟩, zw, pj, f, hz⟩ := id h
  refine ⟨yPi d b Y (c.1 + e, c.2 + 6 * e) u.1 S (fun rr A' => ySm A A' [0] [] ∧ cI A' ∧ yz A' 0 = n + 20 ∧ rr = 1), ?_, fun x u' hp => ?_⟩
  · have q := cm_W_feed l d b (zR_t a0) (zR_t a1) (zR_t a2) (zR_t a3) (zR_t a4) (Q := fun rr A' => ySm A A' [0] [] ∧ cI A' ∧ yz A' 0 = n + 20 ∧ rr = 1) (yZ.start hi hy : yZ d b Y (c.1 + e, c.2 + 6 * e) u.1 S (u.1, u.2.1, u.2.2) S A) (cs_feed1 hc (by omega) _ _ _ _ _ (fun A' f1 c1 z1 => ⟨f1, c1, by omega, rfl⟩))
    simp only [zI_o] at q
    exact q
  · obtain ⟨e9, A', S', er, -, hZ, f1, c1, z1, zr⟩ := hp
    have s1 := hZ.2.2.2
    refine ⟨by rw [er, zr]; rfl, ?_⟩
    refine h.cl P (e' := e) (n' := n + 20) hZ.1 hZ.2.1 c1 (by omega) (lW.of ⟨w43, w45, w0, w2⟩ (s1.z 43 (by decide)) (s1.n 45 (by decide)) (hy.sv hZ.2.1 (f1.v 0 rfl)) (Or.inl (hy.sv hZ.2.1 (f1.v 2 rfl)))) hZ.2.2.1
set_option maxHeartbeats 4000000 in
theorem lC_end (l : Launch) {d : gD} {b : Nat} {Y : gYt} {c : Nat × Nat} {r z : Nat} {T : Nat → Nat} {e n m : Nat} {u : hU} (P : lPr Y r T z) (h : lJ d b Y c r T z e n m u) (a0 : Int32) : ∃ Pc : Int32 → hU → Prop, hMi l d b yX11_end cX11_end 2 .boolean 1 u.2.1 u.2.2 u.1 [.ref (gO' Y 0), .int a0] Pc ∧ ∀ x u', Pc x u' → x = lAns a0 n ∧ lJ d b Y c r T z (e) (lLen a0 n) m u' := by
  obtain ⟨S, A, s, ⟨hi, hy, hc, hn⟩, ⟨w43, w45, w0, w2⟩, zw, pj, f, hz⟩ := id h
  refine ⟨yPi d b Y (c.1 + e, c.2 + 6 * e) u.1 S (fun rr A' => ySm A A' [0] [] ∧ cI A' ∧ yz A' 0 = lLen a0 n ∧ zI rr = lAns a0 n), ?_, fun x u' hp => ?_⟩
  · have q := cm_W_end l d b (zR_t a0) (Q := fun rr A' => ySm A A' [0] [] ∧ cI A' ∧ yz A' 0 = lLen a0 n ∧ zI rr = lAns a0 n) (yZ.start hi hy : yZ d b Y (c.1 + e, c.2 + 6 * e) u.1 S (u.1, u.2.1, u.2.2) S A) (cs_end1 hc _ (fun r' A' f1 c1 z1 z2 => ⟨f1, c1, lEnd_r (by rw [← hn]; exact z1) (by rw [← hn]; exact z2)⟩))
    simp only [zI_o] at q
    exact q
  · obtain ⟨e9, A', S', er, -, hZ, f1, c1, z1, zr⟩ := hp
    have s1 := hZ.2.2.2
    refine ⟨by rw [er, zr], ?_⟩
    refine h.cl P (e' := e) (n' := lLen a0 n) hZ.1 hZ.2.1 c1 (by omega) (lW.of ⟨w43, w45, w0, w2⟩ (s1.z 43 (by decide)) (s1.n 45 (by decide)) (hy.sv hZ.2.1 (f1.v 0 rfl)) (Or.inl (hy.sv hZ.2.1 (f1.v 2 rfl)))) hZ.2.2.1
set_option maxHeartbeats 4000000 in
theorem lC_compile (l : Launch) {d : gD} {b : Nat} {Y : gYt} {c : Nat × Nat} {r z : Nat} {T : Nat → Nat} {e n m : Nat} {u : hU} (P : lPr Y r T z) (h : lJ d b Y c r T z e n m u) (R : lRm b c) (hn6 : n ≤ 1280) (he : e ≤ 63) (hst : l.stackTraces = false) : ∃ Pc : Int32 → hU → Prop, hMi l d b yX11_compile cX11_compile 1 .int 1272 u.2.1 u.2.2 u.1 [.ref (gO' Y 0)] Pc ∧ ∀ x u', Pc x u' → lJ d b Y c r T z (e + 1) (0) m u' := by
  obtain ⟨S, A, s, ⟨hi, hy, hc, hn⟩, ⟨w43, w45, w0, w2⟩, zw, pj, f, hz⟩ := id h
  refine ⟨yPi d b Y (c.1 + e + 1, c.2 + 6 * e + 6) u.1 S (fun _ A' => ySm A A' cJs cKs ∧ cI A' ∧ yz A' 0 = 0 ∧ yv A' 2 = yv A 0), ?_, fun x u' hp => ?_⟩
  · have q := cm_W_compile l d b hst ⟨by show c.1 + e + 1 + 386600 ≤ _; have := R.1; omega, by show c.2 + 6 * e + 6 + 4275100 ≤ _; have := R.2; omega⟩ (Q := fun _ A' => ySm A A' cJs cKs ∧ cI A' ∧ yz A' 0 = 0 ∧ yv A' 2 = yv A 0) (yZ.start hi hy : yZ d b Y (c.1 + e, c.2 + 6 * e) u.1 S (u.1, u.2.1, u.2.2) S A) (cs_compile hc (by omega) (fun r' A' f1 c1 z1 v2 => ⟨f1, c1, by omega, v2⟩))
    exact q
  · obtain ⟨e9, A', S', er, -, hZ, f1, c1, z1, v2⟩ := hp
    have s1 := hZ.2.2.2
    skip
    refine h.cl P (e' := e + 1) (n' := 0) (show hI d b Y (c.1 + (e + 1), c.2 + 6 * (e + 1)) u' S' from by have q := hZ.1; rwa [show c.1 + e + 1 = c.1 + (e + 1) by omega, show c.2 + 6 * e + 6 = c.2 + 6 * (e + 1) by omega] at q) hZ.2.1 c1 (by omega) (lW.of ⟨w43, w45, w0, w2⟩ (s1.z 43 (by decide)) (s1.n 45 (by decide)) (hy.sv hZ.2.1 (f1.v 0 rfl)) (Or.inr (hy.sv hZ.2.1 v2))) hZ.2.2.1
set_option maxHeartbeats 4000000 in
theorem lC_run (l : Launch) {d : gD} {b : Nat} {Y : gYt} {c : Nat × Nat} {r z : Nat} {T : Nat → Nat} {e n m : Nat} {u : hU} (P : lPr Y r T z) (h : lJ d b Y c r T z e n m u) (a0 : Int32) : ∃ Pc : Int32 → hU → Prop, hMi l d b yX11_run cX11_run 2 .int 12 u.2.1 u.2.2 u.1 [.ref (gO' Y 0), .int a0] Pc ∧ ∀ x u', Pc x u' → lJ d b Y c r T z e n m u' := by
  have h0 := h
  obtain ⟨S, A, s, ⟨hi, hy, hc, hn⟩, ⟨w43, w45, w0, w2⟩, zw, pj, f, hz⟩ := id h
  obtain ⟨N2, w2a, w2b⟩ := w2
  refine ⟨_, s_W_run l d b Y (c.1 + e, c.2 + 6 * e) u.1 u.2.1 u.2.2 (S := S) hi (Nat.le_trans hy.psi (by decide)) w43 ⟨N2, w2a, w2b⟩ w45 a0, fun x u' hp => ?_⟩
  obtain ⟨S', hi', k, s1, z43, -, z45⟩ := hp
  have sm : ySm A (lM A S' [38, 39, 40, 41, 42, 43, 44, 45] [25, 26, 27, 28, 29, 30, 31, 32, 33, 34, 35, 36]) _ _ := lM_sm
  exact h.cl P (e' := e) (n' := n) hi' (hy.mix s1 (fun j hj => by simp at hj; omega)) (hc.sm sm rfl rfl) (by rw [sm.z 0 rfl]; exact hn) ⟨z43, z45, by rw [s1.v 0 (by decide)]; exact w0, by rw [s1.v 2 (by decide)]; exact ⟨N2, w2a, w2b⟩⟩ k
set_option maxHeartbeats 4000000 in
theorem lC_input (l : Launch) {d : gD} {b : Nat} {Y : gYt} {c : Nat × Nat} {r z : Nat} {T : Nat → Nat} {e n m : Nat} {u : hU} (P : lPr Y r T z) (h : lJ d b Y c r T z e n m u) (a0 : Int32) : ∃ Pc : Int32 → hU → Prop, hMi l d b yX11_input cX11_input 3 .int 5 u.2.1 u.2.2 u.1 [.ref (gO' Y 0), .int a0] Pc ∧ ∀ x u', Pc x u' → x = lInp a0 n ∧ lJ d b Y c r T z e 0 m u' := by
  obtain ⟨S, A, s, ⟨hi, hy, hc, hn⟩, ⟨w43, w45, w0, w2⟩, zw, pj, f, hz⟩ := id h
  refine ⟨_, s_W_inp l d b Y (c.1 + e, c.2 + 6 * e) u.1 u.2.1 u.2.2 (S := S) hi (Nat.le_trans hy.psi (by decide)) a0, fun x u' hp => ?_⟩
  obtain ⟨S', hi', k, s1, z0, -, r1, r2⟩ := hp
  have sm : ySm A (lM A S' [0, 34, 35, 36, 37, 44] []) _ _ := lM_sm
  have e0 : yz (lM A S' [0, 34, 35, 36, 37, 44] []) 0 = sZ S' 0 := rfl
  have e1 : sZ S 0 = yz A 0 := hy.1 0
  refine ⟨?_, h.cl P (e' := e) (n' := 0) hi' (hy.mix s1 (fun j hj => by simp at hj; omega)) (hc.sm sm rfl rfl) (by omega) (lW.of ⟨w43, w45, w0, w2⟩ (s1.z 43 (by decide)) (s1.n 45 (by decide)) (s1.v 0 (by decide)) (Or.inl (s1.v 2 (by decide)))) k⟩
  unfold lInp
  by_cases q : 0 ≤ a0.toInt ∧ a0.toInt ≤ 3
  · rw [if_pos q, r2 (fun z => lInp_4.mp z q), e1, hn]
  · rw [if_neg q, r1 (lInp_4.mpr q)]
set_option maxHeartbeats 4000000 in
theorem lC_store (l : Launch) {d : gD} {b : Nat} {Y : gYt} {c : Nat × Nat} {r z : Nat} {T : Nat → Nat} {e n m : Nat} {u : hU} (P : lPr Y r T z) (h : lJ d b Y c r T z e n m u) (a0 : Int32) : ∃ Pc : Int32 → gM → Prop, gMi l d b yX11_store cX11_store 2 .boolean 1 0 0 u.1 [.ref (gO' Y 0), .int a0] Pc ∧ ∀ x F', Pc x F' → ((gFive a0 → x = 1) ∧ (¬ gFive a0 → x = 0)) ∧ lJ d b Y c r T z e n m (F', u.2.1, u.2.2) := by
  obtain ⟨S, A, s, ⟨hi, hy, hc, hn⟩, ⟨w43, w45, w0, w2⟩, zw, pj, f, hz⟩ := id h
  refine ⟨_, c_W_store1 l d b Y u.1 S hi.1 a0, fun x F' hp => ?_⟩
  obtain ⟨p1, p2, S', hW, k, s1, q⟩ := hp
  refine ⟨⟨p1, p2⟩, ?_⟩
  have sm : ySm A (lM A S' [] [0]) _ _ := lM_sm
  have hi' := hi.smaller hW (fun i => s1.n i (by simp))
  refine h.cl P (e' := e) (n' := n) (u' := (F', u.2.1, u.2.2)) hi' (hy.mix s1 (fun j hj => by simp at hj)) (hc.sm sm rfl rfl) (by rw [sm.z 0 rfl]; exact hn) ⟨by rw [s1.z 43 (by simp)]; exact w43, by rw [s1.n 45 (by simp)]; exact w45, ?_, by rw [s1.v 2 (by decide)]; exact w2⟩ k
  rcases q with ⟨g, q⟩ | q
  · rw [q]; exact gFive_w g
  · rw [q]; exact w0
set_option maxHeartbeats 4000000 in
theorem lC_fault (l : Launch) {d : gD} {b : Nat} {Y : gYt} {c : Nat × Nat} {r z : Nat} {T : Nat → Nat} {e n m : Nat} {u : hU} (P : lPr Y r T z) (h : lJ d b Y c r T z e n m u) : ∃ Pc : Int32 → gM → Prop, gMi l d b yX11_fault cX11_fault 1 .int 2 0 0 u.1 [.ref (gO' Y 0)] Pc ∧ ∀ x F', Pc x F' → lJ d b Y c r T z e n m (F', u.2.1, u.2.2) := by
  obtain ⟨S, A, s, ⟨hi, hy, hc, hn⟩, ⟨w43, w45, w0, w2⟩, zw, pj, f, hz⟩ := id h
  refine ⟨_, c_W_fault l d b Y u.1 S hi.1, fun x F' hp => ?_⟩
  obtain ⟨-, q⟩ := hp
  rw [q]
  exact h
set_option maxHeartbeats 4000000 in
theorem lC_value (l : Launch) {d : gD} {b : Nat} {Y : gYt} {c : Nat × Nat} {r z : Nat} {T : Nat → Nat} {e n m : Nat} {u : hU} (P : lPr Y r T z) (h : lJ d b Y c r T z e n m u) : ∃ Pc : Int32 → gM → Prop, gMi l d b yX11_value cX11_value 1 .int 2 0 0 u.1 [.ref (gO' Y 0)] Pc ∧ ∀ x F', Pc x F' → lJ d b Y c r T z e n m (F', u.2.1, u.2.2) := by
  obtain ⟨S, A, s, ⟨hi, hy, hc, hn⟩, ⟨w43, w45, w0, w2⟩, zw, pj, f, hz⟩ := id h
  refine ⟨_, c_W_value l d b Y u.1 S hi.1, fun x F' hp => ?_⟩
  obtain ⟨-, q⟩ := hp
  rw [q]
  exact h
set_option maxHeartbeats 4000000 in
theorem lC_fuel (l : Launch) {d : gD} {b : Nat} {Y : gYt} {c : Nat × Nat} {r z : Nat} {T : Nat → Nat} {e n m : Nat} {u : hU} (P : lPr Y r T z) (h : lJ d b Y c r T z e n m u) : ∃ Pc : Int32 → gM → Prop, gMi l d b yX11_fuel cX11_fuel 1 .int 2 0 0 u.1 [.ref (gO' Y 0)] Pc ∧ ∀ x F', Pc x F' → lJ d b Y c r T z e n m (F', u.2.1, u.2.2) := by
  obtain ⟨S, A, s, ⟨hi, hy, hc, hn⟩, ⟨w43, w45, w0, w2⟩, zw, pj, f, hz⟩ := id h
  refine ⟨_, c_W_fuel l d b Y u.1 S hi.1, fun x F' hp => ?_⟩
  obtain ⟨-, q⟩ := hp
  rw [q]
  exact h
set_option maxHeartbeats 4000000 in
theorem lC_out (l : Launch) {d : gD} {b : Nat} {Y : gYt} {c : Nat × Nat} {r z : Nat} {T : Nat → Nat} {e n m : Nat} {u : hU} (P : lPr Y r T z) (h : lJ d b Y c r T z e n m u) (a0 : Int32) : ∃ Pc : Int32 → gM → Prop, gMi l d b yX11_out cX11_out 2 .int 2 0 0 u.1 [.ref (gO' Y 0), .int a0] Pc ∧ ∀ x F', Pc x F' → lJ d b Y c r T z e n m (F', u.2.1, u.2.2) := by
  obtain ⟨S, A, s, ⟨hi, hy, hc, hn⟩, ⟨w43, w45, w0, w2⟩, zw, pj, f, hz⟩ := id h
  refine ⟨_, c_W_out l d b Y u.1 S hi.1 a0, fun x F' hp => ?_⟩
  obtain ⟨-, -, q⟩ := hp
  rw [q]
  exact h
set_option maxHeartbeats 4000000 in
theorem lC_outAt (l : Launch) {d : gD} {b : Nat} {Y : gYt} {c : Nat × Nat} {r z : Nat} {T : Nat → Nat} {e n m : Nat} {u : hU} (P : lPr Y r T z) (h : lJ d b Y c r T z e n m u) (R : lRm b c) (he : e ≤ 63) (hst : l.stackTraces = false) (a0 : Int32) (a1 : Int32) : ∃ (Pc : Int32 → hU → Prop) (Px : hU → Prop), hXi l d b yX11_outAt cX11_outAt 3 .int 6 u.2.1 u.2.2 u.1 [.ref (gO' Y 0), .int a0, .int a1] Pc "java/util/NoSuchElementException" Px ∧ (∀ x u', Pc x u' → lJ d b Y c r T z (e + 1) n m u') ∧ ∀ u', Px u' → lJ d b Y c r T z (e + 1) n m u' := by
  obtain ⟨S, A, s, ⟨hi, hy, hc, hn⟩, ⟨w43, w45, w0, w2⟩, zw, pj, f, hz⟩ := id h
  have R1 := R.1
  have R2 := R.2
  refine ⟨_, _, s_W_outAt l d b Y (c.1 + e, c.2 + 6 * e) u.1 u.2.1 u.2.2 (S := S) hi (Nat.le_trans hy.psi (by decide)) hst ⟨by show c.1 + e + 1 + 386600 ≤ _; omega, by show c.2 + 6 * e + 6 + 4275100 ≤ _; omega⟩ a0 a1, fun x u' hp => ?_, fun u' hp => ?_⟩
  · rw [show u' = u from hp]
    exact h.mono R (Nat.le_succ _) (by omega)
  · rw [show u' = (u.1, u.2.1 + 1, u.2.2 + 6) from hp]
    have i1 := hi.2.2.1
    have i2 := hi.2.2.2.1
    refine h.cl P (e' := e + 1) (n' := n) (u' := (u.1, u.2.1 + 1, u.2.2 + 6)) (S' := S) (A' := A) ⟨hi.1, hi.2.1, ?_, ?_, ?_, ?_⟩ hy hc hn ⟨w43, w45, w0, w2⟩ gKp.rf
    · show u.2.1 + 1 ≤ c.1 + (e + 1) + hRc S
      have : u.2.1 ≤ c.1 + e + hRc S := i1
      omega
    · show u.2.2 + 6 ≤ c.2 + 6 * (e + 1) + hRs S
      have : u.2.2 ≤ c.2 + 6 * e + hRs S := i2
      omega
    · show c.1 + (e + 1) + 386600 ≤ _
      omega
    · show c.2 + 6 * (e + 1) + 4275100 ≤ _
      omega
set_option maxHeartbeats 4000000 in
theorem lC_word (l : Launch) {d : gD} {b : Nat} {Y : gYt} {c : Nat × Nat} {r z : Nat} {T : Nat → Nat} {e n m : Nat} {u : hU} (P : lPr Y r T z) (h : lJ d b Y c r T z e n m u) (R : lRm b c) (he : e ≤ 63) (hst : l.stackTraces = false) (a0 : Int32) : ∃ (Pc : Int32 → hU → Prop) (Px : hU → Prop), hXi l d b yX11_word cX11_word 2 .int 6 u.2.1 u.2.2 u.1 [.ref (gO' Y 0), .int a0] Pc "java/util/NoSuchElementException" Px ∧ (∀ x u', Pc x u' → lJ d b Y c r T z (e + 1) n m u') ∧ ∀ u', Px u' → lJ d b Y c r T z (e + 1) n m u' := by
  obtain ⟨S, A, s, ⟨hi, hy, hc, hn⟩, ⟨w43, w45, w0, w2⟩, zw, pj, f, hz⟩ := id h
  have R1 := R.1
  have R2 := R.2
  refine ⟨_, _, s_W_word l d b Y (c.1 + e, c.2 + 6 * e) u.1 u.2.1 u.2.2 (S := S) hi (Nat.le_trans hy.psi (by decide)) hst ⟨by show c.1 + e + 1 + 386600 ≤ _; omega, by show c.2 + 6 * e + 6 + 4275100 ≤ _; omega⟩ a0, fun x u' hp => ?_, fun u' hp => ?_⟩
  · rw [show u' = u from hp]
    exact h.mono R (Nat.le_succ _) (by omega)
  · rw [show u' = (u.1, u.2.1 + 1, u.2.2 + 6) from hp]
    have i1 := hi.2.2.1
    have i2 := hi.2.2.2.1
    refine h.cl P (e' := e + 1) (n' := n) (u' := (u.1, u.2.1 + 1, u.2.2 + 6)) (S' := S) (A' := A) ⟨hi.1, hi.2.1, ?_, ?_, ?_, ?_⟩ hy hc hn ⟨w43, w45, w0, w2⟩ gKp.rf
    · show u.2.1 + 1 ≤ c.1 + (e + 1) + hRc S
      have : u.2.1 ≤ c.1 + e + hRc S := i1
      omega
    · show u.2.2 + 6 ≤ c.2 + 6 * (e + 1) + hRs S
      have : u.2.2 ≤ c.2 + 6 * e + hRs S := i2
      omega
    · show c.1 + (e + 1) + 386600 ≤ _
      omega
    · show c.2 + 6 * (e + 1) + 4275100 ≤ _
      omega
set_option maxHeartbeats 4000000 in
theorem lD_feed (l : Launch) {d : gD} {b : Nat} {Y : gYt} {c : Nat × Nat} {r z : Nat} {T : Nat → Nat} {e n m : Nat} {u : hU} (P : lPr Y r T z) (h : lJ d b Y c r T z e n m u) (hm : m + 20 ≤ 6000) (a0 a1 a2 a3 a4 : Int32) : ∃ Pd : Int32 → gM → Prop, gMi l d b yX12_feed cX12_feed 8 .boolean 0 0 0 u.1 [.ref r, .int a0, .int a1, .int a2, .int a3, .int a4] Pd ∧ ∀ y F', Pd y F' → y = 1 ∧ lJ d b Y c r T z e n (m + 20) (F', u.2.1, u.2.2) := by
  obtain ⟨s, hZ, pj, ev⟩ := h.s
  refine ⟨zPi d r T u.1 (fun e' s' => pJ s' ((m : Int) + 20) ∧ e' = 1 ∧ zv s' 2 = (m : Int) + 20), ?_, fun y F' hp => ?_⟩
  · have q := rm_feed l d b (zR_t a0) (zR_t a1) (zR_t a2) (zR_t a3) (zR_t a4) (Q := fun e' s' => pJ s' ((m : Int) + 20) ∧ e' = 1 ∧ zv s' 2 = (m : Int) + 20) hZ (pj_feed s _ _ _ _ _ (m : Int) pj (by omega) (fun _ s' q1 q2 q3 => ⟨q1, q2, by omega⟩))
    simp only [zI_o] at q
    exact q
  · obtain ⟨e9, s', er, -, hz, pj', q1⟩ := hp
    exact ⟨by rw [er, q1.1]; rfl, h.rf P hz pj' (by omega) (by have := q1.2; omega)⟩
set_option maxHeartbeats 4000000 in
theorem lD_end (l : Launch) {d : gD} {b : Nat} {Y : gYt} {c : Nat × Nat} {r z : Nat} {T : Nat → Nat} {e n m : Nat} {u : hU} (P : lPr Y r T z) (h : lJ d b Y c r T z e n m u) (a0 : Int32) : ∃ Pd : Int32 → gM → Prop, gMi l d b yX12_end cX12_end 2 .boolean 0 0 0 u.1 [.ref r, .int a0] Pd ∧ ∀ y F', Pd y F' → y = lAns a0 m ∧ lJ d b Y c r T z e n (lLen a0 m) (F', u.2.1, u.2.2) := by
  obtain ⟨s, hZ, pj, ev⟩ := h.s
  refine ⟨zPi d r T u.1 (fun e' s' => pJ s' ((m : Int)) ∧ (e' = 1 ∧ 0 ≤ a0.toInt ∧ a0.toInt ≤ zv s 2 ∧ zv s' 2 = a0.toInt ∨ e' = 0 ∧ ¬ (0 ≤ a0.toInt ∧ a0.toInt ≤ zv s 2) ∧ zv s' 2 = zv s 2)), ?_, fun y F' hp => ?_⟩
  · have q := rm_end l d b (zR_t a0) (Q := fun e' s' => pJ s' ((m : Int)) ∧ (e' = 1 ∧ 0 ≤ a0.toInt ∧ a0.toInt ≤ zv s 2 ∧ zv s' 2 = a0.toInt ∨ e' = 0 ∧ ¬ (0 ≤ a0.toInt ∧ a0.toInt ≤ zv s 2) ∧ zv s' 2 = zv s 2)) hZ (pj_end s _ (m : Int) pj (fun _ s' q1 q2 => ⟨q1, q2⟩))
    simp only [zI_o] at q
    exact q
  · obtain ⟨e9, s', er, -, hz, pj', q1⟩ := hp
    rw [ev] at q1
    have hp0 : 0 ≤ zv s' 2 ∧ zv s' 2 ≤ (m : Int) := ⟨pj'.1.1, pj'.1.2.1⟩
    have hx : y = lAns a0 m ∧ zv s' 2 = ((lLen a0 m : Nat) : Int) := by
      unfold lAns lLen
      rcases q1 with ⟨t1, t2, t3, t4⟩ | ⟨t1, t2, t4⟩
      · rw [if_pos ⟨t2, t3⟩, if_pos ⟨t2, t3⟩, er, t1]
        exact ⟨rfl, by omega⟩
      · rw [if_neg t2, if_neg t2, er, t1]
        exact ⟨rfl, t4⟩
    exact ⟨hx.1, h.rf P hz (N := zv s' 2) ⟨⟨pj'.1.1, Int.le_refl _, pj'.1.2.2⟩, pj'.2⟩ (by omega) hx.2⟩
set_option maxHeartbeats 4000000 in
theorem lD_compile (l : Launch) {d : gD} {b : Nat} {Y : gYt} {c : Nat × Nat} {r z : Nat} {T : Nat → Nat} {e n m : Nat} {u : hU} (P : lPr Y r T z) (h : lJ d b Y c r T z e n m u) (hm : m ≤ 1280) : ∃ Pd : Int32 → gM → Prop, gMi l d b yX12_compile cX12_compile 2 .int 7 0 0 u.1 [.ref r] Pd ∧ ∀ y F', Pd y F' → lJ d b Y c r T z e n (0) (F', u.2.1, u.2.2) := by
  obtain ⟨s, hZ, pj, ev⟩ := h.s
  refine ⟨zPi d r T u.1 (fun _ s' => pJ s' (0) ∧ True), ?_, fun y F' hp => ?_⟩
  · have q := rm_compile l d b  (Q := fun _ s' => pJ s' (0) ∧ True) hZ (sp_compile s (m : Int) pj (by omega) (fun _ s' q1 => ⟨q1, trivial⟩))
    exact q
  · obtain ⟨e9, s', er, -, hz, pj', q1⟩ := hp
    have hp0 : 0 ≤ zv s' 2 ∧ zv s' 2 ≤ 0 := ⟨pj'.1.1, pj'.1.2.1⟩
    exact h.rf P hz pj' (by omega) (by omega)
set_option maxHeartbeats 4000000 in
theorem lD_fault_ (l : Launch) {d : gD} {b : Nat} {Y : gYt} {c : Nat × Nat} {r z : Nat} {T : Nat → Nat} {e n m : Nat} {u : hU} (P : lPr Y r T z) (h : lJ d b Y c r T z e n m u) : ∃ Pd : Int32 → gM → Prop, gMi l d b yX12_fault_ cX12_fault_ 1 .int 0 0 0 u.1 [.ref r] Pd ∧ ∀ y F', Pd y F' → lJ d b Y c r T z e n (m) (F', u.2.1, u.2.2) := by
  obtain ⟨s, hZ, pj, ev⟩ := h.s
  refine ⟨zPi d r T u.1 (fun _ s' => pJ s' ((m : Int)) ∧ zv s' 2 = (m : Int)), ?_, fun y F' hp => ?_⟩
  · have q := rm_fault_ l d b  (Q := fun _ s' => pJ s' ((m : Int)) ∧ zv s' 2 = (m : Int)) hZ (pj_fault s (m : Int) pj (fun _ s' q1 q2 => ⟨q1, by omega⟩))
    exact q
  · obtain ⟨e9, s', er, -, hz, pj', q1⟩ := hp
    exact h.rf P hz pj' (by omega) q1
set_option maxHeartbeats 4000000 in
theorem lD_store (l : Launch) {d : gD} {b : Nat} {Y : gYt} {c : Nat × Nat} {r z : Nat} {T : Nat → Nat} {e n m : Nat} {u : hU} (P : lPr Y r T z) (h : lJ d b Y c r T z e n m u) (a0 : Int32) : ∃ Pd : Int32 → gM → Prop, gMi l d b yX12_store cX12_store 2 .boolean 0 0 0 u.1 [.ref r, .int a0] Pd ∧ ∀ y F', Pd y F' → ((gFive a0 → y = 1) ∧ (¬ gFive a0 → y = 0)) ∧ lJ d b Y c r T z e n (m) (F', u.2.1, u.2.2) := by
  obtain ⟨s, hZ, pj, ev⟩ := h.s
  refine ⟨zPi d r T u.1 (fun e' s' => pJ s' ((m : Int)) ∧ ((pFive a0.toInt → e' = 1) ∧ (¬ pFive a0.toInt → e' = 0)) ∧ zv s' 2 = (m : Int)), ?_, fun y F' hp => ?_⟩
  · have q := rm_store l d b (zR_t a0) (Q := fun e' s' => pJ s' ((m : Int)) ∧ ((pFive a0.toInt → e' = 1) ∧ (¬ pFive a0.toInt → e' = 0)) ∧ zv s' 2 = (m : Int)) hZ (pj_store s _ (m : Int) pj (fun _ s' q1 q2 q3 q4 => ⟨q1, ⟨q2, q3⟩, by omega⟩))
    simp only [zI_o] at q
    exact q
  · obtain ⟨e9, s', er, -, hz, pj', q1⟩ := hp
    refine ⟨?_, h.rf P hz pj' (by omega) q1.2⟩
    exact ⟨fun g => by rw [er, q1.1.1 (gFive_z.mp g)]; rfl, fun g => by rw [er, q1.1.2 (fun q => g (gFive_z.mpr q))]; rfl⟩
set_option maxHeartbeats 4000000 in
theorem lD_input (l : Launch) {d : gD} {b : Nat} {Y : gYt} {c : Nat × Nat} {r z : Nat} {T : Nat → Nat} {e n m : Nat} {u : hU} (P : lPr Y r T z) (h : lJ d b Y c r T z e n m u) (hm : m ≤ 1280) (a0 : Int32) : ∃ Pd : Int32 → gM → Prop, gMi l d b yX12_input cX12_input 4 .int 2 0 0 u.1 [.ref r, .int a0] Pd ∧ ∀ y F', Pd y F' → y = lInp a0 m ∧ lJ d b Y c r T z e n (0) (F', u.2.1, u.2.2) := by
  obtain ⟨s, hZ, pj, ev⟩ := h.s
  refine ⟨zPi d r T u.1 (fun e' s' => pJ s' (0) ∧ (e' = -1 ∧ ¬ (0 ≤ a0.toInt ∧ a0.toInt ≤ 3) ∨ e' = zv s 2 ∧ 0 ≤ a0.toInt ∧ a0.toInt ≤ 3)), ?_, fun y F' hp => ?_⟩
  · have q := rm_input l d b (zR_t a0) (Q := fun e' s' => pJ s' (0) ∧ (e' = -1 ∧ ¬ (0 ≤ a0.toInt ∧ a0.toInt ≤ 3) ∨ e' = zv s 2 ∧ 0 ≤ a0.toInt ∧ a0.toInt ≤ 3)) hZ (sp_input s _ (m : Int) pj (by omega) (fun _ s' q1 q2 => ⟨q1, q2⟩))
    simp only [zI_o] at q
    exact q
  · obtain ⟨e9, s', er, -, hz, pj', q1⟩ := hp
    have hp0 : 0 ≤ zv s' 2 ∧ zv s' 2 ≤ 0 := ⟨pj'.1.1, pj'.1.2.1⟩
    refine ⟨?_, h.rf P hz pj' (by omega) (by omega)⟩
    unfold lInp
    rcases q1 with ⟨t1, t2⟩ | ⟨t1, t2⟩
    · rw [if_neg t2, er, t1]
      rfl
    · rw [if_pos t2, er, t1, ev, nI_zz]
set_option maxHeartbeats 4000000 in
theorem lD_run (l : Launch) {d : gD} {b : Nat} {Y : gYt} {c : Nat × Nat} {r z : Nat} {T : Nat → Nat} {e n m : Nat} {u : hU} (P : lPr Y r T z) (h : lJ d b Y c r T z e n m u) (a0 : Int32) : ∃ Pd : Int32 → gM → Prop, gMi l d b yX12_run cX12_run 3 .int 7 0 0 u.1 [.ref r, .int a0] Pd ∧ ∀ y F', Pd y F' → lJ d b Y c r T z e n (m) (F', u.2.1, u.2.2) := by
  obtain ⟨s, hZ, pj, ev⟩ := h.s
  refine ⟨zPi d r T u.1 (fun _ s' => pJ s' ((m : Int)) ∧ zv s' 2 = (m : Int)), ?_, fun y F' hp => ?_⟩
  · have q := rm_run l d b (zR_t a0) (Q := fun _ s' => pJ s' ((m : Int)) ∧ zv s' 2 = (m : Int)) hZ (pj_run s _ (m : Int) pj (fun _ s' q1 q2 => ⟨q1, by omega⟩))
    simp only [zI_o] at q
    exact q
  · obtain ⟨e9, s', er, -, hz, pj', q1⟩ := hp
    exact h.rf P hz pj' (by omega) q1
set_option maxHeartbeats 4000000 in
theorem lD_value (l : Launch) {d : gD} {b : Nat} {Y : gYt} {c : Nat × Nat} {r z : Nat} {T : Nat → Nat} {e n m : Nat} {u : hU} (P : lPr Y r T z) (h : lJ d b Y c r T z e n m u) : ∃ Pd : Int32 → gM → Prop, gMi l d b yX12_value cX12_value 1 .int 0 0 0 u.1 [.ref r] Pd ∧ ∀ y F', Pd y F' → lJ d b Y c r T z e n (m) (F', u.2.1, u.2.2) := by
  obtain ⟨s, hZ, pj, ev⟩ := h.s
  refine ⟨zPi d r T u.1 (fun _ s' => pJ s' ((m : Int)) ∧ zv s' 2 = (m : Int)), ?_, fun y F' hp => ?_⟩
  · have q := rm_value l d b  (Q := fun _ s' => pJ s' ((m : Int)) ∧ zv s' 2 = (m : Int)) hZ (pj_value s (m : Int) pj (fun _ s' q1 q2 => ⟨q1, by omega⟩))
    exact q
  · obtain ⟨e9, s', er, -, hz, pj', q1⟩ := hp
    exact h.rf P hz pj' (by omega) q1
set_option maxHeartbeats 4000000 in
theorem lD_out (l : Launch) {d : gD} {b : Nat} {Y : gYt} {c : Nat × Nat} {r z : Nat} {T : Nat → Nat} {e n m : Nat} {u : hU} (P : lPr Y r T z) (h : lJ d b Y c r T z e n m u) (a0 : Int32) : ∃ Pd : Int32 → gM → Prop, gMi l d b yX12_out cX12_out 2 .int 0 0 0 u.1 [.ref r, .int a0] Pd ∧ ∀ y F', Pd y F' → lJ d b Y c r T z e n (m) (F', u.2.1, u.2.2) := by
  obtain ⟨s, hZ, pj, ev⟩ := h.s
  refine ⟨zPi d r T u.1 (fun _ s' => pJ s' ((m : Int)) ∧ zv s' 2 = (m : Int)), ?_, fun y F' hp => ?_⟩
  · have q := rm_out l d b (zR_t a0) (Q := fun _ s' => pJ s' ((m : Int)) ∧ zv s' 2 = (m : Int)) hZ (pj_out s _ (m : Int) pj (fun _ s' q1 q2 => ⟨q1, by omega⟩))
    simp only [zI_o] at q
    exact q
  · obtain ⟨e9, s', er, -, hz, pj', q1⟩ := hp
    exact h.rf P hz pj' (by omega) q1
set_option maxHeartbeats 4000000 in
theorem lD_outAt (l : Launch) {d : gD} {b : Nat} {Y : gYt} {c : Nat × Nat} {r z : Nat} {T : Nat → Nat} {e n m : Nat} {u : hU} (P : lPr Y r T z) (h : lJ d b Y c r T z e n m u) (a0 a1 : Int32) : ∃ Pd : Int32 → gM → Prop, gMi l d b yX12_outAt cX12_outAt 3 .int 0 0 0 u.1 [.ref r, .int a0, .int a1] Pd ∧ ∀ y F', Pd y F' → lJ d b Y c r T z e n (m) (F', u.2.1, u.2.2) := by
  obtain ⟨s, hZ, pj, ev⟩ := h.s
  refine ⟨zPi d r T u.1 (fun _ s' => pJ s' ((m : Int)) ∧ zv s' 2 = (m : Int)), ?_, fun y F' hp => ?_⟩
  · have q := rm_outAt l d b (zR_t a0) (zR_t a1) (Q := fun _ s' => pJ s' ((m : Int)) ∧ zv s' 2 = (m : Int)) hZ (pj_outAt s _ _ (m : Int) pj (fun _ s' q1 q2 => ⟨q1, by omega⟩))
    simp only [zI_o] at q
    exact q
  · obtain ⟨e9, s', er, -, hz, pj', q1⟩ := hp
    exact h.rf P hz pj' (by omega) q1
set_option maxHeartbeats 4000000 in
theorem lD_word (l : Launch) {d : gD} {b : Nat} {Y : gYt} {c : Nat × Nat} {r z : Nat} {T : Nat → Nat} {e n m : Nat} {u : hU} (P : lPr Y r T z) (h : lJ d b Y c r T z e n m u) (a0 : Int32) : ∃ Pd : Int32 → gM → Prop, gMi l d b yX12_word cX12_word 2 .int 0 0 0 u.1 [.ref r, .int a0] Pd ∧ ∀ y F', Pd y F' → lJ d b Y c r T z e n (m) (F', u.2.1, u.2.2) := by
  obtain ⟨s, hZ, pj, ev⟩ := h.s
  refine ⟨zPi d r T u.1 (fun _ s' => pJ s' ((m : Int)) ∧ zv s' 2 = (m : Int)), ?_, fun y F' hp => ?_⟩
  · have q := rm_word l d b (zR_t a0) (Q := fun _ s' => pJ s' ((m : Int)) ∧ zv s' 2 = (m : Int)) hZ (pj_word s _ (m : Int) pj (fun _ s' q1 q2 => ⟨q1, by omega⟩))
    simp only [zI_o] at q
    exact q
  · obtain ⟨e9, s', er, -, hz, pj', q1⟩ := hp
    exact h.rf P hz pj' (by omega) q1
set_option maxHeartbeats 4000000 in
theorem lD_fuel (l : Launch) {d : gD} {b : Nat} {Y : gYt} {c : Nat × Nat} {r z : Nat} {T : Nat → Nat} {e n m : Nat} {u : hU} (P : lPr Y r T z) (h : lJ d b Y c r T z e n m u) : ∃ Pd : Int32 → gM → Prop, gMi l d b yX12_fuel cX12_fuel 1 .int 0 0 0 u.1 [.ref r] Pd ∧ ∀ y F', Pd y F' → lJ d b Y c r T z e n (m) (F', u.2.1, u.2.2) := by
  obtain ⟨s, hZ, pj, ev⟩ := h.s
  refine ⟨zPi d r T u.1 (fun _ s' => pJ s' ((m : Int)) ∧ zv s' 2 = (m : Int)), ?_, fun y F' hp => ?_⟩
  · have q := rm_fuel l d b  (Q := fun _ s' => pJ s' ((m : Int)) ∧ zv s' 2 = (m : Int)) hZ (pj_fuel s (m : Int) pj (fun _ s' q1 q2 => ⟨q1, by omega⟩))
    exact q
  · obtain ⟨e9, s', er, -, hz, pj', q1⟩ := hp
    exact h.rf P hz pj' (by omega) q1
