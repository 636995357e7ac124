/-! LABELS, ASSIGNMENTS -/
theorem pM.topk {s0 s : zS} {gl : List pG} {S B : List Int} {N : Nat} {a : Int} (h : pM s0 s gl S (B ++ [a]) N) : ∃ l : Nat, (zv s 37 - 1).toNat = B.length ∧ 0 ≤ zv s 37 - 1 ∧ zv s 37 - 1 < N ∧ za s 36 B.length = (l : Int) ∧ l < N ∧ za s 25 l = a := by
  obtain ⟨p1, p2, p3, -⟩ := h.pre
  obtain ⟨kids, up, sz, W, q1, q2, q3, -⟩ := h
  obtain ⟨WB, WA, rfl, rfl, w2⟩ := List.map_eq_append_iff.mp q3
  obtain ⟨l, W1, rfl, w5, w3⟩ := List.map_eq_cons_iff.mp w2
  obtain rfl := List.map_eq_nil_iff.mp w3
  have ol : za s 36 WB.length = (l : Int) := by
    have := q1.ou WB.length (by simp)
    simpa using this
  have e1 : [a].length = 1 := rfl
  rw [e1] at p2 p3
  refine ⟨l, by omega, by omega, by omega, ?_, (q1.wt l (by simp)).1, w5⟩
  rw [List.length_map]
  exact ol
theorem sp_labelsM {s0 : zS} {gl : List pG} {S K : List Int} {N : Nat} {b : Int} (hT : zv s0 8 ≤ 2560) {s : zS} (h : pM s0 s gl S K N) (t0 : 0 ≤ zv s 43) (t1 : zv s 43 ≤ zv s0 8) (hN : (N : Int) ≤ 2 * zv s 43 + 4) {Q : zS → Prop} (hq : ∀ (m : Nat) s1, pM s0 s1 gl S (K ++ List.replicate m 42) (N + m) → (m : Int) + zv s 43 ≤ zv s1 43 → zv s1 43 ≤ zv s0 8 → zv s1 44 = zv s 44 → Q s1) : wr_labels s b Q := by
  have L : ∀ (n m : Nat) (s1 : zS), pM s0 s1 gl S (K ++ List.replicate m 42) (N + m) → (m : Int) + zv s 43 ≤ zv s1 43 → zv s1 43 ≤ zv s0 8 → zv s1 44 = zv s 44 → zv s0 8 - zv s1 43 < n → wr_labels_0 Q n s1 := by
    intro n
    induction n with
    | zero => intro m s1 h1 b1 b2 b3 b4; omega
    | succ n ih =>
      intro m s1 h1 b1 b2 b3 b4
      unfold wr_labels_0
      unfold wr_labels_0B
      refine sp_tkM h1 (by omega) (by omega) (fun k1 hk1 => ⟨fun _ => hq m s1 h1 b1 b2 b3, fun c => ?_⟩)
      have hk2 := hk1 (by omega)
      have e8 := h1.tok.1
      have X : ∀ v : Int, zv s1 43 + 1 < zv s0 8 → (¬ v = 17 → Q s1) ∧ (v = 17 → (0 ≤ zv s1 43) ∧ (zv s1 43 < 12100) ∧ wr_leaf s1 42 (zv s1 43) (za s1 11 (Int.toNat (zv s1 43))) (fun s24 => (zR (zv s24 43 + 2)) ∧ wr_labels_0 Q n (zpv s24 43 (zv s24 43 + 2)))) := fun v hv => ⟨fun _ => hq m s1 h1 b1 b2 b3, fun _ => ⟨by omega, by omega, by
        refine sp_leafM h1 (by omega) (fE_lf (by decide)) (by decide) (by decide) (by decide) (fun e => absurd e (by decide)) (by omega) (by omega) (fun s4 h4 a4 b4' => ⟨⟨by omega, by omega⟩, ?_⟩)
        refine ih (m + 1) _ ?_ (by show ((m + 1 : Nat) : Int) + zv s 43 ≤ zv s4 43 + 2; omega) (by show zv s4 43 + 2 ≤ _; omega) (by show zv s4 44 = _; omega) (by show zv s0 8 - (zv s4 43 + 2) < _; omega)
        have h5 := h4.put 43 (zv s4 43 + 2) (Or.inl rfl)
        rw [List.replicate_succ', ← List.append_assoc]
        exact h5⟩⟩
      unfold wr_tkNext
      rw [e8]
      exact ⟨⟨by omega, by omega⟩, fun _ => ⟨fun _ => hq m s1 h1 b1 b2 b3, fun c9 => absurd c9 (by decide)⟩, fun c9 => ⟨by omega, by omega, X (za s1 9 (Int.toNat (zv s1 43 + 1))) (by omega)⟩⟩
  unfold wr_labels
  refine ⟨2700, L 2700 0 s ?_ (by omega) t1 rfl (by omega)⟩
  rw [List.replicate_zero, List.append_nil]
  exact h
theorem fE_as {m : Nat} {l : List Int} (h1 : 1 ≤ m) (h2 : l.length = m + m) (h : ∀ c ∈ l, kE c) : fSh 20 l := by
  refine ⟨fun h => absurd h (by decide), fun h => absurd h (by decide), fun h => absurd h (by decide), fun h => absurd h (by decide), fun h => absurd h (by decide), fun h => absurd h (by decide), fun h => absurd h (by decide), fun h => absurd h (by decide), ?_, fun h => absurd h (by decide), fun h => absurd h (by decide), fun h => absurd h (by decide), fun h => absurd h (by decide), fun h => absurd h (by decide), fun h => absurd h (by decide), fun h => absurd h (by decide), fun h => absurd h (by decide), fun h => absurd h (by decide), fun h => absurd h (by decide), fun h => absurd h (by decide), fun h => absurd h (by decide), fun h => absurd h (by decide), fun h => absurd h (by decide)⟩
  exact fun _ => ⟨m, h1, h2, h⟩
theorem sp_asgM {s0 s : zS} {gl : List pG} {S KB KA : List Int} {N : Nat} (h : pM s0 s gl S (KB ++ KA) N) (hN : N < 26000) {tok b mi : Int} {m : Nat} (hb : b = KB.length) (hmi : mi = (m : Int)) (m1 : 1 ≤ m) (hl : KA.length = m + m) (hE : ∀ c ∈ KA, kE c) (ht : 0 ≤ tok) (ht2 : tok ≤ 12000) {Q : zS → Prop} (hq : ∀ s', pM s0 s' gl S (KB ++ [20]) (N + 1) → zv s' 43 = zv s 43 → zv s' 44 = zv s 44 → Q s') : wr_shut s 20 tok b mi (fun r s1 => wr_pairs s1 r Q) := by
  subst hb
  subst hmi
  obtain ⟨p1, p2, p3, p4, p5, p6⟩ := h.pre
  refine ffm_shut (sp_shut s 20 tok m KB.length N (KB.length + KA.length) p1 hN (by decide) (by decide) ht ht2 p2 (by omega) (by omega) (fun i _ hi => p4 i hi) (fun i j _ hi hj => p5 i j hi hj) p6) ?_
  rintro r s1 f ⟨rfl, g⟩
  obtain ⟨kids, up, sz, W, q1, q2, q3, q4, q5, q6, q7, q8⟩ := h
  obtain ⟨B, A, rfl, rfl, rfl⟩ := List.map_eq_append_iff.mp q3
  rw [List.length_map] at g hl
  obtain ⟨kids', up', sz', w1, w2, w3, w4, w5⟩ := q1.shut g (fE_as m1 (by rw [List.length_map]; exact hl) hE) (by decide) (by decide) ht ht2 (fun e => absurd e (by decide))
  have hch := w1.ch N (by omega)
  rw [w3] at hch
  have hkn := w1.kn N (by omega)
  rw [w3] at hkn
  have hlt : ∀ x ∈ A, x < N := fun x hx => (q1.wt x (List.mem_append.mpr (Or.inr hx))).1
  refine sp_pairs s1 N m A hN w5 (by simp only [List.length_map] at p3; omega) hl (fun x hx => by have := hlt x hx; omega) hkn hch (fun s2 f2 v1 v2 => ?_)
  refine hq s2 ⟨kids', up', sz', B ++ [N], w1.sm f2 rfl rfl, ?_, ?_, (q4.fr (fun j hj i _ => f.a j i (by rcases hj with rfl | rfl | rfl | rfl <;> rfl))).fr (fun j hj i _ => f2.a j i (by rcases hj with rfl | rfl | rfl | rfl <;> rfl)), by rw [f2.v 38 rfl, f.v 38 rfl]; exact q5, (q6.fr (fun i _ => f.a 47 i rfl)).fr (fun i _ => f2.a 47 i rfl), by rw [f2.v 45 rfl, f.v 45 rfl]; exact q7, (q8.tr f rfl rfl).tr f2 rfl rfl⟩ (by rw [f2.v 43 rfl, f.v 43 rfl]) (by rw [f2.v 44 rfl, f.v 44 rfl])
  · intro n hn e
    rw [f2.a 25 n rfl] at e
    by_cases e2 : n = N
    · subst e2
      rw [w3]
      exact ⟨m, by rw [f2.a 29 n rfl]; exact w5, m1, hl, v2⟩
    · have hn' : n < N := by omega
      rw [(w2 n hn').2.1] at e
      obtain ⟨M, y1, y2, y3, y4⟩ := q2 n hn' e
      rw [(w2 n hn').1]
      refine ⟨M, by rw [f2.a 29 n rfl, (w2 n hn').2.2.1]; exact y1, y2, y3, fun i hi => ?_⟩
      have hmem := gt_m (l := kids n) (i := i) (by omega)
      obtain ⟨z1, z2, z3⟩ := q1.kd n hn' _ hmem
      rw [v1 _ (fun hx => z3 (List.mem_append.mpr (Or.inr hx))), (w2 _ z1).2.2.2]
      exact y4 i hi
  · rw [List.map_append, List.map_congr_left (g := fun c => za s 25 c) (fun c hc => by
      rw [f2.a 25 c rfl]
      exact (w2 c (q1.wt c (List.mem_append.mpr (Or.inl hc))).1).2.1)]
    show _ ++ [za s2 25 N] = _
    rw [f2.a 25 N rfl, w4]
