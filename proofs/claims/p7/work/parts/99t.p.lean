/-! THE PARSE'S STATE -/
def gt (l : List Nat) (i : Nat) : Nat := l.getD i 0
theorem gt_e {l : List Nat} {i : Nat} (h : i < l.length) : gt l i = l[i] := by
  unfold gt
  simp [List.getD, h]
theorem gt_m {l : List Nat} {i : Nat} (h : i < l.length) : gt l i ∈ l := by
  rw [gt_e h]
  exact List.getElem_mem h
theorem gt_j {l : List Nat} {i j : Nat} (hn : l.Nodup) (hi : i < j) (hj : j < l.length) : ¬ gt l i = gt l j := by
  rw [gt_e (by omega : i < l.length), gt_e hj]
  exact List.pairwise_iff_getElem.mp hn i j (by omega) hj hi
theorem fCh.at {s : zS} {l : List Nat} {x : Int} {k : Nat} (h : fCh s x (l.drop k)) (hk : k < l.length) : x = (gt l k : Int) ∧ fCh s (za s 28 (gt l k)) (l.drop (k + 1)) := by
  rw [List.drop_eq_getElem_cons hk] at h
  rw [gt_e hk]
  exact h
theorem sp_pairs_L2 (s0 : zS) (n M : Nat) (l : List Nat) (hn : n < 26000) (hM : za s0 29 n = M) (hM2 : M < 26000) (hl : l.length = M + M) (hlt : ∀ x ∈ l, x < 26000) (hd : l.Nodup) {Q : zS → Prop} (hq : ∀ s', zSm s0 s' [32] [] → (∀ y, ¬ y ∈ l → za s' 32 y = za s0 32 y) → (∀ i, i < M → za s' 32 (gt l i) = (gt l (M + i) : Nat)) → Q s') : ∀ (m k : Nat) (s : zS) (x2 x3 : Int), k ≤ M → M - k < m → fCh s x2 (l.drop (M + k)) → fCh s x3 (l.drop k) → zSm s0 s [32] [] → (∀ y, ¬ y ∈ l → za s 32 y = za s0 32 y) → (∀ i, i < k → za s 32 (gt l i) = (gt l (M + i) : Nat)) → wr_pairs_42 Q m s n x2 x3 k := by
  intro m
  induction m with
  | zero => intro k s x2 x3 h1 h2; omega
  | succ m ih =>
    intro k s x2 x3 h1 h2 h3 h4 f h5 h6
    have e29 : za s 29 n = M := by rw [f.a 29 n rfl, hM]
    unfold wr_pairs_42
    unfold wr_pairs_42B
    rw [Int.toNat_natCast, e29]
    refine ⟨by omega, by omega, fun c => ?_, fun c => ?_⟩
    · have : k = M := by omega
      subst this
      exact hq s f h5 h6
    · have hk : k < M := by omega
      obtain ⟨e2, c2⟩ := h3.at (by omega)
      obtain ⟨e3, c3⟩ := h4.at (by omega)
      have m2 := hlt _ (gt_m (l := l) (i := M + k) (by omega))
      have m3 := hlt _ (gt_m (l := l) (i := k) (by omega))
      subst e2
      subst e3
      rw [Int.toNat_natCast, Int.toNat_natCast, show ((k : Int) + 1) = ((k + 1 : Nat) : Int) by omega]
      refine ⟨by omega, by omega, by omega, by omega, by omega, by omega, ⟨by omega, by omega⟩, ih (k + 1) _ _ _ (by omega) (by omega) ?_ ?_ (f.pa rfl) (fun y hy => ?_) (fun i hi => ?_)⟩
      · exact (show fCh s _ (l.drop (M + (k + 1))) from c2).fr (fun x _ => rfl)
      · exact c3.fr (fun x _ => rfl)
      · rw [za_pa, if_pos rfl, if_neg (fun e => hy (by rw [e]; exact gt_m (by omega)))]
        exact h5 y hy
      · rw [za_pa, if_pos rfl]
        by_cases e : i = k
        · subst e
          rw [if_pos rfl]
        · rw [if_neg (gt_j hd (by omega : i < k) (by omega))]
          exact h6 i (by omega)
theorem sp_pairs (s0 : zS) (n M : Nat) (l : List Nat) (hn : n < 26000) (hM : za s0 29 n = M) (hM2 : M < 26000) (hl : l.length = M + M) (hlt : ∀ x ∈ l, x < 26000) (hd : l.Nodup) (hc : fCh s0 (za s0 27 n) l) {Q : zS → Prop} (hq : ∀ s', zSm s0 s' [32] [] → (∀ y, ¬ y ∈ l → za s' 32 y = za s0 32 y) → (∀ i, i < M → za s' 32 (gt l i) = (gt l (M + i) : Nat)) → Q s') : wr_pairs s0 n Q := by
  have L1 : ∀ (m k : Nat) (x2 : Int), k ≤ M → M - k < m → fCh s0 x2 (l.drop k) → wr_pairs_9 Q m s0 n x2 k := by
    intro m
    induction m with
    | zero => intro k x2 h1 h2; omega
    | succ m ih =>
      intro k x2 h1 h2 h3
      unfold wr_pairs_9
      unfold wr_pairs_9B
      rw [Int.toNat_natCast, hM]
      refine ⟨by omega, by omega, fun c => ⟨by omega, by omega, M + 1, ?_⟩, fun c => ?_⟩
      · have : k = M := by omega
        subst this
        exact sp_pairs_L2 s0 n k l hn hM hM2 hl hlt hd hq (k + 1) 0 s0 x2 _ (by omega) (by omega) h3 hc zSm.rf (fun _ _ => rfl) (fun i hi => absurd hi (by omega))
      · have hk : k < M := by omega
        obtain ⟨e2, c2⟩ := h3.at (by omega)
        have m2 := hlt _ (gt_m (l := l) (i := k) (by omega))
        subst e2
        rw [Int.toNat_natCast, show ((k : Int) + 1) = ((k + 1 : Nat) : Int) by omega]
        exact ⟨by omega, by omega, ⟨by omega, by omega⟩, ih (k + 1) _ (by omega) (by omega) c2⟩
  unfold wr_pairs
  rw [Int.toNat_natCast]
  exact ⟨by omega, by omega, M + 1, L1 (M + 1) 0 _ (by omega) (by omega) hc⟩
/-- assignments know their right sides -/
def fA (s : zS) (kids : Nat → List Nat) (N : Nat) : Prop := ∀ n, n < N → za s 25 n = 20 → ∃ M : Nat, za s 29 n = M ∧ 1 ≤ M ∧ (kids n).length = M + M ∧ ∀ i, i < M → za s 32 (gt (kids n) i) = (gt (kids n) (M + i) : Nat)
theorem fA.fr {s s' : zS} {kids kids' : Nat → List Nat} {N : Nat} (h : fA s kids N) (g : ∀ n, n < N → kids' n = kids n ∧ za s' 25 n = za s 25 n) (g29 : ∀ n, n < N → za s 25 n = 20 → za s' 29 n = za s 29 n) (g32 : ∀ n, n < N → ∀ x ∈ kids n, za s' 32 x = za s 32 x) : fA s' kids' N := fun n hn e => by
  obtain ⟨g1, g2⟩ := g n hn
  rw [g2] at e
  obtain ⟨M, h1, h2, h3, h4⟩ := h n hn e
  refine ⟨M, by rw [g29 n hn e]; exact h1, h2, by rw [g1]; exact h3, fun i hi => ?_⟩
  rw [g1, g32 n hn _ (gt_m (by omega))]
  exact h4 i hi
/-- what is still to be done -/
def pG : Type := Int × Int × Int × Int
def pGr (s : zS) : List pG → Prop
  | [] => True
  | g :: r => (za s 39 r.length = g.1 ∧ za s 40 r.length = g.2.1 ∧ za s 41 r.length = g.2.2.1 ∧ za s 42 r.length = g.2.2.2) ∧ pGr s r
theorem pGr.fr {s s' : zS} : ∀ {l : List pG}, pGr s l → (∀ j, (j = 39 ∨ j = 40 ∨ j = 41 ∨ j = 42) → ∀ i, i < l.length → za s' j i = za s j i) → pGr s' l
  | [], _, _ => trivial
  | g :: r, h, e => by
    have hl : r.length < (g :: r).length := by show r.length < r.length + 1; omega
    refine ⟨⟨by rw [e 39 (by decide) _ hl]; exact h.1.1, by rw [e 40 (by decide) _ hl]; exact h.1.2.1, by rw [e 41 (by decide) _ hl]; exact h.1.2.2.1, by rw [e 42 (by decide) _ hl]; exact h.1.2.2.2⟩, pGr.fr h.2 (fun j hj i hi => e j hj i (by omega))⟩
/-- the depths that the sections keep, the innermost first -/
def pSr (s : zS) : List Int → Prop
  | [] => True
  | d :: r => (za s 47 r.length = d) ∧ pSr s r
theorem pSr.fr {s s' : zS} : ∀ {l : List Int}, pSr s l → (∀ i, i < l.length → za s' 47 i = za s 47 i) → pSr s' l
  | [], _, _ => trivial
  | g :: r, h, e => by
    have hl : r.length < (g :: r).length := by show r.length < r.length + 1; omega
    exact ⟨by rw [e _ hl]; exact h.1, pSr.fr h.2 (fun i hi => e i (by omega))⟩
/-- the parse's state: what is to be done, sections, the kinds of what waits, how many nodes -/
def pM (s0 s : zS) (gl : List pG) (S : List Int) (K : List Int) (N : Nat) : Prop := ∃ kids up sz W, fF s kids up sz W N ∧ fA s kids N ∧ (W.map fun c => za s 25 c) = K ∧ pGr s gl ∧ zv s 38 = gl.length ∧ pSr s S ∧ zv s 45 = S.length ∧ zSm s0 s [25, 26, 27, 28, 29, 30, 31, 32, 33, 34, 35, 36, 39, 40, 41, 42, 46, 47] [24, 37, 38, 43, 44, 45]
theorem pM.outs {s0 s : zS} {gl : List pG} {S K : List Int} {N : Nat} (h : pM s0 s gl S K N) : zv s 37 = K.length ∧ K.length ≤ N ∧ zv s 24 = N := by
  obtain ⟨kids, up, sz, W, a, b, c, -⟩ := h
  rw [← c, List.length_map]
  exact ⟨a.nL, a.wl, a.nN⟩
theorem pM.tok {s0 s : zS} {gl : List pG} {S K : List Int} {N : Nat} (h : pM s0 s gl S K N) : zv s 8 = zv s0 8 ∧ zv s 18 = zv s0 18 ∧ (∀ i, za s 9 i = za s0 9 i) ∧ ∀ i, za s 11 i = za s0 11 i := by
  obtain ⟨kids, up, sz, W, -, -, -, -, -, -, -, f⟩ := h
  exact ⟨f.v 8 rfl, f.v 18 rfl, fun i => f.a 9 i rfl, fun i => f.a 11 i rfl⟩
theorem pM.put {s0 s : zS} {gl : List pG} {S K : List Int} {N : Nat} (h : pM s0 s gl S K N) (j : Nat) (x : Int) (hj : j = 43 ∨ j = 44) : pM s0 (zpv s j x) gl S K N := by
  obtain ⟨kids, up, sz, W, a, b, c, d, e, f, g, i⟩ := h
  refine ⟨kids, up, sz, W, ?_, ?_, c, d.fr (fun _ _ _ _ => rfl), ?_, f.fr (fun _ _ => rfl), ?_, ?_⟩
  · rcases hj with rfl | rfl <;> exact a.sm (zSm.rf.pv (js := []) (ks := [43, 44]) rfl) rfl rfl
  · exact b.fr (fun _ _ => ⟨rfl, rfl⟩) (fun _ _ _ => rfl) (fun _ _ _ _ => rfl)
  · rcases hj with rfl | rfl <;> exact e
  · rcases hj with rfl | rfl <;> exact g
  · rcases hj with rfl | rfl <;> exact i.pv rfl
/-- a field of a node that the forest doesn't say -/
theorem pM.putn {s0 s : zS} {gl : List pG} {S K : List Int} {N : Nat} (h : pM s0 s gl S K N) (j n : Nat) (x : Int) (hj : j = 30 ∨ j = 31 ∨ j = 33 ∨ j = 35 ∨ j = 29 ∧ ¬ za s 25 n = 3 ∧ ¬ za s 25 n = 20 ∨ j = 34 ∧ 0 ≤ x ∧ x ≤ 12000) : pM s0 (zpa s j n x) gl S K N := by
  obtain ⟨kids, up, sz, W, a, b, c, d, e, f, g, i⟩ := h
  have o : ∀ q, ¬ q = 29 → ¬ q = 30 → ¬ q = 31 → ¬ q = 33 → ¬ q = 34 → ¬ q = 35 → ∀ i, za (zpa s j n x) q i = za s q i := fun q h29 h30 h31 h33 h34 h35 i => by
    rw [za_pa, if_neg]
    rintro rfl
    rcases hj with hj | hj | hj | hj | hj | hj <;> omega
  have o29 : ∀ m, (za s 25 m = 3 ∨ za s 25 m = 20) → za (zpa s j n x) 29 m = za s 29 m := fun m hm => by
    rw [za_pa]
    split
    · split
      · rename_i e1 e2
        subst e1
        subst e2
        rcases hj with hj | hj | hj | hj | hj | hj <;> omega
      · rfl
    · rfl
  refine ⟨kids, up, sz, W, ?_, ?_, ?_, ?_, e, ?_, g, ?_⟩
  · refine a.fr rfl rfl rfl (fun q hq i => o q (by omega) (by omega) (by omega) (by omega) (by omega) (by omega) i) (fun m hm => ?_) (fun m hm hk => o29 m (Or.inl hk))
    obtain ⟨-, -, t3, t4, -⟩ := a.tk m hm
    rw [za_pa]
    split
    · split
      · rcases hj with hj | hj | hj | hj | hj | hj <;> omega
      · exact ⟨t3, t4⟩
    · exact ⟨t3, t4⟩
  · exact b.fr (fun m _ => ⟨rfl, o 25 (by decide) (by decide) (by decide) (by decide) (by decide) (by decide) m⟩) (fun m _ hk => o29 m (Or.inr hk)) (fun m _ y _ => o 32 (by decide) (by decide) (by decide) (by decide) (by decide) (by decide) y)
  · rw [← c]
    exact List.map_congr_left (fun y _ => o 25 (by decide) (by decide) (by decide) (by decide) (by decide) (by decide) y)
  · exact d.fr (fun q hq i _ => o q (by omega) (by omega) (by omega) (by omega) (by omega) (by omega) i)
  · exact f.fr (fun i _ => o 47 (by decide) (by decide) (by decide) (by decide) (by decide) (by decide) i)
  · rcases hj with rfl | rfl | rfl | rfl | ⟨rfl, -⟩ | ⟨rfl, -⟩ <;> exact i.pa rfl
theorem sp_goalM {s0 s : zS} {gl : List pG} {S K : List Int} {N : Nat} (h : pM s0 s gl S K N) (hl : gl.length < 9000) (g x y z : Int) {Q : zS → Prop} (hq : ∀ s', pM s0 s' ((g, x, y, z) :: gl) S K N → zv s' 43 = zv s 43 → zv s' 44 = zv s 44 → zv s' 37 = zv s 37 → Q s') : wr_goal s g x y z Q := by
  obtain ⟨kids, up, sz, W, a, b, c, d, e, f, g1, i⟩ := h
  unfold wr_goal
  rw [e, Int.toNat_natCast]
  refine ⟨by omega, by omega, by omega, by omega, by omega, by omega, by omega, by omega, ⟨by omega, by omega⟩, hq _ ⟨kids, up, sz, W, ?_, ?_, c, ⟨⟨?_, ?_, ?_, ?_⟩, ?_⟩, rfl, f.fr (fun _ _ => rfl), g1, ?_⟩ rfl rfl rfl⟩
  · exact a.sm (js := [39, 40, 41, 42]) (ks := [38]) (((((zSm.rf.pa rfl).pa rfl).pa rfl).pa rfl).pv rfl) rfl rfl
  · exact b.fr (fun _ _ => ⟨rfl, rfl⟩) (fun _ _ _ => rfl) (fun _ _ _ _ => rfl)
  · simp only [za_pv, za_pa, reduceIte, Nat.reduceEqDiff]
  · simp only [za_pv, za_pa, reduceIte, Nat.reduceEqDiff]
  · simp only [za_pv, za_pa, reduceIte, Nat.reduceEqDiff]
  · simp only [za_pv, za_pa, reduceIte, Nat.reduceEqDiff]
  · refine d.fr (fun j hj i hi => ?_)
    have hi2 : ¬ i = gl.length := by omega
    rcases hj with rfl | rfl | rfl | rfl <;> simp only [za_pv, za_pa, reduceIte, Nat.reduceEqDiff, hi2]
  · exact ((((i.pa rfl).pa rfl).pa rfl).pa rfl).pv rfl
theorem pM.node {s0 s s' : zS} {gl : List pG} {S KB KA : List Int} {N : Nat} {k tok a : Int} (h : pM s0 s gl S (KB ++ KA) N) (hN : N < 26000) (hk : fSh k KA) (hk0 : 0 ≤ k) (hk6 : k ≤ 60) (hk2 : ¬ k = 20) (h3 : k = 3 → 0 ≤ a ∧ a < zv s0 18) (ht : 0 ≤ tok) (ht2 : tok ≤ 12000) (f : zSm s s' [25, 26, 27, 28, 29, 30, 31, 33, 34, 35, 36] [24, 37]) (g : nSh s s' k tok a KB.length) : pM s0 s' gl S (KB ++ [k]) (N + 1) ∧ za s' 25 N = k := by
  obtain ⟨kids, up, sz, W, q1, q2, q3, q4, q5, q6, q7, q8⟩ := h
  obtain ⟨B, A, rfl, rfl, rfl⟩ := List.map_eq_append_iff.mp q3
  rw [List.length_map] at g
  obtain ⟨kids', up', sz', w1, w2, w3, w4, w5⟩ := q1.shut g hk hk0 hk6 ht ht2 (fun e => by rw [q8.v 18 rfl]; exact h3 e)
  refine ⟨⟨kids', up', sz', B ++ [N], w1, ?_, ?_, q4.fr (fun j hj i _ => f.a j i (by rcases hj with rfl | rfl | rfl | rfl <;> rfl)), by rw [f.v 38 rfl]; exact q5, q6.fr (fun i _ => f.a 47 i rfl), by rw [f.v 45 rfl]; exact q7, q8.tr f rfl rfl⟩, w4⟩
  · have h5 : fA s' kids' N := q2.fr (fun n hn => ⟨(w2 n hn).1, (w2 n hn).2.1⟩) (fun n hn _ => (w2 n hn).2.2.1) (fun n hn x hx => (w2 x (q1.kd n hn x hx).1).2.2.2)
    intro n hn e
    by_cases e2 : n = N
    · subst e2
      exact absurd (w4.symm.trans e) hk2
    · exact h5 n (by omega) e
  · rw [List.map_append]
    congr 1
    · exact List.map_congr_left (fun c hc => (w2 c (q1.wt c (List.mem_append.mpr (Or.inl hc))).1).2.1)
    · show [za s' 25 N] = [k]
      rw [w4]
theorem pM.pre {s0 s : zS} {gl : List pG} {S KB KA : List Int} {N : Nat} (h : pM s0 s gl S (KB ++ KA) N) : zv s 24 = N ∧ zv s 37 = (KB.length + KA.length : Nat) ∧ KB.length + KA.length ≤ N ∧ (∀ i, i < KB.length + KA.length → 0 ≤ za s 36 i ∧ za s 36 i < N) ∧ (∀ i j, i < j → j < KB.length + KA.length → ¬ za s 36 i = za s 36 j) ∧ ∀ m, m < N → 0 ≤ za s 34 m ∧ za s 34 m ≤ 12000 := by
  obtain ⟨kids, up, sz, W, q1, q2, q3, -⟩ := h
  have e : W.length = KB.length + KA.length := by
    have := congrArg List.length q3
    rwa [List.length_map, List.length_append] at this
  rw [← e]
  refine ⟨q1.nN, q1.nL, q1.wl, fun i hi => q1.out hi, fun i j hi hj => q1.inj hi hj, fun m hm => ?_⟩
  obtain ⟨-, -, t3, t4, -⟩ := q1.tk m hm
  exact ⟨t3, t4⟩
theorem sp_shutM {s0 s : zS} {gl : List pG} {S KB KA : List Int} {N : Nat} (h : pM s0 s gl S (KB ++ KA) N) (hN : N < 26000) {k tok a b : Int} (hb : b = KB.length) (hk : fSh k KA) (hk0 : 0 ≤ k) (hk6 : k ≤ 60) (hk2 : ¬ k = 20) (h3 : ¬ k = 3) (ht : 0 ≤ tok) (ht2 : tok ≤ 12000) {Q : Int → zS → Prop} (hq : ∀ s', pM s0 s' gl S (KB ++ [k]) (N + 1) → zv s' 43 = zv s 43 → zv s' 44 = zv s 44 → za s' 25 N = k → Q N s') : wr_shut s k tok b a Q := by
  subst hb
  obtain ⟨p1, p2, p3, p4, p5, p6⟩ := h.pre
  refine ffm_shut (sp_shut s k tok a KB.length N (KB.length + KA.length) p1 hN hk0 (by omega) ht ht2 p2 (by omega) (by omega) (fun i _ hi => p4 i hi) (fun i j _ hi hj => p5 i j hi hj) p6) ?_
  rintro r s' f ⟨rfl, g⟩
  obtain ⟨m1, m2⟩ := h.node hN hk hk0 hk6 hk2 (fun e => absurd e h3) ht ht2 f g
  exact hq s' m1 (f.v 43 rfl) (f.v 44 rfl) m2
theorem sp_leafM {s0 s : zS} {gl : List pG} {S K : List Int} {N : Nat} (h : pM s0 s gl S K N) (hN : N < 26000) {k tok a : Int} (hk : fSh k []) (hk0 : 0 ≤ k) (hk6 : k ≤ 60) (hk2 : ¬ k = 20) (h3 : k = 3 → 0 ≤ a ∧ a < zv s0 18) (ht : 0 ≤ tok) (ht2 : tok ≤ 12000) {Q : zS → Prop} (hq : ∀ s', pM s0 s' gl S (K ++ [k]) (N + 1) → zv s' 43 = zv s 43 → zv s' 44 = zv s 44 → Q s') : wr_leaf s k tok a Q := by
  have h' : pM s0 s gl S (K ++ []) N := by rw [List.append_nil]; exact h
  obtain ⟨p1, p2, p3, -⟩ := h'.pre
  have p3' : K.length ≤ N := p3
  refine ffm_leaf (sp_leaf s k tok a N K.length p1 hN hk0 (by omega) ht ht2 p2 (by omega)) ?_
  rintro s' f g
  obtain ⟨m1, m2⟩ := h'.node hN hk hk0 hk6 hk2 h3 ht ht2 f g
  exact hq s' m1 (f.v 43 rfl) (f.v 44 rfl)
