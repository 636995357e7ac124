/-! THE PARSE, its loop -/
theorem pC0g {g : pG} {K : List Int} {d : Int} {S : List Int} {t : Int} (h : pPre g K d S t) : 0 ≤ pCost g := by
  unfold pCost
  split
  all_goals first
    | decide
    | (split <;> decide)
    | (rename_i e
       unfold pPre at h
       rw [e] at h
       first
         | (have h1 : 1 ≤ g.2.1 ∧ g.2.1 ≤ 7 := h
            omega)
         | (have h1 := h.2
            have h2 : 1 ≤ g.2.1 ∧ g.2.1 ≤ 7 := h1
            omega))
/-! THE PARSE -/
theorem pPre_g {g x y z : Int} {K : List Int} {d : Int} {S : List Int} {t : Int} (h : pPre (g, x, y, z) K d S t) : 1 ≤ g ∧ g ≤ 41 := by
  unfold pPre at h
  split at h
  all_goals first
    | exact False.elim h
    | (rename_i e; have e' : g.toNat = _ := e; omega)
theorem st_all {s0 s : zS} {g x y z : Int} {r : List pG} {S K : List Int} {N : Nat} {M : Int} (hx : pX s0 s (g, x, y, z) r S K N M) {Q : Int → zS → Prop} (hq : ∀ e s', pR s0 M e s' → Q e s') : wr_reach s g x y z Q := by
  have hg := pPre_g hx.2.2.2.2.2.2.2.2.2.2.1
  have hg2 : g = 1 ∨ g = 2 ∨ g = 3 ∨ g = 4 ∨ g = 5 ∨ g = 6 ∨ g = 7 ∨ g = 8 ∨ g = 9 ∨ g = 10 ∨ g = 11 ∨ g = 12 ∨ g = 13 ∨ g = 14 ∨ g = 15 ∨ g = 16 ∨ g = 17 ∨ g = 18 ∨ g = 19 ∨ g = 20 ∨ g = 21 ∨ g = 22 ∨ g = 23 ∨ g = 24 ∨ g = 25 ∨ g = 26 ∨ g = 27 ∨ g = 28 ∨ g = 29 ∨ g = 30 ∨ g = 31 ∨ g = 32 ∨ g = 33 ∨ g = 34 ∨ g = 35 ∨ g = 36 ∨ g = 37 ∨ g = 38 ∨ g = 39 ∨ g = 40 ∨ g = 41 := by omega
  unfold wr_reach
  rcases hg2 with rfl | rfl | rfl | rfl | rfl | rfl | rfl | rfl | rfl | rfl | rfl | rfl | rfl | rfl | rfl | rfl | rfl | rfl | rfl | rfl | rfl | rfl | rfl | rfl | rfl | rfl | rfl | rfl | rfl | rfl | rfl | rfl | rfl | rfl | rfl | rfl | rfl | rfl | rfl | rfl | rfl
  · refine ⟨fun _ => ?_, fun c => absurd (by decide) c⟩
    exact st_1 hx hq
  · refine ⟨fun _ => ?_, fun c => absurd (by decide) c⟩
    exact st_2 hx hq
  · refine ⟨fun _ => ?_, fun c => absurd (by decide) c⟩
    unfold wr_reach_22
    repeat' (first | (with_reducible refine ⟨fun c => absurd c (by decide), fun _ => ?_⟩) | (with_reducible refine ⟨fun _ => ?_, fun c => absurd c (by decide)⟩) | fail)
    exact st_3 hx (fun e s' h => ⟨h.1, hq e s' h⟩)
  · refine ⟨fun _ => ?_, fun c => absurd (by decide) c⟩
    unfold wr_reach_22
    repeat' (first | (with_reducible refine ⟨fun c => absurd c (by decide), fun _ => ?_⟩) | (with_reducible refine ⟨fun _ => ?_, fun c => absurd c (by decide)⟩) | fail)
    exact st_4 hx (fun e s' h => ⟨h.1, hq e s' h⟩)
  · refine ⟨fun _ => ?_, fun c => absurd (by decide) c⟩
    unfold wr_reach_22
    repeat' (first | (with_reducible refine ⟨fun c => absurd c (by decide), fun _ => ?_⟩) | (with_reducible refine ⟨fun _ => ?_, fun c => absurd c (by decide)⟩) | fail)
    exact st_5 hx (fun e s' h => ⟨h.1, hq e s' h⟩)
  · refine ⟨fun _ => ?_, fun c => absurd (by decide) c⟩
    exact st_6 hx hq
  · refine ⟨fun _ => ?_, fun c => absurd (by decide) c⟩
    unfold wr_reach_22
    repeat' (first | (with_reducible refine ⟨fun c => absurd c (by decide), fun _ => ?_⟩) | (with_reducible refine ⟨fun _ => ?_, fun c => absurd c (by decide)⟩) | fail)
    exact st_7 hx (fun e s' h => ⟨h.1, hq e s' h⟩)
  · refine ⟨fun _ => ?_, fun c => absurd (by decide) c⟩
    unfold wr_reach_22
    repeat' (first | (with_reducible refine ⟨fun c => absurd c (by decide), fun _ => ?_⟩) | (with_reducible refine ⟨fun _ => ?_, fun c => absurd c (by decide)⟩) | fail)
    exact st_8 hx (fun e s' h => ⟨h.1, hq e s' h⟩)
  · refine ⟨fun _ => ?_, fun c => absurd (by decide) c⟩
    unfold wr_reach_22
    repeat' (first | (with_reducible refine ⟨fun c => absurd c (by decide), fun _ => ?_⟩) | (with_reducible refine ⟨fun _ => ?_, fun c => absurd c (by decide)⟩) | fail)
    exact st_9 hx (fun e s' h => ⟨h.1, hq e s' h⟩)
  · refine ⟨fun _ => ?_, fun c => absurd (by decide) c⟩
    unfold wr_reach_22
    repeat' (first | (with_reducible refine ⟨fun c => absurd c (by decide), fun _ => ?_⟩) | (with_reducible refine ⟨fun _ => ?_, fun c => absurd c (by decide)⟩) | fail)
    exact st_10 hx (fun e s' h => ⟨h.1, hq e s' h⟩)
  · refine ⟨fun _ => ?_, fun c => absurd (by decide) c⟩
    unfold wr_reach_22
    repeat' (first | (with_reducible refine ⟨fun c => absurd c (by decide), fun _ => ?_⟩) | (with_reducible refine ⟨fun _ => ?_, fun c => absurd c (by decide)⟩) | fail)
    exact st_11 hx (fun e s' h => ⟨h.1, hq e s' h⟩)
  · refine ⟨fun _ => ?_, fun c => absurd (by decide) c⟩
    unfold wr_reach_22
    repeat' (first | (with_reducible refine ⟨fun c => absurd c (by decide), fun _ => ?_⟩) | (with_reducible refine ⟨fun _ => ?_, fun c => absurd c (by decide)⟩) | fail)
    exact st_12 hx (fun e s' h => ⟨h.1, hq e s' h⟩)
  · refine ⟨fun _ => ?_, fun c => absurd (by decide) c⟩
    exact st_13 hx hq
  · refine ⟨fun _ => ?_, fun c => absurd (by decide) c⟩
    exact st_14 hx hq
  · refine ⟨fun _ => ?_, fun c => absurd (by decide) c⟩
    exact st_15 hx hq
  · refine ⟨fun _ => ?_, fun c => absurd (by decide) c⟩
    exact st_16 hx hq
  · refine ⟨fun _ => ?_, fun c => absurd (by decide) c⟩
    exact st_17 hx hq
  · refine ⟨fun _ => ?_, fun c => absurd (by decide) c⟩
    unfold wr_reach_22
    repeat' (first | (with_reducible refine ⟨fun c => absurd c (by decide), fun _ => ?_⟩) | (with_reducible refine ⟨fun _ => ?_, fun c => absurd c (by decide)⟩) | fail)
    exact st_18 hx (fun e s' h => ⟨h.1, hq e s' h⟩)
  · refine ⟨fun _ => ?_, fun c => absurd (by decide) c⟩
    unfold wr_reach_22
    repeat' (first | (with_reducible refine ⟨fun c => absurd c (by decide), fun _ => ?_⟩) | (with_reducible refine ⟨fun _ => ?_, fun c => absurd c (by decide)⟩) | fail)
    exact st_19 hx (fun e s' h => ⟨h.1, hq e s' h⟩)
  · refine ⟨fun _ => ?_, fun c => absurd (by decide) c⟩
    unfold wr_reach_22
    repeat' (first | (with_reducible refine ⟨fun c => absurd c (by decide), fun _ => ?_⟩) | (with_reducible refine ⟨fun _ => ?_, fun c => absurd c (by decide)⟩) | fail)
    exact st_20 hx (fun e s' h => ⟨h.1, hq e s' h⟩)
  · refine ⟨fun _ => ?_, fun c => absurd (by decide) c⟩
    unfold wr_reach_22
    repeat' (first | (with_reducible refine ⟨fun c => absurd c (by decide), fun _ => ?_⟩) | (with_reducible refine ⟨fun _ => ?_, fun c => absurd c (by decide)⟩) | fail)
    exact st_21 hx (fun e s' h => ⟨h.1, hq e s' h⟩)
  · refine ⟨fun _ => ?_, fun c => absurd (by decide) c⟩
    unfold wr_reach_22
    repeat' (first | (with_reducible refine ⟨fun c => absurd c (by decide), fun _ => ?_⟩) | (with_reducible refine ⟨fun _ => ?_, fun c => absurd c (by decide)⟩) | fail)
    exact st_22 hx (fun e s' h => ⟨h.1, hq e s' h⟩)
  · refine ⟨fun _ => ?_, fun c => absurd (by decide) c⟩
    unfold wr_reach_22
    repeat' (first | (with_reducible refine ⟨fun c => absurd c (by decide), fun _ => ?_⟩) | (with_reducible refine ⟨fun _ => ?_, fun c => absurd c (by decide)⟩) | fail)
    exact st_23 hx (fun e s' h => ⟨h.1, hq e s' h⟩)
  · refine ⟨fun _ => ?_, fun c => absurd (by decide) c⟩
    unfold wr_reach_22
    repeat' (first | (with_reducible refine ⟨fun c => absurd c (by decide), fun _ => ?_⟩) | (with_reducible refine ⟨fun _ => ?_, fun c => absurd c (by decide)⟩) | fail)
    exact st_24 hx (fun e s' h => ⟨h.1, hq e s' h⟩)
  · refine ⟨fun _ => ?_, fun c => absurd (by decide) c⟩
    unfold wr_reach_22
    repeat' (first | (with_reducible refine ⟨fun c => absurd c (by decide), fun _ => ?_⟩) | (with_reducible refine ⟨fun _ => ?_, fun c => absurd c (by decide)⟩) | fail)
    exact st_25 hx (fun e s' h => ⟨h.1, hq e s' h⟩)
  · refine ⟨fun _ => ?_, fun c => absurd (by decide) c⟩
    unfold wr_reach_22
    repeat' (first | (with_reducible refine ⟨fun c => absurd c (by decide), fun _ => ?_⟩) | (with_reducible refine ⟨fun _ => ?_, fun c => absurd c (by decide)⟩) | fail)
    exact st_26 hx (fun e s' h => ⟨h.1, hq e s' h⟩)
  · refine ⟨fun _ => ?_, fun c => absurd (by decide) c⟩
    unfold wr_reach_22
    repeat' (first | (with_reducible refine ⟨fun c => absurd c (by decide), fun _ => ?_⟩) | (with_reducible refine ⟨fun _ => ?_, fun c => absurd c (by decide)⟩) | fail)
    exact st_27 hx (fun e s' h => ⟨h.1, hq e s' h⟩)
  · refine ⟨fun c => absurd c (by decide), fun _ => ⟨fun c => absurd c (by decide), fun _ => st_28 hx (fun e s' h => ⟨h.1, hq e s' h⟩)⟩⟩
  · refine ⟨fun c => absurd c (by decide), fun _ => ⟨fun c => absurd c (by decide), fun _ => st_29 hx (fun e s' h => ⟨h.1, hq e s' h⟩)⟩⟩
  · refine ⟨fun c => absurd c (by decide), fun _ => ⟨fun c => absurd c (by decide), fun _ => st_30 hx (fun e s' h => ⟨h.1, hq e s' h⟩)⟩⟩
  · refine ⟨fun c => absurd c (by decide), fun _ => ⟨fun c => absurd c (by decide), fun _ => st_31 hx (fun e s' h => ⟨h.1, hq e s' h⟩)⟩⟩
  · refine ⟨fun c => absurd c (by decide), fun _ => ⟨fun c => absurd c (by decide), fun _ => st_32 hx (fun e s' h => ⟨h.1, hq e s' h⟩)⟩⟩
  · refine ⟨fun c => absurd c (by decide), fun _ => ⟨fun c => absurd c (by decide), fun _ => st_33 hx (fun e s' h => ⟨h.1, hq e s' h⟩)⟩⟩
  · refine ⟨fun c => absurd c (by decide), fun _ => ⟨fun c => absurd c (by decide), fun _ => st_34 hx (fun e s' h => ⟨h.1, hq e s' h⟩)⟩⟩
  · refine ⟨fun c => absurd c (by decide), fun _ => ⟨fun c => absurd c (by decide), fun _ => st_35 hx (fun e s' h => ⟨h.1, hq e s' h⟩)⟩⟩
  · refine ⟨fun c => absurd c (by decide), fun _ => ⟨fun c => absurd c (by decide), fun _ => st_36 hx (fun e s' h => ⟨h.1, hq e s' h⟩)⟩⟩
  · refine ⟨fun c => absurd c (by decide), fun _ => ⟨fun c => absurd c (by decide), fun _ => st_37 hx (fun e s' h => ⟨h.1, hq e s' h⟩)⟩⟩
  · refine ⟨fun c => absurd c (by decide), fun _ => ⟨fun c => absurd c (by decide), fun _ => st_38 hx (fun e s' h => ⟨h.1, hq e s' h⟩)⟩⟩
  · refine ⟨fun c => absurd c (by decide), fun _ => ⟨fun c => absurd c (by decide), fun _ => st_39 hx (fun e s' h => ⟨h.1, hq e s' h⟩)⟩⟩
  · refine ⟨fun c => absurd c (by decide), fun _ => ⟨fun c => absurd c (by decide), fun _ => st_40 hx (fun e s' h => ⟨h.1, hq e s' h⟩)⟩⟩
  · refine ⟨fun c => absurd c (by decide), fun _ => ⟨fun _ => ?_, fun c => absurd (by decide) c⟩⟩
    unfold wr_reach_22
    repeat' (first | (with_reducible refine ⟨fun c => absurd c (by decide), fun _ => ?_⟩) | (with_reducible refine ⟨fun _ => ?_, fun c => absurd c (by decide)⟩) | fail)
    exact st_41 hx (fun e s' h => ⟨h.1, hq e s' h⟩)
theorem pW0g (g : pG) : 0 ≤ pWgt g := by
  unfold pWgt
  split <;> first | decide | omega
theorem pW0 : ∀ r : List pG, 0 ≤ pWgts r
  | [] => Int.le_refl 0
  | g :: r => Int.add_nonneg (pW0g g) (pW0 r)
theorem fE_tx {l : List Int} (h : ¬ l = []) (h2 : ∀ c ∈ l, kD c) : fSh 60 l := by
  refine ⟨fun h => absurd h (by decide), fun h => absurd h (by decide), fun h => absurd h (by decide), fun h => absurd h (by decide), fun h => absurd h (by decide), fun h => absurd h (by decide), fun h => absurd h (by decide), fun h => absurd h (by decide), fun h => absurd h (by decide), fun h => absurd h (by decide), fun h => absurd h (by decide), fun h => absurd h (by decide), fun h => absurd h (by decide), fun h => absurd h (by decide), fun h => absurd h (by decide), fun h => absurd h (by decide), fun h => absurd h (by decide), fun h => absurd h (by decide), fun h => absurd h (by decide), fun h => absurd h (by decide), fun h => absurd h (by decide), fun h => absurd h (by decide), ?_⟩
  exact fun _ => ⟨h, h2⟩
theorem sp_parse_L (s0 : zS) (hT : zv s0 8 ≤ 2560) (hK : pK s0) {Q : Int → zS → Prop} (hno : ∀ s' gl S K N, pM s0 s' gl S K N → 0 ≤ zv s' 43 → zv s' 43 ≤ zv s0 8 → Q 0 s') (hyes : ∀ s' kids up sz N, fF s' kids up sz [N] (N + 1) → fA s' kids (N + 1) → za s' 25 N = 60 → zSm s0 s' [25, 26, 27, 28, 29, 30, 31, 32, 33, 34, 35, 36, 39, 40, 41, 42, 46, 47] [24, 37, 38, 43, 44, 45] → 0 ≤ zv s' 43 → zv s' 43 ≤ zv s0 8 → ((N + 1 : Nat) : Int) ≤ 2 * zv s' 43 + 5 → Q 1 s') : ∀ (n : Nat) (s : zS) (gl : List pG) (S K : List Int) (N : Nat), pT s0 s gl S K N → pTy gl K (zv s 44) S (zv s 43) → pMs s0 s gl < n → wr_parse_38 Q n s := by
  intro n
  induction n with
  | zero =>
    intro s gl S K N h ht hm
    have h1 := pW0 gl
    have h2 := h.2.2.1
    have h3 : 200 * (zv s0 8 - zv s 43) + pWgts gl < ((0 : Nat) : Int) := hm
    omega
  | succ n ih =>
    intro s gl S K N h ht hm
    obtain ⟨h0, t0, t1, d0, d1, ok, pot⟩ := h
    have e38 : zv s 38 = gl.length := by
      obtain ⟨kids, up, sz, W, q1, q2, q3, q4, q5, q6, q7, q8⟩ := h0
      exact q5
    unfold wr_parse_38
    unfold wr_parse_38B
    cases gl with
    | nil =>
      have pot' : (N : Int) + 0 ≤ 2 * zv s 43 + 4 := pot
      refine ⟨fun _ => ?_, fun c => absurd (by rw [e38]; exact Int.le_refl 0) c⟩
      obtain ⟨kids, up, sz, W, q1, q2, q3, q4, q5, q6, q7, q8⟩ := h0
      have hk60 : fSh 60 (W.map fun c => za s 25 c) := by rw [q3]; exact fE_tx ht.1 ht.2
      refine ffm_shut (sp_shut s 60 0 0 0 N W.length q1.nN (by omega) (by decide) (by decide) (by decide) (by decide) q1.nL (by have := q1.wl; omega) (Nat.zero_le _) (fun i _ hi => q1.out hi) (fun i j _ hi hj => q1.inj hi hj) (fun m hm => by
        obtain ⟨-, -, t3, t4, -⟩ := q1.tk m hm
        exact ⟨t3, t4⟩)) ?_
      rintro r s1 f ⟨-, g⟩
      obtain ⟨kids', up', sz', w1, w2, w3, w4, w5⟩ := fF.shut (B := []) (A := W) q1 g hk60 (by decide) (by decide) (by decide) (by decide) (fun e => absurd e (by decide))
      refine hyes s1 kids' up' sz' N w1 ?_ w4 (q8.tr f rfl rfl) (by rw [f.v 43 rfl]; omega) (by rw [f.v 43 rfl]; omega) (by rw [f.v 43 rfl]; omega)
      have h5 : fA s1 kids' N := q2.fr (fun n hn => ⟨(w2 n hn).1, (w2 n hn).2.1⟩) (fun n hn _ => (w2 n hn).2.2.1) (fun n hn x hx => (w2 x (q1.kd n hn x hx).1).2.2.2)
      intro n hn e
      by_cases e2 : n = N
      · subst e2
        exact absurd (w4.symm.trans e) (by decide)
      · exact h5 n (by omega) e
    | cons g r =>
      obtain ⟨pre, cost, hr⟩ := ht
      have e38' : zv s 38 = (r.length : Int) + 1 := e38
      have hcost : (r.length : Int) + pCost g ≤ 60 * (zv s 44 + 1) := cost
      have hc0 := pC0g pre
      have eI : zv s 38 - 1 = (r.length : Int) := by omega
      rw [eI, Int.toNat_natCast]
      refine ⟨fun c => absurd c (by omega), fun _ => ⟨⟨by omega, by omega⟩, by omega, by omega, by omega, by omega, by omega, by omega, by omega, by omega, ?_⟩⟩
      obtain ⟨kids, up, sz, W, q1, q2, q3, q4, q5, q6, q7, q8⟩ := h0
      obtain ⟨⟨v1, v2, v3, v4⟩, q4'⟩ := q4
      have h1 : pM s0 (zpv s 38 r.length) r S K N := ⟨kids, up, sz, W, q1.sm (js := []) (ks := [38]) (zSm.rf.pv rfl) rfl rfl, q2.fr (fun _ _ => ⟨rfl, rfl⟩) (fun _ _ _ => rfl) (fun _ _ _ _ => rfl), q3, q4'.fr (fun _ _ _ _ => rfl), rfl, q6.fr (fun _ _ => rfl), q7, q8.pv rfl⟩
      rw [v1, v2, v3, v4]
      refine st_all (r := r) (S := S) (K := K) (N := N) (M := pMs s0 s (g :: r)) ⟨h1, t0, t1, hT, d0, d1, ok, pot, rfl, hK, pre, cost, hr⟩ (fun e s' h => ⟨fun he => ?_, fun he => ?_⟩)
      · obtain ⟨h2, h3, h4, h5, h6⟩ := h
        have e1 : e = 1 := h2.elim (fun q => absurd q he) id
        obtain ⟨gl', S', K', N', z1, z2, z3⟩ := h6 e1
        exact ih s' gl' S' K' N' z1 z2 (by omega)
      · obtain ⟨h2, h3, h4, ⟨gl', S', K', N', h5⟩, h6⟩ := h
        exact hno s' gl' S' K' N' h5 h3 h4
theorem sp_parse (s0 : zS) (hT0 : 0 ≤ zv s0 8) (hT : zv s0 8 ≤ 2560) (hK : pK s0) {Q : Int → zS → Prop} (hno : ∀ s' gl S K N, pM s0 s' gl S K N → 0 ≤ zv s' 43 → zv s' 43 ≤ zv s0 8 → Q 0 s') (hyes : ∀ s' kids up sz N, fF s' kids up sz [N] (N + 1) → fA s' kids (N + 1) → za s' 25 N = 60 → zSm s0 s' [25, 26, 27, 28, 29, 30, 31, 32, 33, 34, 35, 36, 39, 40, 41, 42, 46, 47] [24, 37, 38, 43, 44, 45] → 0 ≤ zv s' 43 → zv s' 43 ≤ zv s0 8 → ((N + 1 : Nat) : Int) ≤ 2 * zv s' 43 + 5 → Q 1 s') : wr_parse s0 Q := by
  have h0 : pM s0 (zpv (zpv (zpv (zpv (zpv (zpv s0 38 0) 37 0) 24 0) 43 0) 44 0) 45 0) [] [] [] 0 := by
    refine ⟨fun _ => [], fun _ => 0, fun _ => 1, [], ⟨rfl, rfl, fun i h => absurd h (Nat.not_lt_zero _), fun n h => absurd h (Nat.not_lt_zero _), fun n h => absurd h (Nat.not_lt_zero _), fun n h => absurd h (Nat.not_lt_zero _), fun n h => absurd h (Nat.not_lt_zero _), fun n h => absurd h (Nat.not_lt_zero _), fun w h => absurd h List.not_mem_nil, List.nodup_nil, rfl, fun n h => absurd h (Nat.not_lt_zero _), fun n h => absurd h (Nat.not_lt_zero _)⟩, fun n h => absurd h (Nat.not_lt_zero _), rfl, trivial, rfl, trivial, rfl, (((((zSm.rf.pv rfl).pv rfl).pv rfl).pv rfl).pv rfl).pv rfl⟩
  unfold wr_parse
  refine sp_goalM h0 (by decide) _ _ _ _ (fun s1 h1 a1 b1 c1 => ⟨600000, ?_⟩)
  have a1' : zv s1 43 = 0 := a1
  have b1' : zv s1 44 = 0 := b1
  refine sp_parse_L s0 hT hK hno hyes 600000 s1 [(1, 0, 0, 0)] [] [] 0 ⟨h1, by omega, by omega, by omega, by omega, by show (0 : Int) ≤ zv s1 44; omega, by show ((0 : Nat) : Int) + (0 + 0) ≤ 2 * zv s1 43 + 4; omega⟩ ⟨fun c hc => absurd hc List.not_mem_nil, by show ((0 : Nat) : Int) + 46 ≤ 60 * (zv s1 44 + 1); omega, fun K' d' S' t' e _ _ _ _ => e⟩ (by show 200 * (zv s0 8 - zv s1 43) + (3 + 0) < ((600000 : Nat) : Int); omega)
