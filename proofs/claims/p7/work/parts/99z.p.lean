/-! THE STEPS OF DECLARATIONS, on; the plain steps -/
theorem fE_ro {l : List Int} {c : Int} (hl : l.length ≤ 20) (h : ∀ x ∈ l, x = 57) (hc : kE c ∨ kC c) : fSh 54 (l ++ [c]) := by
  refine ⟨fun h => absurd h (by decide), fun h => absurd h (by decide), fun h => absurd h (by decide), fun h => absurd h (by decide), fun h => absurd h (by decide), fun h => absurd h (by decide), fun h => absurd h (by decide), fun h => absurd h (by decide), fun h => absurd h (by decide), fun h => absurd h (by decide), fun h => absurd h (by decide), fun h => absurd h (by decide), fun h => absurd h (by decide), fun h => absurd h (by decide), fun h => absurd h (by decide), fun h => absurd h (by decide), fun h => absurd h (by decide), fun h => absurd h (by decide), fun h => absurd h (by decide), fun h => absurd h (by decide), ?_, fun h => absurd h (by decide), fun h => absurd h (by decide)⟩
  exact fun _ => ⟨l, c, rfl, hc, hl, h⟩
theorem fE_vs {m : Nat} {r : List Int} (h1 : 1 ≤ m) (h2 : r.length = m) (h : ∀ x ∈ r, kI x) : fSh 55 (List.replicate m 58 ++ r) := by
  refine ⟨fun h => absurd h (by decide), fun h => absurd h (by decide), fun h => absurd h (by decide), fun h => absurd h (by decide), fun h => absurd h (by decide), fun h => absurd h (by decide), fun h => absurd h (by decide), fun h => absurd h (by decide), fun h => absurd h (by decide), fun h => absurd h (by decide), fun h => absurd h (by decide), fun h => absurd h (by decide), fun h => absurd h (by decide), fun h => absurd h (by decide), fun h => absurd h (by decide), fun h => absurd h (by decide), fun h => absurd h (by decide), fun h => absurd h (by decide), fun h => absurd h (by decide), fun h => absurd h (by decide), fun h => absurd h (by decide), ?_, fun h => absurd h (by decide)⟩
  exact fun _ => ⟨m, r, rfl, h1, h2, h⟩
theorem tyI {r : List pG} {K : List Int} {d x : Int} {S : List Int} {t : Int} (x1 : 1 ≤ x) (x2 : x ≤ 20000) (hc : (r.length : Int) + 34 ≤ 60 * (d + 1)) (hn : ∀ l t', (l.length : Int) = x → (∀ c ∈ l, kI c) → t ≤ t' → pTy r (K ++ l) d S t') : pTy ((9, x, 0, 0) :: r) K d S t := ⟨⟨x1, x2⟩, hc, fun K' d' S' t' e _ _ _ h => by
  obtain ⟨⟨l, rfl, e1, e2⟩, rfl, rfl⟩ := e
  exact hn l t' e1 e2 h⟩
theorem tyIS {r : List pG} {K : List Int} {d x : Int} {S : List Int} {t : Int} (x1 : 1 ≤ x) (x2 : x ≤ 20000) (hc : (r.length : Int) + 34 ≤ 60 * (d + 1)) (hn : ∀ l t', (l.length : Int) = x - 1 → (∀ c ∈ l, kI c) → t ≤ t' → pTy r (K ++ l) d S t') : pTy ((10, x, 0, 0) :: r) K d S t := ⟨⟨x1, x2⟩, hc, fun K' d' S' t' e _ _ _ h => by
  obtain ⟨⟨l, rfl, e1, e2⟩, rfl, rfl⟩ := e
  exact hn l t' e1 e2 h⟩
theorem st_8 {s0 s : zS} {x y z : Int} {r : List pG} {S K : List Int} {N : Nat} {M : Int} (hx : pX s0 s (8, x, y, z) r S K N M) {Q : Int → zS → Prop} (hq : ∀ e s', pR s0 M e s' → Q e s') : wr_reachD s 8 x y z Q := by
  obtain ⟨h0, t0, t1, t2, d0, d1, ok, pot, eM, hK, pre, cost, hr⟩ := hx
  have hl : (r.length : Int) + 44 ≤ 60 * (zv s 44 + 1) := cost
  have hp : (N : Int) + (1 + pPots r) ≤ 2 * zv s 43 + 4 := pot
  have hM : M = 200 * (zv s0 8 - zv s 43) + (1 + pWgts r) := eM
  have hp0 := pP0 r
  obtain ⟨o1, o2, o3⟩ := h0.outs
  clear cost pot eM
  unfold wr_reachD
  refine sp_tkM h0 t0 (by omega) (fun k hk => ?_)
  repeat' (first | (with_reducible refine ⟨fun c => absurd c (by decide), fun _ => ?_⟩) | (with_reducible refine ⟨fun _ => ?_, fun c => absurd c (by decide)⟩) | fail)
  obtain ⟨⟨B, A, rfl, ez, hA⟩, tk1, tk2⟩ := pre
  have ez' : z = (B.length : Int) := ez
  obtain ⟨p1, p2, p3, p4, p5, p6⟩ := h0.pre
  have hAl : 1 ≤ A.length := by
    rcases hA with rfl | ⟨hA, -⟩
    · exact Nat.le_refl 1
    · cases A with
      | nil => exact absurd rfl hA
      | cons a A => show 1 ≤ A.length + 1; omega
  have i0 := p4 (B.length + A.length - 1) (by omega)
  have eR : (zv s 37 - 1).toNat = B.length + A.length - 1 := by omega
  have sh : ∀ s3, pM s0 s3 r S (B ++ A) N → zv s3 43 = zv s 43 → zv s3 44 = zv s 44 → wr_shut s3 53 y z 0 (fun _ s => Q 1 s) := fun s3 h3 a3 b3 => by
    refine sp_shutM h3 (by omega) ez' (fE_le hA) (by decide) (by decide) (by decide) (by decide) tk1 tk2 (fun s2 h2 a2 b2 _ => ?_)
    refine hq _ _ (pR.ok h2 (d := zv s 44) (t := zv s 43) (by omega) (by omega) (by omega) (by omega) (by omega) (by omega) ok (by show (((N + 1 : Nat) : Int) : Int) + pPots r ≤ _; omega) (by show 200 * (zv s0 8 - (zv s 43)) + pWgts r < _; omega) ?_)
    exact hr _ _ _ _ ⟨eTK ez', rfl, rfl⟩ d0 d1 ok (by omega)
  rw [eR]
  refine ⟨by omega, by omega, by omega, by omega, fun _ => sh s h0 rfl rfl, fun c => ?_⟩
  refine sp_takeN h0 t0 (by omega) (by decide) ⟨fun _ => sh s h0 rfl rfl, fun e => absurd rfl e⟩ (fun v1 v2 s3 h3 a3 b3 c3 => ⟨fun e => absurd e (by decide), fun _ => ?_⟩)
  have h54 : ¬ A = [] ∧ ∀ c ∈ A, c = 54 := by
    rcases hA with rfl | hA
    · exfalso
      obtain ⟨kids, up, sz, W, q1, q2, q3, -⟩ := h0
      obtain ⟨WB, WA, rfl, rfl, w2⟩ := List.map_eq_append_iff.mp q3
      obtain ⟨l, W1, rfl, w5, w3⟩ := List.map_eq_cons_iff.mp w2
      obtain rfl := List.map_eq_nil_iff.mp w3
      have ol : za s 36 WB.length = (l : Int) := by
        have := q1.ou WB.length (by simp)
        simpa using this
      rw [List.length_map, show WB.length + [(55 : Int)].length - 1 = WB.length from rfl, ol, Int.toNat_natCast, w5] at c
      exact absurd c (by decide)
    · exact hA
  refine sp_goalM h3 (by show (r.length : Nat) < 9000; omega) _ _ _ _ (fun s4 h4 a4 b4 c4 => ?_)
  refine sp_goalM h4 (by show (r.length + 1 : Nat) < 9000; omega) _ _ _ _ (fun s5 h5 a5 b5 c5 => ?_)
  refine hq _ _ (pR.ok h5 (d := zv s 44) (t := zv s 43 + 1) (by omega) (by omega) (by omega) (by omega) (by omega) (by omega) ok (by show (N : Int) + (0 + (1 + pPots r)) ≤ _; omega) (by show 200 * (zv s0 8 - (zv s 43 + 1)) + (1 + (1 + pWgts r)) < _; omega) ?_)
  refine tyP (by show ((r.length + 1 : Nat) : Int) + 41 ≤ _; omega) (fun T1 f1 => ⟨?_, fun e => absurd rfl e⟩)
  rw [List.append_assoc]
  refine ⟨⟨⟨B, A ++ [54], rfl, ez', Or.inr ⟨by simp, fun c hc => (List.mem_append.mp hc).elim (h54.2 c) (fun g => List.mem_singleton.mp g)⟩⟩, tk1, tk2⟩, (by show ((r.length : Nat) : Int) + 44 ≤ _; omega), fun K2 D2 S2 T2 e2 g1 g2 g3 g4 => ?_⟩
  obtain ⟨e2, rfl, rfl⟩ := e2
  obtain rfl := e2 B (A ++ [54]) rfl ez'
  exact hr _ _ _ _ ⟨eTK ez', rfl, rfl⟩ d0 d1 ok (by omega)
theorem st_9 {s0 s : zS} {x y z : Int} {r : List pG} {S K : List Int} {N : Nat} {M : Int} (hx : pX s0 s (9, x, y, z) r S K N M) {Q : Int → zS → Prop} (hq : ∀ e s', pR s0 M e s' → Q e s') : wr_reachD s 9 x y z Q := by
  obtain ⟨h0, t0, t1, t2, d0, d1, ok, pot, eM, hK, pre, cost, hr⟩ := hx
  have hl : (r.length : Int) + 34 ≤ 60 * (zv s 44 + 1) := cost
  have hp : (N : Int) + (0 + pPots r) ≤ 2 * zv s 43 + 4 := pot
  have hM : M = 200 * (zv s0 8 - zv s 43) + (24 + pWgts r) := eM
  have hp0 := pP0 r
  obtain ⟨o1, o2, o3⟩ := h0.outs
  clear cost pot eM
  unfold wr_reachD
  refine sp_tkM h0 t0 (by omega) (fun k hk => ?_)
  repeat' (first | (with_reducible refine ⟨fun c => absurd c (by decide), fun _ => ?_⟩) | (with_reducible refine ⟨fun _ => ?_, fun c => absurd c (by decide)⟩) | fail)
  have x1 : 1 ≤ x := pre.1
  have x2 : x ≤ 20000 := pre.2
  refine sp_goalM h0 (by show (r.length : Nat) < 9000; omega) _ _ _ _ (fun s1 h1 a1 b1 c1 => ?_)
  have e1 : ∀ k1 : Int, kI k1 → ∀ t', zv s 43 ≤ t' → ∀ l : List Int, (l.length : Int) = x - 1 → (∀ c ∈ l, kI c) → pTy r (K ++ [k1] ++ l) (zv s 44) S t' := fun k1 hk1 t' ht l hl hlI => by
    rw [List.append_assoc]
    exact hr _ _ _ _ ⟨⟨[k1] ++ l, rfl, by show ((l.length + 1 : Nat) : Int) = x; omega, fun c hc => (List.mem_append.mp hc).elim (fun g => by rw [List.mem_singleton.mp g]; exact hk1) (hlI c)⟩, rfl, rfl⟩ d0 d1 ok (by omega)
  refine ⟨fun c => ?_, fun c => ?_⟩
  · have hk2 := hk (by omega)
    refine sp_goalM h1 (by show (r.length + 1 : Nat) < 9000; omega) _ _ _ _ (fun s2 h2 a2 b2 c2 => ?_)
    refine ⟨⟨by omega, by omega⟩, ?_⟩
    obtain ⟨s3, es, h3, a3, b3, c3⟩ := h2.at1
    rw [es]
    refine sp_goalM h3 (by show (r.length + 1 + 1 : Nat) < 9000; omega) _ _ _ _ (fun s4 h4 a4 b4 c4 => ?_)
    refine hq _ _ (pR.ok h4 (d := zv s 44) (t := zv s 43 + 1) (by omega) (by omega) (by omega) (by omega) (by omega) (by omega) ok (by show (N : Int) + (0 + (1 + (0 + pPots r))) ≤ _; omega) (by show 200 * (zv s0 8 - (zv s 43 + 1)) + (22 + (1 + (1 + pWgts r))) < _; omega) ?_)
    have o4 : zv s1 37 = (K.length : Int) := by omega
    refine tyE kE trivial (by show ((r.length + 1 + 1 : Nat) : Int) + 30 ≤ _; omega) (fun _ _ _ e => e) (fun k1 T1 q1 f1 => ?_)
    refine tySH o4 (fE_e1 (by decide) q1) (by decide) (by decide) (by decide) (by decide) (by omega) (by omega) (by show ((r.length + 1 : Nat) : Int) + 1 ≤ _; omega) (fun T2 f2 => ?_)
    refine tyIS x1 x2 (by omega) (fun l T3 g1 g2 g3 => e1 59 (Or.inr rfl) T3 (by omega) l g1 g2)
  · skip
    refine sp_goalM h1 (by show (r.length + 1 : Nat) < 9000; omega) _ _ _ _ (fun s2 h2 a2 b2 c2 => ?_)
    refine hq _ _ (pR.ok h2 (d := zv s 44) (t := zv s 43) (by omega) (by omega) (by omega) (by omega) (by omega) (by omega) ok (by show (N : Int) + (0 + (0 + pPots r)) ≤ _; omega) (by show 200 * (zv s0 8 - (zv s 43)) + (22 + (1 + pWgts r)) < _; omega) ?_)
    refine tyE kE trivial (by show ((r.length + 1 : Nat) : Int) + 30 ≤ _; omega) (fun _ _ _ e => e) (fun k1 T1 q1 f1 => ?_)
    refine tyIS x1 x2 (by omega) (fun l T3 g1 g2 g3 => e1 k1 (Or.inl q1) T3 (by omega) l g1 g2)
theorem st_10 {s0 s : zS} {x y z : Int} {r : List pG} {S K : List Int} {N : Nat} {M : Int} (hx : pX s0 s (10, x, y, z) r S K N M) {Q : Int → zS → Prop} (hq : ∀ e s', pR s0 M e s' → Q e s') : wr_reachD s 10 x y z Q := by
  obtain ⟨h0, t0, t1, t2, d0, d1, ok, pot, eM, hK, pre, cost, hr⟩ := hx
  have hl : (r.length : Int) + 34 ≤ 60 * (zv s 44 + 1) := cost
  have hp : (N : Int) + (0 + pPots r) ≤ 2 * zv s 43 + 4 := pot
  have hM : M = 200 * (zv s0 8 - zv s 43) + (1 + pWgts r) := eM
  have hp0 := pP0 r
  obtain ⟨o1, o2, o3⟩ := h0.outs
  clear cost pot eM
  unfold wr_reachD
  refine sp_tkM h0 t0 (by omega) (fun k hk => ?_)
  repeat' (first | (with_reducible refine ⟨fun c => absurd c (by decide), fun _ => ?_⟩) | (with_reducible refine ⟨fun _ => ?_, fun c => absurd c (by decide)⟩) | fail)
  have x1 : 1 ≤ x := pre.1
  have x2 : x ≤ 20000 := pre.2
  refine ⟨fun c => ?_, fun c => ?_⟩
  · refine sp_takeN h0 t0 (by omega) (by decide) ⟨fun e => absurd rfl e, fun _ => hq _ _ (pR.no h0 t0 t1)⟩ (fun v1 v2 s3 h3 a3 b3 c3 => ⟨fun _ => ⟨⟨by omega, by omega⟩, ?_⟩, fun e => absurd e (by decide)⟩)
    refine sp_goalM h3 (by show (r.length : Nat) < 9000; omega) _ _ _ _ (fun s4 h4 a4 b4 c4 => ?_)
    refine hq _ _ (pR.ok h4 (d := zv s 44) (t := zv s 43 + 1) (by omega) (by omega) (by omega) (by omega) (by omega) (by omega) ok (by show (N : Int) + (0 + pPots r) ≤ _; omega) (by show 200 * (zv s0 8 - (zv s 43 + 1)) + (24 + pWgts r) < _; omega) ?_)
    refine tyI (by omega) (by omega) (by omega) (fun l T3 g1 g2 g3 => ?_)
    exact hr _ _ _ _ ⟨⟨l, rfl, g1, g2⟩, rfl, rfl⟩ d0 d1 ok (by omega)
  · refine hq _ _ (pR.ok h0 (d := zv s 44) (t := zv s 43) (by omega) (by omega) (by omega) (by omega) (by omega) (by omega) ok (by show (N : Int) + pPots r ≤ _; omega) (by show 200 * (zv s0 8 - (zv s 43)) + pWgts r < _; omega) ?_)
    exact hr _ _ _ _ ⟨⟨[], (List.append_nil _).symm, by show ((0 : Nat) : Int) = x - 1; omega, fun c hc => absurd hc List.not_mem_nil⟩, rfl, rfl⟩ d0 d1 ok (Int.le_refl _)
theorem st_15 {s0 s : zS} {x y z : Int} {r : List pG} {S K : List Int} {N : Nat} {M : Int} (hx : pX s0 s (15, x, y, z) r S K N M) {Q : Int → zS → Prop} (hq : ∀ e s', pR s0 M e s' → Q e s') : wr_reach_22 Q s 15 x y z := by
  obtain ⟨h0, t0, t1, t2, d0, d1, ok, pot, eM, hK, pre, cost, hr⟩ := hx
  have hl : (r.length : Int) + 1 ≤ 60 * (zv s 44 + 1) := cost
  have hp : (N : Int) + (0 + pPots r) ≤ 2 * zv s 43 + 4 := pot
  have hM : M = 200 * (zv s0 8 - zv s 43) + (1 + pWgts r) := eM
  have hp0 := pP0 r
  obtain ⟨o1, o2, o3⟩ := h0.outs
  clear cost pot eM
  unfold wr_reach_22
  repeat' (first | (with_reducible refine ⟨fun c => absurd c (by decide), fun _ => ?_⟩) | (with_reducible refine ⟨fun _ => ?_, fun c => absurd c (by decide)⟩) | fail)
  obtain ⟨x0, x6, xo⟩ := pre
  obtain ⟨s1, es, h1, a1, b1, c1⟩ := h0.dp x
  rw [es]
  refine hq _ _ (pR.ok h1 (d := x) (t := zv s 43) (by omega) (by omega) (by omega) (by omega) x0 x6 xo (by show (N : Int) + pPots r ≤ _; omega) (by show 200 * (zv s0 8 - (zv s 43)) + pWgts r < _; omega) ?_)
  exact hr _ _ _ _ ⟨rfl, rfl, rfl⟩ x0 x6 xo (Int.le_refl _)
theorem st_16 {s0 s : zS} {x y z : Int} {r : List pG} {S K : List Int} {N : Nat} {M : Int} (hx : pX s0 s (16, x, y, z) r S K N M) {Q : Int → zS → Prop} (hq : ∀ e s', pR s0 M e s' → Q e s') : wr_reach_22 Q s 16 x y z := by
  obtain ⟨h0, t0, t1, t2, d0, d1, ok, pot, eM, hK, pre, cost, hr⟩ := hx
  have hl : (r.length : Int) + 1 ≤ 60 * (zv s 44 + 1) := cost
  have hp : (N : Int) + (0 + pPots r) ≤ 2 * zv s 43 + 4 := pot
  have hM : M = 200 * (zv s0 8 - zv s 43) + (1 + pWgts r) := eM
  have hp0 := pP0 r
  obtain ⟨o1, o2, o3⟩ := h0.outs
  clear cost pot eM
  unfold wr_reach_22
  repeat' (first | (with_reducible refine ⟨fun c => absurd c (by decide), fun _ => ?_⟩) | (with_reducible refine ⟨fun _ => ?_, fun c => absurd c (by decide)⟩) | fail)
  have x0 : ¬ x = 0 := pre
  refine sp_takeN h0 t0 (by omega) x0 ⟨Or.inl rfl, hq _ _ (pR.no h0 t0 t1)⟩ (fun v1 v2 s3 h3 a3 b3 c3 => ⟨Or.inr rfl, ?_⟩)
  refine hq _ _ (pR.ok h3 (d := zv s 44) (t := zv s 43 + 1) (by omega) (by omega) (by omega) (by omega) (by omega) (by omega) ok (by show (N : Int) + pPots r ≤ _; omega) (by show 200 * (zv s0 8 - (zv s 43 + 1)) + pWgts r < _; omega) ?_)
  exact hr _ _ _ _ ⟨rfl, rfl, rfl⟩ d0 d1 ok (by omega)
theorem st_17 {s0 s : zS} {x y z : Int} {r : List pG} {S K : List Int} {N : Nat} {M : Int} (hx : pX s0 s (17, x, y, z) r S K N M) {Q : Int → zS → Prop} (hq : ∀ e s', pR s0 M e s' → Q e s') : wr_reach_22 Q s 17 x y z := by
  obtain ⟨h0, t0, t1, t2, d0, d1, ok, pot, eM, hK, pre, cost, hr⟩ := hx
  have hl : (r.length : Int) + 1 ≤ 60 * (zv s 44 + 1) := cost
  have hp : (N : Int) + (0 + pPots r) ≤ 2 * zv s 43 + 4 := pot
  have hM : M = 200 * (zv s0 8 - zv s 43) + (1 + pWgts r) := eM
  have hp0 := pP0 r
  obtain ⟨o1, o2, o3⟩ := h0.outs
  clear cost pot eM
  unfold wr_reach_22
  repeat' (first | (with_reducible refine ⟨fun c => absurd c (by decide), fun _ => ?_⟩) | (with_reducible refine ⟨fun _ => ?_, fun c => absurd c (by decide)⟩) | fail)
  refine sp_openM h0 t0 (by omega) d0 d1 ok ⟨Or.inl rfl, hq _ _ (pR.no h0 t0 t1)⟩ (fun v1 v2 s3 h3 a3 b3 c3 => ⟨Or.inr rfl, ?_⟩)
  refine hq _ _ (pR.ok h3 (d := zv s 44 + 1) (t := zv s 43 + 1) (by omega) (by omega) (by omega) (by omega) (by omega) (by omega) ⟨by have := ok.le; omega, d1, ok⟩ (by show (N : Int) + pPots r ≤ _; omega) (by show 200 * (zv s0 8 - (zv s 43 + 1)) + pWgts r < _; omega) ?_)
  exact hr _ _ _ _ ⟨rfl, rfl, rfl⟩ (by omega) (by omega) ⟨by have := ok.le; omega, d1, ok⟩ (by omega)
theorem st_13 {s0 s : zS} {x y z : Int} {r : List pG} {S K : List Int} {N : Nat} {M : Int} (hx : pX s0 s (13, x, y, z) r S K N M) {Q : Int → zS → Prop} (hq : ∀ e s', pR s0 M e s' → Q e s') : wr_reach_22 Q s 13 x y z := by
  obtain ⟨h0, t0, t1, t2, d0, d1, ok, pot, eM, hK, pre, cost, hr⟩ := hx
  have hl : (r.length : Int) + 1 ≤ 60 * (zv s 44 + 1) := cost
  have hp : (N : Int) + (0 + pPots r) ≤ 2 * zv s 43 + 4 := pot
  have hM : M = 200 * (zv s0 8 - zv s 43) + (1 + pWgts r) := eM
  have hp0 := pP0 r
  obtain ⟨o1, o2, o3⟩ := h0.outs
  clear cost pot eM
  unfold wr_reach_22
  repeat' (first | (with_reducible refine ⟨fun c => absurd c (by decide), fun _ => ?_⟩) | (with_reducible refine ⟨fun _ => ?_, fun c => absurd c (by decide)⟩) | fail)
  refine sp_takeN h0 t0 (by omega) (by decide) ⟨fun e => absurd rfl e, fun _ => ?_⟩ (fun v1 v2 s3 h3 a3 b3 c3 => ⟨fun _ => ?_, fun e => absurd e (by decide)⟩)
  · refine sp_tkM h0 t0 (by omega) (fun k hk => ?_)
    refine ffm_isDoless (sp_isDol s k) ?_
    rintro v s' - ⟨rfl, hv⟩
    refine ⟨fun _ => hq _ _ (pR.no h0 t0 t1), fun _ => ?_⟩
    refine hq _ _ (pR.ok h0 (d := zv s 44) (t := zv s 43) (by omega) (by omega) (by omega) (by omega) (by omega) (by omega) ok (by show (N : Int) + pPots r ≤ _; omega) (by show 200 * (zv s0 8 - (zv s 43)) + pWgts r < _; omega) ?_)
    exact hr _ _ _ _ ⟨rfl, rfl, rfl⟩ d0 d1 ok (Int.le_refl _)
  · refine hq _ _ (pR.ok h3 (d := zv s 44) (t := zv s 43 + 1) (by omega) (by omega) (by omega) (by omega) (by omega) (by omega) ok (by show (N : Int) + pPots r ≤ _; omega) (by show 200 * (zv s0 8 - (zv s 43 + 1)) + pWgts r < _; omega) ?_)
    exact hr _ _ _ _ ⟨rfl, rfl, rfl⟩ d0 d1 ok (by omega)
theorem st_14 {s0 s : zS} {x y z : Int} {r : List pG} {S K : List Int} {N : Nat} {M : Int} (hx : pX s0 s (14, x, y, z) r S K N M) {Q : Int → zS → Prop} (hq : ∀ e s', pR s0 M e s' → Q e s') : wr_reach_22 Q s 14 x y z := by
  obtain ⟨h0, t0, t1, t2, d0, d1, ok, pot, eM, hK, pre, cost, hr⟩ := hx
  have hl : (r.length : Int) + 2 ≤ 60 * (zv s 44 + 1) := cost
  have hp : (N : Int) + (1 + pPots r) ≤ 2 * zv s 43 + 4 := pot
  have hM : M = 200 * (zv s0 8 - zv s 43) + (29 + pWgts r) := eM
  have hp0 := pP0 r
  obtain ⟨o1, o2, o3⟩ := h0.outs
  clear cost pot eM
  unfold wr_reach_22
  repeat' (first | (with_reducible refine ⟨fun c => absurd c (by decide), fun _ => ?_⟩) | (with_reducible refine ⟨fun _ => ?_, fun c => absurd c (by decide)⟩) | fail)
  refine sp_goalM h0 (by show (r.length : Nat) < 9000; omega) _ _ _ _ (fun s1 h1 a1 b1 c1 => ?_)
  refine sp_goalM h1 (by show (r.length + 1 : Nat) < 9000; omega) _ _ _ _ (fun s2 h2 a2 b2 c2 => ?_)
  refine sp_deeperN h2 (by omega) (by omega) ⟨Or.inl rfl, hq _ _ (pR.no h2 (by omega) (by omega))⟩ (fun v s3 h3 a3 b3 c3 => ⟨Or.inr rfl, ?_⟩)
  refine hq _ _ (pR.ok h3 (d := zv s 44 + 1) (t := zv s 43) (by omega) (by omega) (by omega) (by omega) (by omega) (by omega) (ok.mono (by omega)) (by show (N : Int) + (1 + (0 + pPots r)) ≤ _; omega) (by show 200 * (zv s0 8 - (zv s 43)) + (27 + (1 + pWgts r)) < _; omega) ?_)
  refine tyE kC trivial (by show ((r.length + 1 : Nat) : Int) + 38 ≤ _; omega) (fun _ _ _ e => e) (fun k1 T1 q1 f1 => ?_)
  refine tyDP d0 d1 ok (by show ((r.length : Nat) : Int) + 1 ≤ _; omega) (fun T3 f3 => ?_)
  exact hr _ _ _ _ ⟨⟨k1, q1, rfl⟩, rfl, rfl⟩ d0 d1 ok (by omega)
theorem st_6 {s0 s : zS} {x y z : Int} {r : List pG} {S K : List Int} {N : Nat} {M : Int} (hx : pX s0 s (6, x, y, z) r S K N M) {Q : Int → zS → Prop} (hq : ∀ e s', pR s0 M e s' → Q e s') : wr_reach_22 Q s 6 x y z := by
  obtain ⟨h0, t0, t1, t2, d0, d1, ok, pot, eM, hK, pre, cost, hr⟩ := hx
  have hl : (r.length : Int) + 1 ≤ 60 * (zv s 44 + 1) := cost
  have hp : (N : Int) + (1 + pPots r) ≤ 2 * zv s 43 + 4 := pot
  have hM : M = 200 * (zv s0 8 - zv s 43) + (1 + pWgts r) := eM
  have hp0 := pP0 r
  obtain ⟨o1, o2, o3⟩ := h0.outs
  clear cost pot eM
  unfold wr_reach_22
  repeat' (first | (with_reducible refine ⟨fun c => absurd c (by decide), fun _ => ?_⟩) | (with_reducible refine ⟨fun _ => ?_, fun c => absurd c (by decide)⟩) | fail)
  obtain ⟨⟨B, A, rfl, ez, hA⟩, n20, n3, x0, x6, tk1, tk2⟩ := pre
  have ez' : z = (B.length : Int) := ez
  refine sp_shutM h0 (by omega) ez' hA x0 x6 n20 n3 tk1 tk2 (fun s1 h1 a1 b1 k1 => ⟨fun _ => ?_, fun _ => ⟨by omega, by omega, ?_⟩⟩)
  · refine hq _ _ (pR.ok h1 (d := zv s 44) (t := zv s 43) (by omega) (by omega) (by omega) (by omega) (by omega) (by omega) ok (by show (((N + 1 : Nat) : Int) : Int) + pPots r ≤ _; omega) (by show 200 * (zv s0 8 - (zv s 43)) + pWgts r < _; omega) ?_)
    exact hr _ _ _ _ ⟨eTK ez', rfl, rfl⟩ d0 d1 ok (Int.le_refl _)
  · have h2 := h1.putn 30 (Int.toNat (N : Int)) 0 (Or.inl rfl)
    obtain ⟨s2, es, h2, a2, b2⟩ : ∃ s2, zpa s1 30 (Int.toNat (N : Int)) 0 = s2 ∧ pM s0 s2 r S (B ++ [x]) (N + 1) ∧ zv s2 43 = zv s1 43 ∧ zv s2 44 = zv s1 44 := ⟨_, rfl, h2, rfl, rfl⟩
    rw [es]
    refine hq _ _ (pR.ok h2 (d := zv s 44) (t := zv s 43) (by omega) (by omega) (by omega) (by omega) (by omega) (by omega) ok (by show (((N + 1 : Nat) : Int) : Int) + pPots r ≤ _; omega) (by show 200 * (zv s0 8 - (zv s 43)) + pWgts r < _; omega) ?_)
    exact hr _ _ _ _ ⟨eTK ez', rfl, rfl⟩ d0 d1 ok (Int.le_refl _)
theorem st_1 {s0 s : zS} {x y z : Int} {r : List pG} {S K : List Int} {N : Nat} {M : Int} (hx : pX s0 s (1, x, y, z) r S K N M) {Q : Int → zS → Prop} (hq : ∀ e s', pR s0 M e s' → Q e s') : wr_reach_22 Q s 1 x y z := by
  obtain ⟨h0, t0, t1, t2, d0, d1, ok, pot, eM, hK, pre, cost, hr⟩ := hx
  have hl : (r.length : Int) + 46 ≤ 60 * (zv s 44 + 1) := cost
  have hp : (N : Int) + (0 + pPots r) ≤ 2 * zv s 43 + 4 := pot
  have hM : M = 200 * (zv s0 8 - zv s 43) + (3 + pWgts r) := eM
  have hp0 := pP0 r
  obtain ⟨o1, o2, o3⟩ := h0.outs
  clear cost pot eM
  unfold wr_reach_22
  repeat' (first | (with_reducible refine ⟨fun c => absurd c (by decide), fun _ => ?_⟩) | (with_reducible refine ⟨fun _ => ?_, fun c => absurd c (by decide)⟩) | fail)
  refine sp_goalM h0 (by show (r.length : Nat) < 9000; omega) _ _ _ _ (fun s1 h1 a1 b1 c1 => ?_)
  refine sp_goalM h1 (by show (r.length + 1 : Nat) < 9000; omega) _ _ _ _ (fun s2 h2 a2 b2 c2 => ?_)
  refine hq _ _ (pR.ok h2 (d := zv s 44) (t := zv s 43) (by omega) (by omega) (by omega) (by omega) (by omega) (by omega) ok (by show (N : Int) + (0 + (0 + pPots r)) ≤ _; omega) (by show 200 * (zv s0 8 - (zv s 43)) + (1 + (1 + pWgts r)) < _; omega) ?_)
  refine tyE kD trivial (by show ((r.length + 1 : Nat) : Int) + 44 ≤ _; omega) (fun _ _ _ e => e) (fun k1 T1 q1 f1 => ?_)
  refine ⟨⟨by simp, fun c hc => (List.mem_append.mp hc).elim (pre c) (fun g => by rw [List.mem_singleton.mp g]; exact q1)⟩, (by show ((r.length : Nat) : Int) + 46 ≤ _; omega), fun K2 D2 S2 T2 e2 g1 g2 g3 g4 => ?_⟩
  exact hr _ _ _ _ e2 g1 g2 g3 (by omega)
theorem st_2 {s0 s : zS} {x y z : Int} {r : List pG} {S K : List Int} {N : Nat} {M : Int} (hx : pX s0 s (2, x, y, z) r S K N M) {Q : Int → zS → Prop} (hq : ∀ e s', pR s0 M e s' → Q e s') : wr_reach_22 Q s 2 x y z := by
  obtain ⟨h0, t0, t1, t2, d0, d1, ok, pot, eM, hK, pre, cost, hr⟩ := hx
  have hl : (r.length : Int) + 46 ≤ 60 * (zv s 44 + 1) := cost
  have hp : (N : Int) + (0 + pPots r) ≤ 2 * zv s 43 + 4 := pot
  have hM : M = 200 * (zv s0 8 - zv s 43) + (1 + pWgts r) := eM
  have hp0 := pP0 r
  obtain ⟨o1, o2, o3⟩ := h0.outs
  clear cost pot eM
  unfold wr_reach_22
  repeat' (first | (with_reducible refine ⟨fun c => absurd c (by decide), fun _ => ?_⟩) | (with_reducible refine ⟨fun _ => ?_, fun c => absurd c (by decide)⟩) | fail)
  obtain ⟨K0, KD⟩ := pre
  have e8 := h0.tok.1
  have fin : ∀ s1, pM s0 s1 r S K N → zv s 43 ≤ zv s1 43 → zv s1 43 ≤ zv s0 8 → zv s1 44 = zv s 44 → pR s0 M 1 s1 := fun s1 h1 a1 a1' b1 => by
    refine pR.ok h1 (d := zv s 44) (t := zv s1 43) b1 rfl (by omega) a1' d0 d1 ok (by omega) (by omega) ?_
    exact hr _ _ _ _ ⟨K0, KD⟩ d0 d1 ok a1
  refine ⟨fun c => ?_, fun c => ⟨fun _ => hq _ _ (pR.no h0 t0 t1), fun _ => hq _ _ (fin s h0 (Int.le_refl _) t1 rfl)⟩⟩
  refine sp_takeN h0 t0 (by omega) (by decide) ⟨fun e => absurd rfl e, fun _ => hq _ _ (pR.no h0 t0 t1)⟩ (fun v1 v2 s3 h3 a3 b3 c3 => ⟨fun _ => ⟨fun c => ?_, fun c => ⟨fun _ => hq _ _ (pR.no h3 (by omega) (by omega)), fun _ => hq _ _ (fin s3 h3 (by omega) (by omega) b3)⟩⟩, fun e => absurd e (by decide)⟩)
  refine sp_goalM h3 (by show (r.length : Nat) < 9000; omega) _ _ _ _ (fun s4 h4 a4 b4 c4 => ?_)
  refine hq _ _ (pR.ok h4 (d := zv s 44) (t := zv s 43 + 1) (by omega) (by omega) (by omega) (by omega) (by omega) (by omega) ok (by show (N : Int) + (0 + pPots r) ≤ _; omega) (by show 200 * (zv s0 8 - (zv s 43 + 1)) + (3 + pWgts r) < _; omega) ?_)
  refine ⟨KD, (by show ((r.length : Nat) : Int) + 46 ≤ _; omega), fun K2 D2 S2 T2 e2 g1 g2 g3 g4 => ?_⟩
  exact hr _ _ _ _ e2 g1 g2 g3 (by omega)
