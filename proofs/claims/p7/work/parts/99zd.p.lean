/-! THE STEPS OF COMMANDS, on -/
theorem st_22 {s0 s : zS} {x y z : Int} {r : List pG} {S K : List Int} {N : Nat} {M : Int} (hx : pX s0 s (22, x, y, z) r S K N M) {Q : Int → zS → Prop} (hq : ∀ e s', pR s0 M e s' → Q e s') : wr_reachC s 22 x y z Q := by
  obtain ⟨h0, t0, t1, t2, d0, d1, ok, pot, eM, hK, pre, cost, hr⟩ := hx
  have hl : (r.length : Int) + 44 ≤ 60 * (zv s 44 + 1) := cost
  have hp : (N : Int) + (3 + pPots r) ≤ 2 * zv s 43 + 4 := pot
  have hM : M = 200 * (zv s0 8 - zv s 43) + (32 + pWgts r) := eM
  have hp0 := pP0 r
  obtain ⟨o1, o2, o3⟩ := h0.outs
  clear cost pot eM
  unfold wr_reachC
  refine sp_tkM h0 t0 (by omega) (fun k hk => ?_)
  repeat' (first | (with_reducible refine ⟨fun c => absurd c (by decide), fun _ => ?_⟩) | (with_reducible refine ⟨fun _ => ?_, fun c => absurd c (by decide)⟩) | fail)
  obtain ⟨⟨B, A, rfl, ez, e, r1, rfl, he, hr1, hr2⟩, hS, tk1, tk2⟩ := pre
  have ez' : z = (B.length : Int) := ez
  cases S with
  | nil => exact absurd rfl hS
  | cons dd S =>
    obtain ⟨k1, k2, k3⟩ := ok.pop
    have k4 := ok.1
    have ends : ∀ T1, zv s 43 ≤ T1 → pTy r (B ++ [28]) dd S T1 := fun T1 h => hr _ _ _ _ ⟨eTK ez', fun d0 S0 e => by
      obtain ⟨rfl, rfl⟩ := List.cons.inj e
      exact ⟨rfl, rfl⟩⟩ k3 k2 k1 h
    refine sp_goalM h0 (by show (r.length : Nat) < 9000; omega) _ _ _ _ (fun s1 h1 a1 b1 c1 => ?_)
    refine sp_goalM h1 (by show (r.length + 1 : Nat) < 9000; omega) _ _ _ _ (fun s2 h2 a2 b2 c2 => ?_)
    refine hq _ _ (pR.ok h2 (d := zv s 44) (t := zv s 43) (by omega) (by omega) (by omega) (by omega) (by omega) (by omega) ok (by show (N : Int) + (2 + (1 + pPots r)) ≤ _; omega) (by show 200 * (zv s0 8 - (zv s 43)) + (29 + (1 + pWgts r)) < _; omega) ?_)
    refine ⟨⟨⟨B ++ e :: r1, [], (List.append_nil _).symm, o1, fun c hc => absurd hc List.not_mem_nil⟩, t0, by show zv s 43 ≤ 12000; omega⟩, (by show ((r.length + 1 : Nat) : Int) + 41 ≤ _; omega), fun K2 D2 S2 T2 e2 g1 g2 g3 g4 => ?_⟩
    obtain ⟨e2, rfl, rfl⟩ := e2
    obtain rfl := e2 (B ++ e :: r1) [] (List.append_nil _).symm o1
    rw [List.append_assoc]
    refine tyS 28 ez' ⟨⟨B, e :: (r1 ++ [41]), rfl, ez', e, r1 ++ [41], rfl, he, fun _ => by simp, (fun c hc => (List.mem_append.mp hc).elim (hr2 c) (fun g => List.mem_singleton.mp g))⟩, by simp, tk1, tk2⟩ (by show ((r.length : Nat) : Int) + 44 ≤ _; omega) (fun _ _ _ e => e) (fun T2 f2 => ends _ (by omega))

theorem st_24 {s0 s : zS} {x y z : Int} {r : List pG} {S K : List Int} {N : Nat} {M : Int} (hx : pX s0 s (24, x, y, z) r S K N M) {Q : Int → zS → Prop} (hq : ∀ e s', pR s0 M e s' → Q e s') : wr_reachC s 24 x y z Q := by
  obtain ⟨h0, t0, t1, t2, d0, d1, ok, pot, eM, hK, pre, cost, hr⟩ := hx
  have hl : (r.length : Int) + 44 ≤ 60 * (zv s 44 + 1) := cost
  have hp : (N : Int) + (1 + pPots r) ≤ 2 * zv s 43 + 4 := pot
  have hM : M = 200 * (zv s0 8 - zv s 43) + (1 + pWgts r) := eM
  have hp0 := pP0 r
  obtain ⟨o1, o2, o3⟩ := h0.outs
  clear cost pot eM
  unfold wr_reachC
  refine sp_tkM h0 t0 (by omega) (fun k hk => ?_)
  repeat' (first | (with_reducible refine ⟨fun c => absurd c (by decide), fun _ => ?_⟩) | (with_reducible refine ⟨fun _ => ?_, fun c => absurd c (by decide)⟩) | fail)
  obtain ⟨⟨B, A, rfl, ez, e, r1, rfl, he, hr1, hr2⟩, hS, tk1, tk2⟩ := pre
  have ez' : z = (B.length : Int) := ez
  cases S with
  | nil => exact absurd rfl hS
  | cons dd S =>
    obtain ⟨k1, k2, k3⟩ := ok.pop
    have k4 := ok.1
    have ends : ∀ T1, zv s 43 ≤ T1 → pTy r (B ++ [28]) dd S T1 := fun T1 h => hr _ _ _ _ ⟨eTK ez', fun d0 S0 e => by
      obtain ⟨rfl, rfl⟩ := List.cons.inj e
      exact ⟨rfl, rfl⟩⟩ k3 k2 k1 h
    unfold wr_reachC_342
    refine sp_takeN h0 t0 (by omega) (by decide) ⟨fun _ => ?_, fun e => absurd rfl e⟩ (fun v1 v2 s3 h3 a3 b3 c3 => ⟨fun e => absurd e (by decide), fun _ => ?_⟩)
    · refine sp_secM h0 t0 (by omega) (by omega) ⟨fun e => absurd rfl e, fun _ => hq _ _ (pR.no h0 t0 t1)⟩ (fun v1 s1 h1 a1 a1' b1 c1 => ⟨fun _ => ?_, fun e => absurd e (by decide)⟩)
      refine ⟨fun _ => ?_, fun e => absurd e (by decide)⟩
      refine sp_shutM h1 (by omega) ez' (fE_sw he (hr1 rfl) hr2) (by decide) (by decide) (by decide) (by decide) tk1 tk2 (fun s2 h2 a2 b2 _ => ?_)
      refine hq _ _ (pR.ok h2 (d := dd) (t := zv s1 43) (by omega) (by omega) (by omega) (by omega) (by omega) (by omega) k1 (by show (((N + 1 : Nat) : Int) : Int) + pPots r ≤ _; omega) (by show 200 * (zv s0 8 - (zv s1 43)) + pWgts r < _; omega) ?_)
      exact ends _ (by omega)
    · refine ⟨fun _ => ?_, fun e => absurd e (by decide)⟩
      refine sp_goalM h3 (by show (r.length : Nat) < 9000; omega) _ _ _ _ (fun s4 h4 a4 b4 c4 => ?_)
      refine hq _ _ (pR.ok h4 (d := zv s 44) (t := zv s 43 + 1) (by omega) (by omega) (by omega) (by omega) (by omega) (by omega) ok (by show (N : Int) + (3 + pPots r) ≤ _; omega) (by show 200 * (zv s0 8 - (zv s 43 + 1)) + (32 + pWgts r) < _; omega) ?_)
      refine tyS 28 ez' ⟨⟨B, e :: r1, rfl, ez', e, r1, rfl, he, fun e => absurd e (by decide : ¬ (22 : Int) = 24), hr2⟩, by simp, tk1, tk2⟩ (by show ((r.length : Nat) : Int) + 44 ≤ _; omega) (fun _ _ _ e => e) (fun T2 f2 => ends _ (by omega))

theorem st_23 {s0 s : zS} {x y z : Int} {r : List pG} {S K : List Int} {N : Nat} {M : Int} (hx : pX s0 s (23, x, y, z) r S K N M) {Q : Int → zS → Prop} (hq : ∀ e s', pR s0 M e s' → Q e s') : wr_reachC s 23 x y z Q := by
  obtain ⟨h0, t0, t1, t2, d0, d1, ok, pot, eM, hK, pre, cost, hr⟩ := hx
  have hl : (r.length : Int) + 41 ≤ 60 * (zv s 44 + 1) := cost
  have hp : (N : Int) + (2 + pPots r) ≤ 2 * zv s 43 + 4 := pot
  have hM : M = 200 * (zv s0 8 - zv s 43) + (29 + pWgts r) := eM
  have hp0 := pP0 r
  obtain ⟨o1, o2, o3⟩ := h0.outs
  clear cost pot eM
  unfold wr_reachC
  refine sp_tkM h0 t0 (by omega) (fun k hk => ?_)
  repeat' (first | (with_reducible refine ⟨fun c => absurd c (by decide), fun _ => ?_⟩) | (with_reducible refine ⟨fun _ => ?_, fun c => absurd c (by decide)⟩) | fail)
  obtain ⟨⟨B, A, rfl, ez, hA⟩, tk1, tk2⟩ := pre
  have ez' : z = (B.length : Int) := ez
  have tk1' : 0 ≤ x := tk1
  have tk2' : x ≤ 12000 := tk2
  have again : ∀ q, (q = 43 ∨ q = 44) → ∀ T1, zv s 43 ≤ T1 → pTy ((23, x, 0, z) :: r) (B ++ (A ++ [q])) (zv s 44) S T1 := fun q hq1 T1 hT => by
    refine ⟨⟨⟨B, A ++ [q], rfl, ez', fun c hc => (List.mem_append.mp hc).elim (hA c) (fun g => by rw [List.mem_singleton.mp g]; exact hq1)⟩, tk1, tk2⟩, (by show ((r.length : Nat) : Int) + 41 ≤ _; omega), fun K2 D2 S2 T2 e2 g1 g2 g3 g4 => ?_⟩
    obtain ⟨e2, rfl, rfl⟩ := e2
    obtain rfl := e2 B (A ++ [q]) rfl ez'
    exact hr _ _ _ _ ⟨eTK ez', rfl, rfl⟩ d0 d1 ok (by omega)
  refine ⟨fun c => ⟨fun c2 => ?_, fun c2 => ?_⟩, fun c => ?_⟩
  · refine sp_labelsM t2 h0 t0 t1 (by omega) (fun m s4 h4 a4 a4' b4 => ?_)
    refine sp_goalM h4 (by omega) _ _ _ _ (fun s5 h5 a5 b5 c5 => ?_)
    refine sp_goalM h5 (by show (r.length + 1 : Nat) < 9000; omega) _ _ _ _ (fun s6 h6 a6 b6 c6 => ?_)
    refine hq _ _ (pR.ok h6 (d := zv s 44) (t := zv s4 43) (by omega) (by omega) (by omega) (by omega) (by omega) (by omega) ok (by show (((N + m : Nat) : Int) : Int) + (1 + (1 + pPots r)) ≤ _; omega) (by show 200 * (zv s0 8 - (zv s4 43)) + (27 + (1 + pWgts r)) < _; omega) ?_)
    refine tyE kC trivial (by show ((r.length + 1 : Nat) : Int) + 38 ≤ _; omega) (fun _ _ _ e => e) (fun k5 T1 q1 f1 => ?_)
    rw [List.append_assoc, List.append_assoc]
    refine tySH ez' (by
      rw [← List.append_assoc]
      exact fE_pa q1 (fun y hy => (List.mem_append.mp hy).elim (fun g => Or.inr (hA y g)) (fun g => Or.inl (List.eq_of_mem_replicate g)))) (by decide) (by decide) (by decide) (by decide) tk1 tk2 (by omega) (fun T3 f3 => ?_)
    exact hr _ _ _ _ ⟨eTK ez', rfl, rfl⟩ d0 d1 ok (by omega)
  · have hk2 := hk (by omega)
    refine ⟨⟨by omega, by omega⟩, ?_⟩
    obtain ⟨s2, es, h2, a2, b2, c2'⟩ := h0.at1
    rw [es]
    refine sp_leafM h2 (by omega) (fE_lf (by decide)) (by decide) (by decide) (by decide) (fun e => absurd e (by decide)) t0 (by omega) (fun s4 h4 a4 b4' => ?_)
    refine sp_goalM h4 (by omega) _ _ _ _ (fun s5 h5 a5 b5 c5 => ?_)
    refine sp_takeN h5 (by omega) (by omega) (by decide) ⟨Or.inl rfl, hq _ _ (pR.no h5 (by omega) (by omega))⟩ (fun v1 v2 s6 h6 a6 b6 c6 => ⟨Or.inr rfl, ?_⟩)
    have h6' := h6
    rw [List.append_assoc] at h6'
    refine hq _ _ (pR.ok h6' (d := zv s 44) (t := zv s 43 + 2) (by omega) (by omega) (by omega) (by omega) (by omega) (by omega) ok (by show (((N + 1 : Nat) : Int) : Int) + (2 + pPots r) ≤ _; omega) (by show 200 * (zv s0 8 - (zv s 43 + 2)) + (29 + pWgts r) < _; omega) ?_)
    exact again 44 (Or.inr rfl) _ (by omega)
  · have hk2 := hk (by omega)
    refine ⟨⟨by omega, by omega⟩, ?_⟩
    obtain ⟨s2, es, h2, a2, b2, c2'⟩ := h0.at1
    rw [es]
    refine sp_goalM h2 (by show (r.length : Nat) < 9000; omega) _ _ _ _ (fun s3 h3 a3 b3 c3 => ?_)
    refine sp_goalM h3 (by show (r.length + 1 : Nat) < 9000; omega) _ _ _ _ (fun s4 h4 a4 b4 c4 => ?_)
    refine sp_goalM h4 (by show (r.length + 1 + 1 : Nat) < 9000; omega) _ _ _ _ (fun s5 h5 a5 b5 c5 => ?_)
    refine sp_goalM h5 (by show (r.length + 1 + 1 + 1 : Nat) < 9000; omega) _ _ _ _ (fun s6 h6 a6 b6 c6 => ?_)
    refine hq _ _ (pR.ok h6 (d := zv s 44) (t := zv s 43 + 1) (by omega) (by omega) (by omega) (by omega) (by omega) (by omega) ok (by show (N : Int) + (0 + (1 + (0 + (2 + pPots r)))) ≤ _; omega) (by show 200 * (zv s0 8 - (zv s 43 + 1)) + (22 + (1 + (1 + (29 + pWgts r)))) < _; omega) ?_)
    refine tyE kE trivial (by show ((r.length + 1 + 1 + 1 : Nat) : Int) + 30 ≤ _; omega) (fun _ _ _ e => e) (fun k1 T1 q1 f1 => ?_)
    refine tySH o1 (fE_e1 (by decide) q1) (by decide) (by decide) (by decide) (by decide) t0 (by omega) (by show ((r.length + 1 + 1 : Nat) : Int) + 1 ≤ _; omega) (fun T2 f2 => ?_)
    refine tyEX (show ¬ (17 : Int) = 0 by decide) (by show ((r.length + 1 : Nat) : Int) + 1 ≤ _; omega) (fun _ _ _ e => e) (fun T3 f3 => ?_)
    rw [List.append_assoc]
    exact again 43 (Or.inl rfl) _ (by omega)
theorem st_25 {s0 s : zS} {x y z : Int} {r : List pG} {S K : List Int} {N : Nat} {M : Int} (hx : pX s0 s (25, x, y, z) r S K N M) {Q : Int → zS → Prop} (hq : ∀ e s', pR s0 M e s' → Q e s') : wr_reachC s 25 x y z Q := by
  obtain ⟨h0, t0, t1, t2, d0, d1, ok, pot, eM, hK, pre, cost, hr⟩ := hx
  have hl : (r.length : Int) + 34 ≤ 60 * (zv s 44 + 1) := cost
  have hp : (N : Int) + (1 + pPots r) ≤ 2 * zv s 43 + 4 := pot
  have hM : M = 200 * (zv s0 8 - zv s 43) + (2 + pWgts r) := eM
  have hp0 := pP0 r
  obtain ⟨o1, o2, o3⟩ := h0.outs
  clear cost pot eM
  unfold wr_reachC
  refine sp_tkM h0 t0 (by omega) (fun k hk => ?_)
  repeat' (first | (with_reducible refine ⟨fun c => absurd c (by decide), fun _ => ?_⟩) | (with_reducible refine ⟨fun _ => ?_, fun c => absurd c (by decide)⟩) | fail)
  obtain ⟨⟨B, A, rfl, ez, a, rfl, ha⟩, tk1, tk2⟩ := pre
  have ez' : z = (B.length : Int) := ez
  have L : wr_goal s 26 1 y z (fun s126 => Q 1 s126) := by
    refine sp_goalM h0 (by show (r.length : Nat) < 9000; omega) _ _ _ _ (fun s1 h1 a1 b1 c1 => ?_)
    refine hq _ _ (pR.ok h1 (d := zv s 44) (t := zv s 43) (by omega) (by omega) (by omega) (by omega) (by omega) (by omega) ok (by show (N : Int) + (0 + pPots r) ≤ _; omega) (by show 200 * (zv s0 8 - (zv s 43)) + (1 + pWgts r) < _; omega) ?_)
    refine ⟨⟨⟨B, [a], rfl, ez', rfl, by show (1 : Int) ≤ 1; omega, by show 1 ≤ zv s 43 + 1; omega, fun c hc => by rw [List.mem_singleton.mp hc]; exact ha⟩, tk1, tk2⟩, (by show ((r.length : Nat) : Int) + 33 ≤ _; omega), fun K2 D2 S2 T2 e2 g1 g2 g3 g4 => ?_⟩
    obtain ⟨e2, rfl, rfl⟩ := e2
    obtain ⟨k2, q2, rfl⟩ := e2 B ([a]) rfl ez'
    exact hr _ _ _ _ ⟨eTE ez' kC q2, rfl, rfl⟩ d0 d1 ok (by omega)
  obtain ⟨l, w1, w2, w3, w4, w5, w6⟩ := h0.topk
  refine ⟨fun _ => L, fun _ => ⟨fun _ => ?_, fun _ => L⟩⟩
  rw [w1, w4, Int.toNat_natCast, w6]
  refine ⟨w2, by omega, by omega, by omega, fun _ => hq _ _ (pR.no h0 t0 t1), fun c6 => ⟨by omega, by omega, fun _ => ?_, fun _ => hq _ _ (pR.no h0 t0 t1)⟩⟩
  subst c6
  refine sp_shutM h0 (by omega) ez' fE_cc (by decide) (by decide) (by decide) (by decide) tk1 tk2 (fun s1 h1 a1 b1 _ => ?_)
  refine hq _ _ (pR.ok h1 (d := zv s 44) (t := zv s 43) (by omega) (by omega) (by omega) (by omega) (by omega) (by omega) ok (by show (((N + 1 : Nat) : Int) : Int) + pPots r ≤ _; omega) (by show 200 * (zv s0 8 - (zv s 43)) + pWgts r < _; omega) ?_)
  exact hr _ _ _ _ ⟨eTE ez' kC (⟨by decide, by decide⟩ : kC 21), rfl, rfl⟩ d0 d1 ok (by omega)
theorem st_26 {s0 s : zS} {x y z : Int} {r : List pG} {S K : List Int} {N : Nat} {M : Int} (hx : pX s0 s (26, x, y, z) r S K N M) {Q : Int → zS → Prop} (hq : ∀ e s', pR s0 M e s' → Q e s') : wr_reachC s 26 x y z Q := by
  obtain ⟨h0, t0, t1, t2, d0, d1, ok, pot, eM, hK, pre, cost, hr⟩ := hx
  have hl : (r.length : Int) + 33 ≤ 60 * (zv s 44 + 1) := cost
  have hp : (N : Int) + (0 + pPots r) ≤ 2 * zv s 43 + 4 := pot
  have hM : M = 200 * (zv s0 8 - zv s 43) + (1 + pWgts r) := eM
  have hp0 := pP0 r
  obtain ⟨o1, o2, o3⟩ := h0.outs
  clear cost pot eM
  unfold wr_reachC
  refine sp_tkM h0 t0 (by omega) (fun k hk => ?_)
  repeat' (first | (with_reducible refine ⟨fun c => absurd c (by decide), fun _ => ?_⟩) | (with_reducible refine ⟨fun _ => ?_, fun c => absurd c (by decide)⟩) | fail)
  obtain ⟨⟨B, A, rfl, ez, hl1, hx1, hx2, hE⟩, tk1, tk2⟩ := pre
  have ez' : z = (B.length : Int) := ez
  have hl1' : (A.length : Int) = x := hl1
  have hx1' : 1 ≤ x := hx1
  have hx2' : x ≤ zv s 43 + 1 := hx2
  refine sp_takeN h0 t0 (by omega) (by decide) ⟨fun _ => ?_, fun e => absurd rfl e⟩ (fun v1 v2 s3 h3 a3 b3 c3 => ⟨fun e => absurd e (by decide), fun _ => ⟨⟨by omega, by omega⟩, ?_⟩⟩)
  · refine sp_takeN h0 t0 (by omega) (by decide) ⟨fun e => absurd rfl e, fun _ => hq _ _ (pR.no h0 t0 t1)⟩ (fun v1 v2 s3 h3 a3 b3 c3 => ⟨fun _ => ⟨⟨by omega, by omega⟩, ?_⟩, fun e => absurd e (by decide)⟩)
    refine sp_goalM h3 (by show (r.length : Nat) < 9000; omega) _ _ _ _ (fun s4 h4 a4 b4 c4 => ?_)
    refine sp_goalM h4 (by show (r.length + 1 : Nat) < 9000; omega) _ _ _ _ (fun s5 h5 a5 b5 c5 => ?_)
    refine hq _ _ (pR.ok h5 (d := zv s 44) (t := zv s 43 + 1) (by omega) (by omega) (by omega) (by omega) (by omega) (by omega) ok (by show (N : Int) + (0 + (1 + pPots r)) ≤ _; omega) (by show 200 * (zv s0 8 - (zv s 43 + 1)) + (22 + (1 + pWgts r)) < _; omega) ?_)
    refine tyE kE trivial (by show ((r.length + 1 : Nat) : Int) + 30 ≤ _; omega) (fun _ _ _ e => e) (fun k1 T1 q1 f1 => ?_)
    rw [List.append_assoc]
    refine ⟨⟨⟨B, A ++ [k1], rfl, ez', A.length, 1, by show 8192 * x + 1 = 8192 * (A.length : Int) + ((1 : Nat) : Int); omega, by omega, by omega, by omega, by simp, fun c hc => (List.mem_append.mp hc).elim (hE c) (fun g => by rw [List.mem_singleton.mp g]; exact q1)⟩, tk1, tk2⟩, (by show ((r.length : Nat) : Int) + 33 ≤ _; omega), fun K2 D2 S2 T2 e2 g1 g2 g3 g4 => ?_⟩
    obtain ⟨e2, rfl, rfl⟩ := e2
    obtain ⟨k2, q2, rfl⟩ := e2 B (A ++ [k1]) rfl ez'
    exact hr _ _ _ _ ⟨eTE ez' kC q2, rfl, rfl⟩ d0 d1 ok (by omega)
  · refine sp_goalM h3 (by show (r.length : Nat) < 9000; omega) _ _ _ _ (fun s4 h4 a4 b4 c4 => ?_)
    refine sp_goalM h4 (by show (r.length + 1 : Nat) < 9000; omega) _ _ _ _ (fun s5 h5 a5 b5 c5 => ?_)
    refine hq _ _ (pR.ok h5 (d := zv s 44) (t := zv s 43 + 1) (by omega) (by omega) (by omega) (by omega) (by omega) (by omega) ok (by show (N : Int) + (0 + (0 + pPots r)) ≤ _; omega) (by show 200 * (zv s0 8 - (zv s 43 + 1)) + (22 + (1 + pWgts r)) < _; omega) ?_)
    refine tyE kE trivial (by show ((r.length + 1 : Nat) : Int) + 30 ≤ _; omega) (fun _ _ _ e => e) (fun k1 T1 q1 f1 => ?_)
    rw [List.append_assoc]
    refine ⟨⟨⟨B, A ++ [k1], rfl, ez', by rw [List.length_append]; show ((A.length + 1 : Nat) : Int) = x + 1; omega, by show 1 ≤ x + 1; omega, by show x + 1 ≤ _; omega, fun c hc => (List.mem_append.mp hc).elim (hE c) (fun g => by rw [List.mem_singleton.mp g]; exact q1)⟩, tk1, tk2⟩, (by show ((r.length : Nat) : Int) + 33 ≤ _; omega), fun K2 D2 S2 T2 e2 g1 g2 g3 g4 => ?_⟩
    obtain ⟨e2, rfl, rfl⟩ := e2
    obtain ⟨k2, q2, rfl⟩ := e2 B (A ++ [k1]) rfl ez'
    exact hr _ _ _ _ ⟨eTE ez' kC q2, rfl, rfl⟩ d0 d1 ok (by omega)

theorem st_27 {s0 s : zS} {x y z : Int} {r : List pG} {S K : List Int} {N : Nat} {M : Int} (hx : pX s0 s (27, x, y, z) r S K N M) {Q : Int → zS → Prop} (hq : ∀ e s', pR s0 M e s' → Q e s') : wr_reachC s 27 x y z Q := by
  obtain ⟨h0, t0, t1, t2, d0, d1, ok, pot, eM, hK, pre, cost, hr⟩ := hx
  have hl : (r.length : Int) + 33 ≤ 60 * (zv s 44 + 1) := cost
  have hp : (N : Int) + (1 + pPots r) ≤ 2 * zv s 43 + 4 := pot
  have hM : M = 200 * (zv s0 8 - zv s 43) + (1 + pWgts r) := eM
  have hp0 := pP0 r
  obtain ⟨o1, o2, o3⟩ := h0.outs
  clear cost pot eM
  unfold wr_reachC
  refine sp_tkM h0 t0 (by omega) (fun k hk => ?_)
  repeat' (first | (with_reducible refine ⟨fun c => absurd c (by decide), fun _ => ?_⟩) | (with_reducible refine ⟨fun _ => ?_, fun c => absurd c (by decide)⟩) | fail)
  obtain ⟨⟨B, A, rfl, ez, m, j, ex, j1, jm, mt, hl1, hE⟩, tk1, tk2⟩ := pre
  have ez' : z = (B.length : Int) := ez
  have ex' : x = 8192 * (m : Int) + j := ex
  have hz : zd x 8192 = m := by rw [ex']; exact zd_m m j (by omega) (by omega)
  rw [hz]
  refine ⟨⟨by omega, by omega⟩, fun c => ?_, fun c => ?_⟩
  · refine sp_takeN h0 t0 (by omega) (by decide) ⟨fun e => absurd rfl e, fun _ => hq _ _ (pR.no h0 t0 t1)⟩ (fun v1 v2 s3 h3 a3 b3 c3 => ⟨fun _ => ⟨⟨by omega, by omega⟩, ?_⟩, fun e => absurd e (by decide)⟩)
    refine sp_goalM h3 (by show (r.length : Nat) < 9000; omega) _ _ _ _ (fun s4 h4 a4 b4 c4 => ?_)
    refine sp_goalM h4 (by show (r.length + 1 : Nat) < 9000; omega) _ _ _ _ (fun s5 h5 a5 b5 c5 => ?_)
    refine hq _ _ (pR.ok h5 (d := zv s 44) (t := zv s 43 + 1) (by omega) (by omega) (by omega) (by omega) (by omega) (by omega) ok (by show (N : Int) + (0 + (1 + pPots r)) ≤ _; omega) (by show 200 * (zv s0 8 - (zv s 43 + 1)) + (22 + (1 + pWgts r)) < _; omega) ?_)
    refine tyE kE trivial (by show ((r.length + 1 : Nat) : Int) + 30 ≤ _; omega) (fun _ _ _ e => e) (fun k1 T1 q1 f1 => ?_)
    rw [List.append_assoc]
    refine ⟨⟨⟨B, A ++ [k1], rfl, ez', m, j + 1, by show x + 1 = 8192 * (m : Int) + ((j + 1 : Nat) : Int); omega, by omega, by omega, by omega, by rw [List.length_append]; show A.length + 1 = _; omega, fun c hc => (List.mem_append.mp hc).elim (hE c) (fun g => by rw [List.mem_singleton.mp g]; exact q1)⟩, tk1, tk2⟩, (by show ((r.length : Nat) : Int) + 33 ≤ _; omega), fun K2 D2 S2 T2 e2 g1 g2 g3 g4 => ?_⟩
    obtain ⟨e2, rfl, rfl⟩ := e2
    obtain ⟨k2, q2, rfl⟩ := e2 B (A ++ [k1]) rfl ez'
    exact hr _ _ _ _ ⟨eTE ez' kC q2, rfl, rfl⟩ d0 d1 ok (by omega)
  · refine sp_asgM h0 (by omega) ez' rfl (by omega) (by omega) hE tk1 tk2 (fun s1 h1 a1 b1 => ?_)
    refine hq _ _ (pR.ok h1 (d := zv s 44) (t := zv s 43) (by omega) (by omega) (by omega) (by omega) (by omega) (by omega) ok (by show (((N + 1 : Nat) : Int) : Int) + pPots r ≤ _; omega) (by show 200 * (zv s0 8 - (zv s 43)) + pWgts r < _; omega) ?_)
    exact hr _ _ _ _ ⟨eTE ez' kC (⟨by decide, by decide⟩ : kC 20), rfl, rfl⟩ d0 d1 ok (by omega)
