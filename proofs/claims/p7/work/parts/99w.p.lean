/-! THE STEPS OF EXPRESSIONS, on -/
theorem st_35 {s0 s : zS} {x y z : Int} {r : List pG} {S K : List Int} {N : Nat} {M : Int} (hx : pX s0 s (35, x, y, z) r S K N M) {Q : Int → zS → Prop} (hq : ∀ e s', pR s0 M e s' → Q e s') : wr_reachE s 35 x y z Q := by
  obtain ⟨h0, t0, t1, t2, d0, d1, ok, pot, eM, hK, pre, cost, hr⟩ := hx
  have hl : (r.length : Int) + 4 ≤ 60 * (zv s 44 + 1) := cost
  have hp : (N : Int) + (0 + pPots r) ≤ 2 * zv s 43 + 4 := pot
  have hM : M = 200 * (zv s0 8 - zv s 43) + (1 + pWgts r) := eM
  have hp0 := pP0 r
  obtain ⟨o1, o2, o3⟩ := h0.outs
  clear cost pot eM
  unfold wr_reachE
  refine sp_tkM h0 t0 (by omega) (fun k hk => ?_)
  repeat' (first | (with_reducible refine ⟨fun c => absurd c (by decide), fun _ => ?_⟩) | (with_reducible refine ⟨fun _ => ?_, fun c => absurd c (by decide)⟩) | fail)
  obtain ⟨B, A, rfl, ez, a, rfl, ha⟩ := pre
  have ez' : z = (B.length : Int) := ez
  have A : ¬ k = 0 → wr_reachE_569 Q s z (zv s 43) := fun hk0 => by
    have hk2 := hk hk0
    unfold wr_reachE_569
    refine sp_deeperN h0 d0 d1 ⟨fun e => absurd rfl e, fun _ => hq _ _ (pR.no h0 t0 t1)⟩ (fun v s1 h1 a1 b1 c1 => ⟨fun _ => ⟨⟨by omega, by omega⟩, ?_⟩, fun e => absurd e (by decide)⟩)
    obtain ⟨s2, es, h2, a2, b2, c2⟩ := h1.at1
    rw [es]
    refine sp_goalM h2 (by show (r.length : Nat) < 9000; omega) _ _ _ _ (fun s3 h3 a3 b3 c3 => ?_)
    refine sp_goalM h3 (by show (r.length + 1 : Nat) < 9000; omega) _ _ _ _ (fun s4 h4 a4 b4 c4 => ?_)
    refine sp_goalM h4 (by show (r.length + 1 + 1 : Nat) < 9000; omega) _ _ _ _ (fun s5 h5 a5 b5 c5 => ?_)
    refine hq _ _ (pR.ok h5 (d := zv s 44 + 1) (t := zv s 43 + 1) (by omega) (by omega) (by omega) (by omega) (by omega) (by omega) (ok.mono (by omega)) (by show (N : Int) + (0 + (1 + (0 + pPots r))) ≤ _; omega) (by show 200 * (zv s0 8 - (zv s 43 + 1)) + (3 + (1 + (1 + pWgts r))) < _; omega) ?_)
    refine tyU kE trivial (by show ((r.length + 1 + 1 : Nat) : Int) + 10 ≤ _; omega) (fun _ _ _ e => e) (fun k1 D1 T1 q1 g1 g2 g3 f1 => ?_)
    rw [List.append_assoc]
    refine tyTE kE ez' ⟨⟨B, [a, k1], rfl, ez', a, k1, rfl, ha, q1⟩, t0, by show zv s 43 ≤ 12000; omega⟩ (by show ((r.length + 1 : Nat) : Int) + 1 ≤ _; omega) (fun _ _ _ e => e) (fun k2 T2 q2 f2 => ?_)
    refine tyTU kE ez' ⟨B, [k2], rfl, ez', k2, rfl, q2⟩ (by show ((r.length : Nat) : Int) + 4 ≤ _; omega) (fun _ _ _ e => e) (fun k3 D3 T3 q3 g4 g5 g6 f3 => ?_)
    exact hr _ _ _ _ ⟨eTE ez' kE q3, by omega, rfl⟩ (by omega) g5 g6 (by omega)
  refine ⟨fun c => A (by omega), fun _ => ⟨fun c => A (by omega), fun _ => ?_⟩⟩
  refine hq _ _ (pR.ok h0 (d := zv s 44) (t := zv s 43) (by omega) (by omega) (by omega) (by omega) (by omega) (by omega) ok (by show (N : Int) + pPots r ≤ _; omega) (by show 200 * (zv s0 8 - (zv s 43)) + pWgts r < _; omega) ?_)
  exact hr _ _ _ _ ⟨eTE ez' kE ha, Int.le_refl _, rfl⟩ d0 d1 ok (Int.le_refl _)
theorem st_36 {s0 s : zS} {x y z : Int} {r : List pG} {S K : List Int} {N : Nat} {M : Int} (hx : pX s0 s (36, x, y, z) r S K N M) {Q : Int → zS → Prop} (hq : ∀ e s', pR s0 M e s' → Q e s') : wr_reachE s 36 x y z Q := by
  obtain ⟨h0, t0, t1, t2, d0, d1, ok, pot, eM, hK, pre, cost, hr⟩ := hx
  have hl : (r.length : Int) + 10 ≤ 60 * (zv s 44 + 1) := cost
  have hp : (N : Int) + (0 + pPots r) ≤ 2 * zv s 43 + 4 := pot
  have hM : M = 200 * (zv s0 8 - zv s 43) + (3 + pWgts r) := eM
  have hp0 := pP0 r
  obtain ⟨o1, o2, o3⟩ := h0.outs
  clear cost pot eM
  unfold wr_reachE
  refine sp_tkM h0 t0 (by omega) (fun k hk => ?_)
  repeat' (first | (with_reducible refine ⟨fun c => absurd c (by decide), fun _ => ?_⟩) | (with_reducible refine ⟨fun _ => ?_, fun c => absurd c (by decide)⟩) | fail)
  have A : ¬ k = 0 → wr_reachE_641 Q s k (zv s 43) := fun hk0 => by
    have hk2 := hk hk0
    unfold wr_reachE_641
    refine sp_deeperN h0 d0 d1 ⟨fun e => absurd rfl e, fun _ => hq _ _ (pR.no h0 t0 t1)⟩ (fun v s1 h1 a1 b1 c1 => ⟨fun _ => ⟨⟨by omega, by omega⟩, ?_⟩, fun e => absurd e (by decide)⟩)
    obtain ⟨s2, es, h2, a2, b2, c2⟩ := h1.at1
    rw [es]
    have o4 : zv s1 37 = (K.length : Int) := by omega
    have B : ∀ n, (n = 7 ∨ n = 8) → wr_goal s2 6 n (zv s 43) (zv s1 37) (fun s29 => wr_goal s29 36 0 0 0 (fun s35 => Q 1 s35)) := fun n hn => by
      refine sp_goalM h2 (by show (r.length : Nat) < 9000; omega) _ _ _ _ (fun s3 h3 a3 b3 c3 => ?_)
      refine sp_goalM h3 (by show (r.length + 1 : Nat) < 9000; omega) _ _ _ _ (fun s4 h4 a4 b4 c4 => ?_)
      refine hq _ _ (pR.ok h4 (d := zv s 44 + 1) (t := zv s 43 + 1) (by omega) (by omega) (by omega) (by omega) (by omega) (by omega) (ok.mono (by omega)) (by show (N : Int) + (0 + (1 + pPots r)) ≤ _; omega) (by show 200 * (zv s0 8 - (zv s 43 + 1)) + (3 + (1 + pWgts r)) < _; omega) ?_)
      refine tyU kE trivial (by show ((r.length + 1 : Nat) : Int) + 10 ≤ _; omega) (fun _ _ _ e => e) (fun k1 D1 T1 q1 g1 g2 g3 f1 => ?_)
      refine tySH o4 (fE_e1 (by omega) q1) (by omega) (by omega) (by omega) (by omega) t0 (by omega) (by omega) (fun T2 f2 => ?_)
      exact hr _ _ _ _ ⟨⟨n, ⟨by omega, by omega⟩, rfl⟩, by omega, rfl⟩ (by omega) g2 g3 (by omega)
    exact ⟨fun _ => B 8 (Or.inr rfl), fun _ => B 7 (Or.inl rfl)⟩
  refine ⟨fun c => A (by omega), fun _ => ⟨fun _ => ?_, fun c => A (by omega)⟩⟩
  refine sp_goalM h0 (by show (r.length : Nat) < 9000; omega) _ _ _ _ (fun s1 h1 a1 b1 c1 => ?_)
  refine sp_goalM h1 (by show (r.length + 1 : Nat) < 9000; omega) _ _ _ _ (fun s2 h2 a2 b2 c2 => ?_)
  refine hq _ _ (pR.ok h2 (d := zv s 44) (t := zv s 43) (by omega) (by omega) (by omega) (by omega) (by omega) (by omega) ok (by show (N : Int) + (0 + (0 + pPots r)) ≤ _; omega) (by show 200 * (zv s0 8 - (zv s 43)) + (1 + (1 + pWgts r)) < _; omega) ?_)
  refine tyE kE (fun e => absurd e (by decide : ¬ (0 : Int) = 1)) (by show ((r.length + 1 : Nat) : Int) + 8 ≤ _; omega) (fun _ _ _ e => e.2 (by decide)) (fun k1 T1 q1 f1 => ?_)
  refine tyTU kE o1 ⟨⟨K, [k1], rfl, o1, k1, rfl, q1⟩, Int.le_refl 0, (by decide : (0 : Int) ≤ 12000)⟩ (by show ((r.length : Nat) : Int) + 4 ≤ _; omega) (fun _ _ _ e => ⟨e.1, e.2.1, e.2.2.1⟩) (fun k2 D2 T2 q2 g1 g2 g3 f2 => ?_)
  exact hr _ _ _ _ ⟨⟨k2, q2, rfl⟩, g1, rfl⟩ (by omega) g2 g3 (by omega)
theorem st_37 {s0 s : zS} {x y z : Int} {r : List pG} {S K : List Int} {N : Nat} {M : Int} (hx : pX s0 s (37, x, y, z) r S K N M) {Q : Int → zS → Prop} (hq : ∀ e s', pR s0 M e s' → Q e s') : wr_reachE s 37 x y z Q := by
  obtain ⟨h0, t0, t1, t2, d0, d1, ok, pot, eM, hK, pre, cost, hr⟩ := hx
  have hl : (r.length : Int) + 4 ≤ 60 * (zv s 44 + 1) := cost
  have hp : (N : Int) + ((if x = 1 then 1 else 0) + pPots r) ≤ 2 * zv s 43 + 4 := pot
  have hM : M = 200 * (zv s0 8 - zv s 43) + (1 + pWgts r) := eM
  have hp0 := pP0 r
  obtain ⟨o1, o2, o3⟩ := h0.outs
  clear cost pot eM
  unfold wr_reachE
  refine sp_tkM h0 t0 (by omega) (fun k hk => ?_)
  repeat' (first | (with_reducible refine ⟨fun c => absurd c (by decide), fun _ => ?_⟩) | (with_reducible refine ⟨fun _ => ?_, fun c => absurd c (by decide)⟩) | fail)
  obtain ⟨⟨B, A, rfl, ez, a, rfl, ha⟩, tk1, tk2⟩ := pre
  have ez' : z = (B.length : Int) := ez
  have tk1' : 0 ≤ y := tk1
  have tk2' : y ≤ 12000 := tk2
  unfold wr_calls
  refine ⟨fun c => ?_, fun c => ?_⟩
  · rw [if_neg c] at hp
    refine sp_tkM h0 t0 (by omega) (fun k' hk' => ⟨fun c2 => ?_, fun _ => ⟨Or.inr rfl, ?_⟩⟩)
    · have hk2 := hk' (by omega)
      refine sp_deeperN h0 d0 d1 ⟨fun e => absurd rfl e, fun _ => ⟨Or.inl rfl, hq _ _ (pR.no h0 t0 t1)⟩⟩ (fun v s1 h1 a1 b1 c1 => ⟨fun _ => ⟨⟨by omega, by omega⟩, ?_⟩, fun e => absurd e (by decide)⟩)
      obtain ⟨s2, es, h2, a2, b2, c2'⟩ := h1.at1
      rw [es]
      refine sp_takeN h2 (by omega) (by omega) (by decide) ⟨fun _ => ?_, fun e => absurd rfl e⟩ (fun v1 v2 s3 h3 a3 b3 c3 => ⟨fun e => absurd e (by decide), fun _ => ?_⟩)
      · refine sp_goalM h2 (by show (r.length : Nat) < 9000; omega) _ _ _ _ (fun s3 h3 a3 b3 c3 => ?_)
        refine sp_goalM h3 (by show (r.length + 1 : Nat) < 9000; omega) _ _ _ _ (fun s4 h4 a4 b4 c4 => ?_)
        refine ⟨Or.inr rfl, ?_⟩
        refine hq _ _ (pR.ok h4 (d := zv s 44 + 1) (t := zv s 43 + 1) (by omega) (by omega) (by omega) (by omega) (by omega) (by omega) (ok.mono (by omega)) (by show (N : Int) + (0 + (0 + pPots r)) ≤ _; omega) (by show 200 * (zv s0 8 - (zv s 43 + 1)) + (22 + (1 + pWgts r)) < _; omega) ?_)
        refine tyE kE trivial (by show ((r.length + 1 : Nat) : Int) + 30 ≤ _; omega) (fun _ _ _ e => e) (fun k1 T1 q1 f1 => ?_)
        rw [List.append_assoc]
        refine tyTU kE ez' ⟨⟨B, [a, k1], rfl, ez', by simp, fun c hc => ?_⟩, (by decide : (0 : Int) ≤ 1), (by decide : (1 : Int) ≤ 20), t0, by show zv s 43 ≤ 12000; omega⟩ (by show ((r.length : Nat) : Int) + 32 ≤ _; omega) (fun _ _ _ e => e) (fun k2 D2 T2 q2 g1 g2 g3 f2 => ?_)
        · rcases List.mem_cons.mp hc with rfl | hc
          · exact ha
          · rw [List.mem_singleton.mp hc]; exact q1
        · exact hr _ _ _ _ ⟨eTE ez' kE q2, by omega, rfl, fun e => absurd e c⟩ (by omega) g2 g3 (by omega)
      · refine sp_shutM h3 (by omega) ez' (fE_ca (by simp) (fun c hc => by rw [List.mem_singleton.mp hc]; exact ha)) (by decide) (by decide) (by decide) (by decide) t0 (by omega) (fun s4 h4 a4 b4 _ => ?_)
        refine sp_goalM h4 (by omega) _ _ _ _ (fun s5 h5 a5 b5 c5 => ⟨Or.inr rfl, ?_⟩)
        refine hq _ _ (pR.ok h5 (d := zv s 44 + 1) (t := zv s 43 + 2) (by omega) (by omega) (by omega) (by omega) (by omega) (by omega) (ok.mono (by omega)) (by show (((N + 1 : Nat) : Int) : Int) + (0 + pPots r) ≤ _; omega) (by show 200 * (zv s0 8 - (zv s 43 + 2)) + (1 + pWgts r) < _; omega) ?_)
        refine tyTU kE ez' ⟨⟨B, [6], rfl, ez', 6, rfl, ⟨by decide, by decide⟩⟩, Int.le_refl 0, (by decide : (0 : Int) ≤ 12000)⟩ (by show ((r.length : Nat) : Int) + 4 ≤ _; omega) (fun _ _ _ e => ⟨e.1, e.2.1, e.2.2.1⟩) (fun k2 D2 T2 q2 g1 g2 g3 f2 => ?_)
        exact hr _ _ _ _ ⟨eTE ez' kE q2, by omega, rfl, fun e => absurd e c⟩ (by omega) g2 g3 (by omega)
    · refine hq _ _ (pR.ok h0 (d := zv s 44) (t := zv s 43) (by omega) (by omega) (by omega) (by omega) (by omega) (by omega) ok (by show (N : Int) + pPots r ≤ _; omega) (by show 200 * (zv s0 8 - (zv s 43)) + pWgts r < _; omega) ?_)
      exact hr _ _ _ _ ⟨eTE ez' kE ha, Int.le_refl _, rfl, fun _ => rfl⟩ d0 d1 ok (Int.le_refl _)
  · rw [if_pos c] at hp
    refine ⟨tk1, by omega, ?_⟩
    refine sp_shutM h0 (by omega) ez' (fE_e1 (Or.inr (Or.inr (Or.inl rfl))) ha) (by decide) (by decide) (by decide) (by decide) tk1 tk2 (fun s1 h1 a1 b1 k1 => ⟨by omega, by omega, Or.inr rfl, ?_⟩)
    have h2 := h1.putn 29 N (za s 9 y.toNat) (Or.inr (Or.inr (Or.inr (Or.inr (Or.inl ⟨rfl, by omega, by omega⟩)))))
    rw [Int.toNat_natCast]
    obtain ⟨s2, es, h2, a2, b2⟩ : ∃ s2, zpa s1 29 N (za s 9 y.toNat) = s2 ∧ pM s0 s2 r S (B ++ [10]) (N + 1) ∧ zv s2 43 = zv s1 43 ∧ zv s2 44 = zv s1 44 := ⟨_, rfl, h2, rfl, rfl⟩
    rw [es]
    refine hq _ _ (pR.ok h2 (d := zv s 44) (t := zv s 43) (by omega) (by omega) (by omega) (by omega) (by omega) (by omega) ok (by show (((N + 1 : Nat) : Int) : Int) + pPots r ≤ _; omega) (by show 200 * (zv s0 8 - (zv s 43)) + pWgts r < _; omega) ?_)
    exact hr _ _ _ _ ⟨eTE ez' kE (⟨by decide, by decide⟩ : kE 10), Int.le_refl _, rfl, fun _ => rfl⟩ d0 d1 ok (Int.le_refl _)
theorem st_38 {s0 s : zS} {x y z : Int} {r : List pG} {S K : List Int} {N : Nat} {M : Int} (hx : pX s0 s (38, x, y, z) r S K N M) {Q : Int → zS → Prop} (hq : ∀ e s', pR s0 M e s' → Q e s') : wr_reachE s 38 x y z Q := by
  obtain ⟨h0, t0, t1, t2, d0, d1, ok, pot, eM, hK, pre, cost, hr⟩ := hx
  have hl : (r.length : Int) + 32 ≤ 60 * (zv s 44 + 1) := cost
  have hp : (N : Int) + (0 + pPots r) ≤ 2 * zv s 43 + 4 := pot
  have hM : M = 200 * (zv s0 8 - zv s 43) + (1 + pWgts r) := eM
  have hp0 := pP0 r
  obtain ⟨o1, o2, o3⟩ := h0.outs
  clear cost pot eM
  unfold wr_reachE
  refine sp_tkM h0 t0 (by omega) (fun k hk => ?_)
  repeat' (first | (with_reducible refine ⟨fun c => absurd c (by decide), fun _ => ?_⟩) | (with_reducible refine ⟨fun _ => ?_, fun c => absurd c (by decide)⟩) | fail)
  obtain ⟨⟨B, A, rfl, ez, hA, hE⟩, x0, x20, tk1, tk2⟩ := pre
  have ez' : z = (B.length : Int) := ez
  have x0' : 0 ≤ x := x0
  have x20' : x ≤ 20 := x20
  refine sp_takeN h0 t0 (by omega) (by decide) ⟨fun _ => ⟨fun _ => hq _ _ (pR.no h0 t0 t1), fun c => ⟨fun c2 => ⟨⟨by omega, by omega⟩, ⟨by omega, by omega⟩, ?_⟩, fun _ => hq _ _ (pR.no h0 t0 t1)⟩⟩, fun e => absurd rfl e⟩ (fun v1 v2 s3 h3 a3 b3 c3 => ⟨fun e => absurd e (by decide), fun _ => ?_⟩)
  · have hk2 := hk (by omega)
    obtain ⟨s2, es, h2, a2, b2, c2'⟩ := h0.at1
    rw [es]
    refine sp_goalM h2 (by show (r.length : Nat) < 9000; omega) _ _ _ _ (fun s3 h3 a3 b3 c3 => ?_)
    refine sp_goalM h3 (by show (r.length + 1 : Nat) < 9000; omega) _ _ _ _ (fun s4 h4 a4 b4 c4 => ?_)
    refine hq _ _ (pR.ok h4 (d := zv s 44) (t := zv s 43 + 1) (by omega) (by omega) (by omega) (by omega) (by omega) (by omega) ok (by show (N : Int) + (0 + (0 + pPots r)) ≤ _; omega) (by show 200 * (zv s0 8 - (zv s 43 + 1)) + (22 + (1 + pWgts r)) < _; omega) ?_)
    refine tyE kE trivial (by show ((r.length + 1 : Nat) : Int) + 30 ≤ _; omega) (fun _ _ _ e => e) (fun k1 T1 q1 f1 => ?_)
    rw [List.append_assoc]
    refine tyTU kE ez' ⟨⟨B, A ++ [k1], rfl, ez', by simp, fun c hc => ?_⟩, by show 0 ≤ x + 1; omega, by show x + 1 ≤ 20; omega, tk1, tk2⟩ (by show ((r.length : Nat) : Int) + 32 ≤ _; omega) (fun _ _ _ e => e) (fun k2 D2 T2 q2 g1 g2 g3 f2 => ?_)
    · rcases List.mem_append.mp hc with hc | hc
      · exact hE c hc
      · rw [List.mem_singleton.mp hc]; exact q1
    · exact hr _ _ _ _ ⟨eTE ez' kE q2, by omega, rfl⟩ (by omega) g2 g3 (by omega)
  · refine sp_shutM h3 (by omega) ez' (fE_ca hA hE) (by decide) (by decide) (by decide) (by decide) tk1 tk2 (fun s4 h4 a4 b4 _ => ?_)
    refine sp_goalM h4 (by omega) _ _ _ _ (fun s5 h5 a5 b5 c5 => ?_)
    refine hq _ _ (pR.ok h5 (d := zv s 44) (t := zv s 43 + 1) (by omega) (by omega) (by omega) (by omega) (by omega) (by omega) ok (by show (((N + 1 : Nat) : Int) : Int) + (0 + pPots r) ≤ _; omega) (by show 200 * (zv s0 8 - (zv s 43 + 1)) + (1 + pWgts r) < _; omega) ?_)
    refine tyTU kE ez' ⟨⟨B, [6], rfl, ez', 6, rfl, ⟨by decide, by decide⟩⟩, Int.le_refl 0, (by decide : (0 : Int) ≤ 12000)⟩ (by show ((r.length : Nat) : Int) + 4 ≤ _; omega) (fun _ _ _ e => ⟨e.1, e.2.1, e.2.2.1⟩) (fun k2 D2 T2 q2 g1 g2 g3 f2 => ?_)
    exact hr _ _ _ _ ⟨eTE ez' kE q2, by omega, rfl⟩ (by omega) g2 g3 (by omega)
theorem st_40 {s0 s : zS} {x y z : Int} {r : List pG} {S K : List Int} {N : Nat} {M : Int} (hx : pX s0 s (40, x, y, z) r S K N M) {Q : Int → zS → Prop} (hq : ∀ e s', pR s0 M e s' → Q e s') : wr_reachE s 40 x y z Q := by
  obtain ⟨h0, t0, t1, t2, d0, d1, ok, pot, eM, hK, pre, cost, hr⟩ := hx
  have hl : (r.length : Int) + 32 ≤ 60 * (zv s 44 + 1) := cost
  have hp : (N : Int) + (1 + pPots r) ≤ 2 * zv s 43 + 4 := pot
  have hM : M = 200 * (zv s0 8 - zv s 43) + (1 + pWgts r) := eM
  have hp0 := pP0 r
  obtain ⟨o1, o2, o3⟩ := h0.outs
  clear cost pot eM
  unfold wr_reachE
  refine sp_tkM h0 t0 (by omega) (fun k hk => ?_)
  repeat' (first | (with_reducible refine ⟨fun c => absurd c (by decide), fun _ => ?_⟩) | (with_reducible refine ⟨fun _ => ?_, fun c => absurd c (by decide)⟩) | fail)
  obtain ⟨⟨B, A, rfl, ez, hA, hE⟩, tk1, tk2⟩ := pre
  have ez' : z = (B.length : Int) := ez
  refine sp_takeN h0 t0 (by omega) (by decide) ⟨fun _ => ?_, fun e => absurd rfl e⟩ (fun v1 v2 s3 h3 a3 b3 c3 => ⟨fun e => absurd e (by decide), fun _ => ?_⟩)
  · refine sp_shutM h0 (by omega) ez' (fE_ta hA hE) (by decide) (by decide) (by decide) (by decide) tk1 tk2 (fun s4 h4 a4 b4 _ => ?_)
    refine hq _ _ (pR.ok h4 (d := zv s 44) (t := zv s 43) (by omega) (by omega) (by omega) (by omega) (by omega) (by omega) ok (by show (((N + 1 : Nat) : Int) : Int) + pPots r ≤ _; omega) (by show 200 * (zv s0 8 - (zv s 43)) + pWgts r < _; omega) ?_)
    exact hr _ _ _ _ ⟨eTE ez' kE (⟨by decide, by decide⟩ : kE 5), rfl, rfl⟩ d0 d1 ok (Int.le_refl _)
  · refine sp_goalM h3 (by show (r.length : Nat) < 9000; omega) _ _ _ _ (fun s4 h4 a4 b4 c4 => ?_)
    refine sp_goalM h4 (by show (r.length + 1 : Nat) < 9000; omega) _ _ _ _ (fun s5 h5 a5 b5 c5 => ?_)
    refine hq _ _ (pR.ok h5 (d := zv s 44) (t := zv s 43 + 1) (by omega) (by omega) (by omega) (by omega) (by omega) (by omega) ok (by show (N : Int) + (0 + (1 + pPots r)) ≤ _; omega) (by show 200 * (zv s0 8 - (zv s 43 + 1)) + (22 + (1 + pWgts r)) < _; omega) ?_)
    refine tyE kE trivial (by show ((r.length + 1 : Nat) : Int) + 30 ≤ _; omega) (fun _ _ _ e => e) (fun k1 T1 q1 f1 => ?_)
    rw [List.append_assoc]
    refine tyTE kE ez' ⟨⟨B, A ++ [k1], rfl, ez', by simp, fun c hc => ?_⟩, tk1, tk2⟩ (by show ((r.length : Nat) : Int) + 32 ≤ _; omega) (fun _ _ _ e => e) (fun k2 T2 q2 f2 => ?_)
    · rcases List.mem_append.mp hc with hc | hc
      · exact hE c hc
      · rw [List.mem_singleton.mp hc]; exact q1
    · exact hr _ _ _ _ ⟨eTE ez' kE q2, rfl, rfl⟩ d0 d1 ok (by omega)
