/-! P -/
theorem st_7 {s0 s : zS} {x y z : Int} {r : List pG} {S K : List Int} {N : Nat} {M : Int} (hx : pX s0 s (7, x, y, z) r S K N M) {Q : Int → zS → Prop} (hq : ∀ e s', pR s0 M e s' → Q e s') : wr_reachD s 7 x y z Q := by
  obtain ⟨h0, t0, t1, t2, d0, d1, ok, pot, eM, hK, pre, cost, hr⟩ := hx
  have hl : (r.length : Int) + 41 ≤ 60 * (zv s 44 + 1) := cost
  have hp : (N : Int) + (0 + pPots r) ≤ 2 * zv s 43 + 4 := pot
  have hM : M = 200 * (zv s0 8 - zv s 43) + (1 + pWgts r) := eM
  have hp0 := pP0 r
  obtain ⟨o1, o2, o3⟩ := h0.outs
  clear cost pot eM
  unfold wr_reachD
  refine sp_tkM h0 t0 (by omega) (fun k hk => ?_)
  repeat' (first | (with_reducible refine ⟨fun c => absurd c (by decide), fun _ => ?_⟩) | (with_reducible refine ⟨fun _ => ?_, fun c => absurd c (by decide)⟩) | fail)
  have no : ∀ s1 K1 N1, pM s0 s1 r S K1 N1 → 0 ≤ zv s1 43 → zv s1 43 ≤ zv s0 8 → ((0 : Int) = 0 ∨ (0 : Int) = 1) ∧ Q 0 s1 := fun s1 K1 N1 h1 a b => ⟨Or.inl rfl, hq _ _ (pR.no h1 a b)⟩
  have L246 : ¬ x = 1 → ∀ (n m : Nat) (s1 : zS), pM s0 s1 r S (K ++ List.replicate m 58) (N + m) → 1 ≤ m → (m : Int) + zv s 43 ≤ zv s1 43 → zv s1 43 ≤ zv s0 8 → zv s1 44 = zv s 44 → zv s0 8 - zv s1 43 < n → wr_reachP_246 (fun r72 s73 => (r72 = 0 ∨ r72 = 1) ∧ Q r72 s73) n s1 (zv s 43) (zv s 37) m := by
    intro hx1 n
    induction n with
    | zero => intro m s1 h1 m1 b1 b2 b3 b4; omega
    | succ n ih =>
      intro m s1 h1 m1 b1 b2 b3 b4
      unfold wr_reachP_246
      unfold wr_reachP_246B
      refine sp_takeN h1 (by omega) (by omega) (by decide) ⟨fun _ => ?_, fun e => absurd rfl e⟩ (fun v1 v2 s3 h3 a3 b3' c3 => ⟨fun e => absurd e (by decide), fun _ => ?_⟩)
      · refine sp_takeN h1 (by omega) (by omega) (by decide) ⟨fun e => absurd rfl e, fun _ => no _ _ _ h1 (by omega) b2⟩ (fun v1 v2 s3 h3 a3 b3' c3 => ⟨fun _ => ?_, fun e => absurd e (by decide)⟩)
        refine sp_goalM h3 (by show (r.length : Nat) < 9000; omega) _ _ _ _ (fun s4 h4 a4 b4 c4 => ?_)
        refine sp_goalM h4 (by show (r.length + 1 : Nat) < 9000; omega) _ _ _ _ (fun s5 h5 a5 b5 c5 => ?_)
        refine ⟨Or.inr rfl, ?_⟩
        refine hq _ _ (pR.ok h5 (d := zv s 44) (t := zv s1 43 + 1) (by omega) (by omega) (by omega) (by omega) (by omega) (by omega) ok (by show (((N + m : Nat) : Int) : Int) + (0 + (1 + pPots r)) ≤ _; omega) (by show 200 * (zv s0 8 - (zv s1 43 + 1)) + (24 + (1 + pWgts r)) < _; omega) ?_)
        refine tyI (by omega) (by omega) (by show ((r.length + 1 : Nat) : Int) + 34 ≤ _; omega) (fun l T1 l1 l2 l3 => ?_)
        rw [List.append_assoc]
        refine tySH o1 (fE_vs m1 (by omega) l2) (by decide) (by decide) (by decide) (by decide) t0 (by omega) (by omega) (fun T2 f2 => ?_)
        exact hr _ _ _ _ ⟨Or.inr ⟨hx1, rfl⟩, rfl, rfl⟩ d0 d1 ok (by omega)
      · refine sp_tkM h3 (by omega) (by omega) (fun k1 hk1 => ⟨fun c => ?_, fun _ => no _ _ _ h3 (by omega) (by omega)⟩)
        have hk2 := hk1 (by omega)
        refine ⟨by omega, by omega, ?_⟩
        refine sp_leafM h3 (by omega) (fE_lf (by decide)) (by decide) (by decide) (by decide) (fun e => absurd e (by decide)) (by omega) (by omega) (fun s4 h4 a4 b4' => ⟨⟨by omega, by omega⟩, ⟨by omega, by omega⟩, ?_⟩)
        obtain ⟨s5, es, h5, a5, b5, c5⟩ := h4.at1
        rw [es, show ((m : Int) + 1) = ((m + 1 : Nat) : Int) by omega]
        refine ih (m + 1) s5 ?_ (by omega) (by omega) (by omega) (by omega) (by omega)
        rw [List.replicate_succ', ← List.append_assoc]
        exact h5
  have L139 : ∀ (m : Nat) (s1 : zS), pM s0 s1 r S (K ++ List.replicate m 57) (N + m) → m ≤ 20 → zv s 43 + 2 ≤ zv s1 43 → (m : Int) + zv s 43 ≤ zv s1 43 → zv s1 43 ≤ zv s0 8 → zv s1 44 = zv s 44 → wr_reachP_139 (fun r72 s73 => (r72 = 0 ∨ r72 = 1) ∧ Q r72 s73) s1 (zv s 43) (zv s 37) := by
    intro m s1 h1 m1 b0 b1 b2 b3
    have hrep : ∀ y ∈ List.replicate m (57 : Int), y = 57 := fun y hy => List.eq_of_mem_replicate hy
    have hlen : (List.replicate m (57 : Int)).length ≤ 20 := by rw [List.length_replicate]; exact m1
    unfold wr_reachP_139
    refine sp_takeN h1 (by omega) (by omega) (by decide) ⟨fun e => absurd rfl e, fun _ => no _ _ _ h1 (by omega) b2⟩ (fun v1 v2 s3 h3 a3 b3' c3 => ⟨fun _ => ?_, fun e => absurd e (by decide)⟩)
    have E : ∀ v, zv s3 43 < zv s0 8 → wr_reachP_182 (fun r72 s73 => (r72 = 0 ∨ r72 = 1) ∧ Q r72 s73) s3 (zv s 43) (zv s 37) v := fun v hlt => by
      unfold wr_reachP_182
      refine ⟨⟨by omega, by omega⟩, ?_⟩
      obtain ⟨s4, es, h4, a4, b4, c4⟩ := h3.at1
      rw [es]
      refine sp_goalM h4 (by show (r.length : Nat) < 9000; omega) _ _ _ _ (fun s5 h5 a5 b5 c5 => ?_)
      refine ⟨fun _ => ?_, fun _ => ?_⟩
      · refine sp_goalM h5 (by show (r.length + 1 : Nat) < 9000; omega) _ _ _ _ (fun s6 h6 a6 b6 c6 => ?_)
        refine ⟨Or.inr rfl, ?_⟩
        refine hq _ _ (pR.ok h6 (d := zv s 44) (t := zv s1 43 + 2) (by omega) (by omega) (by omega) (by omega) (by omega) (by omega) ok (by show (((N + m : Nat) : Int) : Int) + (1 + (1 + pPots r)) ≤ _; omega) (by show 200 * (zv s0 8 - (zv s1 43 + 2)) + (27 + (1 + pWgts r)) < _; omega) ?_)
        refine tyE kC trivial (by show ((r.length + 1 : Nat) : Int) + 38 ≤ _; omega) (fun _ _ _ e => e) (fun k1 T1 q1 f1 => ?_)
        rw [List.append_assoc]
        refine tySH o1 (fE_ro hlen hrep (Or.inr q1)) (by decide) (by decide) (by decide) (by decide) t0 (by omega) (by omega) (fun T2 f2 => ?_)
        exact hr _ _ _ _ ⟨Or.inl rfl, rfl, rfl⟩ d0 d1 ok (by omega)
      · refine sp_goalM h5 (by show (r.length + 1 : Nat) < 9000; omega) _ _ _ _ (fun s6 h6 a6 b6 c6 => ?_)
        refine ⟨Or.inr rfl, ?_⟩
        refine hq _ _ (pR.ok h6 (d := zv s 44) (t := zv s1 43 + 2) (by omega) (by omega) (by omega) (by omega) (by omega) (by omega) ok (by show (((N + m : Nat) : Int) : Int) + (0 + (1 + pPots r)) ≤ _; omega) (by show 200 * (zv s0 8 - (zv s1 43 + 2)) + (22 + (1 + pWgts r)) < _; omega) ?_)
        refine tyE kE trivial (by show ((r.length + 1 : Nat) : Int) + 30 ≤ _; omega) (fun _ _ _ e => e) (fun k1 T1 q1 f1 => ?_)
        rw [List.append_assoc]
        refine tySH o1 (fE_ro hlen hrep (Or.inl q1)) (by decide) (by decide) (by decide) (by decide) t0 (by omega) (by omega) (fun T2 f2 => ?_)
        exact hr _ _ _ _ ⟨Or.inl rfl, rfl, rfl⟩ d0 d1 ok (by omega)
    refine sp_tkM h3 (by omega) (by omega) (fun k1 hk1 => ⟨fun _ => sp_tkM h3 (by omega) (by omega) (fun k2 hk2 => ⟨fun c => E 0 (hk2 (by omega)).1, fun _ => no _ _ _ h3 (by omega) (by omega)⟩), fun c => E 1 (hk1 (by omega)).1⟩)
  have L42 : ∀ (n m : Nat) (s1 : zS), pM s0 s1 r S (K ++ List.replicate m 57) (N + m) → m ≤ 20 → zv s 43 + 2 ≤ zv s1 43 → (m : Int) + zv s 43 ≤ zv s1 43 → zv s1 43 ≤ zv s0 8 → zv s1 44 = zv s 44 → zv s0 8 - zv s1 43 < n → wr_reachP_42 (fun r72 s73 => (r72 = 0 ∨ r72 = 1) ∧ Q r72 s73) n s1 (zv s 43) (zv s 37) m := by
    intro n
    induction n with
    | zero => intro m s1 h1 m1 b0 b1 b2 b3 b4; omega
    | succ n ih =>
      intro m s1 h1 m1 b0 b1 b2 b3 b4
      have l139 := L139 m s1 h1 m1 b0 b1 b2 b3
      unfold wr_reachP_42
      unfold wr_reachP_42B
      refine sp_tkM h1 (by omega) (by omega) (fun k1 hk1 => ⟨fun _ => l139, fun c => ⟨fun _ => l139, fun c2 => ?_⟩⟩)
      have hk2 := hk1 (by omega)
      refine ⟨by omega, by omega, ?_⟩
      refine sp_leafM h1 (by omega) (fE_lf (by decide)) (by decide) (by decide) (by decide) (fun e => absurd e (by decide)) (by omega) (by omega) (fun s4 h4 a4 b4' => ⟨⟨by omega, by omega⟩, ?_⟩)
      obtain ⟨s5, es, h5, a5, b5, c5⟩ := h4.at1
      have h5' : pM s0 s5 r S (K ++ List.replicate (m + 1) 57) (N + (m + 1)) := by
        rw [List.replicate_succ', ← List.append_assoc]
        exact h5
      rw [es, show ((m : Int) + 1) = ((m + 1 : Nat) : Int) by omega]
      refine sp_tkM h5' (by omega) (by omega) (fun k3 hk3 => ⟨fun _ => ?_, fun _ => ⟨⟨by omega, by omega⟩, ih (m + 1) s5 h5' (by omega) (by omega) (by omega) (by omega) (by omega) (by omega)⟩⟩)
      refine sp_tkM h5' (by omega) (by omega) (fun k4 hk4 => ⟨fun _ => no _ _ _ h5' (by omega) (by omega), fun c4 => ⟨⟨by omega, by omega⟩, fun _ => ⟨⟨by omega, by omega⟩, ?_⟩, fun _ => no _ _ _ h5' (by omega) (by omega)⟩⟩)
      have hk5 := hk4 (by omega)
      obtain ⟨s6, es6, h6, a6, b6, c6⟩ := h5'.at1
      rw [es6]
      refine sp_tkM h6 (by omega) (by omega) (fun k7 hk7 => ⟨fun _ => ih (m + 1) s6 h6 (by omega) (by omega) (by omega) (by omega) (by omega) (by omega), fun _ => no _ _ _ h6 (by omega) (by omega)⟩)
  unfold wr_reachP
  refine sp_takeN h0 t0 (by omega) (by decide) ⟨fun e => absurd rfl e, fun _ => no _ _ _ h0 t0 t1⟩ (fun v1 v2 s3 h3 a3 b3 c3 => ⟨fun _ => ?_, fun e => absurd e (by decide)⟩)
  refine sp_tkM h3 (by omega) (by omega) (fun k1 hk1 => ⟨fun _ => ⟨fun hx1 => ⟨t0, by omega, ?_⟩, fun _ => no _ _ _ h3 (by omega) (by omega)⟩, fun c => ⟨⟨by omega, by omega⟩, ?_⟩⟩)
  · refine sp_leafM h3 (by omega) (fE_lf (by decide)) (by decide) (by decide) (by decide) (fun e => absurd e (by decide)) (by omega) (by omega) (fun s4 h4 a4 b4' => ⟨2700, ?_⟩)
    exact L246 hx1 2700 1 s4 h4 (by omega) (by omega) (by omega) (by omega) (by omega)
  · have hk2 := hk1 (by omega)
    obtain ⟨s5, es, h5, a5, b5, c5⟩ := h3.at1
    rw [es]
    refine ⟨2700, L42 2700 0 s5 ?_ (by omega) (by omega) (by omega) (by omega) (by omega) (by omega)⟩
    rw [List.replicate_zero, List.append_nil]
    exact h5
