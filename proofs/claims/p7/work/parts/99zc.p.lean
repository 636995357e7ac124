/-! THE STEPS OF COMMANDS -/
theorem fE_cc : fSh 21 [6] := by
  refine ⟨fun h => absurd h (by decide), fun h => absurd h (by decide), fun h => absurd h (by decide), fun h => absurd h (by decide), fun h => absurd h (by decide), fun h => absurd h (by decide), fun h => absurd h (by decide), fun h => absurd h (by decide), fun h => absurd h (by decide), ?_, fun h => absurd h (by decide), fun h => absurd h (by decide), fun h => absurd h (by decide), fun h => absurd h (by decide), fun h => absurd h (by decide), fun h => absurd h (by decide), fun h => absurd h (by decide), fun h => absurd h (by decide), fun h => absurd h (by decide), fun h => absurd h (by decide), fun h => absurd h (by decide), fun h => absurd h (by decide), fun h => absurd h (by decide)⟩
  exact fun _ => rfl
theorem fE_ec {k a b : Int} (hk : k = 22 ∨ k = 23 ∨ k = 25 ∨ k = 26) (ha : kE a) (hb : kC b) : fSh k [a, b] := by
  rcases hk with rfl | rfl | rfl | rfl
  all_goals
    refine ⟨fun h => absurd h (by decide), fun h => absurd h (by decide), fun h => absurd h (by decide), fun h => absurd h (by decide), fun h => absurd h (by decide), fun h => absurd h (by decide), fun h => absurd h (by decide), fun h => absurd h (by decide), fun h => absurd h (by decide), fun h => absurd h (by decide), ?_, fun h => absurd h (by decide), fun h => absurd h (by decide), fun h => absurd h (by decide), fun h => absurd h (by decide), fun h => absurd h (by decide), fun h => absurd h (by decide), fun h => absurd h (by decide), fun h => absurd h (by decide), fun h => absurd h (by decide), fun h => absurd h (by decide), fun h => absurd h (by decide), fun h => absurd h (by decide)⟩
    exact fun _ => ⟨a, b, rfl, ha, hb⟩
theorem fE_te {a b c : Int} (ha : kE a) (hb : kC b) (hc : kC c) : fSh 24 [a, b, c] := by
  refine ⟨fun h => absurd h (by decide), fun h => absurd h (by decide), fun h => absurd h (by decide), fun h => absurd h (by decide), fun h => absurd h (by decide), fun h => absurd h (by decide), fun h => absurd h (by decide), fun h => absurd h (by decide), fun h => absurd h (by decide), fun h => absurd h (by decide), fun h => absurd h (by decide), ?_, fun h => absurd h (by decide), fun h => absurd h (by decide), fun h => absurd h (by decide), fun h => absurd h (by decide), fun h => absurd h (by decide), fun h => absurd h (by decide), fun h => absurd h (by decide), fun h => absurd h (by decide), fun h => absurd h (by decide), fun h => absurd h (by decide), fun h => absurd h (by decide)⟩
  exact fun _ => ⟨a, b, c, rfl, ha, hb, hc⟩
theorem fE_fo {a b c : Int} {r : List Int} (ha : kE a) (hb : kE b) (hc : kC c) (hr : r = [] ∨ ∃ e, r = [e] ∧ kE e) : fSh 27 (58 :: a :: b :: (r ++ [c])) := by
  refine ⟨fun h => absurd h (by decide), fun h => absurd h (by decide), fun h => absurd h (by decide), fun h => absurd h (by decide), fun h => absurd h (by decide), fun h => absurd h (by decide), fun h => absurd h (by decide), fun h => absurd h (by decide), fun h => absurd h (by decide), fun h => absurd h (by decide), fun h => absurd h (by decide), fun h => absurd h (by decide), ?_, fun h => absurd h (by decide), fun h => absurd h (by decide), fun h => absurd h (by decide), fun h => absurd h (by decide), fun h => absurd h (by decide), fun h => absurd h (by decide), fun h => absurd h (by decide), fun h => absurd h (by decide), fun h => absurd h (by decide), fun h => absurd h (by decide)⟩
  exact fun _ => ⟨a, b, r, c, rfl, ha, hb, hc, hr⟩
theorem fE_sw {e : Int} {r : List Int} (he : kE e) (h1 : ¬ r = []) (h2 : ∀ c ∈ r, c = 41) : fSh 28 (e :: r) := by
  refine ⟨fun h => absurd h (by decide), fun h => absurd h (by decide), fun h => absurd h (by decide), fun h => absurd h (by decide), fun h => absurd h (by decide), fun h => absurd h (by decide), fun h => absurd h (by decide), fun h => absurd h (by decide), fun h => absurd h (by decide), fun h => absurd h (by decide), fun h => absurd h (by decide), fun h => absurd h (by decide), fun h => absurd h (by decide), ?_, fun h => absurd h (by decide), fun h => absurd h (by decide), fun h => absurd h (by decide), fun h => absurd h (by decide), fun h => absurd h (by decide), fun h => absurd h (by decide), fun h => absurd h (by decide), fun h => absurd h (by decide), fun h => absurd h (by decide)⟩
  exact fun _ => ⟨e, r, rfl, he, h1, h2⟩
theorem fE_bl {l : List Int} (h : ∀ c ∈ l, c = 41 ∨ kD c) : fSh 36 l := by
  refine ⟨fun h => absurd h (by decide), fun h => absurd h (by decide), fun h => absurd h (by decide), fun h => absurd h (by decide), fun h => absurd h (by decide), fun h => absurd h (by decide), fun h => absurd h (by decide), fun h => absurd h (by decide), fun h => absurd h (by decide), fun h => absurd h (by decide), fun h => absurd h (by decide), fun h => absurd h (by decide), fun h => absurd h (by decide), fun h => absurd h (by decide), ?_, fun h => absurd h (by decide), fun h => absurd h (by decide), fun h => absurd h (by decide), fun h => absurd h (by decide), fun h => absurd h (by decide), fun h => absurd h (by decide), fun h => absurd h (by decide), fun h => absurd h (by decide)⟩
  exact fun _ => h
theorem fE_rp {a : Int} (h : kC a) : fSh 38 [a] := by
  refine ⟨fun h => absurd h (by decide), fun h => absurd h (by decide), fun h => absurd h (by decide), fun h => absurd h (by decide), fun h => absurd h (by decide), fun h => absurd h (by decide), fun h => absurd h (by decide), fun h => absurd h (by decide), fun h => absurd h (by decide), fun h => absurd h (by decide), fun h => absurd h (by decide), fun h => absurd h (by decide), fun h => absurd h (by decide), fun h => absurd h (by decide), fun h => absurd h (by decide), ?_, fun h => absurd h (by decide), fun h => absurd h (by decide), fun h => absurd h (by decide), fun h => absurd h (by decide), fun h => absurd h (by decide), fun h => absurd h (by decide), fun h => absurd h (by decide)⟩
  exact fun _ => ⟨a, rfl, h⟩
theorem fE_ce {k a b : Int} (hk : k = 39 ∨ k = 40) (ha : kC a) (hb : kE b) : fSh k [a, b] := by
  rcases hk with rfl | rfl
  all_goals
    refine ⟨fun h => absurd h (by decide), fun h => absurd h (by decide), fun h => absurd h (by decide), fun h => absurd h (by decide), fun h => absurd h (by decide), fun h => absurd h (by decide), fun h => absurd h (by decide), fun h => absurd h (by decide), fun h => absurd h (by decide), fun h => absurd h (by decide), fun h => absurd h (by decide), fun h => absurd h (by decide), fun h => absurd h (by decide), fun h => absurd h (by decide), fun h => absurd h (by decide), fun h => absurd h (by decide), ?_, fun h => absurd h (by decide), fun h => absurd h (by decide), fun h => absurd h (by decide), fun h => absurd h (by decide), fun h => absurd h (by decide), fun h => absurd h (by decide)⟩
    exact fun _ => ⟨a, b, rfl, ha, hb⟩
theorem fE_pa {r : List Int} {c : Int} (hc : kC c) (h : ∀ x ∈ r, x = 42 ∨ x = 43 ∨ x = 44) : fSh 41 (r ++ [c]) := by
  refine ⟨fun h => absurd h (by decide), fun h => absurd h (by decide), fun h => absurd h (by decide), fun h => absurd h (by decide), fun h => absurd h (by decide), fun h => absurd h (by decide), fun h => absurd h (by decide), fun h => absurd h (by decide), fun h => absurd h (by decide), fun h => absurd h (by decide), fun h => absurd h (by decide), fun h => absurd h (by decide), fun h => absurd h (by decide), fun h => absurd h (by decide), fun h => absurd h (by decide), fun h => absurd h (by decide), fun h => absurd h (by decide), ?_, fun h => absurd h (by decide), fun h => absurd h (by decide), fun h => absurd h (by decide), fun h => absurd h (by decide), fun h => absurd h (by decide)⟩
  exact fun _ => ⟨r, c, rfl, hc, h⟩
theorem zd_m (m j : Nat) (h : j < 8192) (hm : m ≤ 100000) : zd (8192 * (m : Int) + j) 8192 = m := by
  have h1 : zR (8192 * (m : Int) + j) := ⟨by omega, by omega⟩
  have h2 : zR 8192 := ⟨by decide, by decide⟩
  have e : (8192 * (m : Int) + j).tdiv 8192 = m := by
    rw [Int.tdiv_eq_ediv_of_nonneg (by omega)]
    omega
  unfold zd
  rw [Int32.toInt_div, zI_t h1, zI_t h2, e]
  exact Int.bmod_eq_of_le (by omega) (by omega)
theorem st_12 {s0 s : zS} {x y z : Int} {r : List pG} {S K : List Int} {N : Nat} {M : Int} (hx : pX s0 s (12, x, y, z) r S K N M) {Q : Int → zS → Prop} (hq : ∀ e s', pR s0 M e s' → Q e s') : wr_reachC s 12 x y z Q := by
  obtain ⟨h0, t0, t1, t2, d0, d1, ok, pot, eM, hK, pre, cost, hr⟩ := hx
  have hl : (r.length : Int) + 2 ≤ 60 * (zv s 44 + 1) := cost
  have hp : (N : Int) + (0 + pPots r) ≤ 2 * zv s 43 + 4 := pot
  have hM : M = 200 * (zv s0 8 - zv s 43) + (1 + pWgts r) := eM
  have hp0 := pP0 r
  obtain ⟨o1, o2, o3⟩ := h0.outs
  clear cost pot eM
  unfold wr_reachC
  refine sp_tkM h0 t0 (by omega) (fun k hk => ?_)
  repeat' (first | (with_reducible refine ⟨fun c => absurd c (by decide), fun _ => ?_⟩) | (with_reducible refine ⟨fun _ => ?_, fun c => absurd c (by decide)⟩) | fail)
  obtain ⟨⟨B, A, rfl, ez, a, rfl, ha⟩, x0, x6, xo⟩ := pre
  have ez' : z = (B.length : Int) := ez
  have x0' : 0 ≤ x := x0
  have x6' : x ≤ 60 := x6
  have A : ¬ k = 0 → wr_reachC_82 Q s x z k (zv s 43) := fun hk0 => by
    have hk2 := hk hk0
    unfold wr_reachC_82
    refine sp_deeperN h0 d0 d1 ⟨fun e => absurd rfl e, fun _ => hq _ _ (pR.no h0 t0 t1)⟩ (fun v s1 h1 a1 b1 c1 => ⟨fun _ => ⟨⟨by omega, by omega⟩, ?_⟩, fun e => absurd e (by decide)⟩)
    obtain ⟨s2, es, h2, a2, b2, c2⟩ := h1.at1
    rw [es]
    refine sp_goalM h2 (by show (r.length : Nat) < 9000; omega) _ _ _ _ (fun s3 h3 a3 b3 c3 => ?_)
    have sh : ∀ n, (n = 39 ∨ n = 40) → wr_goal s3 6 n (zv s 43) z (fun s24 => wr_goal s24 28 0 0 0 (fun s30 => Q 1 s30)) := fun n hn => by
      refine sp_goalM h3 (by show (r.length + 1 : Nat) < 9000; omega) _ _ _ _ (fun s4 h4 a4 b4 c4 => ?_)
      refine sp_goalM h4 (by show (r.length + 1 + 1 : Nat) < 9000; omega) _ _ _ _ (fun s5 h5 a5 b5 c5 => ?_)
      refine hq _ _ (pR.ok h5 (d := zv s 44 + 1) (t := zv s 43 + 1) (by omega) (by omega) (by omega) (by omega) (by omega) (by omega) (ok.mono (by omega)) (by show (N : Int) + (0 + (1 + (0 + pPots r))) ≤ _; omega) (by show 200 * (zv s0 8 - (zv s 43 + 1)) + (22 + (1 + (1 + pWgts r))) < _; omega) ?_)
      refine tyE kE trivial (by show ((r.length + 1 + 1 : Nat) : Int) + 30 ≤ _; omega) (fun _ _ _ e => e) (fun k1 T1 q1 f1 => ?_)
      rw [List.append_assoc]
      refine tySH ez' (fE_ce hn ha q1) (by omega) (by omega) (by omega) (by omega) t0 (by omega) (by show ((r.length + 1 : Nat) : Int) + 1 ≤ _; omega) (fun T2 f2 => ?_)
      refine ⟨⟨⟨B, [n], rfl, ez', n, rfl, ⟨by omega, by omega⟩⟩, x0, x6, xo⟩, (by show ((r.length : Nat) : Int) + 2 ≤ _; omega), fun K2 D2 S2 T2 e2 g1 g2 g3 g4 => ?_⟩
      obtain ⟨e2, rfl, rfl⟩ := e2
      obtain ⟨k2, q2, rfl⟩ := e2 B [n] rfl ez'
      exact hr _ _ _ _ ⟨eTE ez' kC q2, rfl, rfl⟩ x0 x6 xo (by omega)
    refine ⟨fun _ => ⟨fun _ => sh 40 (Or.inr rfl), fun _ => sh 39 (Or.inl rfl)⟩, fun _ => ?_⟩
    refine sp_shutM h3 (by omega) ez' (fE_rp ha) (by decide) (by decide) (by decide) (by decide) t0 (by omega) (fun s4 h4 a4 b4 _ => ?_)
    refine hq _ _ (pR.ok h4 (d := zv s 44 + 1) (t := zv s 43 + 1) (by omega) (by omega) (by omega) (by omega) (by omega) (by omega) (ok.mono (by omega)) (by show (((N + 1 : Nat) : Int) : Int) + (0 + pPots r) ≤ _; omega) (by show 200 * (zv s0 8 - (zv s 43 + 1)) + (1 + pWgts r) < _; omega) ?_)
    refine ⟨⟨⟨B, [38], rfl, ez', 38, rfl, ⟨by decide, by decide⟩⟩, x0, x6, xo⟩, (by show ((r.length : Nat) : Int) + 2 ≤ _; omega), fun K2 D2 S2 T2 e2 g1 g2 g3 g4 => ?_⟩
    obtain ⟨e2, rfl, rfl⟩ := e2
    obtain ⟨k2, q2, rfl⟩ := e2 B [38] rfl ez'
    exact hr _ _ _ _ ⟨eTE ez' kC q2, rfl, rfl⟩ x0 x6 xo (by omega)
  refine ⟨fun c => A (by omega), fun _ => ⟨fun c => A (by omega), fun _ => ⟨fun c => A (by omega), fun _ => ?_⟩⟩⟩
  obtain ⟨s1, es, h1, a1, b1, c1⟩ := h0.dp x
  rw [es]
  refine hq _ _ (pR.ok h1 (d := x) (t := zv s 43) (by omega) (by omega) (by omega) (by omega) (by omega) (by omega) xo (by show (N : Int) + pPots r ≤ _; omega) (by show 200 * (zv s0 8 - (zv s 43)) + pWgts r < _; omega) ?_)
  exact hr _ _ _ _ ⟨eTE ez' kC ha, rfl, rfl⟩ x0 x6 xo (Int.le_refl _)
theorem st_41 {s0 s : zS} {x y z : Int} {r : List pG} {S K : List Int} {N : Nat} {M : Int} (hx : pX s0 s (41, x, y, z) r S K N M) {Q : Int → zS → Prop} (hq : ∀ e s', pR s0 M e s' → Q e s') : wr_reachC s 41 x y z Q := by
  obtain ⟨h0, t0, t1, t2, d0, d1, ok, pot, eM, hK, pre, cost, hr⟩ := hx
  have hl : (r.length : Int) + 31 ≤ 60 * (zv s 44 + 1) := cost
  have hp : (N : Int) + (0 + pPots r) ≤ 2 * zv s 43 + 4 := pot
  have hM : M = 200 * (zv s0 8 - zv s 43) + (1 + pWgts r) := eM
  have hp0 := pP0 r
  obtain ⟨o1, o2, o3⟩ := h0.outs
  clear cost pot eM
  unfold wr_reachC
  refine sp_tkM h0 t0 (by omega) (fun k hk => ?_)
  repeat' (first | (with_reducible refine ⟨fun c => absurd c (by decide), fun _ => ?_⟩) | (with_reducible refine ⟨fun _ => ?_, fun c => absurd c (by decide)⟩) | fail)
  refine sp_takeN h0 t0 (by omega) (by decide) ⟨fun e => absurd rfl e, fun _ => ?_⟩ (fun v1 v2 s3 h3 a3 b3 c3 => ⟨fun _ => ?_, fun e => absurd e (by decide)⟩)
  · refine hq _ _ (pR.ok h0 (d := zv s 44) (t := zv s 43) (by omega) (by omega) (by omega) (by omega) (by omega) (by omega) ok (by show (N : Int) + pPots r ≤ _; omega) (by show 200 * (zv s0 8 - (zv s 43)) + pWgts r < _; omega) ?_)
    exact hr _ _ _ _ ⟨Or.inl rfl, rfl, rfl⟩ d0 d1 ok (Int.le_refl _)
  · refine sp_goalM h3 (by show (r.length : Nat) < 9000; omega) _ _ _ _ (fun s4 h4 a4 b4 c4 => ?_)
    refine hq _ _ (pR.ok h4 (d := zv s 44) (t := zv s 43 + 1) (by omega) (by omega) (by omega) (by omega) (by omega) (by omega) ok (by show (N : Int) + (0 + pPots r) ≤ _; omega) (by show 200 * (zv s0 8 - (zv s 43 + 1)) + (22 + pWgts r) < _; omega) ?_)
    refine tyE kE trivial (by show ((r.length : Nat) : Int) + 30 ≤ _; omega) (fun _ _ _ e => e) (fun k1 T1 q1 f1 => ?_)
    exact hr _ _ _ _ ⟨Or.inr ⟨k1, q1, rfl⟩, rfl, rfl⟩ d0 d1 ok (by omega)
theorem st_18 {s0 s : zS} {x y z : Int} {r : List pG} {S K : List Int} {N : Nat} {M : Int} (hx : pX s0 s (18, x, y, z) r S K N M) {Q : Int → zS → Prop} (hq : ∀ e s', pR s0 M e s' → Q e s') : wr_reachC s 18 x y z Q := by
  obtain ⟨h0, t0, t1, t2, d0, d1, ok, pot, eM, hK, pre, cost, hr⟩ := hx
  have hl : (r.length : Int) + 46 ≤ 60 * (zv s 44 + 1) := cost
  have hp : (N : Int) + (1 + pPots r) ≤ 2 * zv s 43 + 4 := pot
  have hM : M = 200 * (zv s0 8 - zv s 43) + (3 + pWgts r) := eM
  have hp0 := pP0 r
  obtain ⟨o1, o2, o3⟩ := h0.outs
  clear cost pot eM
  unfold wr_reachC
  refine sp_tkM h0 t0 (by omega) (fun k hk => ?_)
  repeat' (first | (with_reducible refine ⟨fun c => absurd c (by decide), fun _ => ?_⟩) | (with_reducible refine ⟨fun _ => ?_, fun c => absurd c (by decide)⟩) | fail)
  obtain ⟨⟨B, A, rfl, ez, hA⟩, hS, tk1, tk2⟩ := pre
  have ez' : z = (B.length : Int) := ez
  cases S with
  | nil => exact absurd rfl hS
  | cons dd S =>
    obtain ⟨k1, k2, k3⟩ := ok.pop
    have k4 := ok.1
    have ends : ∀ T1, zv s 43 ≤ T1 → pTy r (B ++ [36]) dd S T1 := fun T1 h => hr _ _ _ _ ⟨eTK ez', fun d0 S0 e => by
      obtain ⟨rfl, rfl⟩ := List.cons.inj e
      exact ⟨rfl, rfl⟩⟩ k3 k2 k1 h
    refine sp_goalM h0 (by show (r.length : Nat) < 9000; omega) _ _ _ _ (fun s1 h1 a1 b1 c1 => ?_)
    refine sp_goalM h1 (by show (r.length + 1 : Nat) < 9000; omega) _ _ _ _ (fun s2 h2 a2 b2 c2 => ?_)
    refine hq _ _ (pR.ok h2 (d := zv s 44) (t := zv s 43) (by omega) (by omega) (by omega) (by omega) (by omega) (by omega) ok (by show (N : Int) + (0 + (1 + pPots r)) ≤ _; omega) (by show 200 * (zv s0 8 - (zv s 43)) + (1 + (1 + pWgts r)) < _; omega) ?_)
    refine tyE kD trivial (by show ((r.length + 1 : Nat) : Int) + 44 ≤ _; omega) (fun _ _ _ e => e) (fun k1 T1 q1 f1 => ?_)
    rw [List.append_assoc]
    refine tyS 36 ez' ⟨⟨B, A ++ [k1], rfl, ez', (fun c hc => (List.mem_append.mp hc).elim (hA c) (fun g => Or.inr (by rw [List.mem_singleton.mp g]; exact q1)))⟩, by simp, tk1, tk2⟩ (by show ((r.length : Nat) : Int) + 46 ≤ _; omega) (fun _ _ _ e => e) (fun T2 f2 => ends _ (by omega))

theorem st_19 {s0 s : zS} {x y z : Int} {r : List pG} {S K : List Int} {N : Nat} {M : Int} (hx : pX s0 s (19, x, y, z) r S K N M) {Q : Int → zS → Prop} (hq : ∀ e s', pR s0 M e s' → Q e s') : wr_reachC s 19 x y z Q := by
  obtain ⟨h0, t0, t1, t2, d0, d1, ok, pot, eM, hK, pre, cost, hr⟩ := hx
  have hl : (r.length : Int) + 46 ≤ 60 * (zv s 44 + 1) := cost
  have hp : (N : Int) + (1 + pPots r) ≤ 2 * zv s 43 + 4 := pot
  have hM : M = 200 * (zv s0 8 - zv s 43) + (1 + pWgts r) := eM
  have hp0 := pP0 r
  obtain ⟨o1, o2, o3⟩ := h0.outs
  clear cost pot eM
  unfold wr_reachC
  refine sp_tkM h0 t0 (by omega) (fun k hk => ?_)
  repeat' (first | (with_reducible refine ⟨fun c => absurd c (by decide), fun _ => ?_⟩) | (with_reducible refine ⟨fun _ => ?_, fun c => absurd c (by decide)⟩) | fail)
  obtain ⟨⟨B, A, rfl, ez, hA⟩, hS, tk1, tk2⟩ := pre
  have ez' : z = (B.length : Int) := ez
  cases S with
  | nil => exact absurd rfl hS
  | cons dd S =>
    obtain ⟨k1, k2, k3⟩ := ok.pop
    have k4 := ok.1
    have ends : ∀ T1, zv s 43 ≤ T1 → pTy r (B ++ [36]) dd S T1 := fun T1 h => hr _ _ _ _ ⟨eTK ez', fun d0 S0 e => by
      obtain ⟨rfl, rfl⟩ := List.cons.inj e
      exact ⟨rfl, rfl⟩⟩ k3 k2 k1 h
    refine sp_takeN h0 t0 (by omega) (by decide) ⟨fun _ => ?_, fun e => absurd rfl e⟩ (fun v1 v2 s3 h3 a3 b3 c3 => ⟨fun e => absurd e (by decide), fun _ => ?_⟩)
    · refine sp_secM h0 t0 (by omega) (by omega) ⟨fun e => absurd rfl e, fun _ => hq _ _ (pR.no h0 t0 t1)⟩ (fun v1 s1 h1 a1 a1' b1 c1 => ⟨fun _ => ?_, fun e => absurd e (by decide)⟩)
      refine sp_shutM h1 (by omega) ez' (fE_bl hA) (by decide) (by decide) (by decide) (by decide) tk1 tk2 (fun s2 h2 a2 b2 _ => ?_)
      refine hq _ _ (pR.ok h2 (d := dd) (t := zv s1 43) (by omega) (by omega) (by omega) (by omega) (by omega) (by omega) k1 (by show (((N + 1 : Nat) : Int) : Int) + pPots r ≤ _; omega) (by show 200 * (zv s0 8 - (zv s1 43)) + pWgts r < _; omega) ?_)
      exact ends _ (by omega)
    · refine sp_tkM h3 (by omega) (by omega) (fun k5 hk5 => ?_)
      refine ffm_isD (sp_isD s3 k5) ?_
      rintro v s' - ⟨rfl, -⟩
      refine ⟨fun _ => ?_, fun _ => ?_⟩
      · refine sp_goalM h3 (by show (r.length : Nat) < 9000; omega) _ _ _ _ (fun s4 h4 a4 b4 c4 => ?_)
        refine hq _ _ (pR.ok h4 (d := zv s 44) (t := zv s 43 + 1) (by omega) (by omega) (by omega) (by omega) (by omega) (by omega) ok (by show (N : Int) + (3 + pPots r) ≤ _; omega) (by show 200 * (zv s0 8 - (zv s 43 + 1)) + (30 + pWgts r) < _; omega) ?_)
        refine tyS 36 ez' ⟨⟨B, A, rfl, ez', hA⟩, by simp, tk1, tk2⟩ (by show ((r.length : Nat) : Int) + 41 ≤ _; omega) (fun _ _ _ e => e) (fun T2 f2 => ends _ (by omega))
      · refine sp_goalM h3 (by show (r.length : Nat) < 9000; omega) _ _ _ _ (fun s4 h4 a4 b4 c4 => ?_)
        refine hq _ _ (pR.ok h4 (d := zv s 44) (t := zv s 43 + 1) (by omega) (by omega) (by omega) (by omega) (by omega) (by omega) ok (by show (N : Int) + (1 + pPots r) ≤ _; omega) (by show 200 * (zv s0 8 - (zv s 43 + 1)) + (3 + pWgts r) < _; omega) ?_)
        refine tyS 36 ez' ⟨⟨B, A, rfl, ez', hA⟩, by simp, tk1, tk2⟩ (by show ((r.length : Nat) : Int) + 46 ≤ _; omega) (fun _ _ _ e => e) (fun T2 f2 => ends _ (by omega))

theorem st_21 {s0 s : zS} {x y z : Int} {r : List pG} {S K : List Int} {N : Nat} {M : Int} (hx : pX s0 s (21, x, y, z) r S K N M) {Q : Int → zS → Prop} (hq : ∀ e s', pR s0 M e s' → Q e s') : wr_reachC s 21 x y z Q := by
  obtain ⟨h0, t0, t1, t2, d0, d1, ok, pot, eM, hK, pre, cost, hr⟩ := hx
  have hl : (r.length : Int) + 41 ≤ 60 * (zv s 44 + 1) := cost
  have hp : (N : Int) + (1 + pPots r) ≤ 2 * zv s 43 + 4 := pot
  have hM : M = 200 * (zv s0 8 - zv s 43) + (1 + pWgts r) := eM
  have hp0 := pP0 r
  obtain ⟨o1, o2, o3⟩ := h0.outs
  clear cost pot eM
  unfold wr_reachC
  refine sp_tkM h0 t0 (by omega) (fun k hk => ?_)
  repeat' (first | (with_reducible refine ⟨fun c => absurd c (by decide), fun _ => ?_⟩) | (with_reducible refine ⟨fun _ => ?_, fun c => absurd c (by decide)⟩) | fail)
  obtain ⟨⟨B, A, rfl, ez, hA⟩, hS, tk1, tk2⟩ := pre
  have ez' : z = (B.length : Int) := ez
  cases S with
  | nil => exact absurd rfl hS
  | cons dd S =>
    obtain ⟨k1, k2, k3⟩ := ok.pop
    have k4 := ok.1
    have ends : ∀ T1, zv s 43 ≤ T1 → pTy r (B ++ [36]) dd S T1 := fun T1 h => hr _ _ _ _ ⟨eTK ez', fun d0 S0 e => by
      obtain ⟨rfl, rfl⟩ := List.cons.inj e
      exact ⟨rfl, rfl⟩⟩ k3 k2 k1 h
    unfold wr_reachC_342
    refine sp_takeN h0 t0 (by omega) (by decide) ⟨fun _ => ?_, fun e => absurd rfl e⟩ (fun v1 v2 s3 h3 a3 b3 c3 => ⟨fun e => absurd e (by decide), fun _ => ?_⟩)
    · refine sp_secM h0 t0 (by omega) (by omega) ⟨fun e => absurd rfl e, fun _ => hq _ _ (pR.no h0 t0 t1)⟩ (fun v1 s1 h1 a1 a1' b1 c1 => ⟨fun _ => ?_, fun e => absurd e (by decide)⟩)
      refine ⟨fun e => absurd rfl e, fun _ => ?_⟩
      refine sp_shutM h1 (by omega) ez' (fE_bl hA) (by decide) (by decide) (by decide) (by decide) tk1 tk2 (fun s2 h2 a2 b2 _ => ?_)
      refine hq _ _ (pR.ok h2 (d := dd) (t := zv s1 43) (by omega) (by omega) (by omega) (by omega) (by omega) (by omega) k1 (by show (((N + 1 : Nat) : Int) : Int) + pPots r ≤ _; omega) (by show 200 * (zv s0 8 - (zv s1 43)) + pWgts r < _; omega) ?_)
      exact ends _ (by omega)
    · refine ⟨fun e => absurd rfl e, fun _ => ?_⟩
      refine sp_goalM h3 (by show (r.length : Nat) < 9000; omega) _ _ _ _ (fun s4 h4 a4 b4 c4 => ?_)
      refine hq _ _ (pR.ok h4 (d := zv s 44) (t := zv s 43 + 1) (by omega) (by omega) (by omega) (by omega) (by omega) (by omega) ok (by show (N : Int) + (3 + pPots r) ≤ _; omega) (by show 200 * (zv s0 8 - (zv s 43 + 1)) + (30 + pWgts r) < _; omega) ?_)
      refine tyS 36 ez' ⟨⟨B, A, rfl, ez', hA⟩, by simp, tk1, tk2⟩ (by show ((r.length : Nat) : Int) + 41 ≤ _; omega) (fun _ _ _ e => e) (fun T2 f2 => ends _ (by omega))

theorem st_20 {s0 s : zS} {x y z : Int} {r : List pG} {S K : List Int} {N : Nat} {M : Int} (hx : pX s0 s (20, x, y, z) r S K N M) {Q : Int → zS → Prop} (hq : ∀ e s', pR s0 M e s' → Q e s') : wr_reachC s 20 x y z Q := by
  obtain ⟨h0, t0, t1, t2, d0, d1, ok, pot, eM, hK, pre, cost, hr⟩ := hx
  have hl : (r.length : Int) + 41 ≤ 60 * (zv s 44 + 1) := cost
  have hp : (N : Int) + (3 + pPots r) ≤ 2 * zv s 43 + 4 := pot
  have hM : M = 200 * (zv s0 8 - zv s 43) + (30 + pWgts r) := eM
  have hp0 := pP0 r
  obtain ⟨o1, o2, o3⟩ := h0.outs
  clear cost pot eM
  unfold wr_reachC
  refine sp_tkM h0 t0 (by omega) (fun k hk => ?_)
  repeat' (first | (with_reducible refine ⟨fun c => absurd c (by decide), fun _ => ?_⟩) | (with_reducible refine ⟨fun _ => ?_, fun c => absurd c (by decide)⟩) | fail)
  obtain ⟨⟨B, A, rfl, ez, hA⟩, hS, tk1, tk2⟩ := pre
  have ez' : z = (B.length : Int) := ez
  cases S with
  | nil => exact absurd rfl hS
  | cons dd S =>
    obtain ⟨k1, k2, k3⟩ := ok.pop
    have k4 := ok.1
    have ends : ∀ T1, zv s 43 ≤ T1 → pTy r (B ++ [36]) dd S T1 := fun T1 h => hr _ _ _ _ ⟨eTK ez', fun d0 S0 e => by
      obtain ⟨rfl, rfl⟩ := List.cons.inj e
      exact ⟨rfl, rfl⟩⟩ k3 k2 k1 h
    refine sp_goalM h0 (by show (r.length : Nat) < 9000; omega) _ _ _ _ (fun s1 h1 a1 b1 c1 => ?_)
    refine sp_labelsM t2 h1 (by omega) (by omega) (by omega) (fun m s4 h4 a4 a4' b4 => ?_)
    have o4 : zv s1 37 = ((B ++ A).length : Int) := by omega
    have o5 : ((B ++ A).length : Int) = B.length + A.length := by rw [List.length_append]; omega
    refine sp_goalM h4 (by show (r.length + 1 : Nat) < 9000; omega) _ _ _ _ (fun s5 h5 a5 b5 c5 => ?_)
    refine sp_goalM h5 (by show (r.length + 1 + 1 : Nat) < 9000; omega) _ _ _ _ (fun s6 h6 a6 b6 c6 => ?_)
    refine hq _ _ (pR.ok h6 (d := zv s 44) (t := zv s4 43) (by omega) (by omega) (by omega) (by omega) (by omega) (by omega) ok (by show (((N + m : Nat) : Int) : Int) + (1 + (1 + (1 + pPots r))) ≤ _; omega) (by show 200 * (zv s0 8 - (zv s4 43)) + (27 + (1 + (1 + pWgts r))) < _; omega) ?_)
    refine tyE kC trivial (by show ((r.length + 1 + 1 : Nat) : Int) + 38 ≤ _; omega) (fun _ _ _ e => e) (fun k5 T1 q1 f1 => ?_)
    rw [List.append_assoc]
    refine tySH o1 (fE_pa q1 (fun y hy => Or.inl (List.eq_of_mem_replicate hy))) (by decide) (by decide) (by decide) (by decide) (by omega) (by omega) (by show ((r.length + 1 : Nat) : Int) + 1 ≤ _; omega) (fun T3 f3 => ?_)
    rw [List.append_assoc]
    refine tyS 36 ez' ⟨⟨B, A ++ [41], rfl, ez', (fun c hc => (List.mem_append.mp hc).elim (hA c) (fun g => Or.inl (List.mem_singleton.mp g)))⟩, by simp, tk1, tk2⟩ (by show ((r.length : Nat) : Int) + 41 ≤ _; omega) (fun _ _ _ e => e) (fun T2 f2 => ends _ (by omega))

