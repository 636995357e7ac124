/-! SECTIONS; THE STEPS OF DECLARATIONS -/
theorem sp_openM {s0 s : zS} {gl : List pG} {S K : List Int} {N : Nat} (h : pM s0 s gl S K N) (t0 : 0 ≤ zv s 43) (hT : zv s0 8 ≤ 2600) (d0 : 0 ≤ zv s 44) (d1 : zv s 44 ≤ 60) (ok : okS S (zv s 44)) {Q : Int → zS → Prop} (hq : Q 0 s) (hq1 : zv s 43 < zv s0 8 → zv s 44 < 60 → ∀ s1, pM s0 s1 gl (zv s 44 :: S) K N → zv s1 43 = zv s 43 + 1 → zv s1 44 = zv s 44 + 1 → zv s1 37 = zv s 37 → Q 1 s1) : wr_openSection s Q := by
  have hS := ok.le
  unfold wr_openSection
  refine sp_tkM h t0 hT (fun k hk => ⟨fun c => ?_, fun _ => hq⟩)
  have hk2 := hk (by omega)
  refine sp_deeperM h d0 d1 ⟨fun e => absurd rfl e, fun _ => hq⟩ (fun v h1 => ⟨fun _ => ?_, fun e => absurd e (by decide)⟩)
  obtain ⟨kids, up, sz, W, q1, q2, q3, q4, q5, q6, q7, q8⟩ := h1
  have q7' : zv (zpv s 44 (zv s 44 + 1)) 45 = (S.length : Int) := q7
  have e43 : zv (zpv s 44 (zv s 44 + 1)) 43 = zv s 43 := rfl
  rw [q7', Int.toNat_natCast, e43]
  refine ⟨by omega, by omega, by omega, by omega, by omega, by omega, ⟨by omega, by omega⟩, ⟨by omega, by omega⟩, hq1 hk2.1 v _ ⟨kids, up, sz, W, ?_, ?_, ?_, q4.fr (fun j hj i _ => ?_), q5, ⟨?_, q6.fr (fun i hi => ?_)⟩, rfl, (((q8.pa rfl).pa rfl).pv rfl).pv rfl⟩ rfl rfl rfl⟩
  · exact q1.sm (js := [46, 47]) (ks := [43, 45]) ((((zSm.rf.pa rfl).pa rfl).pv rfl).pv rfl) rfl rfl
  · exact q2.fr (fun _ _ => ⟨rfl, rfl⟩) (fun _ _ _ => rfl) (fun _ _ _ _ => rfl)
  · exact q3
  · rcases hj with rfl | rfl | rfl | rfl <;> rfl
  · simp only [za_pv, za_pa, reduceIte, Nat.reduceEqDiff]
  · have : ¬ i = S.length := by omega
    simp only [za_pv, za_pa, reduceIte, Nat.reduceEqDiff, this]
theorem sp_secL {s0 s : zS} {gl : List pG} {S K : List Int} {N : Nat} {dd : Int} (h : pM s0 s gl (dd :: S) K N) (t0 : 0 ≤ zv s 43) (t1 : zv s 43 < zv s0 8) (hT : zv s0 8 ≤ 2600) (hS : (S.length : Int) + 1 ≤ 60) {Q : Int → zS → Prop} (hq : Q 0 s) (hq1 : ∀ s1, pM s0 s1 gl S K N → zv s 43 ≤ zv s1 43 → zv s1 43 ≤ zv s 43 + 1 → zv s1 44 = dd → zv s1 37 = zv s 37 → Q 1 s1) (x1 x2 : Int) : ∀ (m k : Nat) (x3 : Int), (S.length + 1 : Nat) - k < m → wr_shutSection_51 Q m s x1 x2 x3 k := by
  obtain ⟨kids, up, sz, W, q1, q2, q3, q4, q5, q6, q7, q8⟩ := h
  have q7' : zv s 45 = (S.length : Int) + 1 := q7
  have e1 : zv s 45 - 1 = (S.length : Int) := by omega
  have e97 : ∀ x2, wr_shutSection_97 Q s x2 := fun x2 => by
    unfold wr_shutSection_97
    rw [e1, Int.toNat_natCast]
    refine ⟨fun _ => ⟨⟨by omega, by omega⟩, by omega, by omega, hq1 _ ⟨kids, up, sz, W, ?_, ?_, q3, q4.fr (fun _ _ _ _ => rfl), q5, q6.2.fr (fun _ _ => rfl), rfl, (q8.pv rfl).pv rfl⟩ (Int.le_refl _) (by show zv s 43 ≤ _; omega) q6.1 rfl⟩, fun _ => ⟨⟨by omega, by omega⟩, ⟨by omega, by omega⟩, by omega, by omega, hq1 _ ⟨kids, up, sz, W, ?_, ?_, q3, q4.fr (fun _ _ _ _ => rfl), q5, q6.2.fr (fun _ _ => rfl), rfl, ((q8.pv rfl).pv rfl).pv rfl⟩ (by show zv s 43 ≤ zv s 43 + 1; omega) (Int.le_refl _) q6.1 rfl⟩⟩
    · exact q1.sm (js := []) (ks := [44, 45]) ((zSm.rf.pv rfl).pv rfl) rfl rfl
    · exact q2.fr (fun _ _ => ⟨rfl, rfl⟩) (fun _ _ _ => rfl) (fun _ _ _ _ => rfl)
    · exact q1.sm (js := []) (ks := [43, 44, 45]) (((zSm.rf.pv rfl).pv rfl).pv rfl) rfl rfl
    · exact q2.fr (fun _ _ => ⟨rfl, rfl⟩) (fun _ _ _ => rfl) (fun _ _ _ _ => rfl)
  intro m
  induction m with
  | zero => intro k x3 h1; omega
  | succ m ih =>
    intro k x3 h1
    unfold wr_shutSection_51
    unfold wr_shutSection_51B
    rw [q7', show ((k : Int) + 1) = ((k + 1 : Nat) : Int) by omega]
    exact ⟨fun _ => ⟨fun _ => e97 _, fun _ => ⟨fun _ => e97 _, fun _ => hq⟩⟩, fun c => ⟨fun _ => ⟨⟨by omega, by omega⟩, ih (k + 1) _ (by omega)⟩, fun _ => ⟨by omega, by omega, fun _ => ⟨⟨by omega, by omega⟩, ih (k + 1) _ (by omega)⟩, fun _ => ⟨⟨by omega, by omega⟩, ih (k + 1) _ (by omega)⟩⟩⟩⟩
theorem sp_secM {s0 s : zS} {gl : List pG} {S K : List Int} {N : Nat} {dd : Int} (h : pM s0 s gl (dd :: S) K N) (t0 : 0 ≤ zv s 43) (hT : zv s0 8 ≤ 2600) (hS : (S.length : Int) + 1 ≤ 60) {Q : Int → zS → Prop} (hq : Q 0 s) (hq1 : zv s 43 < zv s0 8 → ∀ s1, pM s0 s1 gl S K N → zv s 43 ≤ zv s1 43 → zv s1 43 ≤ zv s 43 + 1 → zv s1 44 = dd → zv s1 37 = zv s 37 → Q 1 s1) : wr_shutSection s Q := by
  have q7 : zv s 45 = (S.length : Int) + 1 := by
    obtain ⟨kids, up, sz, W, q1, q2, q3, q4, q5, q6, q7, q8⟩ := h
    exact q7
  unfold wr_shutSection
  refine sp_tkM h t0 hT (fun k hk => ⟨fun c => ?_, fun _ => hq⟩)
  have hk2 := hk (by omega)
  have L := fun x1 x2 => sp_secL h t0 hk2.1 hT hS hq (hq1 hk2.1) x1 x2 (S.length + 2) 0 0 (by omega)
  exact ⟨by omega, by omega, fun _ => ⟨_, L _ _⟩, fun _ => ⟨by omega, by omega, fun _ => ⟨_, L _ _⟩, fun _ => ⟨_, L _ _⟩⟩⟩
theorem okS.pop {S : List Int} {dd d : Int} (h : okS (dd :: S) d) : okS S dd ∧ dd ≤ 60 ∧ 0 ≤ dd := ⟨h.2.2, h.2.1, by
  have := h.2.2.le
  omega⟩
theorem fE_de {k : Int} {l : List Int} (hk : k = 50 ∨ k = 51 ∨ k = 52) (h : ∀ c ∈ l, c = 56) : fSh k l := by
  rcases hk with rfl | rfl | rfl
  all_goals
    refine ⟨fun h => absurd h (by decide), fun h => absurd h (by decide), fun h => absurd h (by decide), fun h => absurd h (by decide), fun h => absurd h (by decide), fun h => absurd h (by decide), fun h => absurd h (by decide), fun h => absurd h (by decide), fun h => absurd h (by decide), fun h => absurd h (by decide), fun h => absurd h (by decide), fun h => absurd h (by decide), fun h => absurd h (by decide), fun h => absurd h (by decide), fun h => absurd h (by decide), fun h => absurd h (by decide), fun h => absurd h (by decide), fun h => absurd h (by decide), ?_, fun h => absurd h (by decide), fun h => absurd h (by decide), fun h => absurd h (by decide), fun h => absurd h (by decide)⟩
    exact fun _ => h
theorem fE_le {l : List Int} (h : l = [55] ∨ ¬ l = [] ∧ ∀ c ∈ l, c = 54) : fSh 53 l := by
  refine ⟨fun h => absurd h (by decide), fun h => absurd h (by decide), fun h => absurd h (by decide), fun h => absurd h (by decide), fun h => absurd h (by decide), fun h => absurd h (by decide), fun h => absurd h (by decide), fun h => absurd h (by decide), fun h => absurd h (by decide), fun h => absurd h (by decide), fun h => absurd h (by decide), fun h => absurd h (by decide), fun h => absurd h (by decide), fun h => absurd h (by decide), fun h => absurd h (by decide), fun h => absurd h (by decide), fun h => absurd h (by decide), fun h => absurd h (by decide), fun h => absurd h (by decide), ?_, fun h => absurd h (by decide), fun h => absurd h (by decide), fun h => absurd h (by decide)⟩
  exact fun _ => h
theorem sp_isD (s : zS) (a : Int) : wr_isD s a (fun r s' => s = s' ∧ (a = 0 → r = 0)) := by
  unfold wr_isD
  repeat' (first | (with_reducible intro _) | (with_reducible apply And.intro) | omega | rfl)
theorem sp_isDol (s : zS) (a : Int) : wr_isDoless s a (fun r s' => s = s' ∧ (r = 0 ∨ r = 1)) := by
  unfold wr_isDoless
  repeat' (first | (with_reducible intro _) | (with_reducible apply And.intro) | omega | rfl)
theorem tyP {r : List pG} {K : List Int} {d x : Int} {S : List Int} {t : Int} (hc : (r.length : Int) + 41 ≤ 60 * (d + 1)) (hn : ∀ t', t ≤ t' → (pTy r (K ++ [54]) d S t') ∧ (¬ x = 1 → pTy r (K ++ [55]) d S t')) : pTy ((7, x, 0, 0) :: r) K d S t := ⟨trivial, hc, fun K' d' S' t' e _ _ _ h => by
  obtain ⟨e1, rfl, rfl⟩ := e
  rcases e1 with rfl | ⟨e1, rfl⟩
  · exact (hn t' h).1
  · exact (hn t' h).2 e1⟩
theorem tyS {g : pG} {r : List pG} {B A : List Int} {d dd : Int} {S : List Int} {t : Int} (kk : Int) (ez : g.2.2.2 = (B.length : Int)) (hp : pPre g (B ++ A) d (dd :: S) t) (hc : (r.length : Int) + pCost g ≤ 60 * (d + 1)) (he : ∀ K' d' S', pEff g (B ++ A) d (dd :: S) K' d' S' → (∀ B' A', B ++ A = B' ++ A' → g.2.2.2 = (B'.length : Int) → K' = B' ++ [kk]) ∧ ∀ d0 S0, dd :: S = d0 :: S0 → d' = d0 ∧ S' = S0) (hn : ∀ t', t ≤ t' → pTy r (B ++ [kk]) dd S t') : pTy (g :: r) (B ++ A) d (dd :: S) t := ⟨hp, hc, fun K' d' S' t' e _ _ _ h => by
  obtain ⟨e1, e2⟩ := he _ _ _ e
  obtain ⟨rfl, rfl⟩ := e2 _ _ rfl
  obtain rfl := e1 B A rfl ez
  exact hn t' h⟩
theorem eTK {B A : List Int} {z k : Int} (h : z = B.length) : ∀ B' A', B ++ A = B' ++ A' → z = (B'.length : Int) → B ++ [k] = B' ++ [k] := fun B' A' e h' => by
  obtain ⟨rfl, -⟩ := te e h h'
  rfl
theorem st_3 {s0 s : zS} {x y z : Int} {r : List pG} {S K : List Int} {N : Nat} {M : Int} (hx : pX s0 s (3, x, y, z) r S K N M) {Q : Int → zS → Prop} (hq : ∀ e s', pR s0 M e s' → Q e s') : wr_reachD s 3 x y z Q := by
  obtain ⟨h0, t0, t1, t2, d0, d1, ok, pot, eM, hK, pre, cost, hr⟩ := hx
  have hl : (r.length : Int) + 44 ≤ 60 * (zv s 44 + 1) := cost
  have hp : (N : Int) + (0 + pPots r) ≤ 2 * zv s 43 + 4 := pot
  have hM : M = 200 * (zv s0 8 - zv s 43) + (1 + pWgts r) := eM
  have hp0 := pP0 r
  obtain ⟨o1, o2, o3⟩ := h0.outs
  clear cost pot eM
  unfold wr_reachD
  refine sp_tkM h0 t0 (by omega) (fun k hk => ?_)
  repeat' (first | (with_reducible refine ⟨fun c => absurd c (by decide), fun _ => ?_⟩) | (with_reducible refine ⟨fun _ => ?_, fun c => absurd c (by decide)⟩) | fail)
  refine ffm_isD (sp_isD s k) ?_
  rintro v s' - ⟨rfl, hv⟩
  refine ⟨fun c => ?_, fun _ => hq _ _ (pR.no h0 t0 t1)⟩
  have hk2 := hk (fun e => by have := hv e; omega)
  refine ⟨⟨by omega, by omega⟩, ?_⟩
  obtain ⟨s2, es, h2, a2, b2, c2⟩ := h0.at1
  rw [es]
  have A : ∀ n, (n = 50 ∨ n = 51 ∨ n = 52) → wr_reachD_98 Q s2 (zv s 37) (zv s 43) n := fun n hn => by
    unfold wr_reachD_98
    refine sp_openM h2 (by omega) (by omega) (by omega) (by omega) (by rw [b2]; exact ok) ⟨fun e => absurd rfl e, fun _ => hq _ _ (pR.no h2 (by omega) (by omega))⟩ (fun v1 v2 s3 h3 a3 b3 c3 => ⟨fun _ => ?_, fun e => absurd e (by decide)⟩)
    rw [b2] at h3
    refine sp_goalM h3 (by show (r.length : Nat) < 9000; omega) _ _ _ _ (fun s4 h4 a4 b4 c4 => ?_)
    refine sp_goalM h4 (by show (r.length + 1 : Nat) < 9000; omega) _ _ _ _ (fun s5 h5 a5 b5 c5 => ?_)
    refine hq _ _ (pR.ok h5 (d := zv s 44 + 1) (t := zv s 43 + 2) (by omega) (by omega) (by omega) (by omega) (by omega) (by omega) ⟨by have := ok.le; omega, d1, ok⟩ (by show (N : Int) + (0 + (1 + pPots r)) ≤ _; omega) (by show 200 * (zv s0 8 - (zv s 43 + 2)) + (1 + (1 + pWgts r)) < _; omega) ?_)
    refine ⟨trivial, (by show ((r.length + 1 : Nat) : Int) + 33 ≤ _; omega), fun K1 D1 S1 T1 e1 f1 f2 f3 f4 => ?_⟩
    obtain ⟨rfl, rfl, rfl⟩ := e1
    refine tyS n o1 ⟨⟨K, [56], rfl, o1, fun c hc => List.mem_singleton.mp hc⟩, hn, by simp, t0, by show zv s 43 ≤ 12000; omega⟩ (by show ((r.length : Nat) : Int) + 35 ≤ _; omega) (fun _ _ _ e => e) (fun T2 f5 => ?_)
    exact hr _ _ _ _ ⟨⟨n, ⟨by omega, by omega⟩, rfl⟩, rfl, rfl⟩ d0 d1 ok (by omega)
  refine ⟨fun c1 => ⟨fun c2 => ⟨fun _ => A 52 (by decide), fun _ => A 51 (by decide)⟩, fun _ => A 50 (by decide)⟩, fun c1 => ?_⟩
  refine sp_goalM h2 (by show (r.length : Nat) < 9000; omega) _ _ _ _ (fun s3 h3 a3 b3 c3 => ?_)
  refine sp_goalM h3 (by show (r.length + 1 : Nat) < 9000; omega) _ _ _ _ (fun s4 h4 a4 b4 c4 => ?_)
  refine hq _ _ (pR.ok h4 (d := zv s 44) (t := zv s 43 + 1) (by omega) (by omega) (by omega) (by omega) (by omega) (by omega) ok (by show (N : Int) + (0 + (1 + pPots r)) ≤ _; omega) (by show 200 * (zv s0 8 - (zv s 43 + 1)) + (1 + (1 + pWgts r)) < _; omega) ?_)
  refine tyP (by show ((r.length + 1 : Nat) : Int) + 41 ≤ _; omega) (fun T1 f1 => ⟨?_, fun _ => ?_⟩)
  · refine ⟨⟨⟨K, [54], rfl, o1, Or.inr ⟨by simp, fun c hc => List.mem_singleton.mp hc⟩⟩, t0, by show zv s 43 ≤ 12000; omega⟩, (by show ((r.length : Nat) : Int) + 44 ≤ _; omega), fun K2 D2 S2 T2 e2 g1 g2 g3 g4 => ?_⟩
    obtain ⟨e2, rfl, rfl⟩ := e2
    exact hr _ _ _ _ ⟨⟨53, ⟨by decide, by decide⟩, e2 K [54] rfl o1⟩, rfl, rfl⟩ d0 d1 ok (by omega)
  · refine ⟨⟨⟨K, [55], rfl, o1, Or.inl rfl⟩, t0, by show zv s 43 ≤ 12000; omega⟩, (by show ((r.length : Nat) : Int) + 44 ≤ _; omega), fun K2 D2 S2 T2 e2 g1 g2 g3 g4 => ?_⟩
    obtain ⟨e2, rfl, rfl⟩ := e2
    exact hr _ _ _ _ ⟨⟨53, ⟨by decide, by decide⟩, e2 K [55] rfl o1⟩, rfl, rfl⟩ d0 d1 ok (by omega)
theorem st_4 {s0 s : zS} {x y z : Int} {r : List pG} {S K : List Int} {N : Nat} {M : Int} (hx : pX s0 s (4, x, y, z) r S K N M) {Q : Int → zS → Prop} (hq : ∀ e s', pR s0 M e s' → Q e s') : wr_reachD s 4 x y z Q := by
  obtain ⟨h0, t0, t1, t2, d0, d1, ok, pot, eM, hK, pre, cost, hr⟩ := hx
  have hl : (r.length : Int) + 33 ≤ 60 * (zv s 44 + 1) := cost
  have hp : (N : Int) + (0 + pPots r) ≤ 2 * zv s 43 + 4 := pot
  have hM : M = 200 * (zv s0 8 - zv s 43) + (1 + pWgts r) := eM
  have hp0 := pP0 r
  obtain ⟨o1, o2, o3⟩ := h0.outs
  clear cost pot eM
  unfold wr_reachD
  refine sp_tkM h0 t0 (by omega) (fun k hk => ?_)
  repeat' (first | (with_reducible refine ⟨fun c => absurd c (by decide), fun _ => ?_⟩) | (with_reducible refine ⟨fun _ => ?_, fun c => absurd c (by decide)⟩) | fail)
  refine sp_takeN h0 t0 (by omega) (by decide) ⟨fun e => absurd rfl e, fun _ => hq _ _ (pR.no h0 t0 t1)⟩ (fun v1 v2 s3 h3 a3 b3 c3 => ⟨fun _ => ?_, fun e => absurd e (by decide)⟩)
  refine sp_goalM h3 (by show (r.length : Nat) < 9000; omega) _ _ _ _ (fun s4 h4 a4 b4 c4 => ?_)
  refine sp_goalM h4 (by show (r.length + 1 : Nat) < 9000; omega) _ _ _ _ (fun s5 h5 a5 b5 c5 => ?_)
  have o4 : zv s3 37 = (K.length : Int) := by omega
  have A : ∀ n, ¬ n = 0 → wr_goal s5 16 n 0 0 (fun s => Q 1 s) := fun n hn => by
    refine sp_goalM h5 (by show (r.length + 1 + 1 : Nat) < 9000; omega) _ _ _ _ (fun s6 h6 a6 b6 c6 => ?_)
    refine hq _ _ (pR.ok h6 (d := zv s 44) (t := zv s 43 + 1) (by omega) (by omega) (by omega) (by omega) (by omega) (by omega) ok (by show (N : Int) + (0 + (0 + (1 + pPots r))) ≤ _; omega) (by show 200 * (zv s0 8 - (zv s 43 + 1)) + (1 + (22 + (1 + pWgts r))) < _; omega) ?_)
    refine tyEX hn (by show ((r.length + 1 + 1 : Nat) : Int) + 1 ≤ _; omega) (fun _ _ _ e => e) (fun T0 f0 => ?_)
    refine tyE kE trivial (by show ((r.length + 1 : Nat) : Int) + 30 ≤ _; omega) (fun _ _ _ e => e) (fun k1 T1 q1 f1 => ?_)
    refine tySH o4 (fE_e1 (by decide) q1) (by decide) (by decide) (by decide) (by decide) t0 (by omega) (by omega) (fun T2 f2 => ?_)
    exact hr _ _ _ _ ⟨rfl, rfl, rfl⟩ d0 d1 ok (by omega)
  exact ⟨fun _ => A 25 (by decide), fun _ => A 17 (by decide)⟩
theorem st_5 {s0 s : zS} {x y z : Int} {r : List pG} {S K : List Int} {N : Nat} {M : Int} (hx : pX s0 s (5, x, y, z) r S K N M) {Q : Int → zS → Prop} (hq : ∀ e s', pR s0 M e s' → Q e s') : wr_reachD s 5 x y z Q := by
  obtain ⟨h0, t0, t1, t2, d0, d1, ok, pot, eM, hK, pre, cost, hr⟩ := hx
  have hl : (r.length : Int) + 35 ≤ 60 * (zv s 44 + 1) := cost
  have hp : (N : Int) + (1 + pPots r) ≤ 2 * zv s 43 + 4 := pot
  have hM : M = 200 * (zv s0 8 - zv s 43) + (1 + pWgts r) := eM
  have hp0 := pP0 r
  obtain ⟨o1, o2, o3⟩ := h0.outs
  clear cost pot eM
  unfold wr_reachD
  refine sp_tkM h0 t0 (by omega) (fun k hk => ?_)
  repeat' (first | (with_reducible refine ⟨fun c => absurd c (by decide), fun _ => ?_⟩) | (with_reducible refine ⟨fun _ => ?_, fun c => absurd c (by decide)⟩) | fail)
  obtain ⟨⟨B, A, rfl, ez, hA⟩, hx, hS, tk1, tk2⟩ := pre
  have ez' : z = (B.length : Int) := ez
  have hx' : x = 50 ∨ x = 51 ∨ x = 52 := hx
  cases S with
  | nil => exact absurd rfl hS
  | cons dd S =>
    obtain ⟨k1, k2, k3⟩ := ok.pop
    have k4 := ok.1
    refine sp_takeN h0 t0 (by omega) (by decide) ⟨fun _ => ?_, fun e => absurd rfl e⟩ (fun v1 v2 s3 h3 a3 b3 c3 => ⟨fun e => absurd e (by decide), fun _ => ?_⟩)
    · refine sp_secM h0 t0 (by omega) (by omega) ⟨fun e => absurd rfl e, fun _ => hq _ _ (pR.no h0 t0 t1)⟩ (fun v1 s1 h1 a1 a1' b1 c1 => ⟨fun _ => ?_, fun e => absurd e (by decide)⟩)
      refine sp_shutM h1 (by omega) ez' (fE_de hx' hA) (by omega) (by omega) (by omega) (by omega) tk1 tk2 (fun s2 h2 a2 b2 _ => ?_)
      refine hq _ _ (pR.ok h2 (d := dd) (t := zv s1 43) (by omega) (by omega) (by omega) (by omega) (by omega) (by omega) k1 (by show (((N + 1 : Nat) : Int) : Int) + pPots r ≤ _; omega) (by show 200 * (zv s0 8 - (zv s1 43)) + pWgts r < _; omega) ?_)
      exact hr _ _ _ _ ⟨eTK ez', fun d0 S0 e => by
        obtain ⟨rfl, rfl⟩ := List.cons.inj e
        exact ⟨rfl, rfl⟩⟩ k3 k2 k1 (by omega)
    · skip
      refine sp_goalM h3 (by show (r.length : Nat) < 9000; omega) _ _ _ _ (fun s4 h4 a4 b4 c4 => ?_)
      refine sp_goalM h4 (by show (r.length + 1 : Nat) < 9000; omega) _ _ _ _ (fun s5 h5 a5 b5 c5 => ?_)
      refine hq _ _ (pR.ok h5 (d := zv s 44) (t := zv s 43 + 1) (by omega) (by omega) (by omega) (by omega) (by omega) (by omega) ok (by show (N : Int) + (0 + (1 + pPots r)) ≤ _; omega) (by show 200 * (zv s0 8 - (zv s 43 + 1)) + (1 + (1 + pWgts r)) < _; omega) ?_)
      refine ⟨trivial, (by show ((r.length + 1 : Nat) : Int) + 33 ≤ _; omega), fun K1 D1 S1 T1 e1 f1 f2 f3 f4 => ?_⟩
      obtain ⟨rfl, rfl, rfl⟩ := e1
      rw [List.append_assoc]
      refine tyS x ez' ⟨⟨B, A ++ [56], rfl, ez', fun c hc => (List.mem_append.mp hc).elim (hA c) (fun g => List.mem_singleton.mp g)⟩, hx, by simp, tk1, tk2⟩ (by show ((r.length : Nat) : Int) + 35 ≤ _; omega) (fun _ _ _ e => e) (fun T2 f5 => ?_)
      exact hr _ _ _ _ ⟨eTK ez', fun d0 S0 e => by
        obtain ⟨rfl, rfl⟩ := List.cons.inj e
        exact ⟨rfl, rfl⟩⟩ k3 k2 k1 (by omega)
