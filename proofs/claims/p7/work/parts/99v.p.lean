/-! THE STEPS OF EXPRESSIONS -/
theorem pR.ok {s0 s' : zS} {M d t : Int} {gl : List pG} {S K : List Int} {N : Nat} (h : pM s0 s' gl S K N) (hd : zv s' 44 = d) (ht : zv s' 43 = t) (h1 : 0 ≤ t) (h2 : t ≤ zv s0 8) (h3 : 0 ≤ d) (h4 : d ≤ 60) (h5 : okS S d) (h6 : (N : Int) + pPots gl ≤ 2 * t + 4) (h8 : 200 * (zv s0 8 - t) + pWgts gl < M) (h7 : pTy gl K d S t) : pR s0 M 1 s' := by
  subst hd
  subst ht
  exact ⟨Or.inr rfl, h1, h2, ⟨gl, S, K, N, h⟩, fun _ => ⟨gl, S, K, N, ⟨h, h1, h2, h3, h4, h5, h6⟩, h7, h8⟩⟩
/-- before a step -/
def pX (s0 s : zS) (g : pG) (r : List pG) (S K : List Int) (N : Nat) (M : Int) : Prop := pM s0 s r S K N ∧ 0 ≤ zv s 43 ∧ zv s 43 ≤ zv s0 8 ∧ zv s0 8 ≤ 2560 ∧ 0 ≤ zv s 44 ∧ zv s 44 ≤ 60 ∧ okS S (zv s 44) ∧ (N : Int) + (pPot g + pPots r) ≤ 2 * zv s 43 + 4 ∧ M = 200 * (zv s0 8 - zv s 43) + (pWgt g + pWgts r) ∧ pK s0 ∧ pPre g K (zv s 44) S (zv s 43) ∧ (r.length : Int) + pCost g ≤ 60 * (zv s 44 + 1) ∧ ∀ K' d' S' t', pEff g K (zv s 44) S K' d' S' → 0 ≤ d' → d' ≤ 60 → okS S' d' → zv s 43 ≤ t' → pTy r K' d' S' t'
theorem pP0g (g : pG) : 0 ≤ pPot g := by
  unfold pPot
  split <;> first | decide | (split <;> decide)
theorem pP0 : ∀ r : List pG, 0 ≤ pPots r
  | [] => Int.le_refl 0
  | g :: r => Int.add_nonneg (pP0g g) (pP0 r)
/-- one more token is taken -/
theorem pM.at1 {s0 s : zS} {gl : List pG} {S K : List Int} {N : Nat} (h : pM s0 s gl S K N) : ∃ s1, zpv s 43 (zv s 43 + 1) = s1 ∧ pM s0 s1 gl S K N ∧ zv s1 43 = zv s 43 + 1 ∧ zv s1 44 = zv s 44 ∧ zv s1 37 = zv s 37 := ⟨_, rfl, h.put 43 _ (Or.inl rfl), rfl, rfl, rfl⟩
theorem pM.dp {s0 s : zS} {gl : List pG} {S K : List Int} {N : Nat} (h : pM s0 s gl S K N) (x : Int) : ∃ s1, zpv s 44 x = s1 ∧ pM s0 s1 gl S K N ∧ zv s1 43 = zv s 43 ∧ zv s1 44 = x ∧ zv s1 37 = zv s 37 := ⟨_, rfl, h.put 44 _ (Or.inr rfl), rfl, rfl, rfl⟩
theorem sp_deeperN {s0 s : zS} {gl : List pG} {S K : List Int} {N : Nat} (h : pM s0 s gl S K N) (h0 : 0 ≤ zv s 44) (h6 : zv s 44 ≤ 60) {Q : Int → zS → Prop} (hq : Q 0 s) (hq1 : zv s 44 < 60 → ∀ s1, pM s0 s1 gl S K N → zv s1 43 = zv s 43 → zv s1 44 = zv s 44 + 1 → zv s1 37 = zv s 37 → Q 1 s1) : wr_deeper s Q := sp_deeperM h h0 h6 hq (fun a b => hq1 a _ b rfl rfl rfl)
theorem sp_takeN {s0 s : zS} {gl : List pG} {S K : List Int} {N : Nat} (h : pM s0 s gl S K N) (h0 : 0 ≤ zv s 43) (hT : zv s0 8 ≤ 2600) {k : Int} (hk : ¬ k = 0) {Q : Int → zS → Prop} (hq : Q 0 s) (hq1 : zv s 43 < zv s0 8 → za s0 9 (zv s 43).toNat = k → ∀ s1, pM s0 s1 gl S K N → zv s1 43 = zv s 43 + 1 → zv s1 44 = zv s 44 → zv s1 37 = zv s 37 → Q 1 s1) : wr_take s k Q := sp_takeM h h0 hT hk hq (fun a e b => hq1 a e _ b rfl rfl rfl)
theorem fE_co {a b c : Int} (ha : kE a) (hb : kE b) (hc : kE c) : fSh 12 [a, b, c] := by
  refine ⟨fun h => absurd h (by decide), fun h => absurd h (by decide), fun h => absurd h (by decide), fun h => absurd h (by decide), fun h => absurd h (by decide), fun h => absurd h (by decide), fun h => absurd h (by decide), ?_, fun h => absurd h (by decide), fun h => absurd h (by decide), fun h => absurd h (by decide), fun h => absurd h (by decide), fun h => absurd h (by decide), fun h => absurd h (by decide), fun h => absurd h (by decide), fun h => absurd h (by decide), fun h => absurd h (by decide), fun h => absurd h (by decide), fun h => absurd h (by decide), fun h => absurd h (by decide), fun h => absurd h (by decide), fun h => absurd h (by decide), fun h => absurd h (by decide)⟩
  exact fun _ => ⟨a, b, c, rfl, ha, hb, hc⟩
theorem te {B A B' A' : List Int} {z : Int} (e : B ++ A = B' ++ A') (h : z = B.length) (h' : z = B'.length) : B' = B ∧ A' = A := by
  have := List.append_inj e (by omega)
  exact ⟨this.1.symm, this.2.symm⟩
theorem eTE {B A : List Int} {z : Int} (h : z = B.length) (P : Int → Prop) {k : Int} (hk : P k) : ∀ B' A', B ++ A = B' ++ A' → z = (B'.length : Int) → ∃ k', P k' ∧ B ++ [k] = B' ++ [k'] := fun B' A' e h' => by
  obtain ⟨rfl, -⟩ := te e h h'
  exact ⟨k, hk, rfl⟩
theorem tyE {g : pG} {r : List pG} {K : List Int} {d : Int} {S : List Int} {t : Int} (P : Int → Prop) (hp : pPre g K d S t) (hc : (r.length : Int) + pCost g ≤ 60 * (d + 1)) (he : ∀ K' d' S', pEff g K d S K' d' S' → (∃ k, P k ∧ K' = K ++ [k]) ∧ d' = d ∧ S' = S) (hn : ∀ k t', P k → t ≤ t' → pTy r (K ++ [k]) d S t') : pTy (g :: r) K d S t := ⟨hp, hc, fun K' d' S' t' e _ _ _ h => by
  obtain ⟨⟨k, q, rfl⟩, rfl, rfl⟩ := he _ _ _ e
  exact hn k t' q h⟩
theorem tyU {g : pG} {r : List pG} {K : List Int} {d : Int} {S : List Int} {t : Int} (P : Int → Prop) (hp : pPre g K d S t) (hc : (r.length : Int) + pCost g ≤ 60 * (d + 1)) (he : ∀ K' d' S', pEff g K d S K' d' S' → (∃ k, P k ∧ K' = K ++ [k]) ∧ d ≤ d' ∧ S' = S) (hn : ∀ k d' t', P k → d ≤ d' → d' ≤ 60 → okS S d' → t ≤ t' → pTy r (K ++ [k]) d' S t') : pTy (g :: r) K d S t := ⟨hp, hc, fun K' d' S' t' e _ h6 ho h => by
  obtain ⟨⟨k, q, rfl⟩, hd, rfl⟩ := he _ _ _ e
  exact hn k d' t' q hd h6 ho h⟩
theorem tyTE {g : pG} {r : List pG} {B A : List Int} {d : Int} {S : List Int} {t : Int} (P : Int → Prop) (ez : g.2.2.2 = (B.length : Int)) (hp : pPre g (B ++ A) d S t) (hc : (r.length : Int) + pCost g ≤ 60 * (d + 1)) (he : ∀ K' d' S', pEff g (B ++ A) d S K' d' S' → (∀ B' A', B ++ A = B' ++ A' → g.2.2.2 = (B'.length : Int) → ∃ k, P k ∧ K' = B' ++ [k]) ∧ d' = d ∧ S' = S) (hn : ∀ k t', P k → t ≤ t' → pTy r (B ++ [k]) d S t') : pTy (g :: r) (B ++ A) d S t := ⟨hp, hc, fun K' d' S' t' e _ _ _ h => by
  obtain ⟨e1, rfl, rfl⟩ := he _ _ _ e
  obtain ⟨k, q, rfl⟩ := e1 B A rfl ez
  exact hn k t' q h⟩
theorem tyTU {g : pG} {r : List pG} {B A : List Int} {d : Int} {S : List Int} {t : Int} (P : Int → Prop) (ez : g.2.2.2 = (B.length : Int)) (hp : pPre g (B ++ A) d S t) (hc : (r.length : Int) + pCost g ≤ 60 * (d + 1)) (he : ∀ K' d' S', pEff g (B ++ A) d S K' d' S' → (∀ B' A', B ++ A = B' ++ A' → g.2.2.2 = (B'.length : Int) → ∃ k, P k ∧ K' = B' ++ [k]) ∧ d ≤ d' ∧ S' = S) (hn : ∀ k d' t', P k → d ≤ d' → d' ≤ 60 → okS S d' → t ≤ t' → pTy r (B ++ [k]) d' S t') : pTy (g :: r) (B ++ A) d S t := ⟨hp, hc, fun K' d' S' t' e _ h6 ho h => by
  obtain ⟨e1, hd, rfl⟩ := he _ _ _ e
  obtain ⟨k, q, rfl⟩ := e1 B A rfl ez
  exact hn k d' t' q hd h6 ho h⟩
theorem tyDP {r : List pG} {K : List Int} {d x : Int} {S : List Int} {t : Int} (h0 : 0 ≤ x) (h6 : x ≤ 60) (ho : okS S x) (hc : (r.length : Int) + 1 ≤ 60 * (d + 1)) (hn : ∀ t', t ≤ t' → pTy r K x S t') : pTy ((15, x, 0, 0) :: r) K d S t := ⟨⟨h0, h6, ho⟩, hc, fun K' d' S' t' e _ _ _ h => by
  obtain ⟨rfl, rfl, rfl⟩ := e
  exact hn t' h⟩
theorem tySH {r : List pG} {B A : List Int} {d x y z : Int} {S : List Int} {t : Int} (ez : z = (B.length : Int)) (hs : fSh x A) (n20 : ¬ x = 20) (n3 : ¬ x = 3) (x0 : 0 ≤ x) (x6 : x ≤ 60) (y0 : 0 ≤ y) (y1 : y ≤ 12000) (hc : (r.length : Int) + 1 ≤ 60 * (d + 1)) (hn : ∀ t', t ≤ t' → pTy r (B ++ [x]) d S t') : pTy ((6, x, y, z) :: r) (B ++ A) d S t := ⟨⟨⟨B, A, rfl, ez, hs⟩, n20, n3, x0, x6, y0, y1⟩, hc, fun K' d' S' t' e _ _ _ h => by
  obtain ⟨e1, rfl, rfl⟩ := e
  obtain rfl := e1 B A rfl ez
  exact hn t' h⟩
theorem tyEX {r : List pG} {K : List Int} {d : Int} {S : List Int} {t : Int} {g : pG} (hp : pPre g K d S t) (hc : (r.length : Int) + pCost g ≤ 60 * (d + 1)) (he : ∀ K' d' S', pEff g K d S K' d' S' → K' = K ∧ d' = d ∧ S' = S) (hn : ∀ t', t ≤ t' → pTy r K d S t') : pTy (g :: r) K d S t := ⟨hp, hc, fun K' d' S' t' e _ _ _ h => by
  obtain ⟨rfl, rfl, rfl⟩ := he _ _ _ e
  exact hn t' h⟩
theorem fE_e1 {k a : Int} (hk : k = 7 ∨ k = 8 ∨ k = 10 ∨ k = 33 ∨ k = 43 ∨ k = 56 ∨ k = 59) (ha : kE a) : fSh k [a] := by
  rcases hk with rfl | rfl | rfl | rfl | rfl | rfl | rfl
  all_goals
    refine ⟨fun h => absurd h (by decide), fun h => absurd h (by decide), fun h => absurd h (by decide), fun h => absurd h (by decide), ?_, fun h => absurd h (by decide), fun h => absurd h (by decide), fun h => absurd h (by decide), fun h => absurd h (by decide), fun h => absurd h (by decide), fun h => absurd h (by decide), fun h => absurd h (by decide), fun h => absurd h (by decide), fun h => absurd h (by decide), fun h => absurd h (by decide), fun h => absurd h (by decide), fun h => absurd h (by decide), fun h => absurd h (by decide), fun h => absurd h (by decide), fun h => absurd h (by decide), fun h => absurd h (by decide), fun h => absurd h (by decide), fun h => absurd h (by decide)⟩
    exact fun _ => ⟨a, rfl, ha⟩
theorem fE_bi {a b : Int} (ha : kE a) (hb : kE b) : fSh 9 [a, b] := by
  refine ⟨fun h => absurd h (by decide), fun h => absurd h (by decide), fun h => absurd h (by decide), fun h => absurd h (by decide), fun h => absurd h (by decide), ?_, fun h => absurd h (by decide), fun h => absurd h (by decide), fun h => absurd h (by decide), fun h => absurd h (by decide), fun h => absurd h (by decide), fun h => absurd h (by decide), fun h => absurd h (by decide), fun h => absurd h (by decide), fun h => absurd h (by decide), fun h => absurd h (by decide), fun h => absurd h (by decide), fun h => absurd h (by decide), fun h => absurd h (by decide), fun h => absurd h (by decide), fun h => absurd h (by decide), fun h => absurd h (by decide), fun h => absurd h (by decide)⟩
  exact fun _ => ⟨a, b, rfl, ha, hb⟩
theorem fE_re {a b : Int} (ha : kE a) (hb : kE b) : fSh 11 [a, b] := by
  refine ⟨fun h => absurd h (by decide), fun h => absurd h (by decide), fun h => absurd h (by decide), fun h => absurd h (by decide), fun h => absurd h (by decide), fun h => absurd h (by decide), ?_, fun h => absurd h (by decide), fun h => absurd h (by decide), fun h => absurd h (by decide), fun h => absurd h (by decide), fun h => absurd h (by decide), fun h => absurd h (by decide), fun h => absurd h (by decide), fun h => absurd h (by decide), fun h => absurd h (by decide), fun h => absurd h (by decide), fun h => absurd h (by decide), fun h => absurd h (by decide), fun h => absurd h (by decide), fun h => absurd h (by decide), fun h => absurd h (by decide), fun h => absurd h (by decide)⟩
  exact fun _ => ⟨a, b, [], rfl, fun c hc => by
    rcases List.mem_cons.mp hc with rfl | hc
    · exact ha
    · rw [List.mem_singleton.mp hc]; exact hb⟩
theorem fE_ca {l : List Int} (h : ¬ l = []) (h2 : ∀ c ∈ l, kE c) : fSh 6 l := by
  refine ⟨fun h => absurd h (by decide), fun h => absurd h (by decide), fun h => absurd h (by decide), ?_, fun h => absurd h (by decide), fun h => absurd h (by decide), fun h => absurd h (by decide), fun h => absurd h (by decide), fun h => absurd h (by decide), fun h => absurd h (by decide), fun h => absurd h (by decide), fun h => absurd h (by decide), fun h => absurd h (by decide), fun h => absurd h (by decide), fun h => absurd h (by decide), fun h => absurd h (by decide), fun h => absurd h (by decide), fun h => absurd h (by decide), fun h => absurd h (by decide), fun h => absurd h (by decide), fun h => absurd h (by decide), fun h => absurd h (by decide), fun h => absurd h (by decide)⟩
  exact fun _ => ⟨h, h2⟩
theorem fE_ta {l : List Int} (h : ¬ l = []) (h2 : ∀ c ∈ l, kE c) : fSh 5 l := by
  refine ⟨fun h => absurd h (by decide), fun h => absurd h (by decide), ?_, fun h => absurd h (by decide), fun h => absurd h (by decide), fun h => absurd h (by decide), fun h => absurd h (by decide), fun h => absurd h (by decide), fun h => absurd h (by decide), fun h => absurd h (by decide), fun h => absurd h (by decide), fun h => absurd h (by decide), fun h => absurd h (by decide), fun h => absurd h (by decide), fun h => absurd h (by decide), fun h => absurd h (by decide), fun h => absurd h (by decide), fun h => absurd h (by decide), fun h => absurd h (by decide), fun h => absurd h (by decide), fun h => absurd h (by decide), fun h => absurd h (by decide), fun h => absurd h (by decide)⟩
  exact fun _ => ⟨h, h2⟩
theorem fE_va {a : Int} (ha : kC a) : fSh 4 [a] := by
  refine ⟨fun h => absurd h (by decide), ?_, fun h => absurd h (by decide), fun h => absurd h (by decide), fun h => absurd h (by decide), fun h => absurd h (by decide), fun h => absurd h (by decide), fun h => absurd h (by decide), fun h => absurd h (by decide), fun h => absurd h (by decide), fun h => absurd h (by decide), fun h => absurd h (by decide), fun h => absurd h (by decide), fun h => absurd h (by decide), fun h => absurd h (by decide), fun h => absurd h (by decide), fun h => absurd h (by decide), fun h => absurd h (by decide), fun h => absurd h (by decide), fun h => absurd h (by decide), fun h => absurd h (by decide), fun h => absurd h (by decide), fun h => absurd h (by decide)⟩
  exact fun _ => ⟨a, rfl, ha⟩
theorem fE_lf {k : Int} (hk : k = 1 ∨ k = 2 ∨ k = 3 ∨ k = 29 ∨ k = 30 ∨ k = 31 ∨ k = 32 ∨ k = 34 ∨ k = 35 ∨ k = 37 ∨ k = 42 ∨ k = 44 ∨ k = 57 ∨ k = 58) : fSh k [] := by
  rcases hk with rfl | rfl | rfl | rfl | rfl | rfl | rfl | rfl | rfl | rfl | rfl | rfl | rfl | rfl
  all_goals
    refine ⟨?_, fun h => absurd h (by decide), fun h => absurd h (by decide), fun h => absurd h (by decide), fun h => absurd h (by decide), fun h => absurd h (by decide), fun h => absurd h (by decide), fun h => absurd h (by decide), fun h => absurd h (by decide), fun h => absurd h (by decide), fun h => absurd h (by decide), fun h => absurd h (by decide), fun h => absurd h (by decide), fun h => absurd h (by decide), fun h => absurd h (by decide), fun h => absurd h (by decide), fun h => absurd h (by decide), fun h => absurd h (by decide), fun h => absurd h (by decide), fun h => absurd h (by decide), fun h => absurd h (by decide), fun h => absurd h (by decide), fun h => absurd h (by decide)⟩
    exact fun _ => rfl
theorem st_28 {s0 s : zS} {x y z : Int} {r : List pG} {S K : List Int} {N : Nat} {M : Int} (hx : pX s0 s (28, x, y, z) r S K N M) {Q : Int → zS → Prop} (hq : ∀ e s', pR s0 M e s' → Q e s') : wr_reachE s 28 x y z Q := by
  obtain ⟨h0, t0, t1, t2, d0, d1, ok, pot, eM, hK, pre, cost, hr⟩ := hx
  have hl : (r.length : Int) + 30 ≤ 60 * (zv s 44 + 1) := cost
  have hp : (N : Int) + (0 + pPots r) ≤ 2 * zv s 43 + 4 := pot
  have hM : M = 200 * (zv s0 8 - zv s 43) + (22 + pWgts r) := eM
  have hp0 := pP0 r
  obtain ⟨o1, o2, o3⟩ := h0.outs
  clear cost pot eM
  unfold wr_reachE
  refine sp_tkM h0 t0 (by omega) (fun k hk => ?_)
  repeat' (first | (with_reducible refine ⟨fun c => absurd c (by decide), fun _ => ?_⟩) | (with_reducible refine ⟨fun _ => ?_, fun c => absurd c (by decide)⟩) | fail)
  refine sp_goalM h0 (by show (r.length : Nat) < 9000; omega) _ _ _ _ (fun s1 h1 a1 b1 c1 => ?_)
  refine sp_goalM h1 (by show (r.length + 1 : Nat) < 9000; omega) _ _ _ _ (fun s2 h2 a2 b2 c2 => ?_)
  refine hq _ _ (pR.ok h2 (d := zv s 44) (t := zv s 43) (by omega) (by omega) (by omega) (by omega) (by omega) (by omega) ok (by show (N : Int) + (0 + (0 + pPots r)) ≤ _; omega) (by show 200 * (zv s0 8 - (zv s 43)) + ((((22 - 2 * 1 : Int).toNat : Nat) : Int) + (1 + pWgts r)) < _; omega) ?_)

  refine tyE kE ⟨by decide, by decide⟩ (by show ((r.length + 1 : Nat) : Int) + (30 - 2 * 1) ≤ _; omega) (fun _ _ _ e => e) (fun k1 T1 q1 f1 => ?_)
  refine tyTE kE o1 ⟨⟨K, [k1], rfl, o1, fun _ => ⟨k1, rfl, q1⟩, fun e => absurd e (by decide : ¬ (0 : Int) = 1), fun e => absurd rfl e⟩, Int.le_refl 0, (by decide : (0 : Int) ≤ 12000)⟩ (by show ((r.length : Nat) : Int) + 2 ≤ _; omega) (fun _ _ _ e => e) (fun k2 T2 q2 f2 => ?_)
  exact hr _ _ _ _ ⟨⟨k2, q2, rfl⟩, rfl, rfl⟩ d0 d1 ok (by omega)
theorem st_29 {s0 s : zS} {x y z : Int} {r : List pG} {S K : List Int} {N : Nat} {M : Int} (hx : pX s0 s (29, x, y, z) r S K N M) {Q : Int → zS → Prop} (hq : ∀ e s', pR s0 M e s' → Q e s') : wr_reachE s 29 x y z Q := by
  obtain ⟨h0, t0, t1, t2, d0, d1, ok, pot, eM, hK, pre, cost, hr⟩ := hx
  have hl : (r.length : Int) + (if x = 1 then 32 else 2) ≤ 60 * (zv s 44 + 1) := cost
  have hp : (N : Int) + ((if x = 0 then 0 else 1) + pPots r) ≤ 2 * zv s 43 + 4 := pot
  have hM : M = 200 * (zv s0 8 - zv s 43) + (1 + pWgts r) := eM
  have hp0 := pP0 r
  obtain ⟨o1, o2, o3⟩ := h0.outs
  clear cost pot eM
  unfold wr_reachE
  refine sp_tkM h0 t0 (by omega) (fun k hk => ?_)
  repeat' (first | (with_reducible refine ⟨fun c => absurd c (by decide), fun _ => ?_⟩) | (with_reducible refine ⟨fun _ => ?_, fun c => absurd c (by decide)⟩) | fail)
  obtain ⟨⟨B, A, rfl, ez, p1, p2, p3⟩, tk1, tk2⟩ := pre
  have ez' : z = (B.length : Int) := ez
  refine ⟨fun c => ⟨fun c2 => ?_, fun c2 => ?_⟩, fun c => ⟨fun c2 => ?_, fun c2 => ?_⟩⟩
  · obtain ⟨a, b, e, rfl, ha, hb, he⟩ := p3 c c2
    rw [if_neg c] at hp
    refine sp_shutM h0 (by omega) ez' (fE_co ha hb he) (by decide) (by decide) (by decide) (by decide) tk1 tk2 (fun s1 h1 a1 b1 _ => ?_)
    refine hq _ _ (pR.ok h1 (d := zv s 44) (t := zv s 43) (by omega) (by omega) (by omega) (by omega) (by omega) (by omega) ok (by show (((N + 1 : Nat) : Int) : Int) + pPots r ≤ _; omega) (by show 200 * (zv s0 8 - (zv s 43)) + pWgts r < _; omega) ?_)
    exact hr _ _ _ _ ⟨eTE ez' kE (⟨by decide, by decide⟩ : kE 12), rfl, rfl⟩ d0 d1 ok (Int.le_refl _)
  · obtain ⟨a, b, rfl, ha, hb⟩ := p2 c2
    rw [if_neg c] at hp
    rw [if_pos c2] at hl
    refine sp_goalM h0 (by show (r.length : Nat) < 9000; omega) _ _ _ _ (fun s1 h1 a1 b1 c1 => ?_)
    refine sp_goalM h1 (by show (r.length + 1 : Nat) < 9000; omega) _ _ _ _ (fun s2 h2 a2 b2 c2 => ?_)
    refine sp_takeN h2 (by omega) (by omega) (by decide) ?_ (fun v1 v2 s3 h3 a3 b3 c3 => ⟨Or.inr rfl, ?_⟩)
    · exact ⟨Or.inl rfl, hq _ _ (pR.no h2 (by omega) (by omega))⟩
    refine hq _ _ (pR.ok h3 (d := zv s 44) (t := zv s 43 + 1) (by omega) (by omega) (by omega) (by omega) (by omega) (by omega) ok (by show (N : Int) + (0 + (1 + pPots r)) ≤ _; omega) (by show 200 * (zv s0 8 - (zv s 43 + 1)) + (22 + (1 + pWgts r)) < _; omega) ?_)
    refine tyE kE trivial (by show ((r.length + 1 : Nat) : Int) + 30 ≤ _; omega) (fun _ _ _ e => e) (fun k1 T1 q1 f1 => ?_)
    rw [List.append_assoc]
    refine tyTE kE ez' ⟨⟨B, [a, b, k1], rfl, ez', fun e => absurd e (by decide : ¬ (2 : Int) = 0), fun e => absurd e (by decide : ¬ (2 : Int) = 1), fun _ _ => ⟨a, b, k1, rfl, ha, hb, q1⟩⟩, tk1, tk2⟩ (by show ((r.length : Nat) : Int) + 2 ≤ _; omega) (fun _ _ _ e => e) (fun k2 T2 q2 f2 => ?_)
    exact hr _ _ _ _ ⟨eTE ez' kE q2, rfl, rfl⟩ d0 d1 ok (by omega)
  · subst c
    obtain ⟨a, rfl, ha⟩ := p1 rfl
    have hp : (N : Int) + (0 + pPots r) ≤ 2 * zv s 43 + 4 := hp
    have hk2 := hk (by omega)
    refine sp_deeperN h0 d0 d1 ⟨fun e => absurd rfl e, fun _ => hq _ _ (pR.no h0 t0 t1)⟩ (fun v s1 h1 a1 b1 c1 => ⟨fun _ => ⟨⟨by omega, by omega⟩, ?_⟩, fun e => absurd e (by decide)⟩)
    obtain ⟨s2, es, h2, a2, b2, c2⟩ := h1.at1
    rw [es]
    refine sp_goalM h2 (by show (r.length : Nat) < 9000; omega) _ _ _ _ (fun s3 h3 a3 b3 c3 => ?_)
    refine sp_goalM h3 (by show (r.length + 1 : Nat) < 9000; omega) _ _ _ _ (fun s4 h4 a4 b4 c4 => ?_)
    refine sp_goalM h4 (by show (r.length + 1 + 1 : Nat) < 9000; omega) _ _ _ _ (fun s5 h5 a5 b5 c5 => ?_)
    refine hq _ _ (pR.ok h5 (d := zv s 44 + 1) (t := zv s 43 + 1) (by omega) (by omega) (by omega) (by omega) (by omega) (by omega) (ok.mono (by omega)) (by show (N : Int) + (0 + (1 + (0 + pPots r))) ≤ _; omega) (by show 200 * (zv s0 8 - (zv s 43 + 1)) + (22 + (1 + (1 + pWgts r))) < _; omega) ?_)
    refine tyE kE trivial (by show ((r.length + 1 + 1 : Nat) : Int) + 30 ≤ _; omega) (fun _ _ _ e => e) (fun k1 T1 q1 f1 => ?_)
    rw [List.append_assoc]
    refine tyTE kE ez' ⟨⟨B, [a, k1], rfl, ez', fun e => absurd e (by decide : ¬ (1 : Int) = 0), fun _ => ⟨a, k1, rfl, ha, q1⟩, fun _ e => absurd rfl e⟩, t0, by show zv s 43 ≤ 12000; omega⟩ (by show ((r.length + 1 : Nat) : Int) + 32 ≤ _; omega) (fun _ _ _ e => e) (fun k2 T2 q2 f2 => ?_)
    refine tyDP d0 d1 ok (by show ((r.length : Nat) : Int) + 1 ≤ _; omega) (fun T3 f3 => ?_)
    exact hr _ _ _ _ ⟨eTE ez' kE q2, rfl, rfl⟩ d0 d1 ok (by omega)
  · obtain ⟨a, rfl, ha⟩ := p1 c
    rw [if_pos c] at hp
    refine hq _ _ (pR.ok h0 (d := zv s 44) (t := zv s 43) (by omega) (by omega) (by omega) (by omega) (by omega) (by omega) ok (by show (N : Int) + pPots r ≤ _; omega) (by show 200 * (zv s0 8 - (zv s 43)) + pWgts r < _; omega) ?_)
    exact hr _ _ _ _ ⟨eTE ez' kE ha, rfl, rfl⟩ d0 d1 ok (Int.le_refl _)
theorem st_30 {s0 s : zS} {x y z : Int} {r : List pG} {S K : List Int} {N : Nat} {M : Int} (hx : pX s0 s (30, x, y, z) r S K N M) {Q : Int → zS → Prop} (hq : ∀ e s', pR s0 M e s' → Q e s') : wr_reachE s 30 x y z Q := by
  obtain ⟨h0, t0, t1, t2, d0, d1, ok, pot, eM, hK, pre, cost, hr⟩ := hx
  have hl : (r.length : Int) + (30 - 2 * x) ≤ 60 * (zv s 44 + 1) := cost
  have hp : (N : Int) + (0 + pPots r) ≤ 2 * zv s 43 + 4 := pot
  have hM : M = 200 * (zv s0 8 - zv s 43) + ((((22 - 2 * x).toNat : Nat) : Int) + pWgts r) := eM
  have hp0 := pP0 r
  obtain ⟨o1, o2, o3⟩ := h0.outs
  clear cost pot eM
  unfold wr_reachE
  refine sp_tkM h0 t0 (by omega) (fun k hk => ?_)
  repeat' (first | (with_reducible refine ⟨fun c => absurd c (by decide), fun _ => ?_⟩) | (with_reducible refine ⟨fun _ => ?_, fun c => absurd c (by decide)⟩) | fail)
  obtain ⟨x1, x7⟩ := pre
  have x1' : 1 ≤ x := x1
  have x7' : x ≤ 7 := x7
  refine sp_goalM h0 (by show (r.length : Nat) < 9000; omega) _ _ _ _ (fun s1 h1 a1 b1 c1 => ?_)
  refine ⟨fun c => ?_, fun c => ⟨⟨by omega, by omega⟩, ?_⟩⟩
  · obtain rfl : x = 7 := by omega
    refine sp_goalM h1 (by show (r.length + 1 : Nat) < 9000; omega) _ _ _ _ (fun s2 h2 a2 b2 c2 => ?_)
    refine hq _ _ (pR.ok h2 (d := zv s 44) (t := zv s 43) (by omega) (by omega) (by omega) (by omega) (by omega) (by omega) ok (by show (N : Int) + (0 + (0 + pPots r)) ≤ _; omega) (by show 200 * (zv s0 8 - (zv s 43)) + (6 + (1 + pWgts r)) < _; omega) ?_)
    refine tyE kE trivial (by show ((r.length + 1 : Nat) : Int) + 12 ≤ _; omega) (fun _ _ _ e => e) (fun k1 T1 q1 f1 => ?_)
    refine tyTE kE o1 ⟨⟨K, [k1], rfl, o1, k1, rfl, q1⟩, x1, x7⟩ (by show ((r.length : Nat) : Int) + (30 - 2 * 7) ≤ _; omega) (fun _ _ _ e => e) (fun k2 T2 q2 f2 => ?_)
    exact hr _ _ _ _ ⟨⟨k2, q2, rfl⟩, rfl, rfl⟩ d0 d1 ok (by omega)
  · skip
    refine sp_goalM h1 (by show (r.length + 1 : Nat) < 9000; omega) _ _ _ _ (fun s2 h2 a2 b2 c2 => ?_)
    refine hq _ _ (pR.ok h2 (d := zv s 44) (t := zv s 43) (by omega) (by omega) (by omega) (by omega) (by omega) (by omega) ok (by show (N : Int) + (0 + (0 + pPots r)) ≤ _; omega) (by show 200 * (zv s0 8 - (zv s 43)) + ((((22 - 2 * (x + 1) : Int).toNat : Nat) : Int) + (1 + pWgts r)) < _; omega) ?_)
    refine tyE kE ⟨by show 1 ≤ x + 1; omega, by show x + 1 ≤ 7; omega⟩ (by show ((r.length + 1 : Nat) : Int) + (30 - 2 * (x + 1)) ≤ _; omega) (fun _ _ _ e => e) (fun k1 T1 q1 f1 => ?_)
    refine tyTE kE o1 ⟨⟨K, [k1], rfl, o1, k1, rfl, q1⟩, x1, x7⟩ (by show ((r.length : Nat) : Int) + (30 - 2 * x) ≤ _; omega) (fun _ _ _ e => e) (fun k2 T2 q2 f2 => ?_)
    exact hr _ _ _ _ ⟨⟨k2, q2, rfl⟩, rfl, rfl⟩ d0 d1 ok (by omega)
theorem sp_levelOf (s : zS) (a : Int) : wr_levelOf s a (fun r s' => s = s' ∧ (a = 0 → r = 0)) := by
  unfold wr_levelOf wr_levelOf_58
  repeat' (first | (with_reducible intro _) | (with_reducible apply And.intro) | omega | rfl)
theorem st_31 {s0 s : zS} {x y z : Int} {r : List pG} {S K : List Int} {N : Nat} {M : Int} (hx : pX s0 s (31, x, y, z) r S K N M) {Q : Int → zS → Prop} (hq : ∀ e s', pR s0 M e s' → Q e s') : wr_reachE s 31 x y z Q := by
  obtain ⟨h0, t0, t1, t2, d0, d1, ok, pot, eM, hK, pre, cost, hr⟩ := hx
  have hl : (r.length : Int) + (30 - 2 * x) ≤ 60 * (zv s 44 + 1) := cost
  have hp : (N : Int) + (0 + pPots r) ≤ 2 * zv s 43 + 4 := pot
  have hM : M = 200 * (zv s0 8 - zv s 43) + (1 + pWgts r) := eM
  have hp0 := pP0 r
  obtain ⟨o1, o2, o3⟩ := h0.outs
  clear cost pot eM
  unfold wr_reachE
  refine sp_tkM h0 t0 (by omega) (fun k hk => ?_)
  repeat' (first | (with_reducible refine ⟨fun c => absurd c (by decide), fun _ => ?_⟩) | (with_reducible refine ⟨fun _ => ?_, fun c => absurd c (by decide)⟩) | fail)
  obtain ⟨⟨B, A, rfl, ez, a, rfl, ha⟩, x1, x7⟩ := pre
  have ez' : z = (B.length : Int) := ez
  have x1' : 1 ≤ x := x1
  have x7' : x ≤ 7 := x7
  refine ffm_levelOf (sp_levelOf s k) ?_
  rintro v s' - ⟨rfl, hv⟩
  refine ⟨fun c => ?_, fun c => ?_⟩
  · have hk2 := hk (fun e => by have := hv e; omega)
    refine ⟨⟨by omega, by omega⟩, ?_⟩
    obtain ⟨s2, es, h2, a2, b2, c2⟩ := h0.at1
    rw [es]
    refine sp_goalM h2 (by show (r.length : Nat) < 9000; omega) _ _ _ _ (fun s3 h3 a3 b3 c3 => ?_)
    refine sp_goalM h3 (by show (r.length + 1 : Nat) < 9000; omega) _ _ _ _ (fun s4 h4 a4 b4 c4 => ?_)
    refine ⟨fun c7 => ?_, fun c7 => ⟨⟨by omega, by omega⟩, ?_⟩⟩
    · skip
      refine sp_goalM h4 (by show (r.length + 1 + 1 : Nat) < 9000; omega) _ _ _ _ (fun s5 h5 a5 b5 c5 => ?_)
      refine hq _ _ (pR.ok h5 (d := zv s 44) (t := zv s 43 + 1) (by omega) (by omega) (by omega) (by omega) (by omega) (by omega) ok (by show (N : Int) + (0 + (1 + (0 + pPots r))) ≤ _; omega) (by show 200 * (zv s0 8 - (zv s 43 + 1)) + (6 + (1 + (1 + pWgts r))) < _; omega) ?_)
      refine tyE kE trivial (by show ((r.length + 1 + 1 : Nat) : Int) + 12 ≤ _; omega) (fun _ _ _ e => e) (fun k1 T1 q1 f1 => ?_)
      rw [List.append_assoc]
      refine tyTE kE ez' ⟨⟨B, [a, k1], rfl, ez', a, k1, rfl, ha, q1⟩, t0, by show zv s 43 ≤ 12000; omega⟩ (by show ((r.length + 1 : Nat) : Int) + 1 ≤ _; omega) (fun _ _ _ e => e) (fun k2 T2 q2 f2 => ?_)
      refine tyTE kE ez' ⟨⟨B, [k2], rfl, ez', k2, rfl, q2⟩, x1, x7⟩ (by show ((r.length : Nat) : Int) + (30 - 2 * x) ≤ _; omega) (fun _ _ _ e => e) (fun k3 T3 q3 f3 => ?_)
      exact hr _ _ _ _ ⟨eTE ez' kE q3, rfl, rfl⟩ d0 d1 ok (by omega)
    · skip
      refine sp_goalM h4 (by show (r.length + 1 + 1 : Nat) < 9000; omega) _ _ _ _ (fun s5 h5 a5 b5 c5 => ?_)
      refine hq _ _ (pR.ok h5 (d := zv s 44) (t := zv s 43 + 1) (by omega) (by omega) (by omega) (by omega) (by omega) (by omega) ok (by show (N : Int) + (0 + (1 + (0 + pPots r))) ≤ _; omega) (by show 200 * (zv s0 8 - (zv s 43 + 1)) + ((((22 - 2 * (x + 1) : Int).toNat : Nat) : Int) + (1 + (1 + pWgts r))) < _; omega) ?_)
      refine tyE kE ⟨by show 1 ≤ x + 1; omega, by show x + 1 ≤ 7; omega⟩ (by show ((r.length + 1 + 1 : Nat) : Int) + (30 - 2 * (x + 1)) ≤ _; omega) (fun _ _ _ e => e) (fun k1 T1 q1 f1 => ?_)
      rw [List.append_assoc]
      refine tyTE kE ez' ⟨⟨B, [a, k1], rfl, ez', a, k1, rfl, ha, q1⟩, t0, by show zv s 43 ≤ 12000; omega⟩ (by show ((r.length + 1 : Nat) : Int) + 1 ≤ _; omega) (fun _ _ _ e => e) (fun k2 T2 q2 f2 => ?_)
      refine tyTE kE ez' ⟨⟨B, [k2], rfl, ez', k2, rfl, q2⟩, x1, x7⟩ (by show ((r.length : Nat) : Int) + (30 - 2 * x) ≤ _; omega) (fun _ _ _ e => e) (fun k3 T3 q3 f3 => ?_)
      exact hr _ _ _ _ ⟨eTE ez' kE q3, rfl, rfl⟩ d0 d1 ok (by omega)
  · refine hq _ _ (pR.ok h0 (d := zv s 44) (t := zv s 43) (by omega) (by omega) (by omega) (by omega) (by omega) (by omega) ok (by show (N : Int) + pPots r ≤ _; omega) (by show 200 * (zv s0 8 - (zv s 43)) + pWgts r < _; omega) ?_)
    exact hr _ _ _ _ ⟨eTE ez' kE ha, rfl, rfl⟩ d0 d1 ok (Int.le_refl _)
theorem st_33 {s0 s : zS} {x y z : Int} {r : List pG} {S K : List Int} {N : Nat} {M : Int} (hx : pX s0 s (33, x, y, z) r S K N M) {Q : Int → zS → Prop} (hq : ∀ e s', pR s0 M e s' → Q e s') : wr_reachE s 33 x y z Q := by
  obtain ⟨h0, t0, t1, t2, d0, d1, ok, pot, eM, hK, pre, cost, hr⟩ := hx
  have hl : (r.length : Int) + 12 ≤ 60 * (zv s 44 + 1) := cost
  have hp : (N : Int) + (0 + pPots r) ≤ 2 * zv s 43 + 4 := pot
  have hM : M = 200 * (zv s0 8 - zv s 43) + (6 + pWgts r) := eM
  have hp0 := pP0 r
  obtain ⟨o1, o2, o3⟩ := h0.outs
  clear cost pot eM
  unfold wr_reachE
  refine sp_tkM h0 t0 (by omega) (fun k hk => ?_)
  repeat' (first | (with_reducible refine ⟨fun c => absurd c (by decide), fun _ => ?_⟩) | (with_reducible refine ⟨fun _ => ?_, fun c => absurd c (by decide)⟩) | fail)
  have A : ¬ k = 0 → wr_reachE_343 Q s (zv s 43) := fun hk0 => by
    have hk2 := hk hk0
    unfold wr_reachE_343
    refine sp_deeperN h0 d0 d1 ⟨fun e => absurd rfl e, fun _ => hq _ _ (pR.no h0 t0 t1)⟩ (fun v s1 h1 a1 b1 c1 => ⟨fun _ => ⟨⟨by omega, by omega⟩, ?_⟩, fun e => absurd e (by decide)⟩)
    have o4 : zv s1 37 = K.length := by omega
    obtain ⟨s2, es, h2, a2, b2, c2⟩ := h1.at1
    rw [es]
    refine sp_goalM h2 (by show (r.length : Nat) < 9000; omega) _ _ _ _ (fun s3 h3 a3 b3 c3 => ?_)
    refine sp_goalM h3 (by show (r.length + 1 : Nat) < 9000; omega) _ _ _ _ (fun s4 h4 a4 b4 c4 => ?_)
    refine sp_goalM h4 (by show (r.length + 1 + 1 : Nat) < 9000; omega) _ _ _ _ (fun s5 h5 a5 b5 c5 => ?_)
    refine hq _ _ (pR.ok h5 (d := zv s 44 + 1) (t := zv s 43 + 1) (by omega) (by omega) (by omega) (by omega) (by omega) (by omega) (ok.mono (by omega)) (by show (N : Int) + (0 + (1 + (0 + pPots r))) ≤ _; omega) (by show 200 * (zv s0 8 - (zv s 43 + 1)) + (6 + (1 + (1 + pWgts r))) < _; omega) ?_)
    refine tyE kE trivial (by show ((r.length + 1 + 1 : Nat) : Int) + 12 ≤ _; omega) (fun _ _ _ e => e) (fun k1 T1 q1 f1 => ?_)
    refine tyTE kE (by show zv _ 37 = _; omega) ⟨⟨K, [k1], rfl, by show zv _ 37 = _; omega, k1, rfl, q1⟩, t0, by show zv s 43 ≤ 12000; omega⟩ (by show ((r.length + 1 : Nat) : Int) + 4 ≤ _; omega) (fun _ _ _ e => ⟨e.1, e.2.2.2 rfl, e.2.2.1⟩) (fun k2 T2 q2 f2 => ?_)
    refine tyDP d0 d1 ok (by show ((r.length : Nat) : Int) + 1 ≤ _; omega) (fun T3 f3 => ?_)
    exact hr _ _ _ _ ⟨⟨k2, q2, rfl⟩, rfl, rfl⟩ d0 d1 ok (by omega)
  refine ⟨fun c => A (by omega), fun _ => ⟨fun c => A (by omega), fun _ => ⟨fun c => A (by omega), fun _ => ?_⟩⟩⟩
  refine sp_goalM h0 (by show (r.length : Nat) < 9000; omega) _ _ _ _ (fun s1 h1 a1 b1 c1 => ?_)
  refine hq _ _ (pR.ok h1 (d := zv s 44) (t := zv s 43) (by omega) (by omega) (by omega) (by omega) (by omega) (by omega) ok (by show (N : Int) + (0 + pPots r) ≤ _; omega) (by show 200 * (zv s0 8 - (zv s 43)) + (5 + pWgts r) < _; omega) ?_)
  refine tyE kE trivial (by show ((r.length : Nat) : Int) + 11 ≤ _; omega) (fun _ _ _ e => e) (fun k2 T2 q2 f2 => ?_)
  exact hr _ _ _ _ ⟨⟨k2, q2, rfl⟩, rfl, rfl⟩ d0 d1 ok (by omega)
theorem st_34 {s0 s : zS} {x y z : Int} {r : List pG} {S K : List Int} {N : Nat} {M : Int} (hx : pX s0 s (34, x, y, z) r S K N M) {Q : Int → zS → Prop} (hq : ∀ e s', pR s0 M e s' → Q e s') : wr_reachE s 34 x y z Q := by
  obtain ⟨h0, t0, t1, t2, d0, d1, ok, pot, eM, hK, pre, cost, hr⟩ := hx
  have hl : (r.length : Int) + 11 ≤ 60 * (zv s 44 + 1) := cost
  have hp : (N : Int) + (0 + pPots r) ≤ 2 * zv s 43 + 4 := pot
  have hM : M = 200 * (zv s0 8 - zv s 43) + (5 + pWgts r) := eM
  have hp0 := pP0 r
  obtain ⟨o1, o2, o3⟩ := h0.outs
  clear cost pot eM
  unfold wr_reachE
  refine sp_tkM h0 t0 (by omega) (fun k hk => ?_)
  repeat' (first | (with_reducible refine ⟨fun c => absurd c (by decide), fun _ => ?_⟩) | (with_reducible refine ⟨fun _ => ?_, fun c => absurd c (by decide)⟩) | fail)
  refine sp_goalM h0 (by show (r.length : Nat) < 9000; omega) _ _ _ _ (fun s1 h1 a1 b1 c1 => ?_)
  have A : ¬ k = 0 → ∀ n, (n = 7 ∨ n = 8) → wr_reachE_451 Q s1 (zv s 43) n 6 := fun hk0 n hn => by
    have hk2 := hk hk0
    unfold wr_reachE_451
    refine sp_goalM h1 (by show (r.length + 1 : Nat) < 9000; omega) _ _ _ _ (fun s2 h2 a2 b2 c2 => ?_)
    refine sp_goalM h2 (by show (r.length + 1 + 1 : Nat) < 9000; omega) _ _ _ _ (fun s3 h3 a3 b3 c3 => ?_)
    have o4 : zv s1 37 = (K.length : Int) := by omega
    refine ⟨⟨by omega, by omega⟩, fun c => ⟨⟨by omega, by omega⟩, ?_⟩, fun c => ⟨⟨by omega, by omega⟩, ?_⟩⟩
    · have h4 := (h3.put 43 (zv s3 43 + 1) (Or.inl rfl)).put 43 (zv s3 43 + 1 - 1) (Or.inl rfl)
      exact hq _ _ (pR.no h4 (by show 0 ≤ zv s3 43 + 1 - 1; omega) (by show zv s3 43 + 1 - 1 ≤ _; omega))
    · have h4 := (h3.put 43 (zv s3 43 + 1) (Or.inl rfl)).put 44 (zv s3 44 + 1) (Or.inr rfl)
      obtain ⟨s4, es, h4, a4, b4⟩ : ∃ s4, zpv (zpv s3 43 (zv s3 43 + 1)) 44 (zv s3 44 + 1) = s4 ∧ pM s0 s4 ((34, 0, 0, 0) :: (6, n, zv s 43, zv s1 37) :: (15, zv s 44, 0, 0) :: r) S K N ∧ zv s4 43 = zv s3 43 + 1 ∧ zv s4 44 = zv s3 44 + 1 := ⟨_, rfl, h4, rfl, rfl⟩
      rw [es]
      refine hq _ _ (pR.ok h4 (d := zv s 44 + 1) (t := zv s 43 + 1) (by omega) (by omega) (by omega) (by omega) (by omega) (by omega) (ok.mono (by omega)) (by show (N : Int) + (0 + (1 + (0 + pPots r))) ≤ _; omega) (by show 200 * (zv s0 8 - (zv s 43 + 1)) + (5 + (1 + (1 + pWgts r))) < _; omega) ?_)
      refine tyE kE trivial (by show ((r.length + 1 + 1 : Nat) : Int) + 11 ≤ _; omega) (fun _ _ _ e => e) (fun k1 T1 q1 f1 => ?_)
      refine tySH o4 (fE_e1 (by omega) q1) (by omega) (by omega) (by omega) (by omega) t0 (by omega) (by show ((r.length + 1 : Nat) : Int) + 1 ≤ _; omega) (fun T2 f2 => ?_)
      refine tyDP d0 d1 ok (by show ((r.length : Nat) : Int) + 1 ≤ _; omega) (fun T3 f3 => ?_)
      exact hr _ _ _ _ ⟨⟨n, ⟨by omega, by omega⟩, rfl⟩, rfl, rfl⟩ d0 d1 ok (by omega)
  refine ⟨fun c => ⟨fun c2 => absurd c c2, fun _ => A (by omega) 7 (Or.inl rfl)⟩, fun c => ⟨fun c2 => ?_, fun c2 => ⟨fun _ => A (by omega) 8 (Or.inr rfl), fun _ => A (by omega) 7 (Or.inl rfl)⟩⟩⟩
  refine sp_goalM h1 (by show (r.length + 1 : Nat) < 9000; omega) _ _ _ _ (fun s2 h2 a2 b2 c2 => ?_)
  refine sp_goalM h2 (by show (r.length + 1 + 1 : Nat) < 9000; omega) _ _ _ _ (fun s3 h3 a3 b3 c3 => ?_)
  refine sp_goalM h3 (by show (r.length + 1 + 1 + 1 : Nat) < 9000; omega) _ _ _ _ (fun s4 h4 a4 b4 c4 => ?_)
  refine hq _ _ (pR.ok h4 (d := zv s 44) (t := zv s 43) (by omega) (by omega) (by omega) (by omega) (by omega) (by omega) ok (by show (N : Int) + (0 + (0 + (0 + (0 + pPots r)))) ≤ _; omega) (by show 200 * (zv s0 8 - (zv s 43)) + (1 + (1 + (1 + (1 + pWgts r)))) < _; omega) ?_)
  have o4 : zv s1 37 = (K.length : Int) := by omega
  have o5 : zv s2 37 = (K.length : Int) := by omega
  refine tyE kE (fun e => absurd e (by decide : ¬ (0 : Int) = 1)) (by show ((r.length + 1 + 1 + 1 : Nat) : Int) + 8 ≤ _; omega) (fun _ _ _ e => e.2 (by decide)) (fun k1 T1 q1 f1 => ?_)
  refine tyTU kE o5 ⟨⟨K, [k1], rfl, o5, k1, rfl, q1⟩, Int.le_refl 0, (by decide : (0 : Int) ≤ 12000)⟩ (by show ((r.length + 1 + 1 : Nat) : Int) + 4 ≤ _; omega) (fun _ _ _ e => ⟨e.1, e.2.1, e.2.2.1⟩) (fun k2 D2 T2 q2 g1 g2 g3 f2 => ?_)
  refine tyTU kE o4 ⟨K, [k2], rfl, o4, k2, rfl, q2⟩ (by show ((r.length + 1 : Nat) : Int) + 4 ≤ _; omega) (fun _ _ _ e => e) (fun k3 D3 T3 q3 g4 g5 g6 f3 => ?_)
  refine tyDP d0 d1 ok (by show ((r.length : Nat) : Int) + 1 ≤ _; omega) (fun T4 f4 => ?_)
  exact hr _ _ _ _ ⟨⟨k3, q3, rfl⟩, rfl, rfl⟩ d0 d1 ok (by omega)
