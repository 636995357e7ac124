/-! WHAT IS STILL TO BE DONE, typed -/
/-- the depths kept: no more than may be -/
def okS : List Int → Int → Prop
  | [], d => 0 ≤ d
  | x :: r, d => (r.length : Int) + 1 ≤ d ∧ x ≤ 60 ∧ okS r x
theorem okS.le : ∀ {S : List Int} {d : Int}, okS S d → (S.length : Int) ≤ d
  | [], _, h => h
  | _ :: _, _, h => h.1
theorem okS.mono : ∀ {S : List Int} {d d' : Int}, okS S d → d ≤ d' → okS S d'
  | [], _, _, h, h2 => Int.le_trans h h2
  | _ :: _, _, _, h, h2 => ⟨Int.le_trans h.1 h2, h.2⟩
def pPre (g : pG) (K : List Int) (d : Int) (S : List Int) (t : Int) : Prop := match g.1.toNat with
  | 1 => ∀ c ∈ K, kD c
  | 2 => ¬ K = [] ∧ ∀ c ∈ K, kD c
  | 3 => True
  | 4 => True
  | 5 => (∃ B A, K = B ++ A ∧ g.2.2.2 = (B.length : Int) ∧ (∀ c ∈ A, c = 56)) ∧ (g.2.1 = 50 ∨ g.2.1 = 51 ∨ g.2.1 = 52) ∧ ¬ S = [] ∧ 0 ≤ g.2.2.1 ∧ g.2.2.1 ≤ 12000
  | 6 => (∃ B A, K = B ++ A ∧ g.2.2.2 = (B.length : Int) ∧ (fSh g.2.1 A)) ∧ ¬ g.2.1 = 20 ∧ ¬ g.2.1 = 3 ∧ 0 ≤ g.2.1 ∧ g.2.1 ≤ 60 ∧ 0 ≤ g.2.2.1 ∧ g.2.2.1 ≤ 12000
  | 7 => True
  | 8 => (∃ B A, K = B ++ A ∧ g.2.2.2 = (B.length : Int) ∧ ((A = [55] ∨ ¬ A = [] ∧ ∀ c ∈ A, c = 54))) ∧ 0 ≤ g.2.2.1 ∧ g.2.2.1 ≤ 12000
  | 9 => 1 ≤ g.2.1 ∧ g.2.1 ≤ 20000
  | 10 => 1 ≤ g.2.1 ∧ g.2.1 ≤ 20000
  | 11 => True
  | 12 => (∃ B A, K = B ++ A ∧ g.2.2.2 = (B.length : Int) ∧ (∃ a, A = [a] ∧ kC a)) ∧ 0 ≤ g.2.1 ∧ g.2.1 ≤ 60 ∧ okS S g.2.1
  | 13 => True
  | 14 => True
  | 15 => 0 ≤ g.2.1 ∧ g.2.1 ≤ 60 ∧ okS S g.2.1
  | 16 => ¬ g.2.1 = 0
  | 17 => True
  | 18 => (∃ B A, K = B ++ A ∧ g.2.2.2 = (B.length : Int) ∧ (∀ c ∈ A, c = 41 ∨ kD c)) ∧ ¬ S = [] ∧ 0 ≤ g.2.2.1 ∧ g.2.2.1 ≤ 12000
  | 19 => (∃ B A, K = B ++ A ∧ g.2.2.2 = (B.length : Int) ∧ (∀ c ∈ A, c = 41 ∨ kD c)) ∧ ¬ S = [] ∧ 0 ≤ g.2.2.1 ∧ g.2.2.1 ≤ 12000
  | 20 => (∃ B A, K = B ++ A ∧ g.2.2.2 = (B.length : Int) ∧ (∀ c ∈ A, c = 41 ∨ kD c)) ∧ ¬ S = [] ∧ 0 ≤ g.2.2.1 ∧ g.2.2.1 ≤ 12000
  | 21 => (∃ B A, K = B ++ A ∧ g.2.2.2 = (B.length : Int) ∧ (∀ c ∈ A, c = 41 ∨ kD c)) ∧ ¬ S = [] ∧ 0 ≤ g.2.2.1 ∧ g.2.2.1 ≤ 12000
  | 22 => (∃ B A, K = B ++ A ∧ g.2.2.2 = (B.length : Int) ∧ (∃ e r, A = e :: r ∧ kE e ∧ (g.1 = 24 → ¬ r = []) ∧ ∀ c ∈ r, c = 41)) ∧ ¬ S = [] ∧ 0 ≤ g.2.2.1 ∧ g.2.2.1 ≤ 12000
  | 23 => (∃ B A, K = B ++ A ∧ g.2.2.2 = (B.length : Int) ∧ (∀ c ∈ A, c = 43 ∨ c = 44)) ∧ 0 ≤ g.2.1 ∧ g.2.1 ≤ 12000
  | 24 => (∃ B A, K = B ++ A ∧ g.2.2.2 = (B.length : Int) ∧ (∃ e r, A = e :: r ∧ kE e ∧ (g.1 = 24 → ¬ r = []) ∧ ∀ c ∈ r, c = 41)) ∧ ¬ S = [] ∧ 0 ≤ g.2.2.1 ∧ g.2.2.1 ≤ 12000
  | 25 => (∃ B A, K = B ++ A ∧ g.2.2.2 = (B.length : Int) ∧ (∃ a, A = [a] ∧ kE a)) ∧ 0 ≤ g.2.2.1 ∧ g.2.2.1 ≤ 12000
  | 26 => (∃ B A, K = B ++ A ∧ g.2.2.2 = (B.length : Int) ∧ ((A.length : Int) = g.2.1 ∧ 1 ≤ g.2.1 ∧ g.2.1 ≤ t + 1 ∧ ∀ c ∈ A, kE c)) ∧ 0 ≤ g.2.2.1 ∧ g.2.2.1 ≤ 12000
  | 27 => (∃ B A, K = B ++ A ∧ g.2.2.2 = (B.length : Int) ∧ (∃ m j : Nat, g.2.1 = 8192 * (m : Int) + j ∧ 1 ≤ j ∧ j ≤ m ∧ (m : Int) ≤ t + 1 ∧ A.length = m + j ∧ ∀ c ∈ A, kE c)) ∧ 0 ≤ g.2.2.1 ∧ g.2.2.1 ≤ 12000
  | 28 => True
  | 29 => (∃ B A, K = B ++ A ∧ g.2.2.2 = (B.length : Int) ∧ ((g.2.1 = 0 → ∃ a, A = [a] ∧ kE a) ∧ (g.2.1 = 1 → ∃ a b, A = [a, b] ∧ kE a ∧ kE b) ∧ (¬ g.2.1 = 0 → ¬ g.2.1 = 1 → ∃ a b c, A = [a, b, c] ∧ kE a ∧ kE b ∧ kE c))) ∧ 0 ≤ g.2.2.1 ∧ g.2.2.1 ≤ 12000
  | 30 => 1 ≤ g.2.1 ∧ g.2.1 ≤ 7
  | 31 => (∃ B A, K = B ++ A ∧ g.2.2.2 = (B.length : Int) ∧ (∃ a, A = [a] ∧ kE a)) ∧ 1 ≤ g.2.1 ∧ g.2.1 ≤ 7
  | 32 => (∃ B A, K = B ++ A ∧ g.2.2.2 = (B.length : Int) ∧ (∃ a b, A = [a, b] ∧ kE a ∧ kE b)) ∧ 0 ≤ g.2.2.1 ∧ g.2.2.1 ≤ 12000
  | 33 => True
  | 34 => True
  | 35 => (∃ B A, K = B ++ A ∧ g.2.2.2 = (B.length : Int) ∧ (∃ a, A = [a] ∧ kE a))
  | 36 => True
  | 37 => (∃ B A, K = B ++ A ∧ g.2.2.2 = (B.length : Int) ∧ (∃ a, A = [a] ∧ kE a)) ∧ 0 ≤ g.2.2.1 ∧ g.2.2.1 ≤ 12000
  | 38 => (∃ B A, K = B ++ A ∧ g.2.2.2 = (B.length : Int) ∧ (¬ A = [] ∧ ∀ c ∈ A, kE c)) ∧ 0 ≤ g.2.1 ∧ g.2.1 ≤ 20 ∧ 0 ≤ g.2.2.1 ∧ g.2.2.1 ≤ 12000
  | 39 => g.2.1 = 1 → (∃ B k, K = B ++ [k] ∧ kE k) ∧ 0 ≤ g.2.2.2 ∧ g.2.2.2 ≤ 60 ∧ okS S g.2.2.2 ∧ 0 ≤ g.2.2.1 ∧ g.2.2.1 ≤ 12000
  | 40 => (∃ B A, K = B ++ A ∧ g.2.2.2 = (B.length : Int) ∧ (¬ A = [] ∧ ∀ c ∈ A, kE c)) ∧ 0 ≤ g.2.2.1 ∧ g.2.2.1 ≤ 12000
  | 41 => True
  | _ => False
def pEff (g : pG) (K : List Int) (d : Int) (S : List Int) (K' : List Int) (d' : Int) (S' : List Int) : Prop := match g.1.toNat with
  | 1 => ¬ K' = [] ∧ ∀ c ∈ K', kD c
  | 2 => ¬ K' = [] ∧ ∀ c ∈ K', kD c
  | 3 => (∃ k, kD k ∧ K' = K ++ [k]) ∧ d' = d ∧ S' = S
  | 4 => K' = K ++ [56] ∧ d' = d ∧ S' = S
  | 5 => (∀ B A, K = B ++ A → g.2.2.2 = (B.length : Int) → K' = B ++ [g.2.1]) ∧ ∀ d0 S0, S = d0 :: S0 → d' = d0 ∧ S' = S0
  | 6 => (∀ B A, K = B ++ A → g.2.2.2 = (B.length : Int) → K' = B ++ [g.2.1]) ∧ d' = d ∧ S' = S
  | 7 => (K' = K ++ [54] ∨ ¬ g.2.1 = 1 ∧ K' = K ++ [55]) ∧ d' = d ∧ S' = S
  | 8 => (∀ B A, K = B ++ A → g.2.2.2 = (B.length : Int) → K' = B ++ [53]) ∧ d' = d ∧ S' = S
  | 9 => (∃ r, K' = K ++ r ∧ (r.length : Int) = g.2.1 ∧ ∀ c ∈ r, kI c) ∧ d' = d ∧ S' = S
  | 10 => (∃ r, K' = K ++ r ∧ (r.length : Int) = g.2.1 - 1 ∧ ∀ c ∈ r, kI c) ∧ d' = d ∧ S' = S
  | 11 => (∃ k, kC k ∧ K' = K ++ [k]) ∧ d' = d ∧ S' = S
  | 12 => (∀ B A, K = B ++ A → g.2.2.2 = (B.length : Int) → ∃ k, kC k ∧ K' = B ++ [k]) ∧ d' = g.2.1 ∧ S' = S
  | 13 => K' = K ∧ d' = d ∧ S' = S
  | 14 => (∃ k, kC k ∧ K' = K ++ [k]) ∧ d' = d ∧ S' = S
  | 15 => K' = K ∧ d' = g.2.1 ∧ S' = S
  | 16 => K' = K ∧ d' = d ∧ S' = S
  | 17 => K' = K ∧ d' = d + 1 ∧ S' = d :: S
  | 18 => (∀ B A, K = B ++ A → g.2.2.2 = (B.length : Int) → K' = B ++ [36]) ∧ ∀ d0 S0, S = d0 :: S0 → d' = d0 ∧ S' = S0
  | 19 => (∀ B A, K = B ++ A → g.2.2.2 = (B.length : Int) → K' = B ++ [36]) ∧ ∀ d0 S0, S = d0 :: S0 → d' = d0 ∧ S' = S0
  | 20 => (∀ B A, K = B ++ A → g.2.2.2 = (B.length : Int) → K' = B ++ [36]) ∧ ∀ d0 S0, S = d0 :: S0 → d' = d0 ∧ S' = S0
  | 21 => (∀ B A, K = B ++ A → g.2.2.2 = (B.length : Int) → K' = B ++ [36]) ∧ ∀ d0 S0, S = d0 :: S0 → d' = d0 ∧ S' = S0
  | 22 => (∀ B A, K = B ++ A → g.2.2.2 = (B.length : Int) → K' = B ++ [28]) ∧ ∀ d0 S0, S = d0 :: S0 → d' = d0 ∧ S' = S0
  | 23 => (∀ B A, K = B ++ A → g.2.2.2 = (B.length : Int) → K' = B ++ [41]) ∧ d' = d ∧ S' = S
  | 24 => (∀ B A, K = B ++ A → g.2.2.2 = (B.length : Int) → K' = B ++ [28]) ∧ ∀ d0 S0, S = d0 :: S0 → d' = d0 ∧ S' = S0
  | 25 => (∀ B A, K = B ++ A → g.2.2.2 = (B.length : Int) → ∃ k, kC k ∧ K' = B ++ [k]) ∧ d' = d ∧ S' = S
  | 26 => (∀ B A, K = B ++ A → g.2.2.2 = (B.length : Int) → ∃ k, kC k ∧ K' = B ++ [k]) ∧ d' = d ∧ S' = S
  | 27 => (∀ B A, K = B ++ A → g.2.2.2 = (B.length : Int) → ∃ k, kC k ∧ K' = B ++ [k]) ∧ d' = d ∧ S' = S
  | 28 => (∃ k, kE k ∧ K' = K ++ [k]) ∧ d' = d ∧ S' = S
  | 29 => (∀ B A, K = B ++ A → g.2.2.2 = (B.length : Int) → ∃ k, kE k ∧ K' = B ++ [k]) ∧ d' = d ∧ S' = S
  | 30 => (∃ k, kE k ∧ K' = K ++ [k]) ∧ d' = d ∧ S' = S
  | 31 => (∀ B A, K = B ++ A → g.2.2.2 = (B.length : Int) → ∃ k, kE k ∧ K' = B ++ [k]) ∧ d' = d ∧ S' = S
  | 32 => (∀ B A, K = B ++ A → g.2.2.2 = (B.length : Int) → ∃ k, kE k ∧ K' = B ++ [k]) ∧ d' = d ∧ S' = S
  | 33 => (∃ k, kE k ∧ K' = K ++ [k]) ∧ d' = d ∧ S' = S
  | 34 => (∃ k, kE k ∧ K' = K ++ [k]) ∧ d' = d ∧ S' = S
  | 35 => (∀ B A, K = B ++ A → g.2.2.2 = (B.length : Int) → ∃ k, kE k ∧ K' = B ++ [k]) ∧ d ≤ d' ∧ S' = S
  | 36 => (∃ k, kE k ∧ K' = K ++ [k]) ∧ d ≤ d' ∧ S' = S
  | 37 => (∀ B A, K = B ++ A → g.2.2.2 = (B.length : Int) → ∃ k, kE k ∧ K' = B ++ [k]) ∧ d ≤ d' ∧ S' = S ∧ (g.2.1 = 1 → d' = d)
  | 38 => (∀ B A, K = B ++ A → g.2.2.2 = (B.length : Int) → ∃ k, kE k ∧ K' = B ++ [k]) ∧ d ≤ d' ∧ S' = S
  | 39 => (g.2.1 = 1 → K' = K ∧ d' = g.2.2.2 ∧ S' = S) ∧ (¬ g.2.1 = 1 → (∃ k, kE k ∧ K' = K ++ [k]) ∧ d' = d ∧ S' = S)
  | 40 => (∀ B A, K = B ++ A → g.2.2.2 = (B.length : Int) → ∃ k, kE k ∧ K' = B ++ [k]) ∧ d' = d ∧ S' = S
  | 41 => (K' = K ∨ (∃ k, kE k ∧ K' = K ++ [k])) ∧ d' = d ∧ S' = S
  | _ => False
/-- how many more may come above it within one depth -/
def pCost (g : pG) : Int := match g.1.toNat with
  | 1 => 46
  | 2 => 46
  | 3 => 44
  | 4 => 33
  | 5 => 35
  | 6 => 1
  | 7 => 41
  | 8 => 44
  | 9 => 34
  | 10 => 34
  | 11 => 38
  | 12 => 2
  | 13 => 1
  | 14 => 2
  | 15 => 1
  | 16 => 1
  | 17 => 1
  | 18 => 46
  | 19 => 46
  | 20 => 41
  | 21 => 41
  | 22 => 44
  | 23 => 41
  | 24 => 44
  | 25 => 34
  | 26 => 33
  | 27 => 33
  | 28 => 30
  | 29 => if g.2.1 = 1 then 32 else 2
  | 30 => 30 - 2 * g.2.1
  | 31 => 30 - 2 * g.2.1
  | 32 => 1
  | 33 => 12
  | 34 => 11
  | 35 => 4
  | 36 => 10
  | 37 => 4
  | 38 => 32
  | 39 => 8
  | 40 => 32
  | 41 => 31
  | _ => 0
/-- how many nodes it may make without a token -/
def pPot (g : pG) : Int := match g.1.toNat with
  | 5 => 1
  | 6 => 1
  | 8 => 1
  | 11 => 1
  | 14 => 1
  | 18 => 1
  | 19 => 1
  | 20 => 3
  | 21 => 1
  | 22 => 3
  | 23 => 2
  | 24 => 1
  | 25 => 1
  | 27 => 1
  | 29 => if g.2.1 = 0 then 0 else 1
  | 32 => 1
  | 37 => if g.2.1 = 1 then 1 else 0
  | 40 => 1
  | _ => 0
/-- how many steps it may take without a token -/
def pWgt (g : pG) : Int := match g.1.toNat with
  | 1 => 3
  | 9 => 24
  | 11 => 27
  | 14 => 29
  | 18 => 3
  | 20 => 30
  | 22 => 32
  | 23 => 29
  | 25 => 2
  | 28 => 22
  | 30 => (((22 - 2 * g.2.1).toNat : Nat) : Int)
  | 33 => 6
  | 34 => 5
  | 36 => 3
  | _ => 1
def pPots : List pG → Int
  | [] => 0
  | g :: r => pPot g + pPots r
def pWgts : List pG → Int
  | [] => 0
  | g :: r => pWgt g + pWgts r
def pTy : List pG → List Int → Int → List Int → Int → Prop
  | [], K, _, _, _ => ¬ K = [] ∧ ∀ c ∈ K, kD c
  | g :: r, K, d, S, t => pPre g K d S t ∧ (r.length : Int) + pCost g ≤ 60 * (d + 1) ∧ ∀ K' d' S' t', pEff g K d S K' d' S' → 0 ≤ d' → d' ≤ 60 → okS S' d' → t ≤ t' → pTy r K' d' S' t'
/-- the parse stands well; m: what is left of it -/
def pT (s0 s : zS) (gl : List pG) (S K : List Int) (N : Nat) : Prop := pM s0 s gl S K N ∧ 0 ≤ zv s 43 ∧ zv s 43 ≤ zv s0 8 ∧ 0 ≤ zv s 44 ∧ zv s 44 ≤ 60 ∧ okS S (zv s 44) ∧ (N : Int) + pPots gl ≤ 2 * zv s 43 + 4
def pMs (s0 s : zS) (gl : List pG) : Int := 200 * (zv s0 8 - zv s 43) + pWgts gl
/-- what a step leaves -/
def pR (s0 : zS) (M : Int) (r : Int) (s' : zS) : Prop := (r = 0 ∨ r = 1) ∧ 0 ≤ zv s' 43 ∧ zv s' 43 ≤ zv s0 8 ∧ (∃ gl S K N, pM s0 s' gl S K N) ∧ (r = 1 → ∃ gl S K N, pT s0 s' gl S K N ∧ pTy gl K (zv s' 44) S (zv s' 43) ∧ pMs s0 s' gl < M)
theorem sp_tkM {s0 s : zS} {gl : List pG} {S K : List Int} {N : Nat} (h : pM s0 s gl S K N) (h0 : 0 ≤ zv s 43) (hT : zv s0 8 ≤ 2600) {Q : Int → zS → Prop} (hq : ∀ r, (¬ r = 0 → zv s 43 < zv s0 8 ∧ r = za s0 9 (zv s 43).toNat) → Q r s) : wr_tk s Q := by
  obtain ⟨t1, t2, t3, t4⟩ := h.tok
  unfold wr_tk
  rw [t1]
  refine ⟨fun _ => hq 0 (fun c => absurd rfl c), fun c => ⟨h0, by omega, hq _ (fun _ => ⟨by omega, t3 _⟩)⟩⟩
theorem sp_takeM {s0 s : zS} {gl : List pG} {S K : List Int} {N : Nat} (h : pM s0 s gl S K N) (h0 : 0 ≤ zv s 43) (hT : zv s0 8 ≤ 2600) {k : Int} (hk : ¬ k = 0) {Q : Int → zS → Prop} (hq : Q 0 s) (hq1 : zv s 43 < zv s0 8 → za s0 9 (zv s 43).toNat = k → pM s0 (zpv s 43 (zv s 43 + 1)) gl S K N → Q 1 (zpv s 43 (zv s 43 + 1))) : wr_take s k Q := by
  unfold wr_take
  refine sp_tkM h h0 hT (fun r hr => ⟨fun e => ?_, fun _ => hq⟩)
  obtain ⟨a, b⟩ := hr (by omega)
  exact ⟨⟨by omega, by omega⟩, hq1 a (by omega) (h.put 43 _ (Or.inl rfl))⟩
theorem sp_deeperM {s0 s : zS} {gl : List pG} {S K : List Int} {N : Nat} (h : pM s0 s gl S K N) (h0 : 0 ≤ zv s 44) (h6 : zv s 44 ≤ 60) {Q : Int → zS → Prop} (hq : Q 0 s) (hq1 : zv s 44 < 60 → pM s0 (zpv s 44 (zv s 44 + 1)) gl S K N → Q 1 (zpv s 44 (zv s 44 + 1))) : wr_deeper s Q := by
  unfold wr_deeper
  exact ⟨fun c => ⟨⟨by omega, by omega⟩, hq1 (by omega) (h.put 44 _ (Or.inr rfl))⟩, fun _ => hq⟩
theorem pR.no {s0 s' : zS} {M : Int} {gl : List pG} {S K : List Int} {N : Nat} (h : pM s0 s' gl S K N) (h1 : 0 ≤ zv s' 43) (h2 : zv s' 43 ≤ zv s0 8) : pR s0 M 0 s' := ⟨Or.inl rfl, h1, h2, ⟨gl, S, K, N, h⟩, fun e => absurd e (by decide)⟩
