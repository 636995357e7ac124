/-! THE CHECK: SMALL CALLS -/
section SC
variable {s0 : zS} {kids : Nat → List Nat} {up sz : Nat → Nat} {root N : Nat} {s : zS}
theorem GI.foo (g : GI s0 kids root s) (h : fF s0 kids up sz [root] N) : fF s kids up sz [root] N := by
  have f := g.st
  refine h.fr (f.v 24 rfl) (f.v 37 rfl) (f.v 18 rfl) (fun j hj i => ?_) (fun n hn => ?_) (fun n _ k => g.sa n (by omega) (by omega) (by omega) (by omega))
  · rcases hj with rfl | rfl | rfl | rfl | rfl <;> exact f.a _ i rfl
  · rw [f.a 34 n rfl]
    obtain ⟨-, -, t3, t4, -⟩ := h.tk n hn
    exact ⟨t3, t4⟩
theorem GI.cn (g : GI s0 kids root s) (h : fF s0 kids up sz [root] N) (hN : N ≤ 2700) {k : Nat} (hk : rch kids root k) (hE : kE (za s0 25 k)) {Q : zS → Prop} (hQ : ∀ s', zSm s s' [60, 61, 62] [12, 13, 58, 59] → fm s s' → (zv s' 58 = 0 ∨ zv s' 58 = 1) → GI s0 kids root s' → Q s') : wr_constant s k Q := by
  refine sp_constant (g.foo h) (by omega) g.en.1 g.en.2 k (h.lt hk) (by rw [g.st.a 25 k rfl]; exact hE) (h.szr hk) (fun s' w => hQ s' w.1 w.2.1 w.2.2 (g.sm w.1 rfl rfl rfl rfl))
/-- the tokens of a node -/
theorem GI.tk2 (g : GI s0 kids root s) (h : fF s0 kids up sz [root] N) {n : Nat} (hn : n < N) : 0 ≤ za s 26 n ∧ za s 26 n ≤ 12000 ∧ 0 ≤ za s 34 n ∧ za s 34 n ≤ 12000 := by
  rw [g.st.a 26 n rfl, g.st.a 34 n rfl]
  obtain ⟨t1, t2, t3, t4, -⟩ := h.tk n hn
  exact ⟨t1, t2, t3, t4⟩
theorem cP.z {s s' : zS} {D : Nat → Prop} {w : Nat} (p : cP s s' D w) (h : zv s' 12 = 0) : zv s 12 = 0 := by
  by_cases c : zv s 12 = 0
  · exact c
  · exact absurd h (p.m c)
/-- what a name is told -/
def nmd (s s' : zS) (n : Nat) (r : Int) : Prop := zSm s s' [30, 31] [12, 13] ∧ fm s s' ∧ (∀ x : Nat, ¬ x = n → za s' 30 x = za s 30 x ∧ za s' 31 x = za s 31 x) ∧ (r = -1 ∧ ¬ zv s' 12 = 0 ∨ ∃ e : Nat, r = e ∧ (e : Int) < zv s 49 ∧ za s' 30 n = za s 51 e ∧ za s' 31 n = za s 52 e ∧ (za s 51 e = 4 → za s 53 e = zv s 73 ∨ ¬ zv s' 12 = 0) ∧ (za s 51 e = 5 → ¬ zv s' 12 = 0))
theorem sp_named (s : zS) (n : Nat) (hn : n < 26000) (h0 : 0 ≤ zv s 49) (h1 : zv s 49 ≤ 9000) (t0 : 0 ≤ za s 26 n) (t1 : za s 26 n ≤ 12000) {Q : Int → zS → Prop} (hq : ∀ r s', nmd s s' n r → Q r s') : wr_named s n Q := by
  unfold wr_named
  rw [Int.toNat_natCast]
  refine ⟨by omega, by omega, sp_means s _ h0 h1 ?_ (fun e e1 e2 => ?_)⟩
  · refine ⟨fun c => absurd c (by decide), fun _ => ⟨by omega, by omega, sp_place s _ t0 t1 (fun r => ?_)⟩⟩
    refine ffm_fault (sp_faultN s 3 r (by decide)) ?_
    rintro s1 - ⟨f, q⟩
    refine ⟨by omega, by omega, hq _ _ ⟨(zSm.rf.tr f rfl rfl : zSm s s1 [30, 31] [12, 13]).pa rfl, fun _ => q, fun x hx => ⟨?_, f.a 31 x rfl⟩, Or.inl ⟨rfl, q⟩⟩⟩
    rw [za_pa, if_pos rfl, if_neg hx]
    exact f.a 30 x rfl
  · have w0 : ∃ s2, zpa (zpa s 30 n (za s 51 e)) 31 n (za s 52 e) = s2 ∧ zSm s s2 [30, 31] [] ∧ (∀ x : Nat, ¬ x = n → za s2 30 x = za s 30 x ∧ za s2 31 x = za s 31 x) ∧ za s2 30 n = za s 51 e ∧ za s2 31 n = za s 52 e := by
      refine ⟨_, rfl, (zSm.rf.pa rfl).pa rfl, fun x hx => ?_, ?_, ?_⟩
      · simp only [za_pa, reduceIte, Nat.reduceEqDiff, hx]
        exact ⟨trivial, trivial⟩
      · simp only [za_pa, reduceIte, Nat.reduceEqDiff]
      · simp only [za_pa, reduceIte, Nat.reduceEqDiff]
    obtain ⟨s2, hs2, f2, g2, g3, g4⟩ := w0
    rw [Int.toNat_natCast, hs2]
    have fin : ∀ s3, zSm s2 s3 [] [12, 13] → fm s2 s3 → (za s 51 e = 4 → za s 53 e = zv s 73 ∨ ¬ zv s3 12 = 0) → wr_named_101 Q s3 n e := fun s3 f3 m3 d4 => by
      have f4 : zSm s s3 [30, 31] [12, 13] := (zSm.rf.tr f2 rfl rfl : zSm s s2 [30, 31] [12, 13]).tr f3 rfl rfl
      have m4 : fm s s3 := (fm.sm f2 rfl).tr m3
      have n3 : ∀ x : Nat, ¬ x = n → za s3 30 x = za s 30 x ∧ za s3 31 x = za s 31 x := fun x hx => by rw [f3.a 30 x rfl, f3.a 31 x rfl]; exact g2 x hx
      unfold wr_named_101
      rw [Int.toNat_natCast, f4.a 51 e rfl]
      refine ⟨by omega, by omega, fun c5 => hq _ _ ⟨f4, m4, n3, Or.inr ⟨e, rfl, e1, by rw [f3.a 30 n rfl]; exact g3, by rw [f3.a 31 n rfl]; exact g4, d4, fun c => absurd c c5⟩⟩, fun c5 => ⟨by omega, by omega, sp_place s3 _ (by rw [Int.toNat_natCast, f4.a 26 n rfl]; exact t0) (by rw [Int.toNat_natCast, f4.a 26 n rfl]; exact t1) (fun r => ?_)⟩⟩
      refine ffm_fault (sp_faultN s3 6 r (by decide)) ?_
      rintro s5 - ⟨f5, q5⟩
      refine hq _ _ ⟨f4.tr f5 rfl rfl, fun _ => q5, fun x hx => by rw [f5.a 30 x rfl, f5.a 31 x rfl]; exact n3 x hx, Or.inr ⟨e, rfl, e1, by rw [f5.a 30 n rfl, f3.a 30 n rfl]; exact g3, by rw [f5.a 31 n rfl, f3.a 31 n rfl]; exact g4, fun _ => Or.inr q5, fun _ => q5⟩⟩
    refine ⟨fun _ => ⟨by omega, by omega, by omega, by omega, by omega, by omega, by omega, by omega, by omega, by omega, fun c4 => fin s2 zSm.rf fm.rf (fun c => absurd c c4), fun c4 => ⟨by omega, by omega, fun c => fin s2 zSm.rf fm.rf (fun _ => Or.inl c), fun _ => ⟨by omega, by omega, sp_place s2 _ t0 t1 (fun r => ?_)⟩⟩⟩, fun c => absurd (by omega) c⟩
    refine ffm_fault (sp_faultN s2 5 r (by decide)) ?_
    rintro s5 - ⟨f5, q5⟩
    exact fin s5 f5 (fun _ => q5) (fun _ => Or.inr q5)
/-- what a name is told, as a fact -/
theorem GI.nm (g : GI s0 kids root s) {S : List Nat} (ec : EC s0 kids s S) {s' : zS} {n : Nat} {r : Int} (m : nmd s s' n r) (hk : za s0 25 n = 1) (hz : zv s' 12 = 0) : ∃ e : Nat, r = e ∧ (e : Int) < zv s 49 ∧ za s' 30 n = za s 51 e ∧ ((za s' 30 n = 1 ∧ 0 ≤ za s' 31 n ∧ za s' 31 n ≤ 99) ∨ za s' 30 n = 2 ∨ (za s' 30 n = 3 ∧ ∃ c : Nat, za s' 31 n = c ∧ wNd s0 kids root c) ∨ (za s' 30 n = 4 ∧ 0 ≤ za s' 31 n ∧ rng (za s' 31 n) (zv s 75)) ∨ za s' 30 n = 6) := by
  obtain ⟨f, -, -, q⟩ := m
  rcases q with ⟨-, q⟩ | ⟨e, q1, q2, q3, q4, q5, q6⟩
  · exact absurd hz q
  · refine ⟨e, q1, q2, q3, ?_⟩
    obtain ⟨k1, k2, k3, k4, -⟩ := g.eg e q2
    rw [q3, q4]
    have k6 : za s 51 e = 1 ∨ za s 51 e = 2 ∨ za s 51 e = 3 ∨ za s 51 e = 4 ∨ za s 51 e = 5 ∨ za s 51 e = 6 := by omega
    rcases k6 with k | k | k | k | k | k
    · exact Or.inl ⟨k, k2 k⟩
    · exact Or.inr (Or.inl k)
    · exact Or.inr (Or.inr (Or.inl ⟨k, k3 k⟩))
    · refine Or.inr (Or.inr (Or.inr (Or.inl ⟨k, (k4 k).1, (ec e q2).1 k ?_⟩)))
      rcases q5 k with c | c
      · exact c
      · exact absurd hz c
    · exact absurd hz (q6 k)
    · exact Or.inr (Or.inr (Or.inr (Or.inr k)))
theorem kr_eq {K : Nat → Int} {kids : Nat → List Nat} {n : Nat} (h : ([5, 27, 43, 50, 51, 54, 56, 59] : List Int).contains (K n) = false) : kr K kids n = kids n := by
  have o : ∀ x : Int, ([5, 27, 43, 50, 51, 54, 56, 59] : List Int).contains x = true → ¬ K n = x := fun x hx e => by rw [← e, h] at hx; exact absurd hx (by decide)
  unfold kr
  rw [if_neg (fun q => by
    rcases q with q | q | q | q | q | q | q
    · exact o 5 rfl q
    · exact o 43 rfl q
    · exact o 50 rfl q
    · exact o 51 rfl q
    · exact o 54 rfl q
    · exact o 56 rfl q
    · exact o 59 rfl q), if_neg (o 27 rfl)]
theorem kr_no {K : Nat → Int} {kids : Nat → List Nat} {n : Nat} (h : K n = 5 ∨ K n = 43 ∨ K n = 50 ∨ K n = 51 ∨ K n = 54 ∨ K n = 56 ∨ K n = 59) : kr K kids n = [] := if_pos h
/-- a node without a fact -/
theorem fac_no {M : Int} {x : Nat} (h : ([1, 6, 8, 20, 27, 29, 30, 31, 32, 33, 35, 41, 54, 55, 56] : List Int).contains (za s0 25 x) = false) : fac s0 kids up root N s M x := by
  have o : ∀ y : Int, ([1, 6, 8, 20, 27, 29, 30, 31, 32, 33, 35, 41, 54, 55, 56] : List Int).contains y = true → ¬ za s0 25 x = y := fun y hy e => by rw [← e, h] at hy; exact absurd hy (by decide)
  exact ⟨fun k => absurd k (o 1 rfl), fun k => absurd k (o 6 rfl), fun k => absurd k (o 8 rfl), fun k => absurd k (o 20 rfl), fun k => absurd k (o 27 rfl), fun k => k.elim (fun k => absurd k (o 29 rfl)) (fun k => absurd k (o 30 rfl)), fun k => absurd k (o 31 rfl), fun k => absurd k (o 32 rfl), fun k => absurd k (o 33 rfl), fun k => absurd k (o 35 rfl), fun k => absurd k (o 41 rfl), fun k => absurd k (o 54 rfl), fun k => absurd k (o 56 rfl), fun k => absurd k (o 55 rfl)⟩

theorem fac_1 {M : Int} {x : Nat} (hk : za s0 25 x = 1) (hf : (za s 30 x = 1 ∧ 0 ≤ za s 31 x ∧ za s 31 x ≤ 99) ∨ za s 30 x = 2 ∨ (za s 30 x = 3 ∧ ∃ c : Nat, za s 31 x = c ∧ wNd s0 kids root c) ∨ (za s 30 x = 4 ∧ 0 ≤ za s 31 x ∧ rng (za s 31 x) M) ∨ za s 30 x = 6) : fac s0 kids up root N s M x := ⟨fun _ => hf, fun k => absurd (k : za s0 25 x = 6) (by omega), fun k => absurd (k : za s0 25 x = 8) (by omega), fun k => absurd (k : za s0 25 x = 20) (by omega), fun k => absurd (k : za s0 25 x = 27) (by omega), fun k => absurd (k : za s0 25 x = 29 ∨ za s0 25 x = 30) (by omega), fun k => absurd (k : za s0 25 x = 31) (by omega), fun k => absurd (k : za s0 25 x = 32) (by omega), fun k => absurd (k : za s0 25 x = 33) (by omega), fun k => absurd (k : za s0 25 x = 35) (by omega), fun k => absurd (k : za s0 25 x = 41) (by omega), fun k => absurd (k : za s0 25 x = 54) (by omega), fun k => absurd (k : za s0 25 x = 56) (by omega), fun k => absurd (k : za s0 25 x = 55) (by omega)⟩
theorem fac_6 {M : Int} {x : Nat} (hk : za s0 25 x = 6) (hf : 0 ≤ za s 30 x ∧ za s 30 x ≤ 75000) : fac s0 kids up root N s M x := ⟨fun k => absurd (k : za s0 25 x = 1) (by omega), fun _ => hf, fun k => absurd (k : za s0 25 x = 8) (by omega), fun k => absurd (k : za s0 25 x = 20) (by omega), fun k => absurd (k : za s0 25 x = 27) (by omega), fun k => absurd (k : za s0 25 x = 29 ∨ za s0 25 x = 30) (by omega), fun k => absurd (k : za s0 25 x = 31) (by omega), fun k => absurd (k : za s0 25 x = 32) (by omega), fun k => absurd (k : za s0 25 x = 33) (by omega), fun k => absurd (k : za s0 25 x = 35) (by omega), fun k => absurd (k : za s0 25 x = 41) (by omega), fun k => absurd (k : za s0 25 x = 54) (by omega), fun k => absurd (k : za s0 25 x = 56) (by omega), fun k => absurd (k : za s0 25 x = 55) (by omega)⟩
theorem fac_8 {M : Int} {x : Nat} (hk : za s0 25 x = 8) (hf : ∀ c ∈ kids x, za s0 25 c = 1 ∨ za s0 25 c = 7 ∨ za s0 25 c = 9) : fac s0 kids up root N s M x := ⟨fun k => absurd (k : za s0 25 x = 1) (by omega), fun k => absurd (k : za s0 25 x = 6) (by omega), fun _ => hf, fun k => absurd (k : za s0 25 x = 20) (by omega), fun k => absurd (k : za s0 25 x = 27) (by omega), fun k => absurd (k : za s0 25 x = 29 ∨ za s0 25 x = 30) (by omega), fun k => absurd (k : za s0 25 x = 31) (by omega), fun k => absurd (k : za s0 25 x = 32) (by omega), fun k => absurd (k : za s0 25 x = 33) (by omega), fun k => absurd (k : za s0 25 x = 35) (by omega), fun k => absurd (k : za s0 25 x = 41) (by omega), fun k => absurd (k : za s0 25 x = 54) (by omega), fun k => absurd (k : za s0 25 x = 56) (by omega), fun k => absurd (k : za s0 25 x = 55) (by omega)⟩
theorem fac_20 {M : Int} {x : Nat} (hk : za s0 25 x = 20) (hf : ∀ i : Nat, (i : Int) < za s0 29 x → i < (kids x).length → (za s0 25 (gt (kids x) i) = 7 ∨ za s0 25 (gt (kids x) i) = 9 ∨ za s0 25 (gt (kids x) i) = 1 ∧ (za s 30 (gt (kids x) i) = 1 ∨ za s 30 (gt (kids x) i) = 3 ∨ za s 30 (gt (kids x) i) = 4))) : fac s0 kids up root N s M x := ⟨fun k => absurd (k : za s0 25 x = 1) (by omega), fun k => absurd (k : za s0 25 x = 6) (by omega), fun k => absurd (k : za s0 25 x = 8) (by omega), fun _ => hf, fun k => absurd (k : za s0 25 x = 27) (by omega), fun k => absurd (k : za s0 25 x = 29 ∨ za s0 25 x = 30) (by omega), fun k => absurd (k : za s0 25 x = 31) (by omega), fun k => absurd (k : za s0 25 x = 32) (by omega), fun k => absurd (k : za s0 25 x = 33) (by omega), fun k => absurd (k : za s0 25 x = 35) (by omega), fun k => absurd (k : za s0 25 x = 41) (by omega), fun k => absurd (k : za s0 25 x = 54) (by omega), fun k => absurd (k : za s0 25 x = 56) (by omega), fun k => absurd (k : za s0 25 x = 55) (by omega)⟩
theorem fac_27 {M : Int} {x : Nat} (hk : za s0 25 x = 27) (hf : za s 29 x = (lk kids x : Nat) ∧ 0 ≤ za s 31 x ∧ rng (za s 31 x + 1) M) : fac s0 kids up root N s M x := ⟨fun k => absurd (k : za s0 25 x = 1) (by omega), fun k => absurd (k : za s0 25 x = 6) (by omega), fun k => absurd (k : za s0 25 x = 8) (by omega), fun k => absurd (k : za s0 25 x = 20) (by omega), fun _ => hf, fun k => absurd (k : za s0 25 x = 29 ∨ za s0 25 x = 30) (by omega), fun k => absurd (k : za s0 25 x = 31) (by omega), fun k => absurd (k : za s0 25 x = 32) (by omega), fun k => absurd (k : za s0 25 x = 33) (by omega), fun k => absurd (k : za s0 25 x = 35) (by omega), fun k => absurd (k : za s0 25 x = 41) (by omega), fun k => absurd (k : za s0 25 x = 54) (by omega), fun k => absurd (k : za s0 25 x = 56) (by omega), fun k => absurd (k : za s0 25 x = 55) (by omega)⟩
theorem fac_lp {M : Int} {x : Nat} (hk : za s0 25 x = 29 ∨ za s0 25 x = 30) (hf : (cxF (za s0 25) up root N x).2.1 = true) : fac s0 kids up root N s M x := ⟨fun k => absurd (k : za s0 25 x = 1) (by omega), fun k => absurd (k : za s0 25 x = 6) (by omega), fun k => absurd (k : za s0 25 x = 8) (by omega), fun k => absurd (k : za s0 25 x = 20) (by omega), fun k => absurd (k : za s0 25 x = 27) (by omega), fun _ => hf, fun k => absurd (k : za s0 25 x = 31) (by omega), fun k => absurd (k : za s0 25 x = 32) (by omega), fun k => absurd (k : za s0 25 x = 33) (by omega), fun k => absurd (k : za s0 25 x = 35) (by omega), fun k => absurd (k : za s0 25 x = 41) (by omega), fun k => absurd (k : za s0 25 x = 54) (by omega), fun k => absurd (k : za s0 25 x = 56) (by omega), fun k => absurd (k : za s0 25 x = 55) (by omega)⟩
theorem fac_31 {M : Int} {x : Nat} (hk : za s0 25 x = 31) (hf : ∃ p ∈ (cxF (za s0 25) up root N x).2.2.2, za s0 25 p = 28) : fac s0 kids up root N s M x := ⟨fun k => absurd (k : za s0 25 x = 1) (by omega), fun k => absurd (k : za s0 25 x = 6) (by omega), fun k => absurd (k : za s0 25 x = 8) (by omega), fun k => absurd (k : za s0 25 x = 20) (by omega), fun k => absurd (k : za s0 25 x = 27) (by omega), fun k => absurd (k : za s0 25 x = 29 ∨ za s0 25 x = 30) (by omega), fun _ => hf, fun k => absurd (k : za s0 25 x = 32) (by omega), fun k => absurd (k : za s0 25 x = 33) (by omega), fun k => absurd (k : za s0 25 x = 35) (by omega), fun k => absurd (k : za s0 25 x = 41) (by omega), fun k => absurd (k : za s0 25 x = 54) (by omega), fun k => absurd (k : za s0 25 x = 56) (by omega), fun k => absurd (k : za s0 25 x = 55) (by omega)⟩
theorem fac_32 {M : Int} {x : Nat} (hk : za s0 25 x = 32) (hf : (cxF (za s0 25) up root N x).1 = -1 ∨ ∃ r : Nat, (cxF (za s0 25) up root N x).1 = r ∧ 20 ≤ za s0 25 (lk kids r)) : fac s0 kids up root N s M x := ⟨fun k => absurd (k : za s0 25 x = 1) (by omega), fun k => absurd (k : za s0 25 x = 6) (by omega), fun k => absurd (k : za s0 25 x = 8) (by omega), fun k => absurd (k : za s0 25 x = 20) (by omega), fun k => absurd (k : za s0 25 x = 27) (by omega), fun k => absurd (k : za s0 25 x = 29 ∨ za s0 25 x = 30) (by omega), fun k => absurd (k : za s0 25 x = 31) (by omega), fun _ => hf, fun k => absurd (k : za s0 25 x = 33) (by omega), fun k => absurd (k : za s0 25 x = 35) (by omega), fun k => absurd (k : za s0 25 x = 41) (by omega), fun k => absurd (k : za s0 25 x = 54) (by omega), fun k => absurd (k : za s0 25 x = 56) (by omega), fun k => absurd (k : za s0 25 x = 55) (by omega)⟩
theorem fac_33 {M : Int} {x : Nat} (hk : za s0 25 x = 33) (hf : 0 ≤ (cxF (za s0 25) up root N x).2.2.1) : fac s0 kids up root N s M x := ⟨fun k => absurd (k : za s0 25 x = 1) (by omega), fun k => absurd (k : za s0 25 x = 6) (by omega), fun k => absurd (k : za s0 25 x = 8) (by omega), fun k => absurd (k : za s0 25 x = 20) (by omega), fun k => absurd (k : za s0 25 x = 27) (by omega), fun k => absurd (k : za s0 25 x = 29 ∨ za s0 25 x = 30) (by omega), fun k => absurd (k : za s0 25 x = 31) (by omega), fun k => absurd (k : za s0 25 x = 32) (by omega), fun _ => hf, fun k => absurd (k : za s0 25 x = 35) (by omega), fun k => absurd (k : za s0 25 x = 41) (by omega), fun k => absurd (k : za s0 25 x = 54) (by omega), fun k => absurd (k : za s0 25 x = 56) (by omega), fun k => absurd (k : za s0 25 x = 55) (by omega)⟩
theorem fac_35 {M : Int} {x : Nat} (hk : za s0 25 x = 35) (hf : ∃ c p : Nat, za s 31 x = c ∧ lNd s0 kids c p ∧ p ∈ (cxF (za s0 25) up root N x).2.2.2) : fac s0 kids up root N s M x := ⟨fun k => absurd (k : za s0 25 x = 1) (by omega), fun k => absurd (k : za s0 25 x = 6) (by omega), fun k => absurd (k : za s0 25 x = 8) (by omega), fun k => absurd (k : za s0 25 x = 20) (by omega), fun k => absurd (k : za s0 25 x = 27) (by omega), fun k => absurd (k : za s0 25 x = 29 ∨ za s0 25 x = 30) (by omega), fun k => absurd (k : za s0 25 x = 31) (by omega), fun k => absurd (k : za s0 25 x = 32) (by omega), fun k => absurd (k : za s0 25 x = 33) (by omega), fun _ => hf, fun k => absurd (k : za s0 25 x = 41) (by omega), fun k => absurd (k : za s0 25 x = 54) (by omega), fun k => absurd (k : za s0 25 x = 56) (by omega), fun k => absurd (k : za s0 25 x = 55) (by omega)⟩
theorem fac_41 {M : Int} {x : Nat} (hk : za s0 25 x = 41) (hf : za s 30 x = up x) : fac s0 kids up root N s M x := ⟨fun k => absurd (k : za s0 25 x = 1) (by omega), fun k => absurd (k : za s0 25 x = 6) (by omega), fun k => absurd (k : za s0 25 x = 8) (by omega), fun k => absurd (k : za s0 25 x = 20) (by omega), fun k => absurd (k : za s0 25 x = 27) (by omega), fun k => absurd (k : za s0 25 x = 29 ∨ za s0 25 x = 30) (by omega), fun k => absurd (k : za s0 25 x = 31) (by omega), fun k => absurd (k : za s0 25 x = 32) (by omega), fun k => absurd (k : za s0 25 x = 33) (by omega), fun k => absurd (k : za s0 25 x = 35) (by omega), fun _ => hf, fun k => absurd (k : za s0 25 x = 54) (by omega), fun k => absurd (k : za s0 25 x = 56) (by omega), fun k => absurd (k : za s0 25 x = 55) (by omega)⟩
theorem fac_54 {M : Int} {x : Nat} (hk : za s0 25 x = 54) (hf : ∃ r : Nat, za s 29 x = r ∧ (r : Int) < zv s 69 ∧ za s 72 r = (lk kids x : Nat) ∧ 0 ≤ za s 31 x ∧ (za s 31 x ≤ 99 ∨ za s 31 x < zv s 81)) : fac s0 kids up root N s M x := ⟨fun k => absurd (k : za s0 25 x = 1) (by omega), fun k => absurd (k : za s0 25 x = 6) (by omega), fun k => absurd (k : za s0 25 x = 8) (by omega), fun k => absurd (k : za s0 25 x = 20) (by omega), fun k => absurd (k : za s0 25 x = 27) (by omega), fun k => absurd (k : za s0 25 x = 29 ∨ za s0 25 x = 30) (by omega), fun k => absurd (k : za s0 25 x = 31) (by omega), fun k => absurd (k : za s0 25 x = 32) (by omega), fun k => absurd (k : za s0 25 x = 33) (by omega), fun k => absurd (k : za s0 25 x = 35) (by omega), fun k => absurd (k : za s0 25 x = 41) (by omega), fun _ => hf, fun k => absurd (k : za s0 25 x = 56) (by omega), fun k => absurd (k : za s0 25 x = 55) (by omega)⟩
theorem fac_56 {M : Int} {x : Nat} (hk : za s0 25 x = 56) (hf : za s0 25 (up x) = 52 → 0 ≤ za s 31 x ∧ za s 31 x < zv s 81) : fac s0 kids up root N s M x := ⟨fun k => absurd (k : za s0 25 x = 1) (by omega), fun k => absurd (k : za s0 25 x = 6) (by omega), fun k => absurd (k : za s0 25 x = 8) (by omega), fun k => absurd (k : za s0 25 x = 20) (by omega), fun k => absurd (k : za s0 25 x = 27) (by omega), fun k => absurd (k : za s0 25 x = 29 ∨ za s0 25 x = 30) (by omega), fun k => absurd (k : za s0 25 x = 31) (by omega), fun k => absurd (k : za s0 25 x = 32) (by omega), fun k => absurd (k : za s0 25 x = 33) (by omega), fun k => absurd (k : za s0 25 x = 35) (by omega), fun k => absurd (k : za s0 25 x = 41) (by omega), fun k => absurd (k : za s0 25 x = 54) (by omega), fun _ => hf, fun k => absurd (k : za s0 25 x = 55) (by omega)⟩
theorem fac_55 {M : Int} {x : Nat} (hk : za s0 25 x = 55) (hf : 0 ≤ za s 30 x ∧ rng (za s 30 x + (((kids x).filter fun c => za s0 25 c = 58).length : Nat) - 1) M ∧ ∀ c ∈ kids x, za s0 25 c = 59 → 0 ≤ za s 31 c ∧ za s 31 c ≤ 75000) : fac s0 kids up root N s M x := ⟨fun k => absurd (k : za s0 25 x = 1) (by omega), fun k => absurd (k : za s0 25 x = 6) (by omega), fun k => absurd (k : za s0 25 x = 8) (by omega), fun k => absurd (k : za s0 25 x = 20) (by omega), fun k => absurd (k : za s0 25 x = 27) (by omega), fun k => absurd (k : za s0 25 x = 29 ∨ za s0 25 x = 30) (by omega), fun k => absurd (k : za s0 25 x = 31) (by omega), fun k => absurd (k : za s0 25 x = 32) (by omega), fun k => absurd (k : za s0 25 x = 33) (by omega), fun k => absurd (k : za s0 25 x = 35) (by omega), fun k => absurd (k : za s0 25 x = 41) (by omega), fun k => absurd (k : za s0 25 x = 54) (by omega), fun k => absurd (k : za s0 25 x = 56) (by omega), fun _ => hf⟩
theorem PB.leaf {n : Nat} {s' : zS} (h : fF s0 kids up sz [root] N) (hn : n < N) (hkr : kr (za s0 25) kids n = []) (p : cP s s' (fun x => x = n) (sz n)) (g : GI s0 kids root s') (h69 : zv s' 69 = zv s 69) (h82 : zv s' 82 = zv s 82) (h49 : zv s' 49 = zv s 49) (h74 : zv s' 74 = zv s 74) (hf : zv s' 12 = 0 → fac s0 kids up root N s' (zv s' 75) n) : PB s0 kids up sz root N s s' [n] := by
  have z0 : szs sz [] = 0 := rfl
  refine ⟨PBc.node h hn (ks := []) (fun d hd => absurd hd List.not_mem_nil) (fun d hd => by rw [hkr] at hd; exact hd) (sz n) 0 (by omega) p h69 h82 (PBc.nil cP.rf g rfl rfl) cP.rf rfl rfl g hf, h49, h74⟩
end SC

