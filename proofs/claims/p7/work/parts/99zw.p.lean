/-! THE CHECK: PLACES -/
section PL
variable {s0 : zS} {kids : Nat → List Nat} {up sz : Nat → Nat} {root N : Nat} {Qc : zS → Prop}
/-- no name -/
theorem sp_plE {s : zS} {n : Nat} {a : Int} {Q : zS → Prop} (hn : n < 26000) (hk : ¬ za s 25 n = 1) (t0 : 0 ≤ za s 34 n) (t1 : za s 34 n ≤ 12000) (h1 : (za s 25 n = 7 ∨ za s 25 n = 9) → wr_task s 3 n 0 Q) (h2 : ∀ s1, zSm s s1 [] [12, 13] → ¬ zv s1 12 = 0 → wr_task s1 3 n 0 Q) : wr_placeOf s n a Q := by
  have B1 : (za s 25 n = 7 ∨ za s 25 n = 9) → wr_placeOf_50 Q s n (za s 25 n) 1 := fun h => by
    unfold wr_placeOf_50
    exact ⟨fun _ => ⟨fun _ => h1 h, fun c => absurd c (by decide)⟩, fun c => absurd c hk⟩
  have B0 : wr_placeOf_50 Q s n (za s 25 n) 0 := by
    unfold wr_placeOf_50
    rw [Int.toNat_natCast]
    refine ⟨fun _ => ⟨fun c => absurd rfl c, fun _ => ⟨by omega, by omega, sp_place s _ t0 t1 (fun r => ?_)⟩⟩, fun c => absurd c hk⟩
    refine ffm_fault (sp_faultN s 6 r (by decide)) ?_
    rintro s1 - ⟨f, q⟩
    exact h2 s1 f q
  unfold wr_placeOf
  rw [Int.toNat_natCast]
  exact ⟨by omega, by omega, fun c7 => B1 (Or.inl c7), fun c7 => ⟨fun c9 => B0, fun c9 => ⟨by omega, by omega, fun c18 => B1 (Or.inr c9), fun c18 => ⟨fun ca => B0, fun ca => ⟨by omega, by omega, fun c19 => B0, fun c19 => B1 (Or.inr c9)⟩⟩⟩⟩⟩
/-- a name -/
theorem sp_plN {s : zS} {n : Nat} {a : Int} {Q : zS → Prop} (hn : n < 26000) (hk : za s 25 n = 1) (h0 : 0 ≤ zv s 49) (h9 : zv s 49 ≤ 9000) (t0 : 0 ≤ za s 34 n) (t1 : za s 34 n ≤ 12000) (u0 : 0 ≤ za s 26 n) (u1 : za s 26 n ≤ 12000) (hq : ∀ r s1 s2, nmd s s1 n r → zSm s1 s2 [] [12, 13] → fm s1 s2 → (zv s2 12 = 0 → ∀ e : Nat, r = e → ¬ za s 51 e = 2 ∧ ¬ za s 51 e = 6 ∧ ¬ za s 51 e = 5) → Q s2) : wr_placeOf s n a Q := by
  have B0 : wr_placeOf_50 Q s n 1 0 := by
    unfold wr_placeOf_50
    refine ⟨fun c => absurd rfl c, fun _ => sp_named s n hn h0 h9 u0 u1 (fun r s1 nm => ?_)⟩
    obtain ⟨f, fmm, o, q⟩ := id nm
    have e34 : za s1 34 n = za s 34 n := f.a 34 n rfl
    have F : wr_place s1 (za s1 34 n) (fun r2 s2 => wr_fault s2 6 r2 (fun s3 => Q s3)) := by
      refine sp_place s1 _ (by rw [e34]; exact t0) (by rw [e34]; exact t1) (fun r2 => ?_)
      refine ffm_fault (sp_faultN s1 6 r2 (by decide)) ?_
      rintro s2 - ⟨f2, q2⟩
      exact hq r s1 s2 nm f2 (fun _ => q2) (fun z => absurd z q2)
    rw [Int.toNat_natCast]
    refine ⟨fun c => hq r s1 s1 nm zSm.rf fm.rf (fun z e he => absurd c (by omega)), fun c => ?_⟩
    rcases q with ⟨q, -⟩ | ⟨e, q1, q2, -⟩
    · omega
    · subst q1
      have k51 : za s1 51 e = za s 51 e := f.a 51 e rfl
      rw [Int.toNat_natCast, k51]
      refine ⟨by omega, by omega, fun _ => ⟨by omega, by omega, F⟩, fun n2 => ⟨by omega, by omega, fun _ => ⟨by omega, by omega, F⟩, fun n6 => ⟨by omega, by omega, fun n5 => hq e s1 s1 nm zSm.rf fm.rf (fun _ e2 he => ?_), fun _ => ⟨by omega, by omega, F⟩⟩⟩⟩
      have : e2 = e := by omega
      subst this
      exact ⟨n2, n6, n5⟩
  unfold wr_placeOf
  rw [Int.toNat_natCast, hk]
  exact ⟨by omega, by omega, fun c => absurd c (by decide), fun _ => ⟨fun _ => B0, fun c => absurd c (by decide)⟩⟩
theorem tP (h : fF s0 kids up sz [root] N) (hN : N ≤ 2700) {n : Nat} (hr : rch kids root n) (hE : kE (za s0 25 n)) (iE : tri s0 kids up sz root N Qc 1 3 n tt tt) (t : Int) (ht : t = 4 ∨ t = 5) : tri s0 kids up sz root N Qc 0 t n tt (lfX s0 n) := by
  have hn := h.lt hr
  have hz : 1 ≤ sz n := by have := h.ss n hn; omega
  refine tri.mk (by omega) h hn hY_tt (fun m s l k1 hl hp _ hq => ?_)
  have goT : ∀ {Q : zS → Prop}, (∀ a, wr_placeOf s n a Q) → wr_go s t n 0 Q := fun hQ => by
    rcases ht with rfl | rfl
    · exact go_4 (hQ 1)
    · exact go_5 (hQ 0)
  obtain ⟨g, hx, hb⟩ := hp
  have h25 : za s 25 n = za s0 25 n := g.st.a 25 n rfl
  obtain ⟨t1, t2, t3, t4⟩ := g.tk2 h hn
  by_cases hK : za s0 25 n = 1
  · refine goT (fun a => sp_plN (by omega) (by rw [h25]; exact hK) g.en.1 g.en.2 t3 t4 t1 t2 (fun r s1 s2 nm f2 m2 hk => ?_))
    obtain ⟨f, fmm, o, -⟩ := id nm
    have f3 : zSm s s2 [30, 31] [12, 13] := f.tr f2 rfl rfl
    have g' := g.sm f3 rfl rfl rfl rfl
    have p' : cP s s2 (fun x => x = n) (sz n) := cP.own f3 (fmm.tr m2) rfl rfl (fun x hx2 => ⟨f3.a 29 x rfl, by rw [f2.a 30 x rfl]; exact (o x hx2).1, by rw [f2.a 31 x rfl]; exact (o x hx2).2⟩)
    have hsh := h.sh n hn
    rw [hK] at hsh
    have hkid : kids n = [] := List.map_eq_nil_iff.mp (hsh.lf (by decide))
    have Z : zv s2 12 = 0 → zv s1 12 = 0 := fun z => by
      by_cases c : zv s1 12 = 0
      · exact c
      · exact absurd z (m2 c)
    refine (hq s2 (k1.sm f3 rfl rfl) (PB.leaf h hn (by rw [kr_eq (by rw [hK]; rfl)]; exact hkid) p' g' (f3.v 69 rfl) (f3.v 82 rfl) (f3.v 49 rfl) (f3.v 74 rfl) (fun z => fac_1 hK ?_)) (fun z => Or.inr (Or.inr ⟨hK, ?_⟩))).le (by omega)
    · obtain ⟨e, -, -, -, q⟩ := g.nm hx.2.2.2.2 nm hK (Z z)
      rw [f2.v 75 rfl, f2.a 30 n rfl, f2.a 31 n rfl, f.v 75 rfl]
      exact q
    · obtain ⟨e, e1, e2, e3, q⟩ := g.nm hx.2.2.2.2 nm hK (Z z)
      obtain ⟨n2, n6, n5⟩ := hk z e e1
      rw [f2.a 30 n rfl]
      have := (g.eg e e2).1
      rcases q with q | q | q | q | q
      · exact Or.inl q.1
      · omega
      · exact Or.inr (Or.inl q.1)
      · exact Or.inr (Or.inr q.1)
      · omega
  · have go : ∀ s1, zSm s s1 [] [12, 13] → fm s s1 → (zv s1 12 = 0 → za s0 25 n = 7 ∨ za s0 25 n = 9) → wr_task s1 3 n 0 (fun s' => kL Qc (m + 4 * sz n - 0 - 1) s') := fun s1 f1 m1 hz2 => by
      refine sp_task (k1.sm f1 rfl rfl) (by omega) 3 n 0 (fun s2 k2 f2 => ?_)
      have f02 : zSm s s2 [64, 65, 66] [12, 13, 63] := (zSm.rf.tr f1 rfl rfl : zSm s s1 [64, 65, 66] [12, 13, 63]).tr f2 rfl rfl
      have m02 : fm s s2 := m1.tr (fm.sm f2 rfl)
      have p2 : cP s s2 (bel kids [n]) 0 := cP.sm f02 m02 rfl rfl rfl
      refine (iE m s2 l k2 ⟨g.sm f02 rfl rfl rfl rfl, hx.fr p2 (f02.v 49 rfl), hb.fs p2 (by omega) (f02.v 49 rfl) (Nat.le_refl _)⟩ trivial (fun s3 k3 p3 _ => hq s3 k3 (p3.fst p2 (f02.v 69 rfl) (f02.v 82 rfl) (f02.v 49 rfl) (f02.v 74 rfl)) (fun z => ?_))).le (by omega)
      have z2 := p3.1.1.z z
      rw [f2.v 12 rfl] at z2
      rcases hz2 z2 with q | q
      · exact Or.inl q
      · exact Or.inr (Or.inl q)
    exact goT (fun a => sp_plE (by omega) (by rw [h25]; exact hK) t3 t4 (fun k => go s zSm.rf fm.rf (fun _ => by rw [← h25]; exact k)) (fun s1 f1 q1 => go s1 f1 (fun _ => q1) (fun z => absurd z q1)))
theorem tri.wk {k : Nat} {t : Int} {n : Nat} {Y X X' : zS → Prop} (g : tri s0 kids up sz root N Qc k t n Y X) (hX : ∀ s, X s → X' s) : tri s0 kids up sz root N Qc k t n Y X' := fun m s l h1 h2 h3 hq => g m s l h1 h2 h3 (fun s' k2 p x => hq s' k2 p (hX s' x))
theorem lfX.pl {n : Nat} {s : zS} (h : lfX s0 n s) : plX s0 n s := fun z => by
  rcases h z with q | q | q
  · exact Or.inr (Or.inl q)
  · exact Or.inr (Or.inr q)
  · exact Or.inl q.1
/-- every expression -/
theorem tE (h : fF s0 kids up sz [root] N) (hN : N ≤ 2700) (hS : ∀ k : Nat, (k : Int) < zv s0 18 → 0 ≤ za s0 16 k ∧ 0 ≤ za s0 17 k ∧ za s0 17 k ≤ 200 ∧ za s0 16 k + za s0 17 k ≤ 6000) (hS2 : zv s0 18 ≤ 3000) {n : Nat} (hr : rch kids root n) (hE : kE (za s0 25 n)) (iE : ∀ c ∈ kids n, ¬ za s0 25 n = 5 → kE (za s0 25 c) → tri s0 kids up sz root N Qc 1 3 c tt tt) (iC : ∀ c ∈ kids n, ¬ za s0 25 n = 5 → kC (za s0 25 c) → tri s0 kids up sz root N Qc 0 2 c tt tt) : tri s0 kids up sz root N Qc 1 3 n tt tt := by
  obtain ⟨e1, e2⟩ := hE
  have hk : za s0 25 n = 1 ∨ za s0 25 n = 3 ∨ za s0 25 n = 4 ∨ za s0 25 n = 5 ∨ za s0 25 n = 8 ∨ (za s0 25 n = 2 ∨ za s0 25 n = 6 ∨ za s0 25 n = 7 ∨ za s0 25 n = 9 ∨ za s0 25 n = 10 ∨ za s0 25 n = 11 ∨ za s0 25 n = 12) := by omega
  rcases hk with k | k | k | k | k | k
  · exact tE_1 h hN hr k
  · exact tE_3 h hN hS hS2 hr k
  · exact tE_4 h hN hr k (fun c hc => iC c hc (by omega))
  · exact tE_5 h hN hr k
  · exact tE_8 h hN hr k (fun c hc hcE => (tP h hN (hr.kid hc) hcE (iE c hc (by omega) hcE) 5 (Or.inr rfl)).wk (fun s q => q.pl))
  · exact tE_ch h hN hr (by rcases k with k | k | k | k | k | k | k <;> rw [k] <;> rfl) (fun c hc => iE c hc (by omega))
end PL

