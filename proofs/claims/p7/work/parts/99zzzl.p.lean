/-! THE RUN: A LET'S WORDS -/
section RUN
variable {s4 s1 : zS} {kids : Nat → List Nat} {up sz : Nat → Nat} {root N : Nat}
/-- the items among siblings -/
def itl (K : Nat → Int) (l : List Nat) : List Nat := l.filter fun c => ¬ K c = 58
theorem itl_n {K : Nat → Int} {a : Nat} {l : List Nat} (h : K a = 58) : itl K (a :: l) = itl K l := by
  unfold itl
  rw [List.filter_cons, if_neg (by simp [h])]
theorem itl_y {K : Nat → Int} {a : Nat} {l : List Nat} (h : ¬ K a = 58) : itl K (a :: l) = a :: itl K l := by
  unfold itl
  rw [List.filter_cons, if_pos (by simp [h])]
theorem sp_v91 {Q : zS → Prop} {W : Nat} {B : Int} (hW : W < 300000) (hB : B ≤ 65536) : ∀ (ks : List Nat) (c : Int) (m : Nat) (s : zS) (x3 x4 x5 : Int), ks.length < m → xS s4 s1 s → fCh s4 c ks → (∀ y ∈ ks, y < 26000 ∧ (za s4 25 y = 59 → zR (zv s 96 + za s1 31 y))) → 0 ≤ x4 → x4 + (wkl (za s4 25) ks).length ≤ W → 0 ≤ x5 → x5 + (itl (za s4 25) ks).length ≤ B → zv s 91 = W → 0 ≤ x3 → x3 ≤ W → (∀ s', zSm s s' [98] [91] → zv s' 91 = W - x3 → Q s') → wr_variables_91 Q m s x3 x4 x5 c := by
  intro ks
  induction ks with
  | nil =>
    intro c m s x3 x4 x5 hm hS hc hk h4 h4b h5 h5b hv h3 h3b hq
    obtain ⟨m, rfl⟩ : ∃ q, m = q + 1 := ⟨m - 1, by omega⟩
    have hc1 : c = -1 := hc
    subst hc1
    unfold wr_variables_91
    unfold wr_variables_91B
    rw [hv]
    exact ⟨fun _ => ⟨⟨by omega, by omega⟩, hq _ (zSm.rf.pv rfl) rfl⟩, fun q => absurd (by omega) q⟩
  | cons a ks ih =>
    intro c m s x3 x4 x5 hm hS hc hk h4 h4b h5 h5b hv h3 h3b hq
    have e4 : (a :: ks).length = ks.length + 1 := rfl
    rw [e4] at hm
    obtain ⟨m, rfl⟩ : ∃ q, m = q + 1 := ⟨m - 1, by omega⟩
    obtain ⟨rfl, h2⟩ := hc
    obtain ⟨ha, ha2⟩ := hk a (List.mem_cons_self ..)
    have e31 : za s 31 a = za s1 31 a := hS.2.1 31 (by decide) a
    have go : ∀ (s' : zS) (y4 y5 : Int), zSm s s' [98] [91] → zv s' 91 = W → 0 ≤ y4 → y4 + (wkl (za s4 25) ks).length ≤ W → 0 ≤ y5 → y5 + (itl (za s4 25) ks).length ≤ B → wr_variables_91 Q m s' x3 y4 y5 (za s4 28 a) := fun s' y4 y5 f e91 a4 a4b a5 a5b => ih _ m s' x3 y4 y5 (by omega) (hS.sm f rfl rfl) h2 (fun y hy => by rw [f.v 96 rfl]; exact hk y (List.mem_cons_of_mem _ hy)) a4 a4b a5 a5b e91 h3 h3b (fun s3 f3 e3 => hq s3 (f.tr f3 rfl rfl) e3)
    unfold wr_variables_91
    unfold wr_variables_91B
    rw [Int.toNat_natCast, hS.k a, hS.1 28 (by decide) a, e31]
    refine ⟨fun q => absurd q (by omega), fun _ => ⟨by omega, by omega, fun n58 => ⟨by omega, by omega, fun n59 => ?_, fun e59 => ?_⟩, fun e58 => ⟨by omega, by omega, ?_⟩⟩⟩
    · rw [wkl_y n58 n59] at h4b
      rw [itl_y n58] at h5b
      have l1 : (a :: wkl (za s4 25) ks).length = (wkl (za s4 25) ks).length + 1 := rfl
      have l2 : (a :: itl (za s4 25) ks).length = (itl (za s4 25) ks).length + 1 := rfl
      exact ⟨by omega, by omega, by omega, by omega, by omega, by omega, ⟨by omega, by omega⟩, ⟨by omega, by omega⟩, go _ _ _ (zSm.rf.pa rfl) hv (by omega) (by omega) (by omega) (by omega)⟩
    · rw [wkl_n (Or.inr e59)] at h4b
      rw [itl_y n58] at h5b
      have l2 : (a :: itl (za s4 25) ks).length = (itl (za s4 25) ks).length + 1 := rfl
      exact ⟨by omega, by omega, by omega, by omega, ha2 e59, by omega, by omega, ⟨by omega, by omega⟩, go _ _ _ (zSm.rf.pa rfl) hv (by omega) (by omega) (by omega) (by omega)⟩
    · rw [wkl_n (Or.inl e58)] at h4b
      rw [itl_n e58] at h5b
      exact go s _ _ zSm.rf hv h4 h4b h5 h5b
theorem sp_v12 {Q : zS → Prop} {s : zS} {x : Nat} (hS : xS s4 s1 s) : ∀ (ks : List Nat) (c : Int) (m : Nat) (x2 x3 : Int), ks.length < m → fCh s4 c ks → (∀ y ∈ ks, y < 26000) → 0 ≤ x2 → x2 + ks.length ≤ 30000 → 0 ≤ x3 → x3 + ks.length ≤ 30000 → ((0 ≤ (x : Int)) ∧ ((x : Int) < 26000) ∧ (0 ≤ (x : Int)) ∧ ((x : Int) < 26000) ∧ zR (zv s 91 - (x3 + (wkl (za s4 25) ks).length)) ∧ zR (zv s 96 + za s 30 x) ∧ ∃ n, wr_variables_91 Q n s (x3 + (wkl (za s4 25) ks).length) (zv s 91 - (x3 + (wkl (za s4 25) ks).length)) (zv s 96 + za s 30 x) (za s 27 x)) → wr_variables_12 Q m s x x2 x3 c := by
  intro ks
  induction ks with
  | nil =>
    intro c m x2 x3 hm hc hk h2 h2b h3 h3b h
    obtain ⟨m, rfl⟩ : ∃ q, m = q + 1 := ⟨m - 1, by omega⟩
    have hc1 : c = -1 := hc
    subst hc1
    have e : x3 + ((wkl (za s4 25) []).length : Nat) = x3 := by show x3 + 0 = x3; omega
    rw [e] at h
    unfold wr_variables_12
    unfold wr_variables_12B
    rw [Int.toNat_natCast]
    exact ⟨fun _ => h, fun q => absurd (by omega) q⟩
  | cons a ks ih =>
    intro c m x2 x3 hm hc hk h2 h2b h3 h3b h
    have e4 : (a :: ks).length = ks.length + 1 := rfl
    rw [e4] at hm h2b h3b
    obtain ⟨m, rfl⟩ : ∃ q, m = q + 1 := ⟨m - 1, by omega⟩
    obtain ⟨rfl, h5⟩ := hc
    have ha := hk a (List.mem_cons_self ..)
    have hk2 : ∀ y ∈ ks, y < 26000 := fun y hy => hk y (List.mem_cons_of_mem _ hy)
    unfold wr_variables_12
    unfold wr_variables_12B
    rw [Int.toNat_natCast, Int.toNat_natCast, hS.k a, hS.1 28 (by decide) a]
    refine ⟨fun q => absurd q (by omega), fun _ => ⟨by omega, by omega, fun n58 => ⟨by omega, by omega, fun e59 => ⟨by omega, by omega, ?_⟩, fun n59 => ⟨by omega, by omega, ⟨by omega, by omega⟩, ?_⟩⟩, fun e58 => ⟨by omega, by omega, ⟨by omega, by omega⟩, ?_⟩⟩⟩
    · rw [wkl_n (Or.inr e59)] at h
      exact ih _ m x2 x3 (by omega) h5 hk2 h2 (by omega) h3 (by omega) h
    · rw [wkl_y n58 n59] at h
      have l1 : x3 + ((a :: wkl (za s4 25) ks).length : Nat) = x3 + 1 + ((wkl (za s4 25) ks).length : Nat) := by
        show x3 + (((wkl (za s4 25) ks).length + 1 : Nat) : Int) = _
        omega
      rw [l1] at h
      exact ih _ m x2 (x3 + 1) (by omega) h5 hk2 h2 (by omega) (by omega) (by omega) h
    · rw [wkl_n (Or.inl e58)] at h
      exact ih _ m (x2 + 1) x3 (by omega) h5 hk2 (by omega) (by omega) h3 (by omega) h
theorem xs_19 (p : xP s4 s1 kids up sz root N) {s : zS} {x : Nat} {a : Int} {L : List xT} {v : Nat} {F : List Nat} (h : xSt s4 s1 kids up sz root N s ((19, x, a) :: L) v F) : wr_doNext s (xPost s4 s1 kids up sz root N (xMu kids up sz s ((19, x, a) :: L))) := by
  obtain ⟨b, k, hv, v', F', ⟨rfl, hw, g, hk, hB⟩, o⟩ := h.op
  obtain ⟨xN, xr, r, F1, eF, hr, fa, h32, -⟩ := xI.n p g
  subst eF
  have hN := p.hN
  have hb := xB.le b.2.2.1
  obtain ⟨zx, zk⟩ := p.szk xN
  have zN := p.h.szr xr
  have ln := p.len xN
  refine dn_19 k (by omega) (fun s2 k2 f2 => ?_)
  have b2 := b.sm f2 rfl rfl rfl
  have hv2 : zv s2 91 = (v : Nat) := by rw [f2.v 91 rfl]; exact hv
  obtain ⟨c1, c2, c3, c4, -⟩ := id b2.2.2.2.1
  obtain ⟨f1, f3, f4⟩ := fa.2.2.2.2.2.2.2.2.2.2.2.2.2 hk
  have hw2 : wkd s4 kids x = wkl (za s4 25) (kids x) := rfl
  rw [hw2] at hw
  -- as many items as names
  have hit : (itl (za s4 25) (kids x)).length = ((kids x).filter fun c => za s4 25 c = 58).length := by
    obtain ⟨m, q, q1, q2, q3, q4⟩ := (p.h.sh x xN).vs hk
    obtain ⟨l1, l2, ek, r1, r2⟩ := List.map_eq_append_iff.mp q1
    have e1 : ∀ y ∈ l1, za s4 25 y = 58 := fun y hy => by
      have : za s4 25 y ∈ List.replicate m (58 : Int) := by rw [← r1]; exact List.mem_map.mpr ⟨y, hy, rfl⟩
      exact List.eq_of_mem_replicate this
    have e2 : ∀ y ∈ l2, ¬ za s4 25 y = 58 := fun y hy => by
      have : za s4 25 y ∈ q := by rw [← r2]; exact List.mem_map.mpr ⟨y, hy, rfl⟩
      rcases q4 _ this with e | e
      · have := e.2
        omega
      · omega
    have n1 : l1.length = m := by
      have := congrArg List.length r1
      rw [List.length_map, List.length_replicate] at this
      exact this
    have n2 : l2.length = m := by
      have := congrArg List.length r2
      rw [List.length_map] at this
      omega
    unfold itl
    rw [ek, List.filter_append, List.filter_append, List.length_append, List.length_append]
    rw [List.filter_eq_nil_iff.mpr (fun y hy => by simp [e1 y hy]), List.filter_eq_self.mpr (fun y hy => by simp [e2 y hy]), List.filter_eq_self.mpr (fun y hy => by simp [e1 y hy]), List.filter_eq_nil_iff.mpr (fun y hy => by simp [e2 y hy])]
    simp [n1, n2]
  have f4' : za s1 30 x + ((itl (za s4 25) (kids x)).length : Nat) - 1 < za s1 70 r := by
    rw [hit]
    unfold rng at f3
    omega
  have lw := wkl_le (K := za s4 25) (kids x)
  unfold wr_variables
  rw [Int.toNat_natCast, b2.1.1 27 (by decide) x]
  refine ⟨by omega, by omega, (kids x).length + 1, sp_v12 b2.1 (kids x) _ _ 0 0 (by omega) (p.h.ch x xN) (fun y hy => by have := (zk y hy).1; omega) (by omega) (by omega) (by omega) (by omega) ?_⟩
  rw [b2.1.2.1 30 (by decide) x, b2.1.1 27 (by decide) x, hv2]
  refine ⟨by omega, by omega, by omega, by omega, ⟨by omega, by omega⟩, ⟨by omega, by omega⟩, (kids x).length + 1, ?_⟩
  refine sp_v91 (W := v) (B := 65536) (s1 := s1) (by omega) (by omega) (kids x) _ _ s2 _ _ _ (by omega) b2.1 (p.h.ch x xN) (fun y hy => ⟨by have := (zk y hy).1; omega, fun e59 => ?_⟩) (by omega) (by omega) (by omega) (by omega) hv2 (by omega) (by omega) (fun s' f' e' => ?_)
  · have q := f4 y hy e59
    exact ⟨by omega, by omega⟩
  · refine xPost.no b ((zSm.rf.tr f2 rfl rfl : zSm s s2 [98] [87, 91]).tr f' rfl rfl) rfl rfl rfl (k2.sm f' rfl rfl) (v' := v') (by rw [e']; omega) o (by show (0 : Nat) < 1; omega)
end RUN
