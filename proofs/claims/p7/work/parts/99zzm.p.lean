/-! INPUT -/
theorem sp_isBlank (s : zS) (a : Int) : wr_isBlank s a (fun r s' => s' = s ∧ (r = 0 ∨ r = 1) ∧ (r = 1 → 0 ≤ a)) := by
  unfold wr_isBlank
  exact ⟨fun c => ⟨rfl, Or.inr rfl, fun _ => by omega⟩, fun _ => ⟨fun c => ⟨rfl, Or.inr rfl, fun _ => by omega⟩, fun _ => ⟨fun c => ⟨rfl, Or.inr rfl, fun _ => by omega⟩, fun _ => ⟨fun _ => ⟨rfl, Or.inl rfl, fun q => absurd q (by decide)⟩, fun c => ⟨rfl, Or.inr rfl, fun _ => by omega⟩⟩⟩⟩⟩
theorem sp_rowsOf (s : zS) (k : Nat) (hk : k < 4) (h0 : 0 ≤ za s 112 k) (h1 : za s 112 k ≤ 1280) {Q : zS → Prop} (hq : ∀ s', zSm s s' [110, 111] [] → pE s' k 0 → (∀ i : Nat, (i < 6000 * k ∨ 6000 * k + 6000 ≤ i) → za s' 110 i = za s 110 i) → Q s') : wr_rowsOf s k Q := by
  have L : ∀ (m : Nat) (x2 x3 : Int) (s1 : zS), -1 ≤ x3 → x3 < za s 112 k → x3 + 1 < m → zSm s s1 [110, 111] [] → pE s1 k (x3 + 1) → (∀ i : Nat, (i < 6000 * k ∨ 6000 * k + 6000 ≤ i) → za s1 110 i = za s 110 i) → wr_rowsOf_11 Q m s1 k x2 x3 := by
    intro m
    induction m with
    | zero => intro x2 x3 s1 a1 a2 a3; omega
    | succ m ih =>
      intro x2 x3 s1 a1 a2 a3 f pe o
      have e112 : za s1 112 k = za s 112 k := f.a 112 k rfl
      unfold wr_rowsOf_11
      unfold wr_rowsOf_11B
      rw [Int.toNat_natCast, e112]
      -- behind the end that is told
      have E : ∀ (s2 : zS) (x8 y0 : Int), zSm s1 s2 [110, 111] [] → pE s2 k x3 → (∀ i : Nat, (i < 6000 * k ∨ 6000 * k + 6000 ≤ i) → za s2 110 i = za s 110 i) → (x8 = 0 ∨ x3 + 1 < za s 112 k) → 0 ≤ x3 → wr_rowsOf_159 Q (wr_rowsOf_11 Q m) s2 k x3 (6000 * (k : Int) + x3) (zan (za s1 109 (Int.toNat (6000 * (k : Int) + x3))) 255) x8 y0 := fun s2 x8 y0 f2 pe2 o2 h8 h3 => by
        have nx : ∀ (z x2 : Int), wr_rowsOf_11 Q m (zpa s2 111 (Int.toNat (6000 * (k : Int) + x3)) z) k x2 (x3 + (-1)) := fun z x2 => ih x2 _ _ (by omega) (by omega) (by omega) ((f.tr f2 rfl rfl).pa rfl) (by rw [show x3 + (-1) + 1 = x3 by omega]; exact pe2) o2
        unfold wr_rowsOf_159
        refine ffm_isDigit (sp_isDigit s2 _) ?_
        rintro r s3 - ⟨rfl, -, -, -⟩
        refine ⟨fun _ => ⟨by omega, by omega, ⟨by omega, by omega⟩, nx _ _⟩, fun _ => ⟨fun _ z1 _ _ z2 _ _ => ⟨by omega, by omega, ⟨by omega, by omega⟩, nx _ _⟩, fun c => ⟨by omega, by omega, fun z1 _ _ z2 _ _ => ⟨by omega, by omega, ⟨by omega, by omega⟩, nx _ _⟩⟩⟩⟩
      have J : ∀ (y : Int), (y = 0 ∨ y = 1 ∧ x3 + 1 < za s 112 k) → 0 ≤ x3 → wr_rowsOf_117 Q (wr_rowsOf_11 Q m) s1 k x2 x3 (6000 * (k : Int) + x3) (zan (za s1 109 (Int.toNat (6000 * (k : Int) + x3))) 255) y := fun y hy h3 => by
        have P : ∀ v : Int, x3 < v → v ≤ za s 112 k → zSm s1 (zpa s1 110 (Int.toNat (6000 * (k : Int) + x3)) v) [110, 111] [] ∧ pE (zpa s1 110 (Int.toNat (6000 * (k : Int) + x3)) v) k x3 ∧ ∀ i : Nat, (i < 6000 * k ∨ 6000 * k + 6000 ≤ i) → za (zpa s1 110 (Int.toNat (6000 * (k : Int) + x3)) v) 110 i = za s 110 i := fun v v0 v1 => by
          refine ⟨zSm.rf.pa rfl, fun p p0 p1 => ?_, fun i hi => ?_⟩
          · have p1' : p < za s1 112 k := p1
            show p < za (zpa s1 110 (Int.toNat (6000 * (k : Int) + x3)) v) 110 (6000 * (k : Int) + p).toNat ∧ za (zpa s1 110 (Int.toNat (6000 * (k : Int) + x3)) v) 110 (6000 * (k : Int) + p).toNat ≤ za s1 112 k
            rw [za_pa, if_pos rfl]
            by_cases e : p = x3
            · subst e
              rw [if_pos rfl]
              omega
            · rw [if_neg (by omega)]
              exact pe p (by omega) p1'
          · rw [za_pa, if_pos rfl, if_neg (by omega)]
            exact o i hi
        unfold wr_rowsOf_117
        refine ⟨fun c => ⟨by omega, by omega, ⟨by omega, by omega⟩, fun _ => ?_, fun c2 => absurd c c2⟩, fun c => ?_⟩
        · obtain ⟨p1, p2, p3⟩ := P (x3 + 1) (by omega) (by omega)
          exact E _ y 1 p1 p2 p3 (Or.inl c) h3
        · have hy2 : x3 + 1 < za s 112 k := by omega
          have q := pe (x3 + 1) (by omega) (by omega)
          rw [show (6000 * (k : Int) + (x3 + 1)) = 6000 * (k : Int) + x3 + 1 by omega] at q
          obtain ⟨p1, p2, p3⟩ := P (za s1 110 (6000 * (k : Int) + x3 + 1).toNat) (by omega) (by omega)
          exact ⟨by omega, by omega, by omega, by omega, fun c2 => absurd c2 c, fun _ z _ _ => E _ y z p1 p2 p3 (Or.inr hy2) h3⟩
      have K : ∀ y0 : Int, (0 ≤ y0 → x3 + 1 < za s 112 k) → 0 ≤ x3 → wr_rowsOf_78 Q (wr_rowsOf_11 Q m) s1 k x2 x3 (6000 * (k : Int) + x3) (zan (za s1 109 (Int.toNat (6000 * (k : Int) + x3))) 255) y0 := fun y0 hy h3 => by
        have dig : ∀ b : Int, wr_isDigit s1 b (fun r9 s10 => ((r9 = 0 → wr_rowsOf_117 Q (wr_rowsOf_11 Q m) s10 k x2 x3 (6000 * (k : Int) + x3) (zan (za s1 109 (Int.toNat (6000 * (k : Int) + x3))) 255) 0) ∧ (¬ r9 = 0 → wr_isDigit s10 y0 (fun r18 s19 => ((r18 = 0 → wr_rowsOf_117 Q (wr_rowsOf_11 Q m) s19 k x2 x3 (6000 * (k : Int) + x3) (zan (za s1 109 (Int.toNat (6000 * (k : Int) + x3))) 255) 0) ∧ (¬ r18 = 0 → wr_rowsOf_117 Q (wr_rowsOf_11 Q m) s19 k x2 x3 (6000 * (k : Int) + x3) (zan (za s1 109 (Int.toNat (6000 * (k : Int) + x3))) 255) 1)))))) := fun b => by
          refine ffm_isDigit (sp_isDigit s1 b) ?_
          rintro r s3 - ⟨rfl, -, -, -⟩
          refine ⟨fun _ => J 0 (Or.inl rfl) h3, fun _ => ?_⟩
          refine ffm_isDigit (sp_isDigit _ y0) ?_
          rintro r2 s4 - ⟨rfl, d1, d2, -⟩
          exact ⟨fun _ => J 0 (Or.inl rfl) h3, fun c => J 1 (Or.inr ⟨rfl, hy (by have := d2 (d1.elim (fun q => absurd q c) id); omega)⟩) h3⟩
        unfold wr_rowsOf_78
        refine ffm_isBlank (sp_isBlank s1 _) ?_
        rintro r s3 - ⟨rfl, -, -⟩
        refine ⟨fun _ => dig _, fun _ => ?_⟩
        refine ffm_isBlank (sp_isBlank _ y0) ?_
        rintro r2 s4 - ⟨rfl, d1, d2⟩
        exact ⟨fun c => J 1 (Or.inr ⟨rfl, hy (d2 (d1.elim (fun q => absurd q c) id))⟩) h3, fun _ => dig _⟩
      refine ⟨fun c => ?_, fun c => ⟨by omega, by omega, by omega, by omega, ⟨by omega, by omega⟩, fun c2 => K (-1) (fun q => absurd q (by decide)) (by omega), fun c2 => ⟨by omega, by omega, K _ (fun _ => by omega) (by omega)⟩⟩⟩
      have : x3 = -1 := by omega
      subst this
      exact hq s1 f pe o
  unfold wr_rowsOf
  rw [Int.toNat_natCast]
  refine ⟨by omega, by omega, ⟨by omega, by omega⟩, (za s 112 k).toNat + 1, L _ 1 _ s (by omega) (by omega) (by omega) zSm.rf (fun p p0 p1 => ?_) (fun _ _ => rfl)⟩
  have p1' : p < za s 112 k := p1
  omega
theorem sp_input (s : zS) (a N : Int) (h : pJ s N) (hN : N ≤ 1280) {Q : Int → zS → Prop} (hq : ∀ r s', pJ s' 0 → (r = -1 ∧ ¬ (0 ≤ a ∧ a ≤ 3) ∨ r = zv s 2 ∧ 0 ≤ a ∧ a ≤ 3) → Q r s') : wr_input s a Q := by
  obtain ⟨hI, h57, h76, h105⟩ := id h
  obtain ⟨i0, i1, i2, i3, i4, i5⟩ := id hI
  have D : ∀ s', zSm s s' [109, 110, 111, 112, 113] [0, 2] → zv s' 2 = 0 → (∀ k : Nat, k < 4 → 0 ≤ za s' 112 k ∧ za s' 112 k ≤ 1280 ∧ 0 ≤ za s' 113 k ∧ za s' 113 k ≤ za s' 112 k ∧ pE s' k 0) → pJ s' 0 := fun s' f e2 e5 => by
    refine ⟨⟨by omega, by omega, by rw [f.v 99 rfl]; exact i2, by rw [f.v 100 rfl]; exact i3, fun k hk => by rw [f.a 116 k rfl]; exact i4 k hk, e5⟩, fun e => by rw [f.a 57 e rfl]; exact h57 e, by rw [f.v 76 rfl]; exact h76, fun q => ?_⟩
    rw [f.v 105 rfl] at q
    exact (h105 q).sm f rfl rfl
  have f0 : zSm s (zpv (zpv s 0 0) 2 0) [109, 110, 111, 112, 113] [0, 2] := (zSm.rf.pv rfl).pv rfl
  have out : ¬ (0 ≤ a ∧ a ≤ 3) → Q (-1) (zpv (zpv s 0 0) 2 0) := fun q => hq _ _ (D _ f0 rfl i5) (Or.inl ⟨rfl, q⟩)
  unfold wr_input
  refine ⟨fun _ => out (by omega), fun c0 => ⟨fun c3 => ?_, fun _ => out (by omega)⟩⟩
  obtain ⟨k, rfl⟩ : ∃ k : Nat, a = k := ⟨a.toNat, by omega⟩
  have hk : k < 4 := by omega
  have L : ∀ (m : Nat) (x : Int) (s1 : zS), 0 ≤ x → x ≤ zv s 2 → zv s 2 - x < m → zSm s s1 [109] [0, 2] → zv s1 2 = 0 → wr_input_28 Q m s1 k (zv s 2) x := by
    intro m
    induction m with
    | zero => intro x s1 a1 a2 a3; omega
    | succ m ih =>
      intro x s1 a1 a2 a3 f1 e2
      unfold wr_input_28
      unfold wr_input_28B
      rw [Int.toNat_natCast]
      refine ⟨fun _ => ⟨by omega, by omega, by omega, by omega, ?_⟩, fun c => ⟨by omega, by omega, by omega, by omega, ⟨by omega, by omega⟩, ih _ _ (by omega) (by omega) (by omega) (f1.pa rfl) e2⟩⟩
      have f2 : zSm s1 (zpa (zpa s1 112 k (zv s 2)) 113 k 0) [112, 113] [] := (zSm.rf.pa rfl).pa rfl
      have v112 : ∀ j : Nat, za (zpa (zpa s1 112 k (zv s 2)) 113 k 0) 112 j = if j = k then zv s 2 else za s 112 j := fun j => by
        simp only [za_pa, reduceIte, Nat.reduceEqDiff]
        rw [f1.a 112 j rfl]
      have v113 : ∀ j : Nat, za (zpa (zpa s1 112 k (zv s 2)) 113 k 0) 113 j = if j = k then 0 else za s 113 j := fun j => by
        simp only [za_pa, reduceIte, Nat.reduceEqDiff]
        rw [f1.a 113 j rfl]
      have w2 : zv (zpa (zpa s1 112 k (zv s 2)) 113 k 0) 2 = 0 := e2
      generalize zpa (zpa s1 112 k (zv s 2)) 113 k 0 = s2 at f2 v112 v113 w2
      have vk : za s2 112 k = zv s 2 := by rw [v112, if_pos rfl]
      refine sp_rowsOf s2 k hk (by omega) (by omega) (fun s3 f3 pe o3 => hq _ s3 (D s3 ?_ (by rw [f3.v 2 rfl]; exact w2) (fun j hj => ?_)) (Or.inr ⟨rfl, by omega, by omega⟩))
      · exact ((zSm.rf.tr f1 rfl rfl : zSm s s1 [109, 110, 111, 112, 113] [0, 2]).tr f2 rfl rfl).tr f3 rfl rfl
      · have x112 : za s3 112 j = za s2 112 j := f3.a 112 j rfl
        have x113 : za s3 113 j = za s2 113 j := f3.a 113 j rfl
        by_cases e : j = k
        · subst e
          rw [x113, v113, if_pos rfl, x112, vk]
          exact ⟨i0, by omega, by omega, i0, pe⟩
        · obtain ⟨g1, g2, g3, g4, g5⟩ := i5 j hj
          rw [x113, v113, if_neg e, x112, v112, if_neg e]
          refine ⟨g1, g2, g3, g4, fun p p0 p1 => ?_⟩
          rw [x112, v112, if_neg e] at p1 ⊢
          have e110 : za s3 110 (6000 * (j : Int) + p).toNat = za s 110 (6000 * (j : Int) + p).toNat := by
            rw [o3 _ (by omega), f2.a 110 _ rfl, f1.a 110 _ rfl]
          rw [e110]
          exact g5 p p0 p1
  exact ⟨(zv s 2).toNat + 1, L _ 0 _ (by omega) i0 (by omega) ((zSm.rf.pv rfl).pv rfl) rfl⟩

