/-! THE RUN: A ROUTINE IS ENTERED -/
section RUN
variable {s4 s1 : zS} {kids : Nat → List Nat} {up sz : Nat → Nat} {root N : Nat}
theorem xIO.lim {s : zS} (h : xIO s) {Q : Int → zS → Prop} (hq : ∀ r, 0 ≤ r → r ≤ 65536 → Q r s) : wr_limit s Q := by
  obtain ⟨⟨a0, a1⟩, ⟨b0, b1, b2⟩, -⟩ := h
  unfold wr_limit
  refine ⟨fun _ => hq _ a0 a1, fun c => ⟨by omega, by omega, ?_⟩⟩
  have := b2 (Int.toNat (zv s 106 - 1)) (by omega)
  exact hq _ this.1 this.2.1
/-- an end: the program and the channels stand -/
theorem xPost.en {m : Nat} {s s' : zS} {js ks : List Nat} (a : xS s4 s1 s) (c : xIO s) (f : zSm s s' js ks) (e : xEd s') (hj : ([25, 27, 28, 29, 30, 31, 32, 70, 71, 72, 85, 107, 108, 110, 112, 113, 116].all fun j => !js.contains j) = true) (hk : ([69, 99, 101, 106, 114, 117].all fun k => !ks.contains k) = true) : xPost s4 s1 kids up sz root N m s' := by
  have aj : ∀ l : List Nat, l.all (fun z => ([25, 27, 28, 29, 30, 31, 32, 70, 71, 72, 85, 107, 108, 110, 112, 113, 116] : List Nat).contains z) = true → (l.all fun j => !js.contains j) = true := fun l hl => List.all_eq_true.mpr (fun j hj2 => List.all_eq_true.mp hj j (by simpa using List.all_eq_true.mp hl j hj2))
  have ak : ∀ l : List Nat, l.all (fun z => ([69, 99, 101, 106, 114, 117] : List Nat).contains z) = true → (l.all fun k => !ks.contains k) = true := fun l hl => List.all_eq_true.mpr (fun k hk2 => List.all_eq_true.mp hk k (by simpa using List.all_eq_true.mp hl k hk2))
  have n69 : ks.contains 69 = false := by simpa using List.all_eq_true.mp hk 69 (by decide)
  exact ⟨a.sm f (aj _ rfl) n69, c.sm f (aj _ rfl) (ak _ rfl), Or.inl e⟩
theorem sp_e197 {s : zS} {Q : zS → Prop} {L : List xT} (k : xTk s L) (hl : L.length < 600000) {x : Nat} {w y0 : Int} (hw : zv s 91 = w) (hq : ∀ s', xTk s' ((if y0 = 0 then (10, x, 0) else (1, x, 0)) :: (18, (if y0 = 0 then 0 else 1), w) :: L) → zSm s s' [88, 89, 90] [87] → Q s') : wr_enter_197 Q s x y0 := by
  unfold wr_enter_197
  rw [hw]
  refine ⟨fun c => sp_todo k (by omega) 18 0 w rfl rfl (fun s2 k2 f2 => ⟨fun _ => ?_, fun n => absurd c n⟩), fun n => sp_todo k (by omega) 18 1 w rfl rfl (fun s2 k2 f2 => ⟨fun c => absurd c n, fun _ => ?_⟩)⟩
  · refine sp_todo k2 (by show L.length + 1 < 620000; omega) 10 x 0 rfl rfl (fun s3 k3 f3 => hq s3 ?_ (f2.tr f3 rfl rfl))
    rw [if_pos c, if_pos c]
    exact k3
  · refine sp_todo k2 (by show L.length + 1 < 620000; omega) 1 x 0 rfl rfl (fun s3 k3 f3 => hq s3 ?_ (f2.tr f3 rfl rfl))
    rw [if_neg n, if_neg n]
    exact k3
theorem sp_e72 {Q : zS → Prop} {r : Nat} {at0 x3 w M : Int} (hr : r < 3100) (h0 : 0 ≤ at0) (hM : at0 + 2 + M ≤ 65536) (hw : 0 ≤ w) (hwx : w + x3 ≤ 300000) (hx3 : 0 ≤ x3) : ∀ (m : Nat) (s : zS) (x5 : Int), za s 71 r = M → M - x5 < m → 0 ≤ x5 → 0 < m → (∀ s', zSm s s' [98] [] → (0 ≤ zv s' 95) ∧ (zv s' 95 < 600) ∧ (0 ≤ zv s' 95) ∧ (zv s' 95 < 600) ∧ (zR (zv s' 95 + 1)) ∧ (0 ≤ (r : Int)) ∧ ((r : Int) < 3100) ∧ (0 ≤ za s' 72 r) ∧ (za s' 72 r < 26000) ∧ ((20 ≤ za s' 25 (Int.toNat (za s' 72 r)) → wr_enter_197 Q (zpv (zpv (zpv (zpa (zpa (zpv s' 91 w) 93 (Int.toNat (zv s' 95)) (zv s' 96)) 94 (Int.toNat (zv s' 95)) (zv s' 97)) 95 (zv s' 95 + 1)) 96 at0) 97 r) (za s' 72 r) 0) ∧ (¬ 20 ≤ za s' 25 (Int.toNat (za s' 72 r)) → wr_enter_197 Q (zpv (zpv (zpv (zpa (zpa (zpv s' 91 w) 93 (Int.toNat (zv s' 95)) (zv s' 96)) 94 (Int.toNat (zv s' 95)) (zv s' 97)) 95 (zv s' 95 + 1)) 96 at0) 97 r) (za s' 72 r) 1))) → wr_enter_72 Q m s r at0 x3 w x5 := by
  intro m
  induction m with
  | zero => intro s x5 _ _ _ h; omega
  | succ m ih =>
    intro s x5 e71 hm h5 _ h
    unfold wr_enter_72
    unfold wr_enter_72B
    rw [Int.toNat_natCast, e71]
    refine ⟨by omega, by omega, fun _ => h s zSm.rf, fun c => ⟨fun c3 => ⟨by omega, by omega, ⟨by omega, by omega⟩, ?_⟩, fun c3 => ⟨by omega, by omega, by omega, by omega, ⟨by omega, by omega⟩, ?_⟩⟩⟩
    · exact ih _ (x5 + 1) (by rw [za_pa, if_neg (by decide)]; exact e71) (by omega) (by omega) (by omega) (fun s' f => h s' ((zSm.rf.pa rfl : zSm s _ [98] []).tr f rfl rfl))
    · exact ih _ (x5 + 1) (by rw [za_pa, if_neg (by decide)]; exact e71) (by omega) (by omega) (by omega) (fun s' f => h s' ((zSm.rf.pa rfl : zSm s _ [98] []).tr f rfl rfl))
theorem sp_enter (p : xP s4 s1 kids up sz root N) {s : zS} {L : List xT} {F : List Nat} {m : Nat} (b : xBs s4 s1 s F) (k : xTk s L) {r w many : Nat} (hv : zv s 91 = ((w + many : Nat) : Int)) (hvb : w + many ≤ 290000) (hr : (r : Int) < zv s1 69) {at0 : Int} (h0 : 0 ≤ at0) (h1 : at0 ≤ 2000000000) (o : xOk s4 s1 kids up sz root N L (w + 1) F) (hB : w + L.length ≤ xB F) (hm : (zv s 101).toNat * 100000000000000 + xW kids up sz L ≤ m) : wr_enter s r at0 many (xPost s4 s1 kids up sz root N m) := by
  obtain ⟨c1, c2, c3, c4, c5⟩ := id b
  have hf := c5.2.2.2.2.2.2
  have hb := xB.le c3
  have hr2 := p.r0
  obtain ⟨y, y1, y2, y3, y4, y5, y6, y7, y8, y9, y10, y11, y12⟩ := p.rt hr
  unfold wr_enter
  refine sp_burns s hf.1 hf.2 (fun s2 f2 e1 e2 => ⟨fun _ => ?_, fun q => absurd q (by decide)⟩) (fun s2 f2 e => ⟨fun q => absurd rfl q, fun _ => xPost.ed b f2 e rfl rfl rfl⟩)
  have b2 := b.fu f2 rfl rfl e2 (by omega)
  have k2 := k.sm f2 rfl rfl
  have hv2 : zv s2 91 = ((w + many : Nat) : Int) := by rw [f2.v 91 rfl]; exact hv
  have er : ∀ t, zSm s2 t [] [102, 103, 104] → xEd t → xPost s4 s1 kids up sz root N m t := fun t f e => xPost.ed b2 f e rfl rfl rfl
  refine ⟨fun _ => sp_err s2 5 er, fun n100 => ⟨by omega, by omega, b2.2.2.2.2.lim (fun lim l0 l1 => ?_)⟩⟩
  have e95 : zv s2 95 = F.length := b2.2.1
  have hFl : F.length < 100 := by omega
  rw [Int.toNat_natCast, b2.1.2.1 70 (by decide) r]
  refine ⟨⟨by omega, by omega⟩, fun cl => ⟨by omega, by omega, by omega, by omega, ⟨by omega, by omega⟩, ⟨by omega, by omega⟩, 30, ?_⟩, fun _ => sp_err s2 5 er⟩
  rw [hv2, show (((w + many : Nat) : Int) - (many : Int)) = (w : Int) by omega]
  have f3 : zSm s2 (zpa (zpa s2 98 (Int.toNat at0) (zv s2 96)) 98 (Int.toNat (at0 + 1)) (1000000 + (r : Int))) [98] [] := (zSm.rf.pa rfl).pa rfl
  generalize zpa (zpa s2 98 (Int.toNat at0) (zv s2 96)) 98 (Int.toNat (at0 + 1)) (1000000 + (r : Int)) = s3 at f3
  refine sp_e72 (M := za s1 71 r) (by omega) h0 (by omega) (by omega) (by omega) (by omega) 30 s3 0 (by rw [f3.a 71 r rfl]; exact b2.1.2.1 71 (by decide) r) (by omega) (by omega) (by omega) (fun s5 f5 => ?_)
  have F5 : zSm s2 s5 [98] [] := f3.tr f5 rfl rfl
  have b5 := b2.sm F5 rfl rfl rfl
  have k5 := k2.sm F5 rfl rfl
  have e95' : zv s5 95 = F.length := b5.2.1
  have e72 : za s5 72 r = (bo s1 r : Nat) := by rw [b5.1.2.1 72 (by decide) r]; exact y5
  have hN := p.hN
  have hbo : bo s1 r < N := y6
  rw [e72, Int.toNat_natCast, b5.1.k, e95', Int.toNat_natCast]
  have f6 : zSm s5 (zpv (zpv (zpv (zpa (zpa (zpv s5 91 (w : Int)) 93 F.length (zv s5 96)) 94 F.length (zv s5 97)) 95 ((F.length : Int) + 1)) 96 at0) 97 (r : Int)) [93, 94] [91, 95, 96, 97] := (((((zSm.rf.pv rfl).pa rfl).pa rfl).pv rfl).pv rfl).pv rfl
  have g91 : zv (zpv (zpv (zpv (zpa (zpa (zpv s5 91 (w : Int)) 93 F.length (zv s5 96)) 94 F.length (zv s5 97)) 95 ((F.length : Int) + 1)) 96 at0) 97 (r : Int)) 91 = (w : Int) := rfl
  have g95 : zv (zpv (zpv (zpv (zpa (zpa (zpv s5 91 (w : Int)) 93 F.length (zv s5 96)) 94 F.length (zv s5 97)) 95 ((F.length : Int) + 1)) 96 at0) 97 (r : Int)) 95 = (F.length : Int) + 1 := rfl
  have g96 : zv (zpv (zpv (zpv (zpa (zpa (zpv s5 91 (w : Int)) 93 F.length (zv s5 96)) 94 F.length (zv s5 97)) 95 ((F.length : Int) + 1)) 96 at0) 97 (r : Int)) 96 = at0 := rfl
  have g97 : zv (zpv (zpv (zpv (zpa (zpa (zpv s5 91 (w : Int)) 93 F.length (zv s5 96)) 94 F.length (zv s5 97)) 95 ((F.length : Int) + 1)) 96 at0) 97 (r : Int)) 97 = (r : Int) := rfl
  have g93 : ∀ i : Nat, za (zpv (zpv (zpv (zpa (zpa (zpv s5 91 (w : Int)) 93 F.length (zv s5 96)) 94 F.length (zv s5 97)) 95 ((F.length : Int) + 1)) 96 at0) 97 (r : Int)) 93 i = if i = F.length then zv s5 96 else za s5 93 i := fun i => by simp only [za_pv, za_pa, reduceIte, Nat.reduceEqDiff]
  have g94 : ∀ i : Nat, za (zpv (zpv (zpv (zpa (zpa (zpv s5 91 (w : Int)) 93 F.length (zv s5 96)) 94 F.length (zv s5 97)) 95 ((F.length : Int) + 1)) 96 at0) 97 (r : Int)) 94 i = if i = F.length then zv s5 97 else za s5 94 i := fun i => by simp only [za_pv, za_pa, reduceIte, Nat.reduceEqDiff]
  generalize zpv (zpv (zpv (zpa (zpa (zpv s5 91 (w : Int)) 93 F.length (zv s5 96)) 94 F.length (zv s5 97)) 95 ((F.length : Int) + 1)) 96 at0) 97 (r : Int) = s6 at f6 g91 g95 g96 g97 g93 g94
  have e4 : (r :: F).length = F.length + 1 := rfl
  have b6 : xBs s4 s1 s6 (r :: F) := by
    obtain ⟨d1, d2, d3, d4, d5⟩ := b5
    refine ⟨d1.sm f6 rfl rfl, by rw [g95, e4]; omega, by rw [e4]; omega, ?_, d5.sm f6 rfl rfl⟩
    refine ⟨g97, by omega, by rw [g96]; omega, hr, ?_⟩
    rw [g93, g94, if_pos rfl, if_pos rfl]
    exact d4.fr (fun i hi => ⟨by rw [g93, if_neg (by omega)], by rw [g94, if_neg (by omega)]⟩)
  have hxB : xB (r :: F) = xB F + 2700 := by unfold xB; rw [e4]; omega
  have zy := p.h.szr y1
  have zby : sz (bo s1 r) + 1 ≤ sz y := by
    have h1 := p.h.ss y (p.h.lt y1)
    have h2 := sum_mem (sz := sz) y4
    rw [y3]
    omega
  have xi : xI s4 s1 kids (r :: F) (bo s1 r) := ⟨r, F, rfl, hr, rin.rt _ _ _⟩
  have fin : ∀ y0 : Int, (y0 = 0 → 20 ≤ za s4 25 (bo s1 r)) → (¬ y0 = 0 → za s4 25 (bo s1 r) < 20) → wr_enter_197 (xPost s4 s1 kids up sz root N m) s6 (bo s1 r) y0 := fun y0 c0 c1' => by
    refine sp_e197 (k5.sm f6 rfl rfl) (by omega) g91 (fun s7 k7 f7 => ?_)
    have b7 := b6.sm f7 rfl rfl rfl
    have h101 : zv s7 101 = zv s 101 - 1 := by rw [f7.v 101 rfl, f6.v 101 rfl, F5.v 101 rfl]; exact e1
    have e20 : zv s2 101 = zv s 101 - 1 := e1
    have hv7 : zv s7 91 = (w : Int) := by rw [f7.v 91 rfl]; exact g91
    refine xPost.st b7 k7 hv7 ?_ ?_
    · by_cases q : y0 = 0
      · rw [if_pos q, if_pos q]
        have en0 : xEn s4 s1 kids up sz root N 18 0 (w : Int) L w (r :: F) (w + 1) F := ⟨⟨r, rfl, hr, Or.inr ⟨c0 q, rfl⟩⟩, by omega, by omega, by omega⟩
        have kc : kC (za s4 25 (bo s1 r)) := by
          rcases y7 with e | e
          · have := c0 q
            have := e.2
            omega
          · exact e
        refine ⟨w, r :: F, ⟨rfl, rfl, xi, kc, by show w + (L.length + 1) + sz (bo s1 r) ≤ xB (r :: F); omega, ?_⟩, w + 1, F, en0, o⟩
        rw [y3]
        exact xC.ro p y1 y4 y2
      · rw [if_neg q, if_neg q]
        have en1 : xEn s4 s1 kids up sz root N 18 1 (w : Int) L (w + 1) (r :: F) (w + 1) F := ⟨⟨r, rfl, hr, Or.inl ⟨c1' q, rfl, rfl⟩⟩, by omega, by omega, by omega⟩
        have ke : kE (za s4 25 (bo s1 r)) := by
          rcases y7 with e | e
          · exact e
          · have := c1' q
            have := e.1
            omega
        exact ⟨w + 1, r :: F, ⟨rfl, rfl, xi, ke, by show w + (L.length + 1) + sz (bo s1 r) ≤ xB (r :: F); omega⟩, w + 1, F, en1, o⟩
    · have hw7 : xW kids up sz ((if y0 = 0 then (10, bo s1 r, 0) else (1, bo s1 r, 0)) :: (18, (if y0 = 0 then 0 else 1), (w : Int)) :: L) = 70000 * sz (bo s1 r) + (1 + xW kids up sz L) := by
        by_cases q : y0 = 0
        · rw [if_pos q]; rfl
        · rw [if_neg q]; rfl
      unfold xMu
      rw [hw7, h101]
      omega
  exact ⟨by omega, by omega, by omega, by omega, ⟨by omega, by omega⟩, by omega, by omega, by omega, by omega, fun q => fin 0 (fun _ => q) (fun n => absurd rfl n), fun q => fin 1 (fun n => absurd n (by decide)) (fun _ => by omega)⟩
end RUN
