/-! THE RUN: EVERY STEP, THE WHOLE -/
section RUN
variable {s4 s1 : zS} {kids : Nat → List Nat} {up sz : Nat → Nat} {root N : Nat}
theorem xs_1 (p : xP s4 s1 kids up sz root N) {s : zS} {x : Nat} {a : Int} {L : List xT} {v : Nat} {F : List Nat} (h : xSt s4 s1 kids up sz root N s ((1, x, a) :: L) v F) : wr_doNext s (xPost s4 s1 kids up sz root N (xMu kids up sz s ((1, x, a) :: L))) := by
  obtain ⟨-, -, -, v', F', ⟨-, -, -, ⟨e1, e2⟩, -⟩, -⟩ := h.op
  have hk : (za s4 25 x = 1 ∨ za s4 25 x = 2 ∨ za s4 25 x = 3 ∨ za s4 25 x = 5) ∨ za s4 25 x = 4 ∨ za s4 25 x = 6 ∨ (za s4 25 x = 7 ∨ za s4 25 x = 9 ∨ za s4 25 x = 10) ∨ za s4 25 x = 8 ∨ za s4 25 x = 11 ∨ za s4 25 x = 12 := by omega
  rcases hk with k | k | k | k | k | k | k
  · exact st_leaf p h k
  · exact st_vf p h k
  · exact st_ca p h k
  · exact st_sg p h k
  · exact st_at p h k
  · exact st_re p h k
  · exact st_co p h k
theorem xs_10 (p : xP s4 s1 kids up sz root N) {s : zS} {x : Nat} {a : Int} {L : List xT} {v : Nat} {F : List Nat} (h : xSt s4 s1 kids up sz root N s ((10, x, a) :: L) v F) : wr_doNext s (xPost s4 s1 kids up sz root N (xMu kids up sz s ((10, x, a) :: L))) := by
  obtain ⟨-, -, -, v', F', ⟨-, -, -, ⟨e1, e2⟩, -⟩, -⟩ := h.op
  have hk : za s4 25 x = 20 ∨ za s4 25 x = 27 ∨ (za s4 25 x = 21 ∨ za s4 25 x = 22 ∨ za s4 25 x = 23 ∨ za s4 25 x = 24 ∨ za s4 25 x = 25 ∨ za s4 25 x = 26 ∨ za s4 25 x = 28 ∨ za s4 25 x = 33 ∨ za s4 25 x = 34) ∨ (za s4 25 x = 29 ∨ za s4 25 x = 30 ∨ za s4 25 x = 31 ∨ za s4 25 x = 32 ∨ za s4 25 x = 35) ∨ (za s4 25 x = 36 ∨ za s4 25 x = 37 ∨ za s4 25 x = 38 ∨ za s4 25 x = 39 ∨ za s4 25 x = 40) := by omega
  rcases hk with k | k | k | k | k
  · exact xs_as p h k
  · exact xs_27 p h k
  · exact xs_bp p h k
  · exact xs_jp p h k
  · exact xs_nb p h k
theorem xs_all (p : xP s4 s1 kids up sz root N) {s : zS} {t x : Nat} {a : Int} {L : List xT} {v : Nat} {F : List Nat} (h : xSt s4 s1 kids up sz root N s ((t, x, a) :: L) v F) : wr_doNext s (xPost s4 s1 kids up sz root N (xMu kids up sz s ((t, x, a) :: L))) := by
  have ht : 1 ≤ t ∧ t ≤ 23 := by
    obtain ⟨-, -, -, v', F', en, -⟩ := h.op
    match t, en with
    | 0, en => exact absurd en id
    | n + 24, en => exact absurd en id
    | 1, _ | 2, _ | 3, _ | 4, _ | 5, _ | 6, _ | 7, _ | 8, _ | 9, _ | 10, _ | 11, _ | 12, _ | 13, _ | 14, _ | 15, _ | 16, _ | 17, _ | 18, _ | 19, _ | 20, _ | 21, _ | 22, _ | 23, _ => decide
  have hc : t = 1 ∨ t = 2 ∨ t = 3 ∨ t = 4 ∨ t = 5 ∨ t = 6 ∨ t = 7 ∨ t = 8 ∨ t = 9 ∨ t = 10 ∨ t = 11 ∨ t = 12 ∨ t = 13 ∨ t = 14 ∨ t = 15 ∨ t = 16 ∨ t = 17 ∨ t = 18 ∨ t = 19 ∨ t = 20 ∨ t = 21 ∨ t = 22 ∨ t = 23 := by omega
  rcases hc with rfl | rfl | rfl | rfl | rfl | rfl | rfl | rfl | rfl | rfl | rfl | rfl | rfl | rfl | rfl | rfl | rfl | rfl | rfl | rfl | rfl | rfl | rfl
  · exact xs_1 p h
  · exact xs_2 p h
  · exact xs_3 p h
  · exact xs_4 h
  · exact xs_5 p h
  · exact xs_6 p h
  · exact xs_7 p h
  · exact xs_8 h
  · exact xs_9 h
  · exact xs_10 p h
  · exact xs_11 p h
  · exact xs_12 p h
  · exact xs_13 h
  · exact xs_14 p h
  · exact xs_15 p h
  · exact xs_16 p h
  · exact xs_17 p h
  · exact xs_18 h
  · exact xs_19 p h
  · exact xs_20 p h
  · exact xs_21 p h
  · exact xs_22 h
  · exact xs_23 p h
/-- the run's loop -/
theorem sp_r172 (p : xP s4 s1 kids up sz root N) {Q : Int → zS → Prop} (hq : ∀ r s', xS s4 s1 s' → xIO s' → Q r s') : ∀ (m : Nat) (s : zS) (L : List xT) (v : Nat) (F : List Nat), xSt s4 s1 kids up sz root N s L v F → xMu kids up sz s L + 1 < m → wr_run_172 Q m s := by
  intro m
  induction m with
  | zero => intro s L v F _ h; omega
  | succ m ih =>
    intro s L v F h hm
    have b := h.1
    unfold wr_run_172
    unfold wr_run_172B
    refine ⟨fun c => ⟨fun _ => hq _ s b.1 b.2.2.2.2, fun e => absurd e c⟩, fun e => ⟨fun c => ⟨fun n => absurd e n, fun _ => ?_⟩, fun c => ?_⟩⟩
    · obtain ⟨-, k, hv, o⟩ := h
      cases L with
      | nil =>
        obtain ⟨rfl, rfl⟩ := o
        refine sp_pop s (v := 0) hv (by omega) (fun r s2 f2 e2 => ?_)
        have f3 : zSm s (zpv s2 104 r) [] [91, 104] := (zSm.rf.tr f2 rfl rfl : zSm s s2 [] [91, 104]).pv rfl
        exact hq _ _ (b.1.sm f3 rfl rfl) (b.2.2.2.2.sm f3 rfl rfl)
      | cons g L =>
        have := k.2
        have e4 : (g :: L).length = L.length + 1 := rfl
        omega
    · obtain ⟨-, k, hv, o⟩ := id h
      cases L with
      | nil =>
        have := k.2
        have e4 : ([] : List xT).length = 0 := rfl
        omega
      | cons g L =>
        obtain ⟨t, x, a⟩ := g
        have K : ∀ s', xPost s4 s1 kids up sz root N (xMu kids up sz s ((t, x, a) :: L)) s' → wr_run_172 Q m s' := fun s' q => by
          obtain ⟨q1, q2, q3⟩ := q
          by_cases e' : zv s' 102 = 0
          · rcases q3 with q3 | ⟨L', v', F', q3, q4⟩
            · exact absurd e' q3
            · exact ih s' L' v' F' q3 (by omega)
          · obtain ⟨m', rfl⟩ : ∃ m', m = m' + 1 := ⟨m - 1, by omega⟩
            unfold wr_run_172
            unfold wr_run_172B
            exact ⟨fun _ => ⟨fun _ => hq _ s' q1 q2, fun e => absurd e e'⟩, fun e => absurd e e'⟩
        exact ffm_doNext (xs_all p h) (fun s' _ q => K s' q)
/-- what the check has left is a program -/
theorem ckR.p (c : ckR kids up sz root s4 s1) (h12 : zv s1 12 = 0) (hN : root + 1 ≤ 2700) : xP s4 s1 kids up sz root (root + 1) := by
  obtain ⟨h, hA, h60, g, -, q⟩ := c
  obtain ⟨q1, q2, q3, q4, -⟩ := q h12
  have hro := g.ro
  have kr60 : kr (za s4 25) kids root = kids root := kr_eq (by rw [h60]; rfl)
  have fr : fac s4 kids up root (root + 1) s1 (zv s1 75) root := by
    have z : ∀ k : Int, ¬ k = 60 → ¬ za s4 25 root = k := fun k hk e => hk (by rw [← e]; exact h60)
    refine ⟨fun k => absurd k (z _ (by decide)), fun k => absurd k (z _ (by decide)), fun k => absurd k (z _ (by decide)), fun k => absurd k (z _ (by decide)), fun k => absurd k (z _ (by decide)), fun k => ?_, fun k => absurd k (z _ (by decide)), fun k => absurd k (z _ (by decide)), fun k => absurd k (z _ (by decide)), fun k => absurd k (z _ (by decide)), fun k => absurd k (z _ (by decide)), fun k => absurd k (z _ (by decide)), fun k => absurd k (z _ (by decide)), fun k => absurd k (z _ (by decide))⟩
    rcases k with k | k
    · exact absurd k (z _ (by decide))
    · exact absurd k (z _ (by decide))
  have Fr : FA s4 kids up root (root + 1) s1 (zv s1 75) root := fun y hy => by
    have : y = root ∨ ∃ c ∈ kids root, rin (za s4 25) kids c y := hy (fun y => y = root ∨ ∃ c ∈ kids root, rin (za s4 25) kids c y) (Or.inl rfl) (fun n c hn hc => by
      rcases hn with rfl | ⟨d, hd, hn⟩
      · rw [kr60] at hc
        exact Or.inr ⟨c, hc, rin.rt _ _ _⟩
      · exact Or.inr ⟨d, hd, hn.kid hc⟩)
    rcases this with rfl | ⟨c, hc, hy⟩
    · exact fr
    · exact q4 c hc y hy
  refine ⟨h, hA, hN, hro.1, q2, g.wd, q1, q3, h12, fun c w => ?_, g.sa, rch.rt kids root⟩
  refine w (fun c => ∃ M, FA s4 kids up root (root + 1) s1 M c) ⟨_, Fr⟩ (fun n c hn hc => ?_) (fun n hn k54 => ?_)
  · obtain ⟨M, hM⟩ := hn
    exact ⟨M, fun y hy => hM y (fun P h1 h2 => hy P (h2 n c h1 hc) h2)⟩
  · obtain ⟨M, hM⟩ := hn
    obtain ⟨r, e1, e2, e3, -⟩ := (hM n (rin.rt _ _ _)).2.2.2.2.2.2.2.2.2.2.2.1 k54
    obtain ⟨-, x, x1, x2, x3, x4, x5, x6, x7, x8⟩ := q3 r e2
    have el : lk kids x = lk kids n := by
      have : ((lk kids x : Nat) : Int) = (lk kids n : Nat) := by rw [← x4, ← e3]
      omega
    exact ⟨_, by rw [← el]; exact x8 h12⟩
theorem pFive_le {y : Int} (h : pFive y) : 0 ≤ y ∧ y ≤ 65536 := by
  unfold pFive at h
  omega
theorem sp_run_io (s : zS) (a n : Int) (h : pJ s n) : wr_run s a (fun _ s' => xIO s' ∨ zSm s s' [] [0]) := by
  obtain ⟨hI, h57, h76, hP⟩ := h
  obtain ⟨i0, i1, i2, i3, i4, i5⟩ := hI
  have no : ∀ r : Int, (fun (_ : Int) (s' : zS) => xIO s' ∨ zSm s s' [] [0]) r (zpv s 0 0) := fun _ => Or.inr (zSm.rf.pv rfl)
  unfold wr_run
  refine ⟨fun _ => no (-1), fun c => ⟨fun _ => no (-1), fun a0 => ⟨fun a1 => ?_, fun _ => no (-1)⟩⟩⟩
  obtain ⟨kids, up, sz, root, s4, s1, ck, z12, hN, hr, hv⟩ := hP c
  have p := ckR.p ck z12 hN
  obtain ⟨ch, -, -, g, -, q⟩ := ck
  obtain ⟨q1, q2, q3, q4, x, x1, x2, d, hd, hx⟩ := q z12
  have gst := g.st
  have gro := g.ro
  have gwd := g.wd
  have git := g.it
  have hS0 : ∀ t js ks, zSm s t js ks → ([25, 27, 28, 29, 30, 31, 32, 70, 71, 72, 85].all fun j => !js.contains j) = true → ks.contains 69 = false → xS s4 s1 t := fun t js ks f hj hk => by
    have b : xS s4 s1 s := by
      refine ⟨fun j hj i => ?_, fun j hj i => ?_, hv 69 rfl⟩
      · rcases hj with rfl | rfl | rfl | rfl
        · rw [hr 25 rfl, gst.a 25 i rfl]
        · rw [hr 27 rfl, gst.a 27 i rfl]
        · rw [hr 28 rfl, gst.a 28 i rfl]
        · rw [hr 32 rfl, gst.a 32 i rfl]
      · rcases hj with rfl | rfl | rfl | rfl | rfl | rfl | rfl
        · exact hr 29 rfl i
        · exact hr 30 rfl i
        · exact hr 31 rfl i
        · exact hr 70 rfl i
        · exact hr 71 rfl i
        · exact hr 72 rfl i
        · exact hr 85 rfl i
    exact b.sm f hj hk
  have fx := q4 d hd x hx
  obtain ⟨r, r1, r2, -⟩ := fx.2.2.2.2.2.2.2.2.2.2.2.1 x2
  have xN : x < root + 1 := by
    have hd2 := (p.h.kd root (by omega) d hd).1
    exact p.h.ltr hd2 (p.h.rr hd2 hx)
  have E : ∀ t, zSm s t [98] [0] → wr_enter (zpv (zpv (zpv (zpv (zpv (zpv (zpv (zpv (zpv (zpa (zpa (zpv (zpv (zpv t 106 0) 114 0) 117 0) 116 (Int.toNat 0) 0) 116 (Int.toNat 1) 0) 101 a) 102 0) 103 0) 104 0) 87 0) 91 0) 95 0) 96 0) 97 0) (za t 29 (Int.toNat (zv t 82))) (zv t 81) 0 (fun s36 => ∃ n, wr_run_172 (fun _ s' => xIO s' ∨ zSm s s' [] [0]) n s36) := fun t f => by
    have f2 : zSm t (zpv (zpv (zpv (zpv (zpv (zpv (zpv (zpv (zpv (zpa (zpa (zpv (zpv (zpv t 106 0) 114 0) 117 0) 116 (Int.toNat 0) 0) 116 (Int.toNat 1) 0) 101 a) 102 0) 103 0) 104 0) 87 0) 91 0) 95 0) 96 0) 97 0) [116] [87, 91, 95, 96, 97, 101, 102, 103, 104, 106, 114, 117] := (((((((((((((zSm.rf.pv rfl).pv rfl).pv rfl).pa rfl).pa rfl).pv rfl).pv rfl).pv rfl).pv rfl).pv rfl).pv rfl).pv rfl).pv rfl).pv rfl
    have V : ∀ u, u = zpv (zpv (zpv (zpv (zpv (zpv (zpv (zpv (zpv (zpa (zpa (zpv (zpv (zpv t 106 0) 114 0) 117 0) 116 (Int.toNat 0) 0) 116 (Int.toNat 1) 0) 101 a) 102 0) 103 0) 104 0) 87 0) 91 0) 95 0) 96 0) 97 0 → zv u 106 = 0 ∧ zv u 114 = 0 ∧ zv u 117 = 0 ∧ zv u 101 = a ∧ zv u 102 = 0 ∧ zv u 87 = 0 ∧ zv u 91 = 0 ∧ zv u 95 = 0 ∧ ∀ k : Nat, k < 2 → za u 116 k = 0 := fun u e => by
      subst e
      refine ⟨rfl, rfl, rfl, rfl, rfl, rfl, rfl, rfl, fun k hk => ?_⟩
      have : k = 0 ∨ k = 1 := by omega
      rcases this with rfl | rfl <;> rfl
    have V2 := V _ rfl
    clear V
    generalize zpv (zpv (zpv (zpv (zpv (zpv (zpv (zpv (zpv (zpa (zpa (zpv (zpv (zpv t 106 0) 114 0) 117 0) 116 (Int.toNat 0) 0) 116 (Int.toNat 1) 0) 101 a) 102 0) 103 0) 104 0) 87 0) 91 0) 95 0) 96 0) 97 0 = u at f2 V2
    obtain ⟨v106, v114, v117, v101, v102, v87, v91, v95, v116⟩ := V2
    have F : zSm s u [98, 116] [0, 87, 91, 95, 96, 97, 101, 102, 103, 104, 106, 114, 117] := (zSm.rf.tr f rfl rfl : zSm s t [98, 116] [0, 87, 91, 95, 96, 97, 101, 102, 103, 104, 106, 114, 117]).tr f2 rfl rfl
    have sS := hS0 u _ _ F rfl rfl
    have f5 : 0 ≤ zv s 99 ∧ zv s 99 ≤ 65536 := pFive_le i2
    have io : xIO u := by
      refine ⟨by rw [F.v 99 rfl]; exact f5, ⟨by omega, by omega, fun k hk => by omega⟩, by omega, Or.inl v117, fun k hk => by rw [v116 k hk]; decide, fun k hk => ?_, by omega⟩
      obtain ⟨g1, g2, g3, g4, g5⟩ := i5 k hk
      refine ⟨by rw [F.a 112 k rfl]; exact g1, by rw [F.a 112 k rfl]; exact g2, by rw [F.a 113 k rfl]; exact g3, by rw [F.a 113 k rfl, F.a 112 k rfl]; exact g4, fun p h1 h2 => ?_⟩
      rw [F.a 112 k rfl] at h2 ⊢
      rw [F.a 110 _ rfl]
      exact g5 p h1 h2
    have bs : xBs s4 s1 u [] := ⟨sS, v95, Nat.zero_le _, trivial, io⟩
    have e82 : zv t 82 = x := by rw [f.v 82 rfl, hv 82 rfl]; exact x1
    have e29 : za t 29 x = r := by rw [f.a 29 x rfl, hr 29 rfl]; exact r1
    have e81 : zv t 81 = zv s1 81 := by rw [f.v 81 rfl, hv 81 rfl]
    rw [e82, Int.toNat_natCast, e29, e81]
    have en := sp_enter (m := (zv u 101).toNat * 100000000000000 + xW kids up sz []) p bs (L := []) ⟨trivial, v87⟩ (r := r) (w := 0) (many := 0) v91 (by decide) r2 (at0 := zv s1 81) (by omega) (by omega) (o := ⟨rfl, rfl⟩) (Nat.le_refl 0) (Nat.le_refl _)
    refine ffm_enter en (fun s36 _ post => ?_)
    obtain ⟨p1, p2, p3⟩ := post
    rcases p3 with p3 | ⟨L, v, F2, p3, -⟩
    · refine ⟨1, ?_⟩
      unfold wr_run_172
      unfold wr_run_172B
      exact ⟨fun _ => ⟨fun _ => Or.inl p2, fun e => absurd e p3⟩, fun e => absurd e p3⟩
    · exact ⟨_, sp_r172 p (fun _ s' _ io' => Or.inl io') (xMu kids up sz s36 L + 2) s36 L v F2 p3 (by omega)⟩
  have L49 : ∀ (m : Nat) (t : zS) (x : Int), zSm s t [98] [0] → 0 ≤ x → x ≤ zv s1 84 → zv s1 84 - x < m → wr_run_49 (fun _ s' => xIO s' ∨ zSm s s' [] [0]) m t a x := by
    intro m
    induction m with
    | zero => intro t y _ _ _ h; omega
    | succ m ih =>
      intro t y f h0 h1 h2
      have e84 : zv t 84 = zv s1 84 := by rw [f.v 84 rfl, hv 84 rfl]
      have e82 : zv t 82 = x := by rw [f.v 82 rfl, hv 82 rfl]; exact x1
      unfold wr_run_49
      unfold wr_run_49B
      rw [e84]
      refine ⟨fun _ => ⟨by omega, by omega, E t f⟩, fun c => ?_⟩
      have q := git.2.2 y.toNat (by omega)
      have e85 : za t 85 (Int.toNat y) = za s1 85 y.toNat := by rw [f.a 85 _ rfl, hr 85 rfl]
      rw [e85]
      exact ⟨by omega, by omega, by omega, by omega, by omega, by omega, ⟨by omega, by omega⟩, ih _ _ (f.pa rfl) (by omega) (by omega) (by omega)⟩
  have L27 : ∀ (m : Nat) (t : zS) (x : Int), zSm s t [98] [0] → 0 ≤ x → x ≤ 65536 → 65536 - x < m → wr_run_27 (fun _ s' => xIO s' ∨ zSm s s' [] [0]) m t a x := by
    intro m
    induction m with
    | zero => intro t y _ _ _ h; omega
    | succ m ih =>
      intro t y f h0 h1 h2
      unfold wr_run_27
      unfold wr_run_27B
      exact ⟨fun _ => ⟨(zv s1 84).toNat + 1, L49 _ t 0 f (by omega) git.1 (by omega)⟩, fun c => ⟨by omega, by omega, ⟨by omega, by omega⟩, ih _ _ (f.pa rfl) (by omega) (by omega) (by omega)⟩⟩
  exact ⟨65537, L27 _ _ 0 (zSm.rf.pv rfl) (by omega) (by omega) (by omega)⟩
theorem sp_run (s : zS) (a n : Int) (h : pJ s n) {Q : Int → zS → Prop} (hq : ∀ r s', pJ s' n → Q r s') : wr_run s a Q := by
  refine ffm_run (sp_run_io s a n h) ?_
  rintro r s' f q
  refine hq r s' ?_
  rcases q with io | f0
  · obtain ⟨⟨i0, i1, i2, i3, i4, i5⟩, h57, h76, hP⟩ := h
    refine ⟨⟨by rw [f.v 2 rfl]; exact i0, by rw [f.v 2 rfl]; exact i1, by rw [f.v 99 rfl]; exact i2, by rw [f.v 100 rfl]; exact i3, io.2.2.2.2.1, io.2.2.2.2.2.1⟩, fun e => by rw [f.a 57 e rfl]; exact h57 e, by rw [f.v 76 rfl]; exact h76, fun q => ?_⟩
    rw [f.v 105 rfl] at q
    exact (hP q).sm f rfl rfl
  · exact h.fr f0 rfl rfl
end RUN
