/-! COMPILE, INPUT -/
/-- what is compiled: the check's facts still stand -/
def PR (s : zS) : Prop := ∃ kids up sz root s4 s1, ckR kids up sz root s4 s1 ∧ zv s1 12 = 0 ∧ root + 1 ≤ 2700 ∧ (∀ j, ([25, 27, 28, 29, 30, 31, 32, 33, 70, 71, 72, 85, 86] : List Nat).contains j = true → ∀ i, za s j i = za s1 j i) ∧ ∀ k, ([69, 81, 82, 84] : List Nat).contains k = true → zv s k = zv s1 k
theorem PR.sm {s s' : zS} {js ks : List Nat} (h : PR s) (f : zSm s s' js ks) (hj : ([25, 27, 28, 29, 30, 31, 32, 33, 70, 71, 72, 85, 86].all fun j => !js.contains j) = true) (hk : ([69, 81, 82, 84].all fun k => !ks.contains k) = true) : PR s' := by
  obtain ⟨kids, up, sz, root, s4, s1, a, b, c, d, e⟩ := h
  refine ⟨kids, up, sz, root, s4, s1, a, b, c, fun j hj2 i => ?_, fun k hk2 => ?_⟩
  · rw [f.a j i (by
      have := List.all_eq_true.mp hj j (by simpa using hj2)
      simpa using this)]
    exact d j hj2 i
  · rw [f.v k (by
      have := List.all_eq_true.mp hk k (by simpa using hk2)
      simpa using this)]
    exact e k hk2
/-- the reference between calls: all that the next calls need -/
def pJ (s : zS) (N : Int) : Prop := pI s N ∧ (∀ e : Nat, 0 ≤ za s 57 e ∧ za s 57 e ≤ 12000) ∧ (zv s 76 = 0 ∨ zv s 76 = 1) ∧ (¬ zv s 105 = 0 → PR s)
theorem pJ.fr {s s' : zS} {N : Int} {js ks : List Nat} (h : pJ s N) (f : zSm s s' js ks) (hj : ([25, 27, 28, 29, 30, 31, 32, 33, 57, 70, 71, 72, 85, 86, 110, 112, 113, 116].all fun j => !js.contains j) = true) (hk : ([2, 69, 76, 81, 82, 84, 99, 100, 105].all fun k => !ks.contains k) = true) : pJ s' N := by
  have aj : ∀ l : List Nat, l.all (fun z => ([25, 27, 28, 29, 30, 31, 32, 33, 57, 70, 71, 72, 85, 86, 110, 112, 113, 116] : List Nat).contains z) = true → (l.all fun j => !js.contains j) = true := fun l hl => List.all_eq_true.mpr (fun j hj2 => List.all_eq_true.mp hj j (by simpa using List.all_eq_true.mp hl j hj2))
  have ak : ∀ l : List Nat, l.all (fun z => ([2, 69, 76, 81, 82, 84, 99, 100, 105] : List Nat).contains z) = true → (l.all fun k => !ks.contains k) = true := fun l hl => List.all_eq_true.mpr (fun j hj2 => List.all_eq_true.mp hk j (by simpa using List.all_eq_true.mp hl j hj2))
  obtain ⟨a, b, c, d⟩ := h
  have n57 : js.contains 57 = false := by simpa using List.all_eq_true.mp hj 57 (by decide)
  have n76 : ks.contains 76 = false := by simpa using List.all_eq_true.mp hk 76 (by decide)
  have n105 : ks.contains 105 = false := by simpa using List.all_eq_true.mp hk 105 (by decide)
  refine ⟨a.fr f (aj _ rfl) (ak _ rfl), fun e => by rw [f.a 57 e n57]; exact b e, by rw [f.v 76 n76]; exact c, fun q => ?_⟩
  rw [f.v 105 n105] at q
  exact (d q).sm f (aj _ rfl) (ak _ rfl)
theorem sp_compile (s : zS) (N : Int) (h : pJ s N) (hN : N ≤ 1280) {Q : Int → zS → Prop} (hq : ∀ r s', pJ s' 0 → Q r s') : wr_compile s Q := by
  obtain ⟨hI, h57, h76, -⟩ := id h
  obtain ⟨i0, i1, i2, i3, i4⟩ := id hI
  have L : wr_compile s (fun _ s' => pI s' 0 ∧ (∀ e : Nat, 0 ≤ za s' 57 e ∧ za s' 57 e ≤ 12000) ∧ (zv s' 76 = 0 ∨ zv s' 76 = 1) ∧ (¬ zv s' 105 = 0 → PR s')) := by
    -- the fields of calls around
    have I : ∀ s', zSm s s' [3, 6, 7, 9, 10, 11, 14, 16, 17, 25, 26, 27, 28, 29, 30, 31, 32, 33, 34, 35, 36, 39, 40, 41, 42, 46, 47, 50, 51, 52, 53, 54, 57, 60, 61, 62, 64, 65, 66, 68, 70, 71, 72, 85, 86] [0, 2, 4, 5, 8, 12, 13, 15, 18, 19, 20, 21, 22, 23, 24, 37, 38, 43, 44, 45, 48, 49, 55, 58, 59, 63, 67, 69, 73, 74, 75, 76, 77, 78, 79, 80, 81, 82, 83, 84, 99, 105] → zv s' 2 = 0 → pFive (zv s' 99) → pI s' 0 := fun s' f e2 e99 => by
      obtain ⟨a, b, c, d, e, g⟩ := hI
      refine ⟨by omega, by omega, e99, by rw [f.v 100 rfl]; exact d, fun k hk => by rw [f.a 116 k rfl]; exact e k hk, fun k hk => ?_⟩
      obtain ⟨g1, g2, g3, g4, g5⟩ := g k hk
      refine ⟨by rw [f.a 112 k rfl]; exact g1, by rw [f.a 112 k rfl]; exact g2, by rw [f.a 113 k rfl]; exact g3, by rw [f.a 113 k rfl, f.a 112 k rfl]; exact g4, fun p h1 h2 => ?_⟩
      rw [f.a 112 k rfl] at h2 ⊢
      rw [f.a 110 _ rfl]
      exact g5 p h1 h2
    have L20 : ∀ (m : Nat) (x : Int) (s1 : zS), 0 ≤ x → x ≤ zv s 2 → zv s 2 - x < m → zSm s s1 [3] [0, 2, 4] → zv s1 4 = zv s 2 → zv s1 2 = 0 → wr_compile_20 (fun _ s' => pI s' 0 ∧ (∀ e : Nat, 0 ≤ za s' 57 e ∧ za s' 57 e ≤ 12000) ∧ (zv s' 76 = 0 ∨ zv s' 76 = 1) ∧ (¬ zv s' 105 = 0 → PR s')) m s1 x := by
      intro m
      induction m with
      | zero => intro x s1 h1 h2 h3; omega
      | succ m ih =>
        intro x s1 h1 h2 h3 f1 e4 e2
        unfold wr_compile_20
        unfold wr_compile_20B
        rw [e4]
        refine ⟨fun _ => ?_, fun c => ⟨by omega, by omega, by omega, by omega, ⟨by omega, by omega⟩, ih _ _ (by omega) (by omega) (by omega) (f1.pa rfl) e4 e2⟩⟩
        have f2 : zSm s1 (zpv (zpv (zpv s1 105 0) 12 0) 13 0) [] [12, 13, 105] := ((zSm.rf.pv rfl).pv rfl).pv rfl
        have z12 : zv (zpv (zpv (zpv s1 105 0) 12 0) 13 0) 12 = 0 := rfl
        have z105 : zv (zpv (zpv (zpv s1 105 0) 12 0) 13 0) 105 = 0 := rfl
        generalize zpv (zpv (zpv s1 105 0) 12 0) 13 0 = s2 at f2 z12 z105
        have u4 : zv s2 4 = zv s 2 := by rw [f2.v 4 rfl]; exact e4
        refine ffm_scan (sp_scan s2 (by omega) (by omega)) ?_
        rintro r s3 f3 ⟨p4, -, p, q, pl⟩
        obtain ⟨pn, ps, pk, p0, pq, q13, -, -, t0, ⟨t1, -⟩, n5, c0, c1, st0, st1, -, -⟩ := pl
        have f4 : zSm s3 (zpv s3 48 r) [] [48] := zSm.rf.pv rfl
        have F03 : zSm s (zpv s3 48 r) [3, 6, 7, 9, 10, 11, 14, 16, 17] [0, 2, 4, 5, 8, 12, 13, 15, 18, 19, 20, 21, 22, 23, 48, 105] := (((zSm.rf.tr f1 rfl rfl : zSm s s1 [3, 6, 7, 9, 10, 11, 14, 16, 17] [0, 2, 4, 5, 8, 12, 13, 15, 18, 19, 20, 21, 22, 23, 48, 105]).tr f2 rfl rfl).tr f3 rfl rfl).tr f4 rfl rfl
        have pk4 : pK (zpv s3 48 r) := pk
        have pn4 : pN (zpv s3 48 r) := pn
        have ps4 : pS (zpv s3 48 r) := ps
        have a8 : zv (zpv s3 48 r) 8 = zv s3 8 := rfl
        have a18 : zv (zpv s3 48 r) 18 = zv s3 18 := rfl
        have a15 : zv (zpv s3 48 r) 15 = zv s3 15 := rfl
        have a12 : zv (zpv s3 48 r) 12 = 0 := by rw [f4.v 12 rfl, f3.v 12 rfl]; exact z12
        have a105 : zv (zpv s3 48 r) 105 = 0 := by rw [f4.v 105 rfl, f3.v 105 rfl]; exact z105
        have a2 : zv (zpv s3 48 r) 2 = 0 := by rw [f4.v 2 rfl, f3.v 2 rfl, f2.v 2 rfl]; exact e2
        generalize zpv s3 48 r = s4 at f4 F03 pk4 pn4 ps4 a8 a18 a15 a12 a105 a2
        -- faults ahead of the check
        have FA : ∀ (s5 : zS) (x1 y0 : Int), zSm s4 s5 [25, 26, 27, 28, 29, 30, 31, 32, 33, 34, 35, 36, 39, 40, 41, 42, 46, 47] [24, 37, 38, 43, 44, 45] → 0 ≤ zv s5 43 → zv s5 43 ≤ zv s4 8 → wr_compile_110 (fun _ s' => pI s' 0 ∧ (∀ e : Nat, 0 ≤ za s' 57 e ∧ za s' 57 e ≤ 12000) ∧ (zv s' 76 = 0 ∨ zv s' 76 = 1) ∧ (¬ zv s' 105 = 0 → PR s')) s5 x1 y0 := fun s5 x1 y0 f5 b0 b1 => by
          have e8 : zv s5 8 = zv s4 8 := f5.v 8 rfl
          have fin : ∀ s6, zSm s5 s6 [] [12, 13] → pI s6 0 ∧ (∀ e : Nat, 0 ≤ za s6 57 e ∧ za s6 57 e ≤ 12000) ∧ (zv s6 76 = 0 ∨ zv s6 76 = 1) ∧ (¬ zv s6 105 = 0 → PR s6) := fun s6 f6 => by
            have f06 : zSm s s6 [3, 6, 7, 9, 10, 11, 14, 16, 17, 25, 26, 27, 28, 29, 30, 31, 32, 33, 34, 35, 36, 39, 40, 41, 42, 46, 47] [0, 2, 4, 5, 8, 12, 13, 15, 18, 19, 20, 21, 22, 23, 24, 37, 38, 43, 44, 45, 48, 105] := ((zSm.rf.tr F03 rfl rfl : zSm s s4 [3, 6, 7, 9, 10, 11, 14, 16, 17, 25, 26, 27, 28, 29, 30, 31, 32, 33, 34, 35, 36, 39, 40, 41, 42, 46, 47] [0, 2, 4, 5, 8, 12, 13, 15, 18, 19, 20, 21, 22, 23, 24, 37, 38, 43, 44, 45, 48, 105]).tr f5 rfl rfl).tr f6 rfl rfl
            refine ⟨I s6 (zSm.rf.tr f06 rfl rfl) (by rw [f6.v 2 rfl, f5.v 2 rfl]; exact a2) (by rw [f06.v 99 rfl]; exact i2), fun e => by rw [f06.a 57 e rfl]; exact h57 e, by rw [f06.v 76 rfl]; exact h76, fun q => absurd ?_ q⟩
            rw [f6.v 105 rfl, f5.v 105 rfl]
            exact a105
          have G : ∀ k pl, wr_fault s5 k pl (fun s6 => ∀ z : Int, z = zw ((-1) - (zv s6 13)) → zR z → (fun _ s' => pI s' 0 ∧ (∀ e : Nat, 0 ≤ za s' 57 e ∧ za s' 57 e ≤ 12000) ∧ (zv s' 76 = 0 ∨ zv s' 76 = 1) ∧ (¬ zv s' 105 = 0 → PR s') : Int → zS → Prop) z s6) := fun k pl => by
            refine ffm_fault (sp_fault s5 k pl) ?_
            rintro s6 - f6 z - -
            exact fin s6 f6
          unfold wr_compile_110
          exact ⟨fun _ => ⟨fun _ => ⟨by omega, by omega, G _ _⟩, fun _ => G _ _⟩, fun _ => G _ _⟩
        refine ffm_parse (sp_parse s4 (by omega) (by omega) pk4 (Q := fun e s5 => (e = 0 ∨ ∃ kids up sz root, fF s5 kids up sz [root] (root + 1) ∧ fA s5 kids (root + 1) ∧ za s5 25 root = 60 ∧ root + 1 ≤ 2700) ∧ zSm s4 s5 [25, 26, 27, 28, 29, 30, 31, 32, 33, 34, 35, 36, 39, 40, 41, 42, 46, 47] [24, 37, 38, 43, 44, 45] ∧ 0 ≤ zv s5 43 ∧ zv s5 43 ≤ zv s4 8) (fun s' gl S K N2 pm b0 b1 => ?_) (fun s' kids up sz N2 b2 b3 b4 f5 b0 b1 b5 => ⟨Or.inr ⟨kids, up, sz, N2, b2, b3, b4, by omega⟩, f5, b0, b1⟩)) ?_
        · obtain ⟨kids, up, sz, W, q1, q2, q3, q4, q5, q6, q7, q8⟩ := pm
          exact ⟨Or.inl rfl, q8, b0, b1⟩
        rintro e s5 - ⟨hyn, f5, b0, b1⟩
        refine ⟨fun ne => ?_, fun _ => ⟨fun _ => FA s5 0 2 f5 b0 b1, fun _ => ⟨fun _ => FA s5 0 2 f5 b0 b1, fun _ => FA s5 1 1 f5 b0 b1⟩⟩⟩
        rcases hyn with q | ⟨kids, up, sz, root, c1', c2, c3, c4⟩
        · exact absurd q ne
        have F05 : zSm s s5 [3, 6, 7, 9, 10, 11, 14, 16, 17, 25, 26, 27, 28, 29, 30, 31, 32, 33, 34, 35, 36, 39, 40, 41, 42, 46, 47] [0, 2, 4, 5, 8, 12, 13, 15, 18, 19, 20, 21, 22, 23, 24, 37, 38, 43, 44, 45, 48, 105] := (zSm.rf.tr F03 rfl rfl : zSm s s4 [3, 6, 7, 9, 10, 11, 14, 16, 17, 25, 26, 27, 28, 29, 30, 31, 32, 33, 34, 35, 36, 39, 40, 41, 42, 46, 47] [0, 2, 4, 5, 8, 12, 13, 15, 18, 19, 20, 21, 22, 23, 24, 37, 38, 43, 44, 45, 48, 105]).tr f5 rfl rfl
        obtain ⟨m0, m1, m2⟩ := pn4
        refine ffm_check (sp_check c1' c2 c3 c4 (fun k hk => ?_) (by rw [f5.v 18 rfl]; omega) ⟨by rw [f5.v 5 rfl]; exact m0, by rw [f5.v 5 rfl]; exact m1, fun j hj => by rw [f5.v 5 rfl] at hj; rw [f5.a 6 j rfl, f5.a 7 j rfl]; exact m2 j hj⟩ (fun e => by rw [F05.a 57 e rfl]; exact h57 e) (by rw [F05.v 76 rfl]; exact h76) (by rw [f5.v 12 rfl]; exact a12) (Q := fun s6 => ∃ t4, zv t4 76 = zv s5 76 ∧ ckR kids up sz root t4 s6) (fun t4 s6 _ e76 ck => ⟨t4, e76, ck⟩)) ?_
        · rw [f5.v 18 rfl] at hk
          rw [f5.a 16 k rfl, f5.a 17 k rfl]
          obtain ⟨d1, d2, d3, d4⟩ := ps4 k hk
          exact ⟨d1, d2, d3, by omega⟩
        · rintro s6 f6 ⟨t4, e76, ck⟩
          have F06 : zSm s s6 [3, 6, 7, 9, 10, 11, 14, 16, 17, 25, 26, 27, 28, 29, 30, 31, 32, 33, 34, 35, 36, 39, 40, 41, 42, 46, 47, 50, 51, 52, 53, 54, 57, 60, 61, 62, 64, 65, 66, 68, 70, 71, 72, 85, 86] [0, 2, 4, 5, 8, 12, 13, 15, 18, 19, 20, 21, 22, 23, 24, 37, 38, 43, 44, 45, 48, 49, 55, 58, 59, 63, 67, 69, 73, 74, 75, 76, 77, 78, 79, 80, 81, 82, 83, 84, 99, 105] := (zSm.rf.tr F05 rfl rfl : zSm s s5 [3, 6, 7, 9, 10, 11, 14, 16, 17, 25, 26, 27, 28, 29, 30, 31, 32, 33, 34, 35, 36, 39, 40, 41, 42, 46, 47, 50, 51, 52, 53, 54, 57, 60, 61, 62, 64, 65, 66, 68, 70, 71, 72, 85, 86] [0, 2, 4, 5, 8, 12, 13, 15, 18, 19, 20, 21, 22, 23, 24, 37, 38, 43, 44, 45, 48, 49, 55, 58, 59, 63, 67, 69, 73, 74, 75, 76, 77, 78, 79, 80, 81, 82, 83, 84, 99, 105]).tr f6 rfl rfl
          have g57 := ck.2.2.2.1.tk
          have g76 : zv s6 76 = 0 ∨ zv s6 76 = 1 := ck.2.2.2.1.gv
          have b2 : zv s6 2 = 0 := by rw [f6.v 2 rfl, f5.v 2 rfl]; exact a2
          refine ⟨fun z => ?_, fun _ z _ _ => ⟨I s6 F06 b2 (by rw [f6.v 99 rfl, F05.v 99 rfl]; exact i2), g57, g76, fun q => absurd ?_ q⟩⟩
          · have f7 : zSm s6 (zpv (zpv s6 105 1) 99 (zv s6 100)) [] [99, 105] := (zSm.rf.pv rfl).pv rfl
            refine ⟨I _ (F06.tr f7 rfl rfl) (by rw [f7.v 2 rfl]; exact b2) ?_, fun e => g57 e, g76, fun _ => ⟨kids, up, sz, root, t4, s6, ck, z, c4, fun j _ i => rfl, fun k hk => f7.v k ?_⟩⟩
            · show pFive (zv s6 100)
              rw [F06.v 100 rfl]
              exact i3
            · have h4 : k = 69 ∨ k = 81 ∨ k = 82 ∨ k = 84 := by simpa using hk
              rcases h4 with rfl | rfl | rfl | rfl <;> rfl
          · rw [f6.v 105 rfl, f5.v 105 rfl]
            exact a105
    unfold wr_compile
    exact ⟨(zv s 2).toNat + 1, L20 _ 0 _ (by omega) i0 (by omega) (((zSm.rf.pv rfl).pv rfl).pv rfl) rfl rfl⟩
  refine ffm_compile L ?_
  rintro r s' - q
  exact hq r s' q

