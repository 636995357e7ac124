theorem sp_stringAt_L (s0 : zS) (p0 : Int) (h0 : 0 ≤ p0) (h4 : 0 ≤ zv s0 4) (hs : zv s0 4 ≤ 1280) (h15 : 0 ≤ zv s0 15) (h15b : zv s0 15 ≤ 1300) (h18 : 0 ≤ zv s0 18) (h18b : zv s0 18 ≤ 3000) : ∀ (m : Nat) (s1 : zS) (p n : Int), zSm s0 s1 [14] [21] → 0 ≤ n → n ≤ 200 → p0 + 1 + n ≤ p → p ≤ 1300 → 1310 - p < (m : Int) → wr_stringAt_12 (fun r s' => r = -1 ∧ zSm s0 s' [14] [21] ∨ ∃ n : Int, 0 ≤ n ∧ n ≤ 200 ∧ p0 + n + 2 ≤ r ∧ r ≤ 1281 ∧ zv s' 18 = zv s0 18 + 1 ∧ zv s' 15 = zv s0 15 + n ∧ (∀ k, za s' 16 k = if k = (zv s0 18).toNat then zv s0 15 else za s0 16 k) ∧ (∀ k, za s' 17 k = if k = (zv s0 18).toNat then n else za s0 17 k)) m s1 p (zv s0 15) n := by
  intro m
  induction m with
  | zero => intro s1 p n f h1 h2 h3 h5 h6; omega
  | succ m ih =>
    intro s1 p n f h1 h2 h3 h5 h6
    unfold wr_stringAt_12
    have e4 := f.v 4 rfl
    have e15 := f.v 15 rfl
    have e18 := f.v 18 rfl
    unfold wr_stringAt_12B
    refine ffm_look (sp_look s1 p (by omega) (by omega)) ?_
    rintro r s2 - ⟨rfl, g1, g2, g3, -⟩
    refine ⟨fun c => ?_, fun c => ?_⟩
    · have hp : p < zv s2 4 := by
        by_cases q : zv s2 4 ≤ p
        · have := g3 q
          omega
        · omega
      refine ⟨by omega, by omega, by omega, by omega, ⟨by omega, by omega⟩, ⟨by omega, by omega⟩, ⟨by omega, by omega⟩, Or.inr ⟨n, h1, h2, by omega, by omega, ?_, ?_, fun k => ?_, fun k => ?_⟩⟩
      · show zv s2 18 + 1 = _
        omega
      · show zv s2 15 + n = _
        omega
      · show (if k = (zv s2 18).toNat then zv s0 15 else za s2 16 k) = _
        rw [e18, f.a 16 k rfl]
      · show (if k = (zv s2 18).toNat then n else za s2 17 k) = _
        rw [e18, f.a 17 k rfl]
    · refine ffm_oneC (sp_oneC s2 p 34 (by omega) h5 (by omega)) ?_
      rintro r2 s3 f3 ⟨g4, g5⟩
      have f4 : zSm s0 s3 [14] [21] := f.tr f3 rfl rfl
      refine ⟨fun c2 => Or.inl ⟨rfl, f4⟩, fun c2 => ⟨fun c3 => ⟨by omega, by omega, ⟨by omega, by omega⟩, ?_⟩, fun _ => Or.inl ⟨rfl, f4⟩⟩⟩
      have g6 := g5 (by omega)
      exact ih _ r2 (n + 1) (f4.pa rfl) (by omega) (by omega) (by omega) (by omega) (by omega)
theorem sp_stringAt (s0 : zS) (p0 : Int) (h0 : 0 ≤ p0) (hp : p0 ≤ 1280) (h4 : 0 ≤ zv s0 4) (hs : zv s0 4 ≤ 1280) (h15 : 0 ≤ zv s0 15) (h15b : zv s0 15 ≤ 1300) (h18 : 0 ≤ zv s0 18) (h18b : zv s0 18 ≤ 3000) : wr_stringAt s0 p0 (fun r s' => r = -1 ∧ zSm s0 s' [14] [21] ∨ ∃ n : Int, 0 ≤ n ∧ n ≤ 200 ∧ p0 + n + 2 ≤ r ∧ r ≤ 1281 ∧ zv s' 18 = zv s0 18 + 1 ∧ zv s' 15 = zv s0 15 + n ∧ (∀ k, za s' 16 k = if k = (zv s0 18).toNat then zv s0 15 else za s0 16 k) ∧ (∀ k, za s' 17 k = if k = (zv s0 18).toNat then n else za s0 17 k)) := ⟨⟨by omega, by omega⟩, 1320, sp_stringAt_L s0 p0 h0 h4 hs h15 h15b h18 h18b 1320 s0 (p0 + 1) 0 zSm.rf (by decide) (by decide) (by omega) (by omega) (by omega)⟩
/-- the strings' table; the tokens' -/
def pS (s : zS) : Prop := ∀ k : Nat, (k : Int) < zv s 18 → 0 ≤ za s 16 k ∧ 0 ≤ za s 17 k ∧ za s 17 k ≤ 200 ∧ za s 16 k + za s 17 k ≤ zv s 15
def pK (s : zS) : Prop := ∀ t : Nat, (t : Int) < zv s 8 → za s 9 t = 4 → 0 ≤ za s 11 t ∧ za s 11 t < zv s 18
/-- up to p, q: the tokens by p, the tables by q -/
def pL (s : zS) (p q : Int) : Prop := pN s ∧ pS s ∧ pK s ∧ 0 ≤ p ∧ p ≤ q ∧ q ≤ 1300 ∧ 0 ≤ zv s 4 ∧ zv s 4 ≤ 1280 ∧ 0 ≤ zv s 8 ∧ (zv s 8 ≤ p ∧ (zv s 20 < zv s 19 → zv s 8 + 1 ≤ p)) ∧ zv s 5 ≤ q ∧ 0 ≤ zv s 18 ∧ zv s 18 ≤ q ∧ 0 ≤ zv s 15 ∧ zv s 15 ≤ q ∧ 0 ≤ zv s 19 ∧ zv s 19 ≤ q
theorem pL.wk {s : zS} {p q q' : Int} (h : pL s p q) (h1 : q ≤ q') (h2 : q' ≤ 1300) : pL s p q' := by
  obtain ⟨a, b, c, d⟩ := h
  exact ⟨a, b, c, by omega, by omega, by omega, by omega, by omega, by omega, by omega, by omega, by omega, by omega, by omega, by omega, by omega, by omega⟩
/-- a change of other fields -/
theorem pL.fr {s s' : zS} {p q : Int} {js ks : List Nat} (h : pL s p q) (f : zSm s s' js ks) (hj : ([6, 7, 9, 11, 16, 17].all fun j => !js.contains j) = true) (hk : ([4, 5, 8, 15, 18, 19, 20].all fun k => !ks.contains k) = true) : pL s' p q := by
  have J : ∀ j, [6, 7, 9, 11, 16, 17].contains j = true → ∀ i, za s' j i = za s j i := fun j h1 i => f.a j i (by
    have := List.all_eq_true.mp hj j (by simpa using h1)
    simpa using this)
  have K : ∀ k, [4, 5, 8, 15, 18, 19, 20].contains k = true → zv s' k = zv s k := fun k h1 => f.v k (by
    have := List.all_eq_true.mp hk k (by simpa using h1)
    simpa using this)
  obtain ⟨⟨a1, a2, a3⟩, b, c, d⟩ := h
  have k4 := K 4 rfl
  have k5 := K 5 rfl
  have k8 := K 8 rfl
  have k15 := K 15 rfl
  have k18 := K 18 rfl
  have k19 := K 19 rfl
  have k20 := K 20 rfl
  refine ⟨⟨by omega, by omega, fun k hk => ?_⟩, fun k hk => ?_, fun t ht => ?_, by omega, by omega, by omega, by omega, by omega, by omega, by omega, by omega, by omega, by omega, by omega, by omega, by omega, by omega⟩
  · rw [J 6 rfl, J 7 rfl]
    exact a3 k (by omega)
  · rw [J 16 rfl, J 17 rfl, k15]
    exact b k (by omega)
  · rw [J 9 rfl, J 11 rfl, k18]
    exact c t (by omega)
theorem sp_tok (s : zS) (p q a0 a1 a2 : Int) (h : pL s p q) (hp : p + 1 ≤ q) (ha : a0 = 4 → 0 ≤ a2 ∧ a2 < zv s 18) : wr_token s a0 a1 a2 (fun s' => pL s' q q ∧ zv s' 4 = zv s 4) := by
  obtain ⟨⟨a1', a2', a3⟩, b, c, d⟩ := h
  refine ffm_token (sp_token s a0 a1 a2 (by omega) (by omega)) ?_
  rintro s' f ⟨g1, g2, g3, g3b, g4⟩
  have k4 := f.v 4 rfl
  have k5 := f.v 5 rfl
  have k15 := f.v 15 rfl
  have k18 := f.v 18 rfl
  have k19 := f.v 19 rfl
  refine ⟨⟨⟨by omega, by omega, fun k hk => ?_⟩, fun k hk => ?_, fun t ht hk => ?_, by omega, by omega, by omega, by omega, by omega, by omega, by omega, by omega, by omega, by omega, by omega, by omega, by omega, by omega⟩, k4⟩
  · rw [f.a 6 k rfl, f.a 7 k rfl]
    exact a3 k (by omega)
  · rw [f.a 16 k rfl, f.a 17 k rfl, k15]
    exact b k (by omega)
  · obtain ⟨g5, g6⟩ := g4 t ht
    rw [k18]
    by_cases e : (t : Int) < zv s 8
    · obtain ⟨e1, e2⟩ := g5 e
      rw [e1] at hk
      rw [e2]
      exact c t e hk
    · rcases g6 (by omega) with e1 | ⟨e1, e2⟩
      · rw [e1] at hk
        exact absurd hk (by decide)
      · rw [e2]
        exact ha (by rw [← e1, hk])
theorem sp_nm (s : zS) (p q t n : Int) (h : pL s p q) (hq : zv s 5 + 1 ≤ q) (h0 : 0 ≤ t) (h1 : t + n ≤ 1280) (hn : 0 ≤ n) : wr_nameOf s t n (fun _ s' => pL s' p q ∧ zv s' 4 = zv s 4) := by
  refine ffm_nameOf (sp_nameOf s t n h0 h1 hn h.1) ?_
  rintro r s' - ⟨-, ⟨rfl, -⟩ | ⟨-, rfl⟩⟩
  · exact ⟨h, rfl⟩
  · obtain ⟨⟨a1, a2, a3⟩, b, c, d⟩ := h
    refine ⟨⟨⟨by show 0 ≤ zv s 5 + 1; omega, by show zv s 5 + 1 ≤ 3000; omega, fun k hk => ?_⟩, b, c, by omega, by omega, by omega, d.2.2.2.1, d.2.2.2.2.1, d.2.2.2.2.2.1, d.2.2.2.2.2.2.1, hq, d.2.2.2.2.2.2.2.2⟩, rfl⟩
    have hk' : (k : Int) < zv s 5 + 1 := hk
    simp only [za_pv, za_pa, reduceIte, Nat.reduceEqDiff]
    by_cases e : k = (zv s 5).toNat
    · rw [if_pos e, if_pos e]
      exact ⟨h0, hn, h1⟩
    · rw [if_neg e, if_neg e]
      exact a3 k (by omega)
def pO (s : zS) (p : Int) (r : Int) (s' : zS) : Prop := zv s' 4 = zv s 4 ∧ (r = -1 - p ∧ (∃ q, pL s' p q) ∨ p + 1 ≤ r ∧ r ≤ 1290 ∧ pL s' r r)
theorem sp_one (s : zS) (p b : Int) (h : pL s p p) (hp : p < zv s 4) (hb : b = if zv s 4 ≤ p then 0 else zan (za s 3 p.toNat) 255) : wr_one s p b (pO s p) := by
  have hs := h.2.2.2.2.2.2.2.1
  have h0 := h.2.2.2.1
  have fail : ∀ (s1 : zS) (q : Int), zv s1 4 = zv s 4 → pL s1 p q → zR ((-1) - p) ∧ pO s p ((-1) - p) s1 := fun s1 q e g => ⟨⟨by omega, by omega⟩, e, Or.inl ⟨rfl, q, g⟩⟩
  have tok : ∀ (s1 : zS) (q k v : Int), zv s1 4 = zv s 4 → pL s1 p q → p + 1 ≤ q → q ≤ 1290 → (k = 4 → 0 ≤ v ∧ v < zv s1 18) → wr_token s1 k p v (fun s2 => pO s p q s2) := fun s1 q k v e g g1 g2 g3 => by
    refine ffm_token (sp_tok s1 p q k p v g g1 g3) ?_
    rintro s2 - ⟨g4, g5⟩
    exact ⟨by omega, Or.inr ⟨g1, g2, g4⟩⟩
  have h146 : ∀ (s1 : zS) (r : Int), zv s1 4 = zv s 4 → pL s1 p p → (r = -1 ∨ p + 1 ≤ r ∧ r ≤ zv s 4) → wr_one_146 (pO s p) s1 p r := fun s1 r e g g1 => by
    unfold wr_one_146
    refine ⟨fun c => tok s1 r 2 _ e (g.wk (by omega) (by omega)) (by omega) (by omega) (fun q => absurd q (by decide)), fun c => fail s1 p e g⟩
  have h96 : ∀ s1 : zS, s1 = s → wr_one_96 (pO s p) s1 p b := by
    rintro s1 rfl
    unfold wr_one_96
    refine ffm_isDigit (sp_isDigit _ b) ?_
    rintro r s2 - ⟨rfl, -⟩
    refine ⟨fun _ => ⟨⟨by omega, by omega⟩, ?_⟩, fun _ => ?_⟩
    · refine ffm_look (sp_look _ (p + 1) (by omega) hs) ?_
      rintro r2 s3 - ⟨rfl, -⟩
      refine ⟨fun _ => ?_, fun _ => ⟨⟨by omega, by omega⟩, ?_⟩⟩
      · refine ffm_digits (sp_digits _ (p + 1) 8 (by omega) (by omega) (Or.inl rfl) hs) ?_
        rintro r3 s4 - ⟨g1, x, rfl⟩
        exact h146 _ r3 rfl (h.fr (zSm.rf.pv (js := []) (ks := [22]) rfl) rfl rfl) (by omega)
      · refine ffm_digits (sp_digits _ (p + 2) 16 (by omega) (by omega) (Or.inr (Or.inr rfl)) hs) ?_
        rintro r3 s4 - ⟨g1, x, rfl⟩
        exact h146 _ r3 rfl (h.fr (zSm.rf.pv (js := []) (ks := [22]) rfl) rfl rfl) (by omega)
    · refine ffm_digits (sp_digits _ p 10 (by omega) (by omega) (Or.inr (Or.inl rfl)) hs) ?_
      rintro r3 s4 - ⟨g1, x, rfl⟩
      exact h146 _ r3 rfl (h.fr (zSm.rf.pv (js := []) (ks := [22]) rfl) rfl rfl) (by omega)
  have h34 : ∀ q : Int, p ≤ q → q ≤ zv s 4 → (¬ p = q) → wr_one_34 (pO s p) s p q := fun q g1 g2 g3 => by
    unfold wr_one_34
    refine ⟨⟨by omega, by omega⟩, fun c => ?_, fun c => fail s p rfl h⟩
    refine ffm_keyword (sp_keyword s p (q - p) h0 (by omega)) ?_
    rintro r s1 - ⟨rfl, g4, g5⟩
    have hw := h.wk (q' := q) g1 (by omega)
    refine ⟨fun c2 => tok s1 q r 0 rfl hw (by omega) (by omega) (fun e => ?_), fun c2 => ?_⟩
    · omega
    · refine ffm_nameOf (sp_nm s1 p q p (q - p) hw ?_ h0 (by omega) (by omega)) ?_
      · have := h.2.2.2.2.2.2.2.2.2.2.1
        omega
      · rintro r2 s2 - ⟨g6, g7⟩
        exact tok s2 q r r2 g7 g6 (by omega) (by omega) (fun e => by omega)
  have h314 : ∀ (s1 : zS) (q k v : Int), zv s1 4 = zv s 4 → pL s1 p p → p + 2 ≤ q → q ≤ zv s 4 → (k = 10 ∨ k = 11) → wr_one_314 (pO s p) s1 p q k v := fun s1 q k v e g g1 g2 g3 => by
    unfold wr_one_314
    have hw := g.wk (q' := q) (by omega) (by omega)
    refine ⟨⟨by omega, by omega⟩, fun c => ⟨⟨by omega, by omega⟩, fun c2 => tok s1 q k v e hw (by omega) (by omega) (fun e => by omega), fun c2 => ?_⟩, fun c => fail s1 p e g⟩
    refine ffm_nameOf (sp_nm s1 p q (p + 2) ((q - p) - 2) hw ?_ (by omega) (by omega) (by omega)) ?_
    · have := g.2.2.2.2.2.2.2.2.2.2.1
      omega
    · rintro r2 s2 - ⟨g6, g7⟩
      exact tok s2 q k r2 (by omega) g6 (by omega) (by omega) (fun e => by omega)
  have h289 : ∀ (s1 : zS) (k v : Int), zv s1 4 = zv s 4 → pL s1 p p → (k = 10 ∨ k = 11) → ∀ (m : Nat) (q : Int), p + 2 ≤ q → q ≤ zv s 4 → 1290 - q < (m : Int) → wr_one_289 (pO s p) m s1 p q k v := fun s1 k v e g g3 => by
    intro m
    induction m with
    | zero => intro q g1 g2 g4; omega
    | succ m ih =>
      intro q g1 g2 g4
      unfold wr_one_289
      unfold wr_one_289B
      refine ffm_look (sp_look s1 q (by omega) (by omega)) ?_
      rintro r s2 - ⟨e1, -⟩
      subst e1
      refine ffm_isRest (sp_isRest _ r) ?_
      rintro r2 s3 - ⟨e1, -⟩
      subst e1
      exact ⟨fun _ => h314 _ q k v e g g1 g2 g3, fun _ => ⟨fun _ => h314 _ q k v e g g1 g2 g3, fun c => ⟨⟨by omega, by omega⟩, ih (q + 1) (by omega) (by omega) (by omega)⟩⟩⟩
  have h9 : ∀ (m : Nat) (q : Int), p + 1 ≤ q → q ≤ zv s 4 → 1290 - q < (m : Int) → wr_one_9 (pO s p) m s p q := by
    intro m
    induction m with
    | zero => intro q g1 g2 g4; omega
    | succ m ih =>
      intro q g1 g2 g4
      unfold wr_one_9
      unfold wr_one_9B
      refine ffm_look (sp_look s q (by omega) hs) ?_
      rintro r s2 - ⟨e1, -⟩
      rw [e1]
      refine ffm_isRest (sp_isRest _ r) ?_
      rintro r2 s3 - ⟨e2, -⟩
      rw [e2]
      exact ⟨fun _ => h34 q (by omega) g2 (by omega), fun _ => ⟨fun _ => h34 q (by omega) g2 (by omega), fun c => ⟨⟨by omega, by omega⟩, ih (q + 1) (by omega) (by omega) (by omega)⟩⟩⟩
  unfold wr_one
  refine ffm_isLetter (sp_isLetter s b) ?_
  rintro r1 s1 - ⟨e1, g1, g2, g3⟩
  rw [e1]
  refine ⟨fun c => ?_, fun c => ⟨1301, ?_⟩⟩
  · refine ffm_isDigit (sp_isDigit s b) ?_
    rintro r2 s2 - ⟨e2, -⟩
    rw [e2]
    refine ⟨fun _ => h96 s rfl, fun _ => ⟨fun _ => ⟨fun _ => ⟨fun _ => ?_, fun _ => ?_⟩, fun _ => ⟨⟨by omega, by omega⟩, ?_⟩⟩, fun _ => h96 s rfl⟩⟩
    · refine ffm_signAt (sp_signAt s p h0 (by omega) hs) ?_
      rintro r3 s3 f ⟨k1, k2⟩
      have e4 := f.v 4 rfl
      have hL := h.fr f rfl rfl
      have hz : zv s3 23 = 1 ∨ zv s3 23 = 2 ∧ p + 2 ≤ zv s 4 := by omega
      refine ⟨fun c3 => ⟨fun c10 => ⟨⟨by omega, by omega⟩, 1300, h289 s3 r3 (-1) e4 hL (Or.inl c10) 1300 _ (by omega) (by omega) (by omega)⟩, fun c10 => ⟨fun c11 => ffm_token (tok s3 (p + zv s3 23) r3 (-1) e4 (hL.wk (by omega) (by omega)) (by omega) (by omega) (fun e => by omega)) (fun s4 _ g => ⟨⟨by omega, by omega⟩, g⟩), fun c11 => ⟨⟨by omega, by omega⟩, 1300, h289 s3 r3 (-1) e4 hL (Or.inr c11) 1300 _ (by omega) (by omega) (by omega)⟩⟩⟩, fun _ => fail s3 p e4 hL⟩
    · have d := h.2.2.2.2.2
      refine ffm_stringAt (sp_stringAt s p h0 (by omega) (by omega) hs (by omega) (by omega) (by omega) (by omega)) ?_
      rintro r3 s3 f (⟨rfl, g⟩ | ⟨n, n1, n2, n3, n4, n5, n6, n7, n8⟩)
      · exact ⟨fun c3 => absurd c3 (by decide), fun _ => fail s3 p (g.v 4 rfl) (h.fr g rfl rfl)⟩
      · have k4 := f.v 4 rfl
        have k5 := f.v 5 rfl
        have k8 := f.v 8 rfl
        have k19 := f.v 19 rfl
        have k20 := f.v 20 rfl
        obtain ⟨⟨a1, a2, a3⟩, bb, cc, dd⟩ := h
        have hL : pL s3 p r3 := by
          refine ⟨⟨by omega, by omega, fun k hk => ?_⟩, fun k hk => ?_, fun t ht hk => ?_, by omega, by omega, by omega, by omega, by omega, by omega, by omega, by omega, by omega, by omega, by omega, by omega, by omega, by omega⟩
          · rw [f.a 6 k rfl, f.a 7 k rfl]
            exact a3 k (by omega)
          · rw [n7 k, n8 k, n6]
            by_cases e : k = (zv s 18).toNat
            · rw [if_pos e, if_pos e]
              omega
            · rw [if_neg e, if_neg e]
              have := bb k (by omega)
              omega
          · rw [f.a 9 t rfl] at hk
            rw [f.a 11 t rfl, n5]
            have := cc t (by omega) hk
            omega
        exact ⟨fun _ => ⟨⟨by omega, by omega⟩, tok s3 r3 4 _ k4 hL (by omega) (by omega) (fun _ => by omega)⟩, fun c3 => absurd (by omega) c3⟩
    · refine ffm_oneC (sp_oneC s (p + 1) 39 (by omega) (by omega) hs) ?_
      rintro r3 s3 f ⟨k1, k2⟩
      have e4 := f.v 4 rfl
      have hL := h.fr f rfl rfl
      refine ⟨fun c3 => fail s3 p e4 hL, fun c3 => ?_⟩
      have k3 := k2 (by omega)
      refine ffm_look (sp_look s3 r3 (by omega) (by omega)) ?_
      rintro r4 s4 - ⟨e5, -⟩
      rw [e5]
      exact ⟨fun _ => ffm_token (tok s3 (r3 + 1) 2 _ e4 (hL.wk (by omega) (by omega)) (by omega) (by omega) (fun e => absurd e (by decide))) (fun s5 _ g => ⟨⟨by omega, by omega⟩, g⟩), fun _ => fail s3 p e4 hL⟩
  · unfold wr_one_9
    unfold wr_one_9B
    refine ffm_look (sp_look s p h0 hs) ?_
    rintro r s2 - ⟨e2, -, -, -, e3⟩
    rw [e2]
    have e4 : r = b := by rw [e3, hb]
    rw [e4]
    refine ffm_isRest (sp_isRest _ b) ?_
    rintro r2 s3 - ⟨e5, -, g5⟩
    rw [e5]
    exact ⟨fun q => absurd (g3 (by omega)) (g5 q), fun _ => ⟨fun q => absurd q (by omega), fun _ => ⟨⟨by omega, by omega⟩, h9 1300 (p + 1) (by omega) (by omega) (by omega)⟩⟩⟩
theorem pL.up {s : zS} {p : Int} (h : pL s p p) (h1 : p + 1 ≤ 1300) : pL s (p + 1) (p + 1) := by
  obtain ⟨a, b, c, d⟩ := h
  exact ⟨a, b, c, by omega, by omega, by omega, by omega, by omega, by omega, by omega, by omega, by omega, by omega, by omega, by omega, by omega, by omega⟩
def pF (s : zS) (r : Int) (s' : zS) : Prop := zv s' 4 = zv s 4 ∧ (r = -1 ∨ 0 ≤ r ∧ r ≤ 1300) ∧ ∃ p q, pL s' p q
theorem sp_scan_L (s0 : zS) : ∀ (m : Nat) (s : zS) (p : Int), zv s 4 = zv s0 4 → pL s p p → 1300 - p < (m : Int) → wr_scan_32 (pF s0) m s p := by
  intro m
  induction m with
  | zero => intro s p e h h1; have := h.2.2.2.2.2.1; omega
  | succ m ih =>
    intro s p e h h1
    unfold wr_scan_32
    have hs := h.2.2.2.2.2.2.2.1
    have h0 := h.2.2.2.1
    have d := h.2.2.2.2.2
    unfold wr_scan_32B
    refine ⟨fun _ => ⟨e, Or.inl rfl, p, p, h⟩, fun c => ?_⟩
    have go : ∀ q : Int, p + 1 ≤ q → q ≤ zv s 4 → pL s q q → wr_scan_32 (pF s0) m s q := fun q g1 g2 g3 => ih s q e g3 (by omega)
    have h104 : ∀ (m2 : Nat) (q : Int), p ≤ q → q ≤ zv s 4 → pL s q q → (p = q → ¬ (if zv s 4 ≤ p then 0 else zan (za s 3 p.toNat) 255) = 10) → 1300 - q < (m2 : Int) → wr_scan_104 (pF s0) (wr_scan_32 (pF s0) m) m2 s q := by
      intro m2
      induction m2 with
      | zero => intro q g1 g2 g3 g4 g5; omega
      | succ m2 ih2 =>
        intro q g1 g2 g3 g4 g5
        unfold wr_scan_104
        unfold wr_scan_104B
        refine ⟨fun c2 => go q (by omega) g2 g3, fun c2 => ?_⟩
        refine ffm_look (sp_look s q (by omega) hs) ?_
        rintro r s2 - ⟨e2, -, -, -, e3⟩
        rw [e2]
        refine ⟨fun c3 => ?_, fun c3 => ⟨⟨by omega, by omega⟩, ih2 (q + 1) (by omega) (by omega) (g3.up (by omega)) (fun q => by omega) (by omega)⟩⟩
        by_cases e5 : p = q
        · subst e5
          exact absurd (e3.symm.trans c3) (g4 rfl)
        · exact go q (by omega) g2 g3
    refine ffm_look (sp_look s p h0 hs) ?_
    rintro r s2 - ⟨e2, -, -, -, e3⟩
    rw [e2]
    have hup := h.up (by omega)
    have step : zR (p + 1) ∧ wr_scan_32 (pF s0) m s (p + 1) := ⟨⟨by omega, by omega⟩, go (p + 1) (by omega) (by omega) hup⟩
    refine ⟨fun c10 => ⟨fun _ => step, fun _ => ⟨fun _ => step, fun _ => ⟨fun _ => ?_, fun _ => step⟩⟩⟩, fun _ => ⟨⟨by omega, by omega⟩, ⟨by omega, by omega⟩, ih _ (p + 1) e ?_ (by omega)⟩⟩
    · refine ffm_isPair (sp_isPair s p 47 47 h0 (by omega) hs (by decide) (by decide)) ?_
      rintro r2 s3 - ⟨e4, g1, g2⟩
      rw [e4]
      refine ⟨fun _ => ?_, fun _ => ⟨1301, h104 1301 p (by omega) (by omega) h (fun _ q => c10 (e3.trans q)) (by omega)⟩⟩
      refine ffm_one (sp_one s p r h (by omega) e3) ?_
      rintro r3 s4 - ⟨k1, k2⟩
      refine ⟨fun c3 => ?_, fun c3 => ?_⟩
      · rcases k2 with ⟨k2, -⟩ | ⟨k2, k3, k4⟩
        · omega
        · exact ih s4 r3 (by omega) k4 (by omega)
      · rcases k2 with ⟨k2, q, k3⟩ | ⟨k2, k3, k4⟩
        · exact ⟨⟨by omega, by omega⟩, by omega, Or.inr ⟨by omega, by omega⟩, p, q, k3⟩
        · omega
    · obtain ⟨⟨a1, a2, a3⟩, bb, cc, dd⟩ := hup
      exact ⟨⟨a1, a2, a3⟩, bb, cc, dd.1, dd.2.1, dd.2.2.1, dd.2.2.2.1, dd.2.2.2.2.1, dd.2.2.2.2.2.1, by have := h.2.2.2.2.2.2.2.2.2.1; show zv s 8 ≤ p + 1 ∧ (zv s 20 < zv s 19 + 1 → zv s 8 + 1 ≤ p + 1); omega, dd.2.2.2.2.2.2.2.1, dd.2.2.2.2.2.2.2.2.1, dd.2.2.2.2.2.2.2.2.2.1, dd.2.2.2.2.2.2.2.2.2.2.1, dd.2.2.2.2.2.2.2.2.2.2.2.1, by show 0 ≤ zv s 19 + 1; omega, by show zv s 19 + 1 ≤ p + 1; omega⟩
theorem sp_scan (s : zS) (h0 : 0 ≤ zv s 4) (h1 : zv s 4 ≤ 1280) : wr_scan s (pF s) := by
  unfold wr_scan
  refine ⟨1301, sp_scan_L s 1301 _ 0 rfl ?_ (by decide)⟩
  refine ⟨⟨(by first | decide | exact Int.le_refl 0 | exact (by decide : (0:Int) ≤ 3000) | exact (by decide : (0:Int) ≤ 2 * 0) | exact ⟨Int.le_refl 0, fun q => absurd (show (0:Int) < 0 from q) (by decide)⟩), (by first | decide | exact Int.le_refl 0 | exact (by decide : (0:Int) ≤ 3000) | exact (by decide : (0:Int) ≤ 2 * 0) | exact ⟨Int.le_refl 0, fun q => absurd (show (0:Int) < 0 from q) (by decide)⟩), fun k hk => ?_⟩, fun k hk => ?_, fun k hk => ?_, (by first | decide | exact Int.le_refl 0 | exact (by decide : (0:Int) ≤ 3000) | exact (by decide : (0:Int) ≤ 2 * 0) | exact ⟨Int.le_refl 0, fun q => absurd (show (0:Int) < 0 from q) (by decide)⟩), (by first | decide | exact Int.le_refl 0 | exact (by decide : (0:Int) ≤ 3000) | exact (by decide : (0:Int) ≤ 2 * 0) | exact ⟨Int.le_refl 0, fun q => absurd (show (0:Int) < 0 from q) (by decide)⟩), (by first | decide | exact Int.le_refl 0 | exact (by decide : (0:Int) ≤ 3000) | exact (by decide : (0:Int) ≤ 2 * 0) | exact ⟨Int.le_refl 0, fun q => absurd (show (0:Int) < 0 from q) (by decide)⟩), h0, h1, (by first | decide | exact Int.le_refl 0 | exact (by decide : (0:Int) ≤ 3000) | exact (by decide : (0:Int) ≤ 2 * 0) | exact ⟨Int.le_refl 0, fun q => absurd (show (0:Int) < 0 from q) (by decide)⟩), (by first | decide | exact Int.le_refl 0 | exact (by decide : (0:Int) ≤ 3000) | exact (by decide : (0:Int) ≤ 2 * 0) | exact ⟨Int.le_refl 0, fun q => absurd (show (0:Int) < 0 from q) (by decide)⟩), (by first | decide | exact Int.le_refl 0 | exact (by decide : (0:Int) ≤ 3000) | exact (by decide : (0:Int) ≤ 2 * 0) | exact ⟨Int.le_refl 0, fun q => absurd (show (0:Int) < 0 from q) (by decide)⟩), (by first | decide | exact Int.le_refl 0 | exact (by decide : (0:Int) ≤ 3000) | exact (by decide : (0:Int) ≤ 2 * 0) | exact ⟨Int.le_refl 0, fun q => absurd (show (0:Int) < 0 from q) (by decide)⟩), (by first | decide | exact Int.le_refl 0 | exact (by decide : (0:Int) ≤ 3000) | exact (by decide : (0:Int) ≤ 2 * 0) | exact ⟨Int.le_refl 0, fun q => absurd (show (0:Int) < 0 from q) (by decide)⟩), (by first | decide | exact Int.le_refl 0 | exact (by decide : (0:Int) ≤ 3000) | exact (by decide : (0:Int) ≤ 2 * 0) | exact ⟨Int.le_refl 0, fun q => absurd (show (0:Int) < 0 from q) (by decide)⟩), (by first | decide | exact Int.le_refl 0 | exact (by decide : (0:Int) ≤ 3000) | exact (by decide : (0:Int) ≤ 2 * 0) | exact ⟨Int.le_refl 0, fun q => absurd (show (0:Int) < 0 from q) (by decide)⟩), (by first | decide | exact Int.le_refl 0 | exact (by decide : (0:Int) ≤ 3000) | exact (by decide : (0:Int) ≤ 2 * 0) | exact ⟨Int.le_refl 0, fun q => absurd (show (0:Int) < 0 from q) (by decide)⟩), (by first | decide | exact Int.le_refl 0 | exact (by decide : (0:Int) ≤ 3000) | exact (by decide : (0:Int) ≤ 2 * 0) | exact ⟨Int.le_refl 0, fun q => absurd (show (0:Int) < 0 from q) (by decide)⟩)⟩
  · exact absurd (show (k : Int) < 0 from hk) (by omega)
  · exact absurd (show (k : Int) < 0 from hk) (by omega)
  · exact absurd (show (k : Int) < 0 from hk) (by omega)
