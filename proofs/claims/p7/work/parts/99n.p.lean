theorem sp_token (s : zS) (a0 a1 a2 : Int) (hT : 0 ≤ zv s 8) (hT2 : zv s 8 ≤ 12000) : wr_token s a0 a1 a2 (fun s' => zv s 8 + 1 ≤ zv s' 8 ∧ zv s' 8 ≤ zv s 8 + 2 ∧ zv s' 20 = zv s 19 ∧ (zv s 19 ≤ zv s 20 → zv s' 8 ≤ zv s 8 + 1) ∧ ∀ t : Nat, (t : Int) < zv s' 8 → ((t : Int) < zv s 8 → za s' 9 t = za s 9 t ∧ za s' 11 t = za s 11 t) ∧ (zv s 8 ≤ (t : Int) → za s' 9 t = 15 ∨ (za s' 9 t = a0 ∧ za s' 11 t = a2))) := by
  have k73 : ∀ (s1 : zS) (Q : zS → Prop), 0 ≤ zv s1 8 → zv s1 8 ≤ 12001 → Q (zpv (zpv (zpa (zpa (zpa s1 9 (Int.toNat (zv s1 8)) a0) 10 (Int.toNat (zv s1 8)) a1) 11 (Int.toNat (zv s1 8)) a2) 8 ((zv s1 8) + 1)) 20 (zv s1 19)) → wr_token_73 Q s1 a0 a1 a2 := by
    intro s1 Q h1 h2 hq
    unfold wr_token_73
    exact ⟨by omega, by omega, by omega, by omega, by omega, by omega, ⟨by omega, by omega⟩, hq⟩
  have one : ∀ s1, s1 = s → wr_token_73 (fun s' => zv s 8 + 1 ≤ zv s' 8 ∧ zv s' 8 ≤ zv s 8 + 2 ∧ zv s' 20 = zv s 19 ∧ (zv s 19 ≤ zv s 20 → zv s' 8 ≤ zv s 8 + 1) ∧ ∀ t : Nat, (t : Int) < zv s' 8 → ((t : Int) < zv s 8 → za s' 9 t = za s 9 t ∧ za s' 11 t = za s 11 t) ∧ (zv s 8 ≤ (t : Int) → za s' 9 t = 15 ∨ (za s' 9 t = a0 ∧ za s' 11 t = a2))) s1 a0 a1 a2 := by
    rintro s1 rfl
    refine k73 _ _ hT (by omega) ?_
    refine ⟨Int.le_refl _, by show zv s1 8 + 1 ≤ zv s1 8 + 2; omega, rfl, fun _ => Int.le_refl _, fun t ht => ?_⟩
    have ht' : (t : Int) < zv s1 8 + 1 := ht
    simp only [za_pv, za_pa, reduceIte, Nat.reduceEqDiff]
    refine ⟨fun h => ?_, fun h => ?_⟩
    · rw [if_neg (by omega), if_neg (by omega)]
      exact ⟨rfl, rfl⟩
    · rw [if_pos (by omega), if_pos (by omega)]
      exact Or.inr ⟨rfl, rfl⟩
  unfold wr_token
  refine ⟨fun _ => one s rfl, fun c => ⟨fun _ => one s rfl, fun hlt => ⟨by omega, by omega, ?_⟩⟩⟩
  refine ffm_endsLine (sp_endsLine s _) ?_
  rintro r s1 - ⟨h1, -⟩
  refine ⟨fun _ => one s1 h1, fun _ => ?_⟩
  subst h1
  refine ffm_isBeginning (sp_isBeginning _ a0) ?_
  rintro r2 s2 - ⟨h1, -⟩
  refine ⟨fun _ => one s2 h1, fun _ => ?_⟩
  subst h1
  refine ⟨by omega, by omega, by omega, by omega, ⟨by omega, by omega⟩, k73 _ _ (by show 0 ≤ zv s2 8 + 1; omega) (by show zv s2 8 + 1 ≤ 12001; omega) ?_⟩
  refine ⟨by show zv s2 8 + 1 ≤ zv s2 8 + 1 + 1; omega, by show zv s2 8 + 1 + 1 ≤ zv s2 8 + 2; omega, rfl, fun q => absurd q hlt, fun t ht => ?_⟩
  have ht' : (t : Int) < zv s2 8 + 1 + 1 := ht
  simp only [za_pv, za_pa, zv_pv, zv_pa, reduceIte, Nat.reduceEqDiff]
  refine ⟨fun h => ?_, fun h => ?_⟩
  · rw [if_neg (by omega), if_neg (by omega), if_neg (by omega)]
    exact ⟨rfl, rfl⟩
  · by_cases e : (t : Int) = zv s2 8
    · rw [if_neg (by omega), if_pos (by omega)]
      exact Or.inl rfl
    · rw [if_pos (by omega), if_pos (by omega)]
      exact Or.inr ⟨rfl, rfl⟩
theorem sp_oneC (s : zS) (p q : Int) (h0 : 0 ≤ p) (h1 : p ≤ 1300) (hs : zv s 4 ≤ 1280) : wr_oneC s p q (fun r s' => (r = -1 ∨ p + 1 ≤ r ∧ r ≤ p + 2) ∧ (0 ≤ r → p < zv s 4)) := by
  unfold wr_oneC
  refine ffm_look (sp_look s p h0 hs) ?_
  rintro r s1 - ⟨rfl, h2, h3, h4, -⟩
  have hp : 32 ≤ r → p < zv s1 4 := fun h => by
    by_cases h5 : zv s1 4 ≤ p
    · have := h4 h5
      omega
    · omega
  refine ⟨fun _ => ⟨Or.inl rfl, fun h => absurd h (by decide)⟩, fun c => ⟨fun _ => ⟨Or.inl rfl, fun h => absurd h (by decide)⟩, fun _ => ⟨fun _ => ⟨fun _ => ⟨⟨by omega, by omega⟩, ?_⟩, fun _ => ⟨⟨by omega, by omega⟩, Or.inr ⟨by omega, by omega⟩, fun _ => hp (by omega)⟩⟩, fun _ => ⟨Or.inl rfl, fun h => absurd h (by decide)⟩⟩⟩⟩
  have hp2 := hp (by omega)
  refine ffm_look (sp_look (zpv s1 21 r) (p + 1) (by omega) hs) ?_
  rintro r2 s2 - ⟨h6, -⟩
  repeat' (first | (with_reducible intro _) | (with_reducible apply And.intro) | omega)
theorem sp_digits_L (s : zS) (p0 base : Int) (h0 : 0 ≤ p0) (hb : base = 8 ∨ base = 10 ∨ base = 16) (hs : zv s 4 ≤ 1280) : ∀ (m : Nat) (p v more : Int), p0 ≤ p → p ≤ 1290 → (p = p0 ∨ p ≤ zv s 4) → 0 ≤ v → v < 137438953472 → (more = 0 → 0 < (m : Int)) → (more ≠ 0 → 1292 - p < (m : Int)) → wr_digits_8 (fun r s' => (r = -1 ∨ p0 < r ∧ r ≤ zv s 4) ∧ ∃ x, s' = zpv s 22 x) m s p0 base p v more := by
  intro m
  induction m with
  | zero => intro p v more h1 h2 hz h3 h4 h5 h6; by_cases e : more = 0 <;> omega
  | succ m ih =>
    intro p v more h1 h2 hz h3 h4 h5 h6
    unfold wr_digits_8
    have key : ∀ d, 0 ≤ d → (d ≤ 15 → p < zv s 4) → more ≠ 0 → (d = 99 ∨ d ≤ 15) → wr_digits_63 (fun r s' => (r = -1 ∨ p0 < r ∧ r ≤ zv s 4) ∧ ∃ x, s' = zpv s 22 x) (wr_digits_8 (fun r s' => (r = -1 ∨ p0 < r ∧ r ≤ zv s 4) ∧ ∃ x, s' = zpv s 22 x) m) s p0 base p v d := by
      intro d hd hd2 hm hd3
      have h6' := h6 hm
      unfold wr_digits_63
      refine ⟨fun c => ih p v 0 h1 h2 hz h3 h4 (fun _ => by omega) (fun q => absurd rfl q), fun c => ?_⟩
      have hp := hd2 (by omega)
      refine ⟨fun _ => ⟨⟨by omega, by omega⟩, ih (p + 1) v 1 (by omega) (by omega) (Or.inr (by omega)) h3 h4 (fun q => absurd q (by decide)) (fun _ => by omega)⟩, fun c2 => ⟨⟨by omega, by omega⟩, ?_, ?_⟩⟩
      · rcases hb with rfl | rfl | rfl <;> exact ⟨by omega, by omega⟩
      · refine ih (p + 1) _ 1 (by omega) (by omega) (Or.inr (by omega)) ?_ ?_ (fun q => absurd q (by decide)) (fun _ => by omega)
        · rcases hb with rfl | rfl | rfl <;> omega
        · rcases hb with rfl | rfl | rfl <;> omega
    unfold wr_digits_8B
    refine ⟨fun c z e hz2 => ⟨fun _ => ⟨Or.inl rfl, _, rfl⟩, fun c2 => ⟨fun _ => ⟨Or.inr ⟨by omega, by omega⟩, _, rfl⟩, fun _ => ⟨Or.inl rfl, _, rfl⟩⟩⟩, fun c => ?_⟩
    refine ffm_look (sp_look s p (by omega) hs) ?_
    rintro r s1 - ⟨rfl, h7, h8, h9, -⟩
    have hp : 0 < r → p < zv s1 4 := fun h => by
      by_cases h5 : zv s1 4 ≤ p
      · have := h9 h5
        omega
      · omega
    refine ffm_isDigit (sp_isDigit _ r) ?_
    rintro r2 s2 - ⟨rfl, h10, h11, h12⟩
    refine ⟨fun c1 => ⟨fun _ => key 99 (by decide) (fun q => absurd q (by decide)) c (Or.inl rfl), fun _ => ⟨fun _ => key 99 (by decide) (fun q => absurd q (by decide)) c (Or.inl rfl), fun _ => ⟨⟨by omega, by omega⟩, key _ (by omega) (fun _ => hp (by omega)) c (Or.inr (by omega))⟩⟩⟩, fun c1 => ?_⟩
    have h13 := h11 (by omega)
    exact ⟨⟨by omega, by omega⟩, key _ (by omega) (fun _ => hp (by omega)) c (Or.inr (by omega))⟩
theorem sp_digits (s : zS) (p0 base : Int) (h0 : 0 ≤ p0) (h1 : p0 ≤ 1290) (hb : base = 8 ∨ base = 10 ∨ base = 16) (hs : zv s 4 ≤ 1280) : wr_digits s p0 base (fun r s' => (r = -1 ∨ p0 < r ∧ r ≤ zv s 4) ∧ ∃ x, s' = zpv s 22 x) := ⟨1300, sp_digits_L s p0 base h0 hb hs 1300 p0 0 1 (by omega) h1 (Or.inl rfl) (by decide) (by decide) (fun q => absurd q (by decide)) (fun _ => by omega)⟩
theorem sp_signAt (s : zS) (p : Int) (h0 : 0 ≤ p) (h1 : p ≤ 1280) (hs : zv s 4 ≤ 1280) : wr_signAt s p (fun r s' => r ≤ 36 ∧ (zv s' 23 = 1 ∧ (r = -1 ∨ 12 ≤ r) ∨ zv s' 23 = 2 ∧ p + 2 ≤ zv s 4 ∧ 10 ≤ r)) := by
  unfold wr_signAt
  have pr : ∀ (s1 : zS) (a b : Int) (Q : Int → zS → Prop), zv s1 4 = zv s 4 → 0 < a → 0 < b → (∀ r, (r ≠ 0 → p + 2 ≤ zv s 4) → Q r s1) → wr_isPair s1 p a b Q := fun s1 a b Q e ha hb hq => by
    refine ffm_isPair (sp_isPair s1 p a b h0 h1 (by omega) ha hb) ?_
    rintro r s2 - ⟨rfl, h2, h3⟩
    exact hq r (fun h => by have := h3 h; omega)
  have fin : ∀ (k : Int) (s1 : zS), 10 ≤ k → k ≤ 36 → zv s1 23 = 2 → p + 2 ≤ zv s 4 → (fun (r : Int) (s' : zS) => r ≤ 36 ∧ (zv s' 23 = 1 ∧ (r = -1 ∨ 12 ≤ r) ∨ zv s' 23 = 2 ∧ p + 2 ≤ zv s 4 ∧ 10 ≤ r)) k s1 := fun k s1 a b c d => ⟨b, Or.inr ⟨c, d, a⟩⟩
  refine pr _ 36 40 _ rfl (by decide) (by decide) (fun r1 g1 => ⟨fun _ => ?_, fun c => fin _ _ (by decide) (by decide) rfl (g1 c)⟩)
  refine pr _ 36 41 _ rfl (by decide) (by decide) (fun r1 g1 => ⟨fun _ => ?_, fun c => fin _ _ (by decide) (by decide) rfl (g1 c)⟩)
  refine pr _ 58 61 _ rfl (by decide) (by decide) (fun r1 g1 => ⟨fun _ => ?_, fun c => fin _ _ (by decide) (by decide) rfl (g1 c)⟩)
  refine pr _ 126 61 _ rfl (by decide) (by decide) (fun r1 g1 => ⟨fun _ => ?_, fun c => fin _ _ (by decide) (by decide) rfl (g1 c)⟩)
  refine pr _ 60 61 _ rfl (by decide) (by decide) (fun r1 g1 => ⟨fun _ => ?_, fun c => fin _ _ (by decide) (by decide) rfl (g1 c)⟩)
  refine pr _ 62 61 _ rfl (by decide) (by decide) (fun r1 g1 => ⟨fun _ => ?_, fun c => fin _ _ (by decide) (by decide) rfl (g1 c)⟩)
  refine pr _ 60 60 _ rfl (by decide) (by decide) (fun r1 g1 => ⟨fun _ => ?_, fun c => fin _ _ (by decide) (by decide) rfl (g1 c)⟩)
  refine pr _ 62 62 _ rfl (by decide) (by decide) (fun r1 g1 => ⟨fun _ => ?_, fun c => fin _ _ (by decide) (by decide) rfl (g1 c)⟩)
  refine pr _ 45 62 _ rfl (by decide) (by decide) (fun r1 g1 => ⟨fun _ => ?_, fun c => fin _ _ (by decide) (by decide) rfl (g1 c)⟩)
  refine ffm_look (sp_look (zpv (zpv s 23 2) 23 1) p h0 hs) ?_
  rintro r s2 - ⟨rfl, -⟩
  repeat' (first | (with_reducible intro _) | exact Or.inl ⟨rfl, Or.inr (by decide)⟩ | exact Or.inl ⟨rfl, Or.inl rfl⟩ | (with_reducible apply And.intro) | omega | decide)
