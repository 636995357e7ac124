/-! THE REFERENCE'S TOKENS -/
theorem zv_pv (s : zS) (j k : Nat) (x : Int) : zv (zpv s j x) k = if k = j then x else zv s k := rfl
theorem zv_pa (s : zS) (j i k : Nat) (x : Int) : zv (zpa s j i x) k = zv s k := rfl
theorem za_pv (s : zS) (j k i : Nat) (x : Int) : za (zpv s j x) k i = za s k i := rfl
theorem za_pa (s : zS) (j i k m : Nat) (x : Int) : za (zpa s j i x) k m = if k = j then (if m = i then x else za s k m) else za s k m := rfl
theorem zan_m (a m : Int) (hm : 0 ≤ m) (hm2 : m < 2147483648) : 0 ≤ zan a m ∧ zan a m ≤ m := by
  have hR : zR m := ⟨by omega, by omega⟩
  have h0 : (0 : Int32) ≤ zI m := (zI_le (by decide : zR 0) hR).mpr hm
  have h1 : (zI m).toBitVec.toNat = m.toNat := by rw [Int32.toNat_toBitVec_of_le h0, ← Int32.toNat_toInt, zI_t hR]
  have h2 : (zI a &&& zI m).toBitVec.toNat ≤ m.toNat := by
    rw [Int32.toBitVec_and, BitVec.toNat_and, ← h1]
    exact Nat.and_le_right
  have h3 : (zI a &&& zI m).toInt = ((zI a &&& zI m).toBitVec.toNat : Int) := BitVec.toInt_eq_toNat_of_lt (by omega)
  unfold zan
  rw [h3]
  omega
theorem sp_isLetter (s : zS) (a : Int) : wr_isLetter s a (fun r s' => s' = s ∧ (r = 0 ∨ r = 1)) := by
  unfold wr_isLetter
  repeat' (first | with_reducible intro | with_reducible apply And.intro | omega | rfl)
theorem sp_isDigit (s : zS) (a : Int) : wr_isDigit s a (fun r s' => s' = s ∧ (r = 0 ∨ r = 1) ∧ (r = 1 → 48 ≤ a ∧ a ≤ 57) ∧ (r = 0 → a < 48 ∨ 57 < a)) := by
  unfold wr_isDigit
  repeat' (first | with_reducible intro | with_reducible apply And.intro | omega | rfl)
theorem sp_isRest (s : zS) (a : Int) : wr_isRest s a (fun r s' => s' = s ∧ (r = 0 ∨ r = 1)) := by
  unfold wr_isRest
  refine ffm_isLetter (sp_isLetter s a) ?_
  rintro r s1 - ⟨rfl, h⟩
  refine ⟨fun _ => ⟨rfl, Or.inr rfl⟩, fun _ => ?_⟩
  refine ffm_isDigit (sp_isDigit _ a) ?_
  rintro r s2 - ⟨rfl, h, -, -⟩
  repeat' (first | with_reducible intro | with_reducible apply And.intro | omega | rfl)
theorem sp_endsLine (s : zS) (a : Int) : wr_endsLine s a (fun r s' => s' = s ∧ (r = 0 ∨ r = 1)) := by
  unfold wr_endsLine
  repeat' (first | with_reducible intro | with_reducible apply And.intro | omega | rfl)
theorem sp_isDoless (s : zS) (a : Int) : wr_isDoless s a (fun r s' => s' = s ∧ (r = 0 ∨ r = 1)) := by
  unfold wr_isDoless
  repeat' (first | with_reducible intro | with_reducible apply And.intro | omega | rfl)
theorem sp_isBeginning (s : zS) (a : Int) : wr_isBeginning s a (fun r s' => s' = s ∧ (r = 0 ∨ r = 1)) := by
  unfold wr_isBeginning
  repeat' (first | (unfold wr_isBeginning_92) | with_reducible intro | with_reducible apply And.intro | omega | rfl | (refine ffm_isDoless (sp_isDoless _ a) ?_))
  all_goals sorry
theorem sp_look (s : zS) (a : Int) (h : 0 ≤ a) (hs : zv s 4 ≤ 1280) : wr_look s a (fun r s' => s' = s ∧ 0 ≤ r ∧ r ≤ 255 ∧ (zv s 4 ≤ a → r = 0)) := by
  unfold wr_look
  have h2 := zan_m (za s 3 a.toNat) 255 (by decide) (by decide)
  repeat' (first | with_reducible intro | with_reducible apply And.intro | omega | rfl)
theorem sp_isPair (s : zS) (p a b : Int) (h : 0 ≤ p) (hp : p ≤ 1280) (hs : zv s 4 ≤ 1280) (ha : 0 < a) (hb : 0 < b) : wr_isPair s p a b (fun r s' => s' = s ∧ (r = 0 ∨ r = 1) ∧ (r ≠ 0 → p + 2 ≤ zv s 4)) := by
  unfold wr_isPair
  refine ffm_look (sp_look s p h hs) ?_
  rintro r s1 - ⟨rfl, h1, h2, h3⟩
  refine ⟨fun _ => ⟨rfl, Or.inl rfl, fun q => absurd rfl q⟩, fun c => ⟨⟨by omega, by omega⟩, ?_⟩⟩
  refine ffm_look (sp_look _ (p + 1) (by omega) hs) ?_
  rintro r2 s2 - ⟨rfl, h4, h5, h6⟩
  refine ⟨fun _ => ⟨rfl, Or.inl rfl, fun q => absurd rfl q⟩, fun c2 => ⟨rfl, Or.inr rfl, fun _ => ?_⟩⟩
  by_cases h7 : zv s2 4 ≤ p + 1
  · have := h6 h7
    omega
  · omega
theorem sp_isText_L (s : zS) (t n a b : Int) (h0 : 0 ≤ t) (h1 : t + n ≤ 6000) : ∀ (m : Nat) (p k : Int), 0 ≤ p → p ≤ 100 → -8 ≤ k → k ≤ 120 → k + 8 < 8 * (m : Int) → wr_isText_7 (fun r s' => s' = s ∧ (r = 0 ∨ r = 1)) m s t n a b p k := by
  intro m
  induction m with
  | zero => intro p k h2 h3 h4 h5 h6; omega
  | succ m ih =>
    intro p k h2 h3 h4 h5 h6
    show wr_isText_7B _ (wr_isText_7 _ m) s t n a b p k
    have key : ∀ y, k ≥ 0 → wr_isText_34 (fun r s' => s' = s ∧ (r = 0 ∨ r = 1)) (wr_isText_7 (fun r s' => s' = s ∧ (r = 0 ∨ r = 1)) m) s t n a b p k y := by
      intro y hk
      unfold wr_isText_34
      refine ⟨fun _ => ⟨fun _ => ⟨rfl, Or.inl rfl⟩, fun c => ⟨by omega, by omega, fun _ => ⟨⟨by omega, by omega⟩, ⟨by omega, by omega⟩, ?_⟩, fun _ => ⟨rfl, Or.inl rfl⟩⟩⟩, fun _ => ⟨⟨by omega, by omega⟩, ?_⟩⟩
      · sorry
      · exact ih p (k + -8) h2 h3 (by omega) (by omega) (by push_cast at h6; omega)
    unfold wr_isText_7B
    refine ⟨fun c => ⟨fun _ => ⟨rfl, Or.inl rfl⟩, fun _ => ⟨rfl, Or.inr rfl⟩⟩, fun c => ⟨fun _ => key _ (by omega), fun _ => key _ (by omega)⟩⟩
