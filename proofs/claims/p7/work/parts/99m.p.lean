/-! THE REFERENCE'S TOKENS -/
theorem zv_pv (s : zS) (j k : Nat) (x : Int) : zv (zpv s j x) k = if k = j then x else zv s k := rfl
theorem zv_pa (s : zS) (j i k : Nat) (x : Int) : zv (zpa s j i x) k = zv s k := rfl
theorem za_pv (s : zS) (j k i : Nat) (x : Int) : za (zpv s j x) k i = za s k i := rfl
theorem za_pa (s : zS) (j i k m : Nat) (x : Int) : za (zpa s j i x) k m = if k = j then (if m = i then x else za s k m) else za s k m := rfl
theorem zan_m (a m : Int) (hm : 0 ≤ m) (hm2 : m < 2147483648) : 0 ≤ zan a m ∧ zan a m ≤ m := by
  have hR : zR m := ⟨by omega, by omega⟩
  have h0 : (0 : Int32) ≤ zI m := (zI_le (by decide : zR 0) hR).mpr hm
  have h1 : (zI m).toBitVec.toNat = m.toNat := by rw [Int32.toNat_toBitVec_of_le h0, ← Int32.toNat_toInt, zI_t hR]
  have h2 : (zI a &&& zI m).toBitVec.toNat ≤ m.toNat := by
    rw [Int32.toBitVec_and, BitVec.toNat_and, ← h1]
    exact Nat.and_le_right
  have h3 : (zI a &&& zI m).toInt = ((zI a &&& zI m).toBitVec.toNat : Int) := BitVec.toInt_eq_toNat_of_lt (by omega)
  unfold zan
  rw [h3]
  omega
theorem sp_isLetter (s : zS) (a : Int) : wr_isLetter s a (fun r s' => s' = s ∧ (r = 0 ∨ r = 1) ∧ (r = 0 → ¬ ((97 ≤ a ∧ a ≤ 122) ∨ (65 ≤ a ∧ a ≤ 90))) ∧ (r = 1 → (97 ≤ a ∧ a ≤ 122) ∨ (65 ≤ a ∧ a ≤ 90))) := by
  unfold wr_isLetter
  repeat' (first | (with_reducible intro _) | (with_reducible apply And.intro) | omega | rfl)
theorem sp_isDigit (s : zS) (a : Int) : wr_isDigit s a (fun r s' => s' = s ∧ (r = 0 ∨ r = 1) ∧ (r = 1 → 48 ≤ a ∧ a ≤ 57) ∧ (r = 0 → a < 48 ∨ 57 < a)) := by
  unfold wr_isDigit
  repeat' (first | (with_reducible intro _) | (with_reducible apply And.intro) | omega | rfl)
theorem sp_isRest (s : zS) (a : Int) : wr_isRest s a (fun r s' => s' = s ∧ (r = 0 ∨ r = 1) ∧ (r = 0 → ¬ ((97 ≤ a ∧ a ≤ 122) ∨ (65 ≤ a ∧ a ≤ 90)))) := by
  unfold wr_isRest
  refine ffm_isLetter (sp_isLetter s a) ?_
  rintro r s1 - ⟨rfl, h, h2, h3⟩
  refine ⟨fun _ => ⟨rfl, Or.inr rfl, fun q => absurd q (by decide)⟩, fun c => ?_⟩
  have h4 := h2 c
  refine ffm_isDigit (sp_isDigit _ a) ?_
  rintro r s2 - ⟨rfl, h, -, -⟩
  repeat' (first | (with_reducible intro _) | (with_reducible apply And.intro) | omega | rfl)
theorem sp_endsLine (s : zS) (a : Int) : wr_endsLine s a (fun r s' => s' = s ∧ (r = 0 ∨ r = 1)) := by
  unfold wr_endsLine
  repeat' (first | (with_reducible intro _) | (with_reducible apply And.intro) | omega | rfl)
theorem sp_isDoless (s : zS) (a : Int) : wr_isDoless s a (fun r s' => s' = s ∧ (r = 0 ∨ r = 1)) := by
  unfold wr_isDoless
  repeat' (first | (with_reducible intro _) | (with_reducible apply And.intro) | omega | rfl)
theorem sp_isBeginning (s : zS) (a : Int) : wr_isBeginning s a (fun r s' => s' = s ∧ (r = 0 ∨ r = 1)) := by
  have k92 : ∀ s1, s1 = s → wr_isBeginning_92 (fun r s' => s' = s ∧ (r = 0 ∨ r = 1)) s1 a := by
    rintro s1 rfl
    unfold wr_isBeginning_92
    repeat' (first | (with_reducible intro _) | (with_reducible apply And.intro) | omega | rfl)
  have kd : wr_isDoless s a (fun r38 s39 => ((r38 = 0 → wr_isBeginning_92 (fun r s' => s' = s ∧ (r = 0 ∨ r = 1)) s39 a) ∧ (¬ r38 = 0 → ((¬ a = 10 → (fun r s' => s' = s ∧ (r = 0 ∨ r = 1)) (1 : Int) s39) ∧ (a = 10 → wr_isBeginning_92 (fun r s' => s' = s ∧ (r = 0 ∨ r = 1)) s39 a))))) := by
    refine ffm_isDoless (sp_isDoless s a) ?_
    rintro r s1 - ⟨h1, h⟩
    exact ⟨fun _ => k92 s1 h1, fun _ => ⟨fun _ => ⟨h1, Or.inr rfl⟩, fun _ => k92 s1 h1⟩⟩
  unfold wr_isBeginning
  repeat' (first | (with_reducible intro _) | exact kd | (with_reducible apply And.intro) | omega | rfl)
theorem sp_look (s : zS) (a : Int) (h : 0 ≤ a) (hs : zv s 4 ≤ 1280) : wr_look s a (fun r s' => s' = s ∧ 0 ≤ r ∧ r ≤ 255 ∧ (zv s 4 ≤ a → r = 0) ∧ r = if zv s 4 ≤ a then 0 else zan (za s 3 a.toNat) 255) := by
  unfold wr_look
  have h2 := zan_m (za s 3 a.toNat) 255 (by decide) (by decide)
  exact ⟨fun c => ⟨rfl, by decide, by decide, fun _ => rfl, (if_pos c).symm⟩, fun c => ⟨h, by omega, rfl, h2.1, h2.2, fun q => absurd q c, (if_neg c).symm⟩⟩
theorem sp_isPair (s : zS) (p a b : Int) (h : 0 ≤ p) (hp : p ≤ 1280) (hs : zv s 4 ≤ 1280) (ha : 0 < a) (hb : 0 < b) : wr_isPair s p a b (fun r s' => s' = s ∧ (r = 0 ∨ r = 1) ∧ (r ≠ 0 → p + 2 ≤ zv s 4)) := by
  unfold wr_isPair
  refine ffm_look (sp_look s p h hs) ?_
  rintro r s1 - ⟨rfl, h1, h2, h3, -⟩
  refine ⟨fun _ => ⟨rfl, Or.inl rfl, fun q => absurd rfl q⟩, fun c => ⟨⟨by omega, by omega⟩, ?_⟩⟩
  refine ffm_look (sp_look _ (p + 1) (by omega) hs) ?_
  rintro r2 s2 - ⟨rfl, h4, h5, h6, -⟩
  refine ⟨fun _ => ⟨rfl, Or.inl rfl, fun q => absurd rfl q⟩, fun c2 => ⟨rfl, Or.inr rfl, fun _ => ?_⟩⟩
  by_cases h7 : zv s2 4 ≤ p + 1
  · have := h6 h7
    omega
  · omega
theorem sp_isText_L (s : zS) (t n a b : Int) (h0 : 0 ≤ t) (h1 : t + n ≤ 6000) : ∀ (m : Nat) (p k : Int), 0 ≤ p → 8 * p + k ≤ 120 → -8 ≤ k → k ≤ 120 → k + 8 < 8 * (m : Int) → wr_isText_7 (fun r s' => s' = s ∧ (r = 0 ∨ r = 1)) m s t n a b p k := by
  intro m
  induction m with
  | zero => intro p k h2 h3 h4 h5 h6; omega
  | succ m ih =>
    intro p k h2 h3 h4 h5 h6
    show wr_isText_7B (fun r s' => s' = s ∧ (r = 0 ∨ r = 1)) (wr_isText_7 (fun r s' => s' = s ∧ (r = 0 ∨ r = 1)) m) s t n a b p k
    have key : ∀ y, k ≥ 0 → wr_isText_34 (fun r s' => s' = s ∧ (r = 0 ∨ r = 1)) (wr_isText_7 (fun r s' => s' = s ∧ (r = 0 ∨ r = 1)) m) s t n a b p k y := by
      intro y hk
      unfold wr_isText_34
      refine ⟨fun _ => ⟨fun _ => ⟨rfl, Or.inl rfl⟩, fun c => ⟨by omega, by omega, fun _ => ⟨⟨by omega, by omega⟩, ⟨by omega, by omega⟩, ?_⟩, fun _ => ⟨rfl, Or.inl rfl⟩⟩⟩, fun _ => ⟨⟨by omega, by omega⟩, ?_⟩⟩
      · exact ih (p + 1) (k + -8) (by omega) (by omega) (by omega) (by omega) (by omega)
      · exact ih p (k + -8) h2 (by omega) (by omega) (by omega) (by omega)
    unfold wr_isText_7B
    refine ⟨fun c => ⟨fun _ => ⟨rfl, Or.inl rfl⟩, fun _ => ⟨rfl, Or.inr rfl⟩⟩, fun c => ⟨fun _ => key _ (by omega), fun _ => key _ (by omega)⟩⟩
theorem sp_isText (s : zS) (t n a b : Int) (h0 : 0 ≤ t) (h1 : t + n ≤ 6000) : wr_isText s t n a b (fun r s' => s' = s ∧ (r = 0 ∨ r = 1)) := ⟨20, sp_isText_L s t n a b h0 h1 20 0 120 (by decide) (by decide) (by decide) (by decide) (by decide)⟩
theorem sp_keyword (s : zS) (t n : Int) (h0 : 0 ≤ t) (h1 : t + n ≤ 6000) : wr_keyword s t n (fun r s' => s' = s ∧ (r = 1 ∨ 33 ≤ r) ∧ r ≤ 78) := by
  unfold wr_keyword
  repeat' (first | (refine ffm_isText (sp_isText _ t n _ _ h0 h1) ?_; rintro r s1 - ⟨rfl, h⟩) | (with_reducible intro _) | (with_reducible apply And.intro) | omega | rfl)
/-- the names' table -/
def pN (s : zS) : Prop := 0 ≤ zv s 5 ∧ zv s 5 ≤ 3000 ∧ ∀ k : Nat, (k : Int) < zv s 5 → 0 ≤ za s 6 k ∧ 0 ≤ za s 7 k ∧ za s 6 k + za s 7 k ≤ 1280
theorem sp_nameOf_L30 (s : zS) (t n : Int) (h0 : 0 ≤ t) (h1 : t + n ≤ 1280) (hN : pN s) {Q : Int → zS → Prop} {k2 : zS → Int → Int → Int → Prop} (x : Int) (hx : 0 ≤ x ∧ x < zv s 5) (hx7 : za s 7 x.toNat = n) (hQ : Q x s) (hk : k2 s t n (x + 1)) : ∀ (m : Nat) (e p : Int), 0 ≤ p → n - p < (m : Int) → 0 < (m : Int) → wr_nameOf_30 Q k2 m s t n x e p := by
  intro m
  induction m with
  | zero => intro e p h2 h3 h4; omega
  | succ m ih =>
    intro e p h2 h3 h4
    show wr_nameOf_30B Q k2 (wr_nameOf_30 Q k2 m) s t n x e p
    obtain ⟨n1, n2, n3⟩ := hN
    have h5 := n3 x.toNat (by omega)
    rw [hx7] at h5
    unfold wr_nameOf_30B
    refine ⟨fun c => ⟨fun _ => ⟨⟨by omega, by omega⟩, hk⟩, fun _ => hQ⟩, fun c => ⟨fun _ => ⟨fun _ => ⟨⟨by omega, by omega⟩, hk⟩, fun _ => hQ⟩, fun _ => ⟨by omega, by omega, by omega, by omega, by omega, by omega, ⟨fun _ => ⟨⟨by omega, by omega⟩, ih 0 (p + 1) (by omega) (by omega) (by omega)⟩, fun _ => ⟨⟨by omega, by omega⟩, ih 1 (p + 1) (by omega) (by omega) (by omega)⟩⟩⟩⟩⟩
theorem sp_nameOf_L2 (s : zS) (t n : Int) (h0 : 0 ≤ t) (h1 : t + n ≤ 1280) (hn : 0 ≤ n) (hN : pN s) : ∀ (m : Nat) (x : Int), 0 ≤ x → zv s 5 - x < (m : Int) → 0 < (m : Int) → x ≤ zv s 5 → wr_nameOf_2 (fun r s' => 0 ≤ r ∧ (s' = s ∧ r < zv s 5 ∨ r = zv s 5 ∧ s' = zpv (zpa (zpa s 6 (zv s 5).toNat t) 7 (zv s 5).toNat n) 5 (zv s 5 + 1))) m s t n x := by
  intro m
  induction m with
  | zero => intro x h2 h3 h4 h5; omega
  | succ m ih =>
    intro x h2 h3 h4 h5
    show wr_nameOf_2B (fun r s' => 0 ≤ r ∧ (s' = s ∧ r < zv s 5 ∨ r = zv s 5 ∧ s' = zpv (zpa (zpa s 6 (zv s 5).toNat t) 7 (zv s 5).toNat n) 5 (zv s 5 + 1))) (wr_nameOf_2 (fun r s' => 0 ≤ r ∧ (s' = s ∧ r < zv s 5 ∨ r = zv s 5 ∧ s' = zpv (zpa (zpa s 6 (zv s 5).toNat t) 7 (zv s 5).toNat n) 5 (zv s 5 + 1))) m) s t n x
    obtain ⟨n1, n2, n3⟩ := id hN
    unfold wr_nameOf_2B
    refine ⟨fun c => ⟨by omega, by omega, by omega, by omega, ⟨by omega, by omega⟩, ⟨by omega, by omega⟩, by omega, Or.inr ⟨by omega, rfl⟩⟩, fun c => ⟨by omega, by omega, fun c2 => ?_, fun c2 => ?_⟩⟩
    · -- not as long: the loop of bytes is not walked through
      refine ⟨1, ?_⟩
      unfold wr_nameOf_30
      unfold wr_nameOf_30B
      have hk := ih (x + 1) (by omega) (by omega) (by omega) (by omega)
      exact ⟨fun _ => ⟨fun _ => ⟨⟨by omega, by omega⟩, hk⟩, fun q => absurd rfl q⟩, fun _ => ⟨fun _ => ⟨fun _ => ⟨⟨by omega, by omega⟩, hk⟩, fun q => absurd rfl q⟩, fun q => absurd rfl q⟩⟩
    · refine ⟨n.toNat + 1, sp_nameOf_L30 s t n h0 h1 hN x ⟨h2, by omega⟩ c2 ⟨h2, Or.inl ⟨rfl, by omega⟩⟩ (ih (x + 1) (by omega) (by omega) (by omega) (by omega)) _ 1 0 (by omega) (by omega) (by omega)⟩
theorem sp_nameOf (s : zS) (t n : Int) (h0 : 0 ≤ t) (h1 : t + n ≤ 1280) (hn : 0 ≤ n) (hN : pN s) : wr_nameOf s t n (fun r s' => 0 ≤ r ∧ (s' = s ∧ r < zv s 5 ∨ r = zv s 5 ∧ s' = zpv (zpa (zpa s 6 (zv s 5).toNat t) 7 (zv s 5).toNat n) 5 (zv s 5 + 1))) := ⟨(zv s 5).toNat + 1, sp_nameOf_L2 s t n h0 h1 hn hN _ 0 (by omega) (by have := hN.1; omega) (by omega) hN.1⟩
