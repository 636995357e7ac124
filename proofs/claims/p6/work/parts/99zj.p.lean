/-! A NAME IN A CONSTANT -/
theorem sp_isKName (s : zS) (k : Nat) (hk : k < 26000) (h0 : 0 ≤ zv s 49) (h1 : zv s 49 ≤ 9000) (t0 : 0 ≤ za s 26 k) (t1 : za s 26 k ≤ 12000) : wr_isKName s k (fun r s' => (r = 0 ∨ r = 1) ∧ zSm s s' [] [12, 13] ∧ (r = 1 → ∃ e : Nat, (e : Int) < zv s 49 ∧ za s 50 e = za s 29 k)) := by
  have fin : ∀ (s1 : zS) (e : Nat), zSm s s1 [] [12, 13] → (e : Int) < zv s 49 → za s 50 e = za s 29 k → wr_isKName_68 (fun r s' => (r = 0 ∨ r = 1) ∧ zSm s s' [] [12, 13] ∧ (r = 1 → ∃ e : Nat, (e : Int) < zv s 49 ∧ za s 50 e = za s 29 k)) s1 e := fun s1 e f a b => by
    unfold wr_isKName_68
    repeat' (first | exact ⟨Or.inr rfl, f, fun _ => ⟨e, a, b⟩⟩ | exact ⟨Or.inl rfl, f, fun q => absurd q (by decide)⟩ | (with_reducible intro _) | (with_reducible apply And.intro) | omega | fail)
  have fin0 : ∀ (s1 : zS), zSm s s1 [] [12, 13] → wr_isKName_68 (fun r s' => (r = 0 ∨ r = 1) ∧ zSm s s' [] [12, 13] ∧ (r = 1 → ∃ e : Nat, (e : Int) < zv s 49 ∧ za s 50 e = za s 29 k)) s1 (-1) := fun s1 f => by
    unfold wr_isKName_68
    repeat' (first | exact ⟨Or.inl rfl, f, fun q => absurd q (by decide)⟩ | (with_reducible intro _) | (with_reducible apply And.intro) | omega | fail)
  unfold wr_isKName
  rw [Int.toNat_natCast]
  refine ⟨by omega, by omega, sp_means s _ h0 h1 ?_ (fun e a b => ?_)⟩
  · refine ⟨fun c => absurd c (by decide), fun _ => ⟨by omega, by omega, ?_⟩⟩
    refine sp_place s _ t0 t1 (fun r => ?_)
    refine ffm_fault (sp_fault s 3 r) ?_
    rintro s1 - f
    exact fin0 s1 f
  · have F : ∀ r, wr_fault s 6 r (fun s30 => wr_isKName_68 (fun r s' => (r = 0 ∨ r = 1) ∧ zSm s s' [] [12, 13] ∧ (r = 1 → ∃ e : Nat, (e : Int) < zv s 49 ∧ za s 50 e = za s 29 k)) s30 e) := fun r => by
      refine ffm_fault (sp_fault s 6 r) ?_
      rintro s1 - f
      exact fin s1 e f a b
    refine ⟨fun _ => ⟨by omega, by omega, fun _ => ⟨by omega, by omega, sp_place s _ t0 t1 F⟩, fun _ => ⟨by omega, by omega, fun _ => fin s e zSm.rf a b, fun _ => ⟨by omega, by omega, sp_place s _ t0 t1 F⟩⟩⟩, fun c => absurd (by omega) c⟩
