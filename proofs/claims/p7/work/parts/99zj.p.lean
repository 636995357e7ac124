/-! A FAULT STAYS -/
def fm (s s' : zS) : Prop := ¬ zv s 12 = 0 → ¬ zv s' 12 = 0
theorem fm.rf {s : zS} : fm s s := fun h => h
theorem fm.tr {s s1 s2 : zS} (h : fm s s1) (h2 : fm s1 s2) : fm s s2 := fun q => h2 (h q)
theorem fm.sm {s s' : zS} {js ks : List Nat} (f : zSm s s' js ks) (h : ks.contains 12 = false) : fm s s' := fun q => by rw [f.v 12 h]; exact q
theorem sp_faultN (s : zS) (k p : Int) (hk : ¬ k = 0) : wr_fault s k p (fun s' => zSm s s' [] [12, 13] ∧ ¬ zv s' 12 = 0) := by
  have h : zSm s (zpv (zpv s 12 k) 13 p) [] [12, 13] := (zSm.rf.pv rfl).pv rfl
  have g : ¬ zv (zpv (zpv s 12 k) 13 p) 12 = 0 := hk
  unfold wr_fault
  exact ⟨fun _ => ⟨h, g⟩, fun q => ⟨fun _ => ⟨zSm.rf, q⟩, fun _ => ⟨fun _ => ⟨h, g⟩, fun _ => ⟨fun _ => ⟨h, g⟩, fun _ => ⟨zSm.rf, q⟩⟩⟩⟩⟩
/-! A NAME IN A CONSTANT -/
theorem sp_isKName (s : zS) (k : Nat) (hk : k < 26000) (h0 : 0 ≤ zv s 49) (h1 : zv s 49 ≤ 9000) (t0 : 0 ≤ za s 26 k) (t1 : za s 26 k ≤ 12000) : wr_isKName s k (fun r s' => (r = 0 ∨ r = 1) ∧ zSm s s' [] [12, 13] ∧ fm s s' ∧ (r = 1 → ∃ e : Nat, (e : Int) < zv s 49 ∧ za s 50 e = za s 29 k)) := by
  have fin : ∀ (s1 : zS) (e : Nat), zSm s s1 [] [12, 13] → fm s s1 → (e : Int) < zv s 49 → za s 50 e = za s 29 k → wr_isKName_68 (fun r s' => (r = 0 ∨ r = 1) ∧ zSm s s' [] [12, 13] ∧ fm s s' ∧ (r = 1 → ∃ e : Nat, (e : Int) < zv s 49 ∧ za s 50 e = za s 29 k)) s1 e := fun s1 e f m a b => by
    unfold wr_isKName_68
    repeat' (first | exact ⟨Or.inr rfl, f, m, fun _ => ⟨e, a, b⟩⟩ | exact ⟨Or.inl rfl, f, m, fun q => absurd q (by decide)⟩ | (with_reducible intro _) | (with_reducible apply And.intro) | omega | fail)
  have fin0 : ∀ (s1 : zS), zSm s s1 [] [12, 13] → fm s s1 → wr_isKName_68 (fun r s' => (r = 0 ∨ r = 1) ∧ zSm s s' [] [12, 13] ∧ fm s s' ∧ (r = 1 → ∃ e : Nat, (e : Int) < zv s 49 ∧ za s 50 e = za s 29 k)) s1 (-1) := fun s1 f m => by
    unfold wr_isKName_68
    repeat' (first | exact ⟨Or.inl rfl, f, m, fun q => absurd q (by decide)⟩ | (with_reducible intro _) | (with_reducible apply And.intro) | omega | fail)
  unfold wr_isKName
  rw [Int.toNat_natCast]
  refine ⟨by omega, by omega, sp_means s _ h0 h1 ?_ (fun e a b => ?_)⟩
  · refine ⟨fun c => absurd c (by decide), fun _ => ⟨by omega, by omega, ?_⟩⟩
    refine sp_place s _ t0 t1 (fun r => ?_)
    refine ffm_fault (sp_faultN s 3 r (by decide)) ?_
    rintro s1 - ⟨f, q⟩
    exact fin0 s1 f (fun _ => q)
  · have F : ∀ r, wr_fault s 6 r (fun s30 => wr_isKName_68 (fun r s' => (r = 0 ∨ r = 1) ∧ zSm s s' [] [12, 13] ∧ fm s s' ∧ (r = 1 → ∃ e : Nat, (e : Int) < zv s 49 ∧ za s 50 e = za s 29 k)) s30 e) := fun r => by
      refine ffm_fault (sp_faultN s 6 r (by decide)) ?_
      rintro s1 - ⟨f, q⟩
      exact fin s1 e f (fun _ => q) a b
    refine ⟨fun _ => ⟨by omega, by omega, fun _ => ⟨by omega, by omega, sp_place s _ t0 t1 F⟩, fun _ => ⟨by omega, by omega, fun _ => fin s e zSm.rf fm.rf a b, fun _ => ⟨by omega, by omega, sp_place s _ t0 t1 F⟩⟩⟩, fun c => absurd (by omega) c⟩
