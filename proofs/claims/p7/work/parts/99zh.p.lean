/-! NAMES, FAULTS -/
theorem sp_fault (s : zS) (k p : Int) : wr_fault s k p (fun s' => zSm s s' [] [12, 13]) := by
  have h : zSm s (zpv (zpv s 12 k) 13 p) [] [12, 13] := (zSm.rf.pv rfl).pv rfl
  unfold wr_fault
  exact ⟨fun _ => h, fun _ => ⟨fun _ => zSm.rf, fun _ => ⟨fun _ => h, fun _ => ⟨fun _ => h, fun _ => zSm.rf⟩⟩⟩⟩
theorem sp_place (s : zS) (t : Int) (h0 : 0 ≤ t) (h1 : t ≤ 12000) {Q : Int → zS → Prop} (hq : ∀ r, Q r s) : wr_place s t Q := by
  unfold wr_place
  exact ⟨h0, by omega, hq _⟩
/-- what a name means: none, or an entry of that name -/
theorem sp_means (s : zS) (a : Int) (h0 : 0 ≤ zv s 49) (h1 : zv s 49 ≤ 9000) {Q : Int → zS → Prop} (hq : Q (-1) s) (hq1 : ∀ e : Nat, (e : Int) < zv s 49 → za s 50 e = a → Q e s) : wr_means s a Q := by
  have L : ∀ (n : Nat) (x : Int), -1 ≤ x → x < zv s 49 → x + 1 < n → wr_means_7 Q n s a x := by
    intro n
    induction n with
    | zero => intro x h2 h3 h4; omega
    | succ n ih =>
      intro x h2 h3 h4
      unfold wr_means_7
      unfold wr_means_7B
      refine ⟨fun c => hq, fun c => ⟨by omega, by omega, fun _ => ⟨⟨by omega, by omega⟩, ih _ (by omega) (by omega) (by omega)⟩, fun e => ?_⟩⟩
      have := hq1 x.toNat (by omega) e
      rwa [show ((x.toNat : Nat) : Int) = x by omega] at this
  unfold wr_means
  exact ⟨⟨by omega, by omega⟩, (zv s 49).toNat + 1, L _ _ (by omega) (by omega) (by omega)⟩
