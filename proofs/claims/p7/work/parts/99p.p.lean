/-! THE REFERENCE BETWEEN CALLS: how it stands; N: the tape's bytes at most -/
def pFive (x : Int) : Prop := x = 4096 ∨ x = 8192 ∨ x = 16384 ∨ x = 32768 ∨ x = 65536
/-- an input's row of ends -/
def pE (s : zS) (k : Nat) (p0 : Int) : Prop := ∀ p : Int, p0 ≤ p → p < za s 112 k → p < za s 110 (6000 * (k : Int) + p).toNat ∧ za s 110 (6000 * (k : Int) + p).toNat ≤ za s 112 k
def pI (s : zS) (N : Int) : Prop := 0 ≤ zv s 2 ∧ zv s 2 ≤ N ∧ pFive (zv s 99) ∧ pFive (zv s 100) ∧ (∀ k : Nat, k < 2 → 0 ≤ za s 116 k ∧ za s 116 k ≤ 4096) ∧ ∀ k : Nat, k < 4 → 0 ≤ za s 112 k ∧ za s 112 k ≤ 1280 ∧ 0 ≤ za s 113 k ∧ za s 113 k ≤ za s 112 k ∧ pE s k 0
theorem pI.N {s : zS} {N N' : Int} (h : pI s N) (h1 : N ≤ N') : pI s N' := ⟨h.1, Int.le_trans h.2.1 h1, h.2.2⟩
/-- a change of other fields -/
theorem pI.fr {s s' : zS} {N : Int} {js ks : List Nat} (h : pI s N) (f : zSm s s' js ks) (hj : ([110, 112, 113, 116].all fun j => !js.contains j) = true) (hk : ([2, 99, 100].all fun k => !ks.contains k) = true) : pI s' N := by
  have J : ∀ j, [110, 112, 113, 116].contains j = true → ∀ i, za s' j i = za s j i := fun j h1 i => f.a j i (by
    have := List.all_eq_true.mp hj j (by simpa using h1)
    simpa using this)
  have K : ∀ k, [2, 99, 100].contains k = true → zv s' k = zv s k := fun k h1 => f.v k (by
    have := List.all_eq_true.mp hk k (by simpa using h1)
    simpa using this)
  obtain ⟨a, b, c, d, e, g⟩ := h
  refine ⟨by rw [K 2 rfl]; exact a, by rw [K 2 rfl]; exact b, by rw [K 99 rfl]; exact c, by rw [K 100 rfl]; exact d, fun k hk => by rw [J 116 rfl]; exact e k hk, fun k hk => ?_⟩
  obtain ⟨g1, g2, g3, g4, g5⟩ := g k hk
  refine ⟨by rw [J 112 rfl]; exact g1, by rw [J 112 rfl]; exact g2, by rw [J 113 rfl]; exact g3, by rw [J 113 rfl, J 112 rfl]; exact g4, fun p h1 h2 => ?_⟩
  rw [J 112 rfl] at h2 ⊢
  rw [J 110 rfl]
  exact g5 p h1 h2
theorem sp_end (s : zS) (a N : Int) (h : pI s N) : wr_end s a (fun r s' => pI s' N ∧ (r = 1 → 0 ≤ a ∧ a ≤ zv s 2 ∧ zv s' 2 = a) ∧ (r = 0 → ¬ (0 ≤ a ∧ a ≤ zv s 2) ∧ zv s' 2 = zv s 2) ∧ (r = 0 ∨ r = 1)) := by
  have h0 : pI (zpv s 0 0) N := h.fr (zSm.rf.pv (js := []) (ks := [0]) rfl) rfl rfl
  unfold wr_end
  refine ⟨fun c => ⟨h0, fun q => absurd q (by decide), fun _ => ⟨by omega, rfl⟩, Or.inl rfl⟩, fun c => ⟨fun c2 => ⟨?_, fun _ => ⟨by omega, c2, rfl⟩, fun q => absurd q (by decide), Or.inr rfl⟩, fun c2 => ⟨h0, fun q => absurd q (by decide), fun _ => ⟨by omega, rfl⟩, Or.inl rfl⟩⟩⟩
  exact ⟨by show 0 ≤ a; omega, by have := h.2.1; show a ≤ N; omega, h.2.2⟩
theorem sp_store (s : zS) (a N : Int) (h : pI s N) : wr_store s a (fun r s' => pI s' N ∧ (pFive a → r = 1) ∧ (¬ pFive a → r = 0) ∧ zv s' 2 = zv s 2) := by
  have h0 : pI (zpv s 0 0) N := h.fr (zSm.rf.pv (js := []) (ks := [0]) rfl) rfl rfl
  have h1 : pFive a → pI (zpv (zpv s 0 0) 100 a) N := fun q => ⟨h0.1, h0.2.1, h0.2.2.1, q, h0.2.2.2.2⟩
  have yes : pFive a → (fun (r : Int) (s' : zS) => pI s' N ∧ (pFive a → r = 1) ∧ (¬ pFive a → r = 0) ∧ zv s' 2 = zv s 2) 1 (zpv (zpv s 0 0) 100 a) := fun q => ⟨h1 q, fun _ => rfl, fun z => absurd q z, rfl⟩
  unfold wr_store
  refine ⟨fun c => yes (Or.inl c), fun c1 => ⟨fun c => yes (Or.inr (Or.inl c)), fun c2 => ⟨fun c => yes (Or.inr (Or.inr (Or.inl c))), fun c3 => ⟨fun c => yes (Or.inr (Or.inr (Or.inr (Or.inl c)))), fun c4 => ⟨fun c => yes (Or.inr (Or.inr (Or.inr (Or.inr c)))), fun c5 => ⟨h0, fun q => ?_, fun _ => rfl, rfl⟩⟩⟩⟩⟩⟩
  rcases q with q | q | q | q | q
  · exact absurd q c1
  · exact absurd q c2
  · exact absurd q c3
  · exact absurd q c4
  · exact absurd q c5
theorem sp_out (s : zS) (a : Int) : wr_out s a (fun _ s' => s' = zpv s 0 0) := by
  unfold wr_out
  repeat' (first | (with_reducible intro _) | (with_reducible apply And.intro) | omega | rfl)
theorem sp_word (s : zS) (a N : Int) (h : pI s N) : wr_word s a (fun _ s' => zSm s s' [] [0]) := by
  unfold wr_word
  have h5 : zv s 99 ≤ 65536 := by rcases h.2.2.1 with q | q | q | q | q <;> omega
  have f0 : zSm s (zpv s 0 0) [] [0] := zSm.rf.pv rfl
  exact ⟨fun _ => f0.pv rfl, fun _ => ⟨fun _ => ⟨by omega, by omega, f0⟩, fun _ => f0.pv rfl⟩⟩
theorem sp_outAt (s : zS) (a i N : Int) (h : pI s N) : wr_outAt s a i (fun _ s' => zSm s s' [] [0]) := by
  unfold wr_outAt
  have f0 : zSm s (zpv s 0 0) [] [0] := zSm.rf.pv rfl
  refine ⟨fun _ => f0.pv rfl, fun _ => ⟨fun _ => f0.pv rfl, fun _ => ⟨fun _ => f0.pv rfl, fun _ => ⟨by omega, by omega, fun c => ?_, fun _ => f0.pv rfl⟩⟩⟩⟩
  have h5 := h.2.2.2.2.1 a.toNat (by omega)
  exact ⟨by omega, by omega, f0⟩
theorem sp_feed_L (s0 : zS) (a b c d e : Int) (h : zv s0 2 + 20 ≤ 6000) (h0 : 0 ≤ zv s0 2) : ∀ (m : Nat) (s : zS) (k : Int), 0 ≤ k → k ≤ 20 → zv s 2 = zv s0 2 + k → 20 - k < (m : Int) → wr_feed_23 (fun r s' => r = 1 ∧ zv s' 2 = zv s0 2 + 20) m s a b c d e k := by
  intro m
  induction m with
  | zero => intro s k h1 h2 h3 h4; omega
  | succ m ih =>
    intro s k h1 h2 h3 h4
    unfold wr_feed_23
    have key : ¬ 20 ≤ k → ∀ w, wr_feed_63 (fun r s' => r = 1 ∧ zv s' 2 = zv s0 2 + 20) (wr_feed_23 (fun r s' => r = 1 ∧ zv s' 2 = zv s0 2 + 20) m) s a b c d e k w := by
      intro hk w
      unfold wr_feed_63
      refine ⟨fun _ => ⟨by omega, by omega, ⟨by omega, by omega⟩, ⟨by omega, by omega⟩, ih _ (k + 1) (by omega) (by omega) ?_ (by omega)⟩, fun _ => ⟨by omega, by omega, ⟨by omega, by omega⟩, ⟨by omega, by omega⟩, ih _ (k + 1) (by omega) (by omega) ?_ (by omega)⟩⟩
      · show zv s 2 + 1 = _
        omega
      · show zv s 2 + 1 = _
        omega
    unfold wr_feed_23B
    exact ⟨fun _ => ⟨rfl, by omega⟩, fun c => ⟨fun _ => ⟨fun _ => ⟨fun _ => key c _, fun _ => key c _⟩, fun _ => ⟨fun _ => key c _, fun _ => key c _⟩⟩, fun _ => ⟨fun _ => ⟨fun _ => key c _, fun _ => key c _⟩, fun _ => ⟨fun _ => key c _, fun _ => key c _⟩⟩⟩⟩
theorem sp_feed (s : zS) (a b c d e N : Int) (h : pI s N) (hN : N + 20 ≤ 6000) : wr_feed s a b c d e (fun r s' => pI s' (N + 20) ∧ r = 1 ∧ zv s' 2 = zv s 2 + 20) := by
  have hz := h.1
  have hz2 := h.2.1
  have e0 : zv (zpv s 0 0) 2 = zv s 2 := rfl
  have L : wr_feed s a b c d e (fun r s' => r = 1 ∧ zv s' 2 = zv s 2 + 20) := by
    unfold wr_feed
    exact ⟨⟨by omega, by omega⟩, fun _ => ⟨30, sp_feed_L (zpv s 0 0) a b c d e (by omega) (by omega) 30 _ 0 (by decide) (by decide) (by omega) (by decide)⟩, fun q => absurd (by omega) q⟩
  refine ffm_feed L ?_
  rintro r s' f ⟨g1, g2⟩
  refine ⟨?_, g1, g2⟩
  have h1 : pI (zpv s 2 0) N := ⟨Int.le_refl 0, by show (0 : Int) ≤ N; omega, h.2.2⟩
  have f2 : zSm (zpv s 2 0) (zpv s' 2 0) [1] [0, 2] := ⟨fun j hj => f.1 j hj, fun k hk => by
    show (if k = 2 then 0 else s'.1 k) = (if k = 2 then 0 else s.1 k)
    split
    · rfl
    · exact f.2 k hk⟩
  have h3 : pI (zpv s' 2 0) N := by
    obtain ⟨q1, q2, q3, q4, q5, q6⟩ := h
    refine ⟨Int.le_refl 0, by show (0 : Int) ≤ N; omega, ?_, ?_, fun k hk => ?_, fun k hk => ?_⟩
    · show pFive (zv s' 99)
      rw [f.v 99 rfl]; exact q3
    · show pFive (zv s' 100)
      rw [f.v 100 rfl]; exact q4
    · show 0 ≤ za s' 116 k ∧ za s' 116 k ≤ 4096
      rw [f.a 116 k rfl]; exact q5 k hk
    · show 0 ≤ za s' 112 k ∧ za s' 112 k ≤ 1280 ∧ 0 ≤ za s' 113 k ∧ za s' 113 k ≤ za s' 112 k ∧ pE s' k 0
      unfold pE
      rw [f.a 112 k rfl, f.a 113 k rfl]
      obtain ⟨r1, r2, r3, r4, r5⟩ := q6 k hk
      refine ⟨r1, r2, r3, r4, fun p h1 h2 => ?_⟩
      rw [f.a 110 _ rfl]
      exact r5 p h1 h2
  exact ⟨by omega, by omega, h3.2.2⟩
