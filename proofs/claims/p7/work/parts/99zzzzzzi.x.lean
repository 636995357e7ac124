/-- how the reference stands at the start: the rules of its state hold -/
theorem pJ_0 {N : Int} (hN : 0 ≤ N) : pJ pS0 N := by
  refine ⟨⟨Int.le_refl _, hN, Or.inl rfl, Or.inl rfl, fun k _ => ⟨Int.le_refl _, (by decide : (0 : Int) ≤ 4096)⟩, fun k _ => ⟨Int.le_refl _, (by decide : (0 : Int) ≤ 1280), Int.le_refl _, Int.le_refl _, fun p h0 h1 => ?_⟩⟩, fun e => ⟨Int.le_refl _, (by decide : (0 : Int) ≤ 12000)⟩, Or.inl rfl, fun h => absurd rfl h⟩
  have h2 : p < 0 := h1
  omega
