theorem kw_294 : Cond.methodLink RX7 3 objectInit ∈ gWs := List.mem_filter.mpr ⟨gMt1 _ (List.mem_of_getElem? (i := 57) rfl), rfl⟩
theorem kw_295 : Cond.classLink RX7 9 RX4 ∈ gWs := List.mem_filter.mpr ⟨gMt1 _ (List.mem_of_getElem? (i := 58) rfl), rfl⟩
theorem nl_X7_9 : gNL RX7 9 4 3 [.int 0, .null, .int 0] := ⟨RX4, TX4, tyX4, rfl, inW_RX4, tyX4_ok, kw_295, kw_273, kw_239, by decide +kernel⟩
theorem kw_276 : Cond.code yX4_init cX4_init 2 none ∈ gWs := List.mem_filter.mpr ⟨gMt1 _ (List.mem_of_getElem? (i := 39) rfl), rfl⟩
theorem kw_297 : Cond.methodLink RX7 12 yX4_init ∈ gWs := List.mem_filter.mpr ⟨gMt1 _ (List.mem_of_getElem? (i := 60) rfl), rfl⟩
theorem kw_275 : Cond.instanceMethod yX4_init ∈ gWs := List.mem_filter.mpr ⟨gMt1 _ (List.mem_of_getElem? (i := 38) rfl), rfl⟩
theorem cl_X7_12 : gCI RX7 12 yX4_init cX4_init 2 1 := ⟨gWs_all kw_276, kw_239, kw_297, kw_275, rfl, ⟨by decide +kernel, by decide +kernel, by decide +kernel⟩⟩
theorem kw_337 : Cond.methodLink RX10 3 objectInit ∈ gWs := List.mem_filter.mpr ⟨gMt1 _ (List.mem_of_getElem? (i := 100) rfl), rfl⟩
theorem kw_338 : Cond.classLink RX10 9 RX4 ∈ gWs := List.mem_filter.mpr ⟨gMt1 _ (List.mem_of_getElem? (i := 101) rfl), rfl⟩
theorem nl_X10_9 : gNL RX10 9 4 3 [.int 0, .null, .int 0] := ⟨RX4, TX4, tyX4, rfl, inW_RX4, tyX4_ok, kw_338, kw_273, kw_239, by decide +kernel⟩
theorem kw_340 : Cond.methodLink RX10 12 yX4_init ∈ gWs := List.mem_filter.mpr ⟨gMt1 _ (List.mem_of_getElem? (i := 103) rfl), rfl⟩
theorem cl_X10_12 : gCI RX10 12 yX4_init cX4_init 2 1 := ⟨gWs_all kw_276, kw_239, kw_340, kw_275, rfl, ⟨by decide +kernel, by decide +kernel, by decide +kernel⟩⟩
theorem kw_339 : Cond.constant RX10 11 1000000 ∈ gWs := List.mem_filter.mpr ⟨gMt1 _ (List.mem_of_getElem? (i := 102) rfl), rfl⟩
theorem kw_583 : Cond.methodLink RX9 3 objectInit ∈ gWs := List.mem_filter.mpr ⟨gMt2 _ (List.mem_of_getElem? (i := 106) rfl), rfl⟩
theorem kw_584 : Cond.classLink RX9 9 RX4 ∈ gWs := List.mem_filter.mpr ⟨gMt2 _ (List.mem_of_getElem? (i := 107) rfl), rfl⟩
theorem nl_X9_9 : gNL RX9 9 4 3 [.int 0, .null, .int 0] := ⟨RX4, TX4, tyX4, rfl, inW_RX4, tyX4_ok, kw_584, kw_273, kw_239, by decide +kernel⟩
theorem kw_586 : Cond.methodLink RX9 12 yX4_init ∈ gWs := List.mem_filter.mpr ⟨gMt2 _ (List.mem_of_getElem? (i := 109) rfl), rfl⟩
theorem cl_X9_12 : gCI RX9 12 yX4_init cX4_init 2 1 := ⟨gWs_all kw_276, kw_239, kw_586, kw_275, rfl, ⟨by decide +kernel, by decide +kernel, by decide +kernel⟩⟩
theorem kw_585 : Cond.constant RX9 11 1000000 ∈ gWs := List.mem_filter.mpr ⟨gMt2 _ (List.mem_of_getElem? (i := 108) rfl), rfl⟩
theorem kw_617 : Cond.methodLink RX2 3 objectInit ∈ gWs := List.mem_filter.mpr ⟨gMt2 _ (List.mem_of_getElem? (i := 140) rfl), rfl⟩
theorem kw_618 : Cond.classLink RX2 9 RX4 ∈ gWs := List.mem_filter.mpr ⟨gMt2 _ (List.mem_of_getElem? (i := 141) rfl), rfl⟩
theorem nl_X2_9 : gNL RX2 9 4 3 [.int 0, .null, .int 0] := ⟨RX4, TX4, tyX4, rfl, inW_RX4, tyX4_ok, kw_618, kw_273, kw_239, by decide +kernel⟩
theorem kw_620 : Cond.methodLink RX2 12 yX4_init ∈ gWs := List.mem_filter.mpr ⟨gMt2 _ (List.mem_of_getElem? (i := 143) rfl), rfl⟩
theorem cl_X2_12 : gCI RX2 12 yX4_init cX4_init 2 1 := ⟨gWs_all kw_276, kw_239, kw_620, kw_275, rfl, ⟨by decide +kernel, by decide +kernel, by decide +kernel⟩⟩
theorem kw_737 : Cond.methodLink RX3 3 objectInit ∈ gWs := List.mem_filter.mpr ⟨gMt3 _ (List.mem_of_getElem? (i := 20) rfl), rfl⟩
theorem kw_738 : Cond.classLink RX3 9 RX4 ∈ gWs := List.mem_filter.mpr ⟨gMt3 _ (List.mem_of_getElem? (i := 21) rfl), rfl⟩
theorem nl_X3_9 : gNL RX3 9 4 3 [.int 0, .null, .int 0] := ⟨RX4, TX4, tyX4, rfl, inW_RX4, tyX4_ok, kw_738, kw_273, kw_239, by decide +kernel⟩
theorem kw_739 : Cond.methodLink RX3 11 yX4_init ∈ gWs := List.mem_filter.mpr ⟨gMt3 _ (List.mem_of_getElem? (i := 22) rfl), rfl⟩
theorem cl_X3_11 : gCI RX3 11 yX4_init cX4_init 2 1 := ⟨gWs_all kw_276, kw_239, kw_739, kw_275, rfl, ⟨by decide +kernel, by decide +kernel, by decide +kernel⟩⟩
theorem kw_574 : Cond.methodLink RX1 3 objectInit ∈ gWs := List.mem_filter.mpr ⟨gMt2 _ (List.mem_of_getElem? (i := 97) rfl), rfl⟩
theorem kw_575 : Cond.classLink RX1 9 RX4 ∈ gWs := List.mem_filter.mpr ⟨gMt2 _ (List.mem_of_getElem? (i := 98) rfl), rfl⟩
theorem nl_X1_9 : gNL RX1 9 4 3 [.int 0, .null, .int 0] := ⟨RX4, TX4, tyX4, rfl, inW_RX4, tyX4_ok, kw_575, kw_273, kw_239, by decide +kernel⟩
theorem kw_577 : Cond.methodLink RX1 12 yX4_init ∈ gWs := List.mem_filter.mpr ⟨gMt2 _ (List.mem_of_getElem? (i := 100) rfl), rfl⟩
theorem cl_X1_12 : gCI RX1 12 yX4_init cX4_init 2 1 := ⟨gWs_all kw_276, kw_239, kw_577, kw_275, rfl, ⟨by decide +kernel, by decide +kernel, by decide +kernel⟩⟩
theorem kw_578 : Cond.classLink RX1 73 RX9 ∈ gWs := List.mem_filter.mpr ⟨gMt2 _ (List.mem_of_getElem? (i := 101) rfl), rfl⟩
theorem nl_X1_73 : gNL RX1 73 9 8 [.null, .null, .null, .null, .null, .null, .null, .int 0] := ⟨RX9, TX9, tyX9, rfl, inW_RX9, tyX9_ok, kw_578, kw_579, kw_252, by decide +kernel⟩
theorem kw_582 : Cond.code yX9_init cX9_init 2 none ∈ gWs := List.mem_filter.mpr ⟨gMt2 _ (List.mem_of_getElem? (i := 105) rfl), rfl⟩
theorem kw_580 : Cond.methodLink RX1 75 yX9_init ∈ gWs := List.mem_filter.mpr ⟨gMt2 _ (List.mem_of_getElem? (i := 103) rfl), rfl⟩
theorem kw_581 : Cond.instanceMethod yX9_init ∈ gWs := List.mem_filter.mpr ⟨gMt2 _ (List.mem_of_getElem? (i := 104) rfl), rfl⟩
theorem cl_X1_75 : gCI RX1 75 yX9_init cX9_init 2 1 := ⟨gWs_all kw_582, kw_252, kw_580, kw_581, rfl, ⟨by decide +kernel, by decide +kernel, by decide +kernel⟩⟩
theorem kw_612 : Cond.classLink RX1 82 RX2 ∈ gWs := List.mem_filter.mpr ⟨gMt2 _ (List.mem_of_getElem? (i := 135) rfl), rfl⟩
theorem nl_X1_82 : gNL RX1 82 2 7 [.null, .null, .null, .null, .int 0, .int 0, .int 0] := ⟨RX2, TX2, tyX2, rfl, inW_RX2, tyX2_ok, kw_612, kw_613, kw_253, by decide +kernel⟩
theorem kw_616 : Cond.code yX2_init cX2_init 4 none ∈ gWs := List.mem_filter.mpr ⟨gMt2 _ (List.mem_of_getElem? (i := 139) rfl), rfl⟩
theorem kw_614 : Cond.methodLink RX1 84 yX2_init ∈ gWs := List.mem_filter.mpr ⟨gMt2 _ (List.mem_of_getElem? (i := 137) rfl), rfl⟩
theorem kw_615 : Cond.instanceMethod yX2_init ∈ gWs := List.mem_filter.mpr ⟨gMt2 _ (List.mem_of_getElem? (i := 138) rfl), rfl⟩
theorem cl_X1_84 : gCI RX1 84 yX2_init cX2_init 4 3 := ⟨gWs_all kw_616, kw_253, kw_614, kw_615, rfl, ⟨by decide +kernel, by decide +kernel, by decide +kernel⟩⟩
theorem kw_731 : Cond.methodLink RX5 3 objectInit ∈ gWs := List.mem_filter.mpr ⟨gMt3 _ (List.mem_of_getElem? (i := 14) rfl), rfl⟩
theorem kw_732 : Cond.classLink RX5 9 RX3 ∈ gWs := List.mem_filter.mpr ⟨gMt3 _ (List.mem_of_getElem? (i := 15) rfl), rfl⟩
theorem nl_X5_9 : gNL RX5 9 3 2 [.null, .null] := ⟨RX3, TX3, tyX3, rfl, inW_RX3, tyX3_ok, kw_732, kw_733, kw_256, by decide +kernel⟩
theorem kw_736 : Cond.code yX3_init cX3_init 1 none ∈ gWs := List.mem_filter.mpr ⟨gMt3 _ (List.mem_of_getElem? (i := 19) rfl), rfl⟩
theorem kw_735 : Cond.instanceMethod yX3_init ∈ gWs := List.mem_filter.mpr ⟨gMt3 _ (List.mem_of_getElem? (i := 18) rfl), rfl⟩
theorem cl_X5_11 : gCIN RX5 11 3 yX3_init cX3_init 1 0 := ⟨_, rfl, gWs_all kw_736, kw_256, kw_735, rfl, ⟨by decide +kernel, by decide +kernel, by decide +kernel⟩⟩
theorem kw_747 : Cond.classLink RX5 18 RX4 ∈ gWs := List.mem_filter.mpr ⟨gMt3 _ (List.mem_of_getElem? (i := 30) rfl), rfl⟩
theorem nl_X5_18 : gNL RX5 18 4 3 [.int 0, .null, .int 0] := ⟨RX4, TX4, tyX4, rfl, inW_RX4, tyX4_ok, kw_747, kw_273, kw_239, by decide +kernel⟩
theorem kw_749 : Cond.methodLink RX5 21 yX4_init ∈ gWs := List.mem_filter.mpr ⟨gMt3 _ (List.mem_of_getElem? (i := 32) rfl), rfl⟩
theorem cl_X5_21 : gCI RX5 21 yX4_init cX4_init 2 1 := ⟨gWs_all kw_276, kw_239, kw_749, kw_275, rfl, ⟨by decide +kernel, by decide +kernel, by decide +kernel⟩⟩
theorem kw_706 : Cond.methodLink RX0 3 objectInit ∈ gWs := List.mem_filter.mpr ⟨gMt2 _ (List.mem_of_getElem? (i := 229) rfl), rfl⟩
theorem kw_707 : Cond.classLink RX0 9 RX4 ∈ gWs := List.mem_filter.mpr ⟨gMt2 _ (List.mem_of_getElem? (i := 230) rfl), rfl⟩
theorem nl_X0_9 : gNL RX0 9 4 3 [.int 0, .null, .int 0] := ⟨RX4, TX4, tyX4, rfl, inW_RX4, tyX4_ok, kw_707, kw_273, kw_239, by decide +kernel⟩
theorem kw_709 : Cond.methodLink RX0 11 yX4_init ∈ gWs := List.mem_filter.mpr ⟨gMt2 _ (List.mem_of_getElem? (i := 232) rfl), rfl⟩
theorem cl_X0_11 : gCI RX0 11 yX4_init cX4_init 2 1 := ⟨gWs_all kw_276, kw_239, kw_709, kw_275, rfl, ⟨by decide +kernel, by decide +kernel, by decide +kernel⟩⟩
/-- everything told stays told; all but t stays as it is -/
def gEx (t : Nat) (F F' : gM) : Prop := ∀ x, F x ≠ g0 → F' x ≠ g0 ∧ (x ≠ t → F' x = F x)
theorem gEx.rf {t : Nat} {F : gM} : gEx t F F := fun _ h => ⟨h, fun _ => rfl⟩
theorem gEx.tr {t : Nat} {F F1 F2 : gM} (h : gEx t F F1) (h2 : gEx t F1 F2) : gEx t F F2 := fun x hx => ⟨(h2 x (h x hx).1).1, fun e => ((h2 x (h x hx).1).2 e).trans ((h x hx).2 e)⟩
theorem gEx.up {t a : Nat} {F : gM} {e : va_E} (h : F a = g0 ∨ a = t) (he : e ≠ g0) : gEx t F (va_up F a e) := fun x hx => by
  by_cases c : x = a
  · subst c
    rw [va_up_self]
    exact ⟨he, fun z => h.elim (fun q => absurd q hx) (fun q => absurd q z)⟩
  · rw [va_up_ne _ _ c]
    exact ⟨hx, fun _ => rfl⟩
/-- a callee's own: it may change a, new since F -/
theorem gEx.call {t a : Nat} {F F1 F2 : gM} (h : gEx t F F1) (ha : F a = g0) (h2 : gEx a F1 F2) : gEx t F F2 := fun x hx => ⟨(h2 x (h x hx).1).1, fun e => ((h2 x (h x hx).1).2 (fun z => hx (by rw [z]; exact ha))).trans ((h x hx).2 e)⟩
theorem gEx.g0 {t a : Nat} {F F1 : gM} (h : gEx t F F1) (h1 : F1 a = g0) : F a = g0 := Classical.byContradiction fun q => (h a q).1 h1
/-- what a new cell is: 0 an empty row, 1 a row, 2 an array of 0s -/
def gNk (d : gD) (F' : gM) (p : Nat × Nat × Nat × Nat) : Prop := (p.2.2.2 = 0 ∧ gIn d F' p.1 p.2.1 p.2.2.1 16 0 (fun _ => 0)) ∨ (p.2.2.2 = 1 ∧ ∃ n z f, gIn d F' p.1 p.2.1 p.2.2.1 n z f) ∨ (p.2.2.2 = 2 ∧ p.1 = p.2.1 ∧ F' p.2.1 = .inl (gI d, p.2.2.1, .inl (fun _ => 0)))
/-- cells made since F: (where, the row's cells, the most, what) -/
def gNw (d : gD) (F F' : gM) (L : List (Nat × Nat × Nat × Nat)) : Prop :=
  (∀ p ∈ L, gNk d F' p ∧ F p.1 = g0 ∧ F p.2.1 = g0) ∧ (L.map (fun p => p.1)).Nodup ∧ (L.map (fun p => p.2.1)).Nodup
theorem gNw.nil {d : gD} {F F' : gM} : gNw d F F' [] := ⟨fun p h => absurd h List.not_mem_nil, List.nodup_nil, List.nodup_nil⟩
theorem gIn.kept {d : gD} {F F' : gM} {a q mo n z : Nat} {f : Nat → Int32} (h : gIn d F a q mo n z f) (h1 : F' a = F a) (h2 : F' q = F q) : gIn d F' a q mo n z f := ⟨h1.trans h.1, h2.trans h.2.1, h.2.2⟩
theorem gIn.na {d : gD} {F : gM} {a q mo n z : Nat} {f : Nat → Int32} (h : gIn d F a q mo n z f) : F a ≠ g0 ∧ F q ≠ g0 := ⟨by rw [h.1]; exact g0_o, by rw [h.2.1]; exact g0_a⟩
theorem gNk.na {d : gD} {F : gM} {p : Nat × Nat × Nat × Nat} (h : gNk d F p) : F p.1 ≠ g0 ∧ F p.2.1 ≠ g0 := by
  rcases h with ⟨-, h⟩ | ⟨-, n, z, f, h⟩ | ⟨-, e, h⟩
  · exact h.na
  · exact h.na
  · exact ⟨by rw [e, h]; exact g0_a, by rw [h]; exact g0_a⟩
theorem gNk.kept {d : gD} {F F' : gM} {p : Nat × Nat × Nat × Nat} (h : gNk d F p) (h1 : F' p.1 = F p.1) (h2 : F' p.2.1 = F p.2.1) : gNk d F' p := by
  rcases h with ⟨e, h⟩ | ⟨e, n, z, f, h⟩ | ⟨e, e2, h⟩
  · exact Or.inl ⟨e, h.kept h1 h2⟩
  · exact Or.inr (Or.inl ⟨e, n, z, f, h.kept h1 h2⟩)
  · exact Or.inr (Or.inr ⟨e, e2, h2.trans h⟩)
theorem gNk.nz {d : gD} {F : gM} {p : Nat × Nat × Nat × Nat} (h : gNk d F p) {z n : Nat} {r : (Nat → Int64) ⊕ (Nat → UInt32) ⊕ (Nat → UInt64) ⊕ (Nat → Option Nat)} {c : ClassId} (hz : F z = .inl (c, n, .inr r)) : p.1 ≠ z ∧ p.2.1 ≠ z := by
  rcases h with ⟨-, h⟩ | ⟨-, n, z, f, h⟩ | ⟨-, e, h⟩
  · exact ⟨gne h.1 hz gk_oa, Ne.symm (gne hz h.2.1 gk_rl)⟩
  · exact ⟨gne h.1 hz gk_oa, Ne.symm (gne hz h.2.1 gk_rl)⟩
  · exact ⟨by rw [e]; exact Ne.symm (gne hz h gk_rl), Ne.symm (gne hz h gk_rl)⟩
theorem gNw.app {d : gD} {t : Nat} {F F1 F2 F3 : gM} {L L2 : List (Nat × Nat × Nat × Nat)} (h : gNw d F F1 L) (e1 : gEx t F F1) (ht : F t ≠ g0) (h2 : gNw d F2 F3 L2) (e2 : ∀ x, F1 x ≠ g0 → F2 x ≠ g0) (e3 : ∀ x, x ≠ t → F1 x ≠ g0 → (∃ p ∈ L, x = p.1 ∨ x = p.2.1) → F3 x = F1 x) : gNw d F F3 (L ++ L2) := by
  have nt : ∀ p ∈ L, p.1 ≠ t ∧ p.2.1 ≠ t := fun p hp => ⟨fun e => ht (by rw [← e]; exact (h.1 p hp).2.1), fun e => ht (by rw [← e]; exact (h.1 p hp).2.2)⟩
  have back : ∀ x, F2 x = g0 → F x = g0 := fun x hx => Classical.byContradiction fun q => e2 x (e1 x q).1 hx
  refine ⟨fun p hp => ?_, ?_, ?_⟩
  · rcases List.mem_append.mp hp with hp | hp
    · obtain ⟨h3, h4⟩ := h.1 p hp
      exact ⟨h3.kept (e3 _ (nt p hp).1 h3.na.1 ⟨p, hp, Or.inl rfl⟩) (e3 _ (nt p hp).2 h3.na.2 ⟨p, hp, Or.inr rfl⟩), h4⟩
    · obtain ⟨h3, h4, h5⟩ := h2.1 p hp
      exact ⟨h3, back _ h4, back _ h5⟩
  · rw [List.map_append, List.nodup_append]
    refine ⟨h.2.1, h2.2.1, fun x hx y hy e => ?_⟩
    obtain ⟨p, hp, rfl⟩ := List.mem_map.mp hx
    obtain ⟨q, hq, rfl⟩ := List.mem_map.mp hy
    exact e2 _ (h.1 p hp).1.na.1 (by rw [show p.1 = q.1 from e]; exact (h2.1 q hq).2.1)
  · rw [List.map_append, List.nodup_append]
    refine ⟨h.2.2, h2.2.2, fun x hx y hy e => ?_⟩
    obtain ⟨p, hp, rfl⟩ := List.mem_map.mp hx
    obtain ⟨q, hq, rfl⟩ := List.mem_map.mp hy
    exact e2 _ (h.1 p hp).1.na.2 (by rw [show p.2.1 = q.2.1 from e]; exact (h2.1 q hq).2.2)
/-- a constructor at work on t, begun at F -/
def gCn (d : gD) (t ci : Nat) (F F' : gM) (fs : List Value) (L : List (Nat × Nat × Nat × Nat)) : Prop := F' t = .inr (ci, fs) ∧ F t ≠ g0 ∧ gEx t F F' ∧ gNw d F F' L
theorem gCn.put {d : gD} {t ci : Nat} {F F1 F2 : gM} {fs : List Value} {v : Value} {fs2 : List Value} {L : List (Nat × Nat × Nat × Nat)} (h : gCn d t ci F F1 fs L) (hF : F2 = va_up F1 t (.inr (ci, v :: fs2))) : gCn d t ci F F2 (v :: fs2) L := by
  have e : gEx t F1 F2 := by rw [hF]; exact gEx.up (Or.inr rfl) g0_o
  refine ⟨by rw [hF]; exact va_up_self _ _ _, h.2.1, h.2.2.1.tr e, ?_⟩
  have q := h.2.2.2.app (F2 := F1) (F3 := F2) (L2 := []) h.2.2.1 h.2.1 gNw.nil (fun _ z => z) (fun x hx hn _ => (e x hn).2 hx)
  rw [List.append_nil] at q
  exact q
theorem gNw.one {d : gD} {F F' : gM} {p : Nat × Nat × Nat × Nat} (h : gNk d F' p) (h1 : F p.1 = g0) (h2 : F p.2.1 = g0) : gNw d F F' [p] := ⟨fun q hq => by
  cases List.mem_singleton.mp hq
  exact ⟨h, h1, h2⟩, List.nodup_cons.mpr ⟨List.not_mem_nil, List.nodup_nil⟩, List.nodup_cons.mpr ⟨List.not_mem_nil, List.nodup_nil⟩⟩
/-- cells come, none of the old ones changes -/
theorem gCn.more {d : gD} {t ci : Nat} {F F1 F2 F3 : gM} {fs : List Value} {L L2 : List (Nat × Nat × Nat × Nat)} (h : gCn d t ci F F1 fs L) (e2 : ∀ x, F1 x ≠ g0 → F2 x ≠ g0) (e3 : ∀ x, F1 x ≠ g0 → F3 x = F1 x) (h2 : gNw d F2 F3 L2) : gCn d t ci F F3 fs (L ++ L2) :=
  ⟨(e3 t (by rw [h.1]; exact fun z => h.2.1 (by
    have := (h.2.2.1 t h.2.1).1
    rw [h.1] at this
    exact absurd z this))).trans h.1, h.2.1, h.2.2.1.tr (fun x hx => ⟨by rw [e3 x hx]; exact hx, fun _ => e3 x hx⟩), h.2.2.2.app h.2.2.1 h.2.1 h2 e2 (fun x _ hn _ => e3 x hn)⟩
theorem gCn.newz {d : gD} {t ci z : Nat} {F F1 F2 : gM} {fs : List Value} {L : List (Nat × Nat × Nat × Nat)} {e : va_E} (h : gCn d t ci F F1 fs L) (hz : F1 z = g0) (hF : F2 = va_up F1 z e) : gCn d t ci F F2 fs L ∧ ∀ x, F1 x ≠ g0 → F2 x = F1 x := by
  have k : ∀ x, F1 x ≠ g0 → F2 x = F1 x := fun x hx => by rw [hF, va_up_ne _ _ (fun q => hx (by rw [q]; exact hz))]
  have q := h.more (F2 := F2) (F3 := F2) (L2 := []) (fun x hx => by rw [k x hx]; exact hx) k gNw.nil
  rw [List.append_nil] at q
  exact ⟨q, k⟩
theorem gCn.arr {d : gD} {t ci q n : Nat} {F F1 F2 : gM} {fs : List Value} {L : List (Nat × Nat × Nat × Nat)} (h : gCn d t ci F F1 fs L) (hq : F1 q = g0) (hF : F2 = va_up F1 q (.inl (gI d, n, .inl (fun _ => 0)))) : gCn d t ci F F2 fs (L ++ [(q, q, n, 2)]) ∧ ∀ x, F1 x ≠ g0 → F2 x = F1 x := by
  have k : ∀ x, F1 x ≠ g0 → F2 x = F1 x := fun x hx => by rw [hF, va_up_ne _ _ (fun z => hx (by rw [z]; exact hq))]
  exact ⟨h.more (F2 := F1) (fun _ z => z) k (gNw.one (Or.inr (Or.inr ⟨rfl, rfl, by rw [hF]; exact va_up_self _ _ _⟩)) hq hq), k⟩
theorem gCn.ints {d : gD} {t ci a mo : Nat} {F F1 F2 F3 : gM} {fs : List Value} {L : List (Nat × Nat × Nat × Nat)} {e : va_E} (h : gCn d t ci F F1 fs L) (ha : F1 a = g0) (hF : F2 = va_up F1 a e) (he : e ≠ g0) (hp : ∃ q : Nat, F2 q = g0 ∧ gIn d F3 a q mo 16 0 (fun _ => 0) ∧ ∀ x : Nat, x ≠ a → F2 x ≠ g0 → F3 x = F2 x) : ∃ q : Nat, gCn d t ci F F3 fs (L ++ [(a, q, mo, 0)]) ∧ F1 q = g0 ∧ gIn d F3 a q mo 16 0 (fun _ => 0) ∧ ∀ x, F1 x ≠ g0 → F3 x = F1 x := by
  obtain ⟨q, hq, hin, hk⟩ := hp
  have hqa : q ≠ a := fun z => by rw [z, hF, va_up_self] at hq; exact he hq
  have hq1 : F1 q = g0 := by rw [hF, va_up_ne _ _ hqa] at hq; exact hq
  have k : ∀ x, F1 x ≠ g0 → F3 x = F1 x := fun x hx => by
    have hxa : x ≠ a := fun z => hx (by rw [z]; exact ha)
    have e1 : F2 x = F1 x := by rw [hF, va_up_ne _ _ hxa]
    exact (hk x hxa (by rw [e1]; exact hx)).trans e1
  exact ⟨q, h.more (F2 := F1) (fun _ z => z) k (gNw.one (Or.inl ⟨rfl, hin⟩) ha hq1), hq1, hin, k⟩
theorem gCn.call {d : gD} {t ci a c2 : Nat} {F F1 F2 F3 : gM} {fs fs2 : List Value} {L L2 : List (Nat × Nat × Nat × Nat)} {e : va_E} (h : gCn d t ci F F1 fs L) (ha : F1 a = g0) (hF : F2 = va_up F1 a e) (he : e ≠ g0) (h2 : gCn d a c2 F2 F3 fs2 L2) : gCn d t ci F F3 fs (L ++ L2) ∧ ∀ x, F1 x ≠ g0 → F3 x = F1 x := by
  have k1 : ∀ x, F1 x ≠ g0 → F2 x = F1 x := fun x hx => by rw [hF, va_up_ne _ _ (fun z => hx (by rw [z]; exact ha))]
  have k : ∀ x, F1 x ≠ g0 → F3 x = F1 x := fun x hx => ((h2.2.2.1 x (by rw [k1 x hx]; exact hx)).2 (fun z => hx (by rw [z]; exact ha))).trans (k1 x hx)
  exact ⟨h.more (F2 := F2) (fun x hx => by rw [k1 x hx]; exact hx) k h2.2.2.2, k⟩
theorem gCn.upz {d : gD} {t ci z n n2 : Nat} {F F1 F2 : gM} {fs : List Value} {L : List (Nat × Nat × Nat × Nat)} {r r2 : (Nat → Int64) ⊕ (Nat → UInt32) ⊕ (Nat → UInt64) ⊕ (Nat → Option Nat)} (h : gCn d t ci F F1 fs L) (hz : F1 z = .inl (gO d, n, .inr r)) (h0 : F z = g0) (hF : F2 = va_up F1 z (.inl (gO d, n2, .inr r2))) : gCn d t ci F F2 fs L ∧ ∀ x, x ≠ z → F2 x = F1 x := by
  have k : ∀ x, x ≠ z → F2 x = F1 x := fun x hx => by rw [hF, va_up_ne _ _ hx]
  have ht : t ≠ z := gne h.1 hz gk_oa
  have q := h.2.2.2.app (F2 := F1) (F3 := F2) (L2 := []) h.2.2.1 h.2.1 gNw.nil (fun _ z => z) (fun x _ _ hp => by
    obtain ⟨p, hp, e⟩ := hp
    have h3 := (h.2.2.2.1 p hp).1.nz hz
    rcases e with rfl | rfl
    · exact k _ h3.1
    · exact k _ h3.2)
  rw [List.append_nil] at q
  exact ⟨⟨(k t ht).trans h.1, h.2.1, fun x hx => ⟨by rw [k x (fun e => hx (by rw [e]; exact h0))]; exact (h.2.2.1 x hx).1, fun hxt => (k x (fun e => hx (by rw [e]; exact h0))).trans ((h.2.2.1 x hx).2 hxt)⟩, q⟩, k⟩
section GC
variable {own : String} {cc : ByteArray} {nL : Nat} {rt : Option FieldType} {R : Room} {d : gD} {b : Nat} {X : gX} {Q : State → Prop} {F F0 : gM} {k n pc : Nat} {lv : List (Option Value)} {st : List Value} {lw mc ms : Nat}
theorem g_putC (hC : gC own cc nL rt "<init>" R d b X) {t ci idx j : Nat} {ty : FieldType} {fin : Bool} {v0 v : Value} {fs fs2 : List Value} {L : List (Nat × Nat × Nat × Nat)} {v2 : Value} (h : gCn d t ci F0 F (v0 :: fs) L) (hl : gFL own idx ci j ty fin) (hn : narrow ty v = v) (hfit : fits ty v = true) (hj : j < (v0 :: fs).length) (hs : (v0 :: fs).set j v = v2 :: fs2) (hdg : decode cc pc = .ok (.putfield idx, 3))
    (kk : ∀ F' : gM, gCn d t ci F0 F' (v2 :: fs2) L → (∀ x, x ≠ t → F' x = F x) → gG X d b Q F' k n (pc + 3) lv st) : gG X d b Q F k n pc lv (v :: .ref t :: st) := by
  cases fin with
  | false =>
    refine g_put hC hl h.1 hn hfit hj hdg (g_vF (fun F' e => ?_))
    rw [hs] at e
    exact kk F' (h.put e) (fun x hx => by rw [e, va_up_ne _ _ hx])
  | true =>
    refine g_putF hC hl h.1 hn hfit hj hdg (g_vF (fun F' e => ?_))
    rw [hs] at e
    exact kk F' (h.put e) (fun x hx => by rw [e, va_up_ne _ _ hx])
/-- new Ints(mo), put -/
theorem g_newInts (mo : Nat) (hC : gC own cc nL rt "<init>" (gR lw mc ms) d b X) {t ci iN iI iF j c : Nat} {ty : FieldType} {fin : Bool} {v0 : Value} {fs : List Value} {L : List (Nat × Nat × Nat × Nat)} (h : gCn d t ci F0 F (v0 :: fs) L) (hlv : lv[0]? = some (some (.ref t))) (hn : nL = lv.length) (hm : 16 ≤ mo) (hM : mo ≤ 1000000)
    (d0 : decode cc pc = .ok (.aload_n 0, 1)) (d1 : decode cc (pc + 1) = .ok (.new iN, 3)) (d4 : decode cc (pc + 1 + 3) = .ok (.dup, 1)) (hc : ∀ (F' : gM) (k' n' : Nat) (st' : List Value), gG X d b Q F' k' n' (pc + 1 + 3 + 1 + c) lv (.int (nI mo) :: st') → gG X d b Q F' k' n' (pc + 1 + 3 + 1) lv st') (d5 : decode cc (pc + 1 + 3 + 1 + c) = .ok (.invokespecial iI, 3)) (d6 : decode cc (pc + 1 + 3 + 1 + c + 3) = .ok (.putfield iF, 3))
    (hN : gNL own iN 4 3 [.int 0, .null, .int 0]) (hI : gCI own iI yX4_init cX4_init 2 1) (hl : gFL own iF ci j ty fin) (hty : ∀ a : Nat, narrow ty (.ref a) = .ref a ∧ fits ty (.ref a) = true) (hj : j < (v0 :: fs).length) (hs : ∀ a : Nat, ∃ v2 fs2, (v0 :: fs).set j (.ref a) = v2 :: fs2) (hk : k + 2 ≤ mc) (hsl : n + 19 ≤ ms) (hw : 2 ≤ lw) (hst : (st.map fun v => v.category).sum ≤ 4)
    (kk : ∀ (a q : Nat) (F' : gM), gCn d t ci F0 F' ((v0 :: fs).set j (.ref a)) (L ++ [(a, q, mo, 0)]) → F a = g0 → (∀ x, x ≠ t → F x ≠ g0 → F' x = F x) → gG X d b Q F' (k + 2) (n + 19) (pc + 11 + c) lv st) : gG X d b Q F k n pc lv st := by
  refine g_aload_n hC d0 hlv ?_
  refine g_new hC hN (gRc (Nat.le_trans (by omega) hk)) (gRs (Nat.le_trans (by omega) hsl)) d1 (fun a ha => ?_)
  refine g_dup hC d4 rfl ?_
  refine hc _ _ _ _ ?_
  have hta : t ≠ a := gne h.1 ha g0_o
  refine g_callIv (As := [.int (nI mo)]) hC (c_Ints_init X.la d b _ a mo (va_up_self _ _ _) hm hM) hI rfl hn (by
    show 1 + (1 + (st.map fun v => v.category).sum) ≤ 8
    omega) (gFit_of hw (by decide) (by omega) (by omega)) d5 (fun F2 hp => ?_)
  obtain ⟨q, hq, hin, hkeep⟩ := hp
  have hF2t : F2 t = .inr (ci, v0 :: fs) := (hkeep t hta (by rw [va_up_ne _ _ hta, h.1]; exact g0_o)).trans ((va_up_ne _ _ hta).trans h.1)
  have hqF : F q = g0 := by
    have hne : q ≠ a := fun e => by rw [e, va_up_self] at hq; exact g0_o hq
    rw [va_up_ne _ _ hne] at hq
    exact hq
  have x1 : gEx t F F2 := fun x hx => by
    have hxa : x ≠ a := fun e => hx (by rw [e]; exact ha)
    have e1 : F2 x = F x := (hkeep x hxa (by rw [va_up_ne _ _ hxa]; exact hx)).trans (va_up_ne _ _ hxa)
    exact ⟨by rw [e1]; exact hx, fun _ => e1⟩
  have hnw : gNw d F F2 [(a, q, mo, 0)] := gNw.one (Or.inl ⟨rfl, hin⟩) ha hqF
  have hcn : gCn d t ci F0 F2 (v0 :: fs) (L ++ [(a, q, mo, 0)]) := ⟨hF2t, h.2.1, h.2.2.1.tr x1, h.2.2.2.app h.2.2.1 h.2.1 hnw (fun _ z => z) (fun x _ hn _ => by
    have hxa : x ≠ a := fun e => hn (by rw [e]; exact ha)
    exact (hkeep x hxa (by rw [va_up_ne _ _ hxa]; exact hn)).trans (va_up_ne _ _ hxa))⟩
  obtain ⟨v2, fs2, e2⟩ := hs a
  refine g_putC hC hcn hl (hty a).1 (hty a).2 hj e2 d6 (fun F3 h3 h4 => ?_)
  rw [← e2] at h3
  have e9 : pc + 1 + 3 + 1 + c + 3 + 3 = pc + 11 + c := by omega
  rw [e9]
  exact g_kn rfl rfl (kk a q F3 h3 ha (fun x hx hn => (h4 x hx).trans ((x1 x hn).2 hx)))
end GC
theorem dX7_init_0 : decode cX7_init 0 = .ok (.aload_n 0, 1) := by decide +kernel
theorem dX7_init_1 : decode cX7_init 1 = .ok (.invokespecial 3, 3) := by decide +kernel
theorem dX7_init_4 : decode cX7_init 4 = .ok (.aload_n 0, 1) := by decide +kernel
theorem dX7_init_5 : decode cX7_init 5 = .ok (.new 9, 3) := by decide +kernel
theorem dX7_init_8 : decode cX7_init 8 = .ok (.dup, 1) := by decide +kernel
theorem dX7_init_9 : decode cX7_init 9 = .ok (.ldc 11, 2) := by decide +kernel
theorem dX7_init_11 : decode cX7_init 11 = .ok (.invokespecial 12, 3) := by decide +kernel
theorem dX7_init_14 : decode cX7_init 14 = .ok (.putfield 15, 3) := by decide +kernel
theorem dX7_init_17 : decode cX7_init 17 = .ok (.aload_n 0, 1) := by decide +kernel
theorem dX7_init_18 : decode cX7_init 18 = .ok (.new 9, 3) := by decide +kernel
theorem dX7_init_21 : decode cX7_init 21 = .ok (.dup, 1) := by decide +kernel
theorem dX7_init_22 : decode cX7_init 22 = .ok (.ldc 11, 2) := by decide +kernel
theorem dX7_init_24 : decode cX7_init 24 = .ok (.invokespecial 12, 3) := by decide +kernel
theorem dX7_init_27 : decode cX7_init 27 = .ok (.putfield 21, 3) := by decide +kernel
theorem dX7_init_30 : decode cX7_init 30 = .ok (.aload_n 0, 1) := by decide +kernel
theorem dX7_init_31 : decode cX7_init 31 = .ok (.new 9, 3) := by decide +kernel
theorem dX7_init_34 : decode cX7_init 34 = .ok (.dup, 1) := by decide +kernel
theorem dX7_init_35 : decode cX7_init 35 = .ok (.ldc 11, 2) := by decide +kernel
theorem dX7_init_37 : decode cX7_init 37 = .ok (.invokespecial 12, 3) := by decide +kernel
theorem dX7_init_40 : decode cX7_init 40 = .ok (.putfield 24, 3) := by decide +kernel
theorem dX7_init_43 : decode cX7_init 43 = .ok (.aload_n 0, 1) := by decide +kernel
theorem dX7_init_44 : decode cX7_init 44 = .ok (.new 9, 3) := by decide +kernel
theorem dX7_init_47 : decode cX7_init 47 = .ok (.dup, 1) := by decide +kernel
theorem dX7_init_48 : decode cX7_init 48 = .ok (.ldc 11, 2) := by decide +kernel
theorem dX7_init_50 : decode cX7_init 50 = .ok (.invokespecial 12, 3) := by decide +kernel
theorem dX7_init_53 : decode cX7_init 53 = .ok (.putfield 27, 3) := by decide +kernel
theorem dX7_init_56 : decode cX7_init 56 = .ok (.aload_n 0, 1) := by decide +kernel
theorem dX7_init_57 : decode cX7_init 57 = .ok (.new 9, 3) := by decide +kernel
theorem dX7_init_60 : decode cX7_init 60 = .ok (.dup, 1) := by decide +kernel
theorem dX7_init_61 : decode cX7_init 61 = .ok (.ldc 11, 2) := by decide +kernel
theorem dX7_init_63 : decode cX7_init 63 = .ok (.invokespecial 12, 3) := by decide +kernel
theorem dX7_init_66 : decode cX7_init 66 = .ok (.putfield 30, 3) := by decide +kernel
theorem dX7_init_69 : decode cX7_init 69 = .ok (.aload_n 0, 1) := by decide +kernel
theorem dX7_init_70 : decode cX7_init 70 = .ok (.new 9, 3) := by decide +kernel
theorem dX7_init_73 : decode cX7_init 73 = .ok (.dup, 1) := by decide +kernel
theorem dX7_init_74 : decode cX7_init 74 = .ok (.ldc 11, 2) := by decide +kernel
theorem dX7_init_76 : decode cX7_init 76 = .ok (.invokespecial 12, 3) := by decide +kernel
theorem dX7_init_79 : decode cX7_init 79 = .ok (.putfield 33, 3) := by decide +kernel
theorem dX7_init_82 : decode cX7_init 82 = .ok (.aload_n 0, 1) := by decide +kernel
theorem dX7_init_83 : decode cX7_init 83 = .ok (.sipush 4096, 3) := by decide +kernel
theorem dX7_init_86 : decode cX7_init 86 = .ok (.putfield 36, 3) := by decide +kernel
theorem dX7_init_89 : decode cX7_init 89 = .ok (.aload_n 0, 1) := by decide +kernel
theorem dX7_init_90 : decode cX7_init 90 = .ok (.iconst (-1), 1) := by decide +kernel
theorem dX7_init_91 : decode cX7_init 91 = .ok (.putfield 40, 3) := by decide +kernel
theorem dX7_init_94 : decode cX7_init 94 = .ok (.aload_n 0, 1) := by decide +kernel
theorem dX7_init_95 : decode cX7_init 95 = .ok (.iconst 0, 1) := by decide +kernel
theorem dX7_init_96 : decode cX7_init 96 = .ok (.putfield 43, 3) := by decide +kernel
theorem dX7_init_99 : decode cX7_init 99 = .ok (.aload_n 0, 1) := by decide +kernel
theorem dX7_init_100 : decode cX7_init 100 = .ok (.iconst 0, 1) := by decide +kernel
theorem dX7_init_101 : decode cX7_init 101 = .ok (.putfield 46, 3) := by decide +kernel
theorem dX7_init_104 : decode cX7_init 104 = .ok (.aload_n 0, 1) := by decide +kernel
theorem dX7_init_105 : decode cX7_init 105 = .ok (.iconst 0, 1) := by decide +kernel
theorem dX7_init_106 : decode cX7_init 106 = .ok (.putfield 49, 3) := by decide +kernel
theorem dX7_init_109 : decode cX7_init 109 = .ok (.return_, 1) := by decide +kernel
set_option maxHeartbeats 4000000 in
set_option maxRecDepth 100000 in
theorem k_P (l : Launch) (d : gD) (b : Nat) (F : gM) (t : Nat)  (h : F t = .inr (7, [.null, .null, .null, .null, .null, .null, .int 0, .int 0, .int 0, .int 0, .int 0]))  : gMv l d b yX7_init cX7_init 1 3 12 114 F [.ref t] (fun F' => ∃ a0 q1 a2 q3 a4 q5 a6 q7 a8 q9 a10 q11 : Nat, gCn d t 7 F F' [.ref a0, .ref a2, .ref a4, .ref a6, .ref a8, .ref a10, .int 4096, .int (-1), .int 0, .int 0, .int 0] [(a0, q1, 1000000, 0), (a2, q3, 1000000, 0), (a4, q5, 1000000, 0), (a6, q7, 1000000, 0), (a8, q9, 1000000, 0), (a10, q11, 1000000, 0)]) := by
  refine gM_of2 rfl (nL := 1) (Nat.le_of_ble_eq_true rfl) ?_
  intro X hX hC; subst hX
  show gG X d b _ F 0 0 0 [some (.ref t)] []
  have hcn : gCn d t 7 F F [.null, .null, .null, .null, .null, .null, .int 0, .int 0, .int 0, .int 0, .int 0] [] := ⟨h, by rw [h]; exact g0_o, gEx.rf, gNw.nil⟩
  refine g_aload_n hC dX7_init_0 rfl ?_
  refine g_objInit hC dX7_init_1 kw_294 rfl ⟨Nat.le_of_ble_eq_true rfl, Nat.le_of_ble_eq_true rfl⟩ (Nat.le_of_ble_eq_true rfl) ?_
  refine g_newInts 1000000 hC hcn rfl rfl (by decide) (by decide) dX7_init_4 dX7_init_5 dX7_init_8 (fun _ _ _ _ kk => g_ldc hC dX7_init_9 kw_296 kk) dX7_init_11 dX7_init_14 nl_X7_9 cl_X7_12 fl_X7_15 (fun _ => ⟨rfl, rfl⟩) (Nat.le_of_ble_eq_true rfl) (fun _ => ⟨_, _, rfl⟩) (by first | exact Nat.le_of_ble_eq_true rfl | omega | (simp only [gR]; omega)) (by first | exact Nat.le_of_ble_eq_true rfl | omega | (simp only [gR]; omega)) (Nat.le_of_ble_eq_true rfl) (Nat.le_of_ble_eq_true rfl) (fun a1 q2 F3 h4 e6 hx7 => ?_)
  have hcn5 : gCn d t 7 F F3 [.ref a1, .null, .null, .null, .null, .null, .int 0, .int 0, .int 0, .int 0, .int 0] [(a1, q2, 1000000, 0)] := h4
  refine g_newInts 1000000 hC hcn5 rfl rfl (by decide) (by decide) dX7_init_17 dX7_init_18 dX7_init_21 (fun _ _ _ _ kk => g_ldc hC dX7_init_22 kw_296 kk) dX7_init_24 dX7_init_27 nl_X7_9 cl_X7_12 fl_X7_21 (fun _ => ⟨rfl, rfl⟩) (Nat.le_of_ble_eq_true rfl) (fun _ => ⟨_, _, rfl⟩) (by first | exact Nat.le_of_ble_eq_true rfl | omega | (simp only [gR]; omega)) (by first | exact Nat.le_of_ble_eq_true rfl | omega | (simp only [gR]; omega)) (Nat.le_of_ble_eq_true rfl) (Nat.le_of_ble_eq_true rfl) (fun a8 q9 F10 h11 e13 hx14 => ?_)
  have hcn12 : gCn d t 7 F F10 [.ref a1, .ref a8, .null, .null, .null, .null, .int 0, .int 0, .int 0, .int 0, .int 0] [(a1, q2, 1000000, 0), (a8, q9, 1000000, 0)] := h11
  refine g_newInts 1000000 hC hcn12 rfl rfl (by decide) (by decide) dX7_init_30 dX7_init_31 dX7_init_34 (fun _ _ _ _ kk => g_ldc hC dX7_init_35 kw_296 kk) dX7_init_37 dX7_init_40 nl_X7_9 cl_X7_12 fl_X7_24 (fun _ => ⟨rfl, rfl⟩) (Nat.le_of_ble_eq_true rfl) (fun _ => ⟨_, _, rfl⟩) (by first | exact Nat.le_of_ble_eq_true rfl | omega | (simp only [gR]; omega)) (by first | exact Nat.le_of_ble_eq_true rfl | omega | (simp only [gR]; omega)) (Nat.le_of_ble_eq_true rfl) (Nat.le_of_ble_eq_true rfl) (fun a15 q16 F17 h18 e20 hx21 => ?_)
  have hcn19 : gCn d t 7 F F17 [.ref a1, .ref a8, .ref a15, .null, .null, .null, .int 0, .int 0, .int 0, .int 0, .int 0] [(a1, q2, 1000000, 0), (a8, q9, 1000000, 0), (a15, q16, 1000000, 0)] := h18
  refine g_newInts 1000000 hC hcn19 rfl rfl (by decide) (by decide) dX7_init_43 dX7_init_44 dX7_init_47 (fun _ _ _ _ kk => g_ldc hC dX7_init_48 kw_296 kk) dX7_init_50 dX7_init_53 nl_X7_9 cl_X7_12 fl_X7_27 (fun _ => ⟨rfl, rfl⟩) (Nat.le_of_ble_eq_true rfl) (fun _ => ⟨_, _, rfl⟩) (by first | exact Nat.le_of_ble_eq_true rfl | omega | (simp only [gR]; omega)) (by first | exact Nat.le_of_ble_eq_true rfl | omega | (simp only [gR]; omega)) (Nat.le_of_ble_eq_true rfl) (Nat.le_of_ble_eq_true rfl) (fun a22 q23 F24 h25 e27 hx28 => ?_)
  have hcn26 : gCn d t 7 F F24 [.ref a1, .ref a8, .ref a15, .ref a22, .null, .null, .int 0, .int 0, .int 0, .int 0, .int 0] [(a1, q2, 1000000, 0), (a8, q9, 1000000, 0), (a15, q16, 1000000, 0), (a22, q23, 1000000, 0)] := h25
  refine g_newInts 1000000 hC hcn26 rfl rfl (by decide) (by decide) dX7_init_56 dX7_init_57 dX7_init_60 (fun _ _ _ _ kk => g_ldc hC dX7_init_61 kw_296 kk) dX7_init_63 dX7_init_66 nl_X7_9 cl_X7_12 fl_X7_30 (fun _ => ⟨rfl, rfl⟩) (Nat.le_of_ble_eq_true rfl) (fun _ => ⟨_, _, rfl⟩) (by first | exact Nat.le_of_ble_eq_true rfl | omega | (simp only [gR]; omega)) (by first | exact Nat.le_of_ble_eq_true rfl | omega | (simp only [gR]; omega)) (Nat.le_of_ble_eq_true rfl) (Nat.le_of_ble_eq_true rfl) (fun a29 q30 F31 h32 e34 hx35 => ?_)
  have hcn33 : gCn d t 7 F F31 [.ref a1, .ref a8, .ref a15, .ref a22, .ref a29, .null, .int 0, .int 0, .int 0, .int 0, .int 0] [(a1, q2, 1000000, 0), (a8, q9, 1000000, 0), (a15, q16, 1000000, 0), (a22, q23, 1000000, 0), (a29, q30, 1000000, 0)] := h32
  refine g_newInts 1000000 hC hcn33 rfl rfl (by decide) (by decide) dX7_init_69 dX7_init_70 dX7_init_73 (fun _ _ _ _ kk => g_ldc hC dX7_init_74 kw_296 kk) dX7_init_76 dX7_init_79 nl_X7_9 cl_X7_12 fl_X7_33 (fun _ => ⟨rfl, rfl⟩) (Nat.le_of_ble_eq_true rfl) (fun _ => ⟨_, _, rfl⟩) (by first | exact Nat.le_of_ble_eq_true rfl | omega | (simp only [gR]; omega)) (by first | exact Nat.le_of_ble_eq_true rfl | omega | (simp only [gR]; omega)) (Nat.le_of_ble_eq_true rfl) (Nat.le_of_ble_eq_true rfl) (fun a36 q37 F38 h39 e41 hx42 => ?_)
  have hcn40 : gCn d t 7 F F38 [.ref a1, .ref a8, .ref a15, .ref a22, .ref a29, .ref a36, .int 0, .int 0, .int 0, .int 0, .int 0] [(a1, q2, 1000000, 0), (a8, q9, 1000000, 0), (a15, q16, 1000000, 0), (a22, q23, 1000000, 0), (a29, q30, 1000000, 0), (a36, q37, 1000000, 0)] := h39
  refine g_aload_n hC dX7_init_82 rfl ?_
  refine g_sipush (v := 4096) hC dX7_init_83 rfl ?_
  refine g_putC hC hcn40 fl_X7_36 rfl rfl (Nat.le_of_ble_eq_true rfl) rfl dX7_init_86 (fun F43 hcn44 hx45 => ?_)
  have hx46 : ∀ x, x ≠ t → F38 x ≠ g0 → F43 x = F38 x := fun x q _ => hx45 x q
  refine g_aload_n hC dX7_init_89 rfl ?_
  refine g_iconst (v := (-1)) hC dX7_init_90 rfl ?_
  refine g_putC hC hcn44 fl_X7_40 rfl rfl (Nat.le_of_ble_eq_true rfl) rfl dX7_init_91 (fun F47 hcn48 hx49 => ?_)
  have hx50 : ∀ x, x ≠ t → F43 x ≠ g0 → F47 x = F43 x := fun x q _ => hx49 x q
  refine g_aload_n hC dX7_init_94 rfl ?_
  refine g_iconst (v := 0) hC dX7_init_95 rfl ?_
  refine g_putC hC hcn48 fl_X7_43 rfl rfl (Nat.le_of_ble_eq_true rfl) rfl dX7_init_96 (fun F51 hcn52 hx53 => ?_)
  have hx54 : ∀ x, x ≠ t → F47 x ≠ g0 → F51 x = F47 x := fun x q _ => hx53 x q
  refine g_aload_n hC dX7_init_99 rfl ?_
  refine g_iconst (v := 0) hC dX7_init_100 rfl ?_
  refine g_putC hC hcn52 fl_X7_46 rfl rfl (Nat.le_of_ble_eq_true rfl) rfl dX7_init_101 (fun F55 hcn56 hx57 => ?_)
  have hx58 : ∀ x, x ≠ t → F51 x ≠ g0 → F55 x = F51 x := fun x q _ => hx57 x q
  refine g_aload_n hC dX7_init_104 rfl ?_
  refine g_iconst (v := 0) hC dX7_init_105 rfl ?_
  refine g_putC hC hcn56 fl_X7_49 rfl rfl (Nat.le_of_ble_eq_true rfl) rfl dX7_init_106 (fun F59 hcn60 hx61 => ?_)
  have hx62 : ∀ x, x ≠ t → F55 x ≠ g0 → F59 x = F55 x := fun x q _ => hx61 x q
  exact g_vret hC ⟨a1, q2, a8, q9, a15, q16, a22, q23, a29, q30, a36, q37, hcn60⟩ (by first | exact Nat.le_of_ble_eq_true rfl | omega | (simp only [gR]; omega)) (by first | exact Nat.le_of_ble_eq_true rfl | omega | (simp only [gR]; omega)) dX7_init_109
theorem dX10_init_0 : decode cX10_init 0 = .ok (.aload_n 0, 1) := by decide +kernel
theorem dX10_init_1 : decode cX10_init 1 = .ok (.invokespecial 3, 3) := by decide +kernel
theorem dX10_init_4 : decode cX10_init 4 = .ok (.aload_n 0, 1) := by decide +kernel
theorem dX10_init_5 : decode cX10_init 5 = .ok (.new 9, 3) := by decide +kernel
theorem dX10_init_8 : decode cX10_init 8 = .ok (.dup, 1) := by decide +kernel
theorem dX10_init_9 : decode cX10_init 9 = .ok (.ldc 11, 2) := by decide +kernel
theorem dX10_init_11 : decode cX10_init 11 = .ok (.invokespecial 12, 3) := by decide +kernel
theorem dX10_init_14 : decode cX10_init 14 = .ok (.putfield 15, 3) := by decide +kernel
theorem dX10_init_17 : decode cX10_init 17 = .ok (.aload_n 0, 1) := by decide +kernel
theorem dX10_init_18 : decode cX10_init 18 = .ok (.new 9, 3) := by decide +kernel
theorem dX10_init_21 : decode cX10_init 21 = .ok (.dup, 1) := by decide +kernel
theorem dX10_init_22 : decode cX10_init 22 = .ok (.ldc 11, 2) := by decide +kernel
theorem dX10_init_24 : decode cX10_init 24 = .ok (.invokespecial 12, 3) := by decide +kernel
theorem dX10_init_27 : decode cX10_init 27 = .ok (.putfield 21, 3) := by decide +kernel
theorem dX10_init_30 : decode cX10_init 30 = .ok (.aload_n 0, 1) := by decide +kernel
theorem dX10_init_31 : decode cX10_init 31 = .ok (.new 9, 3) := by decide +kernel
theorem dX10_init_34 : decode cX10_init 34 = .ok (.dup, 1) := by decide +kernel
theorem dX10_init_35 : decode cX10_init 35 = .ok (.ldc 11, 2) := by decide +kernel
theorem dX10_init_37 : decode cX10_init 37 = .ok (.invokespecial 12, 3) := by decide +kernel
theorem dX10_init_40 : decode cX10_init 40 = .ok (.putfield 24, 3) := by decide +kernel
theorem dX10_init_43 : decode cX10_init 43 = .ok (.aload_n 0, 1) := by decide +kernel
theorem dX10_init_44 : decode cX10_init 44 = .ok (.new 9, 3) := by decide +kernel
theorem dX10_init_47 : decode cX10_init 47 = .ok (.dup, 1) := by decide +kernel
theorem dX10_init_48 : decode cX10_init 48 = .ok (.ldc 11, 2) := by decide +kernel
theorem dX10_init_50 : decode cX10_init 50 = .ok (.invokespecial 12, 3) := by decide +kernel
theorem dX10_init_53 : decode cX10_init 53 = .ok (.putfield 27, 3) := by decide +kernel
theorem dX10_init_56 : decode cX10_init 56 = .ok (.aload_n 0, 1) := by decide +kernel
theorem dX10_init_57 : decode cX10_init 57 = .ok (.new 9, 3) := by decide +kernel
theorem dX10_init_60 : decode cX10_init 60 = .ok (.dup, 1) := by decide +kernel
theorem dX10_init_61 : decode cX10_init 61 = .ok (.ldc 11, 2) := by decide +kernel
theorem dX10_init_63 : decode cX10_init 63 = .ok (.invokespecial 12, 3) := by decide +kernel
theorem dX10_init_66 : decode cX10_init 66 = .ok (.putfield 30, 3) := by decide +kernel
theorem dX10_init_69 : decode cX10_init 69 = .ok (.aload_n 0, 1) := by decide +kernel
theorem dX10_init_70 : decode cX10_init 70 = .ok (.new 9, 3) := by decide +kernel
theorem dX10_init_73 : decode cX10_init 73 = .ok (.dup, 1) := by decide +kernel
theorem dX10_init_74 : decode cX10_init 74 = .ok (.ldc 11, 2) := by decide +kernel
theorem dX10_init_76 : decode cX10_init 76 = .ok (.invokespecial 12, 3) := by decide +kernel
theorem dX10_init_79 : decode cX10_init 79 = .ok (.putfield 33, 3) := by decide +kernel
theorem dX10_init_82 : decode cX10_init 82 = .ok (.aload_n 0, 1) := by decide +kernel
theorem dX10_init_83 : decode cX10_init 83 = .ok (.new 9, 3) := by decide +kernel
theorem dX10_init_86 : decode cX10_init 86 = .ok (.dup, 1) := by decide +kernel
theorem dX10_init_87 : decode cX10_init 87 = .ok (.ldc 11, 2) := by decide +kernel
theorem dX10_init_89 : decode cX10_init 89 = .ok (.invokespecial 12, 3) := by decide +kernel
theorem dX10_init_92 : decode cX10_init 92 = .ok (.putfield 36, 3) := by decide +kernel
theorem dX10_init_95 : decode cX10_init 95 = .ok (.return_, 1) := by decide +kernel
set_option maxHeartbeats 4000000 in
set_option maxRecDepth 100000 in
theorem k_T (l : Launch) (d : gD) (b : Nat) (F : gM) (t : Nat)  (h : F t = .inr (10, [.null, .null, .null, .null, .null, .null, .null]))  : gMv l d b yX10_init cX10_init 1 3 14 133 F [.ref t] (fun F' => ∃ a0 q1 a2 q3 a4 q5 a6 q7 a8 q9 a10 q11 a12 q13 : Nat, gCn d t 10 F F' [.ref a0, .ref a2, .ref a4, .ref a6, .ref a8, .ref a10, .ref a12] [(a0, q1, 1000000, 0), (a2, q3, 1000000, 0), (a4, q5, 1000000, 0), (a6, q7, 1000000, 0), (a8, q9, 1000000, 0), (a10, q11, 1000000, 0), (a12, q13, 1000000, 0)]) := by
  refine gM_of2 rfl (nL := 1) (Nat.le_of_ble_eq_true rfl) ?_
  intro X hX hC; subst hX
  show gG X d b _ F 0 0 0 [some (.ref t)] []
  have hcn : gCn d t 10 F F [.null, .null, .null, .null, .null, .null, .null] [] := ⟨h, by rw [h]; exact g0_o, gEx.rf, gNw.nil⟩
  refine g_aload_n hC dX10_init_0 rfl ?_
  refine g_objInit hC dX10_init_1 kw_337 rfl ⟨Nat.le_of_ble_eq_true rfl, Nat.le_of_ble_eq_true rfl⟩ (Nat.le_of_ble_eq_true rfl) ?_
  refine g_newInts 1000000 hC hcn rfl rfl (by decide) (by decide) dX10_init_4 dX10_init_5 dX10_init_8 (fun _ _ _ _ kk => g_ldc hC dX10_init_9 kw_339 kk) dX10_init_11 dX10_init_14 nl_X10_9 cl_X10_12 fl_X10_15 (fun _ => ⟨rfl, rfl⟩) (Nat.le_of_ble_eq_true rfl) (fun _ => ⟨_, _, rfl⟩) (by first | exact Nat.le_of_ble_eq_true rfl | omega | (simp only [gR]; omega)) (by first | exact Nat.le_of_ble_eq_true rfl | omega | (simp only [gR]; omega)) (Nat.le_of_ble_eq_true rfl) (Nat.le_of_ble_eq_true rfl) (fun a1 q2 F3 h4 e6 hx7 => ?_)
  have hcn5 : gCn d t 10 F F3 [.ref a1, .null, .null, .null, .null, .null, .null] [(a1, q2, 1000000, 0)] := h4
  refine g_newInts 1000000 hC hcn5 rfl rfl (by decide) (by decide) dX10_init_17 dX10_init_18 dX10_init_21 (fun _ _ _ _ kk => g_ldc hC dX10_init_22 kw_339 kk) dX10_init_24 dX10_init_27 nl_X10_9 cl_X10_12 fl_X10_21 (fun _ => ⟨rfl, rfl⟩) (Nat.le_of_ble_eq_true rfl) (fun _ => ⟨_, _, rfl⟩) (by first | exact Nat.le_of_ble_eq_true rfl | omega | (simp only [gR]; omega)) (by first | exact Nat.le_of_ble_eq_true rfl | omega | (simp only [gR]; omega)) (Nat.le_of_ble_eq_true rfl) (Nat.le_of_ble_eq_true rfl) (fun a8 q9 F10 h11 e13 hx14 => ?_)
  have hcn12 : gCn d t 10 F F10 [.ref a1, .ref a8, .null, .null, .null, .null, .null] [(a1, q2, 1000000, 0), (a8, q9, 1000000, 0)] := h11
  refine g_newInts 1000000 hC hcn12 rfl rfl (by decide) (by decide) dX10_init_30 dX10_init_31 dX10_init_34 (fun _ _ _ _ kk => g_ldc hC dX10_init_35 kw_339 kk) dX10_init_37 dX10_init_40 nl_X10_9 cl_X10_12 fl_X10_24 (fun _ => ⟨rfl, rfl⟩) (Nat.le_of_ble_eq_true rfl) (fun _ => ⟨_, _, rfl⟩) (by first | exact Nat.le_of_ble_eq_true rfl | omega | (simp only [gR]; omega)) (by first | exact Nat.le_of_ble_eq_true rfl | omega | (simp only [gR]; omega)) (Nat.le_of_ble_eq_true rfl) (Nat.le_of_ble_eq_true rfl) (fun a15 q16 F17 h18 e20 hx21 => ?_)
  have hcn19 : gCn d t 10 F F17 [.ref a1, .ref a8, .ref a15, .null, .null, .null, .null] [(a1, q2, 1000000, 0), (a8, q9, 1000000, 0), (a15, q16, 1000000, 0)] := h18
  refine g_newInts 1000000 hC hcn19 rfl rfl (by decide) (by decide) dX10_init_43 dX10_init_44 dX10_init_47 (fun _ _ _ _ kk => g_ldc hC dX10_init_48 kw_339 kk) dX10_init_50 dX10_init_53 nl_X10_9 cl_X10_12 fl_X10_27 (fun _ => ⟨rfl, rfl⟩) (Nat.le_of_ble_eq_true rfl) (fun _ => ⟨_, _, rfl⟩) (by first | exact Nat.le_of_ble_eq_true rfl | omega | (simp only [gR]; omega)) (by first | exact Nat.le_of_ble_eq_true rfl | omega | (simp only [gR]; omega)) (Nat.le_of_ble_eq_true rfl) (Nat.le_of_ble_eq_true rfl) (fun a22 q23 F24 h25 e27 hx28 => ?_)
  have hcn26 : gCn d t 10 F F24 [.ref a1, .ref a8, .ref a15, .ref a22, .null, .null, .null] [(a1, q2, 1000000, 0), (a8, q9, 1000000, 0), (a15, q16, 1000000, 0), (a22, q23, 1000000, 0)] := h25
  refine g_newInts 1000000 hC hcn26 rfl rfl (by decide) (by decide) dX10_init_56 dX10_init_57 dX10_init_60 (fun _ _ _ _ kk => g_ldc hC dX10_init_61 kw_339 kk) dX10_init_63 dX10_init_66 nl_X10_9 cl_X10_12 fl_X10_30 (fun _ => ⟨rfl, rfl⟩) (Nat.le_of_ble_eq_true rfl) (fun _ => ⟨_, _, rfl⟩) (by first | exact Nat.le_of_ble_eq_true rfl | omega | (simp only [gR]; omega)) (by first | exact Nat.le_of_ble_eq_true rfl | omega | (simp only [gR]; omega)) (Nat.le_of_ble_eq_true rfl) (Nat.le_of_ble_eq_true rfl) (fun a29 q30 F31 h32 e34 hx35 => ?_)
  have hcn33 : gCn d t 10 F F31 [.ref a1, .ref a8, .ref a15, .ref a22, .ref a29, .null, .null] [(a1, q2, 1000000, 0), (a8, q9, 1000000, 0), (a15, q16, 1000000, 0), (a22, q23, 1000000, 0), (a29, q30, 1000000, 0)] := h32
  refine g_newInts 1000000 hC hcn33 rfl rfl (by decide) (by decide) dX10_init_69 dX10_init_70 dX10_init_73 (fun _ _ _ _ kk => g_ldc hC dX10_init_74 kw_339 kk) dX10_init_76 dX10_init_79 nl_X10_9 cl_X10_12 fl_X10_33 (fun _ => ⟨rfl, rfl⟩) (Nat.le_of_ble_eq_true rfl) (fun _ => ⟨_, _, rfl⟩) (by first | exact Nat.le_of_ble_eq_true rfl | omega | (simp only [gR]; omega)) (by first | exact Nat.le_of_ble_eq_true rfl | omega | (simp only [gR]; omega)) (Nat.le_of_ble_eq_true rfl) (Nat.le_of_ble_eq_true rfl) (fun a36 q37 F38 h39 e41 hx42 => ?_)
  have hcn40 : gCn d t 10 F F38 [.ref a1, .ref a8, .ref a15, .ref a22, .ref a29, .ref a36, .null] [(a1, q2, 1000000, 0), (a8, q9, 1000000, 0), (a15, q16, 1000000, 0), (a22, q23, 1000000, 0), (a29, q30, 1000000, 0), (a36, q37, 1000000, 0)] := h39
  refine g_newInts 1000000 hC hcn40 rfl rfl (by decide) (by decide) dX10_init_82 dX10_init_83 dX10_init_86 (fun _ _ _ _ kk => g_ldc hC dX10_init_87 kw_339 kk) dX10_init_89 dX10_init_92 nl_X10_9 cl_X10_12 fl_X10_36 (fun _ => ⟨rfl, rfl⟩) (Nat.le_of_ble_eq_true rfl) (fun _ => ⟨_, _, rfl⟩) (by first | exact Nat.le_of_ble_eq_true rfl | omega | (simp only [gR]; omega)) (by first | exact Nat.le_of_ble_eq_true rfl | omega | (simp only [gR]; omega)) (Nat.le_of_ble_eq_true rfl) (Nat.le_of_ble_eq_true rfl) (fun a43 q44 F45 h46 e48 hx49 => ?_)
  have hcn47 : gCn d t 10 F F45 [.ref a1, .ref a8, .ref a15, .ref a22, .ref a29, .ref a36, .ref a43] [(a1, q2, 1000000, 0), (a8, q9, 1000000, 0), (a15, q16, 1000000, 0), (a22, q23, 1000000, 0), (a29, q30, 1000000, 0), (a36, q37, 1000000, 0), (a43, q44, 1000000, 0)] := h46
  exact g_vret hC ⟨a1, q2, a8, q9, a15, q16, a22, q23, a29, q30, a36, q37, a43, q44, hcn47⟩ (by first | exact Nat.le_of_ble_eq_true rfl | omega | (simp only [gR]; omega)) (by first | exact Nat.le_of_ble_eq_true rfl | omega | (simp only [gR]; omega)) dX10_init_95
theorem dX9_init_0 : decode cX9_init 0 = .ok (.aload_n 0, 1) := by decide +kernel
theorem dX9_init_1 : decode cX9_init 1 = .ok (.invokespecial 3, 3) := by decide +kernel
theorem dX9_init_4 : decode cX9_init 4 = .ok (.aload_n 0, 1) := by decide +kernel
theorem dX9_init_5 : decode cX9_init 5 = .ok (.new 9, 3) := by decide +kernel
theorem dX9_init_8 : decode cX9_init 8 = .ok (.dup, 1) := by decide +kernel
theorem dX9_init_9 : decode cX9_init 9 = .ok (.ldc 11, 2) := by decide +kernel
theorem dX9_init_11 : decode cX9_init 11 = .ok (.invokespecial 12, 3) := by decide +kernel
theorem dX9_init_14 : decode cX9_init 14 = .ok (.putfield 15, 3) := by decide +kernel
theorem dX9_init_17 : decode cX9_init 17 = .ok (.aload_n 0, 1) := by decide +kernel
theorem dX9_init_18 : decode cX9_init 18 = .ok (.new 9, 3) := by decide +kernel
theorem dX9_init_21 : decode cX9_init 21 = .ok (.dup, 1) := by decide +kernel
theorem dX9_init_22 : decode cX9_init 22 = .ok (.ldc 11, 2) := by decide +kernel
theorem dX9_init_24 : decode cX9_init 24 = .ok (.invokespecial 12, 3) := by decide +kernel
theorem dX9_init_27 : decode cX9_init 27 = .ok (.putfield 21, 3) := by decide +kernel
theorem dX9_init_30 : decode cX9_init 30 = .ok (.aload_n 0, 1) := by decide +kernel
theorem dX9_init_31 : decode cX9_init 31 = .ok (.new 9, 3) := by decide +kernel
theorem dX9_init_34 : decode cX9_init 34 = .ok (.dup, 1) := by decide +kernel
theorem dX9_init_35 : decode cX9_init 35 = .ok (.ldc 11, 2) := by decide +kernel
theorem dX9_init_37 : decode cX9_init 37 = .ok (.invokespecial 12, 3) := by decide +kernel
theorem dX9_init_40 : decode cX9_init 40 = .ok (.putfield 24, 3) := by decide +kernel
theorem dX9_init_43 : decode cX9_init 43 = .ok (.aload_n 0, 1) := by decide +kernel
theorem dX9_init_44 : decode cX9_init 44 = .ok (.new 9, 3) := by decide +kernel
theorem dX9_init_47 : decode cX9_init 47 = .ok (.dup, 1) := by decide +kernel
theorem dX9_init_48 : decode cX9_init 48 = .ok (.ldc 11, 2) := by decide +kernel
theorem dX9_init_50 : decode cX9_init 50 = .ok (.invokespecial 12, 3) := by decide +kernel
theorem dX9_init_53 : decode cX9_init 53 = .ok (.putfield 27, 3) := by decide +kernel
theorem dX9_init_56 : decode cX9_init 56 = .ok (.aload_n 0, 1) := by decide +kernel
theorem dX9_init_57 : decode cX9_init 57 = .ok (.new 9, 3) := by decide +kernel
theorem dX9_init_60 : decode cX9_init 60 = .ok (.dup, 1) := by decide +kernel
theorem dX9_init_61 : decode cX9_init 61 = .ok (.ldc 11, 2) := by decide +kernel
theorem dX9_init_63 : decode cX9_init 63 = .ok (.invokespecial 12, 3) := by decide +kernel
theorem dX9_init_66 : decode cX9_init 66 = .ok (.putfield 30, 3) := by decide +kernel
theorem dX9_init_69 : decode cX9_init 69 = .ok (.aload_n 0, 1) := by decide +kernel
theorem dX9_init_70 : decode cX9_init 70 = .ok (.new 9, 3) := by decide +kernel
theorem dX9_init_73 : decode cX9_init 73 = .ok (.dup, 1) := by decide +kernel
theorem dX9_init_74 : decode cX9_init 74 = .ok (.ldc 11, 2) := by decide +kernel
theorem dX9_init_76 : decode cX9_init 76 = .ok (.invokespecial 12, 3) := by decide +kernel
theorem dX9_init_79 : decode cX9_init 79 = .ok (.putfield 33, 3) := by decide +kernel
theorem dX9_init_82 : decode cX9_init 82 = .ok (.aload_n 0, 1) := by decide +kernel
theorem dX9_init_83 : decode cX9_init 83 = .ok (.iconst 0, 1) := by decide +kernel
theorem dX9_init_84 : decode cX9_init 84 = .ok (.putfield 36, 3) := by decide +kernel
theorem dX9_init_87 : decode cX9_init 87 = .ok (.aload_n 0, 1) := by decide +kernel
theorem dX9_init_88 : decode cX9_init 88 = .ok (.aload_n 1, 1) := by decide +kernel
theorem dX9_init_89 : decode cX9_init 89 = .ok (.putfield 40, 3) := by decide +kernel
theorem dX9_init_92 : decode cX9_init 92 = .ok (.return_, 1) := by decide +kernel
set_option maxHeartbeats 4000000 in
set_option maxRecDepth 100000 in
theorem k_Sco (l : Launch) (d : gD) (b : Nat) (F : gM) (t : Nat) (p0 : Nat) (h : F t = .inr (9, [.null, .null, .null, .null, .null, .null, .null, .int 0]))  : gMv l d b yX9_init cX9_init 2 3 12 114 F [.ref t, .ref p0] (fun F' => ∃ a0 q1 a2 q3 a4 q5 a6 q7 a8 q9 a10 q11 : Nat, gCn d t 9 F F' [.ref p0, .ref a0, .ref a2, .ref a4, .ref a6, .ref a8, .ref a10, .int 0] [(a0, q1, 1000000, 0), (a2, q3, 1000000, 0), (a4, q5, 1000000, 0), (a6, q7, 1000000, 0), (a8, q9, 1000000, 0), (a10, q11, 1000000, 0)]) := by
  refine gM_of2 rfl (nL := 2) (Nat.le_of_ble_eq_true rfl) ?_
  intro X hX hC; subst hX
  show gG X d b _ F 0 0 0 [some (.ref t), some (.ref p0)] []
  have hcn : gCn d t 9 F F [.null, .null, .null, .null, .null, .null, .null, .int 0] [] := ⟨h, by rw [h]; exact g0_o, gEx.rf, gNw.nil⟩
  refine g_aload_n hC dX9_init_0 rfl ?_
  refine g_objInit hC dX9_init_1 kw_583 rfl ⟨Nat.le_of_ble_eq_true rfl, Nat.le_of_ble_eq_true rfl⟩ (Nat.le_of_ble_eq_true rfl) ?_
  refine g_newInts 1000000 hC hcn rfl rfl (by decide) (by decide) dX9_init_4 dX9_init_5 dX9_init_8 (fun _ _ _ _ kk => g_ldc hC dX9_init_9 kw_585 kk) dX9_init_11 dX9_init_14 nl_X9_9 cl_X9_12 fl_X9_15 (fun _ => ⟨rfl, rfl⟩) (Nat.le_of_ble_eq_true rfl) (fun _ => ⟨_, _, rfl⟩) (by first | exact Nat.le_of_ble_eq_true rfl | omega | (simp only [gR]; omega)) (by first | exact Nat.le_of_ble_eq_true rfl | omega | (simp only [gR]; omega)) (Nat.le_of_ble_eq_true rfl) (Nat.le_of_ble_eq_true rfl) (fun a1 q2 F3 h4 e6 hx7 => ?_)
  have hcn5 : gCn d t 9 F F3 [.null, .ref a1, .null, .null, .null, .null, .null, .int 0] [(a1, q2, 1000000, 0)] := h4
  refine g_newInts 1000000 hC hcn5 rfl rfl (by decide) (by decide) dX9_init_17 dX9_init_18 dX9_init_21 (fun _ _ _ _ kk => g_ldc hC dX9_init_22 kw_585 kk) dX9_init_24 dX9_init_27 nl_X9_9 cl_X9_12 fl_X9_21 (fun _ => ⟨rfl, rfl⟩) (Nat.le_of_ble_eq_true rfl) (fun _ => ⟨_, _, rfl⟩) (by first | exact Nat.le_of_ble_eq_true rfl | omega | (simp only [gR]; omega)) (by first | exact Nat.le_of_ble_eq_true rfl | omega | (simp only [gR]; omega)) (Nat.le_of_ble_eq_true rfl) (Nat.le_of_ble_eq_true rfl) (fun a8 q9 F10 h11 e13 hx14 => ?_)
  have hcn12 : gCn d t 9 F F10 [.null, .ref a1, .ref a8, .null, .null, .null, .null, .int 0] [(a1, q2, 1000000, 0), (a8, q9, 1000000, 0)] := h11
  refine g_newInts 1000000 hC hcn12 rfl rfl (by decide) (by decide) dX9_init_30 dX9_init_31 dX9_init_34 (fun _ _ _ _ kk => g_ldc hC dX9_init_35 kw_585 kk) dX9_init_37 dX9_init_40 nl_X9_9 cl_X9_12 fl_X9_24 (fun _ => ⟨rfl, rfl⟩) (Nat.le_of_ble_eq_true rfl) (fun _ => ⟨_, _, rfl⟩) (by first | exact Nat.le_of_ble_eq_true rfl | omega | (simp only [gR]; omega)) (by first | exact Nat.le_of_ble_eq_true rfl | omega | (simp only [gR]; omega)) (Nat.le_of_ble_eq_true rfl) (Nat.le_of_ble_eq_true rfl) (fun a15 q16 F17 h18 e20 hx21 => ?_)
  have hcn19 : gCn d t 9 F F17 [.null, .ref a1, .ref a8, .ref a15, .null, .null, .null, .int 0] [(a1, q2, 1000000, 0), (a8, q9, 1000000, 0), (a15, q16, 1000000, 0)] := h18
  refine g_newInts 1000000 hC hcn19 rfl rfl (by decide) (by decide) dX9_init_43 dX9_init_44 dX9_init_47 (fun _ _ _ _ kk => g_ldc hC dX9_init_48 kw_585 kk) dX9_init_50 dX9_init_53 nl_X9_9 cl_X9_12 fl_X9_27 (fun _ => ⟨rfl, rfl⟩) (Nat.le_of_ble_eq_true rfl) (fun _ => ⟨_, _, rfl⟩) (by first | exact Nat.le_of_ble_eq_true rfl | omega | (simp only [gR]; omega)) (by first | exact Nat.le_of_ble_eq_true rfl | omega | (simp only [gR]; omega)) (Nat.le_of_ble_eq_true rfl) (Nat.le_of_ble_eq_true rfl) (fun a22 q23 F24 h25 e27 hx28 => ?_)
  have hcn26 : gCn d t 9 F F24 [.null, .ref a1, .ref a8, .ref a15, .ref a22, .null, .null, .int 0] [(a1, q2, 1000000, 0), (a8, q9, 1000000, 0), (a15, q16, 1000000, 0), (a22, q23, 1000000, 0)] := h25
  refine g_newInts 1000000 hC hcn26 rfl rfl (by decide) (by decide) dX9_init_56 dX9_init_57 dX9_init_60 (fun _ _ _ _ kk => g_ldc hC dX9_init_61 kw_585 kk) dX9_init_63 dX9_init_66 nl_X9_9 cl_X9_12 fl_X9_30 (fun _ => ⟨rfl, rfl⟩) (Nat.le_of_ble_eq_true rfl) (fun _ => ⟨_, _, rfl⟩) (by first | exact Nat.le_of_ble_eq_true rfl | omega | (simp only [gR]; omega)) (by first | exact Nat.le_of_ble_eq_true rfl | omega | (simp only [gR]; omega)) (Nat.le_of_ble_eq_true rfl) (Nat.le_of_ble_eq_true rfl) (fun a29 q30 F31 h32 e34 hx35 => ?_)
  have hcn33 : gCn d t 9 F F31 [.null, .ref a1, .ref a8, .ref a15, .ref a22, .ref a29, .null, .int 0] [(a1, q2, 1000000, 0), (a8, q9, 1000000, 0), (a15, q16, 1000000, 0), (a22, q23, 1000000, 0), (a29, q30, 1000000, 0)] := h32
  refine g_newInts 1000000 hC hcn33 rfl rfl (by decide) (by decide) dX9_init_69 dX9_init_70 dX9_init_73 (fun _ _ _ _ kk => g_ldc hC dX9_init_74 kw_585 kk) dX9_init_76 dX9_init_79 nl_X9_9 cl_X9_12 fl_X9_33 (fun _ => ⟨rfl, rfl⟩) (Nat.le_of_ble_eq_true rfl) (fun _ => ⟨_, _, rfl⟩) (by first | exact Nat.le_of_ble_eq_true rfl | omega | (simp only [gR]; omega)) (by first | exact Nat.le_of_ble_eq_true rfl | omega | (simp only [gR]; omega)) (Nat.le_of_ble_eq_true rfl) (Nat.le_of_ble_eq_true rfl) (fun a36 q37 F38 h39 e41 hx42 => ?_)
  have hcn40 : gCn d t 9 F F38 [.null, .ref a1, .ref a8, .ref a15, .ref a22, .ref a29, .ref a36, .int 0] [(a1, q2, 1000000, 0), (a8, q9, 1000000, 0), (a15, q16, 1000000, 0), (a22, q23, 1000000, 0), (a29, q30, 1000000, 0), (a36, q37, 1000000, 0)] := h39
  refine g_aload_n hC dX9_init_82 rfl ?_
  refine g_iconst (v := 0) hC dX9_init_83 rfl ?_
  refine g_putC hC hcn40 fl_X9_36 rfl rfl (Nat.le_of_ble_eq_true rfl) rfl dX9_init_84 (fun F43 hcn44 hx45 => ?_)
  have hx46 : ∀ x, x ≠ t → F38 x ≠ g0 → F43 x = F38 x := fun x q _ => hx45 x q
  refine g_aload_n hC dX9_init_87 rfl ?_
  refine g_aload_n hC dX9_init_88 rfl ?_
  refine g_putC hC hcn44 fl_X9_40 rfl rfl (Nat.le_of_ble_eq_true rfl) rfl dX9_init_89 (fun F47 hcn48 hx49 => ?_)
  have hx50 : ∀ x, x ≠ t → F43 x ≠ g0 → F47 x = F43 x := fun x q _ => hx49 x q
  exact g_vret hC ⟨a1, q2, a8, q9, a15, q16, a22, q23, a29, q30, a36, q37, hcn48⟩ (by first | exact Nat.le_of_ble_eq_true rfl | omega | (simp only [gR]; omega)) (by first | exact Nat.le_of_ble_eq_true rfl | omega | (simp only [gR]; omega)) dX9_init_92
theorem dX2_init_0 : decode cX2_init 0 = .ok (.aload_n 0, 1) := by decide +kernel
theorem dX2_init_1 : decode cX2_init 1 = .ok (.invokespecial 3, 3) := by decide +kernel
theorem dX2_init_4 : decode cX2_init 4 = .ok (.aload_n 0, 1) := by decide +kernel
theorem dX2_init_5 : decode cX2_init 5 = .ok (.new 9, 3) := by decide +kernel
theorem dX2_init_8 : decode cX2_init 8 = .ok (.dup, 1) := by decide +kernel
theorem dX2_init_9 : decode cX2_init 9 = .ok (.ldc 11, 2) := by decide +kernel
theorem dX2_init_11 : decode cX2_init 11 = .ok (.invokespecial 12, 3) := by decide +kernel
theorem dX2_init_14 : decode cX2_init 14 = .ok (.putfield 15, 3) := by decide +kernel
theorem dX2_init_17 : decode cX2_init 17 = .ok (.aload_n 0, 1) := by decide +kernel
theorem dX2_init_18 : decode cX2_init 18 = .ok (.iconst 0, 1) := by decide +kernel
theorem dX2_init_19 : decode cX2_init 19 = .ok (.putfield 21, 3) := by decide +kernel
theorem dX2_init_22 : decode cX2_init 22 = .ok (.aload_n 0, 1) := by decide +kernel
theorem dX2_init_23 : decode cX2_init 23 = .ok (.iconst 0, 1) := by decide +kernel
theorem dX2_init_24 : decode cX2_init 24 = .ok (.putfield 25, 3) := by decide +kernel
theorem dX2_init_27 : decode cX2_init 27 = .ok (.aload_n 0, 1) := by decide +kernel
theorem dX2_init_28 : decode cX2_init 28 = .ok (.iconst 0, 1) := by decide +kernel
theorem dX2_init_29 : decode cX2_init 29 = .ok (.putfield 29, 3) := by decide +kernel
theorem dX2_init_32 : decode cX2_init 32 = .ok (.aload_n 0, 1) := by decide +kernel
theorem dX2_init_33 : decode cX2_init 33 = .ok (.aload_n 1, 1) := by decide +kernel
theorem dX2_init_34 : decode cX2_init 34 = .ok (.putfield 32, 3) := by decide +kernel
theorem dX2_init_37 : decode cX2_init 37 = .ok (.aload_n 0, 1) := by decide +kernel
theorem dX2_init_38 : decode cX2_init 38 = .ok (.aload_n 2, 1) := by decide +kernel
theorem dX2_init_39 : decode cX2_init 39 = .ok (.putfield 36, 3) := by decide +kernel
theorem dX2_init_42 : decode cX2_init 42 = .ok (.aload_n 0, 1) := by decide +kernel
theorem dX2_init_43 : decode cX2_init 43 = .ok (.aload_n 3, 1) := by decide +kernel
theorem dX2_init_44 : decode cX2_init 44 = .ok (.putfield 40, 3) := by decide +kernel
theorem dX2_init_47 : decode cX2_init 47 = .ok (.return_, 1) := by decide +kernel
set_option maxHeartbeats 4000000 in
set_option maxRecDepth 100000 in
theorem k_Con (l : Launch) (d : gD) (b : Nat) (F : gM) (t : Nat) (p0 p1 p2 : Nat) (h : F t = .inr (2, [.null, .null, .null, .null, .int 0, .int 0, .int 0]))  : gMv l d b yX2_init cX2_init 4 3 2 19 F [.ref t, .ref p0, .ref p1, .ref p2] (fun F' => ∃ a0 q1 : Nat, gCn d t 2 F F' [.ref p0, .ref p1, .ref p2, .ref a0, .int 0, .int 0, .int 0] [(a0, q1, 1000000, 0)]) := by
  refine gM_of2 rfl (nL := 4) (Nat.le_of_ble_eq_true rfl) ?_
  intro X hX hC; subst hX
  show gG X d b _ F 0 0 0 [some (.ref t), some (.ref p0), some (.ref p1), some (.ref p2)] []
  have hcn : gCn d t 2 F F [.null, .null, .null, .null, .int 0, .int 0, .int 0] [] := ⟨h, by rw [h]; exact g0_o, gEx.rf, gNw.nil⟩
  refine g_aload_n hC dX2_init_0 rfl ?_
  refine g_objInit hC dX2_init_1 kw_617 rfl ⟨Nat.le_of_ble_eq_true rfl, Nat.le_of_ble_eq_true rfl⟩ (Nat.le_of_ble_eq_true rfl) ?_
  refine g_newInts 1000000 hC hcn rfl rfl (by decide) (by decide) dX2_init_4 dX2_init_5 dX2_init_8 (fun _ _ _ _ kk => g_ldc hC dX2_init_9 kw_619 kk) dX2_init_11 dX2_init_14 nl_X2_9 cl_X2_12 fl_X2_15 (fun _ => ⟨rfl, rfl⟩) (Nat.le_of_ble_eq_true rfl) (fun _ => ⟨_, _, rfl⟩) (by first | exact Nat.le_of_ble_eq_true rfl | omega | (simp only [gR]; omega)) (by first | exact Nat.le_of_ble_eq_true rfl | omega | (simp only [gR]; omega)) (Nat.le_of_ble_eq_true rfl) (Nat.le_of_ble_eq_true rfl) (fun a1 q2 F3 h4 e6 hx7 => ?_)
  have hcn5 : gCn d t 2 F F3 [.null, .null, .null, .ref a1, .int 0, .int 0, .int 0] [(a1, q2, 1000000, 0)] := h4
  refine g_aload_n hC dX2_init_17 rfl ?_
  refine g_iconst (v := 0) hC dX2_init_18 rfl ?_
  refine g_putC hC hcn5 fl_X2_21 rfl rfl (Nat.le_of_ble_eq_true rfl) rfl dX2_init_19 (fun F8 hcn9 hx10 => ?_)
  have hx11 : ∀ x, x ≠ t → F3 x ≠ g0 → F8 x = F3 x := fun x q _ => hx10 x q
  refine g_aload_n hC dX2_init_22 rfl ?_
  refine g_iconst (v := 0) hC dX2_init_23 rfl ?_
  refine g_putC hC hcn9 fl_X2_25 rfl rfl (Nat.le_of_ble_eq_true rfl) rfl dX2_init_24 (fun F12 hcn13 hx14 => ?_)
  have hx15 : ∀ x, x ≠ t → F8 x ≠ g0 → F12 x = F8 x := fun x q _ => hx14 x q
  refine g_aload_n hC dX2_init_27 rfl ?_
  refine g_iconst (v := 0) hC dX2_init_28 rfl ?_
  refine g_putC hC hcn13 fl_X2_29 rfl rfl (Nat.le_of_ble_eq_true rfl) rfl dX2_init_29 (fun F16 hcn17 hx18 => ?_)
  have hx19 : ∀ x, x ≠ t → F12 x ≠ g0 → F16 x = F12 x := fun x q _ => hx18 x q
  refine g_aload_n hC dX2_init_32 rfl ?_
  refine g_aload_n hC dX2_init_33 rfl ?_
  refine g_putC hC hcn17 fl_X2_32 rfl rfl (Nat.le_of_ble_eq_true rfl) rfl dX2_init_34 (fun F20 hcn21 hx22 => ?_)
  have hx23 : ∀ x, x ≠ t → F16 x ≠ g0 → F20 x = F16 x := fun x q _ => hx22 x q
  refine g_aload_n hC dX2_init_37 rfl ?_
  refine g_aload_n hC dX2_init_38 rfl ?_
  refine g_putC hC hcn21 fl_X2_36 rfl rfl (Nat.le_of_ble_eq_true rfl) rfl dX2_init_39 (fun F24 hcn25 hx26 => ?_)
  have hx27 : ∀ x, x ≠ t → F20 x ≠ g0 → F24 x = F20 x := fun x q _ => hx26 x q
  refine g_aload_n hC dX2_init_42 rfl ?_
  refine g_aload_n hC dX2_init_43 rfl ?_
  refine g_putC hC hcn25 fl_X2_40 rfl rfl (Nat.le_of_ble_eq_true rfl) rfl dX2_init_44 (fun F28 hcn29 hx30 => ?_)
  have hx31 : ∀ x, x ≠ t → F24 x ≠ g0 → F28 x = F24 x := fun x q _ => hx30 x q
  exact g_vret hC ⟨a1, q2, hcn29⟩ (by first | exact Nat.le_of_ble_eq_true rfl | omega | (simp only [gR]; omega)) (by first | exact Nat.le_of_ble_eq_true rfl | omega | (simp only [gR]; omega)) dX2_init_47
theorem dX3_init_0 : decode cX3_init 0 = .ok (.aload_n 0, 1) := by decide +kernel
theorem dX3_init_1 : decode cX3_init 1 = .ok (.invokespecial 3, 3) := by decide +kernel
theorem dX3_init_4 : decode cX3_init 4 = .ok (.aload_n 0, 1) := by decide +kernel
theorem dX3_init_5 : decode cX3_init 5 = .ok (.new 9, 3) := by decide +kernel
theorem dX3_init_8 : decode cX3_init 8 = .ok (.dup, 1) := by decide +kernel
theorem dX3_init_9 : decode cX3_init 9 = .ok (.bipush 100, 2) := by decide +kernel
theorem dX3_init_11 : decode cX3_init 11 = .ok (.invokespecial 11, 3) := by decide +kernel
theorem dX3_init_14 : decode cX3_init 14 = .ok (.putfield 14, 3) := by decide +kernel
theorem dX3_init_17 : decode cX3_init 17 = .ok (.aload_n 0, 1) := by decide +kernel
theorem dX3_init_18 : decode cX3_init 18 = .ok (.new 9, 3) := by decide +kernel
theorem dX3_init_21 : decode cX3_init 21 = .ok (.dup, 1) := by decide +kernel
theorem dX3_init_22 : decode cX3_init 22 = .ok (.bipush 100, 2) := by decide +kernel
theorem dX3_init_24 : decode cX3_init 24 = .ok (.invokespecial 11, 3) := by decide +kernel
theorem dX3_init_27 : decode cX3_init 27 = .ok (.putfield 20, 3) := by decide +kernel
theorem dX3_init_30 : decode cX3_init 30 = .ok (.return_, 1) := by decide +kernel
set_option maxHeartbeats 4000000 in
set_option maxRecDepth 100000 in
theorem k_H (l : Launch) (d : gD) (b : Nat) (F : gM) (t : Nat)  (h : F t = .inr (3, [.null, .null]))  : gMv l d b yX3_init cX3_init 1 3 4 38 F [.ref t] (fun F' => ∃ a0 q1 a2 q3 : Nat, gCn d t 3 F F' [.ref a0, .ref a2] [(a0, q1, 100, 0), (a2, q3, 100, 0)]) := by
  refine gM_of2 rfl (nL := 1) (Nat.le_of_ble_eq_true rfl) ?_
  intro X hX hC; subst hX
  show gG X d b _ F 0 0 0 [some (.ref t)] []
  have hcn : gCn d t 3 F F [.null, .null] [] := ⟨h, by rw [h]; exact g0_o, gEx.rf, gNw.nil⟩
  refine g_aload_n hC dX3_init_0 rfl ?_
  refine g_objInit hC dX3_init_1 kw_737 rfl ⟨Nat.le_of_ble_eq_true rfl, Nat.le_of_ble_eq_true rfl⟩ (Nat.le_of_ble_eq_true rfl) ?_
  refine g_newInts 100 hC hcn rfl rfl (by decide) (by decide) dX3_init_4 dX3_init_5 dX3_init_8 (fun _ _ _ _ kk => g_bipush (v := nI 100) hC dX3_init_9 (by decide) kk) dX3_init_11 dX3_init_14 nl_X3_9 cl_X3_11 fl_X3_14 (fun _ => ⟨rfl, rfl⟩) (Nat.le_of_ble_eq_true rfl) (fun _ => ⟨_, _, rfl⟩) (by first | exact Nat.le_of_ble_eq_true rfl | omega | (simp only [gR]; omega)) (by first | exact Nat.le_of_ble_eq_true rfl | omega | (simp only [gR]; omega)) (Nat.le_of_ble_eq_true rfl) (Nat.le_of_ble_eq_true rfl) (fun a1 q2 F3 h4 e6 hx7 => ?_)
  have hcn5 : gCn d t 3 F F3 [.ref a1, .null] [(a1, q2, 100, 0)] := h4
  refine g_newInts 100 hC hcn5 rfl rfl (by decide) (by decide) dX3_init_17 dX3_init_18 dX3_init_21 (fun _ _ _ _ kk => g_bipush (v := nI 100) hC dX3_init_22 (by decide) kk) dX3_init_24 dX3_init_27 nl_X3_9 cl_X3_11 fl_X3_20 (fun _ => ⟨rfl, rfl⟩) (Nat.le_of_ble_eq_true rfl) (fun _ => ⟨_, _, rfl⟩) (by first | exact Nat.le_of_ble_eq_true rfl | omega | (simp only [gR]; omega)) (by first | exact Nat.le_of_ble_eq_true rfl | omega | (simp only [gR]; omega)) (Nat.le_of_ble_eq_true rfl) (Nat.le_of_ble_eq_true rfl) (fun a8 q9 F10 h11 e13 hx14 => ?_)
  have hcn12 : gCn d t 3 F F10 [.ref a1, .ref a8] [(a1, q2, 100, 0), (a8, q9, 100, 0)] := h11
  exact g_vret hC ⟨a1, q2, a8, q9, hcn12⟩ (by first | exact Nat.le_of_ble_eq_true rfl | omega | (simp only [gR]; omega)) (by first | exact Nat.le_of_ble_eq_true rfl | omega | (simp only [gR]; omega)) dX3_init_30
theorem dX1_init_0 : decode cX1_init 0 = .ok (.aload_n 0, 1) := by decide +kernel
theorem dX1_init_1 : decode cX1_init 1 = .ok (.invokespecial 3, 3) := by decide +kernel
theorem dX1_init_4 : decode cX1_init 4 = .ok (.aload_n 0, 1) := by decide +kernel
theorem dX1_init_5 : decode cX1_init 5 = .ok (.new 9, 3) := by decide +kernel
theorem dX1_init_8 : decode cX1_init 8 = .ok (.dup, 1) := by decide +kernel
theorem dX1_init_9 : decode cX1_init 9 = .ok (.ldc 11, 2) := by decide +kernel
theorem dX1_init_11 : decode cX1_init 11 = .ok (.invokespecial 12, 3) := by decide +kernel
theorem dX1_init_14 : decode cX1_init 14 = .ok (.putfield 15, 3) := by decide +kernel
theorem dX1_init_17 : decode cX1_init 17 = .ok (.aload_n 0, 1) := by decide +kernel
theorem dX1_init_18 : decode cX1_init 18 = .ok (.new 9, 3) := by decide +kernel
theorem dX1_init_21 : decode cX1_init 21 = .ok (.dup, 1) := by decide +kernel
theorem dX1_init_22 : decode cX1_init 22 = .ok (.ldc 11, 2) := by decide +kernel
theorem dX1_init_24 : decode cX1_init 24 = .ok (.invokespecial 12, 3) := by decide +kernel
theorem dX1_init_27 : decode cX1_init 27 = .ok (.putfield 21, 3) := by decide +kernel
theorem dX1_init_30 : decode cX1_init 30 = .ok (.aload_n 0, 1) := by decide +kernel
theorem dX1_init_31 : decode cX1_init 31 = .ok (.new 9, 3) := by decide +kernel
theorem dX1_init_34 : decode cX1_init 34 = .ok (.dup, 1) := by decide +kernel
theorem dX1_init_35 : decode cX1_init 35 = .ok (.ldc 11, 2) := by decide +kernel
theorem dX1_init_37 : decode cX1_init 37 = .ok (.invokespecial 12, 3) := by decide +kernel
theorem dX1_init_40 : decode cX1_init 40 = .ok (.putfield 24, 3) := by decide +kernel
theorem dX1_init_43 : decode cX1_init 43 = .ok (.aload_n 0, 1) := by decide +kernel
theorem dX1_init_44 : decode cX1_init 44 = .ok (.iconst (-1), 1) := by decide +kernel
theorem dX1_init_45 : decode cX1_init 45 = .ok (.putfield 27, 3) := by decide +kernel
theorem dX1_init_48 : decode cX1_init 48 = .ok (.aload_n 0, 1) := by decide +kernel
theorem dX1_init_49 : decode cX1_init 49 = .ok (.iconst (-1), 1) := by decide +kernel
theorem dX1_init_50 : decode cX1_init 50 = .ok (.putfield 31, 3) := by decide +kernel
theorem dX1_init_53 : decode cX1_init 53 = .ok (.aload_n 0, 1) := by decide +kernel
theorem dX1_init_54 : decode cX1_init 54 = .ok (.iconst (-1), 1) := by decide +kernel
theorem dX1_init_55 : decode cX1_init 55 = .ok (.putfield 34, 3) := by decide +kernel
theorem dX1_init_58 : decode cX1_init 58 = .ok (.aload_n 0, 1) := by decide +kernel
theorem dX1_init_59 : decode cX1_init 59 = .ok (.iconst (-1), 1) := by decide +kernel
theorem dX1_init_60 : decode cX1_init 60 = .ok (.putfield 37, 3) := by decide +kernel
theorem dX1_init_63 : decode cX1_init 63 = .ok (.aload_n 0, 1) := by decide +kernel
theorem dX1_init_64 : decode cX1_init 64 = .ok (.iconst 0, 1) := by decide +kernel
theorem dX1_init_65 : decode cX1_init 65 = .ok (.putfield 40, 3) := by decide +kernel
theorem dX1_init_68 : decode cX1_init 68 = .ok (.aload_n 0, 1) := by decide +kernel
theorem dX1_init_69 : decode cX1_init 69 = .ok (.iconst 0, 1) := by decide +kernel
theorem dX1_init_70 : decode cX1_init 70 = .ok (.putfield 43, 3) := by decide +kernel
theorem dX1_init_73 : decode cX1_init 73 = .ok (.aload_n 0, 1) := by decide +kernel
theorem dX1_init_74 : decode cX1_init 74 = .ok (.iconst 0, 1) := by decide +kernel
theorem dX1_init_75 : decode cX1_init 75 = .ok (.putfield 46, 3) := by decide +kernel
theorem dX1_init_78 : decode cX1_init 78 = .ok (.aload_n 0, 1) := by decide +kernel
theorem dX1_init_79 : decode cX1_init 79 = .ok (.iconst 0, 1) := by decide +kernel
theorem dX1_init_80 : decode cX1_init 80 = .ok (.putfield 49, 3) := by decide +kernel
theorem dX1_init_83 : decode cX1_init 83 = .ok (.aload_n 0, 1) := by decide +kernel
theorem dX1_init_84 : decode cX1_init 84 = .ok (.iconst (-1), 1) := by decide +kernel
theorem dX1_init_85 : decode cX1_init 85 = .ok (.putfield 52, 3) := by decide +kernel
theorem dX1_init_88 : decode cX1_init 88 = .ok (.aload_n 0, 1) := by decide +kernel
theorem dX1_init_89 : decode cX1_init 89 = .ok (.iconst 0, 1) := by decide +kernel
theorem dX1_init_90 : decode cX1_init 90 = .ok (.putfield 55, 3) := by decide +kernel
theorem dX1_init_93 : decode cX1_init 93 = .ok (.aload_n 0, 1) := by decide +kernel
theorem dX1_init_94 : decode cX1_init 94 = .ok (.iconst 0, 1) := by decide +kernel
theorem dX1_init_95 : decode cX1_init 95 = .ok (.putfield 58, 3) := by decide +kernel
theorem dX1_init_98 : decode cX1_init 98 = .ok (.aload_n 0, 1) := by decide +kernel
theorem dX1_init_99 : decode cX1_init 99 = .ok (.iconst 0, 1) := by decide +kernel
theorem dX1_init_100 : decode cX1_init 100 = .ok (.putfield 61, 3) := by decide +kernel
theorem dX1_init_103 : decode cX1_init 103 = .ok (.aload_n 0, 1) := by decide +kernel
theorem dX1_init_104 : decode cX1_init 104 = .ok (.aload_n 1, 1) := by decide +kernel
theorem dX1_init_105 : decode cX1_init 105 = .ok (.putfield 65, 3) := by decide +kernel
theorem dX1_init_108 : decode cX1_init 108 = .ok (.aload_n 0, 1) := by decide +kernel
theorem dX1_init_109 : decode cX1_init 109 = .ok (.aload_n 2, 1) := by decide +kernel
theorem dX1_init_110 : decode cX1_init 110 = .ok (.putfield 69, 3) := by decide +kernel
theorem dX1_init_113 : decode cX1_init 113 = .ok (.aload_n 0, 1) := by decide +kernel
theorem dX1_init_114 : decode cX1_init 114 = .ok (.new 73, 3) := by decide +kernel
theorem dX1_init_117 : decode cX1_init 117 = .ok (.dup, 1) := by decide +kernel
theorem dX1_init_118 : decode cX1_init 118 = .ok (.aload_n 2, 1) := by decide +kernel
theorem dX1_init_119 : decode cX1_init 119 = .ok (.invokespecial 75, 3) := by decide +kernel
theorem dX1_init_122 : decode cX1_init 122 = .ok (.putfield 78, 3) := by decide +kernel
theorem dX1_init_125 : decode cX1_init 125 = .ok (.aload_n 0, 1) := by decide +kernel
theorem dX1_init_126 : decode cX1_init 126 = .ok (.new 82, 3) := by decide +kernel
theorem dX1_init_129 : decode cX1_init 129 = .ok (.dup, 1) := by decide +kernel
theorem dX1_init_130 : decode cX1_init 130 = .ok (.aload_n 1, 1) := by decide +kernel
theorem dX1_init_131 : decode cX1_init 131 = .ok (.aload_n 2, 1) := by decide +kernel
theorem dX1_init_132 : decode cX1_init 132 = .ok (.aload_n 0, 1) := by decide +kernel
theorem dX1_init_133 : decode cX1_init 133 = .ok (.getfield 78, 3) := by decide +kernel
theorem dX1_init_136 : decode cX1_init 136 = .ok (.invokespecial 84, 3) := by decide +kernel
theorem dX1_init_139 : decode cX1_init 139 = .ok (.putfield 87, 3) := by decide +kernel
theorem dX1_init_142 : decode cX1_init 142 = .ok (.return_, 1) := by decide +kernel
set_option maxHeartbeats 4000000 in
set_option maxRecDepth 100000 in
theorem k_Cod (l : Launch) (d : gD) (b : Nat) (F : gM) (t : Nat) (p0 p1 : Nat) (h : F t = .inr (1, [.null, .null, .null, .null, .null, .null, .null, .int 0, .int 0, .int 0, .int 0, .int 0, .int 0, .int 0, .int 0, .int 0, .int 0, .int 0, .int 0]))  : gMv l d b yX1_init cX1_init 3 5 22 205 F [.ref t, .ref p0, .ref p1] (fun F' => ∃ a0 q1 a2 q3 a4 q5 a6 q7 a8 q9 a10 q11 a12 q13 a14 q15 a16 q17 a18 q19 o20 o21 : Nat, gCn d t 1 F F' [.ref p0, .ref p1, .ref o20, .ref o21, .ref a0, .ref a2, .ref a4, .int (-1), .int (-1), .int (-1), .int (-1), .int 0, .int 0, .int 0, .int 0, .int (-1), .int 0, .int 0, .int 0] [(a0, q1, 1000000, 0), (a2, q3, 1000000, 0), (a4, q5, 1000000, 0), (a6, q7, 1000000, 0), (a8, q9, 1000000, 0), (a10, q11, 1000000, 0), (a12, q13, 1000000, 0), (a14, q15, 1000000, 0), (a16, q17, 1000000, 0), (a18, q19, 1000000, 0)] ∧ F' o20 = .inr (9, [.ref p1, .ref a6, .ref a8, .ref a10, .ref a12, .ref a14, .ref a16, .int 0]) ∧ F' o21 = .inr (2, [.ref p0, .ref p1, .ref o20, .ref a18, .int 0, .int 0, .int 0])) := by
  refine gM_of2 rfl (nL := 3) (Nat.le_of_ble_eq_true rfl) ?_
  intro X hX hC; subst hX
  show gG X d b _ F 0 0 0 [some (.ref t), some (.ref p0), some (.ref p1)] []
  have hcn : gCn d t 1 F F [.null, .null, .null, .null, .null, .null, .null, .int 0, .int 0, .int 0, .int 0, .int 0, .int 0, .int 0, .int 0, .int 0, .int 0, .int 0, .int 0] [] := ⟨h, by rw [h]; exact g0_o, gEx.rf, gNw.nil⟩
  refine g_aload_n hC dX1_init_0 rfl ?_
  refine g_objInit hC dX1_init_1 kw_574 rfl ⟨Nat.le_of_ble_eq_true rfl, Nat.le_of_ble_eq_true rfl⟩ (Nat.le_of_ble_eq_true rfl) ?_
  refine g_newInts 1000000 hC hcn rfl rfl (by decide) (by decide) dX1_init_4 dX1_init_5 dX1_init_8 (fun _ _ _ _ kk => g_ldc hC dX1_init_9 kw_576 kk) dX1_init_11 dX1_init_14 nl_X1_9 cl_X1_12 fl_X1_15 (fun _ => ⟨rfl, rfl⟩) (Nat.le_of_ble_eq_true rfl) (fun _ => ⟨_, _, rfl⟩) (by first | exact Nat.le_of_ble_eq_true rfl | omega | (simp only [gR]; omega)) (by first | exact Nat.le_of_ble_eq_true rfl | omega | (simp only [gR]; omega)) (Nat.le_of_ble_eq_true rfl) (Nat.le_of_ble_eq_true rfl) (fun a1 q2 F3 h4 e6 hx7 => ?_)
  have hcn5 : gCn d t 1 F F3 [.null, .null, .null, .null, .ref a1, .null, .null, .int 0, .int 0, .int 0, .int 0, .int 0, .int 0, .int 0, .int 0, .int 0, .int 0, .int 0, .int 0] [(a1, q2, 1000000, 0)] := h4
  refine g_newInts 1000000 hC hcn5 rfl rfl (by decide) (by decide) dX1_init_17 dX1_init_18 dX1_init_21 (fun _ _ _ _ kk => g_ldc hC dX1_init_22 kw_576 kk) dX1_init_24 dX1_init_27 nl_X1_9 cl_X1_12 fl_X1_21 (fun _ => ⟨rfl, rfl⟩) (Nat.le_of_ble_eq_true rfl) (fun _ => ⟨_, _, rfl⟩) (by first | exact Nat.le_of_ble_eq_true rfl | omega | (simp only [gR]; omega)) (by first | exact Nat.le_of_ble_eq_true rfl | omega | (simp only [gR]; omega)) (Nat.le_of_ble_eq_true rfl) (Nat.le_of_ble_eq_true rfl) (fun a8 q9 F10 h11 e13 hx14 => ?_)
  have hcn12 : gCn d t 1 F F10 [.null, .null, .null, .null, .ref a1, .ref a8, .null, .int 0, .int 0, .int 0, .int 0, .int 0, .int 0, .int 0, .int 0, .int 0, .int 0, .int 0, .int 0] [(a1, q2, 1000000, 0), (a8, q9, 1000000, 0)] := h11
  refine g_newInts 1000000 hC hcn12 rfl rfl (by decide) (by decide) dX1_init_30 dX1_init_31 dX1_init_34 (fun _ _ _ _ kk => g_ldc hC dX1_init_35 kw_576 kk) dX1_init_37 dX1_init_40 nl_X1_9 cl_X1_12 fl_X1_24 (fun _ => ⟨rfl, rfl⟩) (Nat.le_of_ble_eq_true rfl) (fun _ => ⟨_, _, rfl⟩) (by first | exact Nat.le_of_ble_eq_true rfl | omega | (simp only [gR]; omega)) (by first | exact Nat.le_of_ble_eq_true rfl | omega | (simp only [gR]; omega)) (Nat.le_of_ble_eq_true rfl) (Nat.le_of_ble_eq_true rfl) (fun a15 q16 F17 h18 e20 hx21 => ?_)
  have hcn19 : gCn d t 1 F F17 [.null, .null, .null, .null, .ref a1, .ref a8, .ref a15, .int 0, .int 0, .int 0, .int 0, .int 0, .int 0, .int 0, .int 0, .int 0, .int 0, .int 0, .int 0] [(a1, q2, 1000000, 0), (a8, q9, 1000000, 0), (a15, q16, 1000000, 0)] := h18
  refine g_aload_n hC dX1_init_43 rfl ?_
  refine g_iconst (v := (-1)) hC dX1_init_44 rfl ?_
  refine g_putC hC hcn19 fl_X1_27 rfl rfl (Nat.le_of_ble_eq_true rfl) rfl dX1_init_45 (fun F22 hcn23 hx24 => ?_)
  have hx25 : ∀ x, x ≠ t → F17 x ≠ g0 → F22 x = F17 x := fun x q _ => hx24 x q
  refine g_aload_n hC dX1_init_48 rfl ?_
  refine g_iconst (v := (-1)) hC dX1_init_49 rfl ?_
  refine g_putC hC hcn23 fl_X1_31 rfl rfl (Nat.le_of_ble_eq_true rfl) rfl dX1_init_50 (fun F26 hcn27 hx28 => ?_)
  have hx29 : ∀ x, x ≠ t → F22 x ≠ g0 → F26 x = F22 x := fun x q _ => hx28 x q
  refine g_aload_n hC dX1_init_53 rfl ?_
  refine g_iconst (v := (-1)) hC dX1_init_54 rfl ?_
  refine g_putC hC hcn27 fl_X1_34 rfl rfl (Nat.le_of_ble_eq_true rfl) rfl dX1_init_55 (fun F30 hcn31 hx32 => ?_)
  have hx33 : ∀ x, x ≠ t → F26 x ≠ g0 → F30 x = F26 x := fun x q _ => hx32 x q
  refine g_aload_n hC dX1_init_58 rfl ?_
  refine g_iconst (v := (-1)) hC dX1_init_59 rfl ?_
  refine g_putC hC hcn31 fl_X1_37 rfl rfl (Nat.le_of_ble_eq_true rfl) rfl dX1_init_60 (fun F34 hcn35 hx36 => ?_)
  have hx37 : ∀ x, x ≠ t → F30 x ≠ g0 → F34 x = F30 x := fun x q _ => hx36 x q
  refine g_aload_n hC dX1_init_63 rfl ?_
  refine g_iconst (v := 0) hC dX1_init_64 rfl ?_
  refine g_putC hC hcn35 fl_X1_40 rfl rfl (Nat.le_of_ble_eq_true rfl) rfl dX1_init_65 (fun F38 hcn39 hx40 => ?_)
  have hx41 : ∀ x, x ≠ t → F34 x ≠ g0 → F38 x = F34 x := fun x q _ => hx40 x q
  refine g_aload_n hC dX1_init_68 rfl ?_
  refine g_iconst (v := 0) hC dX1_init_69 rfl ?_
  refine g_putC hC hcn39 fl_X1_43 rfl rfl (Nat.le_of_ble_eq_true rfl) rfl dX1_init_70 (fun F42 hcn43 hx44 => ?_)
  have hx45 : ∀ x, x ≠ t → F38 x ≠ g0 → F42 x = F38 x := fun x q _ => hx44 x q
  refine g_aload_n hC dX1_init_73 rfl ?_
  refine g_iconst (v := 0) hC dX1_init_74 rfl ?_
  refine g_putC hC hcn43 fl_X1_46 rfl rfl (Nat.le_of_ble_eq_true rfl) rfl dX1_init_75 (fun F46 hcn47 hx48 => ?_)
  have hx49 : ∀ x, x ≠ t → F42 x ≠ g0 → F46 x = F42 x := fun x q _ => hx48 x q
  refine g_aload_n hC dX1_init_78 rfl ?_
  refine g_iconst (v := 0) hC dX1_init_79 rfl ?_
  refine g_putC hC hcn47 fl_X1_49 rfl rfl (Nat.le_of_ble_eq_true rfl) rfl dX1_init_80 (fun F50 hcn51 hx52 => ?_)
  have hx53 : ∀ x, x ≠ t → F46 x ≠ g0 → F50 x = F46 x := fun x q _ => hx52 x q
  refine g_aload_n hC dX1_init_83 rfl ?_
  refine g_iconst (v := (-1)) hC dX1_init_84 rfl ?_
  refine g_putC hC hcn51 fl_X1_52 rfl rfl (Nat.le_of_ble_eq_true rfl) rfl dX1_init_85 (fun F54 hcn55 hx56 => ?_)
  have hx57 : ∀ x, x ≠ t → F50 x ≠ g0 → F54 x = F50 x := fun x q _ => hx56 x q
  refine g_aload_n hC dX1_init_88 rfl ?_
  refine g_iconst (v := 0) hC dX1_init_89 rfl ?_
  refine g_putC hC hcn55 fl_X1_55 rfl rfl (Nat.le_of_ble_eq_true rfl) rfl dX1_init_90 (fun F58 hcn59 hx60 => ?_)
  have hx61 : ∀ x, x ≠ t → F54 x ≠ g0 → F58 x = F54 x := fun x q _ => hx60 x q
  refine g_aload_n hC dX1_init_93 rfl ?_
  refine g_iconst (v := 0) hC dX1_init_94 rfl ?_
  refine g_putC hC hcn59 fl_X1_58 rfl rfl (Nat.le_of_ble_eq_true rfl) rfl dX1_init_95 (fun F62 hcn63 hx64 => ?_)
  have hx65 : ∀ x, x ≠ t → F58 x ≠ g0 → F62 x = F58 x := fun x q _ => hx64 x q
  refine g_aload_n hC dX1_init_98 rfl ?_
  refine g_iconst (v := 0) hC dX1_init_99 rfl ?_
  refine g_putC hC hcn63 fl_X1_61 rfl rfl (Nat.le_of_ble_eq_true rfl) rfl dX1_init_100 (fun F66 hcn67 hx68 => ?_)
  have hx69 : ∀ x, x ≠ t → F62 x ≠ g0 → F66 x = F62 x := fun x q _ => hx68 x q
  refine g_aload_n hC dX1_init_103 rfl ?_
  refine g_aload_n hC dX1_init_104 rfl ?_
  refine g_putC hC hcn67 fl_X1_65 rfl rfl (Nat.le_of_ble_eq_true rfl) rfl dX1_init_105 (fun F70 hcn71 hx72 => ?_)
  have hx73 : ∀ x, x ≠ t → F66 x ≠ g0 → F70 x = F66 x := fun x q _ => hx72 x q
  refine g_aload_n hC dX1_init_108 rfl ?_
  refine g_aload_n hC dX1_init_109 rfl ?_
  refine g_putC hC hcn71 fl_X1_69 rfl rfl (Nat.le_of_ble_eq_true rfl) rfl dX1_init_110 (fun F74 hcn75 hx76 => ?_)
  have hx77 : ∀ x, x ≠ t → F70 x ≠ g0 → F74 x = F70 x := fun x q _ => hx76 x q
  refine g_aload_n hC dX1_init_113 rfl ?_
  refine g_new hC nl_X1_73 (by first | exact Nat.le_of_ble_eq_true rfl | omega | (simp only [gR]; omega)) (by first | exact Nat.le_of_ble_eq_true rfl | omega | (simp only [gR]; omega)) dX1_init_114 (fun o78 e_o78 => ?_)
  refine g_vF (fun F79 hF79 => ?_)
  obtain ⟨hcn80, hk81⟩ := gCn.newz hcn75 e_o78 hF79
  have hx82 : ∀ x, x ≠ t → F74 x ≠ g0 → F79 x = F74 x := fun x _ q => hk81 x q
  have f83 : F79 o78 = .inr (9, [.null, .null, .null, .null, .null, .null, .null, .int 0]) := by rw [hF79]; exact va_up_self _ _ _
  refine g_dup hC dX1_init_117 rfl ?_
  refine g_aload_n hC dX1_init_118 rfl ?_
  refine g_callIv (As := [.ref p1]) hC (k_Sco X.la d b F79 o78 p1 f83) cl_X1_75 rfl rfl (Nat.le_of_ble_eq_true rfl) (gFit_of (Nat.le_of_ble_eq_true rfl) (Nat.le_of_ble_eq_true rfl) (by first | exact Nat.le_of_ble_eq_true rfl | omega | (simp only [gR]; omega)) (by first | exact Nat.le_of_ble_eq_true rfl | omega | (simp only [gR]; omega))) dX1_init_119 (fun F84 p85 => ?_)
  obtain ⟨a86, q87, a88, q89, a90, q91, a92, q93, a94, q95, a96, q97, h98⟩ := p85
  obtain ⟨hcn99, hk100⟩ := gCn.call hcn75 e_o78 hF79 g0_o h98
  have hx101 : ∀ x, x ≠ t → F74 x ≠ g0 → F84 x = F74 x := fun x _ q => hk100 x q
  refine g_putC hC hcn99 fl_X1_78 rfl rfl (Nat.le_of_ble_eq_true rfl) rfl dX1_init_122 (fun F102 hcn103 hx104 => ?_)
  have hx105 : ∀ x, x ≠ t → F84 x ≠ g0 → F102 x = F84 x := fun x q _ => hx104 x q
  have f106 : F102 o78 = .inr (9, [.ref p1, .ref a86, .ref a88, .ref a90, .ref a92, .ref a94, .ref a96, .int 0]) := (hx105 o78 (gne h98.1 hcn99.1 (gk_oo rfl)) (by rw [h98.1]; exact g0_o)).trans h98.1
  refine g_aload_n hC dX1_init_125 rfl ?_
  refine g_new hC nl_X1_82 (by first | exact Nat.le_of_ble_eq_true rfl | omega | (simp only [gR]; omega)) (by first | exact Nat.le_of_ble_eq_true rfl | omega | (simp only [gR]; omega)) dX1_init_126 (fun o107 e_o107 => ?_)
  refine g_vF (fun F108 hF108 => ?_)
  obtain ⟨hcn109, hk110⟩ := gCn.newz hcn103 e_o107 hF108
  have hx111 : ∀ x, x ≠ t → F102 x ≠ g0 → F108 x = F102 x := fun x _ q => hk110 x q
  have f112 : F108 o78 = .inr (9, [.ref p1, .ref a86, .ref a88, .ref a90, .ref a92, .ref a94, .ref a96, .int 0]) := (hx111 o78 (gne f106 hcn103.1 (gk_oo rfl)) (by rw [f106]; exact g0_o)).trans f106
  have f113 : F108 o107 = .inr (2, [.null, .null, .null, .null, .int 0, .int 0, .int 0]) := by rw [hF108]; exact va_up_self _ _ _
  refine g_dup hC dX1_init_129 rfl ?_
  refine g_aload_n hC dX1_init_130 rfl ?_
  refine g_aload_n hC dX1_init_131 rfl ?_
  refine g_aload_n hC dX1_init_132 rfl ?_
  refine g_get hC fl_X1_78 hcn109.1 rfl dX1_init_133 ?_
  refine g_callIv (As := [.ref p0, .ref p1, .ref o78]) hC (k_Con X.la d b F108 o107 p0 p1 o78 f113) cl_X1_84 rfl rfl (Nat.le_of_ble_eq_true rfl) (gFit_of (Nat.le_of_ble_eq_true rfl) (Nat.le_of_ble_eq_true rfl) (by first | exact Nat.le_of_ble_eq_true rfl | omega | (simp only [gR]; omega)) (by first | exact Nat.le_of_ble_eq_true rfl | omega | (simp only [gR]; omega))) dX1_init_136 (fun F114 p115 => ?_)
  obtain ⟨a116, q117, h118⟩ := p115
  obtain ⟨hcn119, hk120⟩ := gCn.call hcn103 e_o107 hF108 g0_o h118
  have hx121 : ∀ x, x ≠ t → F102 x ≠ g0 → F114 x = F102 x := fun x _ q => hk120 x q
  have f122 : F114 o78 = .inr (9, [.ref p1, .ref a86, .ref a88, .ref a90, .ref a92, .ref a94, .ref a96, .int 0]) := (hx121 o78 (gne f106 hcn103.1 (gk_oo rfl)) (by rw [f106]; exact g0_o)).trans f106
  refine g_putC hC hcn119 fl_X1_87 rfl rfl (Nat.le_of_ble_eq_true rfl) rfl dX1_init_139 (fun F123 hcn124 hx125 => ?_)
  have hx126 : ∀ x, x ≠ t → F114 x ≠ g0 → F123 x = F114 x := fun x q _ => hx125 x q
  have f127 : F123 o78 = .inr (9, [.ref p1, .ref a86, .ref a88, .ref a90, .ref a92, .ref a94, .ref a96, .int 0]) := (hx126 o78 (gne f122 hcn119.1 (gk_oo rfl)) (by rw [f122]; exact g0_o)).trans f122
  have f128 : F123 o107 = .inr (2, [.ref p0, .ref p1, .ref o78, .ref a116, .int 0, .int 0, .int 0]) := (hx126 o107 (gne h118.1 hcn119.1 (gk_oo rfl)) (by rw [h118.1]; exact g0_o)).trans h118.1
  exact g_vret hC ⟨a1, q2, a8, q9, a15, q16, a86, q87, a88, q89, a90, q91, a92, q93, a94, q95, a96, q97, a116, q117, o78, o107, hcn124, f127, f128⟩ (by first | exact Nat.le_of_ble_eq_true rfl | omega | (simp only [gR]; omega)) (by first | exact Nat.le_of_ble_eq_true rfl | omega | (simp only [gR]; omega)) dX1_init_142
theorem dX5_init_0 : decode cX5_init 0 = .ok (.aload_n 0, 1) := by decide +kernel
theorem dX5_init_1 : decode cX5_init 1 = .ok (.invokespecial 3, 3) := by decide +kernel
theorem dX5_init_4 : decode cX5_init 4 = .ok (.aload_n 0, 1) := by decide +kernel
theorem dX5_init_5 : decode cX5_init 5 = .ok (.new 9, 3) := by decide +kernel
theorem dX5_init_8 : decode cX5_init 8 = .ok (.dup, 1) := by decide +kernel
theorem dX5_init_9 : decode cX5_init 9 = .ok (.invokespecial 11, 3) := by decide +kernel
theorem dX5_init_12 : decode cX5_init 12 = .ok (.putfield 12, 3) := by decide +kernel
theorem dX5_init_15 : decode cX5_init 15 = .ok (.aload_n 0, 1) := by decide +kernel
theorem dX5_init_16 : decode cX5_init 16 = .ok (.new 18, 3) := by decide +kernel
theorem dX5_init_19 : decode cX5_init 19 = .ok (.dup, 1) := by decide +kernel
theorem dX5_init_20 : decode cX5_init 20 = .ok (.ldc 20, 2) := by decide +kernel
theorem dX5_init_22 : decode cX5_init 22 = .ok (.invokespecial 21, 3) := by decide +kernel
theorem dX5_init_25 : decode cX5_init 25 = .ok (.putfield 24, 3) := by decide +kernel
theorem dX5_init_28 : decode cX5_init 28 = .ok (.aload_n 0, 1) := by decide +kernel
theorem dX5_init_29 : decode cX5_init 29 = .ok (.new 18, 3) := by decide +kernel
theorem dX5_init_32 : decode cX5_init 32 = .ok (.dup, 1) := by decide +kernel
theorem dX5_init_33 : decode cX5_init 33 = .ok (.ldc 20, 2) := by decide +kernel
theorem dX5_init_35 : decode cX5_init 35 = .ok (.invokespecial 21, 3) := by decide +kernel
theorem dX5_init_38 : decode cX5_init 38 = .ok (.putfield 28, 3) := by decide +kernel
theorem dX5_init_41 : decode cX5_init 41 = .ok (.aload_n 0, 1) := by decide +kernel
theorem dX5_init_42 : decode cX5_init 42 = .ok (.sipush 4096, 3) := by decide +kernel
theorem dX5_init_45 : decode cX5_init 45 = .ok (.newarray .int, 2) := by decide +kernel
theorem dX5_init_47 : decode cX5_init 47 = .ok (.putfield 31, 3) := by decide +kernel
theorem dX5_init_50 : decode cX5_init 50 = .ok (.aload_n 0, 1) := by decide +kernel
theorem dX5_init_51 : decode cX5_init 51 = .ok (.iconst 0, 1) := by decide +kernel
theorem dX5_init_52 : decode cX5_init 52 = .ok (.putfield 35, 3) := by decide +kernel
theorem dX5_init_55 : decode cX5_init 55 = .ok (.aload_n 0, 1) := by decide +kernel
theorem dX5_init_56 : decode cX5_init 56 = .ok (.iconst 0, 1) := by decide +kernel
theorem dX5_init_57 : decode cX5_init 57 = .ok (.putfield 39, 3) := by decide +kernel
theorem dX5_init_60 : decode cX5_init 60 = .ok (.aload_n 0, 1) := by decide +kernel
theorem dX5_init_61 : decode cX5_init 61 = .ok (.iconst 0, 1) := by decide +kernel
theorem dX5_init_62 : decode cX5_init 62 = .ok (.putfield 42, 3) := by decide +kernel
theorem dX5_init_65 : decode cX5_init 65 = .ok (.aload_n 0, 1) := by decide +kernel
theorem dX5_init_66 : decode cX5_init 66 = .ok (.iconst (-1), 1) := by decide +kernel
theorem dX5_init_67 : decode cX5_init 67 = .ok (.putfield 45, 3) := by decide +kernel
theorem dX5_init_70 : decode cX5_init 70 = .ok (.aload_n 0, 1) := by decide +kernel
theorem dX5_init_71 : decode cX5_init 71 = .ok (.iconst 0, 1) := by decide +kernel
theorem dX5_init_72 : decode cX5_init 72 = .ok (.putfield 48, 3) := by decide +kernel
theorem dX5_init_75 : decode cX5_init 75 = .ok (.aload_n 0, 1) := by decide +kernel
theorem dX5_init_76 : decode cX5_init 76 = .ok (.iconst 0, 1) := by decide +kernel
theorem dX5_init_77 : decode cX5_init 77 = .ok (.putfield 51, 3) := by decide +kernel
theorem dX5_init_80 : decode cX5_init 80 = .ok (.aload_n 0, 1) := by decide +kernel
theorem dX5_init_81 : decode cX5_init 81 = .ok (.iconst 0, 1) := by decide +kernel
theorem dX5_init_82 : decode cX5_init 82 = .ok (.putfield 54, 3) := by decide +kernel
theorem dX5_init_85 : decode cX5_init 85 = .ok (.aload_n 0, 1) := by decide +kernel
theorem dX5_init_86 : decode cX5_init 86 = .ok (.iconst 0, 1) := by decide +kernel
theorem dX5_init_87 : decode cX5_init 87 = .ok (.putfield 57, 3) := by decide +kernel
theorem dX5_init_90 : decode cX5_init 90 = .ok (.aload_n 0, 1) := by decide +kernel
theorem dX5_init_91 : decode cX5_init 91 = .ok (.iconst (-1), 1) := by decide +kernel
theorem dX5_init_92 : decode cX5_init 92 = .ok (.putfield 61, 3) := by decide +kernel
theorem dX5_init_95 : decode cX5_init 95 = .ok (.aload_n 0, 1) := by decide +kernel
theorem dX5_init_96 : decode cX5_init 96 = .ok (.iconst 0, 1) := by decide +kernel
theorem dX5_init_97 : decode cX5_init 97 = .ok (.putfield 64, 3) := by decide +kernel
theorem dX5_init_100 : decode cX5_init 100 = .ok (.aload_n 0, 1) := by decide +kernel
theorem dX5_init_101 : decode cX5_init 101 = .ok (.aload_n 1, 1) := by decide +kernel
theorem dX5_init_102 : decode cX5_init 102 = .ok (.putfield 67, 3) := by decide +kernel
theorem dX5_init_105 : decode cX5_init 105 = .ok (.aload_n 0, 1) := by decide +kernel
theorem dX5_init_106 : decode cX5_init 106 = .ok (.aload_n 2, 1) := by decide +kernel
theorem dX5_init_107 : decode cX5_init 107 = .ok (.putfield 71, 3) := by decide +kernel
theorem dX5_init_110 : decode cX5_init 110 = .ok (.return_, 1) := by decide +kernel
set_option maxHeartbeats 4000000 in
set_option maxRecDepth 100000 in
theorem k_Mac (l : Launch) (d : gD) (b : Nat) (F : gM) (t : Nat) (p0 p1 : Nat) (h : F t = .inr (5, [.null, .null, .null, .null, .null, .null, .int 0, .int 0, .int 0, .int 0, .int 0, .int 0, .int 0, .int 0, .int 0, .int 0]))  : gMv l d b yX5_init cX5_init 3 5 10 4174 F [.ref t, .ref p0, .ref p1] (fun F' => ∃ a0 q1 a2 q3 a4 q5 a6 q7 q8 o9 : Nat, gCn d t 5 F F' [.ref p0, .ref p1, .ref o9, .ref a4, .ref a6, .ref q8, .int 0, .int 0, .int 0, .int (-1), .int 0, .int 0, .int 0, .int 0, .int (-1), .int 0] [(a0, q1, 100, 0), (a2, q3, 100, 0), (a4, q5, 1000000, 0), (a6, q7, 1000000, 0), (q8, q8, 4096, 2)] ∧ F' o9 = .inr (3, [.ref a0, .ref a2])) := by
  refine gM_of2 rfl (nL := 3) (Nat.le_of_ble_eq_true rfl) ?_
  intro X hX hC; subst hX
  show gG X d b _ F 0 0 0 [some (.ref t), some (.ref p0), some (.ref p1)] []
  have hcn : gCn d t 5 F F [.null, .null, .null, .null, .null, .null, .int 0, .int 0, .int 0, .int 0, .int 0, .int 0, .int 0, .int 0, .int 0, .int 0] [] := ⟨h, by rw [h]; exact g0_o, gEx.rf, gNw.nil⟩
  refine g_aload_n hC dX5_init_0 rfl ?_
  refine g_objInit hC dX5_init_1 kw_731 rfl ⟨Nat.le_of_ble_eq_true rfl, Nat.le_of_ble_eq_true rfl⟩ (Nat.le_of_ble_eq_true rfl) ?_
  refine g_aload_n hC dX5_init_4 rfl ?_
  refine g_new hC nl_X5_9 (by first | exact Nat.le_of_ble_eq_true rfl | omega | (simp only [gR]; omega)) (by first | exact Nat.le_of_ble_eq_true rfl | omega | (simp only [gR]; omega)) dX5_init_5 (fun o1 e_o1 => ?_)
  refine g_vF (fun F2 hF2 => ?_)
  obtain ⟨hcn3, hk4⟩ := gCn.newz hcn e_o1 hF2
  have hx5 : ∀ x, x ≠ t → F x ≠ g0 → F2 x = F x := fun x _ q => hk4 x q
  have f6 : F2 o1 = .inr (3, [.null, .null]) := by rw [hF2]; exact va_up_self _ _ _
  refine g_dup hC dX5_init_8 rfl ?_
  refine g_callINv (As := []) hC (k_H X.la d b F2 o1 f6) cl_X5_11 rfl rfl (Nat.le_of_ble_eq_true rfl) (gFit_of (Nat.le_of_ble_eq_true rfl) (Nat.le_of_ble_eq_true rfl) (by first | exact Nat.le_of_ble_eq_true rfl | omega | (simp only [gR]; omega)) (by first | exact Nat.le_of_ble_eq_true rfl | omega | (simp only [gR]; omega))) dX5_init_9 (fun F7 p8 => ?_)
  obtain ⟨a9, q10, a11, q12, h13⟩ := p8
  obtain ⟨hcn14, hk15⟩ := gCn.call hcn e_o1 hF2 g0_o h13
  have hx16 : ∀ x, x ≠ t → F x ≠ g0 → F7 x = F x := fun x _ q => hk15 x q
  refine g_putC hC hcn14 fl_X5_12 rfl rfl (Nat.le_of_ble_eq_true rfl) rfl dX5_init_12 (fun F17 hcn18 hx19 => ?_)
  have hx20 : ∀ x, x ≠ t → F7 x ≠ g0 → F17 x = F7 x := fun x q _ => hx19 x q
  have f21 : F17 o1 = .inr (3, [.ref a9, .ref a11]) := (hx20 o1 (gne h13.1 hcn14.1 (gk_oo rfl)) (by rw [h13.1]; exact g0_o)).trans h13.1
  refine g_newInts 1000000 hC hcn18 rfl rfl (by decide) (by decide) dX5_init_15 dX5_init_16 dX5_init_19 (fun _ _ _ _ kk => g_ldc hC dX5_init_20 kw_748 kk) dX5_init_22 dX5_init_25 nl_X5_18 cl_X5_21 fl_X5_24 (fun _ => ⟨rfl, rfl⟩) (Nat.le_of_ble_eq_true rfl) (fun _ => ⟨_, _, rfl⟩) (by first | exact Nat.le_of_ble_eq_true rfl | omega | (simp only [gR]; omega)) (by first | exact Nat.le_of_ble_eq_true rfl | omega | (simp only [gR]; omega)) (Nat.le_of_ble_eq_true rfl) (Nat.le_of_ble_eq_true rfl) (fun a22 q23 F24 h25 e27 hx28 => ?_)
  have f29 : F24 o1 = .inr (3, [.ref a9, .ref a11]) := (hx28 o1 (gne f21 hcn18.1 (gk_oo rfl)) (by rw [f21]; exact g0_o)).trans f21
  have hcn26 : gCn d t 5 F F24 [.null, .null, .ref o1, .ref a22, .null, .null, .int 0, .int 0, .int 0, .int 0, .int 0, .int 0, .int 0, .int 0, .int 0, .int 0] [(a9, q10, 100, 0), (a11, q12, 100, 0), (a22, q23, 1000000, 0)] := h25
  refine g_newInts 1000000 hC hcn26 rfl rfl (by decide) (by decide) dX5_init_28 dX5_init_29 dX5_init_32 (fun _ _ _ _ kk => g_ldc hC dX5_init_33 kw_748 kk) dX5_init_35 dX5_init_38 nl_X5_18 cl_X5_21 fl_X5_28 (fun _ => ⟨rfl, rfl⟩) (Nat.le_of_ble_eq_true rfl) (fun _ => ⟨_, _, rfl⟩) (by first | exact Nat.le_of_ble_eq_true rfl | omega | (simp only [gR]; omega)) (by first | exact Nat.le_of_ble_eq_true rfl | omega | (simp only [gR]; omega)) (Nat.le_of_ble_eq_true rfl) (Nat.le_of_ble_eq_true rfl) (fun a30 q31 F32 h33 e35 hx36 => ?_)
  have f37 : F32 o1 = .inr (3, [.ref a9, .ref a11]) := (hx36 o1 (gne f29 hcn26.1 (gk_oo rfl)) (by rw [f29]; exact g0_o)).trans f29
  have hcn34 : gCn d t 5 F F32 [.null, .null, .ref o1, .ref a22, .ref a30, .null, .int 0, .int 0, .int 0, .int 0, .int 0, .int 0, .int 0, .int 0, .int 0, .int 0] [(a9, q10, 100, 0), (a11, q12, 100, 0), (a22, q23, 1000000, 0), (a30, q31, 1000000, 0)] := h33
  refine g_aload_n hC dX5_init_41 rfl ?_
  refine g_sipush (v := 4096) hC dX5_init_42 rfl ?_
  refine g_newa (atype := .int) (N := 4096) (a0 := (4096, .inl (fun _ => 0))) hC 0 kw_288 rfl (by decide) (fun _ => rfl) (by decide) rfl (Nat.le_of_ble_eq_true rfl) (by first | exact Nat.le_of_ble_eq_true rfl | omega | (simp only [gR]; omega)) (by first | exact Nat.le_of_ble_eq_true rfl | omega | (simp only [gR]; omega)) dX5_init_45 (fun q38 e_q38 => ?_)
  refine g_vF (fun F39 hF39 => ?_)
  obtain ⟨hcn40, hk41⟩ := gCn.arr hcn34 e_q38 hF39
  have hx42 : ∀ x, x ≠ t → F32 x ≠ g0 → F39 x = F32 x := fun x _ q => hk41 x q
  have f43 : F39 o1 = .inr (3, [.ref a9, .ref a11]) := (hx42 o1 (gne f37 hcn34.1 (gk_oo rfl)) (by rw [f37]; exact g0_o)).trans f37
  refine g_putC hC hcn40 fl_X5_31 rfl rfl (Nat.le_of_ble_eq_true rfl) rfl dX5_init_47 (fun F44 hcn45 hx46 => ?_)
  have hx47 : ∀ x, x ≠ t → F39 x ≠ g0 → F44 x = F39 x := fun x q _ => hx46 x q
  have f48 : F44 o1 = .inr (3, [.ref a9, .ref a11]) := (hx47 o1 (gne f43 hcn40.1 (gk_oo rfl)) (by rw [f43]; exact g0_o)).trans f43
  refine g_aload_n hC dX5_init_50 rfl ?_
  refine g_iconst (v := 0) hC dX5_init_51 rfl ?_
  refine g_putC hC hcn45 fl_X5_35 rfl rfl (Nat.le_of_ble_eq_true rfl) rfl dX5_init_52 (fun F49 hcn50 hx51 => ?_)
  have hx52 : ∀ x, x ≠ t → F44 x ≠ g0 → F49 x = F44 x := fun x q _ => hx51 x q
  have f53 : F49 o1 = .inr (3, [.ref a9, .ref a11]) := (hx52 o1 (gne f48 hcn45.1 (gk_oo rfl)) (by rw [f48]; exact g0_o)).trans f48
  refine g_aload_n hC dX5_init_55 rfl ?_
  refine g_iconst (v := 0) hC dX5_init_56 rfl ?_
  refine g_putC hC hcn50 fl_X5_39 rfl rfl (Nat.le_of_ble_eq_true rfl) rfl dX5_init_57 (fun F54 hcn55 hx56 => ?_)
  have hx57 : ∀ x, x ≠ t → F49 x ≠ g0 → F54 x = F49 x := fun x q _ => hx56 x q
  have f58 : F54 o1 = .inr (3, [.ref a9, .ref a11]) := (hx57 o1 (gne f53 hcn50.1 (gk_oo rfl)) (by rw [f53]; exact g0_o)).trans f53
  refine g_aload_n hC dX5_init_60 rfl ?_
  refine g_iconst (v := 0) hC dX5_init_61 rfl ?_
  refine g_putC hC hcn55 fl_X5_42 rfl rfl (Nat.le_of_ble_eq_true rfl) rfl dX5_init_62 (fun F59 hcn60 hx61 => ?_)
  have hx62 : ∀ x, x ≠ t → F54 x ≠ g0 → F59 x = F54 x := fun x q _ => hx61 x q
  have f63 : F59 o1 = .inr (3, [.ref a9, .ref a11]) := (hx62 o1 (gne f58 hcn55.1 (gk_oo rfl)) (by rw [f58]; exact g0_o)).trans f58
  refine g_aload_n hC dX5_init_65 rfl ?_
  refine g_iconst (v := (-1)) hC dX5_init_66 rfl ?_
  refine g_putC hC hcn60 fl_X5_45 rfl rfl (Nat.le_of_ble_eq_true rfl) rfl dX5_init_67 (fun F64 hcn65 hx66 => ?_)
  have hx67 : ∀ x, x ≠ t → F59 x ≠ g0 → F64 x = F59 x := fun x q _ => hx66 x q
  have f68 : F64 o1 = .inr (3, [.ref a9, .ref a11]) := (hx67 o1 (gne f63 hcn60.1 (gk_oo rfl)) (by rw [f63]; exact g0_o)).trans f63
  refine g_aload_n hC dX5_init_70 rfl ?_
  refine g_iconst (v := 0) hC dX5_init_71 rfl ?_
  refine g_putC hC hcn65 fl_X5_48 rfl rfl (Nat.le_of_ble_eq_true rfl) rfl dX5_init_72 (fun F69 hcn70 hx71 => ?_)
  have hx72 : ∀ x, x ≠ t → F64 x ≠ g0 → F69 x = F64 x := fun x q _ => hx71 x q
  have f73 : F69 o1 = .inr (3, [.ref a9, .ref a11]) := (hx72 o1 (gne f68 hcn65.1 (gk_oo rfl)) (by rw [f68]; exact g0_o)).trans f68
  refine g_aload_n hC dX5_init_75 rfl ?_
  refine g_iconst (v := 0) hC dX5_init_76 rfl ?_
  refine g_putC hC hcn70 fl_X5_51 rfl rfl (Nat.le_of_ble_eq_true rfl) rfl dX5_init_77 (fun F74 hcn75 hx76 => ?_)
  have hx77 : ∀ x, x ≠ t → F69 x ≠ g0 → F74 x = F69 x := fun x q _ => hx76 x q
  have f78 : F74 o1 = .inr (3, [.ref a9, .ref a11]) := (hx77 o1 (gne f73 hcn70.1 (gk_oo rfl)) (by rw [f73]; exact g0_o)).trans f73
  refine g_aload_n hC dX5_init_80 rfl ?_
  refine g_iconst (v := 0) hC dX5_init_81 rfl ?_
  refine g_putC hC hcn75 fl_X5_54 rfl rfl (Nat.le_of_ble_eq_true rfl) rfl dX5_init_82 (fun F79 hcn80 hx81 => ?_)
  have hx82 : ∀ x, x ≠ t → F74 x ≠ g0 → F79 x = F74 x := fun x q _ => hx81 x q
  have f83 : F79 o1 = .inr (3, [.ref a9, .ref a11]) := (hx82 o1 (gne f78 hcn75.1 (gk_oo rfl)) (by rw [f78]; exact g0_o)).trans f78
  refine g_aload_n hC dX5_init_85 rfl ?_
  refine g_iconst (v := 0) hC dX5_init_86 rfl ?_
  refine g_putC hC hcn80 fl_X5_57 rfl rfl (Nat.le_of_ble_eq_true rfl) rfl dX5_init_87 (fun F84 hcn85 hx86 => ?_)
  have hx87 : ∀ x, x ≠ t → F79 x ≠ g0 → F84 x = F79 x := fun x q _ => hx86 x q
  have f88 : F84 o1 = .inr (3, [.ref a9, .ref a11]) := (hx87 o1 (gne f83 hcn80.1 (gk_oo rfl)) (by rw [f83]; exact g0_o)).trans f83
  refine g_aload_n hC dX5_init_90 rfl ?_
  refine g_iconst (v := (-1)) hC dX5_init_91 rfl ?_
  refine g_putC hC hcn85 fl_X5_61 rfl rfl (Nat.le_of_ble_eq_true rfl) rfl dX5_init_92 (fun F89 hcn90 hx91 => ?_)
  have hx92 : ∀ x, x ≠ t → F84 x ≠ g0 → F89 x = F84 x := fun x q _ => hx91 x q
  have f93 : F89 o1 = .inr (3, [.ref a9, .ref a11]) := (hx92 o1 (gne f88 hcn85.1 (gk_oo rfl)) (by rw [f88]; exact g0_o)).trans f88
  refine g_aload_n hC dX5_init_95 rfl ?_
  refine g_iconst (v := 0) hC dX5_init_96 rfl ?_
  refine g_putC hC hcn90 fl_X5_64 rfl rfl (Nat.le_of_ble_eq_true rfl) rfl dX5_init_97 (fun F94 hcn95 hx96 => ?_)
  have hx97 : ∀ x, x ≠ t → F89 x ≠ g0 → F94 x = F89 x := fun x q _ => hx96 x q
  have f98 : F94 o1 = .inr (3, [.ref a9, .ref a11]) := (hx97 o1 (gne f93 hcn90.1 (gk_oo rfl)) (by rw [f93]; exact g0_o)).trans f93
  refine g_aload_n hC dX5_init_100 rfl ?_
  refine g_aload_n hC dX5_init_101 rfl ?_
  refine g_putC hC hcn95 fl_X5_67 rfl rfl (Nat.le_of_ble_eq_true rfl) rfl dX5_init_102 (fun F99 hcn100 hx101 => ?_)
  have hx102 : ∀ x, x ≠ t → F94 x ≠ g0 → F99 x = F94 x := fun x q _ => hx101 x q
  have f103 : F99 o1 = .inr (3, [.ref a9, .ref a11]) := (hx102 o1 (gne f98 hcn95.1 (gk_oo rfl)) (by rw [f98]; exact g0_o)).trans f98
  refine g_aload_n hC dX5_init_105 rfl ?_
  refine g_aload_n hC dX5_init_106 rfl ?_
  refine g_putC hC hcn100 fl_X5_71 rfl rfl (Nat.le_of_ble_eq_true rfl) rfl dX5_init_107 (fun F104 hcn105 hx106 => ?_)
  have hx107 : ∀ x, x ≠ t → F99 x ≠ g0 → F104 x = F99 x := fun x q _ => hx106 x q
  have f108 : F104 o1 = .inr (3, [.ref a9, .ref a11]) := (hx107 o1 (gne f103 hcn100.1 (gk_oo rfl)) (by rw [f103]; exact g0_o)).trans f103
  exact g_vret hC ⟨a9, q10, a11, q12, a22, q23, a30, q31, q38, o1, hcn105, f108⟩ (by first | exact Nat.le_of_ble_eq_true rfl | omega | (simp only [gR]; omega)) (by first | exact Nat.le_of_ble_eq_true rfl | omega | (simp only [gR]; omega)) dX5_init_110
theorem dX0_init_0 : decode cX0_init 0 = .ok (.aload_n 0, 1) := by decide +kernel
theorem dX0_init_1 : decode cX0_init 1 = .ok (.invokespecial 3, 3) := by decide +kernel
theorem dX0_init_4 : decode cX0_init 4 = .ok (.aload_n 0, 1) := by decide +kernel
theorem dX0_init_5 : decode cX0_init 5 = .ok (.iconst 4, 1) := by decide +kernel
theorem dX0_init_6 : decode cX0_init 6 = .ok (.anewarray 9, 3) := by decide +kernel
theorem dX0_init_9 : decode cX0_init 9 = .ok (.dup, 1) := by decide +kernel
theorem dX0_init_10 : decode cX0_init 10 = .ok (.iconst 0, 1) := by decide +kernel
theorem dX0_init_11 : decode cX0_init 11 = .ok (.new 9, 3) := by decide +kernel
theorem dX0_init_14 : decode cX0_init 14 = .ok (.dup, 1) := by decide +kernel
theorem dX0_init_15 : decode cX0_init 15 = .ok (.sipush 6000, 3) := by decide +kernel
theorem dX0_init_18 : decode cX0_init 18 = .ok (.invokespecial 11, 3) := by decide +kernel
theorem dX0_init_21 : decode cX0_init 21 = .ok (.aastore, 1) := by decide +kernel
theorem dX0_init_22 : decode cX0_init 22 = .ok (.dup, 1) := by decide +kernel
theorem dX0_init_23 : decode cX0_init 23 = .ok (.iconst 1, 1) := by decide +kernel
theorem dX0_init_24 : decode cX0_init 24 = .ok (.new 9, 3) := by decide +kernel
theorem dX0_init_27 : decode cX0_init 27 = .ok (.dup, 1) := by decide +kernel
theorem dX0_init_28 : decode cX0_init 28 = .ok (.sipush 6000, 3) := by decide +kernel
theorem dX0_init_31 : decode cX0_init 31 = .ok (.invokespecial 11, 3) := by decide +kernel
theorem dX0_init_34 : decode cX0_init 34 = .ok (.aastore, 1) := by decide +kernel
theorem dX0_init_35 : decode cX0_init 35 = .ok (.dup, 1) := by decide +kernel
theorem dX0_init_36 : decode cX0_init 36 = .ok (.iconst 2, 1) := by decide +kernel
theorem dX0_init_37 : decode cX0_init 37 = .ok (.new 9, 3) := by decide +kernel
theorem dX0_init_40 : decode cX0_init 40 = .ok (.dup, 1) := by decide +kernel
theorem dX0_init_41 : decode cX0_init 41 = .ok (.sipush 6000, 3) := by decide +kernel
theorem dX0_init_44 : decode cX0_init 44 = .ok (.invokespecial 11, 3) := by decide +kernel
theorem dX0_init_47 : decode cX0_init 47 = .ok (.aastore, 1) := by decide +kernel
theorem dX0_init_48 : decode cX0_init 48 = .ok (.dup, 1) := by decide +kernel
theorem dX0_init_49 : decode cX0_init 49 = .ok (.iconst 3, 1) := by decide +kernel
theorem dX0_init_50 : decode cX0_init 50 = .ok (.new 9, 3) := by decide +kernel
theorem dX0_init_53 : decode cX0_init 53 = .ok (.dup, 1) := by decide +kernel
theorem dX0_init_54 : decode cX0_init 54 = .ok (.sipush 6000, 3) := by decide +kernel
theorem dX0_init_57 : decode cX0_init 57 = .ok (.invokespecial 11, 3) := by decide +kernel
theorem dX0_init_60 : decode cX0_init 60 = .ok (.aastore, 1) := by decide +kernel
theorem dX0_init_61 : decode cX0_init 61 = .ok (.putfield 14, 3) := by decide +kernel
theorem dX0_init_64 : decode cX0_init 64 = .ok (.aload_n 0, 1) := by decide +kernel
theorem dX0_init_65 : decode cX0_init 65 = .ok (.iconst 4, 1) := by decide +kernel
theorem dX0_init_66 : decode cX0_init 66 = .ok (.newarray .int, 2) := by decide +kernel
theorem dX0_init_68 : decode cX0_init 68 = .ok (.putfield 20, 3) := by decide +kernel
theorem dX0_init_71 : decode cX0_init 71 = .ok (.aload_n 0, 1) := by decide +kernel
theorem dX0_init_72 : decode cX0_init 72 = .ok (.iconst 2, 1) := by decide +kernel
theorem dX0_init_73 : decode cX0_init 73 = .ok (.anewarray 9, 3) := by decide +kernel
theorem dX0_init_76 : decode cX0_init 76 = .ok (.dup, 1) := by decide +kernel
theorem dX0_init_77 : decode cX0_init 77 = .ok (.iconst 0, 1) := by decide +kernel
theorem dX0_init_78 : decode cX0_init 78 = .ok (.new 9, 3) := by decide +kernel
theorem dX0_init_81 : decode cX0_init 81 = .ok (.dup, 1) := by decide +kernel
theorem dX0_init_82 : decode cX0_init 82 = .ok (.sipush 4096, 3) := by decide +kernel
theorem dX0_init_85 : decode cX0_init 85 = .ok (.invokespecial 11, 3) := by decide +kernel
theorem dX0_init_88 : decode cX0_init 88 = .ok (.aastore, 1) := by decide +kernel
theorem dX0_init_89 : decode cX0_init 89 = .ok (.dup, 1) := by decide +kernel
theorem dX0_init_90 : decode cX0_init 90 = .ok (.iconst 1, 1) := by decide +kernel
theorem dX0_init_91 : decode cX0_init 91 = .ok (.new 9, 3) := by decide +kernel
theorem dX0_init_94 : decode cX0_init 94 = .ok (.dup, 1) := by decide +kernel
theorem dX0_init_95 : decode cX0_init 95 = .ok (.sipush 4096, 3) := by decide +kernel
theorem dX0_init_98 : decode cX0_init 98 = .ok (.invokespecial 11, 3) := by decide +kernel
theorem dX0_init_101 : decode cX0_init 101 = .ok (.aastore, 1) := by decide +kernel
theorem dX0_init_102 : decode cX0_init 102 = .ok (.putfield 24, 3) := by decide +kernel
theorem dX0_init_105 : decode cX0_init 105 = .ok (.aload_n 0, 1) := by decide +kernel
theorem dX0_init_106 : decode cX0_init 106 = .ok (.iconst 0, 1) := by decide +kernel
theorem dX0_init_107 : decode cX0_init 107 = .ok (.putfield 27, 3) := by decide +kernel
theorem dX0_init_110 : decode cX0_init 110 = .ok (.aload_n 0, 1) := by decide +kernel
theorem dX0_init_111 : decode cX0_init 111 = .ok (.iconst 0, 1) := by decide +kernel
theorem dX0_init_112 : decode cX0_init 112 = .ok (.putfield 31, 3) := by decide +kernel
theorem dX0_init_115 : decode cX0_init 115 = .ok (.return_, 1) := by decide +kernel
set_option maxHeartbeats 4000000 in
set_option maxRecDepth 100000 in
theorem k_Cha (l : Launch) (d : gD) (b : Nat) (F : gM) (t : Nat)  (h : F t = .inr (0, [.null, .null, .null, .int 0, .int 0]))  : gMv l d b yX0_init cX0_init 1 5 15 124 F [.ref t] (fun F' => ∃ o0 q1 o2 q3 o4 q5 o6 q7 q8 o9 q10 o11 q12 z13 z14 : Nat, gCn d t 0 F F' [.ref z13, .ref q8, .ref z14, .int 0, .int 0] [(o0, q1, 6000, 0), (o2, q3, 6000, 0), (o4, q5, 6000, 0), (o6, q7, 6000, 0), (q8, q8, 4, 2), (o9, q10, 4096, 0), (o11, q12, 4096, 0)] ∧ F' z13 = .inl (gO d, 4, .inr (.inr (.inr (.inr (va_up (va_up (va_up (va_up (fun _ => none) 0 (some o0)) 1 (some o2)) 2 (some o4)) 3 (some o6)))))) ∧ F' z14 = .inl (gO d, 2, .inr (.inr (.inr (.inr (va_up (va_up (fun _ => none) 0 (some o9)) 1 (some o11))))))) := by
  refine gM_of2 rfl (nL := 1) (Nat.le_of_ble_eq_true rfl) ?_
  intro X hX hC; subst hX
  show gG X d b _ F 0 0 0 [some (.ref t)] []
  have hcn : gCn d t 0 F F [.null, .null, .null, .int 0, .int 0] [] := ⟨h, by rw [h]; exact g0_o, gEx.rf, gNw.nil⟩
  refine g_aload_n hC dX0_init_0 rfl ?_
  refine g_objInit hC dX0_init_1 kw_706 rfl ⟨Nat.le_of_ble_eq_true rfl, Nat.le_of_ble_eq_true rfl⟩ (Nat.le_of_ble_eq_true rfl) ?_
  refine g_aload_n hC dX0_init_4 rfl ?_
  refine g_iconst (v := 4) hC dX0_init_5 rfl ?_
  refine g_newq (N := 4) hC kw_707 (by decide) rfl (Nat.le_of_ble_eq_true rfl) (by first | exact Nat.le_of_ble_eq_true rfl | omega | (simp only [gR]; omega)) (by first | exact Nat.le_of_ble_eq_true rfl | omega | (simp only [gR]; omega)) dX0_init_6 (fun z1 e_z1 => ?_)
  refine g_vF (fun F2 hF2 => ?_)
  have b_z1 : F z1 = g0 := (hcn.2.2.1).g0 e_z1
  obtain ⟨hcn3, hk4⟩ := gCn.newz hcn e_z1 hF2
  have hx5 : ∀ x, x ≠ t → F x ≠ g0 → F2 x = F x := fun x _ q => hk4 x q
  have f6 : F2 z1 = .inl (gO d, 4, .inr (.inr (.inr (.inr (fun _ => none))))) := by rw [hF2]; exact va_up_self _ _ _
  refine g_dup hC dX0_init_9 rfl ?_
  refine g_iconst (v := 0) hC dX0_init_10 rfl ?_
  refine g_new hC nl_X0_9 (by first | exact Nat.le_of_ble_eq_true rfl | omega | (simp only [gR]; omega)) (by first | exact Nat.le_of_ble_eq_true rfl | omega | (simp only [gR]; omega)) dX0_init_11 (fun o7 e_o7 => ?_)
  refine g_vF (fun F8 hF8 => ?_)
  obtain ⟨hcn9, hk10⟩ := gCn.newz hcn3 e_o7 hF8
  have hx11 : ∀ x, x ≠ t → F2 x ≠ g0 → F8 x = F2 x := fun x _ q => hk10 x q
  have f12 : F8 z1 = .inl (gO d, 4, .inr (.inr (.inr (.inr (fun _ => none))))) := (hx11 z1 (gne f6 hcn3.1 gk_ao) (by rw [f6]; exact g0_a)).trans f6
  have f13 : F8 o7 = .inr (4, [.int 0, .null, .int 0]) := by rw [hF8]; exact va_up_self _ _ _
  refine g_dup hC dX0_init_14 rfl ?_
  refine g_sipush (v := 6000) hC dX0_init_15 rfl ?_
  refine g_callIv (As := [.int (nI 6000)]) hC (c_Ints_init X.la d b F8 o7 6000 f13 (by decide) (by decide)) cl_X0_11 rfl rfl (Nat.le_of_ble_eq_true rfl) (gFit_of (Nat.le_of_ble_eq_true rfl) (Nat.le_of_ble_eq_true rfl) (by first | exact Nat.le_of_ble_eq_true rfl | omega | (simp only [gR]; omega)) (by first | exact Nat.le_of_ble_eq_true rfl | omega | (simp only [gR]; omega))) dX0_init_18 (fun F14 p15 => ?_)
  obtain ⟨q16, hcn17, e18, g19, hk20⟩ := gCn.ints hcn3 e_o7 hF8 g0_o p15
  have hx21 : ∀ x, x ≠ t → F2 x ≠ g0 → F14 x = F2 x := fun x _ q => hk20 x q
  have f22 : F14 z1 = .inl (gO d, 4, .inr (.inr (.inr (.inr (fun _ => none))))) := (hx21 z1 (gne f6 hcn3.1 gk_ao) (by rw [f6]; exact g0_a)).trans f6
  refine g_aast hC f22 g19.1 (vp_in_nI (n := 0) (by decide) (by decide)) dX0_init_21 ?_
  refine g_vF (fun F23 hF23 => ?_)
  obtain ⟨hcn24, hk25⟩ := gCn.upz hcn17 f22 b_z1 hF23
  have f26 : F23 z1 = .inl (gO d, 4, .inr (.inr (.inr (.inr (va_up (fun _ => none) 0 (some o7)))))) := by rw [hF23]; exact va_up_self _ _ _
  refine g_dup hC dX0_init_22 rfl ?_
  refine g_iconst (v := 1) hC dX0_init_23 rfl ?_
  refine g_new hC nl_X0_9 (by first | exact Nat.le_of_ble_eq_true rfl | omega | (simp only [gR]; omega)) (by first | exact Nat.le_of_ble_eq_true rfl | omega | (simp only [gR]; omega)) dX0_init_24 (fun o28 e_o28 => ?_)
  refine g_vF (fun F29 hF29 => ?_)
  obtain ⟨hcn30, hk31⟩ := gCn.newz hcn24 e_o28 hF29
  have hx32 : ∀ x, x ≠ t → F23 x ≠ g0 → F29 x = F23 x := fun x _ q => hk31 x q
  have f33 : F29 z1 = .inl (gO d, 4, .inr (.inr (.inr (.inr (va_up (fun _ => none) 0 (some o7)))))) := (hx32 z1 (gne f26 hcn24.1 gk_ao) (by rw [f26]; exact g0_a)).trans f26
  have f34 : F29 o28 = .inr (4, [.int 0, .null, .int 0]) := by rw [hF29]; exact va_up_self _ _ _
  refine g_dup hC dX0_init_27 rfl ?_
  refine g_sipush (v := 6000) hC dX0_init_28 rfl ?_
  refine g_callIv (As := [.int (nI 6000)]) hC (c_Ints_init X.la d b F29 o28 6000 f34 (by decide) (by decide)) cl_X0_11 rfl rfl (Nat.le_of_ble_eq_true rfl) (gFit_of (Nat.le_of_ble_eq_true rfl) (Nat.le_of_ble_eq_true rfl) (by first | exact Nat.le_of_ble_eq_true rfl | omega | (simp only [gR]; omega)) (by first | exact Nat.le_of_ble_eq_true rfl | omega | (simp only [gR]; omega))) dX0_init_31 (fun F35 p36 => ?_)
  obtain ⟨q37, hcn38, e39, g40, hk41⟩ := gCn.ints hcn24 e_o28 hF29 g0_o p36
  have hx42 : ∀ x, x ≠ t → F23 x ≠ g0 → F35 x = F23 x := fun x _ q => hk41 x q
  have f43 : F35 z1 = .inl (gO d, 4, .inr (.inr (.inr (.inr (va_up (fun _ => none) 0 (some o7)))))) := (hx42 z1 (gne f26 hcn24.1 gk_ao) (by rw [f26]; exact g0_a)).trans f26
  refine g_aast hC f43 g40.1 (vp_in_nI (n := 1) (by decide) (by decide)) dX0_init_34 ?_
  refine g_vF (fun F44 hF44 => ?_)
  obtain ⟨hcn45, hk46⟩ := gCn.upz hcn38 f43 b_z1 hF44
  have f47 : F44 z1 = .inl (gO d, 4, .inr (.inr (.inr (.inr (va_up (va_up (fun _ => none) 0 (some o7)) 1 (some o28)))))) := by rw [hF44]; exact va_up_self _ _ _
  refine g_dup hC dX0_init_35 rfl ?_
  refine g_iconst (v := 2) hC dX0_init_36 rfl ?_
  refine g_new hC nl_X0_9 (by first | exact Nat.le_of_ble_eq_true rfl | omega | (simp only [gR]; omega)) (by first | exact Nat.le_of_ble_eq_true rfl | omega | (simp only [gR]; omega)) dX0_init_37 (fun o49 e_o49 => ?_)
  refine g_vF (fun F50 hF50 => ?_)
  obtain ⟨hcn51, hk52⟩ := gCn.newz hcn45 e_o49 hF50
  have hx53 : ∀ x, x ≠ t → F44 x ≠ g0 → F50 x = F44 x := fun x _ q => hk52 x q
  have f54 : F50 z1 = .inl (gO d, 4, .inr (.inr (.inr (.inr (va_up (va_up (fun _ => none) 0 (some o7)) 1 (some o28)))))) := (hx53 z1 (gne f47 hcn45.1 gk_ao) (by rw [f47]; exact g0_a)).trans f47
  have f55 : F50 o49 = .inr (4, [.int 0, .null, .int 0]) := by rw [hF50]; exact va_up_self _ _ _
  refine g_dup hC dX0_init_40 rfl ?_
  refine g_sipush (v := 6000) hC dX0_init_41 rfl ?_
  refine g_callIv (As := [.int (nI 6000)]) hC (c_Ints_init X.la d b F50 o49 6000 f55 (by decide) (by decide)) cl_X0_11 rfl rfl (Nat.le_of_ble_eq_true rfl) (gFit_of (Nat.le_of_ble_eq_true rfl) (Nat.le_of_ble_eq_true rfl) (by first | exact Nat.le_of_ble_eq_true rfl | omega | (simp only [gR]; omega)) (by first | exact Nat.le_of_ble_eq_true rfl | omega | (simp only [gR]; omega))) dX0_init_44 (fun F56 p57 => ?_)
  obtain ⟨q58, hcn59, e60, g61, hk62⟩ := gCn.ints hcn45 e_o49 hF50 g0_o p57
  have hx63 : ∀ x, x ≠ t → F44 x ≠ g0 → F56 x = F44 x := fun x _ q => hk62 x q
  have f64 : F56 z1 = .inl (gO d, 4, .inr (.inr (.inr (.inr (va_up (va_up (fun _ => none) 0 (some o7)) 1 (some o28)))))) := (hx63 z1 (gne f47 hcn45.1 gk_ao) (by rw [f47]; exact g0_a)).trans f47
  refine g_aast hC f64 g61.1 (vp_in_nI (n := 2) (by decide) (by decide)) dX0_init_47 ?_
  refine g_vF (fun F65 hF65 => ?_)
  obtain ⟨hcn66, hk67⟩ := gCn.upz hcn59 f64 b_z1 hF65
  have f68 : F65 z1 = .inl (gO d, 4, .inr (.inr (.inr (.inr (va_up (va_up (va_up (fun _ => none) 0 (some o7)) 1 (some o28)) 2 (some o49)))))) := by rw [hF65]; exact va_up_self _ _ _
  refine g_dup hC dX0_init_48 rfl ?_
  refine g_iconst (v := 3) hC dX0_init_49 rfl ?_
  refine g_new hC nl_X0_9 (by first | exact Nat.le_of_ble_eq_true rfl | omega | (simp only [gR]; omega)) (by first | exact Nat.le_of_ble_eq_true rfl | omega | (simp only [gR]; omega)) dX0_init_50 (fun o70 e_o70 => ?_)
  refine g_vF (fun F71 hF71 => ?_)
  obtain ⟨hcn72, hk73⟩ := gCn.newz hcn66 e_o70 hF71
  have hx74 : ∀ x, x ≠ t → F65 x ≠ g0 → F71 x = F65 x := fun x _ q => hk73 x q
  have f75 : F71 z1 = .inl (gO d, 4, .inr (.inr (.inr (.inr (va_up (va_up (va_up (fun _ => none) 0 (some o7)) 1 (some o28)) 2 (some o49)))))) := (hx74 z1 (gne f68 hcn66.1 gk_ao) (by rw [f68]; exact g0_a)).trans f68
  have f76 : F71 o70 = .inr (4, [.int 0, .null, .int 0]) := by rw [hF71]; exact va_up_self _ _ _
  refine g_dup hC dX0_init_53 rfl ?_
  refine g_sipush (v := 6000) hC dX0_init_54 rfl ?_
  refine g_callIv (As := [.int (nI 6000)]) hC (c_Ints_init X.la d b F71 o70 6000 f76 (by decide) (by decide)) cl_X0_11 rfl rfl (Nat.le_of_ble_eq_true rfl) (gFit_of (Nat.le_of_ble_eq_true rfl) (Nat.le_of_ble_eq_true rfl) (by first | exact Nat.le_of_ble_eq_true rfl | omega | (simp only [gR]; omega)) (by first | exact Nat.le_of_ble_eq_true rfl | omega | (simp only [gR]; omega))) dX0_init_57 (fun F77 p78 => ?_)
  obtain ⟨q79, hcn80, e81, g82, hk83⟩ := gCn.ints hcn66 e_o70 hF71 g0_o p78
  have hx84 : ∀ x, x ≠ t → F65 x ≠ g0 → F77 x = F65 x := fun x _ q => hk83 x q
  have f85 : F77 z1 = .inl (gO d, 4, .inr (.inr (.inr (.inr (va_up (va_up (va_up (fun _ => none) 0 (some o7)) 1 (some o28)) 2 (some o49)))))) := (hx84 z1 (gne f68 hcn66.1 gk_ao) (by rw [f68]; exact g0_a)).trans f68
  refine g_aast hC f85 g82.1 (vp_in_nI (n := 3) (by decide) (by decide)) dX0_init_60 ?_
  refine g_vF (fun F86 hF86 => ?_)
  obtain ⟨hcn87, hk88⟩ := gCn.upz hcn80 f85 b_z1 hF86
  have f89 : F86 z1 = .inl (gO d, 4, .inr (.inr (.inr (.inr (va_up (va_up (va_up (va_up (fun _ => none) 0 (some o7)) 1 (some o28)) 2 (some o49)) 3 (some o70)))))) := by rw [hF86]; exact va_up_self _ _ _
  refine g_putC hC hcn87 fl_X0_14 rfl rfl (Nat.le_of_ble_eq_true rfl) rfl dX0_init_61 (fun F91 hcn92 hx93 => ?_)
  have hx94 : ∀ x, x ≠ t → F86 x ≠ g0 → F91 x = F86 x := fun x q _ => hx93 x q
  have f95 : F91 z1 = .inl (gO d, 4, .inr (.inr (.inr (.inr (va_up (va_up (va_up (va_up (fun _ => none) 0 (some o7)) 1 (some o28)) 2 (some o49)) 3 (some o70)))))) := (hx94 z1 (gne f89 hcn87.1 gk_ao) (by rw [f89]; exact g0_a)).trans f89
  refine g_aload_n hC dX0_init_64 rfl ?_
  refine g_iconst (v := 4) hC dX0_init_65 rfl ?_
  refine g_newa (atype := .int) (N := 4) (a0 := (4, .inl (fun _ => 0))) hC 0 kw_288 rfl (by decide) (fun _ => rfl) (by decide) rfl (Nat.le_of_ble_eq_true rfl) (by first | exact Nat.le_of_ble_eq_true rfl | omega | (simp only [gR]; omega)) (by first | exact Nat.le_of_ble_eq_true rfl | omega | (simp only [gR]; omega)) dX0_init_66 (fun q96 e_q96 => ?_)
  refine g_vF (fun F97 hF97 => ?_)
  obtain ⟨hcn98, hk99⟩ := gCn.arr hcn92 e_q96 hF97
  have hx100 : ∀ x, x ≠ t → F91 x ≠ g0 → F97 x = F91 x := fun x _ q => hk99 x q
  have f101 : F97 z1 = .inl (gO d, 4, .inr (.inr (.inr (.inr (va_up (va_up (va_up (va_up (fun _ => none) 0 (some o7)) 1 (some o28)) 2 (some o49)) 3 (some o70)))))) := (hx100 z1 (gne f95 hcn92.1 gk_ao) (by rw [f95]; exact g0_a)).trans f95
  refine g_putC hC hcn98 fl_X0_20 rfl rfl (Nat.le_of_ble_eq_true rfl) rfl dX0_init_68 (fun F102 hcn103 hx104 => ?_)
  have hx105 : ∀ x, x ≠ t → F97 x ≠ g0 → F102 x = F97 x := fun x q _ => hx104 x q
  have f106 : F102 z1 = .inl (gO d, 4, .inr (.inr (.inr (.inr (va_up (va_up (va_up (va_up (fun _ => none) 0 (some o7)) 1 (some o28)) 2 (some o49)) 3 (some o70)))))) := (hx105 z1 (gne f101 hcn98.1 gk_ao) (by rw [f101]; exact g0_a)).trans f101
  refine g_aload_n hC dX0_init_71 rfl ?_
  refine g_iconst (v := 2) hC dX0_init_72 rfl ?_
  refine g_newq (N := 2) hC kw_707 (by decide) rfl (Nat.le_of_ble_eq_true rfl) (by first | exact Nat.le_of_ble_eq_true rfl | omega | (simp only [gR]; omega)) (by first | exact Nat.le_of_ble_eq_true rfl | omega | (simp only [gR]; omega)) dX0_init_73 (fun z107 e_z107 => ?_)
  refine g_vF (fun F108 hF108 => ?_)
  have b_z107 : F z107 = g0 := (hcn103.2.2.1).g0 e_z107
  obtain ⟨hcn109, hk110⟩ := gCn.newz hcn103 e_z107 hF108
  have hx111 : ∀ x, x ≠ t → F102 x ≠ g0 → F108 x = F102 x := fun x _ q => hk110 x q
  have f112 : F108 z1 = .inl (gO d, 4, .inr (.inr (.inr (.inr (va_up (va_up (va_up (va_up (fun _ => none) 0 (some o7)) 1 (some o28)) 2 (some o49)) 3 (some o70)))))) := (hx111 z1 (gne f106 hcn103.1 gk_ao) (by rw [f106]; exact g0_a)).trans f106
  have f113 : F108 z107 = .inl (gO d, 2, .inr (.inr (.inr (.inr (fun _ => none))))) := by rw [hF108]; exact va_up_self _ _ _
  refine g_dup hC dX0_init_76 rfl ?_
  refine g_iconst (v := 0) hC dX0_init_77 rfl ?_
  refine g_new hC nl_X0_9 (by first | exact Nat.le_of_ble_eq_true rfl | omega | (simp only [gR]; omega)) (by first | exact Nat.le_of_ble_eq_true rfl | omega | (simp only [gR]; omega)) dX0_init_78 (fun o114 e_o114 => ?_)
  refine g_vF (fun F115 hF115 => ?_)
  obtain ⟨hcn116, hk117⟩ := gCn.newz hcn109 e_o114 hF115
  have hx118 : ∀ x, x ≠ t → F108 x ≠ g0 → F115 x = F108 x := fun x _ q => hk117 x q
  have f119 : F115 z1 = .inl (gO d, 4, .inr (.inr (.inr (.inr (va_up (va_up (va_up (va_up (fun _ => none) 0 (some o7)) 1 (some o28)) 2 (some o49)) 3 (some o70)))))) := (hx118 z1 (gne f112 hcn109.1 gk_ao) (by rw [f112]; exact g0_a)).trans f112
  have f120 : F115 z107 = .inl (gO d, 2, .inr (.inr (.inr (.inr (fun _ => none))))) := (hx118 z107 (gne f113 hcn109.1 gk_ao) (by rw [f113]; exact g0_a)).trans f113
  have f121 : F115 o114 = .inr (4, [.int 0, .null, .int 0]) := by rw [hF115]; exact va_up_self _ _ _
  refine g_dup hC dX0_init_81 rfl ?_
  refine g_sipush (v := 4096) hC dX0_init_82 rfl ?_
  refine g_callIv (As := [.int (nI 4096)]) hC (c_Ints_init X.la d b F115 o114 4096 f121 (by decide) (by decide)) cl_X0_11 rfl rfl (Nat.le_of_ble_eq_true rfl) (gFit_of (Nat.le_of_ble_eq_true rfl) (Nat.le_of_ble_eq_true rfl) (by first | exact Nat.le_of_ble_eq_true rfl | omega | (simp only [gR]; omega)) (by first | exact Nat.le_of_ble_eq_true rfl | omega | (simp only [gR]; omega))) dX0_init_85 (fun F122 p123 => ?_)
  obtain ⟨q124, hcn125, e126, g127, hk128⟩ := gCn.ints hcn109 e_o114 hF115 g0_o p123
  have hx129 : ∀ x, x ≠ t → F108 x ≠ g0 → F122 x = F108 x := fun x _ q => hk128 x q
  have f130 : F122 z1 = .inl (gO d, 4, .inr (.inr (.inr (.inr (va_up (va_up (va_up (va_up (fun _ => none) 0 (some o7)) 1 (some o28)) 2 (some o49)) 3 (some o70)))))) := (hx129 z1 (gne f112 hcn109.1 gk_ao) (by rw [f112]; exact g0_a)).trans f112
  have f131 : F122 z107 = .inl (gO d, 2, .inr (.inr (.inr (.inr (fun _ => none))))) := (hx129 z107 (gne f113 hcn109.1 gk_ao) (by rw [f113]; exact g0_a)).trans f113
  refine g_aast hC f131 g127.1 (vp_in_nI (n := 0) (by decide) (by decide)) dX0_init_88 ?_
  refine g_vF (fun F132 hF132 => ?_)
  obtain ⟨hcn133, hk134⟩ := gCn.upz hcn125 f131 b_z107 hF132
  have f135 : F132 z1 = .inl (gO d, 4, .inr (.inr (.inr (.inr (va_up (va_up (va_up (va_up (fun _ => none) 0 (some o7)) 1 (some o28)) 2 (some o49)) 3 (some o70)))))) := (hk134 z1 (gne f130 f131 (by intro z; cases z))).trans f130
  have f136 : F132 z107 = .inl (gO d, 2, .inr (.inr (.inr (.inr (va_up (fun _ => none) 0 (some o114)))))) := by rw [hF132]; exact va_up_self _ _ _
  refine g_dup hC dX0_init_89 rfl ?_
  refine g_iconst (v := 1) hC dX0_init_90 rfl ?_
  refine g_new hC nl_X0_9 (by first | exact Nat.le_of_ble_eq_true rfl | omega | (simp only [gR]; omega)) (by first | exact Nat.le_of_ble_eq_true rfl | omega | (simp only [gR]; omega)) dX0_init_91 (fun o138 e_o138 => ?_)
  refine g_vF (fun F139 hF139 => ?_)
  obtain ⟨hcn140, hk141⟩ := gCn.newz hcn133 e_o138 hF139
  have hx142 : ∀ x, x ≠ t → F132 x ≠ g0 → F139 x = F132 x := fun x _ q => hk141 x q
  have f143 : F139 z1 = .inl (gO d, 4, .inr (.inr (.inr (.inr (va_up (va_up (va_up (va_up (fun _ => none) 0 (some o7)) 1 (some o28)) 2 (some o49)) 3 (some o70)))))) := (hx142 z1 (gne f135 hcn133.1 gk_ao) (by rw [f135]; exact g0_a)).trans f135
  have f144 : F139 z107 = .inl (gO d, 2, .inr (.inr (.inr (.inr (va_up (fun _ => none) 0 (some o114)))))) := (hx142 z107 (gne f136 hcn133.1 gk_ao) (by rw [f136]; exact g0_a)).trans f136
  have f145 : F139 o138 = .inr (4, [.int 0, .null, .int 0]) := by rw [hF139]; exact va_up_self _ _ _
  refine g_dup hC dX0_init_94 rfl ?_
  refine g_sipush (v := 4096) hC dX0_init_95 rfl ?_
  refine g_callIv (As := [.int (nI 4096)]) hC (c_Ints_init X.la d b F139 o138 4096 f145 (by decide) (by decide)) cl_X0_11 rfl rfl (Nat.le_of_ble_eq_true rfl) (gFit_of (Nat.le_of_ble_eq_true rfl) (Nat.le_of_ble_eq_true rfl) (by first | exact Nat.le_of_ble_eq_true rfl | omega | (simp only [gR]; omega)) (by first | exact Nat.le_of_ble_eq_true rfl | omega | (simp only [gR]; omega))) dX0_init_98 (fun F146 p147 => ?_)
  obtain ⟨q148, hcn149, e150, g151, hk152⟩ := gCn.ints hcn133 e_o138 hF139 g0_o p147
  have hx153 : ∀ x, x ≠ t → F132 x ≠ g0 → F146 x = F132 x := fun x _ q => hk152 x q
  have f154 : F146 z1 = .inl (gO d, 4, .inr (.inr (.inr (.inr (va_up (va_up (va_up (va_up (fun _ => none) 0 (some o7)) 1 (some o28)) 2 (some o49)) 3 (some o70)))))) := (hx153 z1 (gne f135 hcn133.1 gk_ao) (by rw [f135]; exact g0_a)).trans f135
  have f155 : F146 z107 = .inl (gO d, 2, .inr (.inr (.inr (.inr (va_up (fun _ => none) 0 (some o114)))))) := (hx153 z107 (gne f136 hcn133.1 gk_ao) (by rw [f136]; exact g0_a)).trans f136
  refine g_aast hC f155 g151.1 (vp_in_nI (n := 1) (by decide) (by decide)) dX0_init_101 ?_
  refine g_vF (fun F156 hF156 => ?_)
  obtain ⟨hcn157, hk158⟩ := gCn.upz hcn149 f155 b_z107 hF156
  have f159 : F156 z1 = .inl (gO d, 4, .inr (.inr (.inr (.inr (va_up (va_up (va_up (va_up (fun _ => none) 0 (some o7)) 1 (some o28)) 2 (some o49)) 3 (some o70)))))) := (hk158 z1 (gne f154 f155 (by intro z; cases z))).trans f154
  have f160 : F156 z107 = .inl (gO d, 2, .inr (.inr (.inr (.inr (va_up (va_up (fun _ => none) 0 (some o114)) 1 (some o138)))))) := by rw [hF156]; exact va_up_self _ _ _
  refine g_putC hC hcn157 fl_X0_24 rfl rfl (Nat.le_of_ble_eq_true rfl) rfl dX0_init_102 (fun F162 hcn163 hx164 => ?_)
  have hx165 : ∀ x, x ≠ t → F156 x ≠ g0 → F162 x = F156 x := fun x q _ => hx164 x q
  have f166 : F162 z1 = .inl (gO d, 4, .inr (.inr (.inr (.inr (va_up (va_up (va_up (va_up (fun _ => none) 0 (some o7)) 1 (some o28)) 2 (some o49)) 3 (some o70)))))) := (hx165 z1 (gne f159 hcn157.1 gk_ao) (by rw [f159]; exact g0_a)).trans f159
  have f167 : F162 z107 = .inl (gO d, 2, .inr (.inr (.inr (.inr (va_up (va_up (fun _ => none) 0 (some o114)) 1 (some o138)))))) := (hx165 z107 (gne f160 hcn157.1 gk_ao) (by rw [f160]; exact g0_a)).trans f160
  refine g_aload_n hC dX0_init_105 rfl ?_
  refine g_iconst (v := 0) hC dX0_init_106 rfl ?_
  refine g_putC hC hcn163 fl_X0_27 rfl rfl (Nat.le_of_ble_eq_true rfl) rfl dX0_init_107 (fun F168 hcn169 hx170 => ?_)
  have hx171 : ∀ x, x ≠ t → F162 x ≠ g0 → F168 x = F162 x := fun x q _ => hx170 x q
  have f172 : F168 z1 = .inl (gO d, 4, .inr (.inr (.inr (.inr (va_up (va_up (va_up (va_up (fun _ => none) 0 (some o7)) 1 (some o28)) 2 (some o49)) 3 (some o70)))))) := (hx171 z1 (gne f166 hcn163.1 gk_ao) (by rw [f166]; exact g0_a)).trans f166
  have f173 : F168 z107 = .inl (gO d, 2, .inr (.inr (.inr (.inr (va_up (va_up (fun _ => none) 0 (some o114)) 1 (some o138)))))) := (hx171 z107 (gne f167 hcn163.1 gk_ao) (by rw [f167]; exact g0_a)).trans f167
  refine g_aload_n hC dX0_init_110 rfl ?_
  refine g_iconst (v := 0) hC dX0_init_111 rfl ?_
  refine g_putC hC hcn169 fl_X0_31 rfl rfl (Nat.le_of_ble_eq_true rfl) rfl dX0_init_112 (fun F174 hcn175 hx176 => ?_)
  have hx177 : ∀ x, x ≠ t → F168 x ≠ g0 → F174 x = F168 x := fun x q _ => hx176 x q
  have f178 : F174 z1 = .inl (gO d, 4, .inr (.inr (.inr (.inr (va_up (va_up (va_up (va_up (fun _ => none) 0 (some o7)) 1 (some o28)) 2 (some o49)) 3 (some o70)))))) := (hx177 z1 (gne f172 hcn169.1 gk_ao) (by rw [f172]; exact g0_a)).trans f172
  have f179 : F174 z107 = .inl (gO d, 2, .inr (.inr (.inr (.inr (va_up (va_up (fun _ => none) 0 (some o114)) 1 (some o138)))))) := (hx177 z107 (gne f173 hcn169.1 gk_ao) (by rw [f173]; exact g0_a)).trans f173
  exact g_vret hC ⟨o7, q16, o28, q37, o49, q58, o70, q79, q96, o114, q124, o138, q148, z1, z107, hcn175, f178, f179⟩ (by first | exact Nat.le_of_ble_eq_true rfl | omega | (simp only [gR]; omega)) (by first | exact Nat.le_of_ble_eq_true rfl | omega | (simp only [gR]; omega)) dX0_init_115
