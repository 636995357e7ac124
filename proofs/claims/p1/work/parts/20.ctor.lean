theorem kw_294 : Cond.methodLink RX7 3 objectInit ∈ gWs := gWm 294 (by decide +kernel) rfl
theorem kw_295 : Cond.classLink RX7 9 RX4 ∈ gWs := gWm 295 (by decide +kernel) rfl
theorem kw_273 : Cond.instantiable RX4 3 ∈ gWs := gWm 273 (by decide +kernel) rfl
theorem nl_X7_9 : gNL RX7 9 4 3 [.int 0, .null, .int 0] := ⟨RX4, TX4, tyX4, rfl, inW_RX4, tyX4_ok, kw_295, kw_273, kw_239, by decide +kernel⟩
theorem kw_276 : Cond.code yX4_init cX4_init 2 none ∈ gWs := gWm 276 (by decide +kernel) rfl
theorem kw_297 : Cond.methodLink RX7 12 yX4_init ∈ gWs := gWm 297 (by decide +kernel) rfl
theorem kw_275 : Cond.instanceMethod yX4_init ∈ gWs := gWm 275 (by decide +kernel) rfl
theorem cl_X7_12 : gCI RX7 12 yX4_init cX4_init 2 1 := ⟨gWs_all kw_276, kw_239, kw_297, kw_275, rfl, ⟨by decide +kernel, by decide +kernel, by decide +kernel⟩⟩
theorem kw_296 : Cond.constant RX7 11 1000000 ∈ gWs := gWm 296 (by decide +kernel) rfl
theorem kw_337 : Cond.methodLink RX10 3 objectInit ∈ gWs := gWm 337 (by decide +kernel) rfl
theorem kw_338 : Cond.classLink RX10 9 RX4 ∈ gWs := gWm 338 (by decide +kernel) rfl
theorem nl_X10_9 : gNL RX10 9 4 3 [.int 0, .null, .int 0] := ⟨RX4, TX4, tyX4, rfl, inW_RX4, tyX4_ok, kw_338, kw_273, kw_239, by decide +kernel⟩
theorem kw_340 : Cond.methodLink RX10 12 yX4_init ∈ gWs := gWm 340 (by decide +kernel) rfl
theorem cl_X10_12 : gCI RX10 12 yX4_init cX4_init 2 1 := ⟨gWs_all kw_276, kw_239, kw_340, kw_275, rfl, ⟨by decide +kernel, by decide +kernel, by decide +kernel⟩⟩
theorem kw_339 : Cond.constant RX10 11 1000000 ∈ gWs := gWm 339 (by decide +kernel) rfl
theorem kw_583 : Cond.methodLink RX9 3 objectInit ∈ gWs := gWm 583 (by decide +kernel) rfl
theorem kw_584 : Cond.classLink RX9 9 RX4 ∈ gWs := gWm 584 (by decide +kernel) rfl
theorem nl_X9_9 : gNL RX9 9 4 3 [.int 0, .null, .int 0] := ⟨RX4, TX4, tyX4, rfl, inW_RX4, tyX4_ok, kw_584, kw_273, kw_239, by decide +kernel⟩
theorem kw_586 : Cond.methodLink RX9 12 yX4_init ∈ gWs := gWm 586 (by decide +kernel) rfl
theorem cl_X9_12 : gCI RX9 12 yX4_init cX4_init 2 1 := ⟨gWs_all kw_276, kw_239, kw_586, kw_275, rfl, ⟨by decide +kernel, by decide +kernel, by decide +kernel⟩⟩
theorem kw_588 : Cond.fieldLink RX9 15 "WordTongue$Scope" "names" "LWordTongue$Ints;" ∈ gWs := gWm 588 (by decide +kernel) rfl
theorem kw_595 : Cond.laysFinal RX9 "WordTongue$Scope" "program" "LWordTongue$Program;" ∈ gWs := gWm 595 (by decide +kernel) rfl
theorem kw_597 : Cond.laysFinal RX9 "WordTongue$Scope" "names" "LWordTongue$Ints;" ∈ gWs := gWm 597 (by decide +kernel) rfl
theorem kw_599 : Cond.laysFinal RX9 "WordTongue$Scope" "kinds" "LWordTongue$Ints;" ∈ gWs := gWm 599 (by decide +kernel) rfl
theorem kw_601 : Cond.laysFinal RX9 "WordTongue$Scope" "datas" "LWordTongue$Ints;" ∈ gWs := gWm 601 (by decide +kernel) rfl
theorem kw_603 : Cond.laysFinal RX9 "WordTongue$Scope" "owners" "LWordTongue$Ints;" ∈ gWs := gWm 603 (by decide +kernel) rfl
theorem kw_605 : Cond.laysFinal RX9 "WordTongue$Scope" "places" "LWordTongue$Ints;" ∈ gWs := gWm 605 (by decide +kernel) rfl
theorem kw_607 : Cond.laysFinal RX9 "WordTongue$Scope" "marks" "LWordTongue$Ints;" ∈ gWs := gWm 607 (by decide +kernel) rfl
theorem kw_609 : Cond.lays RX9 "WordTongue$Scope" "floor" "I" ∈ gWs := gWm 609 (by decide +kernel) rfl
set_option maxRecDepth 20000 in
theorem inW_RX9 : ∀ w ∈ u_ws RX9 TX9 8, w ∈ gWs := List.forall_mem_cons.mpr ⟨kw_595, List.forall_mem_cons.mpr ⟨kw_597, List.forall_mem_cons.mpr ⟨kw_599, List.forall_mem_cons.mpr ⟨kw_601, List.forall_mem_cons.mpr ⟨kw_603, List.forall_mem_cons.mpr ⟨kw_605, List.forall_mem_cons.mpr ⟨kw_607, List.forall_mem_cons.mpr ⟨kw_609, fun _ h => nomatch h⟩⟩⟩⟩⟩⟩⟩⟩
theorem fl_X9_15 : gFL RX9 15 9 1 (.object "WordTongue$Ints") true := ⟨RX9, TX9, 8, tyX9, rfl, by decide, inW_RX9, kw_588, tyX9_ok, nmX9, rfl, by decide +kernel, fun _ => rfl⟩
theorem kw_585 : Cond.constant RX9 11 1000000 ∈ gWs := gWm 585 (by decide +kernel) rfl
theorem kw_589 : Cond.fieldLink RX9 21 "WordTongue$Scope" "kinds" "LWordTongue$Ints;" ∈ gWs := gWm 589 (by decide +kernel) rfl
theorem fl_X9_21 : gFL RX9 21 9 2 (.object "WordTongue$Ints") true := ⟨RX9, TX9, 8, tyX9, rfl, by decide, inW_RX9, kw_589, tyX9_ok, nmX9, rfl, by decide +kernel, fun _ => rfl⟩
theorem kw_590 : Cond.fieldLink RX9 24 "WordTongue$Scope" "datas" "LWordTongue$Ints;" ∈ gWs := gWm 590 (by decide +kernel) rfl
theorem fl_X9_24 : gFL RX9 24 9 3 (.object "WordTongue$Ints") true := ⟨RX9, TX9, 8, tyX9, rfl, by decide, inW_RX9, kw_590, tyX9_ok, nmX9, rfl, by decide +kernel, fun _ => rfl⟩
theorem kw_591 : Cond.fieldLink RX9 27 "WordTongue$Scope" "owners" "LWordTongue$Ints;" ∈ gWs := gWm 591 (by decide +kernel) rfl
theorem fl_X9_27 : gFL RX9 27 9 4 (.object "WordTongue$Ints") true := ⟨RX9, TX9, 8, tyX9, rfl, by decide, inW_RX9, kw_591, tyX9_ok, nmX9, rfl, by decide +kernel, fun _ => rfl⟩
theorem kw_592 : Cond.fieldLink RX9 30 "WordTongue$Scope" "places" "LWordTongue$Ints;" ∈ gWs := gWm 592 (by decide +kernel) rfl
theorem fl_X9_30 : gFL RX9 30 9 5 (.object "WordTongue$Ints") true := ⟨RX9, TX9, 8, tyX9, rfl, by decide, inW_RX9, kw_592, tyX9_ok, nmX9, rfl, by decide +kernel, fun _ => rfl⟩
theorem kw_593 : Cond.fieldLink RX9 33 "WordTongue$Scope" "marks" "LWordTongue$Ints;" ∈ gWs := gWm 593 (by decide +kernel) rfl
theorem fl_X9_33 : gFL RX9 33 9 6 (.object "WordTongue$Ints") true := ⟨RX9, TX9, 8, tyX9, rfl, by decide, inW_RX9, kw_593, tyX9_ok, nmX9, rfl, by decide +kernel, fun _ => rfl⟩
theorem kw_594 : Cond.fieldLink RX9 36 "WordTongue$Scope" "floor" "I" ∈ gWs := gWm 594 (by decide +kernel) rfl
theorem fl_X9_36 : gFL RX9 36 9 7 .int false := ⟨RX9, TX9, 8, tyX9, rfl, by decide, inW_RX9, kw_594, tyX9_ok, nmX9, rfl, by decide +kernel, fun h => by cases h⟩
theorem kw_587 : Cond.fieldLink RX9 40 "WordTongue$Scope" "program" "LWordTongue$Program;" ∈ gWs := gWm 587 (by decide +kernel) rfl
theorem fl_X9_40 : gFL RX9 40 9 0 (.object "WordTongue$Program") true := ⟨RX9, TX9, 8, tyX9, rfl, by decide, inW_RX9, kw_587, tyX9_ok, nmX9, rfl, by decide +kernel, fun _ => rfl⟩
theorem kw_617 : Cond.methodLink RX2 3 objectInit ∈ gWs := gWm 617 (by decide +kernel) rfl
theorem kw_618 : Cond.classLink RX2 9 RX4 ∈ gWs := gWm 618 (by decide +kernel) rfl
theorem nl_X2_9 : gNL RX2 9 4 3 [.int 0, .null, .int 0] := ⟨RX4, TX4, tyX4, rfl, inW_RX4, tyX4_ok, kw_618, kw_273, kw_239, by decide +kernel⟩
theorem kw_620 : Cond.methodLink RX2 12 yX4_init ∈ gWs := gWm 620 (by decide +kernel) rfl
theorem cl_X2_12 : gCI RX2 12 yX4_init cX4_init 2 1 := ⟨gWs_all kw_276, kw_239, kw_620, kw_275, rfl, ⟨by decide +kernel, by decide +kernel, by decide +kernel⟩⟩
theorem kw_624 : Cond.fieldLink RX2 15 "WordTongue$Constants" "stack" "LWordTongue$Ints;" ∈ gWs := gWm 624 (by decide +kernel) rfl
theorem kw_628 : Cond.laysFinal RX2 "WordTongue$Constants" "tree" "LWordTongue$Tree;" ∈ gWs := gWm 628 (by decide +kernel) rfl
theorem kw_630 : Cond.laysFinal RX2 "WordTongue$Constants" "program" "LWordTongue$Program;" ∈ gWs := gWm 630 (by decide +kernel) rfl
theorem kw_632 : Cond.laysFinal RX2 "WordTongue$Constants" "scope" "LWordTongue$Scope;" ∈ gWs := gWm 632 (by decide +kernel) rfl
theorem kw_634 : Cond.laysFinal RX2 "WordTongue$Constants" "stack" "LWordTongue$Ints;" ∈ gWs := gWm 634 (by decide +kernel) rfl
theorem kw_636 : Cond.lays RX2 "WordTongue$Constants" "failed" "Z" ∈ gWs := gWm 636 (by decide +kernel) rfl
theorem kw_638 : Cond.lays RX2 "WordTongue$Constants" "faultKind" "I" ∈ gWs := gWm 638 (by decide +kernel) rfl
theorem kw_640 : Cond.lays RX2 "WordTongue$Constants" "faultPlace" "I" ∈ gWs := gWm 640 (by decide +kernel) rfl
set_option maxRecDepth 20000 in
theorem inW_RX2 : ∀ w ∈ u_ws RX2 TX2 7, w ∈ gWs := List.forall_mem_cons.mpr ⟨kw_628, List.forall_mem_cons.mpr ⟨kw_630, List.forall_mem_cons.mpr ⟨kw_632, List.forall_mem_cons.mpr ⟨kw_634, List.forall_mem_cons.mpr ⟨kw_636, List.forall_mem_cons.mpr ⟨kw_638, List.forall_mem_cons.mpr ⟨kw_640, fun _ h => nomatch h⟩⟩⟩⟩⟩⟩⟩
theorem fl_X2_15 : gFL RX2 15 2 3 (.object "WordTongue$Ints") true := ⟨RX2, TX2, 7, tyX2, rfl, by decide, inW_RX2, kw_624, tyX2_ok, nmX2, rfl, by decide +kernel, fun _ => rfl⟩
theorem kw_619 : Cond.constant RX2 11 1000000 ∈ gWs := gWm 619 (by decide +kernel) rfl
theorem kw_625 : Cond.fieldLink RX2 21 "WordTongue$Constants" "failed" "Z" ∈ gWs := gWm 625 (by decide +kernel) rfl
theorem fl_X2_21 : gFL RX2 21 2 4 .boolean false := ⟨RX2, TX2, 7, tyX2, rfl, by decide, inW_RX2, kw_625, tyX2_ok, nmX2, rfl, by decide +kernel, fun h => by cases h⟩
theorem kw_626 : Cond.fieldLink RX2 25 "WordTongue$Constants" "faultKind" "I" ∈ gWs := gWm 626 (by decide +kernel) rfl
theorem fl_X2_25 : gFL RX2 25 2 5 .int false := ⟨RX2, TX2, 7, tyX2, rfl, by decide, inW_RX2, kw_626, tyX2_ok, nmX2, rfl, by decide +kernel, fun h => by cases h⟩
theorem kw_627 : Cond.fieldLink RX2 29 "WordTongue$Constants" "faultPlace" "I" ∈ gWs := gWm 627 (by decide +kernel) rfl
theorem fl_X2_29 : gFL RX2 29 2 6 .int false := ⟨RX2, TX2, 7, tyX2, rfl, by decide, inW_RX2, kw_627, tyX2_ok, nmX2, rfl, by decide +kernel, fun h => by cases h⟩
theorem kw_621 : Cond.fieldLink RX2 32 "WordTongue$Constants" "tree" "LWordTongue$Tree;" ∈ gWs := gWm 621 (by decide +kernel) rfl
theorem fl_X2_32 : gFL RX2 32 2 0 (.object "WordTongue$Tree") true := ⟨RX2, TX2, 7, tyX2, rfl, by decide, inW_RX2, kw_621, tyX2_ok, nmX2, rfl, by decide +kernel, fun _ => rfl⟩
theorem kw_622 : Cond.fieldLink RX2 36 "WordTongue$Constants" "program" "LWordTongue$Program;" ∈ gWs := gWm 622 (by decide +kernel) rfl
theorem fl_X2_36 : gFL RX2 36 2 1 (.object "WordTongue$Program") true := ⟨RX2, TX2, 7, tyX2, rfl, by decide, inW_RX2, kw_622, tyX2_ok, nmX2, rfl, by decide +kernel, fun _ => rfl⟩
theorem kw_623 : Cond.fieldLink RX2 40 "WordTongue$Constants" "scope" "LWordTongue$Scope;" ∈ gWs := gWm 623 (by decide +kernel) rfl
theorem fl_X2_40 : gFL RX2 40 2 2 (.object "WordTongue$Scope") true := ⟨RX2, TX2, 7, tyX2, rfl, by decide, inW_RX2, kw_623, tyX2_ok, nmX2, rfl, by decide +kernel, fun _ => rfl⟩
theorem kw_737 : Cond.methodLink RX3 3 objectInit ∈ gWs := gWm 737 (by decide +kernel) rfl
theorem kw_738 : Cond.classLink RX3 9 RX4 ∈ gWs := gWm 738 (by decide +kernel) rfl
theorem nl_X3_9 : gNL RX3 9 4 3 [.int 0, .null, .int 0] := ⟨RX4, TX4, tyX4, rfl, inW_RX4, tyX4_ok, kw_738, kw_273, kw_239, by decide +kernel⟩
theorem kw_739 : Cond.methodLink RX3 11 yX4_init ∈ gWs := gWm 739 (by decide +kernel) rfl
theorem cl_X3_11 : gCI RX3 11 yX4_init cX4_init 2 1 := ⟨gWs_all kw_276, kw_239, kw_739, kw_275, rfl, ⟨by decide +kernel, by decide +kernel, by decide +kernel⟩⟩
theorem kw_740 : Cond.fieldLink RX3 14 "WordTongue$Heap" "starts" "LWordTongue$Ints;" ∈ gWs := gWm 740 (by decide +kernel) rfl
theorem kw_742 : Cond.laysFinal RX3 "WordTongue$Heap" "starts" "LWordTongue$Ints;" ∈ gWs := gWm 742 (by decide +kernel) rfl
theorem kw_744 : Cond.laysFinal RX3 "WordTongue$Heap" "lengths" "LWordTongue$Ints;" ∈ gWs := gWm 744 (by decide +kernel) rfl
set_option maxRecDepth 20000 in
theorem inW_RX3 : ∀ w ∈ u_ws RX3 TX3 2, w ∈ gWs := List.forall_mem_cons.mpr ⟨kw_742, List.forall_mem_cons.mpr ⟨kw_744, fun _ h => nomatch h⟩⟩
theorem fl_X3_14 : gFL RX3 14 3 0 (.object "WordTongue$Ints") true := ⟨RX3, TX3, 2, tyX3, rfl, by decide, inW_RX3, kw_740, tyX3_ok, nmX3, rfl, by decide +kernel, fun _ => rfl⟩
theorem kw_741 : Cond.fieldLink RX3 20 "WordTongue$Heap" "lengths" "LWordTongue$Ints;" ∈ gWs := gWm 741 (by decide +kernel) rfl
theorem fl_X3_20 : gFL RX3 20 3 1 (.object "WordTongue$Ints") true := ⟨RX3, TX3, 2, tyX3, rfl, by decide, inW_RX3, kw_741, tyX3_ok, nmX3, rfl, by decide +kernel, fun _ => rfl⟩
/-- everything told stays told; all but t stays as it is -/
def gEx (t : Nat) (F F' : gM) : Prop := ∀ x, F x ≠ g0 → F' x ≠ g0 ∧ (x ≠ t → F' x = F x)
theorem gEx.rf {t : Nat} {F : gM} : gEx t F F := fun _ h => ⟨h, fun _ => rfl⟩
theorem gEx.tr {t : Nat} {F F1 F2 : gM} (h : gEx t F F1) (h2 : gEx t F1 F2) : gEx t F F2 := fun x hx => ⟨(h2 x (h x hx).1).1, fun e => ((h2 x (h x hx).1).2 e).trans ((h x hx).2 e)⟩
theorem gEx.up {t a : Nat} {F : gM} {e : va_E} (h : F a = g0 ∨ a = t) (he : e ≠ g0) : gEx t F (va_up F a e) := fun x hx => by
  by_cases c : x = a
  · subst c
    rw [va_up_self]
    exact ⟨he, fun z => h.elim (fun q => absurd q hx) (fun q => absurd q z)⟩
  · rw [va_up_ne _ _ c]
    exact ⟨hx, fun _ => rfl⟩
/-- a callee's own: it may change a, new since F -/
theorem gEx.call {t a : Nat} {F F1 F2 : gM} (h : gEx t F F1) (ha : F a = g0) (h2 : gEx a F1 F2) : gEx t F F2 := fun x hx => ⟨(h2 x (h x hx).1).1, fun e => ((h2 x (h x hx).1).2 (fun z => hx (by rw [z]; exact ha))).trans ((h x hx).2 e)⟩
theorem gEx.g0 {t a : Nat} {F F1 : gM} (h : gEx t F F1) (h1 : F1 a = g0) : F a = g0 := Classical.byContradiction fun q => (h a q).1 h1
/-- rows made since F: (where, its cells, the most, whether empty still) -/
def gNw (d : gD) (F F' : gM) (L : List (Nat × Nat × Nat × Bool)) : Prop :=
  (∀ p ∈ L, (if p.2.2.2 = true then gIn d F' p.1 p.2.1 p.2.2.1 16 0 (fun _ => 0) else ∃ n z f, gIn d F' p.1 p.2.1 p.2.2.1 n z f) ∧ F p.1 = g0 ∧ F p.2.1 = g0) ∧ (L.map (fun p => p.1)).Nodup ∧ (L.map (fun p => p.2.1)).Nodup
theorem gNw.nil {d : gD} {F F' : gM} : gNw d F F' [] := ⟨fun p h => absurd h List.not_mem_nil, List.nodup_nil, List.nodup_nil⟩
theorem gNw.has {d : gD} {F F' : gM} {L : List (Nat × Nat × Nat × Bool)} (h : gNw d F F' L) {p : Nat × Nat × Nat × Bool} (hp : p ∈ L) : ∃ n z f, gIn d F' p.1 p.2.1 p.2.2.1 n z f := by
  have h1 := (h.1 p hp).1
  split at h1
  · exact ⟨_, _, _, h1⟩
  · exact h1
theorem gIn.kept {d : gD} {F F' : gM} {a q mo n z : Nat} {f : Nat → Int32} (h : gIn d F a q mo n z f) (h1 : F' a = F a) (h2 : F' q = F q) : gIn d F' a q mo n z f := ⟨h1.trans h.1, h2.trans h.2.1, h.2.2⟩
theorem gIn.na {d : gD} {F : gM} {a q mo n z : Nat} {f : Nat → Int32} (h : gIn d F a q mo n z f) : F a ≠ g0 ∧ F q ≠ g0 := ⟨by rw [h.1]; exact g0_o, by rw [h.2.1]; exact g0_a⟩
theorem gNw.app {d : gD} {t : Nat} {F F1 F2 F3 : gM} {L L2 : List (Nat × Nat × Nat × Bool)} (h : gNw d F F1 L) (e1 : gEx t F F1) (ht : F t ≠ g0) (h2 : gNw d F2 F3 L2) (e2 : ∀ x, F1 x ≠ g0 → F2 x ≠ g0) (e3 : ∀ x, x ≠ t → F1 x ≠ g0 → F3 x = F1 x) : gNw d F F3 (L ++ L2) := by
  have nt : ∀ p ∈ L, p.1 ≠ t ∧ p.2.1 ≠ t := fun p hp => ⟨fun e => ht (by rw [← e]; exact (h.1 p hp).2.1), fun e => ht (by rw [← e]; exact (h.1 p hp).2.2)⟩
  have back : ∀ x, F2 x = g0 → F x = g0 := fun x hx => Classical.byContradiction fun q => e2 x (e1 x q).1 hx
  refine ⟨fun p hp => ?_, ?_, ?_⟩
  · rcases List.mem_append.mp hp with hp | hp
    · obtain ⟨h3, h4⟩ := h.1 p hp
      obtain ⟨n0, z0, f0, g⟩ := h.has hp
      have k1 := e3 _ (nt p hp).1 g.na.1
      have k2 := e3 _ (nt p hp).2 g.na.2
      refine ⟨?_, h4⟩
      split at h3
      · rename_i c; rw [if_pos c]; exact h3.kept k1 k2
      · rename_i c; rw [if_neg c]; obtain ⟨n, z, f, h3⟩ := h3; exact ⟨n, z, f, h3.kept k1 k2⟩
    · obtain ⟨h3, h4, h5⟩ := h2.1 p hp
      exact ⟨h3, back _ h4, back _ h5⟩
  · rw [List.map_append, List.nodup_append]
    refine ⟨h.2.1, h2.2.1, fun x hx y hy e => ?_⟩
    obtain ⟨p, hp, rfl⟩ := List.mem_map.mp hx
    obtain ⟨q, hq, rfl⟩ := List.mem_map.mp hy
    obtain ⟨n0, z0, f0, g⟩ := h.has hp
    exact e2 _ g.na.1 (by rw [show p.1 = q.1 from e]; exact (h2.1 q hq).2.1)
  · rw [List.map_append, List.nodup_append]
    refine ⟨h.2.2, h2.2.2, fun x hx y hy e => ?_⟩
    obtain ⟨p, hp, rfl⟩ := List.mem_map.mp hx
    obtain ⟨q, hq, rfl⟩ := List.mem_map.mp hy
    obtain ⟨n0, z0, f0, g⟩ := h.has hp
    exact e2 _ g.na.2 (by rw [show p.2.1 = q.2.1 from e]; exact (h2.1 q hq).2.2)
/-- a constructor at work on t, begun at F -/
def gCn (d : gD) (t ci : Nat) (F F' : gM) (fs : List Value) (L : List (Nat × Nat × Nat × Bool)) : Prop := F' t = .inr (ci, fs) ∧ F t ≠ g0 ∧ gEx t F F' ∧ gNw d F F' L
theorem gCn.put {d : gD} {t ci : Nat} {F F1 F2 : gM} {fs : List Value} {v : Value} {fs2 : List Value} {L : List (Nat × Nat × Nat × Bool)} (h : gCn d t ci F F1 fs L) (hF : F2 = va_up F1 t (.inr (ci, v :: fs2))) : gCn d t ci F F2 (v :: fs2) L := by
  have e : gEx t F1 F2 := by rw [hF]; exact gEx.up (Or.inr rfl) g0_o
  refine ⟨by rw [hF]; exact va_up_self _ _ _, h.2.1, h.2.2.1.tr e, ?_⟩
  have q := h.2.2.2.app (F2 := F1) (F3 := F2) (L2 := []) h.2.2.1 h.2.1 gNw.nil (fun _ z => z) (fun x hx hn => (e x hn).2 hx)
  rw [List.append_nil] at q
  exact q
section GC
variable {own : String} {cc : ByteArray} {nL : Nat} {rt : Option FieldType} {R : Room} {d : gD} {b : Nat} {X : gX} {Q : State → Prop} {F F0 : gM} {k n pc : Nat} {lv : List (Option Value)} {st : List Value} {lw mc ms : Nat}
theorem g_putC (hC : gC own cc nL rt "<init>" R d b X) {t ci idx j : Nat} {ty : FieldType} {fin : Bool} {v0 v : Value} {fs fs2 : List Value} {L : List (Nat × Nat × Nat × Bool)} {v2 : Value} (h : gCn d t ci F0 F (v0 :: fs) L) (hl : gFL own idx ci j ty fin) (hn : narrow ty v = v) (hfit : fits ty v = true) (hj : j < (v0 :: fs).length) (hs : (v0 :: fs).set j v = v2 :: fs2) (hdg : decode cc pc = .ok (.putfield idx, 3))
    (kk : ∀ F' : gM, gCn d t ci F0 F' (v2 :: fs2) L → (∀ x, x ≠ t → F' x = F x) → gG X d b Q F' k n (pc + 3) lv st) : gG X d b Q F k n pc lv (v :: .ref t :: st) := by
  cases fin with
  | false =>
    refine g_put hC hl h.1 hn hfit hj hdg (g_vF (fun F' e => ?_))
    rw [hs] at e
    exact kk F' (h.put e) (fun x hx => by rw [e, va_up_ne _ _ hx])
  | true =>
    refine g_putF hC hl h.1 hn hfit hj hdg (g_vF (fun F' e => ?_))
    rw [hs] at e
    exact kk F' (h.put e) (fun x hx => by rw [e, va_up_ne _ _ hx])
/-- new Ints(mo), put -/
theorem g_newInts (mo : Nat) (hC : gC own cc nL rt "<init>" (gR lw mc ms) d b X) {t ci iN iI iF j c : Nat} {ty : FieldType} {fin : Bool} {v0 : Value} {fs : List Value} {L : List (Nat × Nat × Nat × Bool)} (h : gCn d t ci F0 F (v0 :: fs) L) (hlv : lv[0]? = some (some (.ref t))) (hn : nL = lv.length) (hm : 16 ≤ mo) (hM : mo ≤ 1000000)
    (d0 : decode cc pc = .ok (.aload_n 0, 1)) (d1 : decode cc (pc + 1) = .ok (.new iN, 3)) (d4 : decode cc (pc + 1 + 3) = .ok (.dup, 1)) (hc : ∀ (F' : gM) (k' n' : Nat) (st' : List Value), gG X d b Q F' k' n' (pc + 1 + 3 + 1 + c) lv (.int (nI mo) :: st') → gG X d b Q F' k' n' (pc + 1 + 3 + 1) lv st') (d5 : decode cc (pc + 1 + 3 + 1 + c) = .ok (.invokespecial iI, 3)) (d6 : decode cc (pc + 1 + 3 + 1 + c + 3) = .ok (.putfield iF, 3))
    (hN : gNL own iN 4 3 [.int 0, .null, .int 0]) (hI : gCI own iI yX4_init cX4_init 2 1) (hl : gFL own iF ci j ty fin) (hty : ∀ a : Nat, narrow ty (.ref a) = .ref a ∧ fits ty (.ref a) = true) (hj : j < (v0 :: fs).length) (hs : ∀ a : Nat, ∃ v2 fs2, (v0 :: fs).set j (.ref a) = v2 :: fs2) (hk : k + 2 ≤ mc) (hsl : n + 19 ≤ ms) (hw : 2 ≤ lw) (hst : (st.map fun v => v.category).sum ≤ 4)
    (kk : ∀ (a q : Nat) (F' : gM), gCn d t ci F0 F' ((v0 :: fs).set j (.ref a)) (L ++ [(a, q, mo, true)]) → F a = g0 → (∀ x, x ≠ t → F x ≠ g0 → F' x = F x) → gG X d b Q F' (k + 2) (n + 19) (pc + 11 + c) lv st) : gG X d b Q F k n pc lv st := by
  refine g_aload_n hC d0 hlv ?_
  refine g_new hC hN (gRc (Nat.le_trans (by omega) hk)) (gRs (Nat.le_trans (by omega) hsl)) d1 (fun a ha => ?_)
  refine g_dup hC d4 rfl ?_
  refine hc _ _ _ _ ?_
  have hta : t ≠ a := gne h.1 ha g0_o
  refine g_callIv (As := [.int (nI mo)]) hC (c_Ints_init X.la d b _ a mo (va_up_self _ _ _) hm hM) hI rfl hn (by
    show 1 + (1 + (st.map fun v => v.category).sum) ≤ 8
    omega) (gFit_of hw (by decide) (by omega) (by omega)) d5 (fun F2 hp => ?_)
  obtain ⟨q, hq, hin, hkeep⟩ := hp
  have hF2t : F2 t = .inr (ci, v0 :: fs) := (hkeep t hta (by rw [va_up_ne _ _ hta, h.1]; exact g0_o)).trans ((va_up_ne _ _ hta).trans h.1)
  have hqF : F q = g0 := by
    have hne : q ≠ a := fun e => by rw [e, va_up_self] at hq; exact g0_o hq
    rw [va_up_ne _ _ hne] at hq
    exact hq
  have x1 : gEx t F F2 := fun x hx => by
    have hxa : x ≠ a := fun e => hx (by rw [e]; exact ha)
    have e1 : F2 x = F x := (hkeep x hxa (by rw [va_up_ne _ _ hxa]; exact hx)).trans (va_up_ne _ _ hxa)
    exact ⟨by rw [e1]; exact hx, fun _ => e1⟩
  have hnw : gNw d F F2 [(a, q, mo, true)] := ⟨fun p hp => by
    cases List.mem_singleton.mp hp
    exact ⟨by rw [if_pos rfl]; exact hin, ha, hqF⟩, List.nodup_cons.mpr ⟨List.not_mem_nil, List.nodup_nil⟩, List.nodup_cons.mpr ⟨List.not_mem_nil, List.nodup_nil⟩⟩
  have hcn : gCn d t ci F0 F2 (v0 :: fs) (L ++ [(a, q, mo, true)]) := ⟨hF2t, h.2.1, h.2.2.1.tr x1, h.2.2.2.app h.2.2.1 h.2.1 hnw (fun _ z => z) (fun x _ hn => by
    have hxa : x ≠ a := fun e => hn (by rw [e]; exact ha)
    exact (hkeep x hxa (by rw [va_up_ne _ _ hxa]; exact hn)).trans (va_up_ne _ _ hxa))⟩
  obtain ⟨v2, fs2, e2⟩ := hs a
  refine g_putC hC hcn hl (hty a).1 (hty a).2 hj e2 d6 (fun F3 h3 h4 => ?_)
  rw [← e2] at h3
  have e9 : pc + 1 + 3 + 1 + c + 3 + 3 = pc + 11 + c := by omega
  rw [e9]
  exact g_kn rfl rfl (kk a q F3 h3 ha (fun x hx hn => (h4 x hx).trans ((x1 x hn).2 hx)))
end GC
theorem dX7_init_0 : decode cX7_init 0 = .ok (.aload_n 0, 1) := by decide +kernel
theorem dX7_init_1 : decode cX7_init 1 = .ok (.invokespecial 3, 3) := by decide +kernel
theorem dX7_init_4 : decode cX7_init 4 = .ok (.aload_n 0, 1) := by decide +kernel
theorem dX7_init_5 : decode cX7_init 5 = .ok (.new 9, 3) := by decide +kernel
theorem dX7_init_8 : decode cX7_init 8 = .ok (.dup, 1) := by decide +kernel
theorem dX7_init_9 : decode cX7_init 9 = .ok (.ldc 11, 2) := by decide +kernel
theorem dX7_init_11 : decode cX7_init 11 = .ok (.invokespecial 12, 3) := by decide +kernel
theorem dX7_init_14 : decode cX7_init 14 = .ok (.putfield 15, 3) := by decide +kernel
theorem dX7_init_17 : decode cX7_init 17 = .ok (.aload_n 0, 1) := by decide +kernel
theorem dX7_init_18 : decode cX7_init 18 = .ok (.new 9, 3) := by decide +kernel
theorem dX7_init_21 : decode cX7_init 21 = .ok (.dup, 1) := by decide +kernel
theorem dX7_init_22 : decode cX7_init 22 = .ok (.ldc 11, 2) := by decide +kernel
theorem dX7_init_24 : decode cX7_init 24 = .ok (.invokespecial 12, 3) := by decide +kernel
theorem dX7_init_27 : decode cX7_init 27 = .ok (.putfield 21, 3) := by decide +kernel
theorem dX7_init_30 : decode cX7_init 30 = .ok (.aload_n 0, 1) := by decide +kernel
theorem dX7_init_31 : decode cX7_init 31 = .ok (.new 9, 3) := by decide +kernel
theorem dX7_init_34 : decode cX7_init 34 = .ok (.dup, 1) := by decide +kernel
theorem dX7_init_35 : decode cX7_init 35 = .ok (.ldc 11, 2) := by decide +kernel
theorem dX7_init_37 : decode cX7_init 37 = .ok (.invokespecial 12, 3) := by decide +kernel
theorem dX7_init_40 : decode cX7_init 40 = .ok (.putfield 24, 3) := by decide +kernel
theorem dX7_init_43 : decode cX7_init 43 = .ok (.aload_n 0, 1) := by decide +kernel
theorem dX7_init_44 : decode cX7_init 44 = .ok (.new 9, 3) := by decide +kernel
theorem dX7_init_47 : decode cX7_init 47 = .ok (.dup, 1) := by decide +kernel
theorem dX7_init_48 : decode cX7_init 48 = .ok (.ldc 11, 2) := by decide +kernel
theorem dX7_init_50 : decode cX7_init 50 = .ok (.invokespecial 12, 3) := by decide +kernel
theorem dX7_init_53 : decode cX7_init 53 = .ok (.putfield 27, 3) := by decide +kernel
theorem dX7_init_56 : decode cX7_init 56 = .ok (.aload_n 0, 1) := by decide +kernel
theorem dX7_init_57 : decode cX7_init 57 = .ok (.new 9, 3) := by decide +kernel
theorem dX7_init_60 : decode cX7_init 60 = .ok (.dup, 1) := by decide +kernel
theorem dX7_init_61 : decode cX7_init 61 = .ok (.ldc 11, 2) := by decide +kernel
theorem dX7_init_63 : decode cX7_init 63 = .ok (.invokespecial 12, 3) := by decide +kernel
theorem dX7_init_66 : decode cX7_init 66 = .ok (.putfield 30, 3) := by decide +kernel
theorem dX7_init_69 : decode cX7_init 69 = .ok (.aload_n 0, 1) := by decide +kernel
theorem dX7_init_70 : decode cX7_init 70 = .ok (.new 9, 3) := by decide +kernel
theorem dX7_init_73 : decode cX7_init 73 = .ok (.dup, 1) := by decide +kernel
theorem dX7_init_74 : decode cX7_init 74 = .ok (.ldc 11, 2) := by decide +kernel
theorem dX7_init_76 : decode cX7_init 76 = .ok (.invokespecial 12, 3) := by decide +kernel
theorem dX7_init_79 : decode cX7_init 79 = .ok (.putfield 33, 3) := by decide +kernel
theorem dX7_init_82 : decode cX7_init 82 = .ok (.aload_n 0, 1) := by decide +kernel
theorem dX7_init_83 : decode cX7_init 83 = .ok (.sipush 4096, 3) := by decide +kernel
theorem dX7_init_86 : decode cX7_init 86 = .ok (.putfield 36, 3) := by decide +kernel
theorem dX7_init_89 : decode cX7_init 89 = .ok (.aload_n 0, 1) := by decide +kernel
theorem dX7_init_90 : decode cX7_init 90 = .ok (.iconst (-1), 1) := by decide +kernel
theorem dX7_init_91 : decode cX7_init 91 = .ok (.putfield 40, 3) := by decide +kernel
theorem dX7_init_94 : decode cX7_init 94 = .ok (.aload_n 0, 1) := by decide +kernel
theorem dX7_init_95 : decode cX7_init 95 = .ok (.iconst 0, 1) := by decide +kernel
theorem dX7_init_96 : decode cX7_init 96 = .ok (.putfield 43, 3) := by decide +kernel
theorem dX7_init_99 : decode cX7_init 99 = .ok (.aload_n 0, 1) := by decide +kernel
theorem dX7_init_100 : decode cX7_init 100 = .ok (.iconst 0, 1) := by decide +kernel
theorem dX7_init_101 : decode cX7_init 101 = .ok (.putfield 46, 3) := by decide +kernel
theorem dX7_init_104 : decode cX7_init 104 = .ok (.aload_n 0, 1) := by decide +kernel
theorem dX7_init_105 : decode cX7_init 105 = .ok (.iconst 0, 1) := by decide +kernel
theorem dX7_init_106 : decode cX7_init 106 = .ok (.putfield 49, 3) := by decide +kernel
theorem dX7_init_109 : decode cX7_init 109 = .ok (.return_, 1) := by decide +kernel
set_option maxHeartbeats 4000000 in
set_option maxRecDepth 100000 in
theorem k_P (l : Launch) (d : gD) (b : Nat) (F : gM) (t : Nat)  (h : F t = .inr (7, [.null, .null, .null, .null, .null, .null, .int 0, .int 0, .int 0, .int 0, .int 0])) : gMv l d b yX7_init cX7_init 1 3 12 114 F [.ref t] (fun F' => ∃ a0 q0 a1 q1 a2 q2 a3 q3 a4 q4 a5 q5 : Nat, gCn d t 7 F F' [.ref a0, .ref a1, .ref a2, .ref a3, .ref a4, .ref a5, .int 4096, .int (-1), .int 0, .int 0, .int 0] [(a0, q0, 1000000, true), (a1, q1, 1000000, true), (a2, q2, 1000000, true), (a3, q3, 1000000, true), (a4, q4, 1000000, true), (a5, q5, 1000000, true)]) := by
  refine gM_of2 rfl (nL := 1) (Nat.le_of_ble_eq_true rfl) ?_
  intro X hX hC; subst hX
  show gG X d b _ F 0 0 0 [some (.ref t)] []
  have hcn : gCn d t 7 F F [.null, .null, .null, .null, .null, .null, .int 0, .int 0, .int 0, .int 0, .int 0] [] := ⟨h, by rw [h]; exact g0_o, gEx.rf, gNw.nil⟩
  refine g_aload_n hC dX7_init_0 rfl ?_
  refine g_objInit hC dX7_init_1 kw_294 rfl ⟨Nat.le_of_ble_eq_true rfl, Nat.le_of_ble_eq_true rfl⟩ (Nat.le_of_ble_eq_true rfl) ?_
  refine g_newInts 1000000 hC hcn rfl rfl (by decide) (by decide) dX7_init_4 dX7_init_5 dX7_init_8 (fun _ _ _ _ kk => g_ldc hC dX7_init_9 kw_296 kk) dX7_init_11 dX7_init_14 nl_X7_9 cl_X7_12 fl_X7_15 (fun _ => ⟨rfl, rfl⟩) (Nat.le_of_ble_eq_true rfl) (fun _ => ⟨_, _, rfl⟩) (by first | exact Nat.le_of_ble_eq_true rfl | omega | (simp only [gR]; omega)) (by first | exact Nat.le_of_ble_eq_true rfl | omega | (simp only [gR]; omega)) (Nat.le_of_ble_eq_true rfl) (Nat.le_of_ble_eq_true rfl) (fun a1 q2 F3 h4 e6 hx7 => ?_)
  have hcn5 : gCn d t 7 F F3 [.ref a1, .null, .null, .null, .null, .null, .int 0, .int 0, .int 0, .int 0, .int 0] [(a1, q2, 1000000, true)] := h4
  refine g_newInts 1000000 hC hcn5 rfl rfl (by decide) (by decide) dX7_init_17 dX7_init_18 dX7_init_21 (fun _ _ _ _ kk => g_ldc hC dX7_init_22 kw_296 kk) dX7_init_24 dX7_init_27 nl_X7_9 cl_X7_12 fl_X7_21 (fun _ => ⟨rfl, rfl⟩) (Nat.le_of_ble_eq_true rfl) (fun _ => ⟨_, _, rfl⟩) (by first | exact Nat.le_of_ble_eq_true rfl | omega | (simp only [gR]; omega)) (by first | exact Nat.le_of_ble_eq_true rfl | omega | (simp only [gR]; omega)) (Nat.le_of_ble_eq_true rfl) (Nat.le_of_ble_eq_true rfl) (fun a8 q9 F10 h11 e13 hx14 => ?_)
  have hcn12 : gCn d t 7 F F10 [.ref a1, .ref a8, .null, .null, .null, .null, .int 0, .int 0, .int 0, .int 0, .int 0] [(a1, q2, 1000000, true), (a8, q9, 1000000, true)] := h11
  refine g_newInts 1000000 hC hcn12 rfl rfl (by decide) (by decide) dX7_init_30 dX7_init_31 dX7_init_34 (fun _ _ _ _ kk => g_ldc hC dX7_init_35 kw_296 kk) dX7_init_37 dX7_init_40 nl_X7_9 cl_X7_12 fl_X7_24 (fun _ => ⟨rfl, rfl⟩) (Nat.le_of_ble_eq_true rfl) (fun _ => ⟨_, _, rfl⟩) (by first | exact Nat.le_of_ble_eq_true rfl | omega | (simp only [gR]; omega)) (by first | exact Nat.le_of_ble_eq_true rfl | omega | (simp only [gR]; omega)) (Nat.le_of_ble_eq_true rfl) (Nat.le_of_ble_eq_true rfl) (fun a15 q16 F17 h18 e20 hx21 => ?_)
  have hcn19 : gCn d t 7 F F17 [.ref a1, .ref a8, .ref a15, .null, .null, .null, .int 0, .int 0, .int 0, .int 0, .int 0] [(a1, q2, 1000000, true), (a8, q9, 1000000, true), (a15, q16, 1000000, true)] := h18
  refine g_newInts 1000000 hC hcn19 rfl rfl (by decide) (by decide) dX7_init_43 dX7_init_44 dX7_init_47 (fun _ _ _ _ kk => g_ldc hC dX7_init_48 kw_296 kk) dX7_init_50 dX7_init_53 nl_X7_9 cl_X7_12 fl_X7_27 (fun _ => ⟨rfl, rfl⟩) (Nat.le_of_ble_eq_true rfl) (fun _ => ⟨_, _, rfl⟩) (by first | exact Nat.le_of_ble_eq_true rfl | omega | (simp only [gR]; omega)) (by first | exact Nat.le_of_ble_eq_true rfl | omega | (simp only [gR]; omega)) (Nat.le_of_ble_eq_true rfl) (Nat.le_of_ble_eq_true rfl) (fun a22 q23 F24 h25 e27 hx28 => ?_)
  have hcn26 : gCn d t 7 F F24 [.ref a1, .ref a8, .ref a15, .ref a22, .null, .null, .int 0, .int 0, .int 0, .int 0, .int 0] [(a1, q2, 1000000, true), (a8, q9, 1000000, true), (a15, q16, 1000000, true), (a22, q23, 1000000, true)] := h25
  refine g_newInts 1000000 hC hcn26 rfl rfl (by decide) (by decide) dX7_init_56 dX7_init_57 dX7_init_60 (fun _ _ _ _ kk => g_ldc hC dX7_init_61 kw_296 kk) dX7_init_63 dX7_init_66 nl_X7_9 cl_X7_12 fl_X7_30 (fun _ => ⟨rfl, rfl⟩) (Nat.le_of_ble_eq_true rfl) (fun _ => ⟨_, _, rfl⟩) (by first | exact Nat.le_of_ble_eq_true rfl | omega | (simp only [gR]; omega)) (by first | exact Nat.le_of_ble_eq_true rfl | omega | (simp only [gR]; omega)) (Nat.le_of_ble_eq_true rfl) (Nat.le_of_ble_eq_true rfl) (fun a29 q30 F31 h32 e34 hx35 => ?_)
  have hcn33 : gCn d t 7 F F31 [.ref a1, .ref a8, .ref a15, .ref a22, .ref a29, .null, .int 0, .int 0, .int 0, .int 0, .int 0] [(a1, q2, 1000000, true), (a8, q9, 1000000, true), (a15, q16, 1000000, true), (a22, q23, 1000000, true), (a29, q30, 1000000, true)] := h32
  refine g_newInts 1000000 hC hcn33 rfl rfl (by decide) (by decide) dX7_init_69 dX7_init_70 dX7_init_73 (fun _ _ _ _ kk => g_ldc hC dX7_init_74 kw_296 kk) dX7_init_76 dX7_init_79 nl_X7_9 cl_X7_12 fl_X7_33 (fun _ => ⟨rfl, rfl⟩) (Nat.le_of_ble_eq_true rfl) (fun _ => ⟨_, _, rfl⟩) (by first | exact Nat.le_of_ble_eq_true rfl | omega | (simp only [gR]; omega)) (by first | exact Nat.le_of_ble_eq_true rfl | omega | (simp only [gR]; omega)) (Nat.le_of_ble_eq_true rfl) (Nat.le_of_ble_eq_true rfl) (fun a36 q37 F38 h39 e41 hx42 => ?_)
  have hcn40 : gCn d t 7 F F38 [.ref a1, .ref a8, .ref a15, .ref a22, .ref a29, .ref a36, .int 0, .int 0, .int 0, .int 0, .int 0] [(a1, q2, 1000000, true), (a8, q9, 1000000, true), (a15, q16, 1000000, true), (a22, q23, 1000000, true), (a29, q30, 1000000, true), (a36, q37, 1000000, true)] := h39
  refine g_aload_n hC dX7_init_82 rfl ?_
  refine g_sipush (v := 4096) hC dX7_init_83 rfl ?_
  refine g_putC hC hcn40 fl_X7_36 rfl rfl (Nat.le_of_ble_eq_true rfl) rfl dX7_init_86 (fun F43 hcn44 hx45 => ?_)
  have hx46 : ∀ x, x ≠ t → F38 x ≠ g0 → F43 x = F38 x := fun x q _ => hx45 x q
  refine g_aload_n hC dX7_init_89 rfl ?_
  refine g_iconst (v := (-1)) hC dX7_init_90 rfl ?_
  refine g_putC hC hcn44 fl_X7_40 rfl rfl (Nat.le_of_ble_eq_true rfl) rfl dX7_init_91 (fun F47 hcn48 hx49 => ?_)
  have hx50 : ∀ x, x ≠ t → F43 x ≠ g0 → F47 x = F43 x := fun x q _ => hx49 x q
  refine g_aload_n hC dX7_init_94 rfl ?_
  refine g_iconst (v := 0) hC dX7_init_95 rfl ?_
  refine g_putC hC hcn48 fl_X7_43 rfl rfl (Nat.le_of_ble_eq_true rfl) rfl dX7_init_96 (fun F51 hcn52 hx53 => ?_)
  have hx54 : ∀ x, x ≠ t → F47 x ≠ g0 → F51 x = F47 x := fun x q _ => hx53 x q
  refine g_aload_n hC dX7_init_99 rfl ?_
  refine g_iconst (v := 0) hC dX7_init_100 rfl ?_
  refine g_putC hC hcn52 fl_X7_46 rfl rfl (Nat.le_of_ble_eq_true rfl) rfl dX7_init_101 (fun F55 hcn56 hx57 => ?_)
  have hx58 : ∀ x, x ≠ t → F51 x ≠ g0 → F55 x = F51 x := fun x q _ => hx57 x q
  refine g_aload_n hC dX7_init_104 rfl ?_
  refine g_iconst (v := 0) hC dX7_init_105 rfl ?_
  refine g_putC hC hcn56 fl_X7_49 rfl rfl (Nat.le_of_ble_eq_true rfl) rfl dX7_init_106 (fun F59 hcn60 hx61 => ?_)
  have hx62 : ∀ x, x ≠ t → F55 x ≠ g0 → F59 x = F55 x := fun x q _ => hx61 x q
  exact g_vret hC ⟨a1, q2, a8, q9, a15, q16, a22, q23, a29, q30, a36, q37, hcn60⟩ (by first | exact Nat.le_of_ble_eq_true rfl | omega | (simp only [gR]; omega)) (by first | exact Nat.le_of_ble_eq_true rfl | omega | (simp only [gR]; omega)) dX7_init_109
theorem dX10_init_0 : decode cX10_init 0 = .ok (.aload_n 0, 1) := by decide +kernel
theorem dX10_init_1 : decode cX10_init 1 = .ok (.invokespecial 3, 3) := by decide +kernel
theorem dX10_init_4 : decode cX10_init 4 = .ok (.aload_n 0, 1) := by decide +kernel
theorem dX10_init_5 : decode cX10_init 5 = .ok (.new 9, 3) := by decide +kernel
theorem dX10_init_8 : decode cX10_init 8 = .ok (.dup, 1) := by decide +kernel
theorem dX10_init_9 : decode cX10_init 9 = .ok (.ldc 11, 2) := by decide +kernel
theorem dX10_init_11 : decode cX10_init 11 = .ok (.invokespecial 12, 3) := by decide +kernel
theorem dX10_init_14 : decode cX10_init 14 = .ok (.putfield 15, 3) := by decide +kernel
theorem dX10_init_17 : decode cX10_init 17 = .ok (.aload_n 0, 1) := by decide +kernel
theorem dX10_init_18 : decode cX10_init 18 = .ok (.new 9, 3) := by decide +kernel
theorem dX10_init_21 : decode cX10_init 21 = .ok (.dup, 1) := by decide +kernel
theorem dX10_init_22 : decode cX10_init 22 = .ok (.ldc 11, 2) := by decide +kernel
theorem dX10_init_24 : decode cX10_init 24 = .ok (.invokespecial 12, 3) := by decide +kernel
theorem dX10_init_27 : decode cX10_init 27 = .ok (.putfield 21, 3) := by decide +kernel
theorem dX10_init_30 : decode cX10_init 30 = .ok (.aload_n 0, 1) := by decide +kernel
theorem dX10_init_31 : decode cX10_init 31 = .ok (.new 9, 3) := by decide +kernel
theorem dX10_init_34 : decode cX10_init 34 = .ok (.dup, 1) := by decide +kernel
theorem dX10_init_35 : decode cX10_init 35 = .ok (.ldc 11, 2) := by decide +kernel
theorem dX10_init_37 : decode cX10_init 37 = .ok (.invokespecial 12, 3) := by decide +kernel
theorem dX10_init_40 : decode cX10_init 40 = .ok (.putfield 24, 3) := by decide +kernel
theorem dX10_init_43 : decode cX10_init 43 = .ok (.aload_n 0, 1) := by decide +kernel
theorem dX10_init_44 : decode cX10_init 44 = .ok (.new 9, 3) := by decide +kernel
theorem dX10_init_47 : decode cX10_init 47 = .ok (.dup, 1) := by decide +kernel
theorem dX10_init_48 : decode cX10_init 48 = .ok (.ldc 11, 2) := by decide +kernel
theorem dX10_init_50 : decode cX10_init 50 = .ok (.invokespecial 12, 3) := by decide +kernel
theorem dX10_init_53 : decode cX10_init 53 = .ok (.putfield 27, 3) := by decide +kernel
theorem dX10_init_56 : decode cX10_init 56 = .ok (.aload_n 0, 1) := by decide +kernel
theorem dX10_init_57 : decode cX10_init 57 = .ok (.new 9, 3) := by decide +kernel
theorem dX10_init_60 : decode cX10_init 60 = .ok (.dup, 1) := by decide +kernel
theorem dX10_init_61 : decode cX10_init 61 = .ok (.ldc 11, 2) := by decide +kernel
theorem dX10_init_63 : decode cX10_init 63 = .ok (.invokespecial 12, 3) := by decide +kernel
theorem dX10_init_66 : decode cX10_init 66 = .ok (.putfield 30, 3) := by decide +kernel
theorem dX10_init_69 : decode cX10_init 69 = .ok (.aload_n 0, 1) := by decide +kernel
theorem dX10_init_70 : decode cX10_init 70 = .ok (.new 9, 3) := by decide +kernel
theorem dX10_init_73 : decode cX10_init 73 = .ok (.dup, 1) := by decide +kernel
theorem dX10_init_74 : decode cX10_init 74 = .ok (.ldc 11, 2) := by decide +kernel
theorem dX10_init_76 : decode cX10_init 76 = .ok (.invokespecial 12, 3) := by decide +kernel
theorem dX10_init_79 : decode cX10_init 79 = .ok (.putfield 33, 3) := by decide +kernel
theorem dX10_init_82 : decode cX10_init 82 = .ok (.aload_n 0, 1) := by decide +kernel
theorem dX10_init_83 : decode cX10_init 83 = .ok (.new 9, 3) := by decide +kernel
theorem dX10_init_86 : decode cX10_init 86 = .ok (.dup, 1) := by decide +kernel
theorem dX10_init_87 : decode cX10_init 87 = .ok (.ldc 11, 2) := by decide +kernel
theorem dX10_init_89 : decode cX10_init 89 = .ok (.invokespecial 12, 3) := by decide +kernel
theorem dX10_init_92 : decode cX10_init 92 = .ok (.putfield 36, 3) := by decide +kernel
theorem dX10_init_95 : decode cX10_init 95 = .ok (.return_, 1) := by decide +kernel
set_option maxHeartbeats 4000000 in
set_option maxRecDepth 100000 in
theorem k_T (l : Launch) (d : gD) (b : Nat) (F : gM) (t : Nat)  (h : F t = .inr (10, [.null, .null, .null, .null, .null, .null, .null])) : gMv l d b yX10_init cX10_init 1 3 14 133 F [.ref t] (fun F' => ∃ a0 q0 a1 q1 a2 q2 a3 q3 a4 q4 a5 q5 a6 q6 : Nat, gCn d t 10 F F' [.ref a0, .ref a1, .ref a2, .ref a3, .ref a4, .ref a5, .ref a6] [(a0, q0, 1000000, true), (a1, q1, 1000000, true), (a2, q2, 1000000, true), (a3, q3, 1000000, true), (a4, q4, 1000000, true), (a5, q5, 1000000, true), (a6, q6, 1000000, true)]) := by
  refine gM_of2 rfl (nL := 1) (Nat.le_of_ble_eq_true rfl) ?_
  intro X hX hC; subst hX
  show gG X d b _ F 0 0 0 [some (.ref t)] []
  have hcn : gCn d t 10 F F [.null, .null, .null, .null, .null, .null, .null] [] := ⟨h, by rw [h]; exact g0_o, gEx.rf, gNw.nil⟩
  refine g_aload_n hC dX10_init_0 rfl ?_
  refine g_objInit hC dX10_init_1 kw_337 rfl ⟨Nat.le_of_ble_eq_true rfl, Nat.le_of_ble_eq_true rfl⟩ (Nat.le_of_ble_eq_true rfl) ?_
  refine g_newInts 1000000 hC hcn rfl rfl (by decide) (by decide) dX10_init_4 dX10_init_5 dX10_init_8 (fun _ _ _ _ kk => g_ldc hC dX10_init_9 kw_339 kk) dX10_init_11 dX10_init_14 nl_X10_9 cl_X10_12 fl_X10_15 (fun _ => ⟨rfl, rfl⟩) (Nat.le_of_ble_eq_true rfl) (fun _ => ⟨_, _, rfl⟩) (by first | exact Nat.le_of_ble_eq_true rfl | omega | (simp only [gR]; omega)) (by first | exact Nat.le_of_ble_eq_true rfl | omega | (simp only [gR]; omega)) (Nat.le_of_ble_eq_true rfl) (Nat.le_of_ble_eq_true rfl) (fun a1 q2 F3 h4 e6 hx7 => ?_)
  have hcn5 : gCn d t 10 F F3 [.ref a1, .null, .null, .null, .null, .null, .null] [(a1, q2, 1000000, true)] := h4
  refine g_newInts 1000000 hC hcn5 rfl rfl (by decide) (by decide) dX10_init_17 dX10_init_18 dX10_init_21 (fun _ _ _ _ kk => g_ldc hC dX10_init_22 kw_339 kk) dX10_init_24 dX10_init_27 nl_X10_9 cl_X10_12 fl_X10_21 (fun _ => ⟨rfl, rfl⟩) (Nat.le_of_ble_eq_true rfl) (fun _ => ⟨_, _, rfl⟩) (by first | exact Nat.le_of_ble_eq_true rfl | omega | (simp only [gR]; omega)) (by first | exact Nat.le_of_ble_eq_true rfl | omega | (simp only [gR]; omega)) (Nat.le_of_ble_eq_true rfl) (Nat.le_of_ble_eq_true rfl) (fun a8 q9 F10 h11 e13 hx14 => ?_)
  have hcn12 : gCn d t 10 F F10 [.ref a1, .ref a8, .null, .null, .null, .null, .null] [(a1, q2, 1000000, true), (a8, q9, 1000000, true)] := h11
  refine g_newInts 1000000 hC hcn12 rfl rfl (by decide) (by decide) dX10_init_30 dX10_init_31 dX10_init_34 (fun _ _ _ _ kk => g_ldc hC dX10_init_35 kw_339 kk) dX10_init_37 dX10_init_40 nl_X10_9 cl_X10_12 fl_X10_24 (fun _ => ⟨rfl, rfl⟩) (Nat.le_of_ble_eq_true rfl) (fun _ => ⟨_, _, rfl⟩) (by first | exact Nat.le_of_ble_eq_true rfl | omega | (simp only [gR]; omega)) (by first | exact Nat.le_of_ble_eq_true rfl | omega | (simp only [gR]; omega)) (Nat.le_of_ble_eq_true rfl) (Nat.le_of_ble_eq_true rfl) (fun a15 q16 F17 h18 e20 hx21 => ?_)
  have hcn19 : gCn d t 10 F F17 [.ref a1, .ref a8, .ref a15, .null, .null, .null, .null] [(a1, q2, 1000000, true), (a8, q9, 1000000, true), (a15, q16, 1000000, true)] := h18
  refine g_newInts 1000000 hC hcn19 rfl rfl (by decide) (by decide) dX10_init_43 dX10_init_44 dX10_init_47 (fun _ _ _ _ kk => g_ldc hC dX10_init_48 kw_339 kk) dX10_init_50 dX10_init_53 nl_X10_9 cl_X10_12 fl_X10_27 (fun _ => ⟨rfl, rfl⟩) (Nat.le_of_ble_eq_true rfl) (fun _ => ⟨_, _, rfl⟩) (by first | exact Nat.le_of_ble_eq_true rfl | omega | (simp only [gR]; omega)) (by first | exact Nat.le_of_ble_eq_true rfl | omega | (simp only [gR]; omega)) (Nat.le_of_ble_eq_true rfl) (Nat.le_of_ble_eq_true rfl) (fun a22 q23 F24 h25 e27 hx28 => ?_)
  have hcn26 : gCn d t 10 F F24 [.ref a1, .ref a8, .ref a15, .ref a22, .null, .null, .null] [(a1, q2, 1000000, true), (a8, q9, 1000000, true), (a15, q16, 1000000, true), (a22, q23, 1000000, true)] := h25
  refine g_newInts 1000000 hC hcn26 rfl rfl (by decide) (by decide) dX10_init_56 dX10_init_57 dX10_init_60 (fun _ _ _ _ kk => g_ldc hC dX10_init_61 kw_339 kk) dX10_init_63 dX10_init_66 nl_X10_9 cl_X10_12 fl_X10_30 (fun _ => ⟨rfl, rfl⟩) (Nat.le_of_ble_eq_true rfl) (fun _ => ⟨_, _, rfl⟩) (by first | exact Nat.le_of_ble_eq_true rfl | omega | (simp only [gR]; omega)) (by first | exact Nat.le_of_ble_eq_true rfl | omega | (simp only [gR]; omega)) (Nat.le_of_ble_eq_true rfl) (Nat.le_of_ble_eq_true rfl) (fun a29 q30 F31 h32 e34 hx35 => ?_)
  have hcn33 : gCn d t 10 F F31 [.ref a1, .ref a8, .ref a15, .ref a22, .ref a29, .null, .null] [(a1, q2, 1000000, true), (a8, q9, 1000000, true), (a15, q16, 1000000, true), (a22, q23, 1000000, true), (a29, q30, 1000000, true)] := h32
  refine g_newInts 1000000 hC hcn33 rfl rfl (by decide) (by decide) dX10_init_69 dX10_init_70 dX10_init_73 (fun _ _ _ _ kk => g_ldc hC dX10_init_74 kw_339 kk) dX10_init_76 dX10_init_79 nl_X10_9 cl_X10_12 fl_X10_33 (fun _ => ⟨rfl, rfl⟩) (Nat.le_of_ble_eq_true rfl) (fun _ => ⟨_, _, rfl⟩) (by first | exact Nat.le_of_ble_eq_true rfl | omega | (simp only [gR]; omega)) (by first | exact Nat.le_of_ble_eq_true rfl | omega | (simp only [gR]; omega)) (Nat.le_of_ble_eq_true rfl) (Nat.le_of_ble_eq_true rfl) (fun a36 q37 F38 h39 e41 hx42 => ?_)
  have hcn40 : gCn d t 10 F F38 [.ref a1, .ref a8, .ref a15, .ref a22, .ref a29, .ref a36, .null] [(a1, q2, 1000000, true), (a8, q9, 1000000, true), (a15, q16, 1000000, true), (a22, q23, 1000000, true), (a29, q30, 1000000, true), (a36, q37, 1000000, true)] := h39
  refine g_newInts 1000000 hC hcn40 rfl rfl (by decide) (by decide) dX10_init_82 dX10_init_83 dX10_init_86 (fun _ _ _ _ kk => g_ldc hC dX10_init_87 kw_339 kk) dX10_init_89 dX10_init_92 nl_X10_9 cl_X10_12 fl_X10_36 (fun _ => ⟨rfl, rfl⟩) (Nat.le_of_ble_eq_true rfl) (fun _ => ⟨_, _, rfl⟩) (by first | exact Nat.le_of_ble_eq_true rfl | omega | (simp only [gR]; omega)) (by first | exact Nat.le_of_ble_eq_true rfl | omega | (simp only [gR]; omega)) (Nat.le_of_ble_eq_true rfl) (Nat.le_of_ble_eq_true rfl) (fun a43 q44 F45 h46 e48 hx49 => ?_)
  have hcn47 : gCn d t 10 F F45 [.ref a1, .ref a8, .ref a15, .ref a22, .ref a29, .ref a36, .ref a43] [(a1, q2, 1000000, true), (a8, q9, 1000000, true), (a15, q16, 1000000, true), (a22, q23, 1000000, true), (a29, q30, 1000000, true), (a36, q37, 1000000, true), (a43, q44, 1000000, true)] := h46
  exact g_vret hC ⟨a1, q2, a8, q9, a15, q16, a22, q23, a29, q30, a36, q37, a43, q44, hcn47⟩ (by first | exact Nat.le_of_ble_eq_true rfl | omega | (simp only [gR]; omega)) (by first | exact Nat.le_of_ble_eq_true rfl | omega | (simp only [gR]; omega)) dX10_init_95
theorem dX9_init_0 : decode cX9_init 0 = .ok (.aload_n 0, 1) := by decide +kernel
theorem dX9_init_1 : decode cX9_init 1 = .ok (.invokespecial 3, 3) := by decide +kernel
theorem dX9_init_4 : decode cX9_init 4 = .ok (.aload_n 0, 1) := by decide +kernel
theorem dX9_init_5 : decode cX9_init 5 = .ok (.new 9, 3) := by decide +kernel
theorem dX9_init_8 : decode cX9_init 8 = .ok (.dup, 1) := by decide +kernel
theorem dX9_init_9 : decode cX9_init 9 = .ok (.ldc 11, 2) := by decide +kernel
theorem dX9_init_11 : decode cX9_init 11 = .ok (.invokespecial 12, 3) := by decide +kernel
theorem dX9_init_14 : decode cX9_init 14 = .ok (.putfield 15, 3) := by decide +kernel
theorem dX9_init_17 : decode cX9_init 17 = .ok (.aload_n 0, 1) := by decide +kernel
theorem dX9_init_18 : decode cX9_init 18 = .ok (.new 9, 3) := by decide +kernel
theorem dX9_init_21 : decode cX9_init 21 = .ok (.dup, 1) := by decide +kernel
theorem dX9_init_22 : decode cX9_init 22 = .ok (.ldc 11, 2) := by decide +kernel
theorem dX9_init_24 : decode cX9_init 24 = .ok (.invokespecial 12, 3) := by decide +kernel
theorem dX9_init_27 : decode cX9_init 27 = .ok (.putfield 21, 3) := by decide +kernel
theorem dX9_init_30 : decode cX9_init 30 = .ok (.aload_n 0, 1) := by decide +kernel
theorem dX9_init_31 : decode cX9_init 31 = .ok (.new 9, 3) := by decide +kernel
theorem dX9_init_34 : decode cX9_init 34 = .ok (.dup, 1) := by decide +kernel
theorem dX9_init_35 : decode cX9_init 35 = .ok (.ldc 11, 2) := by decide +kernel
theorem dX9_init_37 : decode cX9_init 37 = .ok (.invokespecial 12, 3) := by decide +kernel
theorem dX9_init_40 : decode cX9_init 40 = .ok (.putfield 24, 3) := by decide +kernel
theorem dX9_init_43 : decode cX9_init 43 = .ok (.aload_n 0, 1) := by decide +kernel
theorem dX9_init_44 : decode cX9_init 44 = .ok (.new 9, 3) := by decide +kernel
theorem dX9_init_47 : decode cX9_init 47 = .ok (.dup, 1) := by decide +kernel
theorem dX9_init_48 : decode cX9_init 48 = .ok (.ldc 11, 2) := by decide +kernel
theorem dX9_init_50 : decode cX9_init 50 = .ok (.invokespecial 12, 3) := by decide +kernel
theorem dX9_init_53 : decode cX9_init 53 = .ok (.putfield 27, 3) := by decide +kernel
theorem dX9_init_56 : decode cX9_init 56 = .ok (.aload_n 0, 1) := by decide +kernel
theorem dX9_init_57 : decode cX9_init 57 = .ok (.new 9, 3) := by decide +kernel
theorem dX9_init_60 : decode cX9_init 60 = .ok (.dup, 1) := by decide +kernel
theorem dX9_init_61 : decode cX9_init 61 = .ok (.ldc 11, 2) := by decide +kernel
theorem dX9_init_63 : decode cX9_init 63 = .ok (.invokespecial 12, 3) := by decide +kernel
theorem dX9_init_66 : decode cX9_init 66 = .ok (.putfield 30, 3) := by decide +kernel
theorem dX9_init_69 : decode cX9_init 69 = .ok (.aload_n 0, 1) := by decide +kernel
theorem dX9_init_70 : decode cX9_init 70 = .ok (.new 9, 3) := by decide +kernel
theorem dX9_init_73 : decode cX9_init 73 = .ok (.dup, 1) := by decide +kernel
theorem dX9_init_74 : decode cX9_init 74 = .ok (.ldc 11, 2) := by decide +kernel
theorem dX9_init_76 : decode cX9_init 76 = .ok (.invokespecial 12, 3) := by decide +kernel
theorem dX9_init_79 : decode cX9_init 79 = .ok (.putfield 33, 3) := by decide +kernel
theorem dX9_init_82 : decode cX9_init 82 = .ok (.aload_n 0, 1) := by decide +kernel
theorem dX9_init_83 : decode cX9_init 83 = .ok (.iconst 0, 1) := by decide +kernel
theorem dX9_init_84 : decode cX9_init 84 = .ok (.putfield 36, 3) := by decide +kernel
theorem dX9_init_87 : decode cX9_init 87 = .ok (.aload_n 0, 1) := by decide +kernel
theorem dX9_init_88 : decode cX9_init 88 = .ok (.aload_n 1, 1) := by decide +kernel
theorem dX9_init_89 : decode cX9_init 89 = .ok (.putfield 40, 3) := by decide +kernel
theorem dX9_init_92 : decode cX9_init 92 = .ok (.return_, 1) := by decide +kernel
set_option maxHeartbeats 4000000 in
set_option maxRecDepth 100000 in
theorem k_Sco (l : Launch) (d : gD) (b : Nat) (F : gM) (t : Nat) (p0 : Nat) (h : F t = .inr (9, [.null, .null, .null, .null, .null, .null, .null, .int 0])) : gMv l d b yX9_init cX9_init 2 3 12 114 F [.ref t, .ref p0] (fun F' => ∃ a0 q0 a1 q1 a2 q2 a3 q3 a4 q4 a5 q5 : Nat, gCn d t 9 F F' [.ref p0, .ref a0, .ref a1, .ref a2, .ref a3, .ref a4, .ref a5, .int 0] [(a0, q0, 1000000, true), (a1, q1, 1000000, true), (a2, q2, 1000000, true), (a3, q3, 1000000, true), (a4, q4, 1000000, true), (a5, q5, 1000000, true)]) := by
  refine gM_of2 rfl (nL := 2) (Nat.le_of_ble_eq_true rfl) ?_
  intro X hX hC; subst hX
  show gG X d b _ F 0 0 0 [some (.ref t), some (.ref p0)] []
  have hcn : gCn d t 9 F F [.null, .null, .null, .null, .null, .null, .null, .int 0] [] := ⟨h, by rw [h]; exact g0_o, gEx.rf, gNw.nil⟩
  refine g_aload_n hC dX9_init_0 rfl ?_
  refine g_objInit hC dX9_init_1 kw_583 rfl ⟨Nat.le_of_ble_eq_true rfl, Nat.le_of_ble_eq_true rfl⟩ (Nat.le_of_ble_eq_true rfl) ?_
  refine g_newInts 1000000 hC hcn rfl rfl (by decide) (by decide) dX9_init_4 dX9_init_5 dX9_init_8 (fun _ _ _ _ kk => g_ldc hC dX9_init_9 kw_585 kk) dX9_init_11 dX9_init_14 nl_X9_9 cl_X9_12 fl_X9_15 (fun _ => ⟨rfl, rfl⟩) (Nat.le_of_ble_eq_true rfl) (fun _ => ⟨_, _, rfl⟩) (by first | exact Nat.le_of_ble_eq_true rfl | omega | (simp only [gR]; omega)) (by first | exact Nat.le_of_ble_eq_true rfl | omega | (simp only [gR]; omega)) (Nat.le_of_ble_eq_true rfl) (Nat.le_of_ble_eq_true rfl) (fun a1 q2 F3 h4 e6 hx7 => ?_)
  have hcn5 : gCn d t 9 F F3 [.null, .ref a1, .null, .null, .null, .null, .null, .int 0] [(a1, q2, 1000000, true)] := h4
  refine g_newInts 1000000 hC hcn5 rfl rfl (by decide) (by decide) dX9_init_17 dX9_init_18 dX9_init_21 (fun _ _ _ _ kk => g_ldc hC dX9_init_22 kw_585 kk) dX9_init_24 dX9_init_27 nl_X9_9 cl_X9_12 fl_X9_21 (fun _ => ⟨rfl, rfl⟩) (Nat.le_of_ble_eq_true rfl) (fun _ => ⟨_, _, rfl⟩) (by first | exact Nat.le_of_ble_eq_true rfl | omega | (simp only [gR]; omega)) (by first | exact Nat.le_of_ble_eq_true rfl | omega | (simp only [gR]; omega)) (Nat.le_of_ble_eq_true rfl) (Nat.le_of_ble_eq_true rfl) (fun a8 q9 F10 h11 e13 hx14 => ?_)
  have hcn12 : gCn d t 9 F F10 [.null, .ref a1, .ref a8, .null, .null, .null, .null, .int 0] [(a1, q2, 1000000, true), (a8, q9, 1000000, true)] := h11
  refine g_newInts 1000000 hC hcn12 rfl rfl (by decide) (by decide) dX9_init_30 dX9_init_31 dX9_init_34 (fun _ _ _ _ kk => g_ldc hC dX9_init_35 kw_585 kk) dX9_init_37 dX9_init_40 nl_X9_9 cl_X9_12 fl_X9_24 (fun _ => ⟨rfl, rfl⟩) (Nat.le_of_ble_eq_true rfl) (fun _ => ⟨_, _, rfl⟩) (by first | exact Nat.le_of_ble_eq_true rfl | omega | (simp only [gR]; omega)) (by first | exact Nat.le_of_ble_eq_true rfl | omega | (simp only [gR]; omega)) (Nat.le_of_ble_eq_true rfl) (Nat.le_of_ble_eq_true rfl) (fun a15 q16 F17 h18 e20 hx21 => ?_)
  have hcn19 : gCn d t 9 F F17 [.null, .ref a1, .ref a8, .ref a15, .null, .null, .null, .int 0] [(a1, q2, 1000000, true), (a8, q9, 1000000, true), (a15, q16, 1000000, true)] := h18
  refine g_newInts 1000000 hC hcn19 rfl rfl (by decide) (by decide) dX9_init_43 dX9_init_44 dX9_init_47 (fun _ _ _ _ kk => g_ldc hC dX9_init_48 kw_585 kk) dX9_init_50 dX9_init_53 nl_X9_9 cl_X9_12 fl_X9_27 (fun _ => ⟨rfl, rfl⟩) (Nat.le_of_ble_eq_true rfl) (fun _ => ⟨_, _, rfl⟩) (by first | exact Nat.le_of_ble_eq_true rfl | omega | (simp only [gR]; omega)) (by first | exact Nat.le_of_ble_eq_true rfl | omega | (simp only [gR]; omega)) (Nat.le_of_ble_eq_true rfl) (Nat.le_of_ble_eq_true rfl) (fun a22 q23 F24 h25 e27 hx28 => ?_)
  have hcn26 : gCn d t 9 F F24 [.null, .ref a1, .ref a8, .ref a15, .ref a22, .null, .null, .int 0] [(a1, q2, 1000000, true), (a8, q9, 1000000, true), (a15, q16, 1000000, true), (a22, q23, 1000000, true)] := h25
  refine g_newInts 1000000 hC hcn26 rfl rfl (by decide) (by decide) dX9_init_56 dX9_init_57 dX9_init_60 (fun _ _ _ _ kk => g_ldc hC dX9_init_61 kw_585 kk) dX9_init_63 dX9_init_66 nl_X9_9 cl_X9_12 fl_X9_30 (fun _ => ⟨rfl, rfl⟩) (Nat.le_of_ble_eq_true rfl) (fun _ => ⟨_, _, rfl⟩) (by first | exact Nat.le_of_ble_eq_true rfl | omega | (simp only [gR]; omega)) (by first | exact Nat.le_of_ble_eq_true rfl | omega | (simp only [gR]; omega)) (Nat.le_of_ble_eq_true rfl) (Nat.le_of_ble_eq_true rfl) (fun a29 q30 F31 h32 e34 hx35 => ?_)
  have hcn33 : gCn d t 9 F F31 [.null, .ref a1, .ref a8, .ref a15, .ref a22, .ref a29, .null, .int 0] [(a1, q2, 1000000, true), (a8, q9, 1000000, true), (a15, q16, 1000000, true), (a22, q23, 1000000, true), (a29, q30, 1000000, true)] := h32
  refine g_newInts 1000000 hC hcn33 rfl rfl (by decide) (by decide) dX9_init_69 dX9_init_70 dX9_init_73 (fun _ _ _ _ kk => g_ldc hC dX9_init_74 kw_585 kk) dX9_init_76 dX9_init_79 nl_X9_9 cl_X9_12 fl_X9_33 (fun _ => ⟨rfl, rfl⟩) (Nat.le_of_ble_eq_true rfl) (fun _ => ⟨_, _, rfl⟩) (by first | exact Nat.le_of_ble_eq_true rfl | omega | (simp only [gR]; omega)) (by first | exact Nat.le_of_ble_eq_true rfl | omega | (simp only [gR]; omega)) (Nat.le_of_ble_eq_true rfl) (Nat.le_of_ble_eq_true rfl) (fun a36 q37 F38 h39 e41 hx42 => ?_)
  have hcn40 : gCn d t 9 F F38 [.null, .ref a1, .ref a8, .ref a15, .ref a22, .ref a29, .ref a36, .int 0] [(a1, q2, 1000000, true), (a8, q9, 1000000, true), (a15, q16, 1000000, true), (a22, q23, 1000000, true), (a29, q30, 1000000, true), (a36, q37, 1000000, true)] := h39
  refine g_aload_n hC dX9_init_82 rfl ?_
  refine g_iconst (v := 0) hC dX9_init_83 rfl ?_
  refine g_putC hC hcn40 fl_X9_36 rfl rfl (Nat.le_of_ble_eq_true rfl) rfl dX9_init_84 (fun F43 hcn44 hx45 => ?_)
  have hx46 : ∀ x, x ≠ t → F38 x ≠ g0 → F43 x = F38 x := fun x q _ => hx45 x q
  refine g_aload_n hC dX9_init_87 rfl ?_
  refine g_aload_n hC dX9_init_88 rfl ?_
  refine g_putC hC hcn44 fl_X9_40 rfl rfl (Nat.le_of_ble_eq_true rfl) rfl dX9_init_89 (fun F47 hcn48 hx49 => ?_)
  have hx50 : ∀ x, x ≠ t → F43 x ≠ g0 → F47 x = F43 x := fun x q _ => hx49 x q
  exact g_vret hC ⟨a1, q2, a8, q9, a15, q16, a22, q23, a29, q30, a36, q37, hcn48⟩ (by first | exact Nat.le_of_ble_eq_true rfl | omega | (simp only [gR]; omega)) (by first | exact Nat.le_of_ble_eq_true rfl | omega | (simp only [gR]; omega)) dX9_init_92
theorem dX2_init_0 : decode cX2_init 0 = .ok (.aload_n 0, 1) := by decide +kernel
theorem dX2_init_1 : decode cX2_init 1 = .ok (.invokespecial 3, 3) := by decide +kernel
theorem dX2_init_4 : decode cX2_init 4 = .ok (.aload_n 0, 1) := by decide +kernel
theorem dX2_init_5 : decode cX2_init 5 = .ok (.new 9, 3) := by decide +kernel
theorem dX2_init_8 : decode cX2_init 8 = .ok (.dup, 1) := by decide +kernel
theorem dX2_init_9 : decode cX2_init 9 = .ok (.ldc 11, 2) := by decide +kernel
theorem dX2_init_11 : decode cX2_init 11 = .ok (.invokespecial 12, 3) := by decide +kernel
theorem dX2_init_14 : decode cX2_init 14 = .ok (.putfield 15, 3) := by decide +kernel
theorem dX2_init_17 : decode cX2_init 17 = .ok (.aload_n 0, 1) := by decide +kernel
theorem dX2_init_18 : decode cX2_init 18 = .ok (.iconst 0, 1) := by decide +kernel
theorem dX2_init_19 : decode cX2_init 19 = .ok (.putfield 21, 3) := by decide +kernel
theorem dX2_init_22 : decode cX2_init 22 = .ok (.aload_n 0, 1) := by decide +kernel
theorem dX2_init_23 : decode cX2_init 23 = .ok (.iconst 0, 1) := by decide +kernel
theorem dX2_init_24 : decode cX2_init 24 = .ok (.putfield 25, 3) := by decide +kernel
theorem dX2_init_27 : decode cX2_init 27 = .ok (.aload_n 0, 1) := by decide +kernel
theorem dX2_init_28 : decode cX2_init 28 = .ok (.iconst 0, 1) := by decide +kernel
theorem dX2_init_29 : decode cX2_init 29 = .ok (.putfield 29, 3) := by decide +kernel
theorem dX2_init_32 : decode cX2_init 32 = .ok (.aload_n 0, 1) := by decide +kernel
theorem dX2_init_33 : decode cX2_init 33 = .ok (.aload_n 1, 1) := by decide +kernel
theorem dX2_init_34 : decode cX2_init 34 = .ok (.putfield 32, 3) := by decide +kernel
theorem dX2_init_37 : decode cX2_init 37 = .ok (.aload_n 0, 1) := by decide +kernel
theorem dX2_init_38 : decode cX2_init 38 = .ok (.aload_n 2, 1) := by decide +kernel
theorem dX2_init_39 : decode cX2_init 39 = .ok (.putfield 36, 3) := by decide +kernel
theorem dX2_init_42 : decode cX2_init 42 = .ok (.aload_n 0, 1) := by decide +kernel
theorem dX2_init_43 : decode cX2_init 43 = .ok (.aload_n 3, 1) := by decide +kernel
theorem dX2_init_44 : decode cX2_init 44 = .ok (.putfield 40, 3) := by decide +kernel
theorem dX2_init_47 : decode cX2_init 47 = .ok (.return_, 1) := by decide +kernel
set_option maxHeartbeats 4000000 in
set_option maxRecDepth 100000 in
theorem k_Con (l : Launch) (d : gD) (b : Nat) (F : gM) (t : Nat) (p0 p1 p2 : Nat) (h : F t = .inr (2, [.null, .null, .null, .null, .int 0, .int 0, .int 0])) : gMv l d b yX2_init cX2_init 4 3 2 19 F [.ref t, .ref p0, .ref p1, .ref p2] (fun F' => ∃ a0 q0 : Nat, gCn d t 2 F F' [.ref p0, .ref p1, .ref p2, .ref a0, .int 0, .int 0, .int 0] [(a0, q0, 1000000, true)]) := by
  refine gM_of2 rfl (nL := 4) (Nat.le_of_ble_eq_true rfl) ?_
  intro X hX hC; subst hX
  show gG X d b _ F 0 0 0 [some (.ref t), some (.ref p0), some (.ref p1), some (.ref p2)] []
  have hcn : gCn d t 2 F F [.null, .null, .null, .null, .int 0, .int 0, .int 0] [] := ⟨h, by rw [h]; exact g0_o, gEx.rf, gNw.nil⟩
  refine g_aload_n hC dX2_init_0 rfl ?_
  refine g_objInit hC dX2_init_1 kw_617 rfl ⟨Nat.le_of_ble_eq_true rfl, Nat.le_of_ble_eq_true rfl⟩ (Nat.le_of_ble_eq_true rfl) ?_
  refine g_newInts 1000000 hC hcn rfl rfl (by decide) (by decide) dX2_init_4 dX2_init_5 dX2_init_8 (fun _ _ _ _ kk => g_ldc hC dX2_init_9 kw_619 kk) dX2_init_11 dX2_init_14 nl_X2_9 cl_X2_12 fl_X2_15 (fun _ => ⟨rfl, rfl⟩) (Nat.le_of_ble_eq_true rfl) (fun _ => ⟨_, _, rfl⟩) (by first | exact Nat.le_of_ble_eq_true rfl | omega | (simp only [gR]; omega)) (by first | exact Nat.le_of_ble_eq_true rfl | omega | (simp only [gR]; omega)) (Nat.le_of_ble_eq_true rfl) (Nat.le_of_ble_eq_true rfl) (fun a1 q2 F3 h4 e6 hx7 => ?_)
  have hcn5 : gCn d t 2 F F3 [.null, .null, .null, .ref a1, .int 0, .int 0, .int 0] [(a1, q2, 1000000, true)] := h4
  refine g_aload_n hC dX2_init_17 rfl ?_
  refine g_iconst (v := 0) hC dX2_init_18 rfl ?_
  refine g_putC hC hcn5 fl_X2_21 rfl rfl (Nat.le_of_ble_eq_true rfl) rfl dX2_init_19 (fun F8 hcn9 hx10 => ?_)
  have hx11 : ∀ x, x ≠ t → F3 x ≠ g0 → F8 x = F3 x := fun x q _ => hx10 x q
  refine g_aload_n hC dX2_init_22 rfl ?_
  refine g_iconst (v := 0) hC dX2_init_23 rfl ?_
  refine g_putC hC hcn9 fl_X2_25 rfl rfl (Nat.le_of_ble_eq_true rfl) rfl dX2_init_24 (fun F12 hcn13 hx14 => ?_)
  have hx15 : ∀ x, x ≠ t → F8 x ≠ g0 → F12 x = F8 x := fun x q _ => hx14 x q
  refine g_aload_n hC dX2_init_27 rfl ?_
  refine g_iconst (v := 0) hC dX2_init_28 rfl ?_
  refine g_putC hC hcn13 fl_X2_29 rfl rfl (Nat.le_of_ble_eq_true rfl) rfl dX2_init_29 (fun F16 hcn17 hx18 => ?_)
  have hx19 : ∀ x, x ≠ t → F12 x ≠ g0 → F16 x = F12 x := fun x q _ => hx18 x q
  refine g_aload_n hC dX2_init_32 rfl ?_
  refine g_aload_n hC dX2_init_33 rfl ?_
  refine g_putC hC hcn17 fl_X2_32 rfl rfl (Nat.le_of_ble_eq_true rfl) rfl dX2_init_34 (fun F20 hcn21 hx22 => ?_)
  have hx23 : ∀ x, x ≠ t → F16 x ≠ g0 → F20 x = F16 x := fun x q _ => hx22 x q
  refine g_aload_n hC dX2_init_37 rfl ?_
  refine g_aload_n hC dX2_init_38 rfl ?_
  refine g_putC hC hcn21 fl_X2_36 rfl rfl (Nat.le_of_ble_eq_true rfl) rfl dX2_init_39 (fun F24 hcn25 hx26 => ?_)
  have hx27 : ∀ x, x ≠ t → F20 x ≠ g0 → F24 x = F20 x := fun x q _ => hx26 x q
  refine g_aload_n hC dX2_init_42 rfl ?_
  refine g_aload_n hC dX2_init_43 rfl ?_
  refine g_putC hC hcn25 fl_X2_40 rfl rfl (Nat.le_of_ble_eq_true rfl) rfl dX2_init_44 (fun F28 hcn29 hx30 => ?_)
  have hx31 : ∀ x, x ≠ t → F24 x ≠ g0 → F28 x = F24 x := fun x q _ => hx30 x q
  exact g_vret hC ⟨a1, q2, hcn29⟩ (by first | exact Nat.le_of_ble_eq_true rfl | omega | (simp only [gR]; omega)) (by first | exact Nat.le_of_ble_eq_true rfl | omega | (simp only [gR]; omega)) dX2_init_47
theorem dX3_init_0 : decode cX3_init 0 = .ok (.aload_n 0, 1) := by decide +kernel
theorem dX3_init_1 : decode cX3_init 1 = .ok (.invokespecial 3, 3) := by decide +kernel
theorem dX3_init_4 : decode cX3_init 4 = .ok (.aload_n 0, 1) := by decide +kernel
theorem dX3_init_5 : decode cX3_init 5 = .ok (.new 9, 3) := by decide +kernel
theorem dX3_init_8 : decode cX3_init 8 = .ok (.dup, 1) := by decide +kernel
theorem dX3_init_9 : decode cX3_init 9 = .ok (.bipush 100, 2) := by decide +kernel
theorem dX3_init_11 : decode cX3_init 11 = .ok (.invokespecial 11, 3) := by decide +kernel
theorem dX3_init_14 : decode cX3_init 14 = .ok (.putfield 14, 3) := by decide +kernel
theorem dX3_init_17 : decode cX3_init 17 = .ok (.aload_n 0, 1) := by decide +kernel
theorem dX3_init_18 : decode cX3_init 18 = .ok (.new 9, 3) := by decide +kernel
theorem dX3_init_21 : decode cX3_init 21 = .ok (.dup, 1) := by decide +kernel
theorem dX3_init_22 : decode cX3_init 22 = .ok (.bipush 100, 2) := by decide +kernel
theorem dX3_init_24 : decode cX3_init 24 = .ok (.invokespecial 11, 3) := by decide +kernel
theorem dX3_init_27 : decode cX3_init 27 = .ok (.putfield 20, 3) := by decide +kernel
theorem dX3_init_30 : decode cX3_init 30 = .ok (.return_, 1) := by decide +kernel
set_option maxHeartbeats 4000000 in
set_option maxRecDepth 100000 in
theorem k_H (l : Launch) (d : gD) (b : Nat) (F : gM) (t : Nat)  (h : F t = .inr (3, [.null, .null])) : gMv l d b yX3_init cX3_init 1 3 4 38 F [.ref t] (fun F' => ∃ a0 q0 a1 q1 : Nat, gCn d t 3 F F' [.ref a0, .ref a1] [(a0, q0, 100, true), (a1, q1, 100, true)]) := by
  refine gM_of2 rfl (nL := 1) (Nat.le_of_ble_eq_true rfl) ?_
  intro X hX hC; subst hX
  show gG X d b _ F 0 0 0 [some (.ref t)] []
  have hcn : gCn d t 3 F F [.null, .null] [] := ⟨h, by rw [h]; exact g0_o, gEx.rf, gNw.nil⟩
  refine g_aload_n hC dX3_init_0 rfl ?_
  refine g_objInit hC dX3_init_1 kw_737 rfl ⟨Nat.le_of_ble_eq_true rfl, Nat.le_of_ble_eq_true rfl⟩ (Nat.le_of_ble_eq_true rfl) ?_
  refine g_newInts 100 hC hcn rfl rfl (by decide) (by decide) dX3_init_4 dX3_init_5 dX3_init_8 (fun _ _ _ _ kk => g_bipush (v := nI 100) hC dX3_init_9 (by decide) kk) dX3_init_11 dX3_init_14 nl_X3_9 cl_X3_11 fl_X3_14 (fun _ => ⟨rfl, rfl⟩) (Nat.le_of_ble_eq_true rfl) (fun _ => ⟨_, _, rfl⟩) (by first | exact Nat.le_of_ble_eq_true rfl | omega | (simp only [gR]; omega)) (by first | exact Nat.le_of_ble_eq_true rfl | omega | (simp only [gR]; omega)) (Nat.le_of_ble_eq_true rfl) (Nat.le_of_ble_eq_true rfl) (fun a1 q2 F3 h4 e6 hx7 => ?_)
  have hcn5 : gCn d t 3 F F3 [.ref a1, .null] [(a1, q2, 100, true)] := h4
  refine g_newInts 100 hC hcn5 rfl rfl (by decide) (by decide) dX3_init_17 dX3_init_18 dX3_init_21 (fun _ _ _ _ kk => g_bipush (v := nI 100) hC dX3_init_22 (by decide) kk) dX3_init_24 dX3_init_27 nl_X3_9 cl_X3_11 fl_X3_20 (fun _ => ⟨rfl, rfl⟩) (Nat.le_of_ble_eq_true rfl) (fun _ => ⟨_, _, rfl⟩) (by first | exact Nat.le_of_ble_eq_true rfl | omega | (simp only [gR]; omega)) (by first | exact Nat.le_of_ble_eq_true rfl | omega | (simp only [gR]; omega)) (Nat.le_of_ble_eq_true rfl) (Nat.le_of_ble_eq_true rfl) (fun a8 q9 F10 h11 e13 hx14 => ?_)
  have hcn12 : gCn d t 3 F F10 [.ref a1, .ref a8] [(a1, q2, 100, true), (a8, q9, 100, true)] := h11
  exact g_vret hC ⟨a1, q2, a8, q9, hcn12⟩ (by first | exact Nat.le_of_ble_eq_true rfl | omega | (simp only [gR]; omega)) (by first | exact Nat.le_of_ble_eq_true rfl | omega | (simp only [gR]; omega)) dX3_init_30
