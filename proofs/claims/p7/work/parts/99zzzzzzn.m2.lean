theorem kw_264 : Cond.classLink RL 8 RX11 ∈ gWs := List.mem_filter.mpr ⟨gMt1 _ (List.mem_of_getElem? (i := 27) rfl), rfl⟩
theorem nl_L_8 : gNL RL 8 11 10 [.null, .null, .null, .null, .null, .null, .null, .null, .int 0, .int 0] := ⟨RX11, TX11, tyX11, rfl, inW_RX11, tyX11_ok, kw_264, kw_265, kw_238, by decide +kernel⟩
theorem kw_1946 : Cond.classLink RL 20 RX12 ∈ gWs := List.mem_filter.mpr ⟨gMt8 _ (List.mem_of_getElem? (i := 29) rfl), rfl⟩
theorem nl_L_20 : gNL RL 20 12 119 [.int 0, .null, .int 0, .null, .int 0, .int 0, .null, .null, .int 0, .null, .null, .null, .int 0, .int 0, .null, .int 0, .null, .null, .int 0, .int 0, .int 0, .int 0, .int 0, .int 0, .int 0, .null, .null, .null, .null, .null, .null, .null, .null, .null, .null, .null, .null, .int 0, .int 0, .null, .null, .null, .null, .int 0, .int 0, .int 0, .null, .null, .int 0, .int 0, .null, .null, .null, .null, .null, .int 0, .null, .null, .int 0, .int 0, .null, .null, .null, .int 0, .null, .null, .null, .int 0, .null, .int 0, .null, .null, .null, .int 0, .int 0, .int 0, .int 0, .int 0, .int 0, .int 0, .int 0, .int 0, .int 0, .int 0, .int 0, .null, .null, .int 0, .null, .null, .null, .int 0, .null, .null, .null, .int 0, .int 0, .int 0, .null, .int 0, .int 0, .int 0, .int 0, .int 0, .int 0, .int 0, .int 0, .null, .null, .null, .null, .null, .null, .null, .int 0, .null, .null, .int 0, .null] := ⟨RX12, TX12, tyX12, rfl, inW_RX12, tyX12_ok, kw_1946, kw_1947, kw_257, by decide +kernel⟩
theorem kw_268 : Cond.code yX11_init cX11_init 1 none ∈ gWs := List.mem_filter.mpr ⟨gMt1 _ (List.mem_of_getElem? (i := 31) rfl), rfl⟩
theorem kw_266 : Cond.methodLink RL 19 yX11_init ∈ gWs := List.mem_filter.mpr ⟨gMt1 _ (List.mem_of_getElem? (i := 29) rfl), rfl⟩
theorem kw_267 : Cond.instanceMethod yX11_init ∈ gWs := List.mem_filter.mpr ⟨gMt1 _ (List.mem_of_getElem? (i := 30) rfl), rfl⟩
theorem cl_L_19 : gCI RL 19 yX11_init cX11_init 1 0 := ⟨gWs_all kw_268, kw_238, kw_266, kw_267, rfl, ⟨by decide +kernel, by decide +kernel, by decide +kernel⟩⟩
theorem kw_2944 : Cond.arrayClass .long ∈ gWs := List.mem_filter.mpr ⟨gMt12 _ (List.mem_of_getElem? (i := 67) rfl), rfl⟩
theorem kw_1950 : Cond.code yX12_init cX12_init 1 none ∈ gWs := List.mem_filter.mpr ⟨gMt8 _ (List.mem_of_getElem? (i := 33) rfl), rfl⟩
theorem kw_1948 : Cond.methodLink RL 22 yX12_init ∈ gWs := List.mem_filter.mpr ⟨gMt8 _ (List.mem_of_getElem? (i := 31) rfl), rfl⟩
theorem kw_1949 : Cond.instanceMethod yX12_init ∈ gWs := List.mem_filter.mpr ⟨gMt8 _ (List.mem_of_getElem? (i := 32) rfl), rfl⟩
theorem cl_L_22 : gCI RL 22 yX12_init cX12_init 1 0 := ⟨gWs_all kw_1950, kw_257, kw_1948, kw_1949, rfl, ⟨by decide +kernel, by decide +kernel, by decide +kernel⟩⟩
def lI (d : gD) (b : Nat) (Y : gYt) (c : Nat × Nat) (r : Nat) (T : Nat → Nat) (z i : Nat) (u : hU) : Prop := ∃ n, n ≤ 20 * i ∧ lJ d b Y c r T z i n n u
set_option maxHeartbeats 40000000 in
set_option maxRecDepth 100000 in
theorem law_turn {nm : String} {d : gD} {b : Nat} {X : gX} {Q : State → Prop} {b0 L : Nat} {xs : Nat → Int32} (hC : gC RL cL_law 7 (some .boolean) nm room_1 d b X) (hr : hRm X b) (hX : va_X b0 L xs X.st X.st.heap) (hb : b0 < X.st.heap.size) (hb2 : b0 < b) (hl : X.la.stackTraces = false) (hL : L ≤ 384) {Y : gYt} {c : Nat × Nat} {r z : Nat} {T : Nat → Nat} (R : lRm b c) (P : lPr Y r T z) (i : Nat) (u : hU) (pc : Nat) (hpc : pc ∈ [104, 177, 202, 215, 228, 253, 278, 303, 316, 341, 381, 409, 422]) (h0 : lI d b Y c r T z i u) (ho : hOk X b u.2.1 u.2.2) (hi : 6 * i + 6 ≤ L) (END : ∀ u1 : hU, lI d b Y c r T z (i + 1) u1 → hOk X b u1.2.1 u1.2.2 → hG X d b Q u1.1 u1.2.1 u1.2.2 422 [some (.ref b0), some (.ref (gO' Y 0)), some (.ref r), some (.ref z), some (.int (nI (6 * i))), none, none] []) : hG X d b Q u.1 u.2.1 u.2.2 pc [some (.ref b0), some (.ref (gO' Y 0)), some (.ref r), some (.ref z), some (.int (nI (6 * i))), none, none] [] := by
  obtain ⟨n, hn, h⟩ := h0
  obtain ⟨v0, fs, fo⟩ := h.o
  simp only [List.mem_cons, List.not_mem_nil, or_false] at hpc
  rcases hpc with rfl | rfl | rfl | rfl | rfl | rfl | rfl | rfl | rfl | rfl | rfl | rfl | rfl
  · exact la_0 hC hr hX hb hb2 ho hi hL fo (lc := 4) (lr := 0) (by decide) (by decide) (M := fun _ _ _ _ _ x u' => x = 1 ∧ lJ d b Y c r T z (i) (n + 20) n u') (N := lI d b Y c r T z (i + 1)) (fun a0 a1 a2 a3 a4 => lC_feed X.la P h (by omega) a0 a1 a2 a3 a4) (fun _ _ _ _ _ _ _ q => q.2.fr) (fun a0 a1 a2 a3 a4 x _ q => by
          obtain ⟨Pd, D0, D1⟩ := lD_feed X.la P q.2 (by omega) a0 a1 a2 a3 a4
          refine ⟨Pd, D0, fun y F' hp => ?_⟩
          obtain ⟨q1, q2⟩ := D1 y F' hp
          exact ⟨_, (by omega), (q2).mono R (by omega) (by omega)⟩) END
  · exact la_1 hC hr hX hb hb2 ho hi hL fo (lc := 1) (lr := 0) (by decide) (by decide) (M := fun a0 x u' => x = lAns a0 n ∧ lJ d b Y c r T z (i) (lLen a0 n) n u') (N := lI d b Y c r T z (i + 1)) (fun a0 => lC_end X.la P h a0) (fun _ _ _ q => q.2.fr) (fun a0 x _ q => by
          obtain ⟨Pd, D0, D1⟩ := lD_end X.la P q.2 a0
          refine ⟨Pd, D0, fun y F' hp => ?_⟩
          obtain ⟨q1, q2⟩ := D1 y F' hp
          exact ⟨_, (Nat.le_trans lLen_le (by omega)), (q2).mono R (by omega) (by omega)⟩) END
  · exact la_2 hC hr hX hb hb2 ho hi hL fo (lc := 1272) (lr := 7) (by decide) (by decide) (M := fun _ u' => lJ d b Y c r T z (i + 1) (0) n u') (N := lI d b Y c r T z (i + 1)) (lC_compile X.la P h R (by omega) (by omega) hl) (fun _ _ q => q.fr) (fun _ _ q => by
          obtain ⟨Pd, D0, D1⟩ := lD_compile X.la P q (by omega)
          exact ⟨Pd, D0, fun y F' hp => ⟨_, (by omega), (D1 y F' hp).mono R (by omega) (by omega)⟩⟩) END
  · exact la_3 hC hr hX hb hb2 ho hi hL fo (lc := 2) (lr := 0) (by decide) (by decide) (M := fun _ u' => lJ d b Y c r T z (i) (n) n u') (N := lI d b Y c r T z (i + 1)) (lC_fault X.la P h) (fun _ _ q => q.fr) (fun _ _ q => by
          obtain ⟨Pd, D0, D1⟩ := lD_fault_ X.la P q
          exact ⟨Pd, D0, fun y F' hp => ⟨_, (by omega), (D1 y F' hp).mono R (by omega) (by omega)⟩⟩) END
  · exact la_4 hC hr hX hb hb2 ho hi hL fo (lc := 1) (lr := 0) (by decide) (by decide) (M := fun a0 x u' => ((gFive a0 → x = 1) ∧ (¬ gFive a0 → x = 0)) ∧ lJ d b Y c r T z (i) (n) n u') (N := lI d b Y c r T z (i + 1)) (fun a0 => lC_store X.la P h a0) (fun _ _ _ q => q.2.fr) (fun a0 x _ q => by
          obtain ⟨Pd, D0, D1⟩ := lD_store X.la P q.2 a0
          refine ⟨Pd, D0, fun y F' hp => ?_⟩
          obtain ⟨q1, q2⟩ := D1 y F' hp
          exact ⟨_, (by omega), (q2).mono R (by omega) (by omega)⟩) END
  · exact la_5 hC hr hX hb hb2 ho hi hL fo (lc := 5) (lr := 2) (by decide) (by decide) (M := fun a0 x u' => x = lInp a0 n ∧ lJ d b Y c r T z (i) (0) n u') (N := lI d b Y c r T z (i + 1)) (fun a0 => lC_input X.la P h a0) (fun _ _ _ q => q.2.fr) (fun a0 x _ q => by
          obtain ⟨Pd, D0, D1⟩ := lD_input X.la P q.2 (by omega) a0
          refine ⟨Pd, D0, fun y F' hp => ?_⟩
          obtain ⟨q1, q2⟩ := D1 y F' hp
          exact ⟨q1.trans q.1.symm, ⟨_, (by omega), (q2).mono R (by omega) (by omega)⟩⟩) END
  · exact la_6 hC hr hX hb hb2 ho hi hL fo (lc := 12) (lr := 7) (by decide) (by decide) (M := fun _ _ u' => lJ d b Y c r T z (i) (n) n u') (N := lI d b Y c r T z (i + 1)) (fun a0 => lC_run X.la P h a0) (fun _ _ _ q => q.fr) (fun a0 _ _ q => by
          obtain ⟨Pd, D0, D1⟩ := lD_run X.la P q a0
          exact ⟨Pd, D0, fun y F' hp => ⟨_, (by omega), (D1 y F' hp).mono R (by omega) (by omega)⟩⟩) END
  · exact la_7 hC hr hX hb hb2 ho hi hL fo (lc := 2) (lr := 0) (by decide) (by decide) (M := fun _ u' => lJ d b Y c r T z (i) (n) n u') (N := lI d b Y c r T z (i + 1)) (lC_value X.la P h) (fun _ _ q => q.fr) (fun _ _ q => by
          obtain ⟨Pd, D0, D1⟩ := lD_value X.la P q
          exact ⟨Pd, D0, fun y F' hp => ⟨_, (by omega), (D1 y F' hp).mono R (by omega) (by omega)⟩⟩) END
  · exact la_8 hC hr hX hb hb2 ho hi hL fo (lc := 2) (lr := 0) (by decide) (by decide) (M := fun _ _ u' => lJ d b Y c r T z (i) (n) n u') (N := lI d b Y c r T z (i + 1)) (fun a0 => lC_out X.la P h a0) (fun _ _ _ q => q.fr) (fun a0 _ _ q => by
          obtain ⟨Pd, D0, D1⟩ := lD_out X.la P q a0
          exact ⟨Pd, D0, fun y F' hp => ⟨_, (by omega), (D1 y F' hp).mono R (by omega) (by omega)⟩⟩) END
  · exact la_9 hC hr hX hb hb2 ho hi hL fo (lc := 6) (lr := 0) (by decide) (by decide) (M := lJ d b Y c r T z (i + 1) (n) n) (N := lI d b Y c r T z (i + 1)) (fun a0 a1 => lC_outAt X.la P h R (by omega) hl a0 a1) (fun _ q => q.fz) (fun _ f q => q.zu P f) (fun _ q => q.fr) (fun _ q a0 a1 => by
          obtain ⟨Pd, D0, D1⟩ := lD_outAt X.la P q a0 a1
          exact ⟨Pd, D0, fun y F' hp => ⟨_, (by omega), (D1 y F' hp).mono R (by omega) (by omega)⟩⟩) END
  · exact la_10 hC hr hX hb hb2 ho hi hL fo (lc := 6) (lr := 0) (by decide) (by decide) (M := lJ d b Y c r T z (i + 1) (n) n) (N := lI d b Y c r T z (i + 1)) (fun a0 => lC_word X.la P h R (by omega) hl a0) (fun _ q => q.fz) (fun _ f q => q.zu P f) (fun _ q => q.fr) (fun _ q a0 => by
          obtain ⟨Pd, D0, D1⟩ := lD_word X.la P q a0
          exact ⟨Pd, D0, fun y F' hp => ⟨_, (by omega), (D1 y F' hp).mono R (by omega) (by omega)⟩⟩) END
  · exact la_11 hC hr hX hb hb2 ho hi hL fo (lc := 2) (lr := 0) (by decide) (by decide) (M := fun _ u' => lJ d b Y c r T z (i) (n) n u') (N := lI d b Y c r T z (i + 1)) (lC_fuel X.la P h) (fun _ _ q => q.fr) (fun _ _ q => by
          obtain ⟨Pd, D0, D1⟩ := lD_fuel X.la P q
          exact ⟨Pd, D0, fun y F' hp => ⟨_, (by omega), (D1 y F' hp).mono R (by omega) (by omega)⟩⟩) END
  · exact END u ⟨n, by omega, h.mono R (by omega) (by omega)⟩ ho
set_option maxHeartbeats 40000000 in
set_option maxRecDepth 100000 in
theorem law_m1 {nm : String} {d : gD} {b : Nat} {X : gX} {Q : State → Prop} {b0 L : Nat} {xs : Nat → Int32} (hC : gC RL cL_law 7 (some .boolean) nm room_1 d b X) (hr : hRm X b) (hX : va_X b0 L xs X.st X.st.heap) (hb : b0 < X.st.heap.size) (hb2 : b0 < b) (hl : X.la.stackTraces = false) (hob : hOk X b b 0) (kk : ∀ (Y : gYt) (S : gSt) (u : hU) (o : Nat), gO' Y 0 = o → gWT d Y u.1 S → hOk X b u.2.1 u.2.2 → lSt S → u.2.1 ≤ b + 1629 ∧ u.2.2 ≤ 6542 + 2 * (sN S 18 + sN S 19 + sN S 20) → hG X d b Q u.1 u.2.1 u.2.2 7 [some (.ref b0), none, none, none, none, none, none] [.ref o]) : hG X d b Q (fun _ => g0) b 0 0 [some (.ref b0), none, none, none, none, none, none] [] := by
  refine h_new hC hr hob nl_L_8 (by show b + 1 ≤ b + 598000; omega) (by show 0 + 10 ≤ 7295000; omega) dL_law_0 (fun o e_o ho1 => ?_)
  refine h_vF (fun F4 hF4 => ?_)
  have ft : F4 o = .inr (11, [.null, .null, .null, .null, .null, .null, .null, .null, .int 0, .int 0]) := by rw [hF4]; exact va_up_self _ _ _
  refine h_dup hC dL_law_3 rfl ?_
  refine h_callIv (As := []) hC hr ho1 (s_W X.la d b F4 (b + 1) (0 + 10) o ft (by show b + 1 + 8000 ≤ b + 598000; omega) (by show 0 + 10 + 40000 ≤ 7295000; omega)) cl_L_19 rfl rfl (Nat.le_of_ble_eq_true rfl) (hFr_law (by omega) (by decide)) dL_law_4 (fun u p ho2 => ?_)
  obtain ⟨Y, S, hY, hW, hs, hk1, hn1⟩ := p
  exact kk Y S u o hY hW ho2 hs ⟨by omega, by omega⟩
/-- the reference made behind the class, and a row of longs: the class's state stays, and theirs is named -/
theorem gLaw1 {d : gD} {Y : gYt} {F2 F3 F4 F5 : gM} {S : gSt} {r z : Nat} {e1 e2 : va_E} {T : Nat → Nat} (hW : gWT d Y F2 S) (hr : F2 r = g0) (h3 : F3 = va_up F2 r e1) (he1 : e1 ≠ g0) (hex : gEx r F3 F4) (hT : ∀ j, zb j = true → F3 (T j) = g0 ∧ F4 (T j) ≠ g0) (hz : F4 z = g0) (h5 : F5 = va_up F4 z e2) (he2 : e2 ≠ g0) :
    gWT d (Y.1, Y.2.1, Y.2.2.1, fun x => x = r ∨ (∃ j, zb j = true ∧ x = T j) ∨ x = z) F5 S ∧ (∀ x, F4 x ≠ g0 → F5 x = F4 x) := by
  have k3 : ∀ x, F2 x ≠ g0 → F3 x = F2 x := fun x hx => by rw [h3, va_up_ne _ _ (fun q => hx (by rw [q]; exact hr))]
  have k5 : ∀ x, F4 x ≠ g0 → F5 x = F4 x := fun x hx => by rw [h5, va_up_ne _ _ (fun q => hx (by rw [q]; exact hz))]
  have r3 : F3 r ≠ g0 := by rw [h3, va_up_self]; exact he1
  have r4 := (hex r r3).1
  have fresh : ∀ x, (x = r ∨ (∃ j, zb j = true ∧ x = T j) ∨ x = z) → F2 x = g0 := fun x hx => by
    rcases hx with rfl | ⟨j, hj, rfl⟩ | rfl
    · exact hr
    · exact Classical.byContradiction fun q => q (by rw [← k3 _ q]; exact (hT j hj).1)
    · exact Classical.byContradiction fun q => (hex x (by rw [k3 x q]; exact q)).1 hz
  have told : ∀ x, gCl Y S x → F2 x ≠ g0 := fun x hx => hW.told hx
  refine ⟨hW.kept (fun x hx => ?_) _ (fun x hx => ⟨?_, fun i hi e => ?_, fun j hj e => ?_, fun j hj e => ?_⟩), k5⟩
  · have t := told x hx
    have e3 := k3 x t
    have t3 : F3 x ≠ g0 := by rw [e3]; exact t
    have e4 := (hex x t3).2 (fun q => t (by rw [q]; exact hr))
    exact (k5 x (hex x t3).1).trans (e4.trans e3)
  · rcases hx with rfl | ⟨j, hj, rfl⟩ | rfl
    · rw [k5 _ r4]; exact r4
    · rw [k5 _ (hT j hj).2]; exact (hT j hj).2
    · rw [h5, va_up_self]; exact he2
  · exact told x (Or.inl ⟨i, hi, e⟩) (fresh x hx)
  · exact told x (Or.inr (Or.inl ⟨j, hj, e⟩)) (fresh x hx)
  · exact told x (Or.inr (Or.inr (Or.inl ⟨j, hj, e⟩))) (fresh x hx)
/-- the class's numbers at the start -/
def lA0 (S : gSt) : cS := (fun j => sZ S j, fun j i => (sF S j i).toInt, fun k => (sV S k).toInt)
theorem gps_0 : gps 16 0 = 0 := rfl
theorem lSt.yr {S : gSt} (h : lSt S) : yR S (lA0 S) := by
  obtain ⟨h1, h45, hv, ⟨z0, z1, z2⟩, ⟨n0, n1, n2⟩, v7⟩ := h
  refine ⟨fun j => rfl, fun j i _ => (zI_o _).symm, fun k => (zI_o _).symm, fun j i => zR_t _, fun k => zR_t _, fun j h2 h3 => ?_⟩
  by_cases e : (j == 18 || j == 19 || j == 20) = false
  · obtain ⟨a1, a2⟩ := h1 j (by omega) e
    rw [a1, a2, gps_0]
    exact Nat.zero_le _
  · have e2 : j = 18 ∨ j = 19 ∨ j = 20 := by
      simp only [Bool.or_eq_false_iff, beq_eq_false_iff_ne, not_and, Classical.not_not, ne_eq] at e
      omega
    rcases e2 with rfl | rfl | rfl
    · show gps _ _ ≤ 1800
      unfold gps
      omega
    · show gps _ _ ≤ 1400
      unfold gps
      omega
    · show gps _ _ ≤ 1400
      unfold gps
      omega
theorem yrg_0 {A : cS} {j : Nat} {lo hi : Int} (h : yz A j = 0) (h1 : lo ≤ 0) (h2 : 0 ≤ hi) : yrg A j lo hi := by
  refine ⟨h1, h2, fun i => ?_⟩
  have e : yget A j i = 0 := by
    unfold yget
    rw [h]
    exact if_neg (by omega)
  rw [e]
  exact ⟨h1, h2⟩
theorem nI_t {n : Nat} (h : n < 2147483648) : (nI n).toInt = (n : Int) := by
  rw [nI_zz]
  exact zI_t ⟨by omega, by omega⟩
theorem lSt.ci {S : gSt} (h : lSt S) : cI (lA0 S) := by
  obtain ⟨h1, h45, hv, ⟨z0, z1, z2⟩, ⟨n0, n1, n2⟩, v7⟩ := h
  have e7 : yv (lA0 S) 7 = ((sZ S 18 : Nat) : Int) := by
    show (sV S 7).toInt = _
    rw [v7]
    exact nI_t (by omega)
  have e14 : yz (lA0 S) 14 = 0 := (h1 14 (by decide) rfl).1
  have e15 : yz (lA0 S) 15 = 0 := (h1 15 (by decide) rfl).1
  have e16 : yz (lA0 S) 16 = 0 := (h1 16 (by decide) rfl).1
  have e17 : yz (lA0 S) 17 = 0 := (h1 17 (by decide) rfl).1
  have e18 : yz (lA0 S) 18 = sZ S 18 := rfl
  have s17 : yv (lA0 S) 17 = 0 := by
    show (sV S 17).toInt = 0
    rw [hv 17 (by decide)]
    rfl
  have s24 : yv (lA0 S) 24 = 0 := by
    show (sV S 24).toInt = 0
    rw [hv 24 (by decide)]
    rfl
  exact ⟨⟨by omega, by omega⟩, by omega, ⟨by omega, by omega⟩, ⟨yrg_0 e14 (by decide) (by decide), yrg_0 e16 (by decide) (by decide), yrg_0 e17 (by decide) (by decide)⟩, ⟨by omega, by omega⟩, Or.inl s24⟩
theorem lSt.w {S : gSt} (h : lSt S) : lW S := by
  obtain ⟨h1, h45, hv, -, -, -⟩ := h
  refine ⟨by rw [(h1 43 (by decide) rfl).1]; decide, Or.inl h45, ⟨4096, Or.inl rfl, ?_⟩, ⟨4096, Or.inl rfl, ?_⟩⟩
  · rw [hv 0 (by decide)]
    rfl
  · rw [hv 2 (by decide)]
    rfl
theorem gmo_16 : ∀ j, j < 44 → 16 < gmo j := by decide
theorem lSt.rs {S : gSt} (h : lSt S) : 2 * (sN S 18 + sN S 19 + sN S 20) + 9504 ≤ hRs S := by
  obtain ⟨h1, h45, hv, ⟨z0, z1, z2⟩, ⟨n0, n1, n2⟩, v7⟩ := h
  have q : gSum (fun j => if j = 18 then 2 * sN S 18 else if j = 19 then 2 * sN S 19 else if j = 20 then 2 * sN S 20 else 32) 44 ≤ gSum (fun j => gpt (gmo j) (sN S j)) 44 := gSum_le (fun j hj => by
    show (if j = 18 then _ else _) ≤ gpt (gmo j) (sN S j)
    by_cases e : (j == 18 || j == 19 || j == 20) = false
    · obtain ⟨-, a2⟩ := h1 j hj e
      have e2 : j ≠ 18 ∧ j ≠ 19 ∧ j ≠ 20 := by
        simp only [Bool.or_eq_false_iff, beq_eq_false_iff_ne, ne_eq] at e
        exact ⟨e.1.1, e.1.2, e.2⟩
      rw [if_neg e2.1, if_neg e2.2.1, if_neg e2.2.2, a2]
      unfold gpt
      rw [if_pos (gmo_16 j hj)]
      decide
    · have e2 : j = 18 ∨ j = 19 ∨ j = 20 := by
        simp only [Bool.or_eq_false_iff, beq_eq_false_iff_ne, not_and, Classical.not_not, ne_eq] at e
        omega
      rcases e2 with rfl | rfl | rfl
      · rw [if_pos rfl]
        show _ ≤ gpt 1000000 (sN S 18)
        unfold gpt
        rw [if_pos (by omega)]
        exact Nat.le_refl _
      · rw [if_neg (by decide), if_pos rfl]
        show _ ≤ gpt 1000000 (sN S 19)
        unfold gpt
        rw [if_pos (by omega)]
        exact Nat.le_refl _
      · rw [if_neg (by decide), if_neg (by decide), if_pos rfl]
        show _ ≤ gpt 1000000 (sN S 20)
        unfold gpt
        rw [if_pos (by omega)]
        exact Nat.le_refl _)
  have e : gSum (fun j => if j = 18 then 2 * sN S 18 else if j = 19 then 2 * sN S 19 else if j = 20 then 2 * sN S 20 else 32) 44 = 1312 + 2 * (sN S 18 + sN S 19 + sN S 20) := by
    simp [gSum]
    omega
  unfold hRs
  omega
set_option maxHeartbeats 40000000 in
set_option maxRecDepth 100000 in
theorem law_m2 {nm : String} {d : gD} {b : Nat} {X : gX} {Q : State → Prop} {b0 L : Nat} {xs : Nat → Int32} (hC : gC RL cL_law 7 (some .boolean) nm room_1 d b X) (hr : hRm X b) (hX : va_X b0 L xs X.st X.st.heap) (hb : b0 < X.st.heap.size) (hb2 : b0 < b) (hl : X.la.stackTraces = false) (kk : ∀ (Y : gYt) (c : Nat × Nat) (u : hU) (r z : Nat) (T : Nat → Nat), lRm b c → lPr Y r T z → lJ d b Y c r T z 0 0 0 u → hOk X b u.2.1 u.2.2 → hG X d b Q u.1 u.2.1 u.2.2 20 [some (.ref b0), some (.ref (gO' Y 0)), some (.ref r), some (.ref z), none, none, none] []) {Y : gYt} {S : gSt} {u : hU} {o : Nat} (hY : gO' Y 0 = o) (hW : gWT d Y u.1 S) (ho : hOk X b u.2.1 u.2.2) (hs : lSt S) (hu : u.2.1 ≤ b + 1629 ∧ u.2.2 ≤ 6542 + 2 * (sN S 18 + sN S 19 + sN S 20)) : hG X d b Q u.1 u.2.1 u.2.2 7 [some (.ref b0), none, none, none, none, none, none] [.ref o] := by
  obtain ⟨hu1, hu2⟩ := hu
  have s18 := hs.2.2.2.1
  have s19 := hs.2.2.2.2.1
  refine h_astore_n (lv' := [some (.ref b0), some (.ref o), none, none, none, none, none]) hC dL_law_7 (Nat.le_of_ble_eq_true rfl) rfl rfl ?_
  refine h_new hC hr ho nl_L_20 (by show u.2.1 + 1 ≤ b + 598000; omega) (by show u.2.2 + 119 ≤ 7295000; omega) dL_law_8 (fun r e_r ho3 => ?_)
  refine h_vF (fun F5 hF5 => ?_)
  have fr : gRo F5 r gdv := by show F5 r = _; rw [hF5]; exact va_up_self _ _ _
  refine h_dup hC dL_law_11 rfl ?_
  have q1 : u.2.1 + 1 + 64 ≤ gKm b := by show u.2.1 + 1 + 64 ≤ b + 598000; omega
  have q2 : u.2.2 + 119 + 3019308 ≤ gNm := by show u.2.2 + 119 + 3019308 ≤ 7295000; omega
  refine g_callIv (As := []) hC (k_R2 X.la d b F5 r fr) cl_L_22 rfl rfl (Nat.le_of_ble_eq_true rfl) (h_fit hC hr ho3 (hFr_law (by omega) (by decide)) q1 q2) dL_law_12 (fun G4 p => ?_)
  refine h_to hC ho3 q1 q2 (fun ho4 => ?_)
  obtain ⟨T, zw, hex, hfr⟩ := p
  refine h_astore_n (lv' := [some (.ref b0), some (.ref o), some (.ref r), none, none, none, none]) hC dL_law_15 (Nat.le_of_ble_eq_true rfl) rfl rfl ?_
  refine h_iconst (v := 1) hC dL_law_16 rfl ?_
  refine h_newa (atype := .long) (N := 1) (a0 := (1, .inr (.inl (fun _ => 0)))) hC hr ho4 3 kw_2944 rfl (by decide) (fun _ => rfl) (by decide) rfl (Nat.le_of_ble_eq_true rfl) (by show u.2.1 + 1 + 64 + 1 ≤ b + 598000; omega) (by show u.2.2 + 119 + 3019308 + 1 ≤ 7295000; omega) dL_law_17 (fun z e_z ho5 => ?_)
  refine h_vF (fun G5 h5 => ?_)
  refine h_astore_n (lv' := [some (.ref b0), some (.ref o), some (.ref r), some (.ref z), none, none, none]) hC dL_law_19 (Nat.le_of_ble_eq_true rfl) rfl rfl ?_
  have hT4 : ∀ j, zb j = true → G4 (T j) ≠ g0 := fun j hj => by rw [zw.2.1 j hj]; exact g0_a
  have hr4 : G4 r ≠ g0 := by rw [zw.1]; exact g0_o
  obtain ⟨hW5, k5⟩ := gLaw1 (T := T) hW e_r hF5 g0_o hex (fun j hj => ⟨hfr j hj, hT4 j hj⟩) e_z h5 g0_a
  have z5 : G5 z = .inl (gJ d, 1, .inr (.inl (fun _ => 0))) := by rw [h5]; exact va_up_self _ _ _
  have rs := hs.rs
  subst hY
  refine kk (Y.1, Y.2.1, Y.2.2.1, fun x => x = r ∨ (∃ j, zb j = true ∧ x = T j) ∨ x = z) (b + 1695, 3017000) (G5, _, _) r z T ⟨?_, ?_⟩ ⟨Or.inl rfl, fun j hj => Or.inr (Or.inl ⟨j, hj, rfl⟩), Or.inr (Or.inr rfl)⟩ ⟨S, lA0 S, pS0, ⟨⟨hW5, ?_, ?_, ?_, ?_, ?_⟩, hs.yr, hs.ci, ?_⟩, hs.w, zw.kp (k5 r hr4) (fun j hj => k5 (T j) (hT4 j hj)), ⟨pJ_0 (by decide), rfl⟩, _, z5⟩ ho5
  · show b + 1695 + 64 + 386600 ≤ b + 598000
    omega
  · show 3017000 + 384 + 4275100 ≤ 7295000
    omega
  · rw [(hs.1 43 (by decide) rfl).2]
    decide
  · show u.2.1 + 1 + 64 + 1 ≤ b + 1695 + 0 + hRc S
    omega
  · show u.2.2 + 119 + 3019308 + 1 ≤ 3017000 + 6 * 0 + hRs S
    omega
  · show b + 1695 + 0 + 386600 ≤ b + 598000
    omega
  · show 3017000 + 6 * 0 + 4275100 ≤ 7295000
    omega
  · exact (hs.1 0 (by decide) rfl).1
set_option maxHeartbeats 40000000 in
set_option maxRecDepth 100000 in
theorem law_body {nm : String} {d : gD} {b : Nat} {X : gX} {Q : State → Prop} {b0 L : Nat} {xs : Nat → Int32} (hC : gC RL cL_law 7 (some .boolean) nm room_1 d b X) (hr : hRm X b) (hX : va_X b0 L xs X.st X.st.heap) (hb : b0 < X.st.heap.size) (hb2 : b0 < b) (hl : X.la.stackTraces = false) (hL : L ≤ 384) (hob : hOk X b b 0) (hend : ∀ (F : gM) (k n : Nat) (lv : List (Option Value)), hG X d b Q F k n 429 lv [.int 1]) : hG X d b Q (fun _ => g0) b 0 0 [some (.ref b0), none, none, none, none, none, none] [] := by
  refine law_m1 hC hr hX hb hb2 hl hob (fun Y0 S u0 o hY hW ho hs hu => ?_)
  refine law_m2 hC hr hX hb hb2 hl (fun Y c u r z T R P h ho2 => ?_) hY hW ho hs hu
  refine h_iconst (v := nI (6 * 0)) hC dL_law_20 rfl ?_
  refine h_istore (lv' := [some (.ref b0), some (.ref (gO' Y 0)), some (.ref r), some (.ref z), some (.int (nI (6 * 0))), none, none]) hC dL_law_21 (Nat.le_of_ble_eq_true rfl) rfl rfl ?_
  exact law_loop hC hr hX hb hb2 hL (I := fun i => lI d b Y c r T z i) hend (fun i u1 pc hpc h1 ho1 hi1 END => law_turn hC hr hX hb hb2 hl hL R P i u1 pc hpc h1 ho1 hi1 END) L 0 u (by omega) ⟨0, Nat.zero_le _, h⟩ ho2
