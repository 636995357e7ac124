theorem kw_369 : Cond.classLink RX8 9 RX4 ∈ gWs := List.mem_filter.mpr ⟨gMt1 _ (List.mem_of_getElem? (i := 132) rfl), rfl⟩
theorem nl_X8_9 : gNL RX8 9 4 3 [.int 0, .null, .int 0] := ⟨RX4, TX4, tyX4, rfl, inW_RX4, tyX4_ok, kw_369, kw_273, kw_239, by decide +kernel⟩
theorem kw_371 : Cond.methodLink RX8 12 yX4_init ∈ gWs := List.mem_filter.mpr ⟨gMt1 _ (List.mem_of_getElem? (i := 134) rfl), rfl⟩
theorem cl_X8_12 : gCI RX8 12 yX4_init cX4_init 2 1 := ⟨gWs_all kw_276, kw_239, kw_371, kw_275, rfl, ⟨by decide +kernel, by decide +kernel, by decide +kernel⟩⟩
theorem kw_380 : Cond.code yJ0_length_8abf5 cJ0_length_8abf5 1 (some .int) ∈ gWs := List.mem_filter.mpr ⟨gMt1 _ (List.mem_of_getElem? (i := 143) rfl), rfl⟩
theorem kw_377 : Cond.methodLink RX8 69 yJ0_length_8abf5 ∈ gWs := List.mem_filter.mpr ⟨gMt1 _ (List.mem_of_getElem? (i := 140) rfl), rfl⟩
theorem kw_378 : Cond.instanceMethod yJ0_length_8abf5 ∈ gWs := List.mem_filter.mpr ⟨gMt1 _ (List.mem_of_getElem? (i := 141) rfl), rfl⟩
theorem kw_379 : Cond.selects RJ0 yJ0_length_8abf5 yJ0_length_8abf5 ∈ gWs := List.mem_filter.mpr ⟨gMt1 _ (List.mem_of_getElem? (i := 142) rfl), rfl⟩
theorem cl_X8_69 : gCV RX8 69 yJ0_length_8abf5 cJ0_length_8abf5 1 (some .int) 0 := ⟨g_mk [.methodLink RX8 69 yJ0_length_8abf5, .instanceMethod yJ0_length_8abf5, .selects yJ0_length_8abf5.cls yJ0_length_8abf5 yJ0_length_8abf5, .initialized yJ0_length_8abf5.cls] (gWs_all kw_380) (List.forall_mem_cons.mpr ⟨kw_377, List.forall_mem_cons.mpr ⟨kw_378, List.forall_mem_cons.mpr ⟨kw_379, List.forall_mem_cons.mpr ⟨kw_243, fun _ h => nomatch h⟩⟩⟩⟩), rfl, by decide +kernel, by decide +kernel, by decide +kernel⟩
theorem kw_390 : Cond.code yJ0_charAt_5068e cJ0_charAt_5068e 2 (some .char) ∈ gWs := List.mem_filter.mpr ⟨gMt1 _ (List.mem_of_getElem? (i := 153) rfl), rfl⟩
theorem kw_387 : Cond.methodLink RX8 74 yJ0_charAt_5068e ∈ gWs := List.mem_filter.mpr ⟨gMt1 _ (List.mem_of_getElem? (i := 150) rfl), rfl⟩
theorem kw_388 : Cond.instanceMethod yJ0_charAt_5068e ∈ gWs := List.mem_filter.mpr ⟨gMt1 _ (List.mem_of_getElem? (i := 151) rfl), rfl⟩
theorem kw_389 : Cond.selects RJ0 yJ0_charAt_5068e yJ0_charAt_5068e ∈ gWs := List.mem_filter.mpr ⟨gMt1 _ (List.mem_of_getElem? (i := 152) rfl), rfl⟩
theorem cl_X8_74 : gCV RX8 74 yJ0_charAt_5068e cJ0_charAt_5068e 2 (some .char) 1 := ⟨g_mk [.methodLink RX8 74 yJ0_charAt_5068e, .instanceMethod yJ0_charAt_5068e, .selects yJ0_charAt_5068e.cls yJ0_charAt_5068e yJ0_charAt_5068e, .initialized yJ0_charAt_5068e.cls] (gWs_all kw_390) (List.forall_mem_cons.mpr ⟨kw_387, List.forall_mem_cons.mpr ⟨kw_388, List.forall_mem_cons.mpr ⟨kw_389, List.forall_mem_cons.mpr ⟨kw_243, fun _ h => nomatch h⟩⟩⟩⟩), rfl, by decide +kernel, by decide +kernel, by decide +kernel⟩
theorem gAs2 {n z : Nat} : gAs 1000000 n z ≤ 2 * n ∧ gAc n z ≤ 1 := by
  unfold gAs gAc
  constructor
  · split
    · omega
    · exact Nat.min_le_right _ _
  · split <;> omega
theorem gAn2 {n z j : Nat} (h : n ≤ 16 + 2 * j) (hz : z ≤ j) : gAn 1000000 n z ≤ 16 + 2 * (j + 1) := by
  unfold gAn
  split
  · omega
  · exact Nat.le_trans (Nat.min_le_right _ _) (by omega)
theorem gkn0 {d : gD} {F F1 F2 : gM} {a q n z : Nat → Nat} {ar : Nat} {e : va_E} (h3 : gT3 d F a q n z) (ha : F ar = g0) (hF : F1 = va_up F ar e) (he : e ≠ g0) (hp : ∃ q : Nat, F1 q = g0 ∧ gIn d F2 ar q 1000000 16 0 (fun _ => 0) ∧ ∀ x : Nat, x ≠ ar → F1 x ≠ g0 → F2 x = F1 x) :
    ∃ qr : Nat, F qr = g0 ∧ gIn d F2 ar qr 1000000 16 0 (fun _ => 0) ∧ gT3 d F2 a q n z ∧ gB3 a q ar qr ∧ gS3 F F2 a q q := by
  obtain ⟨qr, hq, hin, hk⟩ := hp
  have hqa : qr ≠ ar := fun z => by rw [z, hF, va_up_self] at hq; exact he hq
  have hq1 : F qr = g0 := by rw [hF, va_up_ne _ _ hqa] at hq; exact hq
  have k : ∀ x, F x ≠ g0 → F2 x = F x := fun x hx => by
    have hxa : x ≠ ar := fun z => hx (by rw [z]; exact ha)
    have e1 : F1 x = F x := by rw [hF, va_up_ne _ _ hxa]
    exact (hk x hxa (by rw [e1]; exact hx)).trans e1
  refine ⟨qr, hq1, hin, ⟨fun i hi => ?_, h3.2⟩, fun i hi => ?_, fun x hx _ => k x hx, fun _ _ => Or.inl rfl, fun x hx => by rw [k x hx]; exact hx⟩
  · obtain ⟨⟨f, g⟩, hb⟩ := h3.1 i hi
    exact ⟨⟨f, g.kept (k _ g.na.1) (k _ g.na.2)⟩, hb⟩
  · obtain ⟨f, g⟩ := h3.in i hi
    exact ⟨fun e => g.na.1 (by rw [← e]; exact ha), fun e => g.na.2 (by rw [← e]; exact hq1)⟩
/-- a row beside the three changes -/
theorem gfr1 {d : gD} {F0 F F' : gM} {a q q2 n z : Nat → Nat} {ar qr mo m y : Nat} {f : Nat → Int32} (h : gS3 F0 F a q q2) (h3 : gT3 d F a q2 n z) (hB : gB3 a q2 ar qr) (hr : gIn d F ar qr mo m y f) (ha : F0 ar = g0) (hq : F0 qr = g0) (hk : ∀ x, x ≠ ar → x ≠ qr → F x ≠ g0 → F' x = F x) : gT3 d F' a q2 n z ∧ gS3 F0 F' a q q2 := by
  refine ⟨⟨fun i hi => ?_, h3.2⟩, fun x hx hn => ?_, h.2.1, fun x hx => ?_⟩
  · obtain ⟨⟨f2, g⟩, hb⟩ := h3.1 i hi
    exact ⟨⟨f2, g.kept (hk _ (Ne.symm (hB i hi).1) (gne g.1 hr.2.1 gk_oa) g.na.1) (hk _ (gne g.2.1 hr.1 gk_ao) (Ne.symm (hB i hi).2) g.na.2)⟩, hb⟩
  · rw [hk x (fun e => hx (by rw [e]; exact ha)) (fun e => hx (by rw [e]; exact hq)) (h.2.2 x hx)]
    exact h.1 x hx hn
  · rw [hk x (fun e => hx (by rw [e]; exact ha)) (fun e => hx (by rw [e]; exact hq)) (h.2.2 x hx)]
    exact h.2.2 x hx
theorem gct1 {d : gD} {F F' : gM} {ar qr mo m y : Nat} {f : Nat → Int32} (hr : gIn d F ar qr mo m y f) (hp : (¬ (0 : Int32) < 0 ∧ (0 : Int32).toNatClampNeg < y → gIn d F' ar qr mo m (0 : Int32).toNatClampNeg f) ∧ ((0 : Int32) < 0 ∨ nI y ≤ 0 → F' = F) ∧ ∀ x : Nat, x ≠ ar → F x ≠ g0 → F' x = F x) : gIn d F' ar qr mo m 0 f := by
  rcases Nat.eq_zero_or_pos y with e | e
  · subst e
    rw [hp.2.1 (Or.inr (by decide))]
    exact hr
  · exact hp.1 ⟨by decide, e⟩
theorem gad1 {d : gD} {F0 F F' : gM} {a q q2 n z : Nat → Nat} {ar qr m y : Nat} {f : Nat → Int32} {x : Int32} (h : gS3 F0 F a q q2) (h3 : gT3 d F a q2 n z) (hB : gB3 a q2 ar qr) (hr : gIn d F ar qr 1000000 m y f) (ha : F0 ar = g0) (hq : F0 qr = g0) (hy : y < 1000000)
    (hp : (y < 1000000 → ∃ (q' : Nat) (f' : Nat → Int32), gIn d F' ar q' 1000000 (gAn 1000000 m y) (y + 1) f' ∧ (q' = qr ∨ F q' = g0) ∧ (∀ j, j < y → f' j = f j) ∧ f' y = x) ∧ (1000000 ≤ y → F' = F) ∧ gFr F F' ar qr ∧ F' qr ≠ g0) :
    ∃ (q' : Nat) (f' : Nat → Int32), gIn d F' ar q' 1000000 (gAn 1000000 m y) (y + 1) f' ∧ F0 q' = g0 ∧ gB3 a q2 ar q' ∧ gT3 d F' a q2 n z ∧ gS3 F0 F' a q q2 := by
  obtain ⟨q', f', g, g2, -, -⟩ := hp.1 hy
  obtain ⟨t1, t2⟩ := gfr1 (F' := F') h h3 hB hr ha hq hp.2.2.1
  refine ⟨q', f', g, ?_, fun i hi => ⟨(hB i hi).1, fun e => ?_⟩, t1, t2⟩
  · rcases g2 with g2 | g2
    · rw [g2]; exact hq
    · exact Classical.byContradiction fun z => h.2.2 _ z g2
  · rcases g2 with g2 | g2
    · exact (hB i hi).2 (g2.symm.trans e)
    · obtain ⟨f3, g3⟩ := h3.in i hi
      exact g3.na.2 (by rw [← e]; exact g2)
theorem dX8_know_0 : decode cX8_know 0 = .ok (.new 9, 3) := by decide +kernel
theorem dX8_know_3 : decode cX8_know 3 = .ok (.dup, 1) := by decide +kernel
theorem dX8_know_4 : decode cX8_know 4 = .ok (.ldc 11, 2) := by decide +kernel
theorem dX8_know_6 : decode cX8_know 6 = .ok (.invokespecial 12, 3) := by decide +kernel
theorem dX8_know_9 : decode cX8_know 9 = .ok (.astore_n 2, 1) := by decide +kernel
theorem dX8_know_10 : decode cX8_know 10 = .ok (.iconst 0, 1) := by decide +kernel
theorem dX8_know_11 : decode cX8_know 11 = .ok (.istore_n 3, 1) := by decide +kernel
theorem dX8_know_12 : decode cX8_know 12 = .ok (.iload_n 3, 1) := by decide +kernel
theorem dX8_know_13 : decode cX8_know 13 = .ok (.aload_n 1, 1) := by decide +kernel
theorem dX8_know_14 : decode cX8_know 14 = .ok (.invokevirtual 69, 3) := by decide +kernel
theorem dX8_know_17 : decode cX8_know 17 = .ok (.if_icmp .ge 47, 3) := by decide +kernel
theorem dX8_know_20 : decode cX8_know 20 = .ok (.aload_n 1, 1) := by decide +kernel
theorem dX8_know_21 : decode cX8_know 21 = .ok (.iload_n 3, 1) := by decide +kernel
theorem dX8_know_22 : decode cX8_know 22 = .ok (.invokevirtual 74, 3) := by decide +kernel
theorem dX8_know_25 : decode cX8_know 25 = .ok (.bipush 32, 2) := by decide +kernel
theorem dX8_know_27 : decode cX8_know 27 = .ok (.if_icmp .ne 22, 3) := by decide +kernel
theorem dX8_know_30 : decode cX8_know 30 = .ok (.aload_n 0, 1) := by decide +kernel
theorem dX8_know_31 : decode cX8_know 31 = .ok (.aload_n 2, 1) := by decide +kernel
theorem dX8_know_32 : decode cX8_know 32 = .ok (.iconst 0, 1) := by decide +kernel
theorem dX8_know_33 : decode cX8_know 33 = .ok (.aload_n 2, 1) := by decide +kernel
theorem dX8_know_34 : decode cX8_know 34 = .ok (.invokevirtual 62, 3) := by decide +kernel
theorem dX8_know_37 : decode cX8_know 37 = .ok (.invokevirtual 78, 3) := by decide +kernel
theorem dX8_know_40 : decode cX8_know 40 = .ok (.pop, 1) := by decide +kernel
theorem dX8_know_41 : decode cX8_know 41 = .ok (.aload_n 2, 1) := by decide +kernel
theorem dX8_know_42 : decode cX8_know 42 = .ok (.iconst 0, 1) := by decide +kernel
theorem dX8_know_43 : decode cX8_know 43 = .ok (.invokevirtual 82, 3) := by decide +kernel
theorem dX8_know_46 : decode cX8_know 46 = .ok (.goto 12, 3) := by decide +kernel
theorem dX8_know_49 : decode cX8_know 49 = .ok (.aload_n 2, 1) := by decide +kernel
theorem dX8_know_50 : decode cX8_know 50 = .ok (.aload_n 1, 1) := by decide +kernel
theorem dX8_know_51 : decode cX8_know 51 = .ok (.iload_n 3, 1) := by decide +kernel
theorem dX8_know_52 : decode cX8_know 52 = .ok (.invokevirtual 74, 3) := by decide +kernel
theorem dX8_know_55 : decode cX8_know 55 = .ok (.invokevirtual 85, 3) := by decide +kernel
theorem dX8_know_58 : decode cX8_know 58 = .ok (.iinc 3 1, 3) := by decide +kernel
theorem dX8_know_61 : decode cX8_know 61 = .ok (.goto (-49), 3) := by decide +kernel
theorem dX8_know_64 : decode cX8_know 64 = .ok (.return_, 1) := by decide +kernel
theorem gGrow2 {n z : Nat} (h : n ≤ 500000) : gAs 1000000 n z + 2 * n ≤ 2 * gAn 1000000 n z := by
  unfold gAs gAn
  split
  · omega
  · rw [Nat.min_eq_right (by omega)]
    omega
theorem gAn3 {n z j : Nat} (h : n ≤ 16 ∨ n ≤ 2 * j) (hz : z ≤ j) : gAn 1000000 n z ≤ 16 ∨ gAn 1000000 n z ≤ 2 * (j + 1) := by
  unfold gAn
  split
  · omega
  · exact Or.inr (Nat.le_trans (Nat.min_le_right _ _) (by omega))
set_option maxHeartbeats 4000000 in
set_option maxRecDepth 100000 in
theorem s_S_know (l : Launch) (d : gD) (b : Nat) (F : gM) (K0 N0 : Nat) (t tx a0 a1 a2 a3 : Nat) (a q n z : Nat → Nat) (hT : F t = (.inr (8, [.ref tx, .ref a0, .ref a1, .ref a2, .ref a3, .ref (a 0), .ref (a 1), .ref (a 2), .int 0, .int 0, .int 0]))) (h3 : gT3 d F a q n z) (si : Nat) (hsi : si < 5) (hlen : (gLen.getD si 0) ≤ 300) (hb0 : z 0 + (gLen.getD si 0) ≤ 430) (hb1 : z 1 + (gLen.getD si 0) ≤ 430) (hb2 : z 2 + (gLen.getD si 0) ≤ 430) (hK : K0 + 2000 ≤ gKm b) (hN : N0 + 16000 ≤ gNm) : hMv l d b yX8_know cX8_know 4 4 K0 N0 F [.ref t, .ref (gSa d si)] (fun u => ∃ q' n' z' : Nat → Nat, gT3 d u.1 a q' n' z' ∧ gS3 F u.1 a q q' ∧ z' 0 ≤ z 0 + (gLen.getD si 0) ∧ z' 1 ≤ z 1 + (gLen.getD si 0) ∧ z' 2 ≤ z 2 + (gLen.getD si 0) ∧ u.2.1 ≤ K0 + 2 + 4 * (gLen.getD si 0) ∧ u.2.2 + 2 * (n 0 + n 1 + n 2) ≤ N0 + 19 + 4 * (gLen.getD si 0) + 2 * (n' 0 + n' 1 + n' 2)) := by
  intro mc ms
  refine hM_of2 rfl (nL := 4) (Nat.le_of_ble_eq_true rfl) ?_
  intro X hX hC hrm ho; subst hX
  show hG X d b _ F K0 N0 0 [some (.ref t), some (.ref (gSa d si)), none, none] []
  refine h_new hC hrm ho nl_X8_9 (by omega) (by omega) dX8_know_0 (fun q1 e_q1 ho1 => ?_)
  refine h_vF (fun F2 hF2 => ?_)
  have f3 : F2 q1 = .inr (4, [.int 0, .null, .int 0]) := by rw [hF2]; exact va_up_self _ _ _
  refine h_dup hC dX8_know_3 rfl ?_
  refine h_ldc hC dX8_know_4 kw_370 ?_
  have ka : K0 + 1 + 1 ≤ gKm b := by omega
  have na : N0 + 3 + 16 ≤ gNm := by omega
  refine g_callIv (As := [.int (nI 1000000)]) hC (c_Ints_init X.la d b F2 q1 1000000 f3 (by decide) (by decide)) cl_X8_12 rfl rfl (Nat.le_of_ble_eq_true rfl) (h_fit hC hrm ho1 (hFr_of (Nat.le_of_ble_eq_true rfl) (Nat.le_of_ble_eq_true rfl)) ka na) dX8_know_6 (fun F4 p5 => h_to hC ho1 ka na (fun ho3 => ?_))
  obtain ⟨qr, hq0, hr0, hT0, hB0, hS0⟩ := gkn0 h3 e_q1 hF2 g0_o p5
  refine h_astore_n (lv' := [some (.ref t), some (.ref (gSa d si)), some (.ref q1), none]) hC dX8_know_9 (Nat.le_of_ble_eq_true rfl) rfl rfl ?_
  refine h_iconst (v := 0) hC dX8_know_10 rfl ?_
  refine h_istore_n (lv' := [some (.ref t), some (.ref (gSa d si)), some (.ref q1), some (.int 0)]) hC dX8_know_11 (Nat.le_of_ble_eq_true rfl) rfl rfl ?_
  have LOOP : ∀ (m j : Nat) (F2 : gM) (q2 n2 z2 : Nat → Nat) (qr nr zr : Nat) (fr : Nat → Int32) (k2 n9 : Nat), m + j = (gLen.getD si 0) + 1 → j ≤ (gLen.getD si 0) → gT3 d F2 a q2 n2 z2 → gS3 F F2 a q q2 → gB3 a q2 q1 qr → gIn d F2 q1 qr 1000000 nr zr fr → F qr = g0 → (nr ≤ 16 ∨ nr ≤ 2 * j) → z2 0 + zr ≤ z 0 + j → z2 1 ≤ z 1 + j → z2 2 ≤ z 2 + j → zr ≤ j → k2 + zr ≤ K0 + 2 + 4 * j → n9 + 2 * (n 0 + n 1 + n 2) + 32 ≤ N0 + 19 + 2 * (n2 0 + n2 1 + n2 2) + 2 * nr → hOk X b k2 n9 → hG X d b (MQ X.be (va_Qv (fun u => ∃ q' n' z' : Nat → Nat, gT3 d u.1 a q' n' z' ∧ gS3 F u.1 a q q' ∧ z' 0 ≤ z 0 + (gLen.getD si 0) ∧ z' 1 ≤ z 1 + (gLen.getD si 0) ∧ z' 2 ≤ z 2 + (gLen.getD si 0) ∧ u.2.1 ≤ K0 + 2 + 4 * (gLen.getD si 0) ∧ u.2.2 + 2 * (n 0 + n 1 + n 2) ≤ N0 + 19 + 4 * (gLen.getD si 0) + 2 * (n' 0 + n' 1 + n' 2)) (hB d b) (fun q => b ≤ q)) X.ar X.st mc ms (fun q => b ≤ q)) F2 k2 n9 12 [some (.ref t), some (.ref (gSa d si)), some (.ref q1), some (.int (nI j))] [] := by
    intro m
    induction m with
    | zero => intro j F2 q2 n2 z2 qr nr zr fr k2 n9 h1 h2; exact absurd h1 (by omega)
    | succ m ih =>
      intro j F2 q2 n2 z2 qr nr zr fr k2 n9 h1 h2 hT2 hS2 hB2 hr2 hq2 hnr hz0 hz1 hz2 hzr hk2 hn9 ho2
      have hn0b := (hT2.1 0 (by decide)).2
      have hn1b := (hT2.1 1 (by decide)).2
      have hn2b := (hT2.1 2 (by decide)).2
      have o2 := hS2.ob h3 hT rfl
      refine h_iload_n hC dX8_know_12 rfl ?_
      refine h_aload_n hC dX8_know_13 rfl ?_
      refine g_callTi (As := []) hC hsi rfl (c_length X.la d b F2 si hsi) cl_X8_69 rfl rfl (Nat.le_of_ble_eq_true rfl) (h_fit0 hC hrm ho2 (hFr_of (Nat.le_of_ble_eq_true rfl) (Nat.le_of_ble_eq_true rfl))) dX8_know_14 (fun r6 F7 p8 => ?_)
      obtain ⟨er6, eF7⟩ := p8; have eF7 := eF7.symm; subst eF7
      refine h_same hC ho2 ?_
      subst er6
      refine h_icmp_ge (tgt := 64) hC dX8_know_17 (by decide) (fun c9 => ?_) (fun c9 => ?_)
      · have hfin : nr ≤ 616 := by omega
        exact h_vret hC hrm ho2 rfl rfl ⟨q2, n2, z2, hT2, hS2, by omega, by omega, by omega, by show k2 ≤ _; omega, by show n9 + _ ≤ _; omega⟩ dX8_know_64
      · have hjN : j < (gLen.getD si 0) := Nat.lt_of_le_of_ne h2 (fun e => c9 (by rw [e]; exact nI_le (Nat.le_refl _) (by omega)))
        refine h_aload_n hC dX8_know_20 rfl ?_
        refine h_iload_n hC dX8_know_21 rfl ?_
        refine g_callTi (As := [.int (nI j)]) hC hsi rfl (c_charAt X.la d b F2 si hsi j hjN hlen) cl_X8_74 rfl rfl (Nat.le_of_ble_eq_true rfl) (h_fit0 hC hrm ho2 (hFr_of (Nat.le_of_ble_eq_true rfl) (Nat.le_of_ble_eq_true rfl))) dX8_know_22 (fun r10 F11 p12 => ?_)
        obtain ⟨er10, eF11⟩ := p12; have eF11 := eF11.symm; subst eF11
        refine h_same hC ho2 ?_
        refine h_bipush (v := 32) hC dX8_know_25 rfl ?_
        refine h_icmp_ne (tgt := 49) hC dX8_know_27 (by decide) (fun c13 => ?_) (fun c13 => ?_)
        · refine h_aload_n hC dX8_know_49 rfl ?_
          refine h_aload_n hC dX8_know_50 rfl ?_
          refine h_iload_n hC dX8_know_51 rfl ?_
          refine g_callTi (As := [.int (nI j)]) hC hsi rfl (c_charAt X.la d b F2 si hsi j hjN hlen) cl_X8_74 rfl rfl (Nat.le_of_ble_eq_true rfl) (h_fit0 hC hrm ho2 (hFr_of (Nat.le_of_ble_eq_true rfl) (Nat.le_of_ble_eq_true rfl))) dX8_know_52 (fun r14 F15 p16 => ?_)
          obtain ⟨er14, eF15⟩ := p16; have eF15 := eF15.symm; subst eF15
          refine h_same hC ho2 ?_
          obtain ⟨hg1, hg2⟩ := gAs2 (n := nr) (z := zr)
          have hgr := gGrow2 (z := zr) (show nr ≤ 500000 by omega)
          have ka : k2 + gAc nr zr ≤ gKm b := by omega
          have na : n9 + gAs 1000000 nr zr ≤ gNm := by omega
          refine g_callVv (As := [.int r14]) hC rfl hr2.1 (c_Ints_add X.la d b F2 _ _ _ _ _ _ hr2 r14) cl_X8_85 rfl rfl (Nat.le_of_ble_eq_true rfl) (h_fit hC hrm ho2 (hFr_of (Nat.le_of_ble_eq_true rfl) (Nat.le_of_ble_eq_true rfl)) ka na) dX8_know_55 (fun F17 p18 => h_to hC ho2 ka na (fun ho4 => ?_))
          obtain ⟨q4, f4, hr4, hq4, hB4, hT4, hS4⟩ := gad1 hS2 hT2 hB2 hr2 e_q1 hq2 (by omega) p18
          have hg3 := gAn3 hnr hzr
          obtain ⟨x19, ex19⟩ : ∃ y : Int32, y = (nI j) + 1 := ⟨_, rfl⟩
          refine h_iinc (v := x19) (lv' := [some (.ref t), some (.ref (gSa d si)), some (.ref q1), some (.int x19)]) hC dX8_know_58 rfl (by rw [ex19]; rfl) rfl rfl ?_
          have zx19 : x19 = nI (j + 1) := by rw [ex19]; exact nI_1 j
          subst zx19
          refine h_goto (tgt := 12) hC dX8_know_61 (by decide) ?_
          exact ih (j + 1) _ _ _ _ _ _ _ _ _ _ (by omega) (by omega) hT4 hS4 hB4 hr4 hq4 hg3 (by omega) (by omega) (by omega) (by omega) (by omega) (by omega) ho4
        · refine h_aload_n hC dX8_know_30 rfl ?_
          refine h_aload_n hC dX8_know_31 rfl ?_
          refine h_iconst (v := 0) hC dX8_know_32 rfl ?_
          refine h_aload_n hC dX8_know_33 rfl ?_
          refine g_callVi (As := []) hC rfl hr2.1 (c_Ints_size X.la d b F2 _ _ _ _ _ _ hr2) cl_X8_62 rfl rfl (Nat.le_of_ble_eq_true rfl) (h_fit0 hC hrm ho2 (hFr_of (Nat.le_of_ble_eq_true rfl) (Nat.le_of_ble_eq_true rfl))) dX8_know_34 (fun r20 F21 p22 => ?_)
          obtain ⟨rfl, eF21⟩ := p22; have eF21 := eF21.symm; subst eF21
          refine h_same hC ho2 ?_
          have ki : k2 + 440 ≤ gKm b := by omega
          have ni : n9 + 9000 ≤ gNm := by omega
          refine h_callVi (As := [.ref q1, .int 0, .int (nI zr)]) hC hrm ho2 rfl o2 (s_S_idOf X.la d b F2 _ _ t tx a0 a1 a2 a3 a q2 n2 z2 o2 hT2 _ _ _ _ _ hr2 hB2 (by omega) (by omega) (by omega) ki ni) cl_X8_78 rfl rfl (Nat.le_of_ble_eq_true rfl) (hFr_of (Nat.le_of_ble_eq_true rfl) (Nat.le_of_ble_eq_true rfl)) dX8_know_37 (fun r25 u23 p24 ho5 => ?_)
          obtain ⟨q3, n3, z3, hT3, hS3, hy0, hy1, hy2, hy3, hy4⟩ := p24
          obtain ⟨hB3, hr3⟩ := hB2.st hT2 hr2 hS3
          refine h_pop hC dX8_know_40 rfl ?_
          refine h_aload_n hC dX8_know_41 rfl ?_
          refine h_iconst (v := 0) hC dX8_know_42 rfl ?_
          refine g_callVv (As := [.int 0]) hC rfl hr3.1 (c_Ints_cut X.la d b u23.1 _ _ _ _ _ _ hr3 0) cl_X8_82 rfl rfl (Nat.le_of_ble_eq_true rfl) (h_fit0 hC hrm ho5 (hFr_of (Nat.le_of_ble_eq_true rfl) (Nat.le_of_ble_eq_true rfl))) dX8_know_43 (fun F26 p27 => h_same hC ho5 ?_)
          obtain ⟨hT4, hS4⟩ := gfr1 (F' := F26) (hS2.tr hS3) hT3 hB3 hr3 e_q1 hq2 (fun x hx _ hn => p27.2.2 x hx hn)
          have hr4 := gct1 hr3 p27
          refine h_goto (tgt := 58) hC dX8_know_46 (by decide) ?_
          obtain ⟨x28, ex28⟩ : ∃ y : Int32, y = (nI j) + 1 := ⟨_, rfl⟩
          refine h_iinc (v := x28) (lv' := [some (.ref t), some (.ref (gSa d si)), some (.ref q1), some (.int x28)]) hC dX8_know_58 rfl (by rw [ex28]; rfl) rfl rfl ?_
          have zx28 : x28 = nI (j + 1) := by rw [ex28]; exact nI_1 j
          subst zx28
          refine h_goto (tgt := 12) hC dX8_know_61 (by decide) ?_
          exact ih (j + 1) _ _ _ _ _ _ _ _ _ _ (by omega) (by omega) hT4 hS4 hB3 hr4 hq2 (by omega) (by omega) (by omega) (by omega) (by omega) (by omega) (by omega) ho5
  exact LOOP ((gLen.getD si 0) + 1) 0 _ _ _ _ _ _ _ _ _ _ rfl (Nat.zero_le _) hT0 hS0 hB0 hr0 hq0 (Or.inl (Nat.le_refl _)) (Nat.le_refl _) (Nat.le_refl _) (Nat.le_refl _) (Nat.le_refl _) (Nat.le_refl _) (by omega) ho3
