theorem kw_368 : Cond.methodLink RX8 3 objectInit ∈ gWs := List.mem_filter.mpr ⟨gMt1 _ (List.mem_of_getElem? (i := 131) rfl), rfl⟩
theorem kw_376 : Cond.code yX8_know cX8_know 4 none ∈ gWs := List.mem_filter.mpr ⟨gMt1 _ (List.mem_of_getElem? (i := 139) rfl), rfl⟩
theorem kw_373 : Cond.methodLink RX8 52 yX8_know ∈ gWs := List.mem_filter.mpr ⟨gMt1 _ (List.mem_of_getElem? (i := 136) rfl), rfl⟩
theorem kw_375 : Cond.instanceMethod yX8_know ∈ gWs := List.mem_filter.mpr ⟨gMt1 _ (List.mem_of_getElem? (i := 138) rfl), rfl⟩
theorem kw_0 : Cond.selects RX8 yX8_know yX8_know ∈ gWs := gWm 0 (by decide +kernel) rfl
theorem cl_X8_52 : gCV RX8 52 yX8_know cX8_know 4 none 1 := ⟨g_mk [.methodLink RX8 52 yX8_know, .instanceMethod yX8_know, .selects yX8_know.cls yX8_know yX8_know, .initialized yX8_know.cls] (gWs_all kw_376) (List.forall_mem_cons.mpr ⟨kw_373, List.forall_mem_cons.mpr ⟨kw_375, List.forall_mem_cons.mpr ⟨kw_0, List.forall_mem_cons.mpr ⟨kw_242, fun _ h => nomatch h⟩⟩⟩⟩), rfl, by decide +kernel, by decide +kernel, by decide +kernel⟩
def gT (x y w : Nat) : Nat → Nat
  | 0 => x
  | 1 => y
  | _ => w
theorem gCn.t3 {d : gD} {t ci : Nat} {F F1 : gM} {fs : List Value} {L1 : List (Nat × Nat × Nat × Nat)} {x0 x1 x2 p0 p1 p2 : Nat} (h : gCn d t ci F F1 fs (L1 ++ [(x0, p0, 1000000, 0), (x1, p1, 1000000, 0), (x2, p2, 1000000, 0)])) : gT3 d F1 (gT x0 x1 x2) (gT p0 p1 p2) (fun _ => 16) (fun _ => 0) := by
  have k : ∀ x p : Nat, (x, p, 1000000, 0) ∈ L1 ++ [(x0, p0, 1000000, 0), (x1, p1, 1000000, 0), (x2, p2, 1000000, 0)] → ∃ f, gIn d F1 x p 1000000 16 0 f := fun x p hm => by
    rcases (h.2.2.2.1 _ hm).1 with ⟨-, g⟩ | ⟨e, -⟩ | ⟨e, -⟩
    · exact ⟨_, g⟩
    · exact absurd (show (0 : Nat) = 1 from e) (by decide)
    · exact absurd (show (0 : Nat) = 2 from e) (by decide)
  have n1 := h.2.2.2.2.1
  have n2 := h.2.2.2.2.2
  rw [List.map_append, List.nodup_append] at n1 n2
  have m1 := n1.2.1
  have m2 := n2.2.1
  simp only [List.map_cons, List.map_nil, List.nodup_cons, List.mem_cons, List.not_mem_nil, or_false, not_or, not_false_iff, List.nodup_nil, and_true] at m1 m2
  refine ⟨fun i hi => ?_, fun i j hi hj e => ?_, fun i j hi hj e => ?_⟩
  · match i, hi with
    | 0, _ => exact ⟨k _ _ (List.mem_append_right _ List.mem_cons_self), by decide⟩
    | 1, _ => exact ⟨k _ _ (List.mem_append_right _ (List.mem_cons_of_mem _ List.mem_cons_self)), by decide⟩
    | 2, _ => exact ⟨k _ _ (List.mem_append_right _ (List.mem_cons_of_mem _ (List.mem_cons_of_mem _ List.mem_cons_self))), by decide⟩
  · match i, hi, j, hj, e with
    | 0, _, 0, _, _ => rfl
    | 0, _, 1, _, e => exact absurd e m1.1.1
    | 0, _, 2, _, e => exact absurd e m1.1.2
    | 1, _, 0, _, e => exact absurd e.symm m1.1.1
    | 1, _, 1, _, _ => rfl
    | 1, _, 2, _, e => exact absurd e m1.2
    | 2, _, 0, _, e => exact absurd e.symm m1.1.2
    | 2, _, 1, _, e => exact absurd e.symm m1.2
    | 2, _, 2, _, _ => rfl
  · match i, hi, j, hj, e with
    | 0, _, 0, _, _ => rfl
    | 0, _, 1, _, e => exact absurd e m2.1.1
    | 0, _, 2, _, e => exact absurd e m2.1.2
    | 1, _, 0, _, e => exact absurd e.symm m2.1.1
    | 1, _, 1, _, _ => rfl
    | 1, _, 2, _, e => exact absurd e m2.2
    | 2, _, 0, _, e => exact absurd e.symm m2.1.2
    | 2, _, 1, _, e => exact absurd e.symm m2.2
    | 2, _, 2, _, _ => rfl
/-- three rows are filled -/
theorem gCn.three {d : gD} {t ci : Nat} {F F1 F2 : gM} {v : Value} {fs : List Value} {L1 : List (Nat × Nat × Nat × Nat)} {x0 x1 x2 p0 p1 p2 : Nat} {q n z : Nat → Nat} (h : gCn d t ci F F1 (v :: fs) (L1 ++ [(x0, p0, 1000000, 0), (x1, p1, 1000000, 0), (x2, p2, 1000000, 0)])) (hc : (ci == 4) = false) (hs : gS3 F1 F2 (gT x0 x1 x2) (gT p0 p1 p2) q) (h3 : gT3 d F2 (gT x0 x1 x2) q n z) : gCn d t ci F F2 (v :: fs) (L1 ++ [(x0, q 0, 1000000, 1), (x1, q 1, 1000000, 1), (x2, q 2, 1000000, 1)]) := by
  have k3 := h.t3
  have hm : ∀ i, i < 3 → (gT x0 x1 x2 i, gT p0 p1 p2 i, 1000000, 0) ∈ L1 ++ [(x0, p0, 1000000, 0), (x1, p1, 1000000, 0), (x2, p2, 1000000, 0)] := fun i hi => List.mem_append_right _ (by
    match i, hi with
    | 0, _ => exact List.mem_cons_self
    | 1, _ => exact List.mem_cons_of_mem _ List.mem_cons_self
    | 2, _ => exact List.mem_cons_of_mem _ (List.mem_cons_of_mem _ List.mem_cons_self))
  have fa : ∀ i, i < 3 → F (gT x0 x1 x2 i) = g0 ∧ F (gT p0 p1 p2 i) = g0 := fun i hi => (h.2.2.2.1 _ (hm i hi)).2
  have back : ∀ x, F1 x = g0 → F x = g0 := fun x hx => Classical.byContradiction fun q => (h.2.2.1 x q).1 hx
  have fq : ∀ i, i < 3 → F (q i) = g0 := fun i hi => by
    rcases hs.2.1 i hi with g | g
    · rw [g]; exact (fa i hi).2
    · exact back _ g
  have n1 := h.2.2.2.2.1
  have n2 := h.2.2.2.2.2
  rw [List.map_append, List.nodup_append] at n1 n2
  have mm : ∀ (i : Nat), i < 3 → gT x0 x1 x2 i ∈ List.map (fun p : Nat × Nat × Nat × Nat => p.1) [(x0, p0, 1000000, 0), (x1, p1, 1000000, 0), (x2, p2, 1000000, 0)] ∧ gT p0 p1 p2 i ∈ List.map (fun p : Nat × Nat × Nat × Nat => p.2.1) [(x0, p0, 1000000, 0), (x1, p1, 1000000, 0), (x2, p2, 1000000, 0)] := fun i hi => by
    match i, hi with
    | 0, _ => exact ⟨List.mem_cons_self, List.mem_cons_self⟩
    | 1, _ => exact ⟨List.mem_cons_of_mem _ List.mem_cons_self, List.mem_cons_of_mem _ List.mem_cons_self⟩
    | 2, _ => exact ⟨List.mem_cons_of_mem _ (List.mem_cons_of_mem _ List.mem_cons_self), List.mem_cons_of_mem _ (List.mem_cons_of_mem _ List.mem_cons_self)⟩
  have hL : ∀ p ∈ L1, ∀ i, i < 3 → (p.1 ≠ gT x0 x1 x2 i ∧ p.1 ≠ gT p0 p1 p2 i) ∧ (p.2.1 ≠ gT x0 x1 x2 i ∧ p.2.1 ≠ gT p0 p1 p2 i) := fun p hp i hi => by
    have e1 : p.1 ≠ gT x0 x1 x2 i := n1.2.2 _ (List.mem_map.mpr ⟨p, hp, rfl⟩) _ (mm i hi).1
    have e2 : p.2.1 ≠ gT p0 p1 p2 i := n2.2.2 _ (List.mem_map.mpr ⟨p, hp, rfl⟩) _ (mm i hi).2
    obtain ⟨f, g⟩ := k3.in i hi
    rcases (h.2.2.2.1 p (List.mem_append_left _ hp)).1 with ⟨-, g2⟩ | ⟨-, m, y, f2, g2⟩ | ⟨-, e, g2⟩
    · exact ⟨⟨e1, gne g2.1 g.2.1 gk_oa⟩, gne g2.2.1 g.1 gk_ao, e2⟩
    · exact ⟨⟨e1, gne g2.1 g.2.1 gk_oa⟩, gne g2.2.1 g.1 gk_ao, e2⟩
    · exact ⟨⟨e1, by rw [e]; exact e2⟩, gne g2 g.1 gk_ao, e2⟩
  have ex : gEx t F F2 := fun x hx => ⟨hs.2.2 x (h.2.2.1 x hx).1, fun ht => (hs.1 x (h.2.2.1 x hx).1 (fun i hi => ⟨fun e => hx (by rw [e]; exact (fa i hi).1), fun e => hx (by rw [e]; exact (fa i hi).2)⟩)).trans ((h.2.2.1 x hx).2 ht)⟩
  refine ⟨hs.ob k3 h.1 hc, h.2.1, ex, fun p hp => ?_, ?_, ?_⟩
  · rcases List.mem_append.mp hp with hp | hp
    · obtain ⟨g, g2⟩ := h.2.2.2.1 p (List.mem_append_left _ hp)
      exact ⟨g.kept (hs.1 _ g.na.1 (fun i hi => (hL p hp i hi).1)) (hs.1 _ g.na.2 (fun i hi => (hL p hp i hi).2)), g2⟩
    · have o : ∀ i, i < 3 → gNk d F2 (gT x0 x1 x2 i, q i, 1000000, 1) ∧ F (gT x0 x1 x2 i) = g0 ∧ F (q i) = g0 := fun i hi => by
        obtain ⟨f, g⟩ := h3.in i hi
        exact ⟨Or.inr (Or.inl ⟨rfl, _, _, _, g⟩), (fa i hi).1, fq i hi⟩
      rcases List.mem_cons.mp hp with e | hp
      · rw [e]; exact o 0 (by decide)
      · rcases List.mem_cons.mp hp with e | hp
        · rw [e]; exact o 1 (by decide)
        · rw [List.mem_singleton.mp hp]; exact o 2 (by decide)
  · rw [List.map_append, List.nodup_append]
    exact n1
  · rw [List.map_append, List.nodup_append]
    refine ⟨n2.1, ?_, fun x hx y hy e => ?_⟩
    · have w01 : q 0 ≠ q 1 := fun e => absurd (h3.2.2 0 1 (by decide) (by decide) e) (by decide)
      have w02 : q 0 ≠ q 2 := fun e => absurd (h3.2.2 0 2 (by decide) (by decide) e) (by decide)
      have w12 : q 1 ≠ q 2 := fun e => absurd (h3.2.2 1 2 (by decide) (by decide) e) (by decide)
      simp only [List.map_cons, List.map_nil, List.nodup_cons, List.mem_cons, List.not_mem_nil, or_false, not_or, not_false_iff, List.nodup_nil, and_true]
      exact ⟨⟨w01, w02⟩, w12⟩
    · obtain ⟨p, hp, rfl⟩ := List.mem_map.mp hx
      have o : ∀ i, i < 3 → p.2.1 ≠ q i := fun i hi e => by
        rcases hs.2.1 i hi with g | g
        · exact (hL p hp i hi).2.2 (e.trans g)
        · exact (h.2.2.2.1 p (List.mem_append_left _ hp)).1.na.2 (by rw [e]; exact g)
      subst e
      rcases List.mem_cons.mp hy with e | hy
      · exact o 0 (by decide) e
      · rcases List.mem_cons.mp hy with e | hy
        · exact o 1 (by decide) e
        · exact o 2 (by decide) (List.mem_singleton.mp hy)
theorem dX8_init_0 : decode cX8_init 0 = .ok (.aload_n 0, 1) := by decide +kernel
theorem dX8_init_1 : decode cX8_init 1 = .ok (.invokespecial 3, 3) := by decide +kernel
theorem dX8_init_4 : decode cX8_init 4 = .ok (.aload_n 0, 1) := by decide +kernel
theorem dX8_init_5 : decode cX8_init 5 = .ok (.new 9, 3) := by decide +kernel
theorem dX8_init_8 : decode cX8_init 8 = .ok (.dup, 1) := by decide +kernel
theorem dX8_init_9 : decode cX8_init 9 = .ok (.ldc 11, 2) := by decide +kernel
theorem dX8_init_11 : decode cX8_init 11 = .ok (.invokespecial 12, 3) := by decide +kernel
theorem dX8_init_14 : decode cX8_init 14 = .ok (.putfield 15, 3) := by decide +kernel
theorem dX8_init_17 : decode cX8_init 17 = .ok (.aload_n 0, 1) := by decide +kernel
theorem dX8_init_18 : decode cX8_init 18 = .ok (.new 9, 3) := by decide +kernel
theorem dX8_init_21 : decode cX8_init 21 = .ok (.dup, 1) := by decide +kernel
theorem dX8_init_22 : decode cX8_init 22 = .ok (.ldc 11, 2) := by decide +kernel
theorem dX8_init_24 : decode cX8_init 24 = .ok (.invokespecial 12, 3) := by decide +kernel
theorem dX8_init_27 : decode cX8_init 27 = .ok (.putfield 21, 3) := by decide +kernel
theorem dX8_init_30 : decode cX8_init 30 = .ok (.aload_n 0, 1) := by decide +kernel
theorem dX8_init_31 : decode cX8_init 31 = .ok (.new 9, 3) := by decide +kernel
theorem dX8_init_34 : decode cX8_init 34 = .ok (.dup, 1) := by decide +kernel
theorem dX8_init_35 : decode cX8_init 35 = .ok (.ldc 11, 2) := by decide +kernel
theorem dX8_init_37 : decode cX8_init 37 = .ok (.invokespecial 12, 3) := by decide +kernel
theorem dX8_init_40 : decode cX8_init 40 = .ok (.putfield 24, 3) := by decide +kernel
theorem dX8_init_43 : decode cX8_init 43 = .ok (.aload_n 0, 1) := by decide +kernel
theorem dX8_init_44 : decode cX8_init 44 = .ok (.new 9, 3) := by decide +kernel
theorem dX8_init_47 : decode cX8_init 47 = .ok (.dup, 1) := by decide +kernel
theorem dX8_init_48 : decode cX8_init 48 = .ok (.ldc 11, 2) := by decide +kernel
theorem dX8_init_50 : decode cX8_init 50 = .ok (.invokespecial 12, 3) := by decide +kernel
theorem dX8_init_53 : decode cX8_init 53 = .ok (.putfield 27, 3) := by decide +kernel
theorem dX8_init_56 : decode cX8_init 56 = .ok (.aload_n 0, 1) := by decide +kernel
theorem dX8_init_57 : decode cX8_init 57 = .ok (.new 9, 3) := by decide +kernel
theorem dX8_init_60 : decode cX8_init 60 = .ok (.dup, 1) := by decide +kernel
theorem dX8_init_61 : decode cX8_init 61 = .ok (.ldc 11, 2) := by decide +kernel
theorem dX8_init_63 : decode cX8_init 63 = .ok (.invokespecial 12, 3) := by decide +kernel
theorem dX8_init_66 : decode cX8_init 66 = .ok (.putfield 30, 3) := by decide +kernel
theorem dX8_init_69 : decode cX8_init 69 = .ok (.aload_n 0, 1) := by decide +kernel
theorem dX8_init_70 : decode cX8_init 70 = .ok (.new 9, 3) := by decide +kernel
theorem dX8_init_73 : decode cX8_init 73 = .ok (.dup, 1) := by decide +kernel
theorem dX8_init_74 : decode cX8_init 74 = .ok (.ldc 11, 2) := by decide +kernel
theorem dX8_init_76 : decode cX8_init 76 = .ok (.invokespecial 12, 3) := by decide +kernel
theorem dX8_init_79 : decode cX8_init 79 = .ok (.putfield 33, 3) := by decide +kernel
theorem dX8_init_82 : decode cX8_init 82 = .ok (.aload_n 0, 1) := by decide +kernel
theorem dX8_init_83 : decode cX8_init 83 = .ok (.new 9, 3) := by decide +kernel
theorem dX8_init_86 : decode cX8_init 86 = .ok (.dup, 1) := by decide +kernel
theorem dX8_init_87 : decode cX8_init 87 = .ok (.ldc 11, 2) := by decide +kernel
theorem dX8_init_89 : decode cX8_init 89 = .ok (.invokespecial 12, 3) := by decide +kernel
theorem dX8_init_92 : decode cX8_init 92 = .ok (.putfield 36, 3) := by decide +kernel
theorem dX8_init_95 : decode cX8_init 95 = .ok (.aload_n 0, 1) := by decide +kernel
theorem dX8_init_96 : decode cX8_init 96 = .ok (.iconst 0, 1) := by decide +kernel
theorem dX8_init_97 : decode cX8_init 97 = .ok (.putfield 39, 3) := by decide +kernel
theorem dX8_init_100 : decode cX8_init 100 = .ok (.aload_n 0, 1) := by decide +kernel
theorem dX8_init_101 : decode cX8_init 101 = .ok (.iconst 0, 1) := by decide +kernel
theorem dX8_init_102 : decode cX8_init 102 = .ok (.putfield 43, 3) := by decide +kernel
theorem dX8_init_105 : decode cX8_init 105 = .ok (.aload_n 0, 1) := by decide +kernel
theorem dX8_init_106 : decode cX8_init 106 = .ok (.aload_n 1, 1) := by decide +kernel
theorem dX8_init_107 : decode cX8_init 107 = .ok (.putfield 47, 3) := by decide +kernel
theorem dX8_init_110 : decode cX8_init 110 = .ok (.aload_n 0, 1) := by decide +kernel
theorem dX8_init_111 : decode cX8_init 111 = .ok (.ldc 50, 2) := by decide +kernel
theorem dX8_init_113 : decode cX8_init 113 = .ok (.invokevirtual 52, 3) := by decide +kernel
theorem dX8_init_116 : decode cX8_init 116 = .ok (.aload_n 0, 1) := by decide +kernel
theorem dX8_init_117 : decode cX8_init 117 = .ok (.ldc 56, 2) := by decide +kernel
theorem dX8_init_119 : decode cX8_init 119 = .ok (.invokevirtual 52, 3) := by decide +kernel
theorem dX8_init_122 : decode cX8_init 122 = .ok (.aload_n 0, 1) := by decide +kernel
theorem dX8_init_123 : decode cX8_init 123 = .ok (.ldc 58, 2) := by decide +kernel
theorem dX8_init_125 : decode cX8_init 125 = .ok (.invokevirtual 52, 3) := by decide +kernel
theorem dX8_init_128 : decode cX8_init 128 = .ok (.aload_n 0, 1) := by decide +kernel
theorem dX8_init_129 : decode cX8_init 129 = .ok (.ldc 60, 2) := by decide +kernel
theorem dX8_init_131 : decode cX8_init 131 = .ok (.invokevirtual 52, 3) := by decide +kernel
theorem dX8_init_134 : decode cX8_init 134 = .ok (.aload_n 0, 1) := by decide +kernel
theorem dX8_init_135 : decode cX8_init 135 = .ok (.aload_n 0, 1) := by decide +kernel
theorem dX8_init_136 : decode cX8_init 136 = .ok (.getfield 30, 3) := by decide +kernel
theorem dX8_init_139 : decode cX8_init 139 = .ok (.invokevirtual 62, 3) := by decide +kernel
theorem dX8_init_142 : decode cX8_init 142 = .ok (.putfield 66, 3) := by decide +kernel
theorem dX8_init_145 : decode cX8_init 145 = .ok (.return_, 1) := by decide +kernel
set_option maxHeartbeats 4000000 in
set_option maxRecDepth 100000 in
theorem s_S (l : Launch) (d : gD) (b : Nat) (F : gM) (K0 N0 : Nat) (t : Nat) (p0 : Nat) (h : F t = .inr (8, [.null, .null, .null, .null, .null, .null, .null, .null, .int 0, .int 0, .int 0]))  (hK : K0 + 4000 ≤ gKm b) (hN : N0 + 30000 ≤ gNm) : hMv l d b yX8_init cX8_init 2 5 K0 N0 F [.ref t, .ref p0] (fun u => ∃ a0 q1 a2 q3 a4 q5 a6 q7 a8 q9 a10 q11 a12 q13 kn0 : Nat, gCn d t 8 F u.1 [.ref p0, .ref a0, .ref a2, .ref a4, .ref a6, .ref a8, .ref a10, .ref a12, .int (nI kn0), .int 0, .int 0] [(a0, q1, 1000000, 0), (a2, q3, 1000000, 0), (a4, q5, 1000000, 0), (a6, q7, 1000000, 0), (a8, q9, 1000000, 1), (a10, q11, 1000000, 1), (a12, q13, 1000000, 1)] ∧ ∃ q n z : Nat → Nat, gT3 d u.1 (gT a8 a10 a12) q n z ∧ q 0 = q9 ∧ q 1 = q11 ∧ q 2 = q13 ∧ z 0 ≤ 378 ∧ z 1 ≤ 378 ∧ z 2 ≤ 378 ∧ kn0 = z 0 ∧ u.2.1 ≤ K0 + 1540 ∧ u.2.2 + 96 ≤ N0 + 1721 + 2 * (n 0 + n 1 + n 2)) := by
  intro mc ms
  refine hM_of2 rfl (nL := 2) (Nat.le_of_ble_eq_true rfl) ?_
  intro X hX hC hrm ho; subst hX
  obtain ⟨rm1, rm2⟩ : min K0 (gKm b) - X.st.heap.size + 14 ≤ mc ∧ min N0 gNm - gsm b X.st.heap + 133 ≤ ms := h_rm hC hrm ho (by omega) (by omega)
  show gG X d b _ F (min K0 (gKm b) - X.st.heap.size) (min N0 gNm - gsm b X.st.heap) 0 [some (.ref t), some (.ref p0)] []
  have hcn : gCn d t 8 F F [.null, .null, .null, .null, .null, .null, .null, .null, .int 0, .int 0, .int 0] [] := ⟨h, by rw [h]; exact g0_o, gEx.rf, gNw.nil⟩
  refine g_aload_n hC dX8_init_0 rfl ?_
  refine g_objInit hC dX8_init_1 kw_368 rfl ⟨Nat.le_of_ble_eq_true rfl, Nat.le_of_ble_eq_true rfl⟩ (Nat.le_of_ble_eq_true rfl) ?_
  refine g_newInts 1000000 hC hcn rfl rfl (by decide) (by decide) dX8_init_4 dX8_init_5 dX8_init_8 (fun _ _ _ _ kk => g_ldc hC dX8_init_9 kw_370 kk) dX8_init_11 dX8_init_14 nl_X8_9 cl_X8_12 fl_X8_15 (fun _ => ⟨rfl, rfl⟩) (Nat.le_of_ble_eq_true rfl) (fun _ => ⟨_, _, rfl⟩) (by omega) (by omega) (Nat.le_of_ble_eq_true rfl) (Nat.le_of_ble_eq_true rfl) (fun a1 q2 F3 h4 e6 hx7 => ?_)
  have hcn5 : gCn d t 8 F F3 [.null, .ref a1, .null, .null, .null, .null, .null, .null, .int 0, .int 0, .int 0] [(a1, q2, 1000000, 0)] := h4
  refine g_newInts 1000000 hC hcn5 rfl rfl (by decide) (by decide) dX8_init_17 dX8_init_18 dX8_init_21 (fun _ _ _ _ kk => g_ldc hC dX8_init_22 kw_370 kk) dX8_init_24 dX8_init_27 nl_X8_9 cl_X8_12 fl_X8_21 (fun _ => ⟨rfl, rfl⟩) (Nat.le_of_ble_eq_true rfl) (fun _ => ⟨_, _, rfl⟩) (by omega) (by omega) (Nat.le_of_ble_eq_true rfl) (Nat.le_of_ble_eq_true rfl) (fun a8 q9 F10 h11 e13 hx14 => ?_)
  have hcn12 : gCn d t 8 F F10 [.null, .ref a1, .ref a8, .null, .null, .null, .null, .null, .int 0, .int 0, .int 0] [(a1, q2, 1000000, 0), (a8, q9, 1000000, 0)] := h11
  refine g_newInts 1000000 hC hcn12 rfl rfl (by decide) (by decide) dX8_init_30 dX8_init_31 dX8_init_34 (fun _ _ _ _ kk => g_ldc hC dX8_init_35 kw_370 kk) dX8_init_37 dX8_init_40 nl_X8_9 cl_X8_12 fl_X8_24 (fun _ => ⟨rfl, rfl⟩) (Nat.le_of_ble_eq_true rfl) (fun _ => ⟨_, _, rfl⟩) (by omega) (by omega) (Nat.le_of_ble_eq_true rfl) (Nat.le_of_ble_eq_true rfl) (fun a15 q16 F17 h18 e20 hx21 => ?_)
  have hcn19 : gCn d t 8 F F17 [.null, .ref a1, .ref a8, .ref a15, .null, .null, .null, .null, .int 0, .int 0, .int 0] [(a1, q2, 1000000, 0), (a8, q9, 1000000, 0), (a15, q16, 1000000, 0)] := h18
  refine g_newInts 1000000 hC hcn19 rfl rfl (by decide) (by decide) dX8_init_43 dX8_init_44 dX8_init_47 (fun _ _ _ _ kk => g_ldc hC dX8_init_48 kw_370 kk) dX8_init_50 dX8_init_53 nl_X8_9 cl_X8_12 fl_X8_27 (fun _ => ⟨rfl, rfl⟩) (Nat.le_of_ble_eq_true rfl) (fun _ => ⟨_, _, rfl⟩) (by omega) (by omega) (Nat.le_of_ble_eq_true rfl) (Nat.le_of_ble_eq_true rfl) (fun a22 q23 F24 h25 e27 hx28 => ?_)
  have hcn26 : gCn d t 8 F F24 [.null, .ref a1, .ref a8, .ref a15, .ref a22, .null, .null, .null, .int 0, .int 0, .int 0] [(a1, q2, 1000000, 0), (a8, q9, 1000000, 0), (a15, q16, 1000000, 0), (a22, q23, 1000000, 0)] := h25
  refine g_newInts 1000000 hC hcn26 rfl rfl (by decide) (by decide) dX8_init_56 dX8_init_57 dX8_init_60 (fun _ _ _ _ kk => g_ldc hC dX8_init_61 kw_370 kk) dX8_init_63 dX8_init_66 nl_X8_9 cl_X8_12 fl_X8_30 (fun _ => ⟨rfl, rfl⟩) (Nat.le_of_ble_eq_true rfl) (fun _ => ⟨_, _, rfl⟩) (by omega) (by omega) (Nat.le_of_ble_eq_true rfl) (Nat.le_of_ble_eq_true rfl) (fun a29 q30 F31 h32 e34 hx35 => ?_)
  have hcn33 : gCn d t 8 F F31 [.null, .ref a1, .ref a8, .ref a15, .ref a22, .ref a29, .null, .null, .int 0, .int 0, .int 0] [(a1, q2, 1000000, 0), (a8, q9, 1000000, 0), (a15, q16, 1000000, 0), (a22, q23, 1000000, 0), (a29, q30, 1000000, 0)] := h32
  refine g_newInts 1000000 hC hcn33 rfl rfl (by decide) (by decide) dX8_init_69 dX8_init_70 dX8_init_73 (fun _ _ _ _ kk => g_ldc hC dX8_init_74 kw_370 kk) dX8_init_76 dX8_init_79 nl_X8_9 cl_X8_12 fl_X8_33 (fun _ => ⟨rfl, rfl⟩) (Nat.le_of_ble_eq_true rfl) (fun _ => ⟨_, _, rfl⟩) (by omega) (by omega) (Nat.le_of_ble_eq_true rfl) (Nat.le_of_ble_eq_true rfl) (fun a36 q37 F38 h39 e41 hx42 => ?_)
  have hcn40 : gCn d t 8 F F38 [.null, .ref a1, .ref a8, .ref a15, .ref a22, .ref a29, .ref a36, .null, .int 0, .int 0, .int 0] [(a1, q2, 1000000, 0), (a8, q9, 1000000, 0), (a15, q16, 1000000, 0), (a22, q23, 1000000, 0), (a29, q30, 1000000, 0), (a36, q37, 1000000, 0)] := h39
  refine g_newInts 1000000 hC hcn40 rfl rfl (by decide) (by decide) dX8_init_82 dX8_init_83 dX8_init_86 (fun _ _ _ _ kk => g_ldc hC dX8_init_87 kw_370 kk) dX8_init_89 dX8_init_92 nl_X8_9 cl_X8_12 fl_X8_36 (fun _ => ⟨rfl, rfl⟩) (Nat.le_of_ble_eq_true rfl) (fun _ => ⟨_, _, rfl⟩) (by omega) (by omega) (Nat.le_of_ble_eq_true rfl) (Nat.le_of_ble_eq_true rfl) (fun a43 q44 F45 h46 e48 hx49 => ?_)
  have hcn47 : gCn d t 8 F F45 [.null, .ref a1, .ref a8, .ref a15, .ref a22, .ref a29, .ref a36, .ref a43, .int 0, .int 0, .int 0] [(a1, q2, 1000000, 0), (a8, q9, 1000000, 0), (a15, q16, 1000000, 0), (a22, q23, 1000000, 0), (a29, q30, 1000000, 0), (a36, q37, 1000000, 0), (a43, q44, 1000000, 0)] := h46
  refine g_aload_n hC dX8_init_95 rfl ?_
  refine g_iconst (v := 0) hC dX8_init_96 rfl ?_
  refine g_putC hC hcn47 fl_X8_39 rfl rfl (Nat.le_of_ble_eq_true rfl) rfl dX8_init_97 (fun F50 hcn51 hx52 => ?_)
  have hx53 : ∀ x, x ≠ t → F45 x ≠ g0 → F50 x = F45 x := fun x q _ => hx52 x q
  refine g_aload_n hC dX8_init_100 rfl ?_
  refine g_iconst (v := 0) hC dX8_init_101 rfl ?_
  refine g_putC hC hcn51 fl_X8_43 rfl rfl (Nat.le_of_ble_eq_true rfl) rfl dX8_init_102 (fun F54 hcn55 hx56 => ?_)
  have hx57 : ∀ x, x ≠ t → F50 x ≠ g0 → F54 x = F50 x := fun x q _ => hx56 x q
  refine g_aload_n hC dX8_init_105 rfl ?_
  refine g_aload_n hC dX8_init_106 rfl ?_
  refine g_putC hC hcn55 fl_X8_47 rfl rfl (Nat.le_of_ble_eq_true rfl) rfl dX8_init_107 (fun F58 hcn59 hx60 => ?_)
  have hx61 : ∀ x, x ≠ t → F54 x ≠ g0 → F58 x = F54 x := fun x q _ => hx60 x q
  have hcnK : gCn d t 8 F F58 [.ref p0, .ref a1, .ref a8, .ref a15, .ref a22, .ref a29, .ref a36, .ref a43, .int 0, .int 0, .int 0] ([(a1, q2, 1000000, 0), (a8, q9, 1000000, 0), (a15, q16, 1000000, 0), (a22, q23, 1000000, 0)] ++ [(a29, q30, 1000000, 0), (a36, q37, 1000000, 0), (a43, q44, 1000000, 0)]) := hcn59
  have hT0 := hcnK.t3
  have hS0 : gS3 F58 F58 (gT a29 a36 a43) (gT q30 q37 q44) (gT q30 q37 q44) := gS3.rf
  have hl0 : gLen.getD 0 0 = 150 := rfl
  have hl1 : gLen.getD 1 0 = 90 := rfl
  have hl2 : gLen.getD 2 0 = 132 := rfl
  have hl3 : gLen.getD 3 0 = 6 := rfl
  have hz0 : (fun _ : Nat => 0) 0 ≤ 0 := Nat.le_refl _
  have hz1 : (fun _ : Nat => 0) 1 ≤ 0 := Nat.le_refl _
  have hz2 : (fun _ : Nat => 0) 2 ≤ 0 := Nat.le_refl _
  refine h_to hC ho (a := 14) (c := 133) (by omega) (by omega) (fun ho0 => ?_)
  refine h_aload_n hC dX8_init_110 rfl ?_
  refine g_ldcS (i := 0) hC rfl dX8_init_111 ?_
  have o62 := hS0.ob hT0 hcnK.1 rfl
  refine h_callVv (As := [.ref (gSa d 0)]) hC hrm ho0 rfl o62 (s_S_know X.la d b F58 _ _ t p0 a1 a8 a15 a22 (gT a29 a36 a43) (gT q30 q37 q44) (fun _ => 16) (fun _ => 0) o62 hT0 0 (by decide) (by decide) (by omega) (by omega) (by omega) (by omega) (by omega)) cl_X8_52 rfl rfl (Nat.le_of_ble_eq_true rfl) (hFr_of (Nat.le_of_ble_eq_true rfl) (Nat.le_of_ble_eq_true rfl)) dX8_init_113 (fun u63 p64 hok63 => ?_)
  obtain ⟨q65, n66, z67, hT68, hS69, hz70, hz71, hz72, hk64, hn64⟩ := p64
  have hb0_64 := (hT68.1 0 (by decide)).2
  have hb1_64 := (hT68.1 1 (by decide)).2
  have hb2_64 := (hT68.1 2 (by decide)).2
  have hS73 := hS0.tr hS69
  have hz74 : z67 0 ≤ 150 := by omega
  have hz75 : z67 1 ≤ 150 := by omega
  have hz76 : z67 2 ≤ 150 := by omega
  refine h_aload_n hC dX8_init_116 rfl ?_
  refine g_ldcS (i := 1) hC rfl dX8_init_117 ?_
  have o77 := hS73.ob hT0 hcnK.1 rfl
  refine h_callVv (As := [.ref (gSa d 1)]) hC hrm hok63 rfl o77 (s_S_know X.la d b u63.1 _ _ t p0 a1 a8 a15 a22 (gT a29 a36 a43) q65 n66 z67 o77 hT68 1 (by decide) (by decide) (by omega) (by omega) (by omega) (by omega) (by omega)) cl_X8_52 rfl rfl (Nat.le_of_ble_eq_true rfl) (hFr_of (Nat.le_of_ble_eq_true rfl) (Nat.le_of_ble_eq_true rfl)) dX8_init_119 (fun u78 p79 hok78 => ?_)
  obtain ⟨q80, n81, z82, hT83, hS84, hz85, hz86, hz87, hk79, hn79⟩ := p79
  have hb0_79 := (hT83.1 0 (by decide)).2
  have hb1_79 := (hT83.1 1 (by decide)).2
  have hb2_79 := (hT83.1 2 (by decide)).2
  have hS88 := hS73.tr hS84
  have hz89 : z82 0 ≤ 240 := by omega
  have hz90 : z82 1 ≤ 240 := by omega
  have hz91 : z82 2 ≤ 240 := by omega
  refine h_aload_n hC dX8_init_122 rfl ?_
  refine g_ldcS (i := 2) hC rfl dX8_init_123 ?_
  have o92 := hS88.ob hT0 hcnK.1 rfl
  refine h_callVv (As := [.ref (gSa d 2)]) hC hrm hok78 rfl o92 (s_S_know X.la d b u78.1 _ _ t p0 a1 a8 a15 a22 (gT a29 a36 a43) q80 n81 z82 o92 hT83 2 (by decide) (by decide) (by omega) (by omega) (by omega) (by omega) (by omega)) cl_X8_52 rfl rfl (Nat.le_of_ble_eq_true rfl) (hFr_of (Nat.le_of_ble_eq_true rfl) (Nat.le_of_ble_eq_true rfl)) dX8_init_125 (fun u93 p94 hok93 => ?_)
  obtain ⟨q95, n96, z97, hT98, hS99, hz100, hz101, hz102, hk94, hn94⟩ := p94
  have hb0_94 := (hT98.1 0 (by decide)).2
  have hb1_94 := (hT98.1 1 (by decide)).2
  have hb2_94 := (hT98.1 2 (by decide)).2
  have hS103 := hS88.tr hS99
  have hz104 : z97 0 ≤ 372 := by omega
  have hz105 : z97 1 ≤ 372 := by omega
  have hz106 : z97 2 ≤ 372 := by omega
  refine h_aload_n hC dX8_init_128 rfl ?_
  refine g_ldcS (i := 3) hC rfl dX8_init_129 ?_
  have o107 := hS103.ob hT0 hcnK.1 rfl
  refine h_callVv (As := [.ref (gSa d 3)]) hC hrm hok93 rfl o107 (s_S_know X.la d b u93.1 _ _ t p0 a1 a8 a15 a22 (gT a29 a36 a43) q95 n96 z97 o107 hT98 3 (by decide) (by decide) (by omega) (by omega) (by omega) (by omega) (by omega)) cl_X8_52 rfl rfl (Nat.le_of_ble_eq_true rfl) (hFr_of (Nat.le_of_ble_eq_true rfl) (Nat.le_of_ble_eq_true rfl)) dX8_init_131 (fun u108 p109 hok108 => ?_)
  obtain ⟨q110, n111, z112, hT113, hS114, hz115, hz116, hz117, hk109, hn109⟩ := p109
  have hb0_109 := (hT113.1 0 (by decide)).2
  have hb1_109 := (hT113.1 1 (by decide)).2
  have hb2_109 := (hT113.1 2 (by decide)).2
  have hS118 := hS103.tr hS114
  have hz119 : z112 0 ≤ 378 := by omega
  have hz120 : z112 1 ≤ 378 := by omega
  have hz121 : z112 2 ≤ 378 := by omega
  have hcn122 := hcnK.three rfl hS118 hT113
  obtain ⟨fl, hin⟩ := hT113.in 0 (by decide)
  obtain ⟨q123, eq123⟩ : ∃ x, x = q110 0 := ⟨_, rfl⟩
  rw [← eq123] at hcn122
  obtain ⟨q124, eq124⟩ : ∃ x, x = q110 1 := ⟨_, rfl⟩
  rw [← eq124] at hcn122
  obtain ⟨q125, eq125⟩ : ∃ x, x = q110 2 := ⟨_, rfl⟩
  rw [← eq125] at hcn122
  have hcn126 : gCn d t 8 F u108.1 [.ref p0, .ref a1, .ref a8, .ref a15, .ref a22, .ref a29, .ref a36, .ref a43, .int 0, .int 0, .int 0] [(a1, q2, 1000000, 0), (a8, q9, 1000000, 0), (a15, q16, 1000000, 0), (a22, q23, 1000000, 0), (a29, q123, 1000000, 1), (a36, q124, 1000000, 1), (a43, q125, 1000000, 1)] := hcn122
  refine h_aload_n hC dX8_init_134 rfl ?_
  refine h_aload_n hC dX8_init_135 rfl ?_
  refine h_get hC fl_X8_30 hcn126.1 rfl dX8_init_136 ?_
  refine g_callVi (As := []) hC rfl hin.1 (c_Ints_size X.la d b u108.1 _ _ _ _ _ _ hin) cl_X8_62 rfl rfl (Nat.le_of_ble_eq_true rfl) (h_fit0 hC hrm hok108 (hFr_of (Nat.le_of_ble_eq_true rfl) (Nat.le_of_ble_eq_true rfl))) dX8_init_139 (fun r127 F128 p129 => ?_)
  obtain ⟨rfl, eF128⟩ := p129; have eF128 := eF128.symm; subst eF128
  refine h_same hC hok108 ?_
  obtain ⟨kn130, ekn130⟩ : ∃ x, x = z112 0 := ⟨_, rfl⟩
  rw [← ekn130]
  refine g_putC hC hcn126 fl_X8_66 rfl rfl (Nat.le_of_ble_eq_true rfl) rfl dX8_init_142 (fun F131 hcn132 hx133 => ?_)
  have hx134 : ∀ x, x ≠ t → u108.1 x ≠ g0 → F131 x = u108.1 x := fun x q _ => hx133 x q
  have hT9 : gT3 d F131 (gT a29 a36 a43) q110 n111 z112 := ⟨fun i hi => by
    obtain ⟨⟨f, g⟩, hb⟩ := hT113.1 i hi
    have et : ∀ x, x ≠ t → u108.1 x ≠ g0 → F131 x = u108.1 x := hx134
    exact ⟨⟨f, g.kept (et _ (gne g.1 hcn126.1 (gk_oo rfl)) g.na.1) (et _ (gne g.2.1 hcn126.1 gk_ao) g.na.2)⟩, hb⟩, hT113.2⟩
  exact h_vret hC hrm hok108 rfl rfl ⟨a1, q2, a8, q9, a15, q16, a22, q23, a29, q123, a36, q124, a43, q125, kn130, hcn132, q110, n111, z112, hT9, eq123.symm, eq124.symm, eq125.symm, hz119, hz120, hz121, ekn130, by show u108.2.1 ≤ _; omega, by show u108.2.2 + 96 ≤ _; omega⟩ dX8_init_145
