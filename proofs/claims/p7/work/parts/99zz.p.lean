/-! THE CHECK: ASSIGNMENTS, LOOPS -/
section AL
variable {s0 : zS} {kids : Nat → List Nat} {up sz : Nat → Nat} {root N : Nat} {Qc : zS → Prop}
theorem take_iff {a M : Nat} {p q l : List Nat} (e : l = p ++ a :: q) (hd : l.Nodup) : a ∈ l.take M ↔ p.length < M := by
  subst e
  rw [List.nodup_append] at hd
  constructor
  · intro hm
    by_cases c : p.length < M
    · exact c
    · rw [List.take_append_of_le_length (by omega)] at hm
      exact absurd rfl (hd.2.2 a (List.mem_of_mem_take hm) a (List.mem_cons_self ..))
  · intro c
    rw [List.take_append, show M - p.length = (M - p.length - 1) + 1 by omega, List.take_succ_cons]
    exact List.mem_append.mpr (Or.inr (List.mem_cons_self ..))
theorem gt_app {a : Nat} {p q : List Nat} : gt (p ++ a :: q) p.length = a := by
  rw [gt_e (by rw [List.length_append]; show p.length < p.length + (q.length + 1); omega), List.getElem_append_right (Nat.le_refl _)]
  simp
theorem tC_20 (h : fF s0 kids up sz [root] N) (hN : N ≤ 2700) (hA : fA s0 kids N) {n : Nat} (hr : rch kids root n) (hK : za s0 25 n = 20) (iE : ∀ c ∈ kids n, kE (za s0 25 c) → tri s0 kids up sz root N Qc 1 3 c tt tt) : tri s0 kids up sz root N Qc 0 2 n tt tt := by
  have hn := h.lt hr
  obtain ⟨M, hM, hM1, hM2, -⟩ := hA n hn hK
  obtain ⟨-, -, -, hEs⟩ := (h.sh n hn).as hK
  have hcE : ∀ c ∈ kids n, kE (za s0 25 c) := fun c hc => hEs _ (List.mem_map.mpr ⟨c, hc, rfl⟩)
  have hkl : ∀ c ∈ kids n, c < N := fun c hc => (h.kd n hn c hc).1
  have hzs : sz n = 1 + szs sz (kids n) := h.ss n hn
  have hlen : (kids n).length ≤ szs sz (kids n) := len_sum h hkl
  have hkr : kr (za s0 25) kids n = kids n := kr_eq (by rw [hK]; rfl)
  have hcx : ∀ c ∈ kids n, cxF (za s0 25) up root N c = cxF (za s0 25) up root N n := fun c hc => by
    rw [cxF_kid _ h hr hc]
    exact cxS_o (by rw [hK]; rfl)
  have sX : stb kids (fun c s => c ∈ (kids n).take M → lfX s0 c s) := fun c s s' D w h1 h2 h3 hm => lfX.st c s s' D w (h1 hm) h2 h3
  refine tri.mk (by omega) h hn hY_tt (fun m s l k1 hl hp _ hq => go_2 ?_)
  obtain ⟨g, hx, hb⟩ := hp
  have e29 : za s 29 n = M := by rw [g.sa n (by omega) (by omega) (by omega) (by omega)]; exact hM
  have co20 : ∀ {Q : zS → Prop}, (∃ m2, wr_commandOf_32 Q m2 s n (zv s 63) 0 (za s 27 n)) → wr_commandOf s n Q := fun hq => by
    unfold wr_commandOf
    rw [Int.toNat_natCast, show za s 25 n = 20 from (g.st.a 25 n rfl).trans hK]
    repeat' (first | (with_reducible exact hq) | (with_reducible apply And.intro) | omega | (intro c; exact absurd c (by decide)) | (intro c; exact absurd rfl c) | (with_reducible intro _) | fail)
  have L : ∀ (ks : List Nat) (c : Int) (m2 : Nat) (s1 : zS) (A : List cT) (p : List Nat), ks.length < m2 → fCh s1 c ks → kids n = p ++ ks → zSm s s1 [64, 65, 66] [63] → cTk s1 (A ++ l) → A.length + l.length + ks.length ≤ 26000 → (∀ s', cTk s' (A.reverse ++ (ks.map (fun c : Nat => (((if c ∈ (kids n).take M then 4 else 3 : Int), (c : Int), 0) : cT)) ++ l)) → zSm s s' [64, 65, 66] [63] → kL Qc (m + 4 * sz n - 0 - 1) s') → wr_commandOf_32 (fun s' => kL Qc (m + 4 * sz n - 0 - 1) s') m2 s1 n (l.length : Nat) (p.length : Nat) c := by
    intro ks
    induction ks with
    | nil =>
      intro c m2 s1 A p hm h1 _ f h2 h3 hq
      obtain ⟨m2, rfl⟩ : ∃ q, m2 = q + 1 := ⟨m2 - 1, by have : 0 < m2 := hm; omega⟩
      have h1' : c = -1 := h1
      unfold wr_commandOf_32
      unfold wr_commandOf_32B
      refine ⟨fun _ => sp_turn h2 (by rw [List.length_append]; have : ([] : List Nat).length = 0 := rfl; omega) (fun s' g1 g2 => hq s' g1 (f.tr g2 rfl rfl)), fun e => absurd (by omega) e⟩
    | cons a ks ih =>
      intro c m2 s1 A p hm h1 hk f h2 h3 hq
      have e4 : (a :: ks).length = ks.length + 1 := rfl
      rw [e4] at hm h3
      obtain ⟨m2, rfl⟩ : ∃ q, m2 = q + 1 := ⟨m2 - 1, by omega⟩
      have h1' : c = (a : Int) := h1.1
      have ha := hkl a (by rw [hk]; exact List.mem_append.mpr (Or.inr (List.mem_cons_self ..)))
      have hpl : p.length ≤ (kids n).length := by rw [hk, List.length_append]; omega
      have hti := take_iff (M := M) hk (h.kn n hn)
      have o29 : za s1 29 n = M := by rw [f.a 29 n rfl]; exact e29
      subst h1'
      have nx : ∀ (t : Int), t = (if a ∈ (kids n).take M then 4 else 3 : Int) → wr_task s1 t a 0 (fun s17 => (0 ≤ (a : Int)) ∧ ((a : Int) < 26000) ∧ (zR ((p.length : Int) + 1)) ∧ wr_commandOf_32 (fun s' => kL Qc (m + 4 * sz n - 0 - 1) s') m2 s17 n (l.length : Nat) ((p.length : Int) + 1) (za s17 28 (Int.toNat a))) := fun t ht => by
        refine sp_task h2 (by rw [List.length_append]; omega) t a 0 (fun s2 g1 g2 => ⟨by omega, by omega, ⟨by omega, by omega⟩, ?_⟩)
        rw [Int.toNat_natCast, show ((p.length : Int) + 1) = (((p ++ [a]).length : Nat) : Int) by rw [List.length_append]; show _ = ((p.length + 1 : Nat) : Int); omega]
        refine ih _ m2 s2 ((t, (a : Int), 0) :: A) (p ++ [a]) (by omega) ?_ (by rw [hk, List.append_assoc]; rfl) (f.tr g2 rfl rfl) g1 (by show A.length + 1 + l.length + ks.length ≤ 26000; omega) (fun s' k1 k2 => hq s' ?_ k2)
        · rw [g2.a 28 a rfl]
          exact h1.2.fr (fun x _ => g2.a 28 x rfl)
        · rw [List.reverse_cons, List.append_assoc] at k1
          rw [List.map_cons, ← ht]
          exact k1
      unfold wr_commandOf_32
      unfold wr_commandOf_32B
      rw [Int.toNat_natCast, o29]
      exact ⟨fun e => absurd e (by omega), fun _ => ⟨by omega, by omega, fun c => nx 3 (by rw [if_neg (fun q => by have := hti.mp q; omega)]), fun c => nx 4 (by rw [if_pos (hti.mpr (by omega))])⟩⟩
  refine co20 ⟨(kids n).length + 1, ?_⟩
  rw [k1.2]
  refine L (kids n) _ _ s [] [] (by omega) ?_ rfl zSm.rf k1 (by show 0 + _ + _ ≤ _; omega) (fun s2 k2 f2 => ?_)
  · rw [g.st.a 27 n rfl]
    exact (h.ch n hn).fr (fun x _ => g.st.a 28 x rfl)
  · have p2 : cP s s2 (fun x => x = n) 0 := cP.sm f2 (fm.sm f2 rfl) rfl rfl rfl
    have x2 : cX s0 kids s2 (cxF (za s0 25) up root N n) := hx.fr p2 (f2.v 49 rfl)
    refine (seqT h hn (fun c => if c ∈ (kids n).take M then 4 else 3) (κ := fun c => if c ∈ (kids n).take M then 0 else 1) (Y := fun _ => tt) (X := fun c s => c ∈ (kids n).take M → lfX s0 c s) stb_tt sX (kids n) (fun c hc => hc) (h.kn n hn) (fun c hc => ?_) m s2 l k2 (g.sm f2 rfl rfl rfl rfl) (fun c hc => by rw [hcx c hc]; exact x2) (hb.fs p2 (by omega) (f2.v 49 rfl) (by rw [ub_o (n := n) (by omega)]; omega)) (fun _ _ => trivial) (fun s3 k3 p3 x3 => hq s3 k3 ⟨PBc.node h hn (fun c hc => by rw [hkr]; exact hc) (fun c hc => by rw [hkr] at hc; exact hc) 0 0 (by omega) p2 (f2.v 69 rfl) (f2.v 82 rfl) p3.1 cP.rf rfl rfl p3.1.2.1 (fun z => fac_20 hK (fun i hi hil => ?_)), by rw [p3.2.1, f2.v 49 rfl], by rw [p3.2.2, f2.v 74 rfl]⟩ trivial)).le (by omega)
    · try dsimp only
      split
      · rename_i hm
        exact (tP h hN (hr.kid hc) (hcE c hc) (iE c hc (hcE c hc)) 4 (Or.inl rfl)).wk (fun s q _ => q)
      · rename_i hm
        exact (iE c hc (hcE c hc)).wk (fun s _ q => absurd q hm)
    · rw [hM] at hi
      refine x3 _ (gt_m hil) ?_ z
      rw [gt_e hil, List.mem_take_iff_getElem]
      exact ⟨i, by omega, rfl⟩
theorem cX.lp {s : zS} {c : gCx} (h : cX s0 kids s c) : cX s0 kids s (c.1, true, c.2.2.1, c.2.2.2) := ⟨fun _ => rfl, h.2⟩
theorem cX.l79 {s s' : zS} {c : gCx} (h : cX s0 kids s c) (f : zSm s s' [64, 65, 66] [63, 79]) (hc : c.2.1 = true) : cX s0 kids s' c := by
  obtain ⟨h1, h2, h3, h4, h5⟩ := h
  refine ⟨fun _ => hc, ?_, ?_, ?_, fun e he => ?_⟩
  · rw [f.v 80 rfl]; exact h2
  · rw [f.v 77 rfl]; exact h3
  · rw [f.v 76 rfl]; exact h4
  · rw [f.v 49 rfl] at he
    rw [f.a 51 e rfl, f.a 52 e rfl, f.a 53 e rfl, f.a 54 e rfl, f.v 73 rfl, f.v 75 rfl, f.v 77 rfl]
    exact h5 e he
theorem cxS_l {k : Int} {n : Nat} {c : gCx} (h : k = 25 ∨ k = 26 ∨ k = 27 ∨ k = 38 ∨ k = 39 ∨ k = 40) : cxS k n c = (c.1, true, c.2.2.1, c.2.2.2) := by
  rcases h with rfl | rfl | rfl | rfl | rfl | rfl <;> rfl
theorem szs2 {a b : Nat} : szs sz [a, b] = sz a + sz b := by simp only [szs, List.map_cons, List.map_nil, List.sum_cons, List.sum_nil]; omega
theorem szs1 {a : Nat} : szs sz [a] = sz a := by simp only [szs, List.map_cons, List.map_nil, List.sum_cons, List.sum_nil]; omega
theorem cB.l79 {s s' : zS} {w u t w2 u2 t2 : Nat} (h : cB s w u t) (f : zSm s s' [64, 65, 66] [63, 79]) (h79 : zv s' 79 + w2 ≤ zv s 79 + w) (hw : w2 ≤ w) (hu : u2 ≤ u) (ht : t2 + 2 * w2 ≤ t + 2 * w) : cB s' w2 u2 t2 := by
  obtain ⟨h1, h2, h3, h4, h5, h6, h7, h8⟩ := h
  unfold cB
  rw [f.v 49 rfl, f.v 67 rfl, f.v 69 rfl, f.v 81 rfl, f.v 78 rfl, f.v 80 rfl]
  omega
theorem tC_wh (h : fF s0 kids up sz [root] N) (hN : N ≤ 2700) {n : Nat} (hr : rch kids root n) (hK : za s0 25 n = 25 ∨ za s0 25 n = 26) (iE : ∀ c ∈ kids n, kE (za s0 25 c) → tri s0 kids up sz root N Qc 1 3 c tt tt) (iC : ∀ c ∈ kids n, kC (za s0 25 c) → tri s0 kids up sz root N Qc 0 2 c tt tt) : tri s0 kids up sz root N Qc 0 2 n tt tt := by
  have hn := h.lt hr
  obtain ⟨ka, kb, q1, qa, qb⟩ := (h.sh n hn).ec (by omega)
  obtain ⟨a, b, ek, ea, eb⟩ := map2 q1
  have ch := h.ch n hn
  rw [ek] at ch
  have ma : a ∈ kids n := by rw [ek]; exact List.mem_cons_self ..
  have mb : b ∈ kids n := by rw [ek]; exact List.mem_cons_of_mem _ (List.mem_cons_self ..)
  have haN := (h.kd n hn a ma).1
  have hbN := (h.kd n hn b mb).1
  have hE : kE (za s0 25 a) := by rw [ea]; exact qa
  have hC : kC (za s0 25 b) := by rw [eb]; exact qb
  have hz : sz n = 1 + szs sz (kids n) := h.ss n hn
  rw [ek, szs2] at hz
  have za1 : 1 ≤ sz a := by have := h.ss a haN; omega
  have zb1 : 1 ≤ sz b := by have := h.ss b hbN; omega
  have ua := ub_le h haN
  have uc := ub_le h hbN
  have un : ub (za s0 25) kids sz n = sz n := ub_o (by omega)
  have nd := h.kn n hn
  rw [ek, List.nodup_cons] at nd
  have hkr : kr (za s0 25) kids n = [a, b] := by rw [kr_eq (by rcases hK with q | q <;> rw [q] <;> rfl), ek]
  have hcx : ∀ c ∈ kids n, cxF (za s0 25) up root N c = ((cxF (za s0 25) up root N n).1, true, (cxF (za s0 25) up root N n).2.2.1, (cxF (za s0 25) up root N n).2.2.2) := fun c hc => by
    rw [cxF_kid _ h hr hc]
    exact cxS_l (by omega)
  refine tri.mk (by omega) h hn hY_tt (fun m s l k1 hl hp _ hq => go_2 ?_)
  obtain ⟨g, hx, hb⟩ := hp
  have h27 : za s 27 n = (a : Int) := by rw [g.st.a 27 n rfl]; exact ch.1
  have h28 : za s 28 a = (b : Int) := by rw [g.st.a 28 a rfl]; exact ch.2.1
  have h25 : za s 25 n = za s0 25 n := g.st.a 25 n rfl
  have go : wr_commandOf_191 (fun s' => kL Qc (m + 4 * sz n - 0 - 1) s') s a := by
    unfold wr_commandOf_191
    rw [Int.toNat_natCast]
    refine sp_task k1 (by omega) 10 0 (-1) (fun s2 k2 f2 => ⟨by omega, by omega, ?_⟩)
    rw [f2.a 28 a rfl, h28]
    refine sp_task k2 (by show l.length + 1 < 26000; omega) 2 b 0 (fun s3 k3 f3 => sp_task k3 (by show l.length + 1 + 1 < 26000; omega) 10 0 1 (fun s4 k4 f4 => sp_task k4 (by show l.length + 1 + 1 + 1 < 26000; omega) 3 a 0 (fun s5 k5 f5 => ?_)))
    have f : zSm s s5 [64, 65, 66] [63] := ((f2.tr f3 rfl rfl : zSm s s3 [64, 65, 66] [63]).tr f4 rfl rfl : zSm s s4 [64, 65, 66] [63]).tr f5 rfl rfl
    have p5 : cP s s5 (fun x => x = n) 0 := cP.sm f (fm.sm f rfl) rfl rfl rfl
    have x5 : cX s0 kids s5 ((cxF (za s0 25) up root N n).1, true, (cxF (za s0 25) up root N n).2.2.1, (cxF (za s0 25) up root N n).2.2.2) := (hx.fr p5 (f.v 49 rfl)).lp
    have b5 : cB s5 (sz n) (sz n) l.length := hb.fs p5 (by omega) (f.v 49 rfl) (by omega)
    have g5 := g.sm f rfl rfl rfl rfl
    refine (iE a ma hE (m + 4 * sz b + 2) s5 _ k5 ⟨g5, by rw [hcx a ma]; exact x5, b5.le (by omega) (by omega) (by show l.length + 1 + 1 + 1 + _ ≤ _; omega)⟩ trivial (fun s6 k6 p6 _ => ?_)).le (by omega)
    have g6 := p6.1.2.1
    have lo6 := g6.lo
    have b6 : cB s6 (1 + sz b) (sz n) l.length := b5.fs p6.1.1 (by rw [szs1]; omega) p6.2.1 (Nat.le_refl _)
    have l6 := b6.2.2.2.2.2.1
    refine kL.le (kL.loops k6 (by show l.length + 1 + 1 < 26000; omega) ⟨by omega, by omega⟩ (m := m + 4 * sz b + 1) (fun s7 f7 e7 k7 => ?_)) (by omega)
    have f7' : zSm s6 s7 [64, 65, 66] [63, 79] := zSm.rf.tr f7 rfl rfl
    have g7 := g6.s79 f7' (by omega)
    refine (iC b mb hC (m + 1) s7 _ k7 ⟨g7, by rw [hcx b mb]; exact (x5.fr p6.1.1 p6.2.1).l79 f7' rfl, b6.l79 f7' (by omega) (by omega) (by omega) (by show l.length + 1 + _ ≤ _; omega)⟩ trivial (fun s8 k8 p8 _ => ?_)).le (by omega)
    have e8 := p8.1.1.s79
    refine kL.loops k8 (by omega) ⟨by omega, by omega⟩ (fun s9 f9 e9 k9 => ?_)
    have p69 : PB s0 kids up sz root N s6 s9 [b] := p8.lo h (fun c hc => by rw [List.mem_singleton.mp hc]; exact hbN) f7' f9 (by omega) lo6
    have p59 := p6.cons h hn ma (fun d hd => by rw [List.mem_singleton.mp hd]; exact mb) nd.1 p69
    exact hq s9 k9 ⟨PBc.node h hn (fun d hd => by rw [hkr]; exact hd) (fun d hd => by rw [hkr] at hd; exact hd) 0 0 (by rw [szs2]; omega) p5 (f.v 69 rfl) (f.v 82 rfl) p59.1 cP.rf rfl rfl p59.1.2.1 (fun _ => fac_no (by rcases hK with q | q <;> rw [q] <;> rfl)), by rw [p59.2.1, f.v 49 rfl], by rw [p59.2.2, f.v 74 rfl]⟩ trivial
  rcases hK with q | q
  · exact co_25 (c := a) (by omega) (by rw [h25]; exact q) h27 (by omega) go
  · exact co_26 (c := a) (by omega) (by rw [h25]; exact q) h27 (by omega) go
theorem tC_38 (h : fF s0 kids up sz [root] N) (hN : N ≤ 2700) {n : Nat} (hr : rch kids root n) (hK : za s0 25 n = 38) (iC : ∀ c ∈ kids n, kC (za s0 25 c) → tri s0 kids up sz root N Qc 0 2 c tt tt) : tri s0 kids up sz root N Qc 0 2 n tt tt := by
  have hn := h.lt hr
  obtain ⟨ka, q1, qa⟩ := (h.sh n hn).rp hK
  obtain ⟨a, ek, ea⟩ := map1 q1
  have ch := h.ch n hn
  rw [ek] at ch
  have ma : a ∈ kids n := by rw [ek]; exact List.mem_cons_self ..
  have haN := (h.kd n hn a ma).1
  have hC : kC (za s0 25 a) := by rw [ea]; exact qa
  have hz : sz n = 1 + szs sz (kids n) := h.ss n hn
  rw [ek, szs1] at hz
  have za1 : 1 ≤ sz a := by have := h.ss a haN; omega
  have ua := ub_le h haN
  have un : ub (za s0 25) kids sz n = sz n := ub_o (by omega)
  have hkr : kr (za s0 25) kids n = [a] := by rw [kr_eq (by rw [hK]; rfl), ek]
  have hcx : cxF (za s0 25) up root N a = ((cxF (za s0 25) up root N n).1, true, (cxF (za s0 25) up root N n).2.2.1, (cxF (za s0 25) up root N n).2.2.2) := by
    rw [cxF_kid _ h hr ma]
    exact cxS_l (by omega)
  refine tri.mk (by omega) h hn hY_tt (fun m s l k1 hl hp _ hq => go_2 (co_38 (c := a) (by omega) (by rw [hp.1.st.a 25 n rfl]; exact hK) (by rw [hp.1.st.a 27 n rfl]; exact ch.1) (by omega) ?_))
  obtain ⟨g, hx, hb⟩ := hp
  have lo := g.lo
  have l6 := hb.2.2.2.2.2.1
  refine sp_task k1 (by omega) 10 0 (-1) (fun s2 k2 f2 => sp_task k2 (by show l.length + 1 < 26000; omega) 2 a 0 (fun s3 k3 f3 => ?_))
  have f : zSm s s3 [64, 65, 66] [63] := f2.tr f3 rfl rfl
  have e79 : zv s3 79 = zv s 79 := f.v 79 rfl
  refine ⟨⟨by omega, by omega⟩, ?_⟩
  have f4 : zSm s (zpv s3 79 (zv s3 79 + 1)) [64, 65, 66] [63, 79] := (zSm.rf.tr f rfl rfl : zSm s s3 [64, 65, 66] [63, 79]).pv rfl
  have e4 : zv (zpv s3 79 (zv s3 79 + 1)) 79 = zv s 79 + 1 := by rw [zv_pv, if_pos rfl]; omega
  have k4 : cTk (zpv s3 79 (zv s3 79 + 1)) ((2, (a : Int), 0) :: (10, 0, -1) :: l) := k3.sm (js := []) (ks := [79]) (zSm.rf.pv rfl) rfl rfl
  generalize zpv s3 79 (zv s3 79 + 1) = s4 at f4 e4 k4
  refine (iC a ma hC (m + 1) s4 _ k4 ⟨g.s79 f4 (by omega), by rw [hcx]; exact hx.lp.l79 f4 rfl, hb.l79 f4 (by omega) (by omega) (by omega) (by show l.length + 1 + _ ≤ _; omega)⟩ trivial (fun s5 k5 p5 _ => ?_)).le (by omega)
  have e5 := p5.1.1.s79
  refine kL.loops k5 (by omega) ⟨by omega, by omega⟩ (fun s6 f6 e6 k6 => ?_)
  have p6 : PB s0 kids up sz root N s s6 [a] := p5.lo h (fun c hc => by rw [List.mem_singleton.mp hc]; exact haN) f4 f6 (by omega) lo
  exact hq s6 k6 ⟨PBc.node h hn (fun d hd => by rw [hkr]; exact hd) (fun d hd => by rw [hkr] at hd; exact hd) 0 0 (by rw [szs1]; omega) cP.rf rfl rfl p6.1 cP.rf rfl rfl p6.1.2.1 (fun _ => fac_no (by rw [hK]; rfl)), p6.2.1, p6.2.2⟩ trivial
theorem tC_rw (h : fF s0 kids up sz [root] N) (hN : N ≤ 2700) {n : Nat} (hr : rch kids root n) (hK : za s0 25 n = 39 ∨ za s0 25 n = 40) (iE : ∀ c ∈ kids n, kE (za s0 25 c) → tri s0 kids up sz root N Qc 1 3 c tt tt) (iC : ∀ c ∈ kids n, kC (za s0 25 c) → tri s0 kids up sz root N Qc 0 2 c tt tt) : tri s0 kids up sz root N Qc 0 2 n tt tt := by
  have hn := h.lt hr
  obtain ⟨ka, kb, q1, qa, qb⟩ := (h.sh n hn).ce hK
  obtain ⟨a, b, ek, ea, eb⟩ := map2 q1
  have ch := h.ch n hn
  rw [ek] at ch
  have ma : a ∈ kids n := by rw [ek]; exact List.mem_cons_self ..
  have mb : b ∈ kids n := by rw [ek]; exact List.mem_cons_of_mem _ (List.mem_cons_self ..)
  have haN := (h.kd n hn a ma).1
  have hbN := (h.kd n hn b mb).1
  have hC : kC (za s0 25 a) := by rw [ea]; exact qa
  have hE : kE (za s0 25 b) := by rw [eb]; exact qb
  have hz : sz n = 1 + szs sz (kids n) := h.ss n hn
  rw [ek, szs2] at hz
  have za1 : 1 ≤ sz a := by have := h.ss a haN; omega
  have zb1 : 1 ≤ sz b := by have := h.ss b hbN; omega
  have ua := ub_le h haN
  have uc := ub_le h hbN
  have un : ub (za s0 25) kids sz n = sz n := ub_o (by omega)
  have nd := h.kn n hn
  rw [ek, List.nodup_cons] at nd
  have hkr : kr (za s0 25) kids n = [a, b] := by rw [kr_eq (by rcases hK with q | q <;> rw [q] <;> rfl), ek]
  have hcx : ∀ c ∈ kids n, cxF (za s0 25) up root N c = ((cxF (za s0 25) up root N n).1, true, (cxF (za s0 25) up root N n).2.2.1, (cxF (za s0 25) up root N n).2.2.2) := fun c hc => by
    rw [cxF_kid _ h hr hc]
    exact cxS_l (by omega)
  refine tri.mk (by omega) h hn hY_tt (fun m s l k1 hl hp _ hq => go_2 ?_)
  obtain ⟨g, hx, hb⟩ := hp
  have h27 : za s 27 n = (a : Int) := by rw [g.st.a 27 n rfl]; exact ch.1
  have h28 : za s 28 a = (b : Int) := by rw [g.st.a 28 a rfl]; exact ch.2.1
  have h25 : za s 25 n = za s0 25 n := g.st.a 25 n rfl
  have lo := g.lo
  have l6 := hb.2.2.2.2.2.1
  have go : wr_commandOf_275 (fun s' => kL Qc (m + 4 * sz n - 0 - 1) s') s a := by
    unfold wr_commandOf_275
    rw [Int.toNat_natCast, h28]
    refine ⟨by omega, by omega, sp_task k1 (by omega) 3 b 0 (fun s2 k2 f2 => sp_task k2 (by show l.length + 1 < 26000; omega) 10 0 (-1) (fun s3 k3 f3 => sp_task k3 (by show l.length + 1 + 1 < 26000; omega) 2 a 0 (fun s4 k4 f4 => ?_)))⟩
    have f : zSm s s4 [64, 65, 66] [63] := (f2.tr f3 rfl rfl : zSm s s3 [64, 65, 66] [63]).tr f4 rfl rfl
    have e79 : zv s4 79 = zv s 79 := f.v 79 rfl
    refine ⟨⟨by omega, by omega⟩, ?_⟩
    have f5 : zSm s (zpv s4 79 (zv s4 79 + 1)) [64, 65, 66] [63, 79] := (zSm.rf.tr f rfl rfl : zSm s s4 [64, 65, 66] [63, 79]).pv rfl
    have e5 : zv (zpv s4 79 (zv s4 79 + 1)) 79 = zv s 79 + 1 := by rw [zv_pv, if_pos rfl]; omega
    have k5 : cTk (zpv s4 79 (zv s4 79 + 1)) ((2, (a : Int), 0) :: (10, 0, -1) :: (3, (b : Int), 0) :: l) := k4.sm (js := []) (ks := [79]) (zSm.rf.pv rfl) rfl rfl
    generalize zpv s4 79 (zv s4 79 + 1) = s5 at f5 e5 k5
    refine (iC a ma hC (m + 4 * sz b + 1) s5 _ k5 ⟨g.s79 f5 (by omega), by rw [hcx a ma]; exact hx.lp.l79 f5 rfl, hb.l79 f5 (by omega) (by omega) (by omega) (by show l.length + 1 + 1 + _ ≤ _; omega)⟩ trivial (fun s6 k6 p6 _ => ?_)).le (by omega)
    have e6 := p6.1.1.s79
    refine kL.loops k6 (by show l.length + 1 < 26000; omega) ⟨by omega, by omega⟩ (fun s7 f7 e7 k7 => ?_)
    have p7 : PB s0 kids up sz root N s s7 [a] := p6.lo h (fun c hc => by rw [List.mem_singleton.mp hc]; exact haN) f5 f7 (by omega) lo
    have x7 : cX s0 kids s7 (cxF (za s0 25) up root N b) := by
      rw [hcx b mb]
      exact hx.lp.fr p7.1.1 p7.2.1
    refine (iE b mb hE m s7 _ k7 ⟨p7.1.2.1, x7, hb.fs p7.1.1 (by rw [szs1]; omega) p7.2.1 (by omega)⟩ trivial (fun s8 k8 p8 _ => ?_)).le (by omega)
    have p9 := p7.cons h hn ma (fun d hd => by rw [List.mem_singleton.mp hd]; exact mb) nd.1 p8
    exact hq s8 k8 ⟨PBc.node h hn (fun d hd => by rw [hkr]; exact hd) (fun d hd => by rw [hkr] at hd; exact hd) 0 0 (by rw [szs2]; omega) cP.rf rfl rfl p9.1 cP.rf rfl rfl p9.1.2.1 (fun _ => fac_no (by rcases hK with q | q <;> rw [q] <;> rfl)), p9.2.1, p9.2.2⟩ trivial
  rcases hK with q | q
  · exact co_39 (c := a) (by omega) (by rw [h25]; exact q) h27 (by omega) go
  · exact co_40 (c := a) (by omega) (by rw [h25]; exact q) h27 (by omega) go
end AL

