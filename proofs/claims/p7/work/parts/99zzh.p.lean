/-! THE CHECK: BLOCKS -/
section BK
variable {s0 : zS} {kids : Nat → List Nat} {up sz : Nat → Nat} {root N : Nat} {Qc : zS → Prop}
theorem lab_ub (h : fF s0 kids up sz [root] N) {c : Nat} (hc : c < N) : lab (za s0 25) kids c + ub (za s0 25) kids sz c ≤ sz c := by
  unfold lab ub
  split
  · rename_i k
    obtain ⟨r, kc, q1, qc, -⟩ := (h.sh c hc).pa k
    obtain ⟨P, A, ek, eP, eA⟩ := List.map_eq_append_iff.mp q1
    obtain ⟨d, rfl, ed⟩ := map1 eA
    have elk : lk kids c = d := lk_app ek
    have hkl : ∀ x ∈ kids c, x < N := fun x hx => (h.kd c hc x hx).1
    have hz : sz c = 1 + szs sz (kids c) := h.ss c hc
    have hP : P.length ≤ szs sz P := len_sum h (fun x hx => hkl x (by rw [ek]; exact List.mem_append.mpr (Or.inl hx)))
    have e1 : szs sz (kids c) = szs sz P + sz d := by
      rw [ek]
      simp only [szs, List.map_append, List.sum_append, List.map_cons, List.map_nil, List.sum_cons, List.sum_nil]
      omega
    have e2 : ((kids c).filter fun q => za s0 25 q = 42).length ≤ P.length := by
      rw [ek, List.filter_append]
      have : [d].filter (fun q => decide (za s0 25 q = 42)) = [] := by
        have hd : ¬ za s0 25 d = 42 := by rw [ed]; have := qc.2; omega
        simp [hd]
      rw [this, List.append_nil]
      exact List.length_filter_le _ _
    rw [elk]
    omega
  · omega
theorem lab_ubs (h : fF s0 kids up sz [root] N) : ∀ {l : List Nat}, (∀ c ∈ l, c < N) → szs (lab (za s0 25) kids) l + szs (ub (za s0 25) kids sz) l ≤ szs sz l
  | [], _ => Nat.le_refl _
  | a :: l, hl => by
    have h1 := lab_ub h (hl a (List.mem_cons_self ..))
    have h2 := lab_ubs h (fun c hc => hl c (List.mem_cons_of_mem _ hc))
    have e : ∀ f : Nat → Nat, szs f (a :: l) = f a + szs f l := fun f => by simp only [szs, List.map_cons, List.sum_cons]
    rw [e, e, e]
    omega
theorem cxS_b {k : Int} {n : Nat} {c : gCx} (h : k = 28 ∨ k = 36) : cxS k n c = (c.1, c.2.1, c.2.2.1, n :: c.2.2.2) := by
  rcases h with rfl | rfl <;> rfl
/-- a part's section is told -/
def lbY (s0 : zS) (up : Nat → Nat) (c : Nat) (s : zS) : Prop := za s0 25 c = 41 → za s 30 c = (up c : Int)
theorem lbY.st : stb kids (lbY s0 up) := fun c s s' D w h p hd k => by
  rw [(p.nd c (hd c (rch.rt kids c))).2.1]
  exact h k
/-- a block's end, as a task -/
theorem kL.bend {m : Nat} {s s5 : zS} {l : List cT} {a : Int} (g5 : GI s0 kids root s5) (k5 : cTk s5 ((9, 0, a) :: l)) (hl : l.length < 26000) (S5 : sSt s s5 (zv s 67).toNat [zv s 49, zv s 55, zv s 74]) (g : GI s0 kids root s) (h67 : zv s 67 + 3 ≤ 60000) (h49 : zv s 49 ≤ zv s5 49) (ha : 0 ≤ zv s5 80 + a ∧ zv s5 80 + a ≤ 2000000) (hq : ∀ s7, cTk s7 l → zSm s5 s7 [] [49, 55, 63, 67, 74, 80] → zv s7 49 = zv s 49 → zv s7 67 = zv s 67 → (∀ i : Nat, (i : Int) < zv s 67 → za s7 68 i = za s 68 i) → zv s7 55 = zv s 55 → zv s7 74 = zv s 74 → zv s7 80 = zv s5 80 + a → GI s0 kids root s7 → kL Qc m s7) : kL Qc (m + 1) s5 := by
  refine kL.step k5 hl (fun s6 f6 k6 => go_9 ?_)
  have sv := g.sv
  have e80 : zv s6 80 = zv s5 80 := f6.v 80 rfl
  refine sp_blockEnds (g5.sm f6 rfl rfl rfl rfl) (S5.sm f6 rfl rfl) (by omega) ⟨g.en.1, by rw [f6.v 49 rfl]; exact h49⟩ g.bb g.iu (by rw [e80]; exact ha) (fun s7 f7 S7 y49 y55 y74 y80 g7 => hq s7 (k6.sm f7 rfl rfl) ((zSm.rf.tr f6 rfl rfl : zSm s5 s6 [] [49, 55, 63, 67, 74, 80]).tr f7 rfl rfl) y49 ?_ (fun i hi => S7.2.2 i (by omega)) y55 y74 (by rw [y80, e80]) g7)
  rw [S7.1]
  show (((zv s 67).toNat + 0 : Nat) : Int) = _
  omega
/-- from the laid tasks of a section on: all is done, the block ends -/
theorem tC_sec (h : fF s0 kids up sz [root] N) (hN : N ≤ 2700) {n : Nat} (hr : rch kids root n) (hK : za s0 25 n = 28 ∨ za s0 25 n = 36) {ks : List Nat} (hks : ∀ c ∈ ks, c ∈ kids n) (hnd : ks.Nodup) (ty : Nat → Int) (iT : ∀ c ∈ ks, triD s0 kids up sz root N Qc (ty c) c (lbY s0 up c)) {m : Nat} {s s4 : zS} {l : List cT} (g : GI s0 kids root s) (h67 : zv s 67 + 3 ≤ 60000) {a : Int} {D0 : Nat → Prop} (hD0 : ∀ x, bel kids ks x → D0 x) (k4 : cTk s4 (ks.map (fun c : Nat => ((ty c, (c : Int), 0) : cT)) ++ (9, 0, a) :: l)) (hl : l.length < 26000) (g4 : GI s0 kids root s4) (x4 : cX s0 kids s4 ((cxF (za s0 25) up root N n).1, (cxF (za s0 25) up root N n).2.1, (cxF (za s0 25) up root N n).2.2.1, n :: (cxF (za s0 25) up root N n).2.2.2)) (b4 : cB s4 (szs sz ks) (szs (ub (za s0 25) kids sz) ks) (l.length + 1)) (y4 : ∀ c ∈ ks, lbY s0 up c s4) (S4 : sSt s s4 (zv s 67).toNat [zv s 49, zv s 55, zv s 74]) (cc4 : cC s s4 D0 0) (h79 : zv s4 79 = zv s 79) (h80 : zv s4 80 + a = zv s 80) (h80b : zv s 80 ≤ 1000000) (hq : ∀ s5 s7, cTk s7 l → cP s s7 D0 (szs sz ks) → PBc s0 kids up sz root N s4 s5 ks → zSm s5 s7 [] [49, 55, 63, 67, 74, 80] → GI s0 kids root s7 → zv s7 49 = zv s 49 → zv s7 74 = zv s 74 → kL Qc m s7) : kL Qc (m + 4 * szs sz ks + 1) s4 := by
  have hn := h.lt hr
  have sw := g.sw
  refine (seqD h hn ty lbY.st _ ks hks hnd (fun c hc => ?_) iT (m + 1) s4 _ k4 g4 x4 b4 y4 (fun s5 k5 p5 ec5 => ?_)).le (by omega)
  · rw [cxF_kid _ h hr (hks c hc)]
    exact cxS_b hK
  · have cc5 : cC s s5 D0 (szs sz ks) := cc4.tr p5.1.c (fun _ q => q) hD0 (by omega)
    have e80 := p5.1.s80
    refine kL.bend p5.2.1 k5 hl (S4.cp p5.1) g h67 (Int.le_trans cc4.e1 p5.1.e1) ⟨by omega, by omega⟩ (fun s7 k7 f7 y49 y67 ysv y55 y74 y80 g7 => ?_)
    exact hq s5 s7 k7 (cc5.fin (js := []) (zSm.rf.tr f7 rfl rfl) rfl y49 y67 ysv y55 (by rw [f7.v 79 rfl, p5.1.s79, h79]) (by rw [y80, e80]; omega)) p5 f7 g7 y49 y74
theorem tC_36 (h : fF s0 kids up sz [root] N) (hN : N ≤ 2700) {n : Nat} (hr : rch kids root n) (hK : za s0 25 n = 36) (iL : ∀ c ∈ kids n, za s0 25 c = 41 → tri s0 kids up sz root N Qc 0 13 c (fun s => za s 30 c = (up c : Int)) tt) (iD : ∀ c ∈ kids n, kD (za s0 25 c) → triD s0 kids up sz root N Qc 1 c tt) : tri s0 kids up sz root N Qc 0 2 n tt tt := by
  have hn := h.lt hr
  have hkl : ∀ c ∈ kids n, c < N := fun c hc => (h.kd n hn c hc).1
  have hzn : sz n = 1 + szs sz (kids n) := h.ss n hn
  have hlen : (kids n).length ≤ szs sz (kids n) := len_sum h hkl
  have un : ub (za s0 25) kids sz n = sz n := ub_o (by omega)
  have hlu := lab_ubs h hkl
  have hkr : kr (za s0 25) kids n = kids n := kr_eq (by rw [hK]; rfl)
  have hLD : ∀ c ∈ kids n, za s0 25 c = 41 ∨ kD (za s0 25 c) := fun c hc => (h.sh n hn).bl hK _ (List.mem_map.mpr ⟨c, hc, rfl⟩)
  refine tri.mk (by omega) h hn hY_tt (fun m s l k1 hl hp _ hq => go_2 (co_36 (by omega) (by rw [hp.1.st.a 25 n rfl]; exact hK) ?_))
  obtain ⟨g, hx, hb⟩ := hp
  obtain ⟨b1, b2, b3, b4, b5, b6, b7, b8⟩ := id hb
  rw [un] at b1
  refine sp_begin g (by omega) (fun s1 f1 S1 w55 g1 => ?_)
  have ec1 : EC s0 kids s1 (cxF (za s0 25) up root N n).2.2.2 := hx.2.2.2.2.sm f1 rfl rfl
  have v49 : zv s1 49 = zv s 49 := f1.v 49 rfl
  refine sp_labels h hN hr g1 ec1 (by omega) (fun s2 lb nb2 => ?_)
  obtain ⟨f2, g2, cc2, ec2, e2⟩ := lb
  refine sp_task ((k1.sm f1 rfl rfl).sm f2 rfl rfl) (by omega) 9 0 0 (fun s3 k3 f3 => ⟨(kids n).length + 1, ?_⟩)
  have g3 := g2.sm f3 rfl rfl rfl rfl
  -- the tasks are laid
  have L : ∀ (ks : List Nat) (c : Int) (m2 : Nat) (t : zS) (A : List cT), ks.length < m2 → fCh t c ks → (∀ d ∈ ks, d ∈ kids n) → zSm s3 t [64, 65, 66] [63] → cTk t (A ++ (9, 0, 0) :: l) → A.length + l.length + 1 + ks.length ≤ 26000 → (∀ t', cTk t' (A.reverse ++ (ks.map (fun c : Nat => (((if za s0 25 c = 41 then 13 else 1 : Int), (c : Int), 0) : cT)) ++ (9, 0, 0) :: l)) → zSm s3 t' [64, 65, 66] [63] → kL Qc (m + 4 * sz n - 0 - 1) t') → wr_commandOf_417 (fun s' => kL Qc (m + 4 * sz n - 0 - 1) s') m2 t (((9, 0, 0) :: l : List cT).length : Nat) c := by
    intro ks
    induction ks with
    | nil =>
      intro c m2 t A hm h1 _ f h2 h3 hq
      obtain ⟨m2, rfl⟩ : ∃ q, m2 = q + 1 := ⟨m2 - 1, by have : 0 < m2 := hm; omega⟩
      have h1' : c = -1 := h1
      unfold wr_commandOf_417
      unfold wr_commandOf_417B
      refine ⟨fun _ => sp_turn h2 (by rw [List.length_append]; have : ([] : List Nat).length = 0 := rfl; show A.length + (l.length + 1) ≤ 26000; omega) (fun s' g1 g2 => hq s' g1 (f.tr g2 rfl rfl)), fun e => absurd (by omega) e⟩
    | cons a ks ih =>
      intro c m2 t A hm h1 hd f h2 h3 hq
      have e4 : (a :: ks).length = ks.length + 1 := rfl
      rw [e4] at hm h3
      obtain ⟨m2, rfl⟩ : ∃ q, m2 = q + 1 := ⟨m2 - 1, by omega⟩
      have h1' : c = (a : Int) := h1.1
      have ha := hd a (List.mem_cons_self ..)
      have haN := hkl a ha
      subst h1'
      have e25 : za t 25 a = za s0 25 a := (f.a 25 a rfl).trans (g3.st.a 25 a rfl)
      have nx : ∀ (ty : Int), ty = (if za s0 25 a = 41 then 13 else 1 : Int) → wr_task t ty a 0 (fun s17 => (0 ≤ (a : Int)) ∧ ((a : Int) < 26000) ∧ wr_commandOf_417 (fun s' => kL Qc (m + 4 * sz n - 0 - 1) s') m2 s17 (((9, 0, 0) :: l : List cT).length : Nat) (za s17 28 a)) := fun ty ht => by
        refine sp_task h2 (by rw [List.length_append]; show A.length + (l.length + 1) < 26000; omega) ty a 0 (fun t2 g1 g2 => ⟨by omega, by omega, ?_⟩)
        refine ih _ m2 t2 ((ty, (a : Int), 0) :: A) (by omega) ?_ (fun d hd2 => hd d (List.mem_cons_of_mem _ hd2)) (f.tr g2 rfl rfl) g1 (by show A.length + 1 + l.length + 1 + ks.length ≤ 26000; omega) (fun s' k1 k2 => hq s' ?_ k2)
        · rw [g2.a 28 a rfl]
          exact h1.2.fr (fun x _ => g2.a 28 x rfl)
        · rw [List.reverse_cons, List.append_assoc] at k1
          rw [List.map_cons, ← ht]
          exact k1
      unfold wr_commandOf_417
      unfold wr_commandOf_417B
      rw [Int.toNat_natCast, e25]
      exact ⟨fun e => absurd e (by omega), fun _ => ⟨by omega, by omega, fun c41 => nx 1 (by rw [if_neg c41]), fun c41 => nx 13 (by rw [if_pos c41])⟩⟩
  rw [k3.2, show za s 27 n = za s0 27 n from g.st.a 27 n rfl]
  refine L (kids n) _ _ s3 [] (by omega) ((h.ch n hn).fr (fun x _ => g3.st.a 28 x rfl)) (fun d hd => hd) zSm.rf k3 (by show 0 + l.length + 1 + _ ≤ _; omega) (fun s4 k4 f4 => ?_)
  have f24 : zSm s2 s4 [64, 65, 66] [63] := f3.tr f4 rfl rfl
  have g4 := g2.sm f24 rfl rfl rfl rfl
  have F : zSm s s4 [30, 50, 51, 52, 53, 54, 57, 64, 65, 66, 68] [12, 13, 49, 55, 63, 67] := ((zSm.rf.tr f1 rfl rfl : zSm s s1 [30, 50, 51, 52, 53, 54, 57, 64, 65, 66, 68] [12, 13, 49, 55, 63, 67]).tr f2 rfl rfl).tr f24 rfl rfl
  have cc4 : cC s s4 (bel kids [n]) 0 := ((cC.sm (D := bel kids [n]) (w := 0) f1 (fm.sm f1 rfl) rfl rfl rfl).tr (D := bel kids [n]) (w := 0) cc2 (fun _ q => q) (fun x q => ⟨n, List.mem_cons_self .., (rch.rt kids n).kid q.1⟩) (by omega)).tr (cC.sm (D := bel kids [n]) (w := 0) f24 (fm.sm f24 rfl) rfl rfl rfl) (fun _ q => q) (fun _ q => q) (by omega)
  have x4 : cX s0 kids s4 ((cxF (za s0 25) up root N n).1, (cxF (za s0 25) up root N n).2.1, (cxF (za s0 25) up root N n).2.2.1, n :: (cxF (za s0 25) up root N n).2.2.2) := by
    obtain ⟨h1, h2, h3, h4, -⟩ := hx
    refine ⟨?_, fun q => ?_, ?_, ?_, ec2.sm f24 rfl rfl⟩
    · rw [F.v 79 rfl]; exact h1
    · rw [F.v 80 rfl] at q
      obtain ⟨p, p1, p2⟩ := h2 q
      exact ⟨p, List.mem_cons_of_mem _ p1, p2⟩
    · rw [F.v 77 rfl]; exact h3
    · rw [F.v 76 rfl]; exact h4
  have v67 : zv s4 67 = zv s 67 + 3 := by
    have q : sSt s s4 (zv s 67).toNat [zv s 49, zv s 55, zv s 74] := (S1.sm f2 rfl rfl).sm f24 rfl rfl
    rw [q.1]
    have := g.sv
    show (((zv s 67).toNat + 3 : Nat) : Int) = _
    omega
  have e49 : zv s4 49 = zv s1 49 + (szs (lab (za s0 25) kids) (kids n) : Nat) := by rw [f24.v 49 rfl]; exact e2
  have B4 : cB s4 (szs sz (kids n)) (szs (ub (za s0 25) kids sz) (kids n)) (l.length + 1) := by
    unfold cB
    rw [e49, v67, F.v 69 rfl, F.v 81 rfl, F.v 78 rfl, F.v 79 rfl, F.v 80 rfl]
    omega
  refine (tC_sec h hN hr (Or.inr hK) (fun c hc => hc) (h.kn n hn) (fun c => if za s0 25 c = 41 then 13 else 1) (fun c hc => ?_) g (by omega) (D0 := bel kids [n]) (fun x q => bel.upw (fun d hd => hd) q) k4 (by omega) g4 x4 B4 (fun c hc k => ?_) ((S1.sm f2 rfl rfl).sm f24 rfl rfl) cc4 (F.v 79 rfl) (by rw [F.v 80 rfl]; omega) (by omega) (fun s5 s7 k7 p7 p5 f7 g7 y49 y74 => hq s7 k7 ⟨PBc.nodeQ h hn (fun c hc => by rw [hkr]; exact hc) (fun c hc => by rw [hkr] at hc; exact hc) (p7.wk (fun _ q => q) (by omega)) (F.v 69 rfl) (F.v 82 rfl) (F.v 73 rfl) p5 (cQ.sm f7 (fm.sm f7 rfl) rfl rfl) (f7.v 69 rfl) (f7.v 82 rfl) g7 (fun _ => fac_no (by rw [hK]; rfl)), y49, y74⟩ trivial)).le (by omega)
  · try dsimp only
    by_cases c41 : za s0 25 c = 41
    · rw [if_pos c41]
      intro m2 t l2 h1 h2 h3 h4
      exact (iL c hc c41).D m2 t l2 h1 h2 (h3 c41) h4
    · rw [if_neg c41]
      intro m2 t l2 h1 h2 h3 h4
      refine iD c hc ?_ m2 t l2 h1 h2 trivial h4
      rcases hLD c hc with q | q
      · exact absurd q c41
      · exact q
  · rw [f24.a 30 c rfl, nb2 c hc k, (h.kd n hn c hc).2.1]
theorem PBc.mv {s s4 s5 s7 : zS} {ks : List Nat} (h : fF s0 kids up sz [root] N) (hks : ∀ c ∈ ks, c < N) (P : cP s s7 (bel kids ks) (szs sz ks)) (p : PBc s0 kids up sz root N s4 s5 ks) (h69 : zv s4 69 = zv s 69) (h82 : zv s4 82 = zv s 82) (h73 : zv s4 73 = zv s 73) {ks' : List Nat} (f : zSm s5 s7 [] ks') (hk : ([12, 69, 75, 81, 82].all fun k => !ks'.contains k) = true) (g : GI s0 kids root s7) : PBc s0 kids up sz root N s s7 ks := by
  have K : ∀ k, [12, 69, 75, 81, 82].contains k = true → zv s7 k = zv s5 k := fun k h1 => f.v k (by
    have := List.all_eq_true.mp hk k (by simpa using h1)
    simpa using this)
  have mm : fm s5 s7 := fun q => by rw [K 12 rfl]; exact q
  have nn : ∀ y : Nat, za s7 29 y = za s5 29 y ∧ za s7 30 y = za s5 30 y ∧ za s7 31 y = za s5 31 y := fun y => ⟨f.a 29 y rfl, f.a 30 y rfl, f.a 31 y rfl⟩
  have k69 := K 69 rfl
  have k81 := K 81 rfl
  refine ⟨P, g, fun r h1 h2 => ?_, fun z c hc => ?_, ?_⟩
  · obtain ⟨c, hc, q⟩ := p.2.2.1 r (by omega) (by omega)
    exact ⟨c, hc, q.frR h (hks c hc) mm (by omega) (by omega) (fun r _ => f.a 72 r rfl) ⟨f.a 70 r rfl, f.a 71 r rfl, f.a 72 r rfl⟩ (fun _ _ _ y _ => nn y)⟩
  · rw [K 12 rfl] at z
    rw [K 75 rfl]
    exact (p.2.2.2.1 z c hc).fr h (hks c hc) (Int.le_refl _) (by omega) (by omega) (fun r _ => f.a 72 r rfl) (fun y _ => nn y)
  · rcases p.2.2.2.2 with q | ⟨q0, c, hc, x, q1, q2, q3⟩
    · exact Or.inl (by rw [K 82 rfl, q, h82])
    · exact Or.inr ⟨by rw [← h73]; exact q0, c, hc, x, by rw [K 82 rfl]; exact q1, q2, q3⟩
end BK

