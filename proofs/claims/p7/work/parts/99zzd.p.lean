/-! THE CHECK: ROUTINES ARE DECLARED -/
section RD
variable {s0 : zS} {kids : Nat → List Nat} {up sz : Nat → Nat} {root N : Nat} {Qc : zS → Prop}
/-- a routine waits: its word is a global, or one of its own -/
def roY (n : Nat) (s : zS) : Prop := za s 30 n ≤ 0 ∨ ∃ e : Nat, za s 30 n = 1 + e ∧ (e : Int) < zv s 49 ∧ za s 51 e = 1
theorem roY.st : stb kids roY := fun c s s' D w h p hd => by
  unfold roY
  rw [(p.nd c (hd c (rch.rt kids c))).2.1]
  rcases h with q | ⟨e, q1, q2, q3⟩
  · exact Or.inl q
  · exact Or.inr ⟨e, q1, Int.lt_of_lt_of_le q2 p.e1, by rw [(p.er e q2).2.1]; exact q3⟩
/-- routines declared up to here -/
def rdS (s0 : zS) (kids : Nat → List Nat) (root n : Nat) (S : List Nat) (s s' : zS) (P : List Nat) : Prop := zSm s s' [30, 50, 51, 52, 53, 54, 57] [12, 13, 49, 82] ∧ GI s0 kids root s' ∧ cC s s' (bel kids [n]) 0 ∧ EC s0 kids s' S ∧ zv s' 49 ≤ zv s 49 + P.length ∧ (∀ c ∈ P, roY c s') ∧ (zv s' 82 = zv s 82 ∨ zv s 73 < 0 ∧ ∃ c ∈ kids n, zv s' 82 = (c : Int))
/-- one more -/
theorem rdS.st (h : fF s0 kids up sz [root] N) {n : Nat} (hn : n < N) {S : List Nat} {s s1 s2 : zS} {P : List Nat} {a : Nat} (ha : a ∈ kids n) (hl : rdS s0 kids root n S s s1 P) (f : zSm s1 s2 [30, 50, 51, 52, 53, 54, 57] [12, 13, 49]) (g2 : GI s0 kids root s2) (c2 : cC s1 s2 (fun x => x = a) 0) (ec : EC s0 kids s2 S) (h49 : zv s2 49 ≤ zv s1 49 + 1) (hy : roY a s2) : rdS s0 kids root n S s s2 (P ++ [a]) := by
  obtain ⟨f1, g1, cc, ec1, e1, y1, t1⟩ := hl
  refine ⟨f1.tr f rfl rfl, g2, cc.tr c2 (fun _ q => q) (fun x e => ⟨n, List.mem_cons_self .., by rw [e]; exact (rch.rt kids n).kid ha⟩) (by omega), ec, ?_, fun c hc => ?_, ?_⟩
  · rw [List.length_append]
    show zv s2 49 ≤ zv s 49 + ((P.length + 1 : Nat) : Int)
    omega
  · by_cases e : c = a
    · rw [e]; exact hy
    · rcases List.mem_append.mp hc with hc | hc
      · rcases y1 c hc with q | ⟨e2, q1, q2, q3⟩
        · exact Or.inl (by rw [(c2.nd c e).2.1]; exact q)
        · exact Or.inr ⟨e2, by rw [(c2.nd c e).2.1]; exact q1, Int.lt_of_lt_of_le q2 c2.e1, by rw [(c2.er e2 q2).2.1]; exact q3⟩
      · exact absurd (List.mem_singleton.mp hc) e
  · rw [f.v 82 rfl]
    exact t1
theorem sum_len {s : zS} {W : List Nat} (h : fF s kids up sz W N) : ∀ {l : List Nat} {c : Nat}, c ∈ l → (∀ x ∈ l, x < N) → sz c + l.length ≤ szs sz l + 1
  | a :: l, c, hc, hl => by
    have e : szs sz (a :: l) = sz a + szs sz l := by simp only [szs, List.map_cons, List.sum_cons]
    have e2 : (a :: l).length = l.length + 1 := rfl
    have ha := h.ss a (hl a (List.mem_cons_self ..))
    have hl2 : l.length ≤ szs sz l := len_sum h (fun x hx => hl x (List.mem_cons_of_mem _ hx))
    rcases List.mem_cons.mp hc with rfl | hc
    · omega
    · have := sum_len h hc (fun x hx => hl x (List.mem_cons_of_mem _ hx))
      omega
theorem sp_letR (h : fF s0 kids up sz [root] N) (hN : N ≤ 2700) {n : Nat} (hr : rch kids root n) (hwr : ∀ c ∈ kids n, wrs (za s0 25) kids root c) (h54 : ∀ c ∈ kids n, za s0 25 c = 54) {s : zS} {S : List Nat} (g : GI s0 kids root s) (ec : EC s0 kids s S) {l : List cT} (k1 : cTk s l) (hl : l.length + (kids n).length ≤ 26000) (hB : zv s 49 + (kids n).length ≤ 9000) {Q : zS → Prop} (hq : ∀ s1 s', rdS s0 kids root n S s s1 (kids n) → zSm s1 s' [64, 65, 66] [63] → cTk s' ((kids n).map (fun c : Nat => ((6, (c : Int), 0) : cT)) ++ l) → Q s') : wr_letRoutines s n Q := by
  have hn := h.lt hr
  have hkl : ∀ c ∈ kids n, c < N := fun c hc => (h.kd n hn c hc).1
  have stp : ∀ (k20 : zS → Int → Int → Int → Prop) (s1 : zS) (x2 x4 : Int) (P : List Nat) (a : Nat), a ∈ kids n → rdS s0 kids root n S s s1 P → zv s 49 + P.length < 9000 → (¬ x2 = 0 → zv s 73 < 0) → (∀ s2, rdS s0 kids root n S s s2 (P ++ [a]) → k20 s2 n x2 (za s1 28 a)) → ∀ y0 : Int, (y0 = -1 ∨ ∃ e : Nat, y0 = e ∧ (e : Int) < zv s1 49) → wr_letRoutines_45 Q k20 s1 n x2 a x4 y0 := fun k20 s1 x2 x4 P a ha hl hw hx2 hk y0 hy => by
    have haN := hkl a ha
    obtain ⟨f1, g1, cc, ec1, e1, y1, t1⟩ := id hl
    obtain ⟨u1, u2, -⟩ := g1.tk2 h haN
    have en1 := g1.en
    have J : ∀ s2, zSm s1 s2 [30, 50, 51, 52, 53, 54, 57] [12, 13, 49] → rdS s0 kids root n S s s2 (P ++ [a]) → wr_letRoutines_134 Q k20 s2 n x2 a x4 := fun s2 f2 r2 => by
      have e28 : za s2 28 a = za s1 28 a := f2.a 28 a rfl
      unfold wr_letRoutines_134
      rw [Int.toNat_natCast, e28]
      have k0 : (0 ≤ (a : Int)) ∧ ((a : Int) < 26000) ∧ k20 s2 n x2 (za s1 28 a) := ⟨by omega, by omega, hk s2 r2⟩
      refine ⟨fun _ => k0, fun c2 => ⟨fun _ => k0, fun _ => ⟨fun _ => k0, fun _ => ⟨by omega, by omega, hk _ ?_⟩⟩⟩⟩
      obtain ⟨z1, z2, z3, z4, z5, z6, z7⟩ := r2
      have f3 : zSm s2 (zpv s2 82 a) [] [82] := zSm.rf.pv rfl
      refine ⟨z1.pv rfl, z2.sm f3 rfl rfl rfl rfl, z3.tr (cC.sm (D := bel kids [n]) (w := 0) f3 (fm.sm f3 rfl) rfl rfl rfl) (fun _ q => q) (fun _ q => q) (by omega), z4.sm f3 rfl rfl, z5, z6, Or.inr ⟨hx2 c2, a, ha, ?_⟩⟩
      rw [zv_pv, if_pos rfl]
    -- its own word
    have D : wr_declare (zpa s1 30 a 0) x4 (za s1 26 a) 3 a 0 0 (fun r13 s14 => wr_letRoutines_134 Q k20 s14 n x2 a x4) := by
      have f2 : zSm s1 (zpa s1 30 a 0) [30] [] := zSm.rf.pa rfl
      have g2 : GI s0 kids root (zpa s1 30 a 0) := g1.sm f2 rfl rfl rfl rfl
      refine sp_declare (zpa s1 30 a 0) _ _ 3 _ 0 0 en1.1 (by show zv s1 49 < 9000; omega) g2.bb.1 g2.bb.2 u1 u2 g2.tk (fun s3 en t => ?_)
      obtain ⟨fe, me, q2, q3, q4⟩ := id en
      have f3 : zSm s1 s3 [30, 50, 51, 52, 53, 54, 57] [12, 13, 49] := (zSm.rf.tr f2 rfl rfl : zSm s1 _ [30, 50, 51, 52, 53, 54, 57] [12, 13, 49]).tr fe rfl rfl
      have c3 : cC s1 s3 (fun x => x = a) 0 := (cC.own (s := s1) (s' := zpa s1 30 a 0) (D := fun x => x = a) (w := 0) f2 (fm.sm f2 rfl) rfl rfl (fun y hy => ⟨rfl, by rw [za_pa, if_pos rfl, if_neg hy], rfl⟩)).tr (cC.ent (D := fun x => x = a) (w := 0) en) (fun _ q => q) (fun _ q => q) (by omega)
      have q2' : zv s3 49 = zv s1 49 + 1 := q2
      refine J s3 f3 (hl.st h hn ha f3 (g2.ent en t (by show zv s1 49 < 9000; omega) (fun e he => ?_)) c3 ((ec1.sm f2 rfl rfl).ent en (fun p hp => hp) (fun k => absurd k (by decide)) (fun k => absurd k (by decide))) (by omega) (Or.inl ?_))
      · obtain ⟨-, r2, r3, r4, r5⟩ := q4 e he
        unfold eOk
        rw [r2, r3, r4, r5]
        exact ⟨⟨by decide, by decide⟩, fun k => absurd k (by decide), fun _ => ⟨a, rfl, hr.kid ha, Or.inl ⟨h54 a ha, hwr a ha⟩⟩, fun k => absurd k (by decide), fun k => absurd k (by decide)⟩
      · rw [fe.a 30 a rfl, za_pa, if_pos rfl, if_pos rfl]
        exact Int.le_refl 0
    -- a global's
    have G : ∀ (e : Nat) (s2 : zS), (e : Int) < zv s1 49 → za s1 51 e = 1 → zSm s1 s2 [30] [12, 13] → fm s1 s2 → (∀ y, ¬ y = a → za s2 30 y = za s1 30 y) → wr_letRoutines_134 Q k20 (zpa (zpa s2 54 e 1) 30 a (1 + (e : Int))) n x2 a x4 := fun e s2 he hk1 f2 m2 o2 => by
      have g2 : GI s0 kids root s2 := g1.sm f2 rfl rfl rfl rfl
      have k2 : za s2 51 e = 1 := by rw [f2.a 51 e rfl]; exact hk1
      have g3 : GI s0 kids root (zpa s2 54 e 1) := g2.p54 k2
      have f3 : zSm (zpa s2 54 e 1) (zpa (zpa s2 54 e 1) 30 a (1 + (e : Int))) [30] [] := zSm.rf.pa rfl
      have F : zSm s1 (zpa (zpa s2 54 e 1) 30 a (1 + (e : Int))) [30, 50, 51, 52, 53, 54, 57] [12, 13, 49] := ((zSm.rf.tr f2 rfl rfl : zSm s1 s2 [30, 50, 51, 52, 53, 54, 57] [12, 13, 49]).pa rfl).pa rfl
      have cc3 : cC s1 (zpa (zpa s2 54 e 1) 30 a (1 + (e : Int))) (fun x => x = a) 0 := by
        refine ⟨m2, by show zv s1 49 ≤ zv s2 49; rw [f2.v 49 rfl]; exact Int.le_refl _, fun e2 _ => ⟨f2.a 50 e2 rfl, f2.a 51 e2 rfl, f2.a 52 e2 rfl, f2.a 53 e2 rfl, fun k => ?_⟩, f2.v 73 rfl, f2.v 76 rfl, f2.v 77 rfl, ?_, ?_, ?_, ?_, ?_, fun r _ => ⟨f2.a 70 r rfl, f2.a 71 r rfl, f2.a 72 r rfl⟩, ?_, ?_, fun y hy => ⟨f2.a 29 y rfl, ?_, f2.a 31 y rfl⟩⟩
        · have e3 : ¬ e2 = e := fun q => by rw [q] at k; exact k hk1
          have e4 : za (zpa (zpa s2 54 e 1) 30 a (1 + (e : Int))) 54 e2 = za s2 54 e2 := by simp only [za_pa, reduceIte, Nat.reduceEqDiff, e3]
          exact e4.trans (f2.a 54 e2 rfl)
        · show zv s1 75 ≤ zv s2 75
          rw [f2.v 75 rfl]; exact Int.le_refl _
        · show zv s1 81 ≤ zv s2 81
          rw [f2.v 81 rfl]; exact Int.le_refl _
        · show zv s2 81 ≤ zv s1 81 + 60 * ((0 : Nat) : Int)
          rw [f2.v 81 rfl]; omega
        · show zv s1 69 ≤ zv s2 69
          rw [f2.v 69 rfl]; exact Int.le_refl _
        · show zv s2 69 ≤ zv s1 69 + ((0 : Nat) : Int)
          rw [f2.v 69 rfl]; omega
        · show zv s1 78 ≤ zv s2 78
          rw [f2.v 78 rfl]; exact Int.le_refl _
        · show zv s2 78 ≤ zv s1 78 + ((0 : Nat) : Int)
          rw [f2.v 78 rfl]; omega
        · rw [za_pa, if_pos rfl, if_neg hy]
          exact o2 y hy
      have w49 : zv (zpa (zpa s2 54 e 1) 30 a (1 + (e : Int))) 49 = zv s1 49 := f2.v 49 rfl
      refine J _ F (hl.st h hn ha F (g3.sm f3 rfl rfl rfl rfl) cc3 (fun e2 he2 => ?_) (by omega) (Or.inr ⟨e, ?_, by rw [w49]; exact he, k2⟩))
      · rw [w49] at he2
        obtain ⟨y1, y2⟩ := ec1 e2 he2
        obtain ⟨-, a1, a2, a3, a4⟩ := cc3.er e2 he2
        rw [a1, a2, a3, cc3.s73, cc3.s77]
        refine ⟨fun k k2 => (y1 k k2).le cc3.mu, fun k k2 k3 => y2 k k2 ?_⟩
        rw [← a4 (by rw [k]; decide)]
        exact k3
      · rw [za_pa, if_pos rfl, if_pos rfl]
    unfold wr_letRoutines_45
    rw [Int.toNat_natCast]
    rcases hy with rfl | ⟨e, rfl, he⟩
    · exact ⟨by omega, by omega, fun _ => ⟨by omega, by omega, D⟩, fun c => absurd (by decide) c⟩
    · rw [Int.toNat_natCast]
      refine ⟨by omega, by omega, fun c => absurd c (by omega), fun _ => ⟨by omega, by omega, fun _ => ⟨by omega, by omega, D⟩, fun c1 => ⟨by omega, by omega, fun _ => ⟨by omega, by omega, by omega, by omega, ⟨by omega, by omega⟩, ?_⟩, fun _ => ⟨by omega, by omega, ?_⟩⟩⟩⟩
      · exact G e (zpa s1 30 a 0) he c1 (zSm.rf.pa rfl) (fun q => q) (fun y hy => by rw [za_pa, if_pos rfl, if_neg hy])
      · refine sp_place (zpa s1 30 a 0) _ u1 u2 (fun r => ?_)
        refine ffm_fault (sp_faultN _ 4 r (by decide)) ?_
        rintro s2 - ⟨f2, q2⟩
        refine ⟨by omega, by omega, by omega, by omega, ⟨by omega, by omega⟩, G e s2 he c1 ((zSm.rf.pa rfl : zSm s1 (zpa s1 30 a 0) [30] [12, 13]).tr f2 rfl rfl) (fun _ => q2) (fun y hy => ?_)⟩
        rw [f2.a 30 y rfl, za_pa, if_pos rfl, if_neg hy]
  have L : ∀ (x2 : Int), (¬ x2 = 0 → zv s 73 < 0) → ∀ (ks : List Nat) (x : Int) (m : Nat) (s1 : zS) (P : List Nat), ks.length < m → fCh s1 x ks → kids n = P ++ ks → rdS s0 kids root n S s s1 P → wr_letRoutines_20 Q m s1 n x2 x := by
    intro x2 hx2 ks
    induction ks with
    | nil =>
      intro x m s1 P hm h1 hk hl
      obtain ⟨m, rfl⟩ : ∃ q, m = q + 1 := ⟨m - 1, by have : 0 < m := hm; omega⟩
      have h1' : x = -1 := h1
      rw [List.append_nil] at hk
      rw [← hk] at hl
      unfold wr_letRoutines_20
      unfold wr_letRoutines_20B
      refine ⟨fun _ => ?_, fun e => absurd (by omega) e⟩
      have g1 := hl.2.1
      exact sp_children (k1.sm hl.1 rfl rfl) (by omega) (by rw [g1.st.a 27 n rfl]; exact (h.ch n hn).fr (fun y _ => g1.st.a 28 y rfl)) (fun y hy => by have := hkl y hy; omega) (by omega) (fun s' kk ff => hq s1 s' hl ff kk)
    | cons a ks ih =>
      intro x m s1 P hm h1 hk hl
      have e4 : (a :: ks).length = ks.length + 1 := rfl
      rw [e4] at hm
      obtain ⟨m, rfl⟩ : ∃ q, m = q + 1 := ⟨m - 1, by omega⟩
      have h1' : x = (a : Int) := h1.1
      have ha : a ∈ kids n := by rw [hk]; exact List.mem_append.mpr (Or.inr (List.mem_cons_self ..))
      have haN := hkl a ha
      have hk2 : kids n = (P ++ [a]) ++ ks := by rw [hk, List.append_assoc]; rfl
      have hpl : (kids n).length = P.length + (ks.length + 1) := by rw [hk, List.length_append, e4]
      subst h1'
      have g1 := hl.2.1
      obtain ⟨u1, u2, -⟩ := g1.tk2 h haN
      have nxt : ∀ s2, rdS s0 kids root n S s s2 (P ++ [a]) → wr_letRoutines_20 Q m s2 n x2 (za s1 28 a) := fun s2 l2 => by
        have e28 : ∀ y, za s2 28 y = za s1 28 y := fun y => by rw [l2.2.1.st.a 28 y rfl, g1.st.a 28 y rfl]
        exact ih _ m s2 (P ++ [a]) (by omega) (h1.2.fr (fun y _ => e28 y)) hk2 l2
      unfold wr_letRoutines_20
      unfold wr_letRoutines_20B
      refine ⟨fun e => absurd e (by omega), fun _ => sp_nameToken s1 a (by omega) ⟨u1, u2⟩ (fun r => ⟨fun _ => stp _ s1 x2 r P a ha hl (by omega) hx2 nxt (-1) (Or.inl rfl), fun _ => sp_means s1 r g1.en.1 g1.en.2 (stp _ s1 x2 r P a ha hl (by omega) hx2 nxt (-1) (Or.inl rfl)) (fun e e1 _ => stp _ s1 x2 r P a ha hl (by omega) hx2 nxt e (Or.inr ⟨e, rfl, e1⟩))⟩)⟩
  have st0 : rdS s0 kids root n S s s [] := ⟨zSm.rf, g, cC.rf, ec, by show zv s 49 ≤ zv s 49 + ((0 : Nat) : Int); omega, fun c hc => absurd hc List.not_mem_nil, Or.inl rfl⟩
  have c0 : fCh s (za s 27 n) (kids n) := by
    rw [g.st.a 27 n rfl]
    exact (h.ch n hn).fr (fun x _ => g.st.a 28 x rfl)
  unfold wr_letRoutines
  rw [Int.toNat_natCast]
  exact ⟨fun _ => ⟨by omega, by omega, (kids n).length + 1, L 0 (fun q => absurd rfl q) (kids n) _ _ s [] (by omega) c0 rfl st0⟩, fun c => ⟨by omega, by omega, (kids n).length + 1, L 1 (fun _ => by omega) (kids n) _ _ s [] (by omega) c0 rfl st0⟩⟩
theorem tD_ro (h : fF s0 kids up sz [root] N) (hN : N ≤ 2700) {n : Nat} (hr : rch kids root n) (hwr : ∀ c ∈ kids n, wrs (za s0 25) kids root c) (hK : za s0 25 n = 53) (hne : ¬ kids n = []) (h54 : ∀ c ∈ kids n, za s0 25 c = 54) (iR : ∀ c ∈ kids n, tri s0 kids up sz root N Qc 0 6 c (roY c) tt) : triD s0 kids up sz root N Qc 1 n tt := by
  have hn := h.lt hr
  have hkl : ∀ c ∈ kids n, c < N := fun c hc => (h.kd n hn c hc).1
  have hzn : sz n = 1 + szs sz (kids n) := h.ss n hn
  have hlen : (kids n).length ≤ szs sz (kids n) := len_sum h hkl
  have un : ub (za s0 25) kids sz n = sz n := ub_o (by omega)
  have hcx : ∀ c ∈ kids n, cxF (za s0 25) up root N c = cxF (za s0 25) up root N n := fun c hc => by
    rw [cxF_kid _ h hr hc, hK]
    exact cxS_o rfl
  have hkr : kr (za s0 25) kids n = kids n := kr_eq (by rw [hK]; rfl)
  refine triD.mk h hn hY_tt (fun m s l k1 hl hp _ hq => go_1 ?_)
  obtain ⟨g, hx, hb⟩ := hp
  obtain ⟨b1, b2, b3, b4, b5, b6, b7, b8⟩ := id hb
  obtain ⟨a, ks, hk⟩ := List.exists_cons_of_ne_nil hne
  have ch := h.ch n hn
  rw [hk] at ch
  have haN := hkl a (by rw [hk]; exact List.mem_cons_self ..)
  have ha54 := h54 a (by rw [hk]; exact List.mem_cons_self ..)
  refine do_54 (v := a) (by omega) ((g.st.a 25 n rfl).trans hK) ((g.st.a 27 n rfl).trans ch.1) (by omega) (by rw [g.st.a 25 a rfl]; omega) ?_
  refine sp_letR h hN hr hwr h54 g hx.2.2.2.2 k1 (by omega) (by omega) (fun s1 s2 r1 f2 k2 => ?_)
  obtain ⟨f1, g1, cc1, ec1, e1, y1, t1⟩ := r1
  have g2 := g1.sm f2 rfl rfl rfl rfl
  have F : zSm s s2 [30, 50, 51, 52, 53, 54, 57, 64, 65, 66] [12, 13, 49, 63, 82] := (zSm.rf.tr f1 rfl rfl : zSm s s1 [30, 50, 51, 52, 53, 54, 57, 64, 65, 66] [12, 13, 49, 63, 82]).tr f2 rfl rfl
  have cc2 : cC s s2 (bel kids [n]) 0 := cc1.tr (cC.sm (D := bel kids [n]) (w := 0) f2 (fm.sm f2 rfl) rfl rfl rfl) (fun _ q => q) (fun _ q => q) (by omega)
  have ec2 : EC s0 kids s2 (cxF (za s0 25) up root N n).2.2.2 := ec1.sm f2 rfl rfl
  have e49 : zv s2 49 ≤ zv s 49 + (kids n).length := by rw [f2.v 49 rfl]; exact e1
  have x2 : cX s0 kids s2 (cxF (za s0 25) up root N n) := by
    obtain ⟨h1, h2, h3, h4, -⟩ := hx
    refine ⟨?_, ?_, ?_, ?_, ec2⟩
    · rw [F.v 79 rfl]; exact h1
    · rw [F.v 80 rfl]; exact h2
    · rw [F.v 77 rfl]; exact h3
    · rw [F.v 76 rfl]; exact h4
  have b2' : cB s2 (szs sz (kids n)) (sz n - (kids n).length) l.length := by
    unfold cB
    rw [F.v 67 rfl, F.v 69 rfl, F.v 81 rfl, F.v 78 rfl, F.v 79 rfl, F.v 80 rfl]
    omega
  refine (seqTU h hn (fun _ => 6) (κ := fun _ => 0) (Y := roY) (X := fun _ => tt) roY.st stb_tt (sz n - (kids n).length) (kids n) (fun c hc => hc) (h.kn n hn) iR m s2 l k2 g2 (fun c hc => by rw [hcx c hc]; exact x2) b2' (fun c hc => ?_) (fun c hc => ?_) (fun s3 k3 p3 _ => ?_)).le (by omega)
  · have h1 := ub_le h (hkl c hc)
    have h2 := sum_len h hc hkl
    omega
  · rcases y1 c hc with q | ⟨e, q1, q2, q3⟩
    · exact Or.inl (by rw [f2.a 30 c rfl]; exact q)
    · exact Or.inr ⟨e, by rw [f2.a 30 c rfl]; exact q1, by rw [f2.v 49 rfl]; exact q2, by rw [f2.a 51 e rfl]; exact q3⟩
  · have hbel : ∀ x, bel kids (kids n) x → bel kids [n] x := fun x q => bel.upw (fun d hd => hd) q
    have cc3 : cC s s3 (bel kids [n]) (szs sz [n]) := cc2.tr p3.1.1.c (fun _ q => q) hbel (by rw [szs1]; omega)
    have P : cP s s3 (bel kids [n]) (szs sz [n]) := by
      have p := p3.1.1
      refine ⟨cc3.m, by rw [p.s67, F.v 67 rfl], fun i hi => by rw [p.sv i (by rw [F.v 67 rfl]; exact hi), F.a 68 i rfl], cc3.e1, by rw [p3.2.1, szs1]; omega, cc3.er, by rw [p.s55, F.v 55 rfl], cc3.s73, cc3.s76, cc3.s77, by rw [p.s79, F.v 79 rfl], by rw [p.s80, F.v 80 rfl], cc3.mu, cc3.w1, cc3.w2, cc3.r1, cc3.r2, cc3.rr, cc3.v1, cc3.v2, cc3.nd⟩
    refine hq s3 k3 ⟨P, p3.1.2.1, fun r q1 q2 => ?_, fun z d hd => ?_, ?_⟩ (ec2.fr p3.1.1 p3.2.1) (by rw [p3.2.1, un]; omega)
    · obtain ⟨c, hc, q⟩ := p3.1.2.2.1 r (by rw [F.v 69 rfl]; exact q1) q2
      exact ⟨n, List.mem_cons_self .., q.upw ((rch.rt kids n).kid hc)⟩
    · rw [List.mem_singleton.mp hd]
      exact FA.upw (fac_no (by rw [hK]; rfl)) (fun c hc => p3.1.2.2.2.1 z c (by rw [hkr] at hc; exact hc))
    · rcases p3.1.2.2.2.2 with q | ⟨q0, c, hc, x, q1, q2, q3⟩
      · rw [f2.v 82 rfl] at q
        rcases t1 with t | ⟨t0, c, hc, t⟩
        · exact Or.inl (q.trans t)
        · exact Or.inr ⟨t0, n, List.mem_cons_self .., c, q.trans t, h54 c hc, (rin.rt (za s0 25) kids n).kid (by rw [hkr]; exact hc)⟩
      · exact Or.inr ⟨by rw [← F.v 73 rfl]; exact q0, n, List.mem_cons_self .., x, q1, q2, ((rin.rt (za s0 25) kids n).kid (by rw [hkr]; exact hc)).tr q3⟩
end RD

