/-! THE CHECK: A ROUTINE -/
section RE
variable {s0 : zS} {kids : Nat → List Nat} {up sz : Nat → Nat} {root N : Nat} {Qc : zS → Prop}
/-- what it leaves -/
def reS (s0 : zS) (kids : Nat → List Nat) (root n : Nat) (s0' s s' : zS) (rN : Nat) : Prop := zSm s s' [70] [49, 55, 67, 73, 74, 75, 76, 77, 79, 80] ∧ GI s0 kids root s' ∧ sSt s0' s' (zv s0' 67).toNat [] ∧ zv s' 49 = zv s0' 49 ∧ zv s' 55 = zv s0' 55 ∧ zv s' 80 = zv s0' 80 ∧ zv s' 79 = zv s0' 79 ∧ zv s' 77 = zv s0' 77 ∧ zv s' 76 = zv s0' 76 ∧ zv s' 75 = zv s0' 75 ∧ zv s' 74 = zv s0' 74 ∧ zv s' 73 = zv s0' 73 ∧ za s' 70 rN = zv s 75 ∧ ∀ r : Nat, ¬ r = rN → za s' 70 r = za s 70 r
theorem sp_routineEnds {n rN : Nat} {s0' s : zS} (hn : n < 26000) (g0 : GI s0 kids root s0') (g : GI s0 kids root s) (h29 : za s 29 n = rN) (hr : rN < 3100) (S : sSt s0' s (zv s0' 67).toNat [zv s0' 49, zv s0' 55, zv s0' 80, zv s0' 79, zv s0' 77, zv s0' 76, zv s0' 75, zv s0' 74, zv s0' 73]) (h67 : zv s0' 67 + 9 ≤ 60000) (h49 : zv s0' 49 ≤ zv s 49) (h55 : zv s 55 = zv s0' 49) (h78 : zv s0' 78 ≤ zv s 78) (h69 : zv s0' 69 ≤ zv s 69) {Q : zS → Prop} (hq : ∀ s', reS s0 kids root n s0' s s' rN → Q s') : wr_routineEnds s n Q := by
  have sv := g0.sv
  have en := g0.en
  have bb := g0.bb
  have vf := g0.vf
  have ro := g0.ro
  have rt := g0.rt
  have bl : ∀ k : Nat, k ≤ 8 → (zv s0' 67).toNat + k < 60000 := fun k hk => by omega
  have f1 : zSm s (zpa s 70 rN (zv s 75)) [70] [] := zSm.rf.pa rfl
  have g1 : GI s0 kids root (zpa s 70 rN (zv s 75)) := g.sm f1 rfl rfl rfl rfl
  have o70 : za (zpa s 70 rN (zv s 75)) 70 rN = zv s 75 := by rw [za_pa, if_pos rfl, if_pos rfl]
  have o70o : ∀ r : Nat, ¬ r = rN → za (zpa s 70 rN (zv s 75)) 70 r = za s 70 r := fun r hr2 => by rw [za_pa, if_pos rfl, if_neg hr2]
  have S1 := S.sm f1 rfl rfl
  unfold wr_routineEnds
  rw [Int.toNat_natCast, h29, Int.toNat_natCast]
  refine ⟨by omega, by omega, by omega, by omega, ?_⟩
  have v49 : zv (zpa s 70 rN (zv s 75)) 49 = zv s 49 := rfl
  have v55 : zv (zpa s 70 rN (zv s 75)) 55 = zv s 55 := rfl
  have v78 : zv (zpa s 70 rN (zv s 75)) 78 = zv s 78 := rfl
  have v69 : zv (zpa s 70 rN (zv s 75)) 69 = zv s 69 := rfl
  generalize zpa s 70 rN (zv s 75) = s1 at f1 g1 o70 o70o S1 v49 v55 v78 v69
  refine sp_pullS S1 (bl 8 (by omega)) (fun t1 j1 T1 => ?_)
  have h1 : zSm t1 (zpv t1 49 (zv s0' 49)) [] [49] := zSm.rf.pv rfl
  have G1 : GI s0 kids root (zpv t1 49 (zv s0' 49)) := (g1.smS (by rw [T1.1]; omega) j1 rfl rfl rfl rfl).p49b ⟨en.1, by rw [j1.v 49 rfl]; omega⟩ (by rw [j1.v 55 rfl]; omega)
  refine sp_pullS (T1.sm h1 rfl rfl) (bl 7 (by omega)) (fun t2 j2 T2 => ?_)
  have h2 : zSm t2 (zpv t2 55 (zv s0' 55)) [] [55] := zSm.rf.pv rfl
  have w2 : zv t2 49 = zv s0' 49 := j2.v 49 rfl
  have G2 : GI s0 kids root (zpv t2 55 (zv s0' 55)) := (G1.smS (by rw [T2.1]; omega) j2 rfl rfl rfl rfl).p55 ⟨bb.1, by omega⟩
  refine sp_pullS (T2.sm h2 rfl rfl) (bl 6 (by omega)) (fun t3 j3 T3 => ?_)
  have h3 : zSm t3 (zpv t3 80 (zv s0' 80)) [] [80] := zSm.rf.pv rfl
  have G3 : GI s0 kids root (zpv t3 80 (zv s0' 80)) := (G2.smS (by rw [T3.1]; omega) j3 rfl rfl rfl rfl).p80 g0.sw
  refine sp_pullS (T3.sm h3 rfl rfl) (bl 5 (by omega)) (fun t4 j4 T4 => ?_)
  have h4 : zSm t4 (zpv t4 79 (zv s0' 79)) [] [79] := zSm.rf.pv rfl
  have G4 : GI s0 kids root (zpv t4 79 (zv s0' 79)) := (G3.smS (by rw [T4.1]; omega) j4 rfl rfl rfl rfl).p79 g0.lo
  refine sp_pullS (T4.sm h4 rfl rfl) (bl 4 (by omega)) (fun t5 j5 T5 => ?_)
  have h5 : zSm t5 (zpv t5 77 (zv s0' 77)) [] [77] := zSm.rf.pv rfl
  have F5 : zSm s1 t5 [] [49, 55, 67, 79, 80] := ((((((((zSm.rf.tr j1 rfl rfl : zSm s1 t1 [] [49, 55, 67, 79, 80]).tr h1 rfl rfl).tr j2 rfl rfl).tr h2 rfl rfl).tr j3 rfl rfl).tr h3 rfl rfl).tr j4 rfl rfl).tr h4 rfl rfl).tr j5 rfl rfl
  have G5 : GI s0 kids root (zpv t5 77 (zv s0' 77)) := (G4.smS (by rw [T5.1]; omega) j5 rfl rfl rfl rfl).p77 ⟨vf.1, by rw [F5.v 78 rfl]; omega⟩
  refine sp_pullS (T5.sm h5 rfl rfl) (bl 3 (by omega)) (fun t6 j6 T6 => ?_)
  have F6 : zSm s1 t6 [] [49, 55, 67, 77, 79, 80] := ((zSm.rf.tr F5 rfl rfl : zSm s1 t5 [] [49, 55, 67, 77, 79, 80]).tr h5 rfl rfl).tr j6 rfl rfl
  have G6 : GI s0 kids root t6 := G5.smS (by rw [T6.1]; omega) j6 rfl rfl rfl rfl
  have a49 : zv t6 49 = zv s0' 49 := by rw [j6.v 49 rfl, h5.v 49 rfl, j5.v 49 rfl, h4.v 49 rfl, j4.v 49 rfl, h3.v 49 rfl, j3.v 49 rfl, h2.v 49 rfl]; exact w2
  have a55 : zv t6 55 = zv s0' 55 := by rw [j6.v 55 rfl, h5.v 55 rfl, j5.v 55 rfl, h4.v 55 rfl, j4.v 55 rfl, h3.v 55 rfl, j3.v 55 rfl]; rfl
  have a80 : zv t6 80 = zv s0' 80 := by rw [j6.v 80 rfl, h5.v 80 rfl, j5.v 80 rfl, h4.v 80 rfl, j4.v 80 rfl]; rfl
  have a79 : zv t6 79 = zv s0' 79 := by rw [j6.v 79 rfl, h5.v 79 rfl, j5.v 79 rfl]; rfl
  have a77 : zv t6 77 = zv s0' 77 := by rw [j6.v 77 rfl]; rfl
  -- the rest, whatever gives is
  have R : ∀ y : Int, y = zv s0' 76 → wr_pull (zpv t6 76 y) (fun r61 s62 => wr_pull (zpv s62 75 r61) (fun r69 s70 => wr_pull (zpv s70 74 r69) (fun r77 s78 => Q (zpv s78 73 r77)))) := fun y hy => by
    subst hy
    have h6 : zSm t6 (zpv t6 76 (zv s0' 76)) [] [76] := zSm.rf.pv rfl
    refine sp_pullS (T6.sm h6 rfl rfl) (bl 2 (by omega)) (fun t7 j7 T7 => ?_)
    have h7 : zSm t7 (zpv t7 75 (zv s0' 75)) [] [75] := zSm.rf.pv rfl
    have G7 : GI s0 kids root (zpv t7 75 (zv s0' 75)) := ((G6.p76 g0.gv).smS (by rw [T7.1]; omega) j7 rfl rfl rfl rfl).sm h7 rfl rfl rfl rfl
    refine sp_pullS (T7.sm h7 rfl rfl) (bl 1 (by omega)) (fun t8 j8 T8 => ?_)
    have h8 : zSm t8 (zpv t8 74 (zv s0' 74)) [] [74] := zSm.rf.pv rfl
    have G8 : GI s0 kids root (zpv t8 74 (zv s0' 74)) := (G7.smS (by rw [T8.1]; omega) j8 rfl rfl rfl rfl).p74 g0.iu
    refine sp_pullS (T8.sm h8 rfl rfl) (bl 0 (by omega)) (fun t9 j9 T9 => ?_)
    have h9 : zSm t9 (zpv t9 73 (zv s0' 73)) [] [73] := zSm.rf.pv rfl
    have F9 : zSm t6 t9 [] [67, 74, 75, 76] := (((((zSm.rf.tr h6 rfl rfl : zSm t6 _ [] [67, 74, 75, 76]).tr j7 rfl rfl).tr h7 rfl rfl).tr j8 rfl rfl).tr h8 rfl rfl).tr j9 rfl rfl
    have F19 : zSm s1 t9 [] [49, 55, 67, 74, 75, 76, 77, 79, 80] := (zSm.rf.tr F6 rfl rfl : zSm s1 t6 [] [49, 55, 67, 74, 75, 76, 77, 79, 80]).tr F9 rfl rfl
    have G9 : GI s0 kids root (zpv t9 73 (zv s0' 73)) := (G8.smS (by rw [T9.1]; omega) j9 rfl rfl rfl rfl).p73 ⟨ro.2.1, by rw [F19.v 69 rfl]; omega, fun q => by rw [F19.v 69 rfl]; have := rt q; omega⟩
    have F : zSm s (zpv t9 73 (zv s0' 73)) [70] [49, 55, 67, 73, 74, 75, 76, 77, 79, 80] := ((zSm.rf.tr f1 rfl rfl : zSm s s1 [70] [49, 55, 67, 73, 74, 75, 76, 77, 79, 80]).tr F19 rfl rfl).tr h9 rfl rfl
    have F6z : zSm t6 (zpv t9 73 (zv s0' 73)) [] [67, 73, 74, 75, 76] := (zSm.rf.tr F9 rfl rfl : zSm t6 t9 [] [67, 73, 74, 75, 76]).tr h9 rfl rfl
    have F1z : zSm s1 (zpv t9 73 (zv s0' 73)) [] [49, 55, 67, 73, 74, 75, 76, 77, 79, 80] := (zSm.rf.tr F19 rfl rfl : zSm s1 t9 [] [49, 55, 67, 73, 74, 75, 76, 77, 79, 80]).tr h9 rfl rfl
    refine hq _ ⟨F, G9, T9.sm h9 rfl rfl, by rw [F6z.v 49 rfl]; exact a49, by rw [F6z.v 55 rfl]; exact a55, by rw [F6z.v 80 rfl]; exact a80, by rw [F6z.v 79 rfl]; exact a79, by rw [F6z.v 77 rfl]; exact a77, ?_, ?_, ?_, rfl, by rw [F1z.a 70 rN rfl]; exact o70, fun r hr2 => by rw [F1z.a 70 r rfl]; exact o70o r hr2⟩
    · rw [h9.v 76 rfl, j9.v 76 rfl, h8.v 76 rfl, j8.v 76 rfl, h7.v 76 rfl, j7.v 76 rfl]; rfl
    · rw [h9.v 75 rfl, j9.v 75 rfl, h8.v 75 rfl, j8.v 75 rfl]; rfl
    · rw [h9.v 74 rfl, j9.v 74 rfl]; rfl
  refine ⟨fun c => R 0 ?_, fun c => R 1 c.symm⟩
  rcases g0.gv with q | q
  · exact q.symm
  · exact absurd q c
theorem tR (h : fF s0 kids up sz [root] N) (hN : N ≤ 2700) {n : Nat} (hr : rch kids root n) (hK : za s0 25 n = 54) (iE : ∀ c, c = lk kids n → kE (za s0 25 c) → tri s0 kids up sz root N Qc 1 3 c tt tt) (iC : ∀ c, c = lk kids n → kC (za s0 25 c) → tri s0 kids up sz root N Qc 0 2 c tt tt) : tri s0 kids up sz root N Qc 0 6 n (roY n) tt := by
  have hn := h.lt hr
  obtain ⟨rk, kb, q1, qb, q20, q57⟩ := (h.sh n hn).ro hK
  obtain ⟨ps, A, ek, eP, eA⟩ := List.map_eq_append_iff.mp q1
  obtain ⟨b, rfl, eb⟩ := map1 eA
  have elk : lk kids n = b := lk_app ek
  have hkl : ∀ c ∈ kids n, c < N := fun c hc => (h.kd n hn c hc).1
  have mb : b ∈ kids n := by rw [ek]; exact List.mem_append.mpr (Or.inr (List.mem_cons_self ..))
  have hbN := hkl b mb
  have hps : ∀ c ∈ ps, za s0 25 c = 57 := fun c hc => q57 _ (by rw [← eP]; exact List.mem_map.mpr ⟨c, hc, rfl⟩)
  have hp20 : ps.length ≤ 20 := by rw [← List.length_map (f := fun c => za s0 25 c), eP]; exact q20
  have hbk : kE (za s0 25 b) ∨ kC (za s0 25 b) := by rw [eb]; exact qb
  have hb57 : ¬ za s0 25 b = 57 := by rcases hbk with q | q <;> have := q.2 <;> omega
  have hzn : sz n = 1 + szs sz (kids n) := h.ss n hn
  have hsl := sum_len h mb hkl
  have hkn : (kids n).length = ps.length + 1 := by rw [ek, List.length_append]; rfl
  have hzb : 1 ≤ sz b := by have := h.ss b hbN; omega
  have un : ub (za s0 25) kids sz n = sz n := ub_o (by omega)
  have ubb := ub_le h hbN
  have hcx : cxF (za s0 25) up root N b = ((n : Int), false, -1, []) := by
    rw [cxF_kid _ h hr mb, hK]
    rfl
  refine tri.mk (by omega) h hn (fun s s1 f hy => ?_) (fun m s l k1 hl hp hy hq => go_6 ?_)
  · rcases hy with q | ⟨e, q1, q2, q3⟩
    · exact Or.inl (by rw [f.a 30 n rfl]; exact q)
    · exact Or.inr ⟨e, by rw [f.a 30 n rfl]; exact q1, by rw [f.v 49 rfl]; exact q2, by rw [f.a 51 e rfl]; exact q3⟩
  obtain ⟨g, hx, hb⟩ := hp
  obtain ⟨b1, b2, b3, b4, b5, b6, b7, b8⟩ := id hb
  have ro := g.ro
  have lo := g.lo
  have sw := g.sw
  have vf := g.vf
  refine sp_routineOf h hN hr hK ek hps hp20 hb57 g k1 (by omega) (by omega) (by omega) (by omega) (by omega) hy (fun s8 R k8 => ?_)
  obtain ⟨rN, er⟩ : ∃ rN : Nat, zv s 69 = rN := ⟨(zv s 69).toNat, by omega⟩
  rw [er, Int.toNat_natCast] at R
  have v49 := R.v49
  have w1 := R.w1
  have w2 := R.w2
  have r69 := R.r69
  have v78 : zv s8 78 = zv s 78 := R.F.v 78 rfl
  have v67 : zv s8 67 = zv s 67 + 9 := by
    rw [R.st.1]
    have := g.sv
    show (((zv s 67).toNat + 9 : Nat) : Int) = _
    omega
  have X8 : cX s0 kids s8 (cxF (za s0 25) up root N b) := by
    rw [hcx]
    refine ⟨fun q => absurd R.v79 q, fun q => absurd R.v80 q, fun q => absurd R.v77 q, fun z => Or.inr ⟨n, rfl, by rw [elk]; exact R.s76 z⟩, fun e he => ?_⟩
    rw [R.s73, R.s75, R.v77]
    by_cases c : (e : Int) < zv s 49
    · obtain ⟨-, a2, a3, a4, a5⟩ := R.er e c
      rw [a2, a3, a4, a5]
      obtain ⟨-, -, -, k4, k5⟩ := g.eg e c
      refine ⟨fun k k2 => ?_, fun k k2 => ?_⟩
      · have := (k4 k).2; omega
      · have := (k5 k).1; omega
    · obtain ⟨a1, a2⟩ := R.nw e (by omega) he
      rw [a1]
      exact ⟨fun _ _ => Or.inl a2, fun k => absurd k (by decide)⟩
  have B8 : cB s8 (sz b) (ub (za s0 25) kids sz b) (l.length + 1) := by
    unfold cB
    rw [v49, v67, r69, v78, R.v79, R.v80]
    omega
  -- the body
  have body : (∀ s', cTk s' ((7, (n : Int), 0) :: l) → PB s0 kids up sz root N s8 s' [b] → kL Qc (m + 1) s') → kL Qc (m + 4 * sz n - 0 - 1) s8 := fun hb2 => by
    by_cases c20 : 20 ≤ za s0 25 b
    · rw [if_pos c20] at k8
      have hC : kC (za s0 25 b) := by
        rcases hbk with q | q
        · have := q.2; omega
        · exact q
      exact (iC b elk.symm hC (m + 1) s8 _ k8 ⟨R.gi, X8, B8⟩ trivial (fun s' k' p' _ => hb2 s' k' p')).le (by omega)
    · rw [if_neg c20] at k8
      have hE : kE (za s0 25 b) := by
        rcases hbk with q | q
        · exact q
        · have := q.1; omega
      exact (iE b elk.symm hE (m + 1) s8 _ k8 ⟨R.gi, X8, B8⟩ trivial (fun s' k' p' _ => hb2 s' k' p')).le (by omega)
  refine body (fun s9 k9 p9 => ?_)
  have p := p9.1.1
  rw [szs1] at p
  refine kL.step k9 (by omega) (fun s10 f10 k10 => go_7 ?_)
  have nb : ¬ bel kids [b] n := fun ⟨d, hd, hdn⟩ => by
    rw [List.mem_singleton.mp hd] at hdn
    have h1 := h.szk hn mb
    rcases h.szx hbN hdn with q | q
    · rw [q] at h1; omega
    · omega
  have c29 : za s10 29 n = rN := by rw [f10.a 29 n rfl, (p.nd n nb).1]; exact R.n29
  have p1 := p.r1
  have p2 := p.r2
  have pv1 := p.v1
  have pv2 := p.v2
  have pw1 := p.w1
  have pw2 := p.w2
  have pe1 := p.e1
  refine sp_routineEnds (by omega) g (p9.1.2.1.sm f10 rfl rfl rfl rfl) c29 (by omega) ((R.st.cp p).sm f10 rfl rfl) (by omega) (by rw [f10.v 49 rfl, p9.2.1]; omega) (by rw [f10.v 55 rfl, p.s55]; exact R.v55) (by rw [f10.v 78 rfl]; omega) (by rw [f10.v 69 rfl]; omega) (fun s11 E => ?_)
  obtain ⟨F, g11, S11, y49, y55, y80, y79, y77, y76, y75, y74, y73, y70, y70o⟩ := E
  have F9 : zSm s9 s11 [70] [49, 55, 63, 67, 73, 74, 75, 76, 77, 79, 80] := (zSm.rf.tr f10 rfl rfl : zSm s9 s10 [70] [49, 55, 63, 67, 73, 74, 75, 76, 77, 79, 80]).tr F rfl rfl
  have z81 : zv s11 81 = zv s9 81 := F9.v 81 rfl
  have z69 : zv s11 69 = zv s9 69 := F9.v 69 rfl
  have z78 : zv s11 78 = zv s9 78 := F9.v 78 rfl
  have mm : fm s s11 := (R.m.tr p.m).tr (fm.sm F9 rfl)
  have i70 : ∀ r : Nat, ¬ r = rN → za s11 70 r = za s9 70 r := fun r hr2 => by rw [y70o r hr2, f10.a 70 r rfl]
  have i70r : za s11 70 rN = zv s9 75 := by rw [y70, f10.v 75 rfl]
  have P : cP s s11 (bel kids [n]) (szs sz [n]) := by
    refine ⟨mm, ?_, fun i hi => S11.2.2 i (by omega), by rw [y49]; exact Int.le_refl _, by rw [y49]; omega, fun e he => ?_, y55, y73, y76, y77, y79, y80, by rw [y75]; exact Int.le_refl _, by omega, by rw [szs1]; omega, by omega, by rw [szs1]; omega, fun r hr2 => ?_, by omega, by rw [szs1]; omega, fun x hx2 => ?_⟩
    · rw [S11.1]
      have := g.sv
      show (((zv s 67).toNat + 0 : Nat) : Int) = _
      omega
    · obtain ⟨a1, a2, a3, a4, a5⟩ := R.er e he
      obtain ⟨c1, c2, c3, c4, c5⟩ := p.er e (by omega)
      rw [F9.a 50 e rfl, F9.a 51 e rfl, F9.a 52 e rfl, F9.a 53 e rfl, F9.a 54 e rfl]
      exact ⟨by rw [c1, a1], by rw [c2, a2], by rw [c3, a3], by rw [c4, a4], fun k => by rw [c5 (by rw [a2]; exact k), a5]⟩
    · have hne : ¬ r = rN := by omega
      obtain ⟨a1, a2⟩ := R.o71 r hne
      obtain ⟨c1, c2, c3⟩ := p.rr r (by omega)
      rw [i70 r hne, F9.a 71 r rfl, F9.a 72 r rfl]
      exact ⟨by rw [c1, R.F.a 70 r rfl], by rw [c2, a1], by rw [c3, a2]⟩
    · have hxn : ¬ x = n := fun e => hx2 ⟨n, List.mem_cons_self .., by rw [e]; exact rch.rt kids n⟩
      obtain ⟨a1, a2⟩ := R.nd x hxn
      obtain ⟨c1, c2, c3⟩ := p.nd x (fun q => hx2 (bel.upw (ks := [b]) (fun d hd => by rw [List.mem_singleton.mp hd]; exact mb) q))
      rw [F9.a 29 x rfl, F9.a 30 x rfl, F9.a 31 x rfl]
      exact ⟨by rw [c1, a1], by rw [c2, R.F.a 30 x rfl], by rw [c3, a2]⟩
  have nn : ∀ y : Nat, za s11 29 y = za s9 29 y ∧ za s11 30 y = za s9 30 y ∧ za s11 31 y = za s9 31 y := fun y => ⟨F9.a 29 y rfl, F9.a 30 y rfl, F9.a 31 y rfl⟩
  obtain ⟨c70, c71, c72⟩ := p.rr rN (by omega)
  have n31 : za s11 31 n = za s8 31 n := by rw [F9.a 31 n rfl, (p.nd n nb).2.2]
  have n29 : za s11 29 n = rN := by rw [F9.a 29 n rfl, (p.nd n nb).1]; exact R.n29
  have hlast : lk kids n ∈ kids n := by rw [elk]; exact mb
  have kcs : cTk s11 l := k10.sm F rfl rfl
  refine (hq s11 kcs ⟨⟨P, g11, fun r h1 h2 => ?_, fun z d hd => ?_, Or.inl ?_⟩, y49, y74⟩ trivial)
  · by_cases e : r = rN
    · subst e
      refine ⟨n, List.mem_cons_self .., n, rch.rt kids n, hK, n29, by rw [F9.a 72 r rfl, c72, elk]; exact R.a72, by rw [F9.a 71 r rfl, c71, R.a71]; omega, by rw [F9.a 71 r rfl, c71, R.a71]; omega, ?_, fun z => ?_⟩
      · rw [F9.a 71 r rfl, c71, R.a71, i70r]
        have := p.mu
        rw [R.s75] at this
        unfold rng
        omega
      · have z9 : zv s9 12 = 0 := by rw [← F9.v 12 rfl]; exact z
        rw [i70r, elk]
        exact (p9.1.2.2.2.1 z9 b (List.mem_cons_self ..)).fr h hbN (Int.le_refl _) (by omega) (by omega) (fun r _ => F9.a 72 r rfl) (fun y _ => nn y)
    · obtain ⟨d, hd, q⟩ := p9.1.2.2.1 r (by omega) (by omega)
      rw [List.mem_singleton.mp hd] at q
      exact ⟨n, List.mem_cons_self .., (q.frR h hbN (fm.sm F9 rfl) (by omega) (by omega) (fun r _ => F9.a 72 r rfl) ⟨i70 r e, F9.a 71 r rfl, F9.a 72 r rfl⟩ (fun x _ _ y _ => nn y)).upw ((rch.rt kids n).kid mb)⟩
  · rw [List.mem_singleton.mp hd]
    refine FA.tv (kr_no (by omega)) (fac_54 hK ⟨rN, n29, by omega, by rw [F9.a 72 rN rfl, c72, elk]; exact R.a72, ?_⟩)
    rw [n31]
    have := R.n31
    omega
  · rw [F9.v 82 rfl]
    rcases p9.1.2.2.2.2 with q | ⟨q0, -⟩
    · rw [q, R.F.v 82 rfl]
    · rw [R.s73] at q0
      omega
end RE

