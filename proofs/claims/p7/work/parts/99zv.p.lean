/-! THE CHECK: VALOF, PLACES -/
section VP
variable {s0 : zS} {kids : Nat → List Nat} {up sz : Nat → Nat} {root N : Nat} {Qc : zS → Prop}
theorem tE_4 (h : fF s0 kids up sz [root] N) (hN : N ≤ 2700) {n : Nat} (hr : rch kids root n) (hK : za s0 25 n = 4) (iC : ∀ c ∈ kids n, kC (za s0 25 c) → tri s0 kids up sz root N Qc 0 2 c tt tt) : tri s0 kids up sz root N Qc 1 3 n tt tt := by
  have hn := h.lt hr
  have hzs : sz n = 1 + szs sz (kids n) := h.ss n hn
  have hsh := h.sh n hn
  rw [hK] at hsh
  obtain ⟨a, q1, qa⟩ := hsh.va rfl
  obtain ⟨c, ek, rfl⟩ := map1 q1
  have hc : c ∈ kids n := by rw [ek]; exact List.mem_cons_self ..
  have hcN := (h.kd n hn c hc).1
  have hcx : cxF (za s0 25) up root N c = ((cxF (za s0 25) up root N n).1, false, (n : Int), []) := by
    rw [cxF_kid _ h hr hc, hK]
    rfl
  have hkr : kr (za s0 25) kids n = [c] := by rw [kr_eq (by rw [hK]; rfl), ek]
  have ez : szs sz (kids n) = sz c := by rw [ek]; simp only [szs, List.map_cons, List.map_nil, List.sum_cons, List.sum_nil]; omega
  have ez1 : szs sz [c] = sz c := by rw [← ek]; exact ez
  have hzc : 1 ≤ sz c := by have := h.ss c hcN; omega
  have ch := h.ch n hn
  rw [ek] at ch
  refine tri.mk (by omega) h hn hY_tt (fun m s l k1 hl hp _ hq => go_3 (eo_4 (by omega) (by rw [hp.1.st.a 25 n rfl]; exact hK) ?_))
  obtain ⟨g, hx, hb⟩ := hp
  obtain ⟨b1, b2, b3, b4, b5, b6, b7, b8⟩ := id hb
  have gsv := g.sv
  have gvf := g.vf
  have glo := g.lo
  have gsw := g.sw
  have S0 : sSt s s (zv s 67).toNat [] := ⟨by show zv s 67 = (((zv s 67).toNat + 0 : Nat) : Int); omega, trivial, fun _ _ => rfl⟩
  refine sp_putS S0 (by show _ + 0 < 60000; omega) (fun s1 f1 S1 => ?_)
  refine sp_putS S1 (by show _ + 1 < 60000; omega) (fun s2 f2 S2 => ?_)
  refine sp_putS S2 (by show _ + 2 < 60000; omega) (fun s3 f3 S3 => ?_)
  have f13 : zSm s s3 [68] [67] := (f1.tr f2 rfl rfl).tr f3 rfl rfl
  have g3 : GI s0 kids root s3 := g.smS (by rw [S3.1]; omega) f13 rfl rfl rfl rfl
  have e78 : zv s3 78 = zv s 78 := f13.v 78 rfl
  rw [e78]
  refine ⟨⟨by omega, by omega⟩, ?_⟩
  have g4 : GI s0 kids root (zpv (zpv (zpv (zpv s3 78 (zv s 78 + 1)) 77 (zv s 78 + 1)) 79 0) 80 0) := (((g3.p78 (by omega)).p77 ⟨by omega, by show zv s 78 + 1 ≤ zv s 78 + 1; omega⟩).p79 (by omega)).p80 (by omega)
  have f4 : zSm s3 (zpv (zpv (zpv (zpv s3 78 (zv s 78 + 1)) 77 (zv s 78 + 1)) 79 0) 80 0) [] [77, 78, 79, 80] := (((zSm.rf.pv rfl).pv rfl).pv rfl).pv rfl
  refine sp_task ((k1.sm f13 rfl rfl).sm f4 rfl rfl) (by omega) 14 n 0 (fun s5 k5 f5 => ?_)
  rw [g4.st.a 27 n rfl |> fun _ => (f5.a 27 n rfl).trans (g4.st.a 27 n rfl), ch.1]
  refine ⟨by omega, by omega, sp_task k5 (by show l.length + 1 < 26000; omega) 2 c 0 (fun s6 k6 f6 => ?_)⟩
  have f46 : zSm (zpv (zpv (zpv (zpv s3 78 (zv s 78 + 1)) 77 (zv s 78 + 1)) 79 0) 80 0) s6 [64, 65, 66] [63] := f5.tr f6 rfl rfl
  have g6 := g4.sm f46 rfl rfl rfl rfl
  have F : zSm s s6 [64, 65, 66, 68] [63, 67, 77, 78, 79, 80] := ((zSm.rf.tr f13 rfl rfl : zSm s s3 [64, 65, 66, 68] [63, 67, 77, 78, 79, 80]).tr f4 rfl rfl).tr f46 rfl rfl
  have v78 : zv s6 78 = zv s 78 + 1 := by rw [f46.v 78 rfl]; rfl
  have v77 : zv s6 77 = zv s 78 + 1 := by rw [f46.v 77 rfl]; rfl
  have v79 : zv s6 79 = 0 := by rw [f46.v 79 rfl]; rfl
  have v80 : zv s6 80 = 0 := by rw [f46.v 80 rfl]; rfl
  have S6 := (S3.sm f4 rfl rfl).sm f46 rfl rfl
  have v67 : zv s6 67 = zv s 67 + 3 := by
    rw [S6.1]
    show (((zv s 67).toNat + 3 : Nat) : Int) = _
    omega
  have X6 : cX s0 kids s6 (cxF (za s0 25) up root N c) := by
    rw [hcx]
    refine ⟨fun q => absurd v79 q, fun q => absurd v80 q, fun _ => by show (0 : Int) ≤ (n : Int); omega, ?_, fun e he => ?_⟩
    · rw [F.v 76 rfl]
      exact hx.2.2.2.1
    · rw [F.v 49 rfl] at he
      obtain ⟨x1, -⟩ := hx.2.2.2.2 e he
      rw [F.a 51 e rfl, F.a 52 e rfl, F.a 53 e rfl, F.a 54 e rfl, F.v 73 rfl, F.v 75 rfl]
      refine ⟨x1, fun k k2 k3 => ?_⟩
      have := ((g.eg e he).2.2.2.2 k).2.1
      omega
  have B6 : cB s6 (sz c) (ub (za s0 25) kids sz c) (l.length + 1) := by
    have u1 := ub_le h hcN
    rw [ub_o (by omega)] at b1
    unfold cB
    rw [v78, v79, v80, v67, F.v 49 rfl, F.v 69 rfl, F.v 81 rfl]
    omega
  refine (iC c hc qa (m + 1) s6 ((14, (n : Int), 0) :: l) k6 ⟨g6, X6, B6⟩ trivial (fun s7 k7 p7 _ => ?_)).le (by omega)
  refine kL.step k7 (by omega) (fun s8 f8 k8 => go_14 ?_)
  have e80 : zv s2 80 = zv s 80 := (f1.tr f2 rfl rfl : zSm s s2 [68] [67]).v 80 rfl
  have e79 : zv s1 79 = zv s 79 := f1.v 79 rfl
  have S8 : sSt s s8 (zv s 67).toNat [zv s 80, zv s 79, zv s 77] := by
    have := (S6.cp p7.1.1).sm f8 rfl rfl
    rw [e80, e79] at this
    exact this
  refine sp_pullS S8 (by show _ + 2 < 60000; omega) (fun s9 f9 S9 => ?_)
  have h9 : zSm s9 (zpv s9 80 (zv s 80)) [] [80] := zSm.rf.pv rfl
  refine sp_pullS (S9.sm h9 rfl rfl) (by show _ + 1 < 60000; omega) (fun s10 f10 S10 => ?_)
  have h10 : zSm s10 (zpv s10 79 (zv s 79)) [] [79] := zSm.rf.pv rfl
  refine sp_pullS (S10.sm h10 rfl rfl) (by show _ + 0 < 60000; omega) (fun s11 f11 S11 => ?_)
  have h11 : zSm s11 (zpv s11 77 (zv s 77)) [] [77] := zSm.rf.pv rfl
  have S12 := S11.sm h11 rfl rfl
  have w77 : zv (zpv s11 77 (zv s 77)) 77 = zv s 77 := rfl
  have w79 : zv (zpv s11 77 (zv s 77)) 79 = zv s 79 := by rw [h11.v 79 rfl, f11.v 79 rfl]; rfl
  have w80 : zv (zpv s11 77 (zv s 77)) 80 = zv s 80 := by rw [h11.v 80 rfl, f11.v 80 rfl, h10.v 80 rfl, f10.v 80 rfl]; rfl
  have f7 : zSm s7 (zpv s11 77 (zv s 77)) [] [63, 67, 77, 79, 80] := ((((((zSm.rf.tr f8 rfl rfl : zSm s7 s8 [] [63, 67, 77, 79, 80]).tr f9 rfl rfl).tr h9 rfl rfl).tr f10 rfl rfl).tr h10 rfl rfl).tr f11 rfl rfl).tr h11 rfl rfl
  have g9 : GI s0 kids root s9 := (p7.1.2.1.sm f8 rfl rfl rfl rfl).smS (by rw [S9.1]; omega) f9 rfl rfl rfl rfl
  have g10 : GI s0 kids root s10 := (g9.p80 gsw).smS (by rw [S10.1]; omega) f10 rfl rfl rfl rfl
  have g11 : GI s0 kids root s11 := (g10.p79 glo).smS (by rw [S11.1]; omega) f11 rfl rfl rfl rfl
  have v2 : zv s11 78 = zv s7 78 := f7.v 78 rfl
  have pv1 := p7.1.1.v1
  have pv2 := p7.1.1.v2
  have g12 : GI s0 kids root (zpv s11 77 (zv s 77)) := g11.p77 ⟨gvf.1, by omega⟩
  generalize hs12 : zpv s11 77 (zv s 77) = s12 at *
  have v2' : zv s12 78 = zv s7 78 := f7.v 78 rfl
  have p := p7.1.1
  rw [ez1] at p pv2
  have mm : fm s s12 := ((fm.sm F rfl).tr p.m).tr (fm.sm f7 rfl)
  have P : cP s s12 (bel kids [n]) (sz n) := by
    refine ⟨mm, ?_, fun i hi => S12.2.2 i (by omega), ?_, ?_, fun e he => ?_, ?_, ?_, ?_, w77, w79, w80, ?_, ?_, ?_, ?_, ?_, fun r hr2 => ?_, ?_, ?_, fun x hx2 => ?_⟩
    · rw [S12.1]
      show (((zv s 67).toNat + 0 : Nat) : Int) = _
      omega
    · rw [f7.v 49 rfl, p7.2.1, F.v 49 rfl]; exact Int.le_refl _
    · rw [f7.v 49 rfl, p7.2.1, F.v 49 rfl]; omega
    · obtain ⟨r1, r2, r3, r4, r5⟩ := p.er e (by rw [F.v 49 rfl]; exact he)
      rw [f7.a 50 e rfl, f7.a 51 e rfl, f7.a 52 e rfl, f7.a 53 e rfl, f7.a 54 e rfl]
      rw [F.a 50 e rfl] at r1
      rw [F.a 51 e rfl] at r2 r5
      rw [F.a 52 e rfl] at r3
      rw [F.a 53 e rfl] at r4
      rw [F.a 54 e rfl] at r5
      exact ⟨r1, r2, r3, r4, r5⟩
    · rw [f7.v 55 rfl, p.s55, F.v 55 rfl]
    · rw [f7.v 73 rfl, p.s73, F.v 73 rfl]
    · rw [f7.v 76 rfl, p.s76, F.v 76 rfl]
    · have := p.mu
      rw [f7.v 75 rfl]
      rw [F.v 75 rfl] at this
      exact this
    · have := p.w1
      rw [f7.v 81 rfl]
      rw [F.v 81 rfl] at this
      exact this
    · have := p.w2
      rw [f7.v 81 rfl]
      rw [F.v 81 rfl] at this
      omega
    · have := p.r1
      rw [f7.v 69 rfl]
      rw [F.v 69 rfl] at this
      exact this
    · have := p.r2
      rw [f7.v 69 rfl]
      rw [F.v 69 rfl] at this
      omega
    · obtain ⟨r1, r2, r3⟩ := p.rr r (by rw [F.v 69 rfl]; exact hr2)
      rw [f7.a 70 r rfl, f7.a 71 r rfl, f7.a 72 r rfl]
      rw [F.a 70 r rfl] at r1
      rw [F.a 71 r rfl] at r2
      rw [F.a 72 r rfl] at r3
      exact ⟨r1, r2, r3⟩
    · omega
    · omega
    · obtain ⟨r1, r2, r3⟩ := p.nd x (fun ⟨d, hd, hr2⟩ => hx2 ⟨n, List.mem_cons_self .., by rw [List.mem_singleton.mp hd] at hr2; exact ((rch.rt kids n).kid hc).tr hr2⟩)
      rw [f7.a 29 x rfl, f7.a 30 x rfl, f7.a 31 x rfl]
      rw [F.a 29 x rfl] at r1
      rw [F.a 30 x rfl] at r2
      rw [F.a 31 x rfl] at r3
      exact ⟨r1, r2, r3⟩
  refine hq s12 ?_ ⟨PBc.nodeQ h hn (ks := [c]) (fun d hd => by rw [hkr]; exact hd) (fun d hd => by rw [hkr] at hd; exact hd) P (F.v 69 rfl) (F.v 82 rfl) (F.v 73 rfl) p7.1 (cQ.sm f7 (fm.sm f7 rfl) rfl rfl) (f7.v 69 rfl) (f7.v 82 rfl) g12 (fun _ => fac_no (by rw [hK]; rfl)), by rw [f7.v 49 rfl, p7.2.1, F.v 49 rfl], by rw [f7.v 74 rfl, p7.2.2, F.v 74 rfl]⟩ trivial
  have f82 : zSm s8 s12 [] [67, 77, 79, 80] := by
    exact (((((zSm.rf.tr f9 rfl rfl : zSm s8 s9 [] [67, 77, 79, 80]).tr h9 rfl rfl).tr f10 rfl rfl).tr h10 rfl rfl).tr f11 rfl rfl).tr h11 rfl rfl
  exact k8.sm f82 rfl rfl
end VP

