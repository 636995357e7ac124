/-! THE CHECK: A ROUTINE BEGINS -/
/-- a routine has begun: its number, its parameters, its body -/
def rtS (s0 : zS) (kids : Nat → List Nat) (root : Nat) (s s8 : zS) (n rN i b : Nat) : Prop :=
  (zSm s s8 [29, 31, 50, 51, 52, 53, 54, 57, 64, 65, 66, 68, 71, 72, 85, 86] [12, 13, 49, 55, 63, 67, 69, 73, 74, 75, 76, 77, 79, 80, 81, 84]) ∧
  (GI s0 kids root s8) ∧
  (sSt s s8 (zv s 67).toNat [zv s 49, zv s 55, zv s 80, zv s 79, zv s 77, zv s 76, zv s 75, zv s 74, zv s 73]) ∧
  (zv s8 69 = rN + 1) ∧
  (zv s8 73 = rN) ∧
  (zv s8 74 = 2 + i) ∧
  (zv s8 75 = 2 + i) ∧
  (zv s8 76 = 0 → 20 ≤ za s0 25 b) ∧
  (zv s8 77 = 0) ∧
  (zv s8 79 = 0) ∧
  (zv s8 80 = 0) ∧
  (zv s8 55 = zv s 49) ∧
  (zv s8 49 = zv s 49 + i) ∧
  (zv s 81 ≤ zv s8 81) ∧
  (zv s8 81 ≤ zv s 81 + 1) ∧
  (za s8 29 n = rN) ∧
  (0 ≤ za s8 31 n ∧ (za s8 31 n ≤ 99 ∨ za s8 31 n < zv s8 81)) ∧
  (za s8 71 rN = i) ∧
  (za s8 72 rN = (b : Int)) ∧
  (∀ r : Nat, ¬ r = rN → za s8 71 r = za s 71 r ∧ za s8 72 r = za s 72 r) ∧
  (∀ x : Nat, ¬ x = n → za s8 29 x = za s 29 x ∧ za s8 31 x = za s 31 x) ∧
  (∀ e : Nat, (e : Int) < zv s 49 → za s8 50 e = za s 50 e ∧ za s8 51 e = za s 51 e ∧ za s8 52 e = za s 52 e ∧ za s8 53 e = za s 53 e ∧ za s8 54 e = za s 54 e) ∧
  (∀ e : Nat, zv s 49 ≤ e → (e : Int) < zv s8 49 → za s8 51 e = 4 ∧ za s8 52 e < 2 + i) ∧
  (fm s s8)
theorem rtS.F {s0 : zS} {kids : Nat → List Nat} {root : Nat} {s s8 : zS} {n rN i b : Nat} (h : rtS s0 kids root s s8 n rN i b) : zSm s s8 [29, 31, 50, 51, 52, 53, 54, 57, 64, 65, 66, 68, 71, 72, 85, 86] [12, 13, 49, 55, 63, 67, 69, 73, 74, 75, 76, 77, 79, 80, 81, 84] := h.1
theorem rtS.gi {s0 : zS} {kids : Nat → List Nat} {root : Nat} {s s8 : zS} {n rN i b : Nat} (h : rtS s0 kids root s s8 n rN i b) : GI s0 kids root s8 := h.2.1
theorem rtS.st {s0 : zS} {kids : Nat → List Nat} {root : Nat} {s s8 : zS} {n rN i b : Nat} (h : rtS s0 kids root s s8 n rN i b) : sSt s s8 (zv s 67).toNat [zv s 49, zv s 55, zv s 80, zv s 79, zv s 77, zv s 76, zv s 75, zv s 74, zv s 73] := h.2.2.1
theorem rtS.r69 {s0 : zS} {kids : Nat → List Nat} {root : Nat} {s s8 : zS} {n rN i b : Nat} (h : rtS s0 kids root s s8 n rN i b) : zv s8 69 = rN + 1 := h.2.2.2.1
theorem rtS.s73 {s0 : zS} {kids : Nat → List Nat} {root : Nat} {s s8 : zS} {n rN i b : Nat} (h : rtS s0 kids root s s8 n rN i b) : zv s8 73 = rN := h.2.2.2.2.1
theorem rtS.s74 {s0 : zS} {kids : Nat → List Nat} {root : Nat} {s s8 : zS} {n rN i b : Nat} (h : rtS s0 kids root s s8 n rN i b) : zv s8 74 = 2 + i := h.2.2.2.2.2.1
theorem rtS.s75 {s0 : zS} {kids : Nat → List Nat} {root : Nat} {s s8 : zS} {n rN i b : Nat} (h : rtS s0 kids root s s8 n rN i b) : zv s8 75 = 2 + i := h.2.2.2.2.2.2.1
theorem rtS.s76 {s0 : zS} {kids : Nat → List Nat} {root : Nat} {s s8 : zS} {n rN i b : Nat} (h : rtS s0 kids root s s8 n rN i b) : zv s8 76 = 0 → 20 ≤ za s0 25 b := h.2.2.2.2.2.2.2.1
theorem rtS.v77 {s0 : zS} {kids : Nat → List Nat} {root : Nat} {s s8 : zS} {n rN i b : Nat} (h : rtS s0 kids root s s8 n rN i b) : zv s8 77 = 0 := h.2.2.2.2.2.2.2.2.1
theorem rtS.v79 {s0 : zS} {kids : Nat → List Nat} {root : Nat} {s s8 : zS} {n rN i b : Nat} (h : rtS s0 kids root s s8 n rN i b) : zv s8 79 = 0 := h.2.2.2.2.2.2.2.2.2.1
theorem rtS.v80 {s0 : zS} {kids : Nat → List Nat} {root : Nat} {s s8 : zS} {n rN i b : Nat} (h : rtS s0 kids root s s8 n rN i b) : zv s8 80 = 0 := h.2.2.2.2.2.2.2.2.2.2.1
theorem rtS.v55 {s0 : zS} {kids : Nat → List Nat} {root : Nat} {s s8 : zS} {n rN i b : Nat} (h : rtS s0 kids root s s8 n rN i b) : zv s8 55 = zv s 49 := h.2.2.2.2.2.2.2.2.2.2.2.1
theorem rtS.v49 {s0 : zS} {kids : Nat → List Nat} {root : Nat} {s s8 : zS} {n rN i b : Nat} (h : rtS s0 kids root s s8 n rN i b) : zv s8 49 = zv s 49 + i := h.2.2.2.2.2.2.2.2.2.2.2.2.1
theorem rtS.w1 {s0 : zS} {kids : Nat → List Nat} {root : Nat} {s s8 : zS} {n rN i b : Nat} (h : rtS s0 kids root s s8 n rN i b) : zv s 81 ≤ zv s8 81 := h.2.2.2.2.2.2.2.2.2.2.2.2.2.1
theorem rtS.w2 {s0 : zS} {kids : Nat → List Nat} {root : Nat} {s s8 : zS} {n rN i b : Nat} (h : rtS s0 kids root s s8 n rN i b) : zv s8 81 ≤ zv s 81 + 1 := h.2.2.2.2.2.2.2.2.2.2.2.2.2.2.1
theorem rtS.n29 {s0 : zS} {kids : Nat → List Nat} {root : Nat} {s s8 : zS} {n rN i b : Nat} (h : rtS s0 kids root s s8 n rN i b) : za s8 29 n = rN := h.2.2.2.2.2.2.2.2.2.2.2.2.2.2.2.1
theorem rtS.n31 {s0 : zS} {kids : Nat → List Nat} {root : Nat} {s s8 : zS} {n rN i b : Nat} (h : rtS s0 kids root s s8 n rN i b) : 0 ≤ za s8 31 n ∧ (za s8 31 n ≤ 99 ∨ za s8 31 n < zv s8 81) := h.2.2.2.2.2.2.2.2.2.2.2.2.2.2.2.2.1
theorem rtS.a71 {s0 : zS} {kids : Nat → List Nat} {root : Nat} {s s8 : zS} {n rN i b : Nat} (h : rtS s0 kids root s s8 n rN i b) : za s8 71 rN = i := h.2.2.2.2.2.2.2.2.2.2.2.2.2.2.2.2.2.1
theorem rtS.a72 {s0 : zS} {kids : Nat → List Nat} {root : Nat} {s s8 : zS} {n rN i b : Nat} (h : rtS s0 kids root s s8 n rN i b) : za s8 72 rN = (b : Int) := h.2.2.2.2.2.2.2.2.2.2.2.2.2.2.2.2.2.2.1
theorem rtS.o71 {s0 : zS} {kids : Nat → List Nat} {root : Nat} {s s8 : zS} {n rN i b : Nat} (h : rtS s0 kids root s s8 n rN i b) : ∀ r : Nat, ¬ r = rN → za s8 71 r = za s 71 r ∧ za s8 72 r = za s 72 r := h.2.2.2.2.2.2.2.2.2.2.2.2.2.2.2.2.2.2.2.1
theorem rtS.nd {s0 : zS} {kids : Nat → List Nat} {root : Nat} {s s8 : zS} {n rN i b : Nat} (h : rtS s0 kids root s s8 n rN i b) : ∀ x : Nat, ¬ x = n → za s8 29 x = za s 29 x ∧ za s8 31 x = za s 31 x := h.2.2.2.2.2.2.2.2.2.2.2.2.2.2.2.2.2.2.2.2.1
theorem rtS.er {s0 : zS} {kids : Nat → List Nat} {root : Nat} {s s8 : zS} {n rN i b : Nat} (h : rtS s0 kids root s s8 n rN i b) : ∀ e : Nat, (e : Int) < zv s 49 → za s8 50 e = za s 50 e ∧ za s8 51 e = za s 51 e ∧ za s8 52 e = za s 52 e ∧ za s8 53 e = za s 53 e ∧ za s8 54 e = za s 54 e := h.2.2.2.2.2.2.2.2.2.2.2.2.2.2.2.2.2.2.2.2.2.1
theorem rtS.nw {s0 : zS} {kids : Nat → List Nat} {root : Nat} {s s8 : zS} {n rN i b : Nat} (h : rtS s0 kids root s s8 n rN i b) : ∀ e : Nat, zv s 49 ≤ e → (e : Int) < zv s8 49 → za s8 51 e = 4 ∧ za s8 52 e < 2 + i := h.2.2.2.2.2.2.2.2.2.2.2.2.2.2.2.2.2.2.2.2.2.2.1
theorem rtS.m {s0 : zS} {kids : Nat → List Nat} {root : Nat} {s s8 : zS} {n rN i b : Nat} (h : rtS s0 kids root s s8 n rN i b) : fm s s8 := h.2.2.2.2.2.2.2.2.2.2.2.2.2.2.2.2.2.2.2.2.2.2.2

section RB
variable {s0 : zS} {kids : Nat → List Nat} {up sz : Nat → Nat} {root N : Nat} {Qc : zS → Prop}
theorem sp_routineOf (h : fF s0 kids up sz [root] N) (hN : N ≤ 2700) {n b : Nat} {ps : List Nat} (hr : rch kids root n) (hK : za s0 25 n = 54) (ek : kids n = ps ++ [b]) (hps : ∀ c ∈ ps, za s0 25 c = 57) (hp20 : ps.length ≤ 20) (hb57 : ¬ za s0 25 b = 57) {s : zS} (g : GI s0 kids root s) {l : List cT} (k1 : cTk s l) (hl : l.length + 2 ≤ 26000) (h49 : zv s 49 + ps.length ≤ 9000) (h67 : zv s 67 + 9 ≤ 60000) (h69 : zv s 69 + 1 ≤ 3000) (h81 : zv s 81 + 1 ≤ 1000000) (hY : roY n s) {Q : zS → Prop} (hq : ∀ s8, rtS s0 kids root s s8 n (zv s 69).toNat ps.length b → cTk s8 (((if 20 ≤ za s0 25 b then 2 else 3 : Int), (b : Int), 0) :: (7, (n : Int), 0) :: l) → Q s8) : wr_routineOf s n 0 Q := by
  have hn := h.lt hr
  have hkl : ∀ c ∈ kids n, c < N := fun c hc => (h.kd n hn c hc).1
  have mb : b ∈ kids n := by rw [ek]; exact List.mem_append.mpr (Or.inr (List.mem_cons_self ..))
  have hbN := hkl b mb
  have ro := g.ro
  have wd := g.wd
  have sv := g.sv
  have en := g.en
  have bb := g.bb
  obtain ⟨rN, er⟩ : ∃ rN : Nat, zv s 69 = rN := ⟨(zv s 69).toNat, by omega⟩
  rw [er, Int.toNat_natCast] at hq
  -- from behind its number and word on
  have B : ∀ s2, zSm s s2 [29, 31] [69, 81] → GI s0 kids root s2 → zv s2 69 = rN + 1 → zv s 81 ≤ zv s2 81 → zv s2 81 ≤ zv s 81 + 1 → za s2 29 n = rN → (0 ≤ za s2 31 n ∧ (za s2 31 n ≤ 99 ∨ za s2 31 n < zv s2 81)) → (∀ x : Nat, ¬ x = n → za s2 29 x = za s 29 x ∧ za s2 31 x = za s 31 x) → wr_routineOf_73 Q s2 n rN := fun s2 f2 g2 c69 c81 c81b c29 c31 cnd => by
    unfold wr_routineOf_73
    rw [Int.toNat_natCast]
    refine ⟨by omega, by omega, ⟨by omega, by omega⟩, sp_init s2 _ _ g2.it.1 g2.it.2.1 (fun s3 f3 i0 i1 i2 => ?_)⟩
    have g3 := g2.ini f3 i0 i1 i2 c31
    have f03 : zSm s s3 [29, 31, 85, 86] [69, 81, 84] := (zSm.rf.tr f2 rfl rfl : zSm s s2 [29, 31, 85, 86] [69, 81, 84]).tr f3 rfl rfl
    have S3 : sSt s s3 (zv s 67).toNat [] := (sSt.nw sv).sm f03 rfl rfl
    have bl : ∀ k : Nat, k ≤ 8 → (zv s 67).toNat + k < 60000 := fun k hk => by omega
    have e73 : zv s3 73 = zv s 73 := f03.v 73 rfl
    rw [e73]
    refine sp_putS S3 (bl 0 (by omega)) (fun t1 j1 S4 => ?_)
    have e74 : zv t1 74 = zv s 74 := by rw [j1.v 74 rfl, f03.v 74 rfl]
    rw [e74]
    refine sp_putS S4 (bl 1 (by omega)) (fun t2 j2 S5 => ?_)
    have e75 : zv t2 75 = zv s 75 := by rw [j2.v 75 rfl, j1.v 75 rfl, f03.v 75 rfl]
    rw [e75]
    refine sp_putS S5 (bl 2 (by omega)) (fun t3 j3 S6 => ?_)
    have f33 : zSm s3 t3 [68] [67] := (j1.tr j2 rfl rfl : zSm s3 t2 [68] [67]).tr j3 rfl rfl
    have e76 : zv t3 76 = zv s 76 := by rw [f33.v 76 rfl, f03.v 76 rfl]
    -- the gives that is saved
    have C : ∀ y0 : Int, y0 = zv s 76 → wr_routineOf_125 Q t3 n rN y0 := fun y0 hy0 => by
      subst hy0
      unfold wr_routineOf_125
      refine sp_putS S6 (bl 3 (by omega)) (fun t4 j4 S7 => ?_)
      have f34 : zSm s3 t4 [68] [67] := f33.tr j4 rfl rfl
      have e77 : zv t4 77 = zv s 77 := by rw [f34.v 77 rfl, f03.v 77 rfl]
      rw [e77]
      refine sp_putS S7 (bl 4 (by omega)) (fun t5 j5 S8 => ?_)
      have f35 : zSm s3 t5 [68] [67] := f34.tr j5 rfl rfl
      have e79 : zv t5 79 = zv s 79 := by rw [f35.v 79 rfl, f03.v 79 rfl]
      rw [e79]
      refine sp_putS S8 (bl 5 (by omega)) (fun t6 j6 S9 => ?_)
      have f36 : zSm s3 t6 [68] [67] := f35.tr j6 rfl rfl
      have e80 : zv t6 80 = zv s 80 := by rw [f36.v 80 rfl, f03.v 80 rfl]
      rw [e80]
      refine sp_putS S9 (bl 6 (by omega)) (fun t7 j7 S10 => ?_)
      have f37 : zSm s3 t7 [68] [67] := f36.tr j7 rfl rfl
      have e55 : zv t7 55 = zv s 55 := by rw [f37.v 55 rfl, f03.v 55 rfl]
      rw [e55]
      refine sp_putS S10 (bl 7 (by omega)) (fun t8 j8 S11 => ?_)
      have f38 : zSm s3 t8 [68] [67] := f37.tr j8 rfl rfl
      have e49 : zv t8 49 = zv s 49 := by rw [f38.v 49 rfl, f03.v 49 rfl]
      rw [e49]
      refine sp_putS S11 (bl 8 (by omega)) (fun t9 j9 S12 => ?_)
      have f39 : zSm s3 t9 [68] [67] := f38.tr j9 rfl rfl
      have g9 : GI s0 kids root t9 := g3.smS (by rw [S12.1]; omega) f39 rfl rfl rfl rfl
      have u49 : zv t9 49 = zv s 49 := by rw [f39.v 49 rfl, f03.v 49 rfl]
      have u69 : zv t9 69 = rN + 1 := by rw [f39.v 69 rfl, f3.v 69 rfl, c69]
      have u81 : zv t9 81 = zv s2 81 := by rw [f39.v 81 rfl, f3.v 81 rfl]
      have f0t : zSm s t9 [29, 31, 68, 85, 86] [67, 69, 81, 84] := (zSm.rf.tr f03 rfl rfl : zSm s s3 [29, 31, 68, 85, 86] [67, 69, 81, 84]).tr f39 rfl rfl
      rw [u49, Int.toNat_natCast, Int.toNat_natCast]
      refine ⟨by omega, by omega, by omega, by omega, (kids n).length + 1, ?_⟩
      have gv9 := g9.vf
      have g10 : GI s0 kids root (zpv (zpv (zpv (zpv (zpv (zpv t9 73 rN) 74 2) 77 0) 79 0) 80 0) 55 (zv s 49)) := ((((((g9.p73 (x := rN) ⟨by omega, by omega, fun _ => by omega⟩).p74 (x := 2) ⟨by omega, by omega⟩).p77 (x := 0) ⟨by omega, by show (0 : Int) ≤ zv t9 78; omega⟩).p79 (x := 0) (by omega)).p80 (x := 0) (by omega)).p55 ⟨en.1, by show zv s 49 ≤ zv t9 49; omega⟩)
      have f10 : zSm t9 (zpa (zpv (zpv (zpv (zpv (zpv (zpv t9 73 rN) 74 2) 77 0) 79 0) 80 0) 55 (zv s 49)) 71 rN 0) [71] [55, 73, 74, 77, 79, 80] := ((((((zSm.rf.pv rfl).pv rfl).pv rfl).pv rfl).pv rfl).pv rfl).pa rfl
      have g11 : GI s0 kids root (zpa (zpv (zpv (zpv (zpv (zpv (zpv t9 73 rN) 74 2) 77 0) 79 0) 80 0) 55 (zv s 49)) 71 rN 0) := g10.sm (js := [71]) (ks := []) (zSm.rf.pa rfl) rfl rfl rfl rfl
      have S13 := S12.sm f10 rfl rfl
      have w71 : za (zpa (zpv (zpv (zpv (zpv (zpv (zpv t9 73 rN) 74 2) 77 0) 79 0) 80 0) 55 (zv s 49)) 71 rN 0) 71 rN = 0 := by rw [za_pa, if_pos rfl, if_pos rfl]
      have w71o : ∀ r : Nat, ¬ r = rN → za (zpa (zpv (zpv (zpv (zpv (zpv (zpv t9 73 rN) 74 2) 77 0) 79 0) 80 0) 55 (zv s 49)) 71 rN 0) 71 r = za s 71 r := fun r hr2 => by
        rw [za_pa, if_pos rfl, if_neg hr2]
        exact f0t.a 71 r rfl
      have w73 : zv (zpa (zpv (zpv (zpv (zpv (zpv (zpv t9 73 rN) 74 2) 77 0) 79 0) 80 0) 55 (zv s 49)) 71 rN 0) 73 = rN := rfl
      have w74 : zv (zpa (zpv (zpv (zpv (zpv (zpv (zpv t9 73 rN) 74 2) 77 0) 79 0) 80 0) 55 (zv s 49)) 71 rN 0) 74 = 2 := rfl
      have w77 : zv (zpa (zpv (zpv (zpv (zpv (zpv (zpv t9 73 rN) 74 2) 77 0) 79 0) 80 0) 55 (zv s 49)) 71 rN 0) 77 = 0 := rfl
      have w79 : zv (zpa (zpv (zpv (zpv (zpv (zpv (zpv t9 73 rN) 74 2) 77 0) 79 0) 80 0) 55 (zv s 49)) 71 rN 0) 79 = 0 := rfl
      have w80 : zv (zpa (zpv (zpv (zpv (zpv (zpv (zpv t9 73 rN) 74 2) 77 0) 79 0) 80 0) 55 (zv s 49)) 71 rN 0) 80 = 0 := rfl
      have w55 : zv (zpa (zpv (zpv (zpv (zpv (zpv (zpv t9 73 rN) 74 2) 77 0) 79 0) 80 0) 55 (zv s 49)) 71 rN 0) 55 = zv s 49 := rfl
      rw [show za t9 27 n = za s0 27 n from g9.st.a 27 n rfl]
      generalize zpa (zpv (zpv (zpv (zpv (zpv (zpv t9 73 rN) 74 2) 77 0) 79 0) 80 0) 55 (zv s 49)) 71 rN 0 = s5 at f10 g11 S13 w71 w71o w73 w74 w77 w79 w80 w55
      have f05 : zSm s s5 [29, 31, 68, 71, 85, 86] [55, 67, 69, 73, 74, 77, 79, 80, 81, 84] := (zSm.rf.tr f0t rfl rfl : zSm s t9 [29, 31, 68, 71, 85, 86] [55, 67, 69, 73, 74, 77, 79, 80, 81, 84]).tr f10 rfl rfl
      have v49 : zv s5 49 = zv s 49 := f05.v 49 rfl
      have v69 : zv s5 69 = rN + 1 := by rw [f10.v 69 rfl]; exact u69
      have v81 : zv s5 81 = zv s2 81 := by rw [f10.v 81 rfl]; exact u81
      have k5 : cTk s5 l := k1.sm f05 rfl rfl
      -- parameters, then the body
      have L : ∀ (ks : List Nat) (x : Int) (m2 i : Nat) (s6 : zS), ks.length + 1 < m2 + 1 → 0 < m2 → fCh s6 x (ks ++ [b]) → (∀ d ∈ ks, d ∈ ps) → i + ks.length = ps.length → zSm s5 s6 [50, 51, 52, 53, 54, 57, 71] [12, 13, 49, 74] → fm s5 s6 → GI s0 kids root s6 → zv s6 74 = 2 + i → za s6 71 rN = i → zv s6 49 = zv s 49 + i → (∀ r : Nat, ¬ r = rN → za s6 71 r = za s5 71 r) → (∀ e : Nat, (e : Int) < zv s 49 → za s6 50 e = za s5 50 e ∧ za s6 51 e = za s5 51 e ∧ za s6 52 e = za s5 52 e ∧ za s6 53 e = za s5 53 e ∧ za s6 54 e = za s5 54 e) → (∀ e : Nat, zv s 49 ≤ e → (e : Int) < zv s6 49 → za s6 51 e = 4 ∧ za s6 52 e < 2 + i) → wr_routineOf_216 Q m2 s6 n rN x := by
        intro ks
        induction ks with
        | nil =>
          intro x m2 i s6 _ hm h1 _ hi f6 m6 g6 y74 y71 y49 y71o yer ynw
          obtain ⟨m2, rfl⟩ : ∃ q, m2 = q + 1 := ⟨m2 - 1, by omega⟩
          have h1' : x = (b : Int) := h1.1
          have hi' : i = ps.length := hi
          subst h1'
          have e25 : za s6 25 b = za s0 25 b := g6.st.a 25 b rfl
          have f06 : zSm s s6 [29, 31, 50, 51, 52, 53, 54, 57, 68, 71, 85, 86] [12, 13, 49, 55, 67, 69, 73, 74, 77, 79, 80, 81, 84] := (zSm.rf.tr f05 rfl rfl : zSm s s5 [29, 31, 50, 51, 52, 53, 54, 57, 68, 71, 85, 86] [12, 13, 49, 55, 67, 69, 73, 74, 77, 79, 80, 81, 84]).tr f6 rfl rfl
          have E : ∀ y0 : Int, (y0 = 0 ∨ y0 = 1) → (y0 = 0 → 20 ≤ za s0 25 b) → (y0 = 1 → ¬ 20 ≤ za s0 25 b) → wr_routineOf_312 Q (zpv s6 75 (zv s6 74)) n rN b y0 := fun y0 hy hy0 hy1 => by
            have f7 : zSm s6 (zpa (zpv (zpv s6 75 (zv s6 74)) 76 y0) 72 rN b) [72] [75, 76] := ((zSm.rf.pv rfl).pv rfl).pa rfl
            have g7 : GI s0 kids root (zpa (zpv (zpv s6 75 (zv s6 74)) 76 y0) 72 rN b) := ((g6.sm (js := []) (ks := [75]) (s' := zpv s6 75 (zv s6 74)) (zSm.rf.pv rfl) rfl rfl rfl rfl).p76 hy).sm (js := [72]) (ks := []) (zSm.rf.pa rfl) rfl rfl rfl rfl
            have k7 : cTk (zpa (zpv (zpv s6 75 (zv s6 74)) 76 y0) 72 rN b) l := (k5.sm f6 rfl rfl).sm f7 rfl rfl
            have S7 := (S13.sm f6 rfl rfl).sm f7 rfl rfl
            have z72 : za (zpa (zpv (zpv s6 75 (zv s6 74)) 76 y0) 72 rN b) 72 rN = b := by rw [za_pa, if_pos rfl, if_pos rfl]
            have z72o : ∀ r : Nat, ¬ r = rN → za (zpa (zpv (zpv s6 75 (zv s6 74)) 76 y0) 72 rN b) 72 r = za s 72 r := fun r hr2 => by
              rw [za_pa, if_pos rfl, if_neg hr2]
              exact f06.a 72 r rfl
            have z75 : zv (zpa (zpv (zpv s6 75 (zv s6 74)) 76 y0) 72 rN b) 75 = 2 + i := y74
            have z76 : zv (zpa (zpv (zpv s6 75 (zv s6 74)) 76 y0) 72 rN b) 76 = y0 := rfl
            unfold wr_routineOf_312
            rw [Int.toNat_natCast]
            refine ⟨hy, by omega, by omega, ?_⟩
            generalize zpa (zpv (zpv s6 75 (zv s6 74)) 76 y0) 72 rN b = s7 at f7 g7 k7 S7 z72 z72o z75 z76
            refine sp_task k7 (by omega) 7 n 0 (fun t1 j1 i1 => ?_)
            have z76' : zv t1 76 = y0 := by rw [i1.v 76 rfl]; exact z76
            have fin : ∀ t2 (ty : Int), zSm t1 t2 [64, 65, 66] [63] → cTk t2 ((ty, (b : Int), 0) :: (7, (n : Int), 0) :: l) → ty = (if 20 ≤ za s0 25 b then 2 else 3 : Int) → Q t2 := fun t2 ty i2 j2 hty => by
              have i12 : zSm s7 t2 [64, 65, 66] [63] := i1.tr i2 rfl rfl
              have FF : zSm s t2 [29, 31, 50, 51, 52, 53, 54, 57, 64, 65, 66, 68, 71, 72, 85, 86] [12, 13, 49, 55, 63, 67, 69, 73, 74, 75, 76, 77, 79, 80, 81, 84] := ((zSm.rf.tr f06 rfl rfl : zSm s s6 [29, 31, 50, 51, 52, 53, 54, 57, 64, 65, 66, 68, 71, 72, 85, 86] [12, 13, 49, 55, 63, 67, 69, 73, 74, 75, 76, 77, 79, 80, 81, 84]).tr f7 rfl rfl).tr i12 rfl rfl
              have f67 : zSm s6 t2 [64, 65, 66, 72] [63, 75, 76] := (zSm.rf.tr f7 rfl rfl : zSm s6 s7 [64, 65, 66, 72] [63, 75, 76]).tr i12 rfl rfl
              have f57 : zSm s5 t2 [50, 51, 52, 53, 54, 57, 64, 65, 66, 71, 72] [12, 13, 49, 63, 74, 75, 76] := (zSm.rf.tr f6 rfl rfl : zSm s5 s6 [50, 51, 52, 53, 54, 57, 64, 65, 66, 71, 72] [12, 13, 49, 63, 74, 75, 76]).tr f67 rfl rfl
              have f9t : zSm t9 t2 [50, 51, 52, 53, 54, 57, 64, 65, 66, 71, 72] [12, 13, 49, 55, 63, 73, 74, 75, 76, 77, 79, 80] := (zSm.rf.tr f10 rfl rfl : zSm t9 s5 [50, 51, 52, 53, 54, 57, 64, 65, 66, 71, 72] [12, 13, 49, 55, 63, 73, 74, 75, 76, 77, 79, 80]).tr f57 rfl rfl
              have f2t : zSm s2 t2 [50, 51, 52, 53, 54, 57, 64, 65, 66, 68, 71, 72, 85, 86] [12, 13, 49, 55, 63, 67, 73, 74, 75, 76, 77, 79, 80, 84] := ((zSm.rf.tr f3 rfl rfl : zSm s2 s3 [50, 51, 52, 53, 54, 57, 64, 65, 66, 68, 71, 72, 85, 86] [12, 13, 49, 55, 63, 67, 73, 74, 75, 76, 77, 79, 80, 84]).tr f39 rfl rfl).tr f9t rfl rfl
              refine hq t2 ⟨FF, (g7.sm i12 rfl rfl rfl rfl), S7.sm i12 rfl rfl, by rw [f57.v 69 rfl]; exact v69, by rw [f57.v 73 rfl]; exact w73, by rw [f67.v 74 rfl, y74, hi'], by rw [i12.v 75 rfl, z75, hi'], fun z => ?_, by rw [f57.v 77 rfl]; exact w77, by rw [f57.v 79 rfl]; exact w79, by rw [f57.v 80 rfl]; exact w80, by rw [f57.v 55 rfl]; exact w55, by rw [f67.v 49 rfl, y49, hi'], by rw [f57.v 81 rfl, v81]; exact c81, by rw [f57.v 81 rfl, v81]; exact c81b, by rw [f2t.a 29 n rfl]; exact c29, by rw [f2t.a 31 n rfl, f57.v 81 rfl, v81]; exact c31, by rw [f67.a 71 rN rfl, y71, hi'], by rw [i12.a 72 rN rfl]; exact z72, fun r hr2 => ⟨by rw [f67.a 71 r rfl, y71o r hr2, w71o r hr2], by rw [i12.a 72 r rfl]; exact z72o r hr2⟩, fun x hx => by rw [f2t.a 29 x rfl, f2t.a 31 x rfl]; exact cnd x hx, fun e he => ?_, fun e q1 q2 => ?_, ?_⟩ (by rw [← hty]; exact j2)
              · rw [i2.v 76 rfl, z76'] at z
                exact hy0 z
              · obtain ⟨a1, a2, a3, a4, a5⟩ := yer e he
                rw [f67.a 50 e rfl, f67.a 51 e rfl, f67.a 52 e rfl, f67.a 53 e rfl, f67.a 54 e rfl, a1, a2, a3, a4, a5, f05.a 50 e rfl, f05.a 51 e rfl, f05.a 52 e rfl, f05.a 53 e rfl, f05.a 54 e rfl]
                exact ⟨rfl, rfl, rfl, rfl, rfl⟩
              · rw [f67.v 49 rfl] at q2
                rw [f67.a 51 e rfl, f67.a 52 e rfl, ← hi']
                exact ynw e q1 q2
              · exact ((fm.sm f05 rfl).tr m6).tr (fm.sm f67 rfl)
            refine ⟨fun q => ?_, fun q => ?_⟩
            · rw [z76'] at q
              exact sp_task j1 (by show l.length + 1 < 26000; omega) 2 b 0 (fun t2 j2 i2 => fin t2 2 i2 j2 (by rw [if_pos (hy0 q)]))
            · rw [z76'] at q
              exact sp_task j1 (by show l.length + 1 < 26000; omega) 3 b 0 (fun t2 j2 i2 => fin t2 3 i2 j2 (by rw [if_neg (hy1 (by omega))]))
          unfold wr_routineOf_216
          unfold wr_routineOf_216B
          rw [Int.toNat_natCast, e25]
          exact ⟨by omega, by omega, fun _ => ⟨by omega, by omega, fun c20 => E 0 (Or.inl rfl) (fun _ => c20) (fun q => absurd q (by decide)), fun c20 => E 1 (Or.inr rfl) (fun q => absurd q (by decide)) (fun _ => c20)⟩, fun c => absurd c hb57⟩
        | cons a ks ih =>
          intro x m2 i s6 hm1 hm h1 hd hi f6 m6 g6 y74 y71 y49 y71o yer ynw
          have e4 : (a :: ks).length = ks.length + 1 := rfl
          rw [e4] at hm1 hi
          obtain ⟨m2, rfl⟩ : ∃ q, m2 = q + 1 := ⟨m2 - 1, by omega⟩
          have h1' : x = (a : Int) := h1.1
          have ha := hd a (List.mem_cons_self ..)
          have mak : a ∈ kids n := by rw [ek]; exact List.mem_append.mpr (Or.inl ha)
          have haN := hkl a mak
          subst h1'
          have e25 : za s6 25 a = 57 := (g6.st.a 25 a rfl).trans (hps a ha)
          obtain ⟨u1, u2, -⟩ := g6.tk2 h haN
          have ro6 := g6.ro
          have x69 : zv s6 69 = rN + 1 := by rw [f6.v 69 rfl]; exact v69
          unfold wr_routineOf_216
          unfold wr_routineOf_216B
          rw [Int.toNat_natCast, e25]
          refine ⟨by omega, by omega, fun c => absurd rfl c, fun _ => ⟨by omega, by omega, by omega, by omega, sp_declare s6 _ _ 4 _ _ 0 g6.en.1 (by omega) g6.bb.1 g6.bb.2 u1 u2 g6.tk (fun s7 en7 t7 => ?_)⟩⟩
          obtain ⟨fe, me, q2, q3, q4⟩ := id en7
          have p74 : zv s7 74 = 2 + i := by rw [fe.v 74 rfl]; exact y74
          have p71 : za s7 71 rN = i := by rw [fe.a 71 rN rfl]; exact y71
          rw [Int.toNat_natCast, p74, p71]
          have g7 : GI s0 kids root s7 := g6.ent en7 t7 (by omega) (fun e he => by
            obtain ⟨-, r2, r3, r4, r5⟩ := q4 e he
            unfold eOk
            rw [r2, r3, r4, r5, fe.v 69 rfl]
            exact ⟨⟨by decide, by decide⟩, fun k => absurd k (by decide), fun k => absurd k (by decide), fun _ => ⟨by omega, by omega⟩, fun k => absurd k (by decide)⟩)
          have g8 : GI s0 kids root (zpa (zpv s7 74 (2 + (i : Int) + 1)) 71 rN ((i : Int) + 1)) := (g7.p74 (x := 2 + (i : Int) + 1) ⟨by omega, by omega⟩).sm (js := [71]) (ks := []) (zSm.rf.pa rfl) rfl rfl rfl rfl
          have f8 : zSm s7 (zpa (zpv s7 74 (2 + (i : Int) + 1)) 71 rN ((i : Int) + 1)) [71] [74] := (zSm.rf.pv rfl).pa rfl
          have f68 : zSm s6 (zpa (zpv s7 74 (2 + (i : Int) + 1)) 71 rN ((i : Int) + 1)) [50, 51, 52, 53, 54, 57, 71] [12, 13, 49, 74] := (zSm.rf.tr fe rfl rfl : zSm s6 s7 [50, 51, 52, 53, 54, 57, 71] [12, 13, 49, 74]).tr f8 rfl rfl
          have w49 : zv (zpa (zpv s7 74 (2 + (i : Int) + 1)) 71 rN ((i : Int) + 1)) 49 = zv s6 49 + 1 := q2
          refine ⟨⟨by omega, by omega⟩, by omega, by omega, by omega, by omega, ⟨by omega, by omega⟩, by omega, by omega, ?_⟩
          rw [show za s7 28 a = za s6 28 a from fe.a 28 a rfl]
          refine ih _ m2 (i + 1) _ (by omega) (by omega) (h1.2.fr (fun y _ => f68.a 28 y rfl)) (fun d hd2 => hd d (List.mem_cons_of_mem _ hd2)) (by omega) (f6.tr f68 rfl rfl) (m6.tr (me.tr (fm.sm f8 rfl))) g8 (by show 2 + (i : Int) + 1 = 2 + ((i + 1 : Nat) : Int); omega) (by rw [za_pa, if_pos rfl, if_pos rfl]; omega) (by rw [w49, y49]; omega) (fun r hr2 => ?_) (fun e he => ?_) (fun e r1 r2 => ?_)
          · rw [za_pa, if_pos rfl, if_neg hr2, za_pv, fe.a 71 r rfl]
            exact y71o r hr2
          · obtain ⟨a1, a2, a3, a4, a5⟩ := yer e he
            obtain ⟨b1, b2, b3, b4, b5⟩ := q3 e (by omega)
            rw [f8.a 50 e rfl, f8.a 51 e rfl, f8.a 52 e rfl, f8.a 53 e rfl, f8.a 54 e rfl, b1, b2, b3, b4, b5]
            exact ⟨a1, a2, a3, a4, a5⟩
          · rw [w49] at r2
            rw [f8.a 51 e rfl, f8.a 52 e rfl]
            by_cases c : (e : Int) = zv s6 49
            · obtain ⟨-, z2, z3, -⟩ := q4 e c
              rw [z2, z3]
              exact ⟨rfl, by omega⟩
            · obtain ⟨-, z2, z3, -⟩ := q3 e (by omega)
              rw [z2, z3]
              have := ynw e r1 (by omega)
              exact ⟨this.1, by omega⟩
      refine L ps _ _ 0 s5 (by rw [ek, List.length_append]; show ps.length + 1 < ps.length + 1 + 1 + 1; omega) (by omega) ?_ (fun d hd => hd) (by omega) zSm.rf fm.rf g11 (by rw [w74]; rfl) w71 (by rw [v49]; omega) (fun _ _ => rfl) (fun _ _ => ⟨rfl, rfl, rfl, rfl, rfl⟩) (fun e q1 q2 => absurd q2 (by omega))
      have := (h.ch n hn).fr (s' := s5) (fun x _ => g11.st.a 28 x rfl)
      rw [ek] at this
      exact this
    refine ⟨fun q => ?_, fun q => ?_⟩
    · rw [e76] at q
      exact C 0 q.symm
    · rw [e76] at q
      refine C 1 ?_
      rcases g.gv with z | z
      · exact absurd z q
      · exact z.symm
  have f1 : ∀ x : Int, zSm s (zpa (zpa (zpv s 69 ((rN : Int) + 1)) 29 n rN) 31 n x) [29, 31] [69, 81] := fun x => ((zSm.rf.pv rfl).pa rfl).pa rfl
  have g1 : ∀ x : Int, GI s0 kids root (zpa (zpa (zpv s 69 ((rN : Int) + 1)) 29 n rN) 31 n x) := fun x => ((g.p69 (x := (rN : Int) + 1) (by omega)).p29 (by omega)).sm (js := [31]) (ks := []) (zSm.rf.pa rfl) rfl rfl rfl rfl
  have n29 : ∀ x : Int, za (zpa (zpa (zpv s 69 ((rN : Int) + 1)) 29 n rN) 31 n x) 29 n = rN := fun x => by simp only [za_pa, reduceIte, Nat.reduceEqDiff]
  have n31 : ∀ x : Int, za (zpa (zpa (zpv s 69 ((rN : Int) + 1)) 29 n rN) 31 n x) 31 n = x := fun x => by simp only [za_pa, reduceIte, Nat.reduceEqDiff]
  have no : ∀ (x : Int) (y : Nat), ¬ y = n → za (zpa (zpa (zpv s 69 ((rN : Int) + 1)) 29 n rN) 31 n x) 29 y = za s 29 y ∧ za (zpa (zpa (zpv s 69 ((rN : Int) + 1)) 29 n rN) 31 n x) 31 y = za s 31 y := fun x y hy => by
    simp only [za_pa, za_pv, reduceIte, Nat.reduceEqDiff, hy]
    exact ⟨trivial, trivial⟩
  unfold wr_routineOf
  rw [Int.toNat_natCast, er]
  refine ⟨⟨by omega, by omega⟩, by omega, by omega, by omega, by omega, fun c => ⟨by omega, by omega, ⟨by omega, by omega⟩, ?_⟩, fun c => ?_⟩
  · refine B _ ((f1 (zv s 81)).pv rfl) ((g1 (zv s 81)).p81 (x := zv s 81 + 1) (by show zv s 81 ≤ zv s 81 + 1; omega)) rfl (by show zv s 81 ≤ zv s 81 + 1; omega) (Int.le_refl _) (n29 (zv s 81)) ⟨?_, Or.inr ?_⟩ (no (zv s 81))
    · show 0 ≤ za (zpa (zpa (zpv s 69 ((rN : Int) + 1)) 29 n rN) 31 n (zv s 81)) 31 n
      rw [n31]; omega
    · show za (zpa (zpa (zpv s 69 ((rN : Int) + 1)) 29 n rN) 31 n (zv s 81)) 31 n < zv s 81 + 1
      rw [n31]; omega
  · rcases hY with q | ⟨e, q1, q2, q3⟩
    · exact absurd q c
    · rw [q1, show (1 + (e : Int) - 1) = (e : Int) by omega, Int.toNat_natCast]
      have k1 := (g.eg e q2).2.1 q3
      refine ⟨by omega, by omega, by omega, by omega, by omega, by omega, B _ (f1 _) (g1 _) rfl (Int.le_refl _) (by show zv s 81 ≤ zv s 81 + 1; omega) (n29 _) ⟨?_, Or.inl ?_⟩ (no _)⟩
      · rw [n31]; exact k1.1
      · rw [n31]; exact k1.2
end RB

