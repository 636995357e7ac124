/-! THE CHECK: FOR -/
section FO
variable {s0 : zS} {kids : Nat → List Nat} {up sz : Nat → Nat} {root N : Nat} {Qc : zS → Prop}
/-- the body is there: its frame's words, its tasks -/
def foS (s0 : zS) (kids : Nat → List Nat) (root n c : Nat) (S : List Nat) (s s' : zS) : Prop := zSm s s' [29, 30, 31, 50, 51, 52, 53, 54, 57, 60, 61, 62, 64, 65, 66, 68] [12, 13, 49, 55, 58, 59, 63, 67, 74, 75, 79] ∧ GI s0 kids root s' ∧ cC s s' (fun x => x = n) 0 ∧ EC s0 kids s' S ∧ sSt s s' (zv s 67).toNat [zv s 49, zv s 55, zv s 74] ∧ zv s' 49 = zv s 49 + 1 ∧ zv s' 79 = zv s 79 + 1 ∧ za s' 29 n = (c : Int) ∧ za s' 31 n = zv s 74 ∧ rng (za s' 31 n + 1) (zv s' 75)
theorem sp_for171 (h : fF s0 kids up sz [root] N) (hN : N ≤ 2700) {n v c : Nat} (hr : rch kids root n) (hK : za s0 25 n = 27) (mv : v ∈ kids n) (mc : c ∈ kids n) {s s2 : zS} {S : List Nat} (g : GI s0 kids root s) (ec : EC s0 kids s S) (f : zSm s s2 [29, 30, 60, 61, 62] [12, 13, 58, 59]) (mm : fm s s2) (g2 : GI s0 kids root s2) (o : ∀ y : Nat, ¬ y = n → za s2 29 y = za s 29 y ∧ za s2 30 y = za s 30 y) {l : List cT} (k1 : cTk s l) (hl : l.length + 3 ≤ 26000) (h49 : zv s 49 + 1 ≤ 9000) (h67 : zv s 67 + 3 ≤ 60000) (h79 : zv s 79 + 1 ≤ 1000000) {Q : zS → Prop} (hq : ∀ s', foS s0 kids root n c S s s' → cTk s' ((2, (c : Int), 0) :: (10, 0, -1) :: (9, 0, 0) :: l) → Q s') : wr_forName_171 Q s2 n v c := by
  have hn := h.lt hr
  have hvN := (h.kd n hn v mv).1
  have hcN := (h.kd n hn c mc).1
  have sv := g.sv
  have lo := g.lo
  have iu := g.iu
  have ro := g.ro
  have rt := g.rt
  unfold wr_forName_171
  rw [Int.toNat_natCast, Int.toNat_natCast]
  have f3 : zSm s2 (zpa s2 29 n c) [29] [] := zSm.rf.pa rfl
  have g3 : GI s0 kids root (zpa s2 29 n c) := g2.p29 (by omega)
  have v3 : za (zpa s2 29 n c) 29 n = c := by rw [za_pa, if_pos rfl, if_pos rfl]
  have o3 : ∀ y : Nat, ¬ y = n → za (zpa s2 29 n c) 29 y = za s 29 y ∧ za (zpa s2 29 n c) 30 y = za s 30 y := fun y hy => by
    obtain ⟨y1, y2⟩ := o y hy
    exact ⟨by rw [za_pa, if_pos rfl, if_neg hy]; exact y1, y2⟩
  refine ⟨by omega, by omega, ?_⟩
  have f03 : zSm s (zpa s2 29 n c) [29, 30, 60, 61, 62] [12, 13, 58, 59] := f.tr f3 rfl rfl
  have m03 : fm s (zpa s2 29 n c) := mm
  generalize zpa s2 29 n c = s3 at f3 g3 v3 o3 f03 m03
  have e67 : zv s3 67 = zv s 67 := f03.v 67 rfl
  have e49 : zv s3 49 = zv s 49 := f03.v 49 rfl
  have e55 : zv s3 55 = zv s 55 := f03.v 55 rfl
  have e74 : zv s3 74 = zv s 74 := f03.v 74 rfl
  refine sp_begin g3 (by omega) (fun s4 f4 S4 w55 g4 => ?_)
  rw [e67, e49, e55, e74] at S4
  have u74 : zv s4 74 = zv s 74 := by rw [f4.v 74 rfl, e74]
  have u49 : zv s4 49 = zv s 49 := by rw [f4.v 49 rfl, e49]
  rw [u74]
  refine ⟨by omega, by omega, by omega, by omega, by omega, by omega, ?_⟩
  have f5 : zSm s4 (zpa s4 31 n (zv s 74)) [31] [] := zSm.rf.pa rfl
  have g5 : GI s0 kids root (zpa s4 31 n (zv s 74)) := g4.sm f5 rfl rfl rfl rfl
  obtain ⟨t1, t2, -⟩ := g4.tk2 h hvN
  have e73 : zv s4 73 = zv s 73 := by rw [f4.v 73 rfl, f03.v 73 rfl]
  have e69 : zv s4 69 = zv s 69 := by rw [f4.v 69 rfl, f03.v 69 rfl]
  rw [e73]
  refine sp_declare (zpa s4 31 n (zv s 74)) _ _ 4 _ _ 0 g5.en.1 (by show zv s4 49 < 9000; omega) g5.bb.1 g5.bb.2 t1 t2 g5.tk (fun s6 en t => ?_)
  obtain ⟨fe, me, q2, q3, q4⟩ := id en
  have w6 : zv s6 49 = zv s 49 + 1 := by
    have : zv s6 49 = zv s4 49 + 1 := q2
    omega
  have g6 : GI s0 kids root s6 := g5.ent en t (by show zv s4 49 < 9000; omega) (fun e he => by
    obtain ⟨-, r2, r3, r4, r5⟩ := q4 e he
    unfold eOk
    rw [r2, r3, r4, r5, fe.v 69 rfl]
    refine ⟨⟨by decide, by decide⟩, fun k => absurd k (by decide), fun k => absurd k (by decide), fun _ => ⟨iu.1, ?_⟩, fun k => absurd k (by decide)⟩
    show zv s 73 < zv s4 69
    omega)
  have u674 : zv s6 74 = zv s 74 := by rw [fe.v 74 rfl]; exact u74
  have F6 : zSm s s6 [29, 30, 31, 50, 51, 52, 53, 54, 57, 60, 61, 62, 64, 65, 66, 68] [12, 13, 49, 55, 58, 59, 63, 67, 74, 75, 79] := (((zSm.rf.tr f03 rfl rfl : zSm s s3 [29, 30, 31, 50, 51, 52, 53, 54, 57, 60, 61, 62, 64, 65, 66, 68] [12, 13, 49, 55, 58, 59, 63, 67, 74, 75, 79]).tr f4 rfl rfl).tr f5 rfl rfl).tr fe rfl rfl
  have x31 : za s6 31 n = zv s 74 := by rw [fe.a 31 n rfl, za_pa, if_pos rfl, if_pos rfl]
  have x29 : za s6 29 n = c := by
    rw [fe.a 29 n rfl]
    show za s4 29 n = c
    rw [f4.a 29 n rfl]
    exact v3
  have c6 : cC s s6 (fun x => x = n) 0 := by
    have c1 : cC s s3 (fun x => x = n) 0 := cC.own f03 m03 rfl rfl (fun y hy => ⟨(o3 y hy).1, (o3 y hy).2, f03.a 31 y rfl⟩)
    have c2 : cC s s4 (fun x => x = n) 0 := c1.tr (cC.sm (D := fun x => x = n) (w := 0) f4 (fm.sm f4 rfl) rfl rfl rfl) (fun _ q => q) (fun _ q => q) (by omega)
    have c3 : cC s (zpa s4 31 n (zv s 74)) (fun x => x = n) 0 := c2.tr (cC.own (D := fun x => x = n) (w := 0) f5 (fm.sm f5 rfl) rfl rfl (fun y hy => ⟨rfl, rfl, by rw [za_pa, if_pos rfl, if_neg hy]⟩)) (fun _ q => q) (fun _ q => q) (by omega)
    exact c3.tr (cC.ent (D := fun x => x = n) (w := 0) en) (fun _ q => q) (fun _ q => q) (by omega)
  have S6 : sSt s s6 (zv s 67).toNat [zv s 49, zv s 55, zv s 74] := by
    have q := (S4.sm f5 rfl rfl).sm fe rfl rfl
    exact ⟨q.1, q.2.1, fun i hi => by rw [q.2.2 i hi]; exact f03.a 68 i rfl⟩
  have ec3 : EC s0 kids s3 S := ec.sm f03 rfl rfl
  have k6 : cTk s6 l := by
    have f36 : zSm s3 s6 [31, 50, 51, 52, 53, 54, 57, 68] [12, 13, 49, 55, 67] := ((zSm.rf.tr f4 rfl rfl : zSm s3 s4 [31, 50, 51, 52, 53, 54, 57, 68] [12, 13, 49, 55, 67]).tr f5 rfl rfl).tr fe rfl rfl
    exact (k1.sm f03 rfl rfl).sm f36 rfl rfl
  refine sp_uses s6 2 (by omega) (by omega) (by omega) (by omega) (fun s7 f7 a1 a2 a3 a4 a5 => ?_)
  have e779 : zv s7 79 = zv s 79 := by
    rw [f7.v 79 rfl, fe.v 79 rfl]
    show zv s4 79 = zv s 79
    rw [f4.v 79 rfl, f03.v 79 rfl]
  rw [e779]
  refine ⟨⟨by omega, by omega⟩, ?_⟩
  have g7 : GI s0 kids root s7 := by
    have := (g6.p74 (x := zv s7 74) ⟨by omega, a3⟩)
    refine this.sm (js := []) (ks := [75]) ⟨fun j hj => f7.1 j hj, fun k hk => ?_⟩ rfl rfl rfl rfl
    show s7.1 k = if k = 74 then zv s7 74 else s6.1 k
    split
    · rename_i e
      rw [e]
      rfl
    · rename_i e
      refine f7.2 k ?_
      have h1 : ¬ k = 75 := fun q => by rw [q] at hk; exact absurd hk (by decide)
      simp [h1, e]
  have f8 : zSm s7 (zpv s7 79 (zv s 79 + 1)) [] [79] := zSm.rf.pv rfl
  have g8 : GI s0 kids root (zpv s7 79 (zv s 79 + 1)) := g7.p79 (by omega)
  have w879 : zv (zpv s7 79 (zv s 79 + 1)) 79 = zv s 79 + 1 := rfl
  have k8 : cTk (zpv s7 79 (zv s 79 + 1)) l := (k6.sm f7 rfl rfl).sm f8 rfl rfl
  have f68 : zSm s6 (zpv s7 79 (zv s 79 + 1)) [] [74, 75, 79] := (zSm.rf.tr f7 rfl rfl : zSm s6 s7 [] [74, 75, 79]).tr f8 rfl rfl
  have v875 : zv (zpv s7 79 (zv s 79 + 1)) 75 = zv s7 75 := rfl
  generalize zpv s7 79 (zv s 79 + 1) = s8 at f8 g8 w879 k8 f68 v875
  refine sp_task k8 (by omega) 9 0 0 (fun p1 j1 i1 => sp_task j1 (by show l.length + 1 < 26000; omega) 10 0 (-1) (fun p2 j2 i2 => sp_task j2 (by show l.length + 1 + 1 < 26000; omega) 2 c 0 (fun p3 j3 i3 => hq p3 ?_ j3)))
  have i13 : zSm s8 p3 [64, 65, 66] [63] := (i1.tr i2 rfl rfl : zSm s8 p2 [64, 65, 66] [63]).tr i3 rfl rfl
  have f6p : zSm s6 p3 [64, 65, 66] [63, 74, 75, 79] := (zSm.rf.tr f68 rfl rfl : zSm s6 s8 [64, 65, 66] [63, 74, 75, 79]).tr i13 rfl rfl
  have c75 : zv p3 75 = zv s7 75 := by rw [i13.v 75 rfl]; exact v875
  have c6p : cC s6 p3 (fun x => x = n) 0 := ⟨fm.sm f6p rfl, by rw [f6p.v 49 rfl]; exact Int.le_refl _, fun e _ => ⟨f6p.a 50 e rfl, f6p.a 51 e rfl, f6p.a 52 e rfl, f6p.a 53 e rfl, fun _ => f6p.a 54 e rfl⟩, f6p.v 73 rfl, f6p.v 76 rfl, f6p.v 77 rfl, by rw [c75]; exact a1, by rw [f6p.v 81 rfl]; exact Int.le_refl _, by rw [f6p.v 81 rfl]; omega, by rw [f6p.v 69 rfl]; exact Int.le_refl _, by rw [f6p.v 69 rfl]; omega, fun r _ => ⟨f6p.a 70 r rfl, f6p.a 71 r rfl, f6p.a 72 r rfl⟩, by rw [f6p.v 78 rfl]; exact Int.le_refl _, by rw [f6p.v 78 rfl]; omega, fun y _ => ⟨f6p.a 29 y rfl, f6p.a 30 y rfl, f6p.a 31 y rfl⟩⟩
  have x31p : za p3 31 n = zv s 74 := by rw [f6p.a 31 n rfl]; exact x31
  refine ⟨F6.tr f6p rfl rfl, g8.sm i13 rfl rfl rfl rfl, c6.tr c6p (fun _ q => q) (fun _ q => q) (by omega), fun e he => ?_, S6.sm f6p rfl rfl, by rw [f6p.v 49 rfl]; exact w6, by rw [i13.v 79 rfl]; exact w879, by rw [f6p.a 29 n rfl]; exact x29, x31p, ?_⟩
  · rw [f6p.v 49 rfl] at he
    rw [f6p.a 51 e rfl, f6p.a 52 e rfl, f6p.a 53 e rfl, f6p.a 54 e rfl, c75, F6.v 73 rfl |> fun q => (f6p.v 73 rfl).trans q, F6.v 77 rfl |> fun q => (f6p.v 77 rfl).trans q]
    by_cases cc : (e : Int) = zv s4 49
    · obtain ⟨-, r2, r3, r4, r5⟩ := q4 e cc
      rw [r2, r3]
      refine ⟨fun _ _ => ?_, fun k => absurd k (by decide)⟩
      unfold rng
      omega
    · obtain ⟨-, r2, r3, r4, r5⟩ := q3 e (by show (e : Int) < zv s4 49; omega)
      have z51 : za (zpa s4 31 n (zv s 74)) 51 e = za s 51 e := (f4.a 51 e rfl).trans (f03.a 51 e rfl)
      have z52 : za (zpa s4 31 n (zv s 74)) 52 e = za s 52 e := (f4.a 52 e rfl).trans (f03.a 52 e rfl)
      have z53 : za (zpa s4 31 n (zv s 74)) 53 e = za s 53 e := (f4.a 53 e rfl).trans (f03.a 53 e rfl)
      have z54 : za (zpa s4 31 n (zv s 74)) 54 e = za s 54 e := (f4.a 54 e rfl).trans (f03.a 54 e rfl)
      rw [r2, r3, r4, r5, z51, z52, z53, z54]
      obtain ⟨y1, y2⟩ := ec e (by omega)
      have m6 : zv s 75 ≤ zv s7 75 := by
        have := c6.mu
        omega
      exact ⟨fun k k2 => (y1 k k2).le m6, y2⟩
  · rw [x31p, c75]
    unfold rng
    omega
end FO

