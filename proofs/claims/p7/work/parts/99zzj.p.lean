/-! THE CHECK: FOR -/
section FO
variable {s0 : zS} {kids : Nat → List Nat} {up sz : Nat → Nat} {root N : Nat} {Qc : zS → Prop}
/-- the body is there: its frame's words, its tasks -/
def foS (s0 : zS) (kids : Nat → List Nat) (root n c : Nat) (S : List Nat) (s s' : zS) : Prop := zSm s s' [29, 30, 31, 50, 51, 52, 53, 54, 57, 60, 61, 62, 64, 65, 66, 68] [12, 13, 49, 55, 58, 59, 63, 67, 74, 75, 79] ∧ GI s0 kids root s' ∧ cC s s' (fun x => x = n) 0 ∧ EC s0 kids s' S ∧ sSt s s' (zv s 67).toNat [zv s 49, zv s 55, zv s 74] ∧ zv s' 49 = zv s 49 + 1 ∧ zv s' 79 = zv s 79 + 1 ∧ za s' 29 n = (c : Int) ∧ za s' 31 n = zv s 74 ∧ rng (za s' 31 n + 1) (zv s' 75)
theorem sp_for171 (h : fF s0 kids up sz [root] N) (hN : N ≤ 2700) {n v c : Nat} (hr : rch kids root n) (hK : za s0 25 n = 27) (mv : v ∈ kids n) (mc : c ∈ kids n) {s s2 : zS} {S : List Nat} (g : GI s0 kids root s) (ec : EC s0 kids s S) (f : zSm s s2 [29, 30, 60, 61, 62] [12, 13, 58, 59]) (mm : fm s s2) (g2 : GI s0 kids root s2) (o : ∀ y : Nat, ¬ y = n → za s2 29 y = za s 29 y ∧ za s2 30 y = za s 30 y) {l : List cT} (k1 : cTk s l) (hl : l.length + 3 ≤ 26000) (h49 : zv s 49 + 1 ≤ 9000) (h67 : zv s 67 + 3 ≤ 60000) (h79 : zv s 79 + 1 ≤ 1000000) {Q : zS → Prop} (hq : ∀ s', foS s0 kids root n c S s s' → cTk s' ((2, (c : Int), 0) :: (10, 0, -1) :: (9, 0, 0) :: l) → Q s') : wr_forName_171 Q s2 n v c := by
  have hn := h.lt hr
  have hvN := (h.kd n hn v mv).1
  have hcN := (h.kd n hn c mc).1
  have sv := g.sv
  have lo := g.lo
  have iu := g.iu
  have ro := g.ro
  have rt := g.rt
  unfold wr_forName_171
  rw [Int.toNat_natCast, Int.toNat_natCast]
  have f3 : zSm s2 (zpa s2 29 n c) [29] [] := zSm.rf.pa rfl
  have g3 : GI s0 kids root (zpa s2 29 n c) := g2.p29 (by omega)
  have v3 : za (zpa s2 29 n c) 29 n = c := by rw [za_pa, if_pos rfl, if_pos rfl]
  have o3 : ∀ y : Nat, ¬ y = n → za (zpa s2 29 n c) 29 y = za s 29 y ∧ za (zpa s2 29 n c) 30 y = za s 30 y := fun y hy => by
    obtain ⟨y1, y2⟩ := o y hy
    exact ⟨by rw [za_pa, if_pos rfl, if_neg hy]; exact y1, y2⟩
  refine ⟨by omega, by omega, ?_⟩
  have f03 : zSm s (zpa s2 29 n c) [29, 30, 60, 61, 62] [12, 13, 58, 59] := f.tr f3 rfl rfl
  have m03 : fm s (zpa s2 29 n c) := mm
  generalize zpa s2 29 n c = s3 at f3 g3 v3 o3 f03 m03
  have e67 : zv s3 67 = zv s 67 := f03.v 67 rfl
  have e49 : zv s3 49 = zv s 49 := f03.v 49 rfl
  have e55 : zv s3 55 = zv s 55 := f03.v 55 rfl
  have e74 : zv s3 74 = zv s 74 := f03.v 74 rfl
  refine sp_begin g3 (by omega) (fun s4 f4 S4 w55 g4 => ?_)
  rw [e67, e49, e55, e74] at S4
  have u74 : zv s4 74 = zv s 74 := by rw [f4.v 74 rfl, e74]
  have u49 : zv s4 49 = zv s 49 := by rw [f4.v 49 rfl, e49]
  rw [u74]
  refine ⟨by omega, by omega, by omega, by omega, by omega, by omega, ?_⟩
  have f5 : zSm s4 (zpa s4 31 n (zv s 74)) [31] [] := zSm.rf.pa rfl
  have g5 : GI s0 kids root (zpa s4 31 n (zv s 74)) := g4.sm f5 rfl rfl rfl rfl
  obtain ⟨t1, t2, -⟩ := g4.tk2 h hvN
  have e73 : zv s4 73 = zv s 73 := by rw [f4.v 73 rfl, f03.v 73 rfl]
  have e69 : zv s4 69 = zv s 69 := by rw [f4.v 69 rfl, f03.v 69 rfl]
  rw [e73]
  refine sp_declare (zpa s4 31 n (zv s 74)) _ _ 4 _ _ 0 g5.en.1 (by show zv s4 49 < 9000; omega) g5.bb.1 g5.bb.2 t1 t2 g5.tk (fun s6 en t => ?_)
  obtain ⟨fe, me, q2, q3, q4⟩ := id en
  have w6 : zv s6 49 = zv s 49 + 1 := by
    have : zv s6 49 = zv s4 49 + 1 := q2
    omega
  have g6 : GI s0 kids root s6 := g5.ent en t (by show zv s4 49 < 9000; omega) (fun e he => by
    obtain ⟨-, r2, r3, r4, r5⟩ := q4 e he
    unfold eOk
    rw [r2, r3, r4, r5, fe.v 69 rfl]
    refine ⟨⟨by decide, by decide⟩, fun k => absurd k (by decide), fun k => absurd k (by decide), fun _ => ⟨iu.1, ?_⟩, fun k => absurd k (by decide)⟩
    show zv s 73 < zv s4 69
    omega)
  have u674 : zv s6 74 = zv s 74 := by rw [fe.v 74 rfl]; exact u74
  have F6 : zSm s s6 [29, 30, 31, 50, 51, 52, 53, 54, 57, 60, 61, 62, 64, 65, 66, 68] [12, 13, 49, 55, 58, 59, 63, 67, 74, 75, 79] := (((zSm.rf.tr f03 rfl rfl : zSm s s3 [29, 30, 31, 50, 51, 52, 53, 54, 57, 60, 61, 62, 64, 65, 66, 68] [12, 13, 49, 55, 58, 59, 63, 67, 74, 75, 79]).tr f4 rfl rfl).tr f5 rfl rfl).tr fe rfl rfl
  have x31 : za s6 31 n = zv s 74 := by rw [fe.a 31 n rfl, za_pa, if_pos rfl, if_pos rfl]
  have x29 : za s6 29 n = c := by
    rw [fe.a 29 n rfl]
    show za s4 29 n = c
    rw [f4.a 29 n rfl]
    exact v3
  have c6 : cC s s6 (fun x => x = n) 0 := by
    have c1 : cC s s3 (fun x => x = n) 0 := cC.own f03 m03 rfl rfl (fun y hy => ⟨(o3 y hy).1, (o3 y hy).2, f03.a 31 y rfl⟩)
    have c2 : cC s s4 (fun x => x = n) 0 := c1.tr (cC.sm (D := fun x => x = n) (w := 0) f4 (fm.sm f4 rfl) rfl rfl rfl) (fun _ q => q) (fun _ q => q) (by omega)
    have c3 : cC s (zpa s4 31 n (zv s 74)) (fun x => x = n) 0 := c2.tr (cC.own (D := fun x => x = n) (w := 0) f5 (fm.sm f5 rfl) rfl rfl (fun y hy => ⟨rfl, rfl, by rw [za_pa, if_pos rfl, if_neg hy]⟩)) (fun _ q => q) (fun _ q => q) (by omega)
    exact c3.tr (cC.ent (D := fun x => x = n) (w := 0) en) (fun _ q => q) (fun _ q => q) (by omega)
  have S6 : sSt s s6 (zv s 67).toNat [zv s 49, zv s 55, zv s 74] := by
    have q := (S4.sm f5 rfl rfl).sm fe rfl rfl
    exact ⟨q.1, q.2.1, fun i hi => by rw [q.2.2 i hi]; exact f03.a 68 i rfl⟩
  have ec3 : EC s0 kids s3 S := ec.sm f03 rfl rfl
  have k6 : cTk s6 l := by
    have f36 : zSm s3 s6 [31, 50, 51, 52, 53, 54, 57, 68] [12, 13, 49, 55, 67] := ((zSm.rf.tr f4 rfl rfl : zSm s3 s4 [31, 50, 51, 52, 53, 54, 57, 68] [12, 13, 49, 55, 67]).tr f5 rfl rfl).tr fe rfl rfl
    exact (k1.sm f03 rfl rfl).sm f36 rfl rfl
  refine sp_uses s6 2 (by omega) (by omega) (by omega) (by omega) (fun s7 f7 a1 a2 a3 a4 a5 => ?_)
  have e779 : zv s7 79 = zv s 79 := by
    rw [f7.v 79 rfl, fe.v 79 rfl]
    show zv s4 79 = zv s 79
    rw [f4.v 79 rfl, f03.v 79 rfl]
  rw [e779]
  refine ⟨⟨by omega, by omega⟩, ?_⟩
  have g7 : GI s0 kids root s7 := by
    have := (g6.p74 (x := zv s7 74) ⟨by omega, a3⟩)
    refine this.sm (js := []) (ks := [75]) ⟨fun j hj => f7.1 j hj, fun k hk => ?_⟩ rfl rfl rfl rfl
    show s7.1 k = if k = 74 then zv s7 74 else s6.1 k
    split
    · rename_i e
      rw [e]
      rfl
    · rename_i e
      refine f7.2 k ?_
      have h1 : ¬ k = 75 := fun q => by rw [q] at hk; exact absurd hk (by decide)
      simp [h1, e]
  have f8 : zSm s7 (zpv s7 79 (zv s 79 + 1)) [] [79] := zSm.rf.pv rfl
  have g8 : GI s0 kids root (zpv s7 79 (zv s 79 + 1)) := g7.p79 (by omega)
  have w879 : zv (zpv s7 79 (zv s 79 + 1)) 79 = zv s 79 + 1 := rfl
  have k8 : cTk (zpv s7 79 (zv s 79 + 1)) l := (k6.sm f7 rfl rfl).sm f8 rfl rfl
  have f68 : zSm s6 (zpv s7 79 (zv s 79 + 1)) [] [74, 75, 79] := (zSm.rf.tr f7 rfl rfl : zSm s6 s7 [] [74, 75, 79]).tr f8 rfl rfl
  have v875 : zv (zpv s7 79 (zv s 79 + 1)) 75 = zv s7 75 := rfl
  generalize zpv s7 79 (zv s 79 + 1) = s8 at f8 g8 w879 k8 f68 v875
  refine sp_task k8 (by omega) 9 0 0 (fun p1 j1 i1 => sp_task j1 (by show l.length + 1 < 26000; omega) 10 0 (-1) (fun p2 j2 i2 => sp_task j2 (by show l.length + 1 + 1 < 26000; omega) 2 c 0 (fun p3 j3 i3 => hq p3 ?_ j3)))
  have i13 : zSm s8 p3 [64, 65, 66] [63] := (i1.tr i2 rfl rfl : zSm s8 p2 [64, 65, 66] [63]).tr i3 rfl rfl
  have f6p : zSm s6 p3 [64, 65, 66] [63, 74, 75, 79] := (zSm.rf.tr f68 rfl rfl : zSm s6 s8 [64, 65, 66] [63, 74, 75, 79]).tr i13 rfl rfl
  have c75 : zv p3 75 = zv s7 75 := by rw [i13.v 75 rfl]; exact v875
  have c6p : cC s6 p3 (fun x => x = n) 0 := ⟨fm.sm f6p rfl, by rw [f6p.v 49 rfl]; exact Int.le_refl _, fun e _ => ⟨f6p.a 50 e rfl, f6p.a 51 e rfl, f6p.a 52 e rfl, f6p.a 53 e rfl, fun _ => f6p.a 54 e rfl⟩, f6p.v 73 rfl, f6p.v 76 rfl, f6p.v 77 rfl, by rw [c75]; exact a1, by rw [f6p.v 81 rfl]; exact Int.le_refl _, by rw [f6p.v 81 rfl]; omega, by rw [f6p.v 69 rfl]; exact Int.le_refl _, by rw [f6p.v 69 rfl]; omega, fun r _ => ⟨f6p.a 70 r rfl, f6p.a 71 r rfl, f6p.a 72 r rfl⟩, by rw [f6p.v 78 rfl]; exact Int.le_refl _, by rw [f6p.v 78 rfl]; omega, fun y _ => ⟨f6p.a 29 y rfl, f6p.a 30 y rfl, f6p.a 31 y rfl⟩⟩
  have x31p : za p3 31 n = zv s 74 := by rw [f6p.a 31 n rfl]; exact x31
  refine ⟨F6.tr f6p rfl rfl, g8.sm i13 rfl rfl rfl rfl, c6.tr c6p (fun _ q => q) (fun _ q => q) (by omega), fun e he => ?_, S6.sm f6p rfl rfl, by rw [f6p.v 49 rfl]; exact w6, by rw [i13.v 79 rfl]; exact w879, by rw [f6p.a 29 n rfl]; exact x29, x31p, ?_⟩
  · rw [f6p.v 49 rfl] at he
    rw [f6p.a 51 e rfl, f6p.a 52 e rfl, f6p.a 53 e rfl, f6p.a 54 e rfl, c75, F6.v 73 rfl |> fun q => (f6p.v 73 rfl).trans q, F6.v 77 rfl |> fun q => (f6p.v 77 rfl).trans q]
    by_cases cc : (e : Int) = zv s4 49
    · obtain ⟨-, r2, r3, r4, r5⟩ := q4 e cc
      rw [r2, r3]
      refine ⟨fun _ _ => ?_, fun k => absurd k (by decide)⟩
      unfold rng
      omega
    · obtain ⟨-, r2, r3, r4, r5⟩ := q3 e (by show (e : Int) < zv s4 49; omega)
      have z51 : za (zpa s4 31 n (zv s 74)) 51 e = za s 51 e := (f4.a 51 e rfl).trans (f03.a 51 e rfl)
      have z52 : za (zpa s4 31 n (zv s 74)) 52 e = za s 52 e := (f4.a 52 e rfl).trans (f03.a 52 e rfl)
      have z53 : za (zpa s4 31 n (zv s 74)) 53 e = za s 53 e := (f4.a 53 e rfl).trans (f03.a 53 e rfl)
      have z54 : za (zpa s4 31 n (zv s 74)) 54 e = za s 54 e := (f4.a 54 e rfl).trans (f03.a 54 e rfl)
      rw [r2, r3, r4, r5, z51, z52, z53, z54]
      obtain ⟨y1, y2⟩ := ec e (by omega)
      have m6 : zv s 75 ≤ zv s7 75 := by
        have := c6.mu
        omega
      exact ⟨fun k k2 => (y1 k k2).le m6, y2⟩
  · rw [x31p, c75]
    unfold rng
    omega
theorem tC_27 (h : fF s0 kids up sz [root] N) (hN : N ≤ 2700) {n : Nat} (hr : rch kids root n) (hK : za s0 25 n = 27) (iE : ∀ c ∈ (kids n).take 3, kE (za s0 25 c) → tri s0 kids up sz root N Qc 1 3 c tt tt) (iC : ∀ c, c = lk kids n → kC (za s0 25 c) → tri s0 kids up sz root N Qc 0 2 c tt tt) : tri s0 kids up sz root N Qc 0 2 n tt tt := by
  have hn := h.lt hr
  obtain ⟨ka, kb, rk, kc, q1, qa, qb, qc, qr⟩ := (h.sh n hn).fo hK
  obtain ⟨v, l1, e1, ev, w1⟩ := List.map_eq_cons_iff.mp q1
  obtain ⟨a, l2, e2, ea, w2⟩ := List.map_eq_cons_iff.mp w1
  obtain ⟨b, l3, e3, eb, w3⟩ := List.map_eq_cons_iff.mp w2
  obtain ⟨r, l4, e4, er, w4⟩ := List.map_eq_append_iff.mp w3
  obtain ⟨c, e5, ec⟩ := map1 w4
  have ek : kids n = v :: a :: b :: (r ++ [c]) := by rw [e1, e2, e3, e4, e5]
  have hkl : ∀ x ∈ kids n, x < N := fun x hx => (h.kd n hn x hx).1
  have mv : v ∈ kids n := by rw [ek]; exact List.mem_cons_self ..
  have ma : a ∈ kids n := by rw [ek]; exact List.mem_cons_of_mem _ (List.mem_cons_self ..)
  have mb : b ∈ kids n := by rw [ek]; exact List.mem_cons_of_mem _ (List.mem_cons_of_mem _ (List.mem_cons_self ..))
  have mc : c ∈ kids n := by rw [ek]; exact List.mem_cons_of_mem _ (List.mem_cons_of_mem _ (List.mem_cons_of_mem _ (List.mem_append.mpr (Or.inr (List.mem_cons_self ..)))))
  have hvN := hkl v mv
  have haN := hkl a ma
  have hbN := hkl b mb
  have hcN := hkl c mc
  have hEa : kE (za s0 25 a) := by rw [ea]; exact qa
  have hEb : kE (za s0 25 b) := by rw [eb]; exact qb
  have hCc : kC (za s0 25 c) := by rw [ec]; exact qc
  have nd := h.kn n hn
  have nab : ¬ a = b := fun e => by
    rw [ek, List.nodup_cons, List.nodup_cons] at nd
    exact nd.2.1 (by rw [e]; exact List.mem_cons_self ..)
  have nac : ¬ a = c := fun e => by
    rw [ek, List.nodup_cons, List.nodup_cons] at nd
    exact nd.2.1 (by rw [e]; exact List.mem_cons_of_mem _ (List.mem_append.mpr (Or.inr (List.mem_cons_self ..))))
  have nbc : ¬ b = c := fun e => by
    rw [ek, List.nodup_cons, List.nodup_cons, List.nodup_cons] at nd
    exact nd.2.2.1 (by rw [e]; exact List.mem_append.mpr (Or.inr (List.mem_cons_self ..)))
  have elk : lk kids n = c := lk_app (r := v :: a :: b :: r) (by rw [ek]; rfl)
  have tk3 : ∀ x ∈ [a, b], x ∈ (kids n).take 3 := fun x hx => by
    rw [ek]
    rcases List.mem_cons.mp hx with q | q
    · rw [q]
      exact List.mem_cons_of_mem _ (List.mem_cons_self ..)
    · rw [List.mem_singleton.mp q]
      exact List.mem_cons_of_mem _ (List.mem_cons_of_mem _ (List.mem_cons_self ..))
  have hkr : kr (za s0 25) kids n = [v, a, b, c] := by
    unfold kr
    rw [if_neg (by rw [hK]; decide), if_pos hK, elk, ek]
    rfl
  have hzn : sz n = 1 + szs sz (kids n) := h.ss n hn
  have ezs : szs sz (kids n) = sz v + sz a + sz b + szs sz r + sz c := by
    rw [ek]
    simp only [szs, List.map_cons, List.map_append, List.sum_cons, List.sum_append, List.map_nil, List.sum_nil]
    omega
  have hzv : 1 ≤ sz v := by have := h.ss v hvN; omega
  have hza : 1 ≤ sz a := by have := h.ss a haN; omega
  have hzb : 1 ≤ sz b := by have := h.ss b hbN; omega
  have hzc : 1 ≤ sz c := by have := h.ss c hcN; omega
  have un : ub (za s0 25) kids sz n = sz n := ub_o (by omega)
  have uc := ub_le h hcN
  have hcx : ∀ x ∈ kids n, cxF (za s0 25) up root N x = ((cxF (za s0 25) up root N n).1, true, (cxF (za s0 25) up root N n).2.2.1, (cxF (za s0 25) up root N n).2.2.2) := fun x hx => by
    rw [cxF_kid _ h hr hx]
    exact cxS_l (by omega)
  have ch := h.ch n hn
  rw [ek] at ch
  refine tri.mk (by omega) h hn hY_tt (fun m s l k1 hl hp _ hq => go_2 (co_27 (c := v) (by omega) (by rw [hp.1.st.a 25 n rfl]; exact hK) (by rw [hp.1.st.a 27 n rfl]; exact ch.1) (by omega) ?_))
  obtain ⟨g, hx, hb⟩ := hp
  obtain ⟨b1, b2, b3, b4, b5, b6, b7, b8⟩ := id hb
  rw [un] at b1
  refine sp_task k1 (by omega) 11 n 0 (fun s1 k2 f1 => ?_)
  have g1 := g.sm f1 rfl rfl rfl rfl
  rw [show za s1 28 v = (a : Int) from (g1.st.a 28 v rfl).trans ch.2.1, Int.toNat_natCast, show za s1 28 a = (b : Int) from (g1.st.a 28 a rfl).trans ch.2.2.1]
  refine ⟨by omega, by omega, by omega, by omega, sp_task k2 (by show l.length + 1 < 26000; omega) 3 b 0 (fun s1b k2b f1b => ⟨by omega, by omega, ?_⟩)⟩
  rw [show za s1b 28 v = (a : Int) from (f1b.a 28 v rfl).trans ((g1.st.a 28 v rfl).trans ch.2.1)]
  refine sp_task k2b (by show l.length + 1 + 1 < 26000; omega) 3 a 0 (fun s2 k3 f2 => ?_)
  have f02 : zSm s s2 [64, 65, 66] [63] := (f1.tr f1b rfl rfl : zSm s s1b [64, 65, 66] [63]).tr f2 rfl rfl
  have p02 : cP s s2 (bel kids [a, b]) 0 := cP.sm f02 (fm.sm f02 rfl) rfl rfl rfl
  have g2 := g.sm f02 rfl rfl rfl rfl
  have x2 : cX s0 kids s2 ((cxF (za s0 25) up root N n).1, true, (cxF (za s0 25) up root N n).2.2.1, (cxF (za s0 25) up root N n).2.2.2) := (hx.fr p02 (f02.v 49 rfl)).lp
  have B2 : cB s2 (sz n) (sz n) l.length := hb.fs p02 (by omega) (f02.v 49 rfl) (by omega)
  have hab : ∀ x ∈ [a, b], x ∈ kids n := fun x hx2 => by
    rcases List.mem_cons.mp hx2 with rfl | hx2
    · exact ma
    · rw [List.mem_singleton.mp hx2]; exact mb
  refine (seqT h hn (fun _ => 3) (κ := fun _ => 1) (Y := fun _ => tt) (X := fun _ => tt) stb_tt stb_tt [a, b] hab (by simp [nab]) (fun x hx2 => iE x (tk3 x hx2) (by
    rcases List.mem_cons.mp hx2 with rfl | hx2
    · exact hEa
    · rw [List.mem_singleton.mp hx2]; exact hEb)) (m + 4 * sz c + 3) s2 ((11, (n : Int), 0) :: l) k3 g2 (fun x hx2 => by rw [hcx x (hab x hx2)]; exact x2) (B2.le (by rw [szs2]; omega) (by rw [szs2]; omega) (by rw [szs2]; show l.length + 1 + _ ≤ _; omega)) (fun _ _ => trivial) (fun s3 k4 p3 _ => ?_)).le (by rw [szs2]; omega)
  have p03 : PB s0 kids up sz root N s s3 [a, b] := p3.fst p02 (f02.v 69 rfl) (f02.v 82 rfl) (f02.v 49 rfl) (f02.v 74 rfl)
  refine kL.step k4 (by omega) (fun s4 f4 k5 => go_11 ?_)
  have g4 : GI s0 kids root s4 := p03.1.2.1.sm f4 rfl rfl rfl rfl
  have p04 : cP s s4 (bel kids [a, b]) (szs sz [a, b]) := p03.1.1.tr (cP.sm (D := bel kids [a, b]) (w := 0) f4 (fm.sm f4 rfl) rfl rfl rfl) (fun _ q => q) (fun _ q => q) (by omega)
  have e49 : zv s4 49 = zv s 49 := by rw [f4.v 49 rfl, p03.2.1]
  have e74 : zv s4 74 = zv s 74 := by rw [f4.v 74 rfl, p03.2.2]
  have x4 : cX s0 kids s4 (cxF (za s0 25) up root N n) := hx.fr p04 e49
  have B4 : cB s4 (1 + 1 + sz c) (1 + 1 + sz c) l.length := hb.fs p04 (by rw [szs2]; omega) e49 (by omega)
  obtain ⟨d1, d2, d3, d4, d5, d6, d7, d8⟩ := id B4
  have lo4 := g4.lo
  have o28 : ∀ y, za s4 28 y = za s0 28 y := fun y => g4.st.a 28 y rfl
  -- from the body's task on
  have fin : ∀ s5, foS s0 kids root n c (cxF (za s0 25) up root N n).2.2.2 s4 s5 → cTk s5 ((2, (c : Int), 0) :: (10, 0, -1) :: (9, 0, 0) :: l) → kL Qc (m + 4 * sz c + 2) s5 := fun s5 fo k6 => by
    obtain ⟨F, g5, c5, ec5, S5, y49, y79, y29, y31, yr⟩ := fo
    have v67 : zv s5 67 = zv s4 67 + 3 := by
      rw [S5.1]
      have := g4.sv
      show (((zv s4 67).toNat + 3 : Nat) : Int) = _
      omega
    have x5 : cX s0 kids s5 (cxF (za s0 25) up root N c) := by
      rw [hcx c mc]
      obtain ⟨h1, h2, h3, h4, -⟩ := x4
      refine ⟨fun _ => rfl, ?_, ?_, ?_, ec5⟩
      · rw [F.v 80 rfl]; exact h2
      · rw [F.v 77 rfl]; exact h3
      · rw [F.v 76 rfl]; exact h4
    have B5 : cB s5 (sz c) (ub (za s0 25) kids sz c) (l.length + 1 + 1) := by
      unfold cB
      rw [y49, v67, y79, F.v 69 rfl, F.v 81 rfl, F.v 78 rfl, F.v 80 rfl]
      omega
    refine (iC c elk.symm hCc (m + 2) s5 _ k6 ⟨g5, x5, B5⟩ trivial (fun s6 k7 p6 _ => ?_)).le (by omega)
    have p := p6.1.1
    have e79 := p.s79
    refine kL.loops (m := m + 1) k7 (by show l.length + 1 < 26000; omega) ⟨by omega, by omega⟩ (fun s7 f7 e7 k8 => ?_)
    have g7 : GI s0 kids root s7 := p6.1.2.1.s79 (zSm.rf.tr f7 rfl rfl) (by omega)
    have S7 := (S5.cp p).sm f7 rfl rfl
    have z80 : zv s7 80 = zv s4 80 := by rw [f7.v 80 rfl, p.s80, F.v 80 rfl]
    have sw4 := g4.sw
    refine kL.bend g7 k8 (by omega) S7 g4 (by omega) (by rw [f7.v 49 rfl, p6.2.1]; omega) ⟨by omega, by omega⟩ (fun s8 k9 f8 z49 z67 zsv z55 z74 z80b g8 => ?_)
    have f68 : zSm s6 s8 [] [49, 55, 63, 67, 74, 79, 80] := (zSm.rf.tr f7 rfl rfl : zSm s6 s7 [] [49, 55, 63, 67, 74, 79, 80]).tr f8 rfl rfl
    have cc6 : cC s4 s6 (fun x => x = n ∨ bel kids [c] x) (szs sz [c]) := c5.tr p.c (fun _ q => Or.inl q) (fun _ q => Or.inr q) (by omega)
    have P48 : cP s4 s8 (fun x => x = n ∨ bel kids [c] x) (szs sz [c]) := cc6.fin f68 rfl z49 z67 zsv z55 (by rw [f8.v 79 rfl, e7, e79, y79]; omega) (by rw [z80b, z80]; omega)
    have bn : ∀ x, (x = n ∨ bel kids [c] x) → bel kids [n] x := fun x q => by
      rcases q with rfl | q
      · exact ⟨x, List.mem_cons_self .., rch.rt kids x⟩
      · exact bel.upw (fun d hd => by rw [List.mem_singleton.mp hd]; exact mc) q
    have P08 : cP s s8 (bel kids [n]) (szs sz [n]) := p04.tr P48 (fun x q => bel.upw hab q) bn (by rw [szs2, szs1, szs1]; omega)
    have q38 : cQ s3 s8 (fun x => x = n ∨ bel kids [c] x) := (cQ.sm (D := fun x => x = n ∨ bel kids [c] x) f4 (fm.sm f4 rfl) rfl rfl).tr P48.q (fun _ q => q) (fun _ q => q)
    have q68 : cQ s6 s8 (fun _ => False) := cQ.sm f68 (fm.sm f68 rfl) rfl rfl
    have kn : ∀ d ∈ kids n, ∀ y, rch kids d y → ¬ y = n := fun d hd y hy e => by
      subst e
      have h1 := h.szk hn hd
      rcases h.szx (hkl d hd) hy with q | q
      · rw [q] at h1; omega
      · omega
    have kab : ∀ d ∈ [a, b], ∀ y, rch kids d y → ¬ (y = n ∨ bel kids [c] y) := fun d hd y hy q => by
      rcases q with q | ⟨c2, hc2, q⟩
      · exact kn d (hab d hd) y hy q
      · rw [List.mem_singleton.mp hc2] at q
        refine h.dj hn (hab d hd) mc ?_ hy q
        rcases List.mem_cons.mp hd with rfl | hd
        · exact nac
        · rw [List.mem_singleton.mp hd]; exact nbc
    have nc : ¬ bel kids [c] n := fun ⟨c2, hc2, q⟩ => by
      rw [List.mem_singleton.mp hc2] at q
      exact kn c mc n q rfl
    have w29 : za s8 29 n = (c : Int) := by rw [f68.a 29 n rfl, (p.nd n nc).1]; exact y29
    have w31 : za s8 31 n = za s5 31 n := by rw [f68.a 31 n rfl, (p.nd n nc).2.2]
    have z69 : zv s8 69 = zv s6 69 := f68.v 69 rfl
    have y69 : zv s5 69 = zv s4 69 := F.v 69 rfl
    have y469 : zv s4 69 = zv s3 69 := f4.v 69 rfl
    refine hq s8 k9 ⟨⟨P08, g8, fun r h1 h2 => ?_, fun z d hd => ?_, ?_⟩, by rw [z49, e49], by rw [z74, e74]⟩ trivial
    · by_cases c3 : (r : Int) < zv s3 69
      · obtain ⟨d, hd, q⟩ := p03.1.2.2.1 r h1 c3
        exact ⟨n, List.mem_cons_self .., (q.fr h (hkl d (hab d hd)) c3 q38 (fun x hx2 _ y hy => kab d hd y (hx2.tr hy))).upw ((rch.rt kids n).kid (hab d hd))⟩
      · obtain ⟨d, hd, q⟩ := p6.1.2.2.1 r (by omega) (by omega)
        rw [List.mem_singleton.mp hd] at q
        exact ⟨n, List.mem_cons_self .., (q.fr h hcN (by omega) q68 (fun _ _ _ _ _ q => q)).upw ((rch.rt kids n).kid mc)⟩
    · rw [List.mem_singleton.mp hd]
      have z3 : zv s3 12 = 0 := by
        by_cases e : zv s3 12 = 0
        · exact e
        · exact absurd z (q38.m e)
      have z6 : zv s6 12 = 0 := by
        by_cases e : zv s6 12 = 0
        · exact e
        · exact absurd z (q68.m e)
      refine FA.upw (fac_27 hK ⟨by rw [w29, elk], by rw [w31, y31]; exact g4.iu.1, by
        rw [w31]
        exact yr.le (Int.le_trans p.mu q68.mu)⟩) (fun d hd => ?_)
      rw [hkr] at hd
      rcases List.mem_cons.mp hd with rfl | hd
      · exact FA.tv (by rw [kr_eq (by rw [ev]; rfl)]; exact List.map_eq_nil_iff.mp ((h.sh d hvN).lf (by omega))) (fac_no (by rw [ev]; rfl))
      · by_cases dab : d ∈ [a, b]
        · exact (p03.1.2.2.2.1 z3 d dab).fr h (hkl d (hab d dab)) q38.mu q38.r1 q38.w1 (fun r hr => (q38.rr r hr).2.2) (fun y hy => q38.nd y (kab d dab y hy))
        · have : d = c := by
            rcases List.mem_cons.mp hd with e | hd
            · exact absurd (by rw [e]; exact List.mem_cons_self ..) dab
            · rcases List.mem_cons.mp hd with e | hd
              · exact absurd (by rw [e]; exact List.mem_cons_of_mem _ (List.mem_cons_self ..)) dab
              · exact List.mem_singleton.mp hd
          rw [this]
          exact (p6.1.2.2.2.1 z6 c (List.mem_cons_self ..)).fr h hcN q68.mu q68.r1 q68.w1 (fun r hr => (q68.rr r hr).2.2) (fun y _ => q68.nd y (fun q => q))
    · have mk : ∀ d, d = a ∨ d = b ∨ d = c → d ∈ kr (za s0 25) kids n := fun d hd => by
        rw [hkr]
        rcases hd with rfl | rfl | rfl
        · exact List.mem_cons_of_mem _ (List.mem_cons_self ..)
        · exact List.mem_cons_of_mem _ (List.mem_cons_of_mem _ (List.mem_cons_self ..))
        · exact List.mem_cons_of_mem _ (List.mem_cons_of_mem _ (List.mem_cons_of_mem _ (List.mem_cons_self ..)))
      rcases p6.1.2.2.2.2 with q | ⟨q0, d, hd, x, q1, q2, q3⟩
      · have e82 : zv s8 82 = zv s3 82 := by rw [f68.v 82 rfl, q, F.v 82 rfl, f4.v 82 rfl]
        rcases p03.1.2.2.2.2 with q | ⟨q0, d, hd, x, q1, q2, q3⟩
        · exact Or.inl (e82.trans q)
        · refine Or.inr ⟨q0, n, List.mem_cons_self .., x, e82.trans q1, q2, ((rin.rt (za s0 25) kids n).kid (mk d ?_)).tr q3⟩
          rcases List.mem_cons.mp hd with e | hd
          · exact Or.inl e
          · exact Or.inr (Or.inl (List.mem_singleton.mp hd))
      · refine Or.inr ⟨?_, n, List.mem_cons_self .., x, by rw [f68.v 82 rfl]; exact q1, q2, ((rin.rt (za s0 25) kids n).kid (mk d (Or.inr (Or.inr (List.mem_singleton.mp hd))))).tr q3⟩
        rw [F.v 73 rfl, f4.v 73 rfl, p03.1.1.s73] at q0
        exact q0
  have f41 : ∀ x : Int, zSm s4 (zpa s4 30 n x) [29, 30, 60, 61, 62] [12, 13, 58, 59] := fun x => zSm.rf.pa rfl
  have o41 : ∀ (x : Int) (y : Nat), ¬ y = n → za (zpa s4 30 n x) 29 y = za s4 29 y ∧ za (zpa s4 30 n x) 30 y = za s4 30 y := fun x y hy => ⟨rfl, by rw [za_pa, if_pos rfl, if_neg hy]⟩
  have g41 : ∀ x : Int, GI s0 kids root (zpa s4 30 n x) := fun x => g4.sm (js := [30]) (ks := []) (zSm.rf.pa rfl) rfl rfl rfl rfl
  unfold wr_forName
  rw [Int.toNat_natCast, show za s4 25 n = 27 from (g4.st.a 25 n rfl).trans hK, show za s4 27 n = (v : Int) from (g4.st.a 27 n rfl).trans ch.1, Int.toNat_natCast, show za s4 28 v = (a : Int) from (o28 v).trans ch.2.1, Int.toNat_natCast, show za s4 28 a = (b : Int) from (o28 a).trans ch.2.2.1, Int.toNat_natCast]
  refine ⟨by omega, by omega, fun _ => ⟨by omega, by omega, by omega, by omega, by omega, by omega, by omega, by omega, by omega, by omega, ?_⟩, fun q => absurd q (by decide)⟩
  rcases qr with qr | ⟨ke, qr, qke⟩
  · have hr0 : r = [] := List.map_eq_nil_iff.mp (er.trans qr)
    rw [hr0] at ch
    have c1 : za s4 28 b = (c : Int) := (o28 b).trans ch.2.2.2.1
    have c2 : za s4 28 c = -1 := (o28 c).trans ch.2.2.2.2
    rw [c1, Int.toNat_natCast, c2]
    refine ⟨by omega, by omega, fun _ => ?_, fun q => absurd (by decide) q⟩
    exact sp_for171 h hN hr hK mv mc g4 x4.2.2.2.2 (f41 1) (fun q => q) (g41 1) (o41 1) k5 (by omega) (by omega) (by omega) (by omega) fin
  · obtain ⟨e, re, ee⟩ := map1 (er.trans qr)
    rw [re] at ch
    have mek : e ∈ kids n := by rw [ek, re]; exact List.mem_cons_of_mem _ (List.mem_cons_of_mem _ (List.mem_cons_of_mem _ (List.mem_append.mpr (Or.inl (List.mem_cons_self ..)))))
    have heN := hkl e mek
    have c1 : za s4 28 b = (e : Int) := (o28 b).trans ch.2.2.2.1
    have c2 : za s4 28 e = (c : Int) := (o28 e).trans ch.2.2.2.2.1
    rw [c1, Int.toNat_natCast, c2]
    refine ⟨by omega, by omega, fun q => absurd q (by omega), fun _ => ?_⟩
    refine (g41 1).cn h hN (hr.kid mek) (by rw [ee]; exact qke) (fun s5 f5 m5 _ g5 => ⟨by omega, by omega, by omega, by omega, ?_⟩)
    rw [show za s5 28 e = (c : Int) from (f5.a 28 e rfl).trans c2]
    refine sp_for171 h hN hr hK mv mc g4 x4.2.2.2.2 (((f41 1).tr f5 rfl rfl).pa rfl) (fun q => m5 q) (g5.sm (js := [30]) (ks := []) (zSm.rf.pa rfl) rfl rfl rfl rfl) (fun y hy => ?_) k5 (by omega) (by omega) (by omega) (by omega) fin
    obtain ⟨y1, y2⟩ := o41 1 y hy
    exact ⟨(f5.a 29 y rfl).trans y1, by rw [za_pa, if_pos rfl, if_neg hy, f5.a 30 y rfl]; exact y2⟩
end FO

