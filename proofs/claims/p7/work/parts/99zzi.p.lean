/-! THE CHECK: SWITCHON -/
section SW
variable {s0 : zS} {kids : Nat → List Nat} {up sz : Nat → Nat} {root N : Nat} {Qc : zS → Prop}
theorem sp_isTwice (h : fF s0 kids up sz [root] N) (hN : N ≤ 2700) {n e : Nat} {r : List Nat} (hn : n < N) (ek : kids n = e :: r) {s : zS} (g : GI s0 kids root s) (q : Nat) (hqN : q < 26000) {Q : Int → zS → Prop} (hq : ∀ x, Q x s) : wr_isTwice s n q Q := by
  have hkl : ∀ c ∈ kids n, c < N := fun c hc => (h.kd n hn c hc).1
  have o28 : ∀ y, za s 28 y = za s0 28 y := fun y => g.st.a 28 y rfl
  have L24 : ∀ (k12 : zS → Int → Int → Prop) (c : Nat), c < N → k12 s q (za s 28 c) → ∀ (qs : List Nat) (x : Int) (m : Nat), qs.length < m → fCh s x qs → (∀ d ∈ qs, d < N) → wr_isTwice_24 Q k12 m s q c x := by
    intro k12 c hc hk qs
    induction qs with
    | nil =>
      intro x m hm h1 _
      obtain ⟨m, rfl⟩ : ∃ q, m = q + 1 := ⟨m - 1, by have : 0 < m := hm; omega⟩
      have h1' : x = -1 := h1
      unfold wr_isTwice_24
      unfold wr_isTwice_24B
      rw [Int.toNat_natCast]
      exact ⟨fun _ => ⟨by omega, by omega, hk⟩, fun e => absurd (by omega) e⟩
    | cons a qs ih =>
      intro x m hm h1 hd
      have e4 : (a :: qs).length = qs.length + 1 := rfl
      rw [e4] at hm
      obtain ⟨m, rfl⟩ : ∃ q, m = q + 1 := ⟨m - 1, by omega⟩
      have h1' : x = (a : Int) := h1.1
      have haN := hd a (List.mem_cons_self ..)
      subst h1'
      have nx := ih _ m (by omega) h1.2 (fun d hd2 => hd d (List.mem_cons_of_mem _ hd2))
      unfold wr_isTwice_24
      unfold wr_isTwice_24B
      rw [Int.toNat_natCast]
      exact ⟨fun e => absurd e (by omega), fun _ => ⟨fun _ => ⟨by omega, by omega, fun _ => ⟨by omega, by omega, nx⟩, fun _ => ⟨by omega, by omega, fun _ => ⟨by omega, by omega, nx⟩, fun _ => ⟨by omega, by omega, by omega, by omega, fun _ => ⟨by omega, by omega, nx⟩, fun _ => hq 1⟩⟩⟩, fun _ => hq 0⟩⟩
  have L12 : ∀ (ks : List Nat) (x : Int) (m : Nat), ks.length < m → fCh s x ks → (∀ d ∈ ks, d < N) → wr_isTwice_12 Q m s q x := by
    intro ks
    induction ks with
    | nil =>
      intro x m hm h1 _
      obtain ⟨m, rfl⟩ : ∃ q, m = q + 1 := ⟨m - 1, by have : 0 < m := hm; omega⟩
      have h1' : x = -1 := h1
      unfold wr_isTwice_12
      unfold wr_isTwice_12B
      exact ⟨fun _ => hq 0, fun e => absurd (by omega) e⟩
    | cons a ks ih =>
      intro x m hm h1 hd
      have e4 : (a :: ks).length = ks.length + 1 := rfl
      rw [e4] at hm
      obtain ⟨m, rfl⟩ : ∃ q, m = q + 1 := ⟨m - 1, by omega⟩
      have h1' : x = (a : Int) := h1.1
      have haN := hd a (List.mem_cons_self ..)
      subst h1'
      have nx := ih _ m (by omega) h1.2 (fun d hd2 => hd d (List.mem_cons_of_mem _ hd2))
      unfold wr_isTwice_12
      unfold wr_isTwice_12B
      rw [Int.toNat_natCast]
      refine ⟨fun e => absurd e (by omega), fun _ => ⟨by omega, by omega, (kids a).length + 1, L24 _ a haN nx (kids a) _ _ (by omega) ?_ (fun d hd2 => (h.kd a haN d hd2).1)⟩⟩
      rw [g.st.a 27 a rfl]
      exact (h.ch a haN).fr (fun y _ => o28 y)
  have ch := h.ch n hn
  rw [ek] at ch
  have heN := hkl e (by rw [ek]; exact List.mem_cons_self ..)
  unfold wr_isTwice
  rw [Int.toNat_natCast, show za s 27 n = (e : Int) from (g.st.a 27 n rfl).trans ch.1, Int.toNat_natCast]
  refine ⟨by omega, by omega, by omega, by omega, r.length + 1, L12 r _ _ (by omega) ?_ (fun d hd => hkl d (by rw [ek]; exact List.mem_cons_of_mem _ hd))⟩
  rw [o28]
  exact ch.2.fr (fun y _ => o28 y)
/-- the cases are worked up to here -/
def swS (s0 : zS) (kids : Nat → List Nat) (root : Nat) (r : List Nat) (s s' : zS) : Prop := zSm s s' [29, 30, 60, 61, 62, 64, 65, 66] [12, 13, 58, 59, 63] ∧ fm s s' ∧ GI s0 kids root s' ∧ ∀ x : Nat, ¬ (za s0 25 x = 43 ∧ ∃ c ∈ r, x ∈ kids c) → za s' 29 x = za s 29 x ∧ za s' 30 x = za s 30 x
theorem tC_28 (h : fF s0 kids up sz [root] N) (hN : N ≤ 2700) {n : Nat} (hr : rch kids root n) (hK : za s0 25 n = 28) (iE : ∀ c ∈ kids n, kE (za s0 25 c) → tri s0 kids up sz root N Qc 1 3 c tt tt) (iL : ∀ c ∈ kids n, za s0 25 c = 41 → tri s0 kids up sz root N Qc 0 13 c (fun s => za s 30 c = (up c : Int)) tt) : tri s0 kids up sz root N Qc 0 2 n tt tt := by
  have hn := h.lt hr
  obtain ⟨ke, kr', q1, qe, -, q41⟩ := (h.sh n hn).sw hK
  obtain ⟨e, r, ek, ee, er⟩ : ∃ e r, kids n = e :: r ∧ za s0 25 e = ke ∧ r.map (fun c => za s0 25 c) = kr' := by
    cases hk : kids n with
    | nil => rw [hk] at q1; exact absurd q1 (by simp)
    | cons a l => rw [hk] at q1; rw [List.map_cons] at q1; injection q1 with z1 z2; exact ⟨a, l, rfl, z1, z2⟩
  have hkl : ∀ c ∈ kids n, c < N := fun c hc => (h.kd n hn c hc).1
  have me : e ∈ kids n := by rw [ek]; exact List.mem_cons_self ..
  have mr : ∀ c ∈ r, c ∈ kids n := fun c hc => by rw [ek]; exact List.mem_cons_of_mem _ hc
  have heN := hkl e me
  have hE : kE (za s0 25 e) := by rw [ee]; exact qe
  have h41 : ∀ c ∈ r, za s0 25 c = 41 := fun c hc => q41 _ (by rw [← er]; exact List.mem_map.mpr ⟨c, hc, rfl⟩)
  have hnd := h.kn n hn
  rw [ek, List.nodup_cons] at hnd
  have hzn : sz n = 1 + szs sz (kids n) := h.ss n hn
  have ezk : szs sz (kids n) = sz e + szs sz r := by rw [ek]; simp only [szs, List.map_cons, List.sum_cons]
  have hze : 1 ≤ sz e := by have := h.ss e heN; omega
  have hlenr : r.length ≤ szs sz r := len_sum h (fun c hc => hkl c (mr c hc))
  have un : ub (za s0 25) kids sz n = sz n := ub_o (by omega)
  have ue := ub_le h heN
  have hlu := lab_ubs h (l := r) (fun c hc => hkl c (mr c hc))
  have elb : szs (lab (za s0 25) kids) (kids n) = szs (lab (za s0 25) kids) r := by
    rw [ek]
    have e0 : lab (za s0 25) kids e = 0 := if_neg (by have := hE.2; omega)
    simp only [szs, List.map_cons, List.sum_cons]
    omega
  have hkr : kr (za s0 25) kids n = kids n := kr_eq (by rw [hK]; rfl)
  have hcxe : cxF (za s0 25) up root N e = ((cxF (za s0 25) up root N n).1, (cxF (za s0 25) up root N n).2.1, (cxF (za s0 25) up root N n).2.2.1, n :: (cxF (za s0 25) up root N n).2.2.2) := by
    rw [cxF_kid _ h hr me]
    exact cxS_b (Or.inl hK)
  have ch := h.ch n hn
  rw [ek] at ch
  refine tri.mk (by omega) h hn hY_tt (fun m s l k1 hl hp _ hq => go_2 (co_28 (c := e) (by omega) (by rw [hp.1.st.a 25 n rfl]; exact hK) (by rw [hp.1.st.a 27 n rfl]; exact ch.1) (by omega) ?_))
  obtain ⟨g, hx, hb⟩ := hp
  obtain ⟨b1, b2, b3, b4, b5, b6, b7, b8⟩ := id hb
  rw [un] at b1
  refine sp_task k1 (by omega) 12 n 0 (fun s1 k2 f1 => sp_task k2 (by show l.length + 1 < 26000; omega) 3 e 0 (fun s2 k3 f2 => ?_))
  have f02 : zSm s s2 [64, 65, 66] [63] := f1.tr f2 rfl rfl
  have p02 : cP s s2 (bel kids [e]) 0 := cP.sm f02 (fm.sm f02 rfl) rfl rfl rfl
  have g2 := g.sm f02 rfl rfl rfl rfl
  have x2 : cX s0 kids s2 (cxF (za s0 25) up root N n) := hx.fr p02 (f02.v 49 rfl)
  have x2e : cX s0 kids s2 (cxF (za s0 25) up root N e) := by
    rw [hcxe]
    refine ⟨x2.1, fun q => ?_, x2.2.2.1, x2.2.2.2.1, x2.2.2.2.2.su (fun p hp => List.mem_cons_of_mem _ hp)⟩
    obtain ⟨p, p1, p2⟩ := x2.2.1 q
    exact ⟨p, List.mem_cons_of_mem _ p1, p2⟩
  have B2 : cB s2 (sz n) (sz n) l.length := hb.fs p02 (by omega) (f02.v 49 rfl) (by omega)
  refine (iE e me hE (m + 4 * szs sz r + 2) s2 _ k3 ⟨g2, x2e, B2.le (by omega) (by omega) (by show l.length + 1 + _ ≤ _; omega)⟩ trivial (fun s3 k4 p3 _ => ?_)).le (by omega)
  have p03 : PB s0 kids up sz root N s s3 [e] := p3.fst p02 (f02.v 69 rfl) (f02.v 82 rfl) (f02.v 49 rfl) (f02.v 74 rfl)
  refine kL.le (kL.step (m := m + 4 * szs sz r + 1) k4 (by omega) (fun s4 f4 k5 => go_12 ?_)) (by omega)
  have g4 : GI s0 kids root s4 := p03.1.2.1.sm f4 rfl rfl rfl rfl
  have p34 : cP s3 s4 (bel kids [e]) 0 := cP.sm f4 (fm.sm f4 rfl) rfl rfl rfl
  have p04 : cP s s4 (bel kids [e]) (szs sz [e]) := p03.1.1.tr p34 (fun _ q => q) (fun _ q => q) (by omega)
  have e49 : zv s4 49 = zv s 49 := by rw [f4.v 49 rfl, p03.2.1]
  have e74 : zv s4 74 = zv s 74 := by rw [f4.v 74 rfl, p03.2.2]
  have x4 : cX s0 kids s4 (cxF (za s0 25) up root N n) := hx.fr p04 e49
  have B4 : cB s4 (1 + szs sz r) (1 + szs sz r) l.length := hb.fs p04 (by rw [szs1]; omega) e49 (by omega)
  obtain ⟨d1, d2, d3, d4, d5, d6, d7, d8⟩ := id B4
  have sw4 := g4.sw
  unfold wr_switchOf
  refine sp_begin g4 (by omega) (fun s5 f5 S5 w55 g5 => ?_)
  have e80 : zv s5 80 = zv s4 80 := f5.v 80 rfl
  rw [e80]
  refine ⟨⟨by omega, by omega⟩, ?_⟩
  have f6 : zSm s5 (zpv s5 80 (zv s4 80 + 1)) [] [80] := zSm.rf.pv rfl
  have g6 : GI s0 kids root (zpv s5 80 (zv s4 80 + 1)) := g5.p80 (by omega)
  have v6 : zv (zpv s5 80 (zv s4 80 + 1)) 80 = zv s4 80 + 1 := rfl
  have S6 := S5.sm f6 rfl rfl
  generalize zpv s5 80 (zv s4 80 + 1) = s6 at f6 g6 v6 S6
  have f46 : zSm s4 s6 [68] [55, 67, 80] := (zSm.rf.tr f5 rfl rfl : zSm s4 s5 [68] [55, 67, 80]).tr f6 rfl rfl
  have ec6 : EC s0 kids s6 (cxF (za s0 25) up root N n).2.2.2 := x4.2.2.2.2.sm f46 rfl rfl
  have v649 : zv s6 49 = zv s4 49 := f46.v 49 rfl
  refine sp_labels h hN hr g6 ec6 (by rw [elb]; omega) (fun s7 lb nb7 => ?_)
  obtain ⟨f7, g7, cc7, ec7, e7⟩ := lb
  rw [elb] at e7
  have k7 : cTk s7 l := (k5.sm f46 rfl rfl).sm f7 rfl rfl
  refine sp_task k7 (by omega) 9 0 (-1) (fun s8 k8 f8 => ?_)
  have g8 := g7.sm f8 rfl rfl rfl rfl
  rw [Int.toNat_natCast, show za s8 27 n = (e : Int) from (g8.st.a 27 n rfl).trans ch.1, Int.toNat_natCast, k8.2]
  refine ⟨by omega, by omega, by omega, by omega, r.length + 1, ?_⟩
  -- a row of cases, labels
  have J : ∀ (c : Nat), c ∈ r → ∀ (k47 : zS → Int → Int → Int → Int → Prop) (qs : List Nat) (x : Int) (m2 : Nat) (x2 : Int) (t : zS) (A : List cT), qs.length < m2 → fCh t x qs → (∀ q ∈ qs, q ∈ kids c) → swS s0 kids root r s8 t → cTk t (A ++ (9, 0, -1) :: l) → A.length + l.length + 1 < 26000 → (∀ t' x2', swS s0 kids root r s8 t' → cTk t' ((13, (c : Int), 0) :: A ++ (9, 0, -1) :: l) → k47 t' n x2' (((9, 0, -1) :: l : List cT).length : Nat) (za t' 28 c)) → wr_switchOf_61 (fun s' => kL Qc (m + 4 * szs sz r + 1) s') k47 m2 t n x2 (((9, 0, -1) :: l : List cT).length : Nat) c x := by
    intro c hc k47 qs
    have hcN := hkl c (mr c hc)
    induction qs with
    | nil =>
      intro x m2 x2 t A hm h1 _ hs ht hA hk
      obtain ⟨m2, rfl⟩ : ∃ q, m2 = q + 1 := ⟨m2 - 1, by have : 0 < m2 := hm; omega⟩
      have h1' : x = -1 := h1
      unfold wr_switchOf_61
      unfold wr_switchOf_61B
      refine ⟨fun _ => sp_task ht (by rw [List.length_append]; show A.length + (l.length + 1) < 26000; omega) 13 c 0 (fun t2 kk ff => ⟨by omega, by omega, ?_⟩), fun e => absurd (by omega) e⟩
      rw [Int.toNat_natCast]
      obtain ⟨z1, z2, z3, z4⟩ := hs
      exact hk t2 x2 ⟨z1.tr ff rfl rfl, z2.tr (fm.sm ff rfl), z3.sm ff rfl rfl rfl rfl, fun y hy => by rw [ff.a 29 y rfl, ff.a 30 y rfl]; exact z4 y hy⟩ kk
    | cons a qs ih =>
      intro x m2 x2 t A hm h1 hd hs ht hA hk
      have e4 : (a :: qs).length = qs.length + 1 := rfl
      rw [e4] at hm
      obtain ⟨m2, rfl⟩ : ∃ q, m2 = q + 1 := ⟨m2 - 1, by omega⟩
      have h1' : x = (a : Int) := h1.1
      have ha := hd a (List.mem_cons_self ..)
      have haN := (h.kd c hcN a ha).1
      subst h1'
      obtain ⟨z1, z2, z3, z4⟩ := id hs
      have e25 : za t 25 a = za s0 25 a := z3.st.a 25 a rfl
      obtain ⟨u1, u2, -⟩ := z3.tk2 h haN
      -- on with the next
      have nx : ∀ (t2 : zS) (x2 : Int), zSm t t2 [29, 30, 60, 61, 62] [12, 13, 58, 59] → fm t t2 → GI s0 kids root t2 → (∀ y : Nat, ¬ (y = a ∧ za s0 25 a = 43) → za t2 29 y = za t 29 y ∧ za t2 30 y = za t 30 y) → wr_switchOf_61 (fun s' => kL Qc (m + 4 * szs sz r + 1) s') k47 m2 t2 n x2 (((9, 0, -1) :: l : List cT).length : Nat) c (za t2 28 a) := fun t2 x2 f2 mm2 gg2 oo => by
        refine ih _ m2 x2 t2 A (by omega) ?_ (fun q hq2 => hd q (List.mem_cons_of_mem _ hq2)) ⟨z1.tr f2 rfl rfl, z2.tr mm2, gg2, fun y hy => ?_⟩ (ht.sm f2 rfl rfl) hA hk
        · rw [f2.a 28 a rfl]
          exact h1.2.fr (fun y _ => f2.a 28 y rfl)
        · obtain ⟨y1, y2⟩ := oo y (fun q => hy ⟨by rw [q.1]; exact q.2, c, hc, by rw [q.1]; exact ha⟩)
          obtain ⟨y3, y4⟩ := z4 y hy
          exact ⟨by rw [y1, y3], by rw [y2, y4]⟩
      have J101 : ∀ (t2 : zS) (x2 : Int), zSm t t2 [] [12, 13] → fm t t2 → wr_switchOf_101 (fun s' => kL Qc (m + 4 * szs sz r + 1) s') k47 (wr_switchOf_61 (fun s' => kL Qc (m + 4 * szs sz r + 1) s') k47 m2) t2 n x2 (((9, 0, -1) :: l : List cT).length : Nat) c a := fun t2 x2 f2 mm2 => by
        have gg2 : GI s0 kids root t2 := z3.sm f2 rfl rfl rfl rfl
        unfold wr_switchOf_101
        rw [Int.toNat_natCast, show za t2 25 a = za s0 25 a from gg2.st.a 25 a rfl]
        refine ⟨by omega, by omega, fun c43 => ⟨by omega, by omega, ?_⟩, fun c43 => ⟨by omega, by omega, nx t2 x2 (zSm.rf.tr f2 rfl rfl) mm2 gg2 (fun y _ => ⟨f2.a 29 y rfl, f2.a 30 y rfl⟩)⟩⟩
        obtain ⟨ka, v1, va⟩ := (h.sh a haN).e1 (by omega)
        obtain ⟨k, ekk, ea⟩ := map1 v1
        have mk : k ∈ kids a := by rw [ekk]; exact List.mem_cons_self ..
        have hkN := (h.kd a haN k mk).1
        have chA := h.ch a haN
        rw [ekk] at chA
        rw [show za t2 27 a = (k : Int) from (gg2.st.a 27 a rfl).trans chA.1]
        refine gg2.cn h hN (((hr.kid (mr c hc)).kid ha).kid mk) (by rw [ea]; exact va) (fun t3 f3 mm3 _ gg3 => ⟨by omega, by omega, ?_⟩)
        have gg4 : GI s0 kids root (zpa t3 29 a (zv t3 59)) := gg3.p29 (by omega)
        have J160 : ∀ y0 : Int, wr_switchOf_160 (fun s' => kL Qc (m + 4 * szs sz r + 1) s') k47 (wr_switchOf_61 (fun s' => kL Qc (m + 4 * szs sz r + 1) s') k47 m2) (zpa t3 29 a (zv t3 59)) n x2 (((9, 0, -1) :: l : List cT).length : Nat) c a k y0 a := fun y0 => by
          have f5 : zSm (zpa t3 29 a (zv t3 59)) (zpa (zpa t3 29 a (zv t3 59)) 30 a y0) [30] [] := zSm.rf.pa rfl
          have gg5 : GI s0 kids root (zpa (zpa t3 29 a (zv t3 59)) 30 a y0) := gg4.sm f5 rfl rfl rfl rfl
          have F5 : zSm t (zpa (zpa t3 29 a (zv t3 59)) 30 a y0) [29, 30, 60, 61, 62] [12, 13, 58, 59] := (((zSm.rf.tr f2 rfl rfl : zSm t t2 [29, 30, 60, 61, 62] [12, 13, 58, 59]).tr f3 rfl rfl).pa rfl).pa rfl
          have M5 : fm t (zpa (zpa t3 29 a (zv t3 59)) 30 a y0) := mm2.tr mm3
          have O5 : ∀ y : Nat, ¬ (y = a ∧ za s0 25 a = 43) → za (zpa (zpa t3 29 a (zv t3 59)) 30 a y0) 29 y = za t 29 y ∧ za (zpa (zpa t3 29 a (zv t3 59)) 30 a y0) 30 y = za t 30 y := fun y hy => by
            have hya : ¬ y = a := fun q => hy ⟨q, c43⟩
            simp only [za_pa, reduceIte, Nat.reduceEqDiff, hya]
            exact ⟨(f3.a 29 y rfl).trans (f2.a 29 y rfl), (f3.a 30 y rfl).trans (f2.a 30 y rfl)⟩
          have nx5 := nx _ x2 F5 M5 gg5 O5
          obtain ⟨w1, w2, w3, w4⟩ := gg5.tk2 h hkN
          unfold wr_switchOf_160
          rw [Int.toNat_natCast]
          refine ⟨by omega, by omega, fun _ => ⟨by omega, by omega, nx5⟩, fun _ => sp_isTwice h hN hn ek gg5 a (by omega) (fun rr => ⟨fun _ => ⟨by omega, by omega, nx5⟩, fun _ => ⟨by omega, by omega, ?_⟩⟩)⟩
          rw [Int.toNat_natCast]
          refine sp_place _ _ w3 w4 (fun r3 => ?_)
          refine ffm_fault (sp_faultN _ 6 r3 (by decide)) ?_
          rintro t6 - ⟨ft, qt⟩
          exact ⟨by omega, by omega, nx t6 x2 (F5.tr ft rfl rfl) (fun _ => qt) (gg5.sm ft rfl rfl rfl rfl) (fun y hy => by rw [ft.a 29 y rfl, ft.a 30 y rfl]; exact O5 y hy)⟩
        exact ⟨fun _ => J160 0, fun _ => J160 1⟩
      unfold wr_switchOf_61
      unfold wr_switchOf_61B
      rw [Int.toNat_natCast, Int.toNat_natCast, e25]
      refine ⟨fun e => absurd e (by omega), fun _ => ⟨by omega, by omega, fun _ => J101 t x2 zSm.rf fm.rf, fun _ => ⟨fun _ => J101 t 1 zSm.rf fm.rf, fun _ => ⟨by omega, by omega, sp_place t _ u1 u2 (fun rr => ?_)⟩⟩⟩⟩
      refine ffm_fault (sp_faultN t 6 rr (by decide)) ?_
      rintro t2 - ⟨ft, qt⟩
      exact J101 t2 1 ft (fun _ => qt)
  have L : ∀ (ks : List Nat) (x : Int) (m2 : Nat) (x2 : Int) (t : zS) (A : List cT), ks.length < m2 → fCh t x ks → (∀ c ∈ ks, c ∈ r) → swS s0 kids root r s8 t → cTk t (A ++ (9, 0, -1) :: l) → A.length + l.length + 1 + ks.length ≤ 26000 → (∀ t', swS s0 kids root r s8 t' → cTk t' (A.reverse ++ (ks.map (fun c : Nat => ((13, (c : Int), 0) : cT)) ++ (9, 0, -1) :: l)) → kL Qc (m + 4 * szs sz r + 1) t') → wr_switchOf_47 (fun s' => kL Qc (m + 4 * szs sz r + 1) s') m2 t n x2 (((9, 0, -1) :: l : List cT).length : Nat) x := by
    intro ks
    induction ks with
    | nil =>
      intro x m2 x2 t A hm h1 _ hs ht hA hk
      obtain ⟨m2, rfl⟩ : ∃ q, m2 = q + 1 := ⟨m2 - 1, by have : 0 < m2 := hm; omega⟩
      have h1' : x = -1 := h1
      unfold wr_switchOf_47
      unfold wr_switchOf_47B
      refine ⟨fun _ => sp_turn ht (by rw [List.length_append]; have : ([] : List Nat).length = 0 := rfl; show A.length + (l.length + 1) ≤ 26000; omega) (fun t' kk ff => ?_), fun e => absurd (by omega) e⟩
      obtain ⟨z1, z2, z3, z4⟩ := hs
      exact hk t' ⟨z1.tr ff rfl rfl, z2.tr (fm.sm ff rfl), z3.sm ff rfl rfl rfl rfl, fun y hy => by rw [ff.a 29 y rfl, ff.a 30 y rfl]; exact z4 y hy⟩ kk
    | cons a ks ih =>
      intro x m2 x2 t A hm h1 hd hs ht hA hk
      have e4 : (a :: ks).length = ks.length + 1 := rfl
      rw [e4] at hm hA
      obtain ⟨m2, rfl⟩ : ∃ q, m2 = q + 1 := ⟨m2 - 1, by omega⟩
      have h1' : x = (a : Int) := h1.1
      have ha := hd a (List.mem_cons_self ..)
      have haN := hkl a (mr a ha)
      subst h1'
      have z3 := hs.2.2.1
      have o28 : ∀ y, za t 28 y = za s0 28 y := fun y => z3.st.a 28 y rfl
      unfold wr_switchOf_47
      unfold wr_switchOf_47B
      rw [Int.toNat_natCast]
      refine ⟨fun e => absurd e (by omega), fun _ => ⟨by omega, by omega, (kids a).length + 1, J a ha _ (kids a) _ _ x2 t A (by omega) ?_ (fun q hq2 => hq2) hs ht (by omega) (fun t' x2' hs' ht' => ?_)⟩⟩
      · rw [z3.st.a 27 a rfl]
        exact (h.ch a haN).fr (fun y _ => o28 y)
      · have o28' : ∀ y, za t' 28 y = za t 28 y := fun y => by rw [hs'.2.2.1.st.a 28 y rfl, o28]
        rw [o28']
        refine ih _ m2 x2' t' ((13, (a : Int), 0) :: A) (by omega) (h1.2.fr (fun y _ => o28' y)) (fun c hc => hd c (List.mem_cons_of_mem _ hc)) hs' ht' (by show A.length + 1 + l.length + 1 + ks.length ≤ 26000; omega) (fun t2 hs2 ht2 => hk t2 hs2 ?_)
        rw [List.reverse_cons, List.append_assoc] at ht2
        exact ht2
  have o28 : ∀ y, za s8 28 y = za s0 28 y := fun y => g8.st.a 28 y rfl
  rw [o28]
  refine L r _ _ 0 s8 [] (by omega) (ch.2.fr (fun y _ => o28 y)) (fun c hc => hc) ⟨zSm.rf, fm.rf, g8, fun _ _ => ⟨rfl, rfl⟩⟩ k8 (by show 0 + l.length + 1 + r.length ≤ 26000; omega) (fun t ts tk => ?_)
  obtain ⟨ft, mt, gt, ot⟩ := ts
  have f7t : zSm s7 t [29, 30, 60, 61, 62, 64, 65, 66] [12, 13, 58, 59, 63] := (zSm.rf.tr f8 rfl rfl : zSm s7 s8 [29, 30, 60, 61, 62, 64, 65, 66] [12, 13, 58, 59, 63]).tr ft rfl rfl
  have f6t : zSm s6 t [29, 30, 50, 51, 52, 53, 54, 57, 60, 61, 62, 64, 65, 66] [12, 13, 49, 58, 59, 63] := (zSm.rf.tr f7 rfl rfl : zSm s6 s7 [29, 30, 50, 51, 52, 53, 54, 57, 60, 61, 62, 64, 65, 66] [12, 13, 49, 58, 59, 63]).tr f7t rfl rfl
  have F : zSm s4 t [29, 30, 50, 51, 52, 53, 54, 57, 60, 61, 62, 64, 65, 66, 68] [12, 13, 49, 55, 58, 59, 63, 67, 80] := (zSm.rf.tr f46 rfl rfl : zSm s4 s6 [29, 30, 50, 51, 52, 53, 54, 57, 60, 61, 62, 64, 65, 66, 68] [12, 13, 49, 55, 58, 59, 63, 67, 80]).tr f6t rfl rfl
  have t80 : zv t 80 = zv s4 80 + 1 := by rw [f6t.v 80 rfl]; exact v6
  have t49 : zv t 49 = zv s4 49 + (szs (lab (za s0 25) kids) r : Nat) := by rw [f7t.v 49 rfl, e7, v649]
  have St : sSt s4 t (zv s4 67).toNat [zv s4 49, zv s4 55, zv s4 74] := S6.sm f6t rfl rfl
  have t67 : zv t 67 = zv s4 67 + 3 := by
    rw [St.1]
    have := g4.sv
    show (((zv s4 67).toNat + 3 : Nat) : Int) = _
    omega
  have xt : cX s0 kids t ((cxF (za s0 25) up root N n).1, (cxF (za s0 25) up root N n).2.1, (cxF (za s0 25) up root N n).2.2.1, n :: (cxF (za s0 25) up root N n).2.2.2) := by
    obtain ⟨h1, h2, h3, h4, -⟩ := x4
    refine ⟨?_, fun _ => ⟨n, List.mem_cons_self .., hK⟩, ?_, ?_, ec7.sm f7t rfl rfl⟩
    · rw [F.v 79 rfl]; exact h1
    · rw [F.v 77 rfl]; exact h3
    · rw [F.v 76 rfl]; exact h4
  have Bt : cB t (szs sz r) (szs (ub (za s0 25) kids sz) r) (l.length + 1) := by
    unfold cB
    rw [t49, t67, t80, F.v 69 rfl, F.v 81 rfl, F.v 78 rfl, F.v 79 rfl]
    omega
  have br : ∀ x, x ∈ kids n ∧ za s0 25 x = 41 → bel kids r x := fun x q => by
    have hx2 := q.1
    rw [ek] at hx2
    rcases List.mem_cons.mp hx2 with z | z
    · have := hE.2
      rw [← z, q.2] at this
      omega
    · exact ⟨x, z, rch.rt kids x⟩
  have cct : cC s4 t (bel kids r) 0 := by
    have c1 : cC s4 s6 (bel kids r) 0 := cC.sm f46 (fm.sm f46 rfl) rfl rfl rfl
    have c2 : cC s4 s7 (bel kids r) 0 := c1.tr cc7 (fun _ q => q) br (by omega)
    have c3 : cC s4 s8 (bel kids r) 0 := c2.tr (cC.sm (D := bel kids r) (w := 0) f8 (fm.sm f8 rfl) rfl rfl rfl) (fun _ q => q) (fun _ q => q) (by omega)
    refine c3.tr (cC.own (D := bel kids r) (w := 0) ft mt rfl rfl (fun x hx2 => ?_)) (fun _ q => q) (fun _ q => q) (by omega)
    obtain ⟨z1, z2⟩ := ot x (fun ⟨_, c, hc, hxc⟩ => hx2 ⟨c, hc, (rch.rt kids c).kid hxc⟩)
    exact ⟨z1, z2, ft.a 31 x rfl⟩
  refine (tC_sec (m := m) h hN hr (Or.inl hK) mr hnd.2 (fun _ => 13) (fun c hc => ?_) g4 (by omega) (D0 := bel kids r) (fun x q => q) tk (by omega) gt xt Bt (fun c hc k => ?_) St cct (F.v 79 rfl) (by omega) (by omega) (fun s9 s10 k10 p10 p9 f10 g10 y49 y74 => ?_)).le (by omega)
  · intro m2 t2 l2 h1 h2 h3 h4
    exact (iL c (mr c hc) (h41 c hc)).D m2 t2 l2 h1 h2 (h3 (h41 c hc)) h4
  · rw [(ot c (fun q => by have := q.1; rw [k] at this; exact absurd this (by decide))).2, f8.a 30 c rfl, nb7 c (mr c hc) k, (h.kd n hn c (mr c hc)).2.1]
  · have pr : PB s0 kids up sz root N s4 s10 r := ⟨PBc.mv h (fun c hc => hkl c (mr c hc)) p10 p9 (F.v 69 rfl) (F.v 82 rfl) (F.v 73 rfl) f10 rfl g10, y49, y74⟩
    have pr3 : PB s0 kids up sz root N s3 s10 r := pr.fst (cP.sm f4 (fm.sm f4 rfl) rfl rfl rfl) (f4.v 69 rfl) (f4.v 82 rfl) (f4.v 49 rfl) (f4.v 74 rfl)
    have pa := p03.cons h hn me mr hnd.1 pr3
    rw [← ek] at pa
    exact hq s10 k10 ⟨PBc.node h hn (fun c hc => by rw [hkr]; exact hc) (fun c hc => by rw [hkr] at hc; exact hc) 0 0 (by omega) cP.rf rfl rfl pa.1 cP.rf rfl rfl pa.1.2.1 (fun _ => fac_no (by rw [hK]; rfl)), pa.2.1, pa.2.2⟩ trivial
end SW

