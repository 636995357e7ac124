/-! THE RUN: ASSIGNMENTS -/
section RUN
variable {s4 s1 : zS} {kids : Nat → List Nat} {up sz : Nat → Nat} {root N : Nat}
theorem two_le {f : Nat → Nat} {l : List Nat} {i j : Nat} (h1 : i < j) (h2 : j < l.length) : f (gt l i) + f (gt l j) ≤ (l.map f).sum := by
  have c := gt_cut (l := l) (i := i) (by omega)
  have m : gt l j ∈ l.drop (i + 1) := by
    have hl : j - (i + 1) < (l.drop (i + 1)).length := by rw [List.length_drop]; omega
    have e : (l.drop (i + 1))[j - (i + 1)] = gt l j := by
      rw [gt_e h2, List.getElem_drop]
      have q : i + 1 + (j - (i + 1)) = j := by omega
      simp only [q]
    rw [← e]
    exact List.getElem_mem hl
  have q := sum_mem (sz := f) m
  have e := congrArg (fun l => (l.map f).sum) c
  simp only [List.map_append, List.sum_append, List.map_cons, List.sum_cons] at e
  omega
theorem map_cst {c : Nat} : ∀ l : List Nat, (l.map (fun _ => c)).sum = c * l.length
  | [] => rfl
  | a :: l => by
    have e4 : (a :: l).length = l.length + 1 := rfl
    rw [List.map_cons, List.sum_cons, map_cst l, e4, Nat.mul_add]
    omega
theorem xP.aft (p : xP s4 s1 kids up sz root N) {x i : Nat} (xN : x < N) (hi : i < (kids x).length) (f : Nat → Nat) : aft kids up f (gt (kids x) i) = f (gt (kids x) i) + (((kids x).drop (i + 1)).map f).sum := aft_cut (gt_cut hi) ((p.szk xN).2 _ (gt_m hi)).2.1 (p.h.kn x xN)
theorem xP.len (p : xP s4 s1 kids up sz root N) {x : Nat} (xN : x < N) : (kids x).length < sz x := by
  obtain ⟨zx, zk⟩ := p.szk xN
  by_cases h : (kids x).length = 0
  · omega
  · have := zk (gt (kids x) 0) (gt_m (by omega))
    omega
/-- a kid's next one -/
theorem xP.nxt (p : xP s4 s1 kids up sz root N) {s : zS} (h : xS s4 s1 s) {x i : Nat} (xN : x < N) (hi : i + 1 < (kids x).length) : za s 28 (gt (kids x) i) = (gt (kids x) (i + 1) : Nat) := h.nx p (kids x) ((kids x).take i) (r := (kids x).drop (i + 1 + 1)) (p.h.ch x xN) (by
    have h1 := gt_cut (l := kids x) (i := i) (by omega)
    have h2 : (kids x).drop (i + 1) = gt (kids x) (i + 1) :: (kids x).drop (i + 1 + 1) := by
      rw [gt_e hi]
      exact List.drop_eq_getElem_cons hi
    rw [h2] at h1
    exact h1)
/-- one pair of an assignment: its tasks -/
theorem sp_assign (p : xP s4 s1 kids up sz root N) {s2 : zS} {x i : Nat} {a : Int} {L : List xT} {v : Nat} {F : List Nat} (b2 : xBs s4 s1 s2 F) (k2 : xTk s2 L) (hv2 : zv s2 91 = (v : Nat)) (g : xI s4 s1 kids F x) (hk : za s4 25 x = 20) (hi : (i : Int) ≤ za s4 29 x) (ha : a = (gt (kids x) i : Nat)) (hB : v + L.length + sz x ≤ xB F) (o : xOk s4 s1 kids up sz root N L v F) {Q : zS → Prop} (hq0 : Q s2) (hq : ∀ s' L', xTk s' L' → zSm s2 s' [88, 89, 90] [87] → xOk s4 s1 kids up sz root N L' v F → xW kids up sz L' + 500000000 ≤ aft kids up (fun _ => 1000000000) (gt (kids x) i) + xW kids up sz L → Q s') : wr_assign s2 x a Q := by
  obtain ⟨xN, xr, r, F1, eF, hr, fa, -, -⟩ := xI.n p g
  have hN := p.hN
  have hb := xB.le b2.2.2.1
  obtain ⟨zx, zk⟩ := p.szk xN
  have zN := p.h.szr xr
  obtain ⟨M, q1, q2, q3, q4⟩ := p.hA x xN hk
  have hkr : kr (za s4 25) kids x = kids x := kr_eq (by rw [hk]; rfl)
  have il : i < (kids x).length := by omega
  have m0 : gt (kids x) 0 ∈ kids x := gt_m (by omega)
  have mi : gt (kids x) i ∈ kids x := gt_m il
  have e27 : za s2 27 x = (gt (kids x) 0 : Nat) := b2.1.c1 p xN (l := (kids x).drop 1) (by have := gt_cut (l := kids x) (i := 0) (by omega); simpa using this)
  have e32 : ∀ j, j < M → za s4 32 (gt (kids x) j) = (gt (kids x) (M + j) : Nat) := q4
  have zi := zk _ mi
  have z0 := zk _ m0
  subst ha
  unfold wr_assign
  rw [Int.toNat_natCast, e27, Int.toNat_natCast, Int.toNat_natCast, b2.1.1 32 (by decide), e32 0 (by omega)]
  refine ⟨by omega, by omega, by omega, by omega, fun c => ?_, fun _ => hq0⟩
  have hiM : i < M := by
    by_cases e : i = M
    · exact absurd (by rw [e]; rfl) c
    · omega
  have nx : za s2 28 (gt (kids x) i) = (gt (kids x) (i + 1) : Nat) := p.nxt b2.1 xN (by omega)
  have mr : gt (kids x) (M + i) ∈ kids x := gt_m (by omega)
  have zr := zk _ mr
  have pr : za s4 32 (gt (kids x) i) = (gt (kids x) (M + i) : Nat) := e32 i hiM
  have hE : ∀ y ∈ kids x, kE (za s4 25 y) := fun y my => by
    obtain ⟨m', -, -, h3⟩ := (p.h.sh x xN).as hk
    exact h3 _ (List.mem_map.mpr ⟨_, my, rfl⟩)
  have gi := g.kid (by rw [hkr]; exact mi : gt (kids x) i ∈ kr (za s4 25) kids x)
  have gr := g.kid (by rw [hkr]; exact mr : gt (kids x) (M + i) ∈ kr (za s4 25) kids x)
  have lr : sz (gt (kids x) i) + sz (gt (kids x) (M + i)) ≤ ((kids x).map sz).sum := two_le (by omega) (by omega)
  obtain ⟨ziz, zik⟩ := p.szk zi.1
  have fx := fa.2.2.2.1 hk i (by omega) il
  have ea : aft kids up (fun _ => 1000000000) (gt (kids x) i) = 1000000000 + aft kids up (fun _ => 1000000000) (gt (kids x) (i + 1)) := by
    rw [p.aft xN il, p.aft xN (show i + 1 < (kids x).length by omega), map_cst, map_cst, List.length_drop, List.length_drop]
    omega
  rw [nx]
  refine ⟨by omega, by omega, sp_todo k2 (by omega) 11 x _ rfl rfl (fun s3 k3 f3 => sp_todo k3 (by show L.length + 1 < 620000; omega) 12 (gt (kids x) i) 0 rfl rfl (fun s5 k5 f5 => ?_))⟩
  have b5 := (b2.sm f3 rfl rfl rfl).sm f5 rfl rfl rfl
  have F5 : zSm s2 s5 [88, 89, 90] [87] := f3.tr f5 rfl rfl
  have E25 : za s5 25 (gt (kids x) i) = za s4 25 (gt (kids x) i) := b5.1.k _
  have E32 : ∀ t, xS s4 s1 t → za t 32 (gt (kids x) i) = (gt (kids x) (M + i) : Nat) := fun t h => by rw [h.1 32 (by decide)]; exact pr
  have o11 : xOk s4 s1 kids up sz root N ((11, x, ((gt (kids x) (i + 1) : Nat) : Int)) :: L) v F := ⟨v, F, ⟨rfl, rfl, g, hk, ⟨i + 1, by show ((i + 1 : Nat) : Int) ≤ za s4 29 x; omega, rfl⟩, hB⟩, o⟩
  have o12 : ∀ u, (za s4 25 (gt (kids x) i) = 1 ∧ u = v + 1 ∨ za s4 25 (gt (kids x) i) = 7 ∧ u = v + 2 ∨ za s4 25 (gt (kids x) i) = 9 ∧ u = v + 3) → xOk s4 s1 kids up sz root N ((12, gt (kids x) i, 0) :: (11, x, ((gt (kids x) (i + 1) : Nat) : Int)) :: L) u F := fun u hu => ⟨v, F, ⟨rfl, ⟨x, i, hk, g, by omega, rfl⟩, hu, by show v + (L.length + 1) + 3 ≤ xB F + 1; omega⟩, o11⟩
  have w12 : xW kids up sz ((12, gt (kids x) i, 0) :: (11, x, ((gt (kids x) (i + 1) : Nat) : Int)) :: L) = 1 + (aft kids up (fun _ => 1000000000) (gt (kids x) (i + 1)) + xW kids up sz L) := rfl
  rw [E25]
  refine ⟨by omega, by omega, fun c9 => ⟨by omega, by omega, fun c7 => ⟨by omega, by omega, ?_⟩, fun c7 => ⟨by omega, by omega, ?_⟩⟩, fun c9 => ?_⟩
  · rw [E32 s5 b5.1]
    refine sp_todo k5 (by show L.length + 1 + 1 < 620000; omega) 1 (gt (kids x) (M + i)) 0 rfl rfl (fun s6 k6 f6 => hq s6 _ k6 (F5.tr f6 rfl rfl) ⟨v + 1, F, ⟨rfl, rfl, gr, hE _ mr, by show v + (L.length + 2) + sz (gt (kids x) (M + i)) ≤ xB F; omega⟩, o12 (v + 1) (Or.inl ⟨by omega, rfl⟩)⟩ ?_)
    rw [xW.c, w12]
    show 70000 * sz (gt (kids x) (M + i)) + _ + _ ≤ _
    omega
  · obtain ⟨k1, e1, e2⟩ := (p.h.sh _ zi.1).e1 (by omega)
    obtain ⟨d, ed, q5⟩ := map1 e1
    have md : d ∈ kids (gt (kids x) i) := by rw [ed]; exact List.mem_cons_self ..
    have zd := zik d md
    have gd := gi.kid (c := d) (by rw [kr_eq (by rw [c7]; rfl)]; exact md)
    rw [b5.1.c1 p zi.1 ed]
    refine sp_todo k5 (by show L.length + 1 + 1 < 620000; omega) 1 d 0 rfl rfl (fun s6 k6 f6 => ⟨by omega, by omega, ?_⟩)
    rw [E32 s6 (b5.1.sm f6 rfl rfl)]
    refine sp_todo k6 (by show L.length + 1 + 1 + 1 < 620000; omega) 1 (gt (kids x) (M + i)) 0 rfl rfl (fun s7 k7 f7 => hq s7 _ k7 ((F5.tr f6 rfl rfl).tr f7 rfl rfl) ⟨v + 1, F, ⟨rfl, rfl, gr, hE _ mr, by show v + (L.length + 3) + sz (gt (kids x) (M + i)) ≤ xB F; omega⟩, v + 2, F, ⟨rfl, rfl, gd, by rw [q5]; exact e2, by show v + 1 + (L.length + 2) + sz d ≤ xB F; omega⟩, o12 (v + 2) (Or.inr (Or.inl ⟨by omega, rfl⟩))⟩ ?_)
    rw [xW.c, xW.c, w12]
    show 70000 * sz (gt (kids x) (M + i)) + (70000 * sz d + _) + _ ≤ _
    omega
  · obtain ⟨k1, k3', e1, e2, e3⟩ := (p.h.sh _ zi.1).bi (by omega)
    obtain ⟨d, l, ed, q5, q6⟩ := List.map_eq_cons_iff.mp e1
    obtain ⟨e, ee, q7⟩ := map1 q6
    have ek : kids (gt (kids x) i) = [d, e] := by rw [ed, ee]
    have md : d ∈ kids (gt (kids x) i) := by rw [ek]; exact List.mem_cons_self ..
    have me : e ∈ kids (gt (kids x) i) := by rw [ek]; exact List.mem_cons_of_mem _ (List.mem_cons_self ..)
    have zd := zik d md
    have ze := zik e me
    have es : ((kids (gt (kids x) i)).map sz).sum = sz d + (sz e + 0) := by rw [ek]; rfl
    have hl : (kids (gt (kids x) i)).length = 2 := by rw [ek]; rfl
    have kk : ∀ y ∈ kids (gt (kids x) i), xI s4 s1 kids F y := fun y my => gi.kid (by rw [kr_eq (by rw [c9]; rfl)]; exact my)
    rw [b5.1.c1 p zi.1 ek, Int.toNat_natCast, b5.1.nx p (kids (gt (kids x) i)) [] (p.h.ch _ zi.1) ek]
    refine ⟨by omega, by omega, by omega, by omega, sp_todo k5 (by show L.length + 1 + 1 < 620000; omega) 1 e 0 rfl rfl (fun s6 k6 f6 => ⟨by omega, by omega, ?_⟩)⟩
    have b6 := b5.sm f6 rfl rfl rfl
    rw [b6.1.c1 p zi.1 ek]
    refine sp_todo k6 (by show L.length + 1 + 1 + 1 < 620000; omega) 1 d 0 rfl rfl (fun s7 k7 f7 => ⟨by omega, by omega, ?_⟩)
    rw [E32 s7 (b6.1.sm f7 rfl rfl)]
    refine sp_todo k7 (by show L.length + 1 + 1 + 1 + 1 < 620000; omega) 1 (gt (kids x) (M + i)) 0 rfl rfl (fun s8 k8 f8 => hq s8 _ k8 (((F5.tr f6 rfl rfl).tr f7 rfl rfl).tr f8 rfl rfl) ⟨v + 1, F, ⟨rfl, rfl, gr, hE _ mr, by show v + (L.length + 4) + sz (gt (kids x) (M + i)) ≤ xB F; omega⟩, v + 2, F, ⟨rfl, rfl, kk d md, by rw [q5]; exact e2, by show v + 1 + (L.length + 3) + sz d ≤ xB F; omega⟩, v + 3, F, ⟨rfl, rfl, kk e me, by rw [q7]; exact e3, by show v + 2 + (L.length + 2) + sz e ≤ xB F; omega⟩, o12 (v + 3) (Or.inr (Or.inr ⟨by omega, rfl⟩))⟩ ?_)
    rw [xW.c, xW.c, xW.c, w12]
    show 70000 * sz (gt (kids x) (M + i)) + (70000 * sz d + (70000 * sz e + _)) + _ ≤ _
    omega
theorem xs_11 (p : xP s4 s1 kids up sz root N) {s : zS} {x : Nat} {a : Int} {L : List xT} {v : Nat} {F : List Nat} (h : xSt s4 s1 kids up sz root N s ((11, x, a) :: L) v F) : wr_doNext s (xPost s4 s1 kids up sz root N (xMu kids up sz s ((11, x, a) :: L))) := by
  obtain ⟨b, k, hv, v', F', ⟨rfl, rfl, g, hk, ⟨i, hi, rfl⟩, hB⟩, o⟩ := h.op
  have hb := xB.le b.2.2.1
  have xN := (xI.n p g).1
  obtain ⟨M, q1, q2, q3, -⟩ := p.hA x xN hk
  refine dn_11 k (by omega) (fun s2 k2 f2 => ?_)
  have b2 := b.sm f2 rfl rfl rfl
  have hv2 : zv s2 91 = (v' : Nat) := by rw [f2.v 91 rfl]; exact hv
  refine sp_assign p b2 k2 hv2 g hk hi rfl hB o ?_ (fun s' L' k' f' o' w' => ?_)
  · refine xPost.no b f2 rfl rfl rfl k2 hv2 o ?_
    show 0 < aft kids up (fun _ => 1000000000) (gt (kids x) i)
    rw [p.aft xN (by omega)]
    omega
  · refine xPost.st (b2.sm f' rfl rfl rfl) k' (by rw [f'.v 91 rfl]; exact hv2) o' ?_
    unfold xMu
    rw [xW.c, f'.v 101 rfl, f2.v 101 rfl]
    show _ < _ + (aft kids up (fun _ => 1000000000) (gt (kids x) i) + _)
    omega
theorem xs_as (p : xP s4 s1 kids up sz root N) {s : zS} {x : Nat} {a : Int} {L : List xT} {v : Nat} {F : List Nat} (h : xSt s4 s1 kids up sz root N s ((10, x, a) :: L) v F) (hk : za s4 25 x = 20) : wr_doNext s (xPost s4 s1 kids up sz root N (xMu kids up sz s ((10, x, a) :: L))) := by
  have b := h.op.1
  have hf := h.fu
  refine h.c p (fun g xN hN xr hB hb z1 zN hX o s2 b2 k2 f2 hv2 e25 => ?_)
  have g0 : 0 ≤ zv s2 101 := by rw [f2.v 101 rfl]; exact hf.1
  have g1 : zv s2 101 ≤ 100000 := by rw [f2.v 101 rfl]; exact hf.2
  have E : ∀ s', zSm s2 s' [] [102, 103, 104] → xEd s' → xPost s4 s1 kids up sz root N (xMu kids up sz s ((10, x, a) :: L)) s' := fun s' f e => xPost.ed b2 f e rfl rfl rfl
  obtain ⟨M, m1, m2, m3, -⟩ := p.hA x xN hk
  have ln := p.len xN
  have e27 : za s2 27 x = (gt (kids x) 0 : Nat) := b2.1.c1 p xN (l := (kids x).drop 1) (by have := gt_cut (l := kids x) (i := 0) (by omega); simpa using this)
  have ea : aft kids up (fun _ => 1000000000) (gt (kids x) 0) ≤ 3000000000000 := by
    rw [p.aft xN (by omega), map_cst, List.length_drop]
    omega
  refine pf_20 (by omega) (by rw [e25]; exact hk) g0 g1 E (fun s46 f q1 q2 => ?_)
  have b46 := b2.fu f rfl rfl q2 (by omega)
  refine sp_assign p (i := 0) b46 (k2.sm f rfl rfl) (by rw [f.v 91 rfl]; exact hv2) g hk (by omega) e27 hB o ?_ (fun s' L' k' f' o' w' => ?_)
  · exact xPost.bu b ((zSm.rf.tr f2 rfl rfl : zSm s s2 [] [87, 101]).tr f rfl rfl) rfl rfl (by rw [q1, f2.v 101 rfl]) q2 (k2.sm f rfl rfl) (v' := v) (by rw [f.v 91 rfl]; exact hv2) o (by omega)
  · exact xPost.bu b (((zSm.rf.tr f2 rfl rfl : zSm s s2 [88, 89, 90] [87, 101]).tr f rfl rfl).tr f' rfl rfl) rfl rfl (by rw [f'.v 101 rfl, q1, f2.v 101 rfl]) (by rw [f'.v 101 rfl]; exact q2) k' (v' := v) (by rw [f'.v 91 rfl, f.v 91 rfl]; exact hv2) o' (by omega)
end RUN
