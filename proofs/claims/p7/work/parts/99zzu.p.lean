/-! THE RUN: FURTHER EXPRESSIONS -/
section RUN
variable {s4 s1 : zS} {kids : Nat → List Nat} {up sz : Nat → Nat} {root N : Nat}
theorem xPost.pu {s s' : zS} {t x : Nat} {a : Int} {L P L' : List xT} {v' : Nat} {F : List Nat} {js ks : List Nat} (b : xBs s4 s1 s F) (f : zSm s s' js ks) (hj : ([25, 27, 28, 29, 30, 31, 32, 70, 71, 72, 85, 93, 94, 107, 108, 110, 112, 113, 116].all fun j => !js.contains j) = true) (hk : ([69, 95, 96, 97, 99, 106, 114, 117].all fun k => !ks.contains k) = true) (h101 : ks.contains 101 = false) (k : xTk s' L') (hv : zv s' 91 = (v' : Nat)) (o : xOk s4 s1 kids up sz root N L' v' F) (hm : xW kids up sz P < xw kids up sz t x a) (hL : P ++ L = L') : xPost s4 s1 kids up sz root N (xMu kids up sz s ((t, x, a) :: L)) s' := by
  subst hL
  exact xPost.in b f hj hk h101 k hv o hm
/-- a row of operands' tasks above a task -/
theorem xOk.e1 {F : List Nat} {L : List xT} {v : Nat} {c t x : Nat} {a : Int} (h1 : xI s4 s1 kids F c) (h2 : kE (za s4 25 c)) (h3 : v + (L.length + 1) + sz c ≤ xB F) {v' : Nat} (en : xEn s4 s1 kids up sz root N t x a L (v + 1) F v' F) (o : xOk s4 s1 kids up sz root N L v' F) : xOk s4 s1 kids up sz root N ((1, c, 0) :: (t, x, a) :: L) v F := ⟨v + 1, F, ⟨rfl, rfl, h1, h2, h3⟩, v', F, en, o⟩
/-- a condition -/
theorem st_co (p : xP s4 s1 kids up sz root N) {s : zS} {x : Nat} {a : Int} {L : List xT} {v : Nat} {F : List Nat} (h : xSt s4 s1 kids up sz root N s ((1, x, a) :: L) v F) (hk : za s4 25 x = 12) : wr_doNext s (xPost s4 s1 kids up sz root N (xMu kids up sz s ((1, x, a) :: L))) := by
  have b := h.op.1
  refine h.e p (fun _ g xN hN xr hE hB hb z1 o s2 b2 k2 f2 hv2 e25 => ?_)
  obtain ⟨zx, zk⟩ := p.szk xN
  have hkr : kr (za s4 25) kids x = kids x := kr_eq (by rw [hk]; rfl)
  obtain ⟨k1, k2', k3, e1, e2, e3, e4⟩ := (p.h.sh x xN).co hk
  obtain ⟨c, l, ec, q1, q2⟩ := List.map_eq_cons_iff.mp e1
  have mc : c ∈ kids x := by rw [ec]; exact List.mem_cons_self ..
  have hl : (kids x).length = 3 := by rw [← List.length_map (f := fun c => za s4 25 c), e1]; rfl
  have zc := zk c mc
  refine ev_12 (by omega) (by rw [e25]; exact hk) ?_
  refine sp_todo k2 (by omega) 5 x 0 rfl rfl (fun s3 k3' f3 => ⟨by omega, by omega, ?_⟩)
  have b3 := b2.sm f3 rfl rfl rfl
  rw [b3.1.c1 p xN ec]
  refine sp_todo k3' (by show L.length + 1 < 620000; omega) 1 c 0 rfl rfl (fun s4' k4 f4 => ?_)
  refine xPost.pu (P := [(1, c, 0), (5, x, 0)]) b ((zSm.rf.tr f2 rfl rfl : zSm s s2 [88, 89, 90] [87]).tr f3 rfl rfl |>.tr f4 rfl rfl) rfl rfl rfl k4 (v' := v) (by rw [f4.v 91 rfl, f3.v 91 rfl]; exact hv2) ?_ ?_ rfl
  · exact xOk.e1 (g.kid (by rw [hkr]; exact mc)) (by rw [q1]; exact e2) (by omega) (v' := v + 1) ⟨rfl, rfl, by omega, g, hk, by omega⟩ o
  · have eg : gt (kids x) 0 = c := by rw [ec]; rfl
    show 70000 * sz c + (70000 * sz x - 70000 * sz (gt (kids x) 0) - 1 + 0) < 70000 * sz x
    rw [eg]
    omega
/-- a VALOF -/
theorem st_vf (p : xP s4 s1 kids up sz root N) {s : zS} {x : Nat} {a : Int} {L : List xT} {v : Nat} {F : List Nat} (h : xSt s4 s1 kids up sz root N s ((1, x, a) :: L) v F) (hk : za s4 25 x = 4) : wr_doNext s (xPost s4 s1 kids up sz root N (xMu kids up sz s ((1, x, a) :: L))) := by
  have b := h.op.1
  refine h.e p (fun _ g xN hN xr hE hB hb z1 o s2 b2 k2 f2 hv2 e25 => ?_)
  obtain ⟨zx, zk⟩ := p.szk xN
  have hkr : kr (za s4 25) kids x = kids x := kr_eq (by rw [hk]; rfl)
  obtain ⟨k1, e1, e2⟩ := (p.h.sh x xN).va hk
  obtain ⟨c, ec, q1⟩ := map1 e1
  have mc : c ∈ kids x := by rw [ec]; exact List.mem_cons_self ..
  have zc := zk c mc
  refine ev_4 (by omega) (by rw [e25]; exact hk) ?_
  refine sp_todo k2 (by omega) 8 x _ rfl rfl (fun s3 k3' f3 => ⟨by omega, by omega, ?_⟩)
  have b3 := b2.sm f3 rfl rfl rfl
  rw [b3.1.c1 p xN ec]
  refine sp_todo k3' (by show L.length + 1 < 620000; omega) 10 c 0 rfl rfl (fun s4' k4 f4 => ?_)
  refine xPost.pu (P := [(10, c, 0), (8, x, zv s2 91)]) b ((zSm.rf.tr f2 rfl rfl : zSm s s2 [88, 89, 90] [87]).tr f3 rfl rfl |>.tr f4 rfl rfl) rfl rfl rfl k4 (v' := v) (by rw [f4.v 91 rfl, f3.v 91 rfl]; exact hv2) ?_ ?_ rfl
  · refine ⟨v, F, ⟨rfl, rfl, g.kid (by rw [hkr]; exact mc), by rw [q1]; exact e2, ?_, xC.va p xr mc hk⟩, v + 1, F, ⟨rfl, rfl, hv2, ?_⟩, o⟩
    · show v + (L.length + 1) + sz c ≤ xB F
      omega
    · show v + L.length + 1 ≤ xB F
      omega
  · show 70000 * sz c + (1 + 0) < 70000 * sz x
    omega
/-- a row of relations -/
theorem st_re (p : xP s4 s1 kids up sz root N) {s : zS} {x : Nat} {a : Int} {L : List xT} {v : Nat} {F : List Nat} (h : xSt s4 s1 kids up sz root N s ((1, x, a) :: L) v F) (hk : za s4 25 x = 11) : wr_doNext s (xPost s4 s1 kids up sz root N (xMu kids up sz s ((1, x, a) :: L))) := by
  have b := h.op.1
  refine h.e p (fun _ g xN hN xr hE hB hb z1 o s2 b2 k2 f2 hv2 e25 => ?_)
  obtain ⟨zx, zk⟩ := p.szk xN
  have hkr : kr (za s4 25) kids x = kids x := kr_eq (by rw [hk]; rfl)
  obtain ⟨k1, k3, r, e1, e2⟩ := (p.h.sh x xN).re hk
  obtain ⟨c, l, ec, q1, q2⟩ := List.map_eq_cons_iff.mp e1
  obtain ⟨d, l2, ed, q3, q4⟩ := List.map_eq_cons_iff.mp q2
  have ek : kids x = c :: d :: l2 := by rw [ec, ed]
  have mc : c ∈ kids x := by rw [ek]; exact List.mem_cons_self ..
  have md : d ∈ kids x := by rw [ek]; exact List.mem_cons_of_mem _ (List.mem_cons_self ..)
  have zc := zk c mc
  have zd := zk d md
  have hEc : kE (za s4 25 c) := e2 _ (List.mem_map.mpr ⟨c, mc, rfl⟩)
  have hl : (kids x).length = l2.length + 2 := by rw [ek]; rfl
  have es : ((kids x).map sz).sum = sz c + (sz d + (l2.map sz).sum) := by
    rw [ek, List.map_cons, List.sum_cons, List.map_cons, List.sum_cons]
  refine ev_11 (by omega) (by rw [e25]; exact hk) ?_
  rw [b2.1.c1 p xN ek, Int.toNat_natCast, b2.1.nx p (kids x) [] (p.h.ch x xN) ek]
  refine ⟨by omega, by omega, by omega, by omega, sp_todo k2 (by omega) 6 d 0 rfl rfl (fun s3 k3' f3 => ⟨by omega, by omega, ?_⟩)⟩
  have b3 := b2.sm f3 rfl rfl rfl
  rw [b3.1.c1 p xN ek]
  refine sp_todo k3' (by show L.length + 1 < 620000; omega) 1 c 0 rfl rfl (fun s4' k4 f4 => ?_)
  refine xPost.pu (P := [(1, c, 0), (6, d, 0)]) b ((zSm.rf.tr f2 rfl rfl : zSm s s2 [88, 89, 90] [87]).tr f3 rfl rfl |>.tr f4 rfl rfl) rfl rfl rfl k4 (v' := v) (by rw [f4.v 91 rfl, f3.v 91 rfl]; exact hv2) ?_ ?_ rfl
  · exact xOk.e1 (g.kid (by rw [hkr]; exact mc)) hEc (by omega) (v' := v + 1) ⟨rfl, by omega, x, 1, hk, g, by omega, by omega, by rw [ek]; rfl, by omega, Or.inl ⟨rfl, rfl⟩⟩ o
  · have ea := aft_cut (up := up) (f := sz) (n := x) (a := d) (pre := [c]) (post := l2) ek zd.2.1 (p.h.kn x xN)
    have zN := p.h.szr xr
    show 70000 * sz c + ((if (0 : Int) = 0 then 70001 * aft kids up sz d + 20 else 70001 * (aft kids up sz d - sz d) + 10) + 0) < 70000 * sz x
    rw [if_pos rfl, ea]
    omega
/-- an address -/
theorem sp_addr (p : xP s4 s1 kids up sz root N) {s s2 : zS} {t x y : Nat} {a : Int} {L : List xT} {v : Nat} {F : List Nat} (b : xBs s4 s1 s F) (b2 : xBs s4 s1 s2 F) (k2 : xTk s2 L) (f2 : zSm s s2 [] [87]) (hv2 : zv s2 91 = (v : Nat)) (g : xI s4 s1 kids F y) (hk : za s4 25 y = 1 ∨ za s4 25 y = 7 ∨ za s4 25 y = 9) (hB : v + L.length + sz y ≤ xB F) (hw : 70000 * sz y < xw kids up sz t x a) (o : xOk s4 s1 kids up sz root N L (v + 1) F) : wr_address s2 y (xPost s4 s1 kids up sz root N (xMu kids up sz s ((t, x, a) :: L))) := by
  obtain ⟨yN, yr, -⟩ := xI.n p g
  have hN := p.hN
  have hb := xB.le b.2.2.1
  obtain ⟨zy, zk⟩ := p.szk yN
  have e25 : za s2 25 y = za s4 25 y := b2.1.k y
  have hkr : kr (za s4 25) kids y = kids y := kr_eq (by rcases hk with q | q | q <;> rw [q] <;> rfl)
  unfold wr_address
  rw [Int.toNat_natCast, e25]
  refine ⟨by omega, by omega, fun c1 => ⟨fun c7 => ?_, fun c7 => ⟨by omega, by omega, ?_⟩⟩, fun c1 => ?_⟩
  · obtain ⟨k1, k3, e1, e2, e3⟩ := (p.h.sh y yN).bi (by omega)
    obtain ⟨c, l, ec, q1, q2⟩ := List.map_eq_cons_iff.mp e1
    obtain ⟨d, ed, q3⟩ := map1 q2
    have ek : kids y = [c, d] := by rw [ec, ed]
    have mc : c ∈ kids y := by rw [ek]; exact List.mem_cons_self ..
    have md : d ∈ kids y := by rw [ek]; exact List.mem_cons_of_mem _ (List.mem_cons_self ..)
    have zc := zk c mc
    have zd := zk d md
    have es : ((kids y).map sz).sum = sz c + (sz d + 0) := by rw [ek]; rfl
    have hl : (kids y).length = 2 := by rw [ek]; rfl
    refine sp_todo k2 (by omega) 9 y 0 rfl rfl (fun s3 k3' f3 => ?_)
    have b3 := b2.sm f3 rfl rfl rfl
    rw [b3.1.c1 p yN ek, Int.toNat_natCast, b3.1.nx p (kids y) [] (p.h.ch y yN) ek]
    refine ⟨by omega, by omega, by omega, by omega, sp_todo k3' (by show L.length + 1 < 620000; omega) 1 d 0 rfl rfl (fun s4' k4 f4 => ⟨by omega, by omega, ?_⟩)⟩
    have b4 := b3.sm f4 rfl rfl rfl
    rw [b4.1.c1 p yN ek]
    refine sp_todo k4 (by show L.length + 1 + 1 < 620000; omega) 1 c 0 rfl rfl (fun s5 k5 f5 => ?_)
    refine xPost.pu (P := [(1, c, 0), (1, d, 0), (9, y, 0)]) b (((zSm.rf.tr f2 rfl rfl : zSm s s2 [88, 89, 90] [87]).tr f3 rfl rfl |>.tr f4 rfl rfl).tr f5 rfl rfl) rfl rfl rfl k5 (v' := v) (by rw [f5.v 91 rfl, f4.v 91 rfl, f3.v 91 rfl]; exact hv2) ?_ ?_ rfl
    · refine ⟨v + 1, F, ⟨rfl, rfl, g.kid (by rw [hkr]; exact mc), by rw [q1]; exact e2, ?_⟩, xOk.e1 (v := v + 1) (g.kid (by rw [hkr]; exact md)) (by rw [q3]; exact e3) (by omega) (v' := v + 1) ⟨rfl, rfl, by omega, by omega⟩ o⟩
      show v + (L.length + 2) + sz c ≤ xB F
      omega
    · show 70000 * sz c + (70000 * sz d + (1 + 0)) < _
      omega
  · obtain ⟨k1, e1, e2⟩ := (p.h.sh y yN).e1 (by omega)
    obtain ⟨c, ec, q1⟩ := map1 e1
    have mc : c ∈ kids y := by rw [ec]; exact List.mem_cons_self ..
    have zc := zk c mc
    rw [b2.1.c1 p yN ec]
    refine sp_todo k2 (by omega) 1 c 0 rfl rfl (fun s3 k3 f3 => ?_)
    refine xPost.pu (P := [(1, c, 0)]) b ((zSm.rf.tr f2 rfl rfl : zSm s s2 [88, 89, 90] [87]).tr f3 rfl rfl) rfl rfl rfl k3 (v' := v) (by rw [f3.v 91 rfl]; exact hv2) ?_ ?_ rfl
    · exact ⟨v + 1, F, ⟨rfl, rfl, g.kid (by rw [hkr]; exact mc), by rw [q1]; exact e2, by show v + L.length + sz c ≤ xB F; omega⟩, o⟩
    · show 70000 * sz c + 0 < _
      omega
  · refine sp_wordOf p b2 g c1 (fun r r1 r2 => sp_push s2 r hv2 (by omega) (fun s3 f3 h3 => ?_))
    refine xPost.pu (P := []) b ((zSm.rf.tr f2 rfl rfl : zSm s s2 [92] [87, 91]).tr f3 rfl rfl) rfl rfl rfl (k2.sm f3 rfl rfl) h3 o ?_ rfl
    show (0 : Nat) < _
    omega
theorem st_at (p : xP s4 s1 kids up sz root N) {s : zS} {x : Nat} {a : Int} {L : List xT} {v : Nat} {F : List Nat} (h : xSt s4 s1 kids up sz root N s ((1, x, a) :: L) v F) (hk : za s4 25 x = 8) : wr_doNext s (xPost s4 s1 kids up sz root N (xMu kids up sz s ((1, x, a) :: L))) := by
  have b := h.op.1
  refine h.e p (fun _ g xN hN xr hE hB hb z1 o s2 b2 k2 f2 hv2 e25 => ?_)
  obtain ⟨zx, zk⟩ := p.szk xN
  have hkr : kr (za s4 25) kids x = kids x := kr_eq (by rw [hk]; rfl)
  obtain ⟨k1, e1, e2⟩ := (p.h.sh x xN).e1 (by omega)
  obtain ⟨c, ec, q1⟩ := map1 e1
  have mc : c ∈ kids x := by rw [ec]; exact List.mem_cons_self ..
  have zc := zk c mc
  obtain ⟨-, -, r, F1, -, -, fa, -, -⟩ := xI.n p g
  have f8 := fa.2.2.1 hk c mc
  refine ev_8 (by omega) (by rw [e25]; exact hk) ⟨by omega, by omega, ?_⟩
  rw [b2.1.c1 p xN ec]
  exact sp_addr p b b2 k2 f2 hv2 (g.kid (by rw [hkr]; exact mc)) (by omega) (by omega) (by show _ < 70000 * sz x; omega) o
end RUN
