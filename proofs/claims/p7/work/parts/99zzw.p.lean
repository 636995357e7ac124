/-! THE RUN: CONDITIONS, RELATIONS, RETURNS -/
section RUN
variable {s4 s1 : zS} {kids : Nat → List Nat} {up sz : Nat → Nat} {root N : Nat}
theorem gt_cut {l : List Nat} {i : Nat} (h : i < l.length) : l = l.take i ++ gt l i :: l.drop (i + 1) := by
  have e : gt l i = l[i] := by
    unfold gt
    rw [List.getD_eq_getElem?_getD, List.getElem?_eq_getElem h]
    rfl
  rw [e, ← List.drop_eq_getElem_cons h, List.take_append_drop]
theorem xs_5 (p : xP s4 s1 kids up sz root N) {s : zS} {x : Nat} {a : Int} {L : List xT} {v : Nat} {F : List Nat} (h : xSt s4 s1 kids up sz root N s ((5, x, a) :: L) v F) : wr_doNext s (xPost s4 s1 kids up sz root N (xMu kids up sz s ((5, x, a) :: L))) := by
  obtain ⟨b, k, hv, v', F', ⟨rfl, rfl, h1, g, hk, hB⟩, o⟩ := h.op
  obtain ⟨xN, xr, -⟩ := xI.n p g
  have hN := p.hN
  have hb := xB.le b.2.2.1
  obtain ⟨zx, zk⟩ := p.szk xN
  have hkr : kr (za s4 25) kids x = kids x := kr_eq (by rw [hk]; rfl)
  obtain ⟨w, rfl⟩ : ∃ w, v' = w + 1 := ⟨v' - 1, by omega⟩
  obtain ⟨k1, k2', k3, e1, e2, e3, e4⟩ := (p.h.sh x xN).co hk
  obtain ⟨c, l, ec, q1, q2⟩ := List.map_eq_cons_iff.mp e1
  obtain ⟨d, l2, ed, q3, q4⟩ := List.map_eq_cons_iff.mp q2
  obtain ⟨e, ee, q5⟩ := map1 q4
  have ek : kids x = [c, d, e] := by rw [ec, ed, ee]
  have mc : c ∈ kids x := by rw [ek]; exact List.mem_cons_self ..
  have md : d ∈ kids x := by rw [ek]; exact List.mem_cons_of_mem _ (List.mem_cons_self ..)
  have me : e ∈ kids x := by rw [ek]; exact List.mem_cons_of_mem _ (List.mem_cons_of_mem _ (List.mem_cons_self ..))
  have zc := zk c mc
  have zd := zk d md
  have ze := zk e me
  have es : ((kids x).map sz).sum = sz c + (sz d + (sz e + 0)) := by rw [ek]; rfl
  have hl : (kids x).length = 3 := by rw [ek]; rfl
  have eg : gt (kids x) 0 = c := by rw [ek]; rfl
  refine dn_5 k (by omega) (fun s2 k2 f2 => ?_)
  have b2 := b.sm f2 rfl rfl rfl
  rw [Int.toNat_natCast, b.1.c1 p xN ek, Int.toNat_natCast, b.1.nx p (kids x) [] (p.h.ch x xN) ek, Int.toNat_natCast]
  refine ⟨by omega, by omega, by omega, by omega, sp_pop s2 (v := w) (by rw [f2.v 91 rfl]; exact hv) (by omega) (fun r s3 f3 h3 => ?_)⟩
  have b3 := b2.sm f3 rfl rfl rfl
  have T : ∀ y : Nat, y ∈ kids x → kE (za s4 25 y) → 1 + sz c + sz y ≤ sz x → wr_todoTask s3 1 (y : Int) 0 (xPost s4 s1 kids up sz root N (xMu kids up sz s ((5, x, a) :: L))) := fun y my hy hs => by
    refine sp_todo (k2.sm f3 rfl rfl) (by omega) 1 y 0 rfl rfl (fun s5 k5 f5 => ?_)
    refine xPost.pu (P := [(1, y, 0)]) b (((zSm.rf.tr f2 rfl rfl : zSm s s2 [88, 89, 90] [87, 91]).tr f3 rfl rfl).tr f5 rfl rfl) rfl rfl rfl k5 (v' := w) (by rw [f5.v 91 rfl]; exact h3) ⟨w + 1, F', ⟨rfl, rfl, g.kid (by rw [hkr]; exact my), hy, by show w + L.length + sz y ≤ xB F'; omega⟩, o⟩ ?_ rfl
    show 70000 * sz y + 0 < 70000 * sz x - 70000 * sz (gt (kids x) 0) - 1
    rw [eg]
    omega
  refine ⟨fun _ => ⟨by omega, by omega, ?_⟩, fun _ => T d md (by rw [q3]; exact e3) (by omega)⟩
  rw [b3.1.nx p (kids x) [c] (p.h.ch x xN) ek]
  exact T e me (by rw [q5]; exact e4) (by omega)
theorem xs_6 (p : xP s4 s1 kids up sz root N) {s : zS} {x : Nat} {a : Int} {L : List xT} {v : Nat} {F : List Nat} (h : xSt s4 s1 kids up sz root N s ((6, x, a) :: L) v F) : wr_doNext s (xPost s4 s1 kids up sz root N (xMu kids up sz s ((6, x, a) :: L))) := by
  obtain ⟨b, k, hv, v', F', ⟨rfl, h1, m, i, hk, g, hi1, hi, hx, hB, ha⟩, o⟩ := h.op
  obtain ⟨mN, mr, -⟩ := xI.n p g
  have hN := p.hN
  have hb := xB.le b.2.2.1
  obtain ⟨zm, zk⟩ := p.szk mN
  have hkr : kr (za s4 25) kids m = kids m := kr_eq (by rw [hk]; rfl)
  have cut := gt_cut hi
  rw [hx] at cut
  have mx : x ∈ kids m := by rw [cut]; exact List.mem_append.mpr (Or.inr (List.mem_cons_self ..))
  have zx := zk x mx
  have hE : ∀ c ∈ kids m, kE (za s4 25 c) := fun c hc => by
    obtain ⟨k1, k3, r, e1, e2⟩ := (p.h.sh m mN).re hk
    exact e2 _ (List.mem_map.mpr ⟨c, hc, rfl⟩)
  have epre : 1 ≤ (((kids m).take i).map sz).sum := by
    have hl : 0 < ((kids m).take i).length := by rw [List.length_take]; omega
    obtain ⟨c, hc⟩ := List.exists_mem_of_length_pos hl
    have := zk c (List.mem_of_mem_take hc)
    have h2 := sum_mem (sz := sz) hc
    omega
  have es : ((kids m).map sz).sum = (((kids m).take i).map sz).sum + (sz x + (((kids m).drop (i + 1)).map sz).sum) := by
    have := congrArg (fun l => (l.map sz).sum) cut
    simpa [List.map_append, List.sum_append, List.map_cons, List.sum_cons] using this
  have ea : aft kids up sz x = sz x + (((kids m).drop (i + 1)).map sz).sum := aft_cut (f := sz) cut zx.2.1 (p.h.kn m mN)
  refine dn_6 k (by omega) (fun s2 k2 f2 => ?_)
  have b2 := b.sm f2 rfl rfl rfl
  unfold wr_rel
  rw [Int.toNat_natCast]
  rcases ha with ⟨rfl, rfl⟩ | ⟨rfl, rfl⟩
  · refine ⟨fun c => absurd rfl c, fun _ => sp_todo k2 (by omega) 6 x 1 rfl rfl (fun s3 k3 f3 => sp_todo k3 (by show L.length + 1 < 620000; omega) 1 x 0 rfl rfl (fun s5 k5 f5 => ?_))⟩
    refine xPost.pu (P := [(1, x, 0), (6, x, 1)]) b (((zSm.rf.tr f2 rfl rfl : zSm s s2 [88, 89, 90] [87]).tr f3 rfl rfl).tr f5 rfl rfl) rfl rfl rfl k5 (v' := v') (by rw [f5.v 91 rfl, f3.v 91 rfl, f2.v 91 rfl]; exact hv) (xOk.e1 (g.kid (by rw [hkr]; exact mx)) (hE x mx) (by omega) (v' := v') ⟨rfl, h1, m, i, hk, g, hi1, hi, hx, hB, Or.inr ⟨rfl, rfl⟩⟩ o) ?_ rfl
    show 70000 * sz x + ((if (1 : Int) = 0 then 70001 * aft kids up sz x + 20 else 70001 * (aft kids up sz x - sz x) + 10) + 0) < (if (0 : Int) = 0 then 70001 * aft kids up sz x + 20 else 70001 * (aft kids up sz x - sz x) + 10)
    rw [if_neg (by decide), if_pos rfl, ea]
    omega
  · obtain ⟨w, rfl⟩ : ∃ w, v' = w + 1 := ⟨v' - 1, by omega⟩
    refine ⟨fun _ => ?_, fun c => absurd c (by decide)⟩
    refine sp_pop s2 (v := w + 1) (by rw [f2.v 91 rfl]; exact hv) (by omega) (fun r3 s3 f3 h3 => sp_pop s3 h3 (by omega) (fun r9 s5 f5 h5 => ⟨by omega, by omega, ?_⟩))
    have F5 : zSm s s5 [] [87, 91] := ((zSm.rf.tr f2 rfl rfl : zSm s s2 [] [87, 91]).tr f3 rfl rfl).tr f5 rfl rfl
    have b5 := b.sm F5 rfl rfl rfl
    have k5 := (k2.sm f3 rfl rfl).sm f5 rfl rfl
    have P : ∀ r, wr_push s5 r (xPost s4 s1 kids up sz root N (xMu kids up sz s ((6, x, 1) :: L))) := fun r => by
      refine sp_push s5 r h5 (by omega) (fun s7 f7 h7 => ?_)
      refine xPost.no b ((zSm.rf.tr F5 rfl rfl : zSm s s5 [92] [87, 91]).tr f7 rfl rfl) rfl rfl rfl (k5.sm f7 rfl rfl) h7 o ?_
      show 0 < (if (1 : Int) = 0 then 70001 * aft kids up sz x + 20 else 70001 * (aft kids up sz x - sz x) + 10)
      rw [if_neg (by decide)]
      omega
    refine sp_related s5 _ _ _ (fun r19 => ⟨fun _ => ⟨fun _ => P _, fun _ => P _⟩, fun _ => ⟨by omega, by omega, fun _ => ⟨fun _ => P _, fun _ => P _⟩, fun c => ?_⟩⟩)
    cases hd : (kids m).drop (i + 1) with
    | nil =>
      rw [hd] at cut
      exact absurd (b5.1.ls p (kids m) ((kids m).take i) (p.h.ch m mN) cut) (by omega)
    | cons y l =>
      rw [hd] at cut es ea
      rw [List.map_cons, List.sum_cons] at es ea
      have my : y ∈ kids m := by rw [cut]; exact List.mem_append.mpr (Or.inr (List.mem_cons_of_mem _ (List.mem_cons_self ..)))
      have zy := zk y my
      have nx := fun (t : zS) (ht : xS s4 s1 t) => ht.nx p (kids m) ((kids m).take i) (p.h.ch m mN) cut
      have hi2 : i + 1 < (kids m).length := by
        have := congrArg List.length hd
        rw [List.length_drop] at this
        have e4 : (y :: l).length = l.length + 1 := rfl
        omega
      have gy : gt (kids m) (i + 1) = y := by
        have q := gt_cut hi2
        have e1 : (kids m).drop (i + 1) = gt (kids m) (i + 1) :: (kids m).drop (i + 1 + 1) := by
          unfold gt
          rw [List.getD_eq_getElem?_getD, List.getElem?_eq_getElem hi2, List.drop_eq_getElem_cons hi2]
          rfl
        rw [hd] at e1
        exact (List.cons.inj e1).1.symm
      have ey : aft kids up sz y = sz y + (l.map sz).sum := aft_cut (f := sz) (pre := (kids m).take i ++ [x]) (by rw [List.append_assoc]; exact cut) zy.2.1 (p.h.kn m mN)
      refine sp_push s5 _ h5 (by omega) (fun s7 f7 h7 => ⟨by omega, by omega, ?_⟩)
      have b7 := b5.sm f7 rfl rfl rfl
      rw [nx s7 b7.1]
      refine sp_todo (k5.sm f7 rfl rfl) (by omega) 6 y 1 rfl rfl (fun s8 k8 f8 => ⟨by omega, by omega, ?_⟩)
      have b8 := b7.sm f8 rfl rfl rfl
      rw [nx s8 b8.1]
      refine sp_todo k8 (by show L.length + 1 < 620000; omega) 1 y 0 rfl rfl (fun s9 k9 f9 => ?_)
      refine xPost.pu (P := [(1, y, 0), (6, y, 1)]) b ((((zSm.rf.tr F5 rfl rfl : zSm s s5 [88, 89, 90, 92] [87, 91]).tr f7 rfl rfl).tr f8 rfl rfl).tr f9 rfl rfl) rfl rfl rfl k9 (v' := w + 1) (by rw [f9.v 91 rfl, f8.v 91 rfl]; exact h7) (xOk.e1 (g.kid (by rw [hkr]; exact my)) (hE y my) (by omega) (v' := w + 1) ⟨rfl, by omega, m, i + 1, hk, g, by omega, hi2, gy, hB, Or.inr ⟨rfl, rfl⟩⟩ o) ?_ rfl
      show 70000 * sz y + ((if (1 : Int) = 0 then 70001 * aft kids up sz y + 20 else 70001 * (aft kids up sz y - sz y) + 10) + 0) < (if (1 : Int) = 0 then 70001 * aft kids up sz x + 20 else 70001 * (aft kids up sz x - sz x) + 10)
      rw [if_neg (by decide), if_neg (by decide), ea, ey]
      omega
theorem xs_18 {s : zS} {x : Nat} {a : Int} {L : List xT} {v : Nat} {F : List Nat} (h : xSt s4 s1 kids up sz root N s ((18, x, a) :: L) v F) : wr_doNext s (xPost s4 s1 kids up sz root N (xMu kids up sz s ((18, x, a) :: L))) := by
  obtain ⟨b, k, hv, v', F', ⟨⟨r, rfl, hr, hx⟩, ha0, ha, hB⟩, o⟩ := h.op
  have hb := xB.le b.2.2.1
  obtain ⟨w, rfl⟩ : ∃ w, v' = w + 1 := ⟨v' - 1, by omega⟩
  have e4 : (r :: F').length = F'.length + 1 := rfl
  refine dn_18 k (by omega) (fun s2 k2 f2 => ?_)
  have b2 := b.sm f2 rfl rfl rfl
  have R : ∀ s3 y, zSm s s3 [] [87, 91] → xBs s4 s1 s3 (r :: F') → xTk s3 L → wr_returns_13 (xPost s4 s1 kids up sz root N (xMu kids up sz s ((18, x, a) :: L))) s3 a y := fun s3 y f3 b3 k3 => by
    obtain ⟨c1, c2, c3, c4, c5⟩ := id b3
    obtain ⟨d1, d2, d3, d4, d5⟩ := c4
    rw [e4] at c2 c3
    unfold wr_returns_13
    have et : Int.toNat (zv s3 95 - 1) = F'.length := by omega
    rw [et]
    have f4 : zSm s3 (zpv (zpv (zpv (zpv s3 91 a) 95 (zv s3 95 - 1)) 96 (za s3 93 F'.length)) 97 (za s3 94 F'.length)) [] [91, 95, 96, 97] := (((zSm.rf.pv rfl).pv rfl).pv rfl).pv rfl
    have g95 : zv (zpv (zpv (zpv (zpv s3 91 a) 95 (zv s3 95 - 1)) 96 (za s3 93 F'.length)) 97 (za s3 94 F'.length)) 95 = zv s3 95 - 1 := rfl
    have g96 : zv (zpv (zpv (zpv (zpv s3 91 a) 95 (zv s3 95 - 1)) 96 (za s3 93 F'.length)) 97 (za s3 94 F'.length)) 96 = za s3 93 F'.length := rfl
    have g97 : zv (zpv (zpv (zpv (zpv s3 91 a) 95 (zv s3 95 - 1)) 96 (za s3 93 F'.length)) 97 (za s3 94 F'.length)) 97 = za s3 94 F'.length := rfl
    have g91 : zv (zpv (zpv (zpv (zpv s3 91 a) 95 (zv s3 95 - 1)) 96 (za s3 93 F'.length)) 97 (za s3 94 F'.length)) 91 = a := rfl
    generalize zpv (zpv (zpv (zpv s3 91 a) 95 (zv s3 95 - 1)) 96 (za s3 93 F'.length)) 97 (za s3 94 F'.length) = s5 at f4 g95 g96 g97 g91
    have b5 : xBs s4 s1 s5 F' := ⟨c1.sm f4 rfl rfl, by omega, by omega, by rw [g96, g97]; exact d5.fr (fun i _ => ⟨f4.a 93 i rfl, f4.a 94 i rfl⟩), c5.sm f4 rfl rfl⟩
    refine ⟨⟨by omega, by omega⟩, by omega, by omega, by omega, by omega, sp_push s5 y (v := w) (by omega) (by omega) (fun s6 f6 h6 => ?_)⟩
    refine xPost.st (b5.sm f6 rfl rfl rfl) ((k3.sm f4 rfl rfl).sm f6 rfl rfl) h6 o ?_
    unfold xMu
    rw [xW.c, f6.v 101 rfl, f4.v 101 rfl, f3.v 101 rfl]
    show _ < _ + (1 + _)
    omega
  unfold wr_returns
  rcases hx with ⟨-, rfl, rfl⟩ | ⟨-, rfl⟩
  · refine ⟨fun c => absurd rfl c, fun _ => sp_pop s2 (v := w) (by rw [f2.v 91 rfl]; exact hv) (by omega) (fun r1 s3 f3 h3 => ?_)⟩
    exact R s3 r1 ((zSm.rf.tr f2 rfl rfl : zSm s s2 [] [87, 91]).tr f3 rfl rfl) (b2.sm f3 rfl rfl rfl) (k2.sm f3 rfl rfl)
  · exact ⟨fun _ => R s2 0 ((zSm.rf.tr f2 rfl rfl : zSm s s2 [] [87, 91])) b2 k2, fun c => absurd c (by decide)⟩
end RUN
