/-! THE RUN: IF, AND THE QUESTION OF A LOOP -/
section RUN
variable {s4 s1 : zS} {kids : Nat → List Nat} {up sz : Nat → Nat} {root N : Nat}
theorem xs_14 (p : xP s4 s1 kids up sz root N) {s : zS} {x : Nat} {a : Int} {L : List xT} {v : Nat} {F : List Nat} (h : xSt s4 s1 kids up sz root N s ((14, x, a) :: L) v F) : wr_doNext s (xPost s4 s1 kids up sz root N (xMu kids up sz s ((14, x, a) :: L))) := by
  obtain ⟨b, k, hv, w, F', ⟨rfl, rfl, g, hk, hB, hX⟩, o⟩ := h.op
  obtain ⟨xN, xr, -⟩ := xI.n p g
  have hN := p.hN
  have hb := xB.le b.2.2.1
  obtain ⟨zx, zk⟩ := p.szk xN
  have hkr : kr (za s4 25) kids x = kids x := kr_eq (by rcases hk with q | q | q <;> rw [q] <;> rfl)
  have hnc : ([4, 25, 26, 27, 28, 36, 38, 39, 40, 54] : List Int).contains (za s4 25 x) = false := by rcases hk with q | q | q <;> rw [q] <;> rfl
  refine dn_14 k (by omega) (fun s2 k2 f2 => ?_)
  have b2 := b.sm f2 rfl rfl rfl
  refine sp_pop s2 (v := w) (by rw [f2.v 91 rfl]; exact hv) (by omega) (fun r s3 f3 h3 => ?_)
  have b3 := b2.sm f3 rfl rfl rfl
  have k3 := k2.sm f3 rfl rfl
  have F3 : zSm s s3 [] [87, 91] := (zSm.rf.tr f2 rfl rfl : zSm s s2 [] [87, 91]).tr f3 rfl rfl
  have e25 : za s3 25 x = za s4 25 x := b3.1.k x
  have N0 : xPost s4 s1 kids up sz root N (xMu kids up sz s ((14, x, a) :: L)) s3 := xPost.no b F3 rfl rfl rfl k3 h3 o (by show 0 < 70000 * sz x; omega)
  have T : ∀ y : Nat, y ∈ kids x → kC (za s4 25 y) → wr_todoTask s3 10 (y : Int) 0 (xPost s4 s1 kids up sz root N (xMu kids up sz s ((14, x, a) :: L))) := fun y my hy => by
    have zy := zk y my
    refine sp_todo k3 (by omega) 10 y 0 rfl rfl (fun s5 k5 f5 => ?_)
    refine xPost.pu (P := [(10, y, 0)]) b ((zSm.rf.tr F3 rfl rfl : zSm s s3 [88, 89, 90] [87, 91]).tr f5 rfl rfl) rfl rfl rfl k5 (v' := w) (by rw [f5.v 91 rfl]; exact h3) ⟨w, F', ⟨rfl, rfl, g.kid (by rw [hkr]; exact my), hy, by show w + L.length + sz y ≤ xB F'; omega, xC.o p hX xr my hnc⟩, o⟩ ?_ rfl
    show 70000 * sz y + 0 < 70000 * sz x
    omega
  have R : ∀ y0 : Int, wr_doNext_299 (xPost s4 s1 kids up sz root N (xMu kids up sz s ((14, x, a) :: L))) s3 x y0 := fun y0 => by
    have sh := p.h.sh x xN
    unfold wr_doNext_299
    rw [Int.toNat_natCast, e25]
    by_cases k24 : za s4 25 x = 24
    · obtain ⟨a1, a2, a3, q1, q2, q3, q4⟩ := sh.te k24
      obtain ⟨c, l, ec, q5, q6⟩ := List.map_eq_cons_iff.mp q1
      obtain ⟨d, l2, ed, q7, q8⟩ := List.map_eq_cons_iff.mp q6
      obtain ⟨e, ee, q9⟩ := map1 q8
      have ek : kids x = [c, d, e] := by rw [ec, ed, ee]
      have zc := zk c (by rw [ek]; exact List.mem_cons_self ..)
      have md : d ∈ kids x := by rw [ek]; exact List.mem_cons_of_mem _ (List.mem_cons_self ..)
      have zd := zk d md
      have me : e ∈ kids x := by rw [ek]; exact List.mem_cons_of_mem _ (List.mem_cons_of_mem _ (List.mem_cons_self ..))
      rw [b3.1.c1 p xN ek, Int.toNat_natCast, b3.1.nx p (kids x) [] (p.h.ch x xN) ek, Int.toNat_natCast, b3.1.nx p (kids x) [c] (p.h.ch x xN) ek]
      exact ⟨by omega, by omega, by omega, by omega, by omega, by omega, fun c => absurd k24 c, fun _ => ⟨fun _ => ⟨by omega, by omega, T e me (by rw [q9]; exact q4)⟩, fun _ => T d md (by rw [q7]; exact q3)⟩⟩
    · obtain ⟨a1, a2, q1, q2, q3⟩ := sh.ec (by omega)
      obtain ⟨c, l, ec, q5, q6⟩ := List.map_eq_cons_iff.mp q1
      obtain ⟨d, ed, q7⟩ := map1 q6
      have ek : kids x = [c, d] := by rw [ec, ed]
      have zc := zk c (by rw [ek]; exact List.mem_cons_self ..)
      have md : d ∈ kids x := by rw [ek]; exact List.mem_cons_of_mem _ (List.mem_cons_self ..)
      have Td := T d md (by rw [q7]; exact q3)
      rw [b3.1.c1 p xN ek, Int.toNat_natCast, b3.1.nx p (kids x) [] (p.h.ch x xN) ek]
      exact ⟨by omega, by omega, by omega, by omega, by omega, by omega, fun _ => ⟨by omega, by omega, fun _ => ⟨fun _ => N0, fun _ => Td⟩, fun _ => ⟨fun _ => N0, fun _ => Td⟩⟩, fun c => absurd c k24⟩
  exact ⟨fun _ => R 0, fun _ => R 1⟩
end RUN
