/-! THE RUN: FOR BEGINS -/
section RUN
variable {s4 s1 : zS} {kids : Nat → List Nat} {up sz : Nat → Nat} {root N : Nat}
theorem xs_20 (p : xP s4 s1 kids up sz root N) {s : zS} {x : Nat} {a : Int} {L : List xT} {v : Nat} {F : List Nat} (h : xSt s4 s1 kids up sz root N s ((20, x, a) :: L) v F) : wr_doNext s (xPost s4 s1 kids up sz root N (xMu kids up sz s ((20, x, a) :: L))) := by
  obtain ⟨b, k, hv, w, F', ⟨rfl, rfl, g, hk, hB, hX⟩, o⟩ := h.op
  obtain ⟨xN, xr, -⟩ := xI.n p g
  have hN := p.hN
  have hb := xB.le b.2.2.1
  obtain ⟨zx, zk⟩ := p.szk xN
  refine dn_20 k (by omega) (fun s2 k2 f2 => ?_)
  have b2 := b.sm f2 rfl rfl rfl
  rw [Int.toNat_natCast]
  refine sp_pop s2 (v := w + 1) (by rw [f2.v 91 rfl]; exact hv) (by omega) (fun r s3 f3 h3 => ⟨by omega, by omega, sp_pop s3 h3 (by omega) (fun r2 s5 f5 h5 => ?_)⟩)
  have b3 := b2.sm f3 rfl rfl rfl
  have b5 := b3.sm f5 rfl rfl rfl
  have k5 := (k2.sm f3 rfl rfl).sm f5 rfl rfl
  have F5 : zSm s s5 [98] [87, 91] := ((zSm.rf.tr f2 rfl rfl : zSm s s2 [98] [87, 91]).tr f3 rfl rfl).tr f5 rfl rfl
  obtain ⟨-, q1, q2⟩ := xI.f27 p b3 g hk
  obtain ⟨-, q3, q4⟩ := xI.f27 p b5 g hk
  refine ⟨by omega, by omega, by omega, by omega, by omega, by omega, ?_⟩
  have f6 : ∀ i j y z, zSm s5 (zpa (zpa s5 98 i y) 98 j z) [98] [] := fun i j y z => (zSm.rf.pa rfl).pa rfl
  have f7 := f6 (Int.toNat (zv s3 96 + za s3 31 x)) (Int.toNat (zv s5 96 + za s5 31 x + 1)) r2 r
  generalize zpa (zpa s5 98 (Int.toNat (zv s3 96 + za s3 31 x)) r2) 98 (Int.toNat (zv s5 96 + za s5 31 x + 1)) r = s7 at f7
  have hk6 : za s4 25 x = 25 ∨ za s4 25 x = 26 ∨ za s4 25 x = 27 ∨ za s4 25 x = 38 ∨ za s4 25 x = 39 ∨ za s4 25 x = 40 := by omega
  refine sp_todo (k5.sm f7 rfl rfl) (by omega) 15 x 0 rfl rfl (fun s8 k8 f8 => ?_)
  refine xPost.pu (P := [(15, x, 0)]) b (((zSm.rf.tr F5 rfl rfl : zSm s s5 [88, 89, 90, 98] [87, 91]).tr f7 rfl rfl).tr f8 rfl rfl) rfl rfl rfl k8 (v' := w) (by rw [f8.v 91 rfl, f7.v 91 rfl]; exact h5) ⟨w, F', ⟨rfl, rfl, g, hk6, hB, hX⟩, o⟩ ?_ rfl
  show 1 + 0 < 2
  omega
theorem xs_27 (p : xP s4 s1 kids up sz root N) {s : zS} {x : Nat} {a : Int} {L : List xT} {v : Nat} {F : List Nat} (h : xSt s4 s1 kids up sz root N s ((10, x, a) :: L) v F) (hk : za s4 25 x = 27) : wr_doNext s (xPost s4 s1 kids up sz root N (xMu kids up sz s ((10, x, a) :: L))) := by
  have b := h.op.1
  have hf := h.fu
  refine h.c p (fun g xN hN xr hB hb z1 zN hX o s2 b2 k2 f2 hv2 e25 => ?_)
  obtain ⟨zx, zk⟩ := p.szk xN
  have g0 : 0 ≤ zv s2 101 := by rw [f2.v 101 rfl]; exact hf.1
  have g1 : zv s2 101 ≤ 100000 := by rw [f2.v 101 rfl]; exact hf.2
  have E : ∀ s', zSm s2 s' [] [102, 103, 104] → xEd s' → xPost s4 s1 kids up sz root N (xMu kids up sz s ((10, x, a) :: L)) s' := fun s' f e => xPost.ed b2 f e rfl rfl rfl
  obtain ⟨ka, kb, rk, kc, r1, r2, r3, r4, -⟩ := (p.h.sh x xN).fo hk
  obtain ⟨v0, l1, e1, ev, w1⟩ := List.map_eq_cons_iff.mp r1
  obtain ⟨c, l2, e2', ea, w2⟩ := List.map_eq_cons_iff.mp w1
  obtain ⟨d, l3, e3, eb, w3⟩ := List.map_eq_cons_iff.mp w2
  have ek : kids x = v0 :: c :: d :: l3 := by rw [e1, e2', e3]
  have mv : v0 ∈ kids x := by rw [ek]; exact List.mem_cons_self ..
  have mc : c ∈ kids x := by rw [ek]; exact List.mem_cons_of_mem _ (List.mem_cons_self ..)
  have md : d ∈ kids x := by rw [ek]; exact List.mem_cons_of_mem _ (List.mem_cons_of_mem _ (List.mem_cons_self ..))
  have zv0 := zk v0 mv
  have zc := zk c mc
  have zd := zk d md
  have es : ((kids x).map sz).sum = sz v0 + (sz c + (sz d + (l3.map sz).sum)) := by
    rw [ek, List.map_cons, List.sum_cons, List.map_cons, List.sum_cons, List.map_cons, List.sum_cons]
  have kt : ∀ y, y ∈ (kids x).take 3 → y ∈ kr (za s4 25) kids x := fun y hy => by
    unfold kr
    rw [if_neg (by omega), if_pos hk]
    exact List.mem_append.mpr (Or.inl hy)
  have tc : c ∈ (kids x).take 3 := by rw [ek]; exact List.mem_cons_of_mem _ (List.mem_cons_self ..)
  have td : d ∈ (kids x).take 3 := by rw [ek]; exact List.mem_cons_of_mem _ (List.mem_cons_of_mem _ (List.mem_cons_self ..))
  refine pf_27 (by omega) (by rw [e25]; exact hk) g0 g1 E (fun s46 f q1 q2 => ?_)
  rw [b2.1.c1 p xN ek, Int.toNat_natCast]
  have b46 := b2.fu f rfl rfl q2 (by omega)
  refine sp_todo (k2.sm f rfl rfl) (by omega) 20 x 0 rfl rfl (fun s5 k5 f5 => ?_)
  have b5 := b46.sm f5 rfl rfl rfl
  rw [b5.1.nx p (kids x) [] (p.h.ch x xN) ek, Int.toNat_natCast, b5.1.nx p (kids x) [v0] (p.h.ch x xN) ek]
  refine ⟨by omega, by omega, by omega, by omega, sp_todo k5 (by show L.length + 1 < 620000; omega) 1 d 0 rfl rfl (fun s6 k6 f6 => ⟨by omega, by omega, ?_⟩)⟩
  rw [(b5.sm f6 rfl rfl rfl).1.nx p (kids x) [] (p.h.ch x xN) ek]
  refine sp_todo k6 (by show L.length + 1 + 1 < 620000; omega) 1 c 0 rfl rfl (fun s7 k7 f7 => ?_)
  refine xPost.bu b (((((zSm.rf.tr f2 rfl rfl : zSm s s2 [88, 89, 90] [87, 101]).tr f rfl rfl).tr f5 rfl rfl).tr f6 rfl rfl).tr f7 rfl rfl) rfl rfl (by rw [f7.v 101 rfl, f6.v 101 rfl, f5.v 101 rfl, q1, f2.v 101 rfl]) (by rw [f7.v 101 rfl, f6.v 101 rfl, f5.v 101 rfl]; exact q2) k7 (v' := v) (by rw [f7.v 91 rfl, f6.v 91 rfl, f5.v 91 rfl, f.v 91 rfl]; exact hv2) ⟨v + 1, F, ⟨rfl, rfl, g.kid (kt c tc), by rw [ea]; exact r2, by show v + (L.length + 2) + sz c ≤ xB F; omega⟩, v + 2, F, ⟨rfl, rfl, g.kid (kt d td), by rw [eb]; exact r3, by show v + 1 + (L.length + 1) + sz d ≤ xB F; omega⟩, v, F, ⟨rfl, rfl, g, hk, hB, hX⟩, o⟩ ?_
  show 70000 * sz c + (70000 * sz d + (2 + xW kids up sz L)) < _
  omega
end RUN
