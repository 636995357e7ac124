/-! THE RUN: A LOOP'S QUESTION IS ANSWERED -/
section RUN
variable {s4 s1 : zS} {kids : Nat → List Nat} {up sz : Nat → Nat} {root N : Nat}
theorem xs_16 (p : xP s4 s1 kids up sz root N) {s : zS} {x : Nat} {a : Int} {L : List xT} {v : Nat} {F : List Nat} (h : xSt s4 s1 kids up sz root N s ((16, x, a) :: L) v F) : wr_doNext s (xPost s4 s1 kids up sz root N (xMu kids up sz s ((16, x, a) :: L))) := by
  have hl0 := h.2.1.2
  obtain ⟨b, k, hv, w, F', ⟨rfl, rfl, g, hK⟩, o⟩ := h.op
  obtain ⟨xN, xr, -⟩ := xI.n p g
  have hN := p.hN
  have hb := xB.le b.2.2.1
  obtain ⟨zx, zk⟩ := p.szk xN
  have hk : za s4 25 x = 25 ∨ za s4 25 x = 26 ∨ za s4 25 x = 39 ∨ za s4 25 x = 40 := by
    rcases hK with ⟨q, -⟩ | ⟨q, -⟩ <;> omega
  have hkr : kr (za s4 25) kids x = kids x := kr_eq (by rcases hk with q | q | q | q <;> rw [q] <;> rfl)
  have hBL : w + L.length ≤ xB F' := by
    rcases hK with ⟨-, a2, L2, rfl⟩ | ⟨-, q, -⟩
    · obtain ⟨v2, F2, en, -⟩ := o
      have en2 : xEn s4 s1 kids up sz root N 15 x a2 L2 w F' v2 F2 := en
      obtain ⟨-, -, -, -, q, -⟩ := en2
      have : ((15, x, a2) :: L2 : List xT).length = L2.length + 1 := rfl
      have : 1 ≤ sz x := by omega
      omega
    · omega
  refine dn_16 k (by omega) (fun s2 k2 f2 => ?_)
  have b2 := b.sm f2 rfl rfl rfl
  unfold wr_asked
  refine sp_pop s2 (v := w) (by rw [f2.v 91 rfl]; exact hv) (by omega) (fun r s3 f3 h3 => ?_)
  have b3 := b2.sm f3 rfl rfl rfl
  have k3 := k2.sm f3 rfl rfl
  have F3 : zSm s s3 [] [87, 91] := (zSm.rf.tr f2 rfl rfl : zSm s s2 [] [87, 91]).tr f3 rfl rfl
  have e25 : za s3 25 x = za s4 25 x := b3.1.k x
  have sh := p.h.sh x xN
  have R : ∀ y0 : Int, wr_asked_12 (xPost s4 s1 kids up sz root N (xMu kids up sz s ((16, x, a) :: L))) s3 x y0 := fun y0 => by
    unfold wr_asked_12
    rw [Int.toNat_natCast, e25]
    rcases hK with ⟨hk2, a2, L2, eL⟩ | ⟨hk2, hB, hX⟩
    · obtain ⟨a1, a3, q1, q2, q3⟩ := sh.ec (by omega)
      obtain ⟨c, l, ec, q5, q6⟩ := List.map_eq_cons_iff.mp q1
      obtain ⟨d, ed, q7⟩ := map1 q6
      have ek : kids x = [c, d] := by rw [ec, ed]
      have zc := zk c (by rw [ek]; exact List.mem_cons_self ..)
      have md : d ∈ kids x := by rw [ek]; exact List.mem_cons_of_mem _ (List.mem_cons_self ..)
      have zd := zk d md
      subst eL
      have oo := o
      obtain ⟨v2, F2, en, -⟩ := oo
      have en2 : xEn s4 s1 kids up sz root N 15 x a2 L2 w F' v2 F2 := en
      obtain ⟨-, -, -, hk6, hB2, hX2⟩ := en2
      have e5 : ((15, x, a2) :: L2 : List xT).length = L2.length + 1 := rfl
      have DR : (zR (zv s3 87 - 1)) ∧ xPost s4 s1 kids up sz root N (xMu kids up sz s ((16, x, a) :: (15, x, a2) :: L2)) (zpv s3 87 (zv s3 87 - 1)) := by
        have e87 := k3.2
        rw [e5] at e87
        have f4 : zSm s3 (zpv s3 87 (zv s3 87 - 1)) [] [87] := zSm.rf.pv rfl
        refine ⟨⟨by omega, by omega⟩, xPost.st (b3.sm f4 rfl rfl rfl) k3.dr (by rw [f4.v 91 rfl]; exact h3) (o.pas (Or.inl rfl)) ?_⟩
        unfold xMu
        rw [xW.c, xW.c, f4.v 101 rfl, F3.v 101 rfl]
        show _ < _ + (70000 * sz x + 5 + (1 + _))
        omega
      have TD : wr_todoTask s3 10 (d : Int) 0 (xPost s4 s1 kids up sz root N (xMu kids up sz s ((16, x, a) :: (15, x, a2) :: L2))) := by
        refine sp_todo k3 (by omega) 10 d 0 rfl rfl (fun s5 k5 f5 => ?_)
        refine xPost.pu (P := [(10, d, 0)]) b ((zSm.rf.tr F3 rfl rfl : zSm s s3 [88, 89, 90] [87, 91]).tr f5 rfl rfl) rfl rfl rfl k5 (v' := w) (by rw [f5.v 91 rfl]; exact h3) ⟨w, F', ⟨rfl, rfl, g.kid (by rw [hkr]; exact md), by rw [q7]; exact q3, by show w + (L2.length + 1) + sz d ≤ xB F'; omega, xC.lo p hX2 xr md hk6⟩, o⟩ ?_ rfl
        show 70000 * sz d + 0 < 70000 * sz x + 5
        omega
      have A : wr_asked_32 (xPost s4 s1 kids up sz root N (xMu kids up sz s ((16, x, a) :: (15, x, a2) :: L2))) s3 x y0 (za s4 25 x) := by
        unfold wr_asked_32
        rw [Int.toNat_natCast, b3.1.c1 p xN ek, Int.toNat_natCast, b3.1.nx p (kids x) [] (p.h.ch x xN) ek]
        exact ⟨fun _ => ⟨fun _ => DR, fun _ => ⟨by omega, by omega, by omega, by omega, TD⟩⟩, fun _ => ⟨fun _ => DR, fun _ => ⟨by omega, by omega, by omega, by omega, TD⟩⟩⟩
      exact ⟨by omega, by omega, fun _ => A, fun _ => ⟨fun _ => absurd hk2 (by omega), fun _ => A⟩⟩
    · obtain ⟨a1, a3, q1, q2, q3⟩ := sh.ce hk2
      obtain ⟨c, l, ec, q5, q6⟩ := List.map_eq_cons_iff.mp q1
      have mc : c ∈ kids x := by rw [ec]; exact List.mem_cons_self ..
      have zc := zk c mc
      have hk6 : za s4 25 x = 25 ∨ za s4 25 x = 26 ∨ za s4 25 x = 27 ∨ za s4 25 x = 38 ∨ za s4 25 x = 39 ∨ za s4 25 x = 40 := by omega
      have N0 : xPost s4 s1 kids up sz root N (xMu kids up sz s ((16, x, a) :: L)) s3 := xPost.no b F3 rfl rfl rfl k3 h3 o (by show 0 < 70000 * sz x + 5; omega)
      have T : wr_todoTask s3 15 (x : Int) 0 (fun s35 => (0 ≤ (x : Int)) ∧ ((x : Int) < 26000) ∧ wr_todoTask s35 10 (za s35 27 x) 0 (xPost s4 s1 kids up sz root N (xMu kids up sz s ((16, x, a) :: L)))) := by
        refine sp_todo k3 (by omega) 15 x 0 rfl rfl (fun s5 k5 f5 => ⟨by omega, by omega, ?_⟩)
        rw [(b3.sm f5 rfl rfl rfl).1.c1 p xN ec]
        refine sp_todo k5 (by show L.length + 1 < 620000; omega) 10 c 0 rfl rfl (fun s6 k6 f6 => ?_)
        refine xPost.pu (P := [(10, c, 0), (15, x, 0)]) b (((zSm.rf.tr F3 rfl rfl : zSm s s3 [88, 89, 90] [87, 91]).tr f5 rfl rfl).tr f6 rfl rfl) rfl rfl rfl k6 (v' := w) (by rw [f6.v 91 rfl, f5.v 91 rfl]; exact h3) ⟨w, F', ⟨rfl, rfl, g.kid (by rw [hkr]; exact mc), by rw [q5]; exact q2, by show w + (L.length + 1) + sz c ≤ xB F'; omega, xC.lo p hX xr mc hk6⟩, w, F', ⟨rfl, rfl, g, hk6, hB, hX⟩, o⟩ ?_ rfl
        show 70000 * sz c + (1 + 0) < 70000 * sz x + 5
        omega
      exact ⟨by omega, by omega, fun c => absurd c (by omega), fun _ => ⟨fun _ => ⟨fun _ => ⟨fun _ => T, fun _ => N0⟩, fun _ => ⟨fun _ => T, fun _ => N0⟩⟩, fun c => absurd c (by omega)⟩⟩
  exact ⟨fun _ => R 0, fun _ => R 1⟩
end RUN
