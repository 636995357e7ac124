/-! THE RUN: A LOOP GOES ON -/
section RUN
variable {s4 s1 : zS} {kids : Nat → List Nat} {up sz : Nat → Nat} {root N : Nat}
/-- a FOR's two words -/
theorem xI.f27 (p : xP s4 s1 kids up sz root N) {s : zS} {F : List Nat} (b : xBs s4 s1 s F) {x : Nat} (g : xI s4 s1 kids F x) (hk : za s4 25 x = 27) : za s 29 x = (lk kids x : Nat) ∧ 0 ≤ zv s 96 + za s 31 x ∧ zv s 96 + za s 31 x + 1 < 65536 := by
  obtain ⟨xN, xr, r, F1, rfl, hr, fa, h32, h2⟩ := xI.n p g
  obtain ⟨f1, f2, f3⟩ := fa.2.2.2.2.1 hk
  obtain ⟨b1, b2, b3, b4, -⟩ := b.2.2.2.1
  rw [b.1.2.1 29 (by decide) x, b.1.2.1 31 (by decide) x]
  unfold rng at f3
  exact ⟨f1, by omega, by omega⟩
theorem sp_isStep (p : xP s4 s1 kids up sz root N) {s : zS} {F : List Nat} (b : xBs s4 s1 s F) {x : Nat} (g : xI s4 s1 kids F x) (a : Int) {Q : Int → zS → Prop} (hq : ∀ s', zSm s s' [98] [] → Q 1 s') : wr_isStep s (za s4 25 x) x a Q := by
  have xN := (xI.n p g).1
  have hN := p.hN
  unfold wr_isStep
  rw [Int.toNat_natCast]
  refine ⟨fun _ => hq s zSm.rf, fun c => ⟨fun _ => hq s zSm.rf, fun _ => ?_⟩⟩
  obtain ⟨-, q1, q2⟩ := xI.f27 p b g c
  exact ⟨by omega, by omega, by omega, by omega, by omega, by omega, fun z _ _ => ⟨by omega, by omega, hq _ (zSm.rf.pa rfl)⟩⟩
theorem xs_15 (p : xP s4 s1 kids up sz root N) {s : zS} {x : Nat} {a : Int} {L : List xT} {v : Nat} {F : List Nat} (h : xSt s4 s1 kids up sz root N s ((15, x, a) :: L) v F) : wr_doNext s (xPost s4 s1 kids up sz root N (xMu kids up sz s ((15, x, a) :: L))) := by
  have hf := h.fu
  obtain ⟨b, k, hv, v', F', ⟨rfl, rfl, g, hk, hB, hX⟩, o⟩ := h.op
  obtain ⟨xN, xr, -⟩ := xI.n p g
  have hN := p.hN
  have hb := xB.le b.2.2.1
  obtain ⟨zx, zk⟩ := p.szk xN
  have zN := p.h.szr xr
  have sh := p.h.sh x xN
  refine dn_15 k (by omega) (fun s2 k2 f2 => ?_)
  have b2 := b.sm f2 rfl rfl rfl
  unfold wr_loop
  rw [Int.toNat_natCast, b2.1.k x]
  refine ⟨by omega, by omega, by omega, by omega, sp_isStep p b2 g a (fun s3 f3 => ⟨fun c => absurd c (by decide), fun _ => ?_⟩)⟩
  have b3 := b2.sm f3 rfl rfl rfl
  have k3 := k2.sm f3 rfl rfl
  have F3 : zSm s s3 [98] [87] := (zSm.rf.tr f2 rfl rfl : zSm s s2 [98] [87]).tr f3 rfl rfl
  refine sp_burns s3 (by rw [F3.v 101 rfl]; exact hf.1) (by rw [F3.v 101 rfl]; exact hf.2) (fun s5 f5 e1 e2 => ⟨fun _ => ?_, fun c => absurd c (by decide)⟩) (fun s5 f5 e => ⟨fun c => absurd rfl c, fun _ => xPost.ed b3 f5 e rfl rfl rfl⟩)
  have k5 := k3.sm f5 rfl rfl
  have F5 : zSm s s5 [98] [87, 101] := (zSm.rf.tr F3 rfl rfl : zSm s s3 [98] [87, 101]).tr f5 rfl rfl
  have b5 := b3.fu f5 rfl rfl e2 (by omega)
  have hv5 : zv s5 91 = (v' : Nat) := by rw [F5.v 91 rfl]; exact hv
  have e101 : zv s5 101 = zv s 101 - 1 := by rw [e1, F3.v 101 rfl]
  have fin : ∀ (s' : zS) (L' : List xT), zSm s5 s' [88, 89, 90] [87] → xTk s' L' → xOk s4 s1 kids up sz root N L' v' F' → xW kids up sz L' ≤ xW kids up sz L + 1000000000 → xPost s4 s1 kids up sz root N (xMu kids up sz s ((15, x, a) :: L)) s' := fun s' L' f' k' o' w' => by
    refine xPost.bu b ((zSm.rf.tr F5 rfl rfl : zSm s s5 [88, 89, 90, 98] [87, 101]).tr f' rfl rfl) rfl rfl (by rw [f'.v 101 rfl]; exact e101) (by rw [f'.v 101 rfl]; exact e2) k' (v' := v') (by rw [f'.v 91 rfl]; exact hv5) o' ?_
    omega
  have kin : ∀ c, c ∈ kids x → ¬ za s4 25 x = 27 → xI s4 s1 kids F' c := fun c hc h27 => g.kid (by rw [kr_eq (by rcases hk with q | q | q | q | q | q <;> first | (rw [q]; rfl) | exact absurd q h27)]; exact hc)
  have fst : ∀ {q : Int} {r : List Int}, (kids x).map (fun c => za s4 25 c) = q :: r → ∃ c l, kids x = c :: l ∧ za s4 25 c = q ∧ l.map (fun c => za s4 25 c) = r := fun e => by
    obtain ⟨c, l, ec, q1, q2⟩ := List.map_eq_cons_iff.mp e
    exact ⟨c, l, ec, q1, q2⟩
  -- WHILE, UNTIL
  have W : za s4 25 x = 25 ∨ za s4 25 x = 26 → wr_todoTask s5 15 x 0 (fun s29 => wr_todoTask s29 16 x 0 (fun s35 => wr_todoTask s35 1 (za s2 27 x) 0 (xPost s4 s1 kids up sz root N (xMu kids up sz s ((15, x, a) :: L))))) := fun hk2 => by
    obtain ⟨a1, a2, q1, q2, q3⟩ := sh.ec (by omega)
    obtain ⟨c, l, ec, q5, q6⟩ := fst q1
    obtain ⟨d, ed, q7⟩ := map1 q6
    have mc : c ∈ kids x := by rw [ec]; exact List.mem_cons_self ..
    have zc := zk c mc
    have hl : (kids x).length = 2 := by rw [ec, ed]; rfl
    rw [b2.1.c1 p xN ec]
    refine sp_todo k5 (by omega) 15 x 0 rfl rfl (fun s6 k6 f6 => sp_todo k6 (by show L.length + 1 < 620000; omega) 16 x 0 rfl rfl (fun s7 k7 f7 => sp_todo k7 (by show L.length + 1 + 1 < 620000; omega) 1 c 0 rfl rfl (fun s8 k8 f8 => ?_)))
    refine fin s8 _ ((f6.tr f7 rfl rfl).tr f8 rfl rfl) k8 ⟨v' + 1, F', ⟨rfl, rfl, kin c mc (by omega), by rw [q5]; exact q2, by show v' + (L.length + 2) + sz c ≤ xB F'; omega⟩, v', F', ⟨rfl, rfl, g, Or.inl ⟨hk2, 0, L, rfl⟩⟩, v', F', ⟨rfl, rfl, g, hk, hB, hX⟩, o⟩ ?_
    show 70000 * sz c + (70000 * sz x + 5 + (1 + xW kids up sz L)) ≤ _
    omega
  -- a body above the loop
  have T10 : ∀ (y : Nat) (bb : Int), y ∈ kr (za s4 25) kids x → y ∈ kids x → kC (za s4 25 y) → ∀ s6, xTk s6 ((15, x, bb) :: L) → zSm s5 s6 [88, 89, 90] [87] → wr_todoTask s6 10 (y : Int) 0 (xPost s4 s1 kids up sz root N (xMu kids up sz s ((15, x, a) :: L))) := fun y bb hy my hC s6 k6 f6 => by
    have zy := zk y my
    refine sp_todo k6 (by show L.length + 1 < 620000; omega) 10 y 0 rfl rfl (fun s7 k7 f7 => ?_)
    refine fin s7 _ (f6.tr f7 rfl rfl) k7 ⟨v', F', ⟨rfl, rfl, g.kid hy, hC, by show v' + (L.length + 1) + sz y ≤ xB F'; omega, xC.lo p hX xr my hk⟩, v', F', ⟨rfl, rfl, g, hk, hB, hX⟩, o⟩ ?_
    show 70000 * sz y + (1 + xW kids up sz L) ≤ _
    omega
  have stay : xPost s4 s1 kids up sz root N (xMu kids up sz s ((15, x, a) :: L)) s5 := fin s5 L zSm.rf k5 o (by omega)
  refine ⟨fun c => W (Or.inl c), fun c25 => ⟨fun c26 => ⟨fun c38 => ⟨fun c27 => ?_, fun c27 => ?_⟩, fun c38 => ?_⟩, fun c => W (Or.inr c)⟩⟩
  · obtain ⟨a1, a2, q1, q2, q3⟩ := sh.ce (by omega)
    obtain ⟨c, l, ec, q5, q6⟩ := fst q1
    obtain ⟨d, ed, q7⟩ := map1 q6
    have ek : kids x = [c, d] := by rw [ec, ed]
    have zc := zk c (by rw [ek]; exact List.mem_cons_self ..)
    have md : d ∈ kids x := by rw [ek]; exact List.mem_cons_of_mem _ (List.mem_cons_self ..)
    have zd := zk d md
    have hl : (kids x).length = 2 := by rw [ek]; rfl
    have hk3 : za s4 25 x = 39 ∨ za s4 25 x = 40 := by omega
    refine sp_todo k5 (by omega) 16 x 0 rfl rfl (fun s6 k6 f6 => ?_)
    rw [b2.1.c1 p xN ek, Int.toNat_natCast, (b5.sm f6 rfl rfl rfl).1.nx p (kids x) [] (p.h.ch x xN) ek]
    refine ⟨by omega, by omega, sp_todo k6 (by show L.length + 1 < 620000; omega) 1 d 0 rfl rfl (fun s7 k7 f7 => ?_)⟩
    refine fin s7 _ (f6.tr f7 rfl rfl) k7 ⟨v' + 1, F', ⟨rfl, rfl, kin d md c27, by rw [q7]; exact q3, by show v' + (L.length + 1) + sz d ≤ xB F'; omega⟩, v', F', ⟨rfl, rfl, g, Or.inr ⟨hk3, hB, hX⟩⟩, o⟩ ?_
    show 70000 * sz d + (70000 * sz x + 5 + xW kids up sz L) ≤ _
    omega
  · obtain ⟨q1, q2, q3⟩ := xI.f27 p b5 g c27
    obtain ⟨a1, a2, r, a3, r1, r2, r3, r4, -⟩ := sh.fo c27
    have hne : ¬ kids x = [] := p.h.kne xN c27
    have ml := lk_mem hne
    have hlk : kC (za s4 25 (lk kids x)) := by
      obtain ⟨v0, l1, e1, ev, w1⟩ := List.map_eq_cons_iff.mp r1
      obtain ⟨a0, l2, e2', ea, w2⟩ := List.map_eq_cons_iff.mp w1
      obtain ⟨b0, l3, e3, eb, w3⟩ := List.map_eq_cons_iff.mp w2
      obtain ⟨r0, l4, e4, er, w4⟩ := List.map_eq_append_iff.mp w3
      obtain ⟨c0, e5, ec⟩ := map1 w4
      have : lk kids x = c0 := lk_app (r := v0 :: a0 :: b0 :: r0) (by rw [e1, e2', e3, e4, e5]; rfl)
      rw [this, ec]
      exact r4
    have mk : lk kids x ∈ kr (za s4 25) kids x := by
      unfold kr
      rw [if_neg (by omega), if_pos c27]
      exact List.mem_append.mpr (Or.inr (List.mem_cons_self ..))
    have B : wr_todoTask s5 15 x 1 (fun s95 => (0 ≤ (x : Int)) ∧ ((x : Int) < 26000) ∧ wr_todoTask s95 10 (za s95 29 x) 0 (xPost s4 s1 kids up sz root N (xMu kids up sz s ((15, x, a) :: L)))) := by
      refine sp_todo k5 (by omega) 15 x 1 rfl rfl (fun s6 k6 f6 => ⟨by omega, by omega, ?_⟩)
      rw [(xI.f27 p (b5.sm f6 rfl rfl rfl) g c27).1]
      exact T10 (lk kids x) 1 mk ml hlk s6 k6 f6
    exact ⟨by omega, by omega, by omega, by omega, by omega, by omega, by omega, by omega, by omega, by omega, fun _ => ⟨fun _ => B, fun _ => stay⟩, fun _ => ⟨fun _ => B, fun _ => stay⟩⟩
  · obtain ⟨a1, q1, q2⟩ := sh.rp c38
    obtain ⟨c, l, ec, q5, q6⟩ := fst q1
    have mc : c ∈ kids x := by rw [ec]; exact List.mem_cons_self ..
    rw [b2.1.c1 p xN ec]
    exact sp_todo k5 (by omega) 15 x 0 rfl rfl (fun s6 k6 f6 => T10 c 0 (by rw [kr_eq (by rw [c38]; rfl)]; exact mc) mc (by rw [q5]; exact q2) s6 k6 f6)
end RUN
