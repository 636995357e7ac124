/-! THE RUN: COMMANDS -/
section RUN
variable {s4 s1 : zS} {kids : Nat → List Nat} {up sz : Nat → Nat} {root N : Nat}
/-- a step that burns -/
theorem xPost.bu {s s' : zS} {t x : Nat} {a : Int} {L L' : List xT} {v' : Nat} {F : List Nat} {js ks : List Nat} (b : xBs s4 s1 s F) (f : zSm s s' js ks) (hj : ([25, 27, 28, 29, 30, 31, 32, 70, 71, 72, 85, 93, 94, 107, 108, 110, 112, 113, 116].all fun j => !js.contains j) = true) (hk : ([69, 95, 96, 97, 99, 106, 114, 117].all fun k => !ks.contains k) = true) (h101 : zv s' 101 = zv s 101 - 1) (h0 : 0 ≤ zv s' 101) (k : xTk s' L') (hv : zv s' 91 = (v' : Nat)) (o : xOk s4 s1 kids up sz root N L' v' F) (hm : xW kids up sz L' < 100000000000000 + xW kids up sz L) : xPost s4 s1 kids up sz root N (xMu kids up sz s ((t, x, a) :: L)) s' := by
  refine xPost.st (b.fu f hj hk h0 (by omega)) k hv o ?_
  unfold xMu
  rw [xW.c]
  omega
/-- what a task for a command finds -/
theorem xSt.c (p : xP s4 s1 kids up sz root N) {s : zS} {x : Nat} {a : Int} {L : List xT} {v : Nat} {F : List Nat} (h : xSt s4 s1 kids up sz root N s ((10, x, a) :: L) v F) {Q : zS → Prop} (hq : xI s4 s1 kids F x → x < N → N ≤ 2700 → rch kids root x → v + L.length + sz x ≤ xB F → xB F ≤ 270000 → 1 ≤ sz x → sz x ≤ 2700 → xC s4 up root N L x → xOk s4 s1 kids up sz root N L v F → ∀ s2, xBs s4 s1 s2 F → xTk s2 L → zSm s s2 [] [87] → zv s2 91 = (v : Nat) → za s2 25 x = za s4 25 x → wr_perform s2 x Q) : wr_doNext s Q := by
  obtain ⟨b, k, hv, v', F', ⟨rfl, rfl, g, hC, hB, hX⟩, o⟩ := h.op
  obtain ⟨xN, xr, -⟩ := xI.n p g
  have hN := p.hN
  have hb := xB.le b.2.2.1
  have z1 : 1 ≤ sz x := by have := p.h.ss x xN; omega
  have zN := p.h.szr xr
  refine dn_10 k (by omega) (fun s2 k2 f2 => ?_)
  have b2 := b.sm f2 rfl rfl rfl
  exact hq g xN hN xr hB hb z1 (by omega) hX o s2 b2 k2 f2 (by rw [f2.v 91 rfl]; exact hv) (b2.1.k x)
/-- nothing, blocks, loops that begin with their body -/
theorem xs_nb (p : xP s4 s1 kids up sz root N) {s : zS} {x : Nat} {a : Int} {L : List xT} {v : Nat} {F : List Nat} (h : xSt s4 s1 kids up sz root N s ((10, x, a) :: L) v F) (hk : za s4 25 x = 36 ∨ za s4 25 x = 37 ∨ za s4 25 x = 38 ∨ za s4 25 x = 39 ∨ za s4 25 x = 40) : wr_doNext s (xPost s4 s1 kids up sz root N (xMu kids up sz s ((10, x, a) :: L))) := by
  have b := h.op.1
  refine h.c p (fun g xN hN xr hB hb z1 zN hX o s2 b2 k2 f2 hv2 e25 => ?_)
  obtain ⟨zx, zk⟩ := p.szk xN
  have hkr : kr (za s4 25) kids x = kids x := kr_eq (by rcases hk with q | q | q | q | q <;> rw [q] <;> rfl)
  have LP : ∀ c, c ∈ kids x → (∃ l, kids x = c :: l) → kC (za s4 25 c) → za s4 25 x = 38 ∨ za s4 25 x = 39 ∨ za s4 25 x = 40 → wr_todoTask s2 15 x 0 (fun s16 => wr_todoTask s16 10 (za s2 27 x) 0 (xPost s4 s1 kids up sz root N (xMu kids up sz s ((10, x, a) :: L)))) := fun c mc el hC hk3 => by
    obtain ⟨l, el⟩ := el
    have hk6 : za s4 25 x = 25 ∨ za s4 25 x = 26 ∨ za s4 25 x = 27 ∨ za s4 25 x = 38 ∨ za s4 25 x = 39 ∨ za s4 25 x = 40 := by omega
    have zc := zk c mc
    rw [b2.1.c1 p xN el]
    refine sp_todo k2 (by omega) 15 x 0 rfl rfl (fun s3 k3 f3 => sp_todo k3 (by show L.length + 1 < 620000; omega) 10 c 0 rfl rfl (fun s5 k5 f5 => ?_))
    refine xPost.pu (P := [(10, c, 0), (15, x, 0)]) b (((zSm.rf.tr f2 rfl rfl : zSm s s2 [88, 89, 90] [87]).tr f3 rfl rfl).tr f5 rfl rfl) rfl rfl rfl k5 (v' := v) (by rw [f5.v 91 rfl, f3.v 91 rfl]; exact hv2) ?_ ?_ rfl
    · refine ⟨v, F, ⟨rfl, rfl, g.kid (by rw [hkr]; exact mc), hC, ?_, xC.lo p hX xr mc hk6⟩, v, F, ⟨rfl, rfl, g, hk6, hB, hX⟩, o⟩
      show v + (L.length + 1) + sz c ≤ xB F
      omega
    · show 70000 * sz c + (1 + 0) < 70000 * sz x
      omega
  rcases hk with hk | hk | hk | hk | hk
  · refine pf_36 (by omega) (by rw [e25]; exact hk) ?_
    have T : ∀ c : Int, (c = -1 ∨ ∃ d ∈ kids x, c = (d : Int) ∧ (za s4 25 d = 41 ∨ kD (za s4 25 d))) → xw kids up sz 17 x c < 70000 * sz x → wr_todoTask s2 17 x c (xPost s4 s1 kids up sz root N (xMu kids up sz s ((10, x, a) :: L))) := fun c hc hw => by
      refine sp_todo k2 (by omega) 17 x c rfl rfl (fun s3 k3 f3 => ?_)
      refine xPost.pu (P := [(17, x, c)]) b ((zSm.rf.tr f2 rfl rfl : zSm s s2 [88, 89, 90] [87]).tr f3 rfl rfl) rfl rfl rfl k3 (v' := v) (by rw [f3.v 91 rfl]; exact hv2) ⟨v, F, ⟨rfl, rfl, g, Or.inr hk, hc, hB, hX⟩, o⟩ ?_ rfl
      show xw kids up sz 17 x c + 0 < 70000 * sz x
      omega
    have hc := p.h.ch x xN
    rw [b2.1.1 27 (by decide) x]
    cases ek : kids x with
    | nil =>
      rw [ek] at hc
      have e1 : za s4 27 x = -1 := hc
      rw [e1]
      refine T _ (Or.inl rfl) ?_
      show (if (-1 : Int) < 0 then 1 else 70001 * aft kids up sz (-1 : Int).toNat + 5) < _
      rw [if_pos (by decide)]
      omega
    | cons c l =>
      rw [ek] at hc
      have e1 : za s4 27 x = (c : Int) := hc.1
      have mc : c ∈ kids x := by rw [ek]; exact List.mem_cons_self ..
      have ea := aft_cut (up := up) (f := sz) (n := x) (a := c) (pre := []) (post := l) ek (zk c mc).2.1 (p.h.kn x xN)
      have es : ((kids x).map sz).sum = sz c + (l.map sz).sum := by rw [ek, List.map_cons, List.sum_cons]
      rw [e1]
      refine T _ (Or.inr ⟨c, mc, rfl, (p.h.sh x xN).bl hk _ (List.mem_map.mpr ⟨c, mc, rfl⟩)⟩) ?_
      show (if (c : Int) < 0 then 1 else 70001 * aft kids up sz (c : Int).toNat + 5) < _
      rw [if_neg (by omega), Int.toNat_natCast, ea]
      omega
  · exact pf_37 (by omega) (by rw [e25]; exact hk) (xPost.no b (zSm.rf.tr f2 rfl rfl : zSm s s2 [] [87]) rfl rfl rfl k2 hv2 o (by show 0 < 70000 * sz x; omega))
  · obtain ⟨k1, e1, e2⟩ := (p.h.sh x xN).rp hk
    obtain ⟨c, ec, q1⟩ := map1 e1
    exact pf_38 (by omega) (by rw [e25]; exact hk) (LP c (by rw [ec]; exact List.mem_cons_self ..) ⟨_, ec⟩ (by rw [q1]; exact e2) (by omega))
  · obtain ⟨k1, k3, e1, e2, e3⟩ := (p.h.sh x xN).ce (Or.inl hk)
    obtain ⟨c, l, ec, q1, q2⟩ := List.map_eq_cons_iff.mp e1
    exact pf_39 (by omega) (by rw [e25]; exact hk) (LP c (by rw [ec]; exact List.mem_cons_self ..) ⟨_, ec⟩ (by rw [q1]; exact e2) (by omega))
  · obtain ⟨k1, k3, e1, e2, e3⟩ := (p.h.sh x xN).ce (Or.inr hk)
    obtain ⟨c, l, ec, q1, q2⟩ := List.map_eq_cons_iff.mp e1
    exact pf_40 (by omega) (by rw [e25]; exact hk) (LP c (by rw [ec]; exact List.mem_cons_self ..) ⟨_, ec⟩ (by rw [q1]; exact e2) (by omega))
end RUN
