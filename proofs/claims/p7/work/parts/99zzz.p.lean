/-! THE RUN: COMMANDS THAT BURN -/
section RUN
variable {s4 s1 : zS} {kids : Nat → List Nat} {up sz : Nat → Nat} {root N : Nat}
theorem xSt.fu {s : zS} {L : List xT} {v : Nat} {F : List Nat} (h : xSt s4 s1 kids up sz root N s L v F) : 0 ≤ zv s 101 ∧ zv s 101 ≤ 100000 := h.1.2.2.2.2.2.2.2.2.2.2
/-- a task, an expression above it -/
theorem xs_b1 (p : xP s4 s1 kids up sz root N) {s s2 s46 : zS} {x : Nat} {a : Int} {L : List xT} {v : Nat} {F : List Nat} (b : xBs s4 s1 s F) (g : xI s4 s1 kids F x) (hB : v + L.length + sz x ≤ xB F) (o : xOk s4 s1 kids up sz root N L v F) (b2 : xBs s4 s1 s2 F) (k2 : xTk s2 L) (f2 : zSm s s2 [] [87]) (hv2 : zv s2 91 = (v : Nat)) (f : zSm s2 s46 [] [101]) (e1 : zv s46 101 = zv s2 101 - 1) (e2 : 0 ≤ zv s46 101) (hkr : kr (za s4 25) kids x = kids x) {c : Nat} {l : List Nat} (ek : kids x = c :: l) (hE : kE (za s4 25 c)) (t : Nat) (T : Int) (hT : T = t) (en : xEn s4 s1 kids up sz root N t x 0 L (v + 1) F v F) (hw : xw kids up sz t x 0 ≤ 300000000) : wr_todoTask s46 T x 0 (fun s5 => wr_todoTask s5 1 (za s2 27 x) 0 (xPost s4 s1 kids up sz root N (xMu kids up sz s ((10, x, a) :: L)))) := by
  obtain ⟨xN, xr, -⟩ := xI.n p g
  have hN := p.hN
  have hb := xB.le b.2.2.1
  have zN := p.h.szr xr
  obtain ⟨zx, zk⟩ := p.szk xN
  have mc : c ∈ kids x := by rw [ek]; exact List.mem_cons_self ..
  have zc := zk c mc
  rw [b2.1.c1 p xN ek]
  refine sp_todo (k2.sm f rfl rfl) (by omega) t x 0 hT rfl (fun s3 k3 f3 => sp_todo k3 (by show L.length + 1 < 620000; omega) 1 c 0 rfl rfl (fun s5 k5 f5 => ?_))
  refine xPost.bu b ((((zSm.rf.tr f2 rfl rfl : zSm s s2 [88, 89, 90] [87, 101]).tr f rfl rfl).tr f3 rfl rfl).tr f5 rfl rfl) rfl rfl (by rw [f5.v 101 rfl, f3.v 101 rfl, e1, f2.v 101 rfl]) (by rw [f5.v 101 rfl, f3.v 101 rfl]; exact e2) k5 (v' := v) (by rw [f5.v 91 rfl, f3.v 91 rfl, f.v 91 rfl]; exact hv2) (xOk.e1 (g.kid (by rw [hkr]; exact mc)) hE (by omega) en o) ?_
  show 70000 * sz c + (xw kids up sz t x 0 + xW kids up sz L) < _
  omega
theorem xs_bp (p : xP s4 s1 kids up sz root N) {s : zS} {x : Nat} {a : Int} {L : List xT} {v : Nat} {F : List Nat} (h : xSt s4 s1 kids up sz root N s ((10, x, a) :: L) v F) (hk : za s4 25 x = 21 ∨ za s4 25 x = 22 ∨ za s4 25 x = 23 ∨ za s4 25 x = 24 ∨ za s4 25 x = 25 ∨ za s4 25 x = 26 ∨ za s4 25 x = 28 ∨ za s4 25 x = 33 ∨ za s4 25 x = 34) : wr_doNext s (xPost s4 s1 kids up sz root N (xMu kids up sz s ((10, x, a) :: L))) := by
  have b := h.op.1
  have hf := h.fu
  refine h.c p (fun g xN hN xr hB hb z1 zN hX o s2 b2 k2 f2 hv2 e25 => ?_)
  obtain ⟨zx, zk⟩ := p.szk xN
  have hkr : kr (za s4 25) kids x = kids x := kr_eq (by rcases hk with q | q | q | q | q | q | q | q | q <;> rw [q] <;> rfl)
  have g0 : 0 ≤ zv s2 101 := by rw [f2.v 101 rfl]; exact hf.1
  have g1 : zv s2 101 ≤ 100000 := by rw [f2.v 101 rfl]; exact hf.2
  have E : ∀ s', zSm s2 s' [] [102, 103, 104] → xEd s' → xPost s4 s1 kids up sz root N (xMu kids up sz s ((10, x, a) :: L)) s' := fun s' f e => xPost.ed b2 f e rfl rfl rfl
  have sh := p.h.sh x xN
  have k1 : ∀ {q : Int} {r : List Int}, (kids x).map (fun c => za s4 25 c) = q :: r → ∃ c l, kids x = c :: l ∧ za s4 25 c = q := fun e => by
    obtain ⟨c, l, ec, q1, q2⟩ := List.map_eq_cons_iff.mp e
    exact ⟨c, l, ec, q1⟩
  have LO : ∀ s46, zSm s2 s46 [] [101] → zv s46 101 = zv s2 101 - 1 → 0 ≤ zv s46 101 → (za s4 25 x = 25 ∨ za s4 25 x = 26) → wr_todoTask s46 15 x 0 (xPost s4 s1 kids up sz root N (xMu kids up sz s ((10, x, a) :: L))) := fun s46 f e1 e2 hk2 => by
    refine sp_todo (k2.sm f rfl rfl) (by omega) 15 x 0 rfl rfl (fun s3 k3 f3 => ?_)
    have hk6 : za s4 25 x = 25 ∨ za s4 25 x = 26 ∨ za s4 25 x = 27 ∨ za s4 25 x = 38 ∨ za s4 25 x = 39 ∨ za s4 25 x = 40 := by omega
    refine xPost.bu b (((zSm.rf.tr f2 rfl rfl : zSm s s2 [88, 89, 90] [87, 101]).tr f rfl rfl).tr f3 rfl rfl) rfl rfl (by rw [f3.v 101 rfl, e1, f2.v 101 rfl]) (by rw [f3.v 101 rfl]; exact e2) k3 (v' := v) (by rw [f3.v 91 rfl, f.v 91 rfl]; exact hv2) ⟨v, F, ⟨rfl, rfl, g, hk6, hB, hX⟩, o⟩ ?_
    show 1 + xW kids up sz L < _
    omega
  rcases hk with hk | hk | hk | hk | hk | hk | hk | hk | hk
  · obtain ⟨c, l, ec, q⟩ := k1 (sh.cc hk)
    exact pf_21 (by omega) (by rw [e25]; exact hk) g0 g1 E (fun s46 f e1 e2 => xs_b1 p b g hB o b2 k2 f2 hv2 f e1 e2 hkr ec (by rw [q]; exact ⟨by decide, by decide⟩) 13 13 rfl ⟨rfl, rfl, by omega⟩ (by show 1 ≤ 300000000; omega))
  · obtain ⟨a1, a2, q1, q2, q3⟩ := sh.ec (Or.inl hk)
    obtain ⟨c, l, ec, q⟩ := k1 q1
    exact pf_22 (by omega) (by rw [e25]; exact hk) g0 g1 E (fun s46 f e1 e2 => xs_b1 p b g hB o b2 k2 f2 hv2 f e1 e2 hkr ec (by rw [q]; exact q2) 14 14 rfl ⟨rfl, rfl, g, by omega, hB, hX⟩ (by show 70000 * sz x ≤ 300000000; omega))
  · obtain ⟨a1, a2, q1, q2, q3⟩ := sh.ec (Or.inr (Or.inl hk))
    obtain ⟨c, l, ec, q⟩ := k1 q1
    exact pf_23 (by omega) (by rw [e25]; exact hk) g0 g1 E (fun s46 f e1 e2 => xs_b1 p b g hB o b2 k2 f2 hv2 f e1 e2 hkr ec (by rw [q]; exact q2) 14 14 rfl ⟨rfl, rfl, g, by omega, hB, hX⟩ (by show 70000 * sz x ≤ 300000000; omega))
  · obtain ⟨a1, a2, a3, q1, q2, q3⟩ := sh.te hk
    obtain ⟨c, l, ec, q⟩ := k1 q1
    exact pf_24 (by omega) (by rw [e25]; exact hk) g0 g1 E (fun s46 f e1 e2 => xs_b1 p b g hB o b2 k2 f2 hv2 f e1 e2 hkr ec (by rw [q]; exact q2) 14 14 rfl ⟨rfl, rfl, g, by omega, hB, hX⟩ (by show 70000 * sz x ≤ 300000000; omega))
  · exact pf_25 (by omega) (by rw [e25]; exact hk) g0 g1 E (fun s46 f e1 e2 => LO s46 f e1 e2 (Or.inl hk))
  · exact pf_26 (by omega) (by rw [e25]; exact hk) g0 g1 E (fun s46 f e1 e2 => LO s46 f e1 e2 (Or.inr hk))
  · obtain ⟨a1, a2, q1, q2, q3⟩ := sh.sw hk
    obtain ⟨c, l, ec, q⟩ := k1 q1
    exact pf_28 (by omega) (by rw [e25]; exact hk) g0 g1 E (fun s46 f e1 e2 => xs_b1 p b g hB o b2 k2 f2 hv2 f e1 e2 hkr ec (by rw [q]; exact q2) 21 21 rfl ⟨rfl, rfl, g, hk, hB, hX⟩ (by show 70001 * sz x + 10 ≤ 300000000; omega))
  · obtain ⟨a1, q1, q2⟩ := sh.e1 (by omega)
    obtain ⟨c, l, ec, q⟩ := k1 q1
    obtain ⟨-, -, r, F1, -, -, fa, -, -⟩ := xI.n p g
    have f33 := fa.2.2.2.2.2.2.2.2.1 hk
    exact pf_33 (by omega) (by rw [e25]; exact hk) g0 g1 E (fun s46 f e1 e2 => xs_b1 p b g hB o b2 k2 f2 hv2 f e1 e2 hkr ec (by rw [q]; exact q2) 22 22 rfl ⟨rfl, rfl, hX.2.1 f33, by omega⟩ (by show 1 ≤ 300000000; omega))
  · refine pf_34 (by omega) (by rw [e25]; exact hk) g0 g1 E (fun s46 f e1 e2 => ?_)
    have b46 := b2.fu f rfl rfl e2 (by omega)
    exact xPost.ed b46 ((((zSm.rf.pv rfl).pv rfl).pv rfl : zSm s46 _ [] [102, 103, 104])) (by show ¬ (1 : Int) = 0; decide) rfl rfl rfl
end RUN
