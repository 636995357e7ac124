/-! THE STEPS OF EXPRESSIONS, the last ones -/
theorem sp_binaryM {s0 s : zS} {gl : List pG} {S B : List Int} {N : Nat} {a b x y z : Int} (h : pM s0 s gl S (B ++ [a, b]) N) (hN : N < 26000) (ez : z = (B.length : Int)) (ha : kE a) (hb : kE b) (y0 : 0 ≤ y) (y1 : y ≤ 12000) {Q : zS → Prop} (hq : ∀ s' k N', kE k → N ≤ N' → N' ≤ N + 1 → pM s0 s' gl S (B ++ [k]) N' → zv s' 43 = zv s 43 → zv s' 44 = zv s 44 → Q s') : wr_binary s x y z Q := by
  obtain ⟨p1, p2, p3, p4, p5, p6⟩ := h.pre
  have e2 : [a, b].length = 2 := rfl
  rw [e2] at p2 p3 p4 p5
  have i0 := p4 B.length (by omega)
  have i1 := p4 (B.length + 1) (by omega)
  have eR : (zv s 37 - 1).toNat = B.length + 1 := by omega
  have eL : z.toNat = B.length := by omega
  unfold wr_binary
  rw [eR, eL]
  have h1 : ∀ v, pM s0 (zpa s 33 (za s 36 (B.length + 1)).toNat v) gl S (B ++ [a, b]) N := fun v => h.putn 33 _ v (Or.inr (Or.inr (Or.inl rfl)))
  have sh : ∀ v, wr_shut (zpa s 33 (za s 36 (B.length + 1)).toNat v) 11 y z 0 (fun _ s' => Q s') := fun v => sp_shutM (h1 v) hN ez (fE_re ha hb) (by decide) (by decide) (by decide) (by decide) y0 y1 (fun s2 h2 a2 b2 _ => hq s2 11 (N + 1) ⟨by decide, by decide⟩ (by omega) (by omega) h2 a2 b2)
  refine ⟨by omega, by omega, fun _ => ?_, fun _ => ⟨by omega, by omega, y0, by omega, by omega, by omega, by omega, by omega, fun _ => sh _, fun c2 => ⟨by omega, by omega, fun _ => sh _, fun _ => ⟨by omega, by omega, ?_⟩⟩⟩⟩
  · refine sp_shutM h hN ez (fE_bi ha hb) (by decide) (by decide) (by decide) (by decide) y0 y1 (fun s1 h1 a1 b1 k1 => ⟨y0, by omega, by omega, by omega, ?_⟩)
    rw [Int.toNat_natCast]
    exact hq _ 9 (N + 1) ⟨by decide, by decide⟩ (by omega) (by omega) (h1.putn 29 N _ (Or.inr (Or.inr (Or.inr (Or.inr (Or.inl ⟨rfl, by omega, by omega⟩)))))) a1 b1
  · obtain ⟨kids, up, sz, W, q1, q2, q3, q4, q5, q6, q7, q8⟩ := h
    obtain ⟨WB, WA, rfl, rfl, w2⟩ := List.map_eq_append_iff.mp q3
    obtain ⟨l, W1, rfl, rfl, w3⟩ := List.map_eq_cons_iff.mp w2
    obtain ⟨r, W2, rfl, rfl, w4⟩ := List.map_eq_cons_iff.mp w3
    obtain rfl := List.map_eq_nil_iff.mp w4
    rw [List.length_map] at *
    have ol : za s 36 WB.length = (l : Int) := by
      have := q1.ou WB.length (by simp)
      simpa using this
    have or' : za s 36 (WB.length + 1) = (r : Int) := by
      have := q1.ou (WB.length + 1) (by simp)
      simpa using this
    rw [ol] at c2 ⊢
    rw [or']
    rw [Int.toNat_natCast] at c2 ⊢
    rw [Int.toNat_natCast]
    have lN := (q1.wt l (by simp)).1
    have rN := (q1.wt r (by simp)).1
    have hs := q1.sh l lN
    rw [c2] at hs
    obtain ⟨m1, m2, m3, e5, -⟩ := hs.re rfl
    obtain ⟨c, ls, e6, -, -⟩ := List.map_eq_cons_iff.mp e5
    have hch := q1.ch l lN
    rw [e6] at hch
    have hlt : ∀ x ∈ c :: ls, x < 26000 := fun x hx => by
      rw [← e6] at hx
      have := (q1.kd l lN x hx).1
      omega
    refine ⟨ls.length + 1, ?_⟩
    rw [hch.1, ez]
    refine sp_rel_L _ WB.length r (by omega) ls c (ls.length + 1) ((show fCh s (za s 28 c) ls from hch.2).fr (fun _ _ => rfl)) hlt (by omega) ?_
    have A : ∀ j, ¬ j = 28 → ¬ j = 33 → ∀ i, za (zpv (zpa (zpa s 33 r (za s 9 y.toNat)) 28 (lst ls c) r) 37 (WB.length + 1)) j i = za s j i := fun j j1 j2 i => by
      rw [za_pv, za_pa, if_neg j1, za_pa, if_neg j2]
    obtain ⟨kids', up', sz', g1, g2⟩ := q1.rel (s' := zpv (zpa (zpa s 33 r (za s 9 y.toNat)) 28 (lst ls c) r) 37 (WB.length + 1)) c2 hb e6 rfl rfl rfl A (fun i => by
      rw [za_pv, za_pa, if_pos rfl]
      rfl)
    refine hq _ (za s 25 l) N ha (by omega) (by omega) ⟨kids', up', sz', WB ++ [l], g1, ?_, ?_, q4.fr (fun j hj i _ => A j (by omega) (by omega) i), q5, q6.fr (fun i _ => A 47 (by decide) (by decide) i), q7, ((q8.pa rfl).pa rfl).pv rfl⟩ rfl rfl
    · intro n hn e
      rw [A 25 (by decide) (by decide)] at e
      have hnl : ¬ n = l := fun e2 => by rw [e2, c2] at e; exact absurd e (by decide)
      obtain ⟨M, v1, v2, v3, v4⟩ := q2 n hn e
      rw [g2 n hn hnl]
      refine ⟨M, by rw [A 29 (by decide) (by decide)]; exact v1, v2, v3, fun i hi => ?_⟩
      rw [A 32 (by decide) (by decide)]
      exact v4 i hi
    · rw [List.map_append, List.map_congr_left (g := fun c => za s 25 c) (fun x _ => A 25 (by decide) (by decide) x)]
      rfl
theorem st_32 {s0 s : zS} {x y z : Int} {r : List pG} {S K : List Int} {N : Nat} {M : Int} (hx : pX s0 s (32, x, y, z) r S K N M) {Q : Int → zS → Prop} (hq : ∀ e s', pR s0 M e s' → Q e s') : wr_reachE s 32 x y z Q := by
  obtain ⟨h0, t0, t1, t2, d0, d1, ok, pot, eM, hK, pre, cost, hr⟩ := hx
  have hl : (r.length : Int) + 1 ≤ 60 * (zv s 44 + 1) := cost
  have hp : (N : Int) + (1 + pPots r) ≤ 2 * zv s 43 + 4 := pot
  have hM : M = 200 * (zv s0 8 - zv s 43) + (1 + pWgts r) := eM
  have hp0 := pP0 r
  obtain ⟨o1, o2, o3⟩ := h0.outs
  clear cost pot eM
  unfold wr_reachE
  refine sp_tkM h0 t0 (by omega) (fun k hk => ?_)
  repeat' (first | (with_reducible refine ⟨fun c => absurd c (by decide), fun _ => ?_⟩) | (with_reducible refine ⟨fun _ => ?_, fun c => absurd c (by decide)⟩) | fail)
  obtain ⟨⟨B, A, rfl, ez, a, b, rfl, ha, hb⟩, tk1, tk2⟩ := pre
  have ez' : z = (B.length : Int) := ez
  refine sp_binaryM h0 (by omega) ez' ha hb tk1 tk2 (fun s1 k1 N1 q1 n1 n2 h1 a1 b1 => ?_)
  refine hq _ _ (pR.ok h1 (d := zv s 44) (t := zv s 43) (by omega) (by omega) (by omega) (by omega) (by omega) (by omega) ok (by show ((N1 : Int) : Int) + pPots r ≤ _; omega) (by show 200 * (zv s0 8 - (zv s 43)) + pWgts r < _; omega) ?_)
  exact hr _ _ _ _ ⟨eTE ez' kE q1, rfl, rfl⟩ d0 d1 ok (Int.le_refl _)
theorem st_39 {s0 s : zS} {x y z : Int} {r : List pG} {S K : List Int} {N : Nat} {M : Int} (hx : pX s0 s (39, x, y, z) r S K N M) {Q : Int → zS → Prop} (hq : ∀ e s', pR s0 M e s' → Q e s') : wr_reachE s 39 x y z Q := by
  obtain ⟨h0, t0, t1, t2, d0, d1, ok, pot, eM, hK, pre, cost, hr⟩ := hx
  have hl : (r.length : Int) + 8 ≤ 60 * (zv s 44 + 1) := cost
  have hp : (N : Int) + (0 + pPots r) ≤ 2 * zv s 43 + 4 := pot
  have hM : M = 200 * (zv s0 8 - zv s 43) + (1 + pWgts r) := eM
  have hp0 := pP0 r
  obtain ⟨o1, o2, o3⟩ := h0.outs
  clear cost pot eM
  unfold wr_reachE
  refine sp_tkM h0 t0 (by omega) (fun k hk => ?_)
  repeat' (first | (with_reducible refine ⟨fun c => absurd c (by decide), fun _ => ?_⟩) | (with_reducible refine ⟨fun _ => ?_, fun c => absurd c (by decide)⟩) | fail)
  refine ⟨fun c => ?_, fun c => ?_⟩
  · have o4 := h0.tok
    have LF : ∀ kd v, (kd = 1 ∨ kd = 2 ∨ kd = 3) → (kd = 3 → 0 ≤ v ∧ v < zv s0 18) → ¬ k = 0 → wr_leaf s kd (zv s 43) v (fun s' => wr_primary_241 (fun r33 s34 => (r33 = 0 ∨ r33 = 1) ∧ Q r33 s34) s') := fun kd v hkd hv hk0 => by
      have hk2 := hk hk0
      refine sp_leafM h0 (by omega) (fE_lf (by omega)) (by omega) (by omega) (by omega) hv t0 (by omega) (fun s1 h1 a1 b1 => ?_)
      unfold wr_primary_241
      refine ⟨⟨by omega, by omega⟩, Or.inr rfl, ?_⟩
      obtain ⟨s2, es, h2, a2, b2, c2⟩ := h1.at1
      rw [es]
      refine hq _ _ (pR.ok h2 (d := zv s 44) (t := zv s 43 + 1) (by omega) (by omega) (by omega) (by omega) (by omega) (by omega) ok (by show (((N + 1 : Nat) : Int) : Int) + pPots r ≤ _; omega) (by show 200 * (zv s0 8 - (zv s 43 + 1)) + pWgts r < _; omega) ?_)
      exact hr _ _ _ _ ⟨fun e => absurd e c, fun _ => ⟨⟨kd, ⟨by omega, by omega⟩, rfl⟩, rfl, rfl⟩⟩ d0 d1 ok (by omega)
    unfold wr_primary
    refine ⟨fun n1 => ⟨fun n2 => ⟨fun n4 => ⟨fun n74 => ⟨fun n75 => ⟨fun n12 => ⟨fun n76 => ⟨fun _ => ⟨Or.inl rfl, hq _ _ (pR.no h0 t0 t1)⟩, fun c9 => ?_⟩, fun c9 => ?_⟩, fun c9 => ?_⟩, fun c9 => LF 2 0 (by decide) (fun e => absurd e (by decide)) (by omega)⟩, fun c9 => LF 2 (-1) (by decide) (fun e => absurd e (by decide)) (by omega)⟩, fun c9 => ⟨t0, by omega, LF 3 _ (by decide) (fun _ => ?_) (by omega)⟩⟩, fun c9 => ⟨t0, by omega, LF 2 _ (by decide) (fun e => absurd e (by decide)) (by omega)⟩⟩, fun c9 => ⟨t0, by omega, LF 1 _ (by decide) (fun e => absurd e (by decide)) (by omega)⟩⟩
    · have hk2 := hk (by omega)
      refine sp_deeperN h0 d0 d1 ⟨fun e => absurd rfl e, fun _ => ⟨Or.inl rfl, hq _ _ (pR.no h0 t0 t1)⟩⟩ (fun v s1 h1 a1 b1 c1 => ⟨fun _ => ?_, fun e => absurd e (by decide)⟩)
      refine sp_goalM h1 (by show (r.length : Nat) < 9000; omega) _ _ _ _ (fun s2 h2 a2 b2 c2 => ?_)
      refine sp_goalM h2 (by show (r.length + 1 : Nat) < 9000; omega) _ _ _ _ (fun s3 h3 a3 b3 c3 => ?_)
      refine sp_goalM h3 (by show (r.length + 1 + 1 : Nat) < 9000; omega) _ _ _ _ (fun s4 h4 a4 b4 c4 => ?_)
      unfold wr_primary_241
      refine ⟨⟨by omega, by omega⟩, Or.inr rfl, ?_⟩
      obtain ⟨s5, es, h5, a5, b5, c5⟩ := h4.at1
      rw [es]
      refine hq _ _ (pR.ok h5 (d := zv s 44 + 1) (t := zv s 43 + 1) (by omega) (by omega) (by omega) (by omega) (by omega) (by omega) (ok.mono (by omega)) (by show (N : Int) + (0 + (1 + (0 + pPots r))) ≤ _; omega) (by show 200 * (zv s0 8 - (zv s 43 + 1)) + (22 + (1 + (1 + pWgts r))) < _; omega) ?_)
      have o5 : zv s2 37 = (K.length : Int) := by omega
      refine tyE kE trivial (by show ((r.length + 1 + 1 : Nat) : Int) + 30 ≤ _; omega) (fun _ _ _ e => e) (fun k1 T1 q1 f1 => ?_)
      refine tyTE kE o5 ⟨⟨K, [k1], rfl, o5, by simp, fun c hc => by rw [List.mem_singleton.mp hc]; exact q1⟩, t0, by show zv s 43 ≤ 12000; omega⟩ (by show ((r.length + 1 : Nat) : Int) + 32 ≤ _; omega) (fun _ _ _ e => e) (fun k2 T2 q2 f2 => ?_)
      refine tyDP d0 d1 ok (by show ((r.length : Nat) : Int) + 1 ≤ _; omega) (fun T3 f3 => ?_)
      exact hr _ _ _ _ ⟨fun e => absurd e c, fun _ => ⟨⟨k2, q2, rfl⟩, rfl, rfl⟩⟩ d0 d1 ok (by omega)
    · have hk2 := hk (by omega)
      refine sp_deeperN h0 d0 d1 ⟨fun e => absurd rfl e, fun _ => ⟨Or.inl rfl, hq _ _ (pR.no h0 t0 t1)⟩⟩ (fun v s1 h1 a1 b1 c1 => ⟨fun _ => ?_, fun e => absurd e (by decide)⟩)
      refine sp_goalM h1 (by show (r.length : Nat) < 9000; omega) _ _ _ _ (fun s2 h2 a2 b2 c2 => ?_)
      refine sp_goalM h2 (by show (r.length + 1 : Nat) < 9000; omega) _ _ _ _ (fun s3 h3 a3 b3 c3 => ?_)
      refine sp_goalM h3 (by show (r.length + 1 + 1 : Nat) < 9000; omega) _ _ _ _ (fun s4 h4 a4 b4 c4 => ?_)
      unfold wr_primary_241
      refine ⟨⟨by omega, by omega⟩, Or.inr rfl, ?_⟩
      obtain ⟨s5, es, h5, a5, b5, c5⟩ := h4.at1
      rw [es]
      refine hq _ _ (pR.ok h5 (d := zv s 44 + 1) (t := zv s 43 + 1) (by omega) (by omega) (by omega) (by omega) (by omega) (by omega) (ok.mono (by omega)) (by show (N : Int) + (1 + (1 + (0 + pPots r))) ≤ _; omega) (by show 200 * (zv s0 8 - (zv s 43 + 1)) + (27 + (1 + (1 + pWgts r))) < _; omega) ?_)
      have o5 : zv s2 37 = (K.length : Int) := by omega
      refine tyE kC trivial (by show ((r.length + 1 + 1 : Nat) : Int) + 38 ≤ _; omega) (fun _ _ _ e => e) (fun k1 T1 q1 f1 => ?_)
      refine tySH o5 (fE_va q1) (by decide) (by decide) (by decide) (by decide) t0 (by omega) (by show ((r.length + 1 : Nat) : Int) + 1 ≤ _; omega) (fun T2 f2 => ?_)
      refine tyDP d0 d1 ok (by show ((r.length : Nat) : Int) + 1 ≤ _; omega) (fun T3 f3 => ?_)
      exact hr _ _ _ _ ⟨fun e => absurd e c, fun _ => ⟨⟨4, ⟨by decide, by decide⟩, rfl⟩, rfl, rfl⟩⟩ d0 d1 ok (by omega)
    · have hk2 := hk (by omega)
      refine sp_deeperN h0 d0 d1 ⟨fun e => absurd rfl e, fun _ => ⟨Or.inl rfl, hq _ _ (pR.no h0 t0 t1)⟩⟩ (fun v s1 h1 a1 b1 c1 => ⟨fun _ => ?_, fun e => absurd e (by decide)⟩)
      refine sp_goalM h1 (by show (r.length : Nat) < 9000; omega) _ _ _ _ (fun s2 h2 a2 b2 c2 => ?_)
      refine sp_goalM h2 (by show (r.length + 1 : Nat) < 9000; omega) _ _ _ _ (fun s3 h3 a3 b3 c3 => ?_)
      unfold wr_primary_241
      refine ⟨⟨by omega, by omega⟩, Or.inr rfl, ?_⟩
      obtain ⟨s5, es, h5, a5, b5, c5⟩ := h3.at1
      rw [es]
      refine hq _ _ (pR.ok h5 (d := zv s 44 + 1) (t := zv s 43 + 1) (by omega) (by omega) (by omega) (by omega) (by omega) (by omega) (ok.mono (by omega)) (by show (N : Int) + (0 + (0 + pPots r)) ≤ _; omega) (by show 200 * (zv s0 8 - (zv s 43 + 1)) + (22 + (1 + pWgts r)) < _; omega) ?_)
      refine tyE kE trivial (by show ((r.length + 1 : Nat) : Int) + 30 ≤ _; omega) (fun _ _ _ e => e) (fun k1 T1 q1 f1 => ?_)
      refine ⟨fun _ => ⟨⟨K, k1, rfl, q1⟩, d0, d1, ok, t0, by show zv s 43 ≤ 12000; omega⟩, (by show ((r.length : Nat) : Int) + 8 ≤ _; omega), fun K2 D2 S2 T2 e2 g1 g2 g3 g4 => ?_⟩
      obtain ⟨rfl, rfl, rfl⟩ := e2.1 rfl
      exact hr _ _ _ _ ⟨fun e => absurd e c, fun _ => ⟨⟨k1, q1, rfl⟩, rfl, rfl⟩⟩ d0 d1 ok (by omega)
    · have hk2 := hk (by omega)
      have h3 := hK (zv s 43).toNat (by omega) (by omega)
      rw [o4.2.2.2]
      exact h3
  · obtain ⟨⟨B, k1, rfl, q1⟩, z0, z6, zo, tk1, tk2⟩ := pre c
    have z0' : 0 ≤ z := z0
    have z6' : z ≤ 60 := z6
    have tk1' : 0 ≤ y := tk1
    have tk2' : y ≤ 12000 := tk2
    obtain ⟨p1, p2, p3, p4, p5, p6⟩ := h0.pre
    have e2 : [k1].length = 1 := rfl
    rw [e2] at p2 p3 p4 p5
    have i0 := p4 B.length (by omega)
    have eR : (zv s 37 - 1).toNat = B.length := by omega
    rw [eR]
    have G : ∀ s1, pM s0 s1 r S (B ++ [k1]) N → zv s1 43 = zv s 43 → zv s1 44 = z → wr_take s1 13 (fun r60 s61 => (r60 = 0 ∨ r60 = 1) ∧ Q r60 s61) := fun s1 h1 a1 b1 => by
      refine sp_takeN h1 (by omega) (by omega) (by decide) ⟨Or.inl rfl, hq _ _ (pR.no h1 (by omega) (by omega))⟩ (fun v1 v2 s3 h3 a3 b3 c3 => ⟨Or.inr rfl, ?_⟩)
      refine hq _ _ (pR.ok h3 (d := z) (t := zv s 43 + 1) (by omega) (by omega) (by omega) (by omega) (by omega) (by omega) zo (by show (N : Int) + pPots r ≤ _; omega) (by show 200 * (zv s0 8 - (zv s 43 + 1)) + pWgts r < _; omega) ?_)
      exact hr _ _ _ _ ⟨fun _ => ⟨rfl, rfl, rfl⟩, fun e => absurd c e⟩ z0 z6 zo (by omega)
    have h35 := h0.putn 35 (za s 36 B.length).toNat (znz 1) (Or.inr (Or.inr (Or.inr (Or.inl rfl))))
    exact ⟨by omega, by omega, by omega, by omega, by omega, by omega, fun _ => G _ (h35.put 44 z (Or.inr rfl)) rfl rfl, fun _ => ⟨by omega, by omega, G _ ((h35.putn 34 (za s 36 B.length).toNat y (Or.inr (Or.inr (Or.inr (Or.inr (Or.inr ⟨rfl, tk1, tk2⟩)))))).put 44 z (Or.inr rfl)) rfl rfl⟩⟩
theorem st_E {s0 s : zS} {g x y z : Int} {r : List pG} {S K : List Int} {N : Nat} {M : Int} (h1 : 28 ≤ g) (h2 : g ≤ 40) (hx : pX s0 s (g, x, y, z) r S K N M) {Q : Int → zS → Prop} (hq : ∀ e s', pR s0 M e s' → Q e s') : wr_reachE s g x y z Q := by
  have hg : g = 28 ∨ g = 29 ∨ g = 30 ∨ g = 31 ∨ g = 32 ∨ g = 33 ∨ g = 34 ∨ g = 35 ∨ g = 36 ∨ g = 37 ∨ g = 38 ∨ g = 39 ∨ g = 40 := by omega
  rcases hg with rfl | rfl | rfl | rfl | rfl | rfl | rfl | rfl | rfl | rfl | rfl | rfl | rfl
  · exact st_28 hx hq
  · exact st_29 hx hq
  · exact st_30 hx hq
  · exact st_31 hx hq
  · exact st_32 hx hq
  · exact st_33 hx hq
  · exact st_34 hx hq
  · exact st_35 hx hq
  · exact st_36 hx hq
  · exact st_37 hx hq
  · exact st_38 hx hq
  · exact st_39 hx hq
  · exact st_40 hx hq
