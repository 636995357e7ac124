/-! THE RUN: WHICH EXPRESSION, WHICH COMMAND -/
theorem ev_1 {s : zS} {x : Nat} (hx : x < 26000) (hk : za s 25 x = 1) {Q : zS → Prop} (h1 : wr_wordOf s ((x : Nat) : Int) (fun r158 s159 => ((0 ≤ r158 → (0 ≤ r158) ∧ (r158 < 65536) ∧ wr_push s159 (za s159 98 (Int.toNat r158)) (fun s171 => Q s171)) ∧ (¬ 0 ≤ r158 → (0 ≤ ((x : Nat) : Int)) ∧ (((x : Nat) : Int) < 26000) ∧ wr_push s159 (za s159 31 x) (fun s182 => Q s182))))) : wr_evaluate s x Q := by
  unfold wr_evaluate
  rw [Int.toNat_natCast, hk]
  repeat' (first | (with_reducible exact h1) | (with_reducible apply And.intro) | omega | (intro c; exact absurd c (by decide)) | (intro c; exact absurd rfl c) | (with_reducible intro _) | fail)
theorem ev_2 {s : zS} {x : Nat} (hx : x < 26000) (hk : za s 25 x = 2) {Q : zS → Prop} (h1 : (0 ≤ ((x : Nat) : Int)) ∧ (((x : Nat) : Int) < 26000) ∧ wr_push s (za s 29 x) (fun s204 => Q s204)) : wr_evaluate s x Q := by
  unfold wr_evaluate
  rw [Int.toNat_natCast, hk]
  repeat' (first | (with_reducible exact h1) | (with_reducible apply And.intro) | omega | (intro c; exact absurd c (by decide)) | (intro c; exact absurd rfl c) | (with_reducible intro _) | fail)
theorem ev_3 {s : zS} {x : Nat} (hx : x < 26000) (hk : za s 25 x = 3) {Q : zS → Prop} (h1 : (0 ≤ ((x : Nat) : Int)) ∧ (((x : Nat) : Int) < 26000) ∧ wr_push s (za s 31 x) (fun s14 => Q s14)) : wr_evaluate s x Q := by
  unfold wr_evaluate
  rw [Int.toNat_natCast, hk]
  repeat' (first | (with_reducible exact h1) | (with_reducible apply And.intro) | omega | (intro c; exact absurd c (by decide)) | (intro c; exact absurd rfl c) | (with_reducible intro _) | fail)
theorem ev_4 {s : zS} {x : Nat} (hx : x < 26000) (hk : za s 25 x = 4) {Q : zS → Prop} (h1 : wr_todoTask s 8 ((x : Nat) : Int) (zv s 91) (fun s142 => (0 ≤ ((x : Nat) : Int)) ∧ (((x : Nat) : Int) < 26000) ∧ wr_todoTask s142 10 (za s142 27 x) 0 (fun s152 => Q s152))) : wr_evaluate s x Q := by
  unfold wr_evaluate
  rw [Int.toNat_natCast, hk]
  repeat' (first | (with_reducible exact h1) | (with_reducible apply And.intro) | omega | (intro c; exact absurd c (by decide)) | (intro c; exact absurd rfl c) | (with_reducible intro _) | fail)
theorem ev_5 {s : zS} {x : Nat} (hx : x < 26000) (hk : za s 25 x = 5) {Q : zS → Prop} (h1 : (0 ≤ ((x : Nat) : Int)) ∧ (((x : Nat) : Int) < 26000) ∧ wr_push s (za s 31 x) (fun s193 => Q s193)) : wr_evaluate s x Q := by
  unfold wr_evaluate
  rw [Int.toNat_natCast, hk]
  repeat' (first | (with_reducible exact h1) | (with_reducible apply And.intro) | omega | (intro c; exact absurd c (by decide)) | (intro c; exact absurd rfl c) | (with_reducible intro _) | fail)
theorem ev_6 {s : zS} {x : Nat} (hx : x < 26000) (hk : za s 25 x = 6) {Q : zS → Prop} (h1 : (0 ≤ ((x : Nat) : Int)) ∧ (((x : Nat) : Int) < 26000) ∧ (0 ≤ (za s 27 x)) ∧ ((za s 27 x) < 26000) ∧ ∃ n, wr_evaluate_230 Q  n s ((x : Nat) : Int) (zv s 87) 0 (za s 28 (Int.toNat (za s 27 x)))) : wr_evaluate s x Q := by
  unfold wr_evaluate
  rw [Int.toNat_natCast, hk]
  repeat' (first | (with_reducible exact h1) | (with_reducible apply And.intro) | omega | (intro c; exact absurd c (by decide)) | (intro c; exact absurd rfl c) | (with_reducible intro _) | fail)
theorem ev_8 {s : zS} {x : Nat} (hx : x < 26000) (hk : za s 25 x = 8) {Q : zS → Prop} (h1 : (0 ≤ ((x : Nat) : Int)) ∧ (((x : Nat) : Int) < 26000) ∧ wr_address s (za s 27 x) (fun s135 => Q s135)) : wr_evaluate s x Q := by
  unfold wr_evaluate
  rw [Int.toNat_natCast, hk]
  repeat' (first | (with_reducible exact h1) | (with_reducible apply And.intro) | omega | (intro c; exact absurd c (by decide)) | (intro c; exact absurd rfl c) | (with_reducible intro _) | fail)
theorem ev_9 {s : zS} {x : Nat} (hx : x < 26000) (hk : za s 25 x = 9) {Q : zS → Prop} (h1 : wr_todoTask s 2 ((x : Nat) : Int) 0 (fun s65 => (0 ≤ ((x : Nat) : Int)) ∧ (((x : Nat) : Int) < 26000) ∧ ∃ n, wr_evaluate_327 Q  n s65 (zv s65 87) (za s65 27 x))) : wr_evaluate s x Q := by
  unfold wr_evaluate
  rw [Int.toNat_natCast, hk]
  repeat' (first | (with_reducible exact h1) | (with_reducible apply And.intro) | omega | (intro c; exact absurd c (by decide)) | (intro c; exact absurd rfl c) | (with_reducible intro _) | fail)
theorem ev_10 {s : zS} {x : Nat} (hx : x < 26000) (hk : za s 25 x = 10) {Q : zS → Prop} (h1 : wr_todoTask s 3 ((x : Nat) : Int) 0 (fun s52 => (0 ≤ ((x : Nat) : Int)) ∧ (((x : Nat) : Int) < 26000) ∧ ∃ n, wr_evaluate_327 Q  n s52 (zv s52 87) (za s52 27 x))) : wr_evaluate s x Q := by
  unfold wr_evaluate
  rw [Int.toNat_natCast, hk]
  repeat' (first | (with_reducible exact h1) | (with_reducible apply And.intro) | omega | (intro c; exact absurd c (by decide)) | (intro c; exact absurd rfl c) | (with_reducible intro _) | fail)
theorem ev_11 {s : zS} {x : Nat} (hx : x < 26000) (hk : za s 25 x = 11) {Q : zS → Prop} (h1 : (0 ≤ ((x : Nat) : Int)) ∧ (((x : Nat) : Int) < 26000) ∧ (0 ≤ (za s 27 x)) ∧ ((za s 27 x) < 26000) ∧ wr_todoTask s 6 (za s 28 (Int.toNat (za s 27 x))) 0 (fun s97 => (0 ≤ ((x : Nat) : Int)) ∧ (((x : Nat) : Int) < 26000) ∧ wr_todoTask s97 1 (za s97 27 x) 0 (fun s107 => Q s107))) : wr_evaluate s x Q := by
  unfold wr_evaluate
  rw [Int.toNat_natCast, hk]
  repeat' (first | (with_reducible exact h1) | (with_reducible apply And.intro) | omega | (intro c; exact absurd c (by decide)) | (intro c; exact absurd rfl c) | (with_reducible intro _) | fail)
theorem ev_12 {s : zS} {x : Nat} (hx : x < 26000) (hk : za s 25 x = 12) {Q : zS → Prop} (h1 : wr_todoTask s 5 ((x : Nat) : Int) 0 (fun s114 => (0 ≤ ((x : Nat) : Int)) ∧ (((x : Nat) : Int) < 26000) ∧ wr_todoTask s114 1 (za s114 27 x) 0 (fun s124 => Q s124))) : wr_evaluate s x Q := by
  unfold wr_evaluate
  rw [Int.toNat_natCast, hk]
  repeat' (first | (with_reducible exact h1) | (with_reducible apply And.intro) | omega | (intro c; exact absurd c (by decide)) | (intro c; exact absurd rfl c) | (with_reducible intro _) | fail)
theorem ev_7 {s : zS} {x : Nat} (hx : x < 26000) (hk : za s 25 x = 7) {Q : zS → Prop} (h1 : wr_todoTask s 4 ((x : Nat) : Int) 0 (fun s39 => (0 ≤ ((x : Nat) : Int)) ∧ (((x : Nat) : Int) < 26000) ∧ ∃ n, wr_evaluate_327 Q  n s39 (zv s39 87) (za s39 27 x))) : wr_evaluate s x Q := by
  unfold wr_evaluate
  rw [Int.toNat_natCast, hk]
  repeat' (first | (with_reducible exact h1) | (with_reducible apply And.intro) | omega | (intro c; exact absurd c (by decide)) | (intro c; exact absurd rfl c) | (with_reducible intro _) | fail)
section RUN
variable {s4 s1 : zS} {kids : Nat → List Nat} {up sz : Nat → Nat} {root N : Nat}
theorem xS.k {s : zS} (h : xS s4 s1 s) (x : Nat) : za s 25 x = za s4 25 x := h.1 25 (Or.inl rfl) x
theorem xS.c1 (p : xP s4 s1 kids up sz root N) {s : zS} (h : xS s4 s1 s) {n a : Nat} {l : List Nat} (hn : n < N) (hk : kids n = a :: l) : za s 27 n = (a : Int) := by
  have := p.h.ch n hn
  rw [hk] at this
  rw [h.1 27 (by decide) n]
  exact this.1
theorem xS.nx (p : xP s4 s1 kids up sz root N) {s : zS} (h : xS s4 s1 s) : ∀ (l : List Nat) {c : Int} (pre : List Nat) {a b : Nat} {r : List Nat}, fCh s4 c l → l = pre ++ a :: b :: r → za s 28 a = (b : Int)
  | [], _, pre, _, _, _, _, e => by cases pre <;> exact absurd e (by simp)
  | k :: l, c, [], a, b, r, g, e => by
    obtain ⟨rfl, e2⟩ := List.cons.inj e
    rw [e2] at g
    rw [h.1 28 (by decide) _]
    exact g.2.1
  | k :: l, c, q :: pre, a, b, r, g, e => xS.nx p h l pre g.2 (List.cons.inj e).2
theorem xS.ls (p : xP s4 s1 kids up sz root N) {s : zS} (h : xS s4 s1 s) : ∀ (l : List Nat) {c : Int} (pre : List Nat) {a : Nat}, fCh s4 c l → l = pre ++ [a] → za s 28 a = -1
  | [], _, pre, _, _, e => by cases pre <;> exact absurd e (by simp)
  | k :: l, c, [], a, g, e => by
    obtain ⟨rfl, e2⟩ := List.cons.inj e
    rw [e2] at g
    rw [h.1 28 (by decide) _]
    exact g.2
  | k :: l, c, q :: pre, a, g, e => xS.ls p h l pre g.2 (List.cons.inj e).2
theorem sp_wordOf (p : xP s4 s1 kids up sz root N) {s : zS} {F : List Nat} (b : xBs s4 s1 s F) {x : Nat} (g : xI s4 s1 kids F x) (hk : za s4 25 x = 1) {Q : Int → zS → Prop} (hq : ∀ r, r < 65536 → (za s1 30 x = 1 ∨ za s1 30 x = 3 ∨ za s1 30 x = 4 → 0 ≤ r) → Q r s) : wr_wordOf s x Q := by
  obtain ⟨xN, xr, r, F1, rfl, hr, fa, h32, h2⟩ := xI.n p g
  have hN := p.hN
  have w0 := p.w0
  have e30 : za s 30 x = za s1 30 x := b.1.2.1 30 (by decide) x
  have e31 : ∀ y, za s 31 y = za s1 31 y := fun y => b.1.2.1 31 (by decide) y
  obtain ⟨b1, b2, b3, b4, -⟩ := b.2.2.2.1
  unfold wr_wordOf
  rw [Int.toNat_natCast, e30, e31]
  refine ⟨by omega, by omega, fun c1 => ⟨by omega, by omega, fun c3 => ⟨by omega, by omega, fun c4 => hq _ (by omega) (fun q => absurd q (by omega)), fun c4 => ?_⟩, fun c3 => ?_⟩, fun c1 => ?_⟩
  · rcases fa.1 hk with q | q | q | q | q
    · omega
    · omega
    · omega
    · obtain ⟨q1, q2, q3⟩ := q
      unfold rng at q3
      exact ⟨by omega, by omega, ⟨by omega, by omega⟩, hq _ (by omega) (fun _ => by omega)⟩
    · omega
  · rcases fa.1 hk with q | q | q | q | q
    · omega
    · omega
    · obtain ⟨q1, c, q2, q3, q4⟩ := q
      have hcN := p.h.lt q3
      have hc : 0 ≤ za s1 31 c ∧ za s1 31 c ≤ 1600 := by
        rcases q4 with ⟨k, w⟩ | ⟨k, d, hd, w, kd⟩
        · obtain ⟨M, fa2⟩ := p.wr c w
          obtain ⟨r2, z1, z2, z3, z4, z5⟩ := (fa2 c (rin.rt _ _ _)).2.2.2.2.2.2.2.2.2.2.2.1 k
          exact ⟨z4, by omega⟩
        · have hdN : d < N := by
            obtain ⟨M, fa2⟩ := p.wr d w
            exact (w (fun y => rch kids root y ∧ y < N) ⟨rch.rt kids root, p.h.lt (rch.rt kids root)⟩ (fun u y hu hy => ⟨hu.1.kid (p.h.krk hu.2 hy), (p.h.kd u hu.2 y (p.h.krk hu.2 hy)).1⟩) (fun u hu h54 => by
              have hs := p.h.sh u hu.2
              rw [h54] at hs
              obtain ⟨ra, rc, e1, -⟩ := hs.ro rfl
              have hne : ¬ kids u = [] := fun e2 => by rw [e2] at e1; simp at e1
              have hl := lk_mem hne
              exact ⟨hu.1.kid hl, (p.h.kd u hu.2 _ hl).1⟩)).2
          have wc : wrs (za s4 25) kids root c := w.kid (by rw [kr_eq (by rw [kd]; rfl)]; exact hd)
          obtain ⟨M, fa2⟩ := p.wr c wc
          have := (fa2 c (rin.rt _ _ _)).2.2.2.2.2.2.2.2.2.2.2.2.1 k (by rw [(p.h.kd d hdN c hd).2.1]; exact kd)
          omega
      rw [q2, Int.toNat_natCast, e31]
      exact ⟨by omega, by omega, by omega, by omega, hq _ (by omega) (fun _ => by omega)⟩
    · omega
    · omega
  · rcases fa.1 hk with q | q | q | q | q <;> first | exact ⟨by omega, by omega, hq _ (by omega) (fun _ => by omega)⟩ | omega
/-- names, numbers, strings, tables -/
theorem st_leaf (p : xP s4 s1 kids up sz root N) {s : zS} {x : Nat} {a : Int} {L : List xT} {v : Nat} {F : List Nat} (h : xSt s4 s1 kids up sz root N s ((1, x, a) :: L) v F) (hk : za s4 25 x = 1 ∨ za s4 25 x = 2 ∨ za s4 25 x = 3 ∨ za s4 25 x = 5) : wr_doNext s (xPost s4 s1 kids up sz root N (xMu kids up sz s ((1, x, a) :: L))) := by
  obtain ⟨b, k, hv, v', F', ⟨rfl, rfl, g, hE, hB⟩, o⟩ := h.op
  have xN := (xI.n p g).1
  have hN := p.hN
  have hb := xB.le b.2.2.1
  have z1 : 1 ≤ sz x := by have := p.h.ss x xN; omega
  refine dn_1 k (by omega) (fun s2 k2 f2 => ?_)
  have b2 := b.sm f2 rfl rfl rfl
  have hv2 : zv s2 91 = (v : Nat) := by rw [f2.v 91 rfl]; exact hv
  have P : ∀ r, wr_push s2 r (xPost s4 s1 kids up sz root N (xMu kids up sz s ((1, x, a) :: L))) := fun r => by
    refine sp_push s2 r hv2 (by omega) (fun s3 f3 h3 => ?_)
    exact xPost.in (P := []) b ((zSm.rf.tr f2 rfl rfl : zSm s s2 [92] [87, 91]).tr f3 rfl rfl) rfl rfl rfl (k2.sm f3 rfl rfl) h3 o (by show (0 : Nat) < 70000 * sz x; omega)
  have e25 : za s2 25 x = za s4 25 x := b2.1.k x
  rcases hk with hk | hk | hk | hk
  · refine ev_1 (by omega) (by rw [e25]; exact hk) ?_
    refine sp_wordOf p b2 g hk (fun r r1 r2 => ⟨fun _ => ⟨by omega, by omega, P _⟩, fun _ => ⟨by omega, by omega, P _⟩⟩)
  · exact ev_2 (by omega) (by rw [e25]; exact hk) ⟨by omega, by omega, P _⟩
  · exact ev_3 (by omega) (by rw [e25]; exact hk) ⟨by omega, by omega, P _⟩
  · exact ev_5 (by omega) (by rw [e25]; exact hk) ⟨by omega, by omega, P _⟩
end RUN
