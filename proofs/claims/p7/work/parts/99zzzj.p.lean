/-! THE RUN: A CALL'S EXPRESSIONS -/
section RUN
variable {s4 s1 : zS} {kids : Nat → List Nat} {up sz : Nat → Nat} {root N : Nat}
theorem sp_ev230 {l : List xT} {Q : zS → Prop} {x c0 : Nat} (hx : x < 26000) (h0 : c0 < 26000) (e0 : za s4 27 x = (c0 : Int)) : ∀ (ks : List Nat) (c : Int) (m n : Nat) (s : zS) (A : List xT), ks.length < m → n + ks.length ≤ 100000 → xS s4 s1 s → fCh s4 c ks → (∀ y ∈ ks, y < 26000) → xTk s (A ++ l) → A.length + l.length + ks.length + 2 < 620000 → (∀ s', zSm s s' [88, 89, 90] [87] → xTk s' (A.reverse ++ (eTs ks ++ ((1, c0, 0) :: (7, x, ((n + ks.length : Nat) : Int)) :: l))) → Q s') → wr_evaluate_230 Q m s x (l.length : Nat) (n : Nat) c := by
  intro ks
  induction ks with
  | nil =>
    intro c m n s A hm hn hS hc _ k hl hq
    obtain ⟨m, rfl⟩ : ∃ q, m = q + 1 := ⟨m - 1, by omega⟩
    have hc1 : c = -1 := hc
    have e4 : ([] : List Nat).length = 0 := rfl
    rw [e4] at hl hq
    subst hc1
    unfold wr_evaluate_230
    unfold wr_evaluate_230B
    rw [Int.toNat_natCast, hS.1 27 (by decide) x, e0]
    refine ⟨fun _ => ⟨by omega, by omega, sp_todo k (by rw [List.length_append]; omega) 1 c0 0 rfl rfl (fun s2 k2 f2 => sp_todo k2 (by show (A ++ l).length + 1 < 620000; rw [List.length_append]; omega) 7 x _ rfl rfl (fun s3 k3 f3 => ?_))⟩, fun q => absurd (by omega) q⟩
    refine sp_turnX (A := (7, x, (n : Int)) :: (1, c0, 0) :: A) (l := l) k3 (by show (A ++ l).length + 1 + 1 ≤ 620000; rw [List.length_append]; omega) rfl (fun s' k' f' => hq s' ((f2.tr f3 rfl rfl).tr f' rfl rfl) ?_)
    rw [List.reverse_cons, List.reverse_cons, List.append_assoc, List.append_assoc] at k'
    exact k'
  | cons a ks ih =>
    intro c m n s A hm hn hS hc hk k hl hq
    have e4 : (a :: ks).length = ks.length + 1 := rfl
    rw [e4] at hm hl hn hq
    obtain ⟨m, rfl⟩ : ∃ q, m = q + 1 := ⟨m - 1, by omega⟩
    obtain ⟨rfl, h2⟩ := hc
    have ha := hk a (List.mem_cons_self ..)
    unfold wr_evaluate_230
    unfold wr_evaluate_230B
    refine ⟨fun q => absurd q (by omega), fun _ => sp_todo k (by rw [List.length_append]; omega) 1 a 0 rfl rfl (fun s' k2 f2 => ⟨by omega, by omega, ⟨by omega, by omega⟩, ?_⟩)⟩
    have hS2 := hS.sm f2 rfl rfl
    rw [Int.toNat_natCast, hS2.1 28 (by decide) a, show (n : Int) + 1 = ((n + 1 : Nat) : Int) by omega]
    refine ih _ m (n + 1) s' ((1, a, 0) :: A) (by omega) (by omega) hS2 h2 (fun y hy => hk y (List.mem_cons_of_mem _ hy)) k2 (by show A.length + 1 + l.length + ks.length + 2 < 620000; omega) (fun s3 f3 k3 => hq s3 (f2.tr f3 rfl rfl) ?_)
    rw [List.reverse_cons, List.append_assoc, show n + 1 + ks.length = n + (ks.length + 1) by omega] at k3
    exact k3
theorem sum_le1 {f : Nat → Nat} : ∀ l : List Nat, (∀ x ∈ l, 1 ≤ f x) → l.length ≤ (l.map f).sum
  | [], _ => Nat.le_refl _
  | a :: l, h => by
    have e4 : (a :: l).length = l.length + 1 := rfl
    have h1 := h a (List.mem_cons_self ..)
    have h2 := sum_le1 l (fun x hx => h x (List.mem_cons_of_mem _ hx))
    rw [List.map_cons, List.sum_cons, e4]
    omega
theorem st_ca (p : xP s4 s1 kids up sz root N) {s : zS} {x : Nat} {a : Int} {L : List xT} {v : Nat} {F : List Nat} (h : xSt s4 s1 kids up sz root N s ((1, x, a) :: L) v F) (hk : za s4 25 x = 6) : wr_doNext s (xPost s4 s1 kids up sz root N (xMu kids up sz s ((1, x, a) :: L))) := by
  have b := h.op.1
  refine h.e p (fun _ g xN hN xr hE hB hb z1 o s2 b2 k2 f2 hv2 e25 => ?_)
  obtain ⟨zx, zk⟩ := p.szk xN
  have hkr : kr (za s4 25) kids x = kids x := kr_eq (by rw [hk]; rfl)
  obtain ⟨ne, allE⟩ := (p.h.sh x xN).ca hk
  obtain ⟨c0, ks, ek⟩ : ∃ c0 ks, kids x = c0 :: ks := by
    cases e : kids x with
    | nil => exact absurd (by rw [e]; rfl) ne
    | cons c ks => exact ⟨c, ks, rfl⟩
  have hkE : ∀ c ∈ kids x, kE (za s4 25 c) := fun c hc => allE _ (List.mem_map.mpr ⟨c, hc, rfl⟩)
  have m0 : c0 ∈ kids x := by rw [ek]; exact List.mem_cons_self ..
  have mk : ∀ c ∈ ks, c ∈ kids x := fun c hc => by rw [ek]; exact List.mem_cons_of_mem _ hc
  have z0 := zk c0 m0
  have es : ((kids x).map sz).sum = sz c0 + (ks.map sz).sum := by rw [ek, List.map_cons, List.sum_cons]
  have hl : (kids x).length = ks.length + 1 := by rw [ek]; rfl
  have hks : ks.length ≤ (ks.map sz).sum := sum_le1 ks (fun c hc => (zk c (mk c hc)).2.2.1)
  have zN := p.h.szr xr
  have e27 : za s4 27 x = (c0 : Int) := by
    have := p.h.ch x xN
    rw [ek] at this
    exact this.1
  have hch : fCh s4 (za s4 28 c0) ks := by
    have := p.h.ch x xN
    rw [ek] at this
    exact this.2
  have en7 : xEn s4 s1 kids up sz root N 7 x ((ks.length : Nat) : Int) L (v + ks.length + 1) F (v + 1) F := ⟨rfl, by omega, g, hk, by omega, by omega, by omega⟩
  refine ev_6 (by omega) (by rw [e25]; exact hk) ?_
  rw [b2.1.1 27 (by decide) x, e27, Int.toNat_natCast, b2.1.1 28 (by decide) c0, k2.2]
  refine ⟨by omega, by omega, by omega, by omega, ks.length + 1, ?_⟩
  refine sp_ev230 (s4 := s4) (s1 := s1) (l := L) (x := x) (c0 := c0) (by omega) (by omega) e27 ks _ _ 0 s2 [] (by omega) (by omega) b2.1 hch (fun c hc => by have := (zk c (mk c hc)).1; omega) k2 (by show 0 + L.length + _ + 2 < _; omega) (fun s' f' k' => ?_)
  rw [Nat.zero_add] at k'
  refine xPost.in (P := eTs ks ++ [(1, c0, 0), (7, x, ((ks.length : Nat) : Int))]) b ((zSm.rf.tr f2 rfl rfl : zSm s s2 [88, 89, 90] [87]).tr f' rfl rfl) rfl rfl rfl ?_ (v' := v) (by rw [f'.v 91 rfl]; exact hv2) ?_ ?_
  · rw [List.append_assoc]
    exact k'
  · rw [List.append_assoc]
    refine xOk.es ks v (fun c hc => ⟨g.kid (by rw [hkr]; exact mk c hc), hkE c (mk c hc), ?_⟩) ⟨v + ks.length + 1, F, ⟨rfl, rfl, g.kid (by rw [hkr]; exact m0), hkE c0 m0, ?_⟩, v + 1, F, en7, o⟩
    · have h1 : sz c + (ks.length - 1) ≤ (ks.map sz).sum := len_in hc (fun y hy => (zk y (mk y hy)).2.2.1)
      have h2 : 1 ≤ ks.length := List.length_pos_of_mem hc
      show v + (ks.length - 1) + (L.length + 2) + sz c ≤ xB F
      omega
    · show v + ks.length + (L.length + 1) + sz c0 ≤ xB F
      omega
  · have e0 : xW kids up sz [] = 0 := rfl
    have e1 : xw kids up sz 1 c0 0 = 70000 * sz c0 := rfl
    have e2 : xw kids up sz 1 x a = 70000 * sz x := rfl
    have e7 : xw kids up sz 7 x ((ks.length : Nat) : Int) = 65540 := rfl
    rw [xW_ap, xW_es, xW.c, xW.c, e0, e1, e2, e7]
    omega
end RUN
