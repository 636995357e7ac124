/-! THE RUN: EXPRESSIONS -/
section RUN
variable {s4 s1 : zS} {kids : Nat → List Nat} {up sz : Nat → Nat} {root N : Nat}
theorem xOk.es {F : List Nat} {R : List xT} : ∀ (ks : List Nat) (v : Nat), (∀ c ∈ ks, xI s4 s1 kids F c ∧ kE (za s4 25 c) ∧ v + (ks.length - 1) + R.length + sz c ≤ xB F) → xOk s4 s1 kids up sz root N R (v + ks.length) F → xOk s4 s1 kids up sz root N (eTs ks ++ R) v F
  | [], v, _, o => o
  | c :: ks, v, h, o => by
    obtain ⟨h1, h2, h3⟩ := h c (List.mem_cons_self ..)
    have e4 : (c :: ks).length = ks.length + 1 := rfl
    rw [e4] at o h3
    refine ⟨v + 1, F, ⟨rfl, rfl, h1, h2, ?_⟩, xOk.es ks (v + 1) (fun d hd => ?_) (by rw [show v + 1 + ks.length = v + (ks.length + 1) by omega]; exact o)⟩
    · show v + (eTs ks ++ R).length + sz c ≤ xB F
      rw [List.length_append, eTs_l]
      omega
    · obtain ⟨g1, g2, g3⟩ := h d (List.mem_cons_of_mem _ hd)
      rw [e4] at g3
      have : 1 ≤ ks.length := List.length_pos_of_mem hd
      exact ⟨g1, g2, by omega⟩
theorem xW_es (ks : List Nat) : xW kids up sz (eTs ks) = 70000 * (ks.map sz).sum := by
  induction ks with
  | nil => rfl
  | cons a ks ih =>
    show 70000 * sz a + xW kids up sz (eTs ks) = _
    rw [ih, List.map_cons, List.sum_cons]
    omega
theorem xW_ap (A B : List xT) : xW kids up sz (A ++ B) = xW kids up sz A + xW kids up sz B := by
  unfold xW
  rw [List.map_append, List.sum_append]
/-- kids, each with room for those behind it -/
theorem len_in : ∀ {l : List Nat} {c : Nat}, c ∈ l → (∀ x ∈ l, 1 ≤ sz x) → sz c + (l.length - 1) ≤ (l.map sz).sum
  | a :: l, c, hc, h => by
    have e4 : (a :: l).length = l.length + 1 := rfl
    rw [List.map_cons, List.sum_cons, e4]
    have ha := h a (List.mem_cons_self ..)
    rcases List.mem_cons.mp hc with rfl | hc
    · have : ∀ l : List Nat, (∀ x ∈ l, 1 ≤ sz x) → l.length ≤ (l.map sz).sum := by
        intro l
        induction l with
        | nil => intro _; exact Nat.le_refl _
        | cons b l ih =>
          intro h
          have h1 := h b (List.mem_cons_self ..)
          have h2 := ih (fun x hx => h x (List.mem_cons_of_mem _ hx))
          rw [List.map_cons, List.sum_cons]
          show l.length + 1 ≤ _
          omega
      have := this l (fun x hx => h x (List.mem_cons_of_mem _ hx))
      omega
    · have := len_in hc (fun x hx => h x (List.mem_cons_of_mem _ hx))
      have : 1 ≤ l.length := List.length_pos_of_mem hc
      omega
theorem xP.szk (p : xP s4 s1 kids up sz root N) {n : Nat} (hn : n < N) : sz n = 1 + ((kids n).map sz).sum ∧ ∀ c ∈ kids n, c < N ∧ up c = n ∧ 1 ≤ sz c ∧ sz c + ((kids n).length - 1) ≤ ((kids n).map sz).sum := by
  have h1 : ∀ c ∈ kids n, 1 ≤ sz c := fun c hc => by
    have := p.h.ss c (p.h.kd n hn c hc).1
    omega
  exact ⟨p.h.ss n hn, fun c hc => ⟨(p.h.kd n hn c hc).1, (p.h.kd n hn c hc).2.1, h1 c hc, len_in hc h1⟩⟩
/-- what a task for an expression finds -/
theorem xSt.e (p : xP s4 s1 kids up sz root N) {s : zS} {x : Nat} {a : Int} {L : List xT} {v : Nat} {F : List Nat} (h : xSt s4 s1 kids up sz root N s ((1, x, a) :: L) v F) {Q : zS → Prop} (hq : xBs s4 s1 s F → xI s4 s1 kids F x → x < N → N ≤ 2700 → rch kids root x → kE (za s4 25 x) → v + L.length + sz x ≤ xB F → xB F ≤ 270000 → 1 ≤ sz x → xOk s4 s1 kids up sz root N L (v + 1) F → ∀ s2, xBs s4 s1 s2 F → xTk s2 L → zSm s s2 [] [87] → zv s2 91 = (v : Nat) → za s2 25 x = za s4 25 x → wr_evaluate s2 x Q) : wr_doNext s Q := by
  obtain ⟨b, k, hv, v', F', ⟨rfl, rfl, g, hE, hB⟩, o⟩ := h.op
  obtain ⟨xN, xr, -⟩ := xI.n p g
  have hN := p.hN
  have hb := xB.le b.2.2.1
  have z1 : 1 ≤ sz x := by have := p.h.ss x xN; omega
  refine dn_1 k (by omega) (fun s2 k2 f2 => ?_)
  have b2 := b.sm f2 rfl rfl rfl
  exact hq b g xN hN xr hE hB hb z1 o s2 b2 k2 f2 (by rw [f2.v 91 rfl]; exact hv) (b2.1.k x)
/-- signs: the operands' tasks, the sign's below them -/
theorem st_sg (p : xP s4 s1 kids up sz root N) {s : zS} {x : Nat} {a : Int} {L : List xT} {v : Nat} {F : List Nat} (h : xSt s4 s1 kids up sz root N s ((1, x, a) :: L) v F) (hk : za s4 25 x = 7 ∨ za s4 25 x = 9 ∨ za s4 25 x = 10) : wr_doNext s (xPost s4 s1 kids up sz root N (xMu kids up sz s ((1, x, a) :: L))) := by
  have b := h.op.1
  refine h.e p (fun _ g xN hN xr hE hB hb z1 o s2 b2 k2 f2 hv2 e25 => ?_)
  obtain ⟨zx, zk⟩ := p.szk xN
  have hkr : kr (za s4 25) kids x = kids x := kr_eq (by rcases hk with q | q | q <;> rw [q] <;> rfl)
  have sh : (∃ c, kids x = [c] ∧ kE (za s4 25 c)) ∧ ¬ za s4 25 x = 9 ∨ za s4 25 x = 9 ∧ ∃ c d, kids x = [c, d] ∧ kE (za s4 25 c) ∧ kE (za s4 25 d) := by
    have hs := p.h.sh x xN
    rcases hk with q | q | q
    · obtain ⟨k1, e1, e2⟩ := hs.e1 (by omega)
      obtain ⟨c, ec, ek⟩ := map1 e1
      exact Or.inl ⟨⟨c, ec, by rw [ek]; exact e2⟩, by omega⟩
    · obtain ⟨k1, k2, e1, e2, e3⟩ := hs.bi q
      obtain ⟨c, l, ec, q1, q2⟩ := List.map_eq_cons_iff.mp e1
      obtain ⟨d, ed, q3⟩ := map1 q2
      exact Or.inr ⟨q, c, d, by rw [ec, ed], by rw [q1]; exact e2, by rw [q3]; exact e3⟩
    · obtain ⟨k1, e1, e2⟩ := hs.e1 (by omega)
      obtain ⟨c, ec, ek⟩ := map1 e1
      exact Or.inl ⟨⟨c, ec, by rw [ek]; exact e2⟩, by omega⟩
  have hkE : ∀ c ∈ kids x, kE (za s4 25 c) := fun c hc => by
    rcases sh with ⟨⟨d, e, q⟩, -⟩ | ⟨-, d, d2, e, q, q2⟩
    · rw [e] at hc
      rw [List.mem_singleton.mp hc]
      exact q
    · rw [e] at hc
      rcases List.mem_cons.mp hc with rfl | hc
      · exact q
      · rw [List.mem_singleton.mp hc]
        exact q2
  have hl : (kids x).length = 1 ∧ ¬ za s4 25 x = 9 ∨ (kids x).length = 2 ∧ za s4 25 x = 9 := by
    rcases sh with ⟨⟨d, e, q⟩, q9⟩ | ⟨q9, d, d2, e, q, q2⟩
    · exact Or.inl ⟨by rw [e]; rfl, q9⟩
    · exact Or.inr ⟨by rw [e]; rfl, q9⟩
  have hlen : (kids x).length ≤ ((kids x).map sz).sum := by
    rcases sh with ⟨⟨d, e, q⟩, q9⟩ | ⟨q9, d, d2, e, q, q2⟩
    · have := zk d (by rw [e]; exact List.mem_cons_self ..); omega
    · have := zk d (by rw [e]; exact List.mem_cons_self ..); omega
  have go : ∀ (t : Nat) (T : Int), T = t → xEn s4 s1 kids up sz root N t x 0 L (v + (kids x).length) F (v + 1) F → xw kids up sz t x 0 = 1 → wr_todoTask s2 T x 0 (fun s39 => (0 ≤ (x : Int)) ∧ ((x : Int) < 26000) ∧ ∃ n, wr_evaluate_327 (xPost s4 s1 kids up sz root N (xMu kids up sz s ((1, x, a) :: L))) n s39 (zv s39 87) (za s39 27 x)) := fun t T hT en hw => by
    refine sp_todo k2 (by omega) t x 0 hT rfl (fun s3 k3 f3 => ⟨by omega, by omega, (kids x).length + 1, ?_⟩)
    have b3 := b2.sm f3 rfl rfl rfl
    have hc := p.h.ch x xN
    rw [k3.2, b3.1.1 27 (by decide) x]
    refine sp_ev327 (s1 := s1) (l := (t, x, 0) :: L) (kids x) _ _ s3 [] (by omega) b3.1 hc (fun c hc => by have := (zk c hc).1; omega) k3 (by show 0 + (L.length + 1) + _ < _; omega) (fun s' f' k' => ?_)
    refine xPost.in (P := eTs (kids x) ++ [(t, x, 0)]) b ((zSm.rf.tr f2 rfl rfl : zSm s s2 [88, 89, 90] [87]).tr f3 rfl rfl |>.tr f' rfl rfl) rfl rfl rfl ?_ (v' := v) (by rw [f'.v 91 rfl, f3.v 91 rfl]; exact hv2) ?_ ?_
    · rw [List.append_assoc]
      exact k'
    · rw [List.append_assoc]
      refine xOk.es (kids x) v (fun c hc => ⟨g.kid (by rw [hkr]; exact hc), hkE c hc, ?_⟩) ⟨v + 1, F, en, o⟩
      have := zk c hc
      show v + ((kids x).length - 1) + (L.length + 1) + sz c ≤ xB F
      omega
    · rw [xW_ap, xW_es]
      show 70000 * _ + (xw kids up sz t x 0 + 0) < 70000 * sz x
      rw [hw]
      omega
  rcases hk with hk | hk | hk
  · exact ev_7 (by omega) (by rw [e25]; exact hk) (go 4 4 rfl ⟨rfl, by omega, by omega, by omega⟩ rfl)
  · exact ev_9 (by omega) (by rw [e25]; exact hk) (go 2 2 rfl ⟨rfl, by omega, by omega, g, by omega⟩ rfl)
  · exact ev_10 (by omega) (by rw [e25]; exact hk) (go 3 3 rfl ⟨rfl, by omega, by omega, g, by omega⟩ rfl)
end RUN
