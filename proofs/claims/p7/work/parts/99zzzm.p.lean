/-! THE RUN: A SWITCH CHOOSES -/
section RUN
variable {s4 s1 : zS} {kids : Nat → List Nat} {up sz : Nat → Nat} {root N : Nat}
/-- nothing, or a part of x -/
def chO (K : Nat → Int) (l : List Nat) (y : Int) : Prop := y = -1 ∨ ∃ c ∈ l, y = (c : Int) ∧ K c = 41
theorem sp_c37 {Q : zS → Prop} {s : zS} {k23 : zS → Int → Int → Int → Int → Int → Prop} {x c : Nat} {x2 : Int} (hS : xS s4 s1 s) {P : Int → Prop} (hc0 : c < 26000) (hP : P (c : Int)) : ∀ (ks : List Nat) (q : Int) (m : Nat) (x3 x4 : Int), ks.length < m → fCh s4 q ks → (∀ y ∈ ks, y < 26000) → P x3 → P x4 → (∀ y3 y4, P y3 → P y4 → k23 s x x2 y3 y4 (za s4 28 c)) → wr_choose_37 Q k23 m s x x2 x3 x4 c q := by
  intro ks
  induction ks with
  | nil =>
    intro q m x3 x4 hm hc hk h3 h4 h
    obtain ⟨m, rfl⟩ : ∃ q, m = q + 1 := ⟨m - 1, by omega⟩
    have hc1 : q = -1 := hc
    subst hc1
    unfold wr_choose_37
    unfold wr_choose_37B
    rw [Int.toNat_natCast, hS.1 28 (by decide) c]
    exact ⟨fun _ => ⟨by omega, by omega, h _ _ h3 h4⟩, fun z => absurd (by omega) z⟩
  | cons a ks ih =>
    intro q m x3 x4 hm hc hk h3 h4 h
    have e4 : (a :: ks).length = ks.length + 1 := rfl
    rw [e4] at hm
    obtain ⟨m, rfl⟩ : ∃ q, m = q + 1 := ⟨m - 1, by omega⟩
    obtain ⟨rfl, h5⟩ := hc
    have ha := hk a (List.mem_cons_self ..)
    have D : ∀ y3, P y3 → wr_choose_72 Q k23 (wr_choose_37 Q k23 m) s x x2 y3 x4 c a := fun y3 p3 => by
      unfold wr_choose_72
      rw [Int.toNat_natCast, hS.1 28 (by decide) a]
      exact ⟨by omega, by omega, fun _ => ⟨by omega, by omega, ih _ m _ _ (by omega) h5 (fun y hy => hk y (List.mem_cons_of_mem _ hy)) p3 h4 h⟩, fun _ => ⟨by omega, by omega, ih _ m _ _ (by omega) h5 (fun y hy => hk y (List.mem_cons_of_mem _ hy)) p3 hP h⟩⟩
    unfold wr_choose_37
    unfold wr_choose_37B
    exact ⟨fun z => absurd z (by omega), fun _ => ⟨by omega, by omega, fun _ => D _ h3, fun _ => ⟨by omega, by omega, fun _ => D _ h3, fun _ => ⟨fun _ => D _ h3, fun _ => D _ hP⟩⟩⟩⟩
theorem sp_c23 {Q : zS → Prop} {s : zS} {x : Nat} {x2 : Int} (hS : xS s4 s1 s) (hch : ∀ n, n < N → fCh s4 (za s4 27 n) (kids n)) (hkd : ∀ n, n < N → ∀ c ∈ kids n, c < N) (hN : N ≤ 26000) {P : Int → Prop} : ∀ (ks : List Nat) (q : Int) (m : Nat) (x3 x4 : Int), ks.length < m → fCh s4 q ks → (∀ y ∈ ks, y < N ∧ P (y : Int)) → P x3 → P x4 → (∀ y, P y → (y < 0 → Q s) ∧ (¬ y < 0 → wr_todoTask s 17 x y Q)) → wr_choose_23 Q m s x x2 x3 x4 q := by
  intro ks
  induction ks with
  | nil =>
    intro q m x3 x4 hm hc hk h3 h4 h
    obtain ⟨m, rfl⟩ : ∃ q, m = q + 1 := ⟨m - 1, by omega⟩
    have hc1 : q = -1 := hc
    subst hc1
    unfold wr_choose_23
    unfold wr_choose_23B
    exact ⟨fun _ => ⟨fun _ => h _ h3, fun _ => h _ h4⟩, fun z => absurd (by omega) z⟩
  | cons a ks ih =>
    intro q m x3 x4 hm hc hk h3 h4 h
    have e4 : (a :: ks).length = ks.length + 1 := rfl
    rw [e4] at hm
    obtain ⟨m, rfl⟩ : ∃ q, m = q + 1 := ⟨m - 1, by omega⟩
    obtain ⟨rfl, h5⟩ := hc
    obtain ⟨ha, hp⟩ := hk a (List.mem_cons_self ..)
    unfold wr_choose_23
    unfold wr_choose_23B
    rw [Int.toNat_natCast, hS.1 27 (by decide) a]
    exact ⟨fun z => absurd z (by omega), fun _ => ⟨by omega, by omega, (kids a).length + 1, sp_c37 hS (P := P) (by omega) hp (kids a) _ _ x3 x4 (by omega) (hch a ha) (fun y hy => by have := hkd a ha y hy; omega) h3 h4 (fun y3 y4 p3 p4 => ih _ m y3 y4 (by omega) h5 (fun y hy => hk y (List.mem_cons_of_mem _ hy)) p3 p4 h)⟩⟩
theorem xs_21 (p : xP s4 s1 kids up sz root N) {s : zS} {x : Nat} {a : Int} {L : List xT} {v : Nat} {F : List Nat} (h : xSt s4 s1 kids up sz root N s ((21, x, a) :: L) v F) : wr_doNext s (xPost s4 s1 kids up sz root N (xMu kids up sz s ((21, x, a) :: L))) := by
  obtain ⟨b, k, hv, w, F', ⟨rfl, rfl, g, hk, hB, hX⟩, o⟩ := h.op
  obtain ⟨xN, xr, -⟩ := xI.n p g
  have hN := p.hN
  have hb := xB.le b.2.2.1
  obtain ⟨zx, zk⟩ := p.szk xN
  obtain ⟨e, r, q1, q2, q3, q4⟩ := (p.h.sh x xN).sw hk
  obtain ⟨c, l, ek, q5, q6⟩ := List.map_eq_cons_iff.mp q1
  have mc : c ∈ kids x := by rw [ek]; exact List.mem_cons_self ..
  have zc := zk c mc
  have hch := p.h.ch x xN
  rw [ek] at hch
  have hch2 : fCh s4 (za s4 28 c) l := hch.2
  refine dn_21 k (by omega) (fun s2 k2 f2 => ?_)
  have b2 := b.sm f2 rfl rfl rfl
  unfold wr_choose
  refine sp_pop s2 (v := w) (by rw [f2.v 91 rfl]; exact hv) (by omega) (fun r1 s3 f3 h3 => ?_)
  have b3 := b2.sm f3 rfl rfl rfl
  have k3 := k2.sm f3 rfl rfl
  have F3 : zSm s s3 [] [87, 91] := (zSm.rf.tr f2 rfl rfl : zSm s s2 [] [87, 91]).tr f3 rfl rfl
  rw [Int.toNat_natCast, b3.1.1 27 (by decide) x, hch.1, Int.toNat_natCast, b3.1.1 28 (by decide) c]
  refine ⟨by omega, by omega, by omega, by omega, l.length + 1, ?_⟩
  refine sp_c23 (kids := kids) b3.1 p.h.ch (fun n hn y hy => (p.h.kd n hn y hy).1) (by omega) (P := chO (za s4 25) (kids x)) l _ _ (-1) (-1) (by omega) hch2 (fun y hy => ?_) (Or.inl rfl) (Or.inl rfl) (fun y hy => ⟨fun _ => ?_, fun hn => ?_⟩)
  · have my : y ∈ kids x := by rw [ek]; exact List.mem_cons_of_mem _ hy
    exact ⟨(zk y my).1, Or.inr ⟨y, my, rfl, q4 _ (by rw [← q6]; exact List.mem_map.mpr ⟨y, hy, rfl⟩)⟩⟩
  · exact xPost.no b F3 rfl rfl rfl k3 h3 o (by show 0 < 70001 * sz x + 10; omega)
  · rcases hy with rfl | ⟨d, md, rfl, hd⟩
    · exact absurd (by decide) hn
    · have zd := zk d md
      obtain ⟨pre, post, ec⟩ := List.append_of_mem md
      have ea : aft kids up sz d = sz d + (post.map sz).sum := aft_cut (f := sz) ec zd.2.1 (p.h.kn x xN)
      have es := congrArg (fun l => (l.map sz).sum) ec
      simp only [List.map_append, List.sum_append, List.map_cons, List.sum_cons] at es
      refine sp_todo k3 (by omega) 17 x d rfl rfl (fun s5 k5 f5 => ?_)
      refine xPost.pu (P := [(17, x, (d : Int))]) b ((zSm.rf.tr F3 rfl rfl : zSm s s3 [88, 89, 90] [87, 91]).tr f5 rfl rfl) rfl rfl rfl k5 (v' := w) (by rw [f5.v 91 rfl]; exact h3) ⟨w, F', ⟨rfl, rfl, g, Or.inl hk, Or.inr ⟨d, md, rfl, Or.inl hd⟩, hB, hX⟩, o⟩ ?_ rfl
      show (if (d : Int) < 0 then 1 else 70001 * aft kids up sz (d : Int).toNat + 5) + 0 < 70001 * sz x + 10
      rw [if_neg (by omega), Int.toNat_natCast]
      omega
end RUN
