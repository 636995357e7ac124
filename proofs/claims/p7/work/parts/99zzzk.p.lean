/-! THE RUN: A SECTION GOES ON -/
section RUN
variable {s4 s1 : zS} {kids : Nat → List Nat} {up sz : Nat → Nat} {root N : Nat}
/-- to the last of the siblings -/
theorem sp_s36 {Q : zS → Prop} {s : zS} (hS : xS s4 s1 s) : ∀ (r : List Nat) (b : Nat) (m : Nat) (c : Int), r.length < m → fCh s4 c (r ++ [b]) → (∀ y ∈ r ++ [b], y < 26000) → wr_todoTask s 10 b 0 Q → wr_section_36 Q m s c := by
  intro r
  induction r with
  | nil =>
    intro b m c hm hc hk h
    obtain ⟨m, rfl⟩ : ∃ q, m = q + 1 := ⟨m - 1, by omega⟩
    obtain ⟨rfl, h2⟩ := hc
    have hb := hk b (List.mem_cons_self ..)
    have e : za s4 28 b = -1 := h2
    unfold wr_section_36
    unfold wr_section_36B
    rw [Int.toNat_natCast, hS.1 28 (by decide) b, e]
    exact ⟨by omega, by omega, fun _ => h, fun q => absurd (by decide) q⟩
  | cons a r ih =>
    intro b m c hm hc hk h
    have e4 : (a :: r).length = r.length + 1 := rfl
    obtain ⟨m, rfl⟩ : ∃ q, m = q + 1 := ⟨m - 1, by omega⟩
    obtain ⟨rfl, h2⟩ := hc
    have ha := hk a (List.mem_cons_self ..)
    have h3 : 0 ≤ za s4 28 a := by
      cases r with
      | nil => have q : za s4 28 a = (b : Int) := h2.1; omega
      | cons d r => have q : za s4 28 a = (d : Int) := h2.1; omega
    unfold wr_section_36
    unfold wr_section_36B
    rw [Int.toNat_natCast, hS.1 28 (by decide) a]
    exact ⟨by omega, by omega, fun q => absurd q (by omega), fun _ => ⟨by omega, by omega, ih b m _ (by omega) h2 (fun y hy => hk y (List.mem_cons_of_mem _ hy)) h⟩⟩
def wkl (K : Nat → Int) (l : List Nat) : List Nat := l.filter fun c => ¬ K c = 58 ∧ ¬ K c = 59
theorem wkl_n {K : Nat → Int} {a : Nat} {l : List Nat} (h : K a = 58 ∨ K a = 59) : wkl K (a :: l) = wkl K l := by
  unfold wkl
  rw [List.filter_cons, if_neg (by rcases h with q | q <;> simp [q])]
theorem wkl_y {K : Nat → Int} {a : Nat} {l : List Nat} (h : ¬ K a = 58) (h2 : ¬ K a = 59) : wkl K (a :: l) = a :: wkl K l := by
  unfold wkl
  rw [List.filter_cons, if_pos (by simp [h, h2])]
theorem wkl_le {K : Nat → Int} : ∀ l : List Nat, (wkl K l).length ≤ l.length := fun _ => List.length_filter_le ..
theorem wkl_sum {K : Nat → Int} {f : Nat → Nat} : ∀ l : List Nat, ((wkl K l).map f).sum ≤ (l.map f).sum
  | [] => Nat.le_refl _
  | a :: l => by
    have ih := wkl_sum (K := K) (f := f) l
    rw [List.map_cons, List.sum_cons]
    by_cases h : K a = 58 ∨ K a = 59
    · rw [wkl_n h]
      omega
    · rw [wkl_y (fun q => h (Or.inl q)) (fun q => h (Or.inr q)), List.map_cons, List.sum_cons]
      omega
/-- the tasks of a LET's items that are worked out -/
theorem sp_s128 {l : List xT} {Q : zS → Prop} : ∀ (ks : List Nat) (c : Int) (m : Nat) (s : zS) (A : List xT), ks.length < m → xS s4 s1 s → fCh s4 c ks → (∀ y ∈ ks, y < 26000) → xTk s (A ++ l) → A.length + l.length + ks.length < 620000 → (∀ s', zSm s s' [88, 89, 90] [87] → xTk s' (A.reverse ++ (eTs (wkl (za s4 25) ks) ++ l)) → Q s') → wr_section_128 Q m s (l.length : Nat) c := by
  intro ks
  induction ks with
  | nil =>
    intro c m s A hm hS hc _ k hl hq
    obtain ⟨m, rfl⟩ : ∃ q, m = q + 1 := ⟨m - 1, by omega⟩
    have hc1 : c = -1 := hc
    subst hc1
    unfold wr_section_128
    unfold wr_section_128B
    refine ⟨fun _ => sp_turnX k (by rw [List.length_append]; omega) rfl (fun s' k2 f2 => hq s' ((zSm.rf.tr f2 rfl rfl : zSm s s' [88, 89, 90] [87])) k2), fun q => absurd (by omega) q⟩
  | cons a ks ih =>
    intro c m s A hm hS hc hk k hl hq
    have e4 : (a :: ks).length = ks.length + 1 := rfl
    rw [e4] at hm hl
    obtain ⟨m, rfl⟩ : ∃ q, m = q + 1 := ⟨m - 1, by omega⟩
    obtain ⟨rfl, h2⟩ := hc
    have ha := hk a (List.mem_cons_self ..)
    have go : za s4 25 a = 58 ∨ za s4 25 a = 59 → wr_section_128 Q m s (l.length : Nat) (za s4 28 a) := fun e => ih _ m s A (by omega) hS h2 (fun x hx => hk x (List.mem_cons_of_mem _ hx)) k (by omega) (fun s3 f3 k3 => hq s3 f3 (by rw [wkl_n e]; exact k3))
    unfold wr_section_128
    unfold wr_section_128B
    rw [Int.toNat_natCast, hS.k a, hS.1 28 (by decide) a]
    refine ⟨fun q => absurd q (by omega), fun _ => ⟨by omega, by omega, fun e58 => ⟨by omega, by omega, go (Or.inl e58)⟩, fun n58 => ⟨by omega, by omega, fun e59 => ⟨by omega, by omega, go (Or.inr e59)⟩, fun n59 => ?_⟩⟩⟩
    refine sp_todo k (by rw [List.length_append]; omega) 1 a 0 rfl rfl (fun s' k2 f2 => ⟨by omega, by omega, ?_⟩)
    have hS2 := hS.sm f2 rfl rfl
    rw [hS2.1 28 (by decide) a]
    refine ih _ m s' ((1, a, 0) :: A) (by omega) hS2 h2 (fun x hx => hk x (List.mem_cons_of_mem _ hx)) k2 (by show A.length + 1 + l.length + ks.length < 620000; omega) (fun s3 f3 k3 => hq s3 (f2.tr f3 rfl rfl) ?_)
    rw [List.reverse_cons, List.append_assoc] at k3
    rw [wkl_y n58 n59]
    exact k3
/-- a section's next part -/
theorem xP.sec (p : xP s4 s1 kids up sz root N) {x i : Nat} (xN : x < N) (hk : za s4 25 x = 28 ∨ za s4 25 x = 36) (hi : i + 1 < (kids x).length) : za s4 25 (gt (kids x) (i + 1)) = 41 ∨ kD (za s4 25 (gt (kids x) (i + 1))) := by
  have sh := p.h.sh x xN
  rcases hk with hk | hk
  · obtain ⟨e, r, q1, q2, q3, q4⟩ := sh.sw hk
    obtain ⟨c, l, ec, q5, q6⟩ := List.map_eq_cons_iff.mp q1
    left
    rw [ec] at hi ⊢
    have hl : i < l.length := by
      have : (c :: l).length = l.length + 1 := rfl
      omega
    have : gt (c :: l) (i + 1) = gt l i := rfl
    rw [this]
    refine q4 _ ?_
    rw [← q6]
    exact List.mem_map.mpr ⟨_, gt_m hl, rfl⟩
  · exact sh.bl hk _ (List.mem_map.mpr ⟨_, gt_m hi, rfl⟩)
theorem xs_17 (p : xP s4 s1 kids up sz root N) {s : zS} {x : Nat} {a : Int} {L : List xT} {v : Nat} {F : List Nat} (h : xSt s4 s1 kids up sz root N s ((17, x, a) :: L) v F) : wr_doNext s (xPost s4 s1 kids up sz root N (xMu kids up sz s ((17, x, a) :: L))) := by
  have hf := h.fu
  obtain ⟨b, k, hv, v', F', ⟨rfl, rfl, g, hk, hc, hB, hX⟩, o⟩ := h.op
  obtain ⟨xN, xr, -⟩ := xI.n p g
  have hN := p.hN
  have hb := xB.le b.2.2.1
  obtain ⟨zx, zk⟩ := p.szk xN
  have zN := p.h.szr xr
  have hkr : kr (za s4 25) kids x = kids x := kr_eq (by rcases hk with q | q <;> rw [q] <;> rfl)
  refine dn_17 k (by omega) (fun s2 k2 f2 => ?_)
  have b2 := b.sm f2 rfl rfl rfl
  have hv2 : zv s2 91 = (v' : Nat) := by rw [f2.v 91 rfl]; exact hv
  unfold wr_section
  rcases hc with rfl | ⟨c, hc, rfl, hkc⟩
  · refine ⟨fun q => absurd q (by decide), fun _ => ?_⟩
    exact xPost.no b f2 rfl rfl rfl k2 hv2 o (by show 0 < 1; omega)
  obtain ⟨i, hi, eic⟩ : ∃ i, i < (kids x).length ∧ gt (kids x) i = c := by
    obtain ⟨i, hi, e⟩ := List.getElem_of_mem hc
    exact ⟨i, hi, by rw [gt_e hi]; exact e⟩
  have zc := zk c hc
  obtain ⟨zcz, zck⟩ := p.szk zc.1
  -- what comes behind it
  obtain ⟨nx, hnx, hnk, hnw⟩ : ∃ nx : Int, za s4 28 c = nx ∧ (nx = -1 ∨ ∃ d ∈ kids x, nx = (d : Int) ∧ (za s4 25 d = 41 ∨ kD (za s4 25 d))) ∧ xw kids up sz 17 x nx + 70001 * sz c ≤ 70001 * aft kids up sz c + 5 := by
    by_cases hi2 : i + 1 < (kids x).length
    · have e := p.nxt b2.1 xN hi2
      rw [b2.1.1 28 (by decide), eic] at e
      refine ⟨_, e, Or.inr ⟨_, gt_m hi2, rfl, p.sec xN hk hi2⟩, ?_⟩
      have ed := gt_cut hi2
      have e2 : (kids x).drop (i + 1) = gt (kids x) (i + 1) :: (kids x).drop (i + 1 + 1) := by
        rw [gt_e hi2]
        exact List.drop_eq_getElem_cons hi2
      have e3 := p.aft xN hi2 sz
      have e4 := p.aft xN hi sz
      rw [e2, List.map_cons, List.sum_cons, eic] at e4
      show (if ((gt (kids x) (i + 1) : Nat) : Int) < 0 then 1 else 70001 * aft kids up sz ((gt (kids x) (i + 1) : Nat) : Int).toNat + 5) + _ ≤ _
      rw [if_neg (by omega), Int.toNat_natCast]
      omega
    · have hx := gt_cut hi
      have hd : (kids x).drop (i + 1) = [] := List.drop_eq_nil_of_le (by omega)
      rw [hd, eic] at hx
      have e := b2.1.ls p (kids x) ((kids x).take i) (p.h.ch x xN) hx
      rw [b2.1.1 28 (by decide)] at e
      refine ⟨-1, e, Or.inl rfl, ?_⟩
      have e4 := p.aft xN hi sz
      rw [hd, eic] at e4
      have : aft kids up sz c = sz c := e4
      show 1 + _ ≤ _
      omega
  have haf : aft kids up sz c ≤ 2700 := by
    have hx := gt_cut hi
    rw [eic] at hx
    have e4 := p.aft xN hi sz
    rw [eic] at e4
    have es := congrArg (fun l => (l.map sz).sum) hx
    simp only [List.map_append, List.sum_append, List.map_cons, List.sum_cons] at es
    omega
  have o17 : xOk s4 s1 kids up sz root N ((17, x, nx) :: L) v' F' := ⟨v', F', ⟨rfl, rfl, g, hk, hnk, hB, hX⟩, o⟩
  have gc := g.kid (by rw [hkr]; exact hc : c ∈ kr (za s4 25) kids x)
  have hw17 : xw kids up sz 17 x (c : Int) = 70001 * aft kids up sz c + 5 := by
    show (if (c : Int) < 0 then 1 else 70001 * aft kids up sz (c : Int).toNat + 5) = _
    rw [if_neg (by omega), Int.toNat_natCast]
  rw [Int.toNat_natCast, b2.1.1 28 (by decide) c, hnx]
  refine ⟨fun _ => ⟨by omega, by omega, sp_todo k2 (by omega) 17 x nx rfl rfl (fun s3 k3 f3 => ?_)⟩, fun q => absurd (by omega) q⟩
  have b3 := b2.sm f3 rfl rfl rfl
  have F3 : zSm s s3 [88, 89, 90] [87] := (zSm.rf.tr f2 rfl rfl : zSm s s2 [88, 89, 90] [87]).tr f3 rfl rfl
  have hv3 : zv s3 91 = (v' : Nat) := by rw [f3.v 91 rfl]; exact hv2
  have N0 : xPost s4 s1 kids up sz root N (xMu kids up sz s ((17, x, (c : Int)) :: L)) s3 := xPost.pu (P := [(17, x, nx)]) b F3 rfl rfl rfl k3 hv3 o17 (by rw [hw17]; show xw kids up sz 17 x nx + 0 < _; omega) rfl
  rw [b3.1.k c]
  refine ⟨by omega, by omega, fun n41 => ⟨by omega, by omega, fun _ => N0, fun c53 => ?_⟩, fun c41 => ⟨by omega, by omega, ?_⟩⟩
  · have sh := p.h.sh c zc.1
    have ne : ¬ kids c = [] := fun e => by
      rcases sh.le c53 with q | ⟨q, -⟩
      · rw [e] at q
        exact absurd q (by simp)
      · exact q (by rw [e]; rfl)
    obtain ⟨d, l, ek⟩ : ∃ d l, kids c = d :: l := by
      cases e : kids c with
      | nil => exact absurd e ne
      | cons d l => exact ⟨d, l, rfl⟩
    have md : d ∈ kids c := by rw [ek]; exact List.mem_cons_self ..
    have zd := zck d md
    obtain ⟨zdz, zdk⟩ := p.szk zd.1
    rw [b3.1.c1 p zc.1 ek, Int.toNat_natCast, b3.1.k d]
    refine ⟨by omega, by omega, by omega, by omega, fun _ => N0, fun c55 => ?_⟩
    refine sp_burns s3 (by rw [F3.v 101 rfl]; exact hf.1) (by rw [F3.v 101 rfl]; exact hf.2) (fun s5 f5 e1 e2 => ⟨fun _ => ⟨by omega, by omega, ?_⟩, fun q => absurd q (by decide)⟩) (fun s5 f5 e => ⟨fun q => absurd rfl q, fun _ => xPost.ed b3 f5 e rfl rfl rfl⟩)
    have b5 := b3.fu f5 rfl rfl e2 (by omega)
    rw [b5.1.c1 p zc.1 ek]
    refine sp_todo (k3.sm f5 rfl rfl) (by show L.length + 1 < 620000; omega) 19 d 0 rfl rfl (fun s6 k6 f6 => ⟨by omega, by omega, (kids d).length + 1, ?_⟩)
    have b6 := b5.sm f6 rfl rfl rfl
    rw [Int.toNat_natCast, b6.1.1 27 (by decide) d, k6.2]
    have ld := p.len zd.1
    have lw := wkl_le (K := za s4 25) (kids d)
    obtain ⟨m, r, r1, r2, r3, r4⟩ := (p.h.sh d zd.1).vs c55
    have gd := gc.kid (by rw [kr_eq (by rw [c53]; rfl)]; exact md : d ∈ kr (za s4 25) kids c)
    have hE : ∀ y ∈ wkl (za s4 25) (kids d), y ∈ kids d ∧ kE (za s4 25 y) := fun y hy => by
      unfold wkl at hy
      obtain ⟨y1, y2⟩ := List.mem_filter.mp hy
      have y3 : ¬ za s4 25 y = 58 ∧ ¬ za s4 25 y = 59 := by simpa using y2
      refine ⟨y1, ?_⟩
      have y4 : za s4 25 y ∈ List.replicate m 58 ++ r := by rw [← r1]; exact List.mem_map.mpr ⟨y, y1, rfl⟩
      rcases List.mem_append.mp y4 with q | q
      · exact absurd (List.eq_of_mem_replicate q) y3.1
      · rcases r4 _ q with q | q
        · exact q
        · exact absurd q y3.2
    have sm : ((wkl (za s4 25) (kids d)).map sz).sum ≤ ((kids d).map sz).sum := wkl_sum _
    refine sp_s128 (s4 := s4) (s1 := s1) (l := (19, d, 0) :: (17, x, nx) :: L) (kids d) _ _ s6 [] (by omega) b6.1 (p.h.ch d zd.1) (fun y hy => by have := (zdk y hy).1; omega) k6 (by show 0 + (L.length + 2) + _ < _; omega) (fun s7 f7 k7 => ?_)
    refine xPost.bu b ((((zSm.rf.tr F3 rfl rfl : zSm s s3 [88, 89, 90] [87, 101]).tr f5 rfl rfl).tr f6 rfl rfl).tr f7 rfl rfl) rfl rfl (by rw [f7.v 101 rfl, f6.v 101 rfl, e1, F3.v 101 rfl]) (by rw [f7.v 101 rfl, f6.v 101 rfl]; exact e2) k7 (v' := v') (by rw [f7.v 91 rfl, f6.v 91 rfl, f5.v 91 rfl]; exact hv3) ?_ ?_
    · refine xOk.es (wkl (za s4 25) (kids d)) v' (fun y hy => ?_) ⟨v', F', ⟨rfl, rfl, gd, c55, ?_⟩, o17⟩
      · obtain ⟨y1, y2⟩ := hE y hy
        refine ⟨gd.kid (by rw [kr_eq (by rw [c55]; rfl)]; exact y1), y2, ?_⟩
        have h1 : sz y + ((wkl (za s4 25) (kids d)).length - 1) ≤ ((wkl (za s4 25) (kids d)).map sz).sum := len_in hy (fun z hz => (zdk z (hE z hz).1).2.2.1)
        show v' + ((wkl (za s4 25) (kids d)).length - 1) + (L.length + 2) + sz y ≤ xB F'
        omega
      · show v' + (wkl (za s4 25) (kids d)).length + (L.length + 1) + 1 ≤ xB F'
        have : (kids d).length ≤ ((kids d).map sz).sum := sum_le1 _ (fun z hz => (zdk z hz).2.2.1)
        omega
    · show xW kids up sz (eTs (wkl (za s4 25) (kids d)) ++ (19, d, 0) :: (17, x, nx) :: L) < _
      rw [xW_ap, xW_es]
      show 70000 * _ + (1 + (xw kids up sz 17 x nx + xW kids up sz L)) < _
      have := p.h.szr (xr.kid hc)
      omega
  · obtain ⟨r, q, r1, r2, r3⟩ := (p.h.sh c zc.1).pa c41
    obtain ⟨l1, l2, ek, r4, r5⟩ := List.map_eq_append_iff.mp r1
    obtain ⟨d, rfl, ed⟩ := map1 r5
    have md : d ∈ kids c := by rw [ek]; exact List.mem_append.mpr (Or.inr (List.mem_cons_self ..))
    have zd := zck d md
    have hch := p.h.ch c zc.1
    rw [ek] at hch
    rw [b3.1.1 27 (by decide) c]
    refine ⟨l1.length + 1, sp_s36 b3.1 l1 d _ _ (by omega) hch (fun y hy => by rw [← ek] at hy; have := (zck y hy).1; omega) (sp_todo k3 (by show L.length + 1 < 620000; omega) 10 d 0 rfl rfl (fun s5 k5 f5 => ?_))⟩
    refine xPost.pu (P := [(10, d, 0), (17, x, nx)]) b (F3.tr f5 rfl rfl) rfl rfl rfl k5 (v' := v') (by rw [f5.v 91 rfl]; exact hv3) ⟨v', F', ⟨rfl, rfl, gc.kid (by rw [kr_eq (by rw [c41]; rfl)]; exact md), by rw [ed]; exact r2, by show v' + (L.length + 1) + sz d ≤ xB F'; omega, xC.o p (xC.se p hX xr hc hk) (xr.kid hc) md (by rw [c41]; rfl)⟩, o17⟩ ?_ rfl
    rw [hw17]
    show 70000 * sz d + (xw kids up sz 17 x nx + 0) < _
    omega
end RUN
