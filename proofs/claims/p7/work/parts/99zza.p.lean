/-! THE CHECK: A BLOCK BEGINS, ENDS; LABELS -/
section BL
variable {s0 : zS} {kids : Nat → List Nat} {up sz : Nat → Nat} {root N : Nat} {Qc : zS → Prop}
/-- the start of what is saved -/
theorem sSt.nw {s : zS} (h : 0 ≤ zv s 67) : sSt s s (zv s 67).toNat [] := ⟨by show zv s 67 = (((zv s 67).toNat + 0 : Nat) : Int); omega, trivial, fun _ _ => rfl⟩
theorem sp_begin {s : zS} (g : GI s0 kids root s) (h67 : zv s 67 + 3 ≤ 60000) {Q : zS → Prop} (hq : ∀ s', zSm s s' [68] [55, 67] → sSt s s' (zv s 67).toNat [zv s 49, zv s 55, zv s 74] → zv s' 55 = zv s 49 → GI s0 kids root s' → Q s') : wr_beginBlock s Q := by
  have gsv := g.sv
  unfold wr_beginBlock
  refine sp_putS (sSt.nw gsv) (by show _ + 0 < 60000; omega) (fun s1 f1 S1 => ?_)
  have e1 : zv s1 55 = zv s 55 := f1.v 55 rfl
  rw [e1]
  refine sp_putS S1 (by show _ + 1 < 60000; omega) (fun s2 f2 S2 => ?_)
  have f12 : zSm s s2 [68] [67] := f1.tr f2 rfl rfl
  have e2 : zv s2 49 = zv s 49 := f12.v 49 rfl
  rw [e2]
  refine sp_putS S2 (by show _ + 2 < 60000; omega) (fun s3 f3 S3 => ?_)
  have f13 : zSm s s3 [68] [67] := f12.tr f3 rfl rfl
  have e3 : zv s3 49 = zv s 49 := f13.v 49 rfl
  have f4 : zSm s3 (zpv s3 55 (zv s 49)) [] [55] := zSm.rf.pv rfl
  have g3 : GI s0 kids root s3 := g.smS (by rw [S3.1]; omega) f13 rfl rfl rfl rfl
  rw [e3]
  exact hq _ ((zSm.rf.tr f13 rfl rfl : zSm s s3 [68] [55, 67]).pv rfl) (S3.sm f4 rfl rfl) rfl (g3.p55 ⟨g.en.1, by rw [e3]; exact Int.le_refl _⟩)
theorem sp_blockEnds {s0' s : zS} (g : GI s0 kids root s) {b : Nat} {e bb iu a : Int} (S : sSt s0' s b [e, bb, iu]) (hb : b + 3 ≤ 60000) (he : 0 ≤ e ∧ e ≤ zv s 49) (hbb : 0 ≤ bb ∧ bb ≤ e) (hiu : 0 ≤ iu ∧ iu ≤ 75000) (ha : 0 ≤ zv s 80 + a ∧ zv s 80 + a ≤ 2000000) {Q : zS → Prop} (hq : ∀ s', zSm s s' [] [49, 55, 67, 74, 80] → sSt s0' s' b [] → zv s' 49 = e → zv s' 55 = bb → zv s' 74 = iu → zv s' 80 = zv s 80 + a → GI s0 kids root s' → Q s') : wr_blockEnds s a Q := by
  unfold wr_blockEnds
  refine sp_pullS S (by show _ + 2 < 60000; omega) (fun s1 f1 S1 => ?_)
  have h1 : zSm s1 (zpv s1 49 e) [] [49] := zSm.rf.pv rfl
  refine sp_pullS (S1.sm h1 rfl rfl) (by show _ + 1 < 60000; omega) (fun s2 f2 S2 => ?_)
  have h2 : zSm s2 (zpv s2 55 bb) [] [55] := zSm.rf.pv rfl
  refine sp_pullS (S2.sm h2 rfl rfl) (by show _ + 0 < 60000; omega) (fun s3 f3 S3 => ?_)
  have F3 : zSm s s3 [] [49, 55, 67] := ((((zSm.rf.tr f1 rfl rfl : zSm s s1 [] [49, 55, 67]).tr h1 rfl rfl).tr f2 rfl rfl).tr h2 rfl rfl).tr f3 rfl rfl
  have e80 : zv s3 80 = zv s 80 := F3.v 80 rfl
  have e49 : zv s3 49 = e := by rw [f3.v 49 rfl, h2.v 49 rfl, f2.v 49 rfl]; rfl
  have e55 : zv s3 55 = bb := by rw [f3.v 55 rfl]; rfl
  rw [e80]
  have h3 : zSm s3 (zpv (zpv s3 74 iu) 80 (zv s 80 + a)) [] [74, 80] := (zSm.rf.pv rfl).pv rfl
  have G : GI s0 kids root s3 := by
    have q := (g.p49 he hbb).smS (s' := s3) (js := []) (ks := [67]) (by rw [S3.1]; omega) ⟨fun j hj => F3.1 j hj, fun k hk => ?_⟩ rfl rfl rfl rfl
    · exact q
    · show s3.1 k = if k = 55 then bb else if k = 49 then e else s.1 k
      by_cases k5 : k = 55
      · rw [if_pos k5, k5]; exact e55
      · by_cases k4 : k = 49
        · rw [if_neg k5, if_pos k4, k4]; exact e49
        · rw [if_neg k5, if_neg k4]
          refine F3.2 k ?_
          have h6 : ¬ k = 67 := fun q => by rw [q] at hk; exact absurd hk (by decide)
          simp [k4, k5, h6]
  refine ⟨⟨by omega, by omega⟩, hq _ ((zSm.rf.tr F3 rfl rfl : zSm s s3 [] [49, 55, 67, 74, 80]).tr h3 rfl rfl) (S3.sm h3 rfl rfl) ?_ ?_ rfl rfl ((G.p74 hiu).p80 ha.1)⟩
  · rw [h3.v 49 rfl]; exact e49
  · rw [h3.v 55 rfl]; exact e55
/-- how many labels stand at a part, at parts -/
def lab (K : Nat → Int) (kids : Nat → List Nat) (c : Nat) : Nat := if K c = 41 then ((kids c).filter fun q => K q = 42).length else 0
theorem EC.ent {s s' : zS} {S S' : List Nat} {a k v st ot : Int} (ec : EC s0 kids s S) (g : cEn s s' a k v st ot) (hS : ∀ p ∈ S, p ∈ S') (hn : k = 4 → st = zv s 73 → rng v (zv s 75)) (hl : k = 5 → st = zv s 73 → ot = zv s 77 → ∃ c p : Nat, v = c ∧ lNd s0 kids c p ∧ p ∈ S') : EC s0 kids s' S' := by
  obtain ⟨f, -, g2, g3, g4⟩ := g
  intro e he
  rw [g2] at he
  rw [f.v 73 rfl, f.v 75 rfl, f.v 77 rfl]
  by_cases e2 : (e : Int) = zv s 49
  · obtain ⟨-, q2, q3, q4, q5⟩ := g4 e e2
    rw [q2, q3, q4, q5]
    exact ⟨hn, hl⟩
  · obtain ⟨-, q2, q3, q4, q5⟩ := g3 e (by omega)
    rw [q2, q3, q4, q5]
    obtain ⟨r1, r2⟩ := ec e (by omega)
    refine ⟨r1, fun k1 k2 k3 => ?_⟩
    obtain ⟨c, p, y1, y2, y3⟩ := r2 k1 k2 k3
    exact ⟨c, p, y1, y2, hS p y3⟩
theorem EC.su {s : zS} {S S' : List Nat} (ec : EC s0 kids s S) (hS : ∀ p ∈ S, p ∈ S') : EC s0 kids s S' := fun e he => by
  obtain ⟨r1, r2⟩ := ec e he
  refine ⟨r1, fun k1 k2 k3 => ?_⟩
  obtain ⟨c, p, y1, y2, y3⟩ := r2 k1 k2 k3
  exact ⟨c, p, y1, y2, hS p y3⟩
/-- fields that entries don't speak of -/
theorem EC.sm {s s' : zS} {S : List Nat} {js ks : List Nat} (ec : EC s0 kids s S) (f : zSm s s' js ks) (hj : ([51, 52, 53, 54].all fun j => !js.contains j) = true) (hk : ([49, 73, 75, 77].all fun k => !ks.contains k) = true) : EC s0 kids s' S := by
  have J : ∀ j, [51, 52, 53, 54].contains j = true → ∀ i, za s' j i = za s j i := fun j h1 i => f.a j i (by
    have := List.all_eq_true.mp hj j (by simpa using h1)
    simpa using this)
  have K : ∀ k, [49, 73, 75, 77].contains k = true → zv s' k = zv s k := fun k h1 => f.v k (by
    have := List.all_eq_true.mp hk k (by simpa using h1)
    simpa using this)
  intro e he
  rw [K 49 rfl] at he
  rw [J 51 rfl, J 52 rfl, J 53 rfl, J 54 rfl, K 73 rfl, K 75 rfl, K 77 rfl]
  exact ec e he
/-- labels declared up to here -/
def lbS (s0 : zS) (kids : Nat → List Nat) (root n : Nat) (S : List Nat) (s s' : zS) (w : Nat) : Prop := zSm s s' [30, 50, 51, 52, 53, 54, 57] [12, 13, 49] ∧ GI s0 kids root s' ∧ cC s s' (fun x => x ∈ kids n ∧ za s0 25 x = 41) 0 ∧ EC s0 kids s' (n :: S) ∧ zv s' 49 = zv s 49 + w
theorem sp_labels (h : fF s0 kids up sz [root] N) (hN : N ≤ 2700) {n : Nat} (hr : rch kids root n) {s : zS} {S : List Nat} (g : GI s0 kids root s) (ec : EC s0 kids s S) (hB : zv s 49 + szs (lab (za s0 25) kids) (kids n) ≤ 9000) {Q : zS → Prop} (hq : ∀ s', lbS s0 kids root n S s s' (szs (lab (za s0 25) kids) (kids n)) → (∀ c ∈ kids n, za s0 25 c = 41 → za s' 30 c = (n : Int)) → Q s') : wr_labelsOf s n Q := by
  have hn := h.lt hr
  have hkl : ∀ c ∈ kids n, c < N := fun c hc => (h.kd n hn c hc).1
  -- a node's nB is set
  have st30 : ∀ (s1 : zS) (w : Nat) (c : Nat), c ∈ kids n → za s0 25 c = 41 → lbS s0 kids root n S s s1 w → lbS s0 kids root n S s (zpa s1 30 c n) w := fun s1 w c hc hc41 ⟨f, g1, cc, ec1, e1⟩ => by
    have f2 : zSm s1 (zpa s1 30 c n) [30] [] := zSm.rf.pa rfl
    refine ⟨f.pa rfl, g1.sm f2 rfl rfl rfl rfl, cc.tr (cC.own (D := fun x => x ∈ kids n ∧ za s0 25 x = 41) (w := 0) f2 (fm.sm f2 rfl) rfl rfl (fun x hx => ⟨rfl, ?_, rfl⟩)) (fun _ q => q) (fun _ q => q) (by omega), ec1.sm f2 rfl rfl, e1⟩
    rw [za_pa, if_pos rfl, if_neg (fun e => hx ⟨by rw [e]; exact hc, by rw [e]; exact hc41⟩)]
  -- a label
  have stL : ∀ (s1 : zS) (w c q : Nat), c ∈ kids n → za s0 25 c = 41 → q ∈ kids c → lbS s0 kids root n S s s1 w → zv s 49 + w < 9000 → ∀ {Q : Int → zS → Prop}, (∀ r s2, lbS s0 kids root n S s s2 (w + 1) → (∀ x, za s2 30 x = za s1 30 x) → (∀ j, j = 27 ∨ j = 28 → ∀ x, za s2 j x = za s1 j x) → Q r s2) → wr_declare s1 (za s1 29 q) (za s1 26 q) 5 c (zv s1 73) (zv s1 77) Q := fun s1 w c q hc hk hqc hl hw Q hQ => by
    obtain ⟨f, g1, cc, ec1, e1⟩ := hl
    obtain ⟨t1, t2, -⟩ := g1.tk2 h (h.kd c (hkl c hc) q hqc).1
    have ro := g1.ro
    have rt := g1.rt
    have vf := g1.vf
    refine sp_declare s1 _ _ 5 c _ _ g1.en.1 (by omega) g1.bb.1 g1.bb.2 t1 t2 g1.tk (fun s2 en t => ?_)
    obtain ⟨fe, me, h2, h3, h4⟩ := id en
    refine hQ _ s2 ⟨f.tr fe rfl rfl, g1.ent en t (by omega) (fun e he => ?_), cc.tr (cC.ent (D := fun x => x ∈ kids n ∧ za s0 25 x = 41) (w := 0) en) (fun _ q => q) (fun _ q => q) (by omega), ec1.ent en (fun p hp => hp) (fun k => absurd k (by decide)) (fun _ _ _ => ⟨c, n, rfl, ⟨hk, hc⟩, List.mem_cons_self ..⟩), by omega⟩ (fun x => fe.a 30 x rfl) (fun j hj x => by rcases hj with rfl | rfl <;> exact fe.a _ x rfl)
    obtain ⟨-, q2, q3, q4, q5⟩ := h4 e he
    unfold eOk
    rw [q2, q3, q4, q5, fe.v 69 rfl, fe.v 78 rfl]
    exact ⟨⟨by decide, by decide⟩, fun k => absurd k (by decide), fun k => absurd k (by decide), fun k => absurd k (by decide), fun _ => ⟨by omega, vf.2, c, n, rfl, hk, hc⟩⟩
  -- the labels of a part
  have L39 : ∀ (c : Nat) (k7 : zS → Int → Int → Prop), c ∈ kids n → za s0 25 c = 41 → ∀ (qs : List Nat) (x : Int) (m : Nat) (s1 : zS) (w : Nat), qs.length < m → fCh s1 x qs → (∀ q ∈ qs, q ∈ kids c) → lbS s0 kids root n S s s1 w → za s1 30 c = (n : Int) → zv s 49 + w + (qs.filter fun q => za s0 25 q = 42).length ≤ 9000 → (∀ s2, lbS s0 kids root n S s s2 (w + (qs.filter fun q => za s0 25 q = 42).length) → (∀ x, za s2 30 x = za s1 30 x) → k7 s2 n (za s2 28 c)) → wr_labelsOf_39 Q k7 m s1 n c x := by
    intro c k7 hc hk qs
    have hcN := hkl c hc
    induction qs with
    | nil =>
      intro x m s1 w hm h1 _ hl _ _ hk7
      obtain ⟨m, rfl⟩ : ∃ q, m = q + 1 := ⟨m - 1, by have : 0 < m := hm; omega⟩
      have h1' : x = -1 := h1
      unfold wr_labelsOf_39
      unfold wr_labelsOf_39B
      rw [Int.toNat_natCast]
      exact ⟨fun _ => ⟨by omega, by omega, hk7 s1 hl (fun _ => rfl)⟩, fun e => absurd (by omega) e⟩
    | cons a qs ih =>
      intro x m s1 w hm h1 hd hl h30 hb hk7
      have e4 : (a :: qs).length = qs.length + 1 := rfl
      rw [e4] at hm
      obtain ⟨m, rfl⟩ : ∃ q, m = q + 1 := ⟨m - 1, by omega⟩
      have h1' : x = (a : Int) := h1.1
      have ha := hd a (List.mem_cons_self ..)
      have haN := (h.kd c hcN a ha).1
      subst h1'
      have e25 : za s1 25 a = za s0 25 a := hl.2.1.st.a 25 a rfl
      unfold wr_labelsOf_39
      unfold wr_labelsOf_39B
      rw [Int.toNat_natCast, Int.toNat_natCast, e25]
      refine ⟨fun e => absurd e (by omega), fun _ => ⟨by omega, by omega, fun c42 => ⟨by omega, by omega, ?_⟩, fun c42 => ⟨by omega, by omega, by omega, by omega, ?_⟩⟩⟩
      · have ef : ((a :: qs).filter fun q => za s0 25 q = 42) = qs.filter fun q => za s0 25 q = 42 := List.filter_cons_of_neg (by simpa using c42)
        rw [ef] at hb hk7
        exact ih _ m s1 w (by omega) h1.2 (fun q hq2 => hd q (List.mem_cons_of_mem _ hq2)) hl h30 hb hk7
      · have ef : ((a :: qs).filter fun q => za s0 25 q = 42) = a :: qs.filter fun q => za s0 25 q = 42 := List.filter_cons_of_pos (by simpa using c42)
        rw [ef] at hb hk7
        have e5 : (a :: qs.filter fun q => za s0 25 q = 42).length = (qs.filter fun q => za s0 25 q = 42).length + 1 := rfl
        rw [e5] at hb hk7
        refine stL s1 w c a hc hk ha hl (by omega) (fun r s2 l2 o30 o28 => ⟨by omega, by omega, ?_⟩)
        rw [o28 28 (Or.inr rfl)]
        refine ih _ m s2 (w + 1) (by omega) (h1.2.fr (fun y _ => o28 28 (Or.inr rfl) y)) (fun q hq2 => hd q (List.mem_cons_of_mem _ hq2)) l2 (by rw [o30]; exact h30) (by omega) (fun s3 l3 o3 => hk7 s3 (by rw [show w + ((qs.filter fun q => za s0 25 q = 42).length + 1) = w + 1 + (qs.filter fun q => za s0 25 q = 42).length by omega]; exact l3) (fun y => by rw [o3, o30]))
  have L7 : ∀ (ks : List Nat) (x : Int) (m : Nat) (s1 : zS) (w : Nat) (P : List Nat), ks.length < m → fCh s1 x ks → kids n = P ++ ks → lbS s0 kids root n S s s1 w → w = szs (lab (za s0 25) kids) P → (∀ c ∈ P, za s0 25 c = 41 → za s1 30 c = (n : Int)) → wr_labelsOf_7 Q m s1 n x := by
    intro ks
    induction ks with
    | nil =>
      intro x m s1 w P hm h1 hk hl hw hP
      obtain ⟨m, rfl⟩ : ∃ q, m = q + 1 := ⟨m - 1, by have : 0 < m := hm; omega⟩
      have h1' : x = -1 := h1
      rw [List.append_nil] at hk
      unfold wr_labelsOf_7
      unfold wr_labelsOf_7B
      refine ⟨fun _ => hq s1 (by rw [hk, ← hw]; exact hl) (fun c hc => hP c (by rw [← hk]; exact hc)), fun e => absurd (by omega) e⟩
    | cons a ks ih =>
      intro x m s1 w P hm h1 hk hl hw hP
      have e4 : (a :: ks).length = ks.length + 1 := rfl
      rw [e4] at hm
      obtain ⟨m, rfl⟩ : ∃ q, m = q + 1 := ⟨m - 1, by omega⟩
      have h1' : x = (a : Int) := h1.1
      have ha : a ∈ kids n := by rw [hk]; exact List.mem_append.mpr (Or.inr (List.mem_cons_self ..))
      have haN := hkl a ha
      subst h1'
      have e25 : za s1 25 a = za s0 25 a := hl.2.1.st.a 25 a rfl
      have hk2 : kids n = (P ++ [a]) ++ ks := by rw [hk, List.append_assoc]; rfl
      have ez : szs (lab (za s0 25) kids) (P ++ [a]) = szs (lab (za s0 25) kids) P + lab (za s0 25) kids a := by
        simp only [szs, List.map_append, List.sum_append, List.map_cons, List.map_nil, List.sum_cons, List.sum_nil]
        omega
      have et : szs (lab (za s0 25) kids) (kids n) = szs (lab (za s0 25) kids) P + lab (za s0 25) kids a + szs (lab (za s0 25) kids) ks := by
        rw [hk2, show szs (lab (za s0 25) kids) (P ++ [a] ++ ks) = szs (lab (za s0 25) kids) (P ++ [a]) + szs (lab (za s0 25) kids) ks by simp only [szs, List.map_append, List.sum_append], ez]
      unfold wr_labelsOf_7
      unfold wr_labelsOf_7B
      rw [Int.toNat_natCast, e25]
      refine ⟨fun e => absurd e (by omega), fun _ => ⟨by omega, by omega, fun c41 => ⟨by omega, by omega, by omega, by omega, (kids a).length + 1, ?_⟩, fun c41 => ⟨by omega, by omega, ?_⟩⟩⟩
      · have el : lab (za s0 25) kids a = ((kids a).filter fun q => za s0 25 q = 42).length := if_pos c41
        have e27 : za (zpa s1 30 a n) 27 a = za s0 27 a := hl.2.1.st.a 27 a rfl
        have h30 : za (zpa s1 30 a n) 30 a = (n : Int) := by rw [za_pa, if_pos rfl, if_pos rfl]
        refine L39 a _ ha c41 (kids a) _ _ (zpa s1 30 a n) w (by omega) ?_ (fun q hq2 => hq2) (st30 s1 w a ha c41 hl) h30 (by omega) (fun s2 l2 o2 => ?_)
        · show fCh (zpa s1 30 a n) (za (zpa s1 30 a n) 27 a) (kids a)
          rw [e27]
          exact (h.ch a haN).fr (fun y _ => hl.2.1.st.a 28 y rfl)
        · have e28 : ∀ y, za s2 28 y = za s1 28 y := fun y => by rw [l2.2.1.st.a 28 y rfl, hl.2.1.st.a 28 y rfl]
          refine ih _ m s2 _ (P ++ [a]) (by omega) ?_ hk2 l2 (by rw [ez, hw, el]) (fun c hc k => ?_)
          · rw [e28]
            exact h1.2.fr (fun y _ => e28 y)
          · rw [o2]
            rcases List.mem_append.mp hc with hc | hc
            · rw [za_pa, if_pos rfl]
              split
              · rfl
              · exact hP c hc k
            · rw [List.mem_singleton.mp hc]
              exact h30
      · have el : lab (za s0 25) kids a = 0 := if_neg c41
        refine ih _ m s1 w (P ++ [a]) (by omega) h1.2 hk2 hl (by rw [ez, hw, el]; rfl) (fun c hc k => ?_)
        rcases List.mem_append.mp hc with hc | hc
        · exact hP c hc k
        · rw [List.mem_singleton.mp hc] at k
          exact absurd k c41
  unfold wr_labelsOf
  rw [Int.toNat_natCast]
  refine ⟨by omega, by omega, (kids n).length + 1, L7 (kids n) _ _ s 0 [] (by omega) ?_ rfl ⟨zSm.rf, g, cC.rf, ec.su (fun p hp => List.mem_cons_of_mem _ hp), by omega⟩ rfl (fun c hc => absurd hc List.not_mem_nil)⟩
  rw [g.st.a 27 n rfl]
  exact (h.ch n hn).fr (fun x _ => g.st.a 28 x rfl)
/-- a part: its command -/
theorem tL (h : fF s0 kids up sz [root] N) (hN : N ≤ 2700) {n : Nat} (hr : rch kids root n) (hK : za s0 25 n = 41) (iC : ∀ c ∈ kids n, kC (za s0 25 c) → tri s0 kids up sz root N Qc 0 2 c tt tt) : tri s0 kids up sz root N Qc 0 13 n (fun s => za s 30 n = (up n : Int)) tt := by
  have hn := h.lt hr
  obtain ⟨q, kc, q1, qc, qr⟩ := (h.sh n hn).pa hK
  obtain ⟨P, A, ek, eP, eA⟩ := List.map_eq_append_iff.mp q1
  obtain ⟨c, rfl, ec⟩ := map1 eA
  have elk : lk kids n = c := lk_app ek
  have hc : c ∈ kids n := by rw [ek]; exact List.mem_append.mpr (Or.inr (List.mem_cons_self ..))
  have hkl : ∀ x ∈ kids n, x < N := fun x hx => (h.kd n hn x hx).1
  have hcN := hkl c hc
  have hC : kC (za s0 25 c) := by rw [ec]; exact qc
  have hz : sz n = 1 + szs sz (kids n) := h.ss n hn
  have hlen : (kids n).length ≤ szs sz (kids n) := len_sum h hkl
  have hcs := sum_mem (sz := sz) hc
  have hcz : sz c ≤ szs sz (kids n) := hcs
  have hz1 : 1 ≤ sz c := by have := h.ss c hcN; omega
  have hcx : cxF (za s0 25) up root N c = cxF (za s0 25) up root N n := by
    rw [cxF_kid _ h hr hc]
    exact cxS_o (by rw [hK]; rfl)
  have hu : ub (za s0 25) kids sz n = sz c := by
    unfold ub
    rw [if_pos hK, elk]
  have hkr : kr (za s0 25) kids n = kids n := kr_eq (by rw [hK]; rfl)
  refine tri.mk (by omega) h hn (fun s s1 f hy => by rw [f.a 30 n rfl]; exact hy) (fun m s l k1 hl hp hy hq => go_13 ?_)
  obtain ⟨g, hx, hb⟩ := hp
  have L : ∀ (ks : List Nat) (x : Nat) (m2 : Nat), ks.length < m2 → fCh s (za s 28 x) ks → x < 26000 → lst ks x = c → (∀ y ∈ ks, y < 26000) → wr_part_7 (fun s' => kL Qc (m + 4 * sz n - 0 - 1) s') m2 s x := by
    intro ks
    induction ks with
    | nil =>
      intro x m2 hm h1 hx2 hl2 _
      obtain ⟨m2, rfl⟩ : ∃ q, m2 = q + 1 := ⟨m2 - 1, by have : 0 < m2 := hm; omega⟩
      have h1' : za s 28 x = -1 := h1
      have e : x = c := hl2
      unfold wr_part_7
      unfold wr_part_7B
      rw [Int.toNat_natCast]
      refine ⟨by omega, by omega, fun _ => ?_, fun e => absurd (by omega) e⟩
      rw [e]
      refine sp_task k1 (by omega) 2 c 0 (fun s2 k2 f2 => ?_)
      have p2 : cP s s2 (fun x => x = n) 0 := cP.sm f2 (fm.sm f2 rfl) rfl rfl rfl
      have hP : ∀ d ∈ P, za s0 25 d = 42 ∨ za s0 25 d = 43 ∨ za s0 25 d = 44 := fun d hd => qr _ (by rw [← eP]; exact List.mem_map.mpr ⟨d, hd, rfl⟩)
      refine (iC c hc hC m s2 l k2 ⟨g.sm f2 rfl rfl rfl rfl, by rw [hcx]; exact hx.fr p2 (f2.v 49 rfl), hb.fs p2 (by omega) (f2.v 49 rfl) (by rw [hu]; exact ub_le h hcN)⟩ trivial (fun s3 k3 p3 _ => hq s3 k3 ⟨?_, by rw [p3.2.1, f2.v 49 rfl], by rw [p3.2.2, f2.v 74 rfl]⟩ trivial)).le (by omega)
      refine PBc.nodeH h hn (ks := [c]) (fun d hd => by rw [hkr, List.mem_singleton.mp hd]; exact hc) (fun d hd => ?_) 0 0 (by rw [szs1]; omega) p2 (f2.v 69 rfl) (f2.v 82 rfl) p3.1 cP.rf rfl rfl p3.1.2.1 (fun _ => fac_41 hK ?_)
      · rw [hkr, ek] at hd
        rcases List.mem_append.mp hd with hd | hd
        · have hdN := hkl d (by rw [ek]; exact List.mem_append.mpr (Or.inl hd))
          rcases hP d hd with q | q | q
          · exact Or.inr ⟨by rw [kr_eq (by rw [q]; rfl)]; exact List.map_eq_nil_iff.mp ((h.sh d hdN).lf (by omega)), fun s M => fac_no (by rw [q]; rfl)⟩
          · exact Or.inr ⟨kr_no (Or.inr (Or.inl q)), fun s M => fac_no (by rw [q]; rfl)⟩
          · exact Or.inr ⟨by rw [kr_eq (by rw [q]; rfl)]; exact List.map_eq_nil_iff.mp ((h.sh d hdN).lf (by omega)), fun s M => fac_no (by rw [q]; rfl)⟩
        · exact Or.inl hd
      · rw [(p3.1.1.nd n (fun ⟨d, hd, hdn⟩ => ?_)).2.1, f2.a 30 n rfl]
        · exact hy
        · rw [List.mem_singleton.mp hd] at hdn
          have h1 := h.szk hn hc
          rcases h.szx hcN hdn with q | q
          · rw [q] at h1; omega
          · omega
    | cons a ks ih =>
      intro x m2 hm h1 hx2 hl2 hy2
      have e4 : (a :: ks).length = ks.length + 1 := rfl
      rw [e4] at hm
      obtain ⟨m2, rfl⟩ : ∃ q, m2 = q + 1 := ⟨m2 - 1, by omega⟩
      have h1' : za s 28 x = (a : Int) := h1.1
      unfold wr_part_7
      unfold wr_part_7B
      rw [Int.toNat_natCast, h1']
      exact ⟨by omega, by omega, fun e => absurd e (by omega), fun _ => ⟨by omega, by omega, ih a m2 (by omega) h1.2 (hy2 a (List.mem_cons_self ..)) hl2 (fun y hy => hy2 y (List.mem_cons_of_mem _ hy))⟩⟩
  have ch := (h.ch n hn).fr (s' := s) (fun x _ => g.st.a 28 x rfl)
  have e27 : za s 27 n = za s0 27 n := g.st.a 27 n rfl
  unfold wr_part
  rw [Int.toNat_natCast, e27]
  cases hk : kids n with
  | nil => rw [hk] at hc; exact absurd hc List.not_mem_nil
  | cons a ks =>
    rw [hk] at ch hkl
    have ea : za s0 27 n = (a : Int) := ch.1
    have haN := hkl a (List.mem_cons_self ..)
    have hlst : lst ks a = c := by
      have e1 : (kids n).getLast? = some (lst ks a) := by
        rw [hk]
        clear hk ch hkl ea haN
        induction ks generalizing a with
        | nil => rfl
        | cons b ks ih => rw [List.getLast?_cons_cons]; exact ih b
      have e2 : lk kids n = lst ks a := by
        unfold lk
        rw [e1]
        rfl
      rw [← e2]
      exact elk
    rw [ea]
    exact ⟨by omega, by omega, ks.length + 1, L ks a _ (by omega) ch.2 (by omega) hlst (fun y hy => by have := hkl y (List.mem_cons_of_mem _ hy); omega)⟩
end BL

