/-! THE CHECK: WHAT A ROW OF TASKS LEAVES -/
section PB
variable (s0 : zS) (kids : Nat → List Nat) (up sz : Nat → Nat) (root N : Nat)
/-- below one of these -/
def bel (ks : List Nat) (x : Nat) : Prop := ∃ c ∈ ks, rch kids c x
def szs (ks : List Nat) : Nat := (ks.map sz).sum
/-- START, if it was found -/
def sta (s s' : zS) (ks : List Nat) : Prop := zv s' 82 = zv s 82 ∨ zv s 73 < 0 ∧ ∃ c ∈ ks, ∃ x : Nat, zv s' 82 = x ∧ za s0 25 x = 54 ∧ rin (za s0 25) kids c x
def nwr (s s' : zS) (ks : List Nat) : Prop := ∀ r : Nat, zv s 69 ≤ r → (r : Int) < zv s' 69 → ∃ c ∈ ks, RF s0 kids up root N s' c r
def fas (s' : zS) (ks : List Nat) : Prop := zv s' 12 = 0 → ∀ c ∈ ks, FA s0 kids up root N s' (zv s' 75) c
def PBc (s s' : zS) (ks : List Nat) : Prop := cP s s' (bel kids ks) (szs sz ks) ∧ GI s0 kids root s' ∧ nwr s0 kids up root N s s' ks ∧ fas s0 kids up root N s' ks ∧ sta s0 kids s s' ks
def PB (s s' : zS) (ks : List Nat) : Prop := PBc s0 kids up sz root N s s' ks ∧ zv s' 49 = zv s 49 ∧ zv s' 74 = zv s 74
end PB
section PBT
variable {s0 : zS} {kids : Nat → List Nat} {up sz : Nat → Nat} {root N : Nat}
theorem FA.fr {s s' : zS} {M M' : Int} {n : Nat} (h : fF s0 kids up sz [root] N) (hn : n < N) (g : FA s0 kids up root N s M n) (hM : M ≤ M') (h69 : zv s 69 ≤ zv s' 69) (h81 : zv s 81 ≤ zv s' 81) (h72 : ∀ r : Nat, (r : Int) < zv s 69 → za s' 72 r = za s 72 r) (e : ∀ y, rch kids n y → za s' 29 y = za s 29 y ∧ za s' 30 y = za s 30 y ∧ za s' 31 y = za s 31 y) : FA s0 kids up root N s' M' n := fun y hy => (g y hy).fr hM h69 h81 h72 (fun z hz => by
  have h1 := h.rr hn hy
  rcases hz with rfl | hz
  · exact e _ h1
  · exact e z (h1.kid hz))
/-- what facts need of a change -/
def cQ (s s' : zS) (D : Nat → Prop) : Prop := fm s s' ∧ zv s 75 ≤ zv s' 75 ∧ zv s 81 ≤ zv s' 81 ∧ zv s 69 ≤ zv s' 69 ∧ (∀ r : Nat, (r : Int) < zv s 69 → za s' 70 r = za s 70 r ∧ za s' 71 r = za s 71 r ∧ za s' 72 r = za s 72 r) ∧ ∀ x : Nat, ¬ D x → za s' 29 x = za s 29 x ∧ za s' 30 x = za s 30 x ∧ za s' 31 x = za s 31 x
theorem cQ.m {s s' : zS} {D : Nat → Prop} (h : cQ s s' D) : fm s s' := h.1
theorem cQ.mu {s s' : zS} {D : Nat → Prop} (h : cQ s s' D) : zv s 75 ≤ zv s' 75 := h.2.1
theorem cQ.w1 {s s' : zS} {D : Nat → Prop} (h : cQ s s' D) : zv s 81 ≤ zv s' 81 := h.2.2.1
theorem cQ.r1 {s s' : zS} {D : Nat → Prop} (h : cQ s s' D) : zv s 69 ≤ zv s' 69 := h.2.2.2.1
theorem cQ.rr {s s' : zS} {D : Nat → Prop} (h : cQ s s' D) : ∀ r : Nat, (r : Int) < zv s 69 → za s' 70 r = za s 70 r ∧ za s' 71 r = za s 71 r ∧ za s' 72 r = za s 72 r := h.2.2.2.2.1
theorem cQ.nd {s s' : zS} {D : Nat → Prop} (h : cQ s s' D) : ∀ x : Nat, ¬ D x → za s' 29 x = za s 29 x ∧ za s' 30 x = za s 30 x ∧ za s' 31 x = za s 31 x := h.2.2.2.2.2
theorem cP.q {s s' : zS} {D : Nat → Prop} {w : Nat} (h : cP s s' D w) : cQ s s' D := ⟨h.m, h.mu, h.w1, h.r1, h.rr, h.nd⟩
theorem cQ.tr {s s1 s2 : zS} {D1 D2 D : Nat → Prop} (h : cQ s s1 D1) (g : cQ s1 s2 D2) (h1 : ∀ x, D1 x → D x) (h2 : ∀ x, D2 x → D x) : cQ s s2 D := by
  refine ⟨h.m.tr g.m, Int.le_trans h.mu g.mu, Int.le_trans h.w1 g.w1, Int.le_trans h.r1 g.r1, fun r hr => ?_, fun x hx => ?_⟩
  · obtain ⟨a1, a2, a3⟩ := h.rr r hr
    obtain ⟨b1, b2, b3⟩ := g.rr r (Int.lt_of_lt_of_le hr h.r1)
    exact ⟨by rw [b1, a1], by rw [b2, a2], by rw [b3, a3]⟩
  · obtain ⟨a1, a2, a3⟩ := h.nd x (fun q => hx (h1 x q))
    obtain ⟨b1, b2, b3⟩ := g.nd x (fun q => hx (h2 x q))
    exact ⟨by rw [b1, a1], by rw [b2, a2], by rw [b3, a3]⟩
theorem cQ.sm {s s' : zS} {D : Nat → Prop} {js ks : List Nat} (f : zSm s s' js ks) (m : fm s s') (hj : ([29, 30, 31, 70, 71, 72].all fun j => !js.contains j) = true) (hk : ([69, 75, 81].all fun k => !ks.contains k) = true) : cQ s s' D := by
  have J : ∀ j, [29, 30, 31, 70, 71, 72].contains j = true → ∀ i, za s' j i = za s j i := fun j h1 i => f.a j i (by
    have := List.all_eq_true.mp hj j (by simpa using h1)
    simpa using this)
  have K : ∀ k, [69, 75, 81].contains k = true → zv s' k = zv s k := fun k h1 => f.v k (by
    have := List.all_eq_true.mp hk k (by simpa using h1)
    simpa using this)
  exact ⟨m, by rw [K 75 rfl]; exact Int.le_refl _, by rw [K 81 rfl]; exact Int.le_refl _, by rw [K 69 rfl]; exact Int.le_refl _, fun r _ => ⟨J 70 rfl r, J 71 rfl r, J 72 rfl r⟩, fun x _ => ⟨J 29 rfl x, J 30 rfl x, J 31 rfl x⟩⟩
theorem RF.frR {s s' : zS} {n r : Nat} (h : fF s0 kids up sz [root] N) (hn : n < N) (g : RF s0 kids up root N s n r) (m : fm s s') (h69 : zv s 69 ≤ zv s' 69) (h81 : zv s 81 ≤ zv s' 81) (h72 : ∀ r : Nat, (r : Int) < zv s 69 → za s' 72 r = za s 72 r) (hr : za s' 70 r = za s 70 r ∧ za s' 71 r = za s 71 r ∧ za s' 72 r = za s 72 r) (e : ∀ x, rch kids n x → za s0 25 x = 54 → ∀ y, rch kids x y → za s' 29 y = za s 29 y ∧ za s' 30 y = za s 30 y ∧ za s' 31 y = za s 31 y) : RF s0 kids up root N s' n r := by
  obtain ⟨x, g1, g2, g3, g4, g5, g6, g7, g8⟩ := g
  obtain ⟨r1, r2, r3⟩ := hr
  have hx := h.ltr hn g1
  refine ⟨x, g1, g2, by rw [(e x g1 g2 x (rch.rt kids x)).1]; exact g3, by rw [r3]; exact g4, by rw [r2]; exact g5, by rw [r2]; exact g6, by rw [r1, r2]; exact g7, fun q => ?_⟩
  have q0 : zv s 12 = 0 := by
    by_cases c : zv s 12 = 0
    · exact c
    · exact absurd q (m c)
  rw [r1]
  have hs := h.sh x hx
  rw [g2] at hs
  obtain ⟨ra, rc, e1, -⟩ := hs.ro rfl
  have hne : ¬ kids x = [] := fun e2 => by rw [e2] at e1; simp at e1
  have hlk := lk_mem hne
  exact (g8 q0).fr h (h.kd x hx _ hlk).1 (Int.le_refl _) h69 h81 h72 (fun y hy => e x g1 g2 y ((rch.rt kids x).kid hlk |>.tr hy))
theorem RF.fr {s s' : zS} {n r : Nat} (h : fF s0 kids up sz [root] N) (hn : n < N) (g : RF s0 kids up root N s n r) (hr : (r : Int) < zv s 69) {D : Nat → Prop} (p : cQ s s' D) (e : ∀ x, rch kids n x → za s0 25 x = 54 → ∀ y, rch kids x y → ¬ D y) : RF s0 kids up root N s' n r := g.frR h hn p.m p.r1 p.w1 (fun r hr => (p.rr r hr).2.2) (p.rr r hr) (fun x hx h54 y hy => p.nd y (e x hx h54 y hy))
theorem bel.l {c : Nat} {ks : List Nat} {x : Nat} (h : bel kids [c] x) : bel kids (c :: ks) x := by
  obtain ⟨d, hd, q⟩ := h
  rw [List.mem_singleton.mp hd] at q
  exact ⟨c, List.mem_cons_self .., q⟩
theorem bel.r {c : Nat} {ks : List Nat} {x : Nat} (h : bel kids ks x) : bel kids (c :: ks) x := by
  obtain ⟨d, hd, q⟩ := h
  exact ⟨d, List.mem_cons_of_mem _ hd, q⟩
theorem sta.tr {s s1 s2 : zS} {c : Nat} {ks : List Nat} (h : sta s0 kids s s1 [c]) (g : sta s0 kids s1 s2 ks) (h73 : zv s1 73 = zv s 73) : sta s0 kids s s2 (c :: ks) := by
  rcases g with g | ⟨g0, d, hd, x, g1, g2, g3⟩
  · rcases h with h | ⟨h0, d, hd, x, h1, h2, h3⟩
    · exact Or.inl (g.trans h)
    · rw [List.mem_singleton.mp hd] at h3
      exact Or.inr ⟨h0, c, List.mem_cons_self .., x, by rw [g]; exact h1, h2, h3⟩
  · exact Or.inr ⟨by rw [← h73]; exact g0, d, List.mem_cons_of_mem _ hd, x, g1, g2, g3⟩
/-- one, then more -/
theorem PBc.cons {s s1 s2 : zS} {n c : Nat} {ks : List Nat} (h : fF s0 kids up sz [root] N) (hn : n < N) (hc : c ∈ kids n) (hks : ∀ d ∈ ks, d ∈ kids n) (hnd : ¬ c ∈ ks) (p : PBc s0 kids up sz root N s s1 [c]) (q : PBc s0 kids up sz root N s1 s2 ks) : PBc s0 kids up sz root N s s2 (c :: ks) := by
  obtain ⟨p1, p2, p3, p4, p5⟩ := p
  obtain ⟨q1, q2, q3, q4, q5⟩ := q
  have dj : ∀ y, rch kids c y → ¬ bel kids ks y := fun y hy hb => by
    obtain ⟨d, hd, hr⟩ := hb
    exact h.dj hn hc (hks d hd) (fun e => hnd (by rw [e]; exact hd)) hy hr
  have hcN := (h.kd n hn c hc).1
  refine ⟨p1.tr q1 (fun x => bel.l) (fun x => bel.r) (by simp only [szs, List.map_cons, List.map_nil, List.sum_cons, List.sum_nil]; omega), q2, fun r h1 h2 => ?_, fun z d hd => ?_, p5.tr q5 p1.s73⟩
  · by_cases e : (r : Int) < zv s1 69
    · obtain ⟨d, hd, hr⟩ := p3 r h1 e
      rw [List.mem_singleton.mp hd] at hr
      exact ⟨c, List.mem_cons_self .., hr.fr h hcN e q1.q (fun x hx _ y hy => dj y (hx.tr hy))⟩
    · obtain ⟨d, hd, hr⟩ := q3 r (by omega) h2
      exact ⟨d, List.mem_cons_of_mem _ hd, hr⟩
  · rcases List.mem_cons.mp hd with rfl | hd
    · have z1 : zv s1 12 = 0 := by
        by_cases e : zv s1 12 = 0
        · exact e
        · exact absurd z (q1.m e)
      exact (p4 z1 d (List.mem_singleton.mpr rfl)).fr h hcN q1.mu q1.r1 q1.w1 (fun r hr => (q1.rr r hr).2.2) (fun y hy => q1.nd y (dj y hy))
    · exact q4 z d hd
theorem PB.cons {s s1 s2 : zS} {n c : Nat} {ks : List Nat} (h : fF s0 kids up sz [root] N) (hn : n < N) (hc : c ∈ kids n) (hks : ∀ d ∈ ks, d ∈ kids n) (hnd : ¬ c ∈ ks) (p : PB s0 kids up sz root N s s1 [c]) (q : PB s0 kids up sz root N s1 s2 ks) : PB s0 kids up sz root N s s2 (c :: ks) := ⟨p.1.cons h hn hc hks hnd q.1, by rw [q.2.1, p.2.1], by rw [q.2.2, p.2.2]⟩
/-- nothing is done but what the relation doesn't speak of -/
theorem PBc.nil {s s' : zS} (p : cP s s' (bel kids []) 0) (g : GI s0 kids root s') (h69 : zv s' 69 = zv s 69) (h82 : zv s' 82 = zv s 82) : PBc s0 kids up sz root N s s' [] := ⟨p, g, fun r h1 h2 => absurd h2 (by omega), fun _ d hd => absurd hd List.not_mem_nil, Or.inl h82⟩
/-- from the kids to the node -/
theorem PBc.nodeG {s s1 s2 s3 : zS} {n : Nat} {ks : List Nat} (h : fF s0 kids up sz [root] N) (hn : n < N) (hkk : ∀ d ∈ ks, d ∈ kr (za s0 25) kids n) (hkr : ∀ d ∈ kr (za s0 25) kids n, d ∈ ks ∨ kr (za s0 25) kids d = [] ∧ ∀ s M, fac s0 kids up root N s M d) (P : cP s s3 (bel kids [n]) (sz n)) (o69 : zv s1 69 = zv s 69) (o82 : zv s1 82 = zv s 82) (o73 : zv s1 73 = zv s 73) (p : PBc s0 kids up sz root N s1 s2 ks) (o3 : cQ s2 s3 (fun x => x = n)) (o369 : zv s3 69 = zv s2 69) (o382 : zv s3 82 = zv s2 82) (g3 : GI s0 kids root s3) (hf : zv s3 12 = 0 → fac s0 kids up root N s3 (zv s3 75) n) : PBc s0 kids up sz root N s s3 [n] := by
  obtain ⟨p1, p2, p3, p4, p5⟩ := p
  have hks : ∀ d ∈ ks, d ∈ kids n := fun d hd => h.krk hn (hkk d hd)
  have dn : ∀ d ∈ ks, ∀ y, rch kids d y → ¬ y = n := fun d hd y hy e => by
    subst e
    have h1 := h.szk hn (hks d hd)
    rcases h.szx (h.kd _ hn d (hks d hd)).1 hy with q | q
    · subst q; omega
    · omega
  refine ⟨P.wk (fun _ q => q) (by simp only [szs, List.map_cons, List.map_nil, List.sum_cons, List.sum_nil]; omega), g3, fun r h1 h2 => ?_, fun z d hd => ?_, ?_⟩
  · rw [o369] at h2
    obtain ⟨d, hd, hr⟩ := p3 r (by omega) h2
    have := hr.fr h (h.kd n hn d (hks d hd)).1 h2 o3 (fun x hx _ y hy e => dn d hd y (hx.tr hy) e)
    obtain ⟨x, x1, x2⟩ := this
    exact ⟨n, List.mem_cons_self .., x, ((rch.rt kids n).kid (hks d hd)).tr x1, x2⟩
  · rw [List.mem_singleton.mp hd]
    have z2 : zv s2 12 = 0 := by
      by_cases e : zv s2 12 = 0
      · exact e
      · exact absurd z (o3.m e)
    intro y hy
    rcases rin_kid hy with rfl | ⟨c, hc, hr⟩
    · exact hf z
    · rcases hkr c hc with hc2 | ⟨t1, t2⟩
      · exact ((p4 z2 c hc2).fr h (h.kd n hn c (hks c hc2)).1 o3.mu o3.r1 o3.w1 (fun r hr => (o3.rr r hr).2.2) (fun z hz => o3.nd z (dn c hc2 z hz))) y hr
      · rcases rin_kid hr with rfl | ⟨d, hd, -⟩
        · exact t2 _ _
        · rw [t1] at hd; exact absurd hd List.not_mem_nil
  · rcases p5 with q | ⟨q0, d, hd, x, q1, q2, q3⟩
    · exact Or.inl (by rw [o382, q, o82])
    · exact Or.inr ⟨by rw [← o73]; exact q0, n, List.mem_cons_self .., x, by rw [o382]; exact q1, q2, ((rin.rt (za s0 25) kids n).kid (hkk d hd)).tr q3⟩
theorem PBc.nodeQ {s s1 s2 s3 : zS} {n : Nat} {ks : List Nat} (h : fF s0 kids up sz [root] N) (hn : n < N) (hkk : ∀ d ∈ ks, d ∈ kr (za s0 25) kids n) (hkr : ∀ d ∈ kr (za s0 25) kids n, d ∈ ks) (P : cP s s3 (bel kids [n]) (sz n)) (o69 : zv s1 69 = zv s 69) (o82 : zv s1 82 = zv s 82) (o73 : zv s1 73 = zv s 73) (p : PBc s0 kids up sz root N s1 s2 ks) (o3 : cQ s2 s3 (fun x => x = n)) (o369 : zv s3 69 = zv s2 69) (o382 : zv s3 82 = zv s2 82) (g3 : GI s0 kids root s3) (hf : zv s3 12 = 0 → fac s0 kids up root N s3 (zv s3 75) n) : PBc s0 kids up sz root N s s3 [n] := PBc.nodeG h hn hkk (fun d hd => Or.inl (hkr d hd)) P o69 o82 o73 p o3 o369 o382 g3 hf
/-- own writes first, own writes behind -/
theorem PBc.nodeH {s s1 s2 s3 : zS} {n : Nat} {ks : List Nat} (h : fF s0 kids up sz [root] N) (hn : n < N) (hkk : ∀ d ∈ ks, d ∈ kr (za s0 25) kids n) (hkr : ∀ d ∈ kr (za s0 25) kids n, d ∈ ks ∨ kr (za s0 25) kids d = [] ∧ ∀ s M, fac s0 kids up root N s M d) (w0 w3 : Nat) (hw : w0 + szs sz ks + w3 ≤ sz n) (o : cP s s1 (fun x => x = n) w0) (o69 : zv s1 69 = zv s 69) (o82 : zv s1 82 = zv s 82) (p : PBc s0 kids up sz root N s1 s2 ks) (o3 : cP s2 s3 (fun x => x = n) w3) (o369 : zv s3 69 = zv s2 69) (o382 : zv s3 82 = zv s2 82) (g3 : GI s0 kids root s3) (hf : zv s3 12 = 0 → fac s0 kids up root N s3 (zv s3 75) n) : PBc s0 kids up sz root N s s3 [n] := by
  have bn : ∀ x, x = n → bel kids [n] x := fun x e => by subst e; exact ⟨x, List.mem_cons_self .., rch.rt kids x⟩
  have bk : ∀ x, bel kids ks x → bel kids [n] x := fun x ⟨d, hd, hr⟩ => ⟨n, List.mem_cons_self .., ((rch.rt kids n).kid (h.krk hn (hkk d hd))).tr hr⟩
  exact PBc.nodeG h hn hkk hkr ((o.tr p.1 (D := bel kids [n]) bn bk (Nat.le_refl _)).tr o3 (fun _ q => q) bn hw) o69 o82 o.s73 p o3.q o369 o382 g3 hf
theorem PBc.node {s s1 s2 s3 : zS} {n : Nat} {ks : List Nat} (h : fF s0 kids up sz [root] N) (hn : n < N) (hkk : ∀ d ∈ ks, d ∈ kr (za s0 25) kids n) (hkr : ∀ d ∈ kr (za s0 25) kids n, d ∈ ks) (w0 w3 : Nat) (hw : w0 + szs sz ks + w3 ≤ sz n) (o : cP s s1 (fun x => x = n) w0) (o69 : zv s1 69 = zv s 69) (o82 : zv s1 82 = zv s 82) (p : PBc s0 kids up sz root N s1 s2 ks) (o3 : cP s2 s3 (fun x => x = n) w3) (o369 : zv s3 69 = zv s2 69) (o382 : zv s3 82 = zv s2 82) (g3 : GI s0 kids root s3) (hf : zv s3 12 = 0 → fac s0 kids up root N s3 (zv s3 75) n) : PBc s0 kids up sz root N s s3 [n] := PBc.nodeH h hn hkk (fun d hd => Or.inl (hkr d hd)) w0 w3 hw o o69 o82 p o3 o369 o382 g3 hf
end PBT

