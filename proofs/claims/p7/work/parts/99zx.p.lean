/-! THE CHECK: BLOCKS, LOOPS, COMMANDS -/
/-- as cP, but for what a block changes -/
def cC (s s' : zS) (D : Nat → Prop) (w : Nat) : Prop :=
  (fm s s') ∧
  (zv s 49 ≤ zv s' 49) ∧
  (∀ e : Nat, (e : Int) < zv s 49 → za s' 50 e = za s 50 e ∧ za s' 51 e = za s 51 e ∧ za s' 52 e = za s 52 e ∧ za s' 53 e = za s 53 e ∧ (¬ za s 51 e = 1 → za s' 54 e = za s 54 e)) ∧
  (zv s' 73 = zv s 73) ∧
  (zv s' 76 = zv s 76) ∧
  (zv s' 77 = zv s 77) ∧
  (zv s 75 ≤ zv s' 75) ∧
  (zv s 81 ≤ zv s' 81) ∧
  (zv s' 81 ≤ zv s 81 + 60 * w) ∧
  (zv s 69 ≤ zv s' 69) ∧
  (zv s' 69 ≤ zv s 69 + w) ∧
  (∀ r : Nat, (r : Int) < zv s 69 → za s' 70 r = za s 70 r ∧ za s' 71 r = za s 71 r ∧ za s' 72 r = za s 72 r) ∧
  (zv s 78 ≤ zv s' 78) ∧
  (zv s' 78 ≤ zv s 78 + w) ∧
  (∀ x : Nat, ¬ D x → za s' 29 x = za s 29 x ∧ za s' 30 x = za s 30 x ∧ za s' 31 x = za s 31 x)
theorem cC.m {s s' : zS} {D : Nat → Prop} {w : Nat} (h : cC s s' D w) : fm s s' := h.1
theorem cC.e1 {s s' : zS} {D : Nat → Prop} {w : Nat} (h : cC s s' D w) : zv s 49 ≤ zv s' 49 := h.2.1
theorem cC.er {s s' : zS} {D : Nat → Prop} {w : Nat} (h : cC s s' D w) : ∀ e : Nat, (e : Int) < zv s 49 → za s' 50 e = za s 50 e ∧ za s' 51 e = za s 51 e ∧ za s' 52 e = za s 52 e ∧ za s' 53 e = za s 53 e ∧ (¬ za s 51 e = 1 → za s' 54 e = za s 54 e) := h.2.2.1
theorem cC.s73 {s s' : zS} {D : Nat → Prop} {w : Nat} (h : cC s s' D w) : zv s' 73 = zv s 73 := h.2.2.2.1
theorem cC.s76 {s s' : zS} {D : Nat → Prop} {w : Nat} (h : cC s s' D w) : zv s' 76 = zv s 76 := h.2.2.2.2.1
theorem cC.s77 {s s' : zS} {D : Nat → Prop} {w : Nat} (h : cC s s' D w) : zv s' 77 = zv s 77 := h.2.2.2.2.2.1
theorem cC.mu {s s' : zS} {D : Nat → Prop} {w : Nat} (h : cC s s' D w) : zv s 75 ≤ zv s' 75 := h.2.2.2.2.2.2.1
theorem cC.w1 {s s' : zS} {D : Nat → Prop} {w : Nat} (h : cC s s' D w) : zv s 81 ≤ zv s' 81 := h.2.2.2.2.2.2.2.1
theorem cC.w2 {s s' : zS} {D : Nat → Prop} {w : Nat} (h : cC s s' D w) : zv s' 81 ≤ zv s 81 + 60 * w := h.2.2.2.2.2.2.2.2.1
theorem cC.r1 {s s' : zS} {D : Nat → Prop} {w : Nat} (h : cC s s' D w) : zv s 69 ≤ zv s' 69 := h.2.2.2.2.2.2.2.2.2.1
theorem cC.r2 {s s' : zS} {D : Nat → Prop} {w : Nat} (h : cC s s' D w) : zv s' 69 ≤ zv s 69 + w := h.2.2.2.2.2.2.2.2.2.2.1
theorem cC.rr {s s' : zS} {D : Nat → Prop} {w : Nat} (h : cC s s' D w) : ∀ r : Nat, (r : Int) < zv s 69 → za s' 70 r = za s 70 r ∧ za s' 71 r = za s 71 r ∧ za s' 72 r = za s 72 r := h.2.2.2.2.2.2.2.2.2.2.2.1
theorem cC.v1 {s s' : zS} {D : Nat → Prop} {w : Nat} (h : cC s s' D w) : zv s 78 ≤ zv s' 78 := h.2.2.2.2.2.2.2.2.2.2.2.2.1
theorem cC.v2 {s s' : zS} {D : Nat → Prop} {w : Nat} (h : cC s s' D w) : zv s' 78 ≤ zv s 78 + w := h.2.2.2.2.2.2.2.2.2.2.2.2.2.1
theorem cC.nd {s s' : zS} {D : Nat → Prop} {w : Nat} (h : cC s s' D w) : ∀ x : Nat, ¬ D x → za s' 29 x = za s 29 x ∧ za s' 30 x = za s 30 x ∧ za s' 31 x = za s 31 x := h.2.2.2.2.2.2.2.2.2.2.2.2.2.2

theorem cP.c {s s' : zS} {D : Nat → Prop} {w : Nat} (h : cP s s' D w) : cC s s' D w := ⟨h.m, h.e1, h.er, h.s73, h.s76, h.s77, h.mu, h.w1, h.w2, h.r1, h.r2, h.rr, h.v1, h.v2, h.nd⟩
theorem cC.tr {s s1 s2 : zS} {D1 D2 D : Nat → Prop} {w1 w2 w : Nat} (h : cC s s1 D1 w1) (g : cC s1 s2 D2 w2) (h1 : ∀ x, D1 x → D x) (h2 : ∀ x, D2 x → D x) (hw : w1 + w2 ≤ w) : cC s s2 D w := by
  refine ⟨h.m.tr g.m, Int.le_trans h.e1 g.e1, fun e he => ?_, by rw [g.s73, h.s73], by rw [g.s76, h.s76], by rw [g.s77, h.s77], Int.le_trans h.mu g.mu, Int.le_trans h.w1 g.w1, by have := h.w2; have := g.w2; omega, Int.le_trans h.r1 g.r1, by have := h.r2; have := g.r2; omega, fun r hr => ?_, Int.le_trans h.v1 g.v1, by have := h.v2; have := g.v2; omega, fun x hx => ?_⟩
  · obtain ⟨a1, a2, a3, a4, a5⟩ := h.er e he
    obtain ⟨b1, b2, b3, b4, b5⟩ := g.er e (Int.lt_of_lt_of_le he h.e1)
    exact ⟨by rw [b1, a1], by rw [b2, a2], by rw [b3, a3], by rw [b4, a4], fun q => by rw [b5 (by rw [a2]; exact q), a5 q]⟩
  · obtain ⟨a1, a2, a3⟩ := h.rr r hr
    obtain ⟨b1, b2, b3⟩ := g.rr r (Int.lt_of_lt_of_le hr h.r1)
    exact ⟨by rw [b1, a1], by rw [b2, a2], by rw [b3, a3]⟩
  · obtain ⟨a1, a2, a3⟩ := h.nd x (fun q => hx (h1 x q))
    obtain ⟨b1, b2, b3⟩ := g.nd x (fun q => hx (h2 x q))
    exact ⟨by rw [b1, a1], by rw [b2, a2], by rw [b3, a3]⟩
theorem cC.q {s s' : zS} {D : Nat → Prop} {w : Nat} (h : cC s s' D w) : cQ s s' D := ⟨h.m, h.mu, h.w1, h.r1, h.rr, h.nd⟩

theorem cC.own {s s' : zS} {D : Nat → Prop} {w : Nat} {js ks : List Nat} (f : zSm s s' js ks) (m : fm s s') (hj : ([50, 51, 52, 53, 54, 70, 71, 72].all fun j => !js.contains j) = true) (hk : ([49, 69, 73, 75, 76, 77, 78, 81].all fun k => !ks.contains k) = true) (hn : ∀ x : Nat, ¬ D x → za s' 29 x = za s 29 x ∧ za s' 30 x = za s 30 x ∧ za s' 31 x = za s 31 x) : cC s s' D w := by
  have J : ∀ j, [50, 51, 52, 53, 54, 70, 71, 72].contains j = true → ∀ i, za s' j i = za s j i := fun j h1 i => f.a j i (by
    have := List.all_eq_true.mp hj j (by simpa using h1)
    simpa using this)
  have K : ∀ k, [49, 69, 73, 75, 76, 77, 78, 81].contains k = true → zv s' k = zv s k := fun k h1 => f.v k (by
    have := List.all_eq_true.mp hk k (by simpa using h1)
    simpa using this)
  have a50 := J 50 rfl
  have a51 := J 51 rfl
  have a52 := J 52 rfl
  have a53 := J 53 rfl
  have a54 := J 54 rfl
  have a70 := J 70 rfl
  have a71 := J 71 rfl
  have a72 := J 72 rfl
  have v49 := K 49 rfl
  have v69 := K 69 rfl
  have v73 := K 73 rfl
  have v75 := K 75 rfl
  have v76 := K 76 rfl
  have v77 := K 77 rfl
  have v78 := K 78 rfl
  have v81 := K 81 rfl
  refine ⟨m, by rw [v49]; exact Int.le_refl _, fun e _ => ⟨a50 e, a51 e, a52 e, a53 e, fun _ => a54 e⟩, v73, v76, v77, by rw [v75]; exact Int.le_refl _, by rw [v81]; exact Int.le_refl _, by rw [v81]; omega, by rw [v69]; exact Int.le_refl _, by rw [v69]; omega, fun r _ => ⟨a70 r, a71 r, a72 r⟩, by rw [v78]; exact Int.le_refl _, by rw [v78]; omega, hn⟩
theorem cC.sm {s s' : zS} {D : Nat → Prop} {w : Nat} {js ks : List Nat} (f : zSm s s' js ks) (m : fm s s') (hj : ([50, 51, 52, 53, 54, 70, 71, 72].all fun j => !js.contains j) = true) (hk : ([49, 69, 73, 75, 76, 77, 78, 81].all fun k => !ks.contains k) = true) (h29 : ([29, 30, 31].all fun j => !js.contains j) = true) : cC s s' D w := cC.own f m hj hk (fun x _ => by
  have J : ∀ j, [29, 30, 31].contains j = true → ∀ i, za s' j i = za s j i := fun j h1 i => f.a j i (by
    have := List.all_eq_true.mp h29 j (by simpa using h1)
    simpa using this)
  exact ⟨J 29 rfl x, J 30 rfl x, J 31 rfl x⟩)
theorem cC.rf {s : zS} {D : Nat → Prop} {w : Nat} : cC s s D w := cC.sm (js := []) (ks := []) zSm.rf fm.rf rfl rfl rfl
/-- one more entry -/
theorem cC.ent {s s' : zS} {D : Nat → Prop} {w : Nat} {a k v st ot : Int} (g : cEn s s' a k v st ot) : cC s s' D w := by
  obtain ⟨f, m, g2, g3, -⟩ := g
  have v69 := f.v 69 rfl
  have v73 := f.v 73 rfl
  have v75 := f.v 75 rfl
  have v76 := f.v 76 rfl
  have v77 := f.v 77 rfl
  have v78 := f.v 78 rfl
  have v81 := f.v 81 rfl
  refine ⟨m, by omega, fun e he => ?_, v73, v76, v77, by rw [v75]; exact Int.le_refl _, by rw [v81]; exact Int.le_refl _, by rw [v81]; omega, by rw [v69]; exact Int.le_refl _, by rw [v69]; omega, fun r _ => ⟨f.a 70 r rfl, f.a 71 r rfl, f.a 72 r rfl⟩, by rw [v78]; exact Int.le_refl _, by rw [v78]; omega, fun x _ => ⟨f.a 29 x rfl, f.a 30 x rfl, f.a 31 x rfl⟩⟩
  obtain ⟨q1, q2, q3, q4, q5⟩ := g3 e he
  exact ⟨q1, q2, q3, q4, fun _ => q5⟩
/-- a block's end -/
theorem cC.fin {s s3 s4 : zS} {D : Nat → Prop} {w : Nat} {js : List Nat} (h : cC s s3 D w) (f : zSm s3 s4 js [49, 55, 63, 67, 74, 79, 80]) (hj : ([29, 30, 31, 50, 51, 52, 53, 54, 70, 71, 72].all fun j => !js.contains j) = true) (h49 : zv s4 49 = zv s 49) (h67 : zv s4 67 = zv s 67) (hsv : ∀ i : Nat, (i : Int) < zv s 67 → za s4 68 i = za s 68 i) (h55 : zv s4 55 = zv s 55) (h79 : zv s4 79 = zv s 79) (h80 : zv s4 80 = zv s 80) : cP s s4 D w := by
  have J : ∀ j, [29, 30, 31, 50, 51, 52, 53, 54, 70, 71, 72].contains j = true → ∀ i, za s4 j i = za s3 j i := fun j h1 i => f.a j i (by
    have := List.all_eq_true.mp hj j (by simpa using h1)
    simpa using this)
  refine ⟨h.m.tr (fm.sm f rfl), h67, hsv, by rw [h49]; exact Int.le_refl _, by rw [h49]; omega, fun e he => ?_, h55, by rw [f.v 73 rfl]; exact h.s73, by rw [f.v 76 rfl]; exact h.s76, by rw [f.v 77 rfl]; exact h.s77, h79, h80, by rw [f.v 75 rfl]; exact h.mu, by rw [f.v 81 rfl]; exact h.w1, by rw [f.v 81 rfl]; exact h.w2, by rw [f.v 69 rfl]; exact h.r1, by rw [f.v 69 rfl]; exact h.r2, fun r hr => ?_, by rw [f.v 78 rfl]; exact h.v1, by rw [f.v 78 rfl]; exact h.v2, fun x hx => ?_⟩
  · rw [J 50 rfl, J 51 rfl, J 52 rfl, J 53 rfl, J 54 rfl]
    exact h.er e he
  · rw [J 70 rfl, J 71 rfl, J 72 rfl]
    exact h.rr r hr
  · rw [J 29 rfl, J 30 rfl, J 31 rfl]
    exact h.nd x hx

theorem cP.lo {s1 s2 s3 s4 : zS} {D : Nat → Prop} {w : Nat} (p : cP s2 s3 D w) (f12 : zSm s1 s2 [64, 65, 66] [63, 79]) (f34 : zSm s3 s4 [] [63, 79]) (h79 : zv s4 79 = zv s1 79) : cP s1 s4 D w := ⟨((fm.sm f12 rfl).tr p.m).tr (fm.sm f34 rfl), by have q := p.s67; rw [f12.v 67 rfl] at q; rw [f34.v 67 rfl]; exact q, fun i hi => by rw [f34.a 68 i rfl, p.sv i (by rw [f12.v 67 rfl]; exact hi), f12.a 68 i rfl], by have q := p.e1; rw [f12.v 49 rfl] at q; rw [f34.v 49 rfl]; exact q, by have q := p.e2; rw [f12.v 49 rfl] at q; rw [f34.v 49 rfl]; exact q, fun e he => by have q := p.er e (by rw [f12.v 49 rfl]; exact he); rw [f12.a 50 e rfl, f12.a 51 e rfl, f12.a 52 e rfl, f12.a 53 e rfl, f12.a 54 e rfl] at q; rw [f34.a 50 e rfl, f34.a 51 e rfl, f34.a 52 e rfl, f34.a 53 e rfl, f34.a 54 e rfl]; exact q, by have q := p.s55; rw [f12.v 55 rfl] at q; rw [f34.v 55 rfl]; exact q, by have q := p.s73; rw [f12.v 73 rfl] at q; rw [f34.v 73 rfl]; exact q, by have q := p.s76; rw [f12.v 76 rfl] at q; rw [f34.v 76 rfl]; exact q, by have q := p.s77; rw [f12.v 77 rfl] at q; rw [f34.v 77 rfl]; exact q, h79, by have q := p.s80; rw [f12.v 80 rfl] at q; rw [f34.v 80 rfl]; exact q, by have q := p.mu; rw [f12.v 75 rfl] at q; rw [f34.v 75 rfl]; exact q, by have q := p.w1; rw [f12.v 81 rfl] at q; rw [f34.v 81 rfl]; exact q, by have q := p.w2; rw [f12.v 81 rfl] at q; rw [f34.v 81 rfl]; exact q, by have q := p.r1; rw [f12.v 69 rfl] at q; rw [f34.v 69 rfl]; exact q, by have q := p.r2; rw [f12.v 69 rfl] at q; rw [f34.v 69 rfl]; exact q, fun r hr => by have q := p.rr r (by rw [f12.v 69 rfl]; exact hr); rw [f12.a 70 r rfl, f12.a 71 r rfl, f12.a 72 r rfl] at q; rw [f34.a 70 r rfl, f34.a 71 r rfl, f34.a 72 r rfl]; exact q, by have q := p.v1; rw [f12.v 78 rfl] at q; rw [f34.v 78 rfl]; exact q, by have q := p.v2; rw [f12.v 78 rfl] at q; rw [f34.v 78 rfl]; exact q, fun x hx => by have q := p.nd x hx; rw [f12.a 29 x rfl, f12.a 30 x rfl, f12.a 31 x rfl] at q; rw [f34.a 29 x rfl, f34.a 30 x rfl, f34.a 31 x rfl]; exact q⟩
section LO
variable {s0 : zS} {kids : Nat → List Nat} {up sz : Nat → Nat} {root N : Nat} {Qc : zS → Prop}
theorem GI.s79 {s3 s4 : zS} (g : GI s0 kids root s3) (f34 : zSm s3 s4 [64, 65, 66] [63, 79]) (h0 : 0 ≤ zv s4 79) : GI s0 kids root s4 := by
  have := g.p79 (x := zv s4 79) h0
  refine this.sm (js := [64, 65, 66]) (ks := [63]) ⟨fun j hj => f34.1 j hj, fun k hk => ?_⟩ rfl rfl rfl rfl
  show s4.1 k = if k = 79 then zv s4 79 else s3.1 k
  split
  · rename_i e
    rw [e]
    rfl
  · rename_i e
    refine f34.2 k ?_
    have h1 : ¬ k = 63 := fun q => by rw [q] at hk; exact absurd hk (by decide)
    simp [h1, e]
/-- loops change around a task, and change back -/
theorem PBc.lo {s1 s2 s3 s4 : zS} {ks : List Nat} (h : fF s0 kids up sz [root] N) (hks : ∀ c ∈ ks, c < N) (p : PBc s0 kids up sz root N s2 s3 ks) (f12 : zSm s1 s2 [64, 65, 66] [63, 79]) (f34 : zSm s3 s4 [] [63, 79]) (h79 : zv s4 79 = zv s1 79) (h0 : 0 ≤ zv s1 79) : PBc s0 kids up sz root N s1 s4 ks := by
  obtain ⟨p1, p2, p3, p4, p5⟩ := p
  have c34 : cQ s3 s4 (fun _ => False) := cQ.sm f34 (fm.sm f34 rfl) rfl rfl
  refine ⟨p1.lo f12 f34 h79, p2.s79 (zSm.rf.tr f34 rfl rfl) (by omega), fun r h1 h2 => ?_, fun z c hc => ?_, ?_⟩
  · rw [f34.v 69 rfl] at h2
    obtain ⟨c, hc, q⟩ := p3 r (by rw [f12.v 69 rfl]; exact h1) h2
    exact ⟨c, hc, q.fr h (hks c hc) h2 c34 (fun _ _ _ _ _ q => q)⟩
  · rw [f34.v 12 rfl] at z
    exact (p4 z c hc).fr h (hks c hc) c34.mu c34.r1 c34.w1 (fun r hr => (c34.rr r hr).2.2) (fun y _ => c34.nd y (fun q => q))
  · rcases p5 with q | ⟨q0, c, hc, x, q1, q2, q3⟩
    · exact Or.inl (by rw [f34.v 82 rfl, q, f12.v 82 rfl])
    · exact Or.inr ⟨by rw [← f12.v 73 rfl]; exact q0, c, hc, x, by rw [f34.v 82 rfl]; exact q1, q2, q3⟩
theorem PB.lo {s1 s2 s3 s4 : zS} {ks : List Nat} (h : fF s0 kids up sz [root] N) (hks : ∀ c ∈ ks, c < N) (p : PB s0 kids up sz root N s2 s3 ks) (f12 : zSm s1 s2 [64, 65, 66] [63, 79]) (f34 : zSm s3 s4 [] [63, 79]) (h79 : zv s4 79 = zv s1 79) (h0 : 0 ≤ zv s1 79) : PB s0 kids up sz root N s1 s4 ks := ⟨p.1.lo h hks f12 f34 h79 h0, by rw [f34.v 49 rfl, p.2.1, f12.v 49 rfl], by rw [f34.v 74 rfl, p.2.2, f12.v 74 rfl]⟩
theorem kL.loops {m : Nat} {s : zS} {l : List cT} {a : Int} (h : cTk s ((10, 0, a) :: l)) (hl : l.length < 26000) (h0 : zR (zv s 79 + a)) (hq : ∀ s', zSm s s' [] [63, 79] → zv s' 79 = zv s 79 + a → cTk s' l → kL Qc m s') : kL Qc (m + 1) s := by
  refine kL.step h hl (fun s1 f1 k1 => go_10 ?_)
  have e79 : zv s1 79 = zv s 79 := f1.v 79 rfl
  rw [e79]
  refine ⟨h0, hq _ ((zSm.rf.tr f1 rfl rfl : zSm s s1 [] [63, 79]).pv rfl) rfl (k1.sm (js := []) (ks := [79]) (zSm.rf.pv rfl) rfl rfl)⟩
end LO

section CS
variable {s : zS} {n c c2 : Nat} {Q : zS → Prop}
theorem co_21 (hn : n < 26000) (hk : za s 25 n = 21) (hc : za s 27 n = (c : Int)) (hcl : c < 26000) (hq : wr_task s 3 c 0 Q) : wr_commandOf s n Q := by
  unfold wr_commandOf
  rw [Int.toNat_natCast, hk, hc]
  repeat' (first | (with_reducible exact hq) | (with_reducible apply And.intro) | omega | (intro c; exact absurd c (by decide)) | (intro c; exact absurd rfl c) | (with_reducible intro _) | fail)
theorem co_22 (hn : n < 26000) (hk : za s 25 n = 22) (hc : za s 27 n = (c : Int)) (hcl : c < 26000) (hq : wr_task s 2 (za s 28 c) 0 (fun s20 => wr_task s20 3 c 0 (fun s26 => Q s26))) : wr_commandOf s n Q := by
  unfold wr_commandOf
  rw [Int.toNat_natCast, hk, hc, Int.toNat_natCast]
  repeat' (first | (with_reducible exact hq) | (with_reducible apply And.intro) | omega | (intro c; exact absurd c (by decide)) | (intro c; exact absurd rfl c) | (with_reducible intro _) | fail)
theorem co_23 (hn : n < 26000) (hk : za s 25 n = 23) (hc : za s 27 n = (c : Int)) (hcl : c < 26000) (hq : wr_task s 2 (za s 28 c) 0 (fun s20 => wr_task s20 3 c 0 (fun s26 => Q s26))) : wr_commandOf s n Q := by
  unfold wr_commandOf
  rw [Int.toNat_natCast, hk, hc, Int.toNat_natCast]
  repeat' (first | (with_reducible exact hq) | (with_reducible apply And.intro) | omega | (intro c; exact absurd c (by decide)) | (intro c; exact absurd rfl c) | (with_reducible intro _) | fail)
theorem co_24 (hn : n < 26000) (hk : za s 25 n = 24) (hc : za s 27 n = (c : Int)) (hcl : c < 26000) (hc2 : za s 28 c = (c2 : Int)) (hcl2 : c2 < 26000) (hq : wr_task s 2 (za s 28 c2) 0 (fun s235 => (0 ≤ (c : Int)) ∧ ((c : Int) < 26000) ∧ wr_task s235 2 (za s235 28 c) 0 (fun s245 => wr_task s245 3 c 0 (fun s251 => Q s251)))) : wr_commandOf s n Q := by
  unfold wr_commandOf
  rw [Int.toNat_natCast, hk, hc, Int.toNat_natCast, hc2, Int.toNat_natCast]
  repeat' (first | (with_reducible exact hq) | (with_reducible apply And.intro) | omega | (intro c; exact absurd c (by decide)) | (intro c; exact absurd rfl c) | (with_reducible intro _) | fail)
theorem co_25 (hn : n < 26000) (hk : za s 25 n = 25) (hc : za s 27 n = (c : Int)) (hcl : c < 26000) (hq : wr_commandOf_191 Q s c) : wr_commandOf s n Q := by
  unfold wr_commandOf
  rw [Int.toNat_natCast, hk, hc]
  repeat' (first | (with_reducible exact hq) | (with_reducible apply And.intro) | omega | (intro c; exact absurd c (by decide)) | (intro c; exact absurd rfl c) | (with_reducible intro _) | fail)
theorem co_26 (hn : n < 26000) (hk : za s 25 n = 26) (hc : za s 27 n = (c : Int)) (hcl : c < 26000) (hq : wr_commandOf_191 Q s c) : wr_commandOf s n Q := by
  unfold wr_commandOf
  rw [Int.toNat_natCast, hk, hc]
  repeat' (first | (with_reducible exact hq) | (with_reducible apply And.intro) | omega | (intro c; exact absurd c (by decide)) | (intro c; exact absurd rfl c) | (with_reducible intro _) | fail)
theorem co_39 (hn : n < 26000) (hk : za s 25 n = 39) (hc : za s 27 n = (c : Int)) (hcl : c < 26000) (hq : wr_commandOf_275 Q s c) : wr_commandOf s n Q := by
  unfold wr_commandOf
  rw [Int.toNat_natCast, hk, hc]
  repeat' (first | (with_reducible exact hq) | (with_reducible apply And.intro) | omega | (intro c; exact absurd c (by decide)) | (intro c; exact absurd rfl c) | (with_reducible intro _) | fail)
theorem co_40 (hn : n < 26000) (hk : za s 25 n = 40) (hc : za s 27 n = (c : Int)) (hcl : c < 26000) (hq : wr_commandOf_275 Q s c) : wr_commandOf s n Q := by
  unfold wr_commandOf
  rw [Int.toNat_natCast, hk, hc]
  repeat' (first | (with_reducible exact hq) | (with_reducible apply And.intro) | omega | (intro c; exact absurd c (by decide)) | (intro c; exact absurd rfl c) | (with_reducible intro _) | fail)
theorem co_38 (hn : n < 26000) (hk : za s 25 n = 38) (hc : za s 27 n = (c : Int)) (hcl : c < 26000) (hq : wr_task s 10 0 (-1) (fun s209 => wr_task s209 2 c 0 (fun s215 => (zR ((zv s215 79) + 1)) ∧ Q (zpv s215 79 ((zv s215 79) + 1))))) : wr_commandOf s n Q := by
  unfold wr_commandOf
  rw [Int.toNat_natCast, hk, hc]
  repeat' (first | (with_reducible exact hq) | (with_reducible apply And.intro) | omega | (intro c; exact absurd c (by decide)) | (intro c; exact absurd rfl c) | (with_reducible intro _) | fail)
theorem co_27 (hn : n < 26000) (hk : za s 25 n = 27) (hc : za s 27 n = (c : Int)) (hcl : c < 26000) (hq : wr_task s 11 n 0 (fun s177 => (0 ≤ (c : Int)) ∧ ((c : Int) < 26000) ∧ (0 ≤ (za s177 28 c)) ∧ ((za s177 28 c) < 26000) ∧ wr_task s177 3 (za s177 28 (Int.toNat (za s177 28 c))) 0 (fun s191 => (0 ≤ (c : Int)) ∧ ((c : Int) < 26000) ∧ wr_task s191 3 (za s191 28 c) 0 (fun s201 => Q s201)))) : wr_commandOf s n Q := by
  unfold wr_commandOf
  rw [Int.toNat_natCast, hk, hc, Int.toNat_natCast]
  repeat' (first | (with_reducible exact hq) | (with_reducible apply And.intro) | omega | (intro c; exact absurd c (by decide)) | (intro c; exact absurd rfl c) | (with_reducible intro _) | fail)
theorem co_28 (hn : n < 26000) (hk : za s 25 n = 28) (hc : za s 27 n = (c : Int)) (hcl : c < 26000) (hq : wr_task s 12 n 0 (fun s164 => wr_task s164 3 c 0 (fun s170 => Q s170))) : wr_commandOf s n Q := by
  unfold wr_commandOf
  rw [Int.toNat_natCast, hk, hc]
  repeat' (first | (with_reducible exact hq) | (with_reducible apply And.intro) | omega | (intro c; exact absurd c (by decide)) | (intro c; exact absurd rfl c) | (with_reducible intro _) | fail)
theorem co_36 (hn : n < 26000) (hk : za s 25 n = 36) (hq : wr_beginBlock s (fun s143 => wr_labelsOf s143 n (fun s149 => wr_task s149 9 0 0 (fun s155 => ∃ m, wr_commandOf_417 Q m s155 (zv s155 63) (za s 27 n))))) : wr_commandOf s n Q := by
  unfold wr_commandOf
  rw [Int.toNat_natCast, hk]
  repeat' (first | (with_reducible exact hq) | (with_reducible apply And.intro) | omega | (intro c; exact absurd c (by decide)) | (intro c; exact absurd rfl c) | (with_reducible intro _) | fail)
theorem co_35 (hn : n < 26000) (hk : za s 25 n = 35) (hq : wr_goesTo s n (fun s104 => Q s104)) : wr_commandOf s n Q := by
  unfold wr_commandOf
  rw [Int.toNat_natCast, hk]
  repeat' (first | (with_reducible exact hq) | (with_reducible apply And.intro) | omega | (intro c; exact absurd c (by decide)) | (intro c; exact absurd rfl c) | (with_reducible intro _) | fail)
theorem co_33 (hn : n < 26000) (hk : za s 25 n = 33) (hc : za s 27 n = (c : Int)) (t0 : 0 ≤ za s 26 n) (t1 : za s 26 n ≤ 12000) (hq : ∀ s1, zSm s s1 [] [12, 13] → fm s s1 → (zv s1 12 = 0 → ¬ zv s 77 = 0) → wr_task s1 3 c 0 Q) : wr_commandOf s n Q := by
  have hq0 : ((¬ (zv s 77) = 0 → wr_task s 3 c 0 (fun s113 => Q s113)) ∧ ((zv s 77) = 0 → (0 ≤ (n : Int)) ∧ ((n : Int) < 26000) ∧ wr_place s (za s 26 n) (fun r123 s124 => wr_fault s124 6 r123 (fun s130 => wr_task s130 3 c 0 (fun s136 => Q s136))))) := by
    refine ⟨fun q => hq s zSm.rf fm.rf (fun _ => q), fun _ => ⟨by omega, by omega, sp_place s _ t0 t1 (fun r => ?_)⟩⟩
    refine ffm_fault (sp_faultN s 6 r (by decide)) ?_
    rintro s1 - ⟨f, q⟩
    exact hq s1 f (fun _ => q) (fun z => absurd z q)
  replace hq := hq0
  unfold wr_commandOf
  rw [Int.toNat_natCast, hk, hc]
  repeat' (first | (with_reducible exact hq) | (with_reducible apply And.intro) | omega | (intro c; exact absurd c (by decide)) | (intro c; exact absurd rfl c) | (with_reducible intro _) | fail)
theorem co_end (hn : n < 26000) (hk : za s 25 n = 29 ∨ za s 25 n = 30 ∨ za s 25 n = 31 ∨ za s 25 n = 32 ∨ za s 25 n = 34 ∨ za s 25 n = 37) (t0 : 0 ≤ za s 26 n) (t1 : za s 26 n ≤ 12000) (hq : ∀ s1, zSm s s1 [] [12, 13] → fm s s1 → (zv s1 12 = 0 → ((za s 25 n = 29 ∨ za s 25 n = 30) → ¬ zv s 79 = 0) ∧ (za s 25 n = 31 → ¬ zv s 80 = 0) ∧ (za s 25 n = 32 → zv s 76 = 0)) → Q s1) : wr_commandOf s n Q := by
  have F : wr_place s (za s 26 n) (fun r s1 => wr_fault s1 6 r (fun s2 => Q s2)) := sp_place s _ t0 t1 (fun r => by
    refine ffm_fault (sp_faultN s 6 r (by decide)) ?_
    rintro s1 - ⟨f, q⟩
    exact hq s1 f (fun _ => q) (fun z => absurd z q))
  have ok : (((za s 25 n = 29 ∨ za s 25 n = 30) → ¬ zv s 79 = 0) ∧ (za s 25 n = 31 → ¬ zv s 80 = 0) ∧ (za s 25 n = 32 → zv s 76 = 0)) → Q s := fun k => hq s zSm.rf fm.rf (fun _ => k)
  unfold wr_commandOf
  rw [Int.toNat_natCast]
  rcases hk with hk | hk | hk | hk | hk | hk <;> rw [hk] at ok ⊢ <;> unfold wr_commandOf_540 <;> rw [Int.toNat_natCast] <;> repeat' (first | (with_reducible exact F) | (with_reducible apply And.intro) | omega | (intro c; exact absurd c (by decide)) | (intro c; exact absurd rfl c) | (with_reducible intro _) | (refine ok ⟨fun _ => ?_, fun _ => ?_, fun _ => ?_⟩ <;> omega) | fail)

end CS
