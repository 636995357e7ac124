/-! THE CLASS'S PARSER: LABELS, NAMES, SIGNS -/
/-- the kinds of nodes that were there -/
def jKk (A A' : cS) : Prop := ∀ i : Nat, i < yz A 7 → yget A' 7 i = yget A 7 i
theorem jKk.rf {A : cS} : jKk A A := fun _ _ => rfl
theorem jKk.tr {A A1 A2 : cS} (h : jKk A A1) (g : jKk A1 A2) (z : yz A 7 ≤ yz A1 7) : jKk A A2 := fun i hi => (g i (by omega)).trans (h i hi)
theorem jKk.u {A A1 : cS} (u : jU A A1 jO) : jKk A A1 := fun i hi => u 7 i (by decide) (by decide) hi (fun q => q)
theorem jKk.sm {A A1 : cS} {js ks : List Nat} (f : ySm A A1 js ks) (h : js.contains 7 = false) : jKk A A1 := fun i _ => f.g 7 i h
theorem jD.s {A0 A : cS} {n : Nat} {l : List jC} {K D X a b d : Int} (h : jD A0 A n l K D X a b d) : jS A := h.1.s
theorem jAll1 {l : List jC} {c : jC} {h : Nat} (a : ∀ c ∈ l, c.1 ≤ h) (b : c.1 ≤ h) : ∀ x ∈ l ++ [c], x.1 ≤ h := fun x hx => by
  rcases List.mem_append.mp hx with q | q
  · exact a x q
  · have : x = c := by simpa using q
    rw [this]
    exact b
theorem cs_labels {A0 A : cS} {n : Nat} {l : List jC} {K D X a b d : Int} (D0 : jD A0 A n l K D X a b d) (h7 : j7 A0 + a ≤ 2980) {Q : cS → Prop} (hq : ∀ A' l2, (∀ c ∈ l2, c.1 ≤ 1) → jD A0 A' n (l ++ l2) K D X a b d → Q A') : wc_Parser_labels A n Q := by
  have L : ∀ (m : Nat) (A1 : cS) (x : Int) (l1 : List jC), jD A0 A1 n (l ++ l1) K D X a b d → (∀ c ∈ l1, c.1 ≤ 1) → 0 ≤ x → x ≤ yv A1 10 → jt A1 < m → wc_Parser_labels_2 Q m A1 n x := by
    intro m
    induction m with
    | zero => intro A1 x l1 D1 _ _ _ h; have := D1.s.a; unfold jt at h; omega
    | succ m ih =>
      intro A1 x l1 D1 hl h0 h1 h2
      have sa := D1.s.a
      have e3 := D1.s.e.2.2.1
      have b7 := D1.x.n.2.1
      unfold wc_Parser_labels_2
      unfold wc_Parser_labels_2B
      refine ⟨fun _ => hq A1 l1 hl D1, fun _ => ?_⟩
      unfold wc_Parser_kind
      refine ⟨fun _ => hq A1 l1 hl D1, fun c2 => ⟨⟨by omega, by omega⟩, fun _ => hq A1 l1 hl D1, fun c12 => ?_⟩⟩
      refine cs_leaf D1.s (by omega) (by rw [c2]; decide) 99 (fun A2 f2 x2 e2 w2 => ?_)
      refine D1.kid x2 w2.1 (w2.N x2 (h := 1) (by decide) (by decide) (by decide) (by decide)) (fun A3 c c1 cn f3 _ _ D3 => ?_)
      have e10 : yv A3 10 = yv A1 10 + 1 := by rw [f3.v 10 rfl]; exact e2
      have k3 : yget A3 14 (yv A3 10) = 12 := by rw [e10, f3.g 14 _ rfl, f2.g 14 _ rfl]; exact c12
      refine cs_adv D3.s (by rw [k3]; decide) (fun A4 f4 x4 e4 => ⟨⟨by omega, by omega⟩, ?_⟩)
      have D4 := (D3.sm x4 f4 rfl).le (a' := a) (b' := b) (d' := d) (by omega) (by omega) (by omega)
      rw [List.append_assoc] at D4
      refine ih A4 _ _ D4 (jAll1 hl (by omega)) (by omega) (by omega) ?_
      have : jt A4 = jt A1 - 2 := by
        unfold jt
        rw [f4.z 14 rfl, f3.z 14 rfl, f2.z 14 rfl]
        omega
      omega
  unfold wc_Parser_labels
  exact ⟨(jt A).toNat + 1, L _ A 0 [] (by rw [List.append_nil]; exact D0) (fun c hc => absurd hc List.not_mem_nil) (by omega) (D0.s.a).1 (by omega)⟩
theorem cs_names {A0 A : cS} {n : Nat} {l : List jC} {K D X a b d : Int} (D0 : jD A0 A n l K D X a b d) (h7 : j7 A0 + a ≤ 2980) {Q E : cS → Prop} (hE : ∀ A', jF A A' → jB5 A' → E A') (hq : ∀ A' l2, (∀ c ∈ l2, c.1 ≤ 1) → jD A0 A' n (l ++ l2) K D X a b d → Q A') : wc_Parser_names A n Q E := by
  have L : ∀ (m : Nat) (A1 : cS) (x : Int) (l1 : List jC), jF A A1 → jD A0 A1 n (l ++ l1) K D X a b d → (∀ c ∈ l1, c.1 ≤ 1) → 0 ≤ x → x ≤ yv A1 10 + 1 → jt A1 < m → wc_Parser_names_2 Q E m A1 n x := by
    intro m
    induction m with
    | zero => intro A1 x l1 _ D1 _ _ _ h; have := D1.s.a; unfold jt at h; omega
    | succ m ih =>
      intro A1 x l1 F1 D1 hl h0 h1 h2
      have sa := D1.s.a
      have e3 := D1.s.e.2.2.1
      have b7 := D1.x.n.2.1
      unfold wc_Parser_names_2
      unfold wc_Parser_names_2B
      refine ⟨fun _ => hq A1 l1 hl D1, fun _ => ?_⟩
      unfold wc_Parser_kind
      refine ⟨fun c2 => ?_, fun _ => cs_refuse D1.s _ (fun A' f b => hE A' (F1.tr f rfl rfl) b)⟩
      refine cs_leaf D1.s (by omega) (by rw [c2]; decide) 2 (fun A2 f2 x2 e2 w2 => ?_)
      refine D1.kid x2 w2.1 (w2.N x2 (h := 1) (by decide) (by decide) (by decide) (by decide)) (fun A3 c c1 cn f3 _ _ D3 => ?_)
      have e10 : yv A3 10 = yv A1 10 + 1 := by rw [f3.v 10 rfl]; exact e2
      have D3' := D3.le (a' := a) (b' := b) (d' := d) (by omega) (by omega) (by omega)
      rw [List.append_assoc] at D3'
      have F3 : jF A A3 := (F1.tr x2.f rfl rfl).tr f3 rfl rfl
      refine ⟨fun _ => hq A3 _ (jAll1 hl (by omega)) D3', fun c9 => ⟨fun _ => cs_adv D3.s (by rw [c9]; decide) (fun A4 f4 x4 e4 => ⟨⟨by omega, by omega⟩, ?_⟩), fun _ => hq A3 _ (jAll1 hl (by omega)) D3'⟩⟩
      have D4 := (D3'.sm x4 f4 rfl).le (a' := a) (b' := b) (d' := d) (by omega) (by omega) (by omega)
      refine ih A4 _ _ (F3.tr x4.f rfl rfl) D4 (jAll1 hl (by omega)) (by omega) (by omega) ?_
      have : jt A4 = jt A1 - 2 := by
        unfold jt
        rw [f4.z 14 rfl, f3.z 14 rfl, f2.z 14 rfl]
        omega
      omega
  unfold wc_Parser_names
  exact ⟨(jt A).toNat + 1, L _ A 1 [] ySm.rf (by rw [List.append_nil]; exact D0) (fun c hc => absurd hc List.not_mem_nil) (by omega) (by have := D0.s.a; omega) (by omega)⟩
theorem cs_passSigns {A : cS} (s : jS A) (h7 : j7 A ≤ 2980) (w : Int) {Q E : cS → Prop} (hE : ∀ A', jF A A' → jB5 A' → E A') (hq : ∀ A' d, 0 ≤ d → ySm A A' [22] [10, 11] → jX A A' 0 0 d → Q A') : wc_Parser_passSigns A w Q E := by
  have L : ∀ (m : Nat) (A1 : cS) (x2 x : Int) (d : Int), 0 ≤ d → ySm A A1 [22] [10, 11] → jX A A1 0 0 d → 0 ≤ x → x ≤ yv A1 10 → jt A1 < m → wc_Parser_passSigns_4 Q E m A1 x2 x := by
    intro m
    induction m with
    | zero => intro A1 x2 x d _ _ X1 _ _ h; have := X1.s.a; unfold jt at h; omega
    | succ m ih =>
      intro A1 x2 x d hd F1 X1 h0 h1 h2
      have sa := X1.s.a
      have e3 := X1.s.e.2.2.1
      have b7 := X1.n.2.1
      have one : ¬ yget A1 14 (yv A1 10) = 0 → ∀ (y0 k : Int), wc_Parser_enter A1 (fun A4 => wc_Parser_place A4 (fun r11 A12 => ∀ z19 : Int, z19 = zw (r11 * 128) → zR z19 → ∀ z23 : Int, z23 = zw (z19 + k) → zR z23 → wc_Parser_advance A12 (fun A28 => wc_Parser_place A28 (fun r35 A36 => ((yz A36 22) < 3000) ∧ ((yz (yadd A36 22 r35) 22) < 3000) ∧ (zR (x + 1)) ∧ wc_Parser_passSigns_4 Q E m (yadd (yadd A36 22 r35) 22 z23) y0 (x + 1))))) E := fun hk y0 k => by
        refine cs_enter X1.s (fun A' f b => hE A' ((ySm.rf.tr F1 rfl rfl : jF A A1).tr f rfl rfl) b) (fun dd A2 f2 x2' => ?_)
        unfold wc_Parser_place
        intro z19 _ _ z23 _ _
        refine cs_adv x2'.s (by rw [f2.v 10 rfl, f2.g 14 _ rfl]; exact hk) (fun A3 f3 x3 e3' => ?_)
        have b3 := (X1.tr x2').tr x3
        have n3 := b3.n.2.1
        have z22 := j7_22 b3.s (by omega)
        have f4 : ySm A3 (yadd (yadd A3 22 (yget A3 16 (yv A3 10))) 22 z23) [22] [] := (ySm.rf.add rfl).add rfl
        have z4 : yz (yadd (yadd A3 22 (yget A3 16 (yv A3 10))) 22 z23) 22 = yz A3 22 + 1 + 1 := rfl
        have z4' : yz (yadd A3 22 (yget A3 16 (yv A3 10))) 22 = yz A3 22 + 1 := rfl
        have e4 : yv (yadd (yadd A3 22 (yget A3 16 (yv A3 10))) 22 z23) 10 = yv A3 10 := rfl
        have e10 : yv A3 10 = yv A1 10 + 1 := by rw [e3', f2.v 10 rfl]
        refine ⟨by omega, by omega, ⟨by omega, by omega⟩, ?_⟩
        generalize yadd (yadd A3 22 (yget A3 16 (yv A3 10))) 22 z23 = A4 at f4 z4 e4
        have x4 : jX A3 A4 2 0 0 := jX.r22 b3.s f4 (by omega)
        refine ih A4 _ _ (d + 1) (by omega) (((F1.tr f2 rfl rfl).tr f3 rfl rfl).tr f4 rfl rfl) ((b3.tr x4).le (by omega) (by omega) (by omega)) (by omega) (by omega) ?_
        have : jt A4 = jt A1 - 1 := by
          unfold jt
          rw [f4.z 14 rfl, f3.z 14 rfl, f2.z 14 rfl]
          omega
        omega
      have P : ¬ yget A1 14 (yv A1 10) = 0 → ∀ k y, wc_Parser_passSigns_80 Q E (wc_Parser_passSigns_4 Q E m) A1 x2 x k y := fun hk k y => by
        unfold wc_Parser_passSigns_80
        exact ⟨fun _ => one hk _ _, fun _ => ⟨fun _ => one hk _ _, fun _ => one hk _ _⟩⟩
      have R : ∀ y, ¬ yget A1 14 (yv A1 10) = 0 ∨ True → wc_Parser_passSigns_42 Q E (wc_Parser_passSigns_4 Q E m) A1 x2 x (yget A1 14 (yv A1 10)) y ∨ True := fun _ _ => Or.inr trivial
      have T : ∀ y, (¬ y = 0 → ¬ yget A1 14 (yv A1 10) = 0) → wc_Parser_passSigns_42 Q E (wc_Parser_passSigns_4 Q E m) A1 x2 x (yget A1 14 (yv A1 10)) y := fun y hy => by
        unfold wc_Parser_passSigns_42
        exact ⟨fun c => P (by omega) _ _, fun _ => ⟨fun _ => ⟨fun _ => hq A1 d hd F1 X1, fun _ => ⟨fun c => P (hy c) _ _, fun _ => hq A1 d hd F1 X1⟩⟩, fun c => P (by omega) _ _⟩⟩
      unfold wc_Parser_passSigns_4
      unfold wc_Parser_passSigns_4B
      refine ⟨fun _ => hq A1 d hd F1 X1, fun _ => ?_⟩
      unfold wc_Parser_kind
      exact ⟨fun c => T 1 (fun _ => by omega), fun _ => ⟨fun c => T 1 (fun _ => by omega), fun _ => ⟨fun _ => T 0 (fun q => absurd rfl q), fun c => T 1 (fun _ => by omega)⟩⟩⟩
  unfold wc_Parser_passSigns
  exact ⟨(jt A).toNat + 1, L _ A w 0 0 (by omega) ySm.rf (jX.rf s) (by omega) s.a.1 (by omega)⟩
theorem cs_hangSigns {A0 A : cS} {n : Nat} {l : List jC} {K D X a b d : Int} (D0 : jD A0 A n l K D X a b d) (h7 : j7 A0 + a ≤ 2980) (base : Int) (hb : 0 ≤ base) {Q : cS → Prop} (hq : ∀ A' l2, (∀ c ∈ l2, c.1 ≤ 1) → jD A0 A' n (l ++ l2) K D X a b d → ySm A A' [7, 8, 9, 10, 11, 12, 13, 22] [] → jKk A A' → yz A 7 ≤ yz A' 7 → Q A') : wc_Parser_hangSigns A n base Q := by
  have z0 := j7_22 D0.s (by have := D0.x.n.2.1; omega)
  have L : ∀ (m : Nat) (A1 : cS) (x : Int) (l1 : List jC), ySm A A1 [7, 8, 9, 10, 11, 12, 13, 22] [] → jKk A A1 → yz A 7 ≤ yz A1 7 → jD A0 A1 n (l ++ l1) K D X a b d → (∀ c ∈ l1, c.1 ≤ 1) → 0 ≤ x → x + yz A1 22 ≤ 3000 → yz A1 22 < m → wc_Parser_hangSigns_2 Q m A1 n base x := by
    intro m
    induction m with
    | zero => intro A1 x l1 _ _ _ _ _ _ _ h; omega
    | succ m ih =>
      intro A1 x l1 F1 G1 Z1 D1 hl h0 h1 h2
      have b7 := D1.x.n.2.1
      unfold wc_Parser_hangSigns_2
      unfold wc_Parser_hangSigns_2B
      refine ⟨fun _ => hq A1 l1 hl D1 F1 G1 Z1, fun _ => ⟨fun _ => hq A1 l1 hl D1 F1 G1 Z1, fun c => ?_⟩⟩
      intro z7 _ _
      have f2 : ySm A1 (ypop (ypop A1 22) 22) [22] [] := (ySm.rf.pop rfl).pop rfl
      have z2 : yz (ypop (ypop A1 22) 22) 22 = yz A1 22 - 1 - 1 := rfl
      have P : ∀ (x4 x5 x6 y0 : Int), 85 ≤ y0 ∧ y0 ≤ 87 → wc_Parser_hangSigns_80 Q (wc_Parser_hangSigns_2 Q m) (ypop (ypop A1 22) 22) n base x x4 x5 x6 y0 := fun x4 x5 x6 y0 hy => by
        generalize ypop (ypop A1 22) 22 = A2 at f2 z2
        have x2 : jX A1 A2 (-1) 0 0 := jX.r22 D1.s f2 (by omega)
        have D2 := D1.sm x2 f2 rfl
        have G : ∀ dd, wc_Tree_node A2 y0 x5 dd (fun r3 A4 => wc_Tree_hang A4 n r3 (fun A12 => (zR (x + 1)) ∧ wc_Parser_hangSigns_2 Q m A12 n base (x + 1))) := fun dd => by
          refine cs_node D2.s (by have := D2.x.n.2.1; omega) _ _ _ (fun A3 f3 x3 w3 => ?_)
          refine D2.kid x3 w3.1 (w3.N x3 (h := 1) (by rw [jkap_1 (by omega)]; decide) (by omega) (by omega) (by omega)) (fun A4 cc c1 cn f4 zk _ D4 => ⟨⟨by omega, by omega⟩, ?_⟩)
          have D4' := D4.le (a' := a) (b' := b) (d' := d) (by omega) (by omega) (by omega)
          rw [List.append_assoc] at D4'
          have z4 : yz A4 22 = yz A2 22 := by rw [f4.z 22 rfl, f3.z 22 rfl]
          have zz3 := x3.n.2.2.2.2.1
          have z24 : yz A2 7 = yz A1 7 := f2.z 7 rfl
          have z34 : yz A4 7 = yz A3 7 := zk
          exact ih A4 _ _ (((F1.tr f2 rfl rfl).tr f3 rfl rfl).tr f4 rfl rfl) (((G1.tr (jKk.sm f2 rfl) Z1).tr (jKk.u w3.1) (by omega)).tr (jKk.sm f4 rfl) (by omega)) (by omega) D4' (jAll1 hl (by omega)) (by omega) (by omega) (by omega)
        unfold wc_Parser_hangSigns_80
        exact ⟨fun _ => G _, fun _ => G _⟩
      exact ⟨fun _ => ⟨fun _ => P _ _ _ _ (by decide), fun _ => P _ _ _ _ (by decide)⟩, fun _ => P _ _ _ _ (by decide)⟩
  unfold wc_Parser_hangSigns
  exact ⟨yz A 22 + 1, L _ A 0 [] ySm.rf jKk.rf (Nat.le_refl _) (by rw [List.append_nil]; exact D0) (fun c hc => absurd hc List.not_mem_nil) (by omega) (by omega) (by omega)⟩
theorem cs_settle {A0 A : cS} {n : Nat} {l : List jC} {K D X a b d : Int} (D0 : jD A0 A n l K D X a b d) (h7 : j7 A0 + a ≤ 2980) (base next : Int) (hb : 0 ≤ base) {Q : cS → Prop} (hq : ∀ A' l2, (∀ c ∈ l2, c.1 ≤ 1) → jD A0 A' n (l ++ l2) K D X a b d → ySm A A' [7, 8, 9, 10, 11, 12, 13, 22] [] → jKk A A' → yz A 7 ≤ yz A' 7 → Q A') : wc_Parser_settle A n base next Q := by
  have z0 := j7_22 D0.s (by have := D0.x.n.2.1; omega)
  have L : ∀ (m : Nat) (A1 : cS) (x : Int) (l1 : List jC), ySm A A1 [7, 8, 9, 10, 11, 12, 13, 22] [] → jKk A A1 → yz A 7 ≤ yz A1 7 → jD A0 A1 n (l ++ l1) K D X a b d → (∀ c ∈ l1, c.1 ≤ 1) → 0 ≤ x → x + yz A1 22 ≤ 3000 → yz A1 22 < m → wc_Parser_settle_3 Q m A1 n base next x := by
    intro m
    induction m with
    | zero => intro A1 x l1 _ _ _ _ _ _ _ h; omega
    | succ m ih =>
      intro A1 x l1 F1 G1 Z1 D1 hl h0 h1 h2
      have b7 := D1.x.n.2.1
      unfold wc_Parser_settle_3
      unfold wc_Parser_settle_3B
      refine ⟨fun _ => hq A1 l1 hl D1 F1 G1 Z1, fun _ => ⟨fun _ => hq A1 l1 hl D1 F1 G1 Z1, fun c => ?_⟩⟩
      intro z7 _ _
      refine cs_power A1 _ (fun r11 _ => cs_power A1 _ (fun r19 _ => ⟨fun _ => ?_, fun _ => hq A1 l1 hl D1 F1 G1 Z1⟩))
      have f2 : ySm A1 (ypop A1 22) [22] [] := ySm.rf.pop rfl
      have z2 : yz (ypop A1 22) 22 = yz A1 22 - 1 := rfl
      generalize ypop A1 22 = A2 at f2 z2
      have x2 : jX A1 A2 (-1) 0 0 := jX.r22 D1.s f2 (by omega)
      have D2 := D1.sm x2 f2 rfl
      refine cs_node D2.s (by have := D2.x.n.2.1; omega) _ _ _ (fun A3 f3 x3 w3 => ?_)
      have E : ∀ v, wc_Tree_setExtra A3 (yz A2 7 : Nat) v (fun A52 => wc_Tree_hang A52 n (yz A2 7 : Nat) (fun A60 => (zR (x + 1)) ∧ wc_Parser_settle_3 Q m A60 n base next (x + 1))) := fun v => by
        unfold wc_Tree_setExtra
        obtain ⟨f5, D5q⟩ := (jD.new x3 w3).cell (j := 10) (Or.inr (Or.inr rfl)) v
        have D5 : jD A2 (yset A3 10 (yz A2 7 : Nat) v) (yz A2 7) [] 88 z7 v 1 0 0 := D5q
        have N5 := D5.N (hh := 1) (fun c hc => absurd hc List.not_mem_nil) (by decide) (jShp.o (by decide) (by decide) (by decide))
        refine D2.kid D5.x D5.u N5 (fun A4 cc c1 cn f4 zk _ D4 => ⟨⟨by omega, by omega⟩, ?_⟩)
        have D4' := D4.le (a' := a) (b' := b) (d' := d) (by omega) (by omega) (by omega)
        rw [List.append_assoc] at D4'
        have z4 : yz A4 22 = yz A2 22 := by rw [f4.z 22 rfl, f5.z 22 rfl, f3.z 22 rfl]
        have zz3 := x3.n.2.2.2.2.1
        have z24 : yz A2 7 = yz A1 7 := f2.z 7 rfl
        have z35 : yz (yset A3 10 (yz A2 7 : Nat) v) 7 = yz A3 7 := rfl
        have z34 : yz A4 7 = yz A3 7 := zk
        exact ih A4 _ _ ((((F1.tr f2 rfl rfl).tr f3 rfl rfl).tr f5 rfl rfl).tr f4 rfl rfl) ((((G1.tr (jKk.sm f2 rfl) Z1).tr (jKk.u w3.1) (by omega)).tr (jKk.sm f5 rfl) (by omega)).tr (jKk.sm f4 rfl) (by omega)) (by omega) D4' (jAll1 hl (by omega)) (by omega) (by omega) (by omega)
      exact cs_isRelation A3 _ (fun r41 => ⟨fun _ => E _, fun _ => cs_isRelation A3 _ (fun r70 => ⟨fun _ => E _, fun _ => E _⟩)⟩)
  unfold wc_Parser_settle
  exact ⟨yz A 22 + 1, L _ A 0 [] ySm.rf jKk.rf (Nat.le_refl _) (by rw [List.append_nil]; exact D0) (fun c hc => absurd hc List.not_mem_nil) (by omega) (by omega) (by omega)⟩
theorem cs_pack {A : cS} (s : jS A) (b : j2 A ≤ 79840) (a : Int) {Q : Int → cS → Prop} (hq : ∀ r A', ySm A A' [2] [] → jX A A' 0 52 0 → Q r A') : wc_Parser_pack A a Q := by
  have g := s.e.2.2.2.2.2
  have hc := g.2.2 a
  have L2 : ∀ (m : Nat) (k20 : cS → Int → Int → Int → Int → Prop) (A1 : cS) (x3 x4 x5 x6 : Int), 0 ≤ x4 → x4 ≤ 300 → 0 ≤ x6 → x6 ≤ 4 → 4 - x6 < m → jS A1 → j2 A1 ≤ 79899 → (∀ A', ySm A1 A' [2] [] → jX A1 A' 0 1 0 → k20 A' a (yget A 17 a) x3 (x4 + 4)) → wc_Parser_pack_32 Q k20 m A1 a (yget A 17 a) x3 x4 x5 x6 := by
    intro m
    induction m with
    | zero => intro k20 A1 x3 x4 x5 x6 _ _ _ _ h; omega
    | succ m ih =>
      intro k20 A1 x3 x4 x5 x6 h0 h1 h2 h3 h4 s1 b1 hk
      have W : ∀ y, wc_Program_addWord A1 y (fun r3 A4 => (zR (x4 + 4)) ∧ k20 A4 a (yget A 17 a) x3 (x4 + 4)) := fun y => cs_word s1 b1 y (fun r A' f x _ => ⟨⟨by omega, by omega⟩, hk A' f x⟩)
      unfold wc_Parser_pack_32
      unfold wc_Parser_pack_32B
      refine ⟨fun _ => W _, fun _ => ⟨⟨by omega, by omega⟩, fun _ => W _, fun _ => ?_⟩⟩
      intro z29 _ _ z33 _ _
      exact ⟨⟨by omega, by omega⟩, ih k20 A1 _ _ _ _ h0 h1 (by omega) (by omega) (by omega) s1 b1 hk⟩
  have L : ∀ (m : Nat) (A1 : cS) (x3 : Int) (i : Nat), ySm A A1 [2] [] → jX A A1 0 i 0 → (4 * (i : Int)) ≤ yget A 17 a + 4 → yget A 17 a + 8 - 4 * i < 4 * m → wc_Parser_pack_20 Q m A1 a (yget A 17 a) x3 (4 * (i : Int)) := by
    intro m
    induction m with
    | zero => intro A1 x3 i _ _ h1 h2; omega
    | succ m ih =>
      intro A1 x3 i f x h1 h2
      have n2 := x.n.2.2.1
      unfold wc_Parser_pack_20
      unfold wc_Parser_pack_20B
      refine ⟨fun _ => hq _ A1 f (x.le (by decide) (by omega) rfl), fun c => ⟨5, L2 5 _ A1 x3 _ 0 0 (by omega) (by omega) (by decide) (by decide) (by decide) x.s (by omega) (fun A' f' x' => ?_)⟩⟩
      have e : 4 * (i : Int) + 4 = 4 * ((i + 1 : Nat) : Int) := by omega
      rw [e]
      exact ih A' x3 (i + 1) (f.tr f' rfl rfl) ((x.tr x').le (by decide) (by omega) (by decide)) (by omega) (by omega)
  unfold wc_Parser_pack wc_Program_words
  have := L 60 A ((yz A 2 : Nat) : Int) 0 ySm.rf ((jX.rf s).le (by decide) (by decide) rfl) (by omega) (by omega)
  exact ⟨60, this⟩
