/-! THE CLASS'S CODER: THE TREE STAYS -/
/-- the tree stays, but for the further numbers of labels -/
def vT (A A' : cS) : Prop := (∀ (j : Nat) (i : Int), (j = 7 ∨ j = 9 ∨ j = 11 ∨ j = 12 ∨ j = 13) → yget A' j i = yget A j i) ∧ ∀ (i : Int), ¬ yget A 7 i = 99 → yget A' 10 i = yget A 10 i
theorem vT.rf {A : cS} : vT A A := ⟨fun _ _ _ => rfl, fun _ _ => rfl⟩
theorem vT.tr {A A1 A2 : cS} (h : vT A A1) (g : vT A1 A2) : vT A A2 := ⟨fun j i q => (g.1 j i q).trans (h.1 j i q), fun i q => (g.2 i (by rw [h.1 7 i (Or.inl rfl)]; exact q)).trans (h.2 i q)⟩
theorem vT.sm {A A' : cS} {js ks : List Nat} (f : ySm A A' js ks) (h : ([7, 9, 10, 11, 12, 13].all fun j => !js.contains j) = true) : vT A A' := by
  have J : ∀ j, ([7, 9, 10, 11, 12, 13] : List Nat).contains j = true → js.contains j = false := fun j h1 => by
    have := List.all_eq_true.mp h j (by simpa using h1)
    simpa using this
  exact ⟨fun j i q => f.g j i (J j (by rcases q with rfl | rfl | rfl | rfl | rfl <;> rfl)), fun i _ => f.g 10 i (J 10 rfl)⟩
theorem vT.ch {A A' : cS} (t : vT A A') {l : List Nat} {x : Int} (h : jCh A x l) : jCh A' x l := h.fr (fun k _ => t.1 13 k (by omega))
theorem jTg.k {A A' : cS} (q : vT A A') : ∀ {g h n w : Nat} {S : Nat → Prop}, jTg A g h n w S → jTg A' g h n w S
  | 0, _, _, _, _, t => False.elim t
  | g + 1, h, n, w, S, ⟨l, x, ⟨a1, a2, a3, a4, a5, a6, a7⟩, b⟩ => by
    have e7 : yget A' 7 n = yget A 7 n := q.1 7 n (by omega)
    have e9 : yget A' 9 n = yget A 9 n := q.1 9 n (by omega)
    refine ⟨l, x, ⟨a1, a2, by rw [e7]; exact a3, a4, ?_, fun c hc => by rw [e7]; exact a6 c hc, ?_⟩, fun c hc => jTg.k q (b c hc)⟩
    · rw [q.1 11 n (by omega)]
      exact q.ch a5
    · rw [e7, e9]
      by_cases c : yget A 7 n = 41
      · rw [q.2 n (by omega)]
        exact a7
      · exact ⟨fun k => absurd k c, a7.2⟩
theorem jT.k {A A' : cS} (q : vT A A') {h n w : Nat} {S : Nat → Prop} (t : jT A h n w S) : jT A' h n w S := by
  obtain ⟨g, t⟩ := t
  exact ⟨g, t.k q⟩
/-- node 0 is empty -/
def v0 (A : cS) : Prop := yget A 7 0 = 0 ∧ yget A 9 0 = 0 ∧ yget A 11 0 = 0 ∧ yget A 13 0 = 0
theorem v0.k {A A' : cS} (h : v0 A) (q : vT A A') : v0 A' := ⟨(q.1 7 0 (by omega)).trans h.1, (q.1 9 0 (by omega)).trans h.2.1, (q.1 11 0 (by omega)).trans h.2.2.1, (q.1 13 0 (by omega)).trans h.2.2.2⟩
theorem jCh.cs {A : cS} {x : Int} {l : List jC} (h : jCh A x (jNs l)) : x = 0 ∧ l = [] ∨ ∃ c t, l = c :: t ∧ x = (c.2.1 : Int) ∧ 1 ≤ c.2.1 ∧ jCh A (yget A 13 x) (jNs t) := by
  cases l with
  | nil => exact Or.inl ⟨h, rfl⟩
  | cons c t =>
    refine Or.inr ⟨c, t, rfl, h.1, h.2.1, ?_⟩
    rw [h.1]
    exact h.2.2
theorem jCh.nx {A : cS} (z : v0 A) {x : Int} {l : List jC} (h : jCh A x (jNs l)) : jCh A (yget A 13 x) (jNs (l.drop 1)) := by
  rcases h.cs with ⟨rfl, rfl⟩ | ⟨c, t, rfl, -, -, e⟩
  · exact z.2.2.2
  · exact e
theorem jW_td (l : List jC) : jW (l.take 1) + jW (l.drop 1) = jW l := by
  cases l with
  | nil => rfl
  | cons c t =>
    show c.2.2.1 + 0 + jW t = c.2.2.1 + jW t
    omega
theorem jW_c (c : jC) (t : List jC) : jW (c :: t) = c.2.2.1 + jW t := rfl
/-- the parts of a node: their chain, what they are -/
theorem jT.ks {A : cS} {h n w : Nat} {S : Nat → Prop} (t : jT A h n w S) : ∃ l x, jCh A (yget A 11 n) (jNs l) ∧ (∀ c ∈ l, jTc A c ∧ c.1 + jkap (yget A 7 n) ≤ h) ∧ (∀ c ∈ x, jTc A c ∧ c.1 + jkap (yget A 7 n) ≤ h) ∧ w = 1 + jW l + jW x ∧ jShp (yget A 7 n) (yget A 9 n) (yget A 10 n) l x ∧ jkap (yget A 7 n) ≤ h ∧ 1 ≤ n := by
  obtain ⟨l, x, ⟨a1, a2, a3, a4, a5, a6, a7⟩, b⟩ := t.un
  exact ⟨l, x, a5, fun c hc => ⟨b c (Or.inl hc), (a6 c (Or.inl hc)).1⟩, fun c hc => ⟨b c (Or.inr hc), (a6 c (Or.inr hc)).1⟩, a4, a7, a3, a1⟩
/-! THE CLASS'S CONSTANTS -/
def vC (A A' : cS) (w : Nat) : Prop := ySm A A' [33] [38, 39, 40] ∧ yz A' 33 ≤ yz A 33 + w ∧ (yv A' 38 = 0 ∨ yv A' 38 = 1)
theorem vC.rf {A : cS} {w : Nat} (h : yv A 38 = 0 ∨ yv A 38 = 1) : vC A A w := ⟨ySm.rf, Nat.le_add_right _ _, h⟩
theorem vC.tr {A A1 A2 : cS} {w w' : Nat} (h : vC A A1 w) (g : vC A1 A2 w') : vC A A2 (w + w') := ⟨h.1.tr g.1 rfl rfl, by have := h.2.1; have := g.2.1; omega, g.2.2⟩
theorem vC.le {A A1 : cS} {w w' : Nat} (h : vC A A1 w) (q : w ≤ w') : vC A A1 w' := ⟨h.1, by have := h.2.1; omega, h.2.2⟩
theorem vC.t {A A1 : cS} {w : Nat} (h : vC A A1 w) : vT A A1 := vT.sm h.1 rfl
theorem vC.p {A : cS} (h : yv A 38 = 0 ∨ yv A 38 = 1) (x : Int) : vC A (yadd A 33 x) 1 := ⟨ySm.rf.add rfl, Nat.le_refl _, h⟩
theorem vC.q {A : cS} (h : yv A 38 = 0 ∨ yv A 38 = 1) : vC A (ypop A 33) 0 := ⟨ySm.rf.pop rfl, by show yz A 33 - 1 ≤ _; omega, h⟩
theorem cs_kfail {A : cS} (h : yv A 38 = 0 ∨ yv A 38 = 1) (a b : Int) {Q : cS → Prop} (hq : ∀ A', ySm A A' [] [38, 39, 40] → (yv A' 38 = 0 ∨ yv A' 38 = 1) → Q A') : wc_Constants_fail A a b Q := by
  have h1 : Q (ypv (ypv (ypv A 38 1) 39 a) 40 b) := hq _ (((ySm.rf.pv rfl).pv rfl).pv rfl) (Or.inr rfl)
  unfold wc_Constants_fail
  exact ⟨fun _ => h1, fun _ => ⟨fun _ => hq A ySm.rf h, fun _ => h1⟩⟩
theorem vC.f {A A' : cS} (f : ySm A A' [] [38, 39, 40]) (h : yv A' 38 = 0 ∨ yv A' 38 = 1) : vC A A' 0 := ⟨ySm.rf.tr f rfl rfl, by rw [f.z 33 rfl]; exact Nat.le_refl _, h⟩
theorem cs_find {A : cS} (b : yz A 27 ≤ 3000) (a : Int) {Q : Int → cS → Prop} (hq : ∀ r, Q r A) : wc_Scope_find A a Q := by
  have L : ∀ (m : Nat) (x : Int), x < 3000 → -1 ≤ x → x + 1 < m → wc_Scope_find_10 Q m A a x := by
    intro m
    induction m with
    | zero => intro x _ _ h; omega
    | succ m ih =>
      intro x h0 h1 h2
      unfold wc_Scope_find_10
      unfold wc_Scope_find_10B
      exact ⟨fun _ => hq _, fun _ => ⟨fun _ => ⟨⟨by omega, by omega⟩, ih _ (by omega) (by omega) (by omega)⟩, fun _ => hq _⟩⟩
  unfold wc_Scope_find
  exact ⟨⟨by omega, by omega⟩, 3002, L _ _ (by omega) (by omega) (by omega)⟩
theorem cs_holds (A : cS) (a b c : Int) {Q : Int → cS → Prop} (hq : ∀ r, Q r A) : wc_W_holds A a b c Q := by
  unfold wc_W_holds
  exact ⟨fun _ => ⟨fun _ => hq _, fun _ => hq _⟩, fun _ => ⟨fun _ => hq _, fun _ => hq _⟩, fun _ => ⟨fun _ => hq _, fun _ => hq _⟩, fun _ => ⟨fun _ => hq _, fun _ => hq _⟩, fun _ => ⟨fun _ => hq _, fun _ => hq _⟩, fun _ _ _ _ _ => ⟨fun _ => hq _, fun _ => hq _⟩⟩
theorem cs_worked (A : cS) (a b c : Int) {Q : Int → cS → Prop} (hq : ∀ r, Q r A) : wc_W_worked A a b c Q := by
  unfold wc_W_worked
  exact ⟨fun _ _ _ _ => hq _, fun _ _ _ _ => hq _, fun _ _ _ _ => hq _, fun _ => ⟨fun h => ⟨h, hq _⟩, fun _ => hq _⟩, fun _ => ⟨fun _ => hq _, fun _ => ⟨fun _ => hq _, fun _ => hq _⟩⟩, fun _ => ⟨fun _ => hq _, fun _ => ⟨fun _ => hq _, fun _ => hq _⟩⟩, fun _ => hq _, fun _ => hq _, fun _ => hq _, fun _ => ⟨fun h => ⟨h, fun _ _ _ => hq _⟩, fun _ => hq _⟩, fun _ _ _ _ _ _ _ _ _ _ => hq _⟩
theorem cs_isDivision (A : cS) (a : Int) {Q : Int → cS → Prop} (hq : ∀ r, Q r A) : wc_W_isDivision A a Q := by
  unfold wc_W_isDivision
  exact ⟨fun _ => hq _, fun _ => ⟨fun _ => hq _, fun _ => hq _⟩⟩
theorem cs_relate {A : cS} (h : yv A 38 = 0 ∨ yv A 38 = 1) (b : yz A 33 ≤ 2999) (a x y : Int) {Q : Int → cS → Prop} (hq : ∀ r A', vC A A' 1 → Q r A') : wc_Constants_relate A a x y Q := by
  have q2 : vC A (ypop (ypop A 33) 33) 0 := (vC.q h).tr (vC.q h)
  have R : ∀ y0 z, wc_Constants_relate_63 Q (ypop (ypop A 33) 33) y y0 z := fun y0 z => by
    have h3 : ∀ r, Q r (yadd (ypop (ypop A 33) 33) 33 z) := fun r => hq r _ (q2.tr (vC.p q2.2.2 z))
    unfold wc_Constants_relate_63
    exact ⟨by have := q2.2.1; omega, fun _ => h3 _, fun _ => ⟨fun _ => h3 _, fun _ => h3 _⟩⟩
  unfold wc_Constants_relate
  exact ⟨fun _ => ⟨fun _ => R _ _, fun _ => R _ _⟩, fun _ => cs_holds _ _ _ _ (fun r => ⟨fun _ => ⟨fun _ => R _ _, fun _ => R _ _⟩, fun _ => ⟨fun _ => R _ _, fun _ => R _ _⟩⟩)⟩
theorem cs_work {A : cS} (h : yv A 38 = 0 ∨ yv A 38 = 1) (b : yz A 33 ≤ 2999) (a x y : Int) {Q : cS → Prop} (hq : ∀ A', vC A A' 1 → Q A') : wc_Constants_work A a x y Q := by
  have q2 : vC A (ypop (ypop A 33) 33) 0 := (vC.q h).tr (vC.q h)
  have R : ∀ A2 u v, vC A A2 0 → wc_Constants_work_48 Q A2 a u v := fun A2 u v g => by
    unfold wc_Constants_work_48
    exact cs_worked _ _ _ _ (fun r => ⟨by have := g.2.1; omega, hq _ (g.tr (vC.p g.2.2 r))⟩)
  unfold wc_Constants_work
  exact cs_isDivision _ _ (fun r => ⟨fun _ => R _ _ _ q2, fun _ => ⟨fun _ => R _ _ _ q2, fun _ => ⟨fun _ => R _ _ _ q2, fun _ => ⟨fun _ => R _ _ _ q2, fun _ => cs_kfail q2.2.2 _ _ (fun A' f g => R A' _ _ (q2.tr (vC.f f g)))⟩⟩⟩⟩)
theorem cs_ksingle {A : cS} (h : yv A 38 = 0 ∨ yv A 38 = 1) (b : yz A 33 ≤ 2999) (a x y : Int) {Q : cS → Prop} (hq : ∀ A', vC A A' 1 → Q A') : wc_Constants_single A a x y Q := by
  have z1 : yz (ypop A 33) 33 = yz A 33 - 1 := rfl
  have R : ∀ v, (yz (ypop A 33) 33 < 3000) ∧ Q (yadd (ypop A 33) 33 v) := fun v => ⟨by omega, hq _ ((vC.q h).tr (vC.p (vC.q h).2.2 v))⟩
  unfold wc_Constants_single
  exact ⟨fun _ => ⟨by omega, hq _ (vC.p h _)⟩, fun _ => cs_kfail (vC.q h).2.2 _ _ (fun A' f g => hq A' (((vC.q h).tr (vC.f f g)).le (by decide))), fun _ => cs_kfail h _ _ (fun A' f g => hq A' ((vC.f f g).le (by decide))), fun _ => ⟨fun _ => ⟨fun _ => R _, fun _ => R _⟩, fun _ _ _ _ => R _⟩, fun _ _ _ _ => cs_kfail h _ _ (fun A' f g => ⟨by rw [f.z 33 rfl]; omega, hq _ ((vC.f f g).tr (vC.p g 0))⟩)⟩
/-- the head of a chain of parts -/
def vHd (x : Int) (l : List jC) : Prop := x = 0 ∧ l = [] ∨ ∃ c t, l = c :: t ∧ x = (c.2.1 : Int)
theorem jCh.hd {A : cS} {x : Int} {l : List jC} (h : jCh A x (jNs l)) : vHd x l := by
  rcases h.cs with h | ⟨c, t, e, f, -⟩
  · exact Or.inl h
  · exact Or.inr ⟨c, t, e, f⟩
/-- reckoning, by the number of calls within one another -/
abbrev vR0 (n : Nat) : Prop := ∀ (x b c : Int) {A : cS} {Q : Int → cS → Prop} {l : List jC}, v0 A → yz A 27 ≤ 3000 → vHd x l → (∀ c ∈ l, jTc A c ∧ c.1 + 1 ≤ n) → 1 ≤ n → yz A 33 + jW (l.take 1) ≤ 2990 → (yv A 38 = 0 ∨ yv A 38 = 1) → (∀ r A', vC A A' (jW (l.take 1)) → Q r A') → wcG_K n 0 x b c A Q
abbrev vR1 (n : Nat) : Prop := ∀ (b c : Int) {A : cS} {Q : Int → cS → Prop} {h k w : Nat} {S : Nat → Prop}, v0 A → yz A 27 ≤ 3000 → jT A h k w S → h + 1 ≤ n → yz A 33 + w ≤ 2990 → (yv A 38 = 0 ∨ yv A 38 = 1) → (∀ r A', vC A A' (w - 1) → Q r A') → wcG_K n 1 k b c A Q
theorem cs_choose {m : Nat} (P : vR0 m) : vR1 (m + 1) := fun b c A Q h k w S z b27 t hf b33 h38 hq => by
  obtain ⟨l, x, ch, hl, -, hw, -, hk, -⟩ := t.ks
  have hk1 := (jkap_le (yget A 7 k)).1
  have hl1 : ∀ {A1 : cS}, vT A A1 → ∀ c ∈ l, jTc A1 c ∧ c.1 + 1 ≤ m := fun q c hc => ⟨(hl c hc).1.k q, by have := (hl c hc).2; omega⟩
  have w1 := jW_td l
  have w2 := jW_td (l.drop 1)
  have w3 := jW_td ((l.drop 1).drop 1)
  have dm : ∀ c, c ∈ l.drop 1 → c ∈ l := fun c hc => List.mem_of_mem_drop hc
  have dm2 : ∀ c, c ∈ (l.drop 1).drop 1 → c ∈ l := fun c hc => dm c (List.mem_of_mem_drop hc)
  show wc_Constants_choose (wcG_K m) A k b Q
  unfold wc_Constants_choose wc_Tree_first wc_Tree_next
  refine P _ _ _ z b27 ch.hd (hl1 vT.rf) (by omega) (by omega) h38 (fun r A1 g1 => ?_)
  have ch2 : jCh A1 (yget A 13 (yget A 11 (k : Nat))) (jNs (l.drop 1)) := g1.t.ch (ch.nx z)
  have G : ∀ y0 x5, wc_Constants_choose_52 (wcG_K m) Q A1 b (yget A 13 (yget A 11 (k : Nat))) x5 y0 (yget A 13 (yget A 11 (k : Nat))) := fun y0 x5 => by
    unfold wc_Constants_choose_52 wc_Tree_next
    refine P _ _ _ (z.k g1.t) (by rw [g1.1.z 27 rfl]; exact b27) ch2.hd (fun c hc => hl1 g1.t c (dm c hc)) (by omega) (by have := g1.2.1; omega) g1.2.2 (fun r2 A2 g2 => ?_)
    have ch3 : jCh A2 (yget A2 13 (yget A 13 (yget A 11 (k : Nat)))) (jNs ((l.drop 1).drop 1)) := (g2.t.ch ch2).nx (z.k (g1.t.tr g2.t))
    have F : ∀ y, wcG_K m 0 (yget A2 13 (yget A 13 (yget A 11 (k : Nat)))) y 0 A2 (fun r19 A20 => ((x5 = 0 → Q r19 A20) ∧ (¬ x5 = 0 → Q r A20))) ∧ wcG_K m 0 (yget A2 13 (yget A 13 (yget A 11 (k : Nat)))) y 0 A2 (fun r19 A20 => ((x5 = 0 → Q r19 A20) ∧ (¬ x5 = 0 → Q r2 A20))) := fun y => by
      have hz : yz A2 33 + jW (((l.drop 1).drop 1).take 1) ≤ 2990 := by have := g1.2.1; have := g2.2.1; omega
      have gg : ∀ A3, vC A2 A3 (jW (((l.drop 1).drop 1).take 1)) → vC A A3 (w - 1) := fun A3 g3 => ((g1.tr g2).tr g3).le (by omega)
      exact ⟨P _ _ _ (z.k (g1.t.tr g2.t)) (by rw [g2.1.z 27 rfl, g1.1.z 27 rfl]; exact b27) ch3.hd (fun c hc => hl1 (g1.t.tr g2.t) c (dm2 c hc)) (by omega) hz g2.2.2 (fun r3 A3 g3 => ⟨fun _ => hq _ _ (gg A3 g3), fun _ => hq _ _ (gg A3 g3)⟩), P _ _ _ (z.k (g1.t.tr g2.t)) (by rw [g2.1.z 27 rfl, g1.1.z 27 rfl]; exact b27) ch3.hd (fun c hc => hl1 (g1.t.tr g2.t) c (dm2 c hc)) (by omega) hz g2.2.2 (fun r3 A3 g3 => ⟨fun _ => hq _ _ (gg A3 g3), fun _ => hq _ _ (gg A3 g3)⟩)⟩
    first
    | exact ⟨fun _ => (F 0).1, fun _ => ⟨fun _ => (F 0).1, fun _ => (F 1).1⟩⟩
    | exact ⟨fun _ => (F 0).2, fun _ => ⟨fun _ => (F 0).2, fun _ => (F 1).2⟩⟩
  exact ⟨fun _ => ⟨fun _ => G _ _, fun _ => G _ _⟩, fun _ => ⟨fun _ => G _ _, fun _ => G _ _⟩⟩
