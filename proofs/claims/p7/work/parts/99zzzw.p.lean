/-! THE CLASS'S TREE -/
/-- a part: how many calls it takes within one another, its node, how many nodes, which -/
abbrev jC : Type := Nat × Nat × Nat × (Nat → Prop)
def jCh (A : cS) : Int → List Nat → Prop
  | c, [] => c = 0
  | c, k :: l => c = (k : Int) ∧ 1 ≤ k ∧ jCh A (yget A 13 k) l
theorem jCh.fr {A A' : cS} : ∀ {l : List Nat} {c : Int}, jCh A c l → (∀ k ∈ l, yget A' 13 k = yget A 13 k) → jCh A' c l
  | [], _, h, _ => h
  | k :: l, _, h, e => ⟨h.1, h.2.1, by rw [e k (List.mem_cons_self ..)]; exact jCh.fr h.2.2 (fun x hx => e x (List.mem_cons_of_mem _ hx))⟩
theorem jCh.app {A A' : cS} {b : Nat} (hb : 1 ≤ b) (h0 : yget A' 13 b = 0) : ∀ {l : List Nat} {a : Nat} {c : Int}, jCh A c (l ++ [a]) → (∀ k ∈ l, yget A' 13 k = yget A 13 k) → yget A' 13 a = (b : Int) → jCh A' c (l ++ [a] ++ [b])
  | [], a, _, h, _, e => ⟨h.1, h.2.1, by rw [e]; exact ⟨rfl, hb, h0⟩⟩
  | k :: l, a, _, h, e, ea => ⟨h.1, h.2.1, by rw [e k (List.mem_cons_self ..)]; exact jCh.app hb h0 h.2.2 (fun x hx => e x (List.mem_cons_of_mem _ hx)) ea⟩
/-- how many calls of the coder a node takes -/
def jkap (k : Int) : Nat := if (36 ≤ k ∧ k ≤ 42) ∨ k = 49 ∨ (90 ≤ k ∧ k ≤ 93) then 2 else 1
theorem jkap_le (k : Int) : 1 ≤ jkap k ∧ jkap k ≤ 2 := by
  unfold jkap
  split <;> omega
def jW (l : List jC) : Nat := (l.map fun c => c.2.2.1).sum
def jNs (l : List jC) : List Nat := l.map fun c => c.2.1
theorem jW_ap (l m : List jC) : jW (l ++ m) = jW l + jW m := by
  unfold jW
  rw [List.map_append, List.sum_append]
theorem jNs_ap (l m : List jC) : jNs (l ++ m) = jNs l ++ jNs m := List.map_append
theorem jNs_m {l : List jC} {k : Nat} (h : k ∈ jNs l) : ∃ c ∈ l, c.2.1 = k := List.mem_map.mp h
/-- what a kind asks of its parts, its number, its further number -/
def jShp (k d e : Int) (l x : List jC) : Prop := (k = 41 → ¬ l = [] ∧ (e = 0 ∧ x = [] ∨ ∃ c, x = [c] ∧ e = (c.2.1 : Int))) ∧ (¬ k = 41 → x = []) ∧ ((k = 90 ∨ k = 97) → ∃ m : Nat, d = m ∧ l.length = m + m) ∧ (k = 38 → ¬ l = [])
def jND (A : cS) (h n w : Nat) (S : Nat → Prop) (l x : List jC) : Prop :=
  1 ≤ n ∧ S n ∧ jkap (yget A 7 n) ≤ h ∧ w = 1 + jW l + jW x ∧ jCh A (yget A 11 n) (jNs l) ∧ (∀ c, c ∈ l ∨ c ∈ x → c.1 + jkap (yget A 7 n) ≤ h ∧ ∀ i, c.2.2.2 i → S i ∧ ¬ i = n) ∧ jShp (yget A 7 n) (yget A 9 n) (yget A 10 n) l x
def jTg (A : cS) : Nat → Nat → Nat → Nat → (Nat → Prop) → Prop
  | 0, _, _, _, _ => False
  | g + 1, h, n, w, S => ∃ l x, jND A h n w S l x ∧ ∀ c, c ∈ l ∨ c ∈ x → jTg A g c.1 c.2.1 c.2.2.1 c.2.2.2
theorem jTg.up {A : cS} : ∀ {g g' h n w : Nat} {S : Nat → Prop}, g ≤ g' → jTg A g h n w S → jTg A g' h n w S
  | 0, _, _, _, _, _, _, q => False.elim q
  | g + 1, 0, _, _, _, _, q, _ => absurd q (Nat.not_succ_le_zero g)
  | g + 1, g' + 1, _, _, _, _, q, ⟨l, x, a, b⟩ => ⟨l, x, a, fun c hc => jTg.up (Nat.le_of_succ_le_succ q) (b c hc)⟩
/-- a whole part of the tree -/
def jT (A : cS) (h n w : Nat) (S : Nat → Prop) : Prop := ∃ g, jTg A g h n w S
abbrev jTc (A : cS) (c : jC) : Prop := jT A c.1 c.2.1 c.2.2.1 c.2.2.2
theorem jT_gs {A : cS} : ∀ l : List jC, (∀ c ∈ l, jTc A c) → ∃ g, ∀ c ∈ l, jTg A g c.1 c.2.1 c.2.2.1 c.2.2.2
  | [], _ => ⟨0, fun _ h => absurd h List.not_mem_nil⟩
  | a :: l, h => by
    obtain ⟨g1, h1⟩ := h a (List.mem_cons_self ..)
    obtain ⟨g2, h2⟩ := jT_gs l (fun c hc => h c (List.mem_cons_of_mem _ hc))
    refine ⟨g1 + g2, fun c hc => ?_⟩
    rcases List.mem_cons.mp hc with rfl | hc
    · exact h1.up (Nat.le_add_right _ _)
    · exact (h2 c hc).up (Nat.le_add_left _ _)
theorem jT.mk {A : cS} {h n w : Nat} {S : Nat → Prop} {l x : List jC} (a : jND A h n w S l x) (b : ∀ c, c ∈ l ∨ c ∈ x → jTc A c) : jT A h n w S := by
  obtain ⟨g1, h1⟩ := jT_gs l (fun c hc => b c (Or.inl hc))
  obtain ⟨g2, h2⟩ := jT_gs x (fun c hc => b c (Or.inr hc))
  refine ⟨g1 + g2 + 1, l, x, a, fun c hc => ?_⟩
  rcases hc with hc | hc
  · exact (h1 c hc).up (Nat.le_add_right _ _)
  · exact (h2 c hc).up (Nat.le_add_left _ _)
theorem jT.un {A : cS} {h n w : Nat} {S : Nat → Prop} (t : jT A h n w S) : ∃ l x, jND A h n w S l x ∧ ∀ c, c ∈ l ∨ c ∈ x → jTc A c := by
  obtain ⟨g, q⟩ := t
  cases g with
  | zero => exact False.elim q
  | succ g =>
    obtain ⟨l, x, a, b⟩ := q
    exact ⟨l, x, a, fun c hc => ⟨g, b c hc⟩⟩
theorem jT.n1 {A : cS} {h n w : Nat} {S : Nat → Prop} (t : jT A h n w S) : 1 ≤ n ∧ S n ∧ 1 ≤ w := by
  obtain ⟨l, x, a, -⟩ := t.un
  exact ⟨a.1, a.2.1, by have := a.2.2.2.1; omega⟩
theorem jT.hle {A : cS} {h h' n w : Nat} {S : Nat → Prop} (t : jT A h n w S) (q : h ≤ h') : jT A h' n w S := by
  obtain ⟨l, x, ⟨a1, a2, a3, a4, a5, a6, a7⟩, b⟩ := t.un
  exact jT.mk ⟨a1, a2, Nat.le_trans a3 q, a4, a5, fun c hc => ⟨Nat.le_trans (a6 c hc).1 q, (a6 c hc).2⟩, a7⟩ b
theorem jT.Sle {A : cS} {h n w : Nat} {S S' : Nat → Prop} (t : jT A h n w S) (q : ∀ i, S i → S' i) : jT A h n w S' := by
  obtain ⟨l, x, ⟨a1, a2, a3, a4, a5, a6, a7⟩, b⟩ := t.un
  exact jT.mk ⟨a1, q _ a2, a3, a4, a5, fun c hc => ⟨(a6 c hc).1, fun i hi => ⟨q i ((a6 c hc).2 i hi).1, ((a6 c hc).2 i hi).2⟩⟩, a7⟩ b
/-- a node's cells stay -/
def jRo (A A' : cS) (i : Nat) : Prop := yget A' 7 i = yget A 7 i ∧ yget A' 9 i = yget A 9 i ∧ yget A' 10 i = yget A 10 i ∧ yget A' 11 i = yget A 11 i
theorem jTg.fr {A A' : cS} : ∀ {g h n w : Nat} {S : Nat → Prop}, jTg A g h n w S → (∀ i, S i → jRo A A' i) → (∀ i, S i → ¬ i = n → yget A' 13 i = yget A 13 i) → jTg A' g h n w S
  | 0, _, _, _, _, q, _, _ => False.elim q
  | g + 1, h, n, w, S, ⟨l, x, ⟨a1, a2, a3, a4, a5, a6, a7⟩, b⟩, e, e13 => by
    obtain ⟨r1, r2, r3, r4⟩ := e n a2
    have sc : ∀ c, c ∈ l ∨ c ∈ x → c.2.2.2 c.2.1 := fun c hc => by
      have := b c hc
      cases g with
      | zero => exact False.elim this
      | succ g =>
        obtain ⟨l2, x2, a, -⟩ := this
        exact a.2.1
    refine ⟨l, x, ⟨a1, a2, by rw [r1]; exact a3, a4, ?_, fun c hc => by rw [r1]; exact a6 c hc, by rw [r1, r2, r3]; exact a7⟩, fun c hc => jTg.fr (b c hc) (fun i hi => e i ((a6 c hc).2 i hi).1) (fun i hi _ => e13 i ((a6 c hc).2 i hi).1 ((a6 c hc).2 i hi).2)⟩
    rw [r4]
    refine a5.fr (fun k hk => ?_)
    obtain ⟨c, hc, rfl⟩ := jNs_m hk
    have := (a6 c (Or.inl hc)).2 _ (sc c (Or.inl hc))
    exact e13 _ this.1 this.2
theorem jT.fr {A A' : cS} {h n w : Nat} {S : Nat → Prop} (t : jT A h n w S) (e : ∀ i, S i → jRo A A' i) (e13 : ∀ i, S i → ¬ i = n → yget A' 13 i = yget A 13 i) : jT A' h n w S := by
  obtain ⟨g, q⟩ := t
  exact ⟨g, q.fr e e13⟩
/-- a node under way, with its parts so far -/
def jOp (A : cS) (n : Nat) (S : Nat → Prop) (l : List jC) : Prop :=
  1 ≤ n ∧ S n ∧ (∀ i, S i → 1 ≤ i ∧ i < yz A 7) ∧ jCh A (yget A 11 n) (jNs l) ∧ (∀ c m, l = m ++ [c] → yget A 12 n = (c.2.1 : Int)) ∧ (∀ c ∈ l, jTc A c ∧ ∀ i, c.2.2.2 i → S i ∧ ¬ i = n) ∧ l.Pairwise (fun a b => ∀ i, a.2.2.2 i → b.2.2.2 i → False)
theorem jOp.fr {A A' : cS} {n : Nat} {S : Nat → Prop} {l : List jC} (o : jOp A n S l) (z : yz A 7 ≤ yz A' 7) (e : ∀ i, S i → jRo A A' i ∧ yget A' 12 i = yget A 12 i ∧ yget A' 13 i = yget A 13 i) : jOp A' n S l := by
  obtain ⟨a1, a2, a3, a4, a5, a6, a7⟩ := o
  refine ⟨a1, a2, fun i hi => ⟨(a3 i hi).1, Nat.lt_of_lt_of_le (a3 i hi).2 z⟩, ?_, fun c m hc => by rw [(e n a2).2.1]; exact a5 c m hc, fun c hc => ⟨(a6 c hc).1.fr (fun i hi => (e i ((a6 c hc).2 i hi).1).1) (fun i hi _ => (e i ((a6 c hc).2 i hi).1).2.2), (a6 c hc).2⟩, a7⟩
  rw [(e n a2).1.2.2.2]
  refine a4.fr (fun k hk => ?_)
  obtain ⟨c, hc, rfl⟩ := jNs_m hk
  exact (e _ ((a6 c hc).2 _ (a6 c hc).1.n1.2.1).1).2.2
/-- closed -/
theorem jOp.cl {A : cS} {n : Nat} {S : Nat → Prop} {l x : List jC} (o : jOp A n S l) {h : Nat} (hk : jkap (yget A 7 n) ≤ h) (hc : ∀ c, c ∈ l ∨ c ∈ x → c.1 + jkap (yget A 7 n) ≤ h) (hx : ∀ c ∈ x, jTc A c ∧ ∀ i, c.2.2.2 i → S i ∧ ¬ i = n) (sh : jShp (yget A 7 n) (yget A 9 n) (yget A 10 n) l x) : jT A h n (1 + jW l + jW x) S := by
  obtain ⟨a1, a2, a3, a4, a5, a6, a7⟩ := o
  refine jT.mk ⟨a1, a2, hk, rfl, a4, fun c q => ⟨hc c q, ?_⟩, sh⟩ (fun c q => ?_)
  · rcases q with q | q
    · exact (a6 c q).2
    · exact (hx c q).2
  · rcases q with q | q
    · exact (a6 c q).1
    · exact (hx c q).1
/-- one more part is hung -/
theorem cs_hang {A : cS} {n k : Nat} {S : Nat → Prop} {l : List jC} (o : jOp A n S l) {h w : Nat} {Sc : Nat → Prop} (t : jT A h k w Sc) (k13 : yget A 13 k = 0) (d : ∀ i, Sc i → ¬ S i) (b : ∀ i, Sc i → 1 ≤ i ∧ i < yz A 7) (hz : yz A 11 = yz A 7 ∧ yz A 12 = yz A 7 ∧ yz A 13 = yz A 7) {Q : cS → Prop} (hq : ∀ A', ySm A A' [11, 12, 13] [] → (∀ j, yz A' j = yz A j) → (∀ (j i : Nat), ¬ S i → yget A' j i = yget A j i) → yget A' 13 n = yget A 13 n → jOp A' n (fun i => S i ∨ Sc i) (l ++ [(h, k, w, Sc)]) → Q A') : wc_Tree_hang A n k Q := by
  obtain ⟨a1, a2, a3, a4, a5, a6, a7⟩ := id o
  obtain ⟨k1, kS, w1⟩ := t.n1
  have hnS := a3 n a2
  have hkn : ¬ k = n := fun e => d k kS (by rw [e]; exact a2)
  have fin : ∀ A', ySm A A' [11, 12, 13] [] → (∀ j, yz A' j = yz A j) → (∀ (j i : Nat), ¬ S i → yget A' j i = yget A j i) → yget A' 13 n = yget A 13 n → (∀ (j i : Nat), S i → j = 7 ∨ j = 9 ∨ j = 10 ∨ (j = 11 ∧ ¬ i = n) → yget A' j i = yget A j i) → jCh A' (yget A' 11 n) (jNs (l ++ [(h, k, w, Sc)])) → yget A' 12 n = (k : Int) → (∀ c ∈ l, ∀ i, c.2.2.2 i → ¬ i = c.2.1 → yget A' 13 i = yget A 13 i) → Q A' := fun A' f z e e13 er ch e12 ei => by
    refine hq A' f z e e13 ⟨a1, Or.inl a2, fun i hi => ?_, ch, fun c m hc => ?_, fun c hc => ?_, ?_⟩
    · rw [z]
      rcases hi with hi | hi
      · exact a3 i hi
      · exact b i hi
    · have := (List.append_inj_right' hc rfl)
      have e2 : (h, k, w, Sc) = c := by simpa using this
      rw [← e2]
      exact e12
    · rcases List.mem_append.mp hc with hc | hc
      · refine ⟨(a6 c hc).1.fr (fun i hi => ?_) (fun i hi hn => ei c hc i hi hn), fun i hi => ⟨Or.inl ((a6 c hc).2 i hi).1, ((a6 c hc).2 i hi).2⟩⟩
        have si := ((a6 c hc).2 i hi)
        exact ⟨er 7 i si.1 (Or.inl rfl), er 9 i si.1 (Or.inr (Or.inl rfl)), er 10 i si.1 (Or.inr (Or.inr (Or.inl rfl))), er 11 i si.1 (Or.inr (Or.inr (Or.inr ⟨rfl, si.2⟩)))⟩
      · have e2 : c = (h, k, w, Sc) := by simpa using hc
        subst e2
        refine ⟨t.fr (fun i hi => ⟨e 7 i (d i hi), e 9 i (d i hi), e 10 i (d i hi), e 11 i (d i hi)⟩) (fun i hi _ => e 13 i (d i hi)), fun i hi => ⟨Or.inr hi, fun q => d i hi (by rw [q]; exact a2)⟩⟩
    · rw [List.pairwise_append]
      refine ⟨a7, List.pairwise_singleton _ _, fun c hc c2 hc2 i h1 h2 => ?_⟩
      have e2 : c2 = (h, k, w, Sc) := by simpa using hc2
      subst e2
      exact d i h2 ((a6 c hc).2 i h1).1
  unfold wc_Tree_hang
  cases hl : l.reverse with
  | nil =>
    have l0 : l = [] := by simpa using hl
    subst l0
    have f0 : yget A 11 n = 0 := a4
    refine ⟨fun c => absurd f0 c, fun _ => ?_⟩
    have g : ∀ (j i : Nat), yget (yset (yset A 11 n k) 12 n k) j i = if (j = 12 ∨ j = 11) ∧ i = n then (k : Int) else yget A j i := fun j i => by
      rw [yget_set, yget_set, yz_set, hz.1, hz.2.1]
      by_cases c1 : j = 12 ∧ i = n
      · rw [if_pos ⟨⟨c1.1, by rw [c1.2]⟩, by omega, by omega⟩, if_pos ⟨Or.inl c1.1, c1.2⟩]
      · rw [if_neg (fun q => c1 ⟨q.1.1, by omega⟩)]
        by_cases c2 : j = 11 ∧ i = n
        · rw [if_pos ⟨⟨c2.1, by rw [c2.2]⟩, by omega, by omega⟩, if_pos ⟨Or.inr c2.1, c2.2⟩]
        · rw [if_neg (fun q => c2 ⟨q.1.1, by omega⟩), if_neg (fun q => by rcases q.1 with q1 | q1 <;> first | exact c1 ⟨q1, q.2⟩ | exact c2 ⟨q1, q.2⟩)]
    refine fin _ ((ySm.rf.set rfl).set rfl) (fun j => rfl) (fun j i hi => ?_) ?_ (fun j i hi hj => ?_) ?_ ?_ (fun c hc => absurd hc List.not_mem_nil)
    · rw [g, if_neg (fun q => hi (by rw [q.2]; exact a2))]
    · rw [g, if_neg (by omega)]
    · rw [g, if_neg (by omega)]
    · show jCh _ _ [k]
      refine ⟨?_, k1, ?_⟩
      · rw [g, if_pos ⟨Or.inr rfl, rfl⟩]
      · show yget _ 13 k = 0
        rw [g, if_neg (by omega)]
        exact k13
    · rw [g, if_pos ⟨Or.inl rfl, rfl⟩]
  | cons z r =>
    have l0 : l = r.reverse ++ [z] := by
      have := congrArg List.reverse hl
      rw [List.reverse_reverse, List.reverse_cons] at this
      exact this
    have mz : z ∈ l := by rw [l0]; exact List.mem_append.mpr (Or.inr (List.mem_cons_self ..))
    have e12 := a5 z r.reverse l0
    have zS := (a6 z mz).2 _ (a6 z mz).1.n1.2.1
    have hzS := a3 _ zS.1
    have f0 : ¬ yget A 11 n = 0 := fun q => by
      rw [l0, jNs_ap, q] at a4
      cases hr : jNs r.reverse with
      | nil =>
        rw [hr] at a4
        have h1 : (0 : Int) = (z.2.1 : Nat) := a4.1
        have h2 : 1 ≤ z.2.1 := a4.2.1
        omega
      | cons y ys =>
        rw [hr] at a4
        have h1 : (0 : Int) = (y : Nat) := a4.1
        have h2 : 1 ≤ y := a4.2.1
        omega
    refine ⟨fun _ => ?_, fun c => absurd c f0⟩
    rw [e12]
    have g : ∀ (j i : Nat), yget (yset (yset A 13 (z.2.1 : Nat) k) 12 n k) j i = if (j = 12 ∧ i = n) ∨ (j = 13 ∧ i = z.2.1) then (k : Int) else yget A j i := fun j i => by
      rw [yget_set, yget_set, yz_set, hz.2.1, hz.2.2]
      by_cases c1 : j = 12 ∧ i = n
      · rw [if_pos ⟨⟨c1.1, by rw [c1.2]⟩, by omega, by omega⟩, if_pos (Or.inl c1)]
      · rw [if_neg (fun q => c1 ⟨q.1.1, by omega⟩)]
        by_cases c2 : j = 13 ∧ i = z.2.1
        · rw [if_pos ⟨⟨c2.1, by rw [c2.2]⟩, by omega, by omega⟩, if_pos (Or.inr c2)]
        · rw [if_neg (fun q => c2 ⟨q.1.1, by omega⟩), if_neg (fun q => by rcases q with q | q <;> first | exact c1 q | exact c2 q)]
    refine fin _ ((ySm.rf.set rfl).set rfl) (fun j => rfl) (fun j i hi => ?_) ?_ (fun j i hi hj => ?_) ?_ ?_ (fun c hc i hi hn => ?_)
    · rw [g, if_neg (fun q => by rcases q with q | q <;> first | exact hi (by rw [q.2]; exact a2) | exact hi (by rw [q.2]; exact zS.1))]
    · rw [g, if_neg (fun q => by rcases q with q | q <;> first | exact absurd q.1 (by decide) | exact zS.2 q.2.symm)]
    · rw [g, if_neg (by omega)]
    · rw [jNs_ap, l0, jNs_ap]
      have e11 : yget (yset (yset A 13 (z.2.1 : Nat) k) 12 n k) 11 n = yget A 11 n := by rw [g, if_neg (by omega)]
      rw [e11]
      rw [l0, jNs_ap] at a4
      refine jCh.app k1 ?_ a4 (fun x hx => ?_) ?_
      · rw [g, if_neg (fun q => by
          rcases q with q | q
          · exact absurd q.1 (by decide)
          · exact d k kS (by rw [q.2]; exact zS.1))]
        exact k13
      · rw [g, if_neg (fun q => ?_)]
        rcases q with q | q
        · exact absurd q.1 (by decide)
        · obtain ⟨c, hc, rfl⟩ := jNs_m hx
          have hcl : c ∈ l := by rw [l0]; exact List.mem_append.mpr (Or.inl hc)
          rw [l0, List.pairwise_append] at a7
          exact a7.2.2 c hc z (List.mem_cons_self ..) c.2.1 (a6 c hcl).1.n1.2.1 (by rw [q.2]; exact (a6 z mz).1.n1.2.1)
      · exact (g 13 z.2.1).trans (if_pos (Or.inr ⟨rfl, rfl⟩))
    · rw [g, if_pos (Or.inl ⟨rfl, rfl⟩)]
    · rw [g, if_neg (fun q => ?_)]
      rcases q with q | q
      · exact absurd q.1 (by decide)
      · -- the last part's node in another part
        by_cases e : c = z
        · subst e
          exact hn q.2
        · rw [l0] at hc
          rw [l0, List.pairwise_append] at a7
          rcases List.mem_append.mp hc with hc2 | hc2
          · exact a7.2.2 c hc2 z (List.mem_cons_self ..) i hi (by rw [q.2]; exact (a6 z mz).1.n1.2.1)
          · exact e (by simpa using hc2)
