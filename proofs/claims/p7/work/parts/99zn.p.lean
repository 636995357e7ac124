/-! THE CHECK'S TREE AND FACTS -/
/-- the last kid -/
def lk (kids : Nat → List Nat) (n : Nat) : Nat := (kids n).getLast?.getD 0
/-- the kids that a run comes to -/
def kr (K : Nat → Int) (kids : Nat → List Nat) (n : Nat) : List Nat :=
  if K n = 5 ∨ K n = 43 ∨ K n = 50 ∨ K n = 51 ∨ K n = 54 ∨ K n = 56 ∨ K n = 59 then []
  else if K n = 27 then (kids n).take 3 ++ [lk kids n] else kids n
def rin (K : Nat → Int) (kids : Nat → List Nat) (root x : Nat) : Prop := ∀ P : Nat → Prop, P root → (∀ n c, P n → c ∈ kr K kids n → P c) → P x
theorem rin.rt (K : Nat → Int) (kids : Nat → List Nat) (root : Nat) : rin K kids root root := fun _ h _ => h
theorem rin.kid {K : Nat → Int} {kids : Nat → List Nat} {root n c : Nat} (h : rin K kids root n) (hc : c ∈ kr K kids n) : rin K kids root c := fun P h1 h2 => h2 n c (h P h1 h2) hc
theorem rin.tr {K : Nat → Int} {kids : Nat → List Nat} {a b c : Nat} (h : rin K kids a b) (h2 : rin K kids b c) : rin K kids a c := fun P p1 p2 => h2 P (h P p1 p2) p2
theorem rch.tr {kids : Nat → List Nat} {a b c : Nat} (h : rch kids a b) (h2 : rch kids b c) : rch kids a c := fun P p1 p2 => h2 P (h P p1 p2) p2
theorem lk_mem {kids : Nat → List Nat} {n : Nat} (h : ¬ kids n = []) : lk kids n ∈ kids n := by
  unfold lk
  cases hl : (kids n).getLast? with
  | none => exact absurd (List.getLast?_eq_none_iff.mp hl) h
  | some x => exact List.mem_of_getLast? hl
theorem lk_app {kids : Nat → List Nat} {n c : Nat} {r : List Nat} (h : kids n = r ++ [c]) : lk kids n = c := by
  unfold lk
  rw [h, List.getLast?_append]
  rfl
theorem rch_kid {kids : Nat → List Nat} {n x : Nat} (h : rch kids n x) : x = n ∨ ∃ c ∈ kids n, rch kids c x := h (fun x => x = n ∨ ∃ c ∈ kids n, rch kids c x) (Or.inl rfl) (fun a b ha hb => ha.elim (fun e => by subst e; exact Or.inr ⟨b, hb, rch.rt kids b⟩) (fun ⟨c, hc, hr⟩ => Or.inr ⟨c, hc, hr.kid hb⟩))
theorem rin_kid {K : Nat → Int} {kids : Nat → List Nat} {n x : Nat} (h : rin K kids n x) : x = n ∨ ∃ c ∈ kr K kids n, rin K kids c x := h (fun x => x = n ∨ ∃ c ∈ kr K kids n, rin K kids c x) (Or.inl rfl) (fun a b ha hb => ha.elim (fun e => by subst e; exact Or.inr ⟨b, hb, rin.rt K kids b⟩) (fun ⟨c, hc, hr⟩ => Or.inr ⟨c, hc, hr.kid hb⟩))
section TR
variable {s0 : zS} {kids : Nat → List Nat} {up sz : Nat → Nat} {root N : Nat}
theorem fF.kne (h : fF s0 kids up sz [root] N) {n : Nat} (hn : n < N) (hk : za s0 25 n = 27) : ¬ kids n = [] := by
  have := h.sh n hn
  rw [hk] at this
  obtain ⟨a, b, r, c, e, -⟩ := this.fo rfl
  intro q
  rw [q] at e
  exact absurd e (by simp)
theorem fF.krk (h : fF s0 kids up sz [root] N) {n c : Nat} (hn : n < N) (hc : c ∈ kr (za s0 25) kids n) : c ∈ kids n := by
  unfold kr at hc
  split at hc
  · exact absurd hc List.not_mem_nil
  · split at hc
    · rename_i hk
      rcases List.mem_append.mp hc with q | q
      · exact List.mem_of_mem_take q
      · rw [List.mem_singleton.mp q]
        exact lk_mem (h.kne hn hk)
    · exact hc
theorem fF.rr (h : fF s0 kids up sz [root] N) {n x : Nat} (hn : n < N) (hx : rin (za s0 25) kids n x) : rch kids n x := by
  refine (hx (fun y => rch kids n y ∧ y < N) ⟨rch.rt kids n, hn⟩ (fun a b ha hb => ?_)).1
  have hb2 := h.krk ha.2 hb
  exact ⟨ha.1.kid hb2, (h.kd a ha.2 b hb2).1⟩
theorem fF.ltr (h : fF s0 kids up sz [root] N) {n x : Nat} (hn : n < N) (hx : rch kids n x) : x < N := hx (fun y => y < N) hn (fun a b ha hb => (h.kd a ha b hb).1)
theorem fF.szx (h : fF s0 kids up sz [root] N) {n x : Nat} (hn : n < N) (hx : rch kids n x) : x = n ∨ sz x < sz n := (hx (fun y => y < N ∧ (y = n ∨ sz y < sz n)) ⟨hn, Or.inl rfl⟩ (fun a b ha hb => ⟨(h.kd a ha.1 b hb).1, Or.inr (by
  have := h.szk ha.1 hb
  rcases ha.2 with rfl | q <;> omega)⟩)).2
/-- two that have one below them: one is below the other -/
theorem fF.two (h : fF s0 kids up sz [root] N) {a b x : Nat} (ha : a < N) (hb : b < N) (h1 : rch kids a x) (h2 : rch kids b x) : rch kids a b ∨ rch kids b a := by
  have : ∀ y, rch kids a y → y < N ∧ rch kids a y ∧ ∀ b, b < N → rch kids b y → rch kids a b ∨ rch kids b a := fun y hy => by
    refine hy (fun y => y < N ∧ rch kids a y ∧ ∀ b, b < N → rch kids b y → rch kids a b ∨ rch kids b a) ⟨ha, rch.rt kids a, fun b _ q => Or.inr q⟩ (fun p c hp hc => ⟨(h.kd p hp.1 c hc).1, hp.2.1.kid hc, fun b hb q => ?_⟩)
    -- b is above c: c itself, or above p
    have q2 : b = c ∨ rch kids b p := by
      refine (q (fun z => z < N ∧ rch kids b z ∧ (b = z ∨ rch kids b (up z))) ⟨hb, rch.rt kids b, Or.inl rfl⟩ (fun u w hu hw => ⟨(h.kd u hu.1 w hw).1, hu.2.1.kid hw, Or.inr (by rw [(h.kd u hu.1 w hw).2.1]; exact hu.2.1)⟩)).2.2.elim Or.inl (fun g => Or.inr ?_)
      rw [(h.kd p hp.1 c hc).2.1] at g
      exact g
    rcases q2 with rfl | q2
    · exact Or.inl (hp.2.1.kid hc)
    · exact hp.2.2 b hb q2
  exact (this x h1).2.2 b hb h2
/-- what is below one kid isn't below another -/
theorem fF.dj (h : fF s0 kids up sz [root] N) {n a b x : Nat} (hn : n < N) (ha : a ∈ kids n) (hb : b ∈ kids n) (hab : ¬ a = b) (h1 : rch kids a x) : ¬ rch kids b x := fun h2 => by
  have key : ∀ a b, a ∈ kids n → b ∈ kids n → ¬ a = b → ¬ rch kids a b := fun a b ha hb hab q => by
    have la := (h.kd n hn a ha).1
    have g := q (fun z => z < N ∧ rch kids a z ∧ (a = z ∨ rch kids a (up z))) ⟨la, rch.rt kids a, Or.inl rfl⟩ (fun u w hu hw => ⟨(h.kd u hu.1 w hw).1, hu.2.1.kid hw, Or.inr (by rw [(h.kd u hu.1 w hw).2.1]; exact hu.2.1)⟩)
    rcases g.2.2 with e | e
    · exact hab e
    · rw [(h.kd n hn b hb).2.1] at e
      have z1 := h.szk hn ha
      rcases h.szx la e with q | q
      · subst q
        omega
      · omega
  rcases h.two (h.kd n hn a ha).1 (h.kd n hn b hb).1 h1 h2 with q | q
  · exact key a b ha hb hab q
  · exact key b a hb ha (Ne.symm hab) q
end TR
/-- what a run may come to at all: from the root, and from a routine to its body -/
def wrs (K : Nat → Int) (kids : Nat → List Nat) (root x : Nat) : Prop := ∀ P : Nat → Prop, P root → (∀ n c, P n → c ∈ kr K kids n → P c) → (∀ n, P n → K n = 54 → P (lk kids n)) → P x
theorem wrs.rt (K : Nat → Int) (kids : Nat → List Nat) (root : Nat) : wrs K kids root root := fun _ h _ _ => h
theorem wrs.kid {K : Nat → Int} {kids : Nat → List Nat} {root n c : Nat} (h : wrs K kids root n) (hc : c ∈ kr K kids n) : wrs K kids root c := fun P h1 h2 h3 => h2 n c (h P h1 h2 h3) hc
theorem wrs.bod {K : Nat → Int} {kids : Nat → List Nat} {root n : Nat} (h : wrs K kids root n) (hk : K n = 54) : wrs K kids root (lk kids n) := fun P h1 h2 h3 => h3 n (h P h1 h2 h3) hk
/-- a word's node: a static name, a routine -/
def wNd (s0 : zS) (kids : Nat → List Nat) (root c : Nat) : Prop := rch kids root c ∧ (za s0 25 c = 54 ∧ wrs (za s0 25) kids root c ∨ za s0 25 c = 56 ∧ ∃ p, c ∈ kids p ∧ wrs (za s0 25) kids root p ∧ za s0 25 p = 52)
/-- a section's part -/
def lNd (s0 : zS) (kids : Nat → List Nat) (c p : Nat) : Prop := za s0 25 c = 41 ∧ c ∈ kids p
/-- a frame's word, with M words in all -/
def rng (v M : Int) : Prop := v < M ∨ 32000 < M
theorem rng.le {v M M' : Int} (h : rng v M) (hM : M ≤ M') : rng v M' := by
  unfold rng at h ⊢
  omega
/-- what the run needs of a node; M: the frame's words -/
def fac (s0 : zS) (kids : Nat → List Nat) (up : Nat → Nat) (root N : Nat) (s : zS) (M : Int) (x : Nat) : Prop :=
  (za s0 25 x = 1 → (za s 30 x = 1 ∧ 0 ≤ za s 31 x ∧ za s 31 x ≤ 99) ∨ za s 30 x = 2 ∨ (za s 30 x = 3 ∧ ∃ c : Nat, za s 31 x = c ∧ wNd s0 kids root c) ∨ (za s 30 x = 4 ∧ 0 ≤ za s 31 x ∧ rng (za s 31 x) M) ∨ za s 30 x = 6) ∧
  (za s0 25 x = 6 → 0 ≤ za s 30 x ∧ za s 30 x ≤ 75000) ∧
  (za s0 25 x = 8 → ∀ c ∈ kids x, za s0 25 c = 1 ∨ za s0 25 c = 7 ∨ za s0 25 c = 9) ∧
  (za s0 25 x = 20 → ∀ i : Nat, (i : Int) < za s0 29 x → i < (kids x).length → (za s0 25 (gt (kids x) i) = 7 ∨ za s0 25 (gt (kids x) i) = 9 ∨ za s0 25 (gt (kids x) i) = 1 ∧ (za s 30 (gt (kids x) i) = 1 ∨ za s 30 (gt (kids x) i) = 3 ∨ za s 30 (gt (kids x) i) = 4))) ∧
  (za s0 25 x = 27 → za s 29 x = (lk kids x : Nat) ∧ 0 ≤ za s 31 x ∧ rng (za s 31 x + 1) M) ∧
  ((za s0 25 x = 29 ∨ za s0 25 x = 30) → (cxF (za s0 25) up root N x).2.1 = true) ∧
  (za s0 25 x = 31 → ∃ p ∈ (cxF (za s0 25) up root N x).2.2.2, za s0 25 p = 28) ∧
  (za s0 25 x = 32 → (cxF (za s0 25) up root N x).1 = -1 ∨ ∃ r : Nat, (cxF (za s0 25) up root N x).1 = r ∧ 20 ≤ za s0 25 (lk kids r)) ∧
  (za s0 25 x = 33 → 0 ≤ (cxF (za s0 25) up root N x).2.2.1) ∧
  (za s0 25 x = 35 → ∃ c p : Nat, za s 31 x = c ∧ lNd s0 kids c p ∧ p ∈ (cxF (za s0 25) up root N x).2.2.2) ∧
  (za s0 25 x = 41 → za s 30 x = up x) ∧
  (za s0 25 x = 54 → ∃ r : Nat, za s 29 x = r ∧ (r : Int) < zv s 69 ∧ za s 72 r = (lk kids x : Nat) ∧ 0 ≤ za s 31 x ∧ (za s 31 x ≤ 99 ∨ za s 31 x < zv s 81)) ∧
  (za s0 25 x = 56 → za s0 25 (up x) = 52 → 0 ≤ za s 31 x ∧ za s 31 x < zv s 81) ∧
  (za s0 25 x = 55 → 0 ≤ za s 30 x ∧ rng (za s 30 x + (((kids x).filter fun c => za s0 25 c = 58).length : Nat) - 1) M ∧ ∀ c ∈ kids x, za s0 25 c = 59 → 0 ≤ za s 31 c ∧ za s 31 c ≤ 75000)
/-- what a node's fact speaks of stays -/
theorem fac.fr {s0 : zS} {kids : Nat → List Nat} {up : Nat → Nat} {root N : Nat} {s s' : zS} {M M' : Int} {x : Nat} (h : fac s0 kids up root N s M x) (hM : M ≤ M') (h69 : zv s 69 ≤ zv s' 69) (h81 : zv s 81 ≤ zv s' 81) (h72 : ∀ r : Nat, (r : Int) < zv s 69 → za s' 72 r = za s 72 r) (e : ∀ y, y = x ∨ y ∈ kids x → za s' 29 y = za s 29 y ∧ za s' 30 y = za s 30 y ∧ za s' 31 y = za s 31 y) : fac s0 kids up root N s' M' x := by
  obtain ⟨x1, x2, x3⟩ := e x (Or.inl rfl)
  obtain ⟨f1, f2, f3, f4, f5, f6, f7, f8, f9, f10, f11, f12, f13, f14⟩ := h
  unfold fac
  rw [x1, x2, x3]
  refine ⟨fun k => ?_, f2, f3, fun k i h1 h2 => ?_, fun k => ?_, f6, f7, f8, f9, f10, f11, fun k => ?_, fun k k2 => ?_, fun k => ?_⟩
  · rcases f1 k with q | q | q | q | q
    · exact Or.inl q
    · exact Or.inr (Or.inl q)
    · exact Or.inr (Or.inr (Or.inl q))
    · exact Or.inr (Or.inr (Or.inr (Or.inl ⟨q.1, q.2.1, q.2.2.le hM⟩)))
    · exact Or.inr (Or.inr (Or.inr (Or.inr q)))
  · rw [(e _ (Or.inr (gt_m h2))).2.1]
    exact f4 k i h1 h2
  · obtain ⟨q1, q2, q3⟩ := f5 k
    exact ⟨q1, q2, q3.le hM⟩
  · obtain ⟨r, q1, q2, q5, q3, q4⟩ := f12 k
    refine ⟨r, q1, by omega, by rw [h72 r q2]; exact q5, q3, ?_⟩
    clear h72 e
    omega
  · have := f13 k k2
    omega
  · obtain ⟨q1, q2, q3⟩ := f14 k
    exact ⟨q1, q2.le hM, fun c hc k2 => by rw [(e c (Or.inr hc)).2.2]; exact q3 c hc k2⟩
/-- the facts of all that a run comes to from n on -/
def FA (s0 : zS) (kids : Nat → List Nat) (up : Nat → Nat) (root N : Nat) (s : zS) (M : Int) (n : Nat) : Prop := ∀ y, rin (za s0 25) kids n y → fac s0 kids up root N s M y
/-- the facts of a routine's number; n: above its node -/
def RF (s0 : zS) (kids : Nat → List Nat) (up : Nat → Nat) (root N : Nat) (s : zS) (n r : Nat) : Prop := ∃ x, rch kids n x ∧ za s0 25 x = 54 ∧ za s 29 x = r ∧ za s 72 r = (lk kids x : Nat) ∧ 0 ≤ za s 71 r ∧ za s 71 r ≤ 20 ∧ rng (za s 71 r + 1) (za s 70 r) ∧ (zv s 12 = 0 → FA s0 kids up root N s (za s 70 r) (lk kids x))

