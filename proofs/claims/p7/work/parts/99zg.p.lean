/-! WHAT STANDS AROUND A NODE -/
/-- what is below the root: the least that holds of it and goes down -/
def rch (kids : Nat → List Nat) (root x : Nat) : Prop := ∀ P : Nat → Prop, P root → (∀ n c, P n → c ∈ kids n → P c) → P x
theorem rch.rt (kids : Nat → List Nat) (root : Nat) : rch kids root root := fun _ h _ => h
theorem rch.kid {kids : Nat → List Nat} {root n c : Nat} (h : rch kids root n) (hc : c ∈ kids n) : rch kids root c := fun P h1 h2 => h2 n c (h P h1 h2) hc
/-- a node's surroundings: its routine (-1: none), whether in a loop, in a VALOF (its node, -1), the sections around it -/
def gCx : Type := Int × Bool × Int × List Nat
def cxT : gCx := (-1, false, -1, [])
def cxS (k : Int) (n : Nat) (c : gCx) : gCx :=
  if k = 54 then ((n : Int), false, -1, [])
  else if k = 4 then (c.1, false, (n : Int), [])
  else if k = 25 ∨ k = 26 ∨ k = 27 ∨ k = 38 ∨ k = 39 ∨ k = 40 then (c.1, true, c.2.2.1, c.2.2.2)
  else if k = 28 ∨ k = 36 then (c.1, c.2.1, c.2.2.1, n :: c.2.2.2)
  else c
def cxF (K : Nat → Int) (up : Nat → Nat) (root : Nat) : Nat → Nat → gCx
  | 0, _ => cxT
  | f + 1, n => if n = root then cxT else cxS (K (up n)) (up n) (cxF K up root f (up n))
theorem cxF_rt (K : Nat → Int) (up : Nat → Nat) (root : Nat) : ∀ f, cxF K up root f root = cxT
  | 0 => rfl
  | _ + 1 => if_pos rfl
/-- the tree: one node waits -/
theorem fF.lt {s : zS} {kids : Nat → List Nat} {up sz : Nat → Nat} {root N x : Nat} (h : fF s kids up sz [root] N) (hx : rch kids root x) : x < N := hx (fun x => x < N) (h.wt root (List.mem_cons_self ..)).1 (fun n c hn hc => (h.kd n hn c hc).1)
theorem sum_mem {sz : Nat → Nat} : ∀ {l : List Nat} {c : Nat}, c ∈ l → sz c ≤ (l.map sz).sum
  | a :: l, c, hc => by
    rw [List.map_cons, List.sum_cons]
    rcases List.mem_cons.mp hc with rfl | hc
    · omega
    · have := sum_mem (sz := sz) hc
      omega
theorem fF.szk {s : zS} {kids : Nat → List Nat} {up sz : Nat → Nat} {W : List Nat} {N n c : Nat} (h : fF s kids up sz W N) (hn : n < N) (hc : c ∈ kids n) : sz c < sz n := by
  have := h.ss n hn
  have := sum_mem (sz := sz) hc
  omega
theorem fF.szr {s : zS} {kids : Nat → List Nat} {up sz : Nat → Nat} {root N x : Nat} (h : fF s kids up sz [root] N) (hx : rch kids root x) : sz x ≤ N := by
  have h0 : sz root = N := by
    have := h.ws
    simpa using this
  have := hx (fun x => x < N ∧ sz x ≤ N) ⟨(h.wt root (List.mem_cons_self ..)).1, by omega⟩ (fun n c hn hc => ⟨(h.kd n hn.1 c hc).1, by have := h.szk hn.1 hc; omega⟩)
  exact this.2
theorem cxF_st {s : zS} {kids : Nat → List Nat} {up sz : Nat → Nat} {root N x : Nat} (K : Nat → Int) (h : fF s kids up sz [root] N) (hx : rch kids root x) : ∀ f, N - sz x ≤ f → cxF K up root f x = cxF K up root (f + 1) x := by
  have h0 : sz root = N := by
    have := h.ws
    simpa using this
  refine (hx (fun x => rch kids root x ∧ ∀ f, N - sz x ≤ f → cxF K up root f x = cxF K up root (f + 1) x) ⟨rch.rt kids root, fun f _ => by rw [cxF_rt, cxF_rt]⟩ (fun n c hn hc => ⟨hn.1.kid hc, fun f hf => ?_⟩)).2
  have hnN := h.lt hn.1
  obtain ⟨k1, k2, k3⟩ := h.kd n hnN c hc
  have hcr : ¬ c = root := fun e => k3 (by rw [e]; exact List.mem_cons_self ..)
  have hz := h.szk hnN hc
  have hzn := h.szr hn.1
  cases f with
  | zero => omega
  | succ f =>
    show (if c = root then cxT else _) = (if c = root then cxT else _)
    rw [if_neg hcr, if_neg hcr, k2, hn.2 f (by omega)]
/-- what stands around a child -/
theorem cxF_kid {s : zS} {kids : Nat → List Nat} {up sz : Nat → Nat} {root N n c : Nat} (K : Nat → Int) (h : fF s kids up sz [root] N) (hn : rch kids root n) (hc : c ∈ kids n) : cxF K up root N c = cxS (K n) n (cxF K up root N n) := by
  have hnN := h.lt hn
  obtain ⟨k1, k2, k3⟩ := h.kd n hnN c hc
  have hcr : ¬ c = root := fun e => k3 (by rw [e]; exact List.mem_cons_self ..)
  have hz := h.szk hnN hc
  have hzn := h.szr hn
  have h1 : 1 ≤ sz c := by have := h.ss c k1; omega
  obtain ⟨M, rfl⟩ : ∃ M, N = M + 1 := ⟨N - 1, by omega⟩
  have := cxF_st K h hn M (by omega)
  rw [← this]
  show (if c = root then cxT else _) = _
  rw [if_neg hcr, k2]
