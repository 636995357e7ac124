/-! THE CHECK: AROUND A NODE; A TASK'S TRIPLE -/
section CX
variable (s0 : zS) (kids : Nat → List Nat)
def EC (s : zS) (S : List Nat) : Prop := ∀ e : Nat, (e : Int) < zv s 49 → (za s 51 e = 4 → za s 53 e = zv s 73 → rng (za s 52 e) (zv s 75)) ∧ (za s 51 e = 5 → za s 53 e = zv s 73 → za s 54 e = zv s 77 → ∃ c p : Nat, za s 52 e = c ∧ lNd s0 kids c p ∧ p ∈ S)
/-- the state fits what stands around a node -/
def cX (s : zS) (c : gCx) : Prop := (¬ zv s 79 = 0 → c.2.1 = true) ∧ (¬ zv s 80 = 0 → ∃ p ∈ c.2.2.2, za s0 25 p = 28) ∧ (¬ zv s 77 = 0 → 0 ≤ c.2.2.1) ∧ (zv s 76 = 0 → c.1 = -1 ∨ ∃ r : Nat, c.1 = r ∧ 20 ≤ za s0 25 (lk kids r)) ∧ EC s0 kids s c.2.2.2
end CX
theorem EC.fr {s0 s s' : zS} {kids : Nat → List Nat} {S : List Nat} {D : Nat → Prop} {w : Nat} (h : EC s0 kids s S) (p : cP s s' D w) (h49 : zv s' 49 = zv s 49) : EC s0 kids s' S := fun e he => by
  rw [h49] at he
  obtain ⟨q1, q2⟩ := h e he
  obtain ⟨-, r1, r2, r3, r4⟩ := p.er e he
  rw [r1, r2, r3, p.s73, p.s77]
  refine ⟨fun k k2 => (q1 k k2).le p.mu, fun k k2 k3 => q2 k k2 ?_⟩
  rw [← r4 (by rw [k]; decide)]
  exact k3
theorem cX.fr {s0 s s' : zS} {kids : Nat → List Nat} {c : gCx} {D : Nat → Prop} {w : Nat} (h : cX s0 kids s c) (p : cP s s' D w) (h49 : zv s' 49 = zv s 49) : cX s0 kids s' c := by
  obtain ⟨h1, h2, h3, h4, h5⟩ := h
  refine ⟨?_, ?_, ?_, ?_, h5.fr p h49⟩
  · rw [p.s79]; exact h1
  · rw [p.s80]; exact h2
  · rw [p.s77]; exact h3
  · rw [p.s76]; exact h4
/-- the entries have changed as well -/
theorem cX.fe {s0 s s' : zS} {kids : Nat → List Nat} {c : gCx} {D : Nat → Prop} {w : Nat} (h : cX s0 kids s c) (p : cP s s' D w) (h5 : EC s0 kids s' c.2.2.2) : cX s0 kids s' c := by
  obtain ⟨h1, h2, h3, h4, -⟩ := h
  refine ⟨?_, ?_, ?_, ?_, h5⟩
  · rw [p.s79]; exact h1
  · rw [p.s80]; exact h2
  · rw [p.s77]; exact h3
  · rw [p.s76]; exact h4
/-- the room that nodes want; u: entries, t: tasks below -/
def cB (s : zS) (w u t : Nat) : Prop := zv s 49 + u ≤ 9000 ∧ zv s 67 + 9 * w ≤ 60000 ∧ zv s 69 + w ≤ 3000 ∧ zv s 81 + 60 * w ≤ 1000000 ∧ zv s 78 + w ≤ 1000000 ∧ zv s 79 + w ≤ 1000000 ∧ zv s 80 + w ≤ 1000000 ∧ t + 2 * w ≤ 26000
theorem cB.fr {s s' : zS} {D : Nat → Prop} {w u u2 w1 w2 t : Nat} (h : cB s w u t) (p : cP s s' D w1) (hw : w1 + w2 ≤ w) (hu : zv s' 49 + u2 ≤ zv s 49 + u) : cB s' w2 u2 t := by
  obtain ⟨h1, h2, h3, h4, h5, h6, h7, h8⟩ := h
  have a2 := p.s67
  have a3 := p.r2
  have a4 := p.w2
  have a5 := p.v2
  have a6 := p.s79
  have a7 := p.s80
  unfold cB
  omega
theorem cB.fs {s s' : zS} {D : Nat → Prop} {w u u2 w1 w2 t : Nat} (h : cB s w u t) (p : cP s s' D w1) (hw : w1 + w2 ≤ w) (h49 : zv s' 49 = zv s 49) (hu : u2 ≤ u) : cB s' w2 u2 t := h.fr p hw (by omega)
theorem cB.le {s : zS} {w w2 u u2 t t2 : Nat} (h : cB s w u t) (hw : w2 ≤ w) (hu : u2 ≤ u) (ht : t2 + 2 * w2 ≤ t + 2 * w) : cB s w2 u2 t2 := by
  obtain ⟨h1, h2, h3, h4, h5, h6, h7, h8⟩ := h
  unfold cB
  omega
theorem cB.sm {s s' : zS} {w u t : Nat} {js ks : List Nat} (h : cB s w u t) (f : zSm s s' js ks) (hk : ([49, 67, 69, 78, 79, 80, 81].all fun k => !ks.contains k) = true) : cB s' w u t := by
  have K : ∀ k, [49, 67, 69, 78, 79, 80, 81].contains k = true → zv s' k = zv s k := fun k h1 => f.v k (by
    have := List.all_eq_true.mp hk k (by simpa using h1)
    simpa using this)
  obtain ⟨h1, h2, h3, h4, h5, h6, h7, h8⟩ := h
  unfold cB
  rw [K 49 rfl, K 67 rfl, K 69 rfl, K 78 rfl, K 79 rfl, K 80 rfl, K 81 rfl]
  exact ⟨h1, h2, h3, h4, h5, h6, h7, h8⟩
/-- the entries that a node wants (a part's labels are there) -/
def ub (K : Nat → Int) (kids : Nat → List Nat) (sz : Nat → Nat) (n : Nat) : Nat := if K n = 41 then sz (lk kids n) else sz n
theorem ub_o {K : Nat → Int} {kids : Nat → List Nat} {sz : Nat → Nat} {n : Nat} (h : ¬ K n = 41) : ub K kids sz n = sz n := if_neg h
theorem ub_le {s0 : zS} {kids : Nat → List Nat} {up sz : Nat → Nat} {root N : Nat} (h : fF s0 kids up sz [root] N) {n : Nat} (hn : n < N) : ub (za s0 25) kids sz n ≤ sz n := by
  unfold ub
  split
  · rename_i k
    have hs := h.sh n hn
    rw [k] at hs
    obtain ⟨r, c, e1, -⟩ := hs.pa rfl
    have hne : ¬ kids n = [] := fun e2 => by rw [e2] at e1; simp at e1
    exact Nat.le_of_lt (h.szk hn (lk_mem hne))
  · exact Nat.le_refl _
/-- the tasks go on, with m rounds or more -/
def kL (Qc : zS → Prop) (m : Nat) (s : zS) : Prop := ∀ M, m ≤ M → wr_check_140 Qc M s
theorem kL.le {Qc : zS → Prop} {m m' : Nat} {s : zS} (h : kL Qc m s) (hm : m ≤ m') : kL Qc m' s := fun M hM => h M (Nat.le_trans hm hM)
theorem kL.step {Qc : zS → Prop} {m : Nat} {s : zS} {t n a : Int} {l : List cT} (h : cTk s ((t, n, a) :: l)) (hl : l.length < 26000) (g : ∀ s1, zSm s s1 [] [63] → cTk s1 l → wr_go s1 t n a (fun s' => kL Qc m s')) : kL Qc (m + 1) s := by
  intro M hM
  obtain ⟨M, rfl⟩ : ∃ q, M = q + 1 := ⟨M - 1, by omega⟩
  have e63 : zv s 63 = ((l.length + 1 : Nat) : Int) := h.2
  have e1 : ((l.length + 1 : Nat) : Int) - 1 = l.length := by omega
  unfold wr_check_140
  unfold wr_check_140B
  rw [e63, e1, Int.toNat_natCast, h.1.1.1, h.1.1.2.1, h.1.1.2.2]
  have f1 : zSm s (zpv s 63 l.length) [] [63] := zSm.rf.pv rfl
  have h1 : cTk (zpv s 63 l.length) l := ⟨h.1.2.fr (fun _ _ _ _ => rfl), rfl⟩
  refine ⟨fun c => absurd c (by omega), fun _ => ⟨⟨by omega, by omega⟩, by omega, by omega, by omega, by omega, by omega, by omega, ffm_go (g _ f1 h1) ?_⟩⟩
  intro s' _ q
  exact q M (by omega)
section TRI
variable (s0 : zS) (kids : Nat → List Nat) (up sz : Nat → Nat) (root N : Nat) (Qc : zS → Prop)
/-- what must hold before a node's task -/
def pre (s : zS) (n t : Nat) : Prop := GI s0 kids root s ∧ cX s0 kids s (cxF (za s0 25) up root N n) ∧ cB s (sz n) (ub (za s0 25) kids sz n) t
/-- a node's task, where Y holds: it is done, and leaves what PB and X say -/
def tri (k : Nat) (t : Int) (n : Nat) (Y X : zS → Prop) : Prop := ∀ (m : Nat) (s : zS) (l : List cT), cTk s ((t, (n : Int), 0) :: l) → pre s0 kids up sz root N s n l.length → Y s → (∀ s', cTk s' l → PB s0 kids up sz root N s s' [n] → X s' → kL Qc m s') → kL Qc (m + 4 * sz n - k) s
/-- a declaration's task: there may be more entries -/
def triD (t : Int) (n : Nat) (Y : zS → Prop) : Prop := ∀ (m : Nat) (s : zS) (l : List cT), cTk s ((t, (n : Int), 0) :: l) → pre s0 kids up sz root N s n l.length → Y s → (∀ s', cTk s' l → PBc s0 kids up sz root N s s' [n] → EC s0 kids s' (cxF (za s0 25) up root N n).2.2.2 → zv s' 49 ≤ zv s 49 + ub (za s0 25) kids sz n → kL Qc m s') → kL Qc (m + 4 * sz n) s
end TRI
def tt : zS → Prop := fun _ => True
theorem tri.D {s0 : zS} {kids : Nat → List Nat} {up sz : Nat → Nat} {root N : Nat} {Qc : zS → Prop} {k : Nat} {t : Int} {n : Nat} {Y X : zS → Prop} (g : tri s0 kids up sz root N Qc k t n Y X) : triD s0 kids up sz root N Qc t n Y := fun m s l h1 h2 h3 hq => (g m s l h1 h2 h3 (fun s' k p _ => hq s' k p.1 (h2.2.1.2.2.2.2.fr p.1.1 p.2.1) (by rw [p.2.1]; omega))).le (by omega)
/-- stays while tasks of other nodes are done -/
def stb (kids : Nat → List Nat) (Y : Nat → zS → Prop) : Prop := ∀ (c : Nat) (s s' : zS) (D : Nat → Prop) (w : Nat), Y c s → cP s s' D w → (∀ y, rch kids c y → ¬ D y) → Y c s'
theorem stb_tt {kids : Nat → List Nat} : stb kids (fun _ => tt) := fun _ _ _ _ _ _ _ _ => trivial
theorem seqTU {s0 : zS} {kids : Nat → List Nat} {up sz : Nat → Nat} {root N : Nat} {Qc : zS → Prop} (h : fF s0 kids up sz [root] N) {n : Nat} (hn : n < N) (ty : Nat → Int) {κ : Nat → Nat} {Y X : Nat → zS → Prop} (sY : stb kids Y) (sX : stb kids X) (U : Nat) : ∀ (ks : List Nat), (∀ c ∈ ks, c ∈ kids n) → ks.Nodup → (∀ c ∈ ks, tri s0 kids up sz root N Qc (κ c) (ty c) c (Y c) (X c)) → ∀ (m : Nat) (s : zS) (l : List cT), cTk s (ks.map (fun c : Nat => ((ty c, (c : Int), 0) : cT)) ++ l) → GI s0 kids root s → (∀ c ∈ ks, cX s0 kids s (cxF (za s0 25) up root N c)) → cB s (szs sz ks) U l.length → (∀ c ∈ ks, ub (za s0 25) kids sz c ≤ U) → (∀ c ∈ ks, Y c s) → (∀ s', cTk s' l → PB s0 kids up sz root N s s' ks → (∀ c ∈ ks, X c s') → kL Qc m s') → kL Qc (m + 4 * szs sz ks) s
  | [], _, _, _, m, s, l, h1, h2, _, _, _, _, hq => hq s h1 ⟨PBc.nil cP.rf h2 rfl rfl, rfl, rfl⟩ (fun c hc => absurd hc List.not_mem_nil)
  | c :: ks, hks, hnd, ht, m, s, l, h1, h2, h3, h4, hU, h5, hq => by
    rw [List.nodup_cons] at hnd
    have hc := hks c (List.mem_cons_self ..)
    have ez : szs sz (c :: ks) = sz c + szs sz ks := by simp only [szs, List.map_cons, List.sum_cons]
    have e1 : szs sz [c] = sz c := by simp only [szs, List.map_cons, List.map_nil, List.sum_cons, List.sum_nil]; omega
    have hlen : ks.length ≤ szs sz ks := len_sum h (fun x hx => (h.kd n hn x (hks x (List.mem_cons_of_mem _ hx))).1)
    have hzc : 1 ≤ sz c := by have := h.ss c (h.kd n hn c hc).1; omega
    rw [ez] at h4
    have hl : (ks.map (fun c : Nat => ((ty c, (c : Int), 0) : cT)) ++ l).length = ks.length + l.length := by rw [List.length_append, List.length_map]
    have dj1 : ∀ d ∈ ks, ∀ y, rch kids d y → ¬ bel kids [c] y := fun d hd y hy ⟨c2, hc2, hr⟩ => by
      rw [List.mem_singleton.mp hc2] at hr
      exact h.dj hn hc (hks d (List.mem_cons_of_mem _ hd)) (fun e => hnd.1 (by rw [e]; exact hd)) hr hy
    have dj2 : ∀ y, rch kids c y → ¬ bel kids ks y := fun y hy ⟨d, hd, hr⟩ => h.dj hn hc (hks d (List.mem_cons_of_mem _ hd)) (fun e => hnd.1 (by rw [e]; exact hd)) hy hr
    have := ht c (List.mem_cons_self ..) (m + 4 * szs sz ks) s (ks.map (fun c : Nat => ((ty c, (c : Int), 0) : cT)) ++ l) h1 ⟨h2, h3 c (List.mem_cons_self ..), h4.le (by omega) (hU c (List.mem_cons_self ..)) (by rw [hl]; omega)⟩ (h5 c (List.mem_cons_self ..)) (fun s1 k1 p1 x1 => ?_)
    · rw [ez]
      exact this.le (by omega)
    · refine seqTU h hn ty sY sX U ks (fun d hd => hks d (List.mem_cons_of_mem _ hd)) hnd.2 (fun d hd => ht d (List.mem_cons_of_mem _ hd)) m s1 l k1 p1.1.2.1 (fun d hd => (h3 d (List.mem_cons_of_mem _ hd)).fr p1.1.1 p1.2.1) (h4.fs p1.1.1 (by rw [e1]; omega) p1.2.1 (Nat.le_refl _)) (fun d hd => hU d (List.mem_cons_of_mem _ hd)) (fun d hd => sY d s s1 _ _ (h5 d (List.mem_cons_of_mem _ hd)) p1.1.1 (dj1 d hd)) (fun s2 k2 p2 x2 => hq s2 k2 (p1.cons h hn hc (fun d hd => hks d (List.mem_cons_of_mem _ hd)) hnd.1 p2) (fun d hd => ?_))
      rcases List.mem_cons.mp hd with rfl | hd
      · exact sX d s1 s2 _ _ x1 p2.1.1 dj2
      · exact x2 d hd
theorem seqT {s0 : zS} {kids : Nat → List Nat} {up sz : Nat → Nat} {root N : Nat} {Qc : zS → Prop} (h : fF s0 kids up sz [root] N) {n : Nat} (hn : n < N) (ty : Nat → Int) {κ : Nat → Nat} {Y X : Nat → zS → Prop} (sY : stb kids Y) (sX : stb kids X) (ks : List Nat) (hks : ∀ c ∈ ks, c ∈ kids n) (hnd : ks.Nodup) (ht : ∀ c ∈ ks, tri s0 kids up sz root N Qc (κ c) (ty c) c (Y c) (X c)) (m : Nat) (s : zS) (l : List cT) (h1 : cTk s (ks.map (fun c : Nat => ((ty c, (c : Int), 0) : cT)) ++ l)) (h2 : GI s0 kids root s) (h3 : ∀ c ∈ ks, cX s0 kids s (cxF (za s0 25) up root N c)) (h4 : cB s (szs sz ks) (szs sz ks) l.length) (h5 : ∀ c ∈ ks, Y c s) (hq : ∀ s', cTk s' l → PB s0 kids up sz root N s s' ks → (∀ c ∈ ks, X c s') → kL Qc m s') : kL Qc (m + 4 * szs sz ks) s := seqTU h hn ty sY sX (szs sz ks) ks hks hnd ht m s l h1 h2 h3 h4 (fun c hc => by
  have := ub_le h (h.kd n hn c (hks c hc)).1
  have := sum_mem (sz := sz) hc
  unfold szs
  omega) h5 hq
/-- the same with declarations; S: the sections around -/
theorem seqD {s0 : zS} {kids : Nat → List Nat} {up sz : Nat → Nat} {root N : Nat} {Qc : zS → Prop} (h : fF s0 kids up sz [root] N) {n : Nat} (hn : n < N) (ty : Nat → Int) {Y : Nat → zS → Prop} (sY : stb kids Y) (c0 : gCx) : ∀ (ks : List Nat), (∀ c ∈ ks, c ∈ kids n) → ks.Nodup → (∀ c ∈ ks, cxF (za s0 25) up root N c = c0) → (∀ c ∈ ks, triD s0 kids up sz root N Qc (ty c) c (Y c)) → ∀ (m : Nat) (s : zS) (l : List cT), cTk s (ks.map (fun c : Nat => ((ty c, (c : Int), 0) : cT)) ++ l) → GI s0 kids root s → cX s0 kids s c0 → cB s (szs sz ks) (szs (ub (za s0 25) kids sz) ks) l.length → (∀ c ∈ ks, Y c s) → (∀ s', cTk s' l → PBc s0 kids up sz root N s s' ks → EC s0 kids s' c0.2.2.2 → kL Qc m s') → kL Qc (m + 4 * szs sz ks) s
  | [], _, _, _, _, m, s, l, h1, h2, h3, _, _, hq => hq s h1 (PBc.nil cP.rf h2 rfl rfl) h3.2.2.2.2
  | c :: ks, hks, hnd, hcx, ht, m, s, l, h1, h2, h3, h4, h5, hq => by
    rw [List.nodup_cons] at hnd
    have hc := hks c (List.mem_cons_self ..)
    have ez : szs sz (c :: ks) = sz c + szs sz ks := by simp only [szs, List.map_cons, List.sum_cons]
    have e1 : szs sz [c] = sz c := by simp only [szs, List.map_cons, List.map_nil, List.sum_cons, List.sum_nil]; omega
    have hlen : ks.length ≤ szs sz ks := len_sum h (fun x hx => (h.kd n hn x (hks x (List.mem_cons_of_mem _ hx))).1)
    have hzc : 1 ≤ sz c := by have := h.ss c (h.kd n hn c hc).1; omega
    have eu : szs (ub (za s0 25) kids sz) (c :: ks) = ub (za s0 25) kids sz c + szs (ub (za s0 25) kids sz) ks := by simp only [szs, List.map_cons, List.sum_cons]
    rw [ez, eu] at h4
    have hl : (ks.map (fun c : Nat => ((ty c, (c : Int), 0) : cT)) ++ l).length = ks.length + l.length := by rw [List.length_append, List.length_map]
    have dj1 : ∀ d ∈ ks, ∀ y, rch kids d y → ¬ bel kids [c] y := fun d hd y hy ⟨c2, hc2, hr⟩ => by
      rw [List.mem_singleton.mp hc2] at hr
      exact h.dj hn hc (hks d (List.mem_cons_of_mem _ hd)) (fun e => hnd.1 (by rw [e]; exact hd)) hr hy
    have := ht c (List.mem_cons_self ..) (m + 4 * szs sz ks) s (ks.map (fun c : Nat => ((ty c, (c : Int), 0) : cT)) ++ l) h1 ⟨h2, by rw [hcx c (List.mem_cons_self ..)]; exact h3, h4.le (by omega) (by omega) (by rw [hl]; omega)⟩ (h5 c (List.mem_cons_self ..)) (fun s1 k1 p1 x1 u1 => ?_)
    · rw [ez]
      exact this.le (by omega)
    · rw [hcx c (List.mem_cons_self ..)] at x1
      refine seqD h hn ty sY c0 ks (fun d hd => hks d (List.mem_cons_of_mem _ hd)) hnd.2 (fun d hd => hcx d (List.mem_cons_of_mem _ hd)) (fun d hd => ht d (List.mem_cons_of_mem _ hd)) m s1 l k1 p1.2.1 (h3.fe p1.1 x1) (h4.fr p1.1 (by rw [e1]; omega) (by omega)) (fun d hd => sY d s s1 _ _ (h5 d (List.mem_cons_of_mem _ hd)) p1.1 (dj1 d hd)) (fun s2 k2 p2 x2 => hq s2 k2 (p1.cons h hn hc (fun d hd => hks d (List.mem_cons_of_mem _ hd)) hnd.1 p2) x2)

