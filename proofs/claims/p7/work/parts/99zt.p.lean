/-! THE CHECK: WHERE A TASK GOES -/
theorem go_1 {s : zS} {n a : Int} {Q : zS → Prop} (hq : wr_declaration s n Q) : wr_go s 1 n a Q := by
  unfold wr_go
  repeat' (first | (with_reducible exact hq) | (with_reducible apply And.intro) | omega | (intro c; exact absurd c (by decide)) | (intro c; exact absurd rfl c) | (with_reducible intro _) | fail)
theorem go_2 {s : zS} {n a : Int} {Q : zS → Prop} (hq : wr_commandOf s n Q) : wr_go s 2 n a Q := by
  unfold wr_go
  repeat' (first | (with_reducible exact hq) | (with_reducible apply And.intro) | omega | (intro c; exact absurd c (by decide)) | (intro c; exact absurd rfl c) | (with_reducible intro _) | fail)
theorem go_3 {s : zS} {n a : Int} {Q : zS → Prop} (hq : wr_expressionOf s n Q) : wr_go s 3 n a Q := by
  unfold wr_go
  repeat' (first | (with_reducible exact hq) | (with_reducible apply And.intro) | omega | (intro c; exact absurd c (by decide)) | (intro c; exact absurd rfl c) | (with_reducible intro _) | fail)
theorem go_4 {s : zS} {n a : Int} {Q : zS → Prop} (hq : wr_placeOf s n 1 Q) : wr_go s 4 n a Q := by
  unfold wr_go
  repeat' (first | (with_reducible exact hq) | (with_reducible apply And.intro) | omega | (intro c; exact absurd c (by decide)) | (intro c; exact absurd rfl c) | (with_reducible intro _) | fail)
theorem go_5 {s : zS} {n a : Int} {Q : zS → Prop} (hq : wr_placeOf s n 0 Q) : wr_go s 5 n a Q := by
  unfold wr_go
  repeat' (first | (with_reducible exact hq) | (with_reducible apply And.intro) | omega | (intro c; exact absurd c (by decide)) | (intro c; exact absurd rfl c) | (with_reducible intro _) | fail)
theorem go_6 {s : zS} {n a : Int} {Q : zS → Prop} (hq : wr_routineOf s n a Q) : wr_go s 6 n a Q := by
  unfold wr_go
  repeat' (first | (with_reducible exact hq) | (with_reducible apply And.intro) | omega | (intro c; exact absurd c (by decide)) | (intro c; exact absurd rfl c) | (with_reducible intro _) | fail)
theorem go_7 {s : zS} {n a : Int} {Q : zS → Prop} (hq : wr_routineEnds s n Q) : wr_go s 7 n a Q := by
  unfold wr_go
  repeat' (first | (with_reducible exact hq) | (with_reducible apply And.intro) | omega | (intro c; exact absurd c (by decide)) | (intro c; exact absurd rfl c) | (with_reducible intro _) | fail)
theorem go_8 {s : zS} {n a : Int} {Q : zS → Prop} (hq : wr_varsEnd s n Q) : wr_go s 8 n a Q := by
  unfold wr_go
  repeat' (first | (with_reducible exact hq) | (with_reducible apply And.intro) | omega | (intro c; exact absurd c (by decide)) | (intro c; exact absurd rfl c) | (with_reducible intro _) | fail)
theorem go_9 {s : zS} {n a : Int} {Q : zS → Prop} (hq : wr_blockEnds s a Q) : wr_go s 9 n a Q := by
  unfold wr_go
  repeat' (first | (with_reducible exact hq) | (with_reducible apply And.intro) | omega | (intro c; exact absurd c (by decide)) | (intro c; exact absurd rfl c) | (with_reducible intro _) | fail)
theorem go_10 {s : zS} {n a : Int} {Q : zS → Prop} (hq : zR (zv s 79 + a) ∧ Q (zpv s 79 (zv s 79 + a))) : wr_go s 10 n a Q := by
  unfold wr_go
  repeat' (first | (with_reducible exact hq) | (with_reducible apply And.intro) | omega | (intro c; exact absurd c (by decide)) | (intro c; exact absurd rfl c) | (with_reducible intro _) | fail)
theorem go_11 {s : zS} {n a : Int} {Q : zS → Prop} (hq : wr_forName s n Q) : wr_go s 11 n a Q := by
  unfold wr_go
  repeat' (first | (with_reducible exact hq) | (with_reducible apply And.intro) | omega | (intro c; exact absurd c (by decide)) | (intro c; exact absurd rfl c) | (with_reducible intro _) | fail)
theorem go_12 {s : zS} {n a : Int} {Q : zS → Prop} (hq : wr_switchOf s n Q) : wr_go s 12 n a Q := by
  unfold wr_go
  repeat' (first | (with_reducible exact hq) | (with_reducible apply And.intro) | omega | (intro c; exact absurd c (by decide)) | (intro c; exact absurd rfl c) | (with_reducible intro _) | fail)
theorem go_13 {s : zS} {n a : Int} {Q : zS → Prop} (hq : wr_part s n Q) : wr_go s 13 n a Q := by
  unfold wr_go
  repeat' (first | (with_reducible exact hq) | (with_reducible apply And.intro) | omega | (intro c; exact absurd c (by decide)) | (intro c; exact absurd rfl c) | (with_reducible intro _) | fail)
theorem go_14 {s : zS} {n a : Int} {Q : zS → Prop} (hq : wr_pull s (fun r43 s44 => wr_pull (zpv s44 80 r43) (fun r51 s52 => wr_pull (zpv s52 79 r51) (fun r59 s60 => Q (zpv s60 77 r59))))) : wr_go s 14 n a Q := by
  unfold wr_go
  repeat' (first | (with_reducible exact hq) | (with_reducible apply And.intro) | omega | (intro c; exact absurd c (by decide)) | (intro c; exact absurd rfl c) | (with_reducible intro _) | fail)
theorem eo_1 {s : zS} {n : Nat} {Q : zS → Prop} (hn : n < 26000) (hk : za s 25 n = 1) (hq : wr_named s n (fun _ s1 => Q s1)) : wr_expressionOf s n Q := by
  unfold wr_expressionOf
  rw [Int.toNat_natCast, hk]
  repeat' (first | (with_reducible exact hq) | (with_reducible apply And.intro) | omega | (intro c; exact absurd c (by decide)) | (intro c; exact absurd rfl c) | (with_reducible intro _) | fail)
theorem eo_3 {s : zS} {n : Nat} {Q : zS → Prop} (hn : n < 26000) (hk : za s 25 n = 3) (hq : wr_string s n Q) : wr_expressionOf s n Q := by
  unfold wr_expressionOf
  rw [Int.toNat_natCast, hk]
  repeat' (first | (with_reducible exact hq) | (with_reducible apply And.intro) | omega | (intro c; exact absurd c (by decide)) | (intro c; exact absurd rfl c) | (with_reducible intro _) | fail)
theorem eo_4 {s : zS} {n : Nat} {Q : zS → Prop} (hn : n < 26000) (hk : za s 25 n = 4) (hq : wr_put s (zv s 77) (fun s49 => wr_put s49 (zv s49 79) (fun s55 => wr_put s55 (zv s55 80) (fun s61 => zR (zv s61 78 + 1) ∧ wr_task (zpv (zpv (zpv (zpv s61 78 (zv s61 78 + 1)) 77 (zv s61 78 + 1)) 79 0) 80 0) 14 n 0 (fun s77 => (0 ≤ (n : Int)) ∧ ((n : Int) < 26000) ∧ wr_task s77 2 (za s77 27 n) 0 Q))))) : wr_expressionOf s n Q := by
  unfold wr_expressionOf
  rw [Int.toNat_natCast, hk]
  repeat' (first | (with_reducible exact hq) | (with_reducible apply And.intro) | omega | (intro c; exact absurd c (by decide)) | (intro c; exact absurd rfl c) | (with_reducible intro _) | fail)
theorem eo_5 {s : zS} {n : Nat} {Q : zS → Prop} (hn : n < 26000) (hk : za s 25 n = 5) (hq : ∃ m, wr_expressionOf_56 Q m (zpa s 31 n (zv s 81)) (za s 27 n)) : wr_expressionOf s n Q := by
  unfold wr_expressionOf
  rw [Int.toNat_natCast, hk]
  repeat' (first | (with_reducible exact hq) | (with_reducible apply And.intro) | omega | (intro c; exact absurd c (by decide)) | (intro c; exact absurd rfl c) | (with_reducible intro _) | fail)
theorem eo_8 {s : zS} {n : Nat} {Q : zS → Prop} (hn : n < 26000) (hk : za s 25 n = 8) (hq : wr_task s 5 (za s 27 n) 0 Q) : wr_expressionOf s n Q := by
  unfold wr_expressionOf
  rw [Int.toNat_natCast, hk]
  repeat' (first | (with_reducible exact hq) | (with_reducible apply And.intro) | omega | (intro c; exact absurd c (by decide)) | (intro c; exact absurd rfl c) | (with_reducible intro _) | fail)
theorem eo_6 {s : zS} {n : Nat} {Q : zS → Prop} (hn : n < 26000) (hk : za s 25 n = 6) (hq : wr_children (zpa s 30 n (zv s 74)) n 3 Q) : wr_expressionOf s n Q := by
  unfold wr_expressionOf
  rw [Int.toNat_natCast, hk]
  repeat' (first | (with_reducible exact hq) | (with_reducible apply And.intro) | omega | (intro c; exact absurd c (by decide)) | (intro c; exact absurd rfl c) | (with_reducible intro _) | fail)
theorem eo_2 {s : zS} {n : Nat} {Q : zS → Prop} (hn : n < 26000) (hk : za s 25 n = 2) (hq : wr_children s n 3 Q) : wr_expressionOf s n Q := by
  unfold wr_expressionOf
  rw [Int.toNat_natCast, hk]
  repeat' (first | (with_reducible exact hq) | (with_reducible apply And.intro) | omega | (intro c; exact absurd c (by decide)) | (intro c; exact absurd rfl c) | (with_reducible intro _) | fail)
theorem eo_7 {s : zS} {n : Nat} {Q : zS → Prop} (hn : n < 26000) (hk : za s 25 n = 7) (hq : wr_children s n 3 Q) : wr_expressionOf s n Q := by
  unfold wr_expressionOf
  rw [Int.toNat_natCast, hk]
  repeat' (first | (with_reducible exact hq) | (with_reducible apply And.intro) | omega | (intro c; exact absurd c (by decide)) | (intro c; exact absurd rfl c) | (with_reducible intro _) | fail)
theorem eo_9 {s : zS} {n : Nat} {Q : zS → Prop} (hn : n < 26000) (hk : za s 25 n = 9) (hq : wr_children s n 3 Q) : wr_expressionOf s n Q := by
  unfold wr_expressionOf
  rw [Int.toNat_natCast, hk]
  repeat' (first | (with_reducible exact hq) | (with_reducible apply And.intro) | omega | (intro c; exact absurd c (by decide)) | (intro c; exact absurd rfl c) | (with_reducible intro _) | fail)
theorem eo_10 {s : zS} {n : Nat} {Q : zS → Prop} (hn : n < 26000) (hk : za s 25 n = 10) (hq : wr_children s n 3 Q) : wr_expressionOf s n Q := by
  unfold wr_expressionOf
  rw [Int.toNat_natCast, hk]
  repeat' (first | (with_reducible exact hq) | (with_reducible apply And.intro) | omega | (intro c; exact absurd c (by decide)) | (intro c; exact absurd rfl c) | (with_reducible intro _) | fail)
theorem eo_11 {s : zS} {n : Nat} {Q : zS → Prop} (hn : n < 26000) (hk : za s 25 n = 11) (hq : wr_children s n 3 Q) : wr_expressionOf s n Q := by
  unfold wr_expressionOf
  rw [Int.toNat_natCast, hk]
  repeat' (first | (with_reducible exact hq) | (with_reducible apply And.intro) | omega | (intro c; exact absurd c (by decide)) | (intro c; exact absurd rfl c) | (with_reducible intro _) | fail)
theorem eo_12 {s : zS} {n : Nat} {Q : zS → Prop} (hn : n < 26000) (hk : za s 25 n = 12) (hq : wr_children s n 3 Q) : wr_expressionOf s n Q := by
  unfold wr_expressionOf
  rw [Int.toNat_natCast, hk]
  repeat' (first | (with_reducible exact hq) | (with_reducible apply And.intro) | omega | (intro c; exact absurd c (by decide)) | (intro c; exact absurd rfl c) | (with_reducible intro _) | fail)
theorem PBc.fst {s0 : zS} {kids : Nat → List Nat} {up sz : Nat → Nat} {root N : Nat} {s s1 s2 : zS} {ks : List Nat} (p : cP s s1 (bel kids ks) 0) (h69 : zv s1 69 = zv s 69) (h82 : zv s1 82 = zv s 82) (q : PBc s0 kids up sz root N s1 s2 ks) : PBc s0 kids up sz root N s s2 ks := by
  obtain ⟨q1, q2, q3, q4, q5⟩ := q
  refine ⟨p.tr q1 (fun _ h => h) (fun _ h => h) (by omega), q2, fun r h1 h2 => q3 r (by omega) h2, q4, ?_⟩
  rcases q5 with q | ⟨e0, c, hc, x, e1, e2, e3⟩
  · exact Or.inl (q.trans h82)
  · exact Or.inr ⟨by rw [← p.s73]; exact e0, c, hc, x, e1, e2, e3⟩
theorem PB.fst {s0 : zS} {kids : Nat → List Nat} {up sz : Nat → Nat} {root N : Nat} {s s1 s2 : zS} {ks : List Nat} (p : cP s s1 (bel kids ks) 0) (h69 : zv s1 69 = zv s 69) (h82 : zv s1 82 = zv s 82) (h49 : zv s1 49 = zv s 49) (h74 : zv s1 74 = zv s 74) (q : PB s0 kids up sz root N s1 s2 ks) : PB s0 kids up sz root N s s2 ks := ⟨q.1.fst p h69 h82, by rw [q.2.1, h49], by rw [q.2.2, h74]⟩
/-- from the popped state on -/
theorem tri.mk {s0 : zS} {kids : Nat → List Nat} {up sz : Nat → Nat} {root N : Nat} {Qc : zS → Prop} {κ : Nat} (hκ : κ ≤ 1) (h : fF s0 kids up sz [root] N) {t : Int} {n : Nat} (hn : n < N) {Y X : zS → Prop} (hY : ∀ s s1, zSm s s1 [] [63] → Y s → Y s1) (H : ∀ (m : Nat) (s : zS) (l : List cT), cTk s l → l.length + 2 * sz n ≤ 26000 → pre s0 kids up sz root N s n l.length → Y s → (∀ s', cTk s' l → PB s0 kids up sz root N s s' [n] → X s' → kL Qc m s') → wr_go s t n 0 (fun s' => kL Qc (m + 4 * sz n - κ - 1) s')) : tri s0 kids up sz root N Qc κ t n Y X := fun m s l hk hp hy hq => by
  obtain ⟨g, hx, hb⟩ := hp
  have hz : 1 ≤ sz n := by have := h.ss n hn; omega
  have hl : l.length + 2 * sz n ≤ 26000 := hb.2.2.2.2.2.2.2
  refine (kL.step (m := m + 4 * sz n - κ - 1) hk (by omega) (fun s1 f1 k1 => H m s1 l k1 hl ⟨g.sm f1 rfl rfl rfl rfl, hx.fr (D := fun _ => False) (w := 0) (cP.sm f1 (fm.sm f1 rfl) rfl rfl rfl) (f1.v 49 rfl), hb.sm f1 rfl⟩ (hY s s1 f1 hy) (fun s' k' p' x' => hq s' k' (p'.fst (cP.sm f1 (fm.sm f1 rfl) rfl rfl rfl) (f1.v 69 rfl) (f1.v 82 rfl) (f1.v 49 rfl) (f1.v 74 rfl)) x'))).le (by omega)
theorem triD.mk {s0 : zS} {kids : Nat → List Nat} {up sz : Nat → Nat} {root N : Nat} {Qc : zS → Prop} (h : fF s0 kids up sz [root] N) {t : Int} {n : Nat} (hn : n < N) {Y : zS → Prop} (hY : ∀ s s1, zSm s s1 [] [63] → Y s → Y s1) (H : ∀ (m : Nat) (s : zS) (l : List cT), cTk s l → l.length + 2 * sz n ≤ 26000 → pre s0 kids up sz root N s n l.length → Y s → (∀ s', cTk s' l → PBc s0 kids up sz root N s s' [n] → EC s0 kids s' (cxF (za s0 25) up root N n).2.2.2 → zv s' 49 ≤ zv s 49 + ub (za s0 25) kids sz n → kL Qc m s') → wr_go s t n 0 (fun s' => kL Qc (m + 4 * sz n - 1) s')) : triD s0 kids up sz root N Qc t n Y := fun m s l hk hp hy hq => by
  obtain ⟨g, hx, hb⟩ := hp
  have hz : 1 ≤ sz n := by have := h.ss n hn; omega
  have hl : l.length + 2 * sz n ≤ 26000 := hb.2.2.2.2.2.2.2
  refine (kL.step (m := m + 4 * sz n - 1) hk (by omega) (fun s1 f1 k1 => H m s1 l k1 hl ⟨g.sm f1 rfl rfl rfl rfl, hx.fr (D := fun _ => False) (w := 0) (cP.sm f1 (fm.sm f1 rfl) rfl rfl rfl) (f1.v 49 rfl), hb.sm f1 rfl⟩ (hY s s1 f1 hy) (fun s' k' p' x' u' => hq s' k' (p'.fst (cP.sm f1 (fm.sm f1 rfl) rfl rfl rfl) (f1.v 69 rfl) (f1.v 82 rfl)) x' (by rw [← f1.v 49 rfl]; exact u')))).le (by omega)
theorem cxS_o {k : Int} {n : Nat} {c : gCx} (h : ([4, 25, 26, 27, 28, 36, 38, 39, 40, 54] : List Int).contains k = false) : cxS k n c = c := by
  have o : ∀ x : Int, ([4, 25, 26, 27, 28, 36, 38, 39, 40, 54] : List Int).contains x = true → ¬ k = x := fun x hx e => by rw [← e, h] at hx; exact absurd hx (by decide)
  have o1 := o 4 rfl
  have o2 := o 25 rfl
  have o3 := o 26 rfl
  have o4 := o 27 rfl
  have o5 := o 28 rfl
  have o6 := o 36 rfl
  have o7 := o 38 rfl
  have o8 := o 39 rfl
  have o9 := o 40 rfl
  have o10 := o 54 rfl
  unfold cxS
  simp only [o1, o2, o3, o4, o5, o6, o7, o8, o9, o10, or_false, reduceIte]
theorem hY_tt : ∀ s s1 : zS, zSm s s1 [] [63] → tt s → tt s1 := fun _ _ _ _ => trivial
section TE
variable {s0 : zS} {kids : Nat → List Nat} {up sz : Nat → Nat} {root N : Nat} {Qc : zS → Prop}
/-- a name -/
theorem tE_1 (h : fF s0 kids up sz [root] N) (hN : N ≤ 2700) {n : Nat} (hr : rch kids root n) (hK : za s0 25 n = 1) : tri s0 kids up sz root N Qc 1 3 n tt tt := by
  have hn := h.lt hr
  have hz : 1 ≤ sz n := by have := h.ss n hn; omega
  refine tri.mk (by omega) h hn hY_tt (fun m s l k1 hl hp _ hq => go_3 (eo_1 (by omega) (by rw [hp.1.st.a 25 n rfl]; exact hK) ?_))
  obtain ⟨g, hx, hb⟩ := hp
  obtain ⟨t1, t2, -⟩ := g.tk2 h hn
  refine sp_named s n (by omega) g.en.1 g.en.2 t1 t2 (fun r s' nm => ?_)
  obtain ⟨f, fmm, o, -⟩ := id nm
  have g' := g.sm f rfl rfl rfl rfl
  have p' : cP s s' (fun x => x = n) (sz n) := cP.own f fmm rfl rfl (fun x hx2 => ⟨f.a 29 x rfl, (o x hx2).1, (o x hx2).2⟩)
  have hsh := h.sh n hn
  rw [hK] at hsh
  have hkid : kids n = [] := List.map_eq_nil_iff.mp (hsh.lf (by decide))
  refine (hq s' (k1.sm f rfl rfl) (PB.leaf h hn (by rw [kr_eq (by rw [hK]; rfl)]; exact hkid) p' g' (f.v 69 rfl) (f.v 82 rfl) (f.v 49 rfl) (f.v 74 rfl) (fun z => fac_1 hK ?_)) trivial).le (by omega)
  obtain ⟨e, -, -, -, q⟩ := g.nm hx.2.2.2.2 nm hK z
  rw [f.v 75 rfl]
  exact q
/-- kids as tasks, then the node -/
theorem tE_ch (h : fF s0 kids up sz [root] N) (hN : N ≤ 2700) {n : Nat} (hr : rch kids root n) (hK : ([2, 6, 7, 9, 10, 11, 12] : List Int).contains (za s0 25 n) = true) (iE : ∀ c ∈ kids n, kE (za s0 25 c) → tri s0 kids up sz root N Qc 1 3 c tt tt) : tri s0 kids up sz root N Qc 1 3 n tt tt := by
  have hn := h.lt hr
  have hzs : sz n = 1 + szs sz (kids n) := h.ss n hn
  have hkl : ∀ c ∈ kids n, c < N := fun c hc => (h.kd n hn c hc).1
  have hlen : (kids n).length ≤ szs sz (kids n) := len_sum h hkl
  have hkk : ∀ k : Int, ([2, 6, 7, 9, 10, 11, 12] : List Int).contains k = true → k = 2 ∨ k = 6 ∨ k = 7 ∨ k = 9 ∨ k = 10 ∨ k = 11 ∨ k = 12 := fun k hk => by simpa using hk
  have hKE : kE (za s0 25 n) := by
    have := hkk _ hK
    constructor <;> omega
  have hcE : ∀ c ∈ kids n, kE (za s0 25 c) := fun c hc => (h.sh n hn).kE hKE (by have := hkk _ hK; omega) _ (List.mem_map.mpr ⟨c, hc, rfl⟩)
  have hcx : ∀ c ∈ kids n, cxF (za s0 25) up root N c = cxF (za s0 25) up root N n := fun c hc => by
    rw [cxF_kid _ h hr hc]
    exact cxS_o (by rcases hkk _ hK with q | q | q | q | q | q | q <;> rw [q] <;> rfl)
  have hkr : kr (za s0 25) kids n = kids n := kr_eq (by rcases hkk _ hK with q | q | q | q | q | q | q <;> rw [q] <;> rfl)
  -- from the state in which the tasks are laid
  have fin : ∀ (m : Nat) (s s1 : zS) (l : List cT), pre s0 kids up sz root N s n l.length → (∀ s', cTk s' l → PB s0 kids up sz root N s s' [n] → tt s' → kL Qc m s') → cP s s1 (fun x => x = n) 0 → zv s1 69 = zv s 69 → zv s1 82 = zv s 82 → zv s1 49 = zv s 49 → zv s1 74 = zv s 74 → GI s0 kids root s1 → (za s0 25 n = 6 → 0 ≤ za s1 30 n ∧ za s1 30 n ≤ 75000) → cTk s1 l → wr_children s1 n 3 (fun s' => kL Qc (m + 4 * sz n - 1 - 1) s') := fun m s s1 l hp hq o o69 o82 o49 o74 g1 h6 k1 => by
    obtain ⟨g, hx, hb⟩ := hp
    have hb8 : l.length + 2 * sz n ≤ 26000 := hb.2.2.2.2.2.2.2
    refine sp_children k1 (by omega) (by rw [g1.st.a 27 n rfl]; exact (h.ch n hn).fr (fun x _ => g1.st.a 28 x rfl)) (fun x hx => by have := hkl x hx; omega) (by omega) (fun s2 k2 f2 => ?_)
    have p2 : cP s1 s2 (fun _ => False) 0 := cP.sm f2 (fm.sm f2 rfl) rfl rfl rfl
    have p02 : cP s s2 (fun x => x = n) 0 := o.tr p2 (fun _ q => q) (fun _ q => q.elim) (by omega)
    have g2 := g1.sm f2 rfl rfl rfl rfl
    have x2 : cX s0 kids s2 (cxF (za s0 25) up root N n) := hx.fr p02 (by rw [f2.v 49 rfl, o49])
    have b2 : cB s2 (szs sz (kids n)) (szs sz (kids n)) l.length := hb.fs p02 (by omega) (by rw [f2.v 49 rfl, o49]) (by rw [ub_o (by have := hkk _ hK; omega)]; omega)
    refine (seqT h hn (fun _ => 3) (Y := fun _ => tt) (X := fun _ => tt) stb_tt stb_tt (kids n) (fun c hc => hc) (h.kn n hn) (fun c hc => iE c hc (hcE c hc)) m s2 l k2 g2 (fun c hc => by rw [hcx c hc]; exact x2) b2 (fun _ _ => trivial) (fun s3 k3 p3 _ => hq s3 k3 ⟨PBc.node h hn (fun c hc => by rw [hkr]; exact hc) (fun c hc => by rw [hkr] at hc; exact hc) 0 0 (by omega) p02 (by rw [f2.v 69 rfl, o69]) (by rw [f2.v 82 rfl, o82]) p3.1 cP.rf rfl rfl p3.1.2.1 (fun z => ?_), by rw [p3.2.1, f2.v 49 rfl, o49], by rw [p3.2.2, f2.v 74 rfl, o74]⟩ trivial)).le (by omega)
    by_cases e6 : za s0 25 n = 6
    · have e30 : za s3 30 n = za s1 30 n := by
        rw [(p3.1.1.nd n (fun ⟨c, hc, hcn⟩ => ?_)).2.1, f2.a 30 n rfl]
        have h1 := h.szk hn hc
        rcases h.szx (hkl c hc) hcn with q | q
        · rw [q] at h1; omega
        · omega
      exact fac_6 e6 (by rw [e30]; exact h6 e6)
    · exact fac_no (by rcases hkk _ hK with q | q | q | q | q | q | q <;> first | exact absurd q e6 | (rw [q]; rfl))
  refine tri.mk (by omega) h hn hY_tt (fun m s l k1 hl hp _ hq => ?_)
  have h25 : za s 25 n = za s0 25 n := hp.1.st.a 25 n rfl
  have base := fin m s s l hp hq cP.rf rfl rfl rfl rfl hp.1
  rcases hkk _ hK with q | q | q | q | q | q | q
  · exact go_3 (eo_2 (by omega) (by rw [h25]; exact q) (base (fun e => absurd e (by omega)) k1))
  · have f : zSm s (zpa s 30 n (zv s 74)) [30] [] := zSm.rf.pa rfl
    refine go_3 (eo_6 (by omega) (by rw [h25]; exact q) (fin m s _ l hp hq (cP.own f (fm.sm f rfl) rfl rfl (fun x hx => ⟨rfl, ?_, rfl⟩)) rfl rfl rfl rfl (hp.1.sm f rfl rfl rfl rfl) (fun _ => ?_) (k1.sm f rfl rfl)))
    · rw [za_pa, if_pos rfl, if_neg hx]
    · rw [za_pa, if_pos rfl, if_pos rfl]
      exact hp.1.iu
  · exact go_3 (eo_7 (by omega) (by rw [h25]; exact q) (base (fun e => absurd e (by omega)) k1))
  · exact go_3 (eo_9 (by omega) (by rw [h25]; exact q) (base (fun e => absurd e (by omega)) k1))
  · exact go_3 (eo_10 (by omega) (by rw [h25]; exact q) (base (fun e => absurd e (by omega)) k1))
  · exact go_3 (eo_11 (by omega) (by rw [h25]; exact q) (base (fun e => absurd e (by omega)) k1))
  · exact go_3 (eo_12 (by omega) (by rw [h25]; exact q) (base (fun e => absurd e (by omega)) k1))
/-- a place -/
def plX (s0 : zS) (n : Nat) (s : zS) : Prop := zv s 12 = 0 → za s0 25 n = 1 ∨ za s0 25 n = 7 ∨ za s0 25 n = 9
/-- a left side -/
def lfX (s0 : zS) (n : Nat) (s : zS) : Prop := zv s 12 = 0 → za s0 25 n = 7 ∨ za s0 25 n = 9 ∨ za s0 25 n = 1 ∧ (za s 30 n = 1 ∨ za s 30 n = 3 ∨ za s 30 n = 4)
theorem plX.st : stb kids (plX s0) := fun _ _ _ _ _ h p _ z => h (p.z z)
theorem lfX.st : stb kids (lfX s0) := fun c s s' D w h p hd z => by
  have := h (p.z z)
  rw [(p.nd c (hd c (rch.rt kids c))).2.1]
  exact this
/-- @ -/
theorem tE_8 (h : fF s0 kids up sz [root] N) (hN : N ≤ 2700) {n : Nat} (hr : rch kids root n) (hK : za s0 25 n = 8) (iP : ∀ c ∈ kids n, kE (za s0 25 c) → tri s0 kids up sz root N Qc 0 5 c tt (plX s0 c)) : tri s0 kids up sz root N Qc 1 3 n tt tt := by
  have hn := h.lt hr
  have hzs : sz n = 1 + szs sz (kids n) := h.ss n hn
  have hsh := h.sh n hn
  rw [hK] at hsh
  obtain ⟨a, q1, qa⟩ := hsh.e1 (by decide)
  obtain ⟨c, ek, rfl⟩ := map1 q1
  have hc : c ∈ kids n := by rw [ek]; exact List.mem_cons_self ..
  have hcN := (h.kd n hn c hc).1
  have hcx : cxF (za s0 25) up root N c = cxF (za s0 25) up root N n := by
    rw [cxF_kid _ h hr hc]
    exact cxS_o (by rw [hK]; rfl)
  have hkr : kr (za s0 25) kids n = kids n := kr_eq (by rw [hK]; rfl)
  have ez : szs sz (kids n) = sz c := by rw [ek]; simp only [szs, List.map_cons, List.map_nil, List.sum_cons, List.sum_nil]; omega
  have hzc : 1 ≤ sz c := by have := h.ss c hcN; omega
  have ch := h.ch n hn
  rw [ek] at ch
  refine tri.mk (by omega) h hn hY_tt (fun m s l k1 hl hp _ hq => go_3 (eo_8 (by omega) (by rw [hp.1.st.a 25 n rfl]; exact hK) ?_))
  obtain ⟨g, hx, hb⟩ := hp
  rw [g.st.a 27 n rfl, ch.1]
  refine sp_task k1 (by omega) 5 c 0 (fun s2 k2 f2 => ?_)
  have p2 : cP s s2 (fun x => x = n) 0 := cP.sm f2 (fm.sm f2 rfl) rfl rfl rfl
  have g2 := g.sm f2 rfl rfl rfl rfl
  have := iP c hc qa m s2 l k2 ⟨g2, by rw [hcx]; exact hx.fr p2 (f2.v 49 rfl), hb.fs p2 (by omega) (f2.v 49 rfl) (by have := ub_le h hcN; rw [ub_o (n := n) (by omega)]; omega)⟩ trivial (fun s3 k3 p3 x3 => hq s3 k3 ⟨PBc.node h hn (ks := [c]) (fun d hd => by rw [hkr, ek]; exact hd) (fun d hd => by rw [hkr, ek] at hd; exact hd) 0 0 (by rw [← ek]; omega) p2 (f2.v 69 rfl) (f2.v 82 rfl) p3.1 cP.rf rfl rfl p3.1.2.1 (fun z => fac_8 hK (fun d hd => by rw [ek] at hd; rw [List.mem_singleton.mp hd]; exact x3 z)), by rw [p3.2.1, f2.v 49 rfl], by rw [p3.2.2, f2.v 74 rfl]⟩ trivial)
  exact this.le (by omega)
end TE

