/-! THE RUN: TASKS ARE TURNED -/
def dTr (s : zS) : List cT → Prop
  | [] => True
  | g :: r => (za s 88 r.length = g.1 ∧ za s 89 r.length = g.2.1 ∧ za s 90 r.length = g.2.2) ∧ dTr s r
def dTk (s : zS) (l : List cT) : Prop := dTr s l ∧ zv s 87 = l.length
def dgk (s : zS) (i : Nat) : cT := (za s 88 i, za s 89 i, za s 90 i)
theorem dTr_of {s : zS} : ∀ {l : List cT}, dTr s l → ∀ i, i < l.length → l.reverse[i]? = some (dgk s i)
  | [], _, i, hi => absurd hi (Nat.not_lt_zero _)
  | g :: r, h, i, hi => by
    rw [List.reverse_cons]
    by_cases e : i = r.length
    · subst e
      rw [List.getElem?_append_right (by simp), List.length_reverse, Nat.sub_self]
      show some g = some (dgk s r.length)
      unfold dgk
      rw [h.1.1, h.1.2.1, h.1.2.2]
    · have hi2 : i < r.length := by
        have : i < r.length + 1 := hi
        omega
      rw [List.getElem?_append_left (by rw [List.length_reverse]; exact hi2)]
      exact dTr_of h.2 i hi2
theorem of_dTr {s : zS} : ∀ {l : List cT}, (∀ i, i < l.length → l.reverse[i]? = some (dgk s i)) → dTr s l
  | [], _ => trivial
  | g :: r, h => by
    have h0 := h r.length (by show r.length < r.length + 1; omega)
    rw [List.reverse_cons, List.getElem?_append_right (by simp), List.length_reverse, Nat.sub_self] at h0
    have h1 : g = dgk s r.length := by simpa using h0
    refine ⟨⟨by rw [h1]; rfl, by rw [h1]; rfl, by rw [h1]; rfl⟩, of_dTr (fun i hi => ?_)⟩
    have h2 := h i (by show i < r.length + 1; omega)
    rw [List.reverse_cons, List.getElem?_append_left (by rw [List.length_reverse]; exact hi)] at h2
    exact h2
theorem sp_turnD_L {Q : zS → Prop} : ∀ (n : Nat) (a z : Int) (s : zS), 0 ≤ a → z < 620000 → z + 1 - a < n → 0 < n → (∀ s', zSm s s' [88, 89, 90] [] → (∀ i : Nat, a ≤ i → (i : Int) ≤ z → dgk s' i = dgk s (a + z - i).toNat) → (∀ i : Nat, (i : Int) < a ∨ z < i → dgk s' i = dgk s i) → Q s') → wr_turnTodo_9 Q n s a z := by
  intro n
  induction n with
  | zero => intro a z s h0 h1 h2 h3; omega
  | succ n ih =>
    intro a z s h0 h1 h2 _ hq
    unfold wr_turnTodo_9
    unfold wr_turnTodo_9B
    refine ⟨fun c => hq s zSm.rf (fun i a1 a2 => ?_) (fun i _ => rfl), fun c => ?_⟩
    · rw [show (a + z - i).toNat = i by omega]
    · refine ⟨by omega, by omega, by omega, by omega, by omega, by omega, by omega, by omega, by omega, by omega, by omega, by omega, by omega, by omega, by omega, by omega, by omega, by omega, by omega, by omega, by omega, by omega, by omega, by omega, ⟨by omega, by omega⟩, ⟨by omega, by omega⟩, ?_⟩
      generalize hs1 : zpa (zpa (zpa (zpa (zpa (zpa s 88 (Int.toNat a) (za s 88 (Int.toNat z))) 89 (Int.toNat a) (za s 89 (Int.toNat z))) 90 (Int.toNat a) (za s 90 (Int.toNat z))) 88 (Int.toNat z) (za s 88 (Int.toNat a))) 89 (Int.toNat z) (za s 89 (Int.toNat a))) 90 (Int.toNat z) (za s 90 (Int.toNat a)) = s1
      have f1 : zSm s s1 [88, 89, 90] [] := by
        rw [← hs1]
        exact (((((zSm.rf.pa rfl).pa rfl).pa rfl).pa rfl).pa rfl).pa rfl
      have ga : dgk s1 a.toNat = dgk s z.toNat := by
        have e : ¬ a.toNat = z.toNat := by omega
        rw [← hs1]
        unfold dgk
        simp only [za_pa, reduceIte, Nat.reduceEqDiff, e]
      have gz : dgk s1 z.toNat = dgk s a.toNat := by
        have e : ¬ z.toNat = a.toNat := by omega
        rw [← hs1]
        unfold dgk
        simp only [za_pa, reduceIte, Nat.reduceEqDiff]
      have go : ∀ i, ¬ i = a.toNat → ¬ i = z.toNat → dgk s1 i = dgk s i := fun i e1 e2 => by
        rw [← hs1]
        unfold dgk
        simp only [za_pa, reduceIte, Nat.reduceEqDiff, e1, e2]
      by_cases hn : n = 0
      · omega
      · refine ih (a + 1) (z + (-1)) s1 (by omega) (by omega) (by omega) (by omega) (fun s' f2 b1 b2 => hq s' (f1.tr f2 rfl rfl) (fun i i1 i2 => ?_) (fun i hi => ?_))
        · by_cases ea : (i : Int) = a
          · rw [b2 i (Or.inl (by omega)), show i = a.toNat by omega, ga, show (a + z - (a.toNat : Nat)).toNat = z.toNat by omega]
          · by_cases ez : (i : Int) = z
            · rw [b2 i (Or.inr (by omega)), show i = z.toNat by omega, gz, show (a + z - (z.toNat : Nat)).toNat = a.toNat by omega]
            · rw [b1 i (by omega) (by omega), show a + 1 + (z + (-1)) - (i : Int) = a + z - i by omega, go _ (by omega) (by omega)]
        · rw [b2 i (by omega), go i (by omega) (by omega)]
theorem sp_turnD {s : zS} {A l : List cT} (h : dTk s (A ++ l)) (hl : (A ++ l).length ≤ 620000) {Q : zS → Prop} (hq : ∀ s', dTk s' (A.reverse ++ l) → zSm s s' [88, 89, 90] [] → Q s') : wr_turnTodo s (l.length : Nat) Q := by
  have e63 := h.2
  rw [List.length_append] at e63 hl
  unfold wr_turnTodo
  refine ⟨⟨by omega, by omega⟩, A.length + 2, sp_turnD_L (A.length + 2) _ _ s (by omega) (by omega) (by omega) (by omega) (fun s' f b1 b2 => hq s' ⟨of_dTr (fun i hi => ?_), ?_⟩ f)⟩
  · rw [List.length_append, List.length_reverse] at hi
    rw [List.reverse_append, List.reverse_reverse]
    by_cases e : i < l.length
    · rw [List.getElem?_append_left (by rw [List.length_reverse]; exact e), b2 i (Or.inl (by omega))]
      have := dTr_of h.1 i (by rw [List.length_append]; omega)
      rw [List.reverse_append, List.getElem?_append_left (by rw [List.length_reverse]; exact e)] at this
      exact this
    · rw [List.getElem?_append_right (by rw [List.length_reverse]; omega), List.length_reverse, b1 i (by omega) (by omega)]
      have := dTr_of h.1 (l.length + (A.length - 1 - (i - l.length))) (by rw [List.length_append]; omega)
      rw [List.reverse_append, List.getElem?_append_right (by rw [List.length_reverse]; omega), List.length_reverse, show l.length + (A.length - 1 - (i - l.length)) - l.length = A.length - 1 - (i - l.length) by omega, List.getElem?_reverse (by omega), show A.length - 1 - (A.length - 1 - (i - l.length)) = i - l.length by omega] at this
      rw [this]
      congr 2
      omega
  · rw [f.v 87 rfl, e63, List.length_append, List.length_reverse]
def xc (g : xT) : cT := ((g.1 : Int), (g.2.1 : Int), g.2.2)
theorem xTr.d {s : zS} : ∀ {l : List xT}, xTr s l → dTr s (l.map xc)
  | [], _ => trivial
  | g :: r, h => by
    refine ⟨?_, xTr.d h.2⟩
    rw [List.length_map]
    exact h.1
theorem xTr.u {s : zS} : ∀ {l : List xT}, dTr s (l.map xc) → xTr s l
  | [], _ => trivial
  | g :: r, h => by
    refine ⟨?_, xTr.u h.2⟩
    have := h.1
    rw [List.length_map] at this
    exact this
theorem sp_turnX {s : zS} {A l : List xT} (h : xTk s (A ++ l)) (hl : (A ++ l).length ≤ 620000) {f : Int} (hf : f = (l.length : Nat)) {Q : zS → Prop} (hq : ∀ s', xTk s' (A.reverse ++ l) → zSm s s' [88, 89, 90] [] → Q s') : wr_turnTodo s f Q := by
  subst hf
  have h2 : dTk s (A.map xc ++ l.map xc) := by
    rw [← List.map_append]
    exact ⟨h.1.d, by rw [List.length_map]; exact h.2⟩
  have e : (l.length : Int) = ((l.map xc).length : Nat) := by rw [List.length_map]
  rw [e]
  refine sp_turnD h2 (by rw [← List.map_append, List.length_map]; exact hl) (fun s' k f => hq s' ?_ f)
  rw [← List.map_reverse, ← List.map_append] at k
  exact ⟨xTr.u k.1, by have := k.2; rw [List.length_map] at this; exact this⟩
/-- the tasks of kids' expressions, all -/
def eTs (ks : List Nat) : List xT := ks.map fun c => (1, c, 0)
theorem eTs_l (ks : List Nat) : (eTs ks).length = ks.length := List.length_map ..
theorem sp_ev327 {s4 s1 : zS} {l : List xT} {Q : zS → Prop} : ∀ (ks : List Nat) (c : Int) (m : Nat) (s : zS) (A : List xT), ks.length < m → xS s4 s1 s → fCh s4 c ks → (∀ x ∈ ks, x < 26000) → xTk s (A ++ l) → A.length + l.length + ks.length < 620000 → (∀ s', zSm s s' [88, 89, 90] [87] → xTk s' (A.reverse ++ (eTs ks ++ l)) → Q s') → wr_evaluate_327 Q m s (l.length : Nat) c := by
  intro ks
  induction ks with
  | nil =>
    intro c m s A hm hS hc _ k hl hq
    obtain ⟨m, rfl⟩ : ∃ q, m = q + 1 := ⟨m - 1, by omega⟩
    have hc1 : c = -1 := hc
    subst hc1
    unfold wr_evaluate_327
    unfold wr_evaluate_327B
    refine ⟨fun _ => sp_turnX k (by rw [List.length_append]; omega) rfl (fun s' k2 f2 => hq s' ((zSm.rf.tr f2 rfl rfl : zSm s s' [88, 89, 90] [87])) k2), fun q => absurd (by omega) q⟩
  | cons a ks ih =>
    intro c m s A hm hS hc hk k hl hq
    have e4 : (a :: ks).length = ks.length + 1 := rfl
    rw [e4] at hm hl
    obtain ⟨m, rfl⟩ : ∃ q, m = q + 1 := ⟨m - 1, by omega⟩
    obtain ⟨rfl, h2⟩ := hc
    have ha := hk a (List.mem_cons_self ..)
    unfold wr_evaluate_327
    unfold wr_evaluate_327B
    refine ⟨fun q => absurd q (by omega), fun _ => sp_todo k (by rw [List.length_append]; omega) 1 a 0 rfl rfl (fun s' k2 f2 => ⟨by omega, by omega, ?_⟩)⟩
    have hS2 := hS.sm f2 rfl rfl
    rw [Int.toNat_natCast, hS2.1 28 (by decide) a]
    refine ih _ m s' ((1, a, 0) :: A) (by omega) hS2 h2 (fun x hx => hk x (List.mem_cons_of_mem _ hx)) k2 (by show A.length + 1 + l.length + ks.length < 620000; omega) (fun s3 f3 k3 => hq s3 (f2.tr f3 rfl rfl) ?_)
    rw [List.reverse_cons, List.append_assoc] at k3
    exact k3
