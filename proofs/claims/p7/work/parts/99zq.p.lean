/-! THE CHECK: TASKS IN A ROW -/
def gk (s : zS) (i : Nat) : cT := (za s 64 i, za s 65 i, za s 66 i)
theorem cTr_of {s : zS} : ∀ {l : List cT}, cTr s l → ∀ i, i < l.length → l.reverse[i]? = some (gk s i)
  | [], _, i, hi => absurd hi (Nat.not_lt_zero _)
  | g :: r, h, i, hi => by
    rw [List.reverse_cons]
    by_cases e : i = r.length
    · subst e
      rw [List.getElem?_append_right (by simp), List.length_reverse, Nat.sub_self]
      show some g = some (gk s r.length)
      unfold gk
      rw [h.1.1, h.1.2.1, h.1.2.2]
    · have hi2 : i < r.length := by
        have : i < r.length + 1 := hi
        omega
      rw [List.getElem?_append_left (by rw [List.length_reverse]; exact hi2)]
      exact cTr_of h.2 i hi2
theorem of_cTr {s : zS} : ∀ {l : List cT}, (∀ i, i < l.length → l.reverse[i]? = some (gk s i)) → cTr s l
  | [], _ => trivial
  | g :: r, h => by
    have h0 := h r.length (by show r.length < r.length + 1; omega)
    rw [List.reverse_cons, List.getElem?_append_right (by simp), List.length_reverse, Nat.sub_self] at h0
    have h1 : g = gk s r.length := by simpa using h0
    refine ⟨⟨by rw [h1]; rfl, by rw [h1]; rfl, by rw [h1]; rfl⟩, of_cTr (fun i hi => ?_)⟩
    have h2 := h i (by show i < r.length + 1; omega)
    rw [List.reverse_cons, List.getElem?_append_left (by rw [List.length_reverse]; exact hi)] at h2
    exact h2
theorem sp_turn_L {Q : zS → Prop} : ∀ (n : Nat) (a z : Int) (s : zS), 0 ≤ a → z < 26000 → z + 1 - a < n → 0 < n → (∀ s', zSm s s' [64, 65, 66] [] → (∀ i : Nat, a ≤ i → (i : Int) ≤ z → gk s' i = gk s (a + z - i).toNat) → (∀ i : Nat, (i : Int) < a ∨ z < i → gk s' i = gk s i) → Q s') → wr_turn_9 Q n s a z := by
  intro n
  induction n with
  | zero => intro a z s h0 h1 h2 h3; omega
  | succ n ih =>
    intro a z s h0 h1 h2 _ hq
    unfold wr_turn_9
    unfold wr_turn_9B
    refine ⟨fun c => hq s zSm.rf (fun i a1 a2 => ?_) (fun i _ => rfl), fun c => ?_⟩
    · rw [show (a + z - i).toNat = i by omega]
    · refine ⟨by omega, by omega, by omega, by omega, by omega, by omega, by omega, by omega, by omega, by omega, by omega, by omega, by omega, by omega, by omega, by omega, by omega, by omega, by omega, by omega, by omega, by omega, by omega, by omega, ⟨by omega, by omega⟩, ⟨by omega, by omega⟩, ?_⟩
      generalize hs1 : zpa (zpa (zpa (zpa (zpa (zpa s 64 (Int.toNat a) (za s 64 (Int.toNat z))) 65 (Int.toNat a) (za s 65 (Int.toNat z))) 66 (Int.toNat a) (za s 66 (Int.toNat z))) 64 (Int.toNat z) (za s 64 (Int.toNat a))) 65 (Int.toNat z) (za s 65 (Int.toNat a))) 66 (Int.toNat z) (za s 66 (Int.toNat a)) = s1
      have f1 : zSm s s1 [64, 65, 66] [] := by
        rw [← hs1]
        exact (((((zSm.rf.pa rfl).pa rfl).pa rfl).pa rfl).pa rfl).pa rfl
      have ga : gk s1 a.toNat = gk s z.toNat := by
        have e : ¬ a.toNat = z.toNat := by omega
        rw [← hs1]
        unfold gk
        simp only [za_pa, reduceIte, Nat.reduceEqDiff, e]
      have gz : gk s1 z.toNat = gk s a.toNat := by
        have e : ¬ z.toNat = a.toNat := by omega
        rw [← hs1]
        unfold gk
        simp only [za_pa, reduceIte, Nat.reduceEqDiff]
      have go : ∀ i, ¬ i = a.toNat → ¬ i = z.toNat → gk s1 i = gk s i := fun i e1 e2 => by
        rw [← hs1]
        unfold gk
        simp only [za_pa, reduceIte, Nat.reduceEqDiff, e1, e2]
      by_cases hn : n = 0
      · omega
      · refine ih (a + 1) (z + (-1)) s1 (by omega) (by omega) (by omega) (by omega) (fun s' f2 b1 b2 => hq s' (f1.tr f2 rfl rfl) (fun i i1 i2 => ?_) (fun i hi => ?_))
        · by_cases ea : (i : Int) = a
          · rw [b2 i (Or.inl (by omega)), show i = a.toNat by omega, ga, show (a + z - (a.toNat : Nat)).toNat = z.toNat by omega]
          · by_cases ez : (i : Int) = z
            · rw [b2 i (Or.inr (by omega)), show i = z.toNat by omega, gz, show (a + z - (z.toNat : Nat)).toNat = a.toNat by omega]
            · rw [b1 i (by omega) (by omega), show a + 1 + (z + (-1)) - (i : Int) = a + z - i by omega, go _ (by omega) (by omega)]
        · rw [b2 i (by omega), go i (by omega) (by omega)]
theorem sp_turn {s : zS} {A l : List cT} (h : cTk s (A ++ l)) (hl : (A ++ l).length ≤ 26000) {Q : zS → Prop} (hq : ∀ s', cTk s' (A.reverse ++ l) → zSm s s' [64, 65, 66] [] → Q s') : wr_turn s (l.length : Nat) Q := by
  have e63 := h.2
  rw [List.length_append] at e63 hl
  unfold wr_turn
  refine ⟨⟨by omega, by omega⟩, A.length + 2, sp_turn_L (A.length + 2) _ _ s (by omega) (by omega) (by omega) (by omega) (fun s' f b1 b2 => hq s' ⟨of_cTr (fun i hi => ?_), ?_⟩ f)⟩
  · rw [List.length_append, List.length_reverse] at hi
    rw [List.reverse_append, List.reverse_reverse]
    by_cases e : i < l.length
    · rw [List.getElem?_append_left (by rw [List.length_reverse]; exact e), b2 i (Or.inl (by omega))]
      have := cTr_of h.1 i (by rw [List.length_append]; omega)
      rw [List.reverse_append, List.getElem?_append_left (by rw [List.length_reverse]; exact e)] at this
      exact this
    · rw [List.getElem?_append_right (by rw [List.length_reverse]; omega), List.length_reverse, b1 i (by omega) (by omega)]
      have := cTr_of h.1 (l.length + (A.length - 1 - (i - l.length))) (by rw [List.length_append]; omega)
      rw [List.reverse_append, List.getElem?_append_right (by rw [List.length_reverse]; omega), List.length_reverse, show l.length + (A.length - 1 - (i - l.length)) - l.length = A.length - 1 - (i - l.length) by omega, List.getElem?_reverse (by omega), show A.length - 1 - (A.length - 1 - (i - l.length)) = i - l.length by omega] at this
      rw [this]
      congr 2
      omega
  · rw [f.v 63 rfl, e63, List.length_append, List.length_reverse]
/-- tasks for kids, of a kind -/
theorem sp_children {s : zS} {l : List cT} {n : Nat} {t : Int} {ks : List Nat} (h : cTk s l) (hn : n < 26000) (hc : fCh s (za s 27 n) ks) (hk : ∀ x ∈ ks, x < 26000) (hl : l.length + ks.length ≤ 26000) {Q : zS → Prop} (hq : ∀ s', cTk s' (ks.map (fun c : Nat => ((t, (c : Int), 0) : cT)) ++ l) → zSm s s' [64, 65, 66] [63] → Q s') : wr_children s n t Q := by
  have L : ∀ (ks : List Nat) (c : Int) (m : Nat) (s1 : zS) (A : List cT), ks.length < m → fCh s1 c ks → (∀ x ∈ ks, x < 26000) → zSm s s1 [64, 65, 66] [63] → cTk s1 (A ++ l) → A.length + l.length + ks.length ≤ 26000 → (∀ s', cTk s' (A.reverse ++ (ks.map (fun c : Nat => ((t, (c : Int), 0) : cT)) ++ l)) → zSm s s' [64, 65, 66] [63] → Q s') → wr_children_13 Q m s1 t (l.length : Nat) c := by
    intro ks
    induction ks with
    | nil =>
      intro c m s1 A hm h1 _ f h2 h3 hq
      obtain ⟨m, rfl⟩ : ∃ q, m = q + 1 := ⟨m - 1, by have : 0 < m := hm; omega⟩
      have h1' : c = -1 := h1
      unfold wr_children_13
      unfold wr_children_13B
      refine ⟨fun _ => sp_turn h2 (by rw [List.length_append]; have : ([] : List Nat).length = 0 := rfl; omega) (fun s' g1 g2 => ?_), fun e => absurd (by omega) e⟩
      exact hq s' g1 (f.tr g2 rfl rfl)
    | cons a ks ih =>
      intro c m s1 A hm h1 hk f h2 h3 hq
      have e4 : (a :: ks).length = ks.length + 1 := rfl
      rw [e4] at hm h3
      obtain ⟨m, rfl⟩ : ∃ q, m = q + 1 := ⟨m - 1, by omega⟩
      have h1' : c = (a : Int) := h1.1
      have ha := hk a (List.mem_cons_self ..)
      subst h1'
      unfold wr_children_13
      unfold wr_children_13B
      refine ⟨fun e => absurd e (by omega), fun _ => sp_task h2 (by rw [List.length_append]; omega) t a 0 (fun s2 g1 g2 => ⟨by omega, by omega, ?_⟩)⟩
      rw [Int.toNat_natCast]
      refine ih _ m s2 ((t, (a : Int), 0) :: A) (by omega) ?_ (fun x hx => hk x (List.mem_cons_of_mem _ hx)) (f.tr g2 rfl rfl) g1 (by show A.length + 1 + l.length + ks.length ≤ 26000; omega) (fun s' k1 k2 => hq s' ?_ k2)
      · rw [g2.a 28 a rfl]
        exact h1.2.fr (fun x _ => g2.a 28 x rfl)
      · rw [List.reverse_cons, List.append_assoc] at k1
        exact k1
  unfold wr_children
  rw [Int.toNat_natCast, h.2]
  exact ⟨by omega, by omega, ks.length + 1, L ks _ _ s [] (by omega) hc hk zSm.rf h (by show 0 + _ + _ ≤ _; omega) hq⟩

