/-! IS IT A CONSTANT -/
theorem fSh.kE {k : Int} {l : List Int} (h : fSh k l) (hk : kE k) (h4 : ¬ k = 4) : ∀ c ∈ l, kE c := by
  have hk2 : k = 1 ∨ k = 2 ∨ k = 3 ∨ k = 5 ∨ k = 6 ∨ k = 7 ∨ k = 8 ∨ k = 9 ∨ k = 10 ∨ k = 11 ∨ k = 12 := by
    have h1 := hk.1
    have h2 := hk.2
    omega
  intro c hc
  rcases hk2 with rfl | rfl | rfl | rfl | rfl | rfl | rfl | rfl | rfl | rfl | rfl
  · rw [h.lf (by decide)] at hc; exact absurd hc List.not_mem_nil
  · rw [h.lf (by decide)] at hc; exact absurd hc List.not_mem_nil
  · rw [h.lf (by decide)] at hc; exact absurd hc List.not_mem_nil
  · exact (h.ta rfl).2 c hc
  · exact (h.ca rfl).2 c hc
  · obtain ⟨a, rfl, ha⟩ := h.e1 (by decide); rw [List.mem_singleton.mp hc]; exact ha
  · obtain ⟨a, rfl, ha⟩ := h.e1 (by decide); rw [List.mem_singleton.mp hc]; exact ha
  · obtain ⟨a, b, rfl, ha, hb⟩ := h.bi rfl
    rcases List.mem_cons.mp hc with rfl | hc
    · exact ha
    · rw [List.mem_singleton.mp hc]; exact hb
  · obtain ⟨a, rfl, ha⟩ := h.e1 (by decide); rw [List.mem_singleton.mp hc]; exact ha
  · obtain ⟨a, b, r, -, ha⟩ := h.re rfl; exact ha c hc
  · obtain ⟨a, b, d, rfl, ha, hb, hd⟩ := h.co rfl
    rcases List.mem_cons.mp hc with rfl | hc
    · exact ha
    · rcases List.mem_cons.mp hc with rfl | hc
      · exact hb
      · rw [List.mem_singleton.mp hc]; exact hd
/-- a node that may stand in a constant -/
def okK (s : zS) (n : Nat) : Prop := (za s 25 n = 1 ∨ za s 25 n = 2 ∨ 9 ≤ za s 25 n) ∧ (za s 25 n = 1 → ∃ e : Nat, (e : Int) < zv s 49 ∧ za s 50 e = za s 29 n)
theorem sum_rev {sz : Nat → Nat} (a b : List Nat) : ((a.reverse ++ b).map sz).sum = (a.map sz).sum + (b.map sz).sum := by
  rw [List.map_append, List.sum_append, List.map_reverse, List.sum_reverse]
theorem len_sum {s : zS} {kids : Nat → List Nat} {up sz : Nat → Nat} {W : List Nat} {N : Nat} (h : fF s kids up sz W N) : ∀ {l : List Nat}, (∀ x ∈ l, x < N) → l.length ≤ (l.map sz).sum
  | [], _ => Nat.le_refl 0
  | a :: l, hl => by
    have h1 := len_sum h (fun x hx => hl x (List.mem_cons_of_mem _ hx))
    have h2 := h.ss a (hl a (List.mem_cons_self ..))
    show l.length + 1 ≤ sz a + (l.map sz).sum
    omega
theorem sp_isK_L {s0 : zS} {kids : Nat → List Nat} {up sz : Nat → Nat} {W : List Nat} {N : Nat} (h : fF s0 kids up sz W N) (hN : N < 26000) (e0 : 0 ≤ zv s0 49) (e1 : zv s0 49 ≤ 9000) (k : Nat) {Q : Int → zS → Prop} (hq : ∀ r s', (r = 0 ∨ r = 1) → zSm s0 s' [60] [12, 13] → fm s0 s' → (r = 1 → ∀ x, rch kids k x → okK s0 x) → Q r s') : ∀ (n : Nat) (l : List Nat) (s : zS) (g : Int), zSm s0 s [60] [12, 13] → fm s0 s → wAr s 60 l → (∀ x ∈ l, x < N ∧ kE (za s0 25 x)) → (l.map sz).sum ≤ N → (l.map sz).sum < n → (g = 0 ∨ g = 1) → (g = 1 → ∀ x, rch kids k x → okK s0 x ∨ ∃ p ∈ l, rch kids p x) → wr_isK_11 Q n s g l.length := by
  intro n
  induction n with
  | zero => intro l s g f fm0 w1 w2 w3 w4; omega
  | succ n ih =>
    intro l s g f fm0 w1 w2 w3 w4 hg hd
    unfold wr_isK_11
    unfold wr_isK_11B
    cases l with
    | nil =>
      exact ⟨fun _ => ⟨hg, hq g s hg f fm0 (fun e x hx => (hd e x hx).elim id (fun ⟨p, hp, _⟩ => absurd hp List.not_mem_nil))⟩, fun e => absurd (Int.le_refl 0) e⟩
    | cons p l =>
      obtain ⟨w5, w6⟩ := w1
      obtain ⟨pN, pE⟩ := w2 p (List.mem_cons_self ..)
      have e9 : (((p :: l).length : Nat) : Int) + (-1) = (l.length : Int) := by
        show ((l.length + 1 : Nat) : Int) + (-1) = _
        omega
      have hll : l.length ≤ N := by
        have h1 := len_sum h (l := l) (fun x hx => (w2 x (List.mem_cons_of_mem _ hx)).1)
        rw [List.map_cons, List.sum_cons] at w3
        omega
      have hz := h.ss p pN
      rw [List.map_cons, List.sum_cons] at w3 w4
      obtain ⟨t1, t2, -⟩ := h.tk p pN
      have k25 : za s 25 p = za s0 25 p := f.a 25 p rfl
      have pE1 := pE.1
      have pE2 := pE.2
      have C : ∀ (s1 : zS) (g1 : Int), zSm s s1 [] [12, 13] → fm s s1 → (g1 = 0 ∨ g1 = 1) → (g1 = 1 → g = 1 ∧ okK s0 p) → (¬ za s0 25 p = 4 → (0 ≤ (p : Int)) ∧ ((p : Int) < 26000) ∧ ∃ n', wr_isK_179 Q (wr_isK_11 Q n) n' s1 g1 l.length (za s1 27 p)) ∧ (za s0 25 p = 4 → wr_isK_11 Q n s1 g1 l.length) := fun s1 g1 f1 m1 hg1 ho => by
        have f2 : zSm s0 s1 [60] [12, 13] := f.tr f1 rfl rfl
        have w6' : wAr s1 60 l := w6.fr (fun i _ => f1.a 60 i rfl)
        refine ⟨fun c4 => ⟨by omega, by omega, (kids p).length + 1, ?_⟩, fun c4 => ?_⟩
        · have hk := (h.sh p pN).kE pE c4
          have hkE : ∀ c ∈ kids p, kE (za s0 25 c) := fun c hc => hk _ (List.mem_map.mpr ⟨c, hc, rfl⟩)
          have hkN : ∀ c ∈ kids p, c < N := fun c hc => (h.kd p pN c hc).1
          have hlk := len_sum h hkN
          refine sp_isK179 g1 (kids p) _ _ s1 l ?_ (fun x hx => by have := hkN x hx; omega) w6' (by
            have h1 := len_sum h (l := l) (fun x hx => (w2 x (List.mem_cons_of_mem _ hx)).1)
            omega) (by omega) (fun s2 f3 w7 => ?_)
          · rw [f2.a 27 p rfl]
            exact (h.ch p pN).fr (fun x _ => f2.a 28 x rfl)
          · refine ih _ s2 g1 (f2.tr f3 rfl rfl) ((fm0.tr m1).tr (fm.sm f3 rfl)) w7 (fun x hx => ?_) (by rw [sum_rev]; omega) (by rw [sum_rev]; omega) hg1 (fun e x hx => ?_)
            · rcases List.mem_append.mp hx with hx | hx
              · have hx2 := List.mem_reverse.mp hx
                exact ⟨hkN x hx2, hkE x hx2⟩
              · exact w2 x (List.mem_cons_of_mem _ hx)
            · obtain ⟨g2, g3⟩ := ho e
              rcases hd g2 x hx with q | ⟨p2, hp2, q⟩
              · exact Or.inl q
              · rcases List.mem_cons.mp hp2 with rfl | hp2
                · rcases q (fun y => y = p2 ∨ ∃ c ∈ kids p2, rch kids c y) (Or.inl rfl) (fun a b ha hb => ha.elim (fun e => by subst e; exact Or.inr ⟨b, hb, rch.rt kids b⟩) (fun ⟨c, hc, hr⟩ => Or.inr ⟨c, hc, hr.kid hb⟩)) with rfl | ⟨c, hc, hr⟩
                  · exact Or.inl g3
                  · exact Or.inr ⟨c, List.mem_append.mpr (Or.inl (List.mem_reverse.mpr hc)), hr⟩
                · exact Or.inr ⟨p2, List.mem_append.mpr (Or.inr hp2), q⟩
        · refine ih l s1 g1 f2 (fm0.tr m1) w6' (fun x hx => w2 x (List.mem_cons_of_mem _ hx)) (by omega) (by omega) hg1 (fun e x hx => ?_)
          have := (ho e).2.1
          omega
      have c136 : ∀ (s1 : zS) (g1 : Int), zSm s s1 [] [12, 13] → fm s s1 → (g1 = 0 ∨ g1 = 1) → (g1 = 1 → g = 1 ∧ (za s0 25 p = 1 ∨ za s0 25 p = 2 ∨ 9 ≤ za s0 25 p)) → wr_isK_136 Q (wr_isK_11 Q n) s1 g1 l.length p (za s0 25 p) := fun s1 g1 f1 m1 hg1 ho => by
        unfold wr_isK_136
        rw [Int.toNat_natCast]
        refine ⟨fun n1 => C s1 g1 f1 m1 hg1 (fun e => ⟨(ho e).1, (ho e).2, fun e2 => absurd e2 n1⟩), fun c1 => ?_⟩
        have f2 : zSm s0 s1 [60] [12, 13] := f.tr f1 rfl rfl
        refine ffm_isKName (sp_isKName s1 p (by omega) (by rw [f2.v 49 rfl]; exact e0) (by rw [f2.v 49 rfl]; exact e1) (by rw [f2.a 26 p rfl]; exact t1) (by rw [f2.a 26 p rfl]; exact t2)) ?_
        rintro r s2 - ⟨r1, f3, m3, r2⟩
        have f4 : zSm s s2 [] [12, 13] := f1.tr f3 rfl rfl
        refine ⟨fun _ => C s2 0 f4 (m1.tr m3) (Or.inl rfl) (fun e => absurd e (by decide)), fun c => ⟨fun _ => C s2 0 f4 (m1.tr m3) (Or.inl rfl) (fun e => absurd e (by decide)), fun c2 => C s2 1 f4 (m1.tr m3) (Or.inr rfl) (fun _ => ⟨(ho (hg1.elim (fun q => absurd q c2) id)).1, Or.inl c1, fun _ => ?_⟩)⟩⟩
        obtain ⟨e, a, b⟩ := r2 (r1.elim (fun q => absurd q c) id)
        rw [f2.v 49 rfl] at a
        rw [f2.a 50 e rfl, f2.a 29 p rfl] at b
        exact ⟨e, a, b⟩
      have c105 : wr_isK_105 Q (wr_isK_11 Q n) s g l.length p (za s0 25 p) := by
        unfold wr_isK_105
        rw [Int.toNat_natCast]
        refine ⟨by omega, by omega, sp_place s _ (by rw [f.a 26 p rfl]; exact t1) (by rw [f.a 26 p rfl]; exact t2) (fun r => ?_)⟩
        refine ffm_fault (sp_faultN s 6 r (by decide)) ?_
        rintro s1 - ⟨f1, q1⟩
        exact c136 s1 0 f1 (fun _ => q1) (Or.inl rfl) (fun e => absurd e (by decide))
      rw [e9, Int.toNat_natCast, w5, Int.toNat_natCast, k25]
      have fin : (za s0 25 p = 1 ∨ za s0 25 p = 2 ∨ 9 ≤ za s0 25 p) → wr_isK_136 Q (wr_isK_11 Q n) s g l.length p (za s0 25 p) := fun hp => c136 s g zSm.rf fm.rf hg (fun e => ⟨e, hp⟩)
      refine ⟨fun e => absurd e (by show ¬ ((l.length + 1 : Nat) : Int) ≤ 0; omega), fun _ => ⟨by omega, by omega, by omega, by omega, fun _ => c105, fun _ => ⟨fun _ => c105, fun _ => ⟨fun _ => c105, fun _ => ⟨fun _ => c105, fun _ => ⟨fun _ => c105, fun _ => ⟨fun _ => c105, fun _ => ⟨fun _ => fin (by omega), fun _ => ⟨by omega, by omega, fun _ => c105, fun _ => ⟨by omega, by omega, fun _ => fin (by omega), fun _ => c105⟩⟩⟩⟩⟩⟩⟩⟩⟩⟩
theorem sp_isK {s : zS} {kids : Nat → List Nat} {up sz : Nat → Nat} {W : List Nat} {N : Nat} (h : fF s kids up sz W N) (hN : N < 26000) (e0 : 0 ≤ zv s 49) (e1 : zv s 49 ≤ 9000) (k : Nat) (hk : k < N) (hE : kE (za s 25 k)) (hz : sz k ≤ N) {Q : Int → zS → Prop} (hq : ∀ r s', (r = 0 ∨ r = 1) → zSm s s' [60] [12, 13] → fm s s' → (r = 1 → ∀ x, rch kids k x → okK s x) → Q r s') : wr_isK s k Q := by
  unfold wr_isK
  have f : zSm s (zpa s 60 0 k) [60] [12, 13] := zSm.rf.pa rfl
  refine ⟨sz k + 1, ?_⟩
  have := sp_isK_L h hN e0 e1 k hq (sz k + 1) [k] (zpa s 60 0 k) 1 f (fun q => q) ⟨by show za (zpa s 60 0 k) 60 0 = _; rw [za_pa, if_pos rfl, if_pos rfl], trivial⟩ (fun x hx => by rw [List.mem_singleton.mp hx]; exact ⟨hk, hE⟩) (by simpa using hz) (by simp) (Or.inr rfl) (fun _ x hx => Or.inr ⟨k, List.mem_cons_self .., hx⟩)
  exact this
