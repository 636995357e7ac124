/-! A CONSTANT IS WORKED -/
theorem sp_shifted (s : zS) (a b l : Int) {Q : Int → zS → Prop} (hq : ∀ r, Q r s) : wr_shifted s a b l Q := by
  unfold wr_shifted
  exact ⟨fun _ => hq _, fun _ => ⟨fun _ => ⟨fun _ => hq _, fun _ => hq _⟩, fun _ => hq _⟩⟩
theorem sp_worked (s : zS) (k a b : Int) (hb : (k = 24 ∨ k = 73) → ¬ b = 0) {Q : Int → zS → Prop} (hq : ∀ r, Q r s) : wr_worked s k a b Q := by
  unfold wr_worked
  refine ⟨fun _ => ⟨fun _ => ⟨fun _ => ⟨fun _ => ⟨fun _ => ⟨fun _ => ⟨fun _ => ⟨fun _ => ⟨fun _ => ⟨fun _ => sp_shifted s _ _ _ hq, fun _ => sp_shifted s _ _ _ hq⟩, fun _ => hq _⟩, fun _ => hq _⟩, fun _ => hq _⟩, fun _ => hq _⟩, fun e => ?_⟩, fun e => ?_⟩, fun _ _ _ _ => hq _⟩, fun _ _ _ _ => hq _⟩, fun _ _ _ _ => hq _⟩
  · unfold wr_remainder
    exact ⟨fun _ => ⟨hb (Or.inr e), fun _ _ _ => hq _⟩, fun _ => hq _⟩
  · unfold wr_quotient
    exact ⟨fun _ => ⟨hb (Or.inl e), hq _⟩, fun _ _ _ _ => hq _⟩
theorem sp_related (s : zS) (k a b : Int) {Q : Int → zS → Prop} (hq : ∀ r, Q r s) : wr_related s k a b Q := by
  unfold wr_related
  exact ⟨fun _ => ⟨fun _ => ⟨fun _ => ⟨fun _ => ⟨fun _ => ⟨fun _ => hq _, fun _ => hq _⟩, fun _ => ⟨fun _ => hq _, fun _ => hq _⟩⟩, fun _ => ⟨fun _ => hq _, fun _ => hq _⟩⟩, fun _ => ⟨fun _ => hq _, fun _ => hq _⟩⟩, fun _ => ⟨fun _ => hq _, fun _ => hq _⟩⟩, fun _ => ⟨fun _ => hq _, fun _ => hq _⟩⟩
theorem sp_signed (s : zS) (k a : Int) {Q : Int → zS → Prop} (hq : ∀ r, Q r s) : wr_signed s k a Q := by
  unfold wr_signed
  exact ⟨fun _ => ⟨fun _ => hq _, fun _ => hq _⟩, fun _ _ _ _ => hq _⟩
theorem sp_later (s : zS) (n : Nat) (k : Int) (hn : n < 26000) {Q : Int → zS → Prop} (hq : Q ((n + 1 : Nat) : Int) (zpa (zpa s 60 n k) 61 n 0)) : wr_later s n k Q := by
  unfold wr_later
  rw [Int.toNat_natCast]
  exact ⟨by omega, by omega, by omega, by omega, ⟨by omega, by omega⟩, hq⟩
theorem fCh.nat {s : zS} {l : List Nat} {x : Int} {j : Nat} (h : fCh s x (l.drop j)) (hj : j ≤ l.length) : (j < l.length ∧ x = (gt l j : Int)) ∨ (j = l.length ∧ x = -1) := by
  by_cases e : j < l.length
  · exact Or.inl ⟨e, (h.at e).1⟩
  · have e2 : j = l.length := by omega
    subst e2
    rw [List.drop_length] at h
    exact Or.inr ⟨rfl, h⟩
theorem sp_c297 {Q : zS → Prop} {k40 : zS → Int → Int → Prop} (s : zS) (l : List Nat) (x2 x3 x4 : Int) (j : Nat) (hj : j ≤ l.length) (hl : ∀ x ∈ l, x < 26000) (hL : l.length < 26000) (hE : ∀ x7, fCh s x7 (l.drop j) → ((2 ≤ (j : Int) → (0 ≤ x4) ∧ (x4 < 26000) ∧ ∃ n, wr_constant_360 Q k40 n s x2 x3 j x7 (za s 27 (Int.toNat x4)) 1) ∧ (¬ 2 ≤ (j : Int) → (0 ≤ x2) ∧ (x2 < 26000) ∧ (zR ((j : Int) + 1)) ∧ (zR (x2 + 1)) ∧ wr_later (zpa s 61 (Int.toNat x2) ((j : Int) + 1)) (x2 + 1) x7 (fun r22 s23 => k40 s23 r22 x3)))) : ∀ (n i : Nat) (x7 : Int), i ≤ j → j - i < n → fCh s x7 (l.drop i) → wr_constant_297 Q k40 n s x2 x3 x4 j x7 i := by
  intro n
  induction n with
  | zero => intro i x7 h1 h2; omega
  | succ n ih =>
    intro i x7 h1 h2 h3
    unfold wr_constant_297
    unfold wr_constant_297B
    refine ⟨fun c => ?_, fun c => ?_⟩
    · have : i = j := by omega
      subst this
      exact hE x7 h3
    · obtain ⟨e1, h4⟩ := h3.at (by omega)
      have hx := hl _ (gt_m (l := l) (i := i) (by omega))
      subst e1
      rw [Int.toNat_natCast, show ((i : Int) + 1) = ((i + 1 : Nat) : Int) by omega]
      exact ⟨by omega, by omega, ⟨by omega, by omega⟩, ih (i + 1) _ (by omega) (by omega) h4⟩
theorem sp_c360 {Q : zS → Prop} {k40 : zS → Int → Int → Prop} (s : zS) (l : List Nat) (x2 v : Nat) (x7 : Int) (j : Nat) (hj2 : 2 ≤ j) (hj : j ≤ l.length) (hl : ∀ x ∈ l, x < 26000) (hL : l.length < 26000) (hv : v + 2 < 26000) (hx2 : x2 + 1 < 26000) (hE1 : ∀ z, k40 (zpa s 62 v z) x2 ((v + 1 : Nat) : Int)) (hE2 : ¬ x7 < 0 → ∀ z, k40 (zpa (zpa (zpa (zpa s 62 v z) 61 x2 ((j : Int) + 1)) 60 (x2 + 1) x7) 61 (x2 + 1) 0) ((x2 + 1 + 1 : Nat) : Int) ((v + 1 : Nat) : Int)) : ∀ (n i : Nat) (x8 : Int), 1 ≤ i → i ≤ j → j - i < n → fCh s x8 (l.drop (i - 1)) → wr_constant_360 Q k40 n s x2 ((v + 2 : Nat) : Int) j x7 x8 i := by
  intro n
  induction n with
  | zero => intro i x8 h0 h1 h2; omega
  | succ n ih =>
    intro i x8 h0 h1 h2 h3
    obtain ⟨e1, h4⟩ := h3.at (by omega)
    have hx := hl _ (gt_m (l := l) (i := i - 1) (by omega))
    subst e1
    unfold wr_constant_360
    unfold wr_constant_360B
    have e2 : ((v + 2 : Nat) : Int) - 2 = (v : Int) := by omega
    have e3 : ((v + 2 : Nat) : Int) - 1 = ((v + 1 : Nat) : Int) := by omega
    have e4 : ((v + 2 : Nat) : Int) + (-1) = ((v + 1 : Nat) : Int) := by omega
    have e5 : ((v + 1 : Nat) : Int) - 1 = (v : Int) := by omega
    have e6 : ((x2 : Int) + 1) = ((x2 + 1 : Nat) : Int) := by omega
    rw [e2, e3, e4, e5, e6, Int.toNat_natCast, Int.toNat_natCast, Int.toNat_natCast, Int.toNat_natCast]
    have one : ∀ z, (0 ≤ (v : Int)) ∧ ((v : Int) < 26000) ∧ (zR ((v + 1 : Nat) : Int)) ∧ k40 (zpa s 62 v z) x2 ((v + 1 : Nat) : Int) := fun z => ⟨by omega, by omega, ⟨by omega, by omega⟩, hE1 z⟩
    refine ⟨fun c => ⟨by omega, by omega, by omega, by omega, by omega, by omega, sp_related s _ _ _ (fun r => ⟨fun _ => ⟨fun _ => one _, fun _ => one _⟩, fun _ => ⟨fun _ => ⟨fun _ => one _, fun _ => one _⟩, fun c7 => ⟨by omega, by omega, by omega, by omega, by omega, by omega, ⟨by omega, by omega⟩, ⟨by omega, by omega⟩, sp_later _ (x2 + 1) x7 (by omega) ⟨⟨by omega, by omega⟩, hE2 c7 _⟩⟩⟩⟩)⟩, fun c => ?_⟩
    rw [show ((i : Int) + 1) = ((i + 1 : Nat) : Int) by omega]
    refine ⟨by omega, by omega, ⟨by omega, by omega⟩, ih (i + 1) _ (by omega) (by omega) (by omega) ?_⟩
    rw [show i + 1 - 1 = i - 1 + 1 by omega]
    exact h4
/-- how the walk of a constant stands -/
def cW (s0 s : zS) : Prop := zSm s0 s [60, 61, 62] [12, 13, 58, 59] ∧ fm s0 s ∧ (zv s 58 = 0 ∨ zv s 58 = 1)
theorem cW.pa {s0 s : zS} (h : cW s0 s) {j i : Nat} {x : Int} (hj : j = 60 ∨ j = 61 ∨ j = 62) : cW s0 (zpa s j i x) := ⟨by rcases hj with rfl | rfl | rfl <;> exact h.1.pa rfl, h.2⟩
theorem sz_drop {sz : Nat → Nat} {l : List Nat} {j : Nat} (hj : j < l.length) : ((l.drop j).map sz).sum = sz (gt l j) + ((l.drop (j + 1)).map sz).sum := by
  rw [List.drop_eq_getElem_cons hj, List.map_cons, List.sum_cons, gt_e hj]
theorem sp_meansF (s : zS) (a : Int) (h0 : 0 ≤ zv s 49) (h1 : zv s 49 ≤ 9000) {Q : Int → zS → Prop} (hx : ∃ e : Nat, (e : Int) < zv s 49 ∧ za s 50 e = a) (hq1 : ∀ e : Nat, (e : Int) < zv s 49 → za s 50 e = a → Q e s) : wr_means s a Q := by
  obtain ⟨e0, b1, b2⟩ := hx
  have L : ∀ (n : Nat) (x : Int), (e0 : Int) ≤ x → x < zv s 49 → x + 1 < n → wr_means_7 Q n s a x := by
    intro n
    induction n with
    | zero => intro x h2 h3 h4; omega
    | succ n ih =>
      intro x h2 h3 h4
      unfold wr_means_7
      unfold wr_means_7B
      refine ⟨fun c => absurd c (by omega), fun c => ⟨by omega, by omega, fun ne => ⟨⟨by omega, by omega⟩, ih _ ?_ (by omega) (by omega)⟩, fun e => ?_⟩⟩
      · have : ¬ x = (e0 : Int) := fun q => ne (by rw [q, Int.toNat_natCast]; exact b2)
        omega
      · have := hq1 x.toNat (by omega) e
        rwa [show ((x.toNat : Nat) : Int) = x by omega] at this
  unfold wr_means
  exact ⟨⟨by omega, by omega⟩, (zv s 49).toNat + 1, L _ _ (by omega) (by omega) (by omega)⟩
/-- pushed on the walk -/
def psh (s : zS) (n : Nat) (k : Int) : zS := zpa (zpa s 60 n k) 61 n 0
theorem cW.psh {s0 s : zS} (h : cW s0 s) {n : Nat} {k : Int} : cW s0 (psh s n k) := (h.pa (Or.inl rfl)).pa (Or.inr (Or.inl rfl))
section CV
variable {Q : zS → Prop} {M n k v : Nat} {s : zS}
theorem cv_leaf (hn : n < 25000) (hv : v < 25000) (hk : k < 26000) (h60 : za s 60 n = k) (h25 : za s 25 k = 2) (hc : ∀ x, wr_constant_40 Q M (zpa s 62 v x) n ((v + 1 : Nat) : Int)) : wr_constant_40 Q (M + 1) s ((n + 1 : Nat) : Int) v := by
  have e : ((n + 1 : Nat) : Int) + (-1) = n := by omega
  show wr_constant_40B Q (wr_constant_40 Q M) s _ _
  unfold wr_constant_40B
  rw [e, Int.toNat_natCast, h60, Int.toNat_natCast, h25]
  refine ⟨fun c => absurd c (by omega), fun _ => ⟨by omega, by omega, by omega, by omega, by omega, by omega, fun _ => ?_, fun c => absurd rfl c⟩⟩
  unfold wr_constant_84
  rw [Int.toNat_natCast, Int.toNat_natCast, show ((v : Int) + 1) = ((v + 1 : Nat) : Int) by omega]
  exact ⟨fun c => absurd rfl c, fun _ => ⟨by omega, by omega, by omega, by omega, ⟨by omega, by omega⟩, hc _⟩⟩
theorem cv_name (hn : n < 25000) (hv : v < 25000) (hk : k < 26000) (h60 : za s 60 n = k) (h25 : za s 25 k = 1) (h0 : 0 ≤ zv s 49) (h1 : zv s 49 ≤ 9000) (hx : ∃ e : Nat, (e : Int) < zv s 49 ∧ za s 50 e = za s 29 k) (hc : ∀ x, wr_constant_40 Q M (zpa s 62 v x) n ((v + 1 : Nat) : Int)) : wr_constant_40 Q (M + 1) s ((n + 1 : Nat) : Int) v := by
  have e : ((n + 1 : Nat) : Int) + (-1) = n := by omega
  show wr_constant_40B Q (wr_constant_40 Q M) s _ _
  unfold wr_constant_40B
  rw [e, Int.toNat_natCast, h60, Int.toNat_natCast, h25]
  refine ⟨fun c => absurd c (by omega), fun _ => ⟨by omega, by omega, by omega, by omega, by omega, by omega, fun c => absurd c (by decide), fun _ => ⟨fun c => absurd rfl c, fun _ => ?_⟩⟩⟩
  unfold wr_constant_84
  rw [Int.toNat_natCast, Int.toNat_natCast, show ((v : Int) + 1) = ((v + 1 : Nat) : Int) by omega]
  refine ⟨fun _ => ⟨by omega, by omega, sp_meansF s _ h0 h1 hx (fun e he _ => ⟨by omega, by omega, by omega, by omega, ⟨by omega, by omega⟩, hc _⟩)⟩, fun c => absurd c (by decide)⟩
theorem cv_co0 (hn : n < 25000) (hv : v < 25000) (hk : k < 26000) (h60 : za s 60 n = k) (h25 : za s 25 k = 12) (h61 : za s 61 n = 0) (hc : wr_constant_40 Q M (psh (zpa s 61 n 1) (n + 1) (za s 27 k)) ((n + 1 + 1 : Nat) : Int) v) : wr_constant_40 Q (M + 1) s ((n + 1 : Nat) : Int) v := by
  have e : ((n + 1 : Nat) : Int) + (-1) = n := by omega
  show wr_constant_40B Q (wr_constant_40 Q M) s _ _
  unfold wr_constant_40B
  rw [e, Int.toNat_natCast, h60, Int.toNat_natCast, h25, h61, show ((n : Int) + 1) = ((n + 1 : Nat) : Int) by omega]
  exact ⟨fun c => absurd c (by omega), fun _ => ⟨by omega, by omega, by omega, by omega, by omega, by omega, fun c => absurd c (by decide), fun _ => ⟨fun _ => ⟨fun c => absurd rfl c, fun _ => ⟨fun c => absurd rfl c, fun _ => ⟨by omega, by omega, by omega, by omega, ⟨by omega, by omega⟩, sp_later _ (n + 1) _ (by omega) hc⟩⟩⟩, fun c => absurd c (by decide)⟩⟩⟩
theorem cv_co1 {a b : Nat} (hn : n < 25000) (hv : v < 25000) (hk : k < 26000) (h60 : za s 60 n = k) (h25 : za s 25 k = 12) (h61 : za s 61 n = 1) (ha : a < 26000) (h27 : za s 27 k = a) (hb : b < 26000) (h28 : za s 28 a = b) (hc : wr_constant_40 Q M (psh s n b) ((n + 1 : Nat) : Int) v) (hc2 : wr_constant_40 Q M (psh s n (za s 28 b)) ((n + 1 : Nat) : Int) v) : wr_constant_40 Q (M + 1) s ((n + 1 : Nat) : Int) ((v + 1 : Nat) : Int) := by
  have e : ((n + 1 : Nat) : Int) + (-1) = n := by omega
  have e1 : ((v + 1 : Nat) : Int) + (-1) = v := by omega
  show wr_constant_40B Q (wr_constant_40 Q M) s _ _
  unfold wr_constant_40B
  rw [e, Int.toNat_natCast, h60, Int.toNat_natCast, h25, h61, h27, Int.toNat_natCast, h28, Int.toNat_natCast, e1]
  exact ⟨fun c => absurd c (by omega), fun _ => ⟨by omega, by omega, by omega, by omega, by omega, by omega, fun c => absurd c (by decide), fun _ => ⟨fun _ => ⟨fun c => absurd rfl c, fun _ => ⟨fun _ => ⟨by omega, by omega, by omega, by omega, by omega, by omega, fun _ => ⟨by omega, by omega, sp_later _ n _ (by omega) hc2⟩, fun _ => sp_later _ n _ (by omega) hc⟩, fun c => absurd c (by decide)⟩⟩, fun c => absurd c (by decide)⟩⟩⟩
theorem cv_un0 (hn : n < 25000) (hv : v < 25000) (hk : k < 26000) (h60 : za s 60 n = k) (h25 : za s 25 k = 10) (h61 : za s 61 n = 0) (hc : wr_constant_40 Q M (psh (zpa s 61 n 1) (n + 1) (za s 27 k)) ((n + 1 + 1 : Nat) : Int) v) : wr_constant_40 Q (M + 1) s ((n + 1 : Nat) : Int) v := by
  have e : ((n + 1 : Nat) : Int) + (-1) = n := by omega
  show wr_constant_40B Q (wr_constant_40 Q M) s _ _
  unfold wr_constant_40B
  rw [e, Int.toNat_natCast, h60, Int.toNat_natCast, h25, h61, show ((n : Int) + 1) = ((n + 1 : Nat) : Int) by omega]
  exact ⟨fun c => absurd c (by omega), fun _ => ⟨by omega, by omega, by omega, by omega, by omega, by omega, fun c => absurd c (by decide), fun _ => ⟨fun _ => ⟨fun _ => ⟨fun c => absurd rfl c, fun _ => ⟨fun c => absurd rfl c, fun _ => ⟨by omega, by omega, by omega, by omega, ⟨by omega, by omega⟩, sp_later _ (n + 1) _ (by omega) hc⟩⟩⟩, fun c => absurd c (by decide)⟩, fun c => absurd c (by decide)⟩⟩⟩
theorem cv_un1 (hn : n < 25000) (hv : v < 25000) (hk : k < 26000) (h60 : za s 60 n = k) (h25 : za s 25 k = 10) (h61 : za s 61 n = 1) (hc : ∀ x, wr_constant_40 Q M (zpa s 62 v x) (n : Int) ((v + 1 : Nat) : Int)) : wr_constant_40 Q (M + 1) s ((n + 1 : Nat) : Int) ((v + 1 : Nat) : Int) := by
  have e : ((n + 1 : Nat) : Int) + (-1) = n := by omega
  have e1 : ((v + 1 : Nat) : Int) - 1 = v := by omega
  show wr_constant_40B Q (wr_constant_40 Q M) s _ _
  unfold wr_constant_40B
  rw [e, Int.toNat_natCast, h60, Int.toNat_natCast, h25, h61, e1, Int.toNat_natCast]
  exact ⟨fun c => absurd c (by omega), fun _ => ⟨by omega, by omega, by omega, by omega, by omega, by omega, fun c => absurd c (by decide), fun _ => ⟨fun _ => ⟨fun _ => ⟨fun c => absurd rfl c, fun _ => ⟨fun _ => ⟨by omega, by omega, by omega, by omega, sp_signed s _ _ (fun r => ⟨by omega, by omega, hc r⟩)⟩, fun c => absurd c (by decide)⟩⟩, fun c => absurd c (by decide)⟩, fun c => absurd c (by decide)⟩⟩⟩
theorem cv_bi0 (hn : n < 25000) (hv : v < 25000) (hk : k < 26000) (h60 : za s 60 n = k) (h25 : za s 25 k = 9) (h61 : za s 61 n = 0) (hc : wr_constant_40 Q M (psh (zpa s 61 n 1) (n + 1) (za s 27 k)) ((n + 1 + 1 : Nat) : Int) v) : wr_constant_40 Q (M + 1) s ((n + 1 : Nat) : Int) v := by
  have e : ((n + 1 : Nat) : Int) + (-1) = n := by omega
  show wr_constant_40B Q (wr_constant_40 Q M) s _ _
  unfold wr_constant_40B
  rw [e, Int.toNat_natCast, h60, Int.toNat_natCast, h25, h61, show ((n : Int) + 1) = ((n + 1 : Nat) : Int) by omega]
  exact ⟨fun c => absurd c (by omega), fun _ => ⟨by omega, by omega, by omega, by omega, by omega, by omega, fun c => absurd c (by decide), fun _ => ⟨fun _ => ⟨fun _ => ⟨fun _ => ⟨fun _ => ⟨fun c => absurd c (by decide), fun _ => ⟨by omega, by omega, ⟨by decide, by decide⟩, fun c => absurd rfl c, fun _ => ⟨by omega, by omega, ⟨by omega, by omega⟩, sp_later _ (n + 1) _ (by omega) hc⟩⟩⟩, fun c => absurd c (by decide)⟩, fun c => absurd c (by decide)⟩, fun c => absurd c (by decide)⟩, fun c => absurd c (by decide)⟩⟩⟩
theorem cv_bi1 {a : Nat} (hn : n < 25000) (hv : v < 25000) (hk : k < 26000) (h60 : za s 60 n = k) (h25 : za s 25 k = 9) (h61 : za s 61 n = 1) (ha : a < 26000) (h27 : za s 27 k = a) (hc : wr_constant_40 Q M (psh (zpa s 61 n 2) (n + 1) (za s 28 a)) ((n + 1 + 1 : Nat) : Int) v) : wr_constant_40 Q (M + 1) s ((n + 1 : Nat) : Int) v := by
  have e : ((n + 1 : Nat) : Int) + (-1) = n := by omega
  show wr_constant_40B Q (wr_constant_40 Q M) s _ _
  unfold wr_constant_40B
  rw [e, Int.toNat_natCast, h60, Int.toNat_natCast, h25, h61, h27, Int.toNat_natCast, show ((n : Int) + 1) = ((n + 1 : Nat) : Int) by omega]
  exact ⟨fun c => absurd c (by omega), fun _ => ⟨by omega, by omega, by omega, by omega, by omega, by omega, fun c => absurd c (by decide), fun _ => ⟨fun _ => ⟨fun _ => ⟨fun _ => ⟨fun _ => ⟨fun c => absurd c (by decide), fun _ => ⟨by omega, by omega, ⟨by decide, by decide⟩, fun _ => ⟨by omega, by omega, by omega, by omega, ⟨by omega, by omega⟩, sp_later _ (n + 1) _ (by omega) hc⟩, fun c => absurd c (by decide)⟩⟩, fun c => absurd c (by decide)⟩, fun c => absurd c (by decide)⟩, fun c => absurd c (by decide)⟩, fun c => absurd c (by decide)⟩⟩⟩
theorem cv_bi2 (hn : n < 25000) (hv : v < 25000) (hk : k < 26000) (h60 : za s 60 n = k) (h25 : za s 25 k = 9) (h61 : za s 61 n = 2) (h26 : 0 ≤ za s 26 k ∧ za s 26 k ≤ 12000) (hc : ∀ x, wr_constant_40 Q M (zpa s 62 v x) (n : Int) ((v + 1 : Nat) : Int)) (hf : ∀ s', zSm s s' [] [12, 13] → ¬ zv s' 12 = 0 → Q (zpv s' 58 0)) : wr_constant_40 Q (M + 1) s ((n + 1 : Nat) : Int) ((v + 2 : Nat) : Int) := by
  have e : ((n + 1 : Nat) : Int) + (-1) = n := by omega
  have e1 : ((v + 2 : Nat) : Int) + (-1) = ((v + 1 : Nat) : Int) := by omega
  have e2 : ((v + 1 : Nat) : Int) - 1 = v := by omega
  have D : wr_constant_567 Q (wr_constant_40 Q M) s n ((v + 1 : Nat) : Int) k := by
    unfold wr_constant_567
    rw [e2, Int.toNat_natCast, Int.toNat_natCast, Int.toNat_natCast]
    refine ⟨by omega, by omega, fun c => ⟨by omega, by omega, by omega, by omega, by omega, by omega, sp_worked s _ _ _ (fun _ => c) (fun r => ⟨by omega, by omega, hc r⟩)⟩, fun _ => ⟨by omega, by omega, sp_place s _ h26.1 h26.2 (fun r => ?_)⟩⟩
    refine ffm_fault (sp_faultN s 6 r (by decide)) ?_
    rintro s1 - ⟨f, q⟩
    exact hf s1 f q
  show wr_constant_40B Q (wr_constant_40 Q M) s _ _
  unfold wr_constant_40B
  rw [e, Int.toNat_natCast, h60, Int.toNat_natCast, h25, h61, e1, e2, Int.toNat_natCast, Int.toNat_natCast]
  exact ⟨fun c => absurd c (by omega), fun _ => ⟨by omega, by omega, by omega, by omega, by omega, by omega, fun c => absurd c (by decide), fun _ => ⟨fun _ => ⟨fun _ => ⟨fun _ => ⟨fun _ => ⟨fun _ => ⟨by omega, by omega, fun _ => ⟨⟨by omega, by omega⟩, D⟩, fun c24 => ⟨by omega, by omega, fun c73 => ⟨by omega, by omega, by omega, by omega, by omega, by omega, sp_worked s _ _ _ (fun q => q.elim (fun q => absurd q c24) (fun q => absurd q c73)) (fun r => ⟨by omega, by omega, hc r⟩)⟩, fun _ => ⟨⟨by omega, by omega⟩, D⟩⟩⟩, fun c => absurd (by decide) c⟩, fun c => absurd c (by decide)⟩, fun c => absurd c (by decide)⟩, fun c => absurd c (by decide)⟩, fun c => absurd c (by decide)⟩⟩⟩
theorem cv_re {x3 : Int} (hn : n < 25000) (hk : k < 26000) (h60 : za s 60 n = k) (h25 : za s 25 k = 11) (hc : ∃ n1, wr_constant_297 Q (wr_constant_40 Q M) n1 s n x3 k (za s 61 n) (za s 27 k) 0) : wr_constant_40 Q (M + 1) s ((n + 1 : Nat) : Int) x3 := by
  have e : ((n + 1 : Nat) : Int) + (-1) = n := by omega
  show wr_constant_40B Q (wr_constant_40 Q M) s _ _
  unfold wr_constant_40B
  rw [e, Int.toNat_natCast, h60, Int.toNat_natCast, h25]
  exact ⟨fun c => absurd c (by omega), fun _ => ⟨by omega, by omega, by omega, by omega, by omega, by omega, fun c => absurd c (by decide), fun _ => ⟨fun _ => ⟨fun _ => ⟨fun _ => ⟨fun c => absurd rfl c, fun _ => ⟨by omega, by omega, hc⟩⟩, fun c => absurd c (by decide)⟩, fun c => absurd c (by decide)⟩, fun c => absurd c (by decide)⟩⟩⟩
end CV
theorem cW.v {s0 s : zS} (h : cW s0 s) (j : Nat) (hj : ([60, 61, 62] : List Nat).contains j = false) (i : Nat) : za s j i = za s0 j i := h.1.a j i hj
theorem psh_60 (s : zS) (n : Nat) (k : Int) : za (psh s n k) 60 n = k := by
  unfold psh
  simp only [za_pa, reduceIte, Nat.reduceEqDiff]
theorem psh_61 (s : zS) (n : Nat) (k : Int) : za (psh s n k) 61 n = 0 := by
  unfold psh
  simp only [za_pa, reduceIte, Nat.reduceEqDiff]
theorem psh_o (s : zS) (n : Nat) (k : Int) (i : Nat) (h : ¬ i = n) : za (psh s n k) 60 i = za s 60 i ∧ za (psh s n k) 61 i = za s 61 i := by
  unfold psh
  simp only [za_pa, reduceIte, Nat.reduceEqDiff, if_neg h]
  exact ⟨trivial, trivial⟩
theorem pst_60 (s : zS) (n : Nat) (x : Int) (i : Nat) : za (zpa s 61 n x) 60 i = za s 60 i := rfl
theorem pst_61 (s : zS) (n : Nat) (x : Int) : za (zpa s 61 n x) 61 n = x := by
  rw [za_pa, if_pos rfl, if_pos rfl]
theorem pst_o (s : zS) (n : Nat) (x : Int) (i : Nat) (h : ¬ i = n) : za (zpa s 61 n x) 61 i = za s 61 i := by
  rw [za_pa, if_pos rfl, if_neg h]
theorem map1 {f : Nat → Int} {l : List Nat} {a : Int} (h : l.map f = [a]) : ∃ x, l = [x] ∧ f x = a := by
  match l, h with
  | [x], h => exact ⟨x, rfl, by simpa using h⟩
theorem map2 {f : Nat → Int} {l : List Nat} {a b : Int} (h : l.map f = [a, b]) : ∃ x y, l = [x, y] ∧ f x = a ∧ f y = b := by
  match l, h with
  | [x, y], h => exact ⟨x, y, rfl, by simpa using h⟩
theorem map3 {f : Nat → Int} {l : List Nat} {a b c : Int} (h : l.map f = [a, b, c]) : ∃ x y z, l = [x, y, z] ∧ f x = a ∧ f y = b ∧ f z = c := by
  match l, h with
  | [x, y, z], h => exact ⟨x, y, z, rfl, by simpa using h⟩
/-- from a node pushed on the walk on: it is worked, and no more is on the walk -/
def cEV (s0 : zS) (Q : zS → Prop) (sz : Nat → Nat) (k : Nat) : Prop := ∀ (m n v : Nat) (s : zS), cW s0 s → za s 60 n = k → za s 61 n = 0 → n + sz k < 25000 → v + sz k < 25000 → (∀ (s' : zS) (m' : Nat), m ≤ m' → cW s0 s' → (∀ i, i < n → za s' 60 i = za s 60 i ∧ za s' 61 i = za s 61 i) → wr_constant_40 Q m' s' n ((v + 1 : Nat) : Int)) → ∀ M : Nat, m + 4 * sz k ≤ M + 1 → wr_constant_40 Q M s ((n + 1 : Nat) : Int) v
theorem sp_const_E {s0 : zS} {kids : Nat → List Nat} {up sz : Nat → Nat} {W : List Nat} {N : Nat} (h : fF s0 kids up sz W N) (hN : N < 12000) (e0 : 0 ≤ zv s0 49) (e1 : zv s0 49 ≤ 9000) {Q : zS → Prop} (hQ : ∀ s', cW s0 s' → Q s') : ∀ (d k : Nat), sz k ≤ d → k < N → kE (za s0 25 k) → (∀ x, rch kids k x → okK s0 x) → cEV s0 Q sz k := by
  intro d
  induction d with
  | zero =>
    intro k hd hk
    have := h.ss k hk
    omega
  | succ d ih =>
    intro k hd hk hE hok m n v s hs h60 h61 hn hv hq M hM
    have hz := h.ss k hk
    have hs1 := h.sh k hk
    have hch := h.ch k hk
    have kid : ∀ c, c ∈ kids k → kE (za s0 25 c) → cEV s0 Q sz c := fun c hc hcE => ih c (by have := h.szk hk hc; omega) (h.kd k hk c hc).1 hcE (fun x hx => hok x (fun P h1 h2 => hx P (h2 k c h1 hc) h2))
    have lt : ∀ c, c ∈ kids k → c < N := fun c hc => (h.kd k hk c hc).1
    have szc : ∀ c, c ∈ kids k → 1 ≤ sz c := fun c hc => by have := h.ss c (lt c hc); omega
    obtain ⟨o1, o2⟩ := hok k (rch.rt kids k)
    have e12 := hE.2
    have h25 : ∀ s', cW s0 s' → za s' 25 k = za s0 25 k := fun s' hs' => hs'.v 25 rfl k
    have h27 : ∀ s', cW s0 s' → za s' 27 k = za s0 27 k := fun s' hs' => hs'.v 27 rfl k
    have h28 : ∀ s', cW s0 s' → ∀ i, za s' 28 i = za s0 28 i := fun s' hs' i => hs'.v 28 rfl i
    have fin : ∀ (M' : Nat) (s' : zS) (x : Int), m ≤ M' → cW s0 s' → (∀ i, i < n → za s' 60 i = za s 60 i ∧ za s' 61 i = za s 61 i) → wr_constant_40 Q M' (zpa s' 62 v x) n ((v + 1 : Nat) : Int) := fun M' s' x hM' hs' hi => hq _ M' hM' (hs'.pa (Or.inr (Or.inr rfl))) hi
    have hk6 : za s0 25 k = 1 ∨ za s0 25 k = 2 ∨ za s0 25 k = 9 ∨ za s0 25 k = 10 ∨ za s0 25 k = 11 ∨ za s0 25 k = 12 := by
      clear o2
      omega
    obtain ⟨M, rfl⟩ : ∃ M', M = M' + 1 := ⟨M - 1, by omega⟩
    rcases hk6 with g | g | g | g | g | g
    · refine cv_name (k := k) (by omega) (by omega) (by omega) h60 (by rw [h25 s hs]; exact g) (by rw [hs.1.v 49 rfl]; exact e0) (by rw [hs.1.v 49 rfl]; exact e1) ?_ (fun x => fin M s x (by omega) hs (fun _ _ => ⟨rfl, rfl⟩))
      obtain ⟨e, a, b⟩ := o2 g
      exact ⟨e, by rw [hs.1.v 49 rfl]; exact a, by rw [hs.v 50 rfl, hs.v 29 rfl]; exact b⟩
    · exact cv_leaf (k := k) (by omega) (by omega) (by omega) h60 (by rw [h25 s hs]; exact g) (fun x => fin M s x (by omega) hs (fun _ _ => ⟨rfl, rfl⟩))
    · -- two sides
      rw [g] at hs1
      obtain ⟨ka, kb, q1, qa, qb⟩ := hs1.bi rfl
      obtain ⟨a, b, ek, ea, eb⟩ := map2 q1
      rw [ek] at hch hz
      have ha := kid a (by rw [ek]; exact List.mem_cons_self ..) (by rw [ea]; exact qa)
      have hb := kid b (by rw [ek]; exact List.mem_cons_of_mem _ (List.mem_cons_self ..)) (by rw [eb]; exact qb)
      have la := lt a (by rw [ek]; exact List.mem_cons_self ..)
      have za1 := szc a (by rw [ek]; exact List.mem_cons_self ..)
      have zb1 := szc b (by rw [ek]; exact List.mem_cons_of_mem _ (List.mem_cons_self ..))
      have ca : za s0 27 k = a := hch.1
      have cb : za s0 28 a = b := hch.2.1
      simp only [List.map_cons, List.map_nil, List.sum_cons, List.sum_nil] at hz
      obtain ⟨t1, t2, -⟩ := h.tk k hk
      refine cv_bi0 (k := k) (by omega) (by omega) (by omega) h60 (by rw [h25 s hs]; exact g) h61 ?_
      rw [h27 s hs, ca]
      have w1 : cW s0 (zpa s 61 n 1) := hs.pa (Or.inr (Or.inl rfl))
      refine ha (m + 4 * sz b + 1) (n + 1) v _ w1.psh (psh_60 _ _ _) (psh_61 _ _ _) (by omega) (by omega) (fun s2 m2 hm2 w2 i2 => ?_) M (by omega)
      obtain ⟨m2, rfl⟩ : ∃ m', m2 = m' + 1 := ⟨m2 - 1, by omega⟩
      have j2 := i2 n (by omega)
      have p2 := psh_o (zpa s 61 n 1) (n + 1) a n (by omega)
      refine cv_bi1 (k := k) (a := a) (by omega) (by omega) (by omega) (by rw [j2.1, p2.1]; exact h60) (by rw [h25 s2 w2]; exact g) (by rw [j2.2, p2.2]; exact pst_61 s n 1) (by omega) (by rw [h27 s2 w2]; exact ca) ?_
      rw [h28 s2 w2, cb]
      have w3 : cW s0 (zpa s2 61 n 2) := w2.pa (Or.inr (Or.inl rfl))
      refine hb (m + 1) (n + 1) (v + 1) _ w3.psh (psh_60 _ _ _) (psh_61 _ _ _) (by omega) (by omega) (fun s4 m4 hm4 w4 i4 => ?_) m2 (by omega)
      obtain ⟨m4, rfl⟩ : ∃ m', m4 = m' + 1 := ⟨m4 - 1, by omega⟩
      have j4 := i4 n (by omega)
      have p4 := psh_o (zpa s2 61 n 2) (n + 1) b n (by omega)
      refine cv_bi2 (k := k) (by omega) (by omega) (by omega) (by rw [j4.1, p4.1, pst_60, j2.1, p2.1]; exact h60) (by rw [h25 s4 w4]; exact g) (by rw [j4.2, p4.2]; exact pst_61 s2 n 2) (by rw [w4.v 26 rfl]; exact ⟨t1, t2⟩) (fun x => fin m4 s4 x (by omega) w4 (fun i hi => ?_)) (fun s5 f5 q5 => hQ _ ⟨(w4.1.tr f5 rfl rfl).pv rfl, fun _ => q5, Or.inl rfl⟩)
      have a1 := i4 i (by omega)
      have a2 := psh_o (zpa s2 61 n 2) (n + 1) b i (by omega)
      have a3 := i2 i (by omega)
      have a4 := psh_o (zpa s 61 n 1) (n + 1) a i (by omega)
      exact ⟨by rw [a1.1, a2.1, pst_60, a3.1, a4.1, pst_60], by rw [a1.2, a2.2, pst_o _ _ _ _ (by omega), a3.2, a4.2, pst_o _ _ _ _ (by omega)]⟩
    · -- a sign
      rw [g] at hs1
      obtain ⟨ka, q1, qa⟩ := hs1.e1 (by decide)
      obtain ⟨a, ek, ea⟩ := map1 q1
      rw [ek] at hch hz
      have ha := kid a (by rw [ek]; exact List.mem_cons_self ..) (by rw [ea]; exact qa)
      have za1 := szc a (by rw [ek]; exact List.mem_cons_self ..)
      have ca : za s0 27 k = a := hch.1
      simp only [List.map_cons, List.map_nil, List.sum_cons, List.sum_nil] at hz
      refine cv_un0 (k := k) (by omega) (by omega) (by omega) h60 (by rw [h25 s hs]; exact g) h61 ?_
      rw [h27 s hs, ca]
      have w1 : cW s0 (zpa s 61 n 1) := hs.pa (Or.inr (Or.inl rfl))
      refine ha (m + 1) (n + 1) v _ w1.psh (psh_60 _ _ _) (psh_61 _ _ _) (by omega) (by omega) (fun s2 m2 hm2 w2 i2 => ?_) M (by omega)
      obtain ⟨m2, rfl⟩ : ∃ m', m2 = m' + 1 := ⟨m2 - 1, by omega⟩
      have j2 := i2 n (by omega)
      have p2 := psh_o (zpa s 61 n 1) (n + 1) a n (by omega)
      refine cv_un1 (k := k) (by omega) (by omega) (by omega) (by rw [j2.1, p2.1]; exact h60) (by rw [h25 s2 w2]; exact g) (by rw [j2.2, p2.2]; exact pst_61 s n 1) (fun x => fin m2 s2 x (by omega) w2 (fun i hi => ?_))
      have a3 := i2 i (by omega)
      have a4 := psh_o (zpa s 61 n 1) (n + 1) a i (by omega)
      exact ⟨by rw [a3.1, a4.1, pst_60], by rw [a3.2, a4.2, pst_o _ _ _ _ (by omega)]⟩
    · -- a row of relations
      rw [g] at hs1
      obtain ⟨ka, kb, kr, q1, qE⟩ := hs1.re rfl
      have hl2 : 2 ≤ (kids k).length := by
        have := congrArg List.length q1
        rw [List.length_map] at this
        simp at this
        omega
      have hlE : ∀ j, j < (kids k).length → cEV s0 Q sz (gt (kids k) j) := fun j hj => kid _ (gt_m hj) (qE _ (List.mem_map.mpr ⟨_, gt_m hj, rfl⟩))
      have lN : (kids k).length < 25000 := by
        have := len_sum h lt
        omega
      have lt2 : ∀ x ∈ kids k, x < 26000 := fun x hx => by have := lt x hx; omega
      have RV : ∀ (r j : Nat), (kids k).length - j = r → j ≤ (kids k).length → ∀ (s2 : zS) (M2 : Nat), cW s0 s2 → (∀ i, i < n → za s2 60 i = za s 60 i ∧ za s2 61 i = za s 61 i) → za s2 60 n = k → za s2 61 n = j → m + 4 * (((kids k).drop j).map sz).sum + 1 ≤ M2 → wr_constant_40 Q M2 s2 ((n + 1 : Nat) : Int) ((v + min j 2 : Nat) : Int) := by
        intro r
        induction r with
        | zero =>
          intro j hr hj s2 M2 w2 i2 k2 k3 hm2
          obtain ⟨M2, rfl⟩ : ∃ m', M2 = m' + 1 := ⟨M2 - 1, by omega⟩
          have ej : j = (kids k).length := by omega
          refine cv_re (k := k) (by omega) (by omega) k2 (by rw [h25 s2 w2]; exact g) ⟨j + 1, ?_⟩
          rw [k3]
          refine sp_c297 s2 (kids k) n _ k j hj lt2 (by omega) (fun x7 hx7 => ⟨fun _ => ⟨by omega, by omega, j + 1, ?_⟩, fun c => absurd (by omega) c⟩) (j + 1) 0 _ (by omega) (by omega) (by rw [h27 s2 w2]; exact hch.fr (fun x _ => h28 s2 w2 x))
          rw [show min j 2 = 2 by omega, Int.toNat_natCast]
          have x7n : x7 = -1 := by rcases hx7.nat hj with q | q <;> omega
          refine sp_c360 s2 (kids k) n v x7 j (by omega) hj lt2 (by omega) (by omega) (by omega) (fun z => fin M2 s2 z (by omega) w2 i2) (fun c => absurd (by omega) c) (j + 1) 1 _ (by omega) (by omega) (by omega) (by rw [h27 s2 w2]; exact hch.fr (fun x _ => h28 s2 w2 x))
        | succ r ihr =>
          intro j hr hj s2 M2 w2 i2 k2 k3 hm2
          obtain ⟨M2, rfl⟩ : ∃ m', M2 = m' + 1 := ⟨M2 - 1, by omega⟩
          have hj2 : j < (kids k).length := by omega
          have hzd := sz_drop (sz := sz) hj2
          have hzm := sum_mem (sz := sz) (gt_m hj2)
          have hzl := len_sum h lt
          -- the kid, then the rest
          have go : ∀ (s3 : zS) (w : Nat), w + 1 = min (j + 1) 2 → cW s0 s3 → (∀ i, i < n → za s3 60 i = za s 60 i ∧ za s3 61 i = za s 61 i) → za s3 60 n = k → za s3 61 n = (j + 1 : Nat) → wr_constant_40 Q M2 (psh s3 (n + 1) (gt (kids k) j : Nat)) ((n + 1 + 1 : Nat) : Int) ((v + w : Nat) : Int) := fun s3 w hw w3 i3 q3 q4 => by
            refine hlE j hj2 (m + 4 * (((kids k).drop (j + 1)).map sz).sum + 1) (n + 1) (v + w) _ w3.psh (psh_60 _ _ _) (psh_61 _ _ _) (by omega) (by omega) (fun s4 m4 hm4 w4 i4 => ?_) M2 (by omega)
            have a0 := i4 n (by omega)
            have a1 := psh_o s3 (n + 1) (gt (kids k) j : Nat) n (by omega)
            rw [show v + w + 1 = v + min (j + 1) 2 by omega]
            refine ihr (j + 1) (by omega) (by omega) s4 m4 w4 (fun i hi => ?_) (by rw [a0.1, a1.1]; exact q3) (by rw [a0.2, a1.2]; exact q4) (by omega)
            have b0 := i4 i (by omega)
            have b1 := psh_o s3 (n + 1) (gt (kids k) j : Nat) i (by omega)
            have b2 := i3 i hi
            exact ⟨by rw [b0.1, b1.1, b2.1], by rw [b0.2, b1.2, b2.2]⟩
          have st : ∀ s3, cW s0 s3 → (∀ i, i < n → za s3 60 i = za s 60 i ∧ za s3 61 i = za s 61 i) → za s3 60 n = k → cW s0 (zpa s3 61 n ((j : Int) + 1)) ∧ (∀ i, i < n → za (zpa s3 61 n ((j : Int) + 1)) 60 i = za s 60 i ∧ za (zpa s3 61 n ((j : Int) + 1)) 61 i = za s 61 i) ∧ za (zpa s3 61 n ((j : Int) + 1)) 60 n = k ∧ za (zpa s3 61 n ((j : Int) + 1)) 61 n = (j + 1 : Nat) := fun s3 w3 i3 q3 => ⟨w3.pa (Or.inr (Or.inl rfl)), fun i hi => ⟨by rw [pst_60]; exact (i3 i hi).1, by rw [pst_o _ _ _ _ (by omega)]; exact (i3 i hi).2⟩, by rw [pst_60]; exact q3, by rw [pst_61]; omega⟩
          refine cv_re (k := k) (by omega) (by omega) k2 (by rw [h25 s2 w2]; exact g) ⟨j + 1, ?_⟩
          rw [k3]
          refine sp_c297 s2 (kids k) n _ k j hj lt2 (by omega) (fun x7 hx7 => ?_) (j + 1) 0 _ (by omega) (by omega) (by rw [h27 s2 w2]; exact hch.fr (fun x _ => h28 s2 w2 x))
          have x7n : x7 = (gt (kids k) j : Nat) := by rcases hx7.nat hj with q | q <;> omega
          subst x7n
          refine ⟨fun c2 => ⟨by omega, by omega, j + 1, ?_⟩, fun c2 => ⟨by omega, by omega, ⟨by omega, by omega⟩, ⟨by omega, by omega⟩, ?_⟩⟩
          · rw [show min j 2 = 2 by omega, Int.toNat_natCast]
            refine sp_c360 s2 (kids k) n v _ j (by omega) hj lt2 (by omega) (by omega) (by omega) (fun z => fin M2 s2 z (by omega) w2 i2) (fun _ z => ?_) (j + 1) 1 _ (by omega) (by omega) (by omega) (by rw [h27 s2 w2]; exact hch.fr (fun x _ => h28 s2 w2 x))
            have w3 : cW s0 (zpa s2 62 v z) := w2.pa (Or.inr (Or.inr rfl))
            obtain ⟨r1, r2, r3, r4⟩ := st (zpa s2 62 v z) w3 i2 k2
            exact go _ 1 (by omega) r1 r2 r3 r4
          · obtain ⟨r1, r2, r3, r4⟩ := st s2 w2 i2 k2
            rw [show ((n : Int) + 1) = ((n + 1 : Nat) : Int) by omega, Int.toNat_natCast]
            refine sp_later _ (n + 1) _ (by omega) ?_
            have := go _ (min j 2) (by omega) r1 r2 r3 r4
            exact this
      have := RV (kids k).length 0 (by omega) (by omega) s (M + 1) hs (fun _ _ => ⟨rfl, rfl⟩) h60 h61 (by rw [List.drop_zero]; omega)
      simpa using this
    · -- E -> E, E
      rw [g] at hs1
      obtain ⟨ka, kb, kc, q1, qa, qb, qc⟩ := hs1.co rfl
      obtain ⟨a, b, c, ek, ea, eb, ec⟩ := map3 q1
      rw [ek] at hch hz
      have m1 : a ∈ kids k := by rw [ek]; exact List.mem_cons_self ..
      have m2 : b ∈ kids k := by rw [ek]; exact List.mem_cons_of_mem _ (List.mem_cons_self ..)
      have m3 : c ∈ kids k := by rw [ek]; exact List.mem_cons_of_mem _ (List.mem_cons_of_mem _ (List.mem_cons_self ..))
      have ha := kid a m1 (by rw [ea]; exact qa)
      have hb := kid b m2 (by rw [eb]; exact qb)
      have hc := kid c m3 (by rw [ec]; exact qc)
      have la := lt a m1
      have lb := lt b m2
      have za1 := szc a m1
      have zb1 := szc b m2
      have zc1 := szc c m3
      have ca : za s0 27 k = a := hch.1
      have cb : za s0 28 a = b := hch.2.1
      have cc : za s0 28 b = c := hch.2.2.1
      simp only [List.map_cons, List.map_nil, List.sum_cons, List.sum_nil] at hz
      refine cv_co0 (k := k) (by omega) (by omega) (by omega) h60 (by rw [h25 s hs]; exact g) h61 ?_
      rw [h27 s hs, ca]
      have w1 : cW s0 (zpa s 61 n 1) := hs.pa (Or.inr (Or.inl rfl))
      refine ha (m + 4 * sz b + 4 * sz c) (n + 1) v _ w1.psh (psh_60 _ _ _) (psh_61 _ _ _) (by omega) (by omega) (fun s2 m2 hm2 w2 i2 => ?_) M (by omega)
      obtain ⟨m2, rfl⟩ : ∃ m', m2 = m' + 1 := ⟨m2 - 1, by omega⟩
      have j2 := i2 n (by omega)
      have p2 := psh_o (zpa s 61 n 1) (n + 1) a n (by omega)
      have I : ∀ x : Int, ∀ i, i < n → za (psh s2 n x) 60 i = za s 60 i ∧ za (psh s2 n x) 61 i = za s 61 i := fun x i hi => by
        have b0 := psh_o s2 n x i (by omega)
        have a3 := i2 i (by omega)
        have a4 := psh_o (zpa s 61 n 1) (n + 1) a i (by omega)
        exact ⟨by rw [b0.1, a3.1, a4.1, pst_60], by rw [b0.2, a3.2, a4.2, pst_o _ _ _ _ (by omega)]⟩
      refine cv_co1 (k := k) (a := a) (b := b) (by omega) (by omega) (by omega) (by rw [j2.1, p2.1]; exact h60) (by rw [h25 s2 w2]; exact g) (by rw [j2.2, p2.2]; exact pst_61 s n 1) (by omega) (by rw [h27 s2 w2]; exact ca) (by omega) (by rw [h28 s2 w2]; exact cb) ?_ ?_
      · refine hb m n v _ w2.psh (psh_60 _ _ _) (psh_61 _ _ _) (by omega) (by omega) (fun s4 m4 hm4 w4 i4 => hq s4 m4 hm4 w4 (fun i hi => ?_)) m2 (by omega)
        have := I b i hi
        exact ⟨by rw [(i4 i hi).1]; exact this.1, by rw [(i4 i hi).2]; exact this.2⟩
      · rw [h28 s2 w2, cc]
        refine hc m n v _ w2.psh (psh_60 _ _ _) (psh_61 _ _ _) (by omega) (by omega) (fun s4 m4 hm4 w4 i4 => hq s4 m4 hm4 w4 (fun i hi => ?_)) m2 (by omega)
        have := I c i hi
        exact ⟨by rw [(i4 i hi).1]; exact this.1, by rw [(i4 i hi).2]; exact this.2⟩
theorem sp_constant {s : zS} {kids : Nat → List Nat} {up sz : Nat → Nat} {W : List Nat} {N : Nat} (h : fF s kids up sz W N) (hN : N < 12000) (e0 : 0 ≤ zv s 49) (e1 : zv s 49 ≤ 9000) (k : Nat) (hk : k < N) (hE : kE (za s 25 k)) (hz : sz k ≤ N) {Q : zS → Prop} (hQ : ∀ s', cW s s' → Q s') : wr_constant s k Q := by
  unfold wr_constant
  refine sp_isK h (by omega) e0 e1 k hk hE hz (fun r s1 hr f m hok => ⟨hr, fun c => ⟨4 * sz k + 1, ?_⟩, fun c => hQ _ ⟨((zSm.rf.tr f rfl rfl : zSm s s1 [60, 61, 62] [12, 13, 58, 59]).pv rfl).pv rfl, fun q => m q, ?_⟩⟩)
  · have f1 : zSm s s1 [60, 61, 62] [12, 13, 58, 59] := zSm.rf.tr f rfl rfl
    have w1 : cW s (zpv (zpv s1 58 r) 59 0) := ⟨(f1.pv rfl).pv rfl, fun q => m q, hr⟩
    have ev := sp_const_E h hN e0 e1 hQ (sz k) k (Nat.le_refl _) hk hE (hok (by omega)) 1 0 0 (psh (zpv (zpv s1 58 r) 59 0) 0 k) w1.psh (psh_60 _ _ _) (psh_61 _ _ _) (by omega) (by omega) (fun s' m' hm' w' _ => ?_) (4 * sz k + 1) (by omega)
    · exact ev
    · obtain ⟨m', rfl⟩ : ∃ q, m' = q + 1 := ⟨m' - 1, by omega⟩
      show wr_constant_40B Q (wr_constant_40 Q m') s' _ _
      unfold wr_constant_40B
      exact ⟨fun _ => hQ _ ⟨w'.1.pv rfl, w'.2⟩, fun c => absurd (by omega) c⟩
  · exact hr
