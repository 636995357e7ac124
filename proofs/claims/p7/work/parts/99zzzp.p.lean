/-! THE RUN: INPUTS, VECTORS -/
section RUN
variable {s4 s1 : zS}
theorem sp_nextByte {s : zS} (h : xIO s) {Q : Int → zS → Prop} (hq : ∀ r s', zSm s s' [113] [] → xIO s' → Q r s') : wr_nextByte s Q := by
  obtain ⟨k, e, hk, g1, g2, g3, g4, g5⟩ := h.k114
  unfold wr_nextByte
  rw [e, Int.toNat_natCast]
  exact ⟨by omega, by omega, by omega, by omega, fun c => ⟨by omega, by omega, by omega, by omega, ⟨by omega, by omega⟩, by omega, by omega, by omega, by omega, hq _ _ (zSm.rf.pa rfl) (h.set hk (by omega) (by omega))⟩, fun _ => hq _ s zSm.rf h⟩
/-- what is told of a peek: a byte there is, at a place ahead of the end -/
theorem sp_peek {s : zS} (h : xIO s) {Q : Int → zS → Prop} (hq : ∀ r, (0 ≤ r → ∃ k : Nat, zv s 114 = k ∧ k < 4 ∧ za s 113 k < za s 112 k) → Q r s) : wr_peek s Q := by
  obtain ⟨k, e, hk, g1, g2, g3, g4, g5⟩ := h.k114
  unfold wr_peek
  rw [e, Int.toNat_natCast]
  exact ⟨by omega, by omega, by omega, by omega, fun c => ⟨by omega, by omega, by omega, by omega, hq _ (fun _ => ⟨k, e, hk, by omega⟩)⟩, fun _ => hq _ (fun q => absurd q (by decide))⟩
theorem sp_rn70 {s : zS} (h : xIO s) {k : Nat} (e : zv s 114 = k) (hk : k < 4) (x3 : Int) {Q : Int → zS → Prop} (hq : ∀ r s', zSm s s' [113] [] → xIO s' → Q r s') : wr_readNumber_70 Q s k x3 := by
  have g := h.2.2.2.2.2.1 k hk
  obtain ⟨g1, g2, g3, g4, g5⟩ := g
  unfold wr_readNumber_70
  refine sp_peek h (fun r hr => ?_)
  refine ffm_isDigit (sp_isDigit s r) ?_
  rintro r2 s3 - ⟨rfl, d1, d2, -⟩
  rw [Int.toNat_natCast]
  refine ⟨fun c => ?_, fun _ => hq _ _ zSm.rf h⟩
  obtain ⟨k2, q1, q2, q3⟩ := hr (by have := d2 (d1.elim (fun q => absurd q c) id); omega)
  have ek : k2 = k := by omega
  subst ek
  have pe := g5 (za s3 113 k2) g3 q3
  have sx := h.set hk (v := za s3 110 (Int.toNat (6000 * (k2 : Int) + za s3 113 k2))) (by omega) (by omega)
  exact ⟨by omega, by omega, by omega, by omega, by omega, by omega, fun _ => ⟨by omega, by omega, hq _ _ (zSm.rf.pa rfl) sx⟩, fun _ => ⟨by omega, by omega, fun z _ _ => hq _ _ (zSm.rf.pa rfl) sx⟩⟩
theorem sp_rn38 {s : zS} (h : xIO s) {k : Nat} (e : zv s 114 = k) (hk : k < 4) {Q : Int → zS → Prop} (hq : ∀ r s', zSm s s' [113] [] → xIO s' → Q r s') : wr_readNumber_38 Q s k := by
  have N : ∀ x3, wr_nextByte s (fun _ s14 => wr_readNumber_70 Q s14 k x3) := fun x3 => sp_nextByte h (fun r s' f' h' => sp_rn70 h' (by rw [f'.v 114 rfl]; exact e) hk x3 (fun r s3 f3 h3 => hq r s3 (f'.tr f3 rfl rfl) h3))
  unfold wr_readNumber_38
  exact sp_peek h (fun r _ => ⟨fun _ => ⟨fun _ => sp_rn70 h e hk 0 hq, fun _ => N 0⟩, fun _ => N 1⟩)
theorem sp_readNumber {s : zS} (h : xIO s) {Q : Int → zS → Prop} (hq : ∀ r s', zSm s s' [113] [] → xIO s' → Q r s') : wr_readNumber s Q := by
  obtain ⟨k, e, hk, g1, g2, g3, g4, g5⟩ := h.k114
  unfold wr_readNumber
  rw [e]
  refine sp_peek h (fun r hr => ?_)
  refine ffm_isBlank (sp_isBlank s r) ?_
  rintro r2 s3 - ⟨rfl, d1, d2⟩
  refine ⟨fun _ => sp_rn38 h e hk hq, fun c => ?_⟩
  obtain ⟨k2, q1, q2, q3⟩ := hr (d2 (d1.elim (fun q => absurd q c) id))
  have ek : k2 = k := by omega
  subst ek
  have pe := g5 (za s3 113 k2) g3 q3
  rw [Int.toNat_natCast]
  have sx := h.set hk (v := za s3 110 (Int.toNat (6000 * (k2 : Int) + za s3 113 k2))) (by omega) (by omega)
  exact ⟨by omega, by omega, by omega, by omega, by omega, by omega, sp_rn38 sx e hk (fun r s' f' h' => hq r s' ((zSm.rf.pa rfl : zSm s3 _ [113] []).tr f' rfl rfl) h')⟩
/-- the vectors' rows but for one place -/
def vE (s : zS) (n h : Int) : Prop := ∀ k : Nat, (k : Int) < n → ¬ (k : Int) = h → 0 ≤ za s 107 k ∧ za s 107 k ≤ 65536 ∧ 0 ≤ za s 108 k ∧ za s 108 k ≤ 65537
theorem xIO.ve {s s' : zS} (h : xIO s) (f : zSm s s' [107, 108] [106]) (h0 : 0 ≤ zv s' 106) (h1 : zv s' 106 ≤ 100) (e : ∀ k : Nat, (k : Int) < zv s' 106 → 0 ≤ za s' 107 k ∧ za s' 107 k ≤ 65536 ∧ 0 ≤ za s' 108 k ∧ za s' 108 k ≤ 65537) : xIO s' := by
  obtain ⟨a, b, c, d, e1, g, i⟩ := h
  refine ⟨by rw [f.v 99 rfl]; exact a, ⟨h0, h1, e⟩, by rw [f.v 114 rfl]; exact c, by rw [f.v 117 rfl]; exact d, fun k hk => by rw [f.a 116 k rfl]; exact e1 k hk, fun k hk => ?_, by rw [f.v 101 rfl]; exact i⟩
  obtain ⟨g1, g2, g3, g4, g5⟩ := g k hk
  refine ⟨by rw [f.a 112 k rfl]; exact g1, by rw [f.a 112 k rfl]; exact g2, by rw [f.a 113 k rfl]; exact g3, by rw [f.a 113 k rfl, f.a 112 k rfl]; exact g4, fun p h1 h2 => ?_⟩
  rw [f.a 112 k rfl] at h2 ⊢
  rw [f.a 110 _ rfl]
  exact g5 p h1 h2
theorem sp_lv16 {Q : Int → zS → Prop} {x1 x2 x4 : Int} (h1 : 0 ≤ x1) (h2 : 0 ≤ x2) (h2b : x2 ≤ 65536) (h4 : 0 ≤ x4) (h4b : x4 ≤ 65537) {s0 : zS} (io : xIO s0) (hn : zv s0 106 < 100) (hx : x1 ≤ zv s0 106) (hq : ∀ r s', zSm s0 s' [107, 108] [106] → xIO s' → Q r s') : ∀ (m : Nat) (s : zS) (x : Int), zSm s0 s [107, 108] [] → x1 ≤ x → x ≤ zv s0 106 → x - x1 < m → vE s (zv s0 106 + 1) x → wr_layVector_16 Q m s x1 x2 x4 x := by
  intro m
  induction m with
  | zero => intro s x _ _ _ h; omega
  | succ m ih =>
    intro s x f a1 a2 a3 ve
    have e106 : zv s 106 = zv s0 106 := f.v 106 rfl
    have b := io.2.1
    unfold wr_layVector_16
    unfold wr_layVector_16B
    rw [e106]
    refine ⟨fun c => ⟨by omega, by omega, ⟨by omega, by omega⟩, by omega, by omega, ⟨by omega, by omega⟩, ⟨by omega, by omega⟩, ?_⟩, fun c => ⟨by omega, by omega, by omega, by omega, by omega, by omega, by omega, by omega, ⟨by omega, by omega⟩, ?_⟩⟩
    · have ex : x = x1 := by omega
      subst ex
      refine hq _ _ (((zSm.rf.tr f rfl rfl : zSm s0 s [107, 108] [106]).pa rfl |>.pa rfl).pv rfl) (io.ve (((zSm.rf.tr f rfl rfl : zSm s0 s [107, 108] [106]).pa rfl |>.pa rfl).pv rfl) (by show 0 ≤ zv s0 106 + 1; omega) (by show zv s0 106 + 1 ≤ 100; omega) (fun k hk => ?_))
      have hk2 : (k : Int) < zv s0 106 + 1 := hk
      simp only [za_pv, za_pa, reduceIte, Nat.reduceEqDiff]
      by_cases e : k = x.toNat
      · rw [if_pos e, if_pos e]
        omega
      · rw [if_neg e, if_neg e]
        exact ve k hk2 (by omega)
    · refine ih _ (x + (-1)) ((f.pa rfl).pa rfl) (by omega) (by omega) (by omega) (fun k hk hne => ?_)
      simp only [za_pa, reduceIte, Nat.reduceEqDiff]
      by_cases e : k = x.toNat
      · rw [if_pos e, if_pos e]
        exact ve (x - 1).toNat (by omega) (by omega)
      · rw [if_neg e, if_neg e]
        exact ve k hk (by omega)
theorem sp_layVector {s : zS} (io : xIO s) {x1 x2 x4 x5 : Int} (h1 : 0 ≤ x1) (hx : x1 ≤ zv s 106) (hn : zv s 106 < 100) (h2b : x2 ≤ 65536) (h4 : 0 ≤ x4) (h4b : x2 + x4 ≤ 65536) (h5 : 0 ≤ x5) {Q : Int → zS → Prop} (hq : ∀ r s', zSm s s' [107, 108] [106] → xIO s' → Q r s') : wr_layVector s x1 x2 x4 x5 Q := by
  have b := io.2.1
  unfold wr_layVector
  refine ⟨fun c => ⟨(zv s 106).toNat + 1, sp_lv16 h1 (by omega) h2b h4 (by omega) io hn hx hq _ s _ zSm.rf hx (Int.le_refl _) (by omega) (fun k hk hne => b.2.2 k (by omega))⟩, fun _ => hq _ s zSm.rf io⟩
theorem sp_gv46 {s : zS} (io : xIO s) (hn : zv s 106 < 100) {x2 x4 : Int} (h2 : 0 ≤ x2) (h2b : x2 ≤ 2147483648) (h4 : 0 ≤ x4) {Q : Int → zS → Prop} (hq : ∀ r s', zSm s s' [107, 108] [106] → xIO s' → Q r s') : ∀ (m : Nat) (x5 x7 : Int), 0 ≤ x5 → x5 ≤ 65536 → 0 ≤ x7 → x7 ≤ zv s 106 → zv s 106 - x7 < m → wr_getVector_46 Q m s x2 x4 x5 x7 := by
  have b := io.2.1
  intro m
  induction m with
  | zero => intro x5 x7 _ _ _ _ h; omega
  | succ m ih =>
    intro x5 x7 a1 a2 a3 a4 a5
    unfold wr_getVector_46
    unfold wr_getVector_46B
    refine ⟨fun _ => ⟨⟨by omega, by omega⟩, sp_layVector io b.1 (Int.le_refl _) hn (by omega) h2 (by omega) h4 hq⟩, fun c => ?_⟩
    have q := b.2.2 x7.toNat (by omega)
    exact ⟨by omega, by omega, by omega, by omega, ⟨by omega, by omega⟩, ⟨by omega, by omega⟩, fun _ => ⟨by omega, by omega, ⟨by omega, by omega⟩, ih _ _ q.1 q.2.1 (by omega) (by omega) (by omega)⟩, fun _ => sp_layVector io a3 a4 hn (by omega) h2 (by omega) h4 hq⟩
theorem sp_getVector {s : zS} {F : List Nat} (b : xBs s4 s1 s F) {r : Nat} {F1 : List Nat} (eF : F = r :: F1) (hr2 : zv s1 69 ≤ 200) (h70 : 0 ≤ za s1 70 r) {a : Int} (ha : zR a) {Q : Int → zS → Prop} (hq : ∀ r s', zSm s s' [107, 108] [106] → xIO s' → Q r s') : wr_getVector s a Q := by
  subst eF
  obtain ⟨c1, c2, c3, c4, io⟩ := b
  obtain ⟨d1, d2, d3, d4, -⟩ := c4
  have g := io.2.1
  have g99 := io.1
  obtain ⟨r0, r1⟩ := ha
  unfold wr_getVector
  rw [d1, Int.toNat_natCast, c1.2.1 70 (by decide) r]
  exact ⟨fun _ => hq _ s zSm.rf io, fun c => ⟨fun n => ⟨by omega, by omega, ⟨by omega, by omega⟩, ⟨by omega, by omega⟩, (zv s 106).toNat + 1, sp_gv46 io (by omega) (by omega) (by omega) (by omega) hq _ _ 0 g99.1 g99.2 (by omega) g.1 (by omega)⟩, fun _ => hq _ s zSm.rf io⟩⟩
theorem sp_fv55 {Q : zS → Prop} {s0 : zS} (io : xIO s0) {n : Int} (hn0 : 0 ≤ n) (hn : n < 100) (hq : ∀ s', zSm s0 s' [107, 108] [106] → xIO s' → Q s') : ∀ (m : Nat) (s : zS) (x : Int), zSm s0 s [107, 108] [106] → zv s 106 = n → 0 ≤ x → x ≤ n → n - x < m → vE s (n + 1) x → wr_freeVector_55 Q m s x := by
  intro m
  induction m with
  | zero => intro s x _ _ _ _ h; omega
  | succ m ih =>
    intro s x f e a1 a2 a3 ve
    unfold wr_freeVector_55
    unfold wr_freeVector_55B
    rw [e]
    refine ⟨fun c => hq s f (io.ve f (by omega) (by omega) (fun k hk => ve k (by omega) (by omega))), fun c => ⟨by omega, by omega, by omega, by omega, by omega, by omega, by omega, by omega, ?_⟩⟩
    refine ih _ (x + 1) ((f.pa rfl).pa rfl) e (by omega) (by omega) (by omega) (fun k hk hne => ?_)
    simp only [za_pa, reduceIte, Nat.reduceEqDiff]
    by_cases ek : k = x.toNat
    · rw [if_pos ek, if_pos ek]
      exact ve (x + 1).toNat (by omega) (by omega)
    · rw [if_neg ek, if_neg ek]
      exact ve k hk (by omega)
theorem sp_freeVector {s : zS} (io : xIO s) (a : Int) {Q : zS → Prop} (hq : ∀ s', zSm s s' [107, 108] [102, 103, 104, 106] → xIO s' → Q s') : wr_freeVector s a Q := by
  have b := io.2.1
  have er : wr_err s 2 Q := sp_err s 2 (fun s' f _ => hq s' (zSm.rf.tr f rfl rfl) (io.sm f rfl rfl))
  have G : ∀ x : Int, 0 ≤ x → x < zv s 106 → ∃ n, wr_freeVector_55 Q n (zpv s 106 (zv s 106 - 1)) x := fun x h0 h1 => ⟨100, sp_fv55 io (n := zv s 106 - 1) (by omega) (by omega) (fun s' f h' => hq s' (zSm.rf.tr f rfl rfl) h') 100 _ x (zSm.rf.pv rfl) rfl h0 (by omega) (by omega) (fun k hk _ => b.2.2 k (by omega))⟩
  have L : ∀ (m : Nat) (x : Int), 0 ≤ x → x ≤ zv s 106 → zv s 106 - x < m → wr_freeVector_7 Q m s a x := by
    intro m
    induction m with
    | zero => intro x _ _ h; omega
    | succ m ih =>
      intro x h0 h1 h2
      unfold wr_freeVector_7
      unfold wr_freeVector_7B
      exact ⟨fun c => ⟨fun n => absurd (by omega) n, fun _ => er⟩, fun c => ⟨by omega, by omega, fun _ => ⟨fun _ => ⟨⟨by omega, by omega⟩, G x h0 (by omega)⟩, fun _ => er⟩, fun _ => ⟨⟨by omega, by omega⟩, ih _ (by omega) (by omega) (by omega)⟩⟩⟩
  unfold wr_freeVector
  exact ⟨fun _ => ⟨(zv s 106).toNat + 1, L _ 0 (by omega) b.1 (by omega)⟩, fun _ => hq s zSm.rf io⟩
end RUN
