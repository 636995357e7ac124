/-! THE RUN: JUMPS -/
section RUN
variable {s4 s1 : zS} {kids : Nat → List Nat} {up sz : Nat → Nat} {root N : Nat}
/-- the top's place -/
theorem xTk.top {s : zS} {t x : Nat} {a : Int} {L : List xT} (h : xTk s ((t, x, a) :: L)) : zv s 87 = (L.length : Int) + 1 ∧ Int.toNat (zv s 87 - 1) = L.length ∧ za s 88 L.length = t ∧ za s 89 L.length = x ∧ za s 90 L.length = a := by
  have e87 : zv s 87 = (L.length : Int) + 1 := by rw [h.2]; show ((L.length + 1 : Nat) : Int) = _; omega
  exact ⟨e87, by omega, h.1.1.1, h.1.1.2.1, h.1.1.2.2⟩
theorem xTk.dr {s : zS} {g : xT} {L : List xT} (h : xTk s (g :: L)) : xTk (zpv s 87 (zv s 87 - 1)) L := h.pop (zSm.rf.pv rfl) rfl
/-- loops and sections leave the values -/
theorem xOk.pas {t x : Nat} {a : Int} {L : List xT} {v : Nat} {F : List Nat} (h : xOk s4 s1 kids up sz root N ((t, x, a) :: L) v F) (ht : t = 15 ∨ t = 17) : xOk s4 s1 kids up sz root N L v F := by
  obtain ⟨v', F', en, o⟩ := h
  rcases ht with rfl | rfl
  · obtain ⟨rfl, rfl, -⟩ := en
    exact o
  · obtain ⟨rfl, rfl, -⟩ := en
    exact o
theorem xW_tl (g : xT) (L : List xT) : xW kids up sz L ≤ xW kids up sz (g :: L) := by
  show _ ≤ _ + _
  exact Nat.le_add_left _ _
/-- down to a loop, which goes too -/
theorem sp_p253 {v : Nat} {F : List Nat} {Q : zS → Prop} : ∀ (L : List xT) (s : zS), xTk s L → L.length < 600000 → hLo L → xOk s4 s1 kids up sz root N L v F → (∀ s' L', xTk s' L' → zSm s s' [] [87] → xOk s4 s1 kids up sz root N L' v F → xW kids up sz L' ≤ xW kids up sz L → Q s') → wr_perform_253 Q (L.length + 1) s
  | [], _, _, _, h, _, _ => absurd h id
  | (t, x, a) :: L, s, k, hl, h, o, hq => by
    obtain ⟨e87, et, e88, e89, e90⟩ := k.top
    have hl2 : L.length + 1 < 600000 := hl
    show wr_perform_253 Q (L.length + 1 + 1) s
    unfold wr_perform_253
    unfold wr_perform_253B
    rw [et, e88]
    have k2 := k.dr
    have f2 : zSm s (zpv s 87 (zv s 87 - 1)) [] [87] := zSm.rf.pv rfl
    generalize zpv s 87 (zv s 87 - 1) = s2 at k2 f2
    have ht : t = 15 ∨ t = 17 ∧ hLo L := h
    refine ⟨by omega, by omega, fun c => hq s2 L k2 f2 (o.pas (Or.inl (by omega))) (xW_tl _ _), fun c => ?_⟩
    rcases ht with ht | ⟨ht, hL⟩
    · exact absurd (by omega) c
    · exact sp_p253 L s2 k2 (by omega) hL (o.pas (Or.inr ht)) (fun s' L' k' f' o' w' => hq s' L' k' (f2.tr f' rfl rfl) o' (Nat.le_trans w' (xW_tl _ _)))
/-- down to a loop -/
theorem sp_p301 {v : Nat} {F : List Nat} {Q : zS → Prop} : ∀ (L : List xT) (s : zS), xTk s L → L.length < 600000 → hLo L → xOk s4 s1 kids up sz root N L v F → (∀ s' L', xTk s' L' → zSm s s' [] [87] → xOk s4 s1 kids up sz root N L' v F → xW kids up sz L' ≤ xW kids up sz L → Q s') → wr_perform_301 Q (L.length + 1) s
  | [], _, _, _, h, _, _ => absurd h id
  | (t, x, a) :: L, s, k, hl, h, o, hq => by
    obtain ⟨e87, et, e88, e89, e90⟩ := k.top
    have hl2 : L.length + 1 < 600000 := hl
    show wr_perform_301 Q (L.length + 1 + 1) s
    unfold wr_perform_301
    unfold wr_perform_301B
    rw [et, e88]
    have k2 := k.dr
    have f2 : zSm s (zpv s 87 (zv s 87 - 1)) [] [87] := zSm.rf.pv rfl
    generalize zpv s 87 (zv s 87 - 1) = s2 at k2 f2
    have ht : t = 15 ∨ t = 17 ∧ hLo L := h
    refine ⟨by omega, by omega, fun c => hq s _ k zSm.rf o (Nat.le_refl _), fun c => ?_⟩
    rcases ht with ht | ⟨ht, hL⟩
    · exact absurd (by omega) c
    · exact sp_p301 L s2 k2 (by omega) hL (o.pas (Or.inr ht)) (fun s' L' k' f' o' w' => hq s' L' k' (f2.tr f' rfl rfl) o' (Nat.le_trans w' (xW_tl _ _)))
/-- down to a SWITCH's section, which goes too -/
theorem sp_p336 {v : Nat} {F : List Nat} {Q : zS → Prop} (p : xP s4 s1 kids up sz root N) (q : Nat) (hq28 : za s4 25 q = 28) : ∀ (L : List xT) (s : zS), xS s4 s1 s → xTk s L → L.length < 600000 → hSe q L → xOk s4 s1 kids up sz root N L v F → (∀ s' L', xTk s' L' → zSm s s' [] [87] → xOk s4 s1 kids up sz root N L' v F → xW kids up sz L' ≤ xW kids up sz L → Q s') → wr_perform_336 Q (L.length + 1) s
  | [], _, _, _, _, h, _, _ => absurd h id
  | (t, x, a) :: L, s, hS, k, hl, h, o, hq => by
    obtain ⟨e87, et, e88, e89, e90⟩ := k.top
    have hl2 : L.length + 1 < 600000 := hl
    show wr_perform_336 Q (L.length + 1 + 1) s
    unfold wr_perform_336
    unfold wr_perform_336B
    rw [et, e88, e89, Int.toNat_natCast, hS.k x]
    have k2 := k.dr
    have f2 : zSm s (zpv s 87 (zv s 87 - 1)) [] [87] := zSm.rf.pv rfl
    generalize zpv s 87 (zv s 87 - 1) = s2 at k2 f2
    have ht : (t = 17 ∧ x = q) ∨ (t = 15 ∨ t = 17) ∧ hSe q L := h
    have go : hSe q L → (t = 15 ∨ t = 17) → wr_perform_336 Q (L.length + 1) s2 := fun hL ht2 => sp_p336 p q hq28 L s2 (hS.sm f2 rfl rfl) k2 (by omega) hL (o.pas ht2) (fun s' L' k' f' o' w' => hq s' L' k' (f2.tr f' rfl rfl) o' (Nat.le_trans w' (xW_tl _ _)))
    refine ⟨by omega, by omega, fun c => ?_, fun c => ?_⟩
    · rcases ht with ⟨ht, -⟩ | ⟨ht, hL⟩
      · exact absurd (by omega) c
      · exact go hL ht
    · have t17 : t = 17 := by omega
      subst t17
      have xN : x < N := by
        obtain ⟨v', F', en, -⟩ := o
        obtain ⟨-, -, g, -⟩ := en
        exact (xI.n p g).1
      have hN := p.hN
      refine ⟨by omega, by omega, by omega, by omega, fun _ => hq s2 L k2 f2 (o.pas (Or.inr rfl)) (xW_tl _ _), fun c2 => ?_⟩
      rcases ht with ⟨-, ht⟩ | ⟨ht, hL⟩
      · exact absurd (by rw [ht]; exact hq28) c2
      · exact go hL (Or.inr rfl)
theorem xEn.F {t x : Nat} {a : Int} {L : List xT} {v v' : Nat} {F F' : List Nat} (h : xEn s4 s1 kids up sz root N t x a L v F v' F') : t = 18 ∨ F' = F := by
  match t, h with
  | 1, h => exact Or.inr h.1
  | 2, h => exact Or.inr h.1
  | 3, h => exact Or.inr h.1
  | 4, h => exact Or.inr h.1
  | 5, h => exact Or.inr h.1
  | 6, h => exact Or.inr h.1
  | 7, h => exact Or.inr h.1
  | 8, h => exact Or.inr h.1
  | 9, h => exact Or.inr h.1
  | 10, h => exact Or.inr h.1
  | 11, h => exact Or.inr h.1
  | 12, h => exact Or.inr h.1
  | 13, h => exact Or.inr h.1
  | 14, h => exact Or.inr h.1
  | 15, h => exact Or.inr h.1
  | 16, h => exact Or.inr h.1
  | 17, h => exact Or.inr h.1
  | 18, _ => exact Or.inl rfl
  | 19, h => exact Or.inr h.1
  | 20, h => exact Or.inr h.1
  | 21, h => exact Or.inr h.1
  | 22, h => exact Or.inr h.1
  | 23, h => exact Or.inr h.1
/-- down to the routine's return; its values are as they were -/
theorem sp_p405 {F : List Nat} {Q : zS → Prop} (hF : ¬ F = []) (h20 : ∀ r F1, F = r :: F1 → 20 ≤ za s4 25 (bo s1 r)) : ∀ (L : List xT) (w : Nat) (s : zS), xTk s L → L.length < 600000 → xOk s4 s1 kids up sz root N L w F → (∀ s' L' v, xTk s' L' → zSm s s' [] [87] → (∀ u, xOk s4 s1 kids up sz root N L' u F) → xW kids up sz L' ≤ xW kids up sz L → (v : Nat) = 0 → Q s') → wr_perform_405 Q (L.length + 1) s
  | [], _, _, _, _, o, _ => absurd o.2 hF
  | (t, x, a) :: L, w, s, k, hl, o, hq => by
    obtain ⟨e87, et, e88, e89, e90⟩ := k.top
    have hl2 : L.length + 1 < 600000 := hl
    show wr_perform_405 Q (L.length + 1 + 1) s
    unfold wr_perform_405
    unfold wr_perform_405B
    rw [et, e88]
    have k2 := k.dr
    have f2 : zSm s (zpv s 87 (zv s 87 - 1)) [] [87] := zSm.rf.pv rfl
    generalize zpv s 87 (zv s 87 - 1) = s2 at k2 f2
    obtain ⟨v', F', en, o2⟩ := o
    refine ⟨by omega, by omega, fun c => ?_, fun c => ?_⟩
    · have t18 : t = 18 := by omega
      subst t18
      refine hq s _ 0 k zSm.rf (fun u => ⟨v', F', ?_, o2⟩) (Nat.le_refl _) rfl
      obtain ⟨⟨r, e, hr, hx⟩, h0, ha, hB⟩ := en
      have := h20 r F' e
      refine ⟨⟨r, e, hr, Or.inr ⟨this, ?_⟩⟩, h0, ha, hB⟩
      rcases hx with ⟨q, -⟩ | ⟨-, q⟩
      · omega
      · exact q
    · rcases en.F with q | q
      · exact absurd (by omega) c
      · subst q
        exact sp_p405 hF h20 L v' s2 k2 (by omega) o2 (fun s' L' v k' f' o' w' => hq s' L' v k' (f2.tr f' rfl rfl) o' (Nat.le_trans w' (xW_tl _ _)))
end RUN
