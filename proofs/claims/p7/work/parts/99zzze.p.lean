/-! THE RUN: RESULTIS -/
section RUN
variable {s4 s1 : zS} {kids : Nat → List Nat} {up sz : Nat → Nat} {root N : Nat}
theorem sp_d557 {w : Nat} {F : List Nat} {Q : zS → Prop} (r : Int) (hb : xB F ≤ 270000) : ∀ (L : List xT) (s : zS), xTk s L → L.length < 600000 → hVa L → xOk s4 s1 kids up sz root N L w F → (∀ s' L', zSm s s' [92] [87, 91] → xTk s' L' → zv s' 91 = ((w + 1 : Nat) : Int) → xOk s4 s1 kids up sz root N L' (w + 1) F → xW kids up sz L' ≤ xW kids up sz L → Q s') → wr_doNext_557 Q (L.length + 1) s r
  | [], _, _, _, h, _, _ => absurd h id
  | (t, x, a) :: L, s, k, hl, h, o, hq => by
    obtain ⟨e87, et, e88, e89, e90⟩ := k.top
    have hl2 : L.length + 1 < 600000 := hl
    show wr_doNext_557 Q (L.length + 1 + 1) s r
    unfold wr_doNext_557
    unfold wr_doNext_557B
    rw [et, e88, e90]
    have ht : t = 8 ∨ (t = 15 ∨ t = 17) ∧ hVa L := h
    refine ⟨by omega, by omega, fun c => ⟨by omega, by omega, ?_⟩, fun c => ?_⟩
    · have t8 : t = 8 := by omega
      subst t8
      obtain ⟨v', F', en, o2⟩ := o
      have en2 : xEn s4 s1 kids up sz root N 8 x a L w F v' F' := en
      obtain ⟨rfl, rfl, ha, hB⟩ := en2
      have f2 : zSm s (zpv (zpv s 91 a) 87 (zv s 87 - 1)) [92] [87, 91] := ((zSm.rf.pv rfl : zSm s (zpv s 91 a) [92] [87, 91])).pv rfl
      have g87 : zv (zpv (zpv s 91 a) 87 (zv s 87 - 1)) 87 = zv s 87 - 1 := rfl
      have g91 : zv (zpv (zpv s 91 a) 87 (zv s 87 - 1)) 91 = a := rfl
      generalize zpv (zpv s 91 a) 87 (zv s 87 - 1) = s2 at f2 g87 g91
      have k2 : xTk s2 L := ⟨k.1.2.fr (fun j hj i _ => f2.a j i (by rcases hj with rfl | rfl | rfl <;> rfl)), by rw [g87]; omega⟩
      exact sp_push s2 r (v := w) (by omega) (by omega) (fun s3 f3 h3 => hq s3 L (f2.tr f3 rfl rfl) (k2.sm f3 rfl rfl) h3 o2 (xW_tl _ _))
    · rcases ht with ht | ⟨ht, hL⟩
      · exact absurd (by omega) c
      · have k2 := k.dr
        have f2 : zSm s (zpv s 87 (zv s 87 - 1)) [92] [87, 91] := zSm.rf.pv rfl
        generalize zpv s 87 (zv s 87 - 1) = s2 at k2 f2
        exact sp_d557 r hb L s2 k2 (by omega) hL (o.pas ht) (fun s' L' f' k' v' o' w' => hq s' L' (f2.tr f' rfl rfl) k' v' o' (Nat.le_trans w' (xW_tl _ _)))
theorem xs_22 {s : zS} {x : Nat} {a : Int} {L : List xT} {v : Nat} {F : List Nat} (h : xSt s4 s1 kids up sz root N s ((22, x, a) :: L) v F) : wr_doNext s (xPost s4 s1 kids up sz root N (xMu kids up sz s ((22, x, a) :: L))) := by
  obtain ⟨b, k, hv, w, F', ⟨rfl, rfl, hV, hB⟩, o⟩ := h.op
  have hb := xB.le b.2.2.1
  refine dn_22 k (by omega) (fun s2 k2 f2 => ?_)
  refine sp_pop s2 (v := w) (by rw [f2.v 91 rfl]; exact hv) (by omega) (fun r s3 f3 h3 => ⟨L.length + 1, ?_⟩)
  have k3 := k2.sm f3 rfl rfl
  refine sp_d557 r hb L s3 k3 (by omega) hV o (fun s' L' f' k' v' o' w' => ?_)
  have F5 : zSm s s' [92] [87, 91] := ((zSm.rf.tr f2 rfl rfl : zSm s s2 [92] [87, 91]).tr f3 rfl rfl).tr f' rfl rfl
  refine xPost.st (b.sm F5 rfl rfl rfl) k' v' o' ?_
  unfold xMu
  rw [xW.c, F5.v 101 rfl]
  show _ < _ + (1 + _)
  omega
end RUN
