/-! THE RUN: THE COMMANDS THAT JUMP -/
section RUN
variable {s4 s1 : zS} {kids : Nat → List Nat} {up sz : Nat → Nat} {root N : Nat}
theorem hSe.i {q v : Nat} {F : List Nat} : ∀ {L : List xT}, hSe q L → xOk s4 s1 kids up sz root N L v F → xI s4 s1 kids F q
  | [], h, _ => absurd h id
  | (t, x, a) :: L, h, o => by
    have ht : (t = 17 ∧ x = q) ∨ (t = 15 ∨ t = 17) ∧ hSe q L := h
    rcases ht with ⟨rfl, rfl⟩ | ⟨ht, hL⟩
    · obtain ⟨v', F', en, -⟩ := o
      obtain ⟨-, -, g, -⟩ := en
      exact g
    · exact hL.i (o.pas ht)
/-- down to a section, which goes on at a label's part -/
theorem sp_p472 {v : Nat} {F : List Nat} {Q : zS → Prop} (q l : Nat) (hl1 : l < 26000) (hq1 : za s1 30 l = (q : Int)) (hl2 : l ∈ kids q) (hl3 : za s4 25 l = 41) : ∀ (L : List xT) (s : zS), xS s4 s1 s → xTk s L → L.length < 600000 → hSe q L → xOk s4 s1 kids up sz root N L v F → (∀ s' L', xTk s' L' → zSm s s' [90] [87] → xOk s4 s1 kids up sz root N L' v F → xW kids up sz L' ≤ xW kids up sz L + 70001 * aft kids up sz l + 5 → Q s') → wr_perform_472 Q (L.length + 1) s l
  | [], _, _, _, _, h, _, _ => absurd h id
  | (t, x, a) :: L, s, hS, k, hl, h, o, hq => by
    obtain ⟨e87, et, e88, e89, e90⟩ := k.top
    have hl4 : L.length + 1 < 600000 := hl
    show wr_perform_472 Q (L.length + 1 + 1) s l
    unfold wr_perform_472
    unfold wr_perform_472B
    have e30 : za s 30 l = (q : Int) := by rw [hS.2.1 30 (by decide) l]; exact hq1
    rw [et, e88, e89, Int.toNat_natCast, e30]
    have k2 := k.dr
    have f2 : zSm s (zpv s 87 (zv s 87 - 1)) [] [87] := zSm.rf.pv rfl
    generalize zpv s 87 (zv s 87 - 1) = s2 at k2 f2
    have ht : (t = 17 ∧ x = q) ∨ (t = 15 ∨ t = 17) ∧ hSe q L := h
    have go : hSe q L → (t = 15 ∨ t = 17) → wr_perform_472 Q (L.length + 1) s2 l := fun hL ht2 => sp_p472 q l hl1 hq1 hl2 hl3 L s2 (hS.sm f2 rfl rfl) k2 (by omega) hL (o.pas ht2) (fun s' L' k' f' o' w' => hq s' L' k' ((zSm.rf.tr f2 rfl rfl : zSm s s2 [90] [87]).tr f' rfl rfl) o' (by have := xW_tl (kids := kids) (up := up) (sz := sz) (t, x, a) L; omega))
    refine ⟨by omega, by omega, fun c => ?_, fun c => ?_⟩
    · rcases ht with ⟨ht, -⟩ | ⟨ht, hL⟩
      · exact absurd (by omega) c
      · exact go hL ht
    · have t17 : t = 17 := by omega
      subst t17
      refine ⟨by omega, by omega, by omega, by omega, fun ex => ⟨by omega, by omega, ?_⟩, fun ne => ?_⟩
      · have exq : x = q := by omega
        subst exq
        refine hq _ ((17, x, (l : Int)) :: L) ⟨⟨⟨?_, ?_, ?_⟩, k.1.2.fr (fun j hj i hi => ?_)⟩, ?_⟩ (zSm.rf.pa rfl) ?_ ?_
        · rw [za_pa, if_neg (by decide)]; exact e88
        · rw [za_pa, if_neg (by decide)]; exact e89
        · rw [za_pa, if_pos rfl, if_pos rfl]
        · have hi2 : ¬ i = L.length := by omega
          rcases hj with rfl | rfl | rfl <;> simp only [za_pa, reduceIte, Nat.reduceEqDiff, hi2]
        · show zv s 87 = _
          rw [k.2]
          rfl
        · obtain ⟨v', F', en, o2⟩ := o
          obtain ⟨g1, g2, g3, g4, g5, g6, g7⟩ := en
          exact ⟨v', F', ⟨g1, g2, g3, g4, Or.inr ⟨l, hl2, rfl, Or.inl hl3⟩, g6, g7⟩, o2⟩
        · have h1 : xw kids up sz 17 x (l : Int) = 70001 * aft kids up sz l + 5 := by
            show (if (l : Int) < 0 then 1 else 70001 * aft kids up sz (l : Int).toNat + 5) = _
            rw [if_neg (by omega), Int.toNat_natCast]
          rw [xW.c, xW.c, h1]
          omega
      · rcases ht with ⟨-, ht⟩ | ⟨ht, hL⟩
        · exact absurd (by rw [ht]) ne
        · exact go hL (Or.inr rfl)
theorem xs_jp (p : xP s4 s1 kids up sz root N) {s : zS} {x : Nat} {a : Int} {L : List xT} {v : Nat} {F : List Nat} (h : xSt s4 s1 kids up sz root N s ((10, x, a) :: L) v F) (hk : za s4 25 x = 29 ∨ za s4 25 x = 30 ∨ za s4 25 x = 31 ∨ za s4 25 x = 32 ∨ za s4 25 x = 35) : wr_doNext s (xPost s4 s1 kids up sz root N (xMu kids up sz s ((10, x, a) :: L))) := by
  have b := h.op.1
  have hf := h.fu
  refine h.c p (fun g xN hN xr hB hb z1 zN hX o s2 b2 k2 f2 hv2 e25 => ?_)
  have g0 : 0 ≤ zv s2 101 := by rw [f2.v 101 rfl]; exact hf.1
  have g1 : zv s2 101 ≤ 100000 := by rw [f2.v 101 rfl]; exact hf.2
  have E : ∀ s', zSm s2 s' [] [102, 103, 104] → xEd s' → xPost s4 s1 kids up sz root N (xMu kids up sz s ((10, x, a) :: L)) s' := fun s' f e => xPost.ed b2 f e rfl rfl rfl
  obtain ⟨-, -, r, F1, eF, hr, fa, -, -⟩ := xI.n p g
  have D : ∀ (s46 s' : zS) (L' : List xT) (n : Nat), zSm s2 s46 [] [101] → zv s46 101 = zv s2 101 - 1 → 0 ≤ zv s46 101 → xTk s' L' → zSm s46 s' [90] [87] → xOk s4 s1 kids up sz root N L' v F → xW kids up sz L' ≤ xW kids up sz L + 300000000 → xPost s4 s1 kids up sz root N (xMu kids up sz s ((10, x, a) :: L)) s' := fun s46 s' L' n f e1 e2 k' f' o' w' => by
    refine xPost.bu b (((zSm.rf.tr f2 rfl rfl : zSm s s2 [90] [87, 101]).tr f rfl rfl).tr f' rfl rfl) rfl rfl (by rw [f'.v 101 rfl, e1, f2.v 101 rfl]) (by rw [f'.v 101 rfl]; exact e2) k' (v' := v) (by rw [f'.v 91 rfl, f.v 91 rfl]; exact hv2) o' ?_
    omega
  have up1 : ∀ (s46 s' : zS), zSm s46 s' [] [87] → zSm s46 s' [90] [87] := fun s46 s' f => zSm.rf.tr f rfl rfl
  rcases hk with hk | hk | hk | hk | hk
  · exact pf_29 (by omega) (by rw [e25]; exact hk) g0 g1 E (fun s46 f e1 e2 => ⟨L.length + 1, sp_p253 (s4 := s4) (s1 := s1) (kids := kids) (up := up) (sz := sz) (root := root) (N := N) L s46 (k2.sm f rfl rfl) (by omega) (hX.1 (fa.2.2.2.2.2.1 (Or.inl hk))) o (fun s' L' k' f' o' w' => D s46 s' L' 0 f e1 e2 k' (up1 _ _ f') o' (by omega))⟩)
  · exact pf_30 (by omega) (by rw [e25]; exact hk) g0 g1 E (fun s46 f e1 e2 => ⟨L.length + 1, sp_p301 (s4 := s4) (s1 := s1) (kids := kids) (up := up) (sz := sz) (root := root) (N := N) L s46 (k2.sm f rfl rfl) (by omega) (hX.1 (fa.2.2.2.2.2.1 (Or.inr hk))) o (fun s' L' k' f' o' w' => D s46 s' L' 0 f e1 e2 k' (up1 _ _ f') o' (by omega))⟩)
  · obtain ⟨q, hq, hq28⟩ := fa.2.2.2.2.2.2.1 hk
    exact pf_31 (by omega) (by rw [e25]; exact hk) g0 g1 E (fun s46 f e1 e2 => ⟨L.length + 1, sp_p336 p q hq28 L s46 (b2.1.sm f rfl rfl) (k2.sm f rfl rfl) (by omega) (hX.2.2 q hq) o (fun s' L' k' f' o' w' => D s46 s' L' 0 f e1 e2 k' (up1 _ _ f') o' (by omega))⟩)
  · have h20 : ∀ r2 F2, F = r2 :: F2 → 20 ≤ za s4 25 (bo s1 r2) := fun r2 F2 e => by
      obtain ⟨r3, F3, e3, hr3, q3⟩ := g
      rw [e] at e3
      obtain ⟨rfl, rfl⟩ := List.cons.inj e3
      obtain ⟨y, y1, y2⟩ := xI.cx p hr3 q3
      rcases fa.2.2.2.2.2.2.2.1 hk with q | ⟨z, q1, q2⟩
      · omega
      · have : z = y := by omega
        rw [y2, ← this]
        exact q2
    exact pf_32 (by omega) (by rw [e25]; exact hk) g0 g1 E (fun s46 f e1 e2 => ⟨L.length + 1, sp_p405 (sz := sz) (up := up) (root := root) (N := N) (by rw [eF]; exact List.cons_ne_nil _ _) h20 L v s46 (k2.sm f rfl rfl) (by omega) o (fun s' L' w k' f' o' w' _ => D s46 s' L' 0 f e1 e2 k' (up1 _ _ f') (o' v) (by omega))⟩)
  · obtain ⟨c, q, q1, ⟨q2, q3⟩, q4⟩ := fa.2.2.2.2.2.2.2.2.2.1 hk
    have hS := hX.2.2 q q4
    have gq := hS.i o
    obtain ⟨qN, qr, -⟩ := xI.n p gq
    obtain ⟨cN, cu, -⟩ := p.h.kd q qN c q3
    have qk : ([5, 27, 43, 50, 51, 54, 56, 59] : List Int).contains (za s4 25 q) = false := by
      have : ∀ (L : List xT) (w : Nat), hSe q L → xOk s4 s1 kids up sz root N L w F → za s4 25 q = 28 ∨ za s4 25 q = 36 := by
        intro L
        induction L with
        | nil => intro w h _; exact absurd h id
        | cons t L ih =>
          intro w h o
          obtain ⟨t, y, b⟩ := t
          have ht : (t = 17 ∧ y = q) ∨ (t = 15 ∨ t = 17) ∧ hSe q L := h
          rcases ht with ⟨rfl, rfl⟩ | ⟨ht, hL⟩
          · obtain ⟨v', F', en, -⟩ := o
            obtain ⟨-, -, -, g4, -⟩ := en
            exact g4
          · exact ih w hL (o.pas ht)
      rcases this L v hS o with e | e <;> rw [e] <;> rfl
    have gc : xI s4 s1 kids F c := gq.kid (by rw [kr_eq qk]; exact q3)
    obtain ⟨-, cr, r5, F5, -, -, fc, -, -⟩ := xI.n p gc
    have f41 := fc.2.2.2.2.2.2.2.2.2.2.1 q2
    rw [cu] at f41
    have za1 : aft kids up sz c ≤ 2700 := by
      obtain ⟨pre, post, ec⟩ := List.append_of_mem q3
      rw [aft_cut (f := sz) ec cu (p.h.kn q qN)]
      have zq := p.h.ss q qN
      rw [ec, List.map_append, List.sum_append, List.map_cons, List.sum_cons] at zq
      have := p.h.szr qr
      omega
    refine pf_35 (by omega) (by rw [e25]; exact hk) g0 g1 E (fun s46 f e1 e2 => ⟨by omega, by omega, L.length + 1, ?_⟩)
    have e31 : za s46 31 x = (c : Int) := by rw [(b2.1.sm f rfl rfl).2.1 31 (by decide) x]; exact q1
    rw [e31]
    exact sp_p472 (sz := sz) (up := up) (root := root) (N := N) q c (by omega) f41 q3 q2 L s46 (b2.1.sm f rfl rfl) (k2.sm f rfl rfl) (by omega) hS o (fun s' L' k' f' o' w' => D s46 s' L' 0 f e1 e2 k' f' o' (by omega))
end RUN
