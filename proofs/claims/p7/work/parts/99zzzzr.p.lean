/-! THE CLASS'S CODER: WHAT IS BELOW -/
theorem vRm.w {A : cS} {C G W : Int} (R : vRm A C G W) : W ≤ 2990 := by
  unfold vRm at R
  omega
theorem vG.b27 {A : cS} {C G W : Int} (R : vRm A C G W) (hW : 0 ≤ W) : yz A 27 ≤ 3000 := by
  unfold vRm at R
  omega
theorem cs_cclose {A : cS} (g : vG A) {Q : cS → Prop} (hq : ∀ A', ySm A A' [27, 28, 29, 30, 31, 32] [37] → vX A A' 0 0 0 0 0 0 0 → Q A') : wc_Scope_close A Q := by
  obtain ⟨g1, g2, g3, g4, g5, g6, g7, g8⟩ := id g
  unfold wc_Scope_close wc_Scope_cut
  have f : ySm A (ypv (ypop (ycut (ycut (ycut (ycut (ycut A 27 (yv A 37)) 28 (yv A 37)) 29 (yv A 37)) 30 (yv A 37)) 31 (yv A 37)) 32) 37 (yget (ycut (ycut (ycut (ycut (ycut A 27 (yv A 37)) 28 (yv A 37)) 29 (yv A 37)) 30 (yv A 37)) 31 (yv A 37)) 32 ((yz (ycut (ycut (ycut (ycut (ycut A 27 (yv A 37)) 28 (yv A 37)) 29 (yv A 37)) 30 (yv A 37)) 31 (yv A 37)) 32 : Nat) - 1 : Int))) [27, 28, 29, 30, 31, 32] [37] := ((((((ySm.rf.cut rfl).cut rfl).cut rfl).cut rfl).cut rfl).pop rfl).pv rfl
  have z : ∀ j, 27 ≤ j → j ≤ 31 → yz (ypv (ypop (ycut (ycut (ycut (ycut (ycut A 27 (yv A 37)) 28 (yv A 37)) 29 (yv A 37)) 30 (yv A 37)) 31 (yv A 37)) 32) 37 (yget (ycut (ycut (ycut (ycut (ycut A 27 (yv A 37)) 28 (yv A 37)) 29 (yv A 37)) 30 (yv A 37)) 31 (yv A 37)) 32 ((yz (ycut (ycut (ycut (ycut (ycut A 27 (yv A 37)) 28 (yv A 37)) 29 (yv A 37)) 30 (yv A 37)) 31 (yv A 37)) 32 : Nat) - 1 : Int))) j = if 0 ≤ yv A 37 ∧ yv A 37 < (yz A j : Int) then (yv A 37).toNat else yz A j := fun j a b => by
    have q : j = 27 ∨ j = 28 ∨ j = 29 ∨ j = 30 ∨ j = 31 := by omega
    rcases q with rfl | rfl | rfl | rfl | rfl <;> rfl
  have z32 : yz (ypv (ypop (ycut (ycut (ycut (ycut (ycut A 27 (yv A 37)) 28 (yv A 37)) 29 (yv A 37)) 30 (yv A 37)) 31 (yv A 37)) 32) 37 (yget (ycut (ycut (ycut (ycut (ycut A 27 (yv A 37)) 28 (yv A 37)) 29 (yv A 37)) 30 (yv A 37)) 31 (yv A 37)) 32 ((yz (ycut (ycut (ycut (ycut (ycut A 27 (yv A 37)) 28 (yv A 37)) 29 (yv A 37)) 30 (yv A 37)) 31 (yv A 37)) 32 : Nat) - 1 : Int))) 32 = yz A 32 - 1 := rfl
  have r32 : yrg (ycut (ycut (ycut (ycut (ycut A 27 (yv A 37)) 28 (yv A 37)) 29 (yv A 37)) 30 (yv A 37)) 31 (yv A 37)) 32 0 3000 := g8.cut.cut.cut.cut.cut
  have v37 : yv (ypv (ypop (ycut (ycut (ycut (ycut (ycut A 27 (yv A 37)) 28 (yv A 37)) 29 (yv A 37)) 30 (yv A 37)) 31 (yv A 37)) 32) 37 (yget (ycut (ycut (ycut (ycut (ycut A 27 (yv A 37)) 28 (yv A 37)) 29 (yv A 37)) 30 (yv A 37)) 31 (yv A 37)) 32 ((yz (ycut (ycut (ycut (ycut (ycut A 27 (yv A 37)) 28 (yv A 37)) 29 (yv A 37)) 30 (yv A 37)) 31 (yv A 37)) 32 : Nat) - 1 : Int))) 37 = yget (ycut (ycut (ycut (ycut (ycut A 27 (yv A 37)) 28 (yv A 37)) 29 (yv A 37)) 30 (yv A 37)) 31 (yv A 37)) 32 ((yz (ycut (ycut (ycut (ycut (ycut A 27 (yv A 37)) 28 (yv A 37)) 29 (yv A 37)) 30 (yv A 37)) 31 (yv A 37)) 32 : Nat) - 1 : Int) := rfl
  have rr := r32.2.2 ((yz (ycut (ycut (ycut (ycut (ycut A 27 (yv A 37)) 28 (yv A 37)) 29 (yv A 37)) 30 (yv A 37)) 31 (yv A 37)) 32 : Nat) - 1 : Int)
  rw [← v37] at rr
  have p32 := r32.pop (k := 32)
  refine hq _ f ⟨ySm.rf.tr f rfl rfl, vT.sm f rfl, ⟨g1.k (vT.sm f rfl), ?_, g3, g4, g5, g6, rr, p32⟩, ?_⟩
  · rw [z 27 (by decide) (by decide), z 28 (by decide) (by decide), z 29 (by decide) (by decide), z 30 (by decide) (by decide), z 31 (by decide) (by decide), g2.1, g2.2.1, g2.2.2.1, g2.2.2.2]
    exact ⟨rfl, rfl, rfl, rfl⟩
  · unfold vN
    rw [z32, z 27 (by decide) (by decide), f.z 1 rfl, f.z 26 rfl, f.z 24 rfl, f.z 25 rfl, f.v 23 rfl, f.v 17 rfl, f.z 2 rfl, f.z 5 rfl]
    have q : (((if 0 ≤ yv A 37 ∧ yv A 37 < (yz A 27 : Int) then (yv A 37).toNat else yz A 27 : Nat)) : Int) ≤ ((yz A 27 : Nat) : Int) := by
      split <;> omega
    omega
theorem cs_declare1 {A : cS} (g : vG A) (b27 : yz A 27 ≤ 2999) (a b c d e : Int) {Q : Int → cS → Prop} (hq : ∀ r A', 0 ≤ r → r ≤ 3000 → ySm A A' [27, 28, 29, 30, 31] [4, 5] → vX A A' 0 0 0 0 1 0 0 → Q r A') : wc_Scope_declare A a b c d e Q := by
  have g7 := g.2.2.2.2.2.2.1
  have P : ∀ A1 x6, ySm A A1 [] [4, 5] → wc_Scope_put A1 x6 b c d e (fun r3 A4 => Q r3 A4) := fun A1 x6 f1 => by
    have x1 := vX.z g f1 rfl rfl
    obtain ⟨h1, h2, h3, h4, h5, h6, h7, h8⟩ := x1.g
    have e27 : yz A1 27 = yz A 27 := f1.z 27 rfl
    unfold wc_Scope_put
    have f : ySm A1 (yadd (yadd (yadd (yadd (yadd A1 27 x6) 28 b) 29 c) 30 d) 31 e) [27, 28, 29, 30, 31] [] := ((((ySm.rf.add rfl).add rfl).add rfl).add rfl).add rfl
    have z : ∀ j, 27 ≤ j → j ≤ 31 → yz (yadd (yadd (yadd (yadd (yadd A1 27 x6) 28 b) 29 c) 30 d) 31 e) j = yz A1 j + 1 := fun j p q => by
      have q : j = 27 ∨ j = 28 ∨ j = 29 ∨ j = 30 ∨ j = 31 := by omega
      rcases q with rfl | rfl | rfl | rfl | rfl <;> rfl
    have z27 : yz (yadd A1 27 x6) 27 = yz A1 27 + 1 := rfl
    refine ⟨by omega, by omega, by omega, by omega, by omega, ⟨by omega, by omega⟩, hq _ _ (by omega) (by omega) ((ySm.rf.tr f1 rfl rfl : ySm A A1 [27, 28, 29, 30, 31] [4, 5]).tr f rfl rfl) (x1.tr (⟨ySm.rf.tr f rfl rfl, vT.sm f rfl, ⟨h1.k (vT.sm f rfl), ?_, h3, h4, h5, h6, h7, h8.sm f rfl⟩, ?_⟩ : vX A1 _ 0 0 0 0 1 0 0))⟩
    · rw [z 27 (by decide) (by decide), z 28 (by decide) (by decide), z 29 (by decide) (by decide), z 30 (by decide) (by decide), z 31 (by decide) (by decide)]
      omega
    · unfold vN
      rw [z 27 (by decide) (by decide), f.z 1 rfl, f.z 26 rfl, f.z 24 rfl, f.z 25 rfl, f.z 32 rfl, f.v 23 rfl, f.v 17 rfl, f.z 2 rfl, f.z 5 rfl]
      omega
  have L : ∀ (m : Nat) (A1 : cS) (x6 x7 : Int), ySm A A1 [] [4, 5] → 0 ≤ x7 → x7 ≤ 3001 → 3002 - x7 < m → wc_Scope_declare_9 Q m A1 a b c d e x6 x7 := by
    intro m
    induction m with
    | zero => intro A1 x6 x7 _ _ _ h; omega
    | succ m ih =>
      intro A1 x6 x7 f1 h0 h1 h2
      have e27 : yz A1 27 = yz A 27 := f1.z 27 rfl
      unfold wc_Scope_declare_9
      unfold wc_Scope_declare_9B
      exact ⟨fun _ => P A1 _ f1, fun _ => ⟨fun _ => ⟨⟨by omega, by omega⟩, ih A1 _ _ f1 (by omega) (by omega) (by omega)⟩, fun _ => cs_blame A1 _ _ (fun A2 f2 => ⟨fun _ => ⟨⟨by omega, by omega⟩, ih A2 _ _ (f1.tr f2 rfl rfl) (by omega) (by omega) (by omega)⟩, fun _ => ⟨⟨by omega, by omega⟩, ih A2 _ _ (f1.tr f2 rfl rfl) (by omega) (by omega) (by omega)⟩⟩)⟩⟩
  unfold wc_Scope_declare
  exact ⟨3003, L _ A a _ ySm.rf g7.1 (by omega) (by omega)⟩
theorem cs_declare {A : cS} (g : vG A) {C G W : Int} (R : vRm A C G W) (hW : 1 ≤ W) (a b c d e : Int) {Q : Int → cS → Prop} (hq : ∀ r A', 0 ≤ r → r ≤ 3000 → ySm A A' [27, 28, 29, 30, 31] [4, 5] → vX A A' 0 0 0 0 1 0 0 → Q r A') : wc_Scope_declare A a b c d e Q := cs_declare1 g (by unfold vRm at R; omega) a b c d e hq
theorem vX.v {A A' : cS} {ks : List Nat} (g : vG A) (f : ySm A A' [] ks) (hk : ks.all (fun z => ([4, 5, 13, 14, 15, 16, 18, 19, 20, 21, 22, 24, 38, 39, 40] : List Nat).contains z) = true) (h19 : 0 ≤ yv A' 19 ∧ yv A' 19 ≤ 33554432) (h24 : yv A' 24 = 0 ∨ yv A' 24 = 1) : vX A A' 0 0 0 0 0 0 0 := by
  have f2 : ySm A A' [] [4, 5, 13, 14, 15, 16, 18, 19, 20, 21, 22, 24, 38, 39, 40] := ySm.rf.tr f rfl hk
  obtain ⟨g1, g2, g3, g4, g5, g6, g7, g8⟩ := g
  refine ⟨ySm.rf.tr f2 rfl rfl, vT.sm f2 rfl, ⟨g1.k (vT.sm f2 rfl), ?_, ?_, h19, ?_, h24, ?_, g8.sm f2 rfl⟩, ?_⟩
  · rw [f2.z 27 rfl, f2.z 28 rfl, f2.z 29 rfl, f2.z 30 rfl, f2.z 31 rfl]; exact g2
  · rw [f2.v 17 rfl]; exact g3
  · rw [f2.v 23 rfl]; exact g5
  · rw [f2.v 37 rfl]; exact g7
  · unfold vN
    rw [f2.z 1 rfl, f2.z 26 rfl, f2.z 24 rfl, f2.z 25 rfl, f2.z 27 rfl, f2.z 32 rfl, f2.v 23 rfl, f2.v 17 rfl, f2.z 2 rfl, f2.z 5 rfl]
    omega
theorem cs_take {A : cS} (g : vG A) (a : Int) (ha : 0 ≤ a ∧ a ≤ 100000000) {Q : cS → Prop} (hq : ∀ A', ySm A A' [] [19, 20] → vX A A' 0 0 0 0 0 0 0 → Q A') : wc_Coder_take A a Q := by
  have g4 := g.2.2.2.1
  unfold wc_Coder_take
  have f : ySm A (ypv (ypv A 19 (min ((yv A 19) + a) 33554432)) 20 (max (yv A 20) (min ((yv A 19) + a) 33554432))) [] [19, 20] := (ySm.rf.pv rfl).pv rfl
  refine ⟨⟨by omega, by omega⟩, hq _ f (vX.v g f rfl ?_ g.2.2.2.2.2.1)⟩
  show 0 ≤ min ((yv A 19) + a) 33554432 ∧ min ((yv A 19) + a) 33554432 ≤ 33554432
  omega
theorem cs_unfit {A : cS} (g : vG A) (a b : Int) {Q : cS → Prop} (hq : ∀ A', ySm A A' [] [4, 5] → vX A A' 0 0 0 0 0 0 0 → Q A') : wc_Coder_unfit A a b Q := by
  unfold wc_Coder_unfit
  exact ⟨fun _ => hq A ySm.rf (vX.rf g), fun _ => cs_cblame g _ _ hq⟩
theorem cs_isByte (A : cS) (a : Int) {Q : Int → cS → Prop} (hq : ∀ r, Q r A) : wc_Coder_isByte A a Q := by
  have L : ∀ (m : Nat) (x y : Int), 0 ≤ y → y ≤ 1000000 → 1000000 - y < m → wc_Coder_isByte_11 Q m A x y := by
    intro m
    induction m with
    | zero => intro x y _ _ h; omega
    | succ m ih =>
      intro x y h0 h1 h2
      unfold wc_Coder_isByte_11
      unfold wc_Coder_isByte_11B
      unfold wc_Tree_kind wc_Tree_first wc_Tree_last
      exact ⟨fun _ => ⟨fun _ => hq _, fun _ => hq _⟩, fun _ => ⟨fun _ => ⟨fun _ => hq _, fun _ => hq _⟩, fun _ => ⟨⟨by omega, by omega⟩, ih _ _ (by omega) (by omega) (by omega)⟩⟩⟩
  unfold wc_Coder_isByte wc_Tree_last
  exact ⟨1000001, L _ _ 0 (by omega) (by omega) (by omega)⟩
theorem cs_going {A : cS} (g : vG A) {C G W : Int} (R : vRm A C G W) (hC : 2 ≤ C) (hG : 2 ≤ G) (hW : 0 ≤ W) (a : Int) {Q : cS → Prop} (hq : ∀ A', vX A A' 2 0 2 0 0 0 0 → Q A') : wc_Coder_going A a Q := by
  have B : ∀ x y, wc_Program_blame A x y (fun A38 => Q A38) := fun x y => cs_cblame g _ _ (fun A' f x' => hq A' (x'.le (by omega)))
  unfold wc_Coder_going wc_Tree_data wc_Tree_place wc_Scope_kind wc_Scope_owner wc_Scope_data
  refine cs_find (vG.b27 R hW) _ (fun r => ⟨fun _ => ⟨fun _ => B _ _, fun _ => ⟨fun _ => ?_, fun _ => B _ _⟩⟩, fun _ => B _ _⟩)
  refine cs_cemit g R hC _ _ (fun r2 A1 f1 x1 => ?_)
  have R1 := R.x x1 (C' := C - 2) (G' := G) (W' := W) (by omega)
  have R2 := R1
  unfold vRm at R2
  have z1 : yz (yadd A1 25 r2) 25 = yz A1 25 + 1 := rfl
  refine ⟨by omega, by omega, hq _ (x1.tr (c' := 0) (l' := 0) (g' := 2) (k' := 0) (s' := 0) (m' := 0) (a' := 0) ?_)⟩
  have f2 : ySm A1 (yadd (yadd A1 25 r2) 25 (yget (yadd A1 25 r2) 29 r)) [25] [] := (ySm.rf.add rfl).add rfl
  have z2 : yz (yadd (yadd A1 25 r2) 25 (yget (yadd A1 25 r2) 29 r)) 25 = yz A1 25 + 1 + 1 := rfl
  refine ⟨ySm.rf.tr f2 rfl rfl, vT.sm f2 rfl, x1.g.sm f2 rfl rfl, ?_⟩
  unfold vN
  rw [z2, f2.z 1 rfl, f2.z 26 rfl, f2.z 24 rfl, f2.z 27 rfl, f2.z 32 rfl, f2.v 23 rfl, f2.v 17 rfl, f2.z 2 rfl, f2.z 5 rfl]
  omega
theorem cs_leaving {A : cS} (g : vG A) {C G W : Int} (R : vRm A C G W) (a : Int) (hC : (if yget A 7 a = 48 then 4 else 2) ≤ C) (hG : 2 ≤ G) (hW : 0 ≤ W) {Q : cS → Prop} (hq : ∀ A', vX A A' (if yget A 7 a = 48 then 4 else 2) 0 2 0 0 0 0 → Q A') : wc_Coder_leaving A a Q := by
  have c2 : (2 : Int) ≤ if yget A 7 a = 48 then 4 else 2 := by split <;> omega
  have L : ∀ y0, wc_Coder_leaving_66 Q A a (yget A 7 a) y0 := fun y0 => by
    have E : ∀ (k : Nat) b, (k = 13 ∨ k = 14 ∨ k = 15) → wc_Coder_emit A 14 b (fun r A49 => Q (ypv A49 k r)) := fun k b hk => cs_cemit g R (by omega) _ _ (fun r A1 f1 x1 => by
      have f2 : ySm A1 (ypv A1 k r) [] [k] := ySm.rf.pv (by simp)
      exact hq _ ((x1.tr (vX.zv x1.g f2 (by rcases hk with rfl | rfl | rfl <;> rfl))).le (by omega)))
    unfold wc_Coder_leaving_66 wc_Tree_place
    refine ⟨fun _ => ⟨fun _ => ⟨fun _ => ⟨fun _ => ⟨fun _ => ⟨fun _ => cs_going g R (by omega) hG hW a (fun A' x => hq A' (x.le (by omega))), fun _ => cs_cemit g R (by omega) _ _ (fun r A1 f1 x1 => hq _ (x1.le (by omega)))⟩, fun c48 => ?_⟩, fun _ => E 15 _ (by omega)⟩, fun _ => E 14 _ (by omega)⟩, fun _ => E 13 _ (by omega)⟩, fun _ => cs_cblame g _ _ (fun A' f x' => hq A' (x'.le (by omega)))⟩
    rw [if_pos c48] at hC
    refine cs_cemit g R (by omega) _ _ (fun r A1 f1 x1 => cs_cemit x1.g (R.x x1 (C' := C - 2) (G' := G) (W' := W) (by omega)) (by omega) _ _ (fun r2 A2 f2 x2 => hq _ ((x1.tr x2).le ?_)))
    rw [if_pos c48]
    omega
  have L35 : wc_Coder_leaving_35 Q A a (yget A 7 a) := by
    unfold wc_Coder_leaving_35
    exact ⟨fun _ => ⟨fun _ => L _, fun _ => ⟨fun _ => L _, fun _ => L _⟩⟩, fun _ => ⟨fun _ => L _, fun _ => ⟨fun _ => L _, fun _ => ⟨fun _ => L _, fun _ => L _⟩⟩⟩⟩
  unfold wc_Coder_leaving wc_Tree_kind
  exact ⟨fun _ => ⟨fun _ => L35, fun _ => ⟨fun _ => L _, fun _ => L35⟩⟩, fun _ => ⟨fun _ => L _, fun _ => ⟨fun _ => L35, fun _ => ⟨fun _ => L _, fun _ => L35⟩⟩⟩⟩
