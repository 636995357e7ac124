/-! THE FRAME: what isn't written stays. ffm_m: a method's formula with another end, which may use the frame. -/
def zSm (s s' : zS) (js ks : List Nat) : Prop := (∀ j, js.contains j = false → s'.2 j = s.2 j) ∧ ∀ k, ks.contains k = false → s'.1 k = s.1 k
theorem zSm.rf {s : zS} {js ks : List Nat} : zSm s s js ks := ⟨fun _ _ => rfl, fun _ _ => rfl⟩
theorem znot {l l1 : List Nat} {j : Nat} (h : l1.all (fun z => l.contains z) = true) (hj : l.contains j = false) : l1.contains j = false := by
  cases hc : l1.contains j with
  | false => rfl
  | true =>
    have h1 : j ∈ l1 := by simpa using hc
    have h2 := List.all_eq_true.mp h j h1
    rw [hj] at h2
    exact absurd h2 (by decide)
theorem zSm.tr {s s1 s2 : zS} {js ks js1 ks1 : List Nat} (h : zSm s s1 js ks) (h2 : zSm s1 s2 js1 ks1) (a : js1.all (fun z => js.contains z) = true) (c : ks1.all (fun z => ks.contains z) = true) : zSm s s2 js ks := ⟨fun j hj => (h2.1 j (znot a hj)).trans (h.1 j hj), fun k hk => (h2.2 k (znot c hk)).trans (h.2 k hk)⟩
theorem zSm.pv {s s1 : zS} {js ks : List Nat} {j : Nat} {x : Int} (h : zSm s s1 js ks) (hj : ks.contains j = true) : zSm s (zpv s1 j x) js ks := ⟨h.1, fun k hk => by
  have hne : k ≠ j := fun e => by rw [e, hj] at hk; exact absurd hk (by decide)
  show (if k = j then x else s1.1 k) = s.1 k
  rw [if_neg hne]
  exact h.2 k hk⟩
theorem zSm.pa {s s1 : zS} {js ks : List Nat} {j i : Nat} {x : Int} (h : zSm s s1 js ks) (hj : js.contains j = true) : zSm s (zpa s1 j i x) js ks := ⟨fun k hk => by
  have hne : k ≠ j := fun e => by rw [e, hj] at hk; exact absurd hk (by decide)
  show (fun m => if k = j then (if m = i then x else s1.2 k m) else s1.2 k m) = s.2 k
  simp only [hne, if_false]
  exact h.1 k hk, h.2⟩
theorem zSm.v {s s1 : zS} {js ks : List Nat} (h : zSm s s1 js ks) (k : Nat) (hk : ks.contains k = false) : zv s1 k = zv s k := h.2 k hk
theorem zSm.a {s s1 : zS} {js ks : List Nat} (h : zSm s s1 js ks) (j i : Nat) (hj : js.contains j = false) : za s1 j i = za s j i := congrFun (h.1 j hj) i
theorem zSm.e {s s1 : zS} (h : zSm s s1 [] []) : s1 = s := Prod.ext (funext fun k => h.2 k rfl) (funext fun j => h.1 j rfl)
theorem ffb_nameOf_30 {Q Q' : Int → zS → Prop} {k2 k2' : zS → Int → Int → Int → Prop} {k30 k30' : zS → Int → Int → Int → Int → Int → Prop} {s0 : zS} {x1 : Int} {x2 : Int} {x3 : Int} {x4 : Int} {x5 : Int} (hq : ∀ (e : Int) (A' : zS), zSm s0 A' [6, 7] [5] → Q e A' → Q' e A') (fk2 : ∀ (A' : zS) (x0 : Int) (x1 : Int) (x2 : Int), zSm s0 A' [6, 7] [5] → k2 A' x0 x1 x2 → k2' A' x0 x1 x2) (fk30 : ∀ (A' : zS) (x0 : Int) (x1 : Int) (x2 : Int) (x3 : Int) (x4 : Int), zSm s0 A' [6, 7] [5] → k30 A' x0 x1 x2 x3 x4 → k30' A' x0 x1 x2 x3 x4) (hw : wr_nameOf_30B Q k2 k30 s0 x1 x2 x3 x4 x5) : wr_nameOf_30B Q' k2' k30' s0 x1 x2 x3 x4 x5 := by
  unfold wr_nameOf_30B at hw ⊢
  refine ⟨fun c1 => ?_, fun c1 => ?_⟩
  · have h2 := hw.1 c1
    refine ⟨fun c3 => ?_, fun c3 => ?_⟩
    · have h4 := h2.1 c3
      obtain ⟨o5, h6⟩ := h4
      refine ⟨o5, ?_⟩
      exact fk2 _ _ _ _ zSm.rf h6
    · have h7 := h2.2 c3
      exact hq _ _ zSm.rf h7
  · have h8 := hw.2 c1
    refine ⟨fun c9 => ?_, fun c9 => ?_⟩
    · have h10 := h8.1 c9
      refine ⟨fun c11 => ?_, fun c11 => ?_⟩
      · have h12 := h10.1 c11
        obtain ⟨o13, h14⟩ := h12
        refine ⟨o13, ?_⟩
        exact fk2 _ _ _ _ zSm.rf h14
      · have h15 := h10.2 c11
        exact hq _ _ zSm.rf h15
    · have h16 := h8.2 c9
      obtain ⟨o17, h18⟩ := h16
      refine ⟨o17, ?_⟩
      obtain ⟨o19, h20⟩ := h18
      refine ⟨o19, ?_⟩
      obtain ⟨o21, h22⟩ := h20
      refine ⟨o21, ?_⟩
      obtain ⟨o23, h24⟩ := h22
      refine ⟨o23, ?_⟩
      obtain ⟨o25, h26⟩ := h24
      refine ⟨o25, ?_⟩
      obtain ⟨o27, h28⟩ := h26
      refine ⟨o27, ?_⟩
      refine ⟨fun c29 => ?_, fun c29 => ?_⟩
      · have h30 := h28.1 c29
        obtain ⟨o31, h32⟩ := h30
        refine ⟨o31, ?_⟩
        exact fk30 _ _ _ _ _ _ zSm.rf h32
      · have h33 := h28.2 c29
        obtain ⟨o34, h35⟩ := h33
        refine ⟨o34, ?_⟩
        exact fk30 _ _ _ _ _ _ zSm.rf h35
theorem ffl_nameOf_300 {Q Q' : Int → zS → Prop} {k2 k2' : zS → Int → Int → Int → Prop} : ∀ (m : Nat) (s0 : zS) (x1 : Int) (x2 : Int) (x3 : Int) (x4 : Int) (x5 : Int), (∀ (e : Int) (A' : zS), zSm s0 A' [6, 7] [5] → Q e A' → Q' e A') → (∀ (A' : zS) (x0 : Int) (x1 : Int) (x2 : Int), zSm s0 A' [6, 7] [5] → k2 A' x0 x1 x2 → k2' A' x0 x1 x2) → wr_nameOf_30 Q k2 m s0 x1 x2 x3 x4 x5 → wr_nameOf_30 Q' k2' m s0 x1 x2 x3 x4 x5 := by
  intro m
  induction m with
  | zero => intro s0 x1 x2 x3 x4 x5 hq fk2 hw; exact hw
  | succ m ih => intro s0 x1 x2 x3 x4 x5 hq fk2 hw; exact ffb_nameOf_30 hq fk2 (fun A' y0 y1 y2 y3 y4 f1 q => ih A' y0 y1 y2 y3 y4 (fun e A' f q => hq e A' (f1.tr f rfl rfl) q) (fun A' z0 z1 z2 f q => fk2 A' z0 z1 z2 (f1.tr f rfl rfl) q) q) hw
theorem ffb_nameOf_2 {Q Q' : Int → zS → Prop} {k2 k2' : zS → Int → Int → Int → Prop} {s0 : zS} {x1 : Int} {x2 : Int} {x3 : Int} (hq : ∀ (e : Int) (A' : zS), zSm s0 A' [6, 7] [5] → Q e A' → Q' e A') (fk2 : ∀ (A' : zS) (x0 : Int) (x1 : Int) (x2 : Int), zSm s0 A' [6, 7] [5] → k2 A' x0 x1 x2 → k2' A' x0 x1 x2) (hw : wr_nameOf_2B Q k2 s0 x1 x2 x3) : wr_nameOf_2B Q' k2' s0 x1 x2 x3 := by
  unfold wr_nameOf_2B at hw ⊢
  refine ⟨fun c1 => ?_, fun c1 => ?_⟩
  · have h2 := hw.1 c1
    obtain ⟨o3, h4⟩ := h2
    refine ⟨o3, ?_⟩
    obtain ⟨o5, h6⟩ := h4
    refine ⟨o5, ?_⟩
    obtain ⟨o9, h10⟩ := h6
    refine ⟨o9, ?_⟩
    obtain ⟨o11, h12⟩ := h10
    refine ⟨o11, ?_⟩
    obtain ⟨o15, h16⟩ := h12
    refine ⟨o15, ?_⟩
    obtain ⟨o19, h20⟩ := h16
    refine ⟨o19, ?_⟩
    exact hq _ _ (((zSm.rf.pa rfl).pa rfl).pv rfl) h20
  · have h21 := hw.2 c1
    obtain ⟨o22, h23⟩ := h21
    refine ⟨o22, ?_⟩
    obtain ⟨o24, h25⟩ := h23
    refine ⟨o24, ?_⟩
    refine ⟨fun c26 => ?_, fun c26 => ?_⟩
    · have h27 := h25.1 c26
      obtain ⟨m28, h29⟩ := h27
      exact ⟨m28, ffl_nameOf_300 m28 _ _ _ _ _ _ (fun e A' f q => hq e A' (zSm.rf.tr f rfl rfl) q) (fun A' x0 x1 x2 f q => fk2 A' x0 x1 x2 (zSm.rf.tr f rfl rfl) q) h29⟩
    · have h30 := h25.2 c26
      obtain ⟨m31, h32⟩ := h30
      exact ⟨m31, ffl_nameOf_300 m31 _ _ _ _ _ _ (fun e A' f q => hq e A' (zSm.rf.tr f rfl rfl) q) (fun A' x0 x1 x2 f q => fk2 A' x0 x1 x2 (zSm.rf.tr f rfl rfl) q) h32⟩
theorem ffl_nameOf_20 {Q Q' : Int → zS → Prop}  : ∀ (m : Nat) (s0 : zS) (x1 : Int) (x2 : Int) (x3 : Int), (∀ (e : Int) (A' : zS), zSm s0 A' [6, 7] [5] → Q e A' → Q' e A') → wr_nameOf_2 Q  m s0 x1 x2 x3 → wr_nameOf_2 Q'  m s0 x1 x2 x3 := by
  intro m
  induction m with
  | zero => intro s0 x1 x2 x3 hq  hw; exact hw
  | succ m ih => intro s0 x1 x2 x3 hq  hw; exact ffb_nameOf_2 hq  (fun A' y0 y1 y2 f1 q => ih A' y0 y1 y2 (fun e A' f q => hq e A' (f1.tr f rfl rfl) q)  q) hw
theorem ffm_nameOf {s0 : zS} {a0 : Int} {a1 : Int} {Q Q' : Int → zS → Prop} (hw : wr_nameOf s0 a0 a1 Q) (hq : ∀ (e : Int) (A' : zS), zSm s0 A' [6, 7] [5] → Q e A' → Q' e A') : wr_nameOf s0 a0 a1 Q' := by
  unfold wr_nameOf at hw ⊢
  obtain ⟨m1, h2⟩ := hw
  exact ⟨m1, ffl_nameOf_20 m1 _ _ _ _ (fun e A' f q => hq e A' (zSm.rf.tr f rfl rfl) q)  h2⟩
theorem ffj_isText_34 {Q Q' : Int → zS → Prop} {k7 k7' : zS → Int → Int → Int → Int → Int → Int → Prop} {s0 : zS} {x1 : Int} {x2 : Int} {x3 : Int} {x5 : Int} {x7 : Int} {x8 : Int} {y0 : Int} (hq : ∀ (e : Int) (A' : zS), zSm s0 A' [] [] → Q e A' → Q' e A') (fk7 : ∀ (A' : zS) (x0 : Int) (x1 : Int) (x2 : Int) (x3 : Int) (x4 : Int) (x5 : Int), zSm s0 A' [] [] → k7 A' x0 x1 x2 x3 x4 x5 → k7' A' x0 x1 x2 x3 x4 x5) (hw : wr_isText_34 Q k7 s0 x1 x2 x3 x5 x7 x8 y0) : wr_isText_34 Q' k7' s0 x1 x2 x3 x5 x7 x8 y0 := by
  unfold wr_isText_34 at hw ⊢
  refine ⟨fun c1 => ?_, fun c1 => ?_⟩
  · have h2 := hw.1 c1
    refine ⟨fun c3 => ?_, fun c3 => ?_⟩
    · have h4 := h2.1 c3
      exact hq _ _ zSm.rf h4
    · have h5 := h2.2 c3
      obtain ⟨o6, h7⟩ := h5
      refine ⟨o6, ?_⟩
      obtain ⟨o8, h9⟩ := h7
      refine ⟨o8, ?_⟩
      refine ⟨fun c10 => ?_, fun c10 => ?_⟩
      · have h11 := h9.1 c10
        obtain ⟨o12, h13⟩ := h11
        refine ⟨o12, ?_⟩
        obtain ⟨o14, h15⟩ := h13
        refine ⟨o14, ?_⟩
        exact fk7 _ _ _ _ _ _ _ zSm.rf h15
      · have h16 := h9.2 c10
        exact hq _ _ zSm.rf h16
  · have h17 := hw.2 c1
    obtain ⟨o18, h19⟩ := h17
    refine ⟨o18, ?_⟩
    exact fk7 _ _ _ _ _ _ _ zSm.rf h19
theorem ffb_isText_7 {Q Q' : Int → zS → Prop} {k7 k7' : zS → Int → Int → Int → Int → Int → Int → Prop} {s0 : zS} {x1 : Int} {x2 : Int} {x3 : Int} {x5 : Int} {x7 : Int} {x8 : Int} (hq : ∀ (e : Int) (A' : zS), zSm s0 A' [] [] → Q e A' → Q' e A') (fk7 : ∀ (A' : zS) (x0 : Int) (x1 : Int) (x2 : Int) (x3 : Int) (x4 : Int) (x5 : Int), zSm s0 A' [] [] → k7 A' x0 x1 x2 x3 x4 x5 → k7' A' x0 x1 x2 x3 x4 x5) (hw : wr_isText_7B Q k7 s0 x1 x2 x3 x5 x7 x8) : wr_isText_7B Q' k7' s0 x1 x2 x3 x5 x7 x8 := by
  unfold wr_isText_7B at hw ⊢
  refine ⟨fun c1 => ?_, fun c1 => ?_⟩
  · have h2 := hw.1 c1
    refine ⟨fun c3 => ?_, fun c3 => ?_⟩
    · have h4 := h2.1 c3
      exact hq _ _ zSm.rf h4
    · have h5 := h2.2 c3
      exact hq _ _ zSm.rf h5
  · have h6 := hw.2 c1
    refine ⟨fun c7 => ?_, fun c7 => ?_⟩
    · have h8 := h6.1 c7
      exact ffj_isText_34 (fun e A' f q => hq e A' (zSm.rf.tr f rfl rfl) q) (fun A' x0 x1 x2 x3 x4 x5 f q => fk7 A' x0 x1 x2 x3 x4 x5 (zSm.rf.tr f rfl rfl) q) h8
    · have h9 := h6.2 c7
      exact ffj_isText_34 (fun e A' f q => hq e A' (zSm.rf.tr f rfl rfl) q) (fun A' x0 x1 x2 x3 x4 x5 f q => fk7 A' x0 x1 x2 x3 x4 x5 (zSm.rf.tr f rfl rfl) q) h9
theorem ffl_isText_70 {Q Q' : Int → zS → Prop}  : ∀ (m : Nat) (s0 : zS) (x1 : Int) (x2 : Int) (x3 : Int) (x5 : Int) (x7 : Int) (x8 : Int), (∀ (e : Int) (A' : zS), zSm s0 A' [] [] → Q e A' → Q' e A') → wr_isText_7 Q  m s0 x1 x2 x3 x5 x7 x8 → wr_isText_7 Q'  m s0 x1 x2 x3 x5 x7 x8 := by
  intro m
  induction m with
  | zero => intro s0 x1 x2 x3 x5 x7 x8 hq  hw; exact hw
  | succ m ih => intro s0 x1 x2 x3 x5 x7 x8 hq  hw; exact ffb_isText_7 hq  (fun A' y0 y1 y2 y3 y4 y5 f1 q => ih A' y0 y1 y2 y3 y4 y5 (fun e A' f q => hq e A' (f1.tr f rfl rfl) q)  q) hw
theorem ffm_isText {s0 : zS} {a0 : Int} {a1 : Int} {a2 : Int} {a3 : Int} {Q Q' : Int → zS → Prop} (hw : wr_isText s0 a0 a1 a2 a3 Q) (hq : ∀ (e : Int) (A' : zS), zSm s0 A' [] [] → Q e A' → Q' e A') : wr_isText s0 a0 a1 a2 a3 Q' := by
  unfold wr_isText at hw ⊢
  obtain ⟨m1, h2⟩ := hw
  exact ⟨m1, ffl_isText_70 m1 _ _ _ _ _ _ _ (fun e A' f q => hq e A' (zSm.rf.tr f rfl rfl) q)  h2⟩
theorem ffm_keyword {s0 : zS} {a0 : Int} {a1 : Int} {Q Q' : Int → zS → Prop} (hw : wr_keyword s0 a0 a1 Q) (hq : ∀ (e : Int) (A' : zS), zSm s0 A' [] [] → Q e A' → Q' e A') : wr_keyword s0 a0 a1 Q' := by
  unfold wr_keyword at hw ⊢
  refine ffm_isText hw (fun r1 s2 f1 h6 => ?_)
  refine ⟨fun c7 => ?_, fun c7 => ?_⟩
  · have h8 := h6.1 c7
    refine ffm_isText h8 (fun r9 s10 f2 h14 => ?_)
    refine ⟨fun c15 => ?_, fun c15 => ?_⟩
    · have h16 := h14.1 c15
      refine ffm_isText h16 (fun r17 s18 f3 h22 => ?_)
      refine ⟨fun c23 => ?_, fun c23 => ?_⟩
      · have h24 := h22.1 c23
        refine ffm_isText h24 (fun r25 s26 f4 h30 => ?_)
        refine ⟨fun c31 => ?_, fun c31 => ?_⟩
        · have h32 := h30.1 c31
          refine ffm_isText h32 (fun r33 s34 f5 h38 => ?_)
          refine ⟨fun c39 => ?_, fun c39 => ?_⟩
          · have h40 := h38.1 c39
            refine ffm_isText h40 (fun r41 s42 f6 h46 => ?_)
            refine ⟨fun c47 => ?_, fun c47 => ?_⟩
            · have h48 := h46.1 c47
              refine ffm_isText h48 (fun r49 s50 f7 h54 => ?_)
              refine ⟨fun c55 => ?_, fun c55 => ?_⟩
              · have h56 := h54.1 c55
                refine ffm_isText h56 (fun r57 s58 f8 h62 => ?_)
                refine ⟨fun c63 => ?_, fun c63 => ?_⟩
                · have h64 := h62.1 c63
                  refine ffm_isText h64 (fun r65 s66 f9 h70 => ?_)
                  refine ⟨fun c71 => ?_, fun c71 => ?_⟩
                  · have h72 := h70.1 c71
                    refine ffm_isText h72 (fun r73 s74 f10 h78 => ?_)
                    refine ⟨fun c79 => ?_, fun c79 => ?_⟩
                    · have h80 := h78.1 c79
                      refine ffm_isText h80 (fun r81 s82 f11 h86 => ?_)
                      refine ⟨fun c87 => ?_, fun c87 => ?_⟩
                      · have h88 := h86.1 c87
                        refine ffm_isText h88 (fun r89 s90 f12 h94 => ?_)
                        refine ⟨fun c95 => ?_, fun c95 => ?_⟩
                        · have h96 := h94.1 c95
                          refine ffm_isText h96 (fun r97 s98 f13 h102 => ?_)
                          refine ⟨fun c103 => ?_, fun c103 => ?_⟩
                          · have h104 := h102.1 c103
                            refine ffm_isText h104 (fun r105 s106 f14 h110 => ?_)
                            refine ⟨fun c111 => ?_, fun c111 => ?_⟩
                            · have h112 := h110.1 c111
                              refine ffm_isText h112 (fun r113 s114 f15 h118 => ?_)
                              refine ⟨fun c119 => ?_, fun c119 => ?_⟩
                              · have h120 := h118.1 c119
                                refine ffm_isText h120 (fun r121 s122 f16 h126 => ?_)
                                refine ⟨fun c127 => ?_, fun c127 => ?_⟩
                                · have h128 := h126.1 c127
                                  refine ffm_isText h128 (fun r129 s130 f17 h134 => ?_)
                                  refine ⟨fun c135 => ?_, fun c135 => ?_⟩
                                  · have h136 := h134.1 c135
                                    refine ffm_isText h136 (fun r137 s138 f18 h142 => ?_)
                                    refine ⟨fun c143 => ?_, fun c143 => ?_⟩
                                    · have h144 := h142.1 c143
                                      refine ffm_isText h144 (fun r145 s146 f19 h150 => ?_)
                                      refine ⟨fun c151 => ?_, fun c151 => ?_⟩
                                      · have h152 := h150.1 c151
                                        refine ffm_isText h152 (fun r153 s154 f20 h158 => ?_)
                                        refine ⟨fun c159 => ?_, fun c159 => ?_⟩
                                        · have h160 := h158.1 c159
                                          refine ffm_isText h160 (fun r161 s162 f21 h166 => ?_)
                                          refine ⟨fun c167 => ?_, fun c167 => ?_⟩
                                          · have h168 := h166.1 c167
                                            refine ffm_isText h168 (fun r169 s170 f22 h174 => ?_)
                                            refine ⟨fun c175 => ?_, fun c175 => ?_⟩
                                            · have h176 := h174.1 c175
                                              refine ffm_isText h176 (fun r177 s178 f23 h182 => ?_)
                                              refine ⟨fun c183 => ?_, fun c183 => ?_⟩
                                              · have h184 := h182.1 c183
                                                refine ffm_isText h184 (fun r185 s186 f24 h190 => ?_)
                                                refine ⟨fun c191 => ?_, fun c191 => ?_⟩
                                                · have h192 := h190.1 c191
                                                  refine ffm_isText h192 (fun r193 s194 f25 h198 => ?_)
                                                  refine ⟨fun c199 => ?_, fun c199 => ?_⟩
                                                  · have h200 := h198.1 c199
                                                    refine ffm_isText h200 (fun r201 s202 f26 h206 => ?_)
                                                    refine ⟨fun c207 => ?_, fun c207 => ?_⟩
                                                    · have h208 := h206.1 c207
                                                      refine ffm_isText h208 (fun r209 s210 f27 h214 => ?_)
                                                      refine ⟨fun c215 => ?_, fun c215 => ?_⟩
                                                      · have h216 := h214.1 c215
                                                        refine ffm_isText h216 (fun r217 s218 f28 h222 => ?_)
                                                        refine ⟨fun c223 => ?_, fun c223 => ?_⟩
                                                        · have h224 := h222.1 c223
                                                          refine ffm_isText h224 (fun r225 s226 f29 h230 => ?_)
                                                          refine ⟨fun c231 => ?_, fun c231 => ?_⟩
                                                          · have h232 := h230.1 c231
                                                            refine ffm_isText h232 (fun r233 s234 f30 h238 => ?_)
                                                            refine ⟨fun c239 => ?_, fun c239 => ?_⟩
                                                            · have h240 := h238.1 c239
                                                              refine ffm_isText h240 (fun r241 s242 f31 h246 => ?_)
                                                              refine ⟨fun c247 => ?_, fun c247 => ?_⟩
                                                              · have h248 := h246.1 c247
                                                                refine ffm_isText h248 (fun r249 s250 f32 h254 => ?_)
                                                                refine ⟨fun c255 => ?_, fun c255 => ?_⟩
                                                                · have h256 := h254.1 c255
                                                                  refine ffm_isText h256 (fun r257 s258 f33 h262 => ?_)
                                                                  refine ⟨fun c263 => ?_, fun c263 => ?_⟩
                                                                  · have h264 := h262.1 c263
                                                                    refine ffm_isText h264 (fun r265 s266 f34 h270 => ?_)
                                                                    refine ⟨fun c271 => ?_, fun c271 => ?_⟩
                                                                    · have h272 := h270.1 c271
                                                                      refine ffm_isText h272 (fun r273 s274 f35 h278 => ?_)
                                                                      refine ⟨fun c279 => ?_, fun c279 => ?_⟩
                                                                      · have h280 := h278.1 c279
                                                                        refine ffm_isText h280 (fun r281 s282 f36 h286 => ?_)
                                                                        refine ⟨fun c287 => ?_, fun c287 => ?_⟩
                                                                        · have h288 := h286.1 c287
                                                                          refine ffm_isText h288 (fun r289 s290 f37 h294 => ?_)
                                                                          refine ⟨fun c295 => ?_, fun c295 => ?_⟩
                                                                          · have h296 := h294.1 c295
                                                                            refine ffm_isText h296 (fun r297 s298 f38 h302 => ?_)
                                                                            refine ⟨fun c303 => ?_, fun c303 => ?_⟩
                                                                            · have h304 := h302.1 c303
                                                                              refine ffm_isText h304 (fun r305 s306 f39 h310 => ?_)
                                                                              refine ⟨fun c311 => ?_, fun c311 => ?_⟩
                                                                              · have h312 := h310.1 c311
                                                                                refine ffm_isText h312 (fun r313 s314 f40 h318 => ?_)
                                                                                refine ⟨fun c319 => ?_, fun c319 => ?_⟩
                                                                                · have h320 := h318.1 c319
                                                                                  refine ffm_isText h320 (fun r321 s322 f41 h326 => ?_)
                                                                                  refine ⟨fun c327 => ?_, fun c327 => ?_⟩
                                                                                  · have h328 := h326.1 c327
                                                                                    refine ffm_isText h328 (fun r329 s330 f42 h334 => ?_)
                                                                                    refine ⟨fun c335 => ?_, fun c335 => ?_⟩
                                                                                    · have h336 := h334.1 c335
                                                                                      exact hq _ _ ((((((((((((((((((((((((((((((((((((((((((zSm.rf.tr f1 rfl rfl).tr f2 rfl rfl).tr f3 rfl rfl).tr f4 rfl rfl).tr f5 rfl rfl).tr f6 rfl rfl).tr f7 rfl rfl).tr f8 rfl rfl).tr f9 rfl rfl).tr f10 rfl rfl).tr f11 rfl rfl).tr f12 rfl rfl).tr f13 rfl rfl).tr f14 rfl rfl).tr f15 rfl rfl).tr f16 rfl rfl).tr f17 rfl rfl).tr f18 rfl rfl).tr f19 rfl rfl).tr f20 rfl rfl).tr f21 rfl rfl).tr f22 rfl rfl).tr f23 rfl rfl).tr f24 rfl rfl).tr f25 rfl rfl).tr f26 rfl rfl).tr f27 rfl rfl).tr f28 rfl rfl).tr f29 rfl rfl).tr f30 rfl rfl).tr f31 rfl rfl).tr f32 rfl rfl).tr f33 rfl rfl).tr f34 rfl rfl).tr f35 rfl rfl).tr f36 rfl rfl).tr f37 rfl rfl).tr f38 rfl rfl).tr f39 rfl rfl).tr f40 rfl rfl).tr f41 rfl rfl).tr f42 rfl rfl) h336
                                                                                    · have h337 := h334.2 c335
                                                                                      exact hq _ _ ((((((((((((((((((((((((((((((((((((((((((zSm.rf.tr f1 rfl rfl).tr f2 rfl rfl).tr f3 rfl rfl).tr f4 rfl rfl).tr f5 rfl rfl).tr f6 rfl rfl).tr f7 rfl rfl).tr f8 rfl rfl).tr f9 rfl rfl).tr f10 rfl rfl).tr f11 rfl rfl).tr f12 rfl rfl).tr f13 rfl rfl).tr f14 rfl rfl).tr f15 rfl rfl).tr f16 rfl rfl).tr f17 rfl rfl).tr f18 rfl rfl).tr f19 rfl rfl).tr f20 rfl rfl).tr f21 rfl rfl).tr f22 rfl rfl).tr f23 rfl rfl).tr f24 rfl rfl).tr f25 rfl rfl).tr f26 rfl rfl).tr f27 rfl rfl).tr f28 rfl rfl).tr f29 rfl rfl).tr f30 rfl rfl).tr f31 rfl rfl).tr f32 rfl rfl).tr f33 rfl rfl).tr f34 rfl rfl).tr f35 rfl rfl).tr f36 rfl rfl).tr f37 rfl rfl).tr f38 rfl rfl).tr f39 rfl rfl).tr f40 rfl rfl).tr f41 rfl rfl).tr f42 rfl rfl) h337
                                                                                  · have h338 := h326.2 c327
                                                                                    exact hq _ _ (((((((((((((((((((((((((((((((((((((((((zSm.rf.tr f1 rfl rfl).tr f2 rfl rfl).tr f3 rfl rfl).tr f4 rfl rfl).tr f5 rfl rfl).tr f6 rfl rfl).tr f7 rfl rfl).tr f8 rfl rfl).tr f9 rfl rfl).tr f10 rfl rfl).tr f11 rfl rfl).tr f12 rfl rfl).tr f13 rfl rfl).tr f14 rfl rfl).tr f15 rfl rfl).tr f16 rfl rfl).tr f17 rfl rfl).tr f18 rfl rfl).tr f19 rfl rfl).tr f20 rfl rfl).tr f21 rfl rfl).tr f22 rfl rfl).tr f23 rfl rfl).tr f24 rfl rfl).tr f25 rfl rfl).tr f26 rfl rfl).tr f27 rfl rfl).tr f28 rfl rfl).tr f29 rfl rfl).tr f30 rfl rfl).tr f31 rfl rfl).tr f32 rfl rfl).tr f33 rfl rfl).tr f34 rfl rfl).tr f35 rfl rfl).tr f36 rfl rfl).tr f37 rfl rfl).tr f38 rfl rfl).tr f39 rfl rfl).tr f40 rfl rfl).tr f41 rfl rfl) h338
                                                                                · have h339 := h318.2 c319
                                                                                  exact hq _ _ ((((((((((((((((((((((((((((((((((((((((zSm.rf.tr f1 rfl rfl).tr f2 rfl rfl).tr f3 rfl rfl).tr f4 rfl rfl).tr f5 rfl rfl).tr f6 rfl rfl).tr f7 rfl rfl).tr f8 rfl rfl).tr f9 rfl rfl).tr f10 rfl rfl).tr f11 rfl rfl).tr f12 rfl rfl).tr f13 rfl rfl).tr f14 rfl rfl).tr f15 rfl rfl).tr f16 rfl rfl).tr f17 rfl rfl).tr f18 rfl rfl).tr f19 rfl rfl).tr f20 rfl rfl).tr f21 rfl rfl).tr f22 rfl rfl).tr f23 rfl rfl).tr f24 rfl rfl).tr f25 rfl rfl).tr f26 rfl rfl).tr f27 rfl rfl).tr f28 rfl rfl).tr f29 rfl rfl).tr f30 rfl rfl).tr f31 rfl rfl).tr f32 rfl rfl).tr f33 rfl rfl).tr f34 rfl rfl).tr f35 rfl rfl).tr f36 rfl rfl).tr f37 rfl rfl).tr f38 rfl rfl).tr f39 rfl rfl).tr f40 rfl rfl) h339
                                                                              · have h340 := h310.2 c311
                                                                                exact hq _ _ (((((((((((((((((((((((((((((((((((((((zSm.rf.tr f1 rfl rfl).tr f2 rfl rfl).tr f3 rfl rfl).tr f4 rfl rfl).tr f5 rfl rfl).tr f6 rfl rfl).tr f7 rfl rfl).tr f8 rfl rfl).tr f9 rfl rfl).tr f10 rfl rfl).tr f11 rfl rfl).tr f12 rfl rfl).tr f13 rfl rfl).tr f14 rfl rfl).tr f15 rfl rfl).tr f16 rfl rfl).tr f17 rfl rfl).tr f18 rfl rfl).tr f19 rfl rfl).tr f20 rfl rfl).tr f21 rfl rfl).tr f22 rfl rfl).tr f23 rfl rfl).tr f24 rfl rfl).tr f25 rfl rfl).tr f26 rfl rfl).tr f27 rfl rfl).tr f28 rfl rfl).tr f29 rfl rfl).tr f30 rfl rfl).tr f31 rfl rfl).tr f32 rfl rfl).tr f33 rfl rfl).tr f34 rfl rfl).tr f35 rfl rfl).tr f36 rfl rfl).tr f37 rfl rfl).tr f38 rfl rfl).tr f39 rfl rfl) h340
                                                                            · have h341 := h302.2 c303
                                                                              exact hq _ _ ((((((((((((((((((((((((((((((((((((((zSm.rf.tr f1 rfl rfl).tr f2 rfl rfl).tr f3 rfl rfl).tr f4 rfl rfl).tr f5 rfl rfl).tr f6 rfl rfl).tr f7 rfl rfl).tr f8 rfl rfl).tr f9 rfl rfl).tr f10 rfl rfl).tr f11 rfl rfl).tr f12 rfl rfl).tr f13 rfl rfl).tr f14 rfl rfl).tr f15 rfl rfl).tr f16 rfl rfl).tr f17 rfl rfl).tr f18 rfl rfl).tr f19 rfl rfl).tr f20 rfl rfl).tr f21 rfl rfl).tr f22 rfl rfl).tr f23 rfl rfl).tr f24 rfl rfl).tr f25 rfl rfl).tr f26 rfl rfl).tr f27 rfl rfl).tr f28 rfl rfl).tr f29 rfl rfl).tr f30 rfl rfl).tr f31 rfl rfl).tr f32 rfl rfl).tr f33 rfl rfl).tr f34 rfl rfl).tr f35 rfl rfl).tr f36 rfl rfl).tr f37 rfl rfl).tr f38 rfl rfl) h341
                                                                          · have h342 := h294.2 c295
                                                                            exact hq _ _ (((((((((((((((((((((((((((((((((((((zSm.rf.tr f1 rfl rfl).tr f2 rfl rfl).tr f3 rfl rfl).tr f4 rfl rfl).tr f5 rfl rfl).tr f6 rfl rfl).tr f7 rfl rfl).tr f8 rfl rfl).tr f9 rfl rfl).tr f10 rfl rfl).tr f11 rfl rfl).tr f12 rfl rfl).tr f13 rfl rfl).tr f14 rfl rfl).tr f15 rfl rfl).tr f16 rfl rfl).tr f17 rfl rfl).tr f18 rfl rfl).tr f19 rfl rfl).tr f20 rfl rfl).tr f21 rfl rfl).tr f22 rfl rfl).tr f23 rfl rfl).tr f24 rfl rfl).tr f25 rfl rfl).tr f26 rfl rfl).tr f27 rfl rfl).tr f28 rfl rfl).tr f29 rfl rfl).tr f30 rfl rfl).tr f31 rfl rfl).tr f32 rfl rfl).tr f33 rfl rfl).tr f34 rfl rfl).tr f35 rfl rfl).tr f36 rfl rfl).tr f37 rfl rfl) h342
                                                                        · have h343 := h286.2 c287
                                                                          exact hq _ _ ((((((((((((((((((((((((((((((((((((zSm.rf.tr f1 rfl rfl).tr f2 rfl rfl).tr f3 rfl rfl).tr f4 rfl rfl).tr f5 rfl rfl).tr f6 rfl rfl).tr f7 rfl rfl).tr f8 rfl rfl).tr f9 rfl rfl).tr f10 rfl rfl).tr f11 rfl rfl).tr f12 rfl rfl).tr f13 rfl rfl).tr f14 rfl rfl).tr f15 rfl rfl).tr f16 rfl rfl).tr f17 rfl rfl).tr f18 rfl rfl).tr f19 rfl rfl).tr f20 rfl rfl).tr f21 rfl rfl).tr f22 rfl rfl).tr f23 rfl rfl).tr f24 rfl rfl).tr f25 rfl rfl).tr f26 rfl rfl).tr f27 rfl rfl).tr f28 rfl rfl).tr f29 rfl rfl).tr f30 rfl rfl).tr f31 rfl rfl).tr f32 rfl rfl).tr f33 rfl rfl).tr f34 rfl rfl).tr f35 rfl rfl).tr f36 rfl rfl) h343
                                                                      · have h344 := h278.2 c279
                                                                        exact hq _ _ (((((((((((((((((((((((((((((((((((zSm.rf.tr f1 rfl rfl).tr f2 rfl rfl).tr f3 rfl rfl).tr f4 rfl rfl).tr f5 rfl rfl).tr f6 rfl rfl).tr f7 rfl rfl).tr f8 rfl rfl).tr f9 rfl rfl).tr f10 rfl rfl).tr f11 rfl rfl).tr f12 rfl rfl).tr f13 rfl rfl).tr f14 rfl rfl).tr f15 rfl rfl).tr f16 rfl rfl).tr f17 rfl rfl).tr f18 rfl rfl).tr f19 rfl rfl).tr f20 rfl rfl).tr f21 rfl rfl).tr f22 rfl rfl).tr f23 rfl rfl).tr f24 rfl rfl).tr f25 rfl rfl).tr f26 rfl rfl).tr f27 rfl rfl).tr f28 rfl rfl).tr f29 rfl rfl).tr f30 rfl rfl).tr f31 rfl rfl).tr f32 rfl rfl).tr f33 rfl rfl).tr f34 rfl rfl).tr f35 rfl rfl) h344
                                                                    · have h345 := h270.2 c271
                                                                      exact hq _ _ ((((((((((((((((((((((((((((((((((zSm.rf.tr f1 rfl rfl).tr f2 rfl rfl).tr f3 rfl rfl).tr f4 rfl rfl).tr f5 rfl rfl).tr f6 rfl rfl).tr f7 rfl rfl).tr f8 rfl rfl).tr f9 rfl rfl).tr f10 rfl rfl).tr f11 rfl rfl).tr f12 rfl rfl).tr f13 rfl rfl).tr f14 rfl rfl).tr f15 rfl rfl).tr f16 rfl rfl).tr f17 rfl rfl).tr f18 rfl rfl).tr f19 rfl rfl).tr f20 rfl rfl).tr f21 rfl rfl).tr f22 rfl rfl).tr f23 rfl rfl).tr f24 rfl rfl).tr f25 rfl rfl).tr f26 rfl rfl).tr f27 rfl rfl).tr f28 rfl rfl).tr f29 rfl rfl).tr f30 rfl rfl).tr f31 rfl rfl).tr f32 rfl rfl).tr f33 rfl rfl).tr f34 rfl rfl) h345
                                                                  · have h346 := h262.2 c263
                                                                    exact hq _ _ (((((((((((((((((((((((((((((((((zSm.rf.tr f1 rfl rfl).tr f2 rfl rfl).tr f3 rfl rfl).tr f4 rfl rfl).tr f5 rfl rfl).tr f6 rfl rfl).tr f7 rfl rfl).tr f8 rfl rfl).tr f9 rfl rfl).tr f10 rfl rfl).tr f11 rfl rfl).tr f12 rfl rfl).tr f13 rfl rfl).tr f14 rfl rfl).tr f15 rfl rfl).tr f16 rfl rfl).tr f17 rfl rfl).tr f18 rfl rfl).tr f19 rfl rfl).tr f20 rfl rfl).tr f21 rfl rfl).tr f22 rfl rfl).tr f23 rfl rfl).tr f24 rfl rfl).tr f25 rfl rfl).tr f26 rfl rfl).tr f27 rfl rfl).tr f28 rfl rfl).tr f29 rfl rfl).tr f30 rfl rfl).tr f31 rfl rfl).tr f32 rfl rfl).tr f33 rfl rfl) h346
                                                                · have h347 := h254.2 c255
                                                                  exact hq _ _ ((((((((((((((((((((((((((((((((zSm.rf.tr f1 rfl rfl).tr f2 rfl rfl).tr f3 rfl rfl).tr f4 rfl rfl).tr f5 rfl rfl).tr f6 rfl rfl).tr f7 rfl rfl).tr f8 rfl rfl).tr f9 rfl rfl).tr f10 rfl rfl).tr f11 rfl rfl).tr f12 rfl rfl).tr f13 rfl rfl).tr f14 rfl rfl).tr f15 rfl rfl).tr f16 rfl rfl).tr f17 rfl rfl).tr f18 rfl rfl).tr f19 rfl rfl).tr f20 rfl rfl).tr f21 rfl rfl).tr f22 rfl rfl).tr f23 rfl rfl).tr f24 rfl rfl).tr f25 rfl rfl).tr f26 rfl rfl).tr f27 rfl rfl).tr f28 rfl rfl).tr f29 rfl rfl).tr f30 rfl rfl).tr f31 rfl rfl).tr f32 rfl rfl) h347
                                                              · have h348 := h246.2 c247
                                                                exact hq _ _ (((((((((((((((((((((((((((((((zSm.rf.tr f1 rfl rfl).tr f2 rfl rfl).tr f3 rfl rfl).tr f4 rfl rfl).tr f5 rfl rfl).tr f6 rfl rfl).tr f7 rfl rfl).tr f8 rfl rfl).tr f9 rfl rfl).tr f10 rfl rfl).tr f11 rfl rfl).tr f12 rfl rfl).tr f13 rfl rfl).tr f14 rfl rfl).tr f15 rfl rfl).tr f16 rfl rfl).tr f17 rfl rfl).tr f18 rfl rfl).tr f19 rfl rfl).tr f20 rfl rfl).tr f21 rfl rfl).tr f22 rfl rfl).tr f23 rfl rfl).tr f24 rfl rfl).tr f25 rfl rfl).tr f26 rfl rfl).tr f27 rfl rfl).tr f28 rfl rfl).tr f29 rfl rfl).tr f30 rfl rfl).tr f31 rfl rfl) h348
                                                            · have h349 := h238.2 c239
                                                              exact hq _ _ ((((((((((((((((((((((((((((((zSm.rf.tr f1 rfl rfl).tr f2 rfl rfl).tr f3 rfl rfl).tr f4 rfl rfl).tr f5 rfl rfl).tr f6 rfl rfl).tr f7 rfl rfl).tr f8 rfl rfl).tr f9 rfl rfl).tr f10 rfl rfl).tr f11 rfl rfl).tr f12 rfl rfl).tr f13 rfl rfl).tr f14 rfl rfl).tr f15 rfl rfl).tr f16 rfl rfl).tr f17 rfl rfl).tr f18 rfl rfl).tr f19 rfl rfl).tr f20 rfl rfl).tr f21 rfl rfl).tr f22 rfl rfl).tr f23 rfl rfl).tr f24 rfl rfl).tr f25 rfl rfl).tr f26 rfl rfl).tr f27 rfl rfl).tr f28 rfl rfl).tr f29 rfl rfl).tr f30 rfl rfl) h349
                                                          · have h350 := h230.2 c231
                                                            exact hq _ _ (((((((((((((((((((((((((((((zSm.rf.tr f1 rfl rfl).tr f2 rfl rfl).tr f3 rfl rfl).tr f4 rfl rfl).tr f5 rfl rfl).tr f6 rfl rfl).tr f7 rfl rfl).tr f8 rfl rfl).tr f9 rfl rfl).tr f10 rfl rfl).tr f11 rfl rfl).tr f12 rfl rfl).tr f13 rfl rfl).tr f14 rfl rfl).tr f15 rfl rfl).tr f16 rfl rfl).tr f17 rfl rfl).tr f18 rfl rfl).tr f19 rfl rfl).tr f20 rfl rfl).tr f21 rfl rfl).tr f22 rfl rfl).tr f23 rfl rfl).tr f24 rfl rfl).tr f25 rfl rfl).tr f26 rfl rfl).tr f27 rfl rfl).tr f28 rfl rfl).tr f29 rfl rfl) h350
                                                        · have h351 := h222.2 c223
                                                          exact hq _ _ ((((((((((((((((((((((((((((zSm.rf.tr f1 rfl rfl).tr f2 rfl rfl).tr f3 rfl rfl).tr f4 rfl rfl).tr f5 rfl rfl).tr f6 rfl rfl).tr f7 rfl rfl).tr f8 rfl rfl).tr f9 rfl rfl).tr f10 rfl rfl).tr f11 rfl rfl).tr f12 rfl rfl).tr f13 rfl rfl).tr f14 rfl rfl).tr f15 rfl rfl).tr f16 rfl rfl).tr f17 rfl rfl).tr f18 rfl rfl).tr f19 rfl rfl).tr f20 rfl rfl).tr f21 rfl rfl).tr f22 rfl rfl).tr f23 rfl rfl).tr f24 rfl rfl).tr f25 rfl rfl).tr f26 rfl rfl).tr f27 rfl rfl).tr f28 rfl rfl) h351
                                                      · have h352 := h214.2 c215
                                                        exact hq _ _ (((((((((((((((((((((((((((zSm.rf.tr f1 rfl rfl).tr f2 rfl rfl).tr f3 rfl rfl).tr f4 rfl rfl).tr f5 rfl rfl).tr f6 rfl rfl).tr f7 rfl rfl).tr f8 rfl rfl).tr f9 rfl rfl).tr f10 rfl rfl).tr f11 rfl rfl).tr f12 rfl rfl).tr f13 rfl rfl).tr f14 rfl rfl).tr f15 rfl rfl).tr f16 rfl rfl).tr f17 rfl rfl).tr f18 rfl rfl).tr f19 rfl rfl).tr f20 rfl rfl).tr f21 rfl rfl).tr f22 rfl rfl).tr f23 rfl rfl).tr f24 rfl rfl).tr f25 rfl rfl).tr f26 rfl rfl).tr f27 rfl rfl) h352
                                                    · have h353 := h206.2 c207
                                                      exact hq _ _ ((((((((((((((((((((((((((zSm.rf.tr f1 rfl rfl).tr f2 rfl rfl).tr f3 rfl rfl).tr f4 rfl rfl).tr f5 rfl rfl).tr f6 rfl rfl).tr f7 rfl rfl).tr f8 rfl rfl).tr f9 rfl rfl).tr f10 rfl rfl).tr f11 rfl rfl).tr f12 rfl rfl).tr f13 rfl rfl).tr f14 rfl rfl).tr f15 rfl rfl).tr f16 rfl rfl).tr f17 rfl rfl).tr f18 rfl rfl).tr f19 rfl rfl).tr f20 rfl rfl).tr f21 rfl rfl).tr f22 rfl rfl).tr f23 rfl rfl).tr f24 rfl rfl).tr f25 rfl rfl).tr f26 rfl rfl) h353
                                                  · have h354 := h198.2 c199
                                                    exact hq _ _ (((((((((((((((((((((((((zSm.rf.tr f1 rfl rfl).tr f2 rfl rfl).tr f3 rfl rfl).tr f4 rfl rfl).tr f5 rfl rfl).tr f6 rfl rfl).tr f7 rfl rfl).tr f8 rfl rfl).tr f9 rfl rfl).tr f10 rfl rfl).tr f11 rfl rfl).tr f12 rfl rfl).tr f13 rfl rfl).tr f14 rfl rfl).tr f15 rfl rfl).tr f16 rfl rfl).tr f17 rfl rfl).tr f18 rfl rfl).tr f19 rfl rfl).tr f20 rfl rfl).tr f21 rfl rfl).tr f22 rfl rfl).tr f23 rfl rfl).tr f24 rfl rfl).tr f25 rfl rfl) h354
                                                · have h355 := h190.2 c191
                                                  exact hq _ _ ((((((((((((((((((((((((zSm.rf.tr f1 rfl rfl).tr f2 rfl rfl).tr f3 rfl rfl).tr f4 rfl rfl).tr f5 rfl rfl).tr f6 rfl rfl).tr f7 rfl rfl).tr f8 rfl rfl).tr f9 rfl rfl).tr f10 rfl rfl).tr f11 rfl rfl).tr f12 rfl rfl).tr f13 rfl rfl).tr f14 rfl rfl).tr f15 rfl rfl).tr f16 rfl rfl).tr f17 rfl rfl).tr f18 rfl rfl).tr f19 rfl rfl).tr f20 rfl rfl).tr f21 rfl rfl).tr f22 rfl rfl).tr f23 rfl rfl).tr f24 rfl rfl) h355
                                              · have h356 := h182.2 c183
                                                exact hq _ _ (((((((((((((((((((((((zSm.rf.tr f1 rfl rfl).tr f2 rfl rfl).tr f3 rfl rfl).tr f4 rfl rfl).tr f5 rfl rfl).tr f6 rfl rfl).tr f7 rfl rfl).tr f8 rfl rfl).tr f9 rfl rfl).tr f10 rfl rfl).tr f11 rfl rfl).tr f12 rfl rfl).tr f13 rfl rfl).tr f14 rfl rfl).tr f15 rfl rfl).tr f16 rfl rfl).tr f17 rfl rfl).tr f18 rfl rfl).tr f19 rfl rfl).tr f20 rfl rfl).tr f21 rfl rfl).tr f22 rfl rfl).tr f23 rfl rfl) h356
                                            · have h357 := h174.2 c175
                                              exact hq _ _ ((((((((((((((((((((((zSm.rf.tr f1 rfl rfl).tr f2 rfl rfl).tr f3 rfl rfl).tr f4 rfl rfl).tr f5 rfl rfl).tr f6 rfl rfl).tr f7 rfl rfl).tr f8 rfl rfl).tr f9 rfl rfl).tr f10 rfl rfl).tr f11 rfl rfl).tr f12 rfl rfl).tr f13 rfl rfl).tr f14 rfl rfl).tr f15 rfl rfl).tr f16 rfl rfl).tr f17 rfl rfl).tr f18 rfl rfl).tr f19 rfl rfl).tr f20 rfl rfl).tr f21 rfl rfl).tr f22 rfl rfl) h357
                                          · have h358 := h166.2 c167
                                            exact hq _ _ (((((((((((((((((((((zSm.rf.tr f1 rfl rfl).tr f2 rfl rfl).tr f3 rfl rfl).tr f4 rfl rfl).tr f5 rfl rfl).tr f6 rfl rfl).tr f7 rfl rfl).tr f8 rfl rfl).tr f9 rfl rfl).tr f10 rfl rfl).tr f11 rfl rfl).tr f12 rfl rfl).tr f13 rfl rfl).tr f14 rfl rfl).tr f15 rfl rfl).tr f16 rfl rfl).tr f17 rfl rfl).tr f18 rfl rfl).tr f19 rfl rfl).tr f20 rfl rfl).tr f21 rfl rfl) h358
                                        · have h359 := h158.2 c159
                                          exact hq _ _ ((((((((((((((((((((zSm.rf.tr f1 rfl rfl).tr f2 rfl rfl).tr f3 rfl rfl).tr f4 rfl rfl).tr f5 rfl rfl).tr f6 rfl rfl).tr f7 rfl rfl).tr f8 rfl rfl).tr f9 rfl rfl).tr f10 rfl rfl).tr f11 rfl rfl).tr f12 rfl rfl).tr f13 rfl rfl).tr f14 rfl rfl).tr f15 rfl rfl).tr f16 rfl rfl).tr f17 rfl rfl).tr f18 rfl rfl).tr f19 rfl rfl).tr f20 rfl rfl) h359
                                      · have h360 := h150.2 c151
                                        exact hq _ _ (((((((((((((((((((zSm.rf.tr f1 rfl rfl).tr f2 rfl rfl).tr f3 rfl rfl).tr f4 rfl rfl).tr f5 rfl rfl).tr f6 rfl rfl).tr f7 rfl rfl).tr f8 rfl rfl).tr f9 rfl rfl).tr f10 rfl rfl).tr f11 rfl rfl).tr f12 rfl rfl).tr f13 rfl rfl).tr f14 rfl rfl).tr f15 rfl rfl).tr f16 rfl rfl).tr f17 rfl rfl).tr f18 rfl rfl).tr f19 rfl rfl) h360
                                    · have h361 := h142.2 c143
                                      exact hq _ _ ((((((((((((((((((zSm.rf.tr f1 rfl rfl).tr f2 rfl rfl).tr f3 rfl rfl).tr f4 rfl rfl).tr f5 rfl rfl).tr f6 rfl rfl).tr f7 rfl rfl).tr f8 rfl rfl).tr f9 rfl rfl).tr f10 rfl rfl).tr f11 rfl rfl).tr f12 rfl rfl).tr f13 rfl rfl).tr f14 rfl rfl).tr f15 rfl rfl).tr f16 rfl rfl).tr f17 rfl rfl).tr f18 rfl rfl) h361
                                  · have h362 := h134.2 c135
                                    exact hq _ _ (((((((((((((((((zSm.rf.tr f1 rfl rfl).tr f2 rfl rfl).tr f3 rfl rfl).tr f4 rfl rfl).tr f5 rfl rfl).tr f6 rfl rfl).tr f7 rfl rfl).tr f8 rfl rfl).tr f9 rfl rfl).tr f10 rfl rfl).tr f11 rfl rfl).tr f12 rfl rfl).tr f13 rfl rfl).tr f14 rfl rfl).tr f15 rfl rfl).tr f16 rfl rfl).tr f17 rfl rfl) h362
                                · have h363 := h126.2 c127
                                  exact hq _ _ ((((((((((((((((zSm.rf.tr f1 rfl rfl).tr f2 rfl rfl).tr f3 rfl rfl).tr f4 rfl rfl).tr f5 rfl rfl).tr f6 rfl rfl).tr f7 rfl rfl).tr f8 rfl rfl).tr f9 rfl rfl).tr f10 rfl rfl).tr f11 rfl rfl).tr f12 rfl rfl).tr f13 rfl rfl).tr f14 rfl rfl).tr f15 rfl rfl).tr f16 rfl rfl) h363
                              · have h364 := h118.2 c119
                                exact hq _ _ (((((((((((((((zSm.rf.tr f1 rfl rfl).tr f2 rfl rfl).tr f3 rfl rfl).tr f4 rfl rfl).tr f5 rfl rfl).tr f6 rfl rfl).tr f7 rfl rfl).tr f8 rfl rfl).tr f9 rfl rfl).tr f10 rfl rfl).tr f11 rfl rfl).tr f12 rfl rfl).tr f13 rfl rfl).tr f14 rfl rfl).tr f15 rfl rfl) h364
                            · have h365 := h110.2 c111
                              exact hq _ _ ((((((((((((((zSm.rf.tr f1 rfl rfl).tr f2 rfl rfl).tr f3 rfl rfl).tr f4 rfl rfl).tr f5 rfl rfl).tr f6 rfl rfl).tr f7 rfl rfl).tr f8 rfl rfl).tr f9 rfl rfl).tr f10 rfl rfl).tr f11 rfl rfl).tr f12 rfl rfl).tr f13 rfl rfl).tr f14 rfl rfl) h365
                          · have h366 := h102.2 c103
                            exact hq _ _ (((((((((((((zSm.rf.tr f1 rfl rfl).tr f2 rfl rfl).tr f3 rfl rfl).tr f4 rfl rfl).tr f5 rfl rfl).tr f6 rfl rfl).tr f7 rfl rfl).tr f8 rfl rfl).tr f9 rfl rfl).tr f10 rfl rfl).tr f11 rfl rfl).tr f12 rfl rfl).tr f13 rfl rfl) h366
                        · have h367 := h94.2 c95
                          exact hq _ _ ((((((((((((zSm.rf.tr f1 rfl rfl).tr f2 rfl rfl).tr f3 rfl rfl).tr f4 rfl rfl).tr f5 rfl rfl).tr f6 rfl rfl).tr f7 rfl rfl).tr f8 rfl rfl).tr f9 rfl rfl).tr f10 rfl rfl).tr f11 rfl rfl).tr f12 rfl rfl) h367
                      · have h368 := h86.2 c87
                        exact hq _ _ (((((((((((zSm.rf.tr f1 rfl rfl).tr f2 rfl rfl).tr f3 rfl rfl).tr f4 rfl rfl).tr f5 rfl rfl).tr f6 rfl rfl).tr f7 rfl rfl).tr f8 rfl rfl).tr f9 rfl rfl).tr f10 rfl rfl).tr f11 rfl rfl) h368
                    · have h369 := h78.2 c79
                      exact hq _ _ ((((((((((zSm.rf.tr f1 rfl rfl).tr f2 rfl rfl).tr f3 rfl rfl).tr f4 rfl rfl).tr f5 rfl rfl).tr f6 rfl rfl).tr f7 rfl rfl).tr f8 rfl rfl).tr f9 rfl rfl).tr f10 rfl rfl) h369
                  · have h370 := h70.2 c71
                    exact hq _ _ (((((((((zSm.rf.tr f1 rfl rfl).tr f2 rfl rfl).tr f3 rfl rfl).tr f4 rfl rfl).tr f5 rfl rfl).tr f6 rfl rfl).tr f7 rfl rfl).tr f8 rfl rfl).tr f9 rfl rfl) h370
                · have h371 := h62.2 c63
                  exact hq _ _ ((((((((zSm.rf.tr f1 rfl rfl).tr f2 rfl rfl).tr f3 rfl rfl).tr f4 rfl rfl).tr f5 rfl rfl).tr f6 rfl rfl).tr f7 rfl rfl).tr f8 rfl rfl) h371
              · have h372 := h54.2 c55
                exact hq _ _ (((((((zSm.rf.tr f1 rfl rfl).tr f2 rfl rfl).tr f3 rfl rfl).tr f4 rfl rfl).tr f5 rfl rfl).tr f6 rfl rfl).tr f7 rfl rfl) h372
            · have h373 := h46.2 c47
              exact hq _ _ ((((((zSm.rf.tr f1 rfl rfl).tr f2 rfl rfl).tr f3 rfl rfl).tr f4 rfl rfl).tr f5 rfl rfl).tr f6 rfl rfl) h373
          · have h374 := h38.2 c39
            exact hq _ _ (((((zSm.rf.tr f1 rfl rfl).tr f2 rfl rfl).tr f3 rfl rfl).tr f4 rfl rfl).tr f5 rfl rfl) h374
        · have h375 := h30.2 c31
          exact hq _ _ ((((zSm.rf.tr f1 rfl rfl).tr f2 rfl rfl).tr f3 rfl rfl).tr f4 rfl rfl) h375
      · have h376 := h22.2 c23
        exact hq _ _ (((zSm.rf.tr f1 rfl rfl).tr f2 rfl rfl).tr f3 rfl rfl) h376
    · have h377 := h14.2 c15
      exact hq _ _ ((zSm.rf.tr f1 rfl rfl).tr f2 rfl rfl) h377
  · have h378 := h6.2 c7
    exact hq _ _ (zSm.rf.tr f1 rfl rfl) h378
theorem ffm_isLetter {s0 : zS} {a0 : Int} {Q Q' : Int → zS → Prop} (hw : wr_isLetter s0 a0 Q) (hq : ∀ (e : Int) (A' : zS), zSm s0 A' [] [] → Q e A' → Q' e A') : wr_isLetter s0 a0 Q' := by
  unfold wr_isLetter at hw ⊢
  refine ⟨fun c1 => ?_, fun c1 => ?_⟩
  · have h2 := hw.1 c1
    refine ⟨fun c3 => ?_, fun c3 => ?_⟩
    · have h4 := h2.1 c3
      exact hq _ _ zSm.rf h4
    · have h5 := h2.2 c3
      refine ⟨fun c6 => ?_, fun c6 => ?_⟩
      · have h7 := h5.1 c6
        exact hq _ _ zSm.rf h7
      · have h8 := h5.2 c6
        exact hq _ _ zSm.rf h8
  · have h9 := hw.2 c1
    refine ⟨fun c10 => ?_, fun c10 => ?_⟩
    · have h11 := h9.1 c10
      exact hq _ _ zSm.rf h11
    · have h12 := h9.2 c10
      refine ⟨fun c13 => ?_, fun c13 => ?_⟩
      · have h14 := h12.1 c13
        exact hq _ _ zSm.rf h14
      · have h15 := h12.2 c13
        refine ⟨fun c16 => ?_, fun c16 => ?_⟩
        · have h17 := h15.1 c16
          exact hq _ _ zSm.rf h17
        · have h18 := h15.2 c16
          exact hq _ _ zSm.rf h18
theorem ffm_isDigit {s0 : zS} {a0 : Int} {Q Q' : Int → zS → Prop} (hw : wr_isDigit s0 a0 Q) (hq : ∀ (e : Int) (A' : zS), zSm s0 A' [] [] → Q e A' → Q' e A') : wr_isDigit s0 a0 Q' := by
  unfold wr_isDigit at hw ⊢
  refine ⟨fun c1 => ?_, fun c1 => ?_⟩
  · have h2 := hw.1 c1
    exact hq _ _ zSm.rf h2
  · have h3 := hw.2 c1
    refine ⟨fun c4 => ?_, fun c4 => ?_⟩
    · have h5 := h3.1 c4
      exact hq _ _ zSm.rf h5
    · have h6 := h3.2 c4
      exact hq _ _ zSm.rf h6
theorem ffm_isRest {s0 : zS} {a0 : Int} {Q Q' : Int → zS → Prop} (hw : wr_isRest s0 a0 Q) (hq : ∀ (e : Int) (A' : zS), zSm s0 A' [] [] → Q e A' → Q' e A') : wr_isRest s0 a0 Q' := by
  unfold wr_isRest at hw ⊢
  refine ffm_isLetter hw (fun r1 s2 f1 h6 => ?_)
  refine ⟨fun c7 => ?_, fun c7 => ?_⟩
  · have h8 := h6.1 c7
    exact hq _ _ (zSm.rf.tr f1 rfl rfl) h8
  · have h9 := h6.2 c7
    refine ffm_isDigit h9 (fun r10 s11 f2 h15 => ?_)
    refine ⟨fun c16 => ?_, fun c16 => ?_⟩
    · have h17 := h15.1 c16
      exact hq _ _ ((zSm.rf.tr f1 rfl rfl).tr f2 rfl rfl) h17
    · have h18 := h15.2 c16
      refine ⟨fun c19 => ?_, fun c19 => ?_⟩
      · have h20 := h18.1 c19
        exact hq _ _ ((zSm.rf.tr f1 rfl rfl).tr f2 rfl rfl) h20
      · have h21 := h18.2 c19
        refine ⟨fun c22 => ?_, fun c22 => ?_⟩
        · have h23 := h21.1 c22
          exact hq _ _ ((zSm.rf.tr f1 rfl rfl).tr f2 rfl rfl) h23
        · have h24 := h21.2 c22
          exact hq _ _ ((zSm.rf.tr f1 rfl rfl).tr f2 rfl rfl) h24
theorem ffm_look {s0 : zS} {a0 : Int} {Q Q' : Int → zS → Prop} (hw : wr_look s0 a0 Q) (hq : ∀ (e : Int) (A' : zS), zSm s0 A' [] [] → Q e A' → Q' e A') : wr_look s0 a0 Q' := by
  unfold wr_look at hw ⊢
  refine ⟨fun c1 => ?_, fun c1 => ?_⟩
  · have h2 := hw.1 c1
    exact hq _ _ zSm.rf h2
  · have h3 := hw.2 c1
    obtain ⟨o4, h5⟩ := h3
    refine ⟨o4, ?_⟩
    obtain ⟨o6, h7⟩ := h5
    refine ⟨o6, ?_⟩
    exact hq _ _ zSm.rf h7
theorem ffm_endsLine {s0 : zS} {a0 : Int} {Q Q' : Int → zS → Prop} (hw : wr_endsLine s0 a0 Q) (hq : ∀ (e : Int) (A' : zS), zSm s0 A' [] [] → Q e A' → Q' e A') : wr_endsLine s0 a0 Q' := by
  unfold wr_endsLine at hw ⊢
  refine ⟨fun c1 => ?_, fun c1 => ?_⟩
  · have h2 := hw.1 c1
    exact hq _ _ zSm.rf h2
  · have h3 := hw.2 c1
    refine ⟨fun c4 => ?_, fun c4 => ?_⟩
    · have h5 := h3.1 c4
      exact hq _ _ zSm.rf h5
    · have h6 := h3.2 c4
      refine ⟨fun c7 => ?_, fun c7 => ?_⟩
      · have h8 := h6.1 c7
        exact hq _ _ zSm.rf h8
      · have h9 := h6.2 c7
        refine ⟨fun c10 => ?_, fun c10 => ?_⟩
        · have h11 := h9.1 c10
          exact hq _ _ zSm.rf h11
        · have h12 := h9.2 c10
          refine ⟨fun c13 => ?_, fun c13 => ?_⟩
          · have h14 := h12.1 c13
            exact hq _ _ zSm.rf h14
          · have h15 := h12.2 c13
            refine ⟨fun c16 => ?_, fun c16 => ?_⟩
            · have h17 := h15.1 c16
              exact hq _ _ zSm.rf h17
            · have h18 := h15.2 c16
              refine ⟨fun c19 => ?_, fun c19 => ?_⟩
              · have h20 := h18.1 c19
                exact hq _ _ zSm.rf h20
              · have h21 := h18.2 c19
                refine ⟨fun c22 => ?_, fun c22 => ?_⟩
                · have h23 := h21.1 c22
                  exact hq _ _ zSm.rf h23
                · have h24 := h21.2 c22
                  refine ⟨fun c25 => ?_, fun c25 => ?_⟩
                  · have h26 := h24.1 c25
                    exact hq _ _ zSm.rf h26
                  · have h27 := h24.2 c25
                    refine ⟨fun c28 => ?_, fun c28 => ?_⟩
                    · have h29 := h27.1 c28
                      exact hq _ _ zSm.rf h29
                    · have h30 := h27.2 c28
                      refine ⟨fun c31 => ?_, fun c31 => ?_⟩
                      · have h32 := h30.1 c31
                        exact hq _ _ zSm.rf h32
                      · have h33 := h30.2 c31
                        refine ⟨fun c34 => ?_, fun c34 => ?_⟩
                        · have h35 := h33.1 c34
                          exact hq _ _ zSm.rf h35
                        · have h36 := h33.2 c34
                          exact hq _ _ zSm.rf h36
theorem ffm_isDoless {s0 : zS} {a0 : Int} {Q Q' : Int → zS → Prop} (hw : wr_isDoless s0 a0 Q) (hq : ∀ (e : Int) (A' : zS), zSm s0 A' [] [] → Q e A' → Q' e A') : wr_isDoless s0 a0 Q' := by
  unfold wr_isDoless at hw ⊢
  refine ⟨fun c1 => ?_, fun c1 => ?_⟩
  · have h2 := hw.1 c1
    exact hq _ _ zSm.rf h2
  · have h3 := hw.2 c1
    refine ⟨fun c4 => ?_, fun c4 => ?_⟩
    · have h5 := h3.1 c4
      exact hq _ _ zSm.rf h5
    · have h6 := h3.2 c4
      refine ⟨fun c7 => ?_, fun c7 => ?_⟩
      · have h8 := h6.1 c7
        exact hq _ _ zSm.rf h8
      · have h9 := h6.2 c7
        refine ⟨fun c10 => ?_, fun c10 => ?_⟩
        · have h11 := h9.1 c10
          exact hq _ _ zSm.rf h11
        · have h12 := h9.2 c10
          refine ⟨fun c13 => ?_, fun c13 => ?_⟩
          · have h14 := h12.1 c13
            exact hq _ _ zSm.rf h14
          · have h15 := h12.2 c13
            refine ⟨fun c16 => ?_, fun c16 => ?_⟩
            · have h17 := h15.1 c16
              exact hq _ _ zSm.rf h17
            · have h18 := h15.2 c16
              refine ⟨fun c19 => ?_, fun c19 => ?_⟩
              · have h20 := h18.1 c19
                exact hq _ _ zSm.rf h20
              · have h21 := h18.2 c19
                refine ⟨fun c22 => ?_, fun c22 => ?_⟩
                · have h23 := h21.1 c22
                  exact hq _ _ zSm.rf h23
                · have h24 := h21.2 c22
                  refine ⟨fun c25 => ?_, fun c25 => ?_⟩
                  · have h26 := h24.1 c25
                    exact hq _ _ zSm.rf h26
                  · have h27 := h24.2 c25
                    refine ⟨fun c28 => ?_, fun c28 => ?_⟩
                    · have h29 := h27.1 c28
                      exact hq _ _ zSm.rf h29
                    · have h30 := h27.2 c28
                      refine ⟨fun c31 => ?_, fun c31 => ?_⟩
                      · have h32 := h30.1 c31
                        exact hq _ _ zSm.rf h32
                      · have h33 := h30.2 c31
                        refine ⟨fun c34 => ?_, fun c34 => ?_⟩
                        · have h35 := h33.1 c34
                          exact hq _ _ zSm.rf h35
                        · have h36 := h33.2 c34
                          refine ⟨fun c37 => ?_, fun c37 => ?_⟩
                          · have h38 := h36.1 c37
                            exact hq _ _ zSm.rf h38
                          · have h39 := h36.2 c37
                            refine ⟨fun c40 => ?_, fun c40 => ?_⟩
                            · have h41 := h39.1 c40
                              exact hq _ _ zSm.rf h41
                            · have h42 := h39.2 c40
                              refine ⟨fun c43 => ?_, fun c43 => ?_⟩
                              · have h44 := h42.1 c43
                                exact hq _ _ zSm.rf h44
                              · have h45 := h42.2 c43
                                exact hq _ _ zSm.rf h45
theorem ffj_isBeginning_92 {Q Q' : Int → zS → Prop}  {s0 : zS} {x0 : Int} (hq : ∀ (e : Int) (A' : zS), zSm s0 A' [] [] → Q e A' → Q' e A')  (hw : wr_isBeginning_92 Q  s0 x0) : wr_isBeginning_92 Q'  s0 x0 := by
  unfold wr_isBeginning_92 at hw ⊢
  refine ⟨fun c1 => ?_, fun c1 => ?_⟩
  · have h2 := hw.1 c1
    exact hq _ _ zSm.rf h2
  · have h3 := hw.2 c1
    refine ⟨fun c4 => ?_, fun c4 => ?_⟩
    · have h5 := h3.1 c4
      exact hq _ _ zSm.rf h5
    · have h6 := h3.2 c4
      refine ⟨fun c7 => ?_, fun c7 => ?_⟩
      · have h8 := h6.1 c7
        exact hq _ _ zSm.rf h8
      · have h9 := h6.2 c7
        refine ⟨fun c10 => ?_, fun c10 => ?_⟩
        · have h11 := h9.1 c10
          exact hq _ _ zSm.rf h11
        · have h12 := h9.2 c10
          exact hq _ _ zSm.rf h12
theorem ffm_isBeginning {s0 : zS} {a0 : Int} {Q Q' : Int → zS → Prop} (hw : wr_isBeginning s0 a0 Q) (hq : ∀ (e : Int) (A' : zS), zSm s0 A' [] [] → Q e A' → Q' e A') : wr_isBeginning s0 a0 Q' := by
  unfold wr_isBeginning at hw ⊢
  refine ⟨fun c1 => ?_, fun c1 => ?_⟩
  · have h2 := hw.1 c1
    exact hq _ _ zSm.rf h2
  · have h3 := hw.2 c1
    refine ⟨fun c4 => ?_, fun c4 => ?_⟩
    · have h5 := h3.1 c4
      exact hq _ _ zSm.rf h5
    · have h6 := h3.2 c4
      refine ⟨fun c7 => ?_, fun c7 => ?_⟩
      · have h8 := h6.1 c7
        exact hq _ _ zSm.rf h8
      · have h9 := h6.2 c7
        refine ⟨fun c10 => ?_, fun c10 => ?_⟩
        · have h11 := h9.1 c10
          exact hq _ _ zSm.rf h11
        · have h12 := h9.2 c10
          refine ⟨fun c13 => ?_, fun c13 => ?_⟩
          · have h14 := h12.1 c13
            exact hq _ _ zSm.rf h14
          · have h15 := h12.2 c13
            refine ⟨fun c16 => ?_, fun c16 => ?_⟩
            · have h17 := h15.1 c16
              exact hq _ _ zSm.rf h17
            · have h18 := h15.2 c16
              refine ⟨fun c19 => ?_, fun c19 => ?_⟩
              · have h20 := h18.1 c19
                refine ⟨fun c21 => ?_, fun c21 => ?_⟩
                · have h22 := h20.1 c21
                  exact hq _ _ zSm.rf h22
                · have h23 := h20.2 c21
                  refine ⟨fun c24 => ?_, fun c24 => ?_⟩
                  · have h25 := h23.1 c24
                    exact hq _ _ zSm.rf h25
                  · have h26 := h23.2 c24
                    refine ⟨fun c27 => ?_, fun c27 => ?_⟩
                    · have h28 := h26.1 c27
                      exact hq _ _ zSm.rf h28
                    · have h29 := h26.2 c27
                      refine ⟨fun c30 => ?_, fun c30 => ?_⟩
                      · have h31 := h29.1 c30
                        exact hq _ _ zSm.rf h31
                      · have h32 := h29.2 c30
                        refine ⟨fun c33 => ?_, fun c33 => ?_⟩
                        · have h34 := h32.1 c33
                          exact hq _ _ zSm.rf h34
                        · have h35 := h32.2 c33
                          refine ⟨fun c36 => ?_, fun c36 => ?_⟩
                          · have h37 := h35.1 c36
                            refine ffm_isDoless h37 (fun r38 s39 f1 h43 => ?_)
                            refine ⟨fun c44 => ?_, fun c44 => ?_⟩
                            · have h45 := h43.1 c44
                              exact ffj_isBeginning_92 (fun e A' f q => hq e A' ((zSm.rf.tr f1 rfl rfl).tr f rfl rfl) q)  h45
                            · have h46 := h43.2 c44
                              refine ⟨fun c47 => ?_, fun c47 => ?_⟩
                              · have h48 := h46.1 c47
                                exact hq _ _ (zSm.rf.tr f1 rfl rfl) h48
                              · have h49 := h46.2 c47
                                exact ffj_isBeginning_92 (fun e A' f q => hq e A' ((zSm.rf.tr f1 rfl rfl).tr f rfl rfl) q)  h49
                          · have h50 := h35.2 c36
                            exact hq _ _ zSm.rf h50
              · have h51 := h18.2 c19
                exact hq _ _ zSm.rf h51
theorem ffj_token_73 {Q Q' : zS → Prop}  {s0 : zS} {x1 : Int} {x2 : Int} {x3 : Int} (hq : ∀ (A' : zS), zSm s0 A' [9, 10, 11] [8, 20] → Q A' → Q' A')  (hw : wr_token_73 Q  s0 x1 x2 x3) : wr_token_73 Q'  s0 x1 x2 x3 := by
  unfold wr_token_73 at hw ⊢
  obtain ⟨o1, h2⟩ := hw
  refine ⟨o1, ?_⟩
  obtain ⟨o3, h4⟩ := h2
  refine ⟨o3, ?_⟩
  obtain ⟨o7, h8⟩ := h4
  refine ⟨o7, ?_⟩
  obtain ⟨o9, h10⟩ := h8
  refine ⟨o9, ?_⟩
  obtain ⟨o13, h14⟩ := h10
  refine ⟨o13, ?_⟩
  obtain ⟨o15, h16⟩ := h14
  refine ⟨o15, ?_⟩
  obtain ⟨o19, h20⟩ := h16
  refine ⟨o19, ?_⟩
  exact hq _ (((((zSm.rf.pa rfl).pa rfl).pa rfl).pv rfl).pv rfl) h20
theorem ffm_token {s0 : zS} {a0 : Int} {a1 : Int} {a2 : Int} {Q Q' : zS → Prop} (hw : wr_token s0 a0 a1 a2 Q) (hq : ∀ (A' : zS), zSm s0 A' [9, 10, 11] [8, 20] → Q A' → Q' A') : wr_token s0 a0 a1 a2 Q' := by
  unfold wr_token at hw ⊢
  refine ⟨fun c1 => ?_, fun c1 => ?_⟩
  · have h2 := hw.1 c1
    exact ffj_token_73 (fun A' f q => hq A' (zSm.rf.tr f rfl rfl) q)  h2
  · have h3 := hw.2 c1
    refine ⟨fun c4 => ?_, fun c4 => ?_⟩
    · have h5 := h3.1 c4
      exact ffj_token_73 (fun A' f q => hq A' (zSm.rf.tr f rfl rfl) q)  h5
    · have h6 := h3.2 c4
      obtain ⟨o7, h8⟩ := h6
      refine ⟨o7, ?_⟩
      obtain ⟨o9, h10⟩ := h8
      refine ⟨o9, ?_⟩
      refine ffm_endsLine h10 (fun r11 s12 f1 h16 => ?_)
      refine ⟨fun c17 => ?_, fun c17 => ?_⟩
      · have h18 := h16.1 c17
        exact ffj_token_73 (fun A' f q => hq A' ((zSm.rf.tr f1 rfl rfl).tr f rfl rfl) q)  h18
      · have h19 := h16.2 c17
        refine ffm_isBeginning h19 (fun r20 s21 f2 h25 => ?_)
        refine ⟨fun c26 => ?_, fun c26 => ?_⟩
        · have h27 := h25.1 c26
          exact ffj_token_73 (fun A' f q => hq A' (((zSm.rf.tr f1 rfl rfl).tr f2 rfl rfl).tr f rfl rfl) q)  h27
        · have h28 := h25.2 c26
          obtain ⟨o29, h30⟩ := h28
          refine ⟨o29, ?_⟩
          obtain ⟨o31, h32⟩ := h30
          refine ⟨o31, ?_⟩
          obtain ⟨o35, h36⟩ := h32
          refine ⟨o35, ?_⟩
          obtain ⟨o37, h38⟩ := h36
          refine ⟨o37, ?_⟩
          obtain ⟨o41, h42⟩ := h38
          refine ⟨o41, ?_⟩
          exact ffj_token_73 (fun A' f q => hq A' ((((((zSm.rf.tr f1 rfl rfl).tr f2 rfl rfl).pa rfl).pa rfl).pv rfl).tr f rfl rfl) q)  h42
theorem ffm_oneC {s0 : zS} {a0 : Int} {a1 : Int} {Q Q' : Int → zS → Prop} (hw : wr_oneC s0 a0 a1 Q) (hq : ∀ (e : Int) (A' : zS), zSm s0 A' [] [21] → Q e A' → Q' e A') : wr_oneC s0 a0 a1 Q' := by
  unfold wr_oneC at hw ⊢
  refine ffm_look hw (fun r1 s2 f1 h6 => ?_)
  refine ⟨fun c7 => ?_, fun c7 => ?_⟩
  · have h8 := h6.1 c7
    exact hq _ _ (zSm.rf.tr f1 rfl rfl) h8
  · have h9 := h6.2 c7
    refine ⟨fun c10 => ?_, fun c10 => ?_⟩
    · have h11 := h9.1 c10
      exact hq _ _ (zSm.rf.tr f1 rfl rfl) h11
    · have h12 := h9.2 c10
      refine ⟨fun c13 => ?_, fun c13 => ?_⟩
      · have h14 := h12.1 c13
        refine ⟨fun c17 => ?_, fun c17 => ?_⟩
        · have h18 := h14.1 c17
          obtain ⟨o19, h20⟩ := h18
          refine ⟨o19, ?_⟩
          refine ffm_look h20 (fun r21 s22 f2 h26 => ?_)
          refine ⟨fun c27 => ?_, fun c27 => ?_⟩
          · have h28 := h26.1 c27
            refine ⟨fun c29 => ?_, fun c29 => ?_⟩
            · have h30 := h28.1 c29
              refine ⟨fun c31 => ?_, fun c31 => ?_⟩
              · have h32 := h30.1 c31
                refine ⟨fun c33 => ?_, fun c33 => ?_⟩
                · have h34 := h32.1 c33
                  obtain ⟨o37, h38⟩ := h34
                  refine ⟨o37, ?_⟩
                  exact hq _ _ ((((zSm.rf.tr f1 rfl rfl).pv rfl).tr f2 rfl rfl).pv rfl) h38
                · have h39 := h32.2 c33
                  refine ⟨fun c40 => ?_, fun c40 => ?_⟩
                  · have h41 := h39.1 c40
                    obtain ⟨o44, h45⟩ := h41
                    refine ⟨o44, ?_⟩
                    exact hq _ _ ((((zSm.rf.tr f1 rfl rfl).pv rfl).tr f2 rfl rfl).pv rfl) h45
                  · have h46 := h39.2 c40
                    refine ⟨fun c47 => ?_, fun c47 => ?_⟩
                    · have h48 := h46.1 c47
                      exact hq _ _ (((zSm.rf.tr f1 rfl rfl).pv rfl).tr f2 rfl rfl) h48
                    · have h49 := h46.2 c47
                      obtain ⟨o52, h53⟩ := h49
                      refine ⟨o52, ?_⟩
                      exact hq _ _ ((((zSm.rf.tr f1 rfl rfl).pv rfl).tr f2 rfl rfl).pv rfl) h53
              · have h54 := h30.2 c31
                obtain ⟨o57, h58⟩ := h54
                refine ⟨o57, ?_⟩
                exact hq _ _ ((((zSm.rf.tr f1 rfl rfl).pv rfl).tr f2 rfl rfl).pv rfl) h58
            · have h59 := h28.2 c29
              obtain ⟨o62, h63⟩ := h59
              refine ⟨o62, ?_⟩
              exact hq _ _ ((((zSm.rf.tr f1 rfl rfl).pv rfl).tr f2 rfl rfl).pv rfl) h63
          · have h64 := h26.2 c27
            obtain ⟨o67, h68⟩ := h64
            refine ⟨o67, ?_⟩
            exact hq _ _ ((((zSm.rf.tr f1 rfl rfl).pv rfl).tr f2 rfl rfl).pv rfl) h68
        · have h69 := h14.2 c17
          obtain ⟨o70, h71⟩ := h69
          refine ⟨o70, ?_⟩
          exact hq _ _ ((zSm.rf.tr f1 rfl rfl).pv rfl) h71
      · have h72 := h12.2 c13
        exact hq _ _ (zSm.rf.tr f1 rfl rfl) h72
theorem ffb_stringAt_12 {Q Q' : Int → zS → Prop} {k12 k12' : zS → Int → Int → Int → Prop} {s0 : zS} {x2 : Int} {x3 : Int} {x4 : Int} (hq : ∀ (e : Int) (A' : zS), zSm s0 A' [14, 16, 17] [15, 18, 21] → Q e A' → Q' e A') (fk12 : ∀ (A' : zS) (x0 : Int) (x1 : Int) (x2 : Int), zSm s0 A' [14, 16, 17] [15, 18, 21] → k12 A' x0 x1 x2 → k12' A' x0 x1 x2) (hw : wr_stringAt_12B Q k12 s0 x2 x3 x4) : wr_stringAt_12B Q' k12' s0 x2 x3 x4 := by
  unfold wr_stringAt_12B at hw ⊢
  refine ffm_look hw (fun r1 s2 f1 h6 => ?_)
  refine ⟨fun c7 => ?_, fun c7 => ?_⟩
  · have h8 := h6.1 c7
    obtain ⟨o9, h10⟩ := h8
    refine ⟨o9, ?_⟩
    obtain ⟨o11, h12⟩ := h10
    refine ⟨o11, ?_⟩
    obtain ⟨o15, h16⟩ := h12
    refine ⟨o15, ?_⟩
    obtain ⟨o17, h18⟩ := h16
    refine ⟨o17, ?_⟩
    obtain ⟨o21, h22⟩ := h18
    refine ⟨o21, ?_⟩
    obtain ⟨o25, h26⟩ := h22
    refine ⟨o25, ?_⟩
    obtain ⟨o29, h30⟩ := h26
    refine ⟨o29, ?_⟩
    exact hq _ _ (((((zSm.rf.tr f1 rfl rfl).pa rfl).pa rfl).pv rfl).pv rfl) h30
  · have h31 := h6.2 c7
    refine ffm_oneC h31 (fun r32 s33 f2 h37 => ?_)
    refine ⟨fun c38 => ?_, fun c38 => ?_⟩
    · have h39 := h37.1 c38
      exact hq _ _ ((zSm.rf.tr f1 rfl rfl).tr f2 rfl rfl) h39
    · have h40 := h37.2 c38
      refine ⟨fun c41 => ?_, fun c41 => ?_⟩
      · have h42 := h40.1 c41
        obtain ⟨o43, h44⟩ := h42
        refine ⟨o43, ?_⟩
        obtain ⟨o45, h46⟩ := h44
        refine ⟨o45, ?_⟩
        obtain ⟨o49, h50⟩ := h46
        refine ⟨o49, ?_⟩
        exact fk12 _ _ _ _ (((zSm.rf.tr f1 rfl rfl).tr f2 rfl rfl).pa rfl) h50
      · have h51 := h40.2 c41
        exact hq _ _ ((zSm.rf.tr f1 rfl rfl).tr f2 rfl rfl) h51
theorem ffl_stringAt_120 {Q Q' : Int → zS → Prop}  : ∀ (m : Nat) (s0 : zS) (x2 : Int) (x3 : Int) (x4 : Int), (∀ (e : Int) (A' : zS), zSm s0 A' [14, 16, 17] [15, 18, 21] → Q e A' → Q' e A') → wr_stringAt_12 Q  m s0 x2 x3 x4 → wr_stringAt_12 Q'  m s0 x2 x3 x4 := by
  intro m
  induction m with
  | zero => intro s0 x2 x3 x4 hq  hw; exact hw
  | succ m ih => intro s0 x2 x3 x4 hq  hw; exact ffb_stringAt_12 hq  (fun A' y0 y1 y2 f1 q => ih A' y0 y1 y2 (fun e A' f q => hq e A' (f1.tr f rfl rfl) q)  q) hw
theorem ffm_stringAt {s0 : zS} {a0 : Int} {Q Q' : Int → zS → Prop} (hw : wr_stringAt s0 a0 Q) (hq : ∀ (e : Int) (A' : zS), zSm s0 A' [14, 16, 17] [15, 18, 21] → Q e A' → Q' e A') : wr_stringAt s0 a0 Q' := by
  unfold wr_stringAt at hw ⊢
  obtain ⟨o1, h2⟩ := hw
  refine ⟨o1, ?_⟩
  obtain ⟨m3, h4⟩ := h2
  exact ⟨m3, ffl_stringAt_120 m3 _ _ _ _ (fun e A' f q => hq e A' (zSm.rf.tr f rfl rfl) q)  h4⟩
theorem ffj_digits_63 {Q Q' : Int → zS → Prop} {k8 k8' : zS → Int → Int → Int → Int → Int → Prop} {s0 : zS} {x1 : Int} {x2 : Int} {x3 : Int} {x4 : Int} {y0 : Int} (hq : ∀ (e : Int) (A' : zS), zSm s0 A' [] [22] → Q e A' → Q' e A') (fk8 : ∀ (A' : zS) (x0 : Int) (x1 : Int) (x2 : Int) (x3 : Int) (x4 : Int), zSm s0 A' [] [22] → k8 A' x0 x1 x2 x3 x4 → k8' A' x0 x1 x2 x3 x4) (hw : wr_digits_63 Q k8 s0 x1 x2 x3 x4 y0) : wr_digits_63 Q' k8' s0 x1 x2 x3 x4 y0 := by
  unfold wr_digits_63 at hw ⊢
  refine ⟨fun c1 => ?_, fun c1 => ?_⟩
  · have h2 := hw.1 c1
    exact fk8 _ _ _ _ _ _ zSm.rf h2
  · have h4 := hw.2 c1
    refine ⟨fun c6 => ?_, fun c6 => ?_⟩
    · have h7 := h4.1 c6
      obtain ⟨o8, h9⟩ := h7
      refine ⟨o8, ?_⟩
      exact fk8 _ _ _ _ _ _ zSm.rf h9
    · have h10 := h4.2 c6
      obtain ⟨o11, h12⟩ := h10
      refine ⟨o11, ?_⟩
      obtain ⟨o13, h14⟩ := h12
      refine ⟨o13, ?_⟩
      exact fk8 _ _ _ _ _ _ zSm.rf h14
theorem ffb_digits_8 {Q Q' : Int → zS → Prop} {k8 k8' : zS → Int → Int → Int → Int → Int → Prop} {s0 : zS} {x1 : Int} {x2 : Int} {x3 : Int} {x4 : Int} {x6 : Int} (hq : ∀ (e : Int) (A' : zS), zSm s0 A' [] [22] → Q e A' → Q' e A') (fk8 : ∀ (A' : zS) (x0 : Int) (x1 : Int) (x2 : Int) (x3 : Int) (x4 : Int), zSm s0 A' [] [22] → k8 A' x0 x1 x2 x3 x4 → k8' A' x0 x1 x2 x3 x4) (hw : wr_digits_8B Q k8 s0 x1 x2 x3 x4 x6) : wr_digits_8B Q' k8' s0 x1 x2 x3 x4 x6 := by
  unfold wr_digits_8B at hw ⊢
  refine ⟨fun c1 => ?_, fun c1 => ?_⟩
  · have h2 := hw.1 c1
    intro z3 e4 R5
    have h6 := h2 z3 e4 R5
    refine ⟨fun c9 => ?_, fun c9 => ?_⟩
    · have h10 := h6.1 c9
      exact hq _ _ (zSm.rf.pv rfl) h10
    · have h11 := h6.2 c9
      refine ⟨fun c12 => ?_, fun c12 => ?_⟩
      · have h13 := h11.1 c12
        exact hq _ _ (zSm.rf.pv rfl) h13
      · have h14 := h11.2 c12
        exact hq _ _ (zSm.rf.pv rfl) h14
  · have h15 := hw.2 c1
    refine ffm_look h15 (fun r16 s17 f1 h21 => ?_)
    refine ffm_isDigit h21 (fun r22 s23 f2 h27 => ?_)
    refine ⟨fun c28 => ?_, fun c28 => ?_⟩
    · have h29 := h27.1 c28
      refine ⟨fun c30 => ?_, fun c30 => ?_⟩
      · have h31 := h29.1 c30
        exact ffj_digits_63 (fun e A' f q => hq e A' (((zSm.rf.tr f1 rfl rfl).tr f2 rfl rfl).tr f rfl rfl) q) (fun A' x0 x1 x2 x3 x4 f q => fk8 A' x0 x1 x2 x3 x4 (((zSm.rf.tr f1 rfl rfl).tr f2 rfl rfl).tr f rfl rfl) q) h31
      · have h32 := h29.2 c30
        refine ⟨fun c33 => ?_, fun c33 => ?_⟩
        · have h34 := h32.1 c33
          exact ffj_digits_63 (fun e A' f q => hq e A' (((zSm.rf.tr f1 rfl rfl).tr f2 rfl rfl).tr f rfl rfl) q) (fun A' x0 x1 x2 x3 x4 f q => fk8 A' x0 x1 x2 x3 x4 (((zSm.rf.tr f1 rfl rfl).tr f2 rfl rfl).tr f rfl rfl) q) h34
        · have h35 := h32.2 c33
          obtain ⟨o36, h37⟩ := h35
          refine ⟨o36, ?_⟩
          exact ffj_digits_63 (fun e A' f q => hq e A' (((zSm.rf.tr f1 rfl rfl).tr f2 rfl rfl).tr f rfl rfl) q) (fun A' x0 x1 x2 x3 x4 f q => fk8 A' x0 x1 x2 x3 x4 (((zSm.rf.tr f1 rfl rfl).tr f2 rfl rfl).tr f rfl rfl) q) h37
    · have h38 := h27.2 c28
      obtain ⟨o39, h40⟩ := h38
      refine ⟨o39, ?_⟩
      exact ffj_digits_63 (fun e A' f q => hq e A' (((zSm.rf.tr f1 rfl rfl).tr f2 rfl rfl).tr f rfl rfl) q) (fun A' x0 x1 x2 x3 x4 f q => fk8 A' x0 x1 x2 x3 x4 (((zSm.rf.tr f1 rfl rfl).tr f2 rfl rfl).tr f rfl rfl) q) h40
theorem ffl_digits_80 {Q Q' : Int → zS → Prop}  : ∀ (m : Nat) (s0 : zS) (x1 : Int) (x2 : Int) (x3 : Int) (x4 : Int) (x6 : Int), (∀ (e : Int) (A' : zS), zSm s0 A' [] [22] → Q e A' → Q' e A') → wr_digits_8 Q  m s0 x1 x2 x3 x4 x6 → wr_digits_8 Q'  m s0 x1 x2 x3 x4 x6 := by
  intro m
  induction m with
  | zero => intro s0 x1 x2 x3 x4 x6 hq  hw; exact hw
  | succ m ih => intro s0 x1 x2 x3 x4 x6 hq  hw; exact ffb_digits_8 hq  (fun A' y0 y1 y2 y3 y4 f1 q => ih A' y0 y1 y2 y3 y4 (fun e A' f q => hq e A' (f1.tr f rfl rfl) q)  q) hw
theorem ffm_digits {s0 : zS} {a0 : Int} {a1 : Int} {Q Q' : Int → zS → Prop} (hw : wr_digits s0 a0 a1 Q) (hq : ∀ (e : Int) (A' : zS), zSm s0 A' [] [22] → Q e A' → Q' e A') : wr_digits s0 a0 a1 Q' := by
  unfold wr_digits at hw ⊢
  obtain ⟨m1, h2⟩ := hw
  exact ⟨m1, ffl_digits_80 m1 _ _ _ _ _ _ (fun e A' f q => hq e A' (zSm.rf.tr f rfl rfl) q)  h2⟩
theorem ffm_isPair {s0 : zS} {a0 : Int} {a1 : Int} {a2 : Int} {Q Q' : Int → zS → Prop} (hw : wr_isPair s0 a0 a1 a2 Q) (hq : ∀ (e : Int) (A' : zS), zSm s0 A' [] [] → Q e A' → Q' e A') : wr_isPair s0 a0 a1 a2 Q' := by
  unfold wr_isPair at hw ⊢
  refine ffm_look hw (fun r1 s2 f1 h6 => ?_)
  refine ⟨fun c7 => ?_, fun c7 => ?_⟩
  · have h8 := h6.1 c7
    exact hq _ _ (zSm.rf.tr f1 rfl rfl) h8
  · have h9 := h6.2 c7
    obtain ⟨o10, h11⟩ := h9
    refine ⟨o10, ?_⟩
    refine ffm_look h11 (fun r12 s13 f2 h17 => ?_)
    refine ⟨fun c18 => ?_, fun c18 => ?_⟩
    · have h19 := h17.1 c18
      exact hq _ _ ((zSm.rf.tr f1 rfl rfl).tr f2 rfl rfl) h19
    · have h20 := h17.2 c18
      exact hq _ _ ((zSm.rf.tr f1 rfl rfl).tr f2 rfl rfl) h20
theorem ffm_signAt {s0 : zS} {a0 : Int} {Q Q' : Int → zS → Prop} (hw : wr_signAt s0 a0 Q) (hq : ∀ (e : Int) (A' : zS), zSm s0 A' [] [23] → Q e A' → Q' e A') : wr_signAt s0 a0 Q' := by
  unfold wr_signAt at hw ⊢
  refine ffm_isPair hw (fun r3 s4 f1 h8 => ?_)
  refine ⟨fun c9 => ?_, fun c9 => ?_⟩
  · have h10 := h8.1 c9
    refine ffm_isPair h10 (fun r11 s12 f2 h16 => ?_)
    refine ⟨fun c17 => ?_, fun c17 => ?_⟩
    · have h18 := h16.1 c17
      refine ffm_isPair h18 (fun r19 s20 f3 h24 => ?_)
      refine ⟨fun c25 => ?_, fun c25 => ?_⟩
      · have h26 := h24.1 c25
        refine ffm_isPair h26 (fun r27 s28 f4 h32 => ?_)
        refine ⟨fun c33 => ?_, fun c33 => ?_⟩
        · have h34 := h32.1 c33
          refine ffm_isPair h34 (fun r35 s36 f5 h40 => ?_)
          refine ⟨fun c41 => ?_, fun c41 => ?_⟩
          · have h42 := h40.1 c41
            refine ffm_isPair h42 (fun r43 s44 f6 h48 => ?_)
            refine ⟨fun c49 => ?_, fun c49 => ?_⟩
            · have h50 := h48.1 c49
              refine ffm_isPair h50 (fun r51 s52 f7 h56 => ?_)
              refine ⟨fun c57 => ?_, fun c57 => ?_⟩
              · have h58 := h56.1 c57
                refine ffm_isPair h58 (fun r59 s60 f8 h64 => ?_)
                refine ⟨fun c65 => ?_, fun c65 => ?_⟩
                · have h66 := h64.1 c65
                  refine ffm_isPair h66 (fun r67 s68 f9 h72 => ?_)
                  refine ⟨fun c73 => ?_, fun c73 => ?_⟩
                  · have h74 := h72.1 c73
                    refine ffm_look h74 (fun r77 s78 f10 h82 => ?_)
                    refine ⟨fun c83 => ?_, fun c83 => ?_⟩
                    · have h84 := h82.1 c83
                      refine ⟨fun c85 => ?_, fun c85 => ?_⟩
                      · have h86 := h84.1 c85
                        refine ⟨fun c87 => ?_, fun c87 => ?_⟩
                        · have h88 := h86.1 c87
                          refine ⟨fun c89 => ?_, fun c89 => ?_⟩
                          · have h90 := h88.1 c89
                            refine ⟨fun c91 => ?_, fun c91 => ?_⟩
                            · have h92 := h90.1 c91
                              refine ⟨fun c93 => ?_, fun c93 => ?_⟩
                              · have h94 := h92.1 c93
                                refine ⟨fun c95 => ?_, fun c95 => ?_⟩
                                · have h96 := h94.1 c95
                                  refine ⟨fun c97 => ?_, fun c97 => ?_⟩
                                  · have h98 := h96.1 c97
                                    refine ⟨fun c99 => ?_, fun c99 => ?_⟩
                                    · have h100 := h98.1 c99
                                      refine ⟨fun c101 => ?_, fun c101 => ?_⟩
                                      · have h102 := h100.1 c101
                                        refine ⟨fun c103 => ?_, fun c103 => ?_⟩
                                        · have h104 := h102.1 c103
                                          refine ⟨fun c105 => ?_, fun c105 => ?_⟩
                                          · have h106 := h104.1 c105
                                            refine ⟨fun c107 => ?_, fun c107 => ?_⟩
                                            · have h108 := h106.1 c107
                                              refine ⟨fun c109 => ?_, fun c109 => ?_⟩
                                              · have h110 := h108.1 c109
                                                refine ⟨fun c111 => ?_, fun c111 => ?_⟩
                                                · have h112 := h110.1 c111
                                                  refine ⟨fun c113 => ?_, fun c113 => ?_⟩
                                                  · have h114 := h112.1 c113
                                                    refine ⟨fun c115 => ?_, fun c115 => ?_⟩
                                                    · have h116 := h114.1 c115
                                                      refine ⟨fun c117 => ?_, fun c117 => ?_⟩
                                                      · have h118 := h116.1 c117
                                                        exact hq _ _ ((((((((((((zSm.rf.pv rfl).tr f1 rfl rfl).tr f2 rfl rfl).tr f3 rfl rfl).tr f4 rfl rfl).tr f5 rfl rfl).tr f6 rfl rfl).tr f7 rfl rfl).tr f8 rfl rfl).tr f9 rfl rfl).pv rfl).tr f10 rfl rfl) h118
                                                      · have h119 := h116.2 c117
                                                        exact hq _ _ ((((((((((((zSm.rf.pv rfl).tr f1 rfl rfl).tr f2 rfl rfl).tr f3 rfl rfl).tr f4 rfl rfl).tr f5 rfl rfl).tr f6 rfl rfl).tr f7 rfl rfl).tr f8 rfl rfl).tr f9 rfl rfl).pv rfl).tr f10 rfl rfl) h119
                                                    · have h120 := h114.2 c115
                                                      exact hq _ _ ((((((((((((zSm.rf.pv rfl).tr f1 rfl rfl).tr f2 rfl rfl).tr f3 rfl rfl).tr f4 rfl rfl).tr f5 rfl rfl).tr f6 rfl rfl).tr f7 rfl rfl).tr f8 rfl rfl).tr f9 rfl rfl).pv rfl).tr f10 rfl rfl) h120
                                                  · have h121 := h112.2 c113
                                                    exact hq _ _ ((((((((((((zSm.rf.pv rfl).tr f1 rfl rfl).tr f2 rfl rfl).tr f3 rfl rfl).tr f4 rfl rfl).tr f5 rfl rfl).tr f6 rfl rfl).tr f7 rfl rfl).tr f8 rfl rfl).tr f9 rfl rfl).pv rfl).tr f10 rfl rfl) h121
                                                · have h122 := h110.2 c111
                                                  exact hq _ _ ((((((((((((zSm.rf.pv rfl).tr f1 rfl rfl).tr f2 rfl rfl).tr f3 rfl rfl).tr f4 rfl rfl).tr f5 rfl rfl).tr f6 rfl rfl).tr f7 rfl rfl).tr f8 rfl rfl).tr f9 rfl rfl).pv rfl).tr f10 rfl rfl) h122
                                              · have h123 := h108.2 c109
                                                exact hq _ _ ((((((((((((zSm.rf.pv rfl).tr f1 rfl rfl).tr f2 rfl rfl).tr f3 rfl rfl).tr f4 rfl rfl).tr f5 rfl rfl).tr f6 rfl rfl).tr f7 rfl rfl).tr f8 rfl rfl).tr f9 rfl rfl).pv rfl).tr f10 rfl rfl) h123
                                            · have h124 := h106.2 c107
                                              exact hq _ _ ((((((((((((zSm.rf.pv rfl).tr f1 rfl rfl).tr f2 rfl rfl).tr f3 rfl rfl).tr f4 rfl rfl).tr f5 rfl rfl).tr f6 rfl rfl).tr f7 rfl rfl).tr f8 rfl rfl).tr f9 rfl rfl).pv rfl).tr f10 rfl rfl) h124
                                          · have h125 := h104.2 c105
                                            exact hq _ _ ((((((((((((zSm.rf.pv rfl).tr f1 rfl rfl).tr f2 rfl rfl).tr f3 rfl rfl).tr f4 rfl rfl).tr f5 rfl rfl).tr f6 rfl rfl).tr f7 rfl rfl).tr f8 rfl rfl).tr f9 rfl rfl).pv rfl).tr f10 rfl rfl) h125
                                        · have h126 := h102.2 c103
                                          exact hq _ _ ((((((((((((zSm.rf.pv rfl).tr f1 rfl rfl).tr f2 rfl rfl).tr f3 rfl rfl).tr f4 rfl rfl).tr f5 rfl rfl).tr f6 rfl rfl).tr f7 rfl rfl).tr f8 rfl rfl).tr f9 rfl rfl).pv rfl).tr f10 rfl rfl) h126
                                      · have h127 := h100.2 c101
                                        exact hq _ _ ((((((((((((zSm.rf.pv rfl).tr f1 rfl rfl).tr f2 rfl rfl).tr f3 rfl rfl).tr f4 rfl rfl).tr f5 rfl rfl).tr f6 rfl rfl).tr f7 rfl rfl).tr f8 rfl rfl).tr f9 rfl rfl).pv rfl).tr f10 rfl rfl) h127
                                    · have h128 := h98.2 c99
                                      exact hq _ _ ((((((((((((zSm.rf.pv rfl).tr f1 rfl rfl).tr f2 rfl rfl).tr f3 rfl rfl).tr f4 rfl rfl).tr f5 rfl rfl).tr f6 rfl rfl).tr f7 rfl rfl).tr f8 rfl rfl).tr f9 rfl rfl).pv rfl).tr f10 rfl rfl) h128
                                  · have h129 := h96.2 c97
                                    exact hq _ _ ((((((((((((zSm.rf.pv rfl).tr f1 rfl rfl).tr f2 rfl rfl).tr f3 rfl rfl).tr f4 rfl rfl).tr f5 rfl rfl).tr f6 rfl rfl).tr f7 rfl rfl).tr f8 rfl rfl).tr f9 rfl rfl).pv rfl).tr f10 rfl rfl) h129
                                · have h130 := h94.2 c95
                                  exact hq _ _ ((((((((((((zSm.rf.pv rfl).tr f1 rfl rfl).tr f2 rfl rfl).tr f3 rfl rfl).tr f4 rfl rfl).tr f5 rfl rfl).tr f6 rfl rfl).tr f7 rfl rfl).tr f8 rfl rfl).tr f9 rfl rfl).pv rfl).tr f10 rfl rfl) h130
                              · have h131 := h92.2 c93
                                exact hq _ _ ((((((((((((zSm.rf.pv rfl).tr f1 rfl rfl).tr f2 rfl rfl).tr f3 rfl rfl).tr f4 rfl rfl).tr f5 rfl rfl).tr f6 rfl rfl).tr f7 rfl rfl).tr f8 rfl rfl).tr f9 rfl rfl).pv rfl).tr f10 rfl rfl) h131
                            · have h132 := h90.2 c91
                              exact hq _ _ ((((((((((((zSm.rf.pv rfl).tr f1 rfl rfl).tr f2 rfl rfl).tr f3 rfl rfl).tr f4 rfl rfl).tr f5 rfl rfl).tr f6 rfl rfl).tr f7 rfl rfl).tr f8 rfl rfl).tr f9 rfl rfl).pv rfl).tr f10 rfl rfl) h132
                          · have h133 := h88.2 c89
                            exact hq _ _ ((((((((((((zSm.rf.pv rfl).tr f1 rfl rfl).tr f2 rfl rfl).tr f3 rfl rfl).tr f4 rfl rfl).tr f5 rfl rfl).tr f6 rfl rfl).tr f7 rfl rfl).tr f8 rfl rfl).tr f9 rfl rfl).pv rfl).tr f10 rfl rfl) h133
                        · have h134 := h86.2 c87
                          exact hq _ _ ((((((((((((zSm.rf.pv rfl).tr f1 rfl rfl).tr f2 rfl rfl).tr f3 rfl rfl).tr f4 rfl rfl).tr f5 rfl rfl).tr f6 rfl rfl).tr f7 rfl rfl).tr f8 rfl rfl).tr f9 rfl rfl).pv rfl).tr f10 rfl rfl) h134
                      · have h135 := h84.2 c85
                        exact hq _ _ ((((((((((((zSm.rf.pv rfl).tr f1 rfl rfl).tr f2 rfl rfl).tr f3 rfl rfl).tr f4 rfl rfl).tr f5 rfl rfl).tr f6 rfl rfl).tr f7 rfl rfl).tr f8 rfl rfl).tr f9 rfl rfl).pv rfl).tr f10 rfl rfl) h135
                    · have h136 := h82.2 c83
                      exact hq _ _ ((((((((((((zSm.rf.pv rfl).tr f1 rfl rfl).tr f2 rfl rfl).tr f3 rfl rfl).tr f4 rfl rfl).tr f5 rfl rfl).tr f6 rfl rfl).tr f7 rfl rfl).tr f8 rfl rfl).tr f9 rfl rfl).pv rfl).tr f10 rfl rfl) h136
                  · have h137 := h72.2 c73
                    exact hq _ _ ((((((((((zSm.rf.pv rfl).tr f1 rfl rfl).tr f2 rfl rfl).tr f3 rfl rfl).tr f4 rfl rfl).tr f5 rfl rfl).tr f6 rfl rfl).tr f7 rfl rfl).tr f8 rfl rfl).tr f9 rfl rfl) h137
                · have h138 := h64.2 c65
                  exact hq _ _ (((((((((zSm.rf.pv rfl).tr f1 rfl rfl).tr f2 rfl rfl).tr f3 rfl rfl).tr f4 rfl rfl).tr f5 rfl rfl).tr f6 rfl rfl).tr f7 rfl rfl).tr f8 rfl rfl) h138
              · have h139 := h56.2 c57
                exact hq _ _ ((((((((zSm.rf.pv rfl).tr f1 rfl rfl).tr f2 rfl rfl).tr f3 rfl rfl).tr f4 rfl rfl).tr f5 rfl rfl).tr f6 rfl rfl).tr f7 rfl rfl) h139
            · have h140 := h48.2 c49
              exact hq _ _ (((((((zSm.rf.pv rfl).tr f1 rfl rfl).tr f2 rfl rfl).tr f3 rfl rfl).tr f4 rfl rfl).tr f5 rfl rfl).tr f6 rfl rfl) h140
          · have h141 := h40.2 c41
            exact hq _ _ ((((((zSm.rf.pv rfl).tr f1 rfl rfl).tr f2 rfl rfl).tr f3 rfl rfl).tr f4 rfl rfl).tr f5 rfl rfl) h141
        · have h142 := h32.2 c33
          exact hq _ _ (((((zSm.rf.pv rfl).tr f1 rfl rfl).tr f2 rfl rfl).tr f3 rfl rfl).tr f4 rfl rfl) h142
      · have h143 := h24.2 c25
        exact hq _ _ ((((zSm.rf.pv rfl).tr f1 rfl rfl).tr f2 rfl rfl).tr f3 rfl rfl) h143
    · have h144 := h16.2 c17
      exact hq _ _ (((zSm.rf.pv rfl).tr f1 rfl rfl).tr f2 rfl rfl) h144
  · have h145 := h8.2 c9
    exact hq _ _ ((zSm.rf.pv rfl).tr f1 rfl rfl) h145
theorem ffj_one_146 {Q Q' : Int → zS → Prop}  {s0 : zS} {x1 : Int} {y0 : Int} (hq : ∀ (e : Int) (A' : zS), zSm s0 A' [6, 7, 9, 10, 11, 14, 16, 17] [5, 8, 15, 18, 20, 21, 22, 23] → Q e A' → Q' e A')  (hw : wr_one_146 Q  s0 x1 y0) : wr_one_146 Q'  s0 x1 y0 := by
  unfold wr_one_146 at hw ⊢
  refine ⟨fun c1 => ?_, fun c1 => ?_⟩
  · have h2 := hw.1 c1
    refine ffm_token h2 (fun s4 f1 h8 => ?_)
    exact hq _ _ (zSm.rf.tr f1 rfl rfl) h8
  · have h9 := hw.2 c1
    obtain ⟨o10, h11⟩ := h9
    refine ⟨o10, ?_⟩
    exact hq _ _ zSm.rf h11
theorem ffj_one_96 {Q Q' : Int → zS → Prop}  {s0 : zS} {x1 : Int} {x2 : Int} (hq : ∀ (e : Int) (A' : zS), zSm s0 A' [6, 7, 9, 10, 11, 14, 16, 17] [5, 8, 15, 18, 20, 21, 22, 23] → Q e A' → Q' e A')  (hw : wr_one_96 Q  s0 x1 x2) : wr_one_96 Q'  s0 x1 x2 := by
  unfold wr_one_96 at hw ⊢
  refine ffm_isDigit hw (fun r1 s2 f1 h6 => ?_)
  refine ⟨fun c7 => ?_, fun c7 => ?_⟩
  · have h8 := h6.1 c7
    obtain ⟨o9, h10⟩ := h8
    refine ⟨o9, ?_⟩
    refine ffm_look h10 (fun r11 s12 f2 h16 => ?_)
    refine ⟨fun c17 => ?_, fun c17 => ?_⟩
    · have h18 := h16.1 c17
      refine ffm_digits h18 (fun r19 s20 f3 h24 => ?_)
      exact ffj_one_146 (fun e A' f q => hq e A' ((((zSm.rf.tr f1 rfl rfl).tr f2 rfl rfl).tr f3 rfl rfl).tr f rfl rfl) q)  h24
    · have h25 := h16.2 c17
      obtain ⟨o26, h27⟩ := h25
      refine ⟨o26, ?_⟩
      refine ffm_digits h27 (fun r28 s29 f4 h33 => ?_)
      exact ffj_one_146 (fun e A' f q => hq e A' ((((zSm.rf.tr f1 rfl rfl).tr f2 rfl rfl).tr f4 rfl rfl).tr f rfl rfl) q)  h33
  · have h34 := h6.2 c7
    refine ffm_digits h34 (fun r35 s36 f5 h40 => ?_)
    exact ffj_one_146 (fun e A' f q => hq e A' (((zSm.rf.tr f1 rfl rfl).tr f5 rfl rfl).tr f rfl rfl) q)  h40
theorem ffj_one_314 {Q Q' : Int → zS → Prop}  {s0 : zS} {x1 : Int} {x3 : Int} {x4 : Int} {x5 : Int} (hq : ∀ (e : Int) (A' : zS), zSm s0 A' [6, 7, 9, 10, 11, 14, 16, 17] [5, 8, 15, 18, 20, 21, 22, 23] → Q e A' → Q' e A')  (hw : wr_one_314 Q  s0 x1 x3 x4 x5) : wr_one_314 Q'  s0 x1 x3 x4 x5 := by
  unfold wr_one_314 at hw ⊢
  obtain ⟨o1, h2⟩ := hw
  refine ⟨o1, ?_⟩
  refine ⟨fun c3 => ?_, fun c3 => ?_⟩
  · have h4 := h2.1 c3
    obtain ⟨o5, h6⟩ := h4
    refine ⟨o5, ?_⟩
    refine ⟨fun c7 => ?_, fun c7 => ?_⟩
    · have h8 := h6.1 c7
      refine ffm_token h8 (fun s10 f1 h14 => ?_)
      exact hq _ _ (zSm.rf.tr f1 rfl rfl) h14
    · have h15 := h6.2 c7
      refine ffm_nameOf h15 (fun r16 s17 f2 h21 => ?_)
      refine ffm_token h21 (fun s23 f3 h27 => ?_)
      exact hq _ _ ((zSm.rf.tr f2 rfl rfl).tr f3 rfl rfl) h27
  · have h28 := h2.2 c3
    obtain ⟨o29, h30⟩ := h28
    refine ⟨o29, ?_⟩
    exact hq _ _ zSm.rf h30
theorem ffb_one_289 {Q Q' : Int → zS → Prop} {k289 k289' : zS → Int → Int → Int → Int → Prop} {s0 : zS} {x1 : Int} {x3 : Int} {x4 : Int} {x5 : Int} (hq : ∀ (e : Int) (A' : zS), zSm s0 A' [6, 7, 9, 10, 11, 14, 16, 17] [5, 8, 15, 18, 20, 21, 22, 23] → Q e A' → Q' e A') (fk289 : ∀ (A' : zS) (x0 : Int) (x1 : Int) (x2 : Int) (x3 : Int), zSm s0 A' [6, 7, 9, 10, 11, 14, 16, 17] [5, 8, 15, 18, 20, 21, 22, 23] → k289 A' x0 x1 x2 x3 → k289' A' x0 x1 x2 x3) (hw : wr_one_289B Q k289 s0 x1 x3 x4 x5) : wr_one_289B Q' k289' s0 x1 x3 x4 x5 := by
  unfold wr_one_289B at hw ⊢
  refine ffm_look hw (fun r1 s2 f1 h6 => ?_)
  refine ffm_isRest h6 (fun r7 s8 f2 h12 => ?_)
  refine ⟨fun c13 => ?_, fun c13 => ?_⟩
  · have h14 := h12.1 c13
    exact ffj_one_314 (fun e A' f q => hq e A' (((zSm.rf.tr f1 rfl rfl).tr f2 rfl rfl).tr f rfl rfl) q)  h14
  · have h15 := h12.2 c13
    refine ⟨fun c16 => ?_, fun c16 => ?_⟩
    · have h17 := h15.1 c16
      exact ffj_one_314 (fun e A' f q => hq e A' (((zSm.rf.tr f1 rfl rfl).tr f2 rfl rfl).tr f rfl rfl) q)  h17
    · have h18 := h15.2 c16
      obtain ⟨o19, h20⟩ := h18
      refine ⟨o19, ?_⟩
      exact fk289 _ _ _ _ _ ((zSm.rf.tr f1 rfl rfl).tr f2 rfl rfl) h20
theorem ffl_one_2890 {Q Q' : Int → zS → Prop}  : ∀ (m : Nat) (s0 : zS) (x1 : Int) (x3 : Int) (x4 : Int) (x5 : Int), (∀ (e : Int) (A' : zS), zSm s0 A' [6, 7, 9, 10, 11, 14, 16, 17] [5, 8, 15, 18, 20, 21, 22, 23] → Q e A' → Q' e A') → wr_one_289 Q  m s0 x1 x3 x4 x5 → wr_one_289 Q'  m s0 x1 x3 x4 x5 := by
  intro m
  induction m with
  | zero => intro s0 x1 x3 x4 x5 hq  hw; exact hw
  | succ m ih => intro s0 x1 x3 x4 x5 hq  hw; exact ffb_one_289 hq  (fun A' y0 y1 y2 y3 f1 q => ih A' y0 y1 y2 y3 (fun e A' f q => hq e A' (f1.tr f rfl rfl) q)  q) hw
theorem ffj_one_34 {Q Q' : Int → zS → Prop}  {s0 : zS} {x1 : Int} {x3 : Int} (hq : ∀ (e : Int) (A' : zS), zSm s0 A' [6, 7, 9, 10, 11, 14, 16, 17] [5, 8, 15, 18, 20, 21, 22, 23] → Q e A' → Q' e A')  (hw : wr_one_34 Q  s0 x1 x3) : wr_one_34 Q'  s0 x1 x3 := by
  unfold wr_one_34 at hw ⊢
  obtain ⟨o1, h2⟩ := hw
  refine ⟨o1, ?_⟩
  refine ⟨fun c3 => ?_, fun c3 => ?_⟩
  · have h4 := h2.1 c3
    refine ffm_keyword h4 (fun r5 s6 f1 h10 => ?_)
    refine ⟨fun c11 => ?_, fun c11 => ?_⟩
    · have h12 := h10.1 c11
      refine ffm_token h12 (fun s14 f2 h18 => ?_)
      exact hq _ _ ((zSm.rf.tr f1 rfl rfl).tr f2 rfl rfl) h18
    · have h19 := h10.2 c11
      refine ffm_nameOf h19 (fun r20 s21 f3 h25 => ?_)
      refine ffm_token h25 (fun s27 f4 h31 => ?_)
      exact hq _ _ (((zSm.rf.tr f1 rfl rfl).tr f3 rfl rfl).tr f4 rfl rfl) h31
  · have h32 := h2.2 c3
    obtain ⟨o33, h34⟩ := h32
    refine ⟨o33, ?_⟩
    exact hq _ _ zSm.rf h34
theorem ffb_one_9 {Q Q' : Int → zS → Prop} {k9 k9' : zS → Int → Int → Prop} {s0 : zS} {x1 : Int} {x3 : Int} (hq : ∀ (e : Int) (A' : zS), zSm s0 A' [6, 7, 9, 10, 11, 14, 16, 17] [5, 8, 15, 18, 20, 21, 22, 23] → Q e A' → Q' e A') (fk9 : ∀ (A' : zS) (x0 : Int) (x1 : Int), zSm s0 A' [6, 7, 9, 10, 11, 14, 16, 17] [5, 8, 15, 18, 20, 21, 22, 23] → k9 A' x0 x1 → k9' A' x0 x1) (hw : wr_one_9B Q k9 s0 x1 x3) : wr_one_9B Q' k9' s0 x1 x3 := by
  unfold wr_one_9B at hw ⊢
  refine ffm_look hw (fun r1 s2 f1 h6 => ?_)
  refine ffm_isRest h6 (fun r7 s8 f2 h12 => ?_)
  refine ⟨fun c13 => ?_, fun c13 => ?_⟩
  · have h14 := h12.1 c13
    exact ffj_one_34 (fun e A' f q => hq e A' (((zSm.rf.tr f1 rfl rfl).tr f2 rfl rfl).tr f rfl rfl) q)  h14
  · have h15 := h12.2 c13
    refine ⟨fun c16 => ?_, fun c16 => ?_⟩
    · have h17 := h15.1 c16
      exact ffj_one_34 (fun e A' f q => hq e A' (((zSm.rf.tr f1 rfl rfl).tr f2 rfl rfl).tr f rfl rfl) q)  h17
    · have h18 := h15.2 c16
      obtain ⟨o19, h20⟩ := h18
      refine ⟨o19, ?_⟩
      exact fk9 _ _ _ ((zSm.rf.tr f1 rfl rfl).tr f2 rfl rfl) h20
theorem ffl_one_90 {Q Q' : Int → zS → Prop}  : ∀ (m : Nat) (s0 : zS) (x1 : Int) (x3 : Int), (∀ (e : Int) (A' : zS), zSm s0 A' [6, 7, 9, 10, 11, 14, 16, 17] [5, 8, 15, 18, 20, 21, 22, 23] → Q e A' → Q' e A') → wr_one_9 Q  m s0 x1 x3 → wr_one_9 Q'  m s0 x1 x3 := by
  intro m
  induction m with
  | zero => intro s0 x1 x3 hq  hw; exact hw
  | succ m ih => intro s0 x1 x3 hq  hw; exact ffb_one_9 hq  (fun A' y0 y1 f1 q => ih A' y0 y1 (fun e A' f q => hq e A' (f1.tr f rfl rfl) q)  q) hw
theorem ffm_one {s0 : zS} {a0 : Int} {a1 : Int} {Q Q' : Int → zS → Prop} (hw : wr_one s0 a0 a1 Q) (hq : ∀ (e : Int) (A' : zS), zSm s0 A' [6, 7, 9, 10, 11, 14, 16, 17] [5, 8, 15, 18, 20, 21, 22, 23] → Q e A' → Q' e A') : wr_one s0 a0 a1 Q' := by
  unfold wr_one at hw ⊢
  refine ffm_isLetter hw (fun r1 s2 f1 h6 => ?_)
  refine ⟨fun c7 => ?_, fun c7 => ?_⟩
  · have h8 := h6.1 c7
    refine ffm_isDigit h8 (fun r9 s10 f2 h14 => ?_)
    refine ⟨fun c15 => ?_, fun c15 => ?_⟩
    · have h16 := h14.1 c15
      exact ffj_one_96 (fun e A' f q => hq e A' (((zSm.rf.tr f1 rfl rfl).tr f2 rfl rfl).tr f rfl rfl) q)  h16
    · have h17 := h14.2 c15
      refine ⟨fun c18 => ?_, fun c18 => ?_⟩
      · have h19 := h17.1 c18
        refine ⟨fun c20 => ?_, fun c20 => ?_⟩
        · have h21 := h19.1 c20
          refine ⟨fun c22 => ?_, fun c22 => ?_⟩
          · have h23 := h21.1 c22
            refine ffm_signAt h23 (fun r24 s25 f3 h29 => ?_)
            refine ⟨fun c30 => ?_, fun c30 => ?_⟩
            · have h31 := h29.1 c30
              refine ⟨fun c32 => ?_, fun c32 => ?_⟩
              · have h33 := h31.1 c32
                obtain ⟨o34, h35⟩ := h33
                refine ⟨o34, ?_⟩
                obtain ⟨m36, h37⟩ := h35
                exact ⟨m36, ffl_one_2890 m36 _ _ _ _ _ (fun e A' f q => hq e A' ((((zSm.rf.tr f1 rfl rfl).tr f2 rfl rfl).tr f3 rfl rfl).tr f rfl rfl) q)  h37⟩
              · have h38 := h31.2 c32
                refine ⟨fun c39 => ?_, fun c39 => ?_⟩
                · have h40 := h38.1 c39
                  refine ffm_token h40 (fun s42 f4 h46 => ?_)
                  obtain ⟨o47, h48⟩ := h46
                  refine ⟨o47, ?_⟩
                  exact hq _ _ ((((zSm.rf.tr f1 rfl rfl).tr f2 rfl rfl).tr f3 rfl rfl).tr f4 rfl rfl) h48
                · have h49 := h38.2 c39
                  obtain ⟨o50, h51⟩ := h49
                  refine ⟨o50, ?_⟩
                  obtain ⟨m52, h53⟩ := h51
                  exact ⟨m52, ffl_one_2890 m52 _ _ _ _ _ (fun e A' f q => hq e A' ((((zSm.rf.tr f1 rfl rfl).tr f2 rfl rfl).tr f3 rfl rfl).tr f rfl rfl) q)  h53⟩
            · have h54 := h29.2 c30
              obtain ⟨o55, h56⟩ := h54
              refine ⟨o55, ?_⟩
              exact hq _ _ (((zSm.rf.tr f1 rfl rfl).tr f2 rfl rfl).tr f3 rfl rfl) h56
          · have h57 := h21.2 c22
            refine ffm_stringAt h57 (fun r58 s59 f5 h63 => ?_)
            refine ⟨fun c64 => ?_, fun c64 => ?_⟩
            · have h65 := h63.1 c64
              obtain ⟨o66, h67⟩ := h65
              refine ⟨o66, ?_⟩
              refine ffm_token h67 (fun s69 f6 h73 => ?_)
              exact hq _ _ ((((zSm.rf.tr f1 rfl rfl).tr f2 rfl rfl).tr f5 rfl rfl).tr f6 rfl rfl) h73
            · have h74 := h63.2 c64
              obtain ⟨o75, h76⟩ := h74
              refine ⟨o75, ?_⟩
              exact hq _ _ (((zSm.rf.tr f1 rfl rfl).tr f2 rfl rfl).tr f5 rfl rfl) h76
        · have h77 := h19.2 c20
          obtain ⟨o78, h79⟩ := h77
          refine ⟨o78, ?_⟩
          refine ffm_oneC h79 (fun r80 s81 f7 h85 => ?_)
          refine ⟨fun c86 => ?_, fun c86 => ?_⟩
          · have h87 := h85.1 c86
            obtain ⟨o88, h89⟩ := h87
            refine ⟨o88, ?_⟩
            exact hq _ _ (((zSm.rf.tr f1 rfl rfl).tr f2 rfl rfl).tr f7 rfl rfl) h89
          · have h90 := h85.2 c86
            refine ffm_look h90 (fun r91 s92 f8 h96 => ?_)
            refine ⟨fun c97 => ?_, fun c97 => ?_⟩
            · have h98 := h96.1 c97
              refine ffm_token h98 (fun s100 f9 h104 => ?_)
              obtain ⟨o105, h106⟩ := h104
              refine ⟨o105, ?_⟩
              exact hq _ _ (((((zSm.rf.tr f1 rfl rfl).tr f2 rfl rfl).tr f7 rfl rfl).tr f8 rfl rfl).tr f9 rfl rfl) h106
            · have h107 := h96.2 c97
              obtain ⟨o108, h109⟩ := h107
              refine ⟨o108, ?_⟩
              exact hq _ _ ((((zSm.rf.tr f1 rfl rfl).tr f2 rfl rfl).tr f7 rfl rfl).tr f8 rfl rfl) h109
      · have h110 := h17.2 c18
        exact ffj_one_96 (fun e A' f q => hq e A' (((zSm.rf.tr f1 rfl rfl).tr f2 rfl rfl).tr f rfl rfl) q)  h110
  · have h111 := h6.2 c7
    obtain ⟨m112, h113⟩ := h111
    exact ⟨m112, ffl_one_90 m112 _ _ _ (fun e A' f q => hq e A' ((zSm.rf.tr f1 rfl rfl).tr f rfl rfl) q)  h113⟩
theorem ffb_scan_104 {Q Q' : Int → zS → Prop} {k32 k32' : zS → Int → Prop} {k104 k104' : zS → Int → Prop} {s0 : zS} {x1 : Int} (hq : ∀ (e : Int) (A' : zS), zSm s0 A' [6, 7, 9, 10, 11, 14, 16, 17] [5, 8, 15, 18, 19, 20, 21, 22, 23] → Q e A' → Q' e A') (fk32 : ∀ (A' : zS) (x0 : Int), zSm s0 A' [6, 7, 9, 10, 11, 14, 16, 17] [5, 8, 15, 18, 19, 20, 21, 22, 23] → k32 A' x0 → k32' A' x0) (fk104 : ∀ (A' : zS) (x0 : Int), zSm s0 A' [6, 7, 9, 10, 11, 14, 16, 17] [5, 8, 15, 18, 19, 20, 21, 22, 23] → k104 A' x0 → k104' A' x0) (hw : wr_scan_104B Q k32 k104 s0 x1) : wr_scan_104B Q' k32' k104' s0 x1 := by
  unfold wr_scan_104B at hw ⊢
  refine ⟨fun c1 => ?_, fun c1 => ?_⟩
  · have h2 := hw.1 c1
    exact fk32 _ _ zSm.rf h2
  · have h3 := hw.2 c1
    refine ffm_look h3 (fun r4 s5 f1 h9 => ?_)
    refine ⟨fun c10 => ?_, fun c10 => ?_⟩
    · have h11 := h9.1 c10
      exact fk32 _ _ (zSm.rf.tr f1 rfl rfl) h11
    · have h12 := h9.2 c10
      obtain ⟨o13, h14⟩ := h12
      refine ⟨o13, ?_⟩
      exact fk104 _ _ (zSm.rf.tr f1 rfl rfl) h14
theorem ffl_scan_1040 {Q Q' : Int → zS → Prop} {k32 k32' : zS → Int → Prop} : ∀ (m : Nat) (s0 : zS) (x1 : Int), (∀ (e : Int) (A' : zS), zSm s0 A' [6, 7, 9, 10, 11, 14, 16, 17] [5, 8, 15, 18, 19, 20, 21, 22, 23] → Q e A' → Q' e A') → (∀ (A' : zS) (x0 : Int), zSm s0 A' [6, 7, 9, 10, 11, 14, 16, 17] [5, 8, 15, 18, 19, 20, 21, 22, 23] → k32 A' x0 → k32' A' x0) → wr_scan_104 Q k32 m s0 x1 → wr_scan_104 Q' k32' m s0 x1 := by
  intro m
  induction m with
  | zero => intro s0 x1 hq fk32 hw; exact hw
  | succ m ih => intro s0 x1 hq fk32 hw; exact ffb_scan_104 hq fk32 (fun A' y0 f1 q => ih A' y0 (fun e A' f q => hq e A' (f1.tr f rfl rfl) q) (fun A' z0 f q => fk32 A' z0 (f1.tr f rfl rfl) q) q) hw
theorem ffb_scan_32 {Q Q' : Int → zS → Prop} {k32 k32' : zS → Int → Prop} {s0 : zS} {x1 : Int} (hq : ∀ (e : Int) (A' : zS), zSm s0 A' [6, 7, 9, 10, 11, 14, 16, 17] [5, 8, 15, 18, 19, 20, 21, 22, 23] → Q e A' → Q' e A') (fk32 : ∀ (A' : zS) (x0 : Int), zSm s0 A' [6, 7, 9, 10, 11, 14, 16, 17] [5, 8, 15, 18, 19, 20, 21, 22, 23] → k32 A' x0 → k32' A' x0) (hw : wr_scan_32B Q k32 s0 x1) : wr_scan_32B Q' k32' s0 x1 := by
  unfold wr_scan_32B at hw ⊢
  refine ⟨fun c1 => ?_, fun c1 => ?_⟩
  · have h2 := hw.1 c1
    exact hq _ _ zSm.rf h2
  · have h3 := hw.2 c1
    refine ffm_look h3 (fun r4 s5 f1 h9 => ?_)
    refine ⟨fun c10 => ?_, fun c10 => ?_⟩
    · have h11 := h9.1 c10
      refine ⟨fun c12 => ?_, fun c12 => ?_⟩
      · have h13 := h11.1 c12
        obtain ⟨o14, h15⟩ := h13
        refine ⟨o14, ?_⟩
        exact fk32 _ _ (zSm.rf.tr f1 rfl rfl) h15
      · have h16 := h11.2 c12
        refine ⟨fun c17 => ?_, fun c17 => ?_⟩
        · have h18 := h16.1 c17
          obtain ⟨o19, h20⟩ := h18
          refine ⟨o19, ?_⟩
          exact fk32 _ _ (zSm.rf.tr f1 rfl rfl) h20
        · have h21 := h16.2 c17
          refine ⟨fun c22 => ?_, fun c22 => ?_⟩
          · have h23 := h21.1 c22
            refine ffm_isPair h23 (fun r24 s25 f2 h29 => ?_)
            refine ⟨fun c30 => ?_, fun c30 => ?_⟩
            · have h31 := h29.1 c30
              refine ffm_one h31 (fun r32 s33 f3 h37 => ?_)
              refine ⟨fun c38 => ?_, fun c38 => ?_⟩
              · have h39 := h37.1 c38
                exact fk32 _ _ (((zSm.rf.tr f1 rfl rfl).tr f2 rfl rfl).tr f3 rfl rfl) h39
              · have h40 := h37.2 c38
                obtain ⟨o41, h42⟩ := h40
                refine ⟨o41, ?_⟩
                exact hq _ _ (((zSm.rf.tr f1 rfl rfl).tr f2 rfl rfl).tr f3 rfl rfl) h42
            · have h43 := h29.2 c30
              obtain ⟨m44, h45⟩ := h43
              exact ⟨m44, ffl_scan_1040 m44 _ _ (fun e A' f q => hq e A' (((zSm.rf.tr f1 rfl rfl).tr f2 rfl rfl).tr f rfl rfl) q) (fun A' x0 f q => fk32 A' x0 (((zSm.rf.tr f1 rfl rfl).tr f2 rfl rfl).tr f rfl rfl) q) h45⟩
          · have h46 := h21.2 c22
            obtain ⟨o47, h48⟩ := h46
            refine ⟨o47, ?_⟩
            exact fk32 _ _ (zSm.rf.tr f1 rfl rfl) h48
    · have h49 := h9.2 c10
      obtain ⟨o50, h51⟩ := h49
      refine ⟨o50, ?_⟩
      obtain ⟨o54, h55⟩ := h51
      refine ⟨o54, ?_⟩
      exact fk32 _ _ ((zSm.rf.tr f1 rfl rfl).pv rfl) h55
theorem ffl_scan_320 {Q Q' : Int → zS → Prop}  : ∀ (m : Nat) (s0 : zS) (x1 : Int), (∀ (e : Int) (A' : zS), zSm s0 A' [6, 7, 9, 10, 11, 14, 16, 17] [5, 8, 15, 18, 19, 20, 21, 22, 23] → Q e A' → Q' e A') → wr_scan_32 Q  m s0 x1 → wr_scan_32 Q'  m s0 x1 := by
  intro m
  induction m with
  | zero => intro s0 x1 hq  hw; exact hw
  | succ m ih => intro s0 x1 hq  hw; exact ffb_scan_32 hq  (fun A' y0 f1 q => ih A' y0 (fun e A' f q => hq e A' (f1.tr f rfl rfl) q)  q) hw
theorem ffm_scan {s0 : zS}  {Q Q' : Int → zS → Prop} (hw : wr_scan s0  Q) (hq : ∀ (e : Int) (A' : zS), zSm s0 A' [6, 7, 9, 10, 11, 14, 16, 17] [5, 8, 15, 18, 19, 20, 21, 22, 23] → Q e A' → Q' e A') : wr_scan s0  Q' := by
  unfold wr_scan at hw ⊢
  obtain ⟨m13, h14⟩ := hw
  exact ⟨m13, ffl_scan_320 m13 _ _ (fun e A' f q => hq e A' (((((((zSm.rf.pv rfl).pv rfl).pv rfl).pv rfl).pv rfl).pv rfl).tr f rfl rfl) q)  h14⟩
theorem ffm_node {s0 : zS} {a0 : Int} {a1 : Int} {a2 : Int} {Q Q' : Int → zS → Prop} (hw : wr_node s0 a0 a1 a2 Q) (hq : ∀ (e : Int) (A' : zS), zSm s0 A' [25, 26, 27, 28, 29, 30, 31, 33, 34, 35] [24] → Q e A' → Q' e A') : wr_node s0 a0 a1 a2 Q' := by
  unfold wr_node at hw ⊢
  obtain ⟨o1, h2⟩ := hw
  refine ⟨o1, ?_⟩
  obtain ⟨o5, h6⟩ := h2
  refine ⟨o5, ?_⟩
  obtain ⟨o7, h8⟩ := h6
  refine ⟨o7, ?_⟩
  obtain ⟨o11, h12⟩ := h8
  refine ⟨o11, ?_⟩
  obtain ⟨o13, h14⟩ := h12
  refine ⟨o13, ?_⟩
  obtain ⟨o17, h18⟩ := h14
  refine ⟨o17, ?_⟩
  obtain ⟨o19, h20⟩ := h18
  refine ⟨o19, ?_⟩
  obtain ⟨o23, h24⟩ := h20
  refine ⟨o23, ?_⟩
  obtain ⟨o25, h26⟩ := h24
  refine ⟨o25, ?_⟩
  obtain ⟨o29, h30⟩ := h26
  refine ⟨o29, ?_⟩
  obtain ⟨o31, h32⟩ := h30
  refine ⟨o31, ?_⟩
  obtain ⟨o35, h36⟩ := h32
  refine ⟨o35, ?_⟩
  obtain ⟨o37, h38⟩ := h36
  refine ⟨o37, ?_⟩
  obtain ⟨o41, h42⟩ := h38
  refine ⟨o41, ?_⟩
  obtain ⟨o43, h44⟩ := h42
  refine ⟨o43, ?_⟩
  obtain ⟨o47, h48⟩ := h44
  refine ⟨o47, ?_⟩
  obtain ⟨o49, h50⟩ := h48
  refine ⟨o49, ?_⟩
  obtain ⟨o53, h54⟩ := h50
  refine ⟨o53, ?_⟩
  obtain ⟨o55, h56⟩ := h54
  refine ⟨o55, ?_⟩
  obtain ⟨o59, h60⟩ := h56
  refine ⟨o59, ?_⟩
  obtain ⟨o61, h62⟩ := h60
  refine ⟨o61, ?_⟩
  exact hq _ _ (((((((((((zSm.rf.pv rfl).pa rfl).pa rfl).pa rfl).pa rfl).pa rfl).pa rfl).pa rfl).pa rfl).pa rfl).pa rfl) h62
theorem ffm_leaf {s0 : zS} {a0 : Int} {a1 : Int} {a2 : Int} {Q Q' : zS → Prop} (hw : wr_leaf s0 a0 a1 a2 Q) (hq : ∀ (A' : zS), zSm s0 A' [25, 26, 27, 28, 29, 30, 31, 33, 34, 35, 36] [24, 37] → Q A' → Q' A') : wr_leaf s0 a0 a1 a2 Q' := by
  unfold wr_leaf at hw ⊢
  refine ffm_node hw (fun r1 s2 f1 h6 => ?_)
  obtain ⟨o7, h8⟩ := h6
  refine ⟨o7, ?_⟩
  obtain ⟨o9, h10⟩ := h8
  refine ⟨o9, ?_⟩
  obtain ⟨o13, h14⟩ := h10
  refine ⟨o13, ?_⟩
  exact hq _ (((zSm.rf.tr f1 rfl rfl).pa rfl).pv rfl) h14
theorem ffj_shut_66 {Q Q' : Int → zS → Prop} {k13 k13' : zS → Int → Int → Int → Prop} {s0 : zS} {x3 : Int} {x5 : Int} {x6 : Int} (hq : ∀ (e : Int) (A' : zS), zSm s0 A' [25, 26, 27, 28, 29, 30, 31, 33, 34, 35, 36] [24, 37] → Q e A' → Q' e A') (fk13 : ∀ (A' : zS) (x0 : Int) (x1 : Int) (x2 : Int), zSm s0 A' [25, 26, 27, 28, 29, 30, 31, 33, 34, 35, 36] [24, 37] → k13 A' x0 x1 x2 → k13' A' x0 x1 x2) (hw : wr_shut_66 Q k13 s0 x3 x5 x6) : wr_shut_66 Q' k13' s0 x3 x5 x6 := by
  unfold wr_shut_66 at hw ⊢
  obtain ⟨o1, h2⟩ := hw
  refine ⟨o1, ?_⟩
  obtain ⟨o3, h4⟩ := h2
  refine ⟨o3, ?_⟩
  obtain ⟨o5, h6⟩ := h4
  refine ⟨o5, ?_⟩
  obtain ⟨o7, h8⟩ := h6
  refine ⟨o7, ?_⟩
  obtain ⟨o9, h10⟩ := h8
  refine ⟨o9, ?_⟩
  obtain ⟨o11, h12⟩ := h10
  refine ⟨o11, ?_⟩
  refine ⟨fun c13 => ?_, fun c13 => ?_⟩
  · have h14 := h12.1 c13
    obtain ⟨o15, h16⟩ := h14
    refine ⟨o15, ?_⟩
    exact fk13 _ _ _ _ zSm.rf h16
  · have h17 := h12.2 c13
    obtain ⟨o18, h19⟩ := h17
    refine ⟨o18, ?_⟩
    obtain ⟨o20, h21⟩ := h19
    refine ⟨o20, ?_⟩
    obtain ⟨o22, h23⟩ := h21
    refine ⟨o22, ?_⟩
    obtain ⟨o24, h25⟩ := h23
    refine ⟨o24, ?_⟩
    obtain ⟨o26, h27⟩ := h25
    refine ⟨o26, ?_⟩
    obtain ⟨o28, h29⟩ := h27
    refine ⟨o28, ?_⟩
    obtain ⟨o32, h33⟩ := h29
    refine ⟨o32, ?_⟩
    exact fk13 _ _ _ _ (zSm.rf.pa rfl) h33
theorem ffb_shut_13 {Q Q' : Int → zS → Prop} {k13 k13' : zS → Int → Int → Int → Prop} {s0 : zS} {x3 : Int} {x5 : Int} {x6 : Int} (hq : ∀ (e : Int) (A' : zS), zSm s0 A' [25, 26, 27, 28, 29, 30, 31, 33, 34, 35, 36] [24, 37] → Q e A' → Q' e A') (fk13 : ∀ (A' : zS) (x0 : Int) (x1 : Int) (x2 : Int), zSm s0 A' [25, 26, 27, 28, 29, 30, 31, 33, 34, 35, 36] [24, 37] → k13 A' x0 x1 x2 → k13' A' x0 x1 x2) (hw : wr_shut_13B Q k13 s0 x3 x5 x6) : wr_shut_13B Q' k13' s0 x3 x5 x6 := by
  unfold wr_shut_13B at hw ⊢
  refine ⟨fun c1 => ?_, fun c1 => ?_⟩
  · have h2 := hw.1 c1
    obtain ⟨o5, h6⟩ := h2
    refine ⟨o5, ?_⟩
    obtain ⟨o7, h8⟩ := h6
    refine ⟨o7, ?_⟩
    obtain ⟨o11, h12⟩ := h8
    refine ⟨o11, ?_⟩
    exact hq _ _ (((zSm.rf.pv rfl).pa rfl).pv rfl) h12
  · have h15 := hw.2 c1
    refine ⟨fun c16 => ?_, fun c16 => ?_⟩
    · have h17 := h15.1 c16
      obtain ⟨o18, h19⟩ := h17
      refine ⟨o18, ?_⟩
      obtain ⟨o20, h21⟩ := h19
      refine ⟨o20, ?_⟩
      obtain ⟨o22, h23⟩ := h21
      refine ⟨o22, ?_⟩
      obtain ⟨o24, h25⟩ := h23
      refine ⟨o24, ?_⟩
      obtain ⟨o26, h27⟩ := h25
      refine ⟨o26, ?_⟩
      obtain ⟨o28, h29⟩ := h27
      refine ⟨o28, ?_⟩
      exact ffj_shut_66 (fun e A' f q => hq e A' ((zSm.rf.pa rfl).tr f rfl rfl) q) (fun A' x0 x1 x2 f q => fk13 A' x0 x1 x2 ((zSm.rf.pa rfl).tr f rfl rfl) q) h29
    · have h32 := h15.2 c16
      obtain ⟨o33, h34⟩ := h32
      refine ⟨o33, ?_⟩
      obtain ⟨o35, h36⟩ := h34
      refine ⟨o35, ?_⟩
      obtain ⟨o37, h38⟩ := h36
      refine ⟨o37, ?_⟩
      obtain ⟨o39, h40⟩ := h38
      refine ⟨o39, ?_⟩
      exact ffj_shut_66 (fun e A' f q => hq e A' ((zSm.rf.pa rfl).tr f rfl rfl) q) (fun A' x0 x1 x2 f q => fk13 A' x0 x1 x2 ((zSm.rf.pa rfl).tr f rfl rfl) q) h40
theorem ffl_shut_130 {Q Q' : Int → zS → Prop}  : ∀ (m : Nat) (s0 : zS) (x3 : Int) (x5 : Int) (x6 : Int), (∀ (e : Int) (A' : zS), zSm s0 A' [25, 26, 27, 28, 29, 30, 31, 33, 34, 35, 36] [24, 37] → Q e A' → Q' e A') → wr_shut_13 Q  m s0 x3 x5 x6 → wr_shut_13 Q'  m s0 x3 x5 x6 := by
  intro m
  induction m with
  | zero => intro s0 x3 x5 x6 hq  hw; exact hw
  | succ m ih => intro s0 x3 x5 x6 hq  hw; exact ffb_shut_13 hq  (fun A' y0 y1 y2 f1 q => ih A' y0 y1 y2 (fun e A' f q => hq e A' (f1.tr f rfl rfl) q)  q) hw
theorem ffm_shut {s0 : zS} {a0 : Int} {a1 : Int} {a2 : Int} {a3 : Int} {Q Q' : Int → zS → Prop} (hw : wr_shut s0 a0 a1 a2 a3 Q) (hq : ∀ (e : Int) (A' : zS), zSm s0 A' [25, 26, 27, 28, 29, 30, 31, 33, 34, 35, 36] [24, 37] → Q e A' → Q' e A') : wr_shut s0 a0 a1 a2 a3 Q' := by
  unfold wr_shut at hw ⊢
  refine ffm_node hw (fun r1 s2 f1 h6 => ?_)
  obtain ⟨m7, h8⟩ := h6
  exact ⟨m7, ffl_shut_130 m7 _ _ _ _ (fun e A' f q => hq e A' ((zSm.rf.tr f1 rfl rfl).tr f rfl rfl) q)  h8⟩
theorem ffb_pairs_42 {Q Q' : zS → Prop} {k42 k42' : zS → Int → Int → Int → Int → Prop} {s0 : zS} {x1 : Int} {x2 : Int} {x3 : Int} {x4 : Int} (hq : ∀ (A' : zS), zSm s0 A' [32] [] → Q A' → Q' A') (fk42 : ∀ (A' : zS) (x0 : Int) (x1 : Int) (x2 : Int) (x3 : Int), zSm s0 A' [32] [] → k42 A' x0 x1 x2 x3 → k42' A' x0 x1 x2 x3) (hw : wr_pairs_42B Q k42 s0 x1 x2 x3 x4) : wr_pairs_42B Q' k42' s0 x1 x2 x3 x4 := by
  unfold wr_pairs_42B at hw ⊢
  obtain ⟨o1, h2⟩ := hw
  refine ⟨o1, ?_⟩
  obtain ⟨o3, h4⟩ := h2
  refine ⟨o3, ?_⟩
  refine ⟨fun c5 => ?_, fun c5 => ?_⟩
  · have h6 := h4.1 c5
    exact hq _ zSm.rf h6
  · have h7 := h4.2 c5
    obtain ⟨o8, h9⟩ := h7
    refine ⟨o8, ?_⟩
    obtain ⟨o10, h11⟩ := h9
    refine ⟨o10, ?_⟩
    obtain ⟨o14, h15⟩ := h11
    refine ⟨o14, ?_⟩
    obtain ⟨o16, h17⟩ := h15
    refine ⟨o16, ?_⟩
    obtain ⟨o18, h19⟩ := h17
    refine ⟨o18, ?_⟩
    obtain ⟨o20, h21⟩ := h19
    refine ⟨o20, ?_⟩
    obtain ⟨o22, h23⟩ := h21
    refine ⟨o22, ?_⟩
    exact fk42 _ _ _ _ _ (zSm.rf.pa rfl) h23
theorem ffl_pairs_420 {Q Q' : zS → Prop}  : ∀ (m : Nat) (s0 : zS) (x1 : Int) (x2 : Int) (x3 : Int) (x4 : Int), (∀ (A' : zS), zSm s0 A' [32] [] → Q A' → Q' A') → wr_pairs_42 Q  m s0 x1 x2 x3 x4 → wr_pairs_42 Q'  m s0 x1 x2 x3 x4 := by
  intro m
  induction m with
  | zero => intro s0 x1 x2 x3 x4 hq  hw; exact hw
  | succ m ih => intro s0 x1 x2 x3 x4 hq  hw; exact ffb_pairs_42 hq  (fun A' y0 y1 y2 y3 f1 q => ih A' y0 y1 y2 y3 (fun A' f q => hq A' (f1.tr f rfl rfl) q)  q) hw
theorem ffb_pairs_9 {Q Q' : zS → Prop} {k9 k9' : zS → Int → Int → Int → Prop} {s0 : zS} {x1 : Int} {x2 : Int} {x3 : Int} (hq : ∀ (A' : zS), zSm s0 A' [32] [] → Q A' → Q' A') (fk9 : ∀ (A' : zS) (x0 : Int) (x1 : Int) (x2 : Int), zSm s0 A' [32] [] → k9 A' x0 x1 x2 → k9' A' x0 x1 x2) (hw : wr_pairs_9B Q k9 s0 x1 x2 x3) : wr_pairs_9B Q' k9' s0 x1 x2 x3 := by
  unfold wr_pairs_9B at hw ⊢
  obtain ⟨o1, h2⟩ := hw
  refine ⟨o1, ?_⟩
  obtain ⟨o3, h4⟩ := h2
  refine ⟨o3, ?_⟩
  refine ⟨fun c5 => ?_, fun c5 => ?_⟩
  · have h6 := h4.1 c5
    obtain ⟨o7, h8⟩ := h6
    refine ⟨o7, ?_⟩
    obtain ⟨o9, h10⟩ := h8
    refine ⟨o9, ?_⟩
    obtain ⟨m11, h12⟩ := h10
    exact ⟨m11, ffl_pairs_420 m11 _ _ _ _ _ (fun A' f q => hq A' (zSm.rf.tr f rfl rfl) q)  h12⟩
  · have h13 := h4.2 c5
    obtain ⟨o14, h15⟩ := h13
    refine ⟨o14, ?_⟩
    obtain ⟨o16, h17⟩ := h15
    refine ⟨o16, ?_⟩
    obtain ⟨o18, h19⟩ := h17
    refine ⟨o18, ?_⟩
    exact fk9 _ _ _ _ zSm.rf h19
theorem ffl_pairs_90 {Q Q' : zS → Prop}  : ∀ (m : Nat) (s0 : zS) (x1 : Int) (x2 : Int) (x3 : Int), (∀ (A' : zS), zSm s0 A' [32] [] → Q A' → Q' A') → wr_pairs_9 Q  m s0 x1 x2 x3 → wr_pairs_9 Q'  m s0 x1 x2 x3 := by
  intro m
  induction m with
  | zero => intro s0 x1 x2 x3 hq  hw; exact hw
  | succ m ih => intro s0 x1 x2 x3 hq  hw; exact ffb_pairs_9 hq  (fun A' y0 y1 y2 f1 q => ih A' y0 y1 y2 (fun A' f q => hq A' (f1.tr f rfl rfl) q)  q) hw
theorem ffm_pairs {s0 : zS} {a0 : Int} {Q Q' : zS → Prop} (hw : wr_pairs s0 a0 Q) (hq : ∀ (A' : zS), zSm s0 A' [32] [] → Q A' → Q' A') : wr_pairs s0 a0 Q' := by
  unfold wr_pairs at hw ⊢
  obtain ⟨o1, h2⟩ := hw
  refine ⟨o1, ?_⟩
  obtain ⟨o3, h4⟩ := h2
  refine ⟨o3, ?_⟩
  obtain ⟨m5, h6⟩ := h4
  exact ⟨m5, ffl_pairs_90 m5 _ _ _ _ (fun A' f q => hq A' (zSm.rf.tr f rfl rfl) q)  h6⟩
theorem ffm_goal {s0 : zS} {a0 : Int} {a1 : Int} {a2 : Int} {a3 : Int} {Q Q' : zS → Prop} (hw : wr_goal s0 a0 a1 a2 a3 Q) (hq : ∀ (A' : zS), zSm s0 A' [39, 40, 41, 42] [38] → Q A' → Q' A') : wr_goal s0 a0 a1 a2 a3 Q' := by
  unfold wr_goal at hw ⊢
  obtain ⟨o1, h2⟩ := hw
  refine ⟨o1, ?_⟩
  obtain ⟨o3, h4⟩ := h2
  refine ⟨o3, ?_⟩
  obtain ⟨o7, h8⟩ := h4
  refine ⟨o7, ?_⟩
  obtain ⟨o9, h10⟩ := h8
  refine ⟨o9, ?_⟩
  obtain ⟨o13, h14⟩ := h10
  refine ⟨o13, ?_⟩
  obtain ⟨o15, h16⟩ := h14
  refine ⟨o15, ?_⟩
  obtain ⟨o19, h20⟩ := h16
  refine ⟨o19, ?_⟩
  obtain ⟨o21, h22⟩ := h20
  refine ⟨o21, ?_⟩
  obtain ⟨o25, h26⟩ := h22
  refine ⟨o25, ?_⟩
  exact hq _ (((((zSm.rf.pa rfl).pa rfl).pa rfl).pa rfl).pv rfl) h26
theorem ffm_tk {s0 : zS}  {Q Q' : Int → zS → Prop} (hw : wr_tk s0  Q) (hq : ∀ (e : Int) (A' : zS), zSm s0 A' [] [] → Q e A' → Q' e A') : wr_tk s0  Q' := by
  unfold wr_tk at hw ⊢
  refine ⟨fun c1 => ?_, fun c1 => ?_⟩
  · have h2 := hw.1 c1
    exact hq _ _ zSm.rf h2
  · have h3 := hw.2 c1
    obtain ⟨o4, h5⟩ := h3
    refine ⟨o4, ?_⟩
    obtain ⟨o6, h7⟩ := h5
    refine ⟨o6, ?_⟩
    exact hq _ _ zSm.rf h7
theorem ffm_tkNext {s0 : zS}  {Q Q' : Int → zS → Prop} (hw : wr_tkNext s0  Q) (hq : ∀ (e : Int) (A' : zS), zSm s0 A' [] [] → Q e A' → Q' e A') : wr_tkNext s0  Q' := by
  unfold wr_tkNext at hw ⊢
  obtain ⟨o1, h2⟩ := hw
  refine ⟨o1, ?_⟩
  refine ⟨fun c3 => ?_, fun c3 => ?_⟩
  · have h4 := h2.1 c3
    exact hq _ _ zSm.rf h4
  · have h5 := h2.2 c3
    obtain ⟨o6, h7⟩ := h5
    refine ⟨o6, ?_⟩
    obtain ⟨o8, h9⟩ := h7
    refine ⟨o8, ?_⟩
    exact hq _ _ zSm.rf h9
theorem ffm_take {s0 : zS} {a0 : Int} {Q Q' : Int → zS → Prop} (hw : wr_take s0 a0 Q) (hq : ∀ (e : Int) (A' : zS), zSm s0 A' [] [43] → Q e A' → Q' e A') : wr_take s0 a0 Q' := by
  unfold wr_take at hw ⊢
  refine ffm_tk hw (fun r1 s2 f1 h6 => ?_)
  refine ⟨fun c7 => ?_, fun c7 => ?_⟩
  · have h8 := h6.1 c7
    obtain ⟨o9, h10⟩ := h8
    refine ⟨o9, ?_⟩
    exact hq _ _ ((zSm.rf.tr f1 rfl rfl).pv rfl) h10
  · have h13 := h6.2 c7
    exact hq _ _ (zSm.rf.tr f1 rfl rfl) h13
theorem ffm_deeper {s0 : zS}  {Q Q' : Int → zS → Prop} (hw : wr_deeper s0  Q) (hq : ∀ (e : Int) (A' : zS), zSm s0 A' [] [44] → Q e A' → Q' e A') : wr_deeper s0  Q' := by
  unfold wr_deeper at hw ⊢
  refine ⟨fun c1 => ?_, fun c1 => ?_⟩
  · have h2 := hw.1 c1
    obtain ⟨o3, h4⟩ := h2
    refine ⟨o3, ?_⟩
    exact hq _ _ (zSm.rf.pv rfl) h4
  · have h7 := hw.2 c1
    exact hq _ _ zSm.rf h7
theorem ffm_isD {s0 : zS} {a0 : Int} {Q Q' : Int → zS → Prop} (hw : wr_isD s0 a0 Q) (hq : ∀ (e : Int) (A' : zS), zSm s0 A' [] [] → Q e A' → Q' e A') : wr_isD s0 a0 Q' := by
  unfold wr_isD at hw ⊢
  refine ⟨fun c1 => ?_, fun c1 => ?_⟩
  · have h2 := hw.1 c1
    exact hq _ _ zSm.rf h2
  · have h3 := hw.2 c1
    refine ⟨fun c4 => ?_, fun c4 => ?_⟩
    · have h5 := h3.1 c4
      exact hq _ _ zSm.rf h5
    · have h6 := h3.2 c4
      refine ⟨fun c7 => ?_, fun c7 => ?_⟩
      · have h8 := h6.1 c7
        exact hq _ _ zSm.rf h8
      · have h9 := h6.2 c7
        refine ⟨fun c10 => ?_, fun c10 => ?_⟩
        · have h11 := h9.1 c10
          exact hq _ _ zSm.rf h11
        · have h12 := h9.2 c10
          exact hq _ _ zSm.rf h12
theorem ffm_openSection {s0 : zS}  {Q Q' : Int → zS → Prop} (hw : wr_openSection s0  Q) (hq : ∀ (e : Int) (A' : zS), zSm s0 A' [46, 47] [43, 44, 45] → Q e A' → Q' e A') : wr_openSection s0  Q' := by
  unfold wr_openSection at hw ⊢
  refine ffm_tk hw (fun r1 s2 f1 h6 => ?_)
  refine ⟨fun c7 => ?_, fun c7 => ?_⟩
  · have h8 := h6.1 c7
    refine ffm_deeper h8 (fun r9 s10 f2 h14 => ?_)
    refine ⟨fun c15 => ?_, fun c15 => ?_⟩
    · have h16 := h14.1 c15
      obtain ⟨o17, h18⟩ := h16
      refine ⟨o17, ?_⟩
      obtain ⟨o19, h20⟩ := h18
      refine ⟨o19, ?_⟩
      obtain ⟨o21, h22⟩ := h20
      refine ⟨o21, ?_⟩
      obtain ⟨o23, h24⟩ := h22
      refine ⟨o23, ?_⟩
      obtain ⟨o27, h28⟩ := h24
      refine ⟨o27, ?_⟩
      obtain ⟨o29, h30⟩ := h28
      refine ⟨o29, ?_⟩
      obtain ⟨o33, h34⟩ := h30
      refine ⟨o33, ?_⟩
      obtain ⟨o37, h38⟩ := h34
      refine ⟨o37, ?_⟩
      exact hq _ _ ((((((zSm.rf.tr f1 rfl rfl).tr f2 rfl rfl).pa rfl).pa rfl).pv rfl).pv rfl) h38
    · have h41 := h14.2 c15
      exact hq _ _ ((zSm.rf.tr f1 rfl rfl).tr f2 rfl rfl) h41
  · have h42 := h6.2 c7
    exact hq _ _ (zSm.rf.tr f1 rfl rfl) h42
theorem ffj_shutSection_97 {Q Q' : Int → zS → Prop}  {s0 : zS} {x2 : Int} (hq : ∀ (e : Int) (A' : zS), zSm s0 A' [] [43, 44, 45] → Q e A' → Q' e A')  (hw : wr_shutSection_97 Q  s0 x2) : wr_shutSection_97 Q'  s0 x2 := by
  unfold wr_shutSection_97 at hw ⊢
  refine ⟨fun c1 => ?_, fun c1 => ?_⟩
  · have h2 := hw.1 c1
    obtain ⟨o3, h4⟩ := h2
    refine ⟨o3, ?_⟩
    obtain ⟨o7, h8⟩ := h4
    refine ⟨o7, ?_⟩
    obtain ⟨o9, h10⟩ := h8
    refine ⟨o9, ?_⟩
    exact hq _ _ ((zSm.rf.pv rfl).pv rfl) h10
  · have h13 := hw.2 c1
    obtain ⟨o14, h15⟩ := h13
    refine ⟨o14, ?_⟩
    obtain ⟨o18, h19⟩ := h15
    refine ⟨o18, ?_⟩
    obtain ⟨o22, h23⟩ := h19
    refine ⟨o22, ?_⟩
    obtain ⟨o24, h25⟩ := h23
    refine ⟨o24, ?_⟩
    exact hq _ _ (((zSm.rf.pv rfl).pv rfl).pv rfl) h25
theorem ffb_shutSection_51 {Q Q' : Int → zS → Prop} {k51 k51' : zS → Int → Int → Int → Int → Prop} {s0 : zS} {x1 : Int} {x2 : Int} {x3 : Int} {x4 : Int} (hq : ∀ (e : Int) (A' : zS), zSm s0 A' [] [43, 44, 45] → Q e A' → Q' e A') (fk51 : ∀ (A' : zS) (x0 : Int) (x1 : Int) (x2 : Int) (x3 : Int), zSm s0 A' [] [43, 44, 45] → k51 A' x0 x1 x2 x3 → k51' A' x0 x1 x2 x3) (hw : wr_shutSection_51B Q k51 s0 x1 x2 x3 x4) : wr_shutSection_51B Q' k51' s0 x1 x2 x3 x4 := by
  unfold wr_shutSection_51B at hw ⊢
  refine ⟨fun c1 => ?_, fun c1 => ?_⟩
  · have h2 := hw.1 c1
    refine ⟨fun c3 => ?_, fun c3 => ?_⟩
    · have h4 := h2.1 c3
      exact ffj_shutSection_97 (fun e A' f q => hq e A' (zSm.rf.tr f rfl rfl) q)  h4
    · have h5 := h2.2 c3
      refine ⟨fun c6 => ?_, fun c6 => ?_⟩
      · have h7 := h5.1 c6
        exact ffj_shutSection_97 (fun e A' f q => hq e A' (zSm.rf.tr f rfl rfl) q)  h7
      · have h8 := h5.2 c6
        exact hq _ _ zSm.rf h8
  · have h9 := hw.2 c1
    refine ⟨fun c10 => ?_, fun c10 => ?_⟩
    · have h11 := h9.1 c10
      obtain ⟨o12, h13⟩ := h11
      refine ⟨o12, ?_⟩
      exact fk51 _ _ _ _ _ zSm.rf h13
    · have h14 := h9.2 c10
      obtain ⟨o15, h16⟩ := h14
      refine ⟨o15, ?_⟩
      obtain ⟨o17, h18⟩ := h16
      refine ⟨o17, ?_⟩
      refine ⟨fun c19 => ?_, fun c19 => ?_⟩
      · have h20 := h18.1 c19
        obtain ⟨o21, h22⟩ := h20
        refine ⟨o21, ?_⟩
        exact fk51 _ _ _ _ _ zSm.rf h22
      · have h23 := h18.2 c19
        obtain ⟨o24, h25⟩ := h23
        refine ⟨o24, ?_⟩
        exact fk51 _ _ _ _ _ zSm.rf h25
theorem ffl_shutSection_510 {Q Q' : Int → zS → Prop}  : ∀ (m : Nat) (s0 : zS) (x1 : Int) (x2 : Int) (x3 : Int) (x4 : Int), (∀ (e : Int) (A' : zS), zSm s0 A' [] [43, 44, 45] → Q e A' → Q' e A') → wr_shutSection_51 Q  m s0 x1 x2 x3 x4 → wr_shutSection_51 Q'  m s0 x1 x2 x3 x4 := by
  intro m
  induction m with
  | zero => intro s0 x1 x2 x3 x4 hq  hw; exact hw
  | succ m ih => intro s0 x1 x2 x3 x4 hq  hw; exact ffb_shutSection_51 hq  (fun A' y0 y1 y2 y3 f1 q => ih A' y0 y1 y2 y3 (fun e A' f q => hq e A' (f1.tr f rfl rfl) q)  q) hw
theorem ffm_shutSection {s0 : zS}  {Q Q' : Int → zS → Prop} (hw : wr_shutSection s0  Q) (hq : ∀ (e : Int) (A' : zS), zSm s0 A' [] [43, 44, 45] → Q e A' → Q' e A') : wr_shutSection s0  Q' := by
  unfold wr_shutSection at hw ⊢
  refine ffm_tk hw (fun r1 s2 f1 h6 => ?_)
  refine ⟨fun c7 => ?_, fun c7 => ?_⟩
  · have h8 := h6.1 c7
    obtain ⟨o9, h10⟩ := h8
    refine ⟨o9, ?_⟩
    obtain ⟨o11, h12⟩ := h10
    refine ⟨o11, ?_⟩
    refine ⟨fun c13 => ?_, fun c13 => ?_⟩
    · have h14 := h12.1 c13
      obtain ⟨m15, h16⟩ := h14
      exact ⟨m15, ffl_shutSection_510 m15 _ _ _ _ _ (fun e A' f q => hq e A' ((zSm.rf.tr f1 rfl rfl).tr f rfl rfl) q)  h16⟩
    · have h17 := h12.2 c13
      obtain ⟨o18, h19⟩ := h17
      refine ⟨o18, ?_⟩
      obtain ⟨o20, h21⟩ := h19
      refine ⟨o20, ?_⟩
      refine ⟨fun c22 => ?_, fun c22 => ?_⟩
      · have h23 := h21.1 c22
        obtain ⟨m24, h25⟩ := h23
        exact ⟨m24, ffl_shutSection_510 m24 _ _ _ _ _ (fun e A' f q => hq e A' ((zSm.rf.tr f1 rfl rfl).tr f rfl rfl) q)  h25⟩
      · have h26 := h21.2 c22
        obtain ⟨m27, h28⟩ := h26
        exact ⟨m27, ffl_shutSection_510 m27 _ _ _ _ _ (fun e A' f q => hq e A' ((zSm.rf.tr f1 rfl rfl).tr f rfl rfl) q)  h28⟩
  · have h29 := h6.2 c7
    exact hq _ _ (zSm.rf.tr f1 rfl rfl) h29
theorem ffj_levelOf_58 {Q Q' : Int → zS → Prop}  {s0 : zS} {x0 : Int} (hq : ∀ (e : Int) (A' : zS), zSm s0 A' [] [] → Q e A' → Q' e A')  (hw : wr_levelOf_58 Q  s0 x0) : wr_levelOf_58 Q'  s0 x0 := by
  unfold wr_levelOf_58 at hw ⊢
  refine ⟨fun c1 => ?_, fun c1 => ?_⟩
  · have h2 := hw.1 c1
    exact hq _ _ zSm.rf h2
  · have h3 := hw.2 c1
    refine ⟨fun c4 => ?_, fun c4 => ?_⟩
    · have h5 := h3.1 c4
      refine ⟨fun c6 => ?_, fun c6 => ?_⟩
      · have h7 := h5.1 c6
        exact hq _ _ zSm.rf h7
      · have h8 := h5.2 c6
        refine ⟨fun c9 => ?_, fun c9 => ?_⟩
        · have h10 := h8.1 c9
          exact hq _ _ zSm.rf h10
        · have h11 := h8.2 c9
          refine ⟨fun c12 => ?_, fun c12 => ?_⟩
          · have h13 := h11.1 c12
            exact hq _ _ zSm.rf h13
          · have h14 := h11.2 c12
            exact hq _ _ zSm.rf h14
    · have h15 := h3.2 c4
      exact hq _ _ zSm.rf h15
theorem ffm_levelOf {s0 : zS} {a0 : Int} {Q Q' : Int → zS → Prop} (hw : wr_levelOf s0 a0 Q) (hq : ∀ (e : Int) (A' : zS), zSm s0 A' [] [] → Q e A' → Q' e A') : wr_levelOf s0 a0 Q' := by
  unfold wr_levelOf at hw ⊢
  refine ⟨fun c1 => ?_, fun c1 => ?_⟩
  · have h2 := hw.1 c1
    exact hq _ _ zSm.rf h2
  · have h3 := hw.2 c1
    refine ⟨fun c4 => ?_, fun c4 => ?_⟩
    · have h5 := h3.1 c4
      refine ⟨fun c6 => ?_, fun c6 => ?_⟩
      · have h7 := h5.1 c6
        refine ⟨fun c8 => ?_, fun c8 => ?_⟩
        · have h9 := h7.1 c8
          refine ⟨fun c10 => ?_, fun c10 => ?_⟩
          · have h11 := h9.1 c10
            exact hq _ _ zSm.rf h11
          · have h12 := h9.2 c10
            refine ⟨fun c13 => ?_, fun c13 => ?_⟩
            · have h14 := h12.1 c13
              refine ⟨fun c15 => ?_, fun c15 => ?_⟩
              · have h16 := h14.1 c15
                exact ffj_levelOf_58 (fun e A' f q => hq e A' (zSm.rf.tr f rfl rfl) q)  h16
              · have h17 := h14.2 c15
                refine ⟨fun c18 => ?_, fun c18 => ?_⟩
                · have h19 := h17.1 c18
                  exact ffj_levelOf_58 (fun e A' f q => hq e A' (zSm.rf.tr f rfl rfl) q)  h19
                · have h20 := h17.2 c18
                  exact hq _ _ zSm.rf h20
            · have h21 := h12.2 c13
              exact hq _ _ zSm.rf h21
        · have h22 := h7.2 c8
          exact hq _ _ zSm.rf h22
      · have h23 := h5.2 c6
        exact hq _ _ zSm.rf h23
    · have h24 := h3.2 c4
      exact hq _ _ zSm.rf h24
theorem ffb_binary_70 {Q Q' : zS → Prop} {k70 k70' : zS → Int → Int → Int → Prop} {s0 : zS} {x3 : Int} {x5 : Int} {x6 : Int} (hq : ∀ (A' : zS), zSm s0 A' [25, 26, 27, 28, 29, 30, 31, 33, 34, 35, 36] [24, 37] → Q A' → Q' A') (fk70 : ∀ (A' : zS) (x0 : Int) (x1 : Int) (x2 : Int), zSm s0 A' [25, 26, 27, 28, 29, 30, 31, 33, 34, 35, 36] [24, 37] → k70 A' x0 x1 x2 → k70' A' x0 x1 x2) (hw : wr_binary_70B Q k70 s0 x3 x5 x6) : wr_binary_70B Q' k70' s0 x3 x5 x6 := by
  unfold wr_binary_70B at hw ⊢
  obtain ⟨o1, h2⟩ := hw
  refine ⟨o1, ?_⟩
  obtain ⟨o3, h4⟩ := h2
  refine ⟨o3, ?_⟩
  refine ⟨fun c5 => ?_, fun c5 => ?_⟩
  · have h6 := h4.1 c5
    obtain ⟨o7, h8⟩ := h6
    refine ⟨o7, ?_⟩
    obtain ⟨o9, h10⟩ := h8
    refine ⟨o9, ?_⟩
    obtain ⟨o13, h14⟩ := h10
    refine ⟨o13, ?_⟩
    exact hq _ ((zSm.rf.pa rfl).pv rfl) h14
  · have h17 := h4.2 c5
    obtain ⟨o18, h19⟩ := h17
    refine ⟨o18, ?_⟩
    obtain ⟨o20, h21⟩ := h19
    refine ⟨o20, ?_⟩
    exact fk70 _ _ _ _ zSm.rf h21
theorem ffl_binary_700 {Q Q' : zS → Prop}  : ∀ (m : Nat) (s0 : zS) (x3 : Int) (x5 : Int) (x6 : Int), (∀ (A' : zS), zSm s0 A' [25, 26, 27, 28, 29, 30, 31, 33, 34, 35, 36] [24, 37] → Q A' → Q' A') → wr_binary_70 Q  m s0 x3 x5 x6 → wr_binary_70 Q'  m s0 x3 x5 x6 := by
  intro m
  induction m with
  | zero => intro s0 x3 x5 x6 hq  hw; exact hw
  | succ m ih => intro s0 x3 x5 x6 hq  hw; exact ffb_binary_70 hq  (fun A' y0 y1 y2 f1 q => ih A' y0 y1 y2 (fun A' f q => hq A' (f1.tr f rfl rfl) q)  q) hw
theorem ffm_binary {s0 : zS} {a0 : Int} {a1 : Int} {a2 : Int} {Q Q' : zS → Prop} (hw : wr_binary s0 a0 a1 a2 Q) (hq : ∀ (A' : zS), zSm s0 A' [25, 26, 27, 28, 29, 30, 31, 33, 34, 35, 36] [24, 37] → Q A' → Q' A') : wr_binary s0 a0 a1 a2 Q' := by
  unfold wr_binary at hw ⊢
  obtain ⟨o1, h2⟩ := hw
  refine ⟨o1, ?_⟩
  obtain ⟨o3, h4⟩ := h2
  refine ⟨o3, ?_⟩
  refine ⟨fun c5 => ?_, fun c5 => ?_⟩
  · have h6 := h4.1 c5
    refine ffm_shut h6 (fun r7 s8 f1 h12 => ?_)
    obtain ⟨o13, h14⟩ := h12
    refine ⟨o13, ?_⟩
    obtain ⟨o15, h16⟩ := h14
    refine ⟨o15, ?_⟩
    obtain ⟨o17, h18⟩ := h16
    refine ⟨o17, ?_⟩
    obtain ⟨o19, h20⟩ := h18
    refine ⟨o19, ?_⟩
    exact hq _ ((zSm.rf.tr f1 rfl rfl).pa rfl) h20
  · have h23 := h4.2 c5
    obtain ⟨o24, h25⟩ := h23
    refine ⟨o24, ?_⟩
    obtain ⟨o26, h27⟩ := h25
    refine ⟨o26, ?_⟩
    obtain ⟨o28, h29⟩ := h27
    refine ⟨o28, ?_⟩
    obtain ⟨o30, h31⟩ := h29
    refine ⟨o30, ?_⟩
    obtain ⟨o32, h33⟩ := h31
    refine ⟨o32, ?_⟩
    obtain ⟨o34, h35⟩ := h33
    refine ⟨o34, ?_⟩
    obtain ⟨o38, h39⟩ := h35
    refine ⟨o38, ?_⟩
    obtain ⟨o40, h41⟩ := h39
    refine ⟨o40, ?_⟩
    refine ⟨fun c42 => ?_, fun c42 => ?_⟩
    · have h43 := h41.1 c42
      refine ffm_shut h43 (fun r44 s45 f2 h49 => ?_)
      exact hq _ ((zSm.rf.pa rfl).tr f2 rfl rfl) h49
    · have h50 := h41.2 c42
      obtain ⟨o51, h52⟩ := h50
      refine ⟨o51, ?_⟩
      obtain ⟨o53, h54⟩ := h52
      refine ⟨o53, ?_⟩
      refine ⟨fun c55 => ?_, fun c55 => ?_⟩
      · have h56 := h54.1 c55
        refine ffm_shut h56 (fun r57 s58 f3 h62 => ?_)
        exact hq _ ((zSm.rf.pa rfl).tr f3 rfl rfl) h62
      · have h63 := h54.2 c55
        obtain ⟨o64, h65⟩ := h63
        refine ⟨o64, ?_⟩
        obtain ⟨o66, h67⟩ := h65
        refine ⟨o66, ?_⟩
        obtain ⟨m68, h69⟩ := h67
        exact ⟨m68, ffl_binary_700 m68 _ _ _ _ (fun A' f q => hq A' ((zSm.rf.pa rfl).tr f rfl rfl) q)  h69⟩
theorem ffm_calls {s0 : zS} {a0 : Int} {a1 : Int} {a2 : Int} {Q Q' : Int → zS → Prop} (hw : wr_calls s0 a0 a1 a2 Q) (hq : ∀ (e : Int) (A' : zS), zSm s0 A' [25, 26, 27, 28, 29, 30, 31, 33, 34, 35, 36, 39, 40, 41, 42] [24, 37, 38, 43, 44] → Q e A' → Q' e A') : wr_calls s0 a0 a1 a2 Q' := by
  unfold wr_calls at hw ⊢
  refine ⟨fun c1 => ?_, fun c1 => ?_⟩
  · have h2 := hw.1 c1
    refine ffm_tk h2 (fun r3 s4 f1 h8 => ?_)
    refine ⟨fun c9 => ?_, fun c9 => ?_⟩
    · have h10 := h8.1 c9
      refine ffm_deeper h10 (fun r11 s12 f2 h16 => ?_)
      refine ⟨fun c17 => ?_, fun c17 => ?_⟩
      · have h18 := h16.1 c17
        obtain ⟨o19, h20⟩ := h18
        refine ⟨o19, ?_⟩
        refine ffm_take h20 (fun r23 s24 f3 h28 => ?_)
        refine ⟨fun c29 => ?_, fun c29 => ?_⟩
        · have h30 := h28.1 c29
          refine ffm_goal h30 (fun s32 f4 h36 => ?_)
          refine ffm_goal h36 (fun s38 f5 h42 => ?_)
          exact hq _ _ ((((((zSm.rf.tr f1 rfl rfl).tr f2 rfl rfl).pv rfl).tr f3 rfl rfl).tr f4 rfl rfl).tr f5 rfl rfl) h42
        · have h43 := h28.2 c29
          refine ffm_shut h43 (fun r44 s45 f6 h49 => ?_)
          refine ffm_goal h49 (fun s51 f7 h55 => ?_)
          exact hq _ _ ((((((zSm.rf.tr f1 rfl rfl).tr f2 rfl rfl).pv rfl).tr f3 rfl rfl).tr f6 rfl rfl).tr f7 rfl rfl) h55
      · have h56 := h16.2 c17
        exact hq _ _ ((zSm.rf.tr f1 rfl rfl).tr f2 rfl rfl) h56
    · have h57 := h8.2 c9
      exact hq _ _ (zSm.rf.tr f1 rfl rfl) h57
  · have h58 := hw.2 c1
    obtain ⟨o59, h60⟩ := h58
    refine ⟨o59, ?_⟩
    obtain ⟨o61, h62⟩ := h60
    refine ⟨o61, ?_⟩
    refine ffm_shut h62 (fun r63 s64 f8 h68 => ?_)
    obtain ⟨o69, h70⟩ := h68
    refine ⟨o69, ?_⟩
    obtain ⟨o71, h72⟩ := h70
    refine ⟨o71, ?_⟩
    exact hq _ _ ((zSm.rf.tr f8 rfl rfl).pa rfl) h72
theorem ffj_primary_241 {Q Q' : Int → zS → Prop}  {s0 : zS}  (hq : ∀ (e : Int) (A' : zS), zSm s0 A' [25, 26, 27, 28, 29, 30, 31, 33, 34, 35, 36, 39, 40, 41, 42] [24, 37, 38, 43, 44] → Q e A' → Q' e A')  (hw : wr_primary_241 Q  s0 ) : wr_primary_241 Q'  s0  := by
  unfold wr_primary_241 at hw ⊢
  obtain ⟨o1, h2⟩ := hw
  refine ⟨o1, ?_⟩
  exact hq _ _ (zSm.rf.pv rfl) h2
theorem ffm_primary {s0 : zS} {a0 : Int} {a1 : Int} {Q Q' : Int → zS → Prop} (hw : wr_primary s0 a0 a1 Q) (hq : ∀ (e : Int) (A' : zS), zSm s0 A' [25, 26, 27, 28, 29, 30, 31, 33, 34, 35, 36, 39, 40, 41, 42] [24, 37, 38, 43, 44] → Q e A' → Q' e A') : wr_primary s0 a0 a1 Q' := by
  unfold wr_primary at hw ⊢
  refine ⟨fun c1 => ?_, fun c1 => ?_⟩
  · have h2 := hw.1 c1
    refine ⟨fun c3 => ?_, fun c3 => ?_⟩
    · have h4 := h2.1 c3
      refine ⟨fun c5 => ?_, fun c5 => ?_⟩
      · have h6 := h4.1 c5
        refine ⟨fun c7 => ?_, fun c7 => ?_⟩
        · have h8 := h6.1 c7
          refine ⟨fun c9 => ?_, fun c9 => ?_⟩
          · have h10 := h8.1 c9
            refine ⟨fun c11 => ?_, fun c11 => ?_⟩
            · have h12 := h10.1 c11
              refine ⟨fun c13 => ?_, fun c13 => ?_⟩
              · have h14 := h12.1 c13
                refine ⟨fun c15 => ?_, fun c15 => ?_⟩
                · have h16 := h14.1 c15
                  exact hq _ _ zSm.rf h16
                · have h17 := h14.2 c15
                  refine ffm_deeper h17 (fun r18 s19 f1 h23 => ?_)
                  refine ⟨fun c24 => ?_, fun c24 => ?_⟩
                  · have h25 := h23.1 c24
                    refine ffm_goal h25 (fun s27 f2 h31 => ?_)
                    refine ffm_goal h31 (fun s33 f3 h37 => ?_)
                    refine ffm_goal h37 (fun s39 f4 h43 => ?_)
                    exact ffj_primary_241 (fun e A' f q => hq e A' (((((zSm.rf.tr f1 rfl rfl).tr f2 rfl rfl).tr f3 rfl rfl).tr f4 rfl rfl).tr f rfl rfl) q)  h43
                  · have h44 := h23.2 c24
                    exact hq _ _ (zSm.rf.tr f1 rfl rfl) h44
              · have h45 := h12.2 c13
                refine ffm_deeper h45 (fun r46 s47 f5 h51 => ?_)
                refine ⟨fun c52 => ?_, fun c52 => ?_⟩
                · have h53 := h51.1 c52
                  refine ffm_goal h53 (fun s55 f6 h59 => ?_)
                  refine ffm_goal h59 (fun s61 f7 h65 => ?_)
                  refine ffm_goal h65 (fun s67 f8 h71 => ?_)
                  exact ffj_primary_241 (fun e A' f q => hq e A' (((((zSm.rf.tr f5 rfl rfl).tr f6 rfl rfl).tr f7 rfl rfl).tr f8 rfl rfl).tr f rfl rfl) q)  h71
                · have h72 := h51.2 c52
                  exact hq _ _ (zSm.rf.tr f5 rfl rfl) h72
            · have h73 := h10.2 c11
              refine ffm_deeper h73 (fun r74 s75 f9 h79 => ?_)
              refine ⟨fun c80 => ?_, fun c80 => ?_⟩
              · have h81 := h79.1 c80
                refine ffm_goal h81 (fun s83 f10 h87 => ?_)
                refine ffm_goal h87 (fun s89 f11 h93 => ?_)
                exact ffj_primary_241 (fun e A' f q => hq e A' ((((zSm.rf.tr f9 rfl rfl).tr f10 rfl rfl).tr f11 rfl rfl).tr f rfl rfl) q)  h93
              · have h94 := h79.2 c80
                exact hq _ _ (zSm.rf.tr f9 rfl rfl) h94
          · have h95 := h8.2 c9
            refine ffm_leaf h95 (fun s97 f12 h101 => ?_)
            exact ffj_primary_241 (fun e A' f q => hq e A' ((zSm.rf.tr f12 rfl rfl).tr f rfl rfl) q)  h101
        · have h102 := h6.2 c7
          refine ffm_leaf h102 (fun s104 f13 h108 => ?_)
          exact ffj_primary_241 (fun e A' f q => hq e A' ((zSm.rf.tr f13 rfl rfl).tr f rfl rfl) q)  h108
      · have h109 := h4.2 c5
        obtain ⟨o110, h111⟩ := h109
        refine ⟨o110, ?_⟩
        obtain ⟨o112, h113⟩ := h111
        refine ⟨o112, ?_⟩
        refine ffm_leaf h113 (fun s115 f14 h119 => ?_)
        exact ffj_primary_241 (fun e A' f q => hq e A' ((zSm.rf.tr f14 rfl rfl).tr f rfl rfl) q)  h119
    · have h120 := h2.2 c3
      obtain ⟨o121, h122⟩ := h120
      refine ⟨o121, ?_⟩
      obtain ⟨o123, h124⟩ := h122
      refine ⟨o123, ?_⟩
      refine ffm_leaf h124 (fun s126 f15 h130 => ?_)
      exact ffj_primary_241 (fun e A' f q => hq e A' ((zSm.rf.tr f15 rfl rfl).tr f rfl rfl) q)  h130
  · have h131 := hw.2 c1
    obtain ⟨o132, h133⟩ := h131
    refine ⟨o132, ?_⟩
    obtain ⟨o134, h135⟩ := h133
    refine ⟨o134, ?_⟩
    refine ffm_leaf h135 (fun s137 f16 h141 => ?_)
    exact ffj_primary_241 (fun e A' f q => hq e A' ((zSm.rf.tr f16 rfl rfl).tr f rfl rfl) q)  h141
theorem ffj_reachE_641 {Q Q' : Int → zS → Prop}  {s0 : zS} {x5 : Int} {x6 : Int} (hq : ∀ (e : Int) (A' : zS), zSm s0 A' [25, 26, 27, 28, 29, 30, 31, 33, 34, 35, 36, 39, 40, 41, 42] [24, 37, 38, 43, 44] → Q e A' → Q' e A')  (hw : wr_reachE_641 Q  s0 x5 x6) : wr_reachE_641 Q'  s0 x5 x6 := by
  unfold wr_reachE_641 at hw ⊢
  refine ffm_deeper hw (fun r1 s2 f1 h6 => ?_)
  refine ⟨fun c7 => ?_, fun c7 => ?_⟩
  · have h8 := h6.1 c7
    obtain ⟨o9, h10⟩ := h8
    refine ⟨o9, ?_⟩
    refine ⟨fun c13 => ?_, fun c13 => ?_⟩
    · have h14 := h10.1 c13
      refine ffm_goal h14 (fun s16 f2 h20 => ?_)
      refine ffm_goal h20 (fun s22 f3 h26 => ?_)
      exact hq _ _ ((((zSm.rf.tr f1 rfl rfl).pv rfl).tr f2 rfl rfl).tr f3 rfl rfl) h26
    · have h27 := h10.2 c13
      refine ffm_goal h27 (fun s29 f4 h33 => ?_)
      refine ffm_goal h33 (fun s35 f5 h39 => ?_)
      exact hq _ _ ((((zSm.rf.tr f1 rfl rfl).pv rfl).tr f4 rfl rfl).tr f5 rfl rfl) h39
  · have h40 := h6.2 c7
    exact hq _ _ (zSm.rf.tr f1 rfl rfl) h40
theorem ffj_reachE_569 {Q Q' : Int → zS → Prop}  {s0 : zS} {x4 : Int} {x6 : Int} (hq : ∀ (e : Int) (A' : zS), zSm s0 A' [25, 26, 27, 28, 29, 30, 31, 33, 34, 35, 36, 39, 40, 41, 42] [24, 37, 38, 43, 44] → Q e A' → Q' e A')  (hw : wr_reachE_569 Q  s0 x4 x6) : wr_reachE_569 Q'  s0 x4 x6 := by
  unfold wr_reachE_569 at hw ⊢
  refine ffm_deeper hw (fun r1 s2 f1 h6 => ?_)
  refine ⟨fun c7 => ?_, fun c7 => ?_⟩
  · have h8 := h6.1 c7
    obtain ⟨o9, h10⟩ := h8
    refine ⟨o9, ?_⟩
    refine ffm_goal h10 (fun s14 f2 h18 => ?_)
    refine ffm_goal h18 (fun s20 f3 h24 => ?_)
    refine ffm_goal h24 (fun s26 f4 h30 => ?_)
    exact hq _ _ (((((zSm.rf.tr f1 rfl rfl).pv rfl).tr f2 rfl rfl).tr f3 rfl rfl).tr f4 rfl rfl) h30
  · have h31 := h6.2 c7
    exact hq _ _ (zSm.rf.tr f1 rfl rfl) h31
theorem ffj_reachE_451 {Q Q' : Int → zS → Prop}  {s0 : zS} {x6 : Int} {y0 : Int} {y1 : Int} (hq : ∀ (e : Int) (A' : zS), zSm s0 A' [25, 26, 27, 28, 29, 30, 31, 33, 34, 35, 36, 39, 40, 41, 42] [24, 37, 38, 43, 44] → Q e A' → Q' e A')  (hw : wr_reachE_451 Q  s0 x6 y0 y1) : wr_reachE_451 Q'  s0 x6 y0 y1 := by
  unfold wr_reachE_451 at hw ⊢
  refine ffm_goal hw (fun s2 f1 h6 => ?_)
  refine ffm_goal h6 (fun s8 f2 h12 => ?_)
  obtain ⟨o13, h14⟩ := h12
  refine ⟨o13, ?_⟩
  refine ⟨fun c17 => ?_, fun c17 => ?_⟩
  · have h18 := h14.1 c17
    obtain ⟨o19, h20⟩ := h18
    refine ⟨o19, ?_⟩
    exact hq _ _ ((((zSm.rf.tr f1 rfl rfl).tr f2 rfl rfl).pv rfl).pv rfl) h20
  · have h23 := h14.2 c17
    obtain ⟨o24, h25⟩ := h23
    refine ⟨o24, ?_⟩
    exact hq _ _ ((((zSm.rf.tr f1 rfl rfl).tr f2 rfl rfl).pv rfl).pv rfl) h25
theorem ffj_reachE_343 {Q Q' : Int → zS → Prop}  {s0 : zS} {x6 : Int} (hq : ∀ (e : Int) (A' : zS), zSm s0 A' [25, 26, 27, 28, 29, 30, 31, 33, 34, 35, 36, 39, 40, 41, 42] [24, 37, 38, 43, 44] → Q e A' → Q' e A')  (hw : wr_reachE_343 Q  s0 x6) : wr_reachE_343 Q'  s0 x6 := by
  unfold wr_reachE_343 at hw ⊢
  refine ffm_deeper hw (fun r1 s2 f1 h6 => ?_)
  refine ⟨fun c7 => ?_, fun c7 => ?_⟩
  · have h8 := h6.1 c7
    obtain ⟨o9, h10⟩ := h8
    refine ⟨o9, ?_⟩
    refine ffm_goal h10 (fun s14 f2 h18 => ?_)
    refine ffm_goal h18 (fun s20 f3 h24 => ?_)
    refine ffm_goal h24 (fun s26 f4 h30 => ?_)
    exact hq _ _ (((((zSm.rf.tr f1 rfl rfl).pv rfl).tr f2 rfl rfl).tr f3 rfl rfl).tr f4 rfl rfl) h30
  · have h31 := h6.2 c7
    exact hq _ _ (zSm.rf.tr f1 rfl rfl) h31
theorem ffm_reachE {s0 : zS} {a0 : Int} {a1 : Int} {a2 : Int} {a3 : Int} {Q Q' : Int → zS → Prop} (hw : wr_reachE s0 a0 a1 a2 a3 Q) (hq : ∀ (e : Int) (A' : zS), zSm s0 A' [25, 26, 27, 28, 29, 30, 31, 33, 34, 35, 36, 39, 40, 41, 42] [24, 37, 38, 43, 44] → Q e A' → Q' e A') : wr_reachE s0 a0 a1 a2 a3 Q' := by
  unfold wr_reachE at hw ⊢
  refine ffm_tk hw (fun r1 s2 f1 h6 => ?_)
  refine ⟨fun c7 => ?_, fun c7 => ?_⟩
  · have h8 := h6.1 c7
    refine ⟨fun c9 => ?_, fun c9 => ?_⟩
    · have h10 := h8.1 c9
      refine ⟨fun c11 => ?_, fun c11 => ?_⟩
      · have h12 := h10.1 c11
        refine ⟨fun c13 => ?_, fun c13 => ?_⟩
        · have h14 := h12.1 c13
          refine ⟨fun c15 => ?_, fun c15 => ?_⟩
          · have h16 := h14.1 c15
            refine ⟨fun c17 => ?_, fun c17 => ?_⟩
            · have h18 := h16.1 c17
              refine ⟨fun c19 => ?_, fun c19 => ?_⟩
              · have h20 := h18.1 c19
                refine ⟨fun c21 => ?_, fun c21 => ?_⟩
                · have h22 := h20.1 c21
                  refine ⟨fun c23 => ?_, fun c23 => ?_⟩
                  · have h24 := h22.1 c23
                    refine ⟨fun c25 => ?_, fun c25 => ?_⟩
                    · have h26 := h24.1 c25
                      refine ⟨fun c27 => ?_, fun c27 => ?_⟩
                      · have h28 := h26.1 c27
                        refine ⟨fun c29 => ?_, fun c29 => ?_⟩
                        · have h30 := h28.1 c29
                          refine ⟨fun c31 => ?_, fun c31 => ?_⟩
                          · have h32 := h30.1 c31
                            refine ffm_primary h32 (fun r33 s34 f2 h38 => ?_)
                            obtain ⟨o39, h40⟩ := h38
                            refine ⟨o39, ?_⟩
                            exact hq _ _ ((zSm.rf.tr f1 rfl rfl).tr f2 rfl rfl) h40
                          · have h41 := h30.2 c31
                            obtain ⟨o42, h43⟩ := h41
                            refine ⟨o42, ?_⟩
                            obtain ⟨o44, h45⟩ := h43
                            refine ⟨o44, ?_⟩
                            obtain ⟨o46, h47⟩ := h45
                            refine ⟨o46, ?_⟩
                            obtain ⟨o48, h49⟩ := h47
                            refine ⟨o48, ?_⟩
                            obtain ⟨o52, h53⟩ := h49
                            refine ⟨o52, ?_⟩
                            obtain ⟨o54, h55⟩ := h53
                            refine ⟨o54, ?_⟩
                            refine ⟨fun c56 => ?_, fun c56 => ?_⟩
                            · have h57 := h55.1 c56
                              refine ffm_take h57 (fun r60 s61 f3 h65 => ?_)
                              obtain ⟨o66, h67⟩ := h65
                              refine ⟨o66, ?_⟩
                              exact hq _ _ ((((zSm.rf.tr f1 rfl rfl).pa rfl).pv rfl).tr f3 rfl rfl) h67
                            · have h68 := h55.2 c56
                              obtain ⟨o69, h70⟩ := h68
                              refine ⟨o69, ?_⟩
                              obtain ⟨o71, h72⟩ := h70
                              refine ⟨o71, ?_⟩
                              refine ffm_take h72 (fun r77 s78 f4 h82 => ?_)
                              obtain ⟨o83, h84⟩ := h82
                              refine ⟨o83, ?_⟩
                              exact hq _ _ (((((zSm.rf.tr f1 rfl rfl).pa rfl).pa rfl).pv rfl).tr f4 rfl rfl) h84
                        · have h85 := h28.2 c29
                          refine ffm_take h85 (fun r86 s87 f5 h91 => ?_)
                          refine ⟨fun c92 => ?_, fun c92 => ?_⟩
                          · have h93 := h91.1 c92
                            refine ffm_shut h93 (fun r94 s95 f6 h99 => ?_)
                            exact hq _ _ (((zSm.rf.tr f1 rfl rfl).tr f5 rfl rfl).tr f6 rfl rfl) h99
                          · have h100 := h91.2 c92
                            refine ffm_goal h100 (fun s102 f7 h106 => ?_)
                            refine ffm_goal h106 (fun s108 f8 h112 => ?_)
                            exact hq _ _ ((((zSm.rf.tr f1 rfl rfl).tr f5 rfl rfl).tr f7 rfl rfl).tr f8 rfl rfl) h112
                      · have h113 := h26.2 c27
                        refine ffm_take h113 (fun r114 s115 f9 h119 => ?_)
                        refine ⟨fun c120 => ?_, fun c120 => ?_⟩
                        · have h121 := h119.1 c120
                          refine ⟨fun c122 => ?_, fun c122 => ?_⟩
                          · have h123 := h121.1 c122
                            exact hq _ _ ((zSm.rf.tr f1 rfl rfl).tr f9 rfl rfl) h123
                          · have h124 := h121.2 c122
                            refine ⟨fun c125 => ?_, fun c125 => ?_⟩
                            · have h126 := h124.1 c125
                              obtain ⟨o127, h128⟩ := h126
                              refine ⟨o127, ?_⟩
                              obtain ⟨o131, h132⟩ := h128
                              refine ⟨o131, ?_⟩
                              refine ffm_goal h132 (fun s134 f10 h138 => ?_)
                              refine ffm_goal h138 (fun s140 f11 h144 => ?_)
                              exact hq _ _ (((((zSm.rf.tr f1 rfl rfl).tr f9 rfl rfl).pv rfl).tr f10 rfl rfl).tr f11 rfl rfl) h144
                            · have h145 := h124.2 c125
                              exact hq _ _ ((zSm.rf.tr f1 rfl rfl).tr f9 rfl rfl) h145
                        · have h146 := h119.2 c120
                          refine ffm_shut h146 (fun r147 s148 f12 h152 => ?_)
                          refine ffm_goal h152 (fun s154 f13 h158 => ?_)
                          exact hq _ _ ((((zSm.rf.tr f1 rfl rfl).tr f9 rfl rfl).tr f12 rfl rfl).tr f13 rfl rfl) h158
                    · have h159 := h24.2 c25
                      refine ffm_calls h159 (fun r160 s161 f14 h165 => ?_)
                      obtain ⟨o166, h167⟩ := h165
                      refine ⟨o166, ?_⟩
                      exact hq _ _ ((zSm.rf.tr f1 rfl rfl).tr f14 rfl rfl) h167
                  · have h168 := h22.2 c23
                    refine ⟨fun c169 => ?_, fun c169 => ?_⟩
                    · have h170 := h168.1 c169
                      exact ffj_reachE_641 (fun e A' f q => hq e A' ((zSm.rf.tr f1 rfl rfl).tr f rfl rfl) q)  h170
                    · have h171 := h168.2 c169
                      refine ⟨fun c172 => ?_, fun c172 => ?_⟩
                      · have h173 := h171.1 c172
                        refine ffm_goal h173 (fun s175 f15 h179 => ?_)
                        refine ffm_goal h179 (fun s181 f16 h185 => ?_)
                        exact hq _ _ (((zSm.rf.tr f1 rfl rfl).tr f15 rfl rfl).tr f16 rfl rfl) h185
                      · have h186 := h171.2 c172
                        exact ffj_reachE_641 (fun e A' f q => hq e A' ((zSm.rf.tr f1 rfl rfl).tr f rfl rfl) q)  h186
                · have h187 := h20.2 c21
                  refine ⟨fun c188 => ?_, fun c188 => ?_⟩
                  · have h189 := h187.1 c188
                    exact ffj_reachE_569 (fun e A' f q => hq e A' ((zSm.rf.tr f1 rfl rfl).tr f rfl rfl) q)  h189
                  · have h190 := h187.2 c188
                    refine ⟨fun c191 => ?_, fun c191 => ?_⟩
                    · have h192 := h190.1 c191
                      exact ffj_reachE_569 (fun e A' f q => hq e A' ((zSm.rf.tr f1 rfl rfl).tr f rfl rfl) q)  h192
                    · have h193 := h190.2 c191
                      exact hq _ _ (zSm.rf.tr f1 rfl rfl) h193
              · have h194 := h18.2 c19
                refine ffm_goal h194 (fun s196 f17 h200 => ?_)
                refine ⟨fun c201 => ?_, fun c201 => ?_⟩
                · have h202 := h200.1 c201
                  refine ⟨fun c203 => ?_, fun c203 => ?_⟩
                  · have h204 := h202.1 c203
                    exact ffj_reachE_451 (fun e A' f q => hq e A' (((zSm.rf.tr f1 rfl rfl).tr f17 rfl rfl).tr f rfl rfl) q)  h204
                  · have h205 := h202.2 c203
                    exact ffj_reachE_451 (fun e A' f q => hq e A' (((zSm.rf.tr f1 rfl rfl).tr f17 rfl rfl).tr f rfl rfl) q)  h205
                · have h206 := h200.2 c201
                  refine ⟨fun c207 => ?_, fun c207 => ?_⟩
                  · have h208 := h206.1 c207
                    refine ffm_goal h208 (fun s210 f18 h214 => ?_)
                    refine ffm_goal h214 (fun s216 f19 h220 => ?_)
                    refine ffm_goal h220 (fun s222 f20 h226 => ?_)
                    exact hq _ _ (((((zSm.rf.tr f1 rfl rfl).tr f17 rfl rfl).tr f18 rfl rfl).tr f19 rfl rfl).tr f20 rfl rfl) h226
                  · have h227 := h206.2 c207
                    refine ⟨fun c228 => ?_, fun c228 => ?_⟩
                    · have h229 := h227.1 c228
                      exact ffj_reachE_451 (fun e A' f q => hq e A' (((zSm.rf.tr f1 rfl rfl).tr f17 rfl rfl).tr f rfl rfl) q)  h229
                    · have h230 := h227.2 c228
                      exact ffj_reachE_451 (fun e A' f q => hq e A' (((zSm.rf.tr f1 rfl rfl).tr f17 rfl rfl).tr f rfl rfl) q)  h230
            · have h231 := h16.2 c17
              refine ⟨fun c232 => ?_, fun c232 => ?_⟩
              · have h233 := h231.1 c232
                exact ffj_reachE_343 (fun e A' f q => hq e A' ((zSm.rf.tr f1 rfl rfl).tr f rfl rfl) q)  h233
              · have h234 := h231.2 c232
                refine ⟨fun c235 => ?_, fun c235 => ?_⟩
                · have h236 := h234.1 c235
                  exact ffj_reachE_343 (fun e A' f q => hq e A' ((zSm.rf.tr f1 rfl rfl).tr f rfl rfl) q)  h236
                · have h237 := h234.2 c235
                  refine ⟨fun c238 => ?_, fun c238 => ?_⟩
                  · have h239 := h237.1 c238
                    exact ffj_reachE_343 (fun e A' f q => hq e A' ((zSm.rf.tr f1 rfl rfl).tr f rfl rfl) q)  h239
                  · have h240 := h237.2 c238
                    refine ffm_goal h240 (fun s242 f21 h246 => ?_)
                    exact hq _ _ ((zSm.rf.tr f1 rfl rfl).tr f21 rfl rfl) h246
          · have h247 := h14.2 c15
            refine ffm_binary h247 (fun s249 f22 h253 => ?_)
            exact hq _ _ ((zSm.rf.tr f1 rfl rfl).tr f22 rfl rfl) h253
        · have h254 := h12.2 c13
          refine ffm_levelOf h254 (fun r255 s256 f23 h260 => ?_)
          refine ⟨fun c261 => ?_, fun c261 => ?_⟩
          · have h262 := h260.1 c261
            obtain ⟨o263, h264⟩ := h262
            refine ⟨o263, ?_⟩
            refine ffm_goal h264 (fun s268 f24 h272 => ?_)
            refine ffm_goal h272 (fun s274 f25 h278 => ?_)
            refine ⟨fun c279 => ?_, fun c279 => ?_⟩
            · have h280 := h278.1 c279
              refine ffm_goal h280 (fun s282 f26 h286 => ?_)
              exact hq _ _ ((((((zSm.rf.tr f1 rfl rfl).tr f23 rfl rfl).pv rfl).tr f24 rfl rfl).tr f25 rfl rfl).tr f26 rfl rfl) h286
            · have h287 := h278.2 c279
              obtain ⟨o288, h289⟩ := h287
              refine ⟨o288, ?_⟩
              refine ffm_goal h289 (fun s291 f27 h295 => ?_)
              exact hq _ _ ((((((zSm.rf.tr f1 rfl rfl).tr f23 rfl rfl).pv rfl).tr f24 rfl rfl).tr f25 rfl rfl).tr f27 rfl rfl) h295
          · have h296 := h260.2 c261
            exact hq _ _ ((zSm.rf.tr f1 rfl rfl).tr f23 rfl rfl) h296
      · have h297 := h10.2 c11
        refine ffm_goal h297 (fun s299 f28 h303 => ?_)
        refine ⟨fun c304 => ?_, fun c304 => ?_⟩
        · have h305 := h303.1 c304
          refine ffm_goal h305 (fun s307 f29 h311 => ?_)
          exact hq _ _ (((zSm.rf.tr f1 rfl rfl).tr f28 rfl rfl).tr f29 rfl rfl) h311
        · have h312 := h303.2 c304
          obtain ⟨o313, h314⟩ := h312
          refine ⟨o313, ?_⟩
          refine ffm_goal h314 (fun s316 f30 h320 => ?_)
          exact hq _ _ (((zSm.rf.tr f1 rfl rfl).tr f28 rfl rfl).tr f30 rfl rfl) h320
    · have h321 := h8.2 c9
      refine ⟨fun c322 => ?_, fun c322 => ?_⟩
      · have h323 := h321.1 c322
        refine ⟨fun c324 => ?_, fun c324 => ?_⟩
        · have h325 := h323.1 c324
          refine ffm_shut h325 (fun r326 s327 f31 h331 => ?_)
          exact hq _ _ ((zSm.rf.tr f1 rfl rfl).tr f31 rfl rfl) h331
        · have h332 := h323.2 c324
          refine ffm_goal h332 (fun s334 f32 h338 => ?_)
          refine ffm_goal h338 (fun s340 f33 h344 => ?_)
          refine ffm_take h344 (fun r345 s346 f34 h350 => ?_)
          obtain ⟨o351, h352⟩ := h350
          refine ⟨o351, ?_⟩
          exact hq _ _ ((((zSm.rf.tr f1 rfl rfl).tr f32 rfl rfl).tr f33 rfl rfl).tr f34 rfl rfl) h352
      · have h353 := h321.2 c322
        refine ⟨fun c354 => ?_, fun c354 => ?_⟩
        · have h355 := h353.1 c354
          refine ffm_deeper h355 (fun r356 s357 f35 h361 => ?_)
          refine ⟨fun c362 => ?_, fun c362 => ?_⟩
          · have h363 := h361.1 c362
            obtain ⟨o364, h365⟩ := h363
            refine ⟨o364, ?_⟩
            refine ffm_goal h365 (fun s369 f36 h373 => ?_)
            refine ffm_goal h373 (fun s375 f37 h379 => ?_)
            refine ffm_goal h379 (fun s381 f38 h385 => ?_)
            exact hq _ _ ((((((zSm.rf.tr f1 rfl rfl).tr f35 rfl rfl).pv rfl).tr f36 rfl rfl).tr f37 rfl rfl).tr f38 rfl rfl) h385
          · have h386 := h361.2 c362
            exact hq _ _ ((zSm.rf.tr f1 rfl rfl).tr f35 rfl rfl) h386
        · have h387 := h353.2 c354
          exact hq _ _ (zSm.rf.tr f1 rfl rfl) h387
  · have h388 := h6.2 c7
    refine ffm_goal h388 (fun s390 f39 h394 => ?_)
    refine ffm_goal h394 (fun s396 f40 h400 => ?_)
    exact hq _ _ (((zSm.rf.tr f1 rfl rfl).tr f39 rfl rfl).tr f40 rfl rfl) h400
theorem ffb_reachP_246 {Q Q' : Int → zS → Prop} {k246 k246' : zS → Int → Int → Int → Prop} {s0 : zS} {x2 : Int} {x3 : Int} {x4 : Int} (hq : ∀ (e : Int) (A' : zS), zSm s0 A' [25, 26, 27, 28, 29, 30, 31, 33, 34, 35, 36, 39, 40, 41, 42] [24, 37, 38, 43] → Q e A' → Q' e A') (fk246 : ∀ (A' : zS) (x0 : Int) (x1 : Int) (x2 : Int), zSm s0 A' [25, 26, 27, 28, 29, 30, 31, 33, 34, 35, 36, 39, 40, 41, 42] [24, 37, 38, 43] → k246 A' x0 x1 x2 → k246' A' x0 x1 x2) (hw : wr_reachP_246B Q k246 s0 x2 x3 x4) : wr_reachP_246B Q' k246' s0 x2 x3 x4 := by
  unfold wr_reachP_246B at hw ⊢
  refine ffm_take hw (fun r1 s2 f1 h6 => ?_)
  refine ⟨fun c7 => ?_, fun c7 => ?_⟩
  · have h8 := h6.1 c7
    refine ffm_take h8 (fun r9 s10 f2 h14 => ?_)
    refine ⟨fun c15 => ?_, fun c15 => ?_⟩
    · have h16 := h14.1 c15
      refine ffm_goal h16 (fun s18 f3 h22 => ?_)
      refine ffm_goal h22 (fun s24 f4 h28 => ?_)
      exact hq _ _ ((((zSm.rf.tr f1 rfl rfl).tr f2 rfl rfl).tr f3 rfl rfl).tr f4 rfl rfl) h28
    · have h29 := h14.2 c15
      exact hq _ _ ((zSm.rf.tr f1 rfl rfl).tr f2 rfl rfl) h29
  · have h30 := h6.2 c7
    refine ffm_tk h30 (fun r31 s32 f5 h36 => ?_)
    refine ⟨fun c37 => ?_, fun c37 => ?_⟩
    · have h38 := h36.1 c37
      obtain ⟨o39, h40⟩ := h38
      refine ⟨o39, ?_⟩
      obtain ⟨o41, h42⟩ := h40
      refine ⟨o41, ?_⟩
      refine ffm_leaf h42 (fun s44 f6 h48 => ?_)
      obtain ⟨o49, h50⟩ := h48
      refine ⟨o49, ?_⟩
      obtain ⟨o53, h54⟩ := h50
      refine ⟨o53, ?_⟩
      exact fk246 _ _ _ _ ((((zSm.rf.tr f1 rfl rfl).tr f5 rfl rfl).tr f6 rfl rfl).pv rfl) h54
    · have h55 := h36.2 c37
      exact hq _ _ ((zSm.rf.tr f1 rfl rfl).tr f5 rfl rfl) h55
theorem ffl_reachP_2460 {Q Q' : Int → zS → Prop}  : ∀ (m : Nat) (s0 : zS) (x2 : Int) (x3 : Int) (x4 : Int), (∀ (e : Int) (A' : zS), zSm s0 A' [25, 26, 27, 28, 29, 30, 31, 33, 34, 35, 36, 39, 40, 41, 42] [24, 37, 38, 43] → Q e A' → Q' e A') → wr_reachP_246 Q  m s0 x2 x3 x4 → wr_reachP_246 Q'  m s0 x2 x3 x4 := by
  intro m
  induction m with
  | zero => intro s0 x2 x3 x4 hq  hw; exact hw
  | succ m ih => intro s0 x2 x3 x4 hq  hw; exact ffb_reachP_246 hq  (fun A' y0 y1 y2 f1 q => ih A' y0 y1 y2 (fun e A' f q => hq e A' (f1.tr f rfl rfl) q)  q) hw
theorem ffj_reachP_182 {Q Q' : Int → zS → Prop}  {s0 : zS} {x2 : Int} {x3 : Int} {x5 : Int} (hq : ∀ (e : Int) (A' : zS), zSm s0 A' [25, 26, 27, 28, 29, 30, 31, 33, 34, 35, 36, 39, 40, 41, 42] [24, 37, 38, 43] → Q e A' → Q' e A')  (hw : wr_reachP_182 Q  s0 x2 x3 x5) : wr_reachP_182 Q'  s0 x2 x3 x5 := by
  unfold wr_reachP_182 at hw ⊢
  obtain ⟨o1, h2⟩ := hw
  refine ⟨o1, ?_⟩
  refine ffm_goal h2 (fun s6 f1 h10 => ?_)
  refine ⟨fun c11 => ?_, fun c11 => ?_⟩
  · have h12 := h10.1 c11
    refine ffm_goal h12 (fun s14 f2 h18 => ?_)
    exact hq _ _ (((zSm.rf.pv rfl).tr f1 rfl rfl).tr f2 rfl rfl) h18
  · have h19 := h10.2 c11
    refine ffm_goal h19 (fun s21 f3 h25 => ?_)
    exact hq _ _ (((zSm.rf.pv rfl).tr f1 rfl rfl).tr f3 rfl rfl) h25
theorem ffj_reachP_139 {Q Q' : Int → zS → Prop}  {s0 : zS} {x2 : Int} {x3 : Int} (hq : ∀ (e : Int) (A' : zS), zSm s0 A' [25, 26, 27, 28, 29, 30, 31, 33, 34, 35, 36, 39, 40, 41, 42] [24, 37, 38, 43] → Q e A' → Q' e A')  (hw : wr_reachP_139 Q  s0 x2 x3) : wr_reachP_139 Q'  s0 x2 x3 := by
  unfold wr_reachP_139 at hw ⊢
  refine ffm_take hw (fun r1 s2 f1 h6 => ?_)
  refine ⟨fun c7 => ?_, fun c7 => ?_⟩
  · have h8 := h6.1 c7
    refine ffm_tk h8 (fun r9 s10 f2 h14 => ?_)
    refine ⟨fun c15 => ?_, fun c15 => ?_⟩
    · have h16 := h14.1 c15
      refine ffm_tk h16 (fun r18 s19 f3 h23 => ?_)
      refine ⟨fun c24 => ?_, fun c24 => ?_⟩
      · have h25 := h23.1 c24
        exact ffj_reachP_182 (fun e A' f q => hq e A' ((((zSm.rf.tr f1 rfl rfl).tr f2 rfl rfl).tr f3 rfl rfl).tr f rfl rfl) q)  h25
      · have h26 := h23.2 c24
        exact hq _ _ (((zSm.rf.tr f1 rfl rfl).tr f2 rfl rfl).tr f3 rfl rfl) h26
    · have h27 := h14.2 c15
      exact ffj_reachP_182 (fun e A' f q => hq e A' (((zSm.rf.tr f1 rfl rfl).tr f2 rfl rfl).tr f rfl rfl) q)  h27
  · have h29 := h6.2 c7
    exact hq _ _ (zSm.rf.tr f1 rfl rfl) h29
theorem ffb_reachP_42 {Q Q' : Int → zS → Prop} {k42 k42' : zS → Int → Int → Int → Prop} {s0 : zS} {x2 : Int} {x3 : Int} {x4 : Int} (hq : ∀ (e : Int) (A' : zS), zSm s0 A' [25, 26, 27, 28, 29, 30, 31, 33, 34, 35, 36, 39, 40, 41, 42] [24, 37, 38, 43] → Q e A' → Q' e A') (fk42 : ∀ (A' : zS) (x0 : Int) (x1 : Int) (x2 : Int), zSm s0 A' [25, 26, 27, 28, 29, 30, 31, 33, 34, 35, 36, 39, 40, 41, 42] [24, 37, 38, 43] → k42 A' x0 x1 x2 → k42' A' x0 x1 x2) (hw : wr_reachP_42B Q k42 s0 x2 x3 x4) : wr_reachP_42B Q' k42' s0 x2 x3 x4 := by
  unfold wr_reachP_42B at hw ⊢
  refine ffm_tk hw (fun r1 s2 f1 h6 => ?_)
  refine ⟨fun c7 => ?_, fun c7 => ?_⟩
  · have h8 := h6.1 c7
    exact ffj_reachP_139 (fun e A' f q => hq e A' ((zSm.rf.tr f1 rfl rfl).tr f rfl rfl) q)  h8
  · have h9 := h6.2 c7
    refine ⟨fun c10 => ?_, fun c10 => ?_⟩
    · have h11 := h9.1 c10
      exact ffj_reachP_139 (fun e A' f q => hq e A' ((zSm.rf.tr f1 rfl rfl).tr f rfl rfl) q)  h11
    · have h12 := h9.2 c10
      obtain ⟨o13, h14⟩ := h12
      refine ⟨o13, ?_⟩
      obtain ⟨o15, h16⟩ := h14
      refine ⟨o15, ?_⟩
      refine ffm_leaf h16 (fun s18 f2 h22 => ?_)
      obtain ⟨o23, h24⟩ := h22
      refine ⟨o23, ?_⟩
      refine ffm_tk h24 (fun r27 s28 f3 h32 => ?_)
      refine ⟨fun c33 => ?_, fun c33 => ?_⟩
      · have h34 := h32.1 c33
        refine ffm_tk h34 (fun r35 s36 f4 h40 => ?_)
        refine ⟨fun c41 => ?_, fun c41 => ?_⟩
        · have h42 := h40.1 c41
          exact hq _ _ (((((zSm.rf.tr f1 rfl rfl).tr f2 rfl rfl).pv rfl).tr f3 rfl rfl).tr f4 rfl rfl) h42
        · have h43 := h40.2 c41
          obtain ⟨o44, h45⟩ := h43
          refine ⟨o44, ?_⟩
          refine ⟨fun c46 => ?_, fun c46 => ?_⟩
          · have h47 := h45.1 c46
            obtain ⟨o48, h49⟩ := h47
            refine ⟨o48, ?_⟩
            refine ffm_tk h49 (fun r52 s53 f5 h57 => ?_)
            refine ⟨fun c58 => ?_, fun c58 => ?_⟩
            · have h59 := h57.1 c58
              exact fk42 _ _ _ _ (((((((zSm.rf.tr f1 rfl rfl).tr f2 rfl rfl).pv rfl).tr f3 rfl rfl).tr f4 rfl rfl).pv rfl).tr f5 rfl rfl) h59
            · have h60 := h57.2 c58
              exact hq _ _ (((((((zSm.rf.tr f1 rfl rfl).tr f2 rfl rfl).pv rfl).tr f3 rfl rfl).tr f4 rfl rfl).pv rfl).tr f5 rfl rfl) h60
          · have h61 := h45.2 c46
            exact hq _ _ (((((zSm.rf.tr f1 rfl rfl).tr f2 rfl rfl).pv rfl).tr f3 rfl rfl).tr f4 rfl rfl) h61
      · have h62 := h32.2 c33
        obtain ⟨o63, h64⟩ := h62
        refine ⟨o63, ?_⟩
        exact fk42 _ _ _ _ ((((zSm.rf.tr f1 rfl rfl).tr f2 rfl rfl).pv rfl).tr f3 rfl rfl) h64
theorem ffl_reachP_420 {Q Q' : Int → zS → Prop}  : ∀ (m : Nat) (s0 : zS) (x2 : Int) (x3 : Int) (x4 : Int), (∀ (e : Int) (A' : zS), zSm s0 A' [25, 26, 27, 28, 29, 30, 31, 33, 34, 35, 36, 39, 40, 41, 42] [24, 37, 38, 43] → Q e A' → Q' e A') → wr_reachP_42 Q  m s0 x2 x3 x4 → wr_reachP_42 Q'  m s0 x2 x3 x4 := by
  intro m
  induction m with
  | zero => intro s0 x2 x3 x4 hq  hw; exact hw
  | succ m ih => intro s0 x2 x3 x4 hq  hw; exact ffb_reachP_42 hq  (fun A' y0 y1 y2 f1 q => ih A' y0 y1 y2 (fun e A' f q => hq e A' (f1.tr f rfl rfl) q)  q) hw
theorem ffm_reachP {s0 : zS} {a0 : Int} {Q Q' : Int → zS → Prop} (hw : wr_reachP s0 a0 Q) (hq : ∀ (e : Int) (A' : zS), zSm s0 A' [25, 26, 27, 28, 29, 30, 31, 33, 34, 35, 36, 39, 40, 41, 42] [24, 37, 38, 43] → Q e A' → Q' e A') : wr_reachP s0 a0 Q' := by
  unfold wr_reachP at hw ⊢
  refine ffm_take hw (fun r1 s2 f1 h6 => ?_)
  refine ⟨fun c7 => ?_, fun c7 => ?_⟩
  · have h8 := h6.1 c7
    refine ffm_tk h8 (fun r9 s10 f2 h14 => ?_)
    refine ⟨fun c15 => ?_, fun c15 => ?_⟩
    · have h16 := h14.1 c15
      refine ⟨fun c17 => ?_, fun c17 => ?_⟩
      · have h18 := h16.1 c17
        obtain ⟨o19, h20⟩ := h18
        refine ⟨o19, ?_⟩
        obtain ⟨o21, h22⟩ := h20
        refine ⟨o21, ?_⟩
        refine ffm_leaf h22 (fun s24 f3 h28 => ?_)
        obtain ⟨m29, h30⟩ := h28
        exact ⟨m29, ffl_reachP_2460 m29 _ _ _ _ (fun e A' f q => hq e A' ((((zSm.rf.tr f1 rfl rfl).tr f2 rfl rfl).tr f3 rfl rfl).tr f rfl rfl) q)  h30⟩
      · have h31 := h16.2 c17
        exact hq _ _ ((zSm.rf.tr f1 rfl rfl).tr f2 rfl rfl) h31
    · have h32 := h14.2 c15
      obtain ⟨o33, h34⟩ := h32
      refine ⟨o33, ?_⟩
      obtain ⟨m37, h38⟩ := h34
      exact ⟨m37, ffl_reachP_420 m37 _ _ _ _ (fun e A' f q => hq e A' ((((zSm.rf.tr f1 rfl rfl).tr f2 rfl rfl).pv rfl).tr f rfl rfl) q)  h38⟩
  · have h39 := h6.2 c7
    exact hq _ _ (zSm.rf.tr f1 rfl rfl) h39
theorem ffj_reachD_98 {Q Q' : Int → zS → Prop}  {s0 : zS} {x6 : Int} {x7 : Int} {y0 : Int} (hq : ∀ (e : Int) (A' : zS), zSm s0 A' [25, 26, 27, 28, 29, 30, 31, 33, 34, 35, 36, 39, 40, 41, 42, 46, 47] [24, 37, 38, 43, 44, 45] → Q e A' → Q' e A')  (hw : wr_reachD_98 Q  s0 x6 x7 y0) : wr_reachD_98 Q'  s0 x6 x7 y0 := by
  unfold wr_reachD_98 at hw ⊢
  refine ffm_openSection hw (fun r1 s2 f1 h6 => ?_)
  refine ⟨fun c7 => ?_, fun c7 => ?_⟩
  · have h8 := h6.1 c7
    refine ffm_goal h8 (fun s10 f2 h14 => ?_)
    refine ffm_goal h14 (fun s16 f3 h20 => ?_)
    exact hq _ _ (((zSm.rf.tr f1 rfl rfl).tr f2 rfl rfl).tr f3 rfl rfl) h20
  · have h21 := h6.2 c7
    exact hq _ _ (zSm.rf.tr f1 rfl rfl) h21
theorem ffm_reachD {s0 : zS} {a0 : Int} {a1 : Int} {a2 : Int} {a3 : Int} {Q Q' : Int → zS → Prop} (hw : wr_reachD s0 a0 a1 a2 a3 Q) (hq : ∀ (e : Int) (A' : zS), zSm s0 A' [25, 26, 27, 28, 29, 30, 31, 33, 34, 35, 36, 39, 40, 41, 42, 46, 47] [24, 37, 38, 43, 44, 45] → Q e A' → Q' e A') : wr_reachD s0 a0 a1 a2 a3 Q' := by
  unfold wr_reachD at hw ⊢
  refine ffm_tk hw (fun r1 s2 f1 h6 => ?_)
  refine ⟨fun c7 => ?_, fun c7 => ?_⟩
  · have h8 := h6.1 c7
    refine ⟨fun c9 => ?_, fun c9 => ?_⟩
    · have h10 := h8.1 c9
      refine ⟨fun c11 => ?_, fun c11 => ?_⟩
      · have h12 := h10.1 c11
        refine ⟨fun c13 => ?_, fun c13 => ?_⟩
        · have h14 := h12.1 c13
          refine ⟨fun c15 => ?_, fun c15 => ?_⟩
          · have h16 := h14.1 c15
            refine ⟨fun c17 => ?_, fun c17 => ?_⟩
            · have h18 := h16.1 c17
              refine ⟨fun c19 => ?_, fun c19 => ?_⟩
              · have h20 := h18.1 c19
                refine ffm_take h20 (fun r21 s22 f2 h26 => ?_)
                refine ⟨fun c27 => ?_, fun c27 => ?_⟩
                · have h28 := h26.1 c27
                  obtain ⟨o29, h30⟩ := h28
                  refine ⟨o29, ?_⟩
                  refine ffm_goal h30 (fun s32 f3 h36 => ?_)
                  exact hq _ _ (((zSm.rf.tr f1 rfl rfl).tr f2 rfl rfl).tr f3 rfl rfl) h36
                · have h37 := h26.2 c27
                  exact hq _ _ ((zSm.rf.tr f1 rfl rfl).tr f2 rfl rfl) h37
              · have h38 := h18.2 c19
                exact hq _ _ (zSm.rf.tr f1 rfl rfl) h38
            · have h39 := h16.2 c17
              refine ffm_goal h39 (fun s41 f4 h45 => ?_)
              refine ⟨fun c46 => ?_, fun c46 => ?_⟩
              · have h47 := h45.1 c46
                refine ffm_goal h47 (fun s49 f5 h53 => ?_)
                obtain ⟨o54, h55⟩ := h53
                refine ⟨o54, ?_⟩
                refine ffm_goal h55 (fun s59 f6 h63 => ?_)
                exact hq _ _ (((((zSm.rf.tr f1 rfl rfl).tr f4 rfl rfl).tr f5 rfl rfl).pv rfl).tr f6 rfl rfl) h63
              · have h64 := h45.2 c46
                refine ffm_goal h64 (fun s66 f7 h70 => ?_)
                exact hq _ _ (((zSm.rf.tr f1 rfl rfl).tr f4 rfl rfl).tr f7 rfl rfl) h70
          · have h71 := h14.2 c15
            refine ffm_reachP h71 (fun r72 s73 f8 h77 => ?_)
            obtain ⟨o78, h79⟩ := h77
            refine ⟨o78, ?_⟩
            exact hq _ _ ((zSm.rf.tr f1 rfl rfl).tr f8 rfl rfl) h79
        · have h80 := h12.2 c13
          obtain ⟨o81, h82⟩ := h80
          refine ⟨o81, ?_⟩
          obtain ⟨o83, h84⟩ := h82
          refine ⟨o83, ?_⟩
          obtain ⟨o85, h86⟩ := h84
          refine ⟨o85, ?_⟩
          obtain ⟨o87, h88⟩ := h86
          refine ⟨o87, ?_⟩
          refine ⟨fun c89 => ?_, fun c89 => ?_⟩
          · have h90 := h88.1 c89
            refine ffm_shut h90 (fun r91 s92 f9 h96 => ?_)
            exact hq _ _ ((zSm.rf.tr f1 rfl rfl).tr f9 rfl rfl) h96
          · have h97 := h88.2 c89
            refine ffm_take h97 (fun r98 s99 f10 h103 => ?_)
            refine ⟨fun c104 => ?_, fun c104 => ?_⟩
            · have h105 := h103.1 c104
              refine ffm_shut h105 (fun r106 s107 f11 h111 => ?_)
              exact hq _ _ (((zSm.rf.tr f1 rfl rfl).tr f10 rfl rfl).tr f11 rfl rfl) h111
            · have h112 := h103.2 c104
              refine ffm_goal h112 (fun s114 f12 h118 => ?_)
              refine ffm_goal h118 (fun s120 f13 h124 => ?_)
              exact hq _ _ ((((zSm.rf.tr f1 rfl rfl).tr f10 rfl rfl).tr f12 rfl rfl).tr f13 rfl rfl) h124
      · have h125 := h10.2 c11
        refine ffm_take h125 (fun r126 s127 f14 h131 => ?_)
        refine ⟨fun c132 => ?_, fun c132 => ?_⟩
        · have h133 := h131.1 c132
          refine ffm_shutSection h133 (fun r134 s135 f15 h139 => ?_)
          refine ⟨fun c140 => ?_, fun c140 => ?_⟩
          · have h141 := h139.1 c140
            refine ffm_shut h141 (fun r142 s143 f16 h147 => ?_)
            exact hq _ _ ((((zSm.rf.tr f1 rfl rfl).tr f14 rfl rfl).tr f15 rfl rfl).tr f16 rfl rfl) h147
          · have h148 := h139.2 c140
            exact hq _ _ (((zSm.rf.tr f1 rfl rfl).tr f14 rfl rfl).tr f15 rfl rfl) h148
        · have h149 := h131.2 c132
          refine ffm_goal h149 (fun s151 f17 h155 => ?_)
          refine ffm_goal h155 (fun s157 f18 h161 => ?_)
          exact hq _ _ ((((zSm.rf.tr f1 rfl rfl).tr f14 rfl rfl).tr f17 rfl rfl).tr f18 rfl rfl) h161
    · have h162 := h8.2 c9
      refine ffm_take h162 (fun r163 s164 f19 h168 => ?_)
      refine ⟨fun c169 => ?_, fun c169 => ?_⟩
      · have h170 := h168.1 c169
        refine ffm_goal h170 (fun s172 f20 h176 => ?_)
        refine ffm_goal h176 (fun s178 f21 h182 => ?_)
        refine ⟨fun c183 => ?_, fun c183 => ?_⟩
        · have h184 := h182.1 c183
          refine ffm_goal h184 (fun s186 f22 h190 => ?_)
          exact hq _ _ (((((zSm.rf.tr f1 rfl rfl).tr f19 rfl rfl).tr f20 rfl rfl).tr f21 rfl rfl).tr f22 rfl rfl) h190
        · have h191 := h182.2 c183
          refine ffm_goal h191 (fun s193 f23 h197 => ?_)
          exact hq _ _ (((((zSm.rf.tr f1 rfl rfl).tr f19 rfl rfl).tr f20 rfl rfl).tr f21 rfl rfl).tr f23 rfl rfl) h197
      · have h198 := h168.2 c169
        exact hq _ _ ((zSm.rf.tr f1 rfl rfl).tr f19 rfl rfl) h198
  · have h199 := h6.2 c7
    refine ffm_isD h199 (fun r200 s201 f24 h205 => ?_)
    refine ⟨fun c206 => ?_, fun c206 => ?_⟩
    · have h207 := h205.1 c206
      obtain ⟨o208, h209⟩ := h207
      refine ⟨o208, ?_⟩
      refine ⟨fun c212 => ?_, fun c212 => ?_⟩
      · have h213 := h209.1 c212
        refine ⟨fun c214 => ?_, fun c214 => ?_⟩
        · have h215 := h213.1 c214
          refine ⟨fun c216 => ?_, fun c216 => ?_⟩
          · have h217 := h215.1 c216
            exact ffj_reachD_98 (fun e A' f q => hq e A' ((((zSm.rf.tr f1 rfl rfl).tr f24 rfl rfl).pv rfl).tr f rfl rfl) q)  h217
          · have h218 := h215.2 c216
            exact ffj_reachD_98 (fun e A' f q => hq e A' ((((zSm.rf.tr f1 rfl rfl).tr f24 rfl rfl).pv rfl).tr f rfl rfl) q)  h218
        · have h219 := h213.2 c214
          exact ffj_reachD_98 (fun e A' f q => hq e A' ((((zSm.rf.tr f1 rfl rfl).tr f24 rfl rfl).pv rfl).tr f rfl rfl) q)  h219
      · have h220 := h209.2 c212
        refine ffm_goal h220 (fun s222 f25 h226 => ?_)
        refine ffm_goal h226 (fun s228 f26 h232 => ?_)
        exact hq _ _ (((((zSm.rf.tr f1 rfl rfl).tr f24 rfl rfl).pv rfl).tr f25 rfl rfl).tr f26 rfl rfl) h232
    · have h233 := h205.2 c206
      exact hq _ _ ((zSm.rf.tr f1 rfl rfl).tr f24 rfl rfl) h233
theorem ffm_beginsE {s0 : zS} {a0 : Int} {Q Q' : Int → zS → Prop} (hw : wr_beginsE s0 a0 Q) (hq : ∀ (e : Int) (A' : zS), zSm s0 A' [] [] → Q e A' → Q' e A') : wr_beginsE s0 a0 Q' := by
  unfold wr_beginsE at hw ⊢
  refine ⟨fun c1 => ?_, fun c1 => ?_⟩
  · have h2 := hw.1 c1
    exact hq _ _ zSm.rf h2
  · have h3 := hw.2 c1
    refine ⟨fun c4 => ?_, fun c4 => ?_⟩
    · have h5 := h3.1 c4
      exact hq _ _ zSm.rf h5
    · have h6 := h3.2 c4
      refine ⟨fun c7 => ?_, fun c7 => ?_⟩
      · have h8 := h6.1 c7
        exact hq _ _ zSm.rf h8
      · have h9 := h6.2 c7
        refine ⟨fun c10 => ?_, fun c10 => ?_⟩
        · have h11 := h9.1 c10
          exact hq _ _ zSm.rf h11
        · have h12 := h9.2 c10
          refine ⟨fun c13 => ?_, fun c13 => ?_⟩
          · have h14 := h12.1 c13
            exact hq _ _ zSm.rf h14
          · have h15 := h12.2 c13
            refine ⟨fun c16 => ?_, fun c16 => ?_⟩
            · have h17 := h15.1 c16
              exact hq _ _ zSm.rf h17
            · have h18 := h15.2 c16
              refine ⟨fun c19 => ?_, fun c19 => ?_⟩
              · have h20 := h18.1 c19
                exact hq _ _ zSm.rf h20
              · have h21 := h18.2 c19
                refine ⟨fun c22 => ?_, fun c22 => ?_⟩
                · have h23 := h21.1 c22
                  exact hq _ _ zSm.rf h23
                · have h24 := h21.2 c22
                  refine ⟨fun c25 => ?_, fun c25 => ?_⟩
                  · have h26 := h24.1 c25
                    exact hq _ _ zSm.rf h26
                  · have h27 := h24.2 c25
                    refine ⟨fun c28 => ?_, fun c28 => ?_⟩
                    · have h29 := h27.1 c28
                      exact hq _ _ zSm.rf h29
                    · have h30 := h27.2 c28
                      refine ⟨fun c31 => ?_, fun c31 => ?_⟩
                      · have h32 := h30.1 c31
                        exact hq _ _ zSm.rf h32
                      · have h33 := h30.2 c31
                        refine ⟨fun c34 => ?_, fun c34 => ?_⟩
                        · have h35 := h33.1 c34
                          exact hq _ _ zSm.rf h35
                        · have h36 := h33.2 c34
                          refine ⟨fun c37 => ?_, fun c37 => ?_⟩
                          · have h38 := h36.1 c37
                            exact hq _ _ zSm.rf h38
                          · have h39 := h36.2 c37
                            exact hq _ _ zSm.rf h39
theorem ffj_command_292 {Q Q' : Int → zS → Prop}  {s0 : zS} {x1 : Int} {x2 : Int} {x3 : Int} {y0 : Int} (hq : ∀ (e : Int) (A' : zS), zSm s0 A' [25, 26, 27, 28, 29, 30, 31, 33, 34, 35, 36, 39, 40, 41, 42, 46, 47] [24, 37, 38, 43, 44, 45] → Q e A' → Q' e A')  (hw : wr_command_292 Q  s0 x1 x2 x3 y0) : wr_command_292 Q'  s0 x1 x2 x3 y0 := by
  unfold wr_command_292 at hw ⊢
  refine ⟨fun c1 => ?_, fun c1 => ?_⟩
  · have h2 := hw.1 c1
    refine ⟨fun c3 => ?_, fun c3 => ?_⟩
    · have h4 := h2.1 c3
      refine ⟨fun c5 => ?_, fun c5 => ?_⟩
      · have h6 := h4.1 c5
        refine ⟨fun c7 => ?_, fun c7 => ?_⟩
        · have h8 := h6.1 c7
          obtain ⟨o9, h10⟩ := h8
          refine ⟨o9, ?_⟩
          exact hq _ _ (zSm.rf.pv rfl) h10
        · have h13 := h6.2 c7
          refine ffm_goal h13 (fun s15 f1 h19 => ?_)
          refine ffm_goal h19 (fun s21 f2 h25 => ?_)
          refine ffm_goal h25 (fun s27 f3 h31 => ?_)
          refine ffm_goal h31 (fun s33 f4 h37 => ?_)
          exact hq _ _ ((((zSm.rf.tr f1 rfl rfl).tr f2 rfl rfl).tr f3 rfl rfl).tr f4 rfl rfl) h37
      · have h38 := h4.2 c5
        refine ffm_tk h38 (fun r39 s40 f5 h44 => ?_)
        refine ⟨fun c45 => ?_, fun c45 => ?_⟩
        · have h46 := h44.1 c45
          obtain ⟨o47, h48⟩ := h46
          refine ⟨o47, ?_⟩
          obtain ⟨o49, h50⟩ := h48
          refine ⟨o49, ?_⟩
          refine ffm_leaf h50 (fun s52 f6 h56 => ?_)
          obtain ⟨o57, h58⟩ := h56
          refine ⟨o57, ?_⟩
          refine ffm_goal h58 (fun s62 f7 h66 => ?_)
          refine ffm_goal h66 (fun s68 f8 h72 => ?_)
          refine ffm_goal h72 (fun s74 f9 h78 => ?_)
          refine ffm_goal h78 (fun s80 f10 h84 => ?_)
          refine ffm_goal h84 (fun s86 f11 h90 => ?_)
          refine ffm_goal h90 (fun s92 f12 h96 => ?_)
          refine ffm_goal h96 (fun s98 f13 h102 => ?_)
          refine ffm_take h102 (fun r103 s104 f14 h108 => ?_)
          obtain ⟨o109, h110⟩ := h108
          refine ⟨o109, ?_⟩
          exact hq _ _ (((((((((((zSm.rf.tr f5 rfl rfl).tr f6 rfl rfl).pv rfl).tr f7 rfl rfl).tr f8 rfl rfl).tr f9 rfl rfl).tr f10 rfl rfl).tr f11 rfl rfl).tr f12 rfl rfl).tr f13 rfl rfl).tr f14 rfl rfl) h110
        · have h111 := h44.2 c45
          exact hq _ _ (zSm.rf.tr f5 rfl rfl) h111
    · have h112 := h2.2 c3
      refine ffm_goal h112 (fun s114 f15 h118 => ?_)
      refine ffm_goal h118 (fun s120 f16 h124 => ?_)
      refine ffm_goal h124 (fun s126 f17 h130 => ?_)
      refine ffm_goal h130 (fun s132 f18 h136 => ?_)
      refine ffm_goal h136 (fun s138 f19 h142 => ?_)
      refine ffm_goal h142 (fun s144 f20 h148 => ?_)
      exact hq _ _ ((((((zSm.rf.tr f15 rfl rfl).tr f16 rfl rfl).tr f17 rfl rfl).tr f18 rfl rfl).tr f19 rfl rfl).tr f20 rfl rfl) h148
  · have h149 := hw.2 c1
    refine ffm_goal h149 (fun s151 f21 h155 => ?_)
    refine ffm_goal h155 (fun s157 f22 h161 => ?_)
    refine ffm_goal h161 (fun s163 f23 h167 => ?_)
    refine ffm_goal h167 (fun s169 f24 h173 => ?_)
    exact hq _ _ ((((zSm.rf.tr f21 rfl rfl).tr f22 rfl rfl).tr f23 rfl rfl).tr f24 rfl rfl) h173
theorem ffj_command_156 {Q Q' : Int → zS → Prop}  {s0 : zS} {x1 : Int} {x2 : Int} {x3 : Int} {y0 : Int} (hq : ∀ (e : Int) (A' : zS), zSm s0 A' [25, 26, 27, 28, 29, 30, 31, 33, 34, 35, 36, 39, 40, 41, 42, 46, 47] [24, 37, 38, 43, 44, 45] → Q e A' → Q' e A')  (hw : wr_command_156 Q  s0 x1 x2 x3 y0) : wr_command_156 Q'  s0 x1 x2 x3 y0 := by
  unfold wr_command_156 at hw ⊢
  refine ⟨fun c1 => ?_, fun c1 => ?_⟩
  · have h2 := hw.1 c1
    refine ⟨fun c3 => ?_, fun c3 => ?_⟩
    · have h4 := h2.1 c3
      refine ⟨fun c5 => ?_, fun c5 => ?_⟩
      · have h6 := h4.1 c5
        refine ⟨fun c7 => ?_, fun c7 => ?_⟩
        · have h8 := h6.1 c7
          refine ⟨fun c9 => ?_, fun c9 => ?_⟩
          · have h10 := h8.1 c9
            refine ⟨fun c11 => ?_, fun c11 => ?_⟩
            · have h12 := h10.1 c11
              refine ⟨fun c13 => ?_, fun c13 => ?_⟩
              · have h14 := h12.1 c13
                exact ffj_command_292 (fun e A' f q => hq e A' (zSm.rf.tr f rfl rfl) q)  h14
              · have h15 := h12.2 c13
                exact ffj_command_292 (fun e A' f q => hq e A' (zSm.rf.tr f rfl rfl) q)  h15
            · have h16 := h10.2 c11
              exact ffj_command_292 (fun e A' f q => hq e A' (zSm.rf.tr f rfl rfl) q)  h16
          · have h17 := h8.2 c9
            exact ffj_command_292 (fun e A' f q => hq e A' (zSm.rf.tr f rfl rfl) q)  h17
        · have h18 := h6.2 c7
          exact ffj_command_292 (fun e A' f q => hq e A' (zSm.rf.tr f rfl rfl) q)  h18
      · have h19 := h4.2 c5
        refine ffm_tk h19 (fun r20 s21 f1 h25 => ?_)
        refine ⟨fun c26 => ?_, fun c26 => ?_⟩
        · have h27 := h25.1 c26
          obtain ⟨o28, h29⟩ := h27
          refine ⟨o28, ?_⟩
          obtain ⟨o30, h31⟩ := h29
          refine ⟨o30, ?_⟩
          refine ffm_leaf h31 (fun s33 f2 h37 => ?_)
          obtain ⟨o38, h39⟩ := h37
          refine ⟨o38, ?_⟩
          exact hq _ _ (((zSm.rf.tr f1 rfl rfl).tr f2 rfl rfl).pv rfl) h39
        · have h42 := h25.2 c26
          exact hq _ _ (zSm.rf.tr f1 rfl rfl) h42
    · have h43 := h2.2 c3
      refine ffm_goal h43 (fun s45 f3 h49 => ?_)
      refine ffm_goal h49 (fun s51 f4 h55 => ?_)
      exact hq _ _ ((zSm.rf.tr f3 rfl rfl).tr f4 rfl rfl) h55
  · have h56 := hw.2 c1
    refine ffm_leaf h56 (fun s58 f5 h62 => ?_)
    exact hq _ _ (zSm.rf.tr f5 rfl rfl) h62
theorem ffm_command {s0 : zS} {a0 : Int} {a1 : Int} {a2 : Int} {Q Q' : Int → zS → Prop} (hw : wr_command s0 a0 a1 a2 Q) (hq : ∀ (e : Int) (A' : zS), zSm s0 A' [25, 26, 27, 28, 29, 30, 31, 33, 34, 35, 36, 39, 40, 41, 42, 46, 47] [24, 37, 38, 43, 44, 45] → Q e A' → Q' e A') : wr_command s0 a0 a1 a2 Q' := by
  unfold wr_command at hw ⊢
  refine ⟨fun c1 => ?_, fun c1 => ?_⟩
  · have h2 := hw.1 c1
    refine ffm_leaf h2 (fun s4 f1 h8 => ?_)
    exact hq _ _ (zSm.rf.tr f1 rfl rfl) h8
  · have h9 := hw.2 c1
    refine ⟨fun c10 => ?_, fun c10 => ?_⟩
    · have h11 := h9.1 c10
      refine ffm_beginsE h11 (fun r12 s13 f2 h17 => ?_)
      refine ⟨fun c18 => ?_, fun c18 => ?_⟩
      · have h19 := h17.1 c18
        refine ⟨fun c20 => ?_, fun c20 => ?_⟩
        · have h21 := h19.1 c20
          obtain ⟨o22, h23⟩ := h21
          refine ⟨o22, ?_⟩
          refine ⟨fun c26 => ?_, fun c26 => ?_⟩
          · have h27 := h23.1 c26
            refine ⟨fun c28 => ?_, fun c28 => ?_⟩
            · have h29 := h27.1 c28
              refine ⟨fun c30 => ?_, fun c30 => ?_⟩
              · have h31 := h29.1 c30
                refine ⟨fun c32 => ?_, fun c32 => ?_⟩
                · have h33 := h31.1 c32
                  refine ⟨fun c34 => ?_, fun c34 => ?_⟩
                  · have h35 := h33.1 c34
                    exact ffj_command_156 (fun e A' f q => hq e A' (((zSm.rf.tr f2 rfl rfl).pv rfl).tr f rfl rfl) q)  h35
                  · have h36 := h33.2 c34
                    exact ffj_command_156 (fun e A' f q => hq e A' (((zSm.rf.tr f2 rfl rfl).pv rfl).tr f rfl rfl) q)  h36
                · have h37 := h31.2 c32
                  exact ffj_command_156 (fun e A' f q => hq e A' (((zSm.rf.tr f2 rfl rfl).pv rfl).tr f rfl rfl) q)  h37
              · have h38 := h29.2 c30
                exact ffj_command_156 (fun e A' f q => hq e A' (((zSm.rf.tr f2 rfl rfl).pv rfl).tr f rfl rfl) q)  h38
            · have h39 := h27.2 c28
              exact ffj_command_156 (fun e A' f q => hq e A' (((zSm.rf.tr f2 rfl rfl).pv rfl).tr f rfl rfl) q)  h39
          · have h40 := h23.2 c26
            exact ffj_command_156 (fun e A' f q => hq e A' (((zSm.rf.tr f2 rfl rfl).pv rfl).tr f rfl rfl) q)  h40
        · have h41 := h19.2 c20
          refine ffm_openSection h41 (fun r42 s43 f3 h47 => ?_)
          refine ⟨fun c48 => ?_, fun c48 => ?_⟩
          · have h49 := h47.1 c48
            refine ffm_tk h49 (fun r50 s51 f4 h55 => ?_)
            refine ffm_isD h55 (fun r56 s57 f5 h61 => ?_)
            refine ⟨fun c62 => ?_, fun c62 => ?_⟩
            · have h63 := h61.1 c62
              refine ffm_goal h63 (fun s65 f6 h69 => ?_)
              exact hq _ _ (((((zSm.rf.tr f2 rfl rfl).tr f3 rfl rfl).tr f4 rfl rfl).tr f5 rfl rfl).tr f6 rfl rfl) h69
            · have h70 := h61.2 c62
              refine ffm_goal h70 (fun s72 f7 h76 => ?_)
              exact hq _ _ (((((zSm.rf.tr f2 rfl rfl).tr f3 rfl rfl).tr f4 rfl rfl).tr f5 rfl rfl).tr f7 rfl rfl) h76
          · have h77 := h47.2 c48
            exact hq _ _ ((zSm.rf.tr f2 rfl rfl).tr f3 rfl rfl) h77
      · have h78 := h17.2 c18
        refine ffm_goal h78 (fun s80 f8 h84 => ?_)
        refine ffm_goal h84 (fun s86 f9 h90 => ?_)
        exact hq _ _ (((zSm.rf.tr f2 rfl rfl).tr f8 rfl rfl).tr f9 rfl rfl) h90
    · have h91 := h9.2 c10
      refine ffm_leaf h91 (fun s93 f10 h97 => ?_)
      exact hq _ _ (zSm.rf.tr f10 rfl rfl) h97
theorem ffb_labels_0 {Q Q' : zS → Prop} {k0 k0' : zS → Prop} {s0 : zS}  (hq : ∀ (A' : zS), zSm s0 A' [25, 26, 27, 28, 29, 30, 31, 33, 34, 35, 36] [24, 37, 43] → Q A' → Q' A') (fk0 : ∀ (A' : zS), zSm s0 A' [25, 26, 27, 28, 29, 30, 31, 33, 34, 35, 36] [24, 37, 43] → k0 A'  → k0' A' ) (hw : wr_labels_0B Q k0 s0 ) : wr_labels_0B Q' k0' s0  := by
  unfold wr_labels_0B at hw ⊢
  refine ffm_tk hw (fun r1 s2 f1 h6 => ?_)
  refine ⟨fun c7 => ?_, fun c7 => ?_⟩
  · have h8 := h6.1 c7
    exact hq _ (zSm.rf.tr f1 rfl rfl) h8
  · have h9 := h6.2 c7
    refine ffm_tkNext h9 (fun r10 s11 f2 h15 => ?_)
    refine ⟨fun c16 => ?_, fun c16 => ?_⟩
    · have h17 := h15.1 c16
      exact hq _ ((zSm.rf.tr f1 rfl rfl).tr f2 rfl rfl) h17
    · have h18 := h15.2 c16
      obtain ⟨o19, h20⟩ := h18
      refine ⟨o19, ?_⟩
      obtain ⟨o21, h22⟩ := h20
      refine ⟨o21, ?_⟩
      refine ffm_leaf h22 (fun s24 f3 h28 => ?_)
      obtain ⟨o29, h30⟩ := h28
      refine ⟨o29, ?_⟩
      exact fk0 _  ((((zSm.rf.tr f1 rfl rfl).tr f2 rfl rfl).tr f3 rfl rfl).pv rfl) h30
theorem ffl_labels_00 {Q Q' : zS → Prop}  : ∀ (m : Nat) (s0 : zS), (∀ (A' : zS), zSm s0 A' [25, 26, 27, 28, 29, 30, 31, 33, 34, 35, 36] [24, 37, 43] → Q A' → Q' A') → wr_labels_0 Q  m s0  → wr_labels_0 Q'  m s0  := by
  intro m
  induction m with
  | zero => intro s0  hq  hw; exact hw
  | succ m ih => intro s0  hq  hw; exact ffb_labels_0 hq  (fun A'  f1 q => ih A'  (fun A' f q => hq A' (f1.tr f rfl rfl) q)  q) hw
theorem ffm_labels {s0 : zS} {a0 : Int} {Q Q' : zS → Prop} (hw : wr_labels s0 a0 Q) (hq : ∀ (A' : zS), zSm s0 A' [25, 26, 27, 28, 29, 30, 31, 33, 34, 35, 36] [24, 37, 43] → Q A' → Q' A') : wr_labels s0 a0 Q' := by
  unfold wr_labels at hw ⊢
  obtain ⟨m1, h2⟩ := hw
  exact ⟨m1, ffl_labels_00 m1 _  (fun A' f q => hq A' (zSm.rf.tr f rfl rfl) q)  h2⟩
theorem ffj_reachC_342 {Q Q' : Int → zS → Prop}  {s0 : zS} {x1 : Int} {x2 : Int} {x3 : Int} {x4 : Int} (hq : ∀ (e : Int) (A' : zS), zSm s0 A' [25, 26, 27, 28, 29, 30, 31, 32, 33, 34, 35, 36, 39, 40, 41, 42, 46, 47] [24, 37, 38, 43, 44, 45] → Q e A' → Q' e A')  (hw : wr_reachC_342 Q  s0 x1 x2 x3 x4) : wr_reachC_342 Q'  s0 x1 x2 x3 x4 := by
  unfold wr_reachC_342 at hw ⊢
  refine ffm_take hw (fun r1 s2 f1 h6 => ?_)
  refine ⟨fun c7 => ?_, fun c7 => ?_⟩
  · have h8 := h6.1 c7
    refine ffm_shutSection h8 (fun r9 s10 f2 h14 => ?_)
    refine ⟨fun c15 => ?_, fun c15 => ?_⟩
    · have h16 := h14.1 c15
      refine ⟨fun c17 => ?_, fun c17 => ?_⟩
      · have h18 := h16.1 c17
        refine ffm_shut h18 (fun r19 s20 f3 h24 => ?_)
        exact hq _ _ (((zSm.rf.tr f1 rfl rfl).tr f2 rfl rfl).tr f3 rfl rfl) h24
      · have h25 := h16.2 c17
        refine ffm_shut h25 (fun r26 s27 f4 h31 => ?_)
        exact hq _ _ (((zSm.rf.tr f1 rfl rfl).tr f2 rfl rfl).tr f4 rfl rfl) h31
    · have h32 := h14.2 c15
      exact hq _ _ ((zSm.rf.tr f1 rfl rfl).tr f2 rfl rfl) h32
  · have h33 := h6.2 c7
    refine ⟨fun c34 => ?_, fun c34 => ?_⟩
    · have h35 := h33.1 c34
      refine ffm_goal h35 (fun s37 f5 h41 => ?_)
      exact hq _ _ ((zSm.rf.tr f1 rfl rfl).tr f5 rfl rfl) h41
    · have h42 := h33.2 c34
      refine ffm_goal h42 (fun s44 f6 h48 => ?_)
      exact hq _ _ ((zSm.rf.tr f1 rfl rfl).tr f6 rfl rfl) h48
theorem ffj_reachC_82 {Q Q' : Int → zS → Prop}  {s0 : zS} {x2 : Int} {x4 : Int} {x5 : Int} {x7 : Int} (hq : ∀ (e : Int) (A' : zS), zSm s0 A' [25, 26, 27, 28, 29, 30, 31, 32, 33, 34, 35, 36, 39, 40, 41, 42, 46, 47] [24, 37, 38, 43, 44, 45] → Q e A' → Q' e A')  (hw : wr_reachC_82 Q  s0 x2 x4 x5 x7) : wr_reachC_82 Q'  s0 x2 x4 x5 x7 := by
  unfold wr_reachC_82 at hw ⊢
  refine ffm_deeper hw (fun r1 s2 f1 h6 => ?_)
  refine ⟨fun c7 => ?_, fun c7 => ?_⟩
  · have h8 := h6.1 c7
    obtain ⟨o9, h10⟩ := h8
    refine ⟨o9, ?_⟩
    refine ffm_goal h10 (fun s14 f2 h18 => ?_)
    refine ⟨fun c19 => ?_, fun c19 => ?_⟩
    · have h20 := h18.1 c19
      refine ⟨fun c21 => ?_, fun c21 => ?_⟩
      · have h22 := h20.1 c21
        refine ffm_goal h22 (fun s24 f3 h28 => ?_)
        refine ffm_goal h28 (fun s30 f4 h34 => ?_)
        exact hq _ _ (((((zSm.rf.tr f1 rfl rfl).pv rfl).tr f2 rfl rfl).tr f3 rfl rfl).tr f4 rfl rfl) h34
      · have h35 := h20.2 c21
        refine ffm_goal h35 (fun s37 f5 h41 => ?_)
        refine ffm_goal h41 (fun s43 f6 h47 => ?_)
        exact hq _ _ (((((zSm.rf.tr f1 rfl rfl).pv rfl).tr f2 rfl rfl).tr f5 rfl rfl).tr f6 rfl rfl) h47
    · have h48 := h18.2 c19
      refine ffm_shut h48 (fun r49 s50 f7 h54 => ?_)
      exact hq _ _ ((((zSm.rf.tr f1 rfl rfl).pv rfl).tr f2 rfl rfl).tr f7 rfl rfl) h54
  · have h55 := h6.2 c7
    exact hq _ _ (zSm.rf.tr f1 rfl rfl) h55
theorem ffm_reachC {s0 : zS} {a0 : Int} {a1 : Int} {a2 : Int} {a3 : Int} {Q Q' : Int → zS → Prop} (hw : wr_reachC s0 a0 a1 a2 a3 Q) (hq : ∀ (e : Int) (A' : zS), zSm s0 A' [25, 26, 27, 28, 29, 30, 31, 32, 33, 34, 35, 36, 39, 40, 41, 42, 46, 47] [24, 37, 38, 43, 44, 45] → Q e A' → Q' e A') : wr_reachC s0 a0 a1 a2 a3 Q' := by
  unfold wr_reachC at hw ⊢
  refine ffm_tk hw (fun r1 s2 f1 h6 => ?_)
  refine ⟨fun c7 => ?_, fun c7 => ?_⟩
  · have h8 := h6.1 c7
    refine ⟨fun c9 => ?_, fun c9 => ?_⟩
    · have h10 := h8.1 c9
      refine ⟨fun c11 => ?_, fun c11 => ?_⟩
      · have h12 := h10.1 c11
        refine ⟨fun c13 => ?_, fun c13 => ?_⟩
        · have h14 := h12.1 c13
          refine ⟨fun c15 => ?_, fun c15 => ?_⟩
          · have h16 := h14.1 c15
            refine ⟨fun c17 => ?_, fun c17 => ?_⟩
            · have h18 := h16.1 c17
              refine ⟨fun c19 => ?_, fun c19 => ?_⟩
              · have h20 := h18.1 c19
                exact ffj_reachC_342 (fun e A' f q => hq e A' ((zSm.rf.tr f1 rfl rfl).tr f rfl rfl) q)  h20
              · have h21 := h18.2 c19
                refine ⟨fun c22 => ?_, fun c22 => ?_⟩
                · have h23 := h21.1 c22
                  refine ⟨fun c24 => ?_, fun c24 => ?_⟩
                  · have h25 := h23.1 c24
                    refine ⟨fun c26 => ?_, fun c26 => ?_⟩
                    · have h27 := h25.1 c26
                      refine ⟨fun c28 => ?_, fun c28 => ?_⟩
                      · have h29 := h27.1 c28
                        refine ⟨fun c30 => ?_, fun c30 => ?_⟩
                        · have h31 := h29.1 c30
                          refine ⟨fun c32 => ?_, fun c32 => ?_⟩
                          · have h33 := h31.1 c32
                            exact hq _ _ (zSm.rf.tr f1 rfl rfl) h33
                          · have h34 := h31.2 c32
                            obtain ⟨o35, h36⟩ := h34
                            refine ⟨o35, ?_⟩
                            refine ⟨fun c37 => ?_, fun c37 => ?_⟩
                            · have h38 := h36.1 c37
                              refine ffm_take h38 (fun r39 s40 f2 h44 => ?_)
                              refine ⟨fun c45 => ?_, fun c45 => ?_⟩
                              · have h46 := h44.1 c45
                                obtain ⟨o47, h48⟩ := h46
                                refine ⟨o47, ?_⟩
                                refine ffm_goal h48 (fun s50 f3 h54 => ?_)
                                refine ffm_goal h54 (fun s56 f4 h60 => ?_)
                                exact hq _ _ ((((zSm.rf.tr f1 rfl rfl).tr f2 rfl rfl).tr f3 rfl rfl).tr f4 rfl rfl) h60
                              · have h61 := h44.2 c45
                                exact hq _ _ ((zSm.rf.tr f1 rfl rfl).tr f2 rfl rfl) h61
                            · have h62 := h36.2 c37
                              refine ffm_shut h62 (fun r63 s64 f5 h68 => ?_)
                              refine ffm_pairs h68 (fun s70 f6 h74 => ?_)
                              exact hq _ _ (((zSm.rf.tr f1 rfl rfl).tr f5 rfl rfl).tr f6 rfl rfl) h74
                        · have h75 := h29.2 c30
                          refine ffm_take h75 (fun r76 s77 f7 h81 => ?_)
                          refine ⟨fun c82 => ?_, fun c82 => ?_⟩
                          · have h83 := h81.1 c82
                            refine ffm_take h83 (fun r84 s85 f8 h89 => ?_)
                            refine ⟨fun c90 => ?_, fun c90 => ?_⟩
                            · have h91 := h89.1 c90
                              obtain ⟨o92, h93⟩ := h91
                              refine ⟨o92, ?_⟩
                              refine ffm_goal h93 (fun s95 f9 h99 => ?_)
                              refine ffm_goal h99 (fun s101 f10 h105 => ?_)
                              exact hq _ _ (((((zSm.rf.tr f1 rfl rfl).tr f7 rfl rfl).tr f8 rfl rfl).tr f9 rfl rfl).tr f10 rfl rfl) h105
                            · have h106 := h89.2 c90
                              exact hq _ _ (((zSm.rf.tr f1 rfl rfl).tr f7 rfl rfl).tr f8 rfl rfl) h106
                          · have h107 := h81.2 c82
                            obtain ⟨o108, h109⟩ := h107
                            refine ⟨o108, ?_⟩
                            refine ffm_goal h109 (fun s111 f11 h115 => ?_)
                            refine ffm_goal h115 (fun s117 f12 h121 => ?_)
                            exact hq _ _ ((((zSm.rf.tr f1 rfl rfl).tr f7 rfl rfl).tr f11 rfl rfl).tr f12 rfl rfl) h121
                      · have h122 := h27.2 c28
                        refine ⟨fun c123 => ?_, fun c123 => ?_⟩
                        · have h124 := h122.1 c123
                          refine ffm_goal h124 (fun s126 f13 h130 => ?_)
                          exact hq _ _ ((zSm.rf.tr f1 rfl rfl).tr f13 rfl rfl) h130
                        · have h131 := h122.2 c123
                          refine ⟨fun c132 => ?_, fun c132 => ?_⟩
                          · have h133 := h131.1 c132
                            obtain ⟨o134, h135⟩ := h133
                            refine ⟨o134, ?_⟩
                            obtain ⟨o136, h137⟩ := h135
                            refine ⟨o136, ?_⟩
                            obtain ⟨o138, h139⟩ := h137
                            refine ⟨o138, ?_⟩
                            obtain ⟨o140, h141⟩ := h139
                            refine ⟨o140, ?_⟩
                            refine ⟨fun c142 => ?_, fun c142 => ?_⟩
                            · have h143 := h141.1 c142
                              exact hq _ _ (zSm.rf.tr f1 rfl rfl) h143
                            · have h144 := h141.2 c142
                              obtain ⟨o145, h146⟩ := h144
                              refine ⟨o145, ?_⟩
                              obtain ⟨o147, h148⟩ := h146
                              refine ⟨o147, ?_⟩
                              refine ⟨fun c149 => ?_, fun c149 => ?_⟩
                              · have h150 := h148.1 c149
                                refine ffm_shut h150 (fun r151 s152 f14 h156 => ?_)
                                exact hq _ _ ((zSm.rf.tr f1 rfl rfl).tr f14 rfl rfl) h156
                              · have h157 := h148.2 c149
                                exact hq _ _ (zSm.rf.tr f1 rfl rfl) h157
                          · have h158 := h131.2 c132
                            refine ffm_goal h158 (fun s160 f15 h164 => ?_)
                            exact hq _ _ ((zSm.rf.tr f1 rfl rfl).tr f15 rfl rfl) h164
                    · have h165 := h25.2 c26
                      refine ⟨fun c166 => ?_, fun c166 => ?_⟩
                      · have h167 := h165.1 c166
                        refine ⟨fun c168 => ?_, fun c168 => ?_⟩
                        · have h169 := h167.1 c168
                          refine ffm_labels h169 (fun s171 f16 h175 => ?_)
                          refine ffm_goal h175 (fun s177 f17 h181 => ?_)
                          refine ffm_goal h181 (fun s183 f18 h187 => ?_)
                          exact hq _ _ ((((zSm.rf.tr f1 rfl rfl).tr f16 rfl rfl).tr f17 rfl rfl).tr f18 rfl rfl) h187
                        · have h188 := h167.2 c168
                          obtain ⟨o189, h190⟩ := h188
                          refine ⟨o189, ?_⟩
                          refine ffm_leaf h190 (fun s194 f19 h198 => ?_)
                          refine ffm_goal h198 (fun s200 f20 h204 => ?_)
                          refine ffm_take h204 (fun r205 s206 f21 h210 => ?_)
                          obtain ⟨o211, h212⟩ := h210
                          refine ⟨o211, ?_⟩
                          exact hq _ _ (((((zSm.rf.tr f1 rfl rfl).pv rfl).tr f19 rfl rfl).tr f20 rfl rfl).tr f21 rfl rfl) h212
                      · have h213 := h165.2 c166
                        obtain ⟨o214, h215⟩ := h213
                        refine ⟨o214, ?_⟩
                        refine ffm_goal h215 (fun s219 f22 h223 => ?_)
                        refine ffm_goal h223 (fun s225 f23 h229 => ?_)
                        refine ffm_goal h229 (fun s231 f24 h235 => ?_)
                        refine ffm_goal h235 (fun s237 f25 h241 => ?_)
                        exact hq _ _ ((((((zSm.rf.tr f1 rfl rfl).pv rfl).tr f22 rfl rfl).tr f23 rfl rfl).tr f24 rfl rfl).tr f25 rfl rfl) h241
                  · have h242 := h23.2 c24
                    refine ffm_goal h242 (fun s244 f26 h248 => ?_)
                    refine ffm_goal h248 (fun s250 f27 h254 => ?_)
                    exact hq _ _ (((zSm.rf.tr f1 rfl rfl).tr f26 rfl rfl).tr f27 rfl rfl) h254
                · have h255 := h21.2 c22
                  exact ffj_reachC_342 (fun e A' f q => hq e A' ((zSm.rf.tr f1 rfl rfl).tr f rfl rfl) q)  h255
            · have h256 := h16.2 c17
              refine ffm_goal h256 (fun s258 f28 h262 => ?_)
              refine ffm_labels h262 (fun s264 f29 h268 => ?_)
              refine ffm_goal h268 (fun s270 f30 h274 => ?_)
              refine ffm_goal h274 (fun s276 f31 h280 => ?_)
              exact hq _ _ (((((zSm.rf.tr f1 rfl rfl).tr f28 rfl rfl).tr f29 rfl rfl).tr f30 rfl rfl).tr f31 rfl rfl) h280
          · have h281 := h14.2 c15
            refine ffm_take h281 (fun r282 s283 f32 h287 => ?_)
            refine ⟨fun c288 => ?_, fun c288 => ?_⟩
            · have h289 := h287.1 c288
              refine ffm_shutSection h289 (fun r290 s291 f33 h295 => ?_)
              refine ⟨fun c296 => ?_, fun c296 => ?_⟩
              · have h297 := h295.1 c296
                refine ffm_shut h297 (fun r298 s299 f34 h303 => ?_)
                exact hq _ _ ((((zSm.rf.tr f1 rfl rfl).tr f32 rfl rfl).tr f33 rfl rfl).tr f34 rfl rfl) h303
              · have h304 := h295.2 c296
                exact hq _ _ (((zSm.rf.tr f1 rfl rfl).tr f32 rfl rfl).tr f33 rfl rfl) h304
            · have h305 := h287.2 c288
              refine ffm_tk h305 (fun r306 s307 f35 h311 => ?_)
              refine ffm_isD h311 (fun r312 s313 f36 h317 => ?_)
              refine ⟨fun c318 => ?_, fun c318 => ?_⟩
              · have h319 := h317.1 c318
                refine ffm_goal h319 (fun s321 f37 h325 => ?_)
                exact hq _ _ (((((zSm.rf.tr f1 rfl rfl).tr f32 rfl rfl).tr f35 rfl rfl).tr f36 rfl rfl).tr f37 rfl rfl) h325
              · have h326 := h317.2 c318
                refine ffm_goal h326 (fun s328 f38 h332 => ?_)
                exact hq _ _ (((((zSm.rf.tr f1 rfl rfl).tr f32 rfl rfl).tr f35 rfl rfl).tr f36 rfl rfl).tr f38 rfl rfl) h332
        · have h333 := h12.2 c13
          refine ffm_goal h333 (fun s335 f39 h339 => ?_)
          refine ffm_goal h339 (fun s341 f40 h345 => ?_)
          exact hq _ _ (((zSm.rf.tr f1 rfl rfl).tr f39 rfl rfl).tr f40 rfl rfl) h345
      · have h346 := h10.2 c11
        refine ffm_take h346 (fun r347 s348 f41 h352 => ?_)
        refine ⟨fun c353 => ?_, fun c353 => ?_⟩
        · have h354 := h352.1 c353
          refine ffm_goal h354 (fun s356 f42 h360 => ?_)
          exact hq _ _ (((zSm.rf.tr f1 rfl rfl).tr f41 rfl rfl).tr f42 rfl rfl) h360
        · have h361 := h352.2 c353
          exact hq _ _ ((zSm.rf.tr f1 rfl rfl).tr f41 rfl rfl) h361
    · have h362 := h8.2 c9
      refine ⟨fun c363 => ?_, fun c363 => ?_⟩
      · have h364 := h362.1 c363
        exact ffj_reachC_82 (fun e A' f q => hq e A' ((zSm.rf.tr f1 rfl rfl).tr f rfl rfl) q)  h364
      · have h365 := h362.2 c363
        refine ⟨fun c366 => ?_, fun c366 => ?_⟩
        · have h367 := h365.1 c366
          exact ffj_reachC_82 (fun e A' f q => hq e A' ((zSm.rf.tr f1 rfl rfl).tr f rfl rfl) q)  h367
        · have h368 := h365.2 c366
          refine ⟨fun c369 => ?_, fun c369 => ?_⟩
          · have h370 := h368.1 c369
            exact ffj_reachC_82 (fun e A' f q => hq e A' ((zSm.rf.tr f1 rfl rfl).tr f rfl rfl) q)  h370
          · have h371 := h368.2 c369
            exact hq _ _ ((zSm.rf.tr f1 rfl rfl).pv rfl) h371
  · have h374 := h6.2 c7
    refine ffm_goal h374 (fun s376 f43 h380 => ?_)
    refine ffm_command h380 (fun r381 s382 f44 h386 => ?_)
    obtain ⟨o387, h388⟩ := h386
    refine ⟨o387, ?_⟩
    exact hq _ _ (((zSm.rf.tr f1 rfl rfl).tr f43 rfl rfl).tr f44 rfl rfl) h388
theorem ffj_reach_22 {Q Q' : Int → zS → Prop}  {s0 : zS} {x1 : Int} {x2 : Int} {x3 : Int} {x4 : Int} (hq : ∀ (e : Int) (A' : zS), zSm s0 A' [25, 26, 27, 28, 29, 30, 31, 32, 33, 34, 35, 36, 39, 40, 41, 42, 46, 47] [24, 37, 38, 43, 44, 45] → Q e A' → Q' e A')  (hw : wr_reach_22 Q  s0 x1 x2 x3 x4) : wr_reach_22 Q'  s0 x1 x2 x3 x4 := by
  unfold wr_reach_22 at hw ⊢
  refine ⟨fun c1 => ?_, fun c1 => ?_⟩
  · have h2 := hw.1 c1
    refine ⟨fun c3 => ?_, fun c3 => ?_⟩
    · have h4 := h2.1 c3
      refine ⟨fun c5 => ?_, fun c5 => ?_⟩
      · have h6 := h4.1 c5
        refine ⟨fun c7 => ?_, fun c7 => ?_⟩
        · have h8 := h6.1 c7
          refine ⟨fun c9 => ?_, fun c9 => ?_⟩
          · have h10 := h8.1 c9
            refine ⟨fun c11 => ?_, fun c11 => ?_⟩
            · have h12 := h10.1 c11
              refine ⟨fun c13 => ?_, fun c13 => ?_⟩
              · have h14 := h12.1 c13
                refine ⟨fun c15 => ?_, fun c15 => ?_⟩
                · have h16 := h14.1 c15
                  refine ⟨fun c17 => ?_, fun c17 => ?_⟩
                  · have h18 := h16.1 c17
                    refine ffm_reachC h18 (fun r19 s20 f1 h24 => ?_)
                    obtain ⟨o25, h26⟩ := h24
                    refine ⟨o25, ?_⟩
                    exact hq _ _ (zSm.rf.tr f1 rfl rfl) h26
                  · have h27 := h16.2 c17
                    refine ffm_reachD h27 (fun r28 s29 f2 h33 => ?_)
                    obtain ⟨o34, h35⟩ := h33
                    refine ⟨o34, ?_⟩
                    exact hq _ _ (zSm.rf.tr f2 rfl rfl) h35
                · have h36 := h14.2 c15
                  refine ffm_goal h36 (fun s38 f3 h42 => ?_)
                  refine ffm_goal h42 (fun s44 f4 h48 => ?_)
                  refine ffm_deeper h48 (fun r49 s50 f5 h54 => ?_)
                  obtain ⟨o55, h56⟩ := h54
                  refine ⟨o55, ?_⟩
                  exact hq _ _ (((zSm.rf.tr f3 rfl rfl).tr f4 rfl rfl).tr f5 rfl rfl) h56
              · have h57 := h12.2 c13
                refine ffm_take h57 (fun r58 s59 f6 h63 => ?_)
                refine ⟨fun c64 => ?_, fun c64 => ?_⟩
                · have h65 := h63.1 c64
                  exact hq _ _ (zSm.rf.tr f6 rfl rfl) h65
                · have h66 := h63.2 c64
                  refine ffm_tk h66 (fun r67 s68 f7 h72 => ?_)
                  refine ffm_isDoless h72 (fun r73 s74 f8 h78 => ?_)
                  refine ⟨fun c79 => ?_, fun c79 => ?_⟩
                  · have h80 := h78.1 c79
                    exact hq _ _ (((zSm.rf.tr f6 rfl rfl).tr f7 rfl rfl).tr f8 rfl rfl) h80
                  · have h81 := h78.2 c79
                    exact hq _ _ (((zSm.rf.tr f6 rfl rfl).tr f7 rfl rfl).tr f8 rfl rfl) h81
            · have h82 := h10.2 c11
              refine ffm_openSection h82 (fun r83 s84 f9 h88 => ?_)
              obtain ⟨o89, h90⟩ := h88
              refine ⟨o89, ?_⟩
              exact hq _ _ (zSm.rf.tr f9 rfl rfl) h90
          · have h91 := h8.2 c9
            refine ffm_take h91 (fun r92 s93 f10 h97 => ?_)
            obtain ⟨o98, h99⟩ := h97
            refine ⟨o98, ?_⟩
            exact hq _ _ (zSm.rf.tr f10 rfl rfl) h99
        · have h100 := h6.2 c7
          exact hq _ _ (zSm.rf.pv rfl) h100
      · have h103 := h4.2 c5
        refine ffm_shut h103 (fun r104 s105 f11 h109 => ?_)
        refine ⟨fun c110 => ?_, fun c110 => ?_⟩
        · have h111 := h109.1 c110
          exact hq _ _ (zSm.rf.tr f11 rfl rfl) h111
        · have h112 := h109.2 c110
          obtain ⟨o113, h114⟩ := h112
          refine ⟨o113, ?_⟩
          obtain ⟨o115, h116⟩ := h114
          refine ⟨o115, ?_⟩
          exact hq _ _ ((zSm.rf.tr f11 rfl rfl).pa rfl) h116
    · have h119 := h2.2 c3
      refine ⟨fun c120 => ?_, fun c120 => ?_⟩
      · have h121 := h119.1 c120
        refine ffm_take h121 (fun r122 s123 f12 h127 => ?_)
        refine ⟨fun c128 => ?_, fun c128 => ?_⟩
        · have h129 := h127.1 c128
          refine ⟨fun c130 => ?_, fun c130 => ?_⟩
          · have h131 := h129.1 c130
            refine ffm_goal h131 (fun s133 f13 h137 => ?_)
            exact hq _ _ ((zSm.rf.tr f12 rfl rfl).tr f13 rfl rfl) h137
          · have h138 := h129.2 c130
            refine ⟨fun c139 => ?_, fun c139 => ?_⟩
            · have h140 := h138.1 c139
              exact hq _ _ (zSm.rf.tr f12 rfl rfl) h140
            · have h141 := h138.2 c139
              exact hq _ _ (zSm.rf.tr f12 rfl rfl) h141
        · have h142 := h127.2 c128
          exact hq _ _ (zSm.rf.tr f12 rfl rfl) h142
      · have h143 := h119.2 c120
        refine ⟨fun c144 => ?_, fun c144 => ?_⟩
        · have h145 := h143.1 c144
          exact hq _ _ zSm.rf h145
        · have h146 := h143.2 c144
          exact hq _ _ zSm.rf h146
  · have h147 := hw.2 c1
    refine ffm_goal h147 (fun s149 f14 h153 => ?_)
    refine ffm_goal h153 (fun s155 f15 h159 => ?_)
    exact hq _ _ ((zSm.rf.tr f14 rfl rfl).tr f15 rfl rfl) h159
theorem ffm_reach {s0 : zS} {a0 : Int} {a1 : Int} {a2 : Int} {a3 : Int} {Q Q' : Int → zS → Prop} (hw : wr_reach s0 a0 a1 a2 a3 Q) (hq : ∀ (e : Int) (A' : zS), zSm s0 A' [25, 26, 27, 28, 29, 30, 31, 32, 33, 34, 35, 36, 39, 40, 41, 42, 46, 47] [24, 37, 38, 43, 44, 45] → Q e A' → Q' e A') : wr_reach s0 a0 a1 a2 a3 Q' := by
  unfold wr_reach at hw ⊢
  refine ⟨fun c1 => ?_, fun c1 => ?_⟩
  · have h2 := hw.1 c1
    exact ffj_reach_22 (fun e A' f q => hq e A' (zSm.rf.tr f rfl rfl) q)  h2
  · have h3 := hw.2 c1
    refine ⟨fun c4 => ?_, fun c4 => ?_⟩
    · have h5 := h3.1 c4
      exact ffj_reach_22 (fun e A' f q => hq e A' (zSm.rf.tr f rfl rfl) q)  h5
    · have h6 := h3.2 c4
      refine ffm_reachE h6 (fun r7 s8 f1 h12 => ?_)
      obtain ⟨o13, h14⟩ := h12
      refine ⟨o13, ?_⟩
      exact hq _ _ (zSm.rf.tr f1 rfl rfl) h14
theorem ffb_parse_38 {Q Q' : Int → zS → Prop} {k38 k38' : zS → Prop} {s0 : zS}  (hq : ∀ (e : Int) (A' : zS), zSm s0 A' [25, 26, 27, 28, 29, 30, 31, 32, 33, 34, 35, 36, 39, 40, 41, 42, 46, 47] [24, 37, 38, 43, 44, 45] → Q e A' → Q' e A') (fk38 : ∀ (A' : zS), zSm s0 A' [25, 26, 27, 28, 29, 30, 31, 32, 33, 34, 35, 36, 39, 40, 41, 42, 46, 47] [24, 37, 38, 43, 44, 45] → k38 A'  → k38' A' ) (hw : wr_parse_38B Q k38 s0 ) : wr_parse_38B Q' k38' s0  := by
  unfold wr_parse_38B at hw ⊢
  refine ⟨fun c1 => ?_, fun c1 => ?_⟩
  · have h2 := hw.1 c1
    refine ffm_shut h2 (fun r3 s4 f1 h8 => ?_)
    exact hq _ _ (zSm.rf.tr f1 rfl rfl) h8
  · have h9 := hw.2 c1
    obtain ⟨o10, h11⟩ := h9
    refine ⟨o10, ?_⟩
    obtain ⟨o14, h15⟩ := h11
    refine ⟨o14, ?_⟩
    obtain ⟨o16, h17⟩ := h15
    refine ⟨o16, ?_⟩
    obtain ⟨o18, h19⟩ := h17
    refine ⟨o18, ?_⟩
    obtain ⟨o20, h21⟩ := h19
    refine ⟨o20, ?_⟩
    obtain ⟨o22, h23⟩ := h21
    refine ⟨o22, ?_⟩
    obtain ⟨o24, h25⟩ := h23
    refine ⟨o24, ?_⟩
    obtain ⟨o26, h27⟩ := h25
    refine ⟨o26, ?_⟩
    obtain ⟨o28, h29⟩ := h27
    refine ⟨o28, ?_⟩
    refine ffm_reach h29 (fun r30 s31 f2 h35 => ?_)
    refine ⟨fun c36 => ?_, fun c36 => ?_⟩
    · have h37 := h35.1 c36
      exact fk38 _  ((zSm.rf.pv rfl).tr f2 rfl rfl) h37
    · have h38 := h35.2 c36
      exact hq _ _ ((zSm.rf.pv rfl).tr f2 rfl rfl) h38
theorem ffl_parse_380 {Q Q' : Int → zS → Prop}  : ∀ (m : Nat) (s0 : zS), (∀ (e : Int) (A' : zS), zSm s0 A' [25, 26, 27, 28, 29, 30, 31, 32, 33, 34, 35, 36, 39, 40, 41, 42, 46, 47] [24, 37, 38, 43, 44, 45] → Q e A' → Q' e A') → wr_parse_38 Q  m s0  → wr_parse_38 Q'  m s0  := by
  intro m
  induction m with
  | zero => intro s0  hq  hw; exact hw
  | succ m ih => intro s0  hq  hw; exact ffb_parse_38 hq  (fun A'  f1 q => ih A'  (fun e A' f q => hq e A' (f1.tr f rfl rfl) q)  q) hw
theorem ffm_parse {s0 : zS}  {Q Q' : Int → zS → Prop} (hw : wr_parse s0  Q) (hq : ∀ (e : Int) (A' : zS), zSm s0 A' [25, 26, 27, 28, 29, 30, 31, 32, 33, 34, 35, 36, 39, 40, 41, 42, 46, 47] [24, 37, 38, 43, 44, 45] → Q e A' → Q' e A') : wr_parse s0  Q' := by
  unfold wr_parse at hw ⊢
  refine ffm_goal hw (fun s14 f1 h18 => ?_)
  obtain ⟨m19, h20⟩ := h18
  exact ⟨m19, ffl_parse_380 m19 _  (fun e A' f q => hq e A' ((((((((zSm.rf.pv rfl).pv rfl).pv rfl).pv rfl).pv rfl).pv rfl).tr f1 rfl rfl).tr f rfl rfl) q)  h20⟩
theorem ffm_fault {s0 : zS} {a0 : Int} {a1 : Int} {Q Q' : zS → Prop} (hw : wr_fault s0 a0 a1 Q) (hq : ∀ (A' : zS), zSm s0 A' [] [12, 13] → Q A' → Q' A') : wr_fault s0 a0 a1 Q' := by
  unfold wr_fault at hw ⊢
  refine ⟨fun c1 => ?_, fun c1 => ?_⟩
  · have h2 := hw.1 c1
    exact hq _ ((zSm.rf.pv rfl).pv rfl) h2
  · have h7 := hw.2 c1
    refine ⟨fun c8 => ?_, fun c8 => ?_⟩
    · have h9 := h7.1 c8
      exact hq _ zSm.rf h9
    · have h10 := h7.2 c8
      refine ⟨fun c11 => ?_, fun c11 => ?_⟩
      · have h12 := h10.1 c11
        exact hq _ ((zSm.rf.pv rfl).pv rfl) h12
      · have h17 := h10.2 c11
        refine ⟨fun c18 => ?_, fun c18 => ?_⟩
        · have h19 := h17.1 c18
          exact hq _ ((zSm.rf.pv rfl).pv rfl) h19
        · have h24 := h17.2 c18
          exact hq _ zSm.rf h24
theorem ffm_place {s0 : zS} {a0 : Int} {Q Q' : Int → zS → Prop} (hw : wr_place s0 a0 Q) (hq : ∀ (e : Int) (A' : zS), zSm s0 A' [] [] → Q e A' → Q' e A') : wr_place s0 a0 Q' := by
  unfold wr_place at hw ⊢
  obtain ⟨o1, h2⟩ := hw
  refine ⟨o1, ?_⟩
  obtain ⟨o3, h4⟩ := h2
  refine ⟨o3, ?_⟩
  exact hq _ _ zSm.rf h4
theorem ffb_means_7 {Q Q' : Int → zS → Prop} {k7 k7' : zS → Int → Int → Prop} {s0 : zS} {x1 : Int} {x2 : Int} (hq : ∀ (e : Int) (A' : zS), zSm s0 A' [] [] → Q e A' → Q' e A') (fk7 : ∀ (A' : zS) (x0 : Int) (x1 : Int), zSm s0 A' [] [] → k7 A' x0 x1 → k7' A' x0 x1) (hw : wr_means_7B Q k7 s0 x1 x2) : wr_means_7B Q' k7' s0 x1 x2 := by
  unfold wr_means_7B at hw ⊢
  refine ⟨fun c1 => ?_, fun c1 => ?_⟩
  · have h2 := hw.1 c1
    exact hq _ _ zSm.rf h2
  · have h3 := hw.2 c1
    obtain ⟨o4, h5⟩ := h3
    refine ⟨o4, ?_⟩
    obtain ⟨o6, h7⟩ := h5
    refine ⟨o6, ?_⟩
    refine ⟨fun c8 => ?_, fun c8 => ?_⟩
    · have h9 := h7.1 c8
      obtain ⟨o10, h11⟩ := h9
      refine ⟨o10, ?_⟩
      exact fk7 _ _ _ zSm.rf h11
    · have h12 := h7.2 c8
      exact hq _ _ zSm.rf h12
theorem ffl_means_70 {Q Q' : Int → zS → Prop}  : ∀ (m : Nat) (s0 : zS) (x1 : Int) (x2 : Int), (∀ (e : Int) (A' : zS), zSm s0 A' [] [] → Q e A' → Q' e A') → wr_means_7 Q  m s0 x1 x2 → wr_means_7 Q'  m s0 x1 x2 := by
  intro m
  induction m with
  | zero => intro s0 x1 x2 hq  hw; exact hw
  | succ m ih => intro s0 x1 x2 hq  hw; exact ffb_means_7 hq  (fun A' y0 y1 f1 q => ih A' y0 y1 (fun e A' f q => hq e A' (f1.tr f rfl rfl) q)  q) hw
theorem ffm_means {s0 : zS} {a0 : Int} {Q Q' : Int → zS → Prop} (hw : wr_means s0 a0 Q) (hq : ∀ (e : Int) (A' : zS), zSm s0 A' [] [] → Q e A' → Q' e A') : wr_means s0 a0 Q' := by
  unfold wr_means at hw ⊢
  obtain ⟨o1, h2⟩ := hw
  refine ⟨o1, ?_⟩
  obtain ⟨m3, h4⟩ := h2
  exact ⟨m3, ffl_means_70 m3 _ _ _ (fun e A' f q => hq e A' (zSm.rf.tr f rfl rfl) q)  h4⟩
theorem ffm_entry {s0 : zS} {a0 : Int} {a1 : Int} {a2 : Int} {a3 : Int} {a4 : Int} {Q Q' : Int → zS → Prop} (hw : wr_entry s0 a0 a1 a2 a3 a4 Q) (hq : ∀ (e : Int) (A' : zS), zSm s0 A' [50, 51, 52, 53, 54] [49] → Q e A' → Q' e A') : wr_entry s0 a0 a1 a2 a3 a4 Q' := by
  unfold wr_entry at hw ⊢
  obtain ⟨o1, h2⟩ := hw
  refine ⟨o1, ?_⟩
  obtain ⟨o3, h4⟩ := h2
  refine ⟨o3, ?_⟩
  obtain ⟨o7, h8⟩ := h4
  refine ⟨o7, ?_⟩
  obtain ⟨o9, h10⟩ := h8
  refine ⟨o9, ?_⟩
  obtain ⟨o13, h14⟩ := h10
  refine ⟨o13, ?_⟩
  obtain ⟨o15, h16⟩ := h14
  refine ⟨o15, ?_⟩
  obtain ⟨o19, h20⟩ := h16
  refine ⟨o19, ?_⟩
  obtain ⟨o21, h22⟩ := h20
  refine ⟨o21, ?_⟩
  obtain ⟨o25, h26⟩ := h22
  refine ⟨o25, ?_⟩
  obtain ⟨o27, h28⟩ := h26
  refine ⟨o27, ?_⟩
  obtain ⟨o31, h32⟩ := h28
  refine ⟨o31, ?_⟩
  obtain ⟨o35, h36⟩ := h32
  refine ⟨o35, ?_⟩
  exact hq _ _ ((((((zSm.rf.pa rfl).pa rfl).pa rfl).pa rfl).pa rfl).pv rfl) h36
theorem ffm_tokenOfTwice {s0 : zS} {a0 : Int} {a1 : Int} {Q Q' : Int → zS → Prop} (hw : wr_tokenOfTwice s0 a0 a1 Q) (hq : ∀ (e : Int) (A' : zS), zSm s0 A' [] [] → Q e A' → Q' e A') : wr_tokenOfTwice s0 a0 a1 Q' := by
  unfold wr_tokenOfTwice at hw ⊢
  obtain ⟨o1, h2⟩ := hw
  refine ⟨o1, ?_⟩
  obtain ⟨o3, h4⟩ := h2
  refine ⟨o3, ?_⟩
  refine ⟨fun c5 => ?_, fun c5 => ?_⟩
  · have h6 := h4.1 c5
    refine ffm_place h6 (fun r7 s8 f1 h12 => ?_)
    exact hq _ _ (zSm.rf.tr f1 rfl rfl) h12
  · have h13 := h4.2 c5
    obtain ⟨o14, h15⟩ := h13
    refine ⟨o14, ?_⟩
    obtain ⟨o16, h17⟩ := h15
    refine ⟨o16, ?_⟩
    refine ffm_place h17 (fun r18 s19 f2 h23 => ?_)
    exact hq _ _ (zSm.rf.tr f2 rfl rfl) h23
theorem ffb_declare_8 {Q Q' : Int → zS → Prop} {k8 k8' : zS → Int → Int → Int → Int → Int → Int → Int → Prop} {s0 : zS} {x1 : Int} {x2 : Int} {x3 : Int} {x4 : Int} {x5 : Int} {x6 : Int} {x7 : Int} (hq : ∀ (e : Int) (A' : zS), zSm s0 A' [50, 51, 52, 53, 54, 57] [12, 13, 49] → Q e A' → Q' e A') (fk8 : ∀ (A' : zS) (x0 : Int) (x1 : Int) (x2 : Int) (x3 : Int) (x4 : Int) (x5 : Int) (x6 : Int), zSm s0 A' [50, 51, 52, 53, 54, 57] [12, 13, 49] → k8 A' x0 x1 x2 x3 x4 x5 x6 → k8' A' x0 x1 x2 x3 x4 x5 x6) (hw : wr_declare_8B Q k8 s0 x1 x2 x3 x4 x5 x6 x7) : wr_declare_8B Q' k8' s0 x1 x2 x3 x4 x5 x6 x7 := by
  unfold wr_declare_8B at hw ⊢
  refine ⟨fun c1 => ?_, fun c1 => ?_⟩
  · have h2 := hw.1 c1
    refine ffm_entry h2 (fun r3 s4 f1 h8 => ?_)
    obtain ⟨o9, h10⟩ := h8
    refine ⟨o9, ?_⟩
    obtain ⟨o11, h12⟩ := h10
    refine ⟨o11, ?_⟩
    exact hq _ _ ((zSm.rf.tr f1 rfl rfl).pa rfl) h12
  · have h15 := hw.2 c1
    obtain ⟨o16, h17⟩ := h15
    refine ⟨o16, ?_⟩
    obtain ⟨o18, h19⟩ := h17
    refine ⟨o18, ?_⟩
    refine ⟨fun c20 => ?_, fun c20 => ?_⟩
    · have h21 := h19.1 c20
      obtain ⟨o22, h23⟩ := h21
      refine ⟨o22, ?_⟩
      exact fk8 _ _ _ _ _ _ _ _ zSm.rf h23
    · have h24 := h19.2 c20
      refine ffm_tokenOfTwice h24 (fun r25 s26 f2 h30 => ?_)
      refine ffm_fault h30 (fun s32 f3 h36 => ?_)
      obtain ⟨o37, h38⟩ := h36
      refine ⟨o37, ?_⟩
      exact fk8 _ _ _ _ _ _ _ _ ((zSm.rf.tr f2 rfl rfl).tr f3 rfl rfl) h38
theorem ffl_declare_80 {Q Q' : Int → zS → Prop}  : ∀ (m : Nat) (s0 : zS) (x1 : Int) (x2 : Int) (x3 : Int) (x4 : Int) (x5 : Int) (x6 : Int) (x7 : Int), (∀ (e : Int) (A' : zS), zSm s0 A' [50, 51, 52, 53, 54, 57] [12, 13, 49] → Q e A' → Q' e A') → wr_declare_8 Q  m s0 x1 x2 x3 x4 x5 x6 x7 → wr_declare_8 Q'  m s0 x1 x2 x3 x4 x5 x6 x7 := by
  intro m
  induction m with
  | zero => intro s0 x1 x2 x3 x4 x5 x6 x7 hq  hw; exact hw
  | succ m ih => intro s0 x1 x2 x3 x4 x5 x6 x7 hq  hw; exact ffb_declare_8 hq  (fun A' y0 y1 y2 y3 y4 y5 y6 f1 q => ih A' y0 y1 y2 y3 y4 y5 y6 (fun e A' f q => hq e A' (f1.tr f rfl rfl) q)  q) hw
theorem ffm_declare {s0 : zS} {a0 : Int} {a1 : Int} {a2 : Int} {a3 : Int} {a4 : Int} {a5 : Int} {Q Q' : Int → zS → Prop} (hw : wr_declare s0 a0 a1 a2 a3 a4 a5 Q) (hq : ∀ (e : Int) (A' : zS), zSm s0 A' [50, 51, 52, 53, 54, 57] [12, 13, 49] → Q e A' → Q' e A') : wr_declare s0 a0 a1 a2 a3 a4 a5 Q' := by
  unfold wr_declare at hw ⊢
  obtain ⟨o1, h2⟩ := hw
  refine ⟨o1, ?_⟩
  obtain ⟨m3, h4⟩ := h2
  exact ⟨m3, ffl_declare_80 m3 _ _ _ _ _ _ _ _ (fun e A' f q => hq e A' (zSm.rf.tr f rfl rfl) q)  h4⟩
theorem ffj_isKName_68 {Q Q' : Int → zS → Prop}  {s0 : zS} {x2 : Int} (hq : ∀ (e : Int) (A' : zS), zSm s0 A' [] [12, 13] → Q e A' → Q' e A')  (hw : wr_isKName_68 Q  s0 x2) : wr_isKName_68 Q'  s0 x2 := by
  unfold wr_isKName_68 at hw ⊢
  refine ⟨fun c1 => ?_, fun c1 => ?_⟩
  · have h2 := hw.1 c1
    exact hq _ _ zSm.rf h2
  · have h3 := hw.2 c1
    obtain ⟨o4, h5⟩ := h3
    refine ⟨o4, ?_⟩
    obtain ⟨o6, h7⟩ := h5
    refine ⟨o6, ?_⟩
    refine ⟨fun c8 => ?_, fun c8 => ?_⟩
    · have h9 := h7.1 c8
      exact hq _ _ zSm.rf h9
    · have h10 := h7.2 c8
      obtain ⟨o11, h12⟩ := h10
      refine ⟨o11, ?_⟩
      obtain ⟨o13, h14⟩ := h12
      refine ⟨o13, ?_⟩
      refine ⟨fun c15 => ?_, fun c15 => ?_⟩
      · have h16 := h14.1 c15
        exact hq _ _ zSm.rf h16
      · have h17 := h14.2 c15
        exact hq _ _ zSm.rf h17
theorem ffm_isKName {s0 : zS} {a0 : Int} {Q Q' : Int → zS → Prop} (hw : wr_isKName s0 a0 Q) (hq : ∀ (e : Int) (A' : zS), zSm s0 A' [] [12, 13] → Q e A' → Q' e A') : wr_isKName s0 a0 Q' := by
  unfold wr_isKName at hw ⊢
  obtain ⟨o1, h2⟩ := hw
  refine ⟨o1, ?_⟩
  obtain ⟨o3, h4⟩ := h2
  refine ⟨o3, ?_⟩
  refine ffm_means h4 (fun r5 s6 f1 h10 => ?_)
  refine ⟨fun c11 => ?_, fun c11 => ?_⟩
  · have h12 := h10.1 c11
    obtain ⟨o13, h14⟩ := h12
    refine ⟨o13, ?_⟩
    obtain ⟨o15, h16⟩ := h14
    refine ⟨o15, ?_⟩
    refine ⟨fun c17 => ?_, fun c17 => ?_⟩
    · have h18 := h16.1 c17
      obtain ⟨o19, h20⟩ := h18
      refine ⟨o19, ?_⟩
      obtain ⟨o21, h22⟩ := h20
      refine ⟨o21, ?_⟩
      refine ffm_place h22 (fun r23 s24 f2 h28 => ?_)
      refine ffm_fault h28 (fun s30 f3 h34 => ?_)
      exact ffj_isKName_68 (fun e A' f q => hq e A' ((((zSm.rf.tr f1 rfl rfl).tr f2 rfl rfl).tr f3 rfl rfl).tr f rfl rfl) q)  h34
    · have h35 := h16.2 c17
      obtain ⟨o36, h37⟩ := h35
      refine ⟨o36, ?_⟩
      obtain ⟨o38, h39⟩ := h37
      refine ⟨o38, ?_⟩
      refine ⟨fun c40 => ?_, fun c40 => ?_⟩
      · have h41 := h39.1 c40
        exact ffj_isKName_68 (fun e A' f q => hq e A' ((zSm.rf.tr f1 rfl rfl).tr f rfl rfl) q)  h41
      · have h42 := h39.2 c40
        obtain ⟨o43, h44⟩ := h42
        refine ⟨o43, ?_⟩
        obtain ⟨o45, h46⟩ := h44
        refine ⟨o45, ?_⟩
        refine ffm_place h46 (fun r47 s48 f4 h52 => ?_)
        refine ffm_fault h52 (fun s54 f5 h58 => ?_)
        exact ffj_isKName_68 (fun e A' f q => hq e A' ((((zSm.rf.tr f1 rfl rfl).tr f4 rfl rfl).tr f5 rfl rfl).tr f rfl rfl) q)  h58
  · have h59 := h10.2 c11
    obtain ⟨o60, h61⟩ := h59
    refine ⟨o60, ?_⟩
    obtain ⟨o62, h63⟩ := h61
    refine ⟨o62, ?_⟩
    refine ffm_place h63 (fun r64 s65 f6 h69 => ?_)
    refine ffm_fault h69 (fun s71 f7 h75 => ?_)
    exact ffj_isKName_68 (fun e A' f q => hq e A' ((((zSm.rf.tr f1 rfl rfl).tr f6 rfl rfl).tr f7 rfl rfl).tr f rfl rfl) q)  h75
theorem ffb_isK_179 {Q Q' : Int → zS → Prop} {k11 k11' : zS → Int → Int → Prop} {k179 k179' : zS → Int → Int → Int → Prop} {s0 : zS} {x2 : Int} {x3 : Int} {x7 : Int} (hq : ∀ (e : Int) (A' : zS), zSm s0 A' [60] [12, 13] → Q e A' → Q' e A') (fk11 : ∀ (A' : zS) (x0 : Int) (x1 : Int), zSm s0 A' [60] [12, 13] → k11 A' x0 x1 → k11' A' x0 x1) (fk179 : ∀ (A' : zS) (x0 : Int) (x1 : Int) (x2 : Int), zSm s0 A' [60] [12, 13] → k179 A' x0 x1 x2 → k179' A' x0 x1 x2) (hw : wr_isK_179B Q k11 k179 s0 x2 x3 x7) : wr_isK_179B Q' k11' k179' s0 x2 x3 x7 := by
  unfold wr_isK_179B at hw ⊢
  refine ⟨fun c1 => ?_, fun c1 => ?_⟩
  · have h2 := hw.1 c1
    exact fk11 _ _ _ zSm.rf h2
  · have h3 := hw.2 c1
    obtain ⟨o4, h5⟩ := h3
    refine ⟨o4, ?_⟩
    obtain ⟨o6, h7⟩ := h5
    refine ⟨o6, ?_⟩
    obtain ⟨o10, h11⟩ := h7
    refine ⟨o10, ?_⟩
    obtain ⟨o12, h13⟩ := h11
    refine ⟨o12, ?_⟩
    obtain ⟨o14, h15⟩ := h13
    refine ⟨o14, ?_⟩
    exact fk179 _ _ _ _ (zSm.rf.pa rfl) h15
theorem ffl_isK_1790 {Q Q' : Int → zS → Prop} {k11 k11' : zS → Int → Int → Prop} : ∀ (m : Nat) (s0 : zS) (x2 : Int) (x3 : Int) (x7 : Int), (∀ (e : Int) (A' : zS), zSm s0 A' [60] [12, 13] → Q e A' → Q' e A') → (∀ (A' : zS) (x0 : Int) (x1 : Int), zSm s0 A' [60] [12, 13] → k11 A' x0 x1 → k11' A' x0 x1) → wr_isK_179 Q k11 m s0 x2 x3 x7 → wr_isK_179 Q' k11' m s0 x2 x3 x7 := by
  intro m
  induction m with
  | zero => intro s0 x2 x3 x7 hq fk11 hw; exact hw
  | succ m ih => intro s0 x2 x3 x7 hq fk11 hw; exact ffb_isK_179 hq fk11 (fun A' y0 y1 y2 f1 q => ih A' y0 y1 y2 (fun e A' f q => hq e A' (f1.tr f rfl rfl) q) (fun A' z0 z1 f q => fk11 A' z0 z1 (f1.tr f rfl rfl) q) q) hw
theorem ffj_isK_136 {Q Q' : Int → zS → Prop} {k11 k11' : zS → Int → Int → Prop} {s0 : zS} {x2 : Int} {x3 : Int} {x4 : Int} {x5 : Int} (hq : ∀ (e : Int) (A' : zS), zSm s0 A' [60] [12, 13] → Q e A' → Q' e A') (fk11 : ∀ (A' : zS) (x0 : Int) (x1 : Int), zSm s0 A' [60] [12, 13] → k11 A' x0 x1 → k11' A' x0 x1) (hw : wr_isK_136 Q k11 s0 x2 x3 x4 x5) : wr_isK_136 Q' k11' s0 x2 x3 x4 x5 := by
  unfold wr_isK_136 at hw ⊢
  refine ⟨fun c1 => ?_, fun c1 => ?_⟩
  · have h2 := hw.1 c1
    refine ⟨fun c3 => ?_, fun c3 => ?_⟩
    · have h4 := h2.1 c3
      obtain ⟨o5, h6⟩ := h4
      refine ⟨o5, ?_⟩
      obtain ⟨o7, h8⟩ := h6
      refine ⟨o7, ?_⟩
      obtain ⟨m9, h10⟩ := h8
      exact ⟨m9, ffl_isK_1790 m9 _ _ _ _ (fun e A' f q => hq e A' (zSm.rf.tr f rfl rfl) q) (fun A' x0 x1 f q => fk11 A' x0 x1 (zSm.rf.tr f rfl rfl) q) h10⟩
    · have h11 := h2.2 c3
      exact fk11 _ _ _ zSm.rf h11
  · have h12 := hw.2 c1
    refine ffm_isKName h12 (fun r13 s14 f1 h18 => ?_)
    refine ⟨fun c19 => ?_, fun c19 => ?_⟩
    · have h20 := h18.1 c19
      refine ⟨fun c21 => ?_, fun c21 => ?_⟩
      · have h22 := h20.1 c21
        obtain ⟨o23, h24⟩ := h22
        refine ⟨o23, ?_⟩
        obtain ⟨o25, h26⟩ := h24
        refine ⟨o25, ?_⟩
        obtain ⟨m27, h28⟩ := h26
        exact ⟨m27, ffl_isK_1790 m27 _ _ _ _ (fun e A' f q => hq e A' ((zSm.rf.tr f1 rfl rfl).tr f rfl rfl) q) (fun A' x0 x1 f q => fk11 A' x0 x1 ((zSm.rf.tr f1 rfl rfl).tr f rfl rfl) q) h28⟩
      · have h29 := h20.2 c21
        exact fk11 _ _ _ (zSm.rf.tr f1 rfl rfl) h29
    · have h30 := h18.2 c19
      refine ⟨fun c31 => ?_, fun c31 => ?_⟩
      · have h32 := h30.1 c31
        refine ⟨fun c33 => ?_, fun c33 => ?_⟩
        · have h34 := h32.1 c33
          obtain ⟨o35, h36⟩ := h34
          refine ⟨o35, ?_⟩
          obtain ⟨o37, h38⟩ := h36
          refine ⟨o37, ?_⟩
          obtain ⟨m39, h40⟩ := h38
          exact ⟨m39, ffl_isK_1790 m39 _ _ _ _ (fun e A' f q => hq e A' ((zSm.rf.tr f1 rfl rfl).tr f rfl rfl) q) (fun A' x0 x1 f q => fk11 A' x0 x1 ((zSm.rf.tr f1 rfl rfl).tr f rfl rfl) q) h40⟩
        · have h41 := h32.2 c33
          exact fk11 _ _ _ (zSm.rf.tr f1 rfl rfl) h41
      · have h42 := h30.2 c31
        refine ⟨fun c43 => ?_, fun c43 => ?_⟩
        · have h44 := h42.1 c43
          obtain ⟨o45, h46⟩ := h44
          refine ⟨o45, ?_⟩
          obtain ⟨o47, h48⟩ := h46
          refine ⟨o47, ?_⟩
          obtain ⟨m49, h50⟩ := h48
          exact ⟨m49, ffl_isK_1790 m49 _ _ _ _ (fun e A' f q => hq e A' ((zSm.rf.tr f1 rfl rfl).tr f rfl rfl) q) (fun A' x0 x1 f q => fk11 A' x0 x1 ((zSm.rf.tr f1 rfl rfl).tr f rfl rfl) q) h50⟩
        · have h51 := h42.2 c43
          exact fk11 _ _ _ (zSm.rf.tr f1 rfl rfl) h51
theorem ffj_isK_105 {Q Q' : Int → zS → Prop} {k11 k11' : zS → Int → Int → Prop} {s0 : zS} {x2 : Int} {x3 : Int} {x4 : Int} {x5 : Int} (hq : ∀ (e : Int) (A' : zS), zSm s0 A' [60] [12, 13] → Q e A' → Q' e A') (fk11 : ∀ (A' : zS) (x0 : Int) (x1 : Int), zSm s0 A' [60] [12, 13] → k11 A' x0 x1 → k11' A' x0 x1) (hw : wr_isK_105 Q k11 s0 x2 x3 x4 x5) : wr_isK_105 Q' k11' s0 x2 x3 x4 x5 := by
  unfold wr_isK_105 at hw ⊢
  obtain ⟨o2, h3⟩ := hw
  refine ⟨o2, ?_⟩
  obtain ⟨o4, h5⟩ := h3
  refine ⟨o4, ?_⟩
  refine ffm_place h5 (fun r6 s7 f1 h11 => ?_)
  refine ffm_fault h11 (fun s13 f2 h17 => ?_)
  exact ffj_isK_136 (fun e A' f q => hq e A' (((zSm.rf.tr f1 rfl rfl).tr f2 rfl rfl).tr f rfl rfl) q) (fun A' x0 x1 f q => fk11 A' x0 x1 (((zSm.rf.tr f1 rfl rfl).tr f2 rfl rfl).tr f rfl rfl) q) h17
theorem ffb_isK_11 {Q Q' : Int → zS → Prop} {k11 k11' : zS → Int → Int → Prop} {s0 : zS} {x2 : Int} {x3 : Int} (hq : ∀ (e : Int) (A' : zS), zSm s0 A' [60] [12, 13] → Q e A' → Q' e A') (fk11 : ∀ (A' : zS) (x0 : Int) (x1 : Int), zSm s0 A' [60] [12, 13] → k11 A' x0 x1 → k11' A' x0 x1) (hw : wr_isK_11B Q k11 s0 x2 x3) : wr_isK_11B Q' k11' s0 x2 x3 := by
  unfold wr_isK_11B at hw ⊢
  refine ⟨fun c1 => ?_, fun c1 => ?_⟩
  · have h2 := hw.1 c1
    obtain ⟨o3, h4⟩ := h2
    refine ⟨o3, ?_⟩
    exact hq _ _ zSm.rf h4
  · have h5 := hw.2 c1
    obtain ⟨o6, h7⟩ := h5
    refine ⟨o6, ?_⟩
    obtain ⟨o8, h9⟩ := h7
    refine ⟨o8, ?_⟩
    obtain ⟨o10, h11⟩ := h9
    refine ⟨o10, ?_⟩
    obtain ⟨o12, h13⟩ := h11
    refine ⟨o12, ?_⟩
    refine ⟨fun c14 => ?_, fun c14 => ?_⟩
    · have h15 := h13.1 c14
      exact ffj_isK_105 (fun e A' f q => hq e A' (zSm.rf.tr f rfl rfl) q) (fun A' x0 x1 f q => fk11 A' x0 x1 (zSm.rf.tr f rfl rfl) q) h15
    · have h16 := h13.2 c14
      refine ⟨fun c17 => ?_, fun c17 => ?_⟩
      · have h18 := h16.1 c17
        exact ffj_isK_105 (fun e A' f q => hq e A' (zSm.rf.tr f rfl rfl) q) (fun A' x0 x1 f q => fk11 A' x0 x1 (zSm.rf.tr f rfl rfl) q) h18
      · have h19 := h16.2 c17
        refine ⟨fun c20 => ?_, fun c20 => ?_⟩
        · have h21 := h19.1 c20
          exact ffj_isK_105 (fun e A' f q => hq e A' (zSm.rf.tr f rfl rfl) q) (fun A' x0 x1 f q => fk11 A' x0 x1 (zSm.rf.tr f rfl rfl) q) h21
        · have h22 := h19.2 c20
          refine ⟨fun c23 => ?_, fun c23 => ?_⟩
          · have h24 := h22.1 c23
            exact ffj_isK_105 (fun e A' f q => hq e A' (zSm.rf.tr f rfl rfl) q) (fun A' x0 x1 f q => fk11 A' x0 x1 (zSm.rf.tr f rfl rfl) q) h24
          · have h25 := h22.2 c23
            refine ⟨fun c26 => ?_, fun c26 => ?_⟩
            · have h27 := h25.1 c26
              exact ffj_isK_105 (fun e A' f q => hq e A' (zSm.rf.tr f rfl rfl) q) (fun A' x0 x1 f q => fk11 A' x0 x1 (zSm.rf.tr f rfl rfl) q) h27
            · have h28 := h25.2 c26
              refine ⟨fun c29 => ?_, fun c29 => ?_⟩
              · have h30 := h28.1 c29
                exact ffj_isK_105 (fun e A' f q => hq e A' (zSm.rf.tr f rfl rfl) q) (fun A' x0 x1 f q => fk11 A' x0 x1 (zSm.rf.tr f rfl rfl) q) h30
              · have h31 := h28.2 c29
                refine ⟨fun c32 => ?_, fun c32 => ?_⟩
                · have h33 := h31.1 c32
                  exact ffj_isK_136 (fun e A' f q => hq e A' (zSm.rf.tr f rfl rfl) q) (fun A' x0 x1 f q => fk11 A' x0 x1 (zSm.rf.tr f rfl rfl) q) h33
                · have h35 := h31.2 c32
                  obtain ⟨o36, h37⟩ := h35
                  refine ⟨o36, ?_⟩
                  obtain ⟨o38, h39⟩ := h37
                  refine ⟨o38, ?_⟩
                  refine ⟨fun c40 => ?_, fun c40 => ?_⟩
                  · have h41 := h39.1 c40
                    exact ffj_isK_105 (fun e A' f q => hq e A' (zSm.rf.tr f rfl rfl) q) (fun A' x0 x1 f q => fk11 A' x0 x1 (zSm.rf.tr f rfl rfl) q) h41
                  · have h42 := h39.2 c40
                    obtain ⟨o43, h44⟩ := h42
                    refine ⟨o43, ?_⟩
                    obtain ⟨o45, h46⟩ := h44
                    refine ⟨o45, ?_⟩
                    refine ⟨fun c47 => ?_, fun c47 => ?_⟩
                    · have h48 := h46.1 c47
                      exact ffj_isK_136 (fun e A' f q => hq e A' (zSm.rf.tr f rfl rfl) q) (fun A' x0 x1 f q => fk11 A' x0 x1 (zSm.rf.tr f rfl rfl) q) h48
                    · have h50 := h46.2 c47
                      exact ffj_isK_105 (fun e A' f q => hq e A' (zSm.rf.tr f rfl rfl) q) (fun A' x0 x1 f q => fk11 A' x0 x1 (zSm.rf.tr f rfl rfl) q) h50
theorem ffl_isK_110 {Q Q' : Int → zS → Prop}  : ∀ (m : Nat) (s0 : zS) (x2 : Int) (x3 : Int), (∀ (e : Int) (A' : zS), zSm s0 A' [60] [12, 13] → Q e A' → Q' e A') → wr_isK_11 Q  m s0 x2 x3 → wr_isK_11 Q'  m s0 x2 x3 := by
  intro m
  induction m with
  | zero => intro s0 x2 x3 hq  hw; exact hw
  | succ m ih => intro s0 x2 x3 hq  hw; exact ffb_isK_11 hq  (fun A' y0 y1 f1 q => ih A' y0 y1 (fun e A' f q => hq e A' (f1.tr f rfl rfl) q)  q) hw
theorem ffm_isK {s0 : zS} {a0 : Int} {Q Q' : Int → zS → Prop} (hw : wr_isK s0 a0 Q) (hq : ∀ (e : Int) (A' : zS), zSm s0 A' [60] [12, 13] → Q e A' → Q' e A') : wr_isK s0 a0 Q' := by
  unfold wr_isK at hw ⊢
  obtain ⟨m3, h4⟩ := hw
  exact ⟨m3, ffl_isK_110 m3 _ _ _ (fun e A' f q => hq e A' ((zSm.rf.pa rfl).tr f rfl rfl) q)  h4⟩
theorem ffm_shifted {s0 : zS} {a0 : Int} {a1 : Int} {a2 : Int} {Q Q' : Int → zS → Prop} (hw : wr_shifted s0 a0 a1 a2 Q) (hq : ∀ (e : Int) (A' : zS), zSm s0 A' [] [] → Q e A' → Q' e A') : wr_shifted s0 a0 a1 a2 Q' := by
  unfold wr_shifted at hw ⊢
  refine ⟨fun c1 => ?_, fun c1 => ?_⟩
  · have h2 := hw.1 c1
    exact hq _ _ zSm.rf h2
  · have h3 := hw.2 c1
    refine ⟨fun c4 => ?_, fun c4 => ?_⟩
    · have h5 := h3.1 c4
      refine ⟨fun c6 => ?_, fun c6 => ?_⟩
      · have h7 := h5.1 c6
        exact hq _ _ zSm.rf h7
      · have h8 := h5.2 c6
        exact hq _ _ zSm.rf h8
    · have h9 := h3.2 c4
      exact hq _ _ zSm.rf h9
theorem ffm_quotient {s0 : zS} {a0 : Int} {a1 : Int} {Q Q' : Int → zS → Prop} (hw : wr_quotient s0 a0 a1 Q) (hq : ∀ (e : Int) (A' : zS), zSm s0 A' [] [] → Q e A' → Q' e A') : wr_quotient s0 a0 a1 Q' := by
  unfold wr_quotient at hw ⊢
  refine ⟨fun c1 => ?_, fun c1 => ?_⟩
  · have h2 := hw.1 c1
    obtain ⟨o3, h4⟩ := h2
    refine ⟨o3, ?_⟩
    exact hq _ _ zSm.rf h4
  · have h5 := hw.2 c1
    intro z6 e7 R8
    have h9 := h5 z6 e7 R8
    exact hq _ _ zSm.rf h9
theorem ffm_remainder {s0 : zS} {a0 : Int} {a1 : Int} {Q Q' : Int → zS → Prop} (hw : wr_remainder s0 a0 a1 Q) (hq : ∀ (e : Int) (A' : zS), zSm s0 A' [] [] → Q e A' → Q' e A') : wr_remainder s0 a0 a1 Q' := by
  unfold wr_remainder at hw ⊢
  refine ⟨fun c1 => ?_, fun c1 => ?_⟩
  · have h2 := hw.1 c1
    obtain ⟨o3, h4⟩ := h2
    refine ⟨o3, ?_⟩
    intro z5 e6 R7
    have h8 := h4 z5 e6 R7
    exact hq _ _ zSm.rf h8
  · have h9 := hw.2 c1
    exact hq _ _ zSm.rf h9
theorem ffm_worked {s0 : zS} {a0 : Int} {a1 : Int} {a2 : Int} {Q Q' : Int → zS → Prop} (hw : wr_worked s0 a0 a1 a2 Q) (hq : ∀ (e : Int) (A' : zS), zSm s0 A' [] [] → Q e A' → Q' e A') : wr_worked s0 a0 a1 a2 Q' := by
  unfold wr_worked at hw ⊢
  refine ⟨fun c1 => ?_, fun c1 => ?_⟩
  · have h2 := hw.1 c1
    refine ⟨fun c3 => ?_, fun c3 => ?_⟩
    · have h4 := h2.1 c3
      refine ⟨fun c5 => ?_, fun c5 => ?_⟩
      · have h6 := h4.1 c5
        refine ⟨fun c7 => ?_, fun c7 => ?_⟩
        · have h8 := h6.1 c7
          refine ⟨fun c9 => ?_, fun c9 => ?_⟩
          · have h10 := h8.1 c9
            refine ⟨fun c11 => ?_, fun c11 => ?_⟩
            · have h12 := h10.1 c11
              refine ⟨fun c13 => ?_, fun c13 => ?_⟩
              · have h14 := h12.1 c13
                refine ⟨fun c15 => ?_, fun c15 => ?_⟩
                · have h16 := h14.1 c15
                  refine ⟨fun c17 => ?_, fun c17 => ?_⟩
                  · have h18 := h16.1 c17
                    refine ⟨fun c19 => ?_, fun c19 => ?_⟩
                    · have h20 := h18.1 c19
                      refine ffm_shifted h20 (fun r21 s22 f1 h26 => ?_)
                      exact hq _ _ (zSm.rf.tr f1 rfl rfl) h26
                    · have h27 := h18.2 c19
                      refine ffm_shifted h27 (fun r28 s29 f2 h33 => ?_)
                      exact hq _ _ (zSm.rf.tr f2 rfl rfl) h33
                  · have h34 := h16.2 c17
                    exact hq _ _ zSm.rf h34
                · have h35 := h14.2 c15
                  exact hq _ _ zSm.rf h35
              · have h36 := h12.2 c13
                exact hq _ _ zSm.rf h36
            · have h37 := h10.2 c11
              exact hq _ _ zSm.rf h37
          · have h38 := h8.2 c9
            refine ffm_remainder h38 (fun r39 s40 f3 h44 => ?_)
            exact hq _ _ (zSm.rf.tr f3 rfl rfl) h44
        · have h45 := h6.2 c7
          refine ffm_quotient h45 (fun r46 s47 f4 h51 => ?_)
          exact hq _ _ (zSm.rf.tr f4 rfl rfl) h51
      · have h52 := h4.2 c5
        intro z53 e54 R55
        have h56 := h52 z53 e54 R55
        exact hq _ _ zSm.rf h56
    · have h57 := h2.2 c3
      intro z58 e59 R60
      have h61 := h57 z58 e59 R60
      exact hq _ _ zSm.rf h61
  · have h62 := hw.2 c1
    intro z63 e64 R65
    have h66 := h62 z63 e64 R65
    exact hq _ _ zSm.rf h66
theorem ffm_related {s0 : zS} {a0 : Int} {a1 : Int} {a2 : Int} {Q Q' : Int → zS → Prop} (hw : wr_related s0 a0 a1 a2 Q) (hq : ∀ (e : Int) (A' : zS), zSm s0 A' [] [] → Q e A' → Q' e A') : wr_related s0 a0 a1 a2 Q' := by
  unfold wr_related at hw ⊢
  refine ⟨fun c1 => ?_, fun c1 => ?_⟩
  · have h2 := hw.1 c1
    refine ⟨fun c3 => ?_, fun c3 => ?_⟩
    · have h4 := h2.1 c3
      refine ⟨fun c5 => ?_, fun c5 => ?_⟩
      · have h6 := h4.1 c5
        refine ⟨fun c7 => ?_, fun c7 => ?_⟩
        · have h8 := h6.1 c7
          refine ⟨fun c9 => ?_, fun c9 => ?_⟩
          · have h10 := h8.1 c9
            refine ⟨fun c11 => ?_, fun c11 => ?_⟩
            · have h12 := h10.1 c11
              exact hq _ _ zSm.rf h12
            · have h13 := h10.2 c11
              exact hq _ _ zSm.rf h13
          · have h14 := h8.2 c9
            refine ⟨fun c15 => ?_, fun c15 => ?_⟩
            · have h16 := h14.1 c15
              exact hq _ _ zSm.rf h16
            · have h17 := h14.2 c15
              exact hq _ _ zSm.rf h17
        · have h18 := h6.2 c7
          refine ⟨fun c19 => ?_, fun c19 => ?_⟩
          · have h20 := h18.1 c19
            exact hq _ _ zSm.rf h20
          · have h21 := h18.2 c19
            exact hq _ _ zSm.rf h21
      · have h22 := h4.2 c5
        refine ⟨fun c23 => ?_, fun c23 => ?_⟩
        · have h24 := h22.1 c23
          exact hq _ _ zSm.rf h24
        · have h25 := h22.2 c23
          exact hq _ _ zSm.rf h25
    · have h26 := h2.2 c3
      refine ⟨fun c27 => ?_, fun c27 => ?_⟩
      · have h28 := h26.1 c27
        exact hq _ _ zSm.rf h28
      · have h29 := h26.2 c27
        exact hq _ _ zSm.rf h29
  · have h30 := hw.2 c1
    refine ⟨fun c31 => ?_, fun c31 => ?_⟩
    · have h32 := h30.1 c31
      exact hq _ _ zSm.rf h32
    · have h33 := h30.2 c31
      exact hq _ _ zSm.rf h33
theorem ffm_signed {s0 : zS} {a0 : Int} {a1 : Int} {Q Q' : Int → zS → Prop} (hw : wr_signed s0 a0 a1 Q) (hq : ∀ (e : Int) (A' : zS), zSm s0 A' [] [] → Q e A' → Q' e A') : wr_signed s0 a0 a1 Q' := by
  unfold wr_signed at hw ⊢
  refine ⟨fun c1 => ?_, fun c1 => ?_⟩
  · have h2 := hw.1 c1
    refine ⟨fun c3 => ?_, fun c3 => ?_⟩
    · have h4 := h2.1 c3
      exact hq _ _ zSm.rf h4
    · have h5 := h2.2 c3
      exact hq _ _ zSm.rf h5
  · have h6 := hw.2 c1
    intro z7 e8 R9
    have h10 := h6 z7 e8 R9
    exact hq _ _ zSm.rf h10
theorem ffm_later {s0 : zS} {a0 : Int} {a1 : Int} {Q Q' : Int → zS → Prop} (hw : wr_later s0 a0 a1 Q) (hq : ∀ (e : Int) (A' : zS), zSm s0 A' [60, 61] [] → Q e A' → Q' e A') : wr_later s0 a0 a1 Q' := by
  unfold wr_later at hw ⊢
  obtain ⟨o1, h2⟩ := hw
  refine ⟨o1, ?_⟩
  obtain ⟨o3, h4⟩ := h2
  refine ⟨o3, ?_⟩
  obtain ⟨o7, h8⟩ := h4
  refine ⟨o7, ?_⟩
  obtain ⟨o9, h10⟩ := h8
  refine ⟨o9, ?_⟩
  obtain ⟨o13, h14⟩ := h10
  refine ⟨o13, ?_⟩
  exact hq _ _ ((zSm.rf.pa rfl).pa rfl) h14
theorem ffj_constant_84 {Q Q' : zS → Prop} {k40 k40' : zS → Int → Int → Prop} {s0 : zS} {x2 : Int} {x3 : Int} {x4 : Int} {x6 : Int} (hq : ∀ (A' : zS), zSm s0 A' [60, 61, 62] [12, 13, 58, 59] → Q A' → Q' A') (fk40 : ∀ (A' : zS) (x0 : Int) (x1 : Int), zSm s0 A' [60, 61, 62] [12, 13, 58, 59] → k40 A' x0 x1 → k40' A' x0 x1) (hw : wr_constant_84 Q k40 s0 x2 x3 x4 x6) : wr_constant_84 Q' k40' s0 x2 x3 x4 x6 := by
  unfold wr_constant_84 at hw ⊢
  refine ⟨fun c1 => ?_, fun c1 => ?_⟩
  · have h2 := hw.1 c1
    obtain ⟨o3, h4⟩ := h2
    refine ⟨o3, ?_⟩
    obtain ⟨o5, h6⟩ := h4
    refine ⟨o5, ?_⟩
    refine ffm_means h6 (fun r7 s8 f1 h12 => ?_)
    obtain ⟨o13, h14⟩ := h12
    refine ⟨o13, ?_⟩
    obtain ⟨o15, h16⟩ := h14
    refine ⟨o15, ?_⟩
    obtain ⟨o17, h18⟩ := h16
    refine ⟨o17, ?_⟩
    obtain ⟨o19, h20⟩ := h18
    refine ⟨o19, ?_⟩
    obtain ⟨o23, h24⟩ := h20
    refine ⟨o23, ?_⟩
    exact fk40 _ _ _ ((zSm.rf.tr f1 rfl rfl).pa rfl) h24
  · have h25 := hw.2 c1
    obtain ⟨o26, h27⟩ := h25
    refine ⟨o26, ?_⟩
    obtain ⟨o28, h29⟩ := h27
    refine ⟨o28, ?_⟩
    obtain ⟨o30, h31⟩ := h29
    refine ⟨o30, ?_⟩
    obtain ⟨o32, h33⟩ := h31
    refine ⟨o32, ?_⟩
    obtain ⟨o36, h37⟩ := h33
    refine ⟨o36, ?_⟩
    exact fk40 _ _ _ (zSm.rf.pa rfl) h37
theorem ffj_constant_567 {Q Q' : zS → Prop} {k40 k40' : zS → Int → Int → Prop} {s0 : zS} {x2 : Int} {x3 : Int} {x4 : Int} (hq : ∀ (A' : zS), zSm s0 A' [60, 61, 62] [12, 13, 58, 59] → Q A' → Q' A') (fk40 : ∀ (A' : zS) (x0 : Int) (x1 : Int), zSm s0 A' [60, 61, 62] [12, 13, 58, 59] → k40 A' x0 x1 → k40' A' x0 x1) (hw : wr_constant_567 Q k40 s0 x2 x3 x4) : wr_constant_567 Q' k40' s0 x2 x3 x4 := by
  unfold wr_constant_567 at hw ⊢
  obtain ⟨o1, h2⟩ := hw
  refine ⟨o1, ?_⟩
  obtain ⟨o3, h4⟩ := h2
  refine ⟨o3, ?_⟩
  refine ⟨fun c5 => ?_, fun c5 => ?_⟩
  · have h6 := h4.1 c5
    obtain ⟨o7, h8⟩ := h6
    refine ⟨o7, ?_⟩
    obtain ⟨o9, h10⟩ := h8
    refine ⟨o9, ?_⟩
    obtain ⟨o11, h12⟩ := h10
    refine ⟨o11, ?_⟩
    obtain ⟨o13, h14⟩ := h12
    refine ⟨o13, ?_⟩
    obtain ⟨o15, h16⟩ := h14
    refine ⟨o15, ?_⟩
    obtain ⟨o17, h18⟩ := h16
    refine ⟨o17, ?_⟩
    refine ffm_worked h18 (fun r19 s20 f1 h24 => ?_)
    obtain ⟨o25, h26⟩ := h24
    refine ⟨o25, ?_⟩
    obtain ⟨o27, h28⟩ := h26
    refine ⟨o27, ?_⟩
    exact fk40 _ _ _ ((zSm.rf.tr f1 rfl rfl).pa rfl) h28
  · have h31 := h4.2 c5
    obtain ⟨o32, h33⟩ := h31
    refine ⟨o32, ?_⟩
    obtain ⟨o34, h35⟩ := h33
    refine ⟨o34, ?_⟩
    refine ffm_place h35 (fun r36 s37 f2 h41 => ?_)
    refine ffm_fault h41 (fun s43 f3 h47 => ?_)
    exact hq _ (((zSm.rf.tr f2 rfl rfl).tr f3 rfl rfl).pv rfl) h47
theorem ffb_constant_360 {Q Q' : zS → Prop} {k40 k40' : zS → Int → Int → Prop} {k360 k360' : zS → Int → Int → Int → Int → Int → Int → Prop} {s0 : zS} {x2 : Int} {x3 : Int} {x5 : Int} {x7 : Int} {x8 : Int} {x9 : Int} (hq : ∀ (A' : zS), zSm s0 A' [60, 61, 62] [12, 13, 58, 59] → Q A' → Q' A') (fk40 : ∀ (A' : zS) (x0 : Int) (x1 : Int), zSm s0 A' [60, 61, 62] [12, 13, 58, 59] → k40 A' x0 x1 → k40' A' x0 x1) (fk360 : ∀ (A' : zS) (x0 : Int) (x1 : Int) (x2 : Int) (x3 : Int) (x4 : Int) (x5 : Int), zSm s0 A' [60, 61, 62] [12, 13, 58, 59] → k360 A' x0 x1 x2 x3 x4 x5 → k360' A' x0 x1 x2 x3 x4 x5) (hw : wr_constant_360B Q k40 k360 s0 x2 x3 x5 x7 x8 x9) : wr_constant_360B Q' k40' k360' s0 x2 x3 x5 x7 x8 x9 := by
  unfold wr_constant_360B at hw ⊢
  refine ⟨fun c1 => ?_, fun c1 => ?_⟩
  · have h2 := hw.1 c1
    obtain ⟨o3, h4⟩ := h2
    refine ⟨o3, ?_⟩
    obtain ⟨o5, h6⟩ := h4
    refine ⟨o5, ?_⟩
    obtain ⟨o7, h8⟩ := h6
    refine ⟨o7, ?_⟩
    obtain ⟨o9, h10⟩ := h8
    refine ⟨o9, ?_⟩
    obtain ⟨o11, h12⟩ := h10
    refine ⟨o11, ?_⟩
    obtain ⟨o13, h14⟩ := h12
    refine ⟨o13, ?_⟩
    refine ffm_related h14 (fun r15 s16 f1 h20 => ?_)
    refine ⟨fun c21 => ?_, fun c21 => ?_⟩
    · have h22 := h20.1 c21
      refine ⟨fun c23 => ?_, fun c23 => ?_⟩
      · have h24 := h22.1 c23
        obtain ⟨o25, h26⟩ := h24
        refine ⟨o25, ?_⟩
        obtain ⟨o27, h28⟩ := h26
        refine ⟨o27, ?_⟩
        obtain ⟨o31, h32⟩ := h28
        refine ⟨o31, ?_⟩
        exact fk40 _ _ _ ((zSm.rf.tr f1 rfl rfl).pa rfl) h32
      · have h33 := h22.2 c23
        obtain ⟨o34, h35⟩ := h33
        refine ⟨o34, ?_⟩
        obtain ⟨o36, h37⟩ := h35
        refine ⟨o36, ?_⟩
        obtain ⟨o40, h41⟩ := h37
        refine ⟨o40, ?_⟩
        exact fk40 _ _ _ ((zSm.rf.tr f1 rfl rfl).pa rfl) h41
    · have h42 := h20.2 c21
      refine ⟨fun c43 => ?_, fun c43 => ?_⟩
      · have h44 := h42.1 c43
        refine ⟨fun c45 => ?_, fun c45 => ?_⟩
        · have h46 := h44.1 c45
          obtain ⟨o47, h48⟩ := h46
          refine ⟨o47, ?_⟩
          obtain ⟨o49, h50⟩ := h48
          refine ⟨o49, ?_⟩
          obtain ⟨o53, h54⟩ := h50
          refine ⟨o53, ?_⟩
          exact fk40 _ _ _ ((zSm.rf.tr f1 rfl rfl).pa rfl) h54
        · have h55 := h44.2 c45
          obtain ⟨o56, h57⟩ := h55
          refine ⟨o56, ?_⟩
          obtain ⟨o58, h59⟩ := h57
          refine ⟨o58, ?_⟩
          obtain ⟨o62, h63⟩ := h59
          refine ⟨o62, ?_⟩
          exact fk40 _ _ _ ((zSm.rf.tr f1 rfl rfl).pa rfl) h63
      · have h64 := h42.2 c43
        obtain ⟨o65, h66⟩ := h64
        refine ⟨o65, ?_⟩
        obtain ⟨o67, h68⟩ := h66
        refine ⟨o67, ?_⟩
        obtain ⟨o69, h70⟩ := h68
        refine ⟨o69, ?_⟩
        obtain ⟨o71, h72⟩ := h70
        refine ⟨o71, ?_⟩
        obtain ⟨o75, h76⟩ := h72
        refine ⟨o75, ?_⟩
        obtain ⟨o77, h78⟩ := h76
        refine ⟨o77, ?_⟩
        obtain ⟨o79, h80⟩ := h78
        refine ⟨o79, ?_⟩
        obtain ⟨o83, h84⟩ := h80
        refine ⟨o83, ?_⟩
        refine ffm_later h84 (fun r85 s86 f2 h90 => ?_)
        obtain ⟨o91, h92⟩ := h90
        refine ⟨o91, ?_⟩
        exact fk40 _ _ _ ((((zSm.rf.tr f1 rfl rfl).pa rfl).pa rfl).tr f2 rfl rfl) h92
  · have h93 := hw.2 c1
    obtain ⟨o94, h95⟩ := h93
    refine ⟨o94, ?_⟩
    obtain ⟨o96, h97⟩ := h95
    refine ⟨o96, ?_⟩
    obtain ⟨o98, h99⟩ := h97
    refine ⟨o98, ?_⟩
    exact fk360 _ _ _ _ _ _ _ zSm.rf h99
theorem ffl_constant_3600 {Q Q' : zS → Prop} {k40 k40' : zS → Int → Int → Prop} : ∀ (m : Nat) (s0 : zS) (x2 : Int) (x3 : Int) (x5 : Int) (x7 : Int) (x8 : Int) (x9 : Int), (∀ (A' : zS), zSm s0 A' [60, 61, 62] [12, 13, 58, 59] → Q A' → Q' A') → (∀ (A' : zS) (x0 : Int) (x1 : Int), zSm s0 A' [60, 61, 62] [12, 13, 58, 59] → k40 A' x0 x1 → k40' A' x0 x1) → wr_constant_360 Q k40 m s0 x2 x3 x5 x7 x8 x9 → wr_constant_360 Q' k40' m s0 x2 x3 x5 x7 x8 x9 := by
  intro m
  induction m with
  | zero => intro s0 x2 x3 x5 x7 x8 x9 hq fk40 hw; exact hw
  | succ m ih => intro s0 x2 x3 x5 x7 x8 x9 hq fk40 hw; exact ffb_constant_360 hq fk40 (fun A' y0 y1 y2 y3 y4 y5 f1 q => ih A' y0 y1 y2 y3 y4 y5 (fun A' f q => hq A' (f1.tr f rfl rfl) q) (fun A' z0 z1 f q => fk40 A' z0 z1 (f1.tr f rfl rfl) q) q) hw
theorem ffb_constant_297 {Q Q' : zS → Prop} {k40 k40' : zS → Int → Int → Prop} {k297 k297' : zS → Int → Int → Int → Int → Int → Int → Prop} {s0 : zS} {x2 : Int} {x3 : Int} {x4 : Int} {x5 : Int} {x7 : Int} {x8 : Int} (hq : ∀ (A' : zS), zSm s0 A' [60, 61, 62] [12, 13, 58, 59] → Q A' → Q' A') (fk40 : ∀ (A' : zS) (x0 : Int) (x1 : Int), zSm s0 A' [60, 61, 62] [12, 13, 58, 59] → k40 A' x0 x1 → k40' A' x0 x1) (fk297 : ∀ (A' : zS) (x0 : Int) (x1 : Int) (x2 : Int) (x3 : Int) (x4 : Int) (x5 : Int), zSm s0 A' [60, 61, 62] [12, 13, 58, 59] → k297 A' x0 x1 x2 x3 x4 x5 → k297' A' x0 x1 x2 x3 x4 x5) (hw : wr_constant_297B Q k40 k297 s0 x2 x3 x4 x5 x7 x8) : wr_constant_297B Q' k40' k297' s0 x2 x3 x4 x5 x7 x8 := by
  unfold wr_constant_297B at hw ⊢
  refine ⟨fun c1 => ?_, fun c1 => ?_⟩
  · have h2 := hw.1 c1
    refine ⟨fun c3 => ?_, fun c3 => ?_⟩
    · have h4 := h2.1 c3
      obtain ⟨o5, h6⟩ := h4
      refine ⟨o5, ?_⟩
      obtain ⟨o7, h8⟩ := h6
      refine ⟨o7, ?_⟩
      obtain ⟨m9, h10⟩ := h8
      exact ⟨m9, ffl_constant_3600 m9 _ _ _ _ _ _ _ (fun A' f q => hq A' (zSm.rf.tr f rfl rfl) q) (fun A' x0 x1 f q => fk40 A' x0 x1 (zSm.rf.tr f rfl rfl) q) h10⟩
    · have h11 := h2.2 c3
      obtain ⟨o12, h13⟩ := h11
      refine ⟨o12, ?_⟩
      obtain ⟨o14, h15⟩ := h13
      refine ⟨o14, ?_⟩
      obtain ⟨o16, h17⟩ := h15
      refine ⟨o16, ?_⟩
      obtain ⟨o20, h21⟩ := h17
      refine ⟨o20, ?_⟩
      refine ffm_later h21 (fun r22 s23 f1 h27 => ?_)
      exact fk40 _ _ _ ((zSm.rf.pa rfl).tr f1 rfl rfl) h27
  · have h28 := hw.2 c1
    obtain ⟨o29, h30⟩ := h28
    refine ⟨o29, ?_⟩
    obtain ⟨o31, h32⟩ := h30
    refine ⟨o31, ?_⟩
    obtain ⟨o33, h34⟩ := h32
    refine ⟨o33, ?_⟩
    exact fk297 _ _ _ _ _ _ _ zSm.rf h34
theorem ffl_constant_2970 {Q Q' : zS → Prop} {k40 k40' : zS → Int → Int → Prop} : ∀ (m : Nat) (s0 : zS) (x2 : Int) (x3 : Int) (x4 : Int) (x5 : Int) (x7 : Int) (x8 : Int), (∀ (A' : zS), zSm s0 A' [60, 61, 62] [12, 13, 58, 59] → Q A' → Q' A') → (∀ (A' : zS) (x0 : Int) (x1 : Int), zSm s0 A' [60, 61, 62] [12, 13, 58, 59] → k40 A' x0 x1 → k40' A' x0 x1) → wr_constant_297 Q k40 m s0 x2 x3 x4 x5 x7 x8 → wr_constant_297 Q' k40' m s0 x2 x3 x4 x5 x7 x8 := by
  intro m
  induction m with
  | zero => intro s0 x2 x3 x4 x5 x7 x8 hq fk40 hw; exact hw
  | succ m ih => intro s0 x2 x3 x4 x5 x7 x8 hq fk40 hw; exact ffb_constant_297 hq fk40 (fun A' y0 y1 y2 y3 y4 y5 f1 q => ih A' y0 y1 y2 y3 y4 y5 (fun A' f q => hq A' (f1.tr f rfl rfl) q) (fun A' z0 z1 f q => fk40 A' z0 z1 (f1.tr f rfl rfl) q) q) hw
theorem ffb_constant_40 {Q Q' : zS → Prop} {k40 k40' : zS → Int → Int → Prop} {s0 : zS} {x2 : Int} {x3 : Int} (hq : ∀ (A' : zS), zSm s0 A' [60, 61, 62] [12, 13, 58, 59] → Q A' → Q' A') (fk40 : ∀ (A' : zS) (x0 : Int) (x1 : Int), zSm s0 A' [60, 61, 62] [12, 13, 58, 59] → k40 A' x0 x1 → k40' A' x0 x1) (hw : wr_constant_40B Q k40 s0 x2 x3) : wr_constant_40B Q' k40' s0 x2 x3 := by
  unfold wr_constant_40B at hw ⊢
  refine ⟨fun c1 => ?_, fun c1 => ?_⟩
  · have h2 := hw.1 c1
    exact hq _ (zSm.rf.pv rfl) h2
  · have h5 := hw.2 c1
    obtain ⟨o6, h7⟩ := h5
    refine ⟨o6, ?_⟩
    obtain ⟨o8, h9⟩ := h7
    refine ⟨o8, ?_⟩
    obtain ⟨o10, h11⟩ := h9
    refine ⟨o10, ?_⟩
    obtain ⟨o12, h13⟩ := h11
    refine ⟨o12, ?_⟩
    obtain ⟨o14, h15⟩ := h13
    refine ⟨o14, ?_⟩
    obtain ⟨o16, h17⟩ := h15
    refine ⟨o16, ?_⟩
    refine ⟨fun c18 => ?_, fun c18 => ?_⟩
    · have h19 := h17.1 c18
      exact ffj_constant_84 (fun A' f q => hq A' (zSm.rf.tr f rfl rfl) q) (fun A' x0 x1 f q => fk40 A' x0 x1 (zSm.rf.tr f rfl rfl) q) h19
    · have h20 := h17.2 c18
      refine ⟨fun c21 => ?_, fun c21 => ?_⟩
      · have h22 := h20.1 c21
        refine ⟨fun c23 => ?_, fun c23 => ?_⟩
        · have h24 := h22.1 c23
          refine ⟨fun c25 => ?_, fun c25 => ?_⟩
          · have h26 := h24.1 c25
            refine ⟨fun c27 => ?_, fun c27 => ?_⟩
            · have h28 := h26.1 c27
              refine ⟨fun c29 => ?_, fun c29 => ?_⟩
              · have h30 := h28.1 c29
                obtain ⟨o31, h32⟩ := h30
                refine ⟨o31, ?_⟩
                obtain ⟨o33, h34⟩ := h32
                refine ⟨o33, ?_⟩
                refine ⟨fun c35 => ?_, fun c35 => ?_⟩
                · have h36 := h34.1 c35
                  obtain ⟨o37, h38⟩ := h36
                  refine ⟨o37, ?_⟩
                  exact ffj_constant_567 (fun A' f q => hq A' (zSm.rf.tr f rfl rfl) q) (fun A' x0 x1 f q => fk40 A' x0 x1 (zSm.rf.tr f rfl rfl) q) h38
                · have h39 := h34.2 c35
                  obtain ⟨o40, h41⟩ := h39
                  refine ⟨o40, ?_⟩
                  obtain ⟨o42, h43⟩ := h41
                  refine ⟨o42, ?_⟩
                  refine ⟨fun c44 => ?_, fun c44 => ?_⟩
                  · have h45 := h43.1 c44
                    obtain ⟨o46, h47⟩ := h45
                    refine ⟨o46, ?_⟩
                    obtain ⟨o48, h49⟩ := h47
                    refine ⟨o48, ?_⟩
                    obtain ⟨o50, h51⟩ := h49
                    refine ⟨o50, ?_⟩
                    obtain ⟨o52, h53⟩ := h51
                    refine ⟨o52, ?_⟩
                    obtain ⟨o54, h55⟩ := h53
                    refine ⟨o54, ?_⟩
                    obtain ⟨o56, h57⟩ := h55
                    refine ⟨o56, ?_⟩
                    refine ffm_worked h57 (fun r58 s59 f1 h63 => ?_)
                    obtain ⟨o64, h65⟩ := h63
                    refine ⟨o64, ?_⟩
                    obtain ⟨o66, h67⟩ := h65
                    refine ⟨o66, ?_⟩
                    exact fk40 _ _ _ ((zSm.rf.tr f1 rfl rfl).pa rfl) h67
                  · have h70 := h43.2 c44
                    obtain ⟨o71, h72⟩ := h70
                    refine ⟨o71, ?_⟩
                    exact ffj_constant_567 (fun A' f q => hq A' (zSm.rf.tr f rfl rfl) q) (fun A' x0 x1 f q => fk40 A' x0 x1 (zSm.rf.tr f rfl rfl) q) h72
              · have h73 := h28.2 c29
                obtain ⟨o74, h75⟩ := h73
                refine ⟨o74, ?_⟩
                obtain ⟨o76, h77⟩ := h75
                refine ⟨o76, ?_⟩
                obtain ⟨o78, h79⟩ := h77
                refine ⟨o78, ?_⟩
                refine ⟨fun c82 => ?_, fun c82 => ?_⟩
                · have h83 := h79.1 c82
                  obtain ⟨o84, h85⟩ := h83
                  refine ⟨o84, ?_⟩
                  obtain ⟨o86, h87⟩ := h85
                  refine ⟨o86, ?_⟩
                  obtain ⟨o88, h89⟩ := h87
                  refine ⟨o88, ?_⟩
                  obtain ⟨o90, h91⟩ := h89
                  refine ⟨o90, ?_⟩
                  obtain ⟨o92, h93⟩ := h91
                  refine ⟨o92, ?_⟩
                  refine ffm_later h93 (fun r94 s95 f2 h99 => ?_)
                  exact fk40 _ _ _ ((zSm.rf.pa rfl).tr f2 rfl rfl) h99
                · have h100 := h79.2 c82
                  obtain ⟨o101, h102⟩ := h100
                  refine ⟨o101, ?_⟩
                  obtain ⟨o103, h104⟩ := h102
                  refine ⟨o103, ?_⟩
                  obtain ⟨o105, h106⟩ := h104
                  refine ⟨o105, ?_⟩
                  refine ffm_later h106 (fun r107 s108 f3 h112 => ?_)
                  exact fk40 _ _ _ ((zSm.rf.pa rfl).tr f3 rfl rfl) h112
            · have h113 := h26.2 c27
              obtain ⟨o114, h115⟩ := h113
              refine ⟨o114, ?_⟩
              obtain ⟨o116, h117⟩ := h115
              refine ⟨o116, ?_⟩
              obtain ⟨m118, h119⟩ := h117
              exact ⟨m118, ffl_constant_2970 m118 _ _ _ _ _ _ _ (fun A' f q => hq A' (zSm.rf.tr f rfl rfl) q) (fun A' x0 x1 f q => fk40 A' x0 x1 (zSm.rf.tr f rfl rfl) q) h119⟩
          · have h120 := h24.2 c25
            refine ⟨fun c121 => ?_, fun c121 => ?_⟩
            · have h122 := h120.1 c121
              obtain ⟨o123, h124⟩ := h122
              refine ⟨o123, ?_⟩
              obtain ⟨o125, h126⟩ := h124
              refine ⟨o125, ?_⟩
              obtain ⟨o127, h128⟩ := h126
              refine ⟨o127, ?_⟩
              obtain ⟨o129, h130⟩ := h128
              refine ⟨o129, ?_⟩
              refine ffm_signed h130 (fun r131 s132 f4 h136 => ?_)
              obtain ⟨o137, h138⟩ := h136
              refine ⟨o137, ?_⟩
              obtain ⟨o139, h140⟩ := h138
              refine ⟨o139, ?_⟩
              exact fk40 _ _ _ ((zSm.rf.tr f4 rfl rfl).pa rfl) h140
            · have h143 := h120.2 c121
              obtain ⟨o144, h145⟩ := h143
              refine ⟨o144, ?_⟩
              obtain ⟨o146, h147⟩ := h145
              refine ⟨o146, ?_⟩
              obtain ⟨o150, h151⟩ := h147
              refine ⟨o150, ?_⟩
              obtain ⟨o152, h153⟩ := h151
              refine ⟨o152, ?_⟩
              obtain ⟨o154, h155⟩ := h153
              refine ⟨o154, ?_⟩
              refine ffm_later h155 (fun r156 s157 f5 h161 => ?_)
              exact fk40 _ _ _ ((zSm.rf.pa rfl).tr f5 rfl rfl) h161
        · have h162 := h22.2 c23
          refine ⟨fun c163 => ?_, fun c163 => ?_⟩
          · have h164 := h162.1 c163
            obtain ⟨o165, h166⟩ := h164
            refine ⟨o165, ?_⟩
            obtain ⟨o167, h168⟩ := h166
            refine ⟨o167, ?_⟩
            obtain ⟨o169, h170⟩ := h168
            refine ⟨o169, ?_⟩
            obtain ⟨o171, h172⟩ := h170
            refine ⟨o171, ?_⟩
            obtain ⟨o173, h174⟩ := h172
            refine ⟨o173, ?_⟩
            obtain ⟨o175, h176⟩ := h174
            refine ⟨o175, ?_⟩
            refine ⟨fun c177 => ?_, fun c177 => ?_⟩
            · have h178 := h176.1 c177
              obtain ⟨o179, h180⟩ := h178
              refine ⟨o179, ?_⟩
              obtain ⟨o181, h182⟩ := h180
              refine ⟨o181, ?_⟩
              refine ffm_later h182 (fun r183 s184 f6 h188 => ?_)
              exact fk40 _ _ _ (zSm.rf.tr f6 rfl rfl) h188
            · have h189 := h176.2 c177
              refine ffm_later h189 (fun r190 s191 f7 h195 => ?_)
              exact fk40 _ _ _ (zSm.rf.tr f7 rfl rfl) h195
          · have h196 := h162.2 c163
            obtain ⟨o197, h198⟩ := h196
            refine ⟨o197, ?_⟩
            obtain ⟨o199, h200⟩ := h198
            refine ⟨o199, ?_⟩
            obtain ⟨o203, h204⟩ := h200
            refine ⟨o203, ?_⟩
            obtain ⟨o205, h206⟩ := h204
            refine ⟨o205, ?_⟩
            obtain ⟨o207, h208⟩ := h206
            refine ⟨o207, ?_⟩
            refine ffm_later h208 (fun r209 s210 f8 h214 => ?_)
            exact fk40 _ _ _ ((zSm.rf.pa rfl).tr f8 rfl rfl) h214
      · have h215 := h20.2 c21
        exact ffj_constant_84 (fun A' f q => hq A' (zSm.rf.tr f rfl rfl) q) (fun A' x0 x1 f q => fk40 A' x0 x1 (zSm.rf.tr f rfl rfl) q) h215
theorem ffl_constant_400 {Q Q' : zS → Prop}  : ∀ (m : Nat) (s0 : zS) (x2 : Int) (x3 : Int), (∀ (A' : zS), zSm s0 A' [60, 61, 62] [12, 13, 58, 59] → Q A' → Q' A') → wr_constant_40 Q  m s0 x2 x3 → wr_constant_40 Q'  m s0 x2 x3 := by
  intro m
  induction m with
  | zero => intro s0 x2 x3 hq  hw; exact hw
  | succ m ih => intro s0 x2 x3 hq  hw; exact ffb_constant_40 hq  (fun A' y0 y1 f1 q => ih A' y0 y1 (fun A' f q => hq A' (f1.tr f rfl rfl) q)  q) hw
theorem ffm_constant {s0 : zS} {a0 : Int} {Q Q' : zS → Prop} (hw : wr_constant s0 a0 Q) (hq : ∀ (A' : zS), zSm s0 A' [60, 61, 62] [12, 13, 58, 59] → Q A' → Q' A') : wr_constant s0 a0 Q' := by
  unfold wr_constant at hw ⊢
  refine ffm_isK hw (fun r1 s2 f1 h6 => ?_)
  obtain ⟨o7, h8⟩ := h6
  refine ⟨o7, ?_⟩
  refine ⟨fun c13 => ?_, fun c13 => ?_⟩
  · have h14 := h8.1 c13
    obtain ⟨m19, h20⟩ := h14
    exact ⟨m19, ffl_constant_400 m19 _ _ _ (fun A' f q => hq A' ((((((zSm.rf.tr f1 rfl rfl).pv rfl).pv rfl).pa rfl).pa rfl).tr f rfl rfl) q)  h20⟩
  · have h21 := h8.2 c13
    exact hq _ (((zSm.rf.tr f1 rfl rfl).pv rfl).pv rfl) h21
theorem ffm_task {s0 : zS} {a0 : Int} {a1 : Int} {a2 : Int} {Q Q' : zS → Prop} (hw : wr_task s0 a0 a1 a2 Q) (hq : ∀ (A' : zS), zSm s0 A' [64, 65, 66] [63] → Q A' → Q' A') : wr_task s0 a0 a1 a2 Q' := by
  unfold wr_task at hw ⊢
  obtain ⟨o1, h2⟩ := hw
  refine ⟨o1, ?_⟩
  obtain ⟨o3, h4⟩ := h2
  refine ⟨o3, ?_⟩
  obtain ⟨o7, h8⟩ := h4
  refine ⟨o7, ?_⟩
  obtain ⟨o9, h10⟩ := h8
  refine ⟨o9, ?_⟩
  obtain ⟨o13, h14⟩ := h10
  refine ⟨o13, ?_⟩
  obtain ⟨o15, h16⟩ := h14
  refine ⟨o15, ?_⟩
  obtain ⟨o19, h20⟩ := h16
  refine ⟨o19, ?_⟩
  exact hq _ ((((zSm.rf.pa rfl).pa rfl).pa rfl).pv rfl) h20
theorem ffm_put {s0 : zS} {a0 : Int} {Q Q' : zS → Prop} (hw : wr_put s0 a0 Q) (hq : ∀ (A' : zS), zSm s0 A' [68] [67] → Q A' → Q' A') : wr_put s0 a0 Q' := by
  unfold wr_put at hw ⊢
  obtain ⟨o1, h2⟩ := hw
  refine ⟨o1, ?_⟩
  obtain ⟨o3, h4⟩ := h2
  refine ⟨o3, ?_⟩
  obtain ⟨o7, h8⟩ := h4
  refine ⟨o7, ?_⟩
  exact hq _ ((zSm.rf.pa rfl).pv rfl) h8
theorem ffm_pull {s0 : zS}  {Q Q' : Int → zS → Prop} (hw : wr_pull s0  Q) (hq : ∀ (e : Int) (A' : zS), zSm s0 A' [] [67] → Q e A' → Q' e A') : wr_pull s0  Q' := by
  unfold wr_pull at hw ⊢
  obtain ⟨o1, h2⟩ := hw
  refine ⟨o1, ?_⟩
  obtain ⟨o5, h6⟩ := h2
  refine ⟨o5, ?_⟩
  obtain ⟨o7, h8⟩ := h6
  refine ⟨o7, ?_⟩
  exact hq _ _ (zSm.rf.pv rfl) h8
theorem ffm_init_ {s0 : zS} {a0 : Int} {a1 : Int} {Q Q' : zS → Prop} (hw : wr_init_ s0 a0 a1 Q) (hq : ∀ (A' : zS), zSm s0 A' [85, 86] [84] → Q A' → Q' A') : wr_init_ s0 a0 a1 Q' := by
  unfold wr_init_ at hw ⊢
  refine ⟨fun c1 => ?_, fun c1 => ?_⟩
  · have h2 := hw.1 c1
    obtain ⟨o3, h4⟩ := h2
    refine ⟨o3, ?_⟩
    obtain ⟨o5, h6⟩ := h4
    refine ⟨o5, ?_⟩
    obtain ⟨o9, h10⟩ := h6
    refine ⟨o9, ?_⟩
    obtain ⟨o11, h12⟩ := h10
    refine ⟨o11, ?_⟩
    obtain ⟨o15, h16⟩ := h12
    refine ⟨o15, ?_⟩
    exact hq _ (((zSm.rf.pa rfl).pa rfl).pv rfl) h16
  · have h19 := hw.2 c1
    exact hq _ zSm.rf h19
theorem ffb_turn_9 {Q Q' : zS → Prop} {k9 k9' : zS → Int → Int → Prop} {s0 : zS} {x2 : Int} {x3 : Int} (hq : ∀ (A' : zS), zSm s0 A' [64, 65, 66] [] → Q A' → Q' A') (fk9 : ∀ (A' : zS) (x0 : Int) (x1 : Int), zSm s0 A' [64, 65, 66] [] → k9 A' x0 x1 → k9' A' x0 x1) (hw : wr_turn_9B Q k9 s0 x2 x3) : wr_turn_9B Q' k9' s0 x2 x3 := by
  unfold wr_turn_9B at hw ⊢
  refine ⟨fun c1 => ?_, fun c1 => ?_⟩
  · have h2 := hw.1 c1
    exact hq _ zSm.rf h2
  · have h3 := hw.2 c1
    obtain ⟨o4, h5⟩ := h3
    refine ⟨o4, ?_⟩
    obtain ⟨o6, h7⟩ := h5
    refine ⟨o6, ?_⟩
    obtain ⟨o8, h9⟩ := h7
    refine ⟨o8, ?_⟩
    obtain ⟨o10, h11⟩ := h9
    refine ⟨o10, ?_⟩
    obtain ⟨o12, h13⟩ := h11
    refine ⟨o12, ?_⟩
    obtain ⟨o14, h15⟩ := h13
    refine ⟨o14, ?_⟩
    obtain ⟨o16, h17⟩ := h15
    refine ⟨o16, ?_⟩
    obtain ⟨o18, h19⟩ := h17
    refine ⟨o18, ?_⟩
    obtain ⟨o20, h21⟩ := h19
    refine ⟨o20, ?_⟩
    obtain ⟨o22, h23⟩ := h21
    refine ⟨o22, ?_⟩
    obtain ⟨o26, h27⟩ := h23
    refine ⟨o26, ?_⟩
    obtain ⟨o28, h29⟩ := h27
    refine ⟨o28, ?_⟩
    obtain ⟨o30, h31⟩ := h29
    refine ⟨o30, ?_⟩
    obtain ⟨o32, h33⟩ := h31
    refine ⟨o32, ?_⟩
    obtain ⟨o36, h37⟩ := h33
    refine ⟨o36, ?_⟩
    obtain ⟨o38, h39⟩ := h37
    refine ⟨o38, ?_⟩
    obtain ⟨o40, h41⟩ := h39
    refine ⟨o40, ?_⟩
    obtain ⟨o42, h43⟩ := h41
    refine ⟨o42, ?_⟩
    obtain ⟨o46, h47⟩ := h43
    refine ⟨o46, ?_⟩
    obtain ⟨o48, h49⟩ := h47
    refine ⟨o48, ?_⟩
    obtain ⟨o52, h53⟩ := h49
    refine ⟨o52, ?_⟩
    obtain ⟨o54, h55⟩ := h53
    refine ⟨o54, ?_⟩
    obtain ⟨o58, h59⟩ := h55
    refine ⟨o58, ?_⟩
    obtain ⟨o60, h61⟩ := h59
    refine ⟨o60, ?_⟩
    obtain ⟨o64, h65⟩ := h61
    refine ⟨o64, ?_⟩
    obtain ⟨o66, h67⟩ := h65
    refine ⟨o66, ?_⟩
    exact fk9 _ _ _ ((((((zSm.rf.pa rfl).pa rfl).pa rfl).pa rfl).pa rfl).pa rfl) h67
theorem ffl_turn_90 {Q Q' : zS → Prop}  : ∀ (m : Nat) (s0 : zS) (x2 : Int) (x3 : Int), (∀ (A' : zS), zSm s0 A' [64, 65, 66] [] → Q A' → Q' A') → wr_turn_9 Q  m s0 x2 x3 → wr_turn_9 Q'  m s0 x2 x3 := by
  intro m
  induction m with
  | zero => intro s0 x2 x3 hq  hw; exact hw
  | succ m ih => intro s0 x2 x3 hq  hw; exact ffb_turn_9 hq  (fun A' y0 y1 f1 q => ih A' y0 y1 (fun A' f q => hq A' (f1.tr f rfl rfl) q)  q) hw
theorem ffm_turn {s0 : zS} {a0 : Int} {Q Q' : zS → Prop} (hw : wr_turn s0 a0 Q) (hq : ∀ (A' : zS), zSm s0 A' [64, 65, 66] [] → Q A' → Q' A') : wr_turn s0 a0 Q' := by
  unfold wr_turn at hw ⊢
  obtain ⟨o1, h2⟩ := hw
  refine ⟨o1, ?_⟩
  obtain ⟨m3, h4⟩ := h2
  exact ⟨m3, ffl_turn_90 m3 _ _ _ (fun A' f q => hq A' (zSm.rf.tr f rfl rfl) q)  h4⟩
theorem ffb_children_13 {Q Q' : zS → Prop} {k13 k13' : zS → Int → Int → Int → Prop} {s0 : zS} {x2 : Int} {x3 : Int} {x4 : Int} (hq : ∀ (A' : zS), zSm s0 A' [64, 65, 66] [63] → Q A' → Q' A') (fk13 : ∀ (A' : zS) (x0 : Int) (x1 : Int) (x2 : Int), zSm s0 A' [64, 65, 66] [63] → k13 A' x0 x1 x2 → k13' A' x0 x1 x2) (hw : wr_children_13B Q k13 s0 x2 x3 x4) : wr_children_13B Q' k13' s0 x2 x3 x4 := by
  unfold wr_children_13B at hw ⊢
  refine ⟨fun c1 => ?_, fun c1 => ?_⟩
  · have h2 := hw.1 c1
    refine ffm_turn h2 (fun s4 f1 h8 => ?_)
    exact hq _ (zSm.rf.tr f1 rfl rfl) h8
  · have h9 := hw.2 c1
    refine ffm_task h9 (fun s11 f2 h15 => ?_)
    obtain ⟨o16, h17⟩ := h15
    refine ⟨o16, ?_⟩
    obtain ⟨o18, h19⟩ := h17
    refine ⟨o18, ?_⟩
    exact fk13 _ _ _ _ (zSm.rf.tr f2 rfl rfl) h19
theorem ffl_children_130 {Q Q' : zS → Prop}  : ∀ (m : Nat) (s0 : zS) (x2 : Int) (x3 : Int) (x4 : Int), (∀ (A' : zS), zSm s0 A' [64, 65, 66] [63] → Q A' → Q' A') → wr_children_13 Q  m s0 x2 x3 x4 → wr_children_13 Q'  m s0 x2 x3 x4 := by
  intro m
  induction m with
  | zero => intro s0 x2 x3 x4 hq  hw; exact hw
  | succ m ih => intro s0 x2 x3 x4 hq  hw; exact ffb_children_13 hq  (fun A' y0 y1 y2 f1 q => ih A' y0 y1 y2 (fun A' f q => hq A' (f1.tr f rfl rfl) q)  q) hw
theorem ffm_children {s0 : zS} {a0 : Int} {a1 : Int} {Q Q' : zS → Prop} (hw : wr_children s0 a0 a1 Q) (hq : ∀ (A' : zS), zSm s0 A' [64, 65, 66] [63] → Q A' → Q' A') : wr_children s0 a0 a1 Q' := by
  unfold wr_children at hw ⊢
  obtain ⟨o1, h2⟩ := hw
  refine ⟨o1, ?_⟩
  obtain ⟨o3, h4⟩ := h2
  refine ⟨o3, ?_⟩
  obtain ⟨m5, h6⟩ := h4
  exact ⟨m5, ffl_children_130 m5 _ _ _ _ (fun A' f q => hq A' (zSm.rf.tr f rfl rfl) q)  h6⟩
theorem ffb_lib_6 {Q Q' : zS → Prop} {k6 k6' : zS → Int → Int → Int → Int → Int → Prop} {s0 : zS} {x1 : Int} {x3 : Int} {x5 : Int} {x6 : Int} {x7 : Int} (hq : ∀ (A' : zS), zSm s0 A' [50, 51, 52, 53, 54] [49] → Q A' → Q' A') (fk6 : ∀ (A' : zS) (x0 : Int) (x1 : Int) (x2 : Int) (x3 : Int) (x4 : Int), zSm s0 A' [50, 51, 52, 53, 54] [49] → k6 A' x0 x1 x2 x3 x4 → k6' A' x0 x1 x2 x3 x4) (hw : wr_lib_6B Q k6 s0 x1 x3 x5 x6 x7) : wr_lib_6B Q' k6' s0 x1 x3 x5 x6 x7 := by
  unfold wr_lib_6B at hw ⊢
  refine ⟨fun c1 => ?_, fun c1 => ?_⟩
  · have h2 := hw.1 c1
    refine ⟨fun c3 => ?_, fun c3 => ?_⟩
    · have h4 := h2.1 c3
      exact hq _ zSm.rf h4
    · have h5 := h2.2 c3
      obtain ⟨o6, h7⟩ := h5
      refine ⟨o6, ?_⟩
      refine ffm_entry h7 (fun r8 s9 f1 h13 => ?_)
      exact hq _ (zSm.rf.tr f1 rfl rfl) h13
  · have h14 := hw.2 c1
    obtain ⟨o15, h16⟩ := h14
    refine ⟨o15, ?_⟩
    obtain ⟨o17, h18⟩ := h16
    refine ⟨o17, ?_⟩
    obtain ⟨o19, h20⟩ := h18
    refine ⟨o19, ?_⟩
    obtain ⟨o21, h22⟩ := h20
    refine ⟨o21, ?_⟩
    refine ffm_isText h22 (fun r23 s24 f2 h28 => ?_)
    refine ⟨fun c29 => ?_, fun c29 => ?_⟩
    · have h30 := h28.1 c29
      obtain ⟨o31, h32⟩ := h30
      refine ⟨o31, ?_⟩
      exact fk6 _ _ _ _ _ _ (zSm.rf.tr f2 rfl rfl) h32
    · have h33 := h28.2 c29
      obtain ⟨o34, h35⟩ := h33
      refine ⟨o34, ?_⟩
      exact fk6 _ _ _ _ _ _ (zSm.rf.tr f2 rfl rfl) h35
theorem ffl_lib_60 {Q Q' : zS → Prop}  : ∀ (m : Nat) (s0 : zS) (x1 : Int) (x3 : Int) (x5 : Int) (x6 : Int) (x7 : Int), (∀ (A' : zS), zSm s0 A' [50, 51, 52, 53, 54] [49] → Q A' → Q' A') → wr_lib_6 Q  m s0 x1 x3 x5 x6 x7 → wr_lib_6 Q'  m s0 x1 x3 x5 x6 x7 := by
  intro m
  induction m with
  | zero => intro s0 x1 x3 x5 x6 x7 hq  hw; exact hw
  | succ m ih => intro s0 x1 x3 x5 x6 x7 hq  hw; exact ffb_lib_6 hq  (fun A' y0 y1 y2 y3 y4 f1 q => ih A' y0 y1 y2 y3 y4 (fun A' f q => hq A' (f1.tr f rfl rfl) q)  q) hw
theorem ffm_lib {s0 : zS} {a0 : Int} {a1 : Int} {a2 : Int} {Q Q' : zS → Prop} (hw : wr_lib s0 a0 a1 a2 Q) (hq : ∀ (A' : zS), zSm s0 A' [50, 51, 52, 53, 54] [49] → Q A' → Q' A') : wr_lib s0 a0 a1 a2 Q' := by
  unfold wr_lib at hw ⊢
  obtain ⟨m1, h2⟩ := hw
  exact ⟨m1, ffl_lib_60 m1 _ _ _ _ _ _ (fun A' f q => hq A' (zSm.rf.tr f rfl rfl) q)  h2⟩
theorem ffm_library {s0 : zS}  {Q Q' : zS → Prop} (hw : wr_library s0  Q) (hq : ∀ (A' : zS), zSm s0 A' [50, 51, 52, 53, 54] [49] → Q A' → Q' A') : wr_library s0  Q' := by
  unfold wr_library at hw ⊢
  refine ffm_lib hw (fun s4 f1 h8 => ?_)
  refine ffm_lib h8 (fun s10 f2 h14 => ?_)
  refine ffm_lib h14 (fun s16 f3 h20 => ?_)
  refine ffm_lib h20 (fun s22 f4 h26 => ?_)
  refine ffm_lib h26 (fun s28 f5 h32 => ?_)
  refine ffm_lib h32 (fun s34 f6 h38 => ?_)
  refine ffm_lib h38 (fun s40 f7 h44 => ?_)
  refine ffm_lib h44 (fun s46 f8 h50 => ?_)
  refine ffm_lib h50 (fun s52 f9 h56 => ?_)
  refine ffm_lib h56 (fun s58 f10 h62 => ?_)
  refine ffm_lib h62 (fun s64 f11 h68 => ?_)
  refine ffm_lib h68 (fun s70 f12 h74 => ?_)
  refine ffm_lib h74 (fun s76 f13 h80 => ?_)
  refine ffm_lib h80 (fun s82 f14 h86 => ?_)
  refine ffm_lib h86 (fun s88 f15 h92 => ?_)
  refine ffm_lib h92 (fun s94 f16 h98 => ?_)
  refine ffm_lib h98 (fun s100 f17 h104 => ?_)
  refine ffm_lib h104 (fun s106 f18 h110 => ?_)
  exact hq _ (((((((((((((((((((zSm.rf.pv rfl).tr f1 rfl rfl).tr f2 rfl rfl).tr f3 rfl rfl).tr f4 rfl rfl).tr f5 rfl rfl).tr f6 rfl rfl).tr f7 rfl rfl).tr f8 rfl rfl).tr f9 rfl rfl).tr f10 rfl rfl).tr f11 rfl rfl).tr f12 rfl rfl).tr f13 rfl rfl).tr f14 rfl rfl).tr f15 rfl rfl).tr f16 rfl rfl).tr f17 rfl rfl).tr f18 rfl rfl) h110
theorem ffm_nameToken {s0 : zS} {a0 : Int} {Q Q' : Int → zS → Prop} (hw : wr_nameToken s0 a0 Q) (hq : ∀ (e : Int) (A' : zS), zSm s0 A' [] [] → Q e A' → Q' e A') : wr_nameToken s0 a0 Q' := by
  unfold wr_nameToken at hw ⊢
  obtain ⟨o1, h2⟩ := hw
  refine ⟨o1, ?_⟩
  obtain ⟨o3, h4⟩ := h2
  refine ⟨o3, ?_⟩
  obtain ⟨o5, h6⟩ := h4
  refine ⟨o5, ?_⟩
  obtain ⟨o7, h8⟩ := h6
  refine ⟨o7, ?_⟩
  exact hq _ _ zSm.rf h8
theorem ffj_letRoutines_134 {Q Q' : zS → Prop} {k20 k20' : zS → Int → Int → Int → Prop} {s0 : zS} {x1 : Int} {x2 : Int} {x3 : Int} {x4 : Int} (hq : ∀ (A' : zS), zSm s0 A' [30, 50, 51, 52, 53, 54, 57, 64, 65, 66] [12, 13, 49, 63, 82] → Q A' → Q' A') (fk20 : ∀ (A' : zS) (x0 : Int) (x1 : Int) (x2 : Int), zSm s0 A' [30, 50, 51, 52, 53, 54, 57, 64, 65, 66] [12, 13, 49, 63, 82] → k20 A' x0 x1 x2 → k20' A' x0 x1 x2) (hw : wr_letRoutines_134 Q k20 s0 x1 x2 x3 x4) : wr_letRoutines_134 Q' k20' s0 x1 x2 x3 x4 := by
  unfold wr_letRoutines_134 at hw ⊢
  refine ⟨fun c1 => ?_, fun c1 => ?_⟩
  · have h2 := hw.1 c1
    obtain ⟨o3, h4⟩ := h2
    refine ⟨o3, ?_⟩
    obtain ⟨o5, h6⟩ := h4
    refine ⟨o5, ?_⟩
    exact fk20 _ _ _ _ zSm.rf h6
  · have h7 := hw.2 c1
    refine ⟨fun c8 => ?_, fun c8 => ?_⟩
    · have h9 := h7.1 c8
      obtain ⟨o10, h11⟩ := h9
      refine ⟨o10, ?_⟩
      obtain ⟨o12, h13⟩ := h11
      refine ⟨o12, ?_⟩
      exact fk20 _ _ _ _ zSm.rf h13
    · have h14 := h7.2 c8
      refine ⟨fun c15 => ?_, fun c15 => ?_⟩
      · have h16 := h14.1 c15
        obtain ⟨o17, h18⟩ := h16
        refine ⟨o17, ?_⟩
        obtain ⟨o19, h20⟩ := h18
        refine ⟨o19, ?_⟩
        exact fk20 _ _ _ _ zSm.rf h20
      · have h21 := h14.2 c15
        obtain ⟨o24, h25⟩ := h21
        refine ⟨o24, ?_⟩
        obtain ⟨o26, h27⟩ := h25
        refine ⟨o26, ?_⟩
        exact fk20 _ _ _ _ (zSm.rf.pv rfl) h27
theorem ffj_letRoutines_45 {Q Q' : zS → Prop} {k20 k20' : zS → Int → Int → Int → Prop} {s0 : zS} {x1 : Int} {x2 : Int} {x3 : Int} {x4 : Int} {y0 : Int} (hq : ∀ (A' : zS), zSm s0 A' [30, 50, 51, 52, 53, 54, 57, 64, 65, 66] [12, 13, 49, 63, 82] → Q A' → Q' A') (fk20 : ∀ (A' : zS) (x0 : Int) (x1 : Int) (x2 : Int), zSm s0 A' [30, 50, 51, 52, 53, 54, 57, 64, 65, 66] [12, 13, 49, 63, 82] → k20 A' x0 x1 x2 → k20' A' x0 x1 x2) (hw : wr_letRoutines_45 Q k20 s0 x1 x2 x3 x4 y0) : wr_letRoutines_45 Q' k20' s0 x1 x2 x3 x4 y0 := by
  unfold wr_letRoutines_45 at hw ⊢
  obtain ⟨o1, h2⟩ := hw
  refine ⟨o1, ?_⟩
  obtain ⟨o3, h4⟩ := h2
  refine ⟨o3, ?_⟩
  refine ⟨fun c7 => ?_, fun c7 => ?_⟩
  · have h8 := h4.1 c7
    obtain ⟨o9, h10⟩ := h8
    refine ⟨o9, ?_⟩
    obtain ⟨o11, h12⟩ := h10
    refine ⟨o11, ?_⟩
    refine ffm_declare h12 (fun r13 s14 f1 h18 => ?_)
    exact ffj_letRoutines_134 (fun A' f q => hq A' (((zSm.rf.pa rfl).tr f1 rfl rfl).tr f rfl rfl) q) (fun A' x0 x1 x2 f q => fk20 A' x0 x1 x2 (((zSm.rf.pa rfl).tr f1 rfl rfl).tr f rfl rfl) q) h18
  · have h19 := h4.2 c7
    obtain ⟨o20, h21⟩ := h19
    refine ⟨o20, ?_⟩
    obtain ⟨o22, h23⟩ := h21
    refine ⟨o22, ?_⟩
    refine ⟨fun c24 => ?_, fun c24 => ?_⟩
    · have h25 := h23.1 c24
      obtain ⟨o26, h27⟩ := h25
      refine ⟨o26, ?_⟩
      obtain ⟨o28, h29⟩ := h27
      refine ⟨o28, ?_⟩
      refine ffm_declare h29 (fun r30 s31 f2 h35 => ?_)
      exact ffj_letRoutines_134 (fun A' f q => hq A' (((zSm.rf.pa rfl).tr f2 rfl rfl).tr f rfl rfl) q) (fun A' x0 x1 x2 f q => fk20 A' x0 x1 x2 (((zSm.rf.pa rfl).tr f2 rfl rfl).tr f rfl rfl) q) h35
    · have h36 := h23.2 c24
      obtain ⟨o37, h38⟩ := h36
      refine ⟨o37, ?_⟩
      obtain ⟨o39, h40⟩ := h38
      refine ⟨o39, ?_⟩
      refine ⟨fun c41 => ?_, fun c41 => ?_⟩
      · have h42 := h40.1 c41
        obtain ⟨o43, h44⟩ := h42
        refine ⟨o43, ?_⟩
        obtain ⟨o45, h46⟩ := h44
        refine ⟨o45, ?_⟩
        obtain ⟨o49, h50⟩ := h46
        refine ⟨o49, ?_⟩
        obtain ⟨o51, h52⟩ := h50
        refine ⟨o51, ?_⟩
        obtain ⟨o53, h54⟩ := h52
        refine ⟨o53, ?_⟩
        exact ffj_letRoutines_134 (fun A' f q => hq A' ((((zSm.rf.pa rfl).pa rfl).pa rfl).tr f rfl rfl) q) (fun A' x0 x1 x2 f q => fk20 A' x0 x1 x2 ((((zSm.rf.pa rfl).pa rfl).pa rfl).tr f rfl rfl) q) h54
      · have h57 := h40.2 c41
        obtain ⟨o58, h59⟩ := h57
        refine ⟨o58, ?_⟩
        obtain ⟨o60, h61⟩ := h59
        refine ⟨o60, ?_⟩
        refine ffm_place h61 (fun r62 s63 f3 h67 => ?_)
        refine ffm_fault h67 (fun s69 f4 h73 => ?_)
        obtain ⟨o74, h75⟩ := h73
        refine ⟨o74, ?_⟩
        obtain ⟨o76, h77⟩ := h75
        refine ⟨o76, ?_⟩
        obtain ⟨o80, h81⟩ := h77
        refine ⟨o80, ?_⟩
        obtain ⟨o82, h83⟩ := h81
        refine ⟨o82, ?_⟩
        obtain ⟨o84, h85⟩ := h83
        refine ⟨o84, ?_⟩
        exact ffj_letRoutines_134 (fun A' f q => hq A' ((((((zSm.rf.pa rfl).tr f3 rfl rfl).tr f4 rfl rfl).pa rfl).pa rfl).tr f rfl rfl) q) (fun A' x0 x1 x2 f q => fk20 A' x0 x1 x2 ((((((zSm.rf.pa rfl).tr f3 rfl rfl).tr f4 rfl rfl).pa rfl).pa rfl).tr f rfl rfl) q) h85
theorem ffb_letRoutines_20 {Q Q' : zS → Prop} {k20 k20' : zS → Int → Int → Int → Prop} {s0 : zS} {x1 : Int} {x2 : Int} {x3 : Int} (hq : ∀ (A' : zS), zSm s0 A' [30, 50, 51, 52, 53, 54, 57, 64, 65, 66] [12, 13, 49, 63, 82] → Q A' → Q' A') (fk20 : ∀ (A' : zS) (x0 : Int) (x1 : Int) (x2 : Int), zSm s0 A' [30, 50, 51, 52, 53, 54, 57, 64, 65, 66] [12, 13, 49, 63, 82] → k20 A' x0 x1 x2 → k20' A' x0 x1 x2) (hw : wr_letRoutines_20B Q k20 s0 x1 x2 x3) : wr_letRoutines_20B Q' k20' s0 x1 x2 x3 := by
  unfold wr_letRoutines_20B at hw ⊢
  refine ⟨fun c1 => ?_, fun c1 => ?_⟩
  · have h2 := hw.1 c1
    refine ffm_children h2 (fun s4 f1 h8 => ?_)
    exact hq _ (zSm.rf.tr f1 rfl rfl) h8
  · have h9 := hw.2 c1
    refine ffm_nameToken h9 (fun r10 s11 f2 h15 => ?_)
    refine ⟨fun c16 => ?_, fun c16 => ?_⟩
    · have h17 := h15.1 c16
      exact ffj_letRoutines_45 (fun A' f q => hq A' ((zSm.rf.tr f2 rfl rfl).tr f rfl rfl) q) (fun A' x0 x1 x2 f q => fk20 A' x0 x1 x2 ((zSm.rf.tr f2 rfl rfl).tr f rfl rfl) q) h17
    · have h18 := h15.2 c16
      refine ffm_means h18 (fun r19 s20 f3 h24 => ?_)
      exact ffj_letRoutines_45 (fun A' f q => hq A' (((zSm.rf.tr f2 rfl rfl).tr f3 rfl rfl).tr f rfl rfl) q) (fun A' x0 x1 x2 f q => fk20 A' x0 x1 x2 (((zSm.rf.tr f2 rfl rfl).tr f3 rfl rfl).tr f rfl rfl) q) h24
theorem ffl_letRoutines_200 {Q Q' : zS → Prop}  : ∀ (m : Nat) (s0 : zS) (x1 : Int) (x2 : Int) (x3 : Int), (∀ (A' : zS), zSm s0 A' [30, 50, 51, 52, 53, 54, 57, 64, 65, 66] [12, 13, 49, 63, 82] → Q A' → Q' A') → wr_letRoutines_20 Q  m s0 x1 x2 x3 → wr_letRoutines_20 Q'  m s0 x1 x2 x3 := by
  intro m
  induction m with
  | zero => intro s0 x1 x2 x3 hq  hw; exact hw
  | succ m ih => intro s0 x1 x2 x3 hq  hw; exact ffb_letRoutines_20 hq  (fun A' y0 y1 y2 f1 q => ih A' y0 y1 y2 (fun A' f q => hq A' (f1.tr f rfl rfl) q)  q) hw
theorem ffm_letRoutines {s0 : zS} {a0 : Int} {Q Q' : zS → Prop} (hw : wr_letRoutines s0 a0 Q) (hq : ∀ (A' : zS), zSm s0 A' [30, 50, 51, 52, 53, 54, 57, 64, 65, 66] [12, 13, 49, 63, 82] → Q A' → Q' A') : wr_letRoutines s0 a0 Q' := by
  unfold wr_letRoutines at hw ⊢
  refine ⟨fun c1 => ?_, fun c1 => ?_⟩
  · have h2 := hw.1 c1
    obtain ⟨o3, h4⟩ := h2
    refine ⟨o3, ?_⟩
    obtain ⟨o5, h6⟩ := h4
    refine ⟨o5, ?_⟩
    obtain ⟨m7, h8⟩ := h6
    exact ⟨m7, ffl_letRoutines_200 m7 _ _ _ _ (fun A' f q => hq A' (zSm.rf.tr f rfl rfl) q)  h8⟩
  · have h9 := hw.2 c1
    obtain ⟨o10, h11⟩ := h9
    refine ⟨o10, ?_⟩
    obtain ⟨o12, h13⟩ := h11
    refine ⟨o12, ?_⟩
    obtain ⟨m14, h15⟩ := h13
    exact ⟨m14, ffl_letRoutines_200 m14 _ _ _ _ (fun A' f q => hq A' (zSm.rf.tr f rfl rfl) q)  h15⟩
theorem ffj_declaration_359 {Q Q' : zS → Prop} {k213 k213' : zS → Int → Int → Prop} {s0 : zS} {x2 : Int} {x3 : Int} {x4 : Int} (hq : ∀ (A' : zS), zSm s0 A' [30, 31, 50, 51, 52, 53, 54, 57, 60, 61, 62, 64, 65, 66, 85, 86] [12, 13, 49, 58, 59, 63, 81, 82, 84] → Q A' → Q' A') (fk213 : ∀ (A' : zS) (x0 : Int) (x1 : Int), zSm s0 A' [30, 31, 50, 51, 52, 53, 54, 57, 60, 61, 62, 64, 65, 66, 85, 86] [12, 13, 49, 58, 59, 63, 81, 82, 84] → k213 A' x0 x1 → k213' A' x0 x1) (hw : wr_declaration_359 Q k213 s0 x2 x3 x4) : wr_declaration_359 Q' k213' s0 x2 x3 x4 := by
  unfold wr_declaration_359 at hw ⊢
  refine ⟨fun c1 => ?_, fun c1 => ?_⟩
  · have h2 := hw.1 c1
    obtain ⟨o3, h4⟩ := h2
    refine ⟨o3, ?_⟩
    obtain ⟨o5, h6⟩ := h4
    refine ⟨o5, ?_⟩
    obtain ⟨o9, h10⟩ := h6
    refine ⟨o9, ?_⟩
    obtain ⟨o11, h12⟩ := h10
    refine ⟨o11, ?_⟩
    exact fk213 _ _ _ (zSm.rf.pa rfl) h12
  · have h13 := hw.2 c1
    refine ⟨fun c14 => ?_, fun c14 => ?_⟩
    · have h15 := h13.1 c14
      obtain ⟨o16, h17⟩ := h15
      refine ⟨o16, ?_⟩
      obtain ⟨o18, h19⟩ := h17
      refine ⟨o18, ?_⟩
      obtain ⟨o22, h23⟩ := h19
      refine ⟨o22, ?_⟩
      obtain ⟨o24, h25⟩ := h23
      refine ⟨o24, ?_⟩
      exact fk213 _ _ _ (zSm.rf.pa rfl) h25
    · have h26 := h13.2 c14
      refine ⟨fun c27 => ?_, fun c27 => ?_⟩
      · have h28 := h26.1 c27
        obtain ⟨o29, h30⟩ := h28
        refine ⟨o29, ?_⟩
        obtain ⟨o31, h32⟩ := h30
        refine ⟨o31, ?_⟩
        obtain ⟨o35, h36⟩ := h32
        refine ⟨o35, ?_⟩
        obtain ⟨o37, h38⟩ := h36
        refine ⟨o37, ?_⟩
        exact fk213 _ _ _ (zSm.rf.pa rfl) h38
      · have h39 := h26.2 c27
        obtain ⟨o40, h41⟩ := h39
        refine ⟨o40, ?_⟩
        obtain ⟨o42, h43⟩ := h41
        refine ⟨o42, ?_⟩
        obtain ⟨o46, h47⟩ := h43
        refine ⟨o46, ?_⟩
        obtain ⟨o48, h49⟩ := h47
        refine ⟨o48, ?_⟩
        exact fk213 _ _ _ (zSm.rf.pa rfl) h49
theorem ffb_declaration_213 {Q Q' : zS → Prop} {k213 k213' : zS → Int → Int → Prop} {s0 : zS} {x2 : Int} {x3 : Int} (hq : ∀ (A' : zS), zSm s0 A' [30, 31, 50, 51, 52, 53, 54, 57, 60, 61, 62, 64, 65, 66, 85, 86] [12, 13, 49, 58, 59, 63, 81, 82, 84] → Q A' → Q' A') (fk213 : ∀ (A' : zS) (x0 : Int) (x1 : Int), zSm s0 A' [30, 31, 50, 51, 52, 53, 54, 57, 60, 61, 62, 64, 65, 66, 85, 86] [12, 13, 49, 58, 59, 63, 81, 82, 84] → k213 A' x0 x1 → k213' A' x0 x1) (hw : wr_declaration_213B Q k213 s0 x2 x3) : wr_declaration_213B Q' k213' s0 x2 x3 := by
  unfold wr_declaration_213B at hw ⊢
  refine ⟨fun c1 => ?_, fun c1 => ?_⟩
  · have h2 := hw.1 c1
    exact hq _ zSm.rf h2
  · have h3 := hw.2 c1
    obtain ⟨o4, h5⟩ := h3
    refine ⟨o4, ?_⟩
    obtain ⟨o6, h7⟩ := h5
    refine ⟨o6, ?_⟩
    refine ffm_constant h7 (fun s9 f1 h13 => ?_)
    obtain ⟨o14, h15⟩ := h13
    refine ⟨o14, ?_⟩
    obtain ⟨o16, h17⟩ := h15
    refine ⟨o16, ?_⟩
    refine ⟨fun c18 => ?_, fun c18 => ?_⟩
    · have h19 := h17.1 c18
      refine ⟨fun c20 => ?_, fun c20 => ?_⟩
      · have h21 := h19.1 c20
        refine ⟨fun c22 => ?_, fun c22 => ?_⟩
        · have h23 := h21.1 c22
          exact ffj_declaration_359 (fun A' f q => hq A' ((zSm.rf.tr f1 rfl rfl).tr f rfl rfl) q) (fun A' x0 x1 f q => fk213 A' x0 x1 ((zSm.rf.tr f1 rfl rfl).tr f rfl rfl) q) h23
        · have h24 := h21.2 c22
          refine ⟨fun c25 => ?_, fun c25 => ?_⟩
          · have h26 := h24.1 c25
            obtain ⟨o27, h28⟩ := h26
            refine ⟨o27, ?_⟩
            obtain ⟨o29, h30⟩ := h28
            refine ⟨o29, ?_⟩
            obtain ⟨o31, h32⟩ := h30
            refine ⟨o31, ?_⟩
            obtain ⟨o33, h34⟩ := h32
            refine ⟨o33, ?_⟩
            refine ffm_place h34 (fun r35 s36 f2 h40 => ?_)
            refine ffm_fault h40 (fun s42 f3 h46 => ?_)
            exact ffj_declaration_359 (fun A' f q => hq A' ((((zSm.rf.tr f1 rfl rfl).tr f2 rfl rfl).tr f3 rfl rfl).tr f rfl rfl) q) (fun A' x0 x1 f q => fk213 A' x0 x1 ((((zSm.rf.tr f1 rfl rfl).tr f2 rfl rfl).tr f3 rfl rfl).tr f rfl rfl) q) h46
          · have h47 := h24.2 c25
            refine ⟨fun c48 => ?_, fun c48 => ?_⟩
            · have h49 := h47.1 c48
              exact ffj_declaration_359 (fun A' f q => hq A' ((zSm.rf.tr f1 rfl rfl).tr f rfl rfl) q) (fun A' x0 x1 f q => fk213 A' x0 x1 ((zSm.rf.tr f1 rfl rfl).tr f rfl rfl) q) h49
            · have h50 := h47.2 c48
              obtain ⟨o51, h52⟩ := h50
              refine ⟨o51, ?_⟩
              obtain ⟨o53, h54⟩ := h52
              refine ⟨o53, ?_⟩
              obtain ⟨o55, h56⟩ := h54
              refine ⟨o55, ?_⟩
              obtain ⟨o57, h58⟩ := h56
              refine ⟨o57, ?_⟩
              refine ffm_place h58 (fun r59 s60 f4 h64 => ?_)
              refine ffm_fault h64 (fun s66 f5 h70 => ?_)
              exact ffj_declaration_359 (fun A' f q => hq A' ((((zSm.rf.tr f1 rfl rfl).tr f4 rfl rfl).tr f5 rfl rfl).tr f rfl rfl) q) (fun A' x0 x1 f q => fk213 A' x0 x1 ((((zSm.rf.tr f1 rfl rfl).tr f4 rfl rfl).tr f5 rfl rfl).tr f rfl rfl) q) h70
      · have h71 := h19.2 c20
        refine ⟨fun c72 => ?_, fun c72 => ?_⟩
        · have h73 := h71.1 c72
          obtain ⟨o74, h75⟩ := h73
          refine ⟨o74, ?_⟩
          obtain ⟨o76, h77⟩ := h75
          refine ⟨o76, ?_⟩
          obtain ⟨o80, h81⟩ := h77
          refine ⟨o80, ?_⟩
          obtain ⟨o82, h83⟩ := h81
          refine ⟨o82, ?_⟩
          obtain ⟨o86, h87⟩ := h83
          refine ⟨o86, ?_⟩
          obtain ⟨o88, h89⟩ := h87
          refine ⟨o88, ?_⟩
          exact fk213 _ _ _ (((zSm.rf.tr f1 rfl rfl).pa rfl).pa rfl) h89
        · have h90 := h71.2 c72
          obtain ⟨o91, h92⟩ := h90
          refine ⟨o91, ?_⟩
          obtain ⟨o93, h94⟩ := h92
          refine ⟨o93, ?_⟩
          obtain ⟨o97, h98⟩ := h94
          refine ⟨o97, ?_⟩
          obtain ⟨o99, h100⟩ := h98
          refine ⟨o99, ?_⟩
          obtain ⟨o103, h104⟩ := h100
          refine ⟨o103, ?_⟩
          obtain ⟨o105, h106⟩ := h104
          refine ⟨o105, ?_⟩
          exact fk213 _ _ _ (((zSm.rf.tr f1 rfl rfl).pa rfl).pa rfl) h106
    · have h107 := h17.2 c18
      obtain ⟨o108, h109⟩ := h107
      refine ⟨o108, ?_⟩
      obtain ⟨o110, h111⟩ := h109
      refine ⟨o110, ?_⟩
      refine ffm_init_ h111 (fun s115 f6 h119 => ?_)
      obtain ⟨o120, h121⟩ := h119
      refine ⟨o120, ?_⟩
      obtain ⟨o124, h125⟩ := h121
      refine ⟨o124, ?_⟩
      obtain ⟨o126, h127⟩ := h125
      refine ⟨o126, ?_⟩
      exact fk213 _ _ _ ((((zSm.rf.tr f1 rfl rfl).pa rfl).tr f6 rfl rfl).pv rfl) h127
theorem ffl_declaration_2130 {Q Q' : zS → Prop}  : ∀ (m : Nat) (s0 : zS) (x2 : Int) (x3 : Int), (∀ (A' : zS), zSm s0 A' [30, 31, 50, 51, 52, 53, 54, 57, 60, 61, 62, 64, 65, 66, 85, 86] [12, 13, 49, 58, 59, 63, 81, 82, 84] → Q A' → Q' A') → wr_declaration_213 Q  m s0 x2 x3 → wr_declaration_213 Q'  m s0 x2 x3 := by
  intro m
  induction m with
  | zero => intro s0 x2 x3 hq  hw; exact hw
  | succ m ih => intro s0 x2 x3 hq  hw; exact ffb_declaration_213 hq  (fun A' y0 y1 f1 q => ih A' y0 y1 (fun A' f q => hq A' (f1.tr f rfl rfl) q)  q) hw
theorem ffj_declaration_158 {Q Q' : zS → Prop} {k133 k133' : zS → Int → Int → Int → Prop} {s0 : zS} {x1 : Int} {x2 : Int} {x3 : Int} {y0 : Int} (hq : ∀ (A' : zS), zSm s0 A' [30, 31, 50, 51, 52, 53, 54, 57, 60, 61, 62, 64, 65, 66, 85, 86] [12, 13, 49, 58, 59, 63, 81, 82, 84] → Q A' → Q' A') (fk133 : ∀ (A' : zS) (x0 : Int) (x1 : Int) (x2 : Int), zSm s0 A' [30, 31, 50, 51, 52, 53, 54, 57, 60, 61, 62, 64, 65, 66, 85, 86] [12, 13, 49, 58, 59, 63, 81, 82, 84] → k133 A' x0 x1 x2 → k133' A' x0 x1 x2) (hw : wr_declaration_158 Q k133 s0 x1 x2 x3 y0) : wr_declaration_158 Q' k133' s0 x1 x2 x3 y0 := by
  unfold wr_declaration_158 at hw ⊢
  refine ffm_nameToken hw (fun r1 s2 f1 h6 => ?_)
  obtain ⟨o7, h8⟩ := h6
  refine ⟨o7, ?_⟩
  obtain ⟨o9, h10⟩ := h8
  refine ⟨o9, ?_⟩
  refine ⟨fun c11 => ?_, fun c11 => ?_⟩
  · have h12 := h10.1 c11
    refine ffm_declare h12 (fun r13 s14 f2 h18 => ?_)
    obtain ⟨o19, h20⟩ := h18
    refine ⟨o19, ?_⟩
    obtain ⟨o21, h22⟩ := h20
    refine ⟨o21, ?_⟩
    obtain ⟨o25, h26⟩ := h22
    refine ⟨o25, ?_⟩
    obtain ⟨o27, h28⟩ := h26
    refine ⟨o27, ?_⟩
    exact fk133 _ _ _ _ (((zSm.rf.tr f1 rfl rfl).tr f2 rfl rfl).pa rfl) h28
  · have h29 := h10.2 c11
    refine ffm_declare h29 (fun r30 s31 f3 h35 => ?_)
    obtain ⟨o36, h37⟩ := h35
    refine ⟨o36, ?_⟩
    obtain ⟨o38, h39⟩ := h37
    refine ⟨o38, ?_⟩
    obtain ⟨o42, h43⟩ := h39
    refine ⟨o42, ?_⟩
    obtain ⟨o44, h45⟩ := h43
    refine ⟨o44, ?_⟩
    exact fk133 _ _ _ _ (((zSm.rf.tr f1 rfl rfl).tr f3 rfl rfl).pa rfl) h45
theorem ffb_declaration_133 {Q Q' : zS → Prop} {k133 k133' : zS → Int → Int → Int → Prop} {s0 : zS} {x1 : Int} {x2 : Int} {x3 : Int} (hq : ∀ (A' : zS), zSm s0 A' [30, 31, 50, 51, 52, 53, 54, 57, 60, 61, 62, 64, 65, 66, 85, 86] [12, 13, 49, 58, 59, 63, 81, 82, 84] → Q A' → Q' A') (fk133 : ∀ (A' : zS) (x0 : Int) (x1 : Int) (x2 : Int), zSm s0 A' [30, 31, 50, 51, 52, 53, 54, 57, 60, 61, 62, 64, 65, 66, 85, 86] [12, 13, 49, 58, 59, 63, 81, 82, 84] → k133 A' x0 x1 x2 → k133' A' x0 x1 x2) (hw : wr_declaration_133B Q k133 s0 x1 x2 x3) : wr_declaration_133B Q' k133' s0 x1 x2 x3 := by
  unfold wr_declaration_133B at hw ⊢
  refine ⟨fun c1 => ?_, fun c1 => ?_⟩
  · have h2 := hw.1 c1
    obtain ⟨o3, h4⟩ := h2
    refine ⟨o3, ?_⟩
    obtain ⟨o5, h6⟩ := h4
    refine ⟨o5, ?_⟩
    obtain ⟨m7, h8⟩ := h6
    exact ⟨m7, ffl_declaration_2130 m7 _ _ _ (fun A' f q => hq A' (zSm.rf.tr f rfl rfl) q)  h8⟩
  · have h9 := hw.2 c1
    refine ⟨fun c10 => ?_, fun c10 => ?_⟩
    · have h11 := h9.1 c10
      refine ⟨fun c12 => ?_, fun c12 => ?_⟩
      · have h13 := h11.1 c12
        exact ffj_declaration_158 (fun A' f q => hq A' (zSm.rf.tr f rfl rfl) q) (fun A' x0 x1 x2 f q => fk133 A' x0 x1 x2 (zSm.rf.tr f rfl rfl) q) h13
      · have h14 := h11.2 c12
        exact ffj_declaration_158 (fun A' f q => hq A' (zSm.rf.tr f rfl rfl) q) (fun A' x0 x1 x2 f q => fk133 A' x0 x1 x2 (zSm.rf.tr f rfl rfl) q) h14
    · have h15 := h9.2 c10
      exact ffj_declaration_158 (fun A' f q => hq A' (zSm.rf.tr f rfl rfl) q) (fun A' x0 x1 x2 f q => fk133 A' x0 x1 x2 (zSm.rf.tr f rfl rfl) q) h15
theorem ffl_declaration_1330 {Q Q' : zS → Prop}  : ∀ (m : Nat) (s0 : zS) (x1 : Int) (x2 : Int) (x3 : Int), (∀ (A' : zS), zSm s0 A' [30, 31, 50, 51, 52, 53, 54, 57, 60, 61, 62, 64, 65, 66, 85, 86] [12, 13, 49, 58, 59, 63, 81, 82, 84] → Q A' → Q' A') → wr_declaration_133 Q  m s0 x1 x2 x3 → wr_declaration_133 Q'  m s0 x1 x2 x3 := by
  intro m
  induction m with
  | zero => intro s0 x1 x2 x3 hq  hw; exact hw
  | succ m ih => intro s0 x1 x2 x3 hq  hw; exact ffb_declaration_133 hq  (fun A' y0 y1 y2 f1 q => ih A' y0 y1 y2 (fun A' f q => hq A' (f1.tr f rfl rfl) q)  q) hw
theorem ffb_declaration_60 {Q Q' : zS → Prop} {k60 k60' : zS → Int → Int → Prop} {s0 : zS} {x3 : Int} {x4 : Int} (hq : ∀ (A' : zS), zSm s0 A' [30, 31, 50, 51, 52, 53, 54, 57, 60, 61, 62, 64, 65, 66, 85, 86] [12, 13, 49, 58, 59, 63, 81, 82, 84] → Q A' → Q' A') (fk60 : ∀ (A' : zS) (x0 : Int) (x1 : Int), zSm s0 A' [30, 31, 50, 51, 52, 53, 54, 57, 60, 61, 62, 64, 65, 66, 85, 86] [12, 13, 49, 58, 59, 63, 81, 82, 84] → k60 A' x0 x1 → k60' A' x0 x1) (hw : wr_declaration_60B Q k60 s0 x3 x4) : wr_declaration_60B Q' k60' s0 x3 x4 := by
  unfold wr_declaration_60B at hw ⊢
  refine ⟨fun c1 => ?_, fun c1 => ?_⟩
  · have h2 := hw.1 c1
    refine ffm_turn h2 (fun s4 f1 h8 => ?_)
    exact hq _ (zSm.rf.tr f1 rfl rfl) h8
  · have h9 := hw.2 c1
    obtain ⟨o10, h11⟩ := h9
    refine ⟨o10, ?_⟩
    obtain ⟨o12, h13⟩ := h11
    refine ⟨o12, ?_⟩
    refine ⟨fun c14 => ?_, fun c14 => ?_⟩
    · have h15 := h13.1 c14
      obtain ⟨o16, h17⟩ := h15
      refine ⟨o16, ?_⟩
      obtain ⟨o18, h19⟩ := h17
      refine ⟨o18, ?_⟩
      exact fk60 _ _ _ zSm.rf h19
    · have h20 := h13.2 c14
      obtain ⟨o21, h22⟩ := h20
      refine ⟨o21, ?_⟩
      obtain ⟨o23, h24⟩ := h22
      refine ⟨o23, ?_⟩
      refine ⟨fun c25 => ?_, fun c25 => ?_⟩
      · have h26 := h24.1 c25
        refine ffm_task h26 (fun s28 f2 h32 => ?_)
        obtain ⟨o33, h34⟩ := h32
        refine ⟨o33, ?_⟩
        obtain ⟨o35, h36⟩ := h34
        refine ⟨o35, ?_⟩
        exact fk60 _ _ _ (zSm.rf.tr f2 rfl rfl) h36
      · have h37 := h24.2 c25
        refine ffm_task h37 (fun s39 f3 h43 => ?_)
        obtain ⟨o44, h45⟩ := h43
        refine ⟨o44, ?_⟩
        obtain ⟨o46, h47⟩ := h45
        refine ⟨o46, ?_⟩
        exact fk60 _ _ _ (zSm.rf.tr f3 rfl rfl) h47
theorem ffl_declaration_600 {Q Q' : zS → Prop}  : ∀ (m : Nat) (s0 : zS) (x3 : Int) (x4 : Int), (∀ (A' : zS), zSm s0 A' [30, 31, 50, 51, 52, 53, 54, 57, 60, 61, 62, 64, 65, 66, 85, 86] [12, 13, 49, 58, 59, 63, 81, 82, 84] → Q A' → Q' A') → wr_declaration_60 Q  m s0 x3 x4 → wr_declaration_60 Q'  m s0 x3 x4 := by
  intro m
  induction m with
  | zero => intro s0 x3 x4 hq  hw; exact hw
  | succ m ih => intro s0 x3 x4 hq  hw; exact ffb_declaration_60 hq  (fun A' y0 y1 f1 q => ih A' y0 y1 (fun A' f q => hq A' (f1.tr f rfl rfl) q)  q) hw
theorem ffm_declaration {s0 : zS} {a0 : Int} {Q Q' : zS → Prop} (hw : wr_declaration s0 a0 Q) (hq : ∀ (A' : zS), zSm s0 A' [30, 31, 50, 51, 52, 53, 54, 57, 60, 61, 62, 64, 65, 66, 85, 86] [12, 13, 49, 58, 59, 63, 81, 82, 84] → Q A' → Q' A') : wr_declaration s0 a0 Q' := by
  unfold wr_declaration at hw ⊢
  obtain ⟨o1, h2⟩ := hw
  refine ⟨o1, ?_⟩
  obtain ⟨o3, h4⟩ := h2
  refine ⟨o3, ?_⟩
  refine ⟨fun c5 => ?_, fun c5 => ?_⟩
  · have h6 := h4.1 c5
    obtain ⟨o7, h8⟩ := h6
    refine ⟨o7, ?_⟩
    obtain ⟨o9, h10⟩ := h8
    refine ⟨o9, ?_⟩
    obtain ⟨m11, h12⟩ := h10
    exact ⟨m11, ffl_declaration_1330 m11 _ _ _ _ (fun A' f q => hq A' (zSm.rf.tr f rfl rfl) q)  h12⟩
  · have h13 := h4.2 c5
    obtain ⟨o14, h15⟩ := h13
    refine ⟨o14, ?_⟩
    obtain ⟨o16, h17⟩ := h15
    refine ⟨o16, ?_⟩
    obtain ⟨o18, h19⟩ := h17
    refine ⟨o18, ?_⟩
    obtain ⟨o20, h21⟩ := h19
    refine ⟨o20, ?_⟩
    refine ⟨fun c22 => ?_, fun c22 => ?_⟩
    · have h23 := h21.1 c22
      refine ffm_letRoutines h23 (fun s25 f1 h29 => ?_)
      exact hq _ (zSm.rf.tr f1 rfl rfl) h29
    · have h30 := h21.2 c22
      obtain ⟨o31, h32⟩ := h30
      refine ⟨o31, ?_⟩
      obtain ⟨o33, h34⟩ := h32
      refine ⟨o33, ?_⟩
      refine ffm_task h34 (fun s36 f2 h40 => ?_)
      obtain ⟨o41, h42⟩ := h40
      refine ⟨o41, ?_⟩
      obtain ⟨o43, h44⟩ := h42
      refine ⟨o43, ?_⟩
      obtain ⟨o45, h46⟩ := h44
      refine ⟨o45, ?_⟩
      obtain ⟨o47, h48⟩ := h46
      refine ⟨o47, ?_⟩
      obtain ⟨m49, h50⟩ := h48
      exact ⟨m49, ffl_declaration_600 m49 _ _ _ (fun A' f q => hq A' ((zSm.rf.tr f2 rfl rfl).tr f rfl rfl) q)  h50⟩
theorem ffm_beginBlock {s0 : zS}  {Q Q' : zS → Prop} (hw : wr_beginBlock s0  Q) (hq : ∀ (A' : zS), zSm s0 A' [68] [55, 67] → Q A' → Q' A') : wr_beginBlock s0  Q' := by
  unfold wr_beginBlock at hw ⊢
  refine ffm_put hw (fun s2 f1 h6 => ?_)
  refine ffm_put h6 (fun s8 f2 h12 => ?_)
  refine ffm_put h12 (fun s14 f3 h18 => ?_)
  exact hq _ ((((zSm.rf.tr f1 rfl rfl).tr f2 rfl rfl).tr f3 rfl rfl).pv rfl) h18
theorem ffb_labelsOf_39 {Q Q' : zS → Prop} {k7 k7' : zS → Int → Int → Prop} {k39 k39' : zS → Int → Int → Int → Prop} {s0 : zS} {x1 : Int} {x2 : Int} {x3 : Int} (hq : ∀ (A' : zS), zSm s0 A' [30, 50, 51, 52, 53, 54, 57] [12, 13, 49] → Q A' → Q' A') (fk7 : ∀ (A' : zS) (x0 : Int) (x1 : Int), zSm s0 A' [30, 50, 51, 52, 53, 54, 57] [12, 13, 49] → k7 A' x0 x1 → k7' A' x0 x1) (fk39 : ∀ (A' : zS) (x0 : Int) (x1 : Int) (x2 : Int), zSm s0 A' [30, 50, 51, 52, 53, 54, 57] [12, 13, 49] → k39 A' x0 x1 x2 → k39' A' x0 x1 x2) (hw : wr_labelsOf_39B Q k7 k39 s0 x1 x2 x3) : wr_labelsOf_39B Q' k7' k39' s0 x1 x2 x3 := by
  unfold wr_labelsOf_39B at hw ⊢
  refine ⟨fun c1 => ?_, fun c1 => ?_⟩
  · have h2 := hw.1 c1
    obtain ⟨o3, h4⟩ := h2
    refine ⟨o3, ?_⟩
    obtain ⟨o5, h6⟩ := h4
    refine ⟨o5, ?_⟩
    exact fk7 _ _ _ zSm.rf h6
  · have h7 := hw.2 c1
    obtain ⟨o8, h9⟩ := h7
    refine ⟨o8, ?_⟩
    obtain ⟨o10, h11⟩ := h9
    refine ⟨o10, ?_⟩
    refine ⟨fun c12 => ?_, fun c12 => ?_⟩
    · have h13 := h11.1 c12
      obtain ⟨o14, h15⟩ := h13
      refine ⟨o14, ?_⟩
      obtain ⟨o16, h17⟩ := h15
      refine ⟨o16, ?_⟩
      exact fk39 _ _ _ _ zSm.rf h17
    · have h18 := h11.2 c12
      obtain ⟨o19, h20⟩ := h18
      refine ⟨o19, ?_⟩
      obtain ⟨o21, h22⟩ := h20
      refine ⟨o21, ?_⟩
      obtain ⟨o23, h24⟩ := h22
      refine ⟨o23, ?_⟩
      obtain ⟨o25, h26⟩ := h24
      refine ⟨o25, ?_⟩
      refine ffm_declare h26 (fun r27 s28 f1 h32 => ?_)
      obtain ⟨o33, h34⟩ := h32
      refine ⟨o33, ?_⟩
      obtain ⟨o35, h36⟩ := h34
      refine ⟨o35, ?_⟩
      exact fk39 _ _ _ _ (zSm.rf.tr f1 rfl rfl) h36
theorem ffl_labelsOf_390 {Q Q' : zS → Prop} {k7 k7' : zS → Int → Int → Prop} : ∀ (m : Nat) (s0 : zS) (x1 : Int) (x2 : Int) (x3 : Int), (∀ (A' : zS), zSm s0 A' [30, 50, 51, 52, 53, 54, 57] [12, 13, 49] → Q A' → Q' A') → (∀ (A' : zS) (x0 : Int) (x1 : Int), zSm s0 A' [30, 50, 51, 52, 53, 54, 57] [12, 13, 49] → k7 A' x0 x1 → k7' A' x0 x1) → wr_labelsOf_39 Q k7 m s0 x1 x2 x3 → wr_labelsOf_39 Q' k7' m s0 x1 x2 x3 := by
  intro m
  induction m with
  | zero => intro s0 x1 x2 x3 hq fk7 hw; exact hw
  | succ m ih => intro s0 x1 x2 x3 hq fk7 hw; exact ffb_labelsOf_39 hq fk7 (fun A' y0 y1 y2 f1 q => ih A' y0 y1 y2 (fun A' f q => hq A' (f1.tr f rfl rfl) q) (fun A' z0 z1 f q => fk7 A' z0 z1 (f1.tr f rfl rfl) q) q) hw
theorem ffb_labelsOf_7 {Q Q' : zS → Prop} {k7 k7' : zS → Int → Int → Prop} {s0 : zS} {x1 : Int} {x2 : Int} (hq : ∀ (A' : zS), zSm s0 A' [30, 50, 51, 52, 53, 54, 57] [12, 13, 49] → Q A' → Q' A') (fk7 : ∀ (A' : zS) (x0 : Int) (x1 : Int), zSm s0 A' [30, 50, 51, 52, 53, 54, 57] [12, 13, 49] → k7 A' x0 x1 → k7' A' x0 x1) (hw : wr_labelsOf_7B Q k7 s0 x1 x2) : wr_labelsOf_7B Q' k7' s0 x1 x2 := by
  unfold wr_labelsOf_7B at hw ⊢
  refine ⟨fun c1 => ?_, fun c1 => ?_⟩
  · have h2 := hw.1 c1
    exact hq _ zSm.rf h2
  · have h3 := hw.2 c1
    obtain ⟨o4, h5⟩ := h3
    refine ⟨o4, ?_⟩
    obtain ⟨o6, h7⟩ := h5
    refine ⟨o6, ?_⟩
    refine ⟨fun c8 => ?_, fun c8 => ?_⟩
    · have h9 := h7.1 c8
      obtain ⟨o10, h11⟩ := h9
      refine ⟨o10, ?_⟩
      obtain ⟨o12, h13⟩ := h11
      refine ⟨o12, ?_⟩
      obtain ⟨o16, h17⟩ := h13
      refine ⟨o16, ?_⟩
      obtain ⟨o18, h19⟩ := h17
      refine ⟨o18, ?_⟩
      obtain ⟨m20, h21⟩ := h19
      exact ⟨m20, ffl_labelsOf_390 m20 _ _ _ _ (fun A' f q => hq A' ((zSm.rf.pa rfl).tr f rfl rfl) q) (fun A' x0 x1 f q => fk7 A' x0 x1 ((zSm.rf.pa rfl).tr f rfl rfl) q) h21⟩
    · have h22 := h7.2 c8
      obtain ⟨o23, h24⟩ := h22
      refine ⟨o23, ?_⟩
      obtain ⟨o25, h26⟩ := h24
      refine ⟨o25, ?_⟩
      exact fk7 _ _ _ zSm.rf h26
theorem ffl_labelsOf_70 {Q Q' : zS → Prop}  : ∀ (m : Nat) (s0 : zS) (x1 : Int) (x2 : Int), (∀ (A' : zS), zSm s0 A' [30, 50, 51, 52, 53, 54, 57] [12, 13, 49] → Q A' → Q' A') → wr_labelsOf_7 Q  m s0 x1 x2 → wr_labelsOf_7 Q'  m s0 x1 x2 := by
  intro m
  induction m with
  | zero => intro s0 x1 x2 hq  hw; exact hw
  | succ m ih => intro s0 x1 x2 hq  hw; exact ffb_labelsOf_7 hq  (fun A' y0 y1 f1 q => ih A' y0 y1 (fun A' f q => hq A' (f1.tr f rfl rfl) q)  q) hw
theorem ffm_labelsOf {s0 : zS} {a0 : Int} {Q Q' : zS → Prop} (hw : wr_labelsOf s0 a0 Q) (hq : ∀ (A' : zS), zSm s0 A' [30, 50, 51, 52, 53, 54, 57] [12, 13, 49] → Q A' → Q' A') : wr_labelsOf s0 a0 Q' := by
  unfold wr_labelsOf at hw ⊢
  obtain ⟨o1, h2⟩ := hw
  refine ⟨o1, ?_⟩
  obtain ⟨o3, h4⟩ := h2
  refine ⟨o3, ?_⟩
  obtain ⟨m5, h6⟩ := h4
  exact ⟨m5, ffl_labelsOf_70 m5 _ _ _ (fun A' f q => hq A' (zSm.rf.tr f rfl rfl) q)  h6⟩
theorem ffj_goesTo_74 {Q Q' : zS → Prop}  {s0 : zS} {x1 : Int} {x2 : Int} (hq : ∀ (A' : zS), zSm s0 A' [31] [12, 13] → Q A' → Q' A')  (hw : wr_goesTo_74 Q  s0 x1 x2) : wr_goesTo_74 Q'  s0 x1 x2 := by
  unfold wr_goesTo_74 at hw ⊢
  obtain ⟨o1, h2⟩ := hw
  refine ⟨o1, ?_⟩
  obtain ⟨o3, h4⟩ := h2
  refine ⟨o3, ?_⟩
  refine ffm_place h4 (fun r5 s6 f1 h10 => ?_)
  refine ffm_fault h10 (fun s12 f2 h16 => ?_)
  obtain ⟨o17, h18⟩ := h16
  refine ⟨o17, ?_⟩
  obtain ⟨o19, h20⟩ := h18
  refine ⟨o19, ?_⟩
  obtain ⟨o21, h22⟩ := h20
  refine ⟨o21, ?_⟩
  obtain ⟨o23, h24⟩ := h22
  refine ⟨o23, ?_⟩
  exact hq _ (((zSm.rf.tr f1 rfl rfl).tr f2 rfl rfl).pa rfl) h24
theorem ffm_goesTo {s0 : zS} {a0 : Int} {Q Q' : zS → Prop} (hw : wr_goesTo s0 a0 Q) (hq : ∀ (A' : zS), zSm s0 A' [31] [12, 13] → Q A' → Q' A') : wr_goesTo s0 a0 Q' := by
  unfold wr_goesTo at hw ⊢
  obtain ⟨o1, h2⟩ := hw
  refine ⟨o1, ?_⟩
  obtain ⟨o3, h4⟩ := h2
  refine ⟨o3, ?_⟩
  refine ffm_means h4 (fun r5 s6 f1 h10 => ?_)
  obtain ⟨o11, h12⟩ := h10
  refine ⟨o11, ?_⟩
  obtain ⟨o13, h14⟩ := h12
  refine ⟨o13, ?_⟩
  refine ⟨fun c17 => ?_, fun c17 => ?_⟩
  · have h18 := h14.1 c17
    obtain ⟨o19, h20⟩ := h18
    refine ⟨o19, ?_⟩
    obtain ⟨o21, h22⟩ := h20
    refine ⟨o21, ?_⟩
    refine ⟨fun c23 => ?_, fun c23 => ?_⟩
    · have h24 := h22.1 c23
      exact ffj_goesTo_74 (fun A' f q => hq A' (((zSm.rf.tr f1 rfl rfl).pa rfl).tr f rfl rfl) q)  h24
    · have h25 := h22.2 c23
      obtain ⟨o26, h27⟩ := h25
      refine ⟨o26, ?_⟩
      obtain ⟨o28, h29⟩ := h27
      refine ⟨o28, ?_⟩
      refine ⟨fun c30 => ?_, fun c30 => ?_⟩
      · have h31 := h29.1 c30
        exact ffj_goesTo_74 (fun A' f q => hq A' (((zSm.rf.tr f1 rfl rfl).pa rfl).tr f rfl rfl) q)  h31
      · have h32 := h29.2 c30
        obtain ⟨o33, h34⟩ := h32
        refine ⟨o33, ?_⟩
        obtain ⟨o35, h36⟩ := h34
        refine ⟨o35, ?_⟩
        refine ⟨fun c37 => ?_, fun c37 => ?_⟩
        · have h38 := h36.1 c37
          obtain ⟨o39, h40⟩ := h38
          refine ⟨o39, ?_⟩
          obtain ⟨o41, h42⟩ := h40
          refine ⟨o41, ?_⟩
          obtain ⟨o43, h44⟩ := h42
          refine ⟨o43, ?_⟩
          obtain ⟨o45, h46⟩ := h44
          refine ⟨o45, ?_⟩
          exact hq _ (((zSm.rf.tr f1 rfl rfl).pa rfl).pa rfl) h46
        · have h49 := h36.2 c37
          exact ffj_goesTo_74 (fun A' f q => hq A' (((zSm.rf.tr f1 rfl rfl).pa rfl).tr f rfl rfl) q)  h49
  · have h50 := h14.2 c17
    obtain ⟨o51, h52⟩ := h50
    refine ⟨o51, ?_⟩
    obtain ⟨o53, h54⟩ := h52
    refine ⟨o53, ?_⟩
    refine ffm_place h54 (fun r55 s56 f2 h60 => ?_)
    refine ffm_fault h60 (fun s62 f3 h66 => ?_)
    exact hq _ ((((zSm.rf.tr f1 rfl rfl).pa rfl).tr f2 rfl rfl).tr f3 rfl rfl) h66
