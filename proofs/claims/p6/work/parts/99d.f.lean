/-! THE FRAME of the class's formulas -/
def ySm (A A' : cS) (js ks : List Nat) : Prop := (∀ j, js.contains j = false → A'.1 j = A.1 j ∧ A'.2.1 j = A.2.1 j) ∧ ∀ k, ks.contains k = false → A'.2.2 k = A.2.2 k
theorem ySm.rf {A : cS} {js ks : List Nat} : ySm A A js ks := ⟨fun _ _ => ⟨rfl, rfl⟩, fun _ _ => rfl⟩
theorem ySm.tr {A A1 A2 : cS} {js ks js1 ks1 : List Nat} (h : ySm A A1 js ks) (h2 : ySm A1 A2 js1 ks1) (a : js1.all (fun z => js.contains z) = true) (c : ks1.all (fun z => ks.contains z) = true) : ySm A A2 js ks := ⟨fun j hj => ⟨(h2.1 j (znot a hj)).1.trans (h.1 j hj).1, (h2.1 j (znot a hj)).2.trans (h.1 j hj).2⟩, fun k hk => (h2.2 k (znot c hk)).trans (h.2 k hk)⟩
theorem ynotin {l : List Nat} {j k : Nat} (hj : l.contains j = true) (hk : l.contains k = false) : k ≠ j := fun e => by rw [e, hj] at hk; exact absurd hk (by decide)
theorem ySm.pv {A A1 : cS} {js ks : List Nat} {k : Nat} {x : Int} (h : ySm A A1 js ks) (hk : ks.contains k = true) : ySm A (ypv A1 k x) js ks := ⟨h.1, fun m hm => by
  show (if m = k then x else A1.2.2 m) = A.2.2 m
  rw [if_neg (ynotin hk hm)]
  exact h.2 m hm⟩
theorem ySm.add {A A1 : cS} {js ks : List Nat} {j : Nat} {x : Int} (h : ySm A A1 js ks) (hj : js.contains j = true) : ySm A (yadd A1 j x) js ks := ⟨fun i hi => by
  have hne := ynotin hj hi
  refine ⟨?_, ?_⟩
  · show (if i = j then A1.1 i + 1 else A1.1 i) = A.1 i
    rw [if_neg hne]; exact (h.1 i hi).1
  · show (fun m => if i = j then (if m = A1.1 i then x else A1.2.1 i m) else A1.2.1 i m) = A.2.1 i
    simp only [hne, if_false]; exact (h.1 i hi).2, h.2⟩
theorem ySm.cut {A A1 : cS} {js ks : List Nat} {j : Nat} {x : Int} (h : ySm A A1 js ks) (hj : js.contains j = true) : ySm A (ycut A1 j x) js ks := ⟨fun i hi => by
  have hne := ynotin hj hi
  refine ⟨?_, (h.1 i hi).2⟩
  show (if i = j then (if 0 ≤ x ∧ x < (A1.1 i : Int) then x.toNat else A1.1 i) else A1.1 i) = A.1 i
  rw [if_neg hne]; exact (h.1 i hi).1, h.2⟩
theorem ySm.pop {A A1 : cS} {js ks : List Nat} {j : Nat} (h : ySm A A1 js ks) (hj : js.contains j = true) : ySm A (ypop A1 j) js ks := ⟨fun i hi => by
  have hne := ynotin hj hi
  refine ⟨?_, (h.1 i hi).2⟩
  show (if i = j then A1.1 i - 1 else A1.1 i) = A.1 i
  rw [if_neg hne]; exact (h.1 i hi).1, h.2⟩
theorem ySm.set {A A1 : cS} {js ks : List Nat} {j : Nat} {i x : Int} (h : ySm A A1 js ks) (hj : js.contains j = true) : ySm A (yset A1 j i x) js ks := ⟨fun n hn => by
  have hne := ynotin hj hn
  refine ⟨(h.1 n hn).1, ?_⟩
  show (fun m => if n = j then (if (0 ≤ i ∧ i < (A1.1 n : Int)) ∧ m = i.toNat then x else A1.2.1 n m) else A1.2.1 n m) = A.2.1 n
  simp only [hne, if_false]; exact (h.1 n hn).2, h.2⟩
theorem ySm.z {A A1 : cS} {js ks : List Nat} (h : ySm A A1 js ks) (j : Nat) (hj : js.contains j = false) : yz A1 j = yz A j := (h.1 j hj).1
theorem ySm.f {A A1 : cS} {js ks : List Nat} (h : ySm A A1 js ks) (j i : Nat) (hj : js.contains j = false) : yf A1 j i = yf A j i := congrFun (h.1 j hj).2 i
theorem ySm.v {A A1 : cS} {js ks : List Nat} (h : ySm A A1 js ks) (k : Nat) (hk : ks.contains k = false) : yv A1 k = yv A k := h.2 k hk
theorem ySm.g {A A1 : cS} {js ks : List Nat} (h : ySm A A1 js ks) (j : Nat) (i : Int) (hj : js.contains j = false) : yget A1 j i = yget A j i := by
  unfold yget
  rw [h.z j hj, h.f j _ hj]
theorem ySm.e {A A1 : cS} (h : ySm A A1 [] []) : A1 = A := Prod.ext (funext fun j => (h.1 j rfl).1) (Prod.ext (funext fun j => (h.1 j rfl).2) (funext fun k => h.2 k rfl))
theorem ffm_Tree_node {s0 : cS} {a0 : Int} {a1 : Int} {a2 : Int} {Q Q' : Int → cS → Prop} (hw : wc_Tree_node s0 a0 a1 a2 Q) (hq : ∀ (e : Int) (A' : cS), ySm s0 A' [7, 8, 9, 10, 11, 12, 13] [] → Q e A' → Q' e A') : wc_Tree_node s0 a0 a1 a2 Q' := by
  unfold wc_Tree_node at hw ⊢
  obtain ⟨o5, h6⟩ := hw
  refine ⟨o5, ?_⟩
  obtain ⟨o11, h12⟩ := h6
  refine ⟨o11, ?_⟩
  obtain ⟨o17, h18⟩ := h12
  refine ⟨o17, ?_⟩
  obtain ⟨o23, h24⟩ := h18
  refine ⟨o23, ?_⟩
  obtain ⟨o29, h30⟩ := h24
  refine ⟨o29, ?_⟩
  obtain ⟨o35, h36⟩ := h30
  refine ⟨o35, ?_⟩
  obtain ⟨o41, h42⟩ := h36
  refine ⟨o41, ?_⟩
  obtain ⟨o43, h44⟩ := h42
  refine ⟨o43, ?_⟩
  exact hq _ _ (((((((ySm.rf.add rfl).add rfl).add rfl).add rfl).add rfl).add rfl).add rfl) h44
theorem ffm_Tree_clear {s0 : cS}  {Q Q' : cS → Prop} (hw : wc_Tree_clear s0  Q) (hq : ∀ (A' : cS), ySm s0 A' [7, 8, 9, 10, 11, 12, 13] [] → Q A' → Q' A') : wc_Tree_clear s0  Q' := by
  unfold wc_Tree_clear at hw ⊢
  refine ffm_Tree_node hw (fun r29 A30 f1 h36 => ?_)
  exact hq _ ((((((((ySm.rf.cut rfl).cut rfl).cut rfl).cut rfl).cut rfl).cut rfl).cut rfl).tr f1 rfl rfl) h36
theorem ffm_Tree_hang {s0 : cS} {a0 : Int} {a1 : Int} {Q Q' : cS → Prop} (hw : wc_Tree_hang s0 a0 a1 Q) (hq : ∀ (A' : cS), ySm s0 A' [11, 12, 13] [] → Q A' → Q' A') : wc_Tree_hang s0 a0 a1 Q' := by
  unfold wc_Tree_hang at hw ⊢
  refine ⟨fun c1 => ?_, fun c1 => ?_⟩
  · have h2 := hw.1 c1
    exact hq _ ((ySm.rf.set rfl).set rfl) h2
  · have h11 := hw.2 c1
    exact hq _ ((ySm.rf.set rfl).set rfl) h11
theorem ffm_Tree_kind {s0 : cS} {a0 : Int} {Q Q' : Int → cS → Prop} (hw : wc_Tree_kind s0 a0 Q) (hq : ∀ (e : Int) (A' : cS), ySm s0 A' [] [] → Q e A' → Q' e A') : wc_Tree_kind s0 a0 Q' := by
  unfold wc_Tree_kind at hw ⊢
  exact hq _ _ ySm.rf hw
theorem ffm_Tree_place {s0 : cS} {a0 : Int} {Q Q' : Int → cS → Prop} (hw : wc_Tree_place s0 a0 Q) (hq : ∀ (e : Int) (A' : cS), ySm s0 A' [] [] → Q e A' → Q' e A') : wc_Tree_place s0 a0 Q' := by
  unfold wc_Tree_place at hw ⊢
  exact hq _ _ ySm.rf hw
theorem ffm_Tree_data {s0 : cS} {a0 : Int} {Q Q' : Int → cS → Prop} (hw : wc_Tree_data s0 a0 Q) (hq : ∀ (e : Int) (A' : cS), ySm s0 A' [] [] → Q e A' → Q' e A') : wc_Tree_data s0 a0 Q' := by
  unfold wc_Tree_data at hw ⊢
  exact hq _ _ ySm.rf hw
theorem ffm_Tree_extra {s0 : cS} {a0 : Int} {Q Q' : Int → cS → Prop} (hw : wc_Tree_extra s0 a0 Q) (hq : ∀ (e : Int) (A' : cS), ySm s0 A' [] [] → Q e A' → Q' e A') : wc_Tree_extra s0 a0 Q' := by
  unfold wc_Tree_extra at hw ⊢
  exact hq _ _ ySm.rf hw
theorem ffm_Tree_first {s0 : cS} {a0 : Int} {Q Q' : Int → cS → Prop} (hw : wc_Tree_first s0 a0 Q) (hq : ∀ (e : Int) (A' : cS), ySm s0 A' [] [] → Q e A' → Q' e A') : wc_Tree_first s0 a0 Q' := by
  unfold wc_Tree_first at hw ⊢
  exact hq _ _ ySm.rf hw
theorem ffm_Tree_last {s0 : cS} {a0 : Int} {Q Q' : Int → cS → Prop} (hw : wc_Tree_last s0 a0 Q) (hq : ∀ (e : Int) (A' : cS), ySm s0 A' [] [] → Q e A' → Q' e A') : wc_Tree_last s0 a0 Q' := by
  unfold wc_Tree_last at hw ⊢
  exact hq _ _ ySm.rf hw
theorem ffm_Tree_next {s0 : cS} {a0 : Int} {Q Q' : Int → cS → Prop} (hw : wc_Tree_next s0 a0 Q) (hq : ∀ (e : Int) (A' : cS), ySm s0 A' [] [] → Q e A' → Q' e A') : wc_Tree_next s0 a0 Q' := by
  unfold wc_Tree_next at hw ⊢
  exact hq _ _ ySm.rf hw
theorem ffm_Tree_setKind {s0 : cS} {a0 : Int} {a1 : Int} {Q Q' : cS → Prop} (hw : wc_Tree_setKind s0 a0 a1 Q) (hq : ∀ (A' : cS), ySm s0 A' [7] [] → Q A' → Q' A') : wc_Tree_setKind s0 a0 a1 Q' := by
  unfold wc_Tree_setKind at hw ⊢
  exact hq _ (ySm.rf.set rfl) hw
theorem ffm_Tree_setData {s0 : cS} {a0 : Int} {a1 : Int} {Q Q' : cS → Prop} (hw : wc_Tree_setData s0 a0 a1 Q) (hq : ∀ (A' : cS), ySm s0 A' [9] [] → Q A' → Q' A') : wc_Tree_setData s0 a0 a1 Q' := by
  unfold wc_Tree_setData at hw ⊢
  exact hq _ (ySm.rf.set rfl) hw
theorem ffm_Tree_setExtra {s0 : cS} {a0 : Int} {a1 : Int} {Q Q' : cS → Prop} (hw : wc_Tree_setExtra s0 a0 a1 Q) (hq : ∀ (A' : cS), ySm s0 A' [10] [] → Q A' → Q' A') : wc_Tree_setExtra s0 a0 a1 Q' := by
  unfold wc_Tree_setExtra at hw ⊢
  exact hq _ (ySm.rf.set rfl) hw
theorem ffm_Program_emit {s0 : cS} {a0 : Int} {a1 : Int} {Q Q' : Int → cS → Prop} (hw : wc_Program_emit s0 a0 a1 Q) (hq : ∀ (e : Int) (A' : cS), ySm s0 A' [1] [] → Q e A' → Q' e A') : wc_Program_emit s0 a0 a1 Q' := by
  unfold wc_Program_emit at hw ⊢
  obtain ⟨o5, h6⟩ := hw
  refine ⟨o5, ?_⟩
  obtain ⟨o11, h12⟩ := h6
  refine ⟨o11, ?_⟩
  obtain ⟨o13, h14⟩ := h12
  refine ⟨o13, ?_⟩
  exact hq _ _ ((ySm.rf.add rfl).add rfl) h14
theorem ffb_Program_clear_50 {Q Q' : cS → Prop} {k50 k50' : cS → Int → Int → Prop} {s0 : cS} {x1 : Int} {x2 : Int} (hq : ∀ (A' : cS), ySm s0 A' [1, 2, 3, 4, 5, 6] [2, 3, 4, 5, 6] → Q A' → Q' A') (fk50 : ∀ (A' : cS) (x0 : Int) (x1 : Int), ySm s0 A' [1, 2, 3, 4, 5, 6] [2, 3, 4, 5, 6] → k50 A' x0 x1 → k50' A' x0 x1) (hw : wc_Program_clear_50B Q k50 s0 x1 x2) : wc_Program_clear_50B Q' k50' s0 x1 x2 := by
  unfold wc_Program_clear_50B at hw ⊢
  refine ⟨fun c1 => ?_, fun c1 => ?_⟩
  · have h2 := hw.1 c1
    refine ffm_Program_emit h2 (fun r3 A4 f1 h10 => ?_)
    exact hq _ ((((((ySm.rf.tr f1 rfl rfl).pv rfl).pv rfl).pv rfl).pv rfl).pv rfl) h10
  · have h66 := hw.2 c1
    obtain ⟨o71, h72⟩ := h66
    refine ⟨o71, ?_⟩
    obtain ⟨o73, h74⟩ := h72
    refine ⟨o73, ?_⟩
    exact fk50 _ _ _ (ySm.rf.add rfl) h74
theorem ffl_Program_clear_500 {Q Q' : cS → Prop}  : ∀ (m : Nat) (s0 : cS) (x1 : Int) (x2 : Int), (∀ (A' : cS), ySm s0 A' [1, 2, 3, 4, 5, 6] [2, 3, 4, 5, 6] → Q A' → Q' A') → wc_Program_clear_50 Q  m s0 x1 x2 → wc_Program_clear_50 Q'  m s0 x1 x2 := by
  intro m
  induction m with
  | zero => intro s0 x1 x2 hq  hw; exact hw
  | succ m ih => intro s0 x1 x2 hq  hw; exact ffb_Program_clear_50 hq  (fun A' y0 y1 f1 q => ih A' y0 y1 (fun A' f q => hq A' (f1.tr f rfl rfl) q)  q) hw
theorem ffm_Program_clear {s0 : cS} {a0 : Int} {Q Q' : cS → Prop} (hw : wc_Program_clear s0 a0 Q) (hq : ∀ (A' : cS), ySm s0 A' [1, 2, 3, 4, 5, 6] [2, 3, 4, 5, 6] → Q A' → Q' A') : wc_Program_clear s0 a0 Q' := by
  unfold wc_Program_clear at hw ⊢
  obtain ⟨m25, h26⟩ := hw
  exact ⟨m25, ffl_Program_clear_500 m25 _ _ _ (fun A' f q => hq A' (((((((ySm.rf.cut rfl).cut rfl).cut rfl).cut rfl).cut rfl).cut rfl).tr f rfl rfl) q)  h26⟩
theorem ffm_Program_blame {s0 : cS} {a0 : Int} {a1 : Int} {Q Q' : cS → Prop} (hw : wc_Program_blame s0 a0 a1 Q) (hq : ∀ (A' : cS), ySm s0 A' [] [4, 5] → Q A' → Q' A') : wc_Program_blame s0 a0 a1 Q' := by
  unfold wc_Program_blame at hw ⊢
  refine ⟨fun c1 => ?_, fun c1 => ?_⟩
  · have h2 := hw.1 c1
    refine ⟨fun c3 => ?_, fun c3 => ?_⟩
    · have h4 := h2.1 c3
      exact hq _ ((ySm.rf.pv rfl).pv rfl) h4
    · have h27 := h2.2 c3
      exact hq _ ((ySm.rf.pv rfl).pv rfl) h27
  · have h51 := hw.2 c1
    refine ⟨fun c52 => ?_, fun c52 => ?_⟩
    · have h53 := h51.1 c52
      refine ⟨fun c54 => ?_, fun c54 => ?_⟩
      · have h55 := h53.1 c54
        exact hq _ ((ySm.rf.pv rfl).pv rfl) h55
      · have h78 := h53.2 c54
        exact hq _ ySm.rf h78
    · have h80 := h51.2 c52
      refine ⟨fun c81 => ?_, fun c81 => ?_⟩
      · have h82 := h80.1 c81
        refine ⟨fun c83 => ?_, fun c83 => ?_⟩
        · have h84 := h82.1 c83
          exact hq _ ((ySm.rf.pv rfl).pv rfl) h84
        · have h107 := h82.2 c83
          exact hq _ ySm.rf h107
      · have h109 := h80.2 c81
        refine ⟨fun c110 => ?_, fun c110 => ?_⟩
        · have h111 := h109.1 c110
          exact hq _ ((ySm.rf.pv rfl).pv rfl) h111
        · have h134 := h109.2 c110
          exact hq _ ((ySm.rf.pv rfl).pv rfl) h134
theorem ffm_Program_words {s0 : cS}  {Q Q' : Int → cS → Prop} (hw : wc_Program_words s0  Q) (hq : ∀ (e : Int) (A' : cS), ySm s0 A' [] [] → Q e A' → Q' e A') : wc_Program_words s0  Q' := by
  unfold wc_Program_words at hw ⊢
  exact hq _ _ ySm.rf hw
theorem ffb_Program_judge_34 {Q Q' : cS → Prop} {k34 k34' : cS → Int → Int → Prop} {s0 : cS} {x1 : Int} {x2 : Int} (hq : ∀ (A' : cS), ySm s0 A' [] [4, 5, 6] → Q A' → Q' A') (fk34 : ∀ (A' : cS) (x0 : Int) (x1 : Int), ySm s0 A' [] [4, 5, 6] → k34 A' x0 x1 → k34' A' x0 x1) (hw : wc_Program_judge_34B Q k34 s0 x1 x2) : wc_Program_judge_34B Q' k34' s0 x1 x2 := by
  unfold wc_Program_judge_34B at hw ⊢
  refine ⟨fun c1 => ?_, fun c1 => ?_⟩
  · have h2 := hw.1 c1
    refine ⟨fun c3 => ?_, fun c3 => ?_⟩
    · have h4 := h2.1 c3
      refine ⟨fun c5 => ?_, fun c5 => ?_⟩
      · have h6 := h4.1 c5
        exact hq _ (ySm.rf.pv rfl) h6
      · have h18 := h4.2 c5
        exact hq _ (ySm.rf.pv rfl) h18
    · have h30 := h2.2 c3
      refine ⟨fun c31 => ?_, fun c31 => ?_⟩
      · have h32 := h30.1 c31
        refine ffm_Program_blame h32 (fun A34 f1 h40 => ?_)
        refine ⟨fun c41 => ?_, fun c41 => ?_⟩
        · have h42 := h40.1 c41
          exact hq _ ((ySm.rf.tr f1 rfl rfl).pv rfl) h42
        · have h54 := h40.2 c41
          exact hq _ ((ySm.rf.tr f1 rfl rfl).pv rfl) h54
      · have h66 := h30.2 c31
        refine ⟨fun c67 => ?_, fun c67 => ?_⟩
        · have h68 := h66.1 c67
          refine ⟨fun c69 => ?_, fun c69 => ?_⟩
          · have h70 := h68.1 c69
            exact hq _ (ySm.rf.pv rfl) h70
          · have h82 := h68.2 c69
            exact hq _ (ySm.rf.pv rfl) h82
        · have h94 := h66.2 c67
          refine ffm_Program_blame h94 (fun A96 f2 h102 => ?_)
          refine ⟨fun c103 => ?_, fun c103 => ?_⟩
          · have h104 := h102.1 c103
            exact hq _ ((ySm.rf.tr f2 rfl rfl).pv rfl) h104
          · have h116 := h102.2 c103
            exact hq _ ((ySm.rf.tr f2 rfl rfl).pv rfl) h116
  · have h128 := hw.2 c1
    refine ⟨fun c129 => ?_, fun c129 => ?_⟩
    · have h130 := h128.1 c129
      obtain ⟨o131, h132⟩ := h130
      refine ⟨o131, ?_⟩
      exact fk34 _ _ _ ySm.rf h132
    · have h133 := h128.2 c129
      refine ⟨fun c134 => ?_, fun c134 => ?_⟩
      · have h135 := h133.1 c134
        obtain ⟨o136, h137⟩ := h135
        refine ⟨o136, ?_⟩
        exact fk34 _ _ _ ySm.rf h137
      · have h138 := h133.2 c134
        obtain ⟨o139, h140⟩ := h138
        refine ⟨o139, ?_⟩
        exact fk34 _ _ _ ySm.rf h140
theorem ffl_Program_judge_340 {Q Q' : cS → Prop}  : ∀ (m : Nat) (s0 : cS) (x1 : Int) (x2 : Int), (∀ (A' : cS), ySm s0 A' [] [4, 5, 6] → Q A' → Q' A') → wc_Program_judge_34 Q  m s0 x1 x2 → wc_Program_judge_34 Q'  m s0 x1 x2 := by
  intro m
  induction m with
  | zero => intro s0 x1 x2 hq  hw; exact hw
  | succ m ih => intro s0 x1 x2 hq  hw; exact ffb_Program_judge_34 hq  (fun A' y0 y1 f1 q => ih A' y0 y1 (fun A' f q => hq A' (f1.tr f rfl rfl) q)  q) hw
theorem ffm_Program_judge {s0 : cS}  {Q Q' : cS → Prop} (hw : wc_Program_judge s0  Q) (hq : ∀ (A' : cS), ySm s0 A' [] [4, 5, 6] → Q A' → Q' A') : wc_Program_judge s0  Q' := by
  unfold wc_Program_judge at hw ⊢
  refine ffm_Program_words hw (fun r1 A2 f1 h8 => ?_)
  obtain ⟨o9, h10⟩ := h8
  refine ⟨o9, ?_⟩
  refine ⟨fun c11 => ?_, fun c11 => ?_⟩
  · have h12 := h10.1 c11
    obtain ⟨m13, h14⟩ := h12
    exact ⟨m13, ffl_Program_judge_340 m13 _ _ _ (fun A' f q => hq A' ((ySm.rf.tr f1 rfl rfl).tr f rfl rfl) q)  h14⟩
  · have h15 := h10.2 c11
    refine ⟨fun c16 => ?_, fun c16 => ?_⟩
    · have h17 := h15.1 c16
      obtain ⟨m18, h19⟩ := h17
      exact ⟨m18, ffl_Program_judge_340 m18 _ _ _ (fun A' f q => hq A' ((ySm.rf.tr f1 rfl rfl).tr f rfl rfl) q)  h19⟩
    · have h20 := h15.2 c16
      obtain ⟨m21, h22⟩ := h20
      exact ⟨m21, ffl_Program_judge_340 m21 _ _ _ (fun A' f q => hq A' ((ySm.rf.tr f1 rfl rfl).tr f rfl rfl) q)  h22⟩
theorem ffm_Program_isReady {s0 : cS}  {Q Q' : Int → cS → Prop} (hw : wc_Program_isReady s0  Q) (hq : ∀ (e : Int) (A' : cS), ySm s0 A' [] [] → Q e A' → Q' e A') : wc_Program_isReady s0  Q' := by
  unfold wc_Program_isReady at hw ⊢
  obtain ⟨o1, h2⟩ := hw
  refine ⟨o1, ?_⟩
  exact hq _ _ ySm.rf h2
theorem ffm_Program_faultKind {s0 : cS}  {Q Q' : Int → cS → Prop} (hw : wc_Program_faultKind s0  Q) (hq : ∀ (e : Int) (A' : cS), ySm s0 A' [] [] → Q e A' → Q' e A') : wc_Program_faultKind s0  Q' := by
  unfold wc_Program_faultKind at hw ⊢
  exact hq _ _ ySm.rf hw
theorem ffm_Program_faultPlace {s0 : cS}  {Q Q' : Int → cS → Prop} (hw : wc_Program_faultPlace s0  Q) (hq : ∀ (e : Int) (A' : cS), ySm s0 A' [] [] → Q e A' → Q' e A') : wc_Program_faultPlace s0  Q' := by
  unfold wc_Program_faultPlace at hw ⊢
  exact hq _ _ ySm.rf hw
theorem ffm_Program_storeWords {s0 : cS}  {Q Q' : Int → cS → Prop} (hw : wc_Program_storeWords s0  Q) (hq : ∀ (e : Int) (A' : cS), ySm s0 A' [] [] → Q e A' → Q' e A') : wc_Program_storeWords s0  Q' := by
  unfold wc_Program_storeWords at hw ⊢
  exact hq _ _ ySm.rf hw
theorem ffm_Program_wordAt {s0 : cS} {a0 : Int} {Q Q' : Int → cS → Prop} (hw : wc_Program_wordAt s0 a0 Q) (hq : ∀ (e : Int) (A' : cS), ySm s0 A' [] [] → Q e A' → Q' e A') : wc_Program_wordAt s0 a0 Q' := by
  unfold wc_Program_wordAt at hw ⊢
  exact hq _ _ ySm.rf hw
theorem ffm_Program_setWord {s0 : cS} {a0 : Int} {a1 : Int} {Q Q' : cS → Prop} (hw : wc_Program_setWord s0 a0 a1 Q) (hq : ∀ (A' : cS), ySm s0 A' [2] [] → Q A' → Q' A') : wc_Program_setWord s0 a0 a1 Q' := by
  unfold wc_Program_setWord at hw ⊢
  exact hq _ (ySm.rf.set rfl) hw
theorem ffm_Program_addWord {s0 : cS} {a0 : Int} {Q Q' : Int → cS → Prop} (hw : wc_Program_addWord s0 a0 Q) (hq : ∀ (e : Int) (A' : cS), ySm s0 A' [2] [] → Q e A' → Q' e A') : wc_Program_addWord s0 a0 Q' := by
  unfold wc_Program_addWord at hw ⊢
  obtain ⟨o5, h6⟩ := hw
  refine ⟨o5, ?_⟩
  obtain ⟨o7, h8⟩ := h6
  refine ⟨o7, ?_⟩
  exact hq _ _ (ySm.rf.add rfl) h8
theorem ffm_Program_addRoutine {s0 : cS} {a0 : Int} {Q Q' : Int → cS → Prop} (hw : wc_Program_addRoutine s0 a0 Q) (hq : ∀ (e : Int) (A' : cS), ySm s0 A' [2, 3, 4, 5, 6] [] → Q e A' → Q' e A') : wc_Program_addRoutine s0 a0 Q' := by
  unfold wc_Program_addRoutine at hw ⊢
  refine ⟨fun c1 => ?_, fun c1 => ?_⟩
  · have h2 := hw.1 c1
    obtain ⟨o7, h8⟩ := h2
    refine ⟨o7, ?_⟩
    obtain ⟨o13, h14⟩ := h8
    refine ⟨o13, ?_⟩
    obtain ⟨o19, h20⟩ := h14
    refine ⟨o19, ?_⟩
    obtain ⟨o25, h26⟩ := h20
    refine ⟨o25, ?_⟩
    exact hq _ _ ((((ySm.rf.add rfl).add rfl).add rfl).add rfl) h26
  · have h27 := hw.2 c1
    obtain ⟨o28, h29⟩ := h27
    refine ⟨o28, ?_⟩
    refine ffm_Program_addWord h29 (fun r30 A31 f1 h37 => ?_)
    obtain ⟨o42, h43⟩ := h37
    refine ⟨o42, ?_⟩
    obtain ⟨o48, h49⟩ := h43
    refine ⟨o48, ?_⟩
    obtain ⟨o54, h55⟩ := h49
    refine ⟨o54, ?_⟩
    obtain ⟨o60, h61⟩ := h55
    refine ⟨o60, ?_⟩
    exact hq _ _ (((((ySm.rf.tr f1 rfl rfl).add rfl).add rfl).add rfl).add rfl) h61
theorem ffm_Program_setStarter {s0 : cS} {a0 : Int} {Q Q' : cS → Prop} (hw : wc_Program_setStarter s0 a0 Q) (hq : ∀ (A' : cS), ySm s0 A' [] [3] → Q A' → Q' A') : wc_Program_setStarter s0 a0 Q' := by
  unfold wc_Program_setStarter at hw ⊢
  refine ⟨fun c1 => ?_, fun c1 => ?_⟩
  · have h2 := hw.1 c1
    exact hq _ ySm.rf h2
  · have h3 := hw.2 c1
    exact hq _ (ySm.rf.pv rfl) h3
theorem ffm_Program_starter {s0 : cS}  {Q Q' : Int → cS → Prop} (hw : wc_Program_starter s0  Q) (hq : ∀ (e : Int) (A' : cS), ySm s0 A' [] [] → Q e A' → Q' e A') : wc_Program_starter s0  Q' := by
  unfold wc_Program_starter at hw ⊢
  exact hq _ _ ySm.rf hw
theorem ffm_Program_routines {s0 : cS}  {Q Q' : Int → cS → Prop} (hw : wc_Program_routines s0  Q) (hq : ∀ (e : Int) (A' : cS), ySm s0 A' [] [] → Q e A' → Q' e A') : wc_Program_routines s0  Q' := by
  unfold wc_Program_routines at hw ⊢
  exact hq _ _ ySm.rf hw
theorem ffm_Program_home {s0 : cS} {a0 : Int} {Q Q' : Int → cS → Prop} (hw : wc_Program_home s0 a0 Q) (hq : ∀ (e : Int) (A' : cS), ySm s0 A' [] [] → Q e A' → Q' e A') : wc_Program_home s0 a0 Q' := by
  unfold wc_Program_home at hw ⊢
  exact hq _ _ ySm.rf hw
theorem ffm_Program_begin {s0 : cS} {a0 : Int} {Q Q' : Int → cS → Prop} (hw : wc_Program_begin s0 a0 Q) (hq : ∀ (e : Int) (A' : cS), ySm s0 A' [] [] → Q e A' → Q' e A') : wc_Program_begin s0 a0 Q' := by
  unfold wc_Program_begin at hw ⊢
  exact hq _ _ ySm.rf hw
theorem ffm_Program_frame {s0 : cS} {a0 : Int} {Q Q' : Int → cS → Prop} (hw : wc_Program_frame s0 a0 Q) (hq : ∀ (e : Int) (A' : cS), ySm s0 A' [] [] → Q e A' → Q' e A') : wc_Program_frame s0 a0 Q' := by
  unfold wc_Program_frame at hw ⊢
  exact hq _ _ ySm.rf hw
theorem ffm_Program_params {s0 : cS} {a0 : Int} {Q Q' : Int → cS → Prop} (hw : wc_Program_params s0 a0 Q) (hq : ∀ (e : Int) (A' : cS), ySm s0 A' [] [] → Q e A' → Q' e A') : wc_Program_params s0 a0 Q' := by
  unfold wc_Program_params at hw ⊢
  exact hq _ _ ySm.rf hw
theorem ffm_Program_here {s0 : cS}  {Q Q' : Int → cS → Prop} (hw : wc_Program_here s0  Q) (hq : ∀ (e : Int) (A' : cS), ySm s0 A' [] [] → Q e A' → Q' e A') : wc_Program_here s0  Q' := by
  unfold wc_Program_here at hw ⊢
  exact hq _ _ ySm.rf hw
theorem ffm_Program_setBegin {s0 : cS} {a0 : Int} {a1 : Int} {Q Q' : cS → Prop} (hw : wc_Program_setBegin s0 a0 a1 Q) (hq : ∀ (A' : cS), ySm s0 A' [4, 6] [] → Q A' → Q' A') : wc_Program_setBegin s0 a0 a1 Q' := by
  unfold wc_Program_setBegin at hw ⊢
  refine ffm_Program_here hw (fun r1 A2 f1 h8 => ?_)
  exact hq _ (((ySm.rf.tr f1 rfl rfl).set rfl).set rfl) h8
theorem ffm_Program_setFrame {s0 : cS} {a0 : Int} {a1 : Int} {Q Q' : cS → Prop} (hw : wc_Program_setFrame s0 a0 a1 Q) (hq : ∀ (A' : cS), ySm s0 A' [5] [] → Q A' → Q' A') : wc_Program_setFrame s0 a0 a1 Q' := by
  unfold wc_Program_setFrame at hw ⊢
  exact hq _ (ySm.rf.set rfl) hw
theorem ffm_Program_codeAt {s0 : cS} {a0 : Int} {Q Q' : Int → cS → Prop} (hw : wc_Program_codeAt s0 a0 Q) (hq : ∀ (e : Int) (A' : cS), ySm s0 A' [] [] → Q e A' → Q' e A') : wc_Program_codeAt s0 a0 Q' := by
  unfold wc_Program_codeAt at hw ⊢
  exact hq _ _ ySm.rf hw
theorem ffm_Program_setOperand {s0 : cS} {a0 : Int} {a1 : Int} {Q Q' : cS → Prop} (hw : wc_Program_setOperand s0 a0 a1 Q) (hq : ∀ (A' : cS), ySm s0 A' [1] [] → Q A' → Q' A') : wc_Program_setOperand s0 a0 a1 Q' := by
  unfold wc_Program_setOperand at hw ⊢
  exact hq _ (ySm.rf.set rfl) hw
theorem ffb_Program_land_4 {Q Q' : cS → Prop} {k4 k4' : cS → Int → Int → Prop} {s0 : cS} {x2 : Int} {x3 : Int} (hq : ∀ (A' : cS), ySm s0 A' [1] [] → Q A' → Q' A') (fk4 : ∀ (A' : cS) (x0 : Int) (x1 : Int), ySm s0 A' [1] [] → k4 A' x0 x1 → k4' A' x0 x1) (hw : wc_Program_land_4B Q k4 s0 x2 x3) : wc_Program_land_4B Q' k4' s0 x2 x3 := by
  unfold wc_Program_land_4B at hw ⊢
  refine ⟨fun c1 => ?_, fun c1 => ?_⟩
  · have h2 := hw.1 c1
    exact hq _ ySm.rf h2
  · have h3 := hw.2 c1
    refine ⟨fun c4 => ?_, fun c4 => ?_⟩
    · have h5 := h3.1 c4
      exact hq _ ySm.rf h5
    · have h6 := h3.2 c4
      refine ffm_Program_here h6 (fun r7 A8 f1 h14 => ?_)
      obtain ⟨o19, h20⟩ := h14
      refine ⟨o19, ?_⟩
      exact fk4 _ _ _ ((ySm.rf.tr f1 rfl rfl).set rfl) h20
theorem ffl_Program_land_40 {Q Q' : cS → Prop}  : ∀ (m : Nat) (s0 : cS) (x2 : Int) (x3 : Int), (∀ (A' : cS), ySm s0 A' [1] [] → Q A' → Q' A') → wc_Program_land_4 Q  m s0 x2 x3 → wc_Program_land_4 Q'  m s0 x2 x3 := by
  intro m
  induction m with
  | zero => intro s0 x2 x3 hq  hw; exact hw
  | succ m ih => intro s0 x2 x3 hq  hw; exact ffb_Program_land_4 hq  (fun A' y0 y1 f1 q => ih A' y0 y1 (fun A' f q => hq A' (f1.tr f rfl rfl) q)  q) hw
theorem ffm_Program_land {s0 : cS} {a0 : Int} {Q Q' : cS → Prop} (hw : wc_Program_land s0 a0 Q) (hq : ∀ (A' : cS), ySm s0 A' [1] [] → Q A' → Q' A') : wc_Program_land s0 a0 Q' := by
  unfold wc_Program_land at hw ⊢
  obtain ⟨m1, h2⟩ := hw
  exact ⟨m1, ffl_Program_land_40 m1 _ _ _ (fun A' f q => hq A' (ySm.rf.tr f rfl rfl) q)  h2⟩
theorem ffb_Program_landAt_5 {Q Q' : cS → Prop} {k5 k5' : cS → Int → Int → Int → Prop} {s0 : cS} {x2 : Int} {x3 : Int} {x4 : Int} (hq : ∀ (A' : cS), ySm s0 A' [1] [] → Q A' → Q' A') (fk5 : ∀ (A' : cS) (x0 : Int) (x1 : Int) (x2 : Int), ySm s0 A' [1] [] → k5 A' x0 x1 x2 → k5' A' x0 x1 x2) (hw : wc_Program_landAt_5B Q k5 s0 x2 x3 x4) : wc_Program_landAt_5B Q' k5' s0 x2 x3 x4 := by
  unfold wc_Program_landAt_5B at hw ⊢
  refine ⟨fun c1 => ?_, fun c1 => ?_⟩
  · have h2 := hw.1 c1
    exact hq _ ySm.rf h2
  · have h3 := hw.2 c1
    refine ⟨fun c4 => ?_, fun c4 => ?_⟩
    · have h5 := h3.1 c4
      exact hq _ ySm.rf h5
    · have h6 := h3.2 c4
      obtain ⟨o11, h12⟩ := h6
      refine ⟨o11, ?_⟩
      exact fk5 _ _ _ _ (ySm.rf.set rfl) h12
theorem ffl_Program_landAt_50 {Q Q' : cS → Prop}  : ∀ (m : Nat) (s0 : cS) (x2 : Int) (x3 : Int) (x4 : Int), (∀ (A' : cS), ySm s0 A' [1] [] → Q A' → Q' A') → wc_Program_landAt_5 Q  m s0 x2 x3 x4 → wc_Program_landAt_5 Q'  m s0 x2 x3 x4 := by
  intro m
  induction m with
  | zero => intro s0 x2 x3 x4 hq  hw; exact hw
  | succ m ih => intro s0 x2 x3 x4 hq  hw; exact ffb_Program_landAt_5 hq  (fun A' y0 y1 y2 f1 q => ih A' y0 y1 y2 (fun A' f q => hq A' (f1.tr f rfl rfl) q)  q) hw
theorem ffm_Program_landAt {s0 : cS} {a0 : Int} {a1 : Int} {Q Q' : cS → Prop} (hw : wc_Program_landAt s0 a0 a1 Q) (hq : ∀ (A' : cS), ySm s0 A' [1] [] → Q A' → Q' A') : wc_Program_landAt s0 a0 a1 Q' := by
  unfold wc_Program_landAt at hw ⊢
  obtain ⟨m1, h2⟩ := hw
  exact ⟨m1, ffl_Program_landAt_50 m1 _ _ _ _ (fun A' f q => hq A' (ySm.rf.tr f rfl rfl) q)  h2⟩
theorem ffm_W_worked {s0 : cS} {a0 : Int} {a1 : Int} {a2 : Int} {Q Q' : Int → cS → Prop} (hw : wc_W_worked s0 a0 a1 a2 Q) (hq : ∀ (e : Int) (A' : cS), ySm s0 A' [] [] → Q e A' → Q' e A') : wc_W_worked s0 a0 a1 a2 Q' := by
  unfold wc_W_worked at hw ⊢
  refine ⟨fun g1 => ?_, ?_⟩
  · have h3 := (hw.1) g1
    intro z4 e5 R6
    have h7 := h3 z4 e5 R6
    exact hq _ _ ySm.rf h7
  · skip
    refine ⟨fun g8 => ?_, ?_⟩
    · have h10 := (hw.2.1) g8
      intro z11 e12 R13
      have h14 := h10 z11 e12 R13
      exact hq _ _ ySm.rf h14
    · skip
      refine ⟨fun g15 => ?_, ?_⟩
      · have h17 := (hw.2.2.1) g15
        intro z18 e19 R20
        have h21 := h17 z18 e19 R20
        exact hq _ _ ySm.rf h21
      · skip
        refine ⟨fun g22 => ?_, ?_⟩
        · have h24 := (hw.2.2.2.1) g22
          refine ⟨fun c25 => ?_, fun c25 => ?_⟩
          · have h26 := h24.1 c25
            obtain ⟨o27, h28⟩ := h26
            refine ⟨o27, ?_⟩
            exact hq _ _ ySm.rf h28
          · have h29 := h24.2 c25
            exact hq _ _ ySm.rf h29
        · skip
          refine ⟨fun g30 => ?_, ?_⟩
          · have h32 := (hw.2.2.2.2.1) g30
            refine ⟨fun c33 => ?_, fun c33 => ?_⟩
            · have h34 := h32.1 c33
              exact hq _ _ ySm.rf h34
            · have h35 := h32.2 c33
              refine ⟨fun c36 => ?_, fun c36 => ?_⟩
              · have h37 := h35.1 c36
                exact hq _ _ ySm.rf h37
              · have h38 := h35.2 c36
                exact hq _ _ ySm.rf h38
          · skip
            refine ⟨fun g39 => ?_, ?_⟩
            · have h41 := (hw.2.2.2.2.2.1) g39
              refine ⟨fun c42 => ?_, fun c42 => ?_⟩
              · have h43 := h41.1 c42
                exact hq _ _ ySm.rf h43
              · have h44 := h41.2 c42
                refine ⟨fun c45 => ?_, fun c45 => ?_⟩
                · have h46 := h44.1 c45
                  exact hq _ _ ySm.rf h46
                · have h47 := h44.2 c45
                  exact hq _ _ ySm.rf h47
            · skip
              refine ⟨fun g48 => ?_, ?_⟩
              · have h50 := (hw.2.2.2.2.2.2.1) g48
                exact hq _ _ ySm.rf h50
              · skip
                refine ⟨fun g51 => ?_, ?_⟩
                · have h53 := (hw.2.2.2.2.2.2.2.1) g51
                  exact hq _ _ ySm.rf h53
                · skip
                  refine ⟨fun g54 => ?_, ?_⟩
                  · have h56 := (hw.2.2.2.2.2.2.2.2.1) g54
                    exact hq _ _ ySm.rf h56
                  · skip
                    refine ⟨fun g57 => ?_, ?_⟩
                    · have h59 := (hw.2.2.2.2.2.2.2.2.2.1) g57
                      refine ⟨fun c60 => ?_, fun c60 => ?_⟩
                      · have h61 := h59.1 c60
                        obtain ⟨o62, h63⟩ := h61
                        refine ⟨o62, ?_⟩
                        intro z64 e65 R66
                        have h67 := h63 z64 e65 R66
                        exact hq _ _ ySm.rf h67
                      · have h68 := h59.2 c60
                        exact hq _ _ ySm.rf h68
                    · skip
                      intro ng1 ng8 ng15 ng22 ng30 ng39 ng48 ng51 ng54 ng57
                      have h69 := hw.2.2.2.2.2.2.2.2.2.2 ng1 ng8 ng15 ng22 ng30 ng39 ng48 ng51 ng54 ng57
                      exact hq _ _ ySm.rf h69
theorem ffm_W_holds {s0 : cS} {a0 : Int} {a1 : Int} {a2 : Int} {Q Q' : Int → cS → Prop} (hw : wc_W_holds s0 a0 a1 a2 Q) (hq : ∀ (e : Int) (A' : cS), ySm s0 A' [] [] → Q e A' → Q' e A') : wc_W_holds s0 a0 a1 a2 Q' := by
  unfold wc_W_holds at hw ⊢
  refine ⟨fun g1 => ?_, ?_⟩
  · have h3 := (hw.1) g1
    refine ⟨fun c4 => ?_, fun c4 => ?_⟩
    · have h5 := h3.1 c4
      exact hq _ _ ySm.rf h5
    · have h6 := h3.2 c4
      exact hq _ _ ySm.rf h6
  · skip
    refine ⟨fun g7 => ?_, ?_⟩
    · have h9 := (hw.2.1) g7
      refine ⟨fun c10 => ?_, fun c10 => ?_⟩
      · have h11 := h9.1 c10
        exact hq _ _ ySm.rf h11
      · have h12 := h9.2 c10
        exact hq _ _ ySm.rf h12
    · skip
      refine ⟨fun g13 => ?_, ?_⟩
      · have h15 := (hw.2.2.1) g13
        refine ⟨fun c16 => ?_, fun c16 => ?_⟩
        · have h17 := h15.1 c16
          exact hq _ _ ySm.rf h17
        · have h18 := h15.2 c16
          exact hq _ _ ySm.rf h18
      · skip
        refine ⟨fun g19 => ?_, ?_⟩
        · have h21 := (hw.2.2.2.1) g19
          refine ⟨fun c22 => ?_, fun c22 => ?_⟩
          · have h23 := h21.1 c22
            exact hq _ _ ySm.rf h23
          · have h24 := h21.2 c22
            exact hq _ _ ySm.rf h24
        · skip
          refine ⟨fun g25 => ?_, ?_⟩
          · have h27 := (hw.2.2.2.2.1) g25
            refine ⟨fun c28 => ?_, fun c28 => ?_⟩
            · have h29 := h27.1 c28
              exact hq _ _ ySm.rf h29
            · have h30 := h27.2 c28
              exact hq _ _ ySm.rf h30
          · skip
            intro ng1 ng7 ng13 ng19 ng25
            have h31 := hw.2.2.2.2.2 ng1 ng7 ng13 ng19 ng25
            refine ⟨fun c32 => ?_, fun c32 => ?_⟩
            · have h33 := h31.1 c32
              exact hq _ _ ySm.rf h33
            · have h34 := h31.2 c32
              exact hq _ _ ySm.rf h34
theorem ffm_W_isRelation {s0 : cS} {a0 : Int} {Q Q' : Int → cS → Prop} (hw : wc_W_isRelation s0 a0 Q) (hq : ∀ (e : Int) (A' : cS), ySm s0 A' [] [] → Q e A' → Q' e A') : wc_W_isRelation s0 a0 Q' := by
  unfold wc_W_isRelation at hw ⊢
  refine ⟨fun c1 => ?_, fun c1 => ?_⟩
  · have h2 := hw.1 c1
    exact hq _ _ ySm.rf h2
  · have h3 := hw.2 c1
    refine ⟨fun c4 => ?_, fun c4 => ?_⟩
    · have h5 := h3.1 c4
      exact hq _ _ ySm.rf h5
    · have h6 := h3.2 c4
      exact hq _ _ ySm.rf h6
theorem ffm_W_power {s0 : cS} {a0 : Int} {Q Q' : Int → cS → Prop} (hw : wc_W_power s0 a0 Q) (hq : ∀ (e : Int) (A' : cS), ySm s0 A' [] [] → Q e A' → Q' e A') : wc_W_power s0 a0 Q' := by
  unfold wc_W_power at hw ⊢
  refine ⟨fun g1 => ?_, ?_⟩
  · have h3 := (hw.1) g1
    exact hq _ _ ySm.rf h3
  · skip
    refine ⟨fun g4 => ?_, ?_⟩
    · have h6 := (hw.2.1) g4
      exact hq _ _ ySm.rf h6
    · skip
      refine ⟨fun g7 => ?_, ?_⟩
      · have h9 := (hw.2.2.1) g7
        exact hq _ _ ySm.rf h9
      · skip
        refine ⟨fun g10 => ?_, ?_⟩
        · have h12 := (hw.2.2.2.1) g10
          exact hq _ _ ySm.rf h12
        · skip
          refine ⟨fun g13 => ?_, ?_⟩
          · have h15 := (hw.2.2.2.2.1) g13
            exact hq _ _ ySm.rf h15
          · skip
            refine ⟨fun g16 => ?_, ?_⟩
            · have h18 := (hw.2.2.2.2.2.1) g16
              exact hq _ _ ySm.rf h18
            · skip
              intro ng1 ng4 ng7 ng10 ng13 ng16
              have h19 := hw.2.2.2.2.2.2 ng1 ng4 ng7 ng10 ng13 ng16
              refine ffm_W_isRelation h19 (fun r20 A21 f1 h27 => ?_)
              refine ⟨fun c28 => ?_, fun c28 => ?_⟩
              · have h29 := h27.1 c28
                exact hq _ _ (ySm.rf.tr f1 rfl rfl) h29
              · have h30 := h27.2 c28
                exact hq _ _ (ySm.rf.tr f1 rfl rfl) h30
theorem ffm_W_isDivision {s0 : cS} {a0 : Int} {Q Q' : Int → cS → Prop} (hw : wc_W_isDivision s0 a0 Q) (hq : ∀ (e : Int) (A' : cS), ySm s0 A' [] [] → Q e A' → Q' e A') : wc_W_isDivision s0 a0 Q' := by
  unfold wc_W_isDivision at hw ⊢
  refine ⟨fun c1 => ?_, fun c1 => ?_⟩
  · have h2 := hw.1 c1
    exact hq _ _ ySm.rf h2
  · have h3 := hw.2 c1
    refine ⟨fun c4 => ?_, fun c4 => ?_⟩
    · have h5 := h3.1 c4
      exact hq _ _ ySm.rf h5
    · have h6 := h3.2 c4
      exact hq _ _ ySm.rf h6
theorem ffm_Scope_cut {s0 : cS} {a0 : Int} {Q Q' : cS → Prop} (hw : wc_Scope_cut s0 a0 Q) (hq : ∀ (A' : cS), ySm s0 A' [27, 28, 29, 30, 31] [] → Q A' → Q' A') : wc_Scope_cut s0 a0 Q' := by
  unfold wc_Scope_cut at hw ⊢
  exact hq _ (((((ySm.rf.cut rfl).cut rfl).cut rfl).cut rfl).cut rfl) hw
theorem ffm_Scope_put {s0 : cS} {a0 : Int} {a1 : Int} {a2 : Int} {a3 : Int} {a4 : Int} {Q Q' : Int → cS → Prop} (hw : wc_Scope_put s0 a0 a1 a2 a3 a4 Q) (hq : ∀ (e : Int) (A' : cS), ySm s0 A' [27, 28, 29, 30, 31] [] → Q e A' → Q' e A') : wc_Scope_put s0 a0 a1 a2 a3 a4 Q' := by
  unfold wc_Scope_put at hw ⊢
  obtain ⟨o5, h6⟩ := hw
  refine ⟨o5, ?_⟩
  obtain ⟨o11, h12⟩ := h6
  refine ⟨o11, ?_⟩
  obtain ⟨o17, h18⟩ := h12
  refine ⟨o17, ?_⟩
  obtain ⟨o23, h24⟩ := h18
  refine ⟨o23, ?_⟩
  obtain ⟨o29, h30⟩ := h24
  refine ⟨o29, ?_⟩
  obtain ⟨o31, h32⟩ := h30
  refine ⟨o31, ?_⟩
  exact hq _ _ (((((ySm.rf.add rfl).add rfl).add rfl).add rfl).add rfl) h32
theorem ffb_Scope_clear_20 {Q Q' : cS → Prop} {k20 k20' : cS → Int → Prop} {s0 : cS} {x1 : Int} (hq : ∀ (A' : cS), ySm s0 A' [27, 28, 29, 30, 31, 32] [37] → Q A' → Q' A') (fk20 : ∀ (A' : cS) (x0 : Int), ySm s0 A' [27, 28, 29, 30, 31, 32] [37] → k20 A' x0 → k20' A' x0) (hw : wc_Scope_clear_20B Q k20 s0 x1) : wc_Scope_clear_20B Q' k20' s0 x1 := by
  unfold wc_Scope_clear_20B at hw ⊢
  refine ⟨fun c1 => ?_, fun c1 => ?_⟩
  · have h2 := hw.1 c1
    exact hq _ ySm.rf h2
  · have h3 := hw.2 c1
    obtain ⟨o4, h5⟩ := h3
    refine ⟨o4, ?_⟩
    obtain ⟨o6, h7⟩ := h5
    refine ⟨o6, ?_⟩
    refine ffm_Scope_put h7 (fun r8 A9 f1 h15 => ?_)
    obtain ⟨o16, h17⟩ := h15
    refine ⟨o16, ?_⟩
    exact fk20 _ _ (ySm.rf.tr f1 rfl rfl) h17
theorem ffl_Scope_clear_200 {Q Q' : cS → Prop}  : ∀ (m : Nat) (s0 : cS) (x1 : Int), (∀ (A' : cS), ySm s0 A' [27, 28, 29, 30, 31, 32] [37] → Q A' → Q' A') → wc_Scope_clear_20 Q  m s0 x1 → wc_Scope_clear_20 Q'  m s0 x1 := by
  intro m
  induction m with
  | zero => intro s0 x1 hq  hw; exact hw
  | succ m ih => intro s0 x1 hq  hw; exact ffb_Scope_clear_20 hq  (fun A' y0 f1 q => ih A' y0 (fun A' f q => hq A' (f1.tr f rfl rfl) q)  q) hw
theorem ffm_Scope_clear {s0 : cS}  {Q Q' : cS → Prop} (hw : wc_Scope_clear s0  Q) (hq : ∀ (A' : cS), ySm s0 A' [27, 28, 29, 30, 31, 32] [37] → Q A' → Q' A') : wc_Scope_clear s0  Q' := by
  unfold wc_Scope_clear at hw ⊢
  refine ffm_Scope_cut hw (fun A2 f1 h8 => ?_)
  obtain ⟨m24, h25⟩ := h8
  exact ⟨m24, ffl_Scope_clear_200 m24 _ _ (fun A' f q => hq A' ((((ySm.rf.tr f1 rfl rfl).cut rfl).pv rfl).tr f rfl rfl) q)  h25⟩
theorem ffm_Scope_open {s0 : cS}  {Q Q' : cS → Prop} (hw : wc_Scope_open s0  Q) (hq : ∀ (A' : cS), ySm s0 A' [32] [37] → Q A' → Q' A') : wc_Scope_open s0  Q' := by
  unfold wc_Scope_open at hw ⊢
  obtain ⟨o5, h6⟩ := hw
  refine ⟨o5, ?_⟩
  exact hq _ ((ySm.rf.add rfl).pv rfl) h6
theorem ffm_Scope_close {s0 : cS}  {Q Q' : cS → Prop} (hw : wc_Scope_close s0  Q) (hq : ∀ (A' : cS), ySm s0 A' [27, 28, 29, 30, 31, 32] [37] → Q A' → Q' A') : wc_Scope_close s0  Q' := by
  unfold wc_Scope_close at hw ⊢
  refine ffm_Scope_cut hw (fun A2 f1 h8 => ?_)
  exact hq _ (((ySm.rf.tr f1 rfl rfl).pop rfl).pv rfl) h8
theorem ffb_Scope_declare_9 {Q Q' : Int → cS → Prop} {k9 k9' : cS → Int → Int → Int → Int → Int → Int → Int → Prop} {s0 : cS} {x1 : Int} {x2 : Int} {x3 : Int} {x4 : Int} {x5 : Int} {x6 : Int} {x7 : Int} (hq : ∀ (e : Int) (A' : cS), ySm s0 A' [27, 28, 29, 30, 31] [4, 5] → Q e A' → Q' e A') (fk9 : ∀ (A' : cS) (x0 : Int) (x1 : Int) (x2 : Int) (x3 : Int) (x4 : Int) (x5 : Int) (x6 : Int), ySm s0 A' [27, 28, 29, 30, 31] [4, 5] → k9 A' x0 x1 x2 x3 x4 x5 x6 → k9' A' x0 x1 x2 x3 x4 x5 x6) (hw : wc_Scope_declare_9B Q k9 s0 x1 x2 x3 x4 x5 x6 x7) : wc_Scope_declare_9B Q' k9' s0 x1 x2 x3 x4 x5 x6 x7 := by
  unfold wc_Scope_declare_9B at hw ⊢
  refine ⟨fun c1 => ?_, fun c1 => ?_⟩
  · have h2 := hw.1 c1
    refine ffm_Scope_put h2 (fun r3 A4 f1 h10 => ?_)
    exact hq _ _ (ySm.rf.tr f1 rfl rfl) h10
  · have h11 := hw.2 c1
    refine ⟨fun c12 => ?_, fun c12 => ?_⟩
    · have h13 := h11.1 c12
      obtain ⟨o14, h15⟩ := h13
      refine ⟨o14, ?_⟩
      exact fk9 _ _ _ _ _ _ _ _ ySm.rf h15
    · have h16 := h11.2 c12
      refine ffm_Program_blame h16 (fun A18 f2 h24 => ?_)
      refine ⟨fun c25 => ?_, fun c25 => ?_⟩
      · have h26 := h24.1 c25
        obtain ⟨o27, h28⟩ := h26
        refine ⟨o27, ?_⟩
        exact fk9 _ _ _ _ _ _ _ _ (ySm.rf.tr f2 rfl rfl) h28
      · have h29 := h24.2 c25
        obtain ⟨o30, h31⟩ := h29
        refine ⟨o30, ?_⟩
        exact fk9 _ _ _ _ _ _ _ _ (ySm.rf.tr f2 rfl rfl) h31
theorem ffl_Scope_declare_90 {Q Q' : Int → cS → Prop}  : ∀ (m : Nat) (s0 : cS) (x1 : Int) (x2 : Int) (x3 : Int) (x4 : Int) (x5 : Int) (x6 : Int) (x7 : Int), (∀ (e : Int) (A' : cS), ySm s0 A' [27, 28, 29, 30, 31] [4, 5] → Q e A' → Q' e A') → wc_Scope_declare_9 Q  m s0 x1 x2 x3 x4 x5 x6 x7 → wc_Scope_declare_9 Q'  m s0 x1 x2 x3 x4 x5 x6 x7 := by
  intro m
  induction m with
  | zero => intro s0 x1 x2 x3 x4 x5 x6 x7 hq  hw; exact hw
  | succ m ih => intro s0 x1 x2 x3 x4 x5 x6 x7 hq  hw; exact ffb_Scope_declare_9 hq  (fun A' y0 y1 y2 y3 y4 y5 y6 f1 q => ih A' y0 y1 y2 y3 y4 y5 y6 (fun e A' f q => hq e A' (f1.tr f rfl rfl) q)  q) hw
theorem ffm_Scope_declare {s0 : cS} {a0 : Int} {a1 : Int} {a2 : Int} {a3 : Int} {a4 : Int} {Q Q' : Int → cS → Prop} (hw : wc_Scope_declare s0 a0 a1 a2 a3 a4 Q) (hq : ∀ (e : Int) (A' : cS), ySm s0 A' [27, 28, 29, 30, 31] [4, 5] → Q e A' → Q' e A') : wc_Scope_declare s0 a0 a1 a2 a3 a4 Q' := by
  unfold wc_Scope_declare at hw ⊢
  obtain ⟨m1, h2⟩ := hw
  exact ⟨m1, ffl_Scope_declare_90 m1 _ _ _ _ _ _ _ _ (fun e A' f q => hq e A' (ySm.rf.tr f rfl rfl) q)  h2⟩
theorem ffb_Scope_find_10 {Q Q' : Int → cS → Prop} {k10 k10' : cS → Int → Int → Prop} {s0 : cS} {x1 : Int} {x2 : Int} (hq : ∀ (e : Int) (A' : cS), ySm s0 A' [] [] → Q e A' → Q' e A') (fk10 : ∀ (A' : cS) (x0 : Int) (x1 : Int), ySm s0 A' [] [] → k10 A' x0 x1 → k10' A' x0 x1) (hw : wc_Scope_find_10B Q k10 s0 x1 x2) : wc_Scope_find_10B Q' k10' s0 x1 x2 := by
  unfold wc_Scope_find_10B at hw ⊢
  refine ⟨fun c1 => ?_, fun c1 => ?_⟩
  · have h2 := hw.1 c1
    exact hq _ _ ySm.rf h2
  · have h3 := hw.2 c1
    refine ⟨fun c4 => ?_, fun c4 => ?_⟩
    · have h5 := h3.1 c4
      obtain ⟨o6, h7⟩ := h5
      refine ⟨o6, ?_⟩
      exact fk10 _ _ _ ySm.rf h7
    · have h8 := h3.2 c4
      exact hq _ _ ySm.rf h8
theorem ffl_Scope_find_100 {Q Q' : Int → cS → Prop}  : ∀ (m : Nat) (s0 : cS) (x1 : Int) (x2 : Int), (∀ (e : Int) (A' : cS), ySm s0 A' [] [] → Q e A' → Q' e A') → wc_Scope_find_10 Q  m s0 x1 x2 → wc_Scope_find_10 Q'  m s0 x1 x2 := by
  intro m
  induction m with
  | zero => intro s0 x1 x2 hq  hw; exact hw
  | succ m ih => intro s0 x1 x2 hq  hw; exact ffb_Scope_find_10 hq  (fun A' y0 y1 f1 q => ih A' y0 y1 (fun e A' f q => hq e A' (f1.tr f rfl rfl) q)  q) hw
theorem ffm_Scope_find {s0 : cS} {a0 : Int} {Q Q' : Int → cS → Prop} (hw : wc_Scope_find s0 a0 Q) (hq : ∀ (e : Int) (A' : cS), ySm s0 A' [] [] → Q e A' → Q' e A') : wc_Scope_find s0 a0 Q' := by
  unfold wc_Scope_find at hw ⊢
  obtain ⟨o1, h2⟩ := hw
  refine ⟨o1, ?_⟩
  obtain ⟨m3, h4⟩ := h2
  exact ⟨m3, ffl_Scope_find_100 m3 _ _ _ (fun e A' f q => hq e A' (ySm.rf.tr f rfl rfl) q)  h4⟩
theorem ffm_Scope_kind {s0 : cS} {a0 : Int} {Q Q' : Int → cS → Prop} (hw : wc_Scope_kind s0 a0 Q) (hq : ∀ (e : Int) (A' : cS), ySm s0 A' [] [] → Q e A' → Q' e A') : wc_Scope_kind s0 a0 Q' := by
  unfold wc_Scope_kind at hw ⊢
  exact hq _ _ ySm.rf hw
theorem ffm_Scope_data {s0 : cS} {a0 : Int} {Q Q' : Int → cS → Prop} (hw : wc_Scope_data s0 a0 Q) (hq : ∀ (e : Int) (A' : cS), ySm s0 A' [] [] → Q e A' → Q' e A') : wc_Scope_data s0 a0 Q' := by
  unfold wc_Scope_data at hw ⊢
  exact hq _ _ ySm.rf hw
theorem ffm_Scope_owner {s0 : cS} {a0 : Int} {Q Q' : Int → cS → Prop} (hw : wc_Scope_owner s0 a0 Q) (hq : ∀ (e : Int) (A' : cS), ySm s0 A' [] [] → Q e A' → Q' e A') : wc_Scope_owner s0 a0 Q' := by
  unfold wc_Scope_owner at hw ⊢
  exact hq _ _ ySm.rf hw
theorem ffm_Scope_place {s0 : cS} {a0 : Int} {Q Q' : Int → cS → Prop} (hw : wc_Scope_place s0 a0 Q) (hq : ∀ (e : Int) (A' : cS), ySm s0 A' [] [] → Q e A' → Q' e A') : wc_Scope_place s0 a0 Q' := by
  unfold wc_Scope_place at hw ⊢
  exact hq _ _ ySm.rf hw
theorem ffm_Scope_setData {s0 : cS} {a0 : Int} {a1 : Int} {Q Q' : cS → Prop} (hw : wc_Scope_setData s0 a0 a1 Q) (hq : ∀ (A' : cS), ySm s0 A' [29] [] → Q A' → Q' A') : wc_Scope_setData s0 a0 a1 Q' := by
  unfold wc_Scope_setData at hw ⊢
  exact hq _ (ySm.rf.set rfl) hw
theorem ffm_Scope_setOwner {s0 : cS} {a0 : Int} {a1 : Int} {Q Q' : cS → Prop} (hw : wc_Scope_setOwner s0 a0 a1 Q) (hq : ∀ (A' : cS), ySm s0 A' [30] [] → Q A' → Q' A') : wc_Scope_setOwner s0 a0 a1 Q' := by
  unfold wc_Scope_setOwner at hw ⊢
  exact hq _ (ySm.rf.set rfl) hw
theorem ffb_Scanner_isAlike_62 {Q Q' : Int → cS → Prop} {k62 k62' : cS → Int → Int → Int → Int → Prop} {s0 : cS} {x3 : Int} {x4 : Int} {x5 : Int} {x7 : Int} (hq : ∀ (e : Int) (A' : cS), ySm s0 A' [] [] → Q e A' → Q' e A') (fk62 : ∀ (A' : cS) (x0 : Int) (x1 : Int) (x2 : Int) (x3 : Int), ySm s0 A' [] [] → k62 A' x0 x1 x2 x3 → k62' A' x0 x1 x2 x3) (hw : wc_Scanner_isAlike_62B Q k62 s0 x3 x4 x5 x7) : wc_Scanner_isAlike_62B Q' k62' s0 x3 x4 x5 x7 := by
  unfold wc_Scanner_isAlike_62B at hw ⊢
  obtain ⟨o1, h2⟩ := hw
  refine ⟨o1, ?_⟩
  refine ⟨fun c3 => ?_, fun c3 => ?_⟩
  · have h4 := h2.1 c3
    exact hq _ _ ySm.rf h4
  · have h5 := h2.2 c3
    intro z6 e7 R8
    have h9 := h5 z6 e7 R8
    obtain ⟨o10, h11⟩ := h9
    refine ⟨o10, ?_⟩
    refine ⟨fun c12 => ?_, fun c12 => ?_⟩
    · have h13 := h11.1 c12
      obtain ⟨o14, h15⟩ := h13
      refine ⟨o14, ?_⟩
      exact fk62 _ _ _ _ _ ySm.rf h15
    · have h16 := h11.2 c12
      exact hq _ _ ySm.rf h16
theorem ffl_Scanner_isAlike_620 {Q Q' : Int → cS → Prop}  : ∀ (m : Nat) (s0 : cS) (x3 : Int) (x4 : Int) (x5 : Int) (x7 : Int), (∀ (e : Int) (A' : cS), ySm s0 A' [] [] → Q e A' → Q' e A') → wc_Scanner_isAlike_62 Q  m s0 x3 x4 x5 x7 → wc_Scanner_isAlike_62 Q'  m s0 x3 x4 x5 x7 := by
  intro m
  induction m with
  | zero => intro s0 x3 x4 x5 x7 hq  hw; exact hw
  | succ m ih => intro s0 x3 x4 x5 x7 hq  hw; exact ffb_Scanner_isAlike_62 hq  (fun A' y0 y1 y2 y3 f1 q => ih A' y0 y1 y2 y3 (fun e A' f q => hq e A' (f1.tr f rfl rfl) q)  q) hw
theorem ffm_Scanner_isAlike {s0 : cS} {a0 : Int} {a2 : Int} {a3 : Int} {Q Q' : Int → cS → Prop} (hw : wc_Scanner_isAlike s0 a0 a2 a3 Q) (hq : ∀ (e : Int) (A' : cS), ySm s0 A' [] [] → Q e A' → Q' e A') : wc_Scanner_isAlike s0 a0 a2 a3 Q' := by
  unfold wc_Scanner_isAlike at hw ⊢
  obtain ⟨o1, h2⟩ := hw
  refine ⟨o1, ?_⟩
  refine ⟨fun c3 => ?_, fun c3 => ?_⟩
  · have h4 := h2.1 c3
    intro z5 e6 R7
    have h8 := h4 z5 e6 R7
    obtain ⟨o9, h10⟩ := h8
    refine ⟨o9, ?_⟩
    refine ⟨fun c11 => ?_, fun c11 => ?_⟩
    · have h12 := h10.1 c11
      obtain ⟨m13, h14⟩ := h12
      exact ⟨m13, ffl_Scanner_isAlike_620 m13 _ _ _ _ _ (fun e A' f q => hq e A' (ySm.rf.tr f rfl rfl) q)  h14⟩
    · have h15 := h10.2 c11
      exact hq _ _ ySm.rf h15
  · have h16 := h2.2 c3
    intro z17 e18 R19
    have h20 := h16 z17 e18 R19
    obtain ⟨o21, h22⟩ := h20
    refine ⟨o21, ?_⟩
    refine ⟨fun c23 => ?_, fun c23 => ?_⟩
    · have h24 := h22.1 c23
      obtain ⟨m25, h26⟩ := h24
      exact ⟨m25, ffl_Scanner_isAlike_620 m25 _ _ _ _ _ (fun e A' f q => hq e A' (ySm.rf.tr f rfl rfl) q)  h26⟩
    · have h27 := h22.2 c23
      exact hq _ _ ySm.rf h27
theorem ffb_Scanner_idOf_110 {Q Q' : Int → cS → Prop} {k110 k110' : cS → Int → Int → Prop} {s0 : cS} {x3 : Int} {x5 : Int} (hq : ∀ (e : Int) (A' : cS), ySm s0 A' [18, 19, 20] [] → Q e A' → Q' e A') (fk110 : ∀ (A' : cS) (x0 : Int) (x1 : Int), ySm s0 A' [18, 19, 20] [] → k110 A' x0 x1 → k110' A' x0 x1) (hw : wc_Scanner_idOf_110B Q k110 s0 x3 x5) : wc_Scanner_idOf_110B Q' k110' s0 x3 x5 := by
  unfold wc_Scanner_idOf_110B at hw ⊢
  refine ⟨fun c1 => ?_, fun c1 => ?_⟩
  · have h2 := hw.1 c1
    obtain ⟨o3, h4⟩ := h2
    refine ⟨o3, ?_⟩
    exact hq _ _ ySm.rf h4
  · have h5 := hw.2 c1
    obtain ⟨o10, h11⟩ := h5
    refine ⟨o10, ?_⟩
    obtain ⟨o12, h13⟩ := h11
    refine ⟨o12, ?_⟩
    exact fk110 _ _ _ (ySm.rf.add rfl) h13
theorem ffl_Scanner_idOf_1100 {Q Q' : Int → cS → Prop}  : ∀ (m : Nat) (s0 : cS) (x3 : Int) (x5 : Int), (∀ (e : Int) (A' : cS), ySm s0 A' [18, 19, 20] [] → Q e A' → Q' e A') → wc_Scanner_idOf_110 Q  m s0 x3 x5 → wc_Scanner_idOf_110 Q'  m s0 x3 x5 := by
  intro m
  induction m with
  | zero => intro s0 x3 x5 hq  hw; exact hw
  | succ m ih => intro s0 x3 x5 hq  hw; exact ffb_Scanner_idOf_110 hq  (fun A' y0 y1 f1 q => ih A' y0 y1 (fun e A' f q => hq e A' (f1.tr f rfl rfl) q)  q) hw
theorem ffb_Scanner_idOf_37 {Q Q' : Int → cS → Prop} {k37 k37' : cS → Int → Int → Int → Int → Prop} {s0 : cS} {x2 : Int} {x3 : Int} {x4 : Int} {x5 : Int} (hq : ∀ (e : Int) (A' : cS), ySm s0 A' [18, 19, 20] [] → Q e A' → Q' e A') (fk37 : ∀ (A' : cS) (x0 : Int) (x1 : Int) (x2 : Int) (x3 : Int), ySm s0 A' [18, 19, 20] [] → k37 A' x0 x1 x2 x3 → k37' A' x0 x1 x2 x3) (hw : wc_Scanner_idOf_37B Q k37 s0 x2 x3 x4 x5) : wc_Scanner_idOf_37B Q' k37' s0 x2 x3 x4 x5 := by
  unfold wc_Scanner_idOf_37B at hw ⊢
  refine ⟨fun c1 => ?_, fun c1 => ?_⟩
  · have h2 := hw.1 c1
    obtain ⟨o7, h8⟩ := h2
    refine ⟨o7, ?_⟩
    obtain ⟨o13, h14⟩ := h8
    refine ⟨o13, ?_⟩
    obtain ⟨m15, h16⟩ := h14
    exact ⟨m15, ffl_Scanner_idOf_1100 m15 _ _ _ (fun e A' f q => hq e A' (((ySm.rf.add rfl).add rfl).tr f rfl rfl) q)  h16⟩
  · have h17 := hw.2 c1
    refine ⟨fun c18 => ?_, fun c18 => ?_⟩
    · have h19 := h17.1 c18
      obtain ⟨o20, h21⟩ := h19
      refine ⟨o20, ?_⟩
      exact fk37 _ _ _ _ _ ySm.rf h21
    · have h22 := h17.2 c18
      refine ffm_Scanner_isAlike h22 (fun r23 A24 f1 h30 => ?_)
      refine ⟨fun c31 => ?_, fun c31 => ?_⟩
      · have h32 := h30.1 c31
        obtain ⟨o33, h34⟩ := h32
        refine ⟨o33, ?_⟩
        exact fk37 _ _ _ _ _ (ySm.rf.tr f1 rfl rfl) h34
      · have h35 := h30.2 c31
        exact hq _ _ (ySm.rf.tr f1 rfl rfl) h35
theorem ffl_Scanner_idOf_370 {Q Q' : Int → cS → Prop}  : ∀ (m : Nat) (s0 : cS) (x2 : Int) (x3 : Int) (x4 : Int) (x5 : Int), (∀ (e : Int) (A' : cS), ySm s0 A' [18, 19, 20] [] → Q e A' → Q' e A') → wc_Scanner_idOf_37 Q  m s0 x2 x3 x4 x5 → wc_Scanner_idOf_37 Q'  m s0 x2 x3 x4 x5 := by
  intro m
  induction m with
  | zero => intro s0 x2 x3 x4 x5 hq  hw; exact hw
  | succ m ih => intro s0 x2 x3 x4 x5 hq  hw; exact ffb_Scanner_idOf_37 hq  (fun A' y0 y1 y2 y3 f1 q => ih A' y0 y1 y2 y3 (fun e A' f q => hq e A' (f1.tr f rfl rfl) q)  q) hw
theorem ffb_Scanner_idOf_8 {Q Q' : Int → cS → Prop} {k8 k8' : cS → Int → Int → Int → Int → Prop} {s0 : cS} {x2 : Int} {x3 : Int} {x4 : Int} {x5 : Int} (hq : ∀ (e : Int) (A' : cS), ySm s0 A' [18, 19, 20] [] → Q e A' → Q' e A') (fk8 : ∀ (A' : cS) (x0 : Int) (x1 : Int) (x2 : Int) (x3 : Int), ySm s0 A' [18, 19, 20] [] → k8 A' x0 x1 x2 x3 → k8' A' x0 x1 x2 x3) (hw : wc_Scanner_idOf_8B Q k8 s0 x2 x3 x4 x5) : wc_Scanner_idOf_8B Q' k8' s0 x2 x3 x4 x5 := by
  unfold wc_Scanner_idOf_8B at hw ⊢
  refine ⟨fun c1 => ?_, fun c1 => ?_⟩
  · have h2 := hw.1 c1
    obtain ⟨m3, h4⟩ := h2
    exact ⟨m3, ffl_Scanner_idOf_370 m3 _ _ _ _ _ (fun e A' f q => hq e A' (ySm.rf.tr f rfl rfl) q)  h4⟩
  · have h5 := hw.2 c1
    intro z6 e7 R8
    have h9 := h5 z6 e7 R8
    obtain ⟨o10, h11⟩ := h9
    refine ⟨o10, ?_⟩
    exact fk8 _ _ _ _ _ ySm.rf h11
theorem ffl_Scanner_idOf_80 {Q Q' : Int → cS → Prop}  : ∀ (m : Nat) (s0 : cS) (x2 : Int) (x3 : Int) (x4 : Int) (x5 : Int), (∀ (e : Int) (A' : cS), ySm s0 A' [18, 19, 20] [] → Q e A' → Q' e A') → wc_Scanner_idOf_8 Q  m s0 x2 x3 x4 x5 → wc_Scanner_idOf_8 Q'  m s0 x2 x3 x4 x5 := by
  intro m
  induction m with
  | zero => intro s0 x2 x3 x4 x5 hq  hw; exact hw
  | succ m ih => intro s0 x2 x3 x4 x5 hq  hw; exact ffb_Scanner_idOf_8 hq  (fun A' y0 y1 y2 y3 f1 q => ih A' y0 y1 y2 y3 (fun e A' f q => hq e A' (f1.tr f rfl rfl) q)  q) hw
theorem ffm_Scanner_idOf {s0 : cS} {a1 : Int} {a2 : Int} {Q Q' : Int → cS → Prop} (hw : wc_Scanner_idOf s0 a1 a2 Q) (hq : ∀ (e : Int) (A' : cS), ySm s0 A' [18, 19, 20] [] → Q e A' → Q' e A') : wc_Scanner_idOf s0 a1 a2 Q' := by
  unfold wc_Scanner_idOf at hw ⊢
  obtain ⟨o1, h2⟩ := hw
  refine ⟨o1, ?_⟩
  obtain ⟨m3, h4⟩ := h2
  exact ⟨m3, ffl_Scanner_idOf_80 m3 _ _ _ _ _ (fun e A' f q => hq e A' (ySm.rf.tr f rfl rfl) q)  h4⟩
theorem ffb_Scanner_skipLine_2 {Q Q' : cS → Prop} {k2 k2' : cS → Int → Prop} {s0 : cS} {x1 : Int} (hq : ∀ (A' : cS), ySm s0 A' [] [8] → Q A' → Q' A') (fk2 : ∀ (A' : cS) (x0 : Int), ySm s0 A' [] [8] → k2 A' x0 → k2' A' x0) (hw : wc_Scanner_skipLine_2B Q k2 s0 x1) : wc_Scanner_skipLine_2B Q' k2' s0 x1 := by
  unfold wc_Scanner_skipLine_2B at hw ⊢
  refine ⟨fun c1 => ?_, fun c1 => ?_⟩
  · have h2 := hw.1 c1
    exact hq _ ySm.rf h2
  · have h3 := hw.2 c1
    refine ⟨fun c4 => ?_, fun c4 => ?_⟩
    · have h5 := h3.1 c4
      exact hq _ ySm.rf h5
    · have h6 := h3.2 c4
      refine ⟨fun c7 => ?_, fun c7 => ?_⟩
      · have h8 := h6.1 c7
        exact hq _ ySm.rf h8
      · have h9 := h6.2 c7
        obtain ⟨o10, h11⟩ := h9
        refine ⟨o10, ?_⟩
        obtain ⟨o23, h24⟩ := h11
        refine ⟨o23, ?_⟩
        exact fk2 _ _ (ySm.rf.pv rfl) h24
theorem ffl_Scanner_skipLine_20 {Q Q' : cS → Prop}  : ∀ (m : Nat) (s0 : cS) (x1 : Int), (∀ (A' : cS), ySm s0 A' [] [8] → Q A' → Q' A') → wc_Scanner_skipLine_2 Q  m s0 x1 → wc_Scanner_skipLine_2 Q'  m s0 x1 := by
  intro m
  induction m with
  | zero => intro s0 x1 hq  hw; exact hw
  | succ m ih => intro s0 x1 hq  hw; exact ffb_Scanner_skipLine_2 hq  (fun A' y0 f1 q => ih A' y0 (fun A' f q => hq A' (f1.tr f rfl rfl) q)  q) hw
theorem ffm_Scanner_skipLine {s0 : cS}  {Q Q' : cS → Prop} (hw : wc_Scanner_skipLine s0  Q) (hq : ∀ (A' : cS), ySm s0 A' [] [8] → Q A' → Q' A') : wc_Scanner_skipLine s0  Q' := by
  unfold wc_Scanner_skipLine at hw ⊢
  obtain ⟨m1, h2⟩ := hw
  exact ⟨m1, ffl_Scanner_skipLine_20 m1 _ _ (fun A' f q => hq A' (ySm.rf.tr f rfl rfl) q)  h2⟩
theorem ffj_Scanner_pass_70 {Q Q' : cS → Prop} {k2 k2' : cS → Int → Prop} {s0 : cS} {x1 : Int} {x2 : Int} (hq : ∀ (A' : cS), ySm s0 A' [] [8, 9] → Q A' → Q' A') (fk2 : ∀ (A' : cS) (x0 : Int), ySm s0 A' [] [8, 9] → k2 A' x0 → k2' A' x0) (hw : wc_Scanner_pass_70 Q k2 s0 x1 x2) : wc_Scanner_pass_70 Q' k2' s0 x1 x2 := by
  unfold wc_Scanner_pass_70 at hw ⊢
  refine ⟨fun c1 => ?_, fun c1 => ?_⟩
  · have h2 := hw.1 c1
    refine ⟨fun c3 => ?_, fun c3 => ?_⟩
    · have h4 := h2.1 c3
      obtain ⟨o5, h6⟩ := h4
      refine ⟨o5, ?_⟩
      obtain ⟨o18, h19⟩ := h6
      refine ⟨o18, ?_⟩
      exact fk2 _ _ (ySm.rf.pv rfl) h19
    · have h20 := h2.2 c3
      refine ⟨fun c21 => ?_, fun c21 => ?_⟩
      · have h22 := h20.1 c21
        obtain ⟨o23, h24⟩ := h22
        refine ⟨o23, ?_⟩
        obtain ⟨o36, h37⟩ := h24
        refine ⟨o36, ?_⟩
        exact fk2 _ _ (ySm.rf.pv rfl) h37
      · have h38 := h20.2 c21
        refine ⟨fun c39 => ?_, fun c39 => ?_⟩
        · have h40 := h38.1 c39
          exact hq _ ySm.rf h40
        · have h41 := h38.2 c39
          obtain ⟨o42, h43⟩ := h41
          refine ⟨o42, ?_⟩
          obtain ⟨o55, h56⟩ := h43
          refine ⟨o55, ?_⟩
          exact fk2 _ _ (ySm.rf.pv rfl) h56
  · have h57 := hw.2 c1
    obtain ⟨o69, h70⟩ := h57
    refine ⟨o69, ?_⟩
    obtain ⟨o82, h83⟩ := h70
    refine ⟨o82, ?_⟩
    exact fk2 _ _ ((ySm.rf.pv rfl).pv rfl) h83
theorem ffb_Scanner_pass_2 {Q Q' : cS → Prop} {k2 k2' : cS → Int → Prop} {s0 : cS} {x1 : Int} (hq : ∀ (A' : cS), ySm s0 A' [] [8, 9] → Q A' → Q' A') (fk2 : ∀ (A' : cS) (x0 : Int), ySm s0 A' [] [8, 9] → k2 A' x0 → k2' A' x0) (hw : wc_Scanner_pass_2B Q k2 s0 x1) : wc_Scanner_pass_2B Q' k2' s0 x1 := by
  unfold wc_Scanner_pass_2B at hw ⊢
  refine ⟨fun c1 => ?_, fun c1 => ?_⟩
  · have h2 := hw.1 c1
    exact hq _ ySm.rf h2
  · have h3 := hw.2 c1
    refine ⟨fun c4 => ?_, fun c4 => ?_⟩
    · have h5 := h3.1 c4
      exact hq _ ySm.rf h5
    · have h6 := h3.2 c4
      refine ⟨fun c7 => ?_, fun c7 => ?_⟩
      · have h8 := h6.1 c7
        exact ffj_Scanner_pass_70 (fun A' f q => hq A' (ySm.rf.tr f rfl rfl) q) (fun A' x0 f q => fk2 A' x0 (ySm.rf.tr f rfl rfl) q) h8
      · have h9 := h6.2 c7
        obtain ⟨o10, h11⟩ := h9
        refine ⟨o10, ?_⟩
        refine ⟨fun c12 => ?_, fun c12 => ?_⟩
        · have h13 := h11.1 c12
          exact ffj_Scanner_pass_70 (fun A' f q => hq A' (ySm.rf.tr f rfl rfl) q) (fun A' x0 f q => fk2 A' x0 (ySm.rf.tr f rfl rfl) q) h13
        · have h14 := h11.2 c12
          refine ffm_Scanner_skipLine h14 (fun A16 f1 h22 => ?_)
          obtain ⟨o23, h24⟩ := h22
          refine ⟨o23, ?_⟩
          exact fk2 _ _ (ySm.rf.tr f1 rfl rfl) h24
theorem ffl_Scanner_pass_20 {Q Q' : cS → Prop}  : ∀ (m : Nat) (s0 : cS) (x1 : Int), (∀ (A' : cS), ySm s0 A' [] [8, 9] → Q A' → Q' A') → wc_Scanner_pass_2 Q  m s0 x1 → wc_Scanner_pass_2 Q'  m s0 x1 := by
  intro m
  induction m with
  | zero => intro s0 x1 hq  hw; exact hw
  | succ m ih => intro s0 x1 hq  hw; exact ffb_Scanner_pass_2 hq  (fun A' y0 f1 q => ih A' y0 (fun A' f q => hq A' (f1.tr f rfl rfl) q)  q) hw
theorem ffm_Scanner_pass {s0 : cS}  {Q Q' : cS → Prop} (hw : wc_Scanner_pass s0  Q) (hq : ∀ (A' : cS), ySm s0 A' [] [8, 9] → Q A' → Q' A') : wc_Scanner_pass s0  Q' := by
  unfold wc_Scanner_pass at hw ⊢
  obtain ⟨m1, h2⟩ := hw
  exact ⟨m1, ffl_Scanner_pass_20 m1 _ _ (fun A' f q => hq A' (ySm.rf.tr f rfl rfl) q)  h2⟩
theorem ffm_Scanner_mayEnd {s0 : cS} {a0 : Int} {Q Q' : Int → cS → Prop} (hw : wc_Scanner_mayEnd s0 a0 Q) (hq : ∀ (e : Int) (A' : cS), ySm s0 A' [] [] → Q e A' → Q' e A') : wc_Scanner_mayEnd s0 a0 Q' := by
  unfold wc_Scanner_mayEnd at hw ⊢
  refine ⟨fun g1 => ?_, ?_⟩
  · have h3 := (hw.1) g1
    exact hq _ _ ySm.rf h3
  · skip
    intro ng1
    have h4 := hw.2 ng1
    exact hq _ _ ySm.rf h4
theorem ffj_Scanner_mayBegin_74 {Q Q' : Int → cS → Prop}  {s0 : cS} {x0 : Int} (hq : ∀ (e : Int) (A' : cS), ySm s0 A' [] [] → Q e A' → Q' e A')  (hw : wc_Scanner_mayBegin_74 Q  s0 x0) : wc_Scanner_mayBegin_74 Q'  s0 x0 := by
  unfold wc_Scanner_mayBegin_74 at hw ⊢
  refine ⟨fun c1 => ?_, fun c1 => ?_⟩
  · have h2 := hw.1 c1
    exact hq _ _ ySm.rf h2
  · have h3 := hw.2 c1
    refine ⟨fun c4 => ?_, fun c4 => ?_⟩
    · have h5 := h3.1 c4
      exact hq _ _ ySm.rf h5
    · have h6 := h3.2 c4
      exact hq _ _ ySm.rf h6
theorem ffm_Scanner_mayBegin {s0 : cS} {a0 : Int} {Q Q' : Int → cS → Prop} (hw : wc_Scanner_mayBegin s0 a0 Q) (hq : ∀ (e : Int) (A' : cS), ySm s0 A' [] [] → Q e A' → Q' e A') : wc_Scanner_mayBegin s0 a0 Q' := by
  unfold wc_Scanner_mayBegin at hw ⊢
  refine ⟨fun g1 => ?_, ?_⟩
  · have h3 := (hw.1) g1
    exact hq _ _ ySm.rf h3
  · skip
    intro ng1
    have h4 := hw.2 ng1
    exact ffj_Scanner_mayBegin_74 (fun e A' f q => hq e A' (ySm.rf.tr f rfl rfl) q)  h4
theorem ffj_Scanner_put_52 {Q Q' : cS → Prop}  {s0 : cS} {x1 : Int} {x2 : Int} {x3 : Int} (hq : ∀ (A' : cS), ySm s0 A' [14, 15, 16] [9] → Q A' → Q' A')  (hw : wc_Scanner_put_52 Q  s0 x1 x2 x3) : wc_Scanner_put_52 Q'  s0 x1 x2 x3 := by
  unfold wc_Scanner_put_52 at hw ⊢
  obtain ⟨o16, h17⟩ := hw
  refine ⟨o16, ?_⟩
  obtain ⟨o22, h23⟩ := h17
  refine ⟨o22, ?_⟩
  obtain ⟨o28, h29⟩ := h23
  refine ⟨o28, ?_⟩
  exact hq _ ((((ySm.rf.pv rfl).add rfl).add rfl).add rfl) h29
theorem ffm_Scanner_put {s0 : cS} {a0 : Int} {a1 : Int} {a2 : Int} {Q Q' : cS → Prop} (hw : wc_Scanner_put s0 a0 a1 a2 Q) (hq : ∀ (A' : cS), ySm s0 A' [14, 15, 16] [9] → Q A' → Q' A') : wc_Scanner_put s0 a0 a1 a2 Q' := by
  unfold wc_Scanner_put at hw ⊢
  refine ⟨fun c1 => ?_, fun c1 => ?_⟩
  · have h2 := hw.1 c1
    exact ffj_Scanner_put_52 (fun A' f q => hq A' (ySm.rf.tr f rfl rfl) q)  h2
  · have h3 := hw.2 c1
    refine ffm_Scanner_mayEnd h3 (fun r4 A5 f1 h11 => ?_)
    refine ⟨fun c12 => ?_, fun c12 => ?_⟩
    · have h13 := h11.1 c12
      exact ffj_Scanner_put_52 (fun A' f q => hq A' ((ySm.rf.tr f1 rfl rfl).tr f rfl rfl) q)  h13
    · have h14 := h11.2 c12
      refine ffm_Scanner_mayBegin h14 (fun r15 A16 f2 h22 => ?_)
      refine ⟨fun c23 => ?_, fun c23 => ?_⟩
      · have h24 := h22.1 c23
        exact ffj_Scanner_put_52 (fun A' f q => hq A' (((ySm.rf.tr f1 rfl rfl).tr f2 rfl rfl).tr f rfl rfl) q)  h24
      · have h25 := h22.2 c23
        obtain ⟨o30, h31⟩ := h25
        refine ⟨o30, ?_⟩
        obtain ⟨o36, h37⟩ := h31
        refine ⟨o36, ?_⟩
        obtain ⟨o42, h43⟩ := h37
        refine ⟨o42, ?_⟩
        exact ffj_Scanner_put_52 (fun A' f q => hq A' ((((((ySm.rf.tr f1 rfl rfl).tr f2 rfl rfl).add rfl).add rfl).add rfl).tr f rfl rfl) q)  h43
theorem ffm_Scanner_isLetter {s0 : cS} {a0 : Int} {Q Q' : Int → cS → Prop} (hw : wc_Scanner_isLetter s0 a0 Q) (hq : ∀ (e : Int) (A' : cS), ySm s0 A' [] [] → Q e A' → Q' e A') : wc_Scanner_isLetter s0 a0 Q' := by
  unfold wc_Scanner_isLetter at hw ⊢
  refine ⟨fun c1 => ?_, fun c1 => ?_⟩
  · have h2 := hw.1 c1
    refine ⟨fun c3 => ?_, fun c3 => ?_⟩
    · have h4 := h2.1 c3
      exact hq _ _ ySm.rf h4
    · have h5 := h2.2 c3
      refine ⟨fun c6 => ?_, fun c6 => ?_⟩
      · have h7 := h5.1 c6
        exact hq _ _ ySm.rf h7
      · have h8 := h5.2 c6
        exact hq _ _ ySm.rf h8
  · have h9 := hw.2 c1
    refine ⟨fun c10 => ?_, fun c10 => ?_⟩
    · have h11 := h9.1 c10
      exact hq _ _ ySm.rf h11
    · have h12 := h9.2 c10
      refine ⟨fun c13 => ?_, fun c13 => ?_⟩
      · have h14 := h12.1 c13
        exact hq _ _ ySm.rf h14
      · have h15 := h12.2 c13
        refine ⟨fun c16 => ?_, fun c16 => ?_⟩
        · have h17 := h15.1 c16
          exact hq _ _ ySm.rf h17
        · have h18 := h15.2 c16
          exact hq _ _ ySm.rf h18
theorem ffm_Scanner_isDigit {s0 : cS} {a0 : Int} {Q Q' : Int → cS → Prop} (hw : wc_Scanner_isDigit s0 a0 Q) (hq : ∀ (e : Int) (A' : cS), ySm s0 A' [] [] → Q e A' → Q' e A') : wc_Scanner_isDigit s0 a0 Q' := by
  unfold wc_Scanner_isDigit at hw ⊢
  refine ⟨fun c1 => ?_, fun c1 => ?_⟩
  · have h2 := hw.1 c1
    exact hq _ _ ySm.rf h2
  · have h3 := hw.2 c1
    refine ⟨fun c4 => ?_, fun c4 => ?_⟩
    · have h5 := h3.1 c4
      exact hq _ _ ySm.rf h5
    · have h6 := h3.2 c4
      exact hq _ _ ySm.rf h6
theorem ffm_Scanner_isRest {s0 : cS} {a0 : Int} {Q Q' : Int → cS → Prop} (hw : wc_Scanner_isRest s0 a0 Q) (hq : ∀ (e : Int) (A' : cS), ySm s0 A' [] [] → Q e A' → Q' e A') : wc_Scanner_isRest s0 a0 Q' := by
  unfold wc_Scanner_isRest at hw ⊢
  refine ffm_Scanner_isLetter hw (fun r1 A2 f1 h8 => ?_)
  refine ⟨fun c9 => ?_, fun c9 => ?_⟩
  · have h10 := h8.1 c9
    exact hq _ _ (ySm.rf.tr f1 rfl rfl) h10
  · have h11 := h8.2 c9
    refine ffm_Scanner_isDigit h11 (fun r12 A13 f2 h19 => ?_)
    refine ⟨fun c20 => ?_, fun c20 => ?_⟩
    · have h21 := h19.1 c20
      exact hq _ _ ((ySm.rf.tr f1 rfl rfl).tr f2 rfl rfl) h21
    · have h22 := h19.2 c20
      refine ⟨fun c23 => ?_, fun c23 => ?_⟩
      · have h24 := h22.1 c23
        exact hq _ _ ((ySm.rf.tr f1 rfl rfl).tr f2 rfl rfl) h24
      · have h25 := h22.2 c23
        refine ⟨fun c26 => ?_, fun c26 => ?_⟩
        · have h27 := h25.1 c26
          exact hq _ _ ((ySm.rf.tr f1 rfl rfl).tr f2 rfl rfl) h27
        · have h28 := h25.2 c26
          exact hq _ _ ((ySm.rf.tr f1 rfl rfl).tr f2 rfl rfl) h28
theorem ffb_Scanner_restEnd_2 {Q Q' : Int → cS → Prop} {k2 k2' : cS → Int → Prop} {s0 : cS} {x2 : Int} (hq : ∀ (e : Int) (A' : cS), ySm s0 A' [] [] → Q e A' → Q' e A') (fk2 : ∀ (A' : cS) (x0 : Int), ySm s0 A' [] [] → k2 A' x0 → k2' A' x0) (hw : wc_Scanner_restEnd_2B Q k2 s0 x2) : wc_Scanner_restEnd_2B Q' k2' s0 x2 := by
  unfold wc_Scanner_restEnd_2B at hw ⊢
  refine ⟨fun c1 => ?_, fun c1 => ?_⟩
  · have h2 := hw.1 c1
    exact hq _ _ ySm.rf h2
  · have h3 := hw.2 c1
    refine ffm_Scanner_isRest h3 (fun r4 A5 f1 h11 => ?_)
    refine ⟨fun c12 => ?_, fun c12 => ?_⟩
    · have h13 := h11.1 c12
      exact hq _ _ (ySm.rf.tr f1 rfl rfl) h13
    · have h14 := h11.2 c12
      obtain ⟨o15, h16⟩ := h14
      refine ⟨o15, ?_⟩
      exact fk2 _ _ (ySm.rf.tr f1 rfl rfl) h16
theorem ffl_Scanner_restEnd_20 {Q Q' : Int → cS → Prop}  : ∀ (m : Nat) (s0 : cS) (x2 : Int), (∀ (e : Int) (A' : cS), ySm s0 A' [] [] → Q e A' → Q' e A') → wc_Scanner_restEnd_2 Q  m s0 x2 → wc_Scanner_restEnd_2 Q'  m s0 x2 := by
  intro m
  induction m with
  | zero => intro s0 x2 hq  hw; exact hw
  | succ m ih => intro s0 x2 hq  hw; exact ffb_Scanner_restEnd_2 hq  (fun A' y0 f1 q => ih A' y0 (fun e A' f q => hq e A' (f1.tr f rfl rfl) q)  q) hw
theorem ffm_Scanner_restEnd {s0 : cS} {a0 : Int} {Q Q' : Int → cS → Prop} (hw : wc_Scanner_restEnd s0 a0 Q) (hq : ∀ (e : Int) (A' : cS), ySm s0 A' [] [] → Q e A' → Q' e A') : wc_Scanner_restEnd s0 a0 Q' := by
  unfold wc_Scanner_restEnd at hw ⊢
  obtain ⟨m1, h2⟩ := hw
  exact ⟨m1, ffl_Scanner_restEnd_20 m1 _ _ (fun e A' f q => hq e A' (ySm.rf.tr f rfl rfl) q)  h2⟩
theorem ffm_Scanner_name {s0 : cS} {a0 : Int} {Q Q' : cS → Prop} (hw : wc_Scanner_name s0 a0 Q) (hq : ∀ (A' : cS), ySm s0 A' [14, 15, 16, 18, 19, 20] [8, 9] → Q A' → Q' A') : wc_Scanner_name s0 a0 Q' := by
  unfold wc_Scanner_name at hw ⊢
  refine ffm_Scanner_restEnd hw (fun r1 A2 f1 h8 => ?_)
  obtain ⟨o20, h21⟩ := h8
  refine ⟨o20, ?_⟩
  refine ⟨fun c22 => ?_, fun c22 => ?_⟩
  · have h23 := h21.1 c22
    refine ffm_Scanner_idOf h23 (fun r24 A25 f2 h31 => ?_)
    refine ⟨fun c32 => ?_, fun c32 => ?_⟩
    · have h33 := h31.1 c32
      obtain ⟨o34, h35⟩ := h33
      refine ⟨o34, ?_⟩
      refine ⟨fun c36 => ?_, fun c36 => ?_⟩
      · have h37 := h35.1 c36
        refine ⟨fun c38 => ?_, fun c38 => ?_⟩
        · have h39 := h37.1 c38
          refine ⟨fun c40 => ?_, fun c40 => ?_⟩
          · have h41 := h39.1 c40
            refine ffm_Scanner_put h41 (fun A43 f3 h49 => ?_)
            exact hq _ ((((ySm.rf.tr f1 rfl rfl).pv rfl).tr f2 rfl rfl).tr f3 rfl rfl) h49
          · have h50 := h39.2 c40
            refine ffm_Scanner_put h50 (fun A52 f4 h58 => ?_)
            exact hq _ ((((ySm.rf.tr f1 rfl rfl).pv rfl).tr f2 rfl rfl).tr f4 rfl rfl) h58
        · have h59 := h37.2 c38
          refine ffm_Scanner_put h59 (fun A61 f5 h67 => ?_)
          exact hq _ ((((ySm.rf.tr f1 rfl rfl).pv rfl).tr f2 rfl rfl).tr f5 rfl rfl) h67
      · have h68 := h35.2 c36
        refine ffm_Scanner_put h68 (fun A70 f6 h76 => ?_)
        exact hq _ ((((ySm.rf.tr f1 rfl rfl).pv rfl).tr f2 rfl rfl).tr f6 rfl rfl) h76
    · have h77 := h31.2 c32
      refine ffm_Scanner_put h77 (fun A79 f7 h85 => ?_)
      exact hq _ ((((ySm.rf.tr f1 rfl rfl).pv rfl).tr f2 rfl rfl).tr f7 rfl rfl) h85
  · have h86 := h21.2 c22
    refine ffm_Scanner_put h86 (fun A88 f8 h94 => ?_)
    exact hq _ (((ySm.rf.tr f1 rfl rfl).pv rfl).tr f8 rfl rfl) h94
theorem ffm_Scanner_digitOf {s0 : cS} {a0 : Int} {Q Q' : Int → cS → Prop} (hw : wc_Scanner_digitOf s0 a0 Q) (hq : ∀ (e : Int) (A' : cS), ySm s0 A' [] [] → Q e A' → Q' e A') : wc_Scanner_digitOf s0 a0 Q' := by
  unfold wc_Scanner_digitOf at hw ⊢
  refine ffm_Scanner_isDigit hw (fun r1 A2 f1 h8 => ?_)
  refine ⟨fun c9 => ?_, fun c9 => ?_⟩
  · have h10 := h8.1 c9
    refine ⟨fun c11 => ?_, fun c11 => ?_⟩
    · have h12 := h10.1 c11
      exact hq _ _ (ySm.rf.tr f1 rfl rfl) h12
    · have h13 := h10.2 c11
      refine ⟨fun c14 => ?_, fun c14 => ?_⟩
      · have h15 := h13.1 c14
        exact hq _ _ (ySm.rf.tr f1 rfl rfl) h15
      · have h16 := h13.2 c14
        obtain ⟨o17, h18⟩ := h16
        refine ⟨o17, ?_⟩
        exact hq _ _ (ySm.rf.tr f1 rfl rfl) h18
  · have h19 := h8.2 c9
    obtain ⟨o20, h21⟩ := h19
    refine ⟨o20, ?_⟩
    exact hq _ _ (ySm.rf.tr f1 rfl rfl) h21
theorem ffj_Scanner_number_100 {Q Q' : cS → Prop}  {s0 : cS} {x1 : Int} {x2 : Int} {x4 : Int} (hq : ∀ (A' : cS), ySm s0 A' [14, 15, 16] [8, 9] → Q A' → Q' A')  (hw : wc_Scanner_number_100 Q  s0 x1 x2 x4) : wc_Scanner_number_100 Q'  s0 x1 x2 x4 := by
  unfold wc_Scanner_number_100 at hw ⊢
  refine ⟨fun c1 => ?_, fun c1 => ?_⟩
  · have h2 := hw.1 c1
    intro z3 e4 R5
    have h6 := h2 z3 e4 R5
    refine ffm_Scanner_put h6 (fun A8 f1 h14 => ?_)
    exact hq _ (ySm.rf.tr f1 rfl rfl) h14
  · have h15 := hw.2 c1
    refine ⟨fun c16 => ?_, fun c16 => ?_⟩
    · have h17 := h15.1 c16
      intro z18 e19 R20
      have h21 := h17 z18 e19 R20
      refine ffm_Scanner_put h21 (fun A23 f2 h29 => ?_)
      exact hq _ (ySm.rf.tr f2 rfl rfl) h29
    · have h30 := h15.2 c16
      intro z31 e32 R33
      have h34 := h30 z31 e32 R33
      refine ffm_Scanner_put h34 (fun A36 f3 h42 => ?_)
      exact hq _ (ySm.rf.tr f3 rfl rfl) h42
theorem ffb_Scanner_number_11 {Q Q' : cS → Prop} {k11 k11' : cS → Int → Int → Int → Int → Int → Prop} {s0 : cS} {x1 : Int} {x2 : Int} {x3 : Int} {x4 : Int} {x6 : Int} (hq : ∀ (A' : cS), ySm s0 A' [14, 15, 16] [8, 9] → Q A' → Q' A') (fk11 : ∀ (A' : cS) (x0 : Int) (x1 : Int) (x2 : Int) (x3 : Int) (x4 : Int), ySm s0 A' [14, 15, 16] [8, 9] → k11 A' x0 x1 x2 x3 x4 → k11' A' x0 x1 x2 x3 x4) (hw : wc_Scanner_number_11B Q k11 s0 x1 x2 x3 x4 x6) : wc_Scanner_number_11B Q' k11' s0 x1 x2 x3 x4 x6 := by
  unfold wc_Scanner_number_11B at hw ⊢
  refine ⟨fun c1 => ?_, fun c1 => ?_⟩
  · have h2 := hw.1 c1
    exact ffj_Scanner_number_100 (fun A' f q => hq A' (ySm.rf.tr f rfl rfl) q)  h2
  · have h3 := hw.2 c1
    refine ⟨fun c4 => ?_, fun c4 => ?_⟩
    · have h5 := h3.1 c4
      exact ffj_Scanner_number_100 (fun A' f q => hq A' (ySm.rf.tr f rfl rfl) q)  h5
    · have h6 := h3.2 c4
      refine ffm_Scanner_digitOf h6 (fun r7 A8 f1 h14 => ?_)
      refine ⟨fun c15 => ?_, fun c15 => ?_⟩
      · have h16 := h14.1 c15
        exact ffj_Scanner_number_100 (fun A' f q => hq A' ((ySm.rf.tr f1 rfl rfl).tr f rfl rfl) q)  h16
      · have h17 := h14.2 c15
        refine ffm_Scanner_digitOf h17 (fun r18 A19 f2 h25 => ?_)
        obtain ⟨o26, h27⟩ := h25
        refine ⟨o26, ?_⟩
        obtain ⟨o28, h29⟩ := h27
        refine ⟨o28, ?_⟩
        obtain ⟨o41, h42⟩ := h29
        refine ⟨o41, ?_⟩
        exact fk11 _ _ _ _ _ _ (((ySm.rf.tr f1 rfl rfl).tr f2 rfl rfl).pv rfl) h42
theorem ffl_Scanner_number_110 {Q Q' : cS → Prop}  : ∀ (m : Nat) (s0 : cS) (x1 : Int) (x2 : Int) (x3 : Int) (x4 : Int) (x6 : Int), (∀ (A' : cS), ySm s0 A' [14, 15, 16] [8, 9] → Q A' → Q' A') → wc_Scanner_number_11 Q  m s0 x1 x2 x3 x4 x6 → wc_Scanner_number_11 Q'  m s0 x1 x2 x3 x4 x6 := by
  intro m
  induction m with
  | zero => intro s0 x1 x2 x3 x4 x6 hq  hw; exact hw
  | succ m ih => intro s0 x1 x2 x3 x4 x6 hq  hw; exact ffb_Scanner_number_11 hq  (fun A' y0 y1 y2 y3 y4 f1 q => ih A' y0 y1 y2 y3 y4 (fun A' f q => hq A' (f1.tr f rfl rfl) q)  q) hw
theorem ffm_Scanner_number {s0 : cS} {a0 : Int} {a1 : Int} {a2 : Int} {Q Q' : cS → Prop} (hw : wc_Scanner_number s0 a0 a1 a2 Q) (hq : ∀ (A' : cS), ySm s0 A' [14, 15, 16] [8, 9] → Q A' → Q' A') : wc_Scanner_number s0 a0 a1 a2 Q' := by
  unfold wc_Scanner_number at hw ⊢
  obtain ⟨m12, h13⟩ := hw
  exact ⟨m12, ffl_Scanner_number_110 m12 _ _ _ _ _ _ (fun A' f q => hq A' ((ySm.rf.pv rfl).tr f rfl rfl) q)  h13⟩
theorem ffm_Scanner_quoted {s0 : cS} {a0 : Int} {Q Q' : Int → cS → Prop} (hw : wc_Scanner_quoted s0 a0 Q) (hq : ∀ (e : Int) (A' : cS), ySm s0 A' [] [8] → Q e A' → Q' e A') : wc_Scanner_quoted s0 a0 Q' := by
  unfold wc_Scanner_quoted at hw ⊢
  obtain ⟨o1, h2⟩ := hw
  refine ⟨o1, ?_⟩
  refine ⟨fun c14 => ?_, fun c14 => ?_⟩
  · have h15 := h2.1 c14
    obtain ⟨o16, h17⟩ := h15
    refine ⟨o16, ?_⟩
    refine ⟨fun g29 => ?_, ?_⟩
    · have h31 := (h17.1) g29
      exact hq _ _ ((ySm.rf.pv rfl).pv rfl) h31
    · skip
      refine ⟨fun g32 => ?_, ?_⟩
      · have h34 := (h17.2.1) g32
        exact hq _ _ ((ySm.rf.pv rfl).pv rfl) h34
      · skip
        refine ⟨fun g35 => ?_, ?_⟩
        · have h37 := (h17.2.2.1) g35
          exact hq _ _ ((ySm.rf.pv rfl).pv rfl) h37
        · skip
          refine ⟨fun g38 => ?_, ?_⟩
          · have h40 := (h17.2.2.2.1) g38
            exact hq _ _ ((ySm.rf.pv rfl).pv rfl) h40
          · skip
            intro ng29 ng32 ng35 ng38
            have h41 := h17.2.2.2.2 ng29 ng32 ng35 ng38
            exact hq _ _ ((ySm.rf.pv rfl).pv rfl) h41
  · have h42 := h2.2 c14
    refine ⟨fun c43 => ?_, fun c43 => ?_⟩
    · have h44 := h42.1 c43
      exact hq _ _ (ySm.rf.pv rfl) h44
    · have h45 := h42.2 c43
      refine ⟨fun c46 => ?_, fun c46 => ?_⟩
      · have h47 := h45.1 c46
        exact hq _ _ (ySm.rf.pv rfl) h47
      · have h48 := h45.2 c46
        refine ⟨fun c49 => ?_, fun c49 => ?_⟩
        · have h50 := h48.1 c49
          exact hq _ _ (ySm.rf.pv rfl) h50
        · have h51 := h48.2 c49
          exact hq _ _ (ySm.rf.pv rfl) h51
theorem ffj_Scanner_string_80 {Q Q' : cS → Prop}  {s0 : cS} {x1 : Int} {x2 : Int} {x3 : Int} (hq : ∀ (A' : cS), ySm s0 A' [14, 15, 16, 17] [8, 9] → Q A' → Q' A')  (hw : wc_Scanner_string_80 Q  s0 x1 x2 x3) : wc_Scanner_string_80 Q'  s0 x1 x2 x3 := by
  unfold wc_Scanner_string_80 at hw ⊢
  obtain ⟨o5, h6⟩ := hw
  refine ⟨o5, ?_⟩
  refine ⟨fun c7 => ?_, fun c7 => ?_⟩
  · have h8 := h6.1 c7
    refine ffm_Scanner_put h8 (fun A10 f1 h16 => ?_)
    obtain ⟨o17, h18⟩ := h16
    refine ⟨o17, ?_⟩
    exact hq _ (((ySm.rf.set rfl).tr f1 rfl rfl).pv rfl) h18
  · have h30 := h6.2 c7
    refine ⟨fun c31 => ?_, fun c31 => ?_⟩
    · have h32 := h30.1 c31
      refine ffm_Scanner_put h32 (fun A34 f2 h40 => ?_)
      obtain ⟨o41, h42⟩ := h40
      refine ⟨o41, ?_⟩
      exact hq _ (((ySm.rf.set rfl).tr f2 rfl rfl).pv rfl) h42
    · have h54 := h30.2 c31
      refine ⟨fun c55 => ?_, fun c55 => ?_⟩
      · have h56 := h54.1 c55
        refine ffm_Scanner_put h56 (fun A58 f3 h64 => ?_)
        obtain ⟨o65, h66⟩ := h64
        refine ⟨o65, ?_⟩
        exact hq _ (((ySm.rf.set rfl).tr f3 rfl rfl).pv rfl) h66
      · have h78 := h54.2 c55
        refine ffm_Scanner_put h78 (fun A80 f4 h86 => ?_)
        obtain ⟨o87, h88⟩ := h86
        refine ⟨o87, ?_⟩
        exact hq _ (((ySm.rf.set rfl).tr f4 rfl rfl).pv rfl) h88
theorem ffb_Scanner_string_31 {Q Q' : cS → Prop} {k31 k31' : cS → Int → Int → Int → Int → Prop} {s0 : cS} {x1 : Int} {x2 : Int} {x3 : Int} {x4 : Int} (hq : ∀ (A' : cS), ySm s0 A' [14, 15, 16, 17] [8, 9] → Q A' → Q' A') (fk31 : ∀ (A' : cS) (x0 : Int) (x1 : Int) (x2 : Int) (x3 : Int), ySm s0 A' [14, 15, 16, 17] [8, 9] → k31 A' x0 x1 x2 x3 → k31' A' x0 x1 x2 x3) (hw : wc_Scanner_string_31B Q k31 s0 x1 x2 x3 x4) : wc_Scanner_string_31B Q' k31' s0 x1 x2 x3 x4 := by
  unfold wc_Scanner_string_31B at hw ⊢
  refine ⟨fun c1 => ?_, fun c1 => ?_⟩
  · have h2 := hw.1 c1
    exact ffj_Scanner_string_80 (fun A' f q => hq A' (ySm.rf.tr f rfl rfl) q)  h2
  · have h3 := hw.2 c1
    refine ⟨fun c4 => ?_, fun c4 => ?_⟩
    · have h5 := h3.1 c4
      exact ffj_Scanner_string_80 (fun A' f q => hq A' (ySm.rf.tr f rfl rfl) q)  h5
    · have h6 := h3.2 c4
      refine ⟨fun c7 => ?_, fun c7 => ?_⟩
      · have h8 := h6.1 c7
        exact ffj_Scanner_string_80 (fun A' f q => hq A' (ySm.rf.tr f rfl rfl) q)  h8
      · have h9 := h6.2 c7
        refine ffm_Scanner_quoted h9 (fun r10 A11 f1 h17 => ?_)
        obtain ⟨o22, h23⟩ := h17
        refine ⟨o22, ?_⟩
        obtain ⟨o24, h25⟩ := h23
        refine ⟨o24, ?_⟩
        exact fk31 _ _ _ _ _ ((ySm.rf.tr f1 rfl rfl).add rfl) h25
theorem ffl_Scanner_string_310 {Q Q' : cS → Prop}  : ∀ (m : Nat) (s0 : cS) (x1 : Int) (x2 : Int) (x3 : Int) (x4 : Int), (∀ (A' : cS), ySm s0 A' [14, 15, 16, 17] [8, 9] → Q A' → Q' A') → wc_Scanner_string_31 Q  m s0 x1 x2 x3 x4 → wc_Scanner_string_31 Q'  m s0 x1 x2 x3 x4 := by
  intro m
  induction m with
  | zero => intro s0 x1 x2 x3 x4 hq  hw; exact hw
  | succ m ih => intro s0 x1 x2 x3 x4 hq  hw; exact ffb_Scanner_string_31 hq  (fun A' y0 y1 y2 y3 f1 q => ih A' y0 y1 y2 y3 (fun A' f q => hq A' (f1.tr f rfl rfl) q)  q) hw
theorem ffm_Scanner_string {s0 : cS} {a0 : Int} {Q Q' : cS → Prop} (hw : wc_Scanner_string s0 a0 Q) (hq : ∀ (A' : cS), ySm s0 A' [14, 15, 16, 17] [8, 9] → Q A' → Q' A') : wc_Scanner_string s0 a0 Q' := by
  unfold wc_Scanner_string at hw ⊢
  obtain ⟨o5, h6⟩ := hw
  refine ⟨o5, ?_⟩
  obtain ⟨o7, h8⟩ := h6
  refine ⟨o7, ?_⟩
  obtain ⟨m20, h21⟩ := h8
  exact ⟨m20, ffl_Scanner_string_310 m20 _ _ _ _ _ (fun A' f q => hq A' (((ySm.rf.add rfl).pv rfl).tr f rfl rfl) q)  h21⟩
theorem ffj_Scanner_section_76 {Q Q' : cS → Prop}  {s0 : cS} {x1 : Int} {x2 : Int} {x3 : Int} {x4 : Int} {y0 : Int} (hq : ∀ (A' : cS), ySm s0 A' [14, 15, 16, 18, 19, 20] [8, 9] → Q A' → Q' A')  (hw : wc_Scanner_section_76 Q  s0 x1 x2 x3 x4 y0) : wc_Scanner_section_76 Q'  s0 x1 x2 x3 x4 y0 := by
  unfold wc_Scanner_section_76 at hw ⊢
  refine ⟨fun c1 => ?_, fun c1 => ?_⟩
  · have h2 := hw.1 c1
    refine ⟨fun c3 => ?_, fun c3 => ?_⟩
    · have h4 := h2.1 c3
      refine ffm_Scanner_put h4 (fun A6 f1 h12 => ?_)
      exact hq _ ((ySm.rf.tr f1 rfl rfl).pv rfl) h12
    · have h24 := h2.2 c3
      refine ffm_Scanner_put h24 (fun A26 f2 h32 => ?_)
      exact hq _ ((ySm.rf.tr f2 rfl rfl).pv rfl) h32
  · have h44 := hw.2 c1
    refine ffm_Scanner_put h44 (fun A46 f3 h52 => ?_)
    exact hq _ ((ySm.rf.tr f3 rfl rfl).pv rfl) h52
theorem ffj_Scanner_section_47 {Q Q' : cS → Prop}  {s0 : cS} {x1 : Int} {x2 : Int} {x3 : Int} {y0 : Int} (hq : ∀ (A' : cS), ySm s0 A' [14, 15, 16, 18, 19, 20] [8, 9] → Q A' → Q' A')  (hw : wc_Scanner_section_47 Q  s0 x1 x2 x3 y0) : wc_Scanner_section_47 Q'  s0 x1 x2 x3 y0 := by
  unfold wc_Scanner_section_47 at hw ⊢
  refine ⟨fun c1 => ?_, fun c1 => ?_⟩
  · have h2 := hw.1 c1
    obtain ⟨o3, h4⟩ := h2
    refine ⟨o3, ?_⟩
    refine ⟨fun c5 => ?_, fun c5 => ?_⟩
    · have h6 := h4.1 c5
      exact ffj_Scanner_section_76 (fun A' f q => hq A' (ySm.rf.tr f rfl rfl) q)  h6
    · have h7 := h4.2 c5
      exact ffj_Scanner_section_76 (fun A' f q => hq A' (ySm.rf.tr f rfl rfl) q)  h7
  · have h8 := hw.2 c1
    refine ⟨fun c9 => ?_, fun c9 => ?_⟩
    · have h10 := h8.1 c9
      exact ffj_Scanner_section_76 (fun A' f q => hq A' (ySm.rf.tr f rfl rfl) q)  h10
    · have h11 := h8.2 c9
      obtain ⟨o12, h13⟩ := h11
      refine ⟨o12, ?_⟩
      refine ⟨fun c14 => ?_, fun c14 => ?_⟩
      · have h15 := h13.1 c14
        exact ffj_Scanner_section_76 (fun A' f q => hq A' (ySm.rf.tr f rfl rfl) q)  h15
      · have h16 := h13.2 c14
        exact ffj_Scanner_section_76 (fun A' f q => hq A' (ySm.rf.tr f rfl rfl) q)  h16
theorem ffm_Scanner_section {s0 : cS} {a0 : Int} {Q Q' : cS → Prop} (hw : wc_Scanner_section s0 a0 Q) (hq : ∀ (A' : cS), ySm s0 A' [14, 15, 16, 18, 19, 20] [8, 9] → Q A' → Q' A') : wc_Scanner_section s0 a0 Q' := by
  unfold wc_Scanner_section at hw ⊢
  obtain ⟨o1, h2⟩ := hw
  refine ⟨o1, ?_⟩
  obtain ⟨o3, h4⟩ := h2
  refine ⟨o3, ?_⟩
  refine ffm_Scanner_restEnd h4 (fun r5 A6 f1 h12 => ?_)
  refine ⟨fun c13 => ?_, fun c13 => ?_⟩
  · have h14 := h12.1 c13
    exact ffj_Scanner_section_47 (fun A' f q => hq A' ((ySm.rf.tr f1 rfl rfl).tr f rfl rfl) q)  h14
  · have h15 := h12.2 c13
    refine ffm_Scanner_idOf h15 (fun r16 A17 f2 h23 => ?_)
    obtain ⟨o24, h25⟩ := h23
    refine ⟨o24, ?_⟩
    exact ffj_Scanner_section_47 (fun A' f q => hq A' (((ySm.rf.tr f1 rfl rfl).tr f2 rfl rfl).tr f rfl rfl) q)  h25
theorem ffm_Scanner_doubled {s0 : cS} {a0 : Int} {a1 : Int} {Q Q' : Int → cS → Prop} (hw : wc_Scanner_doubled s0 a0 a1 Q) (hq : ∀ (e : Int) (A' : cS), ySm s0 A' [] [] → Q e A' → Q' e A') : wc_Scanner_doubled s0 a0 a1 Q' := by
  unfold wc_Scanner_doubled at hw ⊢
  refine ⟨fun g1 => ?_, ?_⟩
  · have h3 := (hw.1) g1
    refine ⟨fun c4 => ?_, fun c4 => ?_⟩
    · have h5 := h3.1 c4
      exact hq _ _ ySm.rf h5
    · have h6 := h3.2 c4
      exact hq _ _ ySm.rf h6
  · skip
    refine ⟨fun g7 => ?_, ?_⟩
    · have h9 := (hw.2.1) g7
      refine ⟨fun c10 => ?_, fun c10 => ?_⟩
      · have h11 := h9.1 c10
        exact hq _ _ ySm.rf h11
      · have h12 := h9.2 c10
        exact hq _ _ ySm.rf h12
    · skip
      refine ⟨fun g13 => ?_, ?_⟩
      · have h15 := (hw.2.2.1) g13
        refine ⟨fun c16 => ?_, fun c16 => ?_⟩
        · have h17 := h15.1 c16
          refine ⟨fun c18 => ?_, fun c18 => ?_⟩
          · have h19 := h17.1 c18
            exact hq _ _ ySm.rf h19
          · have h20 := h17.2 c18
            exact hq _ _ ySm.rf h20
        · have h21 := h15.2 c16
          exact hq _ _ ySm.rf h21
      · skip
        refine ⟨fun g22 => ?_, ?_⟩
        · have h24 := (hw.2.2.2.1) g22
          refine ⟨fun c25 => ?_, fun c25 => ?_⟩
          · have h26 := h24.1 c25
            refine ⟨fun c27 => ?_, fun c27 => ?_⟩
            · have h28 := h26.1 c27
              exact hq _ _ ySm.rf h28
            · have h29 := h26.2 c27
              exact hq _ _ ySm.rf h29
          · have h30 := h24.2 c25
            exact hq _ _ ySm.rf h30
        · skip
          refine ⟨fun g31 => ?_, ?_⟩
          · have h33 := (hw.2.2.2.2.1) g31
            refine ⟨fun c34 => ?_, fun c34 => ?_⟩
            · have h35 := h33.1 c34
              exact hq _ _ ySm.rf h35
            · have h36 := h33.2 c34
              exact hq _ _ ySm.rf h36
          · skip
            intro ng1 ng7 ng13 ng22 ng31
            have h37 := hw.2.2.2.2.2 ng1 ng7 ng13 ng22 ng31
            exact hq _ _ ySm.rf h37
theorem ffm_Scanner_single {s0 : cS} {a0 : Int} {Q Q' : Int → cS → Prop} (hw : wc_Scanner_single s0 a0 Q) (hq : ∀ (e : Int) (A' : cS), ySm s0 A' [] [] → Q e A' → Q' e A') : wc_Scanner_single s0 a0 Q' := by
  unfold wc_Scanner_single at hw ⊢
  refine ⟨fun g1 => ?_, ?_⟩
  · have h3 := (hw.1) g1
    exact hq _ _ ySm.rf h3
  · skip
    refine ⟨fun g4 => ?_, ?_⟩
    · have h6 := (hw.2.1) g4
      exact hq _ _ ySm.rf h6
    · skip
      refine ⟨fun g7 => ?_, ?_⟩
      · have h9 := (hw.2.2.1) g7
        exact hq _ _ ySm.rf h9
      · skip
        refine ⟨fun g10 => ?_, ?_⟩
        · have h12 := (hw.2.2.2.1) g10
          exact hq _ _ ySm.rf h12
        · skip
          refine ⟨fun g13 => ?_, ?_⟩
          · have h15 := (hw.2.2.2.2.1) g13
            exact hq _ _ ySm.rf h15
          · skip
            refine ⟨fun g16 => ?_, ?_⟩
            · have h18 := (hw.2.2.2.2.2.1) g16
              exact hq _ _ ySm.rf h18
            · skip
              refine ⟨fun g19 => ?_, ?_⟩
              · have h21 := (hw.2.2.2.2.2.2.1) g19
                exact hq _ _ ySm.rf h21
              · skip
                refine ⟨fun g22 => ?_, ?_⟩
                · have h24 := (hw.2.2.2.2.2.2.2.1) g22
                  exact hq _ _ ySm.rf h24
                · skip
                  refine ⟨fun g25 => ?_, ?_⟩
                  · have h27 := (hw.2.2.2.2.2.2.2.2.1) g25
                    exact hq _ _ ySm.rf h27
                  · skip
                    refine ⟨fun g28 => ?_, ?_⟩
                    · have h30 := (hw.2.2.2.2.2.2.2.2.2.1) g28
                      exact hq _ _ ySm.rf h30
                    · skip
                      refine ⟨fun g31 => ?_, ?_⟩
                      · have h33 := (hw.2.2.2.2.2.2.2.2.2.2.1) g31
                        exact hq _ _ ySm.rf h33
                      · skip
                        refine ⟨fun g34 => ?_, ?_⟩
                        · have h36 := (hw.2.2.2.2.2.2.2.2.2.2.2.1) g34
                          exact hq _ _ ySm.rf h36
                        · skip
                          refine ⟨fun g37 => ?_, ?_⟩
                          · have h39 := (hw.2.2.2.2.2.2.2.2.2.2.2.2.1) g37
                            exact hq _ _ ySm.rf h39
                          · skip
                            refine ⟨fun g40 => ?_, ?_⟩
                            · have h42 := (hw.2.2.2.2.2.2.2.2.2.2.2.2.2.1) g40
                              exact hq _ _ ySm.rf h42
                            · skip
                              refine ⟨fun g43 => ?_, ?_⟩
                              · have h45 := (hw.2.2.2.2.2.2.2.2.2.2.2.2.2.2.1) g43
                                exact hq _ _ ySm.rf h45
                              · skip
                                refine ⟨fun g46 => ?_, ?_⟩
                                · have h48 := (hw.2.2.2.2.2.2.2.2.2.2.2.2.2.2.2.1) g46
                                  exact hq _ _ ySm.rf h48
                                · skip
                                  refine ⟨fun g49 => ?_, ?_⟩
                                  · have h51 := (hw.2.2.2.2.2.2.2.2.2.2.2.2.2.2.2.2.1) g49
                                    exact hq _ _ ySm.rf h51
                                  · skip
                                    refine ⟨fun g52 => ?_, ?_⟩
                                    · have h54 := (hw.2.2.2.2.2.2.2.2.2.2.2.2.2.2.2.2.2.1) g52
                                      exact hq _ _ ySm.rf h54
                                    · skip
                                      intro ng1 ng4 ng7 ng10 ng13 ng16 ng19 ng22 ng25 ng28 ng31 ng34 ng37 ng40 ng43 ng46 ng49 ng52
                                      have h55 := hw.2.2.2.2.2.2.2.2.2.2.2.2.2.2.2.2.2.2 ng1 ng4 ng7 ng10 ng13 ng16 ng19 ng22 ng25 ng28 ng31 ng34 ng37 ng40 ng43 ng46 ng49 ng52
                                      exact hq _ _ ySm.rf h55
theorem ffj_Scanner_sign_31 {Q Q' : cS → Prop}  {s0 : cS} {x1 : Int} {x3 : Int} {y0 : Int} (hq : ∀ (A' : cS), ySm s0 A' [14, 15, 16] [8, 9] → Q A' → Q' A')  (hw : wc_Scanner_sign_31 Q  s0 x1 x3 y0) : wc_Scanner_sign_31 Q'  s0 x1 x3 y0 := by
  unfold wc_Scanner_sign_31 at hw ⊢
  refine ⟨fun c1 => ?_, fun c1 => ?_⟩
  · have h2 := hw.1 c1
    obtain ⟨o3, h4⟩ := h2
    refine ⟨o3, ?_⟩
    refine ffm_Scanner_put h4 (fun A17 f1 h23 => ?_)
    exact hq _ ((ySm.rf.pv rfl).tr f1 rfl rfl) h23
  · have h24 := hw.2 c1
    obtain ⟨o25, h26⟩ := h24
    refine ⟨o25, ?_⟩
    refine ffm_Scanner_put h26 (fun A39 f2 h45 => ?_)
    exact hq _ ((ySm.rf.pv rfl).tr f2 rfl rfl) h45
theorem ffm_Scanner_sign {s0 : cS} {a0 : Int} {a1 : Int} {Q Q' : cS → Prop} (hw : wc_Scanner_sign s0 a0 a1 Q) (hq : ∀ (A' : cS), ySm s0 A' [14, 15, 16] [8, 9] → Q A' → Q' A') : wc_Scanner_sign s0 a0 a1 Q' := by
  unfold wc_Scanner_sign at hw ⊢
  obtain ⟨o1, h2⟩ := hw
  refine ⟨o1, ?_⟩
  refine ffm_Scanner_doubled h2 (fun r3 A4 f1 h10 => ?_)
  refine ⟨fun c11 => ?_, fun c11 => ?_⟩
  · have h12 := h10.1 c11
    refine ffm_Scanner_single h12 (fun r13 A14 f2 h20 => ?_)
    exact ffj_Scanner_sign_31 (fun A' f q => hq A' (((ySm.rf.tr f1 rfl rfl).tr f2 rfl rfl).tr f rfl rfl) q)  h20
  · have h21 := h10.2 c11
    exact ffj_Scanner_sign_31 (fun A' f q => hq A' ((ySm.rf.tr f1 rfl rfl).tr f rfl rfl) q)  h21
theorem ffj_Scanner_token_82 {Q Q' : cS → Prop}  {s0 : cS} {x1 : Int} {y0 : Int} (hq : ∀ (A' : cS), ySm s0 A' [14, 15, 16, 17, 18, 19, 20] [8, 9] → Q A' → Q' A')  (hw : wc_Scanner_token_82 Q  s0 x1 y0) : wc_Scanner_token_82 Q'  s0 x1 y0 := by
  unfold wc_Scanner_token_82 at hw ⊢
  refine ⟨fun c1 => ?_, fun c1 => ?_⟩
  · have h2 := hw.1 c1
    refine ⟨fun c3 => ?_, fun c3 => ?_⟩
    · have h4 := h2.1 c3
      obtain ⟨o5, h6⟩ := h4
      refine ⟨o5, ?_⟩
      refine ffm_Scanner_number h6 (fun A8 f1 h14 => ?_)
      exact hq _ (ySm.rf.tr f1 rfl rfl) h14
    · have h15 := h2.2 c3
      obtain ⟨o16, h17⟩ := h15
      refine ⟨o16, ?_⟩
      refine ffm_Scanner_number h17 (fun A19 f2 h25 => ?_)
      exact hq _ (ySm.rf.tr f2 rfl rfl) h25
  · have h26 := hw.2 c1
    refine ⟨fun c27 => ?_, fun c27 => ?_⟩
    · have h28 := h26.1 c27
      obtain ⟨o29, h30⟩ := h28
      refine ⟨o29, ?_⟩
      refine ffm_Scanner_number h30 (fun A32 f3 h38 => ?_)
      exact hq _ (ySm.rf.tr f3 rfl rfl) h38
    · have h39 := h26.2 c27
      obtain ⟨o40, h41⟩ := h39
      refine ⟨o40, ?_⟩
      refine ffm_Scanner_number h41 (fun A43 f4 h49 => ?_)
      exact hq _ (ySm.rf.tr f4 rfl rfl) h49
theorem ffm_Scanner_token {s0 : cS}  {Q Q' : cS → Prop} (hw : wc_Scanner_token s0  Q) (hq : ∀ (A' : cS), ySm s0 A' [14, 15, 16, 17, 18, 19, 20] [8, 9] → Q A' → Q' A') : wc_Scanner_token s0  Q' := by
  unfold wc_Scanner_token at hw ⊢
  refine ffm_Scanner_isLetter hw (fun r1 A2 f1 h8 => ?_)
  refine ⟨fun c9 => ?_, fun c9 => ?_⟩
  · have h10 := h8.1 c9
    refine ffm_Scanner_isDigit h10 (fun r11 A12 f2 h18 => ?_)
    refine ⟨fun c19 => ?_, fun c19 => ?_⟩
    · have h20 := h18.1 c19
      refine ⟨fun c21 => ?_, fun c21 => ?_⟩
      · have h22 := h20.1 c21
        refine ⟨fun c23 => ?_, fun c23 => ?_⟩
        · have h24 := h22.1 c23
          refine ⟨fun c25 => ?_, fun c25 => ?_⟩
          · have h26 := h24.1 c25
            refine ⟨fun c27 => ?_, fun c27 => ?_⟩
            · have h28 := h26.1 c27
              refine ffm_Scanner_sign h28 (fun A30 f3 h36 => ?_)
              exact hq _ (((ySm.rf.tr f1 rfl rfl).tr f2 rfl rfl).tr f3 rfl rfl) h36
            · have h37 := h26.2 c27
              refine ffm_Scanner_section h37 (fun A39 f4 h45 => ?_)
              exact hq _ (((ySm.rf.tr f1 rfl rfl).tr f2 rfl rfl).tr f4 rfl rfl) h45
          · have h46 := h24.2 c25
            refine ffm_Scanner_string h46 (fun A48 f5 h54 => ?_)
            exact hq _ (((ySm.rf.tr f1 rfl rfl).tr f2 rfl rfl).tr f5 rfl rfl) h54
        · have h55 := h22.2 c23
          obtain ⟨o56, h57⟩ := h55
          refine ⟨o56, ?_⟩
          refine ffm_Scanner_quoted h57 (fun r69 A70 f6 h76 => ?_)
          refine ⟨fun c77 => ?_, fun c77 => ?_⟩
          · have h78 := h76.1 c77
            refine ffm_Scanner_put h78 (fun A80 f7 h86 => ?_)
            obtain ⟨o87, h88⟩ := h86
            refine ⟨o87, ?_⟩
            exact hq _ ((((((ySm.rf.tr f1 rfl rfl).tr f2 rfl rfl).pv rfl).tr f6 rfl rfl).tr f7 rfl rfl).pv rfl) h88
          · have h100 := h76.2 c77
            refine ⟨fun c101 => ?_, fun c101 => ?_⟩
            · have h102 := h100.1 c101
              refine ffm_Scanner_put h102 (fun A104 f8 h110 => ?_)
              obtain ⟨o111, h112⟩ := h110
              refine ⟨o111, ?_⟩
              exact hq _ ((((((ySm.rf.tr f1 rfl rfl).tr f2 rfl rfl).pv rfl).tr f6 rfl rfl).tr f8 rfl rfl).pv rfl) h112
            · have h124 := h100.2 c101
              refine ffm_Scanner_put h124 (fun A126 f9 h132 => ?_)
              obtain ⟨o133, h134⟩ := h132
              refine ⟨o133, ?_⟩
              exact hq _ ((((((ySm.rf.tr f1 rfl rfl).tr f2 rfl rfl).pv rfl).tr f6 rfl rfl).tr f9 rfl rfl).pv rfl) h134
      · have h146 := h20.2 c21
        obtain ⟨o147, h148⟩ := h146
        refine ⟨o147, ?_⟩
        refine ⟨fun c149 => ?_, fun c149 => ?_⟩
        · have h150 := h148.1 c149
          exact ffj_Scanner_token_82 (fun A' f q => hq A' (((ySm.rf.tr f1 rfl rfl).tr f2 rfl rfl).tr f rfl rfl) q)  h150
        · have h151 := h148.2 c149
          exact ffj_Scanner_token_82 (fun A' f q => hq A' (((ySm.rf.tr f1 rfl rfl).tr f2 rfl rfl).tr f rfl rfl) q)  h151
    · have h152 := h18.2 c19
      refine ffm_Scanner_number h152 (fun A154 f10 h160 => ?_)
      exact hq _ (((ySm.rf.tr f1 rfl rfl).tr f2 rfl rfl).tr f10 rfl rfl) h160
  · have h161 := h8.2 c9
    refine ffm_Scanner_name h161 (fun A163 f11 h169 => ?_)
    exact hq _ ((ySm.rf.tr f1 rfl rfl).tr f11 rfl rfl) h169
theorem ffb_Scanner_scan_73 {Q Q' : cS → Prop} {k73 k73' : cS → Int → Prop} {s0 : cS} {x1 : Int} (hq : ∀ (A' : cS), ySm s0 A' [14, 15, 16, 17, 18, 19, 20] [8, 9] → Q A' → Q' A') (fk73 : ∀ (A' : cS) (x0 : Int), ySm s0 A' [14, 15, 16, 17, 18, 19, 20] [8, 9] → k73 A' x0 → k73' A' x0) (hw : wc_Scanner_scan_73B Q k73 s0 x1) : wc_Scanner_scan_73B Q' k73' s0 x1 := by
  unfold wc_Scanner_scan_73B at hw ⊢
  refine ⟨fun c1 => ?_, fun c1 => ?_⟩
  · have h2 := hw.1 c1
    exact hq _ ySm.rf h2
  · have h3 := hw.2 c1
    refine ffm_Scanner_pass h3 (fun A5 f1 h11 => ?_)
    refine ⟨fun c12 => ?_, fun c12 => ?_⟩
    · have h13 := h11.1 c12
      refine ffm_Scanner_token h13 (fun A15 f2 h21 => ?_)
      refine ⟨fun c22 => ?_, fun c22 => ?_⟩
      · have h23 := h21.1 c22
        obtain ⟨o24, h25⟩ := h23
        refine ⟨o24, ?_⟩
        exact fk73 _ _ ((ySm.rf.tr f1 rfl rfl).tr f2 rfl rfl) h25
      · have h26 := h21.2 c22
        exact hq _ ((ySm.rf.tr f1 rfl rfl).tr f2 rfl rfl) h26
    · have h27 := h11.2 c12
      refine ffm_Scanner_put h27 (fun A29 f3 h35 => ?_)
      exact hq _ ((ySm.rf.tr f1 rfl rfl).tr f3 rfl rfl) h35
theorem ffl_Scanner_scan_730 {Q Q' : cS → Prop}  : ∀ (m : Nat) (s0 : cS) (x1 : Int), (∀ (A' : cS), ySm s0 A' [14, 15, 16, 17, 18, 19, 20] [8, 9] → Q A' → Q' A') → wc_Scanner_scan_73 Q  m s0 x1 → wc_Scanner_scan_73 Q'  m s0 x1 := by
  intro m
  induction m with
  | zero => intro s0 x1 hq  hw; exact hw
  | succ m ih => intro s0 x1 hq  hw; exact ffb_Scanner_scan_73 hq  (fun A' y0 f1 q => ih A' y0 (fun A' f q => hq A' (f1.tr f rfl rfl) q)  q) hw
theorem ffm_Scanner_scan {s0 : cS}  {Q Q' : cS → Prop} (hw : wc_Scanner_scan s0  Q) (hq : ∀ (A' : cS), ySm s0 A' [14, 15, 16, 17, 18, 19, 20] [8, 9] → Q A' → Q' A') : wc_Scanner_scan s0  Q' := by
  unfold wc_Scanner_scan at hw ⊢
  obtain ⟨m51, h52⟩ := hw
  exact ⟨m51, ffl_Scanner_scan_730 m51 _ _ (fun A' f q => hq A' ((((((((((ySm.rf.cut rfl).cut rfl).cut rfl).cut rfl).cut rfl).cut rfl).cut rfl).pv rfl).pv rfl).tr f rfl rfl) q)  h52⟩
theorem ffm_Constants_hasFailed {s0 : cS}  {Q Q' : Int → cS → Prop} (hw : wc_Constants_hasFailed s0  Q) (hq : ∀ (e : Int) (A' : cS), ySm s0 A' [] [] → Q e A' → Q' e A') : wc_Constants_hasFailed s0  Q' := by
  unfold wc_Constants_hasFailed at hw ⊢
  obtain ⟨o1, h2⟩ := hw
  refine ⟨o1, ?_⟩
  exact hq _ _ ySm.rf h2
theorem ffm_Constants_fail {s0 : cS} {a0 : Int} {a1 : Int} {Q Q' : cS → Prop} (hw : wc_Constants_fail s0 a0 a1 Q) (hq : ∀ (A' : cS), ySm s0 A' [] [38, 39, 40] → Q A' → Q' A') : wc_Constants_fail s0 a0 a1 Q' := by
  unfold wc_Constants_fail at hw ⊢
  refine ⟨fun c1 => ?_, fun c1 => ?_⟩
  · have h2 := hw.1 c1
    exact hq _ (((ySm.rf.pv rfl).pv rfl).pv rfl) h2
  · have h36 := hw.2 c1
    refine ⟨fun c37 => ?_, fun c37 => ?_⟩
    · have h38 := h36.1 c37
      exact hq _ ySm.rf h38
    · have h39 := h36.2 c37
      exact hq _ (((ySm.rf.pv rfl).pv rfl).pv rfl) h39
theorem ffj_Constants_relate_63 {Q Q' : Int → cS → Prop}  {s0 : cS} {x3 : Int} {x6 : Int} {y0 : Int} (hq : ∀ (e : Int) (A' : cS), ySm s0 A' [33] [] → Q e A' → Q' e A')  (hw : wc_Constants_relate_63 Q  s0 x3 x6 y0) : wc_Constants_relate_63 Q'  s0 x3 x6 y0 := by
  unfold wc_Constants_relate_63 at hw ⊢
  obtain ⟨o5, h6⟩ := hw
  refine ⟨o5, ?_⟩
  refine ⟨fun c7 => ?_, fun c7 => ?_⟩
  · have h8 := h6.1 c7
    exact hq _ _ (ySm.rf.add rfl) h8
  · have h9 := h6.2 c7
    refine ⟨fun c10 => ?_, fun c10 => ?_⟩
    · have h11 := h9.1 c10
      exact hq _ _ (ySm.rf.add rfl) h11
    · have h12 := h9.2 c10
      exact hq _ _ (ySm.rf.add rfl) h12
theorem ffm_Constants_relate {s0 : cS} {a0 : Int} {a1 : Int} {a2 : Int} {Q Q' : Int → cS → Prop} (hw : wc_Constants_relate s0 a0 a1 a2 Q) (hq : ∀ (e : Int) (A' : cS), ySm s0 A' [33] [] → Q e A' → Q' e A') : wc_Constants_relate s0 a0 a1 a2 Q' := by
  unfold wc_Constants_relate at hw ⊢
  refine ⟨fun c9 => ?_, fun c9 => ?_⟩
  · have h10 := hw.1 c9
    refine ⟨fun c11 => ?_, fun c11 => ?_⟩
    · have h12 := h10.1 c11
      exact ffj_Constants_relate_63 (fun e A' f q => hq e A' (((ySm.rf.pop rfl).pop rfl).tr f rfl rfl) q)  h12
    · have h14 := h10.2 c11
      exact ffj_Constants_relate_63 (fun e A' f q => hq e A' (((ySm.rf.pop rfl).pop rfl).tr f rfl rfl) q)  h14
  · have h15 := hw.2 c9
    refine ffm_W_holds h15 (fun r16 A17 f1 h23 => ?_)
    refine ⟨fun c24 => ?_, fun c24 => ?_⟩
    · have h25 := h23.1 c24
      refine ⟨fun c26 => ?_, fun c26 => ?_⟩
      · have h27 := h25.1 c26
        exact ffj_Constants_relate_63 (fun e A' f q => hq e A' ((((ySm.rf.pop rfl).pop rfl).tr f1 rfl rfl).tr f rfl rfl) q)  h27
      · have h29 := h25.2 c26
        exact ffj_Constants_relate_63 (fun e A' f q => hq e A' ((((ySm.rf.pop rfl).pop rfl).tr f1 rfl rfl).tr f rfl rfl) q)  h29
    · have h30 := h23.2 c24
      refine ⟨fun c31 => ?_, fun c31 => ?_⟩
      · have h32 := h30.1 c31
        exact ffj_Constants_relate_63 (fun e A' f q => hq e A' ((((ySm.rf.pop rfl).pop rfl).tr f1 rfl rfl).tr f rfl rfl) q)  h32
      · have h34 := h30.2 c31
        exact ffj_Constants_relate_63 (fun e A' f q => hq e A' ((((ySm.rf.pop rfl).pop rfl).tr f1 rfl rfl).tr f rfl rfl) q)  h34
theorem ffj_Constants_work_48 {Q Q' : cS → Prop}  {s0 : cS} {x1 : Int} {x4 : Int} {x5 : Int} (hq : ∀ (A' : cS), ySm s0 A' [33] [38, 39, 40] → Q A' → Q' A')  (hw : wc_Constants_work_48 Q  s0 x1 x4 x5) : wc_Constants_work_48 Q'  s0 x1 x4 x5 := by
  unfold wc_Constants_work_48 at hw ⊢
  refine ffm_W_worked hw (fun r1 A2 f1 h8 => ?_)
  obtain ⟨o13, h14⟩ := h8
  refine ⟨o13, ?_⟩
  exact hq _ ((ySm.rf.tr f1 rfl rfl).add rfl) h14
theorem ffm_Constants_work {s0 : cS} {a0 : Int} {a1 : Int} {a2 : Int} {Q Q' : cS → Prop} (hw : wc_Constants_work s0 a0 a1 a2 Q) (hq : ∀ (A' : cS), ySm s0 A' [33] [38, 39, 40] → Q A' → Q' A') : wc_Constants_work s0 a0 a1 a2 Q' := by
  unfold wc_Constants_work at hw ⊢
  refine ffm_W_isDivision hw (fun r9 A10 f1 h16 => ?_)
  refine ⟨fun c17 => ?_, fun c17 => ?_⟩
  · have h18 := h16.1 c17
    exact ffj_Constants_work_48 (fun A' f q => hq A' ((((ySm.rf.pop rfl).pop rfl).tr f1 rfl rfl).tr f rfl rfl) q)  h18
  · have h19 := h16.2 c17
    refine ⟨fun c20 => ?_, fun c20 => ?_⟩
    · have h21 := h19.1 c20
      exact ffj_Constants_work_48 (fun A' f q => hq A' ((((ySm.rf.pop rfl).pop rfl).tr f1 rfl rfl).tr f rfl rfl) q)  h21
    · have h22 := h19.2 c20
      refine ⟨fun c23 => ?_, fun c23 => ?_⟩
      · have h24 := h22.1 c23
        exact ffj_Constants_work_48 (fun A' f q => hq A' ((((ySm.rf.pop rfl).pop rfl).tr f1 rfl rfl).tr f rfl rfl) q)  h24
      · have h25 := h22.2 c23
        refine ⟨fun c26 => ?_, fun c26 => ?_⟩
        · have h27 := h25.1 c26
          exact ffj_Constants_work_48 (fun A' f q => hq A' ((((ySm.rf.pop rfl).pop rfl).tr f1 rfl rfl).tr f rfl rfl) q)  h27
        · have h28 := h25.2 c26
          refine ffm_Constants_fail h28 (fun A30 f2 h36 => ?_)
          exact ffj_Constants_work_48 (fun A' f q => hq A' (((((ySm.rf.pop rfl).pop rfl).tr f1 rfl rfl).tr f2 rfl rfl).tr f rfl rfl) q)  h36
theorem ffm_Constants_single {s0 : cS} {a0 : Int} {a1 : Int} {a2 : Int} {Q Q' : cS → Prop} (hw : wc_Constants_single s0 a0 a1 a2 Q) (hq : ∀ (A' : cS), ySm s0 A' [33] [38, 39, 40] → Q A' → Q' A') : wc_Constants_single s0 a0 a1 a2 Q' := by
  unfold wc_Constants_single at hw ⊢
  refine ⟨fun g1 => ?_, ?_⟩
  · have h3 := (hw.1) g1
    obtain ⟨o8, h9⟩ := h3
    refine ⟨o8, ?_⟩
    exact hq _ (ySm.rf.add rfl) h9
  · skip
    refine ⟨fun g10 => ?_, ?_⟩
    · have h12 := (hw.2.1) g10
      refine ffm_Constants_fail h12 (fun A18 f1 h24 => ?_)
      exact hq _ ((ySm.rf.pop rfl).tr f1 rfl rfl) h24
    · skip
      refine ⟨fun g25 => ?_, ?_⟩
      · have h27 := (hw.2.2.1) g25
        refine ffm_Constants_fail h27 (fun A29 f2 h35 => ?_)
        exact hq _ (ySm.rf.tr f2 rfl rfl) h35
      · skip
        refine ⟨fun g36 => ?_, ?_⟩
        · have h38 := (hw.2.2.2.1) g36
          refine ⟨fun c43 => ?_, fun c43 => ?_⟩
          · have h44 := h38.1 c43
            refine ⟨fun c45 => ?_, fun c45 => ?_⟩
            · have h46 := h44.1 c45
              obtain ⟨o51, h52⟩ := h46
              refine ⟨o51, ?_⟩
              exact hq _ ((ySm.rf.pop rfl).add rfl) h52
            · have h53 := h44.2 c45
              obtain ⟨o58, h59⟩ := h53
              refine ⟨o58, ?_⟩
              exact hq _ ((ySm.rf.pop rfl).add rfl) h59
          · have h60 := h38.2 c43
            intro z61 e62 R63
            have h64 := h60 z61 e62 R63
            obtain ⟨o69, h70⟩ := h64
            refine ⟨o69, ?_⟩
            exact hq _ ((ySm.rf.pop rfl).add rfl) h70
        · skip
          intro ng1 ng10 ng25 ng36
          have h71 := hw.2.2.2.2 ng1 ng10 ng25 ng36
          refine ffm_Constants_fail h71 (fun A73 f3 h79 => ?_)
          obtain ⟨o84, h85⟩ := h79
          refine ⟨o84, ?_⟩
          exact hq _ ((ySm.rf.tr f3 rfl rfl).add rfl) h85
theorem ffj_Constants_reckon_386 {rec : Nat → Int → Int → Int → cS → (Int → cS → Prop) → Prop} (hrec : ∀ (i : Nat) (a b c : Int) (A : cS) (Q Q' : Int → cS → Prop), rec i a b c A Q → (∀ (e : Int) (A' : cS), ySm A A' [33] [38, 39, 40] → Q e A' → Q' e A') → rec i a b c A Q') {Q Q' : Int → cS → Prop} {k18 k18' : cS → Int → Int → Int → Int → Int → Prop} {s0 : cS} {x2 : Int} {x3 : Int} {x4 : Int} {x5 : Int} {x6 : Int} (hq : ∀ (e : Int) (A' : cS), ySm s0 A' [33] [38, 39, 40] → Q e A' → Q' e A') (fk18 : ∀ (A' : cS) (x0 : Int) (x1 : Int) (x2 : Int) (x3 : Int) (x4 : Int), ySm s0 A' [33] [38, 39, 40] → k18 A' x0 x1 x2 x3 x4 → k18' A' x0 x1 x2 x3 x4) (hw : wc_Constants_reckon_386 rec Q k18 s0 x2 x3 x4 x5 x6) : wc_Constants_reckon_386 rec Q' k18' s0 x2 x3 x4 x5 x6 := by
  unfold wc_Constants_reckon_386 at hw ⊢
  refine ffm_Tree_next hw (fun r1 A2 f1 h8 => ?_)
  obtain ⟨o9, h10⟩ := h8
  refine ⟨o9, ?_⟩
  exact fk18 _ _ _ _ _ _ (ySm.rf.tr f1 rfl rfl) h10
theorem ffj_Constants_reckon_317 {rec : Nat → Int → Int → Int → cS → (Int → cS → Prop) → Prop} (hrec : ∀ (i : Nat) (a b c : Int) (A : cS) (Q Q' : Int → cS → Prop), rec i a b c A Q → (∀ (e : Int) (A' : cS), ySm A A' [33] [38, 39, 40] → Q e A' → Q' e A') → rec i a b c A Q') {Q Q' : Int → cS → Prop} {k18 k18' : cS → Int → Int → Int → Int → Int → Prop} {s0 : cS} {x2 : Int} {x3 : Int} {x4 : Int} {x5 : Int} {x6 : Int} {x8 : Int} {x9 : Int} {y0 : Int} (hq : ∀ (e : Int) (A' : cS), ySm s0 A' [33] [38, 39, 40] → Q e A' → Q' e A') (fk18 : ∀ (A' : cS) (x0 : Int) (x1 : Int) (x2 : Int) (x3 : Int) (x4 : Int), ySm s0 A' [33] [38, 39, 40] → k18 A' x0 x1 x2 x3 x4 → k18' A' x0 x1 x2 x3 x4) (hw : wc_Constants_reckon_317 rec Q k18 s0 x2 x3 x4 x5 x6 x8 x9 y0) : wc_Constants_reckon_317 rec Q' k18' s0 x2 x3 x4 x5 x6 x8 x9 y0 := by
  unfold wc_Constants_reckon_317 at hw ⊢
  refine ⟨fun c1 => ?_, fun c1 => ?_⟩
  · have h2 := hw.1 c1
    refine ⟨fun c3 => ?_, fun c3 => ?_⟩
    · have h4 := h2.1 c3
      obtain ⟨o9, h10⟩ := h4
      refine ⟨o9, ?_⟩
      exact ffj_Constants_reckon_386 hrec (fun e A' f q => hq e A' ((ySm.rf.add rfl).tr f rfl rfl) q) (fun A' x0 x1 x2 x3 x4 f q => fk18 A' x0 x1 x2 x3 x4 ((ySm.rf.add rfl).tr f rfl rfl) q) h10
    · have h11 := h2.2 c3
      refine ffm_Scope_data h11 (fun r12 A13 f1 h19 => ?_)
      obtain ⟨o24, h25⟩ := h19
      refine ⟨o24, ?_⟩
      exact ffj_Constants_reckon_386 hrec (fun e A' f q => hq e A' (((ySm.rf.tr f1 rfl rfl).add rfl).tr f rfl rfl) q) (fun A' x0 x1 x2 x3 x4 f q => fk18 A' x0 x1 x2 x3 x4 (((ySm.rf.tr f1 rfl rfl).add rfl).tr f rfl rfl) q) h25
  · have h26 := hw.2 c1
    refine ⟨fun c27 => ?_, fun c27 => ?_⟩
    · have h28 := h26.1 c27
      refine ffm_Constants_fail h28 (fun A30 f2 h36 => ?_)
      refine ⟨fun c37 => ?_, fun c37 => ?_⟩
      · have h38 := h36.1 c37
        obtain ⟨o43, h44⟩ := h38
        refine ⟨o43, ?_⟩
        exact ffj_Constants_reckon_386 hrec (fun e A' f q => hq e A' (((ySm.rf.tr f2 rfl rfl).add rfl).tr f rfl rfl) q) (fun A' x0 x1 x2 x3 x4 f q => fk18 A' x0 x1 x2 x3 x4 (((ySm.rf.tr f2 rfl rfl).add rfl).tr f rfl rfl) q) h44
      · have h45 := h36.2 c37
        refine ffm_Scope_data h45 (fun r46 A47 f3 h53 => ?_)
        obtain ⟨o58, h59⟩ := h53
        refine ⟨o58, ?_⟩
        exact ffj_Constants_reckon_386 hrec (fun e A' f q => hq e A' ((((ySm.rf.tr f2 rfl rfl).tr f3 rfl rfl).add rfl).tr f rfl rfl) q) (fun A' x0 x1 x2 x3 x4 f q => fk18 A' x0 x1 x2 x3 x4 ((((ySm.rf.tr f2 rfl rfl).tr f3 rfl rfl).add rfl).tr f rfl rfl) q) h59
    · have h60 := h26.2 c27
      refine ffm_Constants_fail h60 (fun A62 f4 h68 => ?_)
      refine ⟨fun c69 => ?_, fun c69 => ?_⟩
      · have h70 := h68.1 c69
        obtain ⟨o75, h76⟩ := h70
        refine ⟨o75, ?_⟩
        exact ffj_Constants_reckon_386 hrec (fun e A' f q => hq e A' (((ySm.rf.tr f4 rfl rfl).add rfl).tr f rfl rfl) q) (fun A' x0 x1 x2 x3 x4 f q => fk18 A' x0 x1 x2 x3 x4 (((ySm.rf.tr f4 rfl rfl).add rfl).tr f rfl rfl) q) h76
      · have h77 := h68.2 c69
        refine ffm_Scope_data h77 (fun r78 A79 f5 h85 => ?_)
        obtain ⟨o90, h91⟩ := h85
        refine ⟨o90, ?_⟩
        exact ffj_Constants_reckon_386 hrec (fun e A' f q => hq e A' ((((ySm.rf.tr f4 rfl rfl).tr f5 rfl rfl).add rfl).tr f rfl rfl) q) (fun A' x0 x1 x2 x3 x4 f q => fk18 A' x0 x1 x2 x3 x4 ((((ySm.rf.tr f4 rfl rfl).tr f5 rfl rfl).add rfl).tr f rfl rfl) q) h91
theorem ffb_Constants_reckon_18 {rec : Nat → Int → Int → Int → cS → (Int → cS → Prop) → Prop} (hrec : ∀ (i : Nat) (a b c : Int) (A : cS) (Q Q' : Int → cS → Prop), rec i a b c A Q → (∀ (e : Int) (A' : cS), ySm A A' [33] [38, 39, 40] → Q e A' → Q' e A') → rec i a b c A Q') {Q Q' : Int → cS → Prop} {k18 k18' : cS → Int → Int → Int → Int → Int → Prop} {s0 : cS} {x2 : Int} {x3 : Int} {x4 : Int} {x5 : Int} {x6 : Int} (hq : ∀ (e : Int) (A' : cS), ySm s0 A' [33] [38, 39, 40] → Q e A' → Q' e A') (fk18 : ∀ (A' : cS) (x0 : Int) (x1 : Int) (x2 : Int) (x3 : Int) (x4 : Int), ySm s0 A' [33] [38, 39, 40] → k18 A' x0 x1 x2 x3 x4 → k18' A' x0 x1 x2 x3 x4) (hw : wc_Constants_reckon_18B rec Q k18 s0 x2 x3 x4 x5 x6) : wc_Constants_reckon_18B rec Q' k18' s0 x2 x3 x4 x5 x6 := by
  unfold wc_Constants_reckon_18B at hw ⊢
  refine ⟨fun c1 => ?_, fun c1 => ?_⟩
  · have h2 := hw.1 c1
    exact hq _ _ (ySm.rf.pop rfl) h2
  · have h7 := hw.2 c1
    refine ⟨fun c8 => ?_, fun c8 => ?_⟩
    · have h9 := h7.1 c8
      exact hq _ _ (ySm.rf.pop rfl) h9
    · have h14 := h7.2 c8
      refine ffm_Tree_data h14 (fun r15 A16 f1 h22 => ?_)
      refine ffm_Tree_place h22 (fun r23 A24 f2 h30 => ?_)
      refine ffm_Tree_kind h30 (fun r31 A32 f3 h38 => ?_)
      refine ⟨fun g39 => ?_, ?_⟩
      · have h41 := (h38.1) g39
        refine ffm_Scope_find h41 (fun r42 A43 f4 h49 => ?_)
        refine ⟨fun c50 => ?_, fun c50 => ?_⟩
        · have h51 := h49.1 c50
          exact ffj_Constants_reckon_317 hrec (fun e A' f q => hq e A' (((((ySm.rf.tr f1 rfl rfl).tr f2 rfl rfl).tr f3 rfl rfl).tr f4 rfl rfl).tr f rfl rfl) q) (fun A' x0 x1 x2 x3 x4 f q => fk18 A' x0 x1 x2 x3 x4 (((((ySm.rf.tr f1 rfl rfl).tr f2 rfl rfl).tr f3 rfl rfl).tr f4 rfl rfl).tr f rfl rfl) q) h51
        · have h52 := h49.2 c50
          refine ffm_Scope_kind h52 (fun r53 A54 f5 h60 => ?_)
          refine ⟨fun c61 => ?_, fun c61 => ?_⟩
          · have h62 := h60.1 c61
            exact ffj_Constants_reckon_317 hrec (fun e A' f q => hq e A' ((((((ySm.rf.tr f1 rfl rfl).tr f2 rfl rfl).tr f3 rfl rfl).tr f4 rfl rfl).tr f5 rfl rfl).tr f rfl rfl) q) (fun A' x0 x1 x2 x3 x4 f q => fk18 A' x0 x1 x2 x3 x4 ((((((ySm.rf.tr f1 rfl rfl).tr f2 rfl rfl).tr f3 rfl rfl).tr f4 rfl rfl).tr f5 rfl rfl).tr f rfl rfl) q) h62
          · have h63 := h60.2 c61
            refine ffm_Scope_owner h63 (fun r64 A65 f6 h71 => ?_)
            refine ⟨fun c72 => ?_, fun c72 => ?_⟩
            · have h73 := h71.1 c72
              exact ffj_Constants_reckon_317 hrec (fun e A' f q => hq e A' (((((((ySm.rf.tr f1 rfl rfl).tr f2 rfl rfl).tr f3 rfl rfl).tr f4 rfl rfl).tr f5 rfl rfl).tr f6 rfl rfl).tr f rfl rfl) q) (fun A' x0 x1 x2 x3 x4 f q => fk18 A' x0 x1 x2 x3 x4 (((((((ySm.rf.tr f1 rfl rfl).tr f2 rfl rfl).tr f3 rfl rfl).tr f4 rfl rfl).tr f5 rfl rfl).tr f6 rfl rfl).tr f rfl rfl) q) h73
            · have h74 := h71.2 c72
              exact ffj_Constants_reckon_317 hrec (fun e A' f q => hq e A' (((((((ySm.rf.tr f1 rfl rfl).tr f2 rfl rfl).tr f3 rfl rfl).tr f4 rfl rfl).tr f5 rfl rfl).tr f6 rfl rfl).tr f rfl rfl) q) (fun A' x0 x1 x2 x3 x4 f q => fk18 A' x0 x1 x2 x3 x4 (((((((ySm.rf.tr f1 rfl rfl).tr f2 rfl rfl).tr f3 rfl rfl).tr f4 rfl rfl).tr f5 rfl rfl).tr f6 rfl rfl).tr f rfl rfl) q) h74
      · skip
        refine ⟨fun g75 => ?_, ?_⟩
        · have h77 := (h38.2.1) g75
          refine hrec _ _ _ _ _ _ _ h77 (fun r78 A79 f7 h85 => ?_)
          obtain ⟨o90, h91⟩ := h85
          refine ⟨o90, ?_⟩
          exact ffj_Constants_reckon_386 hrec (fun e A' f q => hq e A' ((((((ySm.rf.tr f1 rfl rfl).tr f2 rfl rfl).tr f3 rfl rfl).tr f7 rfl rfl).add rfl).tr f rfl rfl) q) (fun A' x0 x1 x2 x3 x4 f q => fk18 A' x0 x1 x2 x3 x4 ((((((ySm.rf.tr f1 rfl rfl).tr f2 rfl rfl).tr f3 rfl rfl).tr f7 rfl rfl).add rfl).tr f rfl rfl) q) h91
        · skip
          refine ⟨fun g92 => ?_, ?_⟩
          · have h94 := (h38.2.2.1) g92
            refine ffm_Tree_first h94 (fun r95 A96 f8 h102 => ?_)
            refine hrec _ _ _ _ _ _ _ h102 (fun r103 A104 f9 h110 => ?_)
            obtain ⟨o115, h116⟩ := h110
            refine ⟨o115, ?_⟩
            exact ffj_Constants_reckon_386 hrec (fun e A' f q => hq e A' (((((((ySm.rf.tr f1 rfl rfl).tr f2 rfl rfl).tr f3 rfl rfl).tr f8 rfl rfl).tr f9 rfl rfl).add rfl).tr f rfl rfl) q) (fun A' x0 x1 x2 x3 x4 f q => fk18 A' x0 x1 x2 x3 x4 (((((((ySm.rf.tr f1 rfl rfl).tr f2 rfl rfl).tr f3 rfl rfl).tr f8 rfl rfl).tr f9 rfl rfl).add rfl).tr f rfl rfl) q) h116
          · skip
            refine ⟨fun g117 => ?_, ?_⟩
            · have h119 := (h38.2.2.2.1) g117
              refine ffm_Tree_first h119 (fun r120 A121 f10 h127 => ?_)
              refine hrec _ _ _ _ _ _ _ h127 (fun r128 A129 f11 h135 => ?_)
              obtain ⟨o140, h141⟩ := h135
              refine ⟨o140, ?_⟩
              refine ffm_Tree_first h141 (fun r142 A143 f12 h149 => ?_)
              refine ffm_Tree_next h149 (fun r150 A151 f13 h157 => ?_)
              refine ffm_Tree_place h157 (fun r158 A159 f14 h165 => ?_)
              refine ffm_Constants_fail h165 (fun A167 f15 h173 => ?_)
              exact ffj_Constants_reckon_386 hrec (fun e A' f q => hq e A' (((((((((((ySm.rf.tr f1 rfl rfl).tr f2 rfl rfl).tr f3 rfl rfl).tr f10 rfl rfl).tr f11 rfl rfl).add rfl).tr f12 rfl rfl).tr f13 rfl rfl).tr f14 rfl rfl).tr f15 rfl rfl).tr f rfl rfl) q) (fun A' x0 x1 x2 x3 x4 f q => fk18 A' x0 x1 x2 x3 x4 (((((((((((ySm.rf.tr f1 rfl rfl).tr f2 rfl rfl).tr f3 rfl rfl).tr f10 rfl rfl).tr f11 rfl rfl).add rfl).tr f12 rfl rfl).tr f13 rfl rfl).tr f14 rfl rfl).tr f15 rfl rfl).tr f rfl rfl) q) h173
            · skip
              refine ⟨fun g174 => ?_, ?_⟩
              · have h176 := (h38.2.2.2.2.1) g174
                refine ffm_W_isRelation h176 (fun r177 A178 f16 h184 => ?_)
                refine ⟨fun c185 => ?_, fun c185 => ?_⟩
                · have h186 := h184.1 c185
                  refine ffm_Constants_work h186 (fun A188 f17 h194 => ?_)
                  exact ffj_Constants_reckon_386 hrec (fun e A' f q => hq e A' ((((((ySm.rf.tr f1 rfl rfl).tr f2 rfl rfl).tr f3 rfl rfl).tr f16 rfl rfl).tr f17 rfl rfl).tr f rfl rfl) q) (fun A' x0 x1 x2 x3 x4 f q => fk18 A' x0 x1 x2 x3 x4 ((((((ySm.rf.tr f1 rfl rfl).tr f2 rfl rfl).tr f3 rfl rfl).tr f16 rfl rfl).tr f17 rfl rfl).tr f rfl rfl) q) h194
                · have h195 := h184.2 c185
                  refine ffm_Tree_extra h195 (fun r196 A197 f18 h203 => ?_)
                  refine ⟨fun c204 => ?_, fun c204 => ?_⟩
                  · have h205 := h203.1 c204
                    refine ffm_Constants_relate h205 (fun r206 A207 f19 h213 => ?_)
                    refine ⟨fun c214 => ?_, fun c214 => ?_⟩
                    · have h215 := h213.1 c214
                      exact ffj_Constants_reckon_386 hrec (fun e A' f q => hq e A' (((((((ySm.rf.tr f1 rfl rfl).tr f2 rfl rfl).tr f3 rfl rfl).tr f16 rfl rfl).tr f18 rfl rfl).tr f19 rfl rfl).tr f rfl rfl) q) (fun A' x0 x1 x2 x3 x4 f q => fk18 A' x0 x1 x2 x3 x4 (((((((ySm.rf.tr f1 rfl rfl).tr f2 rfl rfl).tr f3 rfl rfl).tr f16 rfl rfl).tr f18 rfl rfl).tr f19 rfl rfl).tr f rfl rfl) q) h215
                    · have h216 := h213.2 c214
                      refine ⟨fun c217 => ?_, fun c217 => ?_⟩
                      · have h218 := h216.1 c217
                        exact ffj_Constants_reckon_386 hrec (fun e A' f q => hq e A' (((((((ySm.rf.tr f1 rfl rfl).tr f2 rfl rfl).tr f3 rfl rfl).tr f16 rfl rfl).tr f18 rfl rfl).tr f19 rfl rfl).tr f rfl rfl) q) (fun A' x0 x1 x2 x3 x4 f q => fk18 A' x0 x1 x2 x3 x4 (((((((ySm.rf.tr f1 rfl rfl).tr f2 rfl rfl).tr f3 rfl rfl).tr f16 rfl rfl).tr f18 rfl rfl).tr f19 rfl rfl).tr f rfl rfl) q) h218
                      · have h219 := h216.2 c217
                        exact ffj_Constants_reckon_386 hrec (fun e A' f q => hq e A' (((((((ySm.rf.tr f1 rfl rfl).tr f2 rfl rfl).tr f3 rfl rfl).tr f16 rfl rfl).tr f18 rfl rfl).tr f19 rfl rfl).tr f rfl rfl) q) (fun A' x0 x1 x2 x3 x4 f q => fk18 A' x0 x1 x2 x3 x4 (((((((ySm.rf.tr f1 rfl rfl).tr f2 rfl rfl).tr f3 rfl rfl).tr f16 rfl rfl).tr f18 rfl rfl).tr f19 rfl rfl).tr f rfl rfl) q) h219
                  · have h220 := h203.2 c204
                    refine ffm_Constants_relate h220 (fun r221 A222 f20 h228 => ?_)
                    refine ⟨fun c229 => ?_, fun c229 => ?_⟩
                    · have h230 := h228.1 c229
                      exact ffj_Constants_reckon_386 hrec (fun e A' f q => hq e A' (((((((ySm.rf.tr f1 rfl rfl).tr f2 rfl rfl).tr f3 rfl rfl).tr f16 rfl rfl).tr f18 rfl rfl).tr f20 rfl rfl).tr f rfl rfl) q) (fun A' x0 x1 x2 x3 x4 f q => fk18 A' x0 x1 x2 x3 x4 (((((((ySm.rf.tr f1 rfl rfl).tr f2 rfl rfl).tr f3 rfl rfl).tr f16 rfl rfl).tr f18 rfl rfl).tr f20 rfl rfl).tr f rfl rfl) q) h230
                    · have h231 := h228.2 c229
                      refine ⟨fun c232 => ?_, fun c232 => ?_⟩
                      · have h233 := h231.1 c232
                        exact ffj_Constants_reckon_386 hrec (fun e A' f q => hq e A' (((((((ySm.rf.tr f1 rfl rfl).tr f2 rfl rfl).tr f3 rfl rfl).tr f16 rfl rfl).tr f18 rfl rfl).tr f20 rfl rfl).tr f rfl rfl) q) (fun A' x0 x1 x2 x3 x4 f q => fk18 A' x0 x1 x2 x3 x4 (((((((ySm.rf.tr f1 rfl rfl).tr f2 rfl rfl).tr f3 rfl rfl).tr f16 rfl rfl).tr f18 rfl rfl).tr f20 rfl rfl).tr f rfl rfl) q) h233
                      · have h234 := h231.2 c232
                        exact ffj_Constants_reckon_386 hrec (fun e A' f q => hq e A' (((((((ySm.rf.tr f1 rfl rfl).tr f2 rfl rfl).tr f3 rfl rfl).tr f16 rfl rfl).tr f18 rfl rfl).tr f20 rfl rfl).tr f rfl rfl) q) (fun A' x0 x1 x2 x3 x4 f q => fk18 A' x0 x1 x2 x3 x4 (((((((ySm.rf.tr f1 rfl rfl).tr f2 rfl rfl).tr f3 rfl rfl).tr f16 rfl rfl).tr f18 rfl rfl).tr f20 rfl rfl).tr f rfl rfl) q) h234
              · skip
                intro ng39 ng75 ng92 ng117 ng174
                have h235 := h38.2.2.2.2.2 ng39 ng75 ng92 ng117 ng174
                refine ffm_Tree_kind h235 (fun r236 A237 f21 h243 => ?_)
                refine ffm_Constants_single h243 (fun A245 f22 h251 => ?_)
                exact ffj_Constants_reckon_386 hrec (fun e A' f q => hq e A' ((((((ySm.rf.tr f1 rfl rfl).tr f2 rfl rfl).tr f3 rfl rfl).tr f21 rfl rfl).tr f22 rfl rfl).tr f rfl rfl) q) (fun A' x0 x1 x2 x3 x4 f q => fk18 A' x0 x1 x2 x3 x4 ((((((ySm.rf.tr f1 rfl rfl).tr f2 rfl rfl).tr f3 rfl rfl).tr f21 rfl rfl).tr f22 rfl rfl).tr f rfl rfl) q) h251
theorem ffl_Constants_reckon_180 {rec : Nat → Int → Int → Int → cS → (Int → cS → Prop) → Prop} (hrec : ∀ (i : Nat) (a b c : Int) (A : cS) (Q Q' : Int → cS → Prop), rec i a b c A Q → (∀ (e : Int) (A' : cS), ySm A A' [33] [38, 39, 40] → Q e A' → Q' e A') → rec i a b c A Q') {Q Q' : Int → cS → Prop}  : ∀ (m : Nat) (s0 : cS) (x2 : Int) (x3 : Int) (x4 : Int) (x5 : Int) (x6 : Int), (∀ (e : Int) (A' : cS), ySm s0 A' [33] [38, 39, 40] → Q e A' → Q' e A') → wc_Constants_reckon_18 rec Q  m s0 x2 x3 x4 x5 x6 → wc_Constants_reckon_18 rec Q'  m s0 x2 x3 x4 x5 x6 := by
  intro m
  induction m with
  | zero => intro s0 x2 x3 x4 x5 x6 hq  hw; exact hw
  | succ m ih => intro s0 x2 x3 x4 x5 x6 hq  hw; exact ffb_Constants_reckon_18 hrec hq  (fun A' y0 y1 y2 y3 y4 f1 q => ih A' y0 y1 y2 y3 y4 (fun e A' f q => hq e A' (f1.tr f rfl rfl) q)  q) hw
theorem ffm_Constants_reckon {rec : Nat → Int → Int → Int → cS → (Int → cS → Prop) → Prop} (hrec : ∀ (i : Nat) (a b c : Int) (A : cS) (Q Q' : Int → cS → Prop), rec i a b c A Q → (∀ (e : Int) (A' : cS), ySm A A' [33] [38, 39, 40] → Q e A' → Q' e A') → rec i a b c A Q') {s0 : cS} {a0 : Int} {a1 : Int} {Q Q' : Int → cS → Prop} (hw : wc_Constants_reckon rec s0 a0 a1 Q) (hq : ∀ (e : Int) (A' : cS), ySm s0 A' [33] [38, 39, 40] → Q e A' → Q' e A') : wc_Constants_reckon rec s0 a0 a1 Q' := by
  unfold wc_Constants_reckon at hw ⊢
  refine ffm_Tree_first hw (fun r1 A2 f1 h8 => ?_)
  obtain ⟨m9, h10⟩ := h8
  exact ⟨m9, ffl_Constants_reckon_180 hrec m9 _ _ _ _ _ _ (fun e A' f q => hq e A' ((ySm.rf.tr f1 rfl rfl).tr f rfl rfl) q)  h10⟩
theorem ffj_Constants_choose_52 {rec : Nat → Int → Int → Int → cS → (Int → cS → Prop) → Prop} (hrec : ∀ (i : Nat) (a b c : Int) (A : cS) (Q Q' : Int → cS → Prop), rec i a b c A Q → (∀ (e : Int) (A' : cS), ySm A A' [33] [38, 39, 40] → Q e A' → Q' e A') → rec i a b c A Q') {Q Q' : Int → cS → Prop}  {s0 : cS} {x2 : Int} {x4 : Int} {x5 : Int} {y0 : Int} {y1 : Int} (hq : ∀ (e : Int) (A' : cS), ySm s0 A' [33] [38, 39, 40] → Q e A' → Q' e A')  (hw : wc_Constants_choose_52 rec Q  s0 x2 x4 x5 y0 y1) : wc_Constants_choose_52 rec Q'  s0 x2 x4 x5 y0 y1 := by
  unfold wc_Constants_choose_52 at hw ⊢
  refine hrec _ _ _ _ _ _ _ hw (fun r1 A2 f1 h8 => ?_)
  refine ffm_Tree_next h8 (fun r9 A10 f2 h16 => ?_)
  refine ⟨fun c17 => ?_, fun c17 => ?_⟩
  · have h18 := h16.1 c17
    refine hrec _ _ _ _ _ _ _ h18 (fun r19 A20 f3 h26 => ?_)
    refine ⟨fun c27 => ?_, fun c27 => ?_⟩
    · have h28 := h26.1 c27
      exact hq _ _ (((ySm.rf.tr f1 rfl rfl).tr f2 rfl rfl).tr f3 rfl rfl) h28
    · have h29 := h26.2 c27
      exact hq _ _ (((ySm.rf.tr f1 rfl rfl).tr f2 rfl rfl).tr f3 rfl rfl) h29
  · have h30 := h16.2 c17
    refine ⟨fun c31 => ?_, fun c31 => ?_⟩
    · have h32 := h30.1 c31
      refine hrec _ _ _ _ _ _ _ h32 (fun r33 A34 f4 h40 => ?_)
      refine ⟨fun c41 => ?_, fun c41 => ?_⟩
      · have h42 := h40.1 c41
        exact hq _ _ (((ySm.rf.tr f1 rfl rfl).tr f2 rfl rfl).tr f4 rfl rfl) h42
      · have h43 := h40.2 c41
        exact hq _ _ (((ySm.rf.tr f1 rfl rfl).tr f2 rfl rfl).tr f4 rfl rfl) h43
    · have h44 := h30.2 c31
      refine hrec _ _ _ _ _ _ _ h44 (fun r45 A46 f5 h52 => ?_)
      refine ⟨fun c53 => ?_, fun c53 => ?_⟩
      · have h54 := h52.1 c53
        exact hq _ _ (((ySm.rf.tr f1 rfl rfl).tr f2 rfl rfl).tr f5 rfl rfl) h54
      · have h55 := h52.2 c53
        exact hq _ _ (((ySm.rf.tr f1 rfl rfl).tr f2 rfl rfl).tr f5 rfl rfl) h55
theorem ffm_Constants_choose {rec : Nat → Int → Int → Int → cS → (Int → cS → Prop) → Prop} (hrec : ∀ (i : Nat) (a b c : Int) (A : cS) (Q Q' : Int → cS → Prop), rec i a b c A Q → (∀ (e : Int) (A' : cS), ySm A A' [33] [38, 39, 40] → Q e A' → Q' e A') → rec i a b c A Q') {s0 : cS} {a0 : Int} {a1 : Int} {Q Q' : Int → cS → Prop} (hw : wc_Constants_choose rec s0 a0 a1 Q) (hq : ∀ (e : Int) (A' : cS), ySm s0 A' [33] [38, 39, 40] → Q e A' → Q' e A') : wc_Constants_choose rec s0 a0 a1 Q' := by
  unfold wc_Constants_choose at hw ⊢
  refine ffm_Tree_first hw (fun r1 A2 f1 h8 => ?_)
  refine ffm_Tree_next h8 (fun r9 A10 f2 h16 => ?_)
  refine hrec _ _ _ _ _ _ _ h16 (fun r17 A18 f3 h24 => ?_)
  refine ⟨fun c25 => ?_, fun c25 => ?_⟩
  · have h26 := h24.1 c25
    refine ⟨fun c27 => ?_, fun c27 => ?_⟩
    · have h28 := h26.1 c27
      exact ffj_Constants_choose_52 hrec (fun e A' f q => hq e A' ((((ySm.rf.tr f1 rfl rfl).tr f2 rfl rfl).tr f3 rfl rfl).tr f rfl rfl) q)  h28
    · have h29 := h26.2 c27
      exact ffj_Constants_choose_52 hrec (fun e A' f q => hq e A' ((((ySm.rf.tr f1 rfl rfl).tr f2 rfl rfl).tr f3 rfl rfl).tr f rfl rfl) q)  h29
  · have h31 := h24.2 c25
    refine ⟨fun c32 => ?_, fun c32 => ?_⟩
    · have h33 := h31.1 c32
      exact ffj_Constants_choose_52 hrec (fun e A' f q => hq e A' ((((ySm.rf.tr f1 rfl rfl).tr f2 rfl rfl).tr f3 rfl rfl).tr f rfl rfl) q)  h33
    · have h34 := h31.2 c32
      exact ffj_Constants_choose_52 hrec (fun e A' f q => hq e A' ((((ySm.rf.tr f1 rfl rfl).tr f2 rfl rfl).tr f3 rfl rfl).tr f rfl rfl) q)  h34
theorem ffG_K : ∀ (m : Nat) (i : Nat) (a b c : Int) (A : cS) (Q Q' : Int → cS → Prop), wcG_K m i a b c A Q → (∀ (e : Int) (A' : cS), ySm A A' [33] [38, 39, 40] → Q e A' → Q' e A') → wcG_K m i a b c A Q' := by
  intro m
  induction m with
  | zero => intro i a b c A Q Q' hw hq; exact hw
  | succ m ih =>
    intro i a b c A Q Q' hw hq
    match i with
    | 0 => exact ffm_Constants_reckon ih hw (fun e A' f q => hq _ A' f q)
    | 1 => exact ffm_Constants_choose ih hw (fun e A' f q => hq _ A' f q)
      | n + 2 => exact hw
theorem ffj_Constants_number_55 {Q Q' : Int → cS → Prop}  {s0 : cS} {x3 : Int} (hq : ∀ (e : Int) (A' : cS), ySm s0 A' [33] [4, 5, 38, 39, 40] → Q e A' → Q' e A')  (hw : wc_Constants_number_55 Q  s0 x3) : wc_Constants_number_55 Q'  s0 x3 := by
  unfold wc_Constants_number_55 at hw ⊢
  refine ⟨fun c1 => ?_, fun c1 => ?_⟩
  · have h2 := hw.1 c1
    refine ⟨fun c3 => ?_, fun c3 => ?_⟩
    · have h4 := h2.1 c3
      exact hq _ _ ySm.rf h4
    · have h5 := h2.2 c3
      exact hq _ _ ySm.rf h5
  · have h6 := hw.2 c1
    refine ffm_Program_blame h6 (fun A8 f1 h14 => ?_)
    refine ⟨fun c15 => ?_, fun c15 => ?_⟩
    · have h16 := h14.1 c15
      exact hq _ _ (ySm.rf.tr f1 rfl rfl) h16
    · have h17 := h14.2 c15
      exact hq _ _ (ySm.rf.tr f1 rfl rfl) h17
theorem ffm_Constants_number {s0 : cS} {a0 : Int} {a1 : Int} {Q Q' : Int → cS → Prop} (hw : wc_Constants_number s0 a0 a1 Q) (hq : ∀ (e : Int) (A' : cS), ySm s0 A' [33] [4, 5, 38, 39, 40] → Q e A' → Q' e A') : wc_Constants_number s0 a0 a1 Q' := by
  unfold wc_Constants_number at hw ⊢
  obtain ⟨m16, hm17, h18⟩ := hw
  refine ⟨m16, hm17, ?_⟩
  refine ffG_K m16 _ _ _ _ _ _ _ h18 (fun r19 A20 f1 h26 => ?_)
  refine ⟨fun c27 => ?_, fun c27 => ?_⟩
  · have h28 := h26.1 c27
    exact ffj_Constants_number_55 (fun e A' f q => hq e A' ((((ySm.rf.pv rfl).cut rfl).tr f1 rfl rfl).tr f rfl rfl) q)  h28
  · have h29 := h26.2 c27
    refine ⟨fun c30 => ?_, fun c30 => ?_⟩
    · have h31 := h29.1 c30
      exact ffj_Constants_number_55 (fun e A' f q => hq e A' ((((ySm.rf.pv rfl).cut rfl).tr f1 rfl rfl).tr f rfl rfl) q)  h31
    · have h32 := h29.2 c30
      refine ⟨fun c33 => ?_, fun c33 => ?_⟩
      · have h34 := h32.1 c33
        refine ffm_Tree_place h34 (fun r35 A36 f2 h42 => ?_)
        refine ffm_Constants_fail h42 (fun A44 f3 h50 => ?_)
        exact ffj_Constants_number_55 (fun e A' f q => hq e A' ((((((ySm.rf.pv rfl).cut rfl).tr f1 rfl rfl).tr f2 rfl rfl).tr f3 rfl rfl).tr f rfl rfl) q)  h50
      · have h51 := h32.2 c33
        refine ⟨fun c52 => ?_, fun c52 => ?_⟩
        · have h53 := h51.1 c52
          exact ffj_Constants_number_55 (fun e A' f q => hq e A' ((((ySm.rf.pv rfl).cut rfl).tr f1 rfl rfl).tr f rfl rfl) q)  h53
        · have h54 := h51.2 c52
          refine ffm_Tree_place h54 (fun r55 A56 f4 h62 => ?_)
          refine ffm_Constants_fail h62 (fun A64 f5 h70 => ?_)
          exact ffj_Constants_number_55 (fun e A' f q => hq e A' ((((((ySm.rf.pv rfl).cut rfl).tr f1 rfl rfl).tr f4 rfl rfl).tr f5 rfl rfl).tr f rfl rfl) q)  h70
theorem ffm_Coder_leaveAll {s0 : cS}  {Q Q' : cS → Prop} (hw : wc_Coder_leaveAll s0  Q) (hq : ∀ (A' : cS), ySm s0 A' [] [13, 14, 15, 16] → Q A' → Q' A') : wc_Coder_leaveAll s0  Q' := by
  unfold wc_Coder_leaveAll at hw ⊢
  exact hq _ ((((ySm.rf.pv rfl).pv rfl).pv rfl).pv rfl) hw
theorem ffb_Coder_entrance_86 {Q Q' : cS → Prop} {k86 k86' : cS → Int → Int → Int → Prop} {s0 : cS} {x2 : Int} {x3 : Int} {x4 : Int} (hq : ∀ (A' : cS), ySm s0 A' [26, 33] [4, 5, 18, 38, 39, 40] → Q A' → Q' A') (fk86 : ∀ (A' : cS) (x0 : Int) (x1 : Int) (x2 : Int), ySm s0 A' [26, 33] [4, 5, 18, 38, 39, 40] → k86 A' x0 x1 x2 → k86' A' x0 x1 x2) (hw : wc_Coder_entrance_86B Q k86 s0 x2 x3 x4) : wc_Coder_entrance_86B Q' k86' s0 x2 x3 x4 := by
  unfold wc_Coder_entrance_86B at hw ⊢
  refine ⟨fun c1 => ?_, fun c1 => ?_⟩
  · have h2 := hw.1 c1
    obtain ⟨o7, h8⟩ := h2
    refine ⟨o7, ?_⟩
    refine ffm_Program_here h8 (fun r9 A10 f1 h16 => ?_)
    obtain ⟨o21, h22⟩ := h16
    refine ⟨o21, ?_⟩
    exact hq _ (((ySm.rf.add rfl).tr f1 rfl rfl).add rfl) h22
  · have h23 := hw.2 c1
    refine ⟨fun c24 => ?_, fun c24 => ?_⟩
    · have h25 := h23.1 c24
      obtain ⟨o26, h27⟩ := h25
      refine ⟨o26, ?_⟩
      exact fk86 _ _ _ _ ySm.rf h27
    · have h28 := h23.2 c24
      refine ffm_Tree_place h28 (fun r29 A30 f2 h36 => ?_)
      refine ffm_Program_blame h36 (fun A38 f3 h44 => ?_)
      obtain ⟨o45, h46⟩ := h44
      refine ⟨o45, ?_⟩
      exact fk86 _ _ _ _ ((ySm.rf.tr f2 rfl rfl).tr f3 rfl rfl) h46
theorem ffl_Coder_entrance_860 {Q Q' : cS → Prop}  : ∀ (m : Nat) (s0 : cS) (x2 : Int) (x3 : Int) (x4 : Int), (∀ (A' : cS), ySm s0 A' [26, 33] [4, 5, 18, 38, 39, 40] → Q A' → Q' A') → wc_Coder_entrance_86 Q  m s0 x2 x3 x4 → wc_Coder_entrance_86 Q'  m s0 x2 x3 x4 := by
  intro m
  induction m with
  | zero => intro s0 x2 x3 x4 hq  hw; exact hw
  | succ m ih => intro s0 x2 x3 x4 hq  hw; exact ffb_Coder_entrance_86 hq  (fun A' y0 y1 y2 f1 q => ih A' y0 y1 y2 (fun A' f q => hq A' (f1.tr f rfl rfl) q)  q) hw
theorem ffm_Coder_entrance {s0 : cS} {a0 : Int} {Q Q' : cS → Prop} (hw : wc_Coder_entrance s0 a0 Q) (hq : ∀ (A' : cS), ySm s0 A' [26, 33] [4, 5, 18, 38, 39, 40] → Q A' → Q' A') : wc_Coder_entrance s0 a0 Q' := by
  unfold wc_Coder_entrance at hw ⊢
  refine ffm_Tree_kind hw (fun r1 A2 f1 h8 => ?_)
  refine ⟨fun c9 => ?_, fun c9 => ?_⟩
  · have h10 := h8.1 c9
    refine ffm_Tree_first h10 (fun r11 A12 f2 h18 => ?_)
    refine ffm_Constants_number h18 (fun r19 A20 f3 h26 => ?_)
    refine ffm_Constants_hasFailed h26 (fun r27 A28 f4 h34 => ?_)
    refine ⟨fun c35 => ?_, fun c35 => ?_⟩
    · have h36 := h34.1 c35
      obtain ⟨m37, h38⟩ := h36
      exact ⟨m37, ffl_Coder_entrance_860 m37 _ _ _ _ (fun A' f q => hq A' (((((ySm.rf.tr f1 rfl rfl).tr f2 rfl rfl).tr f3 rfl rfl).tr f4 rfl rfl).tr f rfl rfl) q)  h38⟩
    · have h39 := h34.2 c35
      exact hq _ ((((ySm.rf.tr f1 rfl rfl).tr f2 rfl rfl).tr f3 rfl rfl).tr f4 rfl rfl) h39
  · have h40 := h8.2 c9
    refine ⟨fun c41 => ?_, fun c41 => ?_⟩
    · have h42 := h40.1 c41
      refine ffm_Program_here h42 (fun r43 A44 f5 h50 => ?_)
      exact hq _ (((ySm.rf.tr f1 rfl rfl).tr f5 rfl rfl).pv rfl) h50
    · have h62 := h40.2 c41
      refine ffm_Tree_place h62 (fun r63 A64 f6 h70 => ?_)
      refine ffm_Program_blame h70 (fun A72 f7 h78 => ?_)
      refine ffm_Program_here h78 (fun r79 A80 f8 h86 => ?_)
      exact hq _ (((((ySm.rf.tr f1 rfl rfl).tr f6 rfl rfl).tr f7 rfl rfl).tr f8 rfl rfl).pv rfl) h86
theorem ffm_Coder_routineName {s0 : cS} {a0 : Int} {Q Q' : cS → Prop} (hw : wc_Coder_routineName s0 a0 Q) (hq : ∀ (A' : cS), ySm s0 A' [2, 27, 28, 29, 30, 31] [4, 5] → Q A' → Q' A') : wc_Coder_routineName s0 a0 Q' := by
  unfold wc_Coder_routineName at hw ⊢
  refine ffm_Tree_extra hw (fun r1 A2 f1 h8 => ?_)
  refine ffm_Program_home h8 (fun r9 A10 f2 h16 => ?_)
  refine ⟨fun c17 => ?_, fun c17 => ?_⟩
  · have h18 := h16.1 c17
    refine ffm_Tree_data h18 (fun r19 A20 f3 h26 => ?_)
    refine ffm_Scope_find h26 (fun r27 A28 f4 h34 => ?_)
    refine ffm_Scope_owner h34 (fun r35 A36 f5 h42 => ?_)
    refine ⟨fun c43 => ?_, fun c43 => ?_⟩
    · have h44 := h42.1 c43
      refine ffm_Scope_setOwner h44 (fun A46 f6 h52 => ?_)
      refine ffm_Scope_data h52 (fun r53 A54 f7 h60 => ?_)
      intro z61 e62 R63
      have h64 := h60 z61 e62 R63
      refine ffm_Program_setWord h64 (fun A66 f8 h72 => ?_)
      exact hq _ ((((((((ySm.rf.tr f1 rfl rfl).tr f2 rfl rfl).tr f3 rfl rfl).tr f4 rfl rfl).tr f5 rfl rfl).tr f6 rfl rfl).tr f7 rfl rfl).tr f8 rfl rfl) h72
    · have h73 := h42.2 c43
      refine ffm_Tree_place h73 (fun r74 A75 f9 h81 => ?_)
      refine ffm_Scope_place h81 (fun r82 A83 f10 h89 => ?_)
      refine ffm_Program_blame h89 (fun A91 f11 h97 => ?_)
      refine ffm_Scope_setOwner h97 (fun A99 f12 h105 => ?_)
      refine ffm_Scope_data h105 (fun r106 A107 f13 h113 => ?_)
      intro z114 e115 R116
      have h117 := h113 z114 e115 R116
      refine ffm_Program_setWord h117 (fun A119 f14 h125 => ?_)
      exact hq _ (((((((((((ySm.rf.tr f1 rfl rfl).tr f2 rfl rfl).tr f3 rfl rfl).tr f4 rfl rfl).tr f5 rfl rfl).tr f9 rfl rfl).tr f10 rfl rfl).tr f11 rfl rfl).tr f12 rfl rfl).tr f13 rfl rfl).tr f14 rfl rfl) h125
  · have h126 := h16.2 c17
    refine ffm_Tree_data h126 (fun r127 A128 f15 h134 => ?_)
    refine ffm_Tree_place h134 (fun r135 A136 f16 h142 => ?_)
    refine ffm_Scope_declare h142 (fun r143 A144 f17 h150 => ?_)
    exact hq _ (((((ySm.rf.tr f1 rfl rfl).tr f2 rfl rfl).tr f15 rfl rfl).tr f16 rfl rfl).tr f17 rfl rfl) h150
theorem ffm_Coder_emit {s0 : cS} {a0 : Int} {a1 : Int} {Q Q' : Int → cS → Prop} (hw : wc_Coder_emit s0 a0 a1 Q) (hq : ∀ (e : Int) (A' : cS), ySm s0 A' [1] [] → Q e A' → Q' e A') : wc_Coder_emit s0 a0 a1 Q' := by
  unfold wc_Coder_emit at hw ⊢
  refine ffm_Program_emit hw (fun r1 A2 f1 h8 => ?_)
  exact hq _ _ (ySm.rf.tr f1 rfl rfl) h8
theorem ffb_Coder_parameters_16 {Q Q' : Int → cS → Prop} {k16 k16' : cS → Int → Int → Prop} {s0 : cS} {x2 : Int} {x3 : Int} (hq : ∀ (e : Int) (A' : cS), ySm s0 A' [4, 6, 27, 28, 29, 30, 31] [4, 5, 19, 20] → Q e A' → Q' e A') (fk16 : ∀ (A' : cS) (x0 : Int) (x1 : Int), ySm s0 A' [4, 6, 27, 28, 29, 30, 31] [4, 5, 19, 20] → k16 A' x0 x1 → k16' A' x0 x1) (hw : wc_Coder_parameters_16B Q k16 s0 x2 x3) : wc_Coder_parameters_16B Q' k16' s0 x2 x3 := by
  unfold wc_Coder_parameters_16B at hw ⊢
  refine ⟨fun c1 => ?_, fun c1 => ?_⟩
  · have h2 := hw.1 c1
    obtain ⟨o14, h15⟩ := h2
    refine ⟨o14, ?_⟩
    refine ffm_Program_setBegin h15 (fun A17 f1 h23 => ?_)
    exact hq _ _ ((ySm.rf.pv rfl).tr f1 rfl rfl) h23
  · have h24 := hw.2 c1
    refine ffm_Tree_next h24 (fun r25 A26 f2 h32 => ?_)
    refine ⟨fun c33 => ?_, fun c33 => ?_⟩
    · have h34 := h32.1 c33
      obtain ⟨o46, h47⟩ := h34
      refine ⟨o46, ?_⟩
      refine ffm_Program_setBegin h47 (fun A49 f3 h55 => ?_)
      exact hq _ _ (((ySm.rf.tr f2 rfl rfl).pv rfl).tr f3 rfl rfl) h55
    · have h56 := h32.2 c33
      refine ffm_Tree_data h56 (fun r57 A58 f4 h64 => ?_)
      refine ffm_Tree_place h64 (fun r65 A66 f5 h72 => ?_)
      refine ffm_Scope_declare h72 (fun r73 A74 f6 h80 => ?_)
      obtain ⟨o81, h82⟩ := h80
      refine ⟨o81, ?_⟩
      refine ffm_Tree_next h82 (fun r94 A95 f7 h101 => ?_)
      obtain ⟨o102, h103⟩ := h101
      refine ⟨o102, ?_⟩
      exact fk16 _ _ _ ((((((ySm.rf.tr f2 rfl rfl).tr f4 rfl rfl).tr f5 rfl rfl).tr f6 rfl rfl).pv rfl).tr f7 rfl rfl) h103
theorem ffl_Coder_parameters_160 {Q Q' : Int → cS → Prop}  : ∀ (m : Nat) (s0 : cS) (x2 : Int) (x3 : Int), (∀ (e : Int) (A' : cS), ySm s0 A' [4, 6, 27, 28, 29, 30, 31] [4, 5, 19, 20] → Q e A' → Q' e A') → wc_Coder_parameters_16 Q  m s0 x2 x3 → wc_Coder_parameters_16 Q'  m s0 x2 x3 := by
  intro m
  induction m with
  | zero => intro s0 x2 x3 hq  hw; exact hw
  | succ m ih => intro s0 x2 x3 hq  hw; exact ffb_Coder_parameters_16 hq  (fun A' y0 y1 f1 q => ih A' y0 y1 (fun e A' f q => hq e A' (f1.tr f rfl rfl) q)  q) hw
theorem ffm_Coder_parameters {s0 : cS} {a0 : Int} {Q Q' : Int → cS → Prop} (hw : wc_Coder_parameters s0 a0 Q) (hq : ∀ (e : Int) (A' : cS), ySm s0 A' [4, 6, 27, 28, 29, 30, 31] [4, 5, 19, 20] → Q e A' → Q' e A') : wc_Coder_parameters s0 a0 Q' := by
  unfold wc_Coder_parameters at hw ⊢
  refine ffm_Tree_first hw (fun r1 A2 f1 h8 => ?_)
  obtain ⟨m20, h21⟩ := h8
  exact ⟨m20, ffl_Coder_parameters_160 m20 _ _ _ (fun e A' f q => hq e A' (((ySm.rf.tr f1 rfl rfl).pv rfl).tr f rfl rfl) q)  h21⟩
theorem ffm_Coder_unfit {s0 : cS} {a0 : Int} {a1 : Int} {Q Q' : cS → Prop} (hw : wc_Coder_unfit s0 a0 a1 Q) (hq : ∀ (A' : cS), ySm s0 A' [] [4, 5] → Q A' → Q' A') : wc_Coder_unfit s0 a0 a1 Q' := by
  unfold wc_Coder_unfit at hw ⊢
  refine ⟨fun c1 => ?_, fun c1 => ?_⟩
  · have h2 := hw.1 c1
    exact hq _ ySm.rf h2
  · have h3 := hw.2 c1
    refine ffm_Program_blame h3 (fun A5 f1 h11 => ?_)
    exact hq _ (ySm.rf.tr f1 rfl rfl) h11
theorem ffb_Coder_isByte_11 {Q Q' : Int → cS → Prop} {k11 k11' : cS → Int → Int → Prop} {s0 : cS} {x2 : Int} {x3 : Int} (hq : ∀ (e : Int) (A' : cS), ySm s0 A' [] [] → Q e A' → Q' e A') (fk11 : ∀ (A' : cS) (x0 : Int) (x1 : Int), ySm s0 A' [] [] → k11 A' x0 x1 → k11' A' x0 x1) (hw : wc_Coder_isByte_11B Q k11 s0 x2 x3) : wc_Coder_isByte_11B Q' k11' s0 x2 x3 := by
  unfold wc_Coder_isByte_11B at hw ⊢
  refine ⟨fun c1 => ?_, fun c1 => ?_⟩
  · have h2 := hw.1 c1
    refine ffm_Tree_kind h2 (fun r3 A4 f1 h10 => ?_)
    refine ⟨fun c11 => ?_, fun c11 => ?_⟩
    · have h12 := h10.1 c11
      exact hq _ _ (ySm.rf.tr f1 rfl rfl) h12
    · have h13 := h10.2 c11
      exact hq _ _ (ySm.rf.tr f1 rfl rfl) h13
  · have h14 := hw.2 c1
    refine ffm_Tree_kind h14 (fun r15 A16 f2 h22 => ?_)
    refine ⟨fun c23 => ?_, fun c23 => ?_⟩
    · have h24 := h22.1 c23
      refine ffm_Tree_kind h24 (fun r25 A26 f3 h32 => ?_)
      refine ⟨fun c33 => ?_, fun c33 => ?_⟩
      · have h34 := h32.1 c33
        exact hq _ _ ((ySm.rf.tr f2 rfl rfl).tr f3 rfl rfl) h34
      · have h35 := h32.2 c33
        exact hq _ _ ((ySm.rf.tr f2 rfl rfl).tr f3 rfl rfl) h35
    · have h36 := h22.2 c23
      refine ffm_Tree_first h36 (fun r37 A38 f4 h44 => ?_)
      refine ffm_Tree_last h44 (fun r45 A46 f5 h52 => ?_)
      obtain ⟨o53, h54⟩ := h52
      refine ⟨o53, ?_⟩
      exact fk11 _ _ _ (((ySm.rf.tr f2 rfl rfl).tr f4 rfl rfl).tr f5 rfl rfl) h54
theorem ffl_Coder_isByte_110 {Q Q' : Int → cS → Prop}  : ∀ (m : Nat) (s0 : cS) (x2 : Int) (x3 : Int), (∀ (e : Int) (A' : cS), ySm s0 A' [] [] → Q e A' → Q' e A') → wc_Coder_isByte_11 Q  m s0 x2 x3 → wc_Coder_isByte_11 Q'  m s0 x2 x3 := by
  intro m
  induction m with
  | zero => intro s0 x2 x3 hq  hw; exact hw
  | succ m ih => intro s0 x2 x3 hq  hw; exact ffb_Coder_isByte_11 hq  (fun A' y0 y1 f1 q => ih A' y0 y1 (fun e A' f q => hq e A' (f1.tr f rfl rfl) q)  q) hw
theorem ffm_Coder_isByte {s0 : cS} {a0 : Int} {Q Q' : Int → cS → Prop} (hw : wc_Coder_isByte s0 a0 Q) (hq : ∀ (e : Int) (A' : cS), ySm s0 A' [] [] → Q e A' → Q' e A') : wc_Coder_isByte s0 a0 Q' := by
  unfold wc_Coder_isByte at hw ⊢
  refine ffm_Tree_last hw (fun r1 A2 f1 h8 => ?_)
  obtain ⟨m9, h10⟩ := h8
  exact ⟨m9, ffl_Coder_isByte_110 m9 _ _ _ (fun e A' f q => hq e A' ((ySm.rf.tr f1 rfl rfl).tr f rfl rfl) q)  h10⟩
theorem ffm_Coder_take {s0 : cS} {a0 : Int} {Q Q' : cS → Prop} (hw : wc_Coder_take s0 a0 Q) (hq : ∀ (A' : cS), ySm s0 A' [] [19, 20] → Q A' → Q' A') : wc_Coder_take s0 a0 Q' := by
  unfold wc_Coder_take at hw ⊢
  obtain ⟨o1, h2⟩ := hw
  refine ⟨o1, ?_⟩
  exact hq _ ((ySm.rf.pv rfl).pv rfl) h2
theorem ffm_Coder_going {s0 : cS} {a0 : Int} {Q Q' : cS → Prop} (hw : wc_Coder_going s0 a0 Q) (hq : ∀ (A' : cS), ySm s0 A' [1, 25] [4, 5] → Q A' → Q' A') : wc_Coder_going s0 a0 Q' := by
  unfold wc_Coder_going at hw ⊢
  refine ffm_Tree_data hw (fun r1 A2 f1 h8 => ?_)
  refine ffm_Scope_find h8 (fun r9 A10 f2 h16 => ?_)
  refine ⟨fun c17 => ?_, fun c17 => ?_⟩
  · have h18 := h16.1 c17
    refine ffm_Scope_kind h18 (fun r19 A20 f3 h26 => ?_)
    refine ⟨fun c27 => ?_, fun c27 => ?_⟩
    · have h28 := h26.1 c27
      refine ffm_Tree_place h28 (fun r29 A30 f4 h36 => ?_)
      refine ffm_Program_blame h36 (fun A38 f5 h44 => ?_)
      exact hq _ (((((ySm.rf.tr f1 rfl rfl).tr f2 rfl rfl).tr f3 rfl rfl).tr f4 rfl rfl).tr f5 rfl rfl) h44
    · have h45 := h26.2 c27
      refine ffm_Scope_owner h45 (fun r46 A47 f6 h53 => ?_)
      refine ⟨fun c54 => ?_, fun c54 => ?_⟩
      · have h55 := h53.1 c54
        refine ffm_Coder_emit h55 (fun r56 A57 f7 h63 => ?_)
        obtain ⟨o68, h69⟩ := h63
        refine ⟨o68, ?_⟩
        refine ffm_Scope_data h69 (fun r70 A71 f8 h77 => ?_)
        obtain ⟨o82, h83⟩ := h77
        refine ⟨o82, ?_⟩
        exact hq _ ((((((((ySm.rf.tr f1 rfl rfl).tr f2 rfl rfl).tr f3 rfl rfl).tr f6 rfl rfl).tr f7 rfl rfl).add rfl).tr f8 rfl rfl).add rfl) h83
      · have h84 := h53.2 c54
        refine ffm_Tree_place h84 (fun r85 A86 f9 h92 => ?_)
        refine ffm_Program_blame h92 (fun A94 f10 h100 => ?_)
        exact hq _ ((((((ySm.rf.tr f1 rfl rfl).tr f2 rfl rfl).tr f3 rfl rfl).tr f6 rfl rfl).tr f9 rfl rfl).tr f10 rfl rfl) h100
  · have h101 := h16.2 c17
    refine ffm_Tree_place h101 (fun r102 A103 f11 h109 => ?_)
    refine ffm_Program_blame h109 (fun A111 f12 h117 => ?_)
    exact hq _ ((((ySm.rf.tr f1 rfl rfl).tr f2 rfl rfl).tr f11 rfl rfl).tr f12 rfl rfl) h117
theorem ffj_Coder_leaving_66 {Q Q' : cS → Prop}  {s0 : cS} {x1 : Int} {x2 : Int} {y0 : Int} (hq : ∀ (A' : cS), ySm s0 A' [1, 25] [4, 5, 13, 14, 15] → Q A' → Q' A')  (hw : wc_Coder_leaving_66 Q  s0 x1 x2 y0) : wc_Coder_leaving_66 Q'  s0 x1 x2 y0 := by
  unfold wc_Coder_leaving_66 at hw ⊢
  refine ⟨fun c1 => ?_, fun c1 => ?_⟩
  · have h2 := hw.1 c1
    refine ⟨fun c3 => ?_, fun c3 => ?_⟩
    · have h4 := h2.1 c3
      refine ⟨fun c5 => ?_, fun c5 => ?_⟩
      · have h6 := h4.1 c5
        refine ⟨fun c7 => ?_, fun c7 => ?_⟩
        · have h8 := h6.1 c7
          refine ⟨fun c9 => ?_, fun c9 => ?_⟩
          · have h10 := h8.1 c9
            refine ⟨fun c11 => ?_, fun c11 => ?_⟩
            · have h12 := h10.1 c11
              refine ffm_Coder_going h12 (fun A14 f1 h20 => ?_)
              exact hq _ (ySm.rf.tr f1 rfl rfl) h20
            · have h21 := h10.2 c11
              refine ffm_Coder_emit h21 (fun r22 A23 f2 h29 => ?_)
              exact hq _ (ySm.rf.tr f2 rfl rfl) h29
          · have h30 := h8.2 c9
            refine ffm_Coder_emit h30 (fun r31 A32 f3 h38 => ?_)
            refine ffm_Coder_emit h38 (fun r39 A40 f4 h46 => ?_)
            exact hq _ ((ySm.rf.tr f3 rfl rfl).tr f4 rfl rfl) h46
        · have h47 := h6.2 c7
          refine ffm_Coder_emit h47 (fun r48 A49 f5 h55 => ?_)
          exact hq _ ((ySm.rf.tr f5 rfl rfl).pv rfl) h55
      · have h67 := h4.2 c5
        refine ffm_Coder_emit h67 (fun r68 A69 f6 h75 => ?_)
        exact hq _ ((ySm.rf.tr f6 rfl rfl).pv rfl) h75
    · have h87 := h2.2 c3
      refine ffm_Coder_emit h87 (fun r88 A89 f7 h95 => ?_)
      exact hq _ ((ySm.rf.tr f7 rfl rfl).pv rfl) h95
  · have h107 := hw.2 c1
    refine ffm_Tree_place h107 (fun r108 A109 f8 h115 => ?_)
    refine ffm_Program_blame h115 (fun A117 f9 h123 => ?_)
    exact hq _ ((ySm.rf.tr f8 rfl rfl).tr f9 rfl rfl) h123
theorem ffj_Coder_leaving_35 {Q Q' : cS → Prop}  {s0 : cS} {x1 : Int} {x2 : Int} (hq : ∀ (A' : cS), ySm s0 A' [1, 25] [4, 5, 13, 14, 15] → Q A' → Q' A')  (hw : wc_Coder_leaving_35 Q  s0 x1 x2) : wc_Coder_leaving_35 Q'  s0 x1 x2 := by
  unfold wc_Coder_leaving_35 at hw ⊢
  refine ⟨fun c1 => ?_, fun c1 => ?_⟩
  · have h2 := hw.1 c1
    refine ⟨fun c3 => ?_, fun c3 => ?_⟩
    · have h4 := h2.1 c3
      exact ffj_Coder_leaving_66 (fun A' f q => hq A' (ySm.rf.tr f rfl rfl) q)  h4
    · have h5 := h2.2 c3
      refine ⟨fun c6 => ?_, fun c6 => ?_⟩
      · have h7 := h5.1 c6
        exact ffj_Coder_leaving_66 (fun A' f q => hq A' (ySm.rf.tr f rfl rfl) q)  h7
      · have h8 := h5.2 c6
        exact ffj_Coder_leaving_66 (fun A' f q => hq A' (ySm.rf.tr f rfl rfl) q)  h8
  · have h9 := hw.2 c1
    refine ⟨fun c10 => ?_, fun c10 => ?_⟩
    · have h11 := h9.1 c10
      exact ffj_Coder_leaving_66 (fun A' f q => hq A' (ySm.rf.tr f rfl rfl) q)  h11
    · have h12 := h9.2 c10
      refine ⟨fun c13 => ?_, fun c13 => ?_⟩
      · have h14 := h12.1 c13
        exact ffj_Coder_leaving_66 (fun A' f q => hq A' (ySm.rf.tr f rfl rfl) q)  h14
      · have h15 := h12.2 c13
        refine ⟨fun c16 => ?_, fun c16 => ?_⟩
        · have h17 := h15.1 c16
          exact ffj_Coder_leaving_66 (fun A' f q => hq A' (ySm.rf.tr f rfl rfl) q)  h17
        · have h18 := h15.2 c16
          exact ffj_Coder_leaving_66 (fun A' f q => hq A' (ySm.rf.tr f rfl rfl) q)  h18
theorem ffm_Coder_leaving {s0 : cS} {a0 : Int} {Q Q' : cS → Prop} (hw : wc_Coder_leaving s0 a0 Q) (hq : ∀ (A' : cS), ySm s0 A' [1, 25] [4, 5, 13, 14, 15] → Q A' → Q' A') : wc_Coder_leaving s0 a0 Q' := by
  unfold wc_Coder_leaving at hw ⊢
  refine ffm_Tree_kind hw (fun r1 A2 f1 h8 => ?_)
  refine ⟨fun c9 => ?_, fun c9 => ?_⟩
  · have h10 := h8.1 c9
    refine ⟨fun c11 => ?_, fun c11 => ?_⟩
    · have h12 := h10.1 c11
      exact ffj_Coder_leaving_35 (fun A' f q => hq A' ((ySm.rf.tr f1 rfl rfl).tr f rfl rfl) q)  h12
    · have h13 := h10.2 c11
      refine ⟨fun c14 => ?_, fun c14 => ?_⟩
      · have h15 := h13.1 c14
        exact ffj_Coder_leaving_66 (fun A' f q => hq A' ((ySm.rf.tr f1 rfl rfl).tr f rfl rfl) q)  h15
      · have h16 := h13.2 c14
        exact ffj_Coder_leaving_35 (fun A' f q => hq A' ((ySm.rf.tr f1 rfl rfl).tr f rfl rfl) q)  h16
  · have h17 := h8.2 c9
    refine ⟨fun c18 => ?_, fun c18 => ?_⟩
    · have h19 := h17.1 c18
      exact ffj_Coder_leaving_66 (fun A' f q => hq A' ((ySm.rf.tr f1 rfl rfl).tr f rfl rfl) q)  h19
    · have h20 := h17.2 c18
      refine ⟨fun c21 => ?_, fun c21 => ?_⟩
      · have h22 := h20.1 c21
        exact ffj_Coder_leaving_35 (fun A' f q => hq A' ((ySm.rf.tr f1 rfl rfl).tr f rfl rfl) q)  h22
      · have h23 := h20.2 c21
        refine ⟨fun c24 => ?_, fun c24 => ?_⟩
        · have h25 := h23.1 c24
          exact ffj_Coder_leaving_66 (fun A' f q => hq A' ((ySm.rf.tr f1 rfl rfl).tr f rfl rfl) q)  h25
        · have h26 := h23.2 c24
          exact ffj_Coder_leaving_35 (fun A' f q => hq A' ((ySm.rf.tr f1 rfl rfl).tr f rfl rfl) q)  h26
theorem ffb_Coder_table_21 {Q Q' : cS → Prop} {k21 k21' : cS → Int → Int → Int → Prop} {s0 : cS} {x2 : Int} {x3 : Int} {x4 : Int} (hq : ∀ (A' : cS), ySm s0 A' [1, 2, 33] [4, 5, 38, 39, 40] → Q A' → Q' A') (fk21 : ∀ (A' : cS) (x0 : Int) (x1 : Int) (x2 : Int), ySm s0 A' [1, 2, 33] [4, 5, 38, 39, 40] → k21 A' x0 x1 x2 → k21' A' x0 x1 x2) (hw : wc_Coder_table_21B Q k21 s0 x2 x3 x4) : wc_Coder_table_21B Q' k21' s0 x2 x3 x4 := by
  unfold wc_Coder_table_21B at hw ⊢
  refine ⟨fun c1 => ?_, fun c1 => ?_⟩
  · have h2 := hw.1 c1
    refine ffm_Coder_emit h2 (fun r3 A4 f1 h10 => ?_)
    exact hq _ (ySm.rf.tr f1 rfl rfl) h10
  · have h11 := hw.2 c1
    refine ⟨fun c12 => ?_, fun c12 => ?_⟩
    · have h13 := h11.1 c12
      refine ffm_Coder_emit h13 (fun r14 A15 f2 h21 => ?_)
      exact hq _ (ySm.rf.tr f2 rfl rfl) h21
    · have h22 := h11.2 c12
      intro z23 e24 R25
      have h26 := h22 z23 e24 R25
      refine ffm_Constants_number h26 (fun r27 A28 f3 h34 => ?_)
      refine ffm_Program_setWord h34 (fun A36 f4 h42 => ?_)
      refine ffm_Tree_next h42 (fun r43 A44 f5 h50 => ?_)
      obtain ⟨o51, h52⟩ := h50
      refine ⟨o51, ?_⟩
      exact fk21 _ _ _ _ (((ySm.rf.tr f3 rfl rfl).tr f4 rfl rfl).tr f5 rfl rfl) h52
theorem ffl_Coder_table_210 {Q Q' : cS → Prop}  : ∀ (m : Nat) (s0 : cS) (x2 : Int) (x3 : Int) (x4 : Int), (∀ (A' : cS), ySm s0 A' [1, 2, 33] [4, 5, 38, 39, 40] → Q A' → Q' A') → wc_Coder_table_21 Q  m s0 x2 x3 x4 → wc_Coder_table_21 Q'  m s0 x2 x3 x4 := by
  intro m
  induction m with
  | zero => intro s0 x2 x3 x4 hq  hw; exact hw
  | succ m ih => intro s0 x2 x3 x4 hq  hw; exact ffb_Coder_table_21 hq  (fun A' y0 y1 y2 f1 q => ih A' y0 y1 y2 (fun A' f q => hq A' (f1.tr f rfl rfl) q)  q) hw
theorem ffm_Coder_table {s0 : cS} {a0 : Int} {Q Q' : cS → Prop} (hw : wc_Coder_table s0 a0 Q) (hq : ∀ (A' : cS), ySm s0 A' [1, 2, 33] [4, 5, 38, 39, 40] → Q A' → Q' A') : wc_Coder_table s0 a0 Q' := by
  unfold wc_Coder_table at hw ⊢
  refine ffm_Tree_data hw (fun r1 A2 f1 h8 => ?_)
  refine ffm_Tree_first h8 (fun r9 A10 f2 h16 => ?_)
  obtain ⟨m17, h18⟩ := h16
  exact ⟨m17, ffl_Coder_table_210 m17 _ _ _ _ (fun A' f q => hq A' (((ySm.rf.tr f1 rfl rfl).tr f2 rfl rfl).tr f rfl rfl) q)  h18⟩
theorem ffm_Coder_sign {s0 : cS} {a0 : Int} {a1 : Int} {Q Q' : Int → cS → Prop} (hw : wc_Coder_sign s0 a0 a1 Q) (hq : ∀ (e : Int) (A' : cS), ySm s0 A' [1] [] → Q e A' → Q' e A') : wc_Coder_sign s0 a0 a1 Q' := by
  unfold wc_Coder_sign at hw ⊢
  refine ffm_Tree_data hw (fun r1 A2 f1 h8 => ?_)
  refine ffm_Tree_extra h8 (fun r9 A10 f2 h16 => ?_)
  refine ⟨fun c17 => ?_, fun c17 => ?_⟩
  · have h18 := h16.1 c17
    intro z19 e20 R21
    have h22 := h18 z19 e20 R21
    refine ffm_Coder_emit h22 (fun r23 A24 f3 h30 => ?_)
    refine ffm_W_isRelation h30 (fun r31 A32 f4 h38 => ?_)
    refine ⟨fun c39 => ?_, fun c39 => ?_⟩
    · have h40 := h38.1 c39
      refine ffm_Program_land h40 (fun A42 f5 h48 => ?_)
      exact hq _ _ (((((ySm.rf.tr f1 rfl rfl).tr f2 rfl rfl).tr f3 rfl rfl).tr f4 rfl rfl).tr f5 rfl rfl) h48
    · have h49 := h38.2 c39
      exact hq _ _ ((((ySm.rf.tr f1 rfl rfl).tr f2 rfl rfl).tr f3 rfl rfl).tr f4 rfl rfl) h49
  · have h50 := h16.2 c17
    intro z51 e52 R53
    have h54 := h50 z51 e52 R53
    refine ffm_Coder_emit h54 (fun r55 A56 f6 h62 => ?_)
    exact hq _ _ (((ySm.rf.tr f1 rfl rfl).tr f2 rfl rfl).tr f6 rfl rfl) h62
theorem ffm_Coder_name {s0 : cS} {a0 : Int} {a1 : Int} {a2 : Int} {Q Q' : cS → Prop} (hw : wc_Coder_name s0 a0 a1 a2 Q) (hq : ∀ (A' : cS), ySm s0 A' [1] [4, 5] → Q A' → Q' A') : wc_Coder_name s0 a0 a1 a2 Q' := by
  unfold wc_Coder_name at hw ⊢
  refine ffm_Tree_data hw (fun r1 A2 f1 h8 => ?_)
  refine ffm_Scope_find h8 (fun r9 A10 f2 h16 => ?_)
  refine ⟨fun c17 => ?_, fun c17 => ?_⟩
  · have h18 := h16.1 c17
    refine ffm_Scope_data h18 (fun r19 A20 f3 h26 => ?_)
    refine ffm_Scope_kind h26 (fun r27 A28 f4 h34 => ?_)
    refine ⟨fun g35 => ?_, ?_⟩
    · have h37 := (h34.1) g35
      refine ⟨fun c38 => ?_, fun c38 => ?_⟩
      · have h39 := h37.1 c38
        refine ffm_Coder_emit h39 (fun r40 A41 f5 h47 => ?_)
        exact hq _ (((((ySm.rf.tr f1 rfl rfl).tr f2 rfl rfl).tr f3 rfl rfl).tr f4 rfl rfl).tr f5 rfl rfl) h47
      · have h48 := h37.2 c38
        refine ffm_Coder_emit h48 (fun r49 A50 f6 h56 => ?_)
        exact hq _ (((((ySm.rf.tr f1 rfl rfl).tr f2 rfl rfl).tr f3 rfl rfl).tr f4 rfl rfl).tr f6 rfl rfl) h56
    · skip
      refine ⟨fun g57 => ?_, ?_⟩
      · have h59 := (h34.2.1) g57
        refine ⟨fun c60 => ?_, fun c60 => ?_⟩
        · have h61 := h59.1 c60
          refine ffm_Coder_emit h61 (fun r62 A63 f7 h69 => ?_)
          refine ffm_Scope_owner h69 (fun r70 A71 f8 h77 => ?_)
          refine ⟨fun c78 => ?_, fun c78 => ?_⟩
          · have h79 := h77.1 c78
            exact hq _ ((((((ySm.rf.tr f1 rfl rfl).tr f2 rfl rfl).tr f3 rfl rfl).tr f4 rfl rfl).tr f7 rfl rfl).tr f8 rfl rfl) h79
          · have h80 := h77.2 c78
            refine ffm_Tree_place h80 (fun r81 A82 f9 h88 => ?_)
            refine ffm_Program_blame h88 (fun A90 f10 h96 => ?_)
            exact hq _ ((((((((ySm.rf.tr f1 rfl rfl).tr f2 rfl rfl).tr f3 rfl rfl).tr f4 rfl rfl).tr f7 rfl rfl).tr f8 rfl rfl).tr f9 rfl rfl).tr f10 rfl rfl) h96
        · have h97 := h59.2 c60
          refine ffm_Coder_emit h97 (fun r98 A99 f11 h105 => ?_)
          refine ffm_Scope_owner h105 (fun r106 A107 f12 h113 => ?_)
          refine ⟨fun c114 => ?_, fun c114 => ?_⟩
          · have h115 := h113.1 c114
            exact hq _ ((((((ySm.rf.tr f1 rfl rfl).tr f2 rfl rfl).tr f3 rfl rfl).tr f4 rfl rfl).tr f11 rfl rfl).tr f12 rfl rfl) h115
          · have h116 := h113.2 c114
            refine ffm_Tree_place h116 (fun r117 A118 f13 h124 => ?_)
            refine ffm_Program_blame h124 (fun A126 f14 h132 => ?_)
            exact hq _ ((((((((ySm.rf.tr f1 rfl rfl).tr f2 rfl rfl).tr f3 rfl rfl).tr f4 rfl rfl).tr f11 rfl rfl).tr f12 rfl rfl).tr f13 rfl rfl).tr f14 rfl rfl) h132
      · skip
        refine ⟨fun g133 => ?_, ?_⟩
        · have h135 := (h34.2.2.1) g133
          refine ffm_Tree_place h135 (fun r136 A137 f15 h143 => ?_)
          refine ffm_Program_blame h143 (fun A145 f16 h151 => ?_)
          refine ffm_Coder_unfit h151 (fun A153 f17 h159 => ?_)
          exact hq _ (((((((ySm.rf.tr f1 rfl rfl).tr f2 rfl rfl).tr f3 rfl rfl).tr f4 rfl rfl).tr f15 rfl rfl).tr f16 rfl rfl).tr f17 rfl rfl) h159
        · skip
          intro ng35 ng57 ng133
          have h160 := h34.2.2.2 ng35 ng57 ng133
          refine ffm_Coder_emit h160 (fun r161 A162 f18 h168 => ?_)
          refine ffm_Coder_unfit h168 (fun A170 f19 h176 => ?_)
          exact hq _ ((((((ySm.rf.tr f1 rfl rfl).tr f2 rfl rfl).tr f3 rfl rfl).tr f4 rfl rfl).tr f18 rfl rfl).tr f19 rfl rfl) h176
  · have h177 := h16.2 c17
    refine ffm_Tree_place h177 (fun r178 A179 f20 h185 => ?_)
    refine ffm_Program_blame h185 (fun A187 f21 h193 => ?_)
    exact hq _ ((((ySm.rf.tr f1 rfl rfl).tr f2 rfl rfl).tr f20 rfl rfl).tr f21 rfl rfl) h193
theorem ffm_Coder_unary {s0 : cS} {a0 : Int} {Q Q' : cS → Prop} (hw : wc_Coder_unary s0 a0 Q) (hq : ∀ (A' : cS), ySm s0 A' [1] [] → Q A' → Q' A') : wc_Coder_unary s0 a0 Q' := by
  unfold wc_Coder_unary at hw ⊢
  refine ⟨fun c1 => ?_, fun c1 => ?_⟩
  · have h2 := hw.1 c1
    refine ⟨fun c3 => ?_, fun c3 => ?_⟩
    · have h4 := h2.1 c3
      exact hq _ ySm.rf h4
    · have h5 := h2.2 c3
      refine ffm_Coder_emit h5 (fun r6 A7 f1 h13 => ?_)
      exact hq _ (ySm.rf.tr f1 rfl rfl) h13
  · have h14 := hw.2 c1
    refine ffm_Coder_emit h14 (fun r15 A16 f2 h22 => ?_)
    exact hq _ (ySm.rf.tr f2 rfl rfl) h22
theorem ffj_Coder_single_203 {Q Q' : cS → Prop}  {s0 : cS} {x2 : Int} {x3 : Int} {x5 : Int} (hq : ∀ (A' : cS), ySm s0 A' [1] [4, 5] → Q A' → Q' A')  (hw : wc_Coder_single_203 Q  s0 x2 x3 x5) : wc_Coder_single_203 Q'  s0 x2 x3 x5 := by
  unfold wc_Coder_single_203 at hw ⊢
  refine ⟨fun c1 => ?_, fun c1 => ?_⟩
  · have h2 := hw.1 c1
    exact hq _ ySm.rf h2
  · have h3 := hw.2 c1
    refine ffm_Coder_unfit h3 (fun A5 f1 h11 => ?_)
    exact hq _ (ySm.rf.tr f1 rfl rfl) h11
theorem ffj_Coder_single_9 {Q Q' : cS → Prop}  {s0 : cS} {x1 : Int} {x2 : Int} {x3 : Int} {y0 : Int} (hq : ∀ (A' : cS), ySm s0 A' [1] [4, 5] → Q A' → Q' A')  (hw : wc_Coder_single_9 Q  s0 x1 x2 x3 y0) : wc_Coder_single_9 Q'  s0 x1 x2 x3 y0 := by
  unfold wc_Coder_single_9 at hw ⊢
  refine ffm_Tree_kind hw (fun r1 A2 f1 h8 => ?_)
  refine ⟨fun g9 => ?_, ?_⟩
  · have h11 := (h8.1) g9
    refine ffm_Coder_name h11 (fun A13 f2 h19 => ?_)
    exact ffj_Coder_single_203 (fun A' f q => hq A' (((ySm.rf.tr f1 rfl rfl).tr f2 rfl rfl).tr f rfl rfl) q)  h19
  · skip
    refine ⟨fun g20 => ?_, ?_⟩
    · have h22 := (h8.2.1) g20
      refine ffm_Tree_data h22 (fun r23 A24 f3 h30 => ?_)
      refine ffm_Coder_emit h30 (fun r31 A32 f4 h38 => ?_)
      exact ffj_Coder_single_203 (fun A' f q => hq A' ((((ySm.rf.tr f1 rfl rfl).tr f3 rfl rfl).tr f4 rfl rfl).tr f rfl rfl) q)  h38
    · skip
      refine ⟨fun g39 => ?_, ?_⟩
      · have h41 := (h8.2.2.1) g39
        refine ⟨fun c42 => ?_, fun c42 => ?_⟩
        · have h43 := h41.1 c42
          refine ffm_Coder_emit h43 (fun r44 A45 f5 h51 => ?_)
          exact ffj_Coder_single_203 (fun A' f q => hq A' (((ySm.rf.tr f1 rfl rfl).tr f5 rfl rfl).tr f rfl rfl) q)  h51
        · have h52 := h41.2 c42
          refine ffm_Coder_emit h52 (fun r53 A54 f6 h60 => ?_)
          exact ffj_Coder_single_203 (fun A' f q => hq A' (((ySm.rf.tr f1 rfl rfl).tr f6 rfl rfl).tr f rfl rfl) q)  h60
      · skip
        refine ⟨fun g61 => ?_, ?_⟩
        · have h63 := (h8.2.2.2.1) g61
          refine ⟨fun c64 => ?_, fun c64 => ?_⟩
          · have h65 := h63.1 c64
            refine ⟨fun c66 => ?_, fun c66 => ?_⟩
            · have h67 := h65.1 c66
              exact ffj_Coder_single_203 (fun A' f q => hq A' ((ySm.rf.tr f1 rfl rfl).tr f rfl rfl) q)  h67
            · have h68 := h65.2 c66
              exact ffj_Coder_single_203 (fun A' f q => hq A' ((ySm.rf.tr f1 rfl rfl).tr f rfl rfl) q)  h68
          · have h69 := h63.2 c64
            refine ffm_Coder_emit h69 (fun r70 A71 f7 h77 => ?_)
            refine ⟨fun c78 => ?_, fun c78 => ?_⟩
            · have h79 := h77.1 c78
              exact ffj_Coder_single_203 (fun A' f q => hq A' (((ySm.rf.tr f1 rfl rfl).tr f7 rfl rfl).tr f rfl rfl) q)  h79
            · have h80 := h77.2 c78
              exact ffj_Coder_single_203 (fun A' f q => hq A' (((ySm.rf.tr f1 rfl rfl).tr f7 rfl rfl).tr f rfl rfl) q)  h80
        · skip
          refine ⟨fun g81 => ?_, ?_⟩
          · have h83 := (h8.2.2.2.2.1) g81
            refine ⟨fun c84 => ?_, fun c84 => ?_⟩
            · have h85 := h83.1 c84
              exact ffj_Coder_single_203 (fun A' f q => hq A' ((ySm.rf.tr f1 rfl rfl).tr f rfl rfl) q)  h85
            · have h86 := h83.2 c84
              refine ffm_Coder_emit h86 (fun r87 A88 f8 h94 => ?_)
              exact ffj_Coder_single_203 (fun A' f q => hq A' (((ySm.rf.tr f1 rfl rfl).tr f8 rfl rfl).tr f rfl rfl) q)  h94
          · skip
            refine ⟨fun g95 => ?_, ?_⟩
            · have h97 := (h8.2.2.2.2.2.1) g95
              refine ffm_Tree_data h97 (fun r98 A99 f9 h105 => ?_)
              refine ffm_Coder_unary h105 (fun A107 f10 h113 => ?_)
              exact ffj_Coder_single_203 (fun A' f q => hq A' ((((ySm.rf.tr f1 rfl rfl).tr f9 rfl rfl).tr f10 rfl rfl).tr f rfl rfl) q)  h113
            · skip
              intro ng9 ng20 ng39 ng61 ng81 ng95
              have h114 := h8.2.2.2.2.2.2 ng9 ng20 ng39 ng61 ng81 ng95
              exact ffj_Coder_single_203 (fun A' f q => hq A' ((ySm.rf.tr f1 rfl rfl).tr f rfl rfl) q)  h114
theorem ffm_Coder_single {s0 : cS} {a0 : Int} {a1 : Int} {a2 : Int} {Q Q' : cS → Prop} (hw : wc_Coder_single s0 a0 a1 a2 Q) (hq : ∀ (A' : cS), ySm s0 A' [1] [4, 5] → Q A' → Q' A') : wc_Coder_single s0 a0 a1 a2 Q' := by
  unfold wc_Coder_single at hw ⊢
  refine ⟨fun c1 => ?_, fun c1 => ?_⟩
  · have h2 := hw.1 c1
    exact ffj_Coder_single_9 (fun A' f q => hq A' (ySm.rf.tr f rfl rfl) q)  h2
  · have h3 := hw.2 c1
    exact ffj_Coder_single_9 (fun A' f q => hq A' (ySm.rf.tr f rfl rfl) q)  h3
theorem ffj_Coder_definitions_167 {Q Q' : cS → Prop} {k128 k128' : cS → Int → Int → Int → Int → Prop} {s0 : cS} {x2 : Int} {x3 : Int} {x5 : Int} {x6 : Int} {y0 : Int} {y1 : Int} (hq : ∀ (A' : cS), ySm s0 A' [2, 27, 28, 29, 30, 31, 33] [4, 5, 38, 39, 40] → Q A' → Q' A') (fk128 : ∀ (A' : cS) (x0 : Int) (x1 : Int) (x2 : Int) (x3 : Int), ySm s0 A' [2, 27, 28, 29, 30, 31, 33] [4, 5, 38, 39, 40] → k128 A' x0 x1 x2 x3 → k128' A' x0 x1 x2 x3) (hw : wc_Coder_definitions_167 Q k128 s0 x2 x3 x5 x6 y0 y1) : wc_Coder_definitions_167 Q' k128' s0 x2 x3 x5 x6 y0 y1 := by
  unfold wc_Coder_definitions_167 at hw ⊢
  refine ffm_Constants_number hw (fun r1 A2 f1 h8 => ?_)
  refine ⟨fun c9 => ?_, fun c9 => ?_⟩
  · have h10 := h8.1 c9
    obtain ⟨o11, h12⟩ := h10
    refine ⟨o11, ?_⟩
    refine ffm_Scope_setData h12 (fun A14 f2 h20 => ?_)
    refine ⟨fun c21 => ?_, fun c21 => ?_⟩
    · have h22 := h20.1 c21
      refine ffm_Tree_next h22 (fun r23 A24 f3 h30 => ?_)
      obtain ⟨o31, h32⟩ := h30
      refine ⟨o31, ?_⟩
      exact fk128 _ _ _ _ _ (((ySm.rf.tr f1 rfl rfl).tr f2 rfl rfl).tr f3 rfl rfl) h32
    · have h33 := h20.2 c21
      refine ffm_Scope_setOwner h33 (fun A35 f4 h41 => ?_)
      refine ffm_Tree_next h41 (fun r42 A43 f5 h49 => ?_)
      obtain ⟨o50, h51⟩ := h49
      refine ⟨o50, ?_⟩
      exact fk128 _ _ _ _ _ ((((ySm.rf.tr f1 rfl rfl).tr f2 rfl rfl).tr f4 rfl rfl).tr f5 rfl rfl) h51
  · have h52 := h8.2 c9
    refine ffm_Tree_extra h52 (fun r53 A54 f6 h60 => ?_)
    refine ffm_Program_setWord h60 (fun A62 f7 h68 => ?_)
    refine ⟨fun c69 => ?_, fun c69 => ?_⟩
    · have h70 := h68.1 c69
      refine ffm_Tree_next h70 (fun r71 A72 f8 h78 => ?_)
      obtain ⟨o79, h80⟩ := h78
      refine ⟨o79, ?_⟩
      exact fk128 _ _ _ _ _ ((((ySm.rf.tr f1 rfl rfl).tr f6 rfl rfl).tr f7 rfl rfl).tr f8 rfl rfl) h80
    · have h81 := h68.2 c69
      obtain ⟨o82, h83⟩ := h81
      refine ⟨o82, ?_⟩
      refine ffm_Scope_setOwner h83 (fun A85 f9 h91 => ?_)
      refine ffm_Tree_next h91 (fun r92 A93 f10 h99 => ?_)
      obtain ⟨o100, h101⟩ := h99
      refine ⟨o100, ?_⟩
      exact fk128 _ _ _ _ _ (((((ySm.rf.tr f1 rfl rfl).tr f6 rfl rfl).tr f7 rfl rfl).tr f9 rfl rfl).tr f10 rfl rfl) h101
theorem ffb_Coder_definitions_128 {Q Q' : cS → Prop} {k128 k128' : cS → Int → Int → Int → Int → Prop} {s0 : cS} {x2 : Int} {x3 : Int} {x5 : Int} {x6 : Int} (hq : ∀ (A' : cS), ySm s0 A' [2, 27, 28, 29, 30, 31, 33] [4, 5, 38, 39, 40] → Q A' → Q' A') (fk128 : ∀ (A' : cS) (x0 : Int) (x1 : Int) (x2 : Int) (x3 : Int), ySm s0 A' [2, 27, 28, 29, 30, 31, 33] [4, 5, 38, 39, 40] → k128 A' x0 x1 x2 x3 → k128' A' x0 x1 x2 x3) (hw : wc_Coder_definitions_128B Q k128 s0 x2 x3 x5 x6) : wc_Coder_definitions_128B Q' k128' s0 x2 x3 x5 x6 := by
  unfold wc_Coder_definitions_128B at hw ⊢
  refine ⟨fun c1 => ?_, fun c1 => ?_⟩
  · have h2 := hw.1 c1
    exact hq _ ySm.rf h2
  · have h3 := hw.2 c1
    refine ⟨fun c4 => ?_, fun c4 => ?_⟩
    · have h5 := h3.1 c4
      exact hq _ ySm.rf h5
    · have h6 := h3.2 c4
      refine ffm_Tree_first h6 (fun r7 A8 f1 h14 => ?_)
      refine ⟨fun c15 => ?_, fun c15 => ?_⟩
      · have h16 := h14.1 c15
        exact ffj_Coder_definitions_167 (fun A' f q => hq A' ((ySm.rf.tr f1 rfl rfl).tr f rfl rfl) q) (fun A' x0 x1 x2 x3 f q => fk128 A' x0 x1 x2 x3 ((ySm.rf.tr f1 rfl rfl).tr f rfl rfl) q) h16
      · have h17 := h14.2 c15
        exact ffj_Coder_definitions_167 (fun A' f q => hq A' ((ySm.rf.tr f1 rfl rfl).tr f rfl rfl) q) (fun A' x0 x1 x2 x3 f q => fk128 A' x0 x1 x2 x3 ((ySm.rf.tr f1 rfl rfl).tr f rfl rfl) q) h17
theorem ffl_Coder_definitions_1280 {Q Q' : cS → Prop}  : ∀ (m : Nat) (s0 : cS) (x2 : Int) (x3 : Int) (x5 : Int) (x6 : Int), (∀ (A' : cS), ySm s0 A' [2, 27, 28, 29, 30, 31, 33] [4, 5, 38, 39, 40] → Q A' → Q' A') → wc_Coder_definitions_128 Q  m s0 x2 x3 x5 x6 → wc_Coder_definitions_128 Q'  m s0 x2 x3 x5 x6 := by
  intro m
  induction m with
  | zero => intro s0 x2 x3 x5 x6 hq  hw; exact hw
  | succ m ih => intro s0 x2 x3 x5 x6 hq  hw; exact ffb_Coder_definitions_128 hq  (fun A' y0 y1 y2 y3 f1 q => ih A' y0 y1 y2 y3 (fun A' f q => hq A' (f1.tr f rfl rfl) q)  q) hw
theorem ffj_Coder_definitions_49 {Q Q' : cS → Prop} {k27 k27' : cS → Int → Int → Int → Int → Int → Prop} {s0 : cS} {x1 : Int} {x2 : Int} {x3 : Int} {x5 : Int} {x6 : Int} {y0 : Int} (hq : ∀ (A' : cS), ySm s0 A' [2, 27, 28, 29, 30, 31, 33] [4, 5, 38, 39, 40] → Q A' → Q' A') (fk27 : ∀ (A' : cS) (x0 : Int) (x1 : Int) (x2 : Int) (x3 : Int) (x4 : Int), ySm s0 A' [2, 27, 28, 29, 30, 31, 33] [4, 5, 38, 39, 40] → k27 A' x0 x1 x2 x3 x4 → k27' A' x0 x1 x2 x3 x4) (hw : wc_Coder_definitions_49 Q k27 s0 x1 x2 x3 x5 x6 y0) : wc_Coder_definitions_49 Q' k27' s0 x1 x2 x3 x5 x6 y0 := by
  unfold wc_Coder_definitions_49 at hw ⊢
  refine ffm_Tree_data hw (fun r1 A2 f1 h8 => ?_)
  refine ffm_Tree_extra h8 (fun r9 A10 f2 h16 => ?_)
  refine ffm_Tree_place h16 (fun r17 A18 f3 h24 => ?_)
  refine ffm_Scope_declare h24 (fun r25 A26 f4 h32 => ?_)
  refine ⟨fun c33 => ?_, fun c33 => ?_⟩
  · have h34 := h32.1 c33
    refine ffm_Tree_next h34 (fun r35 A36 f5 h42 => ?_)
    obtain ⟨o43, h44⟩ := h42
    refine ⟨o43, ?_⟩
    exact fk27 _ _ _ _ _ _ (((((ySm.rf.tr f1 rfl rfl).tr f2 rfl rfl).tr f3 rfl rfl).tr f4 rfl rfl).tr f5 rfl rfl) h44
  · have h45 := h32.2 c33
    refine ffm_Tree_next h45 (fun r46 A47 f6 h53 => ?_)
    obtain ⟨o54, h55⟩ := h53
    refine ⟨o54, ?_⟩
    exact fk27 _ _ _ _ _ _ (((((ySm.rf.tr f1 rfl rfl).tr f2 rfl rfl).tr f3 rfl rfl).tr f4 rfl rfl).tr f6 rfl rfl) h55
theorem ffb_Coder_definitions_27 {Q Q' : cS → Prop} {k27 k27' : cS → Int → Int → Int → Int → Int → Prop} {s0 : cS} {x1 : Int} {x2 : Int} {x3 : Int} {x5 : Int} {x6 : Int} (hq : ∀ (A' : cS), ySm s0 A' [2, 27, 28, 29, 30, 31, 33] [4, 5, 38, 39, 40] → Q A' → Q' A') (fk27 : ∀ (A' : cS) (x0 : Int) (x1 : Int) (x2 : Int) (x3 : Int) (x4 : Int), ySm s0 A' [2, 27, 28, 29, 30, 31, 33] [4, 5, 38, 39, 40] → k27 A' x0 x1 x2 x3 x4 → k27' A' x0 x1 x2 x3 x4) (hw : wc_Coder_definitions_27B Q k27 s0 x1 x2 x3 x5 x6) : wc_Coder_definitions_27B Q' k27' s0 x1 x2 x3 x5 x6 := by
  unfold wc_Coder_definitions_27B at hw ⊢
  refine ⟨fun c1 => ?_, fun c1 => ?_⟩
  · have h2 := hw.1 c1
    refine ffm_Tree_first h2 (fun r3 A4 f1 h10 => ?_)
    obtain ⟨m11, h12⟩ := h10
    exact ⟨m11, ffl_Coder_definitions_1280 m11 _ _ _ _ _ (fun A' f q => hq A' ((ySm.rf.tr f1 rfl rfl).tr f rfl rfl) q)  h12⟩
  · have h13 := hw.2 c1
    refine ⟨fun c14 => ?_, fun c14 => ?_⟩
    · have h15 := h13.1 c14
      refine ffm_Tree_first h15 (fun r16 A17 f2 h23 => ?_)
      obtain ⟨m24, h25⟩ := h23
      exact ⟨m24, ffl_Coder_definitions_1280 m24 _ _ _ _ _ (fun A' f q => hq A' ((ySm.rf.tr f2 rfl rfl).tr f rfl rfl) q)  h25⟩
    · have h26 := h13.2 c14
      refine ⟨fun c27 => ?_, fun c27 => ?_⟩
      · have h28 := h26.1 c27
        exact ffj_Coder_definitions_49 (fun A' f q => hq A' (ySm.rf.tr f rfl rfl) q) (fun A' x0 x1 x2 x3 x4 f q => fk27 A' x0 x1 x2 x3 x4 (ySm.rf.tr f rfl rfl) q) h28
      · have h29 := h26.2 c27
        exact ffj_Coder_definitions_49 (fun A' f q => hq A' (ySm.rf.tr f rfl rfl) q) (fun A' x0 x1 x2 x3 x4 f q => fk27 A' x0 x1 x2 x3 x4 (ySm.rf.tr f rfl rfl) q) h29
theorem ffl_Coder_definitions_270 {Q Q' : cS → Prop}  : ∀ (m : Nat) (s0 : cS) (x1 : Int) (x2 : Int) (x3 : Int) (x5 : Int) (x6 : Int), (∀ (A' : cS), ySm s0 A' [2, 27, 28, 29, 30, 31, 33] [4, 5, 38, 39, 40] → Q A' → Q' A') → wc_Coder_definitions_27 Q  m s0 x1 x2 x3 x5 x6 → wc_Coder_definitions_27 Q'  m s0 x1 x2 x3 x5 x6 := by
  intro m
  induction m with
  | zero => intro s0 x1 x2 x3 x5 x6 hq  hw; exact hw
  | succ m ih => intro s0 x1 x2 x3 x5 x6 hq  hw; exact ffb_Coder_definitions_27 hq  (fun A' y0 y1 y2 y3 y4 f1 q => ih A' y0 y1 y2 y3 y4 (fun A' f q => hq A' (f1.tr f rfl rfl) q)  q) hw
theorem ffm_Coder_definitions {s0 : cS} {a0 : Int} {Q Q' : cS → Prop} (hw : wc_Coder_definitions s0 a0 Q) (hq : ∀ (A' : cS), ySm s0 A' [2, 27, 28, 29, 30, 31, 33] [4, 5, 38, 39, 40] → Q A' → Q' A') : wc_Coder_definitions s0 a0 Q' := by
  unfold wc_Coder_definitions at hw ⊢
  refine ffm_Tree_kind hw (fun r1 A2 f1 h8 => ?_)
  refine ffm_Tree_first h8 (fun r9 A10 f2 h16 => ?_)
  obtain ⟨m17, h18⟩ := h16
  exact ⟨m17, ffl_Coder_definitions_270 m17 _ _ _ _ _ _ (fun A' f q => hq A' (((ySm.rf.tr f1 rfl rfl).tr f2 rfl rfl).tr f rfl rfl) q)  h18⟩
theorem ffb_Coder_routines_52 {rec : Nat → Int → Int → Int → cS → (Int → cS → Prop) → Prop} (hrec : ∀ (i : Nat) (a b c : Int) (A : cS) (Q Q' : Int → cS → Prop), rec i a b c A Q → (∀ (e : Int) (A' : cS), ySm A A' [1, 2, 4, 5, 6, 10, 24, 25, 26, 27, 28, 29, 30, 31, 32, 33] [4, 5, 13, 14, 15, 16, 17, 18, 19, 20, 21, 22, 23, 24, 37, 38, 39, 40] → Q e A' → Q' e A') → rec i a b c A Q') {Q Q' : cS → Prop} {k52 k52' : cS → Int → Int → Prop} {s0 : cS} {x2 : Int} {x3 : Int} (hq : ∀ (A' : cS), ySm s0 A' [1, 2, 4, 5, 6, 10, 24, 25, 26, 27, 28, 29, 30, 31, 32, 33] [4, 5, 13, 14, 15, 16, 17, 18, 19, 20, 21, 22, 23, 24, 37, 38, 39, 40] → Q A' → Q' A') (fk52 : ∀ (A' : cS) (x0 : Int) (x1 : Int), ySm s0 A' [1, 2, 4, 5, 6, 10, 24, 25, 26, 27, 28, 29, 30, 31, 32, 33] [4, 5, 13, 14, 15, 16, 17, 18, 19, 20, 21, 22, 23, 24, 37, 38, 39, 40] → k52 A' x0 x1 → k52' A' x0 x1) (hw : wc_Coder_routines_52B rec Q k52 s0 x2 x3) : wc_Coder_routines_52B rec Q' k52' s0 x2 x3 := by
  unfold wc_Coder_routines_52B at hw ⊢
  refine ⟨fun c1 => ?_, fun c1 => ?_⟩
  · have h2 := hw.1 c1
    exact hq _ ySm.rf h2
  · have h3 := hw.2 c1
    refine ⟨fun c4 => ?_, fun c4 => ?_⟩
    · have h5 := h3.1 c4
      exact hq _ ySm.rf h5
    · have h6 := h3.2 c4
      refine hrec _ _ _ _ _ _ _ h6 (fun r7 A8 f1 h14 => ?_)
      refine ffm_Tree_next h14 (fun r15 A16 f2 h22 => ?_)
      obtain ⟨o23, h24⟩ := h22
      refine ⟨o23, ?_⟩
      exact fk52 _ _ _ ((ySm.rf.tr f1 rfl rfl).tr f2 rfl rfl) h24
theorem ffl_Coder_routines_520 {rec : Nat → Int → Int → Int → cS → (Int → cS → Prop) → Prop} (hrec : ∀ (i : Nat) (a b c : Int) (A : cS) (Q Q' : Int → cS → Prop), rec i a b c A Q → (∀ (e : Int) (A' : cS), ySm A A' [1, 2, 4, 5, 6, 10, 24, 25, 26, 27, 28, 29, 30, 31, 32, 33] [4, 5, 13, 14, 15, 16, 17, 18, 19, 20, 21, 22, 23, 24, 37, 38, 39, 40] → Q e A' → Q' e A') → rec i a b c A Q') {Q Q' : cS → Prop}  : ∀ (m : Nat) (s0 : cS) (x2 : Int) (x3 : Int), (∀ (A' : cS), ySm s0 A' [1, 2, 4, 5, 6, 10, 24, 25, 26, 27, 28, 29, 30, 31, 32, 33] [4, 5, 13, 14, 15, 16, 17, 18, 19, 20, 21, 22, 23, 24, 37, 38, 39, 40] → Q A' → Q' A') → wc_Coder_routines_52 rec Q  m s0 x2 x3 → wc_Coder_routines_52 rec Q'  m s0 x2 x3 := by
  intro m
  induction m with
  | zero => intro s0 x2 x3 hq  hw; exact hw
  | succ m ih => intro s0 x2 x3 hq  hw; exact ffb_Coder_routines_52 hrec hq  (fun A' y0 y1 f1 q => ih A' y0 y1 (fun A' f q => hq A' (f1.tr f rfl rfl) q)  q) hw
theorem ffb_Coder_routines_11 {rec : Nat → Int → Int → Int → cS → (Int → cS → Prop) → Prop} (hrec : ∀ (i : Nat) (a b c : Int) (A : cS) (Q Q' : Int → cS → Prop), rec i a b c A Q → (∀ (e : Int) (A' : cS), ySm A A' [1, 2, 4, 5, 6, 10, 24, 25, 26, 27, 28, 29, 30, 31, 32, 33] [4, 5, 13, 14, 15, 16, 17, 18, 19, 20, 21, 22, 23, 24, 37, 38, 39, 40] → Q e A' → Q' e A') → rec i a b c A Q') {Q Q' : cS → Prop} {k11 k11' : cS → Int → Int → Int → Prop} {s0 : cS} {x1 : Int} {x2 : Int} {x3 : Int} (hq : ∀ (A' : cS), ySm s0 A' [1, 2, 4, 5, 6, 10, 24, 25, 26, 27, 28, 29, 30, 31, 32, 33] [4, 5, 13, 14, 15, 16, 17, 18, 19, 20, 21, 22, 23, 24, 37, 38, 39, 40] → Q A' → Q' A') (fk11 : ∀ (A' : cS) (x0 : Int) (x1 : Int) (x2 : Int), ySm s0 A' [1, 2, 4, 5, 6, 10, 24, 25, 26, 27, 28, 29, 30, 31, 32, 33] [4, 5, 13, 14, 15, 16, 17, 18, 19, 20, 21, 22, 23, 24, 37, 38, 39, 40] → k11 A' x0 x1 x2 → k11' A' x0 x1 x2) (hw : wc_Coder_routines_11B rec Q k11 s0 x1 x2 x3) : wc_Coder_routines_11B rec Q' k11' s0 x1 x2 x3 := by
  unfold wc_Coder_routines_11B at hw ⊢
  refine ⟨fun c1 => ?_, fun c1 => ?_⟩
  · have h2 := hw.1 c1
    refine ffm_Tree_first h2 (fun r3 A4 f1 h10 => ?_)
    obtain ⟨m11, h12⟩ := h10
    exact ⟨m11, ffl_Coder_routines_520 hrec m11 _ _ _ (fun A' f q => hq A' ((ySm.rf.tr f1 rfl rfl).tr f rfl rfl) q)  h12⟩
  · have h13 := hw.2 c1
    refine ⟨fun c14 => ?_, fun c14 => ?_⟩
    · have h15 := h13.1 c14
      refine ffm_Tree_first h15 (fun r16 A17 f2 h23 => ?_)
      obtain ⟨m24, h25⟩ := h23
      exact ⟨m24, ffl_Coder_routines_520 hrec m24 _ _ _ (fun A' f q => hq A' ((ySm.rf.tr f2 rfl rfl).tr f rfl rfl) q)  h25⟩
    · have h26 := h13.2 c14
      refine ffm_Coder_routineName h26 (fun A28 f3 h34 => ?_)
      refine ffm_Tree_next h34 (fun r35 A36 f4 h42 => ?_)
      obtain ⟨o43, h44⟩ := h42
      refine ⟨o43, ?_⟩
      exact fk11 _ _ _ _ ((ySm.rf.tr f3 rfl rfl).tr f4 rfl rfl) h44
theorem ffl_Coder_routines_110 {rec : Nat → Int → Int → Int → cS → (Int → cS → Prop) → Prop} (hrec : ∀ (i : Nat) (a b c : Int) (A : cS) (Q Q' : Int → cS → Prop), rec i a b c A Q → (∀ (e : Int) (A' : cS), ySm A A' [1, 2, 4, 5, 6, 10, 24, 25, 26, 27, 28, 29, 30, 31, 32, 33] [4, 5, 13, 14, 15, 16, 17, 18, 19, 20, 21, 22, 23, 24, 37, 38, 39, 40] → Q e A' → Q' e A') → rec i a b c A Q') {Q Q' : cS → Prop}  : ∀ (m : Nat) (s0 : cS) (x1 : Int) (x2 : Int) (x3 : Int), (∀ (A' : cS), ySm s0 A' [1, 2, 4, 5, 6, 10, 24, 25, 26, 27, 28, 29, 30, 31, 32, 33] [4, 5, 13, 14, 15, 16, 17, 18, 19, 20, 21, 22, 23, 24, 37, 38, 39, 40] → Q A' → Q' A') → wc_Coder_routines_11 rec Q  m s0 x1 x2 x3 → wc_Coder_routines_11 rec Q'  m s0 x1 x2 x3 := by
  intro m
  induction m with
  | zero => intro s0 x1 x2 x3 hq  hw; exact hw
  | succ m ih => intro s0 x1 x2 x3 hq  hw; exact ffb_Coder_routines_11 hrec hq  (fun A' y0 y1 y2 f1 q => ih A' y0 y1 y2 (fun A' f q => hq A' (f1.tr f rfl rfl) q)  q) hw
theorem ffm_Coder_routines {rec : Nat → Int → Int → Int → cS → (Int → cS → Prop) → Prop} (hrec : ∀ (i : Nat) (a b c : Int) (A : cS) (Q Q' : Int → cS → Prop), rec i a b c A Q → (∀ (e : Int) (A' : cS), ySm A A' [1, 2, 4, 5, 6, 10, 24, 25, 26, 27, 28, 29, 30, 31, 32, 33] [4, 5, 13, 14, 15, 16, 17, 18, 19, 20, 21, 22, 23, 24, 37, 38, 39, 40] → Q e A' → Q' e A') → rec i a b c A Q') {s0 : cS} {a0 : Int} {Q Q' : cS → Prop} (hw : wc_Coder_routines rec s0 a0 Q) (hq : ∀ (A' : cS), ySm s0 A' [1, 2, 4, 5, 6, 10, 24, 25, 26, 27, 28, 29, 30, 31, 32, 33] [4, 5, 13, 14, 15, 16, 17, 18, 19, 20, 21, 22, 23, 24, 37, 38, 39, 40] → Q A' → Q' A') : wc_Coder_routines rec s0 a0 Q' := by
  unfold wc_Coder_routines at hw ⊢
  refine ffm_Tree_first hw (fun r1 A2 f1 h8 => ?_)
  obtain ⟨m9, h10⟩ := h8
  exact ⟨m9, ffl_Coder_routines_110 hrec m9 _ _ _ _ (fun A' f q => hq A' ((ySm.rf.tr f1 rfl rfl).tr f rfl rfl) q)  h10⟩
theorem ffj_Coder_routine_162 {rec : Nat → Int → Int → Int → cS → (Int → cS → Prop) → Prop} (hrec : ∀ (i : Nat) (a b c : Int) (A : cS) (Q Q' : Int → cS → Prop), rec i a b c A Q → (∀ (e : Int) (A' : cS), ySm A A' [1, 2, 4, 5, 6, 10, 24, 25, 26, 27, 28, 29, 30, 31, 32, 33] [4, 5, 13, 14, 15, 16, 17, 18, 19, 20, 21, 22, 23, 24, 37, 38, 39, 40] → Q e A' → Q' e A') → rec i a b c A Q') {Q Q' : cS → Prop}  {s0 : cS} {x2 : Int} {x3 : Int} {x4 : Int} {x5 : Int} {x6 : Int} {x7 : Int} {x8 : Int} {x9 : Int} {x10 : Int} {x11 : Int} (hq : ∀ (A' : cS), ySm s0 A' [1, 2, 4, 5, 6, 10, 24, 25, 26, 27, 28, 29, 30, 31, 32, 33] [4, 5, 13, 14, 15, 16, 17, 18, 19, 20, 21, 22, 23, 24, 37, 38, 39, 40] → Q A' → Q' A')  (hw : wc_Coder_routine_162 rec Q  s0 x2 x3 x4 x5 x6 x7 x8 x9 x10 x11) : wc_Coder_routine_162 rec Q'  s0 x2 x3 x4 x5 x6 x7 x8 x9 x10 x11 := by
  unfold wc_Coder_routine_162 at hw ⊢
  refine ffm_Coder_emit hw (fun r1 A2 f1 h8 => ?_)
  refine ffm_Scope_close h8 (fun A10 f2 h16 => ?_)
  refine ffm_Program_setFrame h16 (fun A18 f3 h24 => ?_)
  refine ffm_Program_land h24 (fun A26 f4 h32 => ?_)
  obtain ⟨o121, h122⟩ := h32
  refine ⟨o121, ?_⟩
  exact hq _ (((((((((((((ySm.rf.tr f1 rfl rfl).tr f2 rfl rfl).tr f3 rfl rfl).tr f4 rfl rfl).pv rfl).pv rfl).pv rfl).pv rfl).pv rfl).pv rfl).pv rfl).pv rfl).pv rfl) h122
theorem ffj_Coder_routine_114 {rec : Nat → Int → Int → Int → cS → (Int → cS → Prop) → Prop} (hrec : ∀ (i : Nat) (a b c : Int) (A : cS) (Q Q' : Int → cS → Prop), rec i a b c A Q → (∀ (e : Int) (A' : cS), ySm A A' [1, 2, 4, 5, 6, 10, 24, 25, 26, 27, 28, 29, 30, 31, 32, 33] [4, 5, 13, 14, 15, 16, 17, 18, 19, 20, 21, 22, 23, 24, 37, 38, 39, 40] → Q e A' → Q' e A') → rec i a b c A Q') {Q Q' : cS → Prop}  {s0 : cS} {x1 : Int} {x2 : Int} {x3 : Int} {x4 : Int} {x5 : Int} {x6 : Int} {x7 : Int} {x8 : Int} {x9 : Int} {x10 : Int} {x11 : Int} {y0 : Int} (hq : ∀ (A' : cS), ySm s0 A' [1, 2, 4, 5, 6, 10, 24, 25, 26, 27, 28, 29, 30, 31, 32, 33] [4, 5, 13, 14, 15, 16, 17, 18, 19, 20, 21, 22, 23, 24, 37, 38, 39, 40] → Q A' → Q' A')  (hw : wc_Coder_routine_114 rec Q  s0 x1 x2 x3 x4 x5 x6 x7 x8 x9 x10 x11 y0) : wc_Coder_routine_114 rec Q'  s0 x1 x2 x3 x4 x5 x6 x7 x8 x9 x10 x11 y0 := by
  unfold wc_Coder_routine_114 at hw ⊢
  obtain ⟨o1, h2⟩ := hw
  refine ⟨o1, ?_⟩
  refine ffm_Scope_open h2 (fun A15 f1 h21 => ?_)
  refine ffm_Coder_parameters h21 (fun r22 A23 f2 h29 => ?_)
  refine ⟨fun c30 => ?_, fun c30 => ?_⟩
  · have h31 := h29.1 c30
    refine hrec _ _ _ _ _ _ _ h31 (fun r32 A33 f3 h39 => ?_)
    refine ffm_Coder_emit h39 (fun r40 A41 f4 h47 => ?_)
    exact ffj_Coder_routine_162 hrec (fun A' f q => hq A' ((((((ySm.rf.pv rfl).tr f1 rfl rfl).tr f2 rfl rfl).tr f3 rfl rfl).tr f4 rfl rfl).tr f rfl rfl) q)  h47
  · have h48 := h29.2 c30
    refine hrec _ _ _ _ _ _ _ h48 (fun r49 A50 f5 h56 => ?_)
    exact ffj_Coder_routine_162 hrec (fun A' f q => hq A' (((((ySm.rf.pv rfl).tr f1 rfl rfl).tr f2 rfl rfl).tr f5 rfl rfl).tr f rfl rfl) q)  h56
theorem ffm_Coder_routine {rec : Nat → Int → Int → Int → cS → (Int → cS → Prop) → Prop} (hrec : ∀ (i : Nat) (a b c : Int) (A : cS) (Q Q' : Int → cS → Prop), rec i a b c A Q → (∀ (e : Int) (A' : cS), ySm A A' [1, 2, 4, 5, 6, 10, 24, 25, 26, 27, 28, 29, 30, 31, 32, 33] [4, 5, 13, 14, 15, 16, 17, 18, 19, 20, 21, 22, 23, 24, 37, 38, 39, 40] → Q e A' → Q' e A') → rec i a b c A Q') {s0 : cS} {a0 : Int} {Q Q' : cS → Prop} (hw : wc_Coder_routine rec s0 a0 Q) (hq : ∀ (A' : cS), ySm s0 A' [1, 2, 4, 5, 6, 10, 24, 25, 26, 27, 28, 29, 30, 31, 32, 33] [4, 5, 13, 14, 15, 16, 17, 18, 19, 20, 21, 22, 23, 24, 37, 38, 39, 40] → Q A' → Q' A') : wc_Coder_routine rec s0 a0 Q' := by
  unfold wc_Coder_routine at hw ⊢
  refine ffm_Coder_emit hw (fun r1 A2 f1 h8 => ?_)
  refine ffm_Coder_leaveAll h8 (fun A10 f2 h16 => ?_)
  refine ffm_Tree_extra h16 (fun r17 A18 f3 h24 => ?_)
  obtain ⟨o36, h37⟩ := h24
  refine ⟨o36, ?_⟩
  refine ffm_Tree_kind h37 (fun r60 A61 f4 h67 => ?_)
  refine ⟨fun c68 => ?_, fun c68 => ?_⟩
  · have h69 := h67.1 c68
    exact ffj_Coder_routine_114 hrec (fun A' f q => hq A' ((((((((ySm.rf.tr f1 rfl rfl).tr f2 rfl rfl).tr f3 rfl rfl).pv rfl).pv rfl).pv rfl).tr f4 rfl rfl).tr f rfl rfl) q)  h69
  · have h70 := h67.2 c68
    exact ffj_Coder_routine_114 hrec (fun A' f q => hq A' ((((((((ySm.rf.tr f1 rfl rfl).tr f2 rfl rfl).tr f3 rfl rfl).pv rfl).pv rfl).pv rfl).tr f4 rfl rfl).tr f rfl rfl) q)  h70
theorem ffb_Coder_variables_184 {rec : Nat → Int → Int → Int → cS → (Int → cS → Prop) → Prop} (hrec : ∀ (i : Nat) (a b c : Int) (A : cS) (Q Q' : Int → cS → Prop), rec i a b c A Q → (∀ (e : Int) (A' : cS), ySm A A' [1, 2, 4, 5, 6, 10, 24, 25, 26, 27, 28, 29, 30, 31, 32, 33] [4, 5, 13, 14, 15, 16, 17, 18, 19, 20, 21, 22, 23, 24, 37, 38, 39, 40] → Q e A' → Q' e A') → rec i a b c A Q') {Q Q' : cS → Prop} {k184 k184' : cS → Int → Int → Int → Int → Prop} {s0 : cS} {x2 : Int} {x4 : Int} {x5 : Int} {x6 : Int} (hq : ∀ (A' : cS), ySm s0 A' [1, 2, 4, 5, 6, 10, 24, 25, 26, 27, 28, 29, 30, 31, 32, 33] [4, 5, 13, 14, 15, 16, 17, 18, 19, 20, 21, 22, 23, 24, 37, 38, 39, 40] → Q A' → Q' A') (fk184 : ∀ (A' : cS) (x0 : Int) (x1 : Int) (x2 : Int) (x3 : Int), ySm s0 A' [1, 2, 4, 5, 6, 10, 24, 25, 26, 27, 28, 29, 30, 31, 32, 33] [4, 5, 13, 14, 15, 16, 17, 18, 19, 20, 21, 22, 23, 24, 37, 38, 39, 40] → k184 A' x0 x1 x2 x3 → k184' A' x0 x1 x2 x3) (hw : wc_Coder_variables_184B rec Q k184 s0 x2 x4 x5 x6) : wc_Coder_variables_184B rec Q' k184' s0 x2 x4 x5 x6 := by
  unfold wc_Coder_variables_184B at hw ⊢
  refine ⟨fun c1 => ?_, fun c1 => ?_⟩
  · have h2 := hw.1 c1
    refine ffm_Coder_take h2 (fun A4 f1 h10 => ?_)
    exact hq _ (ySm.rf.tr f1 rfl rfl) h10
  · have h11 := hw.2 c1
    refine ffm_Tree_data h11 (fun r12 A13 f2 h19 => ?_)
    refine ffm_Tree_place h19 (fun r20 A21 f3 h27 => ?_)
    obtain ⟨o28, h29⟩ := h27
    refine ⟨o28, ?_⟩
    refine ffm_Scope_declare h29 (fun r30 A31 f4 h37 => ?_)
    refine ffm_Tree_next h37 (fun r38 A39 f5 h45 => ?_)
    obtain ⟨o46, h47⟩ := h45
    refine ⟨o46, ?_⟩
    exact fk184 _ _ _ _ _ ((((ySm.rf.tr f2 rfl rfl).tr f3 rfl rfl).tr f4 rfl rfl).tr f5 rfl rfl) h47
theorem ffl_Coder_variables_1840 {rec : Nat → Int → Int → Int → cS → (Int → cS → Prop) → Prop} (hrec : ∀ (i : Nat) (a b c : Int) (A : cS) (Q Q' : Int → cS → Prop), rec i a b c A Q → (∀ (e : Int) (A' : cS), ySm A A' [1, 2, 4, 5, 6, 10, 24, 25, 26, 27, 28, 29, 30, 31, 32, 33] [4, 5, 13, 14, 15, 16, 17, 18, 19, 20, 21, 22, 23, 24, 37, 38, 39, 40] → Q e A' → Q' e A') → rec i a b c A Q') {Q Q' : cS → Prop}  : ∀ (m : Nat) (s0 : cS) (x2 : Int) (x4 : Int) (x5 : Int) (x6 : Int), (∀ (A' : cS), ySm s0 A' [1, 2, 4, 5, 6, 10, 24, 25, 26, 27, 28, 29, 30, 31, 32, 33] [4, 5, 13, 14, 15, 16, 17, 18, 19, 20, 21, 22, 23, 24, 37, 38, 39, 40] → Q A' → Q' A') → wc_Coder_variables_184 rec Q  m s0 x2 x4 x5 x6 → wc_Coder_variables_184 rec Q'  m s0 x2 x4 x5 x6 := by
  intro m
  induction m with
  | zero => intro s0 x2 x4 x5 x6 hq  hw; exact hw
  | succ m ih => intro s0 x2 x4 x5 x6 hq  hw; exact ffb_Coder_variables_184 hrec hq  (fun A' y0 y1 y2 y3 f1 q => ih A' y0 y1 y2 y3 (fun A' f q => hq A' (f1.tr f rfl rfl) q)  q) hw
theorem ffb_Coder_variables_153 {rec : Nat → Int → Int → Int → cS → (Int → cS → Prop) → Prop} (hrec : ∀ (i : Nat) (a b c : Int) (A : cS) (Q Q' : Int → cS → Prop), rec i a b c A Q → (∀ (e : Int) (A' : cS), ySm A A' [1, 2, 4, 5, 6, 10, 24, 25, 26, 27, 28, 29, 30, 31, 32, 33] [4, 5, 13, 14, 15, 16, 17, 18, 19, 20, 21, 22, 23, 24, 37, 38, 39, 40] → Q e A' → Q' e A') → rec i a b c A Q') {Q Q' : cS → Prop} {k153 k153' : cS → Int → Int → Int → Int → Prop} {s0 : cS} {x2 : Int} {x3 : Int} {x5 : Int} {x6 : Int} (hq : ∀ (A' : cS), ySm s0 A' [1, 2, 4, 5, 6, 10, 24, 25, 26, 27, 28, 29, 30, 31, 32, 33] [4, 5, 13, 14, 15, 16, 17, 18, 19, 20, 21, 22, 23, 24, 37, 38, 39, 40] → Q A' → Q' A') (fk153 : ∀ (A' : cS) (x0 : Int) (x1 : Int) (x2 : Int) (x3 : Int), ySm s0 A' [1, 2, 4, 5, 6, 10, 24, 25, 26, 27, 28, 29, 30, 31, 32, 33] [4, 5, 13, 14, 15, 16, 17, 18, 19, 20, 21, 22, 23, 24, 37, 38, 39, 40] → k153 A' x0 x1 x2 x3 → k153' A' x0 x1 x2 x3) (hw : wc_Coder_variables_153B rec Q k153 s0 x2 x3 x5 x6) : wc_Coder_variables_153B rec Q' k153' s0 x2 x3 x5 x6 := by
  unfold wc_Coder_variables_153B at hw ⊢
  refine ⟨fun c1 => ?_, fun c1 => ?_⟩
  · have h2 := hw.1 c1
    obtain ⟨m3, h4⟩ := h2
    exact ⟨m3, ffl_Coder_variables_1840 hrec m3 _ _ _ _ _ (fun A' f q => hq A' (ySm.rf.tr f rfl rfl) q)  h4⟩
  · have h5 := hw.2 c1
    obtain ⟨o6, h7⟩ := h5
    refine ⟨o6, ?_⟩
    refine ffm_Coder_emit h7 (fun r8 A9 f1 h15 => ?_)
    obtain ⟨o16, h17⟩ := h15
    refine ⟨o16, ?_⟩
    exact fk153 _ _ _ _ _ (ySm.rf.tr f1 rfl rfl) h17
theorem ffl_Coder_variables_1530 {rec : Nat → Int → Int → Int → cS → (Int → cS → Prop) → Prop} (hrec : ∀ (i : Nat) (a b c : Int) (A : cS) (Q Q' : Int → cS → Prop), rec i a b c A Q → (∀ (e : Int) (A' : cS), ySm A A' [1, 2, 4, 5, 6, 10, 24, 25, 26, 27, 28, 29, 30, 31, 32, 33] [4, 5, 13, 14, 15, 16, 17, 18, 19, 20, 21, 22, 23, 24, 37, 38, 39, 40] → Q e A' → Q' e A') → rec i a b c A Q') {Q Q' : cS → Prop}  : ∀ (m : Nat) (s0 : cS) (x2 : Int) (x3 : Int) (x5 : Int) (x6 : Int), (∀ (A' : cS), ySm s0 A' [1, 2, 4, 5, 6, 10, 24, 25, 26, 27, 28, 29, 30, 31, 32, 33] [4, 5, 13, 14, 15, 16, 17, 18, 19, 20, 21, 22, 23, 24, 37, 38, 39, 40] → Q A' → Q' A') → wc_Coder_variables_153 rec Q  m s0 x2 x3 x5 x6 → wc_Coder_variables_153 rec Q'  m s0 x2 x3 x5 x6 := by
  intro m
  induction m with
  | zero => intro s0 x2 x3 x5 x6 hq  hw; exact hw
  | succ m ih => intro s0 x2 x3 x5 x6 hq  hw; exact ffb_Coder_variables_153 hrec hq  (fun A' y0 y1 y2 y3 f1 q => ih A' y0 y1 y2 y3 (fun A' f q => hq A' (f1.tr f rfl rfl) q)  q) hw
theorem ffb_Coder_variables_61 {rec : Nat → Int → Int → Int → cS → (Int → cS → Prop) → Prop} (hrec : ∀ (i : Nat) (a b c : Int) (A : cS) (Q Q' : Int → cS → Prop), rec i a b c A Q → (∀ (e : Int) (A' : cS), ySm A A' [1, 2, 4, 5, 6, 10, 24, 25, 26, 27, 28, 29, 30, 31, 32, 33] [4, 5, 13, 14, 15, 16, 17, 18, 19, 20, 21, 22, 23, 24, 37, 38, 39, 40] → Q e A' → Q' e A') → rec i a b c A Q') {Q Q' : cS → Prop} {k61 k61' : cS → Int → Int → Int → Int → Int → Prop} {s0 : cS} {x2 : Int} {x3 : Int} {x4 : Int} {x5 : Int} {x6 : Int} (hq : ∀ (A' : cS), ySm s0 A' [1, 2, 4, 5, 6, 10, 24, 25, 26, 27, 28, 29, 30, 31, 32, 33] [4, 5, 13, 14, 15, 16, 17, 18, 19, 20, 21, 22, 23, 24, 37, 38, 39, 40] → Q A' → Q' A') (fk61 : ∀ (A' : cS) (x0 : Int) (x1 : Int) (x2 : Int) (x3 : Int) (x4 : Int), ySm s0 A' [1, 2, 4, 5, 6, 10, 24, 25, 26, 27, 28, 29, 30, 31, 32, 33] [4, 5, 13, 14, 15, 16, 17, 18, 19, 20, 21, 22, 23, 24, 37, 38, 39, 40] → k61 A' x0 x1 x2 x3 x4 → k61' A' x0 x1 x2 x3 x4) (hw : wc_Coder_variables_61B rec Q k61 s0 x2 x3 x4 x5 x6) : wc_Coder_variables_61B rec Q' k61' s0 x2 x3 x4 x5 x6 := by
  unfold wc_Coder_variables_61B at hw ⊢
  refine ⟨fun c1 => ?_, fun c1 => ?_⟩
  · have h2 := hw.1 c1
    obtain ⟨o3, h4⟩ := h2
    refine ⟨o3, ?_⟩
    obtain ⟨m5, h6⟩ := h4
    exact ⟨m5, ffl_Coder_variables_1530 hrec m5 _ _ _ _ _ (fun A' f q => hq A' (ySm.rf.tr f rfl rfl) q)  h6⟩
  · have h7 := hw.2 c1
    refine ffm_Tree_kind h7 (fun r8 A9 f1 h15 => ?_)
    refine ⟨fun c16 => ?_, fun c16 => ?_⟩
    · have h17 := h15.1 c16
      refine hrec _ _ _ _ _ _ _ h17 (fun r18 A19 f2 h25 => ?_)
      refine ffm_Tree_next h25 (fun r26 A27 f3 h33 => ?_)
      obtain ⟨o34, h35⟩ := h33
      refine ⟨o34, ?_⟩
      exact fk61 _ _ _ _ _ _ (((ySm.rf.tr f1 rfl rfl).tr f2 rfl rfl).tr f3 rfl rfl) h35
    · have h36 := h15.2 c16
      obtain ⟨o37, h38⟩ := h36
      refine ⟨o37, ?_⟩
      refine ffm_Coder_emit h38 (fun r39 A40 f4 h46 => ?_)
      refine ffm_Tree_first h46 (fun r47 A48 f5 h54 => ?_)
      refine ffm_Constants_number h54 (fun r55 A56 f6 h62 => ?_)
      refine ffm_Tree_next h62 (fun r63 A64 f7 h70 => ?_)
      obtain ⟨o71, h72⟩ := h70
      refine ⟨o71, ?_⟩
      obtain ⟨o73, h74⟩ := h72
      refine ⟨o73, ?_⟩
      exact fk61 _ _ _ _ _ _ (((((ySm.rf.tr f1 rfl rfl).tr f4 rfl rfl).tr f5 rfl rfl).tr f6 rfl rfl).tr f7 rfl rfl) h74
theorem ffl_Coder_variables_610 {rec : Nat → Int → Int → Int → cS → (Int → cS → Prop) → Prop} (hrec : ∀ (i : Nat) (a b c : Int) (A : cS) (Q Q' : Int → cS → Prop), rec i a b c A Q → (∀ (e : Int) (A' : cS), ySm A A' [1, 2, 4, 5, 6, 10, 24, 25, 26, 27, 28, 29, 30, 31, 32, 33] [4, 5, 13, 14, 15, 16, 17, 18, 19, 20, 21, 22, 23, 24, 37, 38, 39, 40] → Q e A' → Q' e A') → rec i a b c A Q') {Q Q' : cS → Prop}  : ∀ (m : Nat) (s0 : cS) (x2 : Int) (x3 : Int) (x4 : Int) (x5 : Int) (x6 : Int), (∀ (A' : cS), ySm s0 A' [1, 2, 4, 5, 6, 10, 24, 25, 26, 27, 28, 29, 30, 31, 32, 33] [4, 5, 13, 14, 15, 16, 17, 18, 19, 20, 21, 22, 23, 24, 37, 38, 39, 40] → Q A' → Q' A') → wc_Coder_variables_61 rec Q  m s0 x2 x3 x4 x5 x6 → wc_Coder_variables_61 rec Q'  m s0 x2 x3 x4 x5 x6 := by
  intro m
  induction m with
  | zero => intro s0 x2 x3 x4 x5 x6 hq  hw; exact hw
  | succ m ih => intro s0 x2 x3 x4 x5 x6 hq  hw; exact ffb_Coder_variables_61 hrec hq  (fun A' y0 y1 y2 y3 y4 f1 q => ih A' y0 y1 y2 y3 y4 (fun A' f q => hq A' (f1.tr f rfl rfl) q)  q) hw
theorem ffb_Coder_variables_32 {rec : Nat → Int → Int → Int → cS → (Int → cS → Prop) → Prop} (hrec : ∀ (i : Nat) (a b c : Int) (A : cS) (Q Q' : Int → cS → Prop), rec i a b c A Q → (∀ (e : Int) (A' : cS), ySm A A' [1, 2, 4, 5, 6, 10, 24, 25, 26, 27, 28, 29, 30, 31, 32, 33] [4, 5, 13, 14, 15, 16, 17, 18, 19, 20, 21, 22, 23, 24, 37, 38, 39, 40] → Q e A' → Q' e A') → rec i a b c A Q') {Q Q' : cS → Prop} {k32 k32' : cS → Int → Int → Int → Int → Prop} {s0 : cS} {x2 : Int} {x3 : Int} {x4 : Int} {x5 : Int} (hq : ∀ (A' : cS), ySm s0 A' [1, 2, 4, 5, 6, 10, 24, 25, 26, 27, 28, 29, 30, 31, 32, 33] [4, 5, 13, 14, 15, 16, 17, 18, 19, 20, 21, 22, 23, 24, 37, 38, 39, 40] → Q A' → Q' A') (fk32 : ∀ (A' : cS) (x0 : Int) (x1 : Int) (x2 : Int) (x3 : Int), ySm s0 A' [1, 2, 4, 5, 6, 10, 24, 25, 26, 27, 28, 29, 30, 31, 32, 33] [4, 5, 13, 14, 15, 16, 17, 18, 19, 20, 21, 22, 23, 24, 37, 38, 39, 40] → k32 A' x0 x1 x2 x3 → k32' A' x0 x1 x2 x3) (hw : wc_Coder_variables_32B rec Q k32 s0 x2 x3 x4 x5) : wc_Coder_variables_32B rec Q' k32' s0 x2 x3 x4 x5 := by
  unfold wc_Coder_variables_32B at hw ⊢
  refine ⟨fun c1 => ?_, fun c1 => ?_⟩
  · have h2 := hw.1 c1
    obtain ⟨m3, h4⟩ := h2
    exact ⟨m3, ffl_Coder_variables_610 hrec m3 _ _ _ _ _ _ (fun A' f q => hq A' (ySm.rf.tr f rfl rfl) q)  h4⟩
  · have h5 := hw.2 c1
    refine ffm_Tree_next h5 (fun r6 A7 f1 h13 => ?_)
    obtain ⟨o14, h15⟩ := h13
    refine ⟨o14, ?_⟩
    exact fk32 _ _ _ _ _ (ySm.rf.tr f1 rfl rfl) h15
theorem ffl_Coder_variables_320 {rec : Nat → Int → Int → Int → cS → (Int → cS → Prop) → Prop} (hrec : ∀ (i : Nat) (a b c : Int) (A : cS) (Q Q' : Int → cS → Prop), rec i a b c A Q → (∀ (e : Int) (A' : cS), ySm A A' [1, 2, 4, 5, 6, 10, 24, 25, 26, 27, 28, 29, 30, 31, 32, 33] [4, 5, 13, 14, 15, 16, 17, 18, 19, 20, 21, 22, 23, 24, 37, 38, 39, 40] → Q e A' → Q' e A') → rec i a b c A Q') {Q Q' : cS → Prop}  : ∀ (m : Nat) (s0 : cS) (x2 : Int) (x3 : Int) (x4 : Int) (x5 : Int), (∀ (A' : cS), ySm s0 A' [1, 2, 4, 5, 6, 10, 24, 25, 26, 27, 28, 29, 30, 31, 32, 33] [4, 5, 13, 14, 15, 16, 17, 18, 19, 20, 21, 22, 23, 24, 37, 38, 39, 40] → Q A' → Q' A') → wc_Coder_variables_32 rec Q  m s0 x2 x3 x4 x5 → wc_Coder_variables_32 rec Q'  m s0 x2 x3 x4 x5 := by
  intro m
  induction m with
  | zero => intro s0 x2 x3 x4 x5 hq  hw; exact hw
  | succ m ih => intro s0 x2 x3 x4 x5 hq  hw; exact ffb_Coder_variables_32 hrec hq  (fun A' y0 y1 y2 y3 f1 q => ih A' y0 y1 y2 y3 (fun A' f q => hq A' (f1.tr f rfl rfl) q)  q) hw
theorem ffm_Coder_variables {rec : Nat → Int → Int → Int → cS → (Int → cS → Prop) → Prop} (hrec : ∀ (i : Nat) (a b c : Int) (A : cS) (Q Q' : Int → cS → Prop), rec i a b c A Q → (∀ (e : Int) (A' : cS), ySm A A' [1, 2, 4, 5, 6, 10, 24, 25, 26, 27, 28, 29, 30, 31, 32, 33] [4, 5, 13, 14, 15, 16, 17, 18, 19, 20, 21, 22, 23, 24, 37, 38, 39, 40] → Q e A' → Q' e A') → rec i a b c A Q') {s0 : cS} {a0 : Int} {Q Q' : cS → Prop} (hw : wc_Coder_variables rec s0 a0 Q) (hq : ∀ (A' : cS), ySm s0 A' [1, 2, 4, 5, 6, 10, 24, 25, 26, 27, 28, 29, 30, 31, 32, 33] [4, 5, 13, 14, 15, 16, 17, 18, 19, 20, 21, 22, 23, 24, 37, 38, 39, 40] → Q A' → Q' A') : wc_Coder_variables rec s0 a0 Q' := by
  unfold wc_Coder_variables at hw ⊢
  refine ffm_Coder_emit hw (fun r1 A2 f1 h8 => ?_)
  refine ffm_Tree_data h8 (fun r9 A10 f2 h16 => ?_)
  refine ffm_Tree_first h16 (fun r17 A18 f3 h24 => ?_)
  obtain ⟨m25, h26⟩ := h24
  exact ⟨m25, ffl_Coder_variables_320 hrec m25 _ _ _ _ _ (fun A' f q => hq A' ((((ySm.rf.tr f1 rfl rfl).tr f2 rfl rfl).tr f3 rfl rfl).tr f rfl rfl) q)  h26⟩
theorem ffj_Coder_section_290 {rec : Nat → Int → Int → Int → cS → (Int → cS → Prop) → Prop} (hrec : ∀ (i : Nat) (a b c : Int) (A : cS) (Q Q' : Int → cS → Prop), rec i a b c A Q → (∀ (e : Int) (A' : cS), ySm A A' [1, 2, 4, 5, 6, 10, 24, 25, 26, 27, 28, 29, 30, 31, 32, 33] [4, 5, 13, 14, 15, 16, 17, 18, 19, 20, 21, 22, 23, 24, 37, 38, 39, 40] → Q e A' → Q' e A') → rec i a b c A Q') {Q Q' : cS → Prop} {k134 k134' : cS → Int → Int → Int → Prop} {s0 : cS} {x2 : Int} {x3 : Int} {x4 : Int} (hq : ∀ (A' : cS), ySm s0 A' [1, 2, 4, 5, 6, 10, 24, 25, 26, 27, 28, 29, 30, 31, 32, 33] [4, 5, 13, 14, 15, 16, 17, 18, 19, 20, 21, 22, 23, 24, 37, 38, 39, 40] → Q A' → Q' A') (fk134 : ∀ (A' : cS) (x0 : Int) (x1 : Int) (x2 : Int), ySm s0 A' [1, 2, 4, 5, 6, 10, 24, 25, 26, 27, 28, 29, 30, 31, 32, 33] [4, 5, 13, 14, 15, 16, 17, 18, 19, 20, 21, 22, 23, 24, 37, 38, 39, 40] → k134 A' x0 x1 x2 → k134' A' x0 x1 x2) (hw : wc_Coder_section_290 rec Q k134 s0 x2 x3 x4) : wc_Coder_section_290 rec Q' k134' s0 x2 x3 x4 := by
  unfold wc_Coder_section_290 at hw ⊢
  refine ffm_Tree_next hw (fun r1 A2 f1 h8 => ?_)
  obtain ⟨o9, h10⟩ := h8
  refine ⟨o9, ?_⟩
  exact fk134 _ _ _ _ (ySm.rf.tr f1 rfl rfl) h10
theorem ffb_Coder_section_134 {rec : Nat → Int → Int → Int → cS → (Int → cS → Prop) → Prop} (hrec : ∀ (i : Nat) (a b c : Int) (A : cS) (Q Q' : Int → cS → Prop), rec i a b c A Q → (∀ (e : Int) (A' : cS), ySm A A' [1, 2, 4, 5, 6, 10, 24, 25, 26, 27, 28, 29, 30, 31, 32, 33] [4, 5, 13, 14, 15, 16, 17, 18, 19, 20, 21, 22, 23, 24, 37, 38, 39, 40] → Q e A' → Q' e A') → rec i a b c A Q') {Q Q' : cS → Prop} {k134 k134' : cS → Int → Int → Int → Prop} {s0 : cS} {x2 : Int} {x3 : Int} {x4 : Int} (hq : ∀ (A' : cS), ySm s0 A' [1, 2, 4, 5, 6, 10, 24, 25, 26, 27, 28, 29, 30, 31, 32, 33] [4, 5, 13, 14, 15, 16, 17, 18, 19, 20, 21, 22, 23, 24, 37, 38, 39, 40] → Q A' → Q' A') (fk134 : ∀ (A' : cS) (x0 : Int) (x1 : Int) (x2 : Int), ySm s0 A' [1, 2, 4, 5, 6, 10, 24, 25, 26, 27, 28, 29, 30, 31, 32, 33] [4, 5, 13, 14, 15, 16, 17, 18, 19, 20, 21, 22, 23, 24, 37, 38, 39, 40] → k134 A' x0 x1 x2 → k134' A' x0 x1 x2) (hw : wc_Coder_section_134B rec Q k134 s0 x2 x3 x4) : wc_Coder_section_134B rec Q' k134' s0 x2 x3 x4 := by
  unfold wc_Coder_section_134B at hw ⊢
  refine ⟨fun c1 => ?_, fun c1 => ?_⟩
  · have h2 := hw.1 c1
    refine ffm_Scope_close h2 (fun A4 f1 h10 => ?_)
    exact hq _ ((ySm.rf.tr f1 rfl rfl).pv rfl) h10
  · have h22 := hw.2 c1
    refine ⟨fun c23 => ?_, fun c23 => ?_⟩
    · have h24 := h22.1 c23
      refine ffm_Scope_close h24 (fun A26 f2 h32 => ?_)
      exact hq _ ((ySm.rf.tr f2 rfl rfl).pv rfl) h32
    · have h44 := h22.2 c23
      refine ffm_Tree_kind h44 (fun r45 A46 f3 h52 => ?_)
      refine ⟨fun g53 => ?_, ?_⟩
      · have h55 := (h52.1) g53
        refine ffm_Coder_entrance h55 (fun A57 f4 h63 => ?_)
        exact ffj_Coder_section_290 hrec (fun A' f q => hq A' (((ySm.rf.tr f3 rfl rfl).tr f4 rfl rfl).tr f rfl rfl) q) (fun A' x0 x1 x2 f q => fk134 A' x0 x1 x2 (((ySm.rf.tr f3 rfl rfl).tr f4 rfl rfl).tr f rfl rfl) q) h63
      · skip
        refine ⟨fun g64 => ?_, ?_⟩
        · have h66 := (h52.2.1) g64
          refine ffm_Coder_definitions h66 (fun A68 f5 h74 => ?_)
          exact ffj_Coder_section_290 hrec (fun A' f q => hq A' (((ySm.rf.tr f3 rfl rfl).tr f5 rfl rfl).tr f rfl rfl) q) (fun A' x0 x1 x2 f q => fk134 A' x0 x1 x2 (((ySm.rf.tr f3 rfl rfl).tr f5 rfl rfl).tr f rfl rfl) q) h74
        · skip
          refine ⟨fun g75 => ?_, ?_⟩
          · have h77 := (h52.2.2.1) g75
            refine hrec _ _ _ _ _ _ _ h77 (fun r78 A79 f6 h85 => ?_)
            exact ffj_Coder_section_290 hrec (fun A' f q => hq A' (((ySm.rf.tr f3 rfl rfl).tr f6 rfl rfl).tr f rfl rfl) q) (fun A' x0 x1 x2 f q => fk134 A' x0 x1 x2 (((ySm.rf.tr f3 rfl rfl).tr f6 rfl rfl).tr f rfl rfl) q) h85
          · skip
            refine ⟨fun g86 => ?_, ?_⟩
            · have h88 := (h52.2.2.2.1) g86
              refine hrec _ _ _ _ _ _ _ h88 (fun r89 A90 f7 h96 => ?_)
              exact ffj_Coder_section_290 hrec (fun A' f q => hq A' (((ySm.rf.tr f3 rfl rfl).tr f7 rfl rfl).tr f rfl rfl) q) (fun A' x0 x1 x2 f q => fk134 A' x0 x1 x2 (((ySm.rf.tr f3 rfl rfl).tr f7 rfl rfl).tr f rfl rfl) q) h96
            · skip
              refine ⟨fun g97 => ?_, ?_⟩
              · have h99 := (h52.2.2.2.2.1) g97
                refine ffm_Tree_extra h99 (fun r100 A101 f8 h107 => ?_)
                refine ffm_Program_here h107 (fun r108 A109 f9 h115 => ?_)
                exact ffj_Coder_section_290 hrec (fun A' f q => hq A' (((((ySm.rf.tr f3 rfl rfl).tr f8 rfl rfl).tr f9 rfl rfl).set rfl).tr f rfl rfl) q) (fun A' x0 x1 x2 f q => fk134 A' x0 x1 x2 (((((ySm.rf.tr f3 rfl rfl).tr f8 rfl rfl).tr f9 rfl rfl).set rfl).tr f rfl rfl) q) h115
              · skip
                intro ng53 ng64 ng75 ng86 ng97
                have h120 := h52.2.2.2.2.2 ng53 ng64 ng75 ng86 ng97
                refine hrec _ _ _ _ _ _ _ h120 (fun r121 A122 f10 h128 => ?_)
                exact ffj_Coder_section_290 hrec (fun A' f q => hq A' (((ySm.rf.tr f3 rfl rfl).tr f10 rfl rfl).tr f rfl rfl) q) (fun A' x0 x1 x2 f q => fk134 A' x0 x1 x2 (((ySm.rf.tr f3 rfl rfl).tr f10 rfl rfl).tr f rfl rfl) q) h128
theorem ffl_Coder_section_1340 {rec : Nat → Int → Int → Int → cS → (Int → cS → Prop) → Prop} (hrec : ∀ (i : Nat) (a b c : Int) (A : cS) (Q Q' : Int → cS → Prop), rec i a b c A Q → (∀ (e : Int) (A' : cS), ySm A A' [1, 2, 4, 5, 6, 10, 24, 25, 26, 27, 28, 29, 30, 31, 32, 33] [4, 5, 13, 14, 15, 16, 17, 18, 19, 20, 21, 22, 23, 24, 37, 38, 39, 40] → Q e A' → Q' e A') → rec i a b c A Q') {Q Q' : cS → Prop}  : ∀ (m : Nat) (s0 : cS) (x2 : Int) (x3 : Int) (x4 : Int), (∀ (A' : cS), ySm s0 A' [1, 2, 4, 5, 6, 10, 24, 25, 26, 27, 28, 29, 30, 31, 32, 33] [4, 5, 13, 14, 15, 16, 17, 18, 19, 20, 21, 22, 23, 24, 37, 38, 39, 40] → Q A' → Q' A') → wc_Coder_section_134 rec Q  m s0 x2 x3 x4 → wc_Coder_section_134 rec Q'  m s0 x2 x3 x4 := by
  intro m
  induction m with
  | zero => intro s0 x2 x3 x4 hq  hw; exact hw
  | succ m ih => intro s0 x2 x3 x4 hq  hw; exact ffb_Coder_section_134 hrec hq  (fun A' y0 y1 y2 f1 q => ih A' y0 y1 y2 (fun A' f q => hq A' (f1.tr f rfl rfl) q)  q) hw
theorem ffb_Coder_section_24 {rec : Nat → Int → Int → Int → cS → (Int → cS → Prop) → Prop} (hrec : ∀ (i : Nat) (a b c : Int) (A : cS) (Q Q' : Int → cS → Prop), rec i a b c A Q → (∀ (e : Int) (A' : cS), ySm A A' [1, 2, 4, 5, 6, 10, 24, 25, 26, 27, 28, 29, 30, 31, 32, 33] [4, 5, 13, 14, 15, 16, 17, 18, 19, 20, 21, 22, 23, 24, 37, 38, 39, 40] → Q e A' → Q' e A') → rec i a b c A Q') {Q Q' : cS → Prop} {k24 k24' : cS → Int → Int → Int → Int → Prop} {s0 : cS} {x1 : Int} {x2 : Int} {x3 : Int} {x4 : Int} (hq : ∀ (A' : cS), ySm s0 A' [1, 2, 4, 5, 6, 10, 24, 25, 26, 27, 28, 29, 30, 31, 32, 33] [4, 5, 13, 14, 15, 16, 17, 18, 19, 20, 21, 22, 23, 24, 37, 38, 39, 40] → Q A' → Q' A') (fk24 : ∀ (A' : cS) (x0 : Int) (x1 : Int) (x2 : Int) (x3 : Int), ySm s0 A' [1, 2, 4, 5, 6, 10, 24, 25, 26, 27, 28, 29, 30, 31, 32, 33] [4, 5, 13, 14, 15, 16, 17, 18, 19, 20, 21, 22, 23, 24, 37, 38, 39, 40] → k24 A' x0 x1 x2 x3 → k24' A' x0 x1 x2 x3) (hw : wc_Coder_section_24B rec Q k24 s0 x1 x2 x3 x4) : wc_Coder_section_24B rec Q' k24' s0 x1 x2 x3 x4 := by
  unfold wc_Coder_section_24B at hw ⊢
  refine ⟨fun c1 => ?_, fun c1 => ?_⟩
  · have h2 := hw.1 c1
    refine ffm_Tree_first h2 (fun r3 A4 f1 h10 => ?_)
    obtain ⟨m11, h12⟩ := h10
    exact ⟨m11, ffl_Coder_section_1340 hrec m11 _ _ _ _ (fun A' f q => hq A' ((ySm.rf.tr f1 rfl rfl).tr f rfl rfl) q)  h12⟩
  · have h13 := hw.2 c1
    refine ⟨fun c14 => ?_, fun c14 => ?_⟩
    · have h15 := h13.1 c14
      refine ffm_Tree_first h15 (fun r16 A17 f2 h23 => ?_)
      obtain ⟨m24, h25⟩ := h23
      exact ⟨m24, ffl_Coder_section_1340 hrec m24 _ _ _ _ (fun A' f q => hq A' ((ySm.rf.tr f2 rfl rfl).tr f rfl rfl) q)  h25⟩
    · have h26 := h13.2 c14
      refine ffm_Tree_kind h26 (fun r27 A28 f3 h34 => ?_)
      refine ⟨fun c35 => ?_, fun c35 => ?_⟩
      · have h36 := h34.1 c35
        refine ffm_Tree_next h36 (fun r37 A38 f4 h44 => ?_)
        obtain ⟨o45, h46⟩ := h44
        refine ⟨o45, ?_⟩
        exact fk24 _ _ _ _ _ ((ySm.rf.tr f3 rfl rfl).tr f4 rfl rfl) h46
      · have h47 := h34.2 c35
        refine ffm_Tree_setExtra h47 (fun A49 f5 h55 => ?_)
        refine ffm_Tree_data h55 (fun r56 A57 f6 h63 => ?_)
        refine ffm_Tree_place h63 (fun r64 A65 f7 h71 => ?_)
        refine ffm_Scope_declare h71 (fun r72 A73 f8 h79 => ?_)
        obtain ⟨o84, h85⟩ := h79
        refine ⟨o84, ?_⟩
        refine ffm_Tree_next h85 (fun r86 A87 f9 h93 => ?_)
        obtain ⟨o94, h95⟩ := h93
        refine ⟨o94, ?_⟩
        exact fk24 _ _ _ _ _ (((((((ySm.rf.tr f3 rfl rfl).tr f5 rfl rfl).tr f6 rfl rfl).tr f7 rfl rfl).tr f8 rfl rfl).add rfl).tr f9 rfl rfl) h95
theorem ffl_Coder_section_240 {rec : Nat → Int → Int → Int → cS → (Int → cS → Prop) → Prop} (hrec : ∀ (i : Nat) (a b c : Int) (A : cS) (Q Q' : Int → cS → Prop), rec i a b c A Q → (∀ (e : Int) (A' : cS), ySm A A' [1, 2, 4, 5, 6, 10, 24, 25, 26, 27, 28, 29, 30, 31, 32, 33] [4, 5, 13, 14, 15, 16, 17, 18, 19, 20, 21, 22, 23, 24, 37, 38, 39, 40] → Q e A' → Q' e A') → rec i a b c A Q') {Q Q' : cS → Prop}  : ∀ (m : Nat) (s0 : cS) (x1 : Int) (x2 : Int) (x3 : Int) (x4 : Int), (∀ (A' : cS), ySm s0 A' [1, 2, 4, 5, 6, 10, 24, 25, 26, 27, 28, 29, 30, 31, 32, 33] [4, 5, 13, 14, 15, 16, 17, 18, 19, 20, 21, 22, 23, 24, 37, 38, 39, 40] → Q A' → Q' A') → wc_Coder_section_24 rec Q  m s0 x1 x2 x3 x4 → wc_Coder_section_24 rec Q'  m s0 x1 x2 x3 x4 := by
  intro m
  induction m with
  | zero => intro s0 x1 x2 x3 x4 hq  hw; exact hw
  | succ m ih => intro s0 x1 x2 x3 x4 hq  hw; exact ffb_Coder_section_24 hrec hq  (fun A' y0 y1 y2 y3 f1 q => ih A' y0 y1 y2 y3 (fun A' f q => hq A' (f1.tr f rfl rfl) q)  q) hw
theorem ffm_Coder_section {rec : Nat → Int → Int → Int → cS → (Int → cS → Prop) → Prop} (hrec : ∀ (i : Nat) (a b c : Int) (A : cS) (Q Q' : Int → cS → Prop), rec i a b c A Q → (∀ (e : Int) (A' : cS), ySm A A' [1, 2, 4, 5, 6, 10, 24, 25, 26, 27, 28, 29, 30, 31, 32, 33] [4, 5, 13, 14, 15, 16, 17, 18, 19, 20, 21, 22, 23, 24, 37, 38, 39, 40] → Q e A' → Q' e A') → rec i a b c A Q') {s0 : cS} {a0 : Int} {Q Q' : cS → Prop} (hw : wc_Coder_section rec s0 a0 Q) (hq : ∀ (A' : cS), ySm s0 A' [1, 2, 4, 5, 6, 10, 24, 25, 26, 27, 28, 29, 30, 31, 32, 33] [4, 5, 13, 14, 15, 16, 17, 18, 19, 20, 21, 22, 23, 24, 37, 38, 39, 40] → Q A' → Q' A') : wc_Coder_section rec s0 a0 Q' := by
  unfold wc_Coder_section at hw ⊢
  refine ffm_Scope_open hw (fun A2 f1 h8 => ?_)
  refine ffm_Tree_first h8 (fun r9 A10 f2 h16 => ?_)
  obtain ⟨m17, h18⟩ := h16
  exact ⟨m17, ffl_Coder_section_240 hrec m17 _ _ _ _ _ (fun A' f q => hq A' (((ySm.rf.tr f1 rfl rfl).tr f2 rfl rfl).tr f rfl rfl) q)  h18⟩
theorem ffj_Coder_command_57 {rec : Nat → Int → Int → Int → cS → (Int → cS → Prop) → Prop} (hrec : ∀ (i : Nat) (a b c : Int) (A : cS) (Q Q' : Int → cS → Prop), rec i a b c A Q → (∀ (e : Int) (A' : cS), ySm A A' [1, 2, 4, 5, 6, 10, 24, 25, 26, 27, 28, 29, 30, 31, 32, 33] [4, 5, 13, 14, 15, 16, 17, 18, 19, 20, 21, 22, 23, 24, 37, 38, 39, 40] → Q e A' → Q' e A') → rec i a b c A Q') {Q Q' : cS → Prop}  {s0 : cS} {x1 : Int} (hq : ∀ (A' : cS), ySm s0 A' [1, 2, 4, 5, 6, 10, 24, 25, 26, 27, 28, 29, 30, 31, 32, 33] [4, 5, 13, 14, 15, 16, 17, 18, 19, 20, 21, 22, 23, 24, 37, 38, 39, 40] → Q A' → Q' A')  (hw : wc_Coder_command_57 rec Q  s0 x1) : wc_Coder_command_57 rec Q'  s0 x1 := by
  unfold wc_Coder_command_57 at hw ⊢
  refine ffm_Coder_emit hw (fun r1 A2 f1 h8 => ?_)
  refine ffm_Tree_kind h8 (fun r9 A10 f2 h16 => ?_)
  refine ⟨fun g17 => ?_, ?_⟩
  · have h19 := (h16.1) g17
    refine hrec _ _ _ _ _ _ _ h19 (fun r20 A21 f3 h27 => ?_)
    exact hq _ (((ySm.rf.tr f1 rfl rfl).tr f2 rfl rfl).tr f3 rfl rfl) h27
  · skip
    refine ⟨fun g28 => ?_, ?_⟩
    · have h30 := (h16.2.1) g28
      refine hrec _ _ _ _ _ _ _ h30 (fun r31 A32 f4 h38 => ?_)
      exact hq _ (((ySm.rf.tr f1 rfl rfl).tr f2 rfl rfl).tr f4 rfl rfl) h38
    · skip
      refine ⟨fun g39 => ?_, ?_⟩
      · have h41 := (h16.2.2.1) g39
        refine hrec _ _ _ _ _ _ _ h41 (fun r42 A43 f5 h49 => ?_)
        exact hq _ (((ySm.rf.tr f1 rfl rfl).tr f2 rfl rfl).tr f5 rfl rfl) h49
      · skip
        refine ⟨fun g50 => ?_, ?_⟩
        · have h52 := (h16.2.2.2.1) g50
          refine hrec _ _ _ _ _ _ _ h52 (fun r53 A54 f6 h60 => ?_)
          exact hq _ (((ySm.rf.tr f1 rfl rfl).tr f2 rfl rfl).tr f6 rfl rfl) h60
        · skip
          refine ⟨fun g61 => ?_, ?_⟩
          · have h63 := (h16.2.2.2.2.1) g61
            refine hrec _ _ _ _ _ _ _ h63 (fun r64 A65 f7 h71 => ?_)
            exact hq _ (((ySm.rf.tr f1 rfl rfl).tr f2 rfl rfl).tr f7 rfl rfl) h71
          · skip
            refine ⟨fun g72 => ?_, ?_⟩
            · have h74 := (h16.2.2.2.2.2.1) g72
              refine hrec _ _ _ _ _ _ _ h74 (fun r75 A76 f8 h82 => ?_)
              exact hq _ (((ySm.rf.tr f1 rfl rfl).tr f2 rfl rfl).tr f8 rfl rfl) h82
            · skip
              refine ⟨fun g83 => ?_, ?_⟩
              · have h85 := (h16.2.2.2.2.2.2.1) g83
                refine ffm_Tree_first h85 (fun r86 A87 f9 h93 => ?_)
                refine hrec _ _ _ _ _ _ _ h93 (fun r94 A95 f10 h101 => ?_)
                refine ffm_Coder_emit h101 (fun r102 A103 f11 h109 => ?_)
                exact hq _ (((((ySm.rf.tr f1 rfl rfl).tr f2 rfl rfl).tr f9 rfl rfl).tr f10 rfl rfl).tr f11 rfl rfl) h109
              · skip
                intro ng17 ng28 ng39 ng50 ng61 ng72 ng83
                have h110 := h16.2.2.2.2.2.2.2 ng17 ng28 ng39 ng50 ng61 ng72 ng83
                refine ffm_Coder_leaving h110 (fun A112 f12 h118 => ?_)
                exact hq _ (((ySm.rf.tr f1 rfl rfl).tr f2 rfl rfl).tr f12 rfl rfl) h118
theorem ffm_Coder_command {rec : Nat → Int → Int → Int → cS → (Int → cS → Prop) → Prop} (hrec : ∀ (i : Nat) (a b c : Int) (A : cS) (Q Q' : Int → cS → Prop), rec i a b c A Q → (∀ (e : Int) (A' : cS), ySm A A' [1, 2, 4, 5, 6, 10, 24, 25, 26, 27, 28, 29, 30, 31, 32, 33] [4, 5, 13, 14, 15, 16, 17, 18, 19, 20, 21, 22, 23, 24, 37, 38, 39, 40] → Q e A' → Q' e A') → rec i a b c A Q') {s0 : cS} {a0 : Int} {Q Q' : cS → Prop} (hw : wc_Coder_command rec s0 a0 Q) (hq : ∀ (A' : cS), ySm s0 A' [1, 2, 4, 5, 6, 10, 24, 25, 26, 27, 28, 29, 30, 31, 32, 33] [4, 5, 13, 14, 15, 16, 17, 18, 19, 20, 21, 22, 23, 24, 37, 38, 39, 40] → Q A' → Q' A') : wc_Coder_command rec s0 a0 Q' := by
  unfold wc_Coder_command at hw ⊢
  refine ffm_Tree_kind hw (fun r1 A2 f1 h8 => ?_)
  refine ⟨fun g9 => ?_, ?_⟩
  · have h11 := (h8.1) g9
    exact hq _ (ySm.rf.tr f1 rfl rfl) h11
  · skip
    refine ⟨fun g12 => ?_, ?_⟩
    · have h14 := (h8.2.1) g12
      refine hrec _ _ _ _ _ _ _ h14 (fun r15 A16 f2 h22 => ?_)
      exact hq _ ((ySm.rf.tr f1 rfl rfl).tr f2 rfl rfl) h22
    · skip
      refine ⟨fun g23 => ?_, ?_⟩
      · have h25 := (h8.2.2.1) g23
        refine hrec _ _ _ _ _ _ _ h25 (fun r26 A27 f3 h33 => ?_)
        exact hq _ ((ySm.rf.tr f1 rfl rfl).tr f3 rfl rfl) h33
      · skip
        intro ng9 ng12 ng23
        have h34 := h8.2.2.2 ng9 ng12 ng23
        exact ffj_Coder_command_57 hrec (fun A' f q => hq A' ((ySm.rf.tr f1 rfl rfl).tr f rfl rfl) q)  h34
theorem ffb_Coder_assignment_50 {rec : Nat → Int → Int → Int → cS → (Int → cS → Prop) → Prop} (hrec : ∀ (i : Nat) (a b c : Int) (A : cS) (Q Q' : Int → cS → Prop), rec i a b c A Q → (∀ (e : Int) (A' : cS), ySm A A' [1, 2, 4, 5, 6, 10, 24, 25, 26, 27, 28, 29, 30, 31, 32, 33] [4, 5, 13, 14, 15, 16, 17, 18, 19, 20, 21, 22, 23, 24, 37, 38, 39, 40] → Q e A' → Q' e A') → rec i a b c A Q') {Q Q' : cS → Prop} {k50 k50' : cS → Int → Int → Int → Int → Prop} {s0 : cS} {x2 : Int} {x3 : Int} {x4 : Int} {x5 : Int} (hq : ∀ (A' : cS), ySm s0 A' [1, 2, 4, 5, 6, 10, 24, 25, 26, 27, 28, 29, 30, 31, 32, 33] [4, 5, 13, 14, 15, 16, 17, 18, 19, 20, 21, 22, 23, 24, 37, 38, 39, 40] → Q A' → Q' A') (fk50 : ∀ (A' : cS) (x0 : Int) (x1 : Int) (x2 : Int) (x3 : Int), ySm s0 A' [1, 2, 4, 5, 6, 10, 24, 25, 26, 27, 28, 29, 30, 31, 32, 33] [4, 5, 13, 14, 15, 16, 17, 18, 19, 20, 21, 22, 23, 24, 37, 38, 39, 40] → k50 A' x0 x1 x2 x3 → k50' A' x0 x1 x2 x3) (hw : wc_Coder_assignment_50B rec Q k50 s0 x2 x3 x4 x5) : wc_Coder_assignment_50B rec Q' k50' s0 x2 x3 x4 x5 := by
  unfold wc_Coder_assignment_50B at hw ⊢
  refine ⟨fun c1 => ?_, fun c1 => ?_⟩
  · have h2 := hw.1 c1
    exact hq _ ySm.rf h2
  · have h3 := hw.2 c1
    refine hrec _ _ _ _ _ _ _ h3 (fun r4 A5 f1 h11 => ?_)
    refine ffm_Tree_place h11 (fun r12 A13 f2 h19 => ?_)
    refine hrec _ _ _ _ _ _ _ h19 (fun r20 A21 f3 h27 => ?_)
    refine ffm_Coder_isByte h27 (fun r28 A29 f4 h35 => ?_)
    refine ⟨fun c36 => ?_, fun c36 => ?_⟩
    · have h37 := h35.1 c36
      refine ffm_Coder_emit h37 (fun r38 A39 f5 h45 => ?_)
      refine ffm_Tree_next h45 (fun r46 A47 f6 h53 => ?_)
      refine ffm_Tree_next h53 (fun r54 A55 f7 h61 => ?_)
      obtain ⟨o62, h63⟩ := h61
      refine ⟨o62, ?_⟩
      exact fk50 _ _ _ _ _ (((((((ySm.rf.tr f1 rfl rfl).tr f2 rfl rfl).tr f3 rfl rfl).tr f4 rfl rfl).tr f5 rfl rfl).tr f6 rfl rfl).tr f7 rfl rfl) h63
    · have h64 := h35.2 c36
      refine ffm_Coder_emit h64 (fun r65 A66 f8 h72 => ?_)
      refine ffm_Tree_next h72 (fun r73 A74 f9 h80 => ?_)
      refine ffm_Tree_next h80 (fun r81 A82 f10 h88 => ?_)
      obtain ⟨o89, h90⟩ := h88
      refine ⟨o89, ?_⟩
      exact fk50 _ _ _ _ _ (((((((ySm.rf.tr f1 rfl rfl).tr f2 rfl rfl).tr f3 rfl rfl).tr f4 rfl rfl).tr f8 rfl rfl).tr f9 rfl rfl).tr f10 rfl rfl) h90
theorem ffl_Coder_assignment_500 {rec : Nat → Int → Int → Int → cS → (Int → cS → Prop) → Prop} (hrec : ∀ (i : Nat) (a b c : Int) (A : cS) (Q Q' : Int → cS → Prop), rec i a b c A Q → (∀ (e : Int) (A' : cS), ySm A A' [1, 2, 4, 5, 6, 10, 24, 25, 26, 27, 28, 29, 30, 31, 32, 33] [4, 5, 13, 14, 15, 16, 17, 18, 19, 20, 21, 22, 23, 24, 37, 38, 39, 40] → Q e A' → Q' e A') → rec i a b c A Q') {Q Q' : cS → Prop}  : ∀ (m : Nat) (s0 : cS) (x2 : Int) (x3 : Int) (x4 : Int) (x5 : Int), (∀ (A' : cS), ySm s0 A' [1, 2, 4, 5, 6, 10, 24, 25, 26, 27, 28, 29, 30, 31, 32, 33] [4, 5, 13, 14, 15, 16, 17, 18, 19, 20, 21, 22, 23, 24, 37, 38, 39, 40] → Q A' → Q' A') → wc_Coder_assignment_50 rec Q  m s0 x2 x3 x4 x5 → wc_Coder_assignment_50 rec Q'  m s0 x2 x3 x4 x5 := by
  intro m
  induction m with
  | zero => intro s0 x2 x3 x4 x5 hq  hw; exact hw
  | succ m ih => intro s0 x2 x3 x4 x5 hq  hw; exact ffb_Coder_assignment_50 hrec hq  (fun A' y0 y1 y2 y3 f1 q => ih A' y0 y1 y2 y3 (fun A' f q => hq A' (f1.tr f rfl rfl) q)  q) hw
theorem ffb_Coder_assignment_24 {rec : Nat → Int → Int → Int → cS → (Int → cS → Prop) → Prop} (hrec : ∀ (i : Nat) (a b c : Int) (A : cS) (Q Q' : Int → cS → Prop), rec i a b c A Q → (∀ (e : Int) (A' : cS), ySm A A' [1, 2, 4, 5, 6, 10, 24, 25, 26, 27, 28, 29, 30, 31, 32, 33] [4, 5, 13, 14, 15, 16, 17, 18, 19, 20, 21, 22, 23, 24, 37, 38, 39, 40] → Q e A' → Q' e A') → rec i a b c A Q') {Q Q' : cS → Prop} {k24 k24' : cS → Int → Int → Int → Int → Prop} {s0 : cS} {x2 : Int} {x3 : Int} {x4 : Int} {x5 : Int} (hq : ∀ (A' : cS), ySm s0 A' [1, 2, 4, 5, 6, 10, 24, 25, 26, 27, 28, 29, 30, 31, 32, 33] [4, 5, 13, 14, 15, 16, 17, 18, 19, 20, 21, 22, 23, 24, 37, 38, 39, 40] → Q A' → Q' A') (fk24 : ∀ (A' : cS) (x0 : Int) (x1 : Int) (x2 : Int) (x3 : Int), ySm s0 A' [1, 2, 4, 5, 6, 10, 24, 25, 26, 27, 28, 29, 30, 31, 32, 33] [4, 5, 13, 14, 15, 16, 17, 18, 19, 20, 21, 22, 23, 24, 37, 38, 39, 40] → k24 A' x0 x1 x2 x3 → k24' A' x0 x1 x2 x3) (hw : wc_Coder_assignment_24B rec Q k24 s0 x2 x3 x4 x5) : wc_Coder_assignment_24B rec Q' k24' s0 x2 x3 x4 x5 := by
  unfold wc_Coder_assignment_24B at hw ⊢
  refine ⟨fun c1 => ?_, fun c1 => ?_⟩
  · have h2 := hw.1 c1
    obtain ⟨m3, h4⟩ := h2
    exact ⟨m3, ffl_Coder_assignment_500 hrec m3 _ _ _ _ _ (fun A' f q => hq A' (ySm.rf.tr f rfl rfl) q)  h4⟩
  · have h5 := hw.2 c1
    refine ffm_Tree_next h5 (fun r6 A7 f1 h13 => ?_)
    obtain ⟨o14, h15⟩ := h13
    refine ⟨o14, ?_⟩
    exact fk24 _ _ _ _ _ (ySm.rf.tr f1 rfl rfl) h15
theorem ffl_Coder_assignment_240 {rec : Nat → Int → Int → Int → cS → (Int → cS → Prop) → Prop} (hrec : ∀ (i : Nat) (a b c : Int) (A : cS) (Q Q' : Int → cS → Prop), rec i a b c A Q → (∀ (e : Int) (A' : cS), ySm A A' [1, 2, 4, 5, 6, 10, 24, 25, 26, 27, 28, 29, 30, 31, 32, 33] [4, 5, 13, 14, 15, 16, 17, 18, 19, 20, 21, 22, 23, 24, 37, 38, 39, 40] → Q e A' → Q' e A') → rec i a b c A Q') {Q Q' : cS → Prop}  : ∀ (m : Nat) (s0 : cS) (x2 : Int) (x3 : Int) (x4 : Int) (x5 : Int), (∀ (A' : cS), ySm s0 A' [1, 2, 4, 5, 6, 10, 24, 25, 26, 27, 28, 29, 30, 31, 32, 33] [4, 5, 13, 14, 15, 16, 17, 18, 19, 20, 21, 22, 23, 24, 37, 38, 39, 40] → Q A' → Q' A') → wc_Coder_assignment_24 rec Q  m s0 x2 x3 x4 x5 → wc_Coder_assignment_24 rec Q'  m s0 x2 x3 x4 x5 := by
  intro m
  induction m with
  | zero => intro s0 x2 x3 x4 x5 hq  hw; exact hw
  | succ m ih => intro s0 x2 x3 x4 x5 hq  hw; exact ffb_Coder_assignment_24 hrec hq  (fun A' y0 y1 y2 y3 f1 q => ih A' y0 y1 y2 y3 (fun A' f q => hq A' (f1.tr f rfl rfl) q)  q) hw
theorem ffm_Coder_assignment {rec : Nat → Int → Int → Int → cS → (Int → cS → Prop) → Prop} (hrec : ∀ (i : Nat) (a b c : Int) (A : cS) (Q Q' : Int → cS → Prop), rec i a b c A Q → (∀ (e : Int) (A' : cS), ySm A A' [1, 2, 4, 5, 6, 10, 24, 25, 26, 27, 28, 29, 30, 31, 32, 33] [4, 5, 13, 14, 15, 16, 17, 18, 19, 20, 21, 22, 23, 24, 37, 38, 39, 40] → Q e A' → Q' e A') → rec i a b c A Q') {s0 : cS} {a0 : Int} {Q Q' : cS → Prop} (hw : wc_Coder_assignment rec s0 a0 Q) (hq : ∀ (A' : cS), ySm s0 A' [1, 2, 4, 5, 6, 10, 24, 25, 26, 27, 28, 29, 30, 31, 32, 33] [4, 5, 13, 14, 15, 16, 17, 18, 19, 20, 21, 22, 23, 24, 37, 38, 39, 40] → Q A' → Q' A') : wc_Coder_assignment rec s0 a0 Q' := by
  unfold wc_Coder_assignment at hw ⊢
  refine ffm_Tree_data hw (fun r1 A2 f1 h8 => ?_)
  refine ffm_Tree_first h8 (fun r9 A10 f2 h16 => ?_)
  obtain ⟨m17, h18⟩ := h16
  exact ⟨m17, ffl_Coder_assignment_240 hrec m17 _ _ _ _ _ (fun A' f q => hq A' (((ySm.rf.tr f1 rfl rfl).tr f2 rfl rfl).tr f rfl rfl) q)  h18⟩
theorem ffj_Coder_conditional_46 {rec : Nat → Int → Int → Int → cS → (Int → cS → Prop) → Prop} (hrec : ∀ (i : Nat) (a b c : Int) (A : cS) (Q Q' : Int → cS → Prop), rec i a b c A Q → (∀ (e : Int) (A' : cS), ySm A A' [1, 2, 4, 5, 6, 10, 24, 25, 26, 27, 28, 29, 30, 31, 32, 33] [4, 5, 13, 14, 15, 16, 17, 18, 19, 20, 21, 22, 23, 24, 37, 38, 39, 40] → Q e A' → Q' e A') → rec i a b c A Q') {Q Q' : cS → Prop}  {s0 : cS} {x1 : Int} {x3 : Int} {y0 : Int} (hq : ∀ (A' : cS), ySm s0 A' [1, 2, 4, 5, 6, 10, 24, 25, 26, 27, 28, 29, 30, 31, 32, 33] [4, 5, 13, 14, 15, 16, 17, 18, 19, 20, 21, 22, 23, 24, 37, 38, 39, 40] → Q A' → Q' A')  (hw : wc_Coder_conditional_46 rec Q  s0 x1 x3 y0) : wc_Coder_conditional_46 rec Q'  s0 x1 x3 y0 := by
  unfold wc_Coder_conditional_46 at hw ⊢
  refine ffm_Coder_emit hw (fun r1 A2 f1 h8 => ?_)
  refine hrec _ _ _ _ _ _ _ h8 (fun r9 A10 f2 h16 => ?_)
  refine ffm_Tree_kind h16 (fun r17 A18 f3 h24 => ?_)
  refine ⟨fun c25 => ?_, fun c25 => ?_⟩
  · have h26 := h24.1 c25
    refine ffm_Program_land h26 (fun A28 f4 h34 => ?_)
    exact hq _ ((((ySm.rf.tr f1 rfl rfl).tr f2 rfl rfl).tr f3 rfl rfl).tr f4 rfl rfl) h34
  · have h35 := h24.2 c25
    refine ffm_Coder_emit h35 (fun r36 A37 f5 h43 => ?_)
    refine ffm_Program_land h43 (fun A45 f6 h51 => ?_)
    refine ffm_Tree_next h51 (fun r52 A53 f7 h59 => ?_)
    refine hrec _ _ _ _ _ _ _ h59 (fun r60 A61 f8 h67 => ?_)
    refine ffm_Program_land h67 (fun A69 f9 h75 => ?_)
    exact hq _ ((((((((ySm.rf.tr f1 rfl rfl).tr f2 rfl rfl).tr f3 rfl rfl).tr f5 rfl rfl).tr f6 rfl rfl).tr f7 rfl rfl).tr f8 rfl rfl).tr f9 rfl rfl) h75
theorem ffm_Coder_conditional {rec : Nat → Int → Int → Int → cS → (Int → cS → Prop) → Prop} (hrec : ∀ (i : Nat) (a b c : Int) (A : cS) (Q Q' : Int → cS → Prop), rec i a b c A Q → (∀ (e : Int) (A' : cS), ySm A A' [1, 2, 4, 5, 6, 10, 24, 25, 26, 27, 28, 29, 30, 31, 32, 33] [4, 5, 13, 14, 15, 16, 17, 18, 19, 20, 21, 22, 23, 24, 37, 38, 39, 40] → Q e A' → Q' e A') → rec i a b c A Q') {s0 : cS} {a0 : Int} {Q Q' : cS → Prop} (hw : wc_Coder_conditional rec s0 a0 Q) (hq : ∀ (A' : cS), ySm s0 A' [1, 2, 4, 5, 6, 10, 24, 25, 26, 27, 28, 29, 30, 31, 32, 33] [4, 5, 13, 14, 15, 16, 17, 18, 19, 20, 21, 22, 23, 24, 37, 38, 39, 40] → Q A' → Q' A') : wc_Coder_conditional rec s0 a0 Q' := by
  unfold wc_Coder_conditional at hw ⊢
  refine ffm_Tree_first hw (fun r1 A2 f1 h8 => ?_)
  refine ffm_Tree_next h8 (fun r9 A10 f2 h16 => ?_)
  refine hrec _ _ _ _ _ _ _ h16 (fun r17 A18 f3 h24 => ?_)
  refine ffm_Tree_kind h24 (fun r25 A26 f4 h32 => ?_)
  refine ⟨fun c33 => ?_, fun c33 => ?_⟩
  · have h34 := h32.1 c33
    exact ffj_Coder_conditional_46 hrec (fun A' f q => hq A' (((((ySm.rf.tr f1 rfl rfl).tr f2 rfl rfl).tr f3 rfl rfl).tr f4 rfl rfl).tr f rfl rfl) q)  h34
  · have h35 := h32.2 c33
    exact ffj_Coder_conditional_46 hrec (fun A' f q => hq A' (((((ySm.rf.tr f1 rfl rfl).tr f2 rfl rfl).tr f3 rfl rfl).tr f4 rfl rfl).tr f rfl rfl) q)  h35
theorem ffj_Coder_asking_67 {rec : Nat → Int → Int → Int → cS → (Int → cS → Prop) → Prop} (hrec : ∀ (i : Nat) (a b c : Int) (A : cS) (Q Q' : Int → cS → Prop), rec i a b c A Q → (∀ (e : Int) (A' : cS), ySm A A' [1, 2, 4, 5, 6, 10, 24, 25, 26, 27, 28, 29, 30, 31, 32, 33] [4, 5, 13, 14, 15, 16, 17, 18, 19, 20, 21, 22, 23, 24, 37, 38, 39, 40] → Q e A' → Q' e A') → rec i a b c A Q') {Q Q' : cS → Prop}  {s0 : cS} {x2 : Int} {x3 : Int} {x4 : Int} {x5 : Int} {y0 : Int} (hq : ∀ (A' : cS), ySm s0 A' [1, 2, 4, 5, 6, 10, 24, 25, 26, 27, 28, 29, 30, 31, 32, 33] [4, 5, 13, 14, 15, 16, 17, 18, 19, 20, 21, 22, 23, 24, 37, 38, 39, 40] → Q A' → Q' A')  (hw : wc_Coder_asking_67 rec Q  s0 x2 x3 x4 x5 y0) : wc_Coder_asking_67 rec Q'  s0 x2 x3 x4 x5 y0 := by
  unfold wc_Coder_asking_67 at hw ⊢
  refine ffm_Coder_emit hw (fun r1 A2 f1 h8 => ?_)
  refine ffm_Tree_next h8 (fun r31 A32 f2 h38 => ?_)
  refine hrec _ _ _ _ _ _ _ h38 (fun r39 A40 f3 h46 => ?_)
  refine ffm_Coder_emit h46 (fun r47 A48 f4 h54 => ?_)
  refine ffm_Program_landAt h54 (fun A56 f5 h62 => ?_)
  refine ffm_Program_land h62 (fun A64 f6 h70 => ?_)
  exact hq _ ((((((((((ySm.rf.tr f1 rfl rfl).pv rfl).pv rfl).tr f2 rfl rfl).tr f3 rfl rfl).tr f4 rfl rfl).tr f5 rfl rfl).tr f6 rfl rfl).pv rfl).pv rfl) h70
theorem ffm_Coder_asking {rec : Nat → Int → Int → Int → cS → (Int → cS → Prop) → Prop} (hrec : ∀ (i : Nat) (a b c : Int) (A : cS) (Q Q' : Int → cS → Prop), rec i a b c A Q → (∀ (e : Int) (A' : cS), ySm A A' [1, 2, 4, 5, 6, 10, 24, 25, 26, 27, 28, 29, 30, 31, 32, 33] [4, 5, 13, 14, 15, 16, 17, 18, 19, 20, 21, 22, 23, 24, 37, 38, 39, 40] → Q e A' → Q' e A') → rec i a b c A Q') {s0 : cS} {a0 : Int} {Q Q' : cS → Prop} (hw : wc_Coder_asking rec s0 a0 Q) (hq : ∀ (A' : cS), ySm s0 A' [1, 2, 4, 5, 6, 10, 24, 25, 26, 27, 28, 29, 30, 31, 32, 33] [4, 5, 13, 14, 15, 16, 17, 18, 19, 20, 21, 22, 23, 24, 37, 38, 39, 40] → Q A' → Q' A') : wc_Coder_asking rec s0 a0 Q' := by
  unfold wc_Coder_asking at hw ⊢
  refine ffm_Tree_first hw (fun r1 A2 f1 h8 => ?_)
  refine ffm_Program_here h8 (fun r9 A10 f2 h16 => ?_)
  refine ffm_Coder_emit h16 (fun r17 A18 f3 h24 => ?_)
  refine hrec _ _ _ _ _ _ _ h24 (fun r25 A26 f4 h32 => ?_)
  refine ffm_Tree_kind h32 (fun r33 A34 f5 h40 => ?_)
  refine ⟨fun c41 => ?_, fun c41 => ?_⟩
  · have h42 := h40.1 c41
    exact ffj_Coder_asking_67 hrec (fun A' f q => hq A' ((((((ySm.rf.tr f1 rfl rfl).tr f2 rfl rfl).tr f3 rfl rfl).tr f4 rfl rfl).tr f5 rfl rfl).tr f rfl rfl) q)  h42
  · have h43 := h40.2 c41
    exact ffj_Coder_asking_67 hrec (fun A' f q => hq A' ((((((ySm.rf.tr f1 rfl rfl).tr f2 rfl rfl).tr f3 rfl rfl).tr f4 rfl rfl).tr f5 rfl rfl).tr f rfl rfl) q)  h43
theorem ffb_Coder_repeats_59 {rec : Nat → Int → Int → Int → cS → (Int → cS → Prop) → Prop} (hrec : ∀ (i : Nat) (a b c : Int) (A : cS) (Q Q' : Int → cS → Prop), rec i a b c A Q → (∀ (e : Int) (A' : cS), ySm A A' [1, 2, 4, 5, 6, 10, 24, 25, 26, 27, 28, 29, 30, 31, 32, 33] [4, 5, 13, 14, 15, 16, 17, 18, 19, 20, 21, 22, 23, 24, 37, 38, 39, 40] → Q e A' → Q' e A') → rec i a b c A Q') {Q Q' : cS → Prop} {k59 k59' : cS → Int → Int → Int → Int → Int → Prop} {s0 : cS} {x2 : Int} {x3 : Int} {x5 : Int} {x6 : Int} {x7 : Int} (hq : ∀ (A' : cS), ySm s0 A' [1, 2, 4, 5, 6, 10, 24, 25, 26, 27, 28, 29, 30, 31, 32, 33] [4, 5, 13, 14, 15, 16, 17, 18, 19, 20, 21, 22, 23, 24, 37, 38, 39, 40] → Q A' → Q' A') (fk59 : ∀ (A' : cS) (x0 : Int) (x1 : Int) (x2 : Int) (x3 : Int) (x4 : Int), ySm s0 A' [1, 2, 4, 5, 6, 10, 24, 25, 26, 27, 28, 29, 30, 31, 32, 33] [4, 5, 13, 14, 15, 16, 17, 18, 19, 20, 21, 22, 23, 24, 37, 38, 39, 40] → k59 A' x0 x1 x2 x3 x4 → k59' A' x0 x1 x2 x3 x4) (hw : wc_Coder_repeats_59B rec Q k59 s0 x2 x3 x5 x6 x7) : wc_Coder_repeats_59B rec Q' k59' s0 x2 x3 x5 x6 x7 := by
  unfold wc_Coder_repeats_59B at hw ⊢
  refine ⟨fun c1 => ?_, fun c1 => ?_⟩
  · have h2 := hw.1 c1
    exact hq _ ((ySm.rf.pv rfl).pv rfl) h2
  · have h25 := hw.2 c1
    refine ⟨fun c26 => ?_, fun c26 => ?_⟩
    · have h27 := h25.1 c26
      exact hq _ ((ySm.rf.pv rfl).pv rfl) h27
    · have h50 := h25.2 c26
      refine ffm_Program_land h50 (fun A52 f1 h58 => ?_)
      refine ffm_Coder_emit h58 (fun r59 A60 f2 h66 => ?_)
      refine ffm_Tree_first h66 (fun r67 A68 f3 h74 => ?_)
      refine ⟨fun c75 => ?_, fun c75 => ?_⟩
      · have h76 := h74.1 c75
        refine hrec _ _ _ _ _ _ _ h76 (fun r77 A78 f4 h84 => ?_)
        refine ffm_Tree_kind h84 (fun r85 A86 f5 h92 => ?_)
        refine ⟨fun c93 => ?_, fun c93 => ?_⟩
        · have h94 := h92.1 c93
          refine ffm_Coder_emit h94 (fun r95 A96 f6 h102 => ?_)
          refine ffm_Program_land h102 (fun A104 f7 h110 => ?_)
          refine ffm_Tree_next h110 (fun r133 A134 f8 h140 => ?_)
          obtain ⟨o141, h142⟩ := h140
          refine ⟨o141, ?_⟩
          exact fk59 _ _ _ _ _ _ ((((((((((ySm.rf.tr f1 rfl rfl).tr f2 rfl rfl).tr f3 rfl rfl).tr f4 rfl rfl).tr f5 rfl rfl).tr f6 rfl rfl).tr f7 rfl rfl).pv rfl).pv rfl).tr f8 rfl rfl) h142
        · have h143 := h92.2 c93
          refine ffm_Coder_emit h143 (fun r144 A145 f9 h151 => ?_)
          refine ffm_Program_land h151 (fun A153 f10 h159 => ?_)
          refine ffm_Tree_next h159 (fun r182 A183 f11 h189 => ?_)
          obtain ⟨o190, h191⟩ := h189
          refine ⟨o190, ?_⟩
          exact fk59 _ _ _ _ _ _ ((((((((((ySm.rf.tr f1 rfl rfl).tr f2 rfl rfl).tr f3 rfl rfl).tr f4 rfl rfl).tr f5 rfl rfl).tr f9 rfl rfl).tr f10 rfl rfl).pv rfl).pv rfl).tr f11 rfl rfl) h191
      · have h192 := h74.2 c75
        refine ffm_Coder_emit h192 (fun r193 A194 f12 h200 => ?_)
        refine ffm_Program_land h200 (fun A202 f13 h208 => ?_)
        refine ffm_Tree_next h208 (fun r231 A232 f14 h238 => ?_)
        obtain ⟨o239, h240⟩ := h238
        refine ⟨o239, ?_⟩
        exact fk59 _ _ _ _ _ _ ((((((((ySm.rf.tr f1 rfl rfl).tr f2 rfl rfl).tr f3 rfl rfl).tr f12 rfl rfl).tr f13 rfl rfl).pv rfl).pv rfl).tr f14 rfl rfl) h240
theorem ffl_Coder_repeats_590 {rec : Nat → Int → Int → Int → cS → (Int → cS → Prop) → Prop} (hrec : ∀ (i : Nat) (a b c : Int) (A : cS) (Q Q' : Int → cS → Prop), rec i a b c A Q → (∀ (e : Int) (A' : cS), ySm A A' [1, 2, 4, 5, 6, 10, 24, 25, 26, 27, 28, 29, 30, 31, 32, 33] [4, 5, 13, 14, 15, 16, 17, 18, 19, 20, 21, 22, 23, 24, 37, 38, 39, 40] → Q e A' → Q' e A') → rec i a b c A Q') {Q Q' : cS → Prop}  : ∀ (m : Nat) (s0 : cS) (x2 : Int) (x3 : Int) (x5 : Int) (x6 : Int) (x7 : Int), (∀ (A' : cS), ySm s0 A' [1, 2, 4, 5, 6, 10, 24, 25, 26, 27, 28, 29, 30, 31, 32, 33] [4, 5, 13, 14, 15, 16, 17, 18, 19, 20, 21, 22, 23, 24, 37, 38, 39, 40] → Q A' → Q' A') → wc_Coder_repeats_59 rec Q  m s0 x2 x3 x5 x6 x7 → wc_Coder_repeats_59 rec Q'  m s0 x2 x3 x5 x6 x7 := by
  intro m
  induction m with
  | zero => intro s0 x2 x3 x5 x6 x7 hq  hw; exact hw
  | succ m ih => intro s0 x2 x3 x5 x6 x7 hq  hw; exact ffb_Coder_repeats_59 hrec hq  (fun A' y0 y1 y2 y3 y4 f1 q => ih A' y0 y1 y2 y3 y4 (fun A' f q => hq A' (f1.tr f rfl rfl) q)  q) hw
theorem ffm_Coder_repeats {rec : Nat → Int → Int → Int → cS → (Int → cS → Prop) → Prop} (hrec : ∀ (i : Nat) (a b c : Int) (A : cS) (Q Q' : Int → cS → Prop), rec i a b c A Q → (∀ (e : Int) (A' : cS), ySm A A' [1, 2, 4, 5, 6, 10, 24, 25, 26, 27, 28, 29, 30, 31, 32, 33] [4, 5, 13, 14, 15, 16, 17, 18, 19, 20, 21, 22, 23, 24, 37, 38, 39, 40] → Q e A' → Q' e A') → rec i a b c A Q') {s0 : cS} {a0 : Int} {Q Q' : cS → Prop} (hw : wc_Coder_repeats rec s0 a0 Q) (hq : ∀ (A' : cS), ySm s0 A' [1, 2, 4, 5, 6, 10, 24, 25, 26, 27, 28, 29, 30, 31, 32, 33] [4, 5, 13, 14, 15, 16, 17, 18, 19, 20, 21, 22, 23, 24, 37, 38, 39, 40] → Q A' → Q' A') : wc_Coder_repeats rec s0 a0 Q' := by
  unfold wc_Coder_repeats at hw ⊢
  refine ffm_Tree_first hw (fun r1 A2 f1 h8 => ?_)
  refine ffm_Program_here h8 (fun r9 A10 f2 h16 => ?_)
  refine hrec _ _ _ _ _ _ _ h16 (fun r39 A40 f3 h46 => ?_)
  refine ffm_Tree_next h46 (fun r47 A48 f4 h54 => ?_)
  obtain ⟨m55, h56⟩ := h54
  exact ⟨m55, ffl_Coder_repeats_590 hrec m55 _ _ _ _ _ _ (fun A' f q => hq A' (((((((ySm.rf.tr f1 rfl rfl).tr f2 rfl rfl).pv rfl).pv rfl).tr f3 rfl rfl).tr f4 rfl rfl).tr f rfl rfl) q)  h56⟩
theorem ffj_Coder_counting_199 {rec : Nat → Int → Int → Int → cS → (Int → cS → Prop) → Prop} (hrec : ∀ (i : Nat) (a b c : Int) (A : cS) (Q Q' : Int → cS → Prop), rec i a b c A Q → (∀ (e : Int) (A' : cS), ySm A A' [1, 2, 4, 5, 6, 10, 24, 25, 26, 27, 28, 29, 30, 31, 32, 33] [4, 5, 13, 14, 15, 16, 17, 18, 19, 20, 21, 22, 23, 24, 37, 38, 39, 40] → Q e A' → Q' e A') → rec i a b c A Q') {Q Q' : cS → Prop}  {s0 : cS} {x2 : Int} {x3 : Int} {x4 : Int} {x6 : Int} {x7 : Int} {x8 : Int} {y0 : Int} {y1 : Int} (hq : ∀ (A' : cS), ySm s0 A' [1, 2, 4, 5, 6, 10, 24, 25, 26, 27, 28, 29, 30, 31, 32, 33] [4, 5, 13, 14, 15, 16, 17, 18, 19, 20, 21, 22, 23, 24, 37, 38, 39, 40] → Q A' → Q' A')  (hw : wc_Coder_counting_199 rec Q  s0 x2 x3 x4 x6 x7 x8 y0 y1) : wc_Coder_counting_199 rec Q'  s0 x2 x3 x4 x6 x7 x8 y0 y1 := by
  unfold wc_Coder_counting_199 at hw ⊢
  obtain ⟨o1, h2⟩ := hw
  refine ⟨o1, ?_⟩
  refine ffm_Coder_emit h2 (fun r3 A4 f1 h10 => ?_)
  refine ffm_Coder_emit h10 (fun r11 A12 f2 h18 => ?_)
  refine ffm_Tree_next h18 (fun r41 A42 f3 h48 => ?_)
  refine hrec _ _ _ _ _ _ _ h48 (fun r49 A50 f4 h56 => ?_)
  refine ffm_Program_land h56 (fun A58 f5 h64 => ?_)
  refine ffm_Coder_emit h64 (fun r65 A66 f6 h72 => ?_)
  refine ffm_Coder_emit h72 (fun r73 A74 f7 h80 => ?_)
  refine ffm_Coder_emit h80 (fun r81 A82 f8 h88 => ?_)
  refine ffm_Coder_emit h88 (fun r89 A90 f9 h96 => ?_)
  refine ffm_Coder_emit h96 (fun r97 A98 f10 h104 => ?_)
  refine ffm_Program_land h104 (fun A106 f11 h112 => ?_)
  refine ffm_Scope_close h112 (fun A114 f12 h120 => ?_)
  exact hq _ (((((((((((((((((ySm.rf.tr f1 rfl rfl).tr f2 rfl rfl).pv rfl).pv rfl).tr f3 rfl rfl).tr f4 rfl rfl).tr f5 rfl rfl).tr f6 rfl rfl).tr f7 rfl rfl).tr f8 rfl rfl).tr f9 rfl rfl).tr f10 rfl rfl).tr f11 rfl rfl).tr f12 rfl rfl).pv rfl).pv rfl).pv rfl) h120
theorem ffj_Coder_counting_68 {rec : Nat → Int → Int → Int → cS → (Int → cS → Prop) → Prop} (hrec : ∀ (i : Nat) (a b c : Int) (A : cS) (Q Q' : Int → cS → Prop), rec i a b c A Q → (∀ (e : Int) (A' : cS), ySm A A' [1, 2, 4, 5, 6, 10, 24, 25, 26, 27, 28, 29, 30, 31, 32, 33] [4, 5, 13, 14, 15, 16, 17, 18, 19, 20, 21, 22, 23, 24, 37, 38, 39, 40] → Q e A' → Q' e A') → rec i a b c A Q') {Q Q' : cS → Prop}  {s0 : cS} {x1 : Int} {x2 : Int} {x3 : Int} {x4 : Int} {x5 : Int} {x6 : Int} {y0 : Int} (hq : ∀ (A' : cS), ySm s0 A' [1, 2, 4, 5, 6, 10, 24, 25, 26, 27, 28, 29, 30, 31, 32, 33] [4, 5, 13, 14, 15, 16, 17, 18, 19, 20, 21, 22, 23, 24, 37, 38, 39, 40] → Q A' → Q' A')  (hw : wc_Coder_counting_68 rec Q  s0 x1 x2 x3 x4 x5 x6 y0) : wc_Coder_counting_68 rec Q'  s0 x1 x2 x3 x4 x5 x6 y0 := by
  unfold wc_Coder_counting_68 at hw ⊢
  refine hrec _ _ _ _ _ _ _ hw (fun r1 A2 f1 h8 => ?_)
  refine hrec _ _ _ _ _ _ _ h8 (fun r9 A10 f2 h16 => ?_)
  obtain ⟨o17, h18⟩ := h16
  refine ⟨o17, ?_⟩
  refine ffm_Coder_emit h18 (fun r19 A20 f3 h26 => ?_)
  refine ffm_Coder_emit h26 (fun r27 A28 f4 h34 => ?_)
  refine ffm_Coder_take h34 (fun A36 f5 h42 => ?_)
  refine ffm_Scope_open h42 (fun A44 f6 h50 => ?_)
  refine ffm_Tree_data h50 (fun r51 A52 f7 h58 => ?_)
  refine ffm_Tree_place h58 (fun r59 A60 f8 h66 => ?_)
  refine ffm_Scope_declare h66 (fun r67 A68 f9 h74 => ?_)
  refine ffm_Program_here h74 (fun r75 A76 f10 h82 => ?_)
  refine ffm_Coder_emit h82 (fun r83 A84 f11 h90 => ?_)
  refine ffm_Coder_emit h90 (fun r91 A92 f12 h98 => ?_)
  refine ffm_Coder_emit h98 (fun r99 A100 f13 h106 => ?_)
  refine ⟨fun c107 => ?_, fun c107 => ?_⟩
  · have h108 := h106.1 c107
    exact ffj_Coder_counting_199 hrec (fun A' f q => hq A' ((((((((((((((ySm.rf.tr f1 rfl rfl).tr f2 rfl rfl).tr f3 rfl rfl).tr f4 rfl rfl).tr f5 rfl rfl).tr f6 rfl rfl).tr f7 rfl rfl).tr f8 rfl rfl).tr f9 rfl rfl).tr f10 rfl rfl).tr f11 rfl rfl).tr f12 rfl rfl).tr f13 rfl rfl).tr f rfl rfl) q)  h108
  · have h109 := h106.2 c107
    exact ffj_Coder_counting_199 hrec (fun A' f q => hq A' ((((((((((((((ySm.rf.tr f1 rfl rfl).tr f2 rfl rfl).tr f3 rfl rfl).tr f4 rfl rfl).tr f5 rfl rfl).tr f6 rfl rfl).tr f7 rfl rfl).tr f8 rfl rfl).tr f9 rfl rfl).tr f10 rfl rfl).tr f11 rfl rfl).tr f12 rfl rfl).tr f13 rfl rfl).tr f rfl rfl) q)  h109
theorem ffm_Coder_counting {rec : Nat → Int → Int → Int → cS → (Int → cS → Prop) → Prop} (hrec : ∀ (i : Nat) (a b c : Int) (A : cS) (Q Q' : Int → cS → Prop), rec i a b c A Q → (∀ (e : Int) (A' : cS), ySm A A' [1, 2, 4, 5, 6, 10, 24, 25, 26, 27, 28, 29, 30, 31, 32, 33] [4, 5, 13, 14, 15, 16, 17, 18, 19, 20, 21, 22, 23, 24, 37, 38, 39, 40] → Q e A' → Q' e A') → rec i a b c A Q') {s0 : cS} {a0 : Int} {Q Q' : cS → Prop} (hw : wc_Coder_counting rec s0 a0 Q) (hq : ∀ (A' : cS), ySm s0 A' [1, 2, 4, 5, 6, 10, 24, 25, 26, 27, 28, 29, 30, 31, 32, 33] [4, 5, 13, 14, 15, 16, 17, 18, 19, 20, 21, 22, 23, 24, 37, 38, 39, 40] → Q A' → Q' A') : wc_Coder_counting rec s0 a0 Q' := by
  unfold wc_Coder_counting at hw ⊢
  refine ffm_Tree_first hw (fun r1 A2 f1 h8 => ?_)
  refine ffm_Tree_next h8 (fun r9 A10 f2 h16 => ?_)
  refine ffm_Tree_extra h16 (fun r17 A18 f3 h24 => ?_)
  refine ⟨fun c25 => ?_, fun c25 => ?_⟩
  · have h26 := h24.1 c25
    refine ffm_Tree_extra h26 (fun r27 A28 f4 h34 => ?_)
    refine ffm_Constants_number h34 (fun r35 A36 f5 h42 => ?_)
    exact ffj_Coder_counting_68 hrec (fun A' f q => hq A' ((((((ySm.rf.tr f1 rfl rfl).tr f2 rfl rfl).tr f3 rfl rfl).tr f4 rfl rfl).tr f5 rfl rfl).tr f rfl rfl) q)  h42
  · have h43 := h24.2 c25
    exact ffj_Coder_counting_68 hrec (fun A' f q => hq A' ((((ySm.rf.tr f1 rfl rfl).tr f2 rfl rfl).tr f3 rfl rfl).tr f rfl rfl) q)  h43
theorem ffb_Coder_switching_106 {rec : Nat → Int → Int → Int → cS → (Int → cS → Prop) → Prop} (hrec : ∀ (i : Nat) (a b c : Int) (A : cS) (Q Q' : Int → cS → Prop), rec i a b c A Q → (∀ (e : Int) (A' : cS), ySm A A' [1, 2, 4, 5, 6, 10, 24, 25, 26, 27, 28, 29, 30, 31, 32, 33] [4, 5, 13, 14, 15, 16, 17, 18, 19, 20, 21, 22, 23, 24, 37, 38, 39, 40] → Q e A' → Q' e A') → rec i a b c A Q') {Q Q' : cS → Prop} {k106 k106' : cS → Int → Int → Int → Int → Prop} {s0 : cS} {x2 : Int} {x3 : Int} {x4 : Int} {x7 : Int} (hq : ∀ (A' : cS), ySm s0 A' [1, 2, 4, 5, 6, 10, 24, 25, 26, 27, 28, 29, 30, 31, 32, 33] [4, 5, 13, 14, 15, 16, 17, 18, 19, 20, 21, 22, 23, 24, 37, 38, 39, 40] → Q A' → Q' A') (fk106 : ∀ (A' : cS) (x0 : Int) (x1 : Int) (x2 : Int) (x3 : Int), ySm s0 A' [1, 2, 4, 5, 6, 10, 24, 25, 26, 27, 28, 29, 30, 31, 32, 33] [4, 5, 13, 14, 15, 16, 17, 18, 19, 20, 21, 22, 23, 24, 37, 38, 39, 40] → k106 A' x0 x1 x2 x3 → k106' A' x0 x1 x2 x3) (hw : wc_Coder_switching_106B rec Q k106 s0 x2 x3 x4 x7) : wc_Coder_switching_106B rec Q' k106' s0 x2 x3 x4 x7 := by
  unfold wc_Coder_switching_106B at hw ⊢
  refine ⟨fun c1 => ?_, fun c1 => ?_⟩
  · have h2 := hw.1 c1
    refine ffm_Coder_emit h2 (fun r3 A4 f1 h10 => ?_)
    refine ⟨fun c11 => ?_, fun c11 => ?_⟩
    · have h12 := h10.1 c11
      refine ffm_Program_land h12 (fun A14 f2 h20 => ?_)
      exact hq _ ((((((ySm.rf.tr f1 rfl rfl).tr f2 rfl rfl).cut rfl).pv rfl).pv rfl).pv rfl) h20
    · have h58 := h10.2 c11
      refine ffm_Coder_emit h58 (fun r59 A60 f3 h66 => ?_)
      refine ffm_Program_land h66 (fun A68 f4 h74 => ?_)
      exact hq _ (((((((ySm.rf.tr f1 rfl rfl).tr f3 rfl rfl).tr f4 rfl rfl).cut rfl).pv rfl).pv rfl).pv rfl) h74
  · have h112 := hw.2 c1
    refine ffm_Coder_emit h112 (fun r113 A114 f5 h120 => ?_)
    obtain ⟨o121, h122⟩ := h120
    refine ⟨o121, ?_⟩
    refine ffm_Coder_emit h122 (fun r123 A124 f6 h130 => ?_)
    obtain ⟨o131, h132⟩ := h130
    refine ⟨o131, ?_⟩
    exact fk106 _ _ _ _ _ ((ySm.rf.tr f5 rfl rfl).tr f6 rfl rfl) h132
theorem ffl_Coder_switching_1060 {rec : Nat → Int → Int → Int → cS → (Int → cS → Prop) → Prop} (hrec : ∀ (i : Nat) (a b c : Int) (A : cS) (Q Q' : Int → cS → Prop), rec i a b c A Q → (∀ (e : Int) (A' : cS), ySm A A' [1, 2, 4, 5, 6, 10, 24, 25, 26, 27, 28, 29, 30, 31, 32, 33] [4, 5, 13, 14, 15, 16, 17, 18, 19, 20, 21, 22, 23, 24, 37, 38, 39, 40] → Q e A' → Q' e A') → rec i a b c A Q') {Q Q' : cS → Prop}  : ∀ (m : Nat) (s0 : cS) (x2 : Int) (x3 : Int) (x4 : Int) (x7 : Int), (∀ (A' : cS), ySm s0 A' [1, 2, 4, 5, 6, 10, 24, 25, 26, 27, 28, 29, 30, 31, 32, 33] [4, 5, 13, 14, 15, 16, 17, 18, 19, 20, 21, 22, 23, 24, 37, 38, 39, 40] → Q A' → Q' A') → wc_Coder_switching_106 rec Q  m s0 x2 x3 x4 x7 → wc_Coder_switching_106 rec Q'  m s0 x2 x3 x4 x7 := by
  intro m
  induction m with
  | zero => intro s0 x2 x3 x4 x7 hq  hw; exact hw
  | succ m ih => intro s0 x2 x3 x4 x7 hq  hw; exact ffb_Coder_switching_106 hrec hq  (fun A' y0 y1 y2 y3 f1 q => ih A' y0 y1 y2 y3 (fun A' f q => hq A' (f1.tr f rfl rfl) q)  q) hw
theorem ffm_Coder_switching {rec : Nat → Int → Int → Int → cS → (Int → cS → Prop) → Prop} (hrec : ∀ (i : Nat) (a b c : Int) (A : cS) (Q Q' : Int → cS → Prop), rec i a b c A Q → (∀ (e : Int) (A' : cS), ySm A A' [1, 2, 4, 5, 6, 10, 24, 25, 26, 27, 28, 29, 30, 31, 32, 33] [4, 5, 13, 14, 15, 16, 17, 18, 19, 20, 21, 22, 23, 24, 37, 38, 39, 40] → Q e A' → Q' e A') → rec i a b c A Q') {s0 : cS} {a0 : Int} {Q Q' : cS → Prop} (hw : wc_Coder_switching rec s0 a0 Q) (hq : ∀ (A' : cS), ySm s0 A' [1, 2, 4, 5, 6, 10, 24, 25, 26, 27, 28, 29, 30, 31, 32, 33] [4, 5, 13, 14, 15, 16, 17, 18, 19, 20, 21, 22, 23, 24, 37, 38, 39, 40] → Q A' → Q' A') : wc_Coder_switching rec s0 a0 Q' := by
  unfold wc_Coder_switching at hw ⊢
  refine ffm_Tree_first hw (fun r1 A2 f1 h8 => ?_)
  refine hrec _ _ _ _ _ _ _ h8 (fun r9 A10 f2 h16 => ?_)
  refine ffm_Coder_emit h16 (fun r17 A18 f3 h24 => ?_)
  refine ffm_Tree_next h24 (fun r58 A59 f4 h65 => ?_)
  refine hrec _ _ _ _ _ _ _ h65 (fun r66 A67 f5 h73 => ?_)
  refine ffm_Coder_emit h73 (fun r74 A75 f6 h81 => ?_)
  refine ffm_Program_land h81 (fun A94 f7 h100 => ?_)
  obtain ⟨m101, h102⟩ := h100
  exact ⟨m101, ffl_Coder_switching_1060 hrec m101 _ _ _ _ _ (fun A' f q => hq A' ((((((((((((ySm.rf.tr f1 rfl rfl).tr f2 rfl rfl).tr f3 rfl rfl).pv rfl).pv rfl).pv rfl).tr f4 rfl rfl).tr f5 rfl rfl).tr f6 rfl rfl).pv rfl).tr f7 rfl rfl).tr f rfl rfl) q)  h102⟩
theorem ffm_Coder_telling {rec : Nat → Int → Int → Int → cS → (Int → cS → Prop) → Prop} (hrec : ∀ (i : Nat) (a b c : Int) (A : cS) (Q Q' : Int → cS → Prop), rec i a b c A Q → (∀ (e : Int) (A' : cS), ySm A A' [1, 2, 4, 5, 6, 10, 24, 25, 26, 27, 28, 29, 30, 31, 32, 33] [4, 5, 13, 14, 15, 16, 17, 18, 19, 20, 21, 22, 23, 24, 37, 38, 39, 40] → Q e A' → Q' e A') → rec i a b c A Q') {s0 : cS} {a0 : Int} {Q Q' : cS → Prop} (hw : wc_Coder_telling rec s0 a0 Q) (hq : ∀ (A' : cS), ySm s0 A' [1, 2, 4, 5, 6, 10, 24, 25, 26, 27, 28, 29, 30, 31, 32, 33] [4, 5, 13, 14, 15, 16, 17, 18, 19, 20, 21, 22, 23, 24, 37, 38, 39, 40] → Q A' → Q' A') : wc_Coder_telling rec s0 a0 Q' := by
  unfold wc_Coder_telling at hw ⊢
  refine ffm_Tree_first hw (fun r1 A2 f1 h8 => ?_)
  refine hrec _ _ _ _ _ _ _ h8 (fun r9 A10 f2 h16 => ?_)
  refine ⟨fun c17 => ?_, fun c17 => ?_⟩
  · have h18 := h16.1 c17
    refine ffm_Coder_emit h18 (fun r19 A20 f3 h26 => ?_)
    exact hq _ ((((ySm.rf.tr f1 rfl rfl).tr f2 rfl rfl).tr f3 rfl rfl).pv rfl) h26
  · have h38 := h16.2 c17
    refine ffm_Tree_place h38 (fun r39 A40 f4 h46 => ?_)
    refine ffm_Program_blame h46 (fun A48 f5 h54 => ?_)
    exact hq _ ((((ySm.rf.tr f1 rfl rfl).tr f2 rfl rfl).tr f4 rfl rfl).tr f5 rfl rfl) h54
theorem ffj_Coder_expression_99 {rec : Nat → Int → Int → Int → cS → (Int → cS → Prop) → Prop} (hrec : ∀ (i : Nat) (a b c : Int) (A : cS) (Q Q' : Int → cS → Prop), rec i a b c A Q → (∀ (e : Int) (A' : cS), ySm A A' [1, 2, 4, 5, 6, 10, 24, 25, 26, 27, 28, 29, 30, 31, 32, 33] [4, 5, 13, 14, 15, 16, 17, 18, 19, 20, 21, 22, 23, 24, 37, 38, 39, 40] → Q e A' → Q' e A') → rec i a b c A Q') {Q Q' : cS → Prop} {k16 k16' : cS → Int → Int → Int → Int → Int → Prop} {s0 : cS} {x2 : Int} {x3 : Int} {x4 : Int} {x5 : Int} {x6 : Int} {x7 : Int} {x9 : Int} {y0 : Int} (hq : ∀ (A' : cS), ySm s0 A' [1, 2, 4, 5, 6, 10, 24, 25, 26, 27, 28, 29, 30, 31, 32, 33] [4, 5, 13, 14, 15, 16, 17, 18, 19, 20, 21, 22, 23, 24, 37, 38, 39, 40] → Q A' → Q' A') (fk16 : ∀ (A' : cS) (x0 : Int) (x1 : Int) (x2 : Int) (x3 : Int) (x4 : Int), ySm s0 A' [1, 2, 4, 5, 6, 10, 24, 25, 26, 27, 28, 29, 30, 31, 32, 33] [4, 5, 13, 14, 15, 16, 17, 18, 19, 20, 21, 22, 23, 24, 37, 38, 39, 40] → k16 A' x0 x1 x2 x3 x4 → k16' A' x0 x1 x2 x3 x4) (hw : wc_Coder_expression_99 rec Q k16 s0 x2 x3 x4 x5 x6 x7 x9 y0) : wc_Coder_expression_99 rec Q' k16' s0 x2 x3 x4 x5 x6 x7 x9 y0 := by
  unfold wc_Coder_expression_99 at hw ⊢
  refine ffm_Tree_kind hw (fun r1 A2 f1 h8 => ?_)
  refine ⟨fun g9 => ?_, ?_⟩
  · have h11 := (h8.1) g9
    refine hrec _ _ _ _ _ _ _ h11 (fun r12 A13 f2 h19 => ?_)
    refine ffm_Coder_unfit h19 (fun A21 f3 h27 => ?_)
    obtain ⟨o28, h29⟩ := h27
    refine ⟨o28, ?_⟩
    exact fk16 _ _ _ _ _ _ (((ySm.rf.tr f1 rfl rfl).tr f2 rfl rfl).tr f3 rfl rfl) h29
  · skip
    refine ⟨fun g30 => ?_, ?_⟩
    · have h32 := (h8.2.1) g30
      refine ffm_Coder_table h32 (fun A34 f4 h40 => ?_)
      refine ffm_Coder_unfit h40 (fun A42 f5 h48 => ?_)
      obtain ⟨o49, h50⟩ := h48
      refine ⟨o49, ?_⟩
      exact fk16 _ _ _ _ _ _ (((ySm.rf.tr f1 rfl rfl).tr f4 rfl rfl).tr f5 rfl rfl) h50
    · skip
      refine ⟨fun g51 => ?_, ?_⟩
      · have h53 := (h8.2.2.1) g51
        refine hrec _ _ _ _ _ _ _ h53 (fun r54 A55 f6 h61 => ?_)
        refine ffm_Coder_unfit h61 (fun A63 f7 h69 => ?_)
        obtain ⟨o70, h71⟩ := h69
        refine ⟨o70, ?_⟩
        exact fk16 _ _ _ _ _ _ (((ySm.rf.tr f1 rfl rfl).tr f6 rfl rfl).tr f7 rfl rfl) h71
      · skip
        refine ⟨fun g72 => ?_, ?_⟩
        · have h74 := (h8.2.2.2.1) g72
          refine ffm_Tree_first h74 (fun r75 A76 f8 h82 => ?_)
          refine hrec _ _ _ _ _ _ _ h82 (fun r83 A84 f9 h90 => ?_)
          obtain ⟨o91, h92⟩ := h90
          refine ⟨o91, ?_⟩
          exact fk16 _ _ _ _ _ _ (((ySm.rf.tr f1 rfl rfl).tr f8 rfl rfl).tr f9 rfl rfl) h92
        · skip
          refine ⟨fun g93 => ?_, ?_⟩
          · have h95 := (h8.2.2.2.2.1) g93
            refine hrec _ _ _ _ _ _ _ h95 (fun r96 A97 f10 h103 => ?_)
            refine ffm_Coder_unfit h103 (fun A105 f11 h111 => ?_)
            obtain ⟨o112, h113⟩ := h111
            refine ⟨o112, ?_⟩
            exact fk16 _ _ _ _ _ _ (((ySm.rf.tr f1 rfl rfl).tr f10 rfl rfl).tr f11 rfl rfl) h113
          · skip
            refine ⟨fun g114 => ?_, ?_⟩
            · have h116 := (h8.2.2.2.2.2.1) g114
              refine ffm_Coder_sign h116 (fun r117 A118 f12 h124 => ?_)
              refine ffm_Coder_unfit h124 (fun A126 f13 h132 => ?_)
              obtain ⟨o133, h134⟩ := h132
              refine ⟨o133, ?_⟩
              exact fk16 _ _ _ _ _ _ (((ySm.rf.tr f1 rfl rfl).tr f12 rfl rfl).tr f13 rfl rfl) h134
            · skip
              intro ng9 ng30 ng51 ng72 ng93 ng114
              have h135 := h8.2.2.2.2.2.2 ng9 ng30 ng51 ng72 ng93 ng114
              refine ffm_Coder_single h135 (fun A137 f14 h143 => ?_)
              obtain ⟨o144, h145⟩ := h143
              refine ⟨o144, ?_⟩
              exact fk16 _ _ _ _ _ _ ((ySm.rf.tr f1 rfl rfl).tr f14 rfl rfl) h145
theorem ffj_Coder_expression_58 {rec : Nat → Int → Int → Int → cS → (Int → cS → Prop) → Prop} (hrec : ∀ (i : Nat) (a b c : Int) (A : cS) (Q Q' : Int → cS → Prop), rec i a b c A Q → (∀ (e : Int) (A' : cS), ySm A A' [1, 2, 4, 5, 6, 10, 24, 25, 26, 27, 28, 29, 30, 31, 32, 33] [4, 5, 13, 14, 15, 16, 17, 18, 19, 20, 21, 22, 23, 24, 37, 38, 39, 40] → Q e A' → Q' e A') → rec i a b c A Q') {Q Q' : cS → Prop} {k16 k16' : cS → Int → Int → Int → Int → Int → Prop} {s0 : cS} {x2 : Int} {x3 : Int} {x4 : Int} {x5 : Int} {x6 : Int} {x7 : Int} {y0 : Int} (hq : ∀ (A' : cS), ySm s0 A' [1, 2, 4, 5, 6, 10, 24, 25, 26, 27, 28, 29, 30, 31, 32, 33] [4, 5, 13, 14, 15, 16, 17, 18, 19, 20, 21, 22, 23, 24, 37, 38, 39, 40] → Q A' → Q' A') (fk16 : ∀ (A' : cS) (x0 : Int) (x1 : Int) (x2 : Int) (x3 : Int) (x4 : Int), ySm s0 A' [1, 2, 4, 5, 6, 10, 24, 25, 26, 27, 28, 29, 30, 31, 32, 33] [4, 5, 13, 14, 15, 16, 17, 18, 19, 20, 21, 22, 23, 24, 37, 38, 39, 40] → k16 A' x0 x1 x2 x3 x4 → k16' A' x0 x1 x2 x3 x4) (hw : wc_Coder_expression_58 rec Q k16 s0 x2 x3 x4 x5 x6 x7 y0) : wc_Coder_expression_58 rec Q' k16' s0 x2 x3 x4 x5 x6 x7 y0 := by
  unfold wc_Coder_expression_58 at hw ⊢
  refine ⟨fun c1 => ?_, fun c1 => ?_⟩
  · have h2 := hw.1 c1
    refine ⟨fun c3 => ?_, fun c3 => ?_⟩
    · have h4 := h2.1 c3
      refine ⟨fun c5 => ?_, fun c5 => ?_⟩
      · have h6 := h4.1 c5
        exact ffj_Coder_expression_99 hrec (fun A' f q => hq A' (ySm.rf.tr f rfl rfl) q) (fun A' x0 x1 x2 x3 x4 f q => fk16 A' x0 x1 x2 x3 x4 (ySm.rf.tr f rfl rfl) q) h6
      · have h7 := h4.2 c5
        refine ffm_Tree_data h7 (fun r8 A9 f1 h15 => ?_)
        exact ffj_Coder_expression_99 hrec (fun A' f q => hq A' ((ySm.rf.tr f1 rfl rfl).tr f rfl rfl) q) (fun A' x0 x1 x2 x3 x4 f q => fk16 A' x0 x1 x2 x3 x4 ((ySm.rf.tr f1 rfl rfl).tr f rfl rfl) q) h15
    · have h16 := h2.2 c3
      refine ⟨fun c17 => ?_, fun c17 => ?_⟩
      · have h18 := h16.1 c17
        exact ffj_Coder_expression_99 hrec (fun A' f q => hq A' (ySm.rf.tr f rfl rfl) q) (fun A' x0 x1 x2 x3 x4 f q => fk16 A' x0 x1 x2 x3 x4 (ySm.rf.tr f rfl rfl) q) h18
      · have h19 := h16.2 c17
        refine ffm_Tree_data h19 (fun r20 A21 f2 h27 => ?_)
        exact ffj_Coder_expression_99 hrec (fun A' f q => hq A' ((ySm.rf.tr f2 rfl rfl).tr f rfl rfl) q) (fun A' x0 x1 x2 x3 x4 f q => fk16 A' x0 x1 x2 x3 x4 ((ySm.rf.tr f2 rfl rfl).tr f rfl rfl) q) h27
  · have h28 := hw.2 c1
    refine ⟨fun c29 => ?_, fun c29 => ?_⟩
    · have h30 := h28.1 c29
      exact ffj_Coder_expression_99 hrec (fun A' f q => hq A' (ySm.rf.tr f rfl rfl) q) (fun A' x0 x1 x2 x3 x4 f q => fk16 A' x0 x1 x2 x3 x4 (ySm.rf.tr f rfl rfl) q) h30
    · have h31 := h28.2 c29
      refine ffm_Tree_data h31 (fun r32 A33 f3 h39 => ?_)
      exact ffj_Coder_expression_99 hrec (fun A' f q => hq A' ((ySm.rf.tr f3 rfl rfl).tr f rfl rfl) q) (fun A' x0 x1 x2 x3 x4 f q => fk16 A' x0 x1 x2 x3 x4 ((ySm.rf.tr f3 rfl rfl).tr f rfl rfl) q) h39
theorem ffb_Coder_expression_16 {rec : Nat → Int → Int → Int → cS → (Int → cS → Prop) → Prop} (hrec : ∀ (i : Nat) (a b c : Int) (A : cS) (Q Q' : Int → cS → Prop), rec i a b c A Q → (∀ (e : Int) (A' : cS), ySm A A' [1, 2, 4, 5, 6, 10, 24, 25, 26, 27, 28, 29, 30, 31, 32, 33] [4, 5, 13, 14, 15, 16, 17, 18, 19, 20, 21, 22, 23, 24, 37, 38, 39, 40] → Q e A' → Q' e A') → rec i a b c A Q') {Q Q' : cS → Prop} {k16 k16' : cS → Int → Int → Int → Int → Int → Prop} {s0 : cS} {x2 : Int} {x3 : Int} {x4 : Int} {x5 : Int} {x6 : Int} (hq : ∀ (A' : cS), ySm s0 A' [1, 2, 4, 5, 6, 10, 24, 25, 26, 27, 28, 29, 30, 31, 32, 33] [4, 5, 13, 14, 15, 16, 17, 18, 19, 20, 21, 22, 23, 24, 37, 38, 39, 40] → Q A' → Q' A') (fk16 : ∀ (A' : cS) (x0 : Int) (x1 : Int) (x2 : Int) (x3 : Int) (x4 : Int), ySm s0 A' [1, 2, 4, 5, 6, 10, 24, 25, 26, 27, 28, 29, 30, 31, 32, 33] [4, 5, 13, 14, 15, 16, 17, 18, 19, 20, 21, 22, 23, 24, 37, 38, 39, 40] → k16 A' x0 x1 x2 x3 x4 → k16' A' x0 x1 x2 x3 x4) (hw : wc_Coder_expression_16B rec Q k16 s0 x2 x3 x4 x5 x6) : wc_Coder_expression_16B rec Q' k16' s0 x2 x3 x4 x5 x6 := by
  unfold wc_Coder_expression_16B at hw ⊢
  refine ⟨fun c1 => ?_, fun c1 => ?_⟩
  · have h2 := hw.1 c1
    exact hq _ ySm.rf h2
  · have h3 := hw.2 c1
    refine ⟨fun c4 => ?_, fun c4 => ?_⟩
    · have h5 := h3.1 c4
      exact hq _ ySm.rf h5
    · have h6 := h3.2 c4
      refine ffm_Tree_next h6 (fun r7 A8 f1 h14 => ?_)
      refine ffm_Tree_kind h14 (fun r15 A16 f2 h22 => ?_)
      refine ⟨fun c23 => ?_, fun c23 => ?_⟩
      · have h24 := h22.1 c23
        exact ffj_Coder_expression_58 hrec (fun A' f q => hq A' (((ySm.rf.tr f1 rfl rfl).tr f2 rfl rfl).tr f rfl rfl) q) (fun A' x0 x1 x2 x3 x4 f q => fk16 A' x0 x1 x2 x3 x4 (((ySm.rf.tr f1 rfl rfl).tr f2 rfl rfl).tr f rfl rfl) q) h24
      · have h25 := h22.2 c23
        exact ffj_Coder_expression_58 hrec (fun A' f q => hq A' (((ySm.rf.tr f1 rfl rfl).tr f2 rfl rfl).tr f rfl rfl) q) (fun A' x0 x1 x2 x3 x4 f q => fk16 A' x0 x1 x2 x3 x4 (((ySm.rf.tr f1 rfl rfl).tr f2 rfl rfl).tr f rfl rfl) q) h25
theorem ffl_Coder_expression_160 {rec : Nat → Int → Int → Int → cS → (Int → cS → Prop) → Prop} (hrec : ∀ (i : Nat) (a b c : Int) (A : cS) (Q Q' : Int → cS → Prop), rec i a b c A Q → (∀ (e : Int) (A' : cS), ySm A A' [1, 2, 4, 5, 6, 10, 24, 25, 26, 27, 28, 29, 30, 31, 32, 33] [4, 5, 13, 14, 15, 16, 17, 18, 19, 20, 21, 22, 23, 24, 37, 38, 39, 40] → Q e A' → Q' e A') → rec i a b c A Q') {Q Q' : cS → Prop}  : ∀ (m : Nat) (s0 : cS) (x2 : Int) (x3 : Int) (x4 : Int) (x5 : Int) (x6 : Int), (∀ (A' : cS), ySm s0 A' [1, 2, 4, 5, 6, 10, 24, 25, 26, 27, 28, 29, 30, 31, 32, 33] [4, 5, 13, 14, 15, 16, 17, 18, 19, 20, 21, 22, 23, 24, 37, 38, 39, 40] → Q A' → Q' A') → wc_Coder_expression_16 rec Q  m s0 x2 x3 x4 x5 x6 → wc_Coder_expression_16 rec Q'  m s0 x2 x3 x4 x5 x6 := by
  intro m
  induction m with
  | zero => intro s0 x2 x3 x4 x5 x6 hq  hw; exact hw
  | succ m ih => intro s0 x2 x3 x4 x5 x6 hq  hw; exact ffb_Coder_expression_16 hrec hq  (fun A' y0 y1 y2 y3 y4 f1 q => ih A' y0 y1 y2 y3 y4 (fun A' f q => hq A' (f1.tr f rfl rfl) q)  q) hw
theorem ffm_Coder_expression {rec : Nat → Int → Int → Int → cS → (Int → cS → Prop) → Prop} (hrec : ∀ (i : Nat) (a b c : Int) (A : cS) (Q Q' : Int → cS → Prop), rec i a b c A Q → (∀ (e : Int) (A' : cS), ySm A A' [1, 2, 4, 5, 6, 10, 24, 25, 26, 27, 28, 29, 30, 31, 32, 33] [4, 5, 13, 14, 15, 16, 17, 18, 19, 20, 21, 22, 23, 24, 37, 38, 39, 40] → Q e A' → Q' e A') → rec i a b c A Q') {s0 : cS} {a0 : Int} {a1 : Int} {a2 : Int} {Q Q' : cS → Prop} (hw : wc_Coder_expression rec s0 a0 a1 a2 Q) (hq : ∀ (A' : cS), ySm s0 A' [1, 2, 4, 5, 6, 10, 24, 25, 26, 27, 28, 29, 30, 31, 32, 33] [4, 5, 13, 14, 15, 16, 17, 18, 19, 20, 21, 22, 23, 24, 37, 38, 39, 40] → Q A' → Q' A') : wc_Coder_expression rec s0 a0 a1 a2 Q' := by
  unfold wc_Coder_expression at hw ⊢
  refine ffm_Tree_first hw (fun r1 A2 f1 h8 => ?_)
  obtain ⟨m9, h10⟩ := h8
  exact ⟨m9, ffl_Coder_expression_160 hrec m9 _ _ _ _ _ _ (fun A' f q => hq A' ((ySm.rf.tr f1 rfl rfl).tr f rfl rfl) q)  h10⟩
theorem ffb_Coder_calls_97 {rec : Nat → Int → Int → Int → cS → (Int → cS → Prop) → Prop} (hrec : ∀ (i : Nat) (a b c : Int) (A : cS) (Q Q' : Int → cS → Prop), rec i a b c A Q → (∀ (e : Int) (A' : cS), ySm A A' [1, 2, 4, 5, 6, 10, 24, 25, 26, 27, 28, 29, 30, 31, 32, 33] [4, 5, 13, 14, 15, 16, 17, 18, 19, 20, 21, 22, 23, 24, 37, 38, 39, 40] → Q e A' → Q' e A') → rec i a b c A Q') {Q Q' : cS → Prop} {k97 k97' : cS → Int → Int → Int → Prop} {s0 : cS} {x3 : Int} {x4 : Int} {x5 : Int} (hq : ∀ (A' : cS), ySm s0 A' [1, 2, 4, 5, 6, 10, 24, 25, 26, 27, 28, 29, 30, 31, 32, 33] [4, 5, 13, 14, 15, 16, 17, 18, 19, 20, 21, 22, 23, 24, 37, 38, 39, 40] → Q A' → Q' A') (fk97 : ∀ (A' : cS) (x0 : Int) (x1 : Int) (x2 : Int), ySm s0 A' [1, 2, 4, 5, 6, 10, 24, 25, 26, 27, 28, 29, 30, 31, 32, 33] [4, 5, 13, 14, 15, 16, 17, 18, 19, 20, 21, 22, 23, 24, 37, 38, 39, 40] → k97 A' x0 x1 x2 → k97' A' x0 x1 x2) (hw : wc_Coder_calls_97B rec Q k97 s0 x3 x4 x5) : wc_Coder_calls_97B rec Q' k97' s0 x3 x4 x5 := by
  unfold wc_Coder_calls_97B at hw ⊢
  refine ⟨fun c1 => ?_, fun c1 => ?_⟩
  · have h2 := hw.1 c1
    exact hq _ ySm.rf h2
  · have h3 := hw.2 c1
    intro z4 e5 R6
    have h7 := h3 z4 e5 R6
    refine ffm_Tree_data h7 (fun r8 A9 f1 h15 => ?_)
    intro z16 e17 R18
    have h19 := h15 z16 e17 R18
    refine ffm_Coder_emit h19 (fun r20 A21 f2 h27 => ?_)
    refine ffm_Tree_next h27 (fun r28 A29 f3 h35 => ?_)
    obtain ⟨o36, h37⟩ := h35
    refine ⟨o36, ?_⟩
    exact fk97 _ _ _ _ (((ySm.rf.tr f1 rfl rfl).tr f2 rfl rfl).tr f3 rfl rfl) h37
theorem ffl_Coder_calls_970 {rec : Nat → Int → Int → Int → cS → (Int → cS → Prop) → Prop} (hrec : ∀ (i : Nat) (a b c : Int) (A : cS) (Q Q' : Int → cS → Prop), rec i a b c A Q → (∀ (e : Int) (A' : cS), ySm A A' [1, 2, 4, 5, 6, 10, 24, 25, 26, 27, 28, 29, 30, 31, 32, 33] [4, 5, 13, 14, 15, 16, 17, 18, 19, 20, 21, 22, 23, 24, 37, 38, 39, 40] → Q e A' → Q' e A') → rec i a b c A Q') {Q Q' : cS → Prop}  : ∀ (m : Nat) (s0 : cS) (x3 : Int) (x4 : Int) (x5 : Int), (∀ (A' : cS), ySm s0 A' [1, 2, 4, 5, 6, 10, 24, 25, 26, 27, 28, 29, 30, 31, 32, 33] [4, 5, 13, 14, 15, 16, 17, 18, 19, 20, 21, 22, 23, 24, 37, 38, 39, 40] → Q A' → Q' A') → wc_Coder_calls_97 rec Q  m s0 x3 x4 x5 → wc_Coder_calls_97 rec Q'  m s0 x3 x4 x5 := by
  intro m
  induction m with
  | zero => intro s0 x3 x4 x5 hq  hw; exact hw
  | succ m ih => intro s0 x3 x4 x5 hq  hw; exact ffb_Coder_calls_97 hrec hq  (fun A' y0 y1 y2 f1 q => ih A' y0 y1 y2 (fun A' f q => hq A' (f1.tr f rfl rfl) q)  q) hw
theorem ffb_Coder_calls_59 {rec : Nat → Int → Int → Int → cS → (Int → cS → Prop) → Prop} (hrec : ∀ (i : Nat) (a b c : Int) (A : cS) (Q Q' : Int → cS → Prop), rec i a b c A Q → (∀ (e : Int) (A' : cS), ySm A A' [1, 2, 4, 5, 6, 10, 24, 25, 26, 27, 28, 29, 30, 31, 32, 33] [4, 5, 13, 14, 15, 16, 17, 18, 19, 20, 21, 22, 23, 24, 37, 38, 39, 40] → Q e A' → Q' e A') → rec i a b c A Q') {Q Q' : cS → Prop} {k59 k59' : cS → Int → Int → Int → Int → Prop} {s0 : cS} {x1 : Int} {x2 : Int} {x3 : Int} {x5 : Int} (hq : ∀ (A' : cS), ySm s0 A' [1, 2, 4, 5, 6, 10, 24, 25, 26, 27, 28, 29, 30, 31, 32, 33] [4, 5, 13, 14, 15, 16, 17, 18, 19, 20, 21, 22, 23, 24, 37, 38, 39, 40] → Q A' → Q' A') (fk59 : ∀ (A' : cS) (x0 : Int) (x1 : Int) (x2 : Int) (x3 : Int), ySm s0 A' [1, 2, 4, 5, 6, 10, 24, 25, 26, 27, 28, 29, 30, 31, 32, 33] [4, 5, 13, 14, 15, 16, 17, 18, 19, 20, 21, 22, 23, 24, 37, 38, 39, 40] → k59 A' x0 x1 x2 x3 → k59' A' x0 x1 x2 x3) (hw : wc_Coder_calls_59B rec Q k59 s0 x1 x2 x3 x5) : wc_Coder_calls_59B rec Q' k59' s0 x1 x2 x3 x5 := by
  unfold wc_Coder_calls_59B at hw ⊢
  refine ⟨fun c1 => ?_, fun c1 => ?_⟩
  · have h2 := hw.1 c1
    refine hrec _ _ _ _ _ _ _ h2 (fun r3 A4 f1 h10 => ?_)
    refine ffm_Tree_next h10 (fun r11 A12 f2 h18 => ?_)
    obtain ⟨m19, h20⟩ := h18
    exact ⟨m19, ffl_Coder_calls_970 hrec m19 _ _ _ _ (fun A' f q => hq A' (((ySm.rf.tr f1 rfl rfl).tr f2 rfl rfl).tr f rfl rfl) q)  h20⟩
  · have h21 := hw.2 c1
    refine hrec _ _ _ _ _ _ _ h21 (fun r22 A23 f3 h29 => ?_)
    obtain ⟨o30, h31⟩ := h29
    refine ⟨o30, ?_⟩
    exact fk59 _ _ _ _ _ (ySm.rf.tr f3 rfl rfl) h31
theorem ffl_Coder_calls_590 {rec : Nat → Int → Int → Int → cS → (Int → cS → Prop) → Prop} (hrec : ∀ (i : Nat) (a b c : Int) (A : cS) (Q Q' : Int → cS → Prop), rec i a b c A Q → (∀ (e : Int) (A' : cS), ySm A A' [1, 2, 4, 5, 6, 10, 24, 25, 26, 27, 28, 29, 30, 31, 32, 33] [4, 5, 13, 14, 15, 16, 17, 18, 19, 20, 21, 22, 23, 24, 37, 38, 39, 40] → Q e A' → Q' e A') → rec i a b c A Q') {Q Q' : cS → Prop}  : ∀ (m : Nat) (s0 : cS) (x1 : Int) (x2 : Int) (x3 : Int) (x5 : Int), (∀ (A' : cS), ySm s0 A' [1, 2, 4, 5, 6, 10, 24, 25, 26, 27, 28, 29, 30, 31, 32, 33] [4, 5, 13, 14, 15, 16, 17, 18, 19, 20, 21, 22, 23, 24, 37, 38, 39, 40] → Q A' → Q' A') → wc_Coder_calls_59 rec Q  m s0 x1 x2 x3 x5 → wc_Coder_calls_59 rec Q'  m s0 x1 x2 x3 x5 := by
  intro m
  induction m with
  | zero => intro s0 x1 x2 x3 x5 hq  hw; exact hw
  | succ m ih => intro s0 x1 x2 x3 x5 hq  hw; exact ffb_Coder_calls_59 hrec hq  (fun A' y0 y1 y2 y3 f1 q => ih A' y0 y1 y2 y3 (fun A' f q => hq A' (f1.tr f rfl rfl) q)  q) hw
theorem ffb_Coder_calls_24 {rec : Nat → Int → Int → Int → cS → (Int → cS → Prop) → Prop} (hrec : ∀ (i : Nat) (a b c : Int) (A : cS) (Q Q' : Int → cS → Prop), rec i a b c A Q → (∀ (e : Int) (A' : cS), ySm A A' [1, 2, 4, 5, 6, 10, 24, 25, 26, 27, 28, 29, 30, 31, 32, 33] [4, 5, 13, 14, 15, 16, 17, 18, 19, 20, 21, 22, 23, 24, 37, 38, 39, 40] → Q e A' → Q' e A') → rec i a b c A Q') {Q Q' : cS → Prop} {k24 k24' : cS → Int → Int → Int → Int → Int → Prop} {s0 : cS} {x1 : Int} {x2 : Int} {x3 : Int} {x4 : Int} {x5 : Int} (hq : ∀ (A' : cS), ySm s0 A' [1, 2, 4, 5, 6, 10, 24, 25, 26, 27, 28, 29, 30, 31, 32, 33] [4, 5, 13, 14, 15, 16, 17, 18, 19, 20, 21, 22, 23, 24, 37, 38, 39, 40] → Q A' → Q' A') (fk24 : ∀ (A' : cS) (x0 : Int) (x1 : Int) (x2 : Int) (x3 : Int) (x4 : Int), ySm s0 A' [1, 2, 4, 5, 6, 10, 24, 25, 26, 27, 28, 29, 30, 31, 32, 33] [4, 5, 13, 14, 15, 16, 17, 18, 19, 20, 21, 22, 23, 24, 37, 38, 39, 40] → k24 A' x0 x1 x2 x3 x4 → k24' A' x0 x1 x2 x3 x4) (hw : wc_Coder_calls_24B rec Q k24 s0 x1 x2 x3 x4 x5) : wc_Coder_calls_24B rec Q' k24' s0 x1 x2 x3 x4 x5 := by
  unfold wc_Coder_calls_24B at hw ⊢
  refine ⟨fun c1 => ?_, fun c1 => ?_⟩
  · have h2 := hw.1 c1
    obtain ⟨m3, h4⟩ := h2
    exact ⟨m3, ffl_Coder_calls_590 hrec m3 _ _ _ _ _ (fun A' f q => hq A' (ySm.rf.tr f rfl rfl) q)  h4⟩
  · have h5 := hw.2 c1
    refine ⟨fun c6 => ?_, fun c6 => ?_⟩
    · have h7 := h5.1 c6
      obtain ⟨m8, h9⟩ := h7
      exact ⟨m8, ffl_Coder_calls_590 hrec m8 _ _ _ _ _ (fun A' f q => hq A' (ySm.rf.tr f rfl rfl) q)  h9⟩
    · have h10 := h5.2 c6
      refine ffm_Tree_next h10 (fun r11 A12 f1 h18 => ?_)
      obtain ⟨o19, h20⟩ := h18
      refine ⟨o19, ?_⟩
      obtain ⟨o21, h22⟩ := h20
      refine ⟨o21, ?_⟩
      exact fk24 _ _ _ _ _ _ (ySm.rf.tr f1 rfl rfl) h22
theorem ffl_Coder_calls_240 {rec : Nat → Int → Int → Int → cS → (Int → cS → Prop) → Prop} (hrec : ∀ (i : Nat) (a b c : Int) (A : cS) (Q Q' : Int → cS → Prop), rec i a b c A Q → (∀ (e : Int) (A' : cS), ySm A A' [1, 2, 4, 5, 6, 10, 24, 25, 26, 27, 28, 29, 30, 31, 32, 33] [4, 5, 13, 14, 15, 16, 17, 18, 19, 20, 21, 22, 23, 24, 37, 38, 39, 40] → Q e A' → Q' e A') → rec i a b c A Q') {Q Q' : cS → Prop}  : ∀ (m : Nat) (s0 : cS) (x1 : Int) (x2 : Int) (x3 : Int) (x4 : Int) (x5 : Int), (∀ (A' : cS), ySm s0 A' [1, 2, 4, 5, 6, 10, 24, 25, 26, 27, 28, 29, 30, 31, 32, 33] [4, 5, 13, 14, 15, 16, 17, 18, 19, 20, 21, 22, 23, 24, 37, 38, 39, 40] → Q A' → Q' A') → wc_Coder_calls_24 rec Q  m s0 x1 x2 x3 x4 x5 → wc_Coder_calls_24 rec Q'  m s0 x1 x2 x3 x4 x5 := by
  intro m
  induction m with
  | zero => intro s0 x1 x2 x3 x4 x5 hq  hw; exact hw
  | succ m ih => intro s0 x1 x2 x3 x4 x5 hq  hw; exact ffb_Coder_calls_24 hrec hq  (fun A' y0 y1 y2 y3 y4 f1 q => ih A' y0 y1 y2 y3 y4 (fun A' f q => hq A' (f1.tr f rfl rfl) q)  q) hw
theorem ffm_Coder_calls {rec : Nat → Int → Int → Int → cS → (Int → cS → Prop) → Prop} (hrec : ∀ (i : Nat) (a b c : Int) (A : cS) (Q Q' : Int → cS → Prop), rec i a b c A Q → (∀ (e : Int) (A' : cS), ySm A A' [1, 2, 4, 5, 6, 10, 24, 25, 26, 27, 28, 29, 30, 31, 32, 33] [4, 5, 13, 14, 15, 16, 17, 18, 19, 20, 21, 22, 23, 24, 37, 38, 39, 40] → Q e A' → Q' e A') → rec i a b c A Q') {s0 : cS} {a0 : Int} {Q Q' : cS → Prop} (hw : wc_Coder_calls rec s0 a0 Q) (hq : ∀ (A' : cS), ySm s0 A' [1, 2, 4, 5, 6, 10, 24, 25, 26, 27, 28, 29, 30, 31, 32, 33] [4, 5, 13, 14, 15, 16, 17, 18, 19, 20, 21, 22, 23, 24, 37, 38, 39, 40] → Q A' → Q' A') : wc_Coder_calls rec s0 a0 Q' := by
  unfold wc_Coder_calls at hw ⊢
  refine ffm_Tree_first hw (fun r1 A2 f1 h8 => ?_)
  refine ffm_Tree_next h8 (fun r9 A10 f2 h16 => ?_)
  obtain ⟨m17, h18⟩ := h16
  exact ⟨m17, ffl_Coder_calls_240 hrec m17 _ _ _ _ _ _ (fun A' f q => hq A' (((ySm.rf.tr f1 rfl rfl).tr f2 rfl rfl).tr f rfl rfl) q)  h18⟩
theorem ffb_Coder_arguments_46 {rec : Nat → Int → Int → Int → cS → (Int → cS → Prop) → Prop} (hrec : ∀ (i : Nat) (a b c : Int) (A : cS) (Q Q' : Int → cS → Prop), rec i a b c A Q → (∀ (e : Int) (A' : cS), ySm A A' [1, 2, 4, 5, 6, 10, 24, 25, 26, 27, 28, 29, 30, 31, 32, 33] [4, 5, 13, 14, 15, 16, 17, 18, 19, 20, 21, 22, 23, 24, 37, 38, 39, 40] → Q e A' → Q' e A') → rec i a b c A Q') {Q Q' : cS → Prop} {k46 k46' : cS → Int → Int → Prop} {s0 : cS} {x4 : Int} {x5 : Int} (hq : ∀ (A' : cS), ySm s0 A' [1, 2, 4, 5, 6, 10, 24, 25, 26, 27, 28, 29, 30, 31, 32, 33] [4, 5, 13, 14, 15, 16, 17, 18, 19, 20, 21, 22, 23, 24, 37, 38, 39, 40] → Q A' → Q' A') (fk46 : ∀ (A' : cS) (x0 : Int) (x1 : Int), ySm s0 A' [1, 2, 4, 5, 6, 10, 24, 25, 26, 27, 28, 29, 30, 31, 32, 33] [4, 5, 13, 14, 15, 16, 17, 18, 19, 20, 21, 22, 23, 24, 37, 38, 39, 40] → k46 A' x0 x1 → k46' A' x0 x1) (hw : wc_Coder_arguments_46B rec Q k46 s0 x4 x5) : wc_Coder_arguments_46B rec Q' k46' s0 x4 x5 := by
  unfold wc_Coder_arguments_46B at hw ⊢
  refine ⟨fun c1 => ?_, fun c1 => ?_⟩
  · have h2 := hw.1 c1
    exact hq _ ySm.rf h2
  · have h3 := hw.2 c1
    refine ⟨fun c4 => ?_, fun c4 => ?_⟩
    · have h5 := h3.1 c4
      exact hq _ ySm.rf h5
    · have h6 := h3.2 c4
      refine hrec _ _ _ _ _ _ _ h6 (fun r7 A8 f1 h14 => ?_)
      refine ffm_Tree_next h14 (fun r15 A16 f2 h22 => ?_)
      obtain ⟨o23, h24⟩ := h22
      refine ⟨o23, ?_⟩
      exact fk46 _ _ _ ((ySm.rf.tr f1 rfl rfl).tr f2 rfl rfl) h24
theorem ffl_Coder_arguments_460 {rec : Nat → Int → Int → Int → cS → (Int → cS → Prop) → Prop} (hrec : ∀ (i : Nat) (a b c : Int) (A : cS) (Q Q' : Int → cS → Prop), rec i a b c A Q → (∀ (e : Int) (A' : cS), ySm A A' [1, 2, 4, 5, 6, 10, 24, 25, 26, 27, 28, 29, 30, 31, 32, 33] [4, 5, 13, 14, 15, 16, 17, 18, 19, 20, 21, 22, 23, 24, 37, 38, 39, 40] → Q e A' → Q' e A') → rec i a b c A Q') {Q Q' : cS → Prop}  : ∀ (m : Nat) (s0 : cS) (x4 : Int) (x5 : Int), (∀ (A' : cS), ySm s0 A' [1, 2, 4, 5, 6, 10, 24, 25, 26, 27, 28, 29, 30, 31, 32, 33] [4, 5, 13, 14, 15, 16, 17, 18, 19, 20, 21, 22, 23, 24, 37, 38, 39, 40] → Q A' → Q' A') → wc_Coder_arguments_46 rec Q  m s0 x4 x5 → wc_Coder_arguments_46 rec Q'  m s0 x4 x5 := by
  intro m
  induction m with
  | zero => intro s0 x4 x5 hq  hw; exact hw
  | succ m ih => intro s0 x4 x5 hq  hw; exact ffb_Coder_arguments_46 hrec hq  (fun A' y0 y1 f1 q => ih A' y0 y1 (fun A' f q => hq A' (f1.tr f rfl rfl) q)  q) hw
theorem ffb_Coder_arguments_12 {rec : Nat → Int → Int → Int → cS → (Int → cS → Prop) → Prop} (hrec : ∀ (i : Nat) (a b c : Int) (A : cS) (Q Q' : Int → cS → Prop), rec i a b c A Q → (∀ (e : Int) (A' : cS), ySm A A' [1, 2, 4, 5, 6, 10, 24, 25, 26, 27, 28, 29, 30, 31, 32, 33] [4, 5, 13, 14, 15, 16, 17, 18, 19, 20, 21, 22, 23, 24, 37, 38, 39, 40] → Q e A' → Q' e A') → rec i a b c A Q') {Q Q' : cS → Prop} {k12 k12' : cS → Int → Int → Int → Prop} {s0 : cS} {x2 : Int} {x3 : Int} {x4 : Int} (hq : ∀ (A' : cS), ySm s0 A' [1, 2, 4, 5, 6, 10, 24, 25, 26, 27, 28, 29, 30, 31, 32, 33] [4, 5, 13, 14, 15, 16, 17, 18, 19, 20, 21, 22, 23, 24, 37, 38, 39, 40] → Q A' → Q' A') (fk12 : ∀ (A' : cS) (x0 : Int) (x1 : Int) (x2 : Int), ySm s0 A' [1, 2, 4, 5, 6, 10, 24, 25, 26, 27, 28, 29, 30, 31, 32, 33] [4, 5, 13, 14, 15, 16, 17, 18, 19, 20, 21, 22, 23, 24, 37, 38, 39, 40] → k12 A' x0 x1 x2 → k12' A' x0 x1 x2) (hw : wc_Coder_arguments_12B rec Q k12 s0 x2 x3 x4) : wc_Coder_arguments_12B rec Q' k12' s0 x2 x3 x4 := by
  unfold wc_Coder_arguments_12B at hw ⊢
  refine ⟨fun c1 => ?_, fun c1 => ?_⟩
  · have h2 := hw.1 c1
    refine ffm_Tree_first h2 (fun r3 A4 f1 h10 => ?_)
    obtain ⟨m11, h12⟩ := h10
    exact ⟨m11, ffl_Coder_arguments_460 hrec m11 _ _ _ (fun A' f q => hq A' ((ySm.rf.tr f1 rfl rfl).tr f rfl rfl) q)  h12⟩
  · have h13 := hw.2 c1
    refine ffm_Tree_next h13 (fun r14 A15 f2 h21 => ?_)
    obtain ⟨o22, h23⟩ := h21
    refine ⟨o22, ?_⟩
    exact fk12 _ _ _ _ (ySm.rf.tr f2 rfl rfl) h23
theorem ffl_Coder_arguments_120 {rec : Nat → Int → Int → Int → cS → (Int → cS → Prop) → Prop} (hrec : ∀ (i : Nat) (a b c : Int) (A : cS) (Q Q' : Int → cS → Prop), rec i a b c A Q → (∀ (e : Int) (A' : cS), ySm A A' [1, 2, 4, 5, 6, 10, 24, 25, 26, 27, 28, 29, 30, 31, 32, 33] [4, 5, 13, 14, 15, 16, 17, 18, 19, 20, 21, 22, 23, 24, 37, 38, 39, 40] → Q e A' → Q' e A') → rec i a b c A Q') {Q Q' : cS → Prop}  : ∀ (m : Nat) (s0 : cS) (x2 : Int) (x3 : Int) (x4 : Int), (∀ (A' : cS), ySm s0 A' [1, 2, 4, 5, 6, 10, 24, 25, 26, 27, 28, 29, 30, 31, 32, 33] [4, 5, 13, 14, 15, 16, 17, 18, 19, 20, 21, 22, 23, 24, 37, 38, 39, 40] → Q A' → Q' A') → wc_Coder_arguments_12 rec Q  m s0 x2 x3 x4 → wc_Coder_arguments_12 rec Q'  m s0 x2 x3 x4 := by
  intro m
  induction m with
  | zero => intro s0 x2 x3 x4 hq  hw; exact hw
  | succ m ih => intro s0 x2 x3 x4 hq  hw; exact ffb_Coder_arguments_12 hrec hq  (fun A' y0 y1 y2 f1 q => ih A' y0 y1 y2 (fun A' f q => hq A' (f1.tr f rfl rfl) q)  q) hw
theorem ffm_Coder_arguments {rec : Nat → Int → Int → Int → cS → (Int → cS → Prop) → Prop} (hrec : ∀ (i : Nat) (a b c : Int) (A : cS) (Q Q' : Int → cS → Prop), rec i a b c A Q → (∀ (e : Int) (A' : cS), ySm A A' [1, 2, 4, 5, 6, 10, 24, 25, 26, 27, 28, 29, 30, 31, 32, 33] [4, 5, 13, 14, 15, 16, 17, 18, 19, 20, 21, 22, 23, 24, 37, 38, 39, 40] → Q e A' → Q' e A') → rec i a b c A Q') {s0 : cS} {a0 : Int} {a1 : Int} {Q Q' : cS → Prop} (hw : wc_Coder_arguments rec s0 a0 a1 Q) (hq : ∀ (A' : cS), ySm s0 A' [1, 2, 4, 5, 6, 10, 24, 25, 26, 27, 28, 29, 30, 31, 32, 33] [4, 5, 13, 14, 15, 16, 17, 18, 19, 20, 21, 22, 23, 24, 37, 38, 39, 40] → Q A' → Q' A') : wc_Coder_arguments rec s0 a0 a1 Q' := by
  unfold wc_Coder_arguments at hw ⊢
  refine ffm_Tree_first hw (fun r1 A2 f1 h8 => ?_)
  obtain ⟨m9, h10⟩ := h8
  exact ⟨m9, ffl_Coder_arguments_120 hrec m9 _ _ _ _ (fun A' f q => hq A' ((ySm.rf.tr f1 rfl rfl).tr f rfl rfl) q)  h10⟩
theorem ffm_Coder_valof {rec : Nat → Int → Int → Int → cS → (Int → cS → Prop) → Prop} (hrec : ∀ (i : Nat) (a b c : Int) (A : cS) (Q Q' : Int → cS → Prop), rec i a b c A Q → (∀ (e : Int) (A' : cS), ySm A A' [1, 2, 4, 5, 6, 10, 24, 25, 26, 27, 28, 29, 30, 31, 32, 33] [4, 5, 13, 14, 15, 16, 17, 18, 19, 20, 21, 22, 23, 24, 37, 38, 39, 40] → Q e A' → Q' e A') → rec i a b c A Q') {s0 : cS} {a0 : Int} {Q Q' : cS → Prop} (hw : wc_Coder_valof rec s0 a0 Q) (hq : ∀ (A' : cS), ySm s0 A' [1, 2, 4, 5, 6, 10, 24, 25, 26, 27, 28, 29, 30, 31, 32, 33] [4, 5, 13, 14, 15, 16, 17, 18, 19, 20, 21, 22, 23, 24, 37, 38, 39, 40] → Q A' → Q' A') : wc_Coder_valof rec s0 a0 Q' := by
  unfold wc_Coder_valof at hw ⊢
  refine ffm_Coder_leaveAll hw (fun A2 f1 h8 => ?_)
  obtain ⟨o20, h21⟩ := h8
  refine ⟨o20, ?_⟩
  refine ffm_Tree_first h21 (fun r44 A45 f2 h51 => ?_)
  refine hrec _ _ _ _ _ _ _ h51 (fun r52 A53 f3 h59 => ?_)
  refine ffm_Coder_emit h59 (fun r60 A61 f4 h67 => ?_)
  refine ffm_Program_land h67 (fun A69 f5 h75 => ?_)
  exact hq _ (((((((((((((ySm.rf.tr f1 rfl rfl).pv rfl).pv rfl).pv rfl).tr f2 rfl rfl).tr f3 rfl rfl).tr f4 rfl rfl).tr f5 rfl rfl).pv rfl).pv rfl).pv rfl).pv rfl).pv rfl) h75
theorem ffm_Coder_choice {rec : Nat → Int → Int → Int → cS → (Int → cS → Prop) → Prop} (hrec : ∀ (i : Nat) (a b c : Int) (A : cS) (Q Q' : Int → cS → Prop), rec i a b c A Q → (∀ (e : Int) (A' : cS), ySm A A' [1, 2, 4, 5, 6, 10, 24, 25, 26, 27, 28, 29, 30, 31, 32, 33] [4, 5, 13, 14, 15, 16, 17, 18, 19, 20, 21, 22, 23, 24, 37, 38, 39, 40] → Q e A' → Q' e A') → rec i a b c A Q') {s0 : cS} {a0 : Int} {Q Q' : cS → Prop} (hw : wc_Coder_choice rec s0 a0 Q) (hq : ∀ (A' : cS), ySm s0 A' [1, 2, 4, 5, 6, 10, 24, 25, 26, 27, 28, 29, 30, 31, 32, 33] [4, 5, 13, 14, 15, 16, 17, 18, 19, 20, 21, 22, 23, 24, 37, 38, 39, 40] → Q A' → Q' A') : wc_Coder_choice rec s0 a0 Q' := by
  unfold wc_Coder_choice at hw ⊢
  refine ffm_Tree_first hw (fun r1 A2 f1 h8 => ?_)
  refine ffm_Tree_next h8 (fun r9 A10 f2 h16 => ?_)
  refine hrec _ _ _ _ _ _ _ h16 (fun r17 A18 f3 h24 => ?_)
  refine ffm_Coder_emit h24 (fun r25 A26 f4 h32 => ?_)
  refine hrec _ _ _ _ _ _ _ h32 (fun r33 A34 f5 h40 => ?_)
  refine ffm_Coder_emit h40 (fun r41 A42 f6 h48 => ?_)
  refine ffm_Program_land h48 (fun A50 f7 h56 => ?_)
  refine ffm_Tree_next h56 (fun r57 A58 f8 h64 => ?_)
  refine hrec _ _ _ _ _ _ _ h64 (fun r65 A66 f9 h72 => ?_)
  refine ffm_Program_land h72 (fun A74 f10 h80 => ?_)
  exact hq _ ((((((((((ySm.rf.tr f1 rfl rfl).tr f2 rfl rfl).tr f3 rfl rfl).tr f4 rfl rfl).tr f5 rfl rfl).tr f6 rfl rfl).tr f7 rfl rfl).tr f8 rfl rfl).tr f9 rfl rfl).tr f10 rfl rfl) h80
theorem ffG_C : ∀ (m : Nat) (i : Nat) (a b c : Int) (A : cS) (Q Q' : Int → cS → Prop), wcG_C m i a b c A Q → (∀ (e : Int) (A' : cS), ySm A A' [1, 2, 4, 5, 6, 10, 24, 25, 26, 27, 28, 29, 30, 31, 32, 33] [4, 5, 13, 14, 15, 16, 17, 18, 19, 20, 21, 22, 23, 24, 37, 38, 39, 40] → Q e A' → Q' e A') → wcG_C m i a b c A Q' := by
  intro m
  induction m with
  | zero => intro i a b c A Q Q' hw hq; exact hw
  | succ m ih =>
    intro i a b c A Q Q' hw hq
    match i with
    | 0 => exact ffm_Coder_routines ih hw (fun A' f q => hq _ A' f q)
    | 1 => exact ffm_Coder_routine ih hw (fun A' f q => hq _ A' f q)
    | 2 => exact ffm_Coder_variables ih hw (fun A' f q => hq _ A' f q)
    | 3 => exact ffm_Coder_section ih hw (fun A' f q => hq _ A' f q)
    | 4 => exact ffm_Coder_command ih hw (fun A' f q => hq _ A' f q)
    | 5 => exact ffm_Coder_assignment ih hw (fun A' f q => hq _ A' f q)
    | 6 => exact ffm_Coder_conditional ih hw (fun A' f q => hq _ A' f q)
    | 7 => exact ffm_Coder_asking ih hw (fun A' f q => hq _ A' f q)
    | 8 => exact ffm_Coder_repeats ih hw (fun A' f q => hq _ A' f q)
    | 9 => exact ffm_Coder_counting ih hw (fun A' f q => hq _ A' f q)
    | 10 => exact ffm_Coder_switching ih hw (fun A' f q => hq _ A' f q)
    | 11 => exact ffm_Coder_telling ih hw (fun A' f q => hq _ A' f q)
    | 12 => exact ffm_Coder_expression ih hw (fun A' f q => hq _ A' f q)
    | 13 => exact ffm_Coder_calls ih hw (fun A' f q => hq _ A' f q)
    | 14 => exact ffm_Coder_arguments ih hw (fun A' f q => hq _ A' f q)
    | 15 => exact ffm_Coder_valof ih hw (fun A' f q => hq _ A' f q)
    | 16 => exact ffm_Coder_choice ih hw (fun A' f q => hq _ A' f q)
      | n + 17 => exact hw
theorem ffb_Coder_translate_67 {Q Q' : cS → Prop} {k67 k67' : cS → Int → Prop} {s0 : cS} {x2 : Int} (hq : ∀ (A' : cS), ySm s0 A' [1, 2, 4, 5, 6, 10, 24, 25, 26, 27, 28, 29, 30, 31, 32, 33] [4, 5, 13, 14, 15, 16, 17, 18, 19, 20, 21, 22, 23, 24, 37, 38, 39, 40] → Q A' → Q' A') (fk67 : ∀ (A' : cS) (x0 : Int), ySm s0 A' [1, 2, 4, 5, 6, 10, 24, 25, 26, 27, 28, 29, 30, 31, 32, 33] [4, 5, 13, 14, 15, 16, 17, 18, 19, 20, 21, 22, 23, 24, 37, 38, 39, 40] → k67 A' x0 → k67' A' x0) (hw : wc_Coder_translate_67B Q k67 s0 x2) : wc_Coder_translate_67B Q' k67' s0 x2 := by
  unfold wc_Coder_translate_67B at hw ⊢
  obtain ⟨o1, h2⟩ := hw
  refine ⟨o1, ?_⟩
  refine ⟨fun c3 => ?_, fun c3 => ?_⟩
  · have h4 := h2.1 c3
    exact hq _ ySm.rf h4
  · have h5 := h2.2 c3
    refine ffm_Program_setOperand h5 (fun A7 f1 h13 => ?_)
    obtain ⟨o14, h15⟩ := h13
    refine ⟨o14, ?_⟩
    exact fk67 _ _ (ySm.rf.tr f1 rfl rfl) h15
theorem ffl_Coder_translate_670 {Q Q' : cS → Prop}  : ∀ (m : Nat) (s0 : cS) (x2 : Int), (∀ (A' : cS), ySm s0 A' [1, 2, 4, 5, 6, 10, 24, 25, 26, 27, 28, 29, 30, 31, 32, 33] [4, 5, 13, 14, 15, 16, 17, 18, 19, 20, 21, 22, 23, 24, 37, 38, 39, 40] → Q A' → Q' A') → wc_Coder_translate_67 Q  m s0 x2 → wc_Coder_translate_67 Q'  m s0 x2 := by
  intro m
  induction m with
  | zero => intro s0 x2 hq  hw; exact hw
  | succ m ih => intro s0 x2 hq  hw; exact ffb_Coder_translate_67 hq  (fun A' y0 f1 q => ih A' y0 (fun A' f q => hq A' (f1.tr f rfl rfl) q)  q) hw
theorem ffm_Coder_translate {s0 : cS} {a0 : Int} {Q Q' : cS → Prop} (hw : wc_Coder_translate s0 a0 Q) (hq : ∀ (A' : cS), ySm s0 A' [1, 2, 4, 5, 6, 10, 24, 25, 26, 27, 28, 29, 30, 31, 32, 33] [4, 5, 13, 14, 15, 16, 17, 18, 19, 20, 21, 22, 23, 24, 37, 38, 39, 40] → Q A' → Q' A') : wc_Coder_translate s0 a0 Q' := by
  unfold wc_Coder_translate at hw ⊢
  refine ffm_Scope_clear hw (fun A2 f1 h8 => ?_)
  refine ffm_Coder_leaveAll h8 (fun A22 f2 h28 => ?_)
  obtain ⟨m84, hm85, h86⟩ := h28
  refine ⟨m84, hm85, ?_⟩
  refine ffG_C m84 _ _ _ _ _ _ _ h86 (fun r87 A88 f3 h94 => ?_)
  obtain ⟨m95, h96⟩ := h94
  exact ⟨m95, ffl_Coder_translate_670 m95 _ _ (fun A' f q => hq A' ((((((((((((ySm.rf.tr f1 rfl rfl).cut rfl).cut rfl).cut rfl).tr f2 rfl rfl).pv rfl).pv rfl).pv rfl).pv rfl).pv rfl).tr f3 rfl rfl).tr f rfl rfl) q)  h96⟩
theorem ffm_Parser_root {s0 : cS}  {Q Q' : Int → cS → Prop} (hw : wc_Parser_root s0  Q) (hq : ∀ (e : Int) (A' : cS), ySm s0 A' [] [] → Q e A' → Q' e A') : wc_Parser_root s0  Q' := by
  unfold wc_Parser_root at hw ⊢
  exact hq _ _ ySm.rf hw
theorem ffm_Parser_place {s0 : cS}  {Q Q' : Int → cS → Prop} (hw : wc_Parser_place s0  Q) (hq : ∀ (e : Int) (A' : cS), ySm s0 A' [] [] → Q e A' → Q' e A') : wc_Parser_place s0  Q' := by
  unfold wc_Parser_place at hw ⊢
  exact hq _ _ ySm.rf hw
theorem ffm_Parser_kind {s0 : cS}  {Q Q' : Int → cS → Prop} (hw : wc_Parser_kind s0  Q) (hq : ∀ (e : Int) (A' : cS), ySm s0 A' [] [] → Q e A' → Q' e A') : wc_Parser_kind s0  Q' := by
  unfold wc_Parser_kind at hw ⊢
  exact hq _ _ ySm.rf hw
theorem ffm_Parser_info {s0 : cS}  {Q Q' : Int → cS → Prop} (hw : wc_Parser_info s0  Q) (hq : ∀ (e : Int) (A' : cS), ySm s0 A' [] [] → Q e A' → Q' e A') : wc_Parser_info s0  Q' := by
  unfold wc_Parser_info at hw ⊢
  exact hq _ _ ySm.rf hw
theorem ffm_Parser_advance {s0 : cS}  {Q Q' : cS → Prop} (hw : wc_Parser_advance s0  Q) (hq : ∀ (A' : cS), ySm s0 A' [] [10] → Q A' → Q' A') : wc_Parser_advance s0  Q' := by
  unfold wc_Parser_advance at hw ⊢
  refine ⟨fun c1 => ?_, fun c1 => ?_⟩
  · have h2 := hw.1 c1
    exact hq _ ySm.rf h2
  · have h3 := hw.2 c1
    obtain ⟨o4, h5⟩ := h3
    refine ⟨o4, ?_⟩
    exact hq _ (ySm.rf.pv rfl) h5
theorem ffm_Parser_leaf {s0 : cS} {a0 : Int} {Q Q' : Int → cS → Prop} (hw : wc_Parser_leaf s0 a0 Q) (hq : ∀ (e : Int) (A' : cS), ySm s0 A' [7, 8, 9, 10, 11, 12, 13] [10] → Q e A' → Q' e A') : wc_Parser_leaf s0 a0 Q' := by
  unfold wc_Parser_leaf at hw ⊢
  refine ffm_Parser_place hw (fun r1 A2 f1 h8 => ?_)
  refine ffm_Parser_info h8 (fun r9 A10 f2 h16 => ?_)
  refine ffm_Tree_node h16 (fun r17 A18 f3 h24 => ?_)
  refine ffm_Parser_advance h24 (fun A26 f4 h32 => ?_)
  exact hq _ _ ((((ySm.rf.tr f1 rfl rfl).tr f2 rfl rfl).tr f3 rfl rfl).tr f4 rfl rfl) h32
theorem ffb_Parser_labels_2 {Q Q' : cS → Prop} {k2 k2' : cS → Int → Int → Prop} {s0 : cS} {x1 : Int} {x2 : Int} (hq : ∀ (A' : cS), ySm s0 A' [7, 8, 9, 10, 11, 12, 13] [10] → Q A' → Q' A') (fk2 : ∀ (A' : cS) (x0 : Int) (x1 : Int), ySm s0 A' [7, 8, 9, 10, 11, 12, 13] [10] → k2 A' x0 x1 → k2' A' x0 x1) (hw : wc_Parser_labels_2B Q k2 s0 x1 x2) : wc_Parser_labels_2B Q' k2' s0 x1 x2 := by
  unfold wc_Parser_labels_2B at hw ⊢
  refine ⟨fun c1 => ?_, fun c1 => ?_⟩
  · have h2 := hw.1 c1
    exact hq _ ySm.rf h2
  · have h3 := hw.2 c1
    refine ffm_Parser_kind h3 (fun r4 A5 f1 h11 => ?_)
    refine ⟨fun c12 => ?_, fun c12 => ?_⟩
    · have h13 := h11.1 c12
      exact hq _ (ySm.rf.tr f1 rfl rfl) h13
    · have h14 := h11.2 c12
      obtain ⟨o15, h16⟩ := h14
      refine ⟨o15, ?_⟩
      refine ⟨fun c17 => ?_, fun c17 => ?_⟩
      · have h18 := h16.1 c17
        exact hq _ (ySm.rf.tr f1 rfl rfl) h18
      · have h19 := h16.2 c17
        refine ffm_Parser_leaf h19 (fun r20 A21 f2 h27 => ?_)
        refine ffm_Tree_hang h27 (fun A29 f3 h35 => ?_)
        refine ffm_Parser_advance h35 (fun A37 f4 h43 => ?_)
        obtain ⟨o44, h45⟩ := h43
        refine ⟨o44, ?_⟩
        exact fk2 _ _ _ ((((ySm.rf.tr f1 rfl rfl).tr f2 rfl rfl).tr f3 rfl rfl).tr f4 rfl rfl) h45
theorem ffl_Parser_labels_20 {Q Q' : cS → Prop}  : ∀ (m : Nat) (s0 : cS) (x1 : Int) (x2 : Int), (∀ (A' : cS), ySm s0 A' [7, 8, 9, 10, 11, 12, 13] [10] → Q A' → Q' A') → wc_Parser_labels_2 Q  m s0 x1 x2 → wc_Parser_labels_2 Q'  m s0 x1 x2 := by
  intro m
  induction m with
  | zero => intro s0 x1 x2 hq  hw; exact hw
  | succ m ih => intro s0 x1 x2 hq  hw; exact ffb_Parser_labels_2 hq  (fun A' y0 y1 f1 q => ih A' y0 y1 (fun A' f q => hq A' (f1.tr f rfl rfl) q)  q) hw
theorem ffm_Parser_labels {s0 : cS} {a0 : Int} {Q Q' : cS → Prop} (hw : wc_Parser_labels s0 a0 Q) (hq : ∀ (A' : cS), ySm s0 A' [7, 8, 9, 10, 11, 12, 13] [10] → Q A' → Q' A') : wc_Parser_labels s0 a0 Q' := by
  unfold wc_Parser_labels at hw ⊢
  obtain ⟨m1, h2⟩ := hw
  exact ⟨m1, ffl_Parser_labels_20 m1 _ _ _ (fun A' f q => hq A' (ySm.rf.tr f rfl rfl) q)  h2⟩
theorem ffb_Parser_isOpen_2 {Q Q' : Int → cS → Prop} {k2 k2' : cS → Int → Int → Prop} {s0 : cS} {x1 : Int} {x2 : Int} (hq : ∀ (e : Int) (A' : cS), ySm s0 A' [] [] → Q e A' → Q' e A') (fk2 : ∀ (A' : cS) (x0 : Int) (x1 : Int), ySm s0 A' [] [] → k2 A' x0 x1 → k2' A' x0 x1) (hw : wc_Parser_isOpen_2B Q k2 s0 x1 x2) : wc_Parser_isOpen_2B Q' k2' s0 x1 x2 := by
  unfold wc_Parser_isOpen_2B at hw ⊢
  refine ⟨fun c1 => ?_, fun c1 => ?_⟩
  · have h2 := hw.1 c1
    exact hq _ _ ySm.rf h2
  · have h3 := hw.2 c1
    refine ⟨fun c4 => ?_, fun c4 => ?_⟩
    · have h5 := h3.1 c4
      obtain ⟨o6, h7⟩ := h5
      refine ⟨o6, ?_⟩
      exact fk2 _ _ _ ySm.rf h7
    · have h8 := h3.2 c4
      exact hq _ _ ySm.rf h8
theorem ffl_Parser_isOpen_20 {Q Q' : Int → cS → Prop}  : ∀ (m : Nat) (s0 : cS) (x1 : Int) (x2 : Int), (∀ (e : Int) (A' : cS), ySm s0 A' [] [] → Q e A' → Q' e A') → wc_Parser_isOpen_2 Q  m s0 x1 x2 → wc_Parser_isOpen_2 Q'  m s0 x1 x2 := by
  intro m
  induction m with
  | zero => intro s0 x1 x2 hq  hw; exact hw
  | succ m ih => intro s0 x1 x2 hq  hw; exact ffb_Parser_isOpen_2 hq  (fun A' y0 y1 f1 q => ih A' y0 y1 (fun e A' f q => hq e A' (f1.tr f rfl rfl) q)  q) hw
theorem ffm_Parser_isOpen {s0 : cS} {a0 : Int} {Q Q' : Int → cS → Prop} (hw : wc_Parser_isOpen s0 a0 Q) (hq : ∀ (e : Int) (A' : cS), ySm s0 A' [] [] → Q e A' → Q' e A') : wc_Parser_isOpen s0 a0 Q' := by
  unfold wc_Parser_isOpen at hw ⊢
  obtain ⟨m1, h2⟩ := hw
  exact ⟨m1, ffl_Parser_isOpen_20 m1 _ _ _ (fun e A' f q => hq e A' (ySm.rf.tr f rfl rfl) q)  h2⟩
theorem ffm_Parser_isCall {s0 : cS} {a0 : Int} {Q Q' : Int → cS → Prop} (hw : wc_Parser_isCall s0 a0 Q) (hq : ∀ (e : Int) (A' : cS), ySm s0 A' [] [] → Q e A' → Q' e A') : wc_Parser_isCall s0 a0 Q' := by
  unfold wc_Parser_isCall at hw ⊢
  refine ffm_Tree_first hw (fun r1 A2 f1 h8 => ?_)
  refine ffm_Tree_kind h8 (fun r9 A10 f2 h16 => ?_)
  refine ⟨fun c17 => ?_, fun c17 => ?_⟩
  · have h18 := h16.1 c17
    exact hq _ _ ((ySm.rf.tr f1 rfl rfl).tr f2 rfl rfl) h18
  · have h19 := h16.2 c17
    refine ffm_Tree_next h19 (fun r20 A21 f3 h27 => ?_)
    refine ⟨fun c28 => ?_, fun c28 => ?_⟩
    · have h29 := h27.1 c28
      exact hq _ _ (((ySm.rf.tr f1 rfl rfl).tr f2 rfl rfl).tr f3 rfl rfl) h29
    · have h30 := h27.2 c28
      exact hq _ _ (((ySm.rf.tr f1 rfl rfl).tr f2 rfl rfl).tr f3 rfl rfl) h30
theorem ffm_Parser_isRepeat {s0 : cS} {a0 : Int} {Q Q' : Int → cS → Prop} (hw : wc_Parser_isRepeat s0 a0 Q) (hq : ∀ (e : Int) (A' : cS), ySm s0 A' [] [] → Q e A' → Q' e A') : wc_Parser_isRepeat s0 a0 Q' := by
  unfold wc_Parser_isRepeat at hw ⊢
  refine ⟨fun c1 => ?_, fun c1 => ?_⟩
  · have h2 := hw.1 c1
    exact hq _ _ ySm.rf h2
  · have h3 := hw.2 c1
    refine ⟨fun c4 => ?_, fun c4 => ?_⟩
    · have h5 := h3.1 c4
      exact hq _ _ ySm.rf h5
    · have h6 := h3.2 c4
      exact hq _ _ ySm.rf h6
theorem ffb_Parser_pack_32 {Q Q' : Int → cS → Prop} {k20 k20' : cS → Int → Int → Int → Int → Prop} {k32 k32' : cS → Int → Int → Int → Int → Int → Int → Prop} {s0 : cS} {x1 : Int} {x2 : Int} {x3 : Int} {x4 : Int} {x5 : Int} {x6 : Int} (hq : ∀ (e : Int) (A' : cS), ySm s0 A' [2] [] → Q e A' → Q' e A') (fk20 : ∀ (A' : cS) (x0 : Int) (x1 : Int) (x2 : Int) (x3 : Int), ySm s0 A' [2] [] → k20 A' x0 x1 x2 x3 → k20' A' x0 x1 x2 x3) (fk32 : ∀ (A' : cS) (x0 : Int) (x1 : Int) (x2 : Int) (x3 : Int) (x4 : Int) (x5 : Int), ySm s0 A' [2] [] → k32 A' x0 x1 x2 x3 x4 x5 → k32' A' x0 x1 x2 x3 x4 x5) (hw : wc_Parser_pack_32B Q k20 k32 s0 x1 x2 x3 x4 x5 x6) : wc_Parser_pack_32B Q' k20' k32' s0 x1 x2 x3 x4 x5 x6 := by
  unfold wc_Parser_pack_32B at hw ⊢
  refine ⟨fun c1 => ?_, fun c1 => ?_⟩
  · have h2 := hw.1 c1
    refine ffm_Program_addWord h2 (fun r3 A4 f1 h10 => ?_)
    obtain ⟨o11, h12⟩ := h10
    refine ⟨o11, ?_⟩
    exact fk20 _ _ _ _ _ (ySm.rf.tr f1 rfl rfl) h12
  · have h13 := hw.2 c1
    obtain ⟨o14, h15⟩ := h13
    refine ⟨o14, ?_⟩
    refine ⟨fun c16 => ?_, fun c16 => ?_⟩
    · have h17 := h15.1 c16
      refine ffm_Program_addWord h17 (fun r18 A19 f2 h25 => ?_)
      obtain ⟨o26, h27⟩ := h25
      refine ⟨o26, ?_⟩
      exact fk20 _ _ _ _ _ (ySm.rf.tr f2 rfl rfl) h27
    · have h28 := h15.2 c16
      intro z29 e30 R31
      have h32 := h28 z29 e30 R31
      intro z33 e34 R35
      have h36 := h32 z33 e34 R35
      obtain ⟨o37, h38⟩ := h36
      refine ⟨o37, ?_⟩
      exact fk32 _ _ _ _ _ _ _ ySm.rf h38
theorem ffl_Parser_pack_320 {Q Q' : Int → cS → Prop} {k20 k20' : cS → Int → Int → Int → Int → Prop} : ∀ (m : Nat) (s0 : cS) (x1 : Int) (x2 : Int) (x3 : Int) (x4 : Int) (x5 : Int) (x6 : Int), (∀ (e : Int) (A' : cS), ySm s0 A' [2] [] → Q e A' → Q' e A') → (∀ (A' : cS) (x0 : Int) (x1 : Int) (x2 : Int) (x3 : Int), ySm s0 A' [2] [] → k20 A' x0 x1 x2 x3 → k20' A' x0 x1 x2 x3) → wc_Parser_pack_32 Q k20 m s0 x1 x2 x3 x4 x5 x6 → wc_Parser_pack_32 Q' k20' m s0 x1 x2 x3 x4 x5 x6 := by
  intro m
  induction m with
  | zero => intro s0 x1 x2 x3 x4 x5 x6 hq fk20 hw; exact hw
  | succ m ih => intro s0 x1 x2 x3 x4 x5 x6 hq fk20 hw; exact ffb_Parser_pack_32 hq fk20 (fun A' y0 y1 y2 y3 y4 y5 f1 q => ih A' y0 y1 y2 y3 y4 y5 (fun e A' f q => hq e A' (f1.tr f rfl rfl) q) (fun A' z0 z1 z2 z3 f q => fk20 A' z0 z1 z2 z3 (f1.tr f rfl rfl) q) q) hw
theorem ffb_Parser_pack_20 {Q Q' : Int → cS → Prop} {k20 k20' : cS → Int → Int → Int → Int → Prop} {s0 : cS} {x1 : Int} {x2 : Int} {x3 : Int} {x4 : Int} (hq : ∀ (e : Int) (A' : cS), ySm s0 A' [2] [] → Q e A' → Q' e A') (fk20 : ∀ (A' : cS) (x0 : Int) (x1 : Int) (x2 : Int) (x3 : Int), ySm s0 A' [2] [] → k20 A' x0 x1 x2 x3 → k20' A' x0 x1 x2 x3) (hw : wc_Parser_pack_20B Q k20 s0 x1 x2 x3 x4) : wc_Parser_pack_20B Q' k20' s0 x1 x2 x3 x4 := by
  unfold wc_Parser_pack_20B at hw ⊢
  refine ⟨fun c1 => ?_, fun c1 => ?_⟩
  · have h2 := hw.1 c1
    exact hq _ _ ySm.rf h2
  · have h3 := hw.2 c1
    obtain ⟨m4, h5⟩ := h3
    exact ⟨m4, ffl_Parser_pack_320 m4 _ _ _ _ _ _ _ (fun e A' f q => hq e A' (ySm.rf.tr f rfl rfl) q) (fun A' x0 x1 x2 x3 f q => fk20 A' x0 x1 x2 x3 (ySm.rf.tr f rfl rfl) q) h5⟩
theorem ffl_Parser_pack_200 {Q Q' : Int → cS → Prop}  : ∀ (m : Nat) (s0 : cS) (x1 : Int) (x2 : Int) (x3 : Int) (x4 : Int), (∀ (e : Int) (A' : cS), ySm s0 A' [2] [] → Q e A' → Q' e A') → wc_Parser_pack_20 Q  m s0 x1 x2 x3 x4 → wc_Parser_pack_20 Q'  m s0 x1 x2 x3 x4 := by
  intro m
  induction m with
  | zero => intro s0 x1 x2 x3 x4 hq  hw; exact hw
  | succ m ih => intro s0 x1 x2 x3 x4 hq  hw; exact ffb_Parser_pack_20 hq  (fun A' y0 y1 y2 y3 f1 q => ih A' y0 y1 y2 y3 (fun e A' f q => hq e A' (f1.tr f rfl rfl) q)  q) hw
theorem ffm_Parser_pack {s0 : cS} {a0 : Int} {Q Q' : Int → cS → Prop} (hw : wc_Parser_pack s0 a0 Q) (hq : ∀ (e : Int) (A' : cS), ySm s0 A' [2] [] → Q e A' → Q' e A') : wc_Parser_pack s0 a0 Q' := by
  unfold wc_Parser_pack at hw ⊢
  refine ffm_Program_words hw (fun r1 A2 f1 h8 => ?_)
  obtain ⟨m9, h10⟩ := h8
  exact ⟨m9, ffl_Parser_pack_200 m9 _ _ _ _ _ (fun e A' f q => hq e A' ((ySm.rf.tr f1 rfl rfl).tr f rfl rfl) q)  h10⟩
theorem ffj_Parser_hangSigns_80 {Q Q' : cS → Prop} {k2 k2' : cS → Int → Int → Int → Prop} {s0 : cS} {x1 : Int} {x2 : Int} {x3 : Int} {x4 : Int} {x5 : Int} {x6 : Int} {y0 : Int} (hq : ∀ (A' : cS), ySm s0 A' [7, 8, 9, 10, 11, 12, 13, 22] [] → Q A' → Q' A') (fk2 : ∀ (A' : cS) (x0 : Int) (x1 : Int) (x2 : Int), ySm s0 A' [7, 8, 9, 10, 11, 12, 13, 22] [] → k2 A' x0 x1 x2 → k2' A' x0 x1 x2) (hw : wc_Parser_hangSigns_80 Q k2 s0 x1 x2 x3 x4 x5 x6 y0) : wc_Parser_hangSigns_80 Q' k2' s0 x1 x2 x3 x4 x5 x6 y0 := by
  unfold wc_Parser_hangSigns_80 at hw ⊢
  refine ⟨fun c1 => ?_, fun c1 => ?_⟩
  · have h2 := hw.1 c1
    refine ffm_Tree_node h2 (fun r3 A4 f1 h10 => ?_)
    refine ffm_Tree_hang h10 (fun A12 f2 h18 => ?_)
    obtain ⟨o19, h20⟩ := h18
    refine ⟨o19, ?_⟩
    exact fk2 _ _ _ _ ((ySm.rf.tr f1 rfl rfl).tr f2 rfl rfl) h20
  · have h21 := hw.2 c1
    refine ffm_Tree_node h21 (fun r22 A23 f3 h29 => ?_)
    refine ffm_Tree_hang h29 (fun A31 f4 h37 => ?_)
    obtain ⟨o38, h39⟩ := h37
    refine ⟨o38, ?_⟩
    exact fk2 _ _ _ _ ((ySm.rf.tr f3 rfl rfl).tr f4 rfl rfl) h39
theorem ffb_Parser_hangSigns_2 {Q Q' : cS → Prop} {k2 k2' : cS → Int → Int → Int → Prop} {s0 : cS} {x1 : Int} {x2 : Int} {x3 : Int} (hq : ∀ (A' : cS), ySm s0 A' [7, 8, 9, 10, 11, 12, 13, 22] [] → Q A' → Q' A') (fk2 : ∀ (A' : cS) (x0 : Int) (x1 : Int) (x2 : Int), ySm s0 A' [7, 8, 9, 10, 11, 12, 13, 22] [] → k2 A' x0 x1 x2 → k2' A' x0 x1 x2) (hw : wc_Parser_hangSigns_2B Q k2 s0 x1 x2 x3) : wc_Parser_hangSigns_2B Q' k2' s0 x1 x2 x3 := by
  unfold wc_Parser_hangSigns_2B at hw ⊢
  refine ⟨fun c1 => ?_, fun c1 => ?_⟩
  · have h2 := hw.1 c1
    exact hq _ ySm.rf h2
  · have h3 := hw.2 c1
    refine ⟨fun c4 => ?_, fun c4 => ?_⟩
    · have h5 := h3.1 c4
      exact hq _ ySm.rf h5
    · have h6 := h3.2 c4
      intro z7 e8 R9
      have h10 := h6 z7 e8 R9
      refine ⟨fun c19 => ?_, fun c19 => ?_⟩
      · have h20 := h10.1 c19
        refine ⟨fun c21 => ?_, fun c21 => ?_⟩
        · have h22 := h20.1 c21
          exact ffj_Parser_hangSigns_80 (fun A' f q => hq A' (((ySm.rf.pop rfl).pop rfl).tr f rfl rfl) q) (fun A' x0 x1 x2 f q => fk2 A' x0 x1 x2 (((ySm.rf.pop rfl).pop rfl).tr f rfl rfl) q) h22
        · have h23 := h20.2 c21
          exact ffj_Parser_hangSigns_80 (fun A' f q => hq A' (((ySm.rf.pop rfl).pop rfl).tr f rfl rfl) q) (fun A' x0 x1 x2 f q => fk2 A' x0 x1 x2 (((ySm.rf.pop rfl).pop rfl).tr f rfl rfl) q) h23
      · have h24 := h10.2 c19
        exact ffj_Parser_hangSigns_80 (fun A' f q => hq A' (((ySm.rf.pop rfl).pop rfl).tr f rfl rfl) q) (fun A' x0 x1 x2 f q => fk2 A' x0 x1 x2 (((ySm.rf.pop rfl).pop rfl).tr f rfl rfl) q) h24
theorem ffl_Parser_hangSigns_20 {Q Q' : cS → Prop}  : ∀ (m : Nat) (s0 : cS) (x1 : Int) (x2 : Int) (x3 : Int), (∀ (A' : cS), ySm s0 A' [7, 8, 9, 10, 11, 12, 13, 22] [] → Q A' → Q' A') → wc_Parser_hangSigns_2 Q  m s0 x1 x2 x3 → wc_Parser_hangSigns_2 Q'  m s0 x1 x2 x3 := by
  intro m
  induction m with
  | zero => intro s0 x1 x2 x3 hq  hw; exact hw
  | succ m ih => intro s0 x1 x2 x3 hq  hw; exact ffb_Parser_hangSigns_2 hq  (fun A' y0 y1 y2 f1 q => ih A' y0 y1 y2 (fun A' f q => hq A' (f1.tr f rfl rfl) q)  q) hw
theorem ffm_Parser_hangSigns {s0 : cS} {a0 : Int} {a1 : Int} {Q Q' : cS → Prop} (hw : wc_Parser_hangSigns s0 a0 a1 Q) (hq : ∀ (A' : cS), ySm s0 A' [7, 8, 9, 10, 11, 12, 13, 22] [] → Q A' → Q' A') : wc_Parser_hangSigns s0 a0 a1 Q' := by
  unfold wc_Parser_hangSigns at hw ⊢
  obtain ⟨m1, h2⟩ := hw
  exact ⟨m1, ffl_Parser_hangSigns_20 m1 _ _ _ _ (fun A' f q => hq A' (ySm.rf.tr f rfl rfl) q)  h2⟩
theorem ffb_Parser_settle_3 {Q Q' : cS → Prop} {k3 k3' : cS → Int → Int → Int → Int → Prop} {s0 : cS} {x1 : Int} {x2 : Int} {x3 : Int} {x4 : Int} (hq : ∀ (A' : cS), ySm s0 A' [7, 8, 9, 10, 11, 12, 13, 22] [] → Q A' → Q' A') (fk3 : ∀ (A' : cS) (x0 : Int) (x1 : Int) (x2 : Int) (x3 : Int), ySm s0 A' [7, 8, 9, 10, 11, 12, 13, 22] [] → k3 A' x0 x1 x2 x3 → k3' A' x0 x1 x2 x3) (hw : wc_Parser_settle_3B Q k3 s0 x1 x2 x3 x4) : wc_Parser_settle_3B Q' k3' s0 x1 x2 x3 x4 := by
  unfold wc_Parser_settle_3B at hw ⊢
  refine ⟨fun c1 => ?_, fun c1 => ?_⟩
  · have h2 := hw.1 c1
    exact hq _ ySm.rf h2
  · have h3 := hw.2 c1
    refine ⟨fun c4 => ?_, fun c4 => ?_⟩
    · have h5 := h3.1 c4
      exact hq _ ySm.rf h5
    · have h6 := h3.2 c4
      intro z7 e8 R9
      have h10 := h6 z7 e8 R9
      refine ffm_W_power h10 (fun r11 A12 f1 h18 => ?_)
      refine ffm_W_power h18 (fun r19 A20 f2 h26 => ?_)
      refine ⟨fun c27 => ?_, fun c27 => ?_⟩
      · have h28 := h26.1 c27
        refine ffm_Tree_node h28 (fun r33 A34 f3 h40 => ?_)
        refine ffm_W_isRelation h40 (fun r41 A42 f4 h48 => ?_)
        refine ⟨fun c49 => ?_, fun c49 => ?_⟩
        · have h50 := h48.1 c49
          refine ffm_Tree_setExtra h50 (fun A52 f5 h58 => ?_)
          refine ffm_Tree_hang h58 (fun A60 f6 h66 => ?_)
          obtain ⟨o67, h68⟩ := h66
          refine ⟨o67, ?_⟩
          exact fk3 _ _ _ _ _ (((((((ySm.rf.tr f1 rfl rfl).tr f2 rfl rfl).pop rfl).tr f3 rfl rfl).tr f4 rfl rfl).tr f5 rfl rfl).tr f6 rfl rfl) h68
        · have h69 := h48.2 c49
          refine ffm_W_isRelation h69 (fun r70 A71 f7 h77 => ?_)
          refine ⟨fun c78 => ?_, fun c78 => ?_⟩
          · have h79 := h77.1 c78
            refine ffm_Tree_setExtra h79 (fun A81 f8 h87 => ?_)
            refine ffm_Tree_hang h87 (fun A89 f9 h95 => ?_)
            obtain ⟨o96, h97⟩ := h95
            refine ⟨o96, ?_⟩
            exact fk3 _ _ _ _ _ ((((((((ySm.rf.tr f1 rfl rfl).tr f2 rfl rfl).pop rfl).tr f3 rfl rfl).tr f4 rfl rfl).tr f7 rfl rfl).tr f8 rfl rfl).tr f9 rfl rfl) h97
          · have h98 := h77.2 c78
            refine ffm_Tree_setExtra h98 (fun A100 f10 h106 => ?_)
            refine ffm_Tree_hang h106 (fun A108 f11 h114 => ?_)
            obtain ⟨o115, h116⟩ := h114
            refine ⟨o115, ?_⟩
            exact fk3 _ _ _ _ _ ((((((((ySm.rf.tr f1 rfl rfl).tr f2 rfl rfl).pop rfl).tr f3 rfl rfl).tr f4 rfl rfl).tr f7 rfl rfl).tr f10 rfl rfl).tr f11 rfl rfl) h116
      · have h117 := h26.2 c27
        exact hq _ ((ySm.rf.tr f1 rfl rfl).tr f2 rfl rfl) h117
theorem ffl_Parser_settle_30 {Q Q' : cS → Prop}  : ∀ (m : Nat) (s0 : cS) (x1 : Int) (x2 : Int) (x3 : Int) (x4 : Int), (∀ (A' : cS), ySm s0 A' [7, 8, 9, 10, 11, 12, 13, 22] [] → Q A' → Q' A') → wc_Parser_settle_3 Q  m s0 x1 x2 x3 x4 → wc_Parser_settle_3 Q'  m s0 x1 x2 x3 x4 := by
  intro m
  induction m with
  | zero => intro s0 x1 x2 x3 x4 hq  hw; exact hw
  | succ m ih => intro s0 x1 x2 x3 x4 hq  hw; exact ffb_Parser_settle_3 hq  (fun A' y0 y1 y2 y3 f1 q => ih A' y0 y1 y2 y3 (fun A' f q => hq A' (f1.tr f rfl rfl) q)  q) hw
theorem ffm_Parser_settle {s0 : cS} {a0 : Int} {a1 : Int} {a2 : Int} {Q Q' : cS → Prop} (hw : wc_Parser_settle s0 a0 a1 a2 Q) (hq : ∀ (A' : cS), ySm s0 A' [7, 8, 9, 10, 11, 12, 13, 22] [] → Q A' → Q' A') : wc_Parser_settle s0 a0 a1 a2 Q' := by
  unfold wc_Parser_settle at hw ⊢
  obtain ⟨m1, h2⟩ := hw
  exact ⟨m1, ffl_Parser_settle_30 m1 _ _ _ _ _ (fun A' f q => hq A' (ySm.rf.tr f rfl rfl) q)  h2⟩
theorem ffb_Parser_isGlobal_2 {Q Q' : Int → cS → Prop} {k2 k2' : cS → Int → Int → Prop} {s0 : cS} {x1 : Int} {x2 : Int} (hq : ∀ (e : Int) (A' : cS), ySm s0 A' [] [] → Q e A' → Q' e A') (fk2 : ∀ (A' : cS) (x0 : Int) (x1 : Int), ySm s0 A' [] [] → k2 A' x0 x1 → k2' A' x0 x1) (hw : wc_Parser_isGlobal_2B Q k2 s0 x1 x2) : wc_Parser_isGlobal_2B Q' k2' s0 x1 x2 := by
  unfold wc_Parser_isGlobal_2B at hw ⊢
  refine ⟨fun c1 => ?_, fun c1 => ?_⟩
  · have h2 := hw.1 c1
    exact hq _ _ ySm.rf h2
  · have h3 := hw.2 c1
    refine ⟨fun c4 => ?_, fun c4 => ?_⟩
    · have h5 := h3.1 c4
      obtain ⟨o6, h7⟩ := h5
      refine ⟨o6, ?_⟩
      exact fk2 _ _ _ ySm.rf h7
    · have h8 := h3.2 c4
      exact hq _ _ ySm.rf h8
theorem ffl_Parser_isGlobal_20 {Q Q' : Int → cS → Prop}  : ∀ (m : Nat) (s0 : cS) (x1 : Int) (x2 : Int), (∀ (e : Int) (A' : cS), ySm s0 A' [] [] → Q e A' → Q' e A') → wc_Parser_isGlobal_2 Q  m s0 x1 x2 → wc_Parser_isGlobal_2 Q'  m s0 x1 x2 := by
  intro m
  induction m with
  | zero => intro s0 x1 x2 hq  hw; exact hw
  | succ m ih => intro s0 x1 x2 hq  hw; exact ffb_Parser_isGlobal_2 hq  (fun A' y0 y1 f1 q => ih A' y0 y1 (fun e A' f q => hq e A' (f1.tr f rfl rfl) q)  q) hw
theorem ffm_Parser_isGlobal {s0 : cS} {a0 : Int} {Q Q' : Int → cS → Prop} (hw : wc_Parser_isGlobal s0 a0 Q) (hq : ∀ (e : Int) (A' : cS), ySm s0 A' [] [] → Q e A' → Q' e A') : wc_Parser_isGlobal s0 a0 Q' := by
  unfold wc_Parser_isGlobal at hw ⊢
  obtain ⟨m1, h2⟩ := hw
  exact ⟨m1, ffl_Parser_isGlobal_20 m1 _ _ _ (fun e A' f q => hq e A' (ySm.rf.tr f rfl rfl) q)  h2⟩
theorem ffm_Parser_refuse {s0 : cS}  {Q Q' : cS → Prop} {E E' : cS → Prop} (hw : wc_Parser_refuse s0  Q E) (hq : ∀ (A' : cS), ySm s0 A' [] [4, 5] → Q A' → Q' A') (hE : ∀ (A' : cS), ySm s0 A' [] [4, 5] → E A' → E' A') : wc_Parser_refuse s0  Q' E' := by
  unfold wc_Parser_refuse at hw ⊢
  refine ⟨fun c1 => ?_, fun c1 => ?_⟩
  · have h2 := hw.1 c1
    refine ffm_Program_blame h2 (fun A4 f1 h10 => ?_)
    exact hE _ (ySm.rf.tr f1 rfl rfl) h10
  · have h11 := hw.2 c1
    refine ffm_Program_blame h11 (fun A13 f2 h19 => ?_)
    exact hE _ (ySm.rf.tr f2 rfl rfl) h19
theorem ffm_Parser_enter {s0 : cS}  {Q Q' : cS → Prop} {E E' : cS → Prop} (hw : wc_Parser_enter s0  Q E) (hq : ∀ (A' : cS), ySm s0 A' [] [4, 5, 11] → Q A' → Q' A') (hE : ∀ (A' : cS), ySm s0 A' [] [4, 5, 11] → E A' → E' A') : wc_Parser_enter s0  Q' E' := by
  unfold wc_Parser_enter at hw ⊢
  refine ⟨fun c1 => ?_, fun c1 => ?_⟩
  · have h2 := hw.1 c1
    obtain ⟨o3, h4⟩ := h2
    refine ⟨o3, ?_⟩
    exact hq _ (ySm.rf.pv rfl) h4
  · have h16 := hw.2 c1
    refine ffm_Parser_refuse h16 (fun A18 f1 h24 => ?_) (fun A9 f9 q9 => hE A9 (ySm.rf.tr f9 rfl rfl) q9)
    obtain ⟨o25, h26⟩ := h24
    refine ⟨o25, ?_⟩
    exact hq _ ((ySm.rf.tr f1 rfl rfl).pv rfl) h26
theorem ffm_Parser_open {s0 : cS}  {Q Q' : cS → Prop} {E E' : cS → Prop} (hw : wc_Parser_open s0  Q E) (hq : ∀ (A' : cS), ySm s0 A' [21] [4, 5, 10, 11] → Q A' → Q' A') (hE : ∀ (A' : cS), ySm s0 A' [21] [4, 5, 10, 11] → E A' → E' A') : wc_Parser_open s0  Q' E' := by
  unfold wc_Parser_open at hw ⊢
  refine ffm_Parser_kind hw (fun r1 A2 f1 h8 => ?_)
  refine ⟨fun c9 => ?_, fun c9 => ?_⟩
  · have h10 := h8.1 c9
    refine ffm_Parser_enter h10 (fun A12 f2 h18 => ?_) (fun A9 f9 q9 => hE A9 ((ySm.rf.tr f1 rfl rfl).tr f9 rfl rfl) q9)
    refine ffm_Parser_info h18 (fun r19 A20 f3 h26 => ?_)
    obtain ⟨o31, h32⟩ := h26
    refine ⟨o31, ?_⟩
    refine ffm_Parser_advance h32 (fun A34 f4 h40 => ?_)
    exact hq _ (((((ySm.rf.tr f1 rfl rfl).tr f2 rfl rfl).tr f3 rfl rfl).add rfl).tr f4 rfl rfl) h40
  · have h41 := h8.2 c9
    refine ffm_Parser_refuse h41 (fun A43 f5 h49 => ?_) (fun A9 f9 q9 => hE A9 ((ySm.rf.tr f1 rfl rfl).tr f9 rfl rfl) q9)
    refine ffm_Parser_enter h49 (fun A51 f6 h57 => ?_) (fun A9 f9 q9 => hE A9 (((ySm.rf.tr f1 rfl rfl).tr f5 rfl rfl).tr f9 rfl rfl) q9)
    refine ffm_Parser_info h57 (fun r58 A59 f7 h65 => ?_)
    obtain ⟨o70, h71⟩ := h65
    refine ⟨o70, ?_⟩
    refine ffm_Parser_advance h71 (fun A73 f8 h79 => ?_)
    exact hq _ ((((((ySm.rf.tr f1 rfl rfl).tr f5 rfl rfl).tr f6 rfl rfl).tr f7 rfl rfl).add rfl).tr f8 rfl rfl) h79
theorem ffm_Parser_due {s0 : cS} {a0 : Int} {Q Q' : cS → Prop} {E E' : cS → Prop} (hw : wc_Parser_due s0 a0 Q E) (hq : ∀ (A' : cS), ySm s0 A' [] [4, 5, 10] → Q A' → Q' A') (hE : ∀ (A' : cS), ySm s0 A' [] [4, 5, 10] → E A' → E' A') : wc_Parser_due s0 a0 Q' E' := by
  unfold wc_Parser_due at hw ⊢
  refine ffm_Parser_kind hw (fun r1 A2 f1 h8 => ?_)
  refine ⟨fun c9 => ?_, fun c9 => ?_⟩
  · have h10 := h8.1 c9
    refine ffm_Parser_advance h10 (fun A12 f2 h18 => ?_)
    exact hq _ ((ySm.rf.tr f1 rfl rfl).tr f2 rfl rfl) h18
  · have h19 := h8.2 c9
    refine ffm_Parser_refuse h19 (fun A21 f3 h27 => ?_) (fun A9 f9 q9 => hE A9 ((ySm.rf.tr f1 rfl rfl).tr f9 rfl rfl) q9)
    refine ffm_Parser_advance h27 (fun A29 f4 h35 => ?_)
    exact hq _ (((ySm.rf.tr f1 rfl rfl).tr f3 rfl rfl).tr f4 rfl rfl) h35
theorem ffm_Parser_nameDue {s0 : cS}  {Q Q' : Int → cS → Prop} {E E' : cS → Prop} (hw : wc_Parser_nameDue s0  Q E) (hq : ∀ (e : Int) (A' : cS), ySm s0 A' [] [4, 5, 10] → Q e A' → Q' e A') (hE : ∀ (A' : cS), ySm s0 A' [] [4, 5, 10] → E A' → E' A') : wc_Parser_nameDue s0  Q' E' := by
  unfold wc_Parser_nameDue at hw ⊢
  refine ffm_Parser_info hw (fun r1 A2 f1 h8 => ?_)
  refine ffm_Parser_due h8 (fun A10 f2 h16 => ?_) (fun A9 f9 q9 => hE A9 ((ySm.rf.tr f1 rfl rfl).tr f9 rfl rfl) q9)
  exact hq _ _ ((ySm.rf.tr f1 rfl rfl).tr f2 rfl rfl) h16
theorem ffj_Parser_passSigns_80 {Q Q' : cS → Prop} {E E' : cS → Prop} {k4 k4' : cS → Int → Int → Prop} {s0 : cS} {x2 : Int} {x3 : Int} {x4 : Int} {x5 : Int} (hq : ∀ (A' : cS), ySm s0 A' [22] [4, 5, 10, 11] → Q A' → Q' A') (hE : ∀ (A' : cS), ySm s0 A' [22] [4, 5, 10, 11] → E A' → E' A') (fk4 : ∀ (A' : cS) (x0 : Int) (x1 : Int), ySm s0 A' [22] [4, 5, 10, 11] → k4 A' x0 x1 → k4' A' x0 x1) (hw : wc_Parser_passSigns_80 Q E k4 s0 x2 x3 x4 x5) : wc_Parser_passSigns_80 Q' E' k4' s0 x2 x3 x4 x5 := by
  unfold wc_Parser_passSigns_80 at hw ⊢
  refine ⟨fun c1 => ?_, fun c1 => ?_⟩
  · have h2 := hw.1 c1
    refine ffm_Parser_enter h2 (fun A4 f1 h10 => ?_) (fun A9 f9 q9 => hE A9 (ySm.rf.tr f9 rfl rfl) q9)
    refine ffm_Parser_place h10 (fun r11 A12 f2 h18 => ?_)
    intro z19 e20 R21
    have h22 := h18 z19 e20 R21
    intro z23 e24 R25
    have h26 := h22 z23 e24 R25
    refine ffm_Parser_advance h26 (fun A28 f3 h34 => ?_)
    refine ffm_Parser_place h34 (fun r35 A36 f4 h42 => ?_)
    obtain ⟨o47, h48⟩ := h42
    refine ⟨o47, ?_⟩
    obtain ⟨o53, h54⟩ := h48
    refine ⟨o53, ?_⟩
    obtain ⟨o55, h56⟩ := h54
    refine ⟨o55, ?_⟩
    exact fk4 _ _ _ ((((((ySm.rf.tr f1 rfl rfl).tr f2 rfl rfl).tr f3 rfl rfl).tr f4 rfl rfl).add rfl).add rfl) h56
  · have h57 := hw.2 c1
    refine ⟨fun c58 => ?_, fun c58 => ?_⟩
    · have h59 := h57.1 c58
      refine ffm_Parser_enter h59 (fun A61 f5 h67 => ?_) (fun A9 f9 q9 => hE A9 (ySm.rf.tr f9 rfl rfl) q9)
      refine ffm_Parser_place h67 (fun r68 A69 f6 h75 => ?_)
      intro z76 e77 R78
      have h79 := h75 z76 e77 R78
      intro z80 e81 R82
      have h83 := h79 z80 e81 R82
      refine ffm_Parser_advance h83 (fun A85 f7 h91 => ?_)
      refine ffm_Parser_place h91 (fun r92 A93 f8 h99 => ?_)
      obtain ⟨o104, h105⟩ := h99
      refine ⟨o104, ?_⟩
      obtain ⟨o110, h111⟩ := h105
      refine ⟨o110, ?_⟩
      obtain ⟨o112, h113⟩ := h111
      refine ⟨o112, ?_⟩
      exact fk4 _ _ _ ((((((ySm.rf.tr f5 rfl rfl).tr f6 rfl rfl).tr f7 rfl rfl).tr f8 rfl rfl).add rfl).add rfl) h113
    · have h114 := h57.2 c58
      refine ffm_Parser_enter h114 (fun A116 f9 h122 => ?_) (fun A9 f9 q9 => hE A9 (ySm.rf.tr f9 rfl rfl) q9)
      refine ffm_Parser_place h122 (fun r123 A124 f10 h130 => ?_)
      intro z131 e132 R133
      have h134 := h130 z131 e132 R133
      intro z135 e136 R137
      have h138 := h134 z135 e136 R137
      refine ffm_Parser_advance h138 (fun A140 f11 h146 => ?_)
      refine ffm_Parser_place h146 (fun r147 A148 f12 h154 => ?_)
      obtain ⟨o159, h160⟩ := h154
      refine ⟨o159, ?_⟩
      obtain ⟨o165, h166⟩ := h160
      refine ⟨o165, ?_⟩
      obtain ⟨o167, h168⟩ := h166
      refine ⟨o167, ?_⟩
      exact fk4 _ _ _ ((((((ySm.rf.tr f9 rfl rfl).tr f10 rfl rfl).tr f11 rfl rfl).tr f12 rfl rfl).add rfl).add rfl) h168
theorem ffj_Parser_passSigns_42 {Q Q' : cS → Prop} {E E' : cS → Prop} {k4 k4' : cS → Int → Int → Prop} {s0 : cS} {x2 : Int} {x3 : Int} {x4 : Int} {y0 : Int} (hq : ∀ (A' : cS), ySm s0 A' [22] [4, 5, 10, 11] → Q A' → Q' A') (hE : ∀ (A' : cS), ySm s0 A' [22] [4, 5, 10, 11] → E A' → E' A') (fk4 : ∀ (A' : cS) (x0 : Int) (x1 : Int), ySm s0 A' [22] [4, 5, 10, 11] → k4 A' x0 x1 → k4' A' x0 x1) (hw : wc_Parser_passSigns_42 Q E k4 s0 x2 x3 x4 y0) : wc_Parser_passSigns_42 Q' E' k4' s0 x2 x3 x4 y0 := by
  unfold wc_Parser_passSigns_42 at hw ⊢
  refine ⟨fun c1 => ?_, fun c1 => ?_⟩
  · have h2 := hw.1 c1
    exact ffj_Parser_passSigns_80 (fun A' f q => hq A' (ySm.rf.tr f rfl rfl) q) (fun A' f q => hE A' (ySm.rf.tr f rfl rfl) q) (fun A' x0 x1 f q => fk4 A' x0 x1 (ySm.rf.tr f rfl rfl) q) h2
  · have h4 := hw.2 c1
    refine ⟨fun c5 => ?_, fun c5 => ?_⟩
    · have h6 := h4.1 c5
      refine ⟨fun c8 => ?_, fun c8 => ?_⟩
      · have h9 := h6.1 c8
        exact hq _ ySm.rf h9
      · have h10 := h6.2 c8
        refine ⟨fun c11 => ?_, fun c11 => ?_⟩
        · have h12 := h10.1 c11
          exact ffj_Parser_passSigns_80 (fun A' f q => hq A' (ySm.rf.tr f rfl rfl) q) (fun A' f q => hE A' (ySm.rf.tr f rfl rfl) q) (fun A' x0 x1 f q => fk4 A' x0 x1 (ySm.rf.tr f rfl rfl) q) h12
        · have h13 := h10.2 c11
          exact hq _ ySm.rf h13
    · have h14 := h4.2 c5
      exact ffj_Parser_passSigns_80 (fun A' f q => hq A' (ySm.rf.tr f rfl rfl) q) (fun A' f q => hE A' (ySm.rf.tr f rfl rfl) q) (fun A' x0 x1 f q => fk4 A' x0 x1 (ySm.rf.tr f rfl rfl) q) h14
theorem ffb_Parser_passSigns_4 {Q Q' : cS → Prop} {E E' : cS → Prop} {k4 k4' : cS → Int → Int → Prop} {s0 : cS} {x2 : Int} {x3 : Int} (hq : ∀ (A' : cS), ySm s0 A' [22] [4, 5, 10, 11] → Q A' → Q' A') (hE : ∀ (A' : cS), ySm s0 A' [22] [4, 5, 10, 11] → E A' → E' A') (fk4 : ∀ (A' : cS) (x0 : Int) (x1 : Int), ySm s0 A' [22] [4, 5, 10, 11] → k4 A' x0 x1 → k4' A' x0 x1) (hw : wc_Parser_passSigns_4B Q E k4 s0 x2 x3) : wc_Parser_passSigns_4B Q' E' k4' s0 x2 x3 := by
  unfold wc_Parser_passSigns_4B at hw ⊢
  refine ⟨fun c1 => ?_, fun c1 => ?_⟩
  · have h2 := hw.1 c1
    exact hq _ ySm.rf h2
  · have h3 := hw.2 c1
    refine ffm_Parser_kind h3 (fun r4 A5 f1 h11 => ?_)
    refine ⟨fun c12 => ?_, fun c12 => ?_⟩
    · have h13 := h11.1 c12
      exact ffj_Parser_passSigns_42 (fun A' f q => hq A' ((ySm.rf.tr f1 rfl rfl).tr f rfl rfl) q) (fun A' f q => hE A' ((ySm.rf.tr f1 rfl rfl).tr f rfl rfl) q) (fun A' x0 x1 f q => fk4 A' x0 x1 ((ySm.rf.tr f1 rfl rfl).tr f rfl rfl) q) h13
    · have h14 := h11.2 c12
      refine ⟨fun c15 => ?_, fun c15 => ?_⟩
      · have h16 := h14.1 c15
        exact ffj_Parser_passSigns_42 (fun A' f q => hq A' ((ySm.rf.tr f1 rfl rfl).tr f rfl rfl) q) (fun A' f q => hE A' ((ySm.rf.tr f1 rfl rfl).tr f rfl rfl) q) (fun A' x0 x1 f q => fk4 A' x0 x1 ((ySm.rf.tr f1 rfl rfl).tr f rfl rfl) q) h16
      · have h17 := h14.2 c15
        refine ⟨fun c18 => ?_, fun c18 => ?_⟩
        · have h19 := h17.1 c18
          exact ffj_Parser_passSigns_42 (fun A' f q => hq A' ((ySm.rf.tr f1 rfl rfl).tr f rfl rfl) q) (fun A' f q => hE A' ((ySm.rf.tr f1 rfl rfl).tr f rfl rfl) q) (fun A' x0 x1 f q => fk4 A' x0 x1 ((ySm.rf.tr f1 rfl rfl).tr f rfl rfl) q) h19
        · have h20 := h17.2 c18
          exact ffj_Parser_passSigns_42 (fun A' f q => hq A' ((ySm.rf.tr f1 rfl rfl).tr f rfl rfl) q) (fun A' f q => hE A' ((ySm.rf.tr f1 rfl rfl).tr f rfl rfl) q) (fun A' x0 x1 f q => fk4 A' x0 x1 ((ySm.rf.tr f1 rfl rfl).tr f rfl rfl) q) h20
theorem ffl_Parser_passSigns_40 {Q Q' : cS → Prop} {E E' : cS → Prop}  : ∀ (m : Nat) (s0 : cS) (x2 : Int) (x3 : Int), (∀ (A' : cS), ySm s0 A' [22] [4, 5, 10, 11] → Q A' → Q' A') → (∀ (A' : cS), ySm s0 A' [22] [4, 5, 10, 11] → E A' → E' A') → wc_Parser_passSigns_4 Q E  m s0 x2 x3 → wc_Parser_passSigns_4 Q' E'  m s0 x2 x3 := by
  intro m
  induction m with
  | zero => intro s0 x2 x3 hq hE  hw; exact hw
  | succ m ih => intro s0 x2 x3 hq hE  hw; exact ffb_Parser_passSigns_4 hq hE  (fun A' y0 y1 f1 q => ih A' y0 y1 (fun A' f q => hq A' (f1.tr f rfl rfl) q) (fun A' f q => hE A' (f1.tr f rfl rfl) q)  q) hw
theorem ffm_Parser_passSigns {s0 : cS} {a0 : Int} {Q Q' : cS → Prop} {E E' : cS → Prop} (hw : wc_Parser_passSigns s0 a0 Q E) (hq : ∀ (A' : cS), ySm s0 A' [22] [4, 5, 10, 11] → Q A' → Q' A') (hE : ∀ (A' : cS), ySm s0 A' [22] [4, 5, 10, 11] → E A' → E' A') : wc_Parser_passSigns s0 a0 Q' E' := by
  unfold wc_Parser_passSigns at hw ⊢
  obtain ⟨m1, h2⟩ := hw
  exact ⟨m1, ffl_Parser_passSigns_40 m1 _ _ _ (fun A' f q => hq A' (ySm.rf.tr f rfl rfl) q) (fun A' f q => hE A' (ySm.rf.tr f rfl rfl) q)  h2⟩
theorem ffj_Parser_close_13 {Q Q' : cS → Prop} {E E' : cS → Prop}  {s0 : cS}  (hq : ∀ (A' : cS), ySm s0 A' [21] [4, 5, 10, 11] → Q A' → Q' A') (hE : ∀ (A' : cS), ySm s0 A' [21] [4, 5, 10, 11] → E A' → E' A')  (hw : wc_Parser_close_13 Q E  s0 ) : wc_Parser_close_13 Q' E'  s0  := by
  unfold wc_Parser_close_13 at hw ⊢
  refine ffm_Parser_info hw (fun r1 A2 f1 h8 => ?_)
  refine ⟨fun c13 => ?_, fun c13 => ?_⟩
  · have h14 := h8.1 c13
    refine ffm_Parser_advance h14 (fun A16 f2 h22 => ?_)
    obtain ⟨o23, h24⟩ := h22
    refine ⟨o23, ?_⟩
    exact hq _ ((((ySm.rf.tr f1 rfl rfl).pop rfl).tr f2 rfl rfl).pv rfl) h24
  · have h36 := h8.2 c13
    refine ⟨fun c37 => ?_, fun c37 => ?_⟩
    · have h38 := h36.1 c37
      refine ffm_Parser_isOpen h38 (fun r39 A40 f3 h46 => ?_)
      refine ⟨fun c47 => ?_, fun c47 => ?_⟩
      · have h48 := h46.1 c47
        obtain ⟨o49, h50⟩ := h48
        refine ⟨o49, ?_⟩
        exact hq _ ((((ySm.rf.tr f1 rfl rfl).pop rfl).tr f3 rfl rfl).pv rfl) h50
      · have h62 := h46.2 c47
        refine ffm_Parser_refuse h62 (fun A64 f4 h70 => ?_) (fun A9 f9 q9 => hE A9 ((((ySm.rf.tr f1 rfl rfl).pop rfl).tr f3 rfl rfl).tr f9 rfl rfl) q9)
        obtain ⟨o71, h72⟩ := h70
        refine ⟨o71, ?_⟩
        exact hq _ (((((ySm.rf.tr f1 rfl rfl).pop rfl).tr f3 rfl rfl).tr f4 rfl rfl).pv rfl) h72
    · have h84 := h36.2 c37
      refine ffm_Parser_advance h84 (fun A86 f5 h92 => ?_)
      obtain ⟨o93, h94⟩ := h92
      refine ⟨o93, ?_⟩
      exact hq _ ((((ySm.rf.tr f1 rfl rfl).pop rfl).tr f5 rfl rfl).pv rfl) h94
theorem ffm_Parser_close {s0 : cS}  {Q Q' : cS → Prop} {E E' : cS → Prop} (hw : wc_Parser_close s0  Q E) (hq : ∀ (A' : cS), ySm s0 A' [21] [4, 5, 10, 11] → Q A' → Q' A') (hE : ∀ (A' : cS), ySm s0 A' [21] [4, 5, 10, 11] → E A' → E' A') : wc_Parser_close s0  Q' E' := by
  unfold wc_Parser_close at hw ⊢
  refine ffm_Parser_kind hw (fun r1 A2 f1 h8 => ?_)
  refine ⟨fun c9 => ?_, fun c9 => ?_⟩
  · have h10 := h8.1 c9
    exact ffj_Parser_close_13 (fun A' f q => hq A' ((ySm.rf.tr f1 rfl rfl).tr f rfl rfl) q) (fun A' f q => hE A' ((ySm.rf.tr f1 rfl rfl).tr f rfl rfl) q)  h10
  · have h11 := h8.2 c9
    refine ffm_Parser_refuse h11 (fun A13 f2 h19 => ?_) (fun A9 f9 q9 => hE A9 ((ySm.rf.tr f1 rfl rfl).tr f9 rfl rfl) q9)
    exact ffj_Parser_close_13 (fun A' f q => hq A' (((ySm.rf.tr f1 rfl rfl).tr f2 rfl rfl).tr f rfl rfl) q) (fun A' f q => hE A' (((ySm.rf.tr f1 rfl rfl).tr f2 rfl rfl).tr f rfl rfl) q)  h19
theorem ffj_Parser_passDo_33 {Q Q' : cS → Prop} {E E' : cS → Prop}  {s0 : cS} {x1 : Int} (hq : ∀ (A' : cS), ySm s0 A' [] [4, 5, 10] → Q A' → Q' A') (hE : ∀ (A' : cS), ySm s0 A' [] [4, 5, 10] → E A' → E' A')  (hw : wc_Parser_passDo_33 Q E  s0 x1) : wc_Parser_passDo_33 Q' E'  s0 x1 := by
  unfold wc_Parser_passDo_33 at hw ⊢
  refine ⟨fun c1 => ?_, fun c1 => ?_⟩
  · have h2 := hw.1 c1
    refine ⟨fun c3 => ?_, fun c3 => ?_⟩
    · have h4 := h2.1 c3
      exact hq _ ySm.rf h4
    · have h5 := h2.2 c3
      refine ffm_Parser_refuse h5 (fun A8 f1 h14 => ?_) (fun A9 f9 q9 => hE A9 (ySm.rf.tr f9 rfl rfl) q9)
      exact hq _ (ySm.rf.tr f1 rfl rfl) h14
  · have h15 := hw.2 c1
    refine ffm_Parser_advance h15 (fun A17 f2 h23 => ?_)
    exact hq _ (ySm.rf.tr f2 rfl rfl) h23
theorem ffm_Parser_passDo {s0 : cS}  {Q Q' : cS → Prop} {E E' : cS → Prop} (hw : wc_Parser_passDo s0  Q E) (hq : ∀ (A' : cS), ySm s0 A' [] [4, 5, 10] → Q A' → Q' A') (hE : ∀ (A' : cS), ySm s0 A' [] [4, 5, 10] → E A' → E' A') : wc_Parser_passDo s0  Q' E' := by
  unfold wc_Parser_passDo at hw ⊢
  refine ffm_Parser_kind hw (fun r1 A2 f1 h8 => ?_)
  refine ⟨fun c9 => ?_, fun c9 => ?_⟩
  · have h10 := h8.1 c9
    exact ffj_Parser_passDo_33 (fun A' f q => hq A' ((ySm.rf.tr f1 rfl rfl).tr f rfl rfl) q) (fun A' f q => hE A' ((ySm.rf.tr f1 rfl rfl).tr f rfl rfl) q)  h10
  · have h11 := h8.2 c9
    refine ⟨fun c12 => ?_, fun c12 => ?_⟩
    · have h13 := h11.1 c12
      exact ffj_Parser_passDo_33 (fun A' f q => hq A' ((ySm.rf.tr f1 rfl rfl).tr f rfl rfl) q) (fun A' f q => hE A' ((ySm.rf.tr f1 rfl rfl).tr f rfl rfl) q)  h13
    · have h14 := h11.2 c12
      refine ⟨fun c15 => ?_, fun c15 => ?_⟩
      · have h16 := h14.1 c15
        exact ffj_Parser_passDo_33 (fun A' f q => hq A' ((ySm.rf.tr f1 rfl rfl).tr f rfl rfl) q) (fun A' f q => hE A' ((ySm.rf.tr f1 rfl rfl).tr f rfl rfl) q)  h16
      · have h17 := h14.2 c15
        refine ⟨fun c18 => ?_, fun c18 => ?_⟩
        · have h19 := h17.1 c18
          exact ffj_Parser_passDo_33 (fun A' f q => hq A' ((ySm.rf.tr f1 rfl rfl).tr f rfl rfl) q) (fun A' f q => hE A' ((ySm.rf.tr f1 rfl rfl).tr f rfl rfl) q)  h19
        · have h20 := h17.2 c18
          refine ⟨fun c21 => ?_, fun c21 => ?_⟩
          · have h22 := h20.1 c21
            refine ⟨fun c23 => ?_, fun c23 => ?_⟩
            · have h24 := h22.1 c23
              exact hq _ (ySm.rf.tr f1 rfl rfl) h24
            · have h25 := h22.2 c23
              exact hq _ (ySm.rf.tr f1 rfl rfl) h25
          · have h27 := h20.2 c21
            refine ffm_Parser_advance h27 (fun A29 f2 h35 => ?_)
            exact hq _ ((ySm.rf.tr f1 rfl rfl).tr f2 rfl rfl) h35
theorem ffb_Parser_names_2 {Q Q' : cS → Prop} {E E' : cS → Prop} {k2 k2' : cS → Int → Int → Prop} {s0 : cS} {x1 : Int} {x2 : Int} (hq : ∀ (A' : cS), ySm s0 A' [7, 8, 9, 10, 11, 12, 13] [4, 5, 10] → Q A' → Q' A') (hE : ∀ (A' : cS), ySm s0 A' [7, 8, 9, 10, 11, 12, 13] [4, 5, 10] → E A' → E' A') (fk2 : ∀ (A' : cS) (x0 : Int) (x1 : Int), ySm s0 A' [7, 8, 9, 10, 11, 12, 13] [4, 5, 10] → k2 A' x0 x1 → k2' A' x0 x1) (hw : wc_Parser_names_2B Q E k2 s0 x1 x2) : wc_Parser_names_2B Q' E' k2' s0 x1 x2 := by
  unfold wc_Parser_names_2B at hw ⊢
  refine ⟨fun c1 => ?_, fun c1 => ?_⟩
  · have h2 := hw.1 c1
    exact hq _ ySm.rf h2
  · have h3 := hw.2 c1
    refine ffm_Parser_kind h3 (fun r4 A5 f1 h11 => ?_)
    refine ⟨fun c12 => ?_, fun c12 => ?_⟩
    · have h13 := h11.1 c12
      refine ffm_Parser_leaf h13 (fun r14 A15 f2 h21 => ?_)
      refine ffm_Tree_hang h21 (fun A23 f3 h29 => ?_)
      refine ffm_Parser_kind h29 (fun r30 A31 f4 h37 => ?_)
      refine ⟨fun c38 => ?_, fun c38 => ?_⟩
      · have h39 := h37.1 c38
        exact hq _ ((((ySm.rf.tr f1 rfl rfl).tr f2 rfl rfl).tr f3 rfl rfl).tr f4 rfl rfl) h39
      · have h40 := h37.2 c38
        refine ⟨fun c41 => ?_, fun c41 => ?_⟩
        · have h42 := h40.1 c41
          refine ffm_Parser_advance h42 (fun A44 f5 h50 => ?_)
          obtain ⟨o51, h52⟩ := h50
          refine ⟨o51, ?_⟩
          exact fk2 _ _ _ (((((ySm.rf.tr f1 rfl rfl).tr f2 rfl rfl).tr f3 rfl rfl).tr f4 rfl rfl).tr f5 rfl rfl) h52
        · have h53 := h40.2 c41
          exact hq _ ((((ySm.rf.tr f1 rfl rfl).tr f2 rfl rfl).tr f3 rfl rfl).tr f4 rfl rfl) h53
    · have h54 := h11.2 c12
      refine ffm_Parser_refuse h54 (fun A56 f6 h62 => ?_) (fun A9 f9 q9 => hE A9 ((ySm.rf.tr f1 rfl rfl).tr f9 rfl rfl) q9)
      refine ffm_Parser_leaf h62 (fun r63 A64 f7 h70 => ?_)
      refine ffm_Tree_hang h70 (fun A72 f8 h78 => ?_)
      refine ffm_Parser_kind h78 (fun r79 A80 f9 h86 => ?_)
      refine ⟨fun c87 => ?_, fun c87 => ?_⟩
      · have h88 := h86.1 c87
        exact hq _ (((((ySm.rf.tr f1 rfl rfl).tr f6 rfl rfl).tr f7 rfl rfl).tr f8 rfl rfl).tr f9 rfl rfl) h88
      · have h89 := h86.2 c87
        refine ⟨fun c90 => ?_, fun c90 => ?_⟩
        · have h91 := h89.1 c90
          refine ffm_Parser_advance h91 (fun A93 f10 h99 => ?_)
          obtain ⟨o100, h101⟩ := h99
          refine ⟨o100, ?_⟩
          exact fk2 _ _ _ ((((((ySm.rf.tr f1 rfl rfl).tr f6 rfl rfl).tr f7 rfl rfl).tr f8 rfl rfl).tr f9 rfl rfl).tr f10 rfl rfl) h101
        · have h102 := h89.2 c90
          exact hq _ (((((ySm.rf.tr f1 rfl rfl).tr f6 rfl rfl).tr f7 rfl rfl).tr f8 rfl rfl).tr f9 rfl rfl) h102
theorem ffl_Parser_names_20 {Q Q' : cS → Prop} {E E' : cS → Prop}  : ∀ (m : Nat) (s0 : cS) (x1 : Int) (x2 : Int), (∀ (A' : cS), ySm s0 A' [7, 8, 9, 10, 11, 12, 13] [4, 5, 10] → Q A' → Q' A') → (∀ (A' : cS), ySm s0 A' [7, 8, 9, 10, 11, 12, 13] [4, 5, 10] → E A' → E' A') → wc_Parser_names_2 Q E  m s0 x1 x2 → wc_Parser_names_2 Q' E'  m s0 x1 x2 := by
  intro m
  induction m with
  | zero => intro s0 x1 x2 hq hE  hw; exact hw
  | succ m ih => intro s0 x1 x2 hq hE  hw; exact ffb_Parser_names_2 hq hE  (fun A' y0 y1 f1 q => ih A' y0 y1 (fun A' f q => hq A' (f1.tr f rfl rfl) q) (fun A' f q => hE A' (f1.tr f rfl rfl) q)  q) hw
theorem ffm_Parser_names {s0 : cS} {a0 : Int} {Q Q' : cS → Prop} {E E' : cS → Prop} (hw : wc_Parser_names s0 a0 Q E) (hq : ∀ (A' : cS), ySm s0 A' [7, 8, 9, 10, 11, 12, 13] [4, 5, 10] → Q A' → Q' A') (hE : ∀ (A' : cS), ySm s0 A' [7, 8, 9, 10, 11, 12, 13] [4, 5, 10] → E A' → E' A') : wc_Parser_names s0 a0 Q' E' := by
  unfold wc_Parser_names at hw ⊢
  obtain ⟨m1, h2⟩ := hw
  exact ⟨m1, ffl_Parser_names_20 m1 _ _ _ (fun A' f q => hq A' (ySm.rf.tr f rfl rfl) q) (fun A' f q => hE A' (ySm.rf.tr f rfl rfl) q)  h2⟩
theorem ffb_Parser_declaration_90 {rec : Nat → Int → Int → Int → cS → (Int → cS → Prop) → (cS → Prop) → Prop} (hrec : ∀ (i : Nat) (a b c : Int) (A : cS) (Q Q' : Int → cS → Prop) (E E' : cS → Prop), rec i a b c A Q E → (∀ (e : Int) (A' : cS), ySm A A' [2, 3, 4, 5, 6, 7, 8, 9, 10, 11, 12, 13, 21, 22, 23] [3, 4, 5, 10, 11] → Q e A' → Q' e A') → (∀ (A' : cS), ySm A A' [2, 3, 4, 5, 6, 7, 8, 9, 10, 11, 12, 13, 21, 22, 23] [3, 4, 5, 10, 11] → E A' → E' A') → rec i a b c A Q' E') {Q Q' : Int → cS → Prop} {E E' : cS → Prop} {k90 k90' : cS → Int → Int → Int → Prop} {s0 : cS} {x1 : Int} {x3 : Int} {x4 : Int} (hq : ∀ (e : Int) (A' : cS), ySm s0 A' [2, 3, 4, 5, 6, 7, 8, 9, 10, 11, 12, 13, 21, 22, 23] [3, 4, 5, 10, 11] → Q e A' → Q' e A') (hE : ∀ (A' : cS), ySm s0 A' [2, 3, 4, 5, 6, 7, 8, 9, 10, 11, 12, 13, 21, 22, 23] [3, 4, 5, 10, 11] → E A' → E' A') (fk90 : ∀ (A' : cS) (x0 : Int) (x1 : Int) (x2 : Int), ySm s0 A' [2, 3, 4, 5, 6, 7, 8, 9, 10, 11, 12, 13, 21, 22, 23] [3, 4, 5, 10, 11] → k90 A' x0 x1 x2 → k90' A' x0 x1 x2) (hw : wc_Parser_declaration_90B rec Q E k90 s0 x1 x3 x4) : wc_Parser_declaration_90B rec Q' E' k90' s0 x1 x3 x4 := by
  unfold wc_Parser_declaration_90B at hw ⊢
  refine ⟨fun c1 => ?_, fun c1 => ?_⟩
  · have h2 := hw.1 c1
    exact hq _ _ ySm.rf h2
  · have h3 := hw.2 c1
    refine hrec _ _ _ _ _ _ _ _ _ h3 (fun r4 A5 f1 h11 => ?_) (fun A9 f9 q9 => hE A9 (ySm.rf.tr f9 rfl rfl) q9)
    refine ffm_Tree_hang h11 (fun A13 f2 h19 => ?_)
    refine ffm_Parser_kind h19 (fun r20 A21 f3 h27 => ?_)
    refine ⟨fun c28 => ?_, fun c28 => ?_⟩
    · have h29 := h27.1 c28
      refine ffm_Parser_advance h29 (fun A31 f4 h37 => ?_)
      obtain ⟨o38, h39⟩ := h37
      refine ⟨o38, ?_⟩
      exact fk90 _ _ _ _ ((((ySm.rf.tr f1 rfl rfl).tr f2 rfl rfl).tr f3 rfl rfl).tr f4 rfl rfl) h39
    · have h40 := h27.2 c28
      exact hq _ _ (((ySm.rf.tr f1 rfl rfl).tr f2 rfl rfl).tr f3 rfl rfl) h40
theorem ffl_Parser_declaration_900 {rec : Nat → Int → Int → Int → cS → (Int → cS → Prop) → (cS → Prop) → Prop} (hrec : ∀ (i : Nat) (a b c : Int) (A : cS) (Q Q' : Int → cS → Prop) (E E' : cS → Prop), rec i a b c A Q E → (∀ (e : Int) (A' : cS), ySm A A' [2, 3, 4, 5, 6, 7, 8, 9, 10, 11, 12, 13, 21, 22, 23] [3, 4, 5, 10, 11] → Q e A' → Q' e A') → (∀ (A' : cS), ySm A A' [2, 3, 4, 5, 6, 7, 8, 9, 10, 11, 12, 13, 21, 22, 23] [3, 4, 5, 10, 11] → E A' → E' A') → rec i a b c A Q' E') {Q Q' : Int → cS → Prop} {E E' : cS → Prop}  : ∀ (m : Nat) (s0 : cS) (x1 : Int) (x3 : Int) (x4 : Int), (∀ (e : Int) (A' : cS), ySm s0 A' [2, 3, 4, 5, 6, 7, 8, 9, 10, 11, 12, 13, 21, 22, 23] [3, 4, 5, 10, 11] → Q e A' → Q' e A') → (∀ (A' : cS), ySm s0 A' [2, 3, 4, 5, 6, 7, 8, 9, 10, 11, 12, 13, 21, 22, 23] [3, 4, 5, 10, 11] → E A' → E' A') → wc_Parser_declaration_90 rec Q E  m s0 x1 x3 x4 → wc_Parser_declaration_90 rec Q' E'  m s0 x1 x3 x4 := by
  intro m
  induction m with
  | zero => intro s0 x1 x3 x4 hq hE  hw; exact hw
  | succ m ih => intro s0 x1 x3 x4 hq hE  hw; exact ffb_Parser_declaration_90 hrec hq hE  (fun A' y0 y1 y2 f1 q => ih A' y0 y1 y2 (fun e A' f q => hq e A' (f1.tr f rfl rfl) q) (fun A' f q => hE A' (f1.tr f rfl rfl) q)  q) hw
theorem ffm_Parser_declaration {rec : Nat → Int → Int → Int → cS → (Int → cS → Prop) → (cS → Prop) → Prop} (hrec : ∀ (i : Nat) (a b c : Int) (A : cS) (Q Q' : Int → cS → Prop) (E E' : cS → Prop), rec i a b c A Q E → (∀ (e : Int) (A' : cS), ySm A A' [2, 3, 4, 5, 6, 7, 8, 9, 10, 11, 12, 13, 21, 22, 23] [3, 4, 5, 10, 11] → Q e A' → Q' e A') → (∀ (A' : cS), ySm A A' [2, 3, 4, 5, 6, 7, 8, 9, 10, 11, 12, 13, 21, 22, 23] [3, 4, 5, 10, 11] → E A' → E' A') → rec i a b c A Q' E') {s0 : cS} {a0 : Int} {Q Q' : Int → cS → Prop} {E E' : cS → Prop} (hw : wc_Parser_declaration rec s0 a0 Q E) (hq : ∀ (e : Int) (A' : cS), ySm s0 A' [2, 3, 4, 5, 6, 7, 8, 9, 10, 11, 12, 13, 21, 22, 23] [3, 4, 5, 10, 11] → Q e A' → Q' e A') (hE : ∀ (A' : cS), ySm s0 A' [2, 3, 4, 5, 6, 7, 8, 9, 10, 11, 12, 13, 21, 22, 23] [3, 4, 5, 10, 11] → E A' → E' A') : wc_Parser_declaration rec s0 a0 Q' E' := by
  unfold wc_Parser_declaration at hw ⊢
  refine ffm_Parser_kind hw (fun r1 A2 f1 h8 => ?_)
  refine ⟨fun c9 => ?_, fun c9 => ?_⟩
  · have h10 := h8.1 c9
    refine hrec _ _ _ _ _ _ _ _ _ h10 (fun r11 A12 f2 h18 => ?_) (fun A9 f9 q9 => hE A9 ((ySm.rf.tr f1 rfl rfl).tr f9 rfl rfl) q9)
    exact hq _ _ ((ySm.rf.tr f1 rfl rfl).tr f2 rfl rfl) h18
  · have h19 := h8.2 c9
    refine ⟨fun c20 => ?_, fun c20 => ?_⟩
    · have h21 := h19.1 c20
      refine hrec _ _ _ _ _ _ _ _ _ h21 (fun r22 A23 f3 h29 => ?_) (fun A9 f9 q9 => hE A9 ((ySm.rf.tr f1 rfl rfl).tr f9 rfl rfl) q9)
      exact hq _ _ ((ySm.rf.tr f1 rfl rfl).tr f3 rfl rfl) h29
    · have h30 := h19.2 c20
      refine ⟨fun c31 => ?_, fun c31 => ?_⟩
      · have h32 := h30.1 c31
        refine ffm_Parser_place h32 (fun r33 A34 f4 h40 => ?_)
        refine ffm_Tree_node h40 (fun r41 A42 f5 h48 => ?_)
        refine ffm_Parser_due h48 (fun A50 f6 h56 => ?_) (fun A9 f9 q9 => hE A9 ((((ySm.rf.tr f1 rfl rfl).tr f4 rfl rfl).tr f5 rfl rfl).tr f9 rfl rfl) q9)
        refine ⟨fun c57 => ?_, fun c57 => ?_⟩
        · have h58 := h56.1 c57
          obtain ⟨m59, h60⟩ := h58
          exact ⟨m59, ffl_Parser_declaration_900 hrec m59 _ _ _ _ (fun e A' f q => hq e A' (((((ySm.rf.tr f1 rfl rfl).tr f4 rfl rfl).tr f5 rfl rfl).tr f6 rfl rfl).tr f rfl rfl) q) (fun A' f q => hE A' (((((ySm.rf.tr f1 rfl rfl).tr f4 rfl rfl).tr f5 rfl rfl).tr f6 rfl rfl).tr f rfl rfl) q)  h60⟩
        · have h61 := h56.2 c57
          refine ffm_Parser_kind h61 (fun r62 A63 f7 h69 => ?_)
          refine ⟨fun c70 => ?_, fun c70 => ?_⟩
          · have h71 := h69.1 c70
            obtain ⟨m72, h73⟩ := h71
            exact ⟨m72, ffl_Parser_declaration_900 hrec m72 _ _ _ _ (fun e A' f q => hq e A' ((((((ySm.rf.tr f1 rfl rfl).tr f4 rfl rfl).tr f5 rfl rfl).tr f6 rfl rfl).tr f7 rfl rfl).tr f rfl rfl) q) (fun A' f q => hE A' ((((((ySm.rf.tr f1 rfl rfl).tr f4 rfl rfl).tr f5 rfl rfl).tr f6 rfl rfl).tr f7 rfl rfl).tr f rfl rfl) q)  h73⟩
          · have h74 := h69.2 c70
            obtain ⟨o75, h76⟩ := h74
            refine ⟨o75, ?_⟩
            refine ⟨fun c77 => ?_, fun c77 => ?_⟩
            · have h78 := h76.1 c77
              obtain ⟨m79, h80⟩ := h78
              exact ⟨m79, ffl_Parser_declaration_900 hrec m79 _ _ _ _ (fun e A' f q => hq e A' ((((((ySm.rf.tr f1 rfl rfl).tr f4 rfl rfl).tr f5 rfl rfl).tr f6 rfl rfl).tr f7 rfl rfl).tr f rfl rfl) q) (fun A' f q => hE A' ((((((ySm.rf.tr f1 rfl rfl).tr f4 rfl rfl).tr f5 rfl rfl).tr f6 rfl rfl).tr f7 rfl rfl).tr f rfl rfl) q)  h80⟩
            · have h81 := h76.2 c77
              refine hrec _ _ _ _ _ _ _ _ _ h81 (fun _ A83 f8 h89 => ?_) (fun A9 f9 q9 => hE A9 ((((((ySm.rf.tr f1 rfl rfl).tr f4 rfl rfl).tr f5 rfl rfl).tr f6 rfl rfl).tr f7 rfl rfl).tr f9 rfl rfl) q9)
              exact hq _ _ ((((((ySm.rf.tr f1 rfl rfl).tr f4 rfl rfl).tr f5 rfl rfl).tr f6 rfl rfl).tr f7 rfl rfl).tr f8 rfl rfl) h89
      · have h90 := h30.2 c31
        refine hrec _ _ _ _ _ _ _ _ _ h90 (fun r91 A92 f9 h98 => ?_) (fun A9 f9 q9 => hE A9 ((ySm.rf.tr f1 rfl rfl).tr f9 rfl rfl) q9)
        exact hq _ _ ((ySm.rf.tr f1 rfl rfl).tr f9 rfl rfl) h98
theorem ffj_Parser_definitions_107 {rec : Nat → Int → Int → Int → cS → (Int → cS → Prop) → (cS → Prop) → Prop} (hrec : ∀ (i : Nat) (a b c : Int) (A : cS) (Q Q' : Int → cS → Prop) (E E' : cS → Prop), rec i a b c A Q E → (∀ (e : Int) (A' : cS), ySm A A' [2, 3, 4, 5, 6, 7, 8, 9, 10, 11, 12, 13, 21, 22, 23] [3, 4, 5, 10, 11] → Q e A' → Q' e A') → (∀ (A' : cS), ySm A A' [2, 3, 4, 5, 6, 7, 8, 9, 10, 11, 12, 13, 21, 22, 23] [3, 4, 5, 10, 11] → E A' → E' A') → rec i a b c A Q' E') {Q Q' : Int → cS → Prop} {E E' : cS → Prop} {k18 k18' : cS → Int → Int → Int → Int → Prop} {s0 : cS} {x1 : Int} {x2 : Int} {x3 : Int} {x4 : Int} {x5 : Int} {y0 : Int} (hq : ∀ (e : Int) (A' : cS), ySm s0 A' [2, 3, 4, 5, 6, 7, 8, 9, 10, 11, 12, 13, 21, 22, 23] [3, 4, 5, 10, 11] → Q e A' → Q' e A') (hE : ∀ (A' : cS), ySm s0 A' [2, 3, 4, 5, 6, 7, 8, 9, 10, 11, 12, 13, 21, 22, 23] [3, 4, 5, 10, 11] → E A' → E' A') (fk18 : ∀ (A' : cS) (x0 : Int) (x1 : Int) (x2 : Int) (x3 : Int), ySm s0 A' [2, 3, 4, 5, 6, 7, 8, 9, 10, 11, 12, 13, 21, 22, 23] [3, 4, 5, 10, 11] → k18 A' x0 x1 x2 x3 → k18' A' x0 x1 x2 x3) (hw : wc_Parser_definitions_107 rec Q E k18 s0 x1 x2 x3 x4 x5 y0) : wc_Parser_definitions_107 rec Q' E' k18' s0 x1 x2 x3 x4 x5 y0 := by
  unfold wc_Parser_definitions_107 at hw ⊢
  refine ffm_Parser_due hw (fun A2 f1 h8 => ?_) (fun A9 f9 q9 => hE A9 (ySm.rf.tr f9 rfl rfl) q9)
  refine hrec _ _ _ _ _ _ _ _ _ h8 (fun r9 A10 f2 h16 => ?_) (fun A9 f9 q9 => hE A9 ((ySm.rf.tr f1 rfl rfl).tr f9 rfl rfl) q9)
  refine ffm_Tree_hang h16 (fun A18 f3 h24 => ?_)
  refine ffm_Tree_hang h24 (fun A26 f4 h32 => ?_)
  refine ffm_Parser_kind h32 (fun r33 A34 f5 h40 => ?_)
  refine ⟨fun c41 => ?_, fun c41 => ?_⟩
  · have h42 := h40.1 c41
    refine ffm_Parser_advance h42 (fun A44 f6 h50 => ?_)
    obtain ⟨o51, h52⟩ := h50
    refine ⟨o51, ?_⟩
    exact fk18 _ _ _ _ _ ((((((ySm.rf.tr f1 rfl rfl).tr f2 rfl rfl).tr f3 rfl rfl).tr f4 rfl rfl).tr f5 rfl rfl).tr f6 rfl rfl) h52
  · have h53 := h40.2 c41
    refine ffm_Parser_close h53 (fun A55 f7 h61 => ?_) (fun A9 f9 q9 => hE A9 ((((((ySm.rf.tr f1 rfl rfl).tr f2 rfl rfl).tr f3 rfl rfl).tr f4 rfl rfl).tr f5 rfl rfl).tr f9 rfl rfl) q9)
    exact hq _ _ ((((((ySm.rf.tr f1 rfl rfl).tr f2 rfl rfl).tr f3 rfl rfl).tr f4 rfl rfl).tr f5 rfl rfl).tr f7 rfl rfl) h61
theorem ffj_Parser_definitions_70 {rec : Nat → Int → Int → Int → cS → (Int → cS → Prop) → (cS → Prop) → Prop} (hrec : ∀ (i : Nat) (a b c : Int) (A : cS) (Q Q' : Int → cS → Prop) (E E' : cS → Prop), rec i a b c A Q E → (∀ (e : Int) (A' : cS), ySm A A' [2, 3, 4, 5, 6, 7, 8, 9, 10, 11, 12, 13, 21, 22, 23] [3, 4, 5, 10, 11] → Q e A' → Q' e A') → (∀ (A' : cS), ySm A A' [2, 3, 4, 5, 6, 7, 8, 9, 10, 11, 12, 13, 21, 22, 23] [3, 4, 5, 10, 11] → E A' → E' A') → rec i a b c A Q' E') {Q Q' : Int → cS → Prop} {E E' : cS → Prop} {k18 k18' : cS → Int → Int → Int → Int → Prop} {s0 : cS} {x1 : Int} {x2 : Int} {x3 : Int} {x4 : Int} {x5 : Int} (hq : ∀ (e : Int) (A' : cS), ySm s0 A' [2, 3, 4, 5, 6, 7, 8, 9, 10, 11, 12, 13, 21, 22, 23] [3, 4, 5, 10, 11] → Q e A' → Q' e A') (hE : ∀ (A' : cS), ySm s0 A' [2, 3, 4, 5, 6, 7, 8, 9, 10, 11, 12, 13, 21, 22, 23] [3, 4, 5, 10, 11] → E A' → E' A') (fk18 : ∀ (A' : cS) (x0 : Int) (x1 : Int) (x2 : Int) (x3 : Int), ySm s0 A' [2, 3, 4, 5, 6, 7, 8, 9, 10, 11, 12, 13, 21, 22, 23] [3, 4, 5, 10, 11] → k18 A' x0 x1 x2 x3 → k18' A' x0 x1 x2 x3) (hw : wc_Parser_definitions_70 rec Q E k18 s0 x1 x2 x3 x4 x5) : wc_Parser_definitions_70 rec Q' E' k18' s0 x1 x2 x3 x4 x5 := by
  unfold wc_Parser_definitions_70 at hw ⊢
  refine ⟨fun c1 => ?_, fun c1 => ?_⟩
  · have h2 := hw.1 c1
    refine ⟨fun c3 => ?_, fun c3 => ?_⟩
    · have h4 := h2.1 c3
      exact ffj_Parser_definitions_107 hrec (fun e A' f q => hq e A' (ySm.rf.tr f rfl rfl) q) (fun A' f q => hE A' (ySm.rf.tr f rfl rfl) q) (fun A' x0 x1 x2 x3 f q => fk18 A' x0 x1 x2 x3 (ySm.rf.tr f rfl rfl) q) h4
    · have h5 := h2.2 c3
      exact ffj_Parser_definitions_107 hrec (fun e A' f q => hq e A' (ySm.rf.tr f rfl rfl) q) (fun A' f q => hE A' (ySm.rf.tr f rfl rfl) q) (fun A' x0 x1 x2 x3 f q => fk18 A' x0 x1 x2 x3 (ySm.rf.tr f rfl rfl) q) h5
  · have h6 := hw.2 c1
    refine ffm_Program_addWord h6 (fun r7 A8 f1 h14 => ?_)
    refine ffm_Tree_setExtra h14 (fun A16 f2 h22 => ?_)
    refine ⟨fun c23 => ?_, fun c23 => ?_⟩
    · have h24 := h22.1 c23
      exact ffj_Parser_definitions_107 hrec (fun e A' f q => hq e A' (((ySm.rf.tr f1 rfl rfl).tr f2 rfl rfl).tr f rfl rfl) q) (fun A' f q => hE A' (((ySm.rf.tr f1 rfl rfl).tr f2 rfl rfl).tr f rfl rfl) q) (fun A' x0 x1 x2 x3 f q => fk18 A' x0 x1 x2 x3 (((ySm.rf.tr f1 rfl rfl).tr f2 rfl rfl).tr f rfl rfl) q) h24
    · have h25 := h22.2 c23
      exact ffj_Parser_definitions_107 hrec (fun e A' f q => hq e A' (((ySm.rf.tr f1 rfl rfl).tr f2 rfl rfl).tr f rfl rfl) q) (fun A' f q => hE A' (((ySm.rf.tr f1 rfl rfl).tr f2 rfl rfl).tr f rfl rfl) q) (fun A' x0 x1 x2 x3 f q => fk18 A' x0 x1 x2 x3 (((ySm.rf.tr f1 rfl rfl).tr f2 rfl rfl).tr f rfl rfl) q) h25
theorem ffb_Parser_definitions_18 {rec : Nat → Int → Int → Int → cS → (Int → cS → Prop) → (cS → Prop) → Prop} (hrec : ∀ (i : Nat) (a b c : Int) (A : cS) (Q Q' : Int → cS → Prop) (E E' : cS → Prop), rec i a b c A Q E → (∀ (e : Int) (A' : cS), ySm A A' [2, 3, 4, 5, 6, 7, 8, 9, 10, 11, 12, 13, 21, 22, 23] [3, 4, 5, 10, 11] → Q e A' → Q' e A') → (∀ (A' : cS), ySm A A' [2, 3, 4, 5, 6, 7, 8, 9, 10, 11, 12, 13, 21, 22, 23] [3, 4, 5, 10, 11] → E A' → E' A') → rec i a b c A Q' E') {Q Q' : Int → cS → Prop} {E E' : cS → Prop} {k18 k18' : cS → Int → Int → Int → Int → Prop} {s0 : cS} {x1 : Int} {x2 : Int} {x3 : Int} {x4 : Int} (hq : ∀ (e : Int) (A' : cS), ySm s0 A' [2, 3, 4, 5, 6, 7, 8, 9, 10, 11, 12, 13, 21, 22, 23] [3, 4, 5, 10, 11] → Q e A' → Q' e A') (hE : ∀ (A' : cS), ySm s0 A' [2, 3, 4, 5, 6, 7, 8, 9, 10, 11, 12, 13, 21, 22, 23] [3, 4, 5, 10, 11] → E A' → E' A') (fk18 : ∀ (A' : cS) (x0 : Int) (x1 : Int) (x2 : Int) (x3 : Int), ySm s0 A' [2, 3, 4, 5, 6, 7, 8, 9, 10, 11, 12, 13, 21, 22, 23] [3, 4, 5, 10, 11] → k18 A' x0 x1 x2 x3 → k18' A' x0 x1 x2 x3) (hw : wc_Parser_definitions_18B rec Q E k18 s0 x1 x2 x3 x4) : wc_Parser_definitions_18B rec Q' E' k18' s0 x1 x2 x3 x4 := by
  unfold wc_Parser_definitions_18B at hw ⊢
  refine ⟨fun c1 => ?_, fun c1 => ?_⟩
  · have h2 := hw.1 c1
    refine ffm_Parser_close h2 (fun A4 f1 h10 => ?_) (fun A9 f9 q9 => hE A9 (ySm.rf.tr f9 rfl rfl) q9)
    exact hq _ _ (ySm.rf.tr f1 rfl rfl) h10
  · have h11 := hw.2 c1
    refine ffm_Parser_place h11 (fun r12 A13 f2 h19 => ?_)
    refine ffm_Parser_nameDue h19 (fun r20 A21 f3 h27 => ?_) (fun A9 f9 q9 => hE A9 ((ySm.rf.tr f2 rfl rfl).tr f9 rfl rfl) q9)
    refine ffm_Tree_node h27 (fun r28 A29 f4 h35 => ?_)
    refine ⟨fun c36 => ?_, fun c36 => ?_⟩
    · have h37 := h35.1 c36
      exact ffj_Parser_definitions_70 hrec (fun e A' f q => hq e A' ((((ySm.rf.tr f2 rfl rfl).tr f3 rfl rfl).tr f4 rfl rfl).tr f rfl rfl) q) (fun A' f q => hE A' ((((ySm.rf.tr f2 rfl rfl).tr f3 rfl rfl).tr f4 rfl rfl).tr f rfl rfl) q) (fun A' x0 x1 x2 x3 f q => fk18 A' x0 x1 x2 x3 ((((ySm.rf.tr f2 rfl rfl).tr f3 rfl rfl).tr f4 rfl rfl).tr f rfl rfl) q) h37
    · have h38 := h35.2 c36
      refine ⟨fun c39 => ?_, fun c39 => ?_⟩
      · have h40 := h38.1 c39
        exact ffj_Parser_definitions_70 hrec (fun e A' f q => hq e A' ((((ySm.rf.tr f2 rfl rfl).tr f3 rfl rfl).tr f4 rfl rfl).tr f rfl rfl) q) (fun A' f q => hE A' ((((ySm.rf.tr f2 rfl rfl).tr f3 rfl rfl).tr f4 rfl rfl).tr f rfl rfl) q) (fun A' x0 x1 x2 x3 f q => fk18 A' x0 x1 x2 x3 ((((ySm.rf.tr f2 rfl rfl).tr f3 rfl rfl).tr f4 rfl rfl).tr f rfl rfl) q) h40
      · have h41 := h38.2 c39
        refine ffm_Tree_data h41 (fun r42 A43 f5 h49 => ?_)
        obtain ⟨o54, h55⟩ := h49
        refine ⟨o54, ?_⟩
        exact ffj_Parser_definitions_70 hrec (fun e A' f q => hq e A' ((((((ySm.rf.tr f2 rfl rfl).tr f3 rfl rfl).tr f4 rfl rfl).tr f5 rfl rfl).add rfl).tr f rfl rfl) q) (fun A' f q => hE A' ((((((ySm.rf.tr f2 rfl rfl).tr f3 rfl rfl).tr f4 rfl rfl).tr f5 rfl rfl).add rfl).tr f rfl rfl) q) (fun A' x0 x1 x2 x3 f q => fk18 A' x0 x1 x2 x3 ((((((ySm.rf.tr f2 rfl rfl).tr f3 rfl rfl).tr f4 rfl rfl).tr f5 rfl rfl).add rfl).tr f rfl rfl) q) h55
theorem ffl_Parser_definitions_180 {rec : Nat → Int → Int → Int → cS → (Int → cS → Prop) → (cS → Prop) → Prop} (hrec : ∀ (i : Nat) (a b c : Int) (A : cS) (Q Q' : Int → cS → Prop) (E E' : cS → Prop), rec i a b c A Q E → (∀ (e : Int) (A' : cS), ySm A A' [2, 3, 4, 5, 6, 7, 8, 9, 10, 11, 12, 13, 21, 22, 23] [3, 4, 5, 10, 11] → Q e A' → Q' e A') → (∀ (A' : cS), ySm A A' [2, 3, 4, 5, 6, 7, 8, 9, 10, 11, 12, 13, 21, 22, 23] [3, 4, 5, 10, 11] → E A' → E' A') → rec i a b c A Q' E') {Q Q' : Int → cS → Prop} {E E' : cS → Prop}  : ∀ (m : Nat) (s0 : cS) (x1 : Int) (x2 : Int) (x3 : Int) (x4 : Int), (∀ (e : Int) (A' : cS), ySm s0 A' [2, 3, 4, 5, 6, 7, 8, 9, 10, 11, 12, 13, 21, 22, 23] [3, 4, 5, 10, 11] → Q e A' → Q' e A') → (∀ (A' : cS), ySm s0 A' [2, 3, 4, 5, 6, 7, 8, 9, 10, 11, 12, 13, 21, 22, 23] [3, 4, 5, 10, 11] → E A' → E' A') → wc_Parser_definitions_18 rec Q E  m s0 x1 x2 x3 x4 → wc_Parser_definitions_18 rec Q' E'  m s0 x1 x2 x3 x4 := by
  intro m
  induction m with
  | zero => intro s0 x1 x2 x3 x4 hq hE  hw; exact hw
  | succ m ih => intro s0 x1 x2 x3 x4 hq hE  hw; exact ffb_Parser_definitions_18 hrec hq hE  (fun A' y0 y1 y2 y3 f1 q => ih A' y0 y1 y2 y3 (fun e A' f q => hq e A' (f1.tr f rfl rfl) q) (fun A' f q => hE A' (f1.tr f rfl rfl) q)  q) hw
theorem ffm_Parser_definitions {rec : Nat → Int → Int → Int → cS → (Int → cS → Prop) → (cS → Prop) → Prop} (hrec : ∀ (i : Nat) (a b c : Int) (A : cS) (Q Q' : Int → cS → Prop) (E E' : cS → Prop), rec i a b c A Q E → (∀ (e : Int) (A' : cS), ySm A A' [2, 3, 4, 5, 6, 7, 8, 9, 10, 11, 12, 13, 21, 22, 23] [3, 4, 5, 10, 11] → Q e A' → Q' e A') → (∀ (A' : cS), ySm A A' [2, 3, 4, 5, 6, 7, 8, 9, 10, 11, 12, 13, 21, 22, 23] [3, 4, 5, 10, 11] → E A' → E' A') → rec i a b c A Q' E') {s0 : cS} {a0 : Int} {Q Q' : Int → cS → Prop} {E E' : cS → Prop} (hw : wc_Parser_definitions rec s0 a0 Q E) (hq : ∀ (e : Int) (A' : cS), ySm s0 A' [2, 3, 4, 5, 6, 7, 8, 9, 10, 11, 12, 13, 21, 22, 23] [3, 4, 5, 10, 11] → Q e A' → Q' e A') (hE : ∀ (A' : cS), ySm s0 A' [2, 3, 4, 5, 6, 7, 8, 9, 10, 11, 12, 13, 21, 22, 23] [3, 4, 5, 10, 11] → E A' → E' A') : wc_Parser_definitions rec s0 a0 Q' E' := by
  unfold wc_Parser_definitions at hw ⊢
  refine ffm_Parser_kind hw (fun r1 A2 f1 h8 => ?_)
  refine ffm_Parser_leaf h8 (fun r9 A10 f2 h16 => ?_)
  refine ffm_Parser_open h16 (fun A18 f3 h24 => ?_) (fun A9 f9 q9 => hE A9 (((ySm.rf.tr f1 rfl rfl).tr f2 rfl rfl).tr f9 rfl rfl) q9)
  obtain ⟨m25, h26⟩ := h24
  exact ⟨m25, ffl_Parser_definitions_180 hrec m25 _ _ _ _ _ (fun e A' f q => hq e A' ((((ySm.rf.tr f1 rfl rfl).tr f2 rfl rfl).tr f3 rfl rfl).tr f rfl rfl) q) (fun A' f q => hE A' ((((ySm.rf.tr f1 rfl rfl).tr f2 rfl rfl).tr f3 rfl rfl).tr f rfl rfl) q)  h26⟩
theorem ffj_Parser_routine_104 {rec : Nat → Int → Int → Int → cS → (Int → cS → Prop) → (cS → Prop) → Prop} (hrec : ∀ (i : Nat) (a b c : Int) (A : cS) (Q Q' : Int → cS → Prop) (E E' : cS → Prop), rec i a b c A Q E → (∀ (e : Int) (A' : cS), ySm A A' [2, 3, 4, 5, 6, 7, 8, 9, 10, 11, 12, 13, 21, 22, 23] [3, 4, 5, 10, 11] → Q e A' → Q' e A') → (∀ (A' : cS), ySm A A' [2, 3, 4, 5, 6, 7, 8, 9, 10, 11, 12, 13, 21, 22, 23] [3, 4, 5, 10, 11] → E A' → E' A') → rec i a b c A Q' E') {Q Q' : Int → cS → Prop} {E E' : cS → Prop}  {s0 : cS} {x2 : Int} (hq : ∀ (e : Int) (A' : cS), ySm s0 A' [2, 3, 4, 5, 6, 7, 8, 9, 10, 11, 12, 13, 21, 22, 23] [3, 4, 5, 10, 11] → Q e A' → Q' e A') (hE : ∀ (A' : cS), ySm s0 A' [2, 3, 4, 5, 6, 7, 8, 9, 10, 11, 12, 13, 21, 22, 23] [3, 4, 5, 10, 11] → E A' → E' A')  (hw : wc_Parser_routine_104 rec Q E  s0 x2) : wc_Parser_routine_104 rec Q' E'  s0 x2 := by
  unfold wc_Parser_routine_104 at hw ⊢
  refine ffm_Parser_due hw (fun A2 f1 h8 => ?_) (fun A9 f9 q9 => hE A9 (ySm.rf.tr f9 rfl rfl) q9)
  refine ffm_Parser_kind h8 (fun r9 A10 f2 h16 => ?_)
  refine ⟨fun c17 => ?_, fun c17 => ?_⟩
  · have h18 := h16.1 c17
    refine ffm_Parser_due h18 (fun A20 f3 h26 => ?_) (fun A9 f9 q9 => hE A9 (((ySm.rf.tr f1 rfl rfl).tr f2 rfl rfl).tr f9 rfl rfl) q9)
    refine hrec _ _ _ _ _ _ _ _ _ h26 (fun r27 A28 f4 h34 => ?_) (fun A9 f9 q9 => hE A9 ((((ySm.rf.tr f1 rfl rfl).tr f2 rfl rfl).tr f3 rfl rfl).tr f9 rfl rfl) q9)
    refine ffm_Tree_hang h34 (fun A36 f5 h42 => ?_)
    exact hq _ _ (((((ySm.rf.tr f1 rfl rfl).tr f2 rfl rfl).tr f3 rfl rfl).tr f4 rfl rfl).tr f5 rfl rfl) h42
  · have h43 := h16.2 c17
    refine ffm_Tree_setKind h43 (fun A45 f6 h51 => ?_)
    refine ffm_Parser_advance h51 (fun A53 f7 h59 => ?_)
    refine hrec _ _ _ _ _ _ _ _ _ h59 (fun r60 A61 f8 h67 => ?_) (fun A9 f9 q9 => hE A9 (((((ySm.rf.tr f1 rfl rfl).tr f2 rfl rfl).tr f6 rfl rfl).tr f7 rfl rfl).tr f9 rfl rfl) q9)
    refine ffm_Tree_hang h67 (fun A69 f9 h75 => ?_)
    exact hq _ _ ((((((ySm.rf.tr f1 rfl rfl).tr f2 rfl rfl).tr f6 rfl rfl).tr f7 rfl rfl).tr f8 rfl rfl).tr f9 rfl rfl) h75
theorem ffj_Parser_routine_46 {rec : Nat → Int → Int → Int → cS → (Int → cS → Prop) → (cS → Prop) → Prop} (hrec : ∀ (i : Nat) (a b c : Int) (A : cS) (Q Q' : Int → cS → Prop) (E E' : cS → Prop), rec i a b c A Q E → (∀ (e : Int) (A' : cS), ySm A A' [2, 3, 4, 5, 6, 7, 8, 9, 10, 11, 12, 13, 21, 22, 23] [3, 4, 5, 10, 11] → Q e A' → Q' e A') → (∀ (A' : cS), ySm A A' [2, 3, 4, 5, 6, 7, 8, 9, 10, 11, 12, 13, 21, 22, 23] [3, 4, 5, 10, 11] → E A' → E' A') → rec i a b c A Q' E') {Q Q' : Int → cS → Prop} {E E' : cS → Prop}  {s0 : cS} {x1 : Int} {x2 : Int} {y0 : Int} (hq : ∀ (e : Int) (A' : cS), ySm s0 A' [2, 3, 4, 5, 6, 7, 8, 9, 10, 11, 12, 13, 21, 22, 23] [3, 4, 5, 10, 11] → Q e A' → Q' e A') (hE : ∀ (A' : cS), ySm s0 A' [2, 3, 4, 5, 6, 7, 8, 9, 10, 11, 12, 13, 21, 22, 23] [3, 4, 5, 10, 11] → E A' → E' A')  (hw : wc_Parser_routine_46 rec Q E  s0 x1 x2 y0) : wc_Parser_routine_46 rec Q' E'  s0 x1 x2 y0 := by
  unfold wc_Parser_routine_46 at hw ⊢
  refine ffm_Program_addRoutine hw (fun r1 A2 f1 h8 => ?_)
  refine ffm_Tree_setExtra h8 (fun A10 f2 h16 => ?_)
  refine ⟨fun c17 => ?_, fun c17 => ?_⟩
  · have h18 := h16.1 c17
    refine ffm_Parser_due h18 (fun A20 f3 h26 => ?_) (fun A9 f9 q9 => hE A9 (((ySm.rf.tr f1 rfl rfl).tr f2 rfl rfl).tr f9 rfl rfl) q9)
    refine ffm_Parser_kind h26 (fun r27 A28 f4 h34 => ?_)
    refine ⟨fun c35 => ?_, fun c35 => ?_⟩
    · have h36 := h34.1 c35
      exact ffj_Parser_routine_104 hrec (fun e A' f q => hq e A' (((((ySm.rf.tr f1 rfl rfl).tr f2 rfl rfl).tr f3 rfl rfl).tr f4 rfl rfl).tr f rfl rfl) q) (fun A' f q => hE A' (((((ySm.rf.tr f1 rfl rfl).tr f2 rfl rfl).tr f3 rfl rfl).tr f4 rfl rfl).tr f rfl rfl) q)  h36
    · have h37 := h34.2 c35
      refine ffm_Parser_names h37 (fun A39 f5 h45 => ?_) (fun A9 f9 q9 => hE A9 (((((ySm.rf.tr f1 rfl rfl).tr f2 rfl rfl).tr f3 rfl rfl).tr f4 rfl rfl).tr f9 rfl rfl) q9)
      exact ffj_Parser_routine_104 hrec (fun e A' f q => hq e A' ((((((ySm.rf.tr f1 rfl rfl).tr f2 rfl rfl).tr f3 rfl rfl).tr f4 rfl rfl).tr f5 rfl rfl).tr f rfl rfl) q) (fun A' f q => hE A' ((((((ySm.rf.tr f1 rfl rfl).tr f2 rfl rfl).tr f3 rfl rfl).tr f4 rfl rfl).tr f5 rfl rfl).tr f rfl rfl) q)  h45
  · have h46 := h16.2 c17
    refine ffm_Tree_data h46 (fun r47 A48 f6 h54 => ?_)
    refine ⟨fun c55 => ?_, fun c55 => ?_⟩
    · have h56 := h54.1 c55
      refine ffm_Parser_due h56 (fun A58 f7 h64 => ?_) (fun A9 f9 q9 => hE A9 ((((ySm.rf.tr f1 rfl rfl).tr f2 rfl rfl).tr f6 rfl rfl).tr f9 rfl rfl) q9)
      refine ffm_Parser_kind h64 (fun r65 A66 f8 h72 => ?_)
      refine ⟨fun c73 => ?_, fun c73 => ?_⟩
      · have h74 := h72.1 c73
        exact ffj_Parser_routine_104 hrec (fun e A' f q => hq e A' ((((((ySm.rf.tr f1 rfl rfl).tr f2 rfl rfl).tr f6 rfl rfl).tr f7 rfl rfl).tr f8 rfl rfl).tr f rfl rfl) q) (fun A' f q => hE A' ((((((ySm.rf.tr f1 rfl rfl).tr f2 rfl rfl).tr f6 rfl rfl).tr f7 rfl rfl).tr f8 rfl rfl).tr f rfl rfl) q)  h74
      · have h75 := h72.2 c73
        refine ffm_Parser_names h75 (fun A77 f9 h83 => ?_) (fun A9 f9 q9 => hE A9 ((((((ySm.rf.tr f1 rfl rfl).tr f2 rfl rfl).tr f6 rfl rfl).tr f7 rfl rfl).tr f8 rfl rfl).tr f9 rfl rfl) q9)
        exact ffj_Parser_routine_104 hrec (fun e A' f q => hq e A' (((((((ySm.rf.tr f1 rfl rfl).tr f2 rfl rfl).tr f6 rfl rfl).tr f7 rfl rfl).tr f8 rfl rfl).tr f9 rfl rfl).tr f rfl rfl) q) (fun A' f q => hE A' (((((((ySm.rf.tr f1 rfl rfl).tr f2 rfl rfl).tr f6 rfl rfl).tr f7 rfl rfl).tr f8 rfl rfl).tr f9 rfl rfl).tr f rfl rfl) q)  h83
    · have h84 := h54.2 c55
      refine ffm_Program_setStarter h84 (fun A86 f10 h92 => ?_)
      refine ffm_Parser_due h92 (fun A94 f11 h100 => ?_) (fun A9 f9 q9 => hE A9 (((((ySm.rf.tr f1 rfl rfl).tr f2 rfl rfl).tr f6 rfl rfl).tr f10 rfl rfl).tr f9 rfl rfl) q9)
      refine ffm_Parser_kind h100 (fun r101 A102 f12 h108 => ?_)
      refine ⟨fun c109 => ?_, fun c109 => ?_⟩
      · have h110 := h108.1 c109
        exact ffj_Parser_routine_104 hrec (fun e A' f q => hq e A' (((((((ySm.rf.tr f1 rfl rfl).tr f2 rfl rfl).tr f6 rfl rfl).tr f10 rfl rfl).tr f11 rfl rfl).tr f12 rfl rfl).tr f rfl rfl) q) (fun A' f q => hE A' (((((((ySm.rf.tr f1 rfl rfl).tr f2 rfl rfl).tr f6 rfl rfl).tr f10 rfl rfl).tr f11 rfl rfl).tr f12 rfl rfl).tr f rfl rfl) q)  h110
      · have h111 := h108.2 c109
        refine ffm_Parser_names h111 (fun A113 f13 h119 => ?_) (fun A9 f9 q9 => hE A9 (((((((ySm.rf.tr f1 rfl rfl).tr f2 rfl rfl).tr f6 rfl rfl).tr f10 rfl rfl).tr f11 rfl rfl).tr f12 rfl rfl).tr f9 rfl rfl) q9)
        exact ffj_Parser_routine_104 hrec (fun e A' f q => hq e A' ((((((((ySm.rf.tr f1 rfl rfl).tr f2 rfl rfl).tr f6 rfl rfl).tr f10 rfl rfl).tr f11 rfl rfl).tr f12 rfl rfl).tr f13 rfl rfl).tr f rfl rfl) q) (fun A' f q => hE A' ((((((((ySm.rf.tr f1 rfl rfl).tr f2 rfl rfl).tr f6 rfl rfl).tr f10 rfl rfl).tr f11 rfl rfl).tr f12 rfl rfl).tr f13 rfl rfl).tr f rfl rfl) q)  h119
theorem ffm_Parser_routine {rec : Nat → Int → Int → Int → cS → (Int → cS → Prop) → (cS → Prop) → Prop} (hrec : ∀ (i : Nat) (a b c : Int) (A : cS) (Q Q' : Int → cS → Prop) (E E' : cS → Prop), rec i a b c A Q E → (∀ (e : Int) (A' : cS), ySm A A' [2, 3, 4, 5, 6, 7, 8, 9, 10, 11, 12, 13, 21, 22, 23] [3, 4, 5, 10, 11] → Q e A' → Q' e A') → (∀ (A' : cS), ySm A A' [2, 3, 4, 5, 6, 7, 8, 9, 10, 11, 12, 13, 21, 22, 23] [3, 4, 5, 10, 11] → E A' → E' A') → rec i a b c A Q' E') {s0 : cS} {a0 : Int} {Q Q' : Int → cS → Prop} {E E' : cS → Prop} (hw : wc_Parser_routine rec s0 a0 Q E) (hq : ∀ (e : Int) (A' : cS), ySm s0 A' [2, 3, 4, 5, 6, 7, 8, 9, 10, 11, 12, 13, 21, 22, 23] [3, 4, 5, 10, 11] → Q e A' → Q' e A') (hE : ∀ (A' : cS), ySm s0 A' [2, 3, 4, 5, 6, 7, 8, 9, 10, 11, 12, 13, 21, 22, 23] [3, 4, 5, 10, 11] → E A' → E' A') : wc_Parser_routine rec s0 a0 Q' E' := by
  unfold wc_Parser_routine at hw ⊢
  refine ffm_Parser_place hw (fun r1 A2 f1 h8 => ?_)
  refine ffm_Parser_nameDue h8 (fun r9 A10 f2 h16 => ?_) (fun A9 f9 q9 => hE A9 ((ySm.rf.tr f1 rfl rfl).tr f9 rfl rfl) q9)
  refine ffm_Tree_node h16 (fun r17 A18 f3 h24 => ?_)
  refine ⟨fun c25 => ?_, fun c25 => ?_⟩
  · have h26 := h24.1 c25
    exact ffj_Parser_routine_46 hrec (fun e A' f q => hq e A' ((((ySm.rf.tr f1 rfl rfl).tr f2 rfl rfl).tr f3 rfl rfl).tr f rfl rfl) q) (fun A' f q => hE A' ((((ySm.rf.tr f1 rfl rfl).tr f2 rfl rfl).tr f3 rfl rfl).tr f rfl rfl) q)  h26
  · have h27 := h24.2 c25
    refine ffm_Tree_data h27 (fun r28 A29 f4 h35 => ?_)
    refine ffm_Parser_isGlobal h35 (fun r36 A37 f5 h43 => ?_)
    refine ⟨fun c44 => ?_, fun c44 => ?_⟩
    · have h45 := h43.1 c44
      exact ffj_Parser_routine_46 hrec (fun e A' f q => hq e A' ((((((ySm.rf.tr f1 rfl rfl).tr f2 rfl rfl).tr f3 rfl rfl).tr f4 rfl rfl).tr f5 rfl rfl).tr f rfl rfl) q) (fun A' f q => hE A' ((((((ySm.rf.tr f1 rfl rfl).tr f2 rfl rfl).tr f3 rfl rfl).tr f4 rfl rfl).tr f5 rfl rfl).tr f rfl rfl) q)  h45
    · have h46 := h43.2 c44
      exact ffj_Parser_routine_46 hrec (fun e A' f q => hq e A' ((((((ySm.rf.tr f1 rfl rfl).tr f2 rfl rfl).tr f3 rfl rfl).tr f4 rfl rfl).tr f5 rfl rfl).tr f rfl rfl) q) (fun A' f q => hE A' ((((((ySm.rf.tr f1 rfl rfl).tr f2 rfl rfl).tr f3 rfl rfl).tr f4 rfl rfl).tr f5 rfl rfl).tr f rfl rfl) q)  h46
theorem ffj_Parser_variables_93 {rec : Nat → Int → Int → Int → cS → (Int → cS → Prop) → (cS → Prop) → Prop} (hrec : ∀ (i : Nat) (a b c : Int) (A : cS) (Q Q' : Int → cS → Prop) (E E' : cS → Prop), rec i a b c A Q E → (∀ (e : Int) (A' : cS), ySm A A' [2, 3, 4, 5, 6, 7, 8, 9, 10, 11, 12, 13, 21, 22, 23] [3, 4, 5, 10, 11] → Q e A' → Q' e A') → (∀ (A' : cS), ySm A A' [2, 3, 4, 5, 6, 7, 8, 9, 10, 11, 12, 13, 21, 22, 23] [3, 4, 5, 10, 11] → E A' → E' A') → rec i a b c A Q' E') {Q Q' : cS → Prop} {E E' : cS → Prop} {k78 k78' : cS → Int → Int → Int → Prop} {s0 : cS} {x1 : Int} {x2 : Int} {x3 : Int} (hq : ∀ (A' : cS), ySm s0 A' [2, 3, 4, 5, 6, 7, 8, 9, 10, 11, 12, 13, 21, 22, 23] [3, 4, 5, 10, 11] → Q A' → Q' A') (hE : ∀ (A' : cS), ySm s0 A' [2, 3, 4, 5, 6, 7, 8, 9, 10, 11, 12, 13, 21, 22, 23] [3, 4, 5, 10, 11] → E A' → E' A') (fk78 : ∀ (A' : cS) (x0 : Int) (x1 : Int) (x2 : Int), ySm s0 A' [2, 3, 4, 5, 6, 7, 8, 9, 10, 11, 12, 13, 21, 22, 23] [3, 4, 5, 10, 11] → k78 A' x0 x1 x2 → k78' A' x0 x1 x2) (hw : wc_Parser_variables_93 rec Q E k78 s0 x1 x2 x3) : wc_Parser_variables_93 rec Q' E' k78' s0 x1 x2 x3 := by
  unfold wc_Parser_variables_93 at hw ⊢
  refine ffm_Parser_kind hw (fun r1 A2 f1 h8 => ?_)
  refine ⟨fun c9 => ?_, fun c9 => ?_⟩
  · have h10 := h8.1 c9
    refine hrec _ _ _ _ _ _ _ _ _ h10 (fun r11 A12 f2 h18 => ?_) (fun A9 f9 q9 => hE A9 ((ySm.rf.tr f1 rfl rfl).tr f9 rfl rfl) q9)
    refine ffm_Tree_hang h18 (fun A20 f3 h26 => ?_)
    obtain ⟨o27, h28⟩ := h26
    refine ⟨o27, ?_⟩
    exact fk78 _ _ _ _ (((ySm.rf.tr f1 rfl rfl).tr f2 rfl rfl).tr f3 rfl rfl) h28
  · have h29 := h8.2 c9
    refine ffm_Parser_leaf h29 (fun r30 A31 f4 h37 => ?_)
    refine hrec _ _ _ _ _ _ _ _ _ h37 (fun r38 A39 f5 h45 => ?_) (fun A9 f9 q9 => hE A9 (((ySm.rf.tr f1 rfl rfl).tr f4 rfl rfl).tr f9 rfl rfl) q9)
    refine ffm_Tree_hang h45 (fun A47 f6 h53 => ?_)
    refine ffm_Tree_hang h53 (fun A55 f7 h61 => ?_)
    obtain ⟨o62, h63⟩ := h61
    refine ⟨o62, ?_⟩
    exact fk78 _ _ _ _ (((((ySm.rf.tr f1 rfl rfl).tr f4 rfl rfl).tr f5 rfl rfl).tr f6 rfl rfl).tr f7 rfl rfl) h63
theorem ffb_Parser_variables_78 {rec : Nat → Int → Int → Int → cS → (Int → cS → Prop) → (cS → Prop) → Prop} (hrec : ∀ (i : Nat) (a b c : Int) (A : cS) (Q Q' : Int → cS → Prop) (E E' : cS → Prop), rec i a b c A Q E → (∀ (e : Int) (A' : cS), ySm A A' [2, 3, 4, 5, 6, 7, 8, 9, 10, 11, 12, 13, 21, 22, 23] [3, 4, 5, 10, 11] → Q e A' → Q' e A') → (∀ (A' : cS), ySm A A' [2, 3, 4, 5, 6, 7, 8, 9, 10, 11, 12, 13, 21, 22, 23] [3, 4, 5, 10, 11] → E A' → E' A') → rec i a b c A Q' E') {Q Q' : cS → Prop} {E E' : cS → Prop} {k78 k78' : cS → Int → Int → Int → Prop} {s0 : cS} {x1 : Int} {x2 : Int} {x3 : Int} (hq : ∀ (A' : cS), ySm s0 A' [2, 3, 4, 5, 6, 7, 8, 9, 10, 11, 12, 13, 21, 22, 23] [3, 4, 5, 10, 11] → Q A' → Q' A') (hE : ∀ (A' : cS), ySm s0 A' [2, 3, 4, 5, 6, 7, 8, 9, 10, 11, 12, 13, 21, 22, 23] [3, 4, 5, 10, 11] → E A' → E' A') (fk78 : ∀ (A' : cS) (x0 : Int) (x1 : Int) (x2 : Int), ySm s0 A' [2, 3, 4, 5, 6, 7, 8, 9, 10, 11, 12, 13, 21, 22, 23] [3, 4, 5, 10, 11] → k78 A' x0 x1 x2 → k78' A' x0 x1 x2) (hw : wc_Parser_variables_78B rec Q E k78 s0 x1 x2 x3) : wc_Parser_variables_78B rec Q' E' k78' s0 x1 x2 x3 := by
  unfold wc_Parser_variables_78B at hw ⊢
  refine ⟨fun c1 => ?_, fun c1 => ?_⟩
  · have h2 := hw.1 c1
    refine ffm_Tree_setData h2 (fun A4 f1 h10 => ?_)
    exact hq _ (ySm.rf.tr f1 rfl rfl) h10
  · have h11 := hw.2 c1
    refine ⟨fun c12 => ?_, fun c12 => ?_⟩
    · have h13 := h11.1 c12
      exact ffj_Parser_variables_93 hrec (fun A' f q => hq A' (ySm.rf.tr f rfl rfl) q) (fun A' f q => hE A' (ySm.rf.tr f rfl rfl) q) (fun A' x0 x1 x2 f q => fk78 A' x0 x1 x2 (ySm.rf.tr f rfl rfl) q) h13
    · have h14 := h11.2 c12
      refine ffm_Parser_due h14 (fun A16 f2 h22 => ?_) (fun A9 f9 q9 => hE A9 (ySm.rf.tr f9 rfl rfl) q9)
      exact ffj_Parser_variables_93 hrec (fun A' f q => hq A' ((ySm.rf.tr f2 rfl rfl).tr f rfl rfl) q) (fun A' f q => hE A' ((ySm.rf.tr f2 rfl rfl).tr f rfl rfl) q) (fun A' x0 x1 x2 f q => fk78 A' x0 x1 x2 ((ySm.rf.tr f2 rfl rfl).tr f rfl rfl) q) h22
theorem ffl_Parser_variables_780 {rec : Nat → Int → Int → Int → cS → (Int → cS → Prop) → (cS → Prop) → Prop} (hrec : ∀ (i : Nat) (a b c : Int) (A : cS) (Q Q' : Int → cS → Prop) (E E' : cS → Prop), rec i a b c A Q E → (∀ (e : Int) (A' : cS), ySm A A' [2, 3, 4, 5, 6, 7, 8, 9, 10, 11, 12, 13, 21, 22, 23] [3, 4, 5, 10, 11] → Q e A' → Q' e A') → (∀ (A' : cS), ySm A A' [2, 3, 4, 5, 6, 7, 8, 9, 10, 11, 12, 13, 21, 22, 23] [3, 4, 5, 10, 11] → E A' → E' A') → rec i a b c A Q' E') {Q Q' : cS → Prop} {E E' : cS → Prop}  : ∀ (m : Nat) (s0 : cS) (x1 : Int) (x2 : Int) (x3 : Int), (∀ (A' : cS), ySm s0 A' [2, 3, 4, 5, 6, 7, 8, 9, 10, 11, 12, 13, 21, 22, 23] [3, 4, 5, 10, 11] → Q A' → Q' A') → (∀ (A' : cS), ySm s0 A' [2, 3, 4, 5, 6, 7, 8, 9, 10, 11, 12, 13, 21, 22, 23] [3, 4, 5, 10, 11] → E A' → E' A') → wc_Parser_variables_78 rec Q E  m s0 x1 x2 x3 → wc_Parser_variables_78 rec Q' E'  m s0 x1 x2 x3 := by
  intro m
  induction m with
  | zero => intro s0 x1 x2 x3 hq hE  hw; exact hw
  | succ m ih => intro s0 x1 x2 x3 hq hE  hw; exact ffb_Parser_variables_78 hrec hq hE  (fun A' y0 y1 y2 f1 q => ih A' y0 y1 y2 (fun A' f q => hq A' (f1.tr f rfl rfl) q) (fun A' f q => hE A' (f1.tr f rfl rfl) q)  q) hw
theorem ffb_Parser_variables_14 {rec : Nat → Int → Int → Int → cS → (Int → cS → Prop) → (cS → Prop) → Prop} (hrec : ∀ (i : Nat) (a b c : Int) (A : cS) (Q Q' : Int → cS → Prop) (E E' : cS → Prop), rec i a b c A Q E → (∀ (e : Int) (A' : cS), ySm A A' [2, 3, 4, 5, 6, 7, 8, 9, 10, 11, 12, 13, 21, 22, 23] [3, 4, 5, 10, 11] → Q e A' → Q' e A') → (∀ (A' : cS), ySm A A' [2, 3, 4, 5, 6, 7, 8, 9, 10, 11, 12, 13, 21, 22, 23] [3, 4, 5, 10, 11] → E A' → E' A') → rec i a b c A Q' E') {Q Q' : cS → Prop} {E E' : cS → Prop} {k14 k14' : cS → Int → Int → Int → Prop} {s0 : cS} {x1 : Int} {x2 : Int} {x3 : Int} (hq : ∀ (A' : cS), ySm s0 A' [2, 3, 4, 5, 6, 7, 8, 9, 10, 11, 12, 13, 21, 22, 23] [3, 4, 5, 10, 11] → Q A' → Q' A') (hE : ∀ (A' : cS), ySm s0 A' [2, 3, 4, 5, 6, 7, 8, 9, 10, 11, 12, 13, 21, 22, 23] [3, 4, 5, 10, 11] → E A' → E' A') (fk14 : ∀ (A' : cS) (x0 : Int) (x1 : Int) (x2 : Int), ySm s0 A' [2, 3, 4, 5, 6, 7, 8, 9, 10, 11, 12, 13, 21, 22, 23] [3, 4, 5, 10, 11] → k14 A' x0 x1 x2 → k14' A' x0 x1 x2) (hw : wc_Parser_variables_14B rec Q E k14 s0 x1 x2 x3) : wc_Parser_variables_14B rec Q' E' k14' s0 x1 x2 x3 := by
  unfold wc_Parser_variables_14B at hw ⊢
  refine ⟨fun c1 => ?_, fun c1 => ?_⟩
  · have h2 := hw.1 c1
    refine ffm_Parser_due h2 (fun A4 f1 h10 => ?_) (fun A9 f9 q9 => hE A9 (ySm.rf.tr f9 rfl rfl) q9)
    obtain ⟨m11, h12⟩ := h10
    exact ⟨m11, ffl_Parser_variables_780 hrec m11 _ _ _ _ (fun A' f q => hq A' ((ySm.rf.tr f1 rfl rfl).tr f rfl rfl) q) (fun A' f q => hE A' ((ySm.rf.tr f1 rfl rfl).tr f rfl rfl) q)  h12⟩
  · have h13 := hw.2 c1
    refine ffm_Parser_kind h13 (fun r14 A15 f2 h21 => ?_)
    refine ⟨fun c22 => ?_, fun c22 => ?_⟩
    · have h23 := h21.1 c22
      refine ffm_Parser_leaf h23 (fun r24 A25 f3 h31 => ?_)
      refine ffm_Tree_hang h31 (fun A33 f4 h39 => ?_)
      refine ffm_Parser_kind h39 (fun r40 A41 f5 h47 => ?_)
      refine ⟨fun c48 => ?_, fun c48 => ?_⟩
      · have h49 := h47.1 c48
        refine ffm_Parser_advance h49 (fun A51 f6 h57 => ?_)
        obtain ⟨o58, h59⟩ := h57
        refine ⟨o58, ?_⟩
        obtain ⟨o60, h61⟩ := h59
        refine ⟨o60, ?_⟩
        exact fk14 _ _ _ _ (((((ySm.rf.tr f2 rfl rfl).tr f3 rfl rfl).tr f4 rfl rfl).tr f5 rfl rfl).tr f6 rfl rfl) h61
      · have h62 := h47.2 c48
        refine ffm_Parser_due h62 (fun A64 f7 h70 => ?_) (fun A9 f9 q9 => hE A9 (((((ySm.rf.tr f2 rfl rfl).tr f3 rfl rfl).tr f4 rfl rfl).tr f5 rfl rfl).tr f9 rfl rfl) q9)
        obtain ⟨o71, h72⟩ := h70
        refine ⟨o71, ?_⟩
        obtain ⟨m73, h74⟩ := h72
        exact ⟨m73, ffl_Parser_variables_780 hrec m73 _ _ _ _ (fun A' f q => hq A' ((((((ySm.rf.tr f2 rfl rfl).tr f3 rfl rfl).tr f4 rfl rfl).tr f5 rfl rfl).tr f7 rfl rfl).tr f rfl rfl) q) (fun A' f q => hE A' ((((((ySm.rf.tr f2 rfl rfl).tr f3 rfl rfl).tr f4 rfl rfl).tr f5 rfl rfl).tr f7 rfl rfl).tr f rfl rfl) q)  h74⟩
    · have h75 := h21.2 c22
      refine ffm_Parser_refuse h75 (fun A77 f8 h83 => ?_) (fun A9 f9 q9 => hE A9 ((ySm.rf.tr f2 rfl rfl).tr f9 rfl rfl) q9)
      refine ffm_Parser_leaf h83 (fun r84 A85 f9 h91 => ?_)
      refine ffm_Tree_hang h91 (fun A93 f10 h99 => ?_)
      refine ffm_Parser_kind h99 (fun r100 A101 f11 h107 => ?_)
      refine ⟨fun c108 => ?_, fun c108 => ?_⟩
      · have h109 := h107.1 c108
        refine ffm_Parser_advance h109 (fun A111 f12 h117 => ?_)
        obtain ⟨o118, h119⟩ := h117
        refine ⟨o118, ?_⟩
        obtain ⟨o120, h121⟩ := h119
        refine ⟨o120, ?_⟩
        exact fk14 _ _ _ _ ((((((ySm.rf.tr f2 rfl rfl).tr f8 rfl rfl).tr f9 rfl rfl).tr f10 rfl rfl).tr f11 rfl rfl).tr f12 rfl rfl) h121
      · have h122 := h107.2 c108
        refine ffm_Parser_due h122 (fun A124 f13 h130 => ?_) (fun A9 f9 q9 => hE A9 ((((((ySm.rf.tr f2 rfl rfl).tr f8 rfl rfl).tr f9 rfl rfl).tr f10 rfl rfl).tr f11 rfl rfl).tr f9 rfl rfl) q9)
        obtain ⟨o131, h132⟩ := h130
        refine ⟨o131, ?_⟩
        obtain ⟨m133, h134⟩ := h132
        exact ⟨m133, ffl_Parser_variables_780 hrec m133 _ _ _ _ (fun A' f q => hq A' (((((((ySm.rf.tr f2 rfl rfl).tr f8 rfl rfl).tr f9 rfl rfl).tr f10 rfl rfl).tr f11 rfl rfl).tr f13 rfl rfl).tr f rfl rfl) q) (fun A' f q => hE A' (((((((ySm.rf.tr f2 rfl rfl).tr f8 rfl rfl).tr f9 rfl rfl).tr f10 rfl rfl).tr f11 rfl rfl).tr f13 rfl rfl).tr f rfl rfl) q)  h134⟩
theorem ffl_Parser_variables_140 {rec : Nat → Int → Int → Int → cS → (Int → cS → Prop) → (cS → Prop) → Prop} (hrec : ∀ (i : Nat) (a b c : Int) (A : cS) (Q Q' : Int → cS → Prop) (E E' : cS → Prop), rec i a b c A Q E → (∀ (e : Int) (A' : cS), ySm A A' [2, 3, 4, 5, 6, 7, 8, 9, 10, 11, 12, 13, 21, 22, 23] [3, 4, 5, 10, 11] → Q e A' → Q' e A') → (∀ (A' : cS), ySm A A' [2, 3, 4, 5, 6, 7, 8, 9, 10, 11, 12, 13, 21, 22, 23] [3, 4, 5, 10, 11] → E A' → E' A') → rec i a b c A Q' E') {Q Q' : cS → Prop} {E E' : cS → Prop}  : ∀ (m : Nat) (s0 : cS) (x1 : Int) (x2 : Int) (x3 : Int), (∀ (A' : cS), ySm s0 A' [2, 3, 4, 5, 6, 7, 8, 9, 10, 11, 12, 13, 21, 22, 23] [3, 4, 5, 10, 11] → Q A' → Q' A') → (∀ (A' : cS), ySm s0 A' [2, 3, 4, 5, 6, 7, 8, 9, 10, 11, 12, 13, 21, 22, 23] [3, 4, 5, 10, 11] → E A' → E' A') → wc_Parser_variables_14 rec Q E  m s0 x1 x2 x3 → wc_Parser_variables_14 rec Q' E'  m s0 x1 x2 x3 := by
  intro m
  induction m with
  | zero => intro s0 x1 x2 x3 hq hE  hw; exact hw
  | succ m ih => intro s0 x1 x2 x3 hq hE  hw; exact ffb_Parser_variables_14 hrec hq hE  (fun A' y0 y1 y2 f1 q => ih A' y0 y1 y2 (fun A' f q => hq A' (f1.tr f rfl rfl) q) (fun A' f q => hE A' (f1.tr f rfl rfl) q)  q) hw
theorem ffm_Parser_variables {rec : Nat → Int → Int → Int → cS → (Int → cS → Prop) → (cS → Prop) → Prop} (hrec : ∀ (i : Nat) (a b c : Int) (A : cS) (Q Q' : Int → cS → Prop) (E E' : cS → Prop), rec i a b c A Q E → (∀ (e : Int) (A' : cS), ySm A A' [2, 3, 4, 5, 6, 7, 8, 9, 10, 11, 12, 13, 21, 22, 23] [3, 4, 5, 10, 11] → Q e A' → Q' e A') → (∀ (A' : cS), ySm A A' [2, 3, 4, 5, 6, 7, 8, 9, 10, 11, 12, 13, 21, 22, 23] [3, 4, 5, 10, 11] → E A' → E' A') → rec i a b c A Q' E') {s0 : cS} {a0 : Int} {Q Q' : cS → Prop} {E E' : cS → Prop} (hw : wc_Parser_variables rec s0 a0 Q E) (hq : ∀ (A' : cS), ySm s0 A' [2, 3, 4, 5, 6, 7, 8, 9, 10, 11, 12, 13, 21, 22, 23] [3, 4, 5, 10, 11] → Q A' → Q' A') (hE : ∀ (A' : cS), ySm s0 A' [2, 3, 4, 5, 6, 7, 8, 9, 10, 11, 12, 13, 21, 22, 23] [3, 4, 5, 10, 11] → E A' → E' A') : wc_Parser_variables rec s0 a0 Q' E' := by
  unfold wc_Parser_variables at hw ⊢
  refine ffm_Tree_setKind hw (fun A2 f1 h8 => ?_)
  obtain ⟨m9, h10⟩ := h8
  exact ⟨m9, ffl_Parser_variables_140 hrec m9 _ _ _ _ (fun A' f q => hq A' ((ySm.rf.tr f1 rfl rfl).tr f rfl rfl) q) (fun A' f q => hE A' ((ySm.rf.tr f1 rfl rfl).tr f rfl rfl) q)  h10⟩
theorem ffj_Parser_section_66 {rec : Nat → Int → Int → Int → cS → (Int → cS → Prop) → (cS → Prop) → Prop} (hrec : ∀ (i : Nat) (a b c : Int) (A : cS) (Q Q' : Int → cS → Prop) (E E' : cS → Prop), rec i a b c A Q E → (∀ (e : Int) (A' : cS), ySm A A' [2, 3, 4, 5, 6, 7, 8, 9, 10, 11, 12, 13, 21, 22, 23] [3, 4, 5, 10, 11] → Q e A' → Q' e A') → (∀ (A' : cS), ySm A A' [2, 3, 4, 5, 6, 7, 8, 9, 10, 11, 12, 13, 21, 22, 23] [3, 4, 5, 10, 11] → E A' → E' A') → rec i a b c A Q' E') {Q Q' : Int → cS → Prop} {E E' : cS → Prop} {k32 k32' : cS → Int → Int → Int → Int → Prop} {s0 : cS} {x1 : Int} {x2 : Int} {x4 : Int} {y0 : Int} (hq : ∀ (e : Int) (A' : cS), ySm s0 A' [2, 3, 4, 5, 6, 7, 8, 9, 10, 11, 12, 13, 21, 22, 23] [3, 4, 5, 10, 11] → Q e A' → Q' e A') (hE : ∀ (A' : cS), ySm s0 A' [2, 3, 4, 5, 6, 7, 8, 9, 10, 11, 12, 13, 21, 22, 23] [3, 4, 5, 10, 11] → E A' → E' A') (fk32 : ∀ (A' : cS) (x0 : Int) (x1 : Int) (x2 : Int) (x3 : Int), ySm s0 A' [2, 3, 4, 5, 6, 7, 8, 9, 10, 11, 12, 13, 21, 22, 23] [3, 4, 5, 10, 11] → k32 A' x0 x1 x2 x3 → k32' A' x0 x1 x2 x3) (hw : wc_Parser_section_66 rec Q E k32 s0 x1 x2 x4 y0) : wc_Parser_section_66 rec Q' E' k32' s0 x1 x2 x4 y0 := by
  unfold wc_Parser_section_66 at hw ⊢
  refine ⟨fun c1 => ?_, fun c1 => ?_⟩
  · have h2 := hw.1 c1
    refine ⟨fun c3 => ?_, fun c3 => ?_⟩
    · have h4 := h2.1 c3
      refine ffm_Parser_labels h4 (fun A6 f1 h12 => ?_)
      refine hrec _ _ _ _ _ _ _ _ _ h12 (fun r13 A14 f2 h20 => ?_) (fun A9 f9 q9 => hE A9 ((ySm.rf.tr f1 rfl rfl).tr f9 rfl rfl) q9)
      refine ffm_Tree_hang h20 (fun A22 f3 h28 => ?_)
      refine ffm_Parser_kind h28 (fun r29 A30 f4 h36 => ?_)
      refine ⟨fun c37 => ?_, fun c37 => ?_⟩
      · have h38 := h36.1 c37
        refine ffm_Parser_advance h38 (fun A40 f5 h46 => ?_)
        obtain ⟨o47, h48⟩ := h46
        refine ⟨o47, ?_⟩
        exact fk32 _ _ _ _ _ (((((ySm.rf.tr f1 rfl rfl).tr f2 rfl rfl).tr f3 rfl rfl).tr f4 rfl rfl).tr f5 rfl rfl) h48
      · have h49 := h36.2 c37
        refine ffm_Parser_close h49 (fun A51 f6 h57 => ?_) (fun A9 f9 q9 => hE A9 (((((ySm.rf.tr f1 rfl rfl).tr f2 rfl rfl).tr f3 rfl rfl).tr f4 rfl rfl).tr f9 rfl rfl) q9)
        exact hq _ _ (((((ySm.rf.tr f1 rfl rfl).tr f2 rfl rfl).tr f3 rfl rfl).tr f4 rfl rfl).tr f6 rfl rfl) h57
    · have h58 := h2.2 c3
      refine hrec _ _ _ _ _ _ _ _ _ h58 (fun _ A60 f7 h66 => ?_) (fun A9 f9 q9 => hE A9 (ySm.rf.tr f9 rfl rfl) q9)
      refine ffm_Parser_labels h66 (fun A68 f8 h74 => ?_)
      refine hrec _ _ _ _ _ _ _ _ _ h74 (fun r75 A76 f9 h82 => ?_) (fun A9 f9 q9 => hE A9 (((ySm.rf.tr f7 rfl rfl).tr f8 rfl rfl).tr f9 rfl rfl) q9)
      refine ffm_Tree_hang h82 (fun A84 f10 h90 => ?_)
      refine ffm_Parser_kind h90 (fun r91 A92 f11 h98 => ?_)
      refine ⟨fun c99 => ?_, fun c99 => ?_⟩
      · have h100 := h98.1 c99
        refine ffm_Parser_advance h100 (fun A102 f12 h108 => ?_)
        obtain ⟨o109, h110⟩ := h108
        refine ⟨o109, ?_⟩
        exact fk32 _ _ _ _ _ ((((((ySm.rf.tr f7 rfl rfl).tr f8 rfl rfl).tr f9 rfl rfl).tr f10 rfl rfl).tr f11 rfl rfl).tr f12 rfl rfl) h110
      · have h111 := h98.2 c99
        refine ffm_Parser_close h111 (fun A113 f13 h119 => ?_) (fun A9 f9 q9 => hE A9 ((((((ySm.rf.tr f7 rfl rfl).tr f8 rfl rfl).tr f9 rfl rfl).tr f10 rfl rfl).tr f11 rfl rfl).tr f9 rfl rfl) q9)
        exact hq _ _ ((((((ySm.rf.tr f7 rfl rfl).tr f8 rfl rfl).tr f9 rfl rfl).tr f10 rfl rfl).tr f11 rfl rfl).tr f13 rfl rfl) h119
  · have h120 := hw.2 c1
    refine hrec _ _ _ _ _ _ _ _ _ h120 (fun r121 A122 f14 h128 => ?_) (fun A9 f9 q9 => hE A9 (ySm.rf.tr f9 rfl rfl) q9)
    refine ffm_Tree_hang h128 (fun A130 f15 h136 => ?_)
    refine ffm_Parser_kind h136 (fun r137 A138 f16 h144 => ?_)
    refine ⟨fun c145 => ?_, fun c145 => ?_⟩
    · have h146 := h144.1 c145
      refine ffm_Parser_advance h146 (fun A148 f17 h154 => ?_)
      obtain ⟨o155, h156⟩ := h154
      refine ⟨o155, ?_⟩
      exact fk32 _ _ _ _ _ ((((ySm.rf.tr f14 rfl rfl).tr f15 rfl rfl).tr f16 rfl rfl).tr f17 rfl rfl) h156
    · have h157 := h144.2 c145
      refine ffm_Parser_close h157 (fun A159 f18 h165 => ?_) (fun A9 f9 q9 => hE A9 ((((ySm.rf.tr f14 rfl rfl).tr f15 rfl rfl).tr f16 rfl rfl).tr f9 rfl rfl) q9)
      exact hq _ _ ((((ySm.rf.tr f14 rfl rfl).tr f15 rfl rfl).tr f16 rfl rfl).tr f18 rfl rfl) h165
theorem ffb_Parser_section_32 {rec : Nat → Int → Int → Int → cS → (Int → cS → Prop) → (cS → Prop) → Prop} (hrec : ∀ (i : Nat) (a b c : Int) (A : cS) (Q Q' : Int → cS → Prop) (E E' : cS → Prop), rec i a b c A Q E → (∀ (e : Int) (A' : cS), ySm A A' [2, 3, 4, 5, 6, 7, 8, 9, 10, 11, 12, 13, 21, 22, 23] [3, 4, 5, 10, 11] → Q e A' → Q' e A') → (∀ (A' : cS), ySm A A' [2, 3, 4, 5, 6, 7, 8, 9, 10, 11, 12, 13, 21, 22, 23] [3, 4, 5, 10, 11] → E A' → E' A') → rec i a b c A Q' E') {Q Q' : Int → cS → Prop} {E E' : cS → Prop} {k32 k32' : cS → Int → Int → Int → Int → Prop} {s0 : cS} {x1 : Int} {x2 : Int} {x3 : Int} {x4 : Int} (hq : ∀ (e : Int) (A' : cS), ySm s0 A' [2, 3, 4, 5, 6, 7, 8, 9, 10, 11, 12, 13, 21, 22, 23] [3, 4, 5, 10, 11] → Q e A' → Q' e A') (hE : ∀ (A' : cS), ySm s0 A' [2, 3, 4, 5, 6, 7, 8, 9, 10, 11, 12, 13, 21, 22, 23] [3, 4, 5, 10, 11] → E A' → E' A') (fk32 : ∀ (A' : cS) (x0 : Int) (x1 : Int) (x2 : Int) (x3 : Int), ySm s0 A' [2, 3, 4, 5, 6, 7, 8, 9, 10, 11, 12, 13, 21, 22, 23] [3, 4, 5, 10, 11] → k32 A' x0 x1 x2 x3 → k32' A' x0 x1 x2 x3) (hw : wc_Parser_section_32B rec Q E k32 s0 x1 x2 x3 x4) : wc_Parser_section_32B rec Q' E' k32' s0 x1 x2 x3 x4 := by
  unfold wc_Parser_section_32B at hw ⊢
  refine ⟨fun c1 => ?_, fun c1 => ?_⟩
  · have h2 := hw.1 c1
    refine ffm_Parser_close h2 (fun A4 f1 h10 => ?_) (fun A9 f9 q9 => hE A9 (ySm.rf.tr f9 rfl rfl) q9)
    exact hq _ _ (ySm.rf.tr f1 rfl rfl) h10
  · have h11 := hw.2 c1
    refine ⟨fun c12 => ?_, fun c12 => ?_⟩
    · have h13 := h11.1 c12
      exact ffj_Parser_section_66 hrec (fun e A' f q => hq e A' (ySm.rf.tr f rfl rfl) q) (fun A' f q => hE A' (ySm.rf.tr f rfl rfl) q) (fun A' x0 x1 x2 x3 f q => fk32 A' x0 x1 x2 x3 (ySm.rf.tr f rfl rfl) q) h13
    · have h14 := h11.2 c12
      refine ffm_Parser_kind h14 (fun r15 A16 f2 h22 => ?_)
      refine ⟨fun c23 => ?_, fun c23 => ?_⟩
      · have h24 := h22.1 c23
        exact ffj_Parser_section_66 hrec (fun e A' f q => hq e A' ((ySm.rf.tr f2 rfl rfl).tr f rfl rfl) q) (fun A' f q => hE A' ((ySm.rf.tr f2 rfl rfl).tr f rfl rfl) q) (fun A' x0 x1 x2 x3 f q => fk32 A' x0 x1 x2 x3 ((ySm.rf.tr f2 rfl rfl).tr f rfl rfl) q) h24
      · have h25 := h22.2 c23
        refine ffm_Parser_kind h25 (fun r26 A27 f3 h33 => ?_)
        refine ⟨fun c34 => ?_, fun c34 => ?_⟩
        · have h35 := h33.1 c34
          exact ffj_Parser_section_66 hrec (fun e A' f q => hq e A' (((ySm.rf.tr f2 rfl rfl).tr f3 rfl rfl).tr f rfl rfl) q) (fun A' f q => hE A' (((ySm.rf.tr f2 rfl rfl).tr f3 rfl rfl).tr f rfl rfl) q) (fun A' x0 x1 x2 x3 f q => fk32 A' x0 x1 x2 x3 (((ySm.rf.tr f2 rfl rfl).tr f3 rfl rfl).tr f rfl rfl) q) h35
        · have h36 := h33.2 c34
          exact ffj_Parser_section_66 hrec (fun e A' f q => hq e A' (((ySm.rf.tr f2 rfl rfl).tr f3 rfl rfl).tr f rfl rfl) q) (fun A' f q => hE A' (((ySm.rf.tr f2 rfl rfl).tr f3 rfl rfl).tr f rfl rfl) q) (fun A' x0 x1 x2 x3 f q => fk32 A' x0 x1 x2 x3 (((ySm.rf.tr f2 rfl rfl).tr f3 rfl rfl).tr f rfl rfl) q) h36
theorem ffl_Parser_section_320 {rec : Nat → Int → Int → Int → cS → (Int → cS → Prop) → (cS → Prop) → Prop} (hrec : ∀ (i : Nat) (a b c : Int) (A : cS) (Q Q' : Int → cS → Prop) (E E' : cS → Prop), rec i a b c A Q E → (∀ (e : Int) (A' : cS), ySm A A' [2, 3, 4, 5, 6, 7, 8, 9, 10, 11, 12, 13, 21, 22, 23] [3, 4, 5, 10, 11] → Q e A' → Q' e A') → (∀ (A' : cS), ySm A A' [2, 3, 4, 5, 6, 7, 8, 9, 10, 11, 12, 13, 21, 22, 23] [3, 4, 5, 10, 11] → E A' → E' A') → rec i a b c A Q' E') {Q Q' : Int → cS → Prop} {E E' : cS → Prop}  : ∀ (m : Nat) (s0 : cS) (x1 : Int) (x2 : Int) (x3 : Int) (x4 : Int), (∀ (e : Int) (A' : cS), ySm s0 A' [2, 3, 4, 5, 6, 7, 8, 9, 10, 11, 12, 13, 21, 22, 23] [3, 4, 5, 10, 11] → Q e A' → Q' e A') → (∀ (A' : cS), ySm s0 A' [2, 3, 4, 5, 6, 7, 8, 9, 10, 11, 12, 13, 21, 22, 23] [3, 4, 5, 10, 11] → E A' → E' A') → wc_Parser_section_32 rec Q E  m s0 x1 x2 x3 x4 → wc_Parser_section_32 rec Q' E'  m s0 x1 x2 x3 x4 := by
  intro m
  induction m with
  | zero => intro s0 x1 x2 x3 x4 hq hE  hw; exact hw
  | succ m ih => intro s0 x1 x2 x3 x4 hq hE  hw; exact ffb_Parser_section_32 hrec hq hE  (fun A' y0 y1 y2 y3 f1 q => ih A' y0 y1 y2 y3 (fun e A' f q => hq e A' (f1.tr f rfl rfl) q) (fun A' f q => hE A' (f1.tr f rfl rfl) q)  q) hw
theorem ffm_Parser_section {rec : Nat → Int → Int → Int → cS → (Int → cS → Prop) → (cS → Prop) → Prop} (hrec : ∀ (i : Nat) (a b c : Int) (A : cS) (Q Q' : Int → cS → Prop) (E E' : cS → Prop), rec i a b c A Q E → (∀ (e : Int) (A' : cS), ySm A A' [2, 3, 4, 5, 6, 7, 8, 9, 10, 11, 12, 13, 21, 22, 23] [3, 4, 5, 10, 11] → Q e A' → Q' e A') → (∀ (A' : cS), ySm A A' [2, 3, 4, 5, 6, 7, 8, 9, 10, 11, 12, 13, 21, 22, 23] [3, 4, 5, 10, 11] → E A' → E' A') → rec i a b c A Q' E') {s0 : cS} {a0 : Int} {Q Q' : Int → cS → Prop} {E E' : cS → Prop} (hw : wc_Parser_section rec s0 a0 Q E) (hq : ∀ (e : Int) (A' : cS), ySm s0 A' [2, 3, 4, 5, 6, 7, 8, 9, 10, 11, 12, 13, 21, 22, 23] [3, 4, 5, 10, 11] → Q e A' → Q' e A') (hE : ∀ (A' : cS), ySm s0 A' [2, 3, 4, 5, 6, 7, 8, 9, 10, 11, 12, 13, 21, 22, 23] [3, 4, 5, 10, 11] → E A' → E' A') : wc_Parser_section rec s0 a0 Q' E' := by
  unfold wc_Parser_section at hw ⊢
  refine ffm_Parser_place hw (fun r1 A2 f1 h8 => ?_)
  refine ffm_Tree_node h8 (fun r9 A10 f2 h16 => ?_)
  refine ffm_Parser_open h16 (fun A18 f3 h24 => ?_) (fun A9 f9 q9 => hE A9 (((ySm.rf.tr f1 rfl rfl).tr f2 rfl rfl).tr f9 rfl rfl) q9)
  refine ⟨fun c25 => ?_, fun c25 => ?_⟩
  · have h26 := h24.1 c25
    obtain ⟨m27, h28⟩ := h26
    exact ⟨m27, ffl_Parser_section_320 hrec m27 _ _ _ _ _ (fun e A' f q => hq e A' ((((ySm.rf.tr f1 rfl rfl).tr f2 rfl rfl).tr f3 rfl rfl).tr f rfl rfl) q) (fun A' f q => hE A' ((((ySm.rf.tr f1 rfl rfl).tr f2 rfl rfl).tr f3 rfl rfl).tr f rfl rfl) q)  h28⟩
  · have h29 := h24.2 c25
    obtain ⟨m30, h31⟩ := h29
    exact ⟨m30, ffl_Parser_section_320 hrec m30 _ _ _ _ _ (fun e A' f q => hq e A' ((((ySm.rf.tr f1 rfl rfl).tr f2 rfl rfl).tr f3 rfl rfl).tr f rfl rfl) q) (fun A' f q => hE A' ((((ySm.rf.tr f1 rfl rfl).tr f2 rfl rfl).tr f3 rfl rfl).tr f rfl rfl) q)  h31⟩
theorem ffj_Parser_cases_40 {rec : Nat → Int → Int → Int → cS → (Int → cS → Prop) → (cS → Prop) → Prop} (hrec : ∀ (i : Nat) (a b c : Int) (A : cS) (Q Q' : Int → cS → Prop) (E E' : cS → Prop), rec i a b c A Q E → (∀ (e : Int) (A' : cS), ySm A A' [2, 3, 4, 5, 6, 7, 8, 9, 10, 11, 12, 13, 21, 22, 23] [3, 4, 5, 10, 11] → Q e A' → Q' e A') → (∀ (A' : cS), ySm A A' [2, 3, 4, 5, 6, 7, 8, 9, 10, 11, 12, 13, 21, 22, 23] [3, 4, 5, 10, 11] → E A' → E' A') → rec i a b c A Q' E') {Q Q' : cS → Prop} {E E' : cS → Prop} {k2 k2' : cS → Int → Int → Prop} {s0 : cS} {x1 : Int} {x2 : Int} {y0 : Int} (hq : ∀ (A' : cS), ySm s0 A' [2, 3, 4, 5, 6, 7, 8, 9, 10, 11, 12, 13, 21, 22, 23] [3, 4, 5, 10, 11] → Q A' → Q' A') (hE : ∀ (A' : cS), ySm s0 A' [2, 3, 4, 5, 6, 7, 8, 9, 10, 11, 12, 13, 21, 22, 23] [3, 4, 5, 10, 11] → E A' → E' A') (fk2 : ∀ (A' : cS) (x0 : Int) (x1 : Int), ySm s0 A' [2, 3, 4, 5, 6, 7, 8, 9, 10, 11, 12, 13, 21, 22, 23] [3, 4, 5, 10, 11] → k2 A' x0 x1 → k2' A' x0 x1) (hw : wc_Parser_cases_40 rec Q E k2 s0 x1 x2 y0) : wc_Parser_cases_40 rec Q' E' k2' s0 x1 x2 y0 := by
  unfold wc_Parser_cases_40 at hw ⊢
  refine ffm_Parser_kind hw (fun r1 A2 f1 h8 => ?_)
  refine ffm_Parser_leaf h8 (fun r9 A10 f2 h16 => ?_)
  refine ⟨fun c17 => ?_, fun c17 => ?_⟩
  · have h18 := h16.1 c17
    refine ffm_Parser_due h18 (fun A20 f3 h26 => ?_) (fun A9 f9 q9 => hE A9 (((ySm.rf.tr f1 rfl rfl).tr f2 rfl rfl).tr f9 rfl rfl) q9)
    refine ffm_Tree_hang h26 (fun A28 f4 h34 => ?_)
    obtain ⟨o35, h36⟩ := h34
    refine ⟨o35, ?_⟩
    exact fk2 _ _ _ ((((ySm.rf.tr f1 rfl rfl).tr f2 rfl rfl).tr f3 rfl rfl).tr f4 rfl rfl) h36
  · have h37 := h16.2 c17
    refine hrec _ _ _ _ _ _ _ _ _ h37 (fun r38 A39 f5 h45 => ?_) (fun A9 f9 q9 => hE A9 (((ySm.rf.tr f1 rfl rfl).tr f2 rfl rfl).tr f9 rfl rfl) q9)
    refine ffm_Tree_hang h45 (fun A47 f6 h53 => ?_)
    refine ffm_Parser_due h53 (fun A55 f7 h61 => ?_) (fun A9 f9 q9 => hE A9 (((((ySm.rf.tr f1 rfl rfl).tr f2 rfl rfl).tr f5 rfl rfl).tr f6 rfl rfl).tr f9 rfl rfl) q9)
    refine ffm_Tree_hang h61 (fun A63 f8 h69 => ?_)
    obtain ⟨o70, h71⟩ := h69
    refine ⟨o70, ?_⟩
    exact fk2 _ _ _ ((((((ySm.rf.tr f1 rfl rfl).tr f2 rfl rfl).tr f5 rfl rfl).tr f6 rfl rfl).tr f7 rfl rfl).tr f8 rfl rfl) h71
theorem ffb_Parser_cases_2 {rec : Nat → Int → Int → Int → cS → (Int → cS → Prop) → (cS → Prop) → Prop} (hrec : ∀ (i : Nat) (a b c : Int) (A : cS) (Q Q' : Int → cS → Prop) (E E' : cS → Prop), rec i a b c A Q E → (∀ (e : Int) (A' : cS), ySm A A' [2, 3, 4, 5, 6, 7, 8, 9, 10, 11, 12, 13, 21, 22, 23] [3, 4, 5, 10, 11] → Q e A' → Q' e A') → (∀ (A' : cS), ySm A A' [2, 3, 4, 5, 6, 7, 8, 9, 10, 11, 12, 13, 21, 22, 23] [3, 4, 5, 10, 11] → E A' → E' A') → rec i a b c A Q' E') {Q Q' : cS → Prop} {E E' : cS → Prop} {k2 k2' : cS → Int → Int → Prop} {s0 : cS} {x1 : Int} {x2 : Int} (hq : ∀ (A' : cS), ySm s0 A' [2, 3, 4, 5, 6, 7, 8, 9, 10, 11, 12, 13, 21, 22, 23] [3, 4, 5, 10, 11] → Q A' → Q' A') (hE : ∀ (A' : cS), ySm s0 A' [2, 3, 4, 5, 6, 7, 8, 9, 10, 11, 12, 13, 21, 22, 23] [3, 4, 5, 10, 11] → E A' → E' A') (fk2 : ∀ (A' : cS) (x0 : Int) (x1 : Int), ySm s0 A' [2, 3, 4, 5, 6, 7, 8, 9, 10, 11, 12, 13, 21, 22, 23] [3, 4, 5, 10, 11] → k2 A' x0 x1 → k2' A' x0 x1) (hw : wc_Parser_cases_2B rec Q E k2 s0 x1 x2) : wc_Parser_cases_2B rec Q' E' k2' s0 x1 x2 := by
  unfold wc_Parser_cases_2B at hw ⊢
  refine ⟨fun c1 => ?_, fun c1 => ?_⟩
  · have h2 := hw.1 c1
    exact hq _ ySm.rf h2
  · have h3 := hw.2 c1
    refine ffm_Parser_kind h3 (fun r4 A5 f1 h11 => ?_)
    refine ⟨fun c12 => ?_, fun c12 => ?_⟩
    · have h13 := h11.1 c12
      refine ffm_Parser_kind h13 (fun r14 A15 f2 h21 => ?_)
      refine ⟨fun c22 => ?_, fun c22 => ?_⟩
      · have h23 := h21.1 c22
        exact ffj_Parser_cases_40 hrec (fun A' f q => hq A' (((ySm.rf.tr f1 rfl rfl).tr f2 rfl rfl).tr f rfl rfl) q) (fun A' f q => hE A' (((ySm.rf.tr f1 rfl rfl).tr f2 rfl rfl).tr f rfl rfl) q) (fun A' x0 x1 f q => fk2 A' x0 x1 (((ySm.rf.tr f1 rfl rfl).tr f2 rfl rfl).tr f rfl rfl) q) h23
      · have h24 := h21.2 c22
        exact ffj_Parser_cases_40 hrec (fun A' f q => hq A' (((ySm.rf.tr f1 rfl rfl).tr f2 rfl rfl).tr f rfl rfl) q) (fun A' f q => hE A' (((ySm.rf.tr f1 rfl rfl).tr f2 rfl rfl).tr f rfl rfl) q) (fun A' x0 x1 f q => fk2 A' x0 x1 (((ySm.rf.tr f1 rfl rfl).tr f2 rfl rfl).tr f rfl rfl) q) h24
    · have h25 := h11.2 c12
      refine ffm_Parser_kind h25 (fun r26 A27 f3 h33 => ?_)
      refine ⟨fun c34 => ?_, fun c34 => ?_⟩
      · have h35 := h33.1 c34
        exact hq _ ((ySm.rf.tr f1 rfl rfl).tr f3 rfl rfl) h35
      · have h36 := h33.2 c34
        refine ffm_Parser_kind h36 (fun r37 A38 f4 h44 => ?_)
        refine ⟨fun c45 => ?_, fun c45 => ?_⟩
        · have h46 := h44.1 c45
          exact ffj_Parser_cases_40 hrec (fun A' f q => hq A' ((((ySm.rf.tr f1 rfl rfl).tr f3 rfl rfl).tr f4 rfl rfl).tr f rfl rfl) q) (fun A' f q => hE A' ((((ySm.rf.tr f1 rfl rfl).tr f3 rfl rfl).tr f4 rfl rfl).tr f rfl rfl) q) (fun A' x0 x1 f q => fk2 A' x0 x1 ((((ySm.rf.tr f1 rfl rfl).tr f3 rfl rfl).tr f4 rfl rfl).tr f rfl rfl) q) h46
        · have h47 := h44.2 c45
          exact ffj_Parser_cases_40 hrec (fun A' f q => hq A' ((((ySm.rf.tr f1 rfl rfl).tr f3 rfl rfl).tr f4 rfl rfl).tr f rfl rfl) q) (fun A' f q => hE A' ((((ySm.rf.tr f1 rfl rfl).tr f3 rfl rfl).tr f4 rfl rfl).tr f rfl rfl) q) (fun A' x0 x1 f q => fk2 A' x0 x1 ((((ySm.rf.tr f1 rfl rfl).tr f3 rfl rfl).tr f4 rfl rfl).tr f rfl rfl) q) h47
theorem ffl_Parser_cases_20 {rec : Nat → Int → Int → Int → cS → (Int → cS → Prop) → (cS → Prop) → Prop} (hrec : ∀ (i : Nat) (a b c : Int) (A : cS) (Q Q' : Int → cS → Prop) (E E' : cS → Prop), rec i a b c A Q E → (∀ (e : Int) (A' : cS), ySm A A' [2, 3, 4, 5, 6, 7, 8, 9, 10, 11, 12, 13, 21, 22, 23] [3, 4, 5, 10, 11] → Q e A' → Q' e A') → (∀ (A' : cS), ySm A A' [2, 3, 4, 5, 6, 7, 8, 9, 10, 11, 12, 13, 21, 22, 23] [3, 4, 5, 10, 11] → E A' → E' A') → rec i a b c A Q' E') {Q Q' : cS → Prop} {E E' : cS → Prop}  : ∀ (m : Nat) (s0 : cS) (x1 : Int) (x2 : Int), (∀ (A' : cS), ySm s0 A' [2, 3, 4, 5, 6, 7, 8, 9, 10, 11, 12, 13, 21, 22, 23] [3, 4, 5, 10, 11] → Q A' → Q' A') → (∀ (A' : cS), ySm s0 A' [2, 3, 4, 5, 6, 7, 8, 9, 10, 11, 12, 13, 21, 22, 23] [3, 4, 5, 10, 11] → E A' → E' A') → wc_Parser_cases_2 rec Q E  m s0 x1 x2 → wc_Parser_cases_2 rec Q' E'  m s0 x1 x2 := by
  intro m
  induction m with
  | zero => intro s0 x1 x2 hq hE  hw; exact hw
  | succ m ih => intro s0 x1 x2 hq hE  hw; exact ffb_Parser_cases_2 hrec hq hE  (fun A' y0 y1 f1 q => ih A' y0 y1 (fun A' f q => hq A' (f1.tr f rfl rfl) q) (fun A' f q => hE A' (f1.tr f rfl rfl) q)  q) hw
theorem ffm_Parser_cases {rec : Nat → Int → Int → Int → cS → (Int → cS → Prop) → (cS → Prop) → Prop} (hrec : ∀ (i : Nat) (a b c : Int) (A : cS) (Q Q' : Int → cS → Prop) (E E' : cS → Prop), rec i a b c A Q E → (∀ (e : Int) (A' : cS), ySm A A' [2, 3, 4, 5, 6, 7, 8, 9, 10, 11, 12, 13, 21, 22, 23] [3, 4, 5, 10, 11] → Q e A' → Q' e A') → (∀ (A' : cS), ySm A A' [2, 3, 4, 5, 6, 7, 8, 9, 10, 11, 12, 13, 21, 22, 23] [3, 4, 5, 10, 11] → E A' → E' A') → rec i a b c A Q' E') {s0 : cS} {a0 : Int} {Q Q' : cS → Prop} {E E' : cS → Prop} (hw : wc_Parser_cases rec s0 a0 Q E) (hq : ∀ (A' : cS), ySm s0 A' [2, 3, 4, 5, 6, 7, 8, 9, 10, 11, 12, 13, 21, 22, 23] [3, 4, 5, 10, 11] → Q A' → Q' A') (hE : ∀ (A' : cS), ySm s0 A' [2, 3, 4, 5, 6, 7, 8, 9, 10, 11, 12, 13, 21, 22, 23] [3, 4, 5, 10, 11] → E A' → E' A') : wc_Parser_cases rec s0 a0 Q' E' := by
  unfold wc_Parser_cases at hw ⊢
  obtain ⟨m1, h2⟩ := hw
  exact ⟨m1, ffl_Parser_cases_20 hrec m1 _ _ _ (fun A' f q => hq A' (ySm.rf.tr f rfl rfl) q) (fun A' f q => hE A' (ySm.rf.tr f rfl rfl) q)  h2⟩
theorem ffj_Parser_command_320 {rec : Nat → Int → Int → Int → cS → (Int → cS → Prop) → (cS → Prop) → Prop} (hrec : ∀ (i : Nat) (a b c : Int) (A : cS) (Q Q' : Int → cS → Prop) (E E' : cS → Prop), rec i a b c A Q E → (∀ (e : Int) (A' : cS), ySm A A' [2, 3, 4, 5, 6, 7, 8, 9, 10, 11, 12, 13, 21, 22, 23] [3, 4, 5, 10, 11] → Q e A' → Q' e A') → (∀ (A' : cS), ySm A A' [2, 3, 4, 5, 6, 7, 8, 9, 10, 11, 12, 13, 21, 22, 23] [3, 4, 5, 10, 11] → E A' → E' A') → rec i a b c A Q' E') {Q Q' : Int → cS → Prop} {E E' : cS → Prop}  {s0 : cS} {x1 : Int} (hq : ∀ (e : Int) (A' : cS), ySm s0 A' [2, 3, 4, 5, 6, 7, 8, 9, 10, 11, 12, 13, 21, 22, 23] [3, 4, 5, 10, 11] → Q e A' → Q' e A') (hE : ∀ (A' : cS), ySm s0 A' [2, 3, 4, 5, 6, 7, 8, 9, 10, 11, 12, 13, 21, 22, 23] [3, 4, 5, 10, 11] → E A' → E' A')  (hw : wc_Parser_command_320 rec Q E  s0 x1) : wc_Parser_command_320 rec Q' E'  s0 x1 := by
  unfold wc_Parser_command_320 at hw ⊢
  refine ffm_Parser_kind hw (fun r1 A2 f1 h8 => ?_)
  refine ffm_Parser_isRepeat h8 (fun r9 A10 f2 h16 => ?_)
  refine ⟨fun c17 => ?_, fun c17 => ?_⟩
  · have h18 := h16.1 c17
    exact hq _ _ ((ySm.rf.tr f1 rfl rfl).tr f2 rfl rfl) h18
  · have h19 := h16.2 c17
    refine hrec _ _ _ _ _ _ _ _ _ h19 (fun r20 A21 f3 h27 => ?_) (fun A9 f9 q9 => hE A9 (((ySm.rf.tr f1 rfl rfl).tr f2 rfl rfl).tr f9 rfl rfl) q9)
    exact hq _ _ (((ySm.rf.tr f1 rfl rfl).tr f2 rfl rfl).tr f3 rfl rfl) h27
theorem ffm_Parser_command {rec : Nat → Int → Int → Int → cS → (Int → cS → Prop) → (cS → Prop) → Prop} (hrec : ∀ (i : Nat) (a b c : Int) (A : cS) (Q Q' : Int → cS → Prop) (E E' : cS → Prop), rec i a b c A Q E → (∀ (e : Int) (A' : cS), ySm A A' [2, 3, 4, 5, 6, 7, 8, 9, 10, 11, 12, 13, 21, 22, 23] [3, 4, 5, 10, 11] → Q e A' → Q' e A') → (∀ (A' : cS), ySm A A' [2, 3, 4, 5, 6, 7, 8, 9, 10, 11, 12, 13, 21, 22, 23] [3, 4, 5, 10, 11] → E A' → E' A') → rec i a b c A Q' E') {s0 : cS}  {Q Q' : Int → cS → Prop} {E E' : cS → Prop} (hw : wc_Parser_command rec s0  Q E) (hq : ∀ (e : Int) (A' : cS), ySm s0 A' [2, 3, 4, 5, 6, 7, 8, 9, 10, 11, 12, 13, 21, 22, 23] [3, 4, 5, 10, 11] → Q e A' → Q' e A') (hE : ∀ (A' : cS), ySm s0 A' [2, 3, 4, 5, 6, 7, 8, 9, 10, 11, 12, 13, 21, 22, 23] [3, 4, 5, 10, 11] → E A' → E' A') : wc_Parser_command rec s0  Q' E' := by
  unfold wc_Parser_command at hw ⊢
  refine ffm_Parser_kind hw (fun r1 A2 f1 h8 => ?_)
  refine ⟨fun g9 => ?_, ?_⟩
  · have h11 := (h8.1) g9
    refine hrec _ _ _ _ _ _ _ _ _ h11 (fun r12 A13 f2 h19 => ?_) (fun A9 f9 q9 => hE A9 ((ySm.rf.tr f1 rfl rfl).tr f9 rfl rfl) q9)
    exact ffj_Parser_command_320 hrec (fun e A' f q => hq e A' (((ySm.rf.tr f1 rfl rfl).tr f2 rfl rfl).tr f rfl rfl) q) (fun A' f q => hE A' (((ySm.rf.tr f1 rfl rfl).tr f2 rfl rfl).tr f rfl rfl) q)  h19
  · skip
    refine ⟨fun g20 => ?_, ?_⟩
    · have h22 := (h8.2.1) g20
      refine ffm_Parser_place h22 (fun r23 A24 f3 h30 => ?_)
      refine ffm_Tree_node h30 (fun r31 A32 f4 h38 => ?_)
      exact hq _ _ (((ySm.rf.tr f1 rfl rfl).tr f3 rfl rfl).tr f4 rfl rfl) h38
    · skip
      refine ⟨fun g39 => ?_, ?_⟩
      · have h41 := (h8.2.2.1) g39
        refine hrec _ _ _ _ _ _ _ _ _ h41 (fun r42 A43 f5 h49 => ?_) (fun A9 f9 q9 => hE A9 ((ySm.rf.tr f1 rfl rfl).tr f9 rfl rfl) q9)
        exact ffj_Parser_command_320 hrec (fun e A' f q => hq e A' (((ySm.rf.tr f1 rfl rfl).tr f5 rfl rfl).tr f rfl rfl) q) (fun A' f q => hE A' (((ySm.rf.tr f1 rfl rfl).tr f5 rfl rfl).tr f rfl rfl) q)  h49
      · skip
        refine ⟨fun g50 => ?_, ?_⟩
        · have h52 := (h8.2.2.2.1) g50
          refine hrec _ _ _ _ _ _ _ _ _ h52 (fun r53 A54 f6 h60 => ?_) (fun A9 f9 q9 => hE A9 ((ySm.rf.tr f1 rfl rfl).tr f9 rfl rfl) q9)
          exact ffj_Parser_command_320 hrec (fun e A' f q => hq e A' (((ySm.rf.tr f1 rfl rfl).tr f6 rfl rfl).tr f rfl rfl) q) (fun A' f q => hE A' (((ySm.rf.tr f1 rfl rfl).tr f6 rfl rfl).tr f rfl rfl) q)  h60
        · skip
          refine ⟨fun g61 => ?_, ?_⟩
          · have h63 := (h8.2.2.2.2.1) g61
            refine hrec _ _ _ _ _ _ _ _ _ h63 (fun r64 A65 f7 h71 => ?_) (fun A9 f9 q9 => hE A9 ((ySm.rf.tr f1 rfl rfl).tr f9 rfl rfl) q9)
            exact ffj_Parser_command_320 hrec (fun e A' f q => hq e A' (((ySm.rf.tr f1 rfl rfl).tr f7 rfl rfl).tr f rfl rfl) q) (fun A' f q => hE A' (((ySm.rf.tr f1 rfl rfl).tr f7 rfl rfl).tr f rfl rfl) q)  h71
          · skip
            refine ⟨fun g72 => ?_, ?_⟩
            · have h74 := (h8.2.2.2.2.2.1) g72
              refine ffm_Parser_kind h74 (fun r75 A76 f8 h82 => ?_)
              refine ffm_Parser_leaf h82 (fun r83 A84 f9 h90 => ?_)
              exact ffj_Parser_command_320 hrec (fun e A' f q => hq e A' ((((ySm.rf.tr f1 rfl rfl).tr f8 rfl rfl).tr f9 rfl rfl).tr f rfl rfl) q) (fun A' f q => hE A' ((((ySm.rf.tr f1 rfl rfl).tr f8 rfl rfl).tr f9 rfl rfl).tr f rfl rfl) q)  h90
            · skip
              refine ⟨fun g91 => ?_, ?_⟩
              · have h93 := (h8.2.2.2.2.2.2.1) g91
                refine ffm_Parser_leaf h93 (fun r94 A95 f10 h101 => ?_)
                refine hrec _ _ _ _ _ _ _ _ _ h101 (fun r102 A103 f11 h109 => ?_) (fun A9 f9 q9 => hE A9 (((ySm.rf.tr f1 rfl rfl).tr f10 rfl rfl).tr f9 rfl rfl) q9)
                refine ffm_Tree_hang h109 (fun A111 f12 h117 => ?_)
                exact ffj_Parser_command_320 hrec (fun e A' f q => hq e A' (((((ySm.rf.tr f1 rfl rfl).tr f10 rfl rfl).tr f11 rfl rfl).tr f12 rfl rfl).tr f rfl rfl) q) (fun A' f q => hE A' (((((ySm.rf.tr f1 rfl rfl).tr f10 rfl rfl).tr f11 rfl rfl).tr f12 rfl rfl).tr f rfl rfl) q)  h117
              · skip
                refine ⟨fun g118 => ?_, ?_⟩
                · have h120 := (h8.2.2.2.2.2.2.2.1) g118
                  refine ffm_Parser_advance h120 (fun A122 f13 h128 => ?_)
                  refine ffm_Parser_place h128 (fun r129 A130 f14 h136 => ?_)
                  refine ffm_Parser_nameDue h136 (fun r137 A138 f15 h144 => ?_) (fun A9 f9 q9 => hE A9 ((((ySm.rf.tr f1 rfl rfl).tr f13 rfl rfl).tr f14 rfl rfl).tr f9 rfl rfl) q9)
                  refine ffm_Tree_node h144 (fun r145 A146 f16 h152 => ?_)
                  exact ffj_Parser_command_320 hrec (fun e A' f q => hq e A' ((((((ySm.rf.tr f1 rfl rfl).tr f13 rfl rfl).tr f14 rfl rfl).tr f15 rfl rfl).tr f16 rfl rfl).tr f rfl rfl) q) (fun A' f q => hE A' ((((((ySm.rf.tr f1 rfl rfl).tr f13 rfl rfl).tr f14 rfl rfl).tr f15 rfl rfl).tr f16 rfl rfl).tr f rfl rfl) q)  h152
                · skip
                  intro ng9 ng20 ng39 ng50 ng61 ng72 ng91 ng118
                  have h153 := h8.2.2.2.2.2.2.2.2 ng9 ng20 ng39 ng50 ng61 ng72 ng91 ng118
                  refine hrec _ _ _ _ _ _ _ _ _ h153 (fun r154 A155 f17 h161 => ?_) (fun A9 f9 q9 => hE A9 ((ySm.rf.tr f1 rfl rfl).tr f9 rfl rfl) q9)
                  exact ffj_Parser_command_320 hrec (fun e A' f q => hq e A' (((ySm.rf.tr f1 rfl rfl).tr f17 rfl rfl).tr f rfl rfl) q) (fun A' f q => hE A' (((ySm.rf.tr f1 rfl rfl).tr f17 rfl rfl).tr f rfl rfl) q)  h161
theorem ffb_Parser_repeats_36 {rec : Nat → Int → Int → Int → cS → (Int → cS → Prop) → (cS → Prop) → Prop} (hrec : ∀ (i : Nat) (a b c : Int) (A : cS) (Q Q' : Int → cS → Prop) (E E' : cS → Prop), rec i a b c A Q E → (∀ (e : Int) (A' : cS), ySm A A' [2, 3, 4, 5, 6, 7, 8, 9, 10, 11, 12, 13, 21, 22, 23] [3, 4, 5, 10, 11] → Q e A' → Q' e A') → (∀ (A' : cS), ySm A A' [2, 3, 4, 5, 6, 7, 8, 9, 10, 11, 12, 13, 21, 22, 23] [3, 4, 5, 10, 11] → E A' → E' A') → rec i a b c A Q' E') {Q Q' : Int → cS → Prop} {E E' : cS → Prop} {k36 k36' : cS → Int → Int → Int → Prop} {s0 : cS} {x2 : Int} {x3 : Int} {x4 : Int} (hq : ∀ (e : Int) (A' : cS), ySm s0 A' [2, 3, 4, 5, 6, 7, 8, 9, 10, 11, 12, 13, 21, 22, 23] [3, 4, 5, 10, 11] → Q e A' → Q' e A') (hE : ∀ (A' : cS), ySm s0 A' [2, 3, 4, 5, 6, 7, 8, 9, 10, 11, 12, 13, 21, 22, 23] [3, 4, 5, 10, 11] → E A' → E' A') (fk36 : ∀ (A' : cS) (x0 : Int) (x1 : Int) (x2 : Int), ySm s0 A' [2, 3, 4, 5, 6, 7, 8, 9, 10, 11, 12, 13, 21, 22, 23] [3, 4, 5, 10, 11] → k36 A' x0 x1 x2 → k36' A' x0 x1 x2) (hw : wc_Parser_repeats_36B rec Q E k36 s0 x2 x3 x4) : wc_Parser_repeats_36B rec Q' E' k36' s0 x2 x3 x4 := by
  unfold wc_Parser_repeats_36B at hw ⊢
  refine ⟨fun c1 => ?_, fun c1 => ?_⟩
  · have h2 := hw.1 c1
    exact hq _ _ (ySm.rf.pv rfl) h2
  · have h14 := hw.2 c1
    refine ffm_Parser_kind h14 (fun r15 A16 f1 h22 => ?_)
    refine ffm_Parser_isRepeat h22 (fun r23 A24 f2 h30 => ?_)
    refine ⟨fun c31 => ?_, fun c31 => ?_⟩
    · have h32 := h30.1 c31
      exact hq _ _ (((ySm.rf.tr f1 rfl rfl).tr f2 rfl rfl).pv rfl) h32
    · have h44 := h30.2 c31
      refine ffm_Parser_enter h44 (fun A46 f3 h52 => ?_) (fun A9 f9 q9 => hE A9 (((ySm.rf.tr f1 rfl rfl).tr f2 rfl rfl).tr f9 rfl rfl) q9)
      refine ffm_Parser_kind h52 (fun r53 A54 f4 h60 => ?_)
      refine ffm_Parser_leaf h60 (fun r61 A62 f5 h68 => ?_)
      refine ffm_Tree_kind h68 (fun r69 A70 f6 h76 => ?_)
      refine ⟨fun c77 => ?_, fun c77 => ?_⟩
      · have h78 := h76.1 c77
        refine ffm_Tree_hang h78 (fun A80 f7 h86 => ?_)
        obtain ⟨o87, h88⟩ := h86
        refine ⟨o87, ?_⟩
        exact fk36 _ _ _ _ (((((((ySm.rf.tr f1 rfl rfl).tr f2 rfl rfl).tr f3 rfl rfl).tr f4 rfl rfl).tr f5 rfl rfl).tr f6 rfl rfl).tr f7 rfl rfl) h88
      · have h89 := h76.2 c77
        refine hrec _ _ _ _ _ _ _ _ _ h89 (fun r90 A91 f8 h97 => ?_) (fun A9 f9 q9 => hE A9 (((((((ySm.rf.tr f1 rfl rfl).tr f2 rfl rfl).tr f3 rfl rfl).tr f4 rfl rfl).tr f5 rfl rfl).tr f6 rfl rfl).tr f9 rfl rfl) q9)
        refine ffm_Tree_hang h97 (fun A99 f9 h105 => ?_)
        refine ffm_Tree_hang h105 (fun A107 f10 h113 => ?_)
        obtain ⟨o114, h115⟩ := h113
        refine ⟨o114, ?_⟩
        exact fk36 _ _ _ _ (((((((((ySm.rf.tr f1 rfl rfl).tr f2 rfl rfl).tr f3 rfl rfl).tr f4 rfl rfl).tr f5 rfl rfl).tr f6 rfl rfl).tr f8 rfl rfl).tr f9 rfl rfl).tr f10 rfl rfl) h115
theorem ffl_Parser_repeats_360 {rec : Nat → Int → Int → Int → cS → (Int → cS → Prop) → (cS → Prop) → Prop} (hrec : ∀ (i : Nat) (a b c : Int) (A : cS) (Q Q' : Int → cS → Prop) (E E' : cS → Prop), rec i a b c A Q E → (∀ (e : Int) (A' : cS), ySm A A' [2, 3, 4, 5, 6, 7, 8, 9, 10, 11, 12, 13, 21, 22, 23] [3, 4, 5, 10, 11] → Q e A' → Q' e A') → (∀ (A' : cS), ySm A A' [2, 3, 4, 5, 6, 7, 8, 9, 10, 11, 12, 13, 21, 22, 23] [3, 4, 5, 10, 11] → E A' → E' A') → rec i a b c A Q' E') {Q Q' : Int → cS → Prop} {E E' : cS → Prop}  : ∀ (m : Nat) (s0 : cS) (x2 : Int) (x3 : Int) (x4 : Int), (∀ (e : Int) (A' : cS), ySm s0 A' [2, 3, 4, 5, 6, 7, 8, 9, 10, 11, 12, 13, 21, 22, 23] [3, 4, 5, 10, 11] → Q e A' → Q' e A') → (∀ (A' : cS), ySm s0 A' [2, 3, 4, 5, 6, 7, 8, 9, 10, 11, 12, 13, 21, 22, 23] [3, 4, 5, 10, 11] → E A' → E' A') → wc_Parser_repeats_36 rec Q E  m s0 x2 x3 x4 → wc_Parser_repeats_36 rec Q' E'  m s0 x2 x3 x4 := by
  intro m
  induction m with
  | zero => intro s0 x2 x3 x4 hq hE  hw; exact hw
  | succ m ih => intro s0 x2 x3 x4 hq hE  hw; exact ffb_Parser_repeats_36 hrec hq hE  (fun A' y0 y1 y2 f1 q => ih A' y0 y1 y2 (fun e A' f q => hq e A' (f1.tr f rfl rfl) q) (fun A' f q => hE A' (f1.tr f rfl rfl) q)  q) hw
theorem ffm_Parser_repeats {rec : Nat → Int → Int → Int → cS → (Int → cS → Prop) → (cS → Prop) → Prop} (hrec : ∀ (i : Nat) (a b c : Int) (A : cS) (Q Q' : Int → cS → Prop) (E E' : cS → Prop), rec i a b c A Q E → (∀ (e : Int) (A' : cS), ySm A A' [2, 3, 4, 5, 6, 7, 8, 9, 10, 11, 12, 13, 21, 22, 23] [3, 4, 5, 10, 11] → Q e A' → Q' e A') → (∀ (A' : cS), ySm A A' [2, 3, 4, 5, 6, 7, 8, 9, 10, 11, 12, 13, 21, 22, 23] [3, 4, 5, 10, 11] → E A' → E' A') → rec i a b c A Q' E') {s0 : cS} {a0 : Int} {Q Q' : Int → cS → Prop} {E E' : cS → Prop} (hw : wc_Parser_repeats rec s0 a0 Q E) (hq : ∀ (e : Int) (A' : cS), ySm s0 A' [2, 3, 4, 5, 6, 7, 8, 9, 10, 11, 12, 13, 21, 22, 23] [3, 4, 5, 10, 11] → Q e A' → Q' e A') (hE : ∀ (A' : cS), ySm s0 A' [2, 3, 4, 5, 6, 7, 8, 9, 10, 11, 12, 13, 21, 22, 23] [3, 4, 5, 10, 11] → E A' → E' A') : wc_Parser_repeats rec s0 a0 Q' E' := by
  unfold wc_Parser_repeats at hw ⊢
  refine ffm_Tree_place hw (fun r1 A2 f1 h8 => ?_)
  refine ffm_Tree_node h8 (fun r9 A10 f2 h16 => ?_)
  refine ffm_Tree_hang h16 (fun A18 f3 h24 => ?_)
  obtain ⟨m25, h26⟩ := h24
  exact ⟨m25, ffl_Parser_repeats_360 hrec m25 _ _ _ _ (fun e A' f q => hq e A' ((((ySm.rf.tr f1 rfl rfl).tr f2 rfl rfl).tr f3 rfl rfl).tr f rfl rfl) q) (fun A' f q => hE A' ((((ySm.rf.tr f1 rfl rfl).tr f2 rfl rfl).tr f3 rfl rfl).tr f rfl rfl) q)  h26⟩
theorem ffm_Parser_conditional {rec : Nat → Int → Int → Int → cS → (Int → cS → Prop) → (cS → Prop) → Prop} (hrec : ∀ (i : Nat) (a b c : Int) (A : cS) (Q Q' : Int → cS → Prop) (E E' : cS → Prop), rec i a b c A Q E → (∀ (e : Int) (A' : cS), ySm A A' [2, 3, 4, 5, 6, 7, 8, 9, 10, 11, 12, 13, 21, 22, 23] [3, 4, 5, 10, 11] → Q e A' → Q' e A') → (∀ (A' : cS), ySm A A' [2, 3, 4, 5, 6, 7, 8, 9, 10, 11, 12, 13, 21, 22, 23] [3, 4, 5, 10, 11] → E A' → E' A') → rec i a b c A Q' E') {s0 : cS}  {Q Q' : Int → cS → Prop} {E E' : cS → Prop} (hw : wc_Parser_conditional rec s0  Q E) (hq : ∀ (e : Int) (A' : cS), ySm s0 A' [2, 3, 4, 5, 6, 7, 8, 9, 10, 11, 12, 13, 21, 22, 23] [3, 4, 5, 10, 11] → Q e A' → Q' e A') (hE : ∀ (A' : cS), ySm s0 A' [2, 3, 4, 5, 6, 7, 8, 9, 10, 11, 12, 13, 21, 22, 23] [3, 4, 5, 10, 11] → E A' → E' A') : wc_Parser_conditional rec s0  Q' E' := by
  unfold wc_Parser_conditional at hw ⊢
  refine ffm_Parser_kind hw (fun r1 A2 f1 h8 => ?_)
  refine ffm_Parser_leaf h8 (fun r9 A10 f2 h16 => ?_)
  refine hrec _ _ _ _ _ _ _ _ _ h16 (fun r17 A18 f3 h24 => ?_) (fun A9 f9 q9 => hE A9 (((ySm.rf.tr f1 rfl rfl).tr f2 rfl rfl).tr f9 rfl rfl) q9)
  refine ffm_Tree_hang h24 (fun A26 f4 h32 => ?_)
  refine ffm_Parser_passDo h32 (fun A34 f5 h40 => ?_) (fun A9 f9 q9 => hE A9 (((((ySm.rf.tr f1 rfl rfl).tr f2 rfl rfl).tr f3 rfl rfl).tr f4 rfl rfl).tr f9 rfl rfl) q9)
  refine ffm_Parser_enter h40 (fun A42 f6 h48 => ?_) (fun A9 f9 q9 => hE A9 ((((((ySm.rf.tr f1 rfl rfl).tr f2 rfl rfl).tr f3 rfl rfl).tr f4 rfl rfl).tr f5 rfl rfl).tr f9 rfl rfl) q9)
  refine hrec _ _ _ _ _ _ _ _ _ h48 (fun r49 A50 f7 h56 => ?_) (fun A9 f9 q9 => hE A9 (((((((ySm.rf.tr f1 rfl rfl).tr f2 rfl rfl).tr f3 rfl rfl).tr f4 rfl rfl).tr f5 rfl rfl).tr f6 rfl rfl).tr f9 rfl rfl) q9)
  refine ffm_Tree_hang h56 (fun A58 f8 h64 => ?_)
  obtain ⟨o65, h66⟩ := h64
  refine ⟨o65, ?_⟩
  refine ffm_Tree_kind h66 (fun r78 A79 f9 h85 => ?_)
  refine ⟨fun c86 => ?_, fun c86 => ?_⟩
  · have h87 := h85.1 c86
    exact hq _ _ ((((((((((ySm.rf.tr f1 rfl rfl).tr f2 rfl rfl).tr f3 rfl rfl).tr f4 rfl rfl).tr f5 rfl rfl).tr f6 rfl rfl).tr f7 rfl rfl).tr f8 rfl rfl).pv rfl).tr f9 rfl rfl) h87
  · have h88 := h85.2 c86
    refine ffm_Parser_due h88 (fun A90 f10 h96 => ?_) (fun A9 f9 q9 => hE A9 (((((((((((ySm.rf.tr f1 rfl rfl).tr f2 rfl rfl).tr f3 rfl rfl).tr f4 rfl rfl).tr f5 rfl rfl).tr f6 rfl rfl).tr f7 rfl rfl).tr f8 rfl rfl).pv rfl).tr f9 rfl rfl).tr f9 rfl rfl) q9)
    refine ffm_Parser_enter h96 (fun A98 f11 h104 => ?_) (fun A9 f9 q9 => hE A9 ((((((((((((ySm.rf.tr f1 rfl rfl).tr f2 rfl rfl).tr f3 rfl rfl).tr f4 rfl rfl).tr f5 rfl rfl).tr f6 rfl rfl).tr f7 rfl rfl).tr f8 rfl rfl).pv rfl).tr f9 rfl rfl).tr f10 rfl rfl).tr f9 rfl rfl) q9)
    refine hrec _ _ _ _ _ _ _ _ _ h104 (fun r105 A106 f12 h112 => ?_) (fun A9 f9 q9 => hE A9 (((((((((((((ySm.rf.tr f1 rfl rfl).tr f2 rfl rfl).tr f3 rfl rfl).tr f4 rfl rfl).tr f5 rfl rfl).tr f6 rfl rfl).tr f7 rfl rfl).tr f8 rfl rfl).pv rfl).tr f9 rfl rfl).tr f10 rfl rfl).tr f11 rfl rfl).tr f9 rfl rfl) q9)
    refine ffm_Tree_hang h112 (fun A114 f13 h120 => ?_)
    obtain ⟨o121, h122⟩ := h120
    refine ⟨o121, ?_⟩
    exact hq _ _ (((((((((((((((ySm.rf.tr f1 rfl rfl).tr f2 rfl rfl).tr f3 rfl rfl).tr f4 rfl rfl).tr f5 rfl rfl).tr f6 rfl rfl).tr f7 rfl rfl).tr f8 rfl rfl).pv rfl).tr f9 rfl rfl).tr f10 rfl rfl).tr f11 rfl rfl).tr f12 rfl rfl).tr f13 rfl rfl).pv rfl) h122
theorem ffm_Parser_counting {rec : Nat → Int → Int → Int → cS → (Int → cS → Prop) → (cS → Prop) → Prop} (hrec : ∀ (i : Nat) (a b c : Int) (A : cS) (Q Q' : Int → cS → Prop) (E E' : cS → Prop), rec i a b c A Q E → (∀ (e : Int) (A' : cS), ySm A A' [2, 3, 4, 5, 6, 7, 8, 9, 10, 11, 12, 13, 21, 22, 23] [3, 4, 5, 10, 11] → Q e A' → Q' e A') → (∀ (A' : cS), ySm A A' [2, 3, 4, 5, 6, 7, 8, 9, 10, 11, 12, 13, 21, 22, 23] [3, 4, 5, 10, 11] → E A' → E' A') → rec i a b c A Q' E') {s0 : cS}  {Q Q' : Int → cS → Prop} {E E' : cS → Prop} (hw : wc_Parser_counting rec s0  Q E) (hq : ∀ (e : Int) (A' : cS), ySm s0 A' [2, 3, 4, 5, 6, 7, 8, 9, 10, 11, 12, 13, 21, 22, 23] [3, 4, 5, 10, 11] → Q e A' → Q' e A') (hE : ∀ (A' : cS), ySm s0 A' [2, 3, 4, 5, 6, 7, 8, 9, 10, 11, 12, 13, 21, 22, 23] [3, 4, 5, 10, 11] → E A' → E' A') : wc_Parser_counting rec s0  Q' E' := by
  unfold wc_Parser_counting at hw ⊢
  refine ffm_Parser_leaf hw (fun r1 A2 f1 h8 => ?_)
  refine ffm_Parser_nameDue h8 (fun r9 A10 f2 h16 => ?_) (fun A9 f9 q9 => hE A9 ((ySm.rf.tr f1 rfl rfl).tr f9 rfl rfl) q9)
  refine ffm_Tree_setData h16 (fun A18 f3 h24 => ?_)
  refine ffm_Parser_due h24 (fun A26 f4 h32 => ?_) (fun A9 f9 q9 => hE A9 ((((ySm.rf.tr f1 rfl rfl).tr f2 rfl rfl).tr f3 rfl rfl).tr f9 rfl rfl) q9)
  refine hrec _ _ _ _ _ _ _ _ _ h32 (fun r33 A34 f5 h40 => ?_) (fun A9 f9 q9 => hE A9 (((((ySm.rf.tr f1 rfl rfl).tr f2 rfl rfl).tr f3 rfl rfl).tr f4 rfl rfl).tr f9 rfl rfl) q9)
  refine ffm_Tree_hang h40 (fun A42 f6 h48 => ?_)
  refine ffm_Parser_due h48 (fun A50 f7 h56 => ?_) (fun A9 f9 q9 => hE A9 (((((((ySm.rf.tr f1 rfl rfl).tr f2 rfl rfl).tr f3 rfl rfl).tr f4 rfl rfl).tr f5 rfl rfl).tr f6 rfl rfl).tr f9 rfl rfl) q9)
  refine hrec _ _ _ _ _ _ _ _ _ h56 (fun r57 A58 f8 h64 => ?_) (fun A9 f9 q9 => hE A9 ((((((((ySm.rf.tr f1 rfl rfl).tr f2 rfl rfl).tr f3 rfl rfl).tr f4 rfl rfl).tr f5 rfl rfl).tr f6 rfl rfl).tr f7 rfl rfl).tr f9 rfl rfl) q9)
  refine ffm_Tree_hang h64 (fun A66 f9 h72 => ?_)
  refine ffm_Parser_kind h72 (fun r73 A74 f10 h80 => ?_)
  refine ⟨fun c81 => ?_, fun c81 => ?_⟩
  · have h82 := h80.1 c81
    refine ffm_Parser_passDo h82 (fun A84 f11 h90 => ?_) (fun A9 f9 q9 => hE A9 (((((((((((ySm.rf.tr f1 rfl rfl).tr f2 rfl rfl).tr f3 rfl rfl).tr f4 rfl rfl).tr f5 rfl rfl).tr f6 rfl rfl).tr f7 rfl rfl).tr f8 rfl rfl).tr f9 rfl rfl).tr f10 rfl rfl).tr f9 rfl rfl) q9)
    refine ffm_Parser_enter h90 (fun A92 f12 h98 => ?_) (fun A9 f9 q9 => hE A9 ((((((((((((ySm.rf.tr f1 rfl rfl).tr f2 rfl rfl).tr f3 rfl rfl).tr f4 rfl rfl).tr f5 rfl rfl).tr f6 rfl rfl).tr f7 rfl rfl).tr f8 rfl rfl).tr f9 rfl rfl).tr f10 rfl rfl).tr f11 rfl rfl).tr f9 rfl rfl) q9)
    refine hrec _ _ _ _ _ _ _ _ _ h98 (fun r99 A100 f13 h106 => ?_) (fun A9 f9 q9 => hE A9 (((((((((((((ySm.rf.tr f1 rfl rfl).tr f2 rfl rfl).tr f3 rfl rfl).tr f4 rfl rfl).tr f5 rfl rfl).tr f6 rfl rfl).tr f7 rfl rfl).tr f8 rfl rfl).tr f9 rfl rfl).tr f10 rfl rfl).tr f11 rfl rfl).tr f12 rfl rfl).tr f9 rfl rfl) q9)
    refine ffm_Tree_hang h106 (fun A108 f14 h114 => ?_)
    obtain ⟨o115, h116⟩ := h114
    refine ⟨o115, ?_⟩
    exact hq _ _ (((((((((((((((ySm.rf.tr f1 rfl rfl).tr f2 rfl rfl).tr f3 rfl rfl).tr f4 rfl rfl).tr f5 rfl rfl).tr f6 rfl rfl).tr f7 rfl rfl).tr f8 rfl rfl).tr f9 rfl rfl).tr f10 rfl rfl).tr f11 rfl rfl).tr f12 rfl rfl).tr f13 rfl rfl).tr f14 rfl rfl).pv rfl) h116
  · have h128 := h80.2 c81
    refine ffm_Parser_advance h128 (fun A130 f15 h136 => ?_)
    refine hrec _ _ _ _ _ _ _ _ _ h136 (fun r137 A138 f16 h144 => ?_) (fun A9 f9 q9 => hE A9 ((((((((((((ySm.rf.tr f1 rfl rfl).tr f2 rfl rfl).tr f3 rfl rfl).tr f4 rfl rfl).tr f5 rfl rfl).tr f6 rfl rfl).tr f7 rfl rfl).tr f8 rfl rfl).tr f9 rfl rfl).tr f10 rfl rfl).tr f15 rfl rfl).tr f9 rfl rfl) q9)
    refine ffm_Tree_setExtra h144 (fun A146 f17 h152 => ?_)
    refine ffm_Parser_passDo h152 (fun A154 f18 h160 => ?_) (fun A9 f9 q9 => hE A9 ((((((((((((((ySm.rf.tr f1 rfl rfl).tr f2 rfl rfl).tr f3 rfl rfl).tr f4 rfl rfl).tr f5 rfl rfl).tr f6 rfl rfl).tr f7 rfl rfl).tr f8 rfl rfl).tr f9 rfl rfl).tr f10 rfl rfl).tr f15 rfl rfl).tr f16 rfl rfl).tr f17 rfl rfl).tr f9 rfl rfl) q9)
    refine ffm_Parser_enter h160 (fun A162 f19 h168 => ?_) (fun A9 f9 q9 => hE A9 (((((((((((((((ySm.rf.tr f1 rfl rfl).tr f2 rfl rfl).tr f3 rfl rfl).tr f4 rfl rfl).tr f5 rfl rfl).tr f6 rfl rfl).tr f7 rfl rfl).tr f8 rfl rfl).tr f9 rfl rfl).tr f10 rfl rfl).tr f15 rfl rfl).tr f16 rfl rfl).tr f17 rfl rfl).tr f18 rfl rfl).tr f9 rfl rfl) q9)
    refine hrec _ _ _ _ _ _ _ _ _ h168 (fun r169 A170 f20 h176 => ?_) (fun A9 f9 q9 => hE A9 ((((((((((((((((ySm.rf.tr f1 rfl rfl).tr f2 rfl rfl).tr f3 rfl rfl).tr f4 rfl rfl).tr f5 rfl rfl).tr f6 rfl rfl).tr f7 rfl rfl).tr f8 rfl rfl).tr f9 rfl rfl).tr f10 rfl rfl).tr f15 rfl rfl).tr f16 rfl rfl).tr f17 rfl rfl).tr f18 rfl rfl).tr f19 rfl rfl).tr f9 rfl rfl) q9)
    refine ffm_Tree_hang h176 (fun A178 f21 h184 => ?_)
    obtain ⟨o185, h186⟩ := h184
    refine ⟨o185, ?_⟩
    exact hq _ _ ((((((((((((((((((ySm.rf.tr f1 rfl rfl).tr f2 rfl rfl).tr f3 rfl rfl).tr f4 rfl rfl).tr f5 rfl rfl).tr f6 rfl rfl).tr f7 rfl rfl).tr f8 rfl rfl).tr f9 rfl rfl).tr f10 rfl rfl).tr f15 rfl rfl).tr f16 rfl rfl).tr f17 rfl rfl).tr f18 rfl rfl).tr f19 rfl rfl).tr f20 rfl rfl).tr f21 rfl rfl).pv rfl) h186
theorem ffm_Parser_switching {rec : Nat → Int → Int → Int → cS → (Int → cS → Prop) → (cS → Prop) → Prop} (hrec : ∀ (i : Nat) (a b c : Int) (A : cS) (Q Q' : Int → cS → Prop) (E E' : cS → Prop), rec i a b c A Q E → (∀ (e : Int) (A' : cS), ySm A A' [2, 3, 4, 5, 6, 7, 8, 9, 10, 11, 12, 13, 21, 22, 23] [3, 4, 5, 10, 11] → Q e A' → Q' e A') → (∀ (A' : cS), ySm A A' [2, 3, 4, 5, 6, 7, 8, 9, 10, 11, 12, 13, 21, 22, 23] [3, 4, 5, 10, 11] → E A' → E' A') → rec i a b c A Q' E') {s0 : cS}  {Q Q' : Int → cS → Prop} {E E' : cS → Prop} (hw : wc_Parser_switching rec s0  Q E) (hq : ∀ (e : Int) (A' : cS), ySm s0 A' [2, 3, 4, 5, 6, 7, 8, 9, 10, 11, 12, 13, 21, 22, 23] [3, 4, 5, 10, 11] → Q e A' → Q' e A') (hE : ∀ (A' : cS), ySm s0 A' [2, 3, 4, 5, 6, 7, 8, 9, 10, 11, 12, 13, 21, 22, 23] [3, 4, 5, 10, 11] → E A' → E' A') : wc_Parser_switching rec s0  Q' E' := by
  unfold wc_Parser_switching at hw ⊢
  refine ffm_Parser_leaf hw (fun r1 A2 f1 h8 => ?_)
  refine hrec _ _ _ _ _ _ _ _ _ h8 (fun r9 A10 f2 h16 => ?_) (fun A9 f9 q9 => hE A9 ((ySm.rf.tr f1 rfl rfl).tr f9 rfl rfl) q9)
  refine ffm_Tree_hang h16 (fun A18 f3 h24 => ?_)
  refine ffm_Parser_due h24 (fun A26 f4 h32 => ?_) (fun A9 f9 q9 => hE A9 ((((ySm.rf.tr f1 rfl rfl).tr f2 rfl rfl).tr f3 rfl rfl).tr f9 rfl rfl) q9)
  refine hrec _ _ _ _ _ _ _ _ _ h32 (fun r33 A34 f5 h40 => ?_) (fun A9 f9 q9 => hE A9 (((((ySm.rf.tr f1 rfl rfl).tr f2 rfl rfl).tr f3 rfl rfl).tr f4 rfl rfl).tr f9 rfl rfl) q9)
  refine ffm_Tree_hang h40 (fun A42 f6 h48 => ?_)
  exact hq _ _ ((((((ySm.rf.tr f1 rfl rfl).tr f2 rfl rfl).tr f3 rfl rfl).tr f4 rfl rfl).tr f5 rfl rfl).tr f6 rfl rfl) h48
theorem ffb_Parser_assignment_124 {rec : Nat → Int → Int → Int → cS → (Int → cS → Prop) → (cS → Prop) → Prop} (hrec : ∀ (i : Nat) (a b c : Int) (A : cS) (Q Q' : Int → cS → Prop) (E E' : cS → Prop), rec i a b c A Q E → (∀ (e : Int) (A' : cS), ySm A A' [2, 3, 4, 5, 6, 7, 8, 9, 10, 11, 12, 13, 21, 22, 23] [3, 4, 5, 10, 11] → Q e A' → Q' e A') → (∀ (A' : cS), ySm A A' [2, 3, 4, 5, 6, 7, 8, 9, 10, 11, 12, 13, 21, 22, 23] [3, 4, 5, 10, 11] → E A' → E' A') → rec i a b c A Q' E') {Q Q' : Int → cS → Prop} {E E' : cS → Prop} {k124 k124' : cS → Int → Int → Int → Prop} {s0 : cS} {x1 : Int} {x2 : Int} {x3 : Int} (hq : ∀ (e : Int) (A' : cS), ySm s0 A' [2, 3, 4, 5, 6, 7, 8, 9, 10, 11, 12, 13, 21, 22, 23] [3, 4, 5, 10, 11] → Q e A' → Q' e A') (hE : ∀ (A' : cS), ySm s0 A' [2, 3, 4, 5, 6, 7, 8, 9, 10, 11, 12, 13, 21, 22, 23] [3, 4, 5, 10, 11] → E A' → E' A') (fk124 : ∀ (A' : cS) (x0 : Int) (x1 : Int) (x2 : Int), ySm s0 A' [2, 3, 4, 5, 6, 7, 8, 9, 10, 11, 12, 13, 21, 22, 23] [3, 4, 5, 10, 11] → k124 A' x0 x1 x2 → k124' A' x0 x1 x2) (hw : wc_Parser_assignment_124B rec Q E k124 s0 x1 x2 x3) : wc_Parser_assignment_124B rec Q' E' k124' s0 x1 x2 x3 := by
  unfold wc_Parser_assignment_124B at hw ⊢
  refine ⟨fun c1 => ?_, fun c1 => ?_⟩
  · have h2 := hw.1 c1
    refine ffm_Tree_setData h2 (fun A4 f1 h10 => ?_)
    exact hq _ _ (ySm.rf.tr f1 rfl rfl) h10
  · have h11 := hw.2 c1
    refine ⟨fun c12 => ?_, fun c12 => ?_⟩
    · have h13 := h11.1 c12
      refine hrec _ _ _ _ _ _ _ _ _ h13 (fun r14 A15 f2 h21 => ?_) (fun A9 f9 q9 => hE A9 (ySm.rf.tr f9 rfl rfl) q9)
      refine ffm_Tree_hang h21 (fun A23 f3 h29 => ?_)
      obtain ⟨o30, h31⟩ := h29
      refine ⟨o30, ?_⟩
      exact fk124 _ _ _ _ ((ySm.rf.tr f2 rfl rfl).tr f3 rfl rfl) h31
    · have h32 := h11.2 c12
      refine ffm_Parser_due h32 (fun A34 f4 h40 => ?_) (fun A9 f9 q9 => hE A9 (ySm.rf.tr f9 rfl rfl) q9)
      refine hrec _ _ _ _ _ _ _ _ _ h40 (fun r41 A42 f5 h48 => ?_) (fun A9 f9 q9 => hE A9 ((ySm.rf.tr f4 rfl rfl).tr f9 rfl rfl) q9)
      refine ffm_Tree_hang h48 (fun A50 f6 h56 => ?_)
      obtain ⟨o57, h58⟩ := h56
      refine ⟨o57, ?_⟩
      exact fk124 _ _ _ _ (((ySm.rf.tr f4 rfl rfl).tr f5 rfl rfl).tr f6 rfl rfl) h58
theorem ffl_Parser_assignment_1240 {rec : Nat → Int → Int → Int → cS → (Int → cS → Prop) → (cS → Prop) → Prop} (hrec : ∀ (i : Nat) (a b c : Int) (A : cS) (Q Q' : Int → cS → Prop) (E E' : cS → Prop), rec i a b c A Q E → (∀ (e : Int) (A' : cS), ySm A A' [2, 3, 4, 5, 6, 7, 8, 9, 10, 11, 12, 13, 21, 22, 23] [3, 4, 5, 10, 11] → Q e A' → Q' e A') → (∀ (A' : cS), ySm A A' [2, 3, 4, 5, 6, 7, 8, 9, 10, 11, 12, 13, 21, 22, 23] [3, 4, 5, 10, 11] → E A' → E' A') → rec i a b c A Q' E') {Q Q' : Int → cS → Prop} {E E' : cS → Prop}  : ∀ (m : Nat) (s0 : cS) (x1 : Int) (x2 : Int) (x3 : Int), (∀ (e : Int) (A' : cS), ySm s0 A' [2, 3, 4, 5, 6, 7, 8, 9, 10, 11, 12, 13, 21, 22, 23] [3, 4, 5, 10, 11] → Q e A' → Q' e A') → (∀ (A' : cS), ySm s0 A' [2, 3, 4, 5, 6, 7, 8, 9, 10, 11, 12, 13, 21, 22, 23] [3, 4, 5, 10, 11] → E A' → E' A') → wc_Parser_assignment_124 rec Q E  m s0 x1 x2 x3 → wc_Parser_assignment_124 rec Q' E'  m s0 x1 x2 x3 := by
  intro m
  induction m with
  | zero => intro s0 x1 x2 x3 hq hE  hw; exact hw
  | succ m ih => intro s0 x1 x2 x3 hq hE  hw; exact ffb_Parser_assignment_124 hrec hq hE  (fun A' y0 y1 y2 f1 q => ih A' y0 y1 y2 (fun e A' f q => hq e A' (f1.tr f rfl rfl) q) (fun A' f q => hE A' (f1.tr f rfl rfl) q)  q) hw
theorem ffb_Parser_assignment_76 {rec : Nat → Int → Int → Int → cS → (Int → cS → Prop) → (cS → Prop) → Prop} (hrec : ∀ (i : Nat) (a b c : Int) (A : cS) (Q Q' : Int → cS → Prop) (E E' : cS → Prop), rec i a b c A Q E → (∀ (e : Int) (A' : cS), ySm A A' [2, 3, 4, 5, 6, 7, 8, 9, 10, 11, 12, 13, 21, 22, 23] [3, 4, 5, 10, 11] → Q e A' → Q' e A') → (∀ (A' : cS), ySm A A' [2, 3, 4, 5, 6, 7, 8, 9, 10, 11, 12, 13, 21, 22, 23] [3, 4, 5, 10, 11] → E A' → E' A') → rec i a b c A Q' E') {Q Q' : Int → cS → Prop} {E E' : cS → Prop} {k76 k76' : cS → Int → Int → Int → Prop} {s0 : cS} {x1 : Int} {x2 : Int} {x3 : Int} (hq : ∀ (e : Int) (A' : cS), ySm s0 A' [2, 3, 4, 5, 6, 7, 8, 9, 10, 11, 12, 13, 21, 22, 23] [3, 4, 5, 10, 11] → Q e A' → Q' e A') (hE : ∀ (A' : cS), ySm s0 A' [2, 3, 4, 5, 6, 7, 8, 9, 10, 11, 12, 13, 21, 22, 23] [3, 4, 5, 10, 11] → E A' → E' A') (fk76 : ∀ (A' : cS) (x0 : Int) (x1 : Int) (x2 : Int), ySm s0 A' [2, 3, 4, 5, 6, 7, 8, 9, 10, 11, 12, 13, 21, 22, 23] [3, 4, 5, 10, 11] → k76 A' x0 x1 x2 → k76' A' x0 x1 x2) (hw : wc_Parser_assignment_76B rec Q E k76 s0 x1 x2 x3) : wc_Parser_assignment_76B rec Q' E' k76' s0 x1 x2 x3 := by
  unfold wc_Parser_assignment_76B at hw ⊢
  refine ⟨fun c1 => ?_, fun c1 => ?_⟩
  · have h2 := hw.1 c1
    refine ffm_Parser_due h2 (fun A4 f1 h10 => ?_) (fun A9 f9 q9 => hE A9 (ySm.rf.tr f9 rfl rfl) q9)
    obtain ⟨m11, h12⟩ := h10
    exact ⟨m11, ffl_Parser_assignment_1240 hrec m11 _ _ _ _ (fun e A' f q => hq e A' ((ySm.rf.tr f1 rfl rfl).tr f rfl rfl) q) (fun A' f q => hE A' ((ySm.rf.tr f1 rfl rfl).tr f rfl rfl) q)  h12⟩
  · have h13 := hw.2 c1
    refine ffm_Parser_kind h13 (fun r14 A15 f2 h21 => ?_)
    refine ⟨fun c22 => ?_, fun c22 => ?_⟩
    · have h23 := h21.1 c22
      refine ffm_Parser_due h23 (fun A25 f3 h31 => ?_) (fun A9 f9 q9 => hE A9 ((ySm.rf.tr f2 rfl rfl).tr f9 rfl rfl) q9)
      obtain ⟨m32, h33⟩ := h31
      exact ⟨m32, ffl_Parser_assignment_1240 hrec m32 _ _ _ _ (fun e A' f q => hq e A' (((ySm.rf.tr f2 rfl rfl).tr f3 rfl rfl).tr f rfl rfl) q) (fun A' f q => hE A' (((ySm.rf.tr f2 rfl rfl).tr f3 rfl rfl).tr f rfl rfl) q)  h33⟩
    · have h34 := h21.2 c22
      refine ffm_Parser_advance h34 (fun A36 f4 h42 => ?_)
      refine hrec _ _ _ _ _ _ _ _ _ h42 (fun r43 A44 f5 h50 => ?_) (fun A9 f9 q9 => hE A9 (((ySm.rf.tr f2 rfl rfl).tr f4 rfl rfl).tr f9 rfl rfl) q9)
      refine ffm_Tree_hang h50 (fun A52 f6 h58 => ?_)
      obtain ⟨o59, h60⟩ := h58
      refine ⟨o59, ?_⟩
      obtain ⟨o61, h62⟩ := h60
      refine ⟨o61, ?_⟩
      exact fk76 _ _ _ _ ((((ySm.rf.tr f2 rfl rfl).tr f4 rfl rfl).tr f5 rfl rfl).tr f6 rfl rfl) h62
theorem ffl_Parser_assignment_760 {rec : Nat → Int → Int → Int → cS → (Int → cS → Prop) → (cS → Prop) → Prop} (hrec : ∀ (i : Nat) (a b c : Int) (A : cS) (Q Q' : Int → cS → Prop) (E E' : cS → Prop), rec i a b c A Q E → (∀ (e : Int) (A' : cS), ySm A A' [2, 3, 4, 5, 6, 7, 8, 9, 10, 11, 12, 13, 21, 22, 23] [3, 4, 5, 10, 11] → Q e A' → Q' e A') → (∀ (A' : cS), ySm A A' [2, 3, 4, 5, 6, 7, 8, 9, 10, 11, 12, 13, 21, 22, 23] [3, 4, 5, 10, 11] → E A' → E' A') → rec i a b c A Q' E') {Q Q' : Int → cS → Prop} {E E' : cS → Prop}  : ∀ (m : Nat) (s0 : cS) (x1 : Int) (x2 : Int) (x3 : Int), (∀ (e : Int) (A' : cS), ySm s0 A' [2, 3, 4, 5, 6, 7, 8, 9, 10, 11, 12, 13, 21, 22, 23] [3, 4, 5, 10, 11] → Q e A' → Q' e A') → (∀ (A' : cS), ySm s0 A' [2, 3, 4, 5, 6, 7, 8, 9, 10, 11, 12, 13, 21, 22, 23] [3, 4, 5, 10, 11] → E A' → E' A') → wc_Parser_assignment_76 rec Q E  m s0 x1 x2 x3 → wc_Parser_assignment_76 rec Q' E'  m s0 x1 x2 x3 := by
  intro m
  induction m with
  | zero => intro s0 x1 x2 x3 hq hE  hw; exact hw
  | succ m ih => intro s0 x1 x2 x3 hq hE  hw; exact ffb_Parser_assignment_76 hrec hq hE  (fun A' y0 y1 y2 f1 q => ih A' y0 y1 y2 (fun e A' f q => hq e A' (f1.tr f rfl rfl) q) (fun A' f q => hE A' (f1.tr f rfl rfl) q)  q) hw
theorem ffm_Parser_assignment {rec : Nat → Int → Int → Int → cS → (Int → cS → Prop) → (cS → Prop) → Prop} (hrec : ∀ (i : Nat) (a b c : Int) (A : cS) (Q Q' : Int → cS → Prop) (E E' : cS → Prop), rec i a b c A Q E → (∀ (e : Int) (A' : cS), ySm A A' [2, 3, 4, 5, 6, 7, 8, 9, 10, 11, 12, 13, 21, 22, 23] [3, 4, 5, 10, 11] → Q e A' → Q' e A') → (∀ (A' : cS), ySm A A' [2, 3, 4, 5, 6, 7, 8, 9, 10, 11, 12, 13, 21, 22, 23] [3, 4, 5, 10, 11] → E A' → E' A') → rec i a b c A Q' E') {s0 : cS}  {Q Q' : Int → cS → Prop} {E E' : cS → Prop} (hw : wc_Parser_assignment rec s0  Q E) (hq : ∀ (e : Int) (A' : cS), ySm s0 A' [2, 3, 4, 5, 6, 7, 8, 9, 10, 11, 12, 13, 21, 22, 23] [3, 4, 5, 10, 11] → Q e A' → Q' e A') (hE : ∀ (A' : cS), ySm s0 A' [2, 3, 4, 5, 6, 7, 8, 9, 10, 11, 12, 13, 21, 22, 23] [3, 4, 5, 10, 11] → E A' → E' A') : wc_Parser_assignment rec s0  Q' E' := by
  unfold wc_Parser_assignment at hw ⊢
  refine ffm_Parser_place hw (fun r1 A2 f1 h8 => ?_)
  refine ffm_Tree_node h8 (fun r9 A10 f2 h16 => ?_)
  refine hrec _ _ _ _ _ _ _ _ _ h16 (fun r17 A18 f3 h24 => ?_) (fun A9 f9 q9 => hE A9 (((ySm.rf.tr f1 rfl rfl).tr f2 rfl rfl).tr f9 rfl rfl) q9)
  refine ffm_Tree_hang h24 (fun A26 f4 h32 => ?_)
  refine ffm_Parser_kind h32 (fun r33 A34 f5 h40 => ?_)
  refine ⟨fun c41 => ?_, fun c41 => ?_⟩
  · have h42 := h40.1 c41
    obtain ⟨m43, h44⟩ := h42
    exact ⟨m43, ffl_Parser_assignment_760 hrec m43 _ _ _ _ (fun e A' f q => hq e A' ((((((ySm.rf.tr f1 rfl rfl).tr f2 rfl rfl).tr f3 rfl rfl).tr f4 rfl rfl).tr f5 rfl rfl).tr f rfl rfl) q) (fun A' f q => hE A' ((((((ySm.rf.tr f1 rfl rfl).tr f2 rfl rfl).tr f3 rfl rfl).tr f4 rfl rfl).tr f5 rfl rfl).tr f rfl rfl) q)  h44⟩
  · have h45 := h40.2 c41
    refine ffm_Parser_kind h45 (fun r46 A47 f6 h53 => ?_)
    refine ⟨fun c54 => ?_, fun c54 => ?_⟩
    · have h55 := h53.1 c54
      obtain ⟨m56, h57⟩ := h55
      exact ⟨m56, ffl_Parser_assignment_760 hrec m56 _ _ _ _ (fun e A' f q => hq e A' (((((((ySm.rf.tr f1 rfl rfl).tr f2 rfl rfl).tr f3 rfl rfl).tr f4 rfl rfl).tr f5 rfl rfl).tr f6 rfl rfl).tr f rfl rfl) q) (fun A' f q => hE A' (((((((ySm.rf.tr f1 rfl rfl).tr f2 rfl rfl).tr f3 rfl rfl).tr f4 rfl rfl).tr f5 rfl rfl).tr f6 rfl rfl).tr f rfl rfl) q)  h57⟩
    · have h58 := h53.2 c54
      refine ffm_Tree_first h58 (fun r59 A60 f7 h66 => ?_)
      refine ffm_Parser_isCall h66 (fun r67 A68 f8 h74 => ?_)
      refine ⟨fun c75 => ?_, fun c75 => ?_⟩
      · have h76 := h74.1 c75
        obtain ⟨m77, h78⟩ := h76
        exact ⟨m77, ffl_Parser_assignment_760 hrec m77 _ _ _ _ (fun e A' f q => hq e A' (((((((((ySm.rf.tr f1 rfl rfl).tr f2 rfl rfl).tr f3 rfl rfl).tr f4 rfl rfl).tr f5 rfl rfl).tr f6 rfl rfl).tr f7 rfl rfl).tr f8 rfl rfl).tr f rfl rfl) q) (fun A' f q => hE A' (((((((((ySm.rf.tr f1 rfl rfl).tr f2 rfl rfl).tr f3 rfl rfl).tr f4 rfl rfl).tr f5 rfl rfl).tr f6 rfl rfl).tr f7 rfl rfl).tr f8 rfl rfl).tr f rfl rfl) q)  h78⟩
      · have h79 := h74.2 c75
        refine ffm_Tree_setKind h79 (fun A81 f9 h87 => ?_)
        exact hq _ _ (((((((((ySm.rf.tr f1 rfl rfl).tr f2 rfl rfl).tr f3 rfl rfl).tr f4 rfl rfl).tr f5 rfl rfl).tr f6 rfl rfl).tr f7 rfl rfl).tr f8 rfl rfl).tr f9 rfl rfl) h87
theorem ffj_Parser_expression_89 {rec : Nat → Int → Int → Int → cS → (Int → cS → Prop) → (cS → Prop) → Prop} (hrec : ∀ (i : Nat) (a b c : Int) (A : cS) (Q Q' : Int → cS → Prop) (E E' : cS → Prop), rec i a b c A Q E → (∀ (e : Int) (A' : cS), ySm A A' [2, 3, 4, 5, 6, 7, 8, 9, 10, 11, 12, 13, 21, 22, 23] [3, 4, 5, 10, 11] → Q e A' → Q' e A') → (∀ (A' : cS), ySm A A' [2, 3, 4, 5, 6, 7, 8, 9, 10, 11, 12, 13, 21, 22, 23] [3, 4, 5, 10, 11] → E A' → E' A') → rec i a b c A Q' E') {Q Q' : Int → cS → Prop} {E E' : cS → Prop}  {s0 : cS} {x1 : Int} (hq : ∀ (e : Int) (A' : cS), ySm s0 A' [2, 3, 4, 5, 6, 7, 8, 9, 10, 11, 12, 13, 21, 22, 23] [3, 4, 5, 10, 11] → Q e A' → Q' e A') (hE : ∀ (A' : cS), ySm s0 A' [2, 3, 4, 5, 6, 7, 8, 9, 10, 11, 12, 13, 21, 22, 23] [3, 4, 5, 10, 11] → E A' → E' A')  (hw : wc_Parser_expression_89 rec Q E  s0 x1) : wc_Parser_expression_89 rec Q' E'  s0 x1 := by
  unfold wc_Parser_expression_89 at hw ⊢
  refine ffm_Parser_kind hw (fun r1 A2 f1 h8 => ?_)
  refine ⟨fun c9 => ?_, fun c9 => ?_⟩
  · have h10 := h8.1 c9
    refine ffm_Parser_place h10 (fun r11 A12 f2 h18 => ?_)
    refine ffm_Tree_node h18 (fun r19 A20 f3 h26 => ?_)
    refine ffm_Parser_enter h26 (fun A28 f4 h34 => ?_) (fun A9 f9 q9 => hE A9 ((((ySm.rf.tr f1 rfl rfl).tr f2 rfl rfl).tr f3 rfl rfl).tr f9 rfl rfl) q9)
    refine ffm_Parser_advance h34 (fun A36 f5 h42 => ?_)
    refine ffm_Tree_hang h42 (fun A44 f6 h50 => ?_)
    refine hrec _ _ _ _ _ _ _ _ _ h50 (fun r51 A52 f7 h58 => ?_) (fun A9 f9 q9 => hE A9 (((((((ySm.rf.tr f1 rfl rfl).tr f2 rfl rfl).tr f3 rfl rfl).tr f4 rfl rfl).tr f5 rfl rfl).tr f6 rfl rfl).tr f9 rfl rfl) q9)
    refine ffm_Tree_hang h58 (fun A60 f8 h66 => ?_)
    refine ffm_Parser_due h66 (fun A68 f9 h74 => ?_) (fun A9 f9 q9 => hE A9 (((((((((ySm.rf.tr f1 rfl rfl).tr f2 rfl rfl).tr f3 rfl rfl).tr f4 rfl rfl).tr f5 rfl rfl).tr f6 rfl rfl).tr f7 rfl rfl).tr f8 rfl rfl).tr f9 rfl rfl) q9)
    refine hrec _ _ _ _ _ _ _ _ _ h74 (fun r75 A76 f10 h82 => ?_) (fun A9 f9 q9 => hE A9 ((((((((((ySm.rf.tr f1 rfl rfl).tr f2 rfl rfl).tr f3 rfl rfl).tr f4 rfl rfl).tr f5 rfl rfl).tr f6 rfl rfl).tr f7 rfl rfl).tr f8 rfl rfl).tr f9 rfl rfl).tr f9 rfl rfl) q9)
    refine ffm_Tree_hang h82 (fun A84 f11 h90 => ?_)
    obtain ⟨o91, h92⟩ := h90
    refine ⟨o91, ?_⟩
    refine ffm_Tree_place h92 (fun r104 A105 f12 h111 => ?_)
    refine ffm_Tree_node h111 (fun r112 A113 f13 h119 => ?_)
    refine ffm_Tree_hang h119 (fun A121 f14 h127 => ?_)
    exact hq _ _ (((((((((((((((ySm.rf.tr f1 rfl rfl).tr f2 rfl rfl).tr f3 rfl rfl).tr f4 rfl rfl).tr f5 rfl rfl).tr f6 rfl rfl).tr f7 rfl rfl).tr f8 rfl rfl).tr f9 rfl rfl).tr f10 rfl rfl).tr f11 rfl rfl).pv rfl).tr f12 rfl rfl).tr f13 rfl rfl).tr f14 rfl rfl) h127
  · have h128 := h8.2 c9
    exact hq _ _ (ySm.rf.tr f1 rfl rfl) h128
theorem ffb_Parser_expression_25 {rec : Nat → Int → Int → Int → cS → (Int → cS → Prop) → (cS → Prop) → Prop} (hrec : ∀ (i : Nat) (a b c : Int) (A : cS) (Q Q' : Int → cS → Prop) (E E' : cS → Prop), rec i a b c A Q E → (∀ (e : Int) (A' : cS), ySm A A' [2, 3, 4, 5, 6, 7, 8, 9, 10, 11, 12, 13, 21, 22, 23] [3, 4, 5, 10, 11] → Q e A' → Q' e A') → (∀ (A' : cS), ySm A A' [2, 3, 4, 5, 6, 7, 8, 9, 10, 11, 12, 13, 21, 22, 23] [3, 4, 5, 10, 11] → E A' → E' A') → rec i a b c A Q' E') {Q Q' : Int → cS → Prop} {E E' : cS → Prop} {k25 k25' : cS → Int → Int → Int → Prop} {s0 : cS} {x1 : Int} {x2 : Int} {x3 : Int} (hq : ∀ (e : Int) (A' : cS), ySm s0 A' [2, 3, 4, 5, 6, 7, 8, 9, 10, 11, 12, 13, 21, 22, 23] [3, 4, 5, 10, 11] → Q e A' → Q' e A') (hE : ∀ (A' : cS), ySm s0 A' [2, 3, 4, 5, 6, 7, 8, 9, 10, 11, 12, 13, 21, 22, 23] [3, 4, 5, 10, 11] → E A' → E' A') (fk25 : ∀ (A' : cS) (x0 : Int) (x1 : Int) (x2 : Int), ySm s0 A' [2, 3, 4, 5, 6, 7, 8, 9, 10, 11, 12, 13, 21, 22, 23] [3, 4, 5, 10, 11] → k25 A' x0 x1 x2 → k25' A' x0 x1 x2) (hw : wc_Parser_expression_25B rec Q E k25 s0 x1 x2 x3) : wc_Parser_expression_25B rec Q' E' k25' s0 x1 x2 x3 := by
  unfold wc_Parser_expression_25B at hw ⊢
  refine ⟨fun c1 => ?_, fun c1 => ?_⟩
  · have h2 := hw.1 c1
    exact ffj_Parser_expression_89 hrec (fun e A' f q => hq e A' (ySm.rf.tr f rfl rfl) q) (fun A' f q => hE A' (ySm.rf.tr f rfl rfl) q)  h2
  · have h3 := hw.2 c1
    refine hrec _ _ _ _ _ _ _ _ _ h3 (fun _ A5 f1 h11 => ?_) (fun A9 f9 q9 => hE A9 (ySm.rf.tr f9 rfl rfl) q9)
    refine ffm_Parser_kind h11 (fun r12 A13 f2 h19 => ?_)
    refine ffm_Parser_settle h19 (fun A21 f3 h27 => ?_)
    refine ffm_W_power h27 (fun r28 A29 f4 h35 => ?_)
    refine ⟨fun c36 => ?_, fun c36 => ?_⟩
    · have h37 := h35.1 c36
      refine ffm_Parser_place h37 (fun r38 A39 f5 h45 => ?_)
      intro z46 e47 R48
      have h49 := h45 z46 e47 R48
      intro z50 e51 R52
      have h53 := h49 z50 e51 R52
      obtain ⟨o58, h59⟩ := h53
      refine ⟨o58, ?_⟩
      refine ffm_Parser_advance h59 (fun A61 f6 h67 => ?_)
      obtain ⟨o68, h69⟩ := h67
      refine ⟨o68, ?_⟩
      exact fk25 _ _ _ _ (((((((ySm.rf.tr f1 rfl rfl).tr f2 rfl rfl).tr f3 rfl rfl).tr f4 rfl rfl).tr f5 rfl rfl).add rfl).tr f6 rfl rfl) h69
    · have h70 := h35.2 c36
      exact ffj_Parser_expression_89 hrec (fun e A' f q => hq e A' (((((ySm.rf.tr f1 rfl rfl).tr f2 rfl rfl).tr f3 rfl rfl).tr f4 rfl rfl).tr f rfl rfl) q) (fun A' f q => hE A' (((((ySm.rf.tr f1 rfl rfl).tr f2 rfl rfl).tr f3 rfl rfl).tr f4 rfl rfl).tr f rfl rfl) q)  h70
theorem ffl_Parser_expression_250 {rec : Nat → Int → Int → Int → cS → (Int → cS → Prop) → (cS → Prop) → Prop} (hrec : ∀ (i : Nat) (a b c : Int) (A : cS) (Q Q' : Int → cS → Prop) (E E' : cS → Prop), rec i a b c A Q E → (∀ (e : Int) (A' : cS), ySm A A' [2, 3, 4, 5, 6, 7, 8, 9, 10, 11, 12, 13, 21, 22, 23] [3, 4, 5, 10, 11] → Q e A' → Q' e A') → (∀ (A' : cS), ySm A A' [2, 3, 4, 5, 6, 7, 8, 9, 10, 11, 12, 13, 21, 22, 23] [3, 4, 5, 10, 11] → E A' → E' A') → rec i a b c A Q' E') {Q Q' : Int → cS → Prop} {E E' : cS → Prop}  : ∀ (m : Nat) (s0 : cS) (x1 : Int) (x2 : Int) (x3 : Int), (∀ (e : Int) (A' : cS), ySm s0 A' [2, 3, 4, 5, 6, 7, 8, 9, 10, 11, 12, 13, 21, 22, 23] [3, 4, 5, 10, 11] → Q e A' → Q' e A') → (∀ (A' : cS), ySm s0 A' [2, 3, 4, 5, 6, 7, 8, 9, 10, 11, 12, 13, 21, 22, 23] [3, 4, 5, 10, 11] → E A' → E' A') → wc_Parser_expression_25 rec Q E  m s0 x1 x2 x3 → wc_Parser_expression_25 rec Q' E'  m s0 x1 x2 x3 := by
  intro m
  induction m with
  | zero => intro s0 x1 x2 x3 hq hE  hw; exact hw
  | succ m ih => intro s0 x1 x2 x3 hq hE  hw; exact ffb_Parser_expression_25 hrec hq hE  (fun A' y0 y1 y2 f1 q => ih A' y0 y1 y2 (fun e A' f q => hq e A' (f1.tr f rfl rfl) q) (fun A' f q => hE A' (f1.tr f rfl rfl) q)  q) hw
theorem ffm_Parser_expression {rec : Nat → Int → Int → Int → cS → (Int → cS → Prop) → (cS → Prop) → Prop} (hrec : ∀ (i : Nat) (a b c : Int) (A : cS) (Q Q' : Int → cS → Prop) (E E' : cS → Prop), rec i a b c A Q E → (∀ (e : Int) (A' : cS), ySm A A' [2, 3, 4, 5, 6, 7, 8, 9, 10, 11, 12, 13, 21, 22, 23] [3, 4, 5, 10, 11] → Q e A' → Q' e A') → (∀ (A' : cS), ySm A A' [2, 3, 4, 5, 6, 7, 8, 9, 10, 11, 12, 13, 21, 22, 23] [3, 4, 5, 10, 11] → E A' → E' A') → rec i a b c A Q' E') {s0 : cS}  {Q Q' : Int → cS → Prop} {E E' : cS → Prop} (hw : wc_Parser_expression rec s0  Q E) (hq : ∀ (e : Int) (A' : cS), ySm s0 A' [2, 3, 4, 5, 6, 7, 8, 9, 10, 11, 12, 13, 21, 22, 23] [3, 4, 5, 10, 11] → Q e A' → Q' e A') (hE : ∀ (A' : cS), ySm s0 A' [2, 3, 4, 5, 6, 7, 8, 9, 10, 11, 12, 13, 21, 22, 23] [3, 4, 5, 10, 11] → E A' → E' A') : wc_Parser_expression rec s0  Q' E' := by
  unfold wc_Parser_expression at hw ⊢
  refine ffm_Parser_place hw (fun r1 A2 f1 h8 => ?_)
  refine ffm_Tree_node h8 (fun r9 A10 f2 h16 => ?_)
  obtain ⟨m17, h18⟩ := h16
  exact ⟨m17, ffl_Parser_expression_250 hrec m17 _ _ _ _ (fun e A' f q => hq e A' (((ySm.rf.tr f1 rfl rfl).tr f2 rfl rfl).tr f rfl rfl) q) (fun A' f q => hE A' (((ySm.rf.tr f1 rfl rfl).tr f2 rfl rfl).tr f rfl rfl) q)  h18⟩
theorem ffj_Parser_operand_156 {rec : Nat → Int → Int → Int → cS → (Int → cS → Prop) → (cS → Prop) → Prop} (hrec : ∀ (i : Nat) (a b c : Int) (A : cS) (Q Q' : Int → cS → Prop) (E E' : cS → Prop), rec i a b c A Q E → (∀ (e : Int) (A' : cS), ySm A A' [2, 3, 4, 5, 6, 7, 8, 9, 10, 11, 12, 13, 21, 22, 23] [3, 4, 5, 10, 11] → Q e A' → Q' e A') → (∀ (A' : cS), ySm A A' [2, 3, 4, 5, 6, 7, 8, 9, 10, 11, 12, 13, 21, 22, 23] [3, 4, 5, 10, 11] → E A' → E' A') → rec i a b c A Q' E') {Q Q' : cS → Prop} {E E' : cS → Prop} {k24 k24' : cS → Int → Int → Int → Int → Int → Prop} {s0 : cS} {x1 : Int} {x2 : Int} {x3 : Int} {x5 : Int} (hq : ∀ (A' : cS), ySm s0 A' [2, 3, 4, 5, 6, 7, 8, 9, 10, 11, 12, 13, 21, 22, 23] [3, 4, 5, 10, 11] → Q A' → Q' A') (hE : ∀ (A' : cS), ySm s0 A' [2, 3, 4, 5, 6, 7, 8, 9, 10, 11, 12, 13, 21, 22, 23] [3, 4, 5, 10, 11] → E A' → E' A') (fk24 : ∀ (A' : cS) (x0 : Int) (x1 : Int) (x2 : Int) (x3 : Int) (x4 : Int), ySm s0 A' [2, 3, 4, 5, 6, 7, 8, 9, 10, 11, 12, 13, 21, 22, 23] [3, 4, 5, 10, 11] → k24 A' x0 x1 x2 x3 x4 → k24' A' x0 x1 x2 x3 x4) (hw : wc_Parser_operand_156 rec Q E k24 s0 x1 x2 x3 x5) : wc_Parser_operand_156 rec Q' E' k24' s0 x1 x2 x3 x5 := by
  unfold wc_Parser_operand_156 at hw ⊢
  refine ffm_Parser_kind hw (fun r1 A2 f1 h8 => ?_)
  refine ⟨fun c9 => ?_, fun c9 => ?_⟩
  · have h10 := h8.1 c9
    refine ffm_Parser_enter h10 (fun A12 f2 h18 => ?_) (fun A9 f9 q9 => hE A9 ((ySm.rf.tr f1 rfl rfl).tr f9 rfl rfl) q9)
    refine ffm_Parser_kind h18 (fun r19 A20 f3 h26 => ?_)
    refine ffm_Parser_leaf h26 (fun r27 A28 f4 h34 => ?_)
    obtain ⟨o35, h36⟩ := h34
    refine ⟨o35, ?_⟩
    exact fk24 _ _ _ _ _ _ ((((ySm.rf.tr f1 rfl rfl).tr f2 rfl rfl).tr f3 rfl rfl).tr f4 rfl rfl) h36
  · have h37 := h8.2 c9
    refine ffm_Parser_kind h37 (fun r38 A39 f5 h45 => ?_)
    refine ⟨fun c46 => ?_, fun c46 => ?_⟩
    · have h47 := h45.1 c46
      refine ffm_Parser_enter h47 (fun A49 f6 h55 => ?_) (fun A9 f9 q9 => hE A9 (((ySm.rf.tr f1 rfl rfl).tr f5 rfl rfl).tr f9 rfl rfl) q9)
      refine ffm_Parser_kind h55 (fun r56 A57 f7 h63 => ?_)
      refine ffm_Parser_leaf h63 (fun r64 A65 f8 h71 => ?_)
      obtain ⟨o72, h73⟩ := h71
      refine ⟨o72, ?_⟩
      exact fk24 _ _ _ _ _ _ (((((ySm.rf.tr f1 rfl rfl).tr f5 rfl rfl).tr f6 rfl rfl).tr f7 rfl rfl).tr f8 rfl rfl) h73
    · have h74 := h45.2 c46
      refine ffm_Parser_hangSigns h74 (fun A76 f9 h82 => ?_)
      exact hq _ ((((ySm.rf.tr f1 rfl rfl).tr f5 rfl rfl).tr f9 rfl rfl).pv rfl) h82
theorem ffj_Parser_operand_106 {rec : Nat → Int → Int → Int → cS → (Int → cS → Prop) → (cS → Prop) → Prop} (hrec : ∀ (i : Nat) (a b c : Int) (A : cS) (Q Q' : Int → cS → Prop) (E E' : cS → Prop), rec i a b c A Q E → (∀ (e : Int) (A' : cS), ySm A A' [2, 3, 4, 5, 6, 7, 8, 9, 10, 11, 12, 13, 21, 22, 23] [3, 4, 5, 10, 11] → Q e A' → Q' e A') → (∀ (A' : cS), ySm A A' [2, 3, 4, 5, 6, 7, 8, 9, 10, 11, 12, 13, 21, 22, 23] [3, 4, 5, 10, 11] → E A' → E' A') → rec i a b c A Q' E') {Q Q' : cS → Prop} {E E' : cS → Prop} {k24 k24' : cS → Int → Int → Int → Int → Int → Prop} {s0 : cS} {x1 : Int} {x2 : Int} {x3 : Int} {x4 : Int} {x5 : Int} {x6 : Int} {x7 : Int} (hq : ∀ (A' : cS), ySm s0 A' [2, 3, 4, 5, 6, 7, 8, 9, 10, 11, 12, 13, 21, 22, 23] [3, 4, 5, 10, 11] → Q A' → Q' A') (hE : ∀ (A' : cS), ySm s0 A' [2, 3, 4, 5, 6, 7, 8, 9, 10, 11, 12, 13, 21, 22, 23] [3, 4, 5, 10, 11] → E A' → E' A') (fk24 : ∀ (A' : cS) (x0 : Int) (x1 : Int) (x2 : Int) (x3 : Int) (x4 : Int), ySm s0 A' [2, 3, 4, 5, 6, 7, 8, 9, 10, 11, 12, 13, 21, 22, 23] [3, 4, 5, 10, 11] → k24 A' x0 x1 x2 x3 x4 → k24' A' x0 x1 x2 x3 x4) (hw : wc_Parser_operand_106 rec Q E k24 s0 x1 x2 x3 x4 x5 x6 x7) : wc_Parser_operand_106 rec Q' E' k24' s0 x1 x2 x3 x4 x5 x6 x7 := by
  unfold wc_Parser_operand_106 at hw ⊢
  refine ffm_Parser_kind hw (fun r1 A2 f1 h8 => ?_)
  refine ⟨fun c9 => ?_, fun c9 => ?_⟩
  · have h10 := h8.1 c9
    refine ffm_Tree_hang h10 (fun A12 f2 h18 => ?_)
    refine ffm_Parser_hangSigns h18 (fun A20 f3 h26 => ?_)
    refine ⟨fun c27 => ?_, fun c27 => ?_⟩
    · have h28 := h26.1 c27
      exact ffj_Parser_operand_156 hrec (fun A' f q => hq A' ((((ySm.rf.tr f1 rfl rfl).tr f2 rfl rfl).tr f3 rfl rfl).tr f rfl rfl) q) (fun A' f q => hE A' ((((ySm.rf.tr f1 rfl rfl).tr f2 rfl rfl).tr f3 rfl rfl).tr f rfl rfl) q) (fun A' x0 x1 x2 x3 x4 f q => fk24 A' x0 x1 x2 x3 x4 ((((ySm.rf.tr f1 rfl rfl).tr f2 rfl rfl).tr f3 rfl rfl).tr f rfl rfl) q) h28
    · have h29 := h26.2 c27
      refine ffm_Tree_hang h29 (fun A31 f4 h37 => ?_)
      exact ffj_Parser_operand_156 hrec (fun A' f q => hq A' (((((ySm.rf.tr f1 rfl rfl).tr f2 rfl rfl).tr f3 rfl rfl).tr f4 rfl rfl).tr f rfl rfl) q) (fun A' f q => hE A' (((((ySm.rf.tr f1 rfl rfl).tr f2 rfl rfl).tr f3 rfl rfl).tr f4 rfl rfl).tr f rfl rfl) q) (fun A' x0 x1 x2 x3 x4 f q => fk24 A' x0 x1 x2 x3 x4 (((((ySm.rf.tr f1 rfl rfl).tr f2 rfl rfl).tr f3 rfl rfl).tr f4 rfl rfl).tr f rfl rfl) q) h37
  · have h38 := h8.2 c9
    refine hrec _ _ _ _ _ _ _ _ _ h38 (fun r39 A40 f5 h46 => ?_) (fun A9 f9 q9 => hE A9 ((ySm.rf.tr f1 rfl rfl).tr f9 rfl rfl) q9)
    refine ffm_Tree_hang h46 (fun A48 f6 h54 => ?_)
    refine ffm_Parser_hangSigns h54 (fun A56 f7 h62 => ?_)
    refine ⟨fun c63 => ?_, fun c63 => ?_⟩
    · have h64 := h62.1 c63
      exact ffj_Parser_operand_156 hrec (fun A' f q => hq A' (((((ySm.rf.tr f1 rfl rfl).tr f5 rfl rfl).tr f6 rfl rfl).tr f7 rfl rfl).tr f rfl rfl) q) (fun A' f q => hE A' (((((ySm.rf.tr f1 rfl rfl).tr f5 rfl rfl).tr f6 rfl rfl).tr f7 rfl rfl).tr f rfl rfl) q) (fun A' x0 x1 x2 x3 x4 f q => fk24 A' x0 x1 x2 x3 x4 (((((ySm.rf.tr f1 rfl rfl).tr f5 rfl rfl).tr f6 rfl rfl).tr f7 rfl rfl).tr f rfl rfl) q) h64
    · have h65 := h62.2 c63
      refine ffm_Tree_hang h65 (fun A67 f8 h73 => ?_)
      exact ffj_Parser_operand_156 hrec (fun A' f q => hq A' ((((((ySm.rf.tr f1 rfl rfl).tr f5 rfl rfl).tr f6 rfl rfl).tr f7 rfl rfl).tr f8 rfl rfl).tr f rfl rfl) q) (fun A' f q => hE A' ((((((ySm.rf.tr f1 rfl rfl).tr f5 rfl rfl).tr f6 rfl rfl).tr f7 rfl rfl).tr f8 rfl rfl).tr f rfl rfl) q) (fun A' x0 x1 x2 x3 x4 f q => fk24 A' x0 x1 x2 x3 x4 ((((((ySm.rf.tr f1 rfl rfl).tr f5 rfl rfl).tr f6 rfl rfl).tr f7 rfl rfl).tr f8 rfl rfl).tr f rfl rfl) q) h73
theorem ffj_Parser_operand_50 {rec : Nat → Int → Int → Int → cS → (Int → cS → Prop) → (cS → Prop) → Prop} (hrec : ∀ (i : Nat) (a b c : Int) (A : cS) (Q Q' : Int → cS → Prop) (E E' : cS → Prop), rec i a b c A Q E → (∀ (e : Int) (A' : cS), ySm A A' [2, 3, 4, 5, 6, 7, 8, 9, 10, 11, 12, 13, 21, 22, 23] [3, 4, 5, 10, 11] → Q e A' → Q' e A') → (∀ (A' : cS), ySm A A' [2, 3, 4, 5, 6, 7, 8, 9, 10, 11, 12, 13, 21, 22, 23] [3, 4, 5, 10, 11] → E A' → E' A') → rec i a b c A Q' E') {Q Q' : cS → Prop} {E E' : cS → Prop} {k24 k24' : cS → Int → Int → Int → Int → Int → Prop} {s0 : cS} {x1 : Int} {x2 : Int} {x3 : Int} {x4 : Int} {x5 : Int} {x6 : Int} (hq : ∀ (A' : cS), ySm s0 A' [2, 3, 4, 5, 6, 7, 8, 9, 10, 11, 12, 13, 21, 22, 23] [3, 4, 5, 10, 11] → Q A' → Q' A') (hE : ∀ (A' : cS), ySm s0 A' [2, 3, 4, 5, 6, 7, 8, 9, 10, 11, 12, 13, 21, 22, 23] [3, 4, 5, 10, 11] → E A' → E' A') (fk24 : ∀ (A' : cS) (x0 : Int) (x1 : Int) (x2 : Int) (x3 : Int) (x4 : Int), ySm s0 A' [2, 3, 4, 5, 6, 7, 8, 9, 10, 11, 12, 13, 21, 22, 23] [3, 4, 5, 10, 11] → k24 A' x0 x1 x2 x3 x4 → k24' A' x0 x1 x2 x3 x4) (hw : wc_Parser_operand_50 rec Q E k24 s0 x1 x2 x3 x4 x5 x6) : wc_Parser_operand_50 rec Q' E' k24' s0 x1 x2 x3 x4 x5 x6 := by
  unfold wc_Parser_operand_50 at hw ⊢
  refine ffm_Parser_kind hw (fun r1 A2 f1 h8 => ?_)
  refine ⟨fun c9 => ?_, fun c9 => ?_⟩
  · have h10 := h8.1 c9
    refine hrec _ _ _ _ _ _ _ _ _ h10 (fun r11 A12 f2 h18 => ?_) (fun A9 f9 q9 => hE A9 ((ySm.rf.tr f1 rfl rfl).tr f9 rfl rfl) q9)
    exact ffj_Parser_operand_106 hrec (fun A' f q => hq A' (((ySm.rf.tr f1 rfl rfl).tr f2 rfl rfl).tr f rfl rfl) q) (fun A' f q => hE A' (((ySm.rf.tr f1 rfl rfl).tr f2 rfl rfl).tr f rfl rfl) q) (fun A' x0 x1 x2 x3 x4 f q => fk24 A' x0 x1 x2 x3 x4 (((ySm.rf.tr f1 rfl rfl).tr f2 rfl rfl).tr f rfl rfl) q) h18
  · have h19 := h8.2 c9
    refine ffm_Parser_enter h19 (fun A21 f3 h27 => ?_) (fun A9 f9 q9 => hE A9 ((ySm.rf.tr f1 rfl rfl).tr f9 rfl rfl) q9)
    refine ffm_Parser_leaf h27 (fun r28 A29 f4 h35 => ?_)
    refine hrec _ _ _ _ _ _ _ _ _ h35 (fun r36 A37 f5 h43 => ?_) (fun A9 f9 q9 => hE A9 ((((ySm.rf.tr f1 rfl rfl).tr f3 rfl rfl).tr f4 rfl rfl).tr f9 rfl rfl) q9)
    refine ffm_Tree_hang h43 (fun A45 f6 h51 => ?_)
    obtain ⟨o52, h53⟩ := h51
    refine ⟨o52, ?_⟩
    exact ffj_Parser_operand_106 hrec (fun A' f q => hq A' (((((((ySm.rf.tr f1 rfl rfl).tr f3 rfl rfl).tr f4 rfl rfl).tr f5 rfl rfl).tr f6 rfl rfl).pv rfl).tr f rfl rfl) q) (fun A' f q => hE A' (((((((ySm.rf.tr f1 rfl rfl).tr f3 rfl rfl).tr f4 rfl rfl).tr f5 rfl rfl).tr f6 rfl rfl).pv rfl).tr f rfl rfl) q) (fun A' x0 x1 x2 x3 x4 f q => fk24 A' x0 x1 x2 x3 x4 (((((((ySm.rf.tr f1 rfl rfl).tr f3 rfl rfl).tr f4 rfl rfl).tr f5 rfl rfl).tr f6 rfl rfl).pv rfl).tr f rfl rfl) q) h53
theorem ffb_Parser_operand_24 {rec : Nat → Int → Int → Int → cS → (Int → cS → Prop) → (cS → Prop) → Prop} (hrec : ∀ (i : Nat) (a b c : Int) (A : cS) (Q Q' : Int → cS → Prop) (E E' : cS → Prop), rec i a b c A Q E → (∀ (e : Int) (A' : cS), ySm A A' [2, 3, 4, 5, 6, 7, 8, 9, 10, 11, 12, 13, 21, 22, 23] [3, 4, 5, 10, 11] → Q e A' → Q' e A') → (∀ (A' : cS), ySm A A' [2, 3, 4, 5, 6, 7, 8, 9, 10, 11, 12, 13, 21, 22, 23] [3, 4, 5, 10, 11] → E A' → E' A') → rec i a b c A Q' E') {Q Q' : cS → Prop} {E E' : cS → Prop} {k24 k24' : cS → Int → Int → Int → Int → Int → Prop} {s0 : cS} {x1 : Int} {x2 : Int} {x3 : Int} {x4 : Int} {x5 : Int} (hq : ∀ (A' : cS), ySm s0 A' [2, 3, 4, 5, 6, 7, 8, 9, 10, 11, 12, 13, 21, 22, 23] [3, 4, 5, 10, 11] → Q A' → Q' A') (hE : ∀ (A' : cS), ySm s0 A' [2, 3, 4, 5, 6, 7, 8, 9, 10, 11, 12, 13, 21, 22, 23] [3, 4, 5, 10, 11] → E A' → E' A') (fk24 : ∀ (A' : cS) (x0 : Int) (x1 : Int) (x2 : Int) (x3 : Int) (x4 : Int), ySm s0 A' [2, 3, 4, 5, 6, 7, 8, 9, 10, 11, 12, 13, 21, 22, 23] [3, 4, 5, 10, 11] → k24 A' x0 x1 x2 x3 x4 → k24' A' x0 x1 x2 x3 x4) (hw : wc_Parser_operand_24B rec Q E k24 s0 x1 x2 x3 x4 x5) : wc_Parser_operand_24B rec Q' E' k24' s0 x1 x2 x3 x4 x5 := by
  unfold wc_Parser_operand_24B at hw ⊢
  refine ⟨fun c1 => ?_, fun c1 => ?_⟩
  · have h2 := hw.1 c1
    refine ffm_Parser_hangSigns h2 (fun A4 f1 h10 => ?_)
    exact hq _ ((ySm.rf.tr f1 rfl rfl).pv rfl) h10
  · have h22 := hw.2 c1
    refine ⟨fun c23 => ?_, fun c23 => ?_⟩
    · have h24 := h22.1 c23
      exact ffj_Parser_operand_50 hrec (fun A' f q => hq A' (ySm.rf.tr f rfl rfl) q) (fun A' f q => hE A' (ySm.rf.tr f rfl rfl) q) (fun A' x0 x1 x2 x3 x4 f q => fk24 A' x0 x1 x2 x3 x4 (ySm.rf.tr f rfl rfl) q) h24
    · have h25 := h22.2 c23
      refine ffm_Parser_passSigns h25 (fun A27 f2 h33 => ?_) (fun A9 f9 q9 => hE A9 (ySm.rf.tr f9 rfl rfl) q9)
      exact ffj_Parser_operand_50 hrec (fun A' f q => hq A' ((ySm.rf.tr f2 rfl rfl).tr f rfl rfl) q) (fun A' f q => hE A' ((ySm.rf.tr f2 rfl rfl).tr f rfl rfl) q) (fun A' x0 x1 x2 x3 x4 f q => fk24 A' x0 x1 x2 x3 x4 ((ySm.rf.tr f2 rfl rfl).tr f rfl rfl) q) h33
theorem ffl_Parser_operand_240 {rec : Nat → Int → Int → Int → cS → (Int → cS → Prop) → (cS → Prop) → Prop} (hrec : ∀ (i : Nat) (a b c : Int) (A : cS) (Q Q' : Int → cS → Prop) (E E' : cS → Prop), rec i a b c A Q E → (∀ (e : Int) (A' : cS), ySm A A' [2, 3, 4, 5, 6, 7, 8, 9, 10, 11, 12, 13, 21, 22, 23] [3, 4, 5, 10, 11] → Q e A' → Q' e A') → (∀ (A' : cS), ySm A A' [2, 3, 4, 5, 6, 7, 8, 9, 10, 11, 12, 13, 21, 22, 23] [3, 4, 5, 10, 11] → E A' → E' A') → rec i a b c A Q' E') {Q Q' : cS → Prop} {E E' : cS → Prop}  : ∀ (m : Nat) (s0 : cS) (x1 : Int) (x2 : Int) (x3 : Int) (x4 : Int) (x5 : Int), (∀ (A' : cS), ySm s0 A' [2, 3, 4, 5, 6, 7, 8, 9, 10, 11, 12, 13, 21, 22, 23] [3, 4, 5, 10, 11] → Q A' → Q' A') → (∀ (A' : cS), ySm s0 A' [2, 3, 4, 5, 6, 7, 8, 9, 10, 11, 12, 13, 21, 22, 23] [3, 4, 5, 10, 11] → E A' → E' A') → wc_Parser_operand_24 rec Q E  m s0 x1 x2 x3 x4 x5 → wc_Parser_operand_24 rec Q' E'  m s0 x1 x2 x3 x4 x5 := by
  intro m
  induction m with
  | zero => intro s0 x1 x2 x3 x4 x5 hq hE  hw; exact hw
  | succ m ih => intro s0 x1 x2 x3 x4 x5 hq hE  hw; exact ffb_Parser_operand_24 hrec hq hE  (fun A' y0 y1 y2 y3 y4 f1 q => ih A' y0 y1 y2 y3 y4 (fun A' f q => hq A' (f1.tr f rfl rfl) q) (fun A' f q => hE A' (f1.tr f rfl rfl) q)  q) hw
theorem ffm_Parser_operand {rec : Nat → Int → Int → Int → cS → (Int → cS → Prop) → (cS → Prop) → Prop} (hrec : ∀ (i : Nat) (a b c : Int) (A : cS) (Q Q' : Int → cS → Prop) (E E' : cS → Prop), rec i a b c A Q E → (∀ (e : Int) (A' : cS), ySm A A' [2, 3, 4, 5, 6, 7, 8, 9, 10, 11, 12, 13, 21, 22, 23] [3, 4, 5, 10, 11] → Q e A' → Q' e A') → (∀ (A' : cS), ySm A A' [2, 3, 4, 5, 6, 7, 8, 9, 10, 11, 12, 13, 21, 22, 23] [3, 4, 5, 10, 11] → E A' → E' A') → rec i a b c A Q' E') {s0 : cS} {a0 : Int} {Q Q' : cS → Prop} {E E' : cS → Prop} (hw : wc_Parser_operand rec s0 a0 Q E) (hq : ∀ (A' : cS), ySm s0 A' [2, 3, 4, 5, 6, 7, 8, 9, 10, 11, 12, 13, 21, 22, 23] [3, 4, 5, 10, 11] → Q A' → Q' A') (hE : ∀ (A' : cS), ySm s0 A' [2, 3, 4, 5, 6, 7, 8, 9, 10, 11, 12, 13, 21, 22, 23] [3, 4, 5, 10, 11] → E A' → E' A') : wc_Parser_operand rec s0 a0 Q' E' := by
  unfold wc_Parser_operand at hw ⊢
  refine ffm_Parser_passSigns hw (fun A2 f1 h8 => ?_) (fun A9 f9 q9 => hE A9 (ySm.rf.tr f9 rfl rfl) q9)
  obtain ⟨m9, h10⟩ := h8
  exact ⟨m9, ffl_Parser_operand_240 hrec m9 _ _ _ _ _ _ (fun A' f q => hq A' ((ySm.rf.tr f1 rfl rfl).tr f rfl rfl) q) (fun A' f q => hE A' ((ySm.rf.tr f1 rfl rfl).tr f rfl rfl) q)  h10⟩
theorem ffm_Parser_primary {rec : Nat → Int → Int → Int → cS → (Int → cS → Prop) → (cS → Prop) → Prop} (hrec : ∀ (i : Nat) (a b c : Int) (A : cS) (Q Q' : Int → cS → Prop) (E E' : cS → Prop), rec i a b c A Q E → (∀ (e : Int) (A' : cS), ySm A A' [2, 3, 4, 5, 6, 7, 8, 9, 10, 11, 12, 13, 21, 22, 23] [3, 4, 5, 10, 11] → Q e A' → Q' e A') → (∀ (A' : cS), ySm A A' [2, 3, 4, 5, 6, 7, 8, 9, 10, 11, 12, 13, 21, 22, 23] [3, 4, 5, 10, 11] → E A' → E' A') → rec i a b c A Q' E') {s0 : cS}  {Q Q' : Int → cS → Prop} {E E' : cS → Prop} (hw : wc_Parser_primary rec s0  Q E) (hq : ∀ (e : Int) (A' : cS), ySm s0 A' [2, 3, 4, 5, 6, 7, 8, 9, 10, 11, 12, 13, 21, 22, 23] [3, 4, 5, 10, 11] → Q e A' → Q' e A') (hE : ∀ (A' : cS), ySm s0 A' [2, 3, 4, 5, 6, 7, 8, 9, 10, 11, 12, 13, 21, 22, 23] [3, 4, 5, 10, 11] → E A' → E' A') : wc_Parser_primary rec s0  Q' E' := by
  unfold wc_Parser_primary at hw ⊢
  refine ffm_Parser_kind hw (fun r1 A2 f1 h8 => ?_)
  refine ⟨fun g9 => ?_, ?_⟩
  · have h11 := (h8.1) g9
    refine ffm_Parser_kind h11 (fun r12 A13 f2 h19 => ?_)
    refine ffm_Parser_leaf h19 (fun r20 A21 f3 h27 => ?_)
    exact hq _ _ (((ySm.rf.tr f1 rfl rfl).tr f2 rfl rfl).tr f3 rfl rfl) h27
  · skip
    refine ⟨fun g28 => ?_, ?_⟩
    · have h30 := (h8.2.1) g28
      refine ffm_Parser_leaf h30 (fun r31 A32 f4 h38 => ?_)
      refine ffm_Tree_data h38 (fun r39 A40 f5 h46 => ?_)
      refine ffm_Parser_pack h46 (fun r47 A48 f6 h54 => ?_)
      refine ffm_Tree_setData h54 (fun A56 f7 h62 => ?_)
      exact hq _ _ (((((ySm.rf.tr f1 rfl rfl).tr f4 rfl rfl).tr f5 rfl rfl).tr f6 rfl rfl).tr f7 rfl rfl) h62
    · skip
      refine ⟨fun g63 => ?_, ?_⟩
      · have h65 := (h8.2.2.1) g63
        refine ffm_Parser_enter h65 (fun A67 f8 h73 => ?_) (fun A9 f9 q9 => hE A9 ((ySm.rf.tr f1 rfl rfl).tr f9 rfl rfl) q9)
        refine ffm_Parser_leaf h73 (fun r74 A75 f9 h81 => ?_)
        refine hrec _ _ _ _ _ _ _ _ _ h81 (fun r82 A83 f10 h89 => ?_) (fun A9 f9 q9 => hE A9 ((((ySm.rf.tr f1 rfl rfl).tr f8 rfl rfl).tr f9 rfl rfl).tr f9 rfl rfl) q9)
        refine ffm_Tree_hang h89 (fun A91 f11 h97 => ?_)
        refine ffm_Parser_due h97 (fun A99 f12 h105 => ?_) (fun A9 f9 q9 => hE A9 ((((((ySm.rf.tr f1 rfl rfl).tr f8 rfl rfl).tr f9 rfl rfl).tr f10 rfl rfl).tr f11 rfl rfl).tr f9 rfl rfl) q9)
        obtain ⟨o106, h107⟩ := h105
        refine ⟨o106, ?_⟩
        exact hq _ _ (((((((ySm.rf.tr f1 rfl rfl).tr f8 rfl rfl).tr f9 rfl rfl).tr f10 rfl rfl).tr f11 rfl rfl).tr f12 rfl rfl).pv rfl) h107
      · skip
        refine ⟨fun g119 => ?_, ?_⟩
        · have h121 := (h8.2.2.2.1) g119
          refine ffm_Parser_place h121 (fun r122 A123 f13 h129 => ?_)
          refine ffm_Parser_kind h129 (fun r130 A131 f14 h137 => ?_)
          refine ⟨fun c138 => ?_, fun c138 => ?_⟩
          · have h139 := h137.1 c138
            refine ffm_Tree_node h139 (fun r140 A141 f15 h147 => ?_)
            refine ffm_Parser_advance h147 (fun A149 f16 h155 => ?_)
            exact hq _ _ (((((ySm.rf.tr f1 rfl rfl).tr f13 rfl rfl).tr f14 rfl rfl).tr f15 rfl rfl).tr f16 rfl rfl) h155
          · have h156 := h137.2 c138
            refine ffm_Tree_node h156 (fun r157 A158 f17 h164 => ?_)
            refine ffm_Parser_advance h164 (fun A166 f18 h172 => ?_)
            exact hq _ _ (((((ySm.rf.tr f1 rfl rfl).tr f13 rfl rfl).tr f14 rfl rfl).tr f17 rfl rfl).tr f18 rfl rfl) h172
        · skip
          refine ⟨fun g173 => ?_, ?_⟩
          · have h175 := (h8.2.2.2.2.1) g173
            refine hrec _ _ _ _ _ _ _ _ _ h175 (fun r176 A177 f19 h183 => ?_) (fun A9 f9 q9 => hE A9 ((ySm.rf.tr f1 rfl rfl).tr f9 rfl rfl) q9)
            exact hq _ _ ((ySm.rf.tr f1 rfl rfl).tr f19 rfl rfl) h183
          · skip
            intro ng9 ng28 ng63 ng119 ng173
            have h184 := h8.2.2.2.2.2 ng9 ng28 ng63 ng119 ng173
            refine ffm_Parser_refuse h184 (fun A186 f20 h192 => ?_) (fun A9 f9 q9 => hE A9 ((ySm.rf.tr f1 rfl rfl).tr f9 rfl rfl) q9)
            exact hq _ _ ((ySm.rf.tr f1 rfl rfl).tr f20 rfl rfl) h192
theorem ffb_Parser_table_75 {rec : Nat → Int → Int → Int → cS → (Int → cS → Prop) → (cS → Prop) → Prop} (hrec : ∀ (i : Nat) (a b c : Int) (A : cS) (Q Q' : Int → cS → Prop) (E E' : cS → Prop), rec i a b c A Q E → (∀ (e : Int) (A' : cS), ySm A A' [2, 3, 4, 5, 6, 7, 8, 9, 10, 11, 12, 13, 21, 22, 23] [3, 4, 5, 10, 11] → Q e A' → Q' e A') → (∀ (A' : cS), ySm A A' [2, 3, 4, 5, 6, 7, 8, 9, 10, 11, 12, 13, 21, 22, 23] [3, 4, 5, 10, 11] → E A' → E' A') → rec i a b c A Q' E') {Q Q' : Int → cS → Prop} {E E' : cS → Prop} {k75 k75' : cS → Int → Int → Int → Prop} {s0 : cS} {x1 : Int} {x2 : Int} {x3 : Int} (hq : ∀ (e : Int) (A' : cS), ySm s0 A' [2, 3, 4, 5, 6, 7, 8, 9, 10, 11, 12, 13, 21, 22, 23] [3, 4, 5, 10, 11] → Q e A' → Q' e A') (hE : ∀ (A' : cS), ySm s0 A' [2, 3, 4, 5, 6, 7, 8, 9, 10, 11, 12, 13, 21, 22, 23] [3, 4, 5, 10, 11] → E A' → E' A') (fk75 : ∀ (A' : cS) (x0 : Int) (x1 : Int) (x2 : Int), ySm s0 A' [2, 3, 4, 5, 6, 7, 8, 9, 10, 11, 12, 13, 21, 22, 23] [3, 4, 5, 10, 11] → k75 A' x0 x1 x2 → k75' A' x0 x1 x2) (hw : wc_Parser_table_75B rec Q E k75 s0 x1 x2 x3) : wc_Parser_table_75B rec Q' E' k75' s0 x1 x2 x3 := by
  unfold wc_Parser_table_75B at hw ⊢
  refine ⟨fun c1 => ?_, fun c1 => ?_⟩
  · have h2 := hw.1 c1
    obtain ⟨o3, h4⟩ := h2
    refine ⟨o3, ?_⟩
    exact hq _ _ (ySm.rf.pv rfl) h4
  · have h16 := hw.2 c1
    refine ffm_Program_addWord h16 (fun r17 A18 f1 h24 => ?_)
    obtain ⟨o25, h26⟩ := h24
    refine ⟨o25, ?_⟩
    exact fk75 _ _ _ _ (ySm.rf.tr f1 rfl rfl) h26
theorem ffl_Parser_table_750 {rec : Nat → Int → Int → Int → cS → (Int → cS → Prop) → (cS → Prop) → Prop} (hrec : ∀ (i : Nat) (a b c : Int) (A : cS) (Q Q' : Int → cS → Prop) (E E' : cS → Prop), rec i a b c A Q E → (∀ (e : Int) (A' : cS), ySm A A' [2, 3, 4, 5, 6, 7, 8, 9, 10, 11, 12, 13, 21, 22, 23] [3, 4, 5, 10, 11] → Q e A' → Q' e A') → (∀ (A' : cS), ySm A A' [2, 3, 4, 5, 6, 7, 8, 9, 10, 11, 12, 13, 21, 22, 23] [3, 4, 5, 10, 11] → E A' → E' A') → rec i a b c A Q' E') {Q Q' : Int → cS → Prop} {E E' : cS → Prop}  : ∀ (m : Nat) (s0 : cS) (x1 : Int) (x2 : Int) (x3 : Int), (∀ (e : Int) (A' : cS), ySm s0 A' [2, 3, 4, 5, 6, 7, 8, 9, 10, 11, 12, 13, 21, 22, 23] [3, 4, 5, 10, 11] → Q e A' → Q' e A') → (∀ (A' : cS), ySm s0 A' [2, 3, 4, 5, 6, 7, 8, 9, 10, 11, 12, 13, 21, 22, 23] [3, 4, 5, 10, 11] → E A' → E' A') → wc_Parser_table_75 rec Q E  m s0 x1 x2 x3 → wc_Parser_table_75 rec Q' E'  m s0 x1 x2 x3 := by
  intro m
  induction m with
  | zero => intro s0 x1 x2 x3 hq hE  hw; exact hw
  | succ m ih => intro s0 x1 x2 x3 hq hE  hw; exact ffb_Parser_table_75 hrec hq hE  (fun A' y0 y1 y2 f1 q => ih A' y0 y1 y2 (fun e A' f q => hq e A' (f1.tr f rfl rfl) q) (fun A' f q => hE A' (f1.tr f rfl rfl) q)  q) hw
theorem ffb_Parser_table_15 {rec : Nat → Int → Int → Int → cS → (Int → cS → Prop) → (cS → Prop) → Prop} (hrec : ∀ (i : Nat) (a b c : Int) (A : cS) (Q Q' : Int → cS → Prop) (E E' : cS → Prop), rec i a b c A Q E → (∀ (e : Int) (A' : cS), ySm A A' [2, 3, 4, 5, 6, 7, 8, 9, 10, 11, 12, 13, 21, 22, 23] [3, 4, 5, 10, 11] → Q e A' → Q' e A') → (∀ (A' : cS), ySm A A' [2, 3, 4, 5, 6, 7, 8, 9, 10, 11, 12, 13, 21, 22, 23] [3, 4, 5, 10, 11] → E A' → E' A') → rec i a b c A Q' E') {Q Q' : Int → cS → Prop} {E E' : cS → Prop} {k15 k15' : cS → Int → Int → Int → Prop} {s0 : cS} {x1 : Int} {x2 : Int} {x3 : Int} (hq : ∀ (e : Int) (A' : cS), ySm s0 A' [2, 3, 4, 5, 6, 7, 8, 9, 10, 11, 12, 13, 21, 22, 23] [3, 4, 5, 10, 11] → Q e A' → Q' e A') (hE : ∀ (A' : cS), ySm s0 A' [2, 3, 4, 5, 6, 7, 8, 9, 10, 11, 12, 13, 21, 22, 23] [3, 4, 5, 10, 11] → E A' → E' A') (fk15 : ∀ (A' : cS) (x0 : Int) (x1 : Int) (x2 : Int), ySm s0 A' [2, 3, 4, 5, 6, 7, 8, 9, 10, 11, 12, 13, 21, 22, 23] [3, 4, 5, 10, 11] → k15 A' x0 x1 x2 → k15' A' x0 x1 x2) (hw : wc_Parser_table_15B rec Q E k15 s0 x1 x2 x3) : wc_Parser_table_15B rec Q' E' k15' s0 x1 x2 x3 := by
  unfold wc_Parser_table_15B at hw ⊢
  refine ⟨fun c1 => ?_, fun c1 => ?_⟩
  · have h2 := hw.1 c1
    refine ffm_Program_words h2 (fun r3 A4 f1 h10 => ?_)
    refine ffm_Tree_setData h10 (fun A12 f2 h18 => ?_)
    obtain ⟨m19, h20⟩ := h18
    exact ⟨m19, ffl_Parser_table_750 hrec m19 _ _ _ _ (fun e A' f q => hq e A' (((ySm.rf.tr f1 rfl rfl).tr f2 rfl rfl).tr f rfl rfl) q) (fun A' f q => hE A' (((ySm.rf.tr f1 rfl rfl).tr f2 rfl rfl).tr f rfl rfl) q)  h20⟩
  · have h21 := hw.2 c1
    refine hrec _ _ _ _ _ _ _ _ _ h21 (fun r22 A23 f3 h29 => ?_) (fun A9 f9 q9 => hE A9 (ySm.rf.tr f9 rfl rfl) q9)
    refine ffm_Tree_hang h29 (fun A31 f4 h37 => ?_)
    refine ffm_Parser_kind h37 (fun r38 A39 f5 h45 => ?_)
    refine ⟨fun c46 => ?_, fun c46 => ?_⟩
    · have h47 := h45.1 c46
      refine ffm_Parser_advance h47 (fun A49 f6 h55 => ?_)
      obtain ⟨o56, h57⟩ := h55
      refine ⟨o56, ?_⟩
      obtain ⟨o58, h59⟩ := h57
      refine ⟨o58, ?_⟩
      exact fk15 _ _ _ _ ((((ySm.rf.tr f3 rfl rfl).tr f4 rfl rfl).tr f5 rfl rfl).tr f6 rfl rfl) h59
    · have h60 := h45.2 c46
      refine ffm_Program_words h60 (fun r61 A62 f7 h68 => ?_)
      refine ffm_Tree_setData h68 (fun A70 f8 h76 => ?_)
      obtain ⟨o77, h78⟩ := h76
      refine ⟨o77, ?_⟩
      obtain ⟨m79, h80⟩ := h78
      exact ⟨m79, ffl_Parser_table_750 hrec m79 _ _ _ _ (fun e A' f q => hq e A' ((((((ySm.rf.tr f3 rfl rfl).tr f4 rfl rfl).tr f5 rfl rfl).tr f7 rfl rfl).tr f8 rfl rfl).tr f rfl rfl) q) (fun A' f q => hE A' ((((((ySm.rf.tr f3 rfl rfl).tr f4 rfl rfl).tr f5 rfl rfl).tr f7 rfl rfl).tr f8 rfl rfl).tr f rfl rfl) q)  h80⟩
theorem ffl_Parser_table_150 {rec : Nat → Int → Int → Int → cS → (Int → cS → Prop) → (cS → Prop) → Prop} (hrec : ∀ (i : Nat) (a b c : Int) (A : cS) (Q Q' : Int → cS → Prop) (E E' : cS → Prop), rec i a b c A Q E → (∀ (e : Int) (A' : cS), ySm A A' [2, 3, 4, 5, 6, 7, 8, 9, 10, 11, 12, 13, 21, 22, 23] [3, 4, 5, 10, 11] → Q e A' → Q' e A') → (∀ (A' : cS), ySm A A' [2, 3, 4, 5, 6, 7, 8, 9, 10, 11, 12, 13, 21, 22, 23] [3, 4, 5, 10, 11] → E A' → E' A') → rec i a b c A Q' E') {Q Q' : Int → cS → Prop} {E E' : cS → Prop}  : ∀ (m : Nat) (s0 : cS) (x1 : Int) (x2 : Int) (x3 : Int), (∀ (e : Int) (A' : cS), ySm s0 A' [2, 3, 4, 5, 6, 7, 8, 9, 10, 11, 12, 13, 21, 22, 23] [3, 4, 5, 10, 11] → Q e A' → Q' e A') → (∀ (A' : cS), ySm s0 A' [2, 3, 4, 5, 6, 7, 8, 9, 10, 11, 12, 13, 21, 22, 23] [3, 4, 5, 10, 11] → E A' → E' A') → wc_Parser_table_15 rec Q E  m s0 x1 x2 x3 → wc_Parser_table_15 rec Q' E'  m s0 x1 x2 x3 := by
  intro m
  induction m with
  | zero => intro s0 x1 x2 x3 hq hE  hw; exact hw
  | succ m ih => intro s0 x1 x2 x3 hq hE  hw; exact ffb_Parser_table_15 hrec hq hE  (fun A' y0 y1 y2 f1 q => ih A' y0 y1 y2 (fun e A' f q => hq e A' (f1.tr f rfl rfl) q) (fun A' f q => hE A' (f1.tr f rfl rfl) q)  q) hw
theorem ffm_Parser_table {rec : Nat → Int → Int → Int → cS → (Int → cS → Prop) → (cS → Prop) → Prop} (hrec : ∀ (i : Nat) (a b c : Int) (A : cS) (Q Q' : Int → cS → Prop) (E E' : cS → Prop), rec i a b c A Q E → (∀ (e : Int) (A' : cS), ySm A A' [2, 3, 4, 5, 6, 7, 8, 9, 10, 11, 12, 13, 21, 22, 23] [3, 4, 5, 10, 11] → Q e A' → Q' e A') → (∀ (A' : cS), ySm A A' [2, 3, 4, 5, 6, 7, 8, 9, 10, 11, 12, 13, 21, 22, 23] [3, 4, 5, 10, 11] → E A' → E' A') → rec i a b c A Q' E') {s0 : cS}  {Q Q' : Int → cS → Prop} {E E' : cS → Prop} (hw : wc_Parser_table rec s0  Q E) (hq : ∀ (e : Int) (A' : cS), ySm s0 A' [2, 3, 4, 5, 6, 7, 8, 9, 10, 11, 12, 13, 21, 22, 23] [3, 4, 5, 10, 11] → Q e A' → Q' e A') (hE : ∀ (A' : cS), ySm s0 A' [2, 3, 4, 5, 6, 7, 8, 9, 10, 11, 12, 13, 21, 22, 23] [3, 4, 5, 10, 11] → E A' → E' A') : wc_Parser_table rec s0  Q' E' := by
  unfold wc_Parser_table at hw ⊢
  refine ffm_Parser_enter hw (fun A2 f1 h8 => ?_) (fun A9 f9 q9 => hE A9 (ySm.rf.tr f9 rfl rfl) q9)
  refine ffm_Parser_leaf h8 (fun r9 A10 f2 h16 => ?_)
  obtain ⟨m17, h18⟩ := h16
  exact ⟨m17, ffl_Parser_table_150 hrec m17 _ _ _ _ (fun e A' f q => hq e A' (((ySm.rf.tr f1 rfl rfl).tr f2 rfl rfl).tr f rfl rfl) q) (fun A' f q => hE A' (((ySm.rf.tr f1 rfl rfl).tr f2 rfl rfl).tr f rfl rfl) q)  h18⟩
theorem ffb_Parser_calls_109 {rec : Nat → Int → Int → Int → cS → (Int → cS → Prop) → (cS → Prop) → Prop} (hrec : ∀ (i : Nat) (a b c : Int) (A : cS) (Q Q' : Int → cS → Prop) (E E' : cS → Prop), rec i a b c A Q E → (∀ (e : Int) (A' : cS), ySm A A' [2, 3, 4, 5, 6, 7, 8, 9, 10, 11, 12, 13, 21, 22, 23] [3, 4, 5, 10, 11] → Q e A' → Q' e A') → (∀ (A' : cS), ySm A A' [2, 3, 4, 5, 6, 7, 8, 9, 10, 11, 12, 13, 21, 22, 23] [3, 4, 5, 10, 11] → E A' → E' A') → rec i a b c A Q' E') {Q Q' : Int → cS → Prop} {E E' : cS → Prop} {k59 k59' : cS → Int → Int → Prop} {k109 k109' : cS → Int → Int → Int → Int → Int → Int → Prop} {s0 : cS} {x2 : Int} {x4 : Int} {x5 : Int} {x6 : Int} {x7 : Int} {x8 : Int} (hq : ∀ (e : Int) (A' : cS), ySm s0 A' [2, 3, 4, 5, 6, 7, 8, 9, 10, 11, 12, 13, 21, 22, 23] [3, 4, 5, 10, 11] → Q e A' → Q' e A') (hE : ∀ (A' : cS), ySm s0 A' [2, 3, 4, 5, 6, 7, 8, 9, 10, 11, 12, 13, 21, 22, 23] [3, 4, 5, 10, 11] → E A' → E' A') (fk59 : ∀ (A' : cS) (x0 : Int) (x1 : Int), ySm s0 A' [2, 3, 4, 5, 6, 7, 8, 9, 10, 11, 12, 13, 21, 22, 23] [3, 4, 5, 10, 11] → k59 A' x0 x1 → k59' A' x0 x1) (fk109 : ∀ (A' : cS) (x0 : Int) (x1 : Int) (x2 : Int) (x3 : Int) (x4 : Int) (x5 : Int), ySm s0 A' [2, 3, 4, 5, 6, 7, 8, 9, 10, 11, 12, 13, 21, 22, 23] [3, 4, 5, 10, 11] → k109 A' x0 x1 x2 x3 x4 x5 → k109' A' x0 x1 x2 x3 x4 x5) (hw : wc_Parser_calls_109B rec Q E k59 k109 s0 x2 x4 x5 x6 x7 x8) : wc_Parser_calls_109B rec Q' E' k59' k109' s0 x2 x4 x5 x6 x7 x8 := by
  unfold wc_Parser_calls_109B at hw ⊢
  refine ⟨fun c1 => ?_, fun c1 => ?_⟩
  · have h2 := hw.1 c1
    refine ffm_Parser_due h2 (fun A4 f1 h10 => ?_) (fun A9 f9 q9 => hE A9 (ySm.rf.tr f9 rfl rfl) q9)
    refine ffm_Tree_setData h10 (fun A12 f2 h18 => ?_)
    refine ffm_Tree_hang h18 (fun A20 f3 h26 => ?_)
    obtain ⟨o27, h28⟩ := h26
    refine ⟨o27, ?_⟩
    exact fk59 _ _ _ (((ySm.rf.tr f1 rfl rfl).tr f2 rfl rfl).tr f3 rfl rfl) h28
  · have h29 := hw.2 c1
    refine ⟨fun c30 => ?_, fun c30 => ?_⟩
    · have h31 := h29.1 c30
      refine ffm_Parser_due h31 (fun A33 f4 h39 => ?_) (fun A9 f9 q9 => hE A9 (ySm.rf.tr f9 rfl rfl) q9)
      refine ffm_Tree_setData h39 (fun A41 f5 h47 => ?_)
      refine ffm_Tree_hang h47 (fun A49 f6 h55 => ?_)
      obtain ⟨o56, h57⟩ := h55
      refine ⟨o56, ?_⟩
      exact fk59 _ _ _ (((ySm.rf.tr f4 rfl rfl).tr f5 rfl rfl).tr f6 rfl rfl) h57
    · have h58 := h29.2 c30
      refine hrec _ _ _ _ _ _ _ _ _ h58 (fun r59 A60 f7 h66 => ?_) (fun A9 f9 q9 => hE A9 (ySm.rf.tr f9 rfl rfl) q9)
      refine ffm_Tree_hang h66 (fun A68 f8 h74 => ?_)
      refine ffm_Parser_kind h74 (fun r75 A76 f9 h82 => ?_)
      refine ⟨fun c83 => ?_, fun c83 => ?_⟩
      · have h84 := h82.1 c83
        obtain ⟨o86, h87⟩ := h84
        refine ⟨o86, ?_⟩
        obtain ⟨o88, h89⟩ := h87
        refine ⟨o88, ?_⟩
        exact fk109 _ _ _ _ _ _ _ (((ySm.rf.tr f7 rfl rfl).tr f8 rfl rfl).tr f9 rfl rfl) h89
      · have h90 := h82.2 c83
        refine ⟨fun c91 => ?_, fun c91 => ?_⟩
        · have h92 := h90.1 c91
          obtain ⟨o94, h95⟩ := h92
          refine ⟨o94, ?_⟩
          obtain ⟨o96, h97⟩ := h95
          refine ⟨o96, ?_⟩
          exact fk109 _ _ _ _ _ _ _ (((ySm.rf.tr f7 rfl rfl).tr f8 rfl rfl).tr f9 rfl rfl) h97
        · have h98 := h90.2 c91
          refine ffm_Parser_advance h98 (fun A101 f10 h107 => ?_)
          obtain ⟨o108, h109⟩ := h107
          refine ⟨o108, ?_⟩
          obtain ⟨o110, h111⟩ := h109
          refine ⟨o110, ?_⟩
          exact fk109 _ _ _ _ _ _ _ ((((ySm.rf.tr f7 rfl rfl).tr f8 rfl rfl).tr f9 rfl rfl).tr f10 rfl rfl) h111
theorem ffl_Parser_calls_1090 {rec : Nat → Int → Int → Int → cS → (Int → cS → Prop) → (cS → Prop) → Prop} (hrec : ∀ (i : Nat) (a b c : Int) (A : cS) (Q Q' : Int → cS → Prop) (E E' : cS → Prop), rec i a b c A Q E → (∀ (e : Int) (A' : cS), ySm A A' [2, 3, 4, 5, 6, 7, 8, 9, 10, 11, 12, 13, 21, 22, 23] [3, 4, 5, 10, 11] → Q e A' → Q' e A') → (∀ (A' : cS), ySm A A' [2, 3, 4, 5, 6, 7, 8, 9, 10, 11, 12, 13, 21, 22, 23] [3, 4, 5, 10, 11] → E A' → E' A') → rec i a b c A Q' E') {Q Q' : Int → cS → Prop} {E E' : cS → Prop} {k59 k59' : cS → Int → Int → Prop} : ∀ (m : Nat) (s0 : cS) (x2 : Int) (x4 : Int) (x5 : Int) (x6 : Int) (x7 : Int) (x8 : Int), (∀ (e : Int) (A' : cS), ySm s0 A' [2, 3, 4, 5, 6, 7, 8, 9, 10, 11, 12, 13, 21, 22, 23] [3, 4, 5, 10, 11] → Q e A' → Q' e A') → (∀ (A' : cS), ySm s0 A' [2, 3, 4, 5, 6, 7, 8, 9, 10, 11, 12, 13, 21, 22, 23] [3, 4, 5, 10, 11] → E A' → E' A') → (∀ (A' : cS) (x0 : Int) (x1 : Int), ySm s0 A' [2, 3, 4, 5, 6, 7, 8, 9, 10, 11, 12, 13, 21, 22, 23] [3, 4, 5, 10, 11] → k59 A' x0 x1 → k59' A' x0 x1) → wc_Parser_calls_109 rec Q E k59 m s0 x2 x4 x5 x6 x7 x8 → wc_Parser_calls_109 rec Q' E' k59' m s0 x2 x4 x5 x6 x7 x8 := by
  intro m
  induction m with
  | zero => intro s0 x2 x4 x5 x6 x7 x8 hq hE fk59 hw; exact hw
  | succ m ih => intro s0 x2 x4 x5 x6 x7 x8 hq hE fk59 hw; exact ffb_Parser_calls_109 hrec hq hE fk59 (fun A' y0 y1 y2 y3 y4 y5 f1 q => ih A' y0 y1 y2 y3 y4 y5 (fun e A' f q => hq e A' (f1.tr f rfl rfl) q) (fun A' f q => hE A' (f1.tr f rfl rfl) q) (fun A' z0 z1 f q => fk59 A' z0 z1 (f1.tr f rfl rfl) q) q) hw
theorem ffb_Parser_calls_59 {rec : Nat → Int → Int → Int → cS → (Int → cS → Prop) → (cS → Prop) → Prop} (hrec : ∀ (i : Nat) (a b c : Int) (A : cS) (Q Q' : Int → cS → Prop) (E E' : cS → Prop), rec i a b c A Q E → (∀ (e : Int) (A' : cS), ySm A A' [2, 3, 4, 5, 6, 7, 8, 9, 10, 11, 12, 13, 21, 22, 23] [3, 4, 5, 10, 11] → Q e A' → Q' e A') → (∀ (A' : cS), ySm A A' [2, 3, 4, 5, 6, 7, 8, 9, 10, 11, 12, 13, 21, 22, 23] [3, 4, 5, 10, 11] → E A' → E' A') → rec i a b c A Q' E') {Q Q' : Int → cS → Prop} {E E' : cS → Prop} {k59 k59' : cS → Int → Int → Prop} {s0 : cS} {x2 : Int} {x4 : Int} (hq : ∀ (e : Int) (A' : cS), ySm s0 A' [2, 3, 4, 5, 6, 7, 8, 9, 10, 11, 12, 13, 21, 22, 23] [3, 4, 5, 10, 11] → Q e A' → Q' e A') (hE : ∀ (A' : cS), ySm s0 A' [2, 3, 4, 5, 6, 7, 8, 9, 10, 11, 12, 13, 21, 22, 23] [3, 4, 5, 10, 11] → E A' → E' A') (fk59 : ∀ (A' : cS) (x0 : Int) (x1 : Int), ySm s0 A' [2, 3, 4, 5, 6, 7, 8, 9, 10, 11, 12, 13, 21, 22, 23] [3, 4, 5, 10, 11] → k59 A' x0 x1 → k59' A' x0 x1) (hw : wc_Parser_calls_59B rec Q E k59 s0 x2 x4) : wc_Parser_calls_59B rec Q' E' k59' s0 x2 x4 := by
  unfold wc_Parser_calls_59B at hw ⊢
  refine ⟨fun c1 => ?_, fun c1 => ?_⟩
  · have h2 := hw.1 c1
    exact hq _ _ ySm.rf h2
  · have h3 := hw.2 c1
    refine ffm_Parser_kind h3 (fun r4 A5 f1 h11 => ?_)
    refine ⟨fun c12 => ?_, fun c12 => ?_⟩
    · have h13 := h11.1 c12
      exact hq _ _ (ySm.rf.tr f1 rfl rfl) h13
    · have h14 := h11.2 c12
      refine ffm_Parser_enter h14 (fun A16 f2 h22 => ?_) (fun A9 f9 q9 => hE A9 ((ySm.rf.tr f1 rfl rfl).tr f9 rfl rfl) q9)
      refine ffm_Parser_leaf h22 (fun r23 A24 f3 h30 => ?_)
      refine ffm_Parser_kind h30 (fun r31 A32 f4 h38 => ?_)
      refine ⟨fun c39 => ?_, fun c39 => ?_⟩
      · have h40 := h38.1 c39
        obtain ⟨m41, h42⟩ := h40
        exact ⟨m41, ffl_Parser_calls_1090 hrec m41 _ _ _ _ _ _ _ (fun e A' f q => hq e A' (((((ySm.rf.tr f1 rfl rfl).tr f2 rfl rfl).tr f3 rfl rfl).tr f4 rfl rfl).tr f rfl rfl) q) (fun A' f q => hE A' (((((ySm.rf.tr f1 rfl rfl).tr f2 rfl rfl).tr f3 rfl rfl).tr f4 rfl rfl).tr f rfl rfl) q) (fun A' x0 x1 f q => fk59 A' x0 x1 (((((ySm.rf.tr f1 rfl rfl).tr f2 rfl rfl).tr f3 rfl rfl).tr f4 rfl rfl).tr f rfl rfl) q) h42⟩
      · have h43 := h38.2 c39
        obtain ⟨m44, h45⟩ := h43
        exact ⟨m44, ffl_Parser_calls_1090 hrec m44 _ _ _ _ _ _ _ (fun e A' f q => hq e A' (((((ySm.rf.tr f1 rfl rfl).tr f2 rfl rfl).tr f3 rfl rfl).tr f4 rfl rfl).tr f rfl rfl) q) (fun A' f q => hE A' (((((ySm.rf.tr f1 rfl rfl).tr f2 rfl rfl).tr f3 rfl rfl).tr f4 rfl rfl).tr f rfl rfl) q) (fun A' x0 x1 f q => fk59 A' x0 x1 (((((ySm.rf.tr f1 rfl rfl).tr f2 rfl rfl).tr f3 rfl rfl).tr f4 rfl rfl).tr f rfl rfl) q) h45⟩
theorem ffl_Parser_calls_590 {rec : Nat → Int → Int → Int → cS → (Int → cS → Prop) → (cS → Prop) → Prop} (hrec : ∀ (i : Nat) (a b c : Int) (A : cS) (Q Q' : Int → cS → Prop) (E E' : cS → Prop), rec i a b c A Q E → (∀ (e : Int) (A' : cS), ySm A A' [2, 3, 4, 5, 6, 7, 8, 9, 10, 11, 12, 13, 21, 22, 23] [3, 4, 5, 10, 11] → Q e A' → Q' e A') → (∀ (A' : cS), ySm A A' [2, 3, 4, 5, 6, 7, 8, 9, 10, 11, 12, 13, 21, 22, 23] [3, 4, 5, 10, 11] → E A' → E' A') → rec i a b c A Q' E') {Q Q' : Int → cS → Prop} {E E' : cS → Prop}  : ∀ (m : Nat) (s0 : cS) (x2 : Int) (x4 : Int), (∀ (e : Int) (A' : cS), ySm s0 A' [2, 3, 4, 5, 6, 7, 8, 9, 10, 11, 12, 13, 21, 22, 23] [3, 4, 5, 10, 11] → Q e A' → Q' e A') → (∀ (A' : cS), ySm s0 A' [2, 3, 4, 5, 6, 7, 8, 9, 10, 11, 12, 13, 21, 22, 23] [3, 4, 5, 10, 11] → E A' → E' A') → wc_Parser_calls_59 rec Q E  m s0 x2 x4 → wc_Parser_calls_59 rec Q' E'  m s0 x2 x4 := by
  intro m
  induction m with
  | zero => intro s0 x2 x4 hq hE  hw; exact hw
  | succ m ih => intro s0 x2 x4 hq hE  hw; exact ffb_Parser_calls_59 hrec hq hE  (fun A' y0 y1 f1 q => ih A' y0 y1 (fun e A' f q => hq e A' (f1.tr f rfl rfl) q) (fun A' f q => hE A' (f1.tr f rfl rfl) q)  q) hw
theorem ffm_Parser_calls {rec : Nat → Int → Int → Int → cS → (Int → cS → Prop) → (cS → Prop) → Prop} (hrec : ∀ (i : Nat) (a b c : Int) (A : cS) (Q Q' : Int → cS → Prop) (E E' : cS → Prop), rec i a b c A Q E → (∀ (e : Int) (A' : cS), ySm A A' [2, 3, 4, 5, 6, 7, 8, 9, 10, 11, 12, 13, 21, 22, 23] [3, 4, 5, 10, 11] → Q e A' → Q' e A') → (∀ (A' : cS), ySm A A' [2, 3, 4, 5, 6, 7, 8, 9, 10, 11, 12, 13, 21, 22, 23] [3, 4, 5, 10, 11] → E A' → E' A') → rec i a b c A Q' E') {s0 : cS} {a0 : Int} {Q Q' : Int → cS → Prop} {E E' : cS → Prop} (hw : wc_Parser_calls rec s0 a0 Q E) (hq : ∀ (e : Int) (A' : cS), ySm s0 A' [2, 3, 4, 5, 6, 7, 8, 9, 10, 11, 12, 13, 21, 22, 23] [3, 4, 5, 10, 11] → Q e A' → Q' e A') (hE : ∀ (A' : cS), ySm s0 A' [2, 3, 4, 5, 6, 7, 8, 9, 10, 11, 12, 13, 21, 22, 23] [3, 4, 5, 10, 11] → E A' → E' A') : wc_Parser_calls rec s0 a0 Q' E' := by
  unfold wc_Parser_calls at hw ⊢
  refine ffm_Tree_place hw (fun r1 A2 f1 h8 => ?_)
  refine ffm_Tree_node h8 (fun r9 A10 f2 h16 => ?_)
  refine ffm_Tree_place h16 (fun r17 A18 f3 h24 => ?_)
  refine ffm_Tree_node h24 (fun r25 A26 f4 h32 => ?_)
  refine ffm_Tree_hang h32 (fun A34 f5 h40 => ?_)
  refine ffm_Tree_hang h40 (fun A42 f6 h48 => ?_)
  obtain ⟨m49, h50⟩ := h48
  exact ⟨m49, ffl_Parser_calls_590 hrec m49 _ _ _ (fun e A' f q => hq e A' (((((((ySm.rf.tr f1 rfl rfl).tr f2 rfl rfl).tr f3 rfl rfl).tr f4 rfl rfl).tr f5 rfl rfl).tr f6 rfl rfl).tr f rfl rfl) q) (fun A' f q => hE A' (((((((ySm.rf.tr f1 rfl rfl).tr f2 rfl rfl).tr f3 rfl rfl).tr f4 rfl rfl).tr f5 rfl rfl).tr f6 rfl rfl).tr f rfl rfl) q)  h50⟩
