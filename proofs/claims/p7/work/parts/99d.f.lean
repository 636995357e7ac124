/-! THE FRAME of the class's formulas -/
def ySm (A A' : cS) (js ks : List Nat) : Prop := (∀ j, js.contains j = false → A'.1 j = A.1 j ∧ A'.2.1 j = A.2.1 j) ∧ ∀ k, ks.contains k = false → A'.2.2 k = A.2.2 k
theorem ySm.rf {A : cS} {js ks : List Nat} : ySm A A js ks := ⟨fun _ _ => ⟨rfl, rfl⟩, fun _ _ => rfl⟩
theorem ySm.tr {A A1 A2 : cS} {js ks js1 ks1 : List Nat} (h : ySm A A1 js ks) (h2 : ySm A1 A2 js1 ks1) (a : js1.all (fun z => js.contains z) = true) (c : ks1.all (fun z => ks.contains z) = true) : ySm A A2 js ks := ⟨fun j hj => ⟨(h2.1 j (znot a hj)).1.trans (h.1 j hj).1, (h2.1 j (znot a hj)).2.trans (h.1 j hj).2⟩, fun k hk => (h2.2 k (znot c hk)).trans (h.2 k hk)⟩
theorem ynotin {l : List Nat} {j k : Nat} (hj : l.contains j = true) (hk : l.contains k = false) : k ≠ j := fun e => by rw [e, hj] at hk; exact absurd hk (by decide)
theorem ySm.pv {A A1 : cS} {js ks : List Nat} {k : Nat} {x : Int} (h : ySm A A1 js ks) (hk : ks.contains k = true) : ySm A (ypv A1 k x) js ks := ⟨h.1, fun m hm => by
  show (if m = k then x else A1.2.2 m) = A.2.2 m
  rw [if_neg (ynotin hk hm)]
  exact h.2 m hm⟩
theorem ySm.add {A A1 : cS} {js ks : List Nat} {j : Nat} {x : Int} (h : ySm A A1 js ks) (hj : js.contains j = true) : ySm A (yadd A1 j x) js ks := ⟨fun i hi => by
  have hne := ynotin hj hi
  refine ⟨?_, ?_⟩
  · show (if i = j then A1.1 i + 1 else A1.1 i) = A.1 i
    rw [if_neg hne]; exact (h.1 i hi).1
  · show (fun m => if i = j then (if m = A1.1 i then x else A1.2.1 i m) else A1.2.1 i m) = A.2.1 i
    simp only [hne, if_false]; exact (h.1 i hi).2, h.2⟩
theorem ySm.cut {A A1 : cS} {js ks : List Nat} {j : Nat} {x : Int} (h : ySm A A1 js ks) (hj : js.contains j = true) : ySm A (ycut A1 j x) js ks := ⟨fun i hi => by
  have hne := ynotin hj hi
  refine ⟨?_, (h.1 i hi).2⟩
  show (if i = j then (if 0 ≤ x ∧ x < (A1.1 i : Int) then x.toNat else A1.1 i) else A1.1 i) = A.1 i
  rw [if_neg hne]; exact (h.1 i hi).1, h.2⟩
theorem ySm.pop {A A1 : cS} {js ks : List Nat} {j : Nat} (h : ySm A A1 js ks) (hj : js.contains j = true) : ySm A (ypop A1 j) js ks := ⟨fun i hi => by
  have hne := ynotin hj hi
  refine ⟨?_, (h.1 i hi).2⟩
  show (if i = j then A1.1 i - 1 else A1.1 i) = A.1 i
  rw [if_neg hne]; exact (h.1 i hi).1, h.2⟩
theorem ySm.set {A A1 : cS} {js ks : List Nat} {j : Nat} {i x : Int} (h : ySm A A1 js ks) (hj : js.contains j = true) : ySm A (yset A1 j i x) js ks := ⟨fun n hn => by
  have hne := ynotin hj hn
  refine ⟨(h.1 n hn).1, ?_⟩
  show (fun m => if n = j then (if (0 ≤ i ∧ i < (A1.1 n : Int)) ∧ m = i.toNat then x else A1.2.1 n m) else A1.2.1 n m) = A.2.1 n
  simp only [hne, if_false]; exact (h.1 n hn).2, h.2⟩
theorem ySm.z {A A1 : cS} {js ks : List Nat} (h : ySm A A1 js ks) (j : Nat) (hj : js.contains j = false) : yz A1 j = yz A j := (h.1 j hj).1
theorem ySm.f {A A1 : cS} {js ks : List Nat} (h : ySm A A1 js ks) (j i : Nat) (hj : js.contains j = false) : yf A1 j i = yf A j i := congrFun (h.1 j hj).2 i
theorem ySm.v {A A1 : cS} {js ks : List Nat} (h : ySm A A1 js ks) (k : Nat) (hk : ks.contains k = false) : yv A1 k = yv A k := h.2 k hk
theorem ySm.g {A A1 : cS} {js ks : List Nat} (h : ySm A A1 js ks) (j : Nat) (i : Int) (hj : js.contains j = false) : yget A1 j i = yget A j i := by
  unfold yget
  rw [h.z j hj, h.f j _ hj]
theorem ySm.e {A A1 : cS} (h : ySm A A1 [] []) : A1 = A := Prod.ext (funext fun j => (h.1 j rfl).1) (Prod.ext (funext fun j => (h.1 j rfl).2) (funext fun k => h.2 k rfl))
theorem ffm_Tree_node {s0 : cS} {a0 : Int} {a1 : Int} {a2 : Int} {Q Q' : Int → cS → Prop} (hw : wc_Tree_node s0 a0 a1 a2 Q) (hq : ∀ (e : Int) (A' : cS), ySm s0 A' [7, 8, 9, 10, 11, 12, 13] [] → Q e A' → Q' e A') : wc_Tree_node s0 a0 a1 a2 Q' := by
  unfold wc_Tree_node at hw ⊢
  obtain ⟨o5, h6⟩ := hw
  refine ⟨o5, ?_⟩
  obtain ⟨o11, h12⟩ := h6
  refine ⟨o11, ?_⟩
  obtain ⟨o17, h18⟩ := h12
  refine ⟨o17, ?_⟩
  obtain ⟨o23, h24⟩ := h18
  refine ⟨o23, ?_⟩
  obtain ⟨o29, h30⟩ := h24
  refine ⟨o29, ?_⟩
  obtain ⟨o35, h36⟩ := h30
  refine ⟨o35, ?_⟩
  obtain ⟨o41, h42⟩ := h36
  refine ⟨o41, ?_⟩
  obtain ⟨o43, h44⟩ := h42
  refine ⟨o43, ?_⟩
  exact hq _ _ (((((((ySm.rf.add rfl).add rfl).add rfl).add rfl).add rfl).add rfl).add rfl) h44
theorem ffm_Tree_clear {s0 : cS}  {Q Q' : cS → Prop} (hw : wc_Tree_clear s0  Q) (hq : ∀ (A' : cS), ySm s0 A' [7, 8, 9, 10, 11, 12, 13] [] → Q A' → Q' A') : wc_Tree_clear s0  Q' := by
  unfold wc_Tree_clear at hw ⊢
  refine ffm_Tree_node hw (fun r29 A30 f1 h36 => ?_)
  exact hq _ ((((((((ySm.rf.cut rfl).cut rfl).cut rfl).cut rfl).cut rfl).cut rfl).cut rfl).tr f1 rfl rfl) h36
theorem ffm_Tree_hang {s0 : cS} {a0 : Int} {a1 : Int} {Q Q' : cS → Prop} (hw : wc_Tree_hang s0 a0 a1 Q) (hq : ∀ (A' : cS), ySm s0 A' [11, 12, 13] [] → Q A' → Q' A') : wc_Tree_hang s0 a0 a1 Q' := by
  unfold wc_Tree_hang at hw ⊢
  refine ⟨fun c1 => ?_, fun c1 => ?_⟩
  · have h2 := hw.1 c1
    exact hq _ ((ySm.rf.set rfl).set rfl) h2
  · have h11 := hw.2 c1
    exact hq _ ((ySm.rf.set rfl).set rfl) h11
theorem ffm_Tree_kind {s0 : cS} {a0 : Int} {Q Q' : Int → cS → Prop} (hw : wc_Tree_kind s0 a0 Q) (hq : ∀ (e : Int) (A' : cS), ySm s0 A' [] [] → Q e A' → Q' e A') : wc_Tree_kind s0 a0 Q' := by
  unfold wc_Tree_kind at hw ⊢
  exact hq _ _ ySm.rf hw
theorem ffm_Tree_place {s0 : cS} {a0 : Int} {Q Q' : Int → cS → Prop} (hw : wc_Tree_place s0 a0 Q) (hq : ∀ (e : Int) (A' : cS), ySm s0 A' [] [] → Q e A' → Q' e A') : wc_Tree_place s0 a0 Q' := by
  unfold wc_Tree_place at hw ⊢
  exact hq _ _ ySm.rf hw
theorem ffm_Tree_data {s0 : cS} {a0 : Int} {Q Q' : Int → cS → Prop} (hw : wc_Tree_data s0 a0 Q) (hq : ∀ (e : Int) (A' : cS), ySm s0 A' [] [] → Q e A' → Q' e A') : wc_Tree_data s0 a0 Q' := by
  unfold wc_Tree_data at hw ⊢
  exact hq _ _ ySm.rf hw
theorem ffm_Tree_extra {s0 : cS} {a0 : Int} {Q Q' : Int → cS → Prop} (hw : wc_Tree_extra s0 a0 Q) (hq : ∀ (e : Int) (A' : cS), ySm s0 A' [] [] → Q e A' → Q' e A') : wc_Tree_extra s0 a0 Q' := by
  unfold wc_Tree_extra at hw ⊢
  exact hq _ _ ySm.rf hw
theorem ffm_Tree_first {s0 : cS} {a0 : Int} {Q Q' : Int → cS → Prop} (hw : wc_Tree_first s0 a0 Q) (hq : ∀ (e : Int) (A' : cS), ySm s0 A' [] [] → Q e A' → Q' e A') : wc_Tree_first s0 a0 Q' := by
  unfold wc_Tree_first at hw ⊢
  exact hq _ _ ySm.rf hw
theorem ffm_Tree_last {s0 : cS} {a0 : Int} {Q Q' : Int → cS → Prop} (hw : wc_Tree_last s0 a0 Q) (hq : ∀ (e : Int) (A' : cS), ySm s0 A' [] [] → Q e A' → Q' e A') : wc_Tree_last s0 a0 Q' := by
  unfold wc_Tree_last at hw ⊢
  exact hq _ _ ySm.rf hw
theorem ffm_Tree_next {s0 : cS} {a0 : Int} {Q Q' : Int → cS → Prop} (hw : wc_Tree_next s0 a0 Q) (hq : ∀ (e : Int) (A' : cS), ySm s0 A' [] [] → Q e A' → Q' e A') : wc_Tree_next s0 a0 Q' := by
  unfold wc_Tree_next at hw ⊢
  exact hq _ _ ySm.rf hw
theorem ffm_Tree_setKind {s0 : cS} {a0 : Int} {a1 : Int} {Q Q' : cS → Prop} (hw : wc_Tree_setKind s0 a0 a1 Q) (hq : ∀ (A' : cS), ySm s0 A' [7] [] → Q A' → Q' A') : wc_Tree_setKind s0 a0 a1 Q' := by
  unfold wc_Tree_setKind at hw ⊢
  exact hq _ (ySm.rf.set rfl) hw
theorem ffm_Tree_setData {s0 : cS} {a0 : Int} {a1 : Int} {Q Q' : cS → Prop} (hw : wc_Tree_setData s0 a0 a1 Q) (hq : ∀ (A' : cS), ySm s0 A' [9] [] → Q A' → Q' A') : wc_Tree_setData s0 a0 a1 Q' := by
  unfold wc_Tree_setData at hw ⊢
  exact hq _ (ySm.rf.set rfl) hw
theorem ffm_Tree_setExtra {s0 : cS} {a0 : Int} {a1 : Int} {Q Q' : cS → Prop} (hw : wc_Tree_setExtra s0 a0 a1 Q) (hq : ∀ (A' : cS), ySm s0 A' [10] [] → Q A' → Q' A') : wc_Tree_setExtra s0 a0 a1 Q' := by
  unfold wc_Tree_setExtra at hw ⊢
  exact hq _ (ySm.rf.set rfl) hw
theorem ffm_Program_emit {s0 : cS} {a0 : Int} {a1 : Int} {Q Q' : Int → cS → Prop} (hw : wc_Program_emit s0 a0 a1 Q) (hq : ∀ (e : Int) (A' : cS), ySm s0 A' [1] [] → Q e A' → Q' e A') : wc_Program_emit s0 a0 a1 Q' := by
  unfold wc_Program_emit at hw ⊢
  obtain ⟨o5, h6⟩ := hw
  refine ⟨o5, ?_⟩
  obtain ⟨o11, h12⟩ := h6
  refine ⟨o11, ?_⟩
  obtain ⟨o13, h14⟩ := h12
  refine ⟨o13, ?_⟩
  exact hq _ _ ((ySm.rf.add rfl).add rfl) h14
theorem ffb_Program_clear_50 {Q Q' : cS → Prop} {k50 k50' : cS → Int → Int → Prop} {s0 : cS} {x1 : Int} {x2 : Int} (hq : ∀ (A' : cS), ySm s0 A' [1, 2, 3, 4, 5, 6] [2, 3, 4, 5, 6] → Q A' → Q' A') (fk50 : ∀ (A' : cS) (x0 : Int) (x1 : Int), ySm s0 A' [1, 2, 3, 4, 5, 6] [2, 3, 4, 5, 6] → k50 A' x0 x1 → k50' A' x0 x1) (hw : wc_Program_clear_50B Q k50 s0 x1 x2) : wc_Program_clear_50B Q' k50' s0 x1 x2 := by
  unfold wc_Program_clear_50B at hw ⊢
  refine ⟨fun c1 => ?_, fun c1 => ?_⟩
  · have h2 := hw.1 c1
    refine ffm_Program_emit h2 (fun r3 A4 f1 h10 => ?_)
    exact hq _ ((((((ySm.rf.tr f1 rfl rfl).pv rfl).pv rfl).pv rfl).pv rfl).pv rfl) h10
  · have h66 := hw.2 c1
    obtain ⟨o71, h72⟩ := h66
    refine ⟨o71, ?_⟩
    obtain ⟨o73, h74⟩ := h72
    refine ⟨o73, ?_⟩
    exact fk50 _ _ _ (ySm.rf.add rfl) h74
theorem ffl_Program_clear_500 {Q Q' : cS → Prop}  : ∀ (m : Nat) (s0 : cS) (x1 : Int) (x2 : Int), (∀ (A' : cS), ySm s0 A' [1, 2, 3, 4, 5, 6] [2, 3, 4, 5, 6] → Q A' → Q' A') → wc_Program_clear_50 Q  m s0 x1 x2 → wc_Program_clear_50 Q'  m s0 x1 x2 := by
  intro m
  induction m with
  | zero => intro s0 x1 x2 hq  hw; exact hw
  | succ m ih => intro s0 x1 x2 hq  hw; exact ffb_Program_clear_50 hq  (fun A' y0 y1 f1 q => ih A' y0 y1 (fun A' f q => hq A' (f1.tr f rfl rfl) q)  q) hw
theorem ffm_Program_clear {s0 : cS} {a0 : Int} {Q Q' : cS → Prop} (hw : wc_Program_clear s0 a0 Q) (hq : ∀ (A' : cS), ySm s0 A' [1, 2, 3, 4, 5, 6] [2, 3, 4, 5, 6] → Q A' → Q' A') : wc_Program_clear s0 a0 Q' := by
  unfold wc_Program_clear at hw ⊢
  obtain ⟨m25, h26⟩ := hw
  exact ⟨m25, ffl_Program_clear_500 m25 _ _ _ (fun A' f q => hq A' (((((((ySm.rf.cut rfl).cut rfl).cut rfl).cut rfl).cut rfl).cut rfl).tr f rfl rfl) q)  h26⟩
theorem ffm_Program_blame {s0 : cS} {a0 : Int} {a1 : Int} {Q Q' : cS → Prop} (hw : wc_Program_blame s0 a0 a1 Q) (hq : ∀ (A' : cS), ySm s0 A' [] [4, 5] → Q A' → Q' A') : wc_Program_blame s0 a0 a1 Q' := by
  unfold wc_Program_blame at hw ⊢
  refine ⟨fun c1 => ?_, fun c1 => ?_⟩
  · have h2 := hw.1 c1
    refine ⟨fun c3 => ?_, fun c3 => ?_⟩
    · have h4 := h2.1 c3
      exact hq _ ((ySm.rf.pv rfl).pv rfl) h4
    · have h27 := h2.2 c3
      exact hq _ ((ySm.rf.pv rfl).pv rfl) h27
  · have h51 := hw.2 c1
    refine ⟨fun c52 => ?_, fun c52 => ?_⟩
    · have h53 := h51.1 c52
      refine ⟨fun c54 => ?_, fun c54 => ?_⟩
      · have h55 := h53.1 c54
        exact hq _ ((ySm.rf.pv rfl).pv rfl) h55
      · have h78 := h53.2 c54
        exact hq _ ySm.rf h78
    · have h80 := h51.2 c52
      refine ⟨fun c81 => ?_, fun c81 => ?_⟩
      · have h82 := h80.1 c81
        refine ⟨fun c83 => ?_, fun c83 => ?_⟩
        · have h84 := h82.1 c83
          exact hq _ ((ySm.rf.pv rfl).pv rfl) h84
        · have h107 := h82.2 c83
          exact hq _ ySm.rf h107
      · have h109 := h80.2 c81
        refine ⟨fun c110 => ?_, fun c110 => ?_⟩
        · have h111 := h109.1 c110
          exact hq _ ((ySm.rf.pv rfl).pv rfl) h111
        · have h134 := h109.2 c110
          exact hq _ ((ySm.rf.pv rfl).pv rfl) h134
theorem ffm_Program_words {s0 : cS}  {Q Q' : Int → cS → Prop} (hw : wc_Program_words s0  Q) (hq : ∀ (e : Int) (A' : cS), ySm s0 A' [] [] → Q e A' → Q' e A') : wc_Program_words s0  Q' := by
  unfold wc_Program_words at hw ⊢
  exact hq _ _ ySm.rf hw
theorem ffb_Program_judge_34 {Q Q' : cS → Prop} {k34 k34' : cS → Int → Int → Prop} {s0 : cS} {x1 : Int} {x2 : Int} (hq : ∀ (A' : cS), ySm s0 A' [] [4, 5, 6] → Q A' → Q' A') (fk34 : ∀ (A' : cS) (x0 : Int) (x1 : Int), ySm s0 A' [] [4, 5, 6] → k34 A' x0 x1 → k34' A' x0 x1) (hw : wc_Program_judge_34B Q k34 s0 x1 x2) : wc_Program_judge_34B Q' k34' s0 x1 x2 := by
  unfold wc_Program_judge_34B at hw ⊢
  refine ⟨fun c1 => ?_, fun c1 => ?_⟩
  · have h2 := hw.1 c1
    refine ⟨fun c3 => ?_, fun c3 => ?_⟩
    · have h4 := h2.1 c3
      refine ⟨fun c5 => ?_, fun c5 => ?_⟩
      · have h6 := h4.1 c5
        exact hq _ (ySm.rf.pv rfl) h6
      · have h18 := h4.2 c5
        exact hq _ (ySm.rf.pv rfl) h18
    · have h30 := h2.2 c3
      refine ⟨fun c31 => ?_, fun c31 => ?_⟩
      · have h32 := h30.1 c31
        refine ffm_Program_blame h32 (fun A34 f1 h40 => ?_)
        refine ⟨fun c41 => ?_, fun c41 => ?_⟩
        · have h42 := h40.1 c41
          exact hq _ ((ySm.rf.tr f1 rfl rfl).pv rfl) h42
        · have h54 := h40.2 c41
          exact hq _ ((ySm.rf.tr f1 rfl rfl).pv rfl) h54
      · have h66 := h30.2 c31
        refine ⟨fun c67 => ?_, fun c67 => ?_⟩
        · have h68 := h66.1 c67
          refine ⟨fun c69 => ?_, fun c69 => ?_⟩
          · have h70 := h68.1 c69
            exact hq _ (ySm.rf.pv rfl) h70
          · have h82 := h68.2 c69
            exact hq _ (ySm.rf.pv rfl) h82
        · have h94 := h66.2 c67
          refine ffm_Program_blame h94 (fun A96 f2 h102 => ?_)
          refine ⟨fun c103 => ?_, fun c103 => ?_⟩
          · have h104 := h102.1 c103
            exact hq _ ((ySm.rf.tr f2 rfl rfl).pv rfl) h104
          · have h116 := h102.2 c103
            exact hq _ ((ySm.rf.tr f2 rfl rfl).pv rfl) h116
  · have h128 := hw.2 c1
    refine ⟨fun c129 => ?_, fun c129 => ?_⟩
    · have h130 := h128.1 c129
      obtain ⟨o131, h132⟩ := h130
      refine ⟨o131, ?_⟩
      exact fk34 _ _ _ ySm.rf h132
    · have h133 := h128.2 c129
      refine ⟨fun c134 => ?_, fun c134 => ?_⟩
      · have h135 := h133.1 c134
        obtain ⟨o136, h137⟩ := h135
        refine ⟨o136, ?_⟩
        exact fk34 _ _ _ ySm.rf h137
      · have h138 := h133.2 c134
        obtain ⟨o139, h140⟩ := h138
        refine ⟨o139, ?_⟩
        exact fk34 _ _ _ ySm.rf h140
theorem ffl_Program_judge_340 {Q Q' : cS → Prop}  : ∀ (m : Nat) (s0 : cS) (x1 : Int) (x2 : Int), (∀ (A' : cS), ySm s0 A' [] [4, 5, 6] → Q A' → Q' A') → wc_Program_judge_34 Q  m s0 x1 x2 → wc_Program_judge_34 Q'  m s0 x1 x2 := by
  intro m
  induction m with
  | zero => intro s0 x1 x2 hq  hw; exact hw
  | succ m ih => intro s0 x1 x2 hq  hw; exact ffb_Program_judge_34 hq  (fun A' y0 y1 f1 q => ih A' y0 y1 (fun A' f q => hq A' (f1.tr f rfl rfl) q)  q) hw
theorem ffm_Program_judge {s0 : cS}  {Q Q' : cS → Prop} (hw : wc_Program_judge s0  Q) (hq : ∀ (A' : cS), ySm s0 A' [] [4, 5, 6] → Q A' → Q' A') : wc_Program_judge s0  Q' := by
  unfold wc_Program_judge at hw ⊢
  refine ffm_Program_words hw (fun r1 A2 f1 h8 => ?_)
  obtain ⟨o9, h10⟩ := h8
  refine ⟨o9, ?_⟩
  refine ⟨fun c11 => ?_, fun c11 => ?_⟩
  · have h12 := h10.1 c11
    obtain ⟨m13, h14⟩ := h12
    exact ⟨m13, ffl_Program_judge_340 m13 _ _ _ (fun A' f q => hq A' ((ySm.rf.tr f1 rfl rfl).tr f rfl rfl) q)  h14⟩
  · have h15 := h10.2 c11
    refine ⟨fun c16 => ?_, fun c16 => ?_⟩
    · have h17 := h15.1 c16
      obtain ⟨m18, h19⟩ := h17
      exact ⟨m18, ffl_Program_judge_340 m18 _ _ _ (fun A' f q => hq A' ((ySm.rf.tr f1 rfl rfl).tr f rfl rfl) q)  h19⟩
    · have h20 := h15.2 c16
      obtain ⟨m21, h22⟩ := h20
      exact ⟨m21, ffl_Program_judge_340 m21 _ _ _ (fun A' f q => hq A' ((ySm.rf.tr f1 rfl rfl).tr f rfl rfl) q)  h22⟩
theorem ffm_Program_isReady {s0 : cS}  {Q Q' : Int → cS → Prop} (hw : wc_Program_isReady s0  Q) (hq : ∀ (e : Int) (A' : cS), ySm s0 A' [] [] → Q e A' → Q' e A') : wc_Program_isReady s0  Q' := by
  unfold wc_Program_isReady at hw ⊢
  obtain ⟨o1, h2⟩ := hw
  refine ⟨o1, ?_⟩
  exact hq _ _ ySm.rf h2
theorem ffm_Program_faultKind {s0 : cS}  {Q Q' : Int → cS → Prop} (hw : wc_Program_faultKind s0  Q) (hq : ∀ (e : Int) (A' : cS), ySm s0 A' [] [] → Q e A' → Q' e A') : wc_Program_faultKind s0  Q' := by
  unfold wc_Program_faultKind at hw ⊢
  exact hq _ _ ySm.rf hw
theorem ffm_Program_faultPlace {s0 : cS}  {Q Q' : Int → cS → Prop} (hw : wc_Program_faultPlace s0  Q) (hq : ∀ (e : Int) (A' : cS), ySm s0 A' [] [] → Q e A' → Q' e A') : wc_Program_faultPlace s0  Q' := by
  unfold wc_Program_faultPlace at hw ⊢
  exact hq _ _ ySm.rf hw
theorem ffm_Program_storeWords {s0 : cS}  {Q Q' : Int → cS → Prop} (hw : wc_Program_storeWords s0  Q) (hq : ∀ (e : Int) (A' : cS), ySm s0 A' [] [] → Q e A' → Q' e A') : wc_Program_storeWords s0  Q' := by
  unfold wc_Program_storeWords at hw ⊢
  exact hq _ _ ySm.rf hw
theorem ffm_Program_wordAt {s0 : cS} {a0 : Int} {Q Q' : Int → cS → Prop} (hw : wc_Program_wordAt s0 a0 Q) (hq : ∀ (e : Int) (A' : cS), ySm s0 A' [] [] → Q e A' → Q' e A') : wc_Program_wordAt s0 a0 Q' := by
  unfold wc_Program_wordAt at hw ⊢
  exact hq _ _ ySm.rf hw
theorem ffm_Program_setWord {s0 : cS} {a0 : Int} {a1 : Int} {Q Q' : cS → Prop} (hw : wc_Program_setWord s0 a0 a1 Q) (hq : ∀ (A' : cS), ySm s0 A' [2] [] → Q A' → Q' A') : wc_Program_setWord s0 a0 a1 Q' := by
  unfold wc_Program_setWord at hw ⊢
  exact hq _ (ySm.rf.set rfl) hw
theorem ffm_Program_addWord {s0 : cS} {a0 : Int} {Q Q' : Int → cS → Prop} (hw : wc_Program_addWord s0 a0 Q) (hq : ∀ (e : Int) (A' : cS), ySm s0 A' [2] [] → Q e A' → Q' e A') : wc_Program_addWord s0 a0 Q' := by
  unfold wc_Program_addWord at hw ⊢
  obtain ⟨o5, h6⟩ := hw
  refine ⟨o5, ?_⟩
  obtain ⟨o7, h8⟩ := h6
  refine ⟨o7, ?_⟩
  exact hq _ _ (ySm.rf.add rfl) h8
theorem ffm_Program_addRoutine {s0 : cS} {a0 : Int} {Q Q' : Int → cS → Prop} (hw : wc_Program_addRoutine s0 a0 Q) (hq : ∀ (e : Int) (A' : cS), ySm s0 A' [2, 3, 4, 5, 6] [] → Q e A' → Q' e A') : wc_Program_addRoutine s0 a0 Q' := by
  unfold wc_Program_addRoutine at hw ⊢
  refine ⟨fun c1 => ?_, fun c1 => ?_⟩
  · have h2 := hw.1 c1
    obtain ⟨o7, h8⟩ := h2
    refine ⟨o7, ?_⟩
    obtain ⟨o13, h14⟩ := h8
    refine ⟨o13, ?_⟩
    obtain ⟨o19, h20⟩ := h14
    refine ⟨o19, ?_⟩
    obtain ⟨o25, h26⟩ := h20
    refine ⟨o25, ?_⟩
    exact hq _ _ ((((ySm.rf.add rfl).add rfl).add rfl).add rfl) h26
  · have h27 := hw.2 c1
    obtain ⟨o28, h29⟩ := h27
    refine ⟨o28, ?_⟩
    refine ffm_Program_addWord h29 (fun r30 A31 f1 h37 => ?_)
    obtain ⟨o42, h43⟩ := h37
    refine ⟨o42, ?_⟩
    obtain ⟨o48, h49⟩ := h43
    refine ⟨o48, ?_⟩
    obtain ⟨o54, h55⟩ := h49
    refine ⟨o54, ?_⟩
    obtain ⟨o60, h61⟩ := h55
    refine ⟨o60, ?_⟩
    exact hq _ _ (((((ySm.rf.tr f1 rfl rfl).add rfl).add rfl).add rfl).add rfl) h61
theorem ffm_Program_setStarter {s0 : cS} {a0 : Int} {Q Q' : cS → Prop} (hw : wc_Program_setStarter s0 a0 Q) (hq : ∀ (A' : cS), ySm s0 A' [] [3] → Q A' → Q' A') : wc_Program_setStarter s0 a0 Q' := by
  unfold wc_Program_setStarter at hw ⊢
  refine ⟨fun c1 => ?_, fun c1 => ?_⟩
  · have h2 := hw.1 c1
    exact hq _ ySm.rf h2
  · have h3 := hw.2 c1
    exact hq _ (ySm.rf.pv rfl) h3
theorem ffm_Program_starter {s0 : cS}  {Q Q' : Int → cS → Prop} (hw : wc_Program_starter s0  Q) (hq : ∀ (e : Int) (A' : cS), ySm s0 A' [] [] → Q e A' → Q' e A') : wc_Program_starter s0  Q' := by
  unfold wc_Program_starter at hw ⊢
  exact hq _ _ ySm.rf hw
theorem ffm_Program_routines {s0 : cS}  {Q Q' : Int → cS → Prop} (hw : wc_Program_routines s0  Q) (hq : ∀ (e : Int) (A' : cS), ySm s0 A' [] [] → Q e A' → Q' e A') : wc_Program_routines s0  Q' := by
  unfold wc_Program_routines at hw ⊢
  exact hq _ _ ySm.rf hw
theorem ffm_Program_home {s0 : cS} {a0 : Int} {Q Q' : Int → cS → Prop} (hw : wc_Program_home s0 a0 Q) (hq : ∀ (e : Int) (A' : cS), ySm s0 A' [] [] → Q e A' → Q' e A') : wc_Program_home s0 a0 Q' := by
  unfold wc_Program_home at hw ⊢
  exact hq _ _ ySm.rf hw
theorem ffm_Program_begin {s0 : cS} {a0 : Int} {Q Q' : Int → cS → Prop} (hw : wc_Program_begin s0 a0 Q) (hq : ∀ (e : Int) (A' : cS), ySm s0 A' [] [] → Q e A' → Q' e A') : wc_Program_begin s0 a0 Q' := by
  unfold wc_Program_begin at hw ⊢
  exact hq _ _ ySm.rf hw
theorem ffm_Program_frame {s0 : cS} {a0 : Int} {Q Q' : Int → cS → Prop} (hw : wc_Program_frame s0 a0 Q) (hq : ∀ (e : Int) (A' : cS), ySm s0 A' [] [] → Q e A' → Q' e A') : wc_Program_frame s0 a0 Q' := by
  unfold wc_Program_frame at hw ⊢
  exact hq _ _ ySm.rf hw
theorem ffm_Program_params {s0 : cS} {a0 : Int} {Q Q' : Int → cS → Prop} (hw : wc_Program_params s0 a0 Q) (hq : ∀ (e : Int) (A' : cS), ySm s0 A' [] [] → Q e A' → Q' e A') : wc_Program_params s0 a0 Q' := by
  unfold wc_Program_params at hw ⊢
  exact hq _ _ ySm.rf hw
theorem ffm_Program_here {s0 : cS}  {Q Q' : Int → cS → Prop} (hw : wc_Program_here s0  Q) (hq : ∀ (e : Int) (A' : cS), ySm s0 A' [] [] → Q e A' → Q' e A') : wc_Program_here s0  Q' := by
  unfold wc_Program_here at hw ⊢
  exact hq _ _ ySm.rf hw
theorem ffm_Program_setBegin {s0 : cS} {a0 : Int} {a1 : Int} {Q Q' : cS → Prop} (hw : wc_Program_setBegin s0 a0 a1 Q) (hq : ∀ (A' : cS), ySm s0 A' [4, 6] [] → Q A' → Q' A') : wc_Program_setBegin s0 a0 a1 Q' := by
  unfold wc_Program_setBegin at hw ⊢
  refine ffm_Program_here hw (fun r1 A2 f1 h8 => ?_)
  exact hq _ (((ySm.rf.tr f1 rfl rfl).set rfl).set rfl) h8
theorem ffm_Program_setFrame {s0 : cS} {a0 : Int} {a1 : Int} {Q Q' : cS → Prop} (hw : wc_Program_setFrame s0 a0 a1 Q) (hq : ∀ (A' : cS), ySm s0 A' [5] [] → Q A' → Q' A') : wc_Program_setFrame s0 a0 a1 Q' := by
  unfold wc_Program_setFrame at hw ⊢
  exact hq _ (ySm.rf.set rfl) hw
theorem ffm_Program_codeAt {s0 : cS} {a0 : Int} {Q Q' : Int → cS → Prop} (hw : wc_Program_codeAt s0 a0 Q) (hq : ∀ (e : Int) (A' : cS), ySm s0 A' [] [] → Q e A' → Q' e A') : wc_Program_codeAt s0 a0 Q' := by
  unfold wc_Program_codeAt at hw ⊢
  exact hq _ _ ySm.rf hw
theorem ffm_Program_setOperand {s0 : cS} {a0 : Int} {a1 : Int} {Q Q' : cS → Prop} (hw : wc_Program_setOperand s0 a0 a1 Q) (hq : ∀ (A' : cS), ySm s0 A' [1] [] → Q A' → Q' A') : wc_Program_setOperand s0 a0 a1 Q' := by
  unfold wc_Program_setOperand at hw ⊢
  exact hq _ (ySm.rf.set rfl) hw
theorem ffb_Program_land_4 {Q Q' : cS → Prop} {k4 k4' : cS → Int → Int → Prop} {s0 : cS} {x2 : Int} {x3 : Int} (hq : ∀ (A' : cS), ySm s0 A' [1] [] → Q A' → Q' A') (fk4 : ∀ (A' : cS) (x0 : Int) (x1 : Int), ySm s0 A' [1] [] → k4 A' x0 x1 → k4' A' x0 x1) (hw : wc_Program_land_4B Q k4 s0 x2 x3) : wc_Program_land_4B Q' k4' s0 x2 x3 := by
  unfold wc_Program_land_4B at hw ⊢
  refine ⟨fun c1 => ?_, fun c1 => ?_⟩
  · have h2 := hw.1 c1
    exact hq _ ySm.rf h2
  · have h3 := hw.2 c1
    refine ⟨fun c4 => ?_, fun c4 => ?_⟩
    · have h5 := h3.1 c4
      exact hq _ ySm.rf h5
    · have h6 := h3.2 c4
      refine ffm_Program_here h6 (fun r7 A8 f1 h14 => ?_)
      obtain ⟨o19, h20⟩ := h14
      refine ⟨o19, ?_⟩
      exact fk4 _ _ _ ((ySm.rf.tr f1 rfl rfl).set rfl) h20
theorem ffl_Program_land_40 {Q Q' : cS → Prop}  : ∀ (m : Nat) (s0 : cS) (x2 : Int) (x3 : Int), (∀ (A' : cS), ySm s0 A' [1] [] → Q A' → Q' A') → wc_Program_land_4 Q  m s0 x2 x3 → wc_Program_land_4 Q'  m s0 x2 x3 := by
  intro m
  induction m with
  | zero => intro s0 x2 x3 hq  hw; exact hw
  | succ m ih => intro s0 x2 x3 hq  hw; exact ffb_Program_land_4 hq  (fun A' y0 y1 f1 q => ih A' y0 y1 (fun A' f q => hq A' (f1.tr f rfl rfl) q)  q) hw
theorem ffm_Program_land {s0 : cS} {a0 : Int} {Q Q' : cS → Prop} (hw : wc_Program_land s0 a0 Q) (hq : ∀ (A' : cS), ySm s0 A' [1] [] → Q A' → Q' A') : wc_Program_land s0 a0 Q' := by
  unfold wc_Program_land at hw ⊢
  obtain ⟨m1, h2⟩ := hw
  exact ⟨m1, ffl_Program_land_40 m1 _ _ _ (fun A' f q => hq A' (ySm.rf.tr f rfl rfl) q)  h2⟩
theorem ffb_Program_landAt_5 {Q Q' : cS → Prop} {k5 k5' : cS → Int → Int → Int → Prop} {s0 : cS} {x2 : Int} {x3 : Int} {x4 : Int} (hq : ∀ (A' : cS), ySm s0 A' [1] [] → Q A' → Q' A') (fk5 : ∀ (A' : cS) (x0 : Int) (x1 : Int) (x2 : Int), ySm s0 A' [1] [] → k5 A' x0 x1 x2 → k5' A' x0 x1 x2) (hw : wc_Program_landAt_5B Q k5 s0 x2 x3 x4) : wc_Program_landAt_5B Q' k5' s0 x2 x3 x4 := by
  unfold wc_Program_landAt_5B at hw ⊢
  refine ⟨fun c1 => ?_, fun c1 => ?_⟩
  · have h2 := hw.1 c1
    exact hq _ ySm.rf h2
  · have h3 := hw.2 c1
    refine ⟨fun c4 => ?_, fun c4 => ?_⟩
    · have h5 := h3.1 c4
      exact hq _ ySm.rf h5
    · have h6 := h3.2 c4
      obtain ⟨o11, h12⟩ := h6
      refine ⟨o11, ?_⟩
      exact fk5 _ _ _ _ (ySm.rf.set rfl) h12
theorem ffl_Program_landAt_50 {Q Q' : cS → Prop}  : ∀ (m : Nat) (s0 : cS) (x2 : Int) (x3 : Int) (x4 : Int), (∀ (A' : cS), ySm s0 A' [1] [] → Q A' → Q' A') → wc_Program_landAt_5 Q  m s0 x2 x3 x4 → wc_Program_landAt_5 Q'  m s0 x2 x3 x4 := by
  intro m
  induction m with
  | zero => intro s0 x2 x3 x4 hq  hw; exact hw
  | succ m ih => intro s0 x2 x3 x4 hq  hw; exact ffb_Program_landAt_5 hq  (fun A' y0 y1 y2 f1 q => ih A' y0 y1 y2 (fun A' f q => hq A' (f1.tr f rfl rfl) q)  q) hw
theorem ffm_Program_landAt {s0 : cS} {a0 : Int} {a1 : Int} {Q Q' : cS → Prop} (hw : wc_Program_landAt s0 a0 a1 Q) (hq : ∀ (A' : cS), ySm s0 A' [1] [] → Q A' → Q' A') : wc_Program_landAt s0 a0 a1 Q' := by
  unfold wc_Program_landAt at hw ⊢
  obtain ⟨m1, h2⟩ := hw
  exact ⟨m1, ffl_Program_landAt_50 m1 _ _ _ _ (fun A' f q => hq A' (ySm.rf.tr f rfl rfl) q)  h2⟩
theorem ffm_W_worked {s0 : cS} {a0 : Int} {a1 : Int} {a2 : Int} {Q Q' : Int → cS → Prop} (hw : wc_W_worked s0 a0 a1 a2 Q) (hq : ∀ (e : Int) (A' : cS), ySm s0 A' [] [] → Q e A' → Q' e A') : wc_W_worked s0 a0 a1 a2 Q' := by
  unfold wc_W_worked at hw ⊢
  refine ⟨fun g1 => ?_, ?_⟩
  · have h3 := (hw.1) g1
    intro z4 e5 R6
    have h7 := h3 z4 e5 R6
    exact hq _ _ ySm.rf h7
  · skip
    refine ⟨fun g8 => ?_, ?_⟩
    · have h10 := (hw.2.1) g8
      intro z11 e12 R13
      have h14 := h10 z11 e12 R13
      exact hq _ _ ySm.rf h14
    · skip
      refine ⟨fun g15 => ?_, ?_⟩
      · have h17 := (hw.2.2.1) g15
        intro z18 e19 R20
        have h21 := h17 z18 e19 R20
        exact hq _ _ ySm.rf h21
      · skip
        refine ⟨fun g22 => ?_, ?_⟩
        · have h24 := (hw.2.2.2.1) g22
          refine ⟨fun c25 => ?_, fun c25 => ?_⟩
          · have h26 := h24.1 c25
            obtain ⟨o27, h28⟩ := h26
            refine ⟨o27, ?_⟩
            exact hq _ _ ySm.rf h28
          · have h29 := h24.2 c25
            exact hq _ _ ySm.rf h29
        · skip
          refine ⟨fun g30 => ?_, ?_⟩
          · have h32 := (hw.2.2.2.2.1) g30
            refine ⟨fun c33 => ?_, fun c33 => ?_⟩
            · have h34 := h32.1 c33
              exact hq _ _ ySm.rf h34
            · have h35 := h32.2 c33
              refine ⟨fun c36 => ?_, fun c36 => ?_⟩
              · have h37 := h35.1 c36
                exact hq _ _ ySm.rf h37
              · have h38 := h35.2 c36
                exact hq _ _ ySm.rf h38
          · skip
            refine ⟨fun g39 => ?_, ?_⟩
            · have h41 := (hw.2.2.2.2.2.1) g39
              refine ⟨fun c42 => ?_, fun c42 => ?_⟩
              · have h43 := h41.1 c42
                exact hq _ _ ySm.rf h43
              · have h44 := h41.2 c42
                refine ⟨fun c45 => ?_, fun c45 => ?_⟩
                · have h46 := h44.1 c45
                  exact hq _ _ ySm.rf h46
                · have h47 := h44.2 c45
                  exact hq _ _ ySm.rf h47
            · skip
              refine ⟨fun g48 => ?_, ?_⟩
              · have h50 := (hw.2.2.2.2.2.2.1) g48
                exact hq _ _ ySm.rf h50
              · skip
                refine ⟨fun g51 => ?_, ?_⟩
                · have h53 := (hw.2.2.2.2.2.2.2.1) g51
                  exact hq _ _ ySm.rf h53
                · skip
                  refine ⟨fun g54 => ?_, ?_⟩
                  · have h56 := (hw.2.2.2.2.2.2.2.2.1) g54
                    exact hq _ _ ySm.rf h56
                  · skip
                    refine ⟨fun g57 => ?_, ?_⟩
                    · have h59 := (hw.2.2.2.2.2.2.2.2.2.1) g57
                      refine ⟨fun c60 => ?_, fun c60 => ?_⟩
                      · have h61 := h59.1 c60
                        obtain ⟨o62, h63⟩ := h61
                        refine ⟨o62, ?_⟩
                        intro z64 e65 R66
                        have h67 := h63 z64 e65 R66
                        exact hq _ _ ySm.rf h67
                      · have h68 := h59.2 c60
                        exact hq _ _ ySm.rf h68
                    · skip
                      intro ng1 ng8 ng15 ng22 ng30 ng39 ng48 ng51 ng54 ng57
                      have h69 := hw.2.2.2.2.2.2.2.2.2.2 ng1 ng8 ng15 ng22 ng30 ng39 ng48 ng51 ng54 ng57
                      exact hq _ _ ySm.rf h69
theorem ffm_W_holds {s0 : cS} {a0 : Int} {a1 : Int} {a2 : Int} {Q Q' : Int → cS → Prop} (hw : wc_W_holds s0 a0 a1 a2 Q) (hq : ∀ (e : Int) (A' : cS), ySm s0 A' [] [] → Q e A' → Q' e A') : wc_W_holds s0 a0 a1 a2 Q' := by
  unfold wc_W_holds at hw ⊢
  refine ⟨fun g1 => ?_, ?_⟩
  · have h3 := (hw.1) g1
    refine ⟨fun c4 => ?_, fun c4 => ?_⟩
    · have h5 := h3.1 c4
      exact hq _ _ ySm.rf h5
    · have h6 := h3.2 c4
      exact hq _ _ ySm.rf h6
  · skip
    refine ⟨fun g7 => ?_, ?_⟩
    · have h9 := (hw.2.1) g7
      refine ⟨fun c10 => ?_, fun c10 => ?_⟩
      · have h11 := h9.1 c10
        exact hq _ _ ySm.rf h11
      · have h12 := h9.2 c10
        exact hq _ _ ySm.rf h12
    · skip
      refine ⟨fun g13 => ?_, ?_⟩
      · have h15 := (hw.2.2.1) g13
        refine ⟨fun c16 => ?_, fun c16 => ?_⟩
        · have h17 := h15.1 c16
          exact hq _ _ ySm.rf h17
        · have h18 := h15.2 c16
          exact hq _ _ ySm.rf h18
      · skip
        refine ⟨fun g19 => ?_, ?_⟩
        · have h21 := (hw.2.2.2.1) g19
          refine ⟨fun c22 => ?_, fun c22 => ?_⟩
          · have h23 := h21.1 c22
            exact hq _ _ ySm.rf h23
          · have h24 := h21.2 c22
            exact hq _ _ ySm.rf h24
        · skip
          refine ⟨fun g25 => ?_, ?_⟩
          · have h27 := (hw.2.2.2.2.1) g25
            refine ⟨fun c28 => ?_, fun c28 => ?_⟩
            · have h29 := h27.1 c28
              exact hq _ _ ySm.rf h29
            · have h30 := h27.2 c28
              exact hq _ _ ySm.rf h30
          · skip
            intro ng1 ng7 ng13 ng19 ng25
            have h31 := hw.2.2.2.2.2 ng1 ng7 ng13 ng19 ng25
            refine ⟨fun c32 => ?_, fun c32 => ?_⟩
            · have h33 := h31.1 c32
              exact hq _ _ ySm.rf h33
            · have h34 := h31.2 c32
              exact hq _ _ ySm.rf h34
theorem ffm_W_isRelation {s0 : cS} {a0 : Int} {Q Q' : Int → cS → Prop} (hw : wc_W_isRelation s0 a0 Q) (hq : ∀ (e : Int) (A' : cS), ySm s0 A' [] [] → Q e A' → Q' e A') : wc_W_isRelation s0 a0 Q' := by
  unfold wc_W_isRelation at hw ⊢
  refine ⟨fun c1 => ?_, fun c1 => ?_⟩
  · have h2 := hw.1 c1
    exact hq _ _ ySm.rf h2
  · have h3 := hw.2 c1
    refine ⟨fun c4 => ?_, fun c4 => ?_⟩
    · have h5 := h3.1 c4
      exact hq _ _ ySm.rf h5
    · have h6 := h3.2 c4
      exact hq _ _ ySm.rf h6
theorem ffm_W_power {s0 : cS} {a0 : Int} {Q Q' : Int → cS → Prop} (hw : wc_W_power s0 a0 Q) (hq : ∀ (e : Int) (A' : cS), ySm s0 A' [] [] → Q e A' → Q' e A') : wc_W_power s0 a0 Q' := by
  unfold wc_W_power at hw ⊢
  refine ⟨fun g1 => ?_, ?_⟩
  · have h3 := (hw.1) g1
    exact hq _ _ ySm.rf h3
  · skip
    refine ⟨fun g4 => ?_, ?_⟩
    · have h6 := (hw.2.1) g4
      exact hq _ _ ySm.rf h6
    · skip
      refine ⟨fun g7 => ?_, ?_⟩
      · have h9 := (hw.2.2.1) g7
        exact hq _ _ ySm.rf h9
      · skip
        refine ⟨fun g10 => ?_, ?_⟩
        · have h12 := (hw.2.2.2.1) g10
          exact hq _ _ ySm.rf h12
        · skip
          refine ⟨fun g13 => ?_, ?_⟩
          · have h15 := (hw.2.2.2.2.1) g13
            exact hq _ _ ySm.rf h15
          · skip
            refine ⟨fun g16 => ?_, ?_⟩
            · have h18 := (hw.2.2.2.2.2.1) g16
              exact hq _ _ ySm.rf h18
            · skip
              intro ng1 ng4 ng7 ng10 ng13 ng16
              have h19 := hw.2.2.2.2.2.2 ng1 ng4 ng7 ng10 ng13 ng16
              refine ffm_W_isRelation h19 (fun r20 A21 f1 h27 => ?_)
              refine ⟨fun c28 => ?_, fun c28 => ?_⟩
              · have h29 := h27.1 c28
                exact hq _ _ (ySm.rf.tr f1 rfl rfl) h29
              · have h30 := h27.2 c28
                exact hq _ _ (ySm.rf.tr f1 rfl rfl) h30
theorem ffm_W_isDivision {s0 : cS} {a0 : Int} {Q Q' : Int → cS → Prop} (hw : wc_W_isDivision s0 a0 Q) (hq : ∀ (e : Int) (A' : cS), ySm s0 A' [] [] → Q e A' → Q' e A') : wc_W_isDivision s0 a0 Q' := by
  unfold wc_W_isDivision at hw ⊢
  refine ⟨fun c1 => ?_, fun c1 => ?_⟩
  · have h2 := hw.1 c1
    exact hq _ _ ySm.rf h2
  · have h3 := hw.2 c1
    refine ⟨fun c4 => ?_, fun c4 => ?_⟩
    · have h5 := h3.1 c4
      exact hq _ _ ySm.rf h5
    · have h6 := h3.2 c4
      exact hq _ _ ySm.rf h6
theorem ffm_Scope_cut {s0 : cS} {a0 : Int} {Q Q' : cS → Prop} (hw : wc_Scope_cut s0 a0 Q) (hq : ∀ (A' : cS), ySm s0 A' [27, 28, 29, 30, 31] [] → Q A' → Q' A') : wc_Scope_cut s0 a0 Q' := by
  unfold wc_Scope_cut at hw ⊢
  exact hq _ (((((ySm.rf.cut rfl).cut rfl).cut rfl).cut rfl).cut rfl) hw
theorem ffm_Scope_put {s0 : cS} {a0 : Int} {a1 : Int} {a2 : Int} {a3 : Int} {a4 : Int} {Q Q' : Int → cS → Prop} (hw : wc_Scope_put s0 a0 a1 a2 a3 a4 Q) (hq : ∀ (e : Int) (A' : cS), ySm s0 A' [27, 28, 29, 30, 31] [] → Q e A' → Q' e A') : wc_Scope_put s0 a0 a1 a2 a3 a4 Q' := by
  unfold wc_Scope_put at hw ⊢
  obtain ⟨o5, h6⟩ := hw
  refine ⟨o5, ?_⟩
  obtain ⟨o11, h12⟩ := h6
  refine ⟨o11, ?_⟩
  obtain ⟨o17, h18⟩ := h12
  refine ⟨o17, ?_⟩
  obtain ⟨o23, h24⟩ := h18
  refine ⟨o23, ?_⟩
  obtain ⟨o29, h30⟩ := h24
  refine ⟨o29, ?_⟩
  obtain ⟨o31, h32⟩ := h30
  refine ⟨o31, ?_⟩
  exact hq _ _ (((((ySm.rf.add rfl).add rfl).add rfl).add rfl).add rfl) h32
theorem ffb_Scope_clear_20 {Q Q' : cS → Prop} {k20 k20' : cS → Int → Prop} {s0 : cS} {x1 : Int} (hq : ∀ (A' : cS), ySm s0 A' [27, 28, 29, 30, 31, 32] [37] → Q A' → Q' A') (fk20 : ∀ (A' : cS) (x0 : Int), ySm s0 A' [27, 28, 29, 30, 31, 32] [37] → k20 A' x0 → k20' A' x0) (hw : wc_Scope_clear_20B Q k20 s0 x1) : wc_Scope_clear_20B Q' k20' s0 x1 := by
  unfold wc_Scope_clear_20B at hw ⊢
  refine ⟨fun c1 => ?_, fun c1 => ?_⟩
  · have h2 := hw.1 c1
    exact hq _ ySm.rf h2
  · have h3 := hw.2 c1
    obtain ⟨o4, h5⟩ := h3
    refine ⟨o4, ?_⟩
    obtain ⟨o6, h7⟩ := h5
    refine ⟨o6, ?_⟩
    refine ffm_Scope_put h7 (fun r8 A9 f1 h15 => ?_)
    obtain ⟨o16, h17⟩ := h15
    refine ⟨o16, ?_⟩
    exact fk20 _ _ (ySm.rf.tr f1 rfl rfl) h17
theorem ffl_Scope_clear_200 {Q Q' : cS → Prop}  : ∀ (m : Nat) (s0 : cS) (x1 : Int), (∀ (A' : cS), ySm s0 A' [27, 28, 29, 30, 31, 32] [37] → Q A' → Q' A') → wc_Scope_clear_20 Q  m s0 x1 → wc_Scope_clear_20 Q'  m s0 x1 := by
  intro m
  induction m with
  | zero => intro s0 x1 hq  hw; exact hw
  | succ m ih => intro s0 x1 hq  hw; exact ffb_Scope_clear_20 hq  (fun A' y0 f1 q => ih A' y0 (fun A' f q => hq A' (f1.tr f rfl rfl) q)  q) hw
theorem ffm_Scope_clear {s0 : cS}  {Q Q' : cS → Prop} (hw : wc_Scope_clear s0  Q) (hq : ∀ (A' : cS), ySm s0 A' [27, 28, 29, 30, 31, 32] [37] → Q A' → Q' A') : wc_Scope_clear s0  Q' := by
  unfold wc_Scope_clear at hw ⊢
  refine ffm_Scope_cut hw (fun A2 f1 h8 => ?_)
  obtain ⟨m24, h25⟩ := h8
  exact ⟨m24, ffl_Scope_clear_200 m24 _ _ (fun A' f q => hq A' ((((ySm.rf.tr f1 rfl rfl).cut rfl).pv rfl).tr f rfl rfl) q)  h25⟩
theorem ffm_Scope_open {s0 : cS}  {Q Q' : cS → Prop} (hw : wc_Scope_open s0  Q) (hq : ∀ (A' : cS), ySm s0 A' [32] [37] → Q A' → Q' A') : wc_Scope_open s0  Q' := by
  unfold wc_Scope_open at hw ⊢
  obtain ⟨o5, h6⟩ := hw
  refine ⟨o5, ?_⟩
  exact hq _ ((ySm.rf.add rfl).pv rfl) h6
theorem ffm_Scope_close {s0 : cS}  {Q Q' : cS → Prop} (hw : wc_Scope_close s0  Q) (hq : ∀ (A' : cS), ySm s0 A' [27, 28, 29, 30, 31, 32] [37] → Q A' → Q' A') : wc_Scope_close s0  Q' := by
  unfold wc_Scope_close at hw ⊢
  refine ffm_Scope_cut hw (fun A2 f1 h8 => ?_)
  exact hq _ (((ySm.rf.tr f1 rfl rfl).pop rfl).pv rfl) h8
theorem ffb_Scope_declare_9 {Q Q' : Int → cS → Prop} {k9 k9' : cS → Int → Int → Int → Int → Int → Int → Int → Prop} {s0 : cS} {x1 : Int} {x2 : Int} {x3 : Int} {x4 : Int} {x5 : Int} {x6 : Int} {x7 : Int} (hq : ∀ (e : Int) (A' : cS), ySm s0 A' [27, 28, 29, 30, 31] [4, 5] → Q e A' → Q' e A') (fk9 : ∀ (A' : cS) (x0 : Int) (x1 : Int) (x2 : Int) (x3 : Int) (x4 : Int) (x5 : Int) (x6 : Int), ySm s0 A' [27, 28, 29, 30, 31] [4, 5] → k9 A' x0 x1 x2 x3 x4 x5 x6 → k9' A' x0 x1 x2 x3 x4 x5 x6) (hw : wc_Scope_declare_9B Q k9 s0 x1 x2 x3 x4 x5 x6 x7) : wc_Scope_declare_9B Q' k9' s0 x1 x2 x3 x4 x5 x6 x7 := by
  unfold wc_Scope_declare_9B at hw ⊢
  refine ⟨fun c1 => ?_, fun c1 => ?_⟩
  · have h2 := hw.1 c1
    refine ffm_Scope_put h2 (fun r3 A4 f1 h10 => ?_)
    exact hq _ _ (ySm.rf.tr f1 rfl rfl) h10
  · have h11 := hw.2 c1
    refine ⟨fun c12 => ?_, fun c12 => ?_⟩
    · have h13 := h11.1 c12
      obtain ⟨o14, h15⟩ := h13
      refine ⟨o14, ?_⟩
      exact fk9 _ _ _ _ _ _ _ _ ySm.rf h15
    · have h16 := h11.2 c12
      refine ffm_Program_blame h16 (fun A18 f2 h24 => ?_)
      refine ⟨fun c25 => ?_, fun c25 => ?_⟩
      · have h26 := h24.1 c25
        obtain ⟨o27, h28⟩ := h26
        refine ⟨o27, ?_⟩
        exact fk9 _ _ _ _ _ _ _ _ (ySm.rf.tr f2 rfl rfl) h28
      · have h29 := h24.2 c25
        obtain ⟨o30, h31⟩ := h29
        refine ⟨o30, ?_⟩
        exact fk9 _ _ _ _ _ _ _ _ (ySm.rf.tr f2 rfl rfl) h31
theorem ffl_Scope_declare_90 {Q Q' : Int → cS → Prop}  : ∀ (m : Nat) (s0 : cS) (x1 : Int) (x2 : Int) (x3 : Int) (x4 : Int) (x5 : Int) (x6 : Int) (x7 : Int), (∀ (e : Int) (A' : cS), ySm s0 A' [27, 28, 29, 30, 31] [4, 5] → Q e A' → Q' e A') → wc_Scope_declare_9 Q  m s0 x1 x2 x3 x4 x5 x6 x7 → wc_Scope_declare_9 Q'  m s0 x1 x2 x3 x4 x5 x6 x7 := by
  intro m
  induction m with
  | zero => intro s0 x1 x2 x3 x4 x5 x6 x7 hq  hw; exact hw
  | succ m ih => intro s0 x1 x2 x3 x4 x5 x6 x7 hq  hw; exact ffb_Scope_declare_9 hq  (fun A' y0 y1 y2 y3 y4 y5 y6 f1 q => ih A' y0 y1 y2 y3 y4 y5 y6 (fun e A' f q => hq e A' (f1.tr f rfl rfl) q)  q) hw
theorem ffm_Scope_declare {s0 : cS} {a0 : Int} {a1 : Int} {a2 : Int} {a3 : Int} {a4 : Int} {Q Q' : Int → cS → Prop} (hw : wc_Scope_declare s0 a0 a1 a2 a3 a4 Q) (hq : ∀ (e : Int) (A' : cS), ySm s0 A' [27, 28, 29, 30, 31] [4, 5] → Q e A' → Q' e A') : wc_Scope_declare s0 a0 a1 a2 a3 a4 Q' := by
  unfold wc_Scope_declare at hw ⊢
  obtain ⟨m1, h2⟩ := hw
  exact ⟨m1, ffl_Scope_declare_90 m1 _ _ _ _ _ _ _ _ (fun e A' f q => hq e A' (ySm.rf.tr f rfl rfl) q)  h2⟩
theorem ffb_Scope_find_10 {Q Q' : Int → cS → Prop} {k10 k10' : cS → Int → Int → Prop} {s0 : cS} {x1 : Int} {x2 : Int} (hq : ∀ (e : Int) (A' : cS), ySm s0 A' [] [] → Q e A' → Q' e A') (fk10 : ∀ (A' : cS) (x0 : Int) (x1 : Int), ySm s0 A' [] [] → k10 A' x0 x1 → k10' A' x0 x1) (hw : wc_Scope_find_10B Q k10 s0 x1 x2) : wc_Scope_find_10B Q' k10' s0 x1 x2 := by
  unfold wc_Scope_find_10B at hw ⊢
  refine ⟨fun c1 => ?_, fun c1 => ?_⟩
  · have h2 := hw.1 c1
    exact hq _ _ ySm.rf h2
  · have h3 := hw.2 c1
    refine ⟨fun c4 => ?_, fun c4 => ?_⟩
    · have h5 := h3.1 c4
      obtain ⟨o6, h7⟩ := h5
      refine ⟨o6, ?_⟩
      exact fk10 _ _ _ ySm.rf h7
    · have h8 := h3.2 c4
      exact hq _ _ ySm.rf h8
theorem ffl_Scope_find_100 {Q Q' : Int → cS → Prop}  : ∀ (m : Nat) (s0 : cS) (x1 : Int) (x2 : Int), (∀ (e : Int) (A' : cS), ySm s0 A' [] [] → Q e A' → Q' e A') → wc_Scope_find_10 Q  m s0 x1 x2 → wc_Scope_find_10 Q'  m s0 x1 x2 := by
  intro m
  induction m with
  | zero => intro s0 x1 x2 hq  hw; exact hw
  | succ m ih => intro s0 x1 x2 hq  hw; exact ffb_Scope_find_10 hq  (fun A' y0 y1 f1 q => ih A' y0 y1 (fun e A' f q => hq e A' (f1.tr f rfl rfl) q)  q) hw
theorem ffm_Scope_find {s0 : cS} {a0 : Int} {Q Q' : Int → cS → Prop} (hw : wc_Scope_find s0 a0 Q) (hq : ∀ (e : Int) (A' : cS), ySm s0 A' [] [] → Q e A' → Q' e A') : wc_Scope_find s0 a0 Q' := by
  unfold wc_Scope_find at hw ⊢
  obtain ⟨o1, h2⟩ := hw
  refine ⟨o1, ?_⟩
  obtain ⟨m3, h4⟩ := h2
  exact ⟨m3, ffl_Scope_find_100 m3 _ _ _ (fun e A' f q => hq e A' (ySm.rf.tr f rfl rfl) q)  h4⟩
theorem ffm_Scope_kind {s0 : cS} {a0 : Int} {Q Q' : Int → cS → Prop} (hw : wc_Scope_kind s0 a0 Q) (hq : ∀ (e : Int) (A' : cS), ySm s0 A' [] [] → Q e A' → Q' e A') : wc_Scope_kind s0 a0 Q' := by
  unfold wc_Scope_kind at hw ⊢
  exact hq _ _ ySm.rf hw
theorem ffm_Scope_data {s0 : cS} {a0 : Int} {Q Q' : Int → cS → Prop} (hw : wc_Scope_data s0 a0 Q) (hq : ∀ (e : Int) (A' : cS), ySm s0 A' [] [] → Q e A' → Q' e A') : wc_Scope_data s0 a0 Q' := by
  unfold wc_Scope_data at hw ⊢
  exact hq _ _ ySm.rf hw
theorem ffm_Scope_owner {s0 : cS} {a0 : Int} {Q Q' : Int → cS → Prop} (hw : wc_Scope_owner s0 a0 Q) (hq : ∀ (e : Int) (A' : cS), ySm s0 A' [] [] → Q e A' → Q' e A') : wc_Scope_owner s0 a0 Q' := by
  unfold wc_Scope_owner at hw ⊢
  exact hq _ _ ySm.rf hw
theorem ffm_Scope_place {s0 : cS} {a0 : Int} {Q Q' : Int → cS → Prop} (hw : wc_Scope_place s0 a0 Q) (hq : ∀ (e : Int) (A' : cS), ySm s0 A' [] [] → Q e A' → Q' e A') : wc_Scope_place s0 a0 Q' := by
  unfold wc_Scope_place at hw ⊢
  exact hq _ _ ySm.rf hw
theorem ffm_Scope_setData {s0 : cS} {a0 : Int} {a1 : Int} {Q Q' : cS → Prop} (hw : wc_Scope_setData s0 a0 a1 Q) (hq : ∀ (A' : cS), ySm s0 A' [29] [] → Q A' → Q' A') : wc_Scope_setData s0 a0 a1 Q' := by
  unfold wc_Scope_setData at hw ⊢
  exact hq _ (ySm.rf.set rfl) hw
theorem ffm_Scope_setOwner {s0 : cS} {a0 : Int} {a1 : Int} {Q Q' : cS → Prop} (hw : wc_Scope_setOwner s0 a0 a1 Q) (hq : ∀ (A' : cS), ySm s0 A' [30] [] → Q A' → Q' A') : wc_Scope_setOwner s0 a0 a1 Q' := by
  unfold wc_Scope_setOwner at hw ⊢
  exact hq _ (ySm.rf.set rfl) hw
theorem ffb_Scanner_isAlike_62 {Q Q' : Int → cS → Prop} {k62 k62' : cS → Int → Int → Int → Int → Prop} {s0 : cS} {x3 : Int} {x4 : Int} {x5 : Int} {x7 : Int} (hq : ∀ (e : Int) (A' : cS), ySm s0 A' [] [] → Q e A' → Q' e A') (fk62 : ∀ (A' : cS) (x0 : Int) (x1 : Int) (x2 : Int) (x3 : Int), ySm s0 A' [] [] → k62 A' x0 x1 x2 x3 → k62' A' x0 x1 x2 x3) (hw : wc_Scanner_isAlike_62B Q k62 s0 x3 x4 x5 x7) : wc_Scanner_isAlike_62B Q' k62' s0 x3 x4 x5 x7 := by
  unfold wc_Scanner_isAlike_62B at hw ⊢
  obtain ⟨o1, h2⟩ := hw
  refine ⟨o1, ?_⟩
  refine ⟨fun c3 => ?_, fun c3 => ?_⟩
  · have h4 := h2.1 c3
    exact hq _ _ ySm.rf h4
  · have h5 := h2.2 c3
    intro z6 e7 R8
    have h9 := h5 z6 e7 R8
    obtain ⟨o10, h11⟩ := h9
    refine ⟨o10, ?_⟩
    refine ⟨fun c12 => ?_, fun c12 => ?_⟩
    · have h13 := h11.1 c12
      obtain ⟨o14, h15⟩ := h13
      refine ⟨o14, ?_⟩
      exact fk62 _ _ _ _ _ ySm.rf h15
    · have h16 := h11.2 c12
      exact hq _ _ ySm.rf h16
theorem ffl_Scanner_isAlike_620 {Q Q' : Int → cS → Prop}  : ∀ (m : Nat) (s0 : cS) (x3 : Int) (x4 : Int) (x5 : Int) (x7 : Int), (∀ (e : Int) (A' : cS), ySm s0 A' [] [] → Q e A' → Q' e A') → wc_Scanner_isAlike_62 Q  m s0 x3 x4 x5 x7 → wc_Scanner_isAlike_62 Q'  m s0 x3 x4 x5 x7 := by
  intro m
  induction m with
  | zero => intro s0 x3 x4 x5 x7 hq  hw; exact hw
  | succ m ih => intro s0 x3 x4 x5 x7 hq  hw; exact ffb_Scanner_isAlike_62 hq  (fun A' y0 y1 y2 y3 f1 q => ih A' y0 y1 y2 y3 (fun e A' f q => hq e A' (f1.tr f rfl rfl) q)  q) hw
theorem ffm_Scanner_isAlike {s0 : cS} {a0 : Int} {a2 : Int} {a3 : Int} {Q Q' : Int → cS → Prop} (hw : wc_Scanner_isAlike s0 a0 a2 a3 Q) (hq : ∀ (e : Int) (A' : cS), ySm s0 A' [] [] → Q e A' → Q' e A') : wc_Scanner_isAlike s0 a0 a2 a3 Q' := by
  unfold wc_Scanner_isAlike at hw ⊢
  obtain ⟨o1, h2⟩ := hw
  refine ⟨o1, ?_⟩
  refine ⟨fun c3 => ?_, fun c3 => ?_⟩
  · have h4 := h2.1 c3
    intro z5 e6 R7
    have h8 := h4 z5 e6 R7
    obtain ⟨o9, h10⟩ := h8
    refine ⟨o9, ?_⟩
    refine ⟨fun c11 => ?_, fun c11 => ?_⟩
    · have h12 := h10.1 c11
      obtain ⟨m13, h14⟩ := h12
      exact ⟨m13, ffl_Scanner_isAlike_620 m13 _ _ _ _ _ (fun e A' f q => hq e A' (ySm.rf.tr f rfl rfl) q)  h14⟩
    · have h15 := h10.2 c11
      exact hq _ _ ySm.rf h15
  · have h16 := h2.2 c3
    intro z17 e18 R19
    have h20 := h16 z17 e18 R19
    obtain ⟨o21, h22⟩ := h20
    refine ⟨o21, ?_⟩
    refine ⟨fun c23 => ?_, fun c23 => ?_⟩
    · have h24 := h22.1 c23
      obtain ⟨m25, h26⟩ := h24
      exact ⟨m25, ffl_Scanner_isAlike_620 m25 _ _ _ _ _ (fun e A' f q => hq e A' (ySm.rf.tr f rfl rfl) q)  h26⟩
    · have h27 := h22.2 c23
      exact hq _ _ ySm.rf h27
theorem ffb_Scanner_idOf_110 {Q Q' : Int → cS → Prop} {k110 k110' : cS → Int → Int → Prop} {s0 : cS} {x3 : Int} {x5 : Int} (hq : ∀ (e : Int) (A' : cS), ySm s0 A' [18, 19, 20] [] → Q e A' → Q' e A') (fk110 : ∀ (A' : cS) (x0 : Int) (x1 : Int), ySm s0 A' [18, 19, 20] [] → k110 A' x0 x1 → k110' A' x0 x1) (hw : wc_Scanner_idOf_110B Q k110 s0 x3 x5) : wc_Scanner_idOf_110B Q' k110' s0 x3 x5 := by
  unfold wc_Scanner_idOf_110B at hw ⊢
  refine ⟨fun c1 => ?_, fun c1 => ?_⟩
  · have h2 := hw.1 c1
    obtain ⟨o3, h4⟩ := h2
    refine ⟨o3, ?_⟩
    exact hq _ _ ySm.rf h4
  · have h5 := hw.2 c1
    obtain ⟨o10, h11⟩ := h5
    refine ⟨o10, ?_⟩
    obtain ⟨o12, h13⟩ := h11
    refine ⟨o12, ?_⟩
    exact fk110 _ _ _ (ySm.rf.add rfl) h13
theorem ffl_Scanner_idOf_1100 {Q Q' : Int → cS → Prop}  : ∀ (m : Nat) (s0 : cS) (x3 : Int) (x5 : Int), (∀ (e : Int) (A' : cS), ySm s0 A' [18, 19, 20] [] → Q e A' → Q' e A') → wc_Scanner_idOf_110 Q  m s0 x3 x5 → wc_Scanner_idOf_110 Q'  m s0 x3 x5 := by
  intro m
  induction m with
  | zero => intro s0 x3 x5 hq  hw; exact hw
  | succ m ih => intro s0 x3 x5 hq  hw; exact ffb_Scanner_idOf_110 hq  (fun A' y0 y1 f1 q => ih A' y0 y1 (fun e A' f q => hq e A' (f1.tr f rfl rfl) q)  q) hw
theorem ffb_Scanner_idOf_37 {Q Q' : Int → cS → Prop} {k37 k37' : cS → Int → Int → Int → Int → Prop} {s0 : cS} {x2 : Int} {x3 : Int} {x4 : Int} {x5 : Int} (hq : ∀ (e : Int) (A' : cS), ySm s0 A' [18, 19, 20] [] → Q e A' → Q' e A') (fk37 : ∀ (A' : cS) (x0 : Int) (x1 : Int) (x2 : Int) (x3 : Int), ySm s0 A' [18, 19, 20] [] → k37 A' x0 x1 x2 x3 → k37' A' x0 x1 x2 x3) (hw : wc_Scanner_idOf_37B Q k37 s0 x2 x3 x4 x5) : wc_Scanner_idOf_37B Q' k37' s0 x2 x3 x4 x5 := by
  unfold wc_Scanner_idOf_37B at hw ⊢
  refine ⟨fun c1 => ?_, fun c1 => ?_⟩
  · have h2 := hw.1 c1
    obtain ⟨o7, h8⟩ := h2
    refine ⟨o7, ?_⟩
    obtain ⟨o13, h14⟩ := h8
    refine ⟨o13, ?_⟩
    obtain ⟨m15, h16⟩ := h14
    exact ⟨m15, ffl_Scanner_idOf_1100 m15 _ _ _ (fun e A' f q => hq e A' (((ySm.rf.add rfl).add rfl).tr f rfl rfl) q)  h16⟩
  · have h17 := hw.2 c1
    refine ⟨fun c18 => ?_, fun c18 => ?_⟩
    · have h19 := h17.1 c18
      obtain ⟨o20, h21⟩ := h19
      refine ⟨o20, ?_⟩
      exact fk37 _ _ _ _ _ ySm.rf h21
    · have h22 := h17.2 c18
      refine ffm_Scanner_isAlike h22 (fun r23 A24 f1 h30 => ?_)
      refine ⟨fun c31 => ?_, fun c31 => ?_⟩
      · have h32 := h30.1 c31
        obtain ⟨o33, h34⟩ := h32
        refine ⟨o33, ?_⟩
        exact fk37 _ _ _ _ _ (ySm.rf.tr f1 rfl rfl) h34
      · have h35 := h30.2 c31
        exact hq _ _ (ySm.rf.tr f1 rfl rfl) h35
theorem ffl_Scanner_idOf_370 {Q Q' : Int → cS → Prop}  : ∀ (m : Nat) (s0 : cS) (x2 : Int) (x3 : Int) (x4 : Int) (x5 : Int), (∀ (e : Int) (A' : cS), ySm s0 A' [18, 19, 20] [] → Q e A' → Q' e A') → wc_Scanner_idOf_37 Q  m s0 x2 x3 x4 x5 → wc_Scanner_idOf_37 Q'  m s0 x2 x3 x4 x5 := by
  intro m
  induction m with
  | zero => intro s0 x2 x3 x4 x5 hq  hw; exact hw
  | succ m ih => intro s0 x2 x3 x4 x5 hq  hw; exact ffb_Scanner_idOf_37 hq  (fun A' y0 y1 y2 y3 f1 q => ih A' y0 y1 y2 y3 (fun e A' f q => hq e A' (f1.tr f rfl rfl) q)  q) hw
theorem ffb_Scanner_idOf_8 {Q Q' : Int → cS → Prop} {k8 k8' : cS → Int → Int → Int → Int → Prop} {s0 : cS} {x2 : Int} {x3 : Int} {x4 : Int} {x5 : Int} (hq : ∀ (e : Int) (A' : cS), ySm s0 A' [18, 19, 20] [] → Q e A' → Q' e A') (fk8 : ∀ (A' : cS) (x0 : Int) (x1 : Int) (x2 : Int) (x3 : Int), ySm s0 A' [18, 19, 20] [] → k8 A' x0 x1 x2 x3 → k8' A' x0 x1 x2 x3) (hw : wc_Scanner_idOf_8B Q k8 s0 x2 x3 x4 x5) : wc_Scanner_idOf_8B Q' k8' s0 x2 x3 x4 x5 := by
  unfold wc_Scanner_idOf_8B at hw ⊢
  refine ⟨fun c1 => ?_, fun c1 => ?_⟩
  · have h2 := hw.1 c1
    obtain ⟨m3, h4⟩ := h2
    exact ⟨m3, ffl_Scanner_idOf_370 m3 _ _ _ _ _ (fun e A' f q => hq e A' (ySm.rf.tr f rfl rfl) q)  h4⟩
  · have h5 := hw.2 c1
    intro z6 e7 R8
    have h9 := h5 z6 e7 R8
    obtain ⟨o10, h11⟩ := h9
    refine ⟨o10, ?_⟩
    exact fk8 _ _ _ _ _ ySm.rf h11
theorem ffl_Scanner_idOf_80 {Q Q' : Int → cS → Prop}  : ∀ (m : Nat) (s0 : cS) (x2 : Int) (x3 : Int) (x4 : Int) (x5 : Int), (∀ (e : Int) (A' : cS), ySm s0 A' [18, 19, 20] [] → Q e A' → Q' e A') → wc_Scanner_idOf_8 Q  m s0 x2 x3 x4 x5 → wc_Scanner_idOf_8 Q'  m s0 x2 x3 x4 x5 := by
  intro m
  induction m with
  | zero => intro s0 x2 x3 x4 x5 hq  hw; exact hw
  | succ m ih => intro s0 x2 x3 x4 x5 hq  hw; exact ffb_Scanner_idOf_8 hq  (fun A' y0 y1 y2 y3 f1 q => ih A' y0 y1 y2 y3 (fun e A' f q => hq e A' (f1.tr f rfl rfl) q)  q) hw
theorem ffm_Scanner_idOf {s0 : cS} {a1 : Int} {a2 : Int} {Q Q' : Int → cS → Prop} (hw : wc_Scanner_idOf s0 a1 a2 Q) (hq : ∀ (e : Int) (A' : cS), ySm s0 A' [18, 19, 20] [] → Q e A' → Q' e A') : wc_Scanner_idOf s0 a1 a2 Q' := by
  unfold wc_Scanner_idOf at hw ⊢
  obtain ⟨o1, h2⟩ := hw
  refine ⟨o1, ?_⟩
  obtain ⟨m3, h4⟩ := h2
  exact ⟨m3, ffl_Scanner_idOf_80 m3 _ _ _ _ _ (fun e A' f q => hq e A' (ySm.rf.tr f rfl rfl) q)  h4⟩
theorem ffb_Scanner_skipLine_2 {Q Q' : cS → Prop} {k2 k2' : cS → Int → Prop} {s0 : cS} {x1 : Int} (hq : ∀ (A' : cS), ySm s0 A' [] [8] → Q A' → Q' A') (fk2 : ∀ (A' : cS) (x0 : Int), ySm s0 A' [] [8] → k2 A' x0 → k2' A' x0) (hw : wc_Scanner_skipLine_2B Q k2 s0 x1) : wc_Scanner_skipLine_2B Q' k2' s0 x1 := by
  unfold wc_Scanner_skipLine_2B at hw ⊢
  refine ⟨fun c1 => ?_, fun c1 => ?_⟩
  · have h2 := hw.1 c1
    exact hq _ ySm.rf h2
  · have h3 := hw.2 c1
    refine ⟨fun c4 => ?_, fun c4 => ?_⟩
    · have h5 := h3.1 c4
      exact hq _ ySm.rf h5
    · have h6 := h3.2 c4
      refine ⟨fun c7 => ?_, fun c7 => ?_⟩
      · have h8 := h6.1 c7
        exact hq _ ySm.rf h8
      · have h9 := h6.2 c7
        obtain ⟨o10, h11⟩ := h9
        refine ⟨o10, ?_⟩
        obtain ⟨o23, h24⟩ := h11
        refine ⟨o23, ?_⟩
        exact fk2 _ _ (ySm.rf.pv rfl) h24
theorem ffl_Scanner_skipLine_20 {Q Q' : cS → Prop}  : ∀ (m : Nat) (s0 : cS) (x1 : Int), (∀ (A' : cS), ySm s0 A' [] [8] → Q A' → Q' A') → wc_Scanner_skipLine_2 Q  m s0 x1 → wc_Scanner_skipLine_2 Q'  m s0 x1 := by
  intro m
  induction m with
  | zero => intro s0 x1 hq  hw; exact hw
  | succ m ih => intro s0 x1 hq  hw; exact ffb_Scanner_skipLine_2 hq  (fun A' y0 f1 q => ih A' y0 (fun A' f q => hq A' (f1.tr f rfl rfl) q)  q) hw
theorem ffm_Scanner_skipLine {s0 : cS}  {Q Q' : cS → Prop} (hw : wc_Scanner_skipLine s0  Q) (hq : ∀ (A' : cS), ySm s0 A' [] [8] → Q A' → Q' A') : wc_Scanner_skipLine s0  Q' := by
  unfold wc_Scanner_skipLine at hw ⊢
  obtain ⟨m1, h2⟩ := hw
  exact ⟨m1, ffl_Scanner_skipLine_20 m1 _ _ (fun A' f q => hq A' (ySm.rf.tr f rfl rfl) q)  h2⟩
theorem ffj_Scanner_pass_70 {Q Q' : cS → Prop} {k2 k2' : cS → Int → Prop} {s0 : cS} {x1 : Int} {x2 : Int} (hq : ∀ (A' : cS), ySm s0 A' [] [8, 9] → Q A' → Q' A') (fk2 : ∀ (A' : cS) (x0 : Int), ySm s0 A' [] [8, 9] → k2 A' x0 → k2' A' x0) (hw : wc_Scanner_pass_70 Q k2 s0 x1 x2) : wc_Scanner_pass_70 Q' k2' s0 x1 x2 := by
  unfold wc_Scanner_pass_70 at hw ⊢
  refine ⟨fun c1 => ?_, fun c1 => ?_⟩
  · have h2 := hw.1 c1
    refine ⟨fun c3 => ?_, fun c3 => ?_⟩
    · have h4 := h2.1 c3
      obtain ⟨o5, h6⟩ := h4
      refine ⟨o5, ?_⟩
      obtain ⟨o18, h19⟩ := h6
      refine ⟨o18, ?_⟩
      exact fk2 _ _ (ySm.rf.pv rfl) h19
    · have h20 := h2.2 c3
      refine ⟨fun c21 => ?_, fun c21 => ?_⟩
      · have h22 := h20.1 c21
        obtain ⟨o23, h24⟩ := h22
        refine ⟨o23, ?_⟩
        obtain ⟨o36, h37⟩ := h24
        refine ⟨o36, ?_⟩
        exact fk2 _ _ (ySm.rf.pv rfl) h37
      · have h38 := h20.2 c21
        refine ⟨fun c39 => ?_, fun c39 => ?_⟩
        · have h40 := h38.1 c39
          exact hq _ ySm.rf h40
        · have h41 := h38.2 c39
          obtain ⟨o42, h43⟩ := h41
          refine ⟨o42, ?_⟩
          obtain ⟨o55, h56⟩ := h43
          refine ⟨o55, ?_⟩
          exact fk2 _ _ (ySm.rf.pv rfl) h56
  · have h57 := hw.2 c1
    obtain ⟨o69, h70⟩ := h57
    refine ⟨o69, ?_⟩
    obtain ⟨o82, h83⟩ := h70
    refine ⟨o82, ?_⟩
    exact fk2 _ _ ((ySm.rf.pv rfl).pv rfl) h83
theorem ffb_Scanner_pass_2 {Q Q' : cS → Prop} {k2 k2' : cS → Int → Prop} {s0 : cS} {x1 : Int} (hq : ∀ (A' : cS), ySm s0 A' [] [8, 9] → Q A' → Q' A') (fk2 : ∀ (A' : cS) (x0 : Int), ySm s0 A' [] [8, 9] → k2 A' x0 → k2' A' x0) (hw : wc_Scanner_pass_2B Q k2 s0 x1) : wc_Scanner_pass_2B Q' k2' s0 x1 := by
  unfold wc_Scanner_pass_2B at hw ⊢
  refine ⟨fun c1 => ?_, fun c1 => ?_⟩
  · have h2 := hw.1 c1
    exact hq _ ySm.rf h2
  · have h3 := hw.2 c1
    refine ⟨fun c4 => ?_, fun c4 => ?_⟩
    · have h5 := h3.1 c4
      exact hq _ ySm.rf h5
    · have h6 := h3.2 c4
      refine ⟨fun c7 => ?_, fun c7 => ?_⟩
      · have h8 := h6.1 c7
        exact ffj_Scanner_pass_70 (fun A' f q => hq A' (ySm.rf.tr f rfl rfl) q) (fun A' x0 f q => fk2 A' x0 (ySm.rf.tr f rfl rfl) q) h8
      · have h9 := h6.2 c7
        obtain ⟨o10, h11⟩ := h9
        refine ⟨o10, ?_⟩
        refine ⟨fun c12 => ?_, fun c12 => ?_⟩
        · have h13 := h11.1 c12
          exact ffj_Scanner_pass_70 (fun A' f q => hq A' (ySm.rf.tr f rfl rfl) q) (fun A' x0 f q => fk2 A' x0 (ySm.rf.tr f rfl rfl) q) h13
        · have h14 := h11.2 c12
          refine ffm_Scanner_skipLine h14 (fun A16 f1 h22 => ?_)
          obtain ⟨o23, h24⟩ := h22
          refine ⟨o23, ?_⟩
          exact fk2 _ _ (ySm.rf.tr f1 rfl rfl) h24
theorem ffl_Scanner_pass_20 {Q Q' : cS → Prop}  : ∀ (m : Nat) (s0 : cS) (x1 : Int), (∀ (A' : cS), ySm s0 A' [] [8, 9] → Q A' → Q' A') → wc_Scanner_pass_2 Q  m s0 x1 → wc_Scanner_pass_2 Q'  m s0 x1 := by
  intro m
  induction m with
  | zero => intro s0 x1 hq  hw; exact hw
  | succ m ih => intro s0 x1 hq  hw; exact ffb_Scanner_pass_2 hq  (fun A' y0 f1 q => ih A' y0 (fun A' f q => hq A' (f1.tr f rfl rfl) q)  q) hw
theorem ffm_Scanner_pass {s0 : cS}  {Q Q' : cS → Prop} (hw : wc_Scanner_pass s0  Q) (hq : ∀ (A' : cS), ySm s0 A' [] [8, 9] → Q A' → Q' A') : wc_Scanner_pass s0  Q' := by
  unfold wc_Scanner_pass at hw ⊢
  obtain ⟨m1, h2⟩ := hw
  exact ⟨m1, ffl_Scanner_pass_20 m1 _ _ (fun A' f q => hq A' (ySm.rf.tr f rfl rfl) q)  h2⟩
theorem ffm_Scanner_mayEnd {s0 : cS} {a0 : Int} {Q Q' : Int → cS → Prop} (hw : wc_Scanner_mayEnd s0 a0 Q) (hq : ∀ (e : Int) (A' : cS), ySm s0 A' [] [] → Q e A' → Q' e A') : wc_Scanner_mayEnd s0 a0 Q' := by
  unfold wc_Scanner_mayEnd at hw ⊢
  refine ⟨fun g1 => ?_, ?_⟩
  · have h3 := (hw.1) g1
    exact hq _ _ ySm.rf h3
  · skip
    intro ng1
    have h4 := hw.2 ng1
    exact hq _ _ ySm.rf h4
theorem ffj_Scanner_mayBegin_74 {Q Q' : Int → cS → Prop}  {s0 : cS} {x0 : Int} (hq : ∀ (e : Int) (A' : cS), ySm s0 A' [] [] → Q e A' → Q' e A')  (hw : wc_Scanner_mayBegin_74 Q  s0 x0) : wc_Scanner_mayBegin_74 Q'  s0 x0 := by
  unfold wc_Scanner_mayBegin_74 at hw ⊢
  refine ⟨fun c1 => ?_, fun c1 => ?_⟩
  · have h2 := hw.1 c1
    exact hq _ _ ySm.rf h2
  · have h3 := hw.2 c1
    refine ⟨fun c4 => ?_, fun c4 => ?_⟩
    · have h5 := h3.1 c4
      exact hq _ _ ySm.rf h5
    · have h6 := h3.2 c4
      exact hq _ _ ySm.rf h6
theorem ffm_Scanner_mayBegin {s0 : cS} {a0 : Int} {Q Q' : Int → cS → Prop} (hw : wc_Scanner_mayBegin s0 a0 Q) (hq : ∀ (e : Int) (A' : cS), ySm s0 A' [] [] → Q e A' → Q' e A') : wc_Scanner_mayBegin s0 a0 Q' := by
  unfold wc_Scanner_mayBegin at hw ⊢
  refine ⟨fun g1 => ?_, ?_⟩
  · have h3 := (hw.1) g1
    exact hq _ _ ySm.rf h3
  · skip
    intro ng1
    have h4 := hw.2 ng1
    exact ffj_Scanner_mayBegin_74 (fun e A' f q => hq e A' (ySm.rf.tr f rfl rfl) q)  h4
theorem ffj_Scanner_put_52 {Q Q' : cS → Prop}  {s0 : cS} {x1 : Int} {x2 : Int} {x3 : Int} (hq : ∀ (A' : cS), ySm s0 A' [14, 15, 16] [9] → Q A' → Q' A')  (hw : wc_Scanner_put_52 Q  s0 x1 x2 x3) : wc_Scanner_put_52 Q'  s0 x1 x2 x3 := by
  unfold wc_Scanner_put_52 at hw ⊢
  obtain ⟨o16, h17⟩ := hw
  refine ⟨o16, ?_⟩
  obtain ⟨o22, h23⟩ := h17
  refine ⟨o22, ?_⟩
  obtain ⟨o28, h29⟩ := h23
  refine ⟨o28, ?_⟩
  exact hq _ ((((ySm.rf.pv rfl).add rfl).add rfl).add rfl) h29
theorem ffm_Scanner_put {s0 : cS} {a0 : Int} {a1 : Int} {a2 : Int} {Q Q' : cS → Prop} (hw : wc_Scanner_put s0 a0 a1 a2 Q) (hq : ∀ (A' : cS), ySm s0 A' [14, 15, 16] [9] → Q A' → Q' A') : wc_Scanner_put s0 a0 a1 a2 Q' := by
  unfold wc_Scanner_put at hw ⊢
  refine ⟨fun c1 => ?_, fun c1 => ?_⟩
  · have h2 := hw.1 c1
    exact ffj_Scanner_put_52 (fun A' f q => hq A' (ySm.rf.tr f rfl rfl) q)  h2
  · have h3 := hw.2 c1
    refine ffm_Scanner_mayEnd h3 (fun r4 A5 f1 h11 => ?_)
    refine ⟨fun c12 => ?_, fun c12 => ?_⟩
    · have h13 := h11.1 c12
      exact ffj_Scanner_put_52 (fun A' f q => hq A' ((ySm.rf.tr f1 rfl rfl).tr f rfl rfl) q)  h13
    · have h14 := h11.2 c12
      refine ffm_Scanner_mayBegin h14 (fun r15 A16 f2 h22 => ?_)
      refine ⟨fun c23 => ?_, fun c23 => ?_⟩
      · have h24 := h22.1 c23
        exact ffj_Scanner_put_52 (fun A' f q => hq A' (((ySm.rf.tr f1 rfl rfl).tr f2 rfl rfl).tr f rfl rfl) q)  h24
      · have h25 := h22.2 c23
        obtain ⟨o30, h31⟩ := h25
        refine ⟨o30, ?_⟩
        obtain ⟨o36, h37⟩ := h31
        refine ⟨o36, ?_⟩
        obtain ⟨o42, h43⟩ := h37
        refine ⟨o42, ?_⟩
        exact ffj_Scanner_put_52 (fun A' f q => hq A' ((((((ySm.rf.tr f1 rfl rfl).tr f2 rfl rfl).add rfl).add rfl).add rfl).tr f rfl rfl) q)  h43
theorem ffm_Scanner_isLetter {s0 : cS} {a0 : Int} {Q Q' : Int → cS → Prop} (hw : wc_Scanner_isLetter s0 a0 Q) (hq : ∀ (e : Int) (A' : cS), ySm s0 A' [] [] → Q e A' → Q' e A') : wc_Scanner_isLetter s0 a0 Q' := by
  unfold wc_Scanner_isLetter at hw ⊢
  refine ⟨fun c1 => ?_, fun c1 => ?_⟩
  · have h2 := hw.1 c1
    refine ⟨fun c3 => ?_, fun c3 => ?_⟩
    · have h4 := h2.1 c3
      exact hq _ _ ySm.rf h4
    · have h5 := h2.2 c3
      refine ⟨fun c6 => ?_, fun c6 => ?_⟩
      · have h7 := h5.1 c6
        exact hq _ _ ySm.rf h7
      · have h8 := h5.2 c6
        exact hq _ _ ySm.rf h8
  · have h9 := hw.2 c1
    refine ⟨fun c10 => ?_, fun c10 => ?_⟩
    · have h11 := h9.1 c10
      exact hq _ _ ySm.rf h11
    · have h12 := h9.2 c10
      refine ⟨fun c13 => ?_, fun c13 => ?_⟩
      · have h14 := h12.1 c13
        exact hq _ _ ySm.rf h14
      · have h15 := h12.2 c13
        refine ⟨fun c16 => ?_, fun c16 => ?_⟩
        · have h17 := h15.1 c16
          exact hq _ _ ySm.rf h17
        · have h18 := h15.2 c16
          exact hq _ _ ySm.rf h18
theorem ffm_Scanner_isDigit {s0 : cS} {a0 : Int} {Q Q' : Int → cS → Prop} (hw : wc_Scanner_isDigit s0 a0 Q) (hq : ∀ (e : Int) (A' : cS), ySm s0 A' [] [] → Q e A' → Q' e A') : wc_Scanner_isDigit s0 a0 Q' := by
  unfold wc_Scanner_isDigit at hw ⊢
  refine ⟨fun c1 => ?_, fun c1 => ?_⟩
  · have h2 := hw.1 c1
    exact hq _ _ ySm.rf h2
  · have h3 := hw.2 c1
    refine ⟨fun c4 => ?_, fun c4 => ?_⟩
    · have h5 := h3.1 c4
      exact hq _ _ ySm.rf h5
    · have h6 := h3.2 c4
      exact hq _ _ ySm.rf h6
theorem ffm_Scanner_isRest {s0 : cS} {a0 : Int} {Q Q' : Int → cS → Prop} (hw : wc_Scanner_isRest s0 a0 Q) (hq : ∀ (e : Int) (A' : cS), ySm s0 A' [] [] → Q e A' → Q' e A') : wc_Scanner_isRest s0 a0 Q' := by
  unfold wc_Scanner_isRest at hw ⊢
  refine ffm_Scanner_isLetter hw (fun r1 A2 f1 h8 => ?_)
  refine ⟨fun c9 => ?_, fun c9 => ?_⟩
  · have h10 := h8.1 c9
    exact hq _ _ (ySm.rf.tr f1 rfl rfl) h10
  · have h11 := h8.2 c9
    refine ffm_Scanner_isDigit h11 (fun r12 A13 f2 h19 => ?_)
    refine ⟨fun c20 => ?_, fun c20 => ?_⟩
    · have h21 := h19.1 c20
      exact hq _ _ ((ySm.rf.tr f1 rfl rfl).tr f2 rfl rfl) h21
    · have h22 := h19.2 c20
      refine ⟨fun c23 => ?_, fun c23 => ?_⟩
      · have h24 := h22.1 c23
        exact hq _ _ ((ySm.rf.tr f1 rfl rfl).tr f2 rfl rfl) h24
      · have h25 := h22.2 c23
        refine ⟨fun c26 => ?_, fun c26 => ?_⟩
        · have h27 := h25.1 c26
          exact hq _ _ ((ySm.rf.tr f1 rfl rfl).tr f2 rfl rfl) h27
        · have h28 := h25.2 c26
          exact hq _ _ ((ySm.rf.tr f1 rfl rfl).tr f2 rfl rfl) h28
theorem ffb_Scanner_restEnd_2 {Q Q' : Int → cS → Prop} {k2 k2' : cS → Int → Prop} {s0 : cS} {x2 : Int} (hq : ∀ (e : Int) (A' : cS), ySm s0 A' [] [] → Q e A' → Q' e A') (fk2 : ∀ (A' : cS) (x0 : Int), ySm s0 A' [] [] → k2 A' x0 → k2' A' x0) (hw : wc_Scanner_restEnd_2B Q k2 s0 x2) : wc_Scanner_restEnd_2B Q' k2' s0 x2 := by
  unfold wc_Scanner_restEnd_2B at hw ⊢
  refine ⟨fun c1 => ?_, fun c1 => ?_⟩
  · have h2 := hw.1 c1
    exact hq _ _ ySm.rf h2
  · have h3 := hw.2 c1
    refine ffm_Scanner_isRest h3 (fun r4 A5 f1 h11 => ?_)
    refine ⟨fun c12 => ?_, fun c12 => ?_⟩
    · have h13 := h11.1 c12
      exact hq _ _ (ySm.rf.tr f1 rfl rfl) h13
    · have h14 := h11.2 c12
      obtain ⟨o15, h16⟩ := h14
      refine ⟨o15, ?_⟩
      exact fk2 _ _ (ySm.rf.tr f1 rfl rfl) h16
theorem ffl_Scanner_restEnd_20 {Q Q' : Int → cS → Prop}  : ∀ (m : Nat) (s0 : cS) (x2 : Int), (∀ (e : Int) (A' : cS), ySm s0 A' [] [] → Q e A' → Q' e A') → wc_Scanner_restEnd_2 Q  m s0 x2 → wc_Scanner_restEnd_2 Q'  m s0 x2 := by
  intro m
  induction m with
  | zero => intro s0 x2 hq  hw; exact hw
  | succ m ih => intro s0 x2 hq  hw; exact ffb_Scanner_restEnd_2 hq  (fun A' y0 f1 q => ih A' y0 (fun e A' f q => hq e A' (f1.tr f rfl rfl) q)  q) hw
theorem ffm_Scanner_restEnd {s0 : cS} {a0 : Int} {Q Q' : Int → cS → Prop} (hw : wc_Scanner_restEnd s0 a0 Q) (hq : ∀ (e : Int) (A' : cS), ySm s0 A' [] [] → Q e A' → Q' e A') : wc_Scanner_restEnd s0 a0 Q' := by
  unfold wc_Scanner_restEnd at hw ⊢
  obtain ⟨m1, h2⟩ := hw
  exact ⟨m1, ffl_Scanner_restEnd_20 m1 _ _ (fun e A' f q => hq e A' (ySm.rf.tr f rfl rfl) q)  h2⟩
theorem ffm_Scanner_name {s0 : cS} {a0 : Int} {Q Q' : cS → Prop} (hw : wc_Scanner_name s0 a0 Q) (hq : ∀ (A' : cS), ySm s0 A' [14, 15, 16, 18, 19, 20] [8, 9] → Q A' → Q' A') : wc_Scanner_name s0 a0 Q' := by
  unfold wc_Scanner_name at hw ⊢
  refine ffm_Scanner_restEnd hw (fun r1 A2 f1 h8 => ?_)
  obtain ⟨o20, h21⟩ := h8
  refine ⟨o20, ?_⟩
  refine ⟨fun c22 => ?_, fun c22 => ?_⟩
  · have h23 := h21.1 c22
    refine ffm_Scanner_idOf h23 (fun r24 A25 f2 h31 => ?_)
    refine ⟨fun c32 => ?_, fun c32 => ?_⟩
    · have h33 := h31.1 c32
      obtain ⟨o34, h35⟩ := h33
      refine ⟨o34, ?_⟩
      refine ⟨fun c36 => ?_, fun c36 => ?_⟩
      · have h37 := h35.1 c36
        refine ⟨fun c38 => ?_, fun c38 => ?_⟩
        · have h39 := h37.1 c38
          refine ⟨fun c40 => ?_, fun c40 => ?_⟩
          · have h41 := h39.1 c40
            refine ffm_Scanner_put h41 (fun A43 f3 h49 => ?_)
            exact hq _ ((((ySm.rf.tr f1 rfl rfl).pv rfl).tr f2 rfl rfl).tr f3 rfl rfl) h49
          · have h50 := h39.2 c40
            refine ffm_Scanner_put h50 (fun A52 f4 h58 => ?_)
            exact hq _ ((((ySm.rf.tr f1 rfl rfl).pv rfl).tr f2 rfl rfl).tr f4 rfl rfl) h58
        · have h59 := h37.2 c38
          refine ffm_Scanner_put h59 (fun A61 f5 h67 => ?_)
          exact hq _ ((((ySm.rf.tr f1 rfl rfl).pv rfl).tr f2 rfl rfl).tr f5 rfl rfl) h67
      · have h68 := h35.2 c36
        refine ffm_Scanner_put h68 (fun A70 f6 h76 => ?_)
        exact hq _ ((((ySm.rf.tr f1 rfl rfl).pv rfl).tr f2 rfl rfl).tr f6 rfl rfl) h76
    · have h77 := h31.2 c32
      refine ffm_Scanner_put h77 (fun A79 f7 h85 => ?_)
      exact hq _ ((((ySm.rf.tr f1 rfl rfl).pv rfl).tr f2 rfl rfl).tr f7 rfl rfl) h85
  · have h86 := h21.2 c22
    refine ffm_Scanner_put h86 (fun A88 f8 h94 => ?_)
    exact hq _ (((ySm.rf.tr f1 rfl rfl).pv rfl).tr f8 rfl rfl) h94
theorem ffm_Scanner_digitOf {s0 : cS} {a0 : Int} {Q Q' : Int → cS → Prop} (hw : wc_Scanner_digitOf s0 a0 Q) (hq : ∀ (e : Int) (A' : cS), ySm s0 A' [] [] → Q e A' → Q' e A') : wc_Scanner_digitOf s0 a0 Q' := by
  unfold wc_Scanner_digitOf at hw ⊢
  refine ffm_Scanner_isDigit hw (fun r1 A2 f1 h8 => ?_)
  refine ⟨fun c9 => ?_, fun c9 => ?_⟩
  · have h10 := h8.1 c9
    refine ⟨fun c11 => ?_, fun c11 => ?_⟩
    · have h12 := h10.1 c11
      exact hq _ _ (ySm.rf.tr f1 rfl rfl) h12
    · have h13 := h10.2 c11
      refine ⟨fun c14 => ?_, fun c14 => ?_⟩
      · have h15 := h13.1 c14
        exact hq _ _ (ySm.rf.tr f1 rfl rfl) h15
      · have h16 := h13.2 c14
        obtain ⟨o17, h18⟩ := h16
        refine ⟨o17, ?_⟩
        exact hq _ _ (ySm.rf.tr f1 rfl rfl) h18
  · have h19 := h8.2 c9
    obtain ⟨o20, h21⟩ := h19
    refine ⟨o20, ?_⟩
    exact hq _ _ (ySm.rf.tr f1 rfl rfl) h21
theorem ffj_Scanner_number_100 {Q Q' : cS → Prop}  {s0 : cS} {x1 : Int} {x2 : Int} {x4 : Int} (hq : ∀ (A' : cS), ySm s0 A' [14, 15, 16] [8, 9] → Q A' → Q' A')  (hw : wc_Scanner_number_100 Q  s0 x1 x2 x4) : wc_Scanner_number_100 Q'  s0 x1 x2 x4 := by
  unfold wc_Scanner_number_100 at hw ⊢
  refine ⟨fun c1 => ?_, fun c1 => ?_⟩
  · have h2 := hw.1 c1
    intro z3 e4 R5
    have h6 := h2 z3 e4 R5
    refine ffm_Scanner_put h6 (fun A8 f1 h14 => ?_)
    exact hq _ (ySm.rf.tr f1 rfl rfl) h14
  · have h15 := hw.2 c1
    refine ⟨fun c16 => ?_, fun c16 => ?_⟩
    · have h17 := h15.1 c16
      intro z18 e19 R20
      have h21 := h17 z18 e19 R20
      refine ffm_Scanner_put h21 (fun A23 f2 h29 => ?_)
      exact hq _ (ySm.rf.tr f2 rfl rfl) h29
    · have h30 := h15.2 c16
      intro z31 e32 R33
      have h34 := h30 z31 e32 R33
      refine ffm_Scanner_put h34 (fun A36 f3 h42 => ?_)
      exact hq _ (ySm.rf.tr f3 rfl rfl) h42
theorem ffb_Scanner_number_11 {Q Q' : cS → Prop} {k11 k11' : cS → Int → Int → Int → Int → Int → Prop} {s0 : cS} {x1 : Int} {x2 : Int} {x3 : Int} {x4 : Int} {x6 : Int} (hq : ∀ (A' : cS), ySm s0 A' [14, 15, 16] [8, 9] → Q A' → Q' A') (fk11 : ∀ (A' : cS) (x0 : Int) (x1 : Int) (x2 : Int) (x3 : Int) (x4 : Int), ySm s0 A' [14, 15, 16] [8, 9] → k11 A' x0 x1 x2 x3 x4 → k11' A' x0 x1 x2 x3 x4) (hw : wc_Scanner_number_11B Q k11 s0 x1 x2 x3 x4 x6) : wc_Scanner_number_11B Q' k11' s0 x1 x2 x3 x4 x6 := by
  unfold wc_Scanner_number_11B at hw ⊢
  refine ⟨fun c1 => ?_, fun c1 => ?_⟩
  · have h2 := hw.1 c1
    exact ffj_Scanner_number_100 (fun A' f q => hq A' (ySm.rf.tr f rfl rfl) q)  h2
  · have h3 := hw.2 c1
    refine ⟨fun c4 => ?_, fun c4 => ?_⟩
    · have h5 := h3.1 c4
      exact ffj_Scanner_number_100 (fun A' f q => hq A' (ySm.rf.tr f rfl rfl) q)  h5
    · have h6 := h3.2 c4
      refine ffm_Scanner_digitOf h6 (fun r7 A8 f1 h14 => ?_)
      refine ⟨fun c15 => ?_, fun c15 => ?_⟩
      · have h16 := h14.1 c15
        exact ffj_Scanner_number_100 (fun A' f q => hq A' ((ySm.rf.tr f1 rfl rfl).tr f rfl rfl) q)  h16
      · have h17 := h14.2 c15
        refine ffm_Scanner_digitOf h17 (fun r18 A19 f2 h25 => ?_)
        obtain ⟨o26, h27⟩ := h25
        refine ⟨o26, ?_⟩
        obtain ⟨o28, h29⟩ := h27
        refine ⟨o28, ?_⟩
        obtain ⟨o41, h42⟩ := h29
        refine ⟨o41, ?_⟩
        exact fk11 _ _ _ _ _ _ (((ySm.rf.tr f1 rfl rfl).tr f2 rfl rfl).pv rfl) h42
theorem ffl_Scanner_number_110 {Q Q' : cS → Prop}  : ∀ (m : Nat) (s0 : cS) (x1 : Int) (x2 : Int) (x3 : Int) (x4 : Int) (x6 : Int), (∀ (A' : cS), ySm s0 A' [14, 15, 16] [8, 9] → Q A' → Q' A') → wc_Scanner_number_11 Q  m s0 x1 x2 x3 x4 x6 → wc_Scanner_number_11 Q'  m s0 x1 x2 x3 x4 x6 := by
  intro m
  induction m with
  | zero => intro s0 x1 x2 x3 x4 x6 hq  hw; exact hw
  | succ m ih => intro s0 x1 x2 x3 x4 x6 hq  hw; exact ffb_Scanner_number_11 hq  (fun A' y0 y1 y2 y3 y4 f1 q => ih A' y0 y1 y2 y3 y4 (fun A' f q => hq A' (f1.tr f rfl rfl) q)  q) hw
theorem ffm_Scanner_number {s0 : cS} {a0 : Int} {a1 : Int} {a2 : Int} {Q Q' : cS → Prop} (hw : wc_Scanner_number s0 a0 a1 a2 Q) (hq : ∀ (A' : cS), ySm s0 A' [14, 15, 16] [8, 9] → Q A' → Q' A') : wc_Scanner_number s0 a0 a1 a2 Q' := by
  unfold wc_Scanner_number at hw ⊢
  obtain ⟨m12, h13⟩ := hw
  exact ⟨m12, ffl_Scanner_number_110 m12 _ _ _ _ _ _ (fun A' f q => hq A' ((ySm.rf.pv rfl).tr f rfl rfl) q)  h13⟩
theorem ffm_Scanner_quoted {s0 : cS} {a0 : Int} {Q Q' : Int → cS → Prop} (hw : wc_Scanner_quoted s0 a0 Q) (hq : ∀ (e : Int) (A' : cS), ySm s0 A' [] [8] → Q e A' → Q' e A') : wc_Scanner_quoted s0 a0 Q' := by
  unfold wc_Scanner_quoted at hw ⊢
  obtain ⟨o1, h2⟩ := hw
  refine ⟨o1, ?_⟩
  refine ⟨fun c14 => ?_, fun c14 => ?_⟩
  · have h15 := h2.1 c14
    obtain ⟨o16, h17⟩ := h15
    refine ⟨o16, ?_⟩
    refine ⟨fun g29 => ?_, ?_⟩
    · have h31 := (h17.1) g29
      exact hq _ _ ((ySm.rf.pv rfl).pv rfl) h31
    · skip
      refine ⟨fun g32 => ?_, ?_⟩
      · have h34 := (h17.2.1) g32
        exact hq _ _ ((ySm.rf.pv rfl).pv rfl) h34
      · skip
        refine ⟨fun g35 => ?_, ?_⟩
        · have h37 := (h17.2.2.1) g35
          exact hq _ _ ((ySm.rf.pv rfl).pv rfl) h37
        · skip
          refine ⟨fun g38 => ?_, ?_⟩
          · have h40 := (h17.2.2.2.1) g38
            exact hq _ _ ((ySm.rf.pv rfl).pv rfl) h40
          · skip
            intro ng29 ng32 ng35 ng38
            have h41 := h17.2.2.2.2 ng29 ng32 ng35 ng38
            exact hq _ _ ((ySm.rf.pv rfl).pv rfl) h41
  · have h42 := h2.2 c14
    refine ⟨fun c43 => ?_, fun c43 => ?_⟩
    · have h44 := h42.1 c43
      exact hq _ _ (ySm.rf.pv rfl) h44
    · have h45 := h42.2 c43
      refine ⟨fun c46 => ?_, fun c46 => ?_⟩
      · have h47 := h45.1 c46
        exact hq _ _ (ySm.rf.pv rfl) h47
      · have h48 := h45.2 c46
        refine ⟨fun c49 => ?_, fun c49 => ?_⟩
        · have h50 := h48.1 c49
          exact hq _ _ (ySm.rf.pv rfl) h50
        · have h51 := h48.2 c49
          exact hq _ _ (ySm.rf.pv rfl) h51
theorem ffj_Scanner_string_80 {Q Q' : cS → Prop}  {s0 : cS} {x1 : Int} {x2 : Int} {x3 : Int} (hq : ∀ (A' : cS), ySm s0 A' [14, 15, 16, 17] [8, 9] → Q A' → Q' A')  (hw : wc_Scanner_string_80 Q  s0 x1 x2 x3) : wc_Scanner_string_80 Q'  s0 x1 x2 x3 := by
  unfold wc_Scanner_string_80 at hw ⊢
  obtain ⟨o5, h6⟩ := hw
  refine ⟨o5, ?_⟩
  refine ⟨fun c7 => ?_, fun c7 => ?_⟩
  · have h8 := h6.1 c7
    refine ffm_Scanner_put h8 (fun A10 f1 h16 => ?_)
    obtain ⟨o17, h18⟩ := h16
    refine ⟨o17, ?_⟩
    exact hq _ (((ySm.rf.set rfl).tr f1 rfl rfl).pv rfl) h18
  · have h30 := h6.2 c7
    refine ⟨fun c31 => ?_, fun c31 => ?_⟩
    · have h32 := h30.1 c31
      refine ffm_Scanner_put h32 (fun A34 f2 h40 => ?_)
      obtain ⟨o41, h42⟩ := h40
      refine ⟨o41, ?_⟩
      exact hq _ (((ySm.rf.set rfl).tr f2 rfl rfl).pv rfl) h42
    · have h54 := h30.2 c31
      refine ⟨fun c55 => ?_, fun c55 => ?_⟩
      · have h56 := h54.1 c55
        refine ffm_Scanner_put h56 (fun A58 f3 h64 => ?_)
        obtain ⟨o65, h66⟩ := h64
        refine ⟨o65, ?_⟩
        exact hq _ (((ySm.rf.set rfl).tr f3 rfl rfl).pv rfl) h66
      · have h78 := h54.2 c55
        refine ffm_Scanner_put h78 (fun A80 f4 h86 => ?_)
        obtain ⟨o87, h88⟩ := h86
        refine ⟨o87, ?_⟩
        exact hq _ (((ySm.rf.set rfl).tr f4 rfl rfl).pv rfl) h88
theorem ffb_Scanner_string_31 {Q Q' : cS → Prop} {k31 k31' : cS → Int → Int → Int → Int → Prop} {s0 : cS} {x1 : Int} {x2 : Int} {x3 : Int} {x4 : Int} (hq : ∀ (A' : cS), ySm s0 A' [14, 15, 16, 17] [8, 9] → Q A' → Q' A') (fk31 : ∀ (A' : cS) (x0 : Int) (x1 : Int) (x2 : Int) (x3 : Int), ySm s0 A' [14, 15, 16, 17] [8, 9] → k31 A' x0 x1 x2 x3 → k31' A' x0 x1 x2 x3) (hw : wc_Scanner_string_31B Q k31 s0 x1 x2 x3 x4) : wc_Scanner_string_31B Q' k31' s0 x1 x2 x3 x4 := by
  unfold wc_Scanner_string_31B at hw ⊢
  refine ⟨fun c1 => ?_, fun c1 => ?_⟩
  · have h2 := hw.1 c1
    exact ffj_Scanner_string_80 (fun A' f q => hq A' (ySm.rf.tr f rfl rfl) q)  h2
  · have h3 := hw.2 c1
    refine ⟨fun c4 => ?_, fun c4 => ?_⟩
    · have h5 := h3.1 c4
      exact ffj_Scanner_string_80 (fun A' f q => hq A' (ySm.rf.tr f rfl rfl) q)  h5
    · have h6 := h3.2 c4
      refine ⟨fun c7 => ?_, fun c7 => ?_⟩
      · have h8 := h6.1 c7
        exact ffj_Scanner_string_80 (fun A' f q => hq A' (ySm.rf.tr f rfl rfl) q)  h8
      · have h9 := h6.2 c7
        refine ffm_Scanner_quoted h9 (fun r10 A11 f1 h17 => ?_)
        obtain ⟨o22, h23⟩ := h17
        refine ⟨o22, ?_⟩
        obtain ⟨o24, h25⟩ := h23
        refine ⟨o24, ?_⟩
        exact fk31 _ _ _ _ _ ((ySm.rf.tr f1 rfl rfl).add rfl) h25
theorem ffl_Scanner_string_310 {Q Q' : cS → Prop}  : ∀ (m : Nat) (s0 : cS) (x1 : Int) (x2 : Int) (x3 : Int) (x4 : Int), (∀ (A' : cS), ySm s0 A' [14, 15, 16, 17] [8, 9] → Q A' → Q' A') → wc_Scanner_string_31 Q  m s0 x1 x2 x3 x4 → wc_Scanner_string_31 Q'  m s0 x1 x2 x3 x4 := by
  intro m
  induction m with
  | zero => intro s0 x1 x2 x3 x4 hq  hw; exact hw
  | succ m ih => intro s0 x1 x2 x3 x4 hq  hw; exact ffb_Scanner_string_31 hq  (fun A' y0 y1 y2 y3 f1 q => ih A' y0 y1 y2 y3 (fun A' f q => hq A' (f1.tr f rfl rfl) q)  q) hw
theorem ffm_Scanner_string {s0 : cS} {a0 : Int} {Q Q' : cS → Prop} (hw : wc_Scanner_string s0 a0 Q) (hq : ∀ (A' : cS), ySm s0 A' [14, 15, 16, 17] [8, 9] → Q A' → Q' A') : wc_Scanner_string s0 a0 Q' := by
  unfold wc_Scanner_string at hw ⊢
  obtain ⟨o5, h6⟩ := hw
  refine ⟨o5, ?_⟩
  obtain ⟨o7, h8⟩ := h6
  refine ⟨o7, ?_⟩
  obtain ⟨m20, h21⟩ := h8
  exact ⟨m20, ffl_Scanner_string_310 m20 _ _ _ _ _ (fun A' f q => hq A' (((ySm.rf.add rfl).pv rfl).tr f rfl rfl) q)  h21⟩
theorem ffj_Scanner_section_76 {Q Q' : cS → Prop}  {s0 : cS} {x1 : Int} {x2 : Int} {x3 : Int} {x4 : Int} {y0 : Int} (hq : ∀ (A' : cS), ySm s0 A' [14, 15, 16, 18, 19, 20] [8, 9] → Q A' → Q' A')  (hw : wc_Scanner_section_76 Q  s0 x1 x2 x3 x4 y0) : wc_Scanner_section_76 Q'  s0 x1 x2 x3 x4 y0 := by
  unfold wc_Scanner_section_76 at hw ⊢
  refine ⟨fun c1 => ?_, fun c1 => ?_⟩
  · have h2 := hw.1 c1
    refine ⟨fun c3 => ?_, fun c3 => ?_⟩
    · have h4 := h2.1 c3
      refine ffm_Scanner_put h4 (fun A6 f1 h12 => ?_)
      exact hq _ ((ySm.rf.tr f1 rfl rfl).pv rfl) h12
    · have h24 := h2.2 c3
      refine ffm_Scanner_put h24 (fun A26 f2 h32 => ?_)
      exact hq _ ((ySm.rf.tr f2 rfl rfl).pv rfl) h32
  · have h44 := hw.2 c1
    refine ffm_Scanner_put h44 (fun A46 f3 h52 => ?_)
    exact hq _ ((ySm.rf.tr f3 rfl rfl).pv rfl) h52
theorem ffj_Scanner_section_47 {Q Q' : cS → Prop}  {s0 : cS} {x1 : Int} {x2 : Int} {x3 : Int} {y0 : Int} (hq : ∀ (A' : cS), ySm s0 A' [14, 15, 16, 18, 19, 20] [8, 9] → Q A' → Q' A')  (hw : wc_Scanner_section_47 Q  s0 x1 x2 x3 y0) : wc_Scanner_section_47 Q'  s0 x1 x2 x3 y0 := by
  unfold wc_Scanner_section_47 at hw ⊢
  refine ⟨fun c1 => ?_, fun c1 => ?_⟩
  · have h2 := hw.1 c1
    obtain ⟨o3, h4⟩ := h2
    refine ⟨o3, ?_⟩
    refine ⟨fun c5 => ?_, fun c5 => ?_⟩
    · have h6 := h4.1 c5
      exact ffj_Scanner_section_76 (fun A' f q => hq A' (ySm.rf.tr f rfl rfl) q)  h6
    · have h7 := h4.2 c5
      exact ffj_Scanner_section_76 (fun A' f q => hq A' (ySm.rf.tr f rfl rfl) q)  h7
  · have h8 := hw.2 c1
    refine ⟨fun c9 => ?_, fun c9 => ?_⟩
    · have h10 := h8.1 c9
      exact ffj_Scanner_section_76 (fun A' f q => hq A' (ySm.rf.tr f rfl rfl) q)  h10
    · have h11 := h8.2 c9
      obtain ⟨o12, h13⟩ := h11
      refine ⟨o12, ?_⟩
      refine ⟨fun c14 => ?_, fun c14 => ?_⟩
      · have h15 := h13.1 c14
        exact ffj_Scanner_section_76 (fun A' f q => hq A' (ySm.rf.tr f rfl rfl) q)  h15
      · have h16 := h13.2 c14
        exact ffj_Scanner_section_76 (fun A' f q => hq A' (ySm.rf.tr f rfl rfl) q)  h16
theorem ffm_Scanner_section {s0 : cS} {a0 : Int} {Q Q' : cS → Prop} (hw : wc_Scanner_section s0 a0 Q) (hq : ∀ (A' : cS), ySm s0 A' [14, 15, 16, 18, 19, 20] [8, 9] → Q A' → Q' A') : wc_Scanner_section s0 a0 Q' := by
  unfold wc_Scanner_section at hw ⊢
  obtain ⟨o1, h2⟩ := hw
  refine ⟨o1, ?_⟩
  obtain ⟨o3, h4⟩ := h2
  refine ⟨o3, ?_⟩
  refine ffm_Scanner_restEnd h4 (fun r5 A6 f1 h12 => ?_)
  refine ⟨fun c13 => ?_, fun c13 => ?_⟩
  · have h14 := h12.1 c13
    exact ffj_Scanner_section_47 (fun A' f q => hq A' ((ySm.rf.tr f1 rfl rfl).tr f rfl rfl) q)  h14
  · have h15 := h12.2 c13
    refine ffm_Scanner_idOf h15 (fun r16 A17 f2 h23 => ?_)
    obtain ⟨o24, h25⟩ := h23
    refine ⟨o24, ?_⟩
    exact ffj_Scanner_section_47 (fun A' f q => hq A' (((ySm.rf.tr f1 rfl rfl).tr f2 rfl rfl).tr f rfl rfl) q)  h25
theorem ffm_Scanner_doubled {s0 : cS} {a0 : Int} {a1 : Int} {Q Q' : Int → cS → Prop} (hw : wc_Scanner_doubled s0 a0 a1 Q) (hq : ∀ (e : Int) (A' : cS), ySm s0 A' [] [] → Q e A' → Q' e A') : wc_Scanner_doubled s0 a0 a1 Q' := by
  unfold wc_Scanner_doubled at hw ⊢
  refine ⟨fun g1 => ?_, ?_⟩
  · have h3 := (hw.1) g1
    refine ⟨fun c4 => ?_, fun c4 => ?_⟩
    · have h5 := h3.1 c4
      exact hq _ _ ySm.rf h5
    · have h6 := h3.2 c4
      exact hq _ _ ySm.rf h6
  · skip
    refine ⟨fun g7 => ?_, ?_⟩
    · have h9 := (hw.2.1) g7
      refine ⟨fun c10 => ?_, fun c10 => ?_⟩
      · have h11 := h9.1 c10
        exact hq _ _ ySm.rf h11
      · have h12 := h9.2 c10
        exact hq _ _ ySm.rf h12
    · skip
      refine ⟨fun g13 => ?_, ?_⟩
      · have h15 := (hw.2.2.1) g13
        refine ⟨fun c16 => ?_, fun c16 => ?_⟩
        · have h17 := h15.1 c16
          refine ⟨fun c18 => ?_, fun c18 => ?_⟩
          · have h19 := h17.1 c18
            exact hq _ _ ySm.rf h19
          · have h20 := h17.2 c18
            exact hq _ _ ySm.rf h20
        · have h21 := h15.2 c16
          exact hq _ _ ySm.rf h21
      · skip
        refine ⟨fun g22 => ?_, ?_⟩
        · have h24 := (hw.2.2.2.1) g22
          refine ⟨fun c25 => ?_, fun c25 => ?_⟩
          · have h26 := h24.1 c25
            refine ⟨fun c27 => ?_, fun c27 => ?_⟩
            · have h28 := h26.1 c27
              exact hq _ _ ySm.rf h28
            · have h29 := h26.2 c27
              exact hq _ _ ySm.rf h29
          · have h30 := h24.2 c25
            exact hq _ _ ySm.rf h30
        · skip
          refine ⟨fun g31 => ?_, ?_⟩
          · have h33 := (hw.2.2.2.2.1) g31
            refine ⟨fun c34 => ?_, fun c34 => ?_⟩
            · have h35 := h33.1 c34
              exact hq _ _ ySm.rf h35
            · have h36 := h33.2 c34
              exact hq _ _ ySm.rf h36
          · skip
            intro ng1 ng7 ng13 ng22 ng31
            have h37 := hw.2.2.2.2.2 ng1 ng7 ng13 ng22 ng31
            exact hq _ _ ySm.rf h37
theorem ffm_Scanner_single {s0 : cS} {a0 : Int} {Q Q' : Int → cS → Prop} (hw : wc_Scanner_single s0 a0 Q) (hq : ∀ (e : Int) (A' : cS), ySm s0 A' [] [] → Q e A' → Q' e A') : wc_Scanner_single s0 a0 Q' := by
  unfold wc_Scanner_single at hw ⊢
  refine ⟨fun g1 => ?_, ?_⟩
  · have h3 := (hw.1) g1
    exact hq _ _ ySm.rf h3
  · skip
    refine ⟨fun g4 => ?_, ?_⟩
    · have h6 := (hw.2.1) g4
      exact hq _ _ ySm.rf h6
    · skip
      refine ⟨fun g7 => ?_, ?_⟩
      · have h9 := (hw.2.2.1) g7
        exact hq _ _ ySm.rf h9
      · skip
        refine ⟨fun g10 => ?_, ?_⟩
        · have h12 := (hw.2.2.2.1) g10
          exact hq _ _ ySm.rf h12
        · skip
          refine ⟨fun g13 => ?_, ?_⟩
          · have h15 := (hw.2.2.2.2.1) g13
            exact hq _ _ ySm.rf h15
          · skip
            refine ⟨fun g16 => ?_, ?_⟩
            · have h18 := (hw.2.2.2.2.2.1) g16
              exact hq _ _ ySm.rf h18
            · skip
              refine ⟨fun g19 => ?_, ?_⟩
              · have h21 := (hw.2.2.2.2.2.2.1) g19
                exact hq _ _ ySm.rf h21
              · skip
                refine ⟨fun g22 => ?_, ?_⟩
                · have h24 := (hw.2.2.2.2.2.2.2.1) g22
                  exact hq _ _ ySm.rf h24
                · skip
                  refine ⟨fun g25 => ?_, ?_⟩
                  · have h27 := (hw.2.2.2.2.2.2.2.2.1) g25
                    exact hq _ _ ySm.rf h27
                  · skip
                    refine ⟨fun g28 => ?_, ?_⟩
                    · have h30 := (hw.2.2.2.2.2.2.2.2.2.1) g28
                      exact hq _ _ ySm.rf h30
                    · skip
                      refine ⟨fun g31 => ?_, ?_⟩
                      · have h33 := (hw.2.2.2.2.2.2.2.2.2.2.1) g31
                        exact hq _ _ ySm.rf h33
                      · skip
                        refine ⟨fun g34 => ?_, ?_⟩
                        · have h36 := (hw.2.2.2.2.2.2.2.2.2.2.2.1) g34
                          exact hq _ _ ySm.rf h36
                        · skip
                          refine ⟨fun g37 => ?_, ?_⟩
                          · have h39 := (hw.2.2.2.2.2.2.2.2.2.2.2.2.1) g37
                            exact hq _ _ ySm.rf h39
                          · skip
                            refine ⟨fun g40 => ?_, ?_⟩
                            · have h42 := (hw.2.2.2.2.2.2.2.2.2.2.2.2.2.1) g40
                              exact hq _ _ ySm.rf h42
                            · skip
                              refine ⟨fun g43 => ?_, ?_⟩
                              · have h45 := (hw.2.2.2.2.2.2.2.2.2.2.2.2.2.2.1) g43
                                exact hq _ _ ySm.rf h45
                              · skip
                                refine ⟨fun g46 => ?_, ?_⟩
                                · have h48 := (hw.2.2.2.2.2.2.2.2.2.2.2.2.2.2.2.1) g46
                                  exact hq _ _ ySm.rf h48
                                · skip
                                  refine ⟨fun g49 => ?_, ?_⟩
                                  · have h51 := (hw.2.2.2.2.2.2.2.2.2.2.2.2.2.2.2.2.1) g49
                                    exact hq _ _ ySm.rf h51
                                  · skip
                                    refine ⟨fun g52 => ?_, ?_⟩
                                    · have h54 := (hw.2.2.2.2.2.2.2.2.2.2.2.2.2.2.2.2.2.1) g52
                                      exact hq _ _ ySm.rf h54
                                    · skip
                                      intro ng1 ng4 ng7 ng10 ng13 ng16 ng19 ng22 ng25 ng28 ng31 ng34 ng37 ng40 ng43 ng46 ng49 ng52
                                      have h55 := hw.2.2.2.2.2.2.2.2.2.2.2.2.2.2.2.2.2.2 ng1 ng4 ng7 ng10 ng13 ng16 ng19 ng22 ng25 ng28 ng31 ng34 ng37 ng40 ng43 ng46 ng49 ng52
                                      exact hq _ _ ySm.rf h55
theorem ffj_Scanner_sign_31 {Q Q' : cS → Prop}  {s0 : cS} {x1 : Int} {x3 : Int} {y0 : Int} (hq : ∀ (A' : cS), ySm s0 A' [14, 15, 16] [8, 9] → Q A' → Q' A')  (hw : wc_Scanner_sign_31 Q  s0 x1 x3 y0) : wc_Scanner_sign_31 Q'  s0 x1 x3 y0 := by
  unfold wc_Scanner_sign_31 at hw ⊢
  refine ⟨fun c1 => ?_, fun c1 => ?_⟩
  · have h2 := hw.1 c1
    obtain ⟨o3, h4⟩ := h2
    refine ⟨o3, ?_⟩
    refine ffm_Scanner_put h4 (fun A17 f1 h23 => ?_)
    exact hq _ ((ySm.rf.pv rfl).tr f1 rfl rfl) h23
  · have h24 := hw.2 c1
    obtain ⟨o25, h26⟩ := h24
    refine ⟨o25, ?_⟩
    refine ffm_Scanner_put h26 (fun A39 f2 h45 => ?_)
    exact hq _ ((ySm.rf.pv rfl).tr f2 rfl rfl) h45
theorem ffm_Scanner_sign {s0 : cS} {a0 : Int} {a1 : Int} {Q Q' : cS → Prop} (hw : wc_Scanner_sign s0 a0 a1 Q) (hq : ∀ (A' : cS), ySm s0 A' [14, 15, 16] [8, 9] → Q A' → Q' A') : wc_Scanner_sign s0 a0 a1 Q' := by
  unfold wc_Scanner_sign at hw ⊢
  obtain ⟨o1, h2⟩ := hw
  refine ⟨o1, ?_⟩
  refine ffm_Scanner_doubled h2 (fun r3 A4 f1 h10 => ?_)
  refine ⟨fun c11 => ?_, fun c11 => ?_⟩
  · have h12 := h10.1 c11
    refine ffm_Scanner_single h12 (fun r13 A14 f2 h20 => ?_)
    exact ffj_Scanner_sign_31 (fun A' f q => hq A' (((ySm.rf.tr f1 rfl rfl).tr f2 rfl rfl).tr f rfl rfl) q)  h20
  · have h21 := h10.2 c11
    exact ffj_Scanner_sign_31 (fun A' f q => hq A' ((ySm.rf.tr f1 rfl rfl).tr f rfl rfl) q)  h21
theorem ffj_Scanner_token_82 {Q Q' : cS → Prop}  {s0 : cS} {x1 : Int} {y0 : Int} (hq : ∀ (A' : cS), ySm s0 A' [14, 15, 16, 17, 18, 19, 20] [8, 9] → Q A' → Q' A')  (hw : wc_Scanner_token_82 Q  s0 x1 y0) : wc_Scanner_token_82 Q'  s0 x1 y0 := by
  unfold wc_Scanner_token_82 at hw ⊢
  refine ⟨fun c1 => ?_, fun c1 => ?_⟩
  · have h2 := hw.1 c1
    refine ⟨fun c3 => ?_, fun c3 => ?_⟩
    · have h4 := h2.1 c3
      obtain ⟨o5, h6⟩ := h4
      refine ⟨o5, ?_⟩
      refine ffm_Scanner_number h6 (fun A8 f1 h14 => ?_)
      exact hq _ (ySm.rf.tr f1 rfl rfl) h14
    · have h15 := h2.2 c3
      obtain ⟨o16, h17⟩ := h15
      refine ⟨o16, ?_⟩
      refine ffm_Scanner_number h17 (fun A19 f2 h25 => ?_)
      exact hq _ (ySm.rf.tr f2 rfl rfl) h25
  · have h26 := hw.2 c1
    refine ⟨fun c27 => ?_, fun c27 => ?_⟩
    · have h28 := h26.1 c27
      obtain ⟨o29, h30⟩ := h28
      refine ⟨o29, ?_⟩
      refine ffm_Scanner_number h30 (fun A32 f3 h38 => ?_)
      exact hq _ (ySm.rf.tr f3 rfl rfl) h38
    · have h39 := h26.2 c27
      obtain ⟨o40, h41⟩ := h39
      refine ⟨o40, ?_⟩
      refine ffm_Scanner_number h41 (fun A43 f4 h49 => ?_)
      exact hq _ (ySm.rf.tr f4 rfl rfl) h49
theorem ffm_Scanner_token {s0 : cS}  {Q Q' : cS → Prop} (hw : wc_Scanner_token s0  Q) (hq : ∀ (A' : cS), ySm s0 A' [14, 15, 16, 17, 18, 19, 20] [8, 9] → Q A' → Q' A') : wc_Scanner_token s0  Q' := by
  unfold wc_Scanner_token at hw ⊢
  refine ffm_Scanner_isLetter hw (fun r1 A2 f1 h8 => ?_)
  refine ⟨fun c9 => ?_, fun c9 => ?_⟩
  · have h10 := h8.1 c9
    refine ffm_Scanner_isDigit h10 (fun r11 A12 f2 h18 => ?_)
    refine ⟨fun c19 => ?_, fun c19 => ?_⟩
    · have h20 := h18.1 c19
      refine ⟨fun c21 => ?_, fun c21 => ?_⟩
      · have h22 := h20.1 c21
        refine ⟨fun c23 => ?_, fun c23 => ?_⟩
        · have h24 := h22.1 c23
          refine ⟨fun c25 => ?_, fun c25 => ?_⟩
          · have h26 := h24.1 c25
            refine ⟨fun c27 => ?_, fun c27 => ?_⟩
            · have h28 := h26.1 c27
              refine ffm_Scanner_sign h28 (fun A30 f3 h36 => ?_)
              exact hq _ (((ySm.rf.tr f1 rfl rfl).tr f2 rfl rfl).tr f3 rfl rfl) h36
            · have h37 := h26.2 c27
              refine ffm_Scanner_section h37 (fun A39 f4 h45 => ?_)
              exact hq _ (((ySm.rf.tr f1 rfl rfl).tr f2 rfl rfl).tr f4 rfl rfl) h45
          · have h46 := h24.2 c25
            refine ffm_Scanner_string h46 (fun A48 f5 h54 => ?_)
            exact hq _ (((ySm.rf.tr f1 rfl rfl).tr f2 rfl rfl).tr f5 rfl rfl) h54
        · have h55 := h22.2 c23
          obtain ⟨o56, h57⟩ := h55
          refine ⟨o56, ?_⟩
          refine ffm_Scanner_quoted h57 (fun r69 A70 f6 h76 => ?_)
          refine ⟨fun c77 => ?_, fun c77 => ?_⟩
          · have h78 := h76.1 c77
            refine ffm_Scanner_put h78 (fun A80 f7 h86 => ?_)
            obtain ⟨o87, h88⟩ := h86
            refine ⟨o87, ?_⟩
            exact hq _ ((((((ySm.rf.tr f1 rfl rfl).tr f2 rfl rfl).pv rfl).tr f6 rfl rfl).tr f7 rfl rfl).pv rfl) h88
          · have h100 := h76.2 c77
            refine ⟨fun c101 => ?_, fun c101 => ?_⟩
            · have h102 := h100.1 c101
              refine ffm_Scanner_put h102 (fun A104 f8 h110 => ?_)
              obtain ⟨o111, h112⟩ := h110
              refine ⟨o111, ?_⟩
              exact hq _ ((((((ySm.rf.tr f1 rfl rfl).tr f2 rfl rfl).pv rfl).tr f6 rfl rfl).tr f8 rfl rfl).pv rfl) h112
            · have h124 := h100.2 c101
              refine ffm_Scanner_put h124 (fun A126 f9 h132 => ?_)
              obtain ⟨o133, h134⟩ := h132
              refine ⟨o133, ?_⟩
              exact hq _ ((((((ySm.rf.tr f1 rfl rfl).tr f2 rfl rfl).pv rfl).tr f6 rfl rfl).tr f9 rfl rfl).pv rfl) h134
      · have h146 := h20.2 c21
        obtain ⟨o147, h148⟩ := h146
        refine ⟨o147, ?_⟩
        refine ⟨fun c149 => ?_, fun c149 => ?_⟩
        · have h150 := h148.1 c149
          exact ffj_Scanner_token_82 (fun A' f q => hq A' (((ySm.rf.tr f1 rfl rfl).tr f2 rfl rfl).tr f rfl rfl) q)  h150
        · have h151 := h148.2 c149
          exact ffj_Scanner_token_82 (fun A' f q => hq A' (((ySm.rf.tr f1 rfl rfl).tr f2 rfl rfl).tr f rfl rfl) q)  h151
    · have h152 := h18.2 c19
      refine ffm_Scanner_number h152 (fun A154 f10 h160 => ?_)
      exact hq _ (((ySm.rf.tr f1 rfl rfl).tr f2 rfl rfl).tr f10 rfl rfl) h160
  · have h161 := h8.2 c9
    refine ffm_Scanner_name h161 (fun A163 f11 h169 => ?_)
    exact hq _ ((ySm.rf.tr f1 rfl rfl).tr f11 rfl rfl) h169
theorem ffb_Scanner_scan_73 {Q Q' : cS → Prop} {k73 k73' : cS → Int → Prop} {s0 : cS} {x1 : Int} (hq : ∀ (A' : cS), ySm s0 A' [14, 15, 16, 17, 18, 19, 20] [8, 9] → Q A' → Q' A') (fk73 : ∀ (A' : cS) (x0 : Int), ySm s0 A' [14, 15, 16, 17, 18, 19, 20] [8, 9] → k73 A' x0 → k73' A' x0) (hw : wc_Scanner_scan_73B Q k73 s0 x1) : wc_Scanner_scan_73B Q' k73' s0 x1 := by
  unfold wc_Scanner_scan_73B at hw ⊢
  refine ⟨fun c1 => ?_, fun c1 => ?_⟩
  · have h2 := hw.1 c1
    exact hq _ ySm.rf h2
  · have h3 := hw.2 c1
    refine ffm_Scanner_pass h3 (fun A5 f1 h11 => ?_)
    refine ⟨fun c12 => ?_, fun c12 => ?_⟩
    · have h13 := h11.1 c12
      refine ffm_Scanner_token h13 (fun A15 f2 h21 => ?_)
      refine ⟨fun c22 => ?_, fun c22 => ?_⟩
      · have h23 := h21.1 c22
        obtain ⟨o24, h25⟩ := h23
        refine ⟨o24, ?_⟩
        exact fk73 _ _ ((ySm.rf.tr f1 rfl rfl).tr f2 rfl rfl) h25
      · have h26 := h21.2 c22
        exact hq _ ((ySm.rf.tr f1 rfl rfl).tr f2 rfl rfl) h26
    · have h27 := h11.2 c12
      refine ffm_Scanner_put h27 (fun A29 f3 h35 => ?_)
      exact hq _ ((ySm.rf.tr f1 rfl rfl).tr f3 rfl rfl) h35
theorem ffl_Scanner_scan_730 {Q Q' : cS → Prop}  : ∀ (m : Nat) (s0 : cS) (x1 : Int), (∀ (A' : cS), ySm s0 A' [14, 15, 16, 17, 18, 19, 20] [8, 9] → Q A' → Q' A') → wc_Scanner_scan_73 Q  m s0 x1 → wc_Scanner_scan_73 Q'  m s0 x1 := by
  intro m
  induction m with
  | zero => intro s0 x1 hq  hw; exact hw
  | succ m ih => intro s0 x1 hq  hw; exact ffb_Scanner_scan_73 hq  (fun A' y0 f1 q => ih A' y0 (fun A' f q => hq A' (f1.tr f rfl rfl) q)  q) hw
theorem ffm_Scanner_scan {s0 : cS}  {Q Q' : cS → Prop} (hw : wc_Scanner_scan s0  Q) (hq : ∀ (A' : cS), ySm s0 A' [14, 15, 16, 17, 18, 19, 20] [8, 9] → Q A' → Q' A') : wc_Scanner_scan s0  Q' := by
  unfold wc_Scanner_scan at hw ⊢
  obtain ⟨m51, h52⟩ := hw
  exact ⟨m51, ffl_Scanner_scan_730 m51 _ _ (fun A' f q => hq A' ((((((((((ySm.rf.cut rfl).cut rfl).cut rfl).cut rfl).cut rfl).cut rfl).cut rfl).pv rfl).pv rfl).tr f rfl rfl) q)  h52⟩
theorem ffm_Constants_hasFailed {s0 : cS}  {Q Q' : Int → cS → Prop} (hw : wc_Constants_hasFailed s0  Q) (hq : ∀ (e : Int) (A' : cS), ySm s0 A' [] [] → Q e A' → Q' e A') : wc_Constants_hasFailed s0  Q' := by
  unfold wc_Constants_hasFailed at hw ⊢
  obtain ⟨o1, h2⟩ := hw
  refine ⟨o1, ?_⟩
  exact hq _ _ ySm.rf h2
theorem ffm_Constants_fail {s0 : cS} {a0 : Int} {a1 : Int} {Q Q' : cS → Prop} (hw : wc_Constants_fail s0 a0 a1 Q) (hq : ∀ (A' : cS), ySm s0 A' [] [38, 39, 40] → Q A' → Q' A') : wc_Constants_fail s0 a0 a1 Q' := by
  unfold wc_Constants_fail at hw ⊢
  refine ⟨fun c1 => ?_, fun c1 => ?_⟩
  · have h2 := hw.1 c1
    exact hq _ (((ySm.rf.pv rfl).pv rfl).pv rfl) h2
  · have h36 := hw.2 c1
    refine ⟨fun c37 => ?_, fun c37 => ?_⟩
    · have h38 := h36.1 c37
      exact hq _ ySm.rf h38
    · have h39 := h36.2 c37
      exact hq _ (((ySm.rf.pv rfl).pv rfl).pv rfl) h39
theorem ffj_Constants_relate_63 {Q Q' : Int → cS → Prop}  {s0 : cS} {x3 : Int} {x6 : Int} {y0 : Int} (hq : ∀ (e : Int) (A' : cS), ySm s0 A' [33] [] → Q e A' → Q' e A')  (hw : wc_Constants_relate_63 Q  s0 x3 x6 y0) : wc_Constants_relate_63 Q'  s0 x3 x6 y0 := by
  unfold wc_Constants_relate_63 at hw ⊢
  obtain ⟨o5, h6⟩ := hw
  refine ⟨o5, ?_⟩
  refine ⟨fun c7 => ?_, fun c7 => ?_⟩
  · have h8 := h6.1 c7
    exact hq _ _ (ySm.rf.add rfl) h8
  · have h9 := h6.2 c7
    refine ⟨fun c10 => ?_, fun c10 => ?_⟩
    · have h11 := h9.1 c10
      exact hq _ _ (ySm.rf.add rfl) h11
    · have h12 := h9.2 c10
      exact hq _ _ (ySm.rf.add rfl) h12
theorem ffm_Constants_relate {s0 : cS} {a0 : Int} {a1 : Int} {a2 : Int} {Q Q' : Int → cS → Prop} (hw : wc_Constants_relate s0 a0 a1 a2 Q) (hq : ∀ (e : Int) (A' : cS), ySm s0 A' [33] [] → Q e A' → Q' e A') : wc_Constants_relate s0 a0 a1 a2 Q' := by
  unfold wc_Constants_relate at hw ⊢
  refine ⟨fun c9 => ?_, fun c9 => ?_⟩
  · have h10 := hw.1 c9
    refine ⟨fun c11 => ?_, fun c11 => ?_⟩
    · have h12 := h10.1 c11
      exact ffj_Constants_relate_63 (fun e A' f q => hq e A' (((ySm.rf.pop rfl).pop rfl).tr f rfl rfl) q)  h12
    · have h14 := h10.2 c11
      exact ffj_Constants_relate_63 (fun e A' f q => hq e A' (((ySm.rf.pop rfl).pop rfl).tr f rfl rfl) q)  h14
  · have h15 := hw.2 c9
    refine ffm_W_holds h15 (fun r16 A17 f1 h23 => ?_)
    refine ⟨fun c24 => ?_, fun c24 => ?_⟩
    · have h25 := h23.1 c24
      refine ⟨fun c26 => ?_, fun c26 => ?_⟩
      · have h27 := h25.1 c26
        exact ffj_Constants_relate_63 (fun e A' f q => hq e A' ((((ySm.rf.pop rfl).pop rfl).tr f1 rfl rfl).tr f rfl rfl) q)  h27
      · have h29 := h25.2 c26
        exact ffj_Constants_relate_63 (fun e A' f q => hq e A' ((((ySm.rf.pop rfl).pop rfl).tr f1 rfl rfl).tr f rfl rfl) q)  h29
    · have h30 := h23.2 c24
      refine ⟨fun c31 => ?_, fun c31 => ?_⟩
      · have h32 := h30.1 c31
        exact ffj_Constants_relate_63 (fun e A' f q => hq e A' ((((ySm.rf.pop rfl).pop rfl).tr f1 rfl rfl).tr f rfl rfl) q)  h32
      · have h34 := h30.2 c31
        exact ffj_Constants_relate_63 (fun e A' f q => hq e A' ((((ySm.rf.pop rfl).pop rfl).tr f1 rfl rfl).tr f rfl rfl) q)  h34
theorem ffj_Constants_work_48 {Q Q' : cS → Prop}  {s0 : cS} {x1 : Int} {x4 : Int} {x5 : Int} (hq : ∀ (A' : cS), ySm s0 A' [33] [38, 39, 40] → Q A' → Q' A')  (hw : wc_Constants_work_48 Q  s0 x1 x4 x5) : wc_Constants_work_48 Q'  s0 x1 x4 x5 := by
  unfold wc_Constants_work_48 at hw ⊢
  refine ffm_W_worked hw (fun r1 A2 f1 h8 => ?_)
  obtain ⟨o13, h14⟩ := h8
  refine ⟨o13, ?_⟩
  exact hq _ ((ySm.rf.tr f1 rfl rfl).add rfl) h14
theorem ffm_Constants_work {s0 : cS} {a0 : Int} {a1 : Int} {a2 : Int} {Q Q' : cS → Prop} (hw : wc_Constants_work s0 a0 a1 a2 Q) (hq : ∀ (A' : cS), ySm s0 A' [33] [38, 39, 40] → Q A' → Q' A') : wc_Constants_work s0 a0 a1 a2 Q' := by
  unfold wc_Constants_work at hw ⊢
  refine ffm_W_isDivision hw (fun r9 A10 f1 h16 => ?_)
  refine ⟨fun c17 => ?_, fun c17 => ?_⟩
  · have h18 := h16.1 c17
    exact ffj_Constants_work_48 (fun A' f q => hq A' ((((ySm.rf.pop rfl).pop rfl).tr f1 rfl rfl).tr f rfl rfl) q)  h18
  · have h19 := h16.2 c17
    refine ⟨fun c20 => ?_, fun c20 => ?_⟩
    · have h21 := h19.1 c20
      exact ffj_Constants_work_48 (fun A' f q => hq A' ((((ySm.rf.pop rfl).pop rfl).tr f1 rfl rfl).tr f rfl rfl) q)  h21
    · have h22 := h19.2 c20
      refine ⟨fun c23 => ?_, fun c23 => ?_⟩
      · have h24 := h22.1 c23
        exact ffj_Constants_work_48 (fun A' f q => hq A' ((((ySm.rf.pop rfl).pop rfl).tr f1 rfl rfl).tr f rfl rfl) q)  h24
      · have h25 := h22.2 c23
        refine ⟨fun c26 => ?_, fun c26 => ?_⟩
        · have h27 := h25.1 c26
          exact ffj_Constants_work_48 (fun A' f q => hq A' ((((ySm.rf.pop rfl).pop rfl).tr f1 rfl rfl).tr f rfl rfl) q)  h27
        · have h28 := h25.2 c26
          refine ffm_Constants_fail h28 (fun A30 f2 h36 => ?_)
          exact ffj_Constants_work_48 (fun A' f q => hq A' (((((ySm.rf.pop rfl).pop rfl).tr f1 rfl rfl).tr f2 rfl rfl).tr f rfl rfl) q)  h36
theorem ffm_Constants_single {s0 : cS} {a0 : Int} {a1 : Int} {a2 : Int} {Q Q' : cS → Prop} (hw : wc_Constants_single s0 a0 a1 a2 Q) (hq : ∀ (A' : cS), ySm s0 A' [33] [38, 39, 40] → Q A' → Q' A') : wc_Constants_single s0 a0 a1 a2 Q' := by
  unfold wc_Constants_single at hw ⊢
  refine ⟨fun g1 => ?_, ?_⟩
  · have h3 := (hw.1) g1
    obtain ⟨o8, h9⟩ := h3
    refine ⟨o8, ?_⟩
    exact hq _ (ySm.rf.add rfl) h9
  · skip
    refine ⟨fun g10 => ?_, ?_⟩
    · have h12 := (hw.2.1) g10
      refine ffm_Constants_fail h12 (fun A18 f1 h24 => ?_)
      exact hq _ ((ySm.rf.pop rfl).tr f1 rfl rfl) h24
    · skip
      refine ⟨fun g25 => ?_, ?_⟩
      · have h27 := (hw.2.2.1) g25
        refine ffm_Constants_fail h27 (fun A29 f2 h35 => ?_)
        exact hq _ (ySm.rf.tr f2 rfl rfl) h35
      · skip
        refine ⟨fun g36 => ?_, ?_⟩
        · have h38 := (hw.2.2.2.1) g36
          refine ⟨fun c43 => ?_, fun c43 => ?_⟩
          · have h44 := h38.1 c43
            refine ⟨fun c45 => ?_, fun c45 => ?_⟩
            · have h46 := h44.1 c45
              obtain ⟨o51, h52⟩ := h46
              refine ⟨o51, ?_⟩
              exact hq _ ((ySm.rf.pop rfl).add rfl) h52
            · have h53 := h44.2 c45
              obtain ⟨o58, h59⟩ := h53
              refine ⟨o58, ?_⟩
              exact hq _ ((ySm.rf.pop rfl).add rfl) h59
          · have h60 := h38.2 c43
            intro z61 e62 R63
            have h64 := h60 z61 e62 R63
            obtain ⟨o69, h70⟩ := h64
            refine ⟨o69, ?_⟩
            exact hq _ ((ySm.rf.pop rfl).add rfl) h70
        · skip
          intro ng1 ng10 ng25 ng36
          have h71 := hw.2.2.2.2 ng1 ng10 ng25 ng36
          refine ffm_Constants_fail h71 (fun A73 f3 h79 => ?_)
          obtain ⟨o84, h85⟩ := h79
          refine ⟨o84, ?_⟩
          exact hq _ ((ySm.rf.tr f3 rfl rfl).add rfl) h85
