/-! THE RUN: HOW IT STANDS -/
/-- a task: kind, node, further number -/
abbrev xT : Type := Nat × Nat × Int
def xTr (s : zS) : List xT → Prop
  | [] => True
  | g :: r => (za s 88 r.length = g.1 ∧ za s 89 r.length = g.2.1 ∧ za s 90 r.length = g.2.2) ∧ xTr s r
theorem xTr.fr {s s' : zS} : ∀ {l : List xT}, xTr s l → (∀ j, (j = 88 ∨ j = 89 ∨ j = 90) → ∀ i, i < l.length → za s' j i = za s j i) → xTr s' l
  | [], _, _ => trivial
  | g :: r, h, e => by
    have hl : r.length < (g :: r).length := by show r.length < r.length + 1; omega
    exact ⟨⟨by rw [e 88 (by decide) _ hl]; exact h.1.1, by rw [e 89 (by decide) _ hl]; exact h.1.2.1, by rw [e 90 (by decide) _ hl]; exact h.1.2.2⟩, xTr.fr h.2 (fun j hj i hi => e j hj i (by omega))⟩
/-- what is to be done -/
def xTk (s : zS) (l : List xT) : Prop := xTr s l ∧ zv s 87 = l.length
theorem xTk.sm {s s' : zS} {l : List xT} {js ks : List Nat} (h : xTk s l) (f : zSm s s' js ks) (hj : ([88, 89, 90].all fun j => !js.contains j) = true) (hk : ks.contains 87 = false) : xTk s' l := by
  have J : ∀ j, [88, 89, 90].contains j = true → ∀ i, za s' j i = za s j i := fun j h1 i => f.a j i (by
    have := List.all_eq_true.mp hj j (by simpa using h1)
    simpa using this)
  refine ⟨h.1.fr (fun j hj2 i _ => ?_), by rw [f.v 87 hk]; exact h.2⟩
  rcases hj2 with rfl | rfl | rfl <;> exact J _ rfl i
theorem xTk.pop {s s' : zS} {g : xT} {l : List xT} (h : xTk s (g :: l)) (f : zSm s s' [] [87]) (e : zv s' 87 = zv s 87 - 1) : xTk s' l := by
  refine ⟨h.1.2.fr (fun j _ i _ => f.a j i (by simp)), ?_⟩
  have := h.2
  have e2 : (g :: l).length = l.length + 1 := rfl
  rw [e2] at this
  omega
theorem sp_todo {s : zS} {l : List xT} (h : xTk s l) (hl : l.length < 620000) (t n : Nat) (a : Int) {T X : Int} (hT : T = t) (hX : X = n) {Q : zS → Prop} (hq : ∀ s', xTk s' ((t, n, a) :: l) → zSm s s' [88, 89, 90] [87] → Q s') : wr_todoTask s T X a Q := by
  subst hT hX
  unfold wr_todoTask
  unfold wr_todoTask_45
  rw [h.2, Int.toNat_natCast]
  refine ⟨fun _ => ⟨by omega, by omega, by omega, by omega, by omega, by omega, ⟨by omega, by omega⟩, hq _ ⟨⟨⟨?_, ?_, ?_⟩, h.1.fr (fun j hj i hi => ?_)⟩, ?_⟩ ?_⟩, fun c => absurd c (by omega)⟩
  · simp only [za_pv, za_pa, reduceIte, Nat.reduceEqDiff]
  · simp only [za_pv, za_pa, reduceIte, Nat.reduceEqDiff]
  · simp only [za_pv, za_pa, reduceIte, Nat.reduceEqDiff]
  · have hi2 : ¬ i = l.length := by omega
    rcases hj with rfl | rfl | rfl <;> simp only [za_pv, za_pa, reduceIte, Nat.reduceEqDiff, hi2]
  · rw [zv_pv, if_pos rfl]
    show (l.length : Int) + 1 = ((l.length + 1 : Nat) : Int)
    omega
  · exact (((zSm.rf.pa rfl).pa rfl).pa rfl).pv rfl
theorem sp_push (s : zS) (a : Int) {v : Nat} (hv : zv s 91 = v) (h1 : v < 300000) {Q : zS → Prop} (hq : ∀ s', zSm s s' [92] [91] → zv s' 91 = ((v + 1 : Nat) : Int) → Q s') : wr_push s a Q := by
  unfold wr_push
  rw [hv]
  refine ⟨fun _ => ⟨by omega, by omega, ⟨by omega, by omega⟩, hq _ ((zSm.rf.pa rfl).pv rfl) ?_⟩, fun c => absurd c (by omega)⟩
  rw [zv_pv, if_pos rfl]
  omega
theorem sp_pop (s : zS) {v : Nat} (hv : zv s 91 = ((v + 1 : Nat) : Int)) (h1 : v < 300000) {Q : Int → zS → Prop} (hq : ∀ r s', zSm s s' [] [91] → zv s' 91 = (v : Int) → Q r s') : wr_pop s Q := by
  unfold wr_pop
  rw [hv]
  refine ⟨⟨by omega, by omega⟩, by omega, by omega, hq _ _ (zSm.rf.pv rfl) ?_⟩
  rw [zv_pv, if_pos rfl]
  omega
/-- how a run has come to its end -/
def xEd (s : zS) : Prop := ¬ zv s 102 = 0
theorem sp_err (s : zS) (k : Int) {Q : zS → Prop} (hq : ∀ s', zSm s s' [] [102, 103, 104] → xEd s' → Q s') : wr_err s k Q := by
  unfold wr_err
  refine ⟨fun _ => hq _ (((zSm.rf.pv rfl).pv rfl).pv rfl) ?_, fun c => hq _ zSm.rf c⟩
  show ¬ (1 : Int) = 0
  decide
theorem sp_burns (s : zS) (h0 : 0 ≤ zv s 101) (h1 : zv s 101 ≤ 100000) {Q : Int → zS → Prop} (hq : ∀ s', zSm s s' [] [101] → zv s' 101 = zv s 101 - 1 → 0 ≤ zv s' 101 → Q 1 s') (hz : ∀ s', zSm s s' [] [102, 103, 104] → xEd s' → Q 0 s') : wr_burns s Q := by
  unfold wr_burns
  exact ⟨fun c => ⟨⟨by omega, by omega⟩, hq _ (zSm.rf.pv rfl) rfl (by show 0 ≤ zv s 101 - 1; omega)⟩, fun _ => sp_err s 1 (fun s' f e => hz s' f e)⟩
theorem sp_read (s : zS) (a : Int) (h : zv s 99 ≤ 65536) {Q : Int → zS → Prop} (hq : ∀ r, Q r s) (hz : ∀ r s', zSm s s' [] [102, 103, 104] → xEd s' → Q r s') : wr_read s a Q := by
  unfold wr_read
  exact ⟨fun _ => sp_err s 2 (fun s' f e => hz _ s' f e), fun _ => ⟨fun _ => ⟨by omega, by omega, hq _⟩, fun _ => sp_err s 2 (fun s' f e => hz _ s' f e)⟩⟩
theorem sp_write (s : zS) (a v : Int) (h : zv s 99 ≤ 65536) {Q : zS → Prop} (hq : ∀ s', zSm s s' [98] [] → Q s') (hz : ∀ s', zSm s s' [] [102, 103, 104] → xEd s' → Q s') : wr_write s a v Q := by
  unfold wr_write
  exact ⟨fun _ => sp_err s 2 (fun s' f e => hz s' f e), fun _ => ⟨fun _ => ⟨by omega, by omega, hq _ (zSm.rf.pa rfl)⟩, fun _ => sp_err s 2 (fun s' f e => hz s' f e)⟩⟩
/-! what a jump finds below -/
def hLo : List xT → Prop
  | [] => False
  | g :: L => g.1 = 15 ∨ g.1 = 17 ∧ hLo L
def hVa : List xT → Prop
  | [] => False
  | g :: L => g.1 = 8 ∨ (g.1 = 15 ∨ g.1 = 17) ∧ hVa L
def hSe (p : Nat) : List xT → Prop
  | [] => False
  | g :: L => (g.1 = 17 ∧ g.2.1 = p) ∨ (g.1 = 15 ∨ g.1 = 17) ∧ hSe p L
section RUN
variable (s4 s1 : zS) (kids : Nat → List Nat) (up sz : Nat → Nat) (root N : Nat)
/-- how much the frames may hold -/
def xB (F : List Nat) : Nat := 2700 * F.length
/-- a routine's body -/
def bo (r : Nat) : Nat := (za s1 72 r).toNat
/-- a node that the routine at work comes to -/
def xI (F : List Nat) (x : Nat) : Prop := ∃ r F1, F = r :: F1 ∧ (r : Int) < zv s1 69 ∧ rin (za s4 25) kids (bo s1 r) x
/-- what a command's surroundings ask of the tasks below it -/
def xC (L : List xT) (x : Nat) : Prop := ((cxF (za s4 25) up root N x).2.1 = true → hLo L) ∧ (0 ≤ (cxF (za s4 25) up root N x).2.2.1 → hVa L) ∧ ∀ p ∈ (cxF (za s4 25) up root N x).2.2.2, hSe p L
/-- a VARS's items that are worked out -/
def wkd (x : Nat) : List Nat := (kids x).filter fun c => ¬ za s4 25 c = 58 ∧ ¬ za s4 25 c = 59
/-- a task with L below it, v values, the frames F: what it leaves -/
def xEn : Nat → Nat → Int → List xT → Nat → List Nat → Nat → List Nat → Prop
  | 0, _, _, _, _, _, _, _ => False
  | 1, x, _, L, v, F, v', F' => F' = F ∧ v' = v + 1 ∧ xI s4 s1 kids F x ∧ kE (za s4 25 x) ∧ v + L.length + sz x ≤ xB F
  | 2, x, _, L, v, F, v', F' => F' = F ∧ v = v' + 1 ∧ 1 ≤ v' ∧ xI s4 s1 kids F x ∧ v + L.length ≤ xB F + 1
  | 3, x, _, L, v, F, v', F' => F' = F ∧ v' = v ∧ 1 ≤ v' ∧ xI s4 s1 kids F x ∧ v + L.length ≤ xB F
  | 4, _, _, L, v, F, v', F' => F' = F ∧ v' = v ∧ 1 ≤ v' ∧ v + L.length ≤ xB F
  | 5, x, _, L, v, F, v', F' => F' = F ∧ v' = v ∧ 1 ≤ v' ∧ xI s4 s1 kids F x ∧ za s4 25 x = 12 ∧ v + L.length + sz x ≤ xB F + 1
  | 6, x, a, L, v, F, v', F' => F' = F ∧ 1 ≤ v' ∧ ∃ m i, za s4 25 m = 11 ∧ xI s4 s1 kids F m ∧ 1 ≤ i ∧ i < (kids m).length ∧ gt (kids m) i = x ∧ v' + L.length + sz m ≤ xB F + 1 ∧ (a = 0 ∧ v' = v ∨ a = 1 ∧ v = v' + 1)
  | 7, x, a, L, v, F, v', F' => F' = F ∧ 1 ≤ v' ∧ xI s4 s1 kids F x ∧ za s4 25 x = 6 ∧ v' + L.length + sz x ≤ xB F + 1 ∧ (kids x).length + v' = v + 1 ∧ a + 1 = ((kids x).length : Int)
  | 8, _, a, L, v, F, v', F' => F' = F ∧ v' = v + 1 ∧ a = (v : Int) ∧ v + L.length + 1 ≤ xB F
  | 9, _, _, L, v, F, v', F' => F' = F ∧ v = v' + 1 ∧ 1 ≤ v' ∧ v + L.length ≤ xB F + 1
  | 10, x, _, L, v, F, v', F' => F' = F ∧ v' = v ∧ xI s4 s1 kids F x ∧ kC (za s4 25 x) ∧ v + L.length + sz x ≤ xB F ∧ xC s4 up root N L x
  | 11, x, a, L, v, F, v', F' => F' = F ∧ v' = v ∧ xI s4 s1 kids F x ∧ za s4 25 x = 20 ∧ (∃ i : Nat, (i : Int) ≤ za s4 29 x ∧ a = (gt (kids x) i : Nat)) ∧ v + L.length + sz x ≤ xB F
  | 12, x, _, L, v, F, v', F' => F' = F ∧ (∃ m i : Nat, za s4 25 m = 20 ∧ xI s4 s1 kids F m ∧ (i : Int) < za s4 29 m ∧ gt (kids m) i = x) ∧ (za s4 25 x = 1 ∧ v = v' + 1 ∨ za s4 25 x = 7 ∧ v = v' + 2 ∨ za s4 25 x = 9 ∧ v = v' + 3) ∧ v' + L.length + 3 ≤ xB F + 1
  | 13, _, _, L, v, F, v', F' => F' = F ∧ v = v' + 1 ∧ v' + L.length + 1 ≤ xB F
  | 14, x, _, L, v, F, v', F' => F' = F ∧ v = v' + 1 ∧ xI s4 s1 kids F x ∧ (za s4 25 x = 22 ∨ za s4 25 x = 23 ∨ za s4 25 x = 24) ∧ v' + L.length + sz x ≤ xB F ∧ xC s4 up root N L x
  | 15, x, _, L, v, F, v', F' => F' = F ∧ v' = v ∧ xI s4 s1 kids F x ∧ (za s4 25 x = 25 ∨ za s4 25 x = 26 ∨ za s4 25 x = 27 ∨ za s4 25 x = 38 ∨ za s4 25 x = 39 ∨ za s4 25 x = 40) ∧ v + L.length + sz x ≤ xB F ∧ xC s4 up root N L x
  | 16, x, _, L, v, F, v', F' => F' = F ∧ v = v' + 1 ∧ xI s4 s1 kids F x ∧ ((za s4 25 x = 25 ∨ za s4 25 x = 26) ∧ (∃ a2 L2, L = (15, x, a2) :: L2) ∨ (za s4 25 x = 39 ∨ za s4 25 x = 40) ∧ v' + L.length + sz x ≤ xB F ∧ xC s4 up root N L x)
  | 17, x, a, L, v, F, v', F' => F' = F ∧ v' = v ∧ xI s4 s1 kids F x ∧ (za s4 25 x = 28 ∨ za s4 25 x = 36) ∧ (a = -1 ∨ ∃ c ∈ kids x, a = (c : Int) ∧ (za s4 25 c = 41 ∨ kD (za s4 25 c))) ∧ v + L.length + sz x ≤ xB F ∧ xC s4 up root N L x
  | 18, x, a, L, v, F, v', F' => (∃ r, F = r :: F' ∧ (r : Int) < zv s1 69 ∧ (za s4 25 (bo s1 r) < 20 ∧ x = 1 ∧ v = v' ∨ 20 ≤ za s4 25 (bo s1 r) ∧ x = 0)) ∧ 0 ≤ a ∧ a + 1 = (v' : Int) ∧ v' + L.length ≤ xB F
  | 19, x, _, L, v, F, v', F' => F' = F ∧ v = v' + (wkd s4 kids x).length ∧ xI s4 s1 kids F x ∧ za s4 25 x = 55 ∧ v + L.length + 1 ≤ xB F
  | 20, x, _, L, v, F, v', F' => F' = F ∧ v = v' + 2 ∧ xI s4 s1 kids F x ∧ za s4 25 x = 27 ∧ v' + L.length + sz x ≤ xB F ∧ xC s4 up root N L x
  | 21, x, _, L, v, F, v', F' => F' = F ∧ v = v' + 1 ∧ xI s4 s1 kids F x ∧ za s4 25 x = 28 ∧ v' + L.length + sz x ≤ xB F ∧ xC s4 up root N L x
  | 22, _, _, L, v, F, v', F' => F' = F ∧ v = v' + 1 ∧ hVa L ∧ v' + L.length + 1 ≤ xB F
  | 23, x, a, L, v, F, v', F' => F' = F ∧ v = v' + 1 ∧ 1 ≤ v' ∧ x ≤ 17 ∧ 0 ≤ a ∧ a ≤ 65536 ∧ v' + L.length ≤ xB F
  | _ + 24, _, _, _, _, _, _, _ => False
/-- the tasks fit one another -/
def xOk : List xT → Nat → List Nat → Prop
  | [], v, F => v = 1 ∧ F = []
  | g :: L, v, F => ∃ v' F', xEn s4 s1 kids up sz root N g.1 g.2.1 g.2.2 L v F v' F' ∧ xOk L v' F'
/-- the frames' places -/
def xFr (s : zS) : List Nat → Int → Int → Prop
  | [], _, _ => True
  | q :: F, b, r => r = q ∧ 0 ≤ b ∧ b + za s1 70 q ≤ 65536 ∧ (q : Int) < zv s1 69 ∧ xFr s F (za s 93 F.length) (za s 94 F.length)
end RUN
