/-! THE RUN: ONE STEP -/
theorem xFr.fr {s1 s s' : zS} : ∀ {F : List Nat} {b r : Int}, xFr s1 s F b r → (∀ i, i < F.length → za s' 93 i = za s 93 i ∧ za s' 94 i = za s 94 i) → xFr s1 s' F b r
  | [], _, _, _, _ => trivial
  | q :: F, b, r, h, e => by
    have hl : F.length < (q :: F).length := by show F.length < F.length + 1; omega
    obtain ⟨h1, h2, h3, h4, h5⟩ := h
    refine ⟨h1, h2, h3, h4, ?_⟩
    rw [(e _ hl).1, (e _ hl).2]
    exact xFr.fr h5 (fun i hi => e i (by omega))
theorem xIO.sm {s s' : zS} {js ks : List Nat} (h : xIO s) (f : zSm s s' js ks) (hj : ([107, 108, 110, 112, 113, 116].all fun j => !js.contains j) = true) (hk : ([99, 101, 106, 114, 117].all fun k => !ks.contains k) = true) : xIO s' := by
  have J : ∀ j, [107, 108, 110, 112, 113, 116].contains j = true → ∀ i, za s' j i = za s j i := fun j h1 i => f.a j i (by
    have := List.all_eq_true.mp hj j (by simpa using h1)
    simpa using this)
  have K : ∀ k, [99, 101, 106, 114, 117].contains k = true → zv s' k = zv s k := fun k h1 => f.v k (by
    have := List.all_eq_true.mp hk k (by simpa using h1)
    simpa using this)
  obtain ⟨a, b, c, d, e, g, i⟩ := h
  unfold xIO
  rw [K 99 rfl, K 101 rfl, K 106 rfl, K 114 rfl, K 117 rfl]
  refine ⟨a, ⟨b.1, b.2.1, fun k hk => by rw [J 107 rfl, J 108 rfl]; exact b.2.2 k hk⟩, c, d, fun k hk => by rw [J 116 rfl]; exact e k hk, fun k hk => ?_, i⟩
  obtain ⟨g1, g2, g3, g4, g5⟩ := g k hk
  rw [J 112 rfl, J 113 rfl]
  refine ⟨g1, g2, g3, g4, fun q q1 q2 => ?_⟩
  rw [J 112 rfl] at q2 ⊢
  rw [J 110 rfl]
  exact g5 q q1 q2
/-- .. the fuel too -/
theorem xIO.fu {s s' : zS} {js ks : List Nat} (h : xIO s) (f : zSm s s' js ks) (hj : ([107, 108, 110, 112, 113, 116].all fun j => !js.contains j) = true) (hk : ([99, 106, 114, 117].all fun k => !ks.contains k) = true) (h0 : 0 ≤ zv s' 101) (h1 : zv s' 101 ≤ zv s 101) : xIO s' := by
  have J : ∀ j, [107, 108, 110, 112, 113, 116].contains j = true → ∀ i, za s' j i = za s j i := fun j h1 i => f.a j i (by
    have := List.all_eq_true.mp hj j (by simpa using h1)
    simpa using this)
  have K : ∀ k, [99, 106, 114, 117].contains k = true → zv s' k = zv s k := fun k h1 => f.v k (by
    have := List.all_eq_true.mp hk k (by simpa using h1)
    simpa using this)
  obtain ⟨a, b, c, d, e, g, i⟩ := h
  unfold xIO
  rw [K 99 rfl, K 106 rfl, K 114 rfl, K 117 rfl]
  refine ⟨a, ⟨b.1, b.2.1, fun k hk => by rw [J 107 rfl, J 108 rfl]; exact b.2.2 k hk⟩, c, d, fun k hk => by rw [J 116 rfl]; exact e k hk, fun k hk => ?_, h0, Int.le_trans h1 i.2⟩
  obtain ⟨g1, g2, g3, g4, g5⟩ := g k hk
  rw [J 112 rfl, J 113 rfl]
  refine ⟨g1, g2, g3, g4, fun q q1 q2 => ?_⟩
  rw [J 112 rfl] at q2 ⊢
  rw [J 110 rfl]
  exact g5 q q1 q2
/-- the program, the frames, the channels -/
def xBs (s4 s1 s : zS) (F : List Nat) : Prop := xS s4 s1 s ∧ zv s 95 = F.length ∧ F.length ≤ 100 ∧ xFr s1 s F (zv s 96) (zv s 97) ∧ xIO s
theorem xBs.fu {s4 s1 s s' : zS} {F : List Nat} {js ks : List Nat} (h : xBs s4 s1 s F) (f : zSm s s' js ks) (hj : ([25, 27, 28, 29, 30, 31, 32, 70, 71, 72, 85, 93, 94, 107, 108, 110, 112, 113, 116].all fun j => !js.contains j) = true) (hk : ([69, 95, 96, 97, 99, 106, 114, 117].all fun k => !ks.contains k) = true) (h0 : 0 ≤ zv s' 101) (h1 : zv s' 101 ≤ zv s 101) : xBs s4 s1 s' F := by
  have aj : ∀ l : List Nat, l.all (fun z => ([25, 27, 28, 29, 30, 31, 32, 70, 71, 72, 85, 93, 94, 107, 108, 110, 112, 113, 116] : List Nat).contains z) = true → (l.all fun j => !js.contains j) = true := fun l hl => List.all_eq_true.mpr (fun j hj2 => List.all_eq_true.mp hj j (by simpa using List.all_eq_true.mp hl j hj2))
  have ak : ∀ l : List Nat, l.all (fun z => ([69, 95, 96, 97, 99, 106, 114, 117] : List Nat).contains z) = true → (l.all fun k => !ks.contains k) = true := fun l hl => List.all_eq_true.mpr (fun j hj2 => List.all_eq_true.mp hk j (by simpa using List.all_eq_true.mp hl j hj2))
  have nj : ∀ j, ([93, 94] : List Nat).contains j = true → js.contains j = false := fun j q => by
    have := List.all_eq_true.mp (aj [93, 94] rfl) j (by simpa using q)
    simpa using this
  have nk : ∀ k, ([69, 95, 96, 97] : List Nat).contains k = true → ks.contains k = false := fun k q => by
    have := List.all_eq_true.mp (ak [69, 95, 96, 97] rfl) k (by simpa using q)
    simpa using this
  obtain ⟨a, b, c, d, e⟩ := h
  unfold xBs
  rw [f.v 95 (nk 95 rfl), f.v 96 (nk 96 rfl), f.v 97 (nk 97 rfl)]
  exact ⟨a.sm f (aj _ rfl) (nk 69 rfl), b, c, d.fr (fun i _ => ⟨f.a 93 i (nj 93 rfl), f.a 94 i (nj 94 rfl)⟩), e.fu f (aj _ rfl) (ak _ rfl) h0 h1⟩
theorem xBs.sm {s4 s1 s s' : zS} {F : List Nat} {js ks : List Nat} (h : xBs s4 s1 s F) (f : zSm s s' js ks) (hj : ([25, 27, 28, 29, 30, 31, 32, 70, 71, 72, 85, 93, 94, 107, 108, 110, 112, 113, 116].all fun j => !js.contains j) = true) (hk : ([69, 95, 96, 97, 99, 106, 114, 117].all fun k => !ks.contains k) = true) (h101 : ks.contains 101 = false) : xBs s4 s1 s' F := by
  have e := f.v 101 h101
  have := h.2.2.2.2.2.2.2.2.2.2
  exact h.fu f hj hk (by rw [e]; exact this.1) (by rw [e]; exact Int.le_refl _)
section RUN
/-- the run under way: what is to be done, how many values, the frames -/
def xSt (s4 s1 : zS) (kids : Nat → List Nat) (up sz : Nat → Nat) (root N : Nat) (s : zS) (L : List xT) (v : Nat) (F : List Nat) : Prop :=
  xBs s4 s1 s F ∧ xTk s L ∧ zv s 91 = v ∧ xOk s4 s1 kids up sz root N L v F
/-- the sum of f from a sibling on -/
def aft (kids : Nat → List Nat) (up f : Nat → Nat) (a : Nat) : Nat := (((kids (up a)).dropWhile (fun c => !(c == a))).map f).sum
theorem aft_cut {kids : Nat → List Nat} {up f : Nat → Nat} {n a : Nat} {pre post : List Nat} (hk : kids n = pre ++ a :: post) (hu : up a = n) (hnd : (kids n).Nodup) : aft kids up f a = f a + (post.map f).sum := by
  have hp : ∀ l : List Nat, ¬ a ∈ l → (l ++ a :: post).dropWhile (fun c => !(c == a)) = a :: post := by
    intro l
    induction l with
    | nil => intro _; simp [List.dropWhile]
    | cons b l ih =>
      intro hb
      have h1 : ¬ b = a := fun e => hb (by rw [e]; exact List.mem_cons_self ..)
      have h2 : ¬ a ∈ l := fun q => hb (List.mem_cons_of_mem _ q)
      simp [List.dropWhile, h1]
      simpa using ih h2
  unfold aft
  rw [hu, hk, hp pre]
  · rfl
  · rw [hk, List.nodup_append] at hnd
    exact fun q => hnd.2.2 a q a (List.mem_cons_self ..) rfl
/-- a task's weight -/
def xw (kids : Nat → List Nat) (up sz : Nat → Nat) : Nat → Nat → Int → Nat
  | 1, x, _ => 70000 * sz x
  | 5, x, _ => 70000 * sz x - 70000 * sz (gt (kids x) 0) - 1
  | 6, x, a => if a = 0 then 70001 * aft kids up sz x + 20 else 70001 * (aft kids up sz x - sz x) + 10
  | 7, _, _ => 65540
  | 10, x, _ => 70000 * sz x
  | 11, _, a => aft kids up (fun _ => 1000000000) a.toNat
  | 14, x, _ => 70000 * sz x
  | 16, x, _ => 70000 * sz x + 5
  | 17, _, a => if a < 0 then 1 else 70001 * aft kids up sz a.toNat + 5
  | 20, _, _ => 2
  | 21, x, _ => 70001 * sz x + 10
  | 23, _, a => 65538 - a.toNat
  | _, _, _ => 1
def xW (kids : Nat → List Nat) (up sz : Nat → Nat) (L : List xT) : Nat := (L.map fun g => xw kids up sz g.1 g.2.1 g.2.2).sum
theorem xW.c (kids : Nat → List Nat) (up sz : Nat → Nat) (t x : Nat) (a : Int) (L : List xT) : xW kids up sz ((t, x, a) :: L) = xw kids up sz t x a + xW kids up sz L := rfl
/-- what is left to be done, in all -/
def xMu (kids : Nat → List Nat) (up sz : Nat → Nat) (s : zS) (L : List xT) : Nat := (zv s 101).toNat * 100000000000000 + xW kids up sz L
/-- behind a step: ended, or further -/
def xPost (s4 s1 : zS) (kids : Nat → List Nat) (up sz : Nat → Nat) (root N m : Nat) (s' : zS) : Prop := xS s4 s1 s' ∧ xIO s' ∧ (xEd s' ∨ ∃ L v F, xSt s4 s1 kids up sz root N s' L v F ∧ xMu kids up sz s' L < m)
variable {s4 s1 : zS} {kids : Nat → List Nat} {up sz : Nat → Nat} {root N : Nat}
theorem xPost.st {m : Nat} {s' : zS} {L : List xT} {v : Nat} {F : List Nat} (b : xBs s4 s1 s' F) (k : xTk s' L) (hv : zv s' 91 = v) (o : xOk s4 s1 kids up sz root N L v F) (hm : xMu kids up sz s' L < m) : xPost s4 s1 kids up sz root N m s' := ⟨b.1, b.2.2.2.2, Or.inr ⟨L, v, F, ⟨b, k, hv, o⟩, hm⟩⟩
theorem xPost.ed {m : Nat} {s s' : zS} {F : List Nat} {js ks : List Nat} (b : xBs s4 s1 s F) (f : zSm s s' js ks) (e : xEd s') (hj : ([25, 27, 28, 29, 30, 31, 32, 70, 71, 72, 85, 93, 94, 107, 108, 110, 112, 113, 116].all fun j => !js.contains j) = true) (hk : ([69, 95, 96, 97, 99, 106, 114, 117].all fun k => !ks.contains k) = true) (h101 : ks.contains 101 = false) : xPost s4 s1 kids up sz root N m s' := by
  have q := b.sm f hj hk h101
  exact ⟨q.1, q.2.2.2.2, Or.inl e⟩
theorem xSt.op {s : zS} {t x : Nat} {a : Int} {L : List xT} {v : Nat} {F : List Nat} (h : xSt s4 s1 kids up sz root N s ((t, x, a) :: L) v F) : xBs s4 s1 s F ∧ xTk s ((t, x, a) :: L) ∧ zv s 91 = v ∧ ∃ v' F', xEn s4 s1 kids up sz root N t x a L v F v' F' ∧ xOk s4 s1 kids up sz root N L v' F' := h
/-- a step that stays within its frame, without burning: the tasks P come in the place of the first -/
theorem xPost.in {s s' : zS} {t x : Nat} {a : Int} {L P : List xT} {v' : Nat} {F : List Nat} {js ks : List Nat} (b : xBs s4 s1 s F) (f : zSm s s' js ks) (hj : ([25, 27, 28, 29, 30, 31, 32, 70, 71, 72, 85, 93, 94, 107, 108, 110, 112, 113, 116].all fun j => !js.contains j) = true) (hk : ([69, 95, 96, 97, 99, 106, 114, 117].all fun k => !ks.contains k) = true) (h101 : ks.contains 101 = false) (k : xTk s' (P ++ L)) (hv : zv s' 91 = (v' : Nat)) (o : xOk s4 s1 kids up sz root N (P ++ L) v' F) (hm : xW kids up sz P < xw kids up sz t x a) : xPost s4 s1 kids up sz root N (xMu kids up sz s ((t, x, a) :: L)) s' := by
  refine xPost.st (b.sm f hj hk h101) k hv o ?_
  unfold xMu
  rw [f.v 101 h101, xW.c]
  have e : xW kids up sz (P ++ L) = xW kids up sz P + xW kids up sz L := by
    unfold xW
    rw [List.map_append, List.sum_append]
  omega
end RUN
