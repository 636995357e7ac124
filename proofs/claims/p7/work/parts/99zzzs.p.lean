/-! THE CLASS IN WHOLE NUMBERS: what its rows hold -/
theorem yz_add (A : cS) (j k : Nat) (x : Int) : yz (yadd A j x) k = if k = j then yz A k + 1 else yz A k := rfl
theorem yz_pv (A : cS) (j k : Nat) (x : Int) : yz (ypv A j x) k = yz A k := rfl
theorem yz_set (A : cS) (j k : Nat) (i x : Int) : yz (yset A j i x) k = yz A k := rfl
theorem yz_cut (A : cS) (j k : Nat) (i : Int) : yz (ycut A j i) k = if k = j then (if 0 ≤ i ∧ i < (yz A k : Int) then i.toNat else yz A k) else yz A k := rfl
theorem yz_pop (A : cS) (j k : Nat) : yz (ypop A j) k = if k = j then yz A k - 1 else yz A k := rfl
theorem yv_add (A : cS) (j k : Nat) (x : Int) : yv (yadd A j x) k = yv A k := rfl
theorem yv_set (A : cS) (j k : Nat) (i x : Int) : yv (yset A j i x) k = yv A k := rfl
theorem yv_cut (A : cS) (j k : Nat) (i : Int) : yv (ycut A j i) k = yv A k := rfl
theorem yv_pop (A : cS) (j k : Nat) : yv (ypop A j) k = yv A k := rfl
theorem yv_pv (A : cS) (j k : Nat) (x : Int) : yv (ypv A j x) k = if k = j then x else yv A k := rfl
theorem ypv2 (A : cS) (k : Nat) (x y : Int) : ypv (ypv A k x) k y = ypv A k y := by
  refine Prod.ext rfl (Prod.ext rfl (funext fun m => ?_))
  show (if m = k then y else if m = k then x else A.2.2 m) = (if m = k then y else A.2.2 m)
  split <;> rfl
theorem yget_pv (A : cS) (k j : Nat) (x i : Int) : yget (ypv A k x) j i = yget A j i := rfl
theorem yget_add (A : cS) (j k : Nat) (x i : Int) : yget (yadd A j x) k i = if k = j ∧ i = (yz A j : Nat) then x else yget A k i := by
  have hz : ∀ k, yz A k = A.1 k := fun _ => rfl
  unfold yget
  rw [yz_add]
  show (if 0 ≤ i ∧ i < ((if k = j then yz A k + 1 else yz A k : Nat) : Int) then (if k = j then (if i.toNat = A.1 k then x else A.2.1 k i.toNat) else A.2.1 k i.toNat) else 0) = (if k = j ∧ i = (yz A j : Nat) then x else if 0 ≤ i ∧ i < ((yz A k : Nat) : Int) then A.2.1 k i.toNat else 0)
  have h1 := hz k
  by_cases e : k = j
  · subst e
    repeat' split
    all_goals first | rfl | (exfalso; omega)
  · repeat' split
    all_goals first | rfl | (exfalso; omega)
theorem yget_out {A : cS} {j : Nat} {i : Int} (h : ¬ (0 ≤ i ∧ i < ((yz A j : Nat) : Int))) : yget A j i = 0 := if_neg h
theorem yget_set (A : cS) (j k : Nat) (i x m : Int) : yget (yset A j i x) k m = if (k = j ∧ m = i) ∧ 0 ≤ i ∧ i < (yz A j : Nat) then x else yget A k m := by
  have hz : ∀ k, yz A k = A.1 k := fun _ => rfl
  unfold yget
  rw [yz_set]
  show (if 0 ≤ m ∧ m < ((yz A k : Nat) : Int) then (if k = j then (if (0 ≤ i ∧ i < (A.1 k : Int)) ∧ m.toNat = i.toNat then x else A.2.1 k m.toNat) else A.2.1 k m.toNat) else 0) = (if (k = j ∧ m = i) ∧ 0 ≤ i ∧ i < (yz A j : Nat) then x else if 0 ≤ m ∧ m < ((yz A k : Nat) : Int) then A.2.1 k m.toNat else 0)
  have h1 := hz k
  by_cases e : k = j
  · subst e
    repeat' split
    all_goals first | rfl | (exfalso; omega)
  · repeat' split
    all_goals first | rfl | (exfalso; omega)
theorem yget_cut (A : cS) (j k : Nat) (i m : Int) : yget (ycut A j i) k m = if k = j ∧ 0 ≤ i ∧ i ≤ m then 0 else yget A k m := by
  have hz : ∀ k, yz A k = A.1 k := fun _ => rfl
  unfold yget
  rw [yz_cut]
  show (if 0 ≤ m ∧ m < ((if k = j then (if 0 ≤ i ∧ i < ((yz A k : Nat) : Int) then i.toNat else yz A k) else yz A k : Nat) : Int) then A.2.1 k m.toNat else 0) = (if k = j ∧ 0 ≤ i ∧ i ≤ m then 0 else if 0 ≤ m ∧ m < ((yz A k : Nat) : Int) then A.2.1 k m.toNat else 0)
  have h1 := hz k
  by_cases e : k = j
  · subst e
    repeat' split
    all_goals first | rfl | (exfalso; omega)
  · repeat' split
    all_goals first | rfl | (exfalso; omega)
theorem yget_pop (A : cS) (j k : Nat) (m : Int) : yget (ypop A j) k m = if k = j ∧ m = ((yz A j : Nat) : Int) - 1 then 0 else yget A k m := by
  have hz : ∀ k, yz A k = A.1 k := fun _ => rfl
  unfold yget
  rw [yz_pop]
  show (if 0 ≤ m ∧ m < ((if k = j then yz A k - 1 else yz A k : Nat) : Int) then A.2.1 k m.toNat else 0) = (if k = j ∧ m = ((yz A j : Nat) : Int) - 1 then 0 else if 0 ≤ m ∧ m < ((yz A k : Nat) : Int) then A.2.1 k m.toNat else 0)
  have h1 := hz k
  by_cases e : k = j
  · subst e
    repeat' split
    all_goals first | rfl | (exfalso; omega)
  · repeat' split
    all_goals first | rfl | (exfalso; omega)
/-- a row's cells within a range (0 too, where there is none) -/
def yrg (A : cS) (j : Nat) (lo hi : Int) : Prop := lo ≤ 0 ∧ 0 ≤ hi ∧ ∀ i, lo ≤ yget A j i ∧ yget A j i ≤ hi
theorem yrg.add {A : cS} {j k : Nat} {lo hi x : Int} (h : yrg A j lo hi) (hx : k = j → lo ≤ x ∧ x ≤ hi) : yrg (yadd A k x) j lo hi := ⟨h.1, h.2.1, fun i => by
  rw [yget_add]
  split
  · rename_i c
    exact hx c.1.symm
  · exact h.2.2 i⟩
theorem yrg.set {A : cS} {j k : Nat} {lo hi m x : Int} (h : yrg A j lo hi) (hx : k = j → lo ≤ x ∧ x ≤ hi) : yrg (yset A k m x) j lo hi := ⟨h.1, h.2.1, fun i => by
  rw [yget_set]
  split
  · rename_i c
    exact hx c.1.1.symm
  · exact h.2.2 i⟩
theorem yrg.cut {A : cS} {j k : Nat} {lo hi m : Int} (h : yrg A j lo hi) : yrg (ycut A k m) j lo hi := ⟨h.1, h.2.1, fun i => by
  rw [yget_cut]
  split
  · exact ⟨h.1, h.2.1⟩
  · exact h.2.2 i⟩
theorem yrg.pop {A : cS} {j k : Nat} {lo hi : Int} (h : yrg A j lo hi) : yrg (ypop A k) j lo hi := ⟨h.1, h.2.1, fun i => by
  rw [yget_pop]
  split
  · exact ⟨h.1, h.2.1⟩
  · exact h.2.2 i⟩
theorem yrg.pv {A : cS} {j k : Nat} {lo hi x : Int} (h : yrg A j lo hi) : yrg (ypv A k x) j lo hi := h
theorem yrg.sm {A A' : cS} {j : Nat} {lo hi : Int} {js ks : List Nat} (h : yrg A j lo hi) (f : ySm A A' js ks) (hj : js.contains j = false) : yrg A' j lo hi := ⟨h.1, h.2.1, fun i => by rw [f.g j i hj]; exact h.2.2 i⟩
/-! THE CLASS'S SCANNER -/
/-- the rows of tokens: k at most with the one that may be understood -/
def sT (A : cS) (k : Int) : Prop := yz A 14 = yz A 15 ∧ yz A 14 = yz A 16 ∧ ((yz A 14 : Nat) : Int) + (if yv A 9 = 0 then 0 else 1) ≤ k ∧ yrg A 14 0 99 ∧ yrg A 16 0 1400
theorem sT.le {A : cS} {k k' : Int} (h : sT A k) (hk : k ≤ k') : sT A k' := ⟨h.1, h.2.1, Int.le_trans h.2.2.1 hk, h.2.2.2⟩
theorem sT.sm {A A' : cS} {k : Int} {js ks : List Nat} (h : sT A k) (f : ySm A A' js ks) (hj : ([14, 15, 16].all fun j => !js.contains j) = true) (hk : ks.contains 9 = false) : sT A' k := by
  have J : ∀ j, [14, 15, 16].contains j = true → js.contains j = false := fun j h1 => by
    have := List.all_eq_true.mp hj j (by simpa using h1)
    simpa using this
  unfold sT
  rw [f.z 14 (J 14 rfl), f.z 15 (J 15 rfl), f.z 16 (J 16 rfl), f.v 9 hk]
  exact ⟨h.1, h.2.1, h.2.2.1, h.2.2.2.1.sm f (J 14 rfl), h.2.2.2.2.sm f (J 16 rfl)⟩
theorem sp_mayEnd (A : cS) (a : Int) {Q : Int → cS → Prop} (hq : ∀ r, Q r A) : wc_Scanner_mayEnd A a Q := by
  unfold wc_Scanner_mayEnd
  exact ⟨fun _ => hq _, fun _ => hq _⟩
theorem sp_mayBegin (A : cS) (a : Int) {Q : Int → cS → Prop} (hq : ∀ r, Q r A) : wc_Scanner_mayBegin A a Q := by
  unfold wc_Scanner_mayBegin
  unfold wc_Scanner_mayBegin_74
  exact ⟨fun _ => hq _, fun _ => ⟨fun _ => hq _, fun _ => ⟨fun _ => hq _, fun _ => hq _⟩⟩⟩
theorem cs_put0 {A : cS} {k : Int} (h : sT A k) (hk : k ≤ 1390) {a b c : Int} (ha : 0 ≤ a ∧ a ≤ 99) (hc : 0 ≤ c ∧ c ≤ 1400) {Q : cS → Prop} (hq : ∀ A', ySm A A' [14, 15, 16] [9] → sT A' (k + 1) → Q A') : wc_Scanner_put A a b c Q := by
  obtain ⟨h1, h2, h3, h4, h5⟩ := h
  have one : ∀ (A1 : cS), ySm A A1 [14, 15, 16] [9] → yz A1 14 = yz A1 15 → yz A1 14 = yz A1 16 → ((yz A1 14 : Nat) : Int) ≤ k → yrg A1 14 0 99 → yrg A1 16 0 1400 → wc_Scanner_put_52 Q A1 a b c := fun A1 f z1 z2 z3 z4 z5 => by
    unfold wc_Scanner_put_52
    refine ⟨by omega, by omega, by omega, hq _ ((((f.pv rfl).add rfl).add rfl).add rfl) ⟨?_, ?_, ?_, ?_, ?_⟩⟩
    · simp only [yz_add, yz_pv]
      show yz A1 14 + 1 = yz A1 15 + 1
      omega
    · simp only [yz_add, yz_pv]
      show yz A1 14 + 1 = yz A1 16 + 1
      omega
    · simp only [yz_add, yz_pv, yv_add, yv_pv]
      show ((yz A1 14 + 1 : Nat) : Int) + 0 ≤ k + 1
      omega
    · exact ((z4.pv.add (fun _ => ha)).add (fun e => absurd e (by decide))).add (fun e => absurd e (by decide))
    · exact ((z5.pv.add (fun e => absurd e (by decide))).add (fun e => absurd e (by decide))).add (fun _ => hc)
  have z : ((yz A 14 : Nat) : Int) ≤ k := by split at h3 <;> omega
  have o := one A ySm.rf h1 h2 z h4 h5
  unfold wc_Scanner_put
  refine ⟨fun _ => o, fun n9 => sp_mayEnd _ _ (fun r => ⟨fun _ => o, fun _ => sp_mayBegin _ _ (fun r => ⟨fun _ => o, fun _ => ?_⟩)⟩)⟩
  rw [if_neg n9] at h3
  refine ⟨by omega, by omega, by omega, one _ (((ySm.rf.add rfl).add rfl).add rfl) ?_ ?_ ?_ ?_ ?_⟩
  · simp only [yz_add]
    show yz A 14 + 1 = yz A 15 + 1
    omega
  · simp only [yz_add]
    show yz A 14 + 1 = yz A 16 + 1
    omega
  · simp only [yz_add]
    show ((yz A 14 + 1 : Nat) : Int) ≤ k
    omega
  · exact ((h4.add (fun _ => by omega)).add (fun e => absurd e (by decide))).add (fun e => absurd e (by decide))
  · exact ((h5.add (fun e => absurd e (by decide))).add (fun e => absurd e (by decide))).add (fun _ => hc)
