/-! THE CHECK: HOW IT STANDS -/
abbrev cT : Type := Int × Int × Int
def cTr (s : zS) : List cT → Prop
  | [] => True
  | g :: r => (za s 64 r.length = g.1 ∧ za s 65 r.length = g.2.1 ∧ za s 66 r.length = g.2.2) ∧ cTr s r
theorem cTr.fr {s s' : zS} : ∀ {l : List cT}, cTr s l → (∀ j, (j = 64 ∨ j = 65 ∨ j = 66) → ∀ i, i < l.length → za s' j i = za s j i) → cTr s' l
  | [], _, _ => trivial
  | g :: r, h, e => by
    have hl : r.length < (g :: r).length := by show r.length < r.length + 1; omega
    exact ⟨⟨by rw [e 64 (by decide) _ hl]; exact h.1.1, by rw [e 65 (by decide) _ hl]; exact h.1.2.1, by rw [e 66 (by decide) _ hl]; exact h.1.2.2⟩, cTr.fr h.2 (fun j hj i hi => e j hj i (by omega))⟩
/-- the tasks -/
def cTk (s : zS) (l : List cT) : Prop := cTr s l ∧ zv s 63 = l.length
theorem cTk.sm {s s' : zS} {l : List cT} {js ks : List Nat} (h : cTk s l) (f : zSm s s' js ks) (hj : ([64, 65, 66].all fun j => !js.contains j) = true) (hk : ks.contains 63 = false) : cTk s' l := by
  have J : ∀ j, [64, 65, 66].contains j = true → ∀ i, za s' j i = za s j i := fun j h1 i => f.a j i (by
    have := List.all_eq_true.mp hj j (by simpa using h1)
    simpa using this)
  refine ⟨h.1.fr (fun j hj2 i _ => ?_), by rw [f.v 63 hk]; exact h.2⟩
  rcases hj2 with rfl | rfl | rfl <;> exact J _ rfl i
theorem sp_task {s : zS} {l : List cT} (h : cTk s l) (hl : l.length < 26000) (t n a : Int) {Q : zS → Prop} (hq : ∀ s', cTk s' ((t, n, a) :: l) → zSm s s' [64, 65, 66] [63] → Q s') : wr_task s t n a Q := by
  unfold wr_task
  rw [h.2, Int.toNat_natCast]
  refine ⟨by omega, by omega, by omega, by omega, by omega, by omega, ⟨by omega, by omega⟩, hq _ ⟨⟨⟨?_, ?_, ?_⟩, h.1.fr (fun j hj i hi => ?_)⟩, ?_⟩ ?_⟩
  · simp only [za_pv, za_pa, reduceIte, Nat.reduceEqDiff]
  · simp only [za_pv, za_pa, reduceIte, Nat.reduceEqDiff]
  · simp only [za_pv, za_pa, reduceIte, Nat.reduceEqDiff]
  · have hi2 : ¬ i = l.length := by omega
    rcases hj with rfl | rfl | rfl <;> simp only [za_pv, za_pa, reduceIte, Nat.reduceEqDiff, hi2]
  · rw [zv_pv, if_pos rfl]
    show (l.length : Int) + 1 = ((l.length + 1 : Nat) : Int)
    omega
  · exact (((zSm.rf.pa rfl).pa rfl).pa rfl).pv rfl
theorem sp_put {s : zS} {v : Int} (h0 : 0 ≤ zv s 67) (h1 : zv s 67 < 60000) {Q : zS → Prop} (hq : ∀ s', zSm s s' [68] [67] → zv s' 67 = zv s 67 + 1 → (∀ i : Nat, (i : Int) < zv s 67 → za s' 68 i = za s 68 i) → za s' 68 (zv s 67).toNat = v → Q s') : wr_put s v Q := by
  unfold wr_put
  refine ⟨h0, by omega, ⟨by omega, by omega⟩, hq _ ((zSm.rf.pa rfl).pv rfl) rfl (fun i hi => ?_) ?_⟩
  · rw [za_pv, za_pa, if_pos rfl, if_neg (by omega)]
  · rw [za_pv, za_pa, if_pos rfl, if_pos rfl]
theorem sp_pull {s : zS} (h0 : 1 ≤ zv s 67) (h1 : zv s 67 ≤ 60000) {Q : Int → zS → Prop} (hq : Q (za s 68 (zv s 67 - 1).toNat) (zpv s 67 (zv s 67 - 1))) : wr_pull s Q := by
  unfold wr_pull
  exact ⟨⟨by omega, by omega⟩, by omega, by omega, hq⟩
theorem sp_init (s : zS) (a v : Int) (h0 : 0 ≤ zv s 84) (h1 : zv s 84 ≤ 9000) {Q : zS → Prop} (hq : ∀ s', zSm s s' [85, 86] [84] → 0 ≤ zv s' 84 → zv s' 84 ≤ 9000 → (∀ k : Nat, (k : Int) < zv s' 84 → za s' 85 k = a ∨ (k : Int) < zv s 84 ∧ za s' 85 k = za s 85 k) → Q s') : wr_init_ s a v Q := by
  unfold wr_init_
  refine ⟨fun c => ⟨h0, by omega, h0, by omega, ⟨by omega, by omega⟩, hq _ (((zSm.rf.pa rfl).pa rfl).pv rfl) ?_ ?_ (fun k hk => ?_)⟩, fun _ => hq _ zSm.rf h0 h1 (fun k hk => Or.inr ⟨hk, rfl⟩)⟩
  · rw [zv_pv, if_pos rfl]; omega
  · rw [zv_pv, if_pos rfl]; omega
  · rw [zv_pv, if_pos rfl] at hk
    simp only [za_pv, za_pa, reduceIte, Nat.reduceEqDiff]
    by_cases e : k = (zv s 84).toNat
    · rw [if_pos e]; exact Or.inl rfl
    · rw [if_neg e]; exact Or.inr ⟨by omega, rfl⟩
/-- one more entry -/
def cEn (s s' : zS) (a k v st o : Int) : Prop := zSm s s' [50, 51, 52, 53, 54, 57] [12, 13, 49] ∧ fm s s' ∧ zv s' 49 = zv s 49 + 1 ∧ (∀ e : Nat, (e : Int) < zv s 49 → za s' 50 e = za s 50 e ∧ za s' 51 e = za s 51 e ∧ za s' 52 e = za s 52 e ∧ za s' 53 e = za s 53 e ∧ za s' 54 e = za s 54 e) ∧ ∀ e : Nat, (e : Int) = zv s 49 → za s' 50 e = a ∧ za s' 51 e = k ∧ za s' 52 e = v ∧ za s' 53 e = st ∧ za s' 54 e = o
def cTo (s : zS) : Prop := ∀ e : Nat, 0 ≤ za s 57 e ∧ za s 57 e ≤ 12000
theorem sp_entry (s : zS) (a k v st o : Int) (h0 : 0 ≤ zv s 49) (h1 : zv s 49 < 9000) : wr_entry s a k v st o (fun r s' => r = zv s 49 ∧ zSm s s' [50, 51, 52, 53, 54] [49] ∧ cEn s s' a k v st o) := by
  unfold wr_entry
  have f : zSm s (zpv (zpa (zpa (zpa (zpa (zpa s 50 (Int.toNat (zv s 49)) a) 51 (Int.toNat (zv s 49)) k) 52 (Int.toNat (zv s 49)) v) 53 (Int.toNat (zv s 49)) st) 54 (Int.toNat (zv s 49)) o) 49 ((zv s 49) + 1)) [50, 51, 52, 53, 54] [49] := (((((zSm.rf.pa rfl).pa rfl).pa rfl).pa rfl).pa rfl).pv rfl
  refine ⟨h0, h1, h0, h1, h0, h1, h0, h1, h0, h1, ⟨by omega, by omega⟩, ⟨by omega, by omega⟩, by omega, f, zSm.rf.tr f rfl rfl, fm.sm f rfl, rfl, fun e he => ?_, fun e he => ?_⟩
  · have he2 : ¬ e = (zv s 49).toNat := by omega
    simp only [za_pv, za_pa, reduceIte, Nat.reduceEqDiff, he2]
    exact ⟨trivial, trivial, trivial, trivial, trivial⟩
  · have he2 : e = (zv s 49).toNat := by omega
    subst he2
    simp only [za_pv, za_pa, reduceIte, Nat.reduceEqDiff]
    exact ⟨trivial, trivial, trivial, trivial, trivial⟩
theorem sp_declare (s : zS) (a tok k v st o : Int) (h0 : 0 ≤ zv s 49) (h1 : zv s 49 < 9000) (b0 : 0 ≤ zv s 55) (hb : zv s 55 ≤ zv s 49) (ht : 0 ≤ tok) (ht2 : tok ≤ 12000) (hT : cTo s) {Q : Int → zS → Prop} (hq : ∀ s', cEn s s' a k v st o → cTo s' → Q (zv s 49) s') : wr_declare s a tok k v st o Q := by
  have L : ∀ (n : Nat) (s1 : zS) (x : Int), zSm s s1 [] [12, 13] → fm s s1 → zv s 55 ≤ x + 1 → x < zv s 49 → x + 1 < n → wr_declare_8 Q n s1 a tok k v st o x := by
    intro n
    induction n with
    | zero => intro s1 x f m h2 h3 h4; omega
    | succ n ih =>
      intro s1 x f m h2 h3 h4
      have e55 : zv s1 55 = zv s 55 := f.v 55 rfl
      have e49 : zv s1 49 = zv s 49 := f.v 49 rfl
      unfold wr_declare_8
      unfold wr_declare_8B
      rw [e55]
      refine ⟨fun c => ?_, fun c => ⟨by omega, by omega, fun _ => ⟨⟨by omega, by omega⟩, ih s1 _ f m (by omega) (by omega) (by omega)⟩, fun _ => ?_⟩⟩
      · refine ffm_entry (sp_entry s1 a k v st o (by omega) (by omega)) ?_
        rintro r s2 - ⟨rfl, f2, -, m2, e2, e3, e4⟩
        rw [e49] at e2 e3 e4 ⊢
        have f3 : zSm s s2 [50, 51, 52, 53, 54, 57] [12, 13, 49] := (zSm.rf.tr f rfl rfl : zSm s s1 [50, 51, 52, 53, 54, 57] [12, 13, 49]).tr f2 rfl rfl
        refine ⟨by omega, by omega, hq _ ⟨f3.pa rfl, fun q => m2 (m q), e2, fun e he => ?_, fun e he => e4 e he⟩ (fun e => ?_)⟩
        · obtain ⟨g1, g2, g3, g4, g5⟩ := e3 e he
          have o : ∀ j, za s1 j e = za s j e := fun j => f.a j e rfl
          rw [o] at g1 g2 g3 g4 g5
          exact ⟨g1, g2, g3, g4, g5⟩
        · rw [za_pa, if_pos rfl]
          split
          · exact ⟨ht, ht2⟩
          · rw [f2.a 57 e rfl, f.a 57 e rfl]
            exact hT e
      · have hx := hT x.toNat
        have e57 : za s1 57 x.toNat = za s 57 x.toNat := f.a 57 _ rfl
        have F : ∀ r, wr_fault s1 4 r (fun s32 => (zR (x + (-1))) ∧ wr_declare_8 Q n s32 a tok k v st o (x + (-1))) := fun r => by
          refine ffm_fault (sp_faultN s1 4 r (by decide)) ?_
          rintro s2 - ⟨f2, q2⟩
          exact ⟨⟨by omega, by omega⟩, ih s2 _ (f.tr f2 rfl rfl) (fun _ => q2) (by omega) (by omega) (by omega)⟩
        unfold wr_tokenOfTwice
        rw [e57]
        exact ⟨by omega, by omega, fun _ => sp_place s1 _ ht ht2 F, fun _ => ⟨by omega, by omega, sp_place s1 _ hx.1 hx.2 F⟩⟩
  unfold wr_declare
  exact ⟨⟨by omega, by omega⟩, (zv s 49).toNat + 1, L _ s _ zSm.rf fm.rf (by omega) (by omega) (by omega)⟩
theorem sp_nameToken (s : zS) (n : Nat) (hn : n < 26000) (h : 0 ≤ za s 26 n ∧ za s 26 n ≤ 12000) {Q : Int → zS → Prop} (hq : ∀ r, Q r s) : wr_nameToken s n Q := by
  unfold wr_nameToken
  rw [Int.toNat_natCast]
  exact ⟨by omega, by omega, by omega, by omega, hq _⟩
theorem sp_uses (s : zS) (a : Int) (h0 : 0 ≤ zv s 74) (h1 : zv s 74 ≤ 75000) (a0 : 0 ≤ a) (a1 : a ≤ 30001) {Q : zS → Prop} (hq : ∀ s', zSm s s' [] [74, 75] → zv s 75 ≤ zv s' 75 → zv s 74 ≤ zv s' 74 → (zv s' 74 ≤ 75000) → (zv s' 75 ≤ zv s 75 ∨ zv s' 75 ≤ 75000) → (zv s 74 + a ≤ zv s' 75 ∨ 32000 < zv s' 75) → Q s') : wr_uses s a Q := by
  unfold wr_uses
  have f1 : ∀ x, zSm s (zpv s 74 x) [] [74, 75] := fun x => zSm.rf.pv rfl
  have f2 : ∀ x y, zSm s (zpv (zpv s 74 x) 75 y) [] [74, 75] := fun x y => (f1 x).pv rfl
  refine ⟨fun c => ⟨⟨by omega, by omega⟩, fun c2 => hq _ (f1 _) ?_ ?_ ?_ ?_ ?_, fun c2 => hq _ (f2 _ _) ?_ ?_ ?_ ?_ ?_⟩, fun c => ⟨fun c2 => hq _ (f1 _) ?_ ?_ ?_ ?_ ?_, fun c2 => hq _ (f2 _ _) ?_ ?_ ?_ ?_ ?_⟩⟩
  all_goals simp only [zv_pv, reduceIte, Nat.reduceEqDiff]
  all_goals omega

