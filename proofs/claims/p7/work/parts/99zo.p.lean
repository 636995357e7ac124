/-! THE CHECK: WHAT HOLDS ALL ALONG -/
/-- an entry -/
def eOk (s0 : zS) (kids : Nat → List Nat) (root : Nat) (s : zS) (e : Nat) : Prop := (1 ≤ za s 51 e ∧ za s 51 e ≤ 6) ∧ (za s 51 e = 1 → 0 ≤ za s 52 e ∧ za s 52 e ≤ 99) ∧ (za s 51 e = 3 → ∃ c : Nat, za s 52 e = c ∧ wNd s0 kids root c) ∧ (za s 51 e = 4 → 0 ≤ za s 52 e ∧ za s 53 e < zv s 69) ∧ (za s 51 e = 5 → za s 53 e < zv s 69 ∧ za s 54 e ≤ zv s 78 ∧ ∃ c p : Nat, za s 52 e = c ∧ lNd s0 kids c p)
theorem eOk.fr {s0 : zS} {kids : Nat → List Nat} {root : Nat} {s s' : zS} {e : Nat} (h : eOk s0 kids root s e) (g : za s' 51 e = za s 51 e ∧ za s' 52 e = za s 52 e ∧ za s' 53 e = za s 53 e ∧ (za s 51 e = 5 → za s' 54 e = za s 54 e)) (h69 : zv s 69 ≤ zv s' 69) (h78 : zv s 78 ≤ zv s' 78) : eOk s0 kids root s' e := by
  obtain ⟨g1, g2, g3, g4⟩ := g
  obtain ⟨h1, h2, h3, h4, h5⟩ := h
  unfold eOk
  rw [g1, g2, g3]
  refine ⟨h1, h2, h3, fun k => ?_, fun k => ?_⟩
  · have := h4 k; omega
  · obtain ⟨q1, q2, q3⟩ := h5 k
    rw [g4 k]
    exact ⟨by omega, by omega, q3⟩

def GI (s0 : zS) (kids : Nat → List Nat) (root : Nat) (s : zS) : Prop :=
  (zSm s0 s [29, 30, 31, 50, 51, 52, 53, 54, 57, 60, 61, 62, 64, 65, 66, 68, 70, 71, 72, 85, 86] [12, 13, 49, 55, 58, 59, 63, 67, 69, 73, 74, 75, 76, 77, 78, 79, 80, 81, 82, 84]) ∧
  (∀ x : Nat, ¬ za s0 25 x = 27 → ¬ za s0 25 x = 43 → ¬ za s0 25 x = 54 → ¬ za s0 25 x = 59 → za s 29 x = za s0 29 x) ∧
  (0 ≤ zv s 49 ∧ zv s 49 ≤ 9000) ∧
  (cTo s) ∧
  (∀ e : Nat, (e : Int) < zv s 49 → eOk s0 kids root s e) ∧
  (0 ≤ zv s 55 ∧ zv s 55 ≤ zv s 49) ∧
  (0 ≤ zv s 67) ∧
  (0 ≤ zv s 69 ∧ -1 ≤ zv s 73 ∧ zv s 73 < zv s 69 + 1) ∧
  (0 ≤ zv s 73 → zv s 73 < zv s 69) ∧
  (0 ≤ zv s 74 ∧ zv s 74 ≤ 75000) ∧
  (zv s 76 = 0 ∨ zv s 76 = 1) ∧
  (0 ≤ zv s 77 ∧ zv s 77 ≤ zv s 78) ∧
  (0 ≤ zv s 79) ∧
  (0 ≤ zv s 80) ∧
  (100 ≤ zv s 81) ∧
  (0 ≤ zv s 84 ∧ zv s 84 ≤ 9000 ∧ ∀ k : Nat, (k : Int) < zv s 84 → 0 ≤ za s 85 k ∧ (za s 85 k ≤ 99 ∨ za s 85 k < zv s 81))
theorem GI.st {s0 : zS} {kids : Nat → List Nat} {root : Nat} {s : zS} (h : GI s0 kids root s) : zSm s0 s [29, 30, 31, 50, 51, 52, 53, 54, 57, 60, 61, 62, 64, 65, 66, 68, 70, 71, 72, 85, 86] [12, 13, 49, 55, 58, 59, 63, 67, 69, 73, 74, 75, 76, 77, 78, 79, 80, 81, 82, 84] := h.1
theorem GI.sa {s0 : zS} {kids : Nat → List Nat} {root : Nat} {s : zS} (h : GI s0 kids root s) : ∀ x : Nat, ¬ za s0 25 x = 27 → ¬ za s0 25 x = 43 → ¬ za s0 25 x = 54 → ¬ za s0 25 x = 59 → za s 29 x = za s0 29 x := h.2.1
theorem GI.en {s0 : zS} {kids : Nat → List Nat} {root : Nat} {s : zS} (h : GI s0 kids root s) : 0 ≤ zv s 49 ∧ zv s 49 ≤ 9000 := h.2.2.1
theorem GI.tk {s0 : zS} {kids : Nat → List Nat} {root : Nat} {s : zS} (h : GI s0 kids root s) : cTo s := h.2.2.2.1
theorem GI.eg {s0 : zS} {kids : Nat → List Nat} {root : Nat} {s : zS} (h : GI s0 kids root s) : ∀ e : Nat, (e : Int) < zv s 49 → eOk s0 kids root s e := h.2.2.2.2.1
theorem GI.bb {s0 : zS} {kids : Nat → List Nat} {root : Nat} {s : zS} (h : GI s0 kids root s) : 0 ≤ zv s 55 ∧ zv s 55 ≤ zv s 49 := h.2.2.2.2.2.1
theorem GI.sv {s0 : zS} {kids : Nat → List Nat} {root : Nat} {s : zS} (h : GI s0 kids root s) : 0 ≤ zv s 67 := h.2.2.2.2.2.2.1
theorem GI.ro {s0 : zS} {kids : Nat → List Nat} {root : Nat} {s : zS} (h : GI s0 kids root s) : 0 ≤ zv s 69 ∧ -1 ≤ zv s 73 ∧ zv s 73 < zv s 69 + 1 := h.2.2.2.2.2.2.2.1
theorem GI.rt {s0 : zS} {kids : Nat → List Nat} {root : Nat} {s : zS} (h : GI s0 kids root s) : 0 ≤ zv s 73 → zv s 73 < zv s 69 := h.2.2.2.2.2.2.2.2.1
theorem GI.iu {s0 : zS} {kids : Nat → List Nat} {root : Nat} {s : zS} (h : GI s0 kids root s) : 0 ≤ zv s 74 ∧ zv s 74 ≤ 75000 := h.2.2.2.2.2.2.2.2.2.1
theorem GI.gv {s0 : zS} {kids : Nat → List Nat} {root : Nat} {s : zS} (h : GI s0 kids root s) : zv s 76 = 0 ∨ zv s 76 = 1 := h.2.2.2.2.2.2.2.2.2.2.1
theorem GI.vf {s0 : zS} {kids : Nat → List Nat} {root : Nat} {s : zS} (h : GI s0 kids root s) : 0 ≤ zv s 77 ∧ zv s 77 ≤ zv s 78 := h.2.2.2.2.2.2.2.2.2.2.2.1
theorem GI.lo {s0 : zS} {kids : Nat → List Nat} {root : Nat} {s : zS} (h : GI s0 kids root s) : 0 ≤ zv s 79 := h.2.2.2.2.2.2.2.2.2.2.2.2.1
theorem GI.sw {s0 : zS} {kids : Nat → List Nat} {root : Nat} {s : zS} (h : GI s0 kids root s) : 0 ≤ zv s 80 := h.2.2.2.2.2.2.2.2.2.2.2.2.2.1
theorem GI.wd {s0 : zS} {kids : Nat → List Nat} {root : Nat} {s : zS} (h : GI s0 kids root s) : 100 ≤ zv s 81 := h.2.2.2.2.2.2.2.2.2.2.2.2.2.2.1
theorem GI.it {s0 : zS} {kids : Nat → List Nat} {root : Nat} {s : zS} (h : GI s0 kids root s) : 0 ≤ zv s 84 ∧ zv s 84 ≤ 9000 ∧ ∀ k : Nat, (k : Int) < zv s 84 → 0 ≤ za s 85 k ∧ (za s 85 k ≤ 99 ∨ za s 85 k < zv s 81) := h.2.2.2.2.2.2.2.2.2.2.2.2.2.2.2

theorem GI.sm {s0 s s' : zS} {kids : Nat → List Nat} {root : Nat} {js ks : List Nat} (h : GI s0 kids root s) (f : zSm s s' js ks) (hj : ([29, 50, 51, 52, 53, 54, 57, 85].all fun j => !js.contains j) = true) (hk : ([49, 55, 67, 69, 73, 74, 76, 77, 78, 79, 80, 81, 84].all fun k => !ks.contains k) = true) (hj2 : js.all (fun z => ([29, 30, 31, 50, 51, 52, 53, 54, 57, 60, 61, 62, 64, 65, 66, 68, 70, 71, 72, 85, 86] : List Nat).contains z) = true) (hk2 : ks.all (fun z => ([12, 13, 49, 55, 58, 59, 63, 67, 69, 73, 74, 75, 76, 77, 78, 79, 80, 81, 82, 84] : List Nat).contains z) = true) : GI s0 kids root s' := by
  have J : ∀ j, [29, 50, 51, 52, 53, 54, 57, 85].contains j = true → ∀ i, za s' j i = za s j i := fun j h1 i => f.a j i (by
    have := List.all_eq_true.mp hj j (by simpa using h1)
    simpa using this)
  have K : ∀ k, [49, 55, 67, 69, 73, 74, 76, 77, 78, 79, 80, 81, 84].contains k = true → zv s' k = zv s k := fun k h1 => f.v k (by
    have := List.all_eq_true.mp hk k (by simpa using h1)
    simpa using this)
  have a29 := J 29 rfl
  have a50 := J 50 rfl
  have a51 := J 51 rfl
  have a52 := J 52 rfl
  have a53 := J 53 rfl
  have a54 := J 54 rfl
  have a57 := J 57 rfl
  have a85 := J 85 rfl
  have v49 := K 49 rfl
  have v55 := K 55 rfl
  have v67 := K 67 rfl
  have v69 := K 69 rfl
  have v73 := K 73 rfl
  have v74 := K 74 rfl
  have v76 := K 76 rfl
  have v77 := K 77 rfl
  have v78 := K 78 rfl
  have v79 := K 79 rfl
  have v80 := K 80 rfl
  have v81 := K 81 rfl
  have v84 := K 84 rfl
  refine ⟨h.st.tr f hj2 hk2, fun x n1 n2 n3 n4 => by rw [a29]; exact h.sa x n1 n2 n3 n4, by rw [v49]; exact h.en, fun e => by rw [a57]; exact h.tk e, fun e he => ?_, by rw [v55, v49]; exact h.bb, by rw [v67]; exact h.sv, by rw [v69, v73]; exact h.ro, by rw [v69, v73]; exact h.rt, by rw [v74]; exact h.iu, by rw [v76]; exact h.gv, by rw [v77, v78]; exact h.vf, by rw [v79]; exact h.lo, by rw [v80]; exact h.sw, by rw [v81]; exact h.wd, by rw [v84]; exact h.it.1, by rw [v84]; exact h.it.2.1, fun k hk3 => ?_⟩
  · rw [v49] at he
    exact (h.eg e he).fr ⟨a51 e, a52 e, a53 e, fun _ => a54 e⟩ (by rw [v69]; exact Int.le_refl _) (by rw [v78]; exact Int.le_refl _)
  · rw [v84] at hk3
    rw [a85, v81]
    exact h.it.2.2 k hk3

theorem GI.smS {s0 s s' : zS} {kids : Nat → List Nat} {root : Nat} {js ks : List Nat} (h : GI s0 kids root s) (h67 : 0 ≤ zv s' 67) (f : zSm s s' js ks) (hj : ([29, 50, 51, 52, 53, 54, 57, 85].all fun j => !js.contains j) = true) (hk : ([49, 55, 69, 73, 74, 76, 77, 78, 79, 80, 81, 84].all fun k => !ks.contains k) = true) (hj2 : js.all (fun z => ([29, 30, 31, 50, 51, 52, 53, 54, 57, 60, 61, 62, 64, 65, 66, 68, 70, 71, 72, 85, 86] : List Nat).contains z) = true) (hk2 : ks.all (fun z => ([12, 13, 49, 55, 58, 59, 63, 67, 69, 73, 74, 75, 76, 77, 78, 79, 80, 81, 82, 84] : List Nat).contains z) = true) : GI s0 kids root s' := by
  have J : ∀ j, [29, 50, 51, 52, 53, 54, 57, 85].contains j = true → ∀ i, za s' j i = za s j i := fun j h1 i => f.a j i (by
    have := List.all_eq_true.mp hj j (by simpa using h1)
    simpa using this)
  have K : ∀ k, [49, 55, 69, 73, 74, 76, 77, 78, 79, 80, 81, 84].contains k = true → zv s' k = zv s k := fun k h1 => f.v k (by
    have := List.all_eq_true.mp hk k (by simpa using h1)
    simpa using this)
  have a29 := J 29 rfl
  have a50 := J 50 rfl
  have a51 := J 51 rfl
  have a52 := J 52 rfl
  have a53 := J 53 rfl
  have a54 := J 54 rfl
  have a57 := J 57 rfl
  have a85 := J 85 rfl
  have v49 := K 49 rfl
  have v55 := K 55 rfl
  have v69 := K 69 rfl
  have v73 := K 73 rfl
  have v74 := K 74 rfl
  have v76 := K 76 rfl
  have v77 := K 77 rfl
  have v78 := K 78 rfl
  have v79 := K 79 rfl
  have v80 := K 80 rfl
  have v81 := K 81 rfl
  have v84 := K 84 rfl
  refine ⟨h.st.tr f hj2 hk2, fun x n1 n2 n3 n4 => by rw [a29]; exact h.sa x n1 n2 n3 n4, by rw [v49]; exact h.en, fun e => by rw [a57]; exact h.tk e, fun e he => ?_, by rw [v55, v49]; exact h.bb, h67, by rw [v69, v73]; exact h.ro, by rw [v69, v73]; exact h.rt, by rw [v74]; exact h.iu, by rw [v76]; exact h.gv, by rw [v77, v78]; exact h.vf, by rw [v79]; exact h.lo, by rw [v80]; exact h.sw, by rw [v81]; exact h.wd, by rw [v84]; exact h.it.1, by rw [v84]; exact h.it.2.1, fun k hk3 => ?_⟩
  · rw [v49] at he
    exact (h.eg e he).fr ⟨a51 e, a52 e, a53 e, fun _ => a54 e⟩ (by rw [v69]; exact Int.le_refl _) (by rw [v78]; exact Int.le_refl _)
  · rw [v84] at hk3
    rw [a85, v81]
    exact h.it.2.2 k hk3

theorem GI.p74 {s0 s : zS} {kids : Nat → List Nat} {root : Nat} (h : GI s0 kids root s) {x : Int} (hx : 0 ≤ x ∧ x ≤ 75000) : GI s0 kids root (zpv s 74 x) := ⟨h.st.pv rfl, h.sa, h.en, h.tk, h.eg, h.bb, h.sv, h.ro, h.rt, hx, h.gv, h.vf, h.lo, h.sw, h.wd, h.it⟩
theorem GI.p76 {s0 s : zS} {kids : Nat → List Nat} {root : Nat} (h : GI s0 kids root s) {x : Int} (hx : x = 0 ∨ x = 1) : GI s0 kids root (zpv s 76 x) := ⟨h.st.pv rfl, h.sa, h.en, h.tk, h.eg, h.bb, h.sv, h.ro, h.rt, h.iu, hx, h.vf, h.lo, h.sw, h.wd, h.it⟩
theorem GI.p79 {s0 s : zS} {kids : Nat → List Nat} {root : Nat} (h : GI s0 kids root s) {x : Int} (hx : 0 ≤ x) : GI s0 kids root (zpv s 79 x) := ⟨h.st.pv rfl, h.sa, h.en, h.tk, h.eg, h.bb, h.sv, h.ro, h.rt, h.iu, h.gv, h.vf, hx, h.sw, h.wd, h.it⟩
theorem GI.p80 {s0 s : zS} {kids : Nat → List Nat} {root : Nat} (h : GI s0 kids root s) {x : Int} (hx : 0 ≤ x) : GI s0 kids root (zpv s 80 x) := ⟨h.st.pv rfl, h.sa, h.en, h.tk, h.eg, h.bb, h.sv, h.ro, h.rt, h.iu, h.gv, h.vf, h.lo, hx, h.wd, h.it⟩
theorem GI.p67 {s0 s : zS} {kids : Nat → List Nat} {root : Nat} (h : GI s0 kids root s) {x : Int} (hx : 0 ≤ x) : GI s0 kids root (zpv s 67 x) := ⟨h.st.pv rfl, h.sa, h.en, h.tk, h.eg, h.bb, hx, h.ro, h.rt, h.iu, h.gv, h.vf, h.lo, h.sw, h.wd, h.it⟩
theorem GI.p55 {s0 s : zS} {kids : Nat → List Nat} {root : Nat} (h : GI s0 kids root s) {x : Int} (hx : 0 ≤ x ∧ x ≤ zv s 49) : GI s0 kids root (zpv s 55 x) := ⟨h.st.pv rfl, h.sa, h.en, h.tk, h.eg, hx, h.sv, h.ro, h.rt, h.iu, h.gv, h.vf, h.lo, h.sw, h.wd, h.it⟩
theorem GI.p77 {s0 s : zS} {kids : Nat → List Nat} {root : Nat} (h : GI s0 kids root s) {x : Int} (hx : 0 ≤ x ∧ x ≤ zv s 78) : GI s0 kids root (zpv s 77 x) := ⟨h.st.pv rfl, h.sa, h.en, h.tk, h.eg, h.bb, h.sv, h.ro, h.rt, h.iu, h.gv, hx, h.lo, h.sw, h.wd, h.it⟩
theorem GI.p78 {s0 s : zS} {kids : Nat → List Nat} {root : Nat} (h : GI s0 kids root s) {x : Int} (hx : zv s 78 ≤ x) : GI s0 kids root (zpv s 78 x) := ⟨h.st.pv rfl, h.sa, h.en, h.tk, fun e he => (h.eg e he).fr ⟨rfl, rfl, rfl, fun _ => rfl⟩ (Int.le_refl _) hx, h.bb, h.sv, h.ro, h.rt, h.iu, h.gv, ⟨h.vf.1, Int.le_trans h.vf.2 hx⟩, h.lo, h.sw, h.wd, h.it⟩
theorem GI.p69 {s0 s : zS} {kids : Nat → List Nat} {root : Nat} (h : GI s0 kids root s) {x : Int} (hx : zv s 69 ≤ x) : GI s0 kids root (zpv s 69 x) := ⟨h.st.pv rfl, h.sa, h.en, h.tk, fun e he => (h.eg e he).fr ⟨rfl, rfl, rfl, fun _ => rfl⟩ hx (Int.le_refl _), h.bb, h.sv, ⟨Int.le_trans h.ro.1 hx, h.ro.2.1, by have := h.ro.2.2; show zv s 73 < x + 1; omega⟩, fun q => by have := h.rt q; show zv s 73 < x; omega, h.iu, h.gv, h.vf, h.lo, h.sw, h.wd, h.it⟩
theorem GI.p73 {s0 s : zS} {kids : Nat → List Nat} {root : Nat} (h : GI s0 kids root s) {x : Int} (hx : -1 ≤ x ∧ x < zv s 69 + 1 ∧ (0 ≤ x → x < zv s 69)) : GI s0 kids root (zpv s 73 x) := ⟨h.st.pv rfl, h.sa, h.en, h.tk, h.eg, h.bb, h.sv, ⟨h.ro.1, hx.1, hx.2.1⟩, hx.2.2, h.iu, h.gv, h.vf, h.lo, h.sw, h.wd, h.it⟩
theorem GI.p81 {s0 s : zS} {kids : Nat → List Nat} {root : Nat} (h : GI s0 kids root s) {x : Int} (hx : zv s 81 ≤ x) : GI s0 kids root (zpv s 81 x) := ⟨h.st.pv rfl, h.sa, h.en, h.tk, h.eg, h.bb, h.sv, h.ro, h.rt, h.iu, h.gv, h.vf, h.lo, h.sw, Int.le_trans h.wd hx, ⟨h.it.1, h.it.2.1, fun k hk => by have := h.it.2.2 k hk; show 0 ≤ za s 85 k ∧ (za s 85 k ≤ 99 ∨ za s 85 k < x); omega⟩⟩
theorem GI.p29 {s0 s : zS} {kids : Nat → List Nat} {root : Nat} (h : GI s0 kids root s) {n : Nat} {x : Int} (hx : za s0 25 n = 27 ∨ za s0 25 n = 43 ∨ za s0 25 n = 54 ∨ za s0 25 n = 59) : GI s0 kids root (zpa s 29 n x) := ⟨h.st.pa rfl, fun y n1 n2 n3 n4 => by rw [za_pa, if_pos rfl, if_neg (fun e => by subst e; rcases hx with q | q | q | q <;> first | exact n1 q | exact n2 q | exact n3 q | exact n4 q)]; exact h.sa y n1 n2 n3 n4, h.en, h.tk, h.eg, h.bb, h.sv, h.ro, h.rt, h.iu, h.gv, h.vf, h.lo, h.sw, h.wd, h.it⟩
theorem GI.p49 {s0 s : zS} {kids : Nat → List Nat} {root : Nat} (h : GI s0 kids root s) {x y : Int} (hx : 0 ≤ x ∧ x ≤ zv s 49) (hy : 0 ≤ y ∧ y ≤ x) : GI s0 kids root (zpv (zpv s 49 x) 55 y) := ⟨(h.st.pv rfl).pv rfl, h.sa, ⟨hx.1, Int.le_trans hx.2 h.en.2⟩, h.tk, fun e he => h.eg e (Int.lt_of_lt_of_le he hx.2), hy, h.sv, h.ro, h.rt, h.iu, h.gv, h.vf, h.lo, h.sw, h.wd, h.it⟩
theorem GI.p49b {s0 s : zS} {kids : Nat → List Nat} {root : Nat} (h : GI s0 kids root s) {x : Int} (hx : 0 ≤ x ∧ x ≤ zv s 49) (hy : zv s 55 ≤ x) : GI s0 kids root (zpv s 49 x) := ⟨h.st.pv rfl, h.sa, ⟨hx.1, Int.le_trans hx.2 h.en.2⟩, h.tk, fun e he => h.eg e (Int.lt_of_lt_of_le he hx.2), ⟨h.bb.1, hy⟩, h.sv, h.ro, h.rt, h.iu, h.gv, h.vf, h.lo, h.sw, h.wd, h.it⟩
theorem GI.p54 {s0 s : zS} {kids : Nat → List Nat} {root : Nat} (h : GI s0 kids root s) {i : Nat} {x : Int} (hi : za s 51 i = 1) : GI s0 kids root (zpa s 54 i x) := ⟨h.st.pa rfl, h.sa, h.en, h.tk, fun e he => (h.eg e he).fr ⟨rfl, rfl, rfl, fun k => by rw [za_pa, if_pos rfl, if_neg (fun q => by rw [q, hi] at k; exact absurd k (by decide))]⟩ (Int.le_refl _) (Int.le_refl _), h.bb, h.sv, h.ro, h.rt, h.iu, h.gv, h.vf, h.lo, h.sw, h.wd, h.it⟩
theorem GI.ent {s0 s s' : zS} {kids : Nat → List Nat} {root : Nat} {a k v st ot : Int} (h : GI s0 kids root s) (g : cEn s s' a k v st ot) (t : cTo s') (h9 : zv s 49 < 9000) (hk : ∀ e : Nat, (e : Int) = zv s 49 → eOk s0 kids root s' e) : GI s0 kids root s' := by
  obtain ⟨f, -, g2, g3, -⟩ := g
  have v55 := f.v 55 rfl
  have v67 := f.v 67 rfl
  have v69 := f.v 69 rfl
  have v73 := f.v 73 rfl
  have v74 := f.v 74 rfl
  have v76 := f.v 76 rfl
  have v77 := f.v 77 rfl
  have v78 := f.v 78 rfl
  have v79 := f.v 79 rfl
  have v80 := f.v 80 rfl
  have v81 := f.v 81 rfl
  have v84 := f.v 84 rfl
  refine ⟨h.st.tr f rfl rfl, fun x n1 n2 n3 n4 => by rw [f.a 29 x rfl]; exact h.sa x n1 n2 n3 n4, by rw [g2]; have := h.en; omega, t, fun e he => ?_, by rw [v55, g2]; have := h.bb; omega, by rw [v67]; exact h.sv, by rw [v69, v73]; exact h.ro, by rw [v69, v73]; exact h.rt, by rw [v74]; exact h.iu, by rw [v76]; exact h.gv, by rw [v77, v78]; exact h.vf, by rw [v79]; exact h.lo, by rw [v80]; exact h.sw, by rw [v81]; exact h.wd, by rw [v84]; exact h.it.1, by rw [v84]; exact h.it.2.1, fun k hk3 => ?_⟩
  · rw [g2] at he
    by_cases e2 : (e : Int) = zv s 49
    · exact hk e e2
    · obtain ⟨-, q2, q3, q4, q5⟩ := g3 e (by omega)
      exact (h.eg e (by omega)).fr ⟨q2, q3, q4, fun _ => q5⟩ (by rw [v69]; exact Int.le_refl _) (by rw [v78]; exact Int.le_refl _)
  · rw [v84] at hk3
    rw [f.a 85 k rfl, v81]
    exact h.it.2.2 k hk3

theorem GI.ini {s0 s s' : zS} {kids : Nat → List Nat} {root : Nat} {a : Int} (h : GI s0 kids root s) (f : zSm s s' [85, 86] [84]) (g0 : 0 ≤ zv s' 84) (g1 : zv s' 84 ≤ 9000) (g : ∀ k : Nat, (k : Int) < zv s' 84 → za s' 85 k = a ∨ (k : Int) < zv s 84 ∧ za s' 85 k = za s 85 k) (ha : 0 ≤ a ∧ (a ≤ 99 ∨ a < zv s 81)) : GI s0 kids root s' := by
  have v49 := f.v 49 rfl
  have v55 := f.v 55 rfl
  have v67 := f.v 67 rfl
  have v69 := f.v 69 rfl
  have v73 := f.v 73 rfl
  have v74 := f.v 74 rfl
  have v76 := f.v 76 rfl
  have v77 := f.v 77 rfl
  have v78 := f.v 78 rfl
  have v79 := f.v 79 rfl
  have v80 := f.v 80 rfl
  have v81 := f.v 81 rfl
  have a29 := fun i => f.a 29 i rfl
  have a50 := fun i => f.a 50 i rfl
  have a51 := fun i => f.a 51 i rfl
  have a52 := fun i => f.a 52 i rfl
  have a53 := fun i => f.a 53 i rfl
  have a54 := fun i => f.a 54 i rfl
  have a57 := fun i => f.a 57 i rfl
  refine ⟨h.st.tr f rfl rfl, fun x n1 n2 n3 n4 => by rw [a29]; exact h.sa x n1 n2 n3 n4, by rw [v49]; exact h.en, fun e => by rw [a57]; exact h.tk e, fun e he => ?_, by rw [v55, v49]; exact h.bb, by rw [v67]; exact h.sv, by rw [v69, v73]; exact h.ro, by rw [v69, v73]; exact h.rt, by rw [v74]; exact h.iu, by rw [v76]; exact h.gv, by rw [v77, v78]; exact h.vf, by rw [v79]; exact h.lo, by rw [v80]; exact h.sw, by rw [v81]; exact h.wd, g0, g1, fun k hk3 => ?_⟩
  · rw [v49] at he
    exact (h.eg e he).fr ⟨a51 e, a52 e, a53 e, fun _ => a54 e⟩ (by rw [v69]; exact Int.le_refl _) (by rw [v78]; exact Int.le_refl _)
  · rw [v81]
    rcases g k hk3 with q | ⟨q1, q2⟩
    · rw [q]; exact ha
    · rw [q2]; exact h.it.2.2 k q1

/-- what a task leaves; D: the nodes that it writes to, w: how many nodes -/
def cP (s s' : zS) (D : Nat → Prop) (w : Nat) : Prop :=
  (fm s s') ∧
  (zv s' 67 = zv s 67) ∧
  (∀ i : Nat, (i : Int) < zv s 67 → za s' 68 i = za s 68 i) ∧
  (zv s 49 ≤ zv s' 49) ∧
  (zv s' 49 ≤ zv s 49 + w) ∧
  (∀ e : Nat, (e : Int) < zv s 49 → za s' 50 e = za s 50 e ∧ za s' 51 e = za s 51 e ∧ za s' 52 e = za s 52 e ∧ za s' 53 e = za s 53 e ∧ (¬ za s 51 e = 1 → za s' 54 e = za s 54 e)) ∧
  (zv s' 55 = zv s 55) ∧
  (zv s' 73 = zv s 73) ∧
  (zv s' 76 = zv s 76) ∧
  (zv s' 77 = zv s 77) ∧
  (zv s' 79 = zv s 79) ∧
  (zv s' 80 = zv s 80) ∧
  (zv s 75 ≤ zv s' 75) ∧
  (zv s 81 ≤ zv s' 81) ∧
  (zv s' 81 ≤ zv s 81 + 60 * w) ∧
  (zv s 69 ≤ zv s' 69) ∧
  (zv s' 69 ≤ zv s 69 + w) ∧
  (∀ r : Nat, (r : Int) < zv s 69 → za s' 70 r = za s 70 r ∧ za s' 71 r = za s 71 r ∧ za s' 72 r = za s 72 r) ∧
  (zv s 78 ≤ zv s' 78) ∧
  (zv s' 78 ≤ zv s 78 + w) ∧
  (∀ x : Nat, ¬ D x → za s' 29 x = za s 29 x ∧ za s' 30 x = za s 30 x ∧ za s' 31 x = za s 31 x)
theorem cP.m {s s' : zS} {D : Nat → Prop} {w : Nat} (h : cP s s' D w) : fm s s' := h.1
theorem cP.s67 {s s' : zS} {D : Nat → Prop} {w : Nat} (h : cP s s' D w) : zv s' 67 = zv s 67 := h.2.1
theorem cP.sv {s s' : zS} {D : Nat → Prop} {w : Nat} (h : cP s s' D w) : ∀ i : Nat, (i : Int) < zv s 67 → za s' 68 i = za s 68 i := h.2.2.1
theorem cP.e1 {s s' : zS} {D : Nat → Prop} {w : Nat} (h : cP s s' D w) : zv s 49 ≤ zv s' 49 := h.2.2.2.1
theorem cP.e2 {s s' : zS} {D : Nat → Prop} {w : Nat} (h : cP s s' D w) : zv s' 49 ≤ zv s 49 + w := h.2.2.2.2.1
theorem cP.er {s s' : zS} {D : Nat → Prop} {w : Nat} (h : cP s s' D w) : ∀ e : Nat, (e : Int) < zv s 49 → za s' 50 e = za s 50 e ∧ za s' 51 e = za s 51 e ∧ za s' 52 e = za s 52 e ∧ za s' 53 e = za s 53 e ∧ (¬ za s 51 e = 1 → za s' 54 e = za s 54 e) := h.2.2.2.2.2.1
theorem cP.s55 {s s' : zS} {D : Nat → Prop} {w : Nat} (h : cP s s' D w) : zv s' 55 = zv s 55 := h.2.2.2.2.2.2.1
theorem cP.s73 {s s' : zS} {D : Nat → Prop} {w : Nat} (h : cP s s' D w) : zv s' 73 = zv s 73 := h.2.2.2.2.2.2.2.1
theorem cP.s76 {s s' : zS} {D : Nat → Prop} {w : Nat} (h : cP s s' D w) : zv s' 76 = zv s 76 := h.2.2.2.2.2.2.2.2.1
theorem cP.s77 {s s' : zS} {D : Nat → Prop} {w : Nat} (h : cP s s' D w) : zv s' 77 = zv s 77 := h.2.2.2.2.2.2.2.2.2.1
theorem cP.s79 {s s' : zS} {D : Nat → Prop} {w : Nat} (h : cP s s' D w) : zv s' 79 = zv s 79 := h.2.2.2.2.2.2.2.2.2.2.1
theorem cP.s80 {s s' : zS} {D : Nat → Prop} {w : Nat} (h : cP s s' D w) : zv s' 80 = zv s 80 := h.2.2.2.2.2.2.2.2.2.2.2.1
theorem cP.mu {s s' : zS} {D : Nat → Prop} {w : Nat} (h : cP s s' D w) : zv s 75 ≤ zv s' 75 := h.2.2.2.2.2.2.2.2.2.2.2.2.1
theorem cP.w1 {s s' : zS} {D : Nat → Prop} {w : Nat} (h : cP s s' D w) : zv s 81 ≤ zv s' 81 := h.2.2.2.2.2.2.2.2.2.2.2.2.2.1
theorem cP.w2 {s s' : zS} {D : Nat → Prop} {w : Nat} (h : cP s s' D w) : zv s' 81 ≤ zv s 81 + 60 * w := h.2.2.2.2.2.2.2.2.2.2.2.2.2.2.1
theorem cP.r1 {s s' : zS} {D : Nat → Prop} {w : Nat} (h : cP s s' D w) : zv s 69 ≤ zv s' 69 := h.2.2.2.2.2.2.2.2.2.2.2.2.2.2.2.1
theorem cP.r2 {s s' : zS} {D : Nat → Prop} {w : Nat} (h : cP s s' D w) : zv s' 69 ≤ zv s 69 + w := h.2.2.2.2.2.2.2.2.2.2.2.2.2.2.2.2.1
theorem cP.rr {s s' : zS} {D : Nat → Prop} {w : Nat} (h : cP s s' D w) : ∀ r : Nat, (r : Int) < zv s 69 → za s' 70 r = za s 70 r ∧ za s' 71 r = za s 71 r ∧ za s' 72 r = za s 72 r := h.2.2.2.2.2.2.2.2.2.2.2.2.2.2.2.2.2.1
theorem cP.v1 {s s' : zS} {D : Nat → Prop} {w : Nat} (h : cP s s' D w) : zv s 78 ≤ zv s' 78 := h.2.2.2.2.2.2.2.2.2.2.2.2.2.2.2.2.2.2.1
theorem cP.v2 {s s' : zS} {D : Nat → Prop} {w : Nat} (h : cP s s' D w) : zv s' 78 ≤ zv s 78 + w := h.2.2.2.2.2.2.2.2.2.2.2.2.2.2.2.2.2.2.2.1
theorem cP.nd {s s' : zS} {D : Nat → Prop} {w : Nat} (h : cP s s' D w) : ∀ x : Nat, ¬ D x → za s' 29 x = za s 29 x ∧ za s' 30 x = za s 30 x ∧ za s' 31 x = za s 31 x := h.2.2.2.2.2.2.2.2.2.2.2.2.2.2.2.2.2.2.2.2

theorem cP.tr {s s1 s2 : zS} {D1 D2 D : Nat → Prop} {w1 w2 w : Nat} (h : cP s s1 D1 w1) (g : cP s1 s2 D2 w2) (h1 : ∀ x, D1 x → D x) (h2 : ∀ x, D2 x → D x) (hw : w1 + w2 ≤ w) : cP s s2 D w := by
  refine ⟨h.m.tr g.m, by rw [g.s67, h.s67], fun i hi => by rw [g.sv i (by rw [h.s67]; exact hi), h.sv i hi], Int.le_trans h.e1 g.e1, by have := h.e2; have := g.e2; omega, fun e he => ?_, by rw [g.s55, h.s55], by rw [g.s73, h.s73], by rw [g.s76, h.s76], by rw [g.s77, h.s77], by rw [g.s79, h.s79], by rw [g.s80, h.s80], Int.le_trans h.mu g.mu, Int.le_trans h.w1 g.w1, by have := h.w2; have := g.w2; omega, Int.le_trans h.r1 g.r1, by have := h.r2; have := g.r2; omega, fun r hr => ?_, Int.le_trans h.v1 g.v1, by have := h.v2; have := g.v2; omega, fun x hx => ?_⟩
  · obtain ⟨a1, a2, a3, a4, a5⟩ := h.er e he
    obtain ⟨b1, b2, b3, b4, b5⟩ := g.er e (Int.lt_of_lt_of_le he h.e1)
    exact ⟨by rw [b1, a1], by rw [b2, a2], by rw [b3, a3], by rw [b4, a4], fun q => by rw [b5 (by rw [a2]; exact q), a5 q]⟩
  · obtain ⟨a1, a2, a3⟩ := h.rr r hr
    obtain ⟨b1, b2, b3⟩ := g.rr r (Int.lt_of_lt_of_le hr h.r1)
    exact ⟨by rw [b1, a1], by rw [b2, a2], by rw [b3, a3]⟩
  · obtain ⟨a1, a2, a3⟩ := h.nd x (fun q => hx (h1 x q))
    obtain ⟨b1, b2, b3⟩ := g.nd x (fun q => hx (h2 x q))
    exact ⟨by rw [b1, a1], by rw [b2, a2], by rw [b3, a3]⟩
theorem cP.wk {s s1 : zS} {D1 D : Nat → Prop} {w1 w : Nat} (h : cP s s1 D1 w1) (h1 : ∀ x, D1 x → D x) (hw : w1 ≤ w) : cP s s1 D w := ⟨h.m, h.s67, h.sv, h.e1, by have := h.e2; omega, h.er, h.s55, h.s73, h.s76, h.s77, h.s79, h.s80, h.mu, h.w1, by have := h.w2; omega, h.r1, by have := h.r2; omega, h.rr, h.v1, by have := h.v2; omega, fun x hx => h.nd x (fun q => hx (h1 x q))⟩

/-- fields that the relation doesn't speak of, and a node's own -/
theorem cP.own {s s' : zS} {D : Nat → Prop} {w : Nat} {js ks : List Nat} (f : zSm s s' js ks) (m : fm s s') (hj : ([50, 51, 52, 53, 54, 68, 70, 71, 72].all fun j => !js.contains j) = true) (hk : ([49, 55, 67, 69, 73, 75, 76, 77, 78, 79, 80, 81].all fun k => !ks.contains k) = true) (hn : ∀ x : Nat, ¬ D x → za s' 29 x = za s 29 x ∧ za s' 30 x = za s 30 x ∧ za s' 31 x = za s 31 x) : cP s s' D w := by
  have J : ∀ j, [50, 51, 52, 53, 54, 68, 70, 71, 72].contains j = true → ∀ i, za s' j i = za s j i := fun j h1 i => f.a j i (by
    have := List.all_eq_true.mp hj j (by simpa using h1)
    simpa using this)
  have K : ∀ k, [49, 55, 67, 69, 73, 75, 76, 77, 78, 79, 80, 81].contains k = true → zv s' k = zv s k := fun k h1 => f.v k (by
    have := List.all_eq_true.mp hk k (by simpa using h1)
    simpa using this)
  have a50 := J 50 rfl
  have a51 := J 51 rfl
  have a52 := J 52 rfl
  have a53 := J 53 rfl
  have a54 := J 54 rfl
  have a68 := J 68 rfl
  have a70 := J 70 rfl
  have a71 := J 71 rfl
  have a72 := J 72 rfl
  have v49 := K 49 rfl
  have v55 := K 55 rfl
  have v67 := K 67 rfl
  have v69 := K 69 rfl
  have v73 := K 73 rfl
  have v75 := K 75 rfl
  have v76 := K 76 rfl
  have v77 := K 77 rfl
  have v78 := K 78 rfl
  have v79 := K 79 rfl
  have v80 := K 80 rfl
  have v81 := K 81 rfl
  refine ⟨m, v67, fun i _ => a68 i, by rw [v49]; exact Int.le_refl _, by rw [v49]; omega, fun e _ => ⟨a50 e, a51 e, a52 e, a53 e, fun _ => a54 e⟩, v55, v73, v76, v77, v79, v80, by rw [v75]; exact Int.le_refl _, by rw [v81]; exact Int.le_refl _, by rw [v81]; omega, by rw [v69]; exact Int.le_refl _, by rw [v69]; omega, fun r _ => ⟨a70 r, a71 r, a72 r⟩, by rw [v78]; exact Int.le_refl _, by rw [v78]; omega, hn⟩
theorem cP.sm {s s' : zS} {D : Nat → Prop} {w : Nat} {js ks : List Nat} (f : zSm s s' js ks) (m : fm s s') (hj : ([50, 51, 52, 53, 54, 68, 70, 71, 72].all fun j => !js.contains j) = true) (hk : ([49, 55, 67, 69, 73, 75, 76, 77, 78, 79, 80, 81].all fun k => !ks.contains k) = true) (h29 : ([29, 30, 31].all fun j => !js.contains j) = true) : cP s s' D w := cP.own f m hj hk (fun x _ => by
  have J : ∀ j, [29, 30, 31].contains j = true → ∀ i, za s' j i = za s j i := fun j h1 i => f.a j i (by
    have := List.all_eq_true.mp h29 j (by simpa using h1)
    simpa using this)
  exact ⟨J 29 rfl x, J 30 rfl x, J 31 rfl x⟩)
theorem cP.rf {s : zS} {D : Nat → Prop} {w : Nat} : cP s s D w := cP.sm (js := []) (ks := []) zSm.rf fm.rf rfl rfl rfl

theorem cP.ent {s s' : zS} {D : Nat → Prop} {a k v st ot : Int} (g : cEn s s' a k v st ot) : cP s s' D 1 := by
  obtain ⟨f, m, g2, g3, -⟩ := g
  have v55 := f.v 55 rfl
  have v67 := f.v 67 rfl
  have v69 := f.v 69 rfl
  have v73 := f.v 73 rfl
  have v75 := f.v 75 rfl
  have v76 := f.v 76 rfl
  have v77 := f.v 77 rfl
  have v78 := f.v 78 rfl
  have v79 := f.v 79 rfl
  have v80 := f.v 80 rfl
  have v81 := f.v 81 rfl
  refine ⟨m, v67, fun i _ => f.a 68 i rfl, by omega, by omega, fun e he => ?_, v55, v73, v76, v77, v79, v80, by rw [v75]; exact Int.le_refl _, by rw [v81]; exact Int.le_refl _, by rw [v81]; omega, by rw [v69]; exact Int.le_refl _, by rw [v69]; omega, fun r _ => ⟨f.a 70 r rfl, f.a 71 r rfl, f.a 72 r rfl⟩, by rw [v78]; exact Int.le_refl _, by rw [v78]; omega, fun x _ => ⟨f.a 29 x rfl, f.a 30 x rfl, f.a 31 x rfl⟩⟩
  obtain ⟨q1, q2, q3, q4, q5⟩ := g3 e he
  exact ⟨q1, q2, q3, q4, fun _ => q5⟩

