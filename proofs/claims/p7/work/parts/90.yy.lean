theorem kw_917 : Cond.static Lib.MathLoose.min_long.x ∈ gWs := List.mem_filter.mpr ⟨gMt3 _ (List.mem_of_getElem? (i := 200) rfl), rfl⟩
theorem kw_918 : Cond.code Lib.MathLoose.min_long.x Lib.MathLoose.min_long.code 4 (some .long) ∈ gWs := List.mem_filter.mpr ⟨gMt3 _ (List.mem_of_getElem? (i := 201) rfl), rfl⟩
/-! THE CLASS'S STATE IN WHOLE NUMBERS: rows' sizes, rows' cells, scalars. yB: what a row of the compiler's ever holds at most. -/
abbrev cS : Type := (Nat → Nat) × (Nat → Nat → Int) × (Nat → Int)
def yz (A : cS) (j : Nat) : Nat := A.1 j
def yf (A : cS) (j i : Nat) : Int := A.2.1 j i
def yv (A : cS) (k : Nat) : Int := A.2.2 k
def yget (A : cS) (j : Nat) (i : Int) : Int := if 0 ≤ i ∧ i < (yz A j : Int) then yf A j i.toNat else 0
def yadd (A : cS) (j : Nat) (x : Int) : cS := (fun k => if k = j then A.1 k + 1 else A.1 k, fun k m => if k = j then (if m = A.1 k then x else A.2.1 k m) else A.2.1 k m, A.2.2)
def ycut (A : cS) (j : Nat) (i : Int) : cS := (fun k => if k = j then (if 0 ≤ i ∧ i < (A.1 k : Int) then i.toNat else A.1 k) else A.1 k, A.2)
def ypop (A : cS) (j : Nat) : cS := (fun k => if k = j then A.1 k - 1 else A.1 k, A.2)
def yset (A : cS) (j : Nat) (i x : Int) : cS := (A.1, fun k m => if k = j then (if (0 ≤ i ∧ i < (A.1 k : Int)) ∧ m = i.toNat then x else A.2.1 k m) else A.2.1 k m, A.2.2)
def ypv (A : cS) (k : Nat) (x : Int) : cS := (A.1, A.2.1, fun m => if m = k then x else A.2.2 m)
def yB : Nat → Nat := fun j => [0, 40000, 80000, 1400, 1400, 1400, 1400, 3000, 3000, 3000, 3000, 3000, 3000, 3000, 1400, 1400, 1400, 2600, 1800, 1400, 1400, 1400, 3000, 1400, 3000, 6000, 6000, 3000, 3000, 3000, 3000, 3000, 3000, 3000].getD j 0
def yJS : List Nat := List.range 34
def yKS : List Nat := [0, 1, 2, 3, 4, 5, 6, 7, 8, 9, 10, 11, 12, 13, 14, 15, 16, 17, 18, 19, 20, 21, 22, 23, 24, 37, 38, 39, 40]
def yR (S : gSt) (A : cS) : Prop := (∀ j, sZ S j = A.1 j) ∧ (∀ j i, i < A.1 j → sF S j i = zI (A.2.1 j i)) ∧ (∀ k, sV S k = zI (A.2.2 k)) ∧ (∀ j i, zR (A.2.1 j i)) ∧ (∀ k, zR (A.2.2 k)) ∧ ∀ j, 1 ≤ j → j < 34 → gps (sN S j) (sZ S j) ≤ yB j
/-- the class at a moment of a walk that began at F0, S0 -/
def yZ (d : gD) (b : Nat) (Y : gYt) (c : Nat × Nat) (F0 : gM) (S0 : gSt) (u : hU) (S : gSt) (A : cS) : Prop := hI d b Y c u S ∧ yR S A ∧ gKp Y F0 u.1 ∧ gSm S0 S yJS yKS
theorem yB_sum : gSum (fun i => yB (1 + i)) 33 ≤ 255999 := by decide +kernel
theorem yB_le : ∀ j, j < 34 → yB j ≤ 100000 := by decide +kernel
theorem gmo_y : ∀ j, 1 ≤ j → j < 34 → gmo j = 1000000 := fun j h1 h2 => by
  have h := gmo_c (j - 1) (by omega)
  rwa [show 1 + (j - 1) = j by omega] at h
section YZ
variable {d : gD} {b : Nat} {Y : gYt} {c : Nat × Nat} {F0 : gM} {S0 : gSt} {u : hU} {S : gSt} {A : cS}
theorem yR.psi (h : yR S A) : gPsi S ≤ 255999 := Nat.le_trans (gSum_le (fun i hi => h.2.2.2.2.2 (1 + i) (by omega) (by omega))) yB_sum
theorem yZ.hi (h : yZ d b Y c F0 S0 u S A) : hI d b Y c u S := h.1
theorem yZ.w (h : yZ d b Y c F0 S0 u S A) : gWT d Y u.1 S := h.1.1
theorem yZ.z (h : yZ d b Y c F0 S0 u S A) (j : Nat) : sZ S j = yz A j := h.2.1.1 j
theorem yZ.v (h : yZ d b Y c F0 S0 u S A) (k : Nat) : sV S k = zI (yv A k) := h.2.1.2.2.1 k
theorem yZ.rv (h : yZ d b Y c F0 S0 u S A) (k : Nat) : zR (yv A k) := h.2.1.2.2.2.2.1 k
theorem yZ.rf' (h : yZ d b Y c F0 S0 u S A) (j i : Nat) : zR (yf A j i) := h.2.1.2.2.2.1 j i
theorem yZ.rg (h : yZ d b Y c F0 S0 u S A) (j : Nat) (i : Int) : zR (yget A j i) := by
  unfold yget
  split
  · exact h.rf' _ _
  · exact by decide
theorem yZ.zlt (h : yZ d b Y c F0 S0 u S A) {j : Nat} (hj : j < 44) : yz A j ≤ 1000000 := by
  rw [← h.z j]
  obtain ⟨-, -, h1, h2, h3, h4⟩ := h.w.r j hj
  omega
theorem yZ.rz (h : yZ d b Y c F0 S0 u S A) {j : Nat} (hj : j < 44) : zR ((yz A j : Nat) : Int) := by
  have := h.zlt hj
  exact ⟨by omega, by omega⟩
theorem yZ.start (h : hI d b Y c u S) (hr : yR S A) : yZ d b Y c u.1 S u S A := ⟨h, hr, gKp.rf, gSm.rf⟩
theorem yZ.rs (h : yZ d b Y c F0 S0 u S A) : yZ d b Y c u.1 S u S A := ⟨h.1, h.2.1, gKp.rf, gSm.rf⟩
theorem yZ.tr {u' : hU} {S' : gSt} {A' : cS} (h : yZ d b Y c F0 S0 u S A) (h2 : yZ d b Y c u.1 S u' S' A') : yZ d b Y c F0 S0 u' S' A' := ⟨h2.1, h2.2.1, h.2.2.1.tr h2.2.2.1, h.2.2.2.tr h2.2.2.2 yJS yKS (by decide) (by decide)⟩
theorem yJ_in {j : Nat} (hj : j < 34) : ([j] : List Nat).all (fun z => yJS.contains z) = true := by
  simp [yJS, hj]
/-- a step that changes one row alone -/
theorem yZ.row (h : yZ d b Y c F0 S0 u S A) {j : Nat} (hj : j < 34) {u' : hU} {S' : gSt} {A' : cS} (hi : hI d b Y c u' S') (hk : gKp Y u.1 u'.1) (hm : gSm S S' [j] []) (e1 : ∀ k, k ≠ j → A'.1 k = A.1 k) (e2 : ∀ k, k ≠ j → A'.2.1 k = A.2.1 k) (e3 : A'.2.2 = A.2.2) (z : sZ S' j = A'.1 j) (f : ∀ i, i < A'.1 j → sF S' j i = zI (A'.2.1 j i)) (r : ∀ i, zR (A'.2.1 j i)) (g : 1 ≤ j → gps (sN S' j) (sZ S' j) ≤ yB j) : yZ d b Y c F0 S0 u' S' A' := by
  obtain ⟨h1, ⟨r1, r2, r3, r4, r5, r6⟩, h3, h4⟩ := h
  refine ⟨hi, ⟨fun k => ?_, fun k i hi2 => ?_, fun k => ?_, fun k i => ?_, fun k => by rw [e3]; exact r5 k, fun k hk1 hk2 => ?_⟩, h3.tr hk, h4.tr hm yJS yKS ?_ ?_⟩
  · by_cases e : k = j
    · rw [e]; exact z
    · rw [e1 k e, ← r1 k]; exact hm.z k (by simpa using e)
  · by_cases e : k = j
    · subst e; exact f i hi2
    · rw [e1 k e] at hi2
      rw [e2 k e, hm.f k (by simpa using e)]
      exact r2 k i hi2
  · rw [e3, hm.v k (by simp)]; exact r3 k
  · by_cases e : k = j
    · subst e; exact r i
    · rw [e2 k e]; exact r4 k i
  · by_cases e : k = j
    · subst e; exact g hk1
    · rw [hm.n k (by simpa using e), hm.z k (by simpa using e)]; exact r6 k hk1 hk2
  · simp [yJS, hj]
  · simp [yKS]
theorem yZ.put (h : yZ d b Y c F0 S0 u S A) {k : Nat} {x : Int} {F' : gM} {S' : gSt} (hi : hI d b Y c (F', u.2.1, u.2.2) S') (hk : gKp Y u.1 F') (hm : gSm S S' [] [k]) (hv : sV S' k = zI x) (hx : zR x) (hin : yKS.contains k = true) : yZ d b Y c F0 S0 (F', u.2.1, u.2.2) S' (ypv A k x) := by
  obtain ⟨h1, ⟨r1, r2, r3, r4, r5, r6⟩, h3, h4⟩ := h
  refine ⟨hi, ⟨fun j => (hm.z j (by simp)).trans (r1 j), fun j i hi2 => ?_, fun m => ?_, r4, fun m => ?_, fun j hk1 hk2 => ?_⟩, h3.tr hk, h4.tr hm yJS yKS ?_ ?_⟩
  · rw [hm.f j (by simp)]; exact r2 j i hi2
  · show sV S' m = zI (if m = k then x else A.2.2 m)
    by_cases e : m = k
    · subst e; rw [if_pos rfl]; exact hv
    · rw [if_neg e, hm.v m (by simpa using e)]; exact r3 m
  · show zR (if m = k then x else A.2.2 m)
    split
    · exact hx
    · exact r5 m
  · rw [hm.n j (by simp), hm.z j (by simp)]; exact r6 j hk1 hk2
  · simp [yJS]
  · simp only [List.all_append, List.all_cons, List.all_nil, Bool.and_true, hin]
    decide
theorem gps_le {n z z' : Nat} (h : z' ≤ z) : gps n z' ≤ gps n z := by
  unfold gps
  omega
end YZ
theorem y_lt0 {i : Int} (hi : zR i) : zI i < 0 ↔ i < 0 := zI_lt hi (by decide : zR 0)
theorem y_cn {i : Int} (hi : zR i) (h0 : ¬ i < 0) : (zI i).toNatClampNeg = i.toNat := by
  rw [← Int32.toNat_toInt, zI_t hi]
theorem nI_z (n : Nat) : nI n = zI (n : Int) := (Int32.ofInt_eq_ofNat (n := n)).symm
section YR
variable {own : String} {cc : ByteArray} {nL : Nat} {rt : Option FieldType} {nm : String} {R : Room} {d : gD} {b : Nat} {X : gX} {Q : State → Prop} {pc : Nat} {lv : List (Option Value)} {st : List Value} {Y : gYt} {c : Nat × Nat} {F0 : gM} {S0 : gSt} {u : hU} {S : gSt} {A : cS}
abbrev yG (X : gX) (d : gD) (b : Nat) (Q : State → Prop) (u : hU) (pc : Nat) (lv : List (Option Value)) (st : List Value) : Prop := hG X d b Q u.1 u.2.1 u.2.2 pc lv st
abbrev yOk (X : gX) (b : Nat) (u : hU) : Prop := hOk X b u.2.1 u.2.2
theorem yr_sv (h : yZ d b Y c F0 S0 u S A) (k : Nat) {e : Int} (he : yv A k = e) (kk : yG X d b Q u pc lv (.int (zI e) :: st)) : yG X d b Q u pc lv (.int (sV S k) :: st) := by
  rw [h.v k, he]
  exact kk
theorem yr_nu {F' : gM} {S' : gSt} {A' : cS} (ho : yOk X b u) (hz : yZ d b Y c F0 S0 (F', u.2.1, u.2.2) S' A') (kk : ∀ u' : hU, yOk X b u' → yZ d b Y c F0 S0 u' S' A' → yG X d b Q u' pc lv st) : hG X d b Q F' u.2.1 u.2.2 pc lv st := kk (F', u.2.1, u.2.2) ho hz
theorem yr_size (hC : gC own cc nL rt nm R d b X) (hr : hRm X b) (ho : yOk X b u) (h : yZ d b Y c F0 S0 u S A) {j idx : Nat} (hj : j < 44) {e : Int} (he : ((yz A j : Nat) : Int) = e) (hl : gCV own idx yX4_size cX4_size 1 (some .int) 0) (hn : nL = lv.length) (hcat : (st.map fun v => v.category).sum ≤ 8) (hf : hFr R 0 1) (hdg : decode cc pc = .ok (.invokevirtual idx, 3)) (kk : yG X d b Q u (pc + 3) lv (.int (zI e) :: st)) : yG X d b Q u pc lv (.ref (gA' Y j) :: st) := by
  refine hi_size hC hr ho h.w hj hl hn hcat hf hdg ?_
  rw [h.z j, nI_z, he]
  exact kk
theorem y_get (h : yZ d b Y c F0 S0 u S A) {j : Nat} {i : Int} (hi : zR i) : gGet (sF S j) (sZ S j) (zI i) = zI (yget A j i) := by
  unfold gGet yget
  rw [h.z j]
  by_cases h0 : i < 0
  · rw [if_pos ((y_lt0 hi).mpr h0), if_neg (by omega)]
    rfl
  · rw [if_neg (fun q => h0 ((y_lt0 hi).mp q)), y_cn hi h0]
    by_cases h1 : i < (yz A j : Int)
    · rw [if_pos (by omega), if_pos ⟨by omega, h1⟩]
      exact h.2.1.2.1 j _ (by show i.toNat < yz A j; omega)
    · rw [if_neg (by omega), if_neg (by omega)]
      rfl
theorem yr_get (hC : gC own cc nL rt nm R d b X) (hr : hRm X b) (ho : yOk X b u) (h : yZ d b Y c F0 S0 u S A) {j idx : Nat} (hj : j < 44) {i : Int} (hi : zR i) {e : Int} (he : yget A j i = e) (hl : gCV own idx yX4_get cX4_get 2 (some .int) 1) (hn : nL = lv.length) (hcat : (st.map fun v => v.category).sum ≤ 8) (hf : hFr R 0 2) (hdg : decode cc pc = .ok (.invokevirtual idx, 3)) (kk : yG X d b Q u (pc + 3) lv (.int (zI e) :: st)) : yG X d b Q u pc lv (.int (zI i) :: .ref (gA' Y j) :: st) := by
  refine hi_get hC hr ho h.w hj hl hn hcat hf hdg ?_
  rw [y_get h hi, he]
  exact kk
theorem yr_top (hC : gC own cc nL rt nm R d b X) (hr : hRm X b) (ho : yOk X b u) (h : yZ d b Y c F0 S0 u S A) {j idx : Nat} (hj : j < 44) {e : Int} (he : yget A j ((yz A j : Nat) - 1 : Int) = e) (hl : gCV own idx yX4_top cX4_top 1 (some .int) 0) (hn : nL = lv.length) (hcat : (st.map fun v => v.category).sum ≤ 8) (hf : hFr R 1 1) (hdg : decode cc pc = .ok (.invokevirtual idx, 3)) (kk : yG X d b Q u (pc + 3) lv (.int (zI e) :: st)) : yG X d b Q u pc lv (.ref (gA' Y j) :: st) := by
  refine hi_top hC hr ho h.w hj hl hn hcat hf hdg ?_
  have e1 : nI (sZ S j) - 1 = zI ((yz A j : Nat) - 1 : Int) := by rw [h.z j, nI_z, zI_sub]; rfl
  have h2 := h.zlt hj
  rw [e1, y_get h ⟨by omega, by omega⟩, he]
  exact kk
theorem yr_add (hC : gC own cc nL rt nm R d b X) (hr : hRm X b) (ho : yOk X b u) (h : yZ d b Y c F0 S0 u S A) {j idx : Nat} (hj1 : 1 ≤ j) (hj : j < 34) {x : Int} (hx : zR x) (hb : yz A j < yB j) (hl : gCV own idx yX4_add cX4_add 2 none 1) (hn : nL = lv.length) (hcat : (st.map fun v => v.category).sum ≤ 8) (hf : hFr R 2 2) (hdg : decode cc pc = .ok (.invokevirtual idx, 3)) (kk : ∀ (u' : hU) (S' : gSt), yOk X b u' → yZ d b Y c F0 S0 u' S' (yadd A j x) → yG X d b Q u' (pc + 3) lv st) : yG X d b Q u pc lv (.int (zI x) :: .ref (gA' Y j) :: st) := by
  have hrow := h.w.r j (by omega)
  have hps := h.2.1.psi
  have hbl := yB_le j hj
  have hz : sZ S j < gmo j := by rw [h.z j, gmo_y j hj1 hj]; omega
  have egm : gAm = 256000 := rfl
  have ha : gAk S j := ⟨fun _ => by omega, fun e => by omega, by omega⟩
  obtain ⟨a1, a2⟩ := h.hi.add_pre (F := u.1) (k := u.2.1) (n := u.2.2) (by omega : j < 44) ha hz
  refine g_callVv (As := [.int (zI x)]) hC rfl hrow.1 (c_Ints_add X.la d b u.1 _ _ _ _ _ _ hrow (zI x)) hl rfl hn hcat (h_fit hC hr ho hf a1 a2) hdg (fun F' hp => h_to hC ho a1 a2 (fun ho' => ?_))
  obtain ⟨S', w1, w2, w3, w4, w5⟩ := wt_add h.w (by omega : j < 44) hp
  obtain ⟨v1, v2, v3, v4⟩ := w4 hz
  obtain ⟨t1, t2, t3, t4, t5⟩ := h.hi.add_sz (by omega : j < 44) ha hz S' (fun i hi' => ⟨w3.n i (by simpa using hi'), w3.z i (by simpa using hi')⟩) v1 v2
  have p1 := h.hi.2.2.1
  have p2 := h.hi.2.2.2.1
  refine kk (F', u.2.1 + gAc (sN S j) (sZ S j), u.2.2 + gAs (gmo j) (sN S j) (sZ S j)) S' ho' ?_
  have hz2 := h.z j
  refine h.row hj ⟨w1, t1.2.1, by show u.2.1 + _ ≤ _; omega, by show u.2.2 + _ ≤ _; omega, h.hi.2.2.2.2⟩ w2 w3 (fun k hk => if_neg hk) (fun k hk => ?_) rfl ?_ (fun i hi2 => ?_) (fun i => ?_) (fun _ => ?_)
  · funext m
    show (if k = j then _ else _) = _
    rw [if_neg hk]
  · show sZ S' j = (if j = j then A.1 j + 1 else A.1 j)
    rw [if_pos rfl, v1, hz2]
    rfl
  · have hi3 : i < A.1 j + 1 := by
      have : i < (if j = j then A.1 j + 1 else A.1 j) := hi2
      rwa [if_pos rfl] at this
    show sF S' j i = zI (if j = j then (if i = A.1 j then x else A.2.1 j i) else A.2.1 j i)
    rw [if_pos rfl]
    by_cases e : i = A.1 j
    · rw [if_pos e, e]
      have e2 : sZ S j = A.1 j := hz2
      rw [← e2]
      exact v4
    · rw [if_neg e, v3 i (by rw [hz2]; show i < A.1 j; omega)]
      exact h.2.1.2.1 j i (by omega)
  · show zR (if j = j then (if i = A.1 j then x else A.2.1 j i) else A.2.1 j i)
    rw [if_pos rfl]
    split
    · exact hx
    · exact h.rf' j i
  · rw [v1, v2]
    have g1 := gps_add (mo := gmo j) (n := sN S j) (z := sZ S j) hz hrow.2.2.1
    have g2 := h.2.1.2.2.2.2.2 j hj1 hj
    have g3 : gps (gAn (gmo j) (sN S j) (sZ S j)) (sZ S j + 1) ≤ max (gps (sN S j) (sZ S j)) (sZ S j + 1) := by
      unfold gAn gps
      by_cases c2 : sZ S j < sN S j
      · rw [if_pos c2]; omega
      · rw [if_neg c2]
        have e3 := hrow.2.2.1
        have h1 : min (gmo j) (2 * sN S j) ≤ 2 * sN S j := Nat.min_le_right _ _
        omega
    have hz3 : sZ S j < yB j := by rw [hz2]; exact hb
    omega
theorem yr_cut (hC : gC own cc nL rt nm R d b X) (hr : hRm X b) (ho : yOk X b u) (h : yZ d b Y c F0 S0 u S A) {j idx : Nat} (hj : j < 34) {i : Int} (hi : zR i) (hl : gCV own idx yX4_cut cX4_cut 2 none 1) (hn : nL = lv.length) (hcat : (st.map fun v => v.category).sum ≤ 8) (hf : hFr R 0 2) (hdg : decode cc pc = .ok (.invokevirtual idx, 3)) (kk : ∀ (u' : hU) (S' : gSt), yOk X b u' → yZ d b Y c F0 S0 u' S' (ycut A j i) → yG X d b Q u' (pc + 3) lv st) : yG X d b Q u pc lv (.int (zI i) :: .ref (gA' Y j) :: st) := by
  refine hi_cut hC hr ho h.hi (by omega : j < 44) hl hn hcat hf hdg (fun F' S' h1 h2 h3 h4 => kk (F', u.2.1, u.2.2) S' ho ?_)
  obtain ⟨g1, g2, g3, g4, g5, g6⟩ := h4
  have hz := h.z j
  have e : sZ S' j = (ycut A j i).1 j := by
    show sZ S' j = (if j = j then (if 0 ≤ i ∧ i < (A.1 j : Int) then i.toNat else A.1 j) else A.1 j)
    rw [if_pos rfl]
    by_cases h0 : i < 0
    · rw [if_neg (by omega), g4 (Or.inl ((y_lt0 hi).mpr h0))]; exact hz
    · by_cases h5 : i < (A.1 j : Int)
      · rw [if_pos ⟨by omega, h5⟩, g3 ⟨fun q => h0 ((y_lt0 hi).mp q), by rw [y_cn hi h0, hz]; show i.toNat < A.1 j; omega⟩, y_cn hi h0]
      · rw [if_neg (by omega), g4 (Or.inr (by rw [hz, nI_z]; exact (zI_le (h.rz (by omega)) hi).mpr (by show (A.1 j : Int) ≤ i; omega)))]
        exact hz
  refine h.row hj h1 h2 h3 (fun k hk => if_neg hk) (fun k hk => rfl) rfl e (fun m hm => ?_) (fun m => h.rf' j m) (fun hj1 => ?_)
  · rw [g2]
    rw [← e] at hm
    exact h.2.1.2.1 j m (by have : sZ S j = A.1 j := hz; omega)
  · rw [g1]
    exact Nat.le_trans (gps_le g5) (h.2.1.2.2.2.2.2 j hj1 hj)
theorem yr_pop (hC : gC own cc nL rt nm R d b X) (hr : hRm X b) (ho : yOk X b u) (h : yZ d b Y c F0 S0 u S A) {j idx : Nat} (hj : j < 34) {e : Int} (he : yget A j ((yz A j : Nat) - 1 : Int) = e) (hl : gCV own idx yX4_pop cX4_pop 1 (some .int) 0) (hn : nL = lv.length) (hcat : (st.map fun v => v.category).sum ≤ 8) (hf : hFr R 0 1) (hdg : decode cc pc = .ok (.invokevirtual idx, 3)) (kk : ∀ (u' : hU) (S' : gSt), yOk X b u' → yZ d b Y c F0 S0 u' S' (ypop A j) → yG X d b Q u' (pc + 3) lv (.int (zI e) :: st)) : yG X d b Q u pc lv (.ref (gA' Y j) :: st) := by
  refine hi_pop hC hr ho h.hi (by omega : j < 44) hl hn hcat hf hdg (fun r F' S' h1 h2 h3 h4 => ?_)
  obtain ⟨g1, g2, g3, g4, g5, g6⟩ := h4
  have hz : sZ S j = A.1 j := h.z j
  have hr2 : r = zI e := by
    rw [← he]
    unfold yget
    by_cases h0 : 0 < A.1 j
    · have h6 : yz A j = A.1 j := rfl
      rw [if_pos ⟨by omega, by omega⟩, g4 (by omega)]
      have h7 : ((yz A j : Nat) - 1 : Int).toNat = A.1 j - 1 := by omega
      rw [h7, hz]
      exact h.2.1.2.1 j _ (by omega)
    · have h6 : yz A j = A.1 j := rfl
      rw [if_neg (by omega), g5 (by omega)]
      rfl
  subst hr2
  refine kk (F', u.2.1, u.2.2) S' ho ?_
  have e2 : sZ S' j = (ypop A j).1 j := by
    show sZ S' j = (if j = j then A.1 j - 1 else A.1 j)
    rw [if_pos rfl, g2, hz]
  refine h.row hj h1 h2 h3 (fun k hk => if_neg hk) (fun k hk => rfl) rfl e2 (fun m hm => ?_) (fun m => h.rf' j m) (fun hj1 => ?_)
  · rw [g3]
    rw [← e2] at hm
    exact h.2.1.2.1 j m (by omega)
  · rw [g1]
    exact Nat.le_trans (gps_le (by omega)) (h.2.1.2.2.2.2.2 j hj1 hj)
theorem yr_set (hC : gC own cc nL rt nm R d b X) (hr : hRm X b) (ho : yOk X b u) (h : yZ d b Y c F0 S0 u S A) {j idx : Nat} (hj : j < 34) {i x : Int} (hi : zR i) (hx : zR x) (hl : gCV own idx yX4_set cX4_set 3 none 2) (hn : nL = lv.length) (hcat : (st.map fun v => v.category).sum ≤ 8) (hf : hFr R 0 3) (hdg : decode cc pc = .ok (.invokevirtual idx, 3)) (kk : ∀ (u' : hU) (S' : gSt), yOk X b u' → yZ d b Y c F0 S0 u' S' (yset A j i x) → yG X d b Q u' (pc + 3) lv st) : yG X d b Q u pc lv (.int (zI x) :: .int (zI i) :: .ref (gA' Y j) :: st) := by
  refine hi_set hC hr ho h.hi (by omega : j < 44) hl hn hcat hf hdg (fun F' S' h1 h2 h3 h4 => kk (F', u.2.1, u.2.2) S' ho ?_)
  obtain ⟨g1, g2, g3, g4, g5⟩ := h4
  have hz : sZ S j = A.1 j := h.z j
  refine h.row hj h1 h2 h3 (fun k hk => rfl) (fun k hk => ?_) rfl (g2.trans hz) (fun m hm => ?_) (fun m => ?_) (fun hj1 => ?_)
  · funext m
    show (if k = j then _ else _) = _
    rw [if_neg hk]
  · show sF S' j m = zI (if j = j then (if (0 ≤ i ∧ i < (A.1 j : Int)) ∧ m = i.toNat then x else A.2.1 j m) else A.2.1 j m)
    rw [if_pos rfl]
    have hm2 : m < A.1 j := hm
    by_cases h0 : 0 ≤ i ∧ i < (A.1 j : Int)
    · have h7 : ¬ i < 0 := by omega
      rw [g3 ⟨fun q => h7 ((y_lt0 hi).mp q), by rw [y_cn hi h7, hz]; omega⟩, y_cn hi h7]
      unfold upd
      by_cases e : m = i.toNat
      · rw [if_pos e, if_pos ⟨h0, e⟩]
      · rw [if_neg e, if_neg (fun q => e q.2)]
        exact h.2.1.2.1 j m hm2
    · rw [if_neg (fun q => h0 q.1)]
      have hs : S' = S := g4 (by
        by_cases h8 : i < 0
        · exact Or.inl ((y_lt0 hi).mpr h8)
        · exact Or.inr (by rw [hz, nI_z]; exact (zI_le (h.rz (by omega)) hi).mpr (by show (A.1 j : Int) ≤ i; omega)))
      rw [hs]
      exact h.2.1.2.1 j m hm2
  · show zR (if j = j then (if (0 ≤ i ∧ i < (A.1 j : Int)) ∧ m = i.toNat then x else A.2.1 j m) else A.2.1 j m)
    rw [if_pos rfl]
    split
    · exact hx
    · exact h.rf' j m
  · rw [g1, g2]
    exact h.2.1.2.2.2.2.2 j hj1 hj
/-- posts -/
def yPi (d : gD) (b : Nat) (Y : gYt) (c : Nat × Nat) (F0 : gM) (S0 : gSt) (q : Int → cS → Prop) : Int32 → hU → Prop := fun r u => ∃ (e : Int) (A : cS) (S : gSt), r = zI e ∧ zR e ∧ yZ d b Y c F0 S0 u S A ∧ q e A
def yPv (d : gD) (b : Nat) (Y : gYt) (c : Nat × Nat) (F0 : gM) (S0 : gSt) (q : cS → Prop) : hU → Prop := fun u => ∃ (A : cS) (S : gSt), yZ d b Y c F0 S0 u S A ∧ q A
abbrev yQi (X : gX) (d : gD) (b : Nat) (Y : gYt) (c : Nat × Nat) (F0 : gM) (S0 : gSt) (mc ms : Nat) (q : Int → cS → Prop) : State → Prop := MQ X.be (va_Qi (yPi d b Y c F0 S0 q) (hB d b) (fun q => b ≤ q)) X.ar X.st mc ms (fun q => b ≤ q)
abbrev yQv (X : gX) (d : gD) (b : Nat) (Y : gYt) (c : Nat × Nat) (F0 : gM) (S0 : gSt) (mc ms : Nat) (q : cS → Prop) : State → Prop := MQ X.be (va_Qv (yPv d b Y c F0 S0 q) (hB d b) (fun q => b ≤ q)) X.ar X.st mc ms (fun q => b ≤ q)
theorem yr_iret {L0 mc ms : Nat} (hC : gC own cc nL (some .int) nm (gR L0 mc ms) d b X) (hr : hRm X b) (ho : yOk X b u) (h : yZ d b Y c F0 S0 u S A) {q : Int → cS → Prop} {e : Int} (he : zR e) (hq : q e A) (hdg : decode cc pc = .ok (.ireturn, 1)) : yG X d b (yQi X d b Y c F0 S0 mc ms q) u pc lv [.int (zI e)] := h_iret hC hr ho rfl rfl rfl ⟨e, A, S, rfl, he, h, hq⟩ hdg
theorem yr_zret {L0 mc ms : Nat} (hC : gC own cc nL (some .boolean) nm (gR L0 mc ms) d b X) (hr : hRm X b) (ho : yOk X b u) (h : yZ d b Y c F0 S0 u S A) {q : Int → cS → Prop} {e : Int} (he : e = 0 ∨ e = 1) (hq : q e A) (hdg : decode cc pc = .ok (.ireturn, 1)) : yG X d b (yQi X d b Y c F0 S0 mc ms q) u pc lv [.int (zI e)] := h_iret hC hr ho rfl rfl (by rcases he with rfl | rfl <;> rfl) ⟨e, A, S, rfl, by rcases he with rfl | rfl <;> decide, h, hq⟩ hdg
theorem yr_vret {L0 mc ms : Nat} (hC : gC own cc nL none nm (gR L0 mc ms) d b X) (hr : hRm X b) (ho : yOk X b u) (h : yZ d b Y c F0 S0 u S A) {q : cS → Prop} (hq : q A) (hdg : decode cc pc = .ok (.return_, 1)) : yG X d b (yQv X d b Y c F0 S0 mc ms q) u pc lv [] := h_vret hC hr ho rfl rfl ⟨A, S, h, hq⟩ hdg
theorem yr_callVi (hC : gC own cc nL rt nm R d b X) (hr : hRm X b) (ho : yOk X b u) (h : yZ d b Y c F0 S0 u S A) {y : MethodName} {c2 : ByteArray} {mL nA lvl idx : Nat} {rt0 : FieldType} {a ci N0 : Nat} {T0 : u_T} {v0 : Value} {fs : List Value} {As : List Value} {q : Int → cS → Prop} (hc : vwCl[ci]? = some (y.cls, T0, N0)) (hF : u.1 a = .inr (ci, v0 :: fs)) (hm : hMi X.la d b y c2 mL rt0 lvl u.2.1 u.2.2 u.1 (.ref a :: As) (yPi d b Y c u.1 S q)) (hl : gCV own idx y c2 mL (some rt0) nA) (hA : As.length = nA) (hn : nL = lv.length) (hcat : (st.map fun v => v.category).sum ≤ 8) (hf : hFr R lvl mL) (hdg : decode cc pc = .ok (.invokevirtual idx, 3)) (kk : ∀ (e : Int) (A' : cS) (u' : hU) (S' : gSt), zR e → yOk X b u' → yZ d b Y c F0 S0 u' S' A' → q e A' → yG X d b Q u' (pc + 3) lv (.int (zI e) :: st)) : yG X d b Q u pc lv (As.reverse ++ .ref a :: st) := by
  refine h_callVi hC hr ho hc hF hm hl hA hn hcat hf hdg (fun r u' hp ho' => ?_)
  obtain ⟨e, A', S', e1, e2, e3, e4⟩ := hp
  subst e1
  exact kk e A' u' S' e2 ho' (h.tr e3) e4
theorem yr_callVv (hC : gC own cc nL rt nm R d b X) (hr : hRm X b) (ho : yOk X b u) (h : yZ d b Y c F0 S0 u S A) {y : MethodName} {c2 : ByteArray} {mL nA lvl idx : Nat} {a ci N0 : Nat} {T0 : u_T} {v0 : Value} {fs : List Value} {As : List Value} {q : cS → Prop} (hc : vwCl[ci]? = some (y.cls, T0, N0)) (hF : u.1 a = .inr (ci, v0 :: fs)) (hm : hMv X.la d b y c2 mL lvl u.2.1 u.2.2 u.1 (.ref a :: As) (yPv d b Y c u.1 S q)) (hl : gCV own idx y c2 mL none nA) (hA : As.length = nA) (hn : nL = lv.length) (hcat : (st.map fun v => v.category).sum ≤ 8) (hf : hFr R lvl mL) (hdg : decode cc pc = .ok (.invokevirtual idx, 3)) (kk : ∀ (A' : cS) (u' : hU) (S' : gSt), yOk X b u' → yZ d b Y c F0 S0 u' S' A' → q A' → yG X d b Q u' (pc + 3) lv st) : yG X d b Q u pc lv (As.reverse ++ .ref a :: st) := by
  refine h_callVv hC hr ho hc hF hm hl hA hn hcat hf hdg (fun u' hp ho' => ?_)
  obtain ⟨A', S', e3, e4⟩ := hp
  exact kk A' u' S' ho' (h.tr e3) e4
theorem yr_callSi (hC : gC own cc nL rt nm R d b X) (hr : hRm X b) (ho : yOk X b u) (h : yZ d b Y c F0 S0 u S A) {y : MethodName} {c2 : ByteArray} {mL nA lvl idx : Nat} {rt0 : FieldType} {As : List Value} {q : Int → cS → Prop} (hm : hMi X.la d b y c2 mL rt0 lvl u.2.1 u.2.2 u.1 As (yPi d b Y c u.1 S q)) (hl : gCS own idx y c2 mL (some rt0) nA) (hA : As.length = nA) (hn : nL = lv.length) (hcat : (st.map fun v => v.category).sum ≤ 8) (hf : hFr R lvl mL) (hdg : decode cc pc = .ok (.invokestatic idx, 3)) (kk : ∀ (e : Int) (A' : cS) (u' : hU) (S' : gSt), zR e → yOk X b u' → yZ d b Y c F0 S0 u' S' A' → q e A' → yG X d b Q u' (pc + 3) lv (.int (zI e) :: st)) : yG X d b Q u pc lv (As.reverse ++ st) := by
  refine h_callSi hC hr ho hm hl hA hn hcat hf hdg (fun r u' hp ho' => ?_)
  obtain ⟨e, A', S', e1, e2, e3, e4⟩ := hp
  subst e1
  exact kk e A' u' S' e2 ho' (h.tr e3) e4
theorem yr_callSv (hC : gC own cc nL rt nm R d b X) (hr : hRm X b) (ho : yOk X b u) (h : yZ d b Y c F0 S0 u S A) {y : MethodName} {c2 : ByteArray} {mL nA lvl idx : Nat} {As : List Value} {q : cS → Prop} (hm : hMv X.la d b y c2 mL lvl u.2.1 u.2.2 u.1 As (yPv d b Y c u.1 S q)) (hl : gCS own idx y c2 mL none nA) (hA : As.length = nA) (hn : nL = lv.length) (hcat : (st.map fun v => v.category).sum ≤ 8) (hf : hFr R lvl mL) (hdg : decode cc pc = .ok (.invokestatic idx, 3)) (kk : ∀ (A' : cS) (u' : hU) (S' : gSt), yOk X b u' → yZ d b Y c F0 S0 u' S' A' → q A' → yG X d b Q u' (pc + 3) lv st) : yG X d b Q u pc lv (As.reverse ++ st) := by
  refine h_callSv hC hr ho hm hl hA hn hcat hf hdg (fun u' hp ho' => ?_)
  obtain ⟨A', S', e3, e4⟩ := hp
  exact kk A' u' S' ho' (h.tr e3) e4
theorem yr_callSNi (hC : gC own cc nL rt nm R d b X) (hr : hRm X b) (ho : yOk X b u) (h : yZ d b Y c F0 S0 u S A) {y : MethodName} {c2 : ByteArray} {mL nA lvl idx : Nat} {rt0 : FieldType} {ni : Nat} {As : List Value} {q : Int → cS → Prop} (hm : hMi X.la d b y c2 mL rt0 lvl u.2.1 u.2.2 u.1 As (yPi d b Y c u.1 S q)) (hl : gCSN own idx ni y c2 mL (some rt0) nA) (hA : As.length = nA) (hn : nL = lv.length) (hcat : (st.map fun v => v.category).sum ≤ 8) (hf : hFr R lvl mL) (hdg : decode cc pc = .ok (.invokestatic idx, 3)) (kk : ∀ (e : Int) (A' : cS) (u' : hU) (S' : gSt), zR e → yOk X b u' → yZ d b Y c F0 S0 u' S' A' → q e A' → yG X d b Q u' (pc + 3) lv (.int (zI e) :: st)) : yG X d b Q u pc lv (As.reverse ++ st) := by
  refine h_callSNi hC hr ho hm hl hA hn hcat hf hdg (fun r u' hp ho' => ?_)
  obtain ⟨e, A', S', e1, e2, e3, e4⟩ := hp
  subst e1
  exact kk e A' u' S' e2 ho' (h.tr e3) e4
theorem yr_callSNv (hC : gC own cc nL rt nm R d b X) (hr : hRm X b) (ho : yOk X b u) (h : yZ d b Y c F0 S0 u S A) {y : MethodName} {c2 : ByteArray} {mL nA lvl idx : Nat} {ni : Nat} {As : List Value} {q : cS → Prop} (hm : hMv X.la d b y c2 mL lvl u.2.1 u.2.2 u.1 As (yPv d b Y c u.1 S q)) (hl : gCSN own idx ni y c2 mL none nA) (hA : As.length = nA) (hn : nL = lv.length) (hcat : (st.map fun v => v.category).sum ≤ 8) (hf : hFr R lvl mL) (hdg : decode cc pc = .ok (.invokestatic idx, 3)) (kk : ∀ (A' : cS) (u' : hU) (S' : gSt), yOk X b u' → yZ d b Y c F0 S0 u' S' A' → q A' → yG X d b Q u' (pc + 3) lv st) : yG X d b Q u pc lv (As.reverse ++ st) := by
  refine h_callSNv hC hr ho hm hl hA hn hcat hf hdg (fun u' hp ho' => ?_)
  obtain ⟨A', S', e3, e4⟩ := hp
  exact kk A' u' S' ho' (h.tr e3) e4
theorem lok_D : ∀ (ps : List (Int × Int)) (dflt x : Int), (∀ q ∈ ps, x ≠ q.1) → Op.lookupswitch.offset ps dflt x = dflt
  | [], dflt, x, _ => rfl
  | (a, o) :: r, dflt, x, h => by
    have e : Op.lookupswitch.offset ((a, o) :: r) dflt x = if a = x then o else Op.lookupswitch.offset r dflt x := rfl
    rw [e, if_neg (fun q => h (a, o) List.mem_cons_self q.symm)]
    exact lok_D r dflt x (fun q hq => h q (List.mem_cons_of_mem _ hq))
theorem zr_lokAt {F : gM} {k n : Nat} {x v off dflt : Int} {ps : Array (Int × Int)} {len tgt : Nat} (hC : gC own cc nL rt nm R d b X) (hdg : decode cc pc = .ok (.lookupswitch dflt ps, len)) (hx : zR x) (hp : (ps.toList.zip (ps.toList.drop 1)).all (fun (a, next) => a.1 < next.1) = true) (e : x = v) (ho : Op.lookupswitch.offset ps.toList dflt v = off) (ht : (pc : Int) + off = (tgt : Int)) (kk : gG X d b Q F k n tgt lv st) : gG X d b Q F k n pc lv (.int (zI x) :: st) := g_lookup hC hdg hp (by rw [zI_t hx, e]; exact ho) ht kk
theorem zr_lokD {F : gM} {k n : Nat} {x dflt : Int} {ps : Array (Int × Int)} {len tgt : Nat} (hC : gC own cc nL rt nm R d b X) (hdg : decode cc pc = .ok (.lookupswitch dflt ps, len)) (hx : zR x) (hp : (ps.toList.zip (ps.toList.drop 1)).all (fun (a, next) => a.1 < next.1) = true) (hn : ∀ q ∈ ps.toList, x ≠ q.1) (ht : (pc : Int) + dflt = (tgt : Int)) (kk : gG X d b Q F k n tgt lv st) : gG X d b Q F k n pc lv (.int (zI x) :: st) := g_lookup hC hdg hp (by rw [zI_t hx]; exact lok_D _ _ _ hn) ht kk
theorem zr_tabAt {F : gM} {k n : Nat} {x v off dflt lo hi : Int} {offs : Array Int} {len tgt : Nat} (hC : gC own cc nL rt nm R d b X) (hdg : decode cc pc = .ok (.tableswitch dflt lo hi offs, len)) (hx : zR x) (e : x = v) (h1 : lo ≤ v) (h2 : v ≤ hi) (ho : offs[(v - lo).toNat]? = some off) (ht : (pc : Int) + off = (tgt : Int)) (kk : gG X d b Q F k n tgt lv st) : gG X d b Q F k n pc lv (.int (zI x) :: st) := g_tableIn hC hdg (by rw [zI_t hx]; omega) (by rw [zI_t hx]; omega) (by rw [zI_t hx, e]; exact ho) ht kk
theorem zr_tabD {F : gM} {k n : Nat} {x dflt lo hi : Int} {offs : Array Int} {len tgt : Nat} (vs : List Int) (hC : gC own cc nL rt nm R d b X) (hdg : decode cc pc = .ok (.tableswitch dflt lo hi offs, len)) (hx : zR x) (hl : hi - lo < offs.toList.length) (hd : ∀ i, i < offs.toList.length → offs.toList[i]? = some dflt ∨ (lo + (i : Int)) ∈ vs) (hn : ∀ v ∈ vs, x ≠ v) (ht : (pc : Int) + dflt = (tgt : Int)) (kk : gG X d b Q F k n tgt lv st) : gG X d b Q F k n pc lv (.int (zI x) :: st) := by
  by_cases h1 : x < lo
  · exact g_tableOut hC hdg (Or.inl (by rw [zI_t hx]; exact h1)) ht kk
  · by_cases h2 : hi < x
    · exact g_tableOut hC hdg (Or.inr (by rw [zI_t hx]; exact h2)) ht kk
    · refine g_tableIn hC hdg (by rw [zI_t hx]; exact h1) (by rw [zI_t hx]; exact h2) ?_ ht kk
      rw [zI_t hx, ← Array.getElem?_toList]
      rcases hd (x - lo).toNat (by omega) with h | h
      · exact h
      · exact absurd (by omega : x = lo + ((x - lo).toNat : Int)) (hn _ h)
end YR
section YL
variable {own : String} {cc : ByteArray} {nL : Nat} {rt : Option FieldType} {nm : String} {R : Room} {d : gD} {b : Nat} {X : gX} {Q : State → Prop} {F : gM} {k n pc : Nat} {lv : List (Option Value)} {st : List Value}
theorem yr_iadd (hC : gC own cc nL rt nm R d b X) {x y : Int} (hdg : decode cc pc = .ok (.iadd, 1)) (kk : hG X d b Q F k n (pc + 1) lv (.int (zI (x + y)) :: st)) : hG X d b Q F k n pc lv (.int (zI y) :: .int (zI x) :: st) := zr_iadd hC hdg kk
theorem yr_isub (hC : gC own cc nL rt nm R d b X) {x y : Int} (hdg : decode cc pc = .ok (.isub, 1)) (kk : hG X d b Q F k n (pc + 1) lv (.int (zI (x - y)) :: st)) : hG X d b Q F k n pc lv (.int (zI y) :: .int (zI x) :: st) := zr_isub hC hdg kk
theorem yr_imul (hC : gC own cc nL rt nm R d b X) {x y : Int} (hdg : decode cc pc = .ok (.imul, 1)) (kk : hG X d b Q F k n (pc + 1) lv (.int (zI (x * y)) :: st)) : hG X d b Q F k n pc lv (.int (zI y) :: .int (zI x) :: st) := zr_imul hC hdg kk
theorem yr_iand (hC : gC own cc nL rt nm R d b X) {x y : Int} (hdg : decode cc pc = .ok (.iand, 1)) (kk : hG X d b Q F k n (pc + 1) lv (.int (zI (zan x y)) :: st)) : hG X d b Q F k n pc lv (.int (zI y) :: .int (zI x) :: st) := zr_iand hC hdg kk
theorem yr_ior (hC : gC own cc nL rt nm R d b X) {x y : Int} (hdg : decode cc pc = .ok (.ior, 1)) (kk : hG X d b Q F k n (pc + 1) lv (.int (zI (zor x y)) :: st)) : hG X d b Q F k n pc lv (.int (zI y) :: .int (zI x) :: st) := zr_ior hC hdg kk
theorem yr_ixor (hC : gC own cc nL rt nm R d b X) {x y : Int} (hdg : decode cc pc = .ok (.ixor, 1)) (kk : hG X d b Q F k n (pc + 1) lv (.int (zI (zxo x y)) :: st)) : hG X d b Q F k n pc lv (.int (zI y) :: .int (zI x) :: st) := zr_ixor hC hdg kk
theorem yr_ishl (hC : gC own cc nL rt nm R d b X) {x y : Int} (hdg : decode cc pc = .ok (.ishl, 1)) (kk : hG X d b Q F k n (pc + 1) lv (.int (zI (zsl x y)) :: st)) : hG X d b Q F k n pc lv (.int (zI y) :: .int (zI x) :: st) := zr_ishl hC hdg kk
theorem yr_ishr (hC : gC own cc nL rt nm R d b X) {x y : Int} (hdg : decode cc pc = .ok (.ishr, 1)) (kk : hG X d b Q F k n (pc + 1) lv (.int (zI (zsr x y)) :: st)) : hG X d b Q F k n pc lv (.int (zI y) :: .int (zI x) :: st) := zr_ishr hC hdg kk
theorem yr_iushr (hC : gC own cc nL rt nm R d b X) {x y : Int} (hdg : decode cc pc = .ok (.iushr, 1)) (kk : hG X d b Q F k n (pc + 1) lv (.int (zI (zus x y)) :: st)) : hG X d b Q F k n pc lv (.int (zI y) :: .int (zI x) :: st) := zr_iushr hC hdg kk
theorem yr_ladd (hC : gC own cc nL rt nm R d b X) {x y : Int} (hdg : decode cc pc = .ok (.ladd, 1)) (kk : hG X d b Q F k n (pc + 1) lv (.long (zJ (x + y)) :: st)) : hG X d b Q F k n pc lv (.long (zJ y) :: .long (zJ x) :: st) := zr_ladd hC hdg kk
theorem yr_lsub (hC : gC own cc nL rt nm R d b X) {x y : Int} (hdg : decode cc pc = .ok (.lsub, 1)) (kk : hG X d b Q F k n (pc + 1) lv (.long (zJ (x - y)) :: st)) : hG X d b Q F k n pc lv (.long (zJ y) :: .long (zJ x) :: st) := zr_lsub hC hdg kk
theorem yr_lmul (hC : gC own cc nL rt nm R d b X) {x y : Int} (hdg : decode cc pc = .ok (.lmul, 1)) (kk : hG X d b Q F k n (pc + 1) lv (.long (zJ (x * y)) :: st)) : hG X d b Q F k n pc lv (.long (zJ y) :: .long (zJ x) :: st) := zr_lmul hC hdg kk
theorem yr_ineg (hC : gC own cc nL rt nm R d b X) {x : Int} (hdg : decode cc pc = .ok (.ineg, 1)) (kk : hG X d b Q F k n (pc + 1) lv (.int (zI (-x)) :: st)) : hG X d b Q F k n pc lv (.int (zI x) :: st) := zr_ineg hC hdg kk
theorem yr_lneg (hC : gC own cc nL rt nm R d b X) {x : Int} (hdg : decode cc pc = .ok (.lneg, 1)) (kk : hG X d b Q F k n (pc + 1) lv (.long (zJ (-x)) :: st)) : hG X d b Q F k n pc lv (.long (zJ x) :: st) := zr_lneg hC hdg kk
theorem yr_lshr (hC : gC own cc nL rt nm R d b X) {x y : Int} (hdg : decode cc pc = .ok (.lshr, 1)) (kk : hG X d b Q F k n (pc + 1) lv (.long (zJ (zlsr x y)) :: st)) : hG X d b Q F k n pc lv (.int (zI y) :: .long (zJ x) :: st) := zr_lshr hC hdg kk
theorem yr_idiv (hC : gC own cc nL rt nm R d b X) {x y : Int} (hdg : decode cc pc = .ok (.idiv, 1)) (hy : zR y) (hne : ¬ y = 0) (kk : hG X d b Q F k n (pc + 1) lv (.int (zI (zd x y)) :: st)) : hG X d b Q F k n pc lv (.int (zI y) :: .int (zI x) :: st) := zr_idiv hC hdg hy hne kk
theorem yr_irem (hC : gC own cc nL rt nm R d b X) {x y : Int} (hdg : decode cc pc = .ok (.irem, 1)) (hy : zR y) (hne : ¬ y = 0) (kk : hG X d b Q F k n (pc + 1) lv (.int (zI (x - zd x y * y)) :: st)) : hG X d b Q F k n pc lv (.int (zI y) :: .int (zI x) :: st) := zr_irem hC hdg hy hne kk
theorem yr_ldiv (hC : gC own cc nL rt nm R d b X) {x y : Int} (hdg : decode cc pc = .ok (.ldiv, 1)) (hy : zL y) (hne : ¬ y = 0) (kk : hG X d b Q F k n (pc + 1) lv (.long (zJ (zdl x y)) :: st)) : hG X d b Q F k n pc lv (.long (zJ y) :: .long (zJ x) :: st) := zr_ldiv hC hdg hy hne kk
theorem yr_lrem (hC : gC own cc nL rt nm R d b X) {x y : Int} (hdg : decode cc pc = .ok (.lrem, 1)) (hy : zL y) (hne : ¬ y = 0) (kk : hG X d b Q F k n (pc + 1) lv (.long (zJ (x - zdl x y * y)) :: st)) : hG X d b Q F k n pc lv (.long (zJ y) :: .long (zJ x) :: st) := zr_lrem hC hdg hy hne kk
theorem yr_i2l (hC : gC own cc nL rt nm R d b X) {x : Int} (hdg : decode cc pc = .ok (.i2l, 1)) (hx : zR x) (kk : hG X d b Q F k n (pc + 1) lv (.long (zJ x) :: st)) : hG X d b Q F k n pc lv (.int (zI x) :: st) := zr_i2l hC hdg hx kk
theorem yr_l2i (hC : gC own cc nL rt nm R d b X) {x : Int} (hdg : decode cc pc = .ok (.l2i, 1)) (kk : hG X d b Q F k n (pc + 1) lv (.int (zI x) :: st)) : hG X d b Q F k n pc lv (.long (zJ x) :: st) := zr_l2i hC hdg kk
theorem yr_i2b (hC : gC own cc nL rt nm R d b X) {x : Int} (hdg : decode cc pc = .ok (.i2b, 1)) (kk : hG X d b Q F k n (pc + 1) lv (.int (zI (zby x)) :: st)) : hG X d b Q F k n pc lv (.int (zI x) :: st) := zr_i2b hC hdg kk
theorem yr_w {x : Int} (kk : ∀ z : Int, z = zw x → zR z → hG X d b Q F k n pc lv (.int (zI z) :: st)) : hG X d b Q F k n pc lv (.int (zI x) :: st) := zr_w kk
theorem yr_wl {x : Int} (kk : ∀ z : Int, z = zwl x → zL z → hG X d b Q F k n pc lv (.long (zJ z) :: st)) : hG X d b Q F k n pc lv (.long (zJ x) :: st) := zr_wl kk
theorem yr_ldc (hC : gC own cc nL rt nm R d b X) {i : Nat} {v : Int32} {e : Int} (hdg : decode cc pc = .ok (.ldc i, 2)) (hw : Cond.constant own i v ∈ gWs) (hv : v = zI e) (kk : hG X d b Q F k n (pc + 2) lv (.int (zI e) :: st)) : hG X d b Q F k n pc lv st := zr_ldc hC hdg hw hv kk
theorem yr_ldcw (hC : gC own cc nL rt nm R d b X) {i : Nat} {v : Int32} {e : Int} (hdg : decode cc pc = .ok (.ldc_w i, 3)) (hw : Cond.constant own i v ∈ gWs) (hv : v = zI e) (kk : hG X d b Q F k n (pc + 3) lv (.int (zI e) :: st)) : hG X d b Q F k n pc lv st := zr_ldcw hC hdg hw hv kk
theorem yr_ldc2 (hC : gC own cc nL rt nm R d b X) {i : Nat} {v : Int64} {e : Int} (hdg : decode cc pc = .ok (.ldc2_w i, 3)) (hw : Cond.constantLong own i v ∈ gWs) (hv : v = zJ e) (kk : hG X d b Q F k n (pc + 3) lv (.long (zJ e) :: st)) : hG X d b Q F k n pc lv st := zr_ldc2 hC hdg hw hv kk
theorem yr_iinc (hC : gC own cc nL rt nm R d b X) {i : Nat} {z : Int} {x : Int} {lv' : List (Option Value)} (hdg : decode cc pc = .ok (.iinc i z, 3)) (hx : lv[i]? = some (some (.int (zI x)))) (hok : gOk lv i = true) (hl : lv.set i (some (.int (zI (x + z)))) = lv') (kk : hG X d b Q F k n (pc + 3) lv' st) : hG X d b Q F k n pc lv st := zr_iinc hC hdg hx hok hl kk
theorem yr_if_eq (hC : gC own cc nL rt nm R d b X) {x : Int} {off : Int} {tgt : Nat} (hx : zR x) (hdg : decode cc pc = .ok (.ifCond .eq off, 3)) (ht : (pc : Int) + off = (tgt : Int)) (kt : x = 0 → hG X d b Q F k n tgt lv st) (kf : ¬ x = 0 → hG X d b Q F k n (pc + 3) lv st) : hG X d b Q F k n pc lv (.int (zI x) :: st) := zr_if_eq hC hx hdg ht kt kf
theorem yr_icmp_eq (hC : gC own cc nL rt nm R d b X) {x y : Int} {off : Int} {tgt : Nat} (hx : zR x) (hy : zR y) (hdg : decode cc pc = .ok (.if_icmp .eq off, 3)) (ht : (pc : Int) + off = (tgt : Int)) (kt : x = y → hG X d b Q F k n tgt lv st) (kf : ¬ x = y → hG X d b Q F k n (pc + 3) lv st) : hG X d b Q F k n pc lv (.int (zI y) :: .int (zI x) :: st) := zr_icmp_eq hC hx hy hdg ht kt kf
theorem yr_if_ne (hC : gC own cc nL rt nm R d b X) {x : Int} {off : Int} {tgt : Nat} (hx : zR x) (hdg : decode cc pc = .ok (.ifCond .ne off, 3)) (ht : (pc : Int) + off = (tgt : Int)) (kt : ¬ x = 0 → hG X d b Q F k n tgt lv st) (kf : x = 0 → hG X d b Q F k n (pc + 3) lv st) : hG X d b Q F k n pc lv (.int (zI x) :: st) := zr_if_ne hC hx hdg ht kt kf
theorem yr_icmp_ne (hC : gC own cc nL rt nm R d b X) {x y : Int} {off : Int} {tgt : Nat} (hx : zR x) (hy : zR y) (hdg : decode cc pc = .ok (.if_icmp .ne off, 3)) (ht : (pc : Int) + off = (tgt : Int)) (kt : ¬ x = y → hG X d b Q F k n tgt lv st) (kf : x = y → hG X d b Q F k n (pc + 3) lv st) : hG X d b Q F k n pc lv (.int (zI y) :: .int (zI x) :: st) := zr_icmp_ne hC hx hy hdg ht kt kf
theorem yr_if_lt (hC : gC own cc nL rt nm R d b X) {x : Int} {off : Int} {tgt : Nat} (hx : zR x) (hdg : decode cc pc = .ok (.ifCond .lt off, 3)) (ht : (pc : Int) + off = (tgt : Int)) (kt : x < 0 → hG X d b Q F k n tgt lv st) (kf : ¬ x < 0 → hG X d b Q F k n (pc + 3) lv st) : hG X d b Q F k n pc lv (.int (zI x) :: st) := zr_if_lt hC hx hdg ht kt kf
theorem yr_icmp_lt (hC : gC own cc nL rt nm R d b X) {x y : Int} {off : Int} {tgt : Nat} (hx : zR x) (hy : zR y) (hdg : decode cc pc = .ok (.if_icmp .lt off, 3)) (ht : (pc : Int) + off = (tgt : Int)) (kt : x < y → hG X d b Q F k n tgt lv st) (kf : ¬ x < y → hG X d b Q F k n (pc + 3) lv st) : hG X d b Q F k n pc lv (.int (zI y) :: .int (zI x) :: st) := zr_icmp_lt hC hx hy hdg ht kt kf
theorem yr_if_ge (hC : gC own cc nL rt nm R d b X) {x : Int} {off : Int} {tgt : Nat} (hx : zR x) (hdg : decode cc pc = .ok (.ifCond .ge off, 3)) (ht : (pc : Int) + off = (tgt : Int)) (kt : 0 ≤ x → hG X d b Q F k n tgt lv st) (kf : ¬ 0 ≤ x → hG X d b Q F k n (pc + 3) lv st) : hG X d b Q F k n pc lv (.int (zI x) :: st) := zr_if_ge hC hx hdg ht kt kf
theorem yr_icmp_ge (hC : gC own cc nL rt nm R d b X) {x y : Int} {off : Int} {tgt : Nat} (hx : zR x) (hy : zR y) (hdg : decode cc pc = .ok (.if_icmp .ge off, 3)) (ht : (pc : Int) + off = (tgt : Int)) (kt : y ≤ x → hG X d b Q F k n tgt lv st) (kf : ¬ y ≤ x → hG X d b Q F k n (pc + 3) lv st) : hG X d b Q F k n pc lv (.int (zI y) :: .int (zI x) :: st) := zr_icmp_ge hC hx hy hdg ht kt kf
theorem yr_if_gt (hC : gC own cc nL rt nm R d b X) {x : Int} {off : Int} {tgt : Nat} (hx : zR x) (hdg : decode cc pc = .ok (.ifCond .gt off, 3)) (ht : (pc : Int) + off = (tgt : Int)) (kt : 0 < x → hG X d b Q F k n tgt lv st) (kf : ¬ 0 < x → hG X d b Q F k n (pc + 3) lv st) : hG X d b Q F k n pc lv (.int (zI x) :: st) := zr_if_gt hC hx hdg ht kt kf
theorem yr_icmp_gt (hC : gC own cc nL rt nm R d b X) {x y : Int} {off : Int} {tgt : Nat} (hx : zR x) (hy : zR y) (hdg : decode cc pc = .ok (.if_icmp .gt off, 3)) (ht : (pc : Int) + off = (tgt : Int)) (kt : y < x → hG X d b Q F k n tgt lv st) (kf : ¬ y < x → hG X d b Q F k n (pc + 3) lv st) : hG X d b Q F k n pc lv (.int (zI y) :: .int (zI x) :: st) := zr_icmp_gt hC hx hy hdg ht kt kf
theorem yr_if_le (hC : gC own cc nL rt nm R d b X) {x : Int} {off : Int} {tgt : Nat} (hx : zR x) (hdg : decode cc pc = .ok (.ifCond .le off, 3)) (ht : (pc : Int) + off = (tgt : Int)) (kt : x ≤ 0 → hG X d b Q F k n tgt lv st) (kf : ¬ x ≤ 0 → hG X d b Q F k n (pc + 3) lv st) : hG X d b Q F k n pc lv (.int (zI x) :: st) := zr_if_le hC hx hdg ht kt kf
theorem yr_icmp_le (hC : gC own cc nL rt nm R d b X) {x y : Int} {off : Int} {tgt : Nat} (hx : zR x) (hy : zR y) (hdg : decode cc pc = .ok (.if_icmp .le off, 3)) (ht : (pc : Int) + off = (tgt : Int)) (kt : x ≤ y → hG X d b Q F k n tgt lv st) (kf : ¬ x ≤ y → hG X d b Q F k n (pc + 3) lv st) : hG X d b Q F k n pc lv (.int (zI y) :: .int (zI x) :: st) := zr_icmp_le hC hx hy hdg ht kt kf
theorem yr_lif_lt (hC : gC own cc nL rt nm R d b X) {x y : Int} {off : Int} {tgt : Nat} (hx : zL x) (hy : zL y) (hdg : decode cc pc = .ok (.ifCond .lt off, 3)) (ht : (pc : Int) + off = (tgt : Int)) (kt : x < y → hG X d b Q F k n tgt lv st) (kf : ¬ x < y → hG X d b Q F k n (pc + 3) lv st) : hG X d b Q F k n pc lv (.int (lg_cmp (zJ x) (zJ y)) :: st) := zr_lif_lt hC hx hy hdg ht kt kf
theorem yr_lif_ge (hC : gC own cc nL rt nm R d b X) {x y : Int} {off : Int} {tgt : Nat} (hx : zL x) (hy : zL y) (hdg : decode cc pc = .ok (.ifCond .ge off, 3)) (ht : (pc : Int) + off = (tgt : Int)) (kt : y ≤ x → hG X d b Q F k n tgt lv st) (kf : ¬ y ≤ x → hG X d b Q F k n (pc + 3) lv st) : hG X d b Q F k n pc lv (.int (lg_cmp (zJ x) (zJ y)) :: st) := zr_lif_ge hC hx hy hdg ht kt kf
theorem yr_lif_gt (hC : gC own cc nL rt nm R d b X) {x y : Int} {off : Int} {tgt : Nat} (hx : zL x) (hy : zL y) (hdg : decode cc pc = .ok (.ifCond .gt off, 3)) (ht : (pc : Int) + off = (tgt : Int)) (kt : y < x → hG X d b Q F k n tgt lv st) (kf : ¬ y < x → hG X d b Q F k n (pc + 3) lv st) : hG X d b Q F k n pc lv (.int (lg_cmp (zJ x) (zJ y)) :: st) := zr_lif_gt hC hx hy hdg ht kt kf
theorem yr_lif_le (hC : gC own cc nL rt nm R d b X) {x y : Int} {off : Int} {tgt : Nat} (hx : zL x) (hy : zL y) (hdg : decode cc pc = .ok (.ifCond .le off, 3)) (ht : (pc : Int) + off = (tgt : Int)) (kt : x ≤ y → hG X d b Q F k n tgt lv st) (kf : ¬ x ≤ y → hG X d b Q F k n (pc + 3) lv st) : hG X d b Q F k n pc lv (.int (lg_cmp (zJ x) (zJ y)) :: st) := zr_lif_le hC hx hy hdg ht kt kf
theorem yr_lokAt {F : gM} {k n : Nat} {x v off dflt : Int} {ps : Array (Int × Int)} {len tgt : Nat} (hC : gC own cc nL rt nm R d b X) (hdg : decode cc pc = .ok (.lookupswitch dflt ps, len)) (hx : zR x) (hp : (ps.toList.zip (ps.toList.drop 1)).all (fun (a, next) => a.1 < next.1) = true) (e : x = v) (ho : Op.lookupswitch.offset ps.toList dflt v = off) (ht : (pc : Int) + off = (tgt : Int)) (kk : hG X d b Q F k n tgt lv st) : hG X d b Q F k n pc lv (.int (zI x) :: st) := zr_lokAt hC hdg hx hp e ho ht kk
theorem yr_lokD {F : gM} {k n : Nat} {x dflt : Int} {ps : Array (Int × Int)} {len tgt : Nat} (hC : gC own cc nL rt nm R d b X) (hdg : decode cc pc = .ok (.lookupswitch dflt ps, len)) (hx : zR x) (hp : (ps.toList.zip (ps.toList.drop 1)).all (fun (a, next) => a.1 < next.1) = true) (hn : ∀ q ∈ ps.toList, x ≠ q.1) (ht : (pc : Int) + dflt = (tgt : Int)) (kk : hG X d b Q F k n tgt lv st) : hG X d b Q F k n pc lv (.int (zI x) :: st) := zr_lokD hC hdg hx hp hn ht kk
theorem yr_tabAt {F : gM} {k n : Nat} {x v off dflt lo hi : Int} {offs : Array Int} {len tgt : Nat} (hC : gC own cc nL rt nm R d b X) (hdg : decode cc pc = .ok (.tableswitch dflt lo hi offs, len)) (hx : zR x) (e : x = v) (h1 : lo ≤ v) (h2 : v ≤ hi) (ho : offs[(v - lo).toNat]? = some off) (ht : (pc : Int) + off = (tgt : Int)) (kk : hG X d b Q F k n tgt lv st) : hG X d b Q F k n pc lv (.int (zI x) :: st) := zr_tabAt hC hdg hx e h1 h2 ho ht kk
theorem yr_tabD {F : gM} {k n : Nat} {x dflt lo hi : Int} {offs : Array Int} {len tgt : Nat} (vs : List Int) (hC : gC own cc nL rt nm R d b X) (hdg : decode cc pc = .ok (.tableswitch dflt lo hi offs, len)) (hx : zR x) (hl : hi - lo < offs.toList.length) (hd : ∀ i, i < offs.toList.length → offs.toList[i]? = some dflt ∨ (lo + (i : Int)) ∈ vs) (hn : ∀ v ∈ vs, x ≠ v) (ht : (pc : Int) + dflt = (tgt : Int)) (kk : hG X d b Q F k n tgt lv st) : hG X d b Q F k n pc lv (.int (zI x) :: st) := zr_tabD vs hC hdg hx hl hd hn ht kk
theorem ynb {e : Int} (h : e = 0 ∨ e = 1) : narrow .boolean (.int (zI e)) = .int (zI e) := by rcases h with rfl | rfl <;> rfl
theorem yfb {e : Int} (h : e = 0 ∨ e = 1) : fits .boolean (.int (zI e)) = true := by rcases h with rfl | rfl <;> rfl
theorem y01 {e : Int} (h : e = 0 ∨ e = 1) : zI e = 0 ∨ zI e = 1 := by rcases h with rfl | rfl <;> first | exact Or.inl rfl | exact Or.inr rfl
theorem y01R {e : Int} (h : e = 0 ∨ e = 1) : zR e := by rcases h with rfl | rfl <;> decide
theorem y_maxR {a c : Int} (h1 : zR a) (h2 : zR c) : zR (max a c) := ⟨by omega, by omega⟩
theorem y_minR {a c : Int} (h1 : zR a) (h2 : zR c) : zR (min a c) := ⟨by omega, by omega⟩
theorem y_minL {a c : Int} (h1 : zL a) (h2 : zL c) : zL (min a c) := ⟨by omega, by omega⟩
theorem yr_max (hC : gC own cc nL rt nm R d b X) (hr0 : hRm X b) (ho : hOk X b k n) {idx : Nat} {x y : Int} (hw : Cond.methodLink own idx Lib.Math.max.name ∈ gWs) (hn : nL = lv.length) (hR : 1 ≤ R.frames ∧ 21 ≤ R.locals) (hr : (st.map fun v => v.category).sum ≤ 8) (hdg : decode cc pc = .ok (.invokestatic idx, 3)) (hx : zR x) (hy : zR y) (kk : hG X d b Q F k n (pc + 3) lv (.int (zI (max x y)) :: st)) : hG X d b Q F k n pc lv (.int (zI y) :: .int (zI x) :: st) := by
  refine h_max hC hr0 ho hw hn hR hr hdg ?_
  have e : (if zI x < zI y then zI y else zI x) = zI (max x y) := by
    by_cases c : x < y
    · rw [if_pos ((zI_lt hx hy).mpr c), show max x y = y by omega]
    · rw [if_neg (fun q => c ((zI_lt hx hy).mp q)), show max x y = x by omega]
  rw [e]
  exact kk
theorem yr_min (hC : gC own cc nL rt nm R d b X) (hr0 : hRm X b) (ho : hOk X b k n) {idx : Nat} {x y : Int} (hw : Cond.methodLink own idx Lib.Math.min.name ∈ gWs) (hn : nL = lv.length) (hR : 1 ≤ R.frames ∧ 21 ≤ R.locals) (hr : (st.map fun v => v.category).sum ≤ 8) (hdg : decode cc pc = .ok (.invokestatic idx, 3)) (hx : zR x) (hy : zR y) (kk : hG X d b Q F k n (pc + 3) lv (.int (zI (min x y)) :: st)) : hG X d b Q F k n pc lv (.int (zI y) :: .int (zI x) :: st) := by
  refine h_min hC hr0 ho hw hn hR hr hdg ?_
  have e : (if zI y < zI x then zI y else zI x) = zI (min x y) := by
    by_cases c : y < x
    · rw [if_pos ((zI_lt hy hx).mpr c), show min x y = y by omega]
    · rw [if_neg (fun q => c ((zI_lt hy hx).mp q)), show min x y = x by omega]
  rw [e]
  exact kk
theorem yr_minl (hC : gC own cc nL rt nm R d b X) (hr0 : hRm X b) (ho : hOk X b k n) {idx : Nat} {x y : Int} (hw : Cond.methodLink own idx Lib.MathLoose.min_long.x ∈ gWs) (hn : nL = lv.length) (hR : 1 ≤ R.frames ∧ 23 ≤ R.locals) (hr : (st.map fun v => v.category).sum ≤ 8) (hdg : decode cc pc = .ok (.invokestatic idx, 3)) (hx : zL x) (hy : zL y) (kk : hG X d b Q F k n (pc + 3) lv (.long (zJ (min x y)) :: st)) : hG X d b Q F k n pc lv (.long (zJ y) :: .long (zJ x) :: st) := by
  have e : (if zJ y < zJ x then zJ y else zJ x) = zJ (min x y) := by
    by_cases c : y < x
    · rw [if_pos ((zJ_lt hy hx).mpr c), show min x y = y by omega]
    · rw [if_neg (fun q => c ((zJ_lt hy hx).mp q)), show min x y = x by omega]
  have h1 := (h_le hC hr0 ho).1
  have h2 := (h_le hC hr0 ho).2
  have kk' : gG X d b Q F (min k (gKm b) - X.st.heap.size) (min n gNm - gsm b X.st.heap) (pc + 3) lv (.long (if zJ y < zJ x then zJ y else zJ x) :: st) := by rw [e]; exact kk
  exact fun H locs ls hH hS hL => va_mmin_long hC.hx hC.hb (by rw [hC.hml, hn]; exact hL.1.symm) hC.how (hC.hts _ hw) (hC.hts _ kw_917) (hC.hts _ kw_247) (hC.hts _ kw_918) (by rw [hC.hR]; exact hR.1) (by rw [hC.hR]; omega) (by rw [hC.hR]; exact h1) (by rw [hC.hR]; exact h2) hdg (kk' H locs ls hH hS hL)
end YL
/-- room for one exception -/
def yCx (b : Nat) (c : Nat × Nat) : Prop := c.1 + 1 + 386600 ≤ gKm b ∧ c.2 + 6 + 4275100 ≤ gNm
def yPx (d : gD) (b : Nat) (Y : gYt) (c : Nat × Nat) (F0 : gM) (S0 : gSt) (q : cS → Prop) : hU → Prop := fun u => ∃ (A : cS) (S : gSt), yZ d b Y (c.1 + 1, c.2 + 6) F0 S0 u S A ∧ q A
abbrev yxQi (X : gX) (d : gD) (b : Nat) (Y : gYt) (c : Nat × Nat) (F0 : gM) (S0 : gSt) (mc ms : Nat) (q : Int → cS → Prop) (x : cS → Prop) : State → Prop := vx_MQ X.be (va_Qi (yPi d b Y c F0 S0 q) (hB d b) (fun q => b ≤ q)) (vx_X (yPx d b Y c F0 S0 x) (hTw "java/lang/IllegalStateException" d b) (fun q => b ≤ q)) X.ar X.st mc ms (fun q => b ≤ q)
abbrev yxQv (X : gX) (d : gD) (b : Nat) (Y : gYt) (c : Nat × Nat) (F0 : gM) (S0 : gSt) (mc ms : Nat) (q : cS → Prop) (x : cS → Prop) : State → Prop := vx_MQ X.be (va_Qv (yPv d b Y c F0 S0 q) (hB d b) (fun q => b ≤ q)) (vx_X (yPx d b Y c F0 S0 x) (hTw "java/lang/IllegalStateException" d b) (fun q => b ≤ q)) X.ar X.st mc ms (fun q => b ≤ q)
section YX
variable {own : String} {cc : ByteArray} {nL : Nat} {rt : Option FieldType} {nm : String} {R : Room} {d : gD} {b : Nat} {X : gX} {Q : State → Prop} {pc : Nat} {lv : List (Option Value)} {st : List Value} {Y : gYt} {c : Nat × Nat} {F0 : gM} {S0 : gSt} {u : hU} {S : gSt} {A : cS}
theorem yZ.hr (h : yZ d b Y c F0 S0 u S A) : u.2.1 ≤ c.1 + 386600 ∧ u.2.2 ≤ c.2 + 4275100 := by
  have e : gAm = 256000 := rfl
  have h1 := (h.hi.sz (by have := h.2.1.psi; omega)).room
  have h2 := h.hi.2.2.1
  have h3 := h.hi.2.2.2.1
  exact ⟨by omega, by omega⟩
theorem yZ.exc (h : yZ d b Y c F0 S0 u S A) (hcx : yCx b c) : yZ d b Y (c.1 + 1, c.2 + 6) F0 S0 (u.1, u.2.1 + 1, u.2.2 + 6) S A := by
  obtain ⟨⟨h1, h2, h3, h4, h5, h6⟩, g⟩ := h
  exact ⟨⟨h1, h2, by show u.2.1 + 1 ≤ c.1 + 1 + _; omega, by show u.2.2 + 6 ≤ c.2 + 6 + _; omega, hcx.1, hcx.2⟩, g⟩
theorem yZ.up (h : yZ d b Y c F0 S0 u S A) (hcx : yCx b c) : yZ d b Y (c.1 + 1, c.2 + 6) F0 S0 u S A := by
  obtain ⟨⟨h1, h2, h3, h4, h5, h6⟩, g⟩ := h
  exact ⟨⟨h1, h2, by show u.2.1 ≤ c.1 + 1 + _; omega, by show u.2.2 ≤ c.2 + 6 + _; omega, hcx.1, hcx.2⟩, g⟩
theorem yZ.trx {c' : Nat × Nat} {u' : hU} {S' : gSt} {A' : cS} (h : yZ d b Y c F0 S0 u S A) (h2 : yZ d b Y c' u.1 S u' S' A') : yZ d b Y c' F0 S0 u' S' A' := ⟨h2.1, h2.2.1, h.2.2.1.tr h2.2.2.1, h.2.2.2.tr h2.2.2.2 yJS yKS (by decide) (by decide)⟩
theorem yx_out {E : cS → Prop} {Qc : Array Value → State → Outcome → State → Prop} {L0 mc ms : Nat} (hC : gC own cc nL rt nm (gR L0 mc ms) d b X) (hr : hRm X b) (ho : yOk X b u) (h : yZ d b Y (c.1 + 1, c.2 + 6) F0 S0 u S A) (hT : ∀ x ∈ X.co.exceptionTable.toList, False) (he : E A) : hGx X d b (vx_MQ X.be Qc (vx_X (yPx d b Y c F0 S0 E) (hTw "java/lang/IllegalStateException" d b) (fun q => b ≤ q)) X.ar X.st mc ms (fun q => b ≤ q)) u.1 u.2.1 u.2.2 pc lv "java/lang/IllegalStateException" := h_xout hC hr ho rfl rfl hT ⟨A, S, h, he⟩
theorem yx_throw {E : cS → Prop} {Qc : Array Value → State → Outcome → State → Prop} {cc : ByteArray} {L0 mc ms : Nat} (hC : gC RX6 cc nL rt nm (gR L0 mc ms) d b X) (hr : hRm X b) (ho : yOk X b u) (h : yZ d b Y c F0 S0 u S A) (hl : X.la.stackTraces = false) (hT : ∀ x ∈ X.co.exceptionTable.toList, False) (hcx : yCx b c) (hk : Cond.classLink RX6 80 "java/lang/IllegalStateException" ∈ gWs) (hini : Cond.initialized "java/lang/IllegalStateException" ∈ gWs) (hn : nL = lv.length)
    (d0 : decode cc pc = .ok (.new 80, 3)) (d3 : decode cc (pc + 3) = .ok (.dup, 1)) (d4 : decode cc (pc + 4) = .ok (.ldc 92, 2)) (d6 : decode cc (pc + 6) = .ok (.invokespecial 94, 3)) (d9 : decode cc (pc + 9) = .ok (.athrow, 1)) (hst : st = []) (hL : 6 ≤ L0) (he : E A) : yG X d b (vx_MQ X.be Qc (vx_X (yPx d b Y c F0 S0 E) (hTw "java/lang/IllegalStateException" d b) (fun q => b ≤ q)) X.ar X.st mc ms (fun q => b ≤ q)) u pc lv st := by
  subst hst
  have hr2 := h.hr
  exact h_throwS (is := 92) (ic := 94) (ik := 80) (i := 4) (names := ["java/lang/RuntimeException", "java/lang/Exception"]) hC hr ho rfl rfl hl hT (by decide +kernel) (by decide +kernel) hk hini rfl x_ise1 x_ise2 x_ise3 hn d0 d3 d4 d6 d9 (by show 2 + 3 < L0; omega) (by show 0 + (13 * (2 + 1) + 43) ≤ 64 * L0; omega) (by have := hcx.1; omega) (by have := hcx.2; omega) ⟨A, S, h.exc hcx, he⟩
theorem yx_calli (hC : gC own cc nL rt nm R d b X) (hr : hRm X b) (ho : yOk X b u) (h : yZ d b Y c F0 S0 u S A) {y : MethodName} {c2 : ByteArray} {mL nA lvl idx : Nat} {rt0 : FieldType} {a ci N0 : Nat} {T0 : u_T} {v0 : Value} {fs : List Value} {As : List Value} {q : Int → cS → Prop} {x : cS → Prop} (hc : vwCl[ci]? = some (y.cls, T0, N0)) (hF : u.1 a = .inr (ci, v0 :: fs)) (hm : hXi X.la d b y c2 mL rt0 lvl u.2.1 u.2.2 u.1 (.ref a :: As) (yPi d b Y c u.1 S q) "java/lang/IllegalStateException" (yPx d b Y c u.1 S x)) (hl : gCV own idx y c2 mL (some rt0) nA) (hA : As.length = nA) (hn : nL = lv.length) (hcat : (st.map fun v => v.category).sum ≤ 8) (hf : hFr R lvl mL) (hdg : decode cc pc = .ok (.invokevirtual idx, 3))
    (kx : ∀ (A' : cS) (u' : hU) (S' : gSt), yOk X b u' → yZ d b Y (c.1 + 1, c.2 + 6) F0 S0 u' S' A' → x A' → hGx X d b Q u'.1 u'.2.1 u'.2.2 pc lv "java/lang/IllegalStateException") (kk : ∀ (e : Int) (A' : cS) (u' : hU) (S' : gSt), zR e → yOk X b u' → yZ d b Y c F0 S0 u' S' A' → q e A' → yG X d b Q u' (pc + 3) lv (.int (zI e) :: st)) : yG X d b Q u pc lv (As.reverse ++ .ref a :: st) := by
  refine h_xcallVi hC hr ho hc hF hm hl hA hn hcat hf hdg (fun u' hp ho' => ?_) (fun r u' hp ho' => ?_)
  · obtain ⟨A', S', e3, e4⟩ := hp
    exact kx A' u' S' ho' (h.trx e3) e4
  · obtain ⟨e, A', S', e1, e2, e3, e4⟩ := hp
    subst e1
    exact kk e A' u' S' e2 ho' (h.tr e3) e4
theorem yx_callv (hC : gC own cc nL rt nm R d b X) (hr : hRm X b) (ho : yOk X b u) (h : yZ d b Y c F0 S0 u S A) {y : MethodName} {c2 : ByteArray} {mL nA lvl idx : Nat} {a ci N0 : Nat} {T0 : u_T} {v0 : Value} {fs : List Value} {As : List Value} {q : cS → Prop} {x : cS → Prop} (hc : vwCl[ci]? = some (y.cls, T0, N0)) (hF : u.1 a = .inr (ci, v0 :: fs)) (hm : hXv X.la d b y c2 mL lvl u.2.1 u.2.2 u.1 (.ref a :: As) (yPv d b Y c u.1 S q) "java/lang/IllegalStateException" (yPx d b Y c u.1 S x)) (hl : gCV own idx y c2 mL none nA) (hA : As.length = nA) (hn : nL = lv.length) (hcat : (st.map fun v => v.category).sum ≤ 8) (hf : hFr R lvl mL) (hdg : decode cc pc = .ok (.invokevirtual idx, 3))
    (kx : ∀ (A' : cS) (u' : hU) (S' : gSt), yOk X b u' → yZ d b Y (c.1 + 1, c.2 + 6) F0 S0 u' S' A' → x A' → hGx X d b Q u'.1 u'.2.1 u'.2.2 pc lv "java/lang/IllegalStateException") (kk : ∀ (A' : cS) (u' : hU) (S' : gSt), yOk X b u' → yZ d b Y c F0 S0 u' S' A' → q A' → yG X d b Q u' (pc + 3) lv st) : yG X d b Q u pc lv (As.reverse ++ .ref a :: st) := by
  refine h_xcallVv hC hr ho hc hF hm hl hA hn hcat hf hdg (fun u' hp ho' => ?_) (fun u' hp ho' => ?_)
  · obtain ⟨A', S', e3, e4⟩ := hp
    exact kx A' u' S' ho' (h.trx e3) e4
  · obtain ⟨A', S', e3, e4⟩ := hp
    exact kk A' u' S' ho' (h.tr e3) e4
end YX
