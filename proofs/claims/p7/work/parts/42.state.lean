/-! THE CLASS'S STATE WITH ITS ROOM. gpt, gct: slots and cells that a row of n cells has cost at most, since it had 16; hRs, hRc: of all rows and the store. gPsi: the number of ints that were added to the compiler's rows (1 .. 33) bounds it from above, and it bounds these rows' cells; so a compiling that adds few ints makes little. Row 42 (the machine's stack) may grow to its end; 43 (calls) is told by its size; the others end early by themselves. -/
def gSum (f : Nat → Nat) : Nat → Nat
  | 0 => 0
  | m + 1 => gSum f m + f m
theorem gSum_le {f g : Nat → Nat} : ∀ {m : Nat}, (∀ i, i < m → f i ≤ g i) → gSum f m ≤ gSum g m
  | 0, _ => Nat.le_refl 0
  | m + 1, h => Nat.add_le_add (gSum_le fun i hi => h i (Nat.lt_succ_of_lt hi)) (h m (Nat.lt_succ_self m))
theorem gSum_eq {f g : Nat → Nat} : ∀ {m : Nat}, (∀ i, i < m → f i = g i) → gSum f m = gSum g m
  | 0, _ => rfl
  | m + 1, h => by
    show gSum f m + f m = gSum g m + g m
    rw [gSum_eq (fun i hi => h i (Nat.lt_succ_of_lt hi)), h m (Nat.lt_succ_self m)]
theorem gSum_at {f g : Nat → Nat} {j : Nat} : ∀ {m : Nat}, j < m → (∀ i, i < m → i ≠ j → g i = f i) → gSum g m + f j = gSum f m + g j
  | 0, h, _ => absurd h (Nat.not_lt_zero j)
  | m + 1, h, hs => by
    show gSum g m + g m + f j = gSum f m + f m + g j
    by_cases e : j = m
    · subst e
      rw [gSum_eq (f := g) (g := f) (fun i hi => hs i (Nat.lt_succ_of_lt hi) (Nat.ne_of_lt hi))]
      omega
    · have h1 := gSum_at (f := f) (g := g) (j := j) (m := m) (by omega) (fun i hi hn => hs i (Nat.lt_succ_of_lt hi) hn)
      have h2 := hs m (Nat.lt_succ_self m) (fun q => e q.symm)
      omega
theorem gSum_app {f : Nat → Nat} {a : Nat} : ∀ {c : Nat}, gSum f (a + c) = gSum f a + gSum (fun i => f (a + i)) c
  | 0 => rfl
  | c + 1 => by
    show gSum f (a + c) + f (a + c) = gSum f a + (gSum (fun i => f (a + i)) c + f (a + c))
    rw [gSum_app (c := c), Nat.add_assoc]
theorem gSum_lin {f g : Nat → Nat} {p q : Nat} : ∀ {m : Nat}, (∀ i, i < m → f i ≤ p * g i + q) → gSum f m ≤ p * gSum g m + m * q
  | 0, _ => Nat.zero_le _
  | m + 1, h => by
    have h1 := gSum_lin (f := f) (g := g) (p := p) (q := q) (m := m) (fun i hi => h i (Nat.lt_succ_of_lt hi))
    have h2 := h m (Nat.lt_succ_self m)
    show gSum f m + f m ≤ p * (gSum g m + g m) + (m + 1) * q
    rw [Nat.mul_add, Nat.add_mul, Nat.one_mul]
    omega
def gpt (mo n : Nat) : Nat := if n < mo then 2 * n else 3 * mo
def gct (mo n : Nat) : Nat := if n < mo then n / 16 else mo / 16 + 1
def gps (n z : Nat) : Nat := max z (n / 2 - 8)
def hRc (S : gSt) : Nat := gSum (fun j => gct (gmo j) (sN S j)) 44 + sN S 45
def hRs (S : gSt) : Nat := gSum (fun j => gpt (gmo j) (sN S j)) 44 + 2 * sN S 45
def gPsi (S : gSt) : Nat := gSum (fun i => gps (sN S (1 + i)) (sZ S (1 + i))) 33
abbrev gAm : Nat := 256000
/-- what is asked of the sizes -/
def gSz (S : gSt) : Prop := (∀ j, j < 44 → sN S j ≤ gmo j) ∧ sN S 43 ≤ 1024 ∧ sN S 45 ≤ 65536 ∧ gPsi S ≤ gAm
theorem gmo_c : ∀ i, i < 33 → gmo (1 + i) = 1000000 := by decide
theorem gps_n {n z : Nat} : n ≤ 2 * gps n z + 17 := by
  have h : n / 2 - 8 ≤ gps n z := Nat.le_max_right _ _
  omega
theorem gpt_le {mo n : Nat} (h : n ≤ mo) : gpt mo n ≤ 3 * mo := by
  unfold gpt
  split <;> omega
theorem gct_le {mo n : Nat} (h : n ≤ mo) : gct mo n ≤ mo / 16 + 1 := by
  unfold gct
  split <;> omega
theorem gSum_one {f : Nat → Nat} {j m : Nat} (h : j < m) : f j ≤ gSum f m := by
  have h1 := gSum_at (f := fun i => if i = j then 0 else f i) (g := f) h (fun i _ hn => (if_neg hn).symm)
  have h2 : (if j = j then 0 else f j) = 0 := if_pos rfl
  have h3 : gSum f m + (if j = j then 0 else f j) = gSum (fun i => if i = j then 0 else f i) m + f j := h1
  rw [h2] at h3
  omega
theorem gps_1 {S : gSt} {i : Nat} (h : i < 33) : gps (sN S (1 + i)) (sZ S (1 + i)) ≤ gPsi S := gSum_one (f := fun i => gps (sN S (1 + i)) (sZ S (1 + i))) h
theorem gSz.room {S : gSt} (h : gSz S) : hRc S ≤ 386600 ∧ hRs S ≤ 4275100 := by
  obtain ⟨h1, h2, h3, h4⟩ := h
  have small : ∀ i, i < 33 → sN S (1 + i) < 1000000 := fun i hi => by
    have a := gps_1 (S := S) hi
    have c := gps_n (n := sN S (1 + i)) (z := sZ S (1 + i))
    have e : gAm = 256000 := rfl
    omega
  have c1 : gSum (fun i => gct (gmo (1 + i)) (sN S (1 + i))) 33 ≤ 1 * gPsi S + 33 * 2 := gSum_lin (fun i hi => by
    show gct (gmo (1 + i)) (sN S (1 + i)) ≤ _
    rw [gmo_c i hi, gct, if_pos (small i hi)]
    have c := gps_n (n := sN S (1 + i)) (z := sZ S (1 + i))
    omega)
  have s1 : gSum (fun i => gpt (gmo (1 + i)) (sN S (1 + i))) 33 ≤ 4 * gPsi S + 33 * 34 := gSum_lin (fun i hi => by
    show gpt (gmo (1 + i)) (sN S (1 + i)) ≤ _
    rw [gmo_c i hi, gpt, if_pos (small i hi)]
    have c := gps_n (n := sN S (1 + i)) (z := sZ S (1 + i))
    omega)
  have g1 : gSum (fun j => gct (gmo j) (sN S j)) 44 = gSum (fun j => gct (gmo j) (sN S j)) 1 + gSum (fun i => gct (gmo (1 + i)) (sN S (1 + i))) 33 + gSum (fun i => gct (gmo (34 + i)) (sN S (34 + i))) 10 := by
    rw [show (44 : Nat) = 34 + 10 from rfl, gSum_app, show (34 : Nat) = 1 + 33 from rfl, gSum_app]
  have g2 : gSum (fun j => gpt (gmo j) (sN S j)) 44 = gSum (fun j => gpt (gmo j) (sN S j)) 1 + gSum (fun i => gpt (gmo (1 + i)) (sN S (1 + i))) 33 + gSum (fun i => gpt (gmo (34 + i)) (sN S (34 + i))) 10 := by
    rw [show (44 : Nat) = 34 + 10 from rfl, gSum_app, show (34 : Nat) = 1 + 33 from rfl, gSum_app]
  have e43 : gct (gmo 43) (sN S 43) ≤ 64 ∧ gpt (gmo 43) (sN S 43) ≤ 2048 := by
    have hl : sN S 43 < gmo 43 := Nat.lt_of_le_of_lt h2 (by decide)
    rw [gct, gpt, if_pos hl, if_pos hl]
    omega
  have eC : ∀ j, j < 44 → gct (gmo j) (sN S j) ≤ gmo j / 16 + 1 := fun j hj => gct_le (h1 j hj)
  have eS : ∀ j, j < 44 → gpt (gmo j) (sN S j) ≤ 3 * gmo j := fun j hj => gpt_le (h1 j hj)
  have c0 := eC 0 (by decide)
  have t0 := eS 0 (by decide)
  have c34 := eC 34 (by decide)
  have t34 := eS 34 (by decide)
  have c35 := eC 35 (by decide)
  have t35 := eS 35 (by decide)
  have c36 := eC 36 (by decide)
  have t36 := eS 36 (by decide)
  have c37 := eC 37 (by decide)
  have t37 := eS 37 (by decide)
  have c38 := eC 38 (by decide)
  have t38 := eS 38 (by decide)
  have c39 := eC 39 (by decide)
  have t39 := eS 39 (by decide)
  have c40 := eC 40 (by decide)
  have t40 := eS 40 (by decide)
  have c41 := eC 41 (by decide)
  have t41 := eS 41 (by decide)
  have c42 := eC 42 (by decide)
  have t42 := eS 42 (by decide)
  have e : gAm = 256000 := rfl
  have m0 : gmo 0 = 6000 := rfl
  have m34 : gmo 34 = 6000 := rfl
  have m35 : gmo 35 = 6000 := rfl
  have m36 : gmo 36 = 6000 := rfl
  have m37 : gmo 37 = 6000 := rfl
  have m38 : gmo 38 = 4096 := rfl
  have m39 : gmo 39 = 4096 := rfl
  have m40 : gmo 40 = 100 := rfl
  have m41 : gmo 41 = 100 := rfl
  have m42 : gmo 42 = 1000000 := rfl
  rw [m0] at c0 t0
  rw [m34] at c34 t34
  rw [m35] at c35 t35
  rw [m36] at c36 t36
  rw [m37] at c37 t37
  rw [m38] at c38 t38
  rw [m39] at c39 t39
  rw [m40] at c40 t40
  rw [m41] at c41 t41
  rw [m42] at c42 t42
  have x1 : gSum (fun j => gct (gmo j) (sN S j)) 1 = 0 + gct (gmo 0) (sN S 0) := rfl
  have x2 : gSum (fun j => gpt (gmo j) (sN S j)) 1 = 0 + gpt (gmo 0) (sN S 0) := rfl
  have x3 : gSum (fun i => gct (gmo (34 + i)) (sN S (34 + i))) 10 = 0 + gct (gmo 34) (sN S 34) + gct (gmo 35) (sN S 35) + gct (gmo 36) (sN S 36) + gct (gmo 37) (sN S 37) + gct (gmo 38) (sN S 38) + gct (gmo 39) (sN S 39) + gct (gmo 40) (sN S 40) + gct (gmo 41) (sN S 41) + gct (gmo 42) (sN S 42) + gct (gmo 43) (sN S 43) := rfl
  have x4 : gSum (fun i => gpt (gmo (34 + i)) (sN S (34 + i))) 10 = 0 + gpt (gmo 34) (sN S 34) + gpt (gmo 35) (sN S 35) + gpt (gmo 36) (sN S 36) + gpt (gmo 37) (sN S 37) + gpt (gmo 38) (sN S 38) + gpt (gmo 39) (sN S 39) + gpt (gmo 40) (sN S 40) + gpt (gmo 41) (sN S 41) + gpt (gmo 42) (sN S 42) + gpt (gmo 43) (sN S 43) := rfl
  obtain ⟨f1, f2⟩ := e43
  rw [m0] at x1 x2
  rw [m34, m35, m36, m37, m38, m39, m40, m41, m42] at x3 x4
  unfold hRc hRs
  rw [g1, g2]
  constructor <;> omega
/-- the class's state, and what is there in all: c says what others made -/
def hI (d : gD) (b : Nat) (Y : gYt) (c : Nat × Nat) (u : hU) (S : gSt) : Prop := gWT d Y u.1 S ∧ sN S 43 ≤ 1024 ∧ u.2.1 ≤ c.1 + hRc S ∧ u.2.2 ≤ c.2 + hRs S ∧ c.1 + 386600 ≤ gKm b ∧ c.2 + 4275100 ≤ gNm
section HI
variable {d : gD} {b : Nat} {Y : gYt} {c : Nat × Nat} {u : hU} {S : gSt} {F F' : gM} {k n : Nat}
theorem hI.w (h : hI d b Y c u S) : gWT d Y u.1 S := h.1
theorem hI.sz (h : hI d b Y c u S) (hp : gPsi S ≤ gAm) : gSz S := ⟨fun j hj => (h.1.r j hj).2.2.2.2.1, h.2.1, h.1.2.2.1.2.2.2, hp⟩
/-- an add's growth is paid -/
theorem gpt_add {mo n z : Nat} (h16 : 16 ≤ n) (hn : n ≤ mo) (hz : z < mo) (hzn : z ≤ n) : gpt mo n + gAs mo n z ≤ gpt mo (gAn mo n z) ∧ gct mo n + gAc n z ≤ gct mo (gAn mo n z) ∧ gAn mo n z ≤ mo ∧ n ≤ gAn mo n z := by
  unfold gAs gAc gAn
  by_cases c : z < n
  · rw [if_pos c, if_pos c, if_pos c]
    exact ⟨Nat.le_refl _, Nat.le_refl _, hn, Nat.le_refl _⟩
  · rw [if_neg c, if_neg c, if_neg c]
    have hlt : n < mo := by omega
    unfold gpt gct
    rw [if_pos hlt, if_pos hlt]
    by_cases e : 2 * n < mo
    · have em : min mo (2 * n) = 2 * n := Nat.min_eq_right (by omega)
      rw [em, if_pos e, if_pos e]
      omega
    · have em : min mo (2 * n) = mo := Nat.min_eq_left (by omega)
      rw [em, if_neg (Nat.lt_irrefl mo), if_neg (Nat.lt_irrefl mo)]
      omega
theorem gps_add {mo n z : Nat} (hz : z < mo) (hzn : z ≤ n) : gps (gAn mo n z) (z + 1) ≤ gps n z + 1 := by
  unfold gAn gps
  by_cases c : z < n
  · rw [if_pos c]
    omega
  · rw [if_neg c]
    have e : z = n := by omega
    subst e
    have h1 : min mo (2 * z) ≤ 2 * z := Nat.min_le_right _ _
    omega
/-- the sizes of a state with one row changed -/
theorem gR_row {S S' : gSt} {j : Nat} (hj : j < 44) (hs : ∀ i, i ≠ j → sN S' i = sN S i) : hRc S' + gct (gmo j) (sN S j) = hRc S + gct (gmo j) (sN S' j) ∧ hRs S' + gpt (gmo j) (sN S j) = hRs S + gpt (gmo j) (sN S' j) := by
  have h1 := gSum_at (f := fun j => gct (gmo j) (sN S j)) (g := fun j => gct (gmo j) (sN S' j)) hj (fun i _ hn => by show gct (gmo i) (sN S' i) = gct (gmo i) (sN S i); rw [hs i hn])
  have h2 := gSum_at (f := fun j => gpt (gmo j) (sN S j)) (g := fun j => gpt (gmo j) (sN S' j)) hj (fun i _ hn => by show gpt (gmo i) (sN S' i) = gpt (gmo i) (sN S i); rw [hs i hn])
  have h3 := hs 45 (by omega)
  have h1' : gSum (fun j => gct (gmo j) (sN S' j)) 44 + gct (gmo j) (sN S j) = gSum (fun j => gct (gmo j) (sN S j)) 44 + gct (gmo j) (sN S' j) := h1
  have h2' : gSum (fun j => gpt (gmo j) (sN S' j)) 44 + gpt (gmo j) (sN S j) = gSum (fun j => gpt (gmo j) (sN S j)) 44 + gpt (gmo j) (sN S' j) := h2
  unfold hRc hRs
  rw [h3]
  omega
theorem gPsi_row {S S' : gSt} {j : Nat} (hj : j < 33) (hs : ∀ i, i ≠ 1 + j → sN S' i = sN S i ∧ sZ S' i = sZ S i) : gPsi S' + gps (sN S (1 + j)) (sZ S (1 + j)) = gPsi S + gps (sN S' (1 + j)) (sZ S' (1 + j)) :=
  gSum_at (f := fun i => gps (sN S (1 + i)) (sZ S (1 + i))) (g := fun i => gps (sN S' (1 + i)) (sZ S' (1 + i))) hj (fun i _ hn => by
    obtain ⟨e1, e2⟩ := hs (1 + i) (by omega)
    show gps (sN S' (1 + i)) (sZ S' (1 + i)) = gps (sN S (1 + i)) (sZ S (1 + i))
    rw [e1, e2])
theorem gPsi_out {S S' : gSt} {j : Nat} (hj : j = 0 ∨ 34 ≤ j) (hs : ∀ i, i ≠ j → sN S' i = sN S i ∧ sZ S' i = sZ S i) : gPsi S' = gPsi S :=
  gSum_eq (fun i hi => by
    obtain ⟨e1, e2⟩ := hs (1 + i) (by omega)
    show gps (sN S' (1 + i)) (sZ S' (1 + i)) = gps (sN S (1 + i)) (sZ S (1 + i))
    rw [e1, e2])
/-- what an add to row j asks -/
def gAk (S : gSt) (j : Nat) : Prop := (1 ≤ j ∧ j < 34 → gPsi S + 1 ≤ gAm) ∧ (j = 43 → sZ S 43 ≤ 500) ∧ gPsi S ≤ gAm
/-- the sizes behind an add, as a state of its own -/
theorem hI.add_sz (h : hI d b Y c u S) {j : Nat} (hj : j < 44) (ha : gAk S j) (hz : sZ S j < gmo j) (S' : gSt) (e1 : ∀ i, i ≠ j → sN S' i = sN S i ∧ sZ S' i = sZ S i) (e2 : sZ S' j = sZ S j + 1) (e3 : sN S' j = gAn (gmo j) (sN S j) (sZ S j)) :
    gSz S' ∧ hRc S + gAc (sN S j) (sZ S j) ≤ hRc S' ∧ hRs S + gAs (gmo j) (sN S j) (sZ S j) ≤ hRs S' ∧ (1 ≤ j ∧ j < 34 → gPsi S' ≤ gPsi S + 1) ∧ (j = 0 ∨ 34 ≤ j → gPsi S' = gPsi S) := by
  obtain ⟨-, -, hr1, hr2, hr3, -⟩ := h.1.r j hj
  obtain ⟨p1, p2, p3, p4⟩ := gpt_add (mo := gmo j) (n := sN S j) (z := sZ S j) hr2 hr3 hz hr1
  obtain ⟨q1, q2⟩ := gR_row (S := S) (S' := S') hj (fun i hi => (e1 i hi).1)
  rw [e3] at q1 q2
  have hps : (1 ≤ j ∧ j < 34 → gPsi S' ≤ gPsi S + 1) ∧ (j = 0 ∨ 34 ≤ j → gPsi S' = gPsi S) := by
    refine ⟨fun hb => ?_, fun hb => gPsi_out hb e1⟩
    obtain ⟨i, rfl⟩ : ∃ i, j = 1 + i := ⟨j - 1, by omega⟩
    have r := gPsi_row (S := S) (S' := S') (j := i) (by omega) e1
    rw [e2, e3] at r
    have w := gps_add (mo := gmo (1 + i)) (n := sN S (1 + i)) (z := sZ S (1 + i)) hz hr1
    omega
  refine ⟨⟨fun i hi => ?_, ?_, ?_, ?_⟩, by omega, by omega, hps⟩
  · by_cases e : i = j
    · subst e
      rw [e3]
      exact p3
    · rw [(e1 i e).1]
      exact (h.1.r i hi).2.2.2.2.1
  · by_cases e : 43 = j
    · subst e
      rw [e3]
      have h43 := ha.2.1 rfl
      have hc := h.2.1
      unfold gAn
      split
      · exact hc
      · exact Nat.le_trans (Nat.min_le_right _ _) (by omega)
    · rw [(e1 43 e).1]
      exact h.2.1
  · rw [(e1 45 (by omega)).1]
    exact h.1.2.2.1.2.2.2
  · by_cases hb : 1 ≤ j ∧ j < 34
    · exact Nat.le_trans (hps.1 hb) (ha.1 hb)
    · rw [hps.2 (by omega)]
      exact ha.2.2
theorem hI.add_pre (h : hI d b Y c (F, k, n) S) {j : Nat} (hj : j < 44) (ha : gAk S j) (hz : sZ S j < gmo j) : k + gAc (sN S j) (sZ S j) ≤ gKm b ∧ n + gAs (gmo j) (sN S j) (sZ S j) ≤ gNm := by
  obtain ⟨h1, h2, h3, h4, h5, h6⟩ := id h
  obtain ⟨z1, z2, z3, -⟩ := h.add_sz hj ha hz (uR S j (sQ S j) (gAn (gmo j) (sN S j) (sZ S j)) (sZ S j + 1) (sF S j)) (fun i hi => ⟨va_up_ne _ _ hi, va_up_ne _ _ hi⟩) (va_up_self _ _ _) (va_up_self _ _ _)
  obtain ⟨y1, y2⟩ := z1.room
  have h3' : k ≤ c.1 + hRc S := h3
  have h4' : n ≤ c.2 + hRs S := h4
  exact ⟨by omega, by omega⟩
end HI
/-- what an add leaves -/
def gAd (S S' : gSt) (j : Nat) (x : Int32) : Prop := (sZ S j < gmo j → sZ S' j = sZ S j + 1 ∧ (∀ i, i < sZ S j → sF S' j i = sF S j i) ∧ sF S' j (sZ S j) = x) ∧ (gmo j ≤ sZ S j → S' = S) ∧ (1 ≤ j ∧ j < 34 → gPsi S' ≤ gPsi S + 1) ∧ (j = 0 ∨ 34 ≤ j → gPsi S' = gPsi S)
/-- a full row -/
theorem c_Ints_full (l : Launch) (d : gD) (b : Nat) (F : gM) (a q mo n sz : Nat) (f : Nat → Int32) (h : gIn d F a q mo n sz f) (hf : mo ≤ sz) (x : Int32) : gMv l d b yX4_add cX4_add 2 2 0 0 F [.ref a, .int x] (fun F' => F' = F) := by
  refine gM_of2 rfl (nL := 2) (Nat.le_of_ble_eq_true rfl) ?_
  intro X hX hC; subst hX
  show gG X d b _ F 0 0 0 [some (.ref a), some (.int x)] []
  obtain ⟨hA, hQ, h1, h2, h3, h4⟩ := id h
  refine g_aload_n hC dX4_add_0 rfl ?_
  refine g_get hC fl_X4_13 hA rfl dX4_add_1 ?_
  refine g_aload_n hC dX4_add_4 rfl ?_
  refine g_get hC fl_X4_17 hA rfl dX4_add_5 ?_
  refine g_icmp_lt (tgt := 12) hC dX4_add_8 (by decide) (fun c1 => ?_) (fun c1 => ?_)
  · exact absurd ((nI_ltI (by omega) (by omega)).mp c1) (by omega)
  · exact g_vret hC rfl (Nat.le_refl _) (Nat.le_refl _) dX4_add_11
section HJ
variable {own : String} {cc : ByteArray} {nL : Nat} {rt : Option FieldType} {nm : String} {R : Room} {d : gD} {b : Nat} {X : gX} {Q : State → Prop} {F : gM} {k n pc : Nat} {lv : List (Option Value)} {st : List Value} {Y : gYt} {c : Nat × Nat} {S : gSt}
theorem hi_add (hC : gC own cc nL rt nm R d b X) (hr : hRm X b) (ho : hOk X b k n) (hi : hI d b Y c (F, k, n) S) {j idx : Nat} (hj : j < 44) (ha : gAk S j) {x : Int32} (hl : gCV own idx yX4_add cX4_add 2 none 1) (hn : nL = lv.length) (hcat : (st.map fun v => v.category).sum ≤ 8) (hf : hFr R 2 2) (hdg : decode cc pc = .ok (.invokevirtual idx, 3))
    (kk : ∀ (u : hU) (S' : gSt), hI d b Y c u S' → hOk X b u.2.1 u.2.2 → gKp Y F u.1 → gSm S S' [j] [] → gAd S S' j x → hG X d b Q u.1 u.2.1 u.2.2 (pc + 3) lv st) : hG X d b Q F k n pc lv (.int x :: .ref (gA' Y j) :: st) := by
  have hrow := hi.1.r j hj
  by_cases hz : sZ S j < gmo j
  · obtain ⟨a1, a2⟩ := hi.add_pre hj ha hz
    refine g_callVv (As := [.int x]) hC rfl hrow.1 (c_Ints_add X.la d b F _ _ _ _ _ _ hrow x) hl rfl hn hcat (h_fit hC hr ho hf a1 a2) hdg (fun F' hp => h_to hC ho a1 a2 (fun ho' => ?_))
    obtain ⟨S', w1, w2, w3, w4, w5⟩ := wt_add hi.1 hj hp
    obtain ⟨v1, v2, v3, v4⟩ := w4 hz
    obtain ⟨t1, t2, t3, t4, t5⟩ := hi.add_sz hj ha hz S' (fun i hi' => ⟨w3.n i (by simpa using hi'), w3.z i (by simpa using hi')⟩) v1 v2
    have p1 : k ≤ c.1 + hRc S := hi.2.2.1
    have p2 : n ≤ c.2 + hRs S := hi.2.2.2.1
    exact kk (F', k + gAc (sN S j) (sZ S j), n + gAs (gmo j) (sN S j) (sZ S j)) S' ⟨w1, t1.2.1, by show k + _ ≤ _; omega, by show n + _ ≤ _; omega, hi.2.2.2.2⟩ ho' w2 w3 ⟨fun _ => ⟨v1, v3, v4⟩, w5, t4, t5⟩
  · refine g_callVv (As := [.int x]) hC rfl hrow.1 (c_Ints_full X.la d b F _ _ _ _ _ _ hrow (by omega) x) hl rfl hn hcat (h_fit hC hr ho hf (Nat.le_trans (Nat.le_of_eq (Nat.add_zero k)) ?_) (Nat.le_trans (Nat.le_of_eq (Nat.add_zero n)) ?_)) hdg (fun F' hp => ?_)
    · have y := (hi.sz ha.2.2).room
      have p1 : k ≤ c.1 + hRc S := hi.2.2.1
      have p3 := hi.2.2.2.2.1
      omega
    · have y := (hi.sz ha.2.2).room
      have p1 : n ≤ c.2 + hRs S := hi.2.2.2.1
      have p3 := hi.2.2.2.2.2
      omega
    · have e : F' = F := hp
      subst e
      exact kk (F', k, n) S hi ho gKp.rf gSm.rf ⟨fun q => absurd q hz, fun _ => rfl, fun _ => Nat.le_succ _, fun _ => rfl⟩
/-- a call that makes nothing and changes nothing -/
theorem h_same (hC : gC own cc nL rt nm R d b X) (ho : hOk X b k n) (kk : hG X d b Q F k n pc lv st) : gG X d b Q F (min k (gKm b) - X.st.heap.size + 0) (min n gNm - gsm b X.st.heap + 0) pc lv st := kk
theorem h_fit0 {lvl mL : Nat} (hC : gC own cc nL rt nm R d b X) (hr : hRm X b) (ho : hOk X b k n) (hf : hFr R lvl mL) : gFit R lvl mL (min k (gKm b) - X.st.heap.size) (min n gNm - gsm b X.st.heap) 0 0 := ⟨hf, (h_le hC hr ho).1, (h_le hC hr ho).2⟩
theorem hi_size (hC : gC own cc nL rt nm R d b X) (hr : hRm X b) (ho : hOk X b k n) (hi : gWT d Y F S) {j idx : Nat} (hj : j < 44) (hl : gCV own idx yX4_size cX4_size 1 (some .int) 0) (hn : nL = lv.length) (hcat : (st.map fun v => v.category).sum ≤ 8) (hf : hFr R 0 1) (hdg : decode cc pc = .ok (.invokevirtual idx, 3)) (kk : hG X d b Q F k n (pc + 3) lv (.int (nI (sZ S j)) :: st)) : hG X d b Q F k n pc lv (.ref (gA' Y j) :: st) :=
  g_callVi (As := []) hC rfl (hi.r j hj).1 (c_Ints_size X.la d b F _ _ _ _ _ _ (hi.r j hj)) hl rfl hn hcat (h_fit0 hC hr ho hf) hdg (fun r F' hp => by
    obtain ⟨e1, e2⟩ := hp
    subst e1; subst e2
    exact kk)
theorem hi_get (hC : gC own cc nL rt nm R d b X) (hr : hRm X b) (ho : hOk X b k n) (hi : gWT d Y F S) {j idx : Nat} (hj : j < 44) {i : Int32} (hl : gCV own idx yX4_get cX4_get 2 (some .int) 1) (hn : nL = lv.length) (hcat : (st.map fun v => v.category).sum ≤ 8) (hf : hFr R 0 2) (hdg : decode cc pc = .ok (.invokevirtual idx, 3)) (kk : hG X d b Q F k n (pc + 3) lv (.int (gGet (sF S j) (sZ S j) i) :: st)) : hG X d b Q F k n pc lv (.int i :: .ref (gA' Y j) :: st) :=
  g_callVi (As := [.int i]) hC rfl (hi.r j hj).1 (c_Ints_get X.la d b F _ _ _ _ _ _ (hi.r j hj) i) hl rfl hn hcat (h_fit0 hC hr ho hf) hdg (fun r F' hp => by
    obtain ⟨e1, e2⟩ := hp
    subst e1; subst e2
    exact kk)
/-- what a cut leaves -/
def gCu (S S' : gSt) (j : Nat) (i : Int32) : Prop := sN S' j = sN S j ∧ sF S' j = sF S j ∧ (¬ i < 0 ∧ i.toNatClampNeg < sZ S j → sZ S' j = i.toNatClampNeg) ∧ (i < 0 ∨ nI (sZ S j) ≤ i → sZ S' j = sZ S j) ∧ sZ S' j ≤ sZ S j ∧ gPsi S' ≤ gPsi S
theorem hI.smaller {u : hU} {S S' : gSt} {F' : gM} (h : hI d b Y c u S) (hw : gWT d Y F' S') (hn : ∀ i, sN S' i = sN S i) : hI d b Y c (F', u.2.1, u.2.2) S' := by
  have e1 : hRc S' = hRc S := by
    unfold hRc
    rw [hn 45, gSum_eq (f := fun j => gct (gmo j) (sN S' j)) (g := fun j => gct (gmo j) (sN S j)) (fun i _ => by show gct (gmo i) (sN S' i) = gct (gmo i) (sN S i); rw [hn i])]
  have e2 : hRs S' = hRs S := by
    unfold hRs
    rw [hn 45, gSum_eq (f := fun j => gpt (gmo j) (sN S' j)) (g := fun j => gpt (gmo j) (sN S j)) (fun i _ => by show gpt (gmo i) (sN S' i) = gpt (gmo i) (sN S i); rw [hn i])]
  exact ⟨hw, by rw [hn 43]; exact h.2.1, by rw [e1]; exact h.2.2.1, by rw [e2]; exact h.2.2.2.1, h.2.2.2.2⟩
theorem gPsi_le {S S' : gSt} (hn : ∀ i, sN S' i = sN S i) (hz : ∀ i, sZ S' i ≤ sZ S i) : gPsi S' ≤ gPsi S := gSum_le (fun i _ => by
  show gps (sN S' (1 + i)) (sZ S' (1 + i)) ≤ gps (sN S (1 + i)) (sZ S (1 + i))
  rw [hn]
  have h := hz (1 + i)
  unfold gps
  omega)
theorem hi_cut (hC : gC own cc nL rt nm R d b X) (hr : hRm X b) (ho : hOk X b k n) (hi : hI d b Y c (F, k, n) S) {j idx : Nat} (hj : j < 44) {i : Int32} (hl : gCV own idx yX4_cut cX4_cut 2 none 1) (hn : nL = lv.length) (hcat : (st.map fun v => v.category).sum ≤ 8) (hf : hFr R 0 2) (hdg : decode cc pc = .ok (.invokevirtual idx, 3))
    (kk : ∀ (F' : gM) (S' : gSt), hI d b Y c (F', k, n) S' → gKp Y F F' → gSm S S' [j] [] → gCu S S' j i → hG X d b Q F' k n (pc + 3) lv st) : hG X d b Q F k n pc lv (.int i :: .ref (gA' Y j) :: st) := by
  refine g_callVv (As := [.int i]) hC rfl (hi.1.r j hj).1 (c_Ints_cut X.la d b F _ _ _ _ _ _ (hi.1.r j hj) i) hl rfl hn hcat (h_fit0 hC hr ho hf) hdg (fun F' hp => ?_)
  obtain ⟨S', w1, w2, w3, w4, w5, w6, w7, w8⟩ := wt_cut hi.1 hj hp
  have hN : ∀ x, sN S' x = sN S x := fun x => by
    by_cases e : x = j
    · subst e; exact w4
    · exact w3.n x (by simpa using e)
  have hZ : ∀ x, sZ S' x ≤ sZ S x := fun x => by
    by_cases e : x = j
    · subst e; exact w8
    · exact Nat.le_of_eq (w3.z x (by simpa using e))
  exact kk F' S' (hi.smaller w1 hN) w2 w3 ⟨w4, w5, w6, w7, w8, gPsi_le hN hZ⟩
/-- a scalar is put -/
theorem hi_put (hC : gC own cc nL rt nm R d b X) (hi : hI d b Y c (F, k, n) S) {i idx kx jj : Nat} {ty : FieldType} {x : Int32} {v0 : Value} {fs : List Value} (hi1 : i < 11) (hl : gFL own idx (gci i) jj ty false) (hF : gfs Y S i = v0 :: fs) (hnr : narrow ty (.int x) = .int x) (hfit : fits ty (.int x) = true) (hjj : jj < (v0 :: fs).length) (hset : (v0 :: fs).set jj (.int x) = gfs Y (uV S kx x) i) (hsame : ∀ i', i' < 11 → i' ≠ i → gfs Y (uV S kx x) i' = gfs Y S i') (hb : kx ∈ gbo → x = 0 ∨ x = 1) (hdg : decode cc pc = .ok (.putfield idx, 3))
    (kk : ∀ F' : gM, hI d b Y c (F', k, n) (uV S kx x) → gKp Y F F' → hG X d b Q F' k n (pc + 3) lv st) : hG X d b Q F k n pc lv (.int x :: .ref (gO' Y i) :: st) :=
  h_put hC hl ((hi.1.o i hi1).trans (by rw [hF])) hnr hfit hjj hdg (h_vF (fun F' hF' => by
    obtain ⟨w1, w2⟩ := gWT.put (k := kx) (x := x) hi.1 hi1 hF' hset hsame hb
    exact kk F' (hi.smaller w1 (fun _ => rfl)) w2))
end HJ
