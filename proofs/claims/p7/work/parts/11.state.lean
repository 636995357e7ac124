/-! THE CLASS'S STATE. Y: where its objects (gO'), its rows of ints (gA') and the two rows of rows (gZ') lie, and which cells are others' (gPr); S: where the rows' cells lie (sQ; 44: positions, 45: the machine's store), the scalars (sV), the cells' number (sN), how many ints are there (sZ), the ints (sF). -/
abbrev gYt : Type := (Nat → Nat) × (Nat → Nat) × (Nat → Nat) × (Nat → Prop)
abbrev gO' (Y : gYt) : Nat → Nat := Y.1
abbrev gA' (Y : gYt) : Nat → Nat := Y.2.1
abbrev gZ' (Y : gYt) : Nat → Nat := Y.2.2.1
abbrev gPr (Y : gYt) : Nat → Prop := Y.2.2.2
abbrev gSt : Type := (Nat → Nat) × (Nat → Int32) × (Nat → Nat) × (Nat → Nat) × (Nat → Nat → Int32)
abbrev sQ (S : gSt) : Nat → Nat := S.1
abbrev sV (S : gSt) : Nat → Int32 := S.2.1
abbrev sN (S : gSt) : Nat → Nat := S.2.2.1
abbrev sZ (S : gSt) : Nat → Nat := S.2.2.2.1
abbrev sF (S : gSt) : Nat → Nat → Int32 := S.2.2.2.2
def uV (S : gSt) (k : Nat) (x : Int32) : gSt := (S.1, va_up S.2.1 k x, S.2.2)
def uR (S : gSt) (j q n z : Nat) (f : Nat → Int32) : gSt := (va_up S.1 j q, S.2.1, va_up S.2.2.1 j n, va_up S.2.2.2.1 j z, va_up S.2.2.2.2 j f)
def gci : Nat → Nat
  | 0 => 11
  | 1 => 7
  | 2 => 10
  | 3 => 8
  | 4 => 6
  | 5 => 1
  | 6 => 0
  | 7 => 5
  | 8 => 9
  | 9 => 2
  | _ => 3
def gfs (Y : gYt) (S : gSt) : Nat → List Value
  | 0 => [.ref (gA' Y 0), .ref (gO' Y 1), .ref (gO' Y 2), .ref (gO' Y 3), .ref (gO' Y 4), .ref (gO' Y 5), .ref (gO' Y 6), .ref (gO' Y 7), .int (sV S 0), .int (sV S 1)]
  | 1 => [.ref (gA' Y 1), .ref (gA' Y 2), .ref (gA' Y 3), .ref (gA' Y 4), .ref (gA' Y 5), .ref (gA' Y 6), .int (sV S 2), .int (sV S 3), .int (sV S 4), .int (sV S 5), .int (sV S 6)]
  | 2 => [.ref (gA' Y 7), .ref (gA' Y 8), .ref (gA' Y 9), .ref (gA' Y 10), .ref (gA' Y 11), .ref (gA' Y 12), .ref (gA' Y 13)]
  | 3 => [.ref (gA' Y 0), .ref (gA' Y 14), .ref (gA' Y 15), .ref (gA' Y 16), .ref (gA' Y 17), .ref (gA' Y 18), .ref (gA' Y 19), .ref (gA' Y 20), .int (sV S 7), .int (sV S 8), .int (sV S 9)]
  | 4 => [.ref (gA' Y 14), .ref (gA' Y 15), .ref (gA' Y 16), .ref (gA' Y 17), .ref (gO' Y 2), .ref (gO' Y 1), .ref (gA' Y 21), .ref (gA' Y 22), .ref (gA' Y 23), .int (sV S 10), .int (sV S 11), .int (sV S 12)]
  | 5 => [.ref (gO' Y 2), .ref (gO' Y 1), .ref (gO' Y 8), .ref (gO' Y 9), .ref (gA' Y 24), .ref (gA' Y 25), .ref (gA' Y 26), .int (sV S 13), .int (sV S 14), .int (sV S 15), .int (sV S 16), .int (sV S 17), .int (sV S 18), .int (sV S 19), .int (sV S 20), .int (sV S 21), .int (sV S 22), .int (sV S 23), .int (sV S 24)]
  | 6 => [.ref (gZ' Y 0), .ref (sQ S 44), .ref (gZ' Y 1), .int (sV S 25), .int (sV S 26)]
  | 7 => [.ref (gO' Y 1), .ref (gO' Y 6), .ref (gO' Y 10), .ref (gA' Y 42), .ref (gA' Y 43), .ref (sQ S 45), .int (sV S 27), .int (sV S 28), .int (sV S 29), .int (sV S 30), .int (sV S 31), .int (sV S 32), .int (sV S 33), .int (sV S 34), .int (sV S 35), .int (sV S 36)]
  | 8 => [.ref (gO' Y 1), .ref (gA' Y 27), .ref (gA' Y 28), .ref (gA' Y 29), .ref (gA' Y 30), .ref (gA' Y 31), .ref (gA' Y 32), .int (sV S 37)]
  | 9 => [.ref (gO' Y 2), .ref (gO' Y 1), .ref (gO' Y 8), .ref (gA' Y 33), .int (sV S 38), .int (sV S 39), .int (sV S 40)]
  | _ => [.ref (gA' Y 40), .ref (gA' Y 41)]
def gmo : Nat → Nat
  | 0 => 6000
  | 34 => 6000
  | 35 => 6000
  | 36 => 6000
  | 37 => 6000
  | 38 => 4096
  | 39 => 4096
  | 40 => 100
  | 41 => 100
  | _ => 1000000
def gbo : List Nat := [6, 9, 24, 34, 38]
theorem gci_inj : ∀ i, i < 11 → ∀ k, k < 11 → gci i = gci k → i = k := by decide
theorem gfs_Q {Y : gYt} {S S' : gSt} (h4 : sQ S' 44 = sQ S 44) (h5 : sQ S' 45 = sQ S 45) (hv : sV S' = sV S) : ∀ i, i < 11 → gfs Y S' i = gfs Y S i := by
  intro i hi
  match i, hi with
  | 0, _ => simp only [gfs, h4, h5, hv]
  | 1, _ => simp only [gfs, h4, h5, hv]
  | 2, _ => simp only [gfs, h4, h5, hv]
  | 3, _ => simp only [gfs, h4, h5, hv]
  | 4, _ => simp only [gfs, h4, h5, hv]
  | 5, _ => simp only [gfs, h4, h5, hv]
  | 6, _ => simp only [gfs, h4, h5, hv]
  | 7, _ => simp only [gfs, h4, h5, hv]
  | 8, _ => simp only [gfs, h4, h5, hv]
  | 9, _ => simp only [gfs, h4, h5, hv]
  | 10, _ => simp only [gfs, h4, h5, hv]
def gWT (d : gD) (Y : gYt) (F : gM) (S : gSt) : Prop :=
  (∀ i, i < 11 → F (gO' Y i) = .inr (gci i, gfs Y S i)) ∧
  (∀ j, j < 44 → gIn d F (gA' Y j) (sQ S j) (gmo j) (sN S j) (sZ S j) (sF S j)) ∧
  (F (sQ S 44) = .inl (gI d, 4, .inl (sF S 44)) ∧ F (sQ S 45) = .inl (gI d, sN S 45, .inl (sF S 45)) ∧ 4096 ≤ sN S 45 ∧ sN S 45 ≤ 65536) ∧
  ((∃ f : Nat → Option Nat, F (gZ' Y 0) = .inl (gO d, 4, .inr (.inr (.inr (.inr f)))) ∧ ∀ i, i < 4 → f i = some (gA' Y (34 + i))) ∧ ∃ f : Nat → Option Nat, F (gZ' Y 1) = .inl (gO d, 2, .inr (.inr (.inr (.inr f)))) ∧ ∀ i, i < 2 → f i = some (gA' Y (38 + i))) ∧
  ((∀ i j, i < 44 → j < 44 → gA' Y i = gA' Y j → i = j) ∧ ∀ i j, i < 46 → j < 46 → sQ S i = sQ S j → i = j) ∧
  (∀ k ∈ gbo, sV S k = 0 ∨ sV S k = 1) ∧
  ∀ x, gPr Y x → F x ≠ g0 ∧ (∀ i, i < 11 → x ≠ gO' Y i) ∧ (∀ j, j < 44 → x ≠ gA' Y j) ∧ ∀ j, j < 46 → x ≠ sQ S j
/-- others' cells stay -/
def gKp (Y : gYt) (F F' : gM) : Prop := ∀ x, gPr Y x → F' x = F x
theorem gKp.rf {Y : gYt} {F : gM} : gKp Y F F := fun _ _ => rfl
theorem gKp.tr {Y : gYt} {F F1 F2 : gM} (h : gKp Y F F1) (h2 : gKp Y F1 F2) : gKp Y F F2 := fun x hx => (h2 x hx).trans (h x hx)
/-- two states alike but for rows js and scalars ks -/
def gSm (S S' : gSt) (js ks : List Nat) : Prop := (∀ j, j ∉ js → sQ S' j = sQ S j ∧ sN S' j = sN S j ∧ sZ S' j = sZ S j ∧ sF S' j = sF S j) ∧ ∀ k, k ∉ ks → sV S' k = sV S k
theorem gSm.rf {S : gSt} {js ks : List Nat} : gSm S S js ks := ⟨fun _ _ => ⟨rfl, rfl, rfl, rfl⟩, fun _ _ => rfl⟩
theorem gsub {a b : List Nat} (h : a.all (fun z => b.contains z) = true) : a ⊆ b := fun z hz => by simpa using List.all_eq_true.mp h z hz
theorem gSm.tr {S S1 S2 : gSt} {a b a' b' : List Nat} (h : gSm S S1 a b) (h2 : gSm S1 S2 a' b') (a3 b3 : List Nat) (ha0 : (a ++ a').all (fun z => a3.contains z) = true) (hb0 : (b ++ b').all (fun z => b3.contains z) = true) : gSm S S2 a3 b3 := by
  have ha := gsub ha0
  have hb := gsub hb0
  refine ⟨fun j hj => ?_, fun k hk => ?_⟩
  · obtain ⟨e1, e2, e3, e4⟩ := h.1 j (fun z => hj (ha (List.mem_append_left _ z)))
    obtain ⟨g1, g2, g3, g4⟩ := h2.1 j (fun z => hj (ha (List.mem_append_right _ z)))
    exact ⟨g1.trans e1, g2.trans e2, g3.trans e3, g4.trans e4⟩
  · exact (h2.2 k (fun z => hk (hb (List.mem_append_right _ z)))).trans (h.2 k (fun z => hk (hb (List.mem_append_left _ z))))
theorem gSm.wk {S S1 : gSt} {a b : List Nat} (h : gSm S S1 a b) (a3 b3 : List Nat) (ha : a.all (fun z => a3.contains z) = true) (hb : b.all (fun z => b3.contains z) = true) : gSm S S1 a3 b3 := ⟨fun j hj => h.1 j (fun z => hj (gsub ha z)), fun k hk => h.2 k (fun z => hk (gsub hb z))⟩
theorem gSm.z {S S1 : gSt} {a b : List Nat} (h : gSm S S1 a b) (j : Nat) (hj : j ∉ a) : sZ S1 j = sZ S j := (h.1 j hj).2.2.1
theorem gSm.n {S S1 : gSt} {a b : List Nat} (h : gSm S S1 a b) (j : Nat) (hj : j ∉ a) : sN S1 j = sN S j := (h.1 j hj).2.1
theorem gSm.f {S S1 : gSt} {a b : List Nat} (h : gSm S S1 a b) (j : Nat) (hj : j ∉ a) : sF S1 j = sF S j := (h.1 j hj).2.2.2
theorem gSm.v {S S1 : gSt} {a b : List Nat} (h : gSm S S1 a b) (k : Nat) (hk : k ∉ b) : sV S1 k = sV S k := h.2 k hk
theorem gSm_uV {S : gSt} {k : Nat} {x : Int32} : gSm S (uV S k x) [] [k] := ⟨fun _ _ => ⟨rfl, rfl, rfl, rfl⟩, fun j hj => va_up_ne _ _ (fun z => hj (by rw [z]; exact List.mem_singleton.mpr rfl))⟩
theorem uV_self {S : gSt} {k : Nat} {x : Int32} : sV (uV S k x) k = x := by
  show va_up S.2.1 k x k = x
  rw [va_up_self]
theorem gSm_uR {S : gSt} {j q n z : Nat} {f : Nat → Int32} : gSm S (uR S j q n z f) [j] [] := ⟨fun i hi => by
  have h : i ≠ j := fun e => hi (by rw [e]; exact List.mem_singleton.mpr rfl)
  exact ⟨va_up_ne _ _ h, va_up_ne _ _ h, va_up_ne _ _ h, va_up_ne _ _ h⟩, fun _ _ => rfl⟩
theorem gk_rl {c1 c2 n1 n2 : Nat} {r : (Nat → Int64) ⊕ (Nat → UInt32) ⊕ (Nat → UInt64) ⊕ (Nat → Option Nat)} {f : Nat → Int32} : (.inl (c1, n1, .inr r) : va_E) ≠ .inl (c2, n2, .inl f) := fun z => by
  have h := congrArg (fun e : va_E => match e with | .inl (_, _, .inl _) => true | _ => false) z
  cases h
section WT
variable {d : gD} {Y : gYt} {F F' : gM} {S : gSt}
theorem gWT.o (h : gWT d Y F S) (i : Nat) (hi : i < 11) : F (gO' Y i) = .inr (gci i, gfs Y S i) := h.1 i hi
theorem gWT.r (h : gWT d Y F S) (j : Nat) (hj : j < 44) : gIn d F (gA' Y j) (sQ S j) (gmo j) (sN S j) (sZ S j) (sF S j) := h.2.1 j hj
theorem gWT.p (h : gWT d Y F S) : F (sQ S 44) = .inl (gI d, 4, .inl (sF S 44)) := h.2.2.1.1
theorem gWT.c (h : gWT d Y F S) : F (sQ S 45) = .inl (gI d, sN S 45, .inl (sF S 45)) := h.2.2.1.2.1
theorem gWT.bo (h : gWT d Y F S) (k : Nat) (hk : k ∈ gbo) : sV S k = 0 ∨ sV S k = 1 := h.2.2.2.2.2.1 k hk
theorem gci4 : ∀ i, i < 11 → (gci i == 4) = false := by decide
theorem gWT.a_o (h : gWT d Y F S) {i j : Nat} (hi : i < 11) (hj : j < 44) : gA' Y j ≠ gO' Y i := gne (h.r j hj).1 (h.o i hi) (fun z => by
  have h2 := gci4 i hi
  have h1 : 4 = gci i := congrArg (fun e : va_E => match e with | .inr q => q.1 | .inl _ => 0) z
  rw [← h1] at h2
  cases h2)
theorem gWT.o_n (h : gWT d Y F S) {i : Nat} (hi : i < 11) : F (gO' Y i) ≠ g0 := by
  rw [h.o i hi]
  intro z
  have h1 : gfs Y S i = [] := congrArg (fun e : va_E => match e with | .inr q => q.2 | .inl _ => []) z
  match i, hi, h1 with
  | 0, _, h1 => cases h1
  | 1, _, h1 => cases h1
  | 2, _, h1 => cases h1
  | 3, _, h1 => cases h1
  | 4, _, h1 => cases h1
  | 5, _, h1 => cases h1
  | 6, _, h1 => cases h1
  | 7, _, h1 => cases h1
  | 8, _, h1 => cases h1
  | 9, _, h1 => cases h1
  | 10, _, h1 => cases h1
theorem gWT.q_i (h : gWT d Y F S) {j : Nat} (hj : j < 46) : ∃ n f, F (sQ S j) = .inl (gI d, n, .inl f) := by
  rcases (show j < 44 ∨ j = 44 ∨ j = 45 by omega) with q | rfl | rfl
  · exact ⟨_, _, (h.r j q).2.1⟩
  · exact ⟨_, _, h.p⟩
  · exact ⟨_, _, h.c⟩
/-- a scalar is put -/
theorem gWT.put (h : gWT d Y F S) {i k : Nat} {x : Int32} (hi : i < 11) {fs : List Value} (hF : F' = va_up F (gO' Y i) (.inr (gci i, fs))) (hfs : fs = gfs Y (uV S k x) i) (hsame : ∀ i', i' < 11 → i' ≠ i → gfs Y (uV S k x) i' = gfs Y S i') (hb : k ∈ gbo → x = 0 ∨ x = 1) : gWT d Y F' (uV S k x) ∧ gKp Y F F' := by
  have hoo : ∀ i', i' < 11 → i' ≠ i → gO' Y i' ≠ gO' Y i := fun i' h1 h2 => gne (h.o i' h1) (h.o i hi) (fun z => by
    have h3 : gci i' = gci i := congrArg (fun e : va_E => match e with | .inr q => q.1 | .inl _ => 0) z
    exact h2 (gci_inj i' h1 i hi h3))
  have hao : ∀ q e, F q = .inl e → q ≠ gO' Y i := fun q e hq => gne hq (h.o i hi) gk_ao
  refine ⟨⟨fun i' h1 => ?_, fun j hj => ?_, ?_, ?_, h.2.2.2.2.1, fun k' hk' => ?_, fun q hq => ?_⟩, fun q hq => ?_⟩
  · by_cases e : i' = i
    · subst e
      rw [hF, va_up_self, hfs]
    · rw [hF, va_up_ne _ _ (hoo i' h1 e), hsame i' h1 e]
      exact h.o i' h1
  · obtain ⟨h1, h2, h3⟩ := h.r j hj
    exact ⟨by rw [hF]; exact (va_up_ne _ _ (h.a_o hi hj)).trans h1, by rw [hF]; exact (va_up_ne _ _ (hao _ _ h2)).trans h2, h3⟩
  · obtain ⟨h1, h2, h3⟩ := h.2.2.1
    exact ⟨by rw [hF]; exact (va_up_ne _ _ (hao _ _ h1)).trans h1, by rw [hF]; exact (va_up_ne _ _ (hao _ _ h2)).trans h2, h3⟩
  · obtain ⟨⟨f1, h1, h2⟩, f2, h3, h4⟩ := h.2.2.2.1
    exact ⟨⟨f1, by rw [hF, va_up_ne _ _ (hao _ _ h1)]; exact h1, h2⟩, f2, by rw [hF, va_up_ne _ _ (hao _ _ h3)]; exact h3, h4⟩
  · show va_up (sV S) k x k' = 0 ∨ va_up (sV S) k x k' = 1
    by_cases e : k' = k
    · subst e
      rw [va_up_self]
      exact hb hk'
    · rw [va_up_ne _ _ e]
      exact h.bo k' hk'
  · obtain ⟨h1, h2, h3, h4⟩ := h.2.2.2.2.2.2 q hq
    exact ⟨by rw [hF, va_up_ne _ _ (h2 i hi)]; exact h1, h2, h3, h4⟩
  · rw [hF, va_up_ne _ _ ((h.2.2.2.2.2.2 q hq).2.1 i hi)]
/-- a row moves -/
theorem gWT.row (h : gWT d Y F S) {j q n z : Nat} {f : Nat → Int32} (hj : j < 44) (hr : gIn d F' (gA' Y j) q (gmo j) n z f) (hq : q = sQ S j ∨ F q = g0) (hf : gFr F F' (gA' Y j) (sQ S j)) : gWT d Y F' (uR S j q n z f) ∧ gKp Y F F' := by
  have hqk : ∀ k, k < 46 → k ≠ j → sQ S k ≠ sQ S j := fun k hk hn e => hn (h.2.2.2.2.1.2 k j hk (by omega) e)
  have hqa : ∀ k, k < 46 → sQ S k ≠ gA' Y j := fun k hk => by
    obtain ⟨n, f, e⟩ := h.q_i hk
    exact gne e (h.r j hj).1 gk_ao
  have kq : ∀ k, k < 46 → k ≠ j → F' (sQ S k) = F (sQ S k) := fun k hk hn => hf _ (hqa k hk) (hqk k hk hn) (by
    obtain ⟨n, f, e⟩ := h.q_i hk
    rw [e]; exact g0_a)
  have kz : ∀ a c v r, F a = .inl (c, v, .inr r) → F' a = F a := fun a c v r e => hf a (gne e (h.r j hj).1 gk_ao) (gne e (h.r j hj).2.1 (fun z => by cases z)) (by rw [e]; exact g0_a)
  have hnew : ∀ k, k < 46 → k ≠ j → sQ S k ≠ q := fun k hk hn e => by
    rcases hq with rfl | g
    · exact hqk k hk hn e
    · obtain ⟨n, f, e2⟩ := h.q_i hk
      rw [e, g] at e2
      exact g0_a e2.symm
  have up : ∀ k, k ≠ j → (sQ (uR S j q n z f) k = sQ S k ∧ sN (uR S j q n z f) k = sN S k ∧ sZ (uR S j q n z f) k = sZ S k ∧ sF (uR S j q n z f) k = sF S k) := fun k hk => ⟨va_up_ne _ _ hk, va_up_ne _ _ hk, va_up_ne _ _ hk, va_up_ne _ _ hk⟩
  have uj : sQ (uR S j q n z f) j = q ∧ sN (uR S j q n z f) j = n ∧ sZ (uR S j q n z f) j = z ∧ sF (uR S j q n z f) j = f := ⟨va_up_self _ _ _, va_up_self _ _ _, va_up_self _ _ _, va_up_self _ _ _⟩
  have e44 : ∀ i, i < 11 → gfs Y (uR S j q n z f) i = gfs Y S i := fun i hi => gfs_Q (up 44 (by omega)).1 (up 45 (by omega)).1 rfl i hi
  refine ⟨⟨fun i hi => ?_, fun k hk => ?_, ?_, ?_, ⟨h.2.2.2.2.1.1, fun i k hi hk e => ?_⟩, h.2.2.2.2.2.1, fun x hx => ?_⟩, fun x hx => ?_⟩
  · rw [hf _ (Ne.symm (h.a_o hi hj)) (fun e => by
      have h1 := h.o i hi
      rw [e, (h.r j hj).2.1] at h1
      cases h1) (h.o_n hi), e44 i hi]
    exact h.o i hi
  · by_cases e : k = j
    · subst e
      rw [uj.1, uj.2.1, uj.2.2.1, uj.2.2.2]
      exact hr
    · obtain ⟨u1, u2, u3, u4⟩ := up k e
      rw [u1, u2, u3, u4]
      obtain ⟨h1, h2, h3⟩ := h.r k hk
      exact ⟨by rw [hf _ (fun z => e (h.2.2.2.2.1.1 k j hk hj z)) (gne h1 (h.r j hj).2.1 gk_oa) (by rw [h1]; exact g0_o)]; exact h1, by rw [kq k (by omega) e]; exact h2, h3⟩
  · obtain ⟨h1, h2, h3⟩ := h.2.2.1
    obtain ⟨u1, u2, u3, u4⟩ := up 44 (by omega)
    obtain ⟨w1, w2, w3, w4⟩ := up 45 (by omega)
    rw [u1, u4, w1, w2, w4]
    exact ⟨(kq 44 (by omega) (by omega)).trans h1, (kq 45 (by omega) (by omega)).trans h2, h3⟩
  · obtain ⟨⟨f1, h1, h2⟩, f2, h3, h4⟩ := h.2.2.2.1
    exact ⟨⟨f1, (kz _ _ _ _ h1).trans h1, h2⟩, f2, (kz _ _ _ _ h3).trans h3, h4⟩
  · by_cases ei : i = j
    · by_cases ek : k = j
      · rw [ei, ek]
      · subst ei
        rw [uj.1, (up k ek).1] at e
        exact absurd e.symm (hnew k hk ek)
    · by_cases ek : k = j
      · subst ek
        rw [uj.1, (up i ei).1] at e
        exact absurd e (hnew i hi ei)
      · rw [(up i ei).1, (up k ek).1] at e
        exact h.2.2.2.2.1.2 i k hi hk e
  · obtain ⟨h1, h2, h3, h4⟩ := h.2.2.2.2.2.2 x hx
    refine ⟨by rw [hf x (h3 j hj) (h4 j (by omega)) h1]; exact h1, h2, h3, fun k hk => ?_⟩
    by_cases e : k = j
    · subst e
      rw [uj.1]
      rcases hq with rfl | g
      · exact h4 k hk
      · exact fun z => h1 (by rw [z]; exact g)
    · rw [(up k e).1]
      exact h4 k hk
  · obtain ⟨h1, h2, h3, h4⟩ := h.2.2.2.2.2.2 x hx
    exact hf x (h3 j hj) (h4 j (by omega)) h1
/-- positions are put -/
theorem gWT.arr44 (h : gWT d Y F S) {f : Nat → Int32} (hF : F' = va_up F (sQ S 44) (.inl (gI d, 4, .inl f))) : gWT d Y F' (S.1, S.2.1, S.2.2.1, S.2.2.2.1, va_up S.2.2.2.2 44 f) ∧ gKp Y F F' := by
  have ne : ∀ x e, F x = e → (∀ n f, e ≠ .inl (gI d, n, .inl f)) → x ≠ sQ S 44 := fun x e h1 h2 z => h2 4 (sF S 44) (by rw [← h1, z]; exact h.p)
  have hqk : ∀ k, k < 46 → k ≠ 44 → sQ S k ≠ sQ S 44 := fun k hk hn e => hn (h.2.2.2.2.1.2 k 44 hk (by omega) e)
  refine ⟨⟨fun i hi => ?_, fun j hj => ?_, ?_, ?_, h.2.2.2.2.1, h.2.2.2.2.2.1, fun x hx => ?_⟩, fun x hx => ?_⟩
  · rw [hF, va_up_ne _ _ (ne _ _ (h.o i hi) (fun n f => gk_oa))]
    exact h.o i hi
  · obtain ⟨h1, h2, h3⟩ := h.r j hj
    have e : va_up S.2.2.2.2 44 f j = S.2.2.2.2 j := va_up_ne _ _ (by omega)
    refine ⟨by rw [hF, va_up_ne _ _ (ne _ _ h1 (fun n f => gk_oa))]; exact h1, ?_, h3⟩
    show F' (sQ S j) = .inl (gI d, sN S j, .inl (va_up S.2.2.2.2 44 f j))
    rw [hF, va_up_ne _ _ (hqk j (by omega) (by omega)), e]
    exact h2
  · obtain ⟨h1, h2, h3⟩ := h.2.2.1
    refine ⟨?_, ?_, h3⟩
    · show F' (sQ S 44) = .inl (gI d, 4, .inl (va_up S.2.2.2.2 44 f 44))
      rw [hF, va_up_self, va_up_self]
    · show F' (sQ S 45) = .inl (gI d, sN S 45, .inl (va_up S.2.2.2.2 44 f 45))
      rw [hF, va_up_ne _ _ (hqk 45 (by omega) (by omega)), va_up_ne _ _ (by omega)]
      exact h2
  · obtain ⟨⟨f1, h1, h2⟩, f2, h3, h4⟩ := h.2.2.2.1
    exact ⟨⟨f1, by rw [hF, va_up_ne _ _ (ne _ _ h1 (fun n f => gk_rl))]; exact h1, h2⟩, f2, by rw [hF, va_up_ne _ _ (ne _ _ h3 (fun n f => gk_rl))]; exact h3, h4⟩
  · obtain ⟨h1, h2, h3, h4⟩ := h.2.2.2.2.2.2 x hx
    exact ⟨by rw [hF, va_up_ne _ _ (h4 44 (by omega))]; exact h1, h2, h3, h4⟩
  · rw [hF, va_up_ne _ _ ((h.2.2.2.2.2.2 x hx).2.2.2 44 (by omega))]
theorem gAc0 {n z : Nat} (h : z < n) : gAc n z = 0 := if_pos h
theorem gAs0 {mo n z : Nat} (h : z < n) : gAs mo n z = 0 := if_pos h
theorem gAn0 {mo n z : Nat} (h : z < n) : gAn mo n z = n := if_pos h
/-- behind an add -/
theorem wt_add (h : gWT d Y F S) {j : Nat} (hj : j < 44) {x : Int32} (hp : (sZ S j < gmo j → ∃ (q' : Nat) (f' : Nat → Int32), gIn d F' (gA' Y j) q' (gmo j) (gAn (gmo j) (sN S j) (sZ S j)) (sZ S j + 1) f' ∧ (q' = sQ S j ∨ F q' = g0) ∧ (∀ i, i < sZ S j → f' i = sF S j i) ∧ f' (sZ S j) = x) ∧ (gmo j ≤ sZ S j → F' = F) ∧ gFr F F' (gA' Y j) (sQ S j) ∧ F' (sQ S j) ≠ g0) :
    ∃ S' : gSt, gWT d Y F' S' ∧ gKp Y F F' ∧ gSm S S' [j] [] ∧ (sZ S j < gmo j → sZ S' j = sZ S j + 1 ∧ sN S' j = gAn (gmo j) (sN S j) (sZ S j) ∧ (∀ i, i < sZ S j → sF S' j i = sF S j i) ∧ sF S' j (sZ S j) = x) ∧ (gmo j ≤ sZ S j → S' = S) := by
  by_cases c : sZ S j < gmo j
  · obtain ⟨q', f', h1, h2, h3, h4⟩ := hp.1 c
    obtain ⟨hW, hK⟩ := h.row hj h1 h2 hp.2.2.1
    refine ⟨_, hW, hK, gSm_uR, fun _ => ⟨va_up_self _ _ _, va_up_self _ _ _, fun i hi => ?_, ?_⟩, fun q => absurd c (by omega)⟩
    · show va_up (sF S) j f' j i = _
      rw [va_up_self]
      exact h3 i hi
    · show va_up (sF S) j f' j _ = _
      rw [va_up_self]
      exact h4
  · have e := hp.2.1 (by omega)
    subst e
    exact ⟨S, h, gKp.rf, gSm.rf, fun q => absurd q c, fun _ => rfl⟩
/-- behind a cut -/
theorem wt_cut (h : gWT d Y F S) {j : Nat} (hj : j < 44) {i : Int32} (hp : (¬ i < 0 ∧ i.toNatClampNeg < sZ S j → gIn d F' (gA' Y j) (sQ S j) (gmo j) (sN S j) i.toNatClampNeg (sF S j)) ∧ (i < 0 ∨ nI (sZ S j) ≤ i → F' = F) ∧ ∀ x : Nat, x ≠ gA' Y j → F x ≠ g0 → F' x = F x) :
    ∃ S' : gSt, gWT d Y F' S' ∧ gKp Y F F' ∧ gSm S S' [j] [] ∧ sN S' j = sN S j ∧ sF S' j = sF S j ∧ (¬ i < 0 ∧ i.toNatClampNeg < sZ S j → sZ S' j = i.toNatClampNeg) ∧ (i < 0 ∨ nI (sZ S j) ≤ i → sZ S' j = sZ S j) ∧ sZ S' j ≤ sZ S j := by
  by_cases c : ¬ i < 0 ∧ i.toNatClampNeg < sZ S j
  · obtain ⟨hW, hK⟩ := h.row hj (hp.1 c) (Or.inl rfl) (fun x h1 _ h3 => hp.2.2 x h1 h3)
    have hlt := (h.r j hj).2.2
    refine ⟨_, hW, hK, gSm_uR, va_up_self _ _ _, va_up_self _ _ _, fun _ => va_up_self _ _ _, fun q => ?_, ?_⟩
    · rcases q with q | q
      · exact absurd q c.1
      · exact absurd c.2 (gmg c.1 q (by omega))
    · show va_up (sZ S) j _ j ≤ _
      rw [va_up_self]
      exact Nat.le_of_lt c.2
  · have e := hp.2.1 (by
      by_cases c0 : i < 0
      · exact Or.inl c0
      · exact Or.inr (Classical.byContradiction fun q => c ⟨c0, gmv c0 q (by have hlt := (h.r j hj).2.2; omega)⟩))
    subst e
    exact ⟨S, h, gKp.rf, gSm.rf, rfl, rfl, fun q => absurd q c, fun _ => rfl, Nat.le_refl _⟩
end WT
theorem gsame_0 {Y : gYt} {S : gSt} {x : Int32} : ∀ i', i' < 11 → i' ≠ 0 → gfs Y (uV S 0 x) i' = gfs Y S i' := by
  intro i h1 h2
  match i, h1, h2 with
  | 0, _, h2 => exact absurd rfl h2
  | 1, _, _ => rfl
  | 2, _, _ => rfl
  | 3, _, _ => rfl
  | 4, _, _ => rfl
  | 5, _, _ => rfl
  | 6, _, _ => rfl
  | 7, _, _ => rfl
  | 8, _, _ => rfl
  | 9, _, _ => rfl
  | 10, _, _ => rfl
theorem gsame_1 {Y : gYt} {S : gSt} {x : Int32} : ∀ i', i' < 11 → i' ≠ 0 → gfs Y (uV S 1 x) i' = gfs Y S i' := by
  intro i h1 h2
  match i, h1, h2 with
  | 0, _, h2 => exact absurd rfl h2
  | 1, _, _ => rfl
  | 2, _, _ => rfl
  | 3, _, _ => rfl
  | 4, _, _ => rfl
  | 5, _, _ => rfl
  | 6, _, _ => rfl
  | 7, _, _ => rfl
  | 8, _, _ => rfl
  | 9, _, _ => rfl
  | 10, _, _ => rfl
theorem gsame_2 {Y : gYt} {S : gSt} {x : Int32} : ∀ i', i' < 11 → i' ≠ 1 → gfs Y (uV S 2 x) i' = gfs Y S i' := by
  intro i h1 h2
  match i, h1, h2 with
  | 0, _, _ => rfl
  | 1, _, h2 => exact absurd rfl h2
  | 2, _, _ => rfl
  | 3, _, _ => rfl
  | 4, _, _ => rfl
  | 5, _, _ => rfl
  | 6, _, _ => rfl
  | 7, _, _ => rfl
  | 8, _, _ => rfl
  | 9, _, _ => rfl
  | 10, _, _ => rfl
theorem gsame_3 {Y : gYt} {S : gSt} {x : Int32} : ∀ i', i' < 11 → i' ≠ 1 → gfs Y (uV S 3 x) i' = gfs Y S i' := by
  intro i h1 h2
  match i, h1, h2 with
  | 0, _, _ => rfl
  | 1, _, h2 => exact absurd rfl h2
  | 2, _, _ => rfl
  | 3, _, _ => rfl
  | 4, _, _ => rfl
  | 5, _, _ => rfl
  | 6, _, _ => rfl
  | 7, _, _ => rfl
  | 8, _, _ => rfl
  | 9, _, _ => rfl
  | 10, _, _ => rfl
theorem gsame_4 {Y : gYt} {S : gSt} {x : Int32} : ∀ i', i' < 11 → i' ≠ 1 → gfs Y (uV S 4 x) i' = gfs Y S i' := by
  intro i h1 h2
  match i, h1, h2 with
  | 0, _, _ => rfl
  | 1, _, h2 => exact absurd rfl h2
  | 2, _, _ => rfl
  | 3, _, _ => rfl
  | 4, _, _ => rfl
  | 5, _, _ => rfl
  | 6, _, _ => rfl
  | 7, _, _ => rfl
  | 8, _, _ => rfl
  | 9, _, _ => rfl
  | 10, _, _ => rfl
theorem gsame_5 {Y : gYt} {S : gSt} {x : Int32} : ∀ i', i' < 11 → i' ≠ 1 → gfs Y (uV S 5 x) i' = gfs Y S i' := by
  intro i h1 h2
  match i, h1, h2 with
  | 0, _, _ => rfl
  | 1, _, h2 => exact absurd rfl h2
  | 2, _, _ => rfl
  | 3, _, _ => rfl
  | 4, _, _ => rfl
  | 5, _, _ => rfl
  | 6, _, _ => rfl
  | 7, _, _ => rfl
  | 8, _, _ => rfl
  | 9, _, _ => rfl
  | 10, _, _ => rfl
theorem gsame_6 {Y : gYt} {S : gSt} {x : Int32} : ∀ i', i' < 11 → i' ≠ 1 → gfs Y (uV S 6 x) i' = gfs Y S i' := by
  intro i h1 h2
  match i, h1, h2 with
  | 0, _, _ => rfl
  | 1, _, h2 => exact absurd rfl h2
  | 2, _, _ => rfl
  | 3, _, _ => rfl
  | 4, _, _ => rfl
  | 5, _, _ => rfl
  | 6, _, _ => rfl
  | 7, _, _ => rfl
  | 8, _, _ => rfl
  | 9, _, _ => rfl
  | 10, _, _ => rfl
theorem gsame_7 {Y : gYt} {S : gSt} {x : Int32} : ∀ i', i' < 11 → i' ≠ 3 → gfs Y (uV S 7 x) i' = gfs Y S i' := by
  intro i h1 h2
  match i, h1, h2 with
  | 0, _, _ => rfl
  | 1, _, _ => rfl
  | 2, _, _ => rfl
  | 3, _, h2 => exact absurd rfl h2
  | 4, _, _ => rfl
  | 5, _, _ => rfl
  | 6, _, _ => rfl
  | 7, _, _ => rfl
  | 8, _, _ => rfl
  | 9, _, _ => rfl
  | 10, _, _ => rfl
theorem gsame_8 {Y : gYt} {S : gSt} {x : Int32} : ∀ i', i' < 11 → i' ≠ 3 → gfs Y (uV S 8 x) i' = gfs Y S i' := by
  intro i h1 h2
  match i, h1, h2 with
  | 0, _, _ => rfl
  | 1, _, _ => rfl
  | 2, _, _ => rfl
  | 3, _, h2 => exact absurd rfl h2
  | 4, _, _ => rfl
  | 5, _, _ => rfl
  | 6, _, _ => rfl
  | 7, _, _ => rfl
  | 8, _, _ => rfl
  | 9, _, _ => rfl
  | 10, _, _ => rfl
theorem gsame_9 {Y : gYt} {S : gSt} {x : Int32} : ∀ i', i' < 11 → i' ≠ 3 → gfs Y (uV S 9 x) i' = gfs Y S i' := by
  intro i h1 h2
  match i, h1, h2 with
  | 0, _, _ => rfl
  | 1, _, _ => rfl
  | 2, _, _ => rfl
  | 3, _, h2 => exact absurd rfl h2
  | 4, _, _ => rfl
  | 5, _, _ => rfl
  | 6, _, _ => rfl
  | 7, _, _ => rfl
  | 8, _, _ => rfl
  | 9, _, _ => rfl
  | 10, _, _ => rfl
theorem gsame_10 {Y : gYt} {S : gSt} {x : Int32} : ∀ i', i' < 11 → i' ≠ 4 → gfs Y (uV S 10 x) i' = gfs Y S i' := by
  intro i h1 h2
  match i, h1, h2 with
  | 0, _, _ => rfl
  | 1, _, _ => rfl
  | 2, _, _ => rfl
  | 3, _, _ => rfl
  | 4, _, h2 => exact absurd rfl h2
  | 5, _, _ => rfl
  | 6, _, _ => rfl
  | 7, _, _ => rfl
  | 8, _, _ => rfl
  | 9, _, _ => rfl
  | 10, _, _ => rfl
theorem gsame_11 {Y : gYt} {S : gSt} {x : Int32} : ∀ i', i' < 11 → i' ≠ 4 → gfs Y (uV S 11 x) i' = gfs Y S i' := by
  intro i h1 h2
  match i, h1, h2 with
  | 0, _, _ => rfl
  | 1, _, _ => rfl
  | 2, _, _ => rfl
  | 3, _, _ => rfl
  | 4, _, h2 => exact absurd rfl h2
  | 5, _, _ => rfl
  | 6, _, _ => rfl
  | 7, _, _ => rfl
  | 8, _, _ => rfl
  | 9, _, _ => rfl
  | 10, _, _ => rfl
theorem gsame_12 {Y : gYt} {S : gSt} {x : Int32} : ∀ i', i' < 11 → i' ≠ 4 → gfs Y (uV S 12 x) i' = gfs Y S i' := by
  intro i h1 h2
  match i, h1, h2 with
  | 0, _, _ => rfl
  | 1, _, _ => rfl
  | 2, _, _ => rfl
  | 3, _, _ => rfl
  | 4, _, h2 => exact absurd rfl h2
  | 5, _, _ => rfl
  | 6, _, _ => rfl
  | 7, _, _ => rfl
  | 8, _, _ => rfl
  | 9, _, _ => rfl
  | 10, _, _ => rfl
theorem gsame_13 {Y : gYt} {S : gSt} {x : Int32} : ∀ i', i' < 11 → i' ≠ 5 → gfs Y (uV S 13 x) i' = gfs Y S i' := by
  intro i h1 h2
  match i, h1, h2 with
  | 0, _, _ => rfl
  | 1, _, _ => rfl
  | 2, _, _ => rfl
  | 3, _, _ => rfl
  | 4, _, _ => rfl
  | 5, _, h2 => exact absurd rfl h2
  | 6, _, _ => rfl
  | 7, _, _ => rfl
  | 8, _, _ => rfl
  | 9, _, _ => rfl
  | 10, _, _ => rfl
theorem gsame_14 {Y : gYt} {S : gSt} {x : Int32} : ∀ i', i' < 11 → i' ≠ 5 → gfs Y (uV S 14 x) i' = gfs Y S i' := by
  intro i h1 h2
  match i, h1, h2 with
  | 0, _, _ => rfl
  | 1, _, _ => rfl
  | 2, _, _ => rfl
  | 3, _, _ => rfl
  | 4, _, _ => rfl
  | 5, _, h2 => exact absurd rfl h2
  | 6, _, _ => rfl
  | 7, _, _ => rfl
  | 8, _, _ => rfl
  | 9, _, _ => rfl
  | 10, _, _ => rfl
theorem gsame_15 {Y : gYt} {S : gSt} {x : Int32} : ∀ i', i' < 11 → i' ≠ 5 → gfs Y (uV S 15 x) i' = gfs Y S i' := by
  intro i h1 h2
  match i, h1, h2 with
  | 0, _, _ => rfl
  | 1, _, _ => rfl
  | 2, _, _ => rfl
  | 3, _, _ => rfl
  | 4, _, _ => rfl
  | 5, _, h2 => exact absurd rfl h2
  | 6, _, _ => rfl
  | 7, _, _ => rfl
  | 8, _, _ => rfl
  | 9, _, _ => rfl
  | 10, _, _ => rfl
theorem gsame_16 {Y : gYt} {S : gSt} {x : Int32} : ∀ i', i' < 11 → i' ≠ 5 → gfs Y (uV S 16 x) i' = gfs Y S i' := by
  intro i h1 h2
  match i, h1, h2 with
  | 0, _, _ => rfl
  | 1, _, _ => rfl
  | 2, _, _ => rfl
  | 3, _, _ => rfl
  | 4, _, _ => rfl
  | 5, _, h2 => exact absurd rfl h2
  | 6, _, _ => rfl
  | 7, _, _ => rfl
  | 8, _, _ => rfl
  | 9, _, _ => rfl
  | 10, _, _ => rfl
theorem gsame_17 {Y : gYt} {S : gSt} {x : Int32} : ∀ i', i' < 11 → i' ≠ 5 → gfs Y (uV S 17 x) i' = gfs Y S i' := by
  intro i h1 h2
  match i, h1, h2 with
  | 0, _, _ => rfl
  | 1, _, _ => rfl
  | 2, _, _ => rfl
  | 3, _, _ => rfl
  | 4, _, _ => rfl
  | 5, _, h2 => exact absurd rfl h2
  | 6, _, _ => rfl
  | 7, _, _ => rfl
  | 8, _, _ => rfl
  | 9, _, _ => rfl
  | 10, _, _ => rfl
theorem gsame_18 {Y : gYt} {S : gSt} {x : Int32} : ∀ i', i' < 11 → i' ≠ 5 → gfs Y (uV S 18 x) i' = gfs Y S i' := by
  intro i h1 h2
  match i, h1, h2 with
  | 0, _, _ => rfl
  | 1, _, _ => rfl
  | 2, _, _ => rfl
  | 3, _, _ => rfl
  | 4, _, _ => rfl
  | 5, _, h2 => exact absurd rfl h2
  | 6, _, _ => rfl
  | 7, _, _ => rfl
  | 8, _, _ => rfl
  | 9, _, _ => rfl
  | 10, _, _ => rfl
theorem gsame_19 {Y : gYt} {S : gSt} {x : Int32} : ∀ i', i' < 11 → i' ≠ 5 → gfs Y (uV S 19 x) i' = gfs Y S i' := by
  intro i h1 h2
  match i, h1, h2 with
  | 0, _, _ => rfl
  | 1, _, _ => rfl
  | 2, _, _ => rfl
  | 3, _, _ => rfl
  | 4, _, _ => rfl
  | 5, _, h2 => exact absurd rfl h2
  | 6, _, _ => rfl
  | 7, _, _ => rfl
  | 8, _, _ => rfl
  | 9, _, _ => rfl
  | 10, _, _ => rfl
theorem gsame_20 {Y : gYt} {S : gSt} {x : Int32} : ∀ i', i' < 11 → i' ≠ 5 → gfs Y (uV S 20 x) i' = gfs Y S i' := by
  intro i h1 h2
  match i, h1, h2 with
  | 0, _, _ => rfl
  | 1, _, _ => rfl
  | 2, _, _ => rfl
  | 3, _, _ => rfl
  | 4, _, _ => rfl
  | 5, _, h2 => exact absurd rfl h2
  | 6, _, _ => rfl
  | 7, _, _ => rfl
  | 8, _, _ => rfl
  | 9, _, _ => rfl
  | 10, _, _ => rfl
theorem gsame_21 {Y : gYt} {S : gSt} {x : Int32} : ∀ i', i' < 11 → i' ≠ 5 → gfs Y (uV S 21 x) i' = gfs Y S i' := by
  intro i h1 h2
  match i, h1, h2 with
  | 0, _, _ => rfl
  | 1, _, _ => rfl
  | 2, _, _ => rfl
  | 3, _, _ => rfl
  | 4, _, _ => rfl
  | 5, _, h2 => exact absurd rfl h2
  | 6, _, _ => rfl
  | 7, _, _ => rfl
  | 8, _, _ => rfl
  | 9, _, _ => rfl
  | 10, _, _ => rfl
theorem gsame_22 {Y : gYt} {S : gSt} {x : Int32} : ∀ i', i' < 11 → i' ≠ 5 → gfs Y (uV S 22 x) i' = gfs Y S i' := by
  intro i h1 h2
  match i, h1, h2 with
  | 0, _, _ => rfl
  | 1, _, _ => rfl
  | 2, _, _ => rfl
  | 3, _, _ => rfl
  | 4, _, _ => rfl
  | 5, _, h2 => exact absurd rfl h2
  | 6, _, _ => rfl
  | 7, _, _ => rfl
  | 8, _, _ => rfl
  | 9, _, _ => rfl
  | 10, _, _ => rfl
theorem gsame_23 {Y : gYt} {S : gSt} {x : Int32} : ∀ i', i' < 11 → i' ≠ 5 → gfs Y (uV S 23 x) i' = gfs Y S i' := by
  intro i h1 h2
  match i, h1, h2 with
  | 0, _, _ => rfl
  | 1, _, _ => rfl
  | 2, _, _ => rfl
  | 3, _, _ => rfl
  | 4, _, _ => rfl
  | 5, _, h2 => exact absurd rfl h2
  | 6, _, _ => rfl
  | 7, _, _ => rfl
  | 8, _, _ => rfl
  | 9, _, _ => rfl
  | 10, _, _ => rfl
theorem gsame_24 {Y : gYt} {S : gSt} {x : Int32} : ∀ i', i' < 11 → i' ≠ 5 → gfs Y (uV S 24 x) i' = gfs Y S i' := by
  intro i h1 h2
  match i, h1, h2 with
  | 0, _, _ => rfl
  | 1, _, _ => rfl
  | 2, _, _ => rfl
  | 3, _, _ => rfl
  | 4, _, _ => rfl
  | 5, _, h2 => exact absurd rfl h2
  | 6, _, _ => rfl
  | 7, _, _ => rfl
  | 8, _, _ => rfl
  | 9, _, _ => rfl
  | 10, _, _ => rfl
theorem gsame_25 {Y : gYt} {S : gSt} {x : Int32} : ∀ i', i' < 11 → i' ≠ 6 → gfs Y (uV S 25 x) i' = gfs Y S i' := by
  intro i h1 h2
  match i, h1, h2 with
  | 0, _, _ => rfl
  | 1, _, _ => rfl
  | 2, _, _ => rfl
  | 3, _, _ => rfl
  | 4, _, _ => rfl
  | 5, _, _ => rfl
  | 6, _, h2 => exact absurd rfl h2
  | 7, _, _ => rfl
  | 8, _, _ => rfl
  | 9, _, _ => rfl
  | 10, _, _ => rfl
theorem gsame_26 {Y : gYt} {S : gSt} {x : Int32} : ∀ i', i' < 11 → i' ≠ 6 → gfs Y (uV S 26 x) i' = gfs Y S i' := by
  intro i h1 h2
  match i, h1, h2 with
  | 0, _, _ => rfl
  | 1, _, _ => rfl
  | 2, _, _ => rfl
  | 3, _, _ => rfl
  | 4, _, _ => rfl
  | 5, _, _ => rfl
  | 6, _, h2 => exact absurd rfl h2
  | 7, _, _ => rfl
  | 8, _, _ => rfl
  | 9, _, _ => rfl
  | 10, _, _ => rfl
theorem gsame_27 {Y : gYt} {S : gSt} {x : Int32} : ∀ i', i' < 11 → i' ≠ 7 → gfs Y (uV S 27 x) i' = gfs Y S i' := by
  intro i h1 h2
  match i, h1, h2 with
  | 0, _, _ => rfl
  | 1, _, _ => rfl
  | 2, _, _ => rfl
  | 3, _, _ => rfl
  | 4, _, _ => rfl
  | 5, _, _ => rfl
  | 6, _, _ => rfl
  | 7, _, h2 => exact absurd rfl h2
  | 8, _, _ => rfl
  | 9, _, _ => rfl
  | 10, _, _ => rfl
theorem gsame_28 {Y : gYt} {S : gSt} {x : Int32} : ∀ i', i' < 11 → i' ≠ 7 → gfs Y (uV S 28 x) i' = gfs Y S i' := by
  intro i h1 h2
  match i, h1, h2 with
  | 0, _, _ => rfl
  | 1, _, _ => rfl
  | 2, _, _ => rfl
  | 3, _, _ => rfl
  | 4, _, _ => rfl
  | 5, _, _ => rfl
  | 6, _, _ => rfl
  | 7, _, h2 => exact absurd rfl h2
  | 8, _, _ => rfl
  | 9, _, _ => rfl
  | 10, _, _ => rfl
theorem gsame_29 {Y : gYt} {S : gSt} {x : Int32} : ∀ i', i' < 11 → i' ≠ 7 → gfs Y (uV S 29 x) i' = gfs Y S i' := by
  intro i h1 h2
  match i, h1, h2 with
  | 0, _, _ => rfl
  | 1, _, _ => rfl
  | 2, _, _ => rfl
  | 3, _, _ => rfl
  | 4, _, _ => rfl
  | 5, _, _ => rfl
  | 6, _, _ => rfl
  | 7, _, h2 => exact absurd rfl h2
  | 8, _, _ => rfl
  | 9, _, _ => rfl
  | 10, _, _ => rfl
theorem gsame_30 {Y : gYt} {S : gSt} {x : Int32} : ∀ i', i' < 11 → i' ≠ 7 → gfs Y (uV S 30 x) i' = gfs Y S i' := by
  intro i h1 h2
  match i, h1, h2 with
  | 0, _, _ => rfl
  | 1, _, _ => rfl
  | 2, _, _ => rfl
  | 3, _, _ => rfl
  | 4, _, _ => rfl
  | 5, _, _ => rfl
  | 6, _, _ => rfl
  | 7, _, h2 => exact absurd rfl h2
  | 8, _, _ => rfl
  | 9, _, _ => rfl
  | 10, _, _ => rfl
theorem gsame_31 {Y : gYt} {S : gSt} {x : Int32} : ∀ i', i' < 11 → i' ≠ 7 → gfs Y (uV S 31 x) i' = gfs Y S i' := by
  intro i h1 h2
  match i, h1, h2 with
  | 0, _, _ => rfl
  | 1, _, _ => rfl
  | 2, _, _ => rfl
  | 3, _, _ => rfl
  | 4, _, _ => rfl
  | 5, _, _ => rfl
  | 6, _, _ => rfl
  | 7, _, h2 => exact absurd rfl h2
  | 8, _, _ => rfl
  | 9, _, _ => rfl
  | 10, _, _ => rfl
theorem gsame_32 {Y : gYt} {S : gSt} {x : Int32} : ∀ i', i' < 11 → i' ≠ 7 → gfs Y (uV S 32 x) i' = gfs Y S i' := by
  intro i h1 h2
  match i, h1, h2 with
  | 0, _, _ => rfl
  | 1, _, _ => rfl
  | 2, _, _ => rfl
  | 3, _, _ => rfl
  | 4, _, _ => rfl
  | 5, _, _ => rfl
  | 6, _, _ => rfl
  | 7, _, h2 => exact absurd rfl h2
  | 8, _, _ => rfl
  | 9, _, _ => rfl
  | 10, _, _ => rfl
theorem gsame_33 {Y : gYt} {S : gSt} {x : Int32} : ∀ i', i' < 11 → i' ≠ 7 → gfs Y (uV S 33 x) i' = gfs Y S i' := by
  intro i h1 h2
  match i, h1, h2 with
  | 0, _, _ => rfl
  | 1, _, _ => rfl
  | 2, _, _ => rfl
  | 3, _, _ => rfl
  | 4, _, _ => rfl
  | 5, _, _ => rfl
  | 6, _, _ => rfl
  | 7, _, h2 => exact absurd rfl h2
  | 8, _, _ => rfl
  | 9, _, _ => rfl
  | 10, _, _ => rfl
theorem gsame_34 {Y : gYt} {S : gSt} {x : Int32} : ∀ i', i' < 11 → i' ≠ 7 → gfs Y (uV S 34 x) i' = gfs Y S i' := by
  intro i h1 h2
  match i, h1, h2 with
  | 0, _, _ => rfl
  | 1, _, _ => rfl
  | 2, _, _ => rfl
  | 3, _, _ => rfl
  | 4, _, _ => rfl
  | 5, _, _ => rfl
  | 6, _, _ => rfl
  | 7, _, h2 => exact absurd rfl h2
  | 8, _, _ => rfl
  | 9, _, _ => rfl
  | 10, _, _ => rfl
theorem gsame_35 {Y : gYt} {S : gSt} {x : Int32} : ∀ i', i' < 11 → i' ≠ 7 → gfs Y (uV S 35 x) i' = gfs Y S i' := by
  intro i h1 h2
  match i, h1, h2 with
  | 0, _, _ => rfl
  | 1, _, _ => rfl
  | 2, _, _ => rfl
  | 3, _, _ => rfl
  | 4, _, _ => rfl
  | 5, _, _ => rfl
  | 6, _, _ => rfl
  | 7, _, h2 => exact absurd rfl h2
  | 8, _, _ => rfl
  | 9, _, _ => rfl
  | 10, _, _ => rfl
theorem gsame_36 {Y : gYt} {S : gSt} {x : Int32} : ∀ i', i' < 11 → i' ≠ 7 → gfs Y (uV S 36 x) i' = gfs Y S i' := by
  intro i h1 h2
  match i, h1, h2 with
  | 0, _, _ => rfl
  | 1, _, _ => rfl
  | 2, _, _ => rfl
  | 3, _, _ => rfl
  | 4, _, _ => rfl
  | 5, _, _ => rfl
  | 6, _, _ => rfl
  | 7, _, h2 => exact absurd rfl h2
  | 8, _, _ => rfl
  | 9, _, _ => rfl
  | 10, _, _ => rfl
theorem gsame_37 {Y : gYt} {S : gSt} {x : Int32} : ∀ i', i' < 11 → i' ≠ 8 → gfs Y (uV S 37 x) i' = gfs Y S i' := by
  intro i h1 h2
  match i, h1, h2 with
  | 0, _, _ => rfl
  | 1, _, _ => rfl
  | 2, _, _ => rfl
  | 3, _, _ => rfl
  | 4, _, _ => rfl
  | 5, _, _ => rfl
  | 6, _, _ => rfl
  | 7, _, _ => rfl
  | 8, _, h2 => exact absurd rfl h2
  | 9, _, _ => rfl
  | 10, _, _ => rfl
theorem gsame_38 {Y : gYt} {S : gSt} {x : Int32} : ∀ i', i' < 11 → i' ≠ 9 → gfs Y (uV S 38 x) i' = gfs Y S i' := by
  intro i h1 h2
  match i, h1, h2 with
  | 0, _, _ => rfl
  | 1, _, _ => rfl
  | 2, _, _ => rfl
  | 3, _, _ => rfl
  | 4, _, _ => rfl
  | 5, _, _ => rfl
  | 6, _, _ => rfl
  | 7, _, _ => rfl
  | 8, _, _ => rfl
  | 9, _, h2 => exact absurd rfl h2
  | 10, _, _ => rfl
theorem gsame_39 {Y : gYt} {S : gSt} {x : Int32} : ∀ i', i' < 11 → i' ≠ 9 → gfs Y (uV S 39 x) i' = gfs Y S i' := by
  intro i h1 h2
  match i, h1, h2 with
  | 0, _, _ => rfl
  | 1, _, _ => rfl
  | 2, _, _ => rfl
  | 3, _, _ => rfl
  | 4, _, _ => rfl
  | 5, _, _ => rfl
  | 6, _, _ => rfl
  | 7, _, _ => rfl
  | 8, _, _ => rfl
  | 9, _, h2 => exact absurd rfl h2
  | 10, _, _ => rfl
theorem gsame_40 {Y : gYt} {S : gSt} {x : Int32} : ∀ i', i' < 11 → i' ≠ 9 → gfs Y (uV S 40 x) i' = gfs Y S i' := by
  intro i h1 h2
  match i, h1, h2 with
  | 0, _, _ => rfl
  | 1, _, _ => rfl
  | 2, _, _ => rfl
  | 3, _, _ => rfl
  | 4, _, _ => rfl
  | 5, _, _ => rfl
  | 6, _, _ => rfl
  | 7, _, _ => rfl
  | 8, _, _ => rfl
  | 9, _, h2 => exact absurd rfl h2
  | 10, _, _ => rfl
