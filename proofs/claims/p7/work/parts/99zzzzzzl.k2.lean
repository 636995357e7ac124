/-! THE LAW'S STATE: class and reference side by side, between calls. e: how many calls were made (each may throw one exception); n: so many bytes the tape has in the class; m: in the reference. -/
theorem hI.mono {d : gD} {b : Nat} {Y : gYt} {c c' : Nat × Nat} {u : hU} {S : gSt} (h : hI d b Y c u S) (h1 : c.1 ≤ c'.1) (h2 : c.2 ≤ c'.2) (h3 : c'.1 + 386600 ≤ gKm b) (h4 : c'.2 + 4275100 ≤ gNm) : hI d b Y c' u S :=
  ⟨h.1, h.2.1, Nat.le_trans h.2.2.1 (Nat.add_le_add_right h1 _), Nat.le_trans h.2.2.2.1 (Nat.add_le_add_right h2 _), h3, h4⟩
theorem lcn {js : List Nat} {j : Nat} (e : ¬ js.contains j = true) : j ∉ js := fun q => e (by simpa using q)
/-- the class's numbers behind a call that changed rows js, scalars ks -/
def lM (A : cS) (S : gSt) (js ks : List Nat) : cS := (fun j => if js.contains j = true then sZ S j else A.1 j, fun j i => if js.contains j = true then (sF S j i).toInt else A.2.1 j i, fun k => if ks.contains k = true then (sV S k).toInt else A.2.2 k)
theorem lM_sm {A : cS} {S : gSt} {js ks : List Nat} : ySm A (lM A S js ks) js ks := ⟨fun j hj => ⟨if_neg (by rw [hj]; decide), funext fun i => if_neg (by rw [hj]; decide)⟩, fun k hk => if_neg (by rw [hk]; decide)⟩
theorem yR.mix {S S' : gSt} {A : cS} {js ks : List Nat} (h : yR S A) (m : gSm S S' js ks) (hj : ∀ j, js.contains j = true → j = 0 ∨ 34 ≤ j) : yR S' (lM A S' js ks) := by
  obtain ⟨r1, r2, r3, r4, r5, r6⟩ := h
  refine ⟨fun j => ?_, fun j i hi => ?_, fun k => ?_, fun j i => ?_, fun k => ?_, fun j h1 h2 => ?_⟩
  · show sZ S' j = (if js.contains j = true then sZ S' j else A.1 j)
    by_cases e : js.contains j = true
    · rw [if_pos e]
    · rw [if_neg e, m.z j (lcn e)]
      exact r1 j
  · have hi2 : i < (if js.contains j = true then sZ S' j else A.1 j) := hi
    show sF S' j i = zI (if js.contains j = true then (sF S' j i).toInt else A.2.1 j i)
    by_cases e : js.contains j = true
    · rw [if_pos e]
      exact (zI_o _).symm
    · rw [if_neg e] at hi2
      rw [if_neg e, m.f j (lcn e)]
      exact r2 j i hi2
  · show sV S' k = zI (if ks.contains k = true then (sV S' k).toInt else A.2.2 k)
    by_cases e : ks.contains k = true
    · rw [if_pos e]
      exact (zI_o _).symm
    · rw [if_neg e, m.v k (lcn e)]
      exact r3 k
  · show zR (if js.contains j = true then (sF S' j i).toInt else A.2.1 j i)
    split
    · exact zR_t _
    · exact r4 j i
  · show zR (if ks.contains k = true then (sV S' k).toInt else A.2.2 k)
    split
    · exact zR_t _
    · exact r5 k
  · have e : ¬ js.contains j = true := fun q => by have := hj j q; omega
    rw [m.n j (lcn e), m.z j (lcn e)]
    exact r6 j h1 h2
theorem yR.sv {S S' : gSt} {A A' : cS} (h : yR S A) (h' : yR S' A') {k k' : Nat} (e : yv A' k = yv A k') : sV S' k = sV S k' := by
  have a1 : sV S' k = zI (yv A' k) := h'.2.2.1 k
  have a2 : sV S k' = zI (yv A k') := h.2.2.1 k'
  rw [a1, a2, e]
theorem zW.kp {d : gD} {F F' : gM} {t : Nat} {T : Nat → Nat} {s : zS} (h : zW d F t T s) (k0 : F' t = F t) (kT : ∀ j, zb j = true → F' (T j) = F (T j)) : zW d F' t T s :=
  ⟨k0.trans h.1, fun j hj => (kT j hj).trans (h.2.1 j hj), h.2.2⟩
/-- others' cells change, the class stays -/
theorem gWT.oth {d : gD} {Y : gYt} {F F' : gM} {S : gSt} (h : gWT d Y F S) (hk : ∀ x, ¬ gPr Y x → F' x = F x) (h0 : ∀ x, gPr Y x → F' x ≠ g0) (hZ : ∀ i, i < 2 → F' (gZ' Y i) = F (gZ' Y i)) : gWT d Y F' S := by
  have hp := h.2.2.2.2.2.2
  refine h.kept (fun x hx => ?_) (gPr Y) (fun x hx => ⟨h0 x hx, (hp x hx).2⟩)
  rcases hx with ⟨i, hi, e⟩ | ⟨j, hj, e⟩ | ⟨j, hj, e⟩ | ⟨i, hi, e⟩
  · exact hk x (fun q => (hp x q).2.1 i hi e)
  · exact hk x (fun q => (hp x q).2.2.1 j hj e)
  · exact hk x (fun q => (hp x q).2.2.2 j hj e)
  · rw [e]
    exact hZ i hi
theorem gWT.z_k {d : gD} {Y : gYt} {F : gM} {S : gSt} (h : gWT d Y F S) {i : Nat} (hi : i < 2) : ∃ (n : Nat) (f : Nat → Option Nat), F (gZ' Y i) = .inl (gO d, n, .inr (.inr (.inr (.inr f)))) := by
  obtain ⟨⟨f, e, -⟩, f2, e2, -⟩ := h.2.2.2.1
  rcases (show i = 0 ∨ i = 1 by omega) with rfl | rfl
  · exact ⟨_, f, e⟩
  · exact ⟨_, f2, e2⟩
def lPr (Y : gYt) (r : Nat) (T : Nat → Nat) (z : Nat) : Prop := gPr Y r ∧ (∀ j, zb j = true → gPr Y (T j)) ∧ gPr Y z
def lRm (b : Nat) (c : Nat × Nat) : Prop := c.1 + 64 + 386600 ≤ gKm b ∧ c.2 + 384 + 4275100 ≤ gNm
def lW (S : gSt) : Prop := sZ S 43 ≤ 404 ∧ gPw (sN S 45) ∧ (∃ N, gPw N ∧ sV S 0 = nI N) ∧ ∃ N, gPw N ∧ sV S 2 = nI N
def lJ (d : gD) (b : Nat) (Y : gYt) (c : Nat × Nat) (r : Nat) (T : Nat → Nat) (z e n m : Nat) (u : hU) : Prop :=
  ∃ (S : gSt) (A : cS) (s : zS), (hI d b Y (c.1 + e, c.2 + 6 * e) u S ∧ yR S A ∧ cI A ∧ yz A 0 = n) ∧ lW S ∧ zW d u.1 r T s ∧ (pJ s (m : Int) ∧ zv s 2 = (m : Int)) ∧ ∃ f : Nat → Int64, u.1 z = .inl (gJ d, 1, .inr (.inl f))
section LJ
variable {d : gD} {b : Nat} {Y : gYt} {c : Nat × Nat} {r z : Nat} {T : Nat → Nat} {e n m e' n' m' : Nat} {u u' : hU} {F' : gM}
theorem lJ.mono (R : lRm b c) (h : lJ d b Y c r T z e n m u) (h1 : e ≤ e') (h4 : e' ≤ 64) : lJ d b Y c r T z e' n m u := by
  obtain ⟨S, A, s, ⟨hi, hy, hc, hn⟩, hw, zw, pj, hz⟩ := h
  obtain ⟨R1, R2⟩ := R
  exact ⟨S, A, s, ⟨hi.mono (Nat.add_le_add_left h1 _) (Nat.add_le_add_left (Nat.mul_le_mul_left 6 h1) _) (by show c.1 + e' + 386600 ≤ _; omega) (by show c.2 + 6 * e' + 4275100 ≤ _; omega), hy, hc, hn⟩, hw, zw, pj, hz⟩
theorem lJ.o (h : lJ d b Y c r T z e n m u) : ∃ v fs, u.1 (gO' Y 0) = .inr (11, v :: fs) := by
  obtain ⟨S, A, s, ⟨hi, hy, hc, hn⟩, hw, zw, pj, hz⟩ := h
  exact ⟨_, _, hi.1.o 0 (by decide)⟩
theorem lJ.fr (h : lJ d b Y c r T z e n m u) : ∃ v fs, u.1 r = .inr (12, v :: fs) := by
  obtain ⟨S, A, s, ⟨hi, hy, hc, hn⟩, hw, zw, pj, hz⟩ := h
  exact ⟨_, _, zw.1⟩
theorem lJ.fz (h : lJ d b Y c r T z e n m u) : ∃ f : Nat → Int64, u.1 z = .inl (gJ d, 1, .inr (.inl f)) := by
  obtain ⟨S, A, s, -, hw, zw, pj, hz⟩ := h
  exact hz
theorem lJ.s (h : lJ d b Y c r T z e n m u) : ∃ s, zZ d r T u.1 u.1 s ∧ pJ s (m : Int) ∧ zv s 2 = (m : Int) := by
  obtain ⟨S, A, s, -, hw, zw, pj, hz⟩ := h
  exact ⟨s, ⟨zw, fun _ _ _ => rfl⟩, pj.1, pj.2⟩
/-- the class's call made: its cells alone changed -/
theorem lJ.cl (P : lPr Y r T z) (h : lJ d b Y c r T z e n m u) {S' : gSt} {A' : cS} (hi : hI d b Y (c.1 + e', c.2 + 6 * e') u' S') (hy : yR S' A') (hc : cI A') (hn : yz A' 0 = n') (hw : lW S') (k : gKp Y u.1 u'.1) : lJ d b Y c r T z e' n' m u' := by
  obtain ⟨S, A, s, -, -, zw, pj, f, hz⟩ := h
  exact ⟨S', A', s, ⟨hi, hy, hc, hn⟩, hw, zw.kp (k r P.1) (fun j hj => k (T j) (P.2.1 j hj)), pj, f, (k z P.2.2).trans hz⟩
theorem lk_zj {d : gD} {n1 n2 : Nat} {cc : ClassId} {g : Nat → Int64} {f : Nat → Int32} : (.inl (gJ d, n1, .inr (.inl g)) : va_E) ≠ .inl (cc, n2, .inl f) := gk_rl
theorem lk_oj {c1 c2 n1 n2 : Nat} {f : Nat → Option Nat} {g : Nat → Int64} : (.inl (c1, n1, .inr (.inr (.inr (.inr f)))) : va_E) ≠ .inl (c2, n2, .inr (.inl g)) := fun z => by
  have h := congrArg (fun e : va_E => match e with | .inl (_, _, .inr (.inl _)) => true | _ => false) z
  cases h
/-- the reference's call made -/
theorem lJ.rf (P : lPr Y r T z) (h : lJ d b Y c r T z e n m u) {s' : zS} {N : Int} (hz : zZ d r T u.1 F' s') (pj : pJ s' N) (hN : N ≤ (m' : Int)) (h2 : zv s' 2 = (m' : Int)) : lJ d b Y c r T z e n m' (F', u.2.1, u.2.2) := by
  obtain ⟨S, A, s, ⟨hi, hy, hc, hn⟩, hw, zw, -, f, hzz⟩ := h
  obtain ⟨zw', ho⟩ := hz
  have hzr : z ≠ r := gne hzz zw.1 gk_ao
  have hzT : ∀ j, zb j = true → z ≠ T j := fun j hj => gne hzz (zw.2.1 j hj) lk_zj
  have hz' : F' z = .inl (gJ d, 1, .inr (.inl f)) := (ho z hzr hzT).trans hzz
  have hg : gWT d Y F' S := hi.1.oth (fun x hx => ho x (fun q => hx (by rw [q]; exact P.1)) (fun j hj q => hx (by rw [q]; exact P.2.1 j hj))) (fun x hx => by
    by_cases q1 : x = r
    · rw [q1, zw'.1]
      exact g0_o
    · by_cases q2 : ∃ j, zb j = true ∧ x = T j
      · obtain ⟨j, hj, q⟩ := q2
        rw [q, zw'.2.1 j hj]
        exact g0_a
      · rw [ho x q1 (fun j hj q => q2 ⟨j, hj, q⟩)]
        exact (hi.1.2.2.2.2.2.2 x hx).1) (fun i hi2 => by
    obtain ⟨n9, f9, e9⟩ := hi.1.z_k hi2
    exact ho _ (gne e9 zw.1 gk_ao) (fun j hj => gne e9 (zw.2.1 j hj) gk_rl))
  exact ⟨S, A, s', ⟨hi.smaller hg (fun _ => rfl), hy, hc, hn⟩, hw, zw', ⟨pj.N hN, h2⟩, f, hz'⟩
/-- the row of a long written -/
theorem lJ.zu (P : lPr Y r T z) (h : lJ d b Y c r T z e n m u) (g : Nat → Int64) : lJ d b Y c r T z e n m (va_up u.1 z (.inl (gJ d, 1, .inr (.inl g))), u.2) := by
  obtain ⟨S, A, s, ⟨hi, hy, hc, hn⟩, hw, zw, pj, f, hzz⟩ := h
  have hzr : z ≠ r := gne hzz zw.1 gk_ao
  have hzT : ∀ j, zb j = true → z ≠ T j := fun j hj => gne hzz (zw.2.1 j hj) lk_zj
  have hg : gWT d Y (va_up u.1 z (.inl (gJ d, 1, .inr (.inl g)))) S := hi.1.oth (fun x hx => va_up_ne _ _ (fun q => hx (by rw [q]; exact P.2.2))) (fun x hx => by
    by_cases q : x = z
    · rw [q, va_up_self]
      exact g0_a
    · rw [va_up_ne _ _ q]
      exact (hi.1.2.2.2.2.2.2 x hx).1) (fun i hi2 => by
    obtain ⟨n9, f9, e9⟩ := hi.1.z_k hi2
    exact va_up_ne _ _ (gne e9 hzz lk_oj))
  exact ⟨S, A, s, ⟨hi.smaller hg (fun _ => rfl), hy, hc, hn⟩, hw, zw.kp (va_up_ne _ _ hzr.symm) (fun j hj => va_up_ne _ _ (hzT j hj).symm), pj, g, va_up_self _ _ _⟩
end LJ
