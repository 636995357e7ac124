/-! THE RUN: THE PROGRAM, THE STATE -/
theorem cxS_lo {k : Int} {n : Nat} {c : gCx} (h : k = 25 ∨ k = 26 ∨ k = 27 ∨ k = 38 ∨ k = 39 ∨ k = 40) : cxS k n c = (c.1, true, c.2.2.1, c.2.2.2) := by
  rcases h with rfl | rfl | rfl | rfl | rfl | rfl <;> rfl
theorem cxS_se {k : Int} {n : Nat} {c : gCx} (h : k = 28 ∨ k = 36) : cxS k n c = (c.1, c.2.1, c.2.2.1, n :: c.2.2.2) := by
  rcases h with rfl | rfl <;> rfl
theorem cxS_va {k : Int} {n : Nat} {c : gCx} (h : k = 4) : cxS k n c = (c.1, false, (n : Int), []) := by
  subst h
  rfl
theorem cxS_ro {k : Int} {n : Nat} {c : gCx} (h : k = 54) : cxS k n c = ((n : Int), false, -1, []) := by
  subst h
  rfl
theorem cxS_1 {k : Int} {n : Nat} {c : gCx} (h : ¬ k = 54) : (cxS k n c).1 = c.1 := by
  by_cases h1 : k = 25 ∨ k = 26 ∨ k = 27 ∨ k = 38 ∨ k = 39 ∨ k = 40
  · rw [cxS_lo h1]
  · by_cases h2 : k = 28 ∨ k = 36
    · rw [cxS_se h2]
    · by_cases h3 : k = 4
      · rw [cxS_va h3]
      · have e : ([4, 25, 26, 27, 28, 36, 38, 39, 40, 54] : List Int).contains k = false := by
          by_cases q : ([4, 25, 26, 27, 28, 36, 38, 39, 40, 54] : List Int).contains k = true
          · simp at q
            omega
          · simpa using q
        rw [cxS_o e]
section RUN
variable {s4 s1 : zS} {kids : Nat → List Nat} {up sz : Nat → Nat} {root N : Nat}
/-- what the check has left of the program -/
def xP (s4 s1 : zS) (kids : Nat → List Nat) (up sz : Nat → Nat) (root N : Nat) : Prop :=
  fF s4 kids up sz [root] N ∧ fA s4 kids N ∧ N ≤ 2700 ∧ 0 ≤ zv s1 69 ∧ zv s1 69 ≤ 200 ∧ 100 ≤ zv s1 81 ∧ zv s1 81 ≤ 1600 ∧ (∀ r : Nat, (r : Int) < zv s1 69 → za s1 70 r ≤ 32000 ∧ RF s4 kids up root N s1 root r) ∧ zv s1 12 = 0 ∧ (∀ c, wrs (za s4 25) kids root c → ∃ M, FA s4 kids up root N s1 M c) ∧ (∀ x : Nat, ¬ za s4 25 x = 27 → ¬ za s4 25 x = 43 → ¬ za s4 25 x = 54 → ¬ za s4 25 x = 59 → za s1 29 x = za s4 29 x) ∧ rch kids root root
theorem xP.h (p : xP s4 s1 kids up sz root N) : fF s4 kids up sz [root] N := p.1
theorem xP.hA (p : xP s4 s1 kids up sz root N) : fA s4 kids N := p.2.1
theorem xP.hN (p : xP s4 s1 kids up sz root N) : N ≤ 2700 := p.2.2.1
theorem xP.r0 (p : xP s4 s1 kids up sz root N) : 0 ≤ zv s1 69 ∧ zv s1 69 ≤ 200 := ⟨p.2.2.2.1, p.2.2.2.2.1⟩
theorem xP.w0 (p : xP s4 s1 kids up sz root N) : 100 ≤ zv s1 81 ∧ zv s1 81 ≤ 1600 := ⟨p.2.2.2.2.2.1, p.2.2.2.2.2.2.1⟩
theorem xP.ro (p : xP s4 s1 kids up sz root N) : ∀ r : Nat, (r : Int) < zv s1 69 → za s1 70 r ≤ 32000 ∧ RF s4 kids up root N s1 root r := p.2.2.2.2.2.2.2.1
theorem xP.z (p : xP s4 s1 kids up sz root N) : zv s1 12 = 0 := p.2.2.2.2.2.2.2.2.1
theorem xP.wr (p : xP s4 s1 kids up sz root N) : ∀ c, wrs (za s4 25) kids root c → ∃ M, FA s4 kids up root N s1 M c := p.2.2.2.2.2.2.2.2.2.1
theorem xP.e29 (p : xP s4 s1 kids up sz root N) : ∀ x : Nat, ¬ za s4 25 x = 27 → ¬ za s4 25 x = 43 → ¬ za s4 25 x = 54 → ¬ za s4 25 x = 59 → za s1 29 x = za s4 29 x := p.2.2.2.2.2.2.2.2.2.2.1
/-- a routine: its body, its words -/
theorem xP.rt (p : xP s4 s1 kids up sz root N) {r : Nat} (hr : (r : Int) < zv s1 69) : ∃ x, rch kids root x ∧ za s4 25 x = 54 ∧ bo s1 r = lk kids x ∧ lk kids x ∈ kids x ∧ za s1 72 r = (bo s1 r : Nat) ∧ bo s1 r < N ∧ (kE (za s4 25 (bo s1 r)) ∨ kC (za s4 25 (bo s1 r))) ∧ 0 ≤ za s1 71 r ∧ za s1 71 r ≤ 20 ∧ za s1 71 r + 1 < za s1 70 r ∧ za s1 70 r ≤ 32000 ∧ FA s4 kids up root N s1 (za s1 70 r) (bo s1 r) := by
  obtain ⟨h32, x, g1, g2, g3, g4, g5, g6, g7, g8⟩ := p.ro r hr
  have e : bo s1 r = lk kids x := by
    unfold bo
    rw [g4, Int.toNat_natCast]
  have hxN := p.h.lt g1
  have hs := p.h.sh x hxN
  obtain ⟨ra, rc, e1, q, -⟩ := hs.ro g2
  obtain ⟨ps, A, ek, eP, eA⟩ := List.map_eq_append_iff.mp e1
  obtain ⟨b, rfl, eb⟩ := map1 eA
  have elk : lk kids x = b := lk_app ek
  have mb : b ∈ kids x := by rw [ek]; exact List.mem_append.mpr (Or.inr (List.mem_cons_self ..))
  refine ⟨x, g1, g2, e, by rw [elk]; exact mb, by rw [e]; exact g4, by rw [e, elk]; exact (p.h.kd x hxN b mb).1, by rw [e, elk, eb]; exact q, g5, g6, ?_, h32, by rw [e]; exact g8 p.z⟩
  unfold rng at g7
  omega
/-- a node come to -/
theorem xI.n (p : xP s4 s1 kids up sz root N) {F : List Nat} {x : Nat} (g : xI s4 s1 kids F x) : x < N ∧ rch kids root x ∧ ∃ r F1, F = r :: F1 ∧ (r : Int) < zv s1 69 ∧ fac s4 kids up root N s1 (za s1 70 r) x ∧ za s1 70 r ≤ 32000 ∧ 2 ≤ za s1 70 r := by
  obtain ⟨r, F1, rfl, hr, q⟩ := g
  obtain ⟨y, y1, y2, y3, y4, y5, y6, y7, y8, y9, y10, y11, y12⟩ := p.rt hr
  have h1 := p.h.rr y6 q
  have h2 : rch kids root (bo s1 r) := by rw [y3]; exact y1.kid y4
  exact ⟨p.h.ltr y6 h1, h2.tr h1, r, F1, rfl, hr, y12 x q, y11, by omega⟩
theorem xI.kid {F : List Nat} {x c : Nat} (g : xI s4 s1 kids F x) (hc : c ∈ kr (za s4 25) kids x) : xI s4 s1 kids F c := by
  obtain ⟨r, F1, e, hr, q⟩ := g
  exact ⟨r, F1, e, hr, q.kid hc⟩
/-- the routine of a node's surroundings -/
theorem xI.cx (p : xP s4 s1 kids up sz root N) {r : Nat} (hr : (r : Int) < zv s1 69) {x : Nat} (q : rin (za s4 25) kids (bo s1 r) x) : ∃ y : Nat, (cxF (za s4 25) up root N x).1 = (y : Int) ∧ bo s1 r = lk kids y := by
  obtain ⟨y, y1, y2, y3, y4, y5, y6, y7, y8, y9, y10, y11, y12⟩ := p.rt hr
  have h2 : rch kids root (bo s1 r) := by rw [y3]; exact y1.kid y4
  refine ⟨y, ?_, y3⟩
  refine (q (fun z => rch kids root z ∧ z < N ∧ (cxF (za s4 25) up root N z).1 = (y : Int)) ⟨h2, y6, ?_⟩ (fun n c hn hc => ?_)).2.2
  · rw [y3, cxF_kid _ p.h y1 y4, y2]
    rfl
  · have hc2 := p.h.krk hn.2.1 hc
    refine ⟨hn.1.kid hc2, (p.h.kd n hn.2.1 c hc2).1, ?_⟩
    have h54 : ¬ za s4 25 n = 54 := fun e => by
      rw [kr_no (Or.inr (Or.inr (Or.inr (Or.inr (Or.inl e)))))] at hc
      exact absurd hc List.not_mem_nil
    rw [cxF_kid _ p.h hn.1 hc2, cxS_1 h54]
    exact hn.2.2
/-- the surroundings of a kid, of a kind that changes them in no way -/
theorem xC.o (p : xP s4 s1 kids up sz root N) {L : List xT} {n c : Nat} (g : xC s4 up root N L n) (hn : rch kids root n) (hc : c ∈ kids n) (hk : ([4, 25, 26, 27, 28, 36, 38, 39, 40, 54] : List Int).contains (za s4 25 n) = false) : xC s4 up root N L c := by
  unfold xC
  rw [cxF_kid _ p.h hn hc, cxS_o hk]
  exact g
/-- .. of a loop's kid, the loop's task below it -/
theorem xC.lo (p : xP s4 s1 kids up sz root N) {L : List xT} {n c : Nat} {a : Int} (g : xC s4 up root N L n) (hn : rch kids root n) (hc : c ∈ kids n) (hk : za s4 25 n = 25 ∨ za s4 25 n = 26 ∨ za s4 25 n = 27 ∨ za s4 25 n = 38 ∨ za s4 25 n = 39 ∨ za s4 25 n = 40) : xC s4 up root N ((15, n, a) :: L) c := by
  unfold xC
  rw [cxF_kid _ p.h hn hc, cxS_lo hk]
  exact ⟨fun _ => Or.inl rfl, fun q => Or.inr ⟨Or.inl rfl, g.2.1 q⟩, fun q hq => Or.inr ⟨Or.inl rfl, g.2.2 q hq⟩⟩
/-- .. of a section's kid -/
theorem xC.se (p : xP s4 s1 kids up sz root N) {L : List xT} {n c : Nat} {a : Int} (g : xC s4 up root N L n) (hn : rch kids root n) (hc : c ∈ kids n) (hk : za s4 25 n = 28 ∨ za s4 25 n = 36) : xC s4 up root N ((17, n, a) :: L) c := by
  unfold xC
  rw [cxF_kid _ p.h hn hc, cxS_se hk]
  refine ⟨fun q => Or.inr ⟨rfl, g.1 q⟩, fun q => Or.inr ⟨Or.inr rfl, g.2.1 q⟩, fun q hq => ?_⟩
  rcases List.mem_cons.mp hq with rfl | hq
  · exact Or.inl ⟨rfl, rfl⟩
  · exact Or.inr ⟨Or.inr rfl, g.2.2 q hq⟩
/-- .. of a VALOF's -/
theorem xC.va (p : xP s4 s1 kids up sz root N) {L : List xT} {n c : Nat} {a : Int} (hn : rch kids root n) (hc : c ∈ kids n) (hk : za s4 25 n = 4) : xC s4 up root N ((8, n, a) :: L) c := by
  unfold xC
  rw [cxF_kid _ p.h hn hc, cxS_va hk]
  exact ⟨fun q => absurd (show false = true from q) (by decide), fun _ => Or.inl rfl, fun q hq => absurd hq List.not_mem_nil⟩
/-- .. of a routine's body -/
theorem xC.ro (p : xP s4 s1 kids up sz root N) {L : List xT} {n c : Nat} (hn : rch kids root n) (hc : c ∈ kids n) (hk : za s4 25 n = 54) : xC s4 up root N L c := by
  unfold xC
  rw [cxF_kid _ p.h hn hc, cxS_ro hk]
  exact ⟨fun q => absurd (show false = true from q) (by decide), fun q => absurd (show (0 : Int) ≤ -1 from q) (by decide), fun q hq => absurd hq List.not_mem_nil⟩
/-- the program's rows, as the run sees them -/
def xS (s4 s1 s : zS) : Prop := (∀ j, (j = 25 ∨ j = 27 ∨ j = 28 ∨ j = 32) → ∀ i, za s j i = za s4 j i) ∧ (∀ j, (j = 29 ∨ j = 30 ∨ j = 31 ∨ j = 70 ∨ j = 71 ∨ j = 72 ∨ j = 85) → ∀ i, za s j i = za s1 j i) ∧ zv s 69 = zv s1 69
theorem xS.sm {s s' : zS} {js ks : List Nat} (h : xS s4 s1 s) (f : zSm s s' js ks) (hj : ([25, 27, 28, 29, 30, 31, 32, 70, 71, 72, 85].all fun j => !js.contains j) = true) (hk : ks.contains 69 = false) : xS s4 s1 s' := by
  have J : ∀ j, [25, 27, 28, 29, 30, 31, 32, 70, 71, 72, 85].contains j = true → ∀ i, za s' j i = za s j i := fun j h1 i => f.a j i (by
    have := List.all_eq_true.mp hj j (by simpa using h1)
    simpa using this)
  refine ⟨fun j q i => ?_, fun j q i => ?_, by rw [f.v 69 hk]; exact h.2.2⟩
  · rw [J j (by rcases q with rfl | rfl | rfl | rfl <;> rfl) i]
    exact h.1 j q i
  · rw [J j (by rcases q with rfl | rfl | rfl | rfl | rfl | rfl | rfl <;> rfl) i]
    exact h.2.1 j q i
/-- channels, vectors -/
def xIO (s : zS) : Prop := (0 ≤ zv s 99 ∧ zv s 99 ≤ 65536) ∧ (0 ≤ zv s 106 ∧ zv s 106 ≤ 100 ∧ ∀ k : Nat, (k : Int) < zv s 106 → 0 ≤ za s 107 k ∧ za s 107 k ≤ 65536 ∧ 0 ≤ za s 108 k ∧ za s 108 k ≤ 65537) ∧ (0 ≤ zv s 114 ∧ zv s 114 ≤ 3) ∧ (zv s 117 = 0 ∨ zv s 117 = 1) ∧ (∀ k : Nat, k < 2 → 0 ≤ za s 116 k ∧ za s 116 k ≤ 4096) ∧ (∀ k : Nat, k < 4 → 0 ≤ za s 112 k ∧ za s 112 k ≤ 1280 ∧ 0 ≤ za s 113 k ∧ za s 113 k ≤ za s 112 k ∧ pE s k 0) ∧ 0 ≤ zv s 101 ∧ zv s 101 ≤ 100000
/-- values and tasks keep within their rows -/
theorem xB.le {F : List Nat} (h : F.length ≤ 100) : xB F ≤ 270000 := by
  unfold xB
  omega
end RUN
