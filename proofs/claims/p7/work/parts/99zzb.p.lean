/-! THE CHECK: VARIABLES -/
section VA
variable {s0 : zS} {kids : Nat → List Nat} {up sz : Nat → Nat} {root N : Nat} {Qc : zS → Prop}
/-- a VEC's K -/
def vkX (s0 : zS) (n : Nat) (s : zS) : Prop := za s0 25 n = 59 → 0 ≤ za s 29 n ∧ za s 29 n ≤ 30000
theorem vkX.st : stb kids (vkX s0) := fun c s s' D w h p hd k => by
  rw [(p.nd c (hd c (rch.rt kids c))).1]
  exact h k
theorem tV (h : fF s0 kids up sz [root] N) (hN : N ≤ 2700) {n : Nat} (hr : rch kids root n) (hK : za s0 25 n = 59) : tri s0 kids up sz root N Qc 0 11 n tt (vkX s0 n) := by
  have hn := h.lt hr
  have hz : 1 ≤ sz n := by have := h.ss n hn; omega
  obtain ⟨ka, q1, qa⟩ := (h.sh n hn).e1 (by omega)
  obtain ⟨c, ek, ea⟩ := map1 q1
  have hc : c ∈ kids n := by rw [ek]; exact List.mem_cons_self ..
  have hcN := (h.kd n hn c hc).1
  have ch := h.ch n hn
  rw [ek] at ch
  refine tri.mk (by omega) h hn hY_tt (fun m s l k1 hl hp _ hq => go_11 ?_)
  obtain ⟨g, hx, hb⟩ := hp
  have h25 : za s 25 n = 59 := (g.st.a 25 n rfl).trans hK
  have h27 : za s 27 n = (c : Int) := (g.st.a 27 n rfl).trans ch.1
  have fin : ∀ s1 x, zSm s s1 [60, 61, 62] [12, 13, 58, 59] → fm s s1 → GI s0 kids root s1 → 0 ≤ x → x ≤ 30000 → kL Qc (m + 4 * sz n - 0 - 1) (zpa s1 29 n x) := fun s1 x f1 m1 g1 x0 x1 => by
    have f2 : zSm s (zpa s1 29 n x) [29, 60, 61, 62] [12, 13, 58, 59] := (zSm.rf.tr f1 rfl rfl : zSm s s1 [29, 60, 61, 62] [12, 13, 58, 59]).pa rfl
    refine (hq _ (k1.sm f2 rfl rfl) (PB.leaf h hn (kr_no (by omega)) (cP.own f2 (fun q => m1 q) rfl rfl (fun y hy => ⟨?_, f2.a 30 y rfl, f2.a 31 y rfl⟩)) (g1.p29 (by omega)) (f2.v 69 rfl) (f2.v 82 rfl) (f2.v 49 rfl) (f2.v 74 rfl) (fun _ => fac_no (by rw [hK]; rfl))) (fun _ => ?_)).le (by omega)
    · rw [za_pa, if_pos rfl, if_neg hy]
      exact f1.a 29 y rfl
    · rw [za_pa, if_pos rfl, if_pos rfl]
      exact ⟨x0, x1⟩
  have F63 : ∀ s1, zSm s s1 [60, 61, 62] [12, 13, 58, 59] → fm s s1 → GI s0 kids root s1 → wr_forName_63 (fun s' => kL Qc (m + 4 * sz n - 0 - 1) s') s1 n := fun s1 f1 m1 g1 => by
    unfold wr_forName_63
    rw [Int.toNat_natCast]
    exact ⟨fun _ => ⟨by omega, by omega, fin s1 0 f1 m1 g1 (by omega) (by omega)⟩, fun _ => ⟨fun _ => ⟨by omega, by omega, fin s1 0 f1 m1 g1 (by omega) (by omega)⟩, fun c0 => ⟨fun _ => ⟨by omega, by omega, fin s1 0 f1 m1 g1 (by omega) (by omega)⟩, fun c3 => ⟨by omega, by omega, fin s1 _ f1 m1 g1 (by omega) (by omega)⟩⟩⟩⟩
  unfold wr_forName
  rw [Int.toNat_natCast, h25]
  refine ⟨by omega, by omega, fun e => absurd rfl e, fun _ => ⟨by omega, by omega, ?_⟩⟩
  rw [h27]
  refine g.cn h hN (hr.kid hc) (by rw [ea]; exact qa) (fun s1 f1 m1 _ g1 => ?_)
  obtain ⟨t1, t2, t3, t4⟩ := g1.tk2 h hcN
  have FF : wr_place s1 (za s1 34 c) (fun r s2 => wr_fault s2 6 r (fun s3 => wr_forName_63 (fun s' => kL Qc (m + 4 * sz n - 0 - 1) s') s3 n)) := sp_place s1 _ t3 t4 (fun r => by
    refine ffm_fault (sp_faultN s1 6 r (by decide)) ?_
    rintro s2 - ⟨f2, q2⟩
    exact F63 s2 (f1.tr f2 rfl rfl) (fun _ => q2) (g1.sm f2 rfl rfl rfl rfl))
  rw [Int.toNat_natCast]
  exact ⟨fun _ => F63 s1 f1 m1 g1, fun _ => ⟨fun _ => ⟨by omega, by omega, FF⟩, fun _ => ⟨fun _ => F63 s1 f1 m1 g1, fun _ => ⟨by omega, by omega, FF⟩⟩⟩⟩
/-- the names among l -/
def nms (K : Nat → Int) (l : List Nat) : Nat := (l.filter fun q => K q = 58).length
theorem nms_c {K : Nat → Int} {a : Nat} {l : List Nat} (h : K a = 58) : nms K (a :: l) = nms K l + 1 := by
  unfold nms
  rw [List.filter_cons_of_pos (by simpa using h)]
  rfl
theorem nms_n {K : Nat → Int} {a : Nat} {l : List Nat} (h : ¬ K a = 58) : nms K (a :: l) = nms K l := by
  unfold nms
  rw [List.filter_cons_of_neg (by simpa using h)]
theorem nms_le {K : Nat → Int} : ∀ {l : List Nat}, nms K l ≤ l.length := fun {l} => List.length_filter_le _ _
/-- the names are declared up to here: i of them -/
def vaS (s0 : zS) (kids : Nat → List Nat) (root v : Nat) (s s' : zS) (u : Int) (i : Nat) : Prop := zSm s s' [30, 31, 50, 51, 52, 53, 54, 57] [12, 13, 49] ∧ GI s0 kids root s' ∧ cC s s' (fun x => x = v ∨ x ∈ kids v ∧ (za s0 25 x = 58 ∨ za s0 25 x = 59)) 0 ∧ zv s' 49 = zv s 49 + i ∧ za s' 30 v = u ∧ ∀ e : Nat, zv s 49 ≤ e → (e : Int) < zv s' 49 → za s' 51 e = 4 ∧ za s' 52 e < u + i
/-- all names are there, and so many of the VECs -/
def vbS (s0 : zS) (kids : Nat → List Nat) (root v : Nat) (s s' : zS) (u : Int) (i : Nat) (P : List Nat) : Prop := zSm s s' [30, 31, 50, 51, 52, 53, 54, 57] [12, 13, 49, 74, 75] ∧ GI s0 kids root s' ∧ cC s s' (fun x => x = v ∨ x ∈ kids v ∧ (za s0 25 x = 58 ∨ za s0 25 x = 59)) 0 ∧ zv s' 49 = zv s 49 + i ∧ za s' 30 v = u ∧ (∀ e : Nat, zv s 49 ≤ e → (e : Int) < zv s' 49 → za s' 51 e = 4 ∧ za s' 52 e < u + i) ∧ (u + i ≤ zv s' 75 ∨ 32000 < zv s' 75) ∧ ∀ c ∈ P, za s0 25 c = 59 → 0 ≤ za s' 31 c ∧ za s' 31 c ≤ 75000
theorem sp_varsEnd (h : fF s0 kids up sz [root] N) (hN : N ≤ 2700) {v : Nat} (hr : rch kids root v) (hK : za s0 25 v = 55) {s : zS} (g : GI s0 kids root s) (hB : zv s 49 + nms (za s0 25) (kids v) ≤ 9000) (hV : ∀ c ∈ kids v, za s0 25 c = 59 → 0 ≤ za s 29 c ∧ za s 29 c ≤ 30000) {Q : zS → Prop} (hq : ∀ s', vbS s0 kids root v s s' (zv s 74) (nms (za s0 25) (kids v)) (kids v) → Q s') : wr_varsEnd s v Q := by
  have hv := h.lt hr
  have hkl : ∀ c ∈ kids v, c < N := fun c hc => (h.kd v hv c hc).1
  have hlen : (kids v).length ≤ szs sz (kids v) := len_sum h hkl
  have hzs : sz v = 1 + szs sz (kids v) := h.ss v hv
  have hsz := h.szr hr
  have iu := g.iu
  have nl := nms_le (K := za s0 25) (l := kids v)
  -- the VECs
  have L110 : ∀ (ks : List Nat) (x : Int) (m : Nat) (s1 : zS) (P : List Nat), ks.length < m → fCh s1 x ks → kids v = P ++ ks → vbS s0 kids root v s s1 (zv s 74) (nms (za s0 25) (kids v)) P → (∀ c ∈ kids v, za s0 25 c = 59 → 0 ≤ za s1 29 c ∧ za s1 29 c ≤ 30000) → wr_varsEnd_110 Q m s1 x := by
    intro ks
    induction ks with
    | nil =>
      intro x m s1 P hm h1 hk hl _
      obtain ⟨m, rfl⟩ : ∃ q, m = q + 1 := ⟨m - 1, by have : 0 < m := hm; omega⟩
      have h1' : x = -1 := h1
      rw [List.append_nil] at hk
      unfold wr_varsEnd_110
      unfold wr_varsEnd_110B
      exact ⟨fun _ => hq s1 (by rw [← hk] at hl; exact hl), fun e => absurd (by omega) e⟩
    | cons a ks ih =>
      intro x m s1 P hm h1 hk hl h29
      have e4 : (a :: ks).length = ks.length + 1 := rfl
      rw [e4] at hm
      obtain ⟨m, rfl⟩ : ∃ q, m = q + 1 := ⟨m - 1, by omega⟩
      have h1' : x = (a : Int) := h1.1
      have ha : a ∈ kids v := by rw [hk]; exact List.mem_append.mpr (Or.inr (List.mem_cons_self ..))
      have haN := hkl a ha
      have hk2 : kids v = (P ++ [a]) ++ ks := by rw [hk, List.append_assoc]; rfl
      subst h1'
      obtain ⟨f, g1, cc, e1, e2, e3, e5, e6⟩ := id hl
      have e25 : za s1 25 a = za s0 25 a := g1.st.a 25 a rfl
      have iu1 := g1.iu
      unfold wr_varsEnd_110
      unfold wr_varsEnd_110B
      rw [Int.toNat_natCast, e25]
      refine ⟨fun e => absurd e (by omega), fun _ => ⟨by omega, by omega, fun c59 => ⟨by omega, by omega, by omega, by omega, ?_⟩, fun c59 => ⟨by omega, by omega, ih _ m s1 (P ++ [a]) (by omega) h1.2 hk2 ⟨f, g1, cc, e1, e2, e3, e5, fun c hc k => ?_⟩ h29⟩⟩⟩
      · have k29 := h29 a ha c59
        refine ⟨⟨by omega, by omega⟩, ?_⟩
        have f2 : zSm s1 (zpa s1 31 a (zv s1 74)) [31] [] := zSm.rf.pa rfl
        refine sp_uses (zpa s1 31 a (zv s1 74)) _ iu1.1 iu1.2 (by omega) (by omega) (fun s2 f3 u1 u2 u3 u4 u5 => ⟨by omega, by omega, ?_⟩)
        have w75 : zv (zpa s1 31 a (zv s1 74)) 75 = zv s1 75 := rfl
        have f4 : zSm s1 s2 [31] [74, 75] := (zSm.rf.tr f2 rfl rfl : zSm s1 _ [31] [74, 75]).tr f3 rfl rfl
        have o31 : ∀ y, za s2 31 y = if y = a then zv s1 74 else za s1 31 y := fun y => by
          rw [f3.a 31 y rfl, za_pa, if_pos rfl]
        have g2 : GI s0 kids root s2 := by
          have := (g1.p74 (x := zv s2 74) ⟨Int.le_trans iu1.1 u2, u3⟩)
          refine this.sm (js := [31]) (ks := [75]) ⟨fun j hj => f4.1 j hj, fun k hk => ?_⟩ rfl rfl rfl rfl
          show s2.1 k = if k = 74 then zv s2 74 else s1.1 k
          split
          · rename_i e
            rw [e]
            rfl
          · rename_i e
            refine f4.2 k ?_
            have h1 : ¬ k = 75 := fun q => by rw [q] at hk; exact absurd hk (by decide)
            simp [h1, e]
        have c2 : cC s1 s2 (fun x => x = v ∨ x ∈ kids v ∧ (za s0 25 x = 58 ∨ za s0 25 x = 59)) 0 := by
          have ca := cC.own (s := s1) (s' := zpa s1 31 a (zv s1 74)) (D := fun x => x = v ∨ x ∈ kids v ∧ (za s0 25 x = 58 ∨ za s0 25 x = 59)) (w := 0) f2 (fm.sm f2 rfl) rfl rfl (fun y hy => ⟨rfl, rfl, by rw [za_pa, if_pos rfl, if_neg (fun e => hy (Or.inr ⟨by rw [e]; exact ha, by rw [e]; exact Or.inr c59⟩))]⟩)
          have f3' : zSm (zpv (zpa s1 31 a (zv s1 74)) 75 (zv s2 75)) s2 [] [74] := ⟨fun j hj => f3.1 j hj, fun k hk => by
            show s2.1 k = if k = 75 then zv s2 75 else s1.1 k
            split
            · rename_i e
              rw [e]
              rfl
            · rename_i e
              refine f3.2 k ?_
              have h1 : ¬ k = 74 := fun q => by rw [q] at hk; exact absurd hk (by decide)
              simp [h1, e]⟩
          have cb : cC (zpa s1 31 a (zv s1 74)) (zpv (zpa s1 31 a (zv s1 74)) 75 (zv s2 75)) (fun x => x = v ∨ x ∈ kids v ∧ (za s0 25 x = 58 ∨ za s0 25 x = 59)) 0 := ⟨fun q => q, Int.le_refl _, fun _ _ => ⟨rfl, rfl, rfl, rfl, fun _ => rfl⟩, rfl, rfl, rfl, u1, Int.le_refl _, by show zv s1 81 ≤ zv s1 81 + 60 * ((0 : Nat) : Int); omega, Int.le_refl _, by show zv s1 69 ≤ zv s1 69 + ((0 : Nat) : Int); omega, fun _ _ => ⟨rfl, rfl, rfl⟩, Int.le_refl _, by show zv s1 78 ≤ zv s1 78 + ((0 : Nat) : Int); omega, fun _ _ => ⟨rfl, rfl, rfl⟩⟩
          exact (ca.tr (w := 0) cb (fun _ q => q) (fun _ q => q) (by omega)).tr (cC.sm (w := 0) f3' (fm.sm f3' rfl) rfl rfl rfl) (fun _ q => q) (fun _ q => q) (by omega)
        rw [f4.a 28 a rfl]
        refine ih _ m s2 (P ++ [a]) (by omega) (h1.2.fr (fun y _ => f4.a 28 y rfl)) hk2 ⟨(zSm.rf.tr f rfl rfl : zSm s s1 [30, 31, 50, 51, 52, 53, 54, 57] [12, 13, 49, 74, 75]).tr f4 rfl rfl, g2, cc.tr c2 (fun _ q => q) (fun _ q => q) (by omega), by rw [f4.v 49 rfl]; exact e1, by rw [f4.a 30 v rfl]; exact e2, fun e q1 q2 => ?_, by omega, fun c hc k => ?_⟩ (fun c hc k => by rw [f4.a 29 c rfl]; exact h29 c hc k)
        · rw [f4.v 49 rfl] at q2
          rw [f4.a 51 e rfl, f4.a 52 e rfl]
          exact e3 e q1 q2
        · rw [o31]
          split
          · exact iu1
          · rename_i hne
            rcases List.mem_append.mp hc with hc | hc
            · exact e6 c hc k
            · exact absurd (List.mem_singleton.mp hc) hne
      · rcases List.mem_append.mp hc with hc | hc
        · exact e6 c hc k
        · rw [List.mem_singleton.mp hc] at k
          exact absurd k c59
  -- the names
  have L25 : ∀ (ks : List Nat) (x : Int) (m : Nat) (s1 : zS) (i : Nat), ks.length < m → fCh s1 x ks → (∀ d ∈ ks, d ∈ kids v) → vaS s0 kids root v s s1 (zv s 74) i → i + nms (za s0 25) ks = nms (za s0 25) (kids v) → (∀ c ∈ kids v, za s0 25 c = 59 → 0 ≤ za s1 29 c ∧ za s1 29 c ≤ 30000) → wr_varsEnd_25 Q m s1 v (zv s 74 + i) i x := by
    intro ks
    induction ks with
    | nil =>
      intro x m s1 i hm h1 _ hl hi h29
      obtain ⟨m, rfl⟩ : ∃ q, m = q + 1 := ⟨m - 1, by have : 0 < m := hm; omega⟩
      have h1' : x = -1 := h1
      have hi' : i = nms (za s0 25) (kids v) := hi
      obtain ⟨f, g1, cc, e1, e2, e3⟩ := hl
      have e74 : zv s1 74 = zv s 74 := f.v 74 rfl
      have iu1 := g1.iu
      unfold wr_varsEnd_25
      unfold wr_varsEnd_25B
      refine ⟨fun _ => sp_uses s1 i iu1.1 iu1.2 (by omega) (by omega) (fun s2 f3 u1 u2 u3 u4 u5 => ?_), fun e => absurd (by omega) e⟩
      rw [Int.toNat_natCast]
      refine ⟨by omega, by omega, (kids v).length + 1, ?_⟩
      have g2 : GI s0 kids root s2 := by
        have := (g1.p74 (x := zv s2 74) ⟨Int.le_trans iu1.1 u2, u3⟩)
        refine this.sm (js := []) (ks := [75]) ⟨fun j hj => f3.1 j hj, fun k hk => ?_⟩ rfl rfl rfl rfl
        show s2.1 k = if k = 74 then zv s2 74 else s1.1 k
        split
        · rename_i e
          rw [e]
          rfl
        · rename_i e
          refine f3.2 k ?_
          have h1 : ¬ k = 75 := fun q => by rw [q] at hk; exact absurd hk (by decide)
          simp [h1, e]
      have c2 : cC s1 s2 (fun x => x = v ∨ x ∈ kids v ∧ (za s0 25 x = 58 ∨ za s0 25 x = 59)) 0 := by
        have f3' : zSm (zpv s1 75 (zv s2 75)) s2 [] [74] := ⟨fun j hj => f3.1 j hj, fun k hk => by
          show s2.1 k = if k = 75 then zv s2 75 else s1.1 k
          split
          · rename_i e
            rw [e]
            rfl
          · rename_i e
            refine f3.2 k ?_
            have h1 : ¬ k = 74 := fun q => by rw [q] at hk; exact absurd hk (by decide)
            simp [h1, e]⟩
        have cb : cC s1 (zpv s1 75 (zv s2 75)) (fun x => x = v ∨ x ∈ kids v ∧ (za s0 25 x = 58 ∨ za s0 25 x = 59)) 0 := ⟨fun q => q, Int.le_refl _, fun _ _ => ⟨rfl, rfl, rfl, rfl, fun _ => rfl⟩, rfl, rfl, rfl, u1, Int.le_refl _, by show zv s1 81 ≤ zv s1 81 + 60 * ((0 : Nat) : Int); omega, Int.le_refl _, by show zv s1 69 ≤ zv s1 69 + ((0 : Nat) : Int); omega, fun _ _ => ⟨rfl, rfl, rfl⟩, Int.le_refl _, by show zv s1 78 ≤ zv s1 78 + ((0 : Nat) : Int); omega, fun _ _ => ⟨rfl, rfl, rfl⟩⟩
        exact cb.tr (cC.sm (w := 0) f3' (fm.sm f3' rfl) rfl rfl rfl) (fun _ q => q) (fun _ q => q) (by omega)
      refine L110 (kids v) _ _ s2 [] (by omega) ?_ rfl ⟨(zSm.rf.tr f rfl rfl : zSm s s1 [30, 31, 50, 51, 52, 53, 54, 57] [12, 13, 49, 74, 75]).tr f3 rfl rfl, g2, cc.tr c2 (fun _ q => q) (fun _ q => q) (by omega), by rw [f3.v 49 rfl, e1, hi'], by rw [f3.a 30 v rfl]; exact e2, fun e q1 q2 => ?_, by rw [← hi']; omega, fun c hc => absurd hc List.not_mem_nil⟩ (fun c hc k => by rw [f3.a 29 c rfl]; exact h29 c hc k)
      · rw [g2.st.a 27 v rfl]
        exact (h.ch v hv).fr (fun y _ => g2.st.a 28 y rfl)
      · rw [f3.v 49 rfl] at q2
        rw [f3.a 51 e rfl, f3.a 52 e rfl, ← hi']
        exact e3 e q1 q2
    | cons a ks ih =>
      intro x m s1 i hm h1 hd hl hi h29
      have e4 : (a :: ks).length = ks.length + 1 := rfl
      rw [e4] at hm
      obtain ⟨m, rfl⟩ : ∃ q, m = q + 1 := ⟨m - 1, by omega⟩
      have h1' : x = (a : Int) := h1.1
      have ha := hd a (List.mem_cons_self ..)
      have haN := hkl a ha
      subst h1'
      obtain ⟨f, g1, cc, e1, e2, e3⟩ := id hl
      have e25 : za s1 25 a = za s0 25 a := g1.st.a 25 a rfl
      unfold wr_varsEnd_25
      unfold wr_varsEnd_25B
      rw [Int.toNat_natCast, Int.toNat_natCast, e25]
      refine ⟨fun e => absurd e (by omega), fun _ => ⟨by omega, by omega, fun c58 => ⟨by omega, by omega, by omega, by omega, by omega, by omega, ?_⟩, fun c58 => ⟨by omega, by omega, ih _ m s1 i (by omega) h1.2 (fun d hd2 => hd d (List.mem_cons_of_mem _ hd2)) hl (by rw [nms_n c58] at hi; exact hi) h29⟩⟩⟩
      rw [nms_c c58] at hi
      have f2 : zSm s1 (zpa s1 31 a (zv s 74 + i)) [31] [] := zSm.rf.pa rfl
      have g2 : GI s0 kids root (zpa s1 31 a (zv s 74 + i)) := g1.sm f2 rfl rfl rfl rfl
      obtain ⟨t1, t2, -⟩ := g1.tk2 h haN
      have ro := g1.ro
      have rt := g1.rt
      refine sp_declare (zpa s1 31 a (zv s 74 + i)) _ _ 4 _ _ 0 g2.en.1 (by show zv s1 49 < 9000; omega) g2.bb.1 g2.bb.2 t1 t2 g2.tk (fun s3 en t => ⟨by omega, by omega, ⟨by omega, by omega⟩, ⟨by omega, by omega⟩, ?_⟩)
      obtain ⟨fe, me, q2, q3, q4⟩ := id en
      have q2' : zv s3 49 = zv s1 49 + 1 := q2
      have f3 : zSm s1 s3 [31, 50, 51, 52, 53, 54, 57] [12, 13, 49] := (zSm.rf.tr f2 rfl rfl : zSm s1 _ [31, 50, 51, 52, 53, 54, 57] [12, 13, 49]).tr fe rfl rfl
      have c2 : cC s1 s3 (fun x => x = v ∨ x ∈ kids v ∧ (za s0 25 x = 58 ∨ za s0 25 x = 59)) 0 := (cC.own (s := s1) (s' := zpa s1 31 a (zv s 74 + i)) (D := fun x => x = v ∨ x ∈ kids v ∧ (za s0 25 x = 58 ∨ za s0 25 x = 59)) (w := 0) f2 (fm.sm f2 rfl) rfl rfl (fun y hy => ⟨rfl, rfl, by rw [za_pa, if_pos rfl, if_neg (fun e => hy (Or.inr ⟨by rw [e]; exact ha, by rw [e]; exact Or.inl c58⟩))]⟩)).tr (cC.ent (D := fun x => x = v ∨ x ∈ kids v ∧ (za s0 25 x = 58 ∨ za s0 25 x = 59)) (w := 0) en) (fun _ q => q) (fun _ q => q) (by omega)
      rw [show zv s 74 + (i : Int) + 1 = zv s 74 + ((i + 1 : Nat) : Int) by omega, show (i : Int) + 1 = ((i + 1 : Nat) : Int) by omega, f3.a 28 a rfl]
      refine ih _ m s3 (i + 1) (by omega) (h1.2.fr (fun y _ => f3.a 28 y rfl)) (fun d hd2 => hd d (List.mem_cons_of_mem _ hd2)) ⟨f.tr f3 rfl rfl, g2.ent en t (by show zv s1 49 < 9000; omega) (fun e he => ?_), cc.tr c2 (fun _ q => q) (fun _ q => q) (by omega), by omega, by rw [f3.a 30 v rfl]; exact e2, fun e h4 h5 => ?_⟩ (by omega) (fun c hc k => by rw [f3.a 29 c rfl]; exact h29 c hc k)
      · obtain ⟨-, r2, r3, r4, r5⟩ := q4 e he
        unfold eOk
        rw [r2, r3, r4, r5, fe.v 69 rfl]
        refine ⟨⟨by decide, by decide⟩, fun k => absurd k (by decide), fun k => absurd k (by decide), fun _ => ⟨by omega, ?_⟩, fun k => absurd k (by decide)⟩
        show zv s1 73 < zv s1 69
        omega
      · by_cases e6 : (e : Int) = zv s1 49
        · obtain ⟨-, r2, r3, r4, r5⟩ := q4 e e6
          rw [r2, r3]
          exact ⟨rfl, by omega⟩
        · obtain ⟨-, r2, r3, -⟩ := q3 e (by show (e : Int) < zv s1 49; omega)
          rw [r2, r3]
          have := e3 e h4 (by omega)
          exact ⟨this.1, by have := this.2; show za s1 52 e < _; omega⟩
  unfold wr_varsEnd
  rw [Int.toNat_natCast]
  have f2 : zSm s (zpa s 30 v (zv s 74)) [30] [] := zSm.rf.pa rfl
  have g2 : GI s0 kids root (zpa s 30 v (zv s 74)) := g.sm f2 rfl rfl rfl rfl
  refine ⟨by omega, by omega, by omega, by omega, (kids v).length + 1, ?_⟩
  have := L25 (kids v) (za s 27 v) ((kids v).length + 1) (zpa s 30 v (zv s 74)) 0 (by omega) ?_ (fun d hd => hd) ⟨zSm.rf.tr f2 rfl rfl, g2, cC.own f2 (fm.sm f2 rfl) rfl rfl (fun y hy => ⟨rfl, by rw [za_pa, if_pos rfl, if_neg (fun e => hy (Or.inl e))], rfl⟩), by show zv s 49 = zv s 49 + ((0 : Nat) : Int); omega, by rw [za_pa, if_pos rfl, if_pos rfl], fun e h4 h5 => absurd h5 (by show ¬ (e : Int) < zv s 49; omega)⟩ (by omega) hV
  · rw [show zv s 74 + ((0 : Nat) : Int) = zv s 74 by omega] at this
    exact this
  · rw [g.st.a 27 v rfl]
    exact (h.ch v hv).fr (fun y _ => g2.st.a 28 y rfl)
end VA

