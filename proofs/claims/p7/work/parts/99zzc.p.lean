/-! THE CHECK: LET -/
section LE
variable {s0 : zS} {kids : Nat → List Nat} {up sz : Nat → Nat} {root N : Nat} {Qc : zS → Prop}
theorem FA.upw {s : zS} {M : Int} {n : Nat} (hf : fac s0 kids up root N s M n) (hk : ∀ d ∈ kr (za s0 25) kids n, FA s0 kids up root N s M d) : FA s0 kids up root N s M n := fun y hy => by
  rcases rin_kid hy with rfl | ⟨c, hc, hr⟩
  · exact hf
  · exact hk c hc y hr
theorem FA.tv {s : zS} {M : Int} {n : Nat} (h1 : kr (za s0 25) kids n = []) (h2 : fac s0 kids up root N s M n) : FA s0 kids up root N s M n := FA.upw h2 (fun d hd => by rw [h1] at hd; exact absurd hd List.not_mem_nil)
theorem cC.p {s s' : zS} {D : Nat → Prop} {w : Nat} {js ks : List Nat} (h : cC s s' D w) (f : zSm s s' js ks) (hj : js.contains 68 = false) (hk : ([55, 67, 79, 80].all fun k => !ks.contains k) = true) (h49 : zv s' 49 ≤ zv s 49 + w) : cP s s' D w := by
  have K : ∀ k, [55, 67, 79, 80].contains k = true → zv s' k = zv s k := fun k h1 => f.v k (by
    have := List.all_eq_true.mp hk k (by simpa using h1)
    simpa using this)
  exact ⟨h.m, K 67 rfl, fun i _ => f.a 68 i hj, h.e1, h49, h.er, K 55 rfl, h.s73, h.s76, h.s77, K 79 rfl, K 80 rfl, h.mu, h.w1, h.w2, h.r1, h.r2, h.rr, h.v1, h.v2, h.nd⟩
theorem bel.upw {n : Nat} {ks : List Nat} (hks : ∀ d ∈ ks, d ∈ kids n) {x : Nat} (h : bel kids ks x) : bel kids [n] x := by
  obtain ⟨d, hd, hr⟩ := h
  exact ⟨n, List.mem_cons_self .., ((rch.rt kids n).kid (hks d hd)).tr hr⟩
theorem RF.upw {s : zS} {n d r : Nat} (g : RF s0 kids up root N s d r) (h : rch kids n d) : RF s0 kids up root N s n r := by
  obtain ⟨x, x1, x2⟩ := g
  exact ⟨x, h.tr x1, x2⟩
section DE
variable {s : zS} {n v : Nat} {Q : zS → Prop}
theorem do_55 (hn : n < 26000) (hk : za s 25 n = 53) (hc : za s 27 n = (v : Int)) (hv : v < 26000) (h55 : za s 25 v = 55) (hq : wr_task s 8 v 0 (fun s36 => (0 ≤ (n : Int)) ∧ ((n : Int) < 26000) ∧ (0 ≤ (za s36 27 n)) ∧ ((za s36 27 n) < 26000) ∧ ∃ m, wr_declaration_60 Q m s36 (zv s36 63) (za s36 27 (Int.toNat (za s36 27 n))))) : wr_declaration s n Q := by
  unfold wr_declaration
  rw [Int.toNat_natCast, hk, hc, Int.toNat_natCast, h55]
  repeat' (first | (with_reducible exact hq) | (with_reducible apply And.intro) | omega | (intro c; exact absurd c (by decide)) | (intro c; exact absurd rfl c) | (with_reducible intro _) | fail)
theorem do_54 (hn : n < 26000) (hk : za s 25 n = 53) (hc : za s 27 n = (v : Int)) (hv : v < 26000) (h55 : ¬ za s 25 v = 55) (hq : wr_letRoutines s n (fun s25 => Q s25)) : wr_declaration s n Q := by
  unfold wr_declaration
  rw [Int.toNat_natCast, hk, hc, Int.toNat_natCast]
  exact ⟨by omega, by omega, fun c => absurd rfl c, fun _ => ⟨by omega, by omega, by omega, by omega, fun _ => hq, fun c => absurd c h55⟩⟩
theorem do_gl (hn : n < 26000) (hk : ¬ za s 25 n = 53) (hq : ∃ m, wr_declaration_133 Q m s n (za s 25 n) (za s 27 n)) : wr_declaration s n Q := by
  unfold wr_declaration
  rw [Int.toNat_natCast]
  exact ⟨by omega, by omega, fun _ => ⟨by omega, by omega, hq⟩, fun c => absurd c hk⟩
end DE
theorem tD_va (h : fF s0 kids up sz [root] N) (hN : N ≤ 2700) {n v : Nat} (hr : rch kids root n) (hK : za s0 25 n = 53) (ek : kids n = [v]) (hKv : za s0 25 v = 55) (iE : ∀ c ∈ kids v, kE (za s0 25 c) → tri s0 kids up sz root N Qc 1 3 c tt tt) : triD s0 kids up sz root N Qc 1 n tt := by
  have hn := h.lt hr
  have mv : v ∈ kids n := by rw [ek]; exact List.mem_cons_self ..
  have hrv := hr.kid mv
  have hv := h.lt hrv
  have hkl : ∀ c ∈ kids v, c < N := fun c hc => (h.kd v hv c hc).1
  have hzn : sz n = 1 + szs sz (kids n) := h.ss n hn
  rw [ek, szs1] at hzn
  have hzv : sz v = 1 + szs sz (kids v) := h.ss v hv
  have hlen : (kids v).length ≤ szs sz (kids v) := len_sum h hkl
  have un : ub (za s0 25) kids sz n = sz n := ub_o (by omega)
  obtain ⟨mm, r, e1, -, e2, e3⟩ := (h.sh v hv).vs hKv
  have hkind : ∀ c ∈ kids v, za s0 25 c = 58 ∨ kI (za s0 25 c) := fun c hc => by
    have : za s0 25 c ∈ List.replicate mm 58 ++ r := by rw [← e1]; exact List.mem_map.mpr ⟨c, hc, rfl⟩
    rcases List.mem_append.mp this with q | q
    · exact Or.inl (List.eq_of_mem_replicate q)
    · exact Or.inr (e3 _ q)
  have hcx : ∀ c ∈ kids v, cxF (za s0 25) up root N c = cxF (za s0 25) up root N n := fun c hc => by
    rw [cxF_kid _ h hrv hc, cxF_kid _ h hr mv, hK, hKv]
    exact (cxS_o rfl).trans (cxS_o rfl)
  have chn := h.ch n hn
  rw [ek] at chn
  -- who waits
  have hks : ∀ c ∈ (kids v).filter (fun c => !decide (za s0 25 c = 58)), c ∈ kids v ∧ ¬ za s0 25 c = 58 := fun c hc => by
    rw [List.mem_filter] at hc
    exact ⟨hc.1, by simpa using hc.2⟩
  have hnd : ((kids v).filter (fun c => !decide (za s0 25 c = 58))).Nodup := (h.kn v hv).filter _
  have hsum : ∀ l : List Nat, (∀ c ∈ l, c < N) → szs sz (l.filter (fun c => !decide (za s0 25 c = 58))) + nms (za s0 25) l ≤ szs sz l := by
    intro l
    induction l with
    | nil => intro _; exact Nat.le_refl _
    | cons a l ih =>
      intro hl
      have h1 := ih (fun c hc => hl c (List.mem_cons_of_mem _ hc))
      have h2 := h.ss a (hl a (List.mem_cons_self ..))
      have h3 : szs sz (a :: l) = sz a + szs sz l := by simp only [szs, List.map_cons, List.sum_cons]
      by_cases c : za s0 25 a = 58
      · rw [nms_c c, List.filter_cons_of_neg (by simpa using c)]
        omega
      · rw [nms_n c, List.filter_cons_of_pos (by simpa using c)]
        have h4 : ∀ q : List Nat, szs sz (a :: q) = sz a + szs sz q := fun q => by simp only [szs, List.map_cons, List.sum_cons]
        rw [h4]
        omega
  have hsv := hsum (kids v) hkl
  have hflen : ((kids v).filter (fun c => !decide (za s0 25 c = 58))).length ≤ (kids v).length := List.length_filter_le _ _
  refine triD.mk h hn hY_tt (fun m s l k1 hl hp _ hq => go_1 ?_)
  obtain ⟨g, hx, hb⟩ := hp
  obtain ⟨b1, b2, b3, b4, b5, b6, b7, b8⟩ := id hb
  refine do_55 (v := v) (by omega) ((g.st.a 25 n rfl).trans hK) ((g.st.a 27 n rfl).trans chn.1) (by omega) ((g.st.a 25 v rfl).trans hKv) ?_
  refine sp_task k1 (by omega) 8 v 0 (fun s1 j1 f1 => ?_)
  have g1 := g.sm f1 rfl rfl rfl rfl
  rw [show za s1 27 n = (v : Int) from (g1.st.a 27 n rfl).trans chn.1, Int.toNat_natCast, j1.2]
  refine ⟨by omega, by omega, by omega, by omega, (kids v).length + 1, ?_⟩
  -- the tasks are laid
  have L : ∀ (ks : List Nat) (c : Int) (m2 : Nat) (s2 : zS) (A : List cT), ks.length < m2 → fCh s2 c ks → (∀ d ∈ ks, d ∈ kids v) → zSm s1 s2 [64, 65, 66] [63] → cTk s2 (A ++ (8, (v : Int), 0) :: l) → A.length + l.length + 1 + ks.length ≤ 26000 → (∀ s', cTk s' (A.reverse ++ ((ks.filter (fun c => !decide (za s0 25 c = 58))).map (fun c : Nat => (((if za s0 25 c = 59 then 11 else 3 : Int), (c : Int), 0) : cT)) ++ (8, (v : Int), 0) :: l)) → zSm s1 s' [64, 65, 66] [63] → kL Qc (m + 4 * sz n - 1) s') → wr_declaration_60 (fun s' => kL Qc (m + 4 * sz n - 1) s') m2 s2 (((8, (v : Int), 0) :: l).length : Nat) c := by
    intro ks
    induction ks with
    | nil =>
      intro c m2 s2 A hm h1 _ f h2 h3 hq
      obtain ⟨m2, rfl⟩ : ∃ q, m2 = q + 1 := ⟨m2 - 1, by have : 0 < m2 := hm; omega⟩
      have h1' : c = -1 := h1
      unfold wr_declaration_60
      unfold wr_declaration_60B
      refine ⟨fun _ => sp_turn h2 (by rw [List.length_append]; have : ([] : List Nat).length = 0 := rfl; show A.length + (l.length + 1) ≤ 26000; omega) (fun s' g1 g2 => hq s' g1 (f.tr g2 rfl rfl)), fun e => absurd (by omega) e⟩
    | cons a ks ih =>
      intro c m2 s2 A hm h1 hd f h2 h3 hq
      have e4 : (a :: ks).length = ks.length + 1 := rfl
      rw [e4] at hm h3
      obtain ⟨m2, rfl⟩ : ∃ q, m2 = q + 1 := ⟨m2 - 1, by omega⟩
      have h1' : c = (a : Int) := h1.1
      have ha := hd a (List.mem_cons_self ..)
      have haN := hkl a ha
      subst h1'
      have e25 : za s2 25 a = za s0 25 a := (f.a 25 a rfl).trans (g1.st.a 25 a rfl)
      have nx : ∀ (t : Int), ¬ za s0 25 a = 58 → t = (if za s0 25 a = 59 then 11 else 3 : Int) → wr_task s2 t a 0 (fun s17 => (0 ≤ (a : Int)) ∧ ((a : Int) < 26000) ∧ wr_declaration_60 (fun s' => kL Qc (m + 4 * sz n - 1) s') m2 s17 (((8, (v : Int), 0) :: l).length : Nat) (za s17 28 a)) := fun t h58 ht => by
        refine sp_task h2 (by rw [List.length_append]; show A.length + (l.length + 1) < 26000; omega) t a 0 (fun s3 g1 g2 => ⟨by omega, by omega, ?_⟩)
        refine ih _ m2 s3 ((t, (a : Int), 0) :: A) (by omega) ?_ (fun d hd2 => hd d (List.mem_cons_of_mem _ hd2)) (f.tr g2 rfl rfl) g1 (by show A.length + 1 + l.length + 1 + ks.length ≤ 26000; omega) (fun s' k1 k2 => hq s' ?_ k2)
        · rw [g2.a 28 a rfl]
          exact h1.2.fr (fun x _ => g2.a 28 x rfl)
        · rw [List.reverse_cons, List.append_assoc] at k1
          rw [List.filter_cons_of_pos (by simpa using h58), List.map_cons, ← ht]
          exact k1
      unfold wr_declaration_60
      unfold wr_declaration_60B
      rw [Int.toNat_natCast, e25]
      refine ⟨fun e => absurd e (by omega), fun _ => ⟨by omega, by omega, fun c58 => ⟨by omega, by omega, ?_⟩, fun c58 => ⟨by omega, by omega, fun c59 => nx 3 c58 (by rw [if_neg c59]), fun c59 => nx 11 c58 (by rw [if_pos c59])⟩⟩⟩
      refine ih _ m2 s2 A (by omega) h1.2 (fun d hd2 => hd d (List.mem_cons_of_mem _ hd2)) f h2 (by omega) (fun s' k1 k2 => hq s' ?_ k2)
      rw [List.filter_cons_of_neg (by simpa using c58)]
      exact k1
  have e27 : za s1 27 v = za s0 27 v := g1.st.a 27 v rfl
  rw [e27]
  refine L (kids v) _ _ s1 [] (by omega) ((h.ch v hv).fr (fun x _ => g1.st.a 28 x rfl)) (fun d hd => hd) zSm.rf j1 (by show 0 + l.length + 1 + _ ≤ _; omega) (fun s2 k2 f2 => ?_)
  have f02 : zSm s s2 [64, 65, 66] [63] := f1.tr f2 rfl rfl
  have p02 : cP s s2 (bel kids [n]) 0 := cP.sm f02 (fm.sm f02 rfl) rfl rfl rfl
  have g2 := g.sm f02 rfl rfl rfl rfl
  have x2 : cX s0 kids s2 (cxF (za s0 25) up root N n) := hx.fr p02 (f02.v 49 rfl)
  refine (seqT h hv (fun c => if za s0 25 c = 59 then 11 else 3) (κ := fun c => if za s0 25 c = 59 then 0 else 1) (Y := fun _ => tt) (X := vkX s0) stb_tt vkX.st _ (fun c hc => (hks c hc).1) hnd (fun c hc => ?_) (m + 1) s2 _ k2 g2 (fun c hc => by rw [hcx c (hks c hc).1]; exact x2) ((hb.fs (w2 := sz n) (u2 := sz n) p02 (by omega) (f02.v 49 rfl) (by omega)).le (by omega) (by omega) (by show l.length + 1 + _ ≤ _; omega)) (fun _ _ => trivial) (fun s3 k3 p3 x3 => ?_)).le (by omega)
  · obtain ⟨c1, c2⟩ := hks c hc
    try dsimp only
    by_cases c59 : za s0 25 c = 59
    · rw [if_pos c59, if_pos c59]
      exact tV h hN (hrv.kid c1) c59
    · rw [if_neg c59, if_neg c59]
      rcases hkind c c1 with q | q
      · exact absurd q c2
      · rcases q with q | q
        · exact (iE c c1 q).wk (fun s _ k => absurd k c59)
        · exact absurd q c59
  · refine kL.step k3 (by omega) (fun s4 f4 k4 => go_8 ?_)
    have g4 := p3.1.2.1.sm f4 rfl rfl rfl rfl
    have e49 : zv s4 49 = zv s 49 := by rw [f4.v 49 rfl, p3.2.1, f02.v 49 rfl]
    have e74 : zv s4 74 = zv s 74 := by rw [f4.v 74 rfl, p3.2.2, f02.v 74 rfl]
    have hV4 : ∀ c ∈ kids v, za s0 25 c = 59 → 0 ≤ za s4 29 c ∧ za s4 29 c ≤ 30000 := fun c hc k => by
      rw [f4.a 29 c rfl]
      exact x3 c (List.mem_filter.mpr ⟨hc, by simp [k]⟩) k
    refine sp_varsEnd h hN hrv hKv g4 (by omega) hV4 (fun s5 vb => ?_)
    obtain ⟨f5, g5, cc5, w49, w30, went, wmu, wvk⟩ := vb
    have p03 : cP s s3 (bel kids [n]) (szs sz ((kids v).filter (fun c => !decide (za s0 25 c = 58)))) := p02.tr p3.1.1 (fun _ q => q) (fun x q => bel.upw (n := n) (ks := [v]) (fun d hd => by rw [ek]; exact hd) (bel.upw (fun d hd => (hks d hd).1) q)) (by omega)
    have p04 : cP s s4 (bel kids [n]) (szs sz ((kids v).filter (fun c => !decide (za s0 25 c = 58)))) := p03.tr (cP.sm (D := bel kids [n]) (w := 0) f4 (fm.sm f4 rfl) rfl rfl rfl) (fun _ q => q) (fun _ q => q) (by omega)
    have p45 : cP s4 s5 (fun x => x = v ∨ x ∈ kids v ∧ (za s0 25 x = 58 ∨ za s0 25 x = 59)) (nms (za s0 25) (kids v)) := (cC.tr (w := nms (za s0 25) (kids v)) cc5 (cC.rf (D := fun x => x = v ∨ x ∈ kids v ∧ (za s0 25 x = 58 ∨ za s0 25 x = 59)) (w := 0)) (fun _ q => q) (fun _ q => q) (by omega)).p f5 rfl rfl (by omega)
    have hD : ∀ x, (x = v ∨ x ∈ kids v ∧ (za s0 25 x = 58 ∨ za s0 25 x = 59)) → bel kids [n] x := fun x q => by
      rcases q with rfl | ⟨q, -⟩
      · exact ⟨n, List.mem_cons_self .., (rch.rt kids n).kid mv⟩
      · exact ⟨n, List.mem_cons_self .., ((rch.rt kids n).kid mv).kid q⟩
    have p05 : cP s s5 (bel kids [n]) (szs sz [n]) := p04.tr p45 (fun _ q => q) hD (by rw [szs1]; omega)
    have q35 : cQ s3 s5 (fun x => x = v ∨ x ∈ kids v ∧ (za s0 25 x = 58 ∨ za s0 25 x = 59)) := (cQ.sm (D := fun x => x = v ∨ x ∈ kids v ∧ (za s0 25 x = 58 ∨ za s0 25 x = 59)) f4 (fm.sm f4 rfl) rfl rfl).tr p45.q (fun _ q => q) (fun _ q => q)
    -- what is below a kid
    have bv : ∀ c ∈ kids v, ∀ y, rch kids c y → ¬ y = v := fun c hc y hy e => by
      subst e
      have h1 := h.szk hv hc
      rcases h.szx (hkl c hc) hy with q | q
      · rw [q] at h1; omega
      · omega
    have bk : ∀ c ∈ kids v, ∀ y, rch kids c y → y ∈ kids v → y = c := fun c hc y hy hyv => by
      by_cases e : y = c
      · exact e
      · exact absurd hy (h.dj hv hyv hc e (rch.rt kids y))
    have mu5 := p45.mu
    have rt0 := (cX.fr (s' := s4) hx p04 e49).2.2.2.2
    refine hq s5 (k4.sm f5 rfl rfl) ⟨p05, g5, fun r h1 h2 => ?_, fun z d hd => ?_, ?_⟩ (fun e he => ?_) (by rw [w49, e49, un]; omega)
    · rw [f5.v 69 rfl, f4.v 69 rfl] at h2
      obtain ⟨c, hc, q⟩ := p3.1.2.2.1 r (by rw [f02.v 69 rfl]; exact h1) h2
      obtain ⟨c1, c2⟩ := hks c hc
      refine ⟨n, List.mem_cons_self .., (q.fr h (hkl c c1) h2 q35 (fun x hx3 hx54 y hy hD3 => ?_)).upw (((rch.rt kids n).kid mv).kid c1)⟩
      rcases hD3 with e | ⟨e, hk⟩
      · exact bv c c1 y (hx3.tr hy) e
      · have := bk c c1 y (hx3.tr hy) e
        subst this
        have hxN := h.ltr (hkl y c1) hx3
        rcases h.szx (hkl y c1) hx3 with q1 | q1
        · subst q1; omega
        · rcases h.szx hxN hy with q2 | q2
          · subst q2; omega
          · omega
    · rw [List.mem_singleton.mp hd]
      have z3 : zv s3 12 = 0 := by
        by_cases e : zv s3 12 = 0
        · exact e
        · exact absurd z (q35.m e)
      refine FA.upw (fac_no (by rw [hK]; rfl)) (fun d hd => ?_)
      rw [kr_eq (by rw [hK]; rfl), ek] at hd
      rw [List.mem_singleton.mp hd]
      refine FA.upw (fac_55 hKv ⟨by rw [w30]; exact g4.iu.1, ?_, fun c hc k => wvk c hc k⟩) (fun c hc => ?_)
      · rw [w30]
        have e : ((kids v).filter fun c => za s0 25 c = 58).length = nms (za s0 25) (kids v) := rfl
        rw [e]
        unfold rng
        omega
      · rw [kr_eq (by rw [hKv]; rfl)] at hc
        by_cases c58 : za s0 25 c = 58
        · exact FA.tv (by rw [kr_eq (by rw [c58]; rfl)]; exact List.map_eq_nil_iff.mp ((h.sh c (hkl c hc)).lf (by omega))) (fac_no (by rw [c58]; rfl))
        · by_cases c59 : za s0 25 c = 59
          · exact FA.tv (kr_no (by omega)) (fac_no (by rw [c59]; rfl))
          · refine (p3.1.2.2.2.1 z3 c (List.mem_filter.mpr ⟨hc, by simp [c58]⟩)).fr h (hkl c hc) q35.mu q35.r1 q35.w1 (fun r hr => (q35.rr r hr).2.2) (fun y hy => q35.nd y (fun hD3 => ?_))
            rcases hD3 with e | ⟨e, hk⟩
            · exact bv c hc y hy e
            · have := bk c hc y hy e
              subst this
              omega
    · rcases p3.1.2.2.2.2 with q | ⟨q0, c, hc, x, q1, q2, q3⟩
      · exact Or.inl (by rw [f5.v 82 rfl, f4.v 82 rfl, q, f02.v 82 rfl])
      · refine Or.inr ⟨by rw [← f02.v 73 rfl]; exact q0, n, List.mem_cons_self .., x, by rw [f5.v 82 rfl, f4.v 82 rfl]; exact q1, q2, ?_⟩
        exact (((rin.rt (za s0 25) kids n).kid (by rw [kr_eq (by rw [hK]; rfl)]; exact mv)).kid (by rw [kr_eq (by rw [hKv]; rfl)]; exact (hks c hc).1)).tr q3
    · by_cases e4 : (e : Int) < zv s4 49
      · obtain ⟨y1, y2⟩ := rt0 e e4
        obtain ⟨-, a1, a2, a3, a4⟩ := p45.er e e4
        rw [a1, a2, a3, f5.v 73 rfl, f5.v 77 rfl]
        refine ⟨fun k k2 => (y1 k k2).le mu5, fun k k2 k3 => y2 k k2 ?_⟩
        rw [← a4 (by rw [k]; decide)]
        exact k3
      · obtain ⟨y1, y2⟩ := went e (by omega) he
        rw [y1]
        refine ⟨fun _ _ => ?_, fun k => absurd k (by decide)⟩
        unfold rng
        omega
end LE

