/-! THE CLASS'S CONSTANTS: RECKONING, A NUMBER -/
theorem jW_len {A : cS} : ∀ {l : List jC}, (∀ c ∈ l, jTc A c) → l.length ≤ jW l
  | [], _ => Nat.le_refl _
  | c :: l, h => by
    have h1 := (h c (List.mem_cons_self ..)).n1.2.2
    have h2 := jW_len (l := l) (fun x hx => h x (List.mem_cons_of_mem _ hx))
    rw [jW_c, List.length_cons]
    omega
theorem cs_reckon {m : Nat} (P0 : vR0 m) (P1 : vR1 m) : vR0 (m + 1) := fun x b c A Q l z b27 ch hl hf b33 h38 hq => by
  show wc_Constants_reckon (wcG_K m) A x b Q
  unfold wc_Constants_reckon wc_Tree_first
  rcases ch with ⟨rfl, rfl⟩ | ⟨ck, t, rfl, hx⟩
  · refine ⟨1, ?_⟩
    unfold wc_Constants_reckon_18
    unfold wc_Constants_reckon_18B
    have q := hq (yget A 33 ((yz A 33 : Nat) - 1 : Int)) _ (vC.q h38)
    exact ⟨fun c => absurd c (by decide), fun _ => ⟨fun _ => q, fun c => absurd z.2.2.1 c⟩⟩
  · have hck := hl ck (List.mem_cons_self ..)
    obtain ⟨l1, x1, ch1, hl1, -, hw, -, hk, -⟩ := hck.1.ks
    have hk1 := (jkap_le (yget A 7 (ck.2.1 : Nat))).1
    have b33' : yz A 33 + ck.2.2.1 ≤ 2990 := b33
    have hlen := jW_len (fun c hc => (hl1 c hc).1)
    rw [hx]
    have L : ∀ (m2 : Nat) (A1 : cS) (lr : List jC) (d : Nat) (x2 x3 x4 x5 x6 : Int), vC A A1 d → jCh A1 x5 (jNs lr) → (∀ c ∈ lr, jTc A1 c ∧ c.1 + 1 ≤ m) → d + jW lr ≤ jW l1 → 0 ≤ x6 → x6 + lr.length ≤ 3000 → lr.length < m2 → wc_Constants_reckon_18 (wcG_K m) Q m2 A1 x2 x3 x4 x5 x6 := by
      intro m2
      induction m2 with
      | zero => intro A1 lr d x2 x3 x4 x5 x6 _ _ _ _ _ _ h; omega
      | succ m2 ih =>
        intro A1 lr d x2 x3 x4 x5 x6 g hc hlr hd h0 h1 h2
        have OUT : lr = [] → Q (yget A1 33 ((yz A1 33 : Nat) - 1 : Int)) (ypop A1 33) := fun e => hq _ _ ((g.tr (vC.q g.2.2)).le (by show d + 0 ≤ ck.2.2.1; omega))
        have g2 := g.2.1
        have z1 := z.k g.t
        have b27' : yz A1 27 ≤ 3000 := by rw [g.1.z 27 rfl]; exact b27
        unfold wc_Constants_reckon_18
        unfold wc_Constants_reckon_18B
        refine ⟨fun q => by omega, fun _ => ⟨fun q => ?_, fun q => ?_⟩⟩
        · rcases hc.cs with ⟨-, e⟩ | ⟨c, t, -, e, e1, -⟩
          · exact OUT e
          · omega
        rcases hc.cs with ⟨e, -⟩ | ⟨kc, lt, rfl, e5, e1, hct⟩
        · exact absurd e q
        have hkc := hlr kc (List.mem_cons_self ..)
        have hlt : ∀ c ∈ lt, jTc A1 c ∧ c.1 + 1 ≤ m := fun c hc => hlr c (List.mem_cons_of_mem _ hc)
        have w1 := hkc.1.n1.2.2
        rw [jW_c] at hd
        rw [List.length_cons] at h1 h2
        have N : ∀ (A2 : cS) (y2 y3 y4 : Int), vC A1 A2 kc.2.2.1 → wc_Constants_reckon_386 (wcG_K m) Q (wc_Constants_reckon_18 (wcG_K m) Q m2) A2 y2 y3 y4 x5 x6 := fun A2 y2 y3 y4 g2' => by
          unfold wc_Constants_reckon_386 wc_Tree_next
          refine ⟨⟨by omega, by omega⟩, ih A2 lt (d + kc.2.2.1) _ _ _ _ (x6 + 1) (g.tr g2') ?_ (fun c hc => ⟨(hlt c hc).1.k g2'.t, (hlt c hc).2⟩) (by omega) (by omega) (by omega) (by omega)⟩
          rw [g2'.t.1 13 _ (by omega)]
          exact g2'.t.ch hct
        have N1 : ∀ (A2 : cS) (v y2 y3 y4 : Int) (k : Nat), vC A1 A2 k → k + 1 ≤ kc.2.2.1 → (yz A2 33 < 3000) ∧ wc_Constants_reckon_386 (wcG_K m) Q (wc_Constants_reckon_18 (wcG_K m) Q m2) (yadd A2 33 v) y2 y3 y4 x5 x6 := fun A2 v y2 y3 y4 k g2' hk => by
          have := g2'.2.1
          exact ⟨by omega, N _ _ _ _ ((g2'.tr (vC.p g2'.2.2 v)).le hk)⟩
        have T : ∀ y0 x8 x9, wc_Constants_reckon_317 (wcG_K m) Q (wc_Constants_reckon_18 (wcG_K m) Q m2) A1 x2 x3 x4 x5 x6 x8 x9 y0 := fun y0 x8 x9 => by
          unfold wc_Constants_reckon_317 wc_Scope_data
          have F : ∀ k y, wc_Constants_fail A1 k x8 (fun A30 => ((y0 = 0 → ((yz A30 33) < 3000) ∧ wc_Constants_reckon_386 (wcG_K m) Q (wc_Constants_reckon_18 (wcG_K m) Q m2) (yadd A30 33 0) x2 x3 x4 x5 x6) ∧ (¬ y0 = 0 → ((yz A30 33) < 3000) ∧ wc_Constants_reckon_386 (wcG_K m) Q (wc_Constants_reckon_18 (wcG_K m) Q m2) (yadd A30 33 (yget A30 29 y)) x2 x3 x4 x5 x6))) := fun k y => cs_kfail g.2.2 _ _ (fun A' f f1 => ⟨fun _ => N1 A' _ _ _ _ 0 (vC.f f f1) (by omega), fun _ => N1 A' _ _ _ _ 0 (vC.f f f1) (by omega)⟩)
          exact ⟨fun _ => ⟨fun _ => N1 A1 _ _ _ _ 0 (vC.rf g.2.2) (by omega), fun _ => N1 A1 _ _ _ _ 0 (vC.rf g.2.2) (by omega)⟩, fun _ => ⟨fun _ => F _ _, fun _ => F _ _⟩⟩
        obtain ⟨l2, y, ch2, hl2, -, hw2, -, hk2, -⟩ := hkc.1.ks
        have hkk := (jkap_le (yget A1 7 (kc.2.1 : Nat))).1
        have w2 := jW_td l2
        have FST : ∀ (W : Int → cS → Prop) (b c : Int), (∀ r A', vC A1 A' (jW (l2.take 1)) → W r A') → wcG_K m 0 (yget A1 11 x5) b c A1 W := fun W b c hW => by
          rw [e5]
          exact P0 _ _ _ z1 b27' ch2.hd (fun c hc => ⟨(hl2 c hc).1, by have := (hl2 c hc).2; omega⟩) (by omega) (by omega) g.2.2 hW
        unfold wc_Tree_data wc_Tree_place wc_Tree_kind wc_Tree_extra wc_Tree_first wc_Tree_next wc_Scope_kind wc_Scope_owner
        refine ⟨fun _ => ?_, fun _ => ?_, fun _ => ?_, fun _ => ?_, fun _ => ?_, fun _ _ _ _ _ => ?_⟩
        · exact cs_find b27' _ (fun r => ⟨fun _ => T _ _ _, fun _ => ⟨fun _ => T _ _ _, fun _ => ⟨fun _ => T _ _ _, fun _ => T _ _ _⟩⟩⟩)
        · rw [e5]
          exact P1 _ _ z1 b27' hkc.1 hkc.2 (by omega) g.2.2 (fun r A2 g2' => by
            rw [← e5]
            exact N1 A2 r _ _ _ _ g2' (by omega))
        · exact FST _ _ _ (fun r A2 g2' => N1 A2 r _ _ _ _ g2' (by omega))
        · refine FST _ _ _ (fun r A2 g2' => ⟨by have := g2'.2.1; omega, ?_⟩)
          have g3 := g2'.tr (vC.p g2'.2.2 r)
          exact cs_kfail g3.2.2 _ _ (fun A3 f f1 => N A3 _ _ _ ((g3.tr (vC.f f f1)).le (by omega)))
        · refine cs_isRelation A1 _ (fun r => ⟨fun _ => cs_work g.2.2 (by omega) _ _ _ (fun A2 g2' => N A2 _ _ _ (g2'.le (by omega))), fun _ => ⟨fun _ => cs_relate g.2.2 (by omega) _ _ _ (fun r A2 g2' => ?_), fun _ => cs_relate g.2.2 (by omega) _ _ _ (fun r A2 g2' => ?_)⟩⟩)
          · have g3 := g2'.le (by omega : 1 ≤ kc.2.2.1)
            exact ⟨fun _ => N A2 _ _ _ g3, fun _ => ⟨fun _ => N A2 _ _ _ g3, fun _ => N A2 _ _ _ g3⟩⟩
          · have g3 := g2'.le (by omega : 1 ≤ kc.2.2.1)
            exact ⟨fun _ => N A2 _ _ _ g3, fun _ => ⟨fun _ => N A2 _ _ _ g3, fun _ => N A2 _ _ _ g3⟩⟩
        · exact cs_ksingle g.2.2 (by omega) _ _ _ (fun A2 g2' => N A2 _ _ _ (g2'.le (by omega)))
    exact ⟨l1.length + 1, L _ A l1 0 _ _ _ _ 0 (vC.rf h38) ch1 (fun c hc => ⟨(hl1 c hc).1, by have := (hl1 c hc).2; omega⟩) (by omega) (by decide) (by omega) (by omega)⟩
theorem cs_K : ∀ n, vR0 n ∧ vR1 n
  | 0 => ⟨fun _ _ _ _ _ _ _ _ _ _ h _ _ _ => absurd h (by decide), fun _ _ _ _ _ _ _ _ _ _ _ h _ _ _ => absurd h (by omega)⟩
  | m + 1 => ⟨cs_reckon (cs_K m).1 (cs_K m).2, cs_choose (cs_K m).1⟩
/-- a number of the head of a chain of parts -/
theorem cs_knumber {A : cS} (x lim : Int) {Q : Int → cS → Prop} {l : List jC} (z : v0 A) (b27 : yz A 27 ≤ 3000) (ch : vHd x l) (hl : ∀ c ∈ l, jTc A c ∧ c.1 ≤ 614) (b33 : jW (l.take 1) ≤ 2990) (hq : ∀ r A', ySm A A' [33] [4, 5, 38, 39, 40] → (yv A' 38 = 0 ∨ yv A' 38 = 1) → (0 ≤ lim → 0 ≤ r ∧ r ≤ lim) → Q r A') : wc_Constants_number A x lim Q := by
  have f0 : ySm A (ycut (ypv A 38 0) 33 0) [33] [4, 5, 38, 39, 40] := (ySm.rf.pv rfl).cut rfl
  have z0 : yz (ycut (ypv A 38 0) 33 0) 33 = 0 := by
    rw [yz_cut0]
    rfl
  have t0 : vT A (ycut (ypv A 38 0) 33 0) := vT.sm f0 rfl
  unfold wc_Constants_number wc_Tree_place
  refine ⟨620, Nat.le_refl _, (cs_K 620).1 _ _ _ (z.k t0) (by rw [f0.z 27 rfl]; exact b27) ch (fun c hc => ⟨(hl c hc).1.k t0, by have := (hl c hc).2; omega⟩) (by decide) (by omega) (Or.inl rfl) (fun r A1 g => ?_)⟩
  have F : ∀ A2 r2, ySm A A2 [33] [4, 5, 38, 39, 40] → (yv A2 38 = 0 ∨ yv A2 38 = 1) → (yv A2 38 = 0 → 0 ≤ lim → 0 ≤ r2 ∧ r2 ≤ lim) → wc_Constants_number_55 Q A2 r2 := fun A2 r2 f h38 hr => by
    unfold wc_Constants_number_55
    refine ⟨fun c => ⟨fun _ => hq r2 A2 f h38 (hr c), fun c2 => absurd c c2⟩, fun c => cs_blame A2 _ _ (fun A3 f3 => ?_)⟩
    have e : yv A3 38 = yv A2 38 := f3.v 38 rfl
    exact ⟨fun c2 => absurd (e.symm.trans c2) c, fun _ => hq 0 A3 (f.tr f3 rfl rfl) (by rw [e]; exact h38) (fun h => ⟨Int.le_refl _, h⟩)⟩
  have f1 : ySm A A1 [33] [4, 5, 38, 39, 40] := f0.tr g.1 rfl rfl
  have G : wc_Constants_fail A1 6 (yget A1 8 x) (fun A44 => wc_Constants_number_55 Q A44 r) := by
    have K : ∀ A2, ySm A1 A2 [] [38, 39, 40] → yv A2 38 = 1 → wc_Constants_number_55 Q A2 r := fun A2 f2 h1 => F A2 r (f1.tr f2 rfl rfl) (Or.inr h1) (fun c => by omega)
    have k1 : wc_Constants_number_55 Q (ypv (ypv (ypv A1 38 1) 39 6) 40 (yget A1 8 x)) r := K _ (((ySm.rf.pv rfl).pv rfl).pv rfl) rfl
    unfold wc_Constants_fail
    refine ⟨fun _ => k1, fun c => ⟨fun _ => K A1 ySm.rf (by have := g.2.2; omega), fun _ => k1⟩⟩
  refine ⟨fun c => F A1 r f1 g.2.2 (fun c2 => absurd c2 c), fun c0 => ⟨fun c1 => F A1 r f1 g.2.2 (fun _ h => by omega), fun c1 => ⟨fun _ => G, fun c2 => ⟨fun c3 => F A1 r f1 g.2.2 (fun _ _ => ⟨by omega, c3⟩), fun _ => G⟩⟩⟩⟩
