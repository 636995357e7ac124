/-! THE CLASS'S CODER: NAMES, SIGNS, NUMBERS -/
theorem cs_cnumber {A : cS} (g : vG A) (x lim : Int) {Q : Int → cS → Prop} {l : List jC} (b27 : yz A 27 ≤ 3000) (ch : vHd x l) (hl : ∀ c ∈ l, jTc A c ∧ c.1 ≤ 614) (b33 : jW (l.take 1) ≤ 2990) (hq : ∀ r A', ySm A A' [33] [4, 5, 38, 39, 40] → vX A A' 0 0 0 0 0 0 0 → (yv A' 38 = 0 ∨ yv A' 38 = 1) → (0 ≤ lim → 0 ≤ r ∧ r ≤ lim) → Q r A') : wc_Constants_number A x lim Q := cs_knumber x lim g.1 b27 ch hl b33 (fun r A' f h hr => hq r A' f (vX.z g f rfl rfl) h hr)
theorem jW_t1 {l : List jC} : jW (l.take 1) ≤ jW l := by
  have := jW_td l
  omega
theorem jW_mem {l : List jC} {c : jC} (h : c ∈ l) : c.2.2.1 ≤ jW l := by
  induction l with
  | nil => exact absurd h List.not_mem_nil
  | cons a l ih =>
    rw [jW_c]
    rcases List.mem_cons.mp h with rfl | h
    · omega
    · have := ih h
      omega
theorem cs_ctable {A : cS} (g : vG A) {C G W : Int} (R : vRm A C G W) (hC : 2 ≤ C) {h k w : Nat} {S : Nat → Prop} (t : jT A h k w S) (hh : h ≤ 614) (hw : (w : Int) ≤ W) {Q : cS → Prop} (hq : ∀ A', vX A A' 2 0 0 0 0 0 0 → Q A') : wc_Coder_table A k Q := by
  obtain ⟨l, x, ch, hl, -, hwl, -, -, -⟩ := t.ks
  have hlen := jW_len (fun c hc => (hl c hc).1)
  have rw' := R.w
  unfold wc_Coder_table wc_Tree_data wc_Tree_first
  have L : ∀ (m : Nat) (A1 : cS) (lr : List jC) (x2 x3 x4 : Int), vX A A1 0 0 0 0 0 0 0 → jCh A1 x3 (jNs lr) → (∀ c ∈ lr, jTc A1 c ∧ c.1 ≤ 614) → jW lr ≤ 2990 → 0 ≤ x4 → x4 + lr.length ≤ 3000 → lr.length < m → wc_Coder_table_21 Q m A1 x2 x3 x4 := by
    intro m
    induction m with
    | zero => intro A1 lr x2 x3 x4 _ _ _ _ _ _ h; omega
    | succ m ih =>
      intro A1 lr x2 x3 x4 g1 hc hlr hd h0 h1 h2
      have F : wc_Coder_emit A1 1 x2 (fun r3 A4 => Q A4) := cs_cemit g1.g (R.x g1 (C' := C) (G' := G) (W' := W) (by omega)) hC _ _ (fun r A2 f2 x2 => hq _ ((g1.tr x2).le (by omega)))
      unfold wc_Coder_table_21
      unfold wc_Coder_table_21B
      refine ⟨fun q => by omega, fun _ => ⟨fun _ => F, fun q => ?_⟩⟩
      rcases hc.cs with ⟨e, -⟩ | ⟨kc, lt, rfl, e5, e1, hct⟩
      · exact absurd e q
      rw [List.length_cons] at h1 h2
      intro z23 _ _
      have R1 := R.x g1 (C' := C) (G' := G) (W' := W) (by omega)
      refine cs_cnumber g1.g _ _ (vG.b27 R1 (by omega)) hc.hd hlr (Nat.le_trans jW_t1 hd) (fun r A2 f2 x2' _ _ => ?_)
      obtain ⟨f3, x3'⟩ := vX.set x2'.g (j := 2) (Or.inl rfl) z23 r
      have X := (x2'.tr x3')
      unfold wc_Program_setWord wc_Tree_next
      refine ⟨⟨by omega, by omega⟩, ih _ lt x2 _ (x4 + 1) ((g1.tr X).le (by omega)) ?_ (fun c hc => ⟨(hlr c (List.mem_cons_of_mem _ hc)).1.k X.t, (hlr c (List.mem_cons_of_mem _ hc)).2⟩) (by rw [jW_c] at hd; omega) (by omega) (by omega) (by omega)⟩
      rw [X.t.1 13 _ (by omega)]
      exact X.t.ch hct
  exact ⟨l.length + 1, L _ A l _ _ 0 (vX.rf g) ch (fun c hc => ⟨(hl c hc).1, by have := (hl c hc).2; omega⟩) (by omega) (by decide) (by omega) (by omega)⟩
theorem cs_csign {A : cS} (g : vG A) {C G W : Int} (R : vRm A C G W) (hC : 2 ≤ C) (a b : Int) {Q : Int → cS → Prop} (hq : ∀ r A', vX A A' 2 0 0 0 0 0 0 → Q r A') : wc_Coder_sign A a b Q := by
  unfold wc_Coder_sign wc_Tree_data wc_Tree_extra
  refine ⟨fun _ z _ _ => cs_cemit g R hC _ _ (fun r A1 f1 x1 => cs_isRelation A1 _ (fun r2 => ⟨fun _ => cs_land x1.g _ (fun A2 f2 x2 => hq _ _ ((x1.tr x2).le (by omega))), fun _ => hq _ _ x1⟩)), fun _ z _ _ => cs_cemit g R hC _ _ (fun r A1 f1 x1 => hq _ _ x1)⟩
theorem cs_cname {A : cS} (g : vG A) {C G W : Int} (R : vRm A C G W) (hC : 2 ≤ C) (hW : 0 ≤ W) (a b c : Int) {Q : cS → Prop} (hq : ∀ A', vX A A' 2 0 0 0 0 0 0 → Q A') : wc_Coder_name A a b c Q := by
  have B : ∀ {A1 : cS} {x : Int}, vX A A1 x 0 0 0 0 0 0 → x ≤ 2 → ∀ u v, wc_Program_blame A1 u v (fun A38 => Q A38) := fun x1 hx u v => cs_cblame x1.g _ _ (fun A' f x' => hq A' ((x1.tr x').le (by omega)))
  have O : ∀ {A1 : cS} {x : Int}, vX A A1 x 0 0 0 0 0 0 → x ≤ 2 → Q A1 := fun x1 hx => hq _ (x1.le (by omega))
  have U : ∀ {A1 : cS} {x : Int}, vX A A1 x 0 0 0 0 0 0 → x ≤ 2 → wc_Coder_unfit A1 b c (fun A170 => Q A170) := fun x1 hx => cs_unfit x1.g _ _ (fun A' f x' => hq A' ((x1.tr x').le (by omega)))
  unfold wc_Coder_name wc_Tree_data wc_Tree_place wc_Scope_kind wc_Scope_data wc_Scope_owner
  refine cs_find (vG.b27 R hW) _ (fun r => ⟨fun _ => ⟨fun _ => ⟨fun _ => cs_cemit g R hC _ _ (fun r A1 f1 x1 => O x1 (by omega)), fun _ => cs_cemit g R hC _ _ (fun r A1 f1 x1 => O x1 (by omega))⟩, fun _ => ⟨fun _ => cs_cemit g R hC _ _ (fun r A1 f1 x1 => ⟨fun _ => O x1 (by omega), fun _ => B x1 (by omega) _ _⟩), fun _ => cs_cemit g R hC _ _ (fun r A1 f1 x1 => ⟨fun _ => O x1 (by omega), fun _ => B x1 (by omega) _ _⟩)⟩, fun _ => cs_cblame g _ _ (fun A' f x' => U x' (by omega)), fun _ _ _ => cs_cemit g R hC _ _ (fun r A1 f1 x1 => U x1 (by omega))⟩, fun _ => B (vX.rf g) (by omega) _ _⟩)
theorem cs_csingle {A : cS} (g : vG A) {C G W : Int} (R : vRm A C G W) (hC : 2 ≤ C) (hW : 0 ≤ W) (a b c : Int) {Q : cS → Prop} (hq : ∀ A', vX A A' 2 0 0 0 0 0 0 → Q A') : wc_Coder_single A a b c Q := by
  have S : ∀ {A1 : cS} {x : Int}, vX A A1 x 0 0 0 0 0 0 → x ≤ 2 → ∀ y, wc_Coder_single_203 Q A1 b c y := fun x1 hx y => by
    unfold wc_Coder_single_203
    exact ⟨fun _ => hq _ (x1.le (by omega)), fun _ => cs_unfit x1.g _ _ (fun A' f x' => hq A' ((x1.tr x').le (by omega)))⟩
  have E : ∀ p q y, wc_Coder_emit A p q (fun r A1 => wc_Coder_single_203 Q A1 b c y) := fun p q y => cs_cemit g R hC _ _ (fun r A1 f1 x1 => S x1 (by omega) y)
  have S0 : ∀ y, wc_Coder_single_203 Q A b c y := fun y => S (vX.rf g) (by omega) y
  have T : ∀ y0, wc_Coder_single_9 Q A a b c y0 := fun y0 => by
    unfold wc_Coder_single_9 wc_Tree_kind wc_Tree_data wc_Coder_unary
    exact ⟨fun _ => cs_cname g R hC hW _ _ _ (fun A' x' => S x' (by omega) _), fun _ => E _ _ _, fun _ => ⟨fun _ => E _ _ _, fun _ => E _ _ _⟩, fun _ => ⟨fun _ => ⟨fun _ => S0 _, fun _ => S0 _⟩, fun _ => cs_cemit g R hC _ _ (fun r A1 f1 x1 => ⟨fun _ => S x1 (by omega) _, fun _ => S x1 (by omega) _⟩)⟩, fun _ => ⟨fun _ => S0 _, fun _ => E _ _ _⟩, fun _ => ⟨fun _ => ⟨fun _ => S0 _, fun _ => E _ _ _⟩, fun _ => E _ _ _⟩, fun _ _ _ _ _ _ => S0 _⟩
  unfold wc_Coder_single
  exact ⟨fun _ => T _, fun _ => T _⟩
theorem cs_routineName {A : cS} (g : vG A) {C G W : Int} (R : vRm A C G W) (hW : 1 ≤ W) (a : Int) {Q : cS → Prop} (hq : ∀ A', vX A A' 0 0 0 0 1 0 0 → Q A') : wc_Coder_routineName A a Q := by
  unfold wc_Coder_routineName wc_Tree_extra wc_Tree_data wc_Tree_place wc_Program_home wc_Scope_owner wc_Scope_setOwner wc_Scope_data wc_Scope_place wc_Program_setWord
  have T : ∀ {A1 : cS}, vX A A1 0 0 0 0 0 0 0 → ∀ r y z, Q (yset (yset A1 30 r y) 2 (yget (yset A1 30 r y) 29 r) z) := fun x1 r y z => by
    obtain ⟨f2, x2⟩ := vX.set x1.g (j := 30) (by omega) r y
    obtain ⟨f3, x3⟩ := vX.set x2.g (j := 2) (by omega) (yget (yset _ 30 r y) 29 r) z
    exact hq _ (((x1.tr x2).tr x3).le (by omega))
  refine ⟨fun _ => cs_find (vG.b27 R (by omega)) _ (fun r => ⟨fun _ z _ _ => T (vX.rf g) r _ z, fun _ => cs_cblame g _ _ (fun A1 f1 x1 z _ _ => T x1 r _ z)⟩), fun _ => cs_declare g R hW _ _ _ _ _ (fun r A1 _ _ f1 x1 => hq A1 x1)⟩
theorem cs_parameters {A : cS} (g : vG A) {h k w : Nat} {S : Nat → Prop} (t : jT A h k w S) (b27 : yz A 27 + w ≤ 3000) {Q : Int → cS → Prop} (hq : ∀ r A' l l1 l2, l = l1 ++ l2 → (∀ c ∈ l, jTc A' c ∧ c.1 + jkap (yget A 7 k) ≤ h) → jW l + 1 ≤ w → jCh A' r (jNs l2) → vX A A' 0 0 0 0 (jW l1) 0 0 → Q r A') : wc_Coder_parameters A k Q := by
  obtain ⟨l, x, ch, hl, -, hwl, -, -, -⟩ := t.ks
  have L : ∀ (m : Nat) (A1 : cS) (l1 l2 : List jC) (x2 x3 : Int), l = l1 ++ l2 → vX A A1 0 0 0 0 (jW l1) 0 0 → jCh A1 x2 (jNs l2) → yv A1 19 = 2 + x3 → 0 ≤ x3 → x3 ≤ 20 → 20 - x3 < m → wc_Coder_parameters_16 Q m A1 x2 x3 := by
    intro m
    induction m with
    | zero => intro A1 l1 l2 x2 x3 _ _ _ _ _ _ h; omega
    | succ m ih =>
      intro A1 l1 l2 x2 x3 el g1 hc h19 h0 h1 h2
      have F : wc_Program_setBegin (ypv A1 20 (yv A1 19)) (yv A1 21) ((yv A1 19) - 2) (fun A17 => Q x2 A17) := by
        unfold wc_Program_setBegin wc_Program_here
        have f2 : ySm A1 (ypv A1 20 (yv A1 19)) [] [20] := ySm.rf.pv rfl
        have x2' := vX.zv g1.g f2 rfl
        obtain ⟨f3, x3'⟩ := vX.set x2'.g (j := 4) (by omega) (yv A1 21) ((yz (ypv A1 20 (yv A1 19)) 1 : Nat) : Int)
        obtain ⟨f4, x4'⟩ := vX.set x3'.g (j := 6) (by omega) (yv A1 21) ((yv A1 19) - 2)
        have X := (((g1.tr x2').tr x3').tr x4')
        exact hq _ _ l l1 l2 el (fun c hc => ⟨(hl c hc).1.k X.t, (hl c hc).2⟩) (by omega) (((x2'.tr x3').tr x4').t.ch hc) (X.le (by omega))
      unfold wc_Coder_parameters_16
      unfold wc_Coder_parameters_16B
      unfold wc_Tree_next wc_Tree_data wc_Tree_place
      refine ⟨fun _ => ⟨⟨by omega, by omega⟩, F⟩, fun _ => ⟨fun _ => ⟨⟨by omega, by omega⟩, F⟩, fun q => ?_⟩⟩
      rcases hc.cs with ⟨e, -⟩ | ⟨kc, lt, rfl, e5, e1, hct⟩
      · rw [e, g1.g.1.2.2.2] at q
        exact absurd rfl q
      have wl : jW l1 + kc.2.2.1 + jW lt = jW l := by rw [el, jW_ap, jW_c]; omega
      have kw := (hl kc (by rw [el]; simp)).1.n1.2.2
      have n1 := g1.n
      unfold vN at n1
      refine cs_declare1 g1.g (by omega) _ _ _ _ _ (fun r A2 _ _ f2 x2' => ?_)
      have e19 : yv A2 19 = yv A1 19 := f2.v 19 rfl
      have f3 : ySm A2 (ypv A2 19 ((yv A2 19) + 1)) [] [19] := ySm.rf.pv rfl
      have e193 : yv (ypv A2 19 ((yv A2 19) + 1)) 19 = yv A2 19 + 1 := rfl
      have x3' := vX.v x2'.g f3 rfl (by rw [e193]; omega) x2'.g.2.2.2.2.2.1
      have X := x2'.tr x3'
      refine ⟨⟨by omega, by omega⟩, ⟨by omega, by omega⟩, ih _ (l1 ++ [kc]) lt _ (x3 + 1) (by rw [el]; simp) ((g1.tr X).le ?_) ?_ (by omega) (by omega) (by omega) (by omega)⟩
      · rw [jW_ap]
        show _ ∧ _
        have : jW [kc] = kc.2.2.1 := rfl
        omega
      · rw [X.t.1 13 _ (by omega)]
        exact X.t.ch hct
  unfold wc_Coder_parameters wc_Tree_first
  have f0 : ySm A (ypv A 19 2) [] [19] := ySm.rf.pv rfl
  have e0 : yv (ypv A 19 2) 19 = 2 := rfl
  have x0 := vX.v g f0 rfl (by rw [e0]; decide) g.2.2.2.2.2.1
  exact ⟨21, L 21 _ [] l _ 0 rfl (x0.le (by omega)) (x0.t.ch ch) (by omega) (by decide) (by decide) (by decide)⟩
theorem cs_entrance {A : cS} (g : vG A) {C G W : Int} (R : vRm A C G W) (hC : 4 ≤ C) (hW : 1 ≤ W) {h k w : Nat} {S : Nat → Prop} (t : jT A h k w S) (hh : h ≤ 614) (hw : (w : Int) ≤ W) {Q : cS → Prop} (hq : ∀ A', vX A A' 4 0 0 2 0 0 0 → Q A') : wc_Coder_entrance A k Q := by
  obtain ⟨l, x, ch, hl, -, hwl, -, -, -⟩ := t.ks
  have rw' := R.w
  have H : ∀ {A1 : cS}, vX A A1 0 0 0 0 0 0 0 → wc_Program_here A1 (fun r43 A44 => Q (ypv A44 18 r43)) := fun {A1} x1 => by
    unfold wc_Program_here
    exact hq _ ((x1.tr (vX.zv x1.g (ySm.rf.pv rfl : ySm A1 (ypv A1 18 ((yz A1 1 : Nat) : Int)) [] [18]) rfl)).le (by omega))
  have L : ∀ (m : Nat) (A1 : cS) (x2 x3 x4 : Int), vX A A1 0 0 0 0 0 0 0 → 0 ≤ x4 → x4 ≤ 6002 → 6004 - x4 < m → wc_Coder_entrance_86 Q m A1 x2 x3 x4 := by
    intro m
    induction m with
    | zero => intro A1 x2 x3 x4 _ _ _ h; omega
    | succ m ih =>
      intro A1 x2 x3 x4 x1 h0 h1 h2
      have R1 := R.x x1 (C' := C) (G' := G) (W' := W) (by omega)
      unfold vRm at R1
      unfold wc_Coder_entrance_86
      unfold wc_Coder_entrance_86B
      unfold wc_Program_here wc_Tree_place
      refine ⟨fun _ => ⟨by omega, ?_⟩, fun _ => ⟨fun _ => ⟨⟨by omega, by omega⟩, ih A1 _ _ _ x1 (by omega) (by omega) (by omega)⟩, fun _ => cs_cblame x1.g _ _ (fun A2 f2 x2' => ⟨⟨by omega, by omega⟩, ih A2 _ _ _ ((x1.tr x2').le (by omega)) (by omega) (by omega) (by omega)⟩)⟩⟩
      have z1 : yz (yadd A1 26 x3) 26 = yz A1 26 + 1 := rfl
      refine ⟨by omega, hq _ ((x1.tr (c' := 4) (l' := 0) (g' := 0) (k' := 2) (s' := 0) (m' := 0) (a' := 0) ?_).le (by omega))⟩
      have f2 : ySm A1 (yadd (yadd A1 26 x3) 26 ((yz (yadd A1 26 x3) 1 : Nat) : Int)) [26] [] := (ySm.rf.add rfl).add rfl
      have z2 : yz (yadd (yadd A1 26 x3) 26 ((yz (yadd A1 26 x3) 1 : Nat) : Int)) 26 = yz A1 26 + 1 + 1 := rfl
      refine ⟨ySm.rf.tr f2 rfl rfl, vT.sm f2 rfl, x1.g.sm f2 rfl rfl, ?_⟩
      unfold vN
      rw [z2, f2.z 1 rfl, f2.z 24 rfl, f2.z 25 rfl, f2.z 27 rfl, f2.z 32 rfl, f2.v 23 rfl, f2.v 17 rfl, f2.z 2 rfl, f2.z 5 rfl]
      omega
  unfold wc_Coder_entrance wc_Tree_kind wc_Tree_first wc_Tree_place wc_Constants_hasFailed
  refine ⟨fun _ => ?_, fun _ => ⟨fun _ => H (vX.rf g), fun _ => cs_cblame g _ _ (fun A1 f1 x1 => H x1)⟩⟩
  refine cs_cnumber g _ _ (vG.b27 R (by omega)) ch.hd (fun c hc => ⟨(hl c hc).1, by have := (hl c hc).2; omega⟩) (by have := jW_t1 (l := l); omega) (fun r A1 f1 x1 h38 _ => ⟨h38, fun _ => ?_, fun _ => hq A1 (x1.le (by omega))⟩)
  have g17 := x1.g.2.2.1
  exact ⟨6005, L _ A1 _ _ _ x1 g17.1 (by omega) (by omega)⟩
theorem cs_definitions {A : cS} (g : vG A) {C G W : Int} (R : vRm A C G W) {h k w : Nat} {S : Nat → Prop} (t : jT A h k w S) (hh : h ≤ 614) (hw : (w : Int) ≤ W) {Q : cS → Prop} (hq : ∀ A', vX A A' 0 0 0 0 ((w : Int) - 1) 0 0 → Q A') : wc_Coder_definitions A k Q := by
  obtain ⟨l, x, ch, hl, -, hwl, -, -, -⟩ := t.ks
  have hlen := jW_len (fun c hc => (hl c hc).1)
  have rw' := R.w
  -- the numbers
  have L2 : ∀ (m : Nat) (A1 : cS) (lr : List jC) (x2 x3 x5 x6 : Int), vX A A1 0 0 0 0 (jW l) 0 0 → jCh A1 x3 (jNs lr) → (∀ c ∈ lr, jTc A1 c ∧ c.1 ≤ 614 ∧ c ∈ l) → -1 ≤ x5 → x5 ≤ 3000 → 0 ≤ x6 → x6 + lr.length ≤ 3000 → lr.length < m → wc_Coder_definitions_128 Q m A1 x2 x3 x5 x6 := by
    intro m
    induction m with
    | zero => intro A1 lr x2 x3 x5 x6 _ _ _ _ _ _ _ h; omega
    | succ m ih =>
      intro A1 lr x2 x3 x5 x6 g1 hc hlr h3 h4 h0 h1 h2
      have O : Q A1 := hq A1 (g1.le (by omega))
      unfold wc_Coder_definitions_128
      unfold wc_Coder_definitions_128B
      refine ⟨fun _ => O, fun _ => ⟨fun _ => O, fun q => ?_⟩⟩
      rcases hc.cs with ⟨e, -⟩ | ⟨kc, lt, rfl, e5, e1, hct⟩
      · exact absurd e q
      rw [List.length_cons] at h1 h2
      have hkc := hlr kc (List.mem_cons_self ..)
      obtain ⟨l2, y, ch2, hl2, -, hw2, -, hk2, -⟩ := hkc.1.ks
      have hkk := (jkap_le (yget A1 7 (kc.2.1 : Nat))).1
      have kw := jW_mem hkc.2.2
      have R1 := R.x g1 (C' := C) (G' := G) (W' := 0) (by omega)
      have b33 : jW (l2.take 1) ≤ 2990 := by have := jW_t1 (l := l2); omega
      have N : ∀ A2, vX A1 A2 0 0 0 0 0 0 0 → (zR (x6 + 1)) ∧ wc_Coder_definitions_128 Q m A2 x2 (yget A2 13 x3) x5 (x6 + 1) := fun A2 g2 => by
        refine ⟨⟨by omega, by omega⟩, ih A2 lt x2 _ x5 (x6 + 1) ((g1.tr g2).le (by omega)) ?_ (fun c hc => ⟨(hlr c (List.mem_cons_of_mem _ hc)).1.k g2.t, (hlr c (List.mem_cons_of_mem _ hc)).2⟩) h3 h4 (by omega) (by omega) (by omega)⟩
        rw [g2.t.1 13 _ (by omega)]
        exact g2.t.ch hct
      have F : ∀ lim, wc_Coder_definitions_167 Q (wc_Coder_definitions_128 Q m) A1 x2 x3 x5 x6 lim (yget A1 11 x3) := fun lim => by
        unfold wc_Coder_definitions_167 wc_Scope_setData wc_Scope_setOwner wc_Tree_next wc_Tree_extra wc_Program_setWord
        rw [e5]
        refine cs_cnumber g1.g _ _ (vG.b27 R1 (by omega)) ch2.hd (fun c hc => ⟨(hl2 c hc).1, by have := (hl2 c hc).2; omega⟩) b33 (fun r A2 f2 x2' _ _ => ?_)
        rw [← e5]
        refine ⟨fun _ => ⟨⟨by omega, by omega⟩, ?_⟩, fun _ => ?_⟩
        · obtain ⟨f3, x3'⟩ := vX.set x2'.g (j := 29) (by omega) (x5 + x6) r
          obtain ⟨f4, x4'⟩ := vX.set x3'.g (j := 30) (by omega) (x5 + x6) 1
          exact ⟨fun _ => N _ ((x2'.tr x3').le (by omega)), fun _ => N _ (((x2'.tr x3').tr x4').le (by omega))⟩
        · obtain ⟨f3, x3'⟩ := vX.set x2'.g (j := 2) (by omega) (yget A2 10 x3) r
          obtain ⟨f4, x4'⟩ := vX.set x3'.g (j := 30) (by omega) (x5 + x6) 1
          exact ⟨fun _ => N _ ((x2'.tr x3').le (by omega)), fun _ => ⟨⟨by omega, by omega⟩, N _ (((x2'.tr x3').tr x4').le (by omega))⟩⟩
      unfold wc_Tree_first
      exact ⟨fun _ => F _, fun _ => F _⟩
  have S2 : ∀ (A1 : cS) (x2 x5 : Int), vX A A1 0 0 0 0 (jW l) 0 0 → -1 ≤ x5 → x5 ≤ 3000 → ∃ n, wc_Coder_definitions_128 Q n A1 x2 (yget A1 11 (k : Nat)) x5 0 := fun A1 x2 x5 g1 h3 h4 => by
    refine ⟨l.length + 1, L2 _ A1 l x2 _ x5 0 g1 ?_ (fun c hc => ⟨(hl c hc).1.k g1.t, by have := (hl c hc).2; omega, hc⟩) h3 h4 (by decide) (by omega) (by omega)⟩
    rw [g1.t.1 11 _ (by omega)]
    exact g1.t.ch ch
  -- the names
  have L : ∀ (m : Nat) (A1 : cS) (l1 lr : List jC) (x2 x3 x5 x6 : Int), l = l1 ++ lr → vX A A1 0 0 0 0 (jW l1) 0 0 → jCh A1 x3 (jNs lr) → -1 ≤ x5 → x5 ≤ 3000 → 0 ≤ x6 → x6 + lr.length ≤ 3000 → lr.length < m → wc_Coder_definitions_27 Q m A1 k x2 x3 x5 x6 := by
    intro m
    induction m with
    | zero => intro A1 l1 lr x2 x3 x5 x6 _ _ _ _ _ _ _ h; omega
    | succ m ih =>
      intro A1 l1 lr x2 x3 x5 x6 el g1 hc h3 h4 h0 h1 h2
      have wl : jW l1 + jW lr = jW l := by rw [el, jW_ap]
      have O := S2 A1 x2 x5 (g1.le (by omega)) h3 h4
      unfold wc_Coder_definitions_27
      unfold wc_Coder_definitions_27B
      unfold wc_Tree_first
      refine ⟨fun _ => O, fun _ => ⟨fun _ => O, fun q => ?_⟩⟩
      rcases hc.cs with ⟨e, -⟩ | ⟨kc, lt, rfl, e5, e1, hct⟩
      · exact absurd e q
      rw [List.length_cons] at h1 h2
      rw [jW_c] at wl
      have kw := (hl kc (by rw [el]; simp)).1.n1.2.2
      have F : ∀ y0, wc_Coder_definitions_49 Q (wc_Coder_definitions_27 Q m) A1 k x2 x3 x5 x6 y0 := fun y0 => by
        unfold wc_Coder_definitions_49 wc_Tree_data wc_Tree_extra wc_Tree_place wc_Tree_next
        refine cs_declare g1.g (R.x g1 (C' := C) (G' := G) (W' := 1) (by omega)) (by omega) _ _ _ _ _ (fun r A2 r0 r1 f2 x2' => ?_)
        have N : ∀ y5, -1 ≤ y5 → y5 ≤ 3000 → (zR (x6 + 1)) ∧ wc_Coder_definitions_27 Q m A2 k x2 (yget A2 13 x3) y5 (x6 + 1) := fun y5 h5 h6 => by
          refine ⟨⟨by omega, by omega⟩, ih A2 (l1 ++ [kc]) lt x2 _ y5 (x6 + 1) (by rw [el]; simp) ((g1.tr x2').le ?_) ?_ h5 h6 (by omega) (by omega) (by omega)⟩
          · rw [jW_ap]
            have : jW [kc] = kc.2.2.1 := rfl
            omega
          · rw [x2'.t.1 13 _ (by omega)]
            exact x2'.t.ch hct
        exact ⟨fun _ => N _ h3 h4, fun _ => N _ (by omega) r1⟩
      exact ⟨fun _ => F _, fun _ => F _⟩
  unfold wc_Coder_definitions wc_Tree_kind wc_Tree_first
  exact ⟨l.length + 1, L _ A [] l _ _ _ 0 rfl ((vX.rf g).le (by show _ ∧ _; have : jW [] = 0 := rfl; omega)) ch (by decide) (by decide) (by decide) (by omega) (by omega)⟩
