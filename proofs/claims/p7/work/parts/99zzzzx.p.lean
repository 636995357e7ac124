/-! THE CLASS'S CODER: A COMMAND, SECTIONS -/
theorem cs_k4 {m : Nat} (P12 : vK12 m) (P3 : vKn 3 vAny 0 0 m) (P5 : vKn 5 (fun K => K = 90) 2 0 m) (P6 : vKn 6 (fun K => 36 ≤ K ∧ K ≤ 38) 2 0 m) (P7 : vKn 7 vAny 2 0 m) (P8 : vKn 8 vAny 0 0 m) (P9 : vKn 9 (fun K => K = 41) 2 0 m) (P10 : vKn 10 vAny 2 0 m) (P11 : vKn 11 vAny 2 0 m) : vK4 (m + 1) := fun x b c A Q l g ch hl hn R hq => by
  show wc_Coder_command (wcG_C m) A x (fun A' => Q 0 A')
  unfold wc_Coder_command wc_Tree_kind
  rcases ch.cs with ⟨rfl, rfl⟩ | ⟨kc, lt, rfl, hx, -, -⟩
  · have k0 := g.1.1
    have mu : vmu [] = 1 := rfl
    have j0 : jW (([] : List jC).take 1) = 0 := rfl
    rw [mu, j0] at R hq
    refine ⟨fun q => absurd (k0.symm.trans q) (by decide), fun q => absurd (k0.symm.trans q) (by decide), fun q => absurd (k0.symm.trans q) (by decide), fun _ _ _ => ?_⟩
    unfold wc_Coder_command_57 wc_Tree_kind
    refine cs_cemit g R (by omega) _ _ (fun r A1 f1 X1 => ?_)
    have k1 : yget A1 7 0 = 0 := (X1.t.1 7 0 (by omega)).trans k0
    have no : ∀ {v : Int}, ¬ v = 0 → ¬ yget A1 7 0 = v := fun h q => h (q.symm.trans k1)
    have nn : ∀ {P : Prop}, (yget A1 7 0 = 0 → ¬ P) → P → False := fun h p => h k1 p
    refine ⟨fun q => absurd q (by omega), fun q => absurd q (by omega), fun q => absurd q (by omega), fun q => absurd q (by omega), fun q => absurd q (by omega), fun q => absurd q (by omega), fun q => absurd q (by omega), fun _ _ _ _ _ _ _ => ?_⟩
    have e48 : (if yget A1 7 0 = 48 then (4 : Int) else 2) = 2 := if_neg (by omega)
    refine cs_leaving X1.g (R.x X1 (C' := 2) (G' := 2) (W' := 0) (by omega)) 0 (by rw [e48]; omega) (by omega) (by omega) (fun A2 X2 => ?_)
    rw [e48] at X2
    exact hq A2 ((X1.tr X2).le (by omega))
  · have hkc := hl kc (List.mem_cons_self ..)
    have mu : vmu (kc :: lt) = 0 := rfl
    have j0 : jW ((kc :: lt).take 1) = kc.2.2.1 := rfl
    have kw := hkc.1.n1.2.2
    rw [mu, j0] at R hq
    rw [hx]
    refine ⟨fun _ => hq A ((vX.rf g).le (by omega)), fun q => ?_, fun q => ?_, fun _ _ _ => ?_⟩
    · exact P3 kc.2.1 0 0 (Q := fun _ A16 => Q 0 A16) g hkc.1 hkc.2.2 (by rw [jkap2 (by omega)]; omega) trivial (R.le (by omega)) (fun A1 X1 => hq A1 (X1.le (by omega)))
    · exact P8 kc.2.1 0 0 (Q := fun _ A16 => Q 0 A16) g hkc.1 hkc.2.2 (by rw [jkap2 (by omega)]; omega) trivial (R.le (by omega)) (fun A1 X1 => hq A1 (X1.le (by omega)))
    · unfold wc_Coder_command_57 wc_Tree_kind
      refine cs_cemit g R (by omega) _ _ (fun r A1 f1 X1 => ?_)
      have R1 := R.x X1 (C' := 15 * (kc.2.2.1 : Int) - 2) (G' := 2 * (kc.2.2.1 : Int)) (W' := kc.2.2.1) (by omega)
      have t1 : jT A1 kc.1 kc.2.1 kc.2.2.1 kc.2.2.2 := hkc.1.k X1.t
      have O : ∀ A2, vX A1 A2 (15 * (kc.2.2.1 : Int) - 2) kc.2.2.1 (2 * (kc.2.2.1 : Int)) (2 * (kc.2.2.1 : Int)) ((kc.2.2.1 : Int) - 0) kc.2.2.1 kc.2.2.1 → Q 0 A2 := fun A2 X2 => hq A2 ((X1.tr X2).le (by omega))
      have hh := hkc.2.2
      refine ⟨fun q => ?_, fun q => ?_, fun q => ?_, fun q => ?_, fun q => ?_, fun q => ?_, fun q => ?_, fun _ _ _ _ _ _ _ => ?_⟩
      · exact P6 kc.2.1 0 0 (Q := fun _ A16 => Q 0 A16) X1.g t1 hh (by rw [jkap2 (by omega)]; omega) (by omega) R1 O
      · exact P7 kc.2.1 0 0 (Q := fun _ A16 => Q 0 A16) X1.g t1 hh (by rw [jkap2 (by omega)]; omega) trivial R1 O
      · exact P9 kc.2.1 0 0 (Q := fun _ A16 => Q 0 A16) X1.g t1 hh (by rw [jkap2 (by omega)]; omega) q R1 O
      · exact P10 kc.2.1 0 0 (Q := fun _ A16 => Q 0 A16) X1.g t1 hh (by rw [jkap2 (by omega)]; omega) trivial R1 O
      · exact P11 kc.2.1 0 0 (Q := fun _ A16 => Q 0 A16) X1.g t1 hh (by rw [jkap2 (by omega)]; omega) trivial R1 O
      · exact P5 kc.2.1 0 0 (Q := fun _ A16 => Q 0 A16) X1.g t1 hh (by rw [jkap2 (by omega)]; omega) q R1 O
      · obtain ⟨l2, y2, ch2, hl2, -, hw2, -, hk2, -⟩ := t1.ks
        have e2 := jkap2 (k := yget A1 7 (kc.2.1 : Nat)) (by omega)
        have vl2 := ve_le l2
        have tl2 := jW_t1 (l := l2)
        unfold wc_Tree_first
        refine P12 _ _ _ X1.g ch2 (fun c hc => ⟨(hl2 c hc).1, by have := (hl2 c hc).2; omega, by have := (hl2 c hc).2; omega⟩) (by omega) (R1.le (by omega)) (fun A2 X2 => cs_cemit X2.g (R1.x X2 (C' := 2) (G' := 0) (W' := 0) (by omega)) (by omega) _ _ (fun r3 A3 f3 X3 => O A3 ((vX.tr X2 X3).le (by omega))))
      · have e48 : (if yget A1 7 (kc.2.1 : Nat) = 48 then (4 : Int) else 2) ≤ 4 := by split <;> decide
        exact cs_leaving X1.g R1 _ (by omega) (by omega) (by omega) (fun A2 X2 => O A2 (X2.le (by omega)))
def v9 (A : cS) : List jC → Nat
  | [] => 0
  | c :: t => (if yget A 7 (c.2.1 : Nat) = 99 then c.2.2.1 else 0) + v9 A t
theorem v9_ap (A : cS) : ∀ l m : List jC, v9 A (l ++ m) = v9 A l + v9 A m
  | [], m => (Nat.zero_add _).symm
  | c :: l, m => by
    show (if yget A 7 (c.2.1 : Nat) = 99 then c.2.2.1 else 0) + v9 A (l ++ m) = (if yget A 7 (c.2.1 : Nat) = 99 then c.2.2.1 else 0) + v9 A l + v9 A m
    rw [v9_ap A l m]
    omega
theorem v9_le (A : cS) : ∀ l : List jC, v9 A l ≤ jW l
  | [] => Nat.le_refl _
  | c :: l => by
    have := v9_le A l
    rw [jW_c]
    show (if yget A 7 (c.2.1 : Nat) = 99 then c.2.2.1 else 0) + v9 A l ≤ _
    split <;> omega
theorem vX.e10 {A : cS} (g : vG A) {x : Int} (hk : yget A 7 x = 99) (v : Int) : vX A (yset A 10 x v) 0 0 0 0 0 0 0 := by
  have f : ySm A (yset A 10 x v) [10] [] := ySm.rf.set rfl
  have t : vT A (yset A 10 x v) := ⟨fun j i h => f.g j i (by rcases h with rfl | rfl | rfl | rfl | rfl <;> rfl), fun i h => by
    rw [yget_set, if_neg (fun q => h (by rw [q.1.2]; exact hk))]⟩
  obtain ⟨g1, g2, g3, g4, g5, g6, g7, g8⟩ := id g
  exact ⟨ySm.rf.tr f rfl rfl, t, ⟨g1.k t, g2, g3, g4, g5, g6, g7, g8.sm f rfl⟩, (vX.rf g).n⟩
theorem cs_sec {m : Nat} (P0 : vKn 0 vAny 0 0 m) (P2 : vKn 2 (fun K => K = 97) 0 0 m) (P4 : vK4 m) {A : cS} (x : Int) {Q : cS → Prop} {l : List jC} (g : vG A) (ch : jCh A (yget A 11 x) (jNs l)) (hps : vPs A l m) (hm : 1 ≤ m ∨ l = []) (R : vRm A (15 * (jW l : Int)) (2 * (jW l : Int)) ((jW l : Int) + 1)) (hq : ∀ A', vX A A' (15 * (jW l : Int)) (jW l) (2 * (jW l : Int)) (2 * (jW l : Int)) (jW l) ((jW l : Int) + 1) (jW l) → Q A') : wc_Coder_section (wcG_C m) A x Q := by
  have g19 := g.2.2.2.1
  have hlen := jW_len (fun c hc => (hps c hc).1)
  have hW := R.w
  unfold wc_Coder_section
  refine cs_copen g R (by omega) (fun A0 f0 X0 => ?_)
  have e19 : yv A0 19 = yv A 19 := f0.v 19 rfl
  -- the second round
  have L2 : ∀ (m2 : Nat) (A1 : cS) (l1 lr : List jC) (u : Nat) (x3 x4 : Int), l = l1 ++ lr → u + v9 A l1 = jW l1 → vX A A1 (15 * (u : Int)) (v9 A l + u) (2 * (u : Int)) (2 * (u : Int)) (v9 A l + u) (1 + u) u → jCh A1 x3 (jNs lr) → 0 ≤ x4 → x4 + lr.length ≤ 3000 → lr.length < m2 → wc_Coder_section_134 (wcG_C m) Q m2 A1 (yv A0 19) x3 x4 := by
    intro m2
    induction m2 with
    | zero => intro A1 l1 lr u x3 x4 _ _ _ _ _ _ h; omega
    | succ m2 ih =>
      intro A1 l1 lr u x3 x4 el hu X hc h0 h1 h2
      have O : lr = [] → wc_Scope_close A1 (fun A4 => Q (ypv A4 19 (yv A0 19))) := fun e => by
        refine cs_cclose X.g (fun A4 f4 X4 => ?_)
        have f5 : ySm A4 (ypv A4 19 (yv A0 19)) [] [19] := ySm.rf.pv rfl
        have e5 : yv (ypv A4 19 (yv A0 19)) 19 = yv A0 19 := rfl
        have X5 := vX.v X4.g f5 rfl (by rw [e5, e19]; exact g19) X4.g.2.2.2.2.2.1
        have e6 : l1 = l := by rw [el, e, List.append_nil]
        rw [e6] at hu
        exact hq _ (((X.tr X4).tr X5).le (by omega))
      unfold wc_Coder_section_134
      unfold wc_Coder_section_134B
      refine ⟨fun q => by omega, fun _ => ⟨fun q => ?_, fun q => ?_⟩⟩
      · rcases hc.cs with ⟨-, e⟩ | ⟨c, t, -, e, e1, -⟩
        · exact O e
        · omega
      rcases hc.cs with ⟨e, -⟩ | ⟨kc, lt, rfl, e5, e1, hct⟩
      · exact absurd e q
      have mk : kc ∈ l := by rw [el]; simp
      have hkc := hps kc mk
      have kw := hkc.1.n1.2.2
      have hm1 : 1 ≤ m := hm.elim id (fun e => by rw [e] at mk; exact absurd mk List.not_mem_nil)
      have t1 : jT A1 kc.1 kc.2.1 kc.2.2.1 kc.2.2.2 := hkc.1.k X.t
      have kk : yget A1 7 (kc.2.1 : Nat) = yget A 7 (kc.2.1 : Nat) := X.t.1 7 _ (by omega)
      have wl : jW l = jW l1 + (kc.2.2.1 + jW lt) := by rw [el, jW_ap, jW_c]
      have vl : v9 A l = v9 A l1 + ((if yget A 7 (kc.2.1 : Nat) = 99 then kc.2.2.1 else 0) + v9 A lt) := by rw [el, v9_ap]; rfl
      have vle := v9_le A lt
      rw [List.length_cons] at h1 h2
      have hkap := jkap_le (yget A1 7 (kc.2.1 : Nat))
      have N : ∀ (A2 : cS) (k : Nat), vXw A1 A2 k → k + (if yget A 7 (kc.2.1 : Nat) = 99 then kc.2.2.1 else 0) = kc.2.2.1 → wc_Coder_section_290 (wcG_C m) Q (wc_Coder_section_134 (wcG_C m) Q m2) A2 (yv A0 19) x3 x4 := fun A2 k X2 hk => by
        unfold wc_Coder_section_290 wc_Tree_next
        refine ⟨⟨by omega, by omega⟩, ih A2 (l1 ++ [kc]) lt (u + k) _ (x4 + 1) (by rw [el]; simp) ?_ ((vX.tr X X2).le (by omega)) ?_ (by omega) (by omega) (by omega)⟩
        · have j1 : jW [kc] = kc.2.2.1 := rfl
          have j2 : v9 A [kc] = (if yget A 7 (kc.2.1 : Nat) = 99 then kc.2.2.1 else 0) + 0 := rfl
          rw [jW_ap, v9_ap, j1, j2]
          omega
        · rw [X2.t.1 13 _ (by omega)]
          exact X2.t.ch hct
      have NW : ¬ yget A 7 (kc.2.1 : Nat) = 99 → ∀ (A2 : cS), vXw A1 A2 kc.2.2.1 → wc_Coder_section_290 (wcG_C m) Q (wc_Coder_section_134 (wcG_C m) Q m2) A2 (yv A0 19) x3 x4 := fun hk A2 X2 => N A2 kc.2.2.1 X2 (by rw [if_neg hk]; rfl)
      have RW : ¬ yget A 7 (kc.2.1 : Nat) = 99 → vRw A1 kc.2.2.1 := fun hk => by
        rw [if_neg hk] at vl
        exact R.x X (by omega)
      unfold wc_Tree_kind
      rw [e5, kk]
      refine ⟨fun q => ?_, fun q => ?_, fun q => ?_, fun q => ?_, fun q => ?_, fun _ _ _ _ q => ?_⟩
      · have RR := RW (by omega)
        have := cs_entrance X.g RR (by omega) (by omega) t1 hkc.2.2 (Int.le_refl _) (Q := fun A57 => wc_Coder_section_290 (wcG_C m) Q (wc_Coder_section_134 (wcG_C m) Q m2) A57 (yv A0 19) x3 x4) (fun A2 X2 => NW (by omega) A2 (X2.le (by omega)))
        rw [e5] at this
        exact this
      · have RR := RW (by omega)
        have := cs_definitions X.g RR t1 hkc.2.2 (Int.le_refl _) (Q := fun A57 => wc_Coder_section_290 (wcG_C m) Q (wc_Coder_section_134 (wcG_C m) Q m2) A57 (yv A0 19) x3 x4) (fun A2 X2 => NW (by omega) A2 (X2.le (by omega)))
        rw [e5] at this
        exact this
      · have RR := RW (by omega)
        have := P0 kc.2.1 0 0 (Q := fun _ A57 => wc_Coder_section_290 (wcG_C m) Q (wc_Coder_section_134 (wcG_C m) Q m2) A57 (yv A0 19) x3 x4) X.g t1 hkc.2.2 (by omega) trivial (vRm.le RR (by omega)) (fun A2 X2 => NW (by omega) A2 (X2.le (by omega)))
        rw [e5] at this
        exact this
      · have RR := RW (by omega)
        have := P2 kc.2.1 0 0 (Q := fun _ A57 => wc_Coder_section_290 (wcG_C m) Q (wc_Coder_section_134 (wcG_C m) Q m2) A57 (yv A0 19) x3 x4) X.g t1 hkc.2.2 (by omega) (by rw [kk]; exact q) (vRm.le RR (by omega)) (fun A2 X2 => NW (by omega) A2 (X2.le (by omega)))
        rw [e5] at this
        exact this
      · unfold wc_Tree_extra wc_Program_here
        obtain ⟨f2, X2⟩ := vX.set X.g (j := 24) (by omega) (yget A1 10 (kc.2.1 : Nat)) ((yz A1 1 : Nat) : Int)
        have := N _ 0 (X2.le (by omega)) (by rw [if_pos q]; omega)
        rw [e5] at this
        exact this
      · have RR := RW q
        have mu : vmu (kc :: lt) = 0 := rfl
        have j0 : jW ((kc :: lt).take 1) = kc.2.2.1 := rfl
        have hcc : jCh A1 (kc.2.1 : Nat) (jNs (kc :: lt)) := by rw [← e5]; exact hc
        refine P4 _ _ _ X.g hcc (fun c hc => ?_) hm1 (by rw [mu, j0]; exact vRm.le RR (by omega)) (fun A2 X2 => ?_)
        · exact (hps.t X.t) c (by rw [el]; exact List.mem_append.mpr (Or.inr hc))
        · rw [mu, j0] at X2
          have := NW q A2 (X2.le (by omega))
          rw [e5] at this
          exact this
  -- the labels first
  have L1 : ∀ (m2 : Nat) (A1 : cS) (l1 lr : List jC) (x3 x4 : Int), l = l1 ++ lr → vX A A1 0 (v9 A l1) 0 0 (v9 A l1) 1 0 → jCh A1 x3 (jNs lr) → 0 ≤ x4 → x4 + lr.length ≤ 3000 → lr.length < m2 → wc_Coder_section_24 (wcG_C m) Q m2 A1 x (yv A0 19) x3 x4 := by
    intro m2
    induction m2 with
    | zero => intro A1 l1 lr x3 x4 _ _ _ _ _ h; omega
    | succ m2 ih =>
      intro A1 l1 lr x3 x4 el X hc h0 h1 h2
      have vle := v9_le A l
      have vap : v9 A l = v9 A l1 + v9 A lr := by rw [el, v9_ap]
      have O : lr = [] → ∃ n, wc_Coder_section_134 (wcG_C m) Q n A1 (yv A0 19) (yget A1 11 x) 0 := fun e => by
        refine ⟨l.length + 1, L2 _ A1 [] l 0 _ 0 rfl rfl (X.le ?_) ?_ (by decide) (by omega) (by omega)⟩
        · omega
        · rw [X.t.1 11 _ (by omega)]
          exact X.t.ch ch
      unfold wc_Coder_section_24
      unfold wc_Coder_section_24B
      unfold wc_Tree_first
      refine ⟨fun q => by omega, fun _ => ⟨fun q => ?_, fun q => ?_⟩⟩
      · rcases hc.cs with ⟨-, e⟩ | ⟨c, t, -, e, e1, -⟩
        · exact O e
        · omega
      rcases hc.cs with ⟨e, -⟩ | ⟨kc, lt, rfl, e5, e1, hct⟩
      · exact absurd e q
      have mk : kc ∈ l := by rw [el]; simp
      have kw := (hps kc mk).1.n1.2.2
      have kk : yget A1 7 x3 = yget A 7 (kc.2.1 : Nat) := by rw [e5]; exact X.t.1 7 _ (by omega)
      have vc : v9 A (kc :: lt) = (if yget A 7 (kc.2.1 : Nat) = 99 then kc.2.2.1 else 0) + v9 A lt := rfl
      have vc1 : v9 A [kc] = (if yget A 7 (kc.2.1 : Nat) = 99 then kc.2.2.1 else 0) + 0 := rfl
      rw [List.length_cons] at h1 h2
      unfold wc_Tree_kind wc_Tree_next wc_Tree_setExtra wc_Tree_data wc_Tree_place
      refine ⟨fun k99 => ?_, fun k99 => ?_⟩
      · refine ⟨⟨by omega, by omega⟩, ih A1 (l1 ++ [kc]) lt _ (x4 + 1) (by rw [el]; simp) (X.le ?_) hct (by omega) (by omega) (by omega)⟩
        rw [v9_ap, vc1]
        omega
      · have X2 := vX.e10 X.g k99 ((yz A1 24 : Nat) : Int)
        have k99' : yget A 7 (kc.2.1 : Nat) = 99 := kk.symm.trans k99
        rw [if_pos k99'] at vc vc1
        have Y2 := X.tr X2
        refine cs_declare X2.g (R.x Y2 (C' := 0) (G' := 0) (W' := 1) (by omega)) (by decide) _ _ _ _ _ (fun r A3 _ _ f3 X3 => ?_)
        have Y3 := Y2.tr X3
        have R3 := R.x Y3 (C' := 0) (G' := 0) (W' := 0) (by omega)
        have f4 : ySm A3 (yadd A3 24 0) [24] [] := ySm.rf.add rfl
        have z4 : yz (yadd A3 24 0) 24 = yz A3 24 + 1 := rfl
        have X4 : vX A3 (yadd A3 24 0) 0 1 0 0 0 0 0 := by
          refine ⟨ySm.rf.tr f4 rfl rfl, vT.sm f4 rfl, X3.g.sm f4 rfl rfl, ?_⟩
          unfold vN
          rw [z4, f4.z 1 rfl, f4.z 26 rfl, f4.z 25 rfl, f4.z 27 rfl, f4.z 32 rfl, f4.v 23 rfl, f4.v 17 rfl, f4.z 2 rfl, f4.z 5 rfl]
          omega
        have Z := (X2.tr X3).tr X4
        refine ⟨by unfold vRm at R3; omega, ⟨by omega, by omega⟩, ih _ (l1 ++ [kc]) lt _ (x4 + 1) (by rw [el]; simp) ((X.tr Z).le ?_) ?_ (by omega) (by omega) (by omega)⟩
        · rw [v9_ap, vc1]
          omega
        · rw [Z.t.1 13 _ (by omega)]
          exact Z.t.ch hct
  unfold wc_Tree_first
  rw [← e19]
  refine ⟨l.length + 1, L1 (l.length + 1) A0 [] l _ 0 rfl (X0.le (by show _ ∧ _; have : v9 A [] = 0 := rfl; omega)) ?_ (by decide) (by omega) (by omega)⟩
  rw [X0.t.1 11 _ (by omega)]
  exact X0.t.ch ch
