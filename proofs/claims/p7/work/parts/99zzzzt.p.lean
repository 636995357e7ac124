/-! THE CLASS'S CODER: EXPRESSIONS -/
def vmu : List jC → Int
  | [] => 1
  | _ :: _ => 0
def ve : List jC → Nat
  | [] => 0
  | c :: _ => c.2.2.1 - 1
def vs (l : List jC) : Nat := (l.map fun c => c.2.2.1 - 1).sum
theorem vs_c (c : jC) (t : List jC) : vs (c :: t) = c.2.2.1 - 1 + vs t := rfl
theorem ve_le (l : List jC) : ve l ≤ jW (l.take 1) := by
  cases l with
  | nil => exact Nat.le_refl _
  | cons c t =>
    show c.2.2.1 - 1 ≤ c.2.2.1 + 0
    omega
theorem vs_ve (l : List jC) : ve l + vs (l.drop 1) = vs l := by
  cases l with
  | nil => rfl
  | cons c t => rfl
theorem vs_len {A : cS} : ∀ {l : List jC}, (∀ c ∈ l, jTc A c) → vs l + l.length = jW l
  | [], _ => rfl
  | c :: l, h => by
    have h1 := (h c (List.mem_cons_self ..)).n1.2.2
    have h2 := vs_len (l := l) (fun x hx => h x (List.mem_cons_of_mem _ hx))
    rw [jW_c, vs_c, List.length_cons]
    omega
theorem vmu_01 (l : List jC) : 0 ≤ vmu l ∧ vmu l ≤ 1 := by
  cases l with
  | nil => exact ⟨(by decide : (0 : Int) ≤ 1), (by decide : (1 : Int) ≤ 1)⟩
  | cons c t => exact ⟨(by decide : (0 : Int) ≤ 0), (by decide : (0 : Int) ≤ 1)⟩
abbrev vXw (A A' : cS) (w : Nat) : Prop := vX A A' (15 * (w : Int)) w (2 * (w : Int)) (2 * (w : Int)) w w w
abbrev vRw (A : cS) (w : Nat) : Prop := vRm A (15 * (w : Int)) (2 * (w : Int)) w
theorem vXw.tr {A A1 A2 : cS} {w w' : Nat} (h : vXw A A1 w) (q : vXw A1 A2 w') : vXw A A2 (w + w') := (vX.tr h q).le (by omega)
theorem vXw.up {A A1 : cS} {w w' : Nat} (h : vXw A A1 w) (q : w ≤ w') : vXw A A1 w' := vX.le h (by omega)
theorem vRw.x {A A1 : cS} {w k w' : Nat} (R : vRw A w) (x : vXw A A1 k) (q : k + w' ≤ w) : vRw A1 w' := vRm.x R x (by omega)
theorem vRw.up {A : cS} {w w' : Nat} (R : vRw A w) (q : w' ≤ w) : vRw A w' := vRm.le R (by omega)
theorem vX.a {A A' : cS} (g : vG A) (f : ySm A A' [] [16, 21, 22, 23]) (h : yv A' 23 = yv A 23 + 1) : vX A A' 0 0 0 0 0 0 1 := by
  obtain ⟨g1, g2, g3, g4, g5, g6, g7, g8⟩ := g
  refine ⟨ySm.rf.tr f rfl rfl, vT.sm f rfl, ⟨g1.k (vT.sm f rfl), ?_, ?_, ?_, by omega, ?_, ?_, g8.sm f rfl⟩, ?_⟩
  · rw [f.z 27 rfl, f.z 28 rfl, f.z 29 rfl, f.z 30 rfl, f.z 31 rfl]; exact g2
  · rw [f.v 17 rfl]; exact g3
  · rw [f.v 19 rfl]; exact g4
  · rw [f.v 24 rfl]; exact g6
  · rw [f.v 37 rfl]; exact g7
  · unfold vN
    rw [f.z 1 rfl, f.z 26 rfl, f.z 24 rfl, f.z 25 rfl, f.z 27 rfl, f.z 32 rfl, f.v 17 rfl, f.z 2 rfl, f.z 5 rfl]
    omega
/-- parts of a chain, within so many calls -/
abbrev vPs (A : cS) (l : List jC) (n : Nat) : Prop := ∀ c ∈ l, jTc A c ∧ c.1 + 1 ≤ n ∧ c.1 ≤ 614
theorem vPs.t {A A' : cS} {l : List jC} {n : Nat} (h : vPs A l n) (q : vT A A') : vPs A' l n := fun c hc => ⟨(h c hc).1.k q, (h c hc).2⟩
theorem vPs.d {A : cS} {l : List jC} {n : Nat} (h : vPs A l n) : vPs A (l.drop 1) n := fun c hc => h c (List.mem_of_mem_drop hc)
abbrev vK4 (n : Nat) : Prop := ∀ (x b c : Int) {A : cS} {Q : Int → cS → Prop} {l : List jC}, vG A → jCh A x (jNs l) → vPs A l n → 1 ≤ n → vRm A (15 * (jW (l.take 1) : Int) + 4 * vmu l) (2 * (jW (l.take 1) : Int) + 2 * vmu l) (jW (l.take 1)) → (∀ A', vX A A' (15 * (jW (l.take 1) : Int) + 4 * vmu l) (jW (l.take 1)) (2 * (jW (l.take 1) : Int) + 2 * vmu l) (2 * (jW (l.take 1) : Int)) (jW (l.take 1)) (jW (l.take 1)) (jW (l.take 1)) → Q 0 A') → wcG_C n 4 x b c A Q
abbrev vK12 (n : Nat) : Prop := ∀ (x b c : Int) {A : cS} {Q : Int → cS → Prop} {l : List jC}, vG A → jCh A x (jNs l) → vPs A l n → 1 ≤ n → vRw A (ve l) → (∀ A', vXw A A' (ve l) → Q 0 A') → wcG_C n 12 x b c A Q
abbrev vK3h (n : Nat) : Prop := ∀ (x b c : Int) {A : cS} {Q : Int → cS → Prop} {l : List jC}, vG A → jCh A x (jNs l) → vPs A l n → 1 ≤ n → vRm A (15 * (jW (l.take 1) : Int)) (2 * (jW (l.take 1) : Int)) (jW (l.take 1) + vmu l) → (∀ A', vX A A' (15 * (jW (l.take 1) : Int)) (jW (l.take 1)) (2 * (jW (l.take 1) : Int)) (2 * (jW (l.take 1) : Int)) (jW (l.take 1)) (jW (l.take 1) + vmu l) (jW (l.take 1)) → Q 0 A') → wcG_C n 3 x b c A Q
/-- a node's part, whose own code is less by u -/
abbrev vKn (i : Nat) (K : Int → Prop) (u v : Int) (n : Nat) : Prop := ∀ (k : Nat) (b c : Int) {A : cS} {Q : Int → cS → Prop} {h w : Nat} {S : Nat → Prop}, vG A → jT A h k w S → h ≤ 614 → h + 2 ≤ n + jkap (yget A 7 k) → K (yget A 7 k) → vRm A (15 * (w : Int) - u) (2 * (w : Int)) w → (∀ A', vX A A' (15 * (w : Int) - u) w (2 * (w : Int)) (2 * (w : Int)) (w - v) w w → Q 0 A') → wcG_C n i k b c A Q
abbrev vK14 (n : Nat) : Prop := ∀ (k i : Nat) (c : Int) {A : cS} {Q : Int → cS → Prop} {l : List jC}, vG A → jCh A (yget A 11 k) (jNs l) → vPs A l n → 1 ≤ n → l.length ≤ 3000 → i ≤ 3000 → vRw A (ve (l.drop i)) → (∀ A', vXw A A' (ve (l.drop i)) → Q 0 A') → wcG_C n 14 k i c A Q
abbrev vAny : Int → Prop := fun _ => True
theorem vG.sz {A : cS} (g : vG A) : yget A 13 0 = 0 ∧ yget A 11 0 = 0 ∧ yget A 7 0 = 0 := ⟨g.1.2.2.2, g.1.2.2.1, g.1.1⟩
theorem cs_k12 {m : Nat} (P12 : vK12 m) (P13 : vKn 13 vAny 0 0 m) (P15 : vKn 15 vAny 0 0 m) (P16 : vKn 16 vAny 0 0 m) : vK12 (m + 1) := fun x b c A Q l g ch hl hn R hq => by
  show wc_Coder_expression (wcG_C m) A x b c (fun A' => Q 0 A')
  unfold wc_Coder_expression wc_Tree_first
  rcases ch.cs with ⟨rfl, rfl⟩ | ⟨ck, t, rfl, hx, -, -⟩
  · refine ⟨1, ?_⟩
    unfold wc_Coder_expression_16
    unfold wc_Coder_expression_16B
    have q := hq A (vX.rf g)
    exact ⟨fun _ => q, fun _ => ⟨fun _ => q, fun c => absurd g.1.2.2.1 c⟩⟩
  · have hck := hl ck (List.mem_cons_self ..)
    obtain ⟨l1, x1, ch1, hl1, -, hw, -, hk, -⟩ := hck.1.ks
    have hk1 := (jkap_le (yget A 7 (ck.2.1 : Nat))).1
    have hlen := jW_len (fun c hc => (hl1 c hc).1)
    have hve : ve (ck :: t) = ck.2.2.1 - 1 := rfl
    have rw' := R.w
    rw [hx]
    have L : ∀ (m2 : Nat) (A1 : cS) (lr : List jC) (d : Nat) (x2 x3 x4 x5 x6 : Int), vXw A A1 d → jCh A1 x5 (jNs lr) → vPs A1 lr m → d + jW lr ≤ ve (ck :: t) → 0 ≤ x6 → x6 + lr.length ≤ 3000 → lr.length < m2 → wc_Coder_expression_16 (wcG_C m) (fun A' => Q 0 A') m2 A1 x2 x3 x4 x5 x6 := by
      intro m2
      induction m2 with
      | zero => intro A1 lr d x2 x3 x4 x5 x6 _ _ _ _ _ _ h; omega
      | succ m2 ih =>
        intro A1 lr d x2 x3 x4 x5 x6 X hc hlr hd h0 h1 h2
        have O : Q 0 A1 := hq A1 (vXw.up X (by omega))
        unfold wc_Coder_expression_16
        unfold wc_Coder_expression_16B
        refine ⟨fun _ => O, fun _ => ⟨fun _ => O, fun q => ?_⟩⟩
        rcases hc.cs with ⟨e, -⟩ | ⟨kc, lt, rfl, e5, e1, hct⟩
        · exact absurd e q
        have hkc := hlr kc (List.mem_cons_self ..)
        have w1 := hkc.1.n1.2.2
        rw [jW_c] at hd
        rw [List.length_cons] at h1 h2
        have RR := vRw.x R X (w' := kc.2.2.1) (by omega)
        have N : ∀ (A2 : cS) (y4 : Int), vXw A1 A2 kc.2.2.1 → (zR (x6 + 1)) ∧ wc_Coder_expression_16 (wcG_C m) (fun A' => Q 0 A') m2 A2 x2 x3 y4 (yget A1 13 x5) (x6 + 1) := fun A2 y4 g2' => ⟨⟨by omega, by omega⟩, ih A2 lt (d + kc.2.2.1) _ _ _ _ (x6 + 1) (vXw.tr X g2') (g2'.t.ch hct) (vPs.t (fun c hc => hlr c (List.mem_cons_of_mem _ hc)) g2'.t) (by omega) (by omega) (by omega) (by omega)⟩
        have NU : ∀ (A2 : cS) (y4 u v : Int), vXw A1 A2 kc.2.2.1 → wc_Coder_unfit A2 u v (fun A21 => (zR (x6 + 1)) ∧ wc_Coder_expression_16 (wcG_C m) (fun A' => Q 0 A') m2 A21 x2 x3 y4 (yget A1 13 x5) (x6 + 1)) := fun A2 y4 u v g2' => cs_unfit g2'.g _ _ (fun A3 f3 x3' => N A3 y4 (show vXw A1 A3 kc.2.2.1 from (vX.tr g2' x3').le (by omega)))
        obtain ⟨l2, y, ch2, hl2, -, hw2, -, hk2, -⟩ := hkc.1.ks
        have hkk := jkap_le (yget A1 7 (kc.2.1 : Nat))
        have hps2 : vPs A1 l2 m := fun c hc => ⟨(hl2 c hc).1, by have := (hl2 c hc).2; omega, by have := (hl2 c hc).2; omega⟩
        have vl2 := ve_le l2
        have tl2 := jW_t1 (l := l2)
        have T : ∀ x9 y0, wc_Coder_expression_99 (wcG_C m) (fun A' => Q 0 A') (wc_Coder_expression_16 (wcG_C m) (fun A' => Q 0 A') m2) A1 x2 x3 x4 x5 x6 (yget A1 13 x5) x9 y0 := fun x9 y0 => by
          unfold wc_Coder_expression_99 wc_Tree_kind wc_Tree_first
          refine ⟨fun _ => ?_, fun _ => ?_, fun _ => ?_, fun _ => ?_, fun _ => ?_, fun _ => ?_, fun _ _ _ _ _ _ => ?_⟩
          · have := P15 kc.2.1 0 0 (Q := fun _ A13 => wc_Coder_unfit A13 x9 y0 (fun A21 => (zR (x6 + 1)) ∧ wc_Coder_expression_16 (wcG_C m) (fun A' => Q 0 A') m2 A21 x2 x3 x4 (yget A1 13 x5) (x6 + 1))) X.g hkc.1 hkc.2.2 (by omega) trivial (vRm.le RR (by omega)) (fun A2 X2 => NU A2 x4 x9 y0 (X2.le (by omega)))
            rw [← e5] at this
            exact this
          · have := cs_ctable X.g RR (by omega) hkc.1 hkc.2.2 (Int.le_refl _) (Q := fun A34 => wc_Coder_unfit A34 x9 y0 (fun A21 => (zR (x6 + 1)) ∧ wc_Coder_expression_16 (wcG_C m) (fun A' => Q 0 A') m2 A21 x2 x3 x4 (yget A1 13 x5) (x6 + 1))) (fun A2 X2 => NU A2 x4 x9 y0 (X2.le (by omega)))
            rw [← e5] at this
            exact this
          · have := P16 kc.2.1 0 0 (Q := fun _ A13 => wc_Coder_unfit A13 x9 y0 (fun A21 => (zR (x6 + 1)) ∧ wc_Coder_expression_16 (wcG_C m) (fun A' => Q 0 A') m2 A21 x2 x3 x4 (yget A1 13 x5) (x6 + 1))) X.g hkc.1 hkc.2.2 (by omega) trivial (vRm.le RR (by omega)) (fun A2 X2 => NU A2 x4 x9 y0 (X2.le (by omega)))
            rw [← e5] at this
            exact this
          · rw [e5]
            refine P12 _ _ _ X.g ch2 hps2 (by omega) (vRw.up RR (by omega)) (fun A2 X2 => ?_)
            rw [← e5]
            exact N A2 x4 (vXw.up X2 (by omega))
          · have := P13 kc.2.1 0 0 (Q := fun _ A13 => wc_Coder_unfit A13 x9 y0 (fun A21 => (zR (x6 + 1)) ∧ wc_Coder_expression_16 (wcG_C m) (fun A' => Q 0 A') m2 A21 x2 x3 x4 (yget A1 13 x5) (x6 + 1))) X.g hkc.1 hkc.2.2 (by omega) trivial (vRm.le RR (by omega)) (fun A2 X2 => NU A2 x4 x9 y0 (X2.le (by omega)))
            rw [← e5] at this
            exact this
          · exact cs_csign X.g RR (by omega) _ _ (fun r A2 X2 => NU A2 r x9 y0 (X2.le (by omega)))
          · exact cs_csingle X.g RR (by omega) (by omega) _ _ _ (fun A2 X2 => N A2 x4 (X2.le (by omega)))
        have F : ∀ y0, wc_Coder_expression_58 (wcG_C m) (fun A' => Q 0 A') (wc_Coder_expression_16 (wcG_C m) (fun A' => Q 0 A') m2) A1 x2 x3 x4 x5 x6 (yget A1 13 x5) y0 := fun y0 => by
          unfold wc_Coder_expression_58 wc_Tree_data
          exact ⟨fun _ => ⟨fun _ => ⟨fun _ => T _ _, fun _ => T _ _⟩, fun _ => ⟨fun _ => T _ _, fun _ => T _ _⟩⟩, fun _ => ⟨fun _ => T _ _, fun _ => T _ _⟩⟩
        unfold wc_Tree_next wc_Tree_kind
        exact ⟨fun _ => F _, fun _ => F _⟩
    exact ⟨l1.length + 1, L _ A l1 0 _ _ _ _ 0 (vX.rf g) ch1 (fun c hc => ⟨(hl1 c hc).1, by have := (hl1 c hc).2; omega, by have := (hl1 c hc).2; omega⟩) (by omega) (by decide) (by omega) (by omega)⟩
