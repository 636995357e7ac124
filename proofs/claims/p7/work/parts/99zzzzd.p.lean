/-! THE CLASS'S PARSER: WHAT EACH PIECE MAKES -/
abbrev jEE (A : cS) (E : cS → Prop) : Prop := ∀ A', jF A A' → jB5 A' → E A'
theorem jEE.tr {A A1 : cS} {E : cS → Prop} (h : jEE A E) (f : jF A A1) : jEE A1 E := fun A' g b => h A' (f.tr g rfl rfl) b
abbrev jFl (R : Int) (A : cS) (n : Nat) : Prop := R + 12 * (60 - yv A 11) ≤ n
theorem jF.z14 {A A' : cS} (f : jF A A') : yz A' 14 = yz A 14 := f.z 14 rfl
theorem jdl_f {A A' : cS} {js ks : List Nat} (f : ySm A A' js ks) (h1 : js.contains 14 = false) (h2 : ks.contains 10 = false) : jdl A' = jdl A := by
  unfold jdl
  rw [f.v 10 h2, f.g 14 _ h1]
theorem jt_f {A A' : cS} (f : jF A A') : jt A' = jt A - (yv A' 10 - yv A 10) := by
  unfold jt
  rw [f.z14]
  omega
def jSp (W : (Int → cS → Prop) → Prop) (h : Nat) (A : cS) : Prop := ∀ Q : Int → cS → Prop, (∀ r A', jX A A' (jdl A') 0 0 → jU A A' jO → jN A A' r h → Q r A') → W Q
abbrev jP0 (n : Nat) : Prop := ∀ (a b c : Int) {A : cS} {Q : Int → cS → Prop} {E : cS → Prop}, jS A → j7 A ≤ 2603 + 6 * yv A 11 → jFl 8 A n → jEE A E → (∀ r A', jX A A' 0 0 0 → jU A A' jO → jN A A' r (jH 12 A) → Q r A') → wcG_P n 0 a b c A Q E
abbrev jP1 (n : Nat) : Prop := ∀ (a b c : Int) {A : cS} {Q : Int → cS → Prop} {E : cS → Prop}, jS A → j7 A ≤ 2603 + 6 * yv A 11 → 53 ≤ yget A 14 (yv A 10) ∧ yget A 14 (yv A 10) ≤ 55 → jFl 1 A n → jEE A E → (∀ r A', jX A A' 0 0 0 → jU A A' jO → jN A A' r (jH 12 A) → Q r A') → wcG_P n 1 a b c A Q E
abbrev jP2 (n : Nat) : Prop := ∀ (a b c : Int) {A : cS} {Q : Int → cS → Prop} {E : cS → Prop}, jS A → j7 A ≤ 2603 + 6 * yv A 11 → jFl 7 A n → jEE A E → (∀ r A', jX A A' 0 0 0 → jU A A' jO → jN A A' r (jH 11 A) → Q r A') → wcG_P n 2 a b c A Q E
abbrev jP3 (n : Nat) : Prop := ∀ (k : Nat) (b c : Int) {A0 A : cS} {Q : Int → cS → Prop} {E : cS → Prop} {K D X a' b' d' : Int}, jD A0 A k [] K D X a' b' d' → j7 A0 + a' ≤ 2603 + 6 * yv A 11 → jFl 5 A n → jEE A E → (∀ A' l D2 a2, jD A0 A' k l 97 D2 X a2 b' d' → a2 ≤ a' + 1 → jF A A' → (∀ c ∈ l, c.1 ≤ jH 9 A) → (∃ m : Nat, D2 = m ∧ l.length = m + m) → Q 0 A') → wcG_P n 3 k b c A Q E
abbrev jP4 (n : Nat) : Prop := ∀ (a b c : Int) {A : cS} {Q : Int → cS → Prop} {E : cS → Prop}, jS A → j7 A ≤ 2606 + 6 * yv A 11 → jFl 1 A n → jEE A E → (∀ r A', jX A A' 0 0 0 → jU A A' jO → jN A A' r (jH 4 A) → Q r A') → wcG_P n 4 a b c A Q E
abbrev jP5 (n : Nat) : Prop := ∀ (k : Nat) (b c : Int) {A0 A : cS} {Q : Int → cS → Prop} {E : cS → Prop} {l : List jC} {K D X a' b' d' : Int}, jD A0 A k l K D X a' b' d' → j7 A0 + a' ≤ 2603 + 6 * yv A 11 → jFl 5 A n → jEE A E → (∀ A' l2, jD A0 A' k (l ++ l2) K D X a' b' d' → jF A A' → yv A 10 ≤ yv A' 10 → (∀ c ∈ l2, c.1 ≤ jH 7 A) → Q 0 A') → wcG_P n 5 k b c A Q E
abbrev jP6 (n : Nat) : Prop := ∀ (a b c : Int) {A : cS} {E : cS → Prop}, jS A → j7 A ≤ 2603 + 6 * yv A 11 → jFl 6 A n → jEE A E → jSp (fun Q => wcG_P n 6 a b c A Q E) (jH 10 A) A
abbrev jP7 (n : Nat) : Prop := ∀ (r b c : Int) {A0 A : cS} {Q : Int → cS → Prop} {E : cS → Prop}, jX A0 A (jdl A) 0 0 → jU A0 A jO → jN A0 A r (jH 8 A0) → j7 A0 ≤ 2604 + 6 * yv A0 11 → 67 ≤ yget A 14 (yv A 10) ∧ yget A 14 (yv A 10) ≤ 69 → jFl 5 A n → jEE A E → (∀ r A', jX A0 A' (jdl A') 0 0 → jU A0 A' jO → jN A0 A' r (jH 10 A0) → Q r A') → wcG_P n 7 r b c A Q E
abbrev jP8 (n : Nat) : Prop := ∀ (a b c : Int) {A : cS} {E : cS → Prop}, jS A → j7 A ≤ 2603 + 6 * yv A 11 → 36 ≤ yget A 14 (yv A 10) ∧ yget A 14 (yv A 10) ≤ 40 → jFl 5 A n → jEE A E → jSp (fun Q => wcG_P n 8 a b c A Q E) (jH 8 A) A
abbrev jP9 (n : Nat) : Prop := ∀ (a b c : Int) {A : cS} {E : cS → Prop}, jS A → j7 A ≤ 2603 + 6 * yv A 11 → ¬ yget A 14 (yv A 10) = 0 → jFl 5 A n → jEE A E → jSp (fun Q => wcG_P n 9 a b c A Q E) (jH 8 A) A
abbrev jP10 (n : Nat) : Prop := ∀ (a b c : Int) {A : cS} {E : cS → Prop}, jS A → j7 A ≤ 2603 + 6 * yv A 11 → ¬ yget A 14 (yv A 10) = 0 → jFl 5 A n → jEE A E → jSp (fun Q => wcG_P n 10 a b c A Q E) (jH 8 A) A
abbrev jP11 (n : Nat) : Prop := ∀ (a b c : Int) {A : cS} {E : cS → Prop}, jS A → j7 A ≤ 2603 + 6 * yv A 11 → jFl 5 A n → jEE A E → jSp (fun Q => wcG_P n 11 a b c A Q E) (jH 8 A) A
abbrev jP12 (n : Nat) : Prop := ∀ (a b c : Int) {A : cS} {Q : Int → cS → Prop} {E : cS → Prop}, jS A → j7 A ≤ 2606 + 6 * yv A 11 → jFl 4 A n → jEE A E → (∀ r A', jX A A' (jdl A') 0 0 → jU A A' jO → jN A A' r (jH 6 A) → (yget A' 7 (yget A' 11 r) = 83 → j7 A' ≤ j7 A + jdl A' - 1) → Q r A') → wcG_P n 12 a b c A Q E
abbrev jP13 (n : Nat) : Prop := ∀ (k : Nat) (b c : Int) {A0 A : cS} {Q : Int → cS → Prop} {E : cS → Prop} {l : List jC} {K D X a' b' d' : Int}, jD A0 A k l K D X a' b' d' → j7 A0 + a' ≤ 2608 + 6 * yv A 11 → jFl 3 A n → jEE A E → (∀ A' x t, jD A0 A' k (l ++ x :: t) K D X (a' - 1 + jdl A') b' d' → (yget A' 7 (x.2.1 : Nat) = 83 → jD A0 A' k (l ++ x :: t) K D X (a' - 2 + jdl A') b' d') → jF A A' → yv A 10 ≤ yv A' 10 → (∀ c ∈ x :: t, c.1 ≤ jH 3 A) → Q 0 A') → wcG_P n 13 k b c A Q E
abbrev jP14 (n : Nat) : Prop := ∀ (a b c : Int) {A : cS} {Q : Int → cS → Prop} {E : cS → Prop}, jS A → j7 A ≤ 2608 + 6 * yv A 11 → jFl 2 A n → jEE A E → (∀ r A', jX A A' (-1 + jdl A') 0 0 → jU A A' jO → jN A A' r (jH 1 A) → ¬ yget A' 7 r = 83 → Q r A') → wcG_P n 14 a b c A Q E
abbrev jP15 (n : Nat) : Prop := ∀ (a b c : Int) {A : cS} {Q : Int → cS → Prop} {E : cS → Prop}, jS A → j7 A ≤ 2608 + 6 * yv A 11 → ¬ yget A 14 (yv A 10) = 0 → jFl 1 A n → jEE A E → (∀ r A', jX A A' (-1 + jdl A') 0 0 → jU A A' jO → jN A A' r (jH 1 A) → ¬ yget A' 7 r = 83 → Q r A') → wcG_P n 15 a b c A Q E
abbrev jP16 (n : Nat) : Prop := ∀ (r b c : Int) {A0 A : cS} {Q : Int → cS → Prop} {E : cS → Prop} {a' b' d' : Int} {h : Nat}, jX A0 A a' b' d' → jU A0 A jO → jN A0 A r h → jH 1 A ≤ h → j7 A0 + a' ≤ 2608 + 6 * yv A 11 → yget A 14 (yv A 10) = 7 → jFl 1 A n → jEE A E → (∀ r A' d, jX A0 A' (a' - 1) b' d → d' ≤ d → jU A0 A' jO → jN A0 A' r (h + 2) → jF A A' → Q r A') → wcG_P n 16 r b c A Q E
abbrev jP (n : Nat) : Prop := jP0 n ∧ jP1 n ∧ jP2 n ∧ jP3 n ∧ jP4 n ∧ jP5 n ∧ jP6 n ∧ jP7 n ∧ jP8 n ∧ jP9 n ∧ jP10 n ∧ jP11 n ∧ jP12 n ∧ jP13 n ∧ jP14 n ∧ jP15 n ∧ jP16 n
theorem jP.p0 {n : Nat} (P : jP n) : jP0 n := P.1
theorem jP.p1 {n : Nat} (P : jP n) : jP1 n := P.2.1
theorem jP.p2 {n : Nat} (P : jP n) : jP2 n := P.2.2.1
theorem jP.p3 {n : Nat} (P : jP n) : jP3 n := P.2.2.2.1
theorem jP.p4 {n : Nat} (P : jP n) : jP4 n := P.2.2.2.2.1
theorem jP.p5 {n : Nat} (P : jP n) : jP5 n := P.2.2.2.2.2.1
theorem jP.p6 {n : Nat} (P : jP n) : jP6 n := P.2.2.2.2.2.2.1
theorem jP.p7 {n : Nat} (P : jP n) : jP7 n := P.2.2.2.2.2.2.2.1
theorem jP.p8 {n : Nat} (P : jP n) : jP8 n := P.2.2.2.2.2.2.2.2.1
theorem jP.p9 {n : Nat} (P : jP n) : jP9 n := P.2.2.2.2.2.2.2.2.2.1
theorem jP.p10 {n : Nat} (P : jP n) : jP10 n := P.2.2.2.2.2.2.2.2.2.2.1
theorem jP.p11 {n : Nat} (P : jP n) : jP11 n := P.2.2.2.2.2.2.2.2.2.2.2.1
theorem jP.p12 {n : Nat} (P : jP n) : jP12 n := P.2.2.2.2.2.2.2.2.2.2.2.2.1
theorem jP.p13 {n : Nat} (P : jP n) : jP13 n := P.2.2.2.2.2.2.2.2.2.2.2.2.2.1
theorem jP.p14 {n : Nat} (P : jP n) : jP14 n := P.2.2.2.2.2.2.2.2.2.2.2.2.2.2.1
theorem jP.p15 {n : Nat} (P : jP n) : jP15 n := P.2.2.2.2.2.2.2.2.2.2.2.2.2.2.2.1
theorem jP.p16 {n : Nat} (P : jP n) : jP16 n := P.2.2.2.2.2.2.2.2.2.2.2.2.2.2.2.2
/-- a part is made and hung -/
theorem jD.sub {W : (Int → cS → Prop) → Prop} {A0 A : cS} {n h : Nat} {l : List jC} {K D X a b d : Int} (D0 : jD A0 A n l K D X a b d) (sp : jSp W h A) {Q : cS → Prop} (hq : ∀ A' c, c.1 = h → jD A0 A' n (l ++ [c]) K D X (a + jdl A') b d → jF A A' → yv A 10 ≤ yv A' 10 → yv A' 11 = yv A 11 → Q A') : W (fun r A1 => wc_Tree_hang A1 n r Q) := by
  refine sp _ (fun r A1 x1 u1 n1 => D0.kid x1 u1 n1 (fun A2 c c1 _ f _ _ D2 => ?_))
  have e10 : yv A2 10 = yv A1 10 := f.v 10 rfl
  have e11 : yv A2 11 = yv A1 11 := f.v 11 rfl
  have xn := x1.n
  refine hq A2 c c1 (D2.le (by rw [jdl_f f rfl rfl]; omega) (by omega) (by omega)) (x1.f.tr f rfl rfl) (by omega) (by omega)
theorem jP.ex {m : Nat} (P : jP m) (a b c : Int) {A : cS} {E : cS → Prop} (s : jS A) (h7 : j7 A ≤ 2606 + 6 * yv A 11) (hf : jFl 4 A m) (hE : jEE A E) : jSp (fun Q => wcG_P m 12 a b c A Q E) (jH 6 A) A := fun Q hq => P.p12 a b c s h7 hf hE (fun r A' x u n _ => hq r A' x u n)
theorem jH_up {c : Nat} {A A1 : cS} (e : yv A1 11 = yv A 11 + 1) (d : yv A 11 < 60) (d0 : 0 ≤ yv A 11) : jH c A1 + 10 = jH c A := by
  unfold jH
  omega
theorem jH_eq {c : Nat} {A A1 : cS} (e : yv A1 11 = yv A 11) : jH c A1 = jH c A := by
  unfold jH
  rw [e]
theorem jH_c (c k : Nat) (A : cS) : jH (c + k) A = jH c A + k := by
  unfold jH
  omega
theorem jX.d {A0 A : cS} {a b d : Int} (x : jX A0 A a b d) : yv A 11 = yv A0 11 + d := x.n.2.2.2.1
theorem jX.a {A0 A : cS} {a b d : Int} (x : jX A0 A a b d) : yv A0 10 ≤ yv A 10 := x.n.1
