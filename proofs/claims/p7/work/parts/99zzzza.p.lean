/-! THE CLASS'S PARSER: WHAT IS BELOW -/
theorem jX.r22 {A A' : cS} (s : jS A) (f : ySm A A' [22] []) {c : Int} (hc : ((yz A' 22 : Nat) : Int) ≤ ((yz A 22 : Nat) : Int) + c) : jX A A' c 0 0 := by
  refine ⟨ySm.rf.tr f rfl rfl, s.sm f rfl (by rw [f.v 10 rfl]; exact ⟨Int.le_refl _, s.a.2⟩) (by rw [f.v 11 rfl]; exact s.d), by rw [f.v 10 rfl]; exact Int.le_refl _, ?_, ?_, by rw [f.v 11 rfl]; omega, by rw [f.z 7 rfl]; exact Nat.le_refl _, s.n.1⟩
  · unfold j7 jt
    rw [f.z 7 rfl, f.z 14 rfl, f.v 10 rfl]
    omega
  · unfold j2 jt
    rw [f.z 2 rfl, f.z 14 rfl, f.v 10 rfl]
    omega
theorem j7_22 {A : cS} (s : jS A) (h : j7 A ≤ 2990) : yz A 22 ≤ 2990 := by
  have := s.a
  unfold j7 jt at h
  omega
theorem cs_nameDue {A : cS} (s : jS A) {Q : Int → cS → Prop} {E : cS → Prop} (hE : ∀ A', jF A A' → jB5 A' → E A') (hq : ∀ r A', ySm A A' [] [10] → jX A A' (-2) (-60) 0 → yv A' 10 = yv A 10 + 1 → Q r A') : wc_Parser_nameDue A Q E := by
  unfold wc_Parser_nameDue wc_Parser_info
  exact cs_due s 2 (by decide) hE (fun _ A' f x e => hq _ A' f x e)
theorem cs_isRepeat (A : cS) (a : Int) {Q : Int → cS → Prop} (hq : ∀ r, (¬ r = 0 → 67 ≤ a ∧ a ≤ 69) → Q r A) : wc_Parser_isRepeat A a Q := by
  unfold wc_Parser_isRepeat
  exact ⟨fun _ => hq _ (fun q => absurd rfl q), fun _ => ⟨fun _ => hq _ (fun q => absurd rfl q), fun _ => hq _ (fun _ => by omega)⟩⟩
theorem cs_isOpen (A : cS) (a : Int) (h : yz A 21 ≤ 2000) {Q : Int → cS → Prop} (hq : ∀ r, Q r A) : wc_Parser_isOpen A a Q := by
  have L : ∀ (m : Nat) (x : Int), 0 ≤ x → x ≤ ((yz A 21 : Nat) : Int) → ((yz A 21 : Nat) : Int) - x < m → wc_Parser_isOpen_2 Q m A a x := by
    intro m
    induction m with
    | zero => intro x _ _ h; omega
    | succ m ih =>
      intro x h0 h1 h2
      unfold wc_Parser_isOpen_2
      unfold wc_Parser_isOpen_2B
      exact ⟨fun _ => hq _, fun _ => ⟨fun _ => ⟨⟨by omega, by omega⟩, ih _ (by omega) (by omega) (by omega)⟩, fun _ => hq _⟩⟩
  unfold wc_Parser_isOpen
  exact ⟨yz A 21 + 1, L _ 0 (by omega) (by omega) (by omega)⟩
theorem cs_isGlobal (A : cS) (a : Int) (h : yz A 23 ≤ 2000) {Q : Int → cS → Prop} (hq : ∀ r, Q r A) : wc_Parser_isGlobal A a Q := by
  have L : ∀ (m : Nat) (x : Int), 0 ≤ x → x ≤ ((yz A 23 : Nat) : Int) → ((yz A 23 : Nat) : Int) - x < m → wc_Parser_isGlobal_2 Q m A a x := by
    intro m
    induction m with
    | zero => intro x _ _ h; omega
    | succ m ih =>
      intro x h0 h1 h2
      unfold wc_Parser_isGlobal_2
      unfold wc_Parser_isGlobal_2B
      exact ⟨fun _ => hq _, fun _ => ⟨fun _ => ⟨⟨by omega, by omega⟩, ih _ (by omega) (by omega) (by omega)⟩, fun _ => hq _⟩⟩
  unfold wc_Parser_isGlobal
  exact ⟨yz A 23 + 1, L _ 0 (by omega) (by omega) (by omega)⟩
theorem cs_power (A : cS) (a : Int) {Q : Int → cS → Prop} (hq : ∀ r, (¬ r = 0 → 16 ≤ a ∧ a ≤ 72) → Q r A) : wc_W_power A a Q := by
  unfold wc_W_power wc_W_isRelation
  refine ⟨fun c => hq _ (fun _ => by omega), fun c => hq _ (fun _ => by omega), fun c => hq _ (fun _ => by omega), fun c => hq _ (fun _ => by omega), fun c => hq _ (fun _ => by omega), fun c => hq _ (fun _ => by omega), fun _ _ _ _ _ _ => ⟨fun _ => ⟨fun _ => hq _ (fun q => absurd rfl q), fun q => absurd rfl q⟩, fun _ => ⟨fun _ => ⟨fun _ => hq _ (fun q => absurd rfl q), fun q => absurd rfl q⟩, fun _ => ⟨fun q => absurd q (by decide), fun _ => hq _ (fun _ => by omega)⟩⟩⟩⟩
theorem cs_isRelation (A : cS) (a : Int) {Q : Int → cS → Prop} (hq : ∀ r, Q r A) : wc_W_isRelation A a Q := by
  unfold wc_W_isRelation
  exact ⟨fun _ => hq _, fun _ => ⟨fun _ => hq _, fun _ => hq _⟩⟩
/-- a section is opened -/
theorem cs_open {A : cS} (s : jS A) {Q E : cS → Prop} (hE : ∀ A', jF A A' → jB5 A' → E A') (hq : yv A 11 < 60 → ∀ A', ySm A A' [21] [10, 11] → jX A A' (-2) (-60) 1 → Q A') : wc_Parser_open A Q E := by
  unfold wc_Parser_open wc_Parser_kind
  refine ⟨fun c5 => cs_enter s hE (fun d A1 f1 x1 => ?_), fun _ => cs_refuse s _ hE⟩
  unfold wc_Parser_info
  have b := x1.s.b
  have sa := x1.s.a
  have e3 := x1.s.e.2.2.1
  have i : yv A1 10 < ((yz A1 14 : Nat) : Int) := x1.s.in (by rw [f1.v 10 rfl, f1.g 14 _ rfl, c5]; decide)
  have b21 : yz A1 21 ≤ 1390 := by
    have := b.2.2.1
    unfold j21 jt at this
    omega
  refine ⟨by omega, ?_⟩
  have f2 : ySm A1 (yadd A1 21 (yget A1 15 (yv A1 10))) [21] [] := ySm.rf.add rfl
  have z2 : yz (yadd A1 21 (yget A1 15 (yv A1 10))) 21 = yz A1 21 + 1 := rfl
  generalize yadd A1 21 (yget A1 15 (yv A1 10)) = A2 at f2 z2
  have k2 : yget A2 14 (yv A2 10) = 5 := by rw [f2.v 10 rfl, f2.g 14 _ rfl, f1.v 10 rfl, f1.g 14 _ rfl]; exact c5
  unfold wc_Parser_advance
  rw [k2]
  refine ⟨fun q => absurd q (by decide), fun _ => ⟨by rw [f2.v 10 rfl]; exact ⟨by omega, by omega⟩, ?_⟩⟩
  have f3 : ySm A2 (ypv A2 10 (yv A2 10 + 1)) [] [10] := ySm.rf.pv rfl
  have e10 : yv (ypv A2 10 (yv A2 10 + 1)) 10 = yv A2 10 + 1 := rfl
  generalize ypv A2 10 (yv A2 10 + 1) = A3 at f3 e10
  have f : ySm A1 A3 [21] [10] := (ySm.rf.tr f2 rfl rfl : ySm A1 A2 [21] [10]).tr f3 rfl rfl
  have e10' : yv A3 10 = yv A1 10 + 1 := by rw [e10, f2.v 10 rfl]
  have z21 : yz A3 21 = yz A1 21 + 1 := by rw [f3.z 21 rfl]; exact z2
  have t3 : jt A3 = jt A1 - 1 := by unfold jt; rw [f.z 14 rfl, e10']; omega
  have n2 : j2 A3 = j2 A1 - 60 := by unfold j2; rw [f.z 2 rfl, t3]; omega
  have n3 : j3 A3 = j3 A1 - 1 := by unfold j3; rw [f.z 3 rfl, t3]; omega
  have n21 : j21 A3 = j21 A1 := by unfold j21; rw [z21, t3]; omega
  have n23 : j23 A3 = j23 A1 - 1 := by unfold j23; rw [f.z 23 rfl, t3]; omega
  have n7 : j7 A3 = j7 A1 - 2 := by unfold j7; rw [f.z 7 rfl, f.z 22 rfl, t3]; omega
  have x3 : jX A1 A3 (-2) (-60) 0 := ⟨ySm.rf.tr f rfl rfl, x1.s.gen f rfl ⟨by omega, by omega⟩ (by rw [f.v 11 rfl]; exact x1.s.d) (by rw [f.z 3 rfl, f.z 4 rfl, f.z 5 rfl, f.z 6 rfl]; exact x1.s.r) ⟨by omega, by omega, by omega, by omega⟩, by omega, by omega, by omega, by rw [f.v 11 rfl]; omega, by rw [f.z 7 rfl]; exact Nat.le_refl _, x1.s.n.1⟩
  exact hq d A3 ((ySm.rf.tr f1 rfl rfl : ySm A A1 [21] [10, 11]).tr f rfl rfl) ((x1.tr x3).le (by decide) (by decide) (by decide))
/-- .. and closed -/
theorem cs_close {A : cS} (s : jS A) (d1 : 1 ≤ yv A 11) {Q E : cS → Prop} (hE : ∀ A', jF A A' → jB5 A' → E A') (hq : ∀ A', ySm A A' [21] [10, 11] → jX A A' (if yv A' 10 = yv A 10 then 0 else -2) 0 (-1) → (yv A' 10 = yv A 10 → yget A' 14 (yv A' 10) = 6) → Q A') : wc_Parser_close A Q E := by
  have b := s.b
  have sa := s.a
  have d := s.d
  unfold wc_Parser_close wc_Parser_kind
  refine ⟨fun c6 => ?_, fun _ => cs_refuse s _ hE⟩
  have f1 : ySm A (ypop A 21) [21] [] := ySm.rf.pop rfl
  have z1 : yz (ypop A 21) 21 = yz A 21 - 1 := rfl
  unfold wc_Parser_close_13 wc_Parser_info
  dsimp only
  generalize ypop A 21 = A1 at f1 z1
  have t1 : jt A1 = jt A := by unfold jt; rw [f1.z 14 rfl, f1.v 10 rfl]
  have b21 : yz A 21 ≤ 1390 := by
    have := b.2.2.1
    unfold j21 jt at this
    omega
  have m2 : j2 A1 = j2 A := by unfold j2; rw [f1.z 2 rfl, t1]
  have m7 : j7 A1 = j7 A := by unfold j7; rw [f1.z 7 rfl, f1.z 22 rfl, t1]
  have x1 : jX A A1 0 0 0 := by
    refine ⟨ySm.rf.tr f1 rfl rfl, s.gen f1 rfl (by rw [f1.v 10 rfl]; exact sa) (by rw [f1.v 11 rfl]; exact d) (by rw [f1.z 3 rfl, f1.z 4 rfl, f1.z 5 rfl, f1.z 6 rfl]; exact s.r) ⟨by omega, ?_, ?_, ?_⟩, by rw [f1.v 10 rfl]; exact Int.le_refl _, by omega, by omega, by rw [f1.v 11 rfl]; omega, by rw [f1.z 7 rfl]; exact Nat.le_refl _, s.n.1⟩
    · unfold j3; rw [f1.z 3 rfl, t1]; exact b.2.1
    · have := b.2.2.1
      unfold j21 at this ⊢; rw [z1, t1]; omega
    · unfold j23; rw [f1.z 23 rfl, t1]; exact b.2.2.2
  have k1 : yget A1 14 (yv A1 10) = 6 := by rw [f1.v 10 rfl, f1.g 14 _ rfl]; exact c6
  have adv : wc_Parser_advance A1 (fun A16 => (zR ((yv A16 11) - 1)) ∧ Q (ypv A16 11 ((yv A16 11) - 1))) := by
    refine cs_adv x1.s (by rw [k1]; decide) (fun A2 f2 x2 e2 => ?_)
    have d2 : yv A2 11 = yv A 11 := by rw [f2.v 11 rfl, f1.v 11 rfl]
    obtain ⟨f3, x3⟩ := cs_dep x2.s (yv A2 11 - 1) (by omega)
    have e10 : yv (ypv A2 11 (yv A2 11 - 1)) 10 = yv A 10 + 1 := by rw [f3.v 10 rfl, e2, f1.v 10 rfl]
    refine ⟨⟨by omega, by omega⟩, hq _ (((ySm.rf.tr f1 rfl rfl : ySm A A1 [21] [10, 11]).tr f2 rfl rfl).tr f3 rfl rfl) (((x1.tr x2).tr x3).le ?_ (by decide) (by omega)) (fun q => by omega)⟩
    rw [if_neg (by omega)]
    omega
  have stay : (zR ((yv A1 11) - 1)) ∧ Q (ypv A1 11 ((yv A1 11) - 1)) := by
    have d2 : yv A1 11 = yv A 11 := f1.v 11 rfl
    obtain ⟨f3, x3⟩ := cs_dep x1.s (yv A1 11 - 1) (by omega)
    have e10 : yv (ypv A1 11 (yv A1 11 - 1)) 10 = yv A 10 := by rw [f3.v 10 rfl, f1.v 10 rfl]
    refine ⟨⟨by omega, by omega⟩, hq _ ((ySm.rf.tr f1 rfl rfl : ySm A A1 [21] [10, 11]).tr f3 rfl rfl) ((x1.tr x3).le ?_ (by decide) (by omega)) (fun q => ?_)⟩
    · rw [if_pos e10]
      omega
    · rw [e10, f3.g 14 _ rfl, f1.g 14 _ rfl]
      exact c6
  exact ⟨fun _ => adv, fun _ => ⟨fun _ => cs_isOpen A1 _ (by omega) (fun r => ⟨fun _ => stay, fun _ => cs_refuse x1.s _ (fun A' f b => hE A' ((ySm.rf.tr f1 rfl rfl : jF A A1).tr f rfl rfl) b)⟩), fun _ => adv⟩⟩
theorem cs_passDo {A : cS} (s : jS A) {Q E : cS → Prop} (hE : ∀ A', jF A A' → jB5 A' → E A') (hq : ¬ yget A 14 (yv A 10) = 6 → ¬ yget A 14 (yv A 10) = 10 → ∀ A', ySm A A' [] [10] → jX A A' 0 0 0 → Q A') : wc_Parser_passDo A Q E := by
  have P : wc_Parser_passDo_33 Q E A (yget A 14 (yv A 10)) := by
    unfold wc_Parser_passDo_33
    exact ⟨fun _ => ⟨fun c => hq (by omega) (by omega) A ySm.rf (jX.rf s), fun _ => cs_refuse s _ hE⟩, fun c => cs_adv s (by omega) (fun A' f x _ => hq (by omega) (by omega) A' f (x.le (by decide) (by decide) rfl))⟩
  unfold wc_Parser_passDo wc_Parser_kind
  exact ⟨fun _ => P, fun _ => ⟨fun _ => P, fun _ => ⟨fun _ => P, fun _ => ⟨fun _ => P, fun _ => ⟨fun _ => ⟨fun c => hq (by omega) (by omega) A ySm.rf (jX.rf s), fun _ => hq (by omega) (by omega) A ySm.rf (jX.rf s)⟩, fun c => cs_adv s (by omega) (fun A' f x _ => hq (by omega) (by omega) A' f (x.le (by decide) (by decide) rfl))⟩⟩⟩⟩⟩
/-- a routine more -/
theorem cs_addRoutine {A : cS} (s : jS A) (b2 : j2 A ≤ 79899) (b3 : j3 A ≤ 1389) (a : Int) {Q : Int → cS → Prop} (hq : ∀ r A', ySm A A' [2, 3, 4, 5, 6] [] → jX A A' 0 1 0 → Q r A') : wc_Program_addRoutine A a Q := by
  have sa := s.a
  have sr := s.r
  have c3 : yz A 3 ≤ 1389 := by unfold j3 jt at b3; omega
  have R : ∀ (A1 : cS) (x r : Int), ySm A A1 [2] [] → jX A A1 0 1 0 → Q r (yadd (yadd (yadd (yadd A1 3 x) 4 0) 5 0) 6 0) := fun A1 x r f1 x1 => by
    have f2 : ySm A1 (yadd (yadd (yadd (yadd A1 3 x) 4 0) 5 0) 6 0) [3, 4, 5, 6] [] := (((ySm.rf.add rfl).add rfl).add rfl).add rfl
    have z3 : yz (yadd (yadd (yadd (yadd A1 3 x) 4 0) 5 0) 6 0) 3 = yz A1 3 + 1 := rfl
    have z4 : yz (yadd (yadd (yadd (yadd A1 3 x) 4 0) 5 0) 6 0) 4 = yz A1 4 + 1 := rfl
    have z5 : yz (yadd (yadd (yadd (yadd A1 3 x) 4 0) 5 0) 6 0) 5 = yz A1 5 + 1 := rfl
    have z6 : yz (yadd (yadd (yadd (yadd A1 3 x) 4 0) 5 0) 6 0) 6 = yz A1 6 + 1 := rfl
    generalize yadd (yadd (yadd (yadd A1 3 x) 4 0) 5 0) 6 0 = A2 at f2 z3 z4 z5 z6
    have t2 : jt A2 = jt A1 := by unfold jt; rw [f2.z 14 rfl, f2.v 10 rfl]
    have t1 : jt A1 = jt A := by unfold jt; rw [f1.z 14 rfl, f1.v 10 rfl]
    have b := x1.s.b
    have r1 := x1.s.r
    have e3 : yz A1 3 = yz A 3 := f1.z 3 rfl
    refine hq r A2 ((ySm.rf.tr f1 rfl rfl : ySm A A1 [2, 3, 4, 5, 6] []).tr f2 rfl rfl) ((x1.tr (⟨ySm.rf.tr f2 rfl rfl, x1.s.gen f2 rfl (by rw [f2.v 10 rfl]; exact x1.s.a) (by rw [f2.v 11 rfl]; exact x1.s.d) ⟨by omega, by omega, by omega⟩ ⟨?_, ?_, ?_, ?_⟩, by rw [f2.v 10 rfl]; exact Int.le_refl _, ?_, ?_, by rw [f2.v 11 rfl]; omega, by rw [f2.z 7 rfl]; exact Nat.le_refl _, x1.s.n.1⟩ : jX A1 A2 0 0 0)).le (by decide) (by decide) (by decide))
    · unfold j2; rw [f2.z 2 rfl, t2]; exact b.1
    · unfold j3 at b3 ⊢; rw [z3, t2, t1]; omega
    · unfold j21; rw [f2.z 21 rfl, t2]; exact b.2.2.1
    · unfold j23; rw [f2.z 23 rfl, t2]; exact b.2.2.2
    · unfold j7; rw [f2.z 7 rfl, f2.z 22 rfl, t2]; omega
    · unfold j2; rw [f2.z 2 rfl, t2]; omega
  unfold wc_Program_addRoutine
  refine ⟨fun _ => ⟨by omega, by omega, by omega, by omega, R A _ _ ySm.rf ((jX.rf s).le (by decide) (by decide) rfl)⟩, fun _ => ⟨⟨by omega, by omega⟩, cs_word s b2 _ (fun r A1 f1 x1 _ => ?_)⟩⟩
  have e3 : yz A1 3 = yz A 3 := f1.z 3 rfl
  have e4 : yz A1 4 = yz A 4 := f1.z 4 rfl
  have e5 : yz A1 5 = yz A 5 := f1.z 5 rfl
  have e6 : yz A1 6 = yz A 6 := f1.z 6 rfl
  exact ⟨by omega, by omega, by omega, by omega, R A1 _ _ f1 x1⟩
theorem cs_setStarter {A : cS} (s : jS A) (a : Int) {Q : cS → Prop} (hq : ∀ A', ySm A A' [] [3] → jX A A' 0 0 0 → Q A') : wc_Program_setStarter A a Q := by
  have f : ySm A (ypv A 3 a) [] [3] := ySm.rf.pv rfl
  have e10 : yv (ypv A 3 a) 10 = yv A 10 := rfl
  unfold wc_Program_setStarter
  refine ⟨fun _ => hq A ySm.rf (jX.rf s), fun _ => hq _ f ⟨ySm.rf.tr f rfl rfl, s.sm f rfl ⟨Int.le_refl _, s.a.2⟩ s.d, Int.le_refl _, ?_, ?_, ?_, Nat.le_refl _, s.n.1⟩⟩
  · show j7 A ≤ _
    omega
  · show j2 A ≤ _
    omega
  · show yv A 11 = _
    omega
