def gT3 (d : gD) (F : gM) (a q n z : Nat → Nat) : Prop := (∀ i, i < 3 → (∃ f, gIn d F (a i) (q i) 1000000 (n i) (z i) f) ∧ n i ≤ 16 + 2 * z i) ∧ (∀ i j, i < 3 → j < 3 → a i = a j → i = j) ∧ ∀ i j, i < 3 → j < 3 → q i = q j → i = j
/-- of the cells of F those alone move that three rows have; their cells are the old ones, or new -/
def gS3 (F F' : gM) (a q q' : Nat → Nat) : Prop := (∀ x, F x ≠ g0 → (∀ i, i < 3 → x ≠ a i ∧ x ≠ q i) → F' x = F x) ∧ (∀ i, i < 3 → q' i = q i ∨ F (q' i) = g0) ∧ ∀ x, F x ≠ g0 → F' x ≠ g0
theorem gS3.rf {F : gM} {a q : Nat → Nat} : gS3 F F a q q := ⟨fun _ _ _ => rfl, fun _ _ => Or.inl rfl, fun _ h => h⟩
theorem gS3.tr {F F1 F2 : gM} {a q q1 q2 : Nat → Nat} (h : gS3 F F1 a q q1) (h2 : gS3 F1 F2 a q1 q2) : gS3 F F2 a q q2 := by
  refine ⟨fun x hx hn => ?_, fun i hi => ?_, fun x hx => h2.2.2 x (h.2.2 x hx)⟩
  · have e := h.1 x hx hn
    rw [← e]
    refine h2.1 x (h.2.2 x hx) (fun i hi => ⟨(hn i hi).1, fun z => ?_⟩)
    rcases h.2.1 i hi with g | g
    · exact (hn i hi).2 (z.trans g)
    · exact hx (by rw [z]; exact g)
  · rcases h2.2.1 i hi with g | g
    · rw [g]; exact h.2.1 i hi
    · exact Or.inr (Classical.byContradiction fun z => h.2.2 _ z g)
theorem gT3.add {d : gD} {F F' : gM} {a q n z : Nat → Nat} (h : gT3 d F a q n z) {i : Nat} (hi : i < 3) {f : Nat → Int32} {x : Int32} (hz : z i < 1000000) (hp : (z i < 1000000 → ∃ (q' : Nat) (f' : Nat → Int32), gIn d F' (a i) q' 1000000 (gAn 1000000 (n i) (z i)) (z i + 1) f' ∧ (q' = q i ∨ F q' = g0) ∧ (∀ j, j < z i → f' j = f j) ∧ f' (z i) = x) ∧ (1000000 ≤ z i → F' = F) ∧ gFr F F' (a i) (q i) ∧ F' (q i) ≠ g0) :
    ∃ q' : Nat → Nat, gT3 d F' a q' (va_up n i (gAn 1000000 (n i) (z i))) (va_up z i (z i + 1)) ∧ gS3 F F' a q q' := by
  obtain ⟨p1, -, p3, p4⟩ := hp
  obtain ⟨qn, fn, g1, g2, -, -⟩ := p1 hz
  have nq : ∀ j, j < 3 → j ≠ i → q j ≠ qn := fun j hj hn e => by
    obtain ⟨⟨fj, gj⟩, -⟩ := h.1 j hj
    rcases g2 with g2 | g2
    · exact hn (h.2.2 j i hj hi (e.trans g2))
    · exact gj.na.2 (by rw [e]; exact g2)
  refine ⟨va_up q i qn, ⟨fun j hj => ?_, h.2.1, fun j k hj hk e => ?_⟩, fun y hy hn => p3 y (hn i hi).1 (hn i hi).2 hy, fun j hj => ?_, fun y hy => ?_⟩
  · by_cases c : j = i
    · subst c
      rw [va_up_self, va_up_self, va_up_self]
      refine ⟨⟨_, g1⟩, ?_⟩
      obtain ⟨⟨fj, gj⟩, hb⟩ := h.1 j hj
      have := gj.2.2.1
      unfold gAn
      split
      · omega
      · exact Nat.le_trans (Nat.min_le_right _ _) (by omega)
    · rw [va_up_ne _ _ c, va_up_ne _ _ c, va_up_ne _ _ c]
      obtain ⟨⟨fj, gj⟩, hb⟩ := h.1 j hj
      obtain ⟨⟨fi, gi⟩, -⟩ := h.1 i hi
      exact ⟨⟨fj, gj.kept (p3 _ (fun e => c (h.2.1 j i hj hi e)) (gne gj.1 gi.2.1 gk_oa) gj.na.1) (p3 _ (gne gj.2.1 gi.1 gk_ao) (fun e => c (h.2.2 j i hj hi e)) gj.na.2)⟩, hb⟩
  · by_cases cj : j = i
    · by_cases ck : k = i
      · rw [cj, ck]
      · subst cj
        rw [va_up_self, va_up_ne _ _ ck] at e
        exact absurd e.symm (nq k hk ck)
    · by_cases ck : k = i
      · subst ck
        rw [va_up_self, va_up_ne _ _ cj] at e
        exact absurd e (nq j hj cj)
      · rw [va_up_ne _ _ cj, va_up_ne _ _ ck] at e
        exact h.2.2 j k hj hk e
  · by_cases c : j = i
    · subst c
      rw [va_up_self]; exact g2
    · rw [va_up_ne _ _ c]; exact Or.inl rfl
  · by_cases c1 : y = a i
    · rw [c1, g1.1]; exact g0_o
    · by_cases c2 : y = q i
      · rw [c2]; exact p4
      · rw [p3 y c1 c2 hy]; exact hy
theorem gT3.in {d : gD} {F : gM} {a q n z : Nat → Nat} (h : gT3 d F a q n z) (i : Nat) (hi : i < 3) : ∃ f, gIn d F (a i) (q i) 1000000 (n i) (z i) f := (h.1 i hi).1
/-- a row beside the three -/
def gB3 (a q : Nat → Nat) (r p : Nat) : Prop := ∀ i, i < 3 → r ≠ a i ∧ p ≠ q i
theorem gB3.st {d : gD} {F F' : gM} {a q q' n z : Nat → Nat} {r p m y : Nat} {f : Nat → Int32} (h : gB3 a q r p) (h3 : gT3 d F a q n z) (hr : gIn d F r p 1000000 m y f) (hs : gS3 F F' a q q') : gB3 a q' r p ∧ gIn d F' r p 1000000 m y f := by
  refine ⟨fun i hi => ⟨(h i hi).1, fun e => ?_⟩, hr.kept (hs.1 _ hr.na.1 (fun i hi => ⟨(h i hi).1, ?_⟩)) (hs.1 _ hr.na.2 (fun i hi => ⟨?_, (h i hi).2⟩))⟩
  · rcases hs.2.1 i hi with g | g
    · exact (h i hi).2 (e.trans g)
    · exact hr.na.2 (by rw [e]; exact g)
  · obtain ⟨f2, g⟩ := h3.in i hi
    exact gne hr.1 g.2.1 gk_oa
  · obtain ⟨f2, g⟩ := h3.in i hi
    exact gne hr.2.1 g.1 gk_ao
theorem gS3.ob {d : gD} {F F' : gM} {a q q' n z : Nat → Nat} {t c : Nat} {v : Value} {fs : List Value} (hs : gS3 F F' a q q') (h3 : gT3 d F a q n z) (ht : F t = .inr (c, v :: fs)) (hc : (c == 4) = false) : F' t = .inr (c, v :: fs) := (hs.1 t (by rw [ht]; exact g0_o) (fun i hi => by
  obtain ⟨f2, g⟩ := h3.in i hi
  exact ⟨gne ht g.1 (gk_oo hc), gne ht g.2.1 gk_oa⟩)).trans ht
theorem gLim (x : Int32) : ∃ N : Nat, N < 2 ^ 31 ∧ x ≤ nI N ∧ ∀ j, j < N → ¬ x ≤ nI j := by
  by_cases h : x < 0
  · exact ⟨0, by decide, Int32.le_of_lt h, fun j hj => absurd hj (Nat.not_lt_zero j)⟩
  · obtain ⟨N, hN, rfl⟩ := nI_of h
    exact ⟨N, hN, nI_le (Nat.le_refl N) hN, fun j hj => nI_ge hj hN⟩
theorem gAsB {n z : Nat} (h : n ≤ 16 + 2 * z) (hz : z ≤ n) : gAs 1000000 n z ≤ 2 * (16 + 2 * z) ∧ gAc n z ≤ 1 := by
  unfold gAs gAc
  constructor
  · split
    · omega
    · exact Nat.le_trans (Nat.min_le_right _ _) (by omega)
  · split <;> omega
set_option maxHeartbeats 4000000 in
set_option maxRecDepth 100000 in
theorem c_S_isAlike (l : Launch) (d : gD) (b : Nat) (F : gM) (t tx a0 a1 a2 a3 aL aH aS : Nat) (hT : F t = (.inr (8, [.ref tx, .ref a0, .ref a1, .ref a2, .ref a3, .ref aL, .ref aH, .ref aS, .int 0, .int 0, .int 0]))) (qL nL zL qH nH zH ar qr nr zr : Nat) (fL fH fr : Nat → Int32) (hL : gIn d F aL qL 1000000 nL zL fL) (hH : gIn d F aH qH 1000000 nH zH fH) (hr : gIn d F ar qr 1000000 nr zr fr) (i1 i3 i4 : Int32) : gMi l d b yX8_isAlike cX8_isAlike 8 .boolean 1 0 0 F [.ref t, .int i1, .ref ar, .int i3, .int i4] (fun r F' => (r = 0 ∨ r = 1) ∧ F' = F) := by
  refine gM_of2 rfl (nL := 8) (Nat.le_of_ble_eq_true rfl) ?_
  intro X hX hC; subst hX
  show gG X d b _ F 0 0 0 [some (.ref t), some (.int i1), some (.ref ar), some (.int i3), some (.int i4), none, none, none] []
  refine g_aload_n hC dX8_isAlike_0 rfl ?_
  refine g_get hC fl_X8_33 hT rfl dX8_isAlike_1 ?_
  refine g_iload_n hC dX8_isAlike_4 rfl ?_
  refine g_callVi (As := [.int i1]) hC rfl hH.1 (c_Ints_get X.la d b F _ _ _ _ _ _ hH i1) cl_X8_88 rfl rfl (Nat.le_of_ble_eq_true rfl) (gFit_of (Nat.le_of_ble_eq_true rfl) (Nat.le_of_ble_eq_true rfl) (by first | exact Nat.le_of_ble_eq_true rfl | omega | (simp only [gR]; omega)) (by first | exact Nat.le_of_ble_eq_true rfl | omega | (simp only [gR]; omega))) dX8_isAlike_5 (fun r1 F2 p3 => ?_)
  obtain ⟨er1, eF2⟩ := p3; have eF2 := eF2.symm; subst eF2
  refine g_istore (lv' := [some (.ref t), some (.int i1), some (.ref ar), some (.int i3), some (.int i4), some (.int r1), none, none]) hC dX8_isAlike_8 (Nat.le_of_ble_eq_true rfl) rfl rfl ?_
  refine g_iload_n hC dX8_isAlike_10 rfl ?_
  refine g_iconst (v := 1) hC dX8_isAlike_11 rfl ?_
  refine g_iadd hC dX8_isAlike_12 ?_
  refine g_vi (fun x4 ex4 => ?_)
  refine g_aload_n hC dX8_isAlike_13 rfl ?_
  refine g_get hC fl_X8_33 hT rfl dX8_isAlike_14 ?_
  refine g_callVi (As := []) hC rfl hH.1 (c_Ints_size X.la d b F _ _ _ _ _ _ hH) cl_X8_62 rfl rfl (Nat.le_of_ble_eq_true rfl) (gFit_of (Nat.le_of_ble_eq_true rfl) (Nat.le_of_ble_eq_true rfl) (by first | exact Nat.le_of_ble_eq_true rfl | omega | (simp only [gR]; omega)) (by first | exact Nat.le_of_ble_eq_true rfl | omega | (simp only [gR]; omega))) dX8_isAlike_17 (fun r5 F6 p7 => ?_)
  obtain ⟨rfl, eF6⟩ := p7; have eF6 := eF6.symm; subst eF6
  refine g_icmp_ge (tgt := 36) hC dX8_isAlike_20 (by decide) (fun c8 => ?_) (fun c8 => ?_)
  · refine g_aload_n hC dX8_isAlike_36 rfl ?_
    refine g_get hC fl_X8_30 hT rfl dX8_isAlike_37 ?_
    refine g_callVi (As := []) hC rfl hL.1 (c_Ints_size X.la d b F _ _ _ _ _ _ hL) cl_X8_62 rfl rfl (Nat.le_of_ble_eq_true rfl) (gFit_of (Nat.le_of_ble_eq_true rfl) (Nat.le_of_ble_eq_true rfl) (by first | exact Nat.le_of_ble_eq_true rfl | omega | (simp only [gR]; omega)) (by first | exact Nat.le_of_ble_eq_true rfl | omega | (simp only [gR]; omega))) dX8_isAlike_40 (fun r9 F10 p11 => ?_)
    obtain ⟨rfl, eF10⟩ := p11; have eF10 := eF10.symm; subst eF10
    refine g_istore (lv' := [some (.ref t), some (.int i1), some (.ref ar), some (.int i3), some (.int i4), some (.int r1), some (.int (nI zL)), none]) hC dX8_isAlike_43 (Nat.le_of_ble_eq_true rfl) rfl rfl ?_
    refine g_iload hC dX8_isAlike_45 rfl ?_
    refine g_iload hC dX8_isAlike_47 rfl ?_
    refine g_isub hC dX8_isAlike_49 ?_
    refine g_vi (fun x12 ex12 => ?_)
    refine g_iload hC dX8_isAlike_50 rfl ?_
    refine g_iload_n hC dX8_isAlike_52 rfl ?_
    refine g_isub hC dX8_isAlike_53 ?_
    refine g_vi (fun x13 ex13 => ?_)
    refine g_icmp_eq (tgt := 59) hC dX8_isAlike_54 (by decide) (fun c14 => ?_) (fun c14 => ?_)
    · refine g_iconst (v := 0) hC dX8_isAlike_59 rfl ?_
      refine g_istore (lv' := [some (.ref t), some (.int i1), some (.ref ar), some (.int i3), some (.int i4), some (.int r1), some (.int (nI zL)), some (.int 0)]) hC dX8_isAlike_60 (Nat.le_of_ble_eq_true rfl) rfl rfl ?_
      obtain ⟨N, hN, hN1, hN2⟩ := gLim (i4 - i3)
      have LOOP : ∀ (m j : Nat), m + j = N + 1 → j ≤ N → gG X d b (MQ X.be (va_Qi (fun r F' => (r = 0 ∨ r = 1) ∧ F' = F) (gB d b) (fun q => b ≤ q)) X.ar X.st 0 0 (fun q => b ≤ q)) F (0 + 0 + 0 + 0) (0 + 0 + 0 + 0) 62 [some (.ref t), some (.int i1), some (.ref ar), some (.int i3), some (.int i4), some (.int r1), some (.int (nI zL)), some (.int (nI j))] [] := by
        intro m
        induction m with
        | zero => intro j h1 h2; exact absurd h1 (by omega)
        | succ m ih =>
          intro j h1 h2
          refine g_iload hC dX8_isAlike_62 rfl ?_
          refine g_iload hC dX8_isAlike_64 rfl ?_
          refine g_iload_n hC dX8_isAlike_66 rfl ?_
          refine g_isub hC dX8_isAlike_67 ?_
          refine g_vi (fun x15 ex15 => ?_)
          refine g_icmp_ge (tgt := 102) hC dX8_isAlike_68 (by decide) (fun c16 => ?_) (fun c16 => ?_)
          · refine g_iconst (v := 1) hC dX8_isAlike_102 rfl ?_
            exact g_iret hC rfl ⟨Or.inr rfl, rfl⟩ (by first | exact Nat.le_of_ble_eq_true rfl | omega | (simp only [gR]; omega)) (by first | exact Nat.le_of_ble_eq_true rfl | omega | (simp only [gR]; omega)) dX8_isAlike_103
          · have hjN : j < N := Nat.lt_of_le_of_ne h2 (fun e => c16 (by rw [e, ex15]; exact hN1))
            refine g_aload_n hC dX8_isAlike_71 rfl ?_
            refine g_get hC fl_X8_30 hT rfl dX8_isAlike_72 ?_
            refine g_iload hC dX8_isAlike_75 rfl ?_
            refine g_iload hC dX8_isAlike_77 rfl ?_
            refine g_iadd hC dX8_isAlike_79 ?_
            refine g_vi (fun x17 ex17 => ?_)
            refine g_callVi (As := [.int x17]) hC rfl hL.1 (c_Ints_get X.la d b F _ _ _ _ _ _ hL x17) cl_X8_88 rfl rfl (Nat.le_of_ble_eq_true rfl) (gFit_of (Nat.le_of_ble_eq_true rfl) (Nat.le_of_ble_eq_true rfl) (by first | exact Nat.le_of_ble_eq_true rfl | omega | (simp only [gR]; omega)) (by first | exact Nat.le_of_ble_eq_true rfl | omega | (simp only [gR]; omega))) dX8_isAlike_80 (fun r18 F19 p20 => ?_)
            obtain ⟨er18, eF19⟩ := p20; have eF19 := eF19.symm; subst eF19
            refine g_aload_n hC dX8_isAlike_83 rfl ?_
            refine g_iload_n hC dX8_isAlike_84 rfl ?_
            refine g_iload hC dX8_isAlike_85 rfl ?_
            refine g_iadd hC dX8_isAlike_87 ?_
            refine g_vi (fun x21 ex21 => ?_)
            refine g_callVi (As := [.int x21]) hC rfl hr.1 (c_Ints_get X.la d b F _ _ _ _ _ _ hr x21) cl_X8_88 rfl rfl (Nat.le_of_ble_eq_true rfl) (gFit_of (Nat.le_of_ble_eq_true rfl) (Nat.le_of_ble_eq_true rfl) (by first | exact Nat.le_of_ble_eq_true rfl | omega | (simp only [gR]; omega)) (by first | exact Nat.le_of_ble_eq_true rfl | omega | (simp only [gR]; omega))) dX8_isAlike_88 (fun r22 F23 p24 => ?_)
            obtain ⟨er22, eF23⟩ := p24; have eF23 := eF23.symm; subst eF23
            refine g_icmp_eq (tgt := 96) hC dX8_isAlike_91 (by decide) (fun c25 => ?_) (fun c25 => ?_)
            · obtain ⟨x26, ex26⟩ : ∃ y : Int32, y = (nI j) + 1 := ⟨_, rfl⟩
              refine g_iinc (v := x26) (lv' := [some (.ref t), some (.int i1), some (.ref ar), some (.int i3), some (.int i4), some (.int r1), some (.int (nI zL)), some (.int x26)]) hC dX8_isAlike_96 rfl (by rw [ex26]; rfl) rfl rfl ?_
              have zx26 : x26 = nI (j + 1) := by rw [ex26]; exact nI_1 j
              subst zx26
              refine g_goto (tgt := 62) hC dX8_isAlike_99 (by decide) ?_
              exact g_widen (Nat.le_of_ble_eq_true rfl) (Nat.le_of_ble_eq_true rfl) (ih (j + 1) (by omega) (by omega))
            · refine g_iconst (v := 0) hC dX8_isAlike_94 rfl ?_
              exact g_iret hC rfl ⟨Or.inl rfl, rfl⟩ (by first | exact Nat.le_of_ble_eq_true rfl | omega | (simp only [gR]; omega)) (by first | exact Nat.le_of_ble_eq_true rfl | omega | (simp only [gR]; omega)) dX8_isAlike_95
      exact g_widen (Nat.le_refl _) (Nat.le_refl _) (LOOP (N + 1) 0 rfl (Nat.zero_le _))
    · refine g_iconst (v := 0) hC dX8_isAlike_57 rfl ?_
      exact g_iret hC rfl ⟨Or.inl rfl, rfl⟩ (by first | exact Nat.le_of_ble_eq_true rfl | omega | (simp only [gR]; omega)) (by first | exact Nat.le_of_ble_eq_true rfl | omega | (simp only [gR]; omega)) dX8_isAlike_58
  · refine g_aload_n hC dX8_isAlike_23 rfl ?_
    refine g_get hC fl_X8_33 hT rfl dX8_isAlike_24 ?_
    refine g_iload_n hC dX8_isAlike_27 rfl ?_
    refine g_iconst (v := 1) hC dX8_isAlike_28 rfl ?_
    refine g_iadd hC dX8_isAlike_29 ?_
    refine g_vi (fun x27 ex27 => ?_)
    refine g_callVi (As := [.int x27]) hC rfl hH.1 (c_Ints_get X.la d b F _ _ _ _ _ _ hH x27) cl_X8_88 rfl rfl (Nat.le_of_ble_eq_true rfl) (gFit_of (Nat.le_of_ble_eq_true rfl) (Nat.le_of_ble_eq_true rfl) (by first | exact Nat.le_of_ble_eq_true rfl | omega | (simp only [gR]; omega)) (by first | exact Nat.le_of_ble_eq_true rfl | omega | (simp only [gR]; omega))) dX8_isAlike_30 (fun r28 F29 p30 => ?_)
    obtain ⟨er28, eF29⟩ := p30; have eF29 := eF29.symm; subst eF29
    refine g_goto (tgt := 43) hC dX8_isAlike_33 (by decide) ?_
    refine g_istore (lv' := [some (.ref t), some (.int i1), some (.ref ar), some (.int i3), some (.int i4), some (.int r1), some (.int r28), none]) hC dX8_isAlike_43 (Nat.le_of_ble_eq_true rfl) rfl rfl ?_
    refine g_iload hC dX8_isAlike_45 rfl ?_
    refine g_iload hC dX8_isAlike_47 rfl ?_
    refine g_isub hC dX8_isAlike_49 ?_
    refine g_vi (fun x31 ex31 => ?_)
    refine g_iload hC dX8_isAlike_50 rfl ?_
    refine g_iload_n hC dX8_isAlike_52 rfl ?_
    refine g_isub hC dX8_isAlike_53 ?_
    refine g_vi (fun x32 ex32 => ?_)
    refine g_icmp_eq (tgt := 59) hC dX8_isAlike_54 (by decide) (fun c33 => ?_) (fun c33 => ?_)
    · refine g_iconst (v := 0) hC dX8_isAlike_59 rfl ?_
      refine g_istore (lv' := [some (.ref t), some (.int i1), some (.ref ar), some (.int i3), some (.int i4), some (.int r1), some (.int r28), some (.int 0)]) hC dX8_isAlike_60 (Nat.le_of_ble_eq_true rfl) rfl rfl ?_
      obtain ⟨N, hN, hN1, hN2⟩ := gLim (i4 - i3)
      have LOOP : ∀ (m j : Nat), m + j = N + 1 → j ≤ N → gG X d b (MQ X.be (va_Qi (fun r F' => (r = 0 ∨ r = 1) ∧ F' = F) (gB d b) (fun q => b ≤ q)) X.ar X.st 0 0 (fun q => b ≤ q)) F (0 + 0 + 0 + 0) (0 + 0 + 0 + 0) 62 [some (.ref t), some (.int i1), some (.ref ar), some (.int i3), some (.int i4), some (.int r1), some (.int r28), some (.int (nI j))] [] := by
        intro m
        induction m with
        | zero => intro j h1 h2; exact absurd h1 (by omega)
        | succ m ih =>
          intro j h1 h2
          refine g_iload hC dX8_isAlike_62 rfl ?_
          refine g_iload hC dX8_isAlike_64 rfl ?_
          refine g_iload_n hC dX8_isAlike_66 rfl ?_
          refine g_isub hC dX8_isAlike_67 ?_
          refine g_vi (fun x34 ex34 => ?_)
          refine g_icmp_ge (tgt := 102) hC dX8_isAlike_68 (by decide) (fun c35 => ?_) (fun c35 => ?_)
          · refine g_iconst (v := 1) hC dX8_isAlike_102 rfl ?_
            exact g_iret hC rfl ⟨Or.inr rfl, rfl⟩ (by first | exact Nat.le_of_ble_eq_true rfl | omega | (simp only [gR]; omega)) (by first | exact Nat.le_of_ble_eq_true rfl | omega | (simp only [gR]; omega)) dX8_isAlike_103
          · have hjN : j < N := Nat.lt_of_le_of_ne h2 (fun e => c35 (by rw [e, ex34]; exact hN1))
            refine g_aload_n hC dX8_isAlike_71 rfl ?_
            refine g_get hC fl_X8_30 hT rfl dX8_isAlike_72 ?_
            refine g_iload hC dX8_isAlike_75 rfl ?_
            refine g_iload hC dX8_isAlike_77 rfl ?_
            refine g_iadd hC dX8_isAlike_79 ?_
            refine g_vi (fun x36 ex36 => ?_)
            refine g_callVi (As := [.int x36]) hC rfl hL.1 (c_Ints_get X.la d b F _ _ _ _ _ _ hL x36) cl_X8_88 rfl rfl (Nat.le_of_ble_eq_true rfl) (gFit_of (Nat.le_of_ble_eq_true rfl) (Nat.le_of_ble_eq_true rfl) (by first | exact Nat.le_of_ble_eq_true rfl | omega | (simp only [gR]; omega)) (by first | exact Nat.le_of_ble_eq_true rfl | omega | (simp only [gR]; omega))) dX8_isAlike_80 (fun r37 F38 p39 => ?_)
            obtain ⟨er37, eF38⟩ := p39; have eF38 := eF38.symm; subst eF38
            refine g_aload_n hC dX8_isAlike_83 rfl ?_
            refine g_iload_n hC dX8_isAlike_84 rfl ?_
            refine g_iload hC dX8_isAlike_85 rfl ?_
            refine g_iadd hC dX8_isAlike_87 ?_
            refine g_vi (fun x40 ex40 => ?_)
            refine g_callVi (As := [.int x40]) hC rfl hr.1 (c_Ints_get X.la d b F _ _ _ _ _ _ hr x40) cl_X8_88 rfl rfl (Nat.le_of_ble_eq_true rfl) (gFit_of (Nat.le_of_ble_eq_true rfl) (Nat.le_of_ble_eq_true rfl) (by first | exact Nat.le_of_ble_eq_true rfl | omega | (simp only [gR]; omega)) (by first | exact Nat.le_of_ble_eq_true rfl | omega | (simp only [gR]; omega))) dX8_isAlike_88 (fun r41 F42 p43 => ?_)
            obtain ⟨er41, eF42⟩ := p43; have eF42 := eF42.symm; subst eF42
            refine g_icmp_eq (tgt := 96) hC dX8_isAlike_91 (by decide) (fun c44 => ?_) (fun c44 => ?_)
            · obtain ⟨x45, ex45⟩ : ∃ y : Int32, y = (nI j) + 1 := ⟨_, rfl⟩
              refine g_iinc (v := x45) (lv' := [some (.ref t), some (.int i1), some (.ref ar), some (.int i3), some (.int i4), some (.int r1), some (.int r28), some (.int x45)]) hC dX8_isAlike_96 rfl (by rw [ex45]; rfl) rfl rfl ?_
              have zx45 : x45 = nI (j + 1) := by rw [ex45]; exact nI_1 j
              subst zx45
              refine g_goto (tgt := 62) hC dX8_isAlike_99 (by decide) ?_
              exact g_widen (Nat.le_of_ble_eq_true rfl) (Nat.le_of_ble_eq_true rfl) (ih (j + 1) (by omega) (by omega))
            · refine g_iconst (v := 0) hC dX8_isAlike_94 rfl ?_
              exact g_iret hC rfl ⟨Or.inl rfl, rfl⟩ (by first | exact Nat.le_of_ble_eq_true rfl | omega | (simp only [gR]; omega)) (by first | exact Nat.le_of_ble_eq_true rfl | omega | (simp only [gR]; omega)) dX8_isAlike_95
      exact g_widen (Nat.le_refl _) (Nat.le_refl _) (LOOP (N + 1) 0 rfl (Nat.zero_le _))
    · refine g_iconst (v := 0) hC dX8_isAlike_57 rfl ?_
      exact g_iret hC rfl ⟨Or.inl rfl, rfl⟩ (by first | exact Nat.le_of_ble_eq_true rfl | omega | (simp only [gR]; omega)) (by first | exact Nat.le_of_ble_eq_true rfl | omega | (simp only [gR]; omega)) dX8_isAlike_58
