theorem dJ7_fill_53178_0 : decode cJ7_fill_53178 0 = .ok (.iconst 0, 1) := by decide +kernel
theorem dJ7_fill_53178_1 : decode cJ7_fill_53178 1 = .ok (.istore_n 2, 1) := by decide +kernel
theorem dJ7_fill_53178_2 : decode cJ7_fill_53178 2 = .ok (.aload_n 0, 1) := by decide +kernel
theorem dJ7_fill_53178_3 : decode cJ7_fill_53178 3 = .ok (.arraylength, 1) := by decide +kernel
theorem dJ7_fill_53178_4 : decode cJ7_fill_53178 4 = .ok (.istore_n 3, 1) := by decide +kernel
theorem dJ7_fill_53178_5 : decode cJ7_fill_53178 5 = .ok (.iload_n 2, 1) := by decide +kernel
theorem dJ7_fill_53178_6 : decode cJ7_fill_53178 6 = .ok (.iload_n 3, 1) := by decide +kernel
theorem dJ7_fill_53178_7 : decode cJ7_fill_53178 7 = .ok (.if_icmp .ge 13, 3) := by decide +kernel
theorem dJ7_fill_53178_10 : decode cJ7_fill_53178 10 = .ok (.aload_n 0, 1) := by decide +kernel
theorem dJ7_fill_53178_11 : decode cJ7_fill_53178 11 = .ok (.iload_n 2, 1) := by decide +kernel
theorem dJ7_fill_53178_12 : decode cJ7_fill_53178 12 = .ok (.iload_n 1, 1) := by decide +kernel
theorem dJ7_fill_53178_13 : decode cJ7_fill_53178 13 = .ok (.iastore, 1) := by decide +kernel
theorem dJ7_fill_53178_14 : decode cJ7_fill_53178 14 = .ok (.iinc 2 1, 3) := by decide +kernel
theorem dJ7_fill_53178_17 : decode cJ7_fill_53178 17 = .ok (.goto (-12), 3) := by decide +kernel
theorem dJ7_fill_53178_20 : decode cJ7_fill_53178 20 = .ok (.return_, 1) := by decide +kernel
set_option maxRecDepth 100000 in
theorem c_fill (l : Launch) (d : gD) (b : Nat) (F : gM) (q n : Nat) (f : Nat → Int32) (hq : F q = .inl (gI d, n, .inl f)) (hn : n < 2 ^ 31) (x : Int32) : gMv l d b yJ7_fill_53178 cJ7_fill_53178 4 0 0 0 F [.ref q, .int x] (fun F' => ∃ f' : Nat → Int32, F' = va_up F q (.inl (gI d, n, .inl f'))) := by
  refine gM_of2 rfl (nL := 4) (Nat.le_of_ble_eq_true rfl) ?_
  intro X hX hC; subst hX
  show gG X d b _ F 0 0 0 [some (.ref q), some (.int x), none, none] []
  refine g_iconst (v := 0) hC dJ7_fill_53178_0 rfl ?_
  refine g_istore_n (lv' := [some (.ref q), some (.int x), some (.int 0), none]) hC dJ7_fill_53178_1 (Nat.le_of_ble_eq_true rfl) rfl rfl ?_
  refine g_aload_n hC dJ7_fill_53178_2 rfl ?_
  refine g_alen hC 0 hq rfl dJ7_fill_53178_3 ?_
  refine g_istore_n (lv' := [some (.ref q), some (.int x), some (.int 0), some (.int (nI n))]) hC dJ7_fill_53178_4 (Nat.le_of_ble_eq_true rfl) rfl rfl ?_
  have L : ∀ m j : Nat, j + m = n → ∀ (F1 : gM) (f1 : Nat → Int32), F1 = va_up F q (.inl (gI d, n, .inl f1)) → gG X d b (MQ X.be (va_Qv (fun F' => ∃ f' : Nat → Int32, F' = va_up F q (.inl (gI d, n, .inl f'))) (gB d b) (fun q => b ≤ q)) X.ar X.st 0 0 (fun q => b ≤ q)) F1 0 0 5 [some (.ref q), some (.int x), some (.int (nI j)), some (.int (nI n))] [] := by
    intro m
    refine Nat.strongRecOn m (fun m ih j hj F1 f1 h1 => ?_)
    have hq1 : F1 q = .inl (gI d, n, .inl f1) := by rw [h1]; exact va_up_self _ _ _
    refine g_iload_n hC dJ7_fill_53178_5 rfl ?_
    refine g_iload_n hC dJ7_fill_53178_6 rfl ?_
    refine g_icmp_ge (tgt := 20) hC dJ7_fill_53178_7 (by decide) (fun c1 => ?_) (fun c1 => ?_)
    · exact g_vret hC ⟨f1, h1⟩ (Nat.le_refl _) (Nat.le_refl _) dJ7_fill_53178_20
    · have hlt := nI_ltB (by omega) c1
      refine g_aload_n hC dJ7_fill_53178_10 rfl ?_
      refine g_iload_n hC dJ7_fill_53178_11 rfl ?_
      refine g_iload_n hC dJ7_fill_53178_12 rfl ?_
      refine g_iast hC hq1 (vp_in_nI hlt (by omega)) dJ7_fill_53178_13 ?_
      refine g_vF (fun F2 h2 => ?_)
      refine g_iinc (v := nI (j + 1)) (lv' := [some (.ref q), some (.int x), some (.int (nI (j + 1))), some (.int (nI n))]) hC dJ7_fill_53178_14 rfl nI_suc rfl rfl ?_
      refine g_goto (tgt := 5) hC dJ7_fill_53178_17 (by decide) ?_
      exact ih (m - 1) (by omega) (j + 1) (by omega) F2 _ (by rw [h2, h1, va_up_up])
  exact L n 0 (Nat.zero_add _) F f (funext fun z => by
    by_cases e : z = q
    · subst e; rw [va_up_self]; exact hq
    · rw [va_up_ne _ _ e])
def u45 (S : gSt) (q N : Nat) (g : Nat → Int32) : gSt := (va_up S.1 45 q, S.2.1, va_up S.2.2.1 45 N, S.2.2.2.1, va_up S.2.2.2.2 45 g)
theorem gfs_45 {Y : gYt} {S : gSt} {q N : Nat} {g : Nat → Int32} : ∀ i, i < 11 → i ≠ 7 → gfs Y (u45 S q N g) i = gfs Y S i := by
  intro i hi hn
  match i, hi, hn with
  | 0, _, _ => rfl
  | 1, _, _ => rfl
  | 2, _, _ => rfl
  | 3, _, _ => rfl
  | 4, _, _ => rfl
  | 5, _, _ => rfl
  | 6, _, _ => rfl
  | 8, _, _ => rfl
  | 9, _, _ => rfl
  | 10, _, _ => rfl
theorem gWT.new45 {d : gD} {Y : gYt} {F F' : gM} {S : gSt} (h : gWT d Y F S) {q N : Nat} {g : Nat → Int32} (hq : F q = g0) (hN : 4096 ≤ N ∧ N ≤ 65536) (hF : F' = va_up (va_up F q (.inl (gI d, N, .inl g))) (gO' Y 7) (.inr (5, gfs Y (u45 S q N g) 7))) : gWT d Y F' (u45 S q N g) ∧ gKp Y F F' := by
  have nq : ∀ x, F x ≠ g0 → x ≠ q := fun x hx e => hx (by rw [e]; exact hq)
  have q7 : q ≠ gO' Y 7 := fun e => h.o_n (i := 7) (by decide) (by rw [← e]; exact hq)
  have kx : ∀ x, F x ≠ g0 → x ≠ gO' Y 7 → F' x = F x := fun x h1 h2 => by rw [hF, va_up_ne _ _ h2, va_up_ne _ _ (nq x h1)]
  have Q7 : ∀ j, j < 46 → sQ S j ≠ gO' Y 7 := fun j hj => by
    obtain ⟨n, f, e⟩ := h.q_i hj
    exact gne e (h.o 7 (by decide)) gk_ao
  have Qn : ∀ j, j < 46 → F (sQ S j) ≠ g0 := fun j hj => by
    obtain ⟨n, f, e⟩ := h.q_i hj
    rw [e]; exact g0_a
  have up : ∀ j, j ≠ 45 → sQ (u45 S q N g) j = sQ S j ∧ sN (u45 S q N g) j = sN S j ∧ sF (u45 S q N g) j = sF S j := fun j hj => ⟨va_up_ne _ _ hj, va_up_ne _ _ hj, va_up_ne _ _ hj⟩
  have e1 : sQ (u45 S q N g) 45 = q := va_up_self S.1 45 q
  have e2 : sN (u45 S q N g) 45 = N := va_up_self S.2.2.1 45 N
  have e3 : sF (u45 S q N g) 45 = g := va_up_self S.2.2.2.2 45 g
  refine ⟨⟨fun i hi => ?_, fun j hj => ?_, ?_, ?_, ⟨h.2.2.2.2.1.1, fun i j hi hj e => ?_⟩, h.2.2.2.2.2.1, fun x hx => ?_⟩, fun x hx => ?_⟩
  · by_cases e : i = 7
    · subst e
      rw [hF]
      exact va_up_self _ _ _
    · rw [kx _ (h.o_n hi) (fun z => e (gci_inj i hi 7 (by decide) (by
        have a := h.o i hi
        have a7 := h.o 7 (by decide)
        rw [z, a7] at a
        exact (congrArg (fun e : va_E => match e with | .inr q => q.1 | .inl _ => 0) a).symm))), gfs_45 i hi e]
      exact h.o i hi
  · obtain ⟨u1, u2, u3⟩ := up j (by omega)
    obtain ⟨h1, h2, h3⟩ := h.r j hj
    refine ⟨?_, ?_, ?_⟩
    · rw [u1, kx _ (by rw [h1]; exact g0_o) (h.a_o (by decide) hj)]
      exact h1
    · rw [u1, u2, u3, kx _ (Qn j (by omega)) (Q7 j (by omega))]
      exact h2
    · rw [u2]
      exact h3
  · obtain ⟨u1, u2, u3⟩ := up 44 (by omega)
    refine ⟨?_, ?_, ?_, ?_⟩
    · rw [u1, u3, kx _ (Qn 44 (by omega)) (Q7 44 (by omega))]
      exact h.p
    · rw [e1, e2, e3, hF, va_up_ne _ _ q7]
      exact va_up_self _ _ _
    · rw [e2]; exact hN.1
    · rw [e2]; exact hN.2
  · obtain ⟨⟨f1, h1, h2⟩, f2, h3, h4⟩ := h.2.2.2.1
    exact ⟨⟨f1, (kx _ (by rw [h1]; exact g0_a) (gne h1 (h.o 7 (by decide)) gk_ao)).trans h1, h2⟩, f2, (kx _ (by rw [h3]; exact g0_a) (gne h3 (h.o 7 (by decide)) gk_ao)).trans h3, h4⟩
  · by_cases ei : i = 45
    · by_cases ej : j = 45
      · rw [ei, ej]
      · rw [ei, e1, (up j ej).1] at e
        exact absurd e.symm (nq _ (Qn j hj))
    · by_cases ej : j = 45
      · rw [ej, e1, (up i ei).1] at e
        exact absurd e (nq _ (Qn i hi))
      · rw [(up i ei).1, (up j ej).1] at e
        exact h.2.2.2.2.1.2 i j hi hj e
  · obtain ⟨h1, h2, h3, h4⟩ := h.2.2.2.2.2.2 x hx
    refine ⟨by rw [kx x h1 (h2 7 (by decide))]; exact h1, h2, h3, fun j hj => ?_⟩
    by_cases e : j = 45
    · subst e
      rw [e1]
      exact nq x h1
    · rw [(up j e).1]
      exact h4 j hj
  · obtain ⟨h1, h2, h3, h4⟩ := h.2.2.2.2.2.2 x hx
    exact kx x h1 (h2 7 (by decide))
