theorem kw_880 : Cond.methodLink RX4 35 yX4_get ∈ gWs := List.mem_filter.mpr ⟨gMt3 _ (List.mem_of_getElem? (i := 163) rfl), rfl⟩
theorem cl_X4_35 : gCV RX4 35 yX4_get cX4_get 2 (some .int) 1 := ⟨g_mk [.methodLink RX4 35 yX4_get, .instanceMethod yX4_get, .selects yX4_get.cls yX4_get yX4_get, .initialized yX4_get.cls] (gWs_all kw_436) (List.forall_mem_cons.mpr ⟨kw_880, List.forall_mem_cons.mpr ⟨kw_434, List.forall_mem_cons.mpr ⟨kw_435, List.forall_mem_cons.mpr ⟨kw_239, fun _ h => nomatch h⟩⟩⟩⟩), rfl, by decide +kernel, by decide +kernel, by decide +kernel⟩
theorem nI_nle0 {z : Nat} (h : 0 < z) (h2 : z < 2 ^ 31) : ¬ nI z ≤ 0 := fun q => absurd ((nI_leI (a := z) (b := 0) (by omega) (by decide)).mp q) (by omega)
theorem nI_prd {z : Nat} (h : 0 < z) (h2 : z < 2 ^ 31) : nI z - 1 = nI (z - 1) := by
  obtain ⟨y, rfl⟩ : ∃ y, z = y + 1 := ⟨z - 1, by omega⟩
  rw [Nat.add_sub_cancel]
  apply Int32.toBitVec_inj.mp
  show BitVec.ofNat 32 (y + 1) - 1#32 = BitVec.ofNat 32 y
  rw [BitVec.ofNat_add]
  exact BitVec.add_sub_cancel _ _
theorem dX4_set_0 : decode cX4_set 0 = .ok (.iload_n 1, 1) := by decide +kernel
theorem dX4_set_1 : decode cX4_set 1 = .ok (.ifCond .lt 27, 3) := by decide +kernel
theorem dX4_set_4 : decode cX4_set 4 = .ok (.iload_n 1, 1) := by decide +kernel
theorem dX4_set_5 : decode cX4_set 5 = .ok (.aload_n 0, 1) := by decide +kernel
theorem dX4_set_6 : decode cX4_set 6 = .ok (.getfield 13, 3) := by decide +kernel
theorem dX4_set_9 : decode cX4_set 9 = .ok (.if_icmp .ge 19, 3) := by decide +kernel
theorem dX4_set_12 : decode cX4_set 12 = .ok (.iload_n 1, 1) := by decide +kernel
theorem dX4_set_13 : decode cX4_set 13 = .ok (.aload_n 0, 1) := by decide +kernel
theorem dX4_set_14 : decode cX4_set 14 = .ok (.getfield 7, 3) := by decide +kernel
theorem dX4_set_17 : decode cX4_set 17 = .ok (.arraylength, 1) := by decide +kernel
theorem dX4_set_18 : decode cX4_set 18 = .ok (.if_icmp .ge 10, 3) := by decide +kernel
theorem dX4_set_21 : decode cX4_set 21 = .ok (.aload_n 0, 1) := by decide +kernel
theorem dX4_set_22 : decode cX4_set 22 = .ok (.getfield 7, 3) := by decide +kernel
theorem dX4_set_25 : decode cX4_set 25 = .ok (.iload_n 1, 1) := by decide +kernel
theorem dX4_set_26 : decode cX4_set 26 = .ok (.iload_n 2, 1) := by decide +kernel
theorem dX4_set_27 : decode cX4_set 27 = .ok (.iastore, 1) := by decide +kernel
theorem dX4_set_28 : decode cX4_set 28 = .ok (.return_, 1) := by decide +kernel
set_option maxRecDepth 100000 in
theorem c_Ints_set (l : Launch) (d : gD) (b : Nat) (F : gM) (a q mo n sz : Nat) (f : Nat → Int32) (h : gIn d F a q mo n sz f) (i x : Int32) : gMv l d b yX4_set cX4_set 3 0 0 0 F [.ref a, .int i, .int x] (fun F' => (¬ i < 0 ∧ i.toNatClampNeg < sz → gIn d F' a q mo n sz (upd f i.toNatClampNeg x)) ∧ (i < 0 ∨ nI sz ≤ i → F' = F) ∧ ∀ z : Nat, z ≠ q → F' z = F z) := by
  refine gM_of2 rfl (nL := 3) (Nat.le_of_ble_eq_true rfl) ?_
  intro X hX hC; subst hX
  show gG X d b _ F 0 0 0 [some (.ref a), some (.int i), some (.int x)] []
  obtain ⟨hA, hQ, h1, h2, h3, h4⟩ := id h
  refine g_iload_n hC dX4_set_0 rfl ?_
  refine g_if_lt (tgt := 28) hC dX4_set_1 (by decide) (fun c1 => ?_) (fun c1 => ?_)
  · exact g_vret hC ⟨fun z => absurd c1 z.1, fun _ => rfl, fun z _ => rfl⟩ (Nat.le_refl _) (Nat.le_refl _) dX4_set_28
  · refine g_iload_n hC dX4_set_4 rfl ?_
    refine g_aload_n hC dX4_set_5 rfl ?_
    refine g_get hC fl_X4_13 hA rfl dX4_set_6 ?_
    refine g_icmp_ge (tgt := 28) hC dX4_set_9 (by decide) (fun c2 => ?_) (fun c2 => ?_)
    · exact g_vret hC ⟨fun z => absurd z.2 (gmg c1 c2 (by omega)), fun _ => rfl, fun z _ => rfl⟩ (Nat.le_refl _) (Nat.le_refl _) dX4_set_28
    · refine g_iload_n hC dX4_set_12 rfl ?_
      refine g_aload_n hC dX4_set_13 rfl ?_
      refine g_get hC fl_X4_7 hA rfl dX4_set_14 ?_
      refine g_alen hC 0 hQ rfl dX4_set_17 ?_
      refine g_icmp_ge (tgt := 28) hC dX4_set_18 (by decide) (fun c3 => ?_) (fun c3 => ?_)
      · exact absurd (gmv c1 c2 (by omega)) (fun z => gmg c1 c3 (by omega) (by omega))
      · refine g_aload_n hC dX4_set_21 rfl ?_
        refine g_get hC fl_X4_7 hA rfl dX4_set_22 ?_
        refine g_iload_n hC dX4_set_25 rfl ?_
        refine g_iload_n hC dX4_set_26 rfl ?_
        refine g_iast hC hQ (gmi c1 (gmv c1 c3 (by omega))) dX4_set_27 ?_
        refine g_vF (fun F3 hF3 => ?_)
        exact g_vret hC ⟨fun _ => ⟨by rw [hF3, va_up_ne _ _ (gne hA hQ gk_oa)]; exact hA, by rw [hF3]; exact va_up_self _ _ _, h1, h2, h3, h4⟩, fun z => absurd z (fun z => z.elim c1 c2), fun z hz => by rw [hF3, va_up_ne _ _ hz]⟩ (Nat.le_refl _) (Nat.le_refl _) dX4_set_28
theorem dX4_pop_0 : decode cX4_pop 0 = .ok (.aload_n 0, 1) := by decide +kernel
theorem dX4_pop_1 : decode cX4_pop 1 = .ok (.getfield 13, 3) := by decide +kernel
theorem dX4_pop_4 : decode cX4_pop 4 = .ok (.ifCond .le 15, 3) := by decide +kernel
theorem dX4_pop_7 : decode cX4_pop 7 = .ok (.aload_n 0, 1) := by decide +kernel
theorem dX4_pop_8 : decode cX4_pop 8 = .ok (.getfield 13, 3) := by decide +kernel
theorem dX4_pop_11 : decode cX4_pop 11 = .ok (.aload_n 0, 1) := by decide +kernel
theorem dX4_pop_12 : decode cX4_pop 12 = .ok (.getfield 7, 3) := by decide +kernel
theorem dX4_pop_15 : decode cX4_pop 15 = .ok (.arraylength, 1) := by decide +kernel
theorem dX4_pop_16 : decode cX4_pop 16 = .ok (.if_icmp .le 5, 3) := by decide +kernel
theorem dX4_pop_19 : decode cX4_pop 19 = .ok (.iconst 0, 1) := by decide +kernel
theorem dX4_pop_20 : decode cX4_pop 20 = .ok (.ireturn, 1) := by decide +kernel
theorem dX4_pop_21 : decode cX4_pop 21 = .ok (.aload_n 0, 1) := by decide +kernel
theorem dX4_pop_22 : decode cX4_pop 22 = .ok (.dup, 1) := by decide +kernel
theorem dX4_pop_23 : decode cX4_pop 23 = .ok (.getfield 13, 3) := by decide +kernel
theorem dX4_pop_26 : decode cX4_pop 26 = .ok (.iconst 1, 1) := by decide +kernel
theorem dX4_pop_27 : decode cX4_pop 27 = .ok (.isub, 1) := by decide +kernel
theorem dX4_pop_28 : decode cX4_pop 28 = .ok (.putfield 13, 3) := by decide +kernel
theorem dX4_pop_31 : decode cX4_pop 31 = .ok (.aload_n 0, 1) := by decide +kernel
theorem dX4_pop_32 : decode cX4_pop 32 = .ok (.getfield 7, 3) := by decide +kernel
theorem dX4_pop_35 : decode cX4_pop 35 = .ok (.aload_n 0, 1) := by decide +kernel
theorem dX4_pop_36 : decode cX4_pop 36 = .ok (.getfield 13, 3) := by decide +kernel
theorem dX4_pop_39 : decode cX4_pop 39 = .ok (.iaload, 1) := by decide +kernel
theorem dX4_pop_40 : decode cX4_pop 40 = .ok (.ireturn, 1) := by decide +kernel
set_option maxRecDepth 100000 in
theorem c_Ints_pop (l : Launch) (d : gD) (b : Nat) (F : gM) (a q mo n sz : Nat) (f : Nat → Int32) (h : gIn d F a q mo n sz f) : gMi l d b yX4_pop cX4_pop 1 .int 0 0 0 F [.ref a] (fun r F' => (0 < sz → r = f (sz - 1) ∧ gIn d F' a q mo n (sz - 1) f) ∧ (sz = 0 → r = 0 ∧ F' = F) ∧ ∀ z : Nat, z ≠ a → F' z = F z) := by
  refine gM_of2 rfl (nL := 1) (Nat.le_of_ble_eq_true rfl) ?_
  intro X hX hC; subst hX
  show gG X d b _ F 0 0 0 [some (.ref a)] []
  obtain ⟨hA, hQ, h1, h2, h3, h4⟩ := id h
  refine g_aload_n hC dX4_pop_0 rfl ?_
  refine g_get hC fl_X4_13 hA rfl dX4_pop_1 ?_
  refine g_if_le (tgt := 19) hC dX4_pop_4 (by decide) (fun c1 => ?_) (fun c1 => ?_)
  · have e : sz = 0 := Nat.eq_zero_of_not_pos (fun z => absurd c1 (nI_nle0 z (by omega)))
    refine g_iconst (v := 0) hC dX4_pop_19 rfl ?_
    exact g_iret hC rfl ⟨fun z => absurd z (by omega), fun _ => ⟨rfl, rfl⟩, fun z _ => rfl⟩ (Nat.le_refl _) (Nat.le_refl _) dX4_pop_20
  · have hp : 0 < sz := Nat.pos_of_ne_zero (fun z => c1 (by subst z; decide))
    refine g_aload_n hC dX4_pop_7 rfl ?_
    refine g_get hC fl_X4_13 hA rfl dX4_pop_8 ?_
    refine g_aload_n hC dX4_pop_11 rfl ?_
    refine g_get hC fl_X4_7 hA rfl dX4_pop_12 ?_
    refine g_alen hC 0 hQ rfl dX4_pop_15 ?_
    refine g_icmp_le (tgt := 21) hC dX4_pop_16 (by decide) (fun c2 => ?_) (fun c2 => ?_)
    · refine g_aload_n hC dX4_pop_21 rfl ?_
      refine g_dup hC dX4_pop_22 rfl ?_
      refine g_get hC fl_X4_13 hA rfl dX4_pop_23 ?_
      refine g_iconst (v := 1) hC dX4_pop_26 rfl ?_
      refine g_isub hC dX4_pop_27 ?_
      refine g_vi (fun y ey => ?_)
      have zy : y = nI (sz - 1) := by rw [ey]; exact nI_prd hp (by omega)
      subst zy
      refine g_put hC fl_X4_13 hA rfl rfl (Nat.le_of_ble_eq_true rfl) dX4_pop_28 ?_
      refine g_vF (fun F3 hF3 => ?_)
      have f5 : F3 q = .inl (gI d, n, .inl f) := by rw [hF3, va_up_ne _ _ (gne hQ hA gk_ao)]; exact hQ
      have f4 : F3 a = .inr (4, [.int (nI mo), .ref q, .int (nI (sz - 1))]) := by rw [hF3]; exact va_up_self _ _ _
      refine g_aload_n hC dX4_pop_31 rfl ?_
      refine g_get hC fl_X4_7 f4 rfl dX4_pop_32 ?_
      refine g_aload_n hC dX4_pop_35 rfl ?_
      refine g_get hC fl_X4_13 f4 rfl dX4_pop_36 ?_
      refine g_iald hC f5 (vp_in_nI (by omega) (by omega)) dX4_pop_39 ?_
      exact g_iret hC rfl ⟨fun _ => ⟨by rw [nI_clamp (by omega)], f4, f5, by omega, h2, h3, h4⟩, fun z => absurd z (by omega), fun z hz => by rw [hF3, va_up_ne _ _ hz]⟩ (Nat.le_refl _) (Nat.le_refl _) dX4_pop_40
    · exact absurd (nI_le h1 (by omega)) c2
theorem dX4_top_0 : decode cX4_top 0 = .ok (.aload_n 0, 1) := by decide +kernel
theorem dX4_top_1 : decode cX4_top 1 = .ok (.aload_n 0, 1) := by decide +kernel
theorem dX4_top_2 : decode cX4_top 2 = .ok (.getfield 13, 3) := by decide +kernel
theorem dX4_top_5 : decode cX4_top 5 = .ok (.iconst 1, 1) := by decide +kernel
theorem dX4_top_6 : decode cX4_top 6 = .ok (.isub, 1) := by decide +kernel
theorem dX4_top_7 : decode cX4_top 7 = .ok (.invokevirtual 35, 3) := by decide +kernel
theorem dX4_top_10 : decode cX4_top 10 = .ok (.ireturn, 1) := by decide +kernel
set_option maxRecDepth 100000 in
theorem c_Ints_top (l : Launch) (d : gD) (b : Nat) (F : gM) (a q mo n sz : Nat) (f : Nat → Int32) (h : gIn d F a q mo n sz f) : gMi l d b yX4_top cX4_top 1 .int 1 0 0 F [.ref a] (fun r F' => r = gGet f sz (nI sz - 1) ∧ F' = F) := by
  refine gM_of2 rfl (nL := 1) (Nat.le_of_ble_eq_true rfl) ?_
  intro X hX hC; subst hX
  show gG X d b _ F 0 0 0 [some (.ref a)] []
  obtain ⟨hA, hQ, h1, h2, h3, h4⟩ := id h
  refine g_aload_n hC dX4_top_0 rfl ?_
  refine g_aload_n hC dX4_top_1 rfl ?_
  refine g_get hC fl_X4_13 hA rfl dX4_top_2 ?_
  refine g_iconst (v := 1) hC dX4_top_5 rfl ?_
  refine g_isub hC dX4_top_6 ?_
  refine g_callVi (As := [.int (nI sz - 1)]) hC rfl hA (c_Ints_get X.la d b F _ _ _ _ _ _ h _) cl_X4_35 rfl rfl (Nat.le_of_ble_eq_true rfl) (gFit_of (Nat.le_of_ble_eq_true rfl) (Nat.le_of_ble_eq_true rfl) (Nat.le_refl _) (Nat.le_refl _)) dX4_top_7 (fun r F' p => ?_)
  exact g_iret hC rfl p (Nat.le_refl _) (Nat.le_refl _) dX4_top_10
/-- behind a set -/
theorem wt_set {d : gD} {Y : gYt} {F F' : gM} {S : gSt} (h : gWT d Y F S) {j : Nat} (hj : j < 44) {i x : Int32} (hp : (¬ i < 0 ∧ i.toNatClampNeg < sZ S j → gIn d F' (gA' Y j) (sQ S j) (gmo j) (sN S j) (sZ S j) (upd (sF S j) i.toNatClampNeg x)) ∧ (i < 0 ∨ nI (sZ S j) ≤ i → F' = F) ∧ ∀ z : Nat, z ≠ sQ S j → F' z = F z) :
    ∃ S' : gSt, gWT d Y F' S' ∧ gKp Y F F' ∧ gSm S S' [j] [] ∧ sN S' j = sN S j ∧ sZ S' j = sZ S j ∧ (¬ i < 0 ∧ i.toNatClampNeg < sZ S j → sF S' j = upd (sF S j) i.toNatClampNeg x) ∧ (i < 0 ∨ nI (sZ S j) ≤ i → S' = S) := by
  by_cases c : ¬ i < 0 ∧ i.toNatClampNeg < sZ S j
  · obtain ⟨hW, hK⟩ := h.row hj (hp.1 c) (Or.inl rfl) (fun z _ h2 _ => hp.2.2 z h2)
    refine ⟨_, hW, hK, gSm_uR, va_up_self _ _ _, va_up_self _ _ _, fun _ => va_up_self _ _ _, fun q => ?_⟩
    rcases q with q | q
    · exact absurd q c.1
    · exact absurd c.2 (gmg c.1 q (by have hlt := (h.r j hj).2.2; omega))
  · have e := hp.2.1 (by
      by_cases c0 : i < 0
      · exact Or.inl c0
      · exact Or.inr (Classical.byContradiction fun q => c ⟨c0, gmv c0 q (by have hlt := (h.r j hj).2.2; omega)⟩))
    subst e
    exact ⟨S, h, gKp.rf, gSm.rf, rfl, rfl, fun q => absurd q c, fun _ => rfl⟩
/-- behind a pop -/
theorem wt_pop {d : gD} {Y : gYt} {F F' : gM} {S : gSt} {r : Int32} (h : gWT d Y F S) {j : Nat} (hj : j < 44) (hp : (0 < sZ S j → r = sF S j (sZ S j - 1) ∧ gIn d F' (gA' Y j) (sQ S j) (gmo j) (sN S j) (sZ S j - 1) (sF S j)) ∧ (sZ S j = 0 → r = 0 ∧ F' = F) ∧ ∀ z : Nat, z ≠ gA' Y j → F' z = F z) :
    ∃ S' : gSt, gWT d Y F' S' ∧ gKp Y F F' ∧ gSm S S' [j] [] ∧ sN S' j = sN S j ∧ sZ S' j = sZ S j - 1 ∧ sF S' j = sF S j ∧ (0 < sZ S j → r = sF S j (sZ S j - 1)) ∧ (sZ S j = 0 → r = 0) := by
  by_cases c : 0 < sZ S j
  · obtain ⟨e, h2⟩ := hp.1 c
    obtain ⟨hW, hK⟩ := h.row hj h2 (Or.inl rfl) (fun z h1 _ _ => hp.2.2 z h1)
    exact ⟨_, hW, hK, gSm_uR, va_up_self _ _ _, va_up_self _ _ _, va_up_self _ _ _, fun _ => e, fun q => absurd q (by omega)⟩
  · obtain ⟨e1, e2⟩ := hp.2.1 (by omega)
    subst e2
    exact ⟨S, h, gKp.rf, gSm.rf, rfl, by omega, rfl, fun q => absurd q c, fun _ => e1⟩
section HK
variable {own : String} {cc : ByteArray} {nL : Nat} {rt : Option FieldType} {nm : String} {R : Room} {d : gD} {b : Nat} {X : gX} {Q : State → Prop} {F : gM} {k n pc : Nat} {lv : List (Option Value)} {st : List Value} {Y : gYt} {c : Nat × Nat} {S : gSt}
theorem hi_top (hC : gC own cc nL rt nm R d b X) (hr : hRm X b) (ho : hOk X b k n) (hi : gWT d Y F S) {j idx : Nat} (hj : j < 44) (hl : gCV own idx yX4_top cX4_top 1 (some .int) 0) (hn : nL = lv.length) (hcat : (st.map fun v => v.category).sum ≤ 8) (hf : hFr R 1 1) (hdg : decode cc pc = .ok (.invokevirtual idx, 3)) (kk : hG X d b Q F k n (pc + 3) lv (.int (gGet (sF S j) (sZ S j) (nI (sZ S j) - 1)) :: st)) : hG X d b Q F k n pc lv (.ref (gA' Y j) :: st) :=
  g_callVi (As := []) hC rfl (hi.r j hj).1 (c_Ints_top X.la d b F _ _ _ _ _ _ (hi.r j hj)) hl rfl hn hcat (h_fit0 hC hr ho hf) hdg (fun r F' hp => by
    obtain ⟨e1, e2⟩ := hp
    subst e1; subst e2
    exact kk)
/-- what a pop, a set leave -/
def gPo (S S' : gSt) (j : Nat) (r : Int32) : Prop := sN S' j = sN S j ∧ sZ S' j = sZ S j - 1 ∧ sF S' j = sF S j ∧ (0 < sZ S j → r = sF S j (sZ S j - 1)) ∧ (sZ S j = 0 → r = 0) ∧ gPsi S' ≤ gPsi S
def gSe (S S' : gSt) (j : Nat) (i x : Int32) : Prop := sN S' j = sN S j ∧ sZ S' j = sZ S j ∧ (¬ i < 0 ∧ i.toNatClampNeg < sZ S j → sF S' j = upd (sF S j) i.toNatClampNeg x) ∧ (i < 0 ∨ nI (sZ S j) ≤ i → S' = S) ∧ gPsi S' ≤ gPsi S
theorem hi_pop (hC : gC own cc nL rt nm R d b X) (hr : hRm X b) (ho : hOk X b k n) (hi : hI d b Y c (F, k, n) S) {j idx : Nat} (hj : j < 44) (hl : gCV own idx yX4_pop cX4_pop 1 (some .int) 0) (hn : nL = lv.length) (hcat : (st.map fun v => v.category).sum ≤ 8) (hf : hFr R 0 1) (hdg : decode cc pc = .ok (.invokevirtual idx, 3))
    (kk : ∀ (r : Int32) (F' : gM) (S' : gSt), hI d b Y c (F', k, n) S' → gKp Y F F' → gSm S S' [j] [] → gPo S S' j r → hG X d b Q F' k n (pc + 3) lv (.int r :: st)) : hG X d b Q F k n pc lv (.ref (gA' Y j) :: st) := by
  refine g_callVi (As := []) hC rfl (hi.1.r j hj).1 (c_Ints_pop X.la d b F _ _ _ _ _ _ (hi.1.r j hj)) hl rfl hn hcat (h_fit0 hC hr ho hf) hdg (fun r F' hp => ?_)
  obtain ⟨S', w1, w2, w3, w4, w5, w6, w7, w8⟩ := wt_pop hi.1 hj hp
  have hN : ∀ x, sN S' x = sN S x := fun x => by
    by_cases e : x = j
    · subst e; exact w4
    · exact w3.n x (by simpa using e)
  have hZ : ∀ x, sZ S' x ≤ sZ S x := fun x => by
    by_cases e : x = j
    · subst e; rw [w5]; exact Nat.sub_le _ _
    · exact Nat.le_of_eq (w3.z x (by simpa using e))
  exact kk r F' S' (hi.smaller w1 hN) w2 w3 ⟨w4, w5, w6, w7, w8, gPsi_le hN hZ⟩
theorem hi_set (hC : gC own cc nL rt nm R d b X) (hr : hRm X b) (ho : hOk X b k n) (hi : hI d b Y c (F, k, n) S) {j idx : Nat} (hj : j < 44) {i x : Int32} (hl : gCV own idx yX4_set cX4_set 3 none 2) (hn : nL = lv.length) (hcat : (st.map fun v => v.category).sum ≤ 8) (hf : hFr R 0 3) (hdg : decode cc pc = .ok (.invokevirtual idx, 3))
    (kk : ∀ (F' : gM) (S' : gSt), hI d b Y c (F', k, n) S' → gKp Y F F' → gSm S S' [j] [] → gSe S S' j i x → hG X d b Q F' k n (pc + 3) lv st) : hG X d b Q F k n pc lv (.int x :: .int i :: .ref (gA' Y j) :: st) := by
  refine g_callVv (As := [.int i, .int x]) hC rfl (hi.1.r j hj).1 (c_Ints_set X.la d b F _ _ _ _ _ _ (hi.1.r j hj) i x) hl rfl hn hcat (h_fit0 hC hr ho hf) hdg (fun F' hp => ?_)
  obtain ⟨S', w1, w2, w3, w4, w5, w6, w7⟩ := wt_set hi.1 hj hp
  have hN : ∀ x, sN S' x = sN S x := fun x => by
    by_cases e : x = j
    · subst e; exact w4
    · exact w3.n x (by simpa using e)
  have hZ : ∀ x, sZ S' x ≤ sZ S x := fun x => by
    by_cases e : x = j
    · subst e; exact Nat.le_of_eq w5
    · exact Nat.le_of_eq (w3.z x (by simpa using e))
  exact kk F' S' (hi.smaller w1 hN) w2 w3 ⟨w4, w5, w6, w7, gPsi_le hN hZ⟩
end HK
