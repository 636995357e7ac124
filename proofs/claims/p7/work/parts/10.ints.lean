theorem kw_288 : Cond.arrayClass .int ∈ gWs := List.mem_filter.mpr ⟨gMt1 _ (List.mem_of_getElem? (i := 51) rfl), rfl⟩
theorem kw_461 : Cond.methodLink RJ7 304 Lib.Math.min.name ∈ gWs := List.mem_filter.mpr ⟨gMt1 _ (List.mem_of_getElem? (i := 224) rfl), rfl⟩
theorem kw_462 : Cond.methodLink RJ7 150 arraycopyName ∈ gWs := List.mem_filter.mpr ⟨gMt1 _ (List.mem_of_getElem? (i := 225) rfl), rfl⟩
theorem kw_280 : Cond.fieldLink RX4 13 "WordTongue$Ints" "size" "I" ∈ gWs := List.mem_filter.mpr ⟨gMt1 _ (List.mem_of_getElem? (i := 43) rfl), rfl⟩
theorem kw_281 : Cond.laysFinal RX4 "WordTongue$Ints" "most" "I" ∈ gWs := List.mem_filter.mpr ⟨gMt1 _ (List.mem_of_getElem? (i := 44) rfl), rfl⟩
theorem kw_283 : Cond.lays RX4 "WordTongue$Ints" "cells" "[I" ∈ gWs := List.mem_filter.mpr ⟨gMt1 _ (List.mem_of_getElem? (i := 46) rfl), rfl⟩
theorem kw_285 : Cond.lays RX4 "WordTongue$Ints" "size" "I" ∈ gWs := List.mem_filter.mpr ⟨gMt1 _ (List.mem_of_getElem? (i := 48) rfl), rfl⟩
set_option maxRecDepth 20000 in
theorem inW_RX4 : ∀ w ∈ u_ws RX4 TX4 3, w ∈ gWs := List.forall_mem_cons.mpr ⟨kw_281, List.forall_mem_cons.mpr ⟨kw_283, List.forall_mem_cons.mpr ⟨kw_285, fun _ h => nomatch h⟩⟩⟩
theorem fl_X4_13 : gFL RX4 13 4 2 .int false := ⟨RX4, TX4, 3, tyX4, rfl, by decide, inW_RX4, kw_280, tyX4_ok, nmX4, rfl, by decide +kernel, fun h => by cases h⟩
theorem kw_277 : Cond.methodLink RX4 1 objectInit ∈ gWs := List.mem_filter.mpr ⟨gMt1 _ (List.mem_of_getElem? (i := 40) rfl), rfl⟩
theorem kw_279 : Cond.fieldLink RX4 7 "WordTongue$Ints" "cells" "[I" ∈ gWs := List.mem_filter.mpr ⟨gMt1 _ (List.mem_of_getElem? (i := 42) rfl), rfl⟩
theorem fl_X4_7 : gFL RX4 7 4 1 (.array .int) false := ⟨RX4, TX4, 3, tyX4, rfl, by decide, inW_RX4, kw_279, tyX4_ok, nmX4, rfl, by decide +kernel, fun h => by cases h⟩
theorem kw_278 : Cond.fieldLink RX4 17 "WordTongue$Ints" "most" "I" ∈ gWs := List.mem_filter.mpr ⟨gMt1 _ (List.mem_of_getElem? (i := 41) rfl), rfl⟩
theorem fl_X4_17 : gFL RX4 17 4 0 .int true := ⟨RX4, TX4, 3, tyX4, rfl, by decide, inW_RX4, kw_278, tyX4_ok, nmX4, rfl, by decide +kernel, fun _ => rfl⟩
theorem kw_445 : Cond.methodLink RX4 20 Lib.Math.min.name ∈ gWs := List.mem_filter.mpr ⟨gMt1 _ (List.mem_of_getElem? (i := 208) rfl), rfl⟩
theorem kw_448 : Cond.methodLink RX4 26 Lib.Math.max.name ∈ gWs := List.mem_filter.mpr ⟨gMt1 _ (List.mem_of_getElem? (i := 211) rfl), rfl⟩
theorem kw_248 : Cond.initialized RJ7 ∈ gWs := List.mem_filter.mpr ⟨gMt1 _ (List.mem_of_getElem? (i := 11) rfl), rfl⟩
theorem kw_453 : Cond.code yJ7_copyOf_59c91 cJ7_copyOf_59c91 3 (some (.array .int)) ∈ gWs := List.mem_filter.mpr ⟨gMt1 _ (List.mem_of_getElem? (i := 216) rfl), rfl⟩
theorem kw_451 : Cond.methodLink RX4 29 yJ7_copyOf_59c91 ∈ gWs := List.mem_filter.mpr ⟨gMt1 _ (List.mem_of_getElem? (i := 214) rfl), rfl⟩
theorem kw_452 : Cond.static yJ7_copyOf_59c91 ∈ gWs := List.mem_filter.mpr ⟨gMt1 _ (List.mem_of_getElem? (i := 215) rfl), rfl⟩
theorem cl_X4_29 : gCS RX4 29 yJ7_copyOf_59c91 cJ7_copyOf_59c91 3 (some (.array .int)) 2 := ⟨g_mk [.methodLink RX4 29 yJ7_copyOf_59c91, .static yJ7_copyOf_59c91, .initialized yJ7_copyOf_59c91.cls] (gWs_all kw_453) (List.forall_mem_cons.mpr ⟨kw_451, List.forall_mem_cons.mpr ⟨kw_452, List.forall_mem_cons.mpr ⟨kw_248, fun _ h => nomatch h⟩⟩⟩), ⟨by decide +kernel, by decide +kernel, by decide +kernel⟩⟩
/-- a row of ints at a, its cells at q: at most mo of them; sz there, f; n cells -/
def gIn (d : gD) (F : gM) (a q mo n sz : Nat) (f : Nat → Int32) : Prop := F a = .inr (4, [.int (nI mo), .ref q, .int (nI sz)]) ∧ F q = .inl (gI d, n, .inl f) ∧ sz ≤ n ∧ 16 ≤ n ∧ n ≤ mo ∧ mo ≤ 1000000
def gGet (f : Nat → Int32) (sz : Nat) (i : Int32) : Int32 := if i < 0 then 0 else if i.toNatClampNeg < sz then f i.toNatClampNeg else 0
def gAc (n sz : Nat) : Nat := if sz < n then 0 else 1
def gAn (mo n sz : Nat) : Nat := if sz < n then n else min mo (2 * n)
def gAs (mo n sz : Nat) : Nat := if sz < n then 0 else min mo (2 * n)
/-- all cells but those at a and q are as they were -/
def gFr (F F' : gM) (a q : Nat) : Prop := ∀ x : Nat, x ≠ a → x ≠ q → F x ≠ g0 → F' x = F x
theorem va_up_up {α : Type} (f : Nat → α) (k : Nat) (v u : α) : va_up (va_up f k v) k u = va_up f k u := funext fun j => by unfold va_up; split <;> rfl
theorem dJ7_copyOf_59c91_0 : decode cJ7_copyOf_59c91 0 = .ok (.iload_n 1, 1) := by decide +kernel
theorem dJ7_copyOf_59c91_1 : decode cJ7_copyOf_59c91 1 = .ok (.aload_n 0, 1) := by decide +kernel
theorem dJ7_copyOf_59c91_2 : decode cJ7_copyOf_59c91 2 = .ok (.arraylength, 1) := by decide +kernel
theorem dJ7_copyOf_59c91_3 : decode cJ7_copyOf_59c91 3 = .ok (.if_icmp .ne 11, 3) := by decide +kernel
theorem dJ7_copyOf_59c91_6 : decode cJ7_copyOf_59c91 6 = .ok (.aload_n 0, 1) := by decide +kernel
theorem dJ7_copyOf_59c91_7 : decode cJ7_copyOf_59c91 7 = .ok (.invokevirtual 316, 3) := by decide +kernel
theorem dJ7_copyOf_59c91_10 : decode cJ7_copyOf_59c91 10 = .ok (.checkcast 317, 3) := by decide +kernel
theorem dJ7_copyOf_59c91_13 : decode cJ7_copyOf_59c91 13 = .ok (.areturn, 1) := by decide +kernel
theorem dJ7_copyOf_59c91_14 : decode cJ7_copyOf_59c91 14 = .ok (.iload_n 1, 1) := by decide +kernel
theorem dJ7_copyOf_59c91_15 : decode cJ7_copyOf_59c91 15 = .ok (.newarray .int, 2) := by decide +kernel
theorem dJ7_copyOf_59c91_17 : decode cJ7_copyOf_59c91 17 = .ok (.astore_n 2, 1) := by decide +kernel
theorem dJ7_copyOf_59c91_18 : decode cJ7_copyOf_59c91 18 = .ok (.aload_n 0, 1) := by decide +kernel
theorem dJ7_copyOf_59c91_19 : decode cJ7_copyOf_59c91 19 = .ok (.iconst 0, 1) := by decide +kernel
theorem dJ7_copyOf_59c91_20 : decode cJ7_copyOf_59c91 20 = .ok (.aload_n 2, 1) := by decide +kernel
theorem dJ7_copyOf_59c91_21 : decode cJ7_copyOf_59c91 21 = .ok (.iconst 0, 1) := by decide +kernel
theorem dJ7_copyOf_59c91_22 : decode cJ7_copyOf_59c91 22 = .ok (.aload_n 0, 1) := by decide +kernel
theorem dJ7_copyOf_59c91_23 : decode cJ7_copyOf_59c91 23 = .ok (.arraylength, 1) := by decide +kernel
theorem dJ7_copyOf_59c91_24 : decode cJ7_copyOf_59c91 24 = .ok (.iload_n 1, 1) := by decide +kernel
theorem dJ7_copyOf_59c91_25 : decode cJ7_copyOf_59c91 25 = .ok (.invokestatic 304, 3) := by decide +kernel
theorem dJ7_copyOf_59c91_28 : decode cJ7_copyOf_59c91 28 = .ok (.invokestatic 150, 3) := by decide +kernel
theorem dJ7_copyOf_59c91_31 : decode cJ7_copyOf_59c91 31 = .ok (.aload_n 2, 1) := by decide +kernel
theorem dJ7_copyOf_59c91_32 : decode cJ7_copyOf_59c91 32 = .ok (.areturn, 1) := by decide +kernel
set_option maxHeartbeats 4000000 in
set_option maxRecDepth 100000 in
theorem c_copyOf (l : Launch) (d : gD) (b : Nat) (F : gM) (q n N : Nat) (f : Nat → Int32) (hq : F q = .inl (gI d, n, .inl f)) (hN : n < N) (hM : N ≤ 1000000) : gMq l d b yJ7_copyOf_59c91 cJ7_copyOf_59c91 3 (.array .int) 1 1 N F [.ref q, .int (nI N)] (fun r F' => ∃ q' : Nat, r = some q' ∧ F q' = g0 ∧ F' = va_up F q' (.inl (gI d, N, .inl (va_cpy f (fun _ => 0) 0 0 n)))) := by
  refine gM_of2 rfl (nL := 3) (Nat.le_of_ble_eq_true rfl) ?_
  intro X hX hC; subst hX
  show gG X d b _ F 0 0 0 [some (.ref q), some (.int (nI N)), none] []
  refine g_iload_n hC dJ7_copyOf_59c91_0 rfl ?_
  refine g_aload_n hC dJ7_copyOf_59c91_1 rfl ?_
  refine g_alen hC 0 hq rfl dJ7_copyOf_59c91_2 ?_
  refine g_icmp_ne (tgt := 14) hC dJ7_copyOf_59c91_3 (by decide) (fun c1 => ?_) (fun c1 => ?_)
  · refine g_iload_n hC dJ7_copyOf_59c91_14 rfl ?_
    refine g_newa (atype := .int) (N := N) (a0 := (N, (.inl (fun _ => 0)))) hC 0 kw_288 rfl (by decide) (fun _ => rfl) (nI_pos (by omega)) (nI_clamp (by omega)) (by show N * 4 ≤ 536870912; omega) (by first | omega | (simp only [gR]; omega)) (by first | omega | (simp only [gR]; omega)) dJ7_copyOf_59c91_15 (fun q2 e_q2 => ?_)
    refine g_vF (fun F3 hF3 => ?_)
    have f5 : F3 q = .inl (gI d, n, .inl f) := by rw [hF3, va_up_ne _ _ (gne hq e_q2 g0_a)]; exact hq
    have f4 : F3 q2 = .inl (gI d, N, .inl (fun _ => 0)) := by rw [hF3]; exact va_up_self _ _ _
    refine g_astore_n (lv' := [some (.ref q), some (.int (nI N)), some (.ref q2)]) hC dJ7_copyOf_59c91_17 (Nat.le_of_ble_eq_true rfl) rfl rfl ?_
    refine g_aload_n hC dJ7_copyOf_59c91_18 rfl ?_
    refine g_iconst (v := 0) hC dJ7_copyOf_59c91_19 rfl ?_
    refine g_aload_n hC dJ7_copyOf_59c91_20 rfl ?_
    refine g_iconst (v := 0) hC dJ7_copyOf_59c91_21 rfl ?_
    refine g_aload_n hC dJ7_copyOf_59c91_22 rfl ?_
    refine g_alen hC 0 f5 rfl dJ7_copyOf_59c91_23 ?_
    refine g_iload_n hC dJ7_copyOf_59c91_24 rfl ?_
    refine g_min hC kw_461 rfl ⟨Nat.le_of_ble_eq_true rfl, Nat.le_of_ble_eq_true rfl⟩ (Nat.le_of_ble_eq_true rfl) (by first | omega | (simp only [gR]; omega)) (by first | omega | (simp only [gR]; omega)) dJ7_copyOf_59c91_25 ?_
    refine g_vi (fun x6 ex6 => ?_)
    have zx6 : x6 = nI n := by rw [ex6, if_neg (nI_nlt (Nat.le_of_lt hN) (by omega))]
    subst zx6
    refine g_copy hC kw_462 rfl f5 f4 (by decide) (by decide) (nI_pos (by omega)) (by rw [nI_clamp (by omega)]; show 0 + n ≤ n; omega) (by rw [nI_clamp (by omega)]; show 0 + n ≤ N; omega) ⟨Nat.le_of_ble_eq_true rfl, Nat.le_of_ble_eq_true rfl⟩ dJ7_copyOf_59c91_28 ?_
    refine g_vF (fun F7 hF7 => ?_)
    have f9 : F7 q = .inl (gI d, n, .inl f) := by rw [hF7, va_up_ne _ _ (gne hq e_q2 g0_a)]; exact f5
    have f8 : F7 q2 = .inl (gI d, N, .inl (va_cpy f (fun _ => 0) 0 0 n)) := by rw [hF7]; exact by rw [va_up_self, nI_clamp (by omega)]; rfl
    refine g_aload_n hC dJ7_copyOf_59c91_31 rfl ?_
    refine g_aret (v := some q2) hC (Or.inr ⟨_, rfl⟩) ⟨q2, rfl, e_q2, ?_⟩ (by first | omega | (simp only [gR]; omega)) (by first | omega | (simp only [gR]; omega)) dJ7_copyOf_59c91_32
    rw [hF7, hF3, va_up_up, nI_clamp (by omega)]; rfl
  · exact absurd ((nI_eq (by omega) (by omega)).mp c1) (by omega)
theorem dX4_size_0 : decode cX4_size 0 = .ok (.aload_n 0, 1) := by decide +kernel
theorem dX4_size_1 : decode cX4_size 1 = .ok (.getfield 13, 3) := by decide +kernel
theorem dX4_size_4 : decode cX4_size 4 = .ok (.ireturn, 1) := by decide +kernel
set_option maxHeartbeats 4000000 in
set_option maxRecDepth 100000 in
theorem c_Ints_size (l : Launch) (d : gD) (b : Nat) (F : gM) (a q mo n sz : Nat) (f : Nat → Int32) (h : gIn d F a q mo n sz f) : gMi l d b yX4_size cX4_size 1 .int 0 0 0 F [.ref a] (fun r F' => r = nI sz ∧ F' = F) := by
  refine gM_of2 rfl (nL := 1) (Nat.le_of_ble_eq_true rfl) ?_
  intro X hX hC; subst hX
  show gG X d b _ F 0 0 0 [some (.ref a)] []
  obtain ⟨hA, hQ, h1, h2, h3, h4⟩ := id h
  refine g_aload_n hC dX4_size_0 rfl ?_
  refine g_get hC fl_X4_13 hA rfl dX4_size_1 ?_
  exact g_iret hC rfl ⟨rfl, rfl⟩ (by first | omega | (simp only [gR]; omega)) (by first | omega | (simp only [gR]; omega)) dX4_size_4
theorem dX4_init_0 : decode cX4_init 0 = .ok (.aload_n 0, 1) := by decide +kernel
theorem dX4_init_1 : decode cX4_init 1 = .ok (.invokespecial 1, 3) := by decide +kernel
theorem dX4_init_4 : decode cX4_init 4 = .ok (.aload_n 0, 1) := by decide +kernel
theorem dX4_init_5 : decode cX4_init 5 = .ok (.bipush 16, 2) := by decide +kernel
theorem dX4_init_7 : decode cX4_init 7 = .ok (.newarray .int, 2) := by decide +kernel
theorem dX4_init_9 : decode cX4_init 9 = .ok (.putfield 7, 3) := by decide +kernel
theorem dX4_init_12 : decode cX4_init 12 = .ok (.aload_n 0, 1) := by decide +kernel
theorem dX4_init_13 : decode cX4_init 13 = .ok (.iconst 0, 1) := by decide +kernel
theorem dX4_init_14 : decode cX4_init 14 = .ok (.putfield 13, 3) := by decide +kernel
theorem dX4_init_17 : decode cX4_init 17 = .ok (.aload_n 0, 1) := by decide +kernel
theorem dX4_init_18 : decode cX4_init 18 = .ok (.iload_n 1, 1) := by decide +kernel
theorem dX4_init_19 : decode cX4_init 19 = .ok (.putfield 17, 3) := by decide +kernel
theorem dX4_init_22 : decode cX4_init 22 = .ok (.return_, 1) := by decide +kernel
set_option maxHeartbeats 4000000 in
set_option maxRecDepth 100000 in
theorem c_Ints_init (l : Launch) (d : gD) (b : Nat) (F : gM) (a mo : Nat) (hA : F a = .inr (4, [.int 0, .null, .int 0])) (hm : 16 ≤ mo) (hM : mo ≤ 1000000) : gMv l d b yX4_init cX4_init 2 1 1 16 F [.ref a, .int (nI mo)] (fun F' => ∃ q : Nat, F q = g0 ∧ gIn d F' a q mo 16 0 (fun _ => 0) ∧ ∀ x : Nat, x ≠ a → F x ≠ g0 → F' x = F x) := by
  refine gM_of2 rfl (nL := 2) (Nat.le_of_ble_eq_true rfl) ?_
  intro X hX hC; subst hX
  show gG X d b _ F 0 0 0 [some (.ref a), some (.int (nI mo))] []
  refine g_aload_n hC dX4_init_0 rfl ?_
  refine g_objInit hC dX4_init_1 kw_277 rfl ⟨Nat.le_of_ble_eq_true rfl, Nat.le_of_ble_eq_true rfl⟩ (Nat.le_of_ble_eq_true rfl) ?_
  refine g_aload_n hC dX4_init_4 rfl ?_
  refine g_bipush (v := 16) hC dX4_init_5 rfl ?_
  refine g_newa (atype := .int) (N := 16) (a0 := (16, (.inl (fun _ => 0)))) hC 0 kw_288 rfl (by decide) (fun _ => rfl) (by decide) rfl (Nat.le_of_ble_eq_true rfl) (by first | omega | (simp only [gR]; omega)) (by first | omega | (simp only [gR]; omega)) dX4_init_7 (fun q1 e_q1 => ?_)
  refine g_vF (fun F2 hF2 => ?_)
  have f4 : F2 a = .inr (4, [.int 0, .null, .int 0]) := by rw [hF2, va_up_ne _ _ (gne hA e_q1 g0_o)]; exact hA
  have f3 : F2 q1 = .inl (gI d, 16, .inl (fun _ => 0)) := by rw [hF2]; exact va_up_self _ _ _
  refine g_put hC fl_X4_7 f4 rfl rfl (Nat.le_of_ble_eq_true rfl) dX4_init_9 ?_
  refine g_vF (fun F5 hF5 => ?_)
  have f7 : F5 q1 = .inl (gI d, 16, .inl (fun _ => 0)) := by rw [hF5, va_up_ne _ _ (gne f3 f4 gk_ao)]; exact f3
  have f6 : F5 a = .inr (4, [.int 0, .ref q1, .int 0]) := by rw [hF5]; exact va_up_self _ _ _
  refine g_aload_n hC dX4_init_12 rfl ?_
  refine g_iconst (v := 0) hC dX4_init_13 rfl ?_
  refine g_put hC fl_X4_13 f6 rfl rfl (Nat.le_of_ble_eq_true rfl) dX4_init_14 ?_
  refine g_vF (fun F8 hF8 => ?_)
  have f10 : F8 q1 = .inl (gI d, 16, .inl (fun _ => 0)) := by rw [hF8, va_up_ne _ _ (gne f7 f6 gk_ao)]; exact f7
  have f9 : F8 a = .inr (4, [.int 0, .ref q1, .int 0]) := by rw [hF8]; exact va_up_self _ _ _
  refine g_aload_n hC dX4_init_17 rfl ?_
  refine g_iload_n hC dX4_init_18 rfl ?_
  refine g_putF hC fl_X4_17 f9 rfl rfl (Nat.le_of_ble_eq_true rfl) dX4_init_19 ?_
  refine g_vF (fun F11 hF11 => ?_)
  have f13 : F11 q1 = .inl (gI d, 16, .inl (fun _ => 0)) := by rw [hF11, va_up_ne _ _ (gne f10 f9 gk_ao)]; exact f10
  have f12 : F11 a = .inr (4, [.int (nI mo), .ref q1, .int 0]) := by rw [hF11]; exact va_up_self _ _ _
  exact g_vret hC ⟨q1, e_q1, ⟨f12, f13, Nat.zero_le _, Nat.le_refl _, hm, hM⟩, fun x hx h0 => by rw [hF11, hF8, hF5, hF2, va_up_ne _ _ hx, va_up_ne _ _ hx, va_up_ne _ _ hx, va_up_ne _ _ (fun z => h0 (by rw [z]; exact e_q1))]⟩ (by first | omega | (simp only [gR]; omega)) (by first | omega | (simp only [gR]; omega)) dX4_init_22
theorem gmv {i : Int32} {n : Nat} (h0 : ¬ i < 0) (h : ¬ nI n ≤ i) (hn : n < 2 ^ 31) : i.toNatClampNeg < n := by
  obtain ⟨j, hj, rfl⟩ := nI_of h0
  rw [nI_clamp hj]
  exact Nat.not_le.mp fun q => h (nI_le q hj)
theorem gmg {i : Int32} {n : Nat} (h0 : ¬ i < 0) (h : nI n ≤ i) (hn : n < 2 ^ 31) : ¬ i.toNatClampNeg < n := by
  obtain ⟨j, hj, rfl⟩ := nI_of h0
  rw [nI_clamp hj]
  exact Nat.not_lt.mpr ((nI_leI hn hj).mp h)
theorem gmi {i : Int32} {n : Nat} (h0 : ¬ i < 0) (h : i.toNatClampNeg < n) : vp_in i n := fun z => z.elim h0 (fun q => Nat.not_le.mpr h q)
theorem dX4_get_0 : decode cX4_get 0 = .ok (.iload_n 1, 1) := by decide +kernel
theorem dX4_get_1 : decode cX4_get 1 = .ok (.ifCond .lt 29, 3) := by decide +kernel
theorem dX4_get_4 : decode cX4_get 4 = .ok (.iload_n 1, 1) := by decide +kernel
theorem dX4_get_5 : decode cX4_get 5 = .ok (.aload_n 0, 1) := by decide +kernel
theorem dX4_get_6 : decode cX4_get 6 = .ok (.getfield 13, 3) := by decide +kernel
theorem dX4_get_9 : decode cX4_get 9 = .ok (.if_icmp .ge 21, 3) := by decide +kernel
theorem dX4_get_12 : decode cX4_get 12 = .ok (.iload_n 1, 1) := by decide +kernel
theorem dX4_get_13 : decode cX4_get 13 = .ok (.aload_n 0, 1) := by decide +kernel
theorem dX4_get_14 : decode cX4_get 14 = .ok (.getfield 7, 3) := by decide +kernel
theorem dX4_get_17 : decode cX4_get 17 = .ok (.arraylength, 1) := by decide +kernel
theorem dX4_get_18 : decode cX4_get 18 = .ok (.if_icmp .ge 12, 3) := by decide +kernel
theorem dX4_get_21 : decode cX4_get 21 = .ok (.aload_n 0, 1) := by decide +kernel
theorem dX4_get_22 : decode cX4_get 22 = .ok (.getfield 7, 3) := by decide +kernel
theorem dX4_get_25 : decode cX4_get 25 = .ok (.iload_n 1, 1) := by decide +kernel
theorem dX4_get_26 : decode cX4_get 26 = .ok (.iaload, 1) := by decide +kernel
theorem dX4_get_27 : decode cX4_get 27 = .ok (.goto 4, 3) := by decide +kernel
theorem dX4_get_30 : decode cX4_get 30 = .ok (.iconst 0, 1) := by decide +kernel
theorem dX4_get_31 : decode cX4_get 31 = .ok (.ireturn, 1) := by decide +kernel
set_option maxHeartbeats 4000000 in
set_option maxRecDepth 100000 in
theorem c_Ints_get (l : Launch) (d : gD) (b : Nat) (F : gM) (a q mo n sz : Nat) (f : Nat → Int32) (h : gIn d F a q mo n sz f) (i : Int32) : gMi l d b yX4_get cX4_get 2 .int 0 0 0 F [.ref a, .int i] (fun r F' => r = gGet f sz i ∧ F' = F) := by
  refine gM_of2 rfl (nL := 2) (Nat.le_of_ble_eq_true rfl) ?_
  intro X hX hC; subst hX
  show gG X d b _ F 0 0 0 [some (.ref a), some (.int i)] []
  obtain ⟨hA, hQ, h1, h2, h3, h4⟩ := id h
  refine g_iload_n hC dX4_get_0 rfl ?_
  refine g_if_lt (tgt := 30) hC dX4_get_1 (by decide) (fun c1 => ?_) (fun c1 => ?_)
  · refine g_iconst (v := 0) hC dX4_get_30 rfl ?_
    exact g_iret hC rfl ⟨by unfold gGet; rw [if_pos c1], rfl⟩ (by first | omega | (simp only [gR]; omega)) (by first | omega | (simp only [gR]; omega)) dX4_get_31
  · refine g_iload_n hC dX4_get_4 rfl ?_
    refine g_aload_n hC dX4_get_5 rfl ?_
    refine g_get hC fl_X4_13 hA rfl dX4_get_6 ?_
    refine g_icmp_ge (tgt := 30) hC dX4_get_9 (by decide) (fun c2 => ?_) (fun c2 => ?_)
    · refine g_iconst (v := 0) hC dX4_get_30 rfl ?_
      exact g_iret hC rfl ⟨by unfold gGet; rw [if_neg c1, if_neg (fun z => gmg c1 c2 (by omega) z)], rfl⟩ (by first | omega | (simp only [gR]; omega)) (by first | omega | (simp only [gR]; omega)) dX4_get_31
    · refine g_iload_n hC dX4_get_12 rfl ?_
      refine g_aload_n hC dX4_get_13 rfl ?_
      refine g_get hC fl_X4_7 hA rfl dX4_get_14 ?_
      refine g_alen hC 0 hQ rfl dX4_get_17 ?_
      refine g_icmp_ge (tgt := 30) hC dX4_get_18 (by decide) (fun c3 => ?_) (fun c3 => ?_)
      · exact absurd (gmv c1 c2 (by omega)) (fun z => gmg c1 c3 (by omega) (by omega))
      · refine g_aload_n hC dX4_get_21 rfl ?_
        refine g_get hC fl_X4_7 hA rfl dX4_get_22 ?_
        refine g_iload_n hC dX4_get_25 rfl ?_
        refine g_iald hC hQ (gmi c1 (gmv c1 c3 (by omega))) dX4_get_26 ?_
        refine g_vi (fun x4 ex4 => ?_)
        refine g_goto (tgt := 31) hC dX4_get_27 (by decide) ?_
        exact g_iret hC rfl ⟨by unfold gGet; rw [if_neg c1, if_pos (gmv c1 c2 (by omega))]; exact ex4, rfl⟩ (by first | omega | (simp only [gR]; omega)) (by first | omega | (simp only [gR]; omega)) dX4_get_31
theorem nI_toN {i : Int32} (h : ¬ i < 0) : i = nI i.toNatClampNeg := by
  obtain ⟨j, hj, rfl⟩ := nI_of h
  rw [nI_clamp hj]
theorem dX4_cut_0 : decode cX4_cut 0 = .ok (.iload_n 1, 1) := by decide +kernel
theorem dX4_cut_1 : decode cX4_cut 1 = .ok (.ifCond .lt 16, 3) := by decide +kernel
theorem dX4_cut_4 : decode cX4_cut 4 = .ok (.iload_n 1, 1) := by decide +kernel
theorem dX4_cut_5 : decode cX4_cut 5 = .ok (.aload_n 0, 1) := by decide +kernel
theorem dX4_cut_6 : decode cX4_cut 6 = .ok (.getfield 13, 3) := by decide +kernel
theorem dX4_cut_9 : decode cX4_cut 9 = .ok (.if_icmp .ge 8, 3) := by decide +kernel
theorem dX4_cut_12 : decode cX4_cut 12 = .ok (.aload_n 0, 1) := by decide +kernel
theorem dX4_cut_13 : decode cX4_cut 13 = .ok (.iload_n 1, 1) := by decide +kernel
theorem dX4_cut_14 : decode cX4_cut 14 = .ok (.putfield 13, 3) := by decide +kernel
theorem dX4_cut_17 : decode cX4_cut 17 = .ok (.return_, 1) := by decide +kernel
set_option maxHeartbeats 4000000 in
set_option maxRecDepth 100000 in
theorem c_Ints_cut (l : Launch) (d : gD) (b : Nat) (F : gM) (a q mo n sz : Nat) (f : Nat → Int32) (h : gIn d F a q mo n sz f) (i : Int32) : gMv l d b yX4_cut cX4_cut 2 0 0 0 F [.ref a, .int i] (fun F' => (¬ i < 0 ∧ i.toNatClampNeg < sz → gIn d F' a q mo n i.toNatClampNeg f) ∧ (i < 0 ∨ nI sz ≤ i → F' = F) ∧ ∀ x : Nat, x ≠ a → F x ≠ g0 → F' x = F x) := by
  refine gM_of2 rfl (nL := 2) (Nat.le_of_ble_eq_true rfl) ?_
  intro X hX hC; subst hX
  show gG X d b _ F 0 0 0 [some (.ref a), some (.int i)] []
  obtain ⟨hA, hQ, h1, h2, h3, h4⟩ := id h
  refine g_iload_n hC dX4_cut_0 rfl ?_
  refine g_if_lt (tgt := 17) hC dX4_cut_1 (by decide) (fun c1 => ?_) (fun c1 => ?_)
  · exact g_vret hC ⟨fun z => absurd c1 z.1, fun _ => rfl, fun x hx h0 => rfl⟩ (by first | omega | (simp only [gR]; omega)) (by first | omega | (simp only [gR]; omega)) dX4_cut_17
  · obtain ⟨j, hj, rfl⟩ := nI_of c1
    refine g_iload_n hC dX4_cut_4 rfl ?_
    refine g_aload_n hC dX4_cut_5 rfl ?_
    refine g_get hC fl_X4_13 hA rfl dX4_cut_6 ?_
    refine g_icmp_ge (tgt := 17) hC dX4_cut_9 (by decide) (fun c2 => ?_) (fun c2 => ?_)
    · exact g_vret hC ⟨fun z => absurd z.2 (by rw [nI_clamp hj]; exact Nat.not_lt.mpr ((nI_leI (by omega) hj).mp c2)), fun _ => rfl, fun x hx h0 => rfl⟩ (by first | omega | (simp only [gR]; omega)) (by first | omega | (simp only [gR]; omega)) dX4_cut_17
    · have hlt : j < sz := Nat.not_le.mp (fun q => c2 (nI_le q hj))
      refine g_aload_n hC dX4_cut_12 rfl ?_
      refine g_iload_n hC dX4_cut_13 rfl ?_
      refine g_put hC fl_X4_13 hA rfl rfl (Nat.le_of_ble_eq_true rfl) dX4_cut_14 ?_
      refine g_vF (fun F3 hF3 => ?_)
      have f5 : F3 q = .inl (gI d, n, .inl f) := by rw [hF3, va_up_ne _ _ (gne hQ hA gk_ao)]; exact hQ
      have f4 : F3 a = .inr (4, [.int (nI mo), .ref q, .int (nI j)]) := by rw [hF3]; exact va_up_self _ _ _
      exact g_vret hC ⟨fun _ => by rw [nI_clamp hj]; exact ⟨f4, f5, by omega, h2, h3, h4⟩, fun z => absurd z (fun z => z.elim (nI_pos hj) (fun z => absurd ((nI_leI (by omega) hj).mp z) (by omega))), fun x hx h0 => by rw [hF3, va_up_ne _ _ hx]⟩ (by first | omega | (simp only [gR]; omega)) (by first | omega | (simp only [gR]; omega)) dX4_cut_17
theorem gmin2 {mo n sz : Nat} (h1 : mo ≤ 1000000) (h2 : n ≤ mo) (h3 : sz = n) : (if nI sz * 2 < nI mo then nI sz * 2 else nI mo) = nI (min mo (2 * n)) := by
  subst h3
  rw [show nI sz * 2 = nI (2 * sz) by rw [show (2 : Int32) = nI 2 from rfl, pk_mul, Nat.mul_comm]]
  by_cases h : 2 * sz < mo
  · rw [if_pos (nI_lt h (by omega)), Nat.min_eq_right (by omega)]
  · rw [if_neg (nI_nlt (by omega) (by omega)), Nat.min_eq_left (by omega)]
theorem gmax16 {x : Nat} (h1 : 16 ≤ x) (h2 : x ≤ 1000000) : (if (16 : Int32) < nI x then nI x else 16) = nI x := by
  rw [show (16 : Int32) = nI 16 from rfl]
  by_cases h : 16 < x
  · rw [if_pos (nI_lt (a := 16) h (by omega))]
  · rw [if_neg (nI_nlt (b := x) (a := 16) (by omega) (by omega)), show x = 16 by omega]
theorem dX4_add_0 : decode cX4_add 0 = .ok (.aload_n 0, 1) := by decide +kernel
theorem dX4_add_1 : decode cX4_add 1 = .ok (.getfield 13, 3) := by decide +kernel
theorem dX4_add_4 : decode cX4_add 4 = .ok (.aload_n 0, 1) := by decide +kernel
theorem dX4_add_5 : decode cX4_add 5 = .ok (.getfield 17, 3) := by decide +kernel
theorem dX4_add_8 : decode cX4_add 8 = .ok (.if_icmp .lt 4, 3) := by decide +kernel
theorem dX4_add_11 : decode cX4_add 11 = .ok (.return_, 1) := by decide +kernel
theorem dX4_add_12 : decode cX4_add 12 = .ok (.aload_n 0, 1) := by decide +kernel
theorem dX4_add_13 : decode cX4_add 13 = .ok (.getfield 13, 3) := by decide +kernel
theorem dX4_add_16 : decode cX4_add 16 = .ok (.aload_n 0, 1) := by decide +kernel
theorem dX4_add_17 : decode cX4_add 17 = .ok (.getfield 7, 3) := by decide +kernel
theorem dX4_add_20 : decode cX4_add 20 = .ok (.arraylength, 1) := by decide +kernel
theorem dX4_add_21 : decode cX4_add 21 = .ok (.if_icmp .lt 32, 3) := by decide +kernel
theorem dX4_add_24 : decode cX4_add 24 = .ok (.aload_n 0, 1) := by decide +kernel
theorem dX4_add_25 : decode cX4_add 25 = .ok (.aload_n 0, 1) := by decide +kernel
theorem dX4_add_26 : decode cX4_add 26 = .ok (.getfield 7, 3) := by decide +kernel
theorem dX4_add_29 : decode cX4_add 29 = .ok (.bipush 16, 2) := by decide +kernel
theorem dX4_add_31 : decode cX4_add 31 = .ok (.aload_n 0, 1) := by decide +kernel
theorem dX4_add_32 : decode cX4_add 32 = .ok (.getfield 17, 3) := by decide +kernel
theorem dX4_add_35 : decode cX4_add 35 = .ok (.aload_n 0, 1) := by decide +kernel
theorem dX4_add_36 : decode cX4_add 36 = .ok (.getfield 13, 3) := by decide +kernel
theorem dX4_add_39 : decode cX4_add 39 = .ok (.iconst 2, 1) := by decide +kernel
theorem dX4_add_40 : decode cX4_add 40 = .ok (.imul, 1) := by decide +kernel
theorem dX4_add_41 : decode cX4_add 41 = .ok (.invokestatic 20, 3) := by decide +kernel
theorem dX4_add_44 : decode cX4_add 44 = .ok (.invokestatic 26, 3) := by decide +kernel
theorem dX4_add_47 : decode cX4_add 47 = .ok (.invokestatic 29, 3) := by decide +kernel
theorem dX4_add_50 : decode cX4_add 50 = .ok (.putfield 7, 3) := by decide +kernel
theorem dX4_add_53 : decode cX4_add 53 = .ok (.aload_n 0, 1) := by decide +kernel
theorem dX4_add_54 : decode cX4_add 54 = .ok (.getfield 13, 3) := by decide +kernel
theorem dX4_add_57 : decode cX4_add 57 = .ok (.ifCond .lt 35, 3) := by decide +kernel
theorem dX4_add_60 : decode cX4_add 60 = .ok (.aload_n 0, 1) := by decide +kernel
theorem dX4_add_61 : decode cX4_add 61 = .ok (.getfield 13, 3) := by decide +kernel
theorem dX4_add_64 : decode cX4_add 64 = .ok (.aload_n 0, 1) := by decide +kernel
theorem dX4_add_65 : decode cX4_add 65 = .ok (.getfield 7, 3) := by decide +kernel
theorem dX4_add_68 : decode cX4_add 68 = .ok (.arraylength, 1) := by decide +kernel
theorem dX4_add_69 : decode cX4_add 69 = .ok (.if_icmp .ge 23, 3) := by decide +kernel
theorem dX4_add_72 : decode cX4_add 72 = .ok (.aload_n 0, 1) := by decide +kernel
theorem dX4_add_73 : decode cX4_add 73 = .ok (.getfield 7, 3) := by decide +kernel
theorem dX4_add_76 : decode cX4_add 76 = .ok (.aload_n 0, 1) := by decide +kernel
theorem dX4_add_77 : decode cX4_add 77 = .ok (.getfield 13, 3) := by decide +kernel
theorem dX4_add_80 : decode cX4_add 80 = .ok (.iload_n 1, 1) := by decide +kernel
theorem dX4_add_81 : decode cX4_add 81 = .ok (.iastore, 1) := by decide +kernel
theorem dX4_add_82 : decode cX4_add 82 = .ok (.aload_n 0, 1) := by decide +kernel
theorem dX4_add_83 : decode cX4_add 83 = .ok (.dup, 1) := by decide +kernel
theorem dX4_add_84 : decode cX4_add 84 = .ok (.getfield 13, 3) := by decide +kernel
theorem dX4_add_87 : decode cX4_add 87 = .ok (.iconst 1, 1) := by decide +kernel
theorem dX4_add_88 : decode cX4_add 88 = .ok (.iadd, 1) := by decide +kernel
theorem dX4_add_89 : decode cX4_add 89 = .ok (.putfield 13, 3) := by decide +kernel
theorem dX4_add_92 : decode cX4_add 92 = .ok (.return_, 1) := by decide +kernel
set_option maxHeartbeats 4000000 in
set_option maxRecDepth 100000 in
theorem c_Ints_add (l : Launch) (d : gD) (b : Nat) (F : gM) (a q mo n sz : Nat) (f : Nat → Int32) (h : gIn d F a q mo n sz f) (x : Int32) : gMv l d b yX4_add cX4_add 2 2 (gAc n sz) (gAs mo n sz) F [.ref a, .int x] (fun F' => (sz < mo → ∃ (q' : Nat) (f' : Nat → Int32), gIn d F' a q' mo (gAn mo n sz) (sz + 1) f' ∧ (q' = q ∨ F q' = g0) ∧ (∀ j, j < sz → f' j = f j) ∧ f' sz = x) ∧ (mo ≤ sz → F' = F) ∧ gFr F F' a q ∧ F' q ≠ g0) := by
  refine gM_of2 rfl (nL := 2) (Nat.le_of_ble_eq_true rfl) ?_
  intro X hX hC; subst hX
  show gG X d b _ F 0 0 0 [some (.ref a), some (.int x)] []
  obtain ⟨hA, hQ, h1, h2, h3, h4⟩ := id h
  refine g_aload_n hC dX4_add_0 rfl ?_
  refine g_get hC fl_X4_13 hA rfl dX4_add_1 ?_
  refine g_aload_n hC dX4_add_4 rfl ?_
  refine g_get hC fl_X4_17 hA rfl dX4_add_5 ?_
  refine g_icmp_lt (tgt := 12) hC dX4_add_8 (by decide) (fun c1 => ?_) (fun c1 => ?_)
  · have hlt : sz < mo := (nI_ltI (by omega) (by omega)).mp c1
    refine g_aload_n hC dX4_add_12 rfl ?_
    refine g_get hC fl_X4_13 hA rfl dX4_add_13 ?_
    refine g_aload_n hC dX4_add_16 rfl ?_
    refine g_get hC fl_X4_7 hA rfl dX4_add_17 ?_
    refine g_alen hC 0 hQ rfl dX4_add_20 ?_
    refine g_icmp_lt (tgt := 53) hC dX4_add_21 (by decide) (fun c2 => ?_) (fun c2 => ?_)
    · have hsn : sz < n := (nI_ltI (by omega) (by omega)).mp c2
      have han : gAn mo n sz = n := if_pos hsn
      refine g_aload_n hC dX4_add_53 rfl ?_
      refine g_get hC fl_X4_13 hA rfl dX4_add_54 ?_
      refine g_if_lt (tgt := 92) hC dX4_add_57 (by decide) (fun c3 => ?_) (fun c3 => ?_)
      · exact absurd c3 (nI_pos (by omega))
      · refine g_aload_n hC dX4_add_60 rfl ?_
        refine g_get hC fl_X4_13 hA rfl dX4_add_61 ?_
        refine g_aload_n hC dX4_add_64 rfl ?_
        refine g_get hC fl_X4_7 hA rfl dX4_add_65 ?_
        refine g_alen hC 0 hQ rfl dX4_add_68 ?_
        refine g_icmp_ge (tgt := 92) hC dX4_add_69 (by decide) (fun c4 => ?_) (fun c4 => ?_)
        · exact absurd ((nI_leI (by omega) (by omega)).mp c4) (by omega)
        · refine g_aload_n hC dX4_add_72 rfl ?_
          refine g_get hC fl_X4_7 hA rfl dX4_add_73 ?_
          refine g_aload_n hC dX4_add_76 rfl ?_
          refine g_get hC fl_X4_13 hA rfl dX4_add_77 ?_
          refine g_iload_n hC dX4_add_80 rfl ?_
          refine g_iast hC hQ (vp_in_nI (by omega) (by omega)) dX4_add_81 ?_
          refine g_vF (fun F5 hF5 => ?_)
          have f7 : F5 a = .inr (4, [.int (nI mo), .ref q, .int (nI sz)]) := by rw [hF5, va_up_ne _ _ (gne hA hQ gk_oa)]; exact hA
          have f6 : F5 q = .inl (gI d, n, .inl (upd f sz x)) := by rw [hF5]; exact by rw [va_up_self, nI_clamp (by omega)]
          refine g_aload_n hC dX4_add_82 rfl ?_
          refine g_dup hC dX4_add_83 rfl ?_
          refine g_get hC fl_X4_13 f7 rfl dX4_add_84 ?_
          refine g_iconst (v := 1) hC dX4_add_87 rfl ?_
          refine g_iadd hC dX4_add_88 ?_
          refine g_vi (fun x8 ex8 => ?_)
          have zx8 : x8 = nI (sz + 1) := by rw [ex8]; exact nI_1 sz
          subst zx8
          refine g_put hC fl_X4_13 f7 rfl rfl (Nat.le_of_ble_eq_true rfl) dX4_add_89 ?_
          refine g_vF (fun F9 hF9 => ?_)
          have f11 : F9 q = .inl (gI d, n, .inl (upd f sz x)) := by rw [hF9, va_up_ne _ _ (gne f6 f7 gk_ao)]; exact f6
          have f10 : F9 a = .inr (4, [.int (nI mo), .ref q, .int (nI (sz + 1))]) := by rw [hF9]; exact va_up_self _ _ _
          exact g_vret hC ⟨fun _ => ⟨q, upd f sz x, ⟨f10, by rw [han]; exact f11, by rw [han]; omega, by rw [han]; omega, by rw [han]; omega, h4⟩, Or.inl rfl, fun j hj => pk_un (Nat.ne_of_lt hj), pk_us⟩, fun z => absurd hlt (by omega), fun x hx hxq h0 => by rw [hF9, va_up_ne _ _ hx, hF5, va_up_ne _ _ hxq], by rw [f11]; exact g0_a⟩ (by first | omega | (simp only [gR]; omega)) (by first | omega | (simp only [gR]; omega)) dX4_add_92
    · have hsn : ¬ sz < n := fun z => c2 (nI_lt z (by omega))
      obtain ⟨N, hNd⟩ : ∃ N : Nat, N = min mo (2 * n) := ⟨_, rfl⟩
      have hN1 : n < N := by rw [hNd]; exact Nat.lt_min.mpr ⟨by omega, by omega⟩
      have hN2 : N ≤ mo := by rw [hNd]; exact Nat.min_le_left _ _
      have hac : gAc n sz = 1 := if_neg hsn
      have has : gAs mo n sz = N := by rw [hNd]; exact if_neg hsn
      have han : gAn mo n sz = N := by rw [hNd]; exact if_neg hsn
      refine g_aload_n hC dX4_add_24 rfl ?_
      refine g_aload_n hC dX4_add_25 rfl ?_
      refine g_get hC fl_X4_7 hA rfl dX4_add_26 ?_
      refine g_bipush (v := 16) hC dX4_add_29 rfl ?_
      refine g_aload_n hC dX4_add_31 rfl ?_
      refine g_get hC fl_X4_17 hA rfl dX4_add_32 ?_
      refine g_aload_n hC dX4_add_35 rfl ?_
      refine g_get hC fl_X4_13 hA rfl dX4_add_36 ?_
      refine g_iconst (v := 2) hC dX4_add_39 rfl ?_
      refine g_imul hC dX4_add_40 ?_
      refine g_vi (fun x12 ex12 => ?_)
      refine g_min hC kw_445 rfl ⟨Nat.le_of_ble_eq_true rfl, Nat.le_of_ble_eq_true rfl⟩ (Nat.le_of_ble_eq_true rfl) (by first | omega | (simp only [gR]; omega)) (by first | omega | (simp only [gR]; omega)) dX4_add_41 ?_
      refine g_vi (fun x13 ex13 => ?_)
      have zx13 : x13 = nI N := by rw [ex13, ex12, hNd]; exact gmin2 (by omega) (by omega) (by omega)
      subst zx13
      refine g_max hC kw_448 rfl ⟨Nat.le_of_ble_eq_true rfl, Nat.le_of_ble_eq_true rfl⟩ (Nat.le_of_ble_eq_true rfl) (by first | omega | (simp only [gR]; omega)) (by first | omega | (simp only [gR]; omega)) dX4_add_44 ?_
      refine g_vi (fun x14 ex14 => ?_)
      have zx14 : x14 = nI N := by rw [ex14]; exact gmax16 (by omega) (by omega)
      subst zx14
      refine g_callSq (As := [.ref q, .int (nI N)]) hC (c_copyOf X.la d b F q n N f hQ (by omega) (by omega)) cl_X4_29 rfl rfl (Nat.le_of_ble_eq_true rfl) (gFit_of (Nat.le_of_ble_eq_true rfl) (Nat.le_of_ble_eq_true rfl) (by first | omega | (simp only [gR]; omega)) (by first | omega | (simp only [gR]; omega))) dX4_add_47 (fun r17 F15 p16 => ?_)
      obtain ⟨q2, rfl, e_q2, hG⟩ := p16
      have f18 : F15 a = .inr (4, [.int (nI mo), .ref q, .int (nI sz)]) := by rw [hG, va_up_ne _ _ (gne hA e_q2 g0_o)]; exact hA
      have f19 : F15 q = .inl (gI d, n, .inl f) := by rw [hG, va_up_ne _ _ (gne hQ e_q2 g0_a)]; exact hQ
      have f20 : F15 q2 = .inl (gI d, N, .inl (va_cpy f (fun _ => 0) 0 0 n)) := by rw [hG]; exact va_up_self _ _ _
      refine g_put hC fl_X4_7 f18 rfl rfl (Nat.le_of_ble_eq_true rfl) dX4_add_50 ?_
      refine g_vF (fun F21 hF21 => ?_)
      have f23 : F21 q = .inl (gI d, n, .inl f) := by rw [hF21, va_up_ne _ _ (gne f19 f18 gk_ao)]; exact f19
      have f24 : F21 q2 = .inl (gI d, N, .inl (va_cpy f (fun _ => 0) 0 0 n)) := by rw [hF21, va_up_ne _ _ (gne f20 f18 gk_ao)]; exact f20
      have f22 : F21 a = .inr (4, [.int (nI mo), .ref q2, .int (nI sz)]) := by rw [hF21]; exact va_up_self _ _ _
      refine g_aload_n hC dX4_add_53 rfl ?_
      refine g_get hC fl_X4_13 f22 rfl dX4_add_54 ?_
      refine g_if_lt (tgt := 92) hC dX4_add_57 (by decide) (fun c25 => ?_) (fun c25 => ?_)
      · exact absurd c25 (nI_pos (by omega))
      · refine g_aload_n hC dX4_add_60 rfl ?_
        refine g_get hC fl_X4_13 f22 rfl dX4_add_61 ?_
        refine g_aload_n hC dX4_add_64 rfl ?_
        refine g_get hC fl_X4_7 f22 rfl dX4_add_65 ?_
        refine g_alen hC 0 f24 rfl dX4_add_68 ?_
        refine g_icmp_ge (tgt := 92) hC dX4_add_69 (by decide) (fun c26 => ?_) (fun c26 => ?_)
        · exact absurd ((nI_leI (by omega) (by omega)).mp c26) (by omega)
        · refine g_aload_n hC dX4_add_72 rfl ?_
          refine g_get hC fl_X4_7 f22 rfl dX4_add_73 ?_
          refine g_aload_n hC dX4_add_76 rfl ?_
          refine g_get hC fl_X4_13 f22 rfl dX4_add_77 ?_
          refine g_iload_n hC dX4_add_80 rfl ?_
          refine g_iast hC f24 (vp_in_nI (by omega) (by omega)) dX4_add_81 ?_
          refine g_vF (fun F27 hF27 => ?_)
          have f29 : F27 q = .inl (gI d, n, .inl f) := by rw [hF27, va_up_ne _ _ (gne hQ e_q2 g0_a)]; exact f23
          have f30 : F27 a = .inr (4, [.int (nI mo), .ref q2, .int (nI sz)]) := by rw [hF27, va_up_ne _ _ (gne f22 f24 gk_oa)]; exact f22
          have f28 : F27 q2 = .inl (gI d, N, .inl (upd (va_cpy f (fun _ => 0) 0 0 n) sz x)) := by rw [hF27]; exact by rw [va_up_self, nI_clamp (by omega)]
          refine g_aload_n hC dX4_add_82 rfl ?_
          refine g_dup hC dX4_add_83 rfl ?_
          refine g_get hC fl_X4_13 f30 rfl dX4_add_84 ?_
          refine g_iconst (v := 1) hC dX4_add_87 rfl ?_
          refine g_iadd hC dX4_add_88 ?_
          refine g_vi (fun x31 ex31 => ?_)
          have zx31 : x31 = nI (sz + 1) := by rw [ex31]; exact nI_1 sz
          subst zx31
          refine g_put hC fl_X4_13 f30 rfl rfl (Nat.le_of_ble_eq_true rfl) dX4_add_89 ?_
          refine g_vF (fun F32 hF32 => ?_)
          have f34 : F32 q = .inl (gI d, n, .inl f) := by rw [hF32, va_up_ne _ _ (gne f29 f30 gk_ao)]; exact f29
          have f35 : F32 q2 = .inl (gI d, N, .inl (upd (va_cpy f (fun _ => 0) 0 0 n) sz x)) := by rw [hF32, va_up_ne _ _ (gne f28 f30 gk_ao)]; exact f28
          have f33 : F32 a = .inr (4, [.int (nI mo), .ref q2, .int (nI (sz + 1))]) := by rw [hF32]; exact va_up_self _ _ _
          exact g_vret hC ⟨fun _ => ⟨q2, upd (va_cpy f (fun _ => 0) 0 0 n) sz x, ⟨f33, by rw [han]; exact f35, by rw [han]; omega, by rw [han]; omega, by rw [han]; omega, h4⟩, Or.inr e_q2, fun j hj => (pk_un (Nat.ne_of_lt hj)).trans ((pk_cpy_in (Nat.zero_le j) (by omega)).trans (by simp)), pk_us⟩, fun z => absurd hlt (by omega), fun x hx hxq h0 => by rw [hF32, va_up_ne _ _ hx, hF27, va_up_ne _ _ (fun z => h0 (by rw [z]; exact e_q2)), hF21, va_up_ne _ _ hx, hG, va_up_ne _ _ (fun z => h0 (by rw [z]; exact e_q2))], by rw [f34]; exact g0_a⟩ (by first | omega | (simp only [gR]; omega)) (by first | omega | (simp only [gR]; omega)) dX4_add_92
  · exact g_vret hC ⟨fun z => absurd (nI_lt z (by omega)) c1, fun _ => rfl, fun x _ _ _ => rfl, by rw [hQ]; exact g0_a⟩ (by first | omega | (simp only [gR]; omega)) (by first | omega | (simp only [gR]; omega)) dX4_add_11
