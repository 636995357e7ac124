def gFl : List Cond := flatC (Jvm.Cond.and given_1 narrow_1)
def gTm : Nat → Term
  | 0 => .string "WordTongue$Scanner" 50
  | 1 => .string "WordTongue$Scanner" 56
  | 2 => .string "WordTongue$Scanner" 58
  | 3 => .string "WordTongue$Scanner" 60
  | _ => .string "WordTongue$Parser" 92
def gK0 : Nat → Nat
  | 0 => 39
  | 1 => 193
  | 2 => 288
  | 3 => 426
  | _ => 439
set_option maxRecDepth 100000 in
theorem gFl_ex : ∀ i, i < 5 → gFl[gK0 i]? = some (Cond.exactly (gTm i) "java/lang/String") := by decide +kernel
set_option maxRecDepth 100000 in
theorem gFl_co : ∀ i, i < 5 → gFl[gK0 i + 1]? = some (Cond.eq (.field (gTm i) "java/lang/String" "coder" "B") (.int 0)) := by decide +kernel
set_option maxRecDepth 100000 in
theorem gFl_ar : ∀ i, i < 5 → gFl[gK0 i + 2]? = some (Cond.arrayOf (.field (gTm i) "java/lang/String" "value" "[B") .byte) := by decide +kernel
set_option maxRecDepth 100000 in
theorem gFl_le : ∀ i, i < 5 → gFl[gK0 i + 3]? = some (Cond.eq (.length (.field (gTm i) "java/lang/String" "value" "[B")) (.int (Int32.ofNat (gLen.getD i 0)))) := by decide +kernel
set_option maxRecDepth 100000 in
theorem gFl_el : ∀ i, i < 5 → ∀ j, j < gLen.getD i 0 → gFl[gK0 i + 4 + j]? = some (Cond.eq (.elem (.field (gTm i) "java/lang/String" "value" "[B") (.int (Int32.ofNat j))) (.int ((gByt.getD i []).getD j 0))) := by decide +kernel
def gNi (i j : Nat) : Nat := (([[0, 287, 424, 436, 468], [287, 0, 425, 437, 469], [424, 425, 0, 438, 470], [436, 437, 438, 0, 471], [468, 469, 470, 471, 0]] : List (List Nat)).getD i []).getD j 0
set_option maxRecDepth 100000 in
theorem gFl_ne : ∀ i, i < 5 → ∀ j, j < 5 → i ≠ j → gFl[gNi i j]? = some (Cond.not (Cond.eq (gTm i) (gTm j))) ∨ gFl[gNi i j]? = some (Cond.not (Cond.eq (gTm j) (gTm i))) := by decide +kernel
theorem gLen_lt : ∀ i, i < 5 → gLen.getD i 0 < 2 ^ 31 := by decide
section GSTART
variable {s : State} {b0 : Nat}
theorem gSt_fl (hgv : (Jvm.Cond.and given_1 narrow_1).before #[.ref b0] s = true) {i : Nat} {w : Cond} (h : gFl[i]? = some w) : w.before #[.ref b0] s = true := flat_of_before _ hgv w (List.mem_of_getElem? h)
theorem gSt_arr {ty : FieldType} (h : (Cond.arrayClass ty).before #[.ref b0] s = true) : ∃ cA : ClassId, ArrOfT s cA ty ∧ s.vm.findClass ("[" ++ ty.toString) = some cA := by
  obtain ⟨cA, k, comp, h1, h2, h3⟩ := Cond.arrayClass_spec h
  exact ⟨cA, fun n z => ⟨fun k h => (by cases h), k, h2, comp, h3⟩, h1⟩
theorem gSt_ao {C : String} (h : (Cond.arrayOver (.object C)).before #[.ref b0] s = true) : ∃ cA : ClassId, ArrOfT s cA (.object C) ∧ va_RA s cA (.object C) := by
  obtain ⟨comp, cA, k, h1, h2, h3, h4, h5⟩ := Cond.arrayOver_spec h
  exact ⟨cA, fun n z => ⟨fun k h => (by cases h), k, h3, comp, h4⟩, k, comp, h3, h4, h1, h5⟩
theorem gSt_cls (hts : ∀ w ∈ lw_tbl, w.before #[.ref b0] s = true) : ∃ (dC : Nat → ClassId) (dI : Nat → Nat → Nat), ∀ (k : Nat) (q : vw_C), vwCl[k]? = some q → u_Kn s q.1 q.2.1 q.2.2 (dC k) (dI k) := by
  obtain ⟨c0, i0, h0⟩ := u_known (C := RX0) (T := TX0) (N := 5) (n := 5) hts (fun w hw => gWs_tbl w (inW_RX0 w hw)) (hts _ (gWs_tbl _ kw_702))
  obtain ⟨c1, i1, h1⟩ := u_known (C := RX1) (T := TX1) (N := 19) (n := 19) hts (fun w hw => gWs_tbl w (inW_RX1 w hw)) (hts _ (gWs_tbl _ kw_570))
  obtain ⟨c2, i2, h2⟩ := u_known (C := RX2) (T := TX2) (N := 7) (n := 7) hts (fun w hw => gWs_tbl w (inW_RX2 w hw)) (hts _ (gWs_tbl _ kw_613))
  obtain ⟨c3, i3, h3⟩ := u_known (C := RX3) (T := TX3) (N := 2) (n := 2) hts (fun w hw => gWs_tbl w (inW_RX3 w hw)) (hts _ (gWs_tbl _ kw_733))
  obtain ⟨c4, i4, h4⟩ := u_known (C := RX4) (T := TX4) (N := 3) (n := 3) hts (fun w hw => gWs_tbl w (inW_RX4 w hw)) (hts _ (gWs_tbl _ kw_273))
  obtain ⟨c5, i5, h5⟩ := u_known (C := RX5) (T := TX5) (N := 16) (n := 16) hts (fun w hw => gWs_tbl w (inW_RX5 w hw)) (hts _ (gWs_tbl _ kw_727))
  obtain ⟨c6, i6, h6⟩ := u_known (C := RX6) (T := TX6) (N := 12) (n := 12) hts (fun w hw => gWs_tbl w (inW_RX6 w hw)) (hts _ (gWs_tbl _ kw_508))
  obtain ⟨c7, i7, h7⟩ := u_known (C := RX7) (T := TX7) (N := 11) (n := 11) hts (fun w hw => gWs_tbl w (inW_RX7 w hw)) (hts _ (gWs_tbl _ kw_290))
  obtain ⟨c8, i8, h8⟩ := u_known (C := RX8) (T := TX8) (N := 11) (n := 11) hts (fun w hw => gWs_tbl w (inW_RX8 w hw)) (hts _ (gWs_tbl _ kw_364))
  obtain ⟨c9, i9, h9⟩ := u_known (C := RX9) (T := TX9) (N := 8) (n := 8) hts (fun w hw => gWs_tbl w (inW_RX9 w hw)) (hts _ (gWs_tbl _ kw_579))
  obtain ⟨c10, i10, h10⟩ := u_known (C := RX10) (T := TX10) (N := 7) (n := 7) hts (fun w hw => gWs_tbl w (inW_RX10 w hw)) (hts _ (gWs_tbl _ kw_333))
  obtain ⟨c11, i11, h11⟩ := u_known (C := RX11) (T := TX11) (N := 10) (n := 10) hts (fun w hw => gWs_tbl w (inW_RX11 w hw)) (hts _ (gWs_tbl _ kw_265))
  obtain ⟨c12, i12, h12⟩ := u_known (C := RX12) (T := TX12) (N := 119) (n := 119) hts (fun w hw => gWs_tbl w (inW_RX12 w hw)) (hts _ (gWs_tbl _ kw_1947))
  refine ⟨fun k => if k = 0 then c0 else if k = 1 then c1 else if k = 2 then c2 else if k = 3 then c3 else if k = 4 then c4 else if k = 5 then c5 else if k = 6 then c6 else if k = 7 then c7 else if k = 8 then c8 else if k = 9 then c9 else if k = 10 then c10 else if k = 11 then c11 else if k = 12 then c12 else c0, fun k => if k = 0 then i0 else if k = 1 then i1 else if k = 2 then i2 else if k = 3 then i3 else if k = 4 then i4 else if k = 5 then i5 else if k = 6 then i6 else if k = 7 then i7 else if k = 8 then i8 else if k = 9 then i9 else if k = 10 then i10 else if k = 11 then i11 else if k = 12 then i12 else i0, ?_⟩
  intro k q hq
  match k, hq with
  | 0, hq => cases hq; exact h0
  | 1, hq => cases hq; exact h1
  | 2, hq => cases hq; exact h2
  | 3, hq => cases hq; exact h3
  | 4, hq => cases hq; exact h4
  | 5, hq => cases hq; exact h5
  | 6, hq => cases hq; exact h6
  | 7, hq => cases hq; exact h7
  | 8, hq => cases hq; exact h8
  | 9, hq => cases hq; exact h9
  | 10, hq => cases hq; exact h10
  | 11, hq => cases hq; exact h11
  | 12, hq => cases hq; exact h12
  | k + 13, hq => simp [vwCl] at hq
set_option maxRecDepth 100000 in
theorem gSt_ns (hts : ∀ w ∈ lw_tbl, w.before #[.ref b0] s = true) : ∀ w ∈ gNs, va_Nw (.methodLinkNest w.1 w.2.1 w.2.2.1 w.2.2.2) s := List.forall_mem_cons.mpr ⟨va_Nw.of rfl (hts _ (List.mem_of_getElem? (i := 291) (by decide +kernel))), List.forall_mem_cons.mpr ⟨va_Nw.of rfl (hts _ (List.mem_of_getElem? (i := 334) (by decide +kernel))), List.forall_mem_cons.mpr ⟨va_Nw.of rfl (hts _ (List.mem_of_getElem? (i := 703) (by decide +kernel))), List.forall_mem_cons.mpr ⟨va_Nw.of rfl (hts _ (List.mem_of_getElem? (i := 734) (by decide +kernel))), List.forall_mem_cons.mpr ⟨va_Nw.of rfl (hts _ (List.mem_of_getElem? (i := 1230) (by decide +kernel))), List.forall_mem_cons.mpr ⟨va_Nw.of rfl (hts _ (List.mem_of_getElem? (i := 1236) (by decide +kernel))), List.forall_mem_cons.mpr ⟨va_Nw.of rfl (hts _ (List.mem_of_getElem? (i := 1351) (by decide +kernel))), List.forall_mem_cons.mpr ⟨va_Nw.of rfl (hts _ (List.mem_of_getElem? (i := 1358) (by decide +kernel))), List.forall_mem_cons.mpr ⟨va_Nw.of rfl (hts _ (List.mem_of_getElem? (i := 1365) (by decide +kernel))), List.forall_mem_cons.mpr ⟨va_Nw.of rfl (hts _ (List.mem_of_getElem? (i := 1368) (by decide +kernel))), List.forall_mem_cons.mpr ⟨va_Nw.of rfl (hts _ (List.mem_of_getElem? (i := 1546) (by decide +kernel))), List.forall_mem_cons.mpr ⟨va_Nw.of rfl (hts _ (List.mem_of_getElem? (i := 1780) (by decide +kernel))), List.forall_mem_cons.mpr ⟨va_Nw.of rfl (hts _ (List.mem_of_getElem? (i := 1785) (by decide +kernel))), List.forall_mem_cons.mpr ⟨va_Nw.of rfl (hts _ (List.mem_of_getElem? (i := 1786) (by decide +kernel))), List.forall_mem_cons.mpr ⟨va_Nw.of rfl (hts _ (List.mem_of_getElem? (i := 1787) (by decide +kernel))), fun _ h => nomatch h⟩⟩⟩⟩⟩⟩⟩⟩⟩⟩⟩⟩⟩⟩⟩
set_option maxRecDepth 100000 in
theorem gSt_cs (hts : ∀ w ∈ lw_tbl, w.before #[.ref b0] s = true) : ∀ q ∈ gCs, va_Nw (.castable q.1 q.2) s := List.forall_mem_cons.mpr ⟨va_Nw.of rfl (hts _ (List.mem_of_getElem? (i := 459) (by decide +kernel))), List.forall_mem_cons.mpr ⟨va_Nw.of rfl (hts _ (List.mem_of_getElem? (i := 1010) (by decide +kernel))), List.forall_mem_cons.mpr ⟨va_Nw.of rfl (hts _ (List.mem_of_getElem? (i := 1912) (by decide +kernel))), List.forall_mem_cons.mpr ⟨va_Nw.of rfl (hts _ (List.mem_of_getElem? (i := 2950) (by decide +kernel))), List.forall_mem_cons.mpr ⟨va_Nw.of rfl (hts _ (List.mem_of_getElem? (i := 2951) (by decide +kernel))), List.forall_mem_cons.mpr ⟨va_Nw.of rfl (hts _ (List.mem_of_getElem? (i := 2952) (by decide +kernel))), List.forall_mem_cons.mpr ⟨va_Nw.of rfl (hts _ (List.mem_of_getElem? (i := 2953) (by decide +kernel))), List.forall_mem_cons.mpr ⟨va_Nw.of rfl (hts _ (List.mem_of_getElem? (i := 2954) (by decide +kernel))), List.forall_mem_cons.mpr ⟨va_Nw.of rfl (hts _ (List.mem_of_getElem? (i := 2955) (by decide +kernel))), List.forall_mem_cons.mpr ⟨va_Nw.of rfl (hts _ (List.mem_of_getElem? (i := 2956) (by decide +kernel))), List.forall_mem_cons.mpr ⟨va_Nw.of rfl (hts _ (List.mem_of_getElem? (i := 2957) (by decide +kernel))), List.forall_mem_cons.mpr ⟨va_Nw.of rfl (hts _ (List.mem_of_getElem? (i := 2958) (by decide +kernel))), List.forall_mem_cons.mpr ⟨va_Nw.of rfl (hts _ (List.mem_of_getElem? (i := 2959) (by decide +kernel))), List.forall_mem_cons.mpr ⟨va_Nw.of rfl (hts _ (List.mem_of_getElem? (i := 2960) (by decide +kernel))), List.forall_mem_cons.mpr ⟨va_Nw.of rfl (hts _ (List.mem_of_getElem? (i := 2961) (by decide +kernel))), List.forall_mem_cons.mpr ⟨va_Nw.of rfl (hts _ (List.mem_of_getElem? (i := 2962) (by decide +kernel))), List.forall_mem_cons.mpr ⟨va_Nw.of rfl (hts _ (List.mem_of_getElem? (i := 2963) (by decide +kernel))), List.forall_mem_cons.mpr ⟨va_Nw.of rfl (hts _ (List.mem_of_getElem? (i := 2964) (by decide +kernel))), List.forall_mem_cons.mpr ⟨va_Nw.of rfl (hts _ (List.mem_of_getElem? (i := 2965) (by decide +kernel))), List.forall_mem_cons.mpr ⟨va_Nw.of rfl (hts _ (List.mem_of_getElem? (i := 2966) (by decide +kernel))), fun _ h => nomatch h⟩⟩⟩⟩⟩⟩⟩⟩⟩⟩⟩⟩⟩⟩⟩⟩⟩⟩⟩⟩
set_option maxRecDepth 100000 in
theorem gSt_ds (hts : ∀ w ∈ lw_tbl, w.before #[.ref b0] s = true) : ∀ x ∈ gDs, va_Nw (.declares x) s := List.forall_mem_cons.mpr ⟨va_Nw.of rfl (hts _ (List.mem_of_getElem? (i := 1011) (by decide +kernel))), List.forall_mem_cons.mpr ⟨va_Nw.of rfl (hts _ (List.mem_of_getElem? (i := 1012) (by decide +kernel))), List.forall_mem_cons.mpr ⟨va_Nw.of rfl (hts _ (List.mem_of_getElem? (i := 1013) (by decide +kernel))), List.forall_mem_cons.mpr ⟨va_Nw.of rfl (hts _ (List.mem_of_getElem? (i := 1014) (by decide +kernel))), List.forall_mem_cons.mpr ⟨va_Nw.of rfl (hts _ (List.mem_of_getElem? (i := 1015) (by decide +kernel))), List.forall_mem_cons.mpr ⟨va_Nw.of rfl (hts _ (List.mem_of_getElem? (i := 1016) (by decide +kernel))), fun _ h => nomatch h⟩⟩⟩⟩⟩⟩
set_option maxRecDepth 100000 in
theorem gSt_E (hts : ∀ w ∈ lw_tbl, w.before #[.ref b0] s = true) (hgv : (Jvm.Cond.and given_1 narrow_1).before #[.ref b0] s = true) : ∃ d : gD, gV d s.heap.size s := by
  have hA : ∀ a : Nat, a < s.heap.size → ¬ s.heap.size ≤ a := fun a h => Nat.not_le.mpr h
  obtain ⟨dC, dI, hKc⟩ := gSt_cls hts
  obtain ⟨aI, oI, nI⟩ := gSt_arr (hts (Cond.arrayClass .int) (List.mem_of_getElem? (i := 288) (by decide +kernel)))
  obtain ⟨aY, oY, nY⟩ := gSt_arr (hts (Cond.arrayClass .byte) (List.mem_of_getElem? (i := 506) (by decide +kernel)))
  obtain ⟨aZ, oZ, nZ⟩ := gSt_arr (hts (Cond.arrayClass .boolean) (List.mem_of_getElem? (i := 2314) (by decide +kernel)))
  obtain ⟨aJ, oJ, nJ⟩ := gSt_arr (hts (Cond.arrayClass .long) (List.mem_of_getElem? (i := 2948) (by decide +kernel)))
  have hao : (Cond.arrayOver (.object RX4)).before #[.ref b0] s = true := hts _ (List.mem_of_getElem? (i := 708) (by decide +kernel))
  obtain ⟨aO, oO, nO⟩ := gSt_ao hao
  obtain ⟨adK, adV, hS, hev⟩ := vk_Sof (tm := gTm) (N := 5) (len := gLen) (byt := gByt) (A := fun q => s.heap.size ≤ q) gLen_lt (fun i hi => gSt_fl hgv (gFl_ex i hi)) (fun i hi => gSt_fl hgv (gFl_co i hi)) (fun i hi => gSt_fl hgv (gFl_ar i hi)) (fun i hi => gSt_fl hgv (gFl_le i hi)) (fun i hi j hj => gSt_fl hgv (gFl_el i hi j hj)) (fun i j hi hj hn => (gFl_ne i hi j hj hn).elim (fun h => Or.inl (gSt_fl hgv h)) (fun h => Or.inr (gSt_fl hgv h))) hA
  refine ⟨((dC, dI), (aI, aY, aZ, aJ, aO), adK, adV), Nat.le_refl _, ⟨hKc, fun k q hq => ?_⟩, gSt_ns hts, va_AO.of hao, hS, fun i w hw => ?_, va_Zof (hts _ (List.mem_of_getElem? (i := 386) (by decide +kernel))) (hts _ (List.mem_of_getElem? (i := 243) (by decide +kernel))) (va_eqi (gSt_fl hgv (i := 4) (by decide +kernel))) hA, vx_Zqof (hts _ (List.mem_of_getElem? (i := 1035) (by decide +kernel))) (hts _ (List.mem_of_getElem? (i := 258) (by decide +kernel))) (gSt_fl hgv (i := 9) (by decide +kernel)) hA, vx_Zqof (hts _ (List.mem_of_getElem? (i := 1037) (by decide +kernel))) (hts _ (List.mem_of_getElem? (i := 258) (by decide +kernel))) (gSt_fl hgv (i := 10) (by decide +kernel)) hA, gSt_cs hts, gSt_ds hts, ?_⟩
  · match k, hq with
    | 0, hq => cases hq; exact ⟨oI, nI⟩
    | 1, hq => cases hq; exact ⟨oY, nY⟩
    | 2, hq => cases hq; exact ⟨oZ, nZ⟩
    | 3, hq => cases hq; exact ⟨oJ, nJ⟩
    | 4, hq => cases hq; exact ⟨oO, nO⟩
    | k + 5, hq => simp [gtys] at hq
  · match i, hw with
    | 0, hw => cases hw; exact vk_R.of (A := #[.ref b0]) (hts _ (List.mem_of_getElem? (i := 372) (by decide +kernel))) (hev 0 (by decide))
    | 1, hw => cases hw; exact vk_R.of (A := #[.ref b0]) (hts _ (List.mem_of_getElem? (i := 469) (by decide +kernel))) (hev 1 (by decide))
    | 2, hw => cases hw; exact vk_R.of (A := #[.ref b0]) (hts _ (List.mem_of_getElem? (i := 470) (by decide +kernel))) (hev 2 (by decide))
    | 3, hw => cases hw; exact vk_R.of (A := #[.ref b0]) (hts _ (List.mem_of_getElem? (i := 471) (by decide +kernel))) (hev 3 (by decide))
    | 4, hw => cases hw; exact vk_R.of (A := #[.ref b0]) (hts _ (List.mem_of_getElem? (i := 1048) (by decide +kernel))) (hev 4 (by decide))
    | i + 5, hw => simp [gSr] at hw
  · rcases va_Zqof (C := "jdk/internal/util/Preconditions") (n := "SIOOBE_FORMATTER") (d := "Ljava/util/function/BiFunction;") (hts _ (List.mem_of_getElem? (i := 402) (by decide +kernel))) (hts _ (List.mem_of_getElem? (i := 245) (by decide +kernel))) (gSt_fl hgv (i := 5) (by decide +kernel)) hA with h | ⟨t, h⟩
    · exact ⟨none, h⟩
    · exact ⟨some t, h⟩
end GSTART
