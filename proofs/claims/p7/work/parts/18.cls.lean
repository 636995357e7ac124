def gU (x y : Int32) : Int32 := (x.toUInt32 >>> (y.toUInt32 &&& Int32.toUInt32 31)).toInt32
def gBc (i : Int32) : Int32 :=
  let a := i - (gU i 1 &&& 1431655765)
  let b := (a &&& 858993459) + (gU a 2 &&& 858993459)
  let c := (b + gU b 4) &&& 252645135
  let e := c + gU c 8
  let f := e + gU e 16
  f &&& 63
theorem dJ6_bitCount_0f7a4_0 : decode cJ6_bitCount_0f7a4 0 = .ok (.iload_n 0, 1) := by decide +kernel
theorem dJ6_bitCount_0f7a4_1 : decode cJ6_bitCount_0f7a4 1 = .ok (.iload_n 0, 1) := by decide +kernel
theorem dJ6_bitCount_0f7a4_2 : decode cJ6_bitCount_0f7a4 2 = .ok (.iconst 1, 1) := by decide +kernel
theorem dJ6_bitCount_0f7a4_3 : decode cJ6_bitCount_0f7a4 3 = .ok (.iushr, 1) := by decide +kernel
theorem dJ6_bitCount_0f7a4_4 : decode cJ6_bitCount_0f7a4 4 = .ok (.ldc_w 265, 3) := by decide +kernel
theorem dJ6_bitCount_0f7a4_7 : decode cJ6_bitCount_0f7a4 7 = .ok (.iand, 1) := by decide +kernel
theorem dJ6_bitCount_0f7a4_8 : decode cJ6_bitCount_0f7a4 8 = .ok (.isub, 1) := by decide +kernel
theorem dJ6_bitCount_0f7a4_9 : decode cJ6_bitCount_0f7a4 9 = .ok (.istore_n 0, 1) := by decide +kernel
theorem dJ6_bitCount_0f7a4_10 : decode cJ6_bitCount_0f7a4 10 = .ok (.iload_n 0, 1) := by decide +kernel
theorem dJ6_bitCount_0f7a4_11 : decode cJ6_bitCount_0f7a4 11 = .ok (.ldc_w 266, 3) := by decide +kernel
theorem dJ6_bitCount_0f7a4_14 : decode cJ6_bitCount_0f7a4 14 = .ok (.iand, 1) := by decide +kernel
theorem dJ6_bitCount_0f7a4_15 : decode cJ6_bitCount_0f7a4 15 = .ok (.iload_n 0, 1) := by decide +kernel
theorem dJ6_bitCount_0f7a4_16 : decode cJ6_bitCount_0f7a4 16 = .ok (.iconst 2, 1) := by decide +kernel
theorem dJ6_bitCount_0f7a4_17 : decode cJ6_bitCount_0f7a4 17 = .ok (.iushr, 1) := by decide +kernel
theorem dJ6_bitCount_0f7a4_18 : decode cJ6_bitCount_0f7a4 18 = .ok (.ldc_w 266, 3) := by decide +kernel
theorem dJ6_bitCount_0f7a4_21 : decode cJ6_bitCount_0f7a4 21 = .ok (.iand, 1) := by decide +kernel
theorem dJ6_bitCount_0f7a4_22 : decode cJ6_bitCount_0f7a4 22 = .ok (.iadd, 1) := by decide +kernel
theorem dJ6_bitCount_0f7a4_23 : decode cJ6_bitCount_0f7a4 23 = .ok (.istore_n 0, 1) := by decide +kernel
theorem dJ6_bitCount_0f7a4_24 : decode cJ6_bitCount_0f7a4 24 = .ok (.iload_n 0, 1) := by decide +kernel
theorem dJ6_bitCount_0f7a4_25 : decode cJ6_bitCount_0f7a4 25 = .ok (.iload_n 0, 1) := by decide +kernel
theorem dJ6_bitCount_0f7a4_26 : decode cJ6_bitCount_0f7a4 26 = .ok (.iconst 4, 1) := by decide +kernel
theorem dJ6_bitCount_0f7a4_27 : decode cJ6_bitCount_0f7a4 27 = .ok (.iushr, 1) := by decide +kernel
theorem dJ6_bitCount_0f7a4_28 : decode cJ6_bitCount_0f7a4 28 = .ok (.iadd, 1) := by decide +kernel
theorem dJ6_bitCount_0f7a4_29 : decode cJ6_bitCount_0f7a4 29 = .ok (.ldc_w 267, 3) := by decide +kernel
theorem dJ6_bitCount_0f7a4_32 : decode cJ6_bitCount_0f7a4 32 = .ok (.iand, 1) := by decide +kernel
theorem dJ6_bitCount_0f7a4_33 : decode cJ6_bitCount_0f7a4 33 = .ok (.istore_n 0, 1) := by decide +kernel
theorem dJ6_bitCount_0f7a4_34 : decode cJ6_bitCount_0f7a4 34 = .ok (.iload_n 0, 1) := by decide +kernel
theorem dJ6_bitCount_0f7a4_35 : decode cJ6_bitCount_0f7a4 35 = .ok (.iload_n 0, 1) := by decide +kernel
theorem dJ6_bitCount_0f7a4_36 : decode cJ6_bitCount_0f7a4 36 = .ok (.bipush 8, 2) := by decide +kernel
theorem dJ6_bitCount_0f7a4_38 : decode cJ6_bitCount_0f7a4 38 = .ok (.iushr, 1) := by decide +kernel
theorem dJ6_bitCount_0f7a4_39 : decode cJ6_bitCount_0f7a4 39 = .ok (.iadd, 1) := by decide +kernel
theorem dJ6_bitCount_0f7a4_40 : decode cJ6_bitCount_0f7a4 40 = .ok (.istore_n 0, 1) := by decide +kernel
theorem dJ6_bitCount_0f7a4_41 : decode cJ6_bitCount_0f7a4 41 = .ok (.iload_n 0, 1) := by decide +kernel
theorem dJ6_bitCount_0f7a4_42 : decode cJ6_bitCount_0f7a4 42 = .ok (.iload_n 0, 1) := by decide +kernel
theorem dJ6_bitCount_0f7a4_43 : decode cJ6_bitCount_0f7a4 43 = .ok (.bipush 16, 2) := by decide +kernel
theorem dJ6_bitCount_0f7a4_45 : decode cJ6_bitCount_0f7a4 45 = .ok (.iushr, 1) := by decide +kernel
theorem dJ6_bitCount_0f7a4_46 : decode cJ6_bitCount_0f7a4 46 = .ok (.iadd, 1) := by decide +kernel
theorem dJ6_bitCount_0f7a4_47 : decode cJ6_bitCount_0f7a4 47 = .ok (.istore_n 0, 1) := by decide +kernel
theorem dJ6_bitCount_0f7a4_48 : decode cJ6_bitCount_0f7a4 48 = .ok (.iload_n 0, 1) := by decide +kernel
theorem dJ6_bitCount_0f7a4_49 : decode cJ6_bitCount_0f7a4 49 = .ok (.bipush 63, 2) := by decide +kernel
theorem dJ6_bitCount_0f7a4_51 : decode cJ6_bitCount_0f7a4 51 = .ok (.iand, 1) := by decide +kernel
theorem dJ6_bitCount_0f7a4_52 : decode cJ6_bitCount_0f7a4 52 = .ok (.ireturn, 1) := by decide +kernel
set_option maxHeartbeats 4000000 in
set_option maxRecDepth 100000 in
theorem c_bitCount (l : Launch) (d : gD) (b : Nat) (F : gM) (i : Int32) : gMi l d b yJ6_bitCount_0f7a4 cJ6_bitCount_0f7a4 1 .int 0 0 0 F [.int i] (fun r F' => r = gBc i ∧ F' = F) := by
  refine gM_of2 rfl (nL := 1) (Nat.le_of_ble_eq_true rfl) ?_
  intro X hX hC; subst hX
  show gG X d b _ F 0 0 0 [some (.int i)] []
  refine g_iload_n hC dJ6_bitCount_0f7a4_0 rfl ?_
  refine g_iload_n hC dJ6_bitCount_0f7a4_1 rfl ?_
  refine g_iconst (v := 1) hC dJ6_bitCount_0f7a4_2 rfl ?_
  refine g_iushr hC dJ6_bitCount_0f7a4_3 ?_
  refine g_vi (fun x1 ex1 => ?_)
  refine g_ldcw hC dJ6_bitCount_0f7a4_4 kw_1606 ?_
  refine g_iand hC dJ6_bitCount_0f7a4_7 ?_
  refine g_vi (fun x2 ex2 => ?_)
  refine g_isub hC dJ6_bitCount_0f7a4_8 ?_
  refine g_vi (fun x3 ex3 => ?_)
  refine g_istore_n (lv' := [some (.int x3)]) hC dJ6_bitCount_0f7a4_9 (Nat.le_of_ble_eq_true rfl) rfl rfl ?_
  refine g_iload_n hC dJ6_bitCount_0f7a4_10 rfl ?_
  refine g_ldcw hC dJ6_bitCount_0f7a4_11 kw_1607 ?_
  refine g_iand hC dJ6_bitCount_0f7a4_14 ?_
  refine g_vi (fun x4 ex4 => ?_)
  refine g_iload_n hC dJ6_bitCount_0f7a4_15 rfl ?_
  refine g_iconst (v := 2) hC dJ6_bitCount_0f7a4_16 rfl ?_
  refine g_iushr hC dJ6_bitCount_0f7a4_17 ?_
  refine g_vi (fun x5 ex5 => ?_)
  refine g_ldcw hC dJ6_bitCount_0f7a4_18 kw_1607 ?_
  refine g_iand hC dJ6_bitCount_0f7a4_21 ?_
  refine g_vi (fun x6 ex6 => ?_)
  refine g_iadd hC dJ6_bitCount_0f7a4_22 ?_
  refine g_vi (fun x7 ex7 => ?_)
  refine g_istore_n (lv' := [some (.int x7)]) hC dJ6_bitCount_0f7a4_23 (Nat.le_of_ble_eq_true rfl) rfl rfl ?_
  refine g_iload_n hC dJ6_bitCount_0f7a4_24 rfl ?_
  refine g_iload_n hC dJ6_bitCount_0f7a4_25 rfl ?_
  refine g_iconst (v := 4) hC dJ6_bitCount_0f7a4_26 rfl ?_
  refine g_iushr hC dJ6_bitCount_0f7a4_27 ?_
  refine g_vi (fun x8 ex8 => ?_)
  refine g_iadd hC dJ6_bitCount_0f7a4_28 ?_
  refine g_vi (fun x9 ex9 => ?_)
  refine g_ldcw hC dJ6_bitCount_0f7a4_29 kw_1608 ?_
  refine g_iand hC dJ6_bitCount_0f7a4_32 ?_
  refine g_vi (fun x10 ex10 => ?_)
  refine g_istore_n (lv' := [some (.int x10)]) hC dJ6_bitCount_0f7a4_33 (Nat.le_of_ble_eq_true rfl) rfl rfl ?_
  refine g_iload_n hC dJ6_bitCount_0f7a4_34 rfl ?_
  refine g_iload_n hC dJ6_bitCount_0f7a4_35 rfl ?_
  refine g_bipush (v := 8) hC dJ6_bitCount_0f7a4_36 rfl ?_
  refine g_iushr hC dJ6_bitCount_0f7a4_38 ?_
  refine g_vi (fun x11 ex11 => ?_)
  refine g_iadd hC dJ6_bitCount_0f7a4_39 ?_
  refine g_vi (fun x12 ex12 => ?_)
  refine g_istore_n (lv' := [some (.int x12)]) hC dJ6_bitCount_0f7a4_40 (Nat.le_of_ble_eq_true rfl) rfl rfl ?_
  refine g_iload_n hC dJ6_bitCount_0f7a4_41 rfl ?_
  refine g_iload_n hC dJ6_bitCount_0f7a4_42 rfl ?_
  refine g_bipush (v := 16) hC dJ6_bitCount_0f7a4_43 rfl ?_
  refine g_iushr hC dJ6_bitCount_0f7a4_45 ?_
  refine g_vi (fun x13 ex13 => ?_)
  refine g_iadd hC dJ6_bitCount_0f7a4_46 ?_
  refine g_vi (fun x14 ex14 => ?_)
  refine g_istore_n (lv' := [some (.int x14)]) hC dJ6_bitCount_0f7a4_47 (Nat.le_of_ble_eq_true rfl) rfl rfl ?_
  refine g_iload_n hC dJ6_bitCount_0f7a4_48 rfl ?_
  refine g_bipush (v := 63) hC dJ6_bitCount_0f7a4_49 rfl ?_
  refine g_iand hC dJ6_bitCount_0f7a4_51 ?_
  refine g_vi (fun x15 ex15 => ?_)
  exact g_iret hC rfl ⟨by subst_vars; rfl, rfl⟩ (by first | exact Nat.le_of_ble_eq_true rfl | omega | (simp only [gR]; omega)) (by first | exact Nat.le_of_ble_eq_true rfl | omega | (simp only [gR]; omega)) dJ6_bitCount_0f7a4_52
theorem nI_and (a b : Nat) : nI a &&& nI b = nI (a &&& b) := by
  apply Int32.toBitVec_inj.mp
  rw [Int32.toBitVec_and]
  show BitVec.ofNat 32 a &&& BitVec.ofNat 32 b = BitVec.ofNat 32 (a &&& b)
  apply BitVec.eq_of_toNat_eq
  rw [BitVec.toNat_and, BitVec.toNat_ofNat, BitVec.toNat_ofNat, BitVec.toNat_ofNat, Nat.and_mod_two_pow]
theorem gU1 {n : Nat} (h : n < 2 ^ 32) : gU (nI n) 1 = nI (n / 2) := pk_ushrN h 1 1 (by decide)
theorem gU2 {n : Nat} (h : n < 2 ^ 32) : gU (nI n) 2 = nI (n / 4) := pk_ushrN h 2 2 (by decide)
theorem gU4 {n : Nat} (h : n < 2 ^ 32) : gU (nI n) 4 = nI (n / 16) := pk_ushrN h 4 4 (by decide)
theorem gU8 {n : Nat} (h : n < 2 ^ 32) : gU (nI n) 8 = nI (n / 256) := pk_ushrN h 8 8 (by decide)
theorem gU16 {n : Nat} (h : n < 2 ^ 32) : gU (nI n) 16 = nI (n / 65536) := pk_ushrN h 16 16 (by decide)
def bcA (j : Nat) : Nat := Nat.sub j (Nat.land (Nat.div j 2) 1431655765)
def bcB (a : Nat) : Nat := Nat.add (Nat.land a 858993459) (Nat.land (Nat.div a 4) 858993459)
def bcC (b : Nat) : Nat := Nat.land (Nat.add b (Nat.div b 16)) 252645135
def bcE (c : Nat) : Nat := Nat.add c (Nat.div c 256)
def bcF (e : Nat) : Nat := Nat.add e (Nat.div e 65536)
def bcN (j : Nat) : Nat := Nat.land (bcF (bcE (bcC (bcB (bcA j))))) 63
theorem gBc_n {j : Nat} (h : j ≤ 65536) : gBc (nI j) = nI (bcN j) := by
  have l1 : ∀ x y : Nat, Nat.land x y ≤ x := fun x y => Nat.and_le_left
  have a1 : Nat.land (Nat.div j 2) 1431655765 ≤ j := Nat.le_trans (l1 _ _) (Nat.div_le_self _ _)
  have ha : bcA j ≤ 65536 := Nat.le_trans (Nat.sub_le _ _) h
  have hb : bcB (bcA j) ≤ 131072 := Nat.le_trans (Nat.add_le_add (l1 _ _) (Nat.le_trans (l1 _ _) (Nat.div_le_self _ _))) (by omega)
  have hc : bcC (bcB (bcA j)) ≤ 262144 := Nat.le_trans (l1 _ _) (Nat.le_trans (Nat.add_le_add hb (Nat.le_trans (Nat.div_le_self _ _) hb)) (by omega))
  have he : bcE (bcC (bcB (bcA j))) ≤ 524288 := Nat.le_trans (Nat.add_le_add hc (Nat.le_trans (Nat.div_le_self _ _) hc)) (by omega)
  have e1 : nI j - (gU (nI j) 1 &&& 1431655765) = nI (bcA j) := by
    rw [gU1 (by omega), show (1431655765 : Int32) = nI 1431655765 from rfl, nI_and]
    exact pk_sub a1
  have e2 : (nI (bcA j) &&& 858993459) + (gU (nI (bcA j)) 2 &&& 858993459) = nI (bcB (bcA j)) := by
    rw [gU2 (by omega), show (858993459 : Int32) = nI 858993459 from rfl, nI_and, nI_and, nI_add]
    rfl
  have e3 : (nI (bcB (bcA j)) + gU (nI (bcB (bcA j))) 4) &&& 252645135 = nI (bcC (bcB (bcA j))) := by
    rw [gU4 (by omega), nI_add, show (252645135 : Int32) = nI 252645135 from rfl, nI_and]
    rfl
  have e4 : nI (bcC (bcB (bcA j))) + gU (nI (bcC (bcB (bcA j)))) 8 = nI (bcE (bcC (bcB (bcA j)))) := by
    rw [gU8 (by omega), nI_add]
    rfl
  have e5 : nI (bcE (bcC (bcB (bcA j)))) + gU (nI (bcE (bcC (bcB (bcA j))))) 16 = nI (bcF (bcE (bcC (bcB (bcA j))))) := by
    rw [gU16 (by omega), nI_add]
    rfl
  unfold gBc
  simp only [e1, e2, e3, e4, e5]
  rw [show (63 : Int32) = nI 63 from rfl, nI_and]
  rfl
def bcT (j : Nat) : Bool := Nat.blt j 4096 || ((Nat.beq (bcN j) 1) == (Nat.beq j 4096 || (Nat.beq j 8192 || (Nat.beq j 16384 || (Nat.beq j 32768 || Nat.beq j 65536)))))
def bcK : Nat → Nat → Bool
  | 0, lo => bcT lo
  | k + 1, lo => bcK k lo && bcK k (Nat.add lo (Nat.pow 2 k))
theorem bcK_all : ∀ (k lo : Nat), bcK k lo = true → ∀ j, lo ≤ j → j < lo + 2 ^ k → bcT j = true
  | 0, lo, h, j, h1, h2 => by
    have e : j = lo := by omega
    rw [e]; exact h
  | k + 1, lo, h, j, h1, h2 => by
    have h' : (bcK k lo && bcK k (lo + 2 ^ k)) = true := h
    rw [Bool.and_eq_true] at h'
    by_cases c : j < lo + 2 ^ k
    · exact bcK_all k lo h'.1 j h1 c
    · exact bcK_all k (lo + 2 ^ k) h'.2 j (by omega) (by rw [Nat.pow_succ] at h2; omega)
set_option maxRecDepth 100000 in
theorem bcK_ok : bcK 16 0 = true := by decide +kernel
theorem bcT_top : bcT 65536 = true := by decide +kernel
def gFive (i : Int32) : Prop := i = 4096 ∨ i = 8192 ∨ i = 16384 ∨ i = 32768 ∨ i = 65536
theorem gBc_ok {i : Int32} (h1 : ¬ i < 4096) (h2 : ¬ 65536 < i) : gBc i = 1 ↔ gFive i := by
  have h0 : ¬ i < 0 := fun q => h1 (by
    have a := Int32.lt_iff_toInt_lt.mp q
    exact Int32.lt_iff_toInt_lt.mpr (Int.lt_trans a (by decide)))
  obtain ⟨j, hj, rfl⟩ := nI_of h0
  have g1 : 4096 ≤ j := Nat.not_lt.mp fun q => h1 (nI_lt (b := 4096) q (by decide))
  have g2 : j ≤ 65536 := Nat.not_lt.mp fun q => h2 (nI_lt (a := 65536) q hj)
  have hT : bcT j = true := by
    rcases Nat.lt_or_ge j 65536 with q | q
    · exact bcK_all 16 0 bcK_ok j (Nat.zero_le j) (by omega)
    · rw [show j = 65536 by omega]; exact bcT_top
  have hlt : bcN j < 2 ^ 31 := Nat.lt_of_le_of_lt (show Nat.land _ 63 ≤ 63 from Nat.and_le_right) (by decide)
  have k1 : gBc (nI j) = 1 ↔ bcN j = 1 := by
    rw [gBc_n g2, show (1 : Int32) = nI 1 from rfl]
    exact nI_eq hlt (by decide)
  have k2 : ∀ n : Nat, n < 2 ^ 31 → (nI j = nI n ↔ j = n) := fun n hn => nI_eq hj hn
  rw [k1]
  unfold gFive
  rw [show (4096 : Int32) = nI 4096 from rfl, show (8192 : Int32) = nI 8192 from rfl, show (16384 : Int32) = nI 16384 from rfl, show (32768 : Int32) = nI 32768 from rfl, show (65536 : Int32) = nI 65536 from rfl, k2 _ (by decide), k2 _ (by decide), k2 _ (by decide), k2 _ (by decide), k2 _ (by decide)]
  unfold bcT at hT
  have hn : Nat.blt j 4096 = false := by
    cases hb : Nat.blt j 4096
    · rfl
    · exact absurd (Nat.le_of_ble_eq_true hb) (by omega)
  rw [hn, Bool.false_or, beq_iff_eq] at hT
  have b1 : ∀ a b : Nat, Nat.beq a b = true ↔ a = b := fun a b => by rw [Nat.beq_eq]
  rw [← b1, hT]
  simp only [Bool.or_eq_true, b1]
theorem gFive_lo {i : Int32} (h : gFive i) : ¬ i < 4096 := by
  rcases h with rfl | rfl | rfl | rfl | rfl <;> decide
theorem gFive_hi {i : Int32} (h : gFive i) : ¬ 65536 < i := by
  rcases h with rfl | rfl | rfl | rfl | rfl <;> decide
theorem dX11_store_0 : decode cX11_store 0 = .ok (.iload_n 1, 1) := by decide +kernel
theorem dX11_store_1 : decode cX11_store 1 = .ok (.sipush 4096, 3) := by decide +kernel
theorem dX11_store_4 : decode cX11_store 4 = .ok (.if_icmp .lt 17, 3) := by decide +kernel
theorem dX11_store_7 : decode cX11_store 7 = .ok (.iload_n 1, 1) := by decide +kernel
theorem dX11_store_8 : decode cX11_store 8 = .ok (.ldc 123, 2) := by decide +kernel
theorem dX11_store_10 : decode cX11_store 10 = .ok (.if_icmp .gt 11, 3) := by decide +kernel
theorem dX11_store_13 : decode cX11_store 13 = .ok (.iload_n 1, 1) := by decide +kernel
theorem dX11_store_14 : decode cX11_store 14 = .ok (.invokestatic 124, 3) := by decide +kernel
theorem dX11_store_17 : decode cX11_store 17 = .ok (.iconst 1, 1) := by decide +kernel
theorem dX11_store_18 : decode cX11_store 18 = .ok (.if_icmp .eq 5, 3) := by decide +kernel
theorem dX11_store_21 : decode cX11_store 21 = .ok (.iconst 0, 1) := by decide +kernel
theorem dX11_store_22 : decode cX11_store 22 = .ok (.ireturn, 1) := by decide +kernel
theorem dX11_store_23 : decode cX11_store 23 = .ok (.aload_n 0, 1) := by decide +kernel
theorem dX11_store_24 : decode cX11_store 24 = .ok (.iload_n 1, 1) := by decide +kernel
theorem dX11_store_25 : decode cX11_store 25 = .ok (.putfield 75, 3) := by decide +kernel
theorem dX11_store_28 : decode cX11_store 28 = .ok (.iconst 1, 1) := by decide +kernel
theorem dX11_store_29 : decode cX11_store 29 = .ok (.ireturn, 1) := by decide +kernel
set_option maxHeartbeats 4000000 in
set_option maxRecDepth 100000 in
theorem c_W_store (l : Launch) (d : gD) (b : Nat) (Y : gYt) (F : gM) (S : gSt) (hW : gWT d Y F S) (i : Int32) : gMi l d b yX11_store cX11_store 2 .boolean 1 0 0 F [.ref (gO' Y 0), .int i] (fun r F' => (gFive i → r = 1) ∧ (¬ gFive i → r = 0) ∧ ∃ S', gWT d Y F' S' ∧ gKp Y F F' ∧ gSm S S' [] [0]) := by
  refine gM_of2 rfl (nL := 2) (Nat.le_of_ble_eq_true rfl) ?_
  intro X hX hC; subst hX
  show gG X d b _ F 0 0 0 [some (.ref (gO' Y 0)), some (.int i)] []
  have hM0 : gSm S S [] [0] := gSm.rf
  have hK0 : gKp Y F F := gKp.rf
  refine g_iload_n hC dX11_store_0 rfl ?_
  refine g_sipush (v := 4096) hC dX11_store_1 rfl ?_
  refine g_icmp_lt (tgt := 21) hC dX11_store_4 (by decide) (fun c1 => ?_) (fun c1 => ?_)
  · refine g_iconst (v := 0) hC dX11_store_21 rfl ?_
    exact g_iret hC rfl ⟨fun z => absurd (z : gFive i) (fun z => gFive_lo z c1), fun _ => rfl, S, hW, gKp.rf, gSm.rf⟩ (by first | exact Nat.le_of_ble_eq_true rfl | omega | (simp only [gR]; omega)) (by first | exact Nat.le_of_ble_eq_true rfl | omega | (simp only [gR]; omega)) dX11_store_22
  · refine g_iload_n hC dX11_store_7 rfl ?_
    refine g_ldc hC dX11_store_8 kw_1602 ?_
    refine g_icmp_gt (tgt := 21) hC dX11_store_10 (by decide) (fun c2 => ?_) (fun c2 => ?_)
    · refine g_iconst (v := 0) hC dX11_store_21 rfl ?_
      exact g_iret hC rfl ⟨fun z => absurd (z : gFive i) (fun z => gFive_hi z c2), fun _ => rfl, S, hW, gKp.rf, gSm.rf⟩ (by first | exact Nat.le_of_ble_eq_true rfl | omega | (simp only [gR]; omega)) (by first | exact Nat.le_of_ble_eq_true rfl | omega | (simp only [gR]; omega)) dX11_store_22
    · refine g_iload_n hC dX11_store_13 rfl ?_
      refine g_callSi (As := [.int i]) hC (c_bitCount X.la d b F i) cl_X11_124 rfl rfl (Nat.le_of_ble_eq_true rfl) (gFit_of (Nat.le_of_ble_eq_true rfl) (Nat.le_of_ble_eq_true rfl) (by first | exact Nat.le_of_ble_eq_true rfl | omega | (simp only [gR]; omega)) (by first | exact Nat.le_of_ble_eq_true rfl | omega | (simp only [gR]; omega))) dX11_store_14 (fun r5 F3 p4 => ?_)
      obtain ⟨er5, eF9⟩ := p4; have eF9 := eF9.symm; subst eF9
      have er1 := er5
      refine g_iconst (v := 1) hC dX11_store_17 rfl ?_
      refine g_icmp_eq (tgt := 23) hC dX11_store_18 (by decide) (fun c6 => ?_) (fun c6 => ?_)
      · have h5 : gFive i := (gBc_ok c1 c2).mp (er1 ▸ c6)
        refine g_aload_n hC dX11_store_23 rfl ?_
        refine g_iload_n hC dX11_store_24 rfl ?_
        refine g_put hC fl_X11_75 (hW.o 0 (by decide)) rfl rfl (Nat.le_of_ble_eq_true rfl) dX11_store_25 ?_
        refine g_vF (fun F7 hF7 => ?_)
        obtain ⟨hW9, k10⟩ := gWT.put (k := 0) (x := i) hW (i := 0) (by decide) hF7 rfl gsame_0 (fun q => absurd q (by decide))
        obtain ⟨S8, hS8⟩ : ∃ z, z = uV S 0 i := ⟨_, rfl⟩
        rw [← hS8] at hW9
        have s11 : gSm S S8 [] [0] := by rw [hS8]; exact gSm_uV
        have hM12 : gSm S S8 [] [0] := hM0.tr s11 _ _ rfl rfl
        have hK13 : gKp Y F F7 := hK0.tr k10
        have z14 : sV S8 0 = i := by rw [hS8]; exact uV_self
        refine g_iconst (v := 1) hC dX11_store_28 rfl ?_
        exact g_iret hC rfl ⟨fun _ => rfl, fun z => absurd h5 z, S8, hW9, hK13, hM12⟩ (by first | exact Nat.le_of_ble_eq_true rfl | omega | (simp only [gR]; omega)) (by first | exact Nat.le_of_ble_eq_true rfl | omega | (simp only [gR]; omega)) dX11_store_29
      · refine g_iconst (v := 0) hC dX11_store_21 rfl ?_
        exact g_iret hC rfl ⟨fun z => absurd ((gBc_ok c1 c2).mpr z) (fun q => c6 (er1 ▸ q)), fun _ => rfl, S, hW, gKp.rf, gSm.rf⟩ (by first | exact Nat.le_of_ble_eq_true rfl | omega | (simp only [gR]; omega)) (by first | exact Nat.le_of_ble_eq_true rfl | omega | (simp only [gR]; omega)) dX11_store_22
set_option maxRecDepth 20000 in
theorem x_nse1 : ∀ w ∈ (vx_at0 RX11 149 "java/util/NoSuchElementException" ["java/lang/RuntimeException", "java/lang/Exception"]).filter goodWord, w ∈ gWs := fun w h => List.mem_filter.mpr ⟨(by decide +kernel : ∀ w ∈ (vx_at0 RX11 149 "java/util/NoSuchElementException" ["java/lang/RuntimeException", "java/lang/Exception"]).filter goodWord, w ∈ lw_tbl) w h, (List.mem_filter.mp h).2⟩
theorem x_nse2 : ∀ w ∈ (vx_at0 RX11 149 "java/util/NoSuchElementException" ["java/lang/RuntimeException", "java/lang/Exception"]).filter (fun w => !goodWord w), w ∈ gCs.map (fun q => Cond.castable q.1 q.2) ++ gDs.map Cond.declares := by decide +kernel
theorem x_nse3 : ∀ w ∈ Cond.classLink RX11 147 "java/util/NoSuchElementException" :: Cond.initialized "java/util/NoSuchElementException" :: vx_at0 RX11 149 "java/util/NoSuchElementException" ["java/lang/RuntimeException", "java/lang/Exception"], vx_ot w = true := by decide +kernel
theorem gl0 {i r : Int32} {S : gSt} (a : i < 0 ∨ nI 2 ≤ i → r = (-1)) (c : ∀ j, j < 2 → i = nI j → r = nI (sZ S (38 + j))) (hz : ∀ j, j < 2 → sZ S (38 + j) = 0) : r = (-1) ∨ r = 0 := by
  by_cases h : i < 0 ∨ nI 2 ≤ i
  · exact Or.inl (a h)
  · obtain ⟨j, hj, rfl⟩ := nI_of (fun q => h (Or.inl q))
    have h2 : j < 2 := Nat.not_le.mp fun q => h (Or.inr (nI_le q hj))
    exact Or.inr ((c j h2 rfl).trans (by rw [hz j h2]; rfl))
theorem gle0 {k r : Int32} (h : r = (-1) ∨ r = 0) (h1 : ¬ k < 0) : ¬ k < r := by
  rcases h with rfl | rfl
  · intro q
    have a := Int32.lt_iff_toInt_lt.mp q
    exact h1 (Int32.lt_iff_toInt_lt.mpr (Int.lt_trans a (by decide)))
  · exact h1
theorem dX11_outAt_0 : decode cX11_outAt 0 = .ok (.iload_n 2, 1) := by decide +kernel
theorem dX11_outAt_1 : decode cX11_outAt 1 = .ok (.ifCond .lt 15, 3) := by decide +kernel
theorem dX11_outAt_4 : decode cX11_outAt 4 = .ok (.iload_n 2, 1) := by decide +kernel
theorem dX11_outAt_5 : decode cX11_outAt 5 = .ok (.aload_n 0, 1) := by decide +kernel
theorem dX11_outAt_6 : decode cX11_outAt 6 = .ok (.getfield 62, 3) := by decide +kernel
theorem dX11_outAt_9 : decode cX11_outAt 9 = .ok (.iload_n 1, 1) := by decide +kernel
theorem dX11_outAt_10 : decode cX11_outAt 10 = .ok (.invokevirtual 144, 3) := by decide +kernel
theorem dX11_outAt_13 : decode cX11_outAt 13 = .ok (.if_icmp .lt 11, 3) := by decide +kernel
theorem dX11_outAt_16 : decode cX11_outAt 16 = .ok (.new 147, 3) := by decide +kernel
theorem dX11_outAt_19 : decode cX11_outAt 19 = .ok (.dup, 1) := by decide +kernel
theorem dX11_outAt_20 : decode cX11_outAt 20 = .ok (.invokespecial 149, 3) := by decide +kernel
theorem dX11_outAt_23 : decode cX11_outAt 23 = .ok (.athrow, 1) := by decide +kernel
theorem dX11_outAt_24 : decode cX11_outAt 24 = .ok (.aload_n 0, 1) := by decide +kernel
theorem dX11_outAt_25 : decode cX11_outAt 25 = .ok (.getfield 62, 3) := by decide +kernel
theorem dX11_outAt_28 : decode cX11_outAt 28 = .ok (.iload_n 1, 1) := by decide +kernel
theorem dX11_outAt_29 : decode cX11_outAt 29 = .ok (.iload_n 2, 1) := by decide +kernel
theorem dX11_outAt_30 : decode cX11_outAt 30 = .ok (.invokevirtual 150, 3) := by decide +kernel
theorem dX11_outAt_33 : decode cX11_outAt 33 = .ok (.ireturn, 1) := by decide +kernel
set_option maxHeartbeats 4000000 in
set_option maxRecDepth 100000 in
theorem c_W_outAt0 (l : Launch) (d : gD) (b : Nat) (Y : gYt) (F : gM) (S : gSt) (hW : gWT d Y F S) (hl : l.stackTraces = false) (hzo : ∀ j, j < 2 → sZ S (38 + j) = 0) (i k : Int32) : gXi l d b yX11_outAt cX11_outAt 3 .int 6 1 6 F [.ref (gO' Y 0), .int i, .int k] (fun _ _ => False) "java/util/NoSuchElementException" (fun F' => F' = F) := by
  refine gX_of2 rfl (nL := 3) (Nat.le_of_ble_eq_true rfl) ?_
  intro X hX hT hC; subst hX
  show gG X d b _ F 0 0 0 [some (.ref (gO' Y 0)), some (.int i), some (.int k)] []
  have hM0 : gSm S S [] [] := gSm.rf
  have hK0 : gKp Y F F := gKp.rf
  refine g_iload_n hC dX11_outAt_0 rfl ?_
  refine g_if_lt (tgt := 16) hC dX11_outAt_1 (by decide) (fun c1 => ?_) (fun c1 => ?_)
  · exact g_throw0 (ic := 149) (ik := 147) (names := ["java/lang/RuntimeException", "java/lang/Exception"]) (px := fun F' => F' = F) hC hl hT (by decide +kernel) (by decide +kernel) kw_1910 kw_263 x_nse1 x_nse2 x_nse3 rfl dX11_outAt_16 dX11_outAt_19 dX11_outAt_20 dX11_outAt_23 (Nat.le_of_ble_eq_true rfl) (by decide) (gRc (Nat.le_of_ble_eq_true rfl)) (gRs (Nat.le_of_ble_eq_true rfl)) rfl (Nat.le_of_ble_eq_true rfl) (Nat.le_of_ble_eq_true rfl)
  · refine g_iload_n hC dX11_outAt_4 rfl ?_
    refine g_aload_n hC dX11_outAt_5 rfl ?_
    refine g_get hC fl_X11_62 (hW.o 0 (by decide)) rfl dX11_outAt_6 ?_
    refine g_iload_n hC dX11_outAt_9 rfl ?_
    refine g_callVi (As := [.int i]) hC rfl (hW.o 6 (by decide)) (c_C_length X.la d b Y F S hW i) cl_X11_144 rfl rfl (Nat.le_of_ble_eq_true rfl) (gFit_of (Nat.le_of_ble_eq_true rfl) (Nat.le_of_ble_eq_true rfl) (by first | exact Nat.le_of_ble_eq_true rfl | omega | (simp only [gR]; omega)) (by first | exact Nat.le_of_ble_eq_true rfl | omega | (simp only [gR]; omega))) dX11_outAt_10 (fun r4 F2 p3 => ?_)
    obtain ⟨ar4, br4, er4⟩ := p3; have er4 := er4.symm; subst er4
    refine g_icmp_lt (tgt := 24) hC dX11_outAt_13 (by decide) (fun c5 => ?_) (fun c5 => ?_)
    · exact absurd c5 (fun q => gle0 (gl0 (i := i) ar4 br4 hzo) c1 q)
    · exact g_throw0 (ic := 149) (ik := 147) (names := ["java/lang/RuntimeException", "java/lang/Exception"]) (px := fun F' => F' = F) hC hl hT (by decide +kernel) (by decide +kernel) kw_1910 kw_263 x_nse1 x_nse2 x_nse3 rfl dX11_outAt_16 dX11_outAt_19 dX11_outAt_20 dX11_outAt_23 (Nat.le_of_ble_eq_true rfl) (by decide) (gRc (Nat.le_of_ble_eq_true rfl)) (gRs (Nat.le_of_ble_eq_true rfl)) rfl (Nat.le_of_ble_eq_true rfl) (Nat.le_of_ble_eq_true rfl)
theorem dX11_word_0 : decode cX11_word 0 = .ok (.iload_n 1, 1) := by decide +kernel
theorem dX11_word_1 : decode cX11_word 1 = .ok (.ifCond .lt 11, 3) := by decide +kernel
theorem dX11_word_4 : decode cX11_word 4 = .ok (.iload_n 1, 1) := by decide +kernel
theorem dX11_word_5 : decode cX11_word 5 = .ok (.aload_n 0, 1) := by decide +kernel
theorem dX11_word_6 : decode cX11_word 6 = .ok (.getfield 79, 3) := by decide +kernel
theorem dX11_word_9 : decode cX11_word 9 = .ok (.if_icmp .lt 11, 3) := by decide +kernel
theorem dX11_word_12 : decode cX11_word 12 = .ok (.new 147, 3) := by decide +kernel
theorem dX11_word_15 : decode cX11_word 15 = .ok (.dup, 1) := by decide +kernel
theorem dX11_word_16 : decode cX11_word 16 = .ok (.invokespecial 149, 3) := by decide +kernel
theorem dX11_word_19 : decode cX11_word 19 = .ok (.athrow, 1) := by decide +kernel
theorem dX11_word_20 : decode cX11_word 20 = .ok (.aload_n 0, 1) := by decide +kernel
theorem dX11_word_21 : decode cX11_word 21 = .ok (.getfield 71, 3) := by decide +kernel
theorem dX11_word_24 : decode cX11_word 24 = .ok (.iload_n 1, 1) := by decide +kernel
theorem dX11_word_25 : decode cX11_word 25 = .ok (.invokevirtual 154, 3) := by decide +kernel
theorem dX11_word_28 : decode cX11_word 28 = .ok (.ireturn, 1) := by decide +kernel
set_option maxHeartbeats 4000000 in
set_option maxRecDepth 100000 in
theorem c_W_word0 (l : Launch) (d : gD) (b : Nat) (Y : gYt) (F : gM) (S : gSt) (hW : gWT d Y F S) (hl : l.stackTraces = false) (hv1 : sV S 1 = 4096) (hv27 : sV S 27 = 0) (i : Int32) : gXi l d b yX11_word cX11_word 2 .int 6 1 6 F [.ref (gO' Y 0), .int i] (fun r F' => (¬ i < 0 ∧ i < 4096) ∧ r = 0 ∧ F' = F) "java/util/NoSuchElementException" (fun F' => (i < 0 ∨ ¬ i < 4096) ∧ F' = F) := by
  refine gX_of2 rfl (nL := 2) (Nat.le_of_ble_eq_true rfl) ?_
  intro X hX hT hC; subst hX
  show gG X d b _ F 0 0 0 [some (.ref (gO' Y 0)), some (.int i)] []
  have hM0 : gSm S S [] [] := gSm.rf
  have hK0 : gKp Y F F := gKp.rf
  refine g_iload_n hC dX11_word_0 rfl ?_
  refine g_if_lt (tgt := 12) hC dX11_word_1 (by decide) (fun c1 => ?_) (fun c1 => ?_)
  · exact g_throw0 (ic := 149) (ik := 147) (names := ["java/lang/RuntimeException", "java/lang/Exception"]) (px := fun F' => (i < 0 ∨ ¬ i < 4096) ∧ F' = F) hC hl hT (by decide +kernel) (by decide +kernel) kw_1910 kw_263 x_nse1 x_nse2 x_nse3 rfl dX11_word_12 dX11_word_15 dX11_word_16 dX11_word_19 (Nat.le_of_ble_eq_true rfl) (by decide) (gRc (Nat.le_of_ble_eq_true rfl)) (gRs (Nat.le_of_ble_eq_true rfl)) ⟨Or.inl c1, rfl⟩ (Nat.le_of_ble_eq_true rfl) (Nat.le_of_ble_eq_true rfl)
  · refine g_iload_n hC dX11_word_4 rfl ?_
    refine g_aload_n hC dX11_word_5 rfl ?_
    refine g_get hC fl_X11_79 (hW.o 0 (by decide)) rfl dX11_word_6 ?_
    refine g_icmp_lt (tgt := 20) hC dX11_word_9 (by decide) (fun c2 => ?_) (fun c2 => ?_)
    · refine g_aload_n hC dX11_word_20 rfl ?_
      refine g_get hC fl_X11_71 (hW.o 0 (by decide)) rfl dX11_word_21 ?_
      refine g_iload_n hC dX11_word_24 rfl ?_
      refine g_callVi (As := [.int i]) hC rfl (hW.o 7 (by decide)) (c_M_left0 X.la d b Y F S hW hv27 i) cl_X11_154 rfl rfl (Nat.le_of_ble_eq_true rfl) (gFit_of (Nat.le_of_ble_eq_true rfl) (Nat.le_of_ble_eq_true rfl) (by first | exact Nat.le_of_ble_eq_true rfl | omega | (simp only [gR]; omega)) (by first | exact Nat.le_of_ble_eq_true rfl | omega | (simp only [gR]; omega))) dX11_word_25 (fun r5 F3 p4 => ?_)
      obtain ⟨rfl, eF3⟩ := p4; have eF3 := eF3.symm; subst eF3
      exact g_xret (g_iret hC rfl ⟨⟨c1, hv1 ▸ c2⟩, rfl, rfl⟩ (by first | exact Nat.le_of_ble_eq_true rfl | omega | (simp only [gR]; omega)) (by first | exact Nat.le_of_ble_eq_true rfl | omega | (simp only [gR]; omega)) dX11_word_28)
    · exact g_throw0 (ic := 149) (ik := 147) (names := ["java/lang/RuntimeException", "java/lang/Exception"]) (px := fun F' => (i < 0 ∨ ¬ i < 4096) ∧ F' = F) hC hl hT (by decide +kernel) (by decide +kernel) kw_1910 kw_263 x_nse1 x_nse2 x_nse3 rfl dX11_word_12 dX11_word_15 dX11_word_16 dX11_word_19 (Nat.le_of_ble_eq_true rfl) (by decide) (gRc (Nat.le_of_ble_eq_true rfl)) (gRs (Nat.le_of_ble_eq_true rfl)) ⟨Or.inr (fun q => c2 (by rw [hv1]; exact q)), rfl⟩ (Nat.le_of_ble_eq_true rfl) (Nat.le_of_ble_eq_true rfl)
