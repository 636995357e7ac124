/-! THE REFERENCE'S NODES -/
theorem znb_k : ∀ k : Fin 128, znb (zby (k.val : Int)) = (k.val : Int) := by decide +kernel
theorem znb_i {k : Int} (h : 0 ≤ k) (h2 : k < 128) : znb (zby k) = k := by
  have := znb_k ⟨k.toNat, by omega⟩
  have e : ((k.toNat : Nat) : Int) = k := by omega
  rwa [show ((⟨k.toNat, by omega⟩ : Fin 128).val : Int) = k from e] at this
/-- a new node stands at the end -/
def nN (s s' : zS) (k tok a : Int) : Prop := zv s' 24 = zv s 24 + 1 ∧ (∀ v, ¬ v = 24 → zv s' v = zv s v) ∧ ∀ n : Nat, ((n : Int) = zv s 24 → za s' 25 n = k ∧ za s' 26 n = tok ∧ za s' 27 n = -1 ∧ za s' 28 n = -1 ∧ za s' 29 n = a ∧ za s' 34 n = tok) ∧ (¬ (n : Int) = zv s 24 → ∀ j, za s' j n = za s j n)
theorem sp_node (s : zS) (k tok a : Int) (h0 : 0 ≤ zv s 24) (h1 : zv s 24 < 26000) (hk : 0 ≤ k) (hk2 : k < 128) : wr_node s k tok a (fun r s' => r = zv s 24 ∧ nN s s' k tok a) := by
  unfold wr_node
  refine ⟨⟨by omega, by omega⟩, h0, h1, h0, h1, h0, h1, h0, h1, h0, h1, h0, h1, h0, h1, h0, h1, h0, h1, h0, h1, rfl, rfl, fun v hv => ?_, fun n => ⟨fun e => ?_, fun e j => ?_⟩⟩
  · show (if v = 24 then _ else _) = _
    rw [if_neg hv]
    rfl
  · have e2 : n = (zv s 24).toNat := by omega
    subst e2
    simp only [za_pv, za_pa, reduceIte, Nat.reduceEqDiff, znb_i hk hk2]
    exact ⟨trivial, trivial, trivial, trivial, trivial, trivial⟩
  · have e2 : ¬ n = (zv s 24).toNat := by omega
    simp only [za_pv, za_pa, e2, if_false, ite_self]
/-- the walk over what is to become children: up to k -/
def shI (s0 s : zS) (b n k : Nat) : Prop := (∀ v, zv s v = zv s0 v) ∧ (∀ j i, ¬ j = 27 → ¬ j = 28 → ¬ j = 34 → za s j i = za s0 j i) ∧ (∀ i, ¬ i = n → za s 27 i = za s0 27 i ∧ za s 34 i = za s0 34 i) ∧ (za s 27 n = if b < k then za s0 36 b else za s0 27 n) ∧ (0 ≤ za s 34 n ∧ za s 34 n ≤ 12000) ∧ (∀ i, b ≤ i → i + 1 < k → za s 28 (za s0 36 i).toNat = za s0 36 (i + 1)) ∧ ∀ m : Nat, (∀ i, b ≤ i → i + 1 < k → ¬ (m : Int) = za s0 36 i) → za s 28 m = za s0 28 m
theorem sp_shut_L (s0 : zS) (b n L : Nat) (hn : n < 26000) (hL : zv s0 37 = L) (hL2 : L < 26000) (hb : b ≤ L) (ho : ∀ i, b ≤ i → i < L → 0 ≤ za s0 36 i ∧ za s0 36 i < n) (hj : ∀ i j, b ≤ i → i < j → j < L → ¬ za s0 36 i = za s0 36 j) (hf : ∀ m, m ≤ n → 0 ≤ za s0 34 m ∧ za s0 34 m ≤ 12000) {Q : Int → zS → Prop} (hQ : ∀ s', shI s0 s' b n L → Q n (zpv (zpa (zpv s' 37 b) 36 b n) 37 (b + 1))) : ∀ (m k : Nat) (s : zS), b ≤ k → k ≤ L → L - k < m → shI s0 s b n k → wr_shut_13 Q m s b n k := by
  intro m
  induction m with
  | zero => intro k s h1 h2 h3; omega
  | succ m ih =>
    intro k s h1 h2 h3 hi
    obtain ⟨i1, i2, i3, i4, i5, i6, i7⟩ := hi
    have e37 : zv s 37 = L := by rw [i1, hL]
    have e36 : ∀ i, za s 36 i = za s0 36 i := fun i => i2 36 i (by decide) (by decide) (by decide)
    unfold wr_shut_13
    -- the end of a step
    have key : ∀ s1 : zS, k < L → shI s0 s1 b n (k + 1) → wr_shut_66 Q (wr_shut_13 Q m) s1 b n k := fun s1 hk hs => by
      obtain ⟨j1, j2, j3, j4, j5, j6, j7⟩ := id hs
      have f36 : ∀ i, za s1 36 i = za s0 36 i := fun i => j2 36 i (by decide) (by decide) (by decide)
      have hok := ho k h1 hk
      have hfo : 0 ≤ za s1 34 (za s0 36 k).toNat ∧ za s1 34 (za s0 36 k).toNat ≤ 12000 := by
        rw [(j3 _ (by omega)).2]
        exact hf _ (by omega)
      have ek : ((k : Int) + 1) = ((k + 1 : Nat) : Int) := by omega
      unfold wr_shut_66
      simp only [Int.toNat_natCast, f36]
      refine ⟨by omega, by omega, by omega, by omega, by omega, by omega, fun _ => ⟨⟨by omega, by omega⟩, ?_⟩, fun _ => ⟨by omega, by omega, by omega, by omega, by omega, by omega, ⟨by omega, by omega⟩, ?_⟩⟩
      · rw [ek]
        exact ih (k + 1) s1 (by omega) (by omega) (by omega) hs
      · rw [ek]
        refine ih (k + 1) _ (by omega) (by omega) (by omega) ⟨j1, fun j i a1 a2 a3 => ?_, fun i hi => ⟨(j3 i hi).1, ?_⟩, j4, ?_, j6, j7⟩
        · rw [za_pa, if_neg a3]
          exact j2 j i a1 a2 a3
        · rw [za_pa, if_pos rfl, if_neg hi]
          exact (j3 i hi).2
        · rw [za_pa, if_pos rfl, if_pos rfl]
          exact hfo
    unfold wr_shut_13B
    rw [e37]
    refine ⟨fun c => ⟨by omega, by omega, ⟨by omega, by omega⟩, ?_⟩, fun c => ⟨fun c2 => ?_, fun c2 => ?_⟩⟩
    · have ek : k = L := by omega
      subst ek
      rw [Int.toNat_natCast]
      exact hQ s ⟨i1, i2, i3, i4, i5, i6, i7⟩
    · have hb2 : b < k := by omega
      have hk : k < L := by omega
      have ek : ((k : Int) - 1).toNat = k - 1 := by omega
      have h5 := ho (k - 1) (by omega) (by omega)
      simp only [Int.toNat_natCast, ek, e36]
      refine ⟨by omega, by omega, by omega, by omega, by omega, by omega, key _ hk ⟨i1, fun j i a1 a2 a3 => ?_, fun i hi => i3 i hi, ?_, i5, fun i a1 a2 => ?_, fun q hq => ?_⟩⟩
      · rw [za_pa, if_neg a2]
        exact i2 j i a1 a2 a3
      · show za s 27 n = _
        rw [i4, if_pos hb2, if_pos (by omega)]
      · rw [za_pa, if_pos rfl]
        by_cases e : i = k - 1
        · subst e
          rw [if_pos rfl]
          have e3 : k - 1 + 1 = k := by omega
          rw [e3]
        · have h6 := ho i a1 (by omega)
          have h7 := hj i (k - 1) a1 (by omega) (by omega)
          rw [if_neg (by omega)]
          exact i6 i a1 (by omega)
      · rw [za_pa, if_pos rfl, if_neg ?_]
        · exact i7 q (fun i a1 a2 => hq i a1 (by omega))
        · intro e
          have := hq (k - 1) (by omega) (by omega)
          omega
    · have hb2 : k = b := by omega
      subst hb2
      have hk : k < L := by omega
      simp only [Int.toNat_natCast, e36]
      refine ⟨by omega, by omega, by omega, by omega, key _ hk ⟨i1, fun j i a1 a2 a3 => ?_, fun i hi => ⟨?_, (i3 i hi).2⟩, ?_, i5, fun i a1 a2 => by omega, fun q hq => ?_⟩⟩
      · rw [za_pa, if_neg a1]
        exact i2 j i a1 a2 a3
      · rw [za_pa, if_pos rfl, if_neg hi]
        exact (i3 i hi).1
      · rw [za_pa, if_pos rfl, if_pos rfl, if_pos (by omega)]
      · exact i7 q (fun i a1 a2 => by omega)
/-- all that waits from b on became a new node's children -/
def nSh (s s' : zS) (k tok a : Int) (b : Nat) : Prop := ∃ n L : Nat, zv s 24 = n ∧ zv s 37 = L ∧ zv s' 24 = n + 1 ∧ zv s' 37 = b + 1 ∧ (∀ v, ¬ v = 24 → ¬ v = 37 → zv s' v = zv s v) ∧ (∀ i, i < b → za s' 36 i = za s 36 i) ∧ za s' 36 b = n ∧ (za s' 25 n = k ∧ za s' 26 n = tok ∧ za s' 29 n = a ∧ za s' 28 n = -1 ∧ 0 ≤ za s' 34 n ∧ za s' 34 n ≤ 12000 ∧ za s' 27 n = if b < L then za s 36 b else -1) ∧ (∀ j i, ¬ j = 28 → ¬ j = 36 → ¬ i = n → za s' j i = za s j i) ∧ (∀ i, b ≤ i → i + 1 < L → za s' 28 (za s 36 i).toNat = za s 36 (i + 1)) ∧ ∀ m : Nat, ¬ m = n → (∀ i, b ≤ i → i + 1 < L → ¬ (m : Int) = za s 36 i) → za s' 28 m = za s 28 m
theorem sp_shut (s : zS) (k tok a : Int) (b n L : Nat) (hn : zv s 24 = n) (hn2 : n < 26000) (hk : 0 ≤ k) (hk2 : k < 128) (ht : 0 ≤ tok) (ht2 : tok ≤ 12000) (hL : zv s 37 = L) (hL2 : L < 26000) (hb : b ≤ L) (ho : ∀ i, b ≤ i → i < L → 0 ≤ za s 36 i ∧ za s 36 i < n) (hj : ∀ i j, b ≤ i → i < j → j < L → ¬ za s 36 i = za s 36 j) (hf : ∀ m, m < n → 0 ≤ za s 34 m ∧ za s 34 m ≤ 12000) : wr_shut s k tok b a (fun r s' => r = n ∧ nSh s s' k tok a b) := by
  unfold wr_shut
  refine ffm_node (sp_node s k tok a (by omega) (by omega) hk hk2) ?_
  rintro r s1 f ⟨rfl, g1, g2, g3⟩
  have gn := (g3 n).1 hn.symm
  have go : ∀ m, ¬ m = n → ∀ j, za s1 j m = za s j m := fun m hm => (g3 m).2 (by omega)
  have e36 : ∀ i, za s1 36 i = za s 36 i := fun i => f.a 36 i rfl
  refine ⟨L - b + 1, ?_⟩
  rw [hn]
  refine sp_shut_L s1 b n L hn2 ?_ hL2 hb (fun i a1 a2 => ?_) (fun i j a1 a2 a3 => ?_) (fun m hm => ?_) (fun s' hs => ?_) _ b s1 (Nat.le_refl b) hb (by omega) ⟨fun _ => rfl, fun _ _ _ _ _ => rfl, fun _ _ => ⟨rfl, rfl⟩, (if_neg (by omega)).symm, ?_, fun i a1 a2 => by omega, fun _ _ => rfl⟩
  · rw [g2 37 (by decide), hL]
  · rw [e36]; exact ho i a1 a2
  · rw [e36, e36]; exact hj i j a1 a2 a3
  · by_cases e : m = n
    · subst e
      rw [gn.2.2.2.2.2]
      exact ⟨ht, ht2⟩
    · rw [go m e]
      exact hf m (by omega)
  · obtain ⟨j1, j2, j3, j4, j5, j6, j7⟩ := hs
    refine ⟨rfl, n, L, hn, hL, ?_, rfl, fun v a1 a2 => ?_, fun i hi => ?_, ?_, ⟨?_, ?_, ?_, ?_, j5.1, j5.2, ?_⟩, fun j i a1 a2 a3 => ?_, fun i a1 a2 => ?_, fun m a1 a2 => ?_⟩
    · show zv s' 24 = _
      rw [j1, g1, hn]
    · rw [zv_pv, if_neg a2, zv_pa, zv_pv, if_neg a2, j1, g2 v a1]
    · rw [za_pv, za_pa, if_pos rfl, if_neg (by omega), za_pv, j2 36 i (by decide) (by decide) (by decide), e36]
    · rw [za_pv, za_pa, if_pos rfl, if_pos rfl]
    · show za s' 25 n = k
      rw [j2 25 n (by decide) (by decide) (by decide)]; exact gn.1
    · show za s' 26 n = tok
      rw [j2 26 n (by decide) (by decide) (by decide)]; exact gn.2.1
    · show za s' 29 n = a
      rw [j2 29 n (by decide) (by decide) (by decide)]; exact gn.2.2.2.2.1
    · show za s' 28 n = -1
      rw [j7 n (fun i a1 a2 => by
        have := ho i a1 (by omega)
        rw [e36]
        omega)]
      exact gn.2.2.2.1
    · show za s' 27 n = _
      rw [j4, e36, gn.2.2.1]
    · rw [za_pv, za_pa, if_neg a2, za_pv]
      by_cases e27 : j = 27
      · subst e27
        rw [(j3 i a3).1, go i a3]
      · by_cases e34 : j = 34
        · subst e34
          rw [(j3 i a3).2, go i a3]
        · rw [j2 j i e27 a1 e34, go i a3]
    · show za s' 28 _ = _
      have := j6 i a1 a2
      rw [e36, e36] at this
      exact this
    · show za s' 28 m = _
      rw [j7 m (fun i b1 b2 => by rw [e36]; exact a2 i b1 b2), go m a1]
  · rw [gn.2.2.2.2.2]
    exact ⟨ht, ht2⟩
theorem sp_leaf (s : zS) (k tok a : Int) (n L : Nat) (hn : zv s 24 = n) (hn2 : n < 26000) (hk : 0 ≤ k) (hk2 : k < 128) (ht : 0 ≤ tok) (ht2 : tok ≤ 12000) (hL : zv s 37 = L) (hL2 : L < 26000) : wr_leaf s k tok a (fun s' => nSh s s' k tok a L) := by
  unfold wr_leaf
  refine ffm_node (sp_node s k tok a (by omega) (by omega) hk hk2) ?_
  rintro r s1 f ⟨rfl, g1, g2, g3⟩
  have gn := (g3 n).1 hn.symm
  have go : ∀ m, ¬ m = n → ∀ j, za s1 j m = za s j m := fun m hm => (g3 m).2 (by omega)
  have e37 : zv s1 37 = L := by rw [g2 37 (by decide), hL]
  rw [e37, hL]
  refine ⟨by omega, by omega, ⟨by omega, by omega⟩, n, L, hn, hL, ?_, rfl, fun v a1 a2 => ?_, fun i hi => ?_, ?_, ⟨gn.1, gn.2.1, gn.2.2.2.2.1, gn.2.2.2.1, ?_, ?_, ?_⟩, fun j i a1 a2 a3 => ?_, fun i a1 a2 => by omega, fun m a1 a2 => ?_⟩
  · show zv s1 24 = _
    rw [g1, hn]
  · rw [zv_pv, if_neg a2, zv_pa, g2 v a1]
  · rw [za_pv, za_pa, if_pos rfl, if_neg (by omega)]
    exact f.a 36 i rfl
  · rw [za_pv, za_pa, if_pos rfl, if_pos (by omega)]
    exact hn
  · show 0 ≤ za s1 34 n
    rw [gn.2.2.2.2.2]; exact ht
  · show za s1 34 n ≤ 12000
    rw [gn.2.2.2.2.2]; exact ht2
  · show za s1 27 n = _
    rw [gn.2.2.1, if_neg (by omega)]
  · rw [za_pv, za_pa, if_neg a2, go i a3]
  · show za s1 28 m = _
    rw [go m a1]
