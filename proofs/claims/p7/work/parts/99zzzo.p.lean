/-! THE RUN: THE LIBRARY'S OWN -/
section RUN
variable {s4 s1 : zS}
theorem xBs.ch {s s' : zS} {F : List Nat} {js ks : List Nat} (h : xBs s4 s1 s F) (f : zSm s s' js ks) (hj : ([25, 27, 28, 29, 30, 31, 32, 70, 71, 72, 85, 93, 94].all fun j => !js.contains j) = true) (hk : ([69, 95, 96, 97].all fun k => !ks.contains k) = true) (io : xIO s') : xBs s4 s1 s' F := by
  have aj : ∀ l : List Nat, l.all (fun z => ([25, 27, 28, 29, 30, 31, 32, 70, 71, 72, 85, 93, 94] : List Nat).contains z) = true → (l.all fun j => !js.contains j) = true := fun l hl => List.all_eq_true.mpr (fun j hj2 => List.all_eq_true.mp hj j (by simpa using List.all_eq_true.mp hl j hj2))
  have nj : ∀ j, ([93, 94] : List Nat).contains j = true → js.contains j = false := fun j q => by
    have := List.all_eq_true.mp (aj [93, 94] rfl) j (by simpa using q)
    simpa using this
  have nk : ∀ k, ([69, 95, 96, 97] : List Nat).contains k = true → ks.contains k = false := fun k q => by
    have := List.all_eq_true.mp hk k (by simpa using q)
    simpa using this
  obtain ⟨a, b, c, d, e⟩ := h
  unfold xBs
  rw [f.v 95 (nk 95 rfl), f.v 96 (nk 96 rfl), f.v 97 (nk 97 rfl)]
  exact ⟨a.sm f (aj _ rfl) (nk 69 rfl), b, c, d.fr (fun i _ => ⟨f.a 93 i (nj 93 rfl), f.a 94 i (nj 94 rfl)⟩), io⟩
theorem xIO.k117 {s : zS} (h : xIO s) : ∃ k : Nat, zv s 117 = k ∧ k < 2 ∧ 0 ≤ za s 116 k ∧ za s 116 k ≤ 4096 := by
  obtain ⟨-, -, -, d, e, -⟩ := h
  rcases d with d | d
  · exact ⟨0, d, by decide, e 0 (by decide)⟩
  · exact ⟨1, d, by decide, e 1 (by decide)⟩
theorem xIO.k114 {s : zS} (h : xIO s) : ∃ k : Nat, zv s 114 = k ∧ k < 4 ∧ 0 ≤ za s 112 k ∧ za s 112 k ≤ 1280 ∧ 0 ≤ za s 113 k ∧ za s 113 k ≤ za s 112 k ∧ pE s k 0 := by
  obtain ⟨-, -, c, -, -, g, -⟩ := h
  exact ⟨(zv s 114).toNat, by omega, by omega, g _ (by omega)⟩
/-- a place in an input -/
theorem xIO.set {s : zS} (h : xIO s) {k : Nat} (hk : k < 4) {v : Int} (h0 : 0 ≤ v) (h1 : v ≤ za s 112 k) : xIO (zpa s 113 k v) := by
  obtain ⟨a, b, c, d, e, g, i⟩ := h
  refine ⟨a, b, c, d, e, fun j hj => ?_, i⟩
  obtain ⟨g1, g2, g3, g4, g5⟩ := g j hj
  refine ⟨g1, g2, ?_, ?_, g5⟩
  · rw [za_pa, if_pos rfl]
    split
    · exact h0
    · exact g3
  · show za (zpa s 113 k v) 113 j ≤ za s 112 j
    rw [za_pa, if_pos rfl]
    by_cases e : j = k
    · rw [if_pos e, e]
      exact h1
    · rw [if_neg e]
      exact g4
theorem sp_outByte {s : zS} (h : xIO s) (a : Int) {Q : zS → Prop} (hq : ∀ s', zSm s s' [115, 116] [] → xIO s' → Q s') : wr_outByte s a Q := by
  obtain ⟨k, e, hk, h0, h1⟩ := h.k117
  unfold wr_outByte
  rw [e, Int.toNat_natCast]
  refine ⟨by omega, by omega, fun c => ⟨by omega, by omega, by omega, by omega, by omega, by omega, by omega, by omega, ⟨by omega, by omega⟩, hq _ ((zSm.rf.pa rfl).pa rfl) ?_⟩, fun _ => hq s zSm.rf h⟩
  obtain ⟨a, b, c, d, e, g, i⟩ := h
  refine ⟨a, b, c, d, fun j hj => ?_, g, i⟩
  simp only [za_pa, reduceIte, Nat.reduceEqDiff]
  by_cases ej : j = k
  · rw [if_pos ej]
    omega
  · rw [if_neg ej]
    exact e j hj
theorem sp_d136 {Q : zS → Prop} : ∀ (m : Nat) (s : zS) (x : Int), xIO s → -1 ≤ x → x < 12 → x + 1 < m → (∀ s', zSm s s' [115, 116] [] → xIO s' → Q s') → wr_decimal_136 Q m s x := by
  intro m
  induction m with
  | zero => intro s x _ h0 h1 h2; omega
  | succ m ih =>
    intro s x h h0 h1 h2 hq
    unfold wr_decimal_136
    unfold wr_decimal_136B
    exact ⟨fun _ => hq s zSm.rf h, fun c => ⟨by omega, by omega, sp_outByte h _ (fun s' f' h' => ⟨⟨by omega, by omega⟩, ih s' _ h' (by omega) (by omega) (by omega) (fun s3 f3 h3 => hq s3 (f'.tr f3 rfl rfl) h3)⟩)⟩⟩
theorem sp_d102 {Q : zS → Prop} {x1 x2 x5 : Int} (h2 : x2 ≤ 100) (h5 : 0 ≤ x5) (h5b : x5 ≤ 12) : ∀ (m : Nat) (s : zS) (x : Int), xIO s → 0 ≤ x → x ≤ 1000 → x2 - x < m → 0 < m → (∀ s', zSm s s' [115, 116] [] → xIO s' → Q s') → wr_decimal_102 Q m s x1 x2 x5 x := by
  intro m
  induction m with
  | zero => intro s x _ _ _ _ h; omega
  | succ m ih =>
    intro s x h h0 h1 hm _ hq
    unfold wr_decimal_102
    unfold wr_decimal_102B
    refine ⟨fun _ => ⟨fun _ => ⟨⟨by omega, by omega⟩, 20, sp_d136 20 s _ h (by omega) (by omega) (by omega) hq⟩, fun _ => sp_outByte h _ (fun s' f' h' => ⟨⟨by omega, by omega⟩, 20, sp_d136 20 s' _ h' (by omega) (by omega) (by omega) (fun s3 f3 h3 => hq s3 (f'.tr f3 rfl rfl) h3)⟩)⟩, fun c => sp_outByte h _ (fun s' f' h' => ⟨⟨by omega, by omega⟩, ih s' _ h' (by omega) (by omega) (by omega) (by omega) (fun s3 f3 h3 => hq s3 (f'.tr f3 rfl rfl) h3)⟩)⟩
theorem zdl_10 {x : Int} (h0 : 0 ≤ x) (h1 : x ≤ 4000000000) : zdl x 10 = x / 10 := by
  have h2 : zL x := ⟨by omega, by omega⟩
  have h3 : zL 10 := ⟨by decide, by decide⟩
  unfold zdl
  rw [Int64.toInt_div, zJ_t h2, zJ_t h3, Int.tdiv_eq_ediv_of_nonneg h0]
  exact Int.bmod_eq_of_le (by omega) (by omega)
theorem p10 : ∀ j : Nat, (1 : Int) ≤ 10 ^ j
  | 0 => by decide
  | j + 1 => by
    have := p10 j
    rw [Int.pow_succ]
    omega
theorem sp_d35 {Q : zS → Prop} {x1 x2 : Int} (h2 : x2 ≤ 100) : ∀ (m j : Nat) (s : zS) (x3 x6 : Int), xIO s → 0 ≤ x3 → x3 * 10 ^ j ≤ 2147483648 → (x6 = 0 ∨ j = 0 ∨ 1 ≤ x3) → j ≤ 10 → 11 - j < m → (∀ s', zSm s s' [115, 116, 118] [] → xIO s' → Q s') → wr_decimal_35 Q m s x1 x2 x3 (j : Nat) x6 := by
  intro m
  induction m with
  | zero => intro j s x3 x6 _ _ _ _ _ h; omega
  | succ m ih =>
    intro j s x3 x6 h h3 hp h6 hj hm hq
    unfold wr_decimal_35
    unfold wr_decimal_35B
    have up : ∀ s', zSm s s' [115, 116] [] → zSm s s' [115, 116, 118] [] := fun s' f => zSm.rf.tr f rfl rfl
    refine ⟨fun _ => ⟨fun _ => ⟨200, sp_d102 h2 (by omega) (by omega) 200 s _ h (by omega) (by omega) (by omega) (by omega) (fun s' f' h' => hq s' (up s' f') h')⟩, fun _ => ⟨⟨by omega, by omega⟩, 200, sp_d102 h2 (by omega) (by omega) 200 s _ h (by omega) (by omega) (by omega) (by omega) (fun s' f' h' => hq s' (up s' f') h')⟩⟩, fun c => ?_⟩
    have hj9 : j ≤ 9 := by
      rcases h6 with e | e | e
      · exact absurd e c
      · omega
      · by_cases q : j = 10
        · subst q
          have : (10 : Int) ^ 10 = 10000000000 := by decide
          rw [this] at hp
          omega
        · omega
    have hx : x3 ≤ 2147483648 := by
      have := p10 j
      have := Int.mul_le_mul_of_nonneg_left this h3
      omega
    have e10 : zdl x3 10 = x3 / 10 := zdl_10 h3 (by omega)
    have hp2 : (x3 / 10) * 10 ^ (j + 1) ≤ 2147483648 := by
      have q : (x3 / 10) * 10 ≤ x3 := by omega
      have q2 := Int.mul_le_mul_of_nonneg_right q (Int.le_trans (by decide : (0 : Int) ≤ 1) (p10 j))
      rw [Int.pow_succ, Int.mul_comm (10 ^ j) 10, ← Int.mul_assoc]
      omega
    have io : ∀ y, xIO (zpa s 118 j y) := fun y => h.sm (zSm.rf.pa rfl : zSm s _ [118] []) rfl rfl
    rw [e10, Int.toNat_natCast, show (j : Int) + 1 = ((j + 1 : Nat) : Int) by omega]
    refine ⟨by omega, by omega, fun _ => ⟨⟨by omega, by omega⟩, ih (j + 1) _ _ 0 (io _) (by omega) hp2 (Or.inl rfl) (by omega) (by omega) (fun s' f' h' => hq s' ((zSm.rf.pa rfl : zSm s _ [115, 116, 118] []).tr f' rfl rfl) h')⟩, fun c2 => ⟨⟨by omega, by omega⟩, ih (j + 1) _ _ 1 (io _) (by omega) hp2 (Or.inr (Or.inr (by omega))) (by omega) (by omega) (fun s' f' h' => hq s' ((zSm.rf.pa rfl : zSm s _ [115, 116, 118] []).tr f' rfl rfl) h')⟩⟩
theorem sp_decimal {s : zS} (h : xIO s) {a b : Int} (ha : zR a) (hb : b ≤ 100) {Q : zS → Prop} (hq : ∀ s', zSm s s' [115, 116, 118] [] → xIO s' → Q s') : wr_decimal s a b Q := by
  obtain ⟨k, e, hk, h0, h1⟩ := h.k117
  obtain ⟨r0, r1⟩ := ha
  unfold wr_decimal
  rw [e]
  refine ⟨by omega, by omega, fun _ => ⟨fun c => ⟨20, sp_d35 hb 20 0 s _ 1 h c (by show a * 1 ≤ _; omega) (Or.inr (Or.inl rfl)) (by omega) (by omega) hq⟩, fun c => ⟨⟨by omega, by omega⟩, 20, sp_d35 hb 20 0 s _ 1 h (by omega) (by show -a * 1 ≤ _; omega) (Or.inr (Or.inl rfl)) (by omega) (by omega) hq⟩⟩, fun _ => hq s zSm.rf h⟩
theorem sp_l134 {Q : zS → Prop} {x7 x10 : Int} : ∀ (m : Nat) (s : zS) (x : Int), xIO s → -1 ≤ x → x < 12 → x + 1 < m → (∀ s', zSm s s' [115, 116] [] → xIO s' → wr_libraryCall_511 Q s' x10) → wr_libraryCall_134 Q m s x7 x10 x := by
  intro m
  induction m with
  | zero => intro s x _ h0 h1 h2; omega
  | succ m ih =>
    intro s x h h0 h1 h2 hq
    have z := zan_m (zus x7 (4 * x)) 15 (by decide) (by decide)
    have nx : ∀ s', zSm s s' [115, 116] [] → xIO s' → 0 ≤ x → zR (x + (-1)) ∧ wr_libraryCall_134 Q m s' x7 x10 (x + (-1)) := fun s' f' h' c => ⟨⟨by omega, by omega⟩, ih s' _ h' (by omega) (by omega) (by omega) (fun s3 f3 h3 => hq s3 (f'.tr f3 rfl rfl) h3)⟩
    unfold wr_libraryCall_134
    unfold wr_libraryCall_134B
    exact ⟨fun _ => hq s zSm.rf h, fun c => ⟨fun _ => ⟨⟨by omega, by omega⟩, sp_outByte h _ (fun s' f' h' => nx s' f' h' (by omega))⟩, fun _ => ⟨⟨by omega, by omega⟩, sp_outByte h _ (fun s' f' h' => nx s' f' h' (by omega))⟩⟩⟩
theorem zd_4 {x : Int} (h0 : 0 ≤ x) (h1 : x ≤ 2147483647) : zd x 4 = x / 4 := by
  have h2 : zR x := ⟨by omega, by omega⟩
  have h3 : zR 4 := ⟨by decide, by decide⟩
  unfold zd
  rw [Int32.toInt_div, zI_t h2, zI_t h3, Int.tdiv_eq_ediv_of_nonneg h0]
  exact Int.bmod_eq_of_le (by omega) (by omega)
theorem sp_w69 {Q : zS → Prop} {x1 x2 : Int} (h1 : 0 ≤ x1) (h12 : x1 + x2 / 4 < 65536) (h2 : 0 ≤ x2) (h2b : x2 ≤ 255) : ∀ (m : Nat) (s : zS) (x : Int), xIO s → 0 ≤ x → x ≤ 256 → x2 + 1 - x < m → 0 < m → (∀ s', zSm s s' [115, 116] [] → xIO s' → Q s') → wr_writeString_69 Q m s x1 x2 x := by
  intro m
  induction m with
  | zero => intro s x _ _ _ _ h; omega
  | succ m ih =>
    intro s x h h0 hx hm _ hq
    unfold wr_writeString_69
    unfold wr_writeString_69B
    rw [zd_4 h0 (by omega)]
    exact ⟨fun _ => hq s zSm.rf h, fun c => ⟨by omega, by omega, sp_outByte h _ (fun s' f' h' => ⟨⟨by omega, by omega⟩, ih s' _ h' (by omega) (by omega) (by omega) (by omega) (fun s3 f3 h3 => hq s3 (f'.tr f3 rfl rfl) h3)⟩)⟩⟩
theorem sp_writeString {s : zS} (h : xIO s) (a : Int) {Q : zS → Prop} (hq : ∀ s', zSm s s' [115, 116] [102, 103, 104] → xIO s' → Q s') : wr_writeString s a Q := by
  obtain ⟨k, e, hk, h0, h1⟩ := h.k117
  have l := h.1
  have er : ∀ s', zSm s s' [] [102, 103, 104] → xEd s' → Q s' := fun s' f _ => hq s' (zSm.rf.tr f rfl rfl) (h.sm f rfl rfl)
  unfold wr_writeString
  rw [e]
  refine ⟨fun _ => sp_err s 2 er, fun c0 => ⟨fun c1 => ?_, fun _ => sp_err s 2 er⟩⟩
  have z := zan_m (za s 98 (Int.toNat a)) 255 (by decide) (by decide)
  generalize zan (za s 98 (Int.toNat a)) 255 = y at z
  rw [zd_4 z.1 (by omega)]
  exact ⟨by omega, by omega, ⟨by omega, by omega⟩, fun c2 => ⟨by omega, by omega, fun _ => ⟨300, sp_w69 (by omega) (by omega) z.1 z.2 300 s 1 h (by omega) (by omega) (by omega) (by omega) (fun s' f' h' => hq s' (zSm.rf.tr f' rfl rfl) h')⟩, fun _ => hq s zSm.rf h⟩, fun _ => sp_err s 2 er⟩
end RUN
