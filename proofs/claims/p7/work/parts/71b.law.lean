set_option maxHeartbeats 40000000 in
set_option maxRecDepth 100000 in
theorem law_loop {nm : String} {d : gD} {b : Nat} {X : gX} {Q : State → Prop} {b0 L : Nat} {xs : Nat → Int32} (hC : gC RL cL_law 7 (some .boolean) nm room_1 d b X) (hr : hRm X b) (hX : va_X b0 L xs X.st X.st.heap) (hb : b0 < X.st.heap.size) (hb2 : b0 < b) (hL : L ≤ 384) {o r z : Nat} {I : Nat → hU → Prop} (hend : ∀ (F : gM) (k n : Nat) (lv : List (Option Value)), hG X d b Q F k n 429 lv [.int 1]) (TURN : ∀ (i : Nat) (u : hU) (pc : Nat), pc ∈ [104, 177, 202, 215, 228, 253, 278, 303, 316, 341, 381, 409, 422] → I i u → hOk X b u.2.1 u.2.2 → 6 * i + 6 ≤ L → (∀ u1 : hU, I (i + 1) u1 → hOk X b u1.2.1 u1.2.2 → hG X d b Q u1.1 u1.2.1 u1.2.2 422 [some (.ref b0), some (.ref o), some (.ref r), some (.ref z), some (.int (nI (6 * i))), none, none] []) → hG X d b Q u.1 u.2.1 u.2.2 pc [some (.ref b0), some (.ref o), some (.ref r), some (.ref z), some (.int (nI (6 * i))), none, none] []) : ∀ (m i : Nat) (u : hU), m + 6 * i = L → I i u → hOk X b u.2.1 u.2.2 → hG X d b Q u.1 u.2.1 u.2.2 23 [some (.ref b0), some (.ref o), some (.ref r), some (.ref z), some (.int (nI (6 * i))), none, none] [] := by
  intro m
  refine Nat.strongRecOn m (fun m ih i u hm hI ho => ?_)
  have NX : 6 * i + 6 ≤ L → ∀ u1 : hU, I (i + 1) u1 → hOk X b u1.2.1 u1.2.2 → hG X d b Q u1.1 u1.2.1 u1.2.2 422 [some (.ref b0), some (.ref o), some (.ref r), some (.ref z), some (.int (nI (6 * i))), none, none] [] := by
    intro hi6 u1 I1 o1
    obtain ⟨x1, ex1⟩ : ∃ y : Int32, y = (nI (6 * i)) + 6 := ⟨_, rfl⟩
    refine h_iinc (v := x1) (lv' := [some (.ref b0), some (.ref o), some (.ref r), some (.ref z), some (.int x1), none, none]) hC dL_law_422 rfl (by rw [ex1]; rfl) rfl rfl ?_
    refine h_goto (tgt := 23) hC dL_law_425 (by decide) ?_
    have e2 := law_ii ex1
    subst e2
    exact ih (L - 6 * (i + 1)) (by omega) (i + 1) u1 (by omega) I1 o1
  refine h_iload hC dL_law_23 rfl ?_
  refine h_aload_n hC dL_law_25 rfl ?_
  refine h_scl hC hX hb hb2 dL_law_26 ?_
  refine h_bipush (v := 6) hC dL_law_27 rfl ?_
  refine h_isub hC dL_law_29 ?_
  refine h_vi (fun x1 ex1 => ?_)
  refine h_icmp_gt (tgt := 428) hC dL_law_30 (by decide) (fun c2 => ?_) (fun c2 => ?_)
  · refine h_iconst (v := 1) hC dL_law_428 rfl ?_
    exact hend _ _ _ _
  · have hi6 := law_le (i := i) hL (by omega) (by rw [ex1] at c2; exact c2)
    refine h_aload_n hC dL_law_33 rfl ?_
    refine h_iload hC dL_law_34 rfl ?_
    refine h_sld hC hX hb hb2 (vp_in_nI (by omega) (by omega)) dL_law_36 ?_
    refine h_vi (fun x3 ex3 => ?_)
    refine h_bipush (v := 15) hC dL_law_37 rfl ?_
    refine h_iand hC dL_law_39 ?_
    refine h_vi (fun x4 ex4 => ?_)
    refine h_tsw hC dL_law_40 (by decide) (fun t e => ?_) (by decide) (by decide) (fun off hof t e => ?_)
    · obtain rfl : t = 422 := by omega
      exact TURN i u _ (by decide) hI ho hi6 (NX hi6)
    · have hof2 : off = 64 ∨ off = 137 ∨ off = 162 ∨ off = 175 ∨ off = 188 ∨ off = 213 ∨ off = 238 ∨ off = 263 ∨ off = 276 ∨ off = 301 ∨ off = 341 ∨ off = 369 := by simpa using hof
      rcases hof2 with rfl | rfl | rfl | rfl | rfl | rfl | rfl | rfl | rfl | rfl | rfl | rfl
      · obtain rfl : t = 104 := by omega
        exact TURN i u _ (by decide) hI ho hi6 (NX hi6)
      · obtain rfl : t = 177 := by omega
        exact TURN i u _ (by decide) hI ho hi6 (NX hi6)
      · obtain rfl : t = 202 := by omega
        exact TURN i u _ (by decide) hI ho hi6 (NX hi6)
      · obtain rfl : t = 215 := by omega
        exact TURN i u _ (by decide) hI ho hi6 (NX hi6)
      · obtain rfl : t = 228 := by omega
        exact TURN i u _ (by decide) hI ho hi6 (NX hi6)
      · obtain rfl : t = 253 := by omega
        exact TURN i u _ (by decide) hI ho hi6 (NX hi6)
      · obtain rfl : t = 278 := by omega
        exact TURN i u _ (by decide) hI ho hi6 (NX hi6)
      · obtain rfl : t = 303 := by omega
        exact TURN i u _ (by decide) hI ho hi6 (NX hi6)
      · obtain rfl : t = 316 := by omega
        exact TURN i u _ (by decide) hI ho hi6 (NX hi6)
      · obtain rfl : t = 341 := by omega
        exact TURN i u _ (by decide) hI ho hi6 (NX hi6)
      · obtain rfl : t = 381 := by omega
        exact TURN i u _ (by decide) hI ho hi6 (NX hi6)
      · obtain rfl : t = 409 := by omega
        exact TURN i u _ (by decide) hI ho hi6 (NX hi6)
