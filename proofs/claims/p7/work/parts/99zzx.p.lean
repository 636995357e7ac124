/-! THE RUN: WHICH COMMAND -/
theorem pf_36 {s : zS} {x : Nat} (hx : x < 26000) (hk : za s 25 x = 36) {Q : zS → Prop} (h1 : wr_todoTask s 17 ((x : Nat) : Int) (za s 27 x) (fun s254 => Q s254)) : wr_perform s x Q := by
  unfold wr_perform
  rw [Int.toNat_natCast, hk]
  repeat' (first | (with_reducible exact h1) | (with_reducible apply And.intro) | omega | (intro c; exact absurd c (by decide)) | (intro c; exact absurd rfl c) | (with_reducible intro _) | fail)
theorem pf_37 {s : zS} {x : Nat} (hx : x < 26000) (hk : za s 25 x = 37) {Q : zS → Prop} (h1 : Q s) : wr_perform s x Q := by
  unfold wr_perform
  rw [Int.toNat_natCast, hk]
  repeat' (first | (with_reducible exact h1) | (with_reducible apply And.intro) | omega | (intro c; exact absurd c (by decide)) | (intro c; exact absurd rfl c) | (with_reducible intro _) | fail)
theorem pf_38 {s : zS} {x : Nat} (hx : x < 26000) (hk : za s 25 x = 38) {Q : zS → Prop} (h1 : wr_todoTask s 15 ((x : Nat) : Int) 0 (fun s16 => wr_todoTask s16 10 (za s 27 x) 0 (fun s22 => Q s22))) : wr_perform s x Q := by
  unfold wr_perform
  rw [Int.toNat_natCast, hk]
  repeat' (first | (with_reducible exact h1) | (with_reducible apply And.intro) | omega | (intro c; exact absurd c (by decide)) | (intro c; exact absurd rfl c) | (with_reducible intro _) | fail)
theorem pf_39 {s : zS} {x : Nat} (hx : x < 26000) (hk : za s 25 x = 39) {Q : zS → Prop} (h1 : wr_todoTask s 15 ((x : Nat) : Int) 0 (fun s31 => wr_todoTask s31 10 (za s 27 x) 0 (fun s37 => Q s37))) : wr_perform s x Q := by
  unfold wr_perform
  rw [Int.toNat_natCast, hk]
  repeat' (first | (with_reducible exact h1) | (with_reducible apply And.intro) | omega | (intro c; exact absurd c (by decide)) | (intro c; exact absurd rfl c) | (with_reducible intro _) | fail)
theorem pf_40 {s : zS} {x : Nat} (hx : x < 26000) (hk : za s 25 x = 40) {Q : zS → Prop} (h1 : wr_todoTask s 15 ((x : Nat) : Int) 0 (fun s241 => wr_todoTask s241 10 (za s 27 x) 0 (fun s247 => Q s247))) : wr_perform s x Q := by
  unfold wr_perform
  rw [Int.toNat_natCast, hk]
  repeat' (first | (with_reducible exact h1) | (with_reducible apply And.intro) | omega | (intro c; exact absurd c (by decide)) | (intro c; exact absurd rfl c) | (with_reducible intro _) | fail)
theorem pf_20 {s : zS} {x : Nat} (hx : x < 26000) (hk : za s 25 x = 20) (hb0 : 0 ≤ zv s 101) (hb1 : zv s 101 ≤ 100000) {Q : zS → Prop} (h0 : ∀ s', zSm s s' [] [102, 103, 104] → xEd s' → Q s') (h1 : ∀ s46, zSm s s46 [] [101] → zv s46 101 = zv s 101 - 1 → 0 ≤ zv s46 101 → wr_assign s46 ((x : Nat) : Int) (za s 27 x) (fun s233 => Q s233)) : wr_perform s x Q := by
  unfold wr_perform
  rw [Int.toNat_natCast, hk]
  repeat' (first | (with_reducible exact h1 _ (by assumption) (by assumption) (by assumption)) | (with_reducible exact h0 _ (by assumption) (by assumption)) | (with_reducible apply And.intro) | omega | (intro c; exact absurd c (by decide)) | (intro c; exact absurd rfl c) | (with_reducible intro _) | (refine sp_burns s hb0 hb1 (fun s46 f46 e46 z46 => ?_) (fun s46 f46 e46 => ?_)) | fail)
theorem pf_21 {s : zS} {x : Nat} (hx : x < 26000) (hk : za s 25 x = 21) (hb0 : 0 ≤ zv s 101) (hb1 : zv s 101 ≤ 100000) {Q : zS → Prop} (h0 : ∀ s', zSm s s' [] [102, 103, 104] → xEd s' → Q s') (h1 : ∀ s46, zSm s s46 [] [101] → zv s46 101 = zv s 101 - 1 → 0 ≤ zv s46 101 → wr_todoTask s46 13 ((x : Nat) : Int) 0 (fun s220 => wr_todoTask s220 1 (za s 27 x) 0 (fun s226 => Q s226))) : wr_perform s x Q := by
  unfold wr_perform
  rw [Int.toNat_natCast, hk]
  repeat' (first | (with_reducible exact h1 _ (by assumption) (by assumption) (by assumption)) | (with_reducible exact h0 _ (by assumption) (by assumption)) | (with_reducible apply And.intro) | omega | (intro c; exact absurd c (by decide)) | (intro c; exact absurd rfl c) | (with_reducible intro _) | (refine sp_burns s hb0 hb1 (fun s46 f46 e46 z46 => ?_) (fun s46 f46 e46 => ?_)) | fail)
theorem pf_22 {s : zS} {x : Nat} (hx : x < 26000) (hk : za s 25 x = 22) (hb0 : 0 ≤ zv s 101) (hb1 : zv s 101 ≤ 100000) {Q : zS → Prop} (h0 : ∀ s', zSm s s' [] [102, 103, 104] → xEd s' → Q s') (h1 : ∀ s46, zSm s s46 [] [101] → zv s46 101 = zv s 101 - 1 → 0 ≤ zv s46 101 → wr_todoTask s46 14 ((x : Nat) : Int) 0 (fun s60 => wr_todoTask s60 1 (za s 27 x) 0 (fun s66 => Q s66))) : wr_perform s x Q := by
  unfold wr_perform
  rw [Int.toNat_natCast, hk]
  repeat' (first | (with_reducible exact h1 _ (by assumption) (by assumption) (by assumption)) | (with_reducible exact h0 _ (by assumption) (by assumption)) | (with_reducible apply And.intro) | omega | (intro c; exact absurd c (by decide)) | (intro c; exact absurd rfl c) | (with_reducible intro _) | (refine sp_burns s hb0 hb1 (fun s46 f46 e46 z46 => ?_) (fun s46 f46 e46 => ?_)) | fail)
theorem pf_23 {s : zS} {x : Nat} (hx : x < 26000) (hk : za s 25 x = 23) (hb0 : 0 ≤ zv s 101) (hb1 : zv s 101 ≤ 100000) {Q : zS → Prop} (h0 : ∀ s', zSm s s' [] [102, 103, 104] → xEd s' → Q s') (h1 : ∀ s46, zSm s s46 [] [101] → zv s46 101 = zv s 101 - 1 → 0 ≤ zv s46 101 → wr_todoTask s46 14 ((x : Nat) : Int) 0 (fun s75 => wr_todoTask s75 1 (za s 27 x) 0 (fun s81 => Q s81))) : wr_perform s x Q := by
  unfold wr_perform
  rw [Int.toNat_natCast, hk]
  repeat' (first | (with_reducible exact h1 _ (by assumption) (by assumption) (by assumption)) | (with_reducible exact h0 _ (by assumption) (by assumption)) | (with_reducible apply And.intro) | omega | (intro c; exact absurd c (by decide)) | (intro c; exact absurd rfl c) | (with_reducible intro _) | (refine sp_burns s hb0 hb1 (fun s46 f46 e46 z46 => ?_) (fun s46 f46 e46 => ?_)) | fail)
theorem pf_24 {s : zS} {x : Nat} (hx : x < 26000) (hk : za s 25 x = 24) (hb0 : 0 ≤ zv s 101) (hb1 : zv s 101 ≤ 100000) {Q : zS → Prop} (h0 : ∀ s', zSm s s' [] [102, 103, 104] → xEd s' → Q s') (h1 : ∀ s46, zSm s s46 [] [101] → zv s46 101 = zv s 101 - 1 → 0 ≤ zv s46 101 → wr_todoTask s46 14 ((x : Nat) : Int) 0 (fun s207 => wr_todoTask s207 1 (za s 27 x) 0 (fun s213 => Q s213))) : wr_perform s x Q := by
  unfold wr_perform
  rw [Int.toNat_natCast, hk]
  repeat' (first | (with_reducible exact h1 _ (by assumption) (by assumption) (by assumption)) | (with_reducible exact h0 _ (by assumption) (by assumption)) | (with_reducible apply And.intro) | omega | (intro c; exact absurd c (by decide)) | (intro c; exact absurd rfl c) | (with_reducible intro _) | (refine sp_burns s hb0 hb1 (fun s46 f46 e46 z46 => ?_) (fun s46 f46 e46 => ?_)) | fail)
theorem pf_25 {s : zS} {x : Nat} (hx : x < 26000) (hk : za s 25 x = 25) (hb0 : 0 ≤ zv s 101) (hb1 : zv s 101 ≤ 100000) {Q : zS → Prop} (h0 : ∀ s', zSm s s' [] [102, 103, 104] → xEd s' → Q s') (h1 : ∀ s46, zSm s s46 [] [101] → zv s46 101 = zv s 101 - 1 → 0 ≤ zv s46 101 → wr_todoTask s46 15 ((x : Nat) : Int) 0 (fun s92 => Q s92)) : wr_perform s x Q := by
  unfold wr_perform
  rw [Int.toNat_natCast, hk]
  repeat' (first | (with_reducible exact h1 _ (by assumption) (by assumption) (by assumption)) | (with_reducible exact h0 _ (by assumption) (by assumption)) | (with_reducible apply And.intro) | omega | (intro c; exact absurd c (by decide)) | (intro c; exact absurd rfl c) | (with_reducible intro _) | (refine sp_burns s hb0 hb1 (fun s46 f46 e46 z46 => ?_) (fun s46 f46 e46 => ?_)) | fail)
theorem pf_26 {s : zS} {x : Nat} (hx : x < 26000) (hk : za s 25 x = 26) (hb0 : 0 ≤ zv s 101) (hb1 : zv s 101 ≤ 100000) {Q : zS → Prop} (h0 : ∀ s', zSm s s' [] [102, 103, 104] → xEd s' → Q s') (h1 : ∀ s46, zSm s s46 [] [101] → zv s46 101 = zv s 101 - 1 → 0 ≤ zv s46 101 → wr_todoTask s46 15 ((x : Nat) : Int) 0 (fun s200 => Q s200)) : wr_perform s x Q := by
  unfold wr_perform
  rw [Int.toNat_natCast, hk]
  repeat' (first | (with_reducible exact h1 _ (by assumption) (by assumption) (by assumption)) | (with_reducible exact h0 _ (by assumption) (by assumption)) | (with_reducible apply And.intro) | omega | (intro c; exact absurd c (by decide)) | (intro c; exact absurd rfl c) | (with_reducible intro _) | (refine sp_burns s hb0 hb1 (fun s46 f46 e46 z46 => ?_) (fun s46 f46 e46 => ?_)) | fail)
theorem pf_27 {s : zS} {x : Nat} (hx : x < 26000) (hk : za s 25 x = 27) (hb0 : 0 ≤ zv s 101) (hb1 : zv s 101 ≤ 100000) {Q : zS → Prop} (h0 : ∀ s', zSm s s' [] [102, 103, 104] → xEd s' → Q s') (h1 : ∀ s46, zSm s s46 [] [101] → zv s46 101 = zv s 101 - 1 → 0 ≤ zv s46 101 → wr_todoTask s46 20 ((x : Nat) : Int) 0 (fun s169 => (0 ≤ (za s 27 x)) ∧ ((za s 27 x) < 26000) ∧ (0 ≤ (za s169 28 (Int.toNat (za s 27 x)))) ∧ ((za s169 28 (Int.toNat (za s 27 x))) < 26000) ∧ wr_todoTask s169 1 (za s169 28 (Int.toNat (za s169 28 (Int.toNat (za s 27 x))))) 0 (fun s183 => (0 ≤ (za s 27 x)) ∧ ((za s 27 x) < 26000) ∧ wr_todoTask s183 1 (za s183 28 (Int.toNat (za s 27 x))) 0 (fun s193 => Q s193)))) : wr_perform s x Q := by
  unfold wr_perform
  rw [Int.toNat_natCast, hk]
  repeat' (first | (with_reducible exact h1 _ (by assumption) (by assumption) (by assumption)) | (with_reducible exact h0 _ (by assumption) (by assumption)) | (with_reducible apply And.intro) | omega | (intro c; exact absurd c (by decide)) | (intro c; exact absurd rfl c) | (with_reducible intro _) | (refine sp_burns s hb0 hb1 (fun s46 f46 e46 z46 => ?_) (fun s46 f46 e46 => ?_)) | fail)
theorem pf_28 {s : zS} {x : Nat} (hx : x < 26000) (hk : za s 25 x = 28) (hb0 : 0 ≤ zv s 101) (hb1 : zv s 101 ≤ 100000) {Q : zS → Prop} (h0 : ∀ s', zSm s s' [] [102, 103, 104] → xEd s' → Q s') (h1 : ∀ s46, zSm s s46 [] [101] → zv s46 101 = zv s 101 - 1 → 0 ≤ zv s46 101 → wr_todoTask s46 21 ((x : Nat) : Int) 0 (fun s156 => wr_todoTask s156 1 (za s 27 x) 0 (fun s162 => Q s162))) : wr_perform s x Q := by
  unfold wr_perform
  rw [Int.toNat_natCast, hk]
  repeat' (first | (with_reducible exact h1 _ (by assumption) (by assumption) (by assumption)) | (with_reducible exact h0 _ (by assumption) (by assumption)) | (with_reducible apply And.intro) | omega | (intro c; exact absurd c (by decide)) | (intro c; exact absurd rfl c) | (with_reducible intro _) | (refine sp_burns s hb0 hb1 (fun s46 f46 e46 z46 => ?_) (fun s46 f46 e46 => ?_)) | fail)
theorem pf_29 {s : zS} {x : Nat} (hx : x < 26000) (hk : za s 25 x = 29) (hb0 : 0 ≤ zv s 101) (hb1 : zv s 101 ≤ 100000) {Q : zS → Prop} (h0 : ∀ s', zSm s s' [] [102, 103, 104] → xEd s' → Q s') (h1 : ∀ s46, zSm s s46 [] [101] → zv s46 101 = zv s 101 - 1 → 0 ≤ zv s46 101 → ∃ n, wr_perform_253 Q  n s46) : wr_perform s x Q := by
  unfold wr_perform
  rw [Int.toNat_natCast, hk]
  repeat' (first | (with_reducible exact h1 _ (by assumption) (by assumption) (by assumption)) | (with_reducible exact h0 _ (by assumption) (by assumption)) | (with_reducible apply And.intro) | omega | (intro c; exact absurd c (by decide)) | (intro c; exact absurd rfl c) | (with_reducible intro _) | (refine sp_burns s hb0 hb1 (fun s46 f46 e46 z46 => ?_) (fun s46 f46 e46 => ?_)) | fail)
theorem pf_30 {s : zS} {x : Nat} (hx : x < 26000) (hk : za s 25 x = 30) (hb0 : 0 ≤ zv s 101) (hb1 : zv s 101 ≤ 100000) {Q : zS → Prop} (h0 : ∀ s', zSm s s' [] [102, 103, 104] → xEd s' → Q s') (h1 : ∀ s46, zSm s s46 [] [101] → zv s46 101 = zv s 101 - 1 → 0 ≤ zv s46 101 → ∃ n, wr_perform_301 Q  n s46) : wr_perform s x Q := by
  unfold wr_perform
  rw [Int.toNat_natCast, hk]
  repeat' (first | (with_reducible exact h1 _ (by assumption) (by assumption) (by assumption)) | (with_reducible exact h0 _ (by assumption) (by assumption)) | (with_reducible apply And.intro) | omega | (intro c; exact absurd c (by decide)) | (intro c; exact absurd rfl c) | (with_reducible intro _) | (refine sp_burns s hb0 hb1 (fun s46 f46 e46 z46 => ?_) (fun s46 f46 e46 => ?_)) | fail)
theorem pf_31 {s : zS} {x : Nat} (hx : x < 26000) (hk : za s 25 x = 31) (hb0 : 0 ≤ zv s 101) (hb1 : zv s 101 ≤ 100000) {Q : zS → Prop} (h0 : ∀ s', zSm s s' [] [102, 103, 104] → xEd s' → Q s') (h1 : ∀ s46, zSm s s46 [] [101] → zv s46 101 = zv s 101 - 1 → 0 ≤ zv s46 101 → ∃ n, wr_perform_336 Q  n s46) : wr_perform s x Q := by
  unfold wr_perform
  rw [Int.toNat_natCast, hk]
  repeat' (first | (with_reducible exact h1 _ (by assumption) (by assumption) (by assumption)) | (with_reducible exact h0 _ (by assumption) (by assumption)) | (with_reducible apply And.intro) | omega | (intro c; exact absurd c (by decide)) | (intro c; exact absurd rfl c) | (with_reducible intro _) | (refine sp_burns s hb0 hb1 (fun s46 f46 e46 z46 => ?_) (fun s46 f46 e46 => ?_)) | fail)
theorem pf_32 {s : zS} {x : Nat} (hx : x < 26000) (hk : za s 25 x = 32) (hb0 : 0 ≤ zv s 101) (hb1 : zv s 101 ≤ 100000) {Q : zS → Prop} (h0 : ∀ s', zSm s s' [] [102, 103, 104] → xEd s' → Q s') (h1 : ∀ s46, zSm s s46 [] [101] → zv s46 101 = zv s 101 - 1 → 0 ≤ zv s46 101 → ∃ n, wr_perform_405 Q  n s46) : wr_perform s x Q := by
  unfold wr_perform
  rw [Int.toNat_natCast, hk]
  repeat' (first | (with_reducible exact h1 _ (by assumption) (by assumption) (by assumption)) | (with_reducible exact h0 _ (by assumption) (by assumption)) | (with_reducible apply And.intro) | omega | (intro c; exact absurd c (by decide)) | (intro c; exact absurd rfl c) | (with_reducible intro _) | (refine sp_burns s hb0 hb1 (fun s46 f46 e46 z46 => ?_) (fun s46 f46 e46 => ?_)) | fail)
theorem pf_33 {s : zS} {x : Nat} (hx : x < 26000) (hk : za s 25 x = 33) (hb0 : 0 ≤ zv s 101) (hb1 : zv s 101 ≤ 100000) {Q : zS → Prop} (h0 : ∀ s', zSm s s' [] [102, 103, 104] → xEd s' → Q s') (h1 : ∀ s46, zSm s s46 [] [101] → zv s46 101 = zv s 101 - 1 → 0 ≤ zv s46 101 → wr_todoTask s46 22 ((x : Nat) : Int) 0 (fun s131 => wr_todoTask s131 1 (za s 27 x) 0 (fun s137 => Q s137))) : wr_perform s x Q := by
  unfold wr_perform
  rw [Int.toNat_natCast, hk]
  repeat' (first | (with_reducible exact h1 _ (by assumption) (by assumption) (by assumption)) | (with_reducible exact h0 _ (by assumption) (by assumption)) | (with_reducible apply And.intro) | omega | (intro c; exact absurd c (by decide)) | (intro c; exact absurd rfl c) | (with_reducible intro _) | (refine sp_burns s hb0 hb1 (fun s46 f46 e46 z46 => ?_) (fun s46 f46 e46 => ?_)) | fail)
theorem pf_35 {s : zS} {x : Nat} (hx : x < 26000) (hk : za s 25 x = 35) (hb0 : 0 ≤ zv s 101) (hb1 : zv s 101 ≤ 100000) {Q : zS → Prop} (h0 : ∀ s', zSm s s' [] [102, 103, 104] → xEd s' → Q s') (h1 : ∀ s46, zSm s s46 [] [101] → zv s46 101 = zv s 101 - 1 → 0 ≤ zv s46 101 → (0 ≤ ((x : Nat) : Int)) ∧ (((x : Nat) : Int) < 26000) ∧ ∃ n, wr_perform_472 Q  n s46 (za s46 31 x)) : wr_perform s x Q := by
  unfold wr_perform
  rw [Int.toNat_natCast, hk]
  repeat' (first | (with_reducible exact h1 _ (by assumption) (by assumption) (by assumption)) | (with_reducible exact h0 _ (by assumption) (by assumption)) | (with_reducible apply And.intro) | omega | (intro c; exact absurd c (by decide)) | (intro c; exact absurd rfl c) | (with_reducible intro _) | (refine sp_burns s hb0 hb1 (fun s46 f46 e46 z46 => ?_) (fun s46 f46 e46 => ?_)) | fail)
theorem pf_34 {s : zS} {x : Nat} (hx : x < 26000) (hk : za s 25 x = 34) (hb0 : 0 ≤ zv s 101) (hb1 : zv s 101 ≤ 100000) {Q : zS → Prop} (h0 : ∀ s', zSm s s' [] [102, 103, 104] → xEd s' → Q s') (h1 : ∀ s46, zSm s s46 [] [101] → zv s46 101 = zv s 101 - 1 → 0 ≤ zv s46 101 → Q (zpv (zpv (zpv s46 102 1) 103 0) 104 0)) : wr_perform s x Q := by
  unfold wr_perform
  rw [Int.toNat_natCast, hk]
  repeat' (first | (with_reducible exact h1 _ (by assumption) (by assumption) (by assumption)) | (with_reducible exact h0 _ (by assumption) (by assumption)) | (with_reducible apply And.intro) | omega | (intro c; exact absurd c (by decide)) | (intro c; exact absurd rfl c) | (with_reducible intro _) | (refine sp_burns s hb0 hb1 (fun s46 f46 e46 z46 => ?_) (fun s46 f46 e46 => ?_)) | fail)
