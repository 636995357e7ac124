/-! THE RUN: A TASK IS TAKEN -/
theorem dn_1 {s : zS} {x : Nat} {a : Int} {L : List xT} (h : xTk s ((1, x, a) :: L)) (hl : L.length < 600000) {Q : zS → Prop} (hq : ∀ s1, xTk s1 L → zSm s s1 [] [87] → wr_evaluate s1 ((x : Nat) : Int) (fun s324 => Q s324)) : wr_doNext s Q := by
  have h1 := hq (zpv s 87 (zv s 87 - 1)) (h.pop (zSm.rf.pv rfl) rfl) (zSm.rf.pv rfl)
  clear hq
  have e87 : zv s 87 = (L.length : Int) + 1 := by rw [h.2]; show ((L.length + 1 : Nat) : Int) = _; omega
  have et : Int.toNat (zv s 87 - 1) = L.length := by omega
  have e88 : za s 88 (Int.toNat (zv s 87 - 1)) = 1 := by rw [et]; exact h.1.1.1
  have e89 : za s 89 (Int.toNat (zv s 87 - 1)) = (x : Int) := by rw [et]; exact h.1.1.2.1
  have e90 : za s 90 (Int.toNat (zv s 87 - 1)) = a := by rw [et]; exact h.1.1.2.2
  unfold wr_doNext
  rw [e88]
  try rw [e89]
  try rw [e90]
  repeat' (first | (with_reducible exact h1) | (with_reducible apply And.intro) | omega | (intro c; exact absurd c (by decide)) | (intro c; exact absurd rfl c) | (with_reducible intro _) | fail)
theorem dn_2 {s : zS} {x : Nat} {a : Int} {L : List xT} (h : xTk s ((2, x, a) :: L)) (hl : L.length < 600000) {Q : zS → Prop} (hq : ∀ s1, xTk s1 L → zSm s s1 [] [87] → wr_bin s1 ((x : Nat) : Int) (fun s317 => Q s317)) : wr_doNext s Q := by
  have h1 := hq (zpv s 87 (zv s 87 - 1)) (h.pop (zSm.rf.pv rfl) rfl) (zSm.rf.pv rfl)
  clear hq
  have e87 : zv s 87 = (L.length : Int) + 1 := by rw [h.2]; show ((L.length + 1 : Nat) : Int) = _; omega
  have et : Int.toNat (zv s 87 - 1) = L.length := by omega
  have e88 : za s 88 (Int.toNat (zv s 87 - 1)) = 2 := by rw [et]; exact h.1.1.1
  have e89 : za s 89 (Int.toNat (zv s 87 - 1)) = (x : Int) := by rw [et]; exact h.1.1.2.1
  have e90 : za s 90 (Int.toNat (zv s 87 - 1)) = a := by rw [et]; exact h.1.1.2.2
  unfold wr_doNext
  rw [e88]
  try rw [e89]
  try rw [e90]
  repeat' (first | (with_reducible exact h1) | (with_reducible apply And.intro) | omega | (intro c; exact absurd c (by decide)) | (intro c; exact absurd rfl c) | (with_reducible intro _) | fail)
theorem dn_3 {s : zS} {x : Nat} {a : Int} {L : List xT} (h : xTk s ((3, x, a) :: L)) (hl : L.length < 600000) {Q : zS → Prop} (hq : ∀ s1, xTk s1 L → zSm s s1 [] [87] → (0 ≤ ((x : Nat) : Int)) ∧ (((x : Nat) : Int) < 26000) ∧ wr_pop s1  (fun r297 s298 => wr_signed s298 (za s 29 (Int.toNat ((x : Nat) : Int))) r297 (fun r303 s304 => wr_push s304 r303 (fun s310 => Q s310)))) : wr_doNext s Q := by
  have h1 := hq (zpv s 87 (zv s 87 - 1)) (h.pop (zSm.rf.pv rfl) rfl) (zSm.rf.pv rfl)
  clear hq
  have e87 : zv s 87 = (L.length : Int) + 1 := by rw [h.2]; show ((L.length + 1 : Nat) : Int) = _; omega
  have et : Int.toNat (zv s 87 - 1) = L.length := by omega
  have e88 : za s 88 (Int.toNat (zv s 87 - 1)) = 3 := by rw [et]; exact h.1.1.1
  have e89 : za s 89 (Int.toNat (zv s 87 - 1)) = (x : Int) := by rw [et]; exact h.1.1.2.1
  have e90 : za s 90 (Int.toNat (zv s 87 - 1)) = a := by rw [et]; exact h.1.1.2.2
  unfold wr_doNext
  rw [e88]
  try rw [e89]
  try rw [e90]
  repeat' (first | (with_reducible exact h1) | (with_reducible apply And.intro) | omega | (intro c; exact absurd c (by decide)) | (intro c; exact absurd rfl c) | (with_reducible intro _) | fail)
theorem dn_4 {s : zS} {x : Nat} {a : Int} {L : List xT} (h : xTk s ((4, x, a) :: L)) (hl : L.length < 600000) {Q : zS → Prop} (hq : ∀ s1, xTk s1 L → zSm s s1 [] [87] → wr_pop s1  (fun r274 s275 => wr_read s275 r274 (fun r280 s281 => wr_push s281 r280 (fun s287 => Q s287)))) : wr_doNext s Q := by
  have h1 := hq (zpv s 87 (zv s 87 - 1)) (h.pop (zSm.rf.pv rfl) rfl) (zSm.rf.pv rfl)
  clear hq
  have e87 : zv s 87 = (L.length : Int) + 1 := by rw [h.2]; show ((L.length + 1 : Nat) : Int) = _; omega
  have et : Int.toNat (zv s 87 - 1) = L.length := by omega
  have e88 : za s 88 (Int.toNat (zv s 87 - 1)) = 4 := by rw [et]; exact h.1.1.1
  have e89 : za s 89 (Int.toNat (zv s 87 - 1)) = (x : Int) := by rw [et]; exact h.1.1.2.1
  have e90 : za s 90 (Int.toNat (zv s 87 - 1)) = a := by rw [et]; exact h.1.1.2.2
  unfold wr_doNext
  rw [e88]
  try rw [e89]
  try rw [e90]
  repeat' (first | (with_reducible exact h1) | (with_reducible apply And.intro) | omega | (intro c; exact absurd c (by decide)) | (intro c; exact absurd rfl c) | (with_reducible intro _) | fail)
theorem dn_5 {s : zS} {x : Nat} {a : Int} {L : List xT} (h : xTk s ((5, x, a) :: L)) (hl : L.length < 600000) {Q : zS → Prop} (hq : ∀ s1, xTk s1 L → zSm s s1 [] [87] → (0 ≤ ((x : Nat) : Int)) ∧ (((x : Nat) : Int) < 26000) ∧ (0 ≤ (za s 27 (Int.toNat ((x : Nat) : Int)))) ∧ ((za s 27 (Int.toNat ((x : Nat) : Int))) < 26000) ∧ wr_pop s1  (fun r225 s226 => ((r225 = 0 → (0 ≤ (za s 28 (Int.toNat (za s 27 (Int.toNat ((x : Nat) : Int)))))) ∧ ((za s 28 (Int.toNat (za s 27 (Int.toNat ((x : Nat) : Int))))) < 26000) ∧ wr_todoTask s226 1 (za s226 28 (Int.toNat (za s 28 (Int.toNat (za s 27 (Int.toNat ((x : Nat) : Int))))))) 0 (fun s238 => Q s238)) ∧ (¬ r225 = 0 → wr_todoTask s226 1 (za s 28 (Int.toNat (za s 27 (Int.toNat ((x : Nat) : Int))))) 0 (fun s245 => Q s245))))) : wr_doNext s Q := by
  have h1 := hq (zpv s 87 (zv s 87 - 1)) (h.pop (zSm.rf.pv rfl) rfl) (zSm.rf.pv rfl)
  clear hq
  have e87 : zv s 87 = (L.length : Int) + 1 := by rw [h.2]; show ((L.length + 1 : Nat) : Int) = _; omega
  have et : Int.toNat (zv s 87 - 1) = L.length := by omega
  have e88 : za s 88 (Int.toNat (zv s 87 - 1)) = 5 := by rw [et]; exact h.1.1.1
  have e89 : za s 89 (Int.toNat (zv s 87 - 1)) = (x : Int) := by rw [et]; exact h.1.1.2.1
  have e90 : za s 90 (Int.toNat (zv s 87 - 1)) = a := by rw [et]; exact h.1.1.2.2
  unfold wr_doNext
  rw [e88]
  try rw [e89]
  try rw [e90]
  repeat' (first | (with_reducible exact h1) | (with_reducible apply And.intro) | omega | (intro c; exact absurd c (by decide)) | (intro c; exact absurd rfl c) | (with_reducible intro _) | fail)
theorem dn_6 {s : zS} {x : Nat} {a : Int} {L : List xT} (h : xTk s ((6, x, a) :: L)) (hl : L.length < 600000) {Q : zS → Prop} (hq : ∀ s1, xTk s1 L → zSm s s1 [] [87] → wr_rel s1 ((x : Nat) : Int) a (fun s211 => Q s211)) : wr_doNext s Q := by
  have h1 := hq (zpv s 87 (zv s 87 - 1)) (h.pop (zSm.rf.pv rfl) rfl) (zSm.rf.pv rfl)
  clear hq
  have e87 : zv s 87 = (L.length : Int) + 1 := by rw [h.2]; show ((L.length + 1 : Nat) : Int) = _; omega
  have et : Int.toNat (zv s 87 - 1) = L.length := by omega
  have e88 : za s 88 (Int.toNat (zv s 87 - 1)) = 6 := by rw [et]; exact h.1.1.1
  have e89 : za s 89 (Int.toNat (zv s 87 - 1)) = (x : Int) := by rw [et]; exact h.1.1.2.1
  have e90 : za s 90 (Int.toNat (zv s 87 - 1)) = a := by rw [et]; exact h.1.1.2.2
  unfold wr_doNext
  rw [e88]
  try rw [e89]
  try rw [e90]
  repeat' (first | (with_reducible exact h1) | (with_reducible apply And.intro) | omega | (intro c; exact absurd c (by decide)) | (intro c; exact absurd rfl c) | (with_reducible intro _) | fail)
theorem dn_7 {s : zS} {x : Nat} {a : Int} {L : List xT} (h : xTk s ((7, x, a) :: L)) (hl : L.length < 600000) {Q : zS → Prop} (hq : ∀ s1, xTk s1 L → zSm s s1 [] [87] → wr_call s1 ((x : Nat) : Int) a (fun s204 => Q s204)) : wr_doNext s Q := by
  have h1 := hq (zpv s 87 (zv s 87 - 1)) (h.pop (zSm.rf.pv rfl) rfl) (zSm.rf.pv rfl)
  clear hq
  have e87 : zv s 87 = (L.length : Int) + 1 := by rw [h.2]; show ((L.length + 1 : Nat) : Int) = _; omega
  have et : Int.toNat (zv s 87 - 1) = L.length := by omega
  have e88 : za s 88 (Int.toNat (zv s 87 - 1)) = 7 := by rw [et]; exact h.1.1.1
  have e89 : za s 89 (Int.toNat (zv s 87 - 1)) = (x : Int) := by rw [et]; exact h.1.1.2.1
  have e90 : za s 90 (Int.toNat (zv s 87 - 1)) = a := by rw [et]; exact h.1.1.2.2
  unfold wr_doNext
  rw [e88]
  try rw [e89]
  try rw [e90]
  repeat' (first | (with_reducible exact h1) | (with_reducible apply And.intro) | omega | (intro c; exact absurd c (by decide)) | (intro c; exact absurd rfl c) | (with_reducible intro _) | fail)
theorem dn_8 {s : zS} {x : Nat} {a : Int} {L : List xT} (h : xTk s ((8, x, a) :: L)) (hl : L.length < 600000) {Q : zS → Prop} (hq : ∀ s1, xTk s1 L → zSm s s1 [] [87] → wr_push s1 0 (fun s197 => Q s197)) : wr_doNext s Q := by
  have h1 := hq (zpv s 87 (zv s 87 - 1)) (h.pop (zSm.rf.pv rfl) rfl) (zSm.rf.pv rfl)
  clear hq
  have e87 : zv s 87 = (L.length : Int) + 1 := by rw [h.2]; show ((L.length + 1 : Nat) : Int) = _; omega
  have et : Int.toNat (zv s 87 - 1) = L.length := by omega
  have e88 : za s 88 (Int.toNat (zv s 87 - 1)) = 8 := by rw [et]; exact h.1.1.1
  have e89 : za s 89 (Int.toNat (zv s 87 - 1)) = (x : Int) := by rw [et]; exact h.1.1.2.1
  have e90 : za s 90 (Int.toNat (zv s 87 - 1)) = a := by rw [et]; exact h.1.1.2.2
  unfold wr_doNext
  rw [e88]
  try rw [e89]
  try rw [e90]
  repeat' (first | (with_reducible exact h1) | (with_reducible apply And.intro) | omega | (intro c; exact absurd c (by decide)) | (intro c; exact absurd rfl c) | (with_reducible intro _) | fail)
theorem dn_9 {s : zS} {x : Nat} {a : Int} {L : List xT} (h : xTk s ((9, x, a) :: L)) (hl : L.length < 600000) {Q : zS → Prop} (hq : ∀ s1, xTk s1 L → zSm s s1 [] [87] → wr_pop s1  (fun r251 s252 => wr_pop s252  (fun r257 s258 => ∀ z263 : Int, z263 = zw (r251 + r257) → zR z263 → wr_push s258 z263 (fun s268 => Q s268)))) : wr_doNext s Q := by
  have h1 := hq (zpv s 87 (zv s 87 - 1)) (h.pop (zSm.rf.pv rfl) rfl) (zSm.rf.pv rfl)
  clear hq
  have e87 : zv s 87 = (L.length : Int) + 1 := by rw [h.2]; show ((L.length + 1 : Nat) : Int) = _; omega
  have et : Int.toNat (zv s 87 - 1) = L.length := by omega
  have e88 : za s 88 (Int.toNat (zv s 87 - 1)) = 9 := by rw [et]; exact h.1.1.1
  have e89 : za s 89 (Int.toNat (zv s 87 - 1)) = (x : Int) := by rw [et]; exact h.1.1.2.1
  have e90 : za s 90 (Int.toNat (zv s 87 - 1)) = a := by rw [et]; exact h.1.1.2.2
  unfold wr_doNext
  rw [e88]
  try rw [e89]
  try rw [e90]
  repeat' (first | (with_reducible exact h1) | (with_reducible apply And.intro) | omega | (intro c; exact absurd c (by decide)) | (intro c; exact absurd rfl c) | (with_reducible intro _) | fail)
theorem dn_10 {s : zS} {x : Nat} {a : Int} {L : List xT} (h : xTk s ((10, x, a) :: L)) (hl : L.length < 600000) {Q : zS → Prop} (hq : ∀ s1, xTk s1 L → zSm s s1 [] [87] → wr_perform s1 ((x : Nat) : Int) (fun s190 => Q s190)) : wr_doNext s Q := by
  have h1 := hq (zpv s 87 (zv s 87 - 1)) (h.pop (zSm.rf.pv rfl) rfl) (zSm.rf.pv rfl)
  clear hq
  have e87 : zv s 87 = (L.length : Int) + 1 := by rw [h.2]; show ((L.length + 1 : Nat) : Int) = _; omega
  have et : Int.toNat (zv s 87 - 1) = L.length := by omega
  have e88 : za s 88 (Int.toNat (zv s 87 - 1)) = 10 := by rw [et]; exact h.1.1.1
  have e89 : za s 89 (Int.toNat (zv s 87 - 1)) = (x : Int) := by rw [et]; exact h.1.1.2.1
  have e90 : za s 90 (Int.toNat (zv s 87 - 1)) = a := by rw [et]; exact h.1.1.2.2
  unfold wr_doNext
  rw [e88]
  try rw [e89]
  try rw [e90]
  repeat' (first | (with_reducible exact h1) | (with_reducible apply And.intro) | omega | (intro c; exact absurd c (by decide)) | (intro c; exact absurd rfl c) | (with_reducible intro _) | fail)
theorem dn_11 {s : zS} {x : Nat} {a : Int} {L : List xT} (h : xTk s ((11, x, a) :: L)) (hl : L.length < 600000) {Q : zS → Prop} (hq : ∀ s1, xTk s1 L → zSm s s1 [] [87] → wr_assign s1 ((x : Nat) : Int) a (fun s183 => Q s183)) : wr_doNext s Q := by
  have h1 := hq (zpv s 87 (zv s 87 - 1)) (h.pop (zSm.rf.pv rfl) rfl) (zSm.rf.pv rfl)
  clear hq
  have e87 : zv s 87 = (L.length : Int) + 1 := by rw [h.2]; show ((L.length + 1 : Nat) : Int) = _; omega
  have et : Int.toNat (zv s 87 - 1) = L.length := by omega
  have e88 : za s 88 (Int.toNat (zv s 87 - 1)) = 11 := by rw [et]; exact h.1.1.1
  have e89 : za s 89 (Int.toNat (zv s 87 - 1)) = (x : Int) := by rw [et]; exact h.1.1.2.1
  have e90 : za s 90 (Int.toNat (zv s 87 - 1)) = a := by rw [et]; exact h.1.1.2.2
  unfold wr_doNext
  rw [e88]
  try rw [e89]
  try rw [e90]
  repeat' (first | (with_reducible exact h1) | (with_reducible apply And.intro) | omega | (intro c; exact absurd c (by decide)) | (intro c; exact absurd rfl c) | (with_reducible intro _) | fail)
theorem dn_12 {s : zS} {x : Nat} {a : Int} {L : List xT} (h : xTk s ((12, x, a) :: L)) (hl : L.length < 600000) {Q : zS → Prop} (hq : ∀ s1, xTk s1 L → zSm s s1 [] [87] → wr_stores s1 ((x : Nat) : Int) (fun s176 => Q s176)) : wr_doNext s Q := by
  have h1 := hq (zpv s 87 (zv s 87 - 1)) (h.pop (zSm.rf.pv rfl) rfl) (zSm.rf.pv rfl)
  clear hq
  have e87 : zv s 87 = (L.length : Int) + 1 := by rw [h.2]; show ((L.length + 1 : Nat) : Int) = _; omega
  have et : Int.toNat (zv s 87 - 1) = L.length := by omega
  have e88 : za s 88 (Int.toNat (zv s 87 - 1)) = 12 := by rw [et]; exact h.1.1.1
  have e89 : za s 89 (Int.toNat (zv s 87 - 1)) = (x : Int) := by rw [et]; exact h.1.1.2.1
  have e90 : za s 90 (Int.toNat (zv s 87 - 1)) = a := by rw [et]; exact h.1.1.2.2
  unfold wr_doNext
  rw [e88]
  try rw [e89]
  try rw [e90]
  repeat' (first | (with_reducible exact h1) | (with_reducible apply And.intro) | omega | (intro c; exact absurd c (by decide)) | (intro c; exact absurd rfl c) | (with_reducible intro _) | fail)
theorem dn_13 {s : zS} {x : Nat} {a : Int} {L : List xT} (h : xTk s ((13, x, a) :: L)) (hl : L.length < 600000) {Q : zS → Prop} (hq : ∀ s1, xTk s1 L → zSm s s1 [] [87] → wr_pop s1  (fun r168 s169 => Q s169)) : wr_doNext s Q := by
  have h1 := hq (zpv s 87 (zv s 87 - 1)) (h.pop (zSm.rf.pv rfl) rfl) (zSm.rf.pv rfl)
  clear hq
  have e87 : zv s 87 = (L.length : Int) + 1 := by rw [h.2]; show ((L.length + 1 : Nat) : Int) = _; omega
  have et : Int.toNat (zv s 87 - 1) = L.length := by omega
  have e88 : za s 88 (Int.toNat (zv s 87 - 1)) = 13 := by rw [et]; exact h.1.1.1
  have e89 : za s 89 (Int.toNat (zv s 87 - 1)) = (x : Int) := by rw [et]; exact h.1.1.2.1
  have e90 : za s 90 (Int.toNat (zv s 87 - 1)) = a := by rw [et]; exact h.1.1.2.2
  unfold wr_doNext
  rw [e88]
  try rw [e89]
  try rw [e90]
  repeat' (first | (with_reducible exact h1) | (with_reducible apply And.intro) | omega | (intro c; exact absurd c (by decide)) | (intro c; exact absurd rfl c) | (with_reducible intro _) | fail)
theorem dn_14 {s : zS} {x : Nat} {a : Int} {L : List xT} (h : xTk s ((14, x, a) :: L)) (hl : L.length < 600000) {Q : zS → Prop} (hq : ∀ s1, xTk s1 L → zSm s s1 [] [87] → wr_pop s1  (fun r158 s159 => ((r158 = 0 → wr_doNext_299 Q  s159 ((x : Nat) : Int) 0) ∧ (¬ r158 = 0 → wr_doNext_299 Q  s159 ((x : Nat) : Int) 1)))) : wr_doNext s Q := by
  have h1 := hq (zpv s 87 (zv s 87 - 1)) (h.pop (zSm.rf.pv rfl) rfl) (zSm.rf.pv rfl)
  clear hq
  have e87 : zv s 87 = (L.length : Int) + 1 := by rw [h.2]; show ((L.length + 1 : Nat) : Int) = _; omega
  have et : Int.toNat (zv s 87 - 1) = L.length := by omega
  have e88 : za s 88 (Int.toNat (zv s 87 - 1)) = 14 := by rw [et]; exact h.1.1.1
  have e89 : za s 89 (Int.toNat (zv s 87 - 1)) = (x : Int) := by rw [et]; exact h.1.1.2.1
  have e90 : za s 90 (Int.toNat (zv s 87 - 1)) = a := by rw [et]; exact h.1.1.2.2
  unfold wr_doNext
  rw [e88]
  try rw [e89]
  try rw [e90]
  repeat' (first | (with_reducible exact h1) | (with_reducible apply And.intro) | omega | (intro c; exact absurd c (by decide)) | (intro c; exact absurd rfl c) | (with_reducible intro _) | fail)
theorem dn_15 {s : zS} {x : Nat} {a : Int} {L : List xT} (h : xTk s ((15, x, a) :: L)) (hl : L.length < 600000) {Q : zS → Prop} (hq : ∀ s1, xTk s1 L → zSm s s1 [] [87] → wr_loop s1 ((x : Nat) : Int) a (fun s152 => Q s152)) : wr_doNext s Q := by
  have h1 := hq (zpv s 87 (zv s 87 - 1)) (h.pop (zSm.rf.pv rfl) rfl) (zSm.rf.pv rfl)
  clear hq
  have e87 : zv s 87 = (L.length : Int) + 1 := by rw [h.2]; show ((L.length + 1 : Nat) : Int) = _; omega
  have et : Int.toNat (zv s 87 - 1) = L.length := by omega
  have e88 : za s 88 (Int.toNat (zv s 87 - 1)) = 15 := by rw [et]; exact h.1.1.1
  have e89 : za s 89 (Int.toNat (zv s 87 - 1)) = (x : Int) := by rw [et]; exact h.1.1.2.1
  have e90 : za s 90 (Int.toNat (zv s 87 - 1)) = a := by rw [et]; exact h.1.1.2.2
  unfold wr_doNext
  rw [e88]
  try rw [e89]
  try rw [e90]
  repeat' (first | (with_reducible exact h1) | (with_reducible apply And.intro) | omega | (intro c; exact absurd c (by decide)) | (intro c; exact absurd rfl c) | (with_reducible intro _) | fail)
theorem dn_16 {s : zS} {x : Nat} {a : Int} {L : List xT} (h : xTk s ((16, x, a) :: L)) (hl : L.length < 600000) {Q : zS → Prop} (hq : ∀ s1, xTk s1 L → zSm s s1 [] [87] → wr_asked s1 ((x : Nat) : Int) (fun s145 => Q s145)) : wr_doNext s Q := by
  have h1 := hq (zpv s 87 (zv s 87 - 1)) (h.pop (zSm.rf.pv rfl) rfl) (zSm.rf.pv rfl)
  clear hq
  have e87 : zv s 87 = (L.length : Int) + 1 := by rw [h.2]; show ((L.length + 1 : Nat) : Int) = _; omega
  have et : Int.toNat (zv s 87 - 1) = L.length := by omega
  have e88 : za s 88 (Int.toNat (zv s 87 - 1)) = 16 := by rw [et]; exact h.1.1.1
  have e89 : za s 89 (Int.toNat (zv s 87 - 1)) = (x : Int) := by rw [et]; exact h.1.1.2.1
  have e90 : za s 90 (Int.toNat (zv s 87 - 1)) = a := by rw [et]; exact h.1.1.2.2
  unfold wr_doNext
  rw [e88]
  try rw [e89]
  try rw [e90]
  repeat' (first | (with_reducible exact h1) | (with_reducible apply And.intro) | omega | (intro c; exact absurd c (by decide)) | (intro c; exact absurd rfl c) | (with_reducible intro _) | fail)
theorem dn_17 {s : zS} {x : Nat} {a : Int} {L : List xT} (h : xTk s ((17, x, a) :: L)) (hl : L.length < 600000) {Q : zS → Prop} (hq : ∀ s1, xTk s1 L → zSm s s1 [] [87] → wr_section s1 ((x : Nat) : Int) a (fun s138 => Q s138)) : wr_doNext s Q := by
  have h1 := hq (zpv s 87 (zv s 87 - 1)) (h.pop (zSm.rf.pv rfl) rfl) (zSm.rf.pv rfl)
  clear hq
  have e87 : zv s 87 = (L.length : Int) + 1 := by rw [h.2]; show ((L.length + 1 : Nat) : Int) = _; omega
  have et : Int.toNat (zv s 87 - 1) = L.length := by omega
  have e88 : za s 88 (Int.toNat (zv s 87 - 1)) = 17 := by rw [et]; exact h.1.1.1
  have e89 : za s 89 (Int.toNat (zv s 87 - 1)) = (x : Int) := by rw [et]; exact h.1.1.2.1
  have e90 : za s 90 (Int.toNat (zv s 87 - 1)) = a := by rw [et]; exact h.1.1.2.2
  unfold wr_doNext
  rw [e88]
  try rw [e89]
  try rw [e90]
  repeat' (first | (with_reducible exact h1) | (with_reducible apply And.intro) | omega | (intro c; exact absurd c (by decide)) | (intro c; exact absurd rfl c) | (with_reducible intro _) | fail)
theorem dn_18 {s : zS} {x : Nat} {a : Int} {L : List xT} (h : xTk s ((18, x, a) :: L)) (hl : L.length < 600000) {Q : zS → Prop} (hq : ∀ s1, xTk s1 L → zSm s s1 [] [87] → wr_returns s1 ((x : Nat) : Int) a (fun s131 => Q s131)) : wr_doNext s Q := by
  have h1 := hq (zpv s 87 (zv s 87 - 1)) (h.pop (zSm.rf.pv rfl) rfl) (zSm.rf.pv rfl)
  clear hq
  have e87 : zv s 87 = (L.length : Int) + 1 := by rw [h.2]; show ((L.length + 1 : Nat) : Int) = _; omega
  have et : Int.toNat (zv s 87 - 1) = L.length := by omega
  have e88 : za s 88 (Int.toNat (zv s 87 - 1)) = 18 := by rw [et]; exact h.1.1.1
  have e89 : za s 89 (Int.toNat (zv s 87 - 1)) = (x : Int) := by rw [et]; exact h.1.1.2.1
  have e90 : za s 90 (Int.toNat (zv s 87 - 1)) = a := by rw [et]; exact h.1.1.2.2
  unfold wr_doNext
  rw [e88]
  try rw [e89]
  try rw [e90]
  repeat' (first | (with_reducible exact h1) | (with_reducible apply And.intro) | omega | (intro c; exact absurd c (by decide)) | (intro c; exact absurd rfl c) | (with_reducible intro _) | fail)
theorem dn_19 {s : zS} {x : Nat} {a : Int} {L : List xT} (h : xTk s ((19, x, a) :: L)) (hl : L.length < 600000) {Q : zS → Prop} (hq : ∀ s1, xTk s1 L → zSm s s1 [] [87] → wr_variables s1 ((x : Nat) : Int) (fun s124 => Q s124)) : wr_doNext s Q := by
  have h1 := hq (zpv s 87 (zv s 87 - 1)) (h.pop (zSm.rf.pv rfl) rfl) (zSm.rf.pv rfl)
  clear hq
  have e87 : zv s 87 = (L.length : Int) + 1 := by rw [h.2]; show ((L.length + 1 : Nat) : Int) = _; omega
  have et : Int.toNat (zv s 87 - 1) = L.length := by omega
  have e88 : za s 88 (Int.toNat (zv s 87 - 1)) = 19 := by rw [et]; exact h.1.1.1
  have e89 : za s 89 (Int.toNat (zv s 87 - 1)) = (x : Int) := by rw [et]; exact h.1.1.2.1
  have e90 : za s 90 (Int.toNat (zv s 87 - 1)) = a := by rw [et]; exact h.1.1.2.2
  unfold wr_doNext
  rw [e88]
  try rw [e89]
  try rw [e90]
  repeat' (first | (with_reducible exact h1) | (with_reducible apply And.intro) | omega | (intro c; exact absurd c (by decide)) | (intro c; exact absurd rfl c) | (with_reducible intro _) | fail)
theorem dn_20 {s : zS} {x : Nat} {a : Int} {L : List xT} (h : xTk s ((20, x, a) :: L)) (hl : L.length < 600000) {Q : zS → Prop} (hq : ∀ s1, xTk s1 L → zSm s s1 [] [87] → wr_pop s1  (fun r84 s85 => (0 ≤ ((x : Nat) : Int)) ∧ (((x : Nat) : Int) < 26000) ∧ wr_pop s85  (fun r94 s95 => (0 ≤ ((zv s85 96) + (za s85 31 (Int.toNat ((x : Nat) : Int))))) ∧ (((zv s85 96) + (za s85 31 (Int.toNat ((x : Nat) : Int)))) < 65536) ∧ (0 ≤ ((x : Nat) : Int)) ∧ (((x : Nat) : Int) < 26000) ∧ (0 ≤ (((zv s95 96) + (za s95 31 (Int.toNat ((x : Nat) : Int)))) + 1)) ∧ ((((zv s95 96) + (za s95 31 (Int.toNat ((x : Nat) : Int)))) + 1) < 65536) ∧ wr_todoTask (zpa (zpa s95 98 (Int.toNat ((zv s85 96) + (za s85 31 (Int.toNat ((x : Nat) : Int))))) r94) 98 (Int.toNat (((zv s95 96) + (za s95 31 (Int.toNat ((x : Nat) : Int)))) + 1)) r84) 15 ((x : Nat) : Int) 0 (fun s117 => Q s117)))) : wr_doNext s Q := by
  have h1 := hq (zpv s 87 (zv s 87 - 1)) (h.pop (zSm.rf.pv rfl) rfl) (zSm.rf.pv rfl)
  clear hq
  have e87 : zv s 87 = (L.length : Int) + 1 := by rw [h.2]; show ((L.length + 1 : Nat) : Int) = _; omega
  have et : Int.toNat (zv s 87 - 1) = L.length := by omega
  have e88 : za s 88 (Int.toNat (zv s 87 - 1)) = 20 := by rw [et]; exact h.1.1.1
  have e89 : za s 89 (Int.toNat (zv s 87 - 1)) = (x : Int) := by rw [et]; exact h.1.1.2.1
  have e90 : za s 90 (Int.toNat (zv s 87 - 1)) = a := by rw [et]; exact h.1.1.2.2
  unfold wr_doNext
  rw [e88]
  try rw [e89]
  try rw [e90]
  repeat' (first | (with_reducible exact h1) | (with_reducible apply And.intro) | omega | (intro c; exact absurd c (by decide)) | (intro c; exact absurd rfl c) | (with_reducible intro _) | fail)
theorem dn_21 {s : zS} {x : Nat} {a : Int} {L : List xT} (h : xTk s ((21, x, a) :: L)) (hl : L.length < 600000) {Q : zS → Prop} (hq : ∀ s1, xTk s1 L → zSm s s1 [] [87] → wr_choose s1 ((x : Nat) : Int) (fun s78 => Q s78)) : wr_doNext s Q := by
  have h1 := hq (zpv s 87 (zv s 87 - 1)) (h.pop (zSm.rf.pv rfl) rfl) (zSm.rf.pv rfl)
  clear hq
  have e87 : zv s 87 = (L.length : Int) + 1 := by rw [h.2]; show ((L.length + 1 : Nat) : Int) = _; omega
  have et : Int.toNat (zv s 87 - 1) = L.length := by omega
  have e88 : za s 88 (Int.toNat (zv s 87 - 1)) = 21 := by rw [et]; exact h.1.1.1
  have e89 : za s 89 (Int.toNat (zv s 87 - 1)) = (x : Int) := by rw [et]; exact h.1.1.2.1
  have e90 : za s 90 (Int.toNat (zv s 87 - 1)) = a := by rw [et]; exact h.1.1.2.2
  unfold wr_doNext
  rw [e88]
  try rw [e89]
  try rw [e90]
  repeat' (first | (with_reducible exact h1) | (with_reducible apply And.intro) | omega | (intro c; exact absurd c (by decide)) | (intro c; exact absurd rfl c) | (with_reducible intro _) | fail)
theorem dn_22 {s : zS} {x : Nat} {a : Int} {L : List xT} (h : xTk s ((22, x, a) :: L)) (hl : L.length < 600000) {Q : zS → Prop} (hq : ∀ s1, xTk s1 L → zSm s s1 [] [87] → wr_pop s1  (fun r61 s62 => ∃ n, wr_doNext_557 Q  n s62 r61)) : wr_doNext s Q := by
  have h1 := hq (zpv s 87 (zv s 87 - 1)) (h.pop (zSm.rf.pv rfl) rfl) (zSm.rf.pv rfl)
  clear hq
  have e87 : zv s 87 = (L.length : Int) + 1 := by rw [h.2]; show ((L.length + 1 : Nat) : Int) = _; omega
  have et : Int.toNat (zv s 87 - 1) = L.length := by omega
  have e88 : za s 88 (Int.toNat (zv s 87 - 1)) = 22 := by rw [et]; exact h.1.1.1
  have e89 : za s 89 (Int.toNat (zv s 87 - 1)) = (x : Int) := by rw [et]; exact h.1.1.2.1
  have e90 : za s 90 (Int.toNat (zv s 87 - 1)) = a := by rw [et]; exact h.1.1.2.2
  unfold wr_doNext
  rw [e88]
  try rw [e89]
  try rw [e90]
  repeat' (first | (with_reducible exact h1) | (with_reducible apply And.intro) | omega | (intro c; exact absurd c (by decide)) | (intro c; exact absurd rfl c) | (with_reducible intro _) | fail)
theorem dn_23 {s : zS} {x : Nat} {a : Int} {L : List xT} (h : xTk s ((23, x, a) :: L)) (hl : L.length < 600000) {Q : zS → Prop} (hq : ∀ s1, xTk s1 L → zSm s s1 [] [87] → wr_libraryCall s1 ((x : Nat) : Int) 2 a (fun s71 => Q s71)) : wr_doNext s Q := by
  have h1 := hq (zpv s 87 (zv s 87 - 1)) (h.pop (zSm.rf.pv rfl) rfl) (zSm.rf.pv rfl)
  clear hq
  have e87 : zv s 87 = (L.length : Int) + 1 := by rw [h.2]; show ((L.length + 1 : Nat) : Int) = _; omega
  have et : Int.toNat (zv s 87 - 1) = L.length := by omega
  have e88 : za s 88 (Int.toNat (zv s 87 - 1)) = 23 := by rw [et]; exact h.1.1.1
  have e89 : za s 89 (Int.toNat (zv s 87 - 1)) = (x : Int) := by rw [et]; exact h.1.1.2.1
  have e90 : za s 90 (Int.toNat (zv s 87 - 1)) = a := by rw [et]; exact h.1.1.2.2
  unfold wr_doNext
  rw [e88]
  try rw [e89]
  try rw [e90]
  repeat' (first | (with_reducible exact h1) | (with_reducible apply And.intro) | omega | (intro c; exact absurd c (by decide)) | (intro c; exact absurd rfl c) | (with_reducible intro _) | fail)
