/-! THE RUN: CALLS -/
section RUN
variable {s4 s1 : zS} {kids : Nat → List Nat} {up sz : Nat → Nat} {root N : Nat}
theorem sp_arg {s : zS} {w many : Nat} (hv : zv s 91 = ((w + many : Nat) : Int)) (hb : w + many ≤ 290000) (j : Int) (hj : 0 ≤ j) {Q : Int → zS → Prop} (hq : ∀ r, zR r → Q r s) : wr_arg s j (many : Nat) Q := by
  unfold wr_arg
  rw [hv]
  exact ⟨fun _ => hq 0 ⟨by decide, by decide⟩, fun c => ⟨by omega, by omega, fun z => hq _ z⟩⟩
theorem sp_toVector (p : xP s4 s1 kids up sz root N) {s : zS} {L : List xT} {F : List Nat} {m w : Nat} (b : xBs s4 s1 s F) (k : xTk s L) (hv : zv s 91 = (w : Nat)) {at0 x1 x2 : Int} (hz1 : zR x1) (h0 : 0 ≤ at0) (h1 : at0 ≤ 200000) (o : xOk s4 s1 kids up sz root N L (w + 1) F) (hB : w + 1 + L.length ≤ xB F) (hm : (zv s 101).toNat * 100000000000000 + xW kids up sz L + (65538 - at0.toNat) ≤ m) : wr_toVector s x1 x2 at0 (xPost s4 s1 kids up sz root N m) := by
  have hb := xB.le b.2.2.1
  have hr2 := p.r0
  obtain ⟨z0, z1⟩ := hz1
  have g99 := b.2.2.2.2.1
  have er : ∀ t k, zSm s t [92] [91] → wr_err t k (xPost s4 s1 kids up sz root N m) := fun t k f => sp_err t k (fun t2 f2 e => xPost.ed b ((zSm.rf.tr f rfl rfl : zSm s t [92] [91, 102, 103, 104]).tr f2 rfl rfl) e rfl rfl rfl)
  have er0 : ∀ k, wr_err s k (xPost s4 s1 kids up sz root N m) := fun k => er s k zSm.rf
  have T : ∀ x4 : Int, (x4 = 0 ∧ 1000000 ≤ x1 ∧ x1 < 1000000 + zv s 69 ∨ x4 = 1 ∧ 2000000 ≤ x1 ∧ x1 < 2000018) → wr_toVector_51 (xPost s4 s1 kids up sz root N m) s x1 x2 at0 x4 := fun x4 hx => by
    unfold wr_toVector_51
    refine ⟨fun _ => er0 2, fun c0 => ⟨fun c1 => ?_, fun _ => er0 2⟩⟩
    refine sp_push s at0 hv (by omega) (fun s2 f2 e2 => sp_push s2 x2 e2 (by omega) (fun s3 f3 e3 => ?_))
    have F3 : zSm s s3 [92] [91] := f2.tr f3 rfl rfl
    have b3 := b.sm F3 rfl rfl rfl
    have k3 := k.sm F3 rfl rfl
    refine ⟨fun c => ?_, fun c => ?_⟩
    · rcases hx with q | ⟨q, q1, q2⟩
      · exact absurd q.1 c
      refine b3.2.2.2.2.lim (fun lim l0 l1 => ⟨⟨by omega, by omega⟩, fun cl => ⟨⟨by omega, by omega⟩, ?_⟩, fun _ => er s3 5 F3⟩)
      refine sp_todo k3 (by omega) 23 (x1 - 2000000).toNat _ rfl (by omega) (fun s5 k5 f5 => ?_)
      have en23 : xEn s4 s1 kids up sz root N 23 (x1 - 2000000).toNat (at0 + x2 + 1) L (w + 1 + 1) F (w + 1) F := ⟨rfl, rfl, by omega, by omega, by omega, by omega, hB⟩
      refine xPost.st (b3.sm f5 rfl rfl rfl) k5 (by rw [f5.v 91 rfl]; exact e3) ⟨w + 1, F, en23, o⟩ ?_
      unfold xMu
      rw [f5.v 101 rfl, F3.v 101 rfl, xW.c]
      show _ + ((65538 - (at0 + x2 + 1).toNat) + _) < _
      omega
    · rcases hx with ⟨q, q1, q2⟩ | q
      · refine ⟨⟨by omega, by omega⟩, ⟨by omega, by omega⟩, ?_⟩
        have h69 := b.1.2.2
        rw [show x1 - 1000000 = (((x1 - 1000000).toNat : Nat) : Int) by omega]
        have hE := sp_enter (m := m) p b3 k3 (r := (x1 - 1000000).toNat) (w := w) (many := 2) e3 (by omega) (by omega) (at0 := at0 + x2 + 1) (by omega) (by omega) o (by omega) (by rw [F3.v 101 rfl]; exact Nat.le_trans (Nat.le_add_right _ _) hm)
        have e2 : ((2 : Nat) : Int) = 2 := rfl
        rw [e2] at hE
        exact hE
      · have := q.1
        omega
  have R : ¬ x1 < 1000000 → (¬ (2000000 ≤ x1 ∧ x1 < 2000018)) → (zR (1000000 + zv s 69)) ∧ ((x1 < 1000000 + zv s 69 → wr_toVector_51 (xPost s4 s1 kids up sz root N m) s x1 x2 at0 0) ∧ (¬ x1 < 1000000 + zv s 69 → wr_err s 4 (xPost s4 s1 kids up sz root N m))) := fun c1 c2 => by
    have h69 := b.1.2.2
    exact ⟨⟨by omega, by omega⟩, fun c3 => T 0 (Or.inl ⟨rfl, by omega, c3⟩), fun _ => er0 4⟩
  unfold wr_toVector
  exact ⟨fun c => ⟨fun _ => er0 4, fun c1 => R c1 (by omega)⟩, fun c => ⟨fun c2 => ⟨fun _ => er0 4, fun c1 => R c1 (by omega)⟩, fun c2 => T 1 (Or.inr ⟨rfl, by omega, by omega⟩)⟩⟩
theorem sp_lib_call (p : xP s4 s1 kids up sz root N) {s : zS} {L : List xT} {F : List Nat} {m w many : Nat} (b : xBs s4 s1 s F) {r : Nat} {F1 : List Nat} (eF : F = r :: F1) (hrr : (r : Int) < zv s1 69) (k : xTk s L) (hv : zv s 91 = ((w + many : Nat) : Int)) (hvb : w + many ≤ 290000) {at0 : Int} (a0 : Int) (h0 : 0 ≤ at0) (h1 : at0 ≤ 200000) (o : xOk s4 s1 kids up sz root N L (w + 1) F) (hB : w + 1 + L.length ≤ xB F) (hm : (zv s 101).toNat * 100000000000000 + xW kids up sz L + (65538 - at0.toNat) ≤ m) (hm2 : (zv s 101).toNat * 100000000000000 + xW kids up sz L < m) : wr_libraryCall s a0 many at0 (xPost s4 s1 kids up sz root N m) := by
  have hb := xB.le b.2.2.1
  have hr2 := p.r0
  have h70 : 0 ≤ za s1 70 r := by
    obtain ⟨y, y1, y2, y3, y4, y5, y6, y7, y8, y9, y10, y11, y12⟩ := p.rt hrr
    omega
  unfold wr_libraryCall
  refine sp_arg hv hvb 0 (by omega) (fun r1 z1 => sp_arg hv hvb 1 (by omega) (fun r7 z7 => sp_arg hv hvb 2 (by omega) (fun r13 z13 => ⟨⟨by omega, by omega⟩, ?_⟩)))
  have f2 : zSm s (zpv s 91 (zv s 91 - (many : Nat))) [] [91] := zSm.rf.pv rfl
  have e91 : zv (zpv s 91 (zv s 91 - (many : Nat))) 91 = (w : Nat) := by
    show zv s 91 - (many : Nat) = (w : Nat)
    omega
  have e114 : zv s 114 = zv (zpv s 91 (zv s 91 - (many : Nat))) 114 := rfl
  have e113 : ∀ j, za s 113 j = za (zpv s 91 (zv s 91 - (many : Nat))) 113 j := fun j => rfl
  rw [e114]
  simp only [e113]
  generalize zpv s 91 (zv s 91 - (many : Nat)) = t at f2 e91 e114 e113
  have bt := b.sm f2 rfl rfl rfl
  have kt := k.sm f2 rfl rfl
  have io : xIO t := bt.2.2.2.2
  have hm' : (zv t 101).toNat * 100000000000000 + xW kids up sz L < m := by rw [f2.v 101 rfl]; exact hm2
  -- the value is told
  have P : ∀ (y : Int) (t2 : zS), zSm t t2 [107, 108, 113, 115, 116, 118] [102, 103, 104, 106, 114, 117] → xIO t2 → wr_libraryCall_511 (xPost s4 s1 kids up sz root N m) t2 y := fun y t2 f io2 => by
    unfold wr_libraryCall_511
    refine sp_push t2 y (v := w) (by rw [f.v 91 rfl]; exact e91) (by omega) (fun t3 f3 e3 => ?_)
    have b2 := bt.ch f rfl rfl io2
    refine xPost.st (b2.sm f3 rfl rfl rfl) ((kt.sm f rfl rfl).sm f3 rfl rfl) e3 o ?_
    unfold xMu
    rw [f3.v 101 rfl, f.v 101 rfl]
    exact hm'
  have P0 : ∀ y, wr_libraryCall_511 (xPost s4 s1 kids up sz root N m) t y := fun y => P y t zSm.rf io
  have W : ∀ (y : Int) (t2 : zS), zSm t t2 [115, 116] [] → xIO t2 → wr_libraryCall_511 (xPost s4 s1 kids up sz root N m) t2 y := fun y t2 f io2 => P y t2 (zSm.rf.tr f rfl rfl) io2
  have D : ∀ x2, x2 ≤ 100 → wr_decimal t r1 x2 (fun s' => wr_libraryCall_511 (xPost s4 s1 kids up sz root N m) s' 0) := fun x2 hx => sp_decimal io z1 hx (fun s' f' h' => P 0 s' (zSm.rf.tr f' rfl rfl) h')
  have H : ∀ x : Int, 0 ≤ x → x ≤ 7 → ∃ n, wr_libraryCall_134 (xPost s4 s1 kids up sz root N m) n t r1 0 x := fun x hx hx2 => ⟨20, sp_l134 20 t x io (by omega) (by omega) (by omega) (fun s' f' h' => W 0 s' f' h')⟩
  obtain ⟨k2, e2, hk2, g1, g2, g3, g4, g5⟩ := io.k114
  have SI : ∀ y : Int, 0 ≤ y → y ≤ 3 → wr_libraryCall_511 (xPost s4 s1 kids up sz root N m) (zpv t 114 y) (-1) := fun y y0 y1 => P _ _ (zSm.rf.pv rfl) ⟨io.1, io.2.1, ⟨y0, y1⟩, io.2.2.2.1, io.2.2.2.2.1, io.2.2.2.2.2.1, io.2.2.2.2.2.2⟩
  have SO : ∀ y : Int, (y = 0 ∨ y = 1) → wr_libraryCall_511 (xPost s4 s1 kids up sz root N m) (zpv t 117 y) (-1) := fun y hy => P _ _ (zSm.rf.pv rfl) ⟨io.1, io.2.1, io.2.2.1, hy, io.2.2.2.2.1, io.2.2.2.2.2.1, io.2.2.2.2.2.2⟩
  rw [e2, Int.toNat_natCast]
  obtain ⟨q1, q2⟩ := z7
  refine ⟨fun n0 => ⟨fun n15 => ⟨fun n16 => ⟨fun n1 => ⟨fun n2 => ⟨fun n3 => ⟨fun n4 => ⟨fun n5 => ⟨fun n6 => ⟨fun n7 => ⟨fun n8 => ⟨fun n9 => ⟨fun n10 => ⟨fun n11 => ⟨fun n12 => ⟨fun n14 => ⟨fun n17 => ?_, fun _ => sp_readNumber io (fun r s' f' h' => P r s' (zSm.rf.tr f' rfl rfl) h')⟩, fun _ => ⟨fun c => ⟨c, fun z _ _ => P0 z⟩, fun _ => sp_err t 3 (fun s' f' _ => P 0 s' (zSm.rf.tr f' rfl rfl) (io.sm f' rfl rfl))⟩⟩, fun _ => sp_freeVector io r1 (fun s' f' h' => P 0 s' (zSm.rf.tr f' rfl rfl) h')⟩, fun _ => sp_getVector bt eF hr2.2 h70 z1 (fun r s' f' h' => P r s' (zSm.rf.tr f' rfl rfl) h')⟩, fun _ => ⟨by omega, by omega, P _ _ (zSm.rf.pa rfl) (io.set hk2 (by omega) (by omega))⟩⟩, fun _ => ⟨fun c => SO _ (Or.inl c), fun _ => ⟨fun _ => P0 _, fun c => SO _ (Or.inr c)⟩⟩⟩, fun _ => ⟨fun _ => P0 _, fun c => ⟨fun _ => P0 _, fun c3 => SI _ (by omega) (by omega)⟩⟩⟩, fun _ => ⟨by omega, by omega, fun _ => P0 _, fun c => ⟨by omega, by omega, by omega, by omega, ⟨by omega, by omega⟩, P _ _ (zSm.rf.pa rfl) (io.set hk2 (by omega) (by omega))⟩⟩⟩, fun _ => ⟨fun _ => P0 _, fun _ z _ _ => P0 z⟩⟩, fun _ => P _ _ (((zSm.rf.pv rfl).pv rfl).pv rfl) (io.sm (((zSm.rf.pv rfl).pv rfl).pv rfl : zSm t _ [] [102, 103, 104]) rfl rfl)⟩, fun _ => sp_nextByte io (fun r s' f' h' => P r s' (zSm.rf.tr f' rfl rfl) h')⟩, fun _ => sp_outByte io _ (W 0)⟩, fun _ => sp_outByte io _ (W 0)⟩, fun _ => sp_writeString io _ (fun s' f' h' => P 0 s' (zSm.rf.tr f' rfl rfl) h')⟩, fun _ => ⟨fun c1 => ⟨fun c8 => ⟨⟨by omega, by omega⟩, H _ (by omega) (by omega)⟩, fun _ => ⟨⟨by decide, by decide⟩, H _ (by decide) (by decide)⟩⟩, fun _ => ⟨⟨by decide, by decide⟩, H _ (by decide) (by decide)⟩⟩⟩, fun _ => ⟨fun c => D _ c, fun _ => D 100 (by omega)⟩⟩, fun _ => D 0 (by omega)⟩
  exact sp_toVector p bt kt e91 z1 h0 h1 o hB (by rw [f2.v 101 rfl]; exact hm)
theorem xs_7 (p : xP s4 s1 kids up sz root N) {s : zS} {x : Nat} {a : Int} {L : List xT} {v : Nat} {F : List Nat} (h : xSt s4 s1 kids up sz root N s ((7, x, a) :: L) v F) : wr_doNext s (xPost s4 s1 kids up sz root N (xMu kids up sz s ((7, x, a) :: L))) := by
  obtain ⟨b, k, hv, v', F', ⟨rfl, hv', g, hk, hB, hn, ha⟩, o⟩ := h.op
  obtain ⟨xN, xr, r, F1, eF, hr, fa, h32, -⟩ := xI.n p g
  have hN := p.hN
  have hb := xB.le b.2.2.1
  have zx := p.h.ss x xN
  have ln := p.len xN
  have zN := p.h.szr xr
  have hr2 := p.r0
  obtain ⟨w, rfl⟩ : ∃ w, v' = w + 1 := ⟨v' - 1, by omega⟩
  have h1k : 1 ≤ (kids x).length := by
    cases e : kids x with
    | nil => exact absurd (by rw [e]; rfl) ((p.h.sh x xN).ca hk).1
    | cons c l => exact Nat.le_add_left 1 _
  obtain ⟨many, rfl⟩ : ∃ n : Nat, a = n := ⟨a.toNat, by omega⟩
  refine dn_7 k (by omega) (fun s2 k2 f2 => ?_)
  have b2 := b.sm f2 rfl rfl rfl
  have f6 := fa.2.1 hk
  unfold wr_call
  refine sp_pop s2 (v := w + many) (by rw [f2.v 91 rfl, hv]; omega) (by omega) (fun r1 s3 f3 h3 => ?_)
  have b3 := b2.sm f3 rfl rfl rfl
  have k3 := k2.sm f3 rfl rfl
  have F3 : zSm s s3 [] [87, 91] := (zSm.rf.tr f2 rfl rfl : zSm s s2 [] [87, 91]).tr f3 rfl rfl
  have c4 := b3.2.2.2.1
  have eF2 := eF
  rw [eF] at c4
  obtain ⟨d1, d2, d3, d4, -⟩ := c4
  have h70 : 0 ≤ za s1 70 r := by
    obtain ⟨y, y1, y2, y3, y4, y5, y6, y7, y8, y9, y10, y11, y12⟩ := p.rt hr
    omega
  rw [Int.toNat_natCast, b3.1.2.1 30 (by decide) x]
  have h69 := b3.1.2.2
  have hmm : (zv s3 101).toNat * 100000000000000 + xW kids up sz L + 65540 ≤ xMu kids up sz s ((7, x, ((many : Nat) : Int)) :: L) := by
    unfold xMu
    rw [xW.c, F3.v 101 rfl]
    show _ ≤ _ + (65540 + _)
    omega
  have C : wr_call_47 (xPost s4 s1 kids up sz root N (xMu kids up sz s ((7, x, ((many : Nat) : Int)) :: L))) s3 many r1 (zv s3 96 + za s1 30 x) := by
    have er : ∀ t, zSm s3 t [] [102, 103, 104] → xEd t → xPost s4 s1 kids up sz root N (xMu kids up sz s ((7, x, ((many : Nat) : Int)) :: L)) t := fun t f e => xPost.ed b3 f e rfl rfl rfl
    unfold wr_call_47
    refine ⟨fun _ => sp_err s3 4 er, fun c1 => ⟨⟨by omega, by omega⟩, fun _ => sp_err s3 4 er, fun c2 => ⟨⟨by omega, by omega⟩, ?_⟩⟩⟩
    rw [show r1 - 1000000 = (((r1 - 1000000).toNat : Nat) : Int) by omega]
    exact sp_enter p b3 k3 (r := (r1 - 1000000).toNat) (w := w) (many := many) h3 (by omega) (by omega) (by omega) (by omega) o (by omega) (Nat.le_trans (Nat.le_add_right _ _) hmm)
  refine ⟨by omega, by omega, fun _ => ⟨⟨by omega, by omega⟩, C⟩, fun c2 => ⟨fun _ => ⟨⟨by omega, by omega⟩, C⟩, fun c3 => ⟨⟨by omega, by omega⟩, ⟨by omega, by omega⟩, ?_⟩⟩⟩
  exact sp_lib_call p b3 eF2 hr k3 h3 (by omega) _ (by omega) (by omega) o (by omega) (Nat.le_trans (Nat.add_le_add_left (by omega) _) hmm) (Nat.lt_of_lt_of_le (Nat.lt_add_of_pos_right (by decide)) hmm)
theorem xs_23 (p : xP s4 s1 kids up sz root N) {s : zS} {x : Nat} {a : Int} {L : List xT} {v : Nat} {F : List Nat} (h : xSt s4 s1 kids up sz root N s ((23, x, a) :: L) v F) : wr_doNext s (xPost s4 s1 kids up sz root N (xMu kids up sz s ((23, x, a) :: L))) := by
  obtain ⟨b, k, hv, v', F', ⟨rfl, hvv, hv', h17, a0, a1, hB⟩, o⟩ := h.op
  have hb := xB.le b.2.2.1
  obtain ⟨w, rfl⟩ : ∃ w, v' = w + 1 := ⟨v' - 1, by omega⟩
  refine dn_23 k (by omega) (fun s2 k2 f2 => ?_)
  have b2 := b.sm f2 rfl rfl rfl
  have hmm : (zv s2 101).toNat * 100000000000000 + xW kids up sz L + (65538 - a.toNat) ≤ xMu kids up sz s ((23, x, a) :: L) := by
    unfold xMu
    rw [xW.c, f2.v 101 rfl]
    show _ ≤ _ + ((65538 - a.toNat) + _)
    omega
  obtain ⟨r, F1, eF⟩ : ∃ r F1, F' = r :: F1 := by
    cases hF : F' with
    | nil =>
      rw [hF] at hB
      have : xB [] = 0 := rfl
      omega
    | cons r F1 => exact ⟨r, F1, rfl⟩
  have c4 := b.2.2.2.1
  rw [eF] at c4
  have hE := sp_lib_call (m := xMu kids up sz s ((23, x, a) :: L)) p b2 eF c4.2.2.2.1 k2 (w := w) (many := 2) (by rw [f2.v 91 rfl, hv]; omega) (by omega) (at0 := a) (x : Nat) a0 (by omega) o (by omega) hmm (by omega)
  have e2 : ((2 : Nat) : Int) = 2 := rfl
  rw [e2] at hE
  exact hE
end RUN
