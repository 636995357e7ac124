/-! THE RUN: WHAT IS DONE WITH VALUES -/
section RUN
variable {s4 s1 : zS} {kids : Nat → List Nat} {up sz : Nat → Nat} {root N : Nat}
/-- tasks that put nothing in their place -/
theorem xPost.no {s s' : zS} {t x : Nat} {a : Int} {L : List xT} {v' : Nat} {F : List Nat} {js ks : List Nat} (b : xBs s4 s1 s F) (f : zSm s s' js ks) (hj : ([25, 27, 28, 29, 30, 31, 32, 70, 71, 72, 85, 93, 94, 107, 108, 110, 112, 113, 116].all fun j => !js.contains j) = true) (hk : ([69, 95, 96, 97, 99, 106, 114, 117].all fun k => !ks.contains k) = true) (h101 : ks.contains 101 = false) (k : xTk s' L) (hv : zv s' 91 = (v' : Nat)) (o : xOk s4 s1 kids up sz root N L v' F) (hm : 0 < xw kids up sz t x a) : xPost s4 s1 kids up sz root N (xMu kids up sz s ((t, x, a) :: L)) s' := xPost.in (P := []) b f hj hk h101 k hv o hm
theorem xs_2 (p : xP s4 s1 kids up sz root N) {s : zS} {x : Nat} {a : Int} {L : List xT} {v : Nat} {F : List Nat} (h : xSt s4 s1 kids up sz root N s ((2, x, a) :: L) v F) : wr_doNext s (xPost s4 s1 kids up sz root N (xMu kids up sz s ((2, x, a) :: L))) := by
  obtain ⟨b, k, hv, v', F', ⟨rfl, rfl, h1, g, hB⟩, o⟩ := h.op
  obtain ⟨xN, xr, -⟩ := xI.n p g
  have hN := p.hN
  have hb := xB.le b.2.2.1
  obtain ⟨w, rfl⟩ : ∃ w, v' = w + 1 := ⟨v' - 1, by omega⟩
  refine dn_2 k (by omega) (fun s2 k2 f2 => ?_)
  have h99 : zv s2 99 ≤ 65536 := by rw [f2.v 99 rfl]; exact b.2.2.2.2.1.2
  unfold wr_bin
  refine sp_pop s2 (v := w + 1) (by rw [f2.v 91 rfl]; exact hv) (by omega) (fun r1 s3 f3 h3 => sp_pop s3 h3 (by omega) (fun r7 s5 f5 h5 => ?_))
  rw [Int.toNat_natCast]
  have F5 : zSm s s5 [] [87, 91] := ((zSm.rf.tr f2 rfl rfl : zSm s s2 [] [87, 91]).tr f3 rfl rfl).tr f5 rfl rfl
  have P : ∀ s6 r, zSm s s6 [] [87, 91] → zv s6 91 = (w : Nat) → xTk s6 L → wr_push s6 r (xPost s4 s1 kids up sz root N (xMu kids up sz s ((2, x, a) :: L))) := fun s6 r f6 h6 k6 => by
    refine sp_push s6 r h6 (by omega) (fun s7 f7 h7 => ?_)
    exact xPost.no b ((zSm.rf.tr f6 rfl rfl : zSm s s6 [92] [87, 91]).tr f7 rfl rfl) rfl rfl rfl (k6.sm f7 rfl rfl) h7 o (by show (0 : Nat) < 1; omega)
  have k5 := (k2.sm f3 rfl rfl).sm f5 rfl rfl
  have E : ∀ s6, zSm s5 s6 [] [102, 103, 104] → xEd s6 → xPost s4 s1 kids up sz root N (xMu kids up sz s ((2, x, a) :: L)) s6 := fun s6 f6 e => xPost.ed b ((zSm.rf.tr F5 rfl rfl : zSm s s5 [] [87, 91, 102, 103, 104]).tr f6 rfl rfl) e rfl rfl rfl
  have W : (za s5 29 x = 24 ∨ za s5 29 x = 73 → ¬ r1 = 0) → wr_worked s5 (za s5 29 x) r7 r1 (fun r25 s26 => wr_push s26 r25 (xPost s4 s1 kids up sz root N (xMu kids up sz s ((2, x, a) :: L)))) := fun q => sp_worked s5 _ r7 r1 q (fun r => P s5 r F5 h5 k5)
  have er : ∀ k, wr_err s5 k (xPost s4 s1 kids up sz root N (xMu kids up sz s ((2, x, a) :: L))) := fun k => sp_err s5 k (fun s6 f6 e => E s6 f6 e)
  have h99' : zv s5 99 ≤ 65536 := by rw [f5.v 99 rfl, f3.v 99 rfl]; exact h99
  have rd : ∀ (z : Int) (gg : Int → Int), wr_read s5 z (fun r s6 => wr_push s6 (gg r) (xPost s4 s1 kids up sz root N (xMu kids up sz s ((2, x, a) :: L)))) := fun z gg => by
    refine sp_read s5 z h99' (fun r => P s5 _ F5 h5 k5) (fun r s6 f6 e => ?_)
    refine sp_push s6 _ (v := w) (by rw [f6.v 91 rfl]; exact h5) (by omega) (fun s7 f7 h7 => ?_)
    refine xPost.ed b (((zSm.rf.tr F5 rfl rfl : zSm s s5 [92] [87, 91, 102, 103, 104]).tr f6 rfl rfl).tr f7 rfl rfl) ?_ rfl rfl rfl
    unfold xEd
    rw [f7.v 102 rfl]
    exact e
  refine ⟨by omega, by omega, fun c18 => ⟨fun c19 => ⟨fun c24 => ⟨fun c => W (fun _ => c), fun _ => er 3⟩, fun c24 => ⟨fun c73 => W (fun q => absurd q (by omega)), fun c73 => ⟨fun c => W (fun _ => c), fun _ => er 3⟩⟩⟩, fun c19 z97 e97 R97 => rd z97 (fun r => zan (zus r (8 * zan r1 3)) 255)⟩, fun c18 z97 e97 R97 => rd z97 (fun r => r)⟩
theorem xs_3 (p : xP s4 s1 kids up sz root N) {s : zS} {x : Nat} {a : Int} {L : List xT} {v : Nat} {F : List Nat} (h : xSt s4 s1 kids up sz root N s ((3, x, a) :: L) v F) : wr_doNext s (xPost s4 s1 kids up sz root N (xMu kids up sz s ((3, x, a) :: L))) := by
  obtain ⟨b, k, hv, v', F', ⟨rfl, rfl, h1, g, hB⟩, o⟩ := h.op
  obtain ⟨xN, xr, -⟩ := xI.n p g
  have hN := p.hN
  have hb := xB.le b.2.2.1
  obtain ⟨w, rfl⟩ : ∃ w, v' = w + 1 := ⟨v' - 1, by omega⟩
  refine dn_3 k (by omega) (fun s2 k2 f2 => ⟨by omega, by omega, ?_⟩)
  refine sp_pop s2 (v := w) (by rw [f2.v 91 rfl]; exact hv) (by omega) (fun r1 s3 f3 h3 => sp_signed s3 _ _ (fun r => sp_push s3 r h3 (by omega) (fun s5 f5 h5 => ?_)))
  exact xPost.no b (((zSm.rf.tr f2 rfl rfl : zSm s s2 [92] [87, 91]).tr f3 rfl rfl).tr f5 rfl rfl) rfl rfl rfl ((k2.sm f3 rfl rfl).sm f5 rfl rfl) h5 o (by show (0 : Nat) < 1; omega)
theorem xs_4 {s : zS} {x : Nat} {a : Int} {L : List xT} {v : Nat} {F : List Nat} (h : xSt s4 s1 kids up sz root N s ((4, x, a) :: L) v F) : wr_doNext s (xPost s4 s1 kids up sz root N (xMu kids up sz s ((4, x, a) :: L))) := by
  obtain ⟨b, k, hv, v', F', ⟨rfl, rfl, h1, hB⟩, o⟩ := h.op
  have hb := xB.le b.2.2.1
  obtain ⟨w, rfl⟩ : ∃ w, v' = w + 1 := ⟨v' - 1, by omega⟩
  refine dn_4 k (by omega) (fun s2 k2 f2 => ?_)
  refine sp_pop s2 (v := w) (by rw [f2.v 91 rfl]; exact hv) (by omega) (fun r1 s3 f3 h3 => ?_)
  have F3 : zSm s s3 [] [87, 91] := (zSm.rf.tr f2 rfl rfl : zSm s s2 [] [87, 91]).tr f3 rfl rfl
  refine sp_read s3 _ (by rw [F3.v 99 rfl]; exact b.2.2.2.2.1.2) (fun r => sp_push s3 r h3 (by omega) (fun s5 f5 h5 => ?_)) (fun r s4' f4 e => sp_push s4' r (v := w) (by rw [f4.v 91 rfl]; exact h3) (by omega) (fun s5 f5 h5 => ?_))
  · exact xPost.no b ((zSm.rf.tr F3 rfl rfl : zSm s s3 [92] [87, 91]).tr f5 rfl rfl) rfl rfl rfl ((k2.sm f3 rfl rfl).sm f5 rfl rfl) h5 o (by show (0 : Nat) < 1; omega)
  · refine xPost.ed b (((zSm.rf.tr F3 rfl rfl : zSm s s3 [92] [87, 91, 102, 103, 104]).tr f4 rfl rfl).tr f5 rfl rfl) ?_ rfl rfl rfl
    unfold xEd
    rw [f5.v 102 rfl]
    exact e
theorem xs_9 {s : zS} {x : Nat} {a : Int} {L : List xT} {v : Nat} {F : List Nat} (h : xSt s4 s1 kids up sz root N s ((9, x, a) :: L) v F) : wr_doNext s (xPost s4 s1 kids up sz root N (xMu kids up sz s ((9, x, a) :: L))) := by
  obtain ⟨b, k, hv, v', F', ⟨rfl, rfl, h1, hB⟩, o⟩ := h.op
  have hb := xB.le b.2.2.1
  obtain ⟨w, rfl⟩ : ∃ w, v' = w + 1 := ⟨v' - 1, by omega⟩
  refine dn_9 k (by omega) (fun s2 k2 f2 => ?_)
  refine sp_pop s2 (v := w + 1) (by rw [f2.v 91 rfl]; exact hv) (by omega) (fun r1 s3 f3 h3 => sp_pop s3 h3 (by omega) (fun r7 s5 f5 h5 z _ _ => sp_push s5 z h5 (by omega) (fun s6 f6 h6 => ?_)))
  exact xPost.no b ((((zSm.rf.tr f2 rfl rfl : zSm s s2 [92] [87, 91]).tr f3 rfl rfl).tr f5 rfl rfl).tr f6 rfl rfl) rfl rfl rfl (((k2.sm f3 rfl rfl).sm f5 rfl rfl).sm f6 rfl rfl) h6 o (by show (0 : Nat) < 1; omega)
theorem xs_8 {s : zS} {x : Nat} {a : Int} {L : List xT} {v : Nat} {F : List Nat} (h : xSt s4 s1 kids up sz root N s ((8, x, a) :: L) v F) : wr_doNext s (xPost s4 s1 kids up sz root N (xMu kids up sz s ((8, x, a) :: L))) := by
  obtain ⟨b, k, hv, v', F', ⟨rfl, rfl, ha, hB⟩, o⟩ := h.op
  have hb := xB.le b.2.2.1
  refine dn_8 k (by omega) (fun s2 k2 f2 => ?_)
  refine sp_push s2 0 (v := v) (by rw [f2.v 91 rfl]; exact hv) (by omega) (fun s5 f5 h5 => ?_)
  exact xPost.no b ((zSm.rf.tr f2 rfl rfl : zSm s s2 [92] [87, 91]).tr f5 rfl rfl) rfl rfl rfl (k2.sm f5 rfl rfl) h5 o (by show (0 : Nat) < 1; omega)
theorem xs_13 {s : zS} {x : Nat} {a : Int} {L : List xT} {v : Nat} {F : List Nat} (h : xSt s4 s1 kids up sz root N s ((13, x, a) :: L) v F) : wr_doNext s (xPost s4 s1 kids up sz root N (xMu kids up sz s ((13, x, a) :: L))) := by
  obtain ⟨b, k, hv, v', F', ⟨rfl, rfl, hB⟩, o⟩ := h.op
  have hb := xB.le b.2.2.1
  refine dn_13 k (by omega) (fun s2 k2 f2 => ?_)
  refine sp_pop s2 (v := v') (by rw [f2.v 91 rfl]; exact hv) (by omega) (fun r1 s3 f3 h3 => ?_)
  exact xPost.no b ((zSm.rf.tr f2 rfl rfl : zSm s s2 [] [87, 91]).tr f3 rfl rfl) rfl rfl rfl (k2.sm f3 rfl rfl) h3 o (by show (0 : Nat) < 1; omega)
end RUN
