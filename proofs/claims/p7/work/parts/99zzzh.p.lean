/-! THE RUN: STORES -/
section RUN
variable {s4 s1 : zS} {kids : Nat → List Nat} {up sz : Nat → Nat} {root N : Nat}
theorem xs_12 (p : xP s4 s1 kids up sz root N) {s : zS} {x : Nat} {a : Int} {L : List xT} {v : Nat} {F : List Nat} (h : xSt s4 s1 kids up sz root N s ((12, x, a) :: L) v F) : wr_doNext s (xPost s4 s1 kids up sz root N (xMu kids up sz s ((12, x, a) :: L))) := by
  obtain ⟨b, k, hv, w, F', ⟨rfl, ⟨m, i, hm, gm, hi, hx⟩, hkv, hB⟩, o⟩ := h.op
  obtain ⟨mN, mr, r, F1, eF, hr, fa, -, -⟩ := xI.n p gm
  have hN := p.hN
  have hb := xB.le b.2.2.1
  obtain ⟨M, q1, q2, q3, -⟩ := p.hA m mN hm
  have hil : i < (kids m).length := by omega
  have mx : x ∈ kids m := by rw [← hx]; exact gt_m hil
  have g : xI s4 s1 kids F' x := gm.kid (by rw [kr_eq (by rw [hm]; rfl)]; exact mx)
  have xN := (xI.n p g).1
  refine dn_12 k (by omega) (fun s2 k2 f2 => ?_)
  have b2 := b.sm f2 rfl rfl rfl
  have h99 : ∀ s3, zSm s2 s3 [] [91] → zv s3 99 ≤ 65536 := fun s3 f => by rw [f.v 99 rfl, f2.v 99 rfl]; exact b.2.2.2.2.1.2
  have D : ∀ s3 s', zSm s2 s3 [] [91] → zv s3 91 = (w : Nat) → zSm s3 s' [98] [] → xPost s4 s1 kids up sz root N (xMu kids up sz s ((12, x, a) :: L)) s' := fun s3 s' f3 h3 f' => by
    refine xPost.no b (((zSm.rf.tr f2 rfl rfl : zSm s s2 [98] [87, 91]).tr f3 rfl rfl).tr f' rfl rfl) rfl rfl rfl ((k2.sm f3 rfl rfl).sm f' rfl rfl) (by rw [f'.v 91 rfl]; exact h3) o (by show (0 : Nat) < 1; omega)
  have E : ∀ s3 s', zSm s2 s3 [] [91] → zSm s3 s' [98] [102, 103, 104] → xEd s' → xPost s4 s1 kids up sz root N (xMu kids up sz s ((12, x, a) :: L)) s' := fun s3 s' f3 f' e => xPost.ed b2 ((zSm.rf.tr f3 rfl rfl : zSm s2 s3 [98] [91, 102, 103, 104]).tr f' rfl rfl) e rfl rfl rfl
  have Wr : ∀ s3 z y, zSm s2 s3 [] [91] → zv s3 91 = (w : Nat) → wr_write s3 z y (xPost s4 s1 kids up sz root N (xMu kids up sz s ((12, x, a) :: L))) := fun s3 z y f3 h3 => sp_write s3 z y (h99 s3 f3) (fun s' f' => D s3 s' f3 h3 f') (fun s' f' e => E s3 s' f3 (zSm.rf.tr f' rfl rfl) e)
  unfold wr_stores
  rw [Int.toNat_natCast, b2.1.k x]
  have hv2 : zv s2 91 = (v : Nat) := by rw [f2.v 91 rfl]; exact hv
  refine ⟨by omega, by omega, fun c1 => ⟨by omega, by omega, fun c7 => ?_, fun c7 => ?_⟩, fun c1 => ?_⟩
  · have ev : v = w + 3 := by omega
    refine sp_pop s2 (v := w + 2) (by rw [hv2, ev]) (by omega) (fun r1 s3 f3 h3 => sp_pop s3 (v := w + 1) h3 (by omega) (fun r2 s5 f5 h5 => sp_pop s5 (v := w) h5 (by omega) (fun r3 s6 f6 h6 => ⟨by omega, by omega, fun _ z _ _ => ?_, fun _ z _ _ => ?_⟩)))
    · have F6 : zSm s2 s6 [] [91] := (f3.tr f5 rfl rfl).tr f6 rfl rfl
      refine sp_read s6 z (h99 s6 F6) (fun r4 => Wr s6 z _ F6 h6) (fun r4 s7 f7 e => ?_)
      refine sp_write s7 z _ (by rw [f7.v 99 rfl]; exact h99 s6 F6) (fun s8 f8 => E s6 s8 F6 ((zSm.rf.tr f7 rfl rfl : zSm s6 s7 [98] [102, 103, 104]).tr f8 rfl rfl) (by unfold xEd; rw [f8.v 102 rfl]; exact e)) (fun s8 f8 e8 => E s6 s8 F6 ((zSm.rf.tr f7 rfl rfl : zSm s6 s7 [98] [102, 103, 104]).tr f8 rfl rfl) e8)
    · exact Wr s6 z _ ((f3.tr f5 rfl rfl).tr f6 rfl rfl) h6
  · have ev : v = w + 2 := by omega
    exact sp_pop s2 (v := w + 1) (by rw [hv2, ev]) (by omega) (fun r1 s3 f3 h3 => sp_pop s3 (v := w) h3 (by omega) (fun r2 s5 f5 h5 => Wr s5 _ _ (f3.tr f5 rfl rfl) h5))
  · have ev : v = w + 1 := by omega
    have fx := fa.2.2.2.1 hm i (by rw [q1]; rw [q1] at hi; exact hi) hil
    rw [hx] at fx
    refine sp_wordOf p b2 g c1 (fun r1 h1 h2 => sp_pop s2 (v := w) (by rw [hv2, ev]) (by omega) (fun r2 s3 f3 h3 => ⟨h2 (by omega), h1, D s3 _ f3 h3 (zSm.rf.pa rfl)⟩))
end RUN
