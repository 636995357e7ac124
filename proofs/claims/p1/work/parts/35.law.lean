section GL
variable {own : String} {cc : ByteArray} {nL : Nat} {rt : Option FieldType} {nm : String} {R : Room} {d : gD} {b : Nat} {X : gX} {Q : State → Prop} {F : gM} {k n pc : Nat} {lv : List (Option Value)} {st : List Value}
theorem g_sld (hC : gC own cc nL rt nm R d b X) {b0 L : Nat} {xs : Nat → Int32} (hX : va_X b0 L xs X.st X.st.heap) (hb : b0 < X.st.heap.size) (hb2 : b0 < b) {i : Int32} (hin : vp_in i L) (hdg : decode cc pc = .ok (.iaload, 1)) (kk : gG X d b Q F k n (pc + 1) lv (.int (xs i.toNatClampNeg) :: st)) : gG X d b Q F k n pc lv (.int i :: .ref b0 :: st) := fun H locs ls hH hS hL =>
  va_sld hC.hx hC.hb hX hb (Nat.not_le.mpr hb2) hS hin hdg (kk H locs ls hH hS hL)
theorem g_scl (hC : gC own cc nL rt nm R d b X) {b0 L : Nat} {xs : Nat → Int32} (hX : va_X b0 L xs X.st X.st.heap) (hb : b0 < X.st.heap.size) (hb2 : b0 < b) (hdg : decode cc pc = .ok (.arraylength, 1)) (kk : gG X d b Q F k n (pc + 1) lv (.int (nI L) :: st)) : gG X d b Q F k n pc lv (.ref b0 :: st) := fun H locs ls hH hS hL =>
  va_slen hC.hx hC.hb hX hb (Nat.not_le.mpr hb2) hS hdg (kk H locs ls hH hS hL)
end GL
theorem gFit_law {lvl mL k n mc ms : Nat} (h1 : lvl ≤ 100) (h2 : mL ≤ 40) (h3 : k + mc ≤ 600002) (h4 : n + ms ≤ 7302232) : gFit room_1 lvl mL k n mc ms := ⟨⟨by show lvl + 1 ≤ 2048; omega, by show 8 + (mL + 11) + 64 * lvl ≤ 84000; omega⟩, h3, h4⟩
theorem gL6 : ∀ L, L < 7 → ¬ ((0 : Int32) > nI L - 6) → L = 6 := by decide
theorem gop (x : Int32) : ∃ N : Nat, N < 16 ∧ x &&& 15 = nI N := by
  obtain ⟨v⟩ := x
  obtain ⟨v⟩ := v
  refine ⟨(v &&& 15#32).toNat, ?_, ?_⟩
  · rw [BitVec.toNat_and]
    exact Nat.lt_of_le_of_lt Nat.and_le_right (by decide)
  · apply Int32.toBitVec_inj.mp
    show v &&& 15#32 = BitVec.ofNat 32 _
    rw [BitVec.ofNat_toNat]
    simp
/-- the reference made behind the class, and a row of longs: the class's state stays, and theirs is named -/
theorem gLaw0 {d : gD} {Y : gYt} {F2 F3 F4 F5 : gM} {S : gSt} {r z : Nat} {e1 e2 : va_E} {ws : List Nat} (hW : gWT d Y F2 S) (hr : F2 r = g0) (h3 : F3 = va_up F2 r e1) (he1 : e1 ≠ g0) (hex : gEx r F3 F4) (hws : ∀ w ∈ ws, F3 w = g0 ∧ F4 w ≠ g0) (hz : F4 z = g0) (h5 : F5 = va_up F4 z e2) (he2 : e2 ≠ g0) :
    gWT d (Y.1, Y.2.1, Y.2.2.1, fun x => x = r ∨ x ∈ ws ∨ x = z) F5 S ∧ (∀ x, F4 x ≠ g0 → F5 x = F4 x) := by
  have k3 : ∀ x, F2 x ≠ g0 → F3 x = F2 x := fun x hx => by rw [h3, va_up_ne _ _ (fun q => hx (by rw [q]; exact hr))]
  have k5 : ∀ x, F4 x ≠ g0 → F5 x = F4 x := fun x hx => by rw [h5, va_up_ne _ _ (fun q => hx (by rw [q]; exact hz))]
  have r3 : F3 r ≠ g0 := by rw [h3, va_up_self]; exact he1
  have r4 := (hex r r3).1
  have fresh : ∀ x, (x = r ∨ x ∈ ws ∨ x = z) → F2 x = g0 := fun x hx => by
    rcases hx with rfl | hx | rfl
    · exact hr
    · exact Classical.byContradiction fun q => q (by rw [← k3 x q]; exact (hws x hx).1)
    · exact Classical.byContradiction fun q => (hex x (by rw [k3 x q]; exact q)).1 hz
  have told : ∀ x, gCl Y S x → F2 x ≠ g0 := fun x hx => hW.told hx
  refine ⟨hW.kept (fun x hx => ?_) _ (fun x hx => ⟨?_, fun i hi e => ?_, fun j hj e => ?_, fun j hj e => ?_⟩), k5⟩
  · have t := told x hx
    have e3 := k3 x t
    have t3 : F3 x ≠ g0 := by rw [e3]; exact t
    have e4 := (hex x t3).2 (fun q => t (by rw [q]; exact hr))
    exact (k5 x (hex x t3).1).trans (e4.trans e3)
  · rcases hx with rfl | hx | rfl
    · rw [k5 _ r4]; exact r4
    · rw [k5 _ (hws x hx).2]; exact (hws x hx).2
    · rw [h5, va_up_self]; exact he2
  · exact told x (Or.inl ⟨i, hi, e⟩) (fresh x hx)
  · exact told x (Or.inr (Or.inl ⟨j, hj, e⟩)) (fresh x hx)
  · exact told x (Or.inr (Or.inr (Or.inl ⟨j, hj, e⟩))) (fresh x hx)
