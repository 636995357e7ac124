section WT2
variable {d : gD} {Y : gYt} {F F' : gM} {S : gSt}
theorem gWT.arr45 (h : gWT d Y F S) {f : Nat → Int32} (hF : F' = va_up F (sQ S 45) (.inl (gI d, sN S 45, .inl f))) : gWT d Y F' (S.1, S.2.1, S.2.2.1, S.2.2.2.1, va_up S.2.2.2.2 45 f) ∧ gKp Y F F' := by
  have ne : ∀ x e, F x = e → (∀ n f, e ≠ .inl (gI d, n, .inl f)) → x ≠ sQ S 45 := fun x e h1 h2 z => h2 (sN S 45) (sF S 45) (by rw [← h1, z]; exact h.c)
  have hqk : ∀ k, k < 46 → k ≠ 45 → sQ S k ≠ sQ S 45 := fun k hk hn e => hn (h.2.2.2.2.1.2 k 45 hk (by omega) e)
  refine ⟨⟨fun i hi => ?_, fun j hj => ?_, ?_, ?_, h.2.2.2.2.1, h.2.2.2.2.2.1, fun x hx => ?_⟩, fun x hx => ?_⟩
  · rw [hF, va_up_ne _ _ (ne _ _ (h.o i hi) (fun n f => gk_oa))]
    exact h.o i hi
  · obtain ⟨h1, h2, h3⟩ := h.r j hj
    have e : va_up S.2.2.2.2 45 f j = S.2.2.2.2 j := va_up_ne _ _ (by omega)
    refine ⟨by rw [hF, va_up_ne _ _ (ne _ _ h1 (fun n f => gk_oa))]; exact h1, ?_, h3⟩
    show F' (sQ S j) = .inl (gI d, sN S j, .inl (va_up S.2.2.2.2 45 f j))
    rw [hF, va_up_ne _ _ (hqk j (by omega) (by omega)), e]
    exact h2
  · obtain ⟨h1, h2, h3⟩ := h.2.2.1
    refine ⟨?_, ?_, h3⟩
    · show F' (sQ S 44) = .inl (gI d, 4, .inl (va_up S.2.2.2.2 45 f 44))
      rw [hF, va_up_ne _ _ (hqk 44 (by omega) (by omega)), va_up_ne _ _ (by omega)]
      exact h1
    · show F' (sQ S 45) = .inl (gI d, sN S 45, .inl (va_up S.2.2.2.2 45 f 45))
      rw [hF, va_up_self, va_up_self]
  · obtain ⟨⟨f1, h1, h2⟩, f2, h3, h4⟩ := h.2.2.2.1
    exact ⟨⟨f1, by rw [hF, va_up_ne _ _ (ne _ _ h1 (fun n f => gk_rl))]; exact h1, h2⟩, f2, by rw [hF, va_up_ne _ _ (ne _ _ h3 (fun n f => gk_rl))]; exact h3, h4⟩
  · obtain ⟨h1, h2, h3, h4⟩ := h.2.2.2.2.2.2 x hx
    exact ⟨by rw [hF, va_up_ne _ _ (h4 45 (by omega))]; exact h1, h2, h3, h4⟩
  · rw [hF, va_up_ne _ _ ((h.2.2.2.2.2.2 x hx).2.2.2 45 (by omega))]
end WT2
/-- row x's ints alone are others -/
def uF (S : gSt) (x : Nat) (f : Nat → Int32) : gSt := (S.1, S.2.1, S.2.2.1, S.2.2.2.1, va_up S.2.2.2.2 x f)
theorem gSm_uF {S : gSt} {x : Nat} {f : Nat → Int32} : gSm S (uF S x f) [x] [] := ⟨fun i hi => ⟨rfl, rfl, rfl, va_up_ne _ _ (fun e => hi (by rw [e]; exact List.mem_singleton.mpr rfl))⟩, fun _ _ => rfl⟩
section HS2
variable {own : String} {cc : ByteArray} {nL : Nat} {rt : Option FieldType} {nm : String} {R : Room} {d : gD} {b : Nat} {X : gX} {Q : State → Prop} {F : gM} {k n pc : Nat} {lv : List (Option Value)} {st : List Value} {Y : gYt} {c : Nat × Nat} {S : gSt}
theorem hi_pst (hC : gC own cc nL rt nm R d b X) (hi : hI d b Y c (F, k, n) S) {i x : Int32} (hin : vp_in i 4) (hdg : decode cc pc = .ok (.iastore, 1)) (kk : ∀ (F' : gM) (S' : gSt), hI d b Y c (F', k, n) S' → gKp Y F F' → gSm S S' [44] [] → gPsi S' = gPsi S → hG X d b Q F' k n (pc + 1) lv st) : hG X d b Q F k n pc lv (.int x :: .int i :: .ref (sQ S 44) :: st) :=
  h_iast hC hi.1.p hin hdg (h_vF (fun F' hF => by
    obtain ⟨w1, w2⟩ := hi.1.arr44 hF
    exact kk F' (uF S 44 _) (hi.smaller w1 (fun _ => rfl)) w2 gSm_uF rfl))
theorem hi_cst (hC : gC own cc nL rt nm R d b X) (hi : hI d b Y c (F, k, n) S) {i x : Int32} (hin : vp_in i (sN S 45)) (hdg : decode cc pc = .ok (.iastore, 1)) (kk : ∀ (F' : gM) (S' : gSt), hI d b Y c (F', k, n) S' → gKp Y F F' → gSm S S' [45] [] → gPsi S' = gPsi S ∧ sN S' 45 = sN S 45 → hG X d b Q F' k n (pc + 1) lv st) : hG X d b Q F k n pc lv (.int x :: .int i :: .ref (sQ S 45) :: st) :=
  h_iast hC hi.1.c hin hdg (h_vF (fun F' hF => by
    obtain ⟨w1, w2⟩ := hi.1.arr45 hF
    exact kk F' (uF S 45 _) (hi.smaller w1 (fun _ => rfl)) w2 gSm_uF ⟨rfl, rfl⟩))
theorem hi_aald0 (hC : gC own cc nL rt nm R d b X) (hi : hI d b Y c (F, k, n) S) {i : Int32} {N : Nat} (e : i = nI N) (hN : N < 4) (hdg : decode cc pc = .ok (.aaload, 1)) (kk : hG X d b Q F k n (pc + 1) lv (.ref (gA' Y (34 + N)) :: st)) : hG X d b Q F k n pc lv (.int i :: .ref (gZ' Y 0) :: st) := by
  obtain ⟨⟨f, h1, h2⟩, -⟩ := id hi.1.2.2.2.1
  subst e
  refine h_aald hC h1 (vp_in_nI hN (by omega)) hdg ?_
  rw [show f (nI N).toNatClampNeg = some (gA' Y (34 + N)) from by rw [nI_clamp (by omega)]; exact h2 N hN]
  exact kk
theorem hi_aald1 (hC : gC own cc nL rt nm R d b X) (hi : hI d b Y c (F, k, n) S) {i : Int32} {N : Nat} (e : i = nI N) (hN : N < 2) (hdg : decode cc pc = .ok (.aaload, 1)) (kk : hG X d b Q F k n (pc + 1) lv (.ref (gA' Y (38 + N)) :: st)) : hG X d b Q F k n pc lv (.int i :: .ref (gZ' Y 1) :: st) := by
  obtain ⟨-, f, h1, h2⟩ := id hi.1.2.2.2.1
  subst e
  refine h_aald hC h1 (vp_in_nI hN (by omega)) hdg ?_
  rw [show f (nI N).toNatClampNeg = some (gA' Y (38 + N)) from by rw [nI_clamp (by omega)]; exact h2 N hN]
  exact kk
theorem hi_alen0 (hC : gC own cc nL rt nm R d b X) (hi : hI d b Y c (F, k, n) S) (hdg : decode cc pc = .ok (.arraylength, 1)) (kk : hG X d b Q F k n (pc + 1) lv (.int (nI 4) :: st)) : hG X d b Q F k n pc lv (.ref (gZ' Y 0) :: st) := by
  obtain ⟨⟨f, h1, h2⟩, -⟩ := id hi.1.2.2.2.1
  exact h_alen hC 4 h1 rfl hdg kk
theorem hi_alen1 (hC : gC own cc nL rt nm R d b X) (hi : hI d b Y c (F, k, n) S) (hdg : decode cc pc = .ok (.arraylength, 1)) (kk : hG X d b Q F k n (pc + 1) lv (.int (nI 2) :: st)) : hG X d b Q F k n pc lv (.ref (gZ' Y 1) :: st) := by
  obtain ⟨-, f, h1, h2⟩ := id hi.1.2.2.2.1
  exact h_alen hC 4 h1 rfl hdg kk
end HS2
/-- asked whether it is below m, and it is -/
theorem hin_of {i r : Int32} {m : Nat} (hm : m < 2 ^ 31) (h : i < 0 ∨ nI m ≤ i → r = 0) (hr : ¬ r = 0) : ∃ N, N < m ∧ i = nI N := by
  have h0 : ¬ i < 0 := fun q => hr (h (Or.inl q))
  have h1 : ¬ nI m ≤ i := fun q => hr (h (Or.inr q))
  exact ⟨i.toNatClampNeg, gmv h0 h1 hm, nI_toN h0⟩
