theorem kw_247 : Cond.initialized "java/lang/Math" ∈ gWs := List.mem_filter.mpr ⟨gMt1 _ (List.mem_of_getElem? (i := 10) rfl), rfl⟩
theorem kw_446 : Cond.static Lib.Math.min.name ∈ gWs := List.mem_filter.mpr ⟨gMt1 _ (List.mem_of_getElem? (i := 209) rfl), rfl⟩
theorem kw_447 : Cond.code Lib.Math.min.name Lib.Math.min.code 2 (some .int) ∈ gWs := List.mem_filter.mpr ⟨gMt1 _ (List.mem_of_getElem? (i := 210) rfl), rfl⟩
theorem kw_449 : Cond.static Lib.Math.max.name ∈ gWs := List.mem_filter.mpr ⟨gMt1 _ (List.mem_of_getElem? (i := 212) rfl), rfl⟩
theorem kw_450 : Cond.code Lib.Math.max.name Lib.Math.max.code 2 (some .int) ∈ gWs := List.mem_filter.mpr ⟨gMt1 _ (List.mem_of_getElem? (i := 213) rfl), rfl⟩
theorem kw_464 : Cond.native arraycopyName ∈ gWs := List.mem_filter.mpr ⟨gMt1 _ (List.mem_of_getElem? (i := 227) rfl), rfl⟩
theorem kw_463 : Cond.static arraycopyName ∈ gWs := List.mem_filter.mpr ⟨gMt1 _ (List.mem_of_getElem? (i := 226) rfl), rfl⟩
theorem kw_249 : Cond.initialized "java/lang/System" ∈ gWs := List.mem_filter.mpr ⟨gMt1 _ (List.mem_of_getElem? (i := 12) rfl), rfl⟩
theorem gne {F : gM} {x a : Nat} {e1 e2 : va_E} (h1 : F x = e1) (h2 : F a = e2) (h : e1 ≠ e2) : x ≠ a := fun z => h (by rw [← h1, ← h2, z])
theorem gk_oa {c : Nat} {l : List Value} {z : ClassId × vp_A} : (.inr (c, l) : va_E) ≠ .inl z := fun h => by cases h
theorem gk_ao {c : Nat} {l : List Value} {z : ClassId × vp_A} : (.inl z : va_E) ≠ .inr (c, l) := fun h => by cases h
theorem gk_oo {c1 c2 : Nat} {l1 l2 : List Value} (h : (c1 == c2) = false) : (.inr (c1, l1) : va_E) ≠ .inr (c2, l2) := fun z => by
  have h1 : c1 = c2 := congrArg (fun e : va_E => match e with | .inr q => q.1 | .inl _ => 0) z
  rw [h1] at h
  simp at h
theorem gRc {a L MC MS : Nat} (h : a ≤ MC) : a ≤ (gR L MC MS).cells := h
theorem gRs {a L MC MS : Nat} (h : a ≤ MS) : a ≤ (gR L MC MS).slots := h
theorem gFit_of {L MC MS lvl mL k n mc ms : Nat} (h1 : lvl + 1 ≤ L) (h2 : mL ≤ 40) (h3 : k + mc ≤ MC) (h4 : n + ms ≤ MS) : gFit (gR L MC MS) lvl mL k n mc ms := ⟨⟨h1, by show 8 + (mL + 11) + 64 * lvl ≤ 64 * L; omega⟩, h3, h4⟩
theorem gFit_add {L MC MS lvl mL k n mc ms : Nat} (h1 : lvl + 1 ≤ L) (h2 : mL ≤ 40) (e1 : mc = 0) (e2 : ms = 0) (h3 : k ≤ MC) (h4 : n ≤ MS) : gFit (gR L MC MS) lvl mL k n mc ms := by subst e1; subst e2; exact gFit_of h1 h2 h3 h4
theorem g_mk {ws : List Cond} (hd : List Cond) (h : GoodIn gWs ws) (hm : ∀ w ∈ hd, w ∈ gWs) : GoodIn gWs (hd ++ ws) := fun w hw => (List.mem_append.mp hw).elim (fun q => ⟨hm w q, good_of_word (gWs_good w (hm w q))⟩) (h w)
/-- a method's locals at its entry -/
def gOf : List Value → List (Option Value)
  | [] => []
  | v :: vs => if v.category = 2 then some v :: none :: gOf vs else some v :: gOf vs
theorem gOf_len : ∀ vs : List Value, (gOf vs).length = (lg_sl vs).length
  | [] => rfl
  | v :: vs => by
    have h := gOf_len vs
    unfold lg_sl at h ⊢
    rw [List.flatMap_cons]
    by_cases hc : v.category = 2
    · simp [gOf, hc, h]
    · simp [gOf, hc, h]
theorem gOf_mem : ∀ (vs : List Value) (k i : Nat) (v : Value), (gOf vs)[i]? = some (some v) → (k + i, v) ∈ lv_args k vs
  | [], _, _, _, h => by simp [gOf] at h
  | u :: vs, k, i, v, h => by
    by_cases hc : u.category = 2
    · rw [gOf, if_pos hc] at h
      rw [lv_args, if_pos hc]
      match i, h with
      | 0, h => cases h; exact List.mem_cons_self
      | 1, h => cases h
      | i + 2, h =>
        have h2 := gOf_mem vs (k + 2) i v h
        rw [show k + 2 + i = k + (i + 2) by omega] at h2
        exact List.mem_cons_of_mem _ h2
    · rw [gOf, if_neg hc] at h
      rw [lv_args, if_neg hc]
      match i, h with
      | 0, h => cases h; exact List.mem_cons_self
      | i + 1, h =>
        have h2 := gOf_mem vs (k + 1) i v h
        rw [show k + 1 + i = k + (i + 1) by omega] at h2
        exact List.mem_cons_of_mem _ h2
def gEnt (As : List Value) (nL : Nat) : List (Option Value) := gOf As ++ List.replicate (nL - (gOf As).length) none
theorem gEnt_L {As : List Value} {nL : Nat} {ls : Array Slot} (hn : (lg_sl As).length ≤ nL) (hent : lv_has ls nL (lv_args 0 As)) : gL (gEnt As nL) ls := by
  refine ⟨?_, hent.2.1, fun i v h => ?_⟩
  · rw [hent.1]
    unfold gEnt
    rw [List.length_append, List.length_replicate, gOf_len]
    omega
  · unfold gEnt at h
    by_cases hi : i < (gOf As).length
    · rw [List.getElem?_append_left hi] at h
      have h2 := gOf_mem As 0 i v h
      rw [Nat.zero_add] at h2
      exact hent.2.2 (i, v) h2
    · rw [List.getElem?_append_right (by omega), List.getElem?_replicate] at h
      split at h <;> cases h
theorem gM_of2 {Qc : Array Value → State → Outcome → State → Prop} {l : Launch} {d : gD} {b : Nat} {y : MethodName} {cc : ByteArray} {nL : Nat} {rt : Option FieldType} {lvl mc ms : Nat} {F : gM} {As : List Value} (hy : plainName y.cls = true) (hn : (lg_sl As).length ≤ nL)
    (body : ∀ X : gX, X.la = l → gC y.cls cc nL rt y.name (gR lvl mc ms) d b X → gG X d b (MQ X.be Qc X.ar X.st mc ms (fun q => b ≤ q)) F 0 0 0 (gEnt As nL) []) : Met l y (gw y cc nL rt) (gR lvl mc ms) (va_Pc As (gB d b F)) Qc mc ms (fun q => b ≤ q) := by
  refine gM_of hy (lv := gEnt As nL) ?_ hn ?_ body
  · unfold gEnt
    rw [List.length_append, List.length_replicate, gOf_len]
    omega
  · intro i v h
    unfold gEnt at h
    by_cases hi : i < (gOf As).length
    · rw [List.getElem?_append_left hi] at h
      have h2 := gOf_mem As 0 i v h
      rw [Nat.zero_add] at h2
      exact h2
    · rw [List.getElem?_append_right (by omega), List.getElem?_replicate] at h
      split at h <;> cases h
section G3
variable {own : String} {cc : ByteArray} {nL : Nat} {rt : Option FieldType} {nm : String} {R : Room} {d : gD} {b : Nat} {X : gX} {Q : State → Prop} {F : gM} {k n pc : Nat} {lv : List (Option Value)} {st : List Value}
theorem g_vF (kk : ∀ F' : gM, F' = F → gG X d b Q F' k n pc lv st) : gG X d b Q F k n pc lv st := kk F rfl
theorem g_kn {k2 n2 : Nat} (h1 : k = k2) (h2 : n = n2) (kk : gG X d b Q F k2 n2 pc lv st) : gG X d b Q F k n pc lv st := h1 ▸ h2 ▸ kk
theorem g_max (hC : gC own cc nL rt nm R d b X) {idx : Nat} {x y : Int32} (hw : Cond.methodLink own idx Lib.Math.max.name ∈ gWs) (hn : nL = lv.length) (hR : 1 ≤ R.frames ∧ 21 ≤ R.locals) (hr : (st.map fun v => v.category).sum ≤ 8) (hk : k ≤ R.cells) (hs : n ≤ R.slots) (hdg : decode cc pc = .ok (.invokestatic idx, 3)) (kk : gG X d b Q F k n (pc + 3) lv (.int (if x < y then y else x) :: st)) : gG X d b Q F k n pc lv (.int y :: .int x :: st) := fun H locs ls hH hS hL =>
  va_mmax hC.hx hC.hb (by rw [hC.hml, hn]; exact hL.1.symm) hC.how (hC.hts _ hw) (hC.hts _ kw_449) (hC.hts _ kw_247) (hC.hts _ kw_450) (by rw [hC.hR]; exact hR.1) (by rw [hC.hR]; omega) (by rw [hC.hR]; exact hk) (by rw [hC.hR]; exact hs) hdg (kk H locs ls hH hS hL)
theorem g_min (hC : gC own cc nL rt nm R d b X) {idx : Nat} {x y : Int32} (hw : Cond.methodLink own idx Lib.Math.min.name ∈ gWs) (hn : nL = lv.length) (hR : 1 ≤ R.frames ∧ 21 ≤ R.locals) (hr : (st.map fun v => v.category).sum ≤ 8) (hk : k ≤ R.cells) (hs : n ≤ R.slots) (hdg : decode cc pc = .ok (.invokestatic idx, 3)) (kk : gG X d b Q F k n (pc + 3) lv (.int (if y < x then y else x) :: st)) : gG X d b Q F k n pc lv (.int y :: .int x :: st) := fun H locs ls hH hS hL =>
  va_mmin hC.hx hC.hb (by rw [hC.hml, hn]; exact hL.1.symm) hC.how (hC.hts _ hw) (hC.hts _ kw_446) (hC.hts _ kw_247) (hC.hts _ kw_447) (by rw [hC.hR]; exact hR.1) (by rw [hC.hR]; omega) (by rw [hC.hR]; exact hk) (by rw [hC.hR]; exact hs) hdg (kk H locs ls hH hS hL)
/-- arraycopy of ints -/
theorem g_copy (hC : gC own cc nL rt nm R d b X) {idx a a0 n0 n1 : Nat} {f g : Nat → Int32} {sp dp z : Int32} (hw : Cond.methodLink own idx arraycopyName ∈ gWs) (hn : nL = lv.length) (hF0 : F a0 = .inl (gI d, n0, .inl f)) (hF1 : F a = .inl (gI d, n1, .inl g)) (h1 : ¬ sp < 0) (h2 : ¬ dp < 0) (h3 : ¬ z < 0) (h4 : sp.toNatClampNeg + z.toNatClampNeg ≤ n0) (h5 : dp.toNatClampNeg + z.toNatClampNeg ≤ n1) (hR : 1 ≤ R.frames ∧ (st.map fun v => v.category).sum + (nativeFrameWords "java/lang/System" "arraycopy" 5 + 11) ≤ R.locals) (hdg : decode cc pc = .ok (.invokestatic idx, 3))
    (kk : gG X d b Q (va_up F a (.inl (gI d, n1, .inl (va_cpy f g sp.toNatClampNeg dp.toNatClampNeg z.toNatClampNeg)))) k n (pc + 3) lv st) : gG X d b Q F k n pc lv (.int z :: .int dp :: .ref a :: .int sp :: .ref a0 :: st) := fun H locs ls hH hS hL => by
  obtain ⟨L, hP, hD, h0⟩ := id hH
  obtain ⟨q, hm, hq⟩ := gH.at (d := d) (b := b) (H := H) h0 hF0 g0_a
  obtain ⟨q1, hm1, hq1⟩ := gH.at (d := d) (b := b) (H := H) h0 hF1 g0_a
  exact va_copyi (D := d.1) hC.hx hC.hb (by rw [hC.hml, hn]; exact hL.1.symm) hC.how (hC.hts _ hw) (hC.hts _ kw_464) (hC.hts _ kw_463) (hC.hts _ kw_249) hC.hv.2.1 hP hD hS q q1 0 0 hq hq1 rfl rfl rfl h1 h2 h3 h4 h5 (fun _ _ => rfl) (by rw [hC.hR]; exact hR.1) (by rw [hC.hR]; exact hR.2) hdg (fun H1 locs1 hP1 hD1 hS1 => kk H1 locs1 ls (gH.set h0 hm1 hD hq1 hF1 hP1 hD1) hS1 hL)
end G3
