section G6
variable {own : String} {cc : ByteArray} {nL : Nat} {rt : Option FieldType} {nm : String} {R : Room} {d : gD} {b : Nat} {X : gX} {Q : State → Prop} {F : gM} {k n pc : Nat} {lv : List (Option Value)} {st : List Value}
theorem g_irem (hC : gC own cc nL rt nm R d b X) {x : Int32} {y : Int32} (hdg : decode cc pc = .ok (.irem, 1)) (hne : ¬ y = 0) (kk : gG X d b Q F k n (pc + 1) lv (.int (x - x / y * y) :: st)) : gG X d b Q F k n pc lv (.int y :: .int x :: st) := fun H locs ls hH hS hL => lv_irem hC.hx hC.hb hdg hne (kk H locs ls hH hS hL)
theorem h_irem (hC : gC own cc nL rt nm R d b X) {x : Int32} {y : Int32} (hdg : decode cc pc = .ok (.irem, 1)) (hne : ¬ y = 0) (kk : hG X d b Q F k n (pc + 1) lv (.int (x - x / y * y) :: st)) : hG X d b Q F k n pc lv (.int y :: .int x :: st) := g_irem hC hdg hne kk
theorem h_ishl (hC : gC own cc nL rt nm R d b X) {x : Int32} {y : Int32} (hdg : decode cc pc = .ok (.ishl, 1)) (kk : hG X d b Q F k n (pc + 1) lv (.int (x <<< (y &&& 31)) :: st)) : hG X d b Q F k n pc lv (.int y :: .int x :: st) := g_ishl hC hdg kk
theorem h_ishr (hC : gC own cc nL rt nm R d b X) {x : Int32} {y : Int32} (hdg : decode cc pc = .ok (.ishr, 1)) (kk : hG X d b Q F k n (pc + 1) lv (.int (x >>> (y &&& 31)) :: st)) : hG X d b Q F k n pc lv (.int y :: .int x :: st) := g_ishr hC hdg kk
theorem g_ldiv (hC : gC own cc nL rt nm R d b X) {x : Int64} {y : Int64} (hdg : decode cc pc = .ok (.ldiv, 1)) (hne : ¬ y = 0) (kk : gG X d b Q F k n (pc + 1) lv (.long (x / y) :: st)) : gG X d b Q F k n pc lv (.long y :: .long x :: st) := fun H locs ls hH hS hL => lv_ldiv hC.hx hC.hb hdg hne (kk H locs ls hH hS hL)
theorem h_ldiv (hC : gC own cc nL rt nm R d b X) {x : Int64} {y : Int64} (hdg : decode cc pc = .ok (.ldiv, 1)) (hne : ¬ y = 0) (kk : hG X d b Q F k n (pc + 1) lv (.long (x / y) :: st)) : hG X d b Q F k n pc lv (.long y :: .long x :: st) := g_ldiv hC hdg hne kk
theorem g_lrem (hC : gC own cc nL rt nm R d b X) {x : Int64} {y : Int64} (hdg : decode cc pc = .ok (.lrem, 1)) (hne : ¬ y = 0) (kk : gG X d b Q F k n (pc + 1) lv (.long (x - x / y * y) :: st)) : gG X d b Q F k n pc lv (.long y :: .long x :: st) := fun H locs ls hH hS hL => lv_lrem hC.hx hC.hb hdg hne (kk H locs ls hH hS hL)
theorem h_lrem (hC : gC own cc nL rt nm R d b X) {x : Int64} {y : Int64} (hdg : decode cc pc = .ok (.lrem, 1)) (hne : ¬ y = 0) (kk : hG X d b Q F k n (pc + 1) lv (.long (x - x / y * y) :: st)) : hG X d b Q F k n pc lv (.long y :: .long x :: st) := g_lrem hC hdg hne kk
theorem g_land (hC : gC own cc nL rt nm R d b X) {x : Int64} {y : Int64} (hdg : decode cc pc = .ok (.land, 1)) (kk : gG X d b Q F k n (pc + 1) lv (.long (x &&& y) :: st)) : gG X d b Q F k n pc lv (.long y :: .long x :: st) := fun H locs ls hH hS hL => lv_land hC.hx hC.hb hdg (kk H locs ls hH hS hL)
theorem h_land (hC : gC own cc nL rt nm R d b X) {x : Int64} {y : Int64} (hdg : decode cc pc = .ok (.land, 1)) (kk : hG X d b Q F k n (pc + 1) lv (.long (x &&& y) :: st)) : hG X d b Q F k n pc lv (.long y :: .long x :: st) := g_land hC hdg kk
theorem g_lshl (hC : gC own cc nL rt nm R d b X) {x : Int64} {y : Int32} (hdg : decode cc pc = .ok (.lshl, 1)) (kk : gG X d b Q F k n (pc + 1) lv (.long (x <<< (y.toInt64 &&& 63)) :: st)) : gG X d b Q F k n pc lv (.int y :: .long x :: st) := fun H locs ls hH hS hL => lv_lshl hC.hx hC.hb hdg rfl (kk H locs ls hH hS hL)
theorem h_lshl (hC : gC own cc nL rt nm R d b X) {x : Int64} {y : Int32} (hdg : decode cc pc = .ok (.lshl, 1)) (kk : hG X d b Q F k n (pc + 1) lv (.long (x <<< (y.toInt64 &&& 63)) :: st)) : hG X d b Q F k n pc lv (.int y :: .long x :: st) := g_lshl hC hdg kk
theorem g_lshr (hC : gC own cc nL rt nm R d b X) {x : Int64} {y : Int32} (hdg : decode cc pc = .ok (.lshr, 1)) (kk : gG X d b Q F k n (pc + 1) lv (.long (x >>> (y.toInt64 &&& 63)) :: st)) : gG X d b Q F k n pc lv (.int y :: .long x :: st) := fun H locs ls hH hS hL => lv_lshr hC.hx hC.hb hdg rfl (kk H locs ls hH hS hL)
theorem h_lshr (hC : gC own cc nL rt nm R d b X) {x : Int64} {y : Int32} (hdg : decode cc pc = .ok (.lshr, 1)) (kk : hG X d b Q F k n (pc + 1) lv (.long (x >>> (y.toInt64 &&& 63)) :: st)) : hG X d b Q F k n pc lv (.int y :: .long x :: st) := g_lshr hC hdg kk
/-- a switch: every target will do -/
theorem g_tsw (hC : gC own cc nL rt nm R d b X) {dflt lo hi : Int} {offs : Array Int} {len : Nat} {x : Int32} (hdg : decode cc pc = .ok (.tableswitch dflt lo hi offs, len)) (hlen : hi - lo < offs.toList.length) (kd : ∀ tgt : Nat, (pc : Int) + dflt = (tgt : Int) → gG X d b Q F k n tgt lv st) (hnn : ∀ off ∈ offs.toList, 0 ≤ (pc : Int) + off) (hnd : 0 ≤ (pc : Int) + dflt) (kk : ∀ off ∈ offs.toList, ∀ tgt : Nat, (pc : Int) + off = (tgt : Int) → gG X d b Q F k n tgt lv st) : gG X d b Q F k n pc lv (.int x :: st) := by
  by_cases h1 : x.toInt < lo
  · exact g_tableOut hC hdg (Or.inl h1) (Int.toNat_of_nonneg hnd).symm (kd _ (Int.toNat_of_nonneg hnd).symm)
  · by_cases h2 : hi < x.toInt
    · exact g_tableOut hC hdg (Or.inr h2) (Int.toNat_of_nonneg hnd).symm (kd _ (Int.toNat_of_nonneg hnd).symm)
    · have hl : (x.toInt - lo).toNat < offs.toList.length := by omega
      have e : offs[(x.toInt - lo).toNat]? = some (offs.toList[(x.toInt - lo).toNat]) := by
        rw [← Array.getElem?_toList]
        exact List.getElem?_eq_getElem hl
      have hm := List.getElem_mem hl
      exact g_tableIn hC hdg h1 h2 e (Int.toNat_of_nonneg (hnn _ hm)).symm (kk _ hm _ (Int.toNat_of_nonneg (hnn _ hm)).symm)
theorem h_tsw (hC : gC own cc nL rt nm R d b X) {dflt lo hi : Int} {offs : Array Int} {len : Nat} {x : Int32} (hdg : decode cc pc = .ok (.tableswitch dflt lo hi offs, len)) (hlen : hi - lo < offs.toList.length) (kd : ∀ tgt : Nat, (pc : Int) + dflt = (tgt : Int) → hG X d b Q F k n tgt lv st) (hnn : ∀ off ∈ offs.toList, 0 ≤ (pc : Int) + off) (hnd : 0 ≤ (pc : Int) + dflt) (kk : ∀ off ∈ offs.toList, ∀ tgt : Nat, (pc : Int) + off = (tgt : Int) → hG X d b Q F k n tgt lv st) : hG X d b Q F k n pc lv (.int x :: st) := g_tsw hC hdg hlen kd hnn hnd kk
theorem lsw_off : ∀ (ps : List (Int × Int)) (dflt x : Int), Op.lookupswitch.offset ps dflt x = dflt ∨ Op.lookupswitch.offset ps dflt x ∈ ps.map (fun p => p.2)
  | [], dflt, x => Or.inl rfl
  | (a, o) :: r, dflt, x => by
    have e : Op.lookupswitch.offset ((a, o) :: r) dflt x = if a = x then o else Op.lookupswitch.offset r dflt x := rfl
    rw [e]
    by_cases h : a = x
    · rw [if_pos h]
      exact Or.inr List.mem_cons_self
    · rw [if_neg h]
      exact (lsw_off r dflt x).imp id (fun q => List.mem_cons_of_mem _ q)
theorem g_lsw (hC : gC own cc nL rt nm R d b X) {dflt : Int} {ps : Array (Int × Int)} {len : Nat} {x : Int32} (hdg : decode cc pc = .ok (.lookupswitch dflt ps, len)) (hp : (ps.toList.zip (ps.toList.drop 1)).all (fun (a, next) => a.1 < next.1) = true) (hnd : 0 ≤ (pc : Int) + dflt) (hnn : ∀ off ∈ ps.toList.map (fun p => p.2), 0 ≤ (pc : Int) + off) (kd : ∀ tgt : Nat, (pc : Int) + dflt = (tgt : Int) → gG X d b Q F k n tgt lv st) (kk : ∀ off ∈ ps.toList.map (fun p => p.2), ∀ tgt : Nat, (pc : Int) + off = (tgt : Int) → gG X d b Q F k n tgt lv st) : gG X d b Q F k n pc lv (.int x :: st) := by
  rcases lsw_off ps.toList dflt x.toInt with e | e
  · exact g_lookup hC hdg hp e (Int.toNat_of_nonneg hnd).symm (kd _ (Int.toNat_of_nonneg hnd).symm)
  · exact g_lookup hC hdg hp rfl (Int.toNat_of_nonneg (hnn _ e)).symm (kk _ e _ (Int.toNat_of_nonneg (hnn _ e)).symm)
theorem h_lsw (hC : gC own cc nL rt nm R d b X) {dflt : Int} {ps : Array (Int × Int)} {len : Nat} {x : Int32} (hdg : decode cc pc = .ok (.lookupswitch dflt ps, len)) (hp : (ps.toList.zip (ps.toList.drop 1)).all (fun (a, next) => a.1 < next.1) = true) (hnd : 0 ≤ (pc : Int) + dflt) (hnn : ∀ off ∈ ps.toList.map (fun p => p.2), 0 ≤ (pc : Int) + off) (kd : ∀ tgt : Nat, (pc : Int) + dflt = (tgt : Int) → hG X d b Q F k n tgt lv st) (kk : ∀ off ∈ ps.toList.map (fun p => p.2), ∀ tgt : Nat, (pc : Int) + off = (tgt : Int) → hG X d b Q F k n tgt lv st) : hG X d b Q F k n pc lv (.int x :: st) := g_lsw hC hdg hp hnd hnn kd kk
end G6
