/-! THE REFERENCE: an object of 119 fields, told by a function -/
def gvt (f : Nat → Value) : List Value := (List.range 118).map (fun i => f (i + 1))
theorem gvl_eq {f : Nat → Value} : f 0 :: gvt f = (List.range 119).map f := by
  rw [show (119 : Nat) = 118 + 1 from rfl, List.range_succ_eq_map, List.map_cons, List.map_map]
  rfl
theorem gvl_get {f : Nat → Value} {j : Nat} (hj : j < 119) : (f 0 :: gvt f)[j]? = some (f j) := by
  rw [gvl_eq, List.getElem?_map, List.getElem?_range hj]
  rfl
theorem gvl_len {f : Nat → Value} : (f 0 :: gvt f).length = 119 := by
  rw [gvl_eq, List.length_map, List.length_range]
theorem gvl_set {f : Nat → Value} {j : Nat} {v : Value} (hj : j < 119) : (f 0 :: gvt f).set j v = va_up f j v 0 :: gvt (va_up f j v) := by
  rw [gvl_eq, gvl_eq]
  apply List.ext_getElem?
  intro i
  rw [List.getElem?_set, List.length_map, List.length_range, List.getElem?_map, List.getElem?_map]
  by_cases e : j = i
  · subst e
    rw [if_pos rfl, if_pos hj, List.getElem?_range hj]
    show some v = some (va_up f j v j)
    rw [va_up_self]
  · rw [if_neg e]
    by_cases h : i < 119
    · rw [List.getElem?_range h]
      show some (f i) = some (va_up f j v i)
      rw [va_up_ne _ _ (Ne.symm e)]
    · rw [List.getElem?_eq_none (by rw [List.length_range]; omega)]
      rfl
abbrev gRo (F : gM) (t : Nat) (f : Nat → Value) : Prop := F t = .inr (12, f 0 :: gvt f)
/-! WHOLE NUMBERS FOR INTS: zI, zJ are a ring's maps; zR, zL the ranges -/
def zI (e : Int) : Int32 := Int32.ofInt e
def zJ (e : Int) : Int64 := Int64.ofInt e
abbrev zR (e : Int) : Prop := -2147483648 ≤ e ∧ e < 2147483648
abbrev zL (e : Int) : Prop := -9223372036854775808 ≤ e ∧ e < 9223372036854775808
theorem zI_t {e : Int} (h : zR e) : (zI e).toInt = e := Int32.toInt_ofInt_of_le (by have := h.1; omega) (by have := h.2; omega)
theorem zJ_t {e : Int} (h : zL e) : (zJ e).toInt = e := Int64.toInt_ofInt_of_le (by have := h.1; omega) (by have := h.2; omega)
theorem zR_t (x : Int32) : zR x.toInt := ⟨by have := x.le_toInt; omega, by have := x.toInt_lt; omega⟩
theorem zL_t (x : Int64) : zL x.toInt := ⟨by have := x.le_toInt; omega, by have := x.toInt_lt; omega⟩
theorem zI_o (x : Int32) : zI x.toInt = x := Int32.ofInt_toInt x
theorem zJ_o (x : Int64) : zJ x.toInt = x := Int64.ofInt_toInt x
theorem zR_L {e : Int} (h : zR e) : zL e := ⟨by have := h.1; omega, by have := h.2; omega⟩
theorem zI_eq {a b : Int} (ha : zR a) (hb : zR b) : zI a = zI b ↔ a = b := ⟨fun h => by rw [← zI_t ha, ← zI_t hb, h], fun h => by rw [h]⟩
theorem zI_lt {a b : Int} (ha : zR a) (hb : zR b) : zI a < zI b ↔ a < b := by rw [Int32.lt_iff_toInt_lt, zI_t ha, zI_t hb]
theorem zI_le {a b : Int} (ha : zR a) (hb : zR b) : zI a ≤ zI b ↔ a ≤ b := by rw [Int32.le_iff_toInt_le, zI_t ha, zI_t hb]
theorem zJ_lt {a b : Int} (ha : zL a) (hb : zL b) : zJ a < zJ b ↔ a < b := by rw [Int64.lt_iff_toInt_lt, zJ_t ha, zJ_t hb]
theorem zJ_le {a b : Int} (ha : zL a) (hb : zL b) : zJ a ≤ zJ b ↔ a ≤ b := by rw [Int64.le_iff_toInt_le, zJ_t ha, zJ_t hb]
theorem zJ_eq {a b : Int} (ha : zL a) (hb : zL b) : zJ a = zJ b ↔ a = b := ⟨fun h => by rw [← zJ_t ha, ← zJ_t hb, h], fun h => by rw [h]⟩
theorem zI_add (a b : Int) : zI (a + b) = zI a + zI b := Int32.ofInt_add a b
theorem zI_sub (a b : Int) : zI (a - b) = zI a - zI b := Int32.ofInt_sub a b
theorem zI_mul (a b : Int) : zI (a * b) = zI a * zI b := Int32.ofInt_mul a b
theorem zI_neg (a : Int) : zI (-a) = -zI a := Int32.ofInt_neg a
theorem zJ_add (a b : Int) : zJ (a + b) = zJ a + zJ b := Int64.ofInt_add a b
theorem zJ_sub (a b : Int) : zJ (a - b) = zJ a - zJ b := Int64.ofInt_sub a b
theorem zJ_mul (a b : Int) : zJ (a * b) = zJ a * zJ b := Int64.ofInt_mul a b
theorem zJ_neg (a : Int) : zJ (-a) = -zJ a := Int64.ofInt_neg a
theorem zI_J {e : Int} (h : zR e) : (zI e).toInt64 = zJ e := by
  rw [← zJ_o (zI e).toInt64, Int32.toInt_toInt64, zI_t h]
theorem zJ_I (e : Int) : (zJ e).toInt32 = zI e := Int64.toInt32_ofInt
/-- wrapped -/
def zw (e : Int) : Int := (zI e).toInt
def zwl (e : Int) : Int := (zJ e).toInt
theorem zw_R (e : Int) : zR (zw e) := zR_t _
theorem zwl_L (e : Int) : zL (zwl e) := zL_t _
theorem zw_e {e : Int} (h : zR e) : zw e = e := zI_t h
theorem zwl_e {e : Int} (h : zL e) : zwl e = e := zJ_t h
def zan (a b : Int) : Int := (zI a &&& zI b).toInt
def zor (a b : Int) : Int := (zI a ||| zI b).toInt
def zxo (a b : Int) : Int := (zI a ^^^ zI b).toInt
def zsl (a b : Int) : Int := (zI a <<< (zI b &&& 31)).toInt
def zsr (a b : Int) : Int := (zI a >>> (zI b &&& 31)).toInt
def zus (a b : Int) : Int := ((zI a).toUInt32 >>> ((zI b).toUInt32 &&& Int32.toUInt32 31)).toInt32.toInt
def zlsr (a b : Int) : Int := (zJ a >>> ((zI b).toInt64 &&& 63)).toInt
def zd (a b : Int) : Int := (zI a / zI b).toInt
def zdl (a b : Int) : Int := (zJ a / zJ b).toInt
def zby (a : Int) : Int := (zI a).toInt8.toInt32.toInt
/-- what a byte's place, a boolean's place holds behind a store -/
def znb (a : Int) : Int := (vp_nar .byte (zI a)).toInt
def znz (a : Int) : Int := (vp_nar .boolean (zI a)).toInt
theorem zv_in {e : Int} {N : Nat} (h0 : 0 ≤ e) (h1 : e < (N : Int)) (hN : N ≤ 2147483648) : vp_in (zI e) N ∧ (zI e).toNatClampNeg = e.toNat := by
  have hR : zR e := ⟨by omega, by omega⟩
  have h2 : (zI e).toNatClampNeg = e.toNat := by rw [← Int32.toNat_toInt, zI_t hR]
  refine ⟨fun h => h.elim (fun q => ?_) (fun q => ?_), h2⟩
  · have := (zI_lt hR (by decide : zR 0)).mp q
    omega
  · rw [h2] at q
    omega
/-! THE REFERENCE'S STATE: scalars, and rows of ints by field; T tells the rows' addresses -/
def zk : Nat → Nat := fun j => [0, 2, 0, 2, 0, 0, 1, 1, 0, 1, 1, 1, 0, 0, 2, 0, 1, 1, 0, 0, 0, 0, 0, 0, 0, 2, 1, 1, 1, 1, 1, 1, 1, 1, 1, 3, 1, 0, 0, 1, 1, 1, 1, 0, 0, 0, 1, 1, 0, 0, 1, 1, 1, 1, 1, 0, 1, 1, 4, 0, 1, 1, 1, 0, 1, 1, 1, 0, 1, 0, 1, 1, 1, 0, 0, 0, 4, 0, 0, 0, 0, 0, 0, 0, 0, 1, 1, 0, 1, 1, 1, 0, 1, 1, 1, 0, 0, 0, 1, 0, 0, 0, 4, 0, 0, 4, 0, 1, 1, 2, 1, 1, 1, 1, 0, 2, 1, 0, 2].getD j 0
def zn : Nat → Nat := fun j => [0, 6000, 0, 6000, 0, 0, 3100, 3100, 0, 12100, 12100, 12100, 0, 0, 6000, 0, 3100, 3100, 0, 0, 0, 0, 0, 0, 0, 26000, 26000, 26000, 26000, 26000, 26000, 26000, 26000, 26000, 26000, 26000, 26000, 0, 0, 9000, 9000, 9000, 9000, 0, 0, 0, 70, 70, 0, 0, 9000, 9000, 9000, 9000, 9000, 0, 18, 9000, 0, 0, 26000, 26000, 26000, 0, 26000, 26000, 26000, 0, 60000, 0, 3100, 3100, 3100, 0, 0, 0, 0, 0, 0, 0, 0, 0, 0, 0, 0, 9000, 9000, 0, 620000, 620000, 620000, 0, 300000, 600, 600, 0, 0, 0, 65536, 0, 0, 0, 0, 0, 0, 0, 0, 100, 100, 24000, 24000, 24000, 4, 4, 0, 8192, 2, 0, 12].getD j 0
def zb (j : Nat) : Bool := Nat.testBit 477529405565806729680036456122502858 j
abbrev zS : Type := (Nat → Int) × (Nat → Nat → Int)
def zv (s : zS) (j : Nat) : Int := s.1 j
def za (s : zS) (j i : Nat) : Int := s.2 j i
def zpv (s : zS) (j : Nat) (x : Int) : zS := (fun k => if k = j then x else s.1 k, s.2)
def zpa (s : zS) (j i : Nat) (x : Int) : zS := (s.1, fun k m => if k = j then (if m = i then x else s.2 k m) else s.2 k m)
theorem za_self (s : zS) (j i : Nat) (x : Int) : za (zpa s j i x) j i = x := by
  show (if j = j then (if i = i then x else s.2 j i) else s.2 j i) = x
  rw [if_pos rfl, if_pos rfl]
def zck (d : gD) (j : Nat) : ClassId := if zk j = 1 then gI d else if zk j = 2 then gY d else gZ d
def zfv (T : Nat → Nat) (s : zS) (j : Nat) : Value := if zb j = true then .ref (T j) else .int (zI (zv s j))
def zW (d : gD) (F : gM) (t : Nat) (T : Nat → Nat) (s : zS) : Prop :=
  gRo F t (zfv T s) ∧ (∀ j, zb j = true → F (T j) = .inl (zck d j, zn j, .inl (fun i => zI (za s j i)))) ∧ (∀ i j, zb i = true → zb j = true → T i = T j → i = j) ∧ (∀ j, zR (zv s j)) ∧ (∀ j i, zR (za s j i))
def zZ (d : gD) (t : Nat) (T : Nat → Nat) (F0 F : gM) (s : zS) : Prop := zW d F t T s ∧ ∀ x, x ≠ t → (∀ j, zb j = true → x ≠ T j) → F x = F0 x
section ZZ
variable {d : gD} {t : Nat} {T : Nat → Nat} {F0 F : gM} {s : zS}
theorem zZ.o (h : zZ d t T F0 F s) : gRo F t (zfv T s) := h.1.1
theorem zZ.a (h : zZ d t T F0 F s) (j : Nat) (hj : zb j = true) : F (T j) = .inl (zck d j, zn j, .inl (fun i => zI (za s j i))) := h.1.2.1 j hj
theorem zZ.rv (h : zZ d t T F0 F s) (j : Nat) : zR (zv s j) := h.1.2.2.2.1 j
theorem zZ.ra (h : zZ d t T F0 F s) (j i : Nat) : zR (za s j i) := h.1.2.2.2.2 j i
theorem zZ.put (h : zZ d t T F0 F s) {j : Nat} {x : Int} (hj : j < 119) (hb : zb j = false) (hx : zR x) : zZ d t T F0 (va_up F t (.inr (12, (zfv T s 0 :: gvt (zfv T s)).set j (.int (zI x))))) (zpv s j x) := by
  obtain ⟨⟨h1, h2, h3, h4, h5⟩, h6⟩ := h
  have e : va_up (zfv T s) j (.int (zI x)) = zfv T (zpv s j x) := by
    funext k
    unfold zfv zv zpv
    by_cases hk : k = j
    · subst hk
      rw [va_up_self, hb]
      simp
    · rw [va_up_ne _ _ hk]
      simp [hk]
  refine ⟨⟨?_, fun k hk => ?_, h3, fun k => ?_, h5⟩, fun y hy hj2 => ?_⟩
  · rw [gvl_set hj, e]
    exact va_up_self _ _ _
  · have hne : T k ≠ t := gne (h2 k hk) h1 gk_ao
    rw [va_up_ne _ _ hne]
    exact h2 k hk
  · show zR (if k = j then x else s.1 k)
    split
    · exact hx
    · exact h4 k
  · rw [va_up_ne _ _ hy]
    exact h6 y hy hj2
theorem zZ.ast (h : zZ d t T F0 F s) {j i : Nat} {x : Int} (hb : zb j = true) (hx : zR x) : zZ d t T F0 (va_up F (T j) (.inl (zck d j, zn j, .inl (upd (fun i => zI (za s j i)) i (zI x))))) (zpa s j i x) := by
  obtain ⟨⟨h1, h2, h3, h4, h5⟩, h6⟩ := h
  refine ⟨⟨?_, fun k hk => ?_, h3, h4, fun k m => ?_⟩, fun y hy hj2 => ?_⟩
  · have hne : t ≠ T j := gne h1 (h2 j hb) gk_oa
    show va_up F (T j) _ t = _
    rw [va_up_ne _ _ hne]
    exact h1
  · by_cases e : T k = T j
    · have ek := h3 k j hk hb e
      subst ek
      rw [va_up_self]
      have ef : upd (fun i => zI (za s k i)) i (zI x) = fun m => zI (za (zpa s k i x) k m) := by
        funext m
        unfold upd za zpa
        by_cases hm : m = i
        · simp [hm]
        · simp [hm]
      rw [ef]
    · rw [va_up_ne _ _ e]
      have hkj : k ≠ j := fun q => e (by rw [q])
      have ef : (fun i => zI (za s k i)) = fun m => zI (za (zpa s j i x) k m) := by
        funext m
        unfold za zpa
        simp [hkj]
      rw [← ef]
      exact h2 k hk
  · show zR (if k = j then (if m = i then x else s.2 k m) else s.2 k m)
    split
    · split
      · exact hx
      · exact h5 k m
    · exact h5 k m
  · rw [va_up_ne _ _ (hj2 j hb)]
    exact h6 y hy hj2
end ZZ
section ZR
variable {own : String} {cc : ByteArray} {nL : Nat} {rt : Option FieldType} {nm : String} {R : Room} {d : gD} {b : Nat} {X : gX} {Q : State → Prop} {F : gM} {k n pc : Nat} {lv : List (Option Value)} {st : List Value}
theorem zr_iadd (hC : gC own cc nL rt nm R d b X) {x y : Int} (hdg : decode cc pc = .ok (.iadd, 1)) (kk : gG X d b Q F k n (pc + 1) lv (.int (zI (x + y)) :: st)) : gG X d b Q F k n pc lv (.int (zI y) :: .int (zI x) :: st) := g_iadd hC hdg (by rw [zI_add] at kk; exact kk)
theorem zr_isub (hC : gC own cc nL rt nm R d b X) {x y : Int} (hdg : decode cc pc = .ok (.isub, 1)) (kk : gG X d b Q F k n (pc + 1) lv (.int (zI (x - y)) :: st)) : gG X d b Q F k n pc lv (.int (zI y) :: .int (zI x) :: st) := g_isub hC hdg (by rw [zI_sub] at kk; exact kk)
theorem zr_imul (hC : gC own cc nL rt nm R d b X) {x y : Int} (hdg : decode cc pc = .ok (.imul, 1)) (kk : gG X d b Q F k n (pc + 1) lv (.int (zI (x * y)) :: st)) : gG X d b Q F k n pc lv (.int (zI y) :: .int (zI x) :: st) := g_imul hC hdg (by rw [zI_mul] at kk; exact kk)
theorem zr_iand (hC : gC own cc nL rt nm R d b X) {x y : Int} (hdg : decode cc pc = .ok (.iand, 1)) (kk : gG X d b Q F k n (pc + 1) lv (.int (zI (zan x y)) :: st)) : gG X d b Q F k n pc lv (.int (zI y) :: .int (zI x) :: st) := g_iand hC hdg (by rw [show zI (zan x y) = _ from zI_o _] at kk; exact kk)
theorem zr_ior (hC : gC own cc nL rt nm R d b X) {x y : Int} (hdg : decode cc pc = .ok (.ior, 1)) (kk : gG X d b Q F k n (pc + 1) lv (.int (zI (zor x y)) :: st)) : gG X d b Q F k n pc lv (.int (zI y) :: .int (zI x) :: st) := g_ior hC hdg (by rw [show zI (zor x y) = _ from zI_o _] at kk; exact kk)
theorem zr_ixor (hC : gC own cc nL rt nm R d b X) {x y : Int} (hdg : decode cc pc = .ok (.ixor, 1)) (kk : gG X d b Q F k n (pc + 1) lv (.int (zI (zxo x y)) :: st)) : gG X d b Q F k n pc lv (.int (zI y) :: .int (zI x) :: st) := g_ixor hC hdg (by rw [show zI (zxo x y) = _ from zI_o _] at kk; exact kk)
theorem zr_ishl (hC : gC own cc nL rt nm R d b X) {x y : Int} (hdg : decode cc pc = .ok (.ishl, 1)) (kk : gG X d b Q F k n (pc + 1) lv (.int (zI (zsl x y)) :: st)) : gG X d b Q F k n pc lv (.int (zI y) :: .int (zI x) :: st) := g_ishl hC hdg (by rw [show zI (zsl x y) = _ from zI_o _] at kk; exact kk)
theorem zr_ishr (hC : gC own cc nL rt nm R d b X) {x y : Int} (hdg : decode cc pc = .ok (.ishr, 1)) (kk : gG X d b Q F k n (pc + 1) lv (.int (zI (zsr x y)) :: st)) : gG X d b Q F k n pc lv (.int (zI y) :: .int (zI x) :: st) := g_ishr hC hdg (by rw [show zI (zsr x y) = _ from zI_o _] at kk; exact kk)
theorem zr_iushr (hC : gC own cc nL rt nm R d b X) {x y : Int} (hdg : decode cc pc = .ok (.iushr, 1)) (kk : gG X d b Q F k n (pc + 1) lv (.int (zI (zus x y)) :: st)) : gG X d b Q F k n pc lv (.int (zI y) :: .int (zI x) :: st) := g_iushr hC hdg (by rw [show zI (zus x y) = _ from zI_o _] at kk; exact kk)
theorem zr_ladd (hC : gC own cc nL rt nm R d b X) {x y : Int} (hdg : decode cc pc = .ok (.ladd, 1)) (kk : gG X d b Q F k n (pc + 1) lv (.long (zJ (x + y)) :: st)) : gG X d b Q F k n pc lv (.long (zJ y) :: .long (zJ x) :: st) := g_ladd hC hdg (by rw [zJ_add] at kk; exact kk)
theorem zr_lsub (hC : gC own cc nL rt nm R d b X) {x y : Int} (hdg : decode cc pc = .ok (.lsub, 1)) (kk : gG X d b Q F k n (pc + 1) lv (.long (zJ (x - y)) :: st)) : gG X d b Q F k n pc lv (.long (zJ y) :: .long (zJ x) :: st) := g_lsub hC hdg (by rw [zJ_sub] at kk; exact kk)
theorem zr_lmul (hC : gC own cc nL rt nm R d b X) {x y : Int} (hdg : decode cc pc = .ok (.lmul, 1)) (kk : gG X d b Q F k n (pc + 1) lv (.long (zJ (x * y)) :: st)) : gG X d b Q F k n pc lv (.long (zJ y) :: .long (zJ x) :: st) := g_lmul hC hdg (by rw [zJ_mul] at kk; exact kk)
theorem zr_ineg (hC : gC own cc nL rt nm R d b X) {x : Int} (hdg : decode cc pc = .ok (.ineg, 1)) (kk : gG X d b Q F k n (pc + 1) lv (.int (zI (-x)) :: st)) : gG X d b Q F k n pc lv (.int (zI x) :: st) := g_ineg hC hdg (by rw [zI_neg] at kk; exact kk)
theorem zr_lneg (hC : gC own cc nL rt nm R d b X) {x : Int} (hdg : decode cc pc = .ok (.lneg, 1)) (kk : gG X d b Q F k n (pc + 1) lv (.long (zJ (-x)) :: st)) : gG X d b Q F k n pc lv (.long (zJ x) :: st) := fun H locs ls hH hS hL => lv_lneg hC.hx hC.hb hdg (by rw [zJ_neg] at kk; exact kk H locs ls hH hS hL)
theorem zr_lshr (hC : gC own cc nL rt nm R d b X) {x y : Int} (hdg : decode cc pc = .ok (.lshr, 1)) (kk : gG X d b Q F k n (pc + 1) lv (.long (zJ (zlsr x y)) :: st)) : gG X d b Q F k n pc lv (.int (zI y) :: .long (zJ x) :: st) := g_lshr hC hdg (by rw [show zJ (zlsr x y) = _ from zJ_o _] at kk; exact kk)
theorem zr_idiv (hC : gC own cc nL rt nm R d b X) {x y : Int} (hdg : decode cc pc = .ok (.idiv, 1)) (hy : zR y) (hne : ¬ y = 0) (kk : gG X d b Q F k n (pc + 1) lv (.int (zI (zd x y)) :: st)) : gG X d b Q F k n pc lv (.int (zI y) :: .int (zI x) :: st) := g_idiv hC hdg (fun q => hne ((zI_eq hy (by decide : zR 0)).mp q)) (by rw [show zI (zd x y) = _ from zI_o _] at kk; exact kk)
theorem zr_irem (hC : gC own cc nL rt nm R d b X) {x y : Int} (hdg : decode cc pc = .ok (.irem, 1)) (hy : zR y) (hne : ¬ y = 0) (kk : gG X d b Q F k n (pc + 1) lv (.int (zI (x - zd x y * y)) :: st)) : gG X d b Q F k n pc lv (.int (zI y) :: .int (zI x) :: st) := g_irem hC hdg (fun q => hne ((zI_eq hy (by decide : zR 0)).mp q)) (by rw [zI_sub, zI_mul, show zI (zd x y) = _ from zI_o _] at kk; exact kk)
theorem zr_ldiv (hC : gC own cc nL rt nm R d b X) {x y : Int} (hdg : decode cc pc = .ok (.ldiv, 1)) (hy : zL y) (hne : ¬ y = 0) (kk : gG X d b Q F k n (pc + 1) lv (.long (zJ (zdl x y)) :: st)) : gG X d b Q F k n pc lv (.long (zJ y) :: .long (zJ x) :: st) := g_ldiv hC hdg (fun q => hne ((zJ_eq hy (by decide : zL 0)).mp q)) (by rw [show zJ (zdl x y) = _ from zJ_o _] at kk; exact kk)
theorem zr_lrem (hC : gC own cc nL rt nm R d b X) {x y : Int} (hdg : decode cc pc = .ok (.lrem, 1)) (hy : zL y) (hne : ¬ y = 0) (kk : gG X d b Q F k n (pc + 1) lv (.long (zJ (x - zdl x y * y)) :: st)) : gG X d b Q F k n pc lv (.long (zJ y) :: .long (zJ x) :: st) := g_lrem hC hdg (fun q => hne ((zJ_eq hy (by decide : zL 0)).mp q)) (by rw [zJ_sub, zJ_mul, show zJ (zdl x y) = _ from zJ_o _] at kk; exact kk)
theorem zr_i2l (hC : gC own cc nL rt nm R d b X) {x : Int} (hdg : decode cc pc = .ok (.i2l, 1)) (hx : zR x) (kk : gG X d b Q F k n (pc + 1) lv (.long (zJ x) :: st)) : gG X d b Q F k n pc lv (.int (zI x) :: st) := g_i2l hC hdg (by rw [zI_J hx]; exact kk)
theorem zr_l2i (hC : gC own cc nL rt nm R d b X) {x : Int} (hdg : decode cc pc = .ok (.l2i, 1)) (kk : gG X d b Q F k n (pc + 1) lv (.int (zI x) :: st)) : gG X d b Q F k n pc lv (.long (zJ x) :: st) := g_l2i hC hdg (by rw [zJ_I]; exact kk)
theorem zr_i2b (hC : gC own cc nL rt nm R d b X) {x : Int} (hdg : decode cc pc = .ok (.i2b, 1)) (kk : gG X d b Q F k n (pc + 1) lv (.int (zI (zby x)) :: st)) : gG X d b Q F k n pc lv (.int (zI x) :: st) := g_i2b hC hdg (by rw [show zI (zby x) = _ from zI_o _] at kk; exact kk)
theorem zr_w {x : Int} (kk : ∀ z : Int, z = zw x → zR z → gG X d b Q F k n pc lv (.int (zI z) :: st)) : gG X d b Q F k n pc lv (.int (zI x) :: st) := by
  have h := kk (zw x) rfl (zw_R x)
  rw [show zI (zw x) = _ from zI_o _] at h
  exact h
theorem zr_wl {x : Int} (kk : ∀ z : Int, z = zwl x → zL z → gG X d b Q F k n pc lv (.long (zJ z) :: st)) : gG X d b Q F k n pc lv (.long (zJ x) :: st) := by
  have h := kk (zwl x) rfl (zwl_L x)
  rw [show zJ (zwl x) = _ from zJ_o _] at h
  exact h
theorem zr_ldc (hC : gC own cc nL rt nm R d b X) {i : Nat} {v : Int32} {e : Int} (hdg : decode cc pc = .ok (.ldc i, 2)) (hw : Cond.constant own i v ∈ gWs) (hv : v = zI e) (kk : gG X d b Q F k n (pc + 2) lv (.int (zI e) :: st)) : gG X d b Q F k n pc lv st := g_ldc hC hdg hw (by rw [hv]; exact kk)
theorem zr_ldcw (hC : gC own cc nL rt nm R d b X) {i : Nat} {v : Int32} {e : Int} (hdg : decode cc pc = .ok (.ldc_w i, 3)) (hw : Cond.constant own i v ∈ gWs) (hv : v = zI e) (kk : gG X d b Q F k n (pc + 3) lv (.int (zI e) :: st)) : gG X d b Q F k n pc lv st := g_ldcw hC hdg hw (by rw [hv]; exact kk)
theorem zr_ldc2 (hC : gC own cc nL rt nm R d b X) {i : Nat} {v : Int64} {e : Int} (hdg : decode cc pc = .ok (.ldc2_w i, 3)) (hw : Cond.constantLong own i v ∈ gWs) (hv : v = zJ e) (kk : gG X d b Q F k n (pc + 3) lv (.long (zJ e) :: st)) : gG X d b Q F k n pc lv st := g_ldc2 hC hdg hw (by rw [hv]; exact kk)
theorem zr_iinc (hC : gC own cc nL rt nm R d b X) {i : Nat} {z : Int} {x : Int} {lv' : List (Option Value)} (hdg : decode cc pc = .ok (.iinc i z, 3)) (hx : lv[i]? = some (some (.int (zI x)))) (hok : gOk lv i = true) (hl : lv.set i (some (.int (zI (x + z)))) = lv') (kk : gG X d b Q F k n (pc + 3) lv' st) : gG X d b Q F k n pc lv st := g_iinc hC hdg hx (zI_add x z).symm hok hl kk
theorem zr_if_eq (hC : gC own cc nL rt nm R d b X) {x : Int} {off : Int} {tgt : Nat} (hx : zR x) (hdg : decode cc pc = .ok (.ifCond .eq off, 3)) (ht : (pc : Int) + off = (tgt : Int)) (kt : x = 0 → gG X d b Q F k n tgt lv st) (kf : ¬ x = 0 → gG X d b Q F k n (pc + 3) lv st) : gG X d b Q F k n pc lv (.int (zI x) :: st) := g_if_eq hC hdg ht (fun q => kt ((zI_eq hx (by decide : zR 0)).mp q)) (fun q => kf (fun r => q ((zI_eq hx (by decide : zR 0)).mpr r)))
theorem zr_icmp_eq (hC : gC own cc nL rt nm R d b X) {x y : Int} {off : Int} {tgt : Nat} (hx : zR x) (hy : zR y) (hdg : decode cc pc = .ok (.if_icmp .eq off, 3)) (ht : (pc : Int) + off = (tgt : Int)) (kt : x = y → gG X d b Q F k n tgt lv st) (kf : ¬ x = y → gG X d b Q F k n (pc + 3) lv st) : gG X d b Q F k n pc lv (.int (zI y) :: .int (zI x) :: st) := g_icmp_eq hC hdg ht (fun q => kt ((zI_eq hx hy).mp q)) (fun q => kf (fun r => q ((zI_eq hx hy).mpr r)))
theorem zr_if_ne (hC : gC own cc nL rt nm R d b X) {x : Int} {off : Int} {tgt : Nat} (hx : zR x) (hdg : decode cc pc = .ok (.ifCond .ne off, 3)) (ht : (pc : Int) + off = (tgt : Int)) (kt : ¬ x = 0 → gG X d b Q F k n tgt lv st) (kf : x = 0 → gG X d b Q F k n (pc + 3) lv st) : gG X d b Q F k n pc lv (.int (zI x) :: st) := g_if_ne hC hdg ht (fun q => kt (fun r => q ((zI_eq hx (by decide : zR 0)).mpr r))) (fun q => kf ((zI_eq hx (by decide : zR 0)).mp q))
theorem zr_icmp_ne (hC : gC own cc nL rt nm R d b X) {x y : Int} {off : Int} {tgt : Nat} (hx : zR x) (hy : zR y) (hdg : decode cc pc = .ok (.if_icmp .ne off, 3)) (ht : (pc : Int) + off = (tgt : Int)) (kt : ¬ x = y → gG X d b Q F k n tgt lv st) (kf : x = y → gG X d b Q F k n (pc + 3) lv st) : gG X d b Q F k n pc lv (.int (zI y) :: .int (zI x) :: st) := g_icmp_ne hC hdg ht (fun q => kt (fun r => q ((zI_eq hx hy).mpr r))) (fun q => kf ((zI_eq hx hy).mp q))
theorem zr_if_lt (hC : gC own cc nL rt nm R d b X) {x : Int} {off : Int} {tgt : Nat} (hx : zR x) (hdg : decode cc pc = .ok (.ifCond .lt off, 3)) (ht : (pc : Int) + off = (tgt : Int)) (kt : x < 0 → gG X d b Q F k n tgt lv st) (kf : ¬ x < 0 → gG X d b Q F k n (pc + 3) lv st) : gG X d b Q F k n pc lv (.int (zI x) :: st) := g_if_lt hC hdg ht (fun q => kt ((zI_lt hx (by decide : zR 0)).mp q)) (fun q => kf (fun r => q ((zI_lt hx (by decide : zR 0)).mpr r)))
theorem zr_icmp_lt (hC : gC own cc nL rt nm R d b X) {x y : Int} {off : Int} {tgt : Nat} (hx : zR x) (hy : zR y) (hdg : decode cc pc = .ok (.if_icmp .lt off, 3)) (ht : (pc : Int) + off = (tgt : Int)) (kt : x < y → gG X d b Q F k n tgt lv st) (kf : ¬ x < y → gG X d b Q F k n (pc + 3) lv st) : gG X d b Q F k n pc lv (.int (zI y) :: .int (zI x) :: st) := g_icmp_lt hC hdg ht (fun q => kt ((zI_lt hx hy).mp q)) (fun q => kf (fun r => q ((zI_lt hx hy).mpr r)))
theorem zr_if_ge (hC : gC own cc nL rt nm R d b X) {x : Int} {off : Int} {tgt : Nat} (hx : zR x) (hdg : decode cc pc = .ok (.ifCond .ge off, 3)) (ht : (pc : Int) + off = (tgt : Int)) (kt : 0 ≤ x → gG X d b Q F k n tgt lv st) (kf : ¬ 0 ≤ x → gG X d b Q F k n (pc + 3) lv st) : gG X d b Q F k n pc lv (.int (zI x) :: st) := g_if_ge hC hdg ht (fun q => kt ((zI_le (by decide : zR 0) hx).mp q)) (fun q => kf (fun r => q ((zI_le (by decide : zR 0) hx).mpr r)))
theorem zr_icmp_ge (hC : gC own cc nL rt nm R d b X) {x y : Int} {off : Int} {tgt : Nat} (hx : zR x) (hy : zR y) (hdg : decode cc pc = .ok (.if_icmp .ge off, 3)) (ht : (pc : Int) + off = (tgt : Int)) (kt : y ≤ x → gG X d b Q F k n tgt lv st) (kf : ¬ y ≤ x → gG X d b Q F k n (pc + 3) lv st) : gG X d b Q F k n pc lv (.int (zI y) :: .int (zI x) :: st) := g_icmp_ge hC hdg ht (fun q => kt ((zI_le hy hx).mp q)) (fun q => kf (fun r => q ((zI_le hy hx).mpr r)))
theorem zr_if_gt (hC : gC own cc nL rt nm R d b X) {x : Int} {off : Int} {tgt : Nat} (hx : zR x) (hdg : decode cc pc = .ok (.ifCond .gt off, 3)) (ht : (pc : Int) + off = (tgt : Int)) (kt : 0 < x → gG X d b Q F k n tgt lv st) (kf : ¬ 0 < x → gG X d b Q F k n (pc + 3) lv st) : gG X d b Q F k n pc lv (.int (zI x) :: st) := g_if_gt hC hdg ht (fun q => kt ((zI_lt (by decide : zR 0) hx).mp q)) (fun q => kf (fun r => q ((zI_lt (by decide : zR 0) hx).mpr r)))
theorem zr_icmp_gt (hC : gC own cc nL rt nm R d b X) {x y : Int} {off : Int} {tgt : Nat} (hx : zR x) (hy : zR y) (hdg : decode cc pc = .ok (.if_icmp .gt off, 3)) (ht : (pc : Int) + off = (tgt : Int)) (kt : y < x → gG X d b Q F k n tgt lv st) (kf : ¬ y < x → gG X d b Q F k n (pc + 3) lv st) : gG X d b Q F k n pc lv (.int (zI y) :: .int (zI x) :: st) := g_icmp_gt hC hdg ht (fun q => kt ((zI_lt hy hx).mp q)) (fun q => kf (fun r => q ((zI_lt hy hx).mpr r)))
theorem zr_if_le (hC : gC own cc nL rt nm R d b X) {x : Int} {off : Int} {tgt : Nat} (hx : zR x) (hdg : decode cc pc = .ok (.ifCond .le off, 3)) (ht : (pc : Int) + off = (tgt : Int)) (kt : x ≤ 0 → gG X d b Q F k n tgt lv st) (kf : ¬ x ≤ 0 → gG X d b Q F k n (pc + 3) lv st) : gG X d b Q F k n pc lv (.int (zI x) :: st) := g_if_le hC hdg ht (fun q => kt ((zI_le hx (by decide : zR 0)).mp q)) (fun q => kf (fun r => q ((zI_le hx (by decide : zR 0)).mpr r)))
theorem zr_icmp_le (hC : gC own cc nL rt nm R d b X) {x y : Int} {off : Int} {tgt : Nat} (hx : zR x) (hy : zR y) (hdg : decode cc pc = .ok (.if_icmp .le off, 3)) (ht : (pc : Int) + off = (tgt : Int)) (kt : x ≤ y → gG X d b Q F k n tgt lv st) (kf : ¬ x ≤ y → gG X d b Q F k n (pc + 3) lv st) : gG X d b Q F k n pc lv (.int (zI y) :: .int (zI x) :: st) := g_icmp_le hC hdg ht (fun q => kt ((zI_le hx hy).mp q)) (fun q => kf (fun r => q ((zI_le hx hy).mpr r)))
theorem zr_lif_lt (hC : gC own cc nL rt nm R d b X) {x y : Int} {off : Int} {tgt : Nat} (hx : zL x) (hy : zL y) (hdg : decode cc pc = .ok (.ifCond .lt off, 3)) (ht : (pc : Int) + off = (tgt : Int)) (kt : x < y → gG X d b Q F k n tgt lv st) (kf : ¬ x < y → gG X d b Q F k n (pc + 3) lv st) : gG X d b Q F k n pc lv (.int (lg_cmp (zJ x) (zJ y)) :: st) := g_if_lt hC hdg ht (fun q => kt (((lg_cmp_lt (zJ x) (zJ y)).trans (zJ_lt hx hy)).mp q)) (fun q => kf (fun r => q (((lg_cmp_lt (zJ x) (zJ y)).trans (zJ_lt hx hy)).mpr r)))
theorem zr_lif_ge (hC : gC own cc nL rt nm R d b X) {x y : Int} {off : Int} {tgt : Nat} (hx : zL x) (hy : zL y) (hdg : decode cc pc = .ok (.ifCond .ge off, 3)) (ht : (pc : Int) + off = (tgt : Int)) (kt : y ≤ x → gG X d b Q F k n tgt lv st) (kf : ¬ y ≤ x → gG X d b Q F k n (pc + 3) lv st) : gG X d b Q F k n pc lv (.int (lg_cmp (zJ x) (zJ y)) :: st) := g_if_ge hC hdg ht (fun q => kt (((lg_cmp_ge (zJ x) (zJ y)).trans (zJ_le hy hx)).mp q)) (fun q => kf (fun r => q (((lg_cmp_ge (zJ x) (zJ y)).trans (zJ_le hy hx)).mpr r)))
theorem zr_lif_gt (hC : gC own cc nL rt nm R d b X) {x y : Int} {off : Int} {tgt : Nat} (hx : zL x) (hy : zL y) (hdg : decode cc pc = .ok (.ifCond .gt off, 3)) (ht : (pc : Int) + off = (tgt : Int)) (kt : y < x → gG X d b Q F k n tgt lv st) (kf : ¬ y < x → gG X d b Q F k n (pc + 3) lv st) : gG X d b Q F k n pc lv (.int (lg_cmp (zJ x) (zJ y)) :: st) := g_if_gt hC hdg ht (fun q => kt (((lg_cmp_gt (zJ x) (zJ y)).trans (zJ_lt hy hx)).mp q)) (fun q => kf (fun r => q (((lg_cmp_gt (zJ x) (zJ y)).trans (zJ_lt hy hx)).mpr r)))
theorem zr_lif_le (hC : gC own cc nL rt nm R d b X) {x y : Int} {off : Int} {tgt : Nat} (hx : zL x) (hy : zL y) (hdg : decode cc pc = .ok (.ifCond .le off, 3)) (ht : (pc : Int) + off = (tgt : Int)) (kt : x ≤ y → gG X d b Q F k n tgt lv st) (kf : ¬ x ≤ y → gG X d b Q F k n (pc + 3) lv st) : gG X d b Q F k n pc lv (.int (lg_cmp (zJ x) (zJ y)) :: st) := g_if_le hC hdg ht (fun q => kt (((lg_cmp_le (zJ x) (zJ y)).trans (zJ_le hx hy)).mp q)) (fun q => kf (fun r => q (((lg_cmp_le (zJ x) (zJ y)).trans (zJ_le hx hy)).mpr r)))
theorem g_zald (hC : gC own cc nL rt nm R d b X) {a N : Nat} {f : Nat → Int32} {i : Int32} (hF : F a = .inl (gZ d, N, .inl f)) (hin : vp_in i N) (hdg : decode cc pc = .ok (.baload, 1)) (kk : gG X d b Q F k n (pc + 1) lv (.int (f i.toNatClampNeg) :: st)) : gG X d b Q F k n pc lv (.int i :: .ref a :: st) := fun H locs ls hH hS hL => by
  obtain ⟨L, hP, hD, h0⟩ := id hH
  obtain ⟨q, hm, hq⟩ := gH.at (d := d) (b := b) (H := H) h0 hF g0_a
  exact va_zald (D := d.1) hC.hx hC.hb hC.hv.2.1 hP q 2 hq rfl hin hdg (kk H locs ls hH hS hL)
theorem g_zast (hC : gC own cc nL rt nm R d b X) {a N : Nat} {f : Nat → Int32} {i x : Int32} (hF : F a = .inl (gZ d, N, .inl f)) (hin : vp_in i N) (hdg : decode cc pc = .ok (.bastore, 1)) (kk : gG X d b Q (va_up F a (.inl (gZ d, N, .inl (upd f i.toNatClampNeg (vp_nar .boolean x))))) k n (pc + 1) lv st) : gG X d b Q F k n pc lv (.int x :: .int i :: .ref a :: st) := fun H locs ls hH hS hL => by
  obtain ⟨L, hP, hD, h0⟩ := id hH
  obtain ⟨q, hm, hq⟩ := gH.at (d := d) (b := b) (H := H) h0 hF g0_a
  exact va_zast (D := d.1) hC.hx hC.hb hC.hv.2.1 hP hD hS q 2 hq rfl hin hdg (fun H1 locs1 hP1 hD1 hS1 => kk H1 locs1 ls (gH.set h0 hm hD hq hF hP1 hD1) hS1 hL)
variable {t : Nat} {T : Nat → Nat} {F0 : gM} {s : zS}
theorem zr_get (hC : gC own cc nL rt nm R d b X) (hZ : zZ d t T F0 F s) {idx j : Nat} {ty : FieldType} {fin : Bool} {e : Int} (hl : gFL own idx 12 j ty fin) (hb : zb j = false) (hj : j < 119) (he : zv s j = e) (hdg : decode cc pc = .ok (.getfield idx, 3)) (kk : gG X d b Q F k n (pc + 3) lv (.int (zI e) :: st)) : gG X d b Q F k n pc lv (.ref t :: st) :=
  g_get hC hl hZ.o ((gvl_get hj).trans (by unfold zfv; rw [hb, he]; rfl)) hdg kk
theorem zr_geta (hC : gC own cc nL rt nm R d b X) (hZ : zZ d t T F0 F s) {idx j : Nat} {ty : FieldType} {fin : Bool} (hl : gFL own idx 12 j ty fin) (hb : zb j = true) (hj : j < 119) (hdg : decode cc pc = .ok (.getfield idx, 3)) (kk : gG X d b Q F k n (pc + 3) lv (.ref (T j) :: st)) : gG X d b Q F k n pc lv (.ref t :: st) :=
  g_get hC hl hZ.o ((gvl_get hj).trans (by unfold zfv; rw [hb]; rfl)) hdg kk
theorem zr_put (hC : gC own cc nL rt nm R d b X) (hZ : zZ d t T F0 F s) {idx j : Nat} {x : Int} (hl : gFL own idx 12 j .int false) (hb : zb j = false) (hj : j < 119) (hx : zR x) (hdg : decode cc pc = .ok (.putfield idx, 3)) (kk : ∀ F' : gM, zZ d t T F0 F' (zpv s j x) → gG X d b Q F' k n (pc + 3) lv st) : gG X d b Q F k n pc lv (.int (zI x) :: .ref t :: st) :=
  g_put hC hl hZ.o rfl rfl (by rw [gvl_len]; exact hj) hdg (kk _ (hZ.put hj hb hx))
theorem zr_putZ (hC : gC own cc nL rt nm R d b X) (hZ : zZ d t T F0 F s) {idx j : Nat} {x : Int} (hl : gFL own idx 12 j .boolean false) (hb : zb j = false) (hj : j < 119) (hx : x = 0 ∨ x = 1) (hdg : decode cc pc = .ok (.putfield idx, 3)) (kk : ∀ F' : gM, zZ d t T F0 F' (zpv s j x) → gG X d b Q F' k n (pc + 3) lv st) : gG X d b Q F k n pc lv (.int (zI x) :: .ref t :: st) := by
  have hn : narrow .boolean (.int (zI x)) = .int (zI x) := by rcases hx with rfl | rfl <;> rfl
  have hf : fits .boolean (.int (zI x)) = true := by rcases hx with rfl | rfl <;> rfl
  exact g_put hC hl hZ.o hn hf (by rw [gvl_len]; exact hj) hdg (kk _ (hZ.put hj hb (by rcases hx with rfl | rfl <;> decide)))
theorem zck_iald {j : Nat} (h : zk j = 1) : zck d j = gI d := by unfold zck; rw [h]; rfl
theorem zr_iald (hC : gC own cc nL rt nm R d b X) (hZ : zZ d t T F0 F s) {j N : Nat} {e v : Int} (hk : zk j = 1) (hb : zb j = true) (hn : zn j = N) (hN : N ≤ 2147483648) (h0 : 0 ≤ e) (h1 : e < (N : Int)) (hv : za s j e.toNat = v) (hdg : decode cc pc = .ok (.iaload, 1)) (kk : gG X d b Q F k n (pc + 1) lv (.int (zI v) :: st)) : gG X d b Q F k n pc lv (.int (zI e) :: .ref (T j) :: st) := by
  obtain ⟨q1, q2⟩ := zv_in h0 h1 hN
  have ha := hZ.a j hb
  rw [zck_iald hk, hn] at ha
  refine g_iald hC ha q1 hdg ?_
  rw [q2, hv]
  exact kk
theorem zck_bald {j : Nat} (h : zk j = 2) : zck d j = gY d := by unfold zck; rw [h]; rfl
theorem zr_bald (hC : gC own cc nL rt nm R d b X) (hZ : zZ d t T F0 F s) {j N : Nat} {e v : Int} (hk : zk j = 2) (hb : zb j = true) (hn : zn j = N) (hN : N ≤ 2147483648) (h0 : 0 ≤ e) (h1 : e < (N : Int)) (hv : za s j e.toNat = v) (hdg : decode cc pc = .ok (.baload, 1)) (kk : gG X d b Q F k n (pc + 1) lv (.int (zI v) :: st)) : gG X d b Q F k n pc lv (.int (zI e) :: .ref (T j) :: st) := by
  obtain ⟨q1, q2⟩ := zv_in h0 h1 hN
  have ha := hZ.a j hb
  rw [zck_bald hk, hn] at ha
  refine g_bald hC ha q1 hdg ?_
  rw [q2, hv]
  exact kk
theorem zck_zald {j : Nat} (h : zk j = 3) : zck d j = gZ d := by unfold zck; rw [h]; rfl
theorem zr_zald (hC : gC own cc nL rt nm R d b X) (hZ : zZ d t T F0 F s) {j N : Nat} {e v : Int} (hk : zk j = 3) (hb : zb j = true) (hn : zn j = N) (hN : N ≤ 2147483648) (h0 : 0 ≤ e) (h1 : e < (N : Int)) (hv : za s j e.toNat = v) (hdg : decode cc pc = .ok (.baload, 1)) (kk : gG X d b Q F k n (pc + 1) lv (.int (zI v) :: st)) : gG X d b Q F k n pc lv (.int (zI e) :: .ref (T j) :: st) := by
  obtain ⟨q1, q2⟩ := zv_in h0 h1 hN
  have ha := hZ.a j hb
  rw [zck_zald hk, hn] at ha
  refine g_zald hC ha q1 hdg ?_
  rw [q2, hv]
  exact kk
theorem zr_iast (hC : gC own cc nL rt nm R d b X) (hZ : zZ d t T F0 F s) {j N : Nat} {e x : Int} (hk : zk j = 1) (hb : zb j = true) (hn : zn j = N) (hN : N ≤ 2147483648) (h0 : 0 ≤ e) (h1 : e < (N : Int)) (hx : zR x) (hdg : decode cc pc = .ok (.iastore, 1)) (kk : ∀ F' : gM, zZ d t T F0 F' (zpa s j e.toNat x) → gG X d b Q F' k n (pc + 1) lv st) : gG X d b Q F k n pc lv (.int (zI x) :: .int (zI e) :: .ref (T j) :: st) := by
  obtain ⟨q1, q2⟩ := zv_in h0 h1 hN
  have ha := hZ.a j hb
  have hz := hZ.ast (j := j) (i := e.toNat) (x := x) hb hx
  rw [zck_iald hk, hn] at ha hz
  refine g_iast hC ha q1 hdg ?_
  rw [q2]
  exact kk _ hz
theorem zr_bast (hC : gC own cc nL rt nm R d b X) (hZ : zZ d t T F0 F s) {j N : Nat} {e x : Int} (hk : zk j = 2) (hb : zb j = true) (hn : zn j = N) (hN : N ≤ 2147483648) (h0 : 0 ≤ e) (h1 : e < (N : Int)) (hdg : decode cc pc = .ok (.bastore, 1)) (kk : ∀ F' : gM, zZ d t T F0 F' (zpa s j e.toNat (znb x)) → gG X d b Q F' k n (pc + 1) lv st) : gG X d b Q F k n pc lv (.int (zI x) :: .int (zI e) :: .ref (T j) :: st) := by
  obtain ⟨q1, q2⟩ := zv_in h0 h1 hN
  have ha := hZ.a j hb
  have hz := hZ.ast (j := j) (i := e.toNat) (x := (znb x)) hb (zR_t _)
  rw [zck_bald hk, hn] at ha hz
  refine g_bast hC ha q1 hdg ?_
  rw [q2]
  rw [show zI (znb x) = _ from zI_o _] at hz
  exact kk _ hz
theorem zr_zast (hC : gC own cc nL rt nm R d b X) (hZ : zZ d t T F0 F s) {j N : Nat} {e x : Int} (hk : zk j = 3) (hb : zb j = true) (hn : zn j = N) (hN : N ≤ 2147483648) (h0 : 0 ≤ e) (h1 : e < (N : Int)) (hdg : decode cc pc = .ok (.bastore, 1)) (kk : ∀ F' : gM, zZ d t T F0 F' (zpa s j e.toNat (znz x)) → gG X d b Q F' k n (pc + 1) lv st) : gG X d b Q F k n pc lv (.int (zI x) :: .int (zI e) :: .ref (T j) :: st) := by
  obtain ⟨q1, q2⟩ := zv_in h0 h1 hN
  have ha := hZ.a j hb
  have hz := hZ.ast (j := j) (i := e.toNat) (x := (znz x)) hb (zR_t _)
  rw [zck_zald hk, hn] at ha hz
  refine g_zast hC ha q1 hdg ?_
  rw [q2]
  rw [show zI (znz x) = _ from zI_o _] at hz
  exact kk _ hz
theorem zr_alen (hC : gC own cc nL rt nm R d b X) (hZ : zZ d t T F0 F s) {j N : Nat} (hk : zk j = 1) (hb : zb j = true) (hn : zn j = N) (hdg : decode cc pc = .ok (.arraylength, 1)) (kk : gG X d b Q F k n (pc + 1) lv (.int (zI (N : Int)) :: st)) : gG X d b Q F k n pc lv (.ref (T j) :: st) := by
  have ha := hZ.a j hb
  rw [zck_iald hk, hn] at ha
  refine g_alen hC 0 ha rfl hdg ?_
  have e : nI N = zI (N : Int) := (Int32.ofInt_eq_ofNat (n := N)).symm
  show gG X d b Q F k n (pc + 1) lv (.int (nI N) :: st)
  rw [e]
  exact kk
/-- posts -/
def zPi (d : gD) (t : Nat) (T : Nat → Nat) (F0 : gM) (q : Int → zS → Prop) : Int32 → gM → Prop := fun r F => ∃ (e : Int) (s : zS), r = zI e ∧ zR e ∧ zZ d t T F0 F s ∧ q e s
def zPv (d : gD) (t : Nat) (T : Nat → Nat) (F0 : gM) (q : zS → Prop) : gM → Prop := fun F => ∃ s : zS, zZ d t T F0 F s ∧ q s
abbrev zQi (X : gX) (d : gD) (b t : Nat) (T : Nat → Nat) (F0 : gM) (q : Int → zS → Prop) : State → Prop := MQ X.be (va_Qi (zPi d t T F0 q) (gB d b) (fun q => b ≤ q)) X.ar X.st 0 0 (fun q => b ≤ q)
abbrev zQv (X : gX) (d : gD) (b t : Nat) (T : Nat → Nat) (F0 : gM) (q : zS → Prop) : State → Prop := MQ X.be (va_Qv (zPv d t T F0 q) (gB d b) (fun q => b ≤ q)) X.ar X.st 0 0 (fun q => b ≤ q)
theorem zZ.rf (h : zZ d t T F0 F s) : zZ d t T F F s := ⟨h.1, fun _ _ _ => rfl⟩
theorem zZ.tr {F' : gM} {s' : zS} (h : zZ d t T F0 F s) (h2 : zZ d t T F F' s') : zZ d t T F0 F' s' := ⟨h2.1, fun x a c => (h2.2 x a c).trans (h.2 x a c)⟩
theorem zr_iret (hC : gC own cc nL (some .int) nm R d b X) (hZ : zZ d t T F0 F s) {q : Int → zS → Prop} {e : Int} (he : zR e) (hq : q e s) (hdg : decode cc pc = .ok (.ireturn, 1)) : gG X d b (zQi X d b t T F0 q) F 0 0 pc lv [.int (zI e)] := g_iret hC rfl ⟨e, s, rfl, he, hZ, hq⟩ (Nat.le_refl _) (Nat.le_refl _) hdg
theorem zr_zret (hC : gC own cc nL (some .boolean) nm R d b X) (hZ : zZ d t T F0 F s) {q : Int → zS → Prop} {e : Int} (he : e = 0 ∨ e = 1) (hq : q e s) (hdg : decode cc pc = .ok (.ireturn, 1)) : gG X d b (zQi X d b t T F0 q) F 0 0 pc lv [.int (zI e)] := g_iret hC (by rcases he with rfl | rfl <;> rfl) ⟨e, s, rfl, by rcases he with rfl | rfl <;> decide, hZ, hq⟩ (Nat.le_refl _) (Nat.le_refl _) hdg
theorem zr_vret (hC : gC own cc nL none nm R d b X) (hZ : zZ d t T F0 F s) {q : zS → Prop} (hq : q s) (hdg : decode cc pc = .ok (.return_, 1)) : gG X d b (zQv X d b t T F0 q) F 0 0 pc lv [] := g_vret hC ⟨s, hZ, hq⟩ (Nat.le_refl _) (Nat.le_refl _) hdg
theorem zr_callVi {L0 : Nat} (hC : gC own cc nL rt nm (gR L0 0 0) d b X) (hZ : zZ d t T F0 F s) {y : MethodName} {c2 : ByteArray} {mL nA lvl idx : Nat} {rt0 : FieldType} {T0 : u_T} {N0 : Nat} {As : List Value} {q : Int → zS → Prop} (hc : vwCl[12]? = some (y.cls, T0, N0)) (hm : gMi X.la d b y c2 mL rt0 lvl 0 0 F (.ref t :: As) (zPi d t T F q)) (hl : gCV own idx y c2 mL (some rt0) nA) (hA : As.length = nA) (hn : nL = lv.length) (hr : (st.map fun v => v.category).sum ≤ 8) (hf : lvl + 1 ≤ L0 ∧ mL ≤ 40) (hdg : decode cc pc = .ok (.invokevirtual idx, 3)) (kk : ∀ (e : Int) (s' : zS) (F' : gM), zR e → zZ d t T F0 F' s' → q e s' → gG X d b Q F' 0 0 (pc + 3) lv (.int (zI e) :: st)) : gG X d b Q F 0 0 pc lv (As.reverse ++ .ref t :: st) := by
  refine g_callVi hC hc hZ.o hm hl hA hn hr ⟨⟨hf.1, by show 8 + (mL + 11) + 64 * lvl ≤ 64 * L0; omega⟩, Nat.le_refl _, Nat.le_refl _⟩ hdg (fun r F' hp => ?_)
  obtain ⟨e, s', e1, e2, e3, e4⟩ := hp
  subst e1
  exact kk e s' F' e2 (hZ.tr e3) e4
theorem zr_callVv {L0 : Nat} (hC : gC own cc nL rt nm (gR L0 0 0) d b X) (hZ : zZ d t T F0 F s) {y : MethodName} {c2 : ByteArray} {mL nA lvl idx : Nat} {T0 : u_T} {N0 : Nat} {As : List Value} {q : zS → Prop} (hc : vwCl[12]? = some (y.cls, T0, N0)) (hm : gMv X.la d b y c2 mL lvl 0 0 F (.ref t :: As) (zPv d t T F q)) (hl : gCV own idx y c2 mL none nA) (hA : As.length = nA) (hn : nL = lv.length) (hr : (st.map fun v => v.category).sum ≤ 8) (hf : lvl + 1 ≤ L0 ∧ mL ≤ 40) (hdg : decode cc pc = .ok (.invokevirtual idx, 3)) (kk : ∀ (s' : zS) (F' : gM), zZ d t T F0 F' s' → q s' → gG X d b Q F' 0 0 (pc + 3) lv st) : gG X d b Q F 0 0 pc lv (As.reverse ++ .ref t :: st) := by
  refine g_callVv hC hc hZ.o hm hl hA hn hr ⟨⟨hf.1, by show 8 + (mL + 11) + 64 * lvl ≤ 64 * L0; omega⟩, Nat.le_refl _, Nat.le_refl _⟩ hdg (fun F' hp => ?_)
  obtain ⟨s', e3, e4⟩ := hp
  exact kk s' F' (hZ.tr e3) e4
theorem zr_callSi {L0 : Nat} (hC : gC own cc nL rt nm (gR L0 0 0) d b X) (hZ : zZ d t T F0 F s) {y : MethodName} {c2 : ByteArray} {mL nA lvl idx : Nat} {rt0 : FieldType} {As : List Value} {q : Int → zS → Prop} (hm : gMi X.la d b y c2 mL rt0 lvl 0 0 F As (zPi d t T F q)) (hl : gCS own idx y c2 mL (some rt0) nA) (hA : As.length = nA) (hn : nL = lv.length) (hr : (st.map fun v => v.category).sum ≤ 8) (hf : lvl + 1 ≤ L0 ∧ mL ≤ 40) (hdg : decode cc pc = .ok (.invokestatic idx, 3)) (kk : ∀ (e : Int) (s' : zS) (F' : gM), zR e → zZ d t T F0 F' s' → q e s' → gG X d b Q F' 0 0 (pc + 3) lv (.int (zI e) :: st)) : gG X d b Q F 0 0 pc lv (As.reverse ++ st) := by
  refine g_callSi hC hm hl hA hn hr ⟨⟨hf.1, by show 8 + (mL + 11) + 64 * lvl ≤ 64 * L0; omega⟩, Nat.le_refl _, Nat.le_refl _⟩ hdg (fun r F' hp => ?_)
  obtain ⟨e, s', e1, e2, e3, e4⟩ := hp
  subst e1
  exact kk e s' F' e2 (hZ.tr e3) e4
theorem zr_callSv {L0 : Nat} (hC : gC own cc nL rt nm (gR L0 0 0) d b X) (hZ : zZ d t T F0 F s) {y : MethodName} {c2 : ByteArray} {mL nA lvl idx : Nat} {As : List Value} {q : zS → Prop} (hm : gMv X.la d b y c2 mL lvl 0 0 F As (zPv d t T F q)) (hl : gCS own idx y c2 mL none nA) (hA : As.length = nA) (hn : nL = lv.length) (hr : (st.map fun v => v.category).sum ≤ 8) (hf : lvl + 1 ≤ L0 ∧ mL ≤ 40) (hdg : decode cc pc = .ok (.invokestatic idx, 3)) (kk : ∀ (s' : zS) (F' : gM), zZ d t T F0 F' s' → q s' → gG X d b Q F' 0 0 (pc + 3) lv st) : gG X d b Q F 0 0 pc lv (As.reverse ++ st) := by
  refine g_callSv hC hm hl hA hn hr ⟨⟨hf.1, by show 8 + (mL + 11) + 64 * lvl ≤ 64 * L0; omega⟩, Nat.le_refl _, Nat.le_refl _⟩ hdg (fun F' hp => ?_)
  obtain ⟨s', e3, e4⟩ := hp
  exact kk s' F' (hZ.tr e3) e4
end ZR
theorem zb_0 : zb 0 = false := rfl
theorem zb_1 : zb 1 = true := rfl
theorem zk_1 : zk 1 = 2 := rfl
theorem zn_1 : zn 1 = 6000 := rfl
theorem zb_2 : zb 2 = false := rfl
theorem zb_3 : zb 3 = true := rfl
theorem zk_3 : zk 3 = 2 := rfl
theorem zn_3 : zn 3 = 6000 := rfl
theorem zb_4 : zb 4 = false := rfl
theorem zb_5 : zb 5 = false := rfl
theorem zb_6 : zb 6 = true := rfl
theorem zk_6 : zk 6 = 1 := rfl
theorem zn_6 : zn 6 = 3100 := rfl
theorem zb_7 : zb 7 = true := rfl
theorem zk_7 : zk 7 = 1 := rfl
theorem zn_7 : zn 7 = 3100 := rfl
theorem zb_8 : zb 8 = false := rfl
theorem zb_9 : zb 9 = true := rfl
theorem zk_9 : zk 9 = 1 := rfl
theorem zn_9 : zn 9 = 12100 := rfl
theorem zb_10 : zb 10 = true := rfl
theorem zk_10 : zk 10 = 1 := rfl
theorem zn_10 : zn 10 = 12100 := rfl
theorem zb_11 : zb 11 = true := rfl
theorem zk_11 : zk 11 = 1 := rfl
theorem zn_11 : zn 11 = 12100 := rfl
theorem zb_12 : zb 12 = false := rfl
theorem zb_13 : zb 13 = false := rfl
theorem zb_14 : zb 14 = true := rfl
theorem zk_14 : zk 14 = 2 := rfl
theorem zn_14 : zn 14 = 6000 := rfl
theorem zb_15 : zb 15 = false := rfl
theorem zb_16 : zb 16 = true := rfl
theorem zk_16 : zk 16 = 1 := rfl
theorem zn_16 : zn 16 = 3100 := rfl
theorem zb_17 : zb 17 = true := rfl
theorem zk_17 : zk 17 = 1 := rfl
theorem zn_17 : zn 17 = 3100 := rfl
theorem zb_18 : zb 18 = false := rfl
theorem zb_19 : zb 19 = false := rfl
theorem zb_20 : zb 20 = false := rfl
theorem zb_21 : zb 21 = false := rfl
theorem zb_22 : zb 22 = false := rfl
theorem zb_23 : zb 23 = false := rfl
theorem zb_24 : zb 24 = false := rfl
theorem zb_25 : zb 25 = true := rfl
theorem zk_25 : zk 25 = 2 := rfl
theorem zn_25 : zn 25 = 26000 := rfl
theorem zb_26 : zb 26 = true := rfl
theorem zk_26 : zk 26 = 1 := rfl
theorem zn_26 : zn 26 = 26000 := rfl
theorem zb_27 : zb 27 = true := rfl
theorem zk_27 : zk 27 = 1 := rfl
theorem zn_27 : zn 27 = 26000 := rfl
theorem zb_28 : zb 28 = true := rfl
theorem zk_28 : zk 28 = 1 := rfl
theorem zn_28 : zn 28 = 26000 := rfl
theorem zb_29 : zb 29 = true := rfl
theorem zk_29 : zk 29 = 1 := rfl
theorem zn_29 : zn 29 = 26000 := rfl
theorem zb_30 : zb 30 = true := rfl
theorem zk_30 : zk 30 = 1 := rfl
theorem zn_30 : zn 30 = 26000 := rfl
theorem zb_31 : zb 31 = true := rfl
theorem zk_31 : zk 31 = 1 := rfl
theorem zn_31 : zn 31 = 26000 := rfl
theorem zb_32 : zb 32 = true := rfl
theorem zk_32 : zk 32 = 1 := rfl
theorem zn_32 : zn 32 = 26000 := rfl
theorem zb_33 : zb 33 = true := rfl
theorem zk_33 : zk 33 = 1 := rfl
theorem zn_33 : zn 33 = 26000 := rfl
theorem zb_34 : zb 34 = true := rfl
theorem zk_34 : zk 34 = 1 := rfl
theorem zn_34 : zn 34 = 26000 := rfl
theorem zb_35 : zb 35 = true := rfl
theorem zk_35 : zk 35 = 3 := rfl
theorem zn_35 : zn 35 = 26000 := rfl
theorem zb_36 : zb 36 = true := rfl
theorem zk_36 : zk 36 = 1 := rfl
theorem zn_36 : zn 36 = 26000 := rfl
theorem zb_37 : zb 37 = false := rfl
theorem zb_38 : zb 38 = false := rfl
theorem zb_39 : zb 39 = true := rfl
theorem zk_39 : zk 39 = 1 := rfl
theorem zn_39 : zn 39 = 9000 := rfl
theorem zb_40 : zb 40 = true := rfl
theorem zk_40 : zk 40 = 1 := rfl
theorem zn_40 : zn 40 = 9000 := rfl
theorem zb_41 : zb 41 = true := rfl
theorem zk_41 : zk 41 = 1 := rfl
theorem zn_41 : zn 41 = 9000 := rfl
theorem zb_42 : zb 42 = true := rfl
theorem zk_42 : zk 42 = 1 := rfl
theorem zn_42 : zn 42 = 9000 := rfl
theorem zb_43 : zb 43 = false := rfl
theorem zb_44 : zb 44 = false := rfl
theorem zb_45 : zb 45 = false := rfl
theorem zb_46 : zb 46 = true := rfl
theorem zk_46 : zk 46 = 1 := rfl
theorem zn_46 : zn 46 = 70 := rfl
theorem zb_47 : zb 47 = true := rfl
theorem zk_47 : zk 47 = 1 := rfl
theorem zn_47 : zn 47 = 70 := rfl
theorem zb_48 : zb 48 = false := rfl
theorem zb_49 : zb 49 = false := rfl
theorem zb_50 : zb 50 = true := rfl
theorem zk_50 : zk 50 = 1 := rfl
theorem zn_50 : zn 50 = 9000 := rfl
theorem zb_51 : zb 51 = true := rfl
theorem zk_51 : zk 51 = 1 := rfl
theorem zn_51 : zn 51 = 9000 := rfl
theorem zb_52 : zb 52 = true := rfl
theorem zk_52 : zk 52 = 1 := rfl
theorem zn_52 : zn 52 = 9000 := rfl
theorem zb_53 : zb 53 = true := rfl
theorem zk_53 : zk 53 = 1 := rfl
theorem zn_53 : zn 53 = 9000 := rfl
theorem zb_54 : zb 54 = true := rfl
theorem zk_54 : zk 54 = 1 := rfl
theorem zn_54 : zn 54 = 9000 := rfl
theorem zb_55 : zb 55 = false := rfl
theorem zb_56 : zb 56 = true := rfl
theorem zk_56 : zk 56 = 1 := rfl
theorem zn_56 : zn 56 = 18 := rfl
theorem zb_57 : zb 57 = true := rfl
theorem zk_57 : zk 57 = 1 := rfl
theorem zn_57 : zn 57 = 9000 := rfl
theorem zb_58 : zb 58 = false := rfl
theorem zb_59 : zb 59 = false := rfl
theorem zb_60 : zb 60 = true := rfl
theorem zk_60 : zk 60 = 1 := rfl
theorem zn_60 : zn 60 = 26000 := rfl
theorem zb_61 : zb 61 = true := rfl
theorem zk_61 : zk 61 = 1 := rfl
theorem zn_61 : zn 61 = 26000 := rfl
theorem zb_62 : zb 62 = true := rfl
theorem zk_62 : zk 62 = 1 := rfl
theorem zn_62 : zn 62 = 26000 := rfl
theorem zb_63 : zb 63 = false := rfl
theorem zb_64 : zb 64 = true := rfl
theorem zk_64 : zk 64 = 1 := rfl
theorem zn_64 : zn 64 = 26000 := rfl
theorem zb_65 : zb 65 = true := rfl
theorem zk_65 : zk 65 = 1 := rfl
theorem zn_65 : zn 65 = 26000 := rfl
theorem zb_66 : zb 66 = true := rfl
theorem zk_66 : zk 66 = 1 := rfl
theorem zn_66 : zn 66 = 26000 := rfl
theorem zb_67 : zb 67 = false := rfl
theorem zb_68 : zb 68 = true := rfl
theorem zk_68 : zk 68 = 1 := rfl
theorem zn_68 : zn 68 = 60000 := rfl
theorem zb_69 : zb 69 = false := rfl
theorem zb_70 : zb 70 = true := rfl
theorem zk_70 : zk 70 = 1 := rfl
theorem zn_70 : zn 70 = 3100 := rfl
theorem zb_71 : zb 71 = true := rfl
theorem zk_71 : zk 71 = 1 := rfl
theorem zn_71 : zn 71 = 3100 := rfl
theorem zb_72 : zb 72 = true := rfl
theorem zk_72 : zk 72 = 1 := rfl
theorem zn_72 : zn 72 = 3100 := rfl
theorem zb_73 : zb 73 = false := rfl
theorem zb_74 : zb 74 = false := rfl
theorem zb_75 : zb 75 = false := rfl
theorem zb_76 : zb 76 = false := rfl
theorem zb_77 : zb 77 = false := rfl
theorem zb_78 : zb 78 = false := rfl
theorem zb_79 : zb 79 = false := rfl
theorem zb_80 : zb 80 = false := rfl
theorem zb_81 : zb 81 = false := rfl
theorem zb_82 : zb 82 = false := rfl
theorem zb_83 : zb 83 = false := rfl
theorem zb_84 : zb 84 = false := rfl
theorem zb_85 : zb 85 = true := rfl
theorem zk_85 : zk 85 = 1 := rfl
theorem zn_85 : zn 85 = 9000 := rfl
theorem zb_86 : zb 86 = true := rfl
theorem zk_86 : zk 86 = 1 := rfl
theorem zn_86 : zn 86 = 9000 := rfl
theorem zb_87 : zb 87 = false := rfl
theorem zb_88 : zb 88 = true := rfl
theorem zk_88 : zk 88 = 1 := rfl
theorem zn_88 : zn 88 = 620000 := rfl
theorem zb_89 : zb 89 = true := rfl
theorem zk_89 : zk 89 = 1 := rfl
theorem zn_89 : zn 89 = 620000 := rfl
theorem zb_90 : zb 90 = true := rfl
theorem zk_90 : zk 90 = 1 := rfl
theorem zn_90 : zn 90 = 620000 := rfl
theorem zb_91 : zb 91 = false := rfl
theorem zb_92 : zb 92 = true := rfl
theorem zk_92 : zk 92 = 1 := rfl
theorem zn_92 : zn 92 = 300000 := rfl
theorem zb_93 : zb 93 = true := rfl
theorem zk_93 : zk 93 = 1 := rfl
theorem zn_93 : zn 93 = 600 := rfl
theorem zb_94 : zb 94 = true := rfl
theorem zk_94 : zk 94 = 1 := rfl
theorem zn_94 : zn 94 = 600 := rfl
theorem zb_95 : zb 95 = false := rfl
theorem zb_96 : zb 96 = false := rfl
theorem zb_97 : zb 97 = false := rfl
theorem zb_98 : zb 98 = true := rfl
theorem zk_98 : zk 98 = 1 := rfl
theorem zn_98 : zn 98 = 65536 := rfl
theorem zb_99 : zb 99 = false := rfl
theorem zb_100 : zb 100 = false := rfl
theorem zb_101 : zb 101 = false := rfl
theorem zb_102 : zb 102 = false := rfl
theorem zb_103 : zb 103 = false := rfl
theorem zb_104 : zb 104 = false := rfl
theorem zb_105 : zb 105 = false := rfl
theorem zb_106 : zb 106 = false := rfl
theorem zb_107 : zb 107 = true := rfl
theorem zk_107 : zk 107 = 1 := rfl
theorem zn_107 : zn 107 = 100 := rfl
theorem zb_108 : zb 108 = true := rfl
theorem zk_108 : zk 108 = 1 := rfl
theorem zn_108 : zn 108 = 100 := rfl
theorem zb_109 : zb 109 = true := rfl
theorem zk_109 : zk 109 = 2 := rfl
theorem zn_109 : zn 109 = 24000 := rfl
theorem zb_110 : zb 110 = true := rfl
theorem zk_110 : zk 110 = 1 := rfl
theorem zn_110 : zn 110 = 24000 := rfl
theorem zb_111 : zb 111 = true := rfl
theorem zk_111 : zk 111 = 1 := rfl
theorem zn_111 : zn 111 = 24000 := rfl
theorem zb_112 : zb 112 = true := rfl
theorem zk_112 : zk 112 = 1 := rfl
theorem zn_112 : zn 112 = 4 := rfl
theorem zb_113 : zb 113 = true := rfl
theorem zk_113 : zk 113 = 1 := rfl
theorem zn_113 : zn 113 = 4 := rfl
theorem zb_114 : zb 114 = false := rfl
theorem zb_115 : zb 115 = true := rfl
theorem zk_115 : zk 115 = 2 := rfl
theorem zn_115 : zn 115 = 8192 := rfl
theorem zb_116 : zb 116 = true := rfl
theorem zk_116 : zk 116 = 1 := rfl
theorem zn_116 : zn 116 = 2 := rfl
theorem zb_117 : zb 117 = false := rfl
theorem zb_118 : zb 118 = true := rfl
theorem zk_118 : zk 118 = 2 := rfl
theorem zn_118 : zn 118 = 12 := rfl
