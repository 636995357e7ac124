/-! ROOM TOLD BY THE HEAP: b is the heap's size at the law's start; gsm b H: the slots of all cells from b on. A judgement hG says what gG says, but its two numbers are absolute: at most k cells are there in all, at most n slots from b on; never more than the claim's own room (gKm b, gNm). A contract of this layer (hMi ..) takes all the room that is left, and tells in its post how much is there then: so what was made can be told by the state that came out. -/
def gsm (b : Nat) (H : Heap) : Nat := ((H.toList.drop b).map (fun c => c.slots.size)).sum
abbrev gKm (b : Nat) : Nat := b + 598000
abbrev gNm : Nat := 7295000
theorem gsm_split {b : Nat} {H0 H : Heap} (hb : b ≤ H0.size) (hz : H0.size ≤ H.size) (hk : ∀ (a : Nat) (c : Cell), H0[a]? = some c → ∃ c' : Cell, H[a]? = some c' ∧ c'.slots.size = c.slots.size) : gsm b H = gsm b H0 + ((H.toList.drop H0.size).map (fun c => c.slots.size)).sum := by
  have e : (H.toList.take H0.size).map (fun c => c.slots.size) = H0.toList.map (fun c => c.slots.size) := by
    apply List.ext_getElem?
    intro i
    rw [List.getElem?_map, List.getElem?_map, List.getElem?_take]
    by_cases hi : i < H0.size
    · rw [if_pos hi, Array.getElem?_toList, Array.getElem?_toList]
      obtain ⟨c', h1, h2⟩ := hk i H0[i] (Array.getElem?_eq_getElem hi)
      rw [h1, Array.getElem?_eq_getElem hi]
      exact congrArg some h2
    · rw [if_neg hi, Array.getElem?_toList, Array.getElem?_eq_none (Nat.not_lt.mp hi)]
  have e2 : H.toList.drop b = (H.toList.take H0.size).drop b ++ H.toList.drop H0.size := by
    have h := List.drop_append_of_le_length (l₁ := H.toList.take H0.size) (l₂ := H.toList.drop H0.size) (i := b) (by rw [List.length_take, Array.length_toList]; omega)
    rw [List.take_append_drop] at h
    exact h
  unfold gsm
  rw [e2, List.map_append, List.sum_append, List.map_drop, e, ← List.map_drop]
/-- the numbers of a walk are what the heap says -/
theorem W_abs {p : Program} {l : Launch} {e : Env} {R : Room} {s : State} {m : MethodId} {args : Array Value} {below : List Frame} {meth : Method} {c : Code} {H : Heap} {locs : List Loc} {cells slots : Nat} {Q : State → Prop} {g : JFrame} {b : Nat} (hb : b ≤ s.heap.size) (kk : s.heap.size ≤ H.size → H.size ≤ s.heap.size + cells → gsm b s.heap ≤ gsm b H → gsm b H ≤ gsm b s.heap + slots → W p l e R s m args below meth c H locs (H.size - s.heap.size) (gsm b H - gsm b s.heap) Q g) : W p l e R s m args below meth c H locs cells slots Q g := fun T hT X => by
  subst hT
  obtain ⟨h1, h2, h3, h4, h5, h6⟩ := X.same
  have e := gsm_split (b := b) (H0 := s.heap) (H := T.heap) hb h2 (fun a c hc => by
    obtain ⟨c', g1, -, g3, -⟩ := h6 a c hc
    exact ⟨c', g1, g3⟩)
  have h5' : ((T.heap.toList.drop s.heap.size).map (fun c => c.slots.size)).sum ≤ slots := h5
  have h3' : T.heap.size ≤ s.heap.size + cells := h3
  have h2' : s.heap.size ≤ T.heap.size := h2
  exact kk h2 h3 (by omega) (by omega) T rfl ⟨X.admits, X.cas, X.clock, X.frames, X.room, X.hears, X.method, X.code, X.here, X.tail, X.warmed, X.limits, X.bytes, ⟨h1, h2, by show T.heap.size ≤ s.heap.size + (T.heap.size - s.heap.size); omega, h4, by show ((T.heap.toList.drop s.heap.size).map (fun c => c.slots.size)).sum ≤ _; omega, h6⟩⟩
theorem xW_abs {p : Program} {l : Launch} {e : Env} {R : Room} {s : State} {m : MethodId} {args : Array Value} {below : List Frame} {meth : Method} {c : Code} {H : Heap} {locs : List Loc} {cells slots : Nat} {Q : State → Prop} {g : JFrame} {q : Addr} {b : Nat} (hb : b ≤ s.heap.size) (kk : s.heap.size ≤ H.size → H.size ≤ s.heap.size + cells → gsm b s.heap ≤ gsm b H → gsm b H ≤ gsm b s.heap + slots → vx_W p l e R s m args below meth c H locs (H.size - s.heap.size) (gsm b H - gsm b s.heap) Q g q) : vx_W p l e R s m args below meth c H locs cells slots Q g q := fun T hT X => by
  subst hT
  obtain ⟨h1, h2, h3, h4, h5, h6⟩ := X.same
  have e := gsm_split (b := b) (H0 := s.heap) (H := T.heap) hb h2 (fun a c hc => by
    obtain ⟨c', g1, -, g3, -⟩ := h6 a c hc
    exact ⟨c', g1, g3⟩)
  have h5' : ((T.heap.toList.drop s.heap.size).map (fun c => c.slots.size)).sum ≤ slots := h5
  have h3' : T.heap.size ≤ s.heap.size + cells := h3
  have h2' : s.heap.size ≤ T.heap.size := h2
  exact kk h2 h3 (by omega) (by omega) T rfl ⟨X.admits, X.cas, X.clock, X.frames, X.room, X.hears, X.method, X.code, X.here, X.tail, X.warmed, X.limits, X.bytes, ⟨h1, h2, by show T.heap.size ≤ s.heap.size + (T.heap.size - s.heap.size); omega, h4, by show ((T.heap.toList.drop s.heap.size).map (fun c => c.slots.size)).sum ≤ _; omega, h6⟩⟩
theorem xW_widen {p : Program} {l : Launch} {e : Env} {R : Room} {s : State} {m : MethodId} {args : Array Value} {below : List Frame} {meth : Method} {c : Code} {H : Heap} {locs : List Loc} {cells slots : Nat} {Q : State → Prop} {g : JFrame} {q : Addr} {k n : Nat} (h1 : cells ≤ k) (h2 : slots ≤ n) (kk : vx_W p l e R s m args below meth c H locs k n Q g q) : vx_W p l e R s m args below meth c H locs cells slots Q g q := fun T hT X => kk T hT (stand_widen X h1 h2)
/-- a world and how much is there -/
abbrev hU : Type := gM × Nat × Nat
def hG (X : gX) (d : gD) (b : Nat) (Q : State → Prop) (F : gM) (k n pc : Nat) (lv : List (Option Value)) (st : List Value) : Prop := gG X d b Q F (min k (gKm b) - X.st.heap.size) (min n gNm - gsm b X.st.heap) pc lv st
def hOk (X : gX) (b k n : Nat) : Prop := X.st.heap.size ≤ min k (gKm b) ∧ gsm b X.st.heap ≤ min n gNm
def hRm (X : gX) (b : Nat) : Prop := gKm b ≤ X.st.heap.size + X.rm.cells ∧ gNm ≤ gsm b X.st.heap + X.rm.slots
def hB (d : gD) (b : Nat) (u : hU) (U : State) : Prop := gB d b u.1 U ∧ U.heap.size ≤ min u.2.1 (gKm b) ∧ gsm b U.heap ≤ min u.2.2 gNm
def hP (d : gD) (b : Nat) (F : gM) (k n mc ms : Nat) (U : State) : Prop := hB d b (F, k, n) U ∧ gKm b ≤ U.heap.size + mc ∧ gNm ≤ gsm b U.heap + ms
theorem hP.blind {d : gD} {b : Nat} {F : gM} {k n mc ms : Nat} {av : List Value} : FrameBlind (va_Pc av (hP d b F k n mc ms)) := fun a U g mk h => ⟨h.1, ⟨⟨h.2.1.1.1.vm rfl rfl, h.2.1.1.2⟩, h.2.1.2⟩, h.2.2⟩
def hMi (l : Launch) (d : gD) (b : Nat) (y : MethodName) (cc : ByteArray) (mL : Nat) (rt : FieldType) (lvl k n : Nat) (F : gM) (As : List Value) (post : Int32 → hU → Prop) : Prop :=
  ∀ mc ms, Met l y (gw y cc mL (some rt)) (gR lvl mc ms) (va_Pc As (hP d b F k n mc ms)) (va_Qi post (hB d b) (fun q => b ≤ q)) mc ms (fun q => b ≤ q)
def hMv (l : Launch) (d : gD) (b : Nat) (y : MethodName) (cc : ByteArray) (mL : Nat) (lvl k n : Nat) (F : gM) (As : List Value) (post : hU → Prop) : Prop :=
  ∀ mc ms, Met l y (gw y cc mL none) (gR lvl mc ms) (va_Pc As (hP d b F k n mc ms)) (va_Qv post (hB d b) (fun q => b ≤ q)) mc ms (fun q => b ≤ q)
def hMl (l : Launch) (d : gD) (b : Nat) (y : MethodName) (cc : ByteArray) (mL : Nat) (lvl k n : Nat) (F : gM) (As : List Value) (post : Int64 → hU → Prop) : Prop :=
  ∀ mc ms, Met l y (gw y cc mL (some .long)) (gR lvl mc ms) (va_Pc As (hP d b F k n mc ms)) (va_Ql post (hB d b) (fun q => b ≤ q)) mc ms (fun q => b ≤ q)
def hMq (l : Launch) (d : gD) (b : Nat) (y : MethodName) (cc : ByteArray) (mL : Nat) (rt : FieldType) (lvl k n : Nat) (F : gM) (As : List Value) (post : Option Nat → hU → Prop) : Prop :=
  ∀ mc ms, Met l y (gw y cc mL (some rt)) (gR lvl mc ms) (va_Pc As (hP d b F k n mc ms)) (va_Qq post (hB d b) (fun q => b ≤ q)) mc ms (fun q => b ≤ q)
section HR
variable {own : String} {cc : ByteArray} {nL : Nat} {rt : Option FieldType} {nm : String} {R : Room} {d : gD} {b : Nat} {X : gX} {Q : State → Prop} {F : gM} {k n pc : Nat} {lv : List (Option Value)} {st : List Value} {mc ms : Nat}
theorem hR_R (hC : gC own cc nL rt nm R d b X) (h : hRm X b) : gKm b ≤ X.st.heap.size + R.cells ∧ gNm ≤ gsm b X.st.heap + R.slots := by
  have e := hC.hR
  subst e
  exact h
/-- a step that makes a known number -/
theorem h_to {a c : Nat} (hC : gC own cc nL rt nm R d b X) (ho : hOk X b k n) (h1 : k + a ≤ gKm b) (h2 : n + c ≤ gNm) (kk : hOk X b (k + a) (n + c) → hG X d b Q F (k + a) (n + c) pc lv st) : gG X d b Q F (min k (gKm b) - X.st.heap.size + a) (min n gNm - gsm b X.st.heap + c) pc lv st := by
  obtain ⟨o1, o2⟩ := ho
  have e1 : min k (gKm b) = k := Nat.min_eq_left (by omega)
  have e2 : min n gNm = n := Nat.min_eq_left (by omega)
  have e3 : min (k + a) (gKm b) = k + a := Nat.min_eq_left h1
  have e4 : min (n + c) gNm = n + c := Nat.min_eq_left h2
  rw [e1] at o1
  rw [e2] at o2
  have hk := kk ⟨by rw [e3]; omega, by rw [e4]; omega⟩
  unfold hG at hk
  rw [e3, e4] at hk
  rw [e1, e2]
  exact g_widen (by omega) (by omega) hk
/-- room for it -/
theorem h_fit {lvl mL a c : Nat} (hC : gC own cc nL rt nm R d b X) (hr : hRm X b) (ho : hOk X b k n) (hf : lvl + 1 ≤ R.frames ∧ 8 + (mL + 11) + 64 * lvl ≤ R.locals) (h1 : k + a ≤ gKm b) (h2 : n + c ≤ gNm) : gFit R lvl mL (min k (gKm b) - X.st.heap.size) (min n gNm - gsm b X.st.heap) a c := by
  obtain ⟨r1, r2⟩ := hR_R hC hr
  obtain ⟨o1, o2⟩ := ho
  have e1 : min k (gKm b) = k := Nat.min_eq_left (by omega)
  have e2 : min n gNm = n := Nat.min_eq_left (by omega)
  rw [e1] at o1 ⊢
  rw [e2] at o2 ⊢
  exact ⟨hf, by omega, by omega⟩
/-- nothing is asked of the room -/
theorem h_le (hC : gC own cc nL rt nm R d b X) (hr : hRm X b) (ho : hOk X b k n) : min k (gKm b) - X.st.heap.size ≤ R.cells ∧ min n gNm - gsm b X.st.heap ≤ R.slots := by
  obtain ⟨r1, r2⟩ := hR_R hC hr
  have e1 := Nat.min_le_right k (gKm b)
  have e2 := Nat.min_le_right n gNm
  exact ⟨by omega, by omega⟩
theorem h_rm {a c : Nat} (hC : gC own cc nL rt nm R d b X) (hr : hRm X b) (ho : hOk X b k n) (h1 : k + a ≤ gKm b) (h2 : n + c ≤ gNm) : min k (gKm b) - X.st.heap.size + a ≤ R.cells ∧ min n gNm - gsm b X.st.heap + c ≤ R.slots := by
  obtain ⟨r1, r2⟩ := hR_R hC hr
  obtain ⟨o1, o2⟩ := ho
  have e1 : min k (gKm b) = k := Nat.min_eq_left (by omega)
  have e2 : min n gNm = n := Nat.min_eq_left (by omega)
  rw [e1] at o1 ⊢
  rw [e2] at o2 ⊢
  exact ⟨by omega, by omega⟩
theorem h_new (hC : gC own cc nL rt nm R d b X) (hr : hRm X b) (ho : hOk X b k n) {idx ci N : Nat} {fs : List Value} (hl : gNL own idx ci N fs) (hk : k + 1 ≤ gKm b) (hs : n + N ≤ gNm) (hdg : decode cc pc = .ok (.new idx, 3)) (kk : ∀ q : Nat, F q = g0 → hOk X b (k + 1) (n + N) → hG X d b Q (va_up F q (.inr (ci, fs))) (k + 1) (n + N) (pc + 3) lv (.ref q :: st)) : hG X d b Q F k n pc lv st :=
  g_new hC hl (h_rm hC hr ho hk hs).1 (h_rm hC hr ho hk hs).2 hdg (fun q hq => h_to hC ho hk hs (kk q hq))
theorem h_newa (hC : gC own cc nL rt nm R d b X) (hr : hRm X b) (ho : hOk X b k n) {atype : ArrayType} {cA : ClassId} (t0 : Nat) {i : Int32} {N : Nat} {a0 : vp_A} (hw : Cond.arrayClass (newarray.typeOf atype) ∈ gWs) (ht : (gtys d)[t0]? = some (cA, newarray.typeOf atype)) (h5 : t0 < 4) (ha : ∀ cA : ClassId, vp_cell cA a0 = arrV cA N (fun _ => defaultValue (newarray.typeOf atype))) (hn : ¬ i < 0) (hN : i.toNatClampNeg = N) (hbytes : N * componentBytes (newarray.typeOf atype) ≤ 536870912) (hk : k + 1 ≤ gKm b) (hs : n + N ≤ gNm) (hdg : decode cc pc = .ok (.newarray atype, 2)) (kk : ∀ q : Nat, F q = g0 → hOk X b (k + 1) (n + N) → hG X d b Q (va_up F q (.inl (cA, a0))) (k + 1) (n + N) (pc + 2) lv (.ref q :: st)) : hG X d b Q F k n pc lv (.int i :: st) :=
  g_newa hC t0 hw ht h5 ha hn hN hbytes (h_rm hC hr ho hk hs).1 (h_rm hC hr ho hk hs).2 hdg (fun q hq => h_to hC ho hk hs (kk q hq))
/-- the world and the room at a moment of the walk -/
theorem hE_B (hC : gC own cc nL rt nm R d b X) {H : Heap} {locs : List Loc} (hH : gH d b F H) (hS : va_S (fun q => b ≤ q) X.st.heap H locs) (z1 : H.size ≤ min k (gKm b)) (z2 : gsm b H ≤ min n gNm) {t : State} (ht : t.heap = H) (hW : X.st.WarmedH t.vm) : hB d b (F, k, n) t := ⟨gE_B hC hH hS ht hW, by rw [ht]; exact z1, by rw [ht]; exact z2⟩
/-- at a world: the numbers are what the heap says -/
theorem h_at (hC : gC own cc nL rt nm R d b X) (ho : hOk X b k n) (kk : ∀ (H : Heap) (locs : List Loc) (ls : Array Slot), gH d b F H → va_S (fun q => b ≤ q) X.st.heap H locs → gL lv ls → X.st.heap.size ≤ H.size → H.size ≤ min k (gKm b) → gsm b X.st.heap ≤ gsm b H → gsm b H ≤ min n gNm → gW X H locs (H.size - X.st.heap.size) (gsm b H - gsm b X.st.heap) Q (F0 X.mi pc ls st)) : hG X d b Q F k n pc lv st := fun H locs ls hH hS hL =>
  W_abs hC.hv.1 (fun z1 z2 z3 z4 => kk H locs ls hH hS hL z1 (by have := ho.1; omega) z3 (by have := ho.2; omega))
/-- behind a call that took all the room -/
theorem h_back (hC : gC own cc nL rt nm R d b X) {H : Heap} {locs : List Loc} {ls : Array Slot} {c1 c2 : Nat} (u : hU) (hH : gH d b u.1 H) (hS : va_S (fun q => b ≤ q) X.st.heap H locs) (hL : gL lv ls) (z1 : H.size ≤ min u.2.1 (gKm b)) (z2 : gsm b H ≤ min u.2.2 gNm) (kk : hOk X b u.2.1 u.2.2 → hG X d b Q u.1 u.2.1 u.2.2 pc lv st) : gW X H locs c1 c2 Q (F0 X.mi pc ls st) :=
  W_abs hC.hv.1 (fun y1 y2 y3 y4 => W.widen (by omega) (by omega) (kk ⟨by omega, by omega⟩ H locs ls hH hS hL))
theorem h_iret {ty : FieldType} (hC : gC own cc nL (some ty) nm R d b X) (hr : hRm X b) (ho : hOk X b k n) (e1 : R.cells = mc) (e2 : R.slots = ms) {post : Int32 → hU → Prop} {v : Int32} (hn : narrow ty (.int v) = .int v) (hp : post v (F, k, n)) (hdg : decode cc pc = .ok (.ireturn, 1)) : hG X d b (MQ X.be (va_Qi post (hB d b) (fun q => b ≤ q)) X.ar X.st mc ms (fun q => b ≤ q)) F k n pc lv [.int v] :=
  h_at hC ho (fun H locs ls hH hS hL z1 z2 z3 z4 => W.widen (by have := (hR_R hC hr).1; omega) (by have := (hR_R hC hr).2; omega) (W.zret (v := v) hC.hx hC.hb hC.hrt hn (fun t ht hW => ⟨⟨v, (F, k, n), rfl, hp, hE_B hC hH hS z2 z4 ht hW⟩, hS.F ht⟩) hS.2.2 hdg hC.hlk))
theorem h_vret (hC : gC own cc nL none nm R d b X) (hr : hRm X b) (ho : hOk X b k n) (e1 : R.cells = mc) (e2 : R.slots = ms) {post : hU → Prop} (hp : post (F, k, n)) (hdg : decode cc pc = .ok (.return_, 1)) : hG X d b (MQ X.be (va_Qv post (hB d b) (fun q => b ≤ q)) X.ar X.st mc ms (fun q => b ≤ q)) F k n pc lv [] :=
  h_at hC ho (fun H locs ls hH hS hL z1 z2 z3 z4 => W.widen (by have := (hR_R hC hr).1; omega) (by have := (hR_R hC hr).2; omega) (W.vret hC.hx hC.hb hC.hrt (fun t ht hW => ⟨⟨(F, k, n), rfl, hp, hE_B hC hH hS z2 z4 ht hW⟩, hS.F ht⟩) hS.2.2 hdg hC.hlk))
theorem h_lret (hC : gC own cc nL (some .long) nm R d b X) (hr : hRm X b) (ho : hOk X b k n) (e1 : R.cells = mc) (e2 : R.slots = ms) {post : Int64 → hU → Prop} {v : Int64} (hp : post v (F, k, n)) (hdg : decode cc pc = .ok (.lreturn, 1)) : hG X d b (MQ X.be (va_Ql post (hB d b) (fun q => b ≤ q)) X.ar X.st mc ms (fun q => b ≤ q)) F k n pc lv [.long v] :=
  h_at hC ho (fun H locs ls hH hS hL z1 z2 z3 z4 => W.widen (by have := (hR_R hC hr).1; omega) (by have := (hR_R hC hr).2; omega) (W.lret (v := v) hC.hx hC.hb hC.hrt (fun t ht hW => ⟨⟨v, (F, k, n), rfl, hp, hE_B hC hH hS z2 z4 ht hW⟩, hS.F ht⟩) hS.2.2 hdg hC.hlk))
theorem h_aret {rt0 : FieldType} (hC : gC own cc nL (some rt0) nm R d b X) (hr : hRm X b) (ho : hOk X b k n) (e1 : R.cells = mc) (e2 : R.slots = ms) {post : Option Nat → hU → Prop} {v : Option Nat} (hrt : (∃ n, rt0 = .object n) ∨ ∃ t, rt0 = .array t) (hp : post v (F, k, n)) (hdg : decode cc pc = .ok (.areturn, 1)) : hG X d b (MQ X.be (va_Qq post (hB d b) (fun q => b ≤ q)) X.ar X.st mc ms (fun q => b ≤ q)) F k n pc lv [va_rf v] :=
  h_at hC ho (fun H locs ls hH hS hL z1 z2 z3 z4 => W.widen (by have := (hR_R hC hr).1; omega) (by have := (hR_R hC hr).2; omega) (W.aret (v := va_rf v) hC.hx hC.hb hC.hrt hrt (va_rf_or v) (fun t ht hW => ⟨⟨v, (F, k, n), rfl, hp, hE_B hC hH hS z2 z4 ht hW⟩, hS.F ht⟩) hS.2.2 hdg hC.hlk))
/-- frames for a callee -/
def hFr (R : Room) (lvl mL : Nat) : Prop := lvl + 1 ≤ R.frames ∧ 8 + (mL + 11) + 64 * lvl ≤ R.locals
theorem hFr_of {L MC MS lvl mL : Nat} (h1 : lvl + 1 ≤ L) (h2 : mL ≤ 40) : hFr (gR L MC MS) lvl mL := ⟨h1, by show 8 + (mL + 11) + 64 * lvl ≤ 64 * L; omega⟩

theorem h_callVv {Q : State → Prop} (hC : gC own cc nL rt nm R d b X) (hr0 : hRm X b) (ho : hOk X b k n) {y : MethodName} {c2 : ByteArray} {mL nA lvl idx : Nat} {As : List Value} {post : hU → Prop} {a ci N : Nat} {T : u_T} {v0 : Value} {fs : List Value} (hc : vwCl[ci]? = some (y.cls, T, N)) (hF : F a = .inr (ci, v0 :: fs)) (hm : hMv X.la d b y c2 mL lvl k n F (.ref a :: As) post) (hl : gCV own idx y c2 mL none nA) (hA : As.length = nA) (hn : nL = lv.length) (hr : (st.map fun v => v.category).sum ≤ 8) (hf : hFr R lvl mL) (hdg : decode cc pc = .ok (.invokevirtual idx, 3)) (kk : ∀ (u : hU), post u → hOk X b u.2.1 u.2.2 → hG X d b Q u.1 u.2.1 u.2.2 (pc + 3) lv st) : hG X d b Q F k n pc lv (As.reverse ++ .ref a :: st) := by
  refine h_at hC ho (fun H locs ls hH hS hL y1 y2 y3 y4 => ?_)
  obtain ⟨r1, r2⟩ := hR_R hC hr0
  exact va_callv (va_runV (As := As) (rest := st) ⟨hC.hx, hC.hb, hC.hml, hC.how, hC.hts⟩ (hm (gKm b - H.size) (gNm - gsm b H)) (cwV nA hC.hts hl.1 rfl rfl rfl hl.2 (by rw [hC.hR]; exact hf)) ⟨hP.blind, g_recv hC hc hF hH, fun U hU hW => ⟨rfl, hE_B hC hH hS y2 y4 hU hW, by rw [hU]; omega, by rw [hU]; omega⟩⟩ rfl hA (hL.1.trans hn.symm) rfl (lv_room hr) hdg (by rw [hC.hR]; exact ⟨by omega, by omega⟩)) hS (fun q _ h => h) (fun q h => h) (fun u t H1 locs1 ht hvm hp hB hz hk1 hS1 => h_back hC u (by rw [← ht]; exact hB.1.2) hS1 hL (by rw [← ht]; exact hB.2.1) (by rw [← ht]; exact hB.2.2) (kk u hp))
theorem h_callSv {Q : State → Prop} (hC : gC own cc nL rt nm R d b X) (hr0 : hRm X b) (ho : hOk X b k n) {y : MethodName} {c2 : ByteArray} {mL nA lvl idx : Nat} {As : List Value} {post : hU → Prop} (hm : hMv X.la d b y c2 mL lvl k n F As post) (hl : gCS own idx y c2 mL none nA) (hA : As.length = nA) (hn : nL = lv.length) (hr : (st.map fun v => v.category).sum ≤ 8) (hf : hFr R lvl mL) (hdg : decode cc pc = .ok (.invokestatic idx, 3)) (kk : ∀ (u : hU), post u → hOk X b u.2.1 u.2.2 → hG X d b Q u.1 u.2.1 u.2.2 (pc + 3) lv st) : hG X d b Q F k n pc lv (As.reverse ++ st) := by
  refine h_at hC ho (fun H locs ls hH hS hL y1 y2 y3 y4 => ?_)
  obtain ⟨r1, r2⟩ := hR_R hC hr0
  exact va_callv (va_runS (As := As) (rest := st) ⟨hC.hx, hC.hb, hC.hml, hC.how, hC.hts⟩ (hm (gKm b - H.size) (gNm - gsm b H)) (va_cwS nA hC.hts hl.1 rfl rfl rfl hl.2 (by rw [hC.hR]; exact hf)) ⟨hP.blind, fun U hU hW => ⟨rfl, hE_B hC hH hS y2 y4 hU hW, by rw [hU]; omega, by rw [hU]; omega⟩⟩ rfl hA (hL.1.trans hn.symm) rfl (lv_room hr) hdg (by rw [hC.hR]; exact ⟨by omega, by omega⟩)) hS (fun q _ h => h) (fun q h => h) (fun u t H1 locs1 ht hvm hp hB hz hk1 hS1 => h_back hC u (by rw [← ht]; exact hB.1.2) hS1 hL (by rw [← ht]; exact hB.2.1) (by rw [← ht]; exact hB.2.2) (kk u hp))
theorem h_callIv {Q : State → Prop} (hC : gC own cc nL rt nm R d b X) (hr0 : hRm X b) (ho : hOk X b k n) {y : MethodName} {c2 : ByteArray} {mL nA lvl idx : Nat} {As : List Value} {post : hU → Prop} {a : Nat} (hm : hMv X.la d b y c2 mL lvl k n F (.ref a :: As) post) (hl : gCI own idx y c2 mL nA) (hA : As.length = nA) (hn : nL = lv.length) (hr : (st.map fun v => v.category).sum ≤ 8) (hf : hFr R lvl mL) (hdg : decode cc pc = .ok (.invokespecial idx, 3)) (kk : ∀ (u : hU), post u → hOk X b u.2.1 u.2.2 → hG X d b Q u.1 u.2.1 u.2.2 (pc + 3) lv st) : hG X d b Q F k n pc lv (As.reverse ++ .ref a :: st) := by
  refine h_at hC ho (fun H locs ls hH hS hL y1 y2 y3 y4 => ?_)
  obtain ⟨r1, r2⟩ := hR_R hC hr0
  exact va_callv (va_runI (As := As) (rest := st) ⟨hC.hx, hC.hb, hC.hml, hC.how, hC.hts⟩ (hm (gKm b - H.size) (gNm - gsm b H)) (cwI nA hC.hts hl.1 rfl rfl rfl (hC.hts _ hl.2.1) (hC.hts _ hl.2.2.1) (hC.hts _ hl.2.2.2.1) hl.2.2.2.2.1 hl.2.2.2.2.2 (by rw [hC.hR]; exact hf)) ⟨hP.blind, fun U hU hW => ⟨rfl, hE_B hC hH hS y2 y4 hU hW, by rw [hU]; omega, by rw [hU]; omega⟩⟩ rfl hA (hL.1.trans hn.symm) rfl (lv_room hr) hdg (by rw [hC.hR]; exact ⟨by omega, by omega⟩)) hS (fun q _ h => h) (fun q h => h) (fun u t H1 locs1 ht hvm hp hB hz hk1 hS1 => h_back hC u (by rw [← ht]; exact hB.1.2) hS1 hL (by rw [← ht]; exact hB.2.1) (by rw [← ht]; exact hB.2.2) (kk u hp))
theorem h_callINv {Q : State → Prop} (hC : gC own cc nL rt nm R d b X) (hr0 : hRm X b) (ho : hOk X b k n) {y : MethodName} {c2 : ByteArray} {mL nA lvl idx : Nat} {ni : Nat} {As : List Value} {post : hU → Prop} {a : Nat} (hm : hMv X.la d b y c2 mL lvl k n F (.ref a :: As) post) (hl : gCIN own idx ni y c2 mL nA) (hA : As.length = nA) (hn : nL = lv.length) (hr : (st.map fun v => v.category).sum ≤ 8) (hf : hFr R lvl mL) (hdg : decode cc pc = .ok (.invokespecial idx, 3)) (kk : ∀ (u : hU), post u → hOk X b u.2.1 u.2.2 → hG X d b Q u.1 u.2.1 u.2.2 (pc + 3) lv st) : hG X d b Q F k n pc lv (As.reverse ++ .ref a :: st) := by
  obtain ⟨host, z1, z2, z3, z4, z5, z6⟩ := hl
  refine h_at hC ho (fun H locs ls hH hS hL y1 y2 y3 y4 => ?_)
  obtain ⟨r1, r2⟩ := hR_R hC hr0
  exact va_callv (va_runIN (As := As) (rest := st) ⟨hC.hx, hC.hb, hC.hml, hC.how, hC.hts⟩ (hm (gKm b - H.size) (gNm - gsm b H)) ⟨va_cnB nA hC.hts z2 rfl rfl rfl (hC.hv.2.2.1 _ (List.mem_of_getElem? z1)) (hC.hts _ z3) z6 (by rw [hC.hR]; exact hf), z5, hC.hts _ z4⟩ ⟨hP.blind, fun U hU hW => ⟨rfl, hE_B hC hH hS y2 y4 hU hW, by rw [hU]; omega, by rw [hU]; omega⟩⟩ rfl hA (hL.1.trans hn.symm) rfl (lv_room hr) hdg (by rw [hC.hR]; exact ⟨by omega, by omega⟩)) hS (fun q _ h => h) (fun q h => h) (fun u t H1 locs1 ht hvm hp hB hz hk1 hS1 => h_back hC u (by rw [← ht]; exact hB.1.2) hS1 hL (by rw [← ht]; exact hB.2.1) (by rw [← ht]; exact hB.2.2) (kk u hp))
theorem h_callSNv {Q : State → Prop} (hC : gC own cc nL rt nm R d b X) (hr0 : hRm X b) (ho : hOk X b k n) {y : MethodName} {c2 : ByteArray} {mL nA lvl idx : Nat} {ni : Nat} {As : List Value} {post : hU → Prop} (hm : hMv X.la d b y c2 mL lvl k n F As post) (hl : gCSN own idx ni y c2 mL none nA) (hA : As.length = nA) (hn : nL = lv.length) (hr : (st.map fun v => v.category).sum ≤ 8) (hf : hFr R lvl mL) (hdg : decode cc pc = .ok (.invokestatic idx, 3)) (kk : ∀ (u : hU), post u → hOk X b u.2.1 u.2.2 → hG X d b Q u.1 u.2.1 u.2.2 (pc + 3) lv st) : hG X d b Q F k n pc lv (As.reverse ++ st) := by
  obtain ⟨host, z1, z2, z3, z4, z5⟩ := hl
  refine h_at hC ho (fun H locs ls hH hS hL y1 y2 y3 y4 => ?_)
  obtain ⟨r1, r2⟩ := hR_R hC hr0
  exact va_callv (va_runSN (As := As) (rest := st) ⟨hC.hx, hC.hb, hC.hml, hC.how, hC.hts⟩ (hm (gKm b - H.size) (gNm - gsm b H)) ⟨va_cnB nA hC.hts z2 rfl rfl rfl (hC.hv.2.2.1 _ (List.mem_of_getElem? z1)) (hC.hts _ z3) z5 (by rw [hC.hR]; exact hf), hC.hts _ z4, trivial⟩ ⟨hP.blind, fun U hU hW => ⟨rfl, hE_B hC hH hS y2 y4 hU hW, by rw [hU]; omega, by rw [hU]; omega⟩⟩ rfl hA (hL.1.trans hn.symm) rfl (lv_room hr) hdg (by rw [hC.hR]; exact ⟨by omega, by omega⟩)) hS (fun q _ h => h) (fun q h => h) (fun u t H1 locs1 ht hvm hp hB hz hk1 hS1 => h_back hC u (by rw [← ht]; exact hB.1.2) hS1 hL (by rw [← ht]; exact hB.2.1) (by rw [← ht]; exact hB.2.2) (kk u hp))
theorem h_callVi {Q : State → Prop} (hC : gC own cc nL rt nm R d b X) (hr0 : hRm X b) (ho : hOk X b k n) {y : MethodName} {c2 : ByteArray} {mL nA lvl idx : Nat} {rt0 : FieldType} {As : List Value} {post : Int32 → hU → Prop} {a ci N : Nat} {T : u_T} {v0 : Value} {fs : List Value} (hc : vwCl[ci]? = some (y.cls, T, N)) (hF : F a = .inr (ci, v0 :: fs)) (hm : hMi X.la d b y c2 mL rt0 lvl k n F (.ref a :: As) post) (hl : gCV own idx y c2 mL (some rt0) nA) (hA : As.length = nA) (hn : nL = lv.length) (hr : (st.map fun v => v.category).sum ≤ 8) (hf : hFr R lvl mL) (hdg : decode cc pc = .ok (.invokevirtual idx, 3)) (kk : ∀ (r : Int32) (u : hU), post r u → hOk X b u.2.1 u.2.2 → hG X d b Q u.1 u.2.1 u.2.2 (pc + 3) lv (.int r :: st)) : hG X d b Q F k n pc lv (As.reverse ++ .ref a :: st) := by
  refine h_at hC ho (fun H locs ls hH hS hL y1 y2 y3 y4 => ?_)
  obtain ⟨r1, r2⟩ := hR_R hC hr0
  exact va_calli (va_runV (As := As) (rest := st) ⟨hC.hx, hC.hb, hC.hml, hC.how, hC.hts⟩ (hm (gKm b - H.size) (gNm - gsm b H)) (cwV nA hC.hts hl.1 rfl rfl rfl hl.2 (by rw [hC.hR]; exact hf)) ⟨hP.blind, g_recv hC hc hF hH, fun U hU hW => ⟨rfl, hE_B hC hH hS y2 y4 hU hW, by rw [hU]; omega, by rw [hU]; omega⟩⟩ rfl hA (hL.1.trans hn.symm) rfl (lv_room hr) hdg (by rw [hC.hR]; exact ⟨by omega, by omega⟩)) hS (fun q _ h => h) (fun q h => h) (fun r u t H1 locs1 ht hvm hp hB hz hk1 hS1 => h_back hC u (by rw [← ht]; exact hB.1.2) hS1 hL (by rw [← ht]; exact hB.2.1) (by rw [← ht]; exact hB.2.2) (kk r u hp))
theorem h_callSi {Q : State → Prop} (hC : gC own cc nL rt nm R d b X) (hr0 : hRm X b) (ho : hOk X b k n) {y : MethodName} {c2 : ByteArray} {mL nA lvl idx : Nat} {rt0 : FieldType} {As : List Value} {post : Int32 → hU → Prop} (hm : hMi X.la d b y c2 mL rt0 lvl k n F As post) (hl : gCS own idx y c2 mL (some rt0) nA) (hA : As.length = nA) (hn : nL = lv.length) (hr : (st.map fun v => v.category).sum ≤ 8) (hf : hFr R lvl mL) (hdg : decode cc pc = .ok (.invokestatic idx, 3)) (kk : ∀ (r : Int32) (u : hU), post r u → hOk X b u.2.1 u.2.2 → hG X d b Q u.1 u.2.1 u.2.2 (pc + 3) lv (.int r :: st)) : hG X d b Q F k n pc lv (As.reverse ++ st) := by
  refine h_at hC ho (fun H locs ls hH hS hL y1 y2 y3 y4 => ?_)
  obtain ⟨r1, r2⟩ := hR_R hC hr0
  exact va_calli (va_runS (As := As) (rest := st) ⟨hC.hx, hC.hb, hC.hml, hC.how, hC.hts⟩ (hm (gKm b - H.size) (gNm - gsm b H)) (va_cwS nA hC.hts hl.1 rfl rfl rfl hl.2 (by rw [hC.hR]; exact hf)) ⟨hP.blind, fun U hU hW => ⟨rfl, hE_B hC hH hS y2 y4 hU hW, by rw [hU]; omega, by rw [hU]; omega⟩⟩ rfl hA (hL.1.trans hn.symm) rfl (lv_room hr) hdg (by rw [hC.hR]; exact ⟨by omega, by omega⟩)) hS (fun q _ h => h) (fun q h => h) (fun r u t H1 locs1 ht hvm hp hB hz hk1 hS1 => h_back hC u (by rw [← ht]; exact hB.1.2) hS1 hL (by rw [← ht]; exact hB.2.1) (by rw [← ht]; exact hB.2.2) (kk r u hp))
theorem h_callSNi {Q : State → Prop} (hC : gC own cc nL rt nm R d b X) (hr0 : hRm X b) (ho : hOk X b k n) {y : MethodName} {c2 : ByteArray} {mL nA lvl idx : Nat} {rt0 : FieldType} {ni : Nat} {As : List Value} {post : Int32 → hU → Prop} (hm : hMi X.la d b y c2 mL rt0 lvl k n F As post) (hl : gCSN own idx ni y c2 mL (some rt0) nA) (hA : As.length = nA) (hn : nL = lv.length) (hr : (st.map fun v => v.category).sum ≤ 8) (hf : hFr R lvl mL) (hdg : decode cc pc = .ok (.invokestatic idx, 3)) (kk : ∀ (r : Int32) (u : hU), post r u → hOk X b u.2.1 u.2.2 → hG X d b Q u.1 u.2.1 u.2.2 (pc + 3) lv (.int r :: st)) : hG X d b Q F k n pc lv (As.reverse ++ st) := by
  obtain ⟨host, z1, z2, z3, z4, z5⟩ := hl
  refine h_at hC ho (fun H locs ls hH hS hL y1 y2 y3 y4 => ?_)
  obtain ⟨r1, r2⟩ := hR_R hC hr0
  exact va_calli (va_runSN (As := As) (rest := st) ⟨hC.hx, hC.hb, hC.hml, hC.how, hC.hts⟩ (hm (gKm b - H.size) (gNm - gsm b H)) ⟨va_cnB nA hC.hts z2 rfl rfl rfl (hC.hv.2.2.1 _ (List.mem_of_getElem? z1)) (hC.hts _ z3) z5 (by rw [hC.hR]; exact hf), hC.hts _ z4, trivial⟩ ⟨hP.blind, fun U hU hW => ⟨rfl, hE_B hC hH hS y2 y4 hU hW, by rw [hU]; omega, by rw [hU]; omega⟩⟩ rfl hA (hL.1.trans hn.symm) rfl (lv_room hr) hdg (by rw [hC.hR]; exact ⟨by omega, by omega⟩)) hS (fun q _ h => h) (fun q h => h) (fun r u t H1 locs1 ht hvm hp hB hz hk1 hS1 => h_back hC u (by rw [← ht]; exact hB.1.2) hS1 hL (by rw [← ht]; exact hB.2.1) (by rw [← ht]; exact hB.2.2) (kk r u hp))
theorem h_callVl {Q : State → Prop} (hC : gC own cc nL rt nm R d b X) (hr0 : hRm X b) (ho : hOk X b k n) {y : MethodName} {c2 : ByteArray} {mL nA lvl idx : Nat} {As : List Value} {post : Int64 → hU → Prop} {a ci N : Nat} {T : u_T} {v0 : Value} {fs : List Value} (hc : vwCl[ci]? = some (y.cls, T, N)) (hF : F a = .inr (ci, v0 :: fs)) (hm : hMl X.la d b y c2 mL lvl k n F (.ref a :: As) post) (hl : gCV own idx y c2 mL (some .long) nA) (hA : As.length = nA) (hn : nL = lv.length) (hr : (st.map fun v => v.category).sum ≤ 8) (hf : hFr R lvl mL) (hdg : decode cc pc = .ok (.invokevirtual idx, 3)) (kk : ∀ (r : Int64) (u : hU), post r u → hOk X b u.2.1 u.2.2 → hG X d b Q u.1 u.2.1 u.2.2 (pc + 3) lv (.long r :: st)) : hG X d b Q F k n pc lv (As.reverse ++ .ref a :: st) := by
  refine h_at hC ho (fun H locs ls hH hS hL y1 y2 y3 y4 => ?_)
  obtain ⟨r1, r2⟩ := hR_R hC hr0
  exact va_calll (va_runV (As := As) (rest := st) ⟨hC.hx, hC.hb, hC.hml, hC.how, hC.hts⟩ (hm (gKm b - H.size) (gNm - gsm b H)) (cwV nA hC.hts hl.1 rfl rfl rfl hl.2 (by rw [hC.hR]; exact hf)) ⟨hP.blind, g_recv hC hc hF hH, fun U hU hW => ⟨rfl, hE_B hC hH hS y2 y4 hU hW, by rw [hU]; omega, by rw [hU]; omega⟩⟩ rfl hA (hL.1.trans hn.symm) rfl (lv_room hr) hdg (by rw [hC.hR]; exact ⟨by omega, by omega⟩)) hS (fun q _ h => h) (fun q h => h) (fun r u t H1 locs1 ht hvm hp hB hz hk1 hS1 => h_back hC u (by rw [← ht]; exact hB.1.2) hS1 hL (by rw [← ht]; exact hB.2.1) (by rw [← ht]; exact hB.2.2) (kk r u hp))
theorem h_callSl {Q : State → Prop} (hC : gC own cc nL rt nm R d b X) (hr0 : hRm X b) (ho : hOk X b k n) {y : MethodName} {c2 : ByteArray} {mL nA lvl idx : Nat} {As : List Value} {post : Int64 → hU → Prop} (hm : hMl X.la d b y c2 mL lvl k n F As post) (hl : gCS own idx y c2 mL (some .long) nA) (hA : As.length = nA) (hn : nL = lv.length) (hr : (st.map fun v => v.category).sum ≤ 8) (hf : hFr R lvl mL) (hdg : decode cc pc = .ok (.invokestatic idx, 3)) (kk : ∀ (r : Int64) (u : hU), post r u → hOk X b u.2.1 u.2.2 → hG X d b Q u.1 u.2.1 u.2.2 (pc + 3) lv (.long r :: st)) : hG X d b Q F k n pc lv (As.reverse ++ st) := by
  refine h_at hC ho (fun H locs ls hH hS hL y1 y2 y3 y4 => ?_)
  obtain ⟨r1, r2⟩ := hR_R hC hr0
  exact va_calll (va_runS (As := As) (rest := st) ⟨hC.hx, hC.hb, hC.hml, hC.how, hC.hts⟩ (hm (gKm b - H.size) (gNm - gsm b H)) (va_cwS nA hC.hts hl.1 rfl rfl rfl hl.2 (by rw [hC.hR]; exact hf)) ⟨hP.blind, fun U hU hW => ⟨rfl, hE_B hC hH hS y2 y4 hU hW, by rw [hU]; omega, by rw [hU]; omega⟩⟩ rfl hA (hL.1.trans hn.symm) rfl (lv_room hr) hdg (by rw [hC.hR]; exact ⟨by omega, by omega⟩)) hS (fun q _ h => h) (fun q h => h) (fun r u t H1 locs1 ht hvm hp hB hz hk1 hS1 => h_back hC u (by rw [← ht]; exact hB.1.2) hS1 hL (by rw [← ht]; exact hB.2.1) (by rw [← ht]; exact hB.2.2) (kk r u hp))
theorem h_callSNl {Q : State → Prop} (hC : gC own cc nL rt nm R d b X) (hr0 : hRm X b) (ho : hOk X b k n) {y : MethodName} {c2 : ByteArray} {mL nA lvl idx : Nat} {ni : Nat} {As : List Value} {post : Int64 → hU → Prop} (hm : hMl X.la d b y c2 mL lvl k n F As post) (hl : gCSN own idx ni y c2 mL (some .long) nA) (hA : As.length = nA) (hn : nL = lv.length) (hr : (st.map fun v => v.category).sum ≤ 8) (hf : hFr R lvl mL) (hdg : decode cc pc = .ok (.invokestatic idx, 3)) (kk : ∀ (r : Int64) (u : hU), post r u → hOk X b u.2.1 u.2.2 → hG X d b Q u.1 u.2.1 u.2.2 (pc + 3) lv (.long r :: st)) : hG X d b Q F k n pc lv (As.reverse ++ st) := by
  obtain ⟨host, z1, z2, z3, z4, z5⟩ := hl
  refine h_at hC ho (fun H locs ls hH hS hL y1 y2 y3 y4 => ?_)
  obtain ⟨r1, r2⟩ := hR_R hC hr0
  exact va_calll (va_runSN (As := As) (rest := st) ⟨hC.hx, hC.hb, hC.hml, hC.how, hC.hts⟩ (hm (gKm b - H.size) (gNm - gsm b H)) ⟨va_cnB nA hC.hts z2 rfl rfl rfl (hC.hv.2.2.1 _ (List.mem_of_getElem? z1)) (hC.hts _ z3) z5 (by rw [hC.hR]; exact hf), hC.hts _ z4, trivial⟩ ⟨hP.blind, fun U hU hW => ⟨rfl, hE_B hC hH hS y2 y4 hU hW, by rw [hU]; omega, by rw [hU]; omega⟩⟩ rfl hA (hL.1.trans hn.symm) rfl (lv_room hr) hdg (by rw [hC.hR]; exact ⟨by omega, by omega⟩)) hS (fun q _ h => h) (fun q h => h) (fun r u t H1 locs1 ht hvm hp hB hz hk1 hS1 => h_back hC u (by rw [← ht]; exact hB.1.2) hS1 hL (by rw [← ht]; exact hB.2.1) (by rw [← ht]; exact hB.2.2) (kk r u hp))
theorem h_callVq {Q : State → Prop} (hC : gC own cc nL rt nm R d b X) (hr0 : hRm X b) (ho : hOk X b k n) {y : MethodName} {c2 : ByteArray} {mL nA lvl idx : Nat} {rt0 : FieldType} {As : List Value} {post : Option Nat → hU → Prop} {a ci N : Nat} {T : u_T} {v0 : Value} {fs : List Value} (hc : vwCl[ci]? = some (y.cls, T, N)) (hF : F a = .inr (ci, v0 :: fs)) (hm : hMq X.la d b y c2 mL rt0 lvl k n F (.ref a :: As) post) (hl : gCV own idx y c2 mL (some rt0) nA) (hA : As.length = nA) (hn : nL = lv.length) (hr : (st.map fun v => v.category).sum ≤ 8) (hf : hFr R lvl mL) (hdg : decode cc pc = .ok (.invokevirtual idx, 3)) (kk : ∀ (r : Option Nat) (u : hU), post r u → hOk X b u.2.1 u.2.2 → hG X d b Q u.1 u.2.1 u.2.2 (pc + 3) lv (va_rf r :: st)) : hG X d b Q F k n pc lv (As.reverse ++ .ref a :: st) := by
  refine h_at hC ho (fun H locs ls hH hS hL y1 y2 y3 y4 => ?_)
  obtain ⟨r1, r2⟩ := hR_R hC hr0
  exact va_callq (va_runV (As := As) (rest := st) ⟨hC.hx, hC.hb, hC.hml, hC.how, hC.hts⟩ (hm (gKm b - H.size) (gNm - gsm b H)) (cwV nA hC.hts hl.1 rfl rfl rfl hl.2 (by rw [hC.hR]; exact hf)) ⟨hP.blind, g_recv hC hc hF hH, fun U hU hW => ⟨rfl, hE_B hC hH hS y2 y4 hU hW, by rw [hU]; omega, by rw [hU]; omega⟩⟩ rfl hA (hL.1.trans hn.symm) rfl (lv_room hr) hdg (by rw [hC.hR]; exact ⟨by omega, by omega⟩)) hS (fun q _ h => h) (fun q h => h) (fun r u t H1 locs1 ht hvm hp hB hz hk1 hS1 => h_back hC u (by rw [← ht]; exact hB.1.2) hS1 hL (by rw [← ht]; exact hB.2.1) (by rw [← ht]; exact hB.2.2) (kk r u hp))
theorem h_callSq {Q : State → Prop} (hC : gC own cc nL rt nm R d b X) (hr0 : hRm X b) (ho : hOk X b k n) {y : MethodName} {c2 : ByteArray} {mL nA lvl idx : Nat} {rt0 : FieldType} {As : List Value} {post : Option Nat → hU → Prop} (hm : hMq X.la d b y c2 mL rt0 lvl k n F As post) (hl : gCS own idx y c2 mL (some rt0) nA) (hA : As.length = nA) (hn : nL = lv.length) (hr : (st.map fun v => v.category).sum ≤ 8) (hf : hFr R lvl mL) (hdg : decode cc pc = .ok (.invokestatic idx, 3)) (kk : ∀ (r : Option Nat) (u : hU), post r u → hOk X b u.2.1 u.2.2 → hG X d b Q u.1 u.2.1 u.2.2 (pc + 3) lv (va_rf r :: st)) : hG X d b Q F k n pc lv (As.reverse ++ st) := by
  refine h_at hC ho (fun H locs ls hH hS hL y1 y2 y3 y4 => ?_)
  obtain ⟨r1, r2⟩ := hR_R hC hr0
  exact va_callq (va_runS (As := As) (rest := st) ⟨hC.hx, hC.hb, hC.hml, hC.how, hC.hts⟩ (hm (gKm b - H.size) (gNm - gsm b H)) (va_cwS nA hC.hts hl.1 rfl rfl rfl hl.2 (by rw [hC.hR]; exact hf)) ⟨hP.blind, fun U hU hW => ⟨rfl, hE_B hC hH hS y2 y4 hU hW, by rw [hU]; omega, by rw [hU]; omega⟩⟩ rfl hA (hL.1.trans hn.symm) rfl (lv_room hr) hdg (by rw [hC.hR]; exact ⟨by omega, by omega⟩)) hS (fun q _ h => h) (fun q h => h) (fun r u t H1 locs1 ht hvm hp hB hz hk1 hS1 => h_back hC u (by rw [← ht]; exact hB.1.2) hS1 hL (by rw [← ht]; exact hB.2.1) (by rw [← ht]; exact hB.2.2) (kk r u hp))
theorem h_callSNq {Q : State → Prop} (hC : gC own cc nL rt nm R d b X) (hr0 : hRm X b) (ho : hOk X b k n) {y : MethodName} {c2 : ByteArray} {mL nA lvl idx : Nat} {rt0 : FieldType} {ni : Nat} {As : List Value} {post : Option Nat → hU → Prop} (hm : hMq X.la d b y c2 mL rt0 lvl k n F As post) (hl : gCSN own idx ni y c2 mL (some rt0) nA) (hA : As.length = nA) (hn : nL = lv.length) (hr : (st.map fun v => v.category).sum ≤ 8) (hf : hFr R lvl mL) (hdg : decode cc pc = .ok (.invokestatic idx, 3)) (kk : ∀ (r : Option Nat) (u : hU), post r u → hOk X b u.2.1 u.2.2 → hG X d b Q u.1 u.2.1 u.2.2 (pc + 3) lv (va_rf r :: st)) : hG X d b Q F k n pc lv (As.reverse ++ st) := by
  obtain ⟨host, z1, z2, z3, z4, z5⟩ := hl
  refine h_at hC ho (fun H locs ls hH hS hL y1 y2 y3 y4 => ?_)
  obtain ⟨r1, r2⟩ := hR_R hC hr0
  exact va_callq (va_runSN (As := As) (rest := st) ⟨hC.hx, hC.hb, hC.hml, hC.how, hC.hts⟩ (hm (gKm b - H.size) (gNm - gsm b H)) ⟨va_cnB nA hC.hts z2 rfl rfl rfl (hC.hv.2.2.1 _ (List.mem_of_getElem? z1)) (hC.hts _ z3) z5 (by rw [hC.hR]; exact hf), hC.hts _ z4, trivial⟩ ⟨hP.blind, fun U hU hW => ⟨rfl, hE_B hC hH hS y2 y4 hU hW, by rw [hU]; omega, by rw [hU]; omega⟩⟩ rfl hA (hL.1.trans hn.symm) rfl (lv_room hr) hdg (by rw [hC.hR]; exact ⟨by omega, by omega⟩)) hS (fun q _ h => h) (fun q h => h) (fun r u t H1 locs1 ht hvm hp hB hz hk1 hS1 => h_back hC u (by rw [← ht]; exact hB.1.2) hS1 hL (by rw [← ht]; exact hB.2.1) (by rw [← ht]; exact hB.2.2) (kk r u hp))
end HR
/-- a body's start -/
theorem hM_of2 {Qc : Array Value → State → Outcome → State → Prop} {l : Launch} {d : gD} {b : Nat} {y : MethodName} {cc : ByteArray} {nL : Nat} {rt : Option FieldType} {lvl k n mc ms : Nat} {F : gM} {As : List Value} (hy : plainName y.cls = true) (hn : (lg_sl As).length ≤ nL)
    (body : ∀ X : gX, X.la = l → gC y.cls cc nL rt y.name (gR lvl mc ms) d b X → hRm X b → hOk X b k n → hG X d b (MQ X.be Qc X.ar X.st mc ms (fun q => b ≤ q)) F k n 0 (gEnt As nL) []) : Met l y (gw y cc nL rt) (gR lvl mc ms) (va_Pc As (hP d b F k n mc ms)) Qc mc ms (fun q => b ≤ q) := by
  refine Met.ofW (cc := cc) (maxL := nL) (ret := rt) hy rfl ?_
  intro p e s m args below meth c s₁ B hml hv
  obtain ⟨rfl, ⟨⟨hV, hH⟩, z1, z2⟩, z3, z4⟩ := hv
  have hts := atoms_spec (ws := gw y cc nL rt) B.pre
  have hown : s.vm.findClass y.cls = some m.cls := findClass_of_methodNamed B.named
  have hent := lv_entry As (n := nL) hn
  rw [lg_entry_eq]
  exact W.widen (Nat.zero_le _) (Nat.zero_le _) (body (p, l, e, (headSpec (gw y cc nL rt) (gR lvl mc ms)).room, s, m, As.toArray, below, meth, c) rfl ⟨B.exec, B.bytes, hml, hown, fun w hw => hts w (List.mem_cons_of_mem _ hw), hV, B.notSynchronized, B.returns, (name_of_methodNamed B.named B.method).1, rfl⟩ ⟨z3, z4⟩ ⟨z1, z2⟩ s.heap [] _ hH va_S.rf (gEnt_L hn hent))
