/-! EXCEPTIONS where the room is told by the heap -/
def hTw (E : String) (d : gD) (b : Nat) : String → hU → State → Prop := fun E' u t => E' = E ∧ gH d b u.1 t.heap ∧ t.heap.size ≤ min u.2.1 (gKm b) ∧ gsm b t.heap ≤ min u.2.2 gNm
def hXi (l : Launch) (d : gD) (b : Nat) (y : MethodName) (cc : ByteArray) (mL : Nat) (rt : FieldType) (lvl k n : Nat) (F : gM) (As : List Value) (post : Int32 → hU → Prop) (E : String) (px : hU → Prop) : Prop :=
  ∀ mc ms, vx_Met l y (gw y cc mL (some rt)) (gR lvl mc ms) (va_Pc As (hP d b F k n mc ms)) (va_Qi post (hB d b) (fun q => b ≤ q)) (vx_X px (hTw E d b) (fun q => b ≤ q)) mc ms (fun q => b ≤ q)
def hXv (l : Launch) (d : gD) (b : Nat) (y : MethodName) (cc : ByteArray) (mL : Nat) (lvl k n : Nat) (F : gM) (As : List Value) (post : hU → Prop) (E : String) (px : hU → Prop) : Prop :=
  ∀ mc ms, vx_Met l y (gw y cc mL none) (gR lvl mc ms) (va_Pc As (hP d b F k n mc ms)) (va_Qv post (hB d b) (fun q => b ≤ q)) (vx_X px (hTw E d b) (fun q => b ≤ q)) mc ms (fun q => b ≤ q)
def hGx (X : gX) (d : gD) (b : Nat) (Q : State → Prop) (F : gM) (k n pc : Nat) (lv : List (Option Value)) (E : String) : Prop := gGx X d b Q F (min k (gKm b) - X.st.heap.size) (min n gNm - gsm b X.st.heap) pc lv E
theorem hX_of2 {Qc : Array Value → State → Outcome → State → Prop} {XC : String → State → State → Prop} {l : Launch} {d : gD} {b : Nat} {y : MethodName} {cc : ByteArray} {nL : Nat} {rt : Option FieldType} {lvl k n mc ms : Nat} {F : gM} {As : List Value} (hy : plainName y.cls = true) (hn : (lg_sl As).length ≤ nL)
    (body : ∀ X : gX, X.la = l → (∀ x ∈ X.co.exceptionTable.toList, False) → gC y.cls cc nL rt y.name (gR lvl mc ms) d b X → hRm X b → hOk X b k n → hG X d b (vx_MQ X.be Qc XC X.ar X.st mc ms (fun q => b ≤ q)) F k n 0 (gEnt As nL) []) : vx_Met l y (gw y cc nL rt) (gR lvl mc ms) (va_Pc As (hP d b F k n mc ms)) Qc XC mc ms (fun q => b ≤ q) := by
  refine vx_ofW (cc := cc) (maxL := nL) (ret := rt) hy rfl ?_
  intro p e s m args below meth c s₁ B hml hT hv
  obtain ⟨rfl, ⟨⟨hV, hH⟩, z1, z2⟩, z3, z4⟩ := hv
  have hts := atoms_spec (ws := gw y cc nL rt) B.pre
  have hown : s.vm.findClass y.cls = some m.cls := findClass_of_methodNamed B.named
  have hent := lv_entry As (n := nL) hn
  rw [lg_entry_eq]
  exact W.widen (Nat.zero_le _) (Nat.zero_le _) (body (p, l, e, (headSpec (gw y cc nL rt) (gR lvl mc ms)).room, s, m, As.toArray, below, meth, c) rfl hT ⟨B.exec, B.bytes, hml, hown, fun w hw => hts w (List.mem_cons_of_mem _ hw), hV, B.notSynchronized, B.returns, (name_of_methodNamed B.named B.method).1, rfl⟩ ⟨z3, z4⟩ ⟨z1, z2⟩ s.heap [] _ hH va_S.rf (gEnt_L hn hent))
theorem hH_of2 {Qc : Array Value → State → Outcome → State → Prop} {l : Launch} {d : gD} {b : Nat} {y : MethodName} {cc : ByteArray} {nL : Nat} {rt : Option FieldType} {hh : List (Nat × Nat × Nat × Nat)} {lvl k n mc ms : Nat} {F : gM} {As : List Value} (hy : plainName y.cls = true) (hn : (lg_sl As).length ≤ nL)
    (body : ∀ X : gX, X.la = l → X.co.exceptionTable.toList = tableOf hh → gC y.cls cc nL rt y.name (gR lvl mc ms) d b X → hRm X b → hOk X b k n → hG X d b (MQ X.be Qc X.ar X.st mc ms (fun q => b ≤ q)) F k n 0 (gEnt As nL) []) : Met l y (.codeWith y cc nL rt hh :: gWs) (gR lvl mc ms) (va_Pc As (hP d b F k n mc ms)) Qc mc ms (fun q => b ≤ q) := by
  refine va_MetW (cc := cc) (maxL := nL) (ret := rt) (hh := hh) hy rfl ?_
  intro p e s m args below meth c s₁ B hml hv
  obtain ⟨rfl, ⟨⟨hV, hH⟩, z1, z2⟩, z3, z4⟩ := hv
  have hts := atoms_spec (ws := Cond.codeWith y cc nL rt hh :: gWs) B.pre
  have hT := vx_table (x := y) B (hts _ List.mem_cons_self)
  have hown : s.vm.findClass y.cls = some m.cls := findClass_of_methodNamed B.named
  have hent := lv_entry As (n := nL) hn
  rw [lg_entry_eq]
  exact W.widen (Nat.zero_le _) (Nat.zero_le _) (body (p, l, e, (headSpec (Cond.codeWith y cc nL rt hh :: gWs) (gR lvl mc ms)).room, s, m, As.toArray, below, meth, c) rfl hT ⟨B.exec, B.bytes, hml, hown, fun w hw => hts w (List.mem_cons_of_mem _ hw), hV, B.notSynchronized, B.returns, (name_of_methodNamed B.named B.method).1, rfl⟩ ⟨z3, z4⟩ ⟨z1, z2⟩ s.heap [] _ hH va_S.rf (gEnt_L hn hent))
/-- a throw's sizes out of the frame -/
theorem vx_sizes {p : Program} {l : Launch} {e : Env} {R : Room} {s : State} {m : MethodId} {args : Array Value} {below : List Frame} {meth : Method} {c : Code} {H : Heap} {locs : List Loc} {cells slots c1 n1 mc ms b : Nat} {Qc : Array Value → State → Outcome → State → Prop} {XC XC2 : String → State → State → Prop} {free : Addr → Prop} {g : JFrame} (hb : b ≤ s.heap.size) (hc : c1 ≤ mc) (hn : n1 ≤ ms) (hx : ∀ E t, XC E s t → t.heap.size ≤ s.heap.size + c1 → gsm b t.heap ≤ gsm b s.heap + n1 → XC2 E s t)
    (kk : W p l e R s m args below meth c H locs cells slots (vx_MQ below (fun _ _ _ _ => False) XC args s c1 n1 free) g) : W p l e R s m args below meth c H locs cells slots (vx_MQ below Qc XC2 args s mc ms free) g := by
  intro T hT X
  obtain ⟨t, a1, o, b1, b2, b3⟩ := kk T hT X
  rcases b3 with ⟨b3, -⟩ | ⟨q, eo, E, ce, L, d1, d2, d3, d4, d5, ⟨h1, h2, h3, h4, h5, h6⟩, d7⟩
  · exact b3.elim
  · have e := gsm_split (b := b) (H0 := s.heap) (H := t.heap) hb h2 (fun a c hc => by
      obtain ⟨c', g1, -, g3, -⟩ := h6 a c hc
      exact ⟨c', g1, g3⟩)
    have h5' : ((t.heap.toList.drop s.heap.size).map (fun c => c.slots.size)).sum ≤ n1 := h5
    have h3' : t.heap.size ≤ s.heap.size + c1 := h3
    exact ⟨t, a1, o, b1, b2, Or.inr ⟨q, eo, E, ce, L, hx E t d1 h3' (by omega), d2, d3, d4, d5, ⟨h1, h2, by show t.heap.size ≤ s.heap.size + mc; omega, h4, by show ((t.heap.toList.drop s.heap.size).map (fun c => c.slots.size)).sum ≤ ms; omega, h6⟩, d7⟩⟩
section HX
variable {own : String} {cc : ByteArray} {nL : Nat} {rt : Option FieldType} {nm : String} {R : Room} {d : gD} {b : Nat} {X : gX} {Q : State → Prop} {F : gM} {k n pc : Nat} {lv : List (Option Value)} {st : List Value} {mc ms : Nat}
theorem h_xret {Qc : Array Value → State → Outcome → State → Prop} {XC : String → State → State → Prop} (kk : hG X d b (MQ X.be Qc X.ar X.st mc ms (fun q => b ≤ q)) F k n pc lv st) : hG X d b (vx_MQ X.be Qc XC X.ar X.st mc ms (fun q => b ≤ q)) F k n pc lv st := g_xret kk
theorem h_xout {Qc : Array Value → State → Outcome → State → Prop} {E : String} {px : hU → Prop} (hC : gC own cc nL rt nm R d b X) (hr : hRm X b) (ho : hOk X b k n) (e1 : R.cells = mc) (e2 : R.slots = ms) (hT : ∀ x ∈ X.co.exceptionTable.toList, False) (hp : px (F, k, n)) : hGx X d b (vx_MQ X.be Qc (vx_X px (hTw E d b) (fun q => b ≤ q)) X.ar X.st mc ms (fun q => b ≤ q)) F k n pc lv E := fun H locs ls rest q ce hH hS hL h1 h2 h3 =>
  xW_abs hC.hv.1 (fun z1 z2 z3 z4 => vx_out (fun x hx => absurd (hT x hx) id) hC.hlk h1 h2 h3 (fun t ht hA => ⟨(F, k, n), hp, ⟨rfl, by rw [ht]; exact hH, by rw [ht]; have := ho.1; show H.size ≤ min k (gKm b); omega, by rw [ht]; have := ho.2; show gsm b H ≤ min n gNm; omega⟩, hS.F ht⟩) hS.2.2 (by have := (hR_R hC hr).1; have := ho.1; omega) (by have := (hR_R hC hr).2; have := ho.2; omega))
theorem h_xcatch {E name : String} {a1 a2 a3 a4 : Nat} (hC : gC own cc nL rt nm R d b X) (hT : X.co.exceptionTable.toList = tableOf [(a1, a2, a3, a4)]) (h1 : a1 ≤ pc ∧ pc < a2) (h4 : a4 ≠ 0) (hw : Cond.classLink own a4 name ∈ gWs) (hc : (E, name) ∈ gCs) (kk : ∀ q : Nat, hG X d b Q F k n a3 lv [.ref q]) : hGx X d b Q F k n pc lv E := g_xcatch hC hT h1 h4 hw hc kk
theorem h_backx (hC : gC own cc nL rt nm R d b X) {H : Heap} {locs : List Loc} {ls : Array Slot} {c1 c2 : Nat} {E : String} (u : hU) {rest : List Value} {q : Addr} {ce : Cell} (hH : gH d b u.1 H) (hS : va_S (fun q => b ≤ q) X.st.heap H locs) (hL : gL lv ls) (z1 : H.size ≤ min u.2.1 (gKm b)) (z2 : gsm b H ≤ min u.2.2 gNm) (h1 : H[q]? = some ce) (h2 : ce.vm = .none) (h3 : X.st.vm.findClass E = some ce.cls) (kk : hOk X b u.2.1 u.2.2 → hGx X d b Q u.1 u.2.1 u.2.2 pc lv E) : vx_W X.pr X.la X.en X.rm X.st X.mi X.ar X.be X.me X.co H locs c1 c2 Q (F0 X.mi pc ls rest) q :=
  xW_abs hC.hv.1 (fun y1 y2 y3 y4 => xW_widen (by omega) (by omega) (kk ⟨by omega, by omega⟩ H locs ls rest q ce hH hS hL h1 h2 h3))
theorem h_xcallVv (hC : gC own cc nL rt nm R d b X) (hr0 : hRm X b) (ho : hOk X b k n) {y : MethodName} {c2 : ByteArray} {mL nA lvl idx : Nat} {As : List Value} {post : hU → Prop} {E : String} {px : hU → Prop} {a ci N : Nat} {T : u_T} {v0 : Value} {fs : List Value} (hc : vwCl[ci]? = some (y.cls, T, N)) (hF : F a = .inr (ci, v0 :: fs)) (hm : hXv X.la d b y c2 mL lvl k n F (.ref a :: As) post E px) (hl : gCV own idx y c2 mL none nA) (hA : As.length = nA) (hn : nL = lv.length) (hr : (st.map fun v => v.category).sum ≤ 8) (hf : hFr R lvl mL) (hdg : decode cc pc = .ok (.invokevirtual idx, 3))
    (kx : ∀ u : hU, px u → hOk X b u.2.1 u.2.2 → hGx X d b Q u.1 u.2.1 u.2.2 pc lv E) (kk : ∀ (u : hU), post u → hOk X b u.2.1 u.2.2 → hG X d b Q u.1 u.2.1 u.2.2 (pc + 3) lv st) : hG X d b Q F k n pc lv (As.reverse ++ .ref a :: st) := by
  refine h_at hC ho (fun H locs ls hH hS hL y1 y2 y3 y4 => ?_)
  obtain ⟨r1, r2⟩ := hR_R hC hr0
  refine vx_callv (vx_runV (As := As) (rest := st) ⟨hC.hx, hC.hb, hC.hml, hC.how, hC.hts⟩ (hm (gKm b - H.size) (gNm - gsm b H)) (cwV nA hC.hts hl.1 rfl rfl rfl hl.2 (by rw [hC.hR]; exact hf)) ⟨hP.blind, g_recv hC hc hF hH, fun U hU hW => ⟨rfl, hE_B hC hH hS y2 y4 hU hW, by rw [hU]; omega, by rw [hU]; omega⟩⟩ rfl hA (hL.1.trans hn.symm) rfl (lv_room hr) hdg (by rw [hC.hR]; exact ⟨by omega, by omega⟩)) hS (fun q _ h => h) (fun q h => h) (fun q _ h => h) ?_ (fun u t H1 locs1 ht hvm hp hB hz hk1 hS1 => h_back hC u (by rw [← ht]; exact hB.1.2) hS1 hL (by rw [← ht]; exact hB.2.1) (by rw [← ht]; exact hB.2.2) (kk u hp))
  intro E1 ce q9 u t H1 locs1 ht hvm hp hB hz hk1 hS1 h1 h2 h3
  obtain ⟨rfl, hB1, hB2, hB3⟩ := hB
  exact h_backx hC u (by rw [← ht]; exact hB1) hS1 hL (by rw [← ht]; exact hB2) (by rw [← ht]; exact hB3) h1 h2 h3 (kx u hp)
theorem h_xcallVi (hC : gC own cc nL rt nm R d b X) (hr0 : hRm X b) (ho : hOk X b k n) {y : MethodName} {c2 : ByteArray} {mL nA lvl idx : Nat} {rt0 : FieldType} {As : List Value} {post : Int32 → hU → Prop} {E : String} {px : hU → Prop} {a ci N : Nat} {T : u_T} {v0 : Value} {fs : List Value} (hc : vwCl[ci]? = some (y.cls, T, N)) (hF : F a = .inr (ci, v0 :: fs)) (hm : hXi X.la d b y c2 mL rt0 lvl k n F (.ref a :: As) post E px) (hl : gCV own idx y c2 mL (some rt0) nA) (hA : As.length = nA) (hn : nL = lv.length) (hr : (st.map fun v => v.category).sum ≤ 8) (hf : hFr R lvl mL) (hdg : decode cc pc = .ok (.invokevirtual idx, 3))
    (kx : ∀ u : hU, px u → hOk X b u.2.1 u.2.2 → hGx X d b Q u.1 u.2.1 u.2.2 pc lv E) (kk : ∀ (r : Int32) (u : hU), post r u → hOk X b u.2.1 u.2.2 → hG X d b Q u.1 u.2.1 u.2.2 (pc + 3) lv (.int r :: st)) : hG X d b Q F k n pc lv (As.reverse ++ .ref a :: st) := by
  refine h_at hC ho (fun H locs ls hH hS hL y1 y2 y3 y4 => ?_)
  obtain ⟨r1, r2⟩ := hR_R hC hr0
  refine vx_calli (vx_runV (As := As) (rest := st) ⟨hC.hx, hC.hb, hC.hml, hC.how, hC.hts⟩ (hm (gKm b - H.size) (gNm - gsm b H)) (cwV nA hC.hts hl.1 rfl rfl rfl hl.2 (by rw [hC.hR]; exact hf)) ⟨hP.blind, g_recv hC hc hF hH, fun U hU hW => ⟨rfl, hE_B hC hH hS y2 y4 hU hW, by rw [hU]; omega, by rw [hU]; omega⟩⟩ rfl hA (hL.1.trans hn.symm) rfl (lv_room hr) hdg (by rw [hC.hR]; exact ⟨by omega, by omega⟩)) hS (fun q _ h => h) (fun q h => h) (fun q _ h => h) ?_ (fun r u t H1 locs1 ht hvm hp hB hz hk1 hS1 => h_back hC u (by rw [← ht]; exact hB.1.2) hS1 hL (by rw [← ht]; exact hB.2.1) (by rw [← ht]; exact hB.2.2) (kk r u hp))
  intro E1 ce q9 u t H1 locs1 ht hvm hp hB hz hk1 hS1 h1 h2 h3
  obtain ⟨rfl, hB1, hB2, hB3⟩ := hB
  exact h_backx hC u (by rw [← ht]; exact hB1) hS1 hL (by rw [← ht]; exact hB2) (by rw [← ht]; exact hB3) h1 h2 h3 (kx u hp)
theorem h_callVWi {Q : State → Prop} {rt0 : FieldType} {hh : List (Nat × Nat × Nat × Nat)} (hC : gC own cc nL rt nm R d b X) (hr0 : hRm X b) (ho : hOk X b k n) {y : MethodName} {c2 : ByteArray} {mL nA lvl idx : Nat} {As : List Value} {post : Int32 → hU → Prop} {a ci N : Nat} {T : u_T} {v0 : Value} {fs : List Value} (hc : vwCl[ci]? = some (y.cls, T, N)) (hF : F a = .inr (ci, v0 :: fs)) (hm : ∀ mc ms, Met X.la y (.codeWith y c2 mL (some rt0) hh :: gWs) (gR lvl mc ms) (va_Pc (.ref a :: As) (hP d b F k n mc ms)) (va_Qi post (hB d b) (fun q => b ≤ q)) mc ms (fun q => b ≤ q)) (hl : gCVW own idx y c2 mL (some rt0) hh nA) (hA : As.length = nA) (hn : nL = lv.length) (hr : (st.map fun v => v.category).sum ≤ 8) (hf : hFr R lvl mL) (hdg : decode cc pc = .ok (.invokevirtual idx, 3)) (kk : ∀ (r : Int32) (u : hU), post r u → hOk X b u.2.1 u.2.2 → hG X d b Q u.1 u.2.1 u.2.2 (pc + 3) lv (.int r :: st)) : hG X d b Q F k n pc lv (As.reverse ++ .ref a :: st) := by
  refine h_at hC ho (fun H locs ls hH hS hL y1 y2 y3 y4 => ?_)
  obtain ⟨r1, r2⟩ := hR_R hC hr0
  exact va_calli (vx_runVW (As := As) (rest := st) ⟨hC.hx, hC.hb, hC.hml, hC.how, hC.hts⟩ (hm (gKm b - H.size) (gNm - gsm b H)) (vx_cwVW nA hC.hts hl.1 rfl rfl rfl hl.2 (by rw [hC.hR]; exact hf)) ⟨hP.blind, g_recv hC hc hF hH, fun U hU hW => ⟨rfl, hE_B hC hH hS y2 y4 hU hW, by rw [hU]; omega, by rw [hU]; omega⟩⟩ rfl hA (hL.1.trans hn.symm) rfl (lv_room hr) hdg (by rw [hC.hR]; exact ⟨by omega, by omega⟩)) hS (fun q _ h => h) (fun q h => h) (fun r u t H1 locs1 ht hvm hp hB hz hk1 hS1 => h_back hC u (by rw [← ht]; exact hB.1.2) hS1 hL (by rw [← ht]; exact hB.2.1) (by rw [← ht]; exact hB.2.2) (kk r u hp))
theorem x_min {t h s k K c : Nat} (q : t ≤ s + (h - s + c)) (hs : s ≤ h) (h2 : h ≤ min k K) (h3 : k + c ≤ K) : t ≤ min (k + c) K := by omega
/-- new E("..") thrown -/
theorem h_throwS {Qc : Array Value → State → Outcome → State → Prop} {px : hU → Prop} {cls text : String} {names : List String} {ik is ic i : Nat} (hC : gC own cc nL rt nm R d b X) (hr : hRm X b) (ho : hOk X b k n) (e1 : R.cells = mc) (e2 : R.slots = ms) (hl : X.la.stackTraces = false) (hT : ∀ x ∈ X.co.exceptionTable.toList, False) (hcls : Bundle.fit cls = true) (hnames : ∀ n ∈ names, Bundle.fit n = true) (hk : Cond.classLink own ik cls ∈ gWs) (hini : Cond.initialized cls ∈ gWs) (hi : gSr[i]? = some (own, is, text))
    (hat : ∀ w ∈ (vx_atS own ic cls names).filter goodWord, w ∈ gWs) (hbad : ∀ w ∈ (vx_atS own ic cls names).filter (fun w => !goodWord w), w ∈ gCs.map (fun q => Cond.castable q.1 q.2) ++ gDs.map Cond.declares) (hgood : ∀ w ∈ Cond.classLink own ik cls :: Cond.initialized cls :: vx_atS own ic cls names, vx_ot w = true) (hn : nL = lv.length)
    (d0 : decode cc pc = .ok (.new ik, 3)) (d3 : decode cc (pc + 3) = .ok (.dup, 1)) (d4 : decode cc (pc + 4) = .ok (.ldc is, 2)) (d6 : decode cc (pc + 6) = .ok (.invokespecial ic, 3)) (d9 : decode cc (pc + 9) = .ok (.athrow, 1))
    (hRf : names.length + 3 < R.frames) (hRl : (st.map fun v => v.category).sum + (13 * (names.length + 1) + 43) ≤ R.locals) (hRc : k + 1 ≤ gKm b) (hRs : n + 6 ≤ gNm) (hp : px (F, k + 1, n + 6)) : hG X d b (vx_MQ X.be Qc (vx_X px (hTw cls d b) (fun q => b ≤ q)) X.ar X.st mc ms (fun q => b ≤ q)) F k n pc lv st := by
  refine h_at hC ho (fun H locs ls hH hS hL y1 y2 y3 y4 => ?_)
  obtain ⟨r1, r2⟩ := hR_R hC hr
  refine vx_sizes (b := b) (c1 := H.size - X.st.heap.size + 1) (n1 := gsm b H - gsm b X.st.heap + 6) (XC := vx_X (fun u : gM => u = F) (gTw cls d b) (fun q => b ≤ q)) hC.hv.1 (by omega) (by omega) (fun E t hx q1 q2 => ?_) ?_
  · obtain ⟨u, rfl, ⟨rfl, g2⟩, g3⟩ := hx
    exact ⟨(u, k + 1, n + 6), hp, ⟨rfl, g2, x_min q1 y1 y2 hRc, x_min q2 y3 y4 hRs⟩, g3⟩
  · exact vx_throwS hC.hx hC.hb hl hC.how hcls hnames (hC.hts _ hk) (hC.hts _ hini) (hC.hv.2.2.2.2.2.1 i _ hi) (vx_hat (fun w hw => hC.hts _ (hat w hw)) hbad (fun w hw => by
      rcases List.mem_append.mp hw with hw | hw
      · obtain ⟨q, hq, rfl⟩ := List.mem_map.mp hw
        exact va_Nw.use rfl (hC.hv.2.2.2.2.2.2.2.2.2.1 q hq)
      · obtain ⟨q, hq, rfl⟩ := List.mem_map.mp hw
        exact va_Nw.use rfl (hC.hv.2.2.2.2.2.2.2.2.2.2.1 q hq))) hgood hC.hv.2.2.2.2.2.2.2.1 hC.hv.2.2.2.2.2.2.2.2.1 hS (by rw [hC.hml, hn]; exact hL.1) d0 d3 d4 d6 d9 (fun x hx => absurd (hT x hx) id) (by rw [hC.hR]; exact hRf) (by rw [hC.hR]; exact hRl) (by rw [hC.hR]; omega) (by rw [hC.hR]; omega) hC.hlk
      (fun t hA hz hq => ⟨F, rfl, ⟨rfl, hH.kept hq⟩, Nat.le_trans hS.1 hz, fun q h1 h2 => (hq q (Nat.lt_of_lt_of_le h1 hS.1)).trans (hS.2.1 q h1 h2)⟩) hS.2.2 (Nat.le_refl _) (Nat.le_refl _)
end HX
set_option maxRecDepth 20000 in
theorem x_ise1 : ∀ w ∈ (vx_atS RX6 94 "java/lang/IllegalStateException" ["java/lang/RuntimeException", "java/lang/Exception"]).filter goodWord, w ∈ gWs := fun w h => List.mem_filter.mpr ⟨(by decide +kernel : ∀ w ∈ (vx_atS RX6 94 "java/lang/IllegalStateException" ["java/lang/RuntimeException", "java/lang/Exception"]).filter goodWord, w ∈ lw_tbl) w h, (List.mem_filter.mp h).2⟩
theorem x_ise2 : ∀ w ∈ (vx_atS RX6 94 "java/lang/IllegalStateException" ["java/lang/RuntimeException", "java/lang/Exception"]).filter (fun w => !goodWord w), w ∈ gCs.map (fun q => Cond.castable q.1 q.2) ++ gDs.map Cond.declares := by decide +kernel
theorem x_ise3 : ∀ w ∈ Cond.classLink RX6 80 "java/lang/IllegalStateException" :: Cond.initialized "java/lang/IllegalStateException" :: vx_atS RX6 94 "java/lang/IllegalStateException" ["java/lang/RuntimeException", "java/lang/Exception"], vx_ot w = true := by decide +kernel
