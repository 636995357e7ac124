def gTw (E : String) (d : gD) (b : Nat) : String → gM → State → Prop := fun E' u t => E' = E ∧ gH d b u t.heap
/-- a contract of a method that may throw E (px: the world then) -/
def gXi (l : Launch) (d : gD) (b : Nat) (y : MethodName) (cc : ByteArray) (mL : Nat) (rt : FieldType) (lvl mc ms : Nat) (F : gM) (As : List Value) (post : Int32 → gM → Prop) (E : String) (px : gM → Prop) : Prop :=
  vx_Met l y (gw y cc mL (some rt)) (gR lvl mc ms) (va_Pc As (gB d b F)) (va_Qi post (gB d b) (fun q => b ≤ q)) (vx_X px (gTw E d b) (fun q => b ≤ q)) mc ms (fun q => b ≤ q)
def gXv (l : Launch) (d : gD) (b : Nat) (y : MethodName) (cc : ByteArray) (mL : Nat) (lvl mc ms : Nat) (F : gM) (As : List Value) (post : gM → Prop) (E : String) (px : gM → Prop) : Prop :=
  vx_Met l y (gw y cc mL none) (gR lvl mc ms) (va_Pc As (gB d b F)) (va_Qv post (gB d b) (fun q => b ≤ q)) (vx_X px (gTw E d b) (fun q => b ≤ q)) mc ms (fun q => b ≤ q)
/-- an exception of class E on its way at pc -/
def gGx (X : gX) (d : gD) (b : Nat) (Q : State → Prop) (F : gM) (k n pc : Nat) (lv : List (Option Value)) (E : String) : Prop :=
  ∀ (H : Heap) (locs : List Loc) (ls : Array Slot) (rest : List Value) (q : Addr) (ce : Cell), gH d b F H → va_S (fun q => b ≤ q) X.st.heap H locs → gL lv ls → H[q]? = some ce → ce.vm = .none → X.st.vm.findClass E = some ce.cls → vx_W X.pr X.la X.en X.rm X.st X.mi X.ar X.be X.me X.co H locs k n Q (F0 X.mi pc ls rest) q
theorem gH.kept {d : gD} {b : Nat} {F : gM} {H H1 : Heap} (h : gH d b F H) (hk : ∀ q : Nat, q < H.size → H1[q]? = H[q]?) : gH d b F H1 := by
  obtain ⟨L, hP, hD, h0⟩ := h
  exact ⟨L, hP.kept (fun k q hq => hk q.1 (hP k q hq).lt), hD, h0⟩
theorem gX_of2 {Qc : Array Value → State → Outcome → State → Prop} {XC : String → State → State → Prop} {l : Launch} {d : gD} {b : Nat} {y : MethodName} {cc : ByteArray} {nL : Nat} {rt : Option FieldType} {lvl mc ms : Nat} {F : gM} {As : List Value} (hy : plainName y.cls = true) (hn : (lg_sl As).length ≤ nL)
    (body : ∀ X : gX, X.la = l → (∀ x ∈ X.co.exceptionTable.toList, False) → gC y.cls cc nL rt y.name (gR lvl mc ms) d b X → gG X d b (vx_MQ X.be Qc XC X.ar X.st mc ms (fun q => b ≤ q)) F 0 0 0 (gEnt As nL) []) : vx_Met l y (gw y cc nL rt) (gR lvl mc ms) (va_Pc As (gB d b F)) Qc XC mc ms (fun q => b ≤ q) := by
  refine vx_ofW (cc := cc) (maxL := nL) (ret := rt) hy rfl ?_
  intro p e s m args below meth c s₁ B hml hT hv
  obtain ⟨rfl, hV, hH⟩ := hv
  have hts := atoms_spec (ws := gw y cc nL rt) B.pre
  have hown : s.vm.findClass y.cls = some m.cls := findClass_of_methodNamed B.named
  have hent := lv_entry As (n := nL) hn
  rw [lg_entry_eq]
  exact body (p, l, e, (headSpec (gw y cc nL rt) (gR lvl mc ms)).room, s, m, As.toArray, below, meth, c) rfl hT ⟨B.exec, B.bytes, hml, hown, fun w hw => hts w (List.mem_cons_of_mem _ hw), hV, B.notSynchronized, B.returns, (name_of_methodNamed B.named B.method).1, rfl⟩ s.heap [] _ hH va_S.rf (gEnt_L hn hent)
/-- a method with a table of its own that doesn't throw -/
theorem gH_of2 {Qc : Array Value → State → Outcome → State → Prop} {l : Launch} {d : gD} {b : Nat} {y : MethodName} {cc : ByteArray} {nL : Nat} {rt : Option FieldType} {hh : List (Nat × Nat × Nat × Nat)} {lvl mc ms : Nat} {F : gM} {As : List Value} (hy : plainName y.cls = true) (hn : (lg_sl As).length ≤ nL)
    (body : ∀ X : gX, X.la = l → X.co.exceptionTable.toList = tableOf hh → gC y.cls cc nL rt y.name (gR lvl mc ms) d b X → gG X d b (MQ X.be Qc X.ar X.st mc ms (fun q => b ≤ q)) F 0 0 0 (gEnt As nL) []) : Met l y (.codeWith y cc nL rt hh :: gWs) (gR lvl mc ms) (va_Pc As (gB d b F)) Qc mc ms (fun q => b ≤ q) := by
  refine va_MetW (cc := cc) (maxL := nL) (ret := rt) (hh := hh) hy rfl ?_
  intro p e s m args below meth c s₁ B hml hv
  obtain ⟨rfl, hV, hH⟩ := hv
  have hts := atoms_spec (ws := Cond.codeWith y cc nL rt hh :: gWs) B.pre
  have hT := vx_table (x := y) B (hts _ List.mem_cons_self)
  have hown : s.vm.findClass y.cls = some m.cls := findClass_of_methodNamed B.named
  have hent := lv_entry As (n := nL) hn
  rw [lg_entry_eq]
  exact body (p, l, e, (headSpec (Cond.codeWith y cc nL rt hh :: gWs) (gR lvl mc ms)).room, s, m, As.toArray, below, meth, c) rfl hT ⟨B.exec, B.bytes, hml, hown, fun w hw => hts w (List.mem_cons_of_mem _ hw), hV, B.notSynchronized, B.returns, (name_of_methodNamed B.named B.method).1, rfl⟩ s.heap [] _ hH va_S.rf (gEnt_L hn hent)
section G4
variable {own : String} {cc : ByteArray} {nL : Nat} {rt : Option FieldType} {nm : String} {R : Room} {d : gD} {b : Nat} {X : gX} {F : gM} {k n pc : Nat} {lv : List (Option Value)} {st : List Value} {mc ms : Nat} {Q : State → Prop}
theorem g_xret {Qc : Array Value → State → Outcome → State → Prop} {XC : String → State → State → Prop} (kk : gG X d b (MQ X.be Qc X.ar X.st mc ms (fun q => b ≤ q)) F k n pc lv st) : gG X d b (vx_MQ X.be Qc XC X.ar X.st mc ms (fun q => b ≤ q)) F k n pc lv st := fun H locs ls hH hS hL => vx_ret (kk H locs ls hH hS hL)
/-- it goes out -/
theorem g_xout {Qc : Array Value → State → Outcome → State → Prop} {E : String} {px : gM → Prop} (hC : gC own cc nL rt nm R d b X) (hT : ∀ x ∈ X.co.exceptionTable.toList, False) (hp : px F) (hk : k ≤ mc) (hs : n ≤ ms) : gGx X d b (vx_MQ X.be Qc (vx_X px (gTw E d b) (fun q => b ≤ q)) X.ar X.st mc ms (fun q => b ≤ q)) F k n pc lv E := fun H locs ls rest q ce hH hS hL h1 h2 h3 =>
  vx_out (fun x hx => absurd (hT x hx) id) hC.hlk h1 h2 h3 (fun t ht hA => ⟨F, hp, ⟨rfl, by rw [ht]; exact hH⟩, hS.F ht⟩) hS.2.2 hk hs
/-- it's caught by the first row of the table -/
theorem g_xcatch {E name : String} {a1 a2 a3 a4 : Nat} (hC : gC own cc nL rt nm R d b X) (hT : X.co.exceptionTable.toList = tableOf [(a1, a2, a3, a4)]) (h1 : a1 ≤ pc ∧ pc < a2) (h4 : a4 ≠ 0) (hw : Cond.classLink own a4 name ∈ gWs) (hc : (E, name) ∈ gCs) (kk : ∀ q : Nat, gG X d b Q F k n a3 lv [.ref q]) : gGx X d b Q F k n pc lv E := fun H locs ls rest q ce hH hS hL g1 g2 g3 =>
  vx_catch hC.how [] ⟨a1, a2, a3, a4⟩ [] hT (fun z hz => by cases hz) (by simp [covers, h1.1, h1.2]) h4 (hC.hts _ hw) (va_Nw.use rfl (hC.hv.2.2.2.2.2.2.2.2.2.1 _ hc)) g1 g2 g3 (kk q H locs ls hH hS hL)

theorem g_xcallVv (hC : gC own cc nL rt nm R d b X) {y : MethodName} {c2 : ByteArray} {mL nA lvl idx : Nat} {As : List Value} {post : gM → Prop} {E : String} {px : gM → Prop} {a ci N : Nat} {T : u_T} {v0 : Value} {fs : List Value} (hc : vwCl[ci]? = some (y.cls, T, N)) (hF : F a = .inr (ci, v0 :: fs)) (hm : gXv X.la d b y c2 mL lvl mc ms F (.ref a :: As) post E px) (hl : gCV own idx y c2 mL none nA) (hA : As.length = nA) (hn : nL = lv.length) (hr : (st.map fun v => v.category).sum ≤ 8) (hf : gFit R lvl mL k n mc ms) (hdg : decode cc pc = .ok (.invokevirtual idx, 3))
    (kx : ∀ F' : gM, px F' → gGx X d b Q F' (k + mc) (n + ms) pc lv E) (kk : ∀ F' : gM, post F' → gG X d b Q F' (k + mc) (n + ms) (pc + 3) lv st) : gG X d b Q F k n pc lv (As.reverse ++ .ref a :: st) := fun H locs ls hH hS hL => by
  refine vx_callv (vx_runV (As := As) (rest := st) ⟨hC.hx, hC.hb, hC.hml, hC.how, hC.hts⟩ hm (cwV nA hC.hts hl.1 rfl rfl rfl hl.2 (by rw [hC.hR]; exact hf.1)) ⟨gB.blind, g_recv hC hc hF hH, fun U hU hW => ⟨rfl, gE_B hC hH hS hU hW⟩⟩ rfl hA (hL.1.trans hn.symm) rfl (lv_room hr) hdg (by rw [hC.hR]; exact hf.2)) hS (fun q _ h => h) (fun q h => h) (fun q _ h => h) ?_ (fun u t H1 locs1 ht hvm hp hB hz hk1 hS1 => kk u hp H1 locs1 ls (by rw [← ht]; exact hB.2) hS1 hL)
  intro E1 ce q9 u t H1 locs1 ht hvm hp hB hz hk1 hS1 h1 h2 h3
  obtain ⟨rfl, hB⟩ := hB
  exact kx u hp H1 locs1 ls st q9 ce (by rw [← ht]; exact hB) hS1 hL h1 h2 h3
theorem g_xcallVi (hC : gC own cc nL rt nm R d b X) {y : MethodName} {c2 : ByteArray} {mL nA lvl idx : Nat} {rt0 : FieldType} {As : List Value} {post : Int32 → gM → Prop} {E : String} {px : gM → Prop} {a ci N : Nat} {T : u_T} {v0 : Value} {fs : List Value} (hc : vwCl[ci]? = some (y.cls, T, N)) (hF : F a = .inr (ci, v0 :: fs)) (hm : gXi X.la d b y c2 mL rt0 lvl mc ms F (.ref a :: As) post E px) (hl : gCV own idx y c2 mL (some rt0) nA) (hA : As.length = nA) (hn : nL = lv.length) (hr : (st.map fun v => v.category).sum ≤ 8) (hf : gFit R lvl mL k n mc ms) (hdg : decode cc pc = .ok (.invokevirtual idx, 3))
    (kx : ∀ F' : gM, px F' → gGx X d b Q F' (k + mc) (n + ms) pc lv E) (kk : ∀ (r : Int32) (F' : gM), post r F' → gG X d b Q F' (k + mc) (n + ms) (pc + 3) lv (.int r :: st)) : gG X d b Q F k n pc lv (As.reverse ++ .ref a :: st) := fun H locs ls hH hS hL => by
  refine vx_calli (vx_runV (As := As) (rest := st) ⟨hC.hx, hC.hb, hC.hml, hC.how, hC.hts⟩ hm (cwV nA hC.hts hl.1 rfl rfl rfl hl.2 (by rw [hC.hR]; exact hf.1)) ⟨gB.blind, g_recv hC hc hF hH, fun U hU hW => ⟨rfl, gE_B hC hH hS hU hW⟩⟩ rfl hA (hL.1.trans hn.symm) rfl (lv_room hr) hdg (by rw [hC.hR]; exact hf.2)) hS (fun q _ h => h) (fun q h => h) (fun q _ h => h) ?_ (fun r u t H1 locs1 ht hvm hp hB hz hk1 hS1 => kk r u hp H1 locs1 ls (by rw [← ht]; exact hB.2) hS1 hL)
  intro E1 ce q9 u t H1 locs1 ht hvm hp hB hz hk1 hS1 h1 h2 h3
  obtain ⟨rfl, hB⟩ := hB
  exact kx u hp H1 locs1 ls st q9 ce (by rw [← ht]; exact hB) hS1 hL h1 h2 h3
/-- new E("..") thrown -/
theorem g_throwS {Qc : Array Value → State → Outcome → State → Prop} {px : gM → Prop} {cls text : String} {names : List String} {ik is ic i : Nat} (hC : gC own cc nL rt nm R d b X) (hl : X.la.stackTraces = false) (hT : ∀ x ∈ X.co.exceptionTable.toList, False) (hcls : Bundle.fit cls = true) (hnames : ∀ n ∈ names, Bundle.fit n = true) (hk : Cond.classLink own ik cls ∈ gWs) (hini : Cond.initialized cls ∈ gWs) (hi : gSr[i]? = some (own, is, text))
    (hat : ∀ w ∈ (vx_atS own ic cls names).filter goodWord, w ∈ gWs) (hbad : ∀ w ∈ (vx_atS own ic cls names).filter (fun w => !goodWord w), w ∈ gCs.map (fun q => Cond.castable q.1 q.2) ++ gDs.map Cond.declares) (hgood : ∀ w ∈ Cond.classLink own ik cls :: Cond.initialized cls :: vx_atS own ic cls names, vx_ot w = true) (hn : nL = lv.length)
    (d0 : decode cc pc = .ok (.new ik, 3)) (d3 : decode cc (pc + 3) = .ok (.dup, 1)) (d4 : decode cc (pc + 4) = .ok (.ldc is, 2)) (d6 : decode cc (pc + 6) = .ok (.invokespecial ic, 3)) (d9 : decode cc (pc + 9) = .ok (.athrow, 1))
    (hRf : names.length + 3 < R.frames) (hRl : (st.map fun v => v.category).sum + (13 * (names.length + 1) + 43) ≤ R.locals) (hRc : k + 1 ≤ R.cells) (hRs : n + 6 ≤ R.slots) (hp : px F) (hc : k + 1 ≤ mc) (hs : n + 6 ≤ ms) : gG X d b (vx_MQ X.be Qc (vx_X px (gTw cls d b) (fun q => b ≤ q)) X.ar X.st mc ms (fun q => b ≤ q)) F k n pc lv st := fun H locs ls hH hS hL =>
  vx_throwS hC.hx hC.hb hl hC.how hcls hnames (hC.hts _ hk) (hC.hts _ hini) (hC.hv.2.2.2.2.2.1 i _ hi) (vx_hat (fun w hw => hC.hts _ (hat w hw)) hbad (fun w hw => by
    rcases List.mem_append.mp hw with hw | hw
    · obtain ⟨q, hq, rfl⟩ := List.mem_map.mp hw
      exact va_Nw.use rfl (hC.hv.2.2.2.2.2.2.2.2.2.1 q hq)
    · obtain ⟨q, hq, rfl⟩ := List.mem_map.mp hw
      exact va_Nw.use rfl (hC.hv.2.2.2.2.2.2.2.2.2.2.1 q hq))) hgood hC.hv.2.2.2.2.2.2.2.1 hC.hv.2.2.2.2.2.2.2.2.1 hS (by rw [hC.hml, hn]; exact hL.1) d0 d3 d4 d6 d9 (fun x hx => absurd (hT x hx) id) (by rw [hC.hR]; exact hRf) (by rw [hC.hR]; exact hRl) (by rw [hC.hR]; exact hRc) (by rw [hC.hR]; exact hRs) hC.hlk
    (fun t hA hz hq => ⟨F, hp, ⟨rfl, hH.kept hq⟩, Nat.le_trans hS.1 hz, fun q h1 h2 => (hq q (Nat.lt_of_lt_of_le h1 hS.1)).trans (hS.2.1 q h1 h2)⟩) hS.2.2 hc hs
/-- new E() thrown -/
theorem g_throw0 {Qc : Array Value → State → Outcome → State → Prop} {px : gM → Prop} {cls : String} {names : List String} {ik ic : Nat} (hC : gC own cc nL rt nm R d b X) (hl : X.la.stackTraces = false) (hT : ∀ x ∈ X.co.exceptionTable.toList, False) (hcls : Bundle.fit cls = true) (hnames : ∀ n ∈ names, Bundle.fit n = true) (hk : Cond.classLink own ik cls ∈ gWs) (hini : Cond.initialized cls ∈ gWs)
    (hat : ∀ w ∈ (vx_at0 own ic cls names).filter goodWord, w ∈ gWs) (hbad : ∀ w ∈ (vx_at0 own ic cls names).filter (fun w => !goodWord w), w ∈ gCs.map (fun q => Cond.castable q.1 q.2) ++ gDs.map Cond.declares) (hgood : ∀ w ∈ Cond.classLink own ik cls :: Cond.initialized cls :: vx_at0 own ic cls names, vx_ot w = true) (hn : nL = lv.length)
    (d0 : decode cc pc = .ok (.new ik, 3)) (d3 : decode cc (pc + 3) = .ok (.dup, 1)) (d4 : decode cc (pc + 4) = .ok (.invokespecial ic, 3)) (d7 : decode cc (pc + 7) = .ok (.athrow, 1))
    (hRf : names.length + 3 < R.frames) (hRl : (st.map fun v => v.category).sum + (13 * (names.length + 1) + 42) ≤ R.locals) (hRc : k + 1 ≤ R.cells) (hRs : n + 6 ≤ R.slots) (hp : px F) (hc : k + 1 ≤ mc) (hs : n + 6 ≤ ms) : gG X d b (vx_MQ X.be Qc (vx_X px (gTw cls d b) (fun q => b ≤ q)) X.ar X.st mc ms (fun q => b ≤ q)) F k n pc lv st := fun H locs ls hH hS hL =>
  vx_throw0 hC.hx hC.hb hl hC.how hcls hnames (hC.hts _ hk) (hC.hts _ hini) (vx_hat (fun w hw => hC.hts _ (hat w hw)) hbad (fun w hw => by
    rcases List.mem_append.mp hw with hw | hw
    · obtain ⟨q, hq, rfl⟩ := List.mem_map.mp hw
      exact va_Nw.use rfl (hC.hv.2.2.2.2.2.2.2.2.2.1 q hq)
    · obtain ⟨q, hq, rfl⟩ := List.mem_map.mp hw
      exact va_Nw.use rfl (hC.hv.2.2.2.2.2.2.2.2.2.2.1 q hq))) hgood hC.hv.2.2.2.2.2.2.2.1 hC.hv.2.2.2.2.2.2.2.2.1 hS (by rw [hC.hml, hn]; exact hL.1) d0 d3 d4 d7 (fun x hx => absurd (hT x hx) id) (by rw [hC.hR]; exact hRf) (by rw [hC.hR]; exact hRl) (by rw [hC.hR]; exact hRc) (by rw [hC.hR]; exact hRs) hC.hlk
    (fun t hA hz hq => ⟨F, hp, ⟨rfl, hH.kept hq⟩, Nat.le_trans hS.1 hz, fun q h1 h2 => (hq q (Nat.lt_of_lt_of_le h1 hS.1)).trans (hS.2.1 q h1 h2)⟩) hS.2.2 hc hs
/-- a method with a table, called -/
def gCVW (own : String) (idx : Nat) (y : MethodName) (cc : ByteArray) (mL : Nat) (rt : Option FieldType) (hh : List (Nat × Nat × Nat × Nat)) (nA : Nat) : Prop := GoodIn gWs (wsV own idx y.cls y (.codeWith y cc mL rt hh :: gWs)) ∧ (y.cls = y.cls ∧ y.cls ≠ "java/lang/invoke/MethodHandle" ∧ y.cls ≠ "java/lang/invoke/VarHandle" ∧ (parseMethodDescriptor y.desc).map (fun d => d.parameters.length) = some nA)
theorem g_callVWi {rt0 : FieldType} {hh : List (Nat × Nat × Nat × Nat)} (hC : gC own cc nL rt nm R d b X) {y : MethodName} {c2 : ByteArray} {mL nA lvl idx : Nat} {As : List Value} {post : Int32 → gM → Prop} {a ci N : Nat} {T : u_T} {v0 : Value} {fs : List Value} (hc : vwCl[ci]? = some (y.cls, T, N)) (hF : F a = .inr (ci, v0 :: fs)) (hm : Met X.la y (.codeWith y c2 mL (some rt0) hh :: gWs) (gR lvl mc ms) (va_Pc (.ref a :: As) (gB d b F)) (va_Qi post (gB d b) (fun q => b ≤ q)) mc ms (fun q => b ≤ q)) (hl : gCVW own idx y c2 mL (some rt0) hh nA) (hA : As.length = nA) (hn : nL = lv.length) (hr : (st.map fun v => v.category).sum ≤ 8) (hf : gFit R lvl mL k n mc ms) (hdg : decode cc pc = .ok (.invokevirtual idx, 3)) (kk : ∀ (r : Int32) (F' : gM), post r F' → gG X d b Q F' (k + mc) (n + ms) (pc + 3) lv (.int r :: st)) : gG X d b Q F k n pc lv (As.reverse ++ .ref a :: st) := fun H locs ls hH hS hL => by
  exact va_calli (vx_runVW (As := As) (rest := st) ⟨hC.hx, hC.hb, hC.hml, hC.how, hC.hts⟩ hm (vx_cwVW nA hC.hts hl.1 rfl rfl rfl hl.2 (by rw [hC.hR]; exact hf.1)) ⟨gB.blind, g_recv hC hc hF hH, fun U hU hW => ⟨rfl, gE_B hC hH hS hU hW⟩⟩ rfl hA (hL.1.trans hn.symm) rfl (lv_room hr) hdg (by rw [hC.hR]; exact hf.2)) hS (fun q _ h => h) (fun q h => h) (fun r u t H1 locs1 ht hvm hp hB hz hk1 hS1 => kk r u hp H1 locs1 ls (by rw [← ht]; exact hB.2) hS1 hL)
def gCSW (own : String) (idx : Nat) (y : MethodName) (cc : ByteArray) (mL : Nat) (rt : Option FieldType) (hh : List (Nat × Nat × Nat × Nat)) (nA : Nat) : Prop := GoodIn gWs (va_wsS own idx y (.codeWith y cc mL rt hh :: gWs)) ∧ (y.cls ≠ "java/lang/invoke/MethodHandle" ∧ y.cls ≠ "java/lang/invoke/VarHandle" ∧ (parseMethodDescriptor y.desc).map (fun d => d.parameters.length) = some nA)
theorem g_callSWi {rt0 : FieldType} {hh : List (Nat × Nat × Nat × Nat)} (hC : gC own cc nL rt nm R d b X) {y : MethodName} {c2 : ByteArray} {mL nA lvl idx : Nat} {As : List Value} {post : Int32 → gM → Prop} (hm : Met X.la y (.codeWith y c2 mL (some rt0) hh :: gWs) (gR lvl mc ms) (va_Pc As (gB d b F)) (va_Qi post (gB d b) (fun q => b ≤ q)) mc ms (fun q => b ≤ q)) (hl : gCSW own idx y c2 mL (some rt0) hh nA) (hA : As.length = nA) (hn : nL = lv.length) (hr : (st.map fun v => v.category).sum ≤ 8) (hf : gFit R lvl mL k n mc ms) (hdg : decode cc pc = .ok (.invokestatic idx, 3)) (kk : ∀ (r : Int32) (F' : gM), post r F' → gG X d b Q F' (k + mc) (n + ms) (pc + 3) lv (.int r :: st)) : gG X d b Q F k n pc lv (As.reverse ++ st) := fun H locs ls hH hS hL => by
  exact va_calli (vx_runSW (As := As) (rest := st) ⟨hC.hx, hC.hb, hC.hml, hC.how, hC.hts⟩ hm (vx_cwSW nA hC.hts hl.1 rfl rfl rfl hl.2 (by rw [hC.hR]; exact hf.1)) ⟨gB.blind, fun U hU hW => ⟨rfl, gE_B hC hH hS hU hW⟩⟩ rfl hA (hL.1.trans hn.symm) rfl (lv_room hr) hdg (by rw [hC.hR]; exact hf.2)) hS (fun q _ h => h) (fun q h => h) (fun r u t H1 locs1 ht hvm hp hB hz hk1 hS1 => kk r u hp H1 locs1 ls (by rw [← ht]; exact hB.2) hS1 hL)
end G4
