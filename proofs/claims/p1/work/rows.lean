section
-- pasted: the first blocks of claim/NAMES.whole.lean.txt
/-! ===== BEGIN words of one list among another's, by their places ===== -/
theorem goodIn_r {big : List Cond} (ws : List Cond) (ps : List Nat) (hp : ws = ps.filterMap (fun i => big[i]?)) (h : ws.all goodWord = true) : GoodIn big ws := by
  intro w hw
  have h1 := List.all_eq_true.mp h w hw
  rw [hp] at hw
  obtain ⟨i, -, hi⟩ := List.mem_filterMap.mp hw
  have hm : w ∈ big := by first | exact List.mem_of_getElem? hi | exact List.getElem?_mem hi
  exact ⟨hm, good_of_word h1⟩
theorem goodIn_app {big a b : List Cond} (ha : GoodIn big a) (hb : GoodIn big b) : GoodIn big (a ++ b) := fun w h => (List.mem_append.mp h).elim (ha w) (hb w)
theorem goodIn_ca {big a b : List Cond} {c : Cond} (ha : GoodIn big (c :: a)) (hb : GoodIn big b) : GoodIn big (c :: (a ++ b)) := fun w h => (List.mem_cons.mp h).elim (fun e => ha w (List.mem_cons.mpr (Or.inl e))) (fun h => (List.mem_append.mp h).elim (fun h => ha w (List.mem_cons.mpr (Or.inr h))) (hb w))
theorem goodIn_sub {big ws : List Cond} (hm : ∀ w ∈ ws, w ∈ big) (h : ws.all goodWord = true) : GoodIn big ws := fun w hw => ⟨hm w hw, good_of_word (List.all_eq_true.mp h w hw)⟩
/-! ===== END ===== -/

/-! ===== BEGIN exceptions that leave a method, and their catching by the caller (launches without stack traces) ===== -/
section VXA
/-! The laws vx_back, vx_callV, vx_callS, vx_callSW, vx_throw0, vx_throwS follow proofs of the library, with one case more: JvmDerived/Free/Laws.lean (Back.of_free), Shelf42/LK1.lean (callV, callS), Shelf/KitTraced.lean (throwNew0V, throwNewS). -/
/-- where a method has thrown q: the class by its name, the cell, what was written, the world -/
def vx_T (XC : String → State → State → Prop) (st : State) (q : Addr) (t : State) (mc ms : Nat) (free : Addr → Prop) : Prop :=
  ∃ (E : String) (ce : Cell) (L : List Loc), XC E st t ∧ t.heap[q]? = some ce ∧ ce.vm = .none ∧ st.vm.findClass E = some ce.cls ∧ st.WarmedH t.vm ∧ st.sameButNew ({ t with vm := st.vm } : State) L mc ms ∧ ∀ z ∈ L, free z.base
def vx_Q (Qc : Array Value → State → Outcome → State → Prop) (XC : String → State → State → Prop) (mc ms : Nat) (free : Addr → Prop) : Array Value → State → Outcome → State → Prop := fun a st o t =>
  (Qc a st o t ∧ ∃ L, FrameEnd st o t L mc ms ∧ ∀ q ∈ L, free q.base) ∨ ∃ q, o = .threw q ∧ vx_T XC st q t mc ms free
/-- a callee that returns or throws -/
def vx_Met (l : Launch) (y : MethodName) (ws : List Cond) (rm : Room) (Pc : Array Value → State → Prop) (Qc : Array Value → State → Outcome → State → Prop) (XC : String → State → State → Prop) (mc ms : Nat) (free : Addr → Prop) : Prop :=
  MetFree l y (headSpec ws rm) Pc (fun _ _ _ _ _ => True) (vx_Q Qc XC mc ms free)
def vx_Post (XC : String → State → State → Prop) (mc ms : Nat) (free : Addr → Prop) : Pt → Array Value → Addr → Pt → Prop := fun A a q B =>
  ∃ (g : JFrame) (mk : MethodId) (t : State) (L : List Loc) (E : String) (ce : Cell), B.U.heap = t.heap ∧ B.U.vm = t.vm ∧ XC E (A.U.calling g mk a) t ∧ t.heap[q]? = some ce ∧ ce.vm = .none ∧ A.U.vm.findClass E = some ce.cls ∧ B.locs = A.locs ++ L ∧ (∀ z ∈ L, free z.base) ∧ B.cells = A.cells + mc ∧ B.slots = A.slots + ms
def vx_Back (l : Launch) (R : Room) (p : Program) (e : Env) (below : List Frame) (s : State) (sargs : Array Value) (y : MethodName) (len W9 : Nat)
    (Pre : Pt → Array Value → Prop) (Post : Pt → Array Value → Option Value → Pt → Prop) (PostX : Pt → Array Value → Addr → Pt → Prop) : Prop :=
  ∀ (m : MethodId) (meth : Method) (c : Code) (A : Pt) (g : JFrame) (ig : Instr) (mk : MethodId) (a : Array Value),
    Stand p l e R s m sargs below meth c A.U A.locs A.cells A.slots → g.method = m → g.locals.size = c.maxLocals → decode c.code g.pc = .ok (ig, len) →
    2 * g.monitorRoom + (g.stack.map fun v => v.category).sum ≤ W9 → A.U.methodNamed? y = some mk → Pre A a →
    (∃ (v : Option Value) (B : Pt), Stand p l e R s m sargs below meth c B.U B.locs B.cells B.slots ∧ Post A a v B ∧
      Steps p.tables e below (doInvoke e (A.U.setTop g) [] mk a).1 (B.U.setTop { g with pc := g.pc + len, stack := v.toList ++ g.stack })) ∨
    (∃ (q : Addr) (B : Pt), Stand p l e R s m sargs below meth c B.U B.locs B.cells B.slots ∧ PostX A a q B ∧
      Steps p.tables e below (doInvoke e (A.U.setTop g) [] mk a).1 ((B.U.setTop g).pushFrame (.throwing q)))
section Payer
variable {l : Launch} {R : Room} {p : Program} {e : Env} {below : List Frame} {s : State} {sargs : Array Value} {y : MethodName} {len W9 : Nat}
theorem vx_back {ws : List Cond} {rm : Room} {Pc : Array Value → State → Prop} {Qc : Array Value → State → Outcome → State → Prop} {XC : String → State → State → Prop} {mc ms : Nat} {free : Addr → Prop} {bytes : ByteArray} {maxL : Nat} {ret : Option FieldType}
    (hM : vx_Met l y ws rm Pc Qc XC mc ms free) (hblind : FrameBlind Pc) (hrc : rm.cells = mc) (hrs : rm.slots = ms)
    (hframes : rm.frames + 1 ≤ R.frames) (hlocals : W9 + (maxL + 11) + rm.locals ≤ R.locals)
    (hws : ∀ w ∈ ws, ∀ a' U, s.WarmedH U.vm → w.before a' U = true) (hcode : Cond.code y bytes maxL ret ∈ ws) (hinit : ∀ a' U, s.WarmedH U.vm → (Cond.initialized y.cls).before a' U = true) :
    vx_Back l R p e below s sargs y len W9 (PreOf R mc ms Pc) (PostOf Qc mc ms free) (vx_Post XC mc ms free) := by
  intro m meth c A g ig mk a X hg hsize hdg hW hn hp
  have h1 : (headSpec ws rm).pre.before a A.U = true := atoms_intro fun w hw => hws w hw _ _ X.warmed
  have h2 : (Cond.code y bytes maxL ret).before a A.U = true := hws _ hcode _ _ X.warmed
  have h3 : (Cond.initialized y.cls).before a A.U = true := hinit _ _ X.warmed
  have h4 : A.cells + (headSpec ws rm).room.cells ≤ R.cells := by rw [show (headSpec ws rm).room.cells = mc from hrc]; exact hp.1
  have h5 : A.slots + (headSpec ws rm).room.slots ≤ R.slots := by rw [show (headSpec ws rm).room.slots = ms from hrs]; exact hp.2.1
  have hPc : Pc a (A.U.calling g mk a) := hblind _ _ _ _ hp.2.2
  obtain ⟨U, Ls, c0, s0⟩ := A
  dsimp only [Pt.U, Pt.locs, Pt.cells, Pt.slots] at h1 h2 h3 h4 h5 X hn hPc ⊢
  obtain ⟨methY, cY, hmY, hcY, -, hlY, -, -, -, -⟩ := Cond.code_spec hn h2
  obtain ⟨kY, hkY, -⟩ := className_of_methodNamed hn
  have hinitY : kY.init = .initialized := Cond.initialized_spec (findClass_of_methodNamed hn) hkY h3
  have h : At U g.method c below := by rw [hg]; exact X.here
  have hlocals9 : W9 + (maxL + 11) + (headSpec ws rm).room.locals ≤ R.locals := hlocals
  have happ : (headSpec ws rm).appliesLoose y e.platform (U.calling g mk a) = true :=
    Spec.appliesLoose_calling (g := g) h hdg hn hkY hinitY
      (X.room_calling (g := g) (R' := (headSpec ws rm).room) hsize hmY hcY hframes (by rw [hlY]; omega) h4 h5) h1
  obtain ⟨mid, hmid⟩ := h.above
  have hfr : (U.setTop g).frames = (.java g :: mid) ++ below := by rw [State.frames_setTop' g h.top, hmid]; rfl
  obtain ⟨o, s₂, hsteps, -, hend, hq⟩ := Steps.callFree hM p X.admits X.cas X.clock (acts := []) hfr happ hPc trivial
  have hq' : vx_Q Qc XC mc ms free a (U.calling g mk a) o s₂ := hq
  rw [State.frames_setTop' g h.top] at hend
  obtain ⟨g₀, hg0⟩ := Option.isSome_iff_exists.mp h.top
  obtain ⟨r, hr⟩ := State.topJava?_eq_some.mp hg0
  have hr' : (({ U with heap := s₂.heap, slotsUsed := s₂.slotsUsed } : State).setVm s₂.vm).frames = .java g₀ :: r := hr
  rcases hq' with ⟨hqc, L, hfe, hL⟩ | ⟨q, rfl, E, ce, L, hx, hce, hcv, hcl, hW₂, hsm, hL⟩
  · obtain ⟨⟨v, rfl⟩, hW₂, e2, q2, q3, q4, q5, q6⟩ := id hfe
    have e3 : s₂ = ({ (U.calling g mk a).setFrames s₂.frames with heap := s₂.heap, slotsUsed := s₂.slotsUsed } : State).setVm s₂.vm := by
      have : s₂ = ({ s₂ with vm := (U.calling g mk a).vm } : State).setVm s₂.vm := rfl
      rw [e2] at this
      exact this
    obtain ⟨c₂, i₂, len₂, hc₂, hd₂, hf₂⟩ := hend
    have hW' : U.WarmedH s₂.vm := hW₂
    have hcc : c₂ = c := by
      have h1 : s₂.code? g.method = U.code? g.method := by
        rw [State.code?_eq, State.code?_eq, hW'.alike.method?]
      exact Option.some.inj (hc₂.symm.trans (h1.trans h.code))
    subst hcc
    have hlen : len₂ = len := by rw [hdg] at hd₂; cases hd₂; rfl
    subst hlen
    have hs₂ : s₂ = (({ U with heap := s₂.heap, slotsUsed := s₂.slotsUsed } : State).setVm s₂.vm).setTop { g with pc := g.pc + len₂, stack := v.toList ++ g.stack } := by
      refine e3.trans ?_
      rw [hf₂, State.calling_eq h.top, State.setFrames_setFrames, State.setTop_of_frames _ hr', hr]
      rfl
    have hsame : U.sameButNew ({ U with heap := s₂.heap, slotsUsed := s₂.slotsUsed } : State) L mc ms := by
      refine ⟨?_, q2, q3, q4, q5, q6⟩
      obtain ⟨t, ht, -⟩ := State.frames_cons hr
      show ({ U with heap := s₂.heap, slotsUsed := s₂.slotsUsed } : State) = { U.setFrames U.frames with heap := s₂.heap, slotsUsed := s₂.slotsUsed }
      rw [State.setFrames_self ht]
    subst hg
    refine Or.inl ⟨v, ⟨(({ U with heap := s₂.heap, slotsUsed := s₂.slotsUsed } : State).setVm s₂.vm), Ls ++ L, c0 + mc, s0 + ms⟩,
      ⟨X.admits, X.cas, X.clock, X.frames, X.room, X.hears, X.method, X.code, (X.here.setHeapUsed s₂.heap s₂.slotsUsed).setVm hW'.alike, X.tail, State.WarmedH.trans X.warmed hW', X.limits, X.bytes, X.same.trans (hsame.setVm s.vm)⟩,
      ⟨g, mk, s₂, L, rfl, rfl, hqc, rfl, hL, rfl, rfl⟩, ?_⟩
    show Steps p.tables e below _ ((({ U with heap := s₂.heap, slotsUsed := s₂.slotsUsed } : State).setVm s₂.vm).setTop { g with pc := g.pc + len₂, stack := v.toList ++ g.stack })
    rw [← hs₂]
    exact hsteps
  · obtain ⟨e2, q2, q3, q4, q5, q6⟩ := id hsm
    have e3 : s₂ = ({ (U.calling g mk a).setFrames s₂.frames with heap := s₂.heap, slotsUsed := s₂.slotsUsed } : State).setVm s₂.vm := by
      have : s₂ = ({ s₂ with vm := (U.calling g mk a).vm } : State).setVm s₂.vm := rfl
      rw [e2] at this
      exact this
    have hf₂ : s₂.frames = .throwing q :: .java g :: U.frames.tail := hend
    have hW' : U.WarmedH s₂.vm := hW₂
    have hs₂ : s₂ = ((({ U with heap := s₂.heap, slotsUsed := s₂.slotsUsed } : State).setVm s₂.vm).setTop g).pushFrame (.throwing q) := by
      refine e3.trans ?_
      rw [hf₂, State.calling_eq h.top, State.setFrames_setFrames, State.pushFrame, State.frames_setTop _ hr', State.setTop_of_frames _ hr', State.setFrames_setFrames, hr]
      rfl
    have hsame : U.sameButNew ({ U with heap := s₂.heap, slotsUsed := s₂.slotsUsed } : State) L mc ms := by
      refine ⟨?_, q2, q3, q4, q5, q6⟩
      obtain ⟨t, ht, -⟩ := State.frames_cons hr
      show ({ U with heap := s₂.heap, slotsUsed := s₂.slotsUsed } : State) = { U.setFrames U.frames with heap := s₂.heap, slotsUsed := s₂.slotsUsed }
      rw [State.setFrames_self ht]
    subst hg
    refine Or.inr ⟨q, ⟨(({ U with heap := s₂.heap, slotsUsed := s₂.slotsUsed } : State).setVm s₂.vm), Ls ++ L, c0 + mc, s0 + ms⟩,
      ⟨X.admits, X.cas, X.clock, X.frames, X.room, X.hears, X.method, X.code, (X.here.setHeapUsed s₂.heap s₂.slotsUsed).setVm hW'.alike, X.tail, State.WarmedH.trans X.warmed hW', X.limits, X.bytes, X.same.trans (hsame.setVm s.vm)⟩,
      ⟨g, mk, s₂, L, E, ce, rfl, rfl, hx, hce, hcv, hcl, rfl, hL, rfl, rfl⟩, ?_⟩
    show Steps p.tables e below _ (((({ U with heap := s₂.heap, slotsUsed := s₂.slotsUsed } : State).setVm s₂.vm).setTop g).pushFrame (.throwing q))
    rw [← hs₂]
    exact hsteps
end Payer
section Calls
variable {p : Program} {l : Launch} {e : Env} {R : Room} {s : State} {m : MethodId} {args : Array Value} {below : List Frame} {meth : Method} {c : Code} {T : State} {locs : List Loc} {cells slots : Nat}
theorem vx_callV (X : Stand p l e R s m args below meth c T locs cells slots) (hexec : p.tables.exec = Jvm.exec) {own C : String} {index : Nat} {y : MethodName} {bytes : ByteArray} {maxL : Nat} {ret : Option FieldType}
    (hown : s.vm.findClass own = some m.cls) (hlink : (Cond.methodLink own index y).before args s = true) (hinst : (Cond.instanceMethod y).before args s = true) (hsel : (Cond.selects C y y).before args s = true)
    (hcode : (Cond.code y bytes maxL ret).before args s = true) (hy : y.cls ≠ "java/lang/invoke/MethodHandle" ∧ y.cls ≠ "java/lang/invoke/VarHandle")
    {W9 : Nat} {Pre : Pt → Array Value → Prop} {Post : Pt → Array Value → Option Value → Pt → Prop} {PostX : Pt → Array Value → Addr → Pt → Prop} (hK : vx_Back l R p e below s args y 3 W9 Pre Post PostX)
    {b : Addr} {cellB : Cell} (hcell : T.heap[b]? = some cellB) (hobj : cellB.vm.isStatics = false) (hcls : s.vm.findClass C = some cellB.cls)
    {g : JFrame} (hg : g.method = m) (hsize : g.locals.size = c.maxLocals) {argsL rest : List Value} (hlen : ∀ sig, parseMethodDescriptor y.desc = some sig → argsL.length = sig.parameters.length)
    (hstack : g.stack = argsL.reverse ++ .ref b :: rest) (hW : 2 * g.monitorRoom + (rest.map fun v => v.category).sum ≤ W9) (hdg : decode c.code g.pc = .ok (.invokevirtual index, 3))
    (hpre : ∀ vm₁, s.WarmedH vm₁ → Pre ⟨T.setVm vm₁, locs, cells, slots⟩ (Value.ref b :: argsL).toArray) :
    (∃ (v : Option Value) (vm₁ : Vm) (B : Pt), s.WarmedH vm₁ ∧ Stand p l e R s m args below meth c B.U B.locs B.cells B.slots ∧ Post ⟨T.setVm vm₁, locs, cells, slots⟩ (Value.ref b :: argsL).toArray v B ∧
      ∀ target, Steps p.tables e below (B.U.setTop { g with pc := g.pc + 3, stack := v.toList ++ rest }) target → Steps p.tables e below (T.setTop g) target) ∨
    (∃ (q : Addr) (vm₁ : Vm) (B : Pt), s.WarmedH vm₁ ∧ Stand p l e R s m args below meth c B.U B.locs B.cells B.slots ∧ PostX ⟨T.setVm vm₁, locs, cells, slots⟩ (Value.ref b :: argsL).toArray q B ∧
      Steps p.tables e below (T.setTop g) ((B.U.setTop { g with stack := rest }).pushFrame (.throwing q))) := by
  obtain ⟨mk, methM, hnamed, hmethM, hstM, habM⟩ := Cond.instanceMethod_spec hinst
  obtain ⟨methM', cM, hmethM', -, -, -, -, -, -, hsigM⟩ := Cond.code_spec hnamed hcode
  cases hmethM.symm.trans hmethM'
  obtain ⟨c2, r2, m2, q1, q2, q3, q4, kP, hkP, hkPi⟩ := Cond.selects_spec hsel
  cases hcls.symm.trans q1
  cases (State.methodFound?_of_named hnamed hy).symm.trans q2
  cases hnamed.symm.trans q3
  have hselP : selectMethod e.platform s.vm cellB.cls mk = .method mk := by rw [Launch.admits_selectMethod X.admits]; exact q4
  obtain ⟨vm₁, X₁, hstep₁⟩ := X.invokevirtual hexec hown hlink hnamed hmethM hstM hkP hkPi hy (a := b) (cell := cellB) hcell
    (fun z h => by rw [h] at hobj; cases hobj) hselP hmethM habM hkP hkPi (g := g) hg (argsL := argsL) (rest := rest) (hlen _ hsigM) hstack hdg
  rcases hK m meth c ⟨T.setVm vm₁, locs, cells, slots⟩ { g with stack := rest } (.invokevirtual index) mk (Value.ref b :: argsL).toArray X₁ hg hsize hdg hW (X₁.named hnamed) (hpre vm₁ X₁.warmed) with ⟨v, B, X', hpost, hsteps⟩ | ⟨q, B, X', hpost, hsteps⟩
  · exact Or.inl ⟨v, vm₁, B, X₁.warmed, X', hpost, fun target h => hstep₁ _ fun acts => by rw [doInvoke_state]; exact hsteps.trans h⟩
  · exact Or.inr ⟨q, vm₁, B, X₁.warmed, X', hpost, hstep₁ _ fun acts => by rw [doInvoke_state]; exact hsteps⟩
theorem vx_callS (X : Stand p l e R s m args below meth c T locs cells slots) (hexec : p.tables.exec = Jvm.exec) {own : String} {index : Nat} {y : MethodName} {bytes : ByteArray} {maxL : Nat} {ret : Option FieldType}
    (hown : s.vm.findClass own = some m.cls) (hlink : (Cond.methodLink own index y).before args s = true) (hstat : (Cond.static y).before args s = true) (hinit : (Cond.initialized y.cls).before args s = true)
    (hcode : (Cond.code y bytes maxL ret).before args s = true) (hy : y.cls ≠ "java/lang/invoke/MethodHandle" ∧ y.cls ≠ "java/lang/invoke/VarHandle")
    {W9 : Nat} {Pre : Pt → Array Value → Prop} {Post : Pt → Array Value → Option Value → Pt → Prop} {PostX : Pt → Array Value → Addr → Pt → Prop} (hK : vx_Back l R p e below s args y 3 W9 Pre Post PostX)
    {g : JFrame} (hg : g.method = m) (hsize : g.locals.size = c.maxLocals) {argsL rest : List Value} (hlen : ∀ sig, parseMethodDescriptor y.desc = some sig → argsL.length = sig.parameters.length)
    (hstack : g.stack = argsL.reverse ++ rest) (hW : 2 * g.monitorRoom + (rest.map fun v => v.category).sum ≤ W9) (hdg : decode c.code g.pc = .ok (.invokestatic index, 3))
    (hpre : ∀ vm₁, s.WarmedH vm₁ → Pre ⟨T.setVm vm₁, locs, cells, slots⟩ argsL.toArray) :
    (∃ (v : Option Value) (vm₁ : Vm) (B : Pt), s.WarmedH vm₁ ∧ Stand p l e R s m args below meth c B.U B.locs B.cells B.slots ∧ Post ⟨T.setVm vm₁, locs, cells, slots⟩ argsL.toArray v B ∧
      ∀ target, Steps p.tables e below (B.U.setTop { g with pc := g.pc + 3, stack := v.toList ++ rest }) target → Steps p.tables e below (T.setTop g) target) ∨
    (∃ (q : Addr) (vm₁ : Vm) (B : Pt), s.WarmedH vm₁ ∧ Stand p l e R s m args below meth c B.U B.locs B.cells B.slots ∧ PostX ⟨T.setVm vm₁, locs, cells, slots⟩ argsL.toArray q B ∧
      Steps p.tables e below (T.setTop g) ((B.U.setTop { g with stack := rest }).pushFrame (.throwing q))) := by
  obtain ⟨mk, hnamed⟩ := Cond.code_named hcode
  obtain ⟨methM, cM, hmethM, -, -, -, -, -, -, hsigM⟩ := Cond.code_spec hnamed hcode
  have hstatic : methM.isStatic = true := Cond.static_spec hnamed hmethM hstat
  obtain ⟨kP, hkP, -⟩ := className_of_methodNamed hnamed
  have hinitP : kP.init = .initialized := Cond.initialized_spec (findClass_of_methodNamed hnamed) hkP hinit
  obtain ⟨vm₁, X₁, hstep₁⟩ := X.invokestatic hexec hown hlink hnamed hmethM hstatic hkP hinitP hy (g := g) hg (argsL := argsL) (rest := rest) (hlen _ hsigM) hstack hdg
  rcases hK m meth c ⟨T.setVm vm₁, locs, cells, slots⟩ { g with stack := rest } (.invokestatic index) mk argsL.toArray X₁ hg hsize hdg hW (X₁.named hnamed) (hpre vm₁ X₁.warmed) with ⟨v, B, X', hpost, hsteps⟩ | ⟨q, B, X', hpost, hsteps⟩
  · exact Or.inl ⟨v, vm₁, B, X₁.warmed, X', hpost, fun target h => hstep₁ _ fun acts => by rw [doInvoke_state]; exact hsteps.trans h⟩
  · exact Or.inr ⟨q, vm₁, B, X₁.warmed, X', hpost, hstep₁ _ fun acts => by rw [doInvoke_state]; exact hsteps⟩
end Calls
theorem vx_cls {s : State} {T : State} {vm₁ : Vm} {E : String} {k : ClassId} (hW : s.WarmedH vm₁) (h : (T.setVm vm₁).vm.findClass E = some k) : s.vm.findClass E = some k := by
  have h1 : vm₁.findClass E = some k := h
  rw [hW.alike.findClass] at h1
  exact h1
/-- the method's frame g, with q thrown over it -/
def vx_W (p : Program) (l : Launch) (e : Env) (R : Room) (s : State) (m : MethodId) (args : Array Value) (below : List Frame) (meth : Method) (c : Code) (H : Heap) (locs : List Loc) (cells slots : Nat) (Q : State → Prop) (g : JFrame) (q : Addr) : Prop :=
  ∀ T : State, T.heap = H → Stand p l e R s m args below meth c T locs cells slots → ∃ t, Steps p.tables e below ((T.setTop g).pushFrame (.throwing q)) t ∧ Q t
def vx_Run (p : Program) (l : Launch) (e : Env) (R : Room) (s : State) (m : MethodId) (args : Array Value) (below : List Frame) (meth : Method) (c : Code) (H : Heap) (locs : List Loc) (cells slots mc ms : Nat) (g : JFrame) (rest : List Value) (Qa : State → Outcome → State → Prop) (XC : String → State → State → Prop) (free : Addr → Prop) : Prop :=
  ∀ T : State, T.heap = H → Stand p l e R s m args below meth c T locs cells slots →
    (∃ (v : Option Value) (st₀ t T' : State) (L : List Loc), st₀.heap = H ∧ Stand p l e R s m args below meth c T' (locs ++ L) (cells + mc) (slots + ms) ∧ (∀ q ∈ L, free q.base) ∧ T'.heap = t.heap ∧ T'.vm = t.vm ∧ Qa st₀ (.returned v) t ∧
      Goes p e below T g T' { g with pc := g.pc + 3, stack := v.toList ++ rest }) ∨
    (∃ (q : Addr) (st₀ t T' : State) (L : List Loc) (E : String) (ce : Cell), st₀.heap = H ∧ Stand p l e R s m args below meth c T' (locs ++ L) (cells + mc) (slots + ms) ∧ (∀ z ∈ L, free z.base) ∧ T'.heap = t.heap ∧ T'.vm = t.vm ∧ XC E st₀ t ∧ t.heap[q]? = some ce ∧ ce.vm = .none ∧ s.vm.findClass E = some ce.cls ∧
      Steps p.tables e below (T.setTop g) ((T'.setTop { g with stack := rest }).pushFrame (.throwing q)))
def vx_X {S : Type} (px : S → Prop) (B : String → S → State → Prop) (A : Nat → Prop) : String → State → State → Prop := fun E st t => ∃ u : S, px u ∧ B E u t ∧ va_F A st t
section Runs
variable {p : Program} {l : Launch} {e : Env} {R : Room} {s : State} {m : MethodId} {args : Array Value} {below : List Frame} {meth : Method} {c : Code} {H : Heap} {locs : List Loc} {cells slots : Nat}
variable {y : MethodName} {bytes cc : ByteArray} {maxL nL mc ms n index : Nat} {ret : Option FieldType} {ws : List Cond} {rm : Room} {Pc : Array Value → State → Prop} {Qc : Array Value → State → Outcome → State → Prop} {XC : String → State → State → Prop} {free : Addr → Prop} {Ts : List Cond} {own C : String} {b : Addr} {As rest : List Value} {g : JFrame}
theorem vx_callBack (cb : CallB R s args own index y bytes maxL ret ws rm mc ms n) (hM : vx_Met l y ws rm Pc Qc XC mc ms free) (hbl : FrameBlind Pc) : vx_Back l R p e below s args y 3 8 (PreOf R mc ms Pc) (PostOf Qc mc ms free) (vx_Post XC mc ms free) := by
  obtain ⟨hrc, hrs, hfr, hlo, hws, hcw, -, hini, -⟩ := cb
  exact vx_back (bytes := bytes) (maxL := maxL) (ret := ret) hM hbl hrc hrs hfr hlo hws hcw (fun a' U hW => word_at hW (Or.inl (by first | rfl | simp [Cond.onTables, Cond.keeps, Cond.steady])) hini)
theorem vx_runV (S : CallFix p m c cc nL s args Ts own) (hM : vx_Met l y ws rm Pc Qc XC mc ms free) (cw : CallW R s args own C index y bytes maxL ret ws rm mc ms n) (hp : PreV s H C b Pc As)
    (hg : g.method = m) (hn : As.length = n) (hsize : g.locals.size = nL) (hstack : g.stack = As.reverse ++ .ref b :: rest) (hW : 2 * g.monitorRoom + (rest.map fun v => v.category).sum ≤ 8) (hdg : decode cc g.pc = .ok (.invokevirtual index, 3)) (hf : cells + mc ≤ R.cells ∧ slots + ms ≤ R.slots) :
    vx_Run p l e R s m args below meth c H locs cells slots mc ms g rest (Qc (Value.ref b :: As).toArray) XC free := by
  have hK : vx_Back l R p e below s args y 3 8 (PreOf R mc ms Pc) (PostOf Qc mc ms free) (vx_Post XC mc ms free) := vx_callBack cw.1 hM hp.1
  obtain ⟨⟨-, -, -, -, -, -, hcode, -, hy, hlen, hl⟩, hin, hse⟩ := cw
  obtain ⟨hx, hb, hml, ho, -⟩ := S
  obtain ⟨-, ⟨cellB, hcB, hoB, hclB⟩, hPc⟩ := hp
  intro T hT X
  rcases vx_callV X hx (C := C) (bytes := bytes) (maxL := maxL) (ret := ret) ho hl hin hse hcode hy hK (by rw [hT]; exact hcB) hoB hclB hg (hsize.trans hml.symm) (argsL := As) (rest := rest) (fun sig h => hn.trans (hlen sig h)) hstack hW (by rw [hb]; exact hdg)
    (fun vm₁ hW₁ => ⟨hf.1, hf.2, hPc (T.setVm vm₁) hT hW₁⟩) with ⟨v, vm₁, ⟨U', l2, c2, s2⟩, hW₁, X', ⟨g', mk, t, L, e1, e2, hq, h1, hL, h2, h3⟩, st⟩ | ⟨q, vm₁, ⟨U', l2, c2, s2⟩, hW₁, X', ⟨g', mk, t, L, E, ce, e1, e2, hq, hce, hcv, hcl, h1, hL, h2, h3⟩, st⟩
  · dsimp only [Pt.U, Pt.locs, Pt.cells, Pt.slots] at X' e1 e2 h1 h2 h3 st
    subst h1; subst h2; subst h3
    exact Or.inl ⟨v, (T.setVm vm₁).calling g' mk (Value.ref b :: As).toArray, t, U', L, hT, X', hL, e1, e2, hq, st⟩
  · dsimp only [Pt.U, Pt.locs, Pt.cells, Pt.slots] at X' e1 e2 h1 h2 h3 st hcl
    subst h1; subst h2; subst h3
    exact Or.inr ⟨q, (T.setVm vm₁).calling g' mk (Value.ref b :: As).toArray, t, U', L, E, ce, hT, X', hL, e1, e2, hq, hce, hcv, vx_cls hW₁ hcl, st⟩
theorem vx_runS (S : CallFix p m c cc nL s args Ts own) (hM : vx_Met l y ws rm Pc Qc XC mc ms free) (cw : CallB R s args own index y bytes maxL ret ws rm mc ms n ∧ (Cond.static y).before args s = true) (hp : PreS s H Pc As)
    (hg : g.method = m) (hn : As.length = n) (hsize : g.locals.size = nL) (hstack : g.stack = As.reverse ++ rest) (hW : 2 * g.monitorRoom + (rest.map fun v => v.category).sum ≤ 8) (hdg : decode cc g.pc = .ok (.invokestatic index, 3)) (hf : cells + mc ≤ R.cells ∧ slots + ms ≤ R.slots) :
    vx_Run p l e R s m args below meth c H locs cells slots mc ms g rest (Qc As.toArray) XC free := by
  have hK : vx_Back l R p e below s args y 3 8 (PreOf R mc ms Pc) (PostOf Qc mc ms free) (vx_Post XC mc ms free) := vx_callBack cw.1 hM hp.1
  obtain ⟨⟨-, -, -, -, -, -, hcode, hini, hy, hlen, hl⟩, hstt⟩ := cw
  obtain ⟨hx, hb, hml, ho, -⟩ := S
  intro T hT X
  rcases vx_callS X hx (bytes := bytes) (maxL := maxL) (ret := ret) ho hl hstt hini hcode hy hK hg (hsize.trans hml.symm) (argsL := As) (rest := rest) (fun sig h => hn.trans (hlen sig h)) hstack hW (by rw [hb]; exact hdg)
    (fun vm₁ hW₁ => ⟨hf.1, hf.2, hp.2 (T.setVm vm₁) hT hW₁⟩) with ⟨v, vm₁, ⟨U', l2, c2, s2⟩, hW₁, X', ⟨g', mk, t, L, e1, e2, hq, h1, hL, h2, h3⟩, st⟩ | ⟨q, vm₁, ⟨U', l2, c2, s2⟩, hW₁, X', ⟨g', mk, t, L, E, ce, e1, e2, hq, hce, hcv, hcl, h1, hL, h2, h3⟩, st⟩
  · dsimp only [Pt.U, Pt.locs, Pt.cells, Pt.slots] at X' e1 e2 h1 h2 h3 st
    subst h1; subst h2; subst h3
    exact Or.inl ⟨v, (T.setVm vm₁).calling g' mk As.toArray, t, U', L, hT, X', hL, e1, e2, hq, st⟩
  · dsimp only [Pt.U, Pt.locs, Pt.cells, Pt.slots] at X' e1 e2 h1 h2 h3 st hcl
    subst h1; subst h2; subst h3
    exact Or.inr ⟨q, (T.setVm vm₁).calling g' mk As.toArray, t, U', L, E, ce, hT, X', hL, e1, e2, hq, hce, hcv, vx_cls hW₁ hcl, st⟩
end Runs
section Rows
variable {p : Program} {l : Launch} {e : Env} {R : Room} {s : State} {m : MethodId} {args : Array Value} {below : List Frame} {meth : Method} {c : Code} {H : Heap} {locs : List Loc} {cells slots : Nat} {Q : State → Prop}
variable {mc ms : Nat} {free : Addr → Prop} {A0 A1 : Nat → Prop} {H0 : Heap} {a : Array Value} {pc : Nat} {ls : Array Slot} {st0 rest : List Value}
theorem vx_keep {st₀ t T' : State} {L : List Loc} (h0 : st₀.heap = H) (e1 : T'.heap = t.heap) (hS : va_S A0 H0 H locs) (hA : ∀ q, q < H.size → A1 q → A0 q) (hf : ∀ q, free q → A0 q) (hL : ∀ q ∈ L, free q.base) (hF : va_F A1 st₀ t) :
    H.size ≤ T'.heap.size ∧ (∀ q : Nat, q < H.size → ¬ A1 q → T'.heap[q]? = H[q]?) ∧ va_S A0 H0 T'.heap (locs ++ L) := by
  obtain ⟨hz, hk⟩ := hF
  rw [h0] at hz hk
  exact ⟨by rw [e1]; exact hz, fun q h1 h2 => by rw [e1]; exact hk q h1 h2,
    ⟨Nat.le_trans hS.1 (by rw [e1]; exact hz), fun q h1 h2 => by rw [e1, hk q (Nat.lt_of_lt_of_le h1 hS.1) (fun z => h2 (hA q (Nat.lt_of_lt_of_le h1 hS.1) z))]; exact hS.2.1 q h1 h2, fun q hq => by
      rcases List.mem_append.mp hq with h | h
      · exact hS.2.2 q h
      · exact hf _ (hL q h)⟩⟩
theorem vx_calli {S SX : Type} {post : Int32 → S → Prop} {px : SX → Prop} {B : S → State → Prop} {BX : String → SX → State → Prop} {AX : Nat → Prop} (hr : vx_Run p l e R s m args below meth c H locs cells slots mc ms (F0 m pc ls st0) rest (va_Qi post B A1 a) (vx_X px BX AX) free) (hS : va_S A0 H0 H locs) (hA : ∀ q, q < H.size → A1 q → A0 q) (hf : ∀ q, free q → A0 q) (hAX : ∀ q, q < H.size → AX q → A0 q)
    (kx : ∀ (E : String) (ce : Cell) (q9 : Addr) (u : SX) (t : State) (H1 : Heap) (locs1 : List Loc), t.heap = H1 → s.vm.Alike t.vm → px u → BX E u t → H.size ≤ H1.size → (∀ q : Nat, q < H.size → ¬ AX q → H1[q]? = H[q]?) → va_S A0 H0 H1 locs1 → H1[q9]? = some ce → ce.vm = .none → s.vm.findClass E = some ce.cls → vx_W p l e R s m args below meth c H1 locs1 (cells + mc) (slots + ms) Q (F0 m pc ls rest) q9)
    (kk : ∀ (r : Int32) (u : S) (t : State) (H1 : Heap) (locs1 : List Loc), t.heap = H1 → s.vm.Alike t.vm → post r u → B u t → H.size ≤ H1.size → (∀ q : Nat, q < H.size → ¬ A1 q → H1[q]? = H[q]?) → va_S A0 H0 H1 locs1 → W p l e R s m args below meth c H1 locs1 (cells + mc) (slots + ms) Q (F0 m (pc + 3) ls (.int r :: rest))) : W p l e R s m args below meth c H locs cells slots Q (F0 m pc ls st0) := by
  intro T hT X
  rcases hr T hT X with ⟨v, st₀, t, T', L, h0, X', hL, e1, e2, ⟨⟨r, u, hv, hp, hb⟩, hF⟩, st⟩ | ⟨q, st₀, t, T', L, E, ce, h0, X', hL, e1, e2, ⟨u, hp, hb, hF⟩, hce, hcv, hcl, st⟩
  · cases hv
    obtain ⟨k1, k2, k3⟩ := vx_keep h0 e1 hS hA hf hL hF
    obtain ⟨t2, a1, b1⟩ := kk r u t T'.heap (locs ++ L) e1.symm (by rw [← e2]; exact X'.warmed.alike) hp hb k1 k2 k3 T' rfl X'
    exact ⟨t2, st t2 a1, b1⟩
  · obtain ⟨k1, k2, k3⟩ := vx_keep h0 e1 hS hAX hf hL hF
    obtain ⟨t2, a1, b1⟩ := kx E ce q u t T'.heap (locs ++ L) e1.symm (by rw [← e2]; exact X'.warmed.alike) hp hb k1 k2 k3 (by rw [e1]; exact hce) hcv hcl T' rfl X'
    exact ⟨t2, st.trans a1, b1⟩
theorem vx_calll {S SX : Type} {post : Int64 → S → Prop} {px : SX → Prop} {B : S → State → Prop} {BX : String → SX → State → Prop} {AX : Nat → Prop} (hr : vx_Run p l e R s m args below meth c H locs cells slots mc ms (F0 m pc ls st0) rest (va_Ql post B A1 a) (vx_X px BX AX) free) (hS : va_S A0 H0 H locs) (hA : ∀ q, q < H.size → A1 q → A0 q) (hf : ∀ q, free q → A0 q) (hAX : ∀ q, q < H.size → AX q → A0 q)
    (kx : ∀ (E : String) (ce : Cell) (q9 : Addr) (u : SX) (t : State) (H1 : Heap) (locs1 : List Loc), t.heap = H1 → s.vm.Alike t.vm → px u → BX E u t → H.size ≤ H1.size → (∀ q : Nat, q < H.size → ¬ AX q → H1[q]? = H[q]?) → va_S A0 H0 H1 locs1 → H1[q9]? = some ce → ce.vm = .none → s.vm.findClass E = some ce.cls → vx_W p l e R s m args below meth c H1 locs1 (cells + mc) (slots + ms) Q (F0 m pc ls rest) q9)
    (kk : ∀ (r : Int64) (u : S) (t : State) (H1 : Heap) (locs1 : List Loc), t.heap = H1 → s.vm.Alike t.vm → post r u → B u t → H.size ≤ H1.size → (∀ q : Nat, q < H.size → ¬ A1 q → H1[q]? = H[q]?) → va_S A0 H0 H1 locs1 → W p l e R s m args below meth c H1 locs1 (cells + mc) (slots + ms) Q (F0 m (pc + 3) ls (.long r :: rest))) : W p l e R s m args below meth c H locs cells slots Q (F0 m pc ls st0) := by
  intro T hT X
  rcases hr T hT X with ⟨v, st₀, t, T', L, h0, X', hL, e1, e2, ⟨⟨r, u, hv, hp, hb⟩, hF⟩, st⟩ | ⟨q, st₀, t, T', L, E, ce, h0, X', hL, e1, e2, ⟨u, hp, hb, hF⟩, hce, hcv, hcl, st⟩
  · cases hv
    obtain ⟨k1, k2, k3⟩ := vx_keep h0 e1 hS hA hf hL hF
    obtain ⟨t2, a1, b1⟩ := kk r u t T'.heap (locs ++ L) e1.symm (by rw [← e2]; exact X'.warmed.alike) hp hb k1 k2 k3 T' rfl X'
    exact ⟨t2, st t2 a1, b1⟩
  · obtain ⟨k1, k2, k3⟩ := vx_keep h0 e1 hS hAX hf hL hF
    obtain ⟨t2, a1, b1⟩ := kx E ce q u t T'.heap (locs ++ L) e1.symm (by rw [← e2]; exact X'.warmed.alike) hp hb k1 k2 k3 (by rw [e1]; exact hce) hcv hcl T' rfl X'
    exact ⟨t2, st.trans a1, b1⟩
theorem vx_callf {S SX : Type} {post : UInt32 → S → Prop} {px : SX → Prop} {B : S → State → Prop} {BX : String → SX → State → Prop} {AX : Nat → Prop} (hr : vx_Run p l e R s m args below meth c H locs cells slots mc ms (F0 m pc ls st0) rest (va_Qf post B A1 a) (vx_X px BX AX) free) (hS : va_S A0 H0 H locs) (hA : ∀ q, q < H.size → A1 q → A0 q) (hf : ∀ q, free q → A0 q) (hAX : ∀ q, q < H.size → AX q → A0 q)
    (kx : ∀ (E : String) (ce : Cell) (q9 : Addr) (u : SX) (t : State) (H1 : Heap) (locs1 : List Loc), t.heap = H1 → s.vm.Alike t.vm → px u → BX E u t → H.size ≤ H1.size → (∀ q : Nat, q < H.size → ¬ AX q → H1[q]? = H[q]?) → va_S A0 H0 H1 locs1 → H1[q9]? = some ce → ce.vm = .none → s.vm.findClass E = some ce.cls → vx_W p l e R s m args below meth c H1 locs1 (cells + mc) (slots + ms) Q (F0 m pc ls rest) q9)
    (kk : ∀ (r : UInt32) (u : S) (t : State) (H1 : Heap) (locs1 : List Loc), t.heap = H1 → s.vm.Alike t.vm → post r u → B u t → H.size ≤ H1.size → (∀ q : Nat, q < H.size → ¬ A1 q → H1[q]? = H[q]?) → va_S A0 H0 H1 locs1 → W p l e R s m args below meth c H1 locs1 (cells + mc) (slots + ms) Q (F0 m (pc + 3) ls (.float r :: rest))) : W p l e R s m args below meth c H locs cells slots Q (F0 m pc ls st0) := by
  intro T hT X
  rcases hr T hT X with ⟨v, st₀, t, T', L, h0, X', hL, e1, e2, ⟨⟨r, u, hv, hp, hb⟩, hF⟩, st⟩ | ⟨q, st₀, t, T', L, E, ce, h0, X', hL, e1, e2, ⟨u, hp, hb, hF⟩, hce, hcv, hcl, st⟩
  · cases hv
    obtain ⟨k1, k2, k3⟩ := vx_keep h0 e1 hS hA hf hL hF
    obtain ⟨t2, a1, b1⟩ := kk r u t T'.heap (locs ++ L) e1.symm (by rw [← e2]; exact X'.warmed.alike) hp hb k1 k2 k3 T' rfl X'
    exact ⟨t2, st t2 a1, b1⟩
  · obtain ⟨k1, k2, k3⟩ := vx_keep h0 e1 hS hAX hf hL hF
    obtain ⟨t2, a1, b1⟩ := kx E ce q u t T'.heap (locs ++ L) e1.symm (by rw [← e2]; exact X'.warmed.alike) hp hb k1 k2 k3 (by rw [e1]; exact hce) hcv hcl T' rfl X'
    exact ⟨t2, st.trans a1, b1⟩
theorem vx_calld {S SX : Type} {post : UInt64 → S → Prop} {px : SX → Prop} {B : S → State → Prop} {BX : String → SX → State → Prop} {AX : Nat → Prop} (hr : vx_Run p l e R s m args below meth c H locs cells slots mc ms (F0 m pc ls st0) rest (va_Qd post B A1 a) (vx_X px BX AX) free) (hS : va_S A0 H0 H locs) (hA : ∀ q, q < H.size → A1 q → A0 q) (hf : ∀ q, free q → A0 q) (hAX : ∀ q, q < H.size → AX q → A0 q)
    (kx : ∀ (E : String) (ce : Cell) (q9 : Addr) (u : SX) (t : State) (H1 : Heap) (locs1 : List Loc), t.heap = H1 → s.vm.Alike t.vm → px u → BX E u t → H.size ≤ H1.size → (∀ q : Nat, q < H.size → ¬ AX q → H1[q]? = H[q]?) → va_S A0 H0 H1 locs1 → H1[q9]? = some ce → ce.vm = .none → s.vm.findClass E = some ce.cls → vx_W p l e R s m args below meth c H1 locs1 (cells + mc) (slots + ms) Q (F0 m pc ls rest) q9)
    (kk : ∀ (r : UInt64) (u : S) (t : State) (H1 : Heap) (locs1 : List Loc), t.heap = H1 → s.vm.Alike t.vm → post r u → B u t → H.size ≤ H1.size → (∀ q : Nat, q < H.size → ¬ A1 q → H1[q]? = H[q]?) → va_S A0 H0 H1 locs1 → W p l e R s m args below meth c H1 locs1 (cells + mc) (slots + ms) Q (F0 m (pc + 3) ls (.double r :: rest))) : W p l e R s m args below meth c H locs cells slots Q (F0 m pc ls st0) := by
  intro T hT X
  rcases hr T hT X with ⟨v, st₀, t, T', L, h0, X', hL, e1, e2, ⟨⟨r, u, hv, hp, hb⟩, hF⟩, st⟩ | ⟨q, st₀, t, T', L, E, ce, h0, X', hL, e1, e2, ⟨u, hp, hb, hF⟩, hce, hcv, hcl, st⟩
  · cases hv
    obtain ⟨k1, k2, k3⟩ := vx_keep h0 e1 hS hA hf hL hF
    obtain ⟨t2, a1, b1⟩ := kk r u t T'.heap (locs ++ L) e1.symm (by rw [← e2]; exact X'.warmed.alike) hp hb k1 k2 k3 T' rfl X'
    exact ⟨t2, st t2 a1, b1⟩
  · obtain ⟨k1, k2, k3⟩ := vx_keep h0 e1 hS hAX hf hL hF
    obtain ⟨t2, a1, b1⟩ := kx E ce q u t T'.heap (locs ++ L) e1.symm (by rw [← e2]; exact X'.warmed.alike) hp hb k1 k2 k3 (by rw [e1]; exact hce) hcv hcl T' rfl X'
    exact ⟨t2, st.trans a1, b1⟩
theorem vx_callv {S SX : Type} {post : S → Prop} {px : SX → Prop} {B : S → State → Prop} {BX : String → SX → State → Prop} {AX : Nat → Prop} (hr : vx_Run p l e R s m args below meth c H locs cells slots mc ms (F0 m pc ls st0) rest (va_Qv post B A1 a) (vx_X px BX AX) free) (hS : va_S A0 H0 H locs) (hA : ∀ q, q < H.size → A1 q → A0 q) (hf : ∀ q, free q → A0 q) (hAX : ∀ q, q < H.size → AX q → A0 q)
    (kx : ∀ (E : String) (ce : Cell) (q9 : Addr) (u : SX) (t : State) (H1 : Heap) (locs1 : List Loc), t.heap = H1 → s.vm.Alike t.vm → px u → BX E u t → H.size ≤ H1.size → (∀ q : Nat, q < H.size → ¬ AX q → H1[q]? = H[q]?) → va_S A0 H0 H1 locs1 → H1[q9]? = some ce → ce.vm = .none → s.vm.findClass E = some ce.cls → vx_W p l e R s m args below meth c H1 locs1 (cells + mc) (slots + ms) Q (F0 m pc ls rest) q9)
    (kk : ∀ (u : S) (t : State) (H1 : Heap) (locs1 : List Loc), t.heap = H1 → s.vm.Alike t.vm → post u → B u t → H.size ≤ H1.size → (∀ q : Nat, q < H.size → ¬ A1 q → H1[q]? = H[q]?) → va_S A0 H0 H1 locs1 → W p l e R s m args below meth c H1 locs1 (cells + mc) (slots + ms) Q (F0 m (pc + 3) ls (rest))) : W p l e R s m args below meth c H locs cells slots Q (F0 m pc ls st0) := by
  intro T hT X
  rcases hr T hT X with ⟨v, st₀, t, T', L, h0, X', hL, e1, e2, ⟨⟨u, hv, hp, hb⟩, hF⟩, st⟩ | ⟨q, st₀, t, T', L, E, ce, h0, X', hL, e1, e2, ⟨u, hp, hb, hF⟩, hce, hcv, hcl, st⟩
  · cases hv
    obtain ⟨k1, k2, k3⟩ := vx_keep h0 e1 hS hA hf hL hF
    obtain ⟨t2, a1, b1⟩ := kk u t T'.heap (locs ++ L) e1.symm (by rw [← e2]; exact X'.warmed.alike) hp hb k1 k2 k3 T' rfl X'
    exact ⟨t2, st t2 a1, b1⟩
  · obtain ⟨k1, k2, k3⟩ := vx_keep h0 e1 hS hAX hf hL hF
    obtain ⟨t2, a1, b1⟩ := kx E ce q u t T'.heap (locs ++ L) e1.symm (by rw [← e2]; exact X'.warmed.alike) hp hb k1 k2 k3 (by rw [e1]; exact hce) hcv hcl T' rfl X'
    exact ⟨t2, st.trans a1, b1⟩
/-- caught by the row x of this method's table; the rows ahead don't take it -/
theorem vx_catch {own name : String} {E : String} {ce : Cell} {q : Addr} (hown : s.vm.findClass own = some m.cls) (pre : List ExceptionTableEntry) (x : ExceptionTableEntry) (suf : List ExceptionTableEntry) (hsplit : c.exceptionTable.toList = pre ++ x :: suf)
    (hpass : ∀ z ∈ pre, covers z pc = false ∨ (z.catchType ≠ 0 ∧ ∃ nm : String, (Cond.classLink own z.catchType nm).before args s = true ∧ va_Nc E nm s)) (hx : covers x pc = true) (h0 : x.catchType ≠ 0)
    (hlink : (Cond.classLink own x.catchType name).before args s = true) (hcast : (Cond.castable E name).before args s = true) (hcell : H[q]? = some ce) (hv : ce.vm = .none) (hcl : s.vm.findClass E = some ce.cls)
    (kk : W p l e R s m args below meth c H locs cells slots Q (F0 m x.handlerPc ls [.ref q])) : vx_W p l e R s m args below meth c H locs cells slots Q (F0 m pc ls rest) q := by
  intro T hT X
  have hpl : e.platform.magicAccessors = ({} : Platform).magicAccessors := by rw [X.admits.platform]
  obtain ⟨c3, c4, hc3, hc4, hasg⟩ := Cond.castable_spec hcast
  cases Option.some.inj (hc3.symm.trans hcl)
  obtain ⟨c5, hc5, hcl5⟩ := Cond.classLink_spec hown hlink e.platform hpl
  cases Option.some.inj (hc4.symm.trans hc5)
  obtain ⟨vm', X', st⟩ := X.thenCaughtThrough q (g := F0 m pc ls rest) rfl (Steps.refl _) (by rw [hT]; exact hcell) (by rw [hv]; rfl) (by obtain ⟨k9, h9, -⟩ := Vm.findClass_spec hcl; exact ⟨k9, h9⟩) pre x suf hsplit
    (fun z hz => by
      rcases hpass z hz with h | ⟨hz0, nm, hl1, hn1⟩
      · exact Or.inl h
      · obtain ⟨c6, hc6, hcl6⟩ := Cond.classLink_spec hown hl1 e.platform hpl
        obtain ⟨a8, b8, h1, h2, h3⟩ := hn1
        cases Option.some.inj (h1.symm.trans hcl)
        cases Option.some.inj (h2.symm.trans hc6)
        exact Or.inr ⟨hz0, _, hcl6, h3⟩) hx (Or.inr ⟨h0, c4, hcl5, hasg⟩)
  obtain ⟨t, a1, b1⟩ := kk (T.setVm vm') hT X'
  exact ⟨t, st.trans a1, b1⟩
end Rows
section Ends
variable {p : Program} {l : Launch} {e : Env} {R : Room} {s : State} {m : MethodId} {args : Array Value} {below : List Frame} {meth : Method} {c : Code} {H : Heap} {locs : List Loc} {cells slots : Nat} {Q : State → Prop}
variable {mc ms : Nat} {free : Addr → Prop} {A0 A1 : Nat → Prop} {H0 : Heap} {a : Array Value} {ls : Array Slot} {st0 rest : List Value}
variable {Qc : Array Value → State → Outcome → State → Prop} {XC : String → State → State → Prop}
/-- what a body that may throw owes at its end -/
def vx_MQ (below : List Frame) (Qc : Array Value → State → Outcome → State → Prop) (XC : String → State → State → Prop) (a : Array Value) (s : State) (mc ms : Nat) (free : Addr → Prop) : State → Prop := fun t =>
  ∃ o, t.status = .running ∧ Ended t below o ∧ vx_Q Qc XC mc ms free a s o t
theorem vx_ret {g : JFrame} {mc ms : Nat} (k : W p l e R s m args below meth c H locs cells slots (MQ below Qc args s mc ms free) g) : W p l e R s m args below meth c H locs cells slots (vx_MQ below Qc XC args s mc ms free) g := by
  intro T hT X
  obtain ⟨t, a1, o, b1, b2, b3, b4⟩ := k T hT X
  exact ⟨t, a1, o, b1, b2, Or.inl ⟨b3, b4⟩⟩
/-- not caught here: it goes on to the caller -/
theorem vx_widen {g : JFrame} {q : Addr} {k n : Nat} (h1 : cells ≤ k) (h2 : slots ≤ n) (kk : vx_W p l e R s m args below meth c H locs k n Q g q) : vx_W p l e R s m args below meth c H locs cells slots Q g q := fun T hT X => kk T hT (stand_widen X h1 h2)
theorem vx_out {pc : Nat} {E : String} {ce : Cell} {q : Addr} {mc ms : Nat} (hout : ∀ x ∈ c.exceptionTable.toList, covers x pc = false) (hlocks : meth.locks = false) (hcell : H[q]? = some ce) (hv : ce.vm = .none) (hcl : s.vm.findClass E = some ce.cls)
    (hx : ∀ t : State, t.heap = H → s.vm.Alike t.vm → XC E s t) (hf : ∀ z ∈ locs, free z.base) (hc : cells ≤ mc) (hs : slots ≤ ms) :
    vx_W p l e R s m args below meth c H locs cells slots (vx_MQ below Qc XC args s mc ms free) (F0 m pc ls rest) q := by
  intro T hT X
  obtain ⟨st1, hrun, hend, hW, hsm⟩ := X.leaveThrown q (g := F0 m pc ls rest) rfl rfl rfl hout hlocks
  have hcell9 : (T.setFrames (.throwing q :: below)).heap[q]? = some ce := by
    show T.heap[q]? = some ce
    rw [hT]; exact hcell
  exact ⟨_, st1, .threw q, hrun, hend, Or.inr ⟨q, rfl, E, ce, locs, hx _ hT hW.alike, hcell9, hv, hcl, hW, hsm.mono hc hs, hf⟩⟩
theorem vx_frame {U : State} {k n : Nat} (h : s.sameButNew ({ U with vm := s.vm } : State) locs k n) : s.heap.size ≤ U.heap.size ∧ ∀ q : Nat, q < s.heap.size → (∀ z ∈ locs, z.base ≠ q) → U.heap[q]? = s.heap[q]? := by
  obtain ⟨-, h2, -, -, -, h6⟩ := h
  refine ⟨h2, fun q hq hz => ?_⟩
  obtain ⟨c9, e1, e2, e3, e4⟩ := h6 q _ (Array.getElem?_eq_getElem hq)
  have hs : c9.slots = (s.heap[q]).slots := Array.ext_getElem? fun i => e4 i fun hm => hz _ hm rfl
  have h9 : c9 = s.heap[q] := by
    rw [hs] at e2
    exact e2
  have e5 : U.heap[q]? = some c9 := e1
  rw [e5, h9, Array.getElem?_eq_getElem hq]
/-- the words of a throw but the four that speak of the heap -/
def vx_no (w : Cond) : Bool := decide (w ≠ .isRef (.static Bundle.tN "UNASSIGNED_STACK" Bundle.steD)) && decide (w ≠ .isRef (.static Bundle.tN "SUPPRESSED_SENTINEL" Bundle.listD)) && decide (w ≠ .laysStatic Bundle.tN "UNASSIGNED_STACK" Bundle.steD) && decide (w ≠ .laysStatic Bundle.tN "SUPPRESSED_SENTINEL" Bundle.listD)
def vx_at0 (own : String) (ic : Nat) (X : String) (names : List String) : List Cond := (Bundle.ownAtoms0 own ic X names).filter vx_no
def vx_atS (own : String) (ic : Nat) (X : String) (names : List String) : List Cond := (Bundle.ownAtoms own ic X names).filter vx_no
/-- a word that the tables alone decide, or a good one -/
def vx_ot (w : Cond) : Bool := w.onTables || goodWord w
theorem vx_ot_at {args a' : Array Value} {s U : State} {w : Cond} (hW : s.WarmedH U.vm) (hvm : s.vm = U.vm) (hg : vx_ot w = true) (h : w.before args s = true) : w.before a' U = true := by
  simp only [vx_ot, Bool.or_eq_true] at hg
  rcases hg with hg | hg
  · exact va_tabs hg hvm h
  · exact word_at hW (good_of_word hg) h
/-- a list's words: the good ones out of the method's own list, the others by premises of their own -/
theorem vx_hat {args : Array Value} {s : State} {L B : List Cond} (h1 : ∀ w ∈ L.filter goodWord, w.before args s = true) (h2 : ∀ w ∈ L.filter (fun w => !goodWord w), w ∈ B) (h3 : ∀ w ∈ B, w.before args s = true) : ∀ w ∈ L, w.before args s = true := by
  intro w hw
  by_cases g : goodWord w = true
  · exact h1 w (List.mem_filter.mpr ⟨hw, g⟩)
  · refine h3 w (h2 w (List.mem_filter.mpr ⟨hw, ?_⟩))
    show (!goodWord w) = true
    cases hgw : goodWord w
    · rfl
    · exact absurd hgw g
theorem vx_c {args : Array Value} {s : State} {w : Cond} {B : List Cond} (h : w.before args s = true) (t : ∀ w ∈ B, w.before args s = true) : ∀ w' ∈ w :: B, w'.before args s = true := fun w' h' => (List.mem_cons.mp h').elim (fun e => by rw [e]; exact h) (t w')
theorem vx_n {args : Array Value} {s : State} : ∀ w ∈ ([] : List Cond), w.before args s = true := fun _ h => nomatch h
theorem vx_own {args : Array Value} {s : State} {L : List Cond} (h1 : ∀ w ∈ L.filter vx_no, w.before args s = true)
    (hU : (Cond.isRef (.static Bundle.tN "UNASSIGNED_STACK" Bundle.steD)).before args s = true) (hN : (Cond.isRef (.static Bundle.tN "SUPPRESSED_SENTINEL" Bundle.listD)).before args s = true)
    (lU : (Cond.laysStatic Bundle.tN "UNASSIGNED_STACK" Bundle.steD).before args s = true) (lN : (Cond.laysStatic Bundle.tN "SUPPRESSED_SENTINEL" Bundle.listD).before args s = true) : ∀ w ∈ L, w.before args s = true := by
  intro w hw
  by_cases e1 : w = .isRef (.static Bundle.tN "UNASSIGNED_STACK" Bundle.steD)
  · rw [e1]; exact hU
  · by_cases e2 : w = .isRef (.static Bundle.tN "SUPPRESSED_SENTINEL" Bundle.listD)
    · rw [e2]; exact hN
    · by_cases e3 : w = .laysStatic Bundle.tN "UNASSIGNED_STACK" Bundle.steD
      · rw [e3]; exact lU
      · by_cases e4 : w = .laysStatic Bundle.tN "SUPPRESSED_SENTINEL" Bundle.listD
        · rw [e4]; exact lN
        · exact h1 w (List.mem_filter.mpr ⟨hw, by unfold vx_no; rw [decide_eq_true e1, decide_eq_true e2, decide_eq_true e3, decide_eq_true e4]; rfl⟩)
/-- where a static field lies, its class's statics cell in H -/
def vx_L (C n d : String) (A : Nat → Prop) (U : State) (H : Heap) : Prop := ∃ (c : ClassId) (k : Class) (i : Nat) (f : Field) (a : Nat) (cell : Cell), U.vm.findClass C = some c ∧ U.fieldFound? C n d = some (c, k, i, f) ∧ f.isStatic = true ∧ k.statics = some a ∧ H[a]? = some cell ∧ cell.vm.isStatics = true ∧ cell.cls = c ∧ f.slot < cell.slots.size ∧ k.staticTypes[f.slot]? = some f.type ∧ ¬ A a
theorem vx_L.moved {C n d : String} {A : Nat → Prop} {u U : State} {H : Heap} (hvm : u.vm.Alike U.vm) (h : vx_L C n d A u H) : vx_L C n d A U H := by
  obtain ⟨c, k, i, f, a, cell, h1, h2, h3, h4, h5, h6, h7, h8, h9, h10⟩ := h
  obtain ⟨k', hi', he⟩ := State.fieldFound?_setVm hvm h2
  exact ⟨c, k', i, f, a, cell, by rw [hvm.findClass]; exact h1, hi', h3, by rw [he]; exact h4, h5, h6, h7, h8, by rw [he]; exact h9, h10⟩
theorem vx_L.kept {C n d : String} {A : Nat → Prop} {U : State} {H H1 : Heap} (h : vx_L C n d A U H) (hq : ∀ a : Nat, a < H.size → ¬ A a → H1[a]? = H[a]?) : vx_L C n d A U H1 := by
  obtain ⟨c, k, i, f, a, cell, h1, h2, h3, h4, h5, h6, h7, h8, h9, h10⟩ := h
  exact ⟨c, k, i, f, a, cell, h1, h2, h3, h4, by rw [hq a (Array.getElem?_eq_some_iff.mp h5).1 h10]; exact h5, h6, h7, h8, h9, h10⟩
theorem vx_L.narrow {C n d : String} {A B : Nat → Prop} {U : State} {H : Heap} (h : vx_L C n d A U H) (hAB : ∀ q, B q → A q) : vx_L C n d B U H := by
  obtain ⟨c, k, i, f, a, cell, h1, h2, h3, h4, h5, h6, h7, h8, h9, h10⟩ := h
  exact ⟨c, k, i, f, a, cell, h1, h2, h3, h4, h5, h6, h7, h8, h9, fun z => h10 (hAB _ z)⟩
theorem vx_L.word {C n d : String} {A : Nat → Prop} {s : State} {args : Array Value} (h : vx_L C n d A s s.heap) : (Cond.laysStatic C n d).before args s = true := by
  obtain ⟨c, k, i, f, a, cell, h1, h2, h3, h4, h5, h6, h7, h8, h9, -⟩ := h
  show (Cond.laysStatic C n d).holds args s none s [] = true
  exact Cond.laysStatic_of h1 h2 h3 h4 h5 h6 h7 h8 h9
/-- .. and what it holds: null or some reference -/
def vx_Zq (C n d : String) (A : Nat → Prop) (U : State) (H : Heap) : Prop := va_Zq C n d A U H ∧ vx_L C n d A U H
theorem vx_Zq.moved {C n d : String} {A : Nat → Prop} {u U : State} {H : Heap} (hvm : u.vm.Alike U.vm) (h : vx_Zq C n d A u H) : vx_Zq C n d A U H := ⟨va_Zq.moved hvm h.1, vx_L.moved hvm h.2⟩
theorem vx_Zq.kept {C n d : String} {A : Nat → Prop} {U : State} {H H1 : Heap} (h : vx_Zq C n d A U H) (hq : ∀ a : Nat, a < H.size → ¬ A a → H1[a]? = H[a]?) : vx_Zq C n d A U H1 := ⟨va_Zq.kept h.1 hq, vx_L.kept h.2 hq⟩
theorem vx_Zq.narrow {C n d : String} {A B : Nat → Prop} {U : State} {H : Heap} (h : vx_Zq C n d A U H) (hAB : ∀ q, B q → A q) : vx_Zq C n d B U H := ⟨va_Zq.narrow h.1 hAB, vx_L.narrow h.2 hAB⟩
theorem vx_Zqof {args : Array Value} {s : State} {C n d : String} {A : Nat → Prop} (hl : (Cond.laysStatic C n d).before args s = true) (hini : (Cond.initialized C).before args s = true) (h : (Cond.isRef (.static C n d)).before args s = true) (hA : ∀ a : Nat, a < s.heap.size → ¬ A a) : vx_Zq C n d A s s.heap := by
  refine ⟨va_Zqof hl hini h hA, ?_⟩
  obtain ⟨c, k, i, f, a, cell, h1, h2, h3, h4, h5, h6, h7, h8, h9⟩ := Cond.laysStatic_spec hl
  exact ⟨c, k, i, f, a, cell, h1, h2, h3, h4, h5, h6, h7, h8, h9, hA a (Array.getElem?_eq_some_iff.mp h5).1⟩
theorem vx_isRef {C n d : String} {v : Value} {A : Nat → Prop} {s : State} {args : Array Value} (h : va_Z C n d v A s s.heap) (hv : v.isRef = true) : (Cond.isRef (.static C n d)).before args s = true := by
  obtain ⟨cf, kf, fi, f, a, cell, h1, h2, h3, h4, h5, h6, h7, -⟩ := h
  have he : (Term.static C n d).eval args s none [] s = some v := by
    simp [Term.eval, State.fieldNamed?, h1, h2, h4, h5, h6, h7]
  simp only [Cond.before, Cond.holds, Cond.value, he]
  cases v <;> simp_all [Value.isRef]
theorem vx_isRefq {C n d : String} {A : Nat → Prop} {s : State} {args : Array Value} (h : va_Zq C n d A s s.heap) : (Cond.isRef (.static C n d)).before args s = true := by
  rcases h with h | ⟨t, h⟩
  · exact vx_isRef h rfl
  · exact vx_isRef h rfl
/-- the same frame, seen from here: as if the method were called anew in this heap -/
theorem vx_rebase {T : State} (X : Stand p l e R s m args below meth c T locs cells slots) {R' : Room} (hf : R'.frames ≤ R.frames) (hl : R'.locals ≤ R.locals) (hc : cells + R'.cells ≤ R.cells) (hs : slots + R'.slots ≤ R.slots) :
    Stand p l e R' ((T.setVm s.vm).setFrames (.invoking m args :: below)) m args below meth c T [] 0 0 := by
  have htop : (T.setVm s.vm).topJava?.isSome := X.here.top
  have hF : ((T.setVm s.vm).setFrames (.invoking m args :: below)).frames = .invoking m args :: below := State.frames_setFrames _ (State.cur_lt_of_top htop)
  obtain ⟨g₀, hg0⟩ := Option.isSome_iff_exists.mp htop
  obtain ⟨r, hr⟩ := State.topJava?_eq_some.mp hg0
  have hl9 : e.platform.stackLimits (T.setVm s.vm).me = e.platform.stackLimits s.me := X.limits
  have hb9 : (T.setVm s.vm).me.stackBytes = s.me.stackBytes := X.bytes
  refine ⟨X.admits, X.cas, X.clock, hF, ?_, X.hears, X.method, X.code, X.here, X.tail, X.warmed, ?_, ?_, ?_⟩
  · have h := X.room
    have hU : ((T.setVm s.vm).setFrames (.invoking m args :: below)).localsInUse = s.localsInUse := by
      rw [State.localsInUse_invoking hF (meth := meth) (c := c) X.method X.code, State.localsInUse_invoking X.frames X.method X.code]
    simp only [State.hasRoom, Bool.and_eq_true, decide_eq_true_eq] at h ⊢
    obtain ⟨⟨⟨⟨h1, h2, h3, h4, h5, h6⟩, h7⟩, h8⟩, h9⟩ := h
    rw [X.frames, List.length_cons] at h2 h3
    have q1 := X.heapSize
    have q2 := X.used
    simp only [hF, hU, List.length_cons, State.stackLimits_setFrames, State.stackBytes_setFrames, hl9, hb9]
    refine ⟨⟨⟨⟨by omega, by omega, by omega, by omega, by omega, h6⟩, ?_⟩, ?_⟩, X.book⟩
    · show T.heap.size + R'.cells ≤ e.platform.maxCells
      omega
    · show T.slotsUsed + R'.slots ≤ e.platform.maxSlots
      omega
  · rw [State.stackLimits_setFrames]; rfl
  · rw [State.stackBytes_setFrames]; rfl
  · refine ⟨?_, Nat.le_refl _, Nat.le_refl _, ?_, ?_, fun a c9 h9 => ⟨c9, h9, rfl, rfl, fun _ _ => rfl⟩⟩
    · obtain ⟨t, ht, -⟩ := State.frames_cons hr
      show T.setVm s.vm = { ((T.setVm s.vm).setFrames (.invoking m args :: below)).setFrames (T.setVm s.vm).frames with heap := T.heap, slotsUsed := T.slotsUsed }
      rw [State.setFrames_setFrames, State.setFrames_self ht]
      rfl
    · show T.slotsUsed = T.slotsUsed + ((T.heap.toList.drop T.heap.size).map (·.slots.size)).sum
      rw [List.drop_eq_nil_of_le (Nat.le_of_eq Array.length_toList)]
      rfl
    · show ((T.heap.toList.drop T.heap.size).map (·.slots.size)).sum ≤ 0
      rw [List.drop_eq_nil_of_le (Nat.le_of_eq Array.length_toList)]
      exact Nat.le_refl _
/-- 'throw new E()': new; dup; invokespecial; athrow -/
theorem vx_throw0 {cc : ByteArray} {pc : Nat} (hexec : p.tables.exec = Jvm.exec) (hb : c.code = cc) (hl : l.stackTraces = false) {own cls : String} {names : List String} {ik ic mc ms : Nat} {A : Nat → Prop}
    (hown : s.vm.findClass own = some m.cls) (hcls : Bundle.fit cls = true) (hnames : ∀ n ∈ names, Bundle.fit n = true)
    (hk : (Cond.classLink own ik cls).before args s = true) (hini : (Cond.initialized cls).before args s = true) (hat : ∀ w ∈ vx_at0 own ic cls names, w.before args s = true)
    (hgood : ∀ w ∈ Cond.classLink own ik cls :: Cond.initialized cls :: vx_at0 own ic cls names, vx_ot w = true)
    (hU : vx_Zq Bundle.tN "UNASSIGNED_STACK" Bundle.steD A s s.heap) (hN : vx_Zq Bundle.tN "SUPPRESSED_SENTINEL" Bundle.listD A s s.heap) (hS : va_S A s.heap H locs) (hsize : ls.size = c.maxLocals)
    (d0 : decode cc pc = .ok (.new ik, 3)) (d3 : decode cc (pc + 3) = .ok (.dup, 1)) (d4 : decode cc (pc + 4) = .ok (.invokespecial ic, 3)) (d7 : decode cc (pc + 7) = .ok (.athrow, 1))
    (hout : ∀ x ∈ c.exceptionTable.toList, covers x (pc + 7) = false)
    (hRframes : names.length + 3 < R.frames) (hRlocals : (rest.map fun v => v.category).sum + (13 * (names.length + 1) + 42) ≤ R.locals) (hRcells : cells + 1 ≤ R.cells) (hRslots : slots + 6 ≤ R.slots) (hlocks : meth.locks = false)
    (hx : ∀ t : State, s.vm.Alike t.vm → H.size ≤ t.heap.size → (∀ q : Nat, q < H.size → t.heap[q]? = H[q]?) → XC cls s t)
    (hf : ∀ z ∈ locs, free z.base) (hc : cells + 1 ≤ mc) (hs : slots + 6 ≤ ms) :
    W p l e R s m args below meth c H locs cells slots (vx_MQ below Qc XC args s mc ms free) (F0 m pc ls rest) := by
  intro T hT X
  have htr : e.platform.stackTraces = false := (show e.platform.stackTraces = l.stackTraces by rw [X.admits.platform]).trans hl
  have Y := vx_rebase X (R' := { frames := R.frames, locals := R.locals, cells := 1, slots := 6 }) (Nat.le_refl _) (Nat.le_refl _) hRcells hRslots
  obtain ⟨s', hA⟩ : ∃ z, z = (T.setVm s.vm).setFrames (.invoking m args :: below) := ⟨_, rfl⟩
  rw [← hA] at Y
  have hvm : s'.vm = s.vm := by rw [hA]; rfl
  have hhp : s'.heap = H := by rw [hA]; exact hT
  have hW0 : s.WarmedH s'.vm := by rw [hvm]; exact State.WarmedH.refl s
  have hat' : ∀ w ∈ vx_at0 own ic cls names, w.before args s' = true := fun w hw => vx_ot_at hW0 hvm.symm (hgood w (List.mem_cons_of_mem _ (List.mem_cons_of_mem _ hw))) (hat w hw)
  have hk' : (Cond.classLink own ik cls).before args s' = true := vx_ot_at hW0 hvm.symm (hgood _ List.mem_cons_self) hk
  have hini' : (Cond.initialized cls).before args s' = true := vx_ot_at hW0 hvm.symm (hgood _ (List.mem_cons_of_mem _ List.mem_cons_self)) hini
  have hU' : vx_Zq Bundle.tN "UNASSIGNED_STACK" Bundle.steD A s' s'.heap := by rw [hhp]; exact vx_Zq.moved hW0.alike (hU.kept hS.2.1)
  have hN' : vx_Zq Bundle.tN "SUPPRESSED_SENTINEL" Bundle.listD A s' s'.heap := by rw [hhp]; exact vx_Zq.moved hW0.alike (hN.kept hS.2.1)
  have h : ∀ w ∈ Bundle.ownAtoms0 own ic cls names, w.before args s' = true := vx_own hat' (vx_isRefq hU'.1) (vx_isRefq hN'.1) hU'.2.word hN'.2.word
  have hown' : s'.vm.findClass own = some m.cls := by rw [hvm]; exact hown
  have hins : (Cond.instantiable cls 6).before args s' = true := h _ (by simp [Bundle.ownAtoms0])
  obtain ⟨vm₁, cX, kX, hfX, hkX, -, -, X₁, st1⟩ := Y.newCold hexec (own := own) (C := cls) (index := ik) (n := 6) hown' hk' hins hini'
    (g := F0 m pc ls rest) rfl (by rw [hb]; exact d0) (Nat.le_refl _) (Nat.le_refl _)
  generalize hT1 : (T.setVm vm₁).pushCell { cls := cX, slots := kX.instanceTypes.map defaultValue, vm := .none } = T1 at X₁ st1
  have hcat : (Value.ref T.heap.size).category = 1 := rfl
  have hcellA : T1.heap[T.heap.size]? = some (freshCell cX kX) := by rw [← hT1]; exact State.heap_pushCell_size _ _
  have d3' : decode c.code (pc + 3) = .ok (.dup, 1) := by rw [hb]; exact d3
  obtain ⟨U, hsteps, hrun, hend, hW, hsame, ce, hce, hO⟩ := X₁.ctorThrow0 hexec htr (own := own) (cls := cls) (names := names) (ic := ic) hown' hcls hnames h (fun x hx => nomatch hx) hfX hkX hcellA (by rw [hhp, hT]; exact Nat.le_refl _)
    (g := { method := m, pc := pc + 4, locals := ls, stack := .ref T.heap.size :: .ref T.heap.size :: rest, locked := none }) rfl hsize rfl rfl (rest := rest) rfl
    (by rw [hb]; exact d4) (by rw [hb]; exact d7) hout hRframes (by simp only [List.map_cons, List.sum_cons, hcat]; omega) hlocks
  obtain ⟨f1, f2⟩ := vx_frame hsame
  rw [hhp] at f1 f2
  have hWs : s.WarmedH U.vm := State.WarmedH.trans hW0 hW
  have hcl : s.vm.findClass cls = some ce.cls := by
    have h9 := hO.cls
    rw [hvm] at h9
    exact h9
  have hall : s.sameButNew ({ U with vm := s.vm } : State) locs mc ms := by
    subst hA
    obtain ⟨e1, e2⟩ := hsame
    rw [State.setFrames_setFrames] at e1
    have h2 : (T.setVm s.vm).sameButNew ({ U with vm := s.vm } : State) [] (0 + 1) (0 + 6) := ⟨e1, e2⟩
    have h3 := X.same.trans h2
    rw [List.append_nil] at h3
    exact h3.mono hc hs
  refine ⟨U, ?_, .threw T.heap.size, hrun, hend, Or.inr ⟨T.heap.size, rfl, cls, ce, locs, hx U hWs.alike f1 (fun q hq => f2 q hq (fun z hz => nomatch hz)), hce, hO.vm, hcl, hWs, hall, hf⟩⟩
  refine st1 _ ?_
  show Steps p.tables e below (T1.setTop { method := m, pc := pc + 3, locals := ls, stack := .ref T.heap.size :: rest, locked := none }) _
  jvm_step X₁.here [X₁.here.top, hexec, d3', Value.category]
  exact hsteps
/-- 'throw new E("text")': new; dup; ldc; invokespecial; athrow -/
theorem vx_throwS {cc : ByteArray} {pc : Nat} (hexec : p.tables.exec = Jvm.exec) (hb : c.code = cc) (hl : l.stackTraces = false) {own cls text : String} {names : List String} {ik is ic mc ms sa : Nat} {A : Nat → Prop}
    (hown : s.vm.findClass own = some m.cls) (hcls : Bundle.fit cls = true) (hnames : ∀ n ∈ names, Bundle.fit n = true)
    (hk : (Cond.classLink own ik cls).before args s = true) (hini : (Cond.initialized cls).before args s = true) (hstr : vk_R own is text sa s) (hat : ∀ w ∈ vx_atS own ic cls names, w.before args s = true)
    (hgood : ∀ w ∈ Cond.classLink own ik cls :: Cond.initialized cls :: vx_atS own ic cls names, vx_ot w = true)
    (hU : vx_Zq Bundle.tN "UNASSIGNED_STACK" Bundle.steD A s s.heap) (hN : vx_Zq Bundle.tN "SUPPRESSED_SENTINEL" Bundle.listD A s s.heap) (hS : va_S A s.heap H locs) (hsize : ls.size = c.maxLocals)
    (d0 : decode cc pc = .ok (.new ik, 3)) (d3 : decode cc (pc + 3) = .ok (.dup, 1)) (d4 : decode cc (pc + 4) = .ok (.ldc is, 2)) (d6 : decode cc (pc + 6) = .ok (.invokespecial ic, 3)) (d9 : decode cc (pc + 9) = .ok (.athrow, 1))
    (hout : ∀ x ∈ c.exceptionTable.toList, covers x (pc + 9) = false)
    (hRframes : names.length + 3 < R.frames) (hRlocals : (rest.map fun v => v.category).sum + (13 * (names.length + 1) + 43) ≤ R.locals) (hRcells : cells + 1 ≤ R.cells) (hRslots : slots + 6 ≤ R.slots) (hlocks : meth.locks = false)
    (hx : ∀ t : State, s.vm.Alike t.vm → H.size ≤ t.heap.size → (∀ q : Nat, q < H.size → t.heap[q]? = H[q]?) → XC cls s t)
    (hf : ∀ z ∈ locs, free z.base) (hc : cells + 1 ≤ mc) (hs : slots + 6 ≤ ms) :
    W p l e R s m args below meth c H locs cells slots (vx_MQ below Qc XC args s mc ms free) (F0 m pc ls rest) := by
  intro T hT X
  have htr : e.platform.stackTraces = false := (show e.platform.stackTraces = l.stackTraces by rw [X.admits.platform]).trans hl
  have Y := vx_rebase X (R' := { frames := R.frames, locals := R.locals, cells := 1, slots := 6 }) (Nat.le_refl _) (Nat.le_refl _) hRcells hRslots
  obtain ⟨s', hA⟩ : ∃ z, z = (T.setVm s.vm).setFrames (.invoking m args :: below) := ⟨_, rfl⟩
  rw [← hA] at Y
  have hvm : s'.vm = s.vm := by rw [hA]; rfl
  have hhp : s'.heap = H := by rw [hA]; exact hT
  have hW0 : s.WarmedH s'.vm := by rw [hvm]; exact State.WarmedH.refl s
  have hat' : ∀ w ∈ vx_atS own ic cls names, w.before args s' = true := fun w hw => vx_ot_at hW0 hvm.symm (hgood w (List.mem_cons_of_mem _ (List.mem_cons_of_mem _ hw))) (hat w hw)
  have hk' : (Cond.classLink own ik cls).before args s' = true := vx_ot_at hW0 hvm.symm (hgood _ List.mem_cons_self) hk
  have hini' : (Cond.initialized cls).before args s' = true := vx_ot_at hW0 hvm.symm (hgood _ (List.mem_cons_of_mem _ List.mem_cons_self)) hini
  have hU' : vx_Zq Bundle.tN "UNASSIGNED_STACK" Bundle.steD A s' s'.heap := by rw [hhp]; exact vx_Zq.moved hW0.alike (hU.kept hS.2.1)
  have hN' : vx_Zq Bundle.tN "SUPPRESSED_SENTINEL" Bundle.listD A s' s'.heap := by rw [hhp]; exact vx_Zq.moved hW0.alike (hN.kept hS.2.1)
  have h : ∀ w ∈ Bundle.ownAtoms own ic cls names, w.before args s' = true := vx_own hat' (vx_isRefq hU'.1) (vx_isRefq hN'.1) hU'.2.word hN'.2.word
  have hown' : s'.vm.findClass own = some m.cls := by rw [hvm]; exact hown
  have hins : (Cond.instantiable cls 6).before args s' = true := h _ (by simp [Bundle.ownAtoms])
  obtain ⟨vm₁, cX, kX, hfX, hkX, -, -, X₁, st1⟩ := Y.newCold hexec (own := own) (C := cls) (index := ik) (n := 6) hown' hk' hins hini'
    (g := F0 m pc ls rest) rfl (by rw [hb]; exact d0) (Nat.le_refl _) (Nat.le_refl _)
  generalize hT1 : (T.setVm vm₁).pushCell { cls := cX, slots := kX.instanceTypes.map defaultValue, vm := .none } = T1 at X₁ st1
  have hcat : (Value.ref T.heap.size).category = 1 := rfl
  have hcellA : T1.heap[T.heap.size]? = some (freshCell cX kX) := by rw [← hT1]; exact State.heap_pushCell_size _ _
  have d3' : decode c.code (pc + 3) = .ok (.dup, 1) := by rw [hb]; exact d3
  have d4' : decode c.code (pc + 4) = .ok (.ldc is, 2) := by rw [hb]; exact d4
  have hstr' : vk_R own is text sa s' := vk_R.warm hW0 hstr
  obtain ⟨U, hsteps, hrun, hend, hW, hsame, ce, hce, hO⟩ := X₁.ctorThrowS hexec htr (own := own) (cls := cls) (names := names) (ic := ic) hown' hcls hnames h (fun x hx => nomatch hx) hfX hkX hcellA (by rw [hhp, hT]; exact Nat.le_refl _) (msg := .ref sa) rfl
    (g := { method := m, pc := pc + 6, locals := ls, stack := .ref sa :: .ref T.heap.size :: .ref T.heap.size :: rest, locked := none }) rfl hsize rfl rfl (rest := rest) rfl
    (by rw [hb]; exact d6) (by rw [hb]; exact d9) hout hRframes (by simp only [List.map_cons, List.sum_cons, hcat]; omega) hlocks
  obtain ⟨f1, f2⟩ := vx_frame hsame
  rw [hhp] at f1 f2
  have hWs : s.WarmedH U.vm := State.WarmedH.trans hW0 hW
  have hcl : s.vm.findClass cls = some ce.cls := by
    have h9 := hO.cls
    rw [hvm] at h9
    exact h9
  have hall : s.sameButNew ({ U with vm := s.vm } : State) locs mc ms := by
    subst hA
    obtain ⟨e1, e2⟩ := hsame
    rw [State.setFrames_setFrames] at e1
    have h2 : (T.setVm s.vm).sameButNew ({ U with vm := s.vm } : State) [] (0 + 1) (0 + 6) := ⟨e1, e2⟩
    have h3 := X.same.trans h2
    rw [List.append_nil] at h3
    exact h3.mono hc hs
  refine ⟨U, ?_, .threw T.heap.size, hrun, hend, Or.inr ⟨T.heap.size, rfl, cls, ce, locs, hx U hWs.alike f1 (fun q hq => f2 q hq (fun z hz => nomatch hz)), hce, hO.vm, hcl, hWs, hall, hf⟩⟩
  refine st1 _ ?_
  show Steps p.tables e below (T1.setTop { method := m, pc := pc + 3, locals := ls, stack := .ref T.heap.size :: rest, locked := none }) _
  jvm_step X₁.here [X₁.here.top, hexec, d3', Value.category]
  exact X₁.ldcString hexec (own := own) (text := text) (index := is) (a := sa) hown' hstr'.1 hstr'.2
    (g := { method := m, pc := pc + 4, locals := ls, stack := .ref T.heap.size :: .ref T.heap.size :: rest, locked := none }) rfl d4' _ hsteps
/-- 'throw new E("text")', the text by a wide index -/
theorem vx_throwSW {cc : ByteArray} {pc : Nat} (hexec : p.tables.exec = Jvm.exec) (hb : c.code = cc) (hl : l.stackTraces = false) {own cls text : String} {names : List String} {ik is ic mc ms sa : Nat} {A : Nat → Prop}
    (hown : s.vm.findClass own = some m.cls) (hcls : Bundle.fit cls = true) (hnames : ∀ n ∈ names, Bundle.fit n = true)
    (hk : (Cond.classLink own ik cls).before args s = true) (hini : (Cond.initialized cls).before args s = true) (hstr : vk_R own is text sa s) (hat : ∀ w ∈ vx_atS own ic cls names, w.before args s = true)
    (hgood : ∀ w ∈ Cond.classLink own ik cls :: Cond.initialized cls :: vx_atS own ic cls names, vx_ot w = true)
    (hU : vx_Zq Bundle.tN "UNASSIGNED_STACK" Bundle.steD A s s.heap) (hN : vx_Zq Bundle.tN "SUPPRESSED_SENTINEL" Bundle.listD A s s.heap) (hS : va_S A s.heap H locs) (hsize : ls.size = c.maxLocals)
    (d0 : decode cc pc = .ok (.new ik, 3)) (d3 : decode cc (pc + 3) = .ok (.dup, 1)) (d4 : decode cc (pc + 4) = .ok (.ldc_w is, 3)) (d7 : decode cc (pc + 7) = .ok (.invokespecial ic, 3)) (d10 : decode cc (pc + 10) = .ok (.athrow, 1))
    (hout : ∀ x ∈ c.exceptionTable.toList, covers x (pc + 10) = false)
    (hRframes : names.length + 3 < R.frames) (hRlocals : (rest.map fun v => v.category).sum + (13 * (names.length + 1) + 43) ≤ R.locals) (hRcells : cells + 1 ≤ R.cells) (hRslots : slots + 6 ≤ R.slots) (hlocks : meth.locks = false)
    (hx : ∀ t : State, s.vm.Alike t.vm → H.size ≤ t.heap.size → (∀ q : Nat, q < H.size → t.heap[q]? = H[q]?) → XC cls s t)
    (hf : ∀ z ∈ locs, free z.base) (hc : cells + 1 ≤ mc) (hs : slots + 6 ≤ ms) :
    W p l e R s m args below meth c H locs cells slots (vx_MQ below Qc XC args s mc ms free) (F0 m pc ls rest) := by
  intro T hT X
  have htr : e.platform.stackTraces = false := (show e.platform.stackTraces = l.stackTraces by rw [X.admits.platform]).trans hl
  have Y := vx_rebase X (R' := { frames := R.frames, locals := R.locals, cells := 1, slots := 6 }) (Nat.le_refl _) (Nat.le_refl _) hRcells hRslots
  obtain ⟨s', hA⟩ : ∃ z, z = (T.setVm s.vm).setFrames (.invoking m args :: below) := ⟨_, rfl⟩
  rw [← hA] at Y
  have hvm : s'.vm = s.vm := by rw [hA]; rfl
  have hhp : s'.heap = H := by rw [hA]; exact hT
  have hW0 : s.WarmedH s'.vm := by rw [hvm]; exact State.WarmedH.refl s
  have hat' : ∀ w ∈ vx_atS own ic cls names, w.before args s' = true := fun w hw => vx_ot_at hW0 hvm.symm (hgood w (List.mem_cons_of_mem _ (List.mem_cons_of_mem _ hw))) (hat w hw)
  have hk' : (Cond.classLink own ik cls).before args s' = true := vx_ot_at hW0 hvm.symm (hgood _ List.mem_cons_self) hk
  have hini' : (Cond.initialized cls).before args s' = true := vx_ot_at hW0 hvm.symm (hgood _ (List.mem_cons_of_mem _ List.mem_cons_self)) hini
  have hU' : vx_Zq Bundle.tN "UNASSIGNED_STACK" Bundle.steD A s' s'.heap := by rw [hhp]; exact vx_Zq.moved hW0.alike (hU.kept hS.2.1)
  have hN' : vx_Zq Bundle.tN "SUPPRESSED_SENTINEL" Bundle.listD A s' s'.heap := by rw [hhp]; exact vx_Zq.moved hW0.alike (hN.kept hS.2.1)
  have h : ∀ w ∈ Bundle.ownAtoms own ic cls names, w.before args s' = true := vx_own hat' (vx_isRefq hU'.1) (vx_isRefq hN'.1) hU'.2.word hN'.2.word
  have hown' : s'.vm.findClass own = some m.cls := by rw [hvm]; exact hown
  have hins : (Cond.instantiable cls 6).before args s' = true := h _ (by simp [Bundle.ownAtoms])
  obtain ⟨vm₁, cX, kX, hfX, hkX, -, -, X₁, st1⟩ := Y.newCold hexec (own := own) (C := cls) (index := ik) (n := 6) hown' hk' hins hini'
    (g := F0 m pc ls rest) rfl (by rw [hb]; exact d0) (Nat.le_refl _) (Nat.le_refl _)
  generalize hT1 : (T.setVm vm₁).pushCell { cls := cX, slots := kX.instanceTypes.map defaultValue, vm := .none } = T1 at X₁ st1
  have hcat : (Value.ref T.heap.size).category = 1 := rfl
  have hcellA : T1.heap[T.heap.size]? = some (freshCell cX kX) := by rw [← hT1]; exact State.heap_pushCell_size _ _
  have d3' : decode c.code (pc + 3) = .ok (.dup, 1) := by rw [hb]; exact d3
  have d4' : decode c.code (pc + 4) = .ok (.ldc_w is, 3) := by rw [hb]; exact d4
  have hstr' : vk_R own is text sa s' := vk_R.warm hW0 hstr
  obtain ⟨U, hsteps, hrun, hend, hW, hsame, ce, hce, hO⟩ := X₁.ctorThrowS hexec htr (own := own) (cls := cls) (names := names) (ic := ic) hown' hcls hnames h (fun x hx => nomatch hx) hfX hkX hcellA (by rw [hhp, hT]; exact Nat.le_refl _) (msg := .ref sa) rfl
    (g := { method := m, pc := pc + 7, locals := ls, stack := .ref sa :: .ref T.heap.size :: .ref T.heap.size :: rest, locked := none }) rfl hsize rfl rfl (rest := rest) rfl
    (by rw [hb]; exact d7) (by rw [hb]; exact d10) hout hRframes (by simp only [List.map_cons, List.sum_cons, hcat]; omega) hlocks
  obtain ⟨f1, f2⟩ := vx_frame hsame
  rw [hhp] at f1 f2
  have hWs : s.WarmedH U.vm := State.WarmedH.trans hW0 hW
  have hcl : s.vm.findClass cls = some ce.cls := by
    have h9 := hO.cls
    rw [hvm] at h9
    exact h9
  have hall : s.sameButNew ({ U with vm := s.vm } : State) locs mc ms := by
    subst hA
    obtain ⟨e1, e2⟩ := hsame
    rw [State.setFrames_setFrames] at e1
    have h2 : (T.setVm s.vm).sameButNew ({ U with vm := s.vm } : State) [] (0 + 1) (0 + 6) := ⟨e1, e2⟩
    have h3 := X.same.trans h2
    rw [List.append_nil] at h3
    exact h3.mono hc hs
  refine ⟨U, ?_, .threw T.heap.size, hrun, hend, Or.inr ⟨T.heap.size, rfl, cls, ce, locs, hx U hWs.alike f1 (fun q hq => f2 q hq (fun z hz => nomatch hz)), hce, hO.vm, hcl, hWs, hall, hf⟩⟩
  refine st1 _ ?_
  show Steps p.tables e below (T1.setTop { method := m, pc := pc + 3, locals := ls, stack := .ref T.heap.size :: rest, locked := none }) _
  jvm_step X₁.here [X₁.here.top, hexec, d3', Value.category]
  exact X₁.ldcStringW hexec (own := own) (text := text) (index := is) (a := sa) hown' hstr'.1 hstr'.2
    (g := { method := m, pc := pc + 4, locals := ls, stack := .ref T.heap.size :: .ref T.heap.size :: rest, locked := none }) rfl d4' _ hsteps
end Ends
section Bodies
variable {l : Launch}
theorem vx_ofW {y : MethodName} {ws ws' : List Cond} {rm : Room} {Pc : Array Value → State → Prop} {Qc : Array Value → State → Outcome → State → Prop} {XC : String → State → State → Prop} {mc ms : Nat} {free : Addr → Prop} {cc : ByteArray} {maxL : Nat} {ret : Option FieldType}
    (hy : plainName y.cls = true) (hw : ws = Cond.code y cc maxL ret :: ws')
    (body : ∀ p e s m args below meth c s₁, BodyLoose p l y (headSpec ws rm) cc maxL ret e s m args below meth c s₁ → c.maxLocals = maxL → (∀ x ∈ c.exceptionTable.toList, False) → Pc args s →
      W p l e (headSpec ws rm).room s m args below meth c s.heap [] 0 0 (vx_MQ below Qc XC args s mc ms free) (entryFrame m args maxL)) : vx_Met l y ws rm Pc Qc XC mc ms free := by
  refine MetFree.of_bodyS (code := cc) (maxLocals := maxL) (ret := ret) hy ?_ ?_
  · intro args s m h hn
    obtain ⟨meth, c, h1, h2, h3, h4, h5, h6, -, -⟩ := Cond.code_spec hn (atoms_spec (ws := ws) h _ (by rw [hw]; exact List.mem_cons_self))
    exact ⟨meth, c, h1, h2, h3, h4, h5, h6⟩
  · intro p e s m args below meth c s₁ B hml hP _
    have hh0 : s₁.heap = s.heap := by rw [B.state]; rfl
    have ht : ∀ x ∈ c.exceptionTable.toList, False := by
      obtain ⟨meth9, c9, h1, h2, -, -, -, -, h7, -⟩ := Cond.code_spec B.named (atoms_spec (ws := ws) B.pre _ (by rw [hw]; exact List.mem_cons_self))
      cases Option.some.inj (h1.symm.trans B.method)
      cases Option.some.inj (h2.symm.trans (Stand.of_body B).code)
      intro x hx
      rw [Array.isEmpty_iff.mp h7] at hx
      cases hx
    obtain ⟨t, a1, o, b1, b2, b3⟩ := body p e s m args below meth c s₁ B hml ht hP s₁ hh0 (Stand.of_body B)
    exact ⟨t, o, a1, b1, b2, b3⟩
/-- the table of a body with handlers -/
theorem vx_table {p : Program} {x y : MethodName} {S : Spec} {cc bytes : ByteArray} {maxL maxL' : Nat} {ret ret' : Option FieldType} {e : Env} {s s₁ : State} {m : MethodId} {args : Array Value} {below : List Frame} {meth : Method} {c : Code} {hh : List (Nat × Nat × Nat × Nat)}
    (B : BodyLoose p l y S cc maxL ret e s m args below meth c s₁) (h : (Cond.codeWith y bytes maxL' ret' hh).before args s = true) : c.exceptionTable.toList = tableOf hh := by
  obtain ⟨m9, meth9, c9, hn9, h1, h2, -, -, h6, -⟩ := Cond.codeWith_spec h
  cases Option.some.inj (hn9.symm.trans B.named)
  cases Option.some.inj (h1.symm.trans B.method)
  cases Option.some.inj (h2.symm.trans (Stand.of_body B).code)
  rw [← h6, table_eq]
end Bodies
end VXA
/-! ===== END ===== -/
/-! ===== BEGIN a static call of a method with an exception table ===== -/
section VXS
variable {p : Program} {l : Launch} {e : Env} {R : Room} {s : State} {m : MethodId} {args : Array Value} {below : List Frame} {meth : Method} {c : Code} {T : State} {H : Heap} {locs : List Loc} {cells slots : Nat}
abbrev vx_CSW (R : Room) (s : State) (args : Array Value) (own : String) (index : Nat) (y : MethodName) (bytes : ByteArray) (maxL : Nat) (ret : Option FieldType) (hh : List (Nat × Nat × Nat × Nat)) (ws : List Cond) (rm : Room) (mc ms n : Nat) : Prop :=
  (rm.cells = mc ∧ rm.slots = ms ∧ rm.frames + 1 ≤ R.frames ∧ 8 + (maxL + 11) + rm.locals ≤ R.locals ∧ (∀ w ∈ ws, ∀ (a' : Array Value) (U : State), s.WarmedH U.vm → w.before a' U = true) ∧ Cond.codeWith y bytes maxL ret hh ∈ ws) ∧
  (Cond.codeWith y bytes maxL ret hh).before args s = true ∧ (Cond.initialized y.cls).before args s = true ∧ (y.cls ≠ "java/lang/invoke/MethodHandle" ∧ y.cls ≠ "java/lang/invoke/VarHandle") ∧
  (∀ sig, parseMethodDescriptor y.desc = some sig → n = sig.parameters.length) ∧ (Cond.methodLink own index y).before args s = true ∧ (Cond.static y).before args s = true
theorem vx_cwSW {own : String} {index maxL mc ms : Nat} {y : MethodName} {bytes : ByteArray} {ret : Option FieldType} {hh : List (Nat × Nat × Nat × Nat)} {Ts ws ws' : List Cond} {rm : Room} (n : Nat) (ht : ∀ w ∈ Ts, w.before args s = true) (hT : GoodIn Ts (va_wsS own index y ws)) (hw : ws = Cond.codeWith y bytes maxL ret hh :: ws') (hrc : rm.cells = mc) (hrs : rm.slots = ms)
    (hd : y.cls ≠ "java/lang/invoke/MethodHandle" ∧ y.cls ≠ "java/lang/invoke/VarHandle" ∧ (parseMethodDescriptor y.desc).map (fun d => d.parameters.length) = some n) (hR : rm.frames + 1 ≤ R.frames ∧ 8 + (maxL + 11) + rm.locals ≤ R.locals) :
    vx_CSW R s args own index y bytes maxL ret hh ws rm mc ms n := by
  have ok : ∀ w ∈ va_wsS own index y ws, w.before args s = true := fun w h => ht w (hT w h).1
  have hG : GoodIn Ts ws := fun w h => hT w (by unfold va_wsS; exact List.mem_append_right _ h)
  have hc : Cond.codeWith y bytes maxL ret hh ∈ ws := by rw [hw]; exact List.mem_cons_self
  refine ⟨⟨hrc, hrs, hR.1, hR.2, pay_in ht hG, hc⟩, ht _ (hG _ hc).1, ok _ (by simp [va_wsS]), ⟨hd.1, hd.2.1⟩, fun sig h => ?_, ok _ (by simp [va_wsS]), ok _ (by simp [va_wsS])⟩
  have h2 := hd.2.2
  rw [h] at h2
  exact (Option.some.inj h2).symm
theorem vx_callSW (X : Stand p l e R s m args below meth c T locs cells slots) (hexec : p.tables.exec = Jvm.exec) {own : String} {index : Nat} {y : MethodName} {bytes : ByteArray} {maxL : Nat} {ret : Option FieldType} {hh : List (Nat × Nat × Nat × Nat)}
    (hown : s.vm.findClass own = some m.cls) (hlink : (Cond.methodLink own index y).before args s = true) (hstat : (Cond.static y).before args s = true) (hinit : (Cond.initialized y.cls).before args s = true)
    (hcode : (Cond.codeWith y bytes maxL ret hh).before args s = true) (hy : y.cls ≠ "java/lang/invoke/MethodHandle" ∧ y.cls ≠ "java/lang/invoke/VarHandle")
    {W9 : Nat} {Pre : Pt → Array Value → Prop} {Post : Pt → Array Value → Option Value → Pt → Prop} (hK : Back l R p e below s args y 3 W9 Pre Post)
    {g : JFrame} (hg : g.method = m) (hsize : g.locals.size = c.maxLocals) {argsL rest : List Value} (hlen : ∀ sig, parseMethodDescriptor y.desc = some sig → argsL.length = sig.parameters.length)
    (hstack : g.stack = argsL.reverse ++ rest) (hW : 2 * g.monitorRoom + (rest.map fun v => v.category).sum ≤ W9) (hdg : decode c.code g.pc = .ok (.invokestatic index, 3))
    (hpre : ∀ vm₁, s.WarmedH vm₁ → Pre ⟨T.setVm vm₁, locs, cells, slots⟩ argsL.toArray) :
    ∃ (v : Option Value) (vm₁ : Vm) (B : Pt), s.WarmedH vm₁ ∧ Stand p l e R s m args below meth c B.U B.locs B.cells B.slots ∧ Post ⟨T.setVm vm₁, locs, cells, slots⟩ argsL.toArray v B ∧
      ∀ target, Steps p.tables e below (B.U.setTop { g with pc := g.pc + 3, stack := v.toList ++ rest }) target → Steps p.tables e below (T.setTop g) target := by
  obtain ⟨mk, methM, cM, hnamed, hmethM, -, -, -, -, -, -, hsigM⟩ := Cond.codeWith_spec hcode
  have hstatic : methM.isStatic = true := Cond.static_spec hnamed hmethM hstat
  obtain ⟨kP, hkP, -⟩ := className_of_methodNamed hnamed
  have hinitP : kP.init = .initialized := Cond.initialized_spec (findClass_of_methodNamed hnamed) hkP hinit
  obtain ⟨vm₁, X₁, hstep₁⟩ := X.invokestatic hexec hown hlink hnamed hmethM hstatic hkP hinitP hy (g := g) hg (argsL := argsL) (rest := rest) (hlen _ hsigM) hstack hdg
  obtain ⟨v, B, X', hpost, hsteps⟩ := hK m meth c ⟨T.setVm vm₁, locs, cells, slots⟩ { g with stack := rest } (.invokestatic index) mk argsL.toArray X₁ hg hsize hdg hW (X₁.named hnamed) (hpre vm₁ X₁.warmed)
  exact ⟨v, vm₁, B, X₁.warmed, X', hpost, fun target h => hstep₁ _ fun acts => by rw [doInvoke_state]; exact hsteps.trans h⟩
theorem vx_runSW {y : MethodName} {bytes cc : ByteArray} {maxL nL mc ms n index : Nat} {ret : Option FieldType} {hh : List (Nat × Nat × Nat × Nat)} {ws : List Cond} {rm : Room} {Pc : Array Value → State → Prop} {Qc : Array Value → State → Outcome → State → Prop} {free : Addr → Prop} {Ts : List Cond} {own : String} {As rest : List Value} {g : JFrame}
    (S : CallFix p m c cc nL s args Ts own) (hM : Met l y ws rm Pc Qc mc ms free) (cw : vx_CSW R s args own index y bytes maxL ret hh ws rm mc ms n) (hp : PreS s H Pc As)
    (hg : g.method = m) (hn : As.length = n) (hsize : g.locals.size = nL) (hstack : g.stack = As.reverse ++ rest) (hW : 2 * g.monitorRoom + (rest.map fun v => v.category).sum ≤ 8) (hdg : decode cc g.pc = .ok (.invokestatic index, 3)) (hf : cells + mc ≤ R.cells ∧ slots + ms ≤ R.slots) :
    va_Run p l e R s m args below meth c H locs cells slots mc ms g rest (Qc As.toArray) (free) := by
  obtain ⟨⟨hrc, hrs, hfr, hlo, hws, hcw⟩, hcode, hini, hy, hlen, hl, hstt⟩ := cw
  have hK : Back l R p e below s args y 3 8 (PreOf R mc ms Pc) (PostOf Qc mc ms free) := va_backW (hh := hh) (bytes := bytes) (maxL := maxL) (ret := ret) hM hp.1 hrc hrs hfr hlo hws hcw (fun a' U hW => word_at hW (Or.inl (by first | rfl | simp [Cond.onTables, Cond.keeps, Cond.steady])) hini)
  obtain ⟨hx, hb, hml, ho, -⟩ := S
  intro T hT X
  obtain ⟨v, vm₁, ⟨U', l2, c2, s2⟩, hW₁, X', ⟨g', mk, t, L, e1, e2, hq, h1, hL, h2, h3⟩, st⟩ := vx_callSW X hx (hh := hh) (bytes := bytes) (maxL := maxL) (ret := ret) ho hl hstt hini hcode hy hK hg (hsize.trans hml.symm) (argsL := As) (rest := rest) (fun sig h => hn.trans (hlen sig h)) hstack hW (by rw [hb]; exact hdg)
    (fun vm₁ hW₁ => ⟨hf.1, hf.2, hp.2 (T.setVm vm₁) hT hW₁⟩)
  dsimp only [Pt.U, Pt.locs, Pt.cells, Pt.slots] at X' e1 e2 h1 h2 h3 st
  subst h1; subst h2; subst h3
  exact ⟨v, (T.setVm vm₁).calling g' mk As.toArray, t, U', L, hT, X', hL, e1, e2, hq, st⟩
/-- not caught here, past rows that name other classes: it goes on to the caller -/
theorem vx_outP {p : Program} {l : Launch} {e : Env} {R : Room} {s : State} {m : MethodId} {args : Array Value} {below : List Frame} {meth : Method} {c : Code} {H : Heap} {locs : List Loc} {cells slots : Nat} {free : Addr → Prop} {ls : Array Slot} {rest : List Value} {Qc : Array Value → State → Outcome → State → Prop} {XC : String → State → State → Prop}
    {pc : Nat} {own E : String} {ce : Cell} {q : Addr} {mc ms : Nat} (hown : s.vm.findClass own = some m.cls) (hlocks : meth.locks = false)
    (hpass : ∀ z ∈ c.exceptionTable.toList, covers z pc = false ∨ (z.catchType ≠ 0 ∧ ∃ nm : String, (Cond.classLink own z.catchType nm).before args s = true ∧ va_Nc E nm s)) (hcell : H[q]? = some ce) (hv : ce.vm = .none) (hcl : s.vm.findClass E = some ce.cls)
    (hx : ∀ t : State, t.heap = H → s.vm.Alike t.vm → XC E s t) (hf : ∀ z ∈ locs, free z.base) (hc : cells ≤ mc) (hs : slots ≤ ms) :
    vx_W p l e R s m args below meth c H locs cells slots (vx_MQ below Qc XC args s mc ms free) (F0 m pc ls rest) q := by
  intro T hT X
  have hpl : e.platform.magicAccessors = ({} : Platform).magicAccessors := by rw [X.admits.platform]
  obtain ⟨vm', hW', X', st⟩ := X.outThrough hlocks q (g := F0 m pc ls rest) rfl rfl rfl (cell := ce) (by rw [hT]; exact hcell) (by rw [hv]; rfl)
    (by obtain ⟨k9, h9, -⟩ := Vm.findClass_spec hcl; exact ⟨k9, h9⟩) (fun z hz => by
      rcases hpass z hz with h | ⟨hz0, nm, hl1, hn1⟩
      · exact Or.inl h
      · obtain ⟨c6, hc6, hcl6⟩ := Cond.classLink_spec hown hl1 e.platform hpl
        obtain ⟨a8, b8, h1, h2, h3⟩ := hn1
        cases Option.some.inj (h1.symm.trans hcl)
        cases Option.some.inj (h2.symm.trans hc6)
        exact Or.inr ⟨hz0, _, hcl6, h3⟩)
  obtain ⟨g₀, hfr⟩ := X'.frames_eq
  have hcell9 : ((T.setVm vm').setFrames (.throwing q :: below)).heap[q]? = some ce := by
    show T.heap[q]? = some ce
    rw [hT]; exact hcell
  have hend : Ended ((T.setVm vm').setFrames (.throwing q :: below)) below (.threw q) := State.frames_setFrames _ (State.cur_lt_of_frames hfr)
  refine ⟨(T.setVm vm').setFrames (.throwing q :: below), ?_, .threw q, X'.here.running, hend, Or.inr ⟨q, rfl, E, ce, locs, hx _ hT (X'.ends _).1.alike, hcell9, hv, hcl, (X'.ends _).1, (X'.ends _).2.mono hc hs, hf⟩⟩
  rw [X.pushThrowing_eq]
  exact st
/-- a thing of a world lies in the heap -/
theorem vx_lt {D : va_G} {cl : List vw_C} {ws : va_W} {H1 : Heap} (h : va_P D cl ws H1) {k : Nat} {q : Nat × va_E} (hk : ws[k]? = some q) : q.1 < H1.size := (h k q hk).lt
end VXS
/-! ===== END ===== -/
/-! ===== BEGIN methods with a table of their own: called by a name, returning or throwing ===== -/
section VXH
/-! vx_backW, vx_callVX, vx_callSX, vx_callVW, vx_runVW, vx_runVX, vx_runSX, vx_ofWH follow the same proofs as their sisters above (Free/Laws.lean, Shelf42/LK1.lean); vx_outP calls Shelf42/NT130.lean (outThrough). -/
section
variable {l : Launch} {R : Room} {p : Program} {e : Env} {below : List Frame} {s : State} {sargs : Array Value} {y : MethodName} {len W9 : Nat}
theorem vx_backW {ws : List Cond} {rm : Room} {Pc : Array Value → State → Prop} {Qc : Array Value → State → Outcome → State → Prop} {XC : String → State → State → Prop} {mc ms : Nat} {free : Addr → Prop} {bytes : ByteArray} {maxL : Nat} {ret : Option FieldType} {hh : List (Nat × Nat × Nat × Nat)}
    (hM : vx_Met l y ws rm Pc Qc XC mc ms free) (hblind : FrameBlind Pc) (hrc : rm.cells = mc) (hrs : rm.slots = ms)
    (hframes : rm.frames + 1 ≤ R.frames) (hlocals : W9 + (maxL + 11) + rm.locals ≤ R.locals)
    (hws : ∀ w ∈ ws, ∀ a' U, s.WarmedH U.vm → w.before a' U = true) (hcode : Cond.codeWith y bytes maxL ret hh ∈ ws) (hinit : ∀ a' U, s.WarmedH U.vm → (Cond.initialized y.cls).before a' U = true) :
    vx_Back l R p e below s sargs y len W9 (PreOf R mc ms Pc) (PostOf Qc mc ms free) (vx_Post XC mc ms free) := by
  intro m meth c A g ig mk a X hg hsize hdg hW hn hp
  have h1 : (headSpec ws rm).pre.before a A.U = true := atoms_intro fun w hw => hws w hw _ _ X.warmed
  have h2 : (Cond.codeWith y bytes maxL ret hh).before a A.U = true := hws _ hcode _ _ X.warmed
  have h3 : (Cond.initialized y.cls).before a A.U = true := hinit _ _ X.warmed
  have h4 : A.cells + (headSpec ws rm).room.cells ≤ R.cells := by rw [show (headSpec ws rm).room.cells = mc from hrc]; exact hp.1
  have h5 : A.slots + (headSpec ws rm).room.slots ≤ R.slots := by rw [show (headSpec ws rm).room.slots = ms from hrs]; exact hp.2.1
  have hPc : Pc a (A.U.calling g mk a) := hblind _ _ _ _ hp.2.2
  obtain ⟨U, Ls, c0, s0⟩ := A
  dsimp only [Pt.U, Pt.locs, Pt.cells, Pt.slots] at h1 h2 h3 h4 h5 X hn hPc ⊢
  obtain ⟨m9, methY, cY, hn9, hmY, hcY, -, hlY, -⟩ := Cond.codeWith_spec h2
  cases Option.some.inj (hn9.symm.trans hn)
  obtain ⟨kY, hkY, -⟩ := className_of_methodNamed hn
  have hinitY : kY.init = .initialized := Cond.initialized_spec (findClass_of_methodNamed hn) hkY h3
  have h : At U g.method c below := by rw [hg]; exact X.here
  have hlocals9 : W9 + (maxL + 11) + (headSpec ws rm).room.locals ≤ R.locals := hlocals
  have happ : (headSpec ws rm).appliesLoose y e.platform (U.calling g mk a) = true :=
    Spec.appliesLoose_calling (g := g) h hdg hn hkY hinitY
      (X.room_calling (g := g) (R' := (headSpec ws rm).room) hsize hmY hcY hframes (by rw [hlY]; omega) h4 h5) h1
  obtain ⟨mid, hmid⟩ := h.above
  have hfr : (U.setTop g).frames = (.java g :: mid) ++ below := by rw [State.frames_setTop' g h.top, hmid]; rfl
  obtain ⟨o, s₂, hsteps, -, hend, hq⟩ := Steps.callFree hM p X.admits X.cas X.clock (acts := []) hfr happ hPc trivial
  have hq' : vx_Q Qc XC mc ms free a (U.calling g mk a) o s₂ := hq
  rw [State.frames_setTop' g h.top] at hend
  obtain ⟨g₀, hg0⟩ := Option.isSome_iff_exists.mp h.top
  obtain ⟨r, hr⟩ := State.topJava?_eq_some.mp hg0
  have hr' : (({ U with heap := s₂.heap, slotsUsed := s₂.slotsUsed } : State).setVm s₂.vm).frames = .java g₀ :: r := hr
  rcases hq' with ⟨hqc, L, hfe, hL⟩ | ⟨q, rfl, E, ce, L, hx, hce, hcv, hcl, hW₂, hsm, hL⟩
  · obtain ⟨⟨v, rfl⟩, hW₂, e2, q2, q3, q4, q5, q6⟩ := id hfe
    have e3 : s₂ = ({ (U.calling g mk a).setFrames s₂.frames with heap := s₂.heap, slotsUsed := s₂.slotsUsed } : State).setVm s₂.vm := by
      have : s₂ = ({ s₂ with vm := (U.calling g mk a).vm } : State).setVm s₂.vm := rfl
      rw [e2] at this
      exact this
    obtain ⟨c₂, i₂, len₂, hc₂, hd₂, hf₂⟩ := hend
    have hW' : U.WarmedH s₂.vm := hW₂
    have hcc : c₂ = c := by
      have h1 : s₂.code? g.method = U.code? g.method := by
        rw [State.code?_eq, State.code?_eq, hW'.alike.method?]
      exact Option.some.inj (hc₂.symm.trans (h1.trans h.code))
    subst hcc
    have hlen : len₂ = len := by rw [hdg] at hd₂; cases hd₂; rfl
    subst hlen
    have hs₂ : s₂ = (({ U with heap := s₂.heap, slotsUsed := s₂.slotsUsed } : State).setVm s₂.vm).setTop { g with pc := g.pc + len₂, stack := v.toList ++ g.stack } := by
      refine e3.trans ?_
      rw [hf₂, State.calling_eq h.top, State.setFrames_setFrames, State.setTop_of_frames _ hr', hr]
      rfl
    have hsame : U.sameButNew ({ U with heap := s₂.heap, slotsUsed := s₂.slotsUsed } : State) L mc ms := by
      refine ⟨?_, q2, q3, q4, q5, q6⟩
      obtain ⟨t, ht, -⟩ := State.frames_cons hr
      show ({ U with heap := s₂.heap, slotsUsed := s₂.slotsUsed } : State) = { U.setFrames U.frames with heap := s₂.heap, slotsUsed := s₂.slotsUsed }
      rw [State.setFrames_self ht]
    subst hg
    refine Or.inl ⟨v, ⟨(({ U with heap := s₂.heap, slotsUsed := s₂.slotsUsed } : State).setVm s₂.vm), Ls ++ L, c0 + mc, s0 + ms⟩,
      ⟨X.admits, X.cas, X.clock, X.frames, X.room, X.hears, X.method, X.code, (X.here.setHeapUsed s₂.heap s₂.slotsUsed).setVm hW'.alike, X.tail, State.WarmedH.trans X.warmed hW', X.limits, X.bytes, X.same.trans (hsame.setVm s.vm)⟩,
      ⟨g, mk, s₂, L, rfl, rfl, hqc, rfl, hL, rfl, rfl⟩, ?_⟩
    show Steps p.tables e below _ ((({ U with heap := s₂.heap, slotsUsed := s₂.slotsUsed } : State).setVm s₂.vm).setTop { g with pc := g.pc + len₂, stack := v.toList ++ g.stack })
    rw [← hs₂]
    exact hsteps
  · obtain ⟨e2, q2, q3, q4, q5, q6⟩ := id hsm
    have e3 : s₂ = ({ (U.calling g mk a).setFrames s₂.frames with heap := s₂.heap, slotsUsed := s₂.slotsUsed } : State).setVm s₂.vm := by
      have : s₂ = ({ s₂ with vm := (U.calling g mk a).vm } : State).setVm s₂.vm := rfl
      rw [e2] at this
      exact this
    have hf₂ : s₂.frames = .throwing q :: .java g :: U.frames.tail := hend
    have hW' : U.WarmedH s₂.vm := hW₂
    have hs₂ : s₂ = ((({ U with heap := s₂.heap, slotsUsed := s₂.slotsUsed } : State).setVm s₂.vm).setTop g).pushFrame (.throwing q) := by
      refine e3.trans ?_
      rw [hf₂, State.calling_eq h.top, State.setFrames_setFrames, State.pushFrame, State.frames_setTop _ hr', State.setTop_of_frames _ hr', State.setFrames_setFrames, hr]
      rfl
    have hsame : U.sameButNew ({ U with heap := s₂.heap, slotsUsed := s₂.slotsUsed } : State) L mc ms := by
      refine ⟨?_, q2, q3, q4, q5, q6⟩
      obtain ⟨t, ht, -⟩ := State.frames_cons hr
      show ({ U with heap := s₂.heap, slotsUsed := s₂.slotsUsed } : State) = { U.setFrames U.frames with heap := s₂.heap, slotsUsed := s₂.slotsUsed }
      rw [State.setFrames_self ht]
    subst hg
    refine Or.inr ⟨q, ⟨(({ U with heap := s₂.heap, slotsUsed := s₂.slotsUsed } : State).setVm s₂.vm), Ls ++ L, c0 + mc, s0 + ms⟩,
      ⟨X.admits, X.cas, X.clock, X.frames, X.room, X.hears, X.method, X.code, (X.here.setHeapUsed s₂.heap s₂.slotsUsed).setVm hW'.alike, X.tail, State.WarmedH.trans X.warmed hW', X.limits, X.bytes, X.same.trans (hsame.setVm s.vm)⟩,
      ⟨g, mk, s₂, L, E, ce, rfl, rfl, hx, hce, hcv, hcl, rfl, hL, rfl, rfl⟩, ?_⟩
    show Steps p.tables e below _ (((({ U with heap := s₂.heap, slotsUsed := s₂.slotsUsed } : State).setVm s₂.vm).setTop g).pushFrame (.throwing q))
    rw [← hs₂]
    exact hsteps
end
variable {p : Program} {l : Launch} {e : Env} {R : Room} {s : State} {m : MethodId} {args : Array Value} {below : List Frame} {meth : Method} {c : Code} {T : State} {H : Heap} {locs : List Loc} {cells slots : Nat}
theorem vx_callVX (X : Stand p l e R s m args below meth c T locs cells slots) (hexec : p.tables.exec = Jvm.exec) {own C : String} {index : Nat} {y : MethodName} {bytes : ByteArray} {maxL : Nat} {ret : Option FieldType} {hh : List (Nat × Nat × Nat × Nat)}
    (hown : s.vm.findClass own = some m.cls) (hlink : (Cond.methodLink own index y).before args s = true) (hinst : (Cond.instanceMethod y).before args s = true) (hsel : (Cond.selects C y y).before args s = true)
    (hcode : (Cond.codeWith y bytes maxL ret hh).before args s = true) (hy : y.cls ≠ "java/lang/invoke/MethodHandle" ∧ y.cls ≠ "java/lang/invoke/VarHandle")
    {W9 : Nat} {Pre : Pt → Array Value → Prop} {Post : Pt → Array Value → Option Value → Pt → Prop} {PostX : Pt → Array Value → Addr → Pt → Prop} (hK : vx_Back l R p e below s args y 3 W9 Pre Post PostX)
    {b : Addr} {cellB : Cell} (hcell : T.heap[b]? = some cellB) (hobj : cellB.vm.isStatics = false) (hcls : s.vm.findClass C = some cellB.cls)
    {g : JFrame} (hg : g.method = m) (hsize : g.locals.size = c.maxLocals) {argsL rest : List Value} (hlen : ∀ sig, parseMethodDescriptor y.desc = some sig → argsL.length = sig.parameters.length)
    (hstack : g.stack = argsL.reverse ++ .ref b :: rest) (hW : 2 * g.monitorRoom + (rest.map fun v => v.category).sum ≤ W9) (hdg : decode c.code g.pc = .ok (.invokevirtual index, 3))
    (hpre : ∀ vm₁, s.WarmedH vm₁ → Pre ⟨T.setVm vm₁, locs, cells, slots⟩ (Value.ref b :: argsL).toArray) :
    (∃ (v : Option Value) (vm₁ : Vm) (B : Pt), s.WarmedH vm₁ ∧ Stand p l e R s m args below meth c B.U B.locs B.cells B.slots ∧ Post ⟨T.setVm vm₁, locs, cells, slots⟩ (Value.ref b :: argsL).toArray v B ∧
      ∀ target, Steps p.tables e below (B.U.setTop { g with pc := g.pc + 3, stack := v.toList ++ rest }) target → Steps p.tables e below (T.setTop g) target) ∨
    (∃ (q : Addr) (vm₁ : Vm) (B : Pt), s.WarmedH vm₁ ∧ Stand p l e R s m args below meth c B.U B.locs B.cells B.slots ∧ PostX ⟨T.setVm vm₁, locs, cells, slots⟩ (Value.ref b :: argsL).toArray q B ∧
      Steps p.tables e below (T.setTop g) ((B.U.setTop { g with stack := rest }).pushFrame (.throwing q))) := by
  obtain ⟨mk, methM, hnamed, hmethM, hstM, habM⟩ := Cond.instanceMethod_spec hinst
  obtain ⟨m8, methM', cM, hn8, hmethM', -, -, -, -, -, -, hsigM⟩ := Cond.codeWith_spec hcode
  cases Option.some.inj (hn8.symm.trans hnamed)
  cases hmethM.symm.trans hmethM'
  obtain ⟨c2, r2, m2, q1, q2, q3, q4, kP, hkP, hkPi⟩ := Cond.selects_spec hsel
  cases hcls.symm.trans q1
  cases (State.methodFound?_of_named hnamed hy).symm.trans q2
  cases hnamed.symm.trans q3
  have hselP : selectMethod e.platform s.vm cellB.cls mk = .method mk := by rw [Launch.admits_selectMethod X.admits]; exact q4
  obtain ⟨vm₁, X₁, hstep₁⟩ := X.invokevirtual hexec hown hlink hnamed hmethM hstM hkP hkPi hy (a := b) (cell := cellB) hcell
    (fun z h => by rw [h] at hobj; cases hobj) hselP hmethM habM hkP hkPi (g := g) hg (argsL := argsL) (rest := rest) (hlen _ hsigM) hstack hdg
  rcases hK m meth c ⟨T.setVm vm₁, locs, cells, slots⟩ { g with stack := rest } (.invokevirtual index) mk (Value.ref b :: argsL).toArray X₁ hg hsize hdg hW (X₁.named hnamed) (hpre vm₁ X₁.warmed) with ⟨v, B, X', hpost, hsteps⟩ | ⟨q, B, X', hpost, hsteps⟩
  · exact Or.inl ⟨v, vm₁, B, X₁.warmed, X', hpost, fun target h => hstep₁ _ fun acts => by rw [doInvoke_state]; exact hsteps.trans h⟩
  · exact Or.inr ⟨q, vm₁, B, X₁.warmed, X', hpost, hstep₁ _ fun acts => by rw [doInvoke_state]; exact hsteps⟩
theorem vx_callSX (X : Stand p l e R s m args below meth c T locs cells slots) (hexec : p.tables.exec = Jvm.exec) {own : String} {index : Nat} {y : MethodName} {bytes : ByteArray} {maxL : Nat} {ret : Option FieldType} {hh : List (Nat × Nat × Nat × Nat)}
    (hown : s.vm.findClass own = some m.cls) (hlink : (Cond.methodLink own index y).before args s = true) (hstat : (Cond.static y).before args s = true) (hinit : (Cond.initialized y.cls).before args s = true)
    (hcode : (Cond.codeWith y bytes maxL ret hh).before args s = true) (hy : y.cls ≠ "java/lang/invoke/MethodHandle" ∧ y.cls ≠ "java/lang/invoke/VarHandle")
    {W9 : Nat} {Pre : Pt → Array Value → Prop} {Post : Pt → Array Value → Option Value → Pt → Prop} {PostX : Pt → Array Value → Addr → Pt → Prop} (hK : vx_Back l R p e below s args y 3 W9 Pre Post PostX)
    {g : JFrame} (hg : g.method = m) (hsize : g.locals.size = c.maxLocals) {argsL rest : List Value} (hlen : ∀ sig, parseMethodDescriptor y.desc = some sig → argsL.length = sig.parameters.length)
    (hstack : g.stack = argsL.reverse ++ rest) (hW : 2 * g.monitorRoom + (rest.map fun v => v.category).sum ≤ W9) (hdg : decode c.code g.pc = .ok (.invokestatic index, 3))
    (hpre : ∀ vm₁, s.WarmedH vm₁ → Pre ⟨T.setVm vm₁, locs, cells, slots⟩ argsL.toArray) :
    (∃ (v : Option Value) (vm₁ : Vm) (B : Pt), s.WarmedH vm₁ ∧ Stand p l e R s m args below meth c B.U B.locs B.cells B.slots ∧ Post ⟨T.setVm vm₁, locs, cells, slots⟩ argsL.toArray v B ∧
      ∀ target, Steps p.tables e below (B.U.setTop { g with pc := g.pc + 3, stack := v.toList ++ rest }) target → Steps p.tables e below (T.setTop g) target) ∨
    (∃ (q : Addr) (vm₁ : Vm) (B : Pt), s.WarmedH vm₁ ∧ Stand p l e R s m args below meth c B.U B.locs B.cells B.slots ∧ PostX ⟨T.setVm vm₁, locs, cells, slots⟩ argsL.toArray q B ∧
      Steps p.tables e below (T.setTop g) ((B.U.setTop { g with stack := rest }).pushFrame (.throwing q))) := by
  obtain ⟨mk, methM, cM, hnamed, hmethM, -, -, -, -, -, -, hsigM⟩ := Cond.codeWith_spec hcode
  have hstatic : methM.isStatic = true := Cond.static_spec hnamed hmethM hstat
  obtain ⟨kP, hkP, -⟩ := className_of_methodNamed hnamed
  have hinitP : kP.init = .initialized := Cond.initialized_spec (findClass_of_methodNamed hnamed) hkP hinit
  obtain ⟨vm₁, X₁, hstep₁⟩ := X.invokestatic hexec hown hlink hnamed hmethM hstatic hkP hinitP hy (g := g) hg (argsL := argsL) (rest := rest) (hlen _ hsigM) hstack hdg
  rcases hK m meth c ⟨T.setVm vm₁, locs, cells, slots⟩ { g with stack := rest } (.invokestatic index) mk argsL.toArray X₁ hg hsize hdg hW (X₁.named hnamed) (hpre vm₁ X₁.warmed) with ⟨v, B, X', hpost, hsteps⟩ | ⟨q, B, X', hpost, hsteps⟩
  · exact Or.inl ⟨v, vm₁, B, X₁.warmed, X', hpost, fun target h => hstep₁ _ fun acts => by rw [doInvoke_state]; exact hsteps.trans h⟩
  · exact Or.inr ⟨q, vm₁, B, X₁.warmed, X', hpost, hstep₁ _ fun acts => by rw [doInvoke_state]; exact hsteps⟩
theorem vx_callVW (X : Stand p l e R s m args below meth c T locs cells slots) (hexec : p.tables.exec = Jvm.exec) {own C : String} {index : Nat} {y : MethodName} {bytes : ByteArray} {maxL : Nat} {ret : Option FieldType} {hh : List (Nat × Nat × Nat × Nat)}
    (hown : s.vm.findClass own = some m.cls) (hlink : (Cond.methodLink own index y).before args s = true) (hinst : (Cond.instanceMethod y).before args s = true) (hsel : (Cond.selects C y y).before args s = true)
    (hcode : (Cond.codeWith y bytes maxL ret hh).before args s = true) (hy : y.cls ≠ "java/lang/invoke/MethodHandle" ∧ y.cls ≠ "java/lang/invoke/VarHandle")
    {W9 : Nat} {Pre : Pt → Array Value → Prop} {Post : Pt → Array Value → Option Value → Pt → Prop} (hK : Back l R p e below s args y 3 W9 Pre Post)
    {b : Addr} {cellB : Cell} (hcell : T.heap[b]? = some cellB) (hobj : cellB.vm.isStatics = false) (hcls : s.vm.findClass C = some cellB.cls)
    {g : JFrame} (hg : g.method = m) (hsize : g.locals.size = c.maxLocals) {argsL rest : List Value} (hlen : ∀ sig, parseMethodDescriptor y.desc = some sig → argsL.length = sig.parameters.length)
    (hstack : g.stack = argsL.reverse ++ .ref b :: rest) (hW : 2 * g.monitorRoom + (rest.map fun v => v.category).sum ≤ W9) (hdg : decode c.code g.pc = .ok (.invokevirtual index, 3))
    (hpre : ∀ vm₁, s.WarmedH vm₁ → Pre ⟨T.setVm vm₁, locs, cells, slots⟩ (Value.ref b :: argsL).toArray) :
    ∃ (v : Option Value) (vm₁ : Vm) (B : Pt), s.WarmedH vm₁ ∧ Stand p l e R s m args below meth c B.U B.locs B.cells B.slots ∧ Post ⟨T.setVm vm₁, locs, cells, slots⟩ (Value.ref b :: argsL).toArray v B ∧
      ∀ target, Steps p.tables e below (B.U.setTop { g with pc := g.pc + 3, stack := v.toList ++ rest }) target → Steps p.tables e below (T.setTop g) target := by
  obtain ⟨mk, methM, hnamed, hmethM, hstM, habM⟩ := Cond.instanceMethod_spec hinst
  obtain ⟨m8, methM', cM, hn8, hmethM', -, -, -, -, -, -, hsigM⟩ := Cond.codeWith_spec hcode
  cases Option.some.inj (hn8.symm.trans hnamed)
  cases hmethM.symm.trans hmethM'
  obtain ⟨c2, r2, m2, q1, q2, q3, q4, kP, hkP, hkPi⟩ := Cond.selects_spec hsel
  cases hcls.symm.trans q1
  cases (State.methodFound?_of_named hnamed hy).symm.trans q2
  cases hnamed.symm.trans q3
  have hselP : selectMethod e.platform s.vm cellB.cls mk = .method mk := by rw [Launch.admits_selectMethod X.admits]; exact q4
  obtain ⟨vm₁, X₁, hstep₁⟩ := X.invokevirtual hexec hown hlink hnamed hmethM hstM hkP hkPi hy (a := b) (cell := cellB) hcell
    (fun z h => by rw [h] at hobj; cases hobj) hselP hmethM habM hkP hkPi (g := g) hg (argsL := argsL) (rest := rest) (hlen _ hsigM) hstack hdg
  obtain ⟨v, B, X', hpost, hsteps⟩ := hK m meth c ⟨T.setVm vm₁, locs, cells, slots⟩ { g with stack := rest } (.invokevirtual index) mk (Value.ref b :: argsL).toArray X₁ hg hsize hdg hW (X₁.named hnamed) (hpre vm₁ X₁.warmed)
  exact ⟨v, vm₁, B, X₁.warmed, X', hpost, fun target h => hstep₁ _ fun acts => by rw [doInvoke_state]; exact hsteps.trans h⟩
abbrev vx_CVW (R : Room) (s : State) (args : Array Value) (own C : String) (index : Nat) (y : MethodName) (bytes : ByteArray) (maxL : Nat) (ret : Option FieldType) (hh : List (Nat × Nat × Nat × Nat)) (ws : List Cond) (rm : Room) (mc ms n : Nat) : Prop :=
  (rm.cells = mc ∧ rm.slots = ms ∧ rm.frames + 1 ≤ R.frames ∧ 8 + (maxL + 11) + rm.locals ≤ R.locals ∧ (∀ w ∈ ws, ∀ (a' : Array Value) (U : State), s.WarmedH U.vm → w.before a' U = true) ∧ Cond.codeWith y bytes maxL ret hh ∈ ws) ∧
  (Cond.codeWith y bytes maxL ret hh).before args s = true ∧ (Cond.initialized y.cls).before args s = true ∧ (y.cls ≠ "java/lang/invoke/MethodHandle" ∧ y.cls ≠ "java/lang/invoke/VarHandle") ∧
  (∀ sig, parseMethodDescriptor y.desc = some sig → n = sig.parameters.length) ∧ (Cond.methodLink own index y).before args s = true ∧ (Cond.instanceMethod y).before args s = true ∧ (Cond.selects C y y).before args s = true
theorem vx_cwVW {own C : String} {index maxL mc ms : Nat} {y : MethodName} {bytes : ByteArray} {ret : Option FieldType} {hh : List (Nat × Nat × Nat × Nat)} {Ts ws ws' : List Cond} {rm : Room} (n : Nat) (ht : ∀ w ∈ Ts, w.before args s = true) (hT : GoodIn Ts (wsV own index C y ws)) (hw : ws = Cond.codeWith y bytes maxL ret hh :: ws') (hrc : rm.cells = mc) (hrs : rm.slots = ms)
    (hd : y.cls = C ∧ y.cls ≠ "java/lang/invoke/MethodHandle" ∧ y.cls ≠ "java/lang/invoke/VarHandle" ∧ (parseMethodDescriptor y.desc).map (fun d => d.parameters.length) = some n) (hR : rm.frames + 1 ≤ R.frames ∧ 8 + (maxL + 11) + rm.locals ≤ R.locals) :
    vx_CVW R s args own C index y bytes maxL ret hh ws rm mc ms n := by
  obtain ⟨hC, hd⟩ := hd
  subst hC
  have ok : ∀ w ∈ wsV own index y.cls y ws, w.before args s = true := fun w h => ht w (hT w h).1
  have hG : GoodIn Ts ws := fun w h => hT w (by unfold wsV; exact List.mem_append_right _ h)
  have hc : Cond.codeWith y bytes maxL ret hh ∈ ws := by rw [hw]; exact List.mem_cons_self
  refine ⟨⟨hrc, hrs, hR.1, hR.2, pay_in ht hG, hc⟩, ht _ (hG _ hc).1, ok _ (by simp [wsV]), ⟨hd.1, hd.2.1⟩, fun sig h => ?_, ok _ (by simp [wsV]), ok _ (by simp [wsV]), ok _ (by simp [wsV])⟩
  have h2 := hd.2.2
  rw [h] at h2
  exact (Option.some.inj h2).symm
theorem vx_runVW {y : MethodName} {bytes cc : ByteArray} {maxL nL mc ms n index : Nat} {ret : Option FieldType} {hh : List (Nat × Nat × Nat × Nat)} {ws : List Cond} {rm : Room} {Pc : Array Value → State → Prop} {Qc : Array Value → State → Outcome → State → Prop} {free : Addr → Prop} {Ts : List Cond} {own C : String} {b : Addr} {As rest : List Value} {g : JFrame}
    (S : CallFix p m c cc nL s args Ts own) (hM : Met l y ws rm Pc Qc mc ms free) (cw : vx_CVW R s args own C index y bytes maxL ret hh ws rm mc ms n) (hp : PreV s H C b Pc As)
    (hg : g.method = m) (hn : As.length = n) (hsize : g.locals.size = nL) (hstack : g.stack = As.reverse ++ .ref b :: rest) (hW : 2 * g.monitorRoom + (rest.map fun v => v.category).sum ≤ 8) (hdg : decode cc g.pc = .ok (.invokevirtual index, 3)) (hf : cells + mc ≤ R.cells ∧ slots + ms ≤ R.slots) :
    va_Run p l e R s m args below meth c H locs cells slots mc ms g rest (Qc (Value.ref b :: As).toArray) free := by
  obtain ⟨⟨hrc, hrs, hfr, hlo, hws, hcw⟩, hcode, hini, hy, hlen, hl, hin, hse⟩ := cw
  have hK : Back l R p e below s args y 3 8 (PreOf R mc ms Pc) (PostOf Qc mc ms free) := va_backW (hh := hh) (bytes := bytes) (maxL := maxL) (ret := ret) hM hp.1 hrc hrs hfr hlo hws hcw (fun a' U hW => word_at hW (Or.inl (by first | rfl | simp [Cond.onTables, Cond.keeps, Cond.steady])) hini)
  obtain ⟨hx, hb, hml, ho, -⟩ := S
  obtain ⟨-, ⟨cellB, hcB, hoB, hclB⟩, hPc⟩ := hp
  intro T hT X
  obtain ⟨v, vm₁, ⟨U', l2, c2, s2⟩, hW₁, X', ⟨g', mk, t, L, e1, e2, hq, h1, hL, h2, h3⟩, st⟩ := vx_callVW X hx (C := C) (hh := hh) (bytes := bytes) (maxL := maxL) (ret := ret) ho hl hin hse hcode hy hK (by rw [hT]; exact hcB) hoB hclB hg (hsize.trans hml.symm) (argsL := As) (rest := rest) (fun sig h => hn.trans (hlen sig h)) hstack hW (by rw [hb]; exact hdg)
    (fun vm₁ hW₁ => ⟨hf.1, hf.2, hPc (T.setVm vm₁) hT hW₁⟩)
  dsimp only [Pt.U, Pt.locs, Pt.cells, Pt.slots] at X' e1 e2 h1 h2 h3 st
  subst h1; subst h2; subst h3
  exact ⟨v, (T.setVm vm₁).calling g' mk (Value.ref b :: As).toArray, t, U', L, hT, X', hL, e1, e2, hq, st⟩
section
variable {y : MethodName} {bytes cc : ByteArray} {maxL nL mc ms n index : Nat} {ret : Option FieldType} {ws : List Cond} {rm : Room} {Pc : Array Value → State → Prop} {Qc : Array Value → State → Outcome → State → Prop} {XC : String → State → State → Prop} {free : Addr → Prop} {Ts : List Cond} {own C : String} {b : Addr} {As rest : List Value} {g : JFrame}
theorem vx_runVX {hh : List (Nat × Nat × Nat × Nat)} (S : CallFix p m c cc nL s args Ts own) (hM : vx_Met l y ws rm Pc Qc XC mc ms free) (cw : vx_CVW R s args own C index y bytes maxL ret hh ws rm mc ms n) (hp : PreV s H C b Pc As)
    (hg : g.method = m) (hn : As.length = n) (hsize : g.locals.size = nL) (hstack : g.stack = As.reverse ++ .ref b :: rest) (hW : 2 * g.monitorRoom + (rest.map fun v => v.category).sum ≤ 8) (hdg : decode cc g.pc = .ok (.invokevirtual index, 3)) (hf : cells + mc ≤ R.cells ∧ slots + ms ≤ R.slots) :
    vx_Run p l e R s m args below meth c H locs cells slots mc ms g rest (Qc (Value.ref b :: As).toArray) XC free := by
  obtain ⟨⟨hrc, hrs, hfr, hlo, hws, hcw⟩, hcode, hini, hy, hlen, hl, hin, hse⟩ := cw
  have hK : vx_Back l R p e below s args y 3 8 (PreOf R mc ms Pc) (PostOf Qc mc ms free) (vx_Post XC mc ms free) := vx_backW (hh := hh) (bytes := bytes) (maxL := maxL) (ret := ret) hM hp.1 hrc hrs hfr hlo hws hcw (fun a' U hW => word_at hW (Or.inl (by first | rfl | simp [Cond.onTables, Cond.keeps, Cond.steady])) hini)
  obtain ⟨hx, hb, hml, ho, -⟩ := S
  obtain ⟨-, ⟨cellB, hcB, hoB, hclB⟩, hPc⟩ := hp
  intro T hT X
  rcases vx_callVX X hx (C := C) (hh := hh) (bytes := bytes) (maxL := maxL) (ret := ret) ho hl hin hse hcode hy hK (by rw [hT]; exact hcB) hoB hclB hg (hsize.trans hml.symm) (argsL := As) (rest := rest) (fun sig h => hn.trans (hlen sig h)) hstack hW (by rw [hb]; exact hdg)
    (fun vm₁ hW₁ => ⟨hf.1, hf.2, hPc (T.setVm vm₁) hT hW₁⟩) with ⟨v, vm₁, ⟨U', l2, c2, s2⟩, hW₁, X', ⟨g', mk, t, L, e1, e2, hq, h1, hL, h2, h3⟩, st⟩ | ⟨q, vm₁, ⟨U', l2, c2, s2⟩, hW₁, X', ⟨g', mk, t, L, E, ce, e1, e2, hq, hce, hcv, hcl, h1, hL, h2, h3⟩, st⟩
  · dsimp only [Pt.U, Pt.locs, Pt.cells, Pt.slots] at X' e1 e2 h1 h2 h3 st
    subst h1; subst h2; subst h3
    exact Or.inl ⟨v, (T.setVm vm₁).calling g' mk (Value.ref b :: As).toArray, t, U', L, hT, X', hL, e1, e2, hq, st⟩
  · dsimp only [Pt.U, Pt.locs, Pt.cells, Pt.slots] at X' e1 e2 h1 h2 h3 st hcl
    subst h1; subst h2; subst h3
    exact Or.inr ⟨q, (T.setVm vm₁).calling g' mk (Value.ref b :: As).toArray, t, U', L, E, ce, hT, X', hL, e1, e2, hq, hce, hcv, vx_cls hW₁ hcl, st⟩
theorem vx_runSX {hh : List (Nat × Nat × Nat × Nat)} (S : CallFix p m c cc nL s args Ts own) (hM : vx_Met l y ws rm Pc Qc XC mc ms free) (cw : vx_CSW R s args own index y bytes maxL ret hh ws rm mc ms n) (hp : PreS s H Pc As)
    (hg : g.method = m) (hn : As.length = n) (hsize : g.locals.size = nL) (hstack : g.stack = As.reverse ++ rest) (hW : 2 * g.monitorRoom + (rest.map fun v => v.category).sum ≤ 8) (hdg : decode cc g.pc = .ok (.invokestatic index, 3)) (hf : cells + mc ≤ R.cells ∧ slots + ms ≤ R.slots) :
    vx_Run p l e R s m args below meth c H locs cells slots mc ms g rest (Qc As.toArray) XC free := by
  obtain ⟨⟨hrc, hrs, hfr, hlo, hws, hcw⟩, hcode, hini, hy, hlen, hl, hstt⟩ := cw
  have hK : vx_Back l R p e below s args y 3 8 (PreOf R mc ms Pc) (PostOf Qc mc ms free) (vx_Post XC mc ms free) := vx_backW (hh := hh) (bytes := bytes) (maxL := maxL) (ret := ret) hM hp.1 hrc hrs hfr hlo hws hcw (fun a' U hW => word_at hW (Or.inl (by first | rfl | simp [Cond.onTables, Cond.keeps, Cond.steady])) hini)
  obtain ⟨hx, hb, hml, ho, -⟩ := S
  intro T hT X
  rcases vx_callSX X hx (hh := hh) (bytes := bytes) (maxL := maxL) (ret := ret) ho hl hstt hini hcode hy hK hg (hsize.trans hml.symm) (argsL := As) (rest := rest) (fun sig h => hn.trans (hlen sig h)) hstack hW (by rw [hb]; exact hdg)
    (fun vm₁ hW₁ => ⟨hf.1, hf.2, hp.2 (T.setVm vm₁) hT hW₁⟩) with ⟨v, vm₁, ⟨U', l2, c2, s2⟩, hW₁, X', ⟨g', mk, t, L, e1, e2, hq, h1, hL, h2, h3⟩, st⟩ | ⟨q, vm₁, ⟨U', l2, c2, s2⟩, hW₁, X', ⟨g', mk, t, L, E, ce, e1, e2, hq, hce, hcv, hcl, h1, hL, h2, h3⟩, st⟩
  · dsimp only [Pt.U, Pt.locs, Pt.cells, Pt.slots] at X' e1 e2 h1 h2 h3 st
    subst h1; subst h2; subst h3
    exact Or.inl ⟨v, (T.setVm vm₁).calling g' mk As.toArray, t, U', L, hT, X', hL, e1, e2, hq, st⟩
  · dsimp only [Pt.U, Pt.locs, Pt.cells, Pt.slots] at X' e1 e2 h1 h2 h3 st hcl
    subst h1; subst h2; subst h3
    exact Or.inr ⟨q, (T.setVm vm₁).calling g' mk As.toArray, t, U', L, E, ce, hT, X', hL, e1, e2, hq, hce, hcv, vx_cls hW₁ hcl, st⟩
end
end VXH
theorem vx_ofWH {l : Launch} {y : MethodName} {ws ws' : List Cond} {rm : Room} {Pc : Array Value → State → Prop} {Qc : Array Value → State → Outcome → State → Prop} {XC : String → State → State → Prop} {mc ms : Nat} {free : Addr → Prop} {cc : ByteArray} {maxL : Nat} {ret : Option FieldType} {hh : List (Nat × Nat × Nat × Nat)}
    (hy : plainName y.cls = true) (hw : ws = Cond.codeWith y cc maxL ret hh :: ws')
    (body : ∀ p e s m args below meth c s₁, BodyLoose p l y (headSpec ws rm) cc maxL ret e s m args below meth c s₁ → c.maxLocals = maxL → Pc args s →
      W p l e (headSpec ws rm).room s m args below meth c s.heap [] 0 0 (vx_MQ below Qc XC args s mc ms free) (entryFrame m args maxL)) : vx_Met l y ws rm Pc Qc XC mc ms free := by
  refine MetFree.of_bodyS (code := cc) (maxLocals := maxL) (ret := ret) hy ?_ ?_
  · intro args s m h hn
    obtain ⟨m9, meth, c, hn9, h1, h2, h3, h4, -, h5, h6, -⟩ := Cond.codeWith_spec (atoms_spec (ws := ws) h _ (by rw [hw]; exact List.mem_cons_self))
    cases hn.symm.trans hn9
    exact ⟨meth, c, h1, h2, h3, h4, h5, h6⟩
  · intro p e s m args below meth c s₁ B hml hP _
    have hh0 : s₁.heap = s.heap := by rw [B.state]; rfl
    obtain ⟨t, a1, o, b1, b2, b3⟩ := body p e s m args below meth c s₁ B hml hP s₁ hh0 (Stand.of_body B)
    exact ⟨t, o, a1, b1, b2, b3⟩
/-! ===== END ===== -/
end
section
-- pasted: PART A of the skeleton
-- ===== PART A: goes FIRST, ahead of the names: the tables' words, and 'selects' of the private methods out of them =====
/-- a private method of a class that the tables say can be made, by its rows of tables_1 -/
def lw_okq (q : MethodName × Nat) : Prop := (q.1.cls ≠ "java/lang/invoke/MethodHandle" ∧ q.1.cls ≠ "java/lang/invoke/VarHandle") ∧ Cond.instantiable q.1.cls q.2 ∈ tables_1 ∧ Cond.privateMethod q.1 ∈ tables_1 ∧ Cond.instanceMethod q.1 ∈ tables_1
theorem lw_p0 : lw_okq (⟨"WordTongue$Scanner", "know", "(Ljava/lang/String;)V"⟩, 11) := ⟨⟨by decide +kernel, by decide +kernel⟩, List.mem_of_getElem? (i := 127) (by decide +kernel), List.mem_of_getElem? (i := 137) (by decide +kernel), List.mem_of_getElem? (i := 138) (by decide +kernel)⟩
theorem lw_p1 : lw_okq (⟨"WordTongue$Scanner", "idOf", "(LWordTongue$Ints;II)I"⟩, 11) := ⟨⟨by decide +kernel, by decide +kernel⟩, List.mem_of_getElem? (i := 127) (by decide +kernel), List.mem_of_getElem? (i := 193) (by decide +kernel), List.mem_of_getElem? (i := 194) (by decide +kernel)⟩
theorem lw_p2 : lw_okq (⟨"WordTongue$Scanner", "isAlike", "(ILWordTongue$Ints;II)Z"⟩, 11) := ⟨⟨by decide +kernel, by decide +kernel⟩, List.mem_of_getElem? (i := 127) (by decide +kernel), List.mem_of_getElem? (i := 201) (by decide +kernel), List.mem_of_getElem? (i := 202) (by decide +kernel)⟩
theorem lw_p3 : lw_okq (⟨"WordTongue", "addBytes", "(I)V"⟩, 10) := ⟨⟨by decide +kernel, by decide +kernel⟩, List.mem_of_getElem? (i := 28) (by decide +kernel), List.mem_of_getElem? (i := 599) (by decide +kernel), List.mem_of_getElem? (i := 600) (by decide +kernel)⟩
theorem lw_p4 : lw_okq (⟨"WordTongue$Scanner", "pass", "()V"⟩, 11) := ⟨⟨by decide +kernel, by decide +kernel⟩, List.mem_of_getElem? (i := 127) (by decide +kernel), List.mem_of_getElem? (i := 628) (by decide +kernel), List.mem_of_getElem? (i := 629) (by decide +kernel)⟩
theorem lw_p5 : lw_okq (⟨"WordTongue$Scanner", "skipLine", "()V"⟩, 11) := ⟨⟨by decide +kernel, by decide +kernel⟩, List.mem_of_getElem? (i := 127) (by decide +kernel), List.mem_of_getElem? (i := 632) (by decide +kernel), List.mem_of_getElem? (i := 633) (by decide +kernel)⟩
theorem lw_p6 : lw_okq (⟨"WordTongue$Scanner", "put", "(III)V"⟩, 11) := ⟨⟨by decide +kernel, by decide +kernel⟩, List.mem_of_getElem? (i := 127) (by decide +kernel), List.mem_of_getElem? (i := 636) (by decide +kernel), List.mem_of_getElem? (i := 637) (by decide +kernel)⟩
theorem lw_p7 : lw_okq (⟨"WordTongue$Scanner", "token", "()V"⟩, 11) := ⟨⟨by decide +kernel, by decide +kernel⟩, List.mem_of_getElem? (i := 127) (by decide +kernel), List.mem_of_getElem? (i := 651) (by decide +kernel), List.mem_of_getElem? (i := 652) (by decide +kernel)⟩
theorem lw_p8 : lw_okq (⟨"WordTongue$Scanner", "name", "(I)V"⟩, 11) := ⟨⟨by decide +kernel, by decide +kernel⟩, List.mem_of_getElem? (i := 127) (by decide +kernel), List.mem_of_getElem? (i := 658) (by decide +kernel), List.mem_of_getElem? (i := 659) (by decide +kernel)⟩
theorem lw_p9 : lw_okq (⟨"WordTongue$Scanner", "restEnd", "(I)I"⟩, 11) := ⟨⟨by decide +kernel, by decide +kernel⟩, List.mem_of_getElem? (i := 127) (by decide +kernel), List.mem_of_getElem? (i := 662) (by decide +kernel), List.mem_of_getElem? (i := 663) (by decide +kernel)⟩
theorem lw_p10 : lw_okq (⟨"WordTongue$Scanner", "number", "(III)V"⟩, 11) := ⟨⟨by decide +kernel, by decide +kernel⟩, List.mem_of_getElem? (i := 127) (by decide +kernel), List.mem_of_getElem? (i := 672) (by decide +kernel), List.mem_of_getElem? (i := 673) (by decide +kernel)⟩
theorem lw_p11 : lw_okq (⟨"WordTongue$Scanner", "quoted", "(I)I"⟩, 11) := ⟨⟨by decide +kernel, by decide +kernel⟩, List.mem_of_getElem? (i := 127) (by decide +kernel), List.mem_of_getElem? (i := 684) (by decide +kernel), List.mem_of_getElem? (i := 685) (by decide +kernel)⟩
theorem lw_p12 : lw_okq (⟨"WordTongue$Scanner", "string", "(I)V"⟩, 11) := ⟨⟨by decide +kernel, by decide +kernel⟩, List.mem_of_getElem? (i := 127) (by decide +kernel), List.mem_of_getElem? (i := 688) (by decide +kernel), List.mem_of_getElem? (i := 689) (by decide +kernel)⟩
theorem lw_p13 : lw_okq (⟨"WordTongue$Scanner", "section", "(I)V"⟩, 11) := ⟨⟨by decide +kernel, by decide +kernel⟩, List.mem_of_getElem? (i := 127) (by decide +kernel), List.mem_of_getElem? (i := 696) (by decide +kernel), List.mem_of_getElem? (i := 697) (by decide +kernel)⟩
theorem lw_p14 : lw_okq (⟨"WordTongue$Scanner", "sign", "(II)V"⟩, 11) := ⟨⟨by decide +kernel, by decide +kernel⟩, List.mem_of_getElem? (i := 127) (by decide +kernel), List.mem_of_getElem? (i := 700) (by decide +kernel), List.mem_of_getElem? (i := 701) (by decide +kernel)⟩
theorem lw_p15 : lw_okq (⟨"WordTongue$Parser", "text", "()I"⟩, 12) := ⟨⟨by decide +kernel, by decide +kernel⟩, List.mem_of_getElem? (i := 271) (by decide +kernel), List.mem_of_getElem? (i := 727) (by decide +kernel), List.mem_of_getElem? (i := 728) (by decide +kernel)⟩
def lw_privs_1 : List (MethodName × Nat) := [(⟨"WordTongue$Scanner", "know", "(Ljava/lang/String;)V"⟩, 11), (⟨"WordTongue$Scanner", "idOf", "(LWordTongue$Ints;II)I"⟩, 11), (⟨"WordTongue$Scanner", "isAlike", "(ILWordTongue$Ints;II)Z"⟩, 11), (⟨"WordTongue", "addBytes", "(I)V"⟩, 10), (⟨"WordTongue$Scanner", "pass", "()V"⟩, 11), (⟨"WordTongue$Scanner", "skipLine", "()V"⟩, 11), (⟨"WordTongue$Scanner", "put", "(III)V"⟩, 11), (⟨"WordTongue$Scanner", "token", "()V"⟩, 11), (⟨"WordTongue$Scanner", "name", "(I)V"⟩, 11), (⟨"WordTongue$Scanner", "restEnd", "(I)I"⟩, 11), (⟨"WordTongue$Scanner", "number", "(III)V"⟩, 11), (⟨"WordTongue$Scanner", "quoted", "(I)I"⟩, 11), (⟨"WordTongue$Scanner", "string", "(I)V"⟩, 11), (⟨"WordTongue$Scanner", "section", "(I)V"⟩, 11), (⟨"WordTongue$Scanner", "sign", "(II)V"⟩, 11), (⟨"WordTongue$Parser", "text", "()I"⟩, 12)]
theorem lw_r1 : ∀ q ∈ lw_privs_1, lw_okq q := List.forall_mem_cons.mpr ⟨lw_p0, List.forall_mem_cons.mpr ⟨lw_p1, List.forall_mem_cons.mpr ⟨lw_p2, List.forall_mem_cons.mpr ⟨lw_p3, List.forall_mem_cons.mpr ⟨lw_p4, List.forall_mem_cons.mpr ⟨lw_p5, List.forall_mem_cons.mpr ⟨lw_p6, List.forall_mem_cons.mpr ⟨lw_p7, List.forall_mem_cons.mpr ⟨lw_p8, List.forall_mem_cons.mpr ⟨lw_p9, List.forall_mem_cons.mpr ⟨lw_p10, List.forall_mem_cons.mpr ⟨lw_p11, List.forall_mem_cons.mpr ⟨lw_p12, List.forall_mem_cons.mpr ⟨lw_p13, List.forall_mem_cons.mpr ⟨lw_p14, List.forall_mem_cons.mpr ⟨lw_p15, fun _ h => absurd h List.not_mem_nil⟩⟩⟩⟩⟩⟩⟩⟩⟩⟩⟩⟩⟩⟩⟩⟩
theorem lw_p16 : lw_okq (⟨"WordTongue$Parser", "place", "()I"⟩, 12) := ⟨⟨by decide +kernel, by decide +kernel⟩, List.mem_of_getElem? (i := 271) (by decide +kernel), List.mem_of_getElem? (i := 731) (by decide +kernel), List.mem_of_getElem? (i := 732) (by decide +kernel)⟩
theorem lw_p17 : lw_okq (⟨"WordTongue$Parser", "declaration", "(Z)I"⟩, 12) := ⟨⟨by decide +kernel, by decide +kernel⟩, List.mem_of_getElem? (i := 271) (by decide +kernel), List.mem_of_getElem? (i := 737) (by decide +kernel), List.mem_of_getElem? (i := 738) (by decide +kernel)⟩
theorem lw_p18 : lw_okq (⟨"WordTongue$Parser", "kind", "()I"⟩, 12) := ⟨⟨by decide +kernel, by decide +kernel⟩, List.mem_of_getElem? (i := 271) (by decide +kernel), List.mem_of_getElem? (i := 741) (by decide +kernel), List.mem_of_getElem? (i := 742) (by decide +kernel)⟩
theorem lw_p19 : lw_okq (⟨"WordTongue$Parser", "definitions", "(Z)I"⟩, 12) := ⟨⟨by decide +kernel, by decide +kernel⟩, List.mem_of_getElem? (i := 271) (by decide +kernel), List.mem_of_getElem? (i := 745) (by decide +kernel), List.mem_of_getElem? (i := 746) (by decide +kernel)⟩
theorem lw_p20 : lw_okq (⟨"WordTongue$Parser", "leaf", "(I)I"⟩, 12) := ⟨⟨by decide +kernel, by decide +kernel⟩, List.mem_of_getElem? (i := 271) (by decide +kernel), List.mem_of_getElem? (i := 749) (by decide +kernel), List.mem_of_getElem? (i := 750) (by decide +kernel)⟩
theorem lw_p21 : lw_okq (⟨"WordTongue$Parser", "info", "()I"⟩, 12) := ⟨⟨by decide +kernel, by decide +kernel⟩, List.mem_of_getElem? (i := 271) (by decide +kernel), List.mem_of_getElem? (i := 753) (by decide +kernel), List.mem_of_getElem? (i := 754) (by decide +kernel)⟩
theorem lw_p22 : lw_okq (⟨"WordTongue$Parser", "advance", "()V"⟩, 12) := ⟨⟨by decide +kernel, by decide +kernel⟩, List.mem_of_getElem? (i := 271) (by decide +kernel), List.mem_of_getElem? (i := 757) (by decide +kernel), List.mem_of_getElem? (i := 758) (by decide +kernel)⟩
theorem lw_p23 : lw_okq (⟨"WordTongue$Parser", "open", "()V"⟩, 12) := ⟨⟨by decide +kernel, by decide +kernel⟩, List.mem_of_getElem? (i := 271) (by decide +kernel), List.mem_of_getElem? (i := 761) (by decide +kernel), List.mem_of_getElem? (i := 762) (by decide +kernel)⟩
theorem lw_p24 : lw_okq (⟨"WordTongue$Parser", "refuse", "()V"⟩, 12) := ⟨⟨by decide +kernel, by decide +kernel⟩, List.mem_of_getElem? (i := 271) (by decide +kernel), List.mem_of_getElem? (i := 765) (by decide +kernel), List.mem_of_getElem? (i := 766) (by decide +kernel)⟩
theorem lw_p25 : lw_okq (⟨"java/lang/Throwable", "fillInStackTrace", "(I)Ljava/lang/Throwable;"⟩, 6) := ⟨⟨by decide +kernel, by decide +kernel⟩, List.mem_of_getElem? (i := 809) (by decide +kernel), List.mem_of_getElem? (i := 807) (by decide +kernel), List.mem_of_getElem? (i := 808) (by decide +kernel)⟩
theorem lw_p26 : lw_okq (⟨"WordTongue$Parser", "enter", "()V"⟩, 12) := ⟨⟨by decide +kernel, by decide +kernel⟩, List.mem_of_getElem? (i := 271) (by decide +kernel), List.mem_of_getElem? (i := 838) (by decide +kernel), List.mem_of_getElem? (i := 839) (by decide +kernel)⟩
theorem lw_p27 : lw_okq (⟨"WordTongue$Parser", "nameDue", "()I"⟩, 12) := ⟨⟨by decide +kernel, by decide +kernel⟩, List.mem_of_getElem? (i := 271) (by decide +kernel), List.mem_of_getElem? (i := 843) (by decide +kernel), List.mem_of_getElem? (i := 844) (by decide +kernel)⟩
theorem lw_p28 : lw_okq (⟨"WordTongue$Parser", "due", "(I)V"⟩, 12) := ⟨⟨by decide +kernel, by decide +kernel⟩, List.mem_of_getElem? (i := 271) (by decide +kernel), List.mem_of_getElem? (i := 847) (by decide +kernel), List.mem_of_getElem? (i := 848) (by decide +kernel)⟩
theorem lw_p29 : lw_okq (⟨"WordTongue$Parser", "expression", "()I"⟩, 12) := ⟨⟨by decide +kernel, by decide +kernel⟩, List.mem_of_getElem? (i := 271) (by decide +kernel), List.mem_of_getElem? (i := 865) (by decide +kernel), List.mem_of_getElem? (i := 866) (by decide +kernel)⟩
theorem lw_p30 : lw_okq (⟨"WordTongue$Parser", "operand", "(I)V"⟩, 12) := ⟨⟨by decide +kernel, by decide +kernel⟩, List.mem_of_getElem? (i := 271) (by decide +kernel), List.mem_of_getElem? (i := 870) (by decide +kernel), List.mem_of_getElem? (i := 871) (by decide +kernel)⟩
theorem lw_p31 : lw_okq (⟨"WordTongue$Parser", "passSigns", "(Z)V"⟩, 12) := ⟨⟨by decide +kernel, by decide +kernel⟩, List.mem_of_getElem? (i := 271) (by decide +kernel), List.mem_of_getElem? (i := 874) (by decide +kernel), List.mem_of_getElem? (i := 875) (by decide +kernel)⟩
def lw_privs_2 : List (MethodName × Nat) := [(⟨"WordTongue$Parser", "place", "()I"⟩, 12), (⟨"WordTongue$Parser", "declaration", "(Z)I"⟩, 12), (⟨"WordTongue$Parser", "kind", "()I"⟩, 12), (⟨"WordTongue$Parser", "definitions", "(Z)I"⟩, 12), (⟨"WordTongue$Parser", "leaf", "(I)I"⟩, 12), (⟨"WordTongue$Parser", "info", "()I"⟩, 12), (⟨"WordTongue$Parser", "advance", "()V"⟩, 12), (⟨"WordTongue$Parser", "open", "()V"⟩, 12), (⟨"WordTongue$Parser", "refuse", "()V"⟩, 12), (⟨"java/lang/Throwable", "fillInStackTrace", "(I)Ljava/lang/Throwable;"⟩, 6), (⟨"WordTongue$Parser", "enter", "()V"⟩, 12), (⟨"WordTongue$Parser", "nameDue", "()I"⟩, 12), (⟨"WordTongue$Parser", "due", "(I)V"⟩, 12), (⟨"WordTongue$Parser", "expression", "()I"⟩, 12), (⟨"WordTongue$Parser", "operand", "(I)V"⟩, 12), (⟨"WordTongue$Parser", "passSigns", "(Z)V"⟩, 12)]
theorem lw_r2 : ∀ q ∈ lw_privs_2, lw_okq q := List.forall_mem_cons.mpr ⟨lw_p16, List.forall_mem_cons.mpr ⟨lw_p17, List.forall_mem_cons.mpr ⟨lw_p18, List.forall_mem_cons.mpr ⟨lw_p19, List.forall_mem_cons.mpr ⟨lw_p20, List.forall_mem_cons.mpr ⟨lw_p21, List.forall_mem_cons.mpr ⟨lw_p22, List.forall_mem_cons.mpr ⟨lw_p23, List.forall_mem_cons.mpr ⟨lw_p24, List.forall_mem_cons.mpr ⟨lw_p25, List.forall_mem_cons.mpr ⟨lw_p26, List.forall_mem_cons.mpr ⟨lw_p27, List.forall_mem_cons.mpr ⟨lw_p28, List.forall_mem_cons.mpr ⟨lw_p29, List.forall_mem_cons.mpr ⟨lw_p30, List.forall_mem_cons.mpr ⟨lw_p31, fun _ h => absurd h List.not_mem_nil⟩⟩⟩⟩⟩⟩⟩⟩⟩⟩⟩⟩⟩⟩⟩⟩
theorem lw_p32 : lw_okq (⟨"WordTongue$Parser", "command", "()I"⟩, 12) := ⟨⟨by decide +kernel, by decide +kernel⟩, List.mem_of_getElem? (i := 271) (by decide +kernel), List.mem_of_getElem? (i := 878) (by decide +kernel), List.mem_of_getElem? (i := 879) (by decide +kernel)⟩
theorem lw_p33 : lw_okq (⟨"WordTongue$Parser", "section", "(Z)I"⟩, 12) := ⟨⟨by decide +kernel, by decide +kernel⟩, List.mem_of_getElem? (i := 271) (by decide +kernel), List.mem_of_getElem? (i := 882) (by decide +kernel), List.mem_of_getElem? (i := 883) (by decide +kernel)⟩
theorem lw_p34 : lw_okq (⟨"WordTongue$Parser", "cases", "(I)V"⟩, 12) := ⟨⟨by decide +kernel, by decide +kernel⟩, List.mem_of_getElem? (i := 271) (by decide +kernel), List.mem_of_getElem? (i := 890) (by decide +kernel), List.mem_of_getElem? (i := 891) (by decide +kernel)⟩
theorem lw_p35 : lw_okq (⟨"WordTongue$Parser", "labels", "(I)V"⟩, 12) := ⟨⟨by decide +kernel, by decide +kernel⟩, List.mem_of_getElem? (i := 271) (by decide +kernel), List.mem_of_getElem? (i := 894) (by decide +kernel), List.mem_of_getElem? (i := 895) (by decide +kernel)⟩
theorem lw_p36 : lw_okq (⟨"WordTongue$Parser", "close", "()V"⟩, 12) := ⟨⟨by decide +kernel, by decide +kernel⟩, List.mem_of_getElem? (i := 271) (by decide +kernel), List.mem_of_getElem? (i := 898) (by decide +kernel), List.mem_of_getElem? (i := 899) (by decide +kernel)⟩
theorem lw_p37 : lw_okq (⟨"WordTongue$Parser", "isOpen", "(I)Z"⟩, 12) := ⟨⟨by decide +kernel, by decide +kernel⟩, List.mem_of_getElem? (i := 271) (by decide +kernel), List.mem_of_getElem? (i := 906) (by decide +kernel), List.mem_of_getElem? (i := 907) (by decide +kernel)⟩
theorem lw_p38 : lw_okq (⟨"WordTongue$Parser", "conditional", "()I"⟩, 12) := ⟨⟨by decide +kernel, by decide +kernel⟩, List.mem_of_getElem? (i := 271) (by decide +kernel), List.mem_of_getElem? (i := 910) (by decide +kernel), List.mem_of_getElem? (i := 911) (by decide +kernel)⟩
theorem lw_p39 : lw_okq (⟨"WordTongue$Parser", "passDo", "()V"⟩, 12) := ⟨⟨by decide +kernel, by decide +kernel⟩, List.mem_of_getElem? (i := 271) (by decide +kernel), List.mem_of_getElem? (i := 914) (by decide +kernel), List.mem_of_getElem? (i := 915) (by decide +kernel)⟩
theorem lw_p40 : lw_okq (⟨"WordTongue$Parser", "counting", "()I"⟩, 12) := ⟨⟨by decide +kernel, by decide +kernel⟩, List.mem_of_getElem? (i := 271) (by decide +kernel), List.mem_of_getElem? (i := 922) (by decide +kernel), List.mem_of_getElem? (i := 923) (by decide +kernel)⟩
theorem lw_p41 : lw_okq (⟨"WordTongue$Parser", "switching", "()I"⟩, 12) := ⟨⟨by decide +kernel, by decide +kernel⟩, List.mem_of_getElem? (i := 271) (by decide +kernel), List.mem_of_getElem? (i := 930) (by decide +kernel), List.mem_of_getElem? (i := 931) (by decide +kernel)⟩
theorem lw_p42 : lw_okq (⟨"WordTongue$Parser", "assignment", "()I"⟩, 12) := ⟨⟨by decide +kernel, by decide +kernel⟩, List.mem_of_getElem? (i := 271) (by decide +kernel), List.mem_of_getElem? (i := 934) (by decide +kernel), List.mem_of_getElem? (i := 935) (by decide +kernel)⟩
theorem lw_p43 : lw_okq (⟨"WordTongue$Parser", "isCall", "(I)Z"⟩, 12) := ⟨⟨by decide +kernel, by decide +kernel⟩, List.mem_of_getElem? (i := 271) (by decide +kernel), List.mem_of_getElem? (i := 942) (by decide +kernel), List.mem_of_getElem? (i := 943) (by decide +kernel)⟩
theorem lw_p44 : lw_okq (⟨"WordTongue$Parser", "repeats", "(I)I"⟩, 12) := ⟨⟨by decide +kernel, by decide +kernel⟩, List.mem_of_getElem? (i := 271) (by decide +kernel), List.mem_of_getElem? (i := 957) (by decide +kernel), List.mem_of_getElem? (i := 958) (by decide +kernel)⟩
theorem lw_p45 : lw_okq (⟨"WordTongue$Parser", "primary", "()I"⟩, 12) := ⟨⟨by decide +kernel, by decide +kernel⟩, List.mem_of_getElem? (i := 271) (by decide +kernel), List.mem_of_getElem? (i := 965) (by decide +kernel), List.mem_of_getElem? (i := 966) (by decide +kernel)⟩
theorem lw_p46 : lw_okq (⟨"WordTongue$Parser", "pack", "(I)I"⟩, 12) := ⟨⟨by decide +kernel, by decide +kernel⟩, List.mem_of_getElem? (i := 271) (by decide +kernel), List.mem_of_getElem? (i := 969) (by decide +kernel), List.mem_of_getElem? (i := 970) (by decide +kernel)⟩
theorem lw_p47 : lw_okq (⟨"WordTongue$Parser", "table", "()I"⟩, 12) := ⟨⟨by decide +kernel, by decide +kernel⟩, List.mem_of_getElem? (i := 271) (by decide +kernel), List.mem_of_getElem? (i := 977) (by decide +kernel), List.mem_of_getElem? (i := 978) (by decide +kernel)⟩
def lw_privs_3 : List (MethodName × Nat) := [(⟨"WordTongue$Parser", "command", "()I"⟩, 12), (⟨"WordTongue$Parser", "section", "(Z)I"⟩, 12), (⟨"WordTongue$Parser", "cases", "(I)V"⟩, 12), (⟨"WordTongue$Parser", "labels", "(I)V"⟩, 12), (⟨"WordTongue$Parser", "close", "()V"⟩, 12), (⟨"WordTongue$Parser", "isOpen", "(I)Z"⟩, 12), (⟨"WordTongue$Parser", "conditional", "()I"⟩, 12), (⟨"WordTongue$Parser", "passDo", "()V"⟩, 12), (⟨"WordTongue$Parser", "counting", "()I"⟩, 12), (⟨"WordTongue$Parser", "switching", "()I"⟩, 12), (⟨"WordTongue$Parser", "assignment", "()I"⟩, 12), (⟨"WordTongue$Parser", "isCall", "(I)Z"⟩, 12), (⟨"WordTongue$Parser", "repeats", "(I)I"⟩, 12), (⟨"WordTongue$Parser", "primary", "()I"⟩, 12), (⟨"WordTongue$Parser", "pack", "(I)I"⟩, 12), (⟨"WordTongue$Parser", "table", "()I"⟩, 12)]
theorem lw_r3 : ∀ q ∈ lw_privs_3, lw_okq q := List.forall_mem_cons.mpr ⟨lw_p32, List.forall_mem_cons.mpr ⟨lw_p33, List.forall_mem_cons.mpr ⟨lw_p34, List.forall_mem_cons.mpr ⟨lw_p35, List.forall_mem_cons.mpr ⟨lw_p36, List.forall_mem_cons.mpr ⟨lw_p37, List.forall_mem_cons.mpr ⟨lw_p38, List.forall_mem_cons.mpr ⟨lw_p39, List.forall_mem_cons.mpr ⟨lw_p40, List.forall_mem_cons.mpr ⟨lw_p41, List.forall_mem_cons.mpr ⟨lw_p42, List.forall_mem_cons.mpr ⟨lw_p43, List.forall_mem_cons.mpr ⟨lw_p44, List.forall_mem_cons.mpr ⟨lw_p45, List.forall_mem_cons.mpr ⟨lw_p46, List.forall_mem_cons.mpr ⟨lw_p47, fun _ h => absurd h List.not_mem_nil⟩⟩⟩⟩⟩⟩⟩⟩⟩⟩⟩⟩⟩⟩⟩⟩
theorem lw_p48 : lw_okq (⟨"WordTongue$Parser", "calls", "(I)I"⟩, 12) := ⟨⟨by decide +kernel, by decide +kernel⟩, List.mem_of_getElem? (i := 271) (by decide +kernel), List.mem_of_getElem? (i := 981) (by decide +kernel), List.mem_of_getElem? (i := 982) (by decide +kernel)⟩
theorem lw_p49 : lw_okq (⟨"WordTongue$Parser", "hangSigns", "(II)V"⟩, 12) := ⟨⟨by decide +kernel, by decide +kernel⟩, List.mem_of_getElem? (i := 271) (by decide +kernel), List.mem_of_getElem? (i := 985) (by decide +kernel), List.mem_of_getElem? (i := 986) (by decide +kernel)⟩
theorem lw_p50 : lw_okq (⟨"WordTongue$Parser", "settle", "(III)V"⟩, 12) := ⟨⟨by decide +kernel, by decide +kernel⟩, List.mem_of_getElem? (i := 271) (by decide +kernel), List.mem_of_getElem? (i := 990) (by decide +kernel), List.mem_of_getElem? (i := 991) (by decide +kernel)⟩
theorem lw_p51 : lw_okq (⟨"WordTongue$Parser", "variables", "(I)V"⟩, 12) := ⟨⟨by decide +kernel, by decide +kernel⟩, List.mem_of_getElem? (i := 271) (by decide +kernel), List.mem_of_getElem? (i := 1001) (by decide +kernel), List.mem_of_getElem? (i := 1002) (by decide +kernel)⟩
theorem lw_p52 : lw_okq (⟨"WordTongue$Parser", "routine", "(Z)I"⟩, 12) := ⟨⟨by decide +kernel, by decide +kernel⟩, List.mem_of_getElem? (i := 271) (by decide +kernel), List.mem_of_getElem? (i := 1005) (by decide +kernel), List.mem_of_getElem? (i := 1006) (by decide +kernel)⟩
theorem lw_p53 : lw_okq (⟨"WordTongue$Parser", "isGlobal", "(I)Z"⟩, 12) := ⟨⟨by decide +kernel, by decide +kernel⟩, List.mem_of_getElem? (i := 271) (by decide +kernel), List.mem_of_getElem? (i := 1009) (by decide +kernel), List.mem_of_getElem? (i := 1010) (by decide +kernel)⟩
theorem lw_p54 : lw_okq (⟨"WordTongue$Parser", "names", "(I)V"⟩, 12) := ⟨⟨by decide +kernel, by decide +kernel⟩, List.mem_of_getElem? (i := 271) (by decide +kernel), List.mem_of_getElem? (i := 1022) (by decide +kernel), List.mem_of_getElem? (i := 1023) (by decide +kernel)⟩
theorem lw_p55 : lw_okq (⟨"WordTongue$Scope", "cut", "(I)V"⟩, 8) := ⟨⟨by decide +kernel, by decide +kernel⟩, List.mem_of_getElem? (i := 342) (by decide +kernel), List.mem_of_getElem? (i := 1038) (by decide +kernel), List.mem_of_getElem? (i := 1039) (by decide +kernel)⟩
theorem lw_p56 : lw_okq (⟨"WordTongue$Scope", "put", "(IIIII)I"⟩, 8) := ⟨⟨by decide +kernel, by decide +kernel⟩, List.mem_of_getElem? (i := 342) (by decide +kernel), List.mem_of_getElem? (i := 1044) (by decide +kernel), List.mem_of_getElem? (i := 1045) (by decide +kernel)⟩
theorem lw_p57 : lw_okq (⟨"WordTongue$Coder", "leaveAll", "()V"⟩, 19) := ⟨⟨by decide +kernel, by decide +kernel⟩, List.mem_of_getElem? (i := 333) (by decide +kernel), List.mem_of_getElem? (i := 1051) (by decide +kernel), List.mem_of_getElem? (i := 1052) (by decide +kernel)⟩
theorem lw_p58 : lw_okq (⟨"WordTongue$Coder", "section", "(I)V"⟩, 19) := ⟨⟨by decide +kernel, by decide +kernel⟩, List.mem_of_getElem? (i := 333) (by decide +kernel), List.mem_of_getElem? (i := 1055) (by decide +kernel), List.mem_of_getElem? (i := 1056) (by decide +kernel)⟩
theorem lw_p59 : lw_okq (⟨"WordTongue$Coder", "entrance", "(I)V"⟩, 19) := ⟨⟨by decide +kernel, by decide +kernel⟩, List.mem_of_getElem? (i := 333) (by decide +kernel), List.mem_of_getElem? (i := 1087) (by decide +kernel), List.mem_of_getElem? (i := 1088) (by decide +kernel)⟩
theorem lw_p60 : lw_okq (⟨"WordTongue$Constants", "reckon", "(IZ)I"⟩, 7) := ⟨⟨by decide +kernel, by decide +kernel⟩, List.mem_of_getElem? (i := 376) (by decide +kernel), List.mem_of_getElem? (i := 1097) (by decide +kernel), List.mem_of_getElem? (i := 1098) (by decide +kernel)⟩
theorem lw_p61 : lw_okq (⟨"WordTongue$Constants", "choose", "(IZ)I"⟩, 7) := ⟨⟨by decide +kernel, by decide +kernel⟩, List.mem_of_getElem? (i := 376) (by decide +kernel), List.mem_of_getElem? (i := 1106) (by decide +kernel), List.mem_of_getElem? (i := 1107) (by decide +kernel)⟩
theorem lw_p62 : lw_okq (⟨"WordTongue$Constants", "fail", "(II)V"⟩, 7) := ⟨⟨by decide +kernel, by decide +kernel⟩, List.mem_of_getElem? (i := 376) (by decide +kernel), List.mem_of_getElem? (i := 1111) (by decide +kernel), List.mem_of_getElem? (i := 1112) (by decide +kernel)⟩
theorem lw_p63 : lw_okq (⟨"WordTongue$Constants", "relate", "(IZZ)Z"⟩, 7) := ⟨⟨by decide +kernel, by decide +kernel⟩, List.mem_of_getElem? (i := 376) (by decide +kernel), List.mem_of_getElem? (i := 1117) (by decide +kernel), List.mem_of_getElem? (i := 1118) (by decide +kernel)⟩
def lw_privs_4 : List (MethodName × Nat) := [(⟨"WordTongue$Parser", "calls", "(I)I"⟩, 12), (⟨"WordTongue$Parser", "hangSigns", "(II)V"⟩, 12), (⟨"WordTongue$Parser", "settle", "(III)V"⟩, 12), (⟨"WordTongue$Parser", "variables", "(I)V"⟩, 12), (⟨"WordTongue$Parser", "routine", "(Z)I"⟩, 12), (⟨"WordTongue$Parser", "isGlobal", "(I)Z"⟩, 12), (⟨"WordTongue$Parser", "names", "(I)V"⟩, 12), (⟨"WordTongue$Scope", "cut", "(I)V"⟩, 8), (⟨"WordTongue$Scope", "put", "(IIIII)I"⟩, 8), (⟨"WordTongue$Coder", "leaveAll", "()V"⟩, 19), (⟨"WordTongue$Coder", "section", "(I)V"⟩, 19), (⟨"WordTongue$Coder", "entrance", "(I)V"⟩, 19), (⟨"WordTongue$Constants", "reckon", "(IZ)I"⟩, 7), (⟨"WordTongue$Constants", "choose", "(IZ)I"⟩, 7), (⟨"WordTongue$Constants", "fail", "(II)V"⟩, 7), (⟨"WordTongue$Constants", "relate", "(IZZ)Z"⟩, 7)]
theorem lw_r4 : ∀ q ∈ lw_privs_4, lw_okq q := List.forall_mem_cons.mpr ⟨lw_p48, List.forall_mem_cons.mpr ⟨lw_p49, List.forall_mem_cons.mpr ⟨lw_p50, List.forall_mem_cons.mpr ⟨lw_p51, List.forall_mem_cons.mpr ⟨lw_p52, List.forall_mem_cons.mpr ⟨lw_p53, List.forall_mem_cons.mpr ⟨lw_p54, List.forall_mem_cons.mpr ⟨lw_p55, List.forall_mem_cons.mpr ⟨lw_p56, List.forall_mem_cons.mpr ⟨lw_p57, List.forall_mem_cons.mpr ⟨lw_p58, List.forall_mem_cons.mpr ⟨lw_p59, List.forall_mem_cons.mpr ⟨lw_p60, List.forall_mem_cons.mpr ⟨lw_p61, List.forall_mem_cons.mpr ⟨lw_p62, List.forall_mem_cons.mpr ⟨lw_p63, fun _ h => absurd h List.not_mem_nil⟩⟩⟩⟩⟩⟩⟩⟩⟩⟩⟩⟩⟩⟩⟩⟩
theorem lw_p64 : lw_okq (⟨"WordTongue$Constants", "work", "(IZI)V"⟩, 7) := ⟨⟨by decide +kernel, by decide +kernel⟩, List.mem_of_getElem? (i := 376) (by decide +kernel), List.mem_of_getElem? (i := 1125) (by decide +kernel), List.mem_of_getElem? (i := 1126) (by decide +kernel)⟩
theorem lw_p65 : lw_okq (⟨"WordTongue$Constants", "single", "(III)V"⟩, 7) := ⟨⟨by decide +kernel, by decide +kernel⟩, List.mem_of_getElem? (i := 376) (by decide +kernel), List.mem_of_getElem? (i := 1151) (by decide +kernel), List.mem_of_getElem? (i := 1152) (by decide +kernel)⟩
theorem lw_p66 : lw_okq (⟨"WordTongue$Coder", "routines", "(I)V"⟩, 19) := ⟨⟨by decide +kernel, by decide +kernel⟩, List.mem_of_getElem? (i := 333) (by decide +kernel), List.mem_of_getElem? (i := 1161) (by decide +kernel), List.mem_of_getElem? (i := 1162) (by decide +kernel)⟩
theorem lw_p67 : lw_okq (⟨"WordTongue$Coder", "routineName", "(I)V"⟩, 19) := ⟨⟨by decide +kernel, by decide +kernel⟩, List.mem_of_getElem? (i := 333) (by decide +kernel), List.mem_of_getElem? (i := 1165) (by decide +kernel), List.mem_of_getElem? (i := 1166) (by decide +kernel)⟩
theorem lw_p68 : lw_okq (⟨"WordTongue$Coder", "routine", "(I)V"⟩, 19) := ⟨⟨by decide +kernel, by decide +kernel⟩, List.mem_of_getElem? (i := 333) (by decide +kernel), List.mem_of_getElem? (i := 1192) (by decide +kernel), List.mem_of_getElem? (i := 1193) (by decide +kernel)⟩
theorem lw_p69 : lw_okq (⟨"WordTongue$Coder", "emit", "(II)I"⟩, 19) := ⟨⟨by decide +kernel, by decide +kernel⟩, List.mem_of_getElem? (i := 333) (by decide +kernel), List.mem_of_getElem? (i := 1196) (by decide +kernel), List.mem_of_getElem? (i := 1197) (by decide +kernel)⟩
theorem lw_p70 : lw_okq (⟨"WordTongue$Coder", "parameters", "(I)I"⟩, 19) := ⟨⟨by decide +kernel, by decide +kernel⟩, List.mem_of_getElem? (i := 333) (by decide +kernel), List.mem_of_getElem? (i := 1201) (by decide +kernel), List.mem_of_getElem? (i := 1202) (by decide +kernel)⟩
theorem lw_p71 : lw_okq (⟨"WordTongue$Coder", "expression", "(III)V"⟩, 19) := ⟨⟨by decide +kernel, by decide +kernel⟩, List.mem_of_getElem? (i := 333) (by decide +kernel), List.mem_of_getElem? (i := 1210) (by decide +kernel), List.mem_of_getElem? (i := 1211) (by decide +kernel)⟩
theorem lw_p72 : lw_okq (⟨"WordTongue$Coder", "calls", "(I)V"⟩, 19) := ⟨⟨by decide +kernel, by decide +kernel⟩, List.mem_of_getElem? (i := 333) (by decide +kernel), List.mem_of_getElem? (i := 1214) (by decide +kernel), List.mem_of_getElem? (i := 1215) (by decide +kernel)⟩
theorem lw_p73 : lw_okq (⟨"WordTongue$Coder", "arguments", "(II)V"⟩, 19) := ⟨⟨by decide +kernel, by decide +kernel⟩, List.mem_of_getElem? (i := 333) (by decide +kernel), List.mem_of_getElem? (i := 1218) (by decide +kernel), List.mem_of_getElem? (i := 1219) (by decide +kernel)⟩
theorem lw_p74 : lw_okq (⟨"WordTongue$Coder", "unfit", "(II)V"⟩, 19) := ⟨⟨by decide +kernel, by decide +kernel⟩, List.mem_of_getElem? (i := 333) (by decide +kernel), List.mem_of_getElem? (i := 1222) (by decide +kernel), List.mem_of_getElem? (i := 1223) (by decide +kernel)⟩
theorem lw_p75 : lw_okq (⟨"WordTongue$Coder", "valof", "(I)V"⟩, 19) := ⟨⟨by decide +kernel, by decide +kernel⟩, List.mem_of_getElem? (i := 333) (by decide +kernel), List.mem_of_getElem? (i := 1226) (by decide +kernel), List.mem_of_getElem? (i := 1227) (by decide +kernel)⟩
theorem lw_p76 : lw_okq (⟨"WordTongue$Coder", "command", "(I)V"⟩, 19) := ⟨⟨by decide +kernel, by decide +kernel⟩, List.mem_of_getElem? (i := 333) (by decide +kernel), List.mem_of_getElem? (i := 1230) (by decide +kernel), List.mem_of_getElem? (i := 1231) (by decide +kernel)⟩
theorem lw_p77 : lw_okq (⟨"WordTongue$Coder", "repeats", "(I)V"⟩, 19) := ⟨⟨by decide +kernel, by decide +kernel⟩, List.mem_of_getElem? (i := 333) (by decide +kernel), List.mem_of_getElem? (i := 1234) (by decide +kernel), List.mem_of_getElem? (i := 1235) (by decide +kernel)⟩
theorem lw_p78 : lw_okq (⟨"WordTongue$Coder", "assignment", "(I)V"⟩, 19) := ⟨⟨by decide +kernel, by decide +kernel⟩, List.mem_of_getElem? (i := 333) (by decide +kernel), List.mem_of_getElem? (i := 1242) (by decide +kernel), List.mem_of_getElem? (i := 1243) (by decide +kernel)⟩
theorem lw_p79 : lw_okq (⟨"WordTongue$Coder", "isByte", "(I)Z"⟩, 19) := ⟨⟨by decide +kernel, by decide +kernel⟩, List.mem_of_getElem? (i := 333) (by decide +kernel), List.mem_of_getElem? (i := 1246) (by decide +kernel), List.mem_of_getElem? (i := 1247) (by decide +kernel)⟩
def lw_privs_5 : List (MethodName × Nat) := [(⟨"WordTongue$Constants", "work", "(IZI)V"⟩, 7), (⟨"WordTongue$Constants", "single", "(III)V"⟩, 7), (⟨"WordTongue$Coder", "routines", "(I)V"⟩, 19), (⟨"WordTongue$Coder", "routineName", "(I)V"⟩, 19), (⟨"WordTongue$Coder", "routine", "(I)V"⟩, 19), (⟨"WordTongue$Coder", "emit", "(II)I"⟩, 19), (⟨"WordTongue$Coder", "parameters", "(I)I"⟩, 19), (⟨"WordTongue$Coder", "expression", "(III)V"⟩, 19), (⟨"WordTongue$Coder", "calls", "(I)V"⟩, 19), (⟨"WordTongue$Coder", "arguments", "(II)V"⟩, 19), (⟨"WordTongue$Coder", "unfit", "(II)V"⟩, 19), (⟨"WordTongue$Coder", "valof", "(I)V"⟩, 19), (⟨"WordTongue$Coder", "command", "(I)V"⟩, 19), (⟨"WordTongue$Coder", "repeats", "(I)V"⟩, 19), (⟨"WordTongue$Coder", "assignment", "(I)V"⟩, 19), (⟨"WordTongue$Coder", "isByte", "(I)Z"⟩, 19)]
theorem lw_r5 : ∀ q ∈ lw_privs_5, lw_okq q := List.forall_mem_cons.mpr ⟨lw_p64, List.forall_mem_cons.mpr ⟨lw_p65, List.forall_mem_cons.mpr ⟨lw_p66, List.forall_mem_cons.mpr ⟨lw_p67, List.forall_mem_cons.mpr ⟨lw_p68, List.forall_mem_cons.mpr ⟨lw_p69, List.forall_mem_cons.mpr ⟨lw_p70, List.forall_mem_cons.mpr ⟨lw_p71, List.forall_mem_cons.mpr ⟨lw_p72, List.forall_mem_cons.mpr ⟨lw_p73, List.forall_mem_cons.mpr ⟨lw_p74, List.forall_mem_cons.mpr ⟨lw_p75, List.forall_mem_cons.mpr ⟨lw_p76, List.forall_mem_cons.mpr ⟨lw_p77, List.forall_mem_cons.mpr ⟨lw_p78, List.forall_mem_cons.mpr ⟨lw_p79, fun _ h => absurd h List.not_mem_nil⟩⟩⟩⟩⟩⟩⟩⟩⟩⟩⟩⟩⟩⟩⟩⟩
theorem lw_p80 : lw_okq (⟨"WordTongue$Coder", "conditional", "(I)V"⟩, 19) := ⟨⟨by decide +kernel, by decide +kernel⟩, List.mem_of_getElem? (i := 333) (by decide +kernel), List.mem_of_getElem? (i := 1254) (by decide +kernel), List.mem_of_getElem? (i := 1255) (by decide +kernel)⟩
theorem lw_p81 : lw_okq (⟨"WordTongue$Coder", "asking", "(I)V"⟩, 19) := ⟨⟨by decide +kernel, by decide +kernel⟩, List.mem_of_getElem? (i := 333) (by decide +kernel), List.mem_of_getElem? (i := 1258) (by decide +kernel), List.mem_of_getElem? (i := 1259) (by decide +kernel)⟩
theorem lw_p82 : lw_okq (⟨"WordTongue$Coder", "counting", "(I)V"⟩, 19) := ⟨⟨by decide +kernel, by decide +kernel⟩, List.mem_of_getElem? (i := 333) (by decide +kernel), List.mem_of_getElem? (i := 1266) (by decide +kernel), List.mem_of_getElem? (i := 1267) (by decide +kernel)⟩
theorem lw_p83 : lw_okq (⟨"WordTongue$Coder", "take", "(I)V"⟩, 19) := ⟨⟨by decide +kernel, by decide +kernel⟩, List.mem_of_getElem? (i := 333) (by decide +kernel), List.mem_of_getElem? (i := 1270) (by decide +kernel), List.mem_of_getElem? (i := 1271) (by decide +kernel)⟩
theorem lw_p84 : lw_okq (⟨"WordTongue$Coder", "switching", "(I)V"⟩, 19) := ⟨⟨by decide +kernel, by decide +kernel⟩, List.mem_of_getElem? (i := 333) (by decide +kernel), List.mem_of_getElem? (i := 1281) (by decide +kernel), List.mem_of_getElem? (i := 1282) (by decide +kernel)⟩
theorem lw_p85 : lw_okq (⟨"WordTongue$Coder", "telling", "(I)V"⟩, 19) := ⟨⟨by decide +kernel, by decide +kernel⟩, List.mem_of_getElem? (i := 333) (by decide +kernel), List.mem_of_getElem? (i := 1285) (by decide +kernel), List.mem_of_getElem? (i := 1286) (by decide +kernel)⟩
theorem lw_p86 : lw_okq (⟨"WordTongue$Coder", "leaving", "(I)V"⟩, 19) := ⟨⟨by decide +kernel, by decide +kernel⟩, List.mem_of_getElem? (i := 333) (by decide +kernel), List.mem_of_getElem? (i := 1289) (by decide +kernel), List.mem_of_getElem? (i := 1290) (by decide +kernel)⟩
theorem lw_p87 : lw_okq (⟨"WordTongue$Coder", "going", "(I)V"⟩, 19) := ⟨⟨by decide +kernel, by decide +kernel⟩, List.mem_of_getElem? (i := 333) (by decide +kernel), List.mem_of_getElem? (i := 1293) (by decide +kernel), List.mem_of_getElem? (i := 1294) (by decide +kernel)⟩
theorem lw_p88 : lw_okq (⟨"WordTongue$Coder", "choice", "(I)V"⟩, 19) := ⟨⟨by decide +kernel, by decide +kernel⟩, List.mem_of_getElem? (i := 333) (by decide +kernel), List.mem_of_getElem? (i := 1298) (by decide +kernel), List.mem_of_getElem? (i := 1299) (by decide +kernel)⟩
theorem lw_p89 : lw_okq (⟨"WordTongue$Coder", "table", "(I)V"⟩, 19) := ⟨⟨by decide +kernel, by decide +kernel⟩, List.mem_of_getElem? (i := 333) (by decide +kernel), List.mem_of_getElem? (i := 1302) (by decide +kernel), List.mem_of_getElem? (i := 1303) (by decide +kernel)⟩
theorem lw_p90 : lw_okq (⟨"WordTongue$Coder", "sign", "(II)I"⟩, 19) := ⟨⟨by decide +kernel, by decide +kernel⟩, List.mem_of_getElem? (i := 333) (by decide +kernel), List.mem_of_getElem? (i := 1306) (by decide +kernel), List.mem_of_getElem? (i := 1307) (by decide +kernel)⟩
theorem lw_p91 : lw_okq (⟨"WordTongue$Coder", "single", "(III)V"⟩, 19) := ⟨⟨by decide +kernel, by decide +kernel⟩, List.mem_of_getElem? (i := 333) (by decide +kernel), List.mem_of_getElem? (i := 1311) (by decide +kernel), List.mem_of_getElem? (i := 1312) (by decide +kernel)⟩
theorem lw_p92 : lw_okq (⟨"WordTongue$Coder", "name", "(III)V"⟩, 19) := ⟨⟨by decide +kernel, by decide +kernel⟩, List.mem_of_getElem? (i := 333) (by decide +kernel), List.mem_of_getElem? (i := 1315) (by decide +kernel), List.mem_of_getElem? (i := 1316) (by decide +kernel)⟩
theorem lw_p93 : lw_okq (⟨"WordTongue$Coder", "unary", "(I)V"⟩, 19) := ⟨⟨by decide +kernel, by decide +kernel⟩, List.mem_of_getElem? (i := 333) (by decide +kernel), List.mem_of_getElem? (i := 1319) (by decide +kernel), List.mem_of_getElem? (i := 1320) (by decide +kernel)⟩
theorem lw_p94 : lw_okq (⟨"WordTongue$Coder", "variables", "(I)V"⟩, 19) := ⟨⟨by decide +kernel, by decide +kernel⟩, List.mem_of_getElem? (i := 333) (by decide +kernel), List.mem_of_getElem? (i := 1327) (by decide +kernel), List.mem_of_getElem? (i := 1328) (by decide +kernel)⟩
theorem lw_p95 : lw_okq (⟨"WordTongue$Coder", "definitions", "(I)V"⟩, 19) := ⟨⟨by decide +kernel, by decide +kernel⟩, List.mem_of_getElem? (i := 333) (by decide +kernel), List.mem_of_getElem? (i := 1331) (by decide +kernel), List.mem_of_getElem? (i := 1332) (by decide +kernel)⟩
def lw_privs_6 : List (MethodName × Nat) := [(⟨"WordTongue$Coder", "conditional", "(I)V"⟩, 19), (⟨"WordTongue$Coder", "asking", "(I)V"⟩, 19), (⟨"WordTongue$Coder", "counting", "(I)V"⟩, 19), (⟨"WordTongue$Coder", "take", "(I)V"⟩, 19), (⟨"WordTongue$Coder", "switching", "(I)V"⟩, 19), (⟨"WordTongue$Coder", "telling", "(I)V"⟩, 19), (⟨"WordTongue$Coder", "leaving", "(I)V"⟩, 19), (⟨"WordTongue$Coder", "going", "(I)V"⟩, 19), (⟨"WordTongue$Coder", "choice", "(I)V"⟩, 19), (⟨"WordTongue$Coder", "table", "(I)V"⟩, 19), (⟨"WordTongue$Coder", "sign", "(II)I"⟩, 19), (⟨"WordTongue$Coder", "single", "(III)V"⟩, 19), (⟨"WordTongue$Coder", "name", "(III)V"⟩, 19), (⟨"WordTongue$Coder", "unary", "(I)V"⟩, 19), (⟨"WordTongue$Coder", "variables", "(I)V"⟩, 19), (⟨"WordTongue$Coder", "definitions", "(I)V"⟩, 19)]
theorem lw_r6 : ∀ q ∈ lw_privs_6, lw_okq q := List.forall_mem_cons.mpr ⟨lw_p80, List.forall_mem_cons.mpr ⟨lw_p81, List.forall_mem_cons.mpr ⟨lw_p82, List.forall_mem_cons.mpr ⟨lw_p83, List.forall_mem_cons.mpr ⟨lw_p84, List.forall_mem_cons.mpr ⟨lw_p85, List.forall_mem_cons.mpr ⟨lw_p86, List.forall_mem_cons.mpr ⟨lw_p87, List.forall_mem_cons.mpr ⟨lw_p88, List.forall_mem_cons.mpr ⟨lw_p89, List.forall_mem_cons.mpr ⟨lw_p90, List.forall_mem_cons.mpr ⟨lw_p91, List.forall_mem_cons.mpr ⟨lw_p92, List.forall_mem_cons.mpr ⟨lw_p93, List.forall_mem_cons.mpr ⟨lw_p94, List.forall_mem_cons.mpr ⟨lw_p95, fun _ h => absurd h List.not_mem_nil⟩⟩⟩⟩⟩⟩⟩⟩⟩⟩⟩⟩⟩⟩⟩⟩
theorem lw_p96 : lw_okq (⟨"WordTongue$Channels", "isInput", "(I)Z"⟩, 5) := ⟨⟨by decide +kernel, by decide +kernel⟩, List.mem_of_getElem? (i := 465) (by decide +kernel), List.mem_of_getElem? (i := 1381) (by decide +kernel), List.mem_of_getElem? (i := 1382) (by decide +kernel)⟩
theorem lw_p97 : lw_okq (⟨"WordTongue$Machine", "prepare", "()V"⟩, 16) := ⟨⟨by decide +kernel, by decide +kernel⟩, List.mem_of_getElem? (i := 490) (by decide +kernel), List.mem_of_getElem? (i := 1406) (by decide +kernel), List.mem_of_getElem? (i := 1407) (by decide +kernel)⟩
theorem lw_p98 : lw_okq (⟨"WordTongue$Machine", "put", "(II)V"⟩, 16) := ⟨⟨by decide +kernel, by decide +kernel⟩, List.mem_of_getElem? (i := 490) (by decide +kernel), List.mem_of_getElem? (i := 1423) (by decide +kernel), List.mem_of_getElem? (i := 1424) (by decide +kernel)⟩
theorem lw_p99 : lw_okq (⟨"WordTongue$Machine", "isThere", "(I)Z"⟩, 16) := ⟨⟨by decide +kernel, by decide +kernel⟩, List.mem_of_getElem? (i := 490) (by decide +kernel), List.mem_of_getElem? (i := 1427) (by decide +kernel), List.mem_of_getElem? (i := 1428) (by decide +kernel)⟩
theorem lw_p100 : lw_okq (⟨"WordTongue$Machine", "fail", "(I)V"⟩, 16) := ⟨⟨by decide +kernel, by decide +kernel⟩, List.mem_of_getElem? (i := 490) (by decide +kernel), List.mem_of_getElem? (i := 1431) (by decide +kernel), List.mem_of_getElem? (i := 1432) (by decide +kernel)⟩
theorem lw_p101 : lw_okq (⟨"WordTongue$Machine", "enter", "(III)V"⟩, 16) := ⟨⟨by decide +kernel, by decide +kernel⟩, List.mem_of_getElem? (i := 490) (by decide +kernel), List.mem_of_getElem? (i := 1450) (by decide +kernel), List.mem_of_getElem? (i := 1451) (by decide +kernel)⟩
theorem lw_p102 : lw_okq (⟨"WordTongue$Machine", "burns", "()Z"⟩, 16) := ⟨⟨by decide +kernel, by decide +kernel⟩, List.mem_of_getElem? (i := 490) (by decide +kernel), List.mem_of_getElem? (i := 1454) (by decide +kernel), List.mem_of_getElem? (i := 1455) (by decide +kernel)⟩
theorem lw_p103 : lw_okq (⟨"WordTongue$Machine", "argument", "(II)I"⟩, 16) := ⟨⟨by decide +kernel, by decide +kernel⟩, List.mem_of_getElem? (i := 490) (by decide +kernel), List.mem_of_getElem? (i := 1474) (by decide +kernel), List.mem_of_getElem? (i := 1475) (by decide +kernel)⟩
theorem lw_p104 : lw_okq (⟨"WordTongue$Machine", "step", "(II)V"⟩, 16) := ⟨⟨by decide +kernel, by decide +kernel⟩, List.mem_of_getElem? (i := 490) (by decide +kernel), List.mem_of_getElem? (i := 1489) (by decide +kernel), List.mem_of_getElem? (i := 1490) (by decide +kernel)⟩
theorem lw_p105 : lw_okq (⟨"WordTongue$Machine", "look", "(I)I"⟩, 16) := ⟨⟨by decide +kernel, by decide +kernel⟩, List.mem_of_getElem? (i := 490) (by decide +kernel), List.mem_of_getElem? (i := 1493) (by decide +kernel), List.mem_of_getElem? (i := 1494) (by decide +kernel)⟩
theorem lw_p106 : lw_okq (⟨"WordTongue$Machine", "lookByte", "()V"⟩, 16) := ⟨⟨by decide +kernel, by decide +kernel⟩, List.mem_of_getElem? (i := 490) (by decide +kernel), List.mem_of_getElem? (i := 1498) (by decide +kernel), List.mem_of_getElem? (i := 1499) (by decide +kernel)⟩
theorem lw_p107 : lw_okq (⟨"WordTongue$Machine", "wordOfByte", "(II)I"⟩, 16) := ⟨⟨by decide +kernel, by decide +kernel⟩, List.mem_of_getElem? (i := 490) (by decide +kernel), List.mem_of_getElem? (i := 1502) (by decide +kernel), List.mem_of_getElem? (i := 1503) (by decide +kernel)⟩
theorem lw_p108 : lw_okq (⟨"WordTongue$Machine", "putByte", "()V"⟩, 16) := ⟨⟨by decide +kernel, by decide +kernel⟩, List.mem_of_getElem? (i := 490) (by decide +kernel), List.mem_of_getElem? (i := 1506) (by decide +kernel), List.mem_of_getElem? (i := 1507) (by decide +kernel)⟩
theorem lw_p109 : lw_okq (⟨"WordTongue$Machine", "finish", "(II)V"⟩, 16) := ⟨⟨by decide +kernel, by decide +kernel⟩, List.mem_of_getElem? (i := 490) (by decide +kernel), List.mem_of_getElem? (i := 1510) (by decide +kernel), List.mem_of_getElem? (i := 1511) (by decide +kernel)⟩
theorem lw_p110 : lw_okq (⟨"WordTongue$Machine", "turn", "(II)V"⟩, 16) := ⟨⟨by decide +kernel, by decide +kernel⟩, List.mem_of_getElem? (i := 490) (by decide +kernel), List.mem_of_getElem? (i := 1514) (by decide +kernel), List.mem_of_getElem? (i := 1515) (by decide +kernel)⟩
theorem lw_p111 : lw_okq (⟨"WordTongue$Machine", "call", "(III)V"⟩, 16) := ⟨⟨by decide +kernel, by decide +kernel⟩, List.mem_of_getElem? (i := 490) (by decide +kernel), List.mem_of_getElem? (i := 1519) (by decide +kernel), List.mem_of_getElem? (i := 1520) (by decide +kernel)⟩
def lw_privs_7 : List (MethodName × Nat) := [(⟨"WordTongue$Channels", "isInput", "(I)Z"⟩, 5), (⟨"WordTongue$Machine", "prepare", "()V"⟩, 16), (⟨"WordTongue$Machine", "put", "(II)V"⟩, 16), (⟨"WordTongue$Machine", "isThere", "(I)Z"⟩, 16), (⟨"WordTongue$Machine", "fail", "(I)V"⟩, 16), (⟨"WordTongue$Machine", "enter", "(III)V"⟩, 16), (⟨"WordTongue$Machine", "burns", "()Z"⟩, 16), (⟨"WordTongue$Machine", "argument", "(II)I"⟩, 16), (⟨"WordTongue$Machine", "step", "(II)V"⟩, 16), (⟨"WordTongue$Machine", "look", "(I)I"⟩, 16), (⟨"WordTongue$Machine", "lookByte", "()V"⟩, 16), (⟨"WordTongue$Machine", "wordOfByte", "(II)I"⟩, 16), (⟨"WordTongue$Machine", "putByte", "()V"⟩, 16), (⟨"WordTongue$Machine", "finish", "(II)V"⟩, 16), (⟨"WordTongue$Machine", "turn", "(II)V"⟩, 16), (⟨"WordTongue$Machine", "call", "(III)V"⟩, 16)]
theorem lw_r7 : ∀ q ∈ lw_privs_7, lw_okq q := List.forall_mem_cons.mpr ⟨lw_p96, List.forall_mem_cons.mpr ⟨lw_p97, List.forall_mem_cons.mpr ⟨lw_p98, List.forall_mem_cons.mpr ⟨lw_p99, List.forall_mem_cons.mpr ⟨lw_p100, List.forall_mem_cons.mpr ⟨lw_p101, List.forall_mem_cons.mpr ⟨lw_p102, List.forall_mem_cons.mpr ⟨lw_p103, List.forall_mem_cons.mpr ⟨lw_p104, List.forall_mem_cons.mpr ⟨lw_p105, List.forall_mem_cons.mpr ⟨lw_p106, List.forall_mem_cons.mpr ⟨lw_p107, List.forall_mem_cons.mpr ⟨lw_p108, List.forall_mem_cons.mpr ⟨lw_p109, List.forall_mem_cons.mpr ⟨lw_p110, List.forall_mem_cons.mpr ⟨lw_p111, fun _ h => absurd h List.not_mem_nil⟩⟩⟩⟩⟩⟩⟩⟩⟩⟩⟩⟩⟩⟩⟩⟩
theorem lw_p112 : lw_okq (⟨"WordTongue$Machine", "apply", "(II)V"⟩, 16) := ⟨⟨by decide +kernel, by decide +kernel⟩, List.mem_of_getElem? (i := 490) (by decide +kernel), List.mem_of_getElem? (i := 1531) (by decide +kernel), List.mem_of_getElem? (i := 1532) (by decide +kernel)⟩
theorem lw_p113 : lw_okq (⟨"WordTongue$Machine", "back", "()V"⟩, 16) := ⟨⟨by decide +kernel, by decide +kernel⟩, List.mem_of_getElem? (i := 490) (by decide +kernel), List.mem_of_getElem? (i := 1536) (by decide +kernel), List.mem_of_getElem? (i := 1537) (by decide +kernel)⟩
theorem lw_p114 : lw_okq (⟨"WordTongue$Machine", "link", "(IIII)V"⟩, 16) := ⟨⟨by decide +kernel, by decide +kernel⟩, List.mem_of_getElem? (i := 490) (by decide +kernel), List.mem_of_getElem? (i := 1540) (by decide +kernel), List.mem_of_getElem? (i := 1541) (by decide +kernel)⟩
theorem lw_p115 : lw_okq (⟨"WordTongue$Machine", "work", "(III)V"⟩, 16) := ⟨⟨by decide +kernel, by decide +kernel⟩, List.mem_of_getElem? (i := 490) (by decide +kernel), List.mem_of_getElem? (i := 1545) (by decide +kernel), List.mem_of_getElem? (i := 1546) (by decide +kernel)⟩
theorem lw_p116 : lw_okq (⟨"WordTongue$Machine", "serve", "()V"⟩, 16) := ⟨⟨by decide +kernel, by decide +kernel⟩, List.mem_of_getElem? (i := 490) (by decide +kernel), List.mem_of_getElem? (i := 1552) (by decide +kernel), List.mem_of_getElem? (i := 1553) (by decide +kernel)⟩
theorem lw_p117 : lw_okq (⟨"WordTongue$Machine", "exchange", "(II)I"⟩, 16) := ⟨⟨by decide +kernel, by decide +kernel⟩, List.mem_of_getElem? (i := 490) (by decide +kernel), List.mem_of_getElem? (i := 1556) (by decide +kernel), List.mem_of_getElem? (i := 1557) (by decide +kernel)⟩
theorem lw_p118 : lw_okq (⟨"WordTongue$Channels", "isOutput", "(I)Z"⟩, 5) := ⟨⟨by decide +kernel, by decide +kernel⟩, List.mem_of_getElem? (i := 465) (by decide +kernel), List.mem_of_getElem? (i := 1573) (by decide +kernel), List.mem_of_getElem? (i := 1574) (by decide +kernel)⟩
theorem lw_p119 : lw_okq (⟨"WordTongue$Machine", "writeString", "(I)V"⟩, 16) := ⟨⟨by decide +kernel, by decide +kernel⟩, List.mem_of_getElem? (i := 490) (by decide +kernel), List.mem_of_getElem? (i := 1578) (by decide +kernel), List.mem_of_getElem? (i := 1579) (by decide +kernel)⟩
theorem lw_p120 : lw_okq (⟨"WordTongue$Channels", "next", "()I"⟩, 5) := ⟨⟨by decide +kernel, by decide +kernel⟩, List.mem_of_getElem? (i := 465) (by decide +kernel), List.mem_of_getElem? (i := 1587) (by decide +kernel), List.mem_of_getElem? (i := 1588) (by decide +kernel)⟩
theorem lw_p121 : lw_okq (⟨"WordTongue$Machine", "reckon", "(IIII)I"⟩, 16) := ⟨⟨by decide +kernel, by decide +kernel⟩, List.mem_of_getElem? (i := 490) (by decide +kernel), List.mem_of_getElem? (i := 1608) (by decide +kernel), List.mem_of_getElem? (i := 1609) (by decide +kernel)⟩
theorem lw_p122 : lw_okq (⟨"WordTongue$Heap", "touched", "(II)I"⟩, 2) := ⟨⟨by decide +kernel, by decide +kernel⟩, List.mem_of_getElem? (i := 496) (by decide +kernel), List.mem_of_getElem? (i := 1616) (by decide +kernel), List.mem_of_getElem? (i := 1617) (by decide +kernel)⟩
theorem lw_p123 : lw_okq (⟨"WordTongueModel", "scan", "()I"⟩, 119) := ⟨⟨by decide +kernel, by decide +kernel⟩, List.mem_of_getElem? (i := 1710) (by decide +kernel), List.mem_of_getElem? (i := 2095) (by decide +kernel), List.mem_of_getElem? (i := 2096) (by decide +kernel)⟩
theorem lw_p124 : lw_okq (⟨"WordTongueModel", "look", "(I)I"⟩, 119) := ⟨⟨by decide +kernel, by decide +kernel⟩, List.mem_of_getElem? (i := 1710) (by decide +kernel), List.mem_of_getElem? (i := 2099) (by decide +kernel), List.mem_of_getElem? (i := 2100) (by decide +kernel)⟩
theorem lw_p125 : lw_okq (⟨"WordTongueModel", "isPair", "(III)Z"⟩, 119) := ⟨⟨by decide +kernel, by decide +kernel⟩, List.mem_of_getElem? (i := 1710) (by decide +kernel), List.mem_of_getElem? (i := 2103) (by decide +kernel), List.mem_of_getElem? (i := 2104) (by decide +kernel)⟩
theorem lw_p126 : lw_okq (⟨"WordTongueModel", "one", "(II)I"⟩, 119) := ⟨⟨by decide +kernel, by decide +kernel⟩, List.mem_of_getElem? (i := 1710) (by decide +kernel), List.mem_of_getElem? (i := 2107) (by decide +kernel), List.mem_of_getElem? (i := 2108) (by decide +kernel)⟩
theorem lw_p127 : lw_okq (⟨"WordTongueModel", "keyword", "(II)I"⟩, 119) := ⟨⟨by decide +kernel, by decide +kernel⟩, List.mem_of_getElem? (i := 1710) (by decide +kernel), List.mem_of_getElem? (i := 2120) (by decide +kernel), List.mem_of_getElem? (i := 2121) (by decide +kernel)⟩
def lw_privs_8 : List (MethodName × Nat) := [(⟨"WordTongue$Machine", "apply", "(II)V"⟩, 16), (⟨"WordTongue$Machine", "back", "()V"⟩, 16), (⟨"WordTongue$Machine", "link", "(IIII)V"⟩, 16), (⟨"WordTongue$Machine", "work", "(III)V"⟩, 16), (⟨"WordTongue$Machine", "serve", "()V"⟩, 16), (⟨"WordTongue$Machine", "exchange", "(II)I"⟩, 16), (⟨"WordTongue$Channels", "isOutput", "(I)Z"⟩, 5), (⟨"WordTongue$Machine", "writeString", "(I)V"⟩, 16), (⟨"WordTongue$Channels", "next", "()I"⟩, 5), (⟨"WordTongue$Machine", "reckon", "(IIII)I"⟩, 16), (⟨"WordTongue$Heap", "touched", "(II)I"⟩, 2), (⟨"WordTongueModel", "scan", "()I"⟩, 119), (⟨"WordTongueModel", "look", "(I)I"⟩, 119), (⟨"WordTongueModel", "isPair", "(III)Z"⟩, 119), (⟨"WordTongueModel", "one", "(II)I"⟩, 119), (⟨"WordTongueModel", "keyword", "(II)I"⟩, 119)]
theorem lw_r8 : ∀ q ∈ lw_privs_8, lw_okq q := List.forall_mem_cons.mpr ⟨lw_p112, List.forall_mem_cons.mpr ⟨lw_p113, List.forall_mem_cons.mpr ⟨lw_p114, List.forall_mem_cons.mpr ⟨lw_p115, List.forall_mem_cons.mpr ⟨lw_p116, List.forall_mem_cons.mpr ⟨lw_p117, List.forall_mem_cons.mpr ⟨lw_p118, List.forall_mem_cons.mpr ⟨lw_p119, List.forall_mem_cons.mpr ⟨lw_p120, List.forall_mem_cons.mpr ⟨lw_p121, List.forall_mem_cons.mpr ⟨lw_p122, List.forall_mem_cons.mpr ⟨lw_p123, List.forall_mem_cons.mpr ⟨lw_p124, List.forall_mem_cons.mpr ⟨lw_p125, List.forall_mem_cons.mpr ⟨lw_p126, List.forall_mem_cons.mpr ⟨lw_p127, fun _ h => absurd h List.not_mem_nil⟩⟩⟩⟩⟩⟩⟩⟩⟩⟩⟩⟩⟩⟩⟩⟩
theorem lw_p128 : lw_okq (⟨"WordTongueModel", "isText", "(IIJJ)Z"⟩, 119) := ⟨⟨by decide +kernel, by decide +kernel⟩, List.mem_of_getElem? (i := 1710) (by decide +kernel), List.mem_of_getElem? (i := 2125) (by decide +kernel), List.mem_of_getElem? (i := 2126) (by decide +kernel)⟩
theorem lw_p129 : lw_okq (⟨"WordTongueModel", "nameOf", "(II)I"⟩, 119) := ⟨⟨by decide +kernel, by decide +kernel⟩, List.mem_of_getElem? (i := 1710) (by decide +kernel), List.mem_of_getElem? (i := 2172) (by decide +kernel), List.mem_of_getElem? (i := 2173) (by decide +kernel)⟩
theorem lw_p130 : lw_okq (⟨"WordTongueModel", "token", "(III)V"⟩, 119) := ⟨⟨by decide +kernel, by decide +kernel⟩, List.mem_of_getElem? (i := 1710) (by decide +kernel), List.mem_of_getElem? (i := 2176) (by decide +kernel), List.mem_of_getElem? (i := 2177) (by decide +kernel)⟩
theorem lw_p131 : lw_okq (⟨"WordTongueModel", "digits", "(II)I"⟩, 119) := ⟨⟨by decide +kernel, by decide +kernel⟩, List.mem_of_getElem? (i := 1710) (by decide +kernel), List.mem_of_getElem? (i := 2189) (by decide +kernel), List.mem_of_getElem? (i := 2190) (by decide +kernel)⟩
theorem lw_p132 : lw_okq (⟨"WordTongueModel", "oneC", "(II)I"⟩, 119) := ⟨⟨by decide +kernel, by decide +kernel⟩, List.mem_of_getElem? (i := 1710) (by decide +kernel), List.mem_of_getElem? (i := 2194) (by decide +kernel), List.mem_of_getElem? (i := 2195) (by decide +kernel)⟩
theorem lw_p133 : lw_okq (⟨"WordTongueModel", "stringAt", "(I)I"⟩, 119) := ⟨⟨by decide +kernel, by decide +kernel⟩, List.mem_of_getElem? (i := 1710) (by decide +kernel), List.mem_of_getElem? (i := 2198) (by decide +kernel), List.mem_of_getElem? (i := 2199) (by decide +kernel)⟩
theorem lw_p134 : lw_okq (⟨"WordTongueModel", "signAt", "(I)I"⟩, 119) := ⟨⟨by decide +kernel, by decide +kernel⟩, List.mem_of_getElem? (i := 1710) (by decide +kernel), List.mem_of_getElem? (i := 2202) (by decide +kernel), List.mem_of_getElem? (i := 2203) (by decide +kernel)⟩
theorem lw_p135 : lw_okq (⟨"WordTongueModel", "parse", "()Z"⟩, 119) := ⟨⟨by decide +kernel, by decide +kernel⟩, List.mem_of_getElem? (i := 1710) (by decide +kernel), List.mem_of_getElem? (i := 2206) (by decide +kernel), List.mem_of_getElem? (i := 2207) (by decide +kernel)⟩
theorem lw_p136 : lw_okq (⟨"WordTongueModel", "goal", "(IIII)V"⟩, 119) := ⟨⟨by decide +kernel, by decide +kernel⟩, List.mem_of_getElem? (i := 1710) (by decide +kernel), List.mem_of_getElem? (i := 2210) (by decide +kernel), List.mem_of_getElem? (i := 2211) (by decide +kernel)⟩
theorem lw_p137 : lw_okq (⟨"WordTongueModel", "reach", "(IIII)Z"⟩, 119) := ⟨⟨by decide +kernel, by decide +kernel⟩, List.mem_of_getElem? (i := 1710) (by decide +kernel), List.mem_of_getElem? (i := 2214) (by decide +kernel), List.mem_of_getElem? (i := 2215) (by decide +kernel)⟩
theorem lw_p138 : lw_okq (⟨"WordTongueModel", "reachE", "(IIII)Z"⟩, 119) := ⟨⟨by decide +kernel, by decide +kernel⟩, List.mem_of_getElem? (i := 1710) (by decide +kernel), List.mem_of_getElem? (i := 2218) (by decide +kernel), List.mem_of_getElem? (i := 2219) (by decide +kernel)⟩
theorem lw_p139 : lw_okq (⟨"WordTongueModel", "tk", "()I"⟩, 119) := ⟨⟨by decide +kernel, by decide +kernel⟩, List.mem_of_getElem? (i := 1710) (by decide +kernel), List.mem_of_getElem? (i := 2222) (by decide +kernel), List.mem_of_getElem? (i := 2223) (by decide +kernel)⟩
theorem lw_p140 : lw_okq (⟨"WordTongueModel", "deeper", "()Z"⟩, 119) := ⟨⟨by decide +kernel, by decide +kernel⟩, List.mem_of_getElem? (i := 1710) (by decide +kernel), List.mem_of_getElem? (i := 2226) (by decide +kernel), List.mem_of_getElem? (i := 2227) (by decide +kernel)⟩
theorem lw_p141 : lw_okq (⟨"WordTongueModel", "take", "(I)Z"⟩, 119) := ⟨⟨by decide +kernel, by decide +kernel⟩, List.mem_of_getElem? (i := 1710) (by decide +kernel), List.mem_of_getElem? (i := 2230) (by decide +kernel), List.mem_of_getElem? (i := 2231) (by decide +kernel)⟩
theorem lw_p142 : lw_okq (⟨"WordTongueModel", "shut", "(IIII)I"⟩, 119) := ⟨⟨by decide +kernel, by decide +kernel⟩, List.mem_of_getElem? (i := 1710) (by decide +kernel), List.mem_of_getElem? (i := 2234) (by decide +kernel), List.mem_of_getElem? (i := 2235) (by decide +kernel)⟩
theorem lw_p143 : lw_okq (⟨"WordTongueModel", "node", "(III)I"⟩, 119) := ⟨⟨by decide +kernel, by decide +kernel⟩, List.mem_of_getElem? (i := 1710) (by decide +kernel), List.mem_of_getElem? (i := 2238) (by decide +kernel), List.mem_of_getElem? (i := 2239) (by decide +kernel)⟩
def lw_privs_9 : List (MethodName × Nat) := [(⟨"WordTongueModel", "isText", "(IIJJ)Z"⟩, 119), (⟨"WordTongueModel", "nameOf", "(II)I"⟩, 119), (⟨"WordTongueModel", "token", "(III)V"⟩, 119), (⟨"WordTongueModel", "digits", "(II)I"⟩, 119), (⟨"WordTongueModel", "oneC", "(II)I"⟩, 119), (⟨"WordTongueModel", "stringAt", "(I)I"⟩, 119), (⟨"WordTongueModel", "signAt", "(I)I"⟩, 119), (⟨"WordTongueModel", "parse", "()Z"⟩, 119), (⟨"WordTongueModel", "goal", "(IIII)V"⟩, 119), (⟨"WordTongueModel", "reach", "(IIII)Z"⟩, 119), (⟨"WordTongueModel", "reachE", "(IIII)Z"⟩, 119), (⟨"WordTongueModel", "tk", "()I"⟩, 119), (⟨"WordTongueModel", "deeper", "()Z"⟩, 119), (⟨"WordTongueModel", "take", "(I)Z"⟩, 119), (⟨"WordTongueModel", "shut", "(IIII)I"⟩, 119), (⟨"WordTongueModel", "node", "(III)I"⟩, 119)]
theorem lw_r9 : ∀ q ∈ lw_privs_9, lw_okq q := List.forall_mem_cons.mpr ⟨lw_p128, List.forall_mem_cons.mpr ⟨lw_p129, List.forall_mem_cons.mpr ⟨lw_p130, List.forall_mem_cons.mpr ⟨lw_p131, List.forall_mem_cons.mpr ⟨lw_p132, List.forall_mem_cons.mpr ⟨lw_p133, List.forall_mem_cons.mpr ⟨lw_p134, List.forall_mem_cons.mpr ⟨lw_p135, List.forall_mem_cons.mpr ⟨lw_p136, List.forall_mem_cons.mpr ⟨lw_p137, List.forall_mem_cons.mpr ⟨lw_p138, List.forall_mem_cons.mpr ⟨lw_p139, List.forall_mem_cons.mpr ⟨lw_p140, List.forall_mem_cons.mpr ⟨lw_p141, List.forall_mem_cons.mpr ⟨lw_p142, List.forall_mem_cons.mpr ⟨lw_p143, fun _ h => absurd h List.not_mem_nil⟩⟩⟩⟩⟩⟩⟩⟩⟩⟩⟩⟩⟩⟩⟩⟩
theorem lw_p144 : lw_okq (⟨"WordTongueModel", "binary", "(III)V"⟩, 119) := ⟨⟨by decide +kernel, by decide +kernel⟩, List.mem_of_getElem? (i := 1710) (by decide +kernel), List.mem_of_getElem? (i := 2245) (by decide +kernel), List.mem_of_getElem? (i := 2246) (by decide +kernel)⟩
theorem lw_p145 : lw_okq (⟨"WordTongueModel", "calls", "(III)Z"⟩, 119) := ⟨⟨by decide +kernel, by decide +kernel⟩, List.mem_of_getElem? (i := 1710) (by decide +kernel), List.mem_of_getElem? (i := 2249) (by decide +kernel), List.mem_of_getElem? (i := 2250) (by decide +kernel)⟩
theorem lw_p146 : lw_okq (⟨"WordTongueModel", "primary", "(II)Z"⟩, 119) := ⟨⟨by decide +kernel, by decide +kernel⟩, List.mem_of_getElem? (i := 1710) (by decide +kernel), List.mem_of_getElem? (i := 2253) (by decide +kernel), List.mem_of_getElem? (i := 2254) (by decide +kernel)⟩
theorem lw_p147 : lw_okq (⟨"WordTongueModel", "leaf", "(III)V"⟩, 119) := ⟨⟨by decide +kernel, by decide +kernel⟩, List.mem_of_getElem? (i := 1710) (by decide +kernel), List.mem_of_getElem? (i := 2257) (by decide +kernel), List.mem_of_getElem? (i := 2258) (by decide +kernel)⟩
theorem lw_p148 : lw_okq (⟨"WordTongueModel", "openSection", "()Z"⟩, 119) := ⟨⟨by decide +kernel, by decide +kernel⟩, List.mem_of_getElem? (i := 1710) (by decide +kernel), List.mem_of_getElem? (i := 2261) (by decide +kernel), List.mem_of_getElem? (i := 2262) (by decide +kernel)⟩
theorem lw_p149 : lw_okq (⟨"WordTongueModel", "reachD", "(IIII)Z"⟩, 119) := ⟨⟨by decide +kernel, by decide +kernel⟩, List.mem_of_getElem? (i := 1710) (by decide +kernel), List.mem_of_getElem? (i := 2265) (by decide +kernel), List.mem_of_getElem? (i := 2266) (by decide +kernel)⟩
theorem lw_p150 : lw_okq (⟨"WordTongueModel", "shutSection", "()Z"⟩, 119) := ⟨⟨by decide +kernel, by decide +kernel⟩, List.mem_of_getElem? (i := 1710) (by decide +kernel), List.mem_of_getElem? (i := 2272) (by decide +kernel), List.mem_of_getElem? (i := 2273) (by decide +kernel)⟩
theorem lw_p151 : lw_okq (⟨"WordTongueModel", "reachP", "(I)Z"⟩, 119) := ⟨⟨by decide +kernel, by decide +kernel⟩, List.mem_of_getElem? (i := 1710) (by decide +kernel), List.mem_of_getElem? (i := 2276) (by decide +kernel), List.mem_of_getElem? (i := 2277) (by decide +kernel)⟩
theorem lw_p152 : lw_okq (⟨"WordTongueModel", "reachC", "(IIII)Z"⟩, 119) := ⟨⟨by decide +kernel, by decide +kernel⟩, List.mem_of_getElem? (i := 1710) (by decide +kernel), List.mem_of_getElem? (i := 2280) (by decide +kernel), List.mem_of_getElem? (i := 2281) (by decide +kernel)⟩
theorem lw_p153 : lw_okq (⟨"WordTongueModel", "command", "(III)Z"⟩, 119) := ⟨⟨by decide +kernel, by decide +kernel⟩, List.mem_of_getElem? (i := 1710) (by decide +kernel), List.mem_of_getElem? (i := 2284) (by decide +kernel), List.mem_of_getElem? (i := 2285) (by decide +kernel)⟩
theorem lw_p154 : lw_okq (⟨"WordTongueModel", "labels", "(I)V"⟩, 119) := ⟨⟨by decide +kernel, by decide +kernel⟩, List.mem_of_getElem? (i := 1710) (by decide +kernel), List.mem_of_getElem? (i := 2291) (by decide +kernel), List.mem_of_getElem? (i := 2292) (by decide +kernel)⟩
theorem lw_p155 : lw_okq (⟨"WordTongueModel", "tkNext", "()I"⟩, 119) := ⟨⟨by decide +kernel, by decide +kernel⟩, List.mem_of_getElem? (i := 1710) (by decide +kernel), List.mem_of_getElem? (i := 2295) (by decide +kernel), List.mem_of_getElem? (i := 2296) (by decide +kernel)⟩
theorem lw_p156 : lw_okq (⟨"WordTongueModel", "pairs", "(I)V"⟩, 119) := ⟨⟨by decide +kernel, by decide +kernel⟩, List.mem_of_getElem? (i := 1710) (by decide +kernel), List.mem_of_getElem? (i := 2299) (by decide +kernel), List.mem_of_getElem? (i := 2300) (by decide +kernel)⟩
theorem lw_p157 : lw_okq (⟨"WordTongueModel", "fault", "(II)V"⟩, 119) := ⟨⟨by decide +kernel, by decide +kernel⟩, List.mem_of_getElem? (i := 1710) (by decide +kernel), List.mem_of_getElem? (i := 2303) (by decide +kernel), List.mem_of_getElem? (i := 2304) (by decide +kernel)⟩
theorem lw_p158 : lw_okq (⟨"WordTongueModel", "check", "()V"⟩, 119) := ⟨⟨by decide +kernel, by decide +kernel⟩, List.mem_of_getElem? (i := 1710) (by decide +kernel), List.mem_of_getElem? (i := 2307) (by decide +kernel), List.mem_of_getElem? (i := 2308) (by decide +kernel)⟩
theorem lw_p159 : lw_okq (⟨"WordTongueModel", "library", "()V"⟩, 119) := ⟨⟨by decide +kernel, by decide +kernel⟩, List.mem_of_getElem? (i := 1710) (by decide +kernel), List.mem_of_getElem? (i := 2311) (by decide +kernel), List.mem_of_getElem? (i := 2312) (by decide +kernel)⟩
def lw_privs_10 : List (MethodName × Nat) := [(⟨"WordTongueModel", "binary", "(III)V"⟩, 119), (⟨"WordTongueModel", "calls", "(III)Z"⟩, 119), (⟨"WordTongueModel", "primary", "(II)Z"⟩, 119), (⟨"WordTongueModel", "leaf", "(III)V"⟩, 119), (⟨"WordTongueModel", "openSection", "()Z"⟩, 119), (⟨"WordTongueModel", "reachD", "(IIII)Z"⟩, 119), (⟨"WordTongueModel", "shutSection", "()Z"⟩, 119), (⟨"WordTongueModel", "reachP", "(I)Z"⟩, 119), (⟨"WordTongueModel", "reachC", "(IIII)Z"⟩, 119), (⟨"WordTongueModel", "command", "(III)Z"⟩, 119), (⟨"WordTongueModel", "labels", "(I)V"⟩, 119), (⟨"WordTongueModel", "tkNext", "()I"⟩, 119), (⟨"WordTongueModel", "pairs", "(I)V"⟩, 119), (⟨"WordTongueModel", "fault", "(II)V"⟩, 119), (⟨"WordTongueModel", "check", "()V"⟩, 119), (⟨"WordTongueModel", "library", "()V"⟩, 119)]
theorem lw_r10 : ∀ q ∈ lw_privs_10, lw_okq q := List.forall_mem_cons.mpr ⟨lw_p144, List.forall_mem_cons.mpr ⟨lw_p145, List.forall_mem_cons.mpr ⟨lw_p146, List.forall_mem_cons.mpr ⟨lw_p147, List.forall_mem_cons.mpr ⟨lw_p148, List.forall_mem_cons.mpr ⟨lw_p149, List.forall_mem_cons.mpr ⟨lw_p150, List.forall_mem_cons.mpr ⟨lw_p151, List.forall_mem_cons.mpr ⟨lw_p152, List.forall_mem_cons.mpr ⟨lw_p153, List.forall_mem_cons.mpr ⟨lw_p154, List.forall_mem_cons.mpr ⟨lw_p155, List.forall_mem_cons.mpr ⟨lw_p156, List.forall_mem_cons.mpr ⟨lw_p157, List.forall_mem_cons.mpr ⟨lw_p158, List.forall_mem_cons.mpr ⟨lw_p159, fun _ h => absurd h List.not_mem_nil⟩⟩⟩⟩⟩⟩⟩⟩⟩⟩⟩⟩⟩⟩⟩⟩
theorem lw_p160 : lw_okq (⟨"WordTongueModel", "lib", "(JJI)V"⟩, 119) := ⟨⟨by decide +kernel, by decide +kernel⟩, List.mem_of_getElem? (i := 1710) (by decide +kernel), List.mem_of_getElem? (i := 2316) (by decide +kernel), List.mem_of_getElem? (i := 2317) (by decide +kernel)⟩
theorem lw_p161 : lw_okq (⟨"WordTongueModel", "entry", "(IIIII)I"⟩, 119) := ⟨⟨by decide +kernel, by decide +kernel⟩, List.mem_of_getElem? (i := 1710) (by decide +kernel), List.mem_of_getElem? (i := 2321) (by decide +kernel), List.mem_of_getElem? (i := 2322) (by decide +kernel)⟩
theorem lw_p162 : lw_okq (⟨"WordTongueModel", "children", "(II)V"⟩, 119) := ⟨⟨by decide +kernel, by decide +kernel⟩, List.mem_of_getElem? (i := 1710) (by decide +kernel), List.mem_of_getElem? (i := 2345) (by decide +kernel), List.mem_of_getElem? (i := 2346) (by decide +kernel)⟩
theorem lw_p163 : lw_okq (⟨"WordTongueModel", "task", "(III)V"⟩, 119) := ⟨⟨by decide +kernel, by decide +kernel⟩, List.mem_of_getElem? (i := 1710) (by decide +kernel), List.mem_of_getElem? (i := 2349) (by decide +kernel), List.mem_of_getElem? (i := 2350) (by decide +kernel)⟩
theorem lw_p164 : lw_okq (⟨"WordTongueModel", "turn", "(I)V"⟩, 119) := ⟨⟨by decide +kernel, by decide +kernel⟩, List.mem_of_getElem? (i := 1710) (by decide +kernel), List.mem_of_getElem? (i := 2353) (by decide +kernel), List.mem_of_getElem? (i := 2354) (by decide +kernel)⟩
theorem lw_p165 : lw_okq (⟨"WordTongueModel", "go", "(III)V"⟩, 119) := ⟨⟨by decide +kernel, by decide +kernel⟩, List.mem_of_getElem? (i := 1710) (by decide +kernel), List.mem_of_getElem? (i := 2357) (by decide +kernel), List.mem_of_getElem? (i := 2358) (by decide +kernel)⟩
theorem lw_p166 : lw_okq (⟨"WordTongueModel", "declaration", "(I)V"⟩, 119) := ⟨⟨by decide +kernel, by decide +kernel⟩, List.mem_of_getElem? (i := 1710) (by decide +kernel), List.mem_of_getElem? (i := 2361) (by decide +kernel), List.mem_of_getElem? (i := 2362) (by decide +kernel)⟩
theorem lw_p167 : lw_okq (⟨"WordTongueModel", "letRoutines", "(I)V"⟩, 119) := ⟨⟨by decide +kernel, by decide +kernel⟩, List.mem_of_getElem? (i := 1710) (by decide +kernel), List.mem_of_getElem? (i := 2365) (by decide +kernel), List.mem_of_getElem? (i := 2366) (by decide +kernel)⟩
theorem lw_p168 : lw_okq (⟨"WordTongueModel", "nameToken", "(I)I"⟩, 119) := ⟨⟨by decide +kernel, by decide +kernel⟩, List.mem_of_getElem? (i := 1710) (by decide +kernel), List.mem_of_getElem? (i := 2369) (by decide +kernel), List.mem_of_getElem? (i := 2370) (by decide +kernel)⟩
theorem lw_p169 : lw_okq (⟨"WordTongueModel", "means", "(I)I"⟩, 119) := ⟨⟨by decide +kernel, by decide +kernel⟩, List.mem_of_getElem? (i := 1710) (by decide +kernel), List.mem_of_getElem? (i := 2373) (by decide +kernel), List.mem_of_getElem? (i := 2374) (by decide +kernel)⟩
theorem lw_p170 : lw_okq (⟨"WordTongueModel", "place", "(I)I"⟩, 119) := ⟨⟨by decide +kernel, by decide +kernel⟩, List.mem_of_getElem? (i := 1710) (by decide +kernel), List.mem_of_getElem? (i := 2377) (by decide +kernel), List.mem_of_getElem? (i := 2378) (by decide +kernel)⟩
theorem lw_p171 : lw_okq (⟨"WordTongueModel", "declare", "(IIIIII)I"⟩, 119) := ⟨⟨by decide +kernel, by decide +kernel⟩, List.mem_of_getElem? (i := 1710) (by decide +kernel), List.mem_of_getElem? (i := 2381) (by decide +kernel), List.mem_of_getElem? (i := 2382) (by decide +kernel)⟩
theorem lw_p172 : lw_okq (⟨"WordTongueModel", "tokenOfTwice", "(II)I"⟩, 119) := ⟨⟨by decide +kernel, by decide +kernel⟩, List.mem_of_getElem? (i := 1710) (by decide +kernel), List.mem_of_getElem? (i := 2385) (by decide +kernel), List.mem_of_getElem? (i := 2386) (by decide +kernel)⟩
theorem lw_p173 : lw_okq (⟨"WordTongueModel", "constant", "(I)V"⟩, 119) := ⟨⟨by decide +kernel, by decide +kernel⟩, List.mem_of_getElem? (i := 1710) (by decide +kernel), List.mem_of_getElem? (i := 2389) (by decide +kernel), List.mem_of_getElem? (i := 2390) (by decide +kernel)⟩
theorem lw_p174 : lw_okq (⟨"WordTongueModel", "isK", "(I)Z"⟩, 119) := ⟨⟨by decide +kernel, by decide +kernel⟩, List.mem_of_getElem? (i := 1710) (by decide +kernel), List.mem_of_getElem? (i := 2393) (by decide +kernel), List.mem_of_getElem? (i := 2394) (by decide +kernel)⟩
theorem lw_p175 : lw_okq (⟨"WordTongueModel", "isKName", "(I)Z"⟩, 119) := ⟨⟨by decide +kernel, by decide +kernel⟩, List.mem_of_getElem? (i := 1710) (by decide +kernel), List.mem_of_getElem? (i := 2397) (by decide +kernel), List.mem_of_getElem? (i := 2398) (by decide +kernel)⟩
def lw_privs_11 : List (MethodName × Nat) := [(⟨"WordTongueModel", "lib", "(JJI)V"⟩, 119), (⟨"WordTongueModel", "entry", "(IIIII)I"⟩, 119), (⟨"WordTongueModel", "children", "(II)V"⟩, 119), (⟨"WordTongueModel", "task", "(III)V"⟩, 119), (⟨"WordTongueModel", "turn", "(I)V"⟩, 119), (⟨"WordTongueModel", "go", "(III)V"⟩, 119), (⟨"WordTongueModel", "declaration", "(I)V"⟩, 119), (⟨"WordTongueModel", "letRoutines", "(I)V"⟩, 119), (⟨"WordTongueModel", "nameToken", "(I)I"⟩, 119), (⟨"WordTongueModel", "means", "(I)I"⟩, 119), (⟨"WordTongueModel", "place", "(I)I"⟩, 119), (⟨"WordTongueModel", "declare", "(IIIIII)I"⟩, 119), (⟨"WordTongueModel", "tokenOfTwice", "(II)I"⟩, 119), (⟨"WordTongueModel", "constant", "(I)V"⟩, 119), (⟨"WordTongueModel", "isK", "(I)Z"⟩, 119), (⟨"WordTongueModel", "isKName", "(I)Z"⟩, 119)]
theorem lw_r11 : ∀ q ∈ lw_privs_11, lw_okq q := List.forall_mem_cons.mpr ⟨lw_p160, List.forall_mem_cons.mpr ⟨lw_p161, List.forall_mem_cons.mpr ⟨lw_p162, List.forall_mem_cons.mpr ⟨lw_p163, List.forall_mem_cons.mpr ⟨lw_p164, List.forall_mem_cons.mpr ⟨lw_p165, List.forall_mem_cons.mpr ⟨lw_p166, List.forall_mem_cons.mpr ⟨lw_p167, List.forall_mem_cons.mpr ⟨lw_p168, List.forall_mem_cons.mpr ⟨lw_p169, List.forall_mem_cons.mpr ⟨lw_p170, List.forall_mem_cons.mpr ⟨lw_p171, List.forall_mem_cons.mpr ⟨lw_p172, List.forall_mem_cons.mpr ⟨lw_p173, List.forall_mem_cons.mpr ⟨lw_p174, List.forall_mem_cons.mpr ⟨lw_p175, fun _ h => absurd h List.not_mem_nil⟩⟩⟩⟩⟩⟩⟩⟩⟩⟩⟩⟩⟩⟩⟩⟩
theorem lw_p176 : lw_okq (⟨"WordTongueModel", "later", "(II)I"⟩, 119) := ⟨⟨by decide +kernel, by decide +kernel⟩, List.mem_of_getElem? (i := 1710) (by decide +kernel), List.mem_of_getElem? (i := 2401) (by decide +kernel), List.mem_of_getElem? (i := 2402) (by decide +kernel)⟩
theorem lw_p177 : lw_okq (⟨"WordTongueModel", "init", "(II)V"⟩, 119) := ⟨⟨by decide +kernel, by decide +kernel⟩, List.mem_of_getElem? (i := 1710) (by decide +kernel), List.mem_of_getElem? (i := 2423) (by decide +kernel), List.mem_of_getElem? (i := 2424) (by decide +kernel)⟩
theorem lw_p178 : lw_okq (⟨"WordTongueModel", "commandOf", "(I)V"⟩, 119) := ⟨⟨by decide +kernel, by decide +kernel⟩, List.mem_of_getElem? (i := 1710) (by decide +kernel), List.mem_of_getElem? (i := 2427) (by decide +kernel), List.mem_of_getElem? (i := 2428) (by decide +kernel)⟩
theorem lw_p179 : lw_okq (⟨"WordTongueModel", "beginBlock", "()V"⟩, 119) := ⟨⟨by decide +kernel, by decide +kernel⟩, List.mem_of_getElem? (i := 1710) (by decide +kernel), List.mem_of_getElem? (i := 2431) (by decide +kernel), List.mem_of_getElem? (i := 2432) (by decide +kernel)⟩
theorem lw_p180 : lw_okq (⟨"WordTongueModel", "put", "(I)V"⟩, 119) := ⟨⟨by decide +kernel, by decide +kernel⟩, List.mem_of_getElem? (i := 1710) (by decide +kernel), List.mem_of_getElem? (i := 2435) (by decide +kernel), List.mem_of_getElem? (i := 2436) (by decide +kernel)⟩
theorem lw_p181 : lw_okq (⟨"WordTongueModel", "labelsOf", "(I)V"⟩, 119) := ⟨⟨by decide +kernel, by decide +kernel⟩, List.mem_of_getElem? (i := 1710) (by decide +kernel), List.mem_of_getElem? (i := 2439) (by decide +kernel), List.mem_of_getElem? (i := 2440) (by decide +kernel)⟩
theorem lw_p182 : lw_okq (⟨"WordTongueModel", "goesTo", "(I)V"⟩, 119) := ⟨⟨by decide +kernel, by decide +kernel⟩, List.mem_of_getElem? (i := 1710) (by decide +kernel), List.mem_of_getElem? (i := 2443) (by decide +kernel), List.mem_of_getElem? (i := 2444) (by decide +kernel)⟩
theorem lw_p183 : lw_okq (⟨"WordTongueModel", "expressionOf", "(I)V"⟩, 119) := ⟨⟨by decide +kernel, by decide +kernel⟩, List.mem_of_getElem? (i := 1710) (by decide +kernel), List.mem_of_getElem? (i := 2447) (by decide +kernel), List.mem_of_getElem? (i := 2448) (by decide +kernel)⟩
theorem lw_p184 : lw_okq (⟨"WordTongueModel", "named", "(I)I"⟩, 119) := ⟨⟨by decide +kernel, by decide +kernel⟩, List.mem_of_getElem? (i := 1710) (by decide +kernel), List.mem_of_getElem? (i := 2451) (by decide +kernel), List.mem_of_getElem? (i := 2452) (by decide +kernel)⟩
theorem lw_p185 : lw_okq (⟨"WordTongueModel", "string", "(I)V"⟩, 119) := ⟨⟨by decide +kernel, by decide +kernel⟩, List.mem_of_getElem? (i := 1710) (by decide +kernel), List.mem_of_getElem? (i := 2455) (by decide +kernel), List.mem_of_getElem? (i := 2456) (by decide +kernel)⟩
theorem lw_p186 : lw_okq (⟨"WordTongueModel", "placeOf", "(IZ)V"⟩, 119) := ⟨⟨by decide +kernel, by decide +kernel⟩, List.mem_of_getElem? (i := 1710) (by decide +kernel), List.mem_of_getElem? (i := 2459) (by decide +kernel), List.mem_of_getElem? (i := 2460) (by decide +kernel)⟩
theorem lw_p187 : lw_okq (⟨"WordTongueModel", "routineOf", "(II)V"⟩, 119) := ⟨⟨by decide +kernel, by decide +kernel⟩, List.mem_of_getElem? (i := 1710) (by decide +kernel), List.mem_of_getElem? (i := 2463) (by decide +kernel), List.mem_of_getElem? (i := 2464) (by decide +kernel)⟩
theorem lw_p188 : lw_okq (⟨"WordTongueModel", "routineEnds", "(I)V"⟩, 119) := ⟨⟨by decide +kernel, by decide +kernel⟩, List.mem_of_getElem? (i := 1710) (by decide +kernel), List.mem_of_getElem? (i := 2468) (by decide +kernel), List.mem_of_getElem? (i := 2469) (by decide +kernel)⟩
theorem lw_p189 : lw_okq (⟨"WordTongueModel", "pull", "()I"⟩, 119) := ⟨⟨by decide +kernel, by decide +kernel⟩, List.mem_of_getElem? (i := 1710) (by decide +kernel), List.mem_of_getElem? (i := 2472) (by decide +kernel), List.mem_of_getElem? (i := 2473) (by decide +kernel)⟩
theorem lw_p190 : lw_okq (⟨"WordTongueModel", "varsEnd", "(I)V"⟩, 119) := ⟨⟨by decide +kernel, by decide +kernel⟩, List.mem_of_getElem? (i := 1710) (by decide +kernel), List.mem_of_getElem? (i := 2476) (by decide +kernel), List.mem_of_getElem? (i := 2477) (by decide +kernel)⟩
theorem lw_p191 : lw_okq (⟨"WordTongueModel", "uses", "(I)V"⟩, 119) := ⟨⟨by decide +kernel, by decide +kernel⟩, List.mem_of_getElem? (i := 1710) (by decide +kernel), List.mem_of_getElem? (i := 2480) (by decide +kernel), List.mem_of_getElem? (i := 2481) (by decide +kernel)⟩
def lw_privs_12 : List (MethodName × Nat) := [(⟨"WordTongueModel", "later", "(II)I"⟩, 119), (⟨"WordTongueModel", "init", "(II)V"⟩, 119), (⟨"WordTongueModel", "commandOf", "(I)V"⟩, 119), (⟨"WordTongueModel", "beginBlock", "()V"⟩, 119), (⟨"WordTongueModel", "put", "(I)V"⟩, 119), (⟨"WordTongueModel", "labelsOf", "(I)V"⟩, 119), (⟨"WordTongueModel", "goesTo", "(I)V"⟩, 119), (⟨"WordTongueModel", "expressionOf", "(I)V"⟩, 119), (⟨"WordTongueModel", "named", "(I)I"⟩, 119), (⟨"WordTongueModel", "string", "(I)V"⟩, 119), (⟨"WordTongueModel", "placeOf", "(IZ)V"⟩, 119), (⟨"WordTongueModel", "routineOf", "(II)V"⟩, 119), (⟨"WordTongueModel", "routineEnds", "(I)V"⟩, 119), (⟨"WordTongueModel", "pull", "()I"⟩, 119), (⟨"WordTongueModel", "varsEnd", "(I)V"⟩, 119), (⟨"WordTongueModel", "uses", "(I)V"⟩, 119)]
theorem lw_r12 : ∀ q ∈ lw_privs_12, lw_okq q := List.forall_mem_cons.mpr ⟨lw_p176, List.forall_mem_cons.mpr ⟨lw_p177, List.forall_mem_cons.mpr ⟨lw_p178, List.forall_mem_cons.mpr ⟨lw_p179, List.forall_mem_cons.mpr ⟨lw_p180, List.forall_mem_cons.mpr ⟨lw_p181, List.forall_mem_cons.mpr ⟨lw_p182, List.forall_mem_cons.mpr ⟨lw_p183, List.forall_mem_cons.mpr ⟨lw_p184, List.forall_mem_cons.mpr ⟨lw_p185, List.forall_mem_cons.mpr ⟨lw_p186, List.forall_mem_cons.mpr ⟨lw_p187, List.forall_mem_cons.mpr ⟨lw_p188, List.forall_mem_cons.mpr ⟨lw_p189, List.forall_mem_cons.mpr ⟨lw_p190, List.forall_mem_cons.mpr ⟨lw_p191, fun _ h => absurd h List.not_mem_nil⟩⟩⟩⟩⟩⟩⟩⟩⟩⟩⟩⟩⟩⟩⟩⟩
theorem lw_p192 : lw_okq (⟨"WordTongueModel", "blockEnds", "(I)V"⟩, 119) := ⟨⟨by decide +kernel, by decide +kernel⟩, List.mem_of_getElem? (i := 1710) (by decide +kernel), List.mem_of_getElem? (i := 2485) (by decide +kernel), List.mem_of_getElem? (i := 2486) (by decide +kernel)⟩
theorem lw_p193 : lw_okq (⟨"WordTongueModel", "forName", "(I)V"⟩, 119) := ⟨⟨by decide +kernel, by decide +kernel⟩, List.mem_of_getElem? (i := 1710) (by decide +kernel), List.mem_of_getElem? (i := 2489) (by decide +kernel), List.mem_of_getElem? (i := 2490) (by decide +kernel)⟩
theorem lw_p194 : lw_okq (⟨"WordTongueModel", "switchOf", "(I)V"⟩, 119) := ⟨⟨by decide +kernel, by decide +kernel⟩, List.mem_of_getElem? (i := 1710) (by decide +kernel), List.mem_of_getElem? (i := 2493) (by decide +kernel), List.mem_of_getElem? (i := 2494) (by decide +kernel)⟩
theorem lw_p195 : lw_okq (⟨"WordTongueModel", "isTwice", "(II)Z"⟩, 119) := ⟨⟨by decide +kernel, by decide +kernel⟩, List.mem_of_getElem? (i := 1710) (by decide +kernel), List.mem_of_getElem? (i := 2497) (by decide +kernel), List.mem_of_getElem? (i := 2498) (by decide +kernel)⟩
theorem lw_p196 : lw_okq (⟨"WordTongueModel", "part", "(I)V"⟩, 119) := ⟨⟨by decide +kernel, by decide +kernel⟩, List.mem_of_getElem? (i := 1710) (by decide +kernel), List.mem_of_getElem? (i := 2501) (by decide +kernel), List.mem_of_getElem? (i := 2502) (by decide +kernel)⟩
theorem lw_p197 : lw_okq (⟨"WordTongueModel", "rowsOf", "(I)V"⟩, 119) := ⟨⟨by decide +kernel, by decide +kernel⟩, List.mem_of_getElem? (i := 1710) (by decide +kernel), List.mem_of_getElem? (i := 2518) (by decide +kernel), List.mem_of_getElem? (i := 2519) (by decide +kernel)⟩
theorem lw_p198 : lw_okq (⟨"WordTongueModel", "enter", "(III)V"⟩, 119) := ⟨⟨by decide +kernel, by decide +kernel⟩, List.mem_of_getElem? (i := 1710) (by decide +kernel), List.mem_of_getElem? (i := 2530) (by decide +kernel), List.mem_of_getElem? (i := 2531) (by decide +kernel)⟩
theorem lw_p199 : lw_okq (⟨"WordTongueModel", "burns", "()Z"⟩, 119) := ⟨⟨by decide +kernel, by decide +kernel⟩, List.mem_of_getElem? (i := 1710) (by decide +kernel), List.mem_of_getElem? (i := 2534) (by decide +kernel), List.mem_of_getElem? (i := 2535) (by decide +kernel)⟩
theorem lw_p200 : lw_okq (⟨"WordTongueModel", "err", "(I)V"⟩, 119) := ⟨⟨by decide +kernel, by decide +kernel⟩, List.mem_of_getElem? (i := 1710) (by decide +kernel), List.mem_of_getElem? (i := 2538) (by decide +kernel), List.mem_of_getElem? (i := 2539) (by decide +kernel)⟩
theorem lw_p201 : lw_okq (⟨"WordTongueModel", "limit", "()I"⟩, 119) := ⟨⟨by decide +kernel, by decide +kernel⟩, List.mem_of_getElem? (i := 1710) (by decide +kernel), List.mem_of_getElem? (i := 2542) (by decide +kernel), List.mem_of_getElem? (i := 2543) (by decide +kernel)⟩
theorem lw_p202 : lw_okq (⟨"WordTongueModel", "todoTask", "(III)V"⟩, 119) := ⟨⟨by decide +kernel, by decide +kernel⟩, List.mem_of_getElem? (i := 1710) (by decide +kernel), List.mem_of_getElem? (i := 2546) (by decide +kernel), List.mem_of_getElem? (i := 2547) (by decide +kernel)⟩
theorem lw_p203 : lw_okq (⟨"WordTongueModel", "doNext", "()V"⟩, 119) := ⟨⟨by decide +kernel, by decide +kernel⟩, List.mem_of_getElem? (i := 1710) (by decide +kernel), List.mem_of_getElem? (i := 2553) (by decide +kernel), List.mem_of_getElem? (i := 2554) (by decide +kernel)⟩
theorem lw_p204 : lw_okq (⟨"WordTongueModel", "evaluate", "(I)V"⟩, 119) := ⟨⟨by decide +kernel, by decide +kernel⟩, List.mem_of_getElem? (i := 1710) (by decide +kernel), List.mem_of_getElem? (i := 2557) (by decide +kernel), List.mem_of_getElem? (i := 2558) (by decide +kernel)⟩
theorem lw_p205 : lw_okq (⟨"WordTongueModel", "push", "(I)V"⟩, 119) := ⟨⟨by decide +kernel, by decide +kernel⟩, List.mem_of_getElem? (i := 1710) (by decide +kernel), List.mem_of_getElem? (i := 2561) (by decide +kernel), List.mem_of_getElem? (i := 2562) (by decide +kernel)⟩
theorem lw_p206 : lw_okq (⟨"WordTongueModel", "wordOf", "(I)I"⟩, 119) := ⟨⟨by decide +kernel, by decide +kernel⟩, List.mem_of_getElem? (i := 1710) (by decide +kernel), List.mem_of_getElem? (i := 2565) (by decide +kernel), List.mem_of_getElem? (i := 2566) (by decide +kernel)⟩
theorem lw_p207 : lw_okq (⟨"WordTongueModel", "address", "(I)V"⟩, 119) := ⟨⟨by decide +kernel, by decide +kernel⟩, List.mem_of_getElem? (i := 1710) (by decide +kernel), List.mem_of_getElem? (i := 2569) (by decide +kernel), List.mem_of_getElem? (i := 2570) (by decide +kernel)⟩
def lw_privs_13 : List (MethodName × Nat) := [(⟨"WordTongueModel", "blockEnds", "(I)V"⟩, 119), (⟨"WordTongueModel", "forName", "(I)V"⟩, 119), (⟨"WordTongueModel", "switchOf", "(I)V"⟩, 119), (⟨"WordTongueModel", "isTwice", "(II)Z"⟩, 119), (⟨"WordTongueModel", "part", "(I)V"⟩, 119), (⟨"WordTongueModel", "rowsOf", "(I)V"⟩, 119), (⟨"WordTongueModel", "enter", "(III)V"⟩, 119), (⟨"WordTongueModel", "burns", "()Z"⟩, 119), (⟨"WordTongueModel", "err", "(I)V"⟩, 119), (⟨"WordTongueModel", "limit", "()I"⟩, 119), (⟨"WordTongueModel", "todoTask", "(III)V"⟩, 119), (⟨"WordTongueModel", "doNext", "()V"⟩, 119), (⟨"WordTongueModel", "evaluate", "(I)V"⟩, 119), (⟨"WordTongueModel", "push", "(I)V"⟩, 119), (⟨"WordTongueModel", "wordOf", "(I)I"⟩, 119), (⟨"WordTongueModel", "address", "(I)V"⟩, 119)]
theorem lw_r13 : ∀ q ∈ lw_privs_13, lw_okq q := List.forall_mem_cons.mpr ⟨lw_p192, List.forall_mem_cons.mpr ⟨lw_p193, List.forall_mem_cons.mpr ⟨lw_p194, List.forall_mem_cons.mpr ⟨lw_p195, List.forall_mem_cons.mpr ⟨lw_p196, List.forall_mem_cons.mpr ⟨lw_p197, List.forall_mem_cons.mpr ⟨lw_p198, List.forall_mem_cons.mpr ⟨lw_p199, List.forall_mem_cons.mpr ⟨lw_p200, List.forall_mem_cons.mpr ⟨lw_p201, List.forall_mem_cons.mpr ⟨lw_p202, List.forall_mem_cons.mpr ⟨lw_p203, List.forall_mem_cons.mpr ⟨lw_p204, List.forall_mem_cons.mpr ⟨lw_p205, List.forall_mem_cons.mpr ⟨lw_p206, List.forall_mem_cons.mpr ⟨lw_p207, fun _ h => absurd h List.not_mem_nil⟩⟩⟩⟩⟩⟩⟩⟩⟩⟩⟩⟩⟩⟩⟩⟩
theorem lw_p208 : lw_okq (⟨"WordTongueModel", "turnTodo", "(I)V"⟩, 119) := ⟨⟨by decide +kernel, by decide +kernel⟩, List.mem_of_getElem? (i := 1710) (by decide +kernel), List.mem_of_getElem? (i := 2573) (by decide +kernel), List.mem_of_getElem? (i := 2574) (by decide +kernel)⟩
theorem lw_p209 : lw_okq (⟨"WordTongueModel", "bin", "(I)V"⟩, 119) := ⟨⟨by decide +kernel, by decide +kernel⟩, List.mem_of_getElem? (i := 1710) (by decide +kernel), List.mem_of_getElem? (i := 2577) (by decide +kernel), List.mem_of_getElem? (i := 2578) (by decide +kernel)⟩
theorem lw_p210 : lw_okq (⟨"WordTongueModel", "pop", "()I"⟩, 119) := ⟨⟨by decide +kernel, by decide +kernel⟩, List.mem_of_getElem? (i := 1710) (by decide +kernel), List.mem_of_getElem? (i := 2581) (by decide +kernel), List.mem_of_getElem? (i := 2582) (by decide +kernel)⟩
theorem lw_p211 : lw_okq (⟨"WordTongueModel", "read", "(J)I"⟩, 119) := ⟨⟨by decide +kernel, by decide +kernel⟩, List.mem_of_getElem? (i := 1710) (by decide +kernel), List.mem_of_getElem? (i := 2585) (by decide +kernel), List.mem_of_getElem? (i := 2586) (by decide +kernel)⟩
theorem lw_p212 : lw_okq (⟨"WordTongueModel", "rel", "(II)V"⟩, 119) := ⟨⟨by decide +kernel, by decide +kernel⟩, List.mem_of_getElem? (i := 1710) (by decide +kernel), List.mem_of_getElem? (i := 2589) (by decide +kernel), List.mem_of_getElem? (i := 2590) (by decide +kernel)⟩
theorem lw_p213 : lw_okq (⟨"WordTongueModel", "call", "(II)V"⟩, 119) := ⟨⟨by decide +kernel, by decide +kernel⟩, List.mem_of_getElem? (i := 1710) (by decide +kernel), List.mem_of_getElem? (i := 2593) (by decide +kernel), List.mem_of_getElem? (i := 2594) (by decide +kernel)⟩
theorem lw_p214 : lw_okq (⟨"WordTongueModel", "libraryCall", "(III)V"⟩, 119) := ⟨⟨by decide +kernel, by decide +kernel⟩, List.mem_of_getElem? (i := 1710) (by decide +kernel), List.mem_of_getElem? (i := 2598) (by decide +kernel), List.mem_of_getElem? (i := 2599) (by decide +kernel)⟩
theorem lw_p215 : lw_okq (⟨"WordTongueModel", "arg", "(II)I"⟩, 119) := ⟨⟨by decide +kernel, by decide +kernel⟩, List.mem_of_getElem? (i := 1710) (by decide +kernel), List.mem_of_getElem? (i := 2602) (by decide +kernel), List.mem_of_getElem? (i := 2603) (by decide +kernel)⟩
theorem lw_p216 : lw_okq (⟨"WordTongueModel", "decimal", "(II)V"⟩, 119) := ⟨⟨by decide +kernel, by decide +kernel⟩, List.mem_of_getElem? (i := 1710) (by decide +kernel), List.mem_of_getElem? (i := 2606) (by decide +kernel), List.mem_of_getElem? (i := 2607) (by decide +kernel)⟩
theorem lw_p217 : lw_okq (⟨"WordTongueModel", "outByte", "(I)V"⟩, 119) := ⟨⟨by decide +kernel, by decide +kernel⟩, List.mem_of_getElem? (i := 1710) (by decide +kernel), List.mem_of_getElem? (i := 2612) (by decide +kernel), List.mem_of_getElem? (i := 2613) (by decide +kernel)⟩
theorem lw_p218 : lw_okq (⟨"WordTongueModel", "writeString", "(I)V"⟩, 119) := ⟨⟨by decide +kernel, by decide +kernel⟩, List.mem_of_getElem? (i := 1710) (by decide +kernel), List.mem_of_getElem? (i := 2616) (by decide +kernel), List.mem_of_getElem? (i := 2617) (by decide +kernel)⟩
theorem lw_p219 : lw_okq (⟨"WordTongueModel", "nextByte", "()I"⟩, 119) := ⟨⟨by decide +kernel, by decide +kernel⟩, List.mem_of_getElem? (i := 1710) (by decide +kernel), List.mem_of_getElem? (i := 2620) (by decide +kernel), List.mem_of_getElem? (i := 2621) (by decide +kernel)⟩
theorem lw_p220 : lw_okq (⟨"WordTongueModel", "getVector", "(I)I"⟩, 119) := ⟨⟨by decide +kernel, by decide +kernel⟩, List.mem_of_getElem? (i := 1710) (by decide +kernel), List.mem_of_getElem? (i := 2624) (by decide +kernel), List.mem_of_getElem? (i := 2625) (by decide +kernel)⟩
theorem lw_p221 : lw_okq (⟨"WordTongueModel", "layVector", "(IJJI)I"⟩, 119) := ⟨⟨by decide +kernel, by decide +kernel⟩, List.mem_of_getElem? (i := 1710) (by decide +kernel), List.mem_of_getElem? (i := 2628) (by decide +kernel), List.mem_of_getElem? (i := 2629) (by decide +kernel)⟩
theorem lw_p222 : lw_okq (⟨"WordTongueModel", "freeVector", "(I)V"⟩, 119) := ⟨⟨by decide +kernel, by decide +kernel⟩, List.mem_of_getElem? (i := 1710) (by decide +kernel), List.mem_of_getElem? (i := 2632) (by decide +kernel), List.mem_of_getElem? (i := 2633) (by decide +kernel)⟩
theorem lw_p223 : lw_okq (⟨"WordTongueModel", "readNumber", "()I"⟩, 119) := ⟨⟨by decide +kernel, by decide +kernel⟩, List.mem_of_getElem? (i := 1710) (by decide +kernel), List.mem_of_getElem? (i := 2636) (by decide +kernel), List.mem_of_getElem? (i := 2637) (by decide +kernel)⟩
def lw_privs_14 : List (MethodName × Nat) := [(⟨"WordTongueModel", "turnTodo", "(I)V"⟩, 119), (⟨"WordTongueModel", "bin", "(I)V"⟩, 119), (⟨"WordTongueModel", "pop", "()I"⟩, 119), (⟨"WordTongueModel", "read", "(J)I"⟩, 119), (⟨"WordTongueModel", "rel", "(II)V"⟩, 119), (⟨"WordTongueModel", "call", "(II)V"⟩, 119), (⟨"WordTongueModel", "libraryCall", "(III)V"⟩, 119), (⟨"WordTongueModel", "arg", "(II)I"⟩, 119), (⟨"WordTongueModel", "decimal", "(II)V"⟩, 119), (⟨"WordTongueModel", "outByte", "(I)V"⟩, 119), (⟨"WordTongueModel", "writeString", "(I)V"⟩, 119), (⟨"WordTongueModel", "nextByte", "()I"⟩, 119), (⟨"WordTongueModel", "getVector", "(I)I"⟩, 119), (⟨"WordTongueModel", "layVector", "(IJJI)I"⟩, 119), (⟨"WordTongueModel", "freeVector", "(I)V"⟩, 119), (⟨"WordTongueModel", "readNumber", "()I"⟩, 119)]
theorem lw_r14 : ∀ q ∈ lw_privs_14, lw_okq q := List.forall_mem_cons.mpr ⟨lw_p208, List.forall_mem_cons.mpr ⟨lw_p209, List.forall_mem_cons.mpr ⟨lw_p210, List.forall_mem_cons.mpr ⟨lw_p211, List.forall_mem_cons.mpr ⟨lw_p212, List.forall_mem_cons.mpr ⟨lw_p213, List.forall_mem_cons.mpr ⟨lw_p214, List.forall_mem_cons.mpr ⟨lw_p215, List.forall_mem_cons.mpr ⟨lw_p216, List.forall_mem_cons.mpr ⟨lw_p217, List.forall_mem_cons.mpr ⟨lw_p218, List.forall_mem_cons.mpr ⟨lw_p219, List.forall_mem_cons.mpr ⟨lw_p220, List.forall_mem_cons.mpr ⟨lw_p221, List.forall_mem_cons.mpr ⟨lw_p222, List.forall_mem_cons.mpr ⟨lw_p223, fun _ h => absurd h List.not_mem_nil⟩⟩⟩⟩⟩⟩⟩⟩⟩⟩⟩⟩⟩⟩⟩⟩
theorem lw_p224 : lw_okq (⟨"WordTongueModel", "peek", "()I"⟩, 119) := ⟨⟨by decide +kernel, by decide +kernel⟩, List.mem_of_getElem? (i := 1710) (by decide +kernel), List.mem_of_getElem? (i := 2640) (by decide +kernel), List.mem_of_getElem? (i := 2641) (by decide +kernel)⟩
theorem lw_p225 : lw_okq (⟨"WordTongueModel", "toVector", "(III)V"⟩, 119) := ⟨⟨by decide +kernel, by decide +kernel⟩, List.mem_of_getElem? (i := 1710) (by decide +kernel), List.mem_of_getElem? (i := 2644) (by decide +kernel), List.mem_of_getElem? (i := 2645) (by decide +kernel)⟩
theorem lw_p226 : lw_okq (⟨"WordTongueModel", "perform", "(I)V"⟩, 119) := ⟨⟨by decide +kernel, by decide +kernel⟩, List.mem_of_getElem? (i := 1710) (by decide +kernel), List.mem_of_getElem? (i := 2648) (by decide +kernel), List.mem_of_getElem? (i := 2649) (by decide +kernel)⟩
theorem lw_p227 : lw_okq (⟨"WordTongueModel", "assign", "(II)V"⟩, 119) := ⟨⟨by decide +kernel, by decide +kernel⟩, List.mem_of_getElem? (i := 1710) (by decide +kernel), List.mem_of_getElem? (i := 2652) (by decide +kernel), List.mem_of_getElem? (i := 2653) (by decide +kernel)⟩
theorem lw_p228 : lw_okq (⟨"WordTongueModel", "stores", "(I)V"⟩, 119) := ⟨⟨by decide +kernel, by decide +kernel⟩, List.mem_of_getElem? (i := 1710) (by decide +kernel), List.mem_of_getElem? (i := 2656) (by decide +kernel), List.mem_of_getElem? (i := 2657) (by decide +kernel)⟩
theorem lw_p229 : lw_okq (⟨"WordTongueModel", "write", "(JI)V"⟩, 119) := ⟨⟨by decide +kernel, by decide +kernel⟩, List.mem_of_getElem? (i := 1710) (by decide +kernel), List.mem_of_getElem? (i := 2660) (by decide +kernel), List.mem_of_getElem? (i := 2661) (by decide +kernel)⟩
theorem lw_p230 : lw_okq (⟨"WordTongueModel", "loop", "(II)V"⟩, 119) := ⟨⟨by decide +kernel, by decide +kernel⟩, List.mem_of_getElem? (i := 1710) (by decide +kernel), List.mem_of_getElem? (i := 2664) (by decide +kernel), List.mem_of_getElem? (i := 2665) (by decide +kernel)⟩
theorem lw_p231 : lw_okq (⟨"WordTongueModel", "isStep", "(III)Z"⟩, 119) := ⟨⟨by decide +kernel, by decide +kernel⟩, List.mem_of_getElem? (i := 1710) (by decide +kernel), List.mem_of_getElem? (i := 2668) (by decide +kernel), List.mem_of_getElem? (i := 2669) (by decide +kernel)⟩
theorem lw_p232 : lw_okq (⟨"WordTongueModel", "asked", "(I)V"⟩, 119) := ⟨⟨by decide +kernel, by decide +kernel⟩, List.mem_of_getElem? (i := 1710) (by decide +kernel), List.mem_of_getElem? (i := 2672) (by decide +kernel), List.mem_of_getElem? (i := 2673) (by decide +kernel)⟩
theorem lw_p233 : lw_okq (⟨"WordTongueModel", "section", "(II)V"⟩, 119) := ⟨⟨by decide +kernel, by decide +kernel⟩, List.mem_of_getElem? (i := 1710) (by decide +kernel), List.mem_of_getElem? (i := 2676) (by decide +kernel), List.mem_of_getElem? (i := 2677) (by decide +kernel)⟩
theorem lw_p234 : lw_okq (⟨"WordTongueModel", "returns", "(II)V"⟩, 119) := ⟨⟨by decide +kernel, by decide +kernel⟩, List.mem_of_getElem? (i := 1710) (by decide +kernel), List.mem_of_getElem? (i := 2680) (by decide +kernel), List.mem_of_getElem? (i := 2681) (by decide +kernel)⟩
theorem lw_p235 : lw_okq (⟨"WordTongueModel", "variables", "(I)V"⟩, 119) := ⟨⟨by decide +kernel, by decide +kernel⟩, List.mem_of_getElem? (i := 1710) (by decide +kernel), List.mem_of_getElem? (i := 2684) (by decide +kernel), List.mem_of_getElem? (i := 2685) (by decide +kernel)⟩
theorem lw_p236 : lw_okq (⟨"WordTongueModel", "choose", "(I)V"⟩, 119) := ⟨⟨by decide +kernel, by decide +kernel⟩, List.mem_of_getElem? (i := 1710) (by decide +kernel), List.mem_of_getElem? (i := 2688) (by decide +kernel), List.mem_of_getElem? (i := 2689) (by decide +kernel)⟩
def lw_privs_15 : List (MethodName × Nat) := [(⟨"WordTongueModel", "peek", "()I"⟩, 119), (⟨"WordTongueModel", "toVector", "(III)V"⟩, 119), (⟨"WordTongueModel", "perform", "(I)V"⟩, 119), (⟨"WordTongueModel", "assign", "(II)V"⟩, 119), (⟨"WordTongueModel", "stores", "(I)V"⟩, 119), (⟨"WordTongueModel", "write", "(JI)V"⟩, 119), (⟨"WordTongueModel", "loop", "(II)V"⟩, 119), (⟨"WordTongueModel", "isStep", "(III)Z"⟩, 119), (⟨"WordTongueModel", "asked", "(I)V"⟩, 119), (⟨"WordTongueModel", "section", "(II)V"⟩, 119), (⟨"WordTongueModel", "returns", "(II)V"⟩, 119), (⟨"WordTongueModel", "variables", "(I)V"⟩, 119), (⟨"WordTongueModel", "choose", "(I)V"⟩, 119)]
theorem lw_r15 : ∀ q ∈ lw_privs_15, lw_okq q := List.forall_mem_cons.mpr ⟨lw_p224, List.forall_mem_cons.mpr ⟨lw_p225, List.forall_mem_cons.mpr ⟨lw_p226, List.forall_mem_cons.mpr ⟨lw_p227, List.forall_mem_cons.mpr ⟨lw_p228, List.forall_mem_cons.mpr ⟨lw_p229, List.forall_mem_cons.mpr ⟨lw_p230, List.forall_mem_cons.mpr ⟨lw_p231, List.forall_mem_cons.mpr ⟨lw_p232, List.forall_mem_cons.mpr ⟨lw_p233, List.forall_mem_cons.mpr ⟨lw_p234, List.forall_mem_cons.mpr ⟨lw_p235, List.forall_mem_cons.mpr ⟨lw_p236, fun _ h => absurd h List.not_mem_nil⟩⟩⟩⟩⟩⟩⟩⟩⟩⟩⟩⟩⟩
def lw_privs : List (MethodName × Nat) := lw_privs_1 ++ (lw_privs_2 ++ (lw_privs_3 ++ (lw_privs_4 ++ (lw_privs_5 ++ (lw_privs_6 ++ (lw_privs_7 ++ (lw_privs_8 ++ (lw_privs_9 ++ (lw_privs_10 ++ (lw_privs_11 ++ (lw_privs_12 ++ (lw_privs_13 ++ (lw_privs_14 ++ (lw_privs_15))))))))))))))
def lw_tbl : List Cond := k2_sels lw_privs ++ tables_1
theorem lw_privs_ok : ∀ q ∈ lw_privs, lw_okq q := by
  show ∀ q ∈ lw_privs_1 ++ (lw_privs_2 ++ (lw_privs_3 ++ (lw_privs_4 ++ (lw_privs_5 ++ (lw_privs_6 ++ (lw_privs_7 ++ (lw_privs_8 ++ (lw_privs_9 ++ (lw_privs_10 ++ (lw_privs_11 ++ (lw_privs_12 ++ (lw_privs_13 ++ (lw_privs_14 ++ (lw_privs_15)))))))))))))), lw_okq q
  exact List.forall_mem_append.mpr ⟨lw_r1, List.forall_mem_append.mpr ⟨lw_r2, List.forall_mem_append.mpr ⟨lw_r3, List.forall_mem_append.mpr ⟨lw_r4, List.forall_mem_append.mpr ⟨lw_r5, List.forall_mem_append.mpr ⟨lw_r6, List.forall_mem_append.mpr ⟨lw_r7, List.forall_mem_append.mpr ⟨lw_r8, List.forall_mem_append.mpr ⟨lw_r9, List.forall_mem_append.mpr ⟨lw_r10, List.forall_mem_append.mpr ⟨lw_r11, List.forall_mem_append.mpr ⟨lw_r12, List.forall_mem_append.mpr ⟨lw_r13, List.forall_mem_append.mpr ⟨lw_r14, lw_r15⟩⟩⟩⟩⟩⟩⟩⟩⟩⟩⟩⟩⟩⟩
-- pasted: names of claim/NAMES.whole.lean.txt (no word lists, no worlds, no decode rows)
def RX0 : String := "WordTongue$Channels"
def TX0 : u_T := fun k => match k with
  | 0 => ("WordTongue$Channels", "inputs", "[LWordTongue$Ints;", true)
  | 1 => ("WordTongue$Channels", "positions", "[I", true)
  | 2 => ("WordTongue$Channels", "outputs", "[LWordTongue$Ints;", true)
  | 3 => ("WordTongue$Channels", "inHand", "I", false)
  | _ => ("WordTongue$Channels", "outHand", "I", false)
def tyX0 : Nat → FieldType := fun k => match k with
  | 0 => .array (.object "WordTongue$Ints")
  | 1 => .array .int
  | 2 => .array (.object "WordTongue$Ints")
  | 3 => .int
  | _ => .int
abbrev wsX00 : List Cond := u_ws RX0 TX0 5
theorem nmX0 : ∀ a, a < 5 → ∀ b, b < 5 → a ≠ b → (TX0 a).2.1 ≠ (TX0 b).2.1 := by decide +kernel
theorem tyX0_ok : ∀ k, k < 5 → parseFieldDescriptor (TX0 k).2.2.1 = some (tyX0 k) := by decide +kernel
abbrev cX0_init : ByteArray := prog_2_method_1_code
def yX0_init : MethodName := ⟨RX0, "<init>", "()V"⟩
abbrev cX0_isInput : ByteArray := prog_2_method_2_code
def yX0_isInput : MethodName := ⟨RX0, "isInput", "(I)Z"⟩
abbrev cX0_isOutput : ByteArray := prog_2_method_3_code
def yX0_isOutput : MethodName := ⟨RX0, "isOutput", "(I)Z"⟩
abbrev cX0_take : ByteArray := prog_2_method_4_code
def yX0_take : MethodName := ⟨RX0, "take", "(ILWordTongue$Ints;)I"⟩
abbrev cX0_length : ByteArray := prog_2_method_5_code
def yX0_length : MethodName := ⟨RX0, "length", "(I)I"⟩
abbrev cX0_byteAt : ByteArray := prog_2_method_6_code
def yX0_byteAt : MethodName := ⟨RX0, "byteAt", "(II)I"⟩
abbrev cX0_beginRun : ByteArray := prog_2_method_7_code
def yX0_beginRun : MethodName := ⟨RX0, "beginRun", "()V"⟩
abbrev cX0_selectInput : ByteArray := prog_2_method_8_code
def yX0_selectInput : MethodName := ⟨RX0, "selectInput", "(I)Z"⟩
abbrev cX0_selectOutput : ByteArray := prog_2_method_9_code
def yX0_selectOutput : MethodName := ⟨RX0, "selectOutput", "(I)Z"⟩
abbrev cX0_rewind : ByteArray := prog_2_method_10_code
def yX0_rewind : MethodName := ⟨RX0, "rewind", "()V"⟩
abbrev cX0_next : ByteArray := prog_2_method_11_code
def yX0_next : MethodName := ⟨RX0, "next", "()I"⟩
abbrev cX0_read : ByteArray := prog_2_method_12_code
def yX0_read : MethodName := ⟨RX0, "read", "()I"⟩
abbrev cX0_unread : ByteArray := prog_2_method_13_code
def yX0_unread : MethodName := ⟨RX0, "unread", "()Z"⟩
abbrev cX0_readNumber : ByteArray := prog_2_method_14_code
def yX0_readNumber : MethodName := ⟨RX0, "readNumber", "()I"⟩
abbrev cX0_isBlank : ByteArray := prog_2_method_15_code
def yX0_isBlank : MethodName := ⟨RX0, "isBlank", "(I)Z"⟩
abbrev cX0_write : ByteArray := prog_2_method_16_code
def yX0_write : MethodName := ⟨RX0, "write", "(I)V"⟩
abbrev cX0_writeNumber : ByteArray := prog_2_method_17_code
def yX0_writeNumber : MethodName := ⟨RX0, "writeNumber", "(II)V"⟩
abbrev cX0_writeHex : ByteArray := prog_2_method_18_code
def yX0_writeHex : MethodName := ⟨RX0, "writeHex", "(II)V"⟩
def RX1 : String := "WordTongue$Coder"
def TX1 : u_T := fun k => match k with
  | 0 => ("WordTongue$Coder", "tree", "LWordTongue$Tree;", true)
  | 1 => ("WordTongue$Coder", "program", "LWordTongue$Program;", true)
  | 2 => ("WordTongue$Coder", "scope", "LWordTongue$Scope;", true)
  | 3 => ("WordTongue$Coder", "constants", "LWordTongue$Constants;", true)
  | 4 => ("WordTongue$Coder", "labels", "LWordTongue$Ints;", true)
  | 5 => ("WordTongue$Coder", "gotos", "LWordTongue$Ints;", true)
  | 6 => ("WordTongue$Coder", "cases", "LWordTongue$Ints;", true)
  | 7 => ("WordTongue$Coder", "breaks", "I", false)
  | 8 => ("WordTongue$Coder", "loops", "I", false)
  | 9 => ("WordTongue$Coder", "endcases", "I", false)
  | 10 => ("WordTongue$Coder", "results", "I", false)
  | 11 => ("WordTongue$Coder", "caseBase", "I", false)
  | 12 => ("WordTongue$Coder", "fallback", "I", false)
  | 13 => ("WordTongue$Coder", "used", "I", false)
  | 14 => ("WordTongue$Coder", "most", "I", false)
  | 15 => ("WordTongue$Coder", "routine", "I", false)
  | 16 => ("WordTongue$Coder", "area", "I", false)
  | 17 => ("WordTongue$Coder", "areas", "I", false)
  | _ => ("WordTongue$Coder", "isFunction", "Z", false)
def tyX1 : Nat → FieldType := fun k => match k with
  | 0 => .object "WordTongue$Tree"
  | 1 => .object "WordTongue$Program"
  | 2 => .object "WordTongue$Scope"
  | 3 => .object "WordTongue$Constants"
  | 4 => .object "WordTongue$Ints"
  | 5 => .object "WordTongue$Ints"
  | 6 => .object "WordTongue$Ints"
  | 7 => .int
  | 8 => .int
  | 9 => .int
  | 10 => .int
  | 11 => .int
  | 12 => .int
  | 13 => .int
  | 14 => .int
  | 15 => .int
  | 16 => .int
  | 17 => .int
  | _ => .boolean
abbrev wsX10 : List Cond := u_ws RX1 TX1 19
theorem nmX1 : ∀ a, a < 19 → ∀ b, b < 19 → a ≠ b → (TX1 a).2.1 ≠ (TX1 b).2.1 := by decide +kernel
theorem tyX1_ok : ∀ k, k < 19 → parseFieldDescriptor (TX1 k).2.2.1 = some (tyX1 k) := by decide +kernel
abbrev cX1_init : ByteArray := prog_3_method_1_code
def yX1_init : MethodName := ⟨RX1, "<init>", "(LWordTongue$Tree;LWordTongue$Program;)V"⟩
abbrev cX1_translate : ByteArray := prog_3_method_2_code
def yX1_translate : MethodName := ⟨RX1, "translate", "(I)V"⟩
abbrev cX1_leaveAll : ByteArray := prog_3_method_3_code
def yX1_leaveAll : MethodName := ⟨RX1, "leaveAll", "()V"⟩
abbrev cX1_emit : ByteArray := prog_3_method_4_code
def yX1_emit : MethodName := ⟨RX1, "emit", "(II)I"⟩
abbrev cX1_definitions : ByteArray := prog_3_method_5_code
def yX1_definitions : MethodName := ⟨RX1, "definitions", "(I)V"⟩
abbrev cX1_routines : ByteArray := prog_3_method_6_code
def yX1_routines : MethodName := ⟨RX1, "routines", "(I)V"⟩
abbrev cX1_routineName : ByteArray := prog_3_method_7_code
def yX1_routineName : MethodName := ⟨RX1, "routineName", "(I)V"⟩
abbrev cX1_routine : ByteArray := prog_3_method_8_code
def yX1_routine : MethodName := ⟨RX1, "routine", "(I)V"⟩
abbrev cX1_parameters : ByteArray := prog_3_method_9_code
def yX1_parameters : MethodName := ⟨RX1, "parameters", "(I)I"⟩
abbrev cX1_take : ByteArray := prog_3_method_10_code
def yX1_take : MethodName := ⟨RX1, "take", "(I)V"⟩
abbrev cX1_variables : ByteArray := prog_3_method_11_code
def yX1_variables : MethodName := ⟨RX1, "variables", "(I)V"⟩
abbrev cX1_section : ByteArray := prog_3_method_12_code
def yX1_section : MethodName := ⟨RX1, "section", "(I)V"⟩
abbrev cX1_entrance : ByteArray := prog_3_method_13_code
def yX1_entrance : MethodName := ⟨RX1, "entrance", "(I)V"⟩
abbrev cX1_command : ByteArray := prog_3_method_14_code
def yX1_command : MethodName := ⟨RX1, "command", "(I)V"⟩
abbrev cX1_assignment : ByteArray := prog_3_method_15_code
def yX1_assignment : MethodName := ⟨RX1, "assignment", "(I)V"⟩
abbrev cX1_isByte : ByteArray := prog_3_method_16_code
def yX1_isByte : MethodName := ⟨RX1, "isByte", "(I)Z"⟩
abbrev cX1_conditional : ByteArray := prog_3_method_17_code
def yX1_conditional : MethodName := ⟨RX1, "conditional", "(I)V"⟩
abbrev cX1_asking : ByteArray := prog_3_method_18_code
def yX1_asking : MethodName := ⟨RX1, "asking", "(I)V"⟩
abbrev cX1_repeats : ByteArray := prog_3_method_19_code
def yX1_repeats : MethodName := ⟨RX1, "repeats", "(I)V"⟩
abbrev cX1_counting : ByteArray := prog_3_method_20_code
def yX1_counting : MethodName := ⟨RX1, "counting", "(I)V"⟩
abbrev cX1_switching : ByteArray := prog_3_method_21_code
def yX1_switching : MethodName := ⟨RX1, "switching", "(I)V"⟩
abbrev cX1_telling : ByteArray := prog_3_method_22_code
def yX1_telling : MethodName := ⟨RX1, "telling", "(I)V"⟩
abbrev cX1_leaving : ByteArray := prog_3_method_23_code
def yX1_leaving : MethodName := ⟨RX1, "leaving", "(I)V"⟩
abbrev cX1_going : ByteArray := prog_3_method_24_code
def yX1_going : MethodName := ⟨RX1, "going", "(I)V"⟩
abbrev cX1_expression : ByteArray := prog_3_method_25_code
def yX1_expression : MethodName := ⟨RX1, "expression", "(III)V"⟩
abbrev cX1_unfit : ByteArray := prog_3_method_26_code
def yX1_unfit : MethodName := ⟨RX1, "unfit", "(II)V"⟩
abbrev cX1_calls : ByteArray := prog_3_method_27_code
def yX1_calls : MethodName := ⟨RX1, "calls", "(I)V"⟩
abbrev cX1_arguments : ByteArray := prog_3_method_28_code
def yX1_arguments : MethodName := ⟨RX1, "arguments", "(II)V"⟩
abbrev cX1_valof : ByteArray := prog_3_method_29_code
def yX1_valof : MethodName := ⟨RX1, "valof", "(I)V"⟩
abbrev cX1_choice : ByteArray := prog_3_method_30_code
def yX1_choice : MethodName := ⟨RX1, "choice", "(I)V"⟩
abbrev cX1_sign : ByteArray := prog_3_method_31_code
def yX1_sign : MethodName := ⟨RX1, "sign", "(II)I"⟩
abbrev cX1_single : ByteArray := prog_3_method_32_code
def yX1_single : MethodName := ⟨RX1, "single", "(III)V"⟩
abbrev cX1_unary : ByteArray := prog_3_method_33_code
def yX1_unary : MethodName := ⟨RX1, "unary", "(I)V"⟩
abbrev cX1_table : ByteArray := prog_3_method_34_code
def yX1_table : MethodName := ⟨RX1, "table", "(I)V"⟩
abbrev cX1_name : ByteArray := prog_3_method_35_code
def yX1_name : MethodName := ⟨RX1, "name", "(III)V"⟩
def RX2 : String := "WordTongue$Constants"
def TX2 : u_T := fun k => match k with
  | 0 => ("WordTongue$Constants", "tree", "LWordTongue$Tree;", true)
  | 1 => ("WordTongue$Constants", "program", "LWordTongue$Program;", true)
  | 2 => ("WordTongue$Constants", "scope", "LWordTongue$Scope;", true)
  | 3 => ("WordTongue$Constants", "stack", "LWordTongue$Ints;", true)
  | 4 => ("WordTongue$Constants", "failed", "Z", false)
  | 5 => ("WordTongue$Constants", "faultKind", "I", false)
  | _ => ("WordTongue$Constants", "faultPlace", "I", false)
def tyX2 : Nat → FieldType := fun k => match k with
  | 0 => .object "WordTongue$Tree"
  | 1 => .object "WordTongue$Program"
  | 2 => .object "WordTongue$Scope"
  | 3 => .object "WordTongue$Ints"
  | 4 => .boolean
  | 5 => .int
  | _ => .int
abbrev wsX20 : List Cond := u_ws RX2 TX2 7
theorem nmX2 : ∀ a, a < 7 → ∀ b, b < 7 → a ≠ b → (TX2 a).2.1 ≠ (TX2 b).2.1 := by decide +kernel
theorem tyX2_ok : ∀ k, k < 7 → parseFieldDescriptor (TX2 k).2.2.1 = some (tyX2 k) := by decide +kernel
abbrev cX2_init : ByteArray := prog_4_method_1_code
def yX2_init : MethodName := ⟨RX2, "<init>", "(LWordTongue$Tree;LWordTongue$Program;LWordTongue$Scope;)V"⟩
abbrev cX2_hasFailed : ByteArray := prog_4_method_2_code
def yX2_hasFailed : MethodName := ⟨RX2, "hasFailed", "()Z"⟩
abbrev cX2_number : ByteArray := prog_4_method_3_code
def yX2_number : MethodName := ⟨RX2, "number", "(II)I"⟩
abbrev cX2_fail : ByteArray := prog_4_method_4_code
def yX2_fail : MethodName := ⟨RX2, "fail", "(II)V"⟩
abbrev cX2_reckon : ByteArray := prog_4_method_5_code
def yX2_reckon : MethodName := ⟨RX2, "reckon", "(IZ)I"⟩
abbrev cX2_relate : ByteArray := prog_4_method_6_code
def yX2_relate : MethodName := ⟨RX2, "relate", "(IZZ)Z"⟩
abbrev cX2_work : ByteArray := prog_4_method_7_code
def yX2_work : MethodName := ⟨RX2, "work", "(IZI)V"⟩
abbrev cX2_choose : ByteArray := prog_4_method_8_code
def yX2_choose : MethodName := ⟨RX2, "choose", "(IZ)I"⟩
abbrev cX2_single : ByteArray := prog_4_method_9_code
def yX2_single : MethodName := ⟨RX2, "single", "(III)V"⟩
def RX3 : String := "WordTongue$Heap"
def TX3 : u_T := fun k => match k with
  | 0 => ("WordTongue$Heap", "starts", "LWordTongue$Ints;", true)
  | _ => ("WordTongue$Heap", "lengths", "LWordTongue$Ints;", true)
def tyX3 : Nat → FieldType := fun k => match k with
  | 0 => .object "WordTongue$Ints"
  | _ => .object "WordTongue$Ints"
abbrev wsX30 : List Cond := u_ws RX3 TX3 2
theorem nmX3 : ∀ a, a < 2 → ∀ b, b < 2 → a ≠ b → (TX3 a).2.1 ≠ (TX3 b).2.1 := by decide +kernel
theorem tyX3_ok : ∀ k, k < 2 → parseFieldDescriptor (TX3 k).2.2.1 = some (tyX3 k) := by decide +kernel
abbrev cX3_init : ByteArray := prog_5_method_1_code
def yX3_init : MethodName := ⟨RX3, "<init>", "()V"⟩
abbrev cX3_clear : ByteArray := prog_5_method_2_code
def yX3_clear : MethodName := ⟨RX3, "clear", "()V"⟩
abbrev cX3_get : ByteArray := prog_5_method_3_code
def yX3_get : MethodName := ⟨RX3, "get", "(III)I"⟩
abbrev cX3_touched : ByteArray := prog_5_method_4_code
def yX3_touched : MethodName := ⟨RX3, "touched", "(II)I"⟩
abbrev cX3_free : ByteArray := prog_5_method_5_code
def yX3_free : MethodName := ⟨RX3, "free", "(I)Z"⟩
abbrev cX3_limit : ByteArray := prog_5_method_6_code
def yX3_limit : MethodName := ⟨RX3, "limit", "(I)I"⟩
def RX4 : String := "WordTongue$Ints"
def TX4 : u_T := fun k => match k with
  | 0 => ("WordTongue$Ints", "most", "I", true)
  | 1 => ("WordTongue$Ints", "cells", "[I", false)
  | _ => ("WordTongue$Ints", "size", "I", false)
def tyX4 : Nat → FieldType := fun k => match k with
  | 0 => .int
  | 1 => .array .int
  | _ => .int
abbrev wsX40 : List Cond := u_ws RX4 TX4 3
theorem nmX4 : ∀ a, a < 3 → ∀ b, b < 3 → a ≠ b → (TX4 a).2.1 ≠ (TX4 b).2.1 := by decide +kernel
theorem tyX4_ok : ∀ k, k < 3 → parseFieldDescriptor (TX4 k).2.2.1 = some (tyX4 k) := by decide +kernel
abbrev cX4_init : ByteArray := prog_6_method_1_code
def yX4_init : MethodName := ⟨RX4, "<init>", "(I)V"⟩
abbrev cX4_size : ByteArray := prog_6_method_2_code
def yX4_size : MethodName := ⟨RX4, "size", "()I"⟩
abbrev cX4_get : ByteArray := prog_6_method_3_code
def yX4_get : MethodName := ⟨RX4, "get", "(I)I"⟩
abbrev cX4_set : ByteArray := prog_6_method_4_code
def yX4_set : MethodName := ⟨RX4, "set", "(II)V"⟩
abbrev cX4_add : ByteArray := prog_6_method_5_code
def yX4_add : MethodName := ⟨RX4, "add", "(I)V"⟩
abbrev cX4_top : ByteArray := prog_6_method_6_code
def yX4_top : MethodName := ⟨RX4, "top", "()I"⟩
abbrev cX4_pop : ByteArray := prog_6_method_7_code
def yX4_pop : MethodName := ⟨RX4, "pop", "()I"⟩
abbrev cX4_cut : ByteArray := prog_6_method_8_code
def yX4_cut : MethodName := ⟨RX4, "cut", "(I)V"⟩
abbrev cX4_copyFrom : ByteArray := prog_6_method_9_code
def yX4_copyFrom : MethodName := ⟨RX4, "copyFrom", "(LWordTongue$Ints;)V"⟩
def RX5 : String := "WordTongue$Machine"
def TX5 : u_T := fun k => match k with
  | 0 => ("WordTongue$Machine", "program", "LWordTongue$Program;", true)
  | 1 => ("WordTongue$Machine", "channels", "LWordTongue$Channels;", true)
  | 2 => ("WordTongue$Machine", "heap", "LWordTongue$Heap;", true)
  | 3 => ("WordTongue$Machine", "stack", "LWordTongue$Ints;", true)
  | 4 => ("WordTongue$Machine", "calls", "LWordTongue$Ints;", true)
  | 5 => ("WordTongue$Machine", "cells", "[I", false)
  | 6 => ("WordTongue$Machine", "words", "I", false)
  | 7 => ("WordTongue$Machine", "at", "I", false)
  | 8 => ("WordTongue$Machine", "base", "I", false)
  | 9 => ("WordTongue$Machine", "routine", "I", false)
  | 10 => ("WordTongue$Machine", "rest", "I", false)
  | 11 => ("WordTongue$Machine", "answer", "I", false)
  | 12 => ("WordTongue$Machine", "error", "I", false)
  | 13 => ("WordTongue$Machine", "over", "Z", false)
  | 14 => ("WordTongue$Machine", "service", "I", false)
  | _ => ("WordTongue$Machine", "given", "I", false)
def tyX5 : Nat → FieldType := fun k => match k with
  | 0 => .object "WordTongue$Program"
  | 1 => .object "WordTongue$Channels"
  | 2 => .object "WordTongue$Heap"
  | 3 => .object "WordTongue$Ints"
  | 4 => .object "WordTongue$Ints"
  | 5 => .array .int
  | 6 => .int
  | 7 => .int
  | 8 => .int
  | 9 => .int
  | 10 => .int
  | 11 => .int
  | 12 => .int
  | 13 => .boolean
  | 14 => .int
  | _ => .int
abbrev wsX50 : List Cond := u_ws RX5 TX5 16
theorem nmX5 : ∀ a, a < 16 → ∀ b, b < 16 → a ≠ b → (TX5 a).2.1 ≠ (TX5 b).2.1 := by decide +kernel
theorem tyX5_ok : ∀ k, k < 16 → parseFieldDescriptor (TX5 k).2.2.1 = some (tyX5 k) := by decide +kernel
abbrev cX5_init : ByteArray := prog_7_method_1_code
def yX5_init : MethodName := ⟨RX5, "<init>", "(LWordTongue$Program;LWordTongue$Channels;)V"⟩
abbrev cX5_told : ByteArray := prog_7_method_2_code
def yX5_told : MethodName := ⟨RX5, "told", "()I"⟩
abbrev cX5_fuelLeft : ByteArray := prog_7_method_3_code
def yX5_fuelLeft : MethodName := ⟨RX5, "fuelLeft", "()I"⟩
abbrev cX5_left : ByteArray := prog_7_method_4_code
def yX5_left : MethodName := ⟨RX5, "left", "(I)I"⟩
abbrev cX5_isThere : ByteArray := prog_7_method_5_code
def yX5_isThere : MethodName := ⟨RX5, "isThere", "(I)Z"⟩
abbrev cX5_go : ByteArray := prog_7_method_6_code
def yX5_go : MethodName := ⟨RX5, "go", "(I)I"⟩
abbrev cX5_prepare : ByteArray := prog_7_method_7_code
def yX5_prepare : MethodName := ⟨RX5, "prepare", "()V"⟩
abbrev cX5_fail : ByteArray := prog_7_method_8_code
def yX5_fail : MethodName := ⟨RX5, "fail", "(I)V"⟩
abbrev cX5_finish : ByteArray := prog_7_method_9_code
def yX5_finish : MethodName := ⟨RX5, "finish", "(II)V"⟩
abbrev cX5_burns : ByteArray := prog_7_method_10_code
def yX5_burns : MethodName := ⟨RX5, "burns", "()Z"⟩
abbrev cX5_put : ByteArray := prog_7_method_11_code
def yX5_put : MethodName := ⟨RX5, "put", "(II)V"⟩
abbrev cX5_look : ByteArray := prog_7_method_12_code
def yX5_look : MethodName := ⟨RX5, "look", "(I)I"⟩
abbrev cX5_step : ByteArray := prog_7_method_13_code
def yX5_step : MethodName := ⟨RX5, "step", "(II)V"⟩
abbrev cX5_turn : ByteArray := prog_7_method_14_code
def yX5_turn : MethodName := ⟨RX5, "turn", "(II)V"⟩
abbrev cX5_link : ByteArray := prog_7_method_15_code
def yX5_link : MethodName := ⟨RX5, "link", "(IIII)V"⟩
abbrev cX5_work : ByteArray := prog_7_method_16_code
def yX5_work : MethodName := ⟨RX5, "work", "(III)V"⟩
abbrev cX5_wordOfByte : ByteArray := prog_7_method_17_code
def yX5_wordOfByte : MethodName := ⟨RX5, "wordOfByte", "(II)I"⟩
abbrev cX5_lookByte : ByteArray := prog_7_method_18_code
def yX5_lookByte : MethodName := ⟨RX5, "lookByte", "()V"⟩
abbrev cX5_putByte : ByteArray := prog_7_method_19_code
def yX5_putByte : MethodName := ⟨RX5, "putByte", "()V"⟩
abbrev cX5_isBetween : ByteArray := prog_7_method_20_code
def yX5_isBetween : MethodName := ⟨RX5, "isBetween", "(III)Z"⟩
abbrev cX5_call : ByteArray := prog_7_method_21_code
def yX5_call : MethodName := ⟨RX5, "call", "(III)V"⟩
abbrev cX5_enter : ByteArray := prog_7_method_22_code
def yX5_enter : MethodName := ⟨RX5, "enter", "(III)V"⟩
abbrev cX5_argument : ByteArray := prog_7_method_23_code
def yX5_argument : MethodName := ⟨RX5, "argument", "(II)I"⟩
abbrev cX5_back : ByteArray := prog_7_method_24_code
def yX5_back : MethodName := ⟨RX5, "back", "()V"⟩
abbrev cX5_apply : ByteArray := prog_7_method_25_code
def yX5_apply : MethodName := ⟨RX5, "apply", "(II)V"⟩
abbrev cX5_serve : ByteArray := prog_7_method_26_code
def yX5_serve : MethodName := ⟨RX5, "serve", "()V"⟩
abbrev cX5_exchange : ByteArray := prog_7_method_27_code
def yX5_exchange : MethodName := ⟨RX5, "exchange", "(II)I"⟩
abbrev cX5_reckon : ByteArray := prog_7_method_28_code
def yX5_reckon : MethodName := ⟨RX5, "reckon", "(IIII)I"⟩
abbrev cX5_writeString : ByteArray := prog_7_method_29_code
def yX5_writeString : MethodName := ⟨RX5, "writeString", "(I)V"⟩
def RX6 : String := "WordTongue$Parser"
def TX6 : u_T := fun k => match k with
  | 0 => ("WordTongue$Parser", "kinds", "LWordTongue$Ints;", true)
  | 1 => ("WordTongue$Parser", "infos", "LWordTongue$Ints;", true)
  | 2 => ("WordTongue$Parser", "places", "LWordTongue$Ints;", true)
  | 3 => ("WordTongue$Parser", "strings", "LWordTongue$Ints;", true)
  | 4 => ("WordTongue$Parser", "tree", "LWordTongue$Tree;", true)
  | 5 => ("WordTongue$Parser", "program", "LWordTongue$Program;", true)
  | 6 => ("WordTongue$Parser", "tags", "LWordTongue$Ints;", true)
  | 7 => ("WordTongue$Parser", "signs", "LWordTongue$Ints;", true)
  | 8 => ("WordTongue$Parser", "globals", "LWordTongue$Ints;", true)
  | 9 => ("WordTongue$Parser", "at", "I", false)
  | 10 => ("WordTongue$Parser", "depth", "I", false)
  | _ => ("WordTongue$Parser", "root", "I", false)
def tyX6 : Nat → FieldType := fun k => match k with
  | 0 => .object "WordTongue$Ints"
  | 1 => .object "WordTongue$Ints"
  | 2 => .object "WordTongue$Ints"
  | 3 => .object "WordTongue$Ints"
  | 4 => .object "WordTongue$Tree"
  | 5 => .object "WordTongue$Program"
  | 6 => .object "WordTongue$Ints"
  | 7 => .object "WordTongue$Ints"
  | 8 => .object "WordTongue$Ints"
  | 9 => .int
  | 10 => .int
  | _ => .int
abbrev wsX60 : List Cond := u_ws RX6 TX6 12
theorem nmX6 : ∀ a, a < 12 → ∀ b, b < 12 → a ≠ b → (TX6 a).2.1 ≠ (TX6 b).2.1 := by decide +kernel
theorem tyX6_ok : ∀ k, k < 12 → parseFieldDescriptor (TX6 k).2.2.1 = some (tyX6 k) := by decide +kernel
abbrev cX6_init : ByteArray := prog_8_method_1_code
def yX6_init : MethodName := ⟨RX6, "<init>", "(LWordTongue$Scanner;LWordTongue$Tree;LWordTongue$Program;)V"⟩
abbrev cX6_root : ByteArray := prog_8_method_2_code
def yX6_root : MethodName := ⟨RX6, "root", "()I"⟩
abbrev cX6_reads : ByteArray := prog_8_method_3_code
def yX6_reads : MethodName := ⟨RX6, "reads", "()Z"⟩
abbrev cX6_kind : ByteArray := prog_8_method_4_code
def yX6_kind : MethodName := ⟨RX6, "kind", "()I"⟩
abbrev cX6_place : ByteArray := prog_8_method_5_code
def yX6_place : MethodName := ⟨RX6, "place", "()I"⟩
abbrev cX6_info : ByteArray := prog_8_method_6_code
def yX6_info : MethodName := ⟨RX6, "info", "()I"⟩
abbrev cX6_advance : ByteArray := prog_8_method_7_code
def yX6_advance : MethodName := ⟨RX6, "advance", "()V"⟩
abbrev cX6_refuse : ByteArray := prog_8_method_8_code
def yX6_refuse : MethodName := ⟨RX6, "refuse", "()V"⟩
abbrev cX6_due : ByteArray := prog_8_method_9_code
def yX6_due : MethodName := ⟨RX6, "due", "(I)V"⟩
abbrev cX6_enter : ByteArray := prog_8_method_10_code
def yX6_enter : MethodName := ⟨RX6, "enter", "()V"⟩
abbrev cX6_nameDue : ByteArray := prog_8_method_11_code
def yX6_nameDue : MethodName := ⟨RX6, "nameDue", "()I"⟩
abbrev cX6_leaf : ByteArray := prog_8_method_12_code
def yX6_leaf : MethodName := ⟨RX6, "leaf", "(I)I"⟩
abbrev cX6_text : ByteArray := prog_8_method_13_code
def yX6_text : MethodName := ⟨RX6, "text", "()I"⟩
abbrev cX6_declaration : ByteArray := prog_8_method_14_code
def yX6_declaration : MethodName := ⟨RX6, "declaration", "(Z)I"⟩
abbrev cX6_definitions : ByteArray := prog_8_method_15_code
def yX6_definitions : MethodName := ⟨RX6, "definitions", "(Z)I"⟩
abbrev cX6_open : ByteArray := prog_8_method_16_code
def yX6_open : MethodName := ⟨RX6, "open", "()V"⟩
abbrev cX6_close : ByteArray := prog_8_method_17_code
def yX6_close : MethodName := ⟨RX6, "close", "()V"⟩
abbrev cX6_isOpen : ByteArray := prog_8_method_18_code
def yX6_isOpen : MethodName := ⟨RX6, "isOpen", "(I)Z"⟩
abbrev cX6_routine : ByteArray := prog_8_method_19_code
def yX6_routine : MethodName := ⟨RX6, "routine", "(Z)I"⟩
abbrev cX6_isGlobal : ByteArray := prog_8_method_20_code
def yX6_isGlobal : MethodName := ⟨RX6, "isGlobal", "(I)Z"⟩
abbrev cX6_names : ByteArray := prog_8_method_21_code
def yX6_names : MethodName := ⟨RX6, "names", "(I)V"⟩
abbrev cX6_variables : ByteArray := prog_8_method_22_code
def yX6_variables : MethodName := ⟨RX6, "variables", "(I)V"⟩
abbrev cX6_section : ByteArray := prog_8_method_23_code
def yX6_section : MethodName := ⟨RX6, "section", "(Z)I"⟩
abbrev cX6_cases : ByteArray := prog_8_method_24_code
def yX6_cases : MethodName := ⟨RX6, "cases", "(I)V"⟩
abbrev cX6_labels : ByteArray := prog_8_method_25_code
def yX6_labels : MethodName := ⟨RX6, "labels", "(I)V"⟩
abbrev cX6_command : ByteArray := prog_8_method_26_code
def yX6_command : MethodName := ⟨RX6, "command", "()I"⟩
abbrev cX6_isRepeat : ByteArray := prog_8_method_27_code
def yX6_isRepeat : MethodName := ⟨RX6, "isRepeat", "(I)Z"⟩
abbrev cX6_repeats : ByteArray := prog_8_method_28_code
def yX6_repeats : MethodName := ⟨RX6, "repeats", "(I)I"⟩
abbrev cX6_conditional : ByteArray := prog_8_method_29_code
def yX6_conditional : MethodName := ⟨RX6, "conditional", "()I"⟩
abbrev cX6_passDo : ByteArray := prog_8_method_30_code
def yX6_passDo : MethodName := ⟨RX6, "passDo", "()V"⟩
abbrev cX6_counting : ByteArray := prog_8_method_31_code
def yX6_counting : MethodName := ⟨RX6, "counting", "()I"⟩
abbrev cX6_switching : ByteArray := prog_8_method_32_code
def yX6_switching : MethodName := ⟨RX6, "switching", "()I"⟩
abbrev cX6_assignment : ByteArray := prog_8_method_33_code
def yX6_assignment : MethodName := ⟨RX6, "assignment", "()I"⟩
abbrev cX6_isCall : ByteArray := prog_8_method_34_code
def yX6_isCall : MethodName := ⟨RX6, "isCall", "(I)Z"⟩
abbrev cX6_expression : ByteArray := prog_8_method_35_code
def yX6_expression : MethodName := ⟨RX6, "expression", "()I"⟩
abbrev cX6_settle : ByteArray := prog_8_method_36_code
def yX6_settle : MethodName := ⟨RX6, "settle", "(III)V"⟩
abbrev cX6_operand : ByteArray := prog_8_method_37_code
def yX6_operand : MethodName := ⟨RX6, "operand", "(I)V"⟩
abbrev cX6_passSigns : ByteArray := prog_8_method_38_code
def yX6_passSigns : MethodName := ⟨RX6, "passSigns", "(Z)V"⟩
abbrev cX6_hangSigns : ByteArray := prog_8_method_39_code
def yX6_hangSigns : MethodName := ⟨RX6, "hangSigns", "(II)V"⟩
abbrev cX6_primary : ByteArray := prog_8_method_40_code
def yX6_primary : MethodName := ⟨RX6, "primary", "()I"⟩
abbrev cX6_table : ByteArray := prog_8_method_41_code
def yX6_table : MethodName := ⟨RX6, "table", "()I"⟩
abbrev cX6_pack : ByteArray := prog_8_method_42_code
def yX6_pack : MethodName := ⟨RX6, "pack", "(I)I"⟩
abbrev cX6_calls : ByteArray := prog_8_method_43_code
def yX6_calls : MethodName := ⟨RX6, "calls", "(I)I"⟩
def RX7 : String := "WordTongue$Program"
def TX7 : u_T := fun k => match k with
  | 0 => ("WordTongue$Program", "code", "LWordTongue$Ints;", true)
  | 1 => ("WordTongue$Program", "image", "LWordTongue$Ints;", true)
  | 2 => ("WordTongue$Program", "homes", "LWordTongue$Ints;", true)
  | 3 => ("WordTongue$Program", "starts", "LWordTongue$Ints;", true)
  | 4 => ("WordTongue$Program", "frames", "LWordTongue$Ints;", true)
  | 5 => ("WordTongue$Program", "params", "LWordTongue$Ints;", true)
  | 6 => ("WordTongue$Program", "storeWords", "I", false)
  | 7 => ("WordTongue$Program", "starter", "I", false)
  | 8 => ("WordTongue$Program", "kind", "I", false)
  | 9 => ("WordTongue$Program", "place", "I", false)
  | _ => ("WordTongue$Program", "ready", "Z", false)
def tyX7 : Nat → FieldType := fun k => match k with
  | 0 => .object "WordTongue$Ints"
  | 1 => .object "WordTongue$Ints"
  | 2 => .object "WordTongue$Ints"
  | 3 => .object "WordTongue$Ints"
  | 4 => .object "WordTongue$Ints"
  | 5 => .object "WordTongue$Ints"
  | 6 => .int
  | 7 => .int
  | 8 => .int
  | 9 => .int
  | _ => .boolean
abbrev wsX70 : List Cond := u_ws RX7 TX7 11
theorem nmX7 : ∀ a, a < 11 → ∀ b, b < 11 → a ≠ b → (TX7 a).2.1 ≠ (TX7 b).2.1 := by decide +kernel
theorem tyX7_ok : ∀ k, k < 11 → parseFieldDescriptor (TX7 k).2.2.1 = some (tyX7 k) := by decide +kernel
abbrev cX7_init : ByteArray := prog_9_method_1_code
def yX7_init : MethodName := ⟨RX7, "<init>", "()V"⟩
abbrev cX7_clear : ByteArray := prog_9_method_2_code
def yX7_clear : MethodName := ⟨RX7, "clear", "(I)V"⟩
abbrev cX7_blame : ByteArray := prog_9_method_3_code
def yX7_blame : MethodName := ⟨RX7, "blame", "(II)V"⟩
abbrev cX7_judge : ByteArray := prog_9_method_4_code
def yX7_judge : MethodName := ⟨RX7, "judge", "()V"⟩
abbrev cX7_isReady : ByteArray := prog_9_method_5_code
def yX7_isReady : MethodName := ⟨RX7, "isReady", "()Z"⟩
abbrev cX7_faultKind : ByteArray := prog_9_method_6_code
def yX7_faultKind : MethodName := ⟨RX7, "faultKind", "()I"⟩
abbrev cX7_faultPlace : ByteArray := prog_9_method_7_code
def yX7_faultPlace : MethodName := ⟨RX7, "faultPlace", "()I"⟩
abbrev cX7_storeWords : ByteArray := prog_9_method_8_code
def yX7_storeWords : MethodName := ⟨RX7, "storeWords", "()I"⟩
abbrev cX7_words : ByteArray := prog_9_method_9_code
def yX7_words : MethodName := ⟨RX7, "words", "()I"⟩
abbrev cX7_wordAt : ByteArray := prog_9_method_10_code
def yX7_wordAt : MethodName := ⟨RX7, "wordAt", "(I)I"⟩
abbrev cX7_setWord : ByteArray := prog_9_method_11_code
def yX7_setWord : MethodName := ⟨RX7, "setWord", "(II)V"⟩
abbrev cX7_addWord : ByteArray := prog_9_method_12_code
def yX7_addWord : MethodName := ⟨RX7, "addWord", "(I)I"⟩
abbrev cX7_addRoutine : ByteArray := prog_9_method_13_code
def yX7_addRoutine : MethodName := ⟨RX7, "addRoutine", "(Z)I"⟩
abbrev cX7_setStarter : ByteArray := prog_9_method_14_code
def yX7_setStarter : MethodName := ⟨RX7, "setStarter", "(I)V"⟩
abbrev cX7_starter : ByteArray := prog_9_method_15_code
def yX7_starter : MethodName := ⟨RX7, "starter", "()I"⟩
abbrev cX7_routines : ByteArray := prog_9_method_16_code
def yX7_routines : MethodName := ⟨RX7, "routines", "()I"⟩
abbrev cX7_home : ByteArray := prog_9_method_17_code
def yX7_home : MethodName := ⟨RX7, "home", "(I)I"⟩
abbrev cX7_begin : ByteArray := prog_9_method_18_code
def yX7_begin : MethodName := ⟨RX7, "begin", "(I)I"⟩
abbrev cX7_frame : ByteArray := prog_9_method_19_code
def yX7_frame : MethodName := ⟨RX7, "frame", "(I)I"⟩
abbrev cX7_params : ByteArray := prog_9_method_20_code
def yX7_params : MethodName := ⟨RX7, "params", "(I)I"⟩
abbrev cX7_setBegin : ByteArray := prog_9_method_21_code
def yX7_setBegin : MethodName := ⟨RX7, "setBegin", "(II)V"⟩
abbrev cX7_setFrame : ByteArray := prog_9_method_22_code
def yX7_setFrame : MethodName := ⟨RX7, "setFrame", "(II)V"⟩
abbrev cX7_emit : ByteArray := prog_9_method_23_code
def yX7_emit : MethodName := ⟨RX7, "emit", "(II)I"⟩
abbrev cX7_here : ByteArray := prog_9_method_24_code
def yX7_here : MethodName := ⟨RX7, "here", "()I"⟩
abbrev cX7_codeAt : ByteArray := prog_9_method_25_code
def yX7_codeAt : MethodName := ⟨RX7, "codeAt", "(I)I"⟩
abbrev cX7_setOperand : ByteArray := prog_9_method_26_code
def yX7_setOperand : MethodName := ⟨RX7, "setOperand", "(II)V"⟩
abbrev cX7_land : ByteArray := prog_9_method_27_code
def yX7_land : MethodName := ⟨RX7, "land", "(I)V"⟩
abbrev cX7_landAt : ByteArray := prog_9_method_28_code
def yX7_landAt : MethodName := ⟨RX7, "landAt", "(II)V"⟩
def RX8 : String := "WordTongue$Scanner"
def TX8 : u_T := fun k => match k with
  | 0 => ("WordTongue$Scanner", "text", "LWordTongue$Ints;", true)
  | 1 => ("WordTongue$Scanner", "kinds", "LWordTongue$Ints;", true)
  | 2 => ("WordTongue$Scanner", "infos", "LWordTongue$Ints;", true)
  | 3 => ("WordTongue$Scanner", "places", "LWordTongue$Ints;", true)
  | 4 => ("WordTongue$Scanner", "strings", "LWordTongue$Ints;", true)
  | 5 => ("WordTongue$Scanner", "letters", "LWordTongue$Ints;", true)
  | 6 => ("WordTongue$Scanner", "heads", "LWordTongue$Ints;", true)
  | 7 => ("WordTongue$Scanner", "sums", "LWordTongue$Ints;", true)
  | 8 => ("WordTongue$Scanner", "knownLetters", "I", true)
  | 9 => ("WordTongue$Scanner", "at", "I", false)
  | _ => ("WordTongue$Scanner", "fresh", "Z", false)
def tyX8 : Nat → FieldType := fun k => match k with
  | 0 => .object "WordTongue$Ints"
  | 1 => .object "WordTongue$Ints"
  | 2 => .object "WordTongue$Ints"
  | 3 => .object "WordTongue$Ints"
  | 4 => .object "WordTongue$Ints"
  | 5 => .object "WordTongue$Ints"
  | 6 => .object "WordTongue$Ints"
  | 7 => .object "WordTongue$Ints"
  | 8 => .int
  | 9 => .int
  | _ => .boolean
abbrev wsX80 : List Cond := u_ws RX8 TX8 11
theorem nmX8 : ∀ a, a < 11 → ∀ b, b < 11 → a ≠ b → (TX8 a).2.1 ≠ (TX8 b).2.1 := by decide +kernel
theorem tyX8_ok : ∀ k, k < 11 → parseFieldDescriptor (TX8 k).2.2.1 = some (tyX8 k) := by decide +kernel
abbrev cX8_init : ByteArray := prog_10_method_1_code
def yX8_init : MethodName := ⟨RX8, "<init>", "(LWordTongue$Ints;)V"⟩
abbrev cX8_know : ByteArray := prog_10_method_2_code
def yX8_know : MethodName := ⟨RX8, "know", "(Ljava/lang/String;)V"⟩
abbrev cX8_idOf : ByteArray := prog_10_method_3_code
def yX8_idOf : MethodName := ⟨RX8, "idOf", "(LWordTongue$Ints;II)I"⟩
abbrev cX8_isAlike : ByteArray := prog_10_method_4_code
def yX8_isAlike : MethodName := ⟨RX8, "isAlike", "(ILWordTongue$Ints;II)Z"⟩
abbrev cX8_kinds : ByteArray := prog_10_method_5_code
def yX8_kinds : MethodName := ⟨RX8, "kinds", "()LWordTongue$Ints;"⟩
abbrev cX8_infos : ByteArray := prog_10_method_6_code
def yX8_infos : MethodName := ⟨RX8, "infos", "()LWordTongue$Ints;"⟩
abbrev cX8_places : ByteArray := prog_10_method_7_code
def yX8_places : MethodName := ⟨RX8, "places", "()LWordTongue$Ints;"⟩
abbrev cX8_strings : ByteArray := prog_10_method_8_code
def yX8_strings : MethodName := ⟨RX8, "strings", "()LWordTongue$Ints;"⟩
abbrev cX8_scan : ByteArray := prog_10_method_9_code
def yX8_scan : MethodName := ⟨RX8, "scan", "()V"⟩
abbrev cX8_pass : ByteArray := prog_10_method_10_code
def yX8_pass : MethodName := ⟨RX8, "pass", "()V"⟩
abbrev cX8_skipLine : ByteArray := prog_10_method_11_code
def yX8_skipLine : MethodName := ⟨RX8, "skipLine", "()V"⟩
abbrev cX8_put : ByteArray := prog_10_method_12_code
def yX8_put : MethodName := ⟨RX8, "put", "(III)V"⟩
abbrev cX8_mayEnd : ByteArray := prog_10_method_13_code
def yX8_mayEnd : MethodName := ⟨RX8, "mayEnd", "(I)Z"⟩
abbrev cX8_mayBegin : ByteArray := prog_10_method_14_code
def yX8_mayBegin : MethodName := ⟨RX8, "mayBegin", "(I)Z"⟩
abbrev cX8_token : ByteArray := prog_10_method_15_code
def yX8_token : MethodName := ⟨RX8, "token", "()V"⟩
abbrev cX8_isLetter : ByteArray := prog_10_method_16_code
def yX8_isLetter : MethodName := ⟨RX8, "isLetter", "(I)Z"⟩
abbrev cX8_isDigit : ByteArray := prog_10_method_17_code
def yX8_isDigit : MethodName := ⟨RX8, "isDigit", "(I)Z"⟩
abbrev cX8_isRest : ByteArray := prog_10_method_18_code
def yX8_isRest : MethodName := ⟨RX8, "isRest", "(I)Z"⟩
abbrev cX8_restEnd : ByteArray := prog_10_method_19_code
def yX8_restEnd : MethodName := ⟨RX8, "restEnd", "(I)I"⟩
abbrev cX8_name : ByteArray := prog_10_method_20_code
def yX8_name : MethodName := ⟨RX8, "name", "(I)V"⟩
abbrev cX8_digitOf : ByteArray := prog_10_method_21_code
def yX8_digitOf : MethodName := ⟨RX8, "digitOf", "(I)I"⟩
abbrev cX8_number : ByteArray := prog_10_method_22_code
def yX8_number : MethodName := ⟨RX8, "number", "(III)V"⟩
abbrev cX8_quoted : ByteArray := prog_10_method_23_code
def yX8_quoted : MethodName := ⟨RX8, "quoted", "(I)I"⟩
abbrev cX8_string : ByteArray := prog_10_method_24_code
def yX8_string : MethodName := ⟨RX8, "string", "(I)V"⟩
abbrev cX8_section : ByteArray := prog_10_method_25_code
def yX8_section : MethodName := ⟨RX8, "section", "(I)V"⟩
abbrev cX8_sign : ByteArray := prog_10_method_26_code
def yX8_sign : MethodName := ⟨RX8, "sign", "(II)V"⟩
abbrev cX8_doubled : ByteArray := prog_10_method_27_code
def yX8_doubled : MethodName := ⟨RX8, "doubled", "(II)I"⟩
abbrev cX8_single : ByteArray := prog_10_method_28_code
def yX8_single : MethodName := ⟨RX8, "single", "(I)I"⟩
def RX9 : String := "WordTongue$Scope"
def TX9 : u_T := fun k => match k with
  | 0 => ("WordTongue$Scope", "program", "LWordTongue$Program;", true)
  | 1 => ("WordTongue$Scope", "names", "LWordTongue$Ints;", true)
  | 2 => ("WordTongue$Scope", "kinds", "LWordTongue$Ints;", true)
  | 3 => ("WordTongue$Scope", "datas", "LWordTongue$Ints;", true)
  | 4 => ("WordTongue$Scope", "owners", "LWordTongue$Ints;", true)
  | 5 => ("WordTongue$Scope", "places", "LWordTongue$Ints;", true)
  | 6 => ("WordTongue$Scope", "marks", "LWordTongue$Ints;", true)
  | _ => ("WordTongue$Scope", "floor", "I", false)
def tyX9 : Nat → FieldType := fun k => match k with
  | 0 => .object "WordTongue$Program"
  | 1 => .object "WordTongue$Ints"
  | 2 => .object "WordTongue$Ints"
  | 3 => .object "WordTongue$Ints"
  | 4 => .object "WordTongue$Ints"
  | 5 => .object "WordTongue$Ints"
  | 6 => .object "WordTongue$Ints"
  | _ => .int
abbrev wsX90 : List Cond := u_ws RX9 TX9 8
theorem nmX9 : ∀ a, a < 8 → ∀ b, b < 8 → a ≠ b → (TX9 a).2.1 ≠ (TX9 b).2.1 := by decide +kernel
theorem tyX9_ok : ∀ k, k < 8 → parseFieldDescriptor (TX9 k).2.2.1 = some (tyX9 k) := by decide +kernel
abbrev cX9_init : ByteArray := prog_11_method_1_code
def yX9_init : MethodName := ⟨RX9, "<init>", "(LWordTongue$Program;)V"⟩
abbrev cX9_clear : ByteArray := prog_11_method_2_code
def yX9_clear : MethodName := ⟨RX9, "clear", "()V"⟩
abbrev cX9_cut : ByteArray := prog_11_method_3_code
def yX9_cut : MethodName := ⟨RX9, "cut", "(I)V"⟩
abbrev cX9_put : ByteArray := prog_11_method_4_code
def yX9_put : MethodName := ⟨RX9, "put", "(IIIII)I"⟩
abbrev cX9_open : ByteArray := prog_11_method_5_code
def yX9_open : MethodName := ⟨RX9, "open", "()V"⟩
abbrev cX9_close : ByteArray := prog_11_method_6_code
def yX9_close : MethodName := ⟨RX9, "close", "()V"⟩
abbrev cX9_declare : ByteArray := prog_11_method_7_code
def yX9_declare : MethodName := ⟨RX9, "declare", "(IIIII)I"⟩
abbrev cX9_find : ByteArray := prog_11_method_8_code
def yX9_find : MethodName := ⟨RX9, "find", "(I)I"⟩
abbrev cX9_kind : ByteArray := prog_11_method_9_code
def yX9_kind : MethodName := ⟨RX9, "kind", "(I)I"⟩
abbrev cX9_data : ByteArray := prog_11_method_10_code
def yX9_data : MethodName := ⟨RX9, "data", "(I)I"⟩
abbrev cX9_owner : ByteArray := prog_11_method_11_code
def yX9_owner : MethodName := ⟨RX9, "owner", "(I)I"⟩
abbrev cX9_place : ByteArray := prog_11_method_12_code
def yX9_place : MethodName := ⟨RX9, "place", "(I)I"⟩
abbrev cX9_setData : ByteArray := prog_11_method_13_code
def yX9_setData : MethodName := ⟨RX9, "setData", "(II)V"⟩
abbrev cX9_setOwner : ByteArray := prog_11_method_14_code
def yX9_setOwner : MethodName := ⟨RX9, "setOwner", "(II)V"⟩
def RX10 : String := "WordTongue$Tree"
def TX10 : u_T := fun k => match k with
  | 0 => ("WordTongue$Tree", "kinds", "LWordTongue$Ints;", true)
  | 1 => ("WordTongue$Tree", "places", "LWordTongue$Ints;", true)
  | 2 => ("WordTongue$Tree", "datas", "LWordTongue$Ints;", true)
  | 3 => ("WordTongue$Tree", "extras", "LWordTongue$Ints;", true)
  | 4 => ("WordTongue$Tree", "firsts", "LWordTongue$Ints;", true)
  | 5 => ("WordTongue$Tree", "lasts", "LWordTongue$Ints;", true)
  | _ => ("WordTongue$Tree", "nexts", "LWordTongue$Ints;", true)
def tyX10 : Nat → FieldType := fun k => match k with
  | 0 => .object "WordTongue$Ints"
  | 1 => .object "WordTongue$Ints"
  | 2 => .object "WordTongue$Ints"
  | 3 => .object "WordTongue$Ints"
  | 4 => .object "WordTongue$Ints"
  | 5 => .object "WordTongue$Ints"
  | _ => .object "WordTongue$Ints"
abbrev wsX100 : List Cond := u_ws RX10 TX10 7
theorem nmX10 : ∀ a, a < 7 → ∀ b, b < 7 → a ≠ b → (TX10 a).2.1 ≠ (TX10 b).2.1 := by decide +kernel
theorem tyX10_ok : ∀ k, k < 7 → parseFieldDescriptor (TX10 k).2.2.1 = some (tyX10 k) := by decide +kernel
abbrev cX10_init : ByteArray := prog_12_method_1_code
def yX10_init : MethodName := ⟨RX10, "<init>", "()V"⟩
abbrev cX10_clear : ByteArray := prog_12_method_2_code
def yX10_clear : MethodName := ⟨RX10, "clear", "()V"⟩
abbrev cX10_node : ByteArray := prog_12_method_3_code
def yX10_node : MethodName := ⟨RX10, "node", "(III)I"⟩
abbrev cX10_hang : ByteArray := prog_12_method_4_code
def yX10_hang : MethodName := ⟨RX10, "hang", "(II)V"⟩
abbrev cX10_kind : ByteArray := prog_12_method_5_code
def yX10_kind : MethodName := ⟨RX10, "kind", "(I)I"⟩
abbrev cX10_place : ByteArray := prog_12_method_6_code
def yX10_place : MethodName := ⟨RX10, "place", "(I)I"⟩
abbrev cX10_data : ByteArray := prog_12_method_7_code
def yX10_data : MethodName := ⟨RX10, "data", "(I)I"⟩
abbrev cX10_extra : ByteArray := prog_12_method_8_code
def yX10_extra : MethodName := ⟨RX10, "extra", "(I)I"⟩
abbrev cX10_first : ByteArray := prog_12_method_9_code
def yX10_first : MethodName := ⟨RX10, "first", "(I)I"⟩
abbrev cX10_last : ByteArray := prog_12_method_10_code
def yX10_last : MethodName := ⟨RX10, "last", "(I)I"⟩
abbrev cX10_next : ByteArray := prog_12_method_11_code
def yX10_next : MethodName := ⟨RX10, "next", "(I)I"⟩
abbrev cX10_setKind : ByteArray := prog_12_method_12_code
def yX10_setKind : MethodName := ⟨RX10, "setKind", "(II)V"⟩
abbrev cX10_setData : ByteArray := prog_12_method_13_code
def yX10_setData : MethodName := ⟨RX10, "setData", "(II)V"⟩
abbrev cX10_setExtra : ByteArray := prog_12_method_14_code
def yX10_setExtra : MethodName := ⟨RX10, "setExtra", "(II)V"⟩
def RX11 : String := "WordTongue"
def TX11 : u_T := fun k => match k with
  | 0 => ("WordTongue", "tape", "LWordTongue$Ints;", true)
  | 1 => ("WordTongue", "program", "LWordTongue$Program;", true)
  | 2 => ("WordTongue", "tree", "LWordTongue$Tree;", true)
  | 3 => ("WordTongue", "scanner", "LWordTongue$Scanner;", true)
  | 4 => ("WordTongue", "parser", "LWordTongue$Parser;", true)
  | 5 => ("WordTongue", "coder", "LWordTongue$Coder;", true)
  | 6 => ("WordTongue", "channels", "LWordTongue$Channels;", true)
  | 7 => ("WordTongue", "machine", "LWordTongue$Machine;", true)
  | 8 => ("WordTongue", "storeWords", "I", false)
  | _ => ("WordTongue", "goodWords", "I", false)
def tyX11 : Nat → FieldType := fun k => match k with
  | 0 => .object "WordTongue$Ints"
  | 1 => .object "WordTongue$Program"
  | 2 => .object "WordTongue$Tree"
  | 3 => .object "WordTongue$Scanner"
  | 4 => .object "WordTongue$Parser"
  | 5 => .object "WordTongue$Coder"
  | 6 => .object "WordTongue$Channels"
  | 7 => .object "WordTongue$Machine"
  | 8 => .int
  | _ => .int
abbrev wsX110 : List Cond := u_ws RX11 TX11 10
theorem nmX11 : ∀ a, a < 10 → ∀ b, b < 10 → a ≠ b → (TX11 a).2.1 ≠ (TX11 b).2.1 := by decide +kernel
theorem tyX11_ok : ∀ k, k < 10 → parseFieldDescriptor (TX11 k).2.2.1 = some (tyX11 k) := by decide +kernel
abbrev cX11_init : ByteArray := prog_1_method_1_code
def yX11_init : MethodName := ⟨RX11, "<init>", "()V"⟩
abbrev cX11_feed : ByteArray := prog_1_method_2_code
def yX11_feed : MethodName := ⟨RX11, "feed", "(IIIII)Z"⟩
abbrev cX11_addBytes : ByteArray := prog_1_method_3_code
def yX11_addBytes : MethodName := ⟨RX11, "addBytes", "(I)V"⟩
abbrev cX11_end : ByteArray := prog_1_method_4_code
def yX11_end : MethodName := ⟨RX11, "end", "(I)Z"⟩
abbrev cX11_compile : ByteArray := prog_1_method_5_code
def yX11_compile : MethodName := ⟨RX11, "compile", "()I"⟩
abbrev cX11_fault : ByteArray := prog_1_method_6_code
def yX11_fault : MethodName := ⟨RX11, "fault", "()I"⟩
abbrev cX11_store : ByteArray := prog_1_method_7_code
def yX11_store : MethodName := ⟨RX11, "store", "(I)Z"⟩
abbrev cX11_input : ByteArray := prog_1_method_8_code
def yX11_input : MethodName := ⟨RX11, "input", "(I)I"⟩
abbrev cX11_run : ByteArray := prog_1_method_9_code
def yX11_run : MethodName := ⟨RX11, "run", "(I)I"⟩
abbrev cX11_value : ByteArray := prog_1_method_10_code
def yX11_value : MethodName := ⟨RX11, "value", "()I"⟩
abbrev cX11_out : ByteArray := prog_1_method_11_code
def yX11_out : MethodName := ⟨RX11, "out", "(I)I"⟩
abbrev cX11_outAt : ByteArray := prog_1_method_12_code
def yX11_outAt : MethodName := ⟨RX11, "outAt", "(II)I"⟩
abbrev cX11_word : ByteArray := prog_1_method_13_code
def yX11_word : MethodName := ⟨RX11, "word", "(I)I"⟩
abbrev cX11_fuel : ByteArray := prog_1_method_14_code
def yX11_fuel : MethodName := ⟨RX11, "fuel", "()I"⟩
abbrev cX11_worked : ByteArray := prog_1_method_15_code
def yX11_worked : MethodName := ⟨RX11, "worked", "(III)I"⟩
abbrev cX11_holds : ByteArray := prog_1_method_16_code
def yX11_holds : MethodName := ⟨RX11, "holds", "(III)Z"⟩
abbrev cX11_power : ByteArray := prog_1_method_17_code
def yX11_power : MethodName := ⟨RX11, "power", "(I)I"⟩
abbrev cX11_isRelation : ByteArray := prog_1_method_18_code
def yX11_isRelation : MethodName := ⟨RX11, "isRelation", "(I)Z"⟩
abbrev cX11_isDivision : ByteArray := prog_1_method_19_code
def yX11_isDivision : MethodName := ⟨RX11, "isDivision", "(I)Z"⟩
def RX12 : String := "WordTongueModel"
def TX12 : u_T := fun k => match k with
  | 0 => ("WordTongueModel", "thrownCode", "I", false)
  | 1 => ("WordTongueModel", "tape", "[B", true)
  | 2 => ("WordTongueModel", "tapeLen", "I", false)
  | 3 => ("WordTongueModel", "src", "[B", true)
  | 4 => ("WordTongueModel", "srcLen", "I", false)
  | 5 => ("WordTongueModel", "names", "I", false)
  | 6 => ("WordTongueModel", "nameAt", "[I", true)
  | 7 => ("WordTongueModel", "nameLen", "[I", true)
  | 8 => ("WordTongueModel", "tokens", "I", false)
  | 9 => ("WordTongueModel", "tKind", "[I", true)
  | 10 => ("WordTongueModel", "tAt", "[I", true)
  | 11 => ("WordTongueModel", "tValue", "[I", true)
  | 12 => ("WordTongueModel", "faultOf", "I", false)
  | 13 => ("WordTongueModel", "faultAt", "I", false)
  | 14 => ("WordTongueModel", "strs", "[B", true)
  | 15 => ("WordTongueModel", "strsLen", "I", false)
  | 16 => ("WordTongueModel", "strAt", "[I", true)
  | 17 => ("WordTongueModel", "strLen", "[I", true)
  | 18 => ("WordTongueModel", "strCount", "I", false)
  | 19 => ("WordTongueModel", "line", "I", false)
  | 20 => ("WordTongueModel", "lastLine", "I", false)
  | 21 => ("WordTongueModel", "cValue", "I", false)
  | 22 => ("WordTongueModel", "number", "I", false)
  | 23 => ("WordTongueModel", "signLen", "I", false)
  | 24 => ("WordTongueModel", "nodes", "I", false)
  | 25 => ("WordTongueModel", "nKind", "[B", true)
  | 26 => ("WordTongueModel", "nTok", "[I", true)
  | 27 => ("WordTongueModel", "nChild", "[I", true)
  | 28 => ("WordTongueModel", "nNext", "[I", true)
  | 29 => ("WordTongueModel", "nA", "[I", true)
  | 30 => ("WordTongueModel", "nB", "[I", true)
  | 31 => ("WordTongueModel", "nC", "[I", true)
  | 32 => ("WordTongueModel", "nPair", "[I", true)
  | 33 => ("WordTongueModel", "nRel", "[I", true)
  | 34 => ("WordTongueModel", "nFirst", "[I", true)
  | 35 => ("WordTongueModel", "nParen", "[Z", true)
  | 36 => ("WordTongueModel", "out", "[I", true)
  | 37 => ("WordTongueModel", "outs", "I", false)
  | 38 => ("WordTongueModel", "goals", "I", false)
  | 39 => ("WordTongueModel", "gKind", "[I", true)
  | 40 => ("WordTongueModel", "gX", "[I", true)
  | 41 => ("WordTongueModel", "gY", "[I", true)
  | 42 => ("WordTongueModel", "gZ", "[I", true)
  | 43 => ("WordTongueModel", "at", "I", false)
  | 44 => ("WordTongueModel", "depth", "I", false)
  | 45 => ("WordTongueModel", "sections", "I", false)
  | 46 => ("WordTongueModel", "secTag", "[I", true)
  | 47 => ("WordTongueModel", "secDepth", "[I", true)
  | 48 => ("WordTongueModel", "lexEnd", "I", false)
  | 49 => ("WordTongueModel", "entries", "I", false)
  | 50 => ("WordTongueModel", "eName", "[I", true)
  | 51 => ("WordTongueModel", "eKind", "[I", true)
  | 52 => ("WordTongueModel", "eValue", "[I", true)
  | 53 => ("WordTongueModel", "eState", "[I", true)
  | 54 => ("WordTongueModel", "eOther", "[I", true)
  | 55 => ("WordTongueModel", "blockBase", "I", false)
  | 56 => ("WordTongueModel", "libName", "[I", true)
  | 57 => ("WordTongueModel", "eTok", "[I", true)
  | 58 => ("WordTongueModel", "kGood", "Z", false)
  | 59 => ("WordTongueModel", "kValue", "I", false)
  | 60 => ("WordTongueModel", "walk", "[I", true)
  | 61 => ("WordTongueModel", "step", "[I", true)
  | 62 => ("WordTongueModel", "kWork", "[I", true)
  | 63 => ("WordTongueModel", "tasks", "I", false)
  | 64 => ("WordTongueModel", "cTask", "[I", true)
  | 65 => ("WordTongueModel", "cNode", "[I", true)
  | 66 => ("WordTongueModel", "cAux", "[I", true)
  | 67 => ("WordTongueModel", "saved", "I", false)
  | 68 => ("WordTongueModel", "save", "[I", true)
  | 69 => ("WordTongueModel", "routines", "I", false)
  | 70 => ("WordTongueModel", "rMax", "[I", true)
  | 71 => ("WordTongueModel", "rParams", "[I", true)
  | 72 => ("WordTongueModel", "rBody", "[I", true)
  | 73 => ("WordTongueModel", "routine", "I", false)
  | 74 => ("WordTongueModel", "inUse", "I", false)
  | 75 => ("WordTongueModel", "mostUse", "I", false)
  | 76 => ("WordTongueModel", "gives", "Z", false)
  | 77 => ("WordTongueModel", "valof", "I", false)
  | 78 => ("WordTongueModel", "valofs", "I", false)
  | 79 => ("WordTongueModel", "loops", "I", false)
  | 80 => ("WordTongueModel", "switches", "I", false)
  | 81 => ("WordTongueModel", "words", "I", false)
  | 82 => ("WordTongueModel", "start", "I", false)
  | 83 => ("WordTongueModel", "startName", "I", false)
  | 84 => ("WordTongueModel", "inits", "I", false)
  | 85 => ("WordTongueModel", "initAt", "[I", true)
  | 86 => ("WordTongueModel", "initValue", "[I", true)
  | 87 => ("WordTongueModel", "todo", "I", false)
  | 88 => ("WordTongueModel", "xTask", "[I", false)
  | 89 => ("WordTongueModel", "xNode", "[I", false)
  | 90 => ("WordTongueModel", "xAux", "[I", false)
  | 91 => ("WordTongueModel", "vals", "I", false)
  | 92 => ("WordTongueModel", "val", "[I", false)
  | 93 => ("WordTongueModel", "backB", "[I", true)
  | 94 => ("WordTongueModel", "backR", "[I", true)
  | 95 => ("WordTongueModel", "under", "I", false)
  | 96 => ("WordTongueModel", "base", "I", false)
  | 97 => ("WordTongueModel", "running", "I", false)
  | 98 => ("WordTongueModel", "store", "[I", true)
  | 99 => ("WordTongueModel", "size", "I", false)
  | 100 => ("WordTongueModel", "wanted", "I", false)
  | 101 => ("WordTongueModel", "fuelLeft", "I", false)
  | 102 => ("WordTongueModel", "ended", "Z", false)
  | 103 => ("WordTongueModel", "answer", "I", false)
  | 104 => ("WordTongueModel", "result", "I", false)
  | 105 => ("WordTongueModel", "compiled", "Z", false)
  | 106 => ("WordTongueModel", "gots", "I", false)
  | 107 => ("WordTongueModel", "gotAt", "[I", true)
  | 108 => ("WordTongueModel", "gotLen", "[I", true)
  | 109 => ("WordTongueModel", "input", "[B", true)
  | 110 => ("WordTongueModel", "runEnd", "[I", true)
  | 111 => ("WordTongueModel", "digitsFrom", "[I", true)
  | 112 => ("WordTongueModel", "inLen", "[I", true)
  | 113 => ("WordTongueModel", "inAt", "[I", true)
  | 114 => ("WordTongueModel", "inNow", "I", false)
  | 115 => ("WordTongueModel", "output", "[B", true)
  | 116 => ("WordTongueModel", "outLen", "[I", true)
  | 117 => ("WordTongueModel", "outNow", "I", false)
  | _ => ("WordTongueModel", "figures", "[B", true)
def tyX12 : Nat → FieldType := fun k => match k with
  | 0 => .int
  | 1 => .array .byte
  | 2 => .int
  | 3 => .array .byte
  | 4 => .int
  | 5 => .int
  | 6 => .array .int
  | 7 => .array .int
  | 8 => .int
  | 9 => .array .int
  | 10 => .array .int
  | 11 => .array .int
  | 12 => .int
  | 13 => .int
  | 14 => .array .byte
  | 15 => .int
  | 16 => .array .int
  | 17 => .array .int
  | 18 => .int
  | 19 => .int
  | 20 => .int
  | 21 => .int
  | 22 => .int
  | 23 => .int
  | 24 => .int
  | 25 => .array .byte
  | 26 => .array .int
  | 27 => .array .int
  | 28 => .array .int
  | 29 => .array .int
  | 30 => .array .int
  | 31 => .array .int
  | 32 => .array .int
  | 33 => .array .int
  | 34 => .array .int
  | 35 => .array .boolean
  | 36 => .array .int
  | 37 => .int
  | 38 => .int
  | 39 => .array .int
  | 40 => .array .int
  | 41 => .array .int
  | 42 => .array .int
  | 43 => .int
  | 44 => .int
  | 45 => .int
  | 46 => .array .int
  | 47 => .array .int
  | 48 => .int
  | 49 => .int
  | 50 => .array .int
  | 51 => .array .int
  | 52 => .array .int
  | 53 => .array .int
  | 54 => .array .int
  | 55 => .int
  | 56 => .array .int
  | 57 => .array .int
  | 58 => .boolean
  | 59 => .int
  | 60 => .array .int
  | 61 => .array .int
  | 62 => .array .int
  | 63 => .int
  | 64 => .array .int
  | 65 => .array .int
  | 66 => .array .int
  | 67 => .int
  | 68 => .array .int
  | 69 => .int
  | 70 => .array .int
  | 71 => .array .int
  | 72 => .array .int
  | 73 => .int
  | 74 => .int
  | 75 => .int
  | 76 => .boolean
  | 77 => .int
  | 78 => .int
  | 79 => .int
  | 80 => .int
  | 81 => .int
  | 82 => .int
  | 83 => .int
  | 84 => .int
  | 85 => .array .int
  | 86 => .array .int
  | 87 => .int
  | 88 => .array .int
  | 89 => .array .int
  | 90 => .array .int
  | 91 => .int
  | 92 => .array .int
  | 93 => .array .int
  | 94 => .array .int
  | 95 => .int
  | 96 => .int
  | 97 => .int
  | 98 => .array .int
  | 99 => .int
  | 100 => .int
  | 101 => .int
  | 102 => .boolean
  | 103 => .int
  | 104 => .int
  | 105 => .boolean
  | 106 => .int
  | 107 => .array .int
  | 108 => .array .int
  | 109 => .array .byte
  | 110 => .array .int
  | 111 => .array .int
  | 112 => .array .int
  | 113 => .array .int
  | 114 => .int
  | 115 => .array .byte
  | 116 => .array .int
  | 117 => .int
  | _ => .array .byte
abbrev wsX120 : List Cond := u_ws RX12 TX12 119
theorem nmX12 : ∀ a, a < 119 → ∀ b, b < 119 → a ≠ b → (TX12 a).2.1 ≠ (TX12 b).2.1 := by decide +kernel
theorem tyX12_ok : ∀ k, k < 119 → parseFieldDescriptor (TX12 k).2.2.1 = some (tyX12 k) := by decide +kernel
abbrev cX12_init : ByteArray := prog_14_method_1_code
def yX12_init : MethodName := ⟨RX12, "<init>", "()V"⟩
abbrev cX12_thrown : ByteArray := prog_14_method_2_code
def yX12_thrown : MethodName := ⟨RX12, "thrown", "()I"⟩
abbrev cX12_nameOf : ByteArray := prog_14_method_3_code
def yX12_nameOf : MethodName := ⟨RX12, "nameOf", "(II)I"⟩
abbrev cX12_isText : ByteArray := prog_14_method_4_code
def yX12_isText : MethodName := ⟨RX12, "isText", "(IIJJ)Z"⟩
abbrev cX12_keyword : ByteArray := prog_14_method_5_code
def yX12_keyword : MethodName := ⟨RX12, "keyword", "(II)I"⟩
abbrev cX12_isLetter : ByteArray := prog_14_method_6_code
def yX12_isLetter : MethodName := ⟨RX12, "isLetter", "(I)Z"⟩
abbrev cX12_isDigit : ByteArray := prog_14_method_7_code
def yX12_isDigit : MethodName := ⟨RX12, "isDigit", "(I)Z"⟩
abbrev cX12_isRest : ByteArray := prog_14_method_8_code
def yX12_isRest : MethodName := ⟨RX12, "isRest", "(I)Z"⟩
abbrev cX12_look : ByteArray := prog_14_method_9_code
def yX12_look : MethodName := ⟨RX12, "look", "(I)I"⟩
abbrev cX12_endsLine : ByteArray := prog_14_method_10_code
def yX12_endsLine : MethodName := ⟨RX12, "endsLine", "(I)Z"⟩
abbrev cX12_isBeginning : ByteArray := prog_14_method_11_code
def yX12_isBeginning : MethodName := ⟨RX12, "isBeginning", "(I)Z"⟩
abbrev cX12_isDoless : ByteArray := prog_14_method_12_code
def yX12_isDoless : MethodName := ⟨RX12, "isDoless", "(I)Z"⟩
abbrev cX12_token : ByteArray := prog_14_method_13_code
def yX12_token : MethodName := ⟨RX12, "token", "(III)V"⟩
abbrev cX12_oneC : ByteArray := prog_14_method_14_code
def yX12_oneC : MethodName := ⟨RX12, "oneC", "(II)I"⟩
abbrev cX12_stringAt : ByteArray := prog_14_method_15_code
def yX12_stringAt : MethodName := ⟨RX12, "stringAt", "(I)I"⟩
abbrev cX12_digits : ByteArray := prog_14_method_16_code
def yX12_digits : MethodName := ⟨RX12, "digits", "(II)I"⟩
abbrev cX12_isPair : ByteArray := prog_14_method_17_code
def yX12_isPair : MethodName := ⟨RX12, "isPair", "(III)Z"⟩
abbrev cX12_signAt : ByteArray := prog_14_method_18_code
def yX12_signAt : MethodName := ⟨RX12, "signAt", "(I)I"⟩
abbrev cX12_scan : ByteArray := prog_14_method_19_code
def yX12_scan : MethodName := ⟨RX12, "scan", "()I"⟩
abbrev cX12_one : ByteArray := prog_14_method_20_code
def yX12_one : MethodName := ⟨RX12, "one", "(II)I"⟩
abbrev cX12_node : ByteArray := prog_14_method_21_code
def yX12_node : MethodName := ⟨RX12, "node", "(III)I"⟩
abbrev cX12_leaf : ByteArray := prog_14_method_22_code
def yX12_leaf : MethodName := ⟨RX12, "leaf", "(III)V"⟩
abbrev cX12_shut : ByteArray := prog_14_method_23_code
def yX12_shut : MethodName := ⟨RX12, "shut", "(IIII)I"⟩
abbrev cX12_pairs : ByteArray := prog_14_method_24_code
def yX12_pairs : MethodName := ⟨RX12, "pairs", "(I)V"⟩
abbrev cX12_goal : ByteArray := prog_14_method_25_code
def yX12_goal : MethodName := ⟨RX12, "goal", "(IIII)V"⟩
abbrev cX12_tk : ByteArray := prog_14_method_26_code
def yX12_tk : MethodName := ⟨RX12, "tk", "()I"⟩
abbrev cX12_tkNext : ByteArray := prog_14_method_27_code
def yX12_tkNext : MethodName := ⟨RX12, "tkNext", "()I"⟩
abbrev cX12_take : ByteArray := prog_14_method_28_code
def yX12_take : MethodName := ⟨RX12, "take", "(I)Z"⟩
abbrev cX12_deeper : ByteArray := prog_14_method_29_code
def yX12_deeper : MethodName := ⟨RX12, "deeper", "()Z"⟩
abbrev cX12_isD : ByteArray := prog_14_method_30_code
def yX12_isD : MethodName := ⟨RX12, "isD", "(I)Z"⟩
abbrev cX12_openSection : ByteArray := prog_14_method_31_code
def yX12_openSection : MethodName := ⟨RX12, "openSection", "()Z"⟩
abbrev cX12_shutSection : ByteArray := prog_14_method_32_code
def yX12_shutSection : MethodName := ⟨RX12, "shutSection", "()Z"⟩
abbrev cX12_parse : ByteArray := prog_14_method_33_code
def yX12_parse : MethodName := ⟨RX12, "parse", "()Z"⟩
abbrev cX12_reach : ByteArray := prog_14_method_34_code
def yX12_reach : MethodName := ⟨RX12, "reach", "(IIII)Z"⟩
abbrev cX12_reachD : ByteArray := prog_14_method_35_code
def yX12_reachD : MethodName := ⟨RX12, "reachD", "(IIII)Z"⟩
abbrev cX12_reachP : ByteArray := prog_14_method_36_code
def yX12_reachP : MethodName := ⟨RX12, "reachP", "(I)Z"⟩
abbrev cX12_beginsE : ByteArray := prog_14_method_37_code
def yX12_beginsE : MethodName := ⟨RX12, "beginsE", "(I)Z"⟩
abbrev cX12_reachC : ByteArray := prog_14_method_38_code
def yX12_reachC : MethodName := ⟨RX12, "reachC", "(IIII)Z"⟩
abbrev cX12_labels : ByteArray := prog_14_method_39_code
def yX12_labels : MethodName := ⟨RX12, "labels", "(I)V"⟩
abbrev cX12_command : ByteArray := prog_14_method_40_code
def yX12_command : MethodName := ⟨RX12, "command", "(III)Z"⟩
abbrev cX12_levelOf : ByteArray := prog_14_method_41_code
def yX12_levelOf : MethodName := ⟨RX12, "levelOf", "(I)I"⟩
abbrev cX12_reachE : ByteArray := prog_14_method_42_code
def yX12_reachE : MethodName := ⟨RX12, "reachE", "(IIII)Z"⟩
abbrev cX12_calls : ByteArray := prog_14_method_43_code
def yX12_calls : MethodName := ⟨RX12, "calls", "(III)Z"⟩
abbrev cX12_primary : ByteArray := prog_14_method_44_code
def yX12_primary : MethodName := ⟨RX12, "primary", "(II)Z"⟩
abbrev cX12_binary : ByteArray := prog_14_method_45_code
def yX12_binary : MethodName := ⟨RX12, "binary", "(III)V"⟩
abbrev cX12_fault : ByteArray := prog_14_method_46_code
def yX12_fault : MethodName := ⟨RX12, "fault", "(II)V"⟩
abbrev cX12_place : ByteArray := prog_14_method_47_code
def yX12_place : MethodName := ⟨RX12, "place", "(I)I"⟩
abbrev cX12_means : ByteArray := prog_14_method_48_code
def yX12_means : MethodName := ⟨RX12, "means", "(I)I"⟩
abbrev cX12_entry : ByteArray := prog_14_method_49_code
def yX12_entry : MethodName := ⟨RX12, "entry", "(IIIII)I"⟩
abbrev cX12_declare : ByteArray := prog_14_method_50_code
def yX12_declare : MethodName := ⟨RX12, "declare", "(IIIIII)I"⟩
abbrev cX12_tokenOfTwice : ByteArray := prog_14_method_51_code
def yX12_tokenOfTwice : MethodName := ⟨RX12, "tokenOfTwice", "(II)I"⟩
abbrev cX12_isK : ByteArray := prog_14_method_52_code
def yX12_isK : MethodName := ⟨RX12, "isK", "(I)Z"⟩
abbrev cX12_isKName : ByteArray := prog_14_method_53_code
def yX12_isKName : MethodName := ⟨RX12, "isKName", "(I)Z"⟩
abbrev cX12_shifted : ByteArray := prog_14_method_54_code
def yX12_shifted : MethodName := ⟨RX12, "shifted", "(IIZ)I"⟩
abbrev cX12_quotient : ByteArray := prog_14_method_55_code
def yX12_quotient : MethodName := ⟨RX12, "quotient", "(II)I"⟩
abbrev cX12_remainder : ByteArray := prog_14_method_56_code
def yX12_remainder : MethodName := ⟨RX12, "remainder", "(II)I"⟩
abbrev cX12_worked : ByteArray := prog_14_method_57_code
def yX12_worked : MethodName := ⟨RX12, "worked", "(III)I"⟩
abbrev cX12_related : ByteArray := prog_14_method_58_code
def yX12_related : MethodName := ⟨RX12, "related", "(III)Z"⟩
abbrev cX12_signed : ByteArray := prog_14_method_59_code
def yX12_signed : MethodName := ⟨RX12, "signed", "(II)I"⟩
abbrev cX12_constant : ByteArray := prog_14_method_60_code
def yX12_constant : MethodName := ⟨RX12, "constant", "(I)V"⟩
abbrev cX12_later : ByteArray := prog_14_method_61_code
def yX12_later : MethodName := ⟨RX12, "later", "(II)I"⟩
abbrev cX12_task : ByteArray := prog_14_method_62_code
def yX12_task : MethodName := ⟨RX12, "task", "(III)V"⟩
abbrev cX12_put : ByteArray := prog_14_method_63_code
def yX12_put : MethodName := ⟨RX12, "put", "(I)V"⟩
abbrev cX12_pull : ByteArray := prog_14_method_64_code
def yX12_pull : MethodName := ⟨RX12, "pull", "()I"⟩
abbrev cX12_init_ : ByteArray := prog_14_method_65_code
def yX12_init_ : MethodName := ⟨RX12, "init", "(II)V"⟩
abbrev cX12_children : ByteArray := prog_14_method_66_code
def yX12_children : MethodName := ⟨RX12, "children", "(II)V"⟩
abbrev cX12_turn : ByteArray := prog_14_method_67_code
def yX12_turn : MethodName := ⟨RX12, "turn", "(I)V"⟩
abbrev cX12_library : ByteArray := prog_14_method_68_code
def yX12_library : MethodName := ⟨RX12, "library", "()V"⟩
abbrev cX12_lib : ByteArray := prog_14_method_69_code
def yX12_lib : MethodName := ⟨RX12, "lib", "(JJI)V"⟩
abbrev cX12_check : ByteArray := prog_14_method_70_code
def yX12_check : MethodName := ⟨RX12, "check", "()V"⟩
abbrev cX12_go : ByteArray := prog_14_method_71_code
def yX12_go : MethodName := ⟨RX12, "go", "(III)V"⟩
abbrev cX12_nameToken : ByteArray := prog_14_method_72_code
def yX12_nameToken : MethodName := ⟨RX12, "nameToken", "(I)I"⟩
abbrev cX12_declaration : ByteArray := prog_14_method_73_code
def yX12_declaration : MethodName := ⟨RX12, "declaration", "(I)V"⟩
abbrev cX12_letRoutines : ByteArray := prog_14_method_74_code
def yX12_letRoutines : MethodName := ⟨RX12, "letRoutines", "(I)V"⟩
abbrev cX12_routineOf : ByteArray := prog_14_method_75_code
def yX12_routineOf : MethodName := ⟨RX12, "routineOf", "(II)V"⟩
abbrev cX12_routineEnds : ByteArray := prog_14_method_76_code
def yX12_routineEnds : MethodName := ⟨RX12, "routineEnds", "(I)V"⟩
abbrev cX12_uses : ByteArray := prog_14_method_77_code
def yX12_uses : MethodName := ⟨RX12, "uses", "(I)V"⟩
abbrev cX12_varsEnd : ByteArray := prog_14_method_78_code
def yX12_varsEnd : MethodName := ⟨RX12, "varsEnd", "(I)V"⟩
abbrev cX12_blockEnds : ByteArray := prog_14_method_79_code
def yX12_blockEnds : MethodName := ⟨RX12, "blockEnds", "(I)V"⟩
abbrev cX12_beginBlock : ByteArray := prog_14_method_80_code
def yX12_beginBlock : MethodName := ⟨RX12, "beginBlock", "()V"⟩
abbrev cX12_labelsOf : ByteArray := prog_14_method_81_code
def yX12_labelsOf : MethodName := ⟨RX12, "labelsOf", "(I)V"⟩
abbrev cX12_forName : ByteArray := prog_14_method_82_code
def yX12_forName : MethodName := ⟨RX12, "forName", "(I)V"⟩
abbrev cX12_switchOf : ByteArray := prog_14_method_83_code
def yX12_switchOf : MethodName := ⟨RX12, "switchOf", "(I)V"⟩
abbrev cX12_isTwice : ByteArray := prog_14_method_84_code
def yX12_isTwice : MethodName := ⟨RX12, "isTwice", "(II)Z"⟩
abbrev cX12_part : ByteArray := prog_14_method_85_code
def yX12_part : MethodName := ⟨RX12, "part", "(I)V"⟩
abbrev cX12_commandOf : ByteArray := prog_14_method_86_code
def yX12_commandOf : MethodName := ⟨RX12, "commandOf", "(I)V"⟩
abbrev cX12_goesTo : ByteArray := prog_14_method_87_code
def yX12_goesTo : MethodName := ⟨RX12, "goesTo", "(I)V"⟩
abbrev cX12_named : ByteArray := prog_14_method_88_code
def yX12_named : MethodName := ⟨RX12, "named", "(I)I"⟩
abbrev cX12_placeOf : ByteArray := prog_14_method_89_code
def yX12_placeOf : MethodName := ⟨RX12, "placeOf", "(IZ)V"⟩
abbrev cX12_expressionOf : ByteArray := prog_14_method_90_code
def yX12_expressionOf : MethodName := ⟨RX12, "expressionOf", "(I)V"⟩
abbrev cX12_string : ByteArray := prog_14_method_91_code
def yX12_string : MethodName := ⟨RX12, "string", "(I)V"⟩
abbrev cX12_longer : ByteArray := prog_14_method_92_code
def yX12_longer : MethodName := ⟨RX12, "longer", "([I)[I"⟩
abbrev cX12_todoTask : ByteArray := prog_14_method_93_code
def yX12_todoTask : MethodName := ⟨RX12, "todoTask", "(III)V"⟩
abbrev cX12_err : ByteArray := prog_14_method_94_code
def yX12_err : MethodName := ⟨RX12, "err", "(I)V"⟩
abbrev cX12_burns : ByteArray := prog_14_method_95_code
def yX12_burns : MethodName := ⟨RX12, "burns", "()Z"⟩
abbrev cX12_push : ByteArray := prog_14_method_96_code
def yX12_push : MethodName := ⟨RX12, "push", "(I)V"⟩
abbrev cX12_pop : ByteArray := prog_14_method_97_code
def yX12_pop : MethodName := ⟨RX12, "pop", "()I"⟩
abbrev cX12_read : ByteArray := prog_14_method_98_code
def yX12_read : MethodName := ⟨RX12, "read", "(J)I"⟩
abbrev cX12_write : ByteArray := prog_14_method_99_code
def yX12_write : MethodName := ⟨RX12, "write", "(JI)V"⟩
abbrev cX12_wordOf : ByteArray := prog_14_method_100_code
def yX12_wordOf : MethodName := ⟨RX12, "wordOf", "(I)I"⟩
abbrev cX12_evaluate : ByteArray := prog_14_method_101_code
def yX12_evaluate : MethodName := ⟨RX12, "evaluate", "(I)V"⟩
abbrev cX12_turnTodo : ByteArray := prog_14_method_102_code
def yX12_turnTodo : MethodName := ⟨RX12, "turnTodo", "(I)V"⟩
abbrev cX12_address : ByteArray := prog_14_method_103_code
def yX12_address : MethodName := ⟨RX12, "address", "(I)V"⟩
abbrev cX12_bin : ByteArray := prog_14_method_104_code
def yX12_bin : MethodName := ⟨RX12, "bin", "(I)V"⟩
abbrev cX12_rel : ByteArray := prog_14_method_105_code
def yX12_rel : MethodName := ⟨RX12, "rel", "(II)V"⟩
abbrev cX12_limit : ByteArray := prog_14_method_106_code
def yX12_limit : MethodName := ⟨RX12, "limit", "()I"⟩
abbrev cX12_enter : ByteArray := prog_14_method_107_code
def yX12_enter : MethodName := ⟨RX12, "enter", "(III)V"⟩
abbrev cX12_call : ByteArray := prog_14_method_108_code
def yX12_call : MethodName := ⟨RX12, "call", "(II)V"⟩
abbrev cX12_arg : ByteArray := prog_14_method_109_code
def yX12_arg : MethodName := ⟨RX12, "arg", "(II)I"⟩
abbrev cX12_outByte : ByteArray := prog_14_method_110_code
def yX12_outByte : MethodName := ⟨RX12, "outByte", "(I)V"⟩
abbrev cX12_decimal : ByteArray := prog_14_method_111_code
def yX12_decimal : MethodName := ⟨RX12, "decimal", "(II)V"⟩
abbrev cX12_nextByte : ByteArray := prog_14_method_112_code
def yX12_nextByte : MethodName := ⟨RX12, "nextByte", "()I"⟩
abbrev cX12_peek : ByteArray := prog_14_method_113_code
def yX12_peek : MethodName := ⟨RX12, "peek", "()I"⟩
abbrev cX12_readNumber : ByteArray := prog_14_method_114_code
def yX12_readNumber : MethodName := ⟨RX12, "readNumber", "()I"⟩
abbrev cX12_isBlank : ByteArray := prog_14_method_115_code
def yX12_isBlank : MethodName := ⟨RX12, "isBlank", "(I)Z"⟩
abbrev cX12_rowsOf : ByteArray := prog_14_method_116_code
def yX12_rowsOf : MethodName := ⟨RX12, "rowsOf", "(I)V"⟩
abbrev cX12_writeString : ByteArray := prog_14_method_117_code
def yX12_writeString : MethodName := ⟨RX12, "writeString", "(I)V"⟩
abbrev cX12_getVector : ByteArray := prog_14_method_118_code
def yX12_getVector : MethodName := ⟨RX12, "getVector", "(I)I"⟩
abbrev cX12_layVector : ByteArray := prog_14_method_119_code
def yX12_layVector : MethodName := ⟨RX12, "layVector", "(IJJI)I"⟩
abbrev cX12_freeVector : ByteArray := prog_14_method_120_code
def yX12_freeVector : MethodName := ⟨RX12, "freeVector", "(I)V"⟩
abbrev cX12_toVector : ByteArray := prog_14_method_121_code
def yX12_toVector : MethodName := ⟨RX12, "toVector", "(III)V"⟩
abbrev cX12_libraryCall : ByteArray := prog_14_method_122_code
def yX12_libraryCall : MethodName := ⟨RX12, "libraryCall", "(III)V"⟩
abbrev cX12_perform : ByteArray := prog_14_method_123_code
def yX12_perform : MethodName := ⟨RX12, "perform", "(I)V"⟩
abbrev cX12_assign : ByteArray := prog_14_method_124_code
def yX12_assign : MethodName := ⟨RX12, "assign", "(II)V"⟩
abbrev cX12_stores : ByteArray := prog_14_method_125_code
def yX12_stores : MethodName := ⟨RX12, "stores", "(I)V"⟩
abbrev cX12_loop : ByteArray := prog_14_method_126_code
def yX12_loop : MethodName := ⟨RX12, "loop", "(II)V"⟩
abbrev cX12_isStep : ByteArray := prog_14_method_127_code
def yX12_isStep : MethodName := ⟨RX12, "isStep", "(III)Z"⟩
abbrev cX12_asked : ByteArray := prog_14_method_128_code
def yX12_asked : MethodName := ⟨RX12, "asked", "(I)V"⟩
abbrev cX12_section : ByteArray := prog_14_method_129_code
def yX12_section : MethodName := ⟨RX12, "section", "(II)V"⟩
abbrev cX12_variables : ByteArray := prog_14_method_130_code
def yX12_variables : MethodName := ⟨RX12, "variables", "(I)V"⟩
abbrev cX12_choose : ByteArray := prog_14_method_131_code
def yX12_choose : MethodName := ⟨RX12, "choose", "(I)V"⟩
abbrev cX12_doNext : ByteArray := prog_14_method_132_code
def yX12_doNext : MethodName := ⟨RX12, "doNext", "()V"⟩
abbrev cX12_returns : ByteArray := prog_14_method_133_code
def yX12_returns : MethodName := ⟨RX12, "returns", "(II)V"⟩
abbrev cX12_feed : ByteArray := prog_14_method_134_code
def yX12_feed : MethodName := ⟨RX12, "feed", "(IIIII)Z"⟩
abbrev cX12_end : ByteArray := prog_14_method_135_code
def yX12_end : MethodName := ⟨RX12, "end", "(I)Z"⟩
abbrev cX12_compile : ByteArray := prog_14_method_136_code
def yX12_compile : MethodName := ⟨RX12, "compile", "()I"⟩
abbrev cX12_fault_ : ByteArray := prog_14_method_137_code
def yX12_fault_ : MethodName := ⟨RX12, "fault", "()I"⟩
abbrev cX12_store : ByteArray := prog_14_method_138_code
def yX12_store : MethodName := ⟨RX12, "store", "(I)Z"⟩
abbrev cX12_input : ByteArray := prog_14_method_139_code
def yX12_input : MethodName := ⟨RX12, "input", "(I)I"⟩
abbrev cX12_run : ByteArray := prog_14_method_140_code
def yX12_run : MethodName := ⟨RX12, "run", "(I)I"⟩
abbrev cX12_value : ByteArray := prog_14_method_141_code
def yX12_value : MethodName := ⟨RX12, "value", "()I"⟩
abbrev cX12_out : ByteArray := prog_14_method_142_code
def yX12_out : MethodName := ⟨RX12, "out", "(I)I"⟩
abbrev cX12_outAt : ByteArray := prog_14_method_143_code
def yX12_outAt : MethodName := ⟨RX12, "outAt", "(II)I"⟩
abbrev cX12_word : ByteArray := prog_14_method_144_code
def yX12_word : MethodName := ⟨RX12, "word", "(I)I"⟩
abbrev cX12_fuel : ByteArray := prog_14_method_145_code
def yX12_fuel : MethodName := ⟨RX12, "fuel", "()I"⟩
def RJx145de : String := "java/io/Serializable"
def TJx145de : u_T := fun k => match k with
  | _ => ("", "", "", false)
def tyJx145de : Nat → FieldType := fun k => match k with
  | _ => .int
abbrev wsJx145de0 : List Cond := u_ws RJx145de TJx145de 0
theorem nmJx145de : ∀ a, a < 0 → ∀ b, b < 0 → a ≠ b → (TJx145de a).2.1 ≠ (TJx145de b).2.1 := by decide +kernel
theorem tyJx145de_ok : ∀ k, k < 0 → parseFieldDescriptor (TJx145de k).2.2.1 = some (tyJx145de k) := by decide +kernel
def RJx9f9b0 : String := "java/lang/CharSequence"
def TJx9f9b0 : u_T := fun k => match k with
  | _ => ("", "", "", false)
def tyJx9f9b0 : Nat → FieldType := fun k => match k with
  | _ => .int
abbrev wsJx9f9b00 : List Cond := u_ws RJx9f9b0 TJx9f9b0 0
theorem nmJx9f9b0 : ∀ a, a < 0 → ∀ b, b < 0 → a ≠ b → (TJx9f9b0 a).2.1 ≠ (TJx9f9b0 b).2.1 := by decide +kernel
theorem tyJx9f9b0_ok : ∀ k, k < 0 → parseFieldDescriptor (TJx9f9b0 k).2.2.1 = some (tyJx9f9b0 k) := by decide +kernel
def RJx8e188 : String := "java/lang/Cloneable"
def TJx8e188 : u_T := fun k => match k with
  | _ => ("", "", "", false)
def tyJx8e188 : Nat → FieldType := fun k => match k with
  | _ => .int
abbrev wsJx8e1880 : List Cond := u_ws RJx8e188 TJx8e188 0
theorem nmJx8e188 : ∀ a, a < 0 → ∀ b, b < 0 → a ≠ b → (TJx8e188 a).2.1 ≠ (TJx8e188 b).2.1 := by decide +kernel
theorem tyJx8e188_ok : ∀ k, k < 0 → parseFieldDescriptor (TJx8e188 k).2.2.1 = some (tyJx8e188 k) := by decide +kernel
def RJxb160c : String := "java/lang/Comparable"
def TJxb160c : u_T := fun k => match k with
  | _ => ("", "", "", false)
def tyJxb160c : Nat → FieldType := fun k => match k with
  | _ => .int
abbrev wsJxb160c0 : List Cond := u_ws RJxb160c TJxb160c 0
theorem nmJxb160c : ∀ a, a < 0 → ∀ b, b < 0 → a ≠ b → (TJxb160c a).2.1 ≠ (TJxb160c b).2.1 := by decide +kernel
theorem tyJxb160c_ok : ∀ k, k < 0 → parseFieldDescriptor (TJxb160c k).2.2.1 = some (tyJxb160c k) := by decide +kernel
def RJ6 : String := "java/lang/Integer"
def TJ6 : u_T := fun k => match k with
  | _ => ("", "", "", false)
def tyJ6 : Nat → FieldType := fun k => match k with
  | _ => .int
abbrev wsJ60 : List Cond := u_ws RJ6 TJ6 0
theorem nmJ6 : ∀ a, a < 0 → ∀ b, b < 0 → a ≠ b → (TJ6 a).2.1 ≠ (TJ6 b).2.1 := by decide +kernel
theorem tyJ6_ok : ∀ k, k < 0 → parseFieldDescriptor (TJ6 k).2.2.1 = some (tyJ6 k) := by decide +kernel
abbrev cJ6_bitCount_0f7a4 : ByteArray := prog_21_method_49_code
def yJ6_bitCount_0f7a4 : MethodName := ⟨RJ6, "bitCount", "(I)I"⟩
def RJ9 : String := "java/lang/Math"
def TJ9 : u_T := fun k => match k with
  | _ => ("", "", "", false)
def tyJ9 : Nat → FieldType := fun k => match k with
  | _ => .int
abbrev wsJ90 : List Cond := u_ws RJ9 TJ9 0
theorem nmJ9 : ∀ a, a < 0 → ∀ b, b < 0 → a ≠ b → (TJ9 a).2.1 ≠ (TJ9 b).2.1 := by decide +kernel
theorem tyJ9_ok : ∀ k, k < 0 → parseFieldDescriptor (TJ9 k).2.2.1 = some (tyJ9 k) := by decide +kernel
abbrev cJ9_abs_067f4 : ByteArray := prog_22_method_61_code
def yJ9_abs_067f4 : MethodName := ⟨RJ9, "abs", "(J)J"⟩
abbrev cJ9_max_7cf53 : ByteArray := prog_22_method_65_code
def yJ9_max_7cf53 : MethodName := ⟨RJ9, "max", "(II)I"⟩
abbrev cJ9_min_7cf53 : ByteArray := prog_22_method_69_code
def yJ9_min_7cf53 : MethodName := ⟨RJ9, "min", "(II)I"⟩
abbrev cJ9_min_f86c9 : ByteArray := prog_22_method_70_code
def yJ9_min_f86c9 : MethodName := ⟨RJ9, "min", "(JJ)J"⟩
def RJ0 : String := "java/lang/String"
def TJ0 : u_T := fun k => match k with
  | _ => ("", "", "", false)
def tyJ0 : Nat → FieldType := fun k => match k with
  | _ => .int
abbrev wsJ00 : List Cond := u_ws RJ0 TJ0 0
theorem nmJ0 : ∀ a, a < 0 → ∀ b, b < 0 → a ≠ b → (TJ0 a).2.1 ≠ (TJ0 b).2.1 := by decide +kernel
theorem tyJ0_ok : ∀ k, k < 0 → parseFieldDescriptor (TJ0 k).2.2.1 = some (tyJ0 k) := by decide +kernel
abbrev cJ0_length_8abf5 : ByteArray := prog_24_method_54_code
def yJ0_length_8abf5 : MethodName := ⟨RJ0, "length", "()I"⟩
abbrev cJ0_charAt_5068e : ByteArray := prog_24_method_56_code
def yJ0_charAt_5068e : MethodName := ⟨RJ0, "charAt", "(I)C"⟩
abbrev cJ0_coder_7d493 : ByteArray := prog_24_method_152_code
def yJ0_coder_7d493 : MethodName := ⟨RJ0, "coder", "()B"⟩
abbrev cJ0_isLatin1_aae02 : ByteArray := prog_24_method_154_code
def yJ0_isLatin1_aae02 : MethodName := ⟨RJ0, "isLatin1", "()Z"⟩
abbrev cJ0_checkIndex_df160 : ByteArray := prog_24_method_155_code
def yJ0_checkIndex_df160 : MethodName := ⟨RJ0, "checkIndex", "(II)V"⟩
def RJ1 : String := "java/lang/StringLatin1"
def TJ1 : u_T := fun k => match k with
  | _ => ("", "", "", false)
def tyJ1 : Nat → FieldType := fun k => match k with
  | _ => .int
abbrev wsJ10 : List Cond := u_ws RJ1 TJ1 0
theorem nmJ1 : ∀ a, a < 0 → ∀ b, b < 0 → a ≠ b → (TJ1 a).2.1 ≠ (TJ1 b).2.1 := by decide +kernel
theorem tyJ1_ok : ∀ k, k < 0 → parseFieldDescriptor (TJ1 k).2.2.1 = some (tyJ1 k) := by decide +kernel
abbrev cJ1_charAt_3b067 : ByteArray := prog_25_method_2_code
def yJ1_charAt_3b067 : MethodName := ⟨RJ1, "charAt", "([BI)C"⟩
def RJ2 : String := "java/lang/StringUTF16"
def TJ2 : u_T := fun k => match k with
  | _ => ("", "", "", false)
def tyJ2 : Nat → FieldType := fun k => match k with
  | _ => .int
abbrev wsJ20 : List Cond := u_ws RJ2 TJ2 0
theorem nmJ2 : ∀ a, a < 0 → ∀ b, b < 0 → a ≠ b → (TJ2 a).2.1 ≠ (TJ2 b).2.1 := by decide +kernel
theorem tyJ2_ok : ∀ k, k < 0 → parseFieldDescriptor (TJ2 k).2.2.1 = some (tyJ2 k) := by decide +kernel
abbrev cJ2_getChar_3b067 : ByteArray := prog_26_method_5_code
def yJ2_getChar_3b067 : MethodName := ⟨RJ2, "getChar", "([BI)C"⟩
abbrev cJ2_length_9d52b : ByteArray := prog_26_method_6_code
def yJ2_length_9d52b : MethodName := ⟨RJ2, "length", "([B)I"⟩
abbrev cJ2_charAt_3b067 : ByteArray := prog_26_method_83_code
def yJ2_charAt_3b067 : MethodName := ⟨RJ2, "charAt", "([BI)C"⟩
abbrev cJ2_checkIndex_2214a : ByteArray := prog_26_method_91_code
def yJ2_checkIndex_2214a : MethodName := ⟨RJ2, "checkIndex", "(I[B)V"⟩
def RJ10 : String := "java/lang/System"
def TJ10 : u_T := fun k => match k with
  | _ => ("", "", "", false)
def tyJ10 : Nat → FieldType := fun k => match k with
  | _ => .int
abbrev wsJ100 : List Cond := u_ws RJ10 TJ10 0
theorem nmJ10 : ∀ a, a < 0 → ∀ b, b < 0 → a ≠ b → (TJ10 a).2.1 ≠ (TJ10 b).2.1 := by decide +kernel
theorem tyJ10_ok : ∀ k, k < 0 → parseFieldDescriptor (TJ10 k).2.2.1 = some (tyJ10 k) := by decide +kernel
def RJxfd54e : String := "java/lang/constant/Constable"
def TJxfd54e : u_T := fun k => match k with
  | _ => ("", "", "", false)
def tyJxfd54e : Nat → FieldType := fun k => match k with
  | _ => .int
abbrev wsJxfd54e0 : List Cond := u_ws RJxfd54e TJxfd54e 0
theorem nmJxfd54e : ∀ a, a < 0 → ∀ b, b < 0 → a ≠ b → (TJxfd54e a).2.1 ≠ (TJxfd54e b).2.1 := by decide +kernel
theorem tyJxfd54e_ok : ∀ k, k < 0 → parseFieldDescriptor (TJxfd54e k).2.2.1 = some (tyJxfd54e k) := by decide +kernel
def RJx3cf43 : String := "java/lang/constant/ConstantDesc"
def TJx3cf43 : u_T := fun k => match k with
  | _ => ("", "", "", false)
def tyJx3cf43 : Nat → FieldType := fun k => match k with
  | _ => .int
abbrev wsJx3cf430 : List Cond := u_ws RJx3cf43 TJx3cf43 0
theorem nmJx3cf43 : ∀ a, a < 0 → ∀ b, b < 0 → a ≠ b → (TJx3cf43 a).2.1 ≠ (TJx3cf43 b).2.1 := by decide +kernel
theorem tyJx3cf43_ok : ∀ k, k < 0 → parseFieldDescriptor (TJx3cf43 k).2.2.1 = some (tyJx3cf43 k) := by decide +kernel
def RJ7 : String := "java/util/Arrays"
def TJ7 : u_T := fun k => match k with
  | _ => ("", "", "", false)
def tyJ7 : Nat → FieldType := fun k => match k with
  | _ => .int
abbrev wsJ70 : List Cond := u_ws RJ7 TJ7 0
theorem nmJ7 : ∀ a, a < 0 → ∀ b, b < 0 → a ≠ b → (TJ7 a).2.1 ≠ (TJ7 b).2.1 := by decide +kernel
theorem tyJ7_ok : ∀ k, k < 0 → parseFieldDescriptor (TJ7 k).2.2.1 = some (tyJ7 k) := by decide +kernel
abbrev cJ7_fill_53178 : ByteArray := prog_31_method_103_code
def yJ7_fill_53178 : MethodName := ⟨RJ7, "fill", "([II)V"⟩
abbrev cJ7_copyOf_59c91 : ByteArray := prog_31_method_123_code
def yJ7_copyOf_59c91 : MethodName := ⟨RJ7, "copyOf", "([II)[I"⟩
def RJ3 : String := "jdk/internal/util/Preconditions"
def TJ3 : u_T := fun k => match k with
  | _ => ("", "", "", false)
def tyJ3 : Nat → FieldType := fun k => match k with
  | _ => .int
abbrev wsJ30 : List Cond := u_ws RJ3 TJ3 0
theorem nmJ3 : ∀ a, a < 0 → ∀ b, b < 0 → a ≠ b → (TJ3 a).2.1 ≠ (TJ3 b).2.1 := by decide +kernel
theorem tyJ3_ok : ∀ k, k < 0 → parseFieldDescriptor (TJ3 k).2.2.1 = some (tyJ3 k) := by decide +kernel
abbrev cJ3_checkIndex_8e157 : ByteArray := prog_33_method_11_code
def yJ3_checkIndex_8e157 : MethodName := ⟨RJ3, "checkIndex", "(IILjava/util/function/BiFunction;)I"⟩
def RL : String := "WordTongueLaw"
abbrev cL_outAt : ByteArray := method_3_code
def yL_outAt : MethodName := ⟨RL, "outAt", "(LWordTongue;II[J)I"⟩
abbrev cL_word : ByteArray := method_4_code
def yL_word : MethodName := ⟨RL, "word", "(LWordTongue;I[J)I"⟩
abbrev cL_law : ByteArray := code
def yL_law : MethodName := ⟨RL, "law", "([I)Z"⟩
abbrev vwCl : List vw_C := [(RX0, TX0, 5), (RX1, TX1, 19), (RX2, TX2, 7), (RX3, TX3, 2), (RX4, TX4, 3), (RX5, TX5, 16), (RX6, TX6, 12), (RX7, TX7, 11), (RX8, TX8, 11), (RX9, TX9, 8), (RX10, TX10, 7), (RX11, TX11, 10), (RX12, TX12, 119)]
end
section
def gWs : List Cond := lw_tbl.filter goodWord
theorem gWs_good : ∀ w ∈ gWs, goodWord w = true := fun _ h => (List.mem_filter.mp h).2
theorem gWs_tbl : ∀ w ∈ gWs, w ∈ lw_tbl := fun _ h => (List.mem_filter.mp h).1
theorem gWm {w : Cond} (i : Nat) (h : lw_tbl[i]? = some w) (hg : goodWord w = true) : w ∈ gWs := List.mem_filter.mpr ⟨List.mem_of_getElem? h, hg⟩
theorem gw_oi : Cond.instanceMethod objectInit ∈ gWs := gWm 270 (by decide +kernel) rfl
theorem gw_oc : Cond.code objectInit ⟨#[0xb1]⟩ 1 none ∈ gWs := gWm 271 (by decide +kernel) rfl
end
section
/-! THE LAYER OF ONE POOL. The whole world of a claim is one map F from addresses to cells (gH d b F H: what F tells lies in H, from b on, and nothing that F doesn't tell is told); a walk's state is F, the room used, pc, locals by place, the stack (gG); a contract speaks of F alone (gMi, gMv, ..). -/
abbrev gX : Type := Program × Launch × Env × Room × State × MethodId × Array Value × List Frame × Method × Code
abbrev gX.pr (X : gX) : Program := X.1
abbrev gX.la (X : gX) : Launch := X.2.1
abbrev gX.en (X : gX) : Env := X.2.2.1
abbrev gX.rm (X : gX) : Room := X.2.2.2.1
abbrev gX.st (X : gX) : State := X.2.2.2.2.1
abbrev gX.mi (X : gX) : MethodId := X.2.2.2.2.2.1
abbrev gX.ar (X : gX) : Array Value := X.2.2.2.2.2.2.1
abbrev gX.be (X : gX) : List Frame := X.2.2.2.2.2.2.2.1
abbrev gX.me (X : gX) : Method := X.2.2.2.2.2.2.2.2.1
abbrev gX.co (X : gX) : Code := X.2.2.2.2.2.2.2.2.2
abbrev gW (X : gX) (H : Heap) (locs : List Loc) (k n : Nat) (Q : State → Prop) (g : JFrame) : Prop := W X.pr X.la X.en X.rm X.st X.mi X.ar X.be X.me X.co H locs k n Q g
/-- what is fixed for a claim: the classes' numbers and slots; the array classes' numbers (int, byte, boolean, long, Ints); the String constants' addresses and those of their bytes -/
abbrev gD : Type := va_G × (ClassId × ClassId × ClassId × ClassId × ClassId) × (Nat → Nat) × (Nat → Nat)
abbrev gI (d : gD) : ClassId := d.2.1.1
abbrev gY (d : gD) : ClassId := d.2.1.2.1
abbrev gZ (d : gD) : ClassId := d.2.1.2.2.1
abbrev gJ (d : gD) : ClassId := d.2.1.2.2.2.1
abbrev gO (d : gD) : ClassId := d.2.1.2.2.2.2
abbrev gtys (d : gD) : List (ClassId × FieldType) := [(gI d, .int), (gY d, .byte), (gZ d, .boolean), (gJ d, .long), (gO d, .object RX4)]
def gK (d : gD) (U : State) : Prop := va_K d.1 vwCl (gtys d) U
abbrev gM : Type := Nat → va_E
/-- where nothing is told -/
def g0 : va_E := .inr (0, [])
def gH (d : gD) (b : Nat) (F : gM) (H : Heap) : Prop := ∃ L : List Nat, va_P d.1 vwCl (va_pl L F) H ∧ va_D (fun q => b ≤ q) (va_pl L F) ∧ ∀ a, a ∉ L → F a = g0
def gL (lv : List (Option Value)) (ls : Array Slot) : Prop := ls.size = lv.length ∧ lv_wf ls ∧ ∀ (i : Nat) (v : Value), lv[i]? = some (some v) → ls[i]? = some (.val v)
/-- THE JUDGEMENT -/
def gG (X : gX) (d : gD) (b : Nat) (Q : State → Prop) (F : gM) (k n pc : Nat) (lv : List (Option Value)) (st : List Value) : Prop :=
  ∀ (H : Heap) (locs : List Loc) (ls : Array Slot), gH d b F H → va_S (fun q => b ≤ q) X.st.heap H locs → gL lv ls → gW X H locs k n Q (F0 X.mi pc ls st)

theorem gH.mem {d : gD} {b : Nat} {F : gM} {H : Heap} {L : List Nat} (h : ∀ a, a ∉ L → F a = g0) {a : Nat} (hn : F a ≠ g0) : a ∈ L := Classical.not_not.mp fun q => hn (h a q)
theorem g0_o {ci : Nat} {v : Value} {fs : List Value} : (.inr (ci, v :: fs) : va_E) ≠ g0 := fun h => by cases h
theorem g0_a {x : ClassId × vp_A} : (.inl x : va_E) ≠ g0 := fun h => by cases h
theorem gH.at {d : gD} {b : Nat} {F : gM} {H : Heap} {L : List Nat} (h : ∀ a, a ∉ L → F a = g0) {a : Nat} {e : va_E} (he : F a = e) (hn : e ≠ g0) : ∃ k : Nat, a ∈ L ∧ (va_pl L F)[k]? = some (a, e) := by
  have hm : a ∈ L := gH.mem (d := d) (b := b) (H := H) h (by rw [he]; exact hn)
  obtain ⟨k, hk⟩ := va_pl_get (X := []) (f := F) hm
  rw [List.nil_append] at hk
  exact ⟨k, hm, by rw [hk, he]⟩
theorem gH.lt {d : gD} {b : Nat} {F : gM} {H : Heap} (h : gH d b F H) {a : Nat} (hn : F a ≠ g0) : a < H.size := by
  obtain ⟨L, hP, hD, h0⟩ := h
  exact va_pl_lt (X := []) (by rw [List.nil_append]; exact hP) (gH.mem (d := d) (b := b) (H := H) h0 hn)
theorem gH.ge {d : gD} {b : Nat} {F : gM} {H : Heap} (h : gH d b F H) {a : Nat} (hn : F a ≠ g0) : b ≤ a := by
  obtain ⟨L, hP, hD, h0⟩ := h
  obtain ⟨k, hm, hk⟩ := gH.at (d := d) (b := b) (H := H) h0 (rfl : F a = F a) hn
  exact hD.2 k _ hk
/-- a cell is set -/
theorem gH.set {d : gD} {b : Nat} {F : gM} {H1 : Heap} {L : List Nat} {a k : Nat} {e0 e : va_E} (h0 : ∀ a, a ∉ L → F a = g0) (hm : a ∈ L) (hD : va_D (fun q => b ≤ q) (va_pl L F)) (hk : (va_pl L F)[k]? = some (a, e0)) (he : F a = e0)
    (hP1 : va_P d.1 vwCl ((va_pl L F).set k (a, e)) H1) (hD1 : va_D (fun q => b ≤ q) ((va_pl L F).set k (a, e))) : gH d b (va_up F a e) H1 := by
  have hs : (va_pl L F).set k (a, e) = va_pl L (va_up F a e) := by
    have h := va_pl_set (A := fun q => b ≤ q) (X := []) (L := L) (f := F) (a := a) (k := k) (e := e) (by rw [List.nil_append]; exact hD) hm (by rw [List.nil_append, hk, he])
    rw [List.nil_append, List.nil_append] at h
    exact h
  rw [hs] at hP1 hD1
  exact ⟨L, hP1, hD1, fun q hq => by rw [va_up_ne _ _ (fun z => hq (by rw [z]; exact hm))]; exact h0 q hq⟩
/-- a cell is new -/
theorem gH.push {d : gD} {b : Nat} {F : gM} {H1 : Heap} {L : List Nat} {q : Nat} {e : va_E} (h0 : ∀ a, a ∉ L → F a = g0)
    (hP1 : va_P d.1 vwCl (va_pl L F ++ [(q, e)]) H1) (hD1 : va_D (fun q => b ≤ q) (va_pl L F ++ [(q, e)])) : F q = g0 ∧ gH d b (va_up F q e) H1 := by
  have hq : q ∉ L := va_pl_fresh2 (A := fun q => b ≤ q) (X := []) (f := F) (e := e) (by rw [List.nil_append]; exact hD1)
  rw [va_pl_push hq] at hP1 hD1
  refine ⟨h0 q hq, L ++ [q], hP1, hD1, fun a ha => ?_⟩
  rw [List.mem_append, List.mem_singleton, not_or] at ha
  rw [va_up_ne _ _ ha.2]
  exact h0 a ha.1

-- locals by place
def gA (lv : List (Option Value)) : List (Nat × Value) := (List.range lv.length).filterMap (fun i => (lv[i]?.join).map (fun v => (i, v)))
theorem gA_mem {lv : List (Option Value)} {q : Nat × Value} (h : q ∈ gA lv) : lv[q.1]? = some (some q.2) := by
  obtain ⟨i, -, hi⟩ := List.mem_filterMap.mp h
  cases hj : lv[i]?.join with
  | none => rw [hj] at hi; cases hi
  | some v =>
    rw [hj] at hi
    cases hi
    exact Option.join_eq_some_iff.mp hj
theorem gA_of {lv : List (Option Value)} {i : Nat} {v : Value} (h : lv[i]? = some (some v)) : (i, v) ∈ gA lv :=
  List.mem_filterMap.mpr ⟨i, List.mem_range.mpr (List.getElem?_eq_some_iff.mp h).1, by rw [h]; rfl⟩
theorem gL.has {lv : List (Option Value)} {ls : Array Slot} (h : gL lv ls) : lv_has ls lv.length (gA lv) := ⟨h.1, h.2.1, fun q hq => h.2.2 q.1 q.2 (gA_mem hq)⟩
theorem gL.at {lv : List (Option Value)} {ls : Array Slot} (h : gL lv ls) {i : Nat} {v : Value} (hv : lv[i]? = some (some v)) : ls[i]? = some (.val v) := h.2.2 i v hv
def gOk (lv : List (Option Value)) : Nat → Bool
  | 0 => true
  | j + 1 => match lv[j]? with
    | some (some w) => w.category != 2
    | _ => true
theorem gOk_ne {lv : List (Option Value)} {i j : Nat} {w : Value} (h : gOk lv i = true) (hj : j + 1 = i) (hw : lv[j]? = some (some w)) : (w.category == 2) = false := by
  subst hj
  simp only [gOk, hw] at h
  simpa using h
theorem gL.st1 {lv : List (Option Value)} {ls : Array Slot} {i : Nat} {v : Value} (hok : gOk lv i = true) (h : lv_has ls lv.length ((i, v) :: (gA lv).filter (fun q => !(q.1 == i) && !(q.1 + 1 == i && q.2.category == 2)))) : gL (lv.set i (some v)) ls := by
  refine ⟨by rw [List.length_set]; exact h.1, h.2.1, fun j w hw => ?_⟩
  by_cases hj : i = j
  · subst hj
    rw [List.getElem?_set_self'] at hw
    cases hl : lv[i]? with
    | none => rw [hl] at hw; cases hw
    | some z => rw [hl] at hw; cases hw; exact h.2.2 (i, v) List.mem_cons_self
  · rw [List.getElem?_set_ne hj] at hw
    refine h.2.2 (j, w) (List.mem_cons_of_mem _ (List.mem_filter.mpr ⟨gA_of hw, ?_⟩))
    have h1 : (j == i) = false := by simpa using fun q => hj q.symm
    by_cases h2 : j + 1 = i
    · simp [h1, gOk_ne hok h2 hw]
    · have h3 : (j + 1 == i) = false := by simpa using h2
      simp [h1, h3]
theorem gL.st2 {lv : List (Option Value)} {ls : Array Slot} {i : Nat} {v : Value} (hok : gOk lv i = true) (h : lv_has ls lv.length ((i, v) :: (gA lv).filter (fun q => !(q.1 == i) && (!(q.1 == i + 1) && !(q.1 + 1 == i && q.2.category == 2))))) : gL ((lv.set i (some v)).set (i + 1) none) ls := by
  refine ⟨by rw [List.length_set, List.length_set]; exact h.1, h.2.1, fun j w hw => ?_⟩
  by_cases hj2 : i + 1 = j
  · subst hj2
    rw [List.getElem?_set_self'] at hw
    cases hl : (lv.set i (some v))[i + 1]? with
    | none => rw [hl] at hw; cases hw
    | some z => rw [hl] at hw; cases hw
  · rw [List.getElem?_set_ne hj2] at hw
    by_cases hj : i = j
    · subst hj
      rw [List.getElem?_set_self'] at hw
      cases hl : lv[i]? with
      | none => rw [hl] at hw; cases hw
      | some z => rw [hl] at hw; cases hw; exact h.2.2 (i, v) List.mem_cons_self
    · rw [List.getElem?_set_ne hj] at hw
      refine h.2.2 (j, w) (List.mem_cons_of_mem _ (List.mem_filter.mpr ⟨gA_of hw, ?_⟩))
      have h1 : (j == i) = false := by simpa using fun q => hj q.symm
      have h4 : (j == i + 1) = false := by simpa using fun q => hj2 q.symm
      by_cases h2 : j + 1 = i
      · simp [h1, h4, gOk_ne hok h2 hw]
      · have h3 : (j + 1 == i) = false := by simpa using h2
        simp [h1, h3, h4]
theorem gL.sub {lv lv' : List (Option Value)} {ls : Array Slot} (h : gL lv ls) (hs : lv'.length = lv.length) (hi : ∀ (i : Nat) (v : Value), lv'[i]? = some (some v) → lv[i]? = some (some v)) : gL lv' ls := ⟨h.1.trans hs.symm, h.2.1, fun i v hv => h.2.2 i v (hi i v hv)⟩
/-- locals let go -/
def gSubB : List (Option Value) → List (Option Value) → Prop
  | [], [] => True
  | none :: r, _ :: r' => gSubB r r'
  | some v :: r, w :: r' => w = some v ∧ gSubB r r'
  | _, _ => False
theorem gSubB.ok : ∀ {lv' lv : List (Option Value)}, gSubB lv' lv → lv'.length = lv.length ∧ ∀ (i : Nat) (v : Value), lv'[i]? = some (some v) → lv[i]? = some (some v)
  | [], [], _ => ⟨rfl, fun _ _ h => h⟩
  | none :: r, w :: r', h => by
    obtain ⟨h1, h2⟩ := gSubB.ok (lv' := r) (lv := r') h
    refine ⟨by simp [h1], fun i v hv => ?_⟩
    cases i with
    | zero => cases hv
    | succ i => exact h2 i v hv
  | some v :: r, w :: r', h => by
    obtain ⟨h1, h2⟩ := gSubB.ok (lv' := r) (lv := r') h.2
    refine ⟨by simp [h1], fun i u hu => ?_⟩
    cases i with
    | zero => rw [h.1]; exact hu
    | succ i => exact h2 i u hu

-- what a claim's world has beside its cells: nest mates, String constants, statics
abbrev gNs : List (String × Nat × MethodName × String) := [("WordTongue", 20, ⟨"WordTongue$Program","<init>","()V"⟩, "WordTongue"), ("WordTongue", 27, ⟨"WordTongue$Tree","<init>","()V"⟩, "WordTongue"), ("WordTongue", 61, ⟨"WordTongue$Channels","<init>","()V"⟩, "WordTongue"), ("WordTongue$Machine", 11, ⟨"WordTongue$Heap","<init>","()V"⟩, "WordTongue"), ("WordTongue$Parser", 246, ⟨"WordTongue","power","(I)I"⟩, "WordTongue"), ("WordTongue$Parser", 252, ⟨"WordTongue","isRelation","(I)Z"⟩, "WordTongue"), ("WordTongue$Constants", 84, ⟨"WordTongue","isRelation","(I)Z"⟩, "WordTongue"), ("WordTongue$Constants", 117, ⟨"WordTongue","holds","(III)Z"⟩, "WordTongue"), ("WordTongue$Constants", 121, ⟨"WordTongue","isDivision","(I)Z"⟩, "WordTongue"), ("WordTongue$Constants", 124, ⟨"WordTongue","worked","(III)I"⟩, "WordTongue"), ("WordTongue$Coder", 304, ⟨"WordTongue","isRelation","(I)Z"⟩, "WordTongue"), ("WordTongue$Machine", 178, ⟨"WordTongue","holds","(III)Z"⟩, "WordTongue"), ("WordTongue$Machine", 182, ⟨"WordTongue","isDivision","(I)Z"⟩, "WordTongue"), ("WordTongue$Machine", 185, ⟨"WordTongue","isRelation","(I)Z"⟩, "WordTongue"), ("WordTongue$Machine", 188, ⟨"WordTongue","worked","(III)I"⟩, "WordTongue")]
abbrev gCs : List (String × String) := [("[I", "java/lang/Cloneable"), ("java/lang/IllegalStateException", "java/lang/IllegalStateException"), ("java/util/NoSuchElementException", "java/util/NoSuchElementException"), ("WordTongue", "java/lang/Object"), ("WordTongue$Ints", "java/lang/Object"), ("WordTongue$Program", "java/lang/Object"), ("WordTongue$Tree", "java/lang/Object"), ("WordTongue$Scanner", "java/lang/Object"), ("WordTongue$Parser", "java/lang/Object"), ("WordTongue$Coder", "java/lang/Object"), ("WordTongue$Scope", "java/lang/Object"), ("WordTongue$Constants", "java/lang/Object"), ("WordTongue$Channels", "java/lang/Object"), ("WordTongue$Machine", "java/lang/Object"), ("WordTongue$Heap", "java/lang/Object"), ("WordTongueModel", "java/lang/Object"), ("java/lang/IllegalStateException", "java/lang/Object"), ("java/util/NoSuchElementException", "java/lang/Object"), ("java/lang/Throwable", "java/lang/Object"), ("java/lang/String", "java/lang/Object")]
abbrev gDs : List MethodName := [⟨"java/lang/RuntimeException","<init>","()V"⟩, ⟨"java/lang/RuntimeException","<init>","(Ljava/lang/String;)V"⟩, ⟨"java/lang/Exception","<init>","()V"⟩, ⟨"java/lang/Exception","<init>","(Ljava/lang/String;)V"⟩, ⟨"java/lang/Throwable","<init>","()V"⟩, ⟨"java/lang/Throwable","<init>","(Ljava/lang/String;)V"⟩]
abbrev gSr : List (String × Nat × String) := [("WordTongue$Scanner", 50, "TRUE FALSE VALOF TABLE IF UNLESS TEST WHILE UNTIL FOR SWITCHON CASE DEFAULT BREAK LOOP ENDCASE RETURN RESULTIS FINISH GOTO LET GLOBAL MANIFEST STATIC "), ("WordTongue$Scanner", 56, "GET AND BE VEC THEN DO OR ELSE TO BY INTO REPEAT REPEATWHILE REPEATUNTIL EQV NEQV REM NOT "), ("WordTongue$Scanner", 58, "WRITEN WRITES WRCH NEWLINE RDCH STOP ABS UNRDCH SELECTINPUT SELECTOUTPUT REWIND GETVEC FREEVEC APTOVEC MULDIV WRITED WRITEHEX READN "), ("WordTongue$Scanner", 60, "START "), ("WordTongue$Parser", 92, "a token can't stand there")]
def gByt : List (List Int32) := [[84, 82, 85, 69, 32, 70, 65, 76, 83, 69, 32, 86, 65, 76, 79, 70, 32, 84, 65, 66, 76, 69, 32, 73, 70, 32, 85, 78, 76, 69, 83, 83, 32, 84, 69, 83, 84, 32, 87, 72, 73, 76, 69, 32, 85, 78, 84, 73, 76, 32, 70, 79, 82, 32, 83, 87, 73, 84, 67, 72, 79, 78, 32, 67, 65, 83, 69, 32, 68, 69, 70, 65, 85, 76, 84, 32, 66, 82, 69, 65, 75, 32, 76, 79, 79, 80, 32, 69, 78, 68, 67, 65, 83, 69, 32, 82, 69, 84, 85, 82, 78, 32, 82, 69, 83, 85, 76, 84, 73, 83, 32, 70, 73, 78, 73, 83, 72, 32, 71, 79, 84, 79, 32, 76, 69, 84, 32, 71, 76, 79, 66, 65, 76, 32, 77, 65, 78, 73, 70, 69, 83, 84, 32, 83, 84, 65, 84, 73, 67, 32], [71, 69, 84, 32, 65, 78, 68, 32, 66, 69, 32, 86, 69, 67, 32, 84, 72, 69, 78, 32, 68, 79, 32, 79, 82, 32, 69, 76, 83, 69, 32, 84, 79, 32, 66, 89, 32, 73, 78, 84, 79, 32, 82, 69, 80, 69, 65, 84, 32, 82, 69, 80, 69, 65, 84, 87, 72, 73, 76, 69, 32, 82, 69, 80, 69, 65, 84, 85, 78, 84, 73, 76, 32, 69, 81, 86, 32, 78, 69, 81, 86, 32, 82, 69, 77, 32, 78, 79, 84, 32], [87, 82, 73, 84, 69, 78, 32, 87, 82, 73, 84, 69, 83, 32, 87, 82, 67, 72, 32, 78, 69, 87, 76, 73, 78, 69, 32, 82, 68, 67, 72, 32, 83, 84, 79, 80, 32, 65, 66, 83, 32, 85, 78, 82, 68, 67, 72, 32, 83, 69, 76, 69, 67, 84, 73, 78, 80, 85, 84, 32, 83, 69, 76, 69, 67, 84, 79, 85, 84, 80, 85, 84, 32, 82, 69, 87, 73, 78, 68, 32, 71, 69, 84, 86, 69, 67, 32, 70, 82, 69, 69, 86, 69, 67, 32, 65, 80, 84, 79, 86, 69, 67, 32, 77, 85, 76, 68, 73, 86, 32, 87, 82, 73, 84, 69, 68, 32, 87, 82, 73, 84, 69, 72, 69, 88, 32, 82, 69, 65, 68, 78, 32], [83, 84, 65, 82, 84, 32], [97, 32, 116, 111, 107, 101, 110, 32, 99, 97, 110, 39, 116, 32, 115, 116, 97, 110, 100, 32, 116, 104, 101, 114, 101]]
def gLen : List Nat := [150, 90, 132, 6, 25]
def gE (d : gD) (b : Nat) (U : State) : Prop :=
  (∀ w ∈ gNs, va_Nw (.methodLinkNest w.1 w.2.1 w.2.2.1 w.2.2.2) U) ∧ va_AO RX4 U ∧ vk_S 5 gLen gByt d.2.2.1 d.2.2.2 (fun q => b ≤ q) U U.heap ∧ (∀ (i : Nat) (w : String × Nat × String), gSr[i]? = some w → vk_R w.1 w.2.1 w.2.2 (d.2.2.1 i) U)
  ∧ va_Z "java/lang/String" "COMPACT_STRINGS" "Z" (.int 1) (fun q => b ≤ q) U U.heap ∧ vx_Zq Bundle.tN "UNASSIGNED_STACK" Bundle.steD (fun q => b ≤ q) U U.heap ∧ vx_Zq Bundle.tN "SUPPRESSED_SENTINEL" Bundle.listD (fun q => b ≤ q) U U.heap ∧ (∀ q ∈ gCs, va_Nw (.castable q.1 q.2) U) ∧ (∀ x ∈ gDs, va_Nw (.declares x) U) ∧ ∃ fo : Option Nat, va_Z "jdk/internal/util/Preconditions" "SIOOBE_FORMATTER" "Ljava/util/function/BiFunction;" (va_rf fo) (fun q => b ≤ q) U U.heap
def gV (d : gD) (b : Nat) (U : State) : Prop := b ≤ U.heap.size ∧ gK d U ∧ gE d b U
theorem gV.moved {d : gD} {b : Nat} {s U : State} (h : gV d b s) (hW : s.WarmedH U.vm) (hz : s.heap.size ≤ U.heap.size) (hk : ∀ q : Nat, q < s.heap.size → ¬ b ≤ q → U.heap[q]? = s.heap[q]?) : gV d b U := by
  obtain ⟨h1, h2, h3, h4, h5, h6, h7, h8, h9, h10, h11, fo, h12⟩ := h
  have hvm : s.vm.Alike U.vm := hW.alike
  exact ⟨Nat.le_trans h1 hz, va_K.moved hvm h2, fun w hw => va_Nw.warmM hW (h3 w hw), h4.moved hvm, (h5.moved hvm).kept hk, fun i w hw => (h6 i w hw).warm hW, (h7.moved hvm).kept hk, (h8.moved hvm).kept hk, (h9.moved hvm).kept hk, fun q hq => va_Nw.warmC hW (h10 q hq), fun x hx => va_Nw.warmD hW (h11 x hx), fo, (h12.moved hvm).kept hk⟩
theorem gV.vm {d : gD} {b : Nat} {U T : State} (h : gV d b U) (hv : T.vm = U.vm) (hh : T.heap = U.heap) : gV d b T := by
  obtain ⟨h1, h2, h3, h4, h5, h6, h7, h8, h9, h10, h11, fo, h12⟩ := h
  have hvm : U.vm.Alike T.vm := by rw [hv]; exact Vm.Alike.refl U.vm
  refine ⟨by rw [hh]; exact h1, va_K.moved hvm h2, fun w hw => va_Nw.same rfl hv.symm (h3 w hw), h4.moved hvm, ?_, fun i w hw => (h6 i w hw).same hv, ?_, ?_, ?_, fun q hq => va_Nw.same rfl hv.symm (h10 q hq), fun x hx => va_Nw.same rfl hv.symm (h11 x hx), fo, ?_⟩ <;> rw [hh]
  · exact h5.moved hvm
  · exact h7.moved hvm
  · exact h8.moved hvm
  · exact h9.moved hvm
  · exact h12.moved hvm
/-- a contract's world -/
def gB (d : gD) (b : Nat) (F : gM) (U : State) : Prop := gV d b U ∧ gH d b F U.heap
theorem gB.blind {d : gD} {b : Nat} {F : gM} {av : List Value} : FrameBlind (va_Pc av (gB d b F)) := fun a U g mk h => ⟨h.1, h.2.1.vm rfl rfl, h.2.2⟩

-- the context of a walk
def gC (own : String) (cc : ByteArray) (nL : Nat) (rt : Option FieldType) (nm : String) (R : Room) (d : gD) (b : Nat) (X : gX) : Prop :=
  X.pr.tables.exec = Jvm.exec ∧ X.co.code = cc ∧ X.co.maxLocals = nL ∧ X.st.vm.findClass own = some X.mi.cls ∧ (∀ w ∈ gWs, w.before X.ar X.st = true) ∧ gV d b X.st ∧ X.me.locks = false ∧ X.me.sig.returnType = rt ∧ X.me.name = nm ∧ X.rm = R
section G1
variable {own : String} {cc : ByteArray} {nL : Nat} {rt : Option FieldType} {nm : String} {R : Room} {d : gD} {b : Nat} {X : gX} {Q : State → Prop} {F : gM} {k n pc : Nat} {lv : List (Option Value)} {st : List Value}
theorem gC.hx (h : gC own cc nL rt nm R d b X) : X.pr.tables.exec = Jvm.exec := h.1
theorem gC.hb (h : gC own cc nL rt nm R d b X) : X.co.code = cc := h.2.1
theorem gC.hml (h : gC own cc nL rt nm R d b X) : X.co.maxLocals = nL := h.2.2.1
theorem gC.how (h : gC own cc nL rt nm R d b X) : X.st.vm.findClass own = some X.mi.cls := h.2.2.2.1
theorem gC.hts (h : gC own cc nL rt nm R d b X) : ∀ w ∈ gWs, w.before X.ar X.st = true := h.2.2.2.2.1
theorem gC.hv (h : gC own cc nL rt nm R d b X) : gV d b X.st := h.2.2.2.2.2.1
theorem gC.hlk (h : gC own cc nL rt nm R d b X) : X.me.locks = false := h.2.2.2.2.2.2.1
theorem gC.hrt (h : gC own cc nL rt nm R d b X) : X.me.sig.returnType = rt := h.2.2.2.2.2.2.2.1
theorem gC.hnm (h : gC own cc nL rt nm R d b X) : X.me.name = nm := h.2.2.2.2.2.2.2.2.1
theorem gC.hR (h : gC own cc nL rt nm R d b X) : X.rm = R := h.2.2.2.2.2.2.2.2.2
theorem gC.A (h : gC own cc nL rt nm R d b X) : ∀ q, X.st.heap.size ≤ q → b ≤ q := fun _ hq => Nat.le_trans h.hv.1 hq
/-- at a moment of the walk -/
theorem gC.at (h : gC own cc nL rt nm R d b X) {H : Heap} {locs : List Loc} (hS : va_S (fun q => b ≤ q) X.st.heap H locs) {U : State} (hU : U.heap = H) (hW : X.st.WarmedH U.vm) : gV d b U :=
  h.hv.moved hW (by rw [hU]; exact hS.1) (fun q h1 h2 => by rw [hU]; exact hS.2.1 q h1 h2)
theorem g_widen {k2 n2 : Nat} (h1 : k ≤ k2) (h2 : n ≤ n2) (kk : gG X d b Q F k2 n2 pc lv st) : gG X d b Q F k n pc lv st := fun H locs ls hH hS hL => W.widen h1 h2 (kk H locs ls hH hS hL)
theorem g_lv {lv' : List (Option Value)} (hs : gSubB lv' lv) (kk : gG X d b Q F k n pc lv' st) : gG X d b Q F k n pc lv st := fun H locs ls hH hS hL => kk H locs ls hH hS (hL.sub hs.ok.1 hs.ok.2)
theorem g_F {F' : gM} (h : F = F') (kk : gG X d b Q F' k n pc lv st) : gG X d b Q F k n pc lv st := h ▸ kk
theorem g_vi {x : Int32} (kk : ∀ y : Int32, y = x → gG X d b Q F k n pc lv (.int y :: st)) : gG X d b Q F k n pc lv (.int x :: st) := kk x rfl
theorem g_vl {x : Int64} (kk : ∀ y : Int64, y = x → gG X d b Q F k n pc lv (.long y :: st)) : gG X d b Q F k n pc lv (.long x :: st) := kk x rfl
theorem g_iconst (hC : gC own cc nL rt nm R d b X) {i : Int} {v : Int32} (hdg : decode cc pc = .ok (.iconst i, 1)) (hv : Int32.ofInt i = v) (kk : gG X d b Q F k n (pc + 1) lv (.int v :: st)) : gG X d b Q F k n pc lv st := fun H locs ls hH hS hL => lv_iconst hC.hx hC.hb hdg hv (kk H locs ls hH hS hL)
theorem g_bipush (hC : gC own cc nL rt nm R d b X) {i : Int} {v : Int32} (hdg : decode cc pc = .ok (.bipush i, 2)) (hv : (Int8.ofInt i).toInt32 = v) (kk : gG X d b Q F k n (pc + 2) lv (.int v :: st)) : gG X d b Q F k n pc lv st := fun H locs ls hH hS hL => lv_bipush hC.hx hC.hb hdg hv (kk H locs ls hH hS hL)
theorem g_sipush (hC : gC own cc nL rt nm R d b X) {i : Int} {v : Int32} (hdg : decode cc pc = .ok (.sipush i, 3)) (hv : (Int16.ofInt i).toInt32 = v) (kk : gG X d b Q F k n (pc + 3) lv (.int v :: st)) : gG X d b Q F k n pc lv st := fun H locs ls hH hS hL => lv_sipush hC.hx hC.hb hdg hv (kk H locs ls hH hS hL)
theorem g_lconst (hC : gC own cc nL rt nm R d b X) {i : Fin 2} {v : Int64} (hdg : decode cc pc = .ok (.lconst i, 1)) (hv : Int64.ofNat (i : Nat) = v) (kk : gG X d b Q F k n (pc + 1) lv (.long v :: st)) : gG X d b Q F k n pc lv st := fun H locs ls hH hS hL => lv_lconst hC.hx hC.hb hdg hv (kk H locs ls hH hS hL)
theorem g_ldc (hC : gC own cc nL rt nm R d b X) {i : Nat} {v : Int32} (hdg : decode cc pc = .ok (.ldc i, 2)) (hw : Cond.constant own i v ∈ gWs) (kk : gG X d b Q F k n (pc + 2) lv (.int v :: st)) : gG X d b Q F k n pc lv st := fun H locs ls hH hS hL => lv_ldc hC.hx hC.hb hC.how (hC.hts _ hw) hdg (kk H locs ls hH hS hL)
theorem g_ldcw (hC : gC own cc nL rt nm R d b X) {i : Nat} {v : Int32} (hdg : decode cc pc = .ok (.ldc_w i, 3)) (hw : Cond.constant own i v ∈ gWs) (kk : gG X d b Q F k n (pc + 3) lv (.int v :: st)) : gG X d b Q F k n pc lv st := fun H locs ls hH hS hL => lv_ldcw hC.hx hC.hb hC.how (hC.hts _ hw) hdg (kk H locs ls hH hS hL)
theorem g_ldc2 (hC : gC own cc nL rt nm R d b X) {i : Nat} {v : Int64} (hdg : decode cc pc = .ok (.ldc2_w i, 3)) (hw : Cond.constantLong own i v ∈ gWs) (kk : gG X d b Q F k n (pc + 3) lv (.long v :: st)) : gG X d b Q F k n pc lv st := fun H locs ls hH hS hL => lv_ldc2 hC.hx hC.hb hC.how (hC.hts _ hw) hdg (kk H locs ls hH hS hL)
theorem g_iload_n (hC : gC own cc nL rt nm R d b X) {i : Fin 4} {x : Int32} (hdg : decode cc pc = .ok (.iload_n i, 1)) (hl : lv[(i : Nat)]? = some (some (.int x))) (kk : gG X d b Q F k n (pc + 1) lv (.int x :: st)) : gG X d b Q F k n pc lv st := fun H locs ls hH hS hL => lv_iload_n hC.hx hC.hb hdg rfl (hL.at hl) (kk H locs ls hH hS hL)
theorem g_iload (hC : gC own cc nL rt nm R d b X) {i : Nat} {x : Int32} (hdg : decode cc pc = .ok (.iload i, 2)) (hl : lv[i]? = some (some (.int x))) (kk : gG X d b Q F k n (pc + 2) lv (.int x :: st)) : gG X d b Q F k n pc lv st := fun H locs ls hH hS hL => lv_iload hC.hx hC.hb hdg (hL.at hl) (kk H locs ls hH hS hL)
theorem g_lload_n (hC : gC own cc nL rt nm R d b X) {i : Fin 4} {x : Int64} (hdg : decode cc pc = .ok (.lload_n i, 1)) (hl : lv[(i : Nat)]? = some (some (.long x))) (kk : gG X d b Q F k n (pc + 1) lv (.long x :: st)) : gG X d b Q F k n pc lv st := fun H locs ls hH hS hL => lv_lload_n hC.hx hC.hb hdg rfl (hL.at hl) (kk H locs ls hH hS hL)
theorem g_lload (hC : gC own cc nL rt nm R d b X) {i : Nat} {x : Int64} (hdg : decode cc pc = .ok (.lload i, 2)) (hl : lv[i]? = some (some (.long x))) (kk : gG X d b Q F k n (pc + 2) lv (.long x :: st)) : gG X d b Q F k n pc lv st := fun H locs ls hH hS hL => lv_lload hC.hx hC.hb hdg (hL.at hl) (kk H locs ls hH hS hL)
theorem g_aload_n (hC : gC own cc nL rt nm R d b X) {i : Fin 4} {x : Nat} (hdg : decode cc pc = .ok (.aload_n i, 1)) (hl : lv[(i : Nat)]? = some (some (.ref x))) (kk : gG X d b Q F k n (pc + 1) lv (.ref x :: st)) : gG X d b Q F k n pc lv st := fun H locs ls hH hS hL => lv_aload_n hC.hx hC.hb hdg rfl (hL.at hl) (kk H locs ls hH hS hL)
theorem g_aload (hC : gC own cc nL rt nm R d b X) {i : Nat} {x : Nat} (hdg : decode cc pc = .ok (.aload i, 2)) (hl : lv[i]? = some (some (.ref x))) (kk : gG X d b Q F k n (pc + 2) lv (.ref x :: st)) : gG X d b Q F k n pc lv st := fun H locs ls hH hS hL => lv_aload hC.hx hC.hb hdg (hL.at hl) (kk H locs ls hH hS hL)
theorem g_aload_nN (hC : gC own cc nL rt nm R d b X) {i : Fin 4} (hdg : decode cc pc = .ok (.aload_n i, 1)) (hl : lv[(i : Nat)]? = some (some .null)) (kk : gG X d b Q F k n (pc + 1) lv (.null :: st)) : gG X d b Q F k n pc lv st := fun H locs ls hH hS hL => lv_aload_nN hC.hx hC.hb hdg rfl (hL.at hl) (kk H locs ls hH hS hL)
theorem g_aloadN (hC : gC own cc nL rt nm R d b X) {i : Nat} (hdg : decode cc pc = .ok (.aload i, 2)) (hl : lv[i]? = some (some .null)) (kk : gG X d b Q F k n (pc + 2) lv (.null :: st)) : gG X d b Q F k n pc lv st := fun H locs ls hH hS hL => lv_aloadN hC.hx hC.hb hdg (hL.at hl) (kk H locs ls hH hS hL)
theorem g_istore_n (hC : gC own cc nL rt nm R d b X) {i : Fin 4} {x : Int32} {lv' : List (Option Value)} (hdg : decode cc pc = .ok (.istore_n i, 1)) (hn : (i : Nat) < lv.length) (hok : gOk lv (i : Nat) = true) (hl : (lv.set (i : Nat) (some (.int x))) = lv') (kk : gG X d b Q F k n (pc + 1) lv' st) : gG X d b Q F k n pc lv (.int x :: st) := fun H locs ls hH hS hL => lv_istore_n (lv' := _) hC.hx hC.hb hdg rfl hL.has hn rfl (fun ls2 h2 => kk H locs ls2 hH hS (hl ▸ gL.st1 hok h2))
theorem g_istore (hC : gC own cc nL rt nm R d b X) {i : Nat} {x : Int32} {lv' : List (Option Value)} (hdg : decode cc pc = .ok (.istore i, 2)) (hn : i < lv.length) (hok : gOk lv i = true) (hl : (lv.set i (some (.int x))) = lv') (kk : gG X d b Q F k n (pc + 2) lv' st) : gG X d b Q F k n pc lv (.int x :: st) := fun H locs ls hH hS hL => lv_istore (lv' := _) hC.hx hC.hb hdg hL.has hn rfl (fun ls2 h2 => kk H locs ls2 hH hS (hl ▸ gL.st1 hok h2))
theorem g_lstore_n (hC : gC own cc nL rt nm R d b X) {i : Fin 4} {x : Int64} {lv' : List (Option Value)} (hdg : decode cc pc = .ok (.lstore_n i, 1)) (hn : (i : Nat) + 1 < lv.length) (hok : gOk lv (i : Nat) = true) (hl : ((lv.set (i : Nat) (some (.long x))).set ((i : Nat) + 1) none) = lv') (kk : gG X d b Q F k n (pc + 1) lv' st) : gG X d b Q F k n pc lv (.long x :: st) := fun H locs ls hH hS hL => lv_lstore_n (lv' := _) hC.hx hC.hb hdg rfl hL.has hn rfl (fun ls2 h2 => kk H locs ls2 hH hS (hl ▸ gL.st2 hok h2))
theorem g_lstore (hC : gC own cc nL rt nm R d b X) {i : Nat} {x : Int64} {lv' : List (Option Value)} (hdg : decode cc pc = .ok (.lstore i, 2)) (hn : i + 1 < lv.length) (hok : gOk lv i = true) (hl : ((lv.set i (some (.long x))).set (i + 1) none) = lv') (kk : gG X d b Q F k n (pc + 2) lv' st) : gG X d b Q F k n pc lv (.long x :: st) := fun H locs ls hH hS hL => lv_lstore (lv' := _) hC.hx hC.hb hdg hL.has hn rfl (fun ls2 h2 => kk H locs ls2 hH hS (hl ▸ gL.st2 hok h2))
theorem g_astore_n (hC : gC own cc nL rt nm R d b X) {i : Fin 4} {x : Nat} {lv' : List (Option Value)} (hdg : decode cc pc = .ok (.astore_n i, 1)) (hn : (i : Nat) < lv.length) (hok : gOk lv (i : Nat) = true) (hl : (lv.set (i : Nat) (some (.ref x))) = lv') (kk : gG X d b Q F k n (pc + 1) lv' st) : gG X d b Q F k n pc lv (.ref x :: st) := fun H locs ls hH hS hL => lv_astore_n (lv' := _) hC.hx hC.hb hdg rfl hL.has hn rfl (fun ls2 h2 => kk H locs ls2 hH hS (hl ▸ gL.st1 hok h2))
theorem g_astore (hC : gC own cc nL rt nm R d b X) {i : Nat} {x : Nat} {lv' : List (Option Value)} (hdg : decode cc pc = .ok (.astore i, 2)) (hn : i < lv.length) (hok : gOk lv i = true) (hl : (lv.set i (some (.ref x))) = lv') (kk : gG X d b Q F k n (pc + 2) lv' st) : gG X d b Q F k n pc lv (.ref x :: st) := fun H locs ls hH hS hL => lv_astore (lv' := _) hC.hx hC.hb hdg hL.has hn rfl (fun ls2 h2 => kk H locs ls2 hH hS (hl ▸ gL.st1 hok h2))
theorem gA_ix {lv : List (Option Value)} {i : Nat} {v : Value} (h : lv[i]? = some (some v)) : ∃ j : Nat, (gA lv)[j]? = some (i, v) := List.getElem?_of_mem (gA_of h)
theorem g_iinc (hC : gC own cc nL rt nm R d b X) {i : Nat} {z : Int} {x v : Int32} {lv' : List (Option Value)} (hdg : decode cc pc = .ok (.iinc i z, 3)) (hx : lv[i]? = some (some (.int x))) (hv : x + Int32.ofInt z = v) (hok : gOk lv i = true) (hl : lv.set i (some (.int v)) = lv') (kk : gG X d b Q F k n (pc + 3) lv' st) : gG X d b Q F k n pc lv st := fun H locs ls hH hS hL => by
  obtain ⟨j, hj⟩ := gA_ix hx
  exact lv_iinc (lv' := _) hC.hx hC.hb hdg hL.has hj hv (List.getElem?_eq_some_iff.mp hx).1 rfl (fun ls2 h2 => kk H locs ls2 hH hS (hl ▸ gL.st1 hok h2))
theorem g_iadd (hC : gC own cc nL rt nm R d b X) {x y : Int32} (hdg : decode cc pc = .ok (.iadd, 1)) (kk : gG X d b Q F k n (pc + 1) lv (.int (x + y) :: st)) : gG X d b Q F k n pc lv (.int y :: .int x :: st) := fun H locs ls hH hS hL => lv_iadd hC.hx hC.hb hdg (kk H locs ls hH hS hL)
theorem g_isub (hC : gC own cc nL rt nm R d b X) {x y : Int32} (hdg : decode cc pc = .ok (.isub, 1)) (kk : gG X d b Q F k n (pc + 1) lv (.int (x - y) :: st)) : gG X d b Q F k n pc lv (.int y :: .int x :: st) := fun H locs ls hH hS hL => lv_isub hC.hx hC.hb hdg (kk H locs ls hH hS hL)
theorem g_imul (hC : gC own cc nL rt nm R d b X) {x y : Int32} (hdg : decode cc pc = .ok (.imul, 1)) (kk : gG X d b Q F k n (pc + 1) lv (.int (x * y) :: st)) : gG X d b Q F k n pc lv (.int y :: .int x :: st) := fun H locs ls hH hS hL => lv_imul hC.hx hC.hb hdg (kk H locs ls hH hS hL)
theorem g_iand (hC : gC own cc nL rt nm R d b X) {x y : Int32} (hdg : decode cc pc = .ok (.iand, 1)) (kk : gG X d b Q F k n (pc + 1) lv (.int (x &&& y) :: st)) : gG X d b Q F k n pc lv (.int y :: .int x :: st) := fun H locs ls hH hS hL => lv_iand hC.hx hC.hb hdg (kk H locs ls hH hS hL)
theorem g_ior (hC : gC own cc nL rt nm R d b X) {x y : Int32} (hdg : decode cc pc = .ok (.ior, 1)) (kk : gG X d b Q F k n (pc + 1) lv (.int (x ||| y) :: st)) : gG X d b Q F k n pc lv (.int y :: .int x :: st) := fun H locs ls hH hS hL => lv_ior hC.hx hC.hb hdg (kk H locs ls hH hS hL)
theorem g_ixor (hC : gC own cc nL rt nm R d b X) {x y : Int32} (hdg : decode cc pc = .ok (.ixor, 1)) (kk : gG X d b Q F k n (pc + 1) lv (.int (x ^^^ y) :: st)) : gG X d b Q F k n pc lv (.int y :: .int x :: st) := fun H locs ls hH hS hL => lv_ixor hC.hx hC.hb hdg (kk H locs ls hH hS hL)
theorem g_ladd (hC : gC own cc nL rt nm R d b X) {x y : Int64} (hdg : decode cc pc = .ok (.ladd, 1)) (kk : gG X d b Q F k n (pc + 1) lv (.long (x + y) :: st)) : gG X d b Q F k n pc lv (.long y :: .long x :: st) := fun H locs ls hH hS hL => lv_ladd hC.hx hC.hb hdg (kk H locs ls hH hS hL)
theorem g_lsub (hC : gC own cc nL rt nm R d b X) {x y : Int64} (hdg : decode cc pc = .ok (.lsub, 1)) (kk : gG X d b Q F k n (pc + 1) lv (.long (x - y) :: st)) : gG X d b Q F k n pc lv (.long y :: .long x :: st) := fun H locs ls hH hS hL => lv_lsub hC.hx hC.hb hdg (kk H locs ls hH hS hL)
theorem g_lmul (hC : gC own cc nL rt nm R d b X) {x y : Int64} (hdg : decode cc pc = .ok (.lmul, 1)) (kk : gG X d b Q F k n (pc + 1) lv (.long (x * y) :: st)) : gG X d b Q F k n pc lv (.long y :: .long x :: st) := fun H locs ls hH hS hL => lv_lmul hC.hx hC.hb hdg (kk H locs ls hH hS hL)
theorem g_ineg (hC : gC own cc nL rt nm R d b X) {x : Int32} (hdg : decode cc pc = .ok (.ineg, 1)) (kk : gG X d b Q F k n (pc + 1) lv (.int (-x) :: st)) : gG X d b Q F k n pc lv (.int x :: st) := fun H locs ls hH hS hL => lv_ineg hC.hx hC.hb hdg (kk H locs ls hH hS hL)
theorem g_i2l (hC : gC own cc nL rt nm R d b X) {x : Int32} (hdg : decode cc pc = .ok (.i2l, 1)) (kk : gG X d b Q F k n (pc + 1) lv (.long x.toInt64 :: st)) : gG X d b Q F k n pc lv (.int x :: st) := fun H locs ls hH hS hL => lv_i2l hC.hx hC.hb hdg rfl (kk H locs ls hH hS hL)
theorem g_l2i (hC : gC own cc nL rt nm R d b X) {x : Int64} (hdg : decode cc pc = .ok (.l2i, 1)) (kk : gG X d b Q F k n (pc + 1) lv (.int x.toInt32 :: st)) : gG X d b Q F k n pc lv (.long x :: st) := fun H locs ls hH hS hL => lv_l2i hC.hx hC.hb hdg rfl (kk H locs ls hH hS hL)
theorem g_i2b (hC : gC own cc nL rt nm R d b X) {x : Int32} (hdg : decode cc pc = .ok (.i2b, 1)) (kk : gG X d b Q F k n (pc + 1) lv (.int x.toInt8.toInt32 :: st)) : gG X d b Q F k n pc lv (.int x :: st) := fun H locs ls hH hS hL => lv_i2b hC.hx hC.hb hdg rfl (kk H locs ls hH hS hL)
theorem g_iushr (hC : gC own cc nL rt nm R d b X) {x y : Int32} (hdg : decode cc pc = .ok (.iushr, 1)) (kk : gG X d b Q F k n (pc + 1) lv (.int (x.toUInt32 >>> (y.toUInt32 &&& Int32.toUInt32 31)).toInt32 :: st)) : gG X d b Q F k n pc lv (.int y :: .int x :: st) := fun H locs ls hH hS hL => lv_iushr hC.hx hC.hb hdg rfl (kk H locs ls hH hS hL)
theorem g_lcmp (hC : gC own cc nL rt nm R d b X) {x y : Int64} (hdg : decode cc pc = .ok (.lcmp, 1)) (kk : gG X d b Q F k n (pc + 1) lv (.int (lg_cmp x y) :: st)) : gG X d b Q F k n pc lv (.long y :: .long x :: st) := fun H locs ls hH hS hL => W.lcmp hC.hx hC.hb hdg (kk H locs ls hH hS hL)
theorem g_dup (hC : gC own cc nL rt nm R d b X) {v : Value} (hdg : decode cc pc = .ok (.dup, 1)) (hv : v.category = 1) (kk : gG X d b Q F k n (pc + 1) lv (v :: v :: st)) : gG X d b Q F k n pc lv (v :: st) := fun H locs ls hH hS hL => lv_dup hC.hx hC.hb hdg hv (kk H locs ls hH hS hL)
theorem g_pop (hC : gC own cc nL rt nm R d b X) {v : Value} (hdg : decode cc pc = .ok (.pop, 1)) (hv : v.category = 1) (kk : gG X d b Q F k n (pc + 1) lv st) : gG X d b Q F k n pc lv (v :: st) := fun H locs ls hH hS hL => lv_pop hC.hx hC.hb hdg hv (kk H locs ls hH hS hL)
theorem g_dup2 (hC : gC own cc nL rt nm R d b X) {u v : Value} (hdg : decode cc pc = .ok (.dup2, 1)) (hu : u.category = 1) (hv : v.category = 1) (kk : gG X d b Q F k n (pc + 1) lv (u :: v :: u :: v :: st)) : gG X d b Q F k n pc lv (u :: v :: st) := fun H locs ls hH hS hL => lv_dup2_11 hC.hx hC.hb hdg hu hv (kk H locs ls hH hS hL)
theorem g_dup_x1 (hC : gC own cc nL rt nm R d b X) {u v : Value} (hdg : decode cc pc = .ok (.dup_x1, 1)) (hu : u.category = 1) (hv : v.category = 1) (kk : gG X d b Q F k n (pc + 1) lv (u :: v :: u :: st)) : gG X d b Q F k n pc lv (u :: v :: st) := fun H locs ls hH hS hL => lv_dup_x1 hC.hx hC.hb hdg hu hv (kk H locs ls hH hS hL)
theorem g_if_eq (hC : gC own cc nL rt nm R d b X) {x : Int32} {off : Int} {tgt : Nat} (hdg : decode cc pc = .ok (.ifCond .eq off, 3)) (ht : (pc : Int) + off = (tgt : Int)) (kt : x = 0 → gG X d b Q F k n tgt lv st) (kf : ¬ x = 0 → gG X d b Q F k n (pc + 3) lv st) : gG X d b Q F k n pc lv (.int x :: st) := fun H locs ls hH hS hL => lv_if_eq hC.hx hC.hb hdg ht (fun q => kt q H locs ls hH hS hL) (fun q => kf q H locs ls hH hS hL)
theorem g_icmp_eq (hC : gC own cc nL rt nm R d b X) {x y : Int32} {off : Int} {tgt : Nat} (hdg : decode cc pc = .ok (.if_icmp .eq off, 3)) (ht : (pc : Int) + off = (tgt : Int)) (kt : x = y → gG X d b Q F k n tgt lv st) (kf : ¬ x = y → gG X d b Q F k n (pc + 3) lv st) : gG X d b Q F k n pc lv (.int y :: .int x :: st) := fun H locs ls hH hS hL => lv_icmp_eq hC.hx hC.hb hdg ht (fun q => kt q H locs ls hH hS hL) (fun q => kf q H locs ls hH hS hL)
theorem g_if_ne (hC : gC own cc nL rt nm R d b X) {x : Int32} {off : Int} {tgt : Nat} (hdg : decode cc pc = .ok (.ifCond .ne off, 3)) (ht : (pc : Int) + off = (tgt : Int)) (kt : ¬ x = 0 → gG X d b Q F k n tgt lv st) (kf : x = 0 → gG X d b Q F k n (pc + 3) lv st) : gG X d b Q F k n pc lv (.int x :: st) := fun H locs ls hH hS hL => lv_if_ne hC.hx hC.hb hdg ht (fun q => kt q H locs ls hH hS hL) (fun q => kf q H locs ls hH hS hL)
theorem g_icmp_ne (hC : gC own cc nL rt nm R d b X) {x y : Int32} {off : Int} {tgt : Nat} (hdg : decode cc pc = .ok (.if_icmp .ne off, 3)) (ht : (pc : Int) + off = (tgt : Int)) (kt : ¬ x = y → gG X d b Q F k n tgt lv st) (kf : x = y → gG X d b Q F k n (pc + 3) lv st) : gG X d b Q F k n pc lv (.int y :: .int x :: st) := fun H locs ls hH hS hL => lv_icmp_ne hC.hx hC.hb hdg ht (fun q => kt q H locs ls hH hS hL) (fun q => kf q H locs ls hH hS hL)
theorem g_if_lt (hC : gC own cc nL rt nm R d b X) {x : Int32} {off : Int} {tgt : Nat} (hdg : decode cc pc = .ok (.ifCond .lt off, 3)) (ht : (pc : Int) + off = (tgt : Int)) (kt : x < 0 → gG X d b Q F k n tgt lv st) (kf : ¬ x < 0 → gG X d b Q F k n (pc + 3) lv st) : gG X d b Q F k n pc lv (.int x :: st) := fun H locs ls hH hS hL => lv_if_lt hC.hx hC.hb hdg ht (fun q => kt q H locs ls hH hS hL) (fun q => kf q H locs ls hH hS hL)
theorem g_icmp_lt (hC : gC own cc nL rt nm R d b X) {x y : Int32} {off : Int} {tgt : Nat} (hdg : decode cc pc = .ok (.if_icmp .lt off, 3)) (ht : (pc : Int) + off = (tgt : Int)) (kt : x < y → gG X d b Q F k n tgt lv st) (kf : ¬ x < y → gG X d b Q F k n (pc + 3) lv st) : gG X d b Q F k n pc lv (.int y :: .int x :: st) := fun H locs ls hH hS hL => lv_icmp_lt hC.hx hC.hb hdg ht (fun q => kt q H locs ls hH hS hL) (fun q => kf q H locs ls hH hS hL)
theorem g_if_ge (hC : gC own cc nL rt nm R d b X) {x : Int32} {off : Int} {tgt : Nat} (hdg : decode cc pc = .ok (.ifCond .ge off, 3)) (ht : (pc : Int) + off = (tgt : Int)) (kt : 0 ≤ x → gG X d b Q F k n tgt lv st) (kf : ¬ 0 ≤ x → gG X d b Q F k n (pc + 3) lv st) : gG X d b Q F k n pc lv (.int x :: st) := fun H locs ls hH hS hL => lv_if_ge hC.hx hC.hb hdg ht (fun q => kt q H locs ls hH hS hL) (fun q => kf q H locs ls hH hS hL)
theorem g_icmp_ge (hC : gC own cc nL rt nm R d b X) {x y : Int32} {off : Int} {tgt : Nat} (hdg : decode cc pc = .ok (.if_icmp .ge off, 3)) (ht : (pc : Int) + off = (tgt : Int)) (kt : y ≤ x → gG X d b Q F k n tgt lv st) (kf : ¬ y ≤ x → gG X d b Q F k n (pc + 3) lv st) : gG X d b Q F k n pc lv (.int y :: .int x :: st) := fun H locs ls hH hS hL => lv_icmp_ge hC.hx hC.hb hdg ht (fun q => kt q H locs ls hH hS hL) (fun q => kf q H locs ls hH hS hL)
theorem g_if_gt (hC : gC own cc nL rt nm R d b X) {x : Int32} {off : Int} {tgt : Nat} (hdg : decode cc pc = .ok (.ifCond .gt off, 3)) (ht : (pc : Int) + off = (tgt : Int)) (kt : 0 < x → gG X d b Q F k n tgt lv st) (kf : ¬ 0 < x → gG X d b Q F k n (pc + 3) lv st) : gG X d b Q F k n pc lv (.int x :: st) := fun H locs ls hH hS hL => lv_if_gt hC.hx hC.hb hdg ht (fun q => kt q H locs ls hH hS hL) (fun q => kf q H locs ls hH hS hL)
theorem g_icmp_gt (hC : gC own cc nL rt nm R d b X) {x y : Int32} {off : Int} {tgt : Nat} (hdg : decode cc pc = .ok (.if_icmp .gt off, 3)) (ht : (pc : Int) + off = (tgt : Int)) (kt : y < x → gG X d b Q F k n tgt lv st) (kf : ¬ y < x → gG X d b Q F k n (pc + 3) lv st) : gG X d b Q F k n pc lv (.int y :: .int x :: st) := fun H locs ls hH hS hL => lv_icmp_gt hC.hx hC.hb hdg ht (fun q => kt q H locs ls hH hS hL) (fun q => kf q H locs ls hH hS hL)
theorem g_if_le (hC : gC own cc nL rt nm R d b X) {x : Int32} {off : Int} {tgt : Nat} (hdg : decode cc pc = .ok (.ifCond .le off, 3)) (ht : (pc : Int) + off = (tgt : Int)) (kt : x ≤ 0 → gG X d b Q F k n tgt lv st) (kf : ¬ x ≤ 0 → gG X d b Q F k n (pc + 3) lv st) : gG X d b Q F k n pc lv (.int x :: st) := fun H locs ls hH hS hL => lv_if_le hC.hx hC.hb hdg ht (fun q => kt q H locs ls hH hS hL) (fun q => kf q H locs ls hH hS hL)
theorem g_icmp_le (hC : gC own cc nL rt nm R d b X) {x y : Int32} {off : Int} {tgt : Nat} (hdg : decode cc pc = .ok (.if_icmp .le off, 3)) (ht : (pc : Int) + off = (tgt : Int)) (kt : x ≤ y → gG X d b Q F k n tgt lv st) (kf : ¬ x ≤ y → gG X d b Q F k n (pc + 3) lv st) : gG X d b Q F k n pc lv (.int y :: .int x :: st) := fun H locs ls hH hS hL => lv_icmp_le hC.hx hC.hb hdg ht (fun q => kt q H locs ls hH hS hL) (fun q => kf q H locs ls hH hS hL)
theorem g_goto (hC : gC own cc nL rt nm R d b X) {off : Int} {tgt : Nat} (hdg : decode cc pc = .ok (.goto off, 3)) (ht : (pc : Int) + off = (tgt : Int)) (kk : gG X d b Q F k n tgt lv st) : gG X d b Q F k n pc lv st := fun H locs ls hH hS hL => lv_goto hC.hx hC.hb hdg ht (kk H locs ls hH hS hL)
theorem g_idiv (hC : gC own cc nL rt nm R d b X) {x y : Int32} (hdg : decode cc pc = .ok (.idiv, 1)) (hne : ¬ y = 0) (kk : gG X d b Q F k n (pc + 1) lv (.int (x / y) :: st)) : gG X d b Q F k n pc lv (.int y :: .int x :: st) := fun H locs ls hH hS hL => lv_idiv hC.hx hC.hb hdg hne (kk H locs ls hH hS hL)
theorem g_lookup (hC : gC own cc nL rt nm R d b X) {dflt : Int} {ps : Array (Int × Int)} {len : Nat} {x : Int32} {off : Int} {tgt : Nat} (hdg : decode cc pc = .ok (.lookupswitch dflt ps, len)) (hp : (ps.toList.zip (ps.toList.drop 1)).all (fun (a, next) => a.1 < next.1) = true) (ho : Op.lookupswitch.offset ps.toList dflt x.toInt = off) (ht : (pc : Int) + off = (tgt : Int)) (kk : gG X d b Q F k n tgt lv st) : gG X d b Q F k n pc lv (.int x :: st) := fun H locs ls hH hS hL => lv_lookup hC.hx hC.hb hdg hp ho ht (kk H locs ls hH hS hL)
theorem g_tableOut (hC : gC own cc nL rt nm R d b X) {dflt lo hi : Int} {offs : Array Int} {len : Nat} {x : Int32} {tgt : Nat} (hdg : decode cc pc = .ok (.tableswitch dflt lo hi offs, len)) (h : x.toInt < lo ∨ hi < x.toInt) (ht : (pc : Int) + dflt = (tgt : Int)) (kk : gG X d b Q F k n tgt lv st) : gG X d b Q F k n pc lv (.int x :: st) := fun H locs ls hH hS hL => lv_tableOut hC.hx hC.hb hdg h ht (kk H locs ls hH hS hL)
theorem g_tableIn (hC : gC own cc nL rt nm R d b X) {dflt lo hi : Int} {offs : Array Int} {len : Nat} {x : Int32} {off : Int} {tgt : Nat} (hdg : decode cc pc = .ok (.tableswitch dflt lo hi offs, len)) (h1 : ¬ x.toInt < lo) (h2 : ¬ hi < x.toInt) (ho : offs[(x.toInt - lo).toNat]? = some off) (ht : (pc : Int) + off = (tgt : Int)) (kk : gG X d b Q F k n tgt lv st) : gG X d b Q F k n pc lv (.int x :: st) := fun H locs ls hH hS hL => lv_tableIn hC.hx hC.hb hdg h1 h2 ho ht (kk H locs ls hH hS hL)
theorem g_objInit (hC : gC own cc nL rt nm R d b X) {i a : Nat} (hdg : decode cc pc = .ok (.invokespecial i, 3)) (hw : Cond.methodLink own i objectInit ∈ gWs) (hn : nL = lv.length) (hR : 1 ≤ R.frames ∧ 20 ≤ R.locals) (hr : (st.map fun v => v.category).sum ≤ 8) (kk : gG X d b Q F k n (pc + 3) lv st) : gG X d b Q F k n pc lv (.ref a :: st) := fun H locs ls hH hS hL =>
  W.objInit hC.hx hC.hb hC.how (hC.hts _ hw) (hC.hts _ gw_oi) (hC.hts _ gw_oc) (g := F0 X.mi pc ls (.ref a :: st)) rfl (by rw [hC.hml, hn]; exact hL.1) rfl hdg (by rw [hC.hR]; exact hR.1) (by
    rw [hC.hR]
    show 2 * 0 + _ + 12 ≤ _
    omega) (kk H locs ls hH hS hL)
/-- a field of class ci, place j, as 'own' links it: its type, whether it is final -/
def gFL (own : String) (idx ci j : Nat) (ty : FieldType) (fin : Bool) : Prop := ∃ (C : String) (T : u_T) (N : Nat) (ty0 : Nat → FieldType), vwCl[ci]? = some (C, T, N) ∧ j < N ∧ (∀ w ∈ u_ws C T N, w ∈ gWs) ∧ Cond.fieldLink own idx (T j).1 (T j).2.1 (T j).2.2.1 ∈ gWs ∧ (∀ q, q < N → parseFieldDescriptor (T q).2.2.1 = some (ty0 q)) ∧ (∀ a, a < N → ∀ b, b < N → a ≠ b → (T a).2.1 ≠ (T b).2.1) ∧ (T j).2.2.2 = fin ∧ parseFieldDescriptor (T j).2.2.1 = some ty ∧ (fin = true → (T j).1 = own)
theorem g_get (hC : gC own cc nL rt nm R d b X) {a idx ci j : Nat} {ty : FieldType} {fin : Bool} {v0 v : Value} {fs : List Value} (hl : gFL own idx ci j ty fin) (hF : F a = .inr (ci, v0 :: fs)) (hv : (v0 :: fs)[j]? = some v) (hdg : decode cc pc = .ok (.getfield idx, 3)) (kk : gG X d b Q F k n (pc + 3) lv (v :: st)) : gG X d b Q F k n pc lv (.ref a :: st) := fun H locs ls hH hS hL => by
  obtain ⟨L, hP, hD, h0⟩ := id hH
  obtain ⟨q, hm, hq⟩ := gH.at (d := d) (b := b) (H := H) h0 hF g0_o
  obtain ⟨C, T, N, ty0, z1, z2, z3, z4, z5, z6, z7, z8, z9⟩ := hl
  exact va_get (D := d.1) hC.hx hC.hb hC.hts z3 hC.how hC.hv.2.1 hP q hq z1 j z2 (hC.hts _ z4) (fun _ h => h) hv hdg (kk H locs ls hH hS hL)
theorem g_put (hC : gC own cc nL rt nm R d b X) {a idx ci j : Nat} {ty : FieldType} {v0 v : Value} {fs : List Value} (hl : gFL own idx ci j ty false) (hF : F a = .inr (ci, v0 :: fs)) (hn : narrow ty v = v) (hfit : fits ty v = true) (hj : j < (v0 :: fs).length) (hdg : decode cc pc = .ok (.putfield idx, 3)) (kk : gG X d b Q (va_up F a (.inr (ci, (v0 :: fs).set j v))) k n (pc + 3) lv st) : gG X d b Q F k n pc lv (v :: .ref a :: st) := fun H locs ls hH hS hL => by
  obtain ⟨L, hP, hD, h0⟩ := id hH
  obtain ⟨q, hm, hq⟩ := gH.at (d := d) (b := b) (H := H) h0 hF g0_o
  obtain ⟨C, T, N, ty0, z1, z2, z3, z4, z5, z6, z7, z8, z9⟩ := hl
  exact va_put (D := d.1) hC.hx hC.hb hC.hts z3 ty0 z5 z6 hC.how hC.hv.2.1 hP hD hS q hq z1 j z2 (hC.hts _ z4) (fun _ h => h) z7 z8 hn hfit hj hdg (fun H1 locs1 hP1 hD1 hS1 => kk H1 locs1 ls (gH.set h0 hm hD hq hF hP1 hD1) hS1 hL)
theorem g_putF (hC : gC own cc nL rt "<init>" R d b X) {a idx ci j : Nat} {ty : FieldType} {v0 v : Value} {fs : List Value} (hl : gFL own idx ci j ty true) (hF : F a = .inr (ci, v0 :: fs)) (hn : narrow ty v = v) (hfit : fits ty v = true) (hj : j < (v0 :: fs).length) (hdg : decode cc pc = .ok (.putfield idx, 3)) (kk : gG X d b Q (va_up F a (.inr (ci, (v0 :: fs).set j v))) k n (pc + 3) lv st) : gG X d b Q F k n pc lv (v :: .ref a :: st) := fun H locs ls hH hS hL => by
  obtain ⟨L, hP, hD, h0⟩ := id hH
  obtain ⟨q, hm, hq⟩ := gH.at (d := d) (b := b) (H := H) h0 hF g0_o
  obtain ⟨C, T, N, ty0, z1, z2, z3, z4, z5, z6, z7, z8, z9⟩ := hl
  exact va_putF (D := d.1) hC.hx hC.hb hC.hts z3 ty0 z5 z6 hC.how hC.hv.2.1 hP hD hS q hq z1 j z2 (hC.hts _ z4) (fun _ h => h) z7 hC.hnm (z9 rfl) z8 hn hfit hj hdg (fun H1 locs1 hP1 hD1 hS1 => kk H1 locs1 ls (gH.set h0 hm hD hq hF hP1 hD1) hS1 hL)
/-- a class that can be made -/
def gNL (own : String) (idx ci : Nat) (N : Nat) (fs : List Value) : Prop := ∃ (C : String) (T : u_T) (ty0 : Nat → FieldType), vwCl[ci]? = some (C, T, N) ∧ (∀ w ∈ u_ws C T N, w ∈ gWs) ∧ (∀ q, q < N → parseFieldDescriptor (T q).2.2.1 = some (ty0 q)) ∧ Cond.classLink own idx C ∈ gWs ∧ Cond.instantiable C N ∈ gWs ∧ Cond.initialized C ∈ gWs ∧ ∀ j, j < N → defaultValue (ty0 j) = vp_V fs j
theorem g_new (hC : gC own cc nL rt nm R d b X) {idx ci N : Nat} {fs : List Value} (hl : gNL own idx ci N fs) (hk : k + 1 ≤ R.cells) (hs : n + N ≤ R.slots) (hdg : decode cc pc = .ok (.new idx, 3)) (kk : ∀ q : Nat, F q = g0 → gG X d b Q (va_up F q (.inr (ci, fs))) (k + 1) (n + N) (pc + 3) lv (.ref q :: st)) : gG X d b Q F k n pc lv st := fun H locs ls hH hS hL => by
  obtain ⟨L, hP, hD, h0⟩ := id hH
  obtain ⟨C, T, ty0, z1, z2, z3, z4, z5, z6, z7⟩ := hl
  exact va_new (D := d.1) hC.hx hC.hb hC.hts z2 ty0 z3 hC.how (hC.hts _ z4) (hC.hts _ z5) (hC.hts _ z6) hC.hv.2.1 hP hD hS hC.A z1 z7 (by rw [hC.hR]; exact hk) (by rw [hC.hR]; exact hs) hdg (fun q H1 hP1 hD1 hS1 => by
    obtain ⟨e1, e2⟩ := gH.push h0 hP1 hD1
    exact kk q e1 H1 locs ls e2 hS1 hL)
theorem g_iald (hC : gC own cc nL rt nm R d b X) {a N : Nat} {f : Nat → Int32} {i : Int32} (hF : F a = .inl (gI d, N, .inl f)) (hin : vp_in i N) (hdg : decode cc pc = .ok (.iaload, 1)) (kk : gG X d b Q F k n (pc + 1) lv (.int (f i.toNatClampNeg) :: st)) : gG X d b Q F k n pc lv (.int i :: .ref a :: st) := fun H locs ls hH hS hL => by
  obtain ⟨L, hP, hD, h0⟩ := id hH
  obtain ⟨q, hm, hq⟩ := gH.at (d := d) (b := b) (H := H) h0 hF g0_a
  exact va_iald (D := d.1) hC.hx hC.hb hC.hv.2.1 hP q 0 hq rfl hin hdg (kk H locs ls hH hS hL)
theorem g_iast (hC : gC own cc nL rt nm R d b X) {a N : Nat} {f : Nat → Int32} {i x : Int32} (hF : F a = .inl (gI d, N, .inl f)) (hin : vp_in i N) (hdg : decode cc pc = .ok (.iastore, 1)) (kk : gG X d b Q (va_up F a (.inl (gI d, N, .inl (upd f i.toNatClampNeg x)))) k n (pc + 1) lv st) : gG X d b Q F k n pc lv (.int x :: .int i :: .ref a :: st) := fun H locs ls hH hS hL => by
  obtain ⟨L, hP, hD, h0⟩ := id hH
  obtain ⟨q, hm, hq⟩ := gH.at (d := d) (b := b) (H := H) h0 hF g0_a
  exact va_iast (D := d.1) hC.hx hC.hb hC.hv.2.1 hP hD hS q 0 hq rfl hin hdg (fun H1 locs1 hP1 hD1 hS1 => kk H1 locs1 ls (gH.set h0 hm hD hq hF hP1 hD1) hS1 hL)
theorem g_bald (hC : gC own cc nL rt nm R d b X) {a N : Nat} {f : Nat → Int32} {i : Int32} (hF : F a = .inl (gY d, N, .inl f)) (hin : vp_in i N) (hdg : decode cc pc = .ok (.baload, 1)) (kk : gG X d b Q F k n (pc + 1) lv (.int (f i.toNatClampNeg) :: st)) : gG X d b Q F k n pc lv (.int i :: .ref a :: st) := fun H locs ls hH hS hL => by
  obtain ⟨L, hP, hD, h0⟩ := id hH
  obtain ⟨q, hm, hq⟩ := gH.at (d := d) (b := b) (H := H) h0 hF g0_a
  exact va_bald (D := d.1) hC.hx hC.hb hC.hv.2.1 hP q 1 hq rfl hin hdg (kk H locs ls hH hS hL)
theorem g_bast (hC : gC own cc nL rt nm R d b X) {a N : Nat} {f : Nat → Int32} {i x : Int32} (hF : F a = .inl (gY d, N, .inl f)) (hin : vp_in i N) (hdg : decode cc pc = .ok (.bastore, 1)) (kk : gG X d b Q (va_up F a (.inl (gY d, N, .inl (upd f i.toNatClampNeg (vp_nar .byte x))))) k n (pc + 1) lv st) : gG X d b Q F k n pc lv (.int x :: .int i :: .ref a :: st) := fun H locs ls hH hS hL => by
  obtain ⟨L, hP, hD, h0⟩ := id hH
  obtain ⟨q, hm, hq⟩ := gH.at (d := d) (b := b) (H := H) h0 hF g0_a
  exact va_bast (D := d.1) hC.hx hC.hb hC.hv.2.1 hP hD hS q 1 hq rfl hin hdg (fun H1 locs1 hP1 hD1 hS1 => kk H1 locs1 ls (gH.set h0 hm hD hq hF hP1 hD1) hS1 hL)
theorem g_last (hC : gC own cc nL rt nm R d b X) {a N : Nat} {f : Nat → Int64} {i : Int32} {x : Int64} (hF : F a = .inl (gJ d, N, .inr (.inl f))) (hin : vp_in i N) (hdg : decode cc pc = .ok (.lastore, 1)) (kk : gG X d b Q (va_up F a (.inl (gJ d, N, .inr (.inl (vp_updL f i.toNatClampNeg x))))) k n (pc + 1) lv st) : gG X d b Q F k n pc lv (.long x :: .int i :: .ref a :: st) := fun H locs ls hH hS hL => by
  obtain ⟨L, hP, hD, h0⟩ := id hH
  obtain ⟨q, hm, hq⟩ := gH.at (d := d) (b := b) (H := H) h0 hF g0_a
  exact va_last (D := d.1) hC.hx hC.hb hC.hv.2.1 hP hD hS q 3 hq rfl hin hdg (fun H1 locs1 hP1 hD1 hS1 => kk H1 locs1 ls (gH.set h0 hm hD hq hF hP1 hD1) hS1 hL)
theorem g_lald (hC : gC own cc nL rt nm R d b X) {a N : Nat} {f : Nat → Int64} {i : Int32} (hF : F a = .inl (gJ d, N, .inr (.inl f))) (hin : vp_in i N) (hdg : decode cc pc = .ok (.laload, 1)) (kk : gG X d b Q F k n (pc + 1) lv (.long (f i.toNatClampNeg) :: st)) : gG X d b Q F k n pc lv (.int i :: .ref a :: st) := fun H locs ls hH hS hL => by
  obtain ⟨L, hP, hD, h0⟩ := id hH
  obtain ⟨q, hm, hq⟩ := gH.at (d := d) (b := b) (H := H) h0 hF g0_a
  exact va_lald (D := d.1) hC.hx hC.hb hC.hv.2.1 hP q 3 hq rfl hin hdg (kk H locs ls hH hS hL)
theorem g_aald (hC : gC own cc nL rt nm R d b X) {a N : Nat} {f : Nat → Option Nat} {i : Int32} (hF : F a = .inl (gO d, N, .inr (.inr (.inr (.inr f))))) (hin : vp_in i N) (hdg : decode cc pc = .ok (.aaload, 1)) (kk : gG X d b Q F k n (pc + 1) lv (va_rf (f i.toNatClampNeg) :: st)) : gG X d b Q F k n pc lv (.int i :: .ref a :: st) := fun H locs ls hH hS hL => by
  obtain ⟨L, hP, hD, h0⟩ := id hH
  obtain ⟨q, hm, hq⟩ := gH.at (d := d) (b := b) (H := H) h0 hF g0_a
  exact va_aldq (D := d.1) hC.hx hC.hb hC.hv.2.1 hP q 4 hq rfl hin hdg (kk H locs ls hH hS hL)
theorem g_aast (hC : gC own cc nL rt nm R d b X) {a N v : Nat} {f : Nat → Option Nat} {i : Int32} {v0 : Value} {vs : List Value} (hF : F a = .inl (gO d, N, .inr (.inr (.inr (.inr f))))) (hV : F v = .inr (4, v0 :: vs)) (hin : vp_in i N) (hdg : decode cc pc = .ok (.aastore, 1)) (kk : gG X d b Q (va_up F a (.inl (gO d, N, .inr (.inr (.inr (.inr (va_up f i.toNatClampNeg (some v)))))))) k n (pc + 1) lv st) : gG X d b Q F k n pc lv (.ref v :: .int i :: .ref a :: st) := fun H locs ls hH hS hL => by
  obtain ⟨L, hP, hD, h0⟩ := id hH
  obtain ⟨q, hm, hq⟩ := gH.at (d := d) (b := b) (H := H) h0 hF g0_a
  obtain ⟨q2, hm2, hq2⟩ := gH.at (d := d) (b := b) (H := H) h0 hV g0_o
  exact va_astq (D := d.1) (r := (RX4, TX4, 3)) hC.hx hC.hb hC.hv.2.1 hP hD hS q 4 q2 4 hq rfl hq2 rfl hin hdg (fun H1 locs1 hP1 hD1 hS1 => kk H1 locs1 ls (gH.set h0 hm hD hq hF hP1 hD1) hS1 hL)
theorem g_alen (hC : gC own cc nL rt nm R d b X) {a : Nat} {cA : ClassId} {x : vp_A} (t0 : Nat) {ty : FieldType} (hF : F a = .inl (cA, x)) (ht : (gtys d)[t0]? = some (cA, ty)) (hdg : decode cc pc = .ok (.arraylength, 1)) (kk : gG X d b Q F k n (pc + 1) lv (.int (nI x.1) :: st)) : gG X d b Q F k n pc lv (.ref a :: st) := fun H locs ls hH hS hL => by
  obtain ⟨L, hP, hD, h0⟩ := id hH
  obtain ⟨q, hm, hq⟩ := gH.at (d := d) (b := b) (H := H) h0 hF g0_a
  exact va_alen (D := d.1) hC.hx hC.hb hC.hv.2.1 hP q t0 hq ht rfl hdg (kk H locs ls hH hS hL)
theorem g_newa (hC : gC own cc nL rt nm R d b X) {atype : ArrayType} {cA : ClassId} (t0 : Nat) {i : Int32} {N : Nat} {a0 : vp_A} (hw : Cond.arrayClass (newarray.typeOf atype) ∈ gWs) (ht : (gtys d)[t0]? = some (cA, newarray.typeOf atype)) (h5 : t0 < 4) (ha : ∀ cA : ClassId, vp_cell cA a0 = arrV cA N (fun _ => defaultValue (newarray.typeOf atype))) (hn : ¬ i < 0) (hN : i.toNatClampNeg = N) (hbytes : N * componentBytes (newarray.typeOf atype) ≤ 536870912) (hk : k + 1 ≤ R.cells) (hs : n + N ≤ R.slots) (hdg : decode cc pc = .ok (.newarray atype, 2)) (kk : ∀ q : Nat, F q = g0 → gG X d b Q (va_up F q (.inl (cA, a0))) (k + 1) (n + N) (pc + 2) lv (.ref q :: st)) : gG X d b Q F k n pc lv (.int i :: st) := fun H locs ls hH hS hL => by
  obtain ⟨L, hP, hD, h0⟩ := id hH
  have hK := hC.hv.2.1
  refine va_newa (D := d.1) (cl := vwCl) (tys := gtys d) hC.hx hC.hb (hC.hts _ hw) rfl hK hP hD hS hC.A ha hn hN hbytes (by rw [hC.hR]; exact hk) (by rw [hC.hR]; exact hs) hdg (fun q cB H1 hK1 hP1 hD1 hS1 => ?_)
  have e : cB = cA := by
    have h1 := (hK1.2 5 (cB, newarray.typeOf atype) rfl).2
    have h2 := (hK.2 t0 _ ht).2
    cases atype <;> exact Option.some.inj (h1.symm.trans h2)
  subst e
  obtain ⟨e1, e2⟩ := gH.push h0 hP1 hD1
  exact kk q e1 H1 locs ls e2 hS1 hL
theorem g_newq (hC : gC own cc nL rt nm R d b X) {idx : Nat} {i : Int32} {N : Nat} (hw : Cond.classLink own idx RX4 ∈ gWs) (hn : ¬ i < 0) (hN : i.toNatClampNeg = N) (hbytes : N * 4 ≤ 536870912) (hk : k + 1 ≤ R.cells) (hs : n + N ≤ R.slots) (hdg : decode cc pc = .ok (.anewarray idx, 3)) (kk : ∀ q : Nat, F q = g0 → gG X d b Q (va_up F q (.inl (gO d, N, .inr (.inr (.inr (.inr (fun _ => none))))))) (k + 1) (n + N) (pc + 3) lv (.ref q :: st)) : gG X d b Q F k n pc lv (.int i :: st) := fun H locs ls hH hS hL => by
  obtain ⟨L, hP, hD, h0⟩ := id hH
  have hK := hC.hv.2.1
  refine va_newq (D := d.1) (cl := vwCl) (tys := gtys d) hC.hx hC.hb hC.how (hC.hts _ hw) hC.hv.2.2.2.1 hK hP hD hS hC.A hn hN hbytes (by rw [hC.hR]; exact hk) (by rw [hC.hR]; exact hs) hdg (fun q cB H1 hK1 hP1 hD1 hS1 => ?_)
  have e : cB = gO d := by
    obtain ⟨-, -, -, -, -, h1⟩ := (hK1.2 5 (cB, .object RX4) rfl).2
    obtain ⟨-, -, -, -, -, h2⟩ := (hK.2 4 (gO d, .object RX4) rfl).2
    exact Option.some.inj (h1.symm.trans h2)
  subst e
  obtain ⟨e1, e2⟩ := gH.push h0 hP1 hD1
  exact kk q e1 H1 locs ls e2 hS1 hL
end G1

-- CONTRACTS
def gR (lvl mc ms : Nat) : Room := { frames := lvl, cells := mc, slots := ms, locals := 64 * lvl }
abbrev gw (y : MethodName) (cc : ByteArray) (mL : Nat) (rt : Option FieldType) : List Cond := .code y cc mL rt :: gWs
/-- an int (a boolean, a char ..) comes back -/
def gMi (l : Launch) (d : gD) (b : Nat) (y : MethodName) (cc : ByteArray) (mL : Nat) (rt : FieldType) (lvl mc ms : Nat) (F : gM) (As : List Value) (post : Int32 → gM → Prop) : Prop :=
  Met l y (gw y cc mL (some rt)) (gR lvl mc ms) (va_Pc As (gB d b F)) (va_Qi post (gB d b) (fun q => b ≤ q)) mc ms (fun q => b ≤ q)
def gMv (l : Launch) (d : gD) (b : Nat) (y : MethodName) (cc : ByteArray) (mL : Nat) (lvl mc ms : Nat) (F : gM) (As : List Value) (post : gM → Prop) : Prop :=
  Met l y (gw y cc mL none) (gR lvl mc ms) (va_Pc As (gB d b F)) (va_Qv post (gB d b) (fun q => b ≤ q)) mc ms (fun q => b ≤ q)
def gMl (l : Launch) (d : gD) (b : Nat) (y : MethodName) (cc : ByteArray) (mL : Nat) (lvl mc ms : Nat) (F : gM) (As : List Value) (post : Int64 → gM → Prop) : Prop :=
  Met l y (gw y cc mL (some .long)) (gR lvl mc ms) (va_Pc As (gB d b F)) (va_Ql post (gB d b) (fun q => b ≤ q)) mc ms (fun q => b ≤ q)
def gMq (l : Launch) (d : gD) (b : Nat) (y : MethodName) (cc : ByteArray) (mL : Nat) (rt : FieldType) (lvl mc ms : Nat) (F : gM) (As : List Value) (post : Option Nat → gM → Prop) : Prop :=
  Met l y (gw y cc mL (some rt)) (gR lvl mc ms) (va_Pc As (gB d b F)) (va_Qq post (gB d b) (fun q => b ≤ q)) mc ms (fun q => b ≤ q)
theorem gWs_all {y : MethodName} {cc : ByteArray} {mL : Nat} {rt : Option FieldType} (h : Cond.code y cc mL rt ∈ gWs) : GoodIn gWs (gw y cc mL rt) := fun w hw => by
  have hw' : w ∈ gWs := (List.mem_cons.mp hw).elim (fun e => by rw [e]; exact h) id
  exact ⟨hw', good_of_word (gWs_good w hw')⟩
/-- a body's start -/
theorem gM_of {Qc : Array Value → State → Outcome → State → Prop} {l : Launch} {d : gD} {b : Nat} {y : MethodName} {cc : ByteArray} {mL : Nat} {rt : Option FieldType} {lvl mc ms : Nat} {F : gM} {As : List Value} (hy : plainName y.cls = true) {lv : List (Option Value)} (hlv : lv.length = mL) (hn : (lg_sl As).length ≤ mL) (hl : ∀ (i : Nat) (v : Value), lv[i]? = some (some v) → (i, v) ∈ lv_args 0 As)
    (body : ∀ X : gX, X.la = l → gC y.cls cc mL rt y.name (gR lvl mc ms) d b X → gG X d b (MQ X.be Qc X.ar X.st mc ms (fun q => b ≤ q)) F 0 0 0 lv []) : Met l y (gw y cc mL rt) (gR lvl mc ms) (va_Pc As (gB d b F)) Qc mc ms (fun q => b ≤ q) := by
  refine Met.ofW (cc := cc) (maxL := mL) (ret := rt) hy rfl ?_
  intro p e s m args below meth c s₁ B hml hv
  obtain ⟨rfl, hV, hH⟩ := hv
  have hts := atoms_spec (ws := gw y cc mL rt) B.pre
  have hown : s.vm.findClass y.cls = some m.cls := findClass_of_methodNamed B.named
  have hent := lv_entry As (n := mL) hn
  rw [lg_entry_eq]
  exact body (p, l, e, (headSpec (gw y cc mL rt) (gR lvl mc ms)).room, s, m, As.toArray, below, meth, c) rfl ⟨B.exec, B.bytes, hml, hown, fun w hw => hts w (List.mem_cons_of_mem _ hw), hV, B.notSynchronized, B.returns, (name_of_methodNamed B.named B.method).1, rfl⟩ s.heap [] _ hH va_S.rf ⟨hent.1.trans hlv.symm, hent.2.1, fun i v hi => hent.2.2 (i, v) (hl i v hi)⟩
section G2
variable {own : String} {cc : ByteArray} {nL : Nat} {rt : Option FieldType} {nm : String} {R : Room} {d : gD} {b : Nat} {X : gX} {F : gM} {k n pc : Nat} {lv : List (Option Value)} {st : List Value} {mc ms : Nat}
theorem gE_B {own : String} {cc : ByteArray} {nL : Nat} {rt : Option FieldType} {nm : String} {R : Room} (hC : gC own cc nL rt nm R d b X) {H : Heap} {locs : List Loc} (hH : gH d b F H) (hS : va_S (fun q => b ≤ q) X.st.heap H locs) {t : State} (ht : t.heap = H) (hW : X.st.WarmedH t.vm) : gB d b F t := ⟨hC.at hS ht hW, by rw [ht]; exact hH⟩
theorem g_iret {ty : FieldType} (hC : gC own cc nL (some ty) nm R d b X) {post : Int32 → gM → Prop} {v : Int32} (hn : narrow ty (.int v) = .int v) (hp : post v F) (hk : k ≤ mc) (hs : n ≤ ms) (hdg : decode cc pc = .ok (.ireturn, 1)) : gG X d b (MQ X.be (va_Qi post (gB d b) (fun q => b ≤ q)) X.ar X.st mc ms (fun q => b ≤ q)) F k n pc lv [.int v] := fun H locs ls hH hS hL =>
  W.widen hk hs (W.zret (v := v) hC.hx hC.hb hC.hrt hn (fun t ht hW => ⟨⟨v, F, rfl, hp, gE_B hC hH hS ht hW⟩, hS.F ht⟩) hS.2.2 hdg hC.hlk)
theorem g_vret (hC : gC own cc nL none nm R d b X) {post : gM → Prop} (hp : post F) (hk : k ≤ mc) (hs : n ≤ ms) (hdg : decode cc pc = .ok (.return_, 1)) : gG X d b (MQ X.be (va_Qv post (gB d b) (fun q => b ≤ q)) X.ar X.st mc ms (fun q => b ≤ q)) F k n pc lv [] := fun H locs ls hH hS hL =>
  W.widen hk hs (W.vret hC.hx hC.hb hC.hrt (fun t ht hW => ⟨⟨F, rfl, hp, gE_B hC hH hS ht hW⟩, hS.F ht⟩) hS.2.2 hdg hC.hlk)
theorem g_lret (hC : gC own cc nL (some .long) nm R d b X) {post : Int64 → gM → Prop} {v : Int64} (hp : post v F) (hk : k ≤ mc) (hs : n ≤ ms) (hdg : decode cc pc = .ok (.lreturn, 1)) : gG X d b (MQ X.be (va_Ql post (gB d b) (fun q => b ≤ q)) X.ar X.st mc ms (fun q => b ≤ q)) F k n pc lv [.long v] := fun H locs ls hH hS hL =>
  W.widen hk hs (W.lret (v := v) hC.hx hC.hb hC.hrt (fun t ht hW => ⟨⟨v, F, rfl, hp, gE_B hC hH hS ht hW⟩, hS.F ht⟩) hS.2.2 hdg hC.hlk)
theorem g_aret {rt0 : FieldType} (hC : gC own cc nL (some rt0) nm R d b X) {post : Option Nat → gM → Prop} {v : Option Nat} (hrt : (∃ n, rt0 = .object n) ∨ ∃ t, rt0 = .array t) (hp : post v F) (hk : k ≤ mc) (hs : n ≤ ms) (hdg : decode cc pc = .ok (.areturn, 1)) : gG X d b (MQ X.be (va_Qq post (gB d b) (fun q => b ≤ q)) X.ar X.st mc ms (fun q => b ≤ q)) F k n pc lv [va_rf v] := fun H locs ls hH hS hL =>
  W.widen hk hs (W.aret (v := va_rf v) hC.hx hC.hb hC.hrt hrt (va_rf_or v) (fun t ht hW => ⟨⟨v, F, rfl, hp, gE_B hC hH hS ht hW⟩, hS.F ht⟩) hS.2.2 hdg hC.hlk)
/-- links of calls -/
def gCV (own : String) (idx : Nat) (y : MethodName) (cc : ByteArray) (mL : Nat) (rt : Option FieldType) (nA : Nat) : Prop := GoodIn gWs (wsV own idx y.cls y (gw y cc mL rt)) ∧ (y.cls = y.cls ∧ y.cls ≠ "java/lang/invoke/MethodHandle" ∧ y.cls ≠ "java/lang/invoke/VarHandle" ∧ (parseMethodDescriptor y.desc).map (fun d => d.parameters.length) = some nA)
def gCI (own : String) (idx : Nat) (y : MethodName) (cc : ByteArray) (mL : Nat) (nA : Nat) : Prop := GoodIn gWs (gw y cc mL none) ∧ Cond.initialized y.cls ∈ gWs ∧ Cond.methodLink own idx y ∈ gWs ∧ Cond.instanceMethod y ∈ gWs ∧ y.name = "<init>" ∧ (y.cls ≠ "java/lang/invoke/MethodHandle" ∧ y.cls ≠ "java/lang/invoke/VarHandle" ∧ (parseMethodDescriptor y.desc).map (fun d => d.parameters.length) = some nA)
def gCS (own : String) (idx : Nat) (y : MethodName) (cc : ByteArray) (mL : Nat) (rt : Option FieldType) (nA : Nat) : Prop := GoodIn gWs (va_wsS own idx y (gw y cc mL rt)) ∧ (y.cls ≠ "java/lang/invoke/MethodHandle" ∧ y.cls ≠ "java/lang/invoke/VarHandle" ∧ (parseMethodDescriptor y.desc).map (fun d => d.parameters.length) = some nA)
/-- of nest mates: the place in gNs -/
def gCIN (own : String) (idx i : Nat) (y : MethodName) (cc : ByteArray) (mL : Nat) (nA : Nat) : Prop := ∃ host : String, gNs[i]? = some (own, idx, y, host) ∧ GoodIn gWs (gw y cc mL none) ∧ Cond.initialized y.cls ∈ gWs ∧ Cond.instanceMethod y ∈ gWs ∧ y.name = "<init>" ∧ (y.cls ≠ "java/lang/invoke/MethodHandle" ∧ y.cls ≠ "java/lang/invoke/VarHandle" ∧ (parseMethodDescriptor y.desc).map (fun d => d.parameters.length) = some nA)
def gCSN (own : String) (idx i : Nat) (y : MethodName) (cc : ByteArray) (mL : Nat) (rt : Option FieldType) (nA : Nat) : Prop := ∃ host : String, gNs[i]? = some (own, idx, y, host) ∧ GoodIn gWs (gw y cc mL rt) ∧ Cond.initialized y.cls ∈ gWs ∧ Cond.static y ∈ gWs ∧ (y.cls ≠ "java/lang/invoke/MethodHandle" ∧ y.cls ≠ "java/lang/invoke/VarHandle" ∧ (parseMethodDescriptor y.desc).map (fun d => d.parameters.length) = some nA)
/-- a callee's room in the caller's -/
def gFit (R : Room) (lvl mL k n mc ms : Nat) : Prop := (lvl + 1 ≤ R.frames ∧ 8 + (mL + 11) + 64 * lvl ≤ R.locals) ∧ k + mc ≤ R.cells ∧ n + ms ≤ R.slots
theorem g_recv {ci a : Nat} {C : String} {T : u_T} {N : Nat} {v0 : Value} {fs : List Value} (hC : gC own cc nL rt nm R d b X) (hc : vwCl[ci]? = some (C, T, N)) (hF : F a = .inr (ci, v0 :: fs)) {H : Heap} (hH : gH d b F H) : ∃ cell : Cell, H[a]? = some cell ∧ cell.vm.isStatics = false ∧ X.st.vm.findClass C = some cell.cls := by
  obtain ⟨L, hP, hD, h0⟩ := hH
  obtain ⟨q, hm, hq⟩ := gH.at (d := d) (b := b) (H := H) h0 hF g0_o
  exact va_recv hC.hv.2.1 hP hc hq

theorem g_callVv {Q : State → Prop} (hC : gC own cc nL rt nm R d b X) {y : MethodName} {c2 : ByteArray} {mL nA lvl idx : Nat} {As : List Value} {post : gM → Prop} {a ci N : Nat} {T : u_T} {v0 : Value} {fs : List Value} (hc : vwCl[ci]? = some (y.cls, T, N)) (hF : F a = .inr (ci, v0 :: fs)) (hm : gMv X.la d b y c2 mL lvl mc ms F (.ref a :: As) post) (hl : gCV own idx y c2 mL none nA) (hA : As.length = nA) (hn : nL = lv.length) (hr : (st.map fun v => v.category).sum ≤ 8) (hf : gFit R lvl mL k n mc ms) (hdg : decode cc pc = .ok (.invokevirtual idx, 3)) (kk : ∀ F' : gM, post F' → gG X d b Q F' (k + mc) (n + ms) (pc + 3) lv st) : gG X d b Q F k n pc lv (As.reverse ++ .ref a :: st) := fun H locs ls hH hS hL => by
  exact va_callv (va_runV (As := As) (rest := st) ⟨hC.hx, hC.hb, hC.hml, hC.how, hC.hts⟩ hm (cwV nA hC.hts hl.1 rfl rfl rfl hl.2 (by rw [hC.hR]; exact hf.1)) ⟨gB.blind, g_recv hC hc hF hH, fun U hU hW => ⟨rfl, gE_B hC hH hS hU hW⟩⟩ rfl hA (hL.1.trans hn.symm) rfl (lv_room hr) hdg (by rw [hC.hR]; exact hf.2)) hS (fun q _ h => h) (fun q h => h) (fun u t H1 locs1 ht hvm hp hB hz hk1 hS1 => kk u hp H1 locs1 ls (by rw [← ht]; exact hB.2) hS1 hL)
theorem g_callSv {Q : State → Prop} (hC : gC own cc nL rt nm R d b X) {y : MethodName} {c2 : ByteArray} {mL nA lvl idx : Nat} {As : List Value} {post : gM → Prop} (hm : gMv X.la d b y c2 mL lvl mc ms F As post) (hl : gCS own idx y c2 mL none nA) (hA : As.length = nA) (hn : nL = lv.length) (hr : (st.map fun v => v.category).sum ≤ 8) (hf : gFit R lvl mL k n mc ms) (hdg : decode cc pc = .ok (.invokestatic idx, 3)) (kk : ∀ F' : gM, post F' → gG X d b Q F' (k + mc) (n + ms) (pc + 3) lv st) : gG X d b Q F k n pc lv (As.reverse ++ st) := fun H locs ls hH hS hL => by
  exact va_callv (va_runS (As := As) (rest := st) ⟨hC.hx, hC.hb, hC.hml, hC.how, hC.hts⟩ hm (va_cwS nA hC.hts hl.1 rfl rfl rfl hl.2 (by rw [hC.hR]; exact hf.1)) ⟨gB.blind, fun U hU hW => ⟨rfl, gE_B hC hH hS hU hW⟩⟩ rfl hA (hL.1.trans hn.symm) rfl (lv_room hr) hdg (by rw [hC.hR]; exact hf.2)) hS (fun q _ h => h) (fun q h => h) (fun u t H1 locs1 ht hvm hp hB hz hk1 hS1 => kk u hp H1 locs1 ls (by rw [← ht]; exact hB.2) hS1 hL)
theorem g_callIv {Q : State → Prop} (hC : gC own cc nL rt nm R d b X) {y : MethodName} {c2 : ByteArray} {mL nA lvl idx : Nat} {As : List Value} {post : gM → Prop} {a : Nat} (hm : gMv X.la d b y c2 mL lvl mc ms F (.ref a :: As) post) (hl : gCI own idx y c2 mL nA) (hA : As.length = nA) (hn : nL = lv.length) (hr : (st.map fun v => v.category).sum ≤ 8) (hf : gFit R lvl mL k n mc ms) (hdg : decode cc pc = .ok (.invokespecial idx, 3)) (kk : ∀ F' : gM, post F' → gG X d b Q F' (k + mc) (n + ms) (pc + 3) lv st) : gG X d b Q F k n pc lv (As.reverse ++ .ref a :: st) := fun H locs ls hH hS hL => by
  exact va_callv (va_runI (As := As) (rest := st) ⟨hC.hx, hC.hb, hC.hml, hC.how, hC.hts⟩ hm (cwI nA hC.hts hl.1 rfl rfl rfl (hC.hts _ hl.2.1) (hC.hts _ hl.2.2.1) (hC.hts _ hl.2.2.2.1) hl.2.2.2.2.1 hl.2.2.2.2.2 (by rw [hC.hR]; exact hf.1)) ⟨gB.blind, fun U hU hW => ⟨rfl, gE_B hC hH hS hU hW⟩⟩ rfl hA (hL.1.trans hn.symm) rfl (lv_room hr) hdg (by rw [hC.hR]; exact hf.2)) hS (fun q _ h => h) (fun q h => h) (fun u t H1 locs1 ht hvm hp hB hz hk1 hS1 => kk u hp H1 locs1 ls (by rw [← ht]; exact hB.2) hS1 hL)
theorem g_callINv {Q : State → Prop} (hC : gC own cc nL rt nm R d b X) {y : MethodName} {c2 : ByteArray} {mL nA lvl idx : Nat} {ni : Nat} {As : List Value} {post : gM → Prop} {a : Nat} (hm : gMv X.la d b y c2 mL lvl mc ms F (.ref a :: As) post) (hl : gCIN own idx ni y c2 mL nA) (hA : As.length = nA) (hn : nL = lv.length) (hr : (st.map fun v => v.category).sum ≤ 8) (hf : gFit R lvl mL k n mc ms) (hdg : decode cc pc = .ok (.invokespecial idx, 3)) (kk : ∀ F' : gM, post F' → gG X d b Q F' (k + mc) (n + ms) (pc + 3) lv st) : gG X d b Q F k n pc lv (As.reverse ++ .ref a :: st) := fun H locs ls hH hS hL => by
  obtain ⟨host, z1, z2, z3, z4, z5, z6⟩ := hl
  exact va_callv (va_runIN (As := As) (rest := st) ⟨hC.hx, hC.hb, hC.hml, hC.how, hC.hts⟩ hm ⟨va_cnB nA hC.hts z2 rfl rfl rfl (hC.hv.2.2.1 _ (List.mem_of_getElem? z1)) (hC.hts _ z3) z6 (by rw [hC.hR]; exact hf.1), z5, hC.hts _ z4⟩ ⟨gB.blind, fun U hU hW => ⟨rfl, gE_B hC hH hS hU hW⟩⟩ rfl hA (hL.1.trans hn.symm) rfl (lv_room hr) hdg (by rw [hC.hR]; exact hf.2)) hS (fun q _ h => h) (fun q h => h) (fun u t H1 locs1 ht hvm hp hB hz hk1 hS1 => kk u hp H1 locs1 ls (by rw [← ht]; exact hB.2) hS1 hL)
theorem g_callSNv {Q : State → Prop} (hC : gC own cc nL rt nm R d b X) {y : MethodName} {c2 : ByteArray} {mL nA lvl idx : Nat} {ni : Nat} {As : List Value} {post : gM → Prop} (hm : gMv X.la d b y c2 mL lvl mc ms F As post) (hl : gCSN own idx ni y c2 mL none nA) (hA : As.length = nA) (hn : nL = lv.length) (hr : (st.map fun v => v.category).sum ≤ 8) (hf : gFit R lvl mL k n mc ms) (hdg : decode cc pc = .ok (.invokestatic idx, 3)) (kk : ∀ F' : gM, post F' → gG X d b Q F' (k + mc) (n + ms) (pc + 3) lv st) : gG X d b Q F k n pc lv (As.reverse ++ st) := fun H locs ls hH hS hL => by
  obtain ⟨host, z1, z2, z3, z4, z5⟩ := hl
  exact va_callv (va_runSN (As := As) (rest := st) ⟨hC.hx, hC.hb, hC.hml, hC.how, hC.hts⟩ hm ⟨va_cnB nA hC.hts z2 rfl rfl rfl (hC.hv.2.2.1 _ (List.mem_of_getElem? z1)) (hC.hts _ z3) z5 (by rw [hC.hR]; exact hf.1), hC.hts _ z4, trivial⟩ ⟨gB.blind, fun U hU hW => ⟨rfl, gE_B hC hH hS hU hW⟩⟩ rfl hA (hL.1.trans hn.symm) rfl (lv_room hr) hdg (by rw [hC.hR]; exact hf.2)) hS (fun q _ h => h) (fun q h => h) (fun u t H1 locs1 ht hvm hp hB hz hk1 hS1 => kk u hp H1 locs1 ls (by rw [← ht]; exact hB.2) hS1 hL)
theorem g_callVi {Q : State → Prop} (hC : gC own cc nL rt nm R d b X) {y : MethodName} {c2 : ByteArray} {mL nA lvl idx : Nat} {rt0 : FieldType} {As : List Value} {post : Int32 → gM → Prop} {a ci N : Nat} {T : u_T} {v0 : Value} {fs : List Value} (hc : vwCl[ci]? = some (y.cls, T, N)) (hF : F a = .inr (ci, v0 :: fs)) (hm : gMi X.la d b y c2 mL rt0 lvl mc ms F (.ref a :: As) post) (hl : gCV own idx y c2 mL (some rt0) nA) (hA : As.length = nA) (hn : nL = lv.length) (hr : (st.map fun v => v.category).sum ≤ 8) (hf : gFit R lvl mL k n mc ms) (hdg : decode cc pc = .ok (.invokevirtual idx, 3)) (kk : ∀ (r : Int32) (F' : gM), post r F' → gG X d b Q F' (k + mc) (n + ms) (pc + 3) lv (.int r :: st)) : gG X d b Q F k n pc lv (As.reverse ++ .ref a :: st) := fun H locs ls hH hS hL => by
  exact va_calli (va_runV (As := As) (rest := st) ⟨hC.hx, hC.hb, hC.hml, hC.how, hC.hts⟩ hm (cwV nA hC.hts hl.1 rfl rfl rfl hl.2 (by rw [hC.hR]; exact hf.1)) ⟨gB.blind, g_recv hC hc hF hH, fun U hU hW => ⟨rfl, gE_B hC hH hS hU hW⟩⟩ rfl hA (hL.1.trans hn.symm) rfl (lv_room hr) hdg (by rw [hC.hR]; exact hf.2)) hS (fun q _ h => h) (fun q h => h) (fun r u t H1 locs1 ht hvm hp hB hz hk1 hS1 => kk r u hp H1 locs1 ls (by rw [← ht]; exact hB.2) hS1 hL)
theorem g_callSi {Q : State → Prop} (hC : gC own cc nL rt nm R d b X) {y : MethodName} {c2 : ByteArray} {mL nA lvl idx : Nat} {rt0 : FieldType} {As : List Value} {post : Int32 → gM → Prop} (hm : gMi X.la d b y c2 mL rt0 lvl mc ms F As post) (hl : gCS own idx y c2 mL (some rt0) nA) (hA : As.length = nA) (hn : nL = lv.length) (hr : (st.map fun v => v.category).sum ≤ 8) (hf : gFit R lvl mL k n mc ms) (hdg : decode cc pc = .ok (.invokestatic idx, 3)) (kk : ∀ (r : Int32) (F' : gM), post r F' → gG X d b Q F' (k + mc) (n + ms) (pc + 3) lv (.int r :: st)) : gG X d b Q F k n pc lv (As.reverse ++ st) := fun H locs ls hH hS hL => by
  exact va_calli (va_runS (As := As) (rest := st) ⟨hC.hx, hC.hb, hC.hml, hC.how, hC.hts⟩ hm (va_cwS nA hC.hts hl.1 rfl rfl rfl hl.2 (by rw [hC.hR]; exact hf.1)) ⟨gB.blind, fun U hU hW => ⟨rfl, gE_B hC hH hS hU hW⟩⟩ rfl hA (hL.1.trans hn.symm) rfl (lv_room hr) hdg (by rw [hC.hR]; exact hf.2)) hS (fun q _ h => h) (fun q h => h) (fun r u t H1 locs1 ht hvm hp hB hz hk1 hS1 => kk r u hp H1 locs1 ls (by rw [← ht]; exact hB.2) hS1 hL)
theorem g_callSNi {Q : State → Prop} (hC : gC own cc nL rt nm R d b X) {y : MethodName} {c2 : ByteArray} {mL nA lvl idx : Nat} {rt0 : FieldType} {ni : Nat} {As : List Value} {post : Int32 → gM → Prop} (hm : gMi X.la d b y c2 mL rt0 lvl mc ms F As post) (hl : gCSN own idx ni y c2 mL (some rt0) nA) (hA : As.length = nA) (hn : nL = lv.length) (hr : (st.map fun v => v.category).sum ≤ 8) (hf : gFit R lvl mL k n mc ms) (hdg : decode cc pc = .ok (.invokestatic idx, 3)) (kk : ∀ (r : Int32) (F' : gM), post r F' → gG X d b Q F' (k + mc) (n + ms) (pc + 3) lv (.int r :: st)) : gG X d b Q F k n pc lv (As.reverse ++ st) := fun H locs ls hH hS hL => by
  obtain ⟨host, z1, z2, z3, z4, z5⟩ := hl
  exact va_calli (va_runSN (As := As) (rest := st) ⟨hC.hx, hC.hb, hC.hml, hC.how, hC.hts⟩ hm ⟨va_cnB nA hC.hts z2 rfl rfl rfl (hC.hv.2.2.1 _ (List.mem_of_getElem? z1)) (hC.hts _ z3) z5 (by rw [hC.hR]; exact hf.1), hC.hts _ z4, trivial⟩ ⟨gB.blind, fun U hU hW => ⟨rfl, gE_B hC hH hS hU hW⟩⟩ rfl hA (hL.1.trans hn.symm) rfl (lv_room hr) hdg (by rw [hC.hR]; exact hf.2)) hS (fun q _ h => h) (fun q h => h) (fun r u t H1 locs1 ht hvm hp hB hz hk1 hS1 => kk r u hp H1 locs1 ls (by rw [← ht]; exact hB.2) hS1 hL)
theorem g_callVl {Q : State → Prop} (hC : gC own cc nL rt nm R d b X) {y : MethodName} {c2 : ByteArray} {mL nA lvl idx : Nat} {As : List Value} {post : Int64 → gM → Prop} {a ci N : Nat} {T : u_T} {v0 : Value} {fs : List Value} (hc : vwCl[ci]? = some (y.cls, T, N)) (hF : F a = .inr (ci, v0 :: fs)) (hm : gMl X.la d b y c2 mL lvl mc ms F (.ref a :: As) post) (hl : gCV own idx y c2 mL (some .long) nA) (hA : As.length = nA) (hn : nL = lv.length) (hr : (st.map fun v => v.category).sum ≤ 8) (hf : gFit R lvl mL k n mc ms) (hdg : decode cc pc = .ok (.invokevirtual idx, 3)) (kk : ∀ (r : Int64) (F' : gM), post r F' → gG X d b Q F' (k + mc) (n + ms) (pc + 3) lv (.long r :: st)) : gG X d b Q F k n pc lv (As.reverse ++ .ref a :: st) := fun H locs ls hH hS hL => by
  exact va_calll (va_runV (As := As) (rest := st) ⟨hC.hx, hC.hb, hC.hml, hC.how, hC.hts⟩ hm (cwV nA hC.hts hl.1 rfl rfl rfl hl.2 (by rw [hC.hR]; exact hf.1)) ⟨gB.blind, g_recv hC hc hF hH, fun U hU hW => ⟨rfl, gE_B hC hH hS hU hW⟩⟩ rfl hA (hL.1.trans hn.symm) rfl (lv_room hr) hdg (by rw [hC.hR]; exact hf.2)) hS (fun q _ h => h) (fun q h => h) (fun r u t H1 locs1 ht hvm hp hB hz hk1 hS1 => kk r u hp H1 locs1 ls (by rw [← ht]; exact hB.2) hS1 hL)
theorem g_callSl {Q : State → Prop} (hC : gC own cc nL rt nm R d b X) {y : MethodName} {c2 : ByteArray} {mL nA lvl idx : Nat} {As : List Value} {post : Int64 → gM → Prop} (hm : gMl X.la d b y c2 mL lvl mc ms F As post) (hl : gCS own idx y c2 mL (some .long) nA) (hA : As.length = nA) (hn : nL = lv.length) (hr : (st.map fun v => v.category).sum ≤ 8) (hf : gFit R lvl mL k n mc ms) (hdg : decode cc pc = .ok (.invokestatic idx, 3)) (kk : ∀ (r : Int64) (F' : gM), post r F' → gG X d b Q F' (k + mc) (n + ms) (pc + 3) lv (.long r :: st)) : gG X d b Q F k n pc lv (As.reverse ++ st) := fun H locs ls hH hS hL => by
  exact va_calll (va_runS (As := As) (rest := st) ⟨hC.hx, hC.hb, hC.hml, hC.how, hC.hts⟩ hm (va_cwS nA hC.hts hl.1 rfl rfl rfl hl.2 (by rw [hC.hR]; exact hf.1)) ⟨gB.blind, fun U hU hW => ⟨rfl, gE_B hC hH hS hU hW⟩⟩ rfl hA (hL.1.trans hn.symm) rfl (lv_room hr) hdg (by rw [hC.hR]; exact hf.2)) hS (fun q _ h => h) (fun q h => h) (fun r u t H1 locs1 ht hvm hp hB hz hk1 hS1 => kk r u hp H1 locs1 ls (by rw [← ht]; exact hB.2) hS1 hL)
theorem g_callSNl {Q : State → Prop} (hC : gC own cc nL rt nm R d b X) {y : MethodName} {c2 : ByteArray} {mL nA lvl idx : Nat} {ni : Nat} {As : List Value} {post : Int64 → gM → Prop} (hm : gMl X.la d b y c2 mL lvl mc ms F As post) (hl : gCSN own idx ni y c2 mL (some .long) nA) (hA : As.length = nA) (hn : nL = lv.length) (hr : (st.map fun v => v.category).sum ≤ 8) (hf : gFit R lvl mL k n mc ms) (hdg : decode cc pc = .ok (.invokestatic idx, 3)) (kk : ∀ (r : Int64) (F' : gM), post r F' → gG X d b Q F' (k + mc) (n + ms) (pc + 3) lv (.long r :: st)) : gG X d b Q F k n pc lv (As.reverse ++ st) := fun H locs ls hH hS hL => by
  obtain ⟨host, z1, z2, z3, z4, z5⟩ := hl
  exact va_calll (va_runSN (As := As) (rest := st) ⟨hC.hx, hC.hb, hC.hml, hC.how, hC.hts⟩ hm ⟨va_cnB nA hC.hts z2 rfl rfl rfl (hC.hv.2.2.1 _ (List.mem_of_getElem? z1)) (hC.hts _ z3) z5 (by rw [hC.hR]; exact hf.1), hC.hts _ z4, trivial⟩ ⟨gB.blind, fun U hU hW => ⟨rfl, gE_B hC hH hS hU hW⟩⟩ rfl hA (hL.1.trans hn.symm) rfl (lv_room hr) hdg (by rw [hC.hR]; exact hf.2)) hS (fun q _ h => h) (fun q h => h) (fun r u t H1 locs1 ht hvm hp hB hz hk1 hS1 => kk r u hp H1 locs1 ls (by rw [← ht]; exact hB.2) hS1 hL)
theorem g_callVq {Q : State → Prop} (hC : gC own cc nL rt nm R d b X) {y : MethodName} {c2 : ByteArray} {mL nA lvl idx : Nat} {rt0 : FieldType} {As : List Value} {post : Option Nat → gM → Prop} {a ci N : Nat} {T : u_T} {v0 : Value} {fs : List Value} (hc : vwCl[ci]? = some (y.cls, T, N)) (hF : F a = .inr (ci, v0 :: fs)) (hm : gMq X.la d b y c2 mL rt0 lvl mc ms F (.ref a :: As) post) (hl : gCV own idx y c2 mL (some rt0) nA) (hA : As.length = nA) (hn : nL = lv.length) (hr : (st.map fun v => v.category).sum ≤ 8) (hf : gFit R lvl mL k n mc ms) (hdg : decode cc pc = .ok (.invokevirtual idx, 3)) (kk : ∀ (r : Option Nat) (F' : gM), post r F' → gG X d b Q F' (k + mc) (n + ms) (pc + 3) lv (va_rf r :: st)) : gG X d b Q F k n pc lv (As.reverse ++ .ref a :: st) := fun H locs ls hH hS hL => by
  exact va_callq (va_runV (As := As) (rest := st) ⟨hC.hx, hC.hb, hC.hml, hC.how, hC.hts⟩ hm (cwV nA hC.hts hl.1 rfl rfl rfl hl.2 (by rw [hC.hR]; exact hf.1)) ⟨gB.blind, g_recv hC hc hF hH, fun U hU hW => ⟨rfl, gE_B hC hH hS hU hW⟩⟩ rfl hA (hL.1.trans hn.symm) rfl (lv_room hr) hdg (by rw [hC.hR]; exact hf.2)) hS (fun q _ h => h) (fun q h => h) (fun r u t H1 locs1 ht hvm hp hB hz hk1 hS1 => kk r u hp H1 locs1 ls (by rw [← ht]; exact hB.2) hS1 hL)
theorem g_callSq {Q : State → Prop} (hC : gC own cc nL rt nm R d b X) {y : MethodName} {c2 : ByteArray} {mL nA lvl idx : Nat} {rt0 : FieldType} {As : List Value} {post : Option Nat → gM → Prop} (hm : gMq X.la d b y c2 mL rt0 lvl mc ms F As post) (hl : gCS own idx y c2 mL (some rt0) nA) (hA : As.length = nA) (hn : nL = lv.length) (hr : (st.map fun v => v.category).sum ≤ 8) (hf : gFit R lvl mL k n mc ms) (hdg : decode cc pc = .ok (.invokestatic idx, 3)) (kk : ∀ (r : Option Nat) (F' : gM), post r F' → gG X d b Q F' (k + mc) (n + ms) (pc + 3) lv (va_rf r :: st)) : gG X d b Q F k n pc lv (As.reverse ++ st) := fun H locs ls hH hS hL => by
  exact va_callq (va_runS (As := As) (rest := st) ⟨hC.hx, hC.hb, hC.hml, hC.how, hC.hts⟩ hm (va_cwS nA hC.hts hl.1 rfl rfl rfl hl.2 (by rw [hC.hR]; exact hf.1)) ⟨gB.blind, fun U hU hW => ⟨rfl, gE_B hC hH hS hU hW⟩⟩ rfl hA (hL.1.trans hn.symm) rfl (lv_room hr) hdg (by rw [hC.hR]; exact hf.2)) hS (fun q _ h => h) (fun q h => h) (fun r u t H1 locs1 ht hvm hp hB hz hk1 hS1 => kk r u hp H1 locs1 ls (by rw [← ht]; exact hB.2) hS1 hL)
theorem g_callSNq {Q : State → Prop} (hC : gC own cc nL rt nm R d b X) {y : MethodName} {c2 : ByteArray} {mL nA lvl idx : Nat} {rt0 : FieldType} {ni : Nat} {As : List Value} {post : Option Nat → gM → Prop} (hm : gMq X.la d b y c2 mL rt0 lvl mc ms F As post) (hl : gCSN own idx ni y c2 mL (some rt0) nA) (hA : As.length = nA) (hn : nL = lv.length) (hr : (st.map fun v => v.category).sum ≤ 8) (hf : gFit R lvl mL k n mc ms) (hdg : decode cc pc = .ok (.invokestatic idx, 3)) (kk : ∀ (r : Option Nat) (F' : gM), post r F' → gG X d b Q F' (k + mc) (n + ms) (pc + 3) lv (va_rf r :: st)) : gG X d b Q F k n pc lv (As.reverse ++ st) := fun H locs ls hH hS hL => by
  obtain ⟨host, z1, z2, z3, z4, z5⟩ := hl
  exact va_callq (va_runSN (As := As) (rest := st) ⟨hC.hx, hC.hb, hC.hml, hC.how, hC.hts⟩ hm ⟨va_cnB nA hC.hts z2 rfl rfl rfl (hC.hv.2.2.1 _ (List.mem_of_getElem? z1)) (hC.hts _ z3) z5 (by rw [hC.hR]; exact hf.1), hC.hts _ z4, trivial⟩ ⟨gB.blind, fun U hU hW => ⟨rfl, gE_B hC hH hS hU hW⟩⟩ rfl hA (hL.1.trans hn.symm) rfl (lv_room hr) hdg (by rw [hC.hR]; exact hf.2)) hS (fun q _ h => h) (fun q h => h) (fun r u t H1 locs1 ht hvm hp hB hz hk1 hS1 => kk r u hp H1 locs1 ls (by rw [← ht]; exact hB.2) hS1 hL)
end G2
end
section
theorem kw_247 : Cond.initialized "java/lang/Math" ∈ gWs := gWm 247 (by decide +kernel) rfl
theorem kw_446 : Cond.static Lib.Math.min.name ∈ gWs := gWm 446 (by decide +kernel) rfl
theorem kw_447 : Cond.code Lib.Math.min.name Lib.Math.min.code 2 (some .int) ∈ gWs := gWm 447 (by decide +kernel) rfl
theorem kw_449 : Cond.static Lib.Math.max.name ∈ gWs := gWm 449 (by decide +kernel) rfl
theorem kw_450 : Cond.code Lib.Math.max.name Lib.Math.max.code 2 (some .int) ∈ gWs := gWm 450 (by decide +kernel) rfl
theorem kw_464 : Cond.native arraycopyName ∈ gWs := gWm 464 (by decide +kernel) rfl
theorem kw_463 : Cond.static arraycopyName ∈ gWs := gWm 463 (by decide +kernel) rfl
theorem kw_249 : Cond.initialized "java/lang/System" ∈ gWs := gWm 249 (by decide +kernel) rfl
theorem gne {F : gM} {x a : Nat} {e1 e2 : va_E} (h1 : F x = e1) (h2 : F a = e2) (h : e1 ≠ e2) : x ≠ a := fun z => h (by rw [← h1, ← h2, z])
theorem gk_oa {c : Nat} {l : List Value} {z : ClassId × vp_A} : (.inr (c, l) : va_E) ≠ .inl z := fun h => by cases h
theorem gk_ao {c : Nat} {l : List Value} {z : ClassId × vp_A} : (.inl z : va_E) ≠ .inr (c, l) := fun h => by cases h
theorem gk_oo {c1 c2 : Nat} {l1 l2 : List Value} (h : (c1 == c2) = false) : (.inr (c1, l1) : va_E) ≠ .inr (c2, l2) := fun z => by
  have h1 : c1 = c2 := congrArg (fun e : va_E => match e with | .inr q => q.1 | .inl _ => 0) z
  rw [h1] at h
  simp at h
theorem gRc {a L MC MS : Nat} (h : a ≤ MC) : a ≤ (gR L MC MS).cells := h
theorem gRs {a L MC MS : Nat} (h : a ≤ MS) : a ≤ (gR L MC MS).slots := h
theorem gFit_of {L MC MS lvl mL k n mc ms : Nat} (h1 : lvl + 1 ≤ L) (h2 : mL ≤ 40) (h3 : k + mc ≤ MC) (h4 : n + ms ≤ MS) : gFit (gR L MC MS) lvl mL k n mc ms := ⟨⟨h1, by show 8 + (mL + 11) + 64 * lvl ≤ 64 * L; omega⟩, h3, h4⟩
theorem gFit_add {L MC MS lvl mL k n mc ms : Nat} (h1 : lvl + 1 ≤ L) (h2 : mL ≤ 40) (e1 : mc = 0) (e2 : ms = 0) (h3 : k ≤ MC) (h4 : n ≤ MS) : gFit (gR L MC MS) lvl mL k n mc ms := by subst e1; subst e2; exact gFit_of h1 h2 h3 h4
theorem g_mk {ws : List Cond} (hd : List Cond) (h : GoodIn gWs ws) (hm : ∀ w ∈ hd, w ∈ gWs) : GoodIn gWs (hd ++ ws) := fun w hw => (List.mem_append.mp hw).elim (fun q => ⟨hm w q, good_of_word (gWs_good w (hm w q))⟩) (h w)
/-- a method's locals at its entry -/
def gOf : List Value → List (Option Value)
  | [] => []
  | v :: vs => if v.category = 2 then some v :: none :: gOf vs else some v :: gOf vs
theorem gOf_len : ∀ vs : List Value, (gOf vs).length = (lg_sl vs).length
  | [] => rfl
  | v :: vs => by
    have h := gOf_len vs
    unfold lg_sl at h ⊢
    rw [List.flatMap_cons]
    by_cases hc : v.category = 2
    · simp [gOf, hc, h]
    · simp [gOf, hc, h]
theorem gOf_mem : ∀ (vs : List Value) (k i : Nat) (v : Value), (gOf vs)[i]? = some (some v) → (k + i, v) ∈ lv_args k vs
  | [], _, _, _, h => by simp [gOf] at h
  | u :: vs, k, i, v, h => by
    by_cases hc : u.category = 2
    · rw [gOf, if_pos hc] at h
      rw [lv_args, if_pos hc]
      match i, h with
      | 0, h => cases h; exact List.mem_cons_self
      | 1, h => cases h
      | i + 2, h =>
        have h2 := gOf_mem vs (k + 2) i v h
        rw [show k + 2 + i = k + (i + 2) by omega] at h2
        exact List.mem_cons_of_mem _ h2
    · rw [gOf, if_neg hc] at h
      rw [lv_args, if_neg hc]
      match i, h with
      | 0, h => cases h; exact List.mem_cons_self
      | i + 1, h =>
        have h2 := gOf_mem vs (k + 1) i v h
        rw [show k + 1 + i = k + (i + 1) by omega] at h2
        exact List.mem_cons_of_mem _ h2
def gEnt (As : List Value) (nL : Nat) : List (Option Value) := gOf As ++ List.replicate (nL - (gOf As).length) none
theorem gEnt_L {As : List Value} {nL : Nat} {ls : Array Slot} (hn : (lg_sl As).length ≤ nL) (hent : lv_has ls nL (lv_args 0 As)) : gL (gEnt As nL) ls := by
  refine ⟨?_, hent.2.1, fun i v h => ?_⟩
  · rw [hent.1]
    unfold gEnt
    rw [List.length_append, List.length_replicate, gOf_len]
    omega
  · unfold gEnt at h
    by_cases hi : i < (gOf As).length
    · rw [List.getElem?_append_left hi] at h
      have h2 := gOf_mem As 0 i v h
      rw [Nat.zero_add] at h2
      exact hent.2.2 (i, v) h2
    · rw [List.getElem?_append_right (by omega), List.getElem?_replicate] at h
      split at h <;> cases h
theorem gM_of2 {Qc : Array Value → State → Outcome → State → Prop} {l : Launch} {d : gD} {b : Nat} {y : MethodName} {cc : ByteArray} {nL : Nat} {rt : Option FieldType} {lvl mc ms : Nat} {F : gM} {As : List Value} (hy : plainName y.cls = true) (hn : (lg_sl As).length ≤ nL)
    (body : ∀ X : gX, X.la = l → gC y.cls cc nL rt y.name (gR lvl mc ms) d b X → gG X d b (MQ X.be Qc X.ar X.st mc ms (fun q => b ≤ q)) F 0 0 0 (gEnt As nL) []) : Met l y (gw y cc nL rt) (gR lvl mc ms) (va_Pc As (gB d b F)) Qc mc ms (fun q => b ≤ q) := by
  refine gM_of hy (lv := gEnt As nL) ?_ hn ?_ body
  · unfold gEnt
    rw [List.length_append, List.length_replicate, gOf_len]
    omega
  · intro i v h
    unfold gEnt at h
    by_cases hi : i < (gOf As).length
    · rw [List.getElem?_append_left hi] at h
      have h2 := gOf_mem As 0 i v h
      rw [Nat.zero_add] at h2
      exact h2
    · rw [List.getElem?_append_right (by omega), List.getElem?_replicate] at h
      split at h <;> cases h
section G3
variable {own : String} {cc : ByteArray} {nL : Nat} {rt : Option FieldType} {nm : String} {R : Room} {d : gD} {b : Nat} {X : gX} {Q : State → Prop} {F : gM} {k n pc : Nat} {lv : List (Option Value)} {st : List Value}
theorem g_vF (kk : ∀ F' : gM, F' = F → gG X d b Q F' k n pc lv st) : gG X d b Q F k n pc lv st := kk F rfl
theorem g_kn {k2 n2 : Nat} (h1 : k = k2) (h2 : n = n2) (kk : gG X d b Q F k2 n2 pc lv st) : gG X d b Q F k n pc lv st := h1 ▸ h2 ▸ kk
theorem g_max (hC : gC own cc nL rt nm R d b X) {idx : Nat} {x y : Int32} (hw : Cond.methodLink own idx Lib.Math.max.name ∈ gWs) (hn : nL = lv.length) (hR : 1 ≤ R.frames ∧ 21 ≤ R.locals) (hr : (st.map fun v => v.category).sum ≤ 8) (hk : k ≤ R.cells) (hs : n ≤ R.slots) (hdg : decode cc pc = .ok (.invokestatic idx, 3)) (kk : gG X d b Q F k n (pc + 3) lv (.int (if x < y then y else x) :: st)) : gG X d b Q F k n pc lv (.int y :: .int x :: st) := fun H locs ls hH hS hL =>
  va_mmax hC.hx hC.hb (by rw [hC.hml, hn]; exact hL.1.symm) hC.how (hC.hts _ hw) (hC.hts _ kw_449) (hC.hts _ kw_247) (hC.hts _ kw_450) (by rw [hC.hR]; exact hR.1) (by rw [hC.hR]; omega) (by rw [hC.hR]; exact hk) (by rw [hC.hR]; exact hs) hdg (kk H locs ls hH hS hL)
theorem g_min (hC : gC own cc nL rt nm R d b X) {idx : Nat} {x y : Int32} (hw : Cond.methodLink own idx Lib.Math.min.name ∈ gWs) (hn : nL = lv.length) (hR : 1 ≤ R.frames ∧ 21 ≤ R.locals) (hr : (st.map fun v => v.category).sum ≤ 8) (hk : k ≤ R.cells) (hs : n ≤ R.slots) (hdg : decode cc pc = .ok (.invokestatic idx, 3)) (kk : gG X d b Q F k n (pc + 3) lv (.int (if y < x then y else x) :: st)) : gG X d b Q F k n pc lv (.int y :: .int x :: st) := fun H locs ls hH hS hL =>
  va_mmin hC.hx hC.hb (by rw [hC.hml, hn]; exact hL.1.symm) hC.how (hC.hts _ hw) (hC.hts _ kw_446) (hC.hts _ kw_247) (hC.hts _ kw_447) (by rw [hC.hR]; exact hR.1) (by rw [hC.hR]; omega) (by rw [hC.hR]; exact hk) (by rw [hC.hR]; exact hs) hdg (kk H locs ls hH hS hL)
/-- arraycopy of ints -/
theorem g_copy (hC : gC own cc nL rt nm R d b X) {idx a a0 n0 n1 : Nat} {f g : Nat → Int32} {sp dp z : Int32} (hw : Cond.methodLink own idx arraycopyName ∈ gWs) (hn : nL = lv.length) (hF0 : F a0 = .inl (gI d, n0, .inl f)) (hF1 : F a = .inl (gI d, n1, .inl g)) (h1 : ¬ sp < 0) (h2 : ¬ dp < 0) (h3 : ¬ z < 0) (h4 : sp.toNatClampNeg + z.toNatClampNeg ≤ n0) (h5 : dp.toNatClampNeg + z.toNatClampNeg ≤ n1) (hR : 1 ≤ R.frames ∧ (st.map fun v => v.category).sum + (nativeFrameWords "java/lang/System" "arraycopy" 5 + 11) ≤ R.locals) (hdg : decode cc pc = .ok (.invokestatic idx, 3))
    (kk : gG X d b Q (va_up F a (.inl (gI d, n1, .inl (va_cpy f g sp.toNatClampNeg dp.toNatClampNeg z.toNatClampNeg)))) k n (pc + 3) lv st) : gG X d b Q F k n pc lv (.int z :: .int dp :: .ref a :: .int sp :: .ref a0 :: st) := fun H locs ls hH hS hL => by
  obtain ⟨L, hP, hD, h0⟩ := id hH
  obtain ⟨q, hm, hq⟩ := gH.at (d := d) (b := b) (H := H) h0 hF0 g0_a
  obtain ⟨q1, hm1, hq1⟩ := gH.at (d := d) (b := b) (H := H) h0 hF1 g0_a
  exact va_copyi (D := d.1) hC.hx hC.hb (by rw [hC.hml, hn]; exact hL.1.symm) hC.how (hC.hts _ hw) (hC.hts _ kw_464) (hC.hts _ kw_463) (hC.hts _ kw_249) hC.hv.2.1 hP hD hS q q1 0 0 hq hq1 rfl rfl rfl h1 h2 h3 h4 h5 (fun _ _ => rfl) (by rw [hC.hR]; exact hR.1) (by rw [hC.hR]; exact hR.2) hdg (fun H1 locs1 hP1 hD1 hS1 => kk H1 locs1 ls (gH.set h0 hm1 hD hq1 hF1 hP1 hD1) hS1 hL)
end G3
end
section
def gTw (E : String) (d : gD) (b : Nat) : String → gM → State → Prop := fun E' u t => E' = E ∧ gH d b u t.heap
/-- a contract of a method that may throw E (px: the world then) -/
def gXi (l : Launch) (d : gD) (b : Nat) (y : MethodName) (cc : ByteArray) (mL : Nat) (rt : FieldType) (lvl mc ms : Nat) (F : gM) (As : List Value) (post : Int32 → gM → Prop) (E : String) (px : gM → Prop) : Prop :=
  vx_Met l y (gw y cc mL (some rt)) (gR lvl mc ms) (va_Pc As (gB d b F)) (va_Qi post (gB d b) (fun q => b ≤ q)) (vx_X px (gTw E d b) (fun q => b ≤ q)) mc ms (fun q => b ≤ q)
def gXv (l : Launch) (d : gD) (b : Nat) (y : MethodName) (cc : ByteArray) (mL : Nat) (lvl mc ms : Nat) (F : gM) (As : List Value) (post : gM → Prop) (E : String) (px : gM → Prop) : Prop :=
  vx_Met l y (gw y cc mL none) (gR lvl mc ms) (va_Pc As (gB d b F)) (va_Qv post (gB d b) (fun q => b ≤ q)) (vx_X px (gTw E d b) (fun q => b ≤ q)) mc ms (fun q => b ≤ q)
/-- an exception of class E on its way at pc -/
def gGx (X : gX) (d : gD) (b : Nat) (Q : State → Prop) (F : gM) (k n pc : Nat) (lv : List (Option Value)) (E : String) : Prop :=
  ∀ (H : Heap) (locs : List Loc) (ls : Array Slot) (rest : List Value) (q : Addr) (ce : Cell), gH d b F H → va_S (fun q => b ≤ q) X.st.heap H locs → gL lv ls → H[q]? = some ce → ce.vm = .none → X.st.vm.findClass E = some ce.cls → vx_W X.pr X.la X.en X.rm X.st X.mi X.ar X.be X.me X.co H locs k n Q (F0 X.mi pc ls rest) q
theorem gH.kept {d : gD} {b : Nat} {F : gM} {H H1 : Heap} (h : gH d b F H) (hk : ∀ q : Nat, q < H.size → H1[q]? = H[q]?) : gH d b F H1 := by
  obtain ⟨L, hP, hD, h0⟩ := h
  exact ⟨L, hP.kept (fun k q hq => hk q.1 (hP k q hq).lt), hD, h0⟩
theorem gX_of2 {Qc : Array Value → State → Outcome → State → Prop} {XC : String → State → State → Prop} {l : Launch} {d : gD} {b : Nat} {y : MethodName} {cc : ByteArray} {nL : Nat} {rt : Option FieldType} {lvl mc ms : Nat} {F : gM} {As : List Value} (hy : plainName y.cls = true) (hn : (lg_sl As).length ≤ nL)
    (body : ∀ X : gX, X.la = l → (∀ x ∈ X.co.exceptionTable.toList, False) → gC y.cls cc nL rt y.name (gR lvl mc ms) d b X → gG X d b (vx_MQ X.be Qc XC X.ar X.st mc ms (fun q => b ≤ q)) F 0 0 0 (gEnt As nL) []) : vx_Met l y (gw y cc nL rt) (gR lvl mc ms) (va_Pc As (gB d b F)) Qc XC mc ms (fun q => b ≤ q) := by
  refine vx_ofW (cc := cc) (maxL := nL) (ret := rt) hy rfl ?_
  intro p e s m args below meth c s₁ B hml hT hv
  obtain ⟨rfl, hV, hH⟩ := hv
  have hts := atoms_spec (ws := gw y cc nL rt) B.pre
  have hown : s.vm.findClass y.cls = some m.cls := findClass_of_methodNamed B.named
  have hent := lv_entry As (n := nL) hn
  rw [lg_entry_eq]
  exact body (p, l, e, (headSpec (gw y cc nL rt) (gR lvl mc ms)).room, s, m, As.toArray, below, meth, c) rfl hT ⟨B.exec, B.bytes, hml, hown, fun w hw => hts w (List.mem_cons_of_mem _ hw), hV, B.notSynchronized, B.returns, (name_of_methodNamed B.named B.method).1, rfl⟩ s.heap [] _ hH va_S.rf (gEnt_L hn hent)
/-- a method with a table of its own that doesn't throw -/
theorem gH_of2 {Qc : Array Value → State → Outcome → State → Prop} {l : Launch} {d : gD} {b : Nat} {y : MethodName} {cc : ByteArray} {nL : Nat} {rt : Option FieldType} {hh : List (Nat × Nat × Nat × Nat)} {lvl mc ms : Nat} {F : gM} {As : List Value} (hy : plainName y.cls = true) (hn : (lg_sl As).length ≤ nL)
    (body : ∀ X : gX, X.la = l → X.co.exceptionTable.toList = tableOf hh → gC y.cls cc nL rt y.name (gR lvl mc ms) d b X → gG X d b (MQ X.be Qc X.ar X.st mc ms (fun q => b ≤ q)) F 0 0 0 (gEnt As nL) []) : Met l y (.codeWith y cc nL rt hh :: gWs) (gR lvl mc ms) (va_Pc As (gB d b F)) Qc mc ms (fun q => b ≤ q) := by
  refine va_MetW (cc := cc) (maxL := nL) (ret := rt) (hh := hh) hy rfl ?_
  intro p e s m args below meth c s₁ B hml hv
  obtain ⟨rfl, hV, hH⟩ := hv
  have hts := atoms_spec (ws := Cond.codeWith y cc nL rt hh :: gWs) B.pre
  have hT := vx_table (x := y) B (hts _ List.mem_cons_self)
  have hown : s.vm.findClass y.cls = some m.cls := findClass_of_methodNamed B.named
  have hent := lv_entry As (n := nL) hn
  rw [lg_entry_eq]
  exact body (p, l, e, (headSpec (Cond.codeWith y cc nL rt hh :: gWs) (gR lvl mc ms)).room, s, m, As.toArray, below, meth, c) rfl hT ⟨B.exec, B.bytes, hml, hown, fun w hw => hts w (List.mem_cons_of_mem _ hw), hV, B.notSynchronized, B.returns, (name_of_methodNamed B.named B.method).1, rfl⟩ s.heap [] _ hH va_S.rf (gEnt_L hn hent)
section G4
variable {own : String} {cc : ByteArray} {nL : Nat} {rt : Option FieldType} {nm : String} {R : Room} {d : gD} {b : Nat} {X : gX} {F : gM} {k n pc : Nat} {lv : List (Option Value)} {st : List Value} {mc ms : Nat} {Q : State → Prop}
theorem g_xret {Qc : Array Value → State → Outcome → State → Prop} {XC : String → State → State → Prop} (kk : gG X d b (MQ X.be Qc X.ar X.st mc ms (fun q => b ≤ q)) F k n pc lv st) : gG X d b (vx_MQ X.be Qc XC X.ar X.st mc ms (fun q => b ≤ q)) F k n pc lv st := fun H locs ls hH hS hL => vx_ret (kk H locs ls hH hS hL)
/-- it goes out -/
theorem g_xout {Qc : Array Value → State → Outcome → State → Prop} {E : String} {px : gM → Prop} (hC : gC own cc nL rt nm R d b X) (hT : ∀ x ∈ X.co.exceptionTable.toList, False) (hp : px F) (hk : k ≤ mc) (hs : n ≤ ms) : gGx X d b (vx_MQ X.be Qc (vx_X px (gTw E d b) (fun q => b ≤ q)) X.ar X.st mc ms (fun q => b ≤ q)) F k n pc lv E := fun H locs ls rest q ce hH hS hL h1 h2 h3 =>
  vx_out (fun x hx => absurd (hT x hx) id) hC.hlk h1 h2 h3 (fun t ht hA => ⟨F, hp, ⟨rfl, by rw [ht]; exact hH⟩, hS.F ht⟩) hS.2.2 hk hs
/-- it's caught by the first row of the table -/
theorem g_xcatch {E name : String} {a1 a2 a3 a4 : Nat} (hC : gC own cc nL rt nm R d b X) (hT : X.co.exceptionTable.toList = tableOf [(a1, a2, a3, a4)]) (h1 : a1 ≤ pc ∧ pc < a2) (h4 : a4 ≠ 0) (hw : Cond.classLink own a4 name ∈ gWs) (hc : (E, name) ∈ gCs) (kk : ∀ q : Nat, gG X d b Q F k n a3 lv [.ref q]) : gGx X d b Q F k n pc lv E := fun H locs ls rest q ce hH hS hL g1 g2 g3 =>
  vx_catch hC.how [] ⟨a1, a2, a3, a4⟩ [] hT (fun z hz => by cases hz) (by simp [covers, h1.1, h1.2]) h4 (hC.hts _ hw) (va_Nw.use rfl (hC.hv.2.2.2.2.2.2.2.2.2.1 _ hc)) g1 g2 g3 (kk q H locs ls hH hS hL)

theorem g_xcallVv (hC : gC own cc nL rt nm R d b X) {y : MethodName} {c2 : ByteArray} {mL nA lvl idx : Nat} {As : List Value} {post : gM → Prop} {E : String} {px : gM → Prop} {a ci N : Nat} {T : u_T} {v0 : Value} {fs : List Value} (hc : vwCl[ci]? = some (y.cls, T, N)) (hF : F a = .inr (ci, v0 :: fs)) (hm : gXv X.la d b y c2 mL lvl mc ms F (.ref a :: As) post E px) (hl : gCV own idx y c2 mL none nA) (hA : As.length = nA) (hn : nL = lv.length) (hr : (st.map fun v => v.category).sum ≤ 8) (hf : gFit R lvl mL k n mc ms) (hdg : decode cc pc = .ok (.invokevirtual idx, 3))
    (kx : ∀ F' : gM, px F' → gGx X d b Q F' (k + mc) (n + ms) pc lv E) (kk : ∀ F' : gM, post F' → gG X d b Q F' (k + mc) (n + ms) (pc + 3) lv st) : gG X d b Q F k n pc lv (As.reverse ++ .ref a :: st) := fun H locs ls hH hS hL => by
  refine vx_callv (vx_runV (As := As) (rest := st) ⟨hC.hx, hC.hb, hC.hml, hC.how, hC.hts⟩ hm (cwV nA hC.hts hl.1 rfl rfl rfl hl.2 (by rw [hC.hR]; exact hf.1)) ⟨gB.blind, g_recv hC hc hF hH, fun U hU hW => ⟨rfl, gE_B hC hH hS hU hW⟩⟩ rfl hA (hL.1.trans hn.symm) rfl (lv_room hr) hdg (by rw [hC.hR]; exact hf.2)) hS (fun q _ h => h) (fun q h => h) (fun q _ h => h) ?_ (fun u t H1 locs1 ht hvm hp hB hz hk1 hS1 => kk u hp H1 locs1 ls (by rw [← ht]; exact hB.2) hS1 hL)
  intro E1 ce q9 u t H1 locs1 ht hvm hp hB hz hk1 hS1 h1 h2 h3
  obtain ⟨rfl, hB⟩ := hB
  exact kx u hp H1 locs1 ls st q9 ce (by rw [← ht]; exact hB) hS1 hL h1 h2 h3
theorem g_xcallVi (hC : gC own cc nL rt nm R d b X) {y : MethodName} {c2 : ByteArray} {mL nA lvl idx : Nat} {rt0 : FieldType} {As : List Value} {post : Int32 → gM → Prop} {E : String} {px : gM → Prop} {a ci N : Nat} {T : u_T} {v0 : Value} {fs : List Value} (hc : vwCl[ci]? = some (y.cls, T, N)) (hF : F a = .inr (ci, v0 :: fs)) (hm : gXi X.la d b y c2 mL rt0 lvl mc ms F (.ref a :: As) post E px) (hl : gCV own idx y c2 mL (some rt0) nA) (hA : As.length = nA) (hn : nL = lv.length) (hr : (st.map fun v => v.category).sum ≤ 8) (hf : gFit R lvl mL k n mc ms) (hdg : decode cc pc = .ok (.invokevirtual idx, 3))
    (kx : ∀ F' : gM, px F' → gGx X d b Q F' (k + mc) (n + ms) pc lv E) (kk : ∀ (r : Int32) (F' : gM), post r F' → gG X d b Q F' (k + mc) (n + ms) (pc + 3) lv (.int r :: st)) : gG X d b Q F k n pc lv (As.reverse ++ .ref a :: st) := fun H locs ls hH hS hL => by
  refine vx_calli (vx_runV (As := As) (rest := st) ⟨hC.hx, hC.hb, hC.hml, hC.how, hC.hts⟩ hm (cwV nA hC.hts hl.1 rfl rfl rfl hl.2 (by rw [hC.hR]; exact hf.1)) ⟨gB.blind, g_recv hC hc hF hH, fun U hU hW => ⟨rfl, gE_B hC hH hS hU hW⟩⟩ rfl hA (hL.1.trans hn.symm) rfl (lv_room hr) hdg (by rw [hC.hR]; exact hf.2)) hS (fun q _ h => h) (fun q h => h) (fun q _ h => h) ?_ (fun r u t H1 locs1 ht hvm hp hB hz hk1 hS1 => kk r u hp H1 locs1 ls (by rw [← ht]; exact hB.2) hS1 hL)
  intro E1 ce q9 u t H1 locs1 ht hvm hp hB hz hk1 hS1 h1 h2 h3
  obtain ⟨rfl, hB⟩ := hB
  exact kx u hp H1 locs1 ls st q9 ce (by rw [← ht]; exact hB) hS1 hL h1 h2 h3
/-- new E("..") thrown -/
theorem g_throwS {Qc : Array Value → State → Outcome → State → Prop} {px : gM → Prop} {cls text : String} {names : List String} {ik is ic i : Nat} (hC : gC own cc nL rt nm R d b X) (hl : X.la.stackTraces = false) (hT : ∀ x ∈ X.co.exceptionTable.toList, False) (hcls : Bundle.fit cls = true) (hnames : ∀ n ∈ names, Bundle.fit n = true) (hk : Cond.classLink own ik cls ∈ gWs) (hini : Cond.initialized cls ∈ gWs) (hi : gSr[i]? = some (own, is, text))
    (hat : ∀ w ∈ (vx_atS own ic cls names).filter goodWord, w ∈ gWs) (hbad : ∀ w ∈ (vx_atS own ic cls names).filter (fun w => !goodWord w), w ∈ gCs.map (fun q => Cond.castable q.1 q.2) ++ gDs.map Cond.declares) (hgood : ∀ w ∈ Cond.classLink own ik cls :: Cond.initialized cls :: vx_atS own ic cls names, vx_ot w = true) (hn : nL = lv.length)
    (d0 : decode cc pc = .ok (.new ik, 3)) (d3 : decode cc (pc + 3) = .ok (.dup, 1)) (d4 : decode cc (pc + 4) = .ok (.ldc is, 2)) (d6 : decode cc (pc + 6) = .ok (.invokespecial ic, 3)) (d9 : decode cc (pc + 9) = .ok (.athrow, 1))
    (hRf : names.length + 3 < R.frames) (hRl : (st.map fun v => v.category).sum + (13 * (names.length + 1) + 43) ≤ R.locals) (hRc : k + 1 ≤ R.cells) (hRs : n + 6 ≤ R.slots) (hp : px F) (hc : k + 1 ≤ mc) (hs : n + 6 ≤ ms) : gG X d b (vx_MQ X.be Qc (vx_X px (gTw cls d b) (fun q => b ≤ q)) X.ar X.st mc ms (fun q => b ≤ q)) F k n pc lv st := fun H locs ls hH hS hL =>
  vx_throwS hC.hx hC.hb hl hC.how hcls hnames (hC.hts _ hk) (hC.hts _ hini) (hC.hv.2.2.2.2.2.1 i _ hi) (vx_hat (fun w hw => hC.hts _ (hat w hw)) hbad (fun w hw => by
    rcases List.mem_append.mp hw with hw | hw
    · obtain ⟨q, hq, rfl⟩ := List.mem_map.mp hw
      exact va_Nw.use rfl (hC.hv.2.2.2.2.2.2.2.2.2.1 q hq)
    · obtain ⟨q, hq, rfl⟩ := List.mem_map.mp hw
      exact va_Nw.use rfl (hC.hv.2.2.2.2.2.2.2.2.2.2.1 q hq))) hgood hC.hv.2.2.2.2.2.2.2.1 hC.hv.2.2.2.2.2.2.2.2.1 hS (by rw [hC.hml, hn]; exact hL.1) d0 d3 d4 d6 d9 (fun x hx => absurd (hT x hx) id) (by rw [hC.hR]; exact hRf) (by rw [hC.hR]; exact hRl) (by rw [hC.hR]; exact hRc) (by rw [hC.hR]; exact hRs) hC.hlk
    (fun t hA hz hq => ⟨F, hp, ⟨rfl, hH.kept hq⟩, Nat.le_trans hS.1 hz, fun q h1 h2 => (hq q (Nat.lt_of_lt_of_le h1 hS.1)).trans (hS.2.1 q h1 h2)⟩) hS.2.2 hc hs
/-- new E() thrown -/
theorem g_throw0 {Qc : Array Value → State → Outcome → State → Prop} {px : gM → Prop} {cls : String} {names : List String} {ik ic : Nat} (hC : gC own cc nL rt nm R d b X) (hl : X.la.stackTraces = false) (hT : ∀ x ∈ X.co.exceptionTable.toList, False) (hcls : Bundle.fit cls = true) (hnames : ∀ n ∈ names, Bundle.fit n = true) (hk : Cond.classLink own ik cls ∈ gWs) (hini : Cond.initialized cls ∈ gWs)
    (hat : ∀ w ∈ (vx_at0 own ic cls names).filter goodWord, w ∈ gWs) (hbad : ∀ w ∈ (vx_at0 own ic cls names).filter (fun w => !goodWord w), w ∈ gCs.map (fun q => Cond.castable q.1 q.2) ++ gDs.map Cond.declares) (hgood : ∀ w ∈ Cond.classLink own ik cls :: Cond.initialized cls :: vx_at0 own ic cls names, vx_ot w = true) (hn : nL = lv.length)
    (d0 : decode cc pc = .ok (.new ik, 3)) (d3 : decode cc (pc + 3) = .ok (.dup, 1)) (d4 : decode cc (pc + 4) = .ok (.invokespecial ic, 3)) (d7 : decode cc (pc + 7) = .ok (.athrow, 1))
    (hRf : names.length + 3 < R.frames) (hRl : (st.map fun v => v.category).sum + (13 * (names.length + 1) + 42) ≤ R.locals) (hRc : k + 1 ≤ R.cells) (hRs : n + 6 ≤ R.slots) (hp : px F) (hc : k + 1 ≤ mc) (hs : n + 6 ≤ ms) : gG X d b (vx_MQ X.be Qc (vx_X px (gTw cls d b) (fun q => b ≤ q)) X.ar X.st mc ms (fun q => b ≤ q)) F k n pc lv st := fun H locs ls hH hS hL =>
  vx_throw0 hC.hx hC.hb hl hC.how hcls hnames (hC.hts _ hk) (hC.hts _ hini) (vx_hat (fun w hw => hC.hts _ (hat w hw)) hbad (fun w hw => by
    rcases List.mem_append.mp hw with hw | hw
    · obtain ⟨q, hq, rfl⟩ := List.mem_map.mp hw
      exact va_Nw.use rfl (hC.hv.2.2.2.2.2.2.2.2.2.1 q hq)
    · obtain ⟨q, hq, rfl⟩ := List.mem_map.mp hw
      exact va_Nw.use rfl (hC.hv.2.2.2.2.2.2.2.2.2.2.1 q hq))) hgood hC.hv.2.2.2.2.2.2.2.1 hC.hv.2.2.2.2.2.2.2.2.1 hS (by rw [hC.hml, hn]; exact hL.1) d0 d3 d4 d7 (fun x hx => absurd (hT x hx) id) (by rw [hC.hR]; exact hRf) (by rw [hC.hR]; exact hRl) (by rw [hC.hR]; exact hRc) (by rw [hC.hR]; exact hRs) hC.hlk
    (fun t hA hz hq => ⟨F, hp, ⟨rfl, hH.kept hq⟩, Nat.le_trans hS.1 hz, fun q h1 h2 => (hq q (Nat.lt_of_lt_of_le h1 hS.1)).trans (hS.2.1 q h1 h2)⟩) hS.2.2 hc hs
/-- a method with a table, called -/
def gCVW (own : String) (idx : Nat) (y : MethodName) (cc : ByteArray) (mL : Nat) (rt : Option FieldType) (hh : List (Nat × Nat × Nat × Nat)) (nA : Nat) : Prop := GoodIn gWs (wsV own idx y.cls y (.codeWith y cc mL rt hh :: gWs)) ∧ (y.cls = y.cls ∧ y.cls ≠ "java/lang/invoke/MethodHandle" ∧ y.cls ≠ "java/lang/invoke/VarHandle" ∧ (parseMethodDescriptor y.desc).map (fun d => d.parameters.length) = some nA)
theorem g_callVWi {rt0 : FieldType} {hh : List (Nat × Nat × Nat × Nat)} (hC : gC own cc nL rt nm R d b X) {y : MethodName} {c2 : ByteArray} {mL nA lvl idx : Nat} {As : List Value} {post : Int32 → gM → Prop} {a ci N : Nat} {T : u_T} {v0 : Value} {fs : List Value} (hc : vwCl[ci]? = some (y.cls, T, N)) (hF : F a = .inr (ci, v0 :: fs)) (hm : Met X.la y (.codeWith y c2 mL (some rt0) hh :: gWs) (gR lvl mc ms) (va_Pc (.ref a :: As) (gB d b F)) (va_Qi post (gB d b) (fun q => b ≤ q)) mc ms (fun q => b ≤ q)) (hl : gCVW own idx y c2 mL (some rt0) hh nA) (hA : As.length = nA) (hn : nL = lv.length) (hr : (st.map fun v => v.category).sum ≤ 8) (hf : gFit R lvl mL k n mc ms) (hdg : decode cc pc = .ok (.invokevirtual idx, 3)) (kk : ∀ (r : Int32) (F' : gM), post r F' → gG X d b Q F' (k + mc) (n + ms) (pc + 3) lv (.int r :: st)) : gG X d b Q F k n pc lv (As.reverse ++ .ref a :: st) := fun H locs ls hH hS hL => by
  exact va_calli (vx_runVW (As := As) (rest := st) ⟨hC.hx, hC.hb, hC.hml, hC.how, hC.hts⟩ hm (vx_cwVW nA hC.hts hl.1 rfl rfl rfl hl.2 (by rw [hC.hR]; exact hf.1)) ⟨gB.blind, g_recv hC hc hF hH, fun U hU hW => ⟨rfl, gE_B hC hH hS hU hW⟩⟩ rfl hA (hL.1.trans hn.symm) rfl (lv_room hr) hdg (by rw [hC.hR]; exact hf.2)) hS (fun q _ h => h) (fun q h => h) (fun r u t H1 locs1 ht hvm hp hB hz hk1 hS1 => kk r u hp H1 locs1 ls (by rw [← ht]; exact hB.2) hS1 hL)
def gCSW (own : String) (idx : Nat) (y : MethodName) (cc : ByteArray) (mL : Nat) (rt : Option FieldType) (hh : List (Nat × Nat × Nat × Nat)) (nA : Nat) : Prop := GoodIn gWs (va_wsS own idx y (.codeWith y cc mL rt hh :: gWs)) ∧ (y.cls ≠ "java/lang/invoke/MethodHandle" ∧ y.cls ≠ "java/lang/invoke/VarHandle" ∧ (parseMethodDescriptor y.desc).map (fun d => d.parameters.length) = some nA)
theorem g_callSWi {rt0 : FieldType} {hh : List (Nat × Nat × Nat × Nat)} (hC : gC own cc nL rt nm R d b X) {y : MethodName} {c2 : ByteArray} {mL nA lvl idx : Nat} {As : List Value} {post : Int32 → gM → Prop} (hm : Met X.la y (.codeWith y c2 mL (some rt0) hh :: gWs) (gR lvl mc ms) (va_Pc As (gB d b F)) (va_Qi post (gB d b) (fun q => b ≤ q)) mc ms (fun q => b ≤ q)) (hl : gCSW own idx y c2 mL (some rt0) hh nA) (hA : As.length = nA) (hn : nL = lv.length) (hr : (st.map fun v => v.category).sum ≤ 8) (hf : gFit R lvl mL k n mc ms) (hdg : decode cc pc = .ok (.invokestatic idx, 3)) (kk : ∀ (r : Int32) (F' : gM), post r F' → gG X d b Q F' (k + mc) (n + ms) (pc + 3) lv (.int r :: st)) : gG X d b Q F k n pc lv (As.reverse ++ st) := fun H locs ls hH hS hL => by
  exact va_calli (vx_runSW (As := As) (rest := st) ⟨hC.hx, hC.hb, hC.hml, hC.how, hC.hts⟩ hm (vx_cwSW nA hC.hts hl.1 rfl rfl rfl hl.2 (by rw [hC.hR]; exact hf.1)) ⟨gB.blind, fun U hU hW => ⟨rfl, gE_B hC hH hS hU hW⟩⟩ rfl hA (hL.1.trans hn.symm) rfl (lv_room hr) hdg (by rw [hC.hR]; exact hf.2)) hS (fun q _ h => h) (fun q h => h) (fun r u t H1 locs1 ht hvm hp hB hz hk1 hS1 => kk r u hp H1 locs1 ls (by rw [← ht]; exact hB.2) hS1 hL)
end G4
end
section
theorem kw_385 : Cond.fieldLink RJ0 38 "java/lang/String" "COMPACT_STRINGS" "Z" ∈ gWs := gWm 385 (by decide +kernel) rfl
theorem kw_2968 : Cond.fieldLink RJ0 15 "java/lang/String" "coder" "B" ∈ gWs := gWm 2968 (by decide +kernel) rfl
theorem kw_2967 : Cond.fieldLink RJ0 9 "java/lang/String" "value" "[B" ∈ gWs := gWm 2967 (by decide +kernel) rfl
theorem kw_243 : Cond.initialized RJ0 ∈ gWs := gWm 243 (by decide +kernel) rfl
theorem kw_384 : Cond.code yJ0_coder_7d493 cJ0_coder_7d493 1 (some .byte) ∈ gWs := gWm 384 (by decide +kernel) rfl
theorem kw_381 : Cond.methodLink RJ0 335 yJ0_coder_7d493 ∈ gWs := gWm 381 (by decide +kernel) rfl
theorem kw_382 : Cond.instanceMethod yJ0_coder_7d493 ∈ gWs := gWm 382 (by decide +kernel) rfl
theorem kw_383 : Cond.selects RJ0 yJ0_coder_7d493 yJ0_coder_7d493 ∈ gWs := gWm 383 (by decide +kernel) rfl
theorem cl_J0_335 : gCV RJ0 335 yJ0_coder_7d493 cJ0_coder_7d493 1 (some .byte) 0 := ⟨g_mk [.methodLink RJ0 335 yJ0_coder_7d493, .instanceMethod yJ0_coder_7d493, .selects yJ0_coder_7d493.cls yJ0_coder_7d493 yJ0_coder_7d493, .initialized yJ0_coder_7d493.cls] (gWs_all kw_384) (List.forall_mem_cons.mpr ⟨kw_381, List.forall_mem_cons.mpr ⟨kw_382, List.forall_mem_cons.mpr ⟨kw_383, List.forall_mem_cons.mpr ⟨kw_243, fun _ h => nomatch h⟩⟩⟩⟩), rfl, by decide +kernel, by decide +kernel, by decide +kernel⟩
theorem kw_401 : Cond.fieldLink RJ0 1053 "jdk/internal/util/Preconditions" "SIOOBE_FORMATTER" "Ljava/util/function/BiFunction;" ∈ gWs := gWm 401 (by decide +kernel) rfl
theorem kw_245 : Cond.initialized RJ3 ∈ gWs := gWm 245 (by decide +kernel) rfl
theorem kw_405 : Cond.code yJ3_checkIndex_8e157 cJ3_checkIndex_8e157 3 (some .int) ∈ gWs := gWm 405 (by decide +kernel) rfl
theorem kw_403 : Cond.methodLink RJ0 1059 yJ3_checkIndex_8e157 ∈ gWs := gWm 403 (by decide +kernel) rfl
theorem kw_404 : Cond.static yJ3_checkIndex_8e157 ∈ gWs := gWm 404 (by decide +kernel) rfl
theorem cl_J0_1059 : gCS RJ0 1059 yJ3_checkIndex_8e157 cJ3_checkIndex_8e157 3 (some .int) 3 := ⟨g_mk [.methodLink RJ0 1059 yJ3_checkIndex_8e157, .static yJ3_checkIndex_8e157, .initialized yJ3_checkIndex_8e157.cls] (gWs_all kw_405) (List.forall_mem_cons.mpr ⟨kw_403, List.forall_mem_cons.mpr ⟨kw_404, List.forall_mem_cons.mpr ⟨kw_245, fun _ h => nomatch h⟩⟩⟩), ⟨by decide +kernel, by decide +kernel, by decide +kernel⟩⟩
theorem kw_400 : Cond.code yJ0_checkIndex_df160 cJ0_checkIndex_df160 2 none ∈ gWs := gWm 400 (by decide +kernel) rfl
theorem kw_398 : Cond.methodLink RJ1 9 yJ0_checkIndex_df160 ∈ gWs := gWm 398 (by decide +kernel) rfl
theorem kw_399 : Cond.static yJ0_checkIndex_df160 ∈ gWs := gWm 399 (by decide +kernel) rfl
theorem cl_J1_9 : gCS RJ1 9 yJ0_checkIndex_df160 cJ0_checkIndex_df160 2 none 2 := ⟨g_mk [.methodLink RJ1 9 yJ0_checkIndex_df160, .static yJ0_checkIndex_df160, .initialized yJ0_checkIndex_df160.cls] (gWs_all kw_400) (List.forall_mem_cons.mpr ⟨kw_398, List.forall_mem_cons.mpr ⟨kw_399, List.forall_mem_cons.mpr ⟨kw_243, fun _ h => nomatch h⟩⟩⟩), ⟨by decide +kernel, by decide +kernel, by decide +kernel⟩⟩
theorem kw_394 : Cond.code yJ0_isLatin1_aae02 cJ0_isLatin1_aae02 1 (some .boolean) ∈ gWs := gWm 394 (by decide +kernel) rfl
theorem kw_391 : Cond.methodLink RJ0 492 yJ0_isLatin1_aae02 ∈ gWs := gWm 391 (by decide +kernel) rfl
theorem kw_392 : Cond.instanceMethod yJ0_isLatin1_aae02 ∈ gWs := gWm 392 (by decide +kernel) rfl
theorem kw_393 : Cond.selects RJ0 yJ0_isLatin1_aae02 yJ0_isLatin1_aae02 ∈ gWs := gWm 393 (by decide +kernel) rfl
theorem cl_J0_492 : gCV RJ0 492 yJ0_isLatin1_aae02 cJ0_isLatin1_aae02 1 (some .boolean) 0 := ⟨g_mk [.methodLink RJ0 492 yJ0_isLatin1_aae02, .instanceMethod yJ0_isLatin1_aae02, .selects yJ0_isLatin1_aae02.cls yJ0_isLatin1_aae02 yJ0_isLatin1_aae02, .initialized yJ0_isLatin1_aae02.cls] (gWs_all kw_394) (List.forall_mem_cons.mpr ⟨kw_391, List.forall_mem_cons.mpr ⟨kw_392, List.forall_mem_cons.mpr ⟨kw_393, List.forall_mem_cons.mpr ⟨kw_243, fun _ h => nomatch h⟩⟩⟩⟩), rfl, by decide +kernel, by decide +kernel, by decide +kernel⟩
theorem kw_244 : Cond.initialized RJ1 ∈ gWs := gWm 244 (by decide +kernel) rfl
theorem kw_397 : Cond.code yJ1_charAt_3b067 cJ1_charAt_3b067 2 (some .char) ∈ gWs := gWm 397 (by decide +kernel) rfl
theorem kw_395 : Cond.methodLink RJ0 495 yJ1_charAt_3b067 ∈ gWs := gWm 395 (by decide +kernel) rfl
theorem kw_396 : Cond.static yJ1_charAt_3b067 ∈ gWs := gWm 396 (by decide +kernel) rfl
theorem cl_J0_495 : gCS RJ0 495 yJ1_charAt_3b067 cJ1_charAt_3b067 2 (some .char) 2 := ⟨g_mk [.methodLink RJ0 495 yJ1_charAt_3b067, .static yJ1_charAt_3b067, .initialized yJ1_charAt_3b067.cls] (gWs_all kw_397) (List.forall_mem_cons.mpr ⟨kw_395, List.forall_mem_cons.mpr ⟨kw_396, List.forall_mem_cons.mpr ⟨kw_244, fun _ h => nomatch h⟩⟩⟩), ⟨by decide +kernel, by decide +kernel, by decide +kernel⟩⟩
section G6
variable {own : String} {cc : ByteArray} {nL : Nat} {rt : Option FieldType} {nm : String} {R : Room} {d : gD} {b : Nat} {X : gX} {Q : State → Prop} {F : gM} {k n pc : Nat} {lv : List (Option Value)} {st : List Value} {mc ms : Nat}
theorem g_ishr (hC : gC own cc nL rt nm R d b X) {x y : Int32} (hdg : decode cc pc = .ok (.ishr, 1)) (kk : gG X d b Q F k n (pc + 1) lv (.int (x >>> (y &&& 31)) :: st)) : gG X d b Q F k n pc lv (.int y :: .int x :: st) := fun H locs ls hH hS hL => lv_ishr hC.hx hC.hb hdg (kk H locs ls hH hS hL)
theorem g_ishl (hC : gC own cc nL rt nm R d b X) {x y : Int32} (hdg : decode cc pc = .ok (.ishl, 1)) (kk : gG X d b Q F k n (pc + 1) lv (.int (x <<< (y &&& 31)) :: st)) : gG X d b Q F k n pc lv (.int y :: .int x :: st) := fun H locs ls hH hS hL => lv_ishl hC.hx hC.hb hdg (kk H locs ls hH hS hL)
theorem g_i2c (hC : gC own cc nL rt nm R d b X) {x : Int32} (hdg : decode cc pc = .ok (.i2c, 1)) (kk : gG X d b Q F k n (pc + 1) lv (.int (x.toUInt32 % 65536).toInt32 :: st)) : gG X d b Q F k n pc lv (.int x :: st) := fun H locs ls hH hS hL => lv_i2c hC.hx hC.hb hdg rfl (kk H locs ls hH hS hL)
abbrev gSa (d : gD) : Nat → Nat := d.2.2.1
abbrev gSb (d : gD) : Nat → Nat := d.2.2.2
theorem g_sval (hC : gC own cc nL rt nm R d b X) {i idx : Nat} (hi : i < 5) (hw : Cond.fieldLink own idx "java/lang/String" "value" "[B" ∈ gWs) (hdg : decode cc pc = .ok (.getfield idx, 3)) (kk : gG X d b Q F k n (pc + 3) lv (.ref (gSb d i) :: st)) : gG X d b Q F k n pc lv (.ref (gSa d i) :: st) := fun H locs ls hH hS hL => vk_getf hC.hx hC.hb (hC.hv.2.2.2.2.1.1 i hi).2.2.1 hS hC.how (hC.hts _ hw) (fun _ h => h) hdg (kk H locs ls hH hS hL)
theorem g_scod (hC : gC own cc nL rt nm R d b X) {i idx : Nat} (hi : i < 5) (hw : Cond.fieldLink own idx "java/lang/String" "coder" "B" ∈ gWs) (hdg : decode cc pc = .ok (.getfield idx, 3)) (kk : gG X d b Q F k n (pc + 3) lv (.int 0 :: st)) : gG X d b Q F k n pc lv (.ref (gSa d i) :: st) := fun H locs ls hH hS hL => vk_getf hC.hx hC.hb (hC.hv.2.2.2.2.1.1 i hi).2.1 hS hC.how (hC.hts _ hw) (fun _ h => h) hdg (kk H locs ls hH hS hL)
theorem g_slen (hC : gC own cc nL rt nm R d b X) {i : Nat} (hi : i < 5) (hdg : decode cc pc = .ok (.arraylength, 1)) (kk : gG X d b Q F k n (pc + 1) lv (.int (nI (gLen.getD i 0)) :: st)) : gG X d b Q F k n pc lv (.ref (gSb d i) :: st) := fun H locs ls hH hS hL => va_tlen hC.hx hC.hb (hC.hv.2.2.2.2.1.1 i hi).2.2.2 hS rfl hdg (kk H locs ls hH hS hL)
theorem g_sald (hC : gC own cc nL rt nm R d b X) {i : Nat} {j : Int32} (hi : i < 5) (hin : vp_in j (gLen.getD i 0)) (hdg : decode cc pc = .ok (.baload, 1)) (kk : gG X d b Q F k n (pc + 1) lv (.int ((gByt.getD i []).getD j.toNatClampNeg 0) :: st)) : gG X d b Q F k n pc lv (.int j :: .ref (gSb d i) :: st) := fun H locs ls hH hS hL => va_tb hC.hx hC.hb (hC.hv.2.2.2.2.1.1 i hi).2.2.2 hS hin rfl hdg (kk H locs ls hH hS hL)
theorem g_scomp (hC : gC own cc nL rt nm R d b X) {idx : Nat} (hw : Cond.fieldLink own idx "java/lang/String" "COMPACT_STRINGS" "Z" ∈ gWs) (hdg : decode cc pc = .ok (.getstatic idx, 3)) (kk : gG X d b Q F k n (pc + 3) lv (.int 1 :: st)) : gG X d b Q F k n pc lv st := fun H locs ls hH hS hL => va_gets hC.hx hC.hb hC.hv.2.2.2.2.2.2.1 hS hC.how (hC.hts _ hw) (fun _ h => h) hdg (kk H locs ls hH hS hL)
theorem g_sfmt (hC : gC own cc nL rt nm R d b X) {idx : Nat} (hw : Cond.fieldLink own idx "jdk/internal/util/Preconditions" "SIOOBE_FORMATTER" "Ljava/util/function/BiFunction;" ∈ gWs) (hdg : decode cc pc = .ok (.getstatic idx, 3)) (kk : ∀ fo : Option Nat, gG X d b Q F k n (pc + 3) lv (va_rf fo :: st)) : gG X d b Q F k n pc lv st := fun H locs ls hH hS hL => by
  obtain ⟨fo, hz⟩ := hC.hv.2.2.2.2.2.2.2.2.2.2.2
  exact va_gets hC.hx hC.hb hz hS hC.how (hC.hts _ hw) (fun _ h => h) hdg (kk fo H locs ls hH hS hL)
theorem g_ldcS (hC : gC own cc nL rt nm R d b X) {i idx : Nat} {tx : String} (hi : gSr[i]? = some (own, idx, tx)) (hdg : decode cc pc = .ok (.ldc idx, 2)) (kk : gG X d b Q F k n (pc + 2) lv (.ref (gSa d i) :: st)) : gG X d b Q F k n pc lv st := fun H locs ls hH hS hL => va_ldcS hC.hx hC.hb hC.how (hC.hv.2.2.2.2.2.1 i _ hi) hdg (kk H locs ls hH hS hL)
/-- a call of a String constant's own method -/
theorem g_callTi {rt0 : FieldType} (hC : gC own cc nL rt nm R d b X) {y : MethodName} {c2 : ByteArray} {mL nA lvl idx i : Nat} {As : List Value} {post : Int32 → gM → Prop} (hi : i < 5) (hy : y.cls = "java/lang/String") (hm : gMi X.la d b y c2 mL rt0 lvl mc ms F (.ref (gSa d i) :: As) post) (hl : gCV own idx y c2 mL (some rt0) nA) (hA : As.length = nA) (hn : nL = lv.length) (hr : (st.map fun v => v.category).sum ≤ 8) (hf : gFit R lvl mL k n mc ms) (hdg : decode cc pc = .ok (.invokevirtual idx, 3)) (kk : ∀ (r : Int32) (F' : gM), post r F' → gG X d b Q F' (k + mc) (n + ms) (pc + 3) lv (.int r :: st)) : gG X d b Q F k n pc lv (As.reverse ++ .ref (gSa d i) :: st) := fun H locs ls hH hS hL => by
  exact va_calli (va_runV (As := As) (rest := st) ⟨hC.hx, hC.hb, hC.hml, hC.how, hC.hts⟩ hm (cwV nA hC.hts hl.1 rfl rfl rfl hl.2 (by rw [hC.hR]; exact hf.1)) ⟨gB.blind, by rw [hy]; exact vk_recv hC.hv.2.2.2.2.1 hi hS, fun U hU hW => ⟨rfl, gE_B hC hH hS hU hW⟩⟩ rfl hA (hL.1.trans hn.symm) rfl (lv_room hr) hdg (by rw [hC.hR]; exact hf.2)) hS (fun q _ h => h) (fun q h => h) (fun r u t H1 locs1 ht hvm hp hB hz hk1 hS1 => kk r u hp H1 locs1 ls (by rw [← ht]; exact hB.2) hS1 hL)
end G6
theorem dJ0_coder_7d493_0 : decode cJ0_coder_7d493 0 = .ok (.getstatic 38, 3) := by decide +kernel
theorem dJ0_coder_7d493_3 : decode cJ0_coder_7d493 3 = .ok (.ifCond .eq 10, 3) := by decide +kernel
theorem dJ0_coder_7d493_6 : decode cJ0_coder_7d493 6 = .ok (.aload_n 0, 1) := by decide +kernel
theorem dJ0_coder_7d493_7 : decode cJ0_coder_7d493 7 = .ok (.getfield 15, 3) := by decide +kernel
theorem dJ0_coder_7d493_10 : decode cJ0_coder_7d493 10 = .ok (.goto 4, 3) := by decide +kernel
theorem dJ0_coder_7d493_13 : decode cJ0_coder_7d493 13 = .ok (.iconst 1, 1) := by decide +kernel
theorem dJ0_coder_7d493_14 : decode cJ0_coder_7d493 14 = .ok (.ireturn, 1) := by decide +kernel
set_option maxHeartbeats 4000000 in
set_option maxRecDepth 100000 in
theorem c_coder (l : Launch) (d : gD) (b : Nat) (F : gM) (i : Nat) (hi : i < 5) : gMi l d b yJ0_coder_7d493 cJ0_coder_7d493 1 .byte 0 0 0 F [.ref (gSa d i)] (fun r F' => r = 0 ∧ F' = F) := by
  refine gM_of2 rfl (nL := 1) (Nat.le_of_ble_eq_true rfl) ?_
  intro X hX hC; subst hX
  show gG X d b _ F 0 0 0 [some (.ref (gSa d i))] []
  refine g_scomp hC kw_385 dJ0_coder_7d493_0 ?_
  refine g_if_eq (tgt := 13) hC dJ0_coder_7d493_3 (by decide) (fun c1 => ?_) (fun c1 => ?_)
  · exact absurd c1 (by decide)
  · refine g_aload_n hC dJ0_coder_7d493_6 rfl ?_
    refine g_scod hC hi kw_2968 dJ0_coder_7d493_7 ?_
    refine g_goto (tgt := 14) hC dJ0_coder_7d493_10 (by decide) ?_
    exact g_iret hC rfl ⟨rfl, rfl⟩ (by first | exact Nat.le_of_ble_eq_true rfl | omega | (simp only [gR]; omega)) (by first | exact Nat.le_of_ble_eq_true rfl | omega | (simp only [gR]; omega)) dJ0_coder_7d493_14
theorem dJ0_isLatin1_aae02_0 : decode cJ0_isLatin1_aae02 0 = .ok (.getstatic 38, 3) := by decide +kernel
theorem dJ0_isLatin1_aae02_3 : decode cJ0_isLatin1_aae02 3 = .ok (.ifCond .eq 14, 3) := by decide +kernel
theorem dJ0_isLatin1_aae02_6 : decode cJ0_isLatin1_aae02 6 = .ok (.aload_n 0, 1) := by decide +kernel
theorem dJ0_isLatin1_aae02_7 : decode cJ0_isLatin1_aae02 7 = .ok (.getfield 15, 3) := by decide +kernel
theorem dJ0_isLatin1_aae02_10 : decode cJ0_isLatin1_aae02 10 = .ok (.ifCond .ne 7, 3) := by decide +kernel
theorem dJ0_isLatin1_aae02_13 : decode cJ0_isLatin1_aae02 13 = .ok (.iconst 1, 1) := by decide +kernel
theorem dJ0_isLatin1_aae02_14 : decode cJ0_isLatin1_aae02 14 = .ok (.goto 4, 3) := by decide +kernel
theorem dJ0_isLatin1_aae02_17 : decode cJ0_isLatin1_aae02 17 = .ok (.iconst 0, 1) := by decide +kernel
theorem dJ0_isLatin1_aae02_18 : decode cJ0_isLatin1_aae02 18 = .ok (.ireturn, 1) := by decide +kernel
set_option maxHeartbeats 4000000 in
set_option maxRecDepth 100000 in
theorem c_isLatin1 (l : Launch) (d : gD) (b : Nat) (F : gM) (i : Nat) (hi : i < 5) : gMi l d b yJ0_isLatin1_aae02 cJ0_isLatin1_aae02 1 .boolean 0 0 0 F [.ref (gSa d i)] (fun r F' => r = 1 ∧ F' = F) := by
  refine gM_of2 rfl (nL := 1) (Nat.le_of_ble_eq_true rfl) ?_
  intro X hX hC; subst hX
  show gG X d b _ F 0 0 0 [some (.ref (gSa d i))] []
  refine g_scomp hC kw_385 dJ0_isLatin1_aae02_0 ?_
  refine g_if_eq (tgt := 17) hC dJ0_isLatin1_aae02_3 (by decide) (fun c1 => ?_) (fun c1 => ?_)
  · exact absurd c1 (by decide)
  · refine g_aload_n hC dJ0_isLatin1_aae02_6 rfl ?_
    refine g_scod hC hi kw_2968 dJ0_isLatin1_aae02_7 ?_
    refine g_if_ne (tgt := 17) hC dJ0_isLatin1_aae02_10 (by decide) (fun c2 => ?_) (fun c2 => ?_)
    · exact absurd rfl c2
    · refine g_iconst (v := 1) hC dJ0_isLatin1_aae02_13 rfl ?_
      refine g_goto (tgt := 18) hC dJ0_isLatin1_aae02_14 (by decide) ?_
      exact g_iret hC rfl ⟨rfl, rfl⟩ (by first | exact Nat.le_of_ble_eq_true rfl | omega | (simp only [gR]; omega)) (by first | exact Nat.le_of_ble_eq_true rfl | omega | (simp only [gR]; omega)) dJ0_isLatin1_aae02_18
theorem gshr0 : ∀ i, i < 5 → nI (gLen.getD i 0) >>> ((0 : Int32) &&& 31) = nI (gLen.getD i 0) := by decide +kernel
theorem gLen_ok : ∀ i, i < 5 → gLen.getD i 0 = (gByt.getD i []).length ∧ gLen.getD i 0 ≤ 300 := by decide +kernel
theorem dJ0_length_8abf5_0 : decode cJ0_length_8abf5 0 = .ok (.aload_n 0, 1) := by decide +kernel
theorem dJ0_length_8abf5_1 : decode cJ0_length_8abf5 1 = .ok (.getfield 9, 3) := by decide +kernel
theorem dJ0_length_8abf5_4 : decode cJ0_length_8abf5 4 = .ok (.arraylength, 1) := by decide +kernel
theorem dJ0_length_8abf5_5 : decode cJ0_length_8abf5 5 = .ok (.aload_n 0, 1) := by decide +kernel
theorem dJ0_length_8abf5_6 : decode cJ0_length_8abf5 6 = .ok (.invokevirtual 335, 3) := by decide +kernel
theorem dJ0_length_8abf5_9 : decode cJ0_length_8abf5 9 = .ok (.ishr, 1) := by decide +kernel
theorem dJ0_length_8abf5_10 : decode cJ0_length_8abf5 10 = .ok (.ireturn, 1) := by decide +kernel
set_option maxHeartbeats 4000000 in
set_option maxRecDepth 100000 in
theorem c_length (l : Launch) (d : gD) (b : Nat) (F : gM) (i : Nat) (hi : i < 5) : gMi l d b yJ0_length_8abf5 cJ0_length_8abf5 1 .int 1 0 0 F [.ref (gSa d i)] (fun r F' => r = nI (gLen.getD i 0) ∧ F' = F) := by
  refine gM_of2 rfl (nL := 1) (Nat.le_of_ble_eq_true rfl) ?_
  intro X hX hC; subst hX
  show gG X d b _ F 0 0 0 [some (.ref (gSa d i))] []
  refine g_aload_n hC dJ0_length_8abf5_0 rfl ?_
  refine g_sval hC hi kw_2967 dJ0_length_8abf5_1 ?_
  refine g_slen hC hi dJ0_length_8abf5_4 ?_
  refine g_aload_n hC dJ0_length_8abf5_5 rfl ?_
  refine g_callTi (As := []) hC hi rfl (c_coder X.la d b F i hi) cl_J0_335 rfl rfl (Nat.le_of_ble_eq_true rfl) (gFit_of (Nat.le_of_ble_eq_true rfl) (Nat.le_of_ble_eq_true rfl) (by first | exact Nat.le_of_ble_eq_true rfl | omega | (simp only [gR]; omega)) (by first | exact Nat.le_of_ble_eq_true rfl | omega | (simp only [gR]; omega))) dJ0_length_8abf5_6 (fun r1 F2 p3 => ?_)
  obtain ⟨rfl, eF2⟩ := p3; have eF2 := eF2.symm; subst eF2
  refine g_ishr hC dJ0_length_8abf5_9 ?_
  refine g_vi (fun x4 ex4 => ?_)
  exact g_iret hC rfl ⟨by rw [ex4]; exact gshr0 i hi, rfl⟩ (by first | exact Nat.le_of_ble_eq_true rfl | omega | (simp only [gR]; omega)) (by first | exact Nat.le_of_ble_eq_true rfl | omega | (simp only [gR]; omega)) dJ0_length_8abf5_10
theorem dJ3_checkIndex_8e157_0 : decode cJ3_checkIndex_8e157 0 = .ok (.iload_n 0, 1) := by decide +kernel
theorem dJ3_checkIndex_8e157_1 : decode cJ3_checkIndex_8e157 1 = .ok (.ifCond .lt 8, 3) := by decide +kernel
theorem dJ3_checkIndex_8e157_4 : decode cJ3_checkIndex_8e157 4 = .ok (.iload_n 0, 1) := by decide +kernel
theorem dJ3_checkIndex_8e157_5 : decode cJ3_checkIndex_8e157 5 = .ok (.iload_n 1, 1) := by decide +kernel
theorem dJ3_checkIndex_8e157_6 : decode cJ3_checkIndex_8e157 6 = .ok (.if_icmp .lt 10, 3) := by decide +kernel
theorem dJ3_checkIndex_8e157_9 : decode cJ3_checkIndex_8e157 9 = .ok (.aload_n 2, 1) := by decide +kernel
theorem dJ3_checkIndex_8e157_10 : decode cJ3_checkIndex_8e157 10 = .ok (.iload_n 0, 1) := by decide +kernel
theorem dJ3_checkIndex_8e157_11 : decode cJ3_checkIndex_8e157 11 = .ok (.iload_n 1, 1) := by decide +kernel
theorem dJ3_checkIndex_8e157_12 : decode cJ3_checkIndex_8e157 12 = .ok (.invokestatic 95, 3) := by decide +kernel
theorem dJ3_checkIndex_8e157_15 : decode cJ3_checkIndex_8e157 15 = .ok (.athrow, 1) := by decide +kernel
theorem dJ3_checkIndex_8e157_16 : decode cJ3_checkIndex_8e157 16 = .ok (.iload_n 0, 1) := by decide +kernel
theorem dJ3_checkIndex_8e157_17 : decode cJ3_checkIndex_8e157 17 = .ok (.ireturn, 1) := by decide +kernel
set_option maxHeartbeats 4000000 in
set_option maxRecDepth 100000 in
theorem c_pchkN (l : Launch) (d : gD) (b : Nat) (F : gM) (t : Nat) (u m : Int32) (h1 : ¬ u < 0) (h2 : u < m) : gMi l d b yJ3_checkIndex_8e157 cJ3_checkIndex_8e157 3 .int 0 0 0 F [.int u, .int m, .null] (fun r F' => r = u ∧ F' = F) := by
  refine gM_of2 rfl (nL := 3) (Nat.le_of_ble_eq_true rfl) ?_
  intro X hX hC; subst hX
  show gG X d b _ F 0 0 0 [some (.int u), some (.int m), some (.null)] []
  refine g_iload_n hC dJ3_checkIndex_8e157_0 rfl ?_
  refine g_if_lt (tgt := 9) hC dJ3_checkIndex_8e157_1 (by decide) (fun c1 => ?_) (fun c1 => ?_)
  · exact absurd c1 h1
  · refine g_iload_n hC dJ3_checkIndex_8e157_4 rfl ?_
    refine g_iload_n hC dJ3_checkIndex_8e157_5 rfl ?_
    refine g_icmp_lt (tgt := 16) hC dJ3_checkIndex_8e157_6 (by decide) (fun c2 => ?_) (fun c2 => ?_)
    · refine g_iload_n hC dJ3_checkIndex_8e157_16 rfl ?_
      exact g_iret hC rfl ⟨rfl, rfl⟩ (by first | exact Nat.le_of_ble_eq_true rfl | omega | (simp only [gR]; omega)) (by first | exact Nat.le_of_ble_eq_true rfl | omega | (simp only [gR]; omega)) dJ3_checkIndex_8e157_17
    · exact absurd h2 c2
set_option maxHeartbeats 4000000 in
set_option maxRecDepth 100000 in
theorem c_pchkR (l : Launch) (d : gD) (b : Nat) (F : gM) (t : Nat) (u m : Int32) (h1 : ¬ u < 0) (h2 : u < m) : gMi l d b yJ3_checkIndex_8e157 cJ3_checkIndex_8e157 3 .int 0 0 0 F [.int u, .int m, .ref t] (fun r F' => r = u ∧ F' = F) := by
  refine gM_of2 rfl (nL := 3) (Nat.le_of_ble_eq_true rfl) ?_
  intro X hX hC; subst hX
  show gG X d b _ F 0 0 0 [some (.int u), some (.int m), some (.ref t)] []
  refine g_iload_n hC dJ3_checkIndex_8e157_0 rfl ?_
  refine g_if_lt (tgt := 9) hC dJ3_checkIndex_8e157_1 (by decide) (fun c1 => ?_) (fun c1 => ?_)
  · exact absurd c1 h1
  · refine g_iload_n hC dJ3_checkIndex_8e157_4 rfl ?_
    refine g_iload_n hC dJ3_checkIndex_8e157_5 rfl ?_
    refine g_icmp_lt (tgt := 16) hC dJ3_checkIndex_8e157_6 (by decide) (fun c2 => ?_) (fun c2 => ?_)
    · refine g_iload_n hC dJ3_checkIndex_8e157_16 rfl ?_
      exact g_iret hC rfl ⟨rfl, rfl⟩ (by first | exact Nat.le_of_ble_eq_true rfl | omega | (simp only [gR]; omega)) (by first | exact Nat.le_of_ble_eq_true rfl | omega | (simp only [gR]; omega)) dJ3_checkIndex_8e157_17
    · exact absurd h2 c2
theorem dJ0_checkIndex_df160_0 : decode cJ0_checkIndex_df160 0 = .ok (.iload_n 0, 1) := by decide +kernel
theorem dJ0_checkIndex_df160_1 : decode cJ0_checkIndex_df160 1 = .ok (.iload_n 1, 1) := by decide +kernel
theorem dJ0_checkIndex_df160_2 : decode cJ0_checkIndex_df160 2 = .ok (.getstatic 1053, 3) := by decide +kernel
theorem dJ0_checkIndex_df160_5 : decode cJ0_checkIndex_df160 5 = .ok (.invokestatic 1059, 3) := by decide +kernel
theorem dJ0_checkIndex_df160_8 : decode cJ0_checkIndex_df160 8 = .ok (.pop, 1) := by decide +kernel
theorem dJ0_checkIndex_df160_9 : decode cJ0_checkIndex_df160 9 = .ok (.return_, 1) := by decide +kernel
set_option maxHeartbeats 4000000 in
set_option maxRecDepth 100000 in
theorem c_schk (l : Launch) (d : gD) (b : Nat) (F : gM) (u m : Int32) (h1 : ¬ u < 0) (h2 : u < m) : gMv l d b yJ0_checkIndex_df160 cJ0_checkIndex_df160 2 1 0 0 F [.int u, .int m] (fun F' => F' = F) := by
  refine gM_of2 rfl (nL := 2) (Nat.le_of_ble_eq_true rfl) ?_
  intro X hX hC; subst hX
  show gG X d b _ F 0 0 0 [some (.int u), some (.int m)] []
  refine g_iload_n hC dJ0_checkIndex_df160_0 rfl ?_
  refine g_iload_n hC dJ0_checkIndex_df160_1 rfl ?_
  refine g_sfmt hC kw_401 dJ0_checkIndex_df160_2 (fun fo => ?_)
  cases fo with
  | none =>
    refine g_callSi (As := [.int u, .int m, .null]) hC (c_pchkN X.la d b F 0 u m h1 h2) cl_J0_1059 rfl rfl (Nat.le_of_ble_eq_true rfl) (gFit_of (Nat.le_of_ble_eq_true rfl) (Nat.le_of_ble_eq_true rfl) (by first | exact Nat.le_of_ble_eq_true rfl | omega | (simp only [gR]; omega)) (by first | exact Nat.le_of_ble_eq_true rfl | omega | (simp only [gR]; omega))) dJ0_checkIndex_df160_5 (fun r1 F2 p3 => ?_)
    obtain ⟨rfl, eF2⟩ := p3; have eF2 := eF2.symm; subst eF2
    refine g_pop hC dJ0_checkIndex_df160_8 rfl ?_
    exact g_vret hC rfl (by first | exact Nat.le_of_ble_eq_true rfl | omega | (simp only [gR]; omega)) (by first | exact Nat.le_of_ble_eq_true rfl | omega | (simp only [gR]; omega)) dJ0_checkIndex_df160_9
  | some t =>
    refine g_callSi (As := [.int u, .int m, .ref t]) hC (c_pchkR X.la d b F t u m h1 h2) cl_J0_1059 rfl rfl (Nat.le_of_ble_eq_true rfl) (gFit_of (Nat.le_of_ble_eq_true rfl) (Nat.le_of_ble_eq_true rfl) (by first | exact Nat.le_of_ble_eq_true rfl | omega | (simp only [gR]; omega)) (by first | exact Nat.le_of_ble_eq_true rfl | omega | (simp only [gR]; omega))) dJ0_checkIndex_df160_5 (fun r4 F5 p6 => ?_)
    obtain ⟨rfl, eF5⟩ := p6; have eF5 := eF5.symm; subst eF5
    refine g_pop hC dJ0_checkIndex_df160_8 rfl ?_
    exact g_vret hC rfl (by first | exact Nat.le_of_ble_eq_true rfl | omega | (simp only [gR]; omega)) (by first | exact Nat.le_of_ble_eq_true rfl | omega | (simp only [gR]; omega)) dJ0_checkIndex_df160_9
def gCh (i j : Nat) : Int32 := ((gByt.getD i []).getD j 0 &&& 255).toUInt32 % 65536 |>.toInt32
theorem gCh_nar (i j : Nat) : narrow .char (.int (gCh i j)) = .int (gCh i j) := pk_nc _
theorem dJ1_charAt_3b067_0 : decode cJ1_charAt_3b067 0 = .ok (.iload_n 1, 1) := by decide +kernel
theorem dJ1_charAt_3b067_1 : decode cJ1_charAt_3b067 1 = .ok (.aload_n 0, 1) := by decide +kernel
theorem dJ1_charAt_3b067_2 : decode cJ1_charAt_3b067 2 = .ok (.arraylength, 1) := by decide +kernel
theorem dJ1_charAt_3b067_3 : decode cJ1_charAt_3b067 3 = .ok (.invokestatic 9, 3) := by decide +kernel
theorem dJ1_charAt_3b067_6 : decode cJ1_charAt_3b067 6 = .ok (.aload_n 0, 1) := by decide +kernel
theorem dJ1_charAt_3b067_7 : decode cJ1_charAt_3b067 7 = .ok (.iload_n 1, 1) := by decide +kernel
theorem dJ1_charAt_3b067_8 : decode cJ1_charAt_3b067 8 = .ok (.baload, 1) := by decide +kernel
theorem dJ1_charAt_3b067_9 : decode cJ1_charAt_3b067 9 = .ok (.sipush 255, 3) := by decide +kernel
theorem dJ1_charAt_3b067_12 : decode cJ1_charAt_3b067 12 = .ok (.iand, 1) := by decide +kernel
theorem dJ1_charAt_3b067_13 : decode cJ1_charAt_3b067 13 = .ok (.i2c, 1) := by decide +kernel
theorem dJ1_charAt_3b067_14 : decode cJ1_charAt_3b067 14 = .ok (.ireturn, 1) := by decide +kernel
set_option maxHeartbeats 4000000 in
set_option maxRecDepth 100000 in
theorem c_lcharAt (l : Launch) (d : gD) (b : Nat) (F : gM) (i : Nat) (hi : i < 5) (j : Nat) (hj : j < gLen.getD i 0) (hL : gLen.getD i 0 ≤ 300) : gMi l d b yJ1_charAt_3b067 cJ1_charAt_3b067 2 .char 2 0 0 F [.ref (gSb d i), .int (nI j)] (fun r F' => r = gCh i j ∧ F' = F) := by
  refine gM_of2 rfl (nL := 2) (Nat.le_of_ble_eq_true rfl) ?_
  intro X hX hC; subst hX
  show gG X d b _ F 0 0 0 [some (.ref (gSb d i)), some (.int (nI j))] []
  refine g_iload_n hC dJ1_charAt_3b067_0 rfl ?_
  refine g_aload_n hC dJ1_charAt_3b067_1 rfl ?_
  refine g_slen hC hi dJ1_charAt_3b067_2 ?_
  refine g_callSv (As := [.int (nI j), .int (nI (gLen.getD i 0))]) hC (c_schk X.la d b F (nI j) (nI (gLen.getD i 0)) (nI_pos (by omega)) (nI_lt hj (by omega))) cl_J1_9 rfl rfl (Nat.le_of_ble_eq_true rfl) (gFit_of (Nat.le_of_ble_eq_true rfl) (Nat.le_of_ble_eq_true rfl) (by first | exact Nat.le_of_ble_eq_true rfl | omega | (simp only [gR]; omega)) (by first | exact Nat.le_of_ble_eq_true rfl | omega | (simp only [gR]; omega))) dJ1_charAt_3b067_3 (fun F2 p3 => ?_)
  have eF2 := p3.symm; subst eF2
  refine g_aload_n hC dJ1_charAt_3b067_6 rfl ?_
  refine g_iload_n hC dJ1_charAt_3b067_7 rfl ?_
  refine g_sald hC hi (vp_in_nI hj (by omega)) dJ1_charAt_3b067_8 ?_
  refine g_vi (fun x4 ex4 => ?_)
  refine g_sipush (v := 255) hC dJ1_charAt_3b067_9 rfl ?_
  refine g_iand hC dJ1_charAt_3b067_12 ?_
  refine g_vi (fun x5 ex5 => ?_)
  refine g_i2c hC dJ1_charAt_3b067_13 ?_
  refine g_vi (fun x6 ex6 => ?_)
  have hch : x6 = gCh i j := by subst_vars; rw [nI_clamp (by omega)]; rfl
  exact g_iret hC (by rw [hch]; exact gCh_nar i j) ⟨hch, rfl⟩ (by first | exact Nat.le_of_ble_eq_true rfl | omega | (simp only [gR]; omega)) (by first | exact Nat.le_of_ble_eq_true rfl | omega | (simp only [gR]; omega)) dJ1_charAt_3b067_14
theorem dJ0_charAt_5068e_0 : decode cJ0_charAt_5068e 0 = .ok (.aload_n 0, 1) := by decide +kernel
theorem dJ0_charAt_5068e_1 : decode cJ0_charAt_5068e 1 = .ok (.invokevirtual 492, 3) := by decide +kernel
theorem dJ0_charAt_5068e_4 : decode cJ0_charAt_5068e 4 = .ok (.ifCond .eq 12, 3) := by decide +kernel
theorem dJ0_charAt_5068e_7 : decode cJ0_charAt_5068e 7 = .ok (.aload_n 0, 1) := by decide +kernel
theorem dJ0_charAt_5068e_8 : decode cJ0_charAt_5068e 8 = .ok (.getfield 9, 3) := by decide +kernel
theorem dJ0_charAt_5068e_11 : decode cJ0_charAt_5068e 11 = .ok (.iload_n 1, 1) := by decide +kernel
theorem dJ0_charAt_5068e_12 : decode cJ0_charAt_5068e 12 = .ok (.invokestatic 495, 3) := by decide +kernel
theorem dJ0_charAt_5068e_15 : decode cJ0_charAt_5068e 15 = .ok (.ireturn, 1) := by decide +kernel
theorem dJ0_charAt_5068e_16 : decode cJ0_charAt_5068e 16 = .ok (.aload_n 0, 1) := by decide +kernel
theorem dJ0_charAt_5068e_17 : decode cJ0_charAt_5068e 17 = .ok (.getfield 9, 3) := by decide +kernel
theorem dJ0_charAt_5068e_20 : decode cJ0_charAt_5068e 20 = .ok (.iload_n 1, 1) := by decide +kernel
theorem dJ0_charAt_5068e_21 : decode cJ0_charAt_5068e 21 = .ok (.invokestatic 498, 3) := by decide +kernel
theorem dJ0_charAt_5068e_24 : decode cJ0_charAt_5068e 24 = .ok (.ireturn, 1) := by decide +kernel
set_option maxHeartbeats 4000000 in
set_option maxRecDepth 100000 in
theorem c_charAt (l : Launch) (d : gD) (b : Nat) (F : gM) (i : Nat) (hi : i < 5) (j : Nat) (hj : j < gLen.getD i 0) (hL : gLen.getD i 0 ≤ 300) : gMi l d b yJ0_charAt_5068e cJ0_charAt_5068e 2 .char 3 0 0 F [.ref (gSa d i), .int (nI j)] (fun r F' => r = gCh i j ∧ F' = F) := by
  refine gM_of2 rfl (nL := 2) (Nat.le_of_ble_eq_true rfl) ?_
  intro X hX hC; subst hX
  show gG X d b _ F 0 0 0 [some (.ref (gSa d i)), some (.int (nI j))] []
  refine g_aload_n hC dJ0_charAt_5068e_0 rfl ?_
  refine g_callTi (As := []) hC hi rfl (c_isLatin1 X.la d b F i hi) cl_J0_492 rfl rfl (Nat.le_of_ble_eq_true rfl) (gFit_of (Nat.le_of_ble_eq_true rfl) (Nat.le_of_ble_eq_true rfl) (by first | exact Nat.le_of_ble_eq_true rfl | omega | (simp only [gR]; omega)) (by first | exact Nat.le_of_ble_eq_true rfl | omega | (simp only [gR]; omega))) dJ0_charAt_5068e_1 (fun r1 F2 p3 => ?_)
  obtain ⟨rfl, eF2⟩ := p3; have eF2 := eF2.symm; subst eF2
  refine g_if_eq (tgt := 16) hC dJ0_charAt_5068e_4 (by decide) (fun c4 => ?_) (fun c4 => ?_)
  · exact absurd c4 (by decide)
  · refine g_aload_n hC dJ0_charAt_5068e_7 rfl ?_
    refine g_sval hC hi kw_2967 dJ0_charAt_5068e_8 ?_
    refine g_iload_n hC dJ0_charAt_5068e_11 rfl ?_
    refine g_callSi (As := [.ref (gSb d i), .int (nI j)]) hC (c_lcharAt X.la d b F i hi j hj hL) cl_J0_495 rfl rfl (Nat.le_of_ble_eq_true rfl) (gFit_of (Nat.le_of_ble_eq_true rfl) (Nat.le_of_ble_eq_true rfl) (by first | exact Nat.le_of_ble_eq_true rfl | omega | (simp only [gR]; omega)) (by first | exact Nat.le_of_ble_eq_true rfl | omega | (simp only [gR]; omega))) dJ0_charAt_5068e_12 (fun r5 F6 p7 => ?_)
    obtain ⟨rfl, eF6⟩ := p7; have eF6 := eF6.symm; subst eF6
    exact g_iret hC (gCh_nar i j) ⟨rfl, rfl⟩ (by first | exact Nat.le_of_ble_eq_true rfl | omega | (simp only [gR]; omega)) (by first | exact Nat.le_of_ble_eq_true rfl | omega | (simp only [gR]; omega)) dJ0_charAt_5068e_15
end
